theorem dX8_years_0 : decode cX8_years 0 = .ok (.aload_n 0, 1) := by decide +kernel
theorem dX8_years_1 : decode cX8_years 1 = .ok (.invokevirtual 299, 3) := by decide +kernel
theorem dX8_years_4 : decode cX8_years 4 = .ok (.ifCond .eq 15, 3) := by decide +kernel
theorem dX8_years_19 : decode cX8_years 19 = .ok (.iconst (-1), 1) := by decide +kernel
theorem dX8_years_20 : decode cX8_years 20 = .ok (.ireturn, 1) := by decide +kernel
theorem dX8_status_0 : decode cX8_status 0 = .ok (.iload_n 1, 1) := by decide +kernel
theorem dX8_status_1 : decode cX8_status 1 = .ok (.i2l, 1) := by decide +kernel
theorem dX8_status_2 : decode cX8_status 2 = .ok (.lconst 0, 1) := by decide +kernel
theorem dX8_status_3 : decode cX8_status 3 = .ok (.ldc2_w 373, 3) := by decide +kernel
theorem dX8_status_6 : decode cX8_status 6 = .ok (.invokestatic 60, 3) := by decide +kernel
theorem dX8_status_9 : decode cX8_status 9 = .ok (.ifCond .eq 12, 3) := by decide +kernel
theorem dX8_status_12 : decode cX8_status 12 = .ok (.aload_n 0, 1) := by decide +kernel
theorem dX8_status_13 : decode cX8_status 13 = .ok (.getfield 25, 3) := by decide +kernel
theorem dX8_status_16 : decode cX8_status 16 = .ok (.iload_n 1, 1) := by decide +kernel
theorem dX8_status_17 : decode cX8_status 17 = .ok (.iaload, 1) := by decide +kernel
theorem dX8_status_18 : decode cX8_status 18 = .ok (.goto 4, 3) := by decide +kernel
theorem dX8_status_22 : decode cX8_status 22 = .ok (.ireturn, 1) := by decide +kernel
theorem dX8_status_21 : decode cX8_status 21 = .ok (.iconst (-1), 1) := by decide +kernel
theorem dX8_undo_0 : decode cX8_undo 0 = .ok (.aload_n 0, 1) := by decide +kernel
theorem dX8_undo_1 : decode cX8_undo 1 = .ok (.getfield 205, 3) := by decide +kernel
theorem dX8_undo_4 : decode cX8_undo 4 = .ok (.ifCond .ne 5, 3) := by decide +kernel
theorem dX8_undo_7 : decode cX8_undo 7 = .ok (.iconst (-1), 1) := by decide +kernel
theorem dX8_undo_8 : decode cX8_undo 8 = .ok (.ireturn, 1) := by decide +kernel
theorem dX8_log_0 : decode cX8_log 0 = .ok (.iload_n 1, 1) := by decide +kernel
theorem dX8_log_1 : decode cX8_log 1 = .ok (.i2l, 1) := by decide +kernel
theorem dX8_log_2 : decode cX8_log 2 = .ok (.lconst 0, 1) := by decide +kernel
theorem dX8_log_3 : decode cX8_log 3 = .ok (.aload_n 0, 1) := by decide +kernel
theorem dX8_log_4 : decode cX8_log 4 = .ok (.getfield 22, 3) := by decide +kernel
theorem dX8_log_7 : decode cX8_log 7 = .ok (.bipush 84, 2) := by decide +kernel
theorem dX8_log_9 : decode cX8_log 9 = .ok (.iaload, 1) := by decide +kernel
theorem dX8_log_10 : decode cX8_log 10 = .ok (.iconst 1, 1) := by decide +kernel
theorem dX8_log_11 : decode cX8_log 11 = .ok (.isub, 1) := by decide +kernel
theorem dX8_log_12 : decode cX8_log 12 = .ok (.i2l, 1) := by decide +kernel
theorem dX8_log_13 : decode cX8_log 13 = .ok (.invokestatic 60, 3) := by decide +kernel
theorem dX8_log_16 : decode cX8_log 16 = .ok (.ifCond .eq 41, 3) := by decide +kernel
theorem dX8_log_57 : decode cX8_log 57 = .ok (.ldc 182, 2) := by decide +kernel
theorem dX8_log_59 : decode cX8_log 59 = .ok (.ireturn, 1) := by decide +kernel
theorem dX8_rule_0 : decode cX8_rule 0 = .ok (.aload_n 0, 1) := by decide +kernel
theorem dX8_rule_1 : decode cX8_rule 1 = .ok (.invokevirtual 299, 3) := by decide +kernel
theorem dX8_rule_4 : decode cX8_rule 4 = .ok (.ifCond .eq 15, 3) := by decide +kernel
theorem dX8_rule_19 : decode cX8_rule 19 = .ok (.ldc 182, 2) := by decide +kernel
theorem dX8_rule_21 : decode cX8_rule 21 = .ok (.ireturn, 1) := by decide +kernel
theorem dX8_value_0 : decode cX8_value 0 = .ok (.aload_n 0, 1) := by decide +kernel
theorem dX8_value_1 : decode cX8_value 1 = .ok (.invokevirtual 299, 3) := by decide +kernel
theorem dX8_value_4 : decode cX8_value 4 = .ok (.ifCond .eq 42, 3) := by decide +kernel
theorem dX8_value_46 : decode cX8_value 46 = .ok (.ldc2_w 383, 3) := by decide +kernel
theorem dX8_value_49 : decode cX8_value 49 = .ok (.lreturn, 1) := by decide +kernel
theorem dX8_tells_0 : decode cX8_tells 0 = .ok (.aload_n 0, 1) := by decide +kernel
theorem dX8_tells_1 : decode cX8_tells 1 = .ok (.invokevirtual 299, 3) := by decide +kernel
theorem dX8_tells_4 : decode cX8_tells 4 = .ok (.ifCond .eq 44, 3) := by decide +kernel
theorem dX8_tells_48 : decode cX8_tells 48 = .ok (.iconst 0, 1) := by decide +kernel
theorem dX8_tells_49 : decode cX8_tells 49 = .ok (.ireturn, 1) := by decide +kernel
theorem dX8_all_0 : decode cX8_all 0 = .ok (.aload_n 0, 1) := by decide +kernel
theorem dX8_all_1 : decode cX8_all 1 = .ok (.invokevirtual 299, 3) := by decide +kernel
theorem dX8_all_4 : decode cX8_all 4 = .ok (.ifCond .eq 15, 3) := by decide +kernel
theorem dX8_all_19 : decode cX8_all 19 = .ok (.ldc2_w 383, 3) := by decide +kernel
theorem dX8_all_22 : decode cX8_all 22 = .ok (.lreturn, 1) := by decide +kernel
theorem dX8_count_0 : decode cX8_count 0 = .ok (.aload_n 0, 1) := by decide +kernel
theorem dX8_count_1 : decode cX8_count 1 = .ok (.invokevirtual 299, 3) := by decide +kernel
theorem dX8_count_4 : decode cX8_count 4 = .ok (.ifCond .eq 15, 3) := by decide +kernel
theorem dX8_count_19 : decode cX8_count 19 = .ok (.iconst (-1), 1) := by decide +kernel
theorem dX8_count_20 : decode cX8_count 20 = .ok (.ireturn, 1) := by decide +kernel
theorem dX8_limit_0 : decode cX8_limit 0 = .ok (.aload_n 0, 1) := by decide +kernel
theorem dX8_limit_1 : decode cX8_limit 1 = .ok (.iload_n 1, 1) := by decide +kernel
theorem dX8_limit_2 : decode cX8_limit 2 = .ok (.invokevirtual 278, 3) := by decide +kernel
theorem dX8_limit_5 : decode cX8_limit 5 = .ok (.ifCond .eq 19, 3) := by decide +kernel
theorem dX8_limit_24 : decode cX8_limit 24 = .ok (.iconst (-1), 1) := by decide +kernel
theorem dX8_limit_25 : decode cX8_limit 25 = .ok (.ireturn, 1) := by decide +kernel
theorem dX8_would_0 : decode cX8_would 0 = .ok (.aload_n 0, 1) := by decide +kernel
theorem dX8_would_1 : decode cX8_would 1 = .ok (.iload_n 1, 1) := by decide +kernel
theorem dX8_would_2 : decode cX8_would 2 = .ok (.iload_n 2, 1) := by decide +kernel
theorem dX8_would_3 : decode cX8_would 3 = .ok (.iload_n 3, 1) := by decide +kernel
theorem dX8_would_4 : decode cX8_would 4 = .ok (.invokevirtual 302, 3) := by decide +kernel
theorem dX8_would_7 : decode cX8_would 7 = .ok (.iconst (-1), 1) := by decide +kernel
theorem dX8_would_8 : decode cX8_would 8 = .ok (.if_icmp .ne 16, 3) := by decide +kernel
theorem dX8_would_24 : decode cX8_would 24 = .ok (.iconst (-1), 1) := by decide +kernel
theorem dX8_would_25 : decode cX8_would 25 = .ok (.ireturn, 1) := by decide +kernel
theorem dX8_asked_0 : decode cX8_asked 0 = .ok (.aload_n 0, 1) := by decide +kernel
theorem dX8_asked_1 : decode cX8_asked 1 = .ok (.iload_n 1, 1) := by decide +kernel
theorem dX8_asked_2 : decode cX8_asked 2 = .ok (.iload_n 2, 1) := by decide +kernel
theorem dX8_asked_3 : decode cX8_asked 3 = .ok (.iload_n 3, 1) := by decide +kernel
theorem dX8_asked_4 : decode cX8_asked 4 = .ok (.iconst 1, 1) := by decide +kernel
theorem dX8_asked_5 : decode cX8_asked 5 = .ok (.invokevirtual 399, 3) := by decide +kernel
theorem dX8_asked_8 : decode cX8_asked 8 = .ok (.iconst (-1), 1) := by decide +kernel
theorem dX8_asked_9 : decode cX8_asked 9 = .ok (.if_icmp .ne 7, 3) := by decide +kernel
theorem dX8_asked_12 : decode cX8_asked 12 = .ok (.iconst (-1), 1) := by decide +kernel
theorem dX8_asked_13 : decode cX8_asked 13 = .ok (.goto 31, 3) := by decide +kernel
theorem dX8_asked_44 : decode cX8_asked 44 = .ok (.ireturn, 1) := by decide +kernel
theorem dX8_walk_0 : decode cX8_walk 0 = .ok (.aload_n 0, 1) := by decide +kernel
theorem dX8_walk_1 : decode cX8_walk 1 = .ok (.iload_n 1, 1) := by decide +kernel
theorem dX8_walk_2 : decode cX8_walk 2 = .ok (.iload_n 2, 1) := by decide +kernel
theorem dX8_walk_3 : decode cX8_walk 3 = .ok (.iload_n 3, 1) := by decide +kernel
theorem dX8_walk_4 : decode cX8_walk 4 = .ok (.invokevirtual 302, 3) := by decide +kernel
theorem dX8_walk_7 : decode cX8_walk 7 = .ok (.iconst (-1), 1) := by decide +kernel
theorem dX8_walk_8 : decode cX8_walk 8 = .ok (.if_icmp .ne 29, 3) := by decide +kernel
theorem dX8_walk_37 : decode cX8_walk 37 = .ok (.iconst (-1), 1) := by decide +kernel
theorem dX8_walk_38 : decode cX8_walk 38 = .ok (.ireturn, 1) := by decide +kernel
theorem dX8_partner_0 : decode cX8_partner 0 = .ok (.aload_n 0, 1) := by decide +kernel
theorem dX8_partner_1 : decode cX8_partner 1 = .ok (.iload_n 1, 1) := by decide +kernel
theorem dX8_partner_2 : decode cX8_partner 2 = .ok (.iload_n 2, 1) := by decide +kernel
theorem dX8_partner_3 : decode cX8_partner 3 = .ok (.iload_n 3, 1) := by decide +kernel
theorem dX8_partner_4 : decode cX8_partner 4 = .ok (.invokevirtual 302, 3) := by decide +kernel
theorem dX8_partner_7 : decode cX8_partner 7 = .ok (.iconst (-1), 1) := by decide +kernel
theorem dX8_partner_8 : decode cX8_partner 8 = .ok (.if_icmp .eq 5, 3) := by decide +kernel
theorem dX8_partner_11 : decode cX8_partner 11 = .ok (.iconst (-1), 1) := by decide +kernel
theorem dX8_partner_12 : decode cX8_partner 12 = .ok (.ireturn, 1) := by decide +kernel
theorem dX8_race_0 : decode cX8_race 0 = .ok (.aload_n 0, 1) := by decide +kernel
theorem dX8_race_1 : decode cX8_race 1 = .ok (.invokevirtual 299, 3) := by decide +kernel
theorem dX8_race_4 : decode cX8_race 4 = .ok (.ifCond .eq 21, 3) := by decide +kernel
theorem dX8_race_25 : decode cX8_race 25 = .ok (.iconst (-1), 1) := by decide +kernel
theorem dX8_race_26 : decode cX8_race 26 = .ok (.ireturn, 1) := by decide +kernel
theorem dX8_needs_0 : decode cX8_needs 0 = .ok (.aload_n 0, 1) := by decide +kernel
theorem dX8_needs_1 : decode cX8_needs 1 = .ok (.iload_n 1, 1) := by decide +kernel
theorem dX8_needs_2 : decode cX8_needs 2 = .ok (.iload_n 2, 1) := by decide +kernel
theorem dX8_needs_3 : decode cX8_needs 3 = .ok (.iload_n 3, 1) := by decide +kernel
theorem dX8_needs_4 : decode cX8_needs 4 = .ok (.invokevirtual 302, 3) := by decide +kernel
theorem dX8_needs_7 : decode cX8_needs 7 = .ok (.iconst (-1), 1) := by decide +kernel
theorem dX8_needs_8 : decode cX8_needs 8 = .ok (.if_icmp .ne 36, 3) := by decide +kernel
theorem dX8_needs_44 : decode cX8_needs 44 = .ok (.ldc2_w 383, 3) := by decide +kernel
theorem dX8_needs_47 : decode cX8_needs 47 = .ok (.lreturn, 1) := by decide +kernel
theorem dX8_span_0 : decode cX8_span 0 = .ok (.aload_n 0, 1) := by decide +kernel
theorem dX8_span_1 : decode cX8_span 1 = .ok (.iload_n 1, 1) := by decide +kernel
theorem dX8_span_2 : decode cX8_span 2 = .ok (.invokevirtual 278, 3) := by decide +kernel
theorem dX8_span_5 : decode cX8_span 5 = .ok (.ifCond .eq 21, 3) := by decide +kernel
theorem dX8_span_26 : decode cX8_span 26 = .ok (.ldc 182, 2) := by decide +kernel
theorem dX8_span_28 : decode cX8_span 28 = .ok (.ireturn, 1) := by decide +kernel
theorem dX8_goes_0 : decode cX8_goes 0 = .ok (.aload_n 0, 1) := by decide +kernel
theorem dX8_goes_1 : decode cX8_goes 1 = .ok (.iload_n 1, 1) := by decide +kernel
theorem dX8_goes_2 : decode cX8_goes 2 = .ok (.invokevirtual 278, 3) := by decide +kernel
theorem dX8_goes_5 : decode cX8_goes 5 = .ok (.ifCond .eq 20, 3) := by decide +kernel
theorem dX8_goes_25 : decode cX8_goes 25 = .ok (.iconst (-1), 1) := by decide +kernel
theorem dX8_goes_26 : decode cX8_goes 26 = .ok (.ireturn, 1) := by decide +kernel
theorem dX8_fair_0 : decode cX8_fair 0 = .ok (.aload_n 0, 1) := by decide +kernel
theorem dX8_fair_1 : decode cX8_fair 1 = .ok (.invokevirtual 299, 3) := by decide +kernel
theorem dX8_fair_4 : decode cX8_fair 4 = .ok (.ifCond .eq 13, 3) := by decide +kernel
theorem dX8_fair_17 : decode cX8_fair 17 = .ok (.iconst (-1), 1) := by decide +kernel
theorem dX8_fair_18 : decode cX8_fair 18 = .ok (.ireturn, 1) := by decide +kernel
theorem dX8_spell_0 : decode cX8_spell 0 = .ok (.aload_n 0, 1) := by decide +kernel
theorem dX8_spell_1 : decode cX8_spell 1 = .ok (.iload_n 1, 1) := by decide +kernel
theorem dX8_spell_2 : decode cX8_spell 2 = .ok (.invokevirtual 278, 3) := by decide +kernel
theorem dX8_spell_5 : decode cX8_spell 5 = .ok (.ifCond .ne 5, 3) := by decide +kernel
theorem dX8_spell_8 : decode cX8_spell 8 = .ok (.iconst (-1), 1) := by decide +kernel
theorem dX8_spell_9 : decode cX8_spell 9 = .ok (.ireturn, 1) := by decide +kernel
theorem dX8_step__0 : decode cX8_step_ 0 = .ok (.aload_n 0, 1) := by decide +kernel
theorem dX8_step__1 : decode cX8_step_ 1 = .ok (.iload_n 1, 1) := by decide +kernel
theorem dX8_step__2 : decode cX8_step_ 2 = .ok (.invokevirtual 432, 3) := by decide +kernel
theorem dX8_step__5 : decode cX8_step_ 5 = .ok (.ifCond .eq 51, 3) := by decide +kernel
theorem dX8_step__56 : decode cX8_step_ 56 = .ok (.ldc 182, 2) := by decide +kernel
theorem dX8_step__58 : decode cX8_step_ 58 = .ok (.ireturn, 1) := by decide +kernel
theorem dX8_run_0 : decode cX8_run 0 = .ok (.aload_n 0, 1) := by decide +kernel
theorem dX8_run_1 : decode cX8_run 1 = .ok (.iload_n 1, 1) := by decide +kernel
theorem dX8_run_2 : decode cX8_run 2 = .ok (.invokevirtual 432, 3) := by decide +kernel
theorem dX8_run_5 : decode cX8_run 5 = .ok (.ifCond .eq 20, 3) := by decide +kernel
theorem dX8_run_25 : decode cX8_run 25 = .ok (.ldc 182, 2) := by decide +kernel
theorem dX8_run_27 : decode cX8_run 27 = .ok (.ireturn, 1) := by decide +kernel
theorem dX8_perform_0 : decode cX8_perform 0 = .ok (.aload_n 0, 1) := by decide +kernel
theorem dX8_perform_1 : decode cX8_perform 1 = .ok (.iload_n 1, 1) := by decide +kernel
theorem dX8_perform_2 : decode cX8_perform 2 = .ok (.invokevirtual 432, 3) := by decide +kernel
theorem dX8_perform_5 : decode cX8_perform 5 = .ok (.ifCond .eq 19, 3) := by decide +kernel
theorem dX8_perform_24 : decode cX8_perform 24 = .ok (.iconst (-1), 1) := by decide +kernel
theorem dX8_perform_25 : decode cX8_perform 25 = .ok (.ireturn, 1) := by decide +kernel
theorem dX8_most_0 : decode cX8_most 0 = .ok (.aload_n 0, 1) := by decide +kernel
theorem dX8_most_1 : decode cX8_most 1 = .ok (.invokevirtual 299, 3) := by decide +kernel
theorem dX8_most_4 : decode cX8_most 4 = .ok (.ifCond .eq 15, 3) := by decide +kernel
theorem dX8_most_19 : decode cX8_most 19 = .ok (.ldc 182, 2) := by decide +kernel
theorem dX8_most_21 : decode cX8_most 21 = .ok (.ireturn, 1) := by decide +kernel
theorem dX8_image_0 : decode cX8_image 0 = .ok (.aload_n 0, 1) := by decide +kernel
theorem dX8_image_1 : decode cX8_image 1 = .ok (.invokevirtual 299, 3) := by decide +kernel
theorem dX8_image_4 : decode cX8_image 4 = .ok (.ifCond .ne 5, 3) := by decide +kernel
theorem dX8_image_7 : decode cX8_image 7 = .ok (.iconst (-1), 1) := by decide +kernel
theorem dX8_image_8 : decode cX8_image 8 = .ok (.ireturn, 1) := by decide +kernel
theorem dX8_back_0 : decode cX8_back 0 = .ok (.aload_n 0, 1) := by decide +kernel
theorem dX8_back_1 : decode cX8_back 1 = .ok (.getfield 208, 3) := by decide +kernel
theorem dX8_back_4 : decode cX8_back 4 = .ok (.ifCond .ne 5, 3) := by decide +kernel
theorem dX8_back_7 : decode cX8_back 7 = .ok (.iconst (-1), 1) := by decide +kernel
theorem dX8_back_8 : decode cX8_back 8 = .ok (.ireturn, 1) := by decide +kernel
theorem dX8_held_0 : decode cX8_held 0 = .ok (.iload_n 1, 1) := by decide +kernel
theorem dX8_held_1 : decode cX8_held 1 = .ok (.tableswitch 63 0 4 #[35, 40, 45, 50, 58], 35) := by decide +kernel
theorem dX8_held_36 : decode cX8_held 36 = .ok (.aload_n 0, 1) := by decide +kernel
theorem dX8_held_37 : decode cX8_held 37 = .ok (.getfield 196, 3) := by decide +kernel
theorem dX8_held_40 : decode cX8_held 40 = .ok (.ireturn, 1) := by decide +kernel
theorem dX8_held_41 : decode cX8_held 41 = .ok (.aload_n 0, 1) := by decide +kernel
theorem dX8_held_42 : decode cX8_held 42 = .ok (.getfield 215, 3) := by decide +kernel
theorem dX8_held_45 : decode cX8_held 45 = .ok (.ireturn, 1) := by decide +kernel
theorem dX8_held_46 : decode cX8_held 46 = .ok (.aload_n 0, 1) := by decide +kernel
theorem dX8_held_47 : decode cX8_held 47 = .ok (.getfield 57, 3) := by decide +kernel
theorem dX8_held_50 : decode cX8_held 50 = .ok (.ireturn, 1) := by decide +kernel
theorem dX8_held_51 : decode cX8_held 51 = .ok (.aload_n 0, 1) := by decide +kernel
theorem dX8_held_52 : decode cX8_held 52 = .ok (.getfield 22, 3) := by decide +kernel
theorem dX8_held_55 : decode cX8_held 55 = .ok (.bipush 84, 2) := by decide +kernel
theorem dX8_held_57 : decode cX8_held 57 = .ok (.iaload, 1) := by decide +kernel
theorem dX8_held_58 : decode cX8_held 58 = .ok (.ireturn, 1) := by decide +kernel
theorem dX8_held_59 : decode cX8_held 59 = .ok (.aload_n 0, 1) := by decide +kernel
theorem dX8_held_60 : decode cX8_held 60 = .ok (.getfield 205, 3) := by decide +kernel
theorem dX8_held_63 : decode cX8_held 63 = .ok (.ireturn, 1) := by decide +kernel
theorem dX8_held_64 : decode cX8_held 64 = .ok (.ldc 182, 2) := by decide +kernel
theorem dX8_held_66 : decode cX8_held 66 = .ok (.ireturn, 1) := by decide +kernel
theorem dX8_thrown_0 : decode cX8_thrown 0 = .ok (.aload_n 0, 1) := by decide +kernel
theorem dX8_thrown_1 : decode cX8_thrown 1 = .ok (.getfield 49, 3) := by decide +kernel
theorem dX8_thrown_4 : decode cX8_thrown 4 = .ok (.ireturn, 1) := by decide +kernel
def v_d_years : List Cond := .code yX8_years cX8_years 5 (some .int) :: ([.methodLink RX8 299 yX8_isWatch, .instanceMethod yX8_isWatch, .selects RX8 yX8_isWatch yX8_isWatch, .initialized RX8] ++ (v_d_isWatch ++ ([])))
theorem gw_d_years : v_d_years.all goodWord = true := by decide +kernel
theorem g_d_years_d_isWatch_299 : GoodIn v_d_years (wsV RX8 299 RX8 yX8_isWatch v_d_isWatch) := goodIn_app (goodIn_of _ (by decide +kernel)) (goodIn_sub (fun _ h => List.mem_cons_of_mem _ (List.mem_append_right _ (List.mem_append_left _ h))) gw_d_isWatch)
set_option maxHeartbeats 4000000 in
set_option maxRecDepth 100000 in
theorem d_years (l : Launch) (E : EE) (mo m_tape m_readPlace m_script m_scriptLong m_now m_refused m_shareX m_shareY m_askedRow m_kept m_aside m_spelled m_image : Nat) (p0 : Int32) (p1 : Int64) : Met l yX8_years v_d_years ({ frames := 1, cells := 0, slots := 0, locals := 20 }) (va_Pc [.ref mo, .int p0, .long p1] (pP E [(mo, .inr (9, [.int 0, .ref m_tape, .int 0, .int 0, .int 0, .int 0, .int 0, .int 0, .long 0, .int 0, .int 0, .int 0, .int 0, .ref m_readPlace, .ref m_script, .ref m_scriptLong, .int 0, .ref m_now, .ref m_refused, .int 0, .ref m_shareX, .ref m_shareY, .int 0, .int 0, .ref m_askedRow, .int 0, .ref m_kept, .int 0, .long 0, .ref m_aside, .int 0, .int 0, .ref m_spelled, .int 0, .ref m_image, .int 0]))])) (vp_Si (fun r => r = -1)) 0 0 (fun _ => False) := by
  refine Met.ofW (cc := cX8_years) (maxL := 5) (ret := (some .int)) (by decide) rfl ?_
  intro p e s m args below meth c s₁ B hml hv
  obtain ⟨rfl, ⟨hK, hN⟩, hP⟩ := hv
  have hx := B.exec
  have hb := B.bytes
  have hr := B.returns
  have hts := atoms_spec (ws := v_d_years) B.pre
  have hown : s.vm.findClass RX8 = some m.cls := findClass_of_methodNamed B.named
  have hlocks := B.notSynchronized
  have hP : va_P E.1 vwCl [(mo, .inr (9, [.int 0, .ref m_tape, .int 0, .int 0, .int 0, .int 0, .int 0, .int 0, .long 0, .int 0, .int 0, .int 0, .int 0, .ref m_readPlace, .ref m_script, .ref m_scriptLong, .int 0, .ref m_now, .ref m_refused, .int 0, .ref m_shareX, .ref m_shareY, .int 0, .int 0, .ref m_askedRow, .int 0, .ref m_kept, .int 0, .long 0, .ref m_aside, .int 0, .int 0, .ref m_spelled, .int 0, .ref m_image, .int 0]))] s.heap := hP
  have hl := lv_entry ([.ref mo, .int p0, .long p1]) (n := 5) (Nat.le_of_ble_eq_true rfl)
  rw [lg_entry_eq]
  generalize (lg_sl ([.ref mo, .int p0, .long p1]) ++ List.replicate (5 - (lg_sl ([.ref mo, .int p0, .long p1])).length) Slot.unset).toArray = ls at hl ⊢
  have hl : lv_has ls 5 [(0, .ref mo), (1, .int p0), (2, .long p1)] := hl
  refine lv_aload_n hx hb dX8_years_0 rfl (lv_at hl 0 rfl) ?_
  have hPc := hP.sub (ws' := [(mo, .inr (9, [.int 0, .ref m_tape, .int 0, .int 0, .int 0, .int 0, .int 0, .int 0, .long 0, .int 0, .int 0, .int 0, .int 0, .ref m_readPlace, .ref m_script, .ref m_scriptLong, .int 0, .ref m_now, .ref m_refused, .int 0, .ref m_shareX, .ref m_shareY, .int 0, .int 0, .ref m_askedRow, .int 0, .ref m_kept, .int 0, .long 0, .ref m_aside, .int 0, .int 0, .ref m_spelled, .int 0, .ref m_image, .int 0]))]) [0] rfl
  refine pc_i (va_runV (As := []) (rest := []) ⟨hx, hb, hml, hown, hts⟩ (d_isWatch l E mo m_tape m_readPlace m_script m_scriptLong m_now m_refused m_shareX m_shareY m_askedRow m_kept m_aside m_spelled m_image) (cwV 0 hts g_d_years_d_isWatch_299 rfl rfl rfl (by decide +kernel) ⟨Nat.le_of_ble_eq_true rfl, Nat.le_of_ble_eq_true rfl⟩) ⟨pP.blind, va_recv hK hPc (ci := 9) (q0 := 0) rfl rfl, (pP.pre ⟨hK, hN⟩ hPc)⟩ rfl rfl hl.1 rfl (lv_room (Nat.le_of_ble_eq_true rfl)) dX8_years_1 ⟨Nat.le_of_ble_eq_true rfl, Nat.le_of_ble_eq_true rfl⟩) (fun r_1 hr_1 => ?_)
  obtain rfl : r_1 = 0 := hr_1
  refine lv_if_eq (tgt := 19) hx hb dX8_years_4 (by decide) (fun _ => ?_) (fun q => absurd (by decide) q)
  refine lv_iconst (v := -1) hx hb dX8_years_19 (by decide) ?_
  exact W.iret (v := -1) hx hb hr (fun tt ht hW => ⟨_, rfl, rfl, ht⟩) (fun _ h => by cases h) dX8_years_20

def v_d_status : List Cond := .code yX8_status cX8_status 2 (some .int) :: ([.constantLong RX8 373 (2), .fieldLink RX8 25 "HushWatchModel" "refused" "[I", .methodLink RX8 60 yX8_in, .static yX8_in, .initialized RX8] ++ (v_d_in ++ (wsX80 ++ ([]))))
theorem gw_d_status : v_d_status.all goodWord = true := by decide +kernel
theorem i_d_status_X8 : ∀ w ∈ wsX80, w ∈ v_d_status := fun _ h => List.mem_cons_of_mem _ (List.mem_append_right _ (List.mem_append_right _ (List.mem_append_left _ h)))
theorem g_d_status_d_in_60 : GoodIn v_d_status (va_wsS RX8 60 yX8_in v_d_in) := goodIn_app (goodIn_of _ (by decide +kernel)) (goodIn_sub (fun _ h => List.mem_cons_of_mem _ (List.mem_append_right _ (List.mem_append_left _ h))) gw_d_in)
set_option maxHeartbeats 4000000 in
set_option maxRecDepth 100000 in
theorem d_status (l : Launch) (E : EE) (mo m_tape m_readPlace m_script m_scriptLong m_now m_refused m_shareX m_shareY m_askedRow m_kept m_aside m_spelled m_image : Nat) (p0 : Int32) : Met l yX8_status v_d_status ({ frames := 1, cells := 0, slots := 0, locals := 25 }) (va_Pc [.ref mo, .int p0] (pP E [(mo, .inr (9, [.int 0, .ref m_tape, .int 0, .int 0, .int 0, .int 0, .int 0, .int 0, .long 0, .int 0, .int 0, .int 0, .int 0, .ref m_readPlace, .ref m_script, .ref m_scriptLong, .int 0, .ref m_now, .ref m_refused, .int 0, .ref m_shareX, .ref m_shareY, .int 0, .int 0, .ref m_askedRow, .int 0, .ref m_kept, .int 0, .long 0, .ref m_aside, .int 0, .int 0, .ref m_spelled, .int 0, .ref m_image, .int 0])), (m_refused, .inl (E.2.1, 3, .inl (fun _ => 0)))])) (vp_Si (fun r => r = statv p0)) 0 0 (fun _ => False) := by
  refine Met.ofW (cc := cX8_status) (maxL := 2) (ret := (some .int)) (by decide) rfl ?_
  intro p e s m args below meth c s₁ B hml hv
  obtain ⟨rfl, ⟨hK, hN⟩, hP⟩ := hv
  have hx := B.exec
  have hb := B.bytes
  have hr := B.returns
  have hts := atoms_spec (ws := v_d_status) B.pre
  have hown : s.vm.findClass RX8 = some m.cls := findClass_of_methodNamed B.named
  have hlocks := B.notSynchronized
  have hP : va_P E.1 vwCl [(mo, .inr (9, [.int 0, .ref m_tape, .int 0, .int 0, .int 0, .int 0, .int 0, .int 0, .long 0, .int 0, .int 0, .int 0, .int 0, .ref m_readPlace, .ref m_script, .ref m_scriptLong, .int 0, .ref m_now, .ref m_refused, .int 0, .ref m_shareX, .ref m_shareY, .int 0, .int 0, .ref m_askedRow, .int 0, .ref m_kept, .int 0, .long 0, .ref m_aside, .int 0, .int 0, .ref m_spelled, .int 0, .ref m_image, .int 0])), (m_refused, .inl (E.2.1, 3, .inl (fun _ => 0)))] s.heap := hP
  have hl := lv_entry ([.ref mo, .int p0]) (n := 2) (Nat.le_of_ble_eq_true rfl)
  rw [lg_entry_eq]
  generalize (lg_sl ([.ref mo, .int p0]) ++ List.replicate (2 - (lg_sl ([.ref mo, .int p0])).length) Slot.unset).toArray = ls at hl ⊢
  have hl : lv_has ls 2 [(0, .ref mo), (1, .int p0)] := hl
  refine lv_iload_n hx hb dX8_status_0 rfl (lv_at hl 1 rfl) ?_
  refine lv_i2l (v := p0.toInt64) hx hb dX8_status_1 rfl ?_
  refine lv_lconst (v := 0) hx hb dX8_status_2 (by decide) ?_
  refine lv_ldc2 (v := 2) hx hb hown (hts (.constantLong RX8 373 (2)) (List.mem_of_getElem? (i := 1) rfl)) dX8_status_3 ?_
  have hPc : va_P E.1 vwCl [] s.heap := fun k q h => by simp at h
  refine pc_i (va_runS (As := [.long p0.toInt64, .long 0, .long 2]) (rest := []) ⟨hx, hb, hml, hown, hts⟩ (d_in l E p0.toInt64 0 2) (va_cwS 3 hts g_d_status_d_in_60 rfl rfl rfl (by decide +kernel) ⟨Nat.le_of_ble_eq_true rfl, Nat.le_of_ble_eq_true rfl⟩) ⟨pP.blind, (pP.pre ⟨hK, hN⟩ hPc)⟩ rfl rfl hl.1 rfl (lv_room (Nat.le_of_ble_eq_true rfl)) dX8_status_6 ⟨Nat.le_of_ble_eq_true rfl, Nat.le_of_ble_eq_true rfl⟩) (fun r_1 hr_1 => ?_)
  rcases Classical.em (0 ≤ p0.toInt64 ∧ p0.toInt64 ≤ 2) with k_2 | k_2
  ·
    obtain rfl : r_1 = 1 := hr_1.trans (if_pos k_2)
    refine lv_if_eq (tgt := 21) hx hb dX8_status_9 (by decide) (fun q => absurd q (by decide)) (fun _ => ?_)
    refine lv_aload_n hx hb dX8_status_12 rfl (lv_at hl 0 rfl) ?_
    refine va_get (D := E.1) (ci := 9) (v := .ref m_refused) (C := RX8) (T := TX8) (N := 36) hx hb hts i_d_status_X8 hown hK hP 0 rfl rfl 18 (by decide) (hts (.fieldLink RX8 25 "HushWatchModel" "refused" "[I") (List.mem_of_getElem? (i := 2) rfl)) (fun _ h9 => h9) rfl dX8_status_13 ?_
    refine lv_iload_n hx hb dX8_status_16 rfl (lv_at hl 1 rfl) ?_
    refine va_iald hx hb hK hP 1 0 rfl rfl (vin_64 k_2 (by decide) (by decide)) dX8_status_17 ?_
    refine W.eq (g2 := F0 m 18 ls [.int 0]) rfl ?_
    refine lv_goto (tgt := 22) hx hb dX8_status_18 (by decide) ?_
    exact W.iret (v := 0) hx hb hr (fun tt ht hW => ⟨_, rfl, (by have u0 : (0 : Int64).toInt = 0 := (by decide); have u1 : (2 : Int64).toInt = 2 := (by decide); simp only [Int32.lt_iff_toInt_lt, Int32.le_iff_toInt_le, ge_iff_le, gt_iff_lt, ne_eq, ← Int32.toInt_inj, Int64.le_iff_toInt_le, Int64.lt_iff_toInt_lt, Int32.toInt_toInt64, u0, u1] at k_2; unfold statv; rw [if_pos (by omega)]), ht⟩) (fun _ h => by cases h) dX8_status_22
  ·
    obtain rfl : r_1 = 0 := hr_1.trans (if_neg k_2)
    refine lv_if_eq (tgt := 21) hx hb dX8_status_9 (by decide) (fun _ => ?_) (fun q => absurd (by decide) q)
    refine lv_iconst (v := -1) hx hb dX8_status_21 (by decide) ?_
    exact W.iret (v := -1) hx hb hr (fun tt ht hW => ⟨_, rfl, (by have u0 : (0 : Int64).toInt = 0 := (by decide); have u1 : (2 : Int64).toInt = 2 := (by decide); simp only [Int32.lt_iff_toInt_lt, Int32.le_iff_toInt_le, ge_iff_le, gt_iff_lt, ne_eq, ← Int32.toInt_inj, Int64.le_iff_toInt_le, Int64.lt_iff_toInt_lt, Int32.toInt_toInt64, u0, u1] at k_2; unfold statv; rw [if_neg (by omega)]), ht⟩) (fun _ h => by cases h) dX8_status_22

def v_d_undo : List Cond := .code yX8_undo cX8_undo 2 (some .int) :: ([.fieldLink RX8 205 "HushWatchModel" "acts" "I"] ++ (wsX80 ++ ([])))
theorem gw_d_undo : v_d_undo.all goodWord = true := by decide +kernel
theorem i_d_undo_X8 : ∀ w ∈ wsX80, w ∈ v_d_undo := fun _ h => List.mem_cons_of_mem _ (List.mem_append_right _ (List.mem_append_left _ h))
set_option maxHeartbeats 4000000 in
set_option maxRecDepth 100000 in
theorem d_undo (l : Launch) (E : EE) (mo m_tape m_readPlace m_script m_scriptLong m_now m_refused m_shareX m_shareY m_askedRow m_kept m_aside m_spelled m_image : Nat) : Met l yX8_undo v_d_undo ({ frames := 0, cells := 0, slots := 0, locals := 0 }) (va_Pc [.ref mo] (pP E [(mo, .inr (9, [.int 0, .ref m_tape, .int 0, .int 0, .int 0, .int 0, .int 0, .int 0, .long 0, .int 0, .int 0, .int 0, .int 0, .ref m_readPlace, .ref m_script, .ref m_scriptLong, .int 0, .ref m_now, .ref m_refused, .int 0, .ref m_shareX, .ref m_shareY, .int 0, .int 0, .ref m_askedRow, .int 0, .ref m_kept, .int 0, .long 0, .ref m_aside, .int 0, .int 0, .ref m_spelled, .int 0, .ref m_image, .int 0]))])) (vp_Si (fun r => r = -1)) 0 0 (fun _ => False) := by
  refine Met.ofW (cc := cX8_undo) (maxL := 2) (ret := (some .int)) (by decide) rfl ?_
  intro p e s m args below meth c s₁ B hml hv
  obtain ⟨rfl, ⟨hK, hN⟩, hP⟩ := hv
  have hx := B.exec
  have hb := B.bytes
  have hr := B.returns
  have hts := atoms_spec (ws := v_d_undo) B.pre
  have hown : s.vm.findClass RX8 = some m.cls := findClass_of_methodNamed B.named
  have hlocks := B.notSynchronized
  have hP : va_P E.1 vwCl [(mo, .inr (9, [.int 0, .ref m_tape, .int 0, .int 0, .int 0, .int 0, .int 0, .int 0, .long 0, .int 0, .int 0, .int 0, .int 0, .ref m_readPlace, .ref m_script, .ref m_scriptLong, .int 0, .ref m_now, .ref m_refused, .int 0, .ref m_shareX, .ref m_shareY, .int 0, .int 0, .ref m_askedRow, .int 0, .ref m_kept, .int 0, .long 0, .ref m_aside, .int 0, .int 0, .ref m_spelled, .int 0, .ref m_image, .int 0]))] s.heap := hP
  have hl := lv_entry ([.ref mo]) (n := 2) (Nat.le_of_ble_eq_true rfl)
  rw [lg_entry_eq]
  generalize (lg_sl ([.ref mo]) ++ List.replicate (2 - (lg_sl ([.ref mo])).length) Slot.unset).toArray = ls at hl ⊢
  have hl : lv_has ls 2 [(0, .ref mo)] := hl
  refine lv_aload_n hx hb dX8_undo_0 rfl (lv_at hl 0 rfl) ?_
  refine va_get (D := E.1) (ci := 9) (v := .int 0) (C := RX8) (T := TX8) (N := 36) hx hb hts i_d_undo_X8 hown hK hP 0 rfl rfl 27 (by decide) (hts (.fieldLink RX8 205 "HushWatchModel" "acts" "I") (List.mem_of_getElem? (i := 1) rfl)) (fun _ h9 => h9) rfl dX8_undo_1 ?_
  refine lv_if_ne (tgt := 9) hx hb dX8_undo_4 (by decide) (fun q => absurd (by decide) q) (fun _ => ?_)
  refine lv_iconst (v := -1) hx hb dX8_undo_7 (by decide) ?_
  exact W.iret (v := -1) hx hb hr (fun tt ht hW => ⟨_, rfl, rfl, ht⟩) (fun _ h => by cases h) dX8_undo_8

def v_d_log : List Cond := .code yX8_log cX8_log 3 (some .int) :: ([.fieldLink RX8 22 "HushWatchModel" "now" "[I", .constant RX8 182 (-100000000), .methodLink RX8 60 yX8_in, .static yX8_in, .initialized RX8] ++ (wsX80 ++ (v_d_in ++ ([]))))
theorem gw_d_log : v_d_log.all goodWord = true := by decide +kernel
theorem i_d_log_X8 : ∀ w ∈ wsX80, w ∈ v_d_log := fun _ h => List.mem_cons_of_mem _ (List.mem_append_right _ (List.mem_append_left _ h))
theorem g_d_log_d_in_60 : GoodIn v_d_log (va_wsS RX8 60 yX8_in v_d_in) := goodIn_app (goodIn_of _ (by decide +kernel)) (goodIn_sub (fun _ h => List.mem_cons_of_mem _ (List.mem_append_right _ (List.mem_append_right _ (List.mem_append_left _ h)))) gw_d_in)
set_option maxHeartbeats 4000000 in
set_option maxRecDepth 100000 in
theorem d_log (l : Launch) (E : EE) (mo m_tape m_readPlace m_script m_scriptLong m_now m_refused m_shareX m_shareY m_askedRow m_kept m_aside m_spelled m_image : Nat) (p0 p1 : Int32) : Met l yX8_log v_d_log ({ frames := 1, cells := 0, slots := 0, locals := 25 }) (va_Pc [.ref mo, .int p0, .int p1] (pP E [(mo, .inr (9, [.int 0, .ref m_tape, .int 0, .int 0, .int 0, .int 0, .int 0, .int 0, .long 0, .int 0, .int 0, .int 0, .int 0, .ref m_readPlace, .ref m_script, .ref m_scriptLong, .int 0, .ref m_now, .ref m_refused, .int 0, .ref m_shareX, .ref m_shareY, .int 0, .int 0, .ref m_askedRow, .int 0, .ref m_kept, .int 0, .long 0, .ref m_aside, .int 0, .int 0, .ref m_spelled, .int 0, .ref m_image, .int 0])), (m_now, .inl (E.2.1, 265, .inl (fun _ => 0)))])) (vp_Si (fun r => r = -100000000)) 0 0 (fun _ => False) := by
  refine Met.ofW (cc := cX8_log) (maxL := 3) (ret := (some .int)) (by decide) rfl ?_
  intro p e s m args below meth c s₁ B hml hv
  obtain ⟨rfl, ⟨hK, hN⟩, hP⟩ := hv
  have hx := B.exec
  have hb := B.bytes
  have hr := B.returns
  have hts := atoms_spec (ws := v_d_log) B.pre
  have hown : s.vm.findClass RX8 = some m.cls := findClass_of_methodNamed B.named
  have hlocks := B.notSynchronized
  have hP : va_P E.1 vwCl [(mo, .inr (9, [.int 0, .ref m_tape, .int 0, .int 0, .int 0, .int 0, .int 0, .int 0, .long 0, .int 0, .int 0, .int 0, .int 0, .ref m_readPlace, .ref m_script, .ref m_scriptLong, .int 0, .ref m_now, .ref m_refused, .int 0, .ref m_shareX, .ref m_shareY, .int 0, .int 0, .ref m_askedRow, .int 0, .ref m_kept, .int 0, .long 0, .ref m_aside, .int 0, .int 0, .ref m_spelled, .int 0, .ref m_image, .int 0])), (m_now, .inl (E.2.1, 265, .inl (fun _ => 0)))] s.heap := hP
  have hl := lv_entry ([.ref mo, .int p0, .int p1]) (n := 3) (Nat.le_of_ble_eq_true rfl)
  rw [lg_entry_eq]
  generalize (lg_sl ([.ref mo, .int p0, .int p1]) ++ List.replicate (3 - (lg_sl ([.ref mo, .int p0, .int p1])).length) Slot.unset).toArray = ls at hl ⊢
  have hl : lv_has ls 3 [(0, .ref mo), (1, .int p0), (2, .int p1)] := hl
  refine lv_iload_n hx hb dX8_log_0 rfl (lv_at hl 1 rfl) ?_
  refine lv_i2l (v := p0.toInt64) hx hb dX8_log_1 rfl ?_
  refine lv_lconst (v := 0) hx hb dX8_log_2 (by decide) ?_
  refine lv_aload_n hx hb dX8_log_3 rfl (lv_at hl 0 rfl) ?_
  refine va_get (D := E.1) (ci := 9) (v := .ref m_now) (C := RX8) (T := TX8) (N := 36) hx hb hts i_d_log_X8 hown hK hP 0 rfl rfl 17 (by decide) (hts (.fieldLink RX8 22 "HushWatchModel" "now" "[I") (List.mem_of_getElem? (i := 1) rfl)) (fun _ h9 => h9) rfl dX8_log_4 ?_
  refine lv_bipush (v := 84) hx hb dX8_log_7 (by decide) ?_
  refine va_iald hx hb hK hP 1 0 rfl rfl (vin rfl) dX8_log_9 ?_
  refine W.eq (g2 := F0 m 10 ls [.int 0, .long 0, .long p0.toInt64]) rfl ?_
  refine lv_iconst (v := 1) hx hb dX8_log_10 (by decide) ?_
  refine lv_isub hx hb dX8_log_11 ?_
  refine lv_topi (fun z_1 ez_1 => ?_)
  obtain rfl : z_1 = -1 := ez_1.trans (by decide)
  refine lv_i2l (v := -1) hx hb dX8_log_12 (by decide) ?_
  have hPc : va_P E.1 vwCl [] s.heap := fun k q h => by simp at h
  refine pc_i (va_runS (As := [.long p0.toInt64, .long 0, .long (-1)]) (rest := []) ⟨hx, hb, hml, hown, hts⟩ (d_in l E p0.toInt64 0 (-1)) (va_cwS 3 hts g_d_log_d_in_60 rfl rfl rfl (by decide +kernel) ⟨Nat.le_of_ble_eq_true rfl, Nat.le_of_ble_eq_true rfl⟩) ⟨pP.blind, (pP.pre ⟨hK, hN⟩ hPc)⟩ rfl rfl hl.1 rfl (lv_room (Nat.le_of_ble_eq_true rfl)) dX8_log_13 ⟨Nat.le_of_ble_eq_true rfl, Nat.le_of_ble_eq_true rfl⟩) (fun r_2 hr_2 => ?_)
  obtain rfl : r_2 = 0 := hr_2.trans (if_neg (by have u0 : (0 : Int64).toInt = 0 := (by decide); have u1 : (-1 : Int64).toInt = -1 := (by decide); simp only [Int64.le_iff_toInt_le, u0, u1]; omega))
  refine lv_if_eq (tgt := 57) hx hb dX8_log_16 (by decide) (fun _ => ?_) (fun q => absurd (by decide) q)
  refine lv_ldc (v := -100000000) hx hb hown (hts (.constant RX8 182 (-100000000)) (List.mem_of_getElem? (i := 2) rfl)) dX8_log_57 ?_
  exact W.iret (v := -100000000) hx hb hr (fun tt ht hW => ⟨_, rfl, rfl, ht⟩) (fun _ h => by cases h) dX8_log_59

def v_d_rule : List Cond := .code yX8_rule cX8_rule 2 (some .int) :: ([.constant RX8 182 (-100000000), .methodLink RX8 299 yX8_isWatch, .instanceMethod yX8_isWatch, .selects RX8 yX8_isWatch yX8_isWatch, .initialized RX8] ++ (v_d_isWatch ++ ([])))
theorem gw_d_rule : v_d_rule.all goodWord = true := by decide +kernel
theorem g_d_rule_d_isWatch_299 : GoodIn v_d_rule (wsV RX8 299 RX8 yX8_isWatch v_d_isWatch) := goodIn_app (goodIn_of _ (by decide +kernel)) (goodIn_sub (fun _ h => List.mem_cons_of_mem _ (List.mem_append_right _ (List.mem_append_left _ h))) gw_d_isWatch)
set_option maxHeartbeats 4000000 in
set_option maxRecDepth 100000 in
theorem d_rule (l : Launch) (E : EE) (mo m_tape m_readPlace m_script m_scriptLong m_now m_refused m_shareX m_shareY m_askedRow m_kept m_aside m_spelled m_image : Nat) (p0 : Int32) : Met l yX8_rule v_d_rule ({ frames := 1, cells := 0, slots := 0, locals := 20 }) (va_Pc [.ref mo, .int p0] (pP E [(mo, .inr (9, [.int 0, .ref m_tape, .int 0, .int 0, .int 0, .int 0, .int 0, .int 0, .long 0, .int 0, .int 0, .int 0, .int 0, .ref m_readPlace, .ref m_script, .ref m_scriptLong, .int 0, .ref m_now, .ref m_refused, .int 0, .ref m_shareX, .ref m_shareY, .int 0, .int 0, .ref m_askedRow, .int 0, .ref m_kept, .int 0, .long 0, .ref m_aside, .int 0, .int 0, .ref m_spelled, .int 0, .ref m_image, .int 0]))])) (vp_Si (fun r => r = -100000000)) 0 0 (fun _ => False) := by
  refine Met.ofW (cc := cX8_rule) (maxL := 2) (ret := (some .int)) (by decide) rfl ?_
  intro p e s m args below meth c s₁ B hml hv
  obtain ⟨rfl, ⟨hK, hN⟩, hP⟩ := hv
  have hx := B.exec
  have hb := B.bytes
  have hr := B.returns
  have hts := atoms_spec (ws := v_d_rule) B.pre
  have hown : s.vm.findClass RX8 = some m.cls := findClass_of_methodNamed B.named
  have hlocks := B.notSynchronized
  have hP : va_P E.1 vwCl [(mo, .inr (9, [.int 0, .ref m_tape, .int 0, .int 0, .int 0, .int 0, .int 0, .int 0, .long 0, .int 0, .int 0, .int 0, .int 0, .ref m_readPlace, .ref m_script, .ref m_scriptLong, .int 0, .ref m_now, .ref m_refused, .int 0, .ref m_shareX, .ref m_shareY, .int 0, .int 0, .ref m_askedRow, .int 0, .ref m_kept, .int 0, .long 0, .ref m_aside, .int 0, .int 0, .ref m_spelled, .int 0, .ref m_image, .int 0]))] s.heap := hP
  have hl := lv_entry ([.ref mo, .int p0]) (n := 2) (Nat.le_of_ble_eq_true rfl)
  rw [lg_entry_eq]
  generalize (lg_sl ([.ref mo, .int p0]) ++ List.replicate (2 - (lg_sl ([.ref mo, .int p0])).length) Slot.unset).toArray = ls at hl ⊢
  have hl : lv_has ls 2 [(0, .ref mo), (1, .int p0)] := hl
  refine lv_aload_n hx hb dX8_rule_0 rfl (lv_at hl 0 rfl) ?_
  have hPc := hP.sub (ws' := [(mo, .inr (9, [.int 0, .ref m_tape, .int 0, .int 0, .int 0, .int 0, .int 0, .int 0, .long 0, .int 0, .int 0, .int 0, .int 0, .ref m_readPlace, .ref m_script, .ref m_scriptLong, .int 0, .ref m_now, .ref m_refused, .int 0, .ref m_shareX, .ref m_shareY, .int 0, .int 0, .ref m_askedRow, .int 0, .ref m_kept, .int 0, .long 0, .ref m_aside, .int 0, .int 0, .ref m_spelled, .int 0, .ref m_image, .int 0]))]) [0] rfl
  refine pc_i (va_runV (As := []) (rest := []) ⟨hx, hb, hml, hown, hts⟩ (d_isWatch l E mo m_tape m_readPlace m_script m_scriptLong m_now m_refused m_shareX m_shareY m_askedRow m_kept m_aside m_spelled m_image) (cwV 0 hts g_d_rule_d_isWatch_299 rfl rfl rfl (by decide +kernel) ⟨Nat.le_of_ble_eq_true rfl, Nat.le_of_ble_eq_true rfl⟩) ⟨pP.blind, va_recv hK hPc (ci := 9) (q0 := 0) rfl rfl, (pP.pre ⟨hK, hN⟩ hPc)⟩ rfl rfl hl.1 rfl (lv_room (Nat.le_of_ble_eq_true rfl)) dX8_rule_1 ⟨Nat.le_of_ble_eq_true rfl, Nat.le_of_ble_eq_true rfl⟩) (fun r_1 hr_1 => ?_)
  obtain rfl : r_1 = 0 := hr_1
  refine lv_if_eq (tgt := 19) hx hb dX8_rule_4 (by decide) (fun _ => ?_) (fun q => absurd (by decide) q)
  refine lv_ldc (v := -100000000) hx hb hown (hts (.constant RX8 182 (-100000000)) (List.mem_of_getElem? (i := 1) rfl)) dX8_rule_19 ?_
  exact W.iret (v := -100000000) hx hb hr (fun tt ht hW => ⟨_, rfl, rfl, ht⟩) (fun _ h => by cases h) dX8_rule_21

def v_d_value : List Cond := .code yX8_value cX8_value 3 (some .long) :: ([.constantLong RX8 383 (-100000000), .methodLink RX8 299 yX8_isWatch, .instanceMethod yX8_isWatch, .selects RX8 yX8_isWatch yX8_isWatch, .initialized RX8] ++ (v_d_isWatch ++ ([])))
theorem gw_d_value : v_d_value.all goodWord = true := by decide +kernel
theorem g_d_value_d_isWatch_299 : GoodIn v_d_value (wsV RX8 299 RX8 yX8_isWatch v_d_isWatch) := goodIn_app (goodIn_of _ (by decide +kernel)) (goodIn_sub (fun _ h => List.mem_cons_of_mem _ (List.mem_append_right _ (List.mem_append_left _ h))) gw_d_isWatch)
set_option maxHeartbeats 4000000 in
set_option maxRecDepth 100000 in
theorem d_value (l : Launch) (E : EE) (mo m_tape m_readPlace m_script m_scriptLong m_now m_refused m_shareX m_shareY m_askedRow m_kept m_aside m_spelled m_image : Nat) (p0 p1 : Int32) : Met l yX8_value v_d_value ({ frames := 1, cells := 0, slots := 0, locals := 20 }) (va_Pc [.ref mo, .int p0, .int p1] (pP E [(mo, .inr (9, [.int 0, .ref m_tape, .int 0, .int 0, .int 0, .int 0, .int 0, .int 0, .long 0, .int 0, .int 0, .int 0, .int 0, .ref m_readPlace, .ref m_script, .ref m_scriptLong, .int 0, .ref m_now, .ref m_refused, .int 0, .ref m_shareX, .ref m_shareY, .int 0, .int 0, .ref m_askedRow, .int 0, .ref m_kept, .int 0, .long 0, .ref m_aside, .int 0, .int 0, .ref m_spelled, .int 0, .ref m_image, .int 0]))])) (vp_Sl (fun r => r = -100000000)) 0 0 (fun _ => False) := by
  refine Met.ofW (cc := cX8_value) (maxL := 3) (ret := (some .long)) (by decide) rfl ?_
  intro p e s m args below meth c s₁ B hml hv
  obtain ⟨rfl, ⟨hK, hN⟩, hP⟩ := hv
  have hx := B.exec
  have hb := B.bytes
  have hr := B.returns
  have hts := atoms_spec (ws := v_d_value) B.pre
  have hown : s.vm.findClass RX8 = some m.cls := findClass_of_methodNamed B.named
  have hlocks := B.notSynchronized
  have hP : va_P E.1 vwCl [(mo, .inr (9, [.int 0, .ref m_tape, .int 0, .int 0, .int 0, .int 0, .int 0, .int 0, .long 0, .int 0, .int 0, .int 0, .int 0, .ref m_readPlace, .ref m_script, .ref m_scriptLong, .int 0, .ref m_now, .ref m_refused, .int 0, .ref m_shareX, .ref m_shareY, .int 0, .int 0, .ref m_askedRow, .int 0, .ref m_kept, .int 0, .long 0, .ref m_aside, .int 0, .int 0, .ref m_spelled, .int 0, .ref m_image, .int 0]))] s.heap := hP
  have hl := lv_entry ([.ref mo, .int p0, .int p1]) (n := 3) (Nat.le_of_ble_eq_true rfl)
  rw [lg_entry_eq]
  generalize (lg_sl ([.ref mo, .int p0, .int p1]) ++ List.replicate (3 - (lg_sl ([.ref mo, .int p0, .int p1])).length) Slot.unset).toArray = ls at hl ⊢
  have hl : lv_has ls 3 [(0, .ref mo), (1, .int p0), (2, .int p1)] := hl
  refine lv_aload_n hx hb dX8_value_0 rfl (lv_at hl 0 rfl) ?_
  have hPc := hP.sub (ws' := [(mo, .inr (9, [.int 0, .ref m_tape, .int 0, .int 0, .int 0, .int 0, .int 0, .int 0, .long 0, .int 0, .int 0, .int 0, .int 0, .ref m_readPlace, .ref m_script, .ref m_scriptLong, .int 0, .ref m_now, .ref m_refused, .int 0, .ref m_shareX, .ref m_shareY, .int 0, .int 0, .ref m_askedRow, .int 0, .ref m_kept, .int 0, .long 0, .ref m_aside, .int 0, .int 0, .ref m_spelled, .int 0, .ref m_image, .int 0]))]) [0] rfl
  refine pc_i (va_runV (As := []) (rest := []) ⟨hx, hb, hml, hown, hts⟩ (d_isWatch l E mo m_tape m_readPlace m_script m_scriptLong m_now m_refused m_shareX m_shareY m_askedRow m_kept m_aside m_spelled m_image) (cwV 0 hts g_d_value_d_isWatch_299 rfl rfl rfl (by decide +kernel) ⟨Nat.le_of_ble_eq_true rfl, Nat.le_of_ble_eq_true rfl⟩) ⟨pP.blind, va_recv hK hPc (ci := 9) (q0 := 0) rfl rfl, (pP.pre ⟨hK, hN⟩ hPc)⟩ rfl rfl hl.1 rfl (lv_room (Nat.le_of_ble_eq_true rfl)) dX8_value_1 ⟨Nat.le_of_ble_eq_true rfl, Nat.le_of_ble_eq_true rfl⟩) (fun r_1 hr_1 => ?_)
  obtain rfl : r_1 = 0 := hr_1
  refine lv_if_eq (tgt := 46) hx hb dX8_value_4 (by decide) (fun _ => ?_) (fun q => absurd (by decide) q)
  refine lv_ldc2 (v := -100000000) hx hb hown (hts (.constantLong RX8 383 (-100000000)) (List.mem_of_getElem? (i := 1) rfl)) dX8_value_46 ?_
  exact W.lret (v := -100000000) hx hb hr (fun tt ht hW => ⟨_, rfl, rfl, ht⟩) (fun _ h => by cases h) dX8_value_49

def v_d_tells : List Cond := .code yX8_tells cX8_tells 3 (some .boolean) :: ([.methodLink RX8 299 yX8_isWatch, .instanceMethod yX8_isWatch, .selects RX8 yX8_isWatch yX8_isWatch, .initialized RX8] ++ (v_d_isWatch ++ ([])))
theorem gw_d_tells : v_d_tells.all goodWord = true := by decide +kernel
theorem g_d_tells_d_isWatch_299 : GoodIn v_d_tells (wsV RX8 299 RX8 yX8_isWatch v_d_isWatch) := goodIn_app (goodIn_of _ (by decide +kernel)) (goodIn_sub (fun _ h => List.mem_cons_of_mem _ (List.mem_append_right _ (List.mem_append_left _ h))) gw_d_isWatch)
set_option maxHeartbeats 4000000 in
set_option maxRecDepth 100000 in
theorem d_tells (l : Launch) (E : EE) (mo m_tape m_readPlace m_script m_scriptLong m_now m_refused m_shareX m_shareY m_askedRow m_kept m_aside m_spelled m_image : Nat) (p0 p1 : Int32) : Met l yX8_tells v_d_tells ({ frames := 1, cells := 0, slots := 0, locals := 20 }) (va_Pc [.ref mo, .int p0, .int p1] (pP E [(mo, .inr (9, [.int 0, .ref m_tape, .int 0, .int 0, .int 0, .int 0, .int 0, .int 0, .long 0, .int 0, .int 0, .int 0, .int 0, .ref m_readPlace, .ref m_script, .ref m_scriptLong, .int 0, .ref m_now, .ref m_refused, .int 0, .ref m_shareX, .ref m_shareY, .int 0, .int 0, .ref m_askedRow, .int 0, .ref m_kept, .int 0, .long 0, .ref m_aside, .int 0, .int 0, .ref m_spelled, .int 0, .ref m_image, .int 0]))])) (vp_Si (fun r => r = 0)) 0 0 (fun _ => False) := by
  refine Met.ofW (cc := cX8_tells) (maxL := 3) (ret := (some .boolean)) (by decide) rfl ?_
  intro p e s m args below meth c s₁ B hml hv
  obtain ⟨rfl, ⟨hK, hN⟩, hP⟩ := hv
  have hx := B.exec
  have hb := B.bytes
  have hr := B.returns
  have hts := atoms_spec (ws := v_d_tells) B.pre
  have hown : s.vm.findClass RX8 = some m.cls := findClass_of_methodNamed B.named
  have hlocks := B.notSynchronized
  have hP : va_P E.1 vwCl [(mo, .inr (9, [.int 0, .ref m_tape, .int 0, .int 0, .int 0, .int 0, .int 0, .int 0, .long 0, .int 0, .int 0, .int 0, .int 0, .ref m_readPlace, .ref m_script, .ref m_scriptLong, .int 0, .ref m_now, .ref m_refused, .int 0, .ref m_shareX, .ref m_shareY, .int 0, .int 0, .ref m_askedRow, .int 0, .ref m_kept, .int 0, .long 0, .ref m_aside, .int 0, .int 0, .ref m_spelled, .int 0, .ref m_image, .int 0]))] s.heap := hP
  have hl := lv_entry ([.ref mo, .int p0, .int p1]) (n := 3) (Nat.le_of_ble_eq_true rfl)
  rw [lg_entry_eq]
  generalize (lg_sl ([.ref mo, .int p0, .int p1]) ++ List.replicate (3 - (lg_sl ([.ref mo, .int p0, .int p1])).length) Slot.unset).toArray = ls at hl ⊢
  have hl : lv_has ls 3 [(0, .ref mo), (1, .int p0), (2, .int p1)] := hl
  refine lv_aload_n hx hb dX8_tells_0 rfl (lv_at hl 0 rfl) ?_
  have hPc := hP.sub (ws' := [(mo, .inr (9, [.int 0, .ref m_tape, .int 0, .int 0, .int 0, .int 0, .int 0, .int 0, .long 0, .int 0, .int 0, .int 0, .int 0, .ref m_readPlace, .ref m_script, .ref m_scriptLong, .int 0, .ref m_now, .ref m_refused, .int 0, .ref m_shareX, .ref m_shareY, .int 0, .int 0, .ref m_askedRow, .int 0, .ref m_kept, .int 0, .long 0, .ref m_aside, .int 0, .int 0, .ref m_spelled, .int 0, .ref m_image, .int 0]))]) [0] rfl
  refine pc_i (va_runV (As := []) (rest := []) ⟨hx, hb, hml, hown, hts⟩ (d_isWatch l E mo m_tape m_readPlace m_script m_scriptLong m_now m_refused m_shareX m_shareY m_askedRow m_kept m_aside m_spelled m_image) (cwV 0 hts g_d_tells_d_isWatch_299 rfl rfl rfl (by decide +kernel) ⟨Nat.le_of_ble_eq_true rfl, Nat.le_of_ble_eq_true rfl⟩) ⟨pP.blind, va_recv hK hPc (ci := 9) (q0 := 0) rfl rfl, (pP.pre ⟨hK, hN⟩ hPc)⟩ rfl rfl hl.1 rfl (lv_room (Nat.le_of_ble_eq_true rfl)) dX8_tells_1 ⟨Nat.le_of_ble_eq_true rfl, Nat.le_of_ble_eq_true rfl⟩) (fun r_1 hr_1 => ?_)
  obtain rfl : r_1 = 0 := hr_1
  refine lv_if_eq (tgt := 48) hx hb dX8_tells_4 (by decide) (fun _ => ?_) (fun q => absurd (by decide) q)
  refine lv_iconst (v := 0) hx hb dX8_tells_48 (by decide) ?_
  exact W.zret (v := 0) hx hb hr rfl (fun tt ht hW => ⟨_, rfl, rfl, ht⟩) (fun _ h => by cases h) dX8_tells_49

def v_d_all : List Cond := .code yX8_all cX8_all 2 (some .long) :: ([.constantLong RX8 383 (-100000000), .methodLink RX8 299 yX8_isWatch, .instanceMethod yX8_isWatch, .selects RX8 yX8_isWatch yX8_isWatch, .initialized RX8] ++ (v_d_isWatch ++ ([])))
theorem gw_d_all : v_d_all.all goodWord = true := by decide +kernel
theorem g_d_all_d_isWatch_299 : GoodIn v_d_all (wsV RX8 299 RX8 yX8_isWatch v_d_isWatch) := goodIn_app (goodIn_of _ (by decide +kernel)) (goodIn_sub (fun _ h => List.mem_cons_of_mem _ (List.mem_append_right _ (List.mem_append_left _ h))) gw_d_isWatch)
set_option maxHeartbeats 4000000 in
set_option maxRecDepth 100000 in
theorem d_all (l : Launch) (E : EE) (mo m_tape m_readPlace m_script m_scriptLong m_now m_refused m_shareX m_shareY m_askedRow m_kept m_aside m_spelled m_image : Nat) (p0 : Int32) : Met l yX8_all v_d_all ({ frames := 1, cells := 0, slots := 0, locals := 20 }) (va_Pc [.ref mo, .int p0] (pP E [(mo, .inr (9, [.int 0, .ref m_tape, .int 0, .int 0, .int 0, .int 0, .int 0, .int 0, .long 0, .int 0, .int 0, .int 0, .int 0, .ref m_readPlace, .ref m_script, .ref m_scriptLong, .int 0, .ref m_now, .ref m_refused, .int 0, .ref m_shareX, .ref m_shareY, .int 0, .int 0, .ref m_askedRow, .int 0, .ref m_kept, .int 0, .long 0, .ref m_aside, .int 0, .int 0, .ref m_spelled, .int 0, .ref m_image, .int 0]))])) (vp_Sl (fun r => r = -100000000)) 0 0 (fun _ => False) := by
  refine Met.ofW (cc := cX8_all) (maxL := 2) (ret := (some .long)) (by decide) rfl ?_
  intro p e s m args below meth c s₁ B hml hv
  obtain ⟨rfl, ⟨hK, hN⟩, hP⟩ := hv
  have hx := B.exec
  have hb := B.bytes
  have hr := B.returns
  have hts := atoms_spec (ws := v_d_all) B.pre
  have hown : s.vm.findClass RX8 = some m.cls := findClass_of_methodNamed B.named
  have hlocks := B.notSynchronized
  have hP : va_P E.1 vwCl [(mo, .inr (9, [.int 0, .ref m_tape, .int 0, .int 0, .int 0, .int 0, .int 0, .int 0, .long 0, .int 0, .int 0, .int 0, .int 0, .ref m_readPlace, .ref m_script, .ref m_scriptLong, .int 0, .ref m_now, .ref m_refused, .int 0, .ref m_shareX, .ref m_shareY, .int 0, .int 0, .ref m_askedRow, .int 0, .ref m_kept, .int 0, .long 0, .ref m_aside, .int 0, .int 0, .ref m_spelled, .int 0, .ref m_image, .int 0]))] s.heap := hP
  have hl := lv_entry ([.ref mo, .int p0]) (n := 2) (Nat.le_of_ble_eq_true rfl)
  rw [lg_entry_eq]
  generalize (lg_sl ([.ref mo, .int p0]) ++ List.replicate (2 - (lg_sl ([.ref mo, .int p0])).length) Slot.unset).toArray = ls at hl ⊢
  have hl : lv_has ls 2 [(0, .ref mo), (1, .int p0)] := hl
  refine lv_aload_n hx hb dX8_all_0 rfl (lv_at hl 0 rfl) ?_
  have hPc := hP.sub (ws' := [(mo, .inr (9, [.int 0, .ref m_tape, .int 0, .int 0, .int 0, .int 0, .int 0, .int 0, .long 0, .int 0, .int 0, .int 0, .int 0, .ref m_readPlace, .ref m_script, .ref m_scriptLong, .int 0, .ref m_now, .ref m_refused, .int 0, .ref m_shareX, .ref m_shareY, .int 0, .int 0, .ref m_askedRow, .int 0, .ref m_kept, .int 0, .long 0, .ref m_aside, .int 0, .int 0, .ref m_spelled, .int 0, .ref m_image, .int 0]))]) [0] rfl
  refine pc_i (va_runV (As := []) (rest := []) ⟨hx, hb, hml, hown, hts⟩ (d_isWatch l E mo m_tape m_readPlace m_script m_scriptLong m_now m_refused m_shareX m_shareY m_askedRow m_kept m_aside m_spelled m_image) (cwV 0 hts g_d_all_d_isWatch_299 rfl rfl rfl (by decide +kernel) ⟨Nat.le_of_ble_eq_true rfl, Nat.le_of_ble_eq_true rfl⟩) ⟨pP.blind, va_recv hK hPc (ci := 9) (q0 := 0) rfl rfl, (pP.pre ⟨hK, hN⟩ hPc)⟩ rfl rfl hl.1 rfl (lv_room (Nat.le_of_ble_eq_true rfl)) dX8_all_1 ⟨Nat.le_of_ble_eq_true rfl, Nat.le_of_ble_eq_true rfl⟩) (fun r_1 hr_1 => ?_)
  obtain rfl : r_1 = 0 := hr_1
  refine lv_if_eq (tgt := 19) hx hb dX8_all_4 (by decide) (fun _ => ?_) (fun q => absurd (by decide) q)
  refine lv_ldc2 (v := -100000000) hx hb hown (hts (.constantLong RX8 383 (-100000000)) (List.mem_of_getElem? (i := 1) rfl)) dX8_all_19 ?_
  exact W.lret (v := -100000000) hx hb hr (fun tt ht hW => ⟨_, rfl, rfl, ht⟩) (fun _ h => by cases h) dX8_all_22

def v_d_count : List Cond := .code yX8_count cX8_count 2 (some .int) :: ([.methodLink RX8 299 yX8_isWatch, .instanceMethod yX8_isWatch, .selects RX8 yX8_isWatch yX8_isWatch, .initialized RX8] ++ (v_d_isWatch ++ ([])))
theorem gw_d_count : v_d_count.all goodWord = true := by decide +kernel
theorem g_d_count_d_isWatch_299 : GoodIn v_d_count (wsV RX8 299 RX8 yX8_isWatch v_d_isWatch) := goodIn_app (goodIn_of _ (by decide +kernel)) (goodIn_sub (fun _ h => List.mem_cons_of_mem _ (List.mem_append_right _ (List.mem_append_left _ h))) gw_d_isWatch)
set_option maxHeartbeats 4000000 in
set_option maxRecDepth 100000 in
theorem d_count (l : Launch) (E : EE) (mo m_tape m_readPlace m_script m_scriptLong m_now m_refused m_shareX m_shareY m_askedRow m_kept m_aside m_spelled m_image : Nat) (p0 : Int32) : Met l yX8_count v_d_count ({ frames := 1, cells := 0, slots := 0, locals := 20 }) (va_Pc [.ref mo, .int p0] (pP E [(mo, .inr (9, [.int 0, .ref m_tape, .int 0, .int 0, .int 0, .int 0, .int 0, .int 0, .long 0, .int 0, .int 0, .int 0, .int 0, .ref m_readPlace, .ref m_script, .ref m_scriptLong, .int 0, .ref m_now, .ref m_refused, .int 0, .ref m_shareX, .ref m_shareY, .int 0, .int 0, .ref m_askedRow, .int 0, .ref m_kept, .int 0, .long 0, .ref m_aside, .int 0, .int 0, .ref m_spelled, .int 0, .ref m_image, .int 0]))])) (vp_Si (fun r => r = -1)) 0 0 (fun _ => False) := by
  refine Met.ofW (cc := cX8_count) (maxL := 2) (ret := (some .int)) (by decide) rfl ?_
  intro p e s m args below meth c s₁ B hml hv
  obtain ⟨rfl, ⟨hK, hN⟩, hP⟩ := hv
  have hx := B.exec
  have hb := B.bytes
  have hr := B.returns
  have hts := atoms_spec (ws := v_d_count) B.pre
  have hown : s.vm.findClass RX8 = some m.cls := findClass_of_methodNamed B.named
  have hlocks := B.notSynchronized
  have hP : va_P E.1 vwCl [(mo, .inr (9, [.int 0, .ref m_tape, .int 0, .int 0, .int 0, .int 0, .int 0, .int 0, .long 0, .int 0, .int 0, .int 0, .int 0, .ref m_readPlace, .ref m_script, .ref m_scriptLong, .int 0, .ref m_now, .ref m_refused, .int 0, .ref m_shareX, .ref m_shareY, .int 0, .int 0, .ref m_askedRow, .int 0, .ref m_kept, .int 0, .long 0, .ref m_aside, .int 0, .int 0, .ref m_spelled, .int 0, .ref m_image, .int 0]))] s.heap := hP
  have hl := lv_entry ([.ref mo, .int p0]) (n := 2) (Nat.le_of_ble_eq_true rfl)
  rw [lg_entry_eq]
  generalize (lg_sl ([.ref mo, .int p0]) ++ List.replicate (2 - (lg_sl ([.ref mo, .int p0])).length) Slot.unset).toArray = ls at hl ⊢
  have hl : lv_has ls 2 [(0, .ref mo), (1, .int p0)] := hl
  refine lv_aload_n hx hb dX8_count_0 rfl (lv_at hl 0 rfl) ?_
  have hPc := hP.sub (ws' := [(mo, .inr (9, [.int 0, .ref m_tape, .int 0, .int 0, .int 0, .int 0, .int 0, .int 0, .long 0, .int 0, .int 0, .int 0, .int 0, .ref m_readPlace, .ref m_script, .ref m_scriptLong, .int 0, .ref m_now, .ref m_refused, .int 0, .ref m_shareX, .ref m_shareY, .int 0, .int 0, .ref m_askedRow, .int 0, .ref m_kept, .int 0, .long 0, .ref m_aside, .int 0, .int 0, .ref m_spelled, .int 0, .ref m_image, .int 0]))]) [0] rfl
  refine pc_i (va_runV (As := []) (rest := []) ⟨hx, hb, hml, hown, hts⟩ (d_isWatch l E mo m_tape m_readPlace m_script m_scriptLong m_now m_refused m_shareX m_shareY m_askedRow m_kept m_aside m_spelled m_image) (cwV 0 hts g_d_count_d_isWatch_299 rfl rfl rfl (by decide +kernel) ⟨Nat.le_of_ble_eq_true rfl, Nat.le_of_ble_eq_true rfl⟩) ⟨pP.blind, va_recv hK hPc (ci := 9) (q0 := 0) rfl rfl, (pP.pre ⟨hK, hN⟩ hPc)⟩ rfl rfl hl.1 rfl (lv_room (Nat.le_of_ble_eq_true rfl)) dX8_count_1 ⟨Nat.le_of_ble_eq_true rfl, Nat.le_of_ble_eq_true rfl⟩) (fun r_1 hr_1 => ?_)
  obtain rfl : r_1 = 0 := hr_1
  refine lv_if_eq (tgt := 19) hx hb dX8_count_4 (by decide) (fun _ => ?_) (fun q => absurd (by decide) q)
  refine lv_iconst (v := -1) hx hb dX8_count_19 (by decide) ?_
  exact W.iret (v := -1) hx hb hr (fun tt ht hW => ⟨_, rfl, rfl, ht⟩) (fun _ h => by cases h) dX8_count_20

def v_d_limit : List Cond := .code yX8_limit cX8_limit 6 (some .int) :: ([.methodLink RX8 278 yX8_isSite, .instanceMethod yX8_isSite, .selects RX8 yX8_isSite yX8_isSite, .initialized RX8] ++ (v_d_isSite ++ ([])))
theorem gw_d_limit : v_d_limit.all goodWord = true := by decide +kernel
theorem g_d_limit_d_isSite_278 : GoodIn v_d_limit (wsV RX8 278 RX8 yX8_isSite v_d_isSite) := goodIn_app (goodIn_of _ (by decide +kernel)) (goodIn_sub (fun _ h => List.mem_cons_of_mem _ (List.mem_append_right _ (List.mem_append_left _ h))) gw_d_isSite)
set_option maxHeartbeats 4000000 in
set_option maxRecDepth 100000 in
theorem d_limit (l : Launch) (E : EE) (mo m_tape m_readPlace m_script m_scriptLong m_now m_refused m_shareX m_shareY m_askedRow m_kept m_aside m_spelled m_image : Nat) (p0 p1 p2 : Int32) : Met l yX8_limit v_d_limit ({ frames := 2, cells := 0, slots := 0, locals := 46 }) (va_Pc [.ref mo, .int p0, .int p1, .int p2] (pP E [(mo, .inr (9, [.int 0, .ref m_tape, .int 0, .int 0, .int 0, .int 0, .int 0, .int 0, .long 0, .int 0, .int 0, .int 0, .int 0, .ref m_readPlace, .ref m_script, .ref m_scriptLong, .int 0, .ref m_now, .ref m_refused, .int 0, .ref m_shareX, .ref m_shareY, .int 0, .int 0, .ref m_askedRow, .int 0, .ref m_kept, .int 0, .long 0, .ref m_aside, .int 0, .int 0, .ref m_spelled, .int 0, .ref m_image, .int 0]))])) (vp_Si (fun r => r = -1)) 0 0 (fun _ => False) := by
  refine Met.ofW (cc := cX8_limit) (maxL := 6) (ret := (some .int)) (by decide) rfl ?_
  intro p e s m args below meth c s₁ B hml hv
  obtain ⟨rfl, ⟨hK, hN⟩, hP⟩ := hv
  have hx := B.exec
  have hb := B.bytes
  have hr := B.returns
  have hts := atoms_spec (ws := v_d_limit) B.pre
  have hown : s.vm.findClass RX8 = some m.cls := findClass_of_methodNamed B.named
  have hlocks := B.notSynchronized
  have hP : va_P E.1 vwCl [(mo, .inr (9, [.int 0, .ref m_tape, .int 0, .int 0, .int 0, .int 0, .int 0, .int 0, .long 0, .int 0, .int 0, .int 0, .int 0, .ref m_readPlace, .ref m_script, .ref m_scriptLong, .int 0, .ref m_now, .ref m_refused, .int 0, .ref m_shareX, .ref m_shareY, .int 0, .int 0, .ref m_askedRow, .int 0, .ref m_kept, .int 0, .long 0, .ref m_aside, .int 0, .int 0, .ref m_spelled, .int 0, .ref m_image, .int 0]))] s.heap := hP
  have hl := lv_entry ([.ref mo, .int p0, .int p1, .int p2]) (n := 6) (Nat.le_of_ble_eq_true rfl)
  rw [lg_entry_eq]
  generalize (lg_sl ([.ref mo, .int p0, .int p1, .int p2]) ++ List.replicate (6 - (lg_sl ([.ref mo, .int p0, .int p1, .int p2])).length) Slot.unset).toArray = ls at hl ⊢
  have hl : lv_has ls 6 [(0, .ref mo), (1, .int p0), (2, .int p1), (3, .int p2)] := hl
  refine lv_aload_n hx hb dX8_limit_0 rfl (lv_at hl 0 rfl) ?_
  refine lv_iload_n hx hb dX8_limit_1 rfl (lv_at hl 1 rfl) ?_
  have hPc := hP.sub (ws' := [(mo, .inr (9, [.int 0, .ref m_tape, .int 0, .int 0, .int 0, .int 0, .int 0, .int 0, .long 0, .int 0, .int 0, .int 0, .int 0, .ref m_readPlace, .ref m_script, .ref m_scriptLong, .int 0, .ref m_now, .ref m_refused, .int 0, .ref m_shareX, .ref m_shareY, .int 0, .int 0, .ref m_askedRow, .int 0, .ref m_kept, .int 0, .long 0, .ref m_aside, .int 0, .int 0, .ref m_spelled, .int 0, .ref m_image, .int 0]))]) [0] rfl
  refine pc_i (va_runV (As := [.int p0]) (rest := []) ⟨hx, hb, hml, hown, hts⟩ (d_isSite l E mo m_tape m_readPlace m_script m_scriptLong m_now m_refused m_shareX m_shareY m_askedRow m_kept m_aside m_spelled m_image p0) (cwV 1 hts g_d_limit_d_isSite_278 rfl rfl rfl (by decide +kernel) ⟨Nat.le_of_ble_eq_true rfl, Nat.le_of_ble_eq_true rfl⟩) ⟨pP.blind, va_recv hK hPc (ci := 9) (q0 := 0) rfl rfl, (pP.pre ⟨hK, hN⟩ hPc)⟩ rfl rfl hl.1 rfl (lv_room (Nat.le_of_ble_eq_true rfl)) dX8_limit_2 ⟨Nat.le_of_ble_eq_true rfl, Nat.le_of_ble_eq_true rfl⟩) (fun r_1 hr_1 => ?_)
  obtain rfl : r_1 = 0 := hr_1
  refine lv_if_eq (tgt := 24) hx hb dX8_limit_5 (by decide) (fun _ => ?_) (fun q => absurd (by decide) q)
  refine lv_iconst (v := -1) hx hb dX8_limit_24 (by decide) ?_
  exact W.iret (v := -1) hx hb hr (fun tt ht hW => ⟨_, rfl, rfl, ht⟩) (fun _ h => by cases h) dX8_limit_25

def v_d_would : List Cond := .code yX8_would cX8_would 6 (some .int) :: ([.methodLink RX8 302 yX8_whyMove, .instanceMethod yX8_whyMove, .selects RX8 yX8_whyMove yX8_whyMove, .initialized RX8] ++ (v_d_whyMove ++ ([])))
theorem gw_d_would : v_d_would.all goodWord = true := by decide +kernel
theorem g_d_would_d_whyMove_302 : GoodIn v_d_would (wsV RX8 302 RX8 yX8_whyMove v_d_whyMove) := goodIn_app (goodIn_of _ (by decide +kernel)) (goodIn_sub (fun _ h => List.mem_cons_of_mem _ (List.mem_append_right _ (List.mem_append_left _ h))) gw_d_whyMove)
set_option maxHeartbeats 4000000 in
set_option maxRecDepth 100000 in
theorem d_would (l : Launch) (E : EE) (mo m_tape m_readPlace m_script m_scriptLong m_now m_refused m_shareX m_shareY m_askedRow m_kept m_aside m_spelled m_image : Nat) (p0 p1 p2 p3 : Int32) : Met l yX8_would v_d_would ({ frames := 3, cells := 0, slots := 0, locals := 70 }) (va_Pc [.ref mo, .int p0, .int p1, .int p2, .int p3] (pP E [(mo, .inr (9, [.int 0, .ref m_tape, .int 0, .int 0, .int 0, .int 0, .int 0, .int 0, .long 0, .int 0, .int 0, .int 0, .int 0, .ref m_readPlace, .ref m_script, .ref m_scriptLong, .int 0, .ref m_now, .ref m_refused, .int 0, .ref m_shareX, .ref m_shareY, .int 0, .int 0, .ref m_askedRow, .int 0, .ref m_kept, .int 0, .long 0, .ref m_aside, .int 0, .int 0, .ref m_spelled, .int 0, .ref m_image, .int 0]))])) (vp_Si (fun r => r = -1)) 0 0 (fun _ => False) := by
  refine Met.ofW (cc := cX8_would) (maxL := 6) (ret := (some .int)) (by decide) rfl ?_
  intro p e s m args below meth c s₁ B hml hv
  obtain ⟨rfl, ⟨hK, hN⟩, hP⟩ := hv
  have hx := B.exec
  have hb := B.bytes
  have hr := B.returns
  have hts := atoms_spec (ws := v_d_would) B.pre
  have hown : s.vm.findClass RX8 = some m.cls := findClass_of_methodNamed B.named
  have hlocks := B.notSynchronized
  have hP : va_P E.1 vwCl [(mo, .inr (9, [.int 0, .ref m_tape, .int 0, .int 0, .int 0, .int 0, .int 0, .int 0, .long 0, .int 0, .int 0, .int 0, .int 0, .ref m_readPlace, .ref m_script, .ref m_scriptLong, .int 0, .ref m_now, .ref m_refused, .int 0, .ref m_shareX, .ref m_shareY, .int 0, .int 0, .ref m_askedRow, .int 0, .ref m_kept, .int 0, .long 0, .ref m_aside, .int 0, .int 0, .ref m_spelled, .int 0, .ref m_image, .int 0]))] s.heap := hP
  have hl := lv_entry ([.ref mo, .int p0, .int p1, .int p2, .int p3]) (n := 6) (Nat.le_of_ble_eq_true rfl)
  rw [lg_entry_eq]
  generalize (lg_sl ([.ref mo, .int p0, .int p1, .int p2, .int p3]) ++ List.replicate (6 - (lg_sl ([.ref mo, .int p0, .int p1, .int p2, .int p3])).length) Slot.unset).toArray = ls at hl ⊢
  have hl : lv_has ls 6 [(0, .ref mo), (1, .int p0), (2, .int p1), (3, .int p2), (4, .int p3)] := hl
  refine lv_aload_n hx hb dX8_would_0 rfl (lv_at hl 0 rfl) ?_
  refine lv_iload_n hx hb dX8_would_1 rfl (lv_at hl 1 rfl) ?_
  refine lv_iload_n hx hb dX8_would_2 rfl (lv_at hl 2 rfl) ?_
  refine lv_iload_n hx hb dX8_would_3 rfl (lv_at hl 3 rfl) ?_
  have hPc := hP.sub (ws' := [(mo, .inr (9, [.int 0, .ref m_tape, .int 0, .int 0, .int 0, .int 0, .int 0, .int 0, .long 0, .int 0, .int 0, .int 0, .int 0, .ref m_readPlace, .ref m_script, .ref m_scriptLong, .int 0, .ref m_now, .ref m_refused, .int 0, .ref m_shareX, .ref m_shareY, .int 0, .int 0, .ref m_askedRow, .int 0, .ref m_kept, .int 0, .long 0, .ref m_aside, .int 0, .int 0, .ref m_spelled, .int 0, .ref m_image, .int 0]))]) [0] rfl
  refine pc_i (va_runV (As := [.int p0, .int p1, .int p2]) (rest := []) ⟨hx, hb, hml, hown, hts⟩ (d_whyMove l E mo m_tape m_readPlace m_script m_scriptLong m_now m_refused m_shareX m_shareY m_askedRow m_kept m_aside m_spelled m_image p0 p1 p2) (cwV 3 hts g_d_would_d_whyMove_302 rfl rfl rfl (by decide +kernel) ⟨Nat.le_of_ble_eq_true rfl, Nat.le_of_ble_eq_true rfl⟩) ⟨pP.blind, va_recv hK hPc (ci := 9) (q0 := 0) rfl rfl, (pP.pre ⟨hK, hN⟩ hPc)⟩ rfl rfl hl.1 rfl (lv_room (Nat.le_of_ble_eq_true rfl)) dX8_would_4 ⟨Nat.le_of_ble_eq_true rfl, Nat.le_of_ble_eq_true rfl⟩) (fun r_1 hr_1 => ?_)
  obtain rfl : r_1 = 0 := hr_1
  refine lv_iconst (v := -1) hx hb dX8_would_7 (by decide) ?_
  refine lv_icmp_ne (tgt := 24) hx hb dX8_would_8 (by decide) (fun _ => ?_) (fun q => absurd q (by decide))
  refine lv_iconst (v := -1) hx hb dX8_would_24 (by decide) ?_
  exact W.iret (v := -1) hx hb hr (fun tt ht hW => ⟨_, rfl, rfl, ht⟩) (fun _ h => by cases h) dX8_would_25

def v_d_asked : List Cond := .code yX8_asked cX8_asked 5 (some .int) :: ([.methodLink RX8 399 yX8_would, .instanceMethod yX8_would, .selects RX8 yX8_would yX8_would, .initialized RX8] ++ (v_d_would ++ ([])))
theorem gw_d_asked : v_d_asked.all goodWord = true := by decide +kernel
theorem g_d_asked_d_would_399 : GoodIn v_d_asked (wsV RX8 399 RX8 yX8_would v_d_would) := goodIn_app (goodIn_of _ (by decide +kernel)) (goodIn_sub (fun _ h => List.mem_cons_of_mem _ (List.mem_append_right _ (List.mem_append_left _ h))) gw_d_would)
set_option maxHeartbeats 4000000 in
set_option maxRecDepth 100000 in
theorem d_asked (l : Launch) (E : EE) (mo m_tape m_readPlace m_script m_scriptLong m_now m_refused m_shareX m_shareY m_askedRow m_kept m_aside m_spelled m_image : Nat) (p0 p1 p2 p3 : Int32) : Met l yX8_asked v_d_asked ({ frames := 4, cells := 0, slots := 0, locals := 95 }) (va_Pc [.ref mo, .int p0, .int p1, .int p2, .int p3] (pP E [(mo, .inr (9, [.int 0, .ref m_tape, .int 0, .int 0, .int 0, .int 0, .int 0, .int 0, .long 0, .int 0, .int 0, .int 0, .int 0, .ref m_readPlace, .ref m_script, .ref m_scriptLong, .int 0, .ref m_now, .ref m_refused, .int 0, .ref m_shareX, .ref m_shareY, .int 0, .int 0, .ref m_askedRow, .int 0, .ref m_kept, .int 0, .long 0, .ref m_aside, .int 0, .int 0, .ref m_spelled, .int 0, .ref m_image, .int 0]))])) (vp_Si (fun r => r = -1)) 0 0 (fun _ => False) := by
  refine Met.ofW (cc := cX8_asked) (maxL := 5) (ret := (some .int)) (by decide) rfl ?_
  intro p e s m args below meth c s₁ B hml hv
  obtain ⟨rfl, ⟨hK, hN⟩, hP⟩ := hv
  have hx := B.exec
  have hb := B.bytes
  have hr := B.returns
  have hts := atoms_spec (ws := v_d_asked) B.pre
  have hown : s.vm.findClass RX8 = some m.cls := findClass_of_methodNamed B.named
  have hlocks := B.notSynchronized
  have hP : va_P E.1 vwCl [(mo, .inr (9, [.int 0, .ref m_tape, .int 0, .int 0, .int 0, .int 0, .int 0, .int 0, .long 0, .int 0, .int 0, .int 0, .int 0, .ref m_readPlace, .ref m_script, .ref m_scriptLong, .int 0, .ref m_now, .ref m_refused, .int 0, .ref m_shareX, .ref m_shareY, .int 0, .int 0, .ref m_askedRow, .int 0, .ref m_kept, .int 0, .long 0, .ref m_aside, .int 0, .int 0, .ref m_spelled, .int 0, .ref m_image, .int 0]))] s.heap := hP
  have hl := lv_entry ([.ref mo, .int p0, .int p1, .int p2, .int p3]) (n := 5) (Nat.le_of_ble_eq_true rfl)
  rw [lg_entry_eq]
  generalize (lg_sl ([.ref mo, .int p0, .int p1, .int p2, .int p3]) ++ List.replicate (5 - (lg_sl ([.ref mo, .int p0, .int p1, .int p2, .int p3])).length) Slot.unset).toArray = ls at hl ⊢
  have hl : lv_has ls 5 [(0, .ref mo), (1, .int p0), (2, .int p1), (3, .int p2), (4, .int p3)] := hl
  refine lv_aload_n hx hb dX8_asked_0 rfl (lv_at hl 0 rfl) ?_
  refine lv_iload_n hx hb dX8_asked_1 rfl (lv_at hl 1 rfl) ?_
  refine lv_iload_n hx hb dX8_asked_2 rfl (lv_at hl 2 rfl) ?_
  refine lv_iload_n hx hb dX8_asked_3 rfl (lv_at hl 3 rfl) ?_
  refine lv_iconst (v := 1) hx hb dX8_asked_4 (by decide) ?_
  have hPc := hP.sub (ws' := [(mo, .inr (9, [.int 0, .ref m_tape, .int 0, .int 0, .int 0, .int 0, .int 0, .int 0, .long 0, .int 0, .int 0, .int 0, .int 0, .ref m_readPlace, .ref m_script, .ref m_scriptLong, .int 0, .ref m_now, .ref m_refused, .int 0, .ref m_shareX, .ref m_shareY, .int 0, .int 0, .ref m_askedRow, .int 0, .ref m_kept, .int 0, .long 0, .ref m_aside, .int 0, .int 0, .ref m_spelled, .int 0, .ref m_image, .int 0]))]) [0] rfl
  refine pc_i (va_runV (As := [.int p0, .int p1, .int p2, .int 1]) (rest := []) ⟨hx, hb, hml, hown, hts⟩ (d_would l E mo m_tape m_readPlace m_script m_scriptLong m_now m_refused m_shareX m_shareY m_askedRow m_kept m_aside m_spelled m_image p0 p1 p2 1) (cwV 4 hts g_d_asked_d_would_399 rfl rfl rfl (by decide +kernel) ⟨Nat.le_of_ble_eq_true rfl, Nat.le_of_ble_eq_true rfl⟩) ⟨pP.blind, va_recv hK hPc (ci := 9) (q0 := 0) rfl rfl, (pP.pre ⟨hK, hN⟩ hPc)⟩ rfl rfl hl.1 rfl (lv_room (Nat.le_of_ble_eq_true rfl)) dX8_asked_5 ⟨Nat.le_of_ble_eq_true rfl, Nat.le_of_ble_eq_true rfl⟩) (fun r_1 hr_1 => ?_)
  obtain rfl : r_1 = -1 := hr_1
  refine lv_iconst (v := -1) hx hb dX8_asked_8 (by decide) ?_
  refine lv_icmp_ne (tgt := 16) hx hb dX8_asked_9 (by decide) (fun q => absurd (by decide) q) (fun _ => ?_)
  refine lv_iconst (v := -1) hx hb dX8_asked_12 (by decide) ?_
  refine lv_goto (tgt := 44) hx hb dX8_asked_13 (by decide) ?_
  exact W.iret (v := -1) hx hb hr (fun tt ht hW => ⟨_, rfl, rfl, ht⟩) (fun _ h => by cases h) dX8_asked_44

def v_d_walk : List Cond := .code yX8_walk cX8_walk 9 (some .int) :: ([.methodLink RX8 302 yX8_whyMove, .instanceMethod yX8_whyMove, .selects RX8 yX8_whyMove yX8_whyMove, .initialized RX8] ++ (v_d_whyMove ++ ([])))
theorem gw_d_walk : v_d_walk.all goodWord = true := by decide +kernel
theorem g_d_walk_d_whyMove_302 : GoodIn v_d_walk (wsV RX8 302 RX8 yX8_whyMove v_d_whyMove) := goodIn_app (goodIn_of _ (by decide +kernel)) (goodIn_sub (fun _ h => List.mem_cons_of_mem _ (List.mem_append_right _ (List.mem_append_left _ h))) gw_d_whyMove)
set_option maxHeartbeats 4000000 in
set_option maxRecDepth 100000 in
theorem d_walk (l : Launch) (E : EE) (mo m_tape m_readPlace m_script m_scriptLong m_now m_refused m_shareX m_shareY m_askedRow m_kept m_aside m_spelled m_image : Nat) (p0 p1 p2 p3 p4 : Int32) : Met l yX8_walk v_d_walk ({ frames := 3, cells := 0, slots := 0, locals := 70 }) (va_Pc [.ref mo, .int p0, .int p1, .int p2, .int p3, .int p4] (pP E [(mo, .inr (9, [.int 0, .ref m_tape, .int 0, .int 0, .int 0, .int 0, .int 0, .int 0, .long 0, .int 0, .int 0, .int 0, .int 0, .ref m_readPlace, .ref m_script, .ref m_scriptLong, .int 0, .ref m_now, .ref m_refused, .int 0, .ref m_shareX, .ref m_shareY, .int 0, .int 0, .ref m_askedRow, .int 0, .ref m_kept, .int 0, .long 0, .ref m_aside, .int 0, .int 0, .ref m_spelled, .int 0, .ref m_image, .int 0]))])) (vp_Si (fun r => r = -1)) 0 0 (fun _ => False) := by
  refine Met.ofW (cc := cX8_walk) (maxL := 9) (ret := (some .int)) (by decide) rfl ?_
  intro p e s m args below meth c s₁ B hml hv
  obtain ⟨rfl, ⟨hK, hN⟩, hP⟩ := hv
  have hx := B.exec
  have hb := B.bytes
  have hr := B.returns
  have hts := atoms_spec (ws := v_d_walk) B.pre
  have hown : s.vm.findClass RX8 = some m.cls := findClass_of_methodNamed B.named
  have hlocks := B.notSynchronized
  have hP : va_P E.1 vwCl [(mo, .inr (9, [.int 0, .ref m_tape, .int 0, .int 0, .int 0, .int 0, .int 0, .int 0, .long 0, .int 0, .int 0, .int 0, .int 0, .ref m_readPlace, .ref m_script, .ref m_scriptLong, .int 0, .ref m_now, .ref m_refused, .int 0, .ref m_shareX, .ref m_shareY, .int 0, .int 0, .ref m_askedRow, .int 0, .ref m_kept, .int 0, .long 0, .ref m_aside, .int 0, .int 0, .ref m_spelled, .int 0, .ref m_image, .int 0]))] s.heap := hP
  have hl := lv_entry ([.ref mo, .int p0, .int p1, .int p2, .int p3, .int p4]) (n := 9) (Nat.le_of_ble_eq_true rfl)
  rw [lg_entry_eq]
  generalize (lg_sl ([.ref mo, .int p0, .int p1, .int p2, .int p3, .int p4]) ++ List.replicate (9 - (lg_sl ([.ref mo, .int p0, .int p1, .int p2, .int p3, .int p4])).length) Slot.unset).toArray = ls at hl ⊢
  have hl : lv_has ls 9 [(0, .ref mo), (1, .int p0), (2, .int p1), (3, .int p2), (4, .int p3), (5, .int p4)] := hl
  refine lv_aload_n hx hb dX8_walk_0 rfl (lv_at hl 0 rfl) ?_
  refine lv_iload_n hx hb dX8_walk_1 rfl (lv_at hl 1 rfl) ?_
  refine lv_iload_n hx hb dX8_walk_2 rfl (lv_at hl 2 rfl) ?_
  refine lv_iload_n hx hb dX8_walk_3 rfl (lv_at hl 3 rfl) ?_
  have hPc := hP.sub (ws' := [(mo, .inr (9, [.int 0, .ref m_tape, .int 0, .int 0, .int 0, .int 0, .int 0, .int 0, .long 0, .int 0, .int 0, .int 0, .int 0, .ref m_readPlace, .ref m_script, .ref m_scriptLong, .int 0, .ref m_now, .ref m_refused, .int 0, .ref m_shareX, .ref m_shareY, .int 0, .int 0, .ref m_askedRow, .int 0, .ref m_kept, .int 0, .long 0, .ref m_aside, .int 0, .int 0, .ref m_spelled, .int 0, .ref m_image, .int 0]))]) [0] rfl
  refine pc_i (va_runV (As := [.int p0, .int p1, .int p2]) (rest := []) ⟨hx, hb, hml, hown, hts⟩ (d_whyMove l E mo m_tape m_readPlace m_script m_scriptLong m_now m_refused m_shareX m_shareY m_askedRow m_kept m_aside m_spelled m_image p0 p1 p2) (cwV 3 hts g_d_walk_d_whyMove_302 rfl rfl rfl (by decide +kernel) ⟨Nat.le_of_ble_eq_true rfl, Nat.le_of_ble_eq_true rfl⟩) ⟨pP.blind, va_recv hK hPc (ci := 9) (q0 := 0) rfl rfl, (pP.pre ⟨hK, hN⟩ hPc)⟩ rfl rfl hl.1 rfl (lv_room (Nat.le_of_ble_eq_true rfl)) dX8_walk_4 ⟨Nat.le_of_ble_eq_true rfl, Nat.le_of_ble_eq_true rfl⟩) (fun r_1 hr_1 => ?_)
  obtain rfl : r_1 = 0 := hr_1
  refine lv_iconst (v := -1) hx hb dX8_walk_7 (by decide) ?_
  refine lv_icmp_ne (tgt := 37) hx hb dX8_walk_8 (by decide) (fun _ => ?_) (fun q => absurd q (by decide))
  refine lv_iconst (v := -1) hx hb dX8_walk_37 (by decide) ?_
  exact W.iret (v := -1) hx hb hr (fun tt ht hW => ⟨_, rfl, rfl, ht⟩) (fun _ h => by cases h) dX8_walk_38

def v_d_partner : List Cond := .code yX8_partner cX8_partner 6 (some .int) :: ([.methodLink RX8 302 yX8_whyMove, .instanceMethod yX8_whyMove, .selects RX8 yX8_whyMove yX8_whyMove, .initialized RX8] ++ (v_d_whyMove ++ ([])))
theorem gw_d_partner : v_d_partner.all goodWord = true := by decide +kernel
theorem g_d_partner_d_whyMove_302 : GoodIn v_d_partner (wsV RX8 302 RX8 yX8_whyMove v_d_whyMove) := goodIn_app (goodIn_of _ (by decide +kernel)) (goodIn_sub (fun _ h => List.mem_cons_of_mem _ (List.mem_append_right _ (List.mem_append_left _ h))) gw_d_whyMove)
set_option maxHeartbeats 4000000 in
set_option maxRecDepth 100000 in
theorem d_partner (l : Launch) (E : EE) (mo m_tape m_readPlace m_script m_scriptLong m_now m_refused m_shareX m_shareY m_askedRow m_kept m_aside m_spelled m_image : Nat) (p0 p1 p2 : Int32) : Met l yX8_partner v_d_partner ({ frames := 3, cells := 0, slots := 0, locals := 70 }) (va_Pc [.ref mo, .int p0, .int p1, .int p2] (pP E [(mo, .inr (9, [.int 0, .ref m_tape, .int 0, .int 0, .int 0, .int 0, .int 0, .int 0, .long 0, .int 0, .int 0, .int 0, .int 0, .ref m_readPlace, .ref m_script, .ref m_scriptLong, .int 0, .ref m_now, .ref m_refused, .int 0, .ref m_shareX, .ref m_shareY, .int 0, .int 0, .ref m_askedRow, .int 0, .ref m_kept, .int 0, .long 0, .ref m_aside, .int 0, .int 0, .ref m_spelled, .int 0, .ref m_image, .int 0]))])) (vp_Si (fun r => r = -1)) 0 0 (fun _ => False) := by
  refine Met.ofW (cc := cX8_partner) (maxL := 6) (ret := (some .int)) (by decide) rfl ?_
  intro p e s m args below meth c s₁ B hml hv
  obtain ⟨rfl, ⟨hK, hN⟩, hP⟩ := hv
  have hx := B.exec
  have hb := B.bytes
  have hr := B.returns
  have hts := atoms_spec (ws := v_d_partner) B.pre
  have hown : s.vm.findClass RX8 = some m.cls := findClass_of_methodNamed B.named
  have hlocks := B.notSynchronized
  have hP : va_P E.1 vwCl [(mo, .inr (9, [.int 0, .ref m_tape, .int 0, .int 0, .int 0, .int 0, .int 0, .int 0, .long 0, .int 0, .int 0, .int 0, .int 0, .ref m_readPlace, .ref m_script, .ref m_scriptLong, .int 0, .ref m_now, .ref m_refused, .int 0, .ref m_shareX, .ref m_shareY, .int 0, .int 0, .ref m_askedRow, .int 0, .ref m_kept, .int 0, .long 0, .ref m_aside, .int 0, .int 0, .ref m_spelled, .int 0, .ref m_image, .int 0]))] s.heap := hP
  have hl := lv_entry ([.ref mo, .int p0, .int p1, .int p2]) (n := 6) (Nat.le_of_ble_eq_true rfl)
  rw [lg_entry_eq]
  generalize (lg_sl ([.ref mo, .int p0, .int p1, .int p2]) ++ List.replicate (6 - (lg_sl ([.ref mo, .int p0, .int p1, .int p2])).length) Slot.unset).toArray = ls at hl ⊢
  have hl : lv_has ls 6 [(0, .ref mo), (1, .int p0), (2, .int p1), (3, .int p2)] := hl
  refine lv_aload_n hx hb dX8_partner_0 rfl (lv_at hl 0 rfl) ?_
  refine lv_iload_n hx hb dX8_partner_1 rfl (lv_at hl 1 rfl) ?_
  refine lv_iload_n hx hb dX8_partner_2 rfl (lv_at hl 2 rfl) ?_
  refine lv_iload_n hx hb dX8_partner_3 rfl (lv_at hl 3 rfl) ?_
  have hPc := hP.sub (ws' := [(mo, .inr (9, [.int 0, .ref m_tape, .int 0, .int 0, .int 0, .int 0, .int 0, .int 0, .long 0, .int 0, .int 0, .int 0, .int 0, .ref m_readPlace, .ref m_script, .ref m_scriptLong, .int 0, .ref m_now, .ref m_refused, .int 0, .ref m_shareX, .ref m_shareY, .int 0, .int 0, .ref m_askedRow, .int 0, .ref m_kept, .int 0, .long 0, .ref m_aside, .int 0, .int 0, .ref m_spelled, .int 0, .ref m_image, .int 0]))]) [0] rfl
  refine pc_i (va_runV (As := [.int p0, .int p1, .int p2]) (rest := []) ⟨hx, hb, hml, hown, hts⟩ (d_whyMove l E mo m_tape m_readPlace m_script m_scriptLong m_now m_refused m_shareX m_shareY m_askedRow m_kept m_aside m_spelled m_image p0 p1 p2) (cwV 3 hts g_d_partner_d_whyMove_302 rfl rfl rfl (by decide +kernel) ⟨Nat.le_of_ble_eq_true rfl, Nat.le_of_ble_eq_true rfl⟩) ⟨pP.blind, va_recv hK hPc (ci := 9) (q0 := 0) rfl rfl, (pP.pre ⟨hK, hN⟩ hPc)⟩ rfl rfl hl.1 rfl (lv_room (Nat.le_of_ble_eq_true rfl)) dX8_partner_4 ⟨Nat.le_of_ble_eq_true rfl, Nat.le_of_ble_eq_true rfl⟩) (fun r_1 hr_1 => ?_)
  obtain rfl : r_1 = 0 := hr_1
  refine lv_iconst (v := -1) hx hb dX8_partner_7 (by decide) ?_
  refine lv_icmp_eq (tgt := 13) hx hb dX8_partner_8 (by decide) (fun q => absurd q (by decide)) (fun _ => ?_)
  refine lv_iconst (v := -1) hx hb dX8_partner_11 (by decide) ?_
  exact W.iret (v := -1) hx hb hr (fun tt ht hW => ⟨_, rfl, rfl, ht⟩) (fun _ h => by cases h) dX8_partner_12

def v_d_race : List Cond := .code yX8_race cX8_race 4 (some .int) :: ([.methodLink RX8 299 yX8_isWatch, .instanceMethod yX8_isWatch, .selects RX8 yX8_isWatch yX8_isWatch, .initialized RX8] ++ (v_d_isWatch ++ ([])))
theorem gw_d_race : v_d_race.all goodWord = true := by decide +kernel
theorem g_d_race_d_isWatch_299 : GoodIn v_d_race (wsV RX8 299 RX8 yX8_isWatch v_d_isWatch) := goodIn_app (goodIn_of _ (by decide +kernel)) (goodIn_sub (fun _ h => List.mem_cons_of_mem _ (List.mem_append_right _ (List.mem_append_left _ h))) gw_d_isWatch)
set_option maxHeartbeats 4000000 in
set_option maxRecDepth 100000 in
theorem d_race (l : Launch) (E : EE) (mo m_tape m_readPlace m_script m_scriptLong m_now m_refused m_shareX m_shareY m_askedRow m_kept m_aside m_spelled m_image : Nat) (p0 p1 p2 : Int32) : Met l yX8_race v_d_race ({ frames := 1, cells := 0, slots := 0, locals := 20 }) (va_Pc [.ref mo, .int p0, .int p1, .int p2] (pP E [(mo, .inr (9, [.int 0, .ref m_tape, .int 0, .int 0, .int 0, .int 0, .int 0, .int 0, .long 0, .int 0, .int 0, .int 0, .int 0, .ref m_readPlace, .ref m_script, .ref m_scriptLong, .int 0, .ref m_now, .ref m_refused, .int 0, .ref m_shareX, .ref m_shareY, .int 0, .int 0, .ref m_askedRow, .int 0, .ref m_kept, .int 0, .long 0, .ref m_aside, .int 0, .int 0, .ref m_spelled, .int 0, .ref m_image, .int 0]))])) (vp_Si (fun r => r = -1)) 0 0 (fun _ => False) := by
  refine Met.ofW (cc := cX8_race) (maxL := 4) (ret := (some .int)) (by decide) rfl ?_
  intro p e s m args below meth c s₁ B hml hv
  obtain ⟨rfl, ⟨hK, hN⟩, hP⟩ := hv
  have hx := B.exec
  have hb := B.bytes
  have hr := B.returns
  have hts := atoms_spec (ws := v_d_race) B.pre
  have hown : s.vm.findClass RX8 = some m.cls := findClass_of_methodNamed B.named
  have hlocks := B.notSynchronized
  have hP : va_P E.1 vwCl [(mo, .inr (9, [.int 0, .ref m_tape, .int 0, .int 0, .int 0, .int 0, .int 0, .int 0, .long 0, .int 0, .int 0, .int 0, .int 0, .ref m_readPlace, .ref m_script, .ref m_scriptLong, .int 0, .ref m_now, .ref m_refused, .int 0, .ref m_shareX, .ref m_shareY, .int 0, .int 0, .ref m_askedRow, .int 0, .ref m_kept, .int 0, .long 0, .ref m_aside, .int 0, .int 0, .ref m_spelled, .int 0, .ref m_image, .int 0]))] s.heap := hP
  have hl := lv_entry ([.ref mo, .int p0, .int p1, .int p2]) (n := 4) (Nat.le_of_ble_eq_true rfl)
  rw [lg_entry_eq]
  generalize (lg_sl ([.ref mo, .int p0, .int p1, .int p2]) ++ List.replicate (4 - (lg_sl ([.ref mo, .int p0, .int p1, .int p2])).length) Slot.unset).toArray = ls at hl ⊢
  have hl : lv_has ls 4 [(0, .ref mo), (1, .int p0), (2, .int p1), (3, .int p2)] := hl
  refine lv_aload_n hx hb dX8_race_0 rfl (lv_at hl 0 rfl) ?_
  have hPc := hP.sub (ws' := [(mo, .inr (9, [.int 0, .ref m_tape, .int 0, .int 0, .int 0, .int 0, .int 0, .int 0, .long 0, .int 0, .int 0, .int 0, .int 0, .ref m_readPlace, .ref m_script, .ref m_scriptLong, .int 0, .ref m_now, .ref m_refused, .int 0, .ref m_shareX, .ref m_shareY, .int 0, .int 0, .ref m_askedRow, .int 0, .ref m_kept, .int 0, .long 0, .ref m_aside, .int 0, .int 0, .ref m_spelled, .int 0, .ref m_image, .int 0]))]) [0] rfl
  refine pc_i (va_runV (As := []) (rest := []) ⟨hx, hb, hml, hown, hts⟩ (d_isWatch l E mo m_tape m_readPlace m_script m_scriptLong m_now m_refused m_shareX m_shareY m_askedRow m_kept m_aside m_spelled m_image) (cwV 0 hts g_d_race_d_isWatch_299 rfl rfl rfl (by decide +kernel) ⟨Nat.le_of_ble_eq_true rfl, Nat.le_of_ble_eq_true rfl⟩) ⟨pP.blind, va_recv hK hPc (ci := 9) (q0 := 0) rfl rfl, (pP.pre ⟨hK, hN⟩ hPc)⟩ rfl rfl hl.1 rfl (lv_room (Nat.le_of_ble_eq_true rfl)) dX8_race_1 ⟨Nat.le_of_ble_eq_true rfl, Nat.le_of_ble_eq_true rfl⟩) (fun r_1 hr_1 => ?_)
  obtain rfl : r_1 = 0 := hr_1
  refine lv_if_eq (tgt := 25) hx hb dX8_race_4 (by decide) (fun _ => ?_) (fun q => absurd (by decide) q)
  refine lv_iconst (v := -1) hx hb dX8_race_25 (by decide) ?_
  exact W.iret (v := -1) hx hb hr (fun tt ht hW => ⟨_, rfl, rfl, ht⟩) (fun _ h => by cases h) dX8_race_26

def v_d_needs : List Cond := .code yX8_needs cX8_needs 4 (some .long) :: ([.constantLong RX8 383 (-100000000), .methodLink RX8 302 yX8_whyMove, .instanceMethod yX8_whyMove, .selects RX8 yX8_whyMove yX8_whyMove, .initialized RX8] ++ (v_d_whyMove ++ ([])))
theorem gw_d_needs : v_d_needs.all goodWord = true := by decide +kernel
theorem g_d_needs_d_whyMove_302 : GoodIn v_d_needs (wsV RX8 302 RX8 yX8_whyMove v_d_whyMove) := goodIn_app (goodIn_of _ (by decide +kernel)) (goodIn_sub (fun _ h => List.mem_cons_of_mem _ (List.mem_append_right _ (List.mem_append_left _ h))) gw_d_whyMove)
set_option maxHeartbeats 4000000 in
set_option maxRecDepth 100000 in
theorem d_needs (l : Launch) (E : EE) (mo m_tape m_readPlace m_script m_scriptLong m_now m_refused m_shareX m_shareY m_askedRow m_kept m_aside m_spelled m_image : Nat) (p0 p1 p2 : Int32) : Met l yX8_needs v_d_needs ({ frames := 3, cells := 0, slots := 0, locals := 70 }) (va_Pc [.ref mo, .int p0, .int p1, .int p2] (pP E [(mo, .inr (9, [.int 0, .ref m_tape, .int 0, .int 0, .int 0, .int 0, .int 0, .int 0, .long 0, .int 0, .int 0, .int 0, .int 0, .ref m_readPlace, .ref m_script, .ref m_scriptLong, .int 0, .ref m_now, .ref m_refused, .int 0, .ref m_shareX, .ref m_shareY, .int 0, .int 0, .ref m_askedRow, .int 0, .ref m_kept, .int 0, .long 0, .ref m_aside, .int 0, .int 0, .ref m_spelled, .int 0, .ref m_image, .int 0]))])) (vp_Sl (fun r => r = -100000000)) 0 0 (fun _ => False) := by
  refine Met.ofW (cc := cX8_needs) (maxL := 4) (ret := (some .long)) (by decide) rfl ?_
  intro p e s m args below meth c s₁ B hml hv
  obtain ⟨rfl, ⟨hK, hN⟩, hP⟩ := hv
  have hx := B.exec
  have hb := B.bytes
  have hr := B.returns
  have hts := atoms_spec (ws := v_d_needs) B.pre
  have hown : s.vm.findClass RX8 = some m.cls := findClass_of_methodNamed B.named
  have hlocks := B.notSynchronized
  have hP : va_P E.1 vwCl [(mo, .inr (9, [.int 0, .ref m_tape, .int 0, .int 0, .int 0, .int 0, .int 0, .int 0, .long 0, .int 0, .int 0, .int 0, .int 0, .ref m_readPlace, .ref m_script, .ref m_scriptLong, .int 0, .ref m_now, .ref m_refused, .int 0, .ref m_shareX, .ref m_shareY, .int 0, .int 0, .ref m_askedRow, .int 0, .ref m_kept, .int 0, .long 0, .ref m_aside, .int 0, .int 0, .ref m_spelled, .int 0, .ref m_image, .int 0]))] s.heap := hP
  have hl := lv_entry ([.ref mo, .int p0, .int p1, .int p2]) (n := 4) (Nat.le_of_ble_eq_true rfl)
  rw [lg_entry_eq]
  generalize (lg_sl ([.ref mo, .int p0, .int p1, .int p2]) ++ List.replicate (4 - (lg_sl ([.ref mo, .int p0, .int p1, .int p2])).length) Slot.unset).toArray = ls at hl ⊢
  have hl : lv_has ls 4 [(0, .ref mo), (1, .int p0), (2, .int p1), (3, .int p2)] := hl
  refine lv_aload_n hx hb dX8_needs_0 rfl (lv_at hl 0 rfl) ?_
  refine lv_iload_n hx hb dX8_needs_1 rfl (lv_at hl 1 rfl) ?_
  refine lv_iload_n hx hb dX8_needs_2 rfl (lv_at hl 2 rfl) ?_
  refine lv_iload_n hx hb dX8_needs_3 rfl (lv_at hl 3 rfl) ?_
  have hPc := hP.sub (ws' := [(mo, .inr (9, [.int 0, .ref m_tape, .int 0, .int 0, .int 0, .int 0, .int 0, .int 0, .long 0, .int 0, .int 0, .int 0, .int 0, .ref m_readPlace, .ref m_script, .ref m_scriptLong, .int 0, .ref m_now, .ref m_refused, .int 0, .ref m_shareX, .ref m_shareY, .int 0, .int 0, .ref m_askedRow, .int 0, .ref m_kept, .int 0, .long 0, .ref m_aside, .int 0, .int 0, .ref m_spelled, .int 0, .ref m_image, .int 0]))]) [0] rfl
  refine pc_i (va_runV (As := [.int p0, .int p1, .int p2]) (rest := []) ⟨hx, hb, hml, hown, hts⟩ (d_whyMove l E mo m_tape m_readPlace m_script m_scriptLong m_now m_refused m_shareX m_shareY m_askedRow m_kept m_aside m_spelled m_image p0 p1 p2) (cwV 3 hts g_d_needs_d_whyMove_302 rfl rfl rfl (by decide +kernel) ⟨Nat.le_of_ble_eq_true rfl, Nat.le_of_ble_eq_true rfl⟩) ⟨pP.blind, va_recv hK hPc (ci := 9) (q0 := 0) rfl rfl, (pP.pre ⟨hK, hN⟩ hPc)⟩ rfl rfl hl.1 rfl (lv_room (Nat.le_of_ble_eq_true rfl)) dX8_needs_4 ⟨Nat.le_of_ble_eq_true rfl, Nat.le_of_ble_eq_true rfl⟩) (fun r_1 hr_1 => ?_)
  obtain rfl : r_1 = 0 := hr_1
  refine lv_iconst (v := -1) hx hb dX8_needs_7 (by decide) ?_
  refine lv_icmp_ne (tgt := 44) hx hb dX8_needs_8 (by decide) (fun _ => ?_) (fun q => absurd q (by decide))
  refine lv_ldc2 (v := -100000000) hx hb hown (hts (.constantLong RX8 383 (-100000000)) (List.mem_of_getElem? (i := 1) rfl)) dX8_needs_44 ?_
  exact W.lret (v := -100000000) hx hb hr (fun tt ht hW => ⟨_, rfl, rfl, ht⟩) (fun _ h => by cases h) dX8_needs_47

def v_d_span : List Cond := .code yX8_span cX8_span 6 (some .int) :: ([.constant RX8 182 (-100000000), .methodLink RX8 278 yX8_isSite, .instanceMethod yX8_isSite, .selects RX8 yX8_isSite yX8_isSite, .initialized RX8] ++ (v_d_isSite ++ ([])))
theorem gw_d_span : v_d_span.all goodWord = true := by decide +kernel
theorem g_d_span_d_isSite_278 : GoodIn v_d_span (wsV RX8 278 RX8 yX8_isSite v_d_isSite) := goodIn_app (goodIn_of _ (by decide +kernel)) (goodIn_sub (fun _ h => List.mem_cons_of_mem _ (List.mem_append_right _ (List.mem_append_left _ h))) gw_d_isSite)
set_option maxHeartbeats 4000000 in
set_option maxRecDepth 100000 in
theorem d_span (l : Launch) (E : EE) (mo m_tape m_readPlace m_script m_scriptLong m_now m_refused m_shareX m_shareY m_askedRow m_kept m_aside m_spelled m_image : Nat) (p0 p1 p2 : Int32) : Met l yX8_span v_d_span ({ frames := 2, cells := 0, slots := 0, locals := 46 }) (va_Pc [.ref mo, .int p0, .int p1, .int p2] (pP E [(mo, .inr (9, [.int 0, .ref m_tape, .int 0, .int 0, .int 0, .int 0, .int 0, .int 0, .long 0, .int 0, .int 0, .int 0, .int 0, .ref m_readPlace, .ref m_script, .ref m_scriptLong, .int 0, .ref m_now, .ref m_refused, .int 0, .ref m_shareX, .ref m_shareY, .int 0, .int 0, .ref m_askedRow, .int 0, .ref m_kept, .int 0, .long 0, .ref m_aside, .int 0, .int 0, .ref m_spelled, .int 0, .ref m_image, .int 0]))])) (vp_Si (fun r => r = -100000000)) 0 0 (fun _ => False) := by
  refine Met.ofW (cc := cX8_span) (maxL := 6) (ret := (some .int)) (by decide) rfl ?_
  intro p e s m args below meth c s₁ B hml hv
  obtain ⟨rfl, ⟨hK, hN⟩, hP⟩ := hv
  have hx := B.exec
  have hb := B.bytes
  have hr := B.returns
  have hts := atoms_spec (ws := v_d_span) B.pre
  have hown : s.vm.findClass RX8 = some m.cls := findClass_of_methodNamed B.named
  have hlocks := B.notSynchronized
  have hP : va_P E.1 vwCl [(mo, .inr (9, [.int 0, .ref m_tape, .int 0, .int 0, .int 0, .int 0, .int 0, .int 0, .long 0, .int 0, .int 0, .int 0, .int 0, .ref m_readPlace, .ref m_script, .ref m_scriptLong, .int 0, .ref m_now, .ref m_refused, .int 0, .ref m_shareX, .ref m_shareY, .int 0, .int 0, .ref m_askedRow, .int 0, .ref m_kept, .int 0, .long 0, .ref m_aside, .int 0, .int 0, .ref m_spelled, .int 0, .ref m_image, .int 0]))] s.heap := hP
  have hl := lv_entry ([.ref mo, .int p0, .int p1, .int p2]) (n := 6) (Nat.le_of_ble_eq_true rfl)
  rw [lg_entry_eq]
  generalize (lg_sl ([.ref mo, .int p0, .int p1, .int p2]) ++ List.replicate (6 - (lg_sl ([.ref mo, .int p0, .int p1, .int p2])).length) Slot.unset).toArray = ls at hl ⊢
  have hl : lv_has ls 6 [(0, .ref mo), (1, .int p0), (2, .int p1), (3, .int p2)] := hl
  refine lv_aload_n hx hb dX8_span_0 rfl (lv_at hl 0 rfl) ?_
  refine lv_iload_n hx hb dX8_span_1 rfl (lv_at hl 1 rfl) ?_
  have hPc := hP.sub (ws' := [(mo, .inr (9, [.int 0, .ref m_tape, .int 0, .int 0, .int 0, .int 0, .int 0, .int 0, .long 0, .int 0, .int 0, .int 0, .int 0, .ref m_readPlace, .ref m_script, .ref m_scriptLong, .int 0, .ref m_now, .ref m_refused, .int 0, .ref m_shareX, .ref m_shareY, .int 0, .int 0, .ref m_askedRow, .int 0, .ref m_kept, .int 0, .long 0, .ref m_aside, .int 0, .int 0, .ref m_spelled, .int 0, .ref m_image, .int 0]))]) [0] rfl
  refine pc_i (va_runV (As := [.int p0]) (rest := []) ⟨hx, hb, hml, hown, hts⟩ (d_isSite l E mo m_tape m_readPlace m_script m_scriptLong m_now m_refused m_shareX m_shareY m_askedRow m_kept m_aside m_spelled m_image p0) (cwV 1 hts g_d_span_d_isSite_278 rfl rfl rfl (by decide +kernel) ⟨Nat.le_of_ble_eq_true rfl, Nat.le_of_ble_eq_true rfl⟩) ⟨pP.blind, va_recv hK hPc (ci := 9) (q0 := 0) rfl rfl, (pP.pre ⟨hK, hN⟩ hPc)⟩ rfl rfl hl.1 rfl (lv_room (Nat.le_of_ble_eq_true rfl)) dX8_span_2 ⟨Nat.le_of_ble_eq_true rfl, Nat.le_of_ble_eq_true rfl⟩) (fun r_1 hr_1 => ?_)
  obtain rfl : r_1 = 0 := hr_1
  refine lv_if_eq (tgt := 26) hx hb dX8_span_5 (by decide) (fun _ => ?_) (fun q => absurd (by decide) q)
  refine lv_ldc (v := -100000000) hx hb hown (hts (.constant RX8 182 (-100000000)) (List.mem_of_getElem? (i := 1) rfl)) dX8_span_26 ?_
  exact W.iret (v := -100000000) hx hb hr (fun tt ht hW => ⟨_, rfl, rfl, ht⟩) (fun _ h => by cases h) dX8_span_28

def v_d_goes : List Cond := .code yX8_goes cX8_goes 5 (some .int) :: ([.methodLink RX8 278 yX8_isSite, .instanceMethod yX8_isSite, .selects RX8 yX8_isSite yX8_isSite, .initialized RX8] ++ (v_d_isSite ++ ([])))
theorem gw_d_goes : v_d_goes.all goodWord = true := by decide +kernel
theorem g_d_goes_d_isSite_278 : GoodIn v_d_goes (wsV RX8 278 RX8 yX8_isSite v_d_isSite) := goodIn_app (goodIn_of _ (by decide +kernel)) (goodIn_sub (fun _ h => List.mem_cons_of_mem _ (List.mem_append_right _ (List.mem_append_left _ h))) gw_d_isSite)
set_option maxHeartbeats 4000000 in
set_option maxRecDepth 100000 in
theorem d_goes (l : Launch) (E : EE) (mo m_tape m_readPlace m_script m_scriptLong m_now m_refused m_shareX m_shareY m_askedRow m_kept m_aside m_spelled m_image : Nat) (p0 p1 : Int32) : Met l yX8_goes v_d_goes ({ frames := 2, cells := 0, slots := 0, locals := 46 }) (va_Pc [.ref mo, .int p0, .int p1] (pP E [(mo, .inr (9, [.int 0, .ref m_tape, .int 0, .int 0, .int 0, .int 0, .int 0, .int 0, .long 0, .int 0, .int 0, .int 0, .int 0, .ref m_readPlace, .ref m_script, .ref m_scriptLong, .int 0, .ref m_now, .ref m_refused, .int 0, .ref m_shareX, .ref m_shareY, .int 0, .int 0, .ref m_askedRow, .int 0, .ref m_kept, .int 0, .long 0, .ref m_aside, .int 0, .int 0, .ref m_spelled, .int 0, .ref m_image, .int 0]))])) (vp_Si (fun r => r = -1)) 0 0 (fun _ => False) := by
  refine Met.ofW (cc := cX8_goes) (maxL := 5) (ret := (some .int)) (by decide) rfl ?_
  intro p e s m args below meth c s₁ B hml hv
  obtain ⟨rfl, ⟨hK, hN⟩, hP⟩ := hv
  have hx := B.exec
  have hb := B.bytes
  have hr := B.returns
  have hts := atoms_spec (ws := v_d_goes) B.pre
  have hown : s.vm.findClass RX8 = some m.cls := findClass_of_methodNamed B.named
  have hlocks := B.notSynchronized
  have hP : va_P E.1 vwCl [(mo, .inr (9, [.int 0, .ref m_tape, .int 0, .int 0, .int 0, .int 0, .int 0, .int 0, .long 0, .int 0, .int 0, .int 0, .int 0, .ref m_readPlace, .ref m_script, .ref m_scriptLong, .int 0, .ref m_now, .ref m_refused, .int 0, .ref m_shareX, .ref m_shareY, .int 0, .int 0, .ref m_askedRow, .int 0, .ref m_kept, .int 0, .long 0, .ref m_aside, .int 0, .int 0, .ref m_spelled, .int 0, .ref m_image, .int 0]))] s.heap := hP
  have hl := lv_entry ([.ref mo, .int p0, .int p1]) (n := 5) (Nat.le_of_ble_eq_true rfl)
  rw [lg_entry_eq]
  generalize (lg_sl ([.ref mo, .int p0, .int p1]) ++ List.replicate (5 - (lg_sl ([.ref mo, .int p0, .int p1])).length) Slot.unset).toArray = ls at hl ⊢
  have hl : lv_has ls 5 [(0, .ref mo), (1, .int p0), (2, .int p1)] := hl
  refine lv_aload_n hx hb dX8_goes_0 rfl (lv_at hl 0 rfl) ?_
  refine lv_iload_n hx hb dX8_goes_1 rfl (lv_at hl 1 rfl) ?_
  have hPc := hP.sub (ws' := [(mo, .inr (9, [.int 0, .ref m_tape, .int 0, .int 0, .int 0, .int 0, .int 0, .int 0, .long 0, .int 0, .int 0, .int 0, .int 0, .ref m_readPlace, .ref m_script, .ref m_scriptLong, .int 0, .ref m_now, .ref m_refused, .int 0, .ref m_shareX, .ref m_shareY, .int 0, .int 0, .ref m_askedRow, .int 0, .ref m_kept, .int 0, .long 0, .ref m_aside, .int 0, .int 0, .ref m_spelled, .int 0, .ref m_image, .int 0]))]) [0] rfl
  refine pc_i (va_runV (As := [.int p0]) (rest := []) ⟨hx, hb, hml, hown, hts⟩ (d_isSite l E mo m_tape m_readPlace m_script m_scriptLong m_now m_refused m_shareX m_shareY m_askedRow m_kept m_aside m_spelled m_image p0) (cwV 1 hts g_d_goes_d_isSite_278 rfl rfl rfl (by decide +kernel) ⟨Nat.le_of_ble_eq_true rfl, Nat.le_of_ble_eq_true rfl⟩) ⟨pP.blind, va_recv hK hPc (ci := 9) (q0 := 0) rfl rfl, (pP.pre ⟨hK, hN⟩ hPc)⟩ rfl rfl hl.1 rfl (lv_room (Nat.le_of_ble_eq_true rfl)) dX8_goes_2 ⟨Nat.le_of_ble_eq_true rfl, Nat.le_of_ble_eq_true rfl⟩) (fun r_1 hr_1 => ?_)
  obtain rfl : r_1 = 0 := hr_1
  refine lv_if_eq (tgt := 25) hx hb dX8_goes_5 (by decide) (fun _ => ?_) (fun q => absurd (by decide) q)
  refine lv_iconst (v := -1) hx hb dX8_goes_25 (by decide) ?_
  exact W.iret (v := -1) hx hb hr (fun tt ht hW => ⟨_, rfl, rfl, ht⟩) (fun _ h => by cases h) dX8_goes_26

def v_d_fair : List Cond := .code yX8_fair cX8_fair 5 (some .int) :: ([.methodLink RX8 299 yX8_isWatch, .instanceMethod yX8_isWatch, .selects RX8 yX8_isWatch yX8_isWatch, .initialized RX8] ++ (v_d_isWatch ++ ([])))
theorem gw_d_fair : v_d_fair.all goodWord = true := by decide +kernel
theorem g_d_fair_d_isWatch_299 : GoodIn v_d_fair (wsV RX8 299 RX8 yX8_isWatch v_d_isWatch) := goodIn_app (goodIn_of _ (by decide +kernel)) (goodIn_sub (fun _ h => List.mem_cons_of_mem _ (List.mem_append_right _ (List.mem_append_left _ h))) gw_d_isWatch)
set_option maxHeartbeats 4000000 in
set_option maxRecDepth 100000 in
theorem d_fair (l : Launch) (E : EE) (mo m_tape m_readPlace m_script m_scriptLong m_now m_refused m_shareX m_shareY m_askedRow m_kept m_aside m_spelled m_image : Nat) (p0 : Int32) : Met l yX8_fair v_d_fair ({ frames := 1, cells := 0, slots := 0, locals := 20 }) (va_Pc [.ref mo, .int p0] (pP E [(mo, .inr (9, [.int 0, .ref m_tape, .int 0, .int 0, .int 0, .int 0, .int 0, .int 0, .long 0, .int 0, .int 0, .int 0, .int 0, .ref m_readPlace, .ref m_script, .ref m_scriptLong, .int 0, .ref m_now, .ref m_refused, .int 0, .ref m_shareX, .ref m_shareY, .int 0, .int 0, .ref m_askedRow, .int 0, .ref m_kept, .int 0, .long 0, .ref m_aside, .int 0, .int 0, .ref m_spelled, .int 0, .ref m_image, .int 0]))])) (vp_Si (fun r => r = -1)) 0 0 (fun _ => False) := by
  refine Met.ofW (cc := cX8_fair) (maxL := 5) (ret := (some .int)) (by decide) rfl ?_
  intro p e s m args below meth c s₁ B hml hv
  obtain ⟨rfl, ⟨hK, hN⟩, hP⟩ := hv
  have hx := B.exec
  have hb := B.bytes
  have hr := B.returns
  have hts := atoms_spec (ws := v_d_fair) B.pre
  have hown : s.vm.findClass RX8 = some m.cls := findClass_of_methodNamed B.named
  have hlocks := B.notSynchronized
  have hP : va_P E.1 vwCl [(mo, .inr (9, [.int 0, .ref m_tape, .int 0, .int 0, .int 0, .int 0, .int 0, .int 0, .long 0, .int 0, .int 0, .int 0, .int 0, .ref m_readPlace, .ref m_script, .ref m_scriptLong, .int 0, .ref m_now, .ref m_refused, .int 0, .ref m_shareX, .ref m_shareY, .int 0, .int 0, .ref m_askedRow, .int 0, .ref m_kept, .int 0, .long 0, .ref m_aside, .int 0, .int 0, .ref m_spelled, .int 0, .ref m_image, .int 0]))] s.heap := hP
  have hl := lv_entry ([.ref mo, .int p0]) (n := 5) (Nat.le_of_ble_eq_true rfl)
  rw [lg_entry_eq]
  generalize (lg_sl ([.ref mo, .int p0]) ++ List.replicate (5 - (lg_sl ([.ref mo, .int p0])).length) Slot.unset).toArray = ls at hl ⊢
  have hl : lv_has ls 5 [(0, .ref mo), (1, .int p0)] := hl
  refine lv_aload_n hx hb dX8_fair_0 rfl (lv_at hl 0 rfl) ?_
  have hPc := hP.sub (ws' := [(mo, .inr (9, [.int 0, .ref m_tape, .int 0, .int 0, .int 0, .int 0, .int 0, .int 0, .long 0, .int 0, .int 0, .int 0, .int 0, .ref m_readPlace, .ref m_script, .ref m_scriptLong, .int 0, .ref m_now, .ref m_refused, .int 0, .ref m_shareX, .ref m_shareY, .int 0, .int 0, .ref m_askedRow, .int 0, .ref m_kept, .int 0, .long 0, .ref m_aside, .int 0, .int 0, .ref m_spelled, .int 0, .ref m_image, .int 0]))]) [0] rfl
  refine pc_i (va_runV (As := []) (rest := []) ⟨hx, hb, hml, hown, hts⟩ (d_isWatch l E mo m_tape m_readPlace m_script m_scriptLong m_now m_refused m_shareX m_shareY m_askedRow m_kept m_aside m_spelled m_image) (cwV 0 hts g_d_fair_d_isWatch_299 rfl rfl rfl (by decide +kernel) ⟨Nat.le_of_ble_eq_true rfl, Nat.le_of_ble_eq_true rfl⟩) ⟨pP.blind, va_recv hK hPc (ci := 9) (q0 := 0) rfl rfl, (pP.pre ⟨hK, hN⟩ hPc)⟩ rfl rfl hl.1 rfl (lv_room (Nat.le_of_ble_eq_true rfl)) dX8_fair_1 ⟨Nat.le_of_ble_eq_true rfl, Nat.le_of_ble_eq_true rfl⟩) (fun r_1 hr_1 => ?_)
  obtain rfl : r_1 = 0 := hr_1
  refine lv_if_eq (tgt := 17) hx hb dX8_fair_4 (by decide) (fun _ => ?_) (fun q => absurd (by decide) q)
  refine lv_iconst (v := -1) hx hb dX8_fair_17 (by decide) ?_
  exact W.iret (v := -1) hx hb hr (fun tt ht hW => ⟨_, rfl, rfl, ht⟩) (fun _ h => by cases h) dX8_fair_18

def v_d_spell : List Cond := .code yX8_spell cX8_spell 3 (some .int) :: ([.methodLink RX8 278 yX8_isSite, .instanceMethod yX8_isSite, .selects RX8 yX8_isSite yX8_isSite, .initialized RX8] ++ (v_d_isSite ++ ([])))
theorem gw_d_spell : v_d_spell.all goodWord = true := by decide +kernel
theorem g_d_spell_d_isSite_278 : GoodIn v_d_spell (wsV RX8 278 RX8 yX8_isSite v_d_isSite) := goodIn_app (goodIn_of _ (by decide +kernel)) (goodIn_sub (fun _ h => List.mem_cons_of_mem _ (List.mem_append_right _ (List.mem_append_left _ h))) gw_d_isSite)
set_option maxHeartbeats 4000000 in
set_option maxRecDepth 100000 in
theorem d_spell (l : Launch) (E : EE) (mo m_tape m_readPlace m_script m_scriptLong m_now m_refused m_shareX m_shareY m_askedRow m_kept m_aside m_spelled m_image : Nat) (p0 p1 : Int32) : Met l yX8_spell v_d_spell ({ frames := 2, cells := 0, slots := 0, locals := 46 }) (va_Pc [.ref mo, .int p0, .int p1] (pP E [(mo, .inr (9, [.int 0, .ref m_tape, .int 0, .int 0, .int 0, .int 0, .int 0, .int 0, .long 0, .int 0, .int 0, .int 0, .int 0, .ref m_readPlace, .ref m_script, .ref m_scriptLong, .int 0, .ref m_now, .ref m_refused, .int 0, .ref m_shareX, .ref m_shareY, .int 0, .int 0, .ref m_askedRow, .int 0, .ref m_kept, .int 0, .long 0, .ref m_aside, .int 0, .int 0, .ref m_spelled, .int 0, .ref m_image, .int 0]))])) (vp_Si (fun r => r = -1)) 0 0 (fun _ => False) := by
  refine Met.ofW (cc := cX8_spell) (maxL := 3) (ret := (some .int)) (by decide) rfl ?_
  intro p e s m args below meth c s₁ B hml hv
  obtain ⟨rfl, ⟨hK, hN⟩, hP⟩ := hv
  have hx := B.exec
  have hb := B.bytes
  have hr := B.returns
  have hts := atoms_spec (ws := v_d_spell) B.pre
  have hown : s.vm.findClass RX8 = some m.cls := findClass_of_methodNamed B.named
  have hlocks := B.notSynchronized
  have hP : va_P E.1 vwCl [(mo, .inr (9, [.int 0, .ref m_tape, .int 0, .int 0, .int 0, .int 0, .int 0, .int 0, .long 0, .int 0, .int 0, .int 0, .int 0, .ref m_readPlace, .ref m_script, .ref m_scriptLong, .int 0, .ref m_now, .ref m_refused, .int 0, .ref m_shareX, .ref m_shareY, .int 0, .int 0, .ref m_askedRow, .int 0, .ref m_kept, .int 0, .long 0, .ref m_aside, .int 0, .int 0, .ref m_spelled, .int 0, .ref m_image, .int 0]))] s.heap := hP
  have hl := lv_entry ([.ref mo, .int p0, .int p1]) (n := 3) (Nat.le_of_ble_eq_true rfl)
  rw [lg_entry_eq]
  generalize (lg_sl ([.ref mo, .int p0, .int p1]) ++ List.replicate (3 - (lg_sl ([.ref mo, .int p0, .int p1])).length) Slot.unset).toArray = ls at hl ⊢
  have hl : lv_has ls 3 [(0, .ref mo), (1, .int p0), (2, .int p1)] := hl
  refine lv_aload_n hx hb dX8_spell_0 rfl (lv_at hl 0 rfl) ?_
  refine lv_iload_n hx hb dX8_spell_1 rfl (lv_at hl 1 rfl) ?_
  have hPc := hP.sub (ws' := [(mo, .inr (9, [.int 0, .ref m_tape, .int 0, .int 0, .int 0, .int 0, .int 0, .int 0, .long 0, .int 0, .int 0, .int 0, .int 0, .ref m_readPlace, .ref m_script, .ref m_scriptLong, .int 0, .ref m_now, .ref m_refused, .int 0, .ref m_shareX, .ref m_shareY, .int 0, .int 0, .ref m_askedRow, .int 0, .ref m_kept, .int 0, .long 0, .ref m_aside, .int 0, .int 0, .ref m_spelled, .int 0, .ref m_image, .int 0]))]) [0] rfl
  refine pc_i (va_runV (As := [.int p0]) (rest := []) ⟨hx, hb, hml, hown, hts⟩ (d_isSite l E mo m_tape m_readPlace m_script m_scriptLong m_now m_refused m_shareX m_shareY m_askedRow m_kept m_aside m_spelled m_image p0) (cwV 1 hts g_d_spell_d_isSite_278 rfl rfl rfl (by decide +kernel) ⟨Nat.le_of_ble_eq_true rfl, Nat.le_of_ble_eq_true rfl⟩) ⟨pP.blind, va_recv hK hPc (ci := 9) (q0 := 0) rfl rfl, (pP.pre ⟨hK, hN⟩ hPc)⟩ rfl rfl hl.1 rfl (lv_room (Nat.le_of_ble_eq_true rfl)) dX8_spell_2 ⟨Nat.le_of_ble_eq_true rfl, Nat.le_of_ble_eq_true rfl⟩) (fun r_1 hr_1 => ?_)
  obtain rfl : r_1 = 0 := hr_1
  refine lv_if_ne (tgt := 10) hx hb dX8_spell_5 (by decide) (fun q => absurd (by decide) q) (fun _ => ?_)
  refine lv_iconst (v := -1) hx hb dX8_spell_8 (by decide) ?_
  exact W.iret (v := -1) hx hb hr (fun tt ht hW => ⟨_, rfl, rfl, ht⟩) (fun _ h => by cases h) dX8_spell_9

def v_d_step : List Cond := .code yX8_step_ cX8_step_ 4 (some .int) :: ([.constant RX8 182 (-100000000), .methodLink RX8 432 yX8_isScript, .instanceMethod yX8_isScript, .selects RX8 yX8_isScript yX8_isScript, .initialized RX8] ++ (v_d_isScript ++ ([])))
theorem gw_d_step : v_d_step.all goodWord = true := by decide +kernel
theorem g_d_step_d_isScript_432 : GoodIn v_d_step (wsV RX8 432 RX8 yX8_isScript v_d_isScript) := goodIn_app (goodIn_of _ (by decide +kernel)) (goodIn_sub (fun _ h => List.mem_cons_of_mem _ (List.mem_append_right _ (List.mem_append_left _ h))) gw_d_isScript)
set_option maxHeartbeats 4000000 in
set_option maxRecDepth 100000 in
theorem d_step (l : Launch) (E : EE) (mo m_tape m_readPlace m_script m_scriptLong m_now m_refused m_shareX m_shareY m_askedRow m_kept m_aside m_spelled m_image : Nat) (p0 p1 p2 : Int32) : Met l yX8_step_ v_d_step ({ frames := 2, cells := 0, slots := 0, locals := 46 }) (va_Pc [.ref mo, .int p0, .int p1, .int p2] (pP E [(mo, .inr (9, [.int 0, .ref m_tape, .int 0, .int 0, .int 0, .int 0, .int 0, .int 0, .long 0, .int 0, .int 0, .int 0, .int 0, .ref m_readPlace, .ref m_script, .ref m_scriptLong, .int 0, .ref m_now, .ref m_refused, .int 0, .ref m_shareX, .ref m_shareY, .int 0, .int 0, .ref m_askedRow, .int 0, .ref m_kept, .int 0, .long 0, .ref m_aside, .int 0, .int 0, .ref m_spelled, .int 0, .ref m_image, .int 0]))])) (vp_Si (fun r => r = -100000000)) 0 0 (fun _ => False) := by
  refine Met.ofW (cc := cX8_step_) (maxL := 4) (ret := (some .int)) (by decide) rfl ?_
  intro p e s m args below meth c s₁ B hml hv
  obtain ⟨rfl, ⟨hK, hN⟩, hP⟩ := hv
  have hx := B.exec
  have hb := B.bytes
  have hr := B.returns
  have hts := atoms_spec (ws := v_d_step) B.pre
  have hown : s.vm.findClass RX8 = some m.cls := findClass_of_methodNamed B.named
  have hlocks := B.notSynchronized
  have hP : va_P E.1 vwCl [(mo, .inr (9, [.int 0, .ref m_tape, .int 0, .int 0, .int 0, .int 0, .int 0, .int 0, .long 0, .int 0, .int 0, .int 0, .int 0, .ref m_readPlace, .ref m_script, .ref m_scriptLong, .int 0, .ref m_now, .ref m_refused, .int 0, .ref m_shareX, .ref m_shareY, .int 0, .int 0, .ref m_askedRow, .int 0, .ref m_kept, .int 0, .long 0, .ref m_aside, .int 0, .int 0, .ref m_spelled, .int 0, .ref m_image, .int 0]))] s.heap := hP
  have hl := lv_entry ([.ref mo, .int p0, .int p1, .int p2]) (n := 4) (Nat.le_of_ble_eq_true rfl)
  rw [lg_entry_eq]
  generalize (lg_sl ([.ref mo, .int p0, .int p1, .int p2]) ++ List.replicate (4 - (lg_sl ([.ref mo, .int p0, .int p1, .int p2])).length) Slot.unset).toArray = ls at hl ⊢
  have hl : lv_has ls 4 [(0, .ref mo), (1, .int p0), (2, .int p1), (3, .int p2)] := hl
  refine lv_aload_n hx hb dX8_step__0 rfl (lv_at hl 0 rfl) ?_
  refine lv_iload_n hx hb dX8_step__1 rfl (lv_at hl 1 rfl) ?_
  have hPc := hP.sub (ws' := [(mo, .inr (9, [.int 0, .ref m_tape, .int 0, .int 0, .int 0, .int 0, .int 0, .int 0, .long 0, .int 0, .int 0, .int 0, .int 0, .ref m_readPlace, .ref m_script, .ref m_scriptLong, .int 0, .ref m_now, .ref m_refused, .int 0, .ref m_shareX, .ref m_shareY, .int 0, .int 0, .ref m_askedRow, .int 0, .ref m_kept, .int 0, .long 0, .ref m_aside, .int 0, .int 0, .ref m_spelled, .int 0, .ref m_image, .int 0]))]) [0] rfl
  refine pc_i (va_runV (As := [.int p0]) (rest := []) ⟨hx, hb, hml, hown, hts⟩ (d_isScript l E mo m_tape m_readPlace m_script m_scriptLong m_now m_refused m_shareX m_shareY m_askedRow m_kept m_aside m_spelled m_image p0) (cwV 1 hts g_d_step_d_isScript_432 rfl rfl rfl (by decide +kernel) ⟨Nat.le_of_ble_eq_true rfl, Nat.le_of_ble_eq_true rfl⟩) ⟨pP.blind, va_recv hK hPc (ci := 9) (q0 := 0) rfl rfl, (pP.pre ⟨hK, hN⟩ hPc)⟩ rfl rfl hl.1 rfl (lv_room (Nat.le_of_ble_eq_true rfl)) dX8_step__2 ⟨Nat.le_of_ble_eq_true rfl, Nat.le_of_ble_eq_true rfl⟩) (fun r_1 hr_1 => ?_)
  obtain rfl : r_1 = 0 := hr_1
  refine lv_if_eq (tgt := 56) hx hb dX8_step__5 (by decide) (fun _ => ?_) (fun q => absurd (by decide) q)
  refine lv_ldc (v := -100000000) hx hb hown (hts (.constant RX8 182 (-100000000)) (List.mem_of_getElem? (i := 1) rfl)) dX8_step__56 ?_
  exact W.iret (v := -100000000) hx hb hr (fun tt ht hW => ⟨_, rfl, rfl, ht⟩) (fun _ h => by cases h) dX8_step__58

def v_d_run : List Cond := .code yX8_run cX8_run 5 (some .int) :: ([.constant RX8 182 (-100000000), .methodLink RX8 432 yX8_isScript, .instanceMethod yX8_isScript, .selects RX8 yX8_isScript yX8_isScript, .initialized RX8] ++ (v_d_isScript ++ ([])))
theorem gw_d_run : v_d_run.all goodWord = true := by decide +kernel
theorem g_d_run_d_isScript_432 : GoodIn v_d_run (wsV RX8 432 RX8 yX8_isScript v_d_isScript) := goodIn_app (goodIn_of _ (by decide +kernel)) (goodIn_sub (fun _ h => List.mem_cons_of_mem _ (List.mem_append_right _ (List.mem_append_left _ h))) gw_d_isScript)
set_option maxHeartbeats 4000000 in
set_option maxRecDepth 100000 in
theorem d_run (l : Launch) (E : EE) (mo m_tape m_readPlace m_script m_scriptLong m_now m_refused m_shareX m_shareY m_askedRow m_kept m_aside m_spelled m_image : Nat) (p0 p1 : Int32) : Met l yX8_run v_d_run ({ frames := 2, cells := 0, slots := 0, locals := 46 }) (va_Pc [.ref mo, .int p0, .int p1] (pP E [(mo, .inr (9, [.int 0, .ref m_tape, .int 0, .int 0, .int 0, .int 0, .int 0, .int 0, .long 0, .int 0, .int 0, .int 0, .int 0, .ref m_readPlace, .ref m_script, .ref m_scriptLong, .int 0, .ref m_now, .ref m_refused, .int 0, .ref m_shareX, .ref m_shareY, .int 0, .int 0, .ref m_askedRow, .int 0, .ref m_kept, .int 0, .long 0, .ref m_aside, .int 0, .int 0, .ref m_spelled, .int 0, .ref m_image, .int 0]))])) (vp_Si (fun r => r = -100000000)) 0 0 (fun _ => False) := by
  refine Met.ofW (cc := cX8_run) (maxL := 5) (ret := (some .int)) (by decide) rfl ?_
  intro p e s m args below meth c s₁ B hml hv
  obtain ⟨rfl, ⟨hK, hN⟩, hP⟩ := hv
  have hx := B.exec
  have hb := B.bytes
  have hr := B.returns
  have hts := atoms_spec (ws := v_d_run) B.pre
  have hown : s.vm.findClass RX8 = some m.cls := findClass_of_methodNamed B.named
  have hlocks := B.notSynchronized
  have hP : va_P E.1 vwCl [(mo, .inr (9, [.int 0, .ref m_tape, .int 0, .int 0, .int 0, .int 0, .int 0, .int 0, .long 0, .int 0, .int 0, .int 0, .int 0, .ref m_readPlace, .ref m_script, .ref m_scriptLong, .int 0, .ref m_now, .ref m_refused, .int 0, .ref m_shareX, .ref m_shareY, .int 0, .int 0, .ref m_askedRow, .int 0, .ref m_kept, .int 0, .long 0, .ref m_aside, .int 0, .int 0, .ref m_spelled, .int 0, .ref m_image, .int 0]))] s.heap := hP
  have hl := lv_entry ([.ref mo, .int p0, .int p1]) (n := 5) (Nat.le_of_ble_eq_true rfl)
  rw [lg_entry_eq]
  generalize (lg_sl ([.ref mo, .int p0, .int p1]) ++ List.replicate (5 - (lg_sl ([.ref mo, .int p0, .int p1])).length) Slot.unset).toArray = ls at hl ⊢
  have hl : lv_has ls 5 [(0, .ref mo), (1, .int p0), (2, .int p1)] := hl
  refine lv_aload_n hx hb dX8_run_0 rfl (lv_at hl 0 rfl) ?_
  refine lv_iload_n hx hb dX8_run_1 rfl (lv_at hl 1 rfl) ?_
  have hPc := hP.sub (ws' := [(mo, .inr (9, [.int 0, .ref m_tape, .int 0, .int 0, .int 0, .int 0, .int 0, .int 0, .long 0, .int 0, .int 0, .int 0, .int 0, .ref m_readPlace, .ref m_script, .ref m_scriptLong, .int 0, .ref m_now, .ref m_refused, .int 0, .ref m_shareX, .ref m_shareY, .int 0, .int 0, .ref m_askedRow, .int 0, .ref m_kept, .int 0, .long 0, .ref m_aside, .int 0, .int 0, .ref m_spelled, .int 0, .ref m_image, .int 0]))]) [0] rfl
  refine pc_i (va_runV (As := [.int p0]) (rest := []) ⟨hx, hb, hml, hown, hts⟩ (d_isScript l E mo m_tape m_readPlace m_script m_scriptLong m_now m_refused m_shareX m_shareY m_askedRow m_kept m_aside m_spelled m_image p0) (cwV 1 hts g_d_run_d_isScript_432 rfl rfl rfl (by decide +kernel) ⟨Nat.le_of_ble_eq_true rfl, Nat.le_of_ble_eq_true rfl⟩) ⟨pP.blind, va_recv hK hPc (ci := 9) (q0 := 0) rfl rfl, (pP.pre ⟨hK, hN⟩ hPc)⟩ rfl rfl hl.1 rfl (lv_room (Nat.le_of_ble_eq_true rfl)) dX8_run_2 ⟨Nat.le_of_ble_eq_true rfl, Nat.le_of_ble_eq_true rfl⟩) (fun r_1 hr_1 => ?_)
  obtain rfl : r_1 = 0 := hr_1
  refine lv_if_eq (tgt := 25) hx hb dX8_run_5 (by decide) (fun _ => ?_) (fun q => absurd (by decide) q)
  refine lv_ldc (v := -100000000) hx hb hown (hts (.constant RX8 182 (-100000000)) (List.mem_of_getElem? (i := 1) rfl)) dX8_run_25 ?_
  exact W.iret (v := -100000000) hx hb hr (fun tt ht hW => ⟨_, rfl, rfl, ht⟩) (fun _ h => by cases h) dX8_run_27

def v_d_perform : List Cond := .code yX8_perform cX8_perform 2 (some .int) :: ([.methodLink RX8 432 yX8_isScript, .instanceMethod yX8_isScript, .selects RX8 yX8_isScript yX8_isScript, .initialized RX8] ++ (v_d_isScript ++ ([])))
theorem gw_d_perform : v_d_perform.all goodWord = true := by decide +kernel
theorem g_d_perform_d_isScript_432 : GoodIn v_d_perform (wsV RX8 432 RX8 yX8_isScript v_d_isScript) := goodIn_app (goodIn_of _ (by decide +kernel)) (goodIn_sub (fun _ h => List.mem_cons_of_mem _ (List.mem_append_right _ (List.mem_append_left _ h))) gw_d_isScript)
set_option maxHeartbeats 4000000 in
set_option maxRecDepth 100000 in
theorem d_perform (l : Launch) (E : EE) (mo m_tape m_readPlace m_script m_scriptLong m_now m_refused m_shareX m_shareY m_askedRow m_kept m_aside m_spelled m_image : Nat) (p0 : Int32) : Met l yX8_perform v_d_perform ({ frames := 2, cells := 0, slots := 0, locals := 46 }) (va_Pc [.ref mo, .int p0] (pP E [(mo, .inr (9, [.int 0, .ref m_tape, .int 0, .int 0, .int 0, .int 0, .int 0, .int 0, .long 0, .int 0, .int 0, .int 0, .int 0, .ref m_readPlace, .ref m_script, .ref m_scriptLong, .int 0, .ref m_now, .ref m_refused, .int 0, .ref m_shareX, .ref m_shareY, .int 0, .int 0, .ref m_askedRow, .int 0, .ref m_kept, .int 0, .long 0, .ref m_aside, .int 0, .int 0, .ref m_spelled, .int 0, .ref m_image, .int 0]))])) (vp_Si (fun r => r = -1)) 0 0 (fun _ => False) := by
  refine Met.ofW (cc := cX8_perform) (maxL := 2) (ret := (some .int)) (by decide) rfl ?_
  intro p e s m args below meth c s₁ B hml hv
  obtain ⟨rfl, ⟨hK, hN⟩, hP⟩ := hv
  have hx := B.exec
  have hb := B.bytes
  have hr := B.returns
  have hts := atoms_spec (ws := v_d_perform) B.pre
  have hown : s.vm.findClass RX8 = some m.cls := findClass_of_methodNamed B.named
  have hlocks := B.notSynchronized
  have hP : va_P E.1 vwCl [(mo, .inr (9, [.int 0, .ref m_tape, .int 0, .int 0, .int 0, .int 0, .int 0, .int 0, .long 0, .int 0, .int 0, .int 0, .int 0, .ref m_readPlace, .ref m_script, .ref m_scriptLong, .int 0, .ref m_now, .ref m_refused, .int 0, .ref m_shareX, .ref m_shareY, .int 0, .int 0, .ref m_askedRow, .int 0, .ref m_kept, .int 0, .long 0, .ref m_aside, .int 0, .int 0, .ref m_spelled, .int 0, .ref m_image, .int 0]))] s.heap := hP
  have hl := lv_entry ([.ref mo, .int p0]) (n := 2) (Nat.le_of_ble_eq_true rfl)
  rw [lg_entry_eq]
  generalize (lg_sl ([.ref mo, .int p0]) ++ List.replicate (2 - (lg_sl ([.ref mo, .int p0])).length) Slot.unset).toArray = ls at hl ⊢
  have hl : lv_has ls 2 [(0, .ref mo), (1, .int p0)] := hl
  refine lv_aload_n hx hb dX8_perform_0 rfl (lv_at hl 0 rfl) ?_
  refine lv_iload_n hx hb dX8_perform_1 rfl (lv_at hl 1 rfl) ?_
  have hPc := hP.sub (ws' := [(mo, .inr (9, [.int 0, .ref m_tape, .int 0, .int 0, .int 0, .int 0, .int 0, .int 0, .long 0, .int 0, .int 0, .int 0, .int 0, .ref m_readPlace, .ref m_script, .ref m_scriptLong, .int 0, .ref m_now, .ref m_refused, .int 0, .ref m_shareX, .ref m_shareY, .int 0, .int 0, .ref m_askedRow, .int 0, .ref m_kept, .int 0, .long 0, .ref m_aside, .int 0, .int 0, .ref m_spelled, .int 0, .ref m_image, .int 0]))]) [0] rfl
  refine pc_i (va_runV (As := [.int p0]) (rest := []) ⟨hx, hb, hml, hown, hts⟩ (d_isScript l E mo m_tape m_readPlace m_script m_scriptLong m_now m_refused m_shareX m_shareY m_askedRow m_kept m_aside m_spelled m_image p0) (cwV 1 hts g_d_perform_d_isScript_432 rfl rfl rfl (by decide +kernel) ⟨Nat.le_of_ble_eq_true rfl, Nat.le_of_ble_eq_true rfl⟩) ⟨pP.blind, va_recv hK hPc (ci := 9) (q0 := 0) rfl rfl, (pP.pre ⟨hK, hN⟩ hPc)⟩ rfl rfl hl.1 rfl (lv_room (Nat.le_of_ble_eq_true rfl)) dX8_perform_2 ⟨Nat.le_of_ble_eq_true rfl, Nat.le_of_ble_eq_true rfl⟩) (fun r_1 hr_1 => ?_)
  obtain rfl : r_1 = 0 := hr_1
  refine lv_if_eq (tgt := 24) hx hb dX8_perform_5 (by decide) (fun _ => ?_) (fun q => absurd (by decide) q)
  refine lv_iconst (v := -1) hx hb dX8_perform_24 (by decide) ?_
  exact W.iret (v := -1) hx hb hr (fun tt ht hW => ⟨_, rfl, rfl, ht⟩) (fun _ h => by cases h) dX8_perform_25

def v_d_most : List Cond := .code yX8_most cX8_most 2 (some .int) :: ([.constant RX8 182 (-100000000), .methodLink RX8 299 yX8_isWatch, .instanceMethod yX8_isWatch, .selects RX8 yX8_isWatch yX8_isWatch, .initialized RX8] ++ (v_d_isWatch ++ ([])))
theorem gw_d_most : v_d_most.all goodWord = true := by decide +kernel
theorem g_d_most_d_isWatch_299 : GoodIn v_d_most (wsV RX8 299 RX8 yX8_isWatch v_d_isWatch) := goodIn_app (goodIn_of _ (by decide +kernel)) (goodIn_sub (fun _ h => List.mem_cons_of_mem _ (List.mem_append_right _ (List.mem_append_left _ h))) gw_d_isWatch)
set_option maxHeartbeats 4000000 in
set_option maxRecDepth 100000 in
theorem d_most (l : Launch) (E : EE) (mo m_tape m_readPlace m_script m_scriptLong m_now m_refused m_shareX m_shareY m_askedRow m_kept m_aside m_spelled m_image : Nat) (p0 : Int32) : Met l yX8_most v_d_most ({ frames := 1, cells := 0, slots := 0, locals := 20 }) (va_Pc [.ref mo, .int p0] (pP E [(mo, .inr (9, [.int 0, .ref m_tape, .int 0, .int 0, .int 0, .int 0, .int 0, .int 0, .long 0, .int 0, .int 0, .int 0, .int 0, .ref m_readPlace, .ref m_script, .ref m_scriptLong, .int 0, .ref m_now, .ref m_refused, .int 0, .ref m_shareX, .ref m_shareY, .int 0, .int 0, .ref m_askedRow, .int 0, .ref m_kept, .int 0, .long 0, .ref m_aside, .int 0, .int 0, .ref m_spelled, .int 0, .ref m_image, .int 0]))])) (vp_Si (fun r => r = -100000000)) 0 0 (fun _ => False) := by
  refine Met.ofW (cc := cX8_most) (maxL := 2) (ret := (some .int)) (by decide) rfl ?_
  intro p e s m args below meth c s₁ B hml hv
  obtain ⟨rfl, ⟨hK, hN⟩, hP⟩ := hv
  have hx := B.exec
  have hb := B.bytes
  have hr := B.returns
  have hts := atoms_spec (ws := v_d_most) B.pre
  have hown : s.vm.findClass RX8 = some m.cls := findClass_of_methodNamed B.named
  have hlocks := B.notSynchronized
  have hP : va_P E.1 vwCl [(mo, .inr (9, [.int 0, .ref m_tape, .int 0, .int 0, .int 0, .int 0, .int 0, .int 0, .long 0, .int 0, .int 0, .int 0, .int 0, .ref m_readPlace, .ref m_script, .ref m_scriptLong, .int 0, .ref m_now, .ref m_refused, .int 0, .ref m_shareX, .ref m_shareY, .int 0, .int 0, .ref m_askedRow, .int 0, .ref m_kept, .int 0, .long 0, .ref m_aside, .int 0, .int 0, .ref m_spelled, .int 0, .ref m_image, .int 0]))] s.heap := hP
  have hl := lv_entry ([.ref mo, .int p0]) (n := 2) (Nat.le_of_ble_eq_true rfl)
  rw [lg_entry_eq]
  generalize (lg_sl ([.ref mo, .int p0]) ++ List.replicate (2 - (lg_sl ([.ref mo, .int p0])).length) Slot.unset).toArray = ls at hl ⊢
  have hl : lv_has ls 2 [(0, .ref mo), (1, .int p0)] := hl
  refine lv_aload_n hx hb dX8_most_0 rfl (lv_at hl 0 rfl) ?_
  have hPc := hP.sub (ws' := [(mo, .inr (9, [.int 0, .ref m_tape, .int 0, .int 0, .int 0, .int 0, .int 0, .int 0, .long 0, .int 0, .int 0, .int 0, .int 0, .ref m_readPlace, .ref m_script, .ref m_scriptLong, .int 0, .ref m_now, .ref m_refused, .int 0, .ref m_shareX, .ref m_shareY, .int 0, .int 0, .ref m_askedRow, .int 0, .ref m_kept, .int 0, .long 0, .ref m_aside, .int 0, .int 0, .ref m_spelled, .int 0, .ref m_image, .int 0]))]) [0] rfl
  refine pc_i (va_runV (As := []) (rest := []) ⟨hx, hb, hml, hown, hts⟩ (d_isWatch l E mo m_tape m_readPlace m_script m_scriptLong m_now m_refused m_shareX m_shareY m_askedRow m_kept m_aside m_spelled m_image) (cwV 0 hts g_d_most_d_isWatch_299 rfl rfl rfl (by decide +kernel) ⟨Nat.le_of_ble_eq_true rfl, Nat.le_of_ble_eq_true rfl⟩) ⟨pP.blind, va_recv hK hPc (ci := 9) (q0 := 0) rfl rfl, (pP.pre ⟨hK, hN⟩ hPc)⟩ rfl rfl hl.1 rfl (lv_room (Nat.le_of_ble_eq_true rfl)) dX8_most_1 ⟨Nat.le_of_ble_eq_true rfl, Nat.le_of_ble_eq_true rfl⟩) (fun r_1 hr_1 => ?_)
  obtain rfl : r_1 = 0 := hr_1
  refine lv_if_eq (tgt := 19) hx hb dX8_most_4 (by decide) (fun _ => ?_) (fun q => absurd (by decide) q)
  refine lv_ldc (v := -100000000) hx hb hown (hts (.constant RX8 182 (-100000000)) (List.mem_of_getElem? (i := 1) rfl)) dX8_most_19 ?_
  exact W.iret (v := -100000000) hx hb hr (fun tt ht hW => ⟨_, rfl, rfl, ht⟩) (fun _ h => by cases h) dX8_most_21

def v_d_image : List Cond := .code yX8_image cX8_image 2 (some .int) :: ([.methodLink RX8 299 yX8_isWatch, .instanceMethod yX8_isWatch, .selects RX8 yX8_isWatch yX8_isWatch, .initialized RX8] ++ (v_d_isWatch ++ ([])))
theorem gw_d_image : v_d_image.all goodWord = true := by decide +kernel
theorem g_d_image_d_isWatch_299 : GoodIn v_d_image (wsV RX8 299 RX8 yX8_isWatch v_d_isWatch) := goodIn_app (goodIn_of _ (by decide +kernel)) (goodIn_sub (fun _ h => List.mem_cons_of_mem _ (List.mem_append_right _ (List.mem_append_left _ h))) gw_d_isWatch)
set_option maxHeartbeats 4000000 in
set_option maxRecDepth 100000 in
theorem d_image (l : Launch) (E : EE) (mo m_tape m_readPlace m_script m_scriptLong m_now m_refused m_shareX m_shareY m_askedRow m_kept m_aside m_spelled m_image : Nat) : Met l yX8_image v_d_image ({ frames := 1, cells := 0, slots := 0, locals := 20 }) (va_Pc [.ref mo] (pP E [(mo, .inr (9, [.int 0, .ref m_tape, .int 0, .int 0, .int 0, .int 0, .int 0, .int 0, .long 0, .int 0, .int 0, .int 0, .int 0, .ref m_readPlace, .ref m_script, .ref m_scriptLong, .int 0, .ref m_now, .ref m_refused, .int 0, .ref m_shareX, .ref m_shareY, .int 0, .int 0, .ref m_askedRow, .int 0, .ref m_kept, .int 0, .long 0, .ref m_aside, .int 0, .int 0, .ref m_spelled, .int 0, .ref m_image, .int 0]))])) (vp_Si (fun r => r = -1)) 0 0 (fun _ => False) := by
  refine Met.ofW (cc := cX8_image) (maxL := 2) (ret := (some .int)) (by decide) rfl ?_
  intro p e s m args below meth c s₁ B hml hv
  obtain ⟨rfl, ⟨hK, hN⟩, hP⟩ := hv
  have hx := B.exec
  have hb := B.bytes
  have hr := B.returns
  have hts := atoms_spec (ws := v_d_image) B.pre
  have hown : s.vm.findClass RX8 = some m.cls := findClass_of_methodNamed B.named
  have hlocks := B.notSynchronized
  have hP : va_P E.1 vwCl [(mo, .inr (9, [.int 0, .ref m_tape, .int 0, .int 0, .int 0, .int 0, .int 0, .int 0, .long 0, .int 0, .int 0, .int 0, .int 0, .ref m_readPlace, .ref m_script, .ref m_scriptLong, .int 0, .ref m_now, .ref m_refused, .int 0, .ref m_shareX, .ref m_shareY, .int 0, .int 0, .ref m_askedRow, .int 0, .ref m_kept, .int 0, .long 0, .ref m_aside, .int 0, .int 0, .ref m_spelled, .int 0, .ref m_image, .int 0]))] s.heap := hP
  have hl := lv_entry ([.ref mo]) (n := 2) (Nat.le_of_ble_eq_true rfl)
  rw [lg_entry_eq]
  generalize (lg_sl ([.ref mo]) ++ List.replicate (2 - (lg_sl ([.ref mo])).length) Slot.unset).toArray = ls at hl ⊢
  have hl : lv_has ls 2 [(0, .ref mo)] := hl
  refine lv_aload_n hx hb dX8_image_0 rfl (lv_at hl 0 rfl) ?_
  have hPc := hP.sub (ws' := [(mo, .inr (9, [.int 0, .ref m_tape, .int 0, .int 0, .int 0, .int 0, .int 0, .int 0, .long 0, .int 0, .int 0, .int 0, .int 0, .ref m_readPlace, .ref m_script, .ref m_scriptLong, .int 0, .ref m_now, .ref m_refused, .int 0, .ref m_shareX, .ref m_shareY, .int 0, .int 0, .ref m_askedRow, .int 0, .ref m_kept, .int 0, .long 0, .ref m_aside, .int 0, .int 0, .ref m_spelled, .int 0, .ref m_image, .int 0]))]) [0] rfl
  refine pc_i (va_runV (As := []) (rest := []) ⟨hx, hb, hml, hown, hts⟩ (d_isWatch l E mo m_tape m_readPlace m_script m_scriptLong m_now m_refused m_shareX m_shareY m_askedRow m_kept m_aside m_spelled m_image) (cwV 0 hts g_d_image_d_isWatch_299 rfl rfl rfl (by decide +kernel) ⟨Nat.le_of_ble_eq_true rfl, Nat.le_of_ble_eq_true rfl⟩) ⟨pP.blind, va_recv hK hPc (ci := 9) (q0 := 0) rfl rfl, (pP.pre ⟨hK, hN⟩ hPc)⟩ rfl rfl hl.1 rfl (lv_room (Nat.le_of_ble_eq_true rfl)) dX8_image_1 ⟨Nat.le_of_ble_eq_true rfl, Nat.le_of_ble_eq_true rfl⟩) (fun r_1 hr_1 => ?_)
  obtain rfl : r_1 = 0 := hr_1
  refine lv_if_ne (tgt := 9) hx hb dX8_image_4 (by decide) (fun q => absurd (by decide) q) (fun _ => ?_)
  refine lv_iconst (v := -1) hx hb dX8_image_7 (by decide) ?_
  exact W.iret (v := -1) hx hb hr (fun tt ht hW => ⟨_, rfl, rfl, ht⟩) (fun _ h => by cases h) dX8_image_8

def v_d_back : List Cond := .code yX8_back cX8_back 2 (some .int) :: ([.fieldLink RX8 208 "HushWatchModel" "hasImage" "Z"] ++ (wsX80 ++ ([])))
theorem gw_d_back : v_d_back.all goodWord = true := by decide +kernel
theorem i_d_back_X8 : ∀ w ∈ wsX80, w ∈ v_d_back := fun _ h => List.mem_cons_of_mem _ (List.mem_append_right _ (List.mem_append_left _ h))
set_option maxHeartbeats 4000000 in
set_option maxRecDepth 100000 in
theorem d_back (l : Launch) (E : EE) (mo m_tape m_readPlace m_script m_scriptLong m_now m_refused m_shareX m_shareY m_askedRow m_kept m_aside m_spelled m_image : Nat) : Met l yX8_back v_d_back ({ frames := 0, cells := 0, slots := 0, locals := 0 }) (va_Pc [.ref mo] (pP E [(mo, .inr (9, [.int 0, .ref m_tape, .int 0, .int 0, .int 0, .int 0, .int 0, .int 0, .long 0, .int 0, .int 0, .int 0, .int 0, .ref m_readPlace, .ref m_script, .ref m_scriptLong, .int 0, .ref m_now, .ref m_refused, .int 0, .ref m_shareX, .ref m_shareY, .int 0, .int 0, .ref m_askedRow, .int 0, .ref m_kept, .int 0, .long 0, .ref m_aside, .int 0, .int 0, .ref m_spelled, .int 0, .ref m_image, .int 0]))])) (vp_Si (fun r => r = -1)) 0 0 (fun _ => False) := by
  refine Met.ofW (cc := cX8_back) (maxL := 2) (ret := (some .int)) (by decide) rfl ?_
  intro p e s m args below meth c s₁ B hml hv
  obtain ⟨rfl, ⟨hK, hN⟩, hP⟩ := hv
  have hx := B.exec
  have hb := B.bytes
  have hr := B.returns
  have hts := atoms_spec (ws := v_d_back) B.pre
  have hown : s.vm.findClass RX8 = some m.cls := findClass_of_methodNamed B.named
  have hlocks := B.notSynchronized
  have hP : va_P E.1 vwCl [(mo, .inr (9, [.int 0, .ref m_tape, .int 0, .int 0, .int 0, .int 0, .int 0, .int 0, .long 0, .int 0, .int 0, .int 0, .int 0, .ref m_readPlace, .ref m_script, .ref m_scriptLong, .int 0, .ref m_now, .ref m_refused, .int 0, .ref m_shareX, .ref m_shareY, .int 0, .int 0, .ref m_askedRow, .int 0, .ref m_kept, .int 0, .long 0, .ref m_aside, .int 0, .int 0, .ref m_spelled, .int 0, .ref m_image, .int 0]))] s.heap := hP
  have hl := lv_entry ([.ref mo]) (n := 2) (Nat.le_of_ble_eq_true rfl)
  rw [lg_entry_eq]
  generalize (lg_sl ([.ref mo]) ++ List.replicate (2 - (lg_sl ([.ref mo])).length) Slot.unset).toArray = ls at hl ⊢
  have hl : lv_has ls 2 [(0, .ref mo)] := hl
  refine lv_aload_n hx hb dX8_back_0 rfl (lv_at hl 0 rfl) ?_
  refine va_get (D := E.1) (ci := 9) (v := .int 0) (C := RX8) (T := TX8) (N := 36) hx hb hts i_d_back_X8 hown hK hP 0 rfl rfl 35 (by decide) (hts (.fieldLink RX8 208 "HushWatchModel" "hasImage" "Z") (List.mem_of_getElem? (i := 1) rfl)) (fun _ h9 => h9) rfl dX8_back_1 ?_
  refine lv_if_ne (tgt := 9) hx hb dX8_back_4 (by decide) (fun q => absurd (by decide) q) (fun _ => ?_)
  refine lv_iconst (v := -1) hx hb dX8_back_7 (by decide) ?_
  exact W.iret (v := -1) hx hb hr (fun tt ht hW => ⟨_, rfl, rfl, ht⟩) (fun _ h => by cases h) dX8_back_8

def v_d_held : List Cond := .code yX8_held cX8_held 2 (some .int) :: ([.fieldLink RX8 196 "HushWatchModel" "sites" "I", .fieldLink RX8 215 "HushWatchModel" "scripts" "I", .fieldLink RX8 57 "HushWatchModel" "taped" "I", .fieldLink RX8 22 "HushWatchModel" "now" "[I", .fieldLink RX8 205 "HushWatchModel" "acts" "I", .constant RX8 182 (-100000000)] ++ (wsX80 ++ ([])))
theorem gw_d_held : v_d_held.all goodWord = true := by decide +kernel
theorem i_d_held_X8 : ∀ w ∈ wsX80, w ∈ v_d_held := fun _ h => List.mem_cons_of_mem _ (List.mem_append_right _ (List.mem_append_left _ h))
set_option maxHeartbeats 4000000 in
set_option maxRecDepth 100000 in
theorem d_held (l : Launch) (E : EE) (mo m_tape m_readPlace m_script m_scriptLong m_now m_refused m_shareX m_shareY m_askedRow m_kept m_aside m_spelled m_image : Nat) (p0 : Int32) : Met l yX8_held v_d_held ({ frames := 0, cells := 0, slots := 0, locals := 0 }) (va_Pc [.ref mo, .int p0] (pP E [(mo, .inr (9, [.int 0, .ref m_tape, .int 0, .int 0, .int 0, .int 0, .int 0, .int 0, .long 0, .int 0, .int 0, .int 0, .int 0, .ref m_readPlace, .ref m_script, .ref m_scriptLong, .int 0, .ref m_now, .ref m_refused, .int 0, .ref m_shareX, .ref m_shareY, .int 0, .int 0, .ref m_askedRow, .int 0, .ref m_kept, .int 0, .long 0, .ref m_aside, .int 0, .int 0, .ref m_spelled, .int 0, .ref m_image, .int 0])), (m_now, .inl (E.2.1, 265, .inl (fun _ => 0)))])) (vp_Si (fun r => r = heldv p0)) 0 0 (fun _ => False) := by
  refine Met.ofW (cc := cX8_held) (maxL := 2) (ret := (some .int)) (by decide) rfl ?_
  intro p e s m args below meth c s₁ B hml hv
  obtain ⟨rfl, ⟨hK, hN⟩, hP⟩ := hv
  have hx := B.exec
  have hb := B.bytes
  have hr := B.returns
  have hts := atoms_spec (ws := v_d_held) B.pre
  have hown : s.vm.findClass RX8 = some m.cls := findClass_of_methodNamed B.named
  have hlocks := B.notSynchronized
  have hP : va_P E.1 vwCl [(mo, .inr (9, [.int 0, .ref m_tape, .int 0, .int 0, .int 0, .int 0, .int 0, .int 0, .long 0, .int 0, .int 0, .int 0, .int 0, .ref m_readPlace, .ref m_script, .ref m_scriptLong, .int 0, .ref m_now, .ref m_refused, .int 0, .ref m_shareX, .ref m_shareY, .int 0, .int 0, .ref m_askedRow, .int 0, .ref m_kept, .int 0, .long 0, .ref m_aside, .int 0, .int 0, .ref m_spelled, .int 0, .ref m_image, .int 0])), (m_now, .inl (E.2.1, 265, .inl (fun _ => 0)))] s.heap := hP
  have hl := lv_entry ([.ref mo, .int p0]) (n := 2) (Nat.le_of_ble_eq_true rfl)
  rw [lg_entry_eq]
  generalize (lg_sl ([.ref mo, .int p0]) ++ List.replicate (2 - (lg_sl ([.ref mo, .int p0])).length) Slot.unset).toArray = ls at hl ⊢
  have hl : lv_has ls 2 [(0, .ref mo), (1, .int p0)] := hl
  refine lv_iload_n hx hb dX8_held_0 rfl (lv_at hl 1 rfl) ?_
  rcases Classical.em (p0 = 0) with c_1_0 | c_1_0
  ·
    refine lv_tableIn (off := 35) (tgt := 36) hx hb dX8_held_1 (by rw [c_1_0]; decide) (by rw [c_1_0]; decide) (by rw [c_1_0]; decide) (by decide) ?_
    refine lv_aload_n hx hb dX8_held_36 rfl (lv_at hl 0 rfl) ?_
    refine va_get (D := E.1) (ci := 9) (v := .int 0) (C := RX8) (T := TX8) (N := 36) hx hb hts i_d_held_X8 hown hK hP 0 rfl rfl 19 (by decide) (hts (.fieldLink RX8 196 "HushWatchModel" "sites" "I") (List.mem_of_getElem? (i := 1) rfl)) (fun _ h9 => h9) rfl dX8_held_37 ?_
    exact W.iret (v := 0) hx hb hr (fun tt ht hW => ⟨_, rfl, (by have t0 : (0 : Int32).toInt = 0 := (by decide); simp only [Int32.lt_iff_toInt_lt, Int32.le_iff_toInt_le, ge_iff_le, gt_iff_lt, ne_eq, ← Int32.toInt_inj, t0] at c_1_0; unfold heldv; rw [if_pos (by omega)]), ht⟩) (fun _ h => by cases h) dX8_held_40
  rcases Classical.em (p0 = 1) with c_1_1 | c_1_1
  ·
    refine lv_tableIn (off := 40) (tgt := 41) hx hb dX8_held_1 (by rw [c_1_1]; decide) (by rw [c_1_1]; decide) (by rw [c_1_1]; decide) (by decide) ?_
    refine lv_aload_n hx hb dX8_held_41 rfl (lv_at hl 0 rfl) ?_
    refine va_get (D := E.1) (ci := 9) (v := .int 0) (C := RX8) (T := TX8) (N := 36) hx hb hts i_d_held_X8 hown hK hP 0 rfl rfl 16 (by decide) (hts (.fieldLink RX8 215 "HushWatchModel" "scripts" "I") (List.mem_of_getElem? (i := 2) rfl)) (fun _ h9 => h9) rfl dX8_held_42 ?_
    exact W.iret (v := 0) hx hb hr (fun tt ht hW => ⟨_, rfl, (by have t0 : (1 : Int32).toInt = 1 := (by decide); simp only [Int32.lt_iff_toInt_lt, Int32.le_iff_toInt_le, ge_iff_le, gt_iff_lt, ne_eq, ← Int32.toInt_inj, t0] at c_1_1; unfold heldv; rw [if_pos (by omega)]), ht⟩) (fun _ h => by cases h) dX8_held_45
  rcases Classical.em (p0 = 2) with c_1_2 | c_1_2
  ·
    refine lv_tableIn (off := 45) (tgt := 46) hx hb dX8_held_1 (by rw [c_1_2]; decide) (by rw [c_1_2]; decide) (by rw [c_1_2]; decide) (by decide) ?_
    refine lv_aload_n hx hb dX8_held_46 rfl (lv_at hl 0 rfl) ?_
    refine va_get (D := E.1) (ci := 9) (v := .int 0) (C := RX8) (T := TX8) (N := 36) hx hb hts i_d_held_X8 hown hK hP 0 rfl rfl 2 (by decide) (hts (.fieldLink RX8 57 "HushWatchModel" "taped" "I") (List.mem_of_getElem? (i := 3) rfl)) (fun _ h9 => h9) rfl dX8_held_47 ?_
    exact W.iret (v := 0) hx hb hr (fun tt ht hW => ⟨_, rfl, (by have t0 : (2 : Int32).toInt = 2 := (by decide); simp only [Int32.lt_iff_toInt_lt, Int32.le_iff_toInt_le, ge_iff_le, gt_iff_lt, ne_eq, ← Int32.toInt_inj, t0] at c_1_2; unfold heldv; rw [if_pos (by omega)]), ht⟩) (fun _ h => by cases h) dX8_held_50
  rcases Classical.em (p0 = 3) with c_1_3 | c_1_3
  ·
    refine lv_tableIn (off := 50) (tgt := 51) hx hb dX8_held_1 (by rw [c_1_3]; decide) (by rw [c_1_3]; decide) (by rw [c_1_3]; decide) (by decide) ?_
    refine lv_aload_n hx hb dX8_held_51 rfl (lv_at hl 0 rfl) ?_
    refine va_get (D := E.1) (ci := 9) (v := .ref m_now) (C := RX8) (T := TX8) (N := 36) hx hb hts i_d_held_X8 hown hK hP 0 rfl rfl 17 (by decide) (hts (.fieldLink RX8 22 "HushWatchModel" "now" "[I") (List.mem_of_getElem? (i := 4) rfl)) (fun _ h9 => h9) rfl dX8_held_52 ?_
    refine lv_bipush (v := 84) hx hb dX8_held_55 (by decide) ?_
    refine va_iald hx hb hK hP 1 0 rfl rfl (vin rfl) dX8_held_57 ?_
    refine W.eq (g2 := F0 m 58 ls [.int 0]) rfl ?_
    exact W.iret (v := 0) hx hb hr (fun tt ht hW => ⟨_, rfl, (by have t0 : (3 : Int32).toInt = 3 := (by decide); simp only [Int32.lt_iff_toInt_lt, Int32.le_iff_toInt_le, ge_iff_le, gt_iff_lt, ne_eq, ← Int32.toInt_inj, t0] at c_1_3; unfold heldv; rw [if_pos (by omega)]), ht⟩) (fun _ h => by cases h) dX8_held_58
  rcases Classical.em (p0 = 4) with c_1_4 | c_1_4
  ·
    refine lv_tableIn (off := 58) (tgt := 59) hx hb dX8_held_1 (by rw [c_1_4]; decide) (by rw [c_1_4]; decide) (by rw [c_1_4]; decide) (by decide) ?_
    refine lv_aload_n hx hb dX8_held_59 rfl (lv_at hl 0 rfl) ?_
    refine va_get (D := E.1) (ci := 9) (v := .int 0) (C := RX8) (T := TX8) (N := 36) hx hb hts i_d_held_X8 hown hK hP 0 rfl rfl 27 (by decide) (hts (.fieldLink RX8 205 "HushWatchModel" "acts" "I") (List.mem_of_getElem? (i := 5) rfl)) (fun _ h9 => h9) rfl dX8_held_60 ?_
    exact W.iret (v := 0) hx hb hr (fun tt ht hW => ⟨_, rfl, (by have t0 : (4 : Int32).toInt = 4 := (by decide); simp only [Int32.lt_iff_toInt_lt, Int32.le_iff_toInt_le, ge_iff_le, gt_iff_lt, ne_eq, ← Int32.toInt_inj, t0] at c_1_4; unfold heldv; rw [if_pos (by omega)]), ht⟩) (fun _ h => by cases h) dX8_held_63
  refine lv_tableOut (tgt := 64) hx hb dX8_held_1 (by have t0 : (0 : Int32).toInt = 0 := (by decide); have t1 : (1 : Int32).toInt = 1 := (by decide); have t2 : (2 : Int32).toInt = 2 := (by decide); have t3 : (3 : Int32).toInt = 3 := (by decide); have t4 : (4 : Int32).toInt = 4 := (by decide); simp only [← Int32.toInt_inj, t0, t1, t2, t3, t4] at c_1_0 c_1_1 c_1_2 c_1_3 c_1_4; omega) (by decide) ?_
  refine lv_ldc (v := -100000000) hx hb hown (hts (.constant RX8 182 (-100000000)) (List.mem_of_getElem? (i := 6) rfl)) dX8_held_64 ?_
  exact W.iret (v := -100000000) hx hb hr (fun tt ht hW => ⟨_, rfl, (by have t0 : (0 : Int32).toInt = 0 := (by decide); have t1 : (1 : Int32).toInt = 1 := (by decide); have t2 : (2 : Int32).toInt = 2 := (by decide); have t3 : (3 : Int32).toInt = 3 := (by decide); have t4 : (4 : Int32).toInt = 4 := (by decide); simp only [Int32.lt_iff_toInt_lt, Int32.le_iff_toInt_le, ge_iff_le, gt_iff_lt, ne_eq, ← Int32.toInt_inj, t0, t1, t2, t3, t4] at c_1_0 c_1_1 c_1_2 c_1_3 c_1_4; unfold heldv; rw [if_neg (by omega)]), ht⟩) (fun _ h => by cases h) dX8_held_66

def v_d_thrown : List Cond := .code yX8_thrown cX8_thrown 1 (some .int) :: ([.fieldLink RX8 49 "HushWatchModel" "thrown" "I"] ++ (wsX80 ++ ([])))
theorem gw_d_thrown : v_d_thrown.all goodWord = true := by decide +kernel
theorem i_d_thrown_X8 : ∀ w ∈ wsX80, w ∈ v_d_thrown := fun _ h => List.mem_cons_of_mem _ (List.mem_append_right _ (List.mem_append_left _ h))
set_option maxHeartbeats 4000000 in
set_option maxRecDepth 100000 in
theorem d_thrown (l : Launch) (E : EE) (mo m_tape m_readPlace m_script m_scriptLong m_now m_refused m_shareX m_shareY m_askedRow m_kept m_aside m_spelled m_image : Nat) : Met l yX8_thrown v_d_thrown ({ frames := 0, cells := 0, slots := 0, locals := 0 }) (va_Pc [.ref mo] (pP E [(mo, .inr (9, [.int 1, .ref m_tape, .int 0, .int 0, .int 0, .int 0, .int 0, .int 0, .long 0, .int 0, .int 0, .int 0, .int 0, .ref m_readPlace, .ref m_script, .ref m_scriptLong, .int 0, .ref m_now, .ref m_refused, .int 0, .ref m_shareX, .ref m_shareY, .int 0, .int 0, .ref m_askedRow, .int 0, .ref m_kept, .int 0, .long 0, .ref m_aside, .int 0, .int 0, .ref m_spelled, .int 0, .ref m_image, .int 0]))])) (vp_Si (fun r => r = 1)) 0 0 (fun _ => False) := by
  refine Met.ofW (cc := cX8_thrown) (maxL := 1) (ret := (some .int)) (by decide) rfl ?_
  intro p e s m args below meth c s₁ B hml hv
  obtain ⟨rfl, ⟨hK, hN⟩, hP⟩ := hv
  have hx := B.exec
  have hb := B.bytes
  have hr := B.returns
  have hts := atoms_spec (ws := v_d_thrown) B.pre
  have hown : s.vm.findClass RX8 = some m.cls := findClass_of_methodNamed B.named
  have hlocks := B.notSynchronized
  have hP : va_P E.1 vwCl [(mo, .inr (9, [.int 1, .ref m_tape, .int 0, .int 0, .int 0, .int 0, .int 0, .int 0, .long 0, .int 0, .int 0, .int 0, .int 0, .ref m_readPlace, .ref m_script, .ref m_scriptLong, .int 0, .ref m_now, .ref m_refused, .int 0, .ref m_shareX, .ref m_shareY, .int 0, .int 0, .ref m_askedRow, .int 0, .ref m_kept, .int 0, .long 0, .ref m_aside, .int 0, .int 0, .ref m_spelled, .int 0, .ref m_image, .int 0]))] s.heap := hP
  have hl := lv_entry ([.ref mo]) (n := 1) (Nat.le_of_ble_eq_true rfl)
  rw [lg_entry_eq]
  generalize (lg_sl ([.ref mo]) ++ List.replicate (1 - (lg_sl ([.ref mo])).length) Slot.unset).toArray = ls at hl ⊢
  have hl : lv_has ls 1 [(0, .ref mo)] := hl
  refine lv_aload_n hx hb dX8_thrown_0 rfl (lv_at hl 0 rfl) ?_
  refine va_get (D := E.1) (ci := 9) (v := .int 1) (C := RX8) (T := TX8) (N := 36) hx hb hts i_d_thrown_X8 hown hK hP 0 rfl rfl 0 (by decide) (hts (.fieldLink RX8 49 "HushWatchModel" "thrown" "I") (List.mem_of_getElem? (i := 1) rfl)) (fun _ h9 => h9) rfl dX8_thrown_1 ?_
  exact W.iret (v := 1) hx hb hr (fun tt ht hW => ⟨_, rfl, rfl, ht⟩) (fun _ h => by cases h) dX8_thrown_4
