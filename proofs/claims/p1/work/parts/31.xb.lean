theorem dX7_rule_0 : decode cX7_rule 0 = .ok (.aload_n 0, 1) := by decide +kernel
theorem dX7_rule_1 : decode cX7_rule 1 = .ok (.getfield 35, 3) := by decide +kernel
theorem dX7_rule_4 : decode cX7_rule 4 = .ok (.invokevirtual 110, 3) := by decide +kernel
theorem dX7_rule_7 : decode cX7_rule 7 = .ok (.ifCond .ne 6, 3) := by decide +kernel
theorem dX7_rule_10 : decode cX7_rule 10 = .ok (.ldc 113, 2) := by decide +kernel
theorem dX7_rule_12 : decode cX7_rule 12 = .ok (.ireturn, 1) := by decide +kernel
theorem dX7_value_0 : decode cX7_value 0 = .ok (.aload_n 0, 1) := by decide +kernel
theorem dX7_value_1 : decode cX7_value 1 = .ok (.iload_n 1, 1) := by decide +kernel
theorem dX7_value_2 : decode cX7_value 2 = .ok (.iload_n 2, 1) := by decide +kernel
theorem dX7_value_3 : decode cX7_value 3 = .ok (.invokevirtual 146, 3) := by decide +kernel
theorem dX7_value_6 : decode cX7_value 6 = .ok (.ifCond .eq 17, 3) := by decide +kernel
theorem dX7_value_23 : decode cX7_value 23 = .ok (.ldc2_w 154, 3) := by decide +kernel
theorem dX7_value_26 : decode cX7_value 26 = .ok (.lreturn, 1) := by decide +kernel
theorem dX7_tells_0 : decode cX7_tells 0 = .ok (.aload_n 0, 1) := by decide +kernel
theorem dX7_tells_1 : decode cX7_tells 1 = .ok (.iload_n 1, 1) := by decide +kernel
theorem dX7_tells_2 : decode cX7_tells 2 = .ok (.iload_n 2, 1) := by decide +kernel
theorem dX7_tells_3 : decode cX7_tells 3 = .ok (.invokevirtual 146, 3) := by decide +kernel
theorem dX7_tells_6 : decode cX7_tells 6 = .ok (.ifCond .eq 21, 3) := by decide +kernel
theorem dX7_tells_27 : decode cX7_tells 27 = .ok (.iconst 0, 1) := by decide +kernel
theorem dX7_tells_28 : decode cX7_tells 28 = .ok (.ireturn, 1) := by decide +kernel
theorem dX7_years_0 : decode cX7_years 0 = .ok (.aload_n 0, 1) := by decide +kernel
theorem dX7_years_1 : decode cX7_years 1 = .ok (.getfield 35, 3) := by decide +kernel
theorem dX7_years_4 : decode cX7_years 4 = .ok (.invokevirtual 110, 3) := by decide +kernel
theorem dX7_years_7 : decode cX7_years 7 = .ok (.ifCond .eq 14, 3) := by decide +kernel
theorem dX7_years_21 : decode cX7_years 21 = .ok (.iconst (-1), 1) := by decide +kernel
theorem dX7_years_22 : decode cX7_years 22 = .ok (.ireturn, 1) := by decide +kernel
theorem dX7_status_0 : decode cX7_status 0 = .ok (.iload_n 1, 1) := by decide +kernel
theorem dX7_status_1 : decode cX7_status 1 = .ok (.ifCond .lt 21, 3) := by decide +kernel
theorem dX7_status_22 : decode cX7_status 22 = .ok (.iconst (-1), 1) := by decide +kernel
theorem dX7_status_23 : decode cX7_status 23 = .ok (.ireturn, 1) := by decide +kernel
theorem dX7_status_4 : decode cX7_status 4 = .ok (.iload_n 1, 1) := by decide +kernel
theorem dX7_status_5 : decode cX7_status 5 = .ok (.aload_n 0, 1) := by decide +kernel
theorem dX7_status_6 : decode cX7_status 6 = .ok (.getfield 69, 3) := by decide +kernel
theorem dX7_status_9 : decode cX7_status 9 = .ok (.arraylength, 1) := by decide +kernel
theorem dX7_status_10 : decode cX7_status 10 = .ok (.if_icmp .ge 12, 3) := by decide +kernel
theorem dX7_status_13 : decode cX7_status 13 = .ok (.aload_n 0, 1) := by decide +kernel
theorem dX7_status_14 : decode cX7_status 14 = .ok (.getfield 69, 3) := by decide +kernel
theorem dX7_status_17 : decode cX7_status 17 = .ok (.iload_n 1, 1) := by decide +kernel
theorem dX7_status_18 : decode cX7_status 18 = .ok (.iaload, 1) := by decide +kernel
theorem dX7_status_19 : decode cX7_status 19 = .ok (.goto 4, 3) := by decide +kernel
theorem dX7_undo_0 : decode cX7_undo 0 = .ok (.aload_n 0, 1) := by decide +kernel
theorem dX7_undo_1 : decode cX7_undo 1 = .ok (.getfield 58, 3) := by decide +kernel
theorem dX7_undo_4 : decode cX7_undo 4 = .ok (.aload_n 0, 1) := by decide +kernel
theorem dX7_undo_5 : decode cX7_undo 5 = .ok (.getfield 35, 3) := by decide +kernel
theorem dX7_undo_8 : decode cX7_undo 8 = .ok (.invokevirtual 197, 3) := by decide +kernel
theorem dX7_undo_11 : decode cX7_undo 11 = .ok (.ifCond .eq 13, 3) := by decide +kernel
theorem dX7_undo_24 : decode cX7_undo 24 = .ok (.iconst (-1), 1) := by decide +kernel
theorem dX7_undo_25 : decode cX7_undo 25 = .ok (.ireturn, 1) := by decide +kernel
theorem dX7_would_0 : decode cX7_would 0 = .ok (.aload_n 0, 1) := by decide +kernel
theorem dX7_would_1 : decode cX7_would 1 = .ok (.getfield 35, 3) := by decide +kernel
theorem dX7_would_4 : decode cX7_would 4 = .ok (.iconst 0, 1) := by decide +kernel
theorem dX7_would_5 : decode cX7_would 5 = .ok (.iload_n 1, 1) := by decide +kernel
theorem dX7_would_6 : decode cX7_would 6 = .ok (.iload_n 2, 1) := by decide +kernel
theorem dX7_would_7 : decode cX7_would 7 = .ok (.iload_n 3, 1) := by decide +kernel
theorem dX7_would_8 : decode cX7_would 8 = .ok (.invokevirtual 220, 3) := by decide +kernel
theorem dX7_would_11 : decode cX7_would 11 = .ok (.iconst (-1), 1) := by decide +kernel
theorem dX7_would_12 : decode cX7_would 12 = .ok (.if_icmp .eq 5, 3) := by decide +kernel
theorem dX7_would_15 : decode cX7_would 15 = .ok (.iconst (-1), 1) := by decide +kernel
theorem dX7_would_16 : decode cX7_would 16 = .ok (.ireturn, 1) := by decide +kernel
theorem dX7_walk_0 : decode cX7_walk 0 = .ok (.iload 4, 2) := by decide +kernel
theorem dX7_walk_2 : decode cX7_walk 2 = .ok (.iconst 1, 1) := by decide +kernel
theorem dX7_walk_3 : decode cX7_walk 3 = .ok (.if_icmp .lt 25, 3) := by decide +kernel
theorem dX7_walk_28 : decode cX7_walk 28 = .ok (.iconst (-1), 1) := by decide +kernel
theorem dX7_walk_29 : decode cX7_walk 29 = .ok (.ireturn, 1) := by decide +kernel
theorem dX7_walk_6 : decode cX7_walk 6 = .ok (.iload 4, 2) := by decide +kernel
theorem dX7_walk_8 : decode cX7_walk 8 = .ok (.bipush 99, 2) := by decide +kernel
theorem dX7_walk_10 : decode cX7_walk 10 = .ok (.if_icmp .gt 18, 3) := by decide +kernel
theorem dX7_walk_13 : decode cX7_walk 13 = .ok (.aload_n 0, 1) := by decide +kernel
theorem dX7_walk_14 : decode cX7_walk 14 = .ok (.getfield 35, 3) := by decide +kernel
theorem dX7_walk_17 : decode cX7_walk 17 = .ok (.iconst 0, 1) := by decide +kernel
theorem dX7_walk_18 : decode cX7_walk 18 = .ok (.iload_n 1, 1) := by decide +kernel
theorem dX7_walk_19 : decode cX7_walk 19 = .ok (.iload_n 2, 1) := by decide +kernel
theorem dX7_walk_20 : decode cX7_walk 20 = .ok (.iload_n 3, 1) := by decide +kernel
theorem dX7_walk_21 : decode cX7_walk 21 = .ok (.invokevirtual 220, 3) := by decide +kernel
theorem dX7_walk_24 : decode cX7_walk 24 = .ok (.iconst (-1), 1) := by decide +kernel
theorem dX7_walk_25 : decode cX7_walk 25 = .ok (.if_icmp .eq 5, 3) := by decide +kernel
theorem dX7_partner_0 : decode cX7_partner 0 = .ok (.aload_n 0, 1) := by decide +kernel
theorem dX7_partner_1 : decode cX7_partner 1 = .ok (.getfield 35, 3) := by decide +kernel
theorem dX7_partner_4 : decode cX7_partner 4 = .ok (.iconst 0, 1) := by decide +kernel
theorem dX7_partner_5 : decode cX7_partner 5 = .ok (.iload_n 1, 1) := by decide +kernel
theorem dX7_partner_6 : decode cX7_partner 6 = .ok (.iload_n 2, 1) := by decide +kernel
theorem dX7_partner_7 : decode cX7_partner 7 = .ok (.iload_n 3, 1) := by decide +kernel
theorem dX7_partner_8 : decode cX7_partner 8 = .ok (.invokevirtual 220, 3) := by decide +kernel
theorem dX7_partner_11 : decode cX7_partner 11 = .ok (.iconst (-1), 1) := by decide +kernel
theorem dX7_partner_12 : decode cX7_partner 12 = .ok (.if_icmp .ne 26, 3) := by decide +kernel
theorem dX7_partner_38 : decode cX7_partner 38 = .ok (.iconst (-1), 1) := by decide +kernel
theorem dX7_partner_39 : decode cX7_partner 39 = .ok (.ireturn, 1) := by decide +kernel
theorem dX7_race_0 : decode cX7_race 0 = .ok (.aload_n 0, 1) := by decide +kernel
theorem dX7_race_1 : decode cX7_race 1 = .ok (.getfield 35, 3) := by decide +kernel
theorem dX7_race_4 : decode cX7_race 4 = .ok (.invokevirtual 110, 3) := by decide +kernel
theorem dX7_race_7 : decode cX7_race 7 = .ok (.ifCond .eq 20, 3) := by decide +kernel
theorem dX7_race_27 : decode cX7_race 27 = .ok (.iconst (-1), 1) := by decide +kernel
theorem dX7_race_28 : decode cX7_race 28 = .ok (.ireturn, 1) := by decide +kernel
theorem dX7_needs_0 : decode cX7_needs 0 = .ok (.aload_n 0, 1) := by decide +kernel
theorem dX7_needs_1 : decode cX7_needs 1 = .ok (.getfield 35, 3) := by decide +kernel
theorem dX7_needs_4 : decode cX7_needs 4 = .ok (.iconst 0, 1) := by decide +kernel
theorem dX7_needs_5 : decode cX7_needs 5 = .ok (.iload_n 1, 1) := by decide +kernel
theorem dX7_needs_6 : decode cX7_needs 6 = .ok (.iload_n 2, 1) := by decide +kernel
theorem dX7_needs_7 : decode cX7_needs 7 = .ok (.iload_n 3, 1) := by decide +kernel
theorem dX7_needs_8 : decode cX7_needs 8 = .ok (.invokevirtual 220, 3) := by decide +kernel
theorem dX7_needs_11 : decode cX7_needs 11 = .ok (.iconst (-1), 1) := by decide +kernel
theorem dX7_needs_12 : decode cX7_needs 12 = .ok (.if_icmp .eq 7, 3) := by decide +kernel
theorem dX7_needs_15 : decode cX7_needs 15 = .ok (.ldc2_w 154, 3) := by decide +kernel
theorem dX7_needs_18 : decode cX7_needs 18 = .ok (.lreturn, 1) := by decide +kernel
theorem dX7_span_0 : decode cX7_span 0 = .ok (.aload_n 0, 1) := by decide +kernel
theorem dX7_span_1 : decode cX7_span 1 = .ok (.getfield 35, 3) := by decide +kernel
theorem dX7_span_4 : decode cX7_span 4 = .ok (.iload_n 1, 1) := by decide +kernel
theorem dX7_span_5 : decode cX7_span 5 = .ok (.invokevirtual 120, 3) := by decide +kernel
theorem dX7_span_8 : decode cX7_span 8 = .ok (.ifCond .eq 23, 3) := by decide +kernel
theorem dX7_span_31 : decode cX7_span 31 = .ok (.ldc 113, 2) := by decide +kernel
theorem dX7_span_33 : decode cX7_span 33 = .ok (.ireturn, 1) := by decide +kernel
theorem dX7_spell_0 : decode cX7_spell 0 = .ok (.aload_n 0, 1) := by decide +kernel
theorem dX7_spell_1 : decode cX7_spell 1 = .ok (.getfield 35, 3) := by decide +kernel
theorem dX7_spell_4 : decode cX7_spell 4 = .ok (.iload_n 1, 1) := by decide +kernel
theorem dX7_spell_5 : decode cX7_spell 5 = .ok (.invokevirtual 120, 3) := by decide +kernel
theorem dX7_spell_8 : decode cX7_spell 8 = .ok (.ifCond .ne 5, 3) := by decide +kernel
theorem dX7_spell_11 : decode cX7_spell 11 = .ok (.iconst (-1), 1) := by decide +kernel
theorem dX7_spell_12 : decode cX7_spell 12 = .ok (.ireturn, 1) := by decide +kernel
theorem dX7_step_0 : decode cX7_step 0 = .ok (.aload_n 0, 1) := by decide +kernel
theorem dX7_step_1 : decode cX7_step 1 = .ok (.getfield 28, 3) := by decide +kernel
theorem dX7_step_4 : decode cX7_step 4 = .ok (.iload_n 1, 1) := by decide +kernel
theorem dX7_step_5 : decode cX7_step 5 = .ok (.iload_n 2, 1) := by decide +kernel
theorem dX7_step_6 : decode cX7_step 6 = .ok (.iload_n 3, 1) := by decide +kernel
theorem dX7_step_7 : decode cX7_step 7 = .ok (.invokevirtual 288, 3) := by decide +kernel
theorem dX7_step_10 : decode cX7_step 10 = .ok (.ireturn, 1) := by decide +kernel
theorem dX7_run_0 : decode cX7_run 0 = .ok (.aload_n 0, 1) := by decide +kernel
theorem dX7_run_1 : decode cX7_run 1 = .ok (.getfield 28, 3) := by decide +kernel
theorem dX7_run_4 : decode cX7_run 4 = .ok (.iload_n 1, 1) := by decide +kernel
theorem dX7_run_5 : decode cX7_run 5 = .ok (.invokevirtual 290, 3) := by decide +kernel
theorem dX7_run_8 : decode cX7_run 8 = .ok (.ifCond .eq 22, 3) := by decide +kernel
theorem dX7_run_30 : decode cX7_run 30 = .ok (.ldc 113, 2) := by decide +kernel
theorem dX7_run_32 : decode cX7_run 32 = .ok (.ireturn, 1) := by decide +kernel
theorem dX7_perform_0 : decode cX7_perform 0 = .ok (.aload_n 0, 1) := by decide +kernel
theorem dX7_perform_1 : decode cX7_perform 1 = .ok (.getfield 28, 3) := by decide +kernel
theorem dX7_perform_4 : decode cX7_perform 4 = .ok (.iload_n 1, 1) := by decide +kernel
theorem dX7_perform_5 : decode cX7_perform 5 = .ok (.invokevirtual 290, 3) := by decide +kernel
theorem dX7_perform_8 : decode cX7_perform 8 = .ok (.ifCond .eq 13, 3) := by decide +kernel
theorem dX7_perform_21 : decode cX7_perform 21 = .ok (.iconst (-1), 1) := by decide +kernel
theorem dX7_perform_22 : decode cX7_perform 22 = .ok (.ireturn, 1) := by decide +kernel
theorem dX7_most_0 : decode cX7_most 0 = .ok (.aload_n 0, 1) := by decide +kernel
theorem dX7_most_1 : decode cX7_most 1 = .ok (.getfield 35, 3) := by decide +kernel
theorem dX7_most_4 : decode cX7_most 4 = .ok (.invokevirtual 110, 3) := by decide +kernel
theorem dX7_most_7 : decode cX7_most 7 = .ok (.ifCond .ne 6, 3) := by decide +kernel
theorem dX7_most_10 : decode cX7_most 10 = .ok (.ldc 113, 2) := by decide +kernel
theorem dX7_most_12 : decode cX7_most 12 = .ok (.ireturn, 1) := by decide +kernel
def v_c_rule : List Cond := .code yX7_rule cX7_rule 2 (some .int) :: ([.fieldLink RX7 35 "HushWatch" "now" "LHushWatch$State;", .constant RX7 113 (-100000000), .methodLink RX7 110 yX5_stands, .instanceMethod yX5_stands, .selects RX5 yX5_stands yX5_stands, .initialized RX5] ++ (wsX70 ++ (v_c_stands ++ ([]))))
theorem gw_c_rule : v_c_rule.all goodWord = true := by decide +kernel
theorem i_c_rule_X7 : ∀ w ∈ wsX70, w ∈ v_c_rule := fun _ h => List.mem_cons_of_mem _ (List.mem_append_right _ (List.mem_append_left _ h))
theorem g_c_rule_c_stands_110 : GoodIn v_c_rule (wsV RX7 110 RX5 yX5_stands v_c_stands) := goodIn_app (goodIn_of _ (by decide +kernel)) (goodIn_sub (fun _ h => List.mem_cons_of_mem _ (List.mem_append_right _ (List.mem_append_right _ (List.mem_append_left _ h)))) gw_c_stands)
set_option maxHeartbeats 4000000 in
set_option maxRecDepth 100000 in
theorem c_rule (l : Launch) (E : EE) (x t rd sc n tr kp bk kb hi dr rf : Nat) (n1 n2 n3 n4 : Nat) (p0 : Int32) : Met l yX7_rule v_c_rule ({ frames := 1, cells := 0, slots := 0, locals := 20 }) (va_Pc [.ref x, .int p0] (pP E [(x, .inr (8, [.ref t, .ref rd, .ref sc, .ref n, .ref tr, .ref kp, .ref bk, .ref kb, .ref hi, .ref dr, .ref rf, .int 0])), (n, .inr (6, [.ref n1, .ref n2, .int 0, .int 0, .ref n3, .ref n4])), (n1, .inl (E.2.1, 81, .inl (fun _ => 0)))])) (vp_Si (fun r => r = -100000000)) 0 0 (fun _ => False) := by
  refine Met.ofW (cc := cX7_rule) (maxL := 2) (ret := (some .int)) (by decide) rfl ?_
  intro p e s m args below meth c s₁ B hml hv
  obtain ⟨rfl, ⟨hK, hN⟩, hP⟩ := hv
  have hx := B.exec
  have hb := B.bytes
  have hr := B.returns
  have hts := atoms_spec (ws := v_c_rule) B.pre
  have hown : s.vm.findClass RX7 = some m.cls := findClass_of_methodNamed B.named
  have hlocks := B.notSynchronized
  have hP : va_P E.1 vwCl [(x, .inr (8, [.ref t, .ref rd, .ref sc, .ref n, .ref tr, .ref kp, .ref bk, .ref kb, .ref hi, .ref dr, .ref rf, .int 0])), (n, .inr (6, [.ref n1, .ref n2, .int 0, .int 0, .ref n3, .ref n4])), (n1, .inl (E.2.1, 81, .inl (fun _ => 0)))] s.heap := hP
  have hl := lv_entry ([.ref x, .int p0]) (n := 2) (Nat.le_of_ble_eq_true rfl)
  rw [lg_entry_eq]
  generalize (lg_sl ([.ref x, .int p0]) ++ List.replicate (2 - (lg_sl ([.ref x, .int p0])).length) Slot.unset).toArray = ls at hl ⊢
  have hl : lv_has ls 2 [(0, .ref x), (1, .int p0)] := hl
  refine lv_aload_n hx hb dX7_rule_0 rfl (lv_at hl 0 rfl) ?_
  refine va_get (D := E.1) (ci := 8) (v := .ref n) (C := RX7) (T := TX7) (N := 12) hx hb hts i_c_rule_X7 hown hK hP 0 rfl rfl 3 (by decide) (hts (.fieldLink RX7 35 "HushWatch" "now" "LHushWatch$State;") (List.mem_of_getElem? (i := 1) rfl)) (fun _ h9 => h9) rfl dX7_rule_1 ?_
  have hPc := hP.sub (ws' := [(n, .inr (6, [.ref n1, .ref n2, .int 0, .int 0, .ref n3, .ref n4])), (n1, .inl (E.2.1, 81, .inl (fun _ => 0)))]) [1, 2] rfl
  refine pc_i (va_runV (As := []) (rest := []) ⟨hx, hb, hml, hown, hts⟩ (c_stands l E n n1 n2 n3 n4) (cwV 0 hts g_c_rule_c_stands_110 rfl rfl rfl (by decide +kernel) ⟨Nat.le_of_ble_eq_true rfl, Nat.le_of_ble_eq_true rfl⟩) ⟨pP.blind, va_recv hK hPc (ci := 6) (q0 := 0) rfl rfl, (pP.pre ⟨hK, hN⟩ hPc)⟩ rfl rfl hl.1 rfl (lv_room (Nat.le_of_ble_eq_true rfl)) dX7_rule_4 ⟨Nat.le_of_ble_eq_true rfl, Nat.le_of_ble_eq_true rfl⟩) (fun r_1 hr_1 => ?_)
  obtain rfl : r_1 = 0 := hr_1
  refine lv_if_ne (tgt := 13) hx hb dX7_rule_7 (by decide) (fun q => absurd (by decide) q) (fun _ => ?_)
  refine lv_ldc (v := -100000000) hx hb hown (hts (.constant RX7 113 (-100000000)) (List.mem_of_getElem? (i := 2) rfl)) dX7_rule_10 ?_
  exact W.iret (v := -100000000) hx hb hr (fun tt ht hW => ⟨_, rfl, rfl, ht⟩) (fun _ h => by cases h) dX7_rule_12

def v_c_value : List Cond := .code yX7_value cX7_value 3 (some .long) :: ([.constantLong RX7 154 (-100000000), .methodLink RX7 146 yX7_canBeAsked, .instanceMethod yX7_canBeAsked, .selects RX7 yX7_canBeAsked yX7_canBeAsked, .initialized RX7] ++ (v_c_canBeAsked ++ ([])))
theorem gw_c_value : v_c_value.all goodWord = true := by decide +kernel
theorem g_c_value_c_canBeAsked_146 : GoodIn v_c_value (wsV RX7 146 RX7 yX7_canBeAsked v_c_canBeAsked) := goodIn_app (goodIn_of _ (by decide +kernel)) (goodIn_sub (fun _ h => List.mem_cons_of_mem _ (List.mem_append_right _ (List.mem_append_left _ h))) gw_c_canBeAsked)
set_option maxHeartbeats 4000000 in
set_option maxRecDepth 100000 in
theorem c_value (l : Launch) (E : EE) (x t rd sc n tr kp bk kb hi dr rf : Nat) (n1 n2 n3 n4 : Nat) (p0 p1 : Int32) : Met l yX7_value v_c_value ({ frames := 2, cells := 0, slots := 0, locals := 42 }) (va_Pc [.ref x, .int p0, .int p1] (pP E [(x, .inr (8, [.ref t, .ref rd, .ref sc, .ref n, .ref tr, .ref kp, .ref bk, .ref kb, .ref hi, .ref dr, .ref rf, .int 0])), (n, .inr (6, [.ref n1, .ref n2, .int 0, .int 0, .ref n3, .ref n4])), (n1, .inl (E.2.1, 81, .inl (fun _ => 0)))])) (vp_Sl (fun r => r = -100000000)) 0 0 (fun _ => False) := by
  refine Met.ofW (cc := cX7_value) (maxL := 3) (ret := (some .long)) (by decide) rfl ?_
  intro p e s m args below meth c s₁ B hml hv
  obtain ⟨rfl, ⟨hK, hN⟩, hP⟩ := hv
  have hx := B.exec
  have hb := B.bytes
  have hr := B.returns
  have hts := atoms_spec (ws := v_c_value) B.pre
  have hown : s.vm.findClass RX7 = some m.cls := findClass_of_methodNamed B.named
  have hlocks := B.notSynchronized
  have hP : va_P E.1 vwCl [(x, .inr (8, [.ref t, .ref rd, .ref sc, .ref n, .ref tr, .ref kp, .ref bk, .ref kb, .ref hi, .ref dr, .ref rf, .int 0])), (n, .inr (6, [.ref n1, .ref n2, .int 0, .int 0, .ref n3, .ref n4])), (n1, .inl (E.2.1, 81, .inl (fun _ => 0)))] s.heap := hP
  have hl := lv_entry ([.ref x, .int p0, .int p1]) (n := 3) (Nat.le_of_ble_eq_true rfl)
  rw [lg_entry_eq]
  generalize (lg_sl ([.ref x, .int p0, .int p1]) ++ List.replicate (3 - (lg_sl ([.ref x, .int p0, .int p1])).length) Slot.unset).toArray = ls at hl ⊢
  have hl : lv_has ls 3 [(0, .ref x), (1, .int p0), (2, .int p1)] := hl
  refine lv_aload_n hx hb dX7_value_0 rfl (lv_at hl 0 rfl) ?_
  refine lv_iload_n hx hb dX7_value_1 rfl (lv_at hl 1 rfl) ?_
  refine lv_iload_n hx hb dX7_value_2 rfl (lv_at hl 2 rfl) ?_
  have hPc := hP.sub (ws' := [(x, .inr (8, [.ref t, .ref rd, .ref sc, .ref n, .ref tr, .ref kp, .ref bk, .ref kb, .ref hi, .ref dr, .ref rf, .int 0])), (n, .inr (6, [.ref n1, .ref n2, .int 0, .int 0, .ref n3, .ref n4])), (n1, .inl (E.2.1, 81, .inl (fun _ => 0)))]) [0, 1, 2] rfl
  refine pc_i (va_runV (As := [.int p0, .int p1]) (rest := []) ⟨hx, hb, hml, hown, hts⟩ (c_canBeAsked l E x t rd sc n tr kp bk kb hi dr rf n1 n2 n3 n4 p0 p1) (cwV 2 hts g_c_value_c_canBeAsked_146 rfl rfl rfl (by decide +kernel) ⟨Nat.le_of_ble_eq_true rfl, Nat.le_of_ble_eq_true rfl⟩) ⟨pP.blind, va_recv hK hPc (ci := 8) (q0 := 0) rfl rfl, (pP.pre ⟨hK, hN⟩ hPc)⟩ rfl rfl hl.1 rfl (lv_room (Nat.le_of_ble_eq_true rfl)) dX7_value_3 ⟨Nat.le_of_ble_eq_true rfl, Nat.le_of_ble_eq_true rfl⟩) (fun r_1 hr_1 => ?_)
  obtain rfl : r_1 = 0 := hr_1
  refine lv_if_eq (tgt := 23) hx hb dX7_value_6 (by decide) (fun _ => ?_) (fun q => absurd (by decide) q)
  refine lv_ldc2 (v := -100000000) hx hb hown (hts (.constantLong RX7 154 (-100000000)) (List.mem_of_getElem? (i := 1) rfl)) dX7_value_23 ?_
  exact W.lret (v := -100000000) hx hb hr (fun tt ht hW => ⟨_, rfl, rfl, ht⟩) (fun _ h => by cases h) dX7_value_26

def v_c_tells : List Cond := .code yX7_tells cX7_tells 3 (some .boolean) :: ([.methodLink RX7 146 yX7_canBeAsked, .instanceMethod yX7_canBeAsked, .selects RX7 yX7_canBeAsked yX7_canBeAsked, .initialized RX7] ++ (v_c_canBeAsked ++ ([])))
theorem gw_c_tells : v_c_tells.all goodWord = true := by decide +kernel
theorem g_c_tells_c_canBeAsked_146 : GoodIn v_c_tells (wsV RX7 146 RX7 yX7_canBeAsked v_c_canBeAsked) := goodIn_app (goodIn_of _ (by decide +kernel)) (goodIn_sub (fun _ h => List.mem_cons_of_mem _ (List.mem_append_right _ (List.mem_append_left _ h))) gw_c_canBeAsked)
set_option maxHeartbeats 4000000 in
set_option maxRecDepth 100000 in
theorem c_tells (l : Launch) (E : EE) (x t rd sc n tr kp bk kb hi dr rf : Nat) (n1 n2 n3 n4 : Nat) (p0 p1 : Int32) : Met l yX7_tells v_c_tells ({ frames := 2, cells := 0, slots := 0, locals := 42 }) (va_Pc [.ref x, .int p0, .int p1] (pP E [(x, .inr (8, [.ref t, .ref rd, .ref sc, .ref n, .ref tr, .ref kp, .ref bk, .ref kb, .ref hi, .ref dr, .ref rf, .int 0])), (n, .inr (6, [.ref n1, .ref n2, .int 0, .int 0, .ref n3, .ref n4])), (n1, .inl (E.2.1, 81, .inl (fun _ => 0)))])) (vp_Si (fun r => r = 0)) 0 0 (fun _ => False) := by
  refine Met.ofW (cc := cX7_tells) (maxL := 3) (ret := (some .boolean)) (by decide) rfl ?_
  intro p e s m args below meth c s₁ B hml hv
  obtain ⟨rfl, ⟨hK, hN⟩, hP⟩ := hv
  have hx := B.exec
  have hb := B.bytes
  have hr := B.returns
  have hts := atoms_spec (ws := v_c_tells) B.pre
  have hown : s.vm.findClass RX7 = some m.cls := findClass_of_methodNamed B.named
  have hlocks := B.notSynchronized
  have hP : va_P E.1 vwCl [(x, .inr (8, [.ref t, .ref rd, .ref sc, .ref n, .ref tr, .ref kp, .ref bk, .ref kb, .ref hi, .ref dr, .ref rf, .int 0])), (n, .inr (6, [.ref n1, .ref n2, .int 0, .int 0, .ref n3, .ref n4])), (n1, .inl (E.2.1, 81, .inl (fun _ => 0)))] s.heap := hP
  have hl := lv_entry ([.ref x, .int p0, .int p1]) (n := 3) (Nat.le_of_ble_eq_true rfl)
  rw [lg_entry_eq]
  generalize (lg_sl ([.ref x, .int p0, .int p1]) ++ List.replicate (3 - (lg_sl ([.ref x, .int p0, .int p1])).length) Slot.unset).toArray = ls at hl ⊢
  have hl : lv_has ls 3 [(0, .ref x), (1, .int p0), (2, .int p1)] := hl
  refine lv_aload_n hx hb dX7_tells_0 rfl (lv_at hl 0 rfl) ?_
  refine lv_iload_n hx hb dX7_tells_1 rfl (lv_at hl 1 rfl) ?_
  refine lv_iload_n hx hb dX7_tells_2 rfl (lv_at hl 2 rfl) ?_
  have hPc := hP.sub (ws' := [(x, .inr (8, [.ref t, .ref rd, .ref sc, .ref n, .ref tr, .ref kp, .ref bk, .ref kb, .ref hi, .ref dr, .ref rf, .int 0])), (n, .inr (6, [.ref n1, .ref n2, .int 0, .int 0, .ref n3, .ref n4])), (n1, .inl (E.2.1, 81, .inl (fun _ => 0)))]) [0, 1, 2] rfl
  refine pc_i (va_runV (As := [.int p0, .int p1]) (rest := []) ⟨hx, hb, hml, hown, hts⟩ (c_canBeAsked l E x t rd sc n tr kp bk kb hi dr rf n1 n2 n3 n4 p0 p1) (cwV 2 hts g_c_tells_c_canBeAsked_146 rfl rfl rfl (by decide +kernel) ⟨Nat.le_of_ble_eq_true rfl, Nat.le_of_ble_eq_true rfl⟩) ⟨pP.blind, va_recv hK hPc (ci := 8) (q0 := 0) rfl rfl, (pP.pre ⟨hK, hN⟩ hPc)⟩ rfl rfl hl.1 rfl (lv_room (Nat.le_of_ble_eq_true rfl)) dX7_tells_3 ⟨Nat.le_of_ble_eq_true rfl, Nat.le_of_ble_eq_true rfl⟩) (fun r_1 hr_1 => ?_)
  obtain rfl : r_1 = 0 := hr_1
  refine lv_if_eq (tgt := 27) hx hb dX7_tells_6 (by decide) (fun _ => ?_) (fun q => absurd (by decide) q)
  refine lv_iconst (v := 0) hx hb dX7_tells_27 (by decide) ?_
  exact W.zret (v := 0) hx hb hr rfl (fun tt ht hW => ⟨_, rfl, rfl, ht⟩) (fun _ h => by cases h) dX7_tells_28

def v_c_years : List Cond := .code yX7_years cX7_years 6 (some .int) :: ([.fieldLink RX7 35 "HushWatch" "now" "LHushWatch$State;", .methodLink RX7 110 yX5_stands, .instanceMethod yX5_stands, .selects RX5 yX5_stands yX5_stands, .initialized RX5] ++ (wsX70 ++ (v_c_stands ++ ([]))))
theorem gw_c_years : v_c_years.all goodWord = true := by decide +kernel
theorem i_c_years_X7 : ∀ w ∈ wsX70, w ∈ v_c_years := fun _ h => List.mem_cons_of_mem _ (List.mem_append_right _ (List.mem_append_left _ h))
theorem g_c_years_c_stands_110 : GoodIn v_c_years (wsV RX7 110 RX5 yX5_stands v_c_stands) := goodIn_app (goodIn_of _ (by decide +kernel)) (goodIn_sub (fun _ h => List.mem_cons_of_mem _ (List.mem_append_right _ (List.mem_append_right _ (List.mem_append_left _ h)))) gw_c_stands)
set_option maxHeartbeats 4000000 in
set_option maxRecDepth 100000 in
theorem c_years (l : Launch) (E : EE) (x t rd sc n tr kp bk kb hi dr rf : Nat) (n1 n2 n3 n4 : Nat) (p0 : Int32) (p1 : Int64) : Met l yX7_years v_c_years ({ frames := 1, cells := 0, slots := 0, locals := 20 }) (va_Pc [.ref x, .int p0, .long p1] (pP E [(x, .inr (8, [.ref t, .ref rd, .ref sc, .ref n, .ref tr, .ref kp, .ref bk, .ref kb, .ref hi, .ref dr, .ref rf, .int 0])), (n, .inr (6, [.ref n1, .ref n2, .int 0, .int 0, .ref n3, .ref n4])), (n1, .inl (E.2.1, 81, .inl (fun _ => 0)))])) (vp_Si (fun r => r = -1)) 0 0 (fun _ => False) := by
  refine Met.ofW (cc := cX7_years) (maxL := 6) (ret := (some .int)) (by decide) rfl ?_
  intro p e s m args below meth c s₁ B hml hv
  obtain ⟨rfl, ⟨hK, hN⟩, hP⟩ := hv
  have hx := B.exec
  have hb := B.bytes
  have hr := B.returns
  have hts := atoms_spec (ws := v_c_years) B.pre
  have hown : s.vm.findClass RX7 = some m.cls := findClass_of_methodNamed B.named
  have hlocks := B.notSynchronized
  have hP : va_P E.1 vwCl [(x, .inr (8, [.ref t, .ref rd, .ref sc, .ref n, .ref tr, .ref kp, .ref bk, .ref kb, .ref hi, .ref dr, .ref rf, .int 0])), (n, .inr (6, [.ref n1, .ref n2, .int 0, .int 0, .ref n3, .ref n4])), (n1, .inl (E.2.1, 81, .inl (fun _ => 0)))] s.heap := hP
  have hl := lv_entry ([.ref x, .int p0, .long p1]) (n := 6) (Nat.le_of_ble_eq_true rfl)
  rw [lg_entry_eq]
  generalize (lg_sl ([.ref x, .int p0, .long p1]) ++ List.replicate (6 - (lg_sl ([.ref x, .int p0, .long p1])).length) Slot.unset).toArray = ls at hl ⊢
  have hl : lv_has ls 6 [(0, .ref x), (1, .int p0), (2, .long p1)] := hl
  refine lv_aload_n hx hb dX7_years_0 rfl (lv_at hl 0 rfl) ?_
  refine va_get (D := E.1) (ci := 8) (v := .ref n) (C := RX7) (T := TX7) (N := 12) hx hb hts i_c_years_X7 hown hK hP 0 rfl rfl 3 (by decide) (hts (.fieldLink RX7 35 "HushWatch" "now" "LHushWatch$State;") (List.mem_of_getElem? (i := 1) rfl)) (fun _ h9 => h9) rfl dX7_years_1 ?_
  have hPc := hP.sub (ws' := [(n, .inr (6, [.ref n1, .ref n2, .int 0, .int 0, .ref n3, .ref n4])), (n1, .inl (E.2.1, 81, .inl (fun _ => 0)))]) [1, 2] rfl
  refine pc_i (va_runV (As := []) (rest := []) ⟨hx, hb, hml, hown, hts⟩ (c_stands l E n n1 n2 n3 n4) (cwV 0 hts g_c_years_c_stands_110 rfl rfl rfl (by decide +kernel) ⟨Nat.le_of_ble_eq_true rfl, Nat.le_of_ble_eq_true rfl⟩) ⟨pP.blind, va_recv hK hPc (ci := 6) (q0 := 0) rfl rfl, (pP.pre ⟨hK, hN⟩ hPc)⟩ rfl rfl hl.1 rfl (lv_room (Nat.le_of_ble_eq_true rfl)) dX7_years_4 ⟨Nat.le_of_ble_eq_true rfl, Nat.le_of_ble_eq_true rfl⟩) (fun r_1 hr_1 => ?_)
  obtain rfl : r_1 = 0 := hr_1
  refine lv_if_eq (tgt := 21) hx hb dX7_years_7 (by decide) (fun _ => ?_) (fun q => absurd (by decide) q)
  refine lv_iconst (v := -1) hx hb dX7_years_21 (by decide) ?_
  exact W.iret (v := -1) hx hb hr (fun tt ht hW => ⟨_, rfl, rfl, ht⟩) (fun _ h => by cases h) dX7_years_22

def v_c_status : List Cond := .code yX7_status cX7_status 2 (some .int) :: ([.fieldLink RX7 69 "HushWatch" "refused" "[I"] ++ (wsX70 ++ ([])))
theorem gw_c_status : v_c_status.all goodWord = true := by decide +kernel
theorem i_c_status_X7 : ∀ w ∈ wsX70, w ∈ v_c_status := fun _ h => List.mem_cons_of_mem _ (List.mem_append_right _ (List.mem_append_left _ h))
set_option maxHeartbeats 4000000 in
set_option maxRecDepth 100000 in
theorem c_status (l : Launch) (E : EE) (x t rd sc n tr kp bk kb hi dr rf : Nat) (p0 : Int32) : Met l yX7_status v_c_status ({ frames := 0, cells := 0, slots := 0, locals := 0 }) (va_Pc [.ref x, .int p0] (pP E [(x, .inr (8, [.ref t, .ref rd, .ref sc, .ref n, .ref tr, .ref kp, .ref bk, .ref kb, .ref hi, .ref dr, .ref rf, .int 0])), (rf, .inl (E.2.1, 3, .inl (fun _ => 0)))])) (vp_Si (fun r => r = statv p0)) 0 0 (fun _ => False) := by
  refine Met.ofW (cc := cX7_status) (maxL := 2) (ret := (some .int)) (by decide) rfl ?_
  intro p e s m args below meth c s₁ B hml hv
  obtain ⟨rfl, ⟨hK, hN⟩, hP⟩ := hv
  have hx := B.exec
  have hb := B.bytes
  have hr := B.returns
  have hts := atoms_spec (ws := v_c_status) B.pre
  have hown : s.vm.findClass RX7 = some m.cls := findClass_of_methodNamed B.named
  have hlocks := B.notSynchronized
  have hP : va_P E.1 vwCl [(x, .inr (8, [.ref t, .ref rd, .ref sc, .ref n, .ref tr, .ref kp, .ref bk, .ref kb, .ref hi, .ref dr, .ref rf, .int 0])), (rf, .inl (E.2.1, 3, .inl (fun _ => 0)))] s.heap := hP
  have hl := lv_entry ([.ref x, .int p0]) (n := 2) (Nat.le_of_ble_eq_true rfl)
  rw [lg_entry_eq]
  generalize (lg_sl ([.ref x, .int p0]) ++ List.replicate (2 - (lg_sl ([.ref x, .int p0])).length) Slot.unset).toArray = ls at hl ⊢
  have hl : lv_has ls 2 [(0, .ref x), (1, .int p0)] := hl
  refine lv_iload_n hx hb dX7_status_0 rfl (lv_at hl 1 rfl) ?_
  refine lv_if_lt (tgt := 22) hx hb dX7_status_1 (by decide) (fun c_1 => ?_) (fun c_1 => ?_)
  ·
    refine lv_iconst (v := -1) hx hb dX7_status_22 (by decide) ?_
    exact W.iret (v := -1) hx hb hr (fun tt ht hW => ⟨_, rfl, (by have t0 : (0 : Int32).toInt = 0 := (by decide); simp only [Int32.lt_iff_toInt_lt, Int32.le_iff_toInt_le, ge_iff_le, gt_iff_lt, ne_eq, ← Int32.toInt_inj, t0] at c_1; unfold statv; rw [if_neg (by omega)]), ht⟩) (fun _ h => by cases h) dX7_status_23
  ·
    refine lv_iload_n hx hb dX7_status_4 rfl (lv_at hl 1 rfl) ?_
    refine lv_aload_n hx hb dX7_status_5 rfl (lv_at hl 0 rfl) ?_
    refine va_get (D := E.1) (ci := 8) (v := .ref rf) (C := RX7) (T := TX7) (N := 12) hx hb hts i_c_status_X7 hown hK hP 0 rfl rfl 10 (by decide) (hts (.fieldLink RX7 69 "HushWatch" "refused" "[I") (List.mem_of_getElem? (i := 1) rfl)) (fun _ h9 => h9) rfl dX7_status_6 ?_
    refine va_alen (v := 3) hx hb hK hP 1 0 rfl rfl (by decide) dX7_status_9 ?_
    refine lv_icmp_ge (tgt := 22) hx hb dX7_status_10 (by decide) (fun c_2 => ?_) (fun c_2 => ?_)
    ·
      refine lv_iconst (v := -1) hx hb dX7_status_22 (by decide) ?_
      exact W.iret (v := -1) hx hb hr (fun tt ht hW => ⟨_, rfl, (by have t0 : (0 : Int32).toInt = 0 := (by decide); have t1 : (3 : Int32).toInt = 3 := (by decide); simp only [Int32.lt_iff_toInt_lt, Int32.le_iff_toInt_le, ge_iff_le, gt_iff_lt, ne_eq, ← Int32.toInt_inj, t0, t1] at c_1 c_2; unfold statv; rw [if_neg (by omega)]), ht⟩) (fun _ h => by cases h) dX7_status_23
    ·
      refine lv_aload_n hx hb dX7_status_13 rfl (lv_at hl 0 rfl) ?_
      refine va_get (D := E.1) (ci := 8) (v := .ref rf) (C := RX7) (T := TX7) (N := 12) hx hb hts i_c_status_X7 hown hK hP 0 rfl rfl 10 (by decide) (hts (.fieldLink RX7 69 "HushWatch" "refused" "[I") (List.mem_of_getElem? (i := 1) rfl)) (fun _ h9 => h9) rfl dX7_status_14 ?_
      refine lv_iload_n hx hb dX7_status_17 rfl (lv_at hl 1 rfl) ?_
      refine va_iald hx hb hK hP 1 0 rfl rfl (vin_lt c_1 c_2 (by decide)) dX7_status_18 ?_
      refine W.eq (g2 := F0 m 19 ls [.int 0]) rfl ?_
      refine lv_goto (tgt := 23) hx hb dX7_status_19 (by decide) ?_
      exact W.iret (v := 0) hx hb hr (fun tt ht hW => ⟨_, rfl, (by have t0 : (0 : Int32).toInt = 0 := (by decide); have t1 : (3 : Int32).toInt = 3 := (by decide); simp only [Int32.lt_iff_toInt_lt, Int32.le_iff_toInt_le, ge_iff_le, gt_iff_lt, ne_eq, ← Int32.toInt_inj, t0, t1] at c_1 c_2; unfold statv; rw [if_pos (by omega)]), ht⟩) (fun _ h => by cases h) dX7_status_23

def v_c_undo : List Cond := .code yX7_undo cX7_undo 1 (some .int) :: ([.fieldLink RX7 58 "HushWatch" "history" "LHushWatch$History;", .fieldLink RX7 35 "HushWatch" "now" "LHushWatch$State;", .methodLink RX7 197 yX2_bringBack, .instanceMethod yX2_bringBack, .selects RX2 yX2_bringBack yX2_bringBack, .initialized RX2] ++ (wsX70 ++ (v_c_bringBack ++ ([]))))
theorem gw_c_undo : v_c_undo.all goodWord = true := by decide +kernel
theorem i_c_undo_X7 : ∀ w ∈ wsX70, w ∈ v_c_undo := fun _ h => List.mem_cons_of_mem _ (List.mem_append_right _ (List.mem_append_left _ h))
theorem g_c_undo_c_bringBack_197 : GoodIn v_c_undo (wsV RX7 197 RX2 yX2_bringBack v_c_bringBack) := goodIn_app (goodIn_of _ (by decide +kernel)) (goodIn_sub (fun _ h => List.mem_cons_of_mem _ (List.mem_append_right _ (List.mem_append_right _ (List.mem_append_left _ h)))) gw_c_bringBack)
set_option maxHeartbeats 4000000 in
set_option maxRecDepth 100000 in
theorem c_undo (l : Launch) (E : EE) (x t rd sc n tr kp bk kb hi dr rf : Nat) (v1 : Nat) : Met l yX7_undo v_c_undo ({ frames := 1, cells := 0, slots := 0, locals := 21 }) (va_Pc [.ref x] (pP E [(x, .inr (8, [.ref t, .ref rd, .ref sc, .ref n, .ref tr, .ref kp, .ref bk, .ref kb, .ref hi, .ref dr, .ref rf, .int 0])), (hi, .inr (3, [.ref v1, .int 0, .int 0]))])) (vp_Si (fun r => r = -1)) 0 0 (fun _ => False) := by
  refine Met.ofW (cc := cX7_undo) (maxL := 1) (ret := (some .int)) (by decide) rfl ?_
  intro p e s m args below meth c s₁ B hml hv
  obtain ⟨rfl, ⟨hK, hN⟩, hP⟩ := hv
  have hx := B.exec
  have hb := B.bytes
  have hr := B.returns
  have hts := atoms_spec (ws := v_c_undo) B.pre
  have hown : s.vm.findClass RX7 = some m.cls := findClass_of_methodNamed B.named
  have hlocks := B.notSynchronized
  have hP : va_P E.1 vwCl [(x, .inr (8, [.ref t, .ref rd, .ref sc, .ref n, .ref tr, .ref kp, .ref bk, .ref kb, .ref hi, .ref dr, .ref rf, .int 0])), (hi, .inr (3, [.ref v1, .int 0, .int 0]))] s.heap := hP
  have hl := lv_entry ([.ref x]) (n := 1) (Nat.le_of_ble_eq_true rfl)
  rw [lg_entry_eq]
  generalize (lg_sl ([.ref x]) ++ List.replicate (1 - (lg_sl ([.ref x])).length) Slot.unset).toArray = ls at hl ⊢
  have hl : lv_has ls 1 [(0, .ref x)] := hl
  refine lv_aload_n hx hb dX7_undo_0 rfl (lv_at hl 0 rfl) ?_
  refine va_get (D := E.1) (ci := 8) (v := .ref hi) (C := RX7) (T := TX7) (N := 12) hx hb hts i_c_undo_X7 hown hK hP 0 rfl rfl 8 (by decide) (hts (.fieldLink RX7 58 "HushWatch" "history" "LHushWatch$History;") (List.mem_of_getElem? (i := 1) rfl)) (fun _ h9 => h9) rfl dX7_undo_1 ?_
  refine lv_aload_n hx hb dX7_undo_4 rfl (lv_at hl 0 rfl) ?_
  refine va_get (D := E.1) (ci := 8) (v := .ref n) (C := RX7) (T := TX7) (N := 12) hx hb hts i_c_undo_X7 hown hK hP 0 rfl rfl 3 (by decide) (hts (.fieldLink RX7 35 "HushWatch" "now" "LHushWatch$State;") (List.mem_of_getElem? (i := 2) rfl)) (fun _ h9 => h9) rfl dX7_undo_5 ?_
  have hPc := hP.sub (ws' := [(hi, .inr (3, [.ref v1, .int 0, .int 0]))]) [1] rfl
  refine pc_i (va_runV (As := [.ref n]) (rest := []) ⟨hx, hb, hml, hown, hts⟩ (c_bringBack l E hi v1 n) (cwV 1 hts g_c_undo_c_bringBack_197 rfl rfl rfl (by decide +kernel) ⟨Nat.le_of_ble_eq_true rfl, Nat.le_of_ble_eq_true rfl⟩) ⟨pP.blind, va_recv hK hPc (ci := 3) (q0 := 0) rfl rfl, (pP.pre ⟨hK, hN⟩ hPc)⟩ rfl rfl hl.1 rfl (lv_room (Nat.le_of_ble_eq_true rfl)) dX7_undo_8 ⟨Nat.le_of_ble_eq_true rfl, Nat.le_of_ble_eq_true rfl⟩) (fun r_1 hr_1 => ?_)
  obtain rfl : r_1 = 0 := hr_1
  refine lv_if_eq (tgt := 24) hx hb dX7_undo_11 (by decide) (fun _ => ?_) (fun q => absurd (by decide) q)
  refine lv_iconst (v := -1) hx hb dX7_undo_24 (by decide) ?_
  exact W.iret (v := -1) hx hb hr (fun tt ht hW => ⟨_, rfl, rfl, ht⟩) (fun _ h => by cases h) dX7_undo_25

def v_c_would : List Cond := .code yX7_would cX7_would 6 (some .int) :: ([.fieldLink RX7 35 "HushWatch" "now" "LHushWatch$State;", .methodLink RX7 220 yX5_refusal, .instanceMethod yX5_refusal, .selects RX5 yX5_refusal yX5_refusal, .initialized RX5] ++ (wsX70 ++ (v_c_refusal ++ ([]))))
theorem gw_c_would : v_c_would.all goodWord = true := by decide +kernel
theorem i_c_would_X7 : ∀ w ∈ wsX70, w ∈ v_c_would := fun _ h => List.mem_cons_of_mem _ (List.mem_append_right _ (List.mem_append_left _ h))
theorem g_c_would_c_refusal_220 : GoodIn v_c_would (wsV RX7 220 RX5 yX5_refusal v_c_refusal) := goodIn_app (goodIn_of _ (by decide +kernel)) (goodIn_sub (fun _ h => List.mem_cons_of_mem _ (List.mem_append_right _ (List.mem_append_right _ (List.mem_append_left _ h)))) gw_c_refusal)
set_option maxHeartbeats 4000000 in
set_option maxRecDepth 100000 in
theorem c_would (l : Launch) (E : EE) (x t rd sc n tr kp bk kb hi dr rf : Nat) (n1 n2 n3 n4 : Nat) (p0 p1 p2 p3 : Int32) : Met l yX7_would v_c_would ({ frames := 2, cells := 0, slots := 0, locals := 44 }) (va_Pc [.ref x, .int p0, .int p1, .int p2, .int p3] (pP E [(x, .inr (8, [.ref t, .ref rd, .ref sc, .ref n, .ref tr, .ref kp, .ref bk, .ref kb, .ref hi, .ref dr, .ref rf, .int 0])), (n, .inr (6, [.ref n1, .ref n2, .int 0, .int 0, .ref n3, .ref n4])), (n1, .inl (E.2.1, 81, .inl (fun _ => 0)))])) (vp_Si (fun r => r = -1)) 0 0 (fun _ => False) := by
  refine Met.ofW (cc := cX7_would) (maxL := 6) (ret := (some .int)) (by decide) rfl ?_
  intro p e s m args below meth c s₁ B hml hv
  obtain ⟨rfl, ⟨hK, hN⟩, hP⟩ := hv
  have hx := B.exec
  have hb := B.bytes
  have hr := B.returns
  have hts := atoms_spec (ws := v_c_would) B.pre
  have hown : s.vm.findClass RX7 = some m.cls := findClass_of_methodNamed B.named
  have hlocks := B.notSynchronized
  have hP : va_P E.1 vwCl [(x, .inr (8, [.ref t, .ref rd, .ref sc, .ref n, .ref tr, .ref kp, .ref bk, .ref kb, .ref hi, .ref dr, .ref rf, .int 0])), (n, .inr (6, [.ref n1, .ref n2, .int 0, .int 0, .ref n3, .ref n4])), (n1, .inl (E.2.1, 81, .inl (fun _ => 0)))] s.heap := hP
  have hl := lv_entry ([.ref x, .int p0, .int p1, .int p2, .int p3]) (n := 6) (Nat.le_of_ble_eq_true rfl)
  rw [lg_entry_eq]
  generalize (lg_sl ([.ref x, .int p0, .int p1, .int p2, .int p3]) ++ List.replicate (6 - (lg_sl ([.ref x, .int p0, .int p1, .int p2, .int p3])).length) Slot.unset).toArray = ls at hl ⊢
  have hl : lv_has ls 6 [(0, .ref x), (1, .int p0), (2, .int p1), (3, .int p2), (4, .int p3)] := hl
  refine lv_aload_n hx hb dX7_would_0 rfl (lv_at hl 0 rfl) ?_
  refine va_get (D := E.1) (ci := 8) (v := .ref n) (C := RX7) (T := TX7) (N := 12) hx hb hts i_c_would_X7 hown hK hP 0 rfl rfl 3 (by decide) (hts (.fieldLink RX7 35 "HushWatch" "now" "LHushWatch$State;") (List.mem_of_getElem? (i := 1) rfl)) (fun _ h9 => h9) rfl dX7_would_1 ?_
  refine lv_iconst (v := 0) hx hb dX7_would_4 (by decide) ?_
  refine lv_iload_n hx hb dX7_would_5 rfl (lv_at hl 1 rfl) ?_
  refine lv_iload_n hx hb dX7_would_6 rfl (lv_at hl 2 rfl) ?_
  refine lv_iload_n hx hb dX7_would_7 rfl (lv_at hl 3 rfl) ?_
  have hPc := hP.sub (ws' := [(n, .inr (6, [.ref n1, .ref n2, .int 0, .int 0, .ref n3, .ref n4])), (n1, .inl (E.2.1, 81, .inl (fun _ => 0)))]) [1, 2] rfl
  refine pc_i (va_runV (As := [.int 0, .int p0, .int p1, .int p2]) (rest := []) ⟨hx, hb, hml, hown, hts⟩ (c_refusal l E n n1 n2 n3 n4 0 p0 p1 p2) (cwV 4 hts g_c_would_c_refusal_220 rfl rfl rfl (by decide +kernel) ⟨Nat.le_of_ble_eq_true rfl, Nat.le_of_ble_eq_true rfl⟩) ⟨pP.blind, va_recv hK hPc (ci := 6) (q0 := 0) rfl rfl, (pP.pre ⟨hK, hN⟩ hPc)⟩ rfl rfl hl.1 rfl (lv_room (Nat.le_of_ble_eq_true rfl)) dX7_would_8 ⟨Nat.le_of_ble_eq_true rfl, Nat.le_of_ble_eq_true rfl⟩) (fun r_1 hr_1 => ?_)
  obtain rfl : r_1 = 0 := hr_1
  refine lv_iconst (v := -1) hx hb dX7_would_11 (by decide) ?_
  refine lv_icmp_eq (tgt := 17) hx hb dX7_would_12 (by decide) (fun q => absurd q (by decide)) (fun _ => ?_)
  refine lv_iconst (v := -1) hx hb dX7_would_15 (by decide) ?_
  exact W.iret (v := -1) hx hb hr (fun tt ht hW => ⟨_, rfl, rfl, ht⟩) (fun _ h => by cases h) dX7_would_16

def v_c_walk : List Cond := .code yX7_walk cX7_walk 8 (some .int) :: ([.fieldLink RX7 35 "HushWatch" "now" "LHushWatch$State;", .methodLink RX7 220 yX5_refusal, .instanceMethod yX5_refusal, .selects RX5 yX5_refusal yX5_refusal, .initialized RX5] ++ (wsX70 ++ (v_c_refusal ++ ([]))))
theorem gw_c_walk : v_c_walk.all goodWord = true := by decide +kernel
theorem i_c_walk_X7 : ∀ w ∈ wsX70, w ∈ v_c_walk := fun _ h => List.mem_cons_of_mem _ (List.mem_append_right _ (List.mem_append_left _ h))
theorem g_c_walk_c_refusal_220 : GoodIn v_c_walk (wsV RX7 220 RX5 yX5_refusal v_c_refusal) := goodIn_app (goodIn_of _ (by decide +kernel)) (goodIn_sub (fun _ h => List.mem_cons_of_mem _ (List.mem_append_right _ (List.mem_append_right _ (List.mem_append_left _ h)))) gw_c_refusal)
set_option maxHeartbeats 4000000 in
set_option maxRecDepth 100000 in
theorem c_walk (l : Launch) (E : EE) (x t rd sc n tr kp bk kb hi dr rf : Nat) (n1 n2 n3 n4 : Nat) (p0 p1 p2 p3 p4 : Int32) : Met l yX7_walk v_c_walk ({ frames := 2, cells := 0, slots := 0, locals := 44 }) (va_Pc [.ref x, .int p0, .int p1, .int p2, .int p3, .int p4] (pP E [(x, .inr (8, [.ref t, .ref rd, .ref sc, .ref n, .ref tr, .ref kp, .ref bk, .ref kb, .ref hi, .ref dr, .ref rf, .int 0])), (n, .inr (6, [.ref n1, .ref n2, .int 0, .int 0, .ref n3, .ref n4])), (n1, .inl (E.2.1, 81, .inl (fun _ => 0)))])) (vp_Si (fun r => r = -1)) 0 0 (fun _ => False) := by
  refine Met.ofW (cc := cX7_walk) (maxL := 8) (ret := (some .int)) (by decide) rfl ?_
  intro p e s m args below meth c s₁ B hml hv
  obtain ⟨rfl, ⟨hK, hN⟩, hP⟩ := hv
  have hx := B.exec
  have hb := B.bytes
  have hr := B.returns
  have hts := atoms_spec (ws := v_c_walk) B.pre
  have hown : s.vm.findClass RX7 = some m.cls := findClass_of_methodNamed B.named
  have hlocks := B.notSynchronized
  have hP : va_P E.1 vwCl [(x, .inr (8, [.ref t, .ref rd, .ref sc, .ref n, .ref tr, .ref kp, .ref bk, .ref kb, .ref hi, .ref dr, .ref rf, .int 0])), (n, .inr (6, [.ref n1, .ref n2, .int 0, .int 0, .ref n3, .ref n4])), (n1, .inl (E.2.1, 81, .inl (fun _ => 0)))] s.heap := hP
  have hl := lv_entry ([.ref x, .int p0, .int p1, .int p2, .int p3, .int p4]) (n := 8) (Nat.le_of_ble_eq_true rfl)
  rw [lg_entry_eq]
  generalize (lg_sl ([.ref x, .int p0, .int p1, .int p2, .int p3, .int p4]) ++ List.replicate (8 - (lg_sl ([.ref x, .int p0, .int p1, .int p2, .int p3, .int p4])).length) Slot.unset).toArray = ls at hl ⊢
  have hl : lv_has ls 8 [(0, .ref x), (1, .int p0), (2, .int p1), (3, .int p2), (4, .int p3), (5, .int p4)] := hl
  refine lv_iload hx hb dX7_walk_0 (lv_at hl 4 rfl) ?_
  refine lv_iconst (v := 1) hx hb dX7_walk_2 (by decide) ?_
  refine lv_icmp_lt (tgt := 28) hx hb dX7_walk_3 (by decide) (fun c_1 => ?_) (fun c_1 => ?_)
  ·
    refine lv_iconst (v := -1) hx hb dX7_walk_28 (by decide) ?_
    exact W.iret (v := -1) hx hb hr (fun tt ht hW => ⟨_, rfl, rfl, ht⟩) (fun _ h => by cases h) dX7_walk_29
  ·
    refine lv_iload hx hb dX7_walk_6 (lv_at hl 4 rfl) ?_
    refine lv_bipush (v := 99) hx hb dX7_walk_8 (by decide) ?_
    refine lv_icmp_gt (tgt := 28) hx hb dX7_walk_10 (by decide) (fun c_2 => ?_) (fun c_2 => ?_)
    ·
      refine lv_iconst (v := -1) hx hb dX7_walk_28 (by decide) ?_
      exact W.iret (v := -1) hx hb hr (fun tt ht hW => ⟨_, rfl, rfl, ht⟩) (fun _ h => by cases h) dX7_walk_29
    ·
      refine lv_aload_n hx hb dX7_walk_13 rfl (lv_at hl 0 rfl) ?_
      refine va_get (D := E.1) (ci := 8) (v := .ref n) (C := RX7) (T := TX7) (N := 12) hx hb hts i_c_walk_X7 hown hK hP 0 rfl rfl 3 (by decide) (hts (.fieldLink RX7 35 "HushWatch" "now" "LHushWatch$State;") (List.mem_of_getElem? (i := 1) rfl)) (fun _ h9 => h9) rfl dX7_walk_14 ?_
      refine lv_iconst (v := 0) hx hb dX7_walk_17 (by decide) ?_
      refine lv_iload_n hx hb dX7_walk_18 rfl (lv_at hl 1 rfl) ?_
      refine lv_iload_n hx hb dX7_walk_19 rfl (lv_at hl 2 rfl) ?_
      refine lv_iload_n hx hb dX7_walk_20 rfl (lv_at hl 3 rfl) ?_
      have hPc := hP.sub (ws' := [(n, .inr (6, [.ref n1, .ref n2, .int 0, .int 0, .ref n3, .ref n4])), (n1, .inl (E.2.1, 81, .inl (fun _ => 0)))]) [1, 2] rfl
      refine pc_i (va_runV (As := [.int 0, .int p0, .int p1, .int p2]) (rest := []) ⟨hx, hb, hml, hown, hts⟩ (c_refusal l E n n1 n2 n3 n4 0 p0 p1 p2) (cwV 4 hts g_c_walk_c_refusal_220 rfl rfl rfl (by decide +kernel) ⟨Nat.le_of_ble_eq_true rfl, Nat.le_of_ble_eq_true rfl⟩) ⟨pP.blind, va_recv hK hPc (ci := 6) (q0 := 0) rfl rfl, (pP.pre ⟨hK, hN⟩ hPc)⟩ rfl rfl hl.1 rfl (lv_room (Nat.le_of_ble_eq_true rfl)) dX7_walk_21 ⟨Nat.le_of_ble_eq_true rfl, Nat.le_of_ble_eq_true rfl⟩) (fun r_3 hr_3 => ?_)
      obtain rfl : r_3 = 0 := hr_3
      refine lv_iconst (v := -1) hx hb dX7_walk_24 (by decide) ?_
      refine lv_icmp_eq (tgt := 30) hx hb dX7_walk_25 (by decide) (fun q => absurd q (by decide)) (fun _ => ?_)
      refine lv_iconst (v := -1) hx hb dX7_walk_28 (by decide) ?_
      exact W.iret (v := -1) hx hb hr (fun tt ht hW => ⟨_, rfl, rfl, ht⟩) (fun _ h => by cases h) dX7_walk_29

def v_c_partner : List Cond := .code yX7_partner cX7_partner 5 (some .int) :: ([.fieldLink RX7 35 "HushWatch" "now" "LHushWatch$State;", .methodLink RX7 220 yX5_refusal, .instanceMethod yX5_refusal, .selects RX5 yX5_refusal yX5_refusal, .initialized RX5] ++ (wsX70 ++ (v_c_refusal ++ ([]))))
theorem gw_c_partner : v_c_partner.all goodWord = true := by decide +kernel
theorem i_c_partner_X7 : ∀ w ∈ wsX70, w ∈ v_c_partner := fun _ h => List.mem_cons_of_mem _ (List.mem_append_right _ (List.mem_append_left _ h))
theorem g_c_partner_c_refusal_220 : GoodIn v_c_partner (wsV RX7 220 RX5 yX5_refusal v_c_refusal) := goodIn_app (goodIn_of _ (by decide +kernel)) (goodIn_sub (fun _ h => List.mem_cons_of_mem _ (List.mem_append_right _ (List.mem_append_right _ (List.mem_append_left _ h)))) gw_c_refusal)
set_option maxHeartbeats 4000000 in
set_option maxRecDepth 100000 in
theorem c_partner (l : Launch) (E : EE) (x t rd sc n tr kp bk kb hi dr rf : Nat) (n1 n2 n3 n4 : Nat) (p0 p1 p2 : Int32) : Met l yX7_partner v_c_partner ({ frames := 2, cells := 0, slots := 0, locals := 44 }) (va_Pc [.ref x, .int p0, .int p1, .int p2] (pP E [(x, .inr (8, [.ref t, .ref rd, .ref sc, .ref n, .ref tr, .ref kp, .ref bk, .ref kb, .ref hi, .ref dr, .ref rf, .int 0])), (n, .inr (6, [.ref n1, .ref n2, .int 0, .int 0, .ref n3, .ref n4])), (n1, .inl (E.2.1, 81, .inl (fun _ => 0)))])) (vp_Si (fun r => r = -1)) 0 0 (fun _ => False) := by
  refine Met.ofW (cc := cX7_partner) (maxL := 5) (ret := (some .int)) (by decide) rfl ?_
  intro p e s m args below meth c s₁ B hml hv
  obtain ⟨rfl, ⟨hK, hN⟩, hP⟩ := hv
  have hx := B.exec
  have hb := B.bytes
  have hr := B.returns
  have hts := atoms_spec (ws := v_c_partner) B.pre
  have hown : s.vm.findClass RX7 = some m.cls := findClass_of_methodNamed B.named
  have hlocks := B.notSynchronized
  have hP : va_P E.1 vwCl [(x, .inr (8, [.ref t, .ref rd, .ref sc, .ref n, .ref tr, .ref kp, .ref bk, .ref kb, .ref hi, .ref dr, .ref rf, .int 0])), (n, .inr (6, [.ref n1, .ref n2, .int 0, .int 0, .ref n3, .ref n4])), (n1, .inl (E.2.1, 81, .inl (fun _ => 0)))] s.heap := hP
  have hl := lv_entry ([.ref x, .int p0, .int p1, .int p2]) (n := 5) (Nat.le_of_ble_eq_true rfl)
  rw [lg_entry_eq]
  generalize (lg_sl ([.ref x, .int p0, .int p1, .int p2]) ++ List.replicate (5 - (lg_sl ([.ref x, .int p0, .int p1, .int p2])).length) Slot.unset).toArray = ls at hl ⊢
  have hl : lv_has ls 5 [(0, .ref x), (1, .int p0), (2, .int p1), (3, .int p2)] := hl
  refine lv_aload_n hx hb dX7_partner_0 rfl (lv_at hl 0 rfl) ?_
  refine va_get (D := E.1) (ci := 8) (v := .ref n) (C := RX7) (T := TX7) (N := 12) hx hb hts i_c_partner_X7 hown hK hP 0 rfl rfl 3 (by decide) (hts (.fieldLink RX7 35 "HushWatch" "now" "LHushWatch$State;") (List.mem_of_getElem? (i := 1) rfl)) (fun _ h9 => h9) rfl dX7_partner_1 ?_
  refine lv_iconst (v := 0) hx hb dX7_partner_4 (by decide) ?_
  refine lv_iload_n hx hb dX7_partner_5 rfl (lv_at hl 1 rfl) ?_
  refine lv_iload_n hx hb dX7_partner_6 rfl (lv_at hl 2 rfl) ?_
  refine lv_iload_n hx hb dX7_partner_7 rfl (lv_at hl 3 rfl) ?_
  have hPc := hP.sub (ws' := [(n, .inr (6, [.ref n1, .ref n2, .int 0, .int 0, .ref n3, .ref n4])), (n1, .inl (E.2.1, 81, .inl (fun _ => 0)))]) [1, 2] rfl
  refine pc_i (va_runV (As := [.int 0, .int p0, .int p1, .int p2]) (rest := []) ⟨hx, hb, hml, hown, hts⟩ (c_refusal l E n n1 n2 n3 n4 0 p0 p1 p2) (cwV 4 hts g_c_partner_c_refusal_220 rfl rfl rfl (by decide +kernel) ⟨Nat.le_of_ble_eq_true rfl, Nat.le_of_ble_eq_true rfl⟩) ⟨pP.blind, va_recv hK hPc (ci := 6) (q0 := 0) rfl rfl, (pP.pre ⟨hK, hN⟩ hPc)⟩ rfl rfl hl.1 rfl (lv_room (Nat.le_of_ble_eq_true rfl)) dX7_partner_8 ⟨Nat.le_of_ble_eq_true rfl, Nat.le_of_ble_eq_true rfl⟩) (fun r_1 hr_1 => ?_)
  obtain rfl : r_1 = 0 := hr_1
  refine lv_iconst (v := -1) hx hb dX7_partner_11 (by decide) ?_
  refine lv_icmp_ne (tgt := 38) hx hb dX7_partner_12 (by decide) (fun _ => ?_) (fun q => absurd q (by decide))
  refine lv_iconst (v := -1) hx hb dX7_partner_38 (by decide) ?_
  exact W.iret (v := -1) hx hb hr (fun tt ht hW => ⟨_, rfl, rfl, ht⟩) (fun _ h => by cases h) dX7_partner_39

def v_c_race : List Cond := .code yX7_race cX7_race 7 (some .int) :: ([.fieldLink RX7 35 "HushWatch" "now" "LHushWatch$State;", .methodLink RX7 110 yX5_stands, .instanceMethod yX5_stands, .selects RX5 yX5_stands yX5_stands, .initialized RX5] ++ (wsX70 ++ (v_c_stands ++ ([]))))
theorem gw_c_race : v_c_race.all goodWord = true := by decide +kernel
theorem i_c_race_X7 : ∀ w ∈ wsX70, w ∈ v_c_race := fun _ h => List.mem_cons_of_mem _ (List.mem_append_right _ (List.mem_append_left _ h))
theorem g_c_race_c_stands_110 : GoodIn v_c_race (wsV RX7 110 RX5 yX5_stands v_c_stands) := goodIn_app (goodIn_of _ (by decide +kernel)) (goodIn_sub (fun _ h => List.mem_cons_of_mem _ (List.mem_append_right _ (List.mem_append_right _ (List.mem_append_left _ h)))) gw_c_stands)
set_option maxHeartbeats 4000000 in
set_option maxRecDepth 100000 in
theorem c_race (l : Launch) (E : EE) (x t rd sc n tr kp bk kb hi dr rf : Nat) (n1 n2 n3 n4 : Nat) (p0 p1 p2 : Int32) : Met l yX7_race v_c_race ({ frames := 1, cells := 0, slots := 0, locals := 20 }) (va_Pc [.ref x, .int p0, .int p1, .int p2] (pP E [(x, .inr (8, [.ref t, .ref rd, .ref sc, .ref n, .ref tr, .ref kp, .ref bk, .ref kb, .ref hi, .ref dr, .ref rf, .int 0])), (n, .inr (6, [.ref n1, .ref n2, .int 0, .int 0, .ref n3, .ref n4])), (n1, .inl (E.2.1, 81, .inl (fun _ => 0)))])) (vp_Si (fun r => r = -1)) 0 0 (fun _ => False) := by
  refine Met.ofW (cc := cX7_race) (maxL := 7) (ret := (some .int)) (by decide) rfl ?_
  intro p e s m args below meth c s₁ B hml hv
  obtain ⟨rfl, ⟨hK, hN⟩, hP⟩ := hv
  have hx := B.exec
  have hb := B.bytes
  have hr := B.returns
  have hts := atoms_spec (ws := v_c_race) B.pre
  have hown : s.vm.findClass RX7 = some m.cls := findClass_of_methodNamed B.named
  have hlocks := B.notSynchronized
  have hP : va_P E.1 vwCl [(x, .inr (8, [.ref t, .ref rd, .ref sc, .ref n, .ref tr, .ref kp, .ref bk, .ref kb, .ref hi, .ref dr, .ref rf, .int 0])), (n, .inr (6, [.ref n1, .ref n2, .int 0, .int 0, .ref n3, .ref n4])), (n1, .inl (E.2.1, 81, .inl (fun _ => 0)))] s.heap := hP
  have hl := lv_entry ([.ref x, .int p0, .int p1, .int p2]) (n := 7) (Nat.le_of_ble_eq_true rfl)
  rw [lg_entry_eq]
  generalize (lg_sl ([.ref x, .int p0, .int p1, .int p2]) ++ List.replicate (7 - (lg_sl ([.ref x, .int p0, .int p1, .int p2])).length) Slot.unset).toArray = ls at hl ⊢
  have hl : lv_has ls 7 [(0, .ref x), (1, .int p0), (2, .int p1), (3, .int p2)] := hl
  refine lv_aload_n hx hb dX7_race_0 rfl (lv_at hl 0 rfl) ?_
  refine va_get (D := E.1) (ci := 8) (v := .ref n) (C := RX7) (T := TX7) (N := 12) hx hb hts i_c_race_X7 hown hK hP 0 rfl rfl 3 (by decide) (hts (.fieldLink RX7 35 "HushWatch" "now" "LHushWatch$State;") (List.mem_of_getElem? (i := 1) rfl)) (fun _ h9 => h9) rfl dX7_race_1 ?_
  have hPc := hP.sub (ws' := [(n, .inr (6, [.ref n1, .ref n2, .int 0, .int 0, .ref n3, .ref n4])), (n1, .inl (E.2.1, 81, .inl (fun _ => 0)))]) [1, 2] rfl
  refine pc_i (va_runV (As := []) (rest := []) ⟨hx, hb, hml, hown, hts⟩ (c_stands l E n n1 n2 n3 n4) (cwV 0 hts g_c_race_c_stands_110 rfl rfl rfl (by decide +kernel) ⟨Nat.le_of_ble_eq_true rfl, Nat.le_of_ble_eq_true rfl⟩) ⟨pP.blind, va_recv hK hPc (ci := 6) (q0 := 0) rfl rfl, (pP.pre ⟨hK, hN⟩ hPc)⟩ rfl rfl hl.1 rfl (lv_room (Nat.le_of_ble_eq_true rfl)) dX7_race_4 ⟨Nat.le_of_ble_eq_true rfl, Nat.le_of_ble_eq_true rfl⟩) (fun r_1 hr_1 => ?_)
  obtain rfl : r_1 = 0 := hr_1
  refine lv_if_eq (tgt := 27) hx hb dX7_race_7 (by decide) (fun _ => ?_) (fun q => absurd (by decide) q)
  refine lv_iconst (v := -1) hx hb dX7_race_27 (by decide) ?_
  exact W.iret (v := -1) hx hb hr (fun tt ht hW => ⟨_, rfl, rfl, ht⟩) (fun _ h => by cases h) dX7_race_28

def v_c_needs : List Cond := .code yX7_needs cX7_needs 4 (some .long) :: ([.fieldLink RX7 35 "HushWatch" "now" "LHushWatch$State;", .constantLong RX7 154 (-100000000), .methodLink RX7 220 yX5_refusal, .instanceMethod yX5_refusal, .selects RX5 yX5_refusal yX5_refusal, .initialized RX5] ++ (wsX70 ++ (v_c_refusal ++ ([]))))
theorem gw_c_needs : v_c_needs.all goodWord = true := by decide +kernel
theorem i_c_needs_X7 : ∀ w ∈ wsX70, w ∈ v_c_needs := fun _ h => List.mem_cons_of_mem _ (List.mem_append_right _ (List.mem_append_left _ h))
theorem g_c_needs_c_refusal_220 : GoodIn v_c_needs (wsV RX7 220 RX5 yX5_refusal v_c_refusal) := goodIn_app (goodIn_of _ (by decide +kernel)) (goodIn_sub (fun _ h => List.mem_cons_of_mem _ (List.mem_append_right _ (List.mem_append_right _ (List.mem_append_left _ h)))) gw_c_refusal)
set_option maxHeartbeats 4000000 in
set_option maxRecDepth 100000 in
theorem c_needs (l : Launch) (E : EE) (x t rd sc n tr kp bk kb hi dr rf : Nat) (n1 n2 n3 n4 : Nat) (p0 p1 p2 : Int32) : Met l yX7_needs v_c_needs ({ frames := 2, cells := 0, slots := 0, locals := 44 }) (va_Pc [.ref x, .int p0, .int p1, .int p2] (pP E [(x, .inr (8, [.ref t, .ref rd, .ref sc, .ref n, .ref tr, .ref kp, .ref bk, .ref kb, .ref hi, .ref dr, .ref rf, .int 0])), (n, .inr (6, [.ref n1, .ref n2, .int 0, .int 0, .ref n3, .ref n4])), (n1, .inl (E.2.1, 81, .inl (fun _ => 0)))])) (vp_Sl (fun r => r = -100000000)) 0 0 (fun _ => False) := by
  refine Met.ofW (cc := cX7_needs) (maxL := 4) (ret := (some .long)) (by decide) rfl ?_
  intro p e s m args below meth c s₁ B hml hv
  obtain ⟨rfl, ⟨hK, hN⟩, hP⟩ := hv
  have hx := B.exec
  have hb := B.bytes
  have hr := B.returns
  have hts := atoms_spec (ws := v_c_needs) B.pre
  have hown : s.vm.findClass RX7 = some m.cls := findClass_of_methodNamed B.named
  have hlocks := B.notSynchronized
  have hP : va_P E.1 vwCl [(x, .inr (8, [.ref t, .ref rd, .ref sc, .ref n, .ref tr, .ref kp, .ref bk, .ref kb, .ref hi, .ref dr, .ref rf, .int 0])), (n, .inr (6, [.ref n1, .ref n2, .int 0, .int 0, .ref n3, .ref n4])), (n1, .inl (E.2.1, 81, .inl (fun _ => 0)))] s.heap := hP
  have hl := lv_entry ([.ref x, .int p0, .int p1, .int p2]) (n := 4) (Nat.le_of_ble_eq_true rfl)
  rw [lg_entry_eq]
  generalize (lg_sl ([.ref x, .int p0, .int p1, .int p2]) ++ List.replicate (4 - (lg_sl ([.ref x, .int p0, .int p1, .int p2])).length) Slot.unset).toArray = ls at hl ⊢
  have hl : lv_has ls 4 [(0, .ref x), (1, .int p0), (2, .int p1), (3, .int p2)] := hl
  refine lv_aload_n hx hb dX7_needs_0 rfl (lv_at hl 0 rfl) ?_
  refine va_get (D := E.1) (ci := 8) (v := .ref n) (C := RX7) (T := TX7) (N := 12) hx hb hts i_c_needs_X7 hown hK hP 0 rfl rfl 3 (by decide) (hts (.fieldLink RX7 35 "HushWatch" "now" "LHushWatch$State;") (List.mem_of_getElem? (i := 1) rfl)) (fun _ h9 => h9) rfl dX7_needs_1 ?_
  refine lv_iconst (v := 0) hx hb dX7_needs_4 (by decide) ?_
  refine lv_iload_n hx hb dX7_needs_5 rfl (lv_at hl 1 rfl) ?_
  refine lv_iload_n hx hb dX7_needs_6 rfl (lv_at hl 2 rfl) ?_
  refine lv_iload_n hx hb dX7_needs_7 rfl (lv_at hl 3 rfl) ?_
  have hPc := hP.sub (ws' := [(n, .inr (6, [.ref n1, .ref n2, .int 0, .int 0, .ref n3, .ref n4])), (n1, .inl (E.2.1, 81, .inl (fun _ => 0)))]) [1, 2] rfl
  refine pc_i (va_runV (As := [.int 0, .int p0, .int p1, .int p2]) (rest := []) ⟨hx, hb, hml, hown, hts⟩ (c_refusal l E n n1 n2 n3 n4 0 p0 p1 p2) (cwV 4 hts g_c_needs_c_refusal_220 rfl rfl rfl (by decide +kernel) ⟨Nat.le_of_ble_eq_true rfl, Nat.le_of_ble_eq_true rfl⟩) ⟨pP.blind, va_recv hK hPc (ci := 6) (q0 := 0) rfl rfl, (pP.pre ⟨hK, hN⟩ hPc)⟩ rfl rfl hl.1 rfl (lv_room (Nat.le_of_ble_eq_true rfl)) dX7_needs_8 ⟨Nat.le_of_ble_eq_true rfl, Nat.le_of_ble_eq_true rfl⟩) (fun r_1 hr_1 => ?_)
  obtain rfl : r_1 = 0 := hr_1
  refine lv_iconst (v := -1) hx hb dX7_needs_11 (by decide) ?_
  refine lv_icmp_eq (tgt := 19) hx hb dX7_needs_12 (by decide) (fun q => absurd q (by decide)) (fun _ => ?_)
  refine lv_ldc2 (v := -100000000) hx hb hown (hts (.constantLong RX7 154 (-100000000)) (List.mem_of_getElem? (i := 2) rfl)) dX7_needs_15 ?_
  exact W.lret (v := -100000000) hx hb hr (fun tt ht hW => ⟨_, rfl, rfl, ht⟩) (fun _ h => by cases h) dX7_needs_18

def v_c_span : List Cond := .code yX7_span cX7_span 8 (some .int) :: ([.fieldLink RX7 35 "HushWatch" "now" "LHushWatch$State;", .constant RX7 113 (-100000000), .methodLink RX7 120 yX5_hasSite, .instanceMethod yX5_hasSite, .selects RX5 yX5_hasSite yX5_hasSite, .initialized RX5] ++ (wsX70 ++ (v_c_hasSite ++ ([]))))
theorem gw_c_span : v_c_span.all goodWord = true := by decide +kernel
theorem i_c_span_X7 : ∀ w ∈ wsX70, w ∈ v_c_span := fun _ h => List.mem_cons_of_mem _ (List.mem_append_right _ (List.mem_append_left _ h))
theorem g_c_span_c_hasSite_120 : GoodIn v_c_span (wsV RX7 120 RX5 yX5_hasSite v_c_hasSite) := goodIn_app (goodIn_of _ (by decide +kernel)) (goodIn_sub (fun _ h => List.mem_cons_of_mem _ (List.mem_append_right _ (List.mem_append_right _ (List.mem_append_left _ h)))) gw_c_hasSite)
set_option maxHeartbeats 4000000 in
set_option maxRecDepth 100000 in
theorem c_span (l : Launch) (E : EE) (x t rd sc n tr kp bk kb hi dr rf : Nat) (n1 n2 n3 n4 : Nat) (p0 p1 p2 : Int32) : Met l yX7_span v_c_span ({ frames := 1, cells := 0, slots := 0, locals := 21 }) (va_Pc [.ref x, .int p0, .int p1, .int p2] (pP E [(x, .inr (8, [.ref t, .ref rd, .ref sc, .ref n, .ref tr, .ref kp, .ref bk, .ref kb, .ref hi, .ref dr, .ref rf, .int 0])), (n, .inr (6, [.ref n1, .ref n2, .int 0, .int 0, .ref n3, .ref n4])), (n1, .inl (E.2.1, 81, .inl (fun _ => 0)))])) (vp_Si (fun r => r = -100000000)) 0 0 (fun _ => False) := by
  refine Met.ofW (cc := cX7_span) (maxL := 8) (ret := (some .int)) (by decide) rfl ?_
  intro p e s m args below meth c s₁ B hml hv
  obtain ⟨rfl, ⟨hK, hN⟩, hP⟩ := hv
  have hx := B.exec
  have hb := B.bytes
  have hr := B.returns
  have hts := atoms_spec (ws := v_c_span) B.pre
  have hown : s.vm.findClass RX7 = some m.cls := findClass_of_methodNamed B.named
  have hlocks := B.notSynchronized
  have hP : va_P E.1 vwCl [(x, .inr (8, [.ref t, .ref rd, .ref sc, .ref n, .ref tr, .ref kp, .ref bk, .ref kb, .ref hi, .ref dr, .ref rf, .int 0])), (n, .inr (6, [.ref n1, .ref n2, .int 0, .int 0, .ref n3, .ref n4])), (n1, .inl (E.2.1, 81, .inl (fun _ => 0)))] s.heap := hP
  have hl := lv_entry ([.ref x, .int p0, .int p1, .int p2]) (n := 8) (Nat.le_of_ble_eq_true rfl)
  rw [lg_entry_eq]
  generalize (lg_sl ([.ref x, .int p0, .int p1, .int p2]) ++ List.replicate (8 - (lg_sl ([.ref x, .int p0, .int p1, .int p2])).length) Slot.unset).toArray = ls at hl ⊢
  have hl : lv_has ls 8 [(0, .ref x), (1, .int p0), (2, .int p1), (3, .int p2)] := hl
  refine lv_aload_n hx hb dX7_span_0 rfl (lv_at hl 0 rfl) ?_
  refine va_get (D := E.1) (ci := 8) (v := .ref n) (C := RX7) (T := TX7) (N := 12) hx hb hts i_c_span_X7 hown hK hP 0 rfl rfl 3 (by decide) (hts (.fieldLink RX7 35 "HushWatch" "now" "LHushWatch$State;") (List.mem_of_getElem? (i := 1) rfl)) (fun _ h9 => h9) rfl dX7_span_1 ?_
  refine lv_iload_n hx hb dX7_span_4 rfl (lv_at hl 1 rfl) ?_
  have hPc := hP.sub (ws' := [(n, .inr (6, [.ref n1, .ref n2, .int 0, .int 0, .ref n3, .ref n4])), (n1, .inl (E.2.1, 81, .inl (fun _ => 0)))]) [1, 2] rfl
  refine pc_i (va_runV (As := [.int p0]) (rest := []) ⟨hx, hb, hml, hown, hts⟩ (c_hasSite l E n n1 n2 n3 n4 p0) (cwV 1 hts g_c_span_c_hasSite_120 rfl rfl rfl (by decide +kernel) ⟨Nat.le_of_ble_eq_true rfl, Nat.le_of_ble_eq_true rfl⟩) ⟨pP.blind, va_recv hK hPc (ci := 6) (q0 := 0) rfl rfl, (pP.pre ⟨hK, hN⟩ hPc)⟩ rfl rfl hl.1 rfl (lv_room (Nat.le_of_ble_eq_true rfl)) dX7_span_5 ⟨Nat.le_of_ble_eq_true rfl, Nat.le_of_ble_eq_true rfl⟩) (fun r_1 hr_1 => ?_)
  obtain rfl : r_1 = 0 := hr_1
  refine lv_if_eq (tgt := 31) hx hb dX7_span_8 (by decide) (fun _ => ?_) (fun q => absurd (by decide) q)
  refine lv_ldc (v := -100000000) hx hb hown (hts (.constant RX7 113 (-100000000)) (List.mem_of_getElem? (i := 2) rfl)) dX7_span_31 ?_
  exact W.iret (v := -100000000) hx hb hr (fun tt ht hW => ⟨_, rfl, rfl, ht⟩) (fun _ h => by cases h) dX7_span_33

def v_c_spell : List Cond := .code yX7_spell cX7_spell 4 (some .int) :: ([.fieldLink RX7 35 "HushWatch" "now" "LHushWatch$State;", .methodLink RX7 120 yX5_hasSite, .instanceMethod yX5_hasSite, .selects RX5 yX5_hasSite yX5_hasSite, .initialized RX5] ++ (wsX70 ++ (v_c_hasSite ++ ([]))))
theorem gw_c_spell : v_c_spell.all goodWord = true := by decide +kernel
theorem i_c_spell_X7 : ∀ w ∈ wsX70, w ∈ v_c_spell := fun _ h => List.mem_cons_of_mem _ (List.mem_append_right _ (List.mem_append_left _ h))
theorem g_c_spell_c_hasSite_120 : GoodIn v_c_spell (wsV RX7 120 RX5 yX5_hasSite v_c_hasSite) := goodIn_app (goodIn_of _ (by decide +kernel)) (goodIn_sub (fun _ h => List.mem_cons_of_mem _ (List.mem_append_right _ (List.mem_append_right _ (List.mem_append_left _ h)))) gw_c_hasSite)
set_option maxHeartbeats 4000000 in
set_option maxRecDepth 100000 in
theorem c_spell (l : Launch) (E : EE) (x t rd sc n tr kp bk kb hi dr rf : Nat) (n1 n2 n3 n4 : Nat) (p0 p1 : Int32) : Met l yX7_spell v_c_spell ({ frames := 1, cells := 0, slots := 0, locals := 21 }) (va_Pc [.ref x, .int p0, .int p1] (pP E [(x, .inr (8, [.ref t, .ref rd, .ref sc, .ref n, .ref tr, .ref kp, .ref bk, .ref kb, .ref hi, .ref dr, .ref rf, .int 0])), (n, .inr (6, [.ref n1, .ref n2, .int 0, .int 0, .ref n3, .ref n4])), (n1, .inl (E.2.1, 81, .inl (fun _ => 0)))])) (vp_Si (fun r => r = -1)) 0 0 (fun _ => False) := by
  refine Met.ofW (cc := cX7_spell) (maxL := 4) (ret := (some .int)) (by decide) rfl ?_
  intro p e s m args below meth c s₁ B hml hv
  obtain ⟨rfl, ⟨hK, hN⟩, hP⟩ := hv
  have hx := B.exec
  have hb := B.bytes
  have hr := B.returns
  have hts := atoms_spec (ws := v_c_spell) B.pre
  have hown : s.vm.findClass RX7 = some m.cls := findClass_of_methodNamed B.named
  have hlocks := B.notSynchronized
  have hP : va_P E.1 vwCl [(x, .inr (8, [.ref t, .ref rd, .ref sc, .ref n, .ref tr, .ref kp, .ref bk, .ref kb, .ref hi, .ref dr, .ref rf, .int 0])), (n, .inr (6, [.ref n1, .ref n2, .int 0, .int 0, .ref n3, .ref n4])), (n1, .inl (E.2.1, 81, .inl (fun _ => 0)))] s.heap := hP
  have hl := lv_entry ([.ref x, .int p0, .int p1]) (n := 4) (Nat.le_of_ble_eq_true rfl)
  rw [lg_entry_eq]
  generalize (lg_sl ([.ref x, .int p0, .int p1]) ++ List.replicate (4 - (lg_sl ([.ref x, .int p0, .int p1])).length) Slot.unset).toArray = ls at hl ⊢
  have hl : lv_has ls 4 [(0, .ref x), (1, .int p0), (2, .int p1)] := hl
  refine lv_aload_n hx hb dX7_spell_0 rfl (lv_at hl 0 rfl) ?_
  refine va_get (D := E.1) (ci := 8) (v := .ref n) (C := RX7) (T := TX7) (N := 12) hx hb hts i_c_spell_X7 hown hK hP 0 rfl rfl 3 (by decide) (hts (.fieldLink RX7 35 "HushWatch" "now" "LHushWatch$State;") (List.mem_of_getElem? (i := 1) rfl)) (fun _ h9 => h9) rfl dX7_spell_1 ?_
  refine lv_iload_n hx hb dX7_spell_4 rfl (lv_at hl 1 rfl) ?_
  have hPc := hP.sub (ws' := [(n, .inr (6, [.ref n1, .ref n2, .int 0, .int 0, .ref n3, .ref n4])), (n1, .inl (E.2.1, 81, .inl (fun _ => 0)))]) [1, 2] rfl
  refine pc_i (va_runV (As := [.int p0]) (rest := []) ⟨hx, hb, hml, hown, hts⟩ (c_hasSite l E n n1 n2 n3 n4 p0) (cwV 1 hts g_c_spell_c_hasSite_120 rfl rfl rfl (by decide +kernel) ⟨Nat.le_of_ble_eq_true rfl, Nat.le_of_ble_eq_true rfl⟩) ⟨pP.blind, va_recv hK hPc (ci := 6) (q0 := 0) rfl rfl, (pP.pre ⟨hK, hN⟩ hPc)⟩ rfl rfl hl.1 rfl (lv_room (Nat.le_of_ble_eq_true rfl)) dX7_spell_5 ⟨Nat.le_of_ble_eq_true rfl, Nat.le_of_ble_eq_true rfl⟩) (fun r_1 hr_1 => ?_)
  obtain rfl : r_1 = 0 := hr_1
  refine lv_if_ne (tgt := 13) hx hb dX7_spell_8 (by decide) (fun q => absurd (by decide) q) (fun _ => ?_)
  refine lv_iconst (v := -1) hx hb dX7_spell_11 (by decide) ?_
  exact W.iret (v := -1) hx hb hr (fun tt ht hW => ⟨_, rfl, rfl, ht⟩) (fun _ h => by cases h) dX7_spell_12

def v_c_step : List Cond := .code yX7_step cX7_step 4 (some .int) :: ([.fieldLink RX7 28 "HushWatch" "scripts" "LHushWatch$Scripts;", .methodLink RX7 288 yX4_read, .instanceMethod yX4_read, .selects RX4 yX4_read yX4_read, .initialized RX4] ++ (wsX70 ++ (v_c_sread ++ ([]))))
theorem gw_c_step : v_c_step.all goodWord = true := by decide +kernel
theorem i_c_step_X7 : ∀ w ∈ wsX70, w ∈ v_c_step := fun _ h => List.mem_cons_of_mem _ (List.mem_append_right _ (List.mem_append_left _ h))
theorem g_c_step_c_sread_288 : GoodIn v_c_step (wsV RX7 288 RX4 yX4_read v_c_sread) := goodIn_app (goodIn_of _ (by decide +kernel)) (goodIn_sub (fun _ h => List.mem_cons_of_mem _ (List.mem_append_right _ (List.mem_append_right _ (List.mem_append_left _ h)))) gw_c_sread)
set_option maxHeartbeats 4000000 in
set_option maxRecDepth 100000 in
theorem c_step (l : Launch) (E : EE) (x t rd sc n tr kp bk kb hi dr rf : Nat) (s1 s2 : Nat) (p0 p1 p2 : Int32) : Met l yX7_step v_c_step ({ frames := 3, cells := 0, slots := 0, locals := 65 }) (va_Pc [.ref x, .int p0, .int p1, .int p2] (pP E [(x, .inr (8, [.ref t, .ref rd, .ref sc, .ref n, .ref tr, .ref kp, .ref bk, .ref kb, .ref hi, .ref dr, .ref rf, .int 0])), (sc, .inr (5, [.ref s1, .ref s2, .int 0]))])) (vp_Si (fun r => r = -100000000)) 0 0 (fun _ => False) := by
  refine Met.ofW (cc := cX7_step) (maxL := 4) (ret := (some .int)) (by decide) rfl ?_
  intro p e s m args below meth c s₁ B hml hv
  obtain ⟨rfl, ⟨hK, hN⟩, hP⟩ := hv
  have hx := B.exec
  have hb := B.bytes
  have hr := B.returns
  have hts := atoms_spec (ws := v_c_step) B.pre
  have hown : s.vm.findClass RX7 = some m.cls := findClass_of_methodNamed B.named
  have hlocks := B.notSynchronized
  have hP : va_P E.1 vwCl [(x, .inr (8, [.ref t, .ref rd, .ref sc, .ref n, .ref tr, .ref kp, .ref bk, .ref kb, .ref hi, .ref dr, .ref rf, .int 0])), (sc, .inr (5, [.ref s1, .ref s2, .int 0]))] s.heap := hP
  have hl := lv_entry ([.ref x, .int p0, .int p1, .int p2]) (n := 4) (Nat.le_of_ble_eq_true rfl)
  rw [lg_entry_eq]
  generalize (lg_sl ([.ref x, .int p0, .int p1, .int p2]) ++ List.replicate (4 - (lg_sl ([.ref x, .int p0, .int p1, .int p2])).length) Slot.unset).toArray = ls at hl ⊢
  have hl : lv_has ls 4 [(0, .ref x), (1, .int p0), (2, .int p1), (3, .int p2)] := hl
  refine lv_aload_n hx hb dX7_step_0 rfl (lv_at hl 0 rfl) ?_
  refine va_get (D := E.1) (ci := 8) (v := .ref sc) (C := RX7) (T := TX7) (N := 12) hx hb hts i_c_step_X7 hown hK hP 0 rfl rfl 2 (by decide) (hts (.fieldLink RX7 28 "HushWatch" "scripts" "LHushWatch$Scripts;") (List.mem_of_getElem? (i := 1) rfl)) (fun _ h9 => h9) rfl dX7_step_1 ?_
  refine lv_iload_n hx hb dX7_step_4 rfl (lv_at hl 1 rfl) ?_
  refine lv_iload_n hx hb dX7_step_5 rfl (lv_at hl 2 rfl) ?_
  refine lv_iload_n hx hb dX7_step_6 rfl (lv_at hl 3 rfl) ?_
  have hPc := hP.sub (ws' := [(sc, .inr (5, [.ref s1, .ref s2, .int 0]))]) [1] rfl
  refine pc_i (va_runV (As := [.int p0, .int p1, .int p2]) (rest := []) ⟨hx, hb, hml, hown, hts⟩ (c_sread l E sc s1 s2 p0 p1 p2) (cwV 3 hts g_c_step_c_sread_288 rfl rfl rfl (by decide +kernel) ⟨Nat.le_of_ble_eq_true rfl, Nat.le_of_ble_eq_true rfl⟩) ⟨pP.blind, va_recv hK hPc (ci := 5) (q0 := 0) rfl rfl, (pP.pre ⟨hK, hN⟩ hPc)⟩ rfl rfl hl.1 rfl (lv_room (Nat.le_of_ble_eq_true rfl)) dX7_step_7 ⟨Nat.le_of_ble_eq_true rfl, Nat.le_of_ble_eq_true rfl⟩) (fun r_1 hr_1 => ?_)
  obtain rfl : r_1 = -100000000 := hr_1
  exact W.iret (v := -100000000) hx hb hr (fun tt ht hW => ⟨_, rfl, rfl, ht⟩) (fun _ h => by cases h) dX7_step_10

def v_c_run : List Cond := .code yX7_run cX7_run 5 (some .int) :: ([.fieldLink RX7 28 "HushWatch" "scripts" "LHushWatch$Scripts;", .constant RX7 113 (-100000000), .methodLink RX7 290 yX4_has, .instanceMethod yX4_has, .selects RX4 yX4_has yX4_has, .initialized RX4] ++ (wsX70 ++ (v_c_has ++ ([]))))
theorem gw_c_run : v_c_run.all goodWord = true := by decide +kernel
theorem i_c_run_X7 : ∀ w ∈ wsX70, w ∈ v_c_run := fun _ h => List.mem_cons_of_mem _ (List.mem_append_right _ (List.mem_append_left _ h))
theorem g_c_run_c_has_290 : GoodIn v_c_run (wsV RX7 290 RX4 yX4_has v_c_has) := goodIn_app (goodIn_of _ (by decide +kernel)) (goodIn_sub (fun _ h => List.mem_cons_of_mem _ (List.mem_append_right _ (List.mem_append_right _ (List.mem_append_left _ h)))) gw_c_has)
set_option maxHeartbeats 4000000 in
set_option maxRecDepth 100000 in
theorem c_run (l : Launch) (E : EE) (x t rd sc n tr kp bk kb hi dr rf : Nat) (s1 s2 : Nat) (p0 p1 : Int32) : Met l yX7_run v_c_run ({ frames := 1, cells := 0, slots := 0, locals := 21 }) (va_Pc [.ref x, .int p0, .int p1] (pP E [(x, .inr (8, [.ref t, .ref rd, .ref sc, .ref n, .ref tr, .ref kp, .ref bk, .ref kb, .ref hi, .ref dr, .ref rf, .int 0])), (sc, .inr (5, [.ref s1, .ref s2, .int 0]))])) (vp_Si (fun r => r = -100000000)) 0 0 (fun _ => False) := by
  refine Met.ofW (cc := cX7_run) (maxL := 5) (ret := (some .int)) (by decide) rfl ?_
  intro p e s m args below meth c s₁ B hml hv
  obtain ⟨rfl, ⟨hK, hN⟩, hP⟩ := hv
  have hx := B.exec
  have hb := B.bytes
  have hr := B.returns
  have hts := atoms_spec (ws := v_c_run) B.pre
  have hown : s.vm.findClass RX7 = some m.cls := findClass_of_methodNamed B.named
  have hlocks := B.notSynchronized
  have hP : va_P E.1 vwCl [(x, .inr (8, [.ref t, .ref rd, .ref sc, .ref n, .ref tr, .ref kp, .ref bk, .ref kb, .ref hi, .ref dr, .ref rf, .int 0])), (sc, .inr (5, [.ref s1, .ref s2, .int 0]))] s.heap := hP
  have hl := lv_entry ([.ref x, .int p0, .int p1]) (n := 5) (Nat.le_of_ble_eq_true rfl)
  rw [lg_entry_eq]
  generalize (lg_sl ([.ref x, .int p0, .int p1]) ++ List.replicate (5 - (lg_sl ([.ref x, .int p0, .int p1])).length) Slot.unset).toArray = ls at hl ⊢
  have hl : lv_has ls 5 [(0, .ref x), (1, .int p0), (2, .int p1)] := hl
  refine lv_aload_n hx hb dX7_run_0 rfl (lv_at hl 0 rfl) ?_
  refine va_get (D := E.1) (ci := 8) (v := .ref sc) (C := RX7) (T := TX7) (N := 12) hx hb hts i_c_run_X7 hown hK hP 0 rfl rfl 2 (by decide) (hts (.fieldLink RX7 28 "HushWatch" "scripts" "LHushWatch$Scripts;") (List.mem_of_getElem? (i := 1) rfl)) (fun _ h9 => h9) rfl dX7_run_1 ?_
  refine lv_iload_n hx hb dX7_run_4 rfl (lv_at hl 1 rfl) ?_
  have hPc := hP.sub (ws' := [(sc, .inr (5, [.ref s1, .ref s2, .int 0]))]) [1] rfl
  refine pc_i (va_runV (As := [.int p0]) (rest := []) ⟨hx, hb, hml, hown, hts⟩ (c_has l E sc s1 s2 p0) (cwV 1 hts g_c_run_c_has_290 rfl rfl rfl (by decide +kernel) ⟨Nat.le_of_ble_eq_true rfl, Nat.le_of_ble_eq_true rfl⟩) ⟨pP.blind, va_recv hK hPc (ci := 5) (q0 := 0) rfl rfl, (pP.pre ⟨hK, hN⟩ hPc)⟩ rfl rfl hl.1 rfl (lv_room (Nat.le_of_ble_eq_true rfl)) dX7_run_5 ⟨Nat.le_of_ble_eq_true rfl, Nat.le_of_ble_eq_true rfl⟩) (fun r_1 hr_1 => ?_)
  obtain rfl : r_1 = 0 := hr_1
  refine lv_if_eq (tgt := 30) hx hb dX7_run_8 (by decide) (fun _ => ?_) (fun q => absurd (by decide) q)
  refine lv_ldc (v := -100000000) hx hb hown (hts (.constant RX7 113 (-100000000)) (List.mem_of_getElem? (i := 2) rfl)) dX7_run_30 ?_
  exact W.iret (v := -100000000) hx hb hr (fun tt ht hW => ⟨_, rfl, rfl, ht⟩) (fun _ h => by cases h) dX7_run_32

def v_c_perform : List Cond := .code yX7_perform cX7_perform 5 (some .int) :: ([.fieldLink RX7 28 "HushWatch" "scripts" "LHushWatch$Scripts;", .methodLink RX7 290 yX4_has, .instanceMethod yX4_has, .selects RX4 yX4_has yX4_has, .initialized RX4] ++ (wsX70 ++ (v_c_has ++ ([]))))
theorem gw_c_perform : v_c_perform.all goodWord = true := by decide +kernel
theorem i_c_perform_X7 : ∀ w ∈ wsX70, w ∈ v_c_perform := fun _ h => List.mem_cons_of_mem _ (List.mem_append_right _ (List.mem_append_left _ h))
theorem g_c_perform_c_has_290 : GoodIn v_c_perform (wsV RX7 290 RX4 yX4_has v_c_has) := goodIn_app (goodIn_of _ (by decide +kernel)) (goodIn_sub (fun _ h => List.mem_cons_of_mem _ (List.mem_append_right _ (List.mem_append_right _ (List.mem_append_left _ h)))) gw_c_has)
set_option maxHeartbeats 4000000 in
set_option maxRecDepth 100000 in
theorem c_perform (l : Launch) (E : EE) (x t rd sc n tr kp bk kb hi dr rf : Nat) (s1 s2 : Nat) (p0 : Int32) : Met l yX7_perform v_c_perform ({ frames := 1, cells := 0, slots := 0, locals := 21 }) (va_Pc [.ref x, .int p0] (pP E [(x, .inr (8, [.ref t, .ref rd, .ref sc, .ref n, .ref tr, .ref kp, .ref bk, .ref kb, .ref hi, .ref dr, .ref rf, .int 0])), (sc, .inr (5, [.ref s1, .ref s2, .int 0]))])) (vp_Si (fun r => r = -1)) 0 0 (fun _ => False) := by
  refine Met.ofW (cc := cX7_perform) (maxL := 5) (ret := (some .int)) (by decide) rfl ?_
  intro p e s m args below meth c s₁ B hml hv
  obtain ⟨rfl, ⟨hK, hN⟩, hP⟩ := hv
  have hx := B.exec
  have hb := B.bytes
  have hr := B.returns
  have hts := atoms_spec (ws := v_c_perform) B.pre
  have hown : s.vm.findClass RX7 = some m.cls := findClass_of_methodNamed B.named
  have hlocks := B.notSynchronized
  have hP : va_P E.1 vwCl [(x, .inr (8, [.ref t, .ref rd, .ref sc, .ref n, .ref tr, .ref kp, .ref bk, .ref kb, .ref hi, .ref dr, .ref rf, .int 0])), (sc, .inr (5, [.ref s1, .ref s2, .int 0]))] s.heap := hP
  have hl := lv_entry ([.ref x, .int p0]) (n := 5) (Nat.le_of_ble_eq_true rfl)
  rw [lg_entry_eq]
  generalize (lg_sl ([.ref x, .int p0]) ++ List.replicate (5 - (lg_sl ([.ref x, .int p0])).length) Slot.unset).toArray = ls at hl ⊢
  have hl : lv_has ls 5 [(0, .ref x), (1, .int p0)] := hl
  refine lv_aload_n hx hb dX7_perform_0 rfl (lv_at hl 0 rfl) ?_
  refine va_get (D := E.1) (ci := 8) (v := .ref sc) (C := RX7) (T := TX7) (N := 12) hx hb hts i_c_perform_X7 hown hK hP 0 rfl rfl 2 (by decide) (hts (.fieldLink RX7 28 "HushWatch" "scripts" "LHushWatch$Scripts;") (List.mem_of_getElem? (i := 1) rfl)) (fun _ h9 => h9) rfl dX7_perform_1 ?_
  refine lv_iload_n hx hb dX7_perform_4 rfl (lv_at hl 1 rfl) ?_
  have hPc := hP.sub (ws' := [(sc, .inr (5, [.ref s1, .ref s2, .int 0]))]) [1] rfl
  refine pc_i (va_runV (As := [.int p0]) (rest := []) ⟨hx, hb, hml, hown, hts⟩ (c_has l E sc s1 s2 p0) (cwV 1 hts g_c_perform_c_has_290 rfl rfl rfl (by decide +kernel) ⟨Nat.le_of_ble_eq_true rfl, Nat.le_of_ble_eq_true rfl⟩) ⟨pP.blind, va_recv hK hPc (ci := 5) (q0 := 0) rfl rfl, (pP.pre ⟨hK, hN⟩ hPc)⟩ rfl rfl hl.1 rfl (lv_room (Nat.le_of_ble_eq_true rfl)) dX7_perform_5 ⟨Nat.le_of_ble_eq_true rfl, Nat.le_of_ble_eq_true rfl⟩) (fun r_1 hr_1 => ?_)
  obtain rfl : r_1 = 0 := hr_1
  refine lv_if_eq (tgt := 21) hx hb dX7_perform_8 (by decide) (fun _ => ?_) (fun q => absurd (by decide) q)
  refine lv_iconst (v := -1) hx hb dX7_perform_21 (by decide) ?_
  exact W.iret (v := -1) hx hb hr (fun tt ht hW => ⟨_, rfl, rfl, ht⟩) (fun _ h => by cases h) dX7_perform_22

def v_c_most : List Cond := .code yX7_most cX7_most 2 (some .int) :: ([.fieldLink RX7 35 "HushWatch" "now" "LHushWatch$State;", .constant RX7 113 (-100000000), .methodLink RX7 110 yX5_stands, .instanceMethod yX5_stands, .selects RX5 yX5_stands yX5_stands, .initialized RX5] ++ (wsX70 ++ (v_c_stands ++ ([]))))
theorem gw_c_most : v_c_most.all goodWord = true := by decide +kernel
theorem i_c_most_X7 : ∀ w ∈ wsX70, w ∈ v_c_most := fun _ h => List.mem_cons_of_mem _ (List.mem_append_right _ (List.mem_append_left _ h))
theorem g_c_most_c_stands_110 : GoodIn v_c_most (wsV RX7 110 RX5 yX5_stands v_c_stands) := goodIn_app (goodIn_of _ (by decide +kernel)) (goodIn_sub (fun _ h => List.mem_cons_of_mem _ (List.mem_append_right _ (List.mem_append_right _ (List.mem_append_left _ h)))) gw_c_stands)
set_option maxHeartbeats 4000000 in
set_option maxRecDepth 100000 in
theorem c_most (l : Launch) (E : EE) (x t rd sc n tr kp bk kb hi dr rf : Nat) (n1 n2 n3 n4 : Nat) (p0 : Int32) : Met l yX7_most v_c_most ({ frames := 1, cells := 0, slots := 0, locals := 20 }) (va_Pc [.ref x, .int p0] (pP E [(x, .inr (8, [.ref t, .ref rd, .ref sc, .ref n, .ref tr, .ref kp, .ref bk, .ref kb, .ref hi, .ref dr, .ref rf, .int 0])), (n, .inr (6, [.ref n1, .ref n2, .int 0, .int 0, .ref n3, .ref n4])), (n1, .inl (E.2.1, 81, .inl (fun _ => 0)))])) (vp_Si (fun r => r = -100000000)) 0 0 (fun _ => False) := by
  refine Met.ofW (cc := cX7_most) (maxL := 2) (ret := (some .int)) (by decide) rfl ?_
  intro p e s m args below meth c s₁ B hml hv
  obtain ⟨rfl, ⟨hK, hN⟩, hP⟩ := hv
  have hx := B.exec
  have hb := B.bytes
  have hr := B.returns
  have hts := atoms_spec (ws := v_c_most) B.pre
  have hown : s.vm.findClass RX7 = some m.cls := findClass_of_methodNamed B.named
  have hlocks := B.notSynchronized
  have hP : va_P E.1 vwCl [(x, .inr (8, [.ref t, .ref rd, .ref sc, .ref n, .ref tr, .ref kp, .ref bk, .ref kb, .ref hi, .ref dr, .ref rf, .int 0])), (n, .inr (6, [.ref n1, .ref n2, .int 0, .int 0, .ref n3, .ref n4])), (n1, .inl (E.2.1, 81, .inl (fun _ => 0)))] s.heap := hP
  have hl := lv_entry ([.ref x, .int p0]) (n := 2) (Nat.le_of_ble_eq_true rfl)
  rw [lg_entry_eq]
  generalize (lg_sl ([.ref x, .int p0]) ++ List.replicate (2 - (lg_sl ([.ref x, .int p0])).length) Slot.unset).toArray = ls at hl ⊢
  have hl : lv_has ls 2 [(0, .ref x), (1, .int p0)] := hl
  refine lv_aload_n hx hb dX7_most_0 rfl (lv_at hl 0 rfl) ?_
  refine va_get (D := E.1) (ci := 8) (v := .ref n) (C := RX7) (T := TX7) (N := 12) hx hb hts i_c_most_X7 hown hK hP 0 rfl rfl 3 (by decide) (hts (.fieldLink RX7 35 "HushWatch" "now" "LHushWatch$State;") (List.mem_of_getElem? (i := 1) rfl)) (fun _ h9 => h9) rfl dX7_most_1 ?_
  have hPc := hP.sub (ws' := [(n, .inr (6, [.ref n1, .ref n2, .int 0, .int 0, .ref n3, .ref n4])), (n1, .inl (E.2.1, 81, .inl (fun _ => 0)))]) [1, 2] rfl
  refine pc_i (va_runV (As := []) (rest := []) ⟨hx, hb, hml, hown, hts⟩ (c_stands l E n n1 n2 n3 n4) (cwV 0 hts g_c_most_c_stands_110 rfl rfl rfl (by decide +kernel) ⟨Nat.le_of_ble_eq_true rfl, Nat.le_of_ble_eq_true rfl⟩) ⟨pP.blind, va_recv hK hPc (ci := 6) (q0 := 0) rfl rfl, (pP.pre ⟨hK, hN⟩ hPc)⟩ rfl rfl hl.1 rfl (lv_room (Nat.le_of_ble_eq_true rfl)) dX7_most_4 ⟨Nat.le_of_ble_eq_true rfl, Nat.le_of_ble_eq_true rfl⟩) (fun r_1 hr_1 => ?_)
  obtain rfl : r_1 = 0 := hr_1
  refine lv_if_ne (tgt := 13) hx hb dX7_most_7 (by decide) (fun q => absurd (by decide) q) (fun _ => ?_)
  refine lv_ldc (v := -100000000) hx hb hown (hts (.constant RX7 113 (-100000000)) (List.mem_of_getElem? (i := 2) rfl)) dX7_most_10 ?_
  exact W.iret (v := -100000000) hx hb hr (fun tt ht hW => ⟨_, rfl, rfl, ht⟩) (fun _ h => by cases h) dX7_most_12
