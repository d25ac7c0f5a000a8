theorem dX7_all_0 : decode cX7_all 0 = .ok (.aload_n 0, 1) := by decide +kernel
theorem dX7_all_1 : decode cX7_all 1 = .ok (.getfield 35, 3) := by decide +kernel
theorem dX7_all_4 : decode cX7_all 4 = .ok (.invokevirtual 110, 3) := by decide +kernel
theorem dX7_all_7 : decode cX7_all 7 = .ok (.ifCond .ne 7, 3) := by decide +kernel
theorem dX7_all_10 : decode cX7_all 10 = .ok (.ldc2_w 154, 3) := by decide +kernel
theorem dX7_all_13 : decode cX7_all 13 = .ok (.lreturn, 1) := by decide +kernel
theorem dX7_count_0 : decode cX7_count 0 = .ok (.aload_n 0, 1) := by decide +kernel
theorem dX7_count_1 : decode cX7_count 1 = .ok (.getfield 35, 3) := by decide +kernel
theorem dX7_count_4 : decode cX7_count 4 = .ok (.invokevirtual 110, 3) := by decide +kernel
theorem dX7_count_7 : decode cX7_count 7 = .ok (.ifCond .ne 5, 3) := by decide +kernel
theorem dX7_count_10 : decode cX7_count 10 = .ok (.iconst (-1), 1) := by decide +kernel
theorem dX7_count_11 : decode cX7_count 11 = .ok (.ireturn, 1) := by decide +kernel
theorem dX7_log_0 : decode cX7_log 0 = .ok (.iload_n 1, 1) := by decide +kernel
theorem dX7_log_1 : decode cX7_log 1 = .ok (.ifCond .lt 20, 3) := by decide +kernel
theorem dX7_log_21 : decode cX7_log 21 = .ok (.ldc 113, 2) := by decide +kernel
theorem dX7_log_23 : decode cX7_log 23 = .ok (.ireturn, 1) := by decide +kernel
theorem dX7_log_4 : decode cX7_log 4 = .ok (.iload_n 1, 1) := by decide +kernel
theorem dX7_log_5 : decode cX7_log 5 = .ok (.aload_n 0, 1) := by decide +kernel
theorem dX7_log_6 : decode cX7_log 6 = .ok (.invokevirtual 204, 3) := by decide +kernel
theorem dX7_log_9 : decode cX7_log 9 = .ok (.if_icmp .ge 12, 3) := by decide +kernel
theorem dX7_limit_0 : decode cX7_limit 0 = .ok (.aload_n 0, 1) := by decide +kernel
theorem dX7_limit_1 : decode cX7_limit 1 = .ok (.getfield 35, 3) := by decide +kernel
theorem dX7_limit_4 : decode cX7_limit 4 = .ok (.iload_n 1, 1) := by decide +kernel
theorem dX7_limit_5 : decode cX7_limit 5 = .ok (.invokevirtual 120, 3) := by decide +kernel
theorem dX7_limit_8 : decode cX7_limit 8 = .ok (.ifCond .eq 22, 3) := by decide +kernel
theorem dX7_limit_30 : decode cX7_limit 30 = .ok (.iconst (-1), 1) := by decide +kernel
theorem dX7_limit_31 : decode cX7_limit 31 = .ok (.ireturn, 1) := by decide +kernel
theorem dX7_asked_0 : decode cX7_asked 0 = .ok (.aload_n 0, 1) := by decide +kernel
theorem dX7_asked_1 : decode cX7_asked 1 = .ok (.getfield 35, 3) := by decide +kernel
theorem dX7_asked_4 : decode cX7_asked 4 = .ok (.iconst 0, 1) := by decide +kernel
theorem dX7_asked_5 : decode cX7_asked 5 = .ok (.iload_n 1, 1) := by decide +kernel
theorem dX7_asked_6 : decode cX7_asked 6 = .ok (.iload_n 2, 1) := by decide +kernel
theorem dX7_asked_7 : decode cX7_asked 7 = .ok (.iload_n 3, 1) := by decide +kernel
theorem dX7_asked_8 : decode cX7_asked 8 = .ok (.invokevirtual 220, 3) := by decide +kernel
theorem dX7_asked_11 : decode cX7_asked 11 = .ok (.iconst (-1), 1) := by decide +kernel
theorem dX7_asked_12 : decode cX7_asked 12 = .ok (.if_icmp .eq 5, 3) := by decide +kernel
theorem dX7_asked_15 : decode cX7_asked 15 = .ok (.iconst (-1), 1) := by decide +kernel
theorem dX7_asked_16 : decode cX7_asked 16 = .ok (.ireturn, 1) := by decide +kernel
theorem dX7_goes_0 : decode cX7_goes 0 = .ok (.aload_n 0, 1) := by decide +kernel
theorem dX7_goes_1 : decode cX7_goes 1 = .ok (.getfield 35, 3) := by decide +kernel
theorem dX7_goes_4 : decode cX7_goes 4 = .ok (.iload_n 1, 1) := by decide +kernel
theorem dX7_goes_5 : decode cX7_goes 5 = .ok (.invokevirtual 120, 3) := by decide +kernel
theorem dX7_goes_8 : decode cX7_goes 8 = .ok (.ifCond .eq 22, 3) := by decide +kernel
theorem dX7_goes_30 : decode cX7_goes 30 = .ok (.iconst (-1), 1) := by decide +kernel
theorem dX7_goes_31 : decode cX7_goes 31 = .ok (.ireturn, 1) := by decide +kernel
theorem dX7_fair_0 : decode cX7_fair 0 = .ok (.aload_n 0, 1) := by decide +kernel
theorem dX7_fair_1 : decode cX7_fair 1 = .ok (.getfield 35, 3) := by decide +kernel
theorem dX7_fair_4 : decode cX7_fair 4 = .ok (.invokevirtual 110, 3) := by decide +kernel
theorem dX7_fair_7 : decode cX7_fair 7 = .ok (.ifCond .eq 12, 3) := by decide +kernel
theorem dX7_fair_19 : decode cX7_fair 19 = .ok (.iconst (-1), 1) := by decide +kernel
theorem dX7_fair_20 : decode cX7_fair 20 = .ok (.ireturn, 1) := by decide +kernel
theorem dX7_image_0 : decode cX7_image 0 = .ok (.aload_n 0, 1) := by decide +kernel
theorem dX7_image_1 : decode cX7_image 1 = .ok (.getfield 35, 3) := by decide +kernel
theorem dX7_image_4 : decode cX7_image 4 = .ok (.invokevirtual 110, 3) := by decide +kernel
theorem dX7_image_7 : decode cX7_image 7 = .ok (.ifCond .ne 5, 3) := by decide +kernel
theorem dX7_image_10 : decode cX7_image 10 = .ok (.iconst (-1), 1) := by decide +kernel
theorem dX7_image_11 : decode cX7_image 11 = .ok (.ireturn, 1) := by decide +kernel
theorem dX7_back_0 : decode cX7_back 0 = .ok (.aload_n 0, 1) := by decide +kernel
theorem dX7_back_1 : decode cX7_back 1 = .ok (.getfield 73, 3) := by decide +kernel
theorem dX7_back_4 : decode cX7_back 4 = .ok (.ifCond .ne 5, 3) := by decide +kernel
theorem dX7_back_7 : decode cX7_back 7 = .ok (.iconst (-1), 1) := by decide +kernel
theorem dX7_back_8 : decode cX7_back 8 = .ok (.ireturn, 1) := by decide +kernel
theorem dX7_held_0 : decode cX7_held 0 = .ok (.iload_n 1, 1) := by decide +kernel
theorem dX7_held_1 : decode cX7_held 1 = .ok (.tableswitch 72 0 4 #[35, 43, 51, 59, 64], 35) := by decide +kernel
theorem dX7_held_36 : decode cX7_held 36 = .ok (.aload_n 0, 1) := by decide +kernel
theorem dX7_held_37 : decode cX7_held 37 = .ok (.getfield 35, 3) := by decide +kernel
theorem dX7_held_40 : decode cX7_held 40 = .ok (.invokevirtual 117, 3) := by decide +kernel
theorem dX7_held_43 : decode cX7_held 43 = .ok (.ireturn, 1) := by decide +kernel
theorem dX7_held_44 : decode cX7_held 44 = .ok (.aload_n 0, 1) := by decide +kernel
theorem dX7_held_45 : decode cX7_held 45 = .ok (.getfield 28, 3) := by decide +kernel
theorem dX7_held_48 : decode cX7_held 48 = .ok (.getfield 317, 3) := by decide +kernel
theorem dX7_held_51 : decode cX7_held 51 = .ok (.ireturn, 1) := by decide +kernel
theorem dX7_held_52 : decode cX7_held 52 = .ok (.aload_n 0, 1) := by decide +kernel
theorem dX7_held_53 : decode cX7_held 53 = .ok (.getfield 10, 3) := by decide +kernel
theorem dX7_held_56 : decode cX7_held 56 = .ok (.getfield 81, 3) := by decide +kernel
theorem dX7_held_59 : decode cX7_held 59 = .ok (.ireturn, 1) := by decide +kernel
theorem dX7_held_60 : decode cX7_held 60 = .ok (.aload_n 0, 1) := by decide +kernel
theorem dX7_held_61 : decode cX7_held 61 = .ok (.invokevirtual 204, 3) := by decide +kernel
theorem dX7_held_64 : decode cX7_held 64 = .ok (.ireturn, 1) := by decide +kernel
theorem dX7_held_65 : decode cX7_held 65 = .ok (.aload_n 0, 1) := by decide +kernel
theorem dX7_held_66 : decode cX7_held 66 = .ok (.getfield 58, 3) := by decide +kernel
theorem dX7_held_69 : decode cX7_held 69 = .ok (.getfield 201, 3) := by decide +kernel
theorem dX7_held_72 : decode cX7_held 72 = .ok (.ireturn, 1) := by decide +kernel
theorem dX7_held_73 : decode cX7_held 73 = .ok (.ldc 113, 2) := by decide +kernel
theorem dX7_held_75 : decode cX7_held 75 = .ok (.ireturn, 1) := by decide +kernel
def v_c_all : List Cond := .code yX7_all cX7_all 2 (some .long) :: ([.fieldLink RX7 35 "HushWatch" "now" "LHushWatch$State;", .constantLong RX7 154 (-100000000), .methodLink RX7 110 yX5_stands, .instanceMethod yX5_stands, .selects RX5 yX5_stands yX5_stands, .initialized RX5] ++ (wsX70 ++ (v_c_stands ++ ([]))))
theorem gw_c_all : v_c_all.all goodWord = true := by decide +kernel
theorem i_c_all_X7 : ∀ w ∈ wsX70, w ∈ v_c_all := fun _ h => List.mem_cons_of_mem _ (List.mem_append_right _ (List.mem_append_left _ h))
theorem g_c_all_c_stands_110 : GoodIn v_c_all (wsV RX7 110 RX5 yX5_stands v_c_stands) := goodIn_app (goodIn_of _ (by decide +kernel)) (goodIn_sub (fun _ h => List.mem_cons_of_mem _ (List.mem_append_right _ (List.mem_append_right _ (List.mem_append_left _ h)))) gw_c_stands)
set_option maxHeartbeats 4000000 in
set_option maxRecDepth 100000 in
theorem c_all (l : Launch) (E : EE) (x t rd sc n tr kp bk kb hi dr rf : Nat) (n1 n2 n3 n4 : Nat) (p0 : Int32) : Met l yX7_all v_c_all ({ frames := 1, cells := 0, slots := 0, locals := 20 }) (va_Pc [.ref x, .int p0] (pP E [(x, .inr (8, [.ref t, .ref rd, .ref sc, .ref n, .ref tr, .ref kp, .ref bk, .ref kb, .ref hi, .ref dr, .ref rf, .int 0])), (n, .inr (6, [.ref n1, .ref n2, .int 0, .int 0, .ref n3, .ref n4])), (n1, .inl (E.2.1, 81, .inl (fun _ => 0)))])) (vp_Sl (fun r => r = -100000000)) 0 0 (fun _ => False) := by
  refine Met.ofW (cc := cX7_all) (maxL := 2) (ret := (some .long)) (by decide) rfl ?_
  intro p e s m args below meth c s₁ B hml hv
  obtain ⟨rfl, ⟨hK, hN⟩, hP⟩ := hv
  have hx := B.exec
  have hb := B.bytes
  have hr := B.returns
  have hts := atoms_spec (ws := v_c_all) B.pre
  have hown : s.vm.findClass RX7 = some m.cls := findClass_of_methodNamed B.named
  have hlocks := B.notSynchronized
  have hP : va_P E.1 vwCl [(x, .inr (8, [.ref t, .ref rd, .ref sc, .ref n, .ref tr, .ref kp, .ref bk, .ref kb, .ref hi, .ref dr, .ref rf, .int 0])), (n, .inr (6, [.ref n1, .ref n2, .int 0, .int 0, .ref n3, .ref n4])), (n1, .inl (E.2.1, 81, .inl (fun _ => 0)))] s.heap := hP
  have hl := lv_entry ([.ref x, .int p0]) (n := 2) (Nat.le_of_ble_eq_true rfl)
  rw [lg_entry_eq]
  generalize (lg_sl ([.ref x, .int p0]) ++ List.replicate (2 - (lg_sl ([.ref x, .int p0])).length) Slot.unset).toArray = ls at hl ⊢
  have hl : lv_has ls 2 [(0, .ref x), (1, .int p0)] := hl
  refine lv_aload_n hx hb dX7_all_0 rfl (lv_at hl 0 rfl) ?_
  refine va_get (D := E.1) (ci := 8) (v := .ref n) (C := RX7) (T := TX7) (N := 12) hx hb hts i_c_all_X7 hown hK hP 0 rfl rfl 3 (by decide) (hts (.fieldLink RX7 35 "HushWatch" "now" "LHushWatch$State;") (List.mem_of_getElem? (i := 1) rfl)) (fun _ h9 => h9) rfl dX7_all_1 ?_
  have hPc := hP.sub (ws' := [(n, .inr (6, [.ref n1, .ref n2, .int 0, .int 0, .ref n3, .ref n4])), (n1, .inl (E.2.1, 81, .inl (fun _ => 0)))]) [1, 2] rfl
  refine pc_i (va_runV (As := []) (rest := []) ⟨hx, hb, hml, hown, hts⟩ (c_stands l E n n1 n2 n3 n4) (cwV 0 hts g_c_all_c_stands_110 rfl rfl rfl (by decide +kernel) ⟨Nat.le_of_ble_eq_true rfl, Nat.le_of_ble_eq_true rfl⟩) ⟨pP.blind, va_recv hK hPc (ci := 6) (q0 := 0) rfl rfl, (pP.pre ⟨hK, hN⟩ hPc)⟩ rfl rfl hl.1 rfl (lv_room (Nat.le_of_ble_eq_true rfl)) dX7_all_4 ⟨Nat.le_of_ble_eq_true rfl, Nat.le_of_ble_eq_true rfl⟩) (fun r_1 hr_1 => ?_)
  obtain rfl : r_1 = 0 := hr_1
  refine lv_if_ne (tgt := 14) hx hb dX7_all_7 (by decide) (fun q => absurd (by decide) q) (fun _ => ?_)
  refine lv_ldc2 (v := -100000000) hx hb hown (hts (.constantLong RX7 154 (-100000000)) (List.mem_of_getElem? (i := 2) rfl)) dX7_all_10 ?_
  exact W.lret (v := -100000000) hx hb hr (fun tt ht hW => ⟨_, rfl, rfl, ht⟩) (fun _ h => by cases h) dX7_all_13

def v_c_count : List Cond := .code yX7_count cX7_count 2 (some .int) :: ([.fieldLink RX7 35 "HushWatch" "now" "LHushWatch$State;", .methodLink RX7 110 yX5_stands, .instanceMethod yX5_stands, .selects RX5 yX5_stands yX5_stands, .initialized RX5] ++ (wsX70 ++ (v_c_stands ++ ([]))))
theorem gw_c_count : v_c_count.all goodWord = true := by decide +kernel
theorem i_c_count_X7 : ∀ w ∈ wsX70, w ∈ v_c_count := fun _ h => List.mem_cons_of_mem _ (List.mem_append_right _ (List.mem_append_left _ h))
theorem g_c_count_c_stands_110 : GoodIn v_c_count (wsV RX7 110 RX5 yX5_stands v_c_stands) := goodIn_app (goodIn_of _ (by decide +kernel)) (goodIn_sub (fun _ h => List.mem_cons_of_mem _ (List.mem_append_right _ (List.mem_append_right _ (List.mem_append_left _ h)))) gw_c_stands)
set_option maxHeartbeats 4000000 in
set_option maxRecDepth 100000 in
theorem c_count (l : Launch) (E : EE) (x t rd sc n tr kp bk kb hi dr rf : Nat) (n1 n2 n3 n4 : Nat) (p0 : Int32) : Met l yX7_count v_c_count ({ frames := 1, cells := 0, slots := 0, locals := 20 }) (va_Pc [.ref x, .int p0] (pP E [(x, .inr (8, [.ref t, .ref rd, .ref sc, .ref n, .ref tr, .ref kp, .ref bk, .ref kb, .ref hi, .ref dr, .ref rf, .int 0])), (n, .inr (6, [.ref n1, .ref n2, .int 0, .int 0, .ref n3, .ref n4])), (n1, .inl (E.2.1, 81, .inl (fun _ => 0)))])) (vp_Si (fun r => r = -1)) 0 0 (fun _ => False) := by
  refine Met.ofW (cc := cX7_count) (maxL := 2) (ret := (some .int)) (by decide) rfl ?_
  intro p e s m args below meth c s₁ B hml hv
  obtain ⟨rfl, ⟨hK, hN⟩, hP⟩ := hv
  have hx := B.exec
  have hb := B.bytes
  have hr := B.returns
  have hts := atoms_spec (ws := v_c_count) B.pre
  have hown : s.vm.findClass RX7 = some m.cls := findClass_of_methodNamed B.named
  have hlocks := B.notSynchronized
  have hP : va_P E.1 vwCl [(x, .inr (8, [.ref t, .ref rd, .ref sc, .ref n, .ref tr, .ref kp, .ref bk, .ref kb, .ref hi, .ref dr, .ref rf, .int 0])), (n, .inr (6, [.ref n1, .ref n2, .int 0, .int 0, .ref n3, .ref n4])), (n1, .inl (E.2.1, 81, .inl (fun _ => 0)))] s.heap := hP
  have hl := lv_entry ([.ref x, .int p0]) (n := 2) (Nat.le_of_ble_eq_true rfl)
  rw [lg_entry_eq]
  generalize (lg_sl ([.ref x, .int p0]) ++ List.replicate (2 - (lg_sl ([.ref x, .int p0])).length) Slot.unset).toArray = ls at hl ⊢
  have hl : lv_has ls 2 [(0, .ref x), (1, .int p0)] := hl
  refine lv_aload_n hx hb dX7_count_0 rfl (lv_at hl 0 rfl) ?_
  refine va_get (D := E.1) (ci := 8) (v := .ref n) (C := RX7) (T := TX7) (N := 12) hx hb hts i_c_count_X7 hown hK hP 0 rfl rfl 3 (by decide) (hts (.fieldLink RX7 35 "HushWatch" "now" "LHushWatch$State;") (List.mem_of_getElem? (i := 1) rfl)) (fun _ h9 => h9) rfl dX7_count_1 ?_
  have hPc := hP.sub (ws' := [(n, .inr (6, [.ref n1, .ref n2, .int 0, .int 0, .ref n3, .ref n4])), (n1, .inl (E.2.1, 81, .inl (fun _ => 0)))]) [1, 2] rfl
  refine pc_i (va_runV (As := []) (rest := []) ⟨hx, hb, hml, hown, hts⟩ (c_stands l E n n1 n2 n3 n4) (cwV 0 hts g_c_count_c_stands_110 rfl rfl rfl (by decide +kernel) ⟨Nat.le_of_ble_eq_true rfl, Nat.le_of_ble_eq_true rfl⟩) ⟨pP.blind, va_recv hK hPc (ci := 6) (q0 := 0) rfl rfl, (pP.pre ⟨hK, hN⟩ hPc)⟩ rfl rfl hl.1 rfl (lv_room (Nat.le_of_ble_eq_true rfl)) dX7_count_4 ⟨Nat.le_of_ble_eq_true rfl, Nat.le_of_ble_eq_true rfl⟩) (fun r_1 hr_1 => ?_)
  obtain rfl : r_1 = 0 := hr_1
  refine lv_if_ne (tgt := 12) hx hb dX7_count_7 (by decide) (fun q => absurd (by decide) q) (fun _ => ?_)
  refine lv_iconst (v := -1) hx hb dX7_count_10 (by decide) ?_
  exact W.iret (v := -1) hx hb hr (fun tt ht hW => ⟨_, rfl, rfl, ht⟩) (fun _ h => by cases h) dX7_count_11

def v_c_log : List Cond := .code yX7_log cX7_log 3 (some .int) :: ([.constant RX7 113 (-100000000), .methodLink RX7 204 yX7_loggedActs, .instanceMethod yX7_loggedActs, .selects RX7 yX7_loggedActs yX7_loggedActs, .initialized RX7] ++ (v_c_loggedActs ++ ([])))
theorem gw_c_log : v_c_log.all goodWord = true := by decide +kernel
theorem g_c_log_c_loggedActs_204 : GoodIn v_c_log (wsV RX7 204 RX7 yX7_loggedActs v_c_loggedActs) := goodIn_app (goodIn_of _ (by decide +kernel)) (goodIn_sub (fun _ h => List.mem_cons_of_mem _ (List.mem_append_right _ (List.mem_append_left _ h))) gw_c_loggedActs)
set_option maxHeartbeats 4000000 in
set_option maxRecDepth 100000 in
theorem c_log (l : Launch) (E : EE) (x t rd sc n tr kp bk kb hi dr rf : Nat) (n1 n2 n3 n4 : Nat) (p0 p1 : Int32) : Met l yX7_log v_c_log ({ frames := 2, cells := 0, slots := 0, locals := 41 }) (va_Pc [.ref x, .int p0, .int p1] (pP E [(x, .inr (8, [.ref t, .ref rd, .ref sc, .ref n, .ref tr, .ref kp, .ref bk, .ref kb, .ref hi, .ref dr, .ref rf, .int 0])), (n, .inr (6, [.ref n1, .ref n2, .int 0, .int 0, .ref n3, .ref n4])), (n1, .inl (E.2.1, 81, .inl (fun _ => 0)))])) (vp_Si (fun r => r = -100000000)) 0 0 (fun _ => False) := by
  refine Met.ofW (cc := cX7_log) (maxL := 3) (ret := (some .int)) (by decide) rfl ?_
  intro p e s m args below meth c s₁ B hml hv
  obtain ⟨rfl, ⟨hK, hN⟩, hP⟩ := hv
  have hx := B.exec
  have hb := B.bytes
  have hr := B.returns
  have hts := atoms_spec (ws := v_c_log) B.pre
  have hown : s.vm.findClass RX7 = some m.cls := findClass_of_methodNamed B.named
  have hlocks := B.notSynchronized
  have hP : va_P E.1 vwCl [(x, .inr (8, [.ref t, .ref rd, .ref sc, .ref n, .ref tr, .ref kp, .ref bk, .ref kb, .ref hi, .ref dr, .ref rf, .int 0])), (n, .inr (6, [.ref n1, .ref n2, .int 0, .int 0, .ref n3, .ref n4])), (n1, .inl (E.2.1, 81, .inl (fun _ => 0)))] s.heap := hP
  have hl := lv_entry ([.ref x, .int p0, .int p1]) (n := 3) (Nat.le_of_ble_eq_true rfl)
  rw [lg_entry_eq]
  generalize (lg_sl ([.ref x, .int p0, .int p1]) ++ List.replicate (3 - (lg_sl ([.ref x, .int p0, .int p1])).length) Slot.unset).toArray = ls at hl ⊢
  have hl : lv_has ls 3 [(0, .ref x), (1, .int p0), (2, .int p1)] := hl
  refine lv_iload_n hx hb dX7_log_0 rfl (lv_at hl 1 rfl) ?_
  refine lv_if_lt (tgt := 21) hx hb dX7_log_1 (by decide) (fun c_1 => ?_) (fun c_1 => ?_)
  ·
    refine lv_ldc (v := -100000000) hx hb hown (hts (.constant RX7 113 (-100000000)) (List.mem_of_getElem? (i := 1) rfl)) dX7_log_21 ?_
    exact W.iret (v := -100000000) hx hb hr (fun tt ht hW => ⟨_, rfl, rfl, ht⟩) (fun _ h => by cases h) dX7_log_23
  ·
    refine lv_iload_n hx hb dX7_log_4 rfl (lv_at hl 1 rfl) ?_
    refine lv_aload_n hx hb dX7_log_5 rfl (lv_at hl 0 rfl) ?_
    have hPc := hP.sub (ws' := [(x, .inr (8, [.ref t, .ref rd, .ref sc, .ref n, .ref tr, .ref kp, .ref bk, .ref kb, .ref hi, .ref dr, .ref rf, .int 0])), (n, .inr (6, [.ref n1, .ref n2, .int 0, .int 0, .ref n3, .ref n4])), (n1, .inl (E.2.1, 81, .inl (fun _ => 0)))]) [0, 1, 2] rfl
    refine pc_i (va_runV (As := []) (rest := [.int p0]) ⟨hx, hb, hml, hown, hts⟩ (c_loggedActs l E x t rd sc n tr kp bk kb hi dr rf n1 n2 n3 n4) (cwV 0 hts g_c_log_c_loggedActs_204 rfl rfl rfl (by decide +kernel) ⟨Nat.le_of_ble_eq_true rfl, Nat.le_of_ble_eq_true rfl⟩) ⟨pP.blind, va_recv hK hPc (ci := 8) (q0 := 0) rfl rfl, (pP.pre ⟨hK, hN⟩ hPc)⟩ rfl rfl hl.1 rfl (lv_room (Nat.le_of_ble_eq_true rfl)) dX7_log_6 ⟨Nat.le_of_ble_eq_true rfl, Nat.le_of_ble_eq_true rfl⟩) (fun r_2 hr_2 => ?_)
    obtain rfl : r_2 = 0 := hr_2
    refine lv_icmp_ge (tgt := 21) hx hb dX7_log_9 (by decide) (fun c_3 => ?_) (fun c_3 => ?_)
    ·
      refine lv_ldc (v := -100000000) hx hb hown (hts (.constant RX7 113 (-100000000)) (List.mem_of_getElem? (i := 1) rfl)) dX7_log_21 ?_
      exact W.iret (v := -100000000) hx hb hr (fun tt ht hW => ⟨_, rfl, rfl, ht⟩) (fun _ h => by cases h) dX7_log_23
    ·
      exact absurd trivial (by exfalso; have t0 : (0 : Int32).toInt = 0 := (by decide); simp only [Int32.lt_iff_toInt_lt, Int32.le_iff_toInt_le, ge_iff_le, gt_iff_lt, ne_eq, ← Int32.toInt_inj, t0] at c_1 c_3; omega)

def v_c_limit : List Cond := .code yX7_limit cX7_limit 6 (some .int) :: ([.fieldLink RX7 35 "HushWatch" "now" "LHushWatch$State;", .methodLink RX7 120 yX5_hasSite, .instanceMethod yX5_hasSite, .selects RX5 yX5_hasSite yX5_hasSite, .initialized RX5] ++ (wsX70 ++ (v_c_hasSite ++ ([]))))
theorem gw_c_limit : v_c_limit.all goodWord = true := by decide +kernel
theorem i_c_limit_X7 : ∀ w ∈ wsX70, w ∈ v_c_limit := fun _ h => List.mem_cons_of_mem _ (List.mem_append_right _ (List.mem_append_left _ h))
theorem g_c_limit_c_hasSite_120 : GoodIn v_c_limit (wsV RX7 120 RX5 yX5_hasSite v_c_hasSite) := goodIn_app (goodIn_of _ (by decide +kernel)) (goodIn_sub (fun _ h => List.mem_cons_of_mem _ (List.mem_append_right _ (List.mem_append_right _ (List.mem_append_left _ h)))) gw_c_hasSite)
set_option maxHeartbeats 4000000 in
set_option maxRecDepth 100000 in
theorem c_limit (l : Launch) (E : EE) (x t rd sc n tr kp bk kb hi dr rf : Nat) (n1 n2 n3 n4 : Nat) (p0 p1 p2 : Int32) : Met l yX7_limit v_c_limit ({ frames := 1, cells := 0, slots := 0, locals := 21 }) (va_Pc [.ref x, .int p0, .int p1, .int p2] (pP E [(x, .inr (8, [.ref t, .ref rd, .ref sc, .ref n, .ref tr, .ref kp, .ref bk, .ref kb, .ref hi, .ref dr, .ref rf, .int 0])), (n, .inr (6, [.ref n1, .ref n2, .int 0, .int 0, .ref n3, .ref n4])), (n1, .inl (E.2.1, 81, .inl (fun _ => 0)))])) (vp_Si (fun r => r = -1)) 0 0 (fun _ => False) := by
  refine Met.ofW (cc := cX7_limit) (maxL := 6) (ret := (some .int)) (by decide) rfl ?_
  intro p e s m args below meth c s₁ B hml hv
  obtain ⟨rfl, ⟨hK, hN⟩, hP⟩ := hv
  have hx := B.exec
  have hb := B.bytes
  have hr := B.returns
  have hts := atoms_spec (ws := v_c_limit) B.pre
  have hown : s.vm.findClass RX7 = some m.cls := findClass_of_methodNamed B.named
  have hlocks := B.notSynchronized
  have hP : va_P E.1 vwCl [(x, .inr (8, [.ref t, .ref rd, .ref sc, .ref n, .ref tr, .ref kp, .ref bk, .ref kb, .ref hi, .ref dr, .ref rf, .int 0])), (n, .inr (6, [.ref n1, .ref n2, .int 0, .int 0, .ref n3, .ref n4])), (n1, .inl (E.2.1, 81, .inl (fun _ => 0)))] s.heap := hP
  have hl := lv_entry ([.ref x, .int p0, .int p1, .int p2]) (n := 6) (Nat.le_of_ble_eq_true rfl)
  rw [lg_entry_eq]
  generalize (lg_sl ([.ref x, .int p0, .int p1, .int p2]) ++ List.replicate (6 - (lg_sl ([.ref x, .int p0, .int p1, .int p2])).length) Slot.unset).toArray = ls at hl ⊢
  have hl : lv_has ls 6 [(0, .ref x), (1, .int p0), (2, .int p1), (3, .int p2)] := hl
  refine lv_aload_n hx hb dX7_limit_0 rfl (lv_at hl 0 rfl) ?_
  refine va_get (D := E.1) (ci := 8) (v := .ref n) (C := RX7) (T := TX7) (N := 12) hx hb hts i_c_limit_X7 hown hK hP 0 rfl rfl 3 (by decide) (hts (.fieldLink RX7 35 "HushWatch" "now" "LHushWatch$State;") (List.mem_of_getElem? (i := 1) rfl)) (fun _ h9 => h9) rfl dX7_limit_1 ?_
  refine lv_iload_n hx hb dX7_limit_4 rfl (lv_at hl 1 rfl) ?_
  have hPc := hP.sub (ws' := [(n, .inr (6, [.ref n1, .ref n2, .int 0, .int 0, .ref n3, .ref n4])), (n1, .inl (E.2.1, 81, .inl (fun _ => 0)))]) [1, 2] rfl
  refine pc_i (va_runV (As := [.int p0]) (rest := []) ⟨hx, hb, hml, hown, hts⟩ (c_hasSite l E n n1 n2 n3 n4 p0) (cwV 1 hts g_c_limit_c_hasSite_120 rfl rfl rfl (by decide +kernel) ⟨Nat.le_of_ble_eq_true rfl, Nat.le_of_ble_eq_true rfl⟩) ⟨pP.blind, va_recv hK hPc (ci := 6) (q0 := 0) rfl rfl, (pP.pre ⟨hK, hN⟩ hPc)⟩ rfl rfl hl.1 rfl (lv_room (Nat.le_of_ble_eq_true rfl)) dX7_limit_5 ⟨Nat.le_of_ble_eq_true rfl, Nat.le_of_ble_eq_true rfl⟩) (fun r_1 hr_1 => ?_)
  obtain rfl : r_1 = 0 := hr_1
  refine lv_if_eq (tgt := 30) hx hb dX7_limit_8 (by decide) (fun _ => ?_) (fun q => absurd (by decide) q)
  refine lv_iconst (v := -1) hx hb dX7_limit_30 (by decide) ?_
  exact W.iret (v := -1) hx hb hr (fun tt ht hW => ⟨_, rfl, rfl, ht⟩) (fun _ h => by cases h) dX7_limit_31

def v_c_asked : List Cond := .code yX7_asked cX7_asked 5 (some .int) :: ([.fieldLink RX7 35 "HushWatch" "now" "LHushWatch$State;", .methodLink RX7 220 yX5_refusal, .instanceMethod yX5_refusal, .selects RX5 yX5_refusal yX5_refusal, .initialized RX5] ++ (wsX70 ++ (v_c_refusal ++ ([]))))
theorem gw_c_asked : v_c_asked.all goodWord = true := by decide +kernel
theorem i_c_asked_X7 : ∀ w ∈ wsX70, w ∈ v_c_asked := fun _ h => List.mem_cons_of_mem _ (List.mem_append_right _ (List.mem_append_left _ h))
theorem g_c_asked_c_refusal_220 : GoodIn v_c_asked (wsV RX7 220 RX5 yX5_refusal v_c_refusal) := goodIn_app (goodIn_of _ (by decide +kernel)) (goodIn_sub (fun _ h => List.mem_cons_of_mem _ (List.mem_append_right _ (List.mem_append_right _ (List.mem_append_left _ h)))) gw_c_refusal)
set_option maxHeartbeats 4000000 in
set_option maxRecDepth 100000 in
theorem c_asked (l : Launch) (E : EE) (x t rd sc n tr kp bk kb hi dr rf : Nat) (n1 n2 n3 n4 : Nat) (p0 p1 p2 p3 : Int32) : Met l yX7_asked v_c_asked ({ frames := 2, cells := 0, slots := 0, locals := 44 }) (va_Pc [.ref x, .int p0, .int p1, .int p2, .int p3] (pP E [(x, .inr (8, [.ref t, .ref rd, .ref sc, .ref n, .ref tr, .ref kp, .ref bk, .ref kb, .ref hi, .ref dr, .ref rf, .int 0])), (n, .inr (6, [.ref n1, .ref n2, .int 0, .int 0, .ref n3, .ref n4])), (n1, .inl (E.2.1, 81, .inl (fun _ => 0)))])) (vp_Si (fun r => r = -1)) 0 0 (fun _ => False) := by
  refine Met.ofW (cc := cX7_asked) (maxL := 5) (ret := (some .int)) (by decide) rfl ?_
  intro p e s m args below meth c s₁ B hml hv
  obtain ⟨rfl, ⟨hK, hN⟩, hP⟩ := hv
  have hx := B.exec
  have hb := B.bytes
  have hr := B.returns
  have hts := atoms_spec (ws := v_c_asked) B.pre
  have hown : s.vm.findClass RX7 = some m.cls := findClass_of_methodNamed B.named
  have hlocks := B.notSynchronized
  have hP : va_P E.1 vwCl [(x, .inr (8, [.ref t, .ref rd, .ref sc, .ref n, .ref tr, .ref kp, .ref bk, .ref kb, .ref hi, .ref dr, .ref rf, .int 0])), (n, .inr (6, [.ref n1, .ref n2, .int 0, .int 0, .ref n3, .ref n4])), (n1, .inl (E.2.1, 81, .inl (fun _ => 0)))] s.heap := hP
  have hl := lv_entry ([.ref x, .int p0, .int p1, .int p2, .int p3]) (n := 5) (Nat.le_of_ble_eq_true rfl)
  rw [lg_entry_eq]
  generalize (lg_sl ([.ref x, .int p0, .int p1, .int p2, .int p3]) ++ List.replicate (5 - (lg_sl ([.ref x, .int p0, .int p1, .int p2, .int p3])).length) Slot.unset).toArray = ls at hl ⊢
  have hl : lv_has ls 5 [(0, .ref x), (1, .int p0), (2, .int p1), (3, .int p2), (4, .int p3)] := hl
  refine lv_aload_n hx hb dX7_asked_0 rfl (lv_at hl 0 rfl) ?_
  refine va_get (D := E.1) (ci := 8) (v := .ref n) (C := RX7) (T := TX7) (N := 12) hx hb hts i_c_asked_X7 hown hK hP 0 rfl rfl 3 (by decide) (hts (.fieldLink RX7 35 "HushWatch" "now" "LHushWatch$State;") (List.mem_of_getElem? (i := 1) rfl)) (fun _ h9 => h9) rfl dX7_asked_1 ?_
  refine lv_iconst (v := 0) hx hb dX7_asked_4 (by decide) ?_
  refine lv_iload_n hx hb dX7_asked_5 rfl (lv_at hl 1 rfl) ?_
  refine lv_iload_n hx hb dX7_asked_6 rfl (lv_at hl 2 rfl) ?_
  refine lv_iload_n hx hb dX7_asked_7 rfl (lv_at hl 3 rfl) ?_
  have hPc := hP.sub (ws' := [(n, .inr (6, [.ref n1, .ref n2, .int 0, .int 0, .ref n3, .ref n4])), (n1, .inl (E.2.1, 81, .inl (fun _ => 0)))]) [1, 2] rfl
  refine pc_i (va_runV (As := [.int 0, .int p0, .int p1, .int p2]) (rest := []) ⟨hx, hb, hml, hown, hts⟩ (c_refusal l E n n1 n2 n3 n4 0 p0 p1 p2) (cwV 4 hts g_c_asked_c_refusal_220 rfl rfl rfl (by decide +kernel) ⟨Nat.le_of_ble_eq_true rfl, Nat.le_of_ble_eq_true rfl⟩) ⟨pP.blind, va_recv hK hPc (ci := 6) (q0 := 0) rfl rfl, (pP.pre ⟨hK, hN⟩ hPc)⟩ rfl rfl hl.1 rfl (lv_room (Nat.le_of_ble_eq_true rfl)) dX7_asked_8 ⟨Nat.le_of_ble_eq_true rfl, Nat.le_of_ble_eq_true rfl⟩) (fun r_1 hr_1 => ?_)
  obtain rfl : r_1 = 0 := hr_1
  refine lv_iconst (v := -1) hx hb dX7_asked_11 (by decide) ?_
  refine lv_icmp_eq (tgt := 17) hx hb dX7_asked_12 (by decide) (fun q => absurd q (by decide)) (fun _ => ?_)
  refine lv_iconst (v := -1) hx hb dX7_asked_15 (by decide) ?_
  exact W.iret (v := -1) hx hb hr (fun tt ht hW => ⟨_, rfl, rfl, ht⟩) (fun _ h => by cases h) dX7_asked_16

def v_c_goes : List Cond := .code yX7_goes cX7_goes 3 (some .int) :: ([.fieldLink RX7 35 "HushWatch" "now" "LHushWatch$State;", .methodLink RX7 120 yX5_hasSite, .instanceMethod yX5_hasSite, .selects RX5 yX5_hasSite yX5_hasSite, .initialized RX5] ++ (wsX70 ++ (v_c_hasSite ++ ([]))))
theorem gw_c_goes : v_c_goes.all goodWord = true := by decide +kernel
theorem i_c_goes_X7 : ∀ w ∈ wsX70, w ∈ v_c_goes := fun _ h => List.mem_cons_of_mem _ (List.mem_append_right _ (List.mem_append_left _ h))
theorem g_c_goes_c_hasSite_120 : GoodIn v_c_goes (wsV RX7 120 RX5 yX5_hasSite v_c_hasSite) := goodIn_app (goodIn_of _ (by decide +kernel)) (goodIn_sub (fun _ h => List.mem_cons_of_mem _ (List.mem_append_right _ (List.mem_append_right _ (List.mem_append_left _ h)))) gw_c_hasSite)
set_option maxHeartbeats 4000000 in
set_option maxRecDepth 100000 in
theorem c_goes (l : Launch) (E : EE) (x t rd sc n tr kp bk kb hi dr rf : Nat) (n1 n2 n3 n4 : Nat) (p0 p1 : Int32) : Met l yX7_goes v_c_goes ({ frames := 1, cells := 0, slots := 0, locals := 21 }) (va_Pc [.ref x, .int p0, .int p1] (pP E [(x, .inr (8, [.ref t, .ref rd, .ref sc, .ref n, .ref tr, .ref kp, .ref bk, .ref kb, .ref hi, .ref dr, .ref rf, .int 0])), (n, .inr (6, [.ref n1, .ref n2, .int 0, .int 0, .ref n3, .ref n4])), (n1, .inl (E.2.1, 81, .inl (fun _ => 0)))])) (vp_Si (fun r => r = -1)) 0 0 (fun _ => False) := by
  refine Met.ofW (cc := cX7_goes) (maxL := 3) (ret := (some .int)) (by decide) rfl ?_
  intro p e s m args below meth c s₁ B hml hv
  obtain ⟨rfl, ⟨hK, hN⟩, hP⟩ := hv
  have hx := B.exec
  have hb := B.bytes
  have hr := B.returns
  have hts := atoms_spec (ws := v_c_goes) B.pre
  have hown : s.vm.findClass RX7 = some m.cls := findClass_of_methodNamed B.named
  have hlocks := B.notSynchronized
  have hP : va_P E.1 vwCl [(x, .inr (8, [.ref t, .ref rd, .ref sc, .ref n, .ref tr, .ref kp, .ref bk, .ref kb, .ref hi, .ref dr, .ref rf, .int 0])), (n, .inr (6, [.ref n1, .ref n2, .int 0, .int 0, .ref n3, .ref n4])), (n1, .inl (E.2.1, 81, .inl (fun _ => 0)))] s.heap := hP
  have hl := lv_entry ([.ref x, .int p0, .int p1]) (n := 3) (Nat.le_of_ble_eq_true rfl)
  rw [lg_entry_eq]
  generalize (lg_sl ([.ref x, .int p0, .int p1]) ++ List.replicate (3 - (lg_sl ([.ref x, .int p0, .int p1])).length) Slot.unset).toArray = ls at hl ⊢
  have hl : lv_has ls 3 [(0, .ref x), (1, .int p0), (2, .int p1)] := hl
  refine lv_aload_n hx hb dX7_goes_0 rfl (lv_at hl 0 rfl) ?_
  refine va_get (D := E.1) (ci := 8) (v := .ref n) (C := RX7) (T := TX7) (N := 12) hx hb hts i_c_goes_X7 hown hK hP 0 rfl rfl 3 (by decide) (hts (.fieldLink RX7 35 "HushWatch" "now" "LHushWatch$State;") (List.mem_of_getElem? (i := 1) rfl)) (fun _ h9 => h9) rfl dX7_goes_1 ?_
  refine lv_iload_n hx hb dX7_goes_4 rfl (lv_at hl 1 rfl) ?_
  have hPc := hP.sub (ws' := [(n, .inr (6, [.ref n1, .ref n2, .int 0, .int 0, .ref n3, .ref n4])), (n1, .inl (E.2.1, 81, .inl (fun _ => 0)))]) [1, 2] rfl
  refine pc_i (va_runV (As := [.int p0]) (rest := []) ⟨hx, hb, hml, hown, hts⟩ (c_hasSite l E n n1 n2 n3 n4 p0) (cwV 1 hts g_c_goes_c_hasSite_120 rfl rfl rfl (by decide +kernel) ⟨Nat.le_of_ble_eq_true rfl, Nat.le_of_ble_eq_true rfl⟩) ⟨pP.blind, va_recv hK hPc (ci := 6) (q0 := 0) rfl rfl, (pP.pre ⟨hK, hN⟩ hPc)⟩ rfl rfl hl.1 rfl (lv_room (Nat.le_of_ble_eq_true rfl)) dX7_goes_5 ⟨Nat.le_of_ble_eq_true rfl, Nat.le_of_ble_eq_true rfl⟩) (fun r_1 hr_1 => ?_)
  obtain rfl : r_1 = 0 := hr_1
  refine lv_if_eq (tgt := 30) hx hb dX7_goes_8 (by decide) (fun _ => ?_) (fun q => absurd (by decide) q)
  refine lv_iconst (v := -1) hx hb dX7_goes_30 (by decide) ?_
  exact W.iret (v := -1) hx hb hr (fun tt ht hW => ⟨_, rfl, rfl, ht⟩) (fun _ h => by cases h) dX7_goes_31

def v_c_fair : List Cond := .code yX7_fair cX7_fair 5 (some .int) :: ([.fieldLink RX7 35 "HushWatch" "now" "LHushWatch$State;", .methodLink RX7 110 yX5_stands, .instanceMethod yX5_stands, .selects RX5 yX5_stands yX5_stands, .initialized RX5] ++ (wsX70 ++ (v_c_stands ++ ([]))))
theorem gw_c_fair : v_c_fair.all goodWord = true := by decide +kernel
theorem i_c_fair_X7 : ∀ w ∈ wsX70, w ∈ v_c_fair := fun _ h => List.mem_cons_of_mem _ (List.mem_append_right _ (List.mem_append_left _ h))
theorem g_c_fair_c_stands_110 : GoodIn v_c_fair (wsV RX7 110 RX5 yX5_stands v_c_stands) := goodIn_app (goodIn_of _ (by decide +kernel)) (goodIn_sub (fun _ h => List.mem_cons_of_mem _ (List.mem_append_right _ (List.mem_append_right _ (List.mem_append_left _ h)))) gw_c_stands)
set_option maxHeartbeats 4000000 in
set_option maxRecDepth 100000 in
theorem c_fair (l : Launch) (E : EE) (x t rd sc n tr kp bk kb hi dr rf : Nat) (n1 n2 n3 n4 : Nat) (p0 : Int32) : Met l yX7_fair v_c_fair ({ frames := 1, cells := 0, slots := 0, locals := 20 }) (va_Pc [.ref x, .int p0] (pP E [(x, .inr (8, [.ref t, .ref rd, .ref sc, .ref n, .ref tr, .ref kp, .ref bk, .ref kb, .ref hi, .ref dr, .ref rf, .int 0])), (n, .inr (6, [.ref n1, .ref n2, .int 0, .int 0, .ref n3, .ref n4])), (n1, .inl (E.2.1, 81, .inl (fun _ => 0)))])) (vp_Si (fun r => r = -1)) 0 0 (fun _ => False) := by
  refine Met.ofW (cc := cX7_fair) (maxL := 5) (ret := (some .int)) (by decide) rfl ?_
  intro p e s m args below meth c s₁ B hml hv
  obtain ⟨rfl, ⟨hK, hN⟩, hP⟩ := hv
  have hx := B.exec
  have hb := B.bytes
  have hr := B.returns
  have hts := atoms_spec (ws := v_c_fair) B.pre
  have hown : s.vm.findClass RX7 = some m.cls := findClass_of_methodNamed B.named
  have hlocks := B.notSynchronized
  have hP : va_P E.1 vwCl [(x, .inr (8, [.ref t, .ref rd, .ref sc, .ref n, .ref tr, .ref kp, .ref bk, .ref kb, .ref hi, .ref dr, .ref rf, .int 0])), (n, .inr (6, [.ref n1, .ref n2, .int 0, .int 0, .ref n3, .ref n4])), (n1, .inl (E.2.1, 81, .inl (fun _ => 0)))] s.heap := hP
  have hl := lv_entry ([.ref x, .int p0]) (n := 5) (Nat.le_of_ble_eq_true rfl)
  rw [lg_entry_eq]
  generalize (lg_sl ([.ref x, .int p0]) ++ List.replicate (5 - (lg_sl ([.ref x, .int p0])).length) Slot.unset).toArray = ls at hl ⊢
  have hl : lv_has ls 5 [(0, .ref x), (1, .int p0)] := hl
  refine lv_aload_n hx hb dX7_fair_0 rfl (lv_at hl 0 rfl) ?_
  refine va_get (D := E.1) (ci := 8) (v := .ref n) (C := RX7) (T := TX7) (N := 12) hx hb hts i_c_fair_X7 hown hK hP 0 rfl rfl 3 (by decide) (hts (.fieldLink RX7 35 "HushWatch" "now" "LHushWatch$State;") (List.mem_of_getElem? (i := 1) rfl)) (fun _ h9 => h9) rfl dX7_fair_1 ?_
  have hPc := hP.sub (ws' := [(n, .inr (6, [.ref n1, .ref n2, .int 0, .int 0, .ref n3, .ref n4])), (n1, .inl (E.2.1, 81, .inl (fun _ => 0)))]) [1, 2] rfl
  refine pc_i (va_runV (As := []) (rest := []) ⟨hx, hb, hml, hown, hts⟩ (c_stands l E n n1 n2 n3 n4) (cwV 0 hts g_c_fair_c_stands_110 rfl rfl rfl (by decide +kernel) ⟨Nat.le_of_ble_eq_true rfl, Nat.le_of_ble_eq_true rfl⟩) ⟨pP.blind, va_recv hK hPc (ci := 6) (q0 := 0) rfl rfl, (pP.pre ⟨hK, hN⟩ hPc)⟩ rfl rfl hl.1 rfl (lv_room (Nat.le_of_ble_eq_true rfl)) dX7_fair_4 ⟨Nat.le_of_ble_eq_true rfl, Nat.le_of_ble_eq_true rfl⟩) (fun r_1 hr_1 => ?_)
  obtain rfl : r_1 = 0 := hr_1
  refine lv_if_eq (tgt := 19) hx hb dX7_fair_7 (by decide) (fun _ => ?_) (fun q => absurd (by decide) q)
  refine lv_iconst (v := -1) hx hb dX7_fair_19 (by decide) ?_
  exact W.iret (v := -1) hx hb hr (fun tt ht hW => ⟨_, rfl, rfl, ht⟩) (fun _ h => by cases h) dX7_fair_20

def v_c_image : List Cond := .code yX7_image cX7_image 1 (some .int) :: ([.fieldLink RX7 35 "HushWatch" "now" "LHushWatch$State;", .methodLink RX7 110 yX5_stands, .instanceMethod yX5_stands, .selects RX5 yX5_stands yX5_stands, .initialized RX5] ++ (wsX70 ++ (v_c_stands ++ ([]))))
theorem gw_c_image : v_c_image.all goodWord = true := by decide +kernel
theorem i_c_image_X7 : ∀ w ∈ wsX70, w ∈ v_c_image := fun _ h => List.mem_cons_of_mem _ (List.mem_append_right _ (List.mem_append_left _ h))
theorem g_c_image_c_stands_110 : GoodIn v_c_image (wsV RX7 110 RX5 yX5_stands v_c_stands) := goodIn_app (goodIn_of _ (by decide +kernel)) (goodIn_sub (fun _ h => List.mem_cons_of_mem _ (List.mem_append_right _ (List.mem_append_right _ (List.mem_append_left _ h)))) gw_c_stands)
set_option maxHeartbeats 4000000 in
set_option maxRecDepth 100000 in
theorem c_image (l : Launch) (E : EE) (x t rd sc n tr kp bk kb hi dr rf : Nat) (n1 n2 n3 n4 : Nat) : Met l yX7_image v_c_image ({ frames := 1, cells := 0, slots := 0, locals := 20 }) (va_Pc [.ref x] (pP E [(x, .inr (8, [.ref t, .ref rd, .ref sc, .ref n, .ref tr, .ref kp, .ref bk, .ref kb, .ref hi, .ref dr, .ref rf, .int 0])), (n, .inr (6, [.ref n1, .ref n2, .int 0, .int 0, .ref n3, .ref n4])), (n1, .inl (E.2.1, 81, .inl (fun _ => 0)))])) (vp_Si (fun r => r = -1)) 0 0 (fun _ => False) := by
  refine Met.ofW (cc := cX7_image) (maxL := 1) (ret := (some .int)) (by decide) rfl ?_
  intro p e s m args below meth c s₁ B hml hv
  obtain ⟨rfl, ⟨hK, hN⟩, hP⟩ := hv
  have hx := B.exec
  have hb := B.bytes
  have hr := B.returns
  have hts := atoms_spec (ws := v_c_image) B.pre
  have hown : s.vm.findClass RX7 = some m.cls := findClass_of_methodNamed B.named
  have hlocks := B.notSynchronized
  have hP : va_P E.1 vwCl [(x, .inr (8, [.ref t, .ref rd, .ref sc, .ref n, .ref tr, .ref kp, .ref bk, .ref kb, .ref hi, .ref dr, .ref rf, .int 0])), (n, .inr (6, [.ref n1, .ref n2, .int 0, .int 0, .ref n3, .ref n4])), (n1, .inl (E.2.1, 81, .inl (fun _ => 0)))] s.heap := hP
  have hl := lv_entry ([.ref x]) (n := 1) (Nat.le_of_ble_eq_true rfl)
  rw [lg_entry_eq]
  generalize (lg_sl ([.ref x]) ++ List.replicate (1 - (lg_sl ([.ref x])).length) Slot.unset).toArray = ls at hl ⊢
  have hl : lv_has ls 1 [(0, .ref x)] := hl
  refine lv_aload_n hx hb dX7_image_0 rfl (lv_at hl 0 rfl) ?_
  refine va_get (D := E.1) (ci := 8) (v := .ref n) (C := RX7) (T := TX7) (N := 12) hx hb hts i_c_image_X7 hown hK hP 0 rfl rfl 3 (by decide) (hts (.fieldLink RX7 35 "HushWatch" "now" "LHushWatch$State;") (List.mem_of_getElem? (i := 1) rfl)) (fun _ h9 => h9) rfl dX7_image_1 ?_
  have hPc := hP.sub (ws' := [(n, .inr (6, [.ref n1, .ref n2, .int 0, .int 0, .ref n3, .ref n4])), (n1, .inl (E.2.1, 81, .inl (fun _ => 0)))]) [1, 2] rfl
  refine pc_i (va_runV (As := []) (rest := []) ⟨hx, hb, hml, hown, hts⟩ (c_stands l E n n1 n2 n3 n4) (cwV 0 hts g_c_image_c_stands_110 rfl rfl rfl (by decide +kernel) ⟨Nat.le_of_ble_eq_true rfl, Nat.le_of_ble_eq_true rfl⟩) ⟨pP.blind, va_recv hK hPc (ci := 6) (q0 := 0) rfl rfl, (pP.pre ⟨hK, hN⟩ hPc)⟩ rfl rfl hl.1 rfl (lv_room (Nat.le_of_ble_eq_true rfl)) dX7_image_4 ⟨Nat.le_of_ble_eq_true rfl, Nat.le_of_ble_eq_true rfl⟩) (fun r_1 hr_1 => ?_)
  obtain rfl : r_1 = 0 := hr_1
  refine lv_if_ne (tgt := 12) hx hb dX7_image_7 (by decide) (fun q => absurd (by decide) q) (fun _ => ?_)
  refine lv_iconst (v := -1) hx hb dX7_image_10 (by decide) ?_
  exact W.iret (v := -1) hx hb hr (fun tt ht hW => ⟨_, rfl, rfl, ht⟩) (fun _ h => by cases h) dX7_image_11

def v_c_back : List Cond := .code yX7_back cX7_back 1 (some .int) :: ([.fieldLink RX7 73 "HushWatch" "hasImage" "Z"] ++ (wsX70 ++ ([])))
theorem gw_c_back : v_c_back.all goodWord = true := by decide +kernel
theorem i_c_back_X7 : ∀ w ∈ wsX70, w ∈ v_c_back := fun _ h => List.mem_cons_of_mem _ (List.mem_append_right _ (List.mem_append_left _ h))
set_option maxHeartbeats 4000000 in
set_option maxRecDepth 100000 in
theorem c_back (l : Launch) (E : EE) (x t rd sc n tr kp bk kb hi dr rf : Nat) : Met l yX7_back v_c_back ({ frames := 0, cells := 0, slots := 0, locals := 0 }) (va_Pc [.ref x] (pP E [(x, .inr (8, [.ref t, .ref rd, .ref sc, .ref n, .ref tr, .ref kp, .ref bk, .ref kb, .ref hi, .ref dr, .ref rf, .int 0]))])) (vp_Si (fun r => r = -1)) 0 0 (fun _ => False) := by
  refine Met.ofW (cc := cX7_back) (maxL := 1) (ret := (some .int)) (by decide) rfl ?_
  intro p e s m args below meth c s₁ B hml hv
  obtain ⟨rfl, ⟨hK, hN⟩, hP⟩ := hv
  have hx := B.exec
  have hb := B.bytes
  have hr := B.returns
  have hts := atoms_spec (ws := v_c_back) B.pre
  have hown : s.vm.findClass RX7 = some m.cls := findClass_of_methodNamed B.named
  have hlocks := B.notSynchronized
  have hP : va_P E.1 vwCl [(x, .inr (8, [.ref t, .ref rd, .ref sc, .ref n, .ref tr, .ref kp, .ref bk, .ref kb, .ref hi, .ref dr, .ref rf, .int 0]))] s.heap := hP
  have hl := lv_entry ([.ref x]) (n := 1) (Nat.le_of_ble_eq_true rfl)
  rw [lg_entry_eq]
  generalize (lg_sl ([.ref x]) ++ List.replicate (1 - (lg_sl ([.ref x])).length) Slot.unset).toArray = ls at hl ⊢
  have hl : lv_has ls 1 [(0, .ref x)] := hl
  refine lv_aload_n hx hb dX7_back_0 rfl (lv_at hl 0 rfl) ?_
  refine va_get (D := E.1) (ci := 8) (v := .int 0) (C := RX7) (T := TX7) (N := 12) hx hb hts i_c_back_X7 hown hK hP 0 rfl rfl 11 (by decide) (hts (.fieldLink RX7 73 "HushWatch" "hasImage" "Z") (List.mem_of_getElem? (i := 1) rfl)) (fun _ h9 => h9) rfl dX7_back_1 ?_
  refine lv_if_ne (tgt := 9) hx hb dX7_back_4 (by decide) (fun q => absurd (by decide) q) (fun _ => ?_)
  refine lv_iconst (v := -1) hx hb dX7_back_7 (by decide) ?_
  exact W.iret (v := -1) hx hb hr (fun tt ht hW => ⟨_, rfl, rfl, ht⟩) (fun _ h => by cases h) dX7_back_8

def v_c_held : List Cond := .code yX7_held cX7_held 2 (some .int) :: ([.fieldLink RX7 35 "HushWatch" "now" "LHushWatch$State;", .fieldLink RX7 28 "HushWatch" "scripts" "LHushWatch$Scripts;", .fieldLink RX7 10 "HushWatch" "tape" "LHushWatch$Tape;", .fieldLink RX7 58 "HushWatch" "history" "LHushWatch$History;", .constant RX7 113 (-100000000), .methodLink RX7 117 yX5_sites, .instanceMethod yX5_sites, .selects RX5 yX5_sites yX5_sites, .initialized RX5, .methodLink RX7 204 yX7_loggedActs, .instanceMethod yX7_loggedActs, .selects RX7 yX7_loggedActs yX7_loggedActs, .initialized RX7] ++ (wsX70 ++ (v_c_sites ++ (wsX40 ++ (wsX60 ++ (v_c_loggedActs ++ (wsX20 ++ ([]))))))))
theorem gw_c_held : v_c_held.all goodWord = true := by decide +kernel
theorem i_c_held_X7 : ∀ w ∈ wsX70, w ∈ v_c_held := fun _ h => List.mem_cons_of_mem _ (List.mem_append_right _ (List.mem_append_left _ h))
theorem i_c_held_X4 : ∀ w ∈ wsX40, w ∈ v_c_held := fun _ h => List.mem_cons_of_mem _ (List.mem_append_right _ (List.mem_append_right _ (List.mem_append_right _ (List.mem_append_left _ h))))
theorem i_c_held_X6 : ∀ w ∈ wsX60, w ∈ v_c_held := fun _ h => List.mem_cons_of_mem _ (List.mem_append_right _ (List.mem_append_right _ (List.mem_append_right _ (List.mem_append_right _ (List.mem_append_left _ h)))))
theorem i_c_held_X2 : ∀ w ∈ wsX20, w ∈ v_c_held := fun _ h => List.mem_cons_of_mem _ (List.mem_append_right _ (List.mem_append_right _ (List.mem_append_right _ (List.mem_append_right _ (List.mem_append_right _ (List.mem_append_right _ (List.mem_append_left _ h)))))))
theorem g_c_held_c_sites_117 : GoodIn v_c_held (wsV RX7 117 RX5 yX5_sites v_c_sites) := goodIn_app (goodIn_of _ (by decide +kernel)) (goodIn_sub (fun _ h => List.mem_cons_of_mem _ (List.mem_append_right _ (List.mem_append_right _ (List.mem_append_left _ h)))) gw_c_sites)
theorem g_c_held_c_loggedActs_204 : GoodIn v_c_held (wsV RX7 204 RX7 yX7_loggedActs v_c_loggedActs) := goodIn_app (goodIn_of _ (by decide +kernel)) (goodIn_sub (fun _ h => List.mem_cons_of_mem _ (List.mem_append_right _ (List.mem_append_right _ (List.mem_append_right _ (List.mem_append_right _ (List.mem_append_right _ (List.mem_append_left _ h))))))) gw_c_loggedActs)
set_option maxHeartbeats 4000000 in
set_option maxRecDepth 100000 in
theorem c_held (l : Launch) (E : EE) (x t rd sc n tr kp bk kb hi dr rf : Nat) (n1 n2 n3 n4 : Nat) (s1 s2 : Nat) (v1 : Nat) (b1 : Nat) (p0 : Int32) : Met l yX7_held v_c_held ({ frames := 2, cells := 0, slots := 0, locals := 41 }) (va_Pc [.ref x, .int p0] (pP E [(x, .inr (8, [.ref t, .ref rd, .ref sc, .ref n, .ref tr, .ref kp, .ref bk, .ref kb, .ref hi, .ref dr, .ref rf, .int 0])), (n, .inr (6, [.ref n1, .ref n2, .int 0, .int 0, .ref n3, .ref n4])), (n1, .inl (E.2.1, 81, .inl (fun _ => 0))), (sc, .inr (5, [.ref s1, .ref s2, .int 0])), (hi, .inr (3, [.ref v1, .int 0, .int 0])), (t, .inr (7, [.ref b1, .int 0]))])) (vp_Si (fun r => r = heldv p0)) 0 0 (fun _ => False) := by
  refine Met.ofW (cc := cX7_held) (maxL := 2) (ret := (some .int)) (by decide) rfl ?_
  intro p e s m args below meth c s₁ B hml hv
  obtain ⟨rfl, ⟨hK, hN⟩, hP⟩ := hv
  have hx := B.exec
  have hb := B.bytes
  have hr := B.returns
  have hts := atoms_spec (ws := v_c_held) B.pre
  have hown : s.vm.findClass RX7 = some m.cls := findClass_of_methodNamed B.named
  have hlocks := B.notSynchronized
  have hP : va_P E.1 vwCl [(x, .inr (8, [.ref t, .ref rd, .ref sc, .ref n, .ref tr, .ref kp, .ref bk, .ref kb, .ref hi, .ref dr, .ref rf, .int 0])), (n, .inr (6, [.ref n1, .ref n2, .int 0, .int 0, .ref n3, .ref n4])), (n1, .inl (E.2.1, 81, .inl (fun _ => 0))), (sc, .inr (5, [.ref s1, .ref s2, .int 0])), (hi, .inr (3, [.ref v1, .int 0, .int 0])), (t, .inr (7, [.ref b1, .int 0]))] s.heap := hP
  have hl := lv_entry ([.ref x, .int p0]) (n := 2) (Nat.le_of_ble_eq_true rfl)
  rw [lg_entry_eq]
  generalize (lg_sl ([.ref x, .int p0]) ++ List.replicate (2 - (lg_sl ([.ref x, .int p0])).length) Slot.unset).toArray = ls at hl ⊢
  have hl : lv_has ls 2 [(0, .ref x), (1, .int p0)] := hl
  refine lv_iload_n hx hb dX7_held_0 rfl (lv_at hl 1 rfl) ?_
  rcases Classical.em (p0 = 0) with c_1_0 | c_1_0
  ·
    refine lv_tableIn (off := 35) (tgt := 36) hx hb dX7_held_1 (by rw [c_1_0]; decide) (by rw [c_1_0]; decide) (by rw [c_1_0]; decide) (by decide) ?_
    refine lv_aload_n hx hb dX7_held_36 rfl (lv_at hl 0 rfl) ?_
    refine va_get (D := E.1) (ci := 8) (v := .ref n) (C := RX7) (T := TX7) (N := 12) hx hb hts i_c_held_X7 hown hK hP 0 rfl rfl 3 (by decide) (hts (.fieldLink RX7 35 "HushWatch" "now" "LHushWatch$State;") (List.mem_of_getElem? (i := 1) rfl)) (fun _ h9 => h9) rfl dX7_held_37 ?_
    have hPc := hP.sub (ws' := [(n, .inr (6, [.ref n1, .ref n2, .int 0, .int 0, .ref n3, .ref n4])), (n1, .inl (E.2.1, 81, .inl (fun _ => 0)))]) [1, 2] rfl
    refine pc_i (va_runV (As := []) (rest := []) ⟨hx, hb, hml, hown, hts⟩ (c_sites l E n n1 n2 n3 n4) (cwV 0 hts g_c_held_c_sites_117 rfl rfl rfl (by decide +kernel) ⟨Nat.le_of_ble_eq_true rfl, Nat.le_of_ble_eq_true rfl⟩) ⟨pP.blind, va_recv hK hPc (ci := 6) (q0 := 0) rfl rfl, (pP.pre ⟨hK, hN⟩ hPc)⟩ rfl rfl hl.1 rfl (lv_room (Nat.le_of_ble_eq_true rfl)) dX7_held_40 ⟨Nat.le_of_ble_eq_true rfl, Nat.le_of_ble_eq_true rfl⟩) (fun r_2 hr_2 => ?_)
    obtain rfl : r_2 = 0 := hr_2
    exact W.iret (v := 0) hx hb hr (fun tt ht hW => ⟨_, rfl, (by have t0 : (0 : Int32).toInt = 0 := (by decide); simp only [Int32.lt_iff_toInt_lt, Int32.le_iff_toInt_le, ge_iff_le, gt_iff_lt, ne_eq, ← Int32.toInt_inj, t0] at c_1_0; unfold heldv; rw [if_pos (by omega)]), ht⟩) (fun _ h => by cases h) dX7_held_43
  rcases Classical.em (p0 = 1) with c_1_1 | c_1_1
  ·
    refine lv_tableIn (off := 43) (tgt := 44) hx hb dX7_held_1 (by rw [c_1_1]; decide) (by rw [c_1_1]; decide) (by rw [c_1_1]; decide) (by decide) ?_
    refine lv_aload_n hx hb dX7_held_44 rfl (lv_at hl 0 rfl) ?_
    refine va_get (D := E.1) (ci := 8) (v := .ref sc) (C := RX7) (T := TX7) (N := 12) hx hb hts i_c_held_X7 hown hK hP 0 rfl rfl 2 (by decide) (hts (.fieldLink RX7 28 "HushWatch" "scripts" "LHushWatch$Scripts;") (List.mem_of_getElem? (i := 2) rfl)) (fun _ h9 => h9) rfl dX7_held_45 ?_
    refine va_getN (D := E.1) (ci := 5) (v := .int 0) (C := RX4) (T := TX4) (N := 3) hx hb hts i_c_held_X4 hown hK hP 3 rfl rfl 2 (by decide) (nx hN 9 rfl) (fun _ h9 => h9) rfl dX7_held_48 ?_
    exact W.iret (v := 0) hx hb hr (fun tt ht hW => ⟨_, rfl, (by have t0 : (1 : Int32).toInt = 1 := (by decide); simp only [Int32.lt_iff_toInt_lt, Int32.le_iff_toInt_le, ge_iff_le, gt_iff_lt, ne_eq, ← Int32.toInt_inj, t0] at c_1_1; unfold heldv; rw [if_pos (by omega)]), ht⟩) (fun _ h => by cases h) dX7_held_51
  rcases Classical.em (p0 = 2) with c_1_2 | c_1_2
  ·
    refine lv_tableIn (off := 51) (tgt := 52) hx hb dX7_held_1 (by rw [c_1_2]; decide) (by rw [c_1_2]; decide) (by rw [c_1_2]; decide) (by decide) ?_
    refine lv_aload_n hx hb dX7_held_52 rfl (lv_at hl 0 rfl) ?_
    refine va_get (D := E.1) (ci := 8) (v := .ref t) (C := RX7) (T := TX7) (N := 12) hx hb hts i_c_held_X7 hown hK hP 0 rfl rfl 0 (by decide) (hts (.fieldLink RX7 10 "HushWatch" "tape" "LHushWatch$Tape;") (List.mem_of_getElem? (i := 3) rfl)) (fun _ h9 => h9) rfl dX7_held_53 ?_
    refine va_getN (D := E.1) (ci := 7) (v := .int 0) (C := RX6) (T := TX6) (N := 2) hx hb hts i_c_held_X6 hown hK hP 5 rfl rfl 1 (by decide) (nx hN 1 rfl) (fun _ h9 => h9) rfl dX7_held_56 ?_
    exact W.iret (v := 0) hx hb hr (fun tt ht hW => ⟨_, rfl, (by have t0 : (2 : Int32).toInt = 2 := (by decide); simp only [Int32.lt_iff_toInt_lt, Int32.le_iff_toInt_le, ge_iff_le, gt_iff_lt, ne_eq, ← Int32.toInt_inj, t0] at c_1_2; unfold heldv; rw [if_pos (by omega)]), ht⟩) (fun _ h => by cases h) dX7_held_59
  rcases Classical.em (p0 = 3) with c_1_3 | c_1_3
  ·
    refine lv_tableIn (off := 59) (tgt := 60) hx hb dX7_held_1 (by rw [c_1_3]; decide) (by rw [c_1_3]; decide) (by rw [c_1_3]; decide) (by decide) ?_
    refine lv_aload_n hx hb dX7_held_60 rfl (lv_at hl 0 rfl) ?_
    have hPc := hP.sub (ws' := [(x, .inr (8, [.ref t, .ref rd, .ref sc, .ref n, .ref tr, .ref kp, .ref bk, .ref kb, .ref hi, .ref dr, .ref rf, .int 0])), (n, .inr (6, [.ref n1, .ref n2, .int 0, .int 0, .ref n3, .ref n4])), (n1, .inl (E.2.1, 81, .inl (fun _ => 0)))]) [0, 1, 2] rfl
    refine pc_i (va_runV (As := []) (rest := []) ⟨hx, hb, hml, hown, hts⟩ (c_loggedActs l E x t rd sc n tr kp bk kb hi dr rf n1 n2 n3 n4) (cwV 0 hts g_c_held_c_loggedActs_204 rfl rfl rfl (by decide +kernel) ⟨Nat.le_of_ble_eq_true rfl, Nat.le_of_ble_eq_true rfl⟩) ⟨pP.blind, va_recv hK hPc (ci := 8) (q0 := 0) rfl rfl, (pP.pre ⟨hK, hN⟩ hPc)⟩ rfl rfl hl.1 rfl (lv_room (Nat.le_of_ble_eq_true rfl)) dX7_held_61 ⟨Nat.le_of_ble_eq_true rfl, Nat.le_of_ble_eq_true rfl⟩) (fun r_3 hr_3 => ?_)
    obtain rfl : r_3 = 0 := hr_3
    exact W.iret (v := 0) hx hb hr (fun tt ht hW => ⟨_, rfl, (by have t0 : (3 : Int32).toInt = 3 := (by decide); simp only [Int32.lt_iff_toInt_lt, Int32.le_iff_toInt_le, ge_iff_le, gt_iff_lt, ne_eq, ← Int32.toInt_inj, t0] at c_1_3; unfold heldv; rw [if_pos (by omega)]), ht⟩) (fun _ h => by cases h) dX7_held_64
  rcases Classical.em (p0 = 4) with c_1_4 | c_1_4
  ·
    refine lv_tableIn (off := 64) (tgt := 65) hx hb dX7_held_1 (by rw [c_1_4]; decide) (by rw [c_1_4]; decide) (by rw [c_1_4]; decide) (by decide) ?_
    refine lv_aload_n hx hb dX7_held_65 rfl (lv_at hl 0 rfl) ?_
    refine va_get (D := E.1) (ci := 8) (v := .ref hi) (C := RX7) (T := TX7) (N := 12) hx hb hts i_c_held_X7 hown hK hP 0 rfl rfl 8 (by decide) (hts (.fieldLink RX7 58 "HushWatch" "history" "LHushWatch$History;") (List.mem_of_getElem? (i := 4) rfl)) (fun _ h9 => h9) rfl dX7_held_66 ?_
    refine va_getN (D := E.1) (ci := 3) (v := .int 0) (C := RX2) (T := TX2) (N := 3) hx hb hts i_c_held_X2 hown hK hP 4 rfl rfl 2 (by decide) (nx hN 18 rfl) (fun _ h9 => h9) rfl dX7_held_69 ?_
    exact W.iret (v := 0) hx hb hr (fun tt ht hW => ⟨_, rfl, (by have t0 : (4 : Int32).toInt = 4 := (by decide); simp only [Int32.lt_iff_toInt_lt, Int32.le_iff_toInt_le, ge_iff_le, gt_iff_lt, ne_eq, ← Int32.toInt_inj, t0] at c_1_4; unfold heldv; rw [if_pos (by omega)]), ht⟩) (fun _ h => by cases h) dX7_held_72
  refine lv_tableOut (tgt := 73) hx hb dX7_held_1 (by have t0 : (0 : Int32).toInt = 0 := (by decide); have t1 : (1 : Int32).toInt = 1 := (by decide); have t2 : (2 : Int32).toInt = 2 := (by decide); have t3 : (3 : Int32).toInt = 3 := (by decide); have t4 : (4 : Int32).toInt = 4 := (by decide); simp only [← Int32.toInt_inj, t0, t1, t2, t3, t4] at c_1_0 c_1_1 c_1_2 c_1_3 c_1_4; omega) (by decide) ?_
  refine lv_ldc (v := -100000000) hx hb hown (hts (.constant RX7 113 (-100000000)) (List.mem_of_getElem? (i := 5) rfl)) dX7_held_73 ?_
  exact W.iret (v := -100000000) hx hb hr (fun tt ht hW => ⟨_, rfl, (by have t0 : (0 : Int32).toInt = 0 := (by decide); have t1 : (1 : Int32).toInt = 1 := (by decide); have t2 : (2 : Int32).toInt = 2 := (by decide); have t3 : (3 : Int32).toInt = 3 := (by decide); have t4 : (4 : Int32).toInt = 4 := (by decide); simp only [Int32.lt_iff_toInt_lt, Int32.le_iff_toInt_le, ge_iff_le, gt_iff_lt, ne_eq, ← Int32.toInt_inj, t0, t1, t2, t3, t4] at c_1_0 c_1_1 c_1_2 c_1_3 c_1_4; unfold heldv; rw [if_neg (by omega)]), ht⟩) (fun _ h => by cases h) dX7_held_75
