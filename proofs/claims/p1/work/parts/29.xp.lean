theorem dX7_canBeAsked_0 : decode cX7_canBeAsked 0 = .ok (.aload_n 0, 1) := by decide +kernel
theorem dX7_canBeAsked_1 : decode cX7_canBeAsked 1 = .ok (.getfield 35, 3) := by decide +kernel
theorem dX7_canBeAsked_4 : decode cX7_canBeAsked 4 = .ok (.invokevirtual 110, 3) := by decide +kernel
theorem dX7_canBeAsked_7 : decode cX7_canBeAsked 7 = .ok (.ifCond .eq 35, 3) := by decide +kernel
theorem dX7_canBeAsked_42 : decode cX7_canBeAsked 42 = .ok (.iconst 0, 1) := by decide +kernel
theorem dX7_canBeAsked_43 : decode cX7_canBeAsked 43 = .ok (.ireturn, 1) := by decide +kernel
theorem dX7_loggedActs_0 : decode cX7_loggedActs 0 = .ok (.aload_n 0, 1) := by decide +kernel
theorem dX7_loggedActs_1 : decode cX7_loggedActs 1 = .ok (.getfield 35, 3) := by decide +kernel
theorem dX7_loggedActs_4 : decode cX7_loggedActs 4 = .ok (.getfield 114, 3) := by decide +kernel
theorem dX7_loggedActs_7 : decode cX7_loggedActs 7 = .ok (.bipush 16, 2) := by decide +kernel
theorem dX7_loggedActs_9 : decode cX7_loggedActs 9 = .ok (.iaload, 1) := by decide +kernel
theorem dX7_loggedActs_10 : decode cX7_loggedActs 10 = .ok (.bipush 60, 2) := by decide +kernel
theorem dX7_loggedActs_12 : decode cX7_loggedActs 12 = .ok (.invokestatic 327, 3) := by decide +kernel
theorem dX7_loggedActs_15 : decode cX7_loggedActs 15 = .ok (.ireturn, 1) := by decide +kernel
def v_c_canBeAsked : List Cond := .code yX7_canBeAsked cX7_canBeAsked 3 (some .boolean) :: ([.fieldLink RX7 35 "HushWatch" "now" "LHushWatch$State;", .methodLink RX7 110 yX5_stands, .instanceMethod yX5_stands, .selects RX5 yX5_stands yX5_stands, .initialized RX5] ++ (wsX70 ++ (v_c_stands ++ ([]))))
theorem gw_c_canBeAsked : v_c_canBeAsked.all goodWord = true := by decide +kernel
theorem i_c_canBeAsked_X7 : ∀ w ∈ wsX70, w ∈ v_c_canBeAsked := fun _ h => List.mem_cons_of_mem _ (List.mem_append_right _ (List.mem_append_left _ h))
theorem g_c_canBeAsked_c_stands_110 : GoodIn v_c_canBeAsked (wsV RX7 110 RX5 yX5_stands v_c_stands) := goodIn_app (goodIn_of _ (by decide +kernel)) (goodIn_sub (fun _ h => List.mem_cons_of_mem _ (List.mem_append_right _ (List.mem_append_right _ (List.mem_append_left _ h)))) gw_c_stands)
set_option maxHeartbeats 4000000 in
set_option maxRecDepth 100000 in
theorem c_canBeAsked (l : Launch) (E : EE) (x t rd sc n tr kp bk kb hi dr rf : Nat) (n1 n2 n3 n4 : Nat) (p0 p1 : Int32) : Met l yX7_canBeAsked v_c_canBeAsked ({ frames := 1, cells := 0, slots := 0, locals := 20 }) (va_Pc [.ref x, .int p0, .int p1] (pP E [(x, .inr (8, [.ref t, .ref rd, .ref sc, .ref n, .ref tr, .ref kp, .ref bk, .ref kb, .ref hi, .ref dr, .ref rf, .int 0])), (n, .inr (6, [.ref n1, .ref n2, .int 0, .int 0, .ref n3, .ref n4])), (n1, .inl (E.2.1, 81, .inl (fun _ => 0)))])) (vp_Si (fun r => r = 0)) 0 0 (fun _ => False) := by
  refine Met.ofW (cc := cX7_canBeAsked) (maxL := 3) (ret := (some .boolean)) (by decide) rfl ?_
  intro p e s m args below meth c s₁ B hml hv
  obtain ⟨rfl, ⟨hK, hN⟩, hP⟩ := hv
  have hx := B.exec
  have hb := B.bytes
  have hr := B.returns
  have hts := atoms_spec (ws := v_c_canBeAsked) B.pre
  have hown : s.vm.findClass RX7 = some m.cls := findClass_of_methodNamed B.named
  have hlocks := B.notSynchronized
  have hP : va_P E.1 vwCl [(x, .inr (8, [.ref t, .ref rd, .ref sc, .ref n, .ref tr, .ref kp, .ref bk, .ref kb, .ref hi, .ref dr, .ref rf, .int 0])), (n, .inr (6, [.ref n1, .ref n2, .int 0, .int 0, .ref n3, .ref n4])), (n1, .inl (E.2.1, 81, .inl (fun _ => 0)))] s.heap := hP
  have hl := lv_entry ([.ref x, .int p0, .int p1]) (n := 3) (Nat.le_of_ble_eq_true rfl)
  rw [lg_entry_eq]
  generalize (lg_sl ([.ref x, .int p0, .int p1]) ++ List.replicate (3 - (lg_sl ([.ref x, .int p0, .int p1])).length) Slot.unset).toArray = ls at hl ⊢
  have hl : lv_has ls 3 [(0, .ref x), (1, .int p0), (2, .int p1)] := hl
  refine lv_aload_n hx hb dX7_canBeAsked_0 rfl (lv_at hl 0 rfl) ?_
  refine va_get (D := E.1) (ci := 8) (v := .ref n) (C := RX7) (T := TX7) (N := 12) hx hb hts i_c_canBeAsked_X7 hown hK hP 0 rfl rfl 3 (by decide) (hts (.fieldLink RX7 35 "HushWatch" "now" "LHushWatch$State;") (List.mem_of_getElem? (i := 1) rfl)) (fun _ h9 => h9) rfl dX7_canBeAsked_1 ?_
  have hPc := hP.sub (ws' := [(n, .inr (6, [.ref n1, .ref n2, .int 0, .int 0, .ref n3, .ref n4])), (n1, .inl (E.2.1, 81, .inl (fun _ => 0)))]) [1, 2] rfl
  refine pc_i (va_runV (As := []) (rest := []) ⟨hx, hb, hml, hown, hts⟩ (c_stands l E n n1 n2 n3 n4) (cwV 0 hts g_c_canBeAsked_c_stands_110 rfl rfl rfl (by decide +kernel) ⟨Nat.le_of_ble_eq_true rfl, Nat.le_of_ble_eq_true rfl⟩) ⟨pP.blind, va_recv hK hPc (ci := 6) (q0 := 0) rfl rfl, (pP.pre ⟨hK, hN⟩ hPc)⟩ rfl rfl hl.1 rfl (lv_room (Nat.le_of_ble_eq_true rfl)) dX7_canBeAsked_4 ⟨Nat.le_of_ble_eq_true rfl, Nat.le_of_ble_eq_true rfl⟩) (fun r_1 hr_1 => ?_)
  obtain rfl : r_1 = 0 := hr_1
  refine lv_if_eq (tgt := 42) hx hb dX7_canBeAsked_7 (by decide) (fun _ => ?_) (fun q => absurd (by decide) q)
  refine lv_iconst (v := 0) hx hb dX7_canBeAsked_42 (by decide) ?_
  exact W.zret (v := 0) hx hb hr rfl (fun tt ht hW => ⟨_, rfl, rfl, ht⟩) (fun _ h => by cases h) dX7_canBeAsked_43

def v_c_loggedActs : List Cond := .code yX7_loggedActs cX7_loggedActs 1 (some .int) :: ([.fieldLink RX7 35 "HushWatch" "now" "LHushWatch$State;", .methodLink RX7 327 Lib.Math.min.name, .static Lib.Math.min.name, .initialized "java/lang/Math", .code Lib.Math.min.name Lib.Math.min.code 2 (some .int)] ++ (wsX70 ++ (wsX50 ++ ([]))))
theorem gw_c_loggedActs : v_c_loggedActs.all goodWord = true := by decide +kernel
theorem i_c_loggedActs_X7 : ∀ w ∈ wsX70, w ∈ v_c_loggedActs := fun _ h => List.mem_cons_of_mem _ (List.mem_append_right _ (List.mem_append_left _ h))
theorem i_c_loggedActs_X5 : ∀ w ∈ wsX50, w ∈ v_c_loggedActs := fun _ h => List.mem_cons_of_mem _ (List.mem_append_right _ (List.mem_append_right _ (List.mem_append_left _ h)))
set_option maxHeartbeats 4000000 in
set_option maxRecDepth 100000 in
theorem c_loggedActs (l : Launch) (E : EE) (x t rd sc n tr kp bk kb hi dr rf : Nat) (n1 n2 n3 n4 : Nat) : Met l yX7_loggedActs v_c_loggedActs ({ frames := 1, cells := 0, slots := 0, locals := 21 }) (va_Pc [.ref x] (pP E [(x, .inr (8, [.ref t, .ref rd, .ref sc, .ref n, .ref tr, .ref kp, .ref bk, .ref kb, .ref hi, .ref dr, .ref rf, .int 0])), (n, .inr (6, [.ref n1, .ref n2, .int 0, .int 0, .ref n3, .ref n4])), (n1, .inl (E.2.1, 81, .inl (fun _ => 0)))])) (vp_Si (fun r => r = 0)) 0 0 (fun _ => False) := by
  refine Met.ofW (cc := cX7_loggedActs) (maxL := 1) (ret := (some .int)) (by decide) rfl ?_
  intro p e s m args below meth c s₁ B hml hv
  obtain ⟨rfl, ⟨hK, hN⟩, hP⟩ := hv
  have hx := B.exec
  have hb := B.bytes
  have hr := B.returns
  have hts := atoms_spec (ws := v_c_loggedActs) B.pre
  have hown : s.vm.findClass RX7 = some m.cls := findClass_of_methodNamed B.named
  have hlocks := B.notSynchronized
  have hP : va_P E.1 vwCl [(x, .inr (8, [.ref t, .ref rd, .ref sc, .ref n, .ref tr, .ref kp, .ref bk, .ref kb, .ref hi, .ref dr, .ref rf, .int 0])), (n, .inr (6, [.ref n1, .ref n2, .int 0, .int 0, .ref n3, .ref n4])), (n1, .inl (E.2.1, 81, .inl (fun _ => 0)))] s.heap := hP
  have hl := lv_entry ([.ref x]) (n := 1) (Nat.le_of_ble_eq_true rfl)
  rw [lg_entry_eq]
  generalize (lg_sl ([.ref x]) ++ List.replicate (1 - (lg_sl ([.ref x])).length) Slot.unset).toArray = ls at hl ⊢
  have hl : lv_has ls 1 [(0, .ref x)] := hl
  refine lv_aload_n hx hb dX7_loggedActs_0 rfl (lv_at hl 0 rfl) ?_
  refine va_get (D := E.1) (ci := 8) (v := .ref n) (C := RX7) (T := TX7) (N := 12) hx hb hts i_c_loggedActs_X7 hown hK hP 0 rfl rfl 3 (by decide) (hts (.fieldLink RX7 35 "HushWatch" "now" "LHushWatch$State;") (List.mem_of_getElem? (i := 1) rfl)) (fun _ h9 => h9) rfl dX7_loggedActs_1 ?_
  refine va_getN (D := E.1) (ci := 6) (v := .ref n1) (C := RX5) (T := TX5) (N := 6) hx hb hts i_c_loggedActs_X5 hown hK hP 1 rfl rfl 0 (by decide) (nx hN 12 rfl) (fun _ h9 => h9) rfl dX7_loggedActs_4 ?_
  refine lv_bipush (v := 16) hx hb dX7_loggedActs_7 (by decide) ?_
  refine va_iald hx hb hK hP 2 0 rfl rfl (vin rfl) dX7_loggedActs_9 ?_
  refine W.eq (g2 := F0 m 10 ls [.int 0]) rfl ?_
  refine lv_bipush (v := 60) hx hb dX7_loggedActs_10 (by decide) ?_
  refine va_mmin hx hb (hml.trans hl.1.symm) hown (hts (.methodLink RX7 327 Lib.Math.min.name) (List.mem_of_getElem? (i := 2) rfl)) (hts (.static Lib.Math.min.name) (List.mem_of_getElem? (i := 3) rfl)) (hts (.initialized "java/lang/Math") (List.mem_of_getElem? (i := 4) rfl)) (hts (.code Lib.Math.min.name Lib.Math.min.code 2 (some .int)) (List.mem_of_getElem? (i := 5) rfl)) (Nat.le_of_ble_eq_true rfl) (Nat.le_of_ble_eq_true rfl) (Nat.le_of_ble_eq_true rfl) (Nat.le_of_ble_eq_true rfl) dX7_loggedActs_12 ?_
  refine lv_topi (fun z_1 ez_1 => ?_)
  obtain rfl : z_1 = 0 := ez_1.trans (by decide)
  exact W.iret (v := 0) hx hb hr (fun tt ht hW => ⟨_, rfl, rfl, ht⟩) (fun _ h => by cases h) dX7_loggedActs_15
