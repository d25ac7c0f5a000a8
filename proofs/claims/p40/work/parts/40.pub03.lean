noncomputable def blX7_held_0 : List Nat := [27, 170, 0, 0, 0, 0, 0, 72, 0, 0, 0, 0, 0, 0, 0, 4, 0, 0, 0, 35, 0, 0, 0, 43, 0, 0, 0, 51, 0, 0, 0, 59, 0, 0, 0, 64, 42, 180, 0, 35, 182, 0, 117, 172, 42, 180, 0, 28, 180, 1, 61]
set_option maxRecDepth 100000 in
theorem bcX7_held_0 : ((cX7_held.data.toList.drop 0).take blX7_held_0.length).map UInt8.toNat = blX7_held_0 := by decide +kernel
noncomputable def blX7_held_1 : List Nat := [180, 1, 61, 172, 42, 180, 0, 10, 180, 0, 81, 172, 42, 182, 0, 204, 172, 42, 180, 0, 58, 180, 0, 201, 172, 18, 113, 172]
set_option maxRecDepth 100000 in
theorem bcX7_held_1 : ((cX7_held.data.toList.drop 48).take blX7_held_1.length).map UInt8.toNat = blX7_held_1 := by decide +kernel
noncomputable def blX7_image_0 : List Nat := [42, 180, 0, 35, 182, 0, 110, 154, 0, 5, 2, 172, 42, 180, 0, 42, 42, 180, 0, 35, 182, 0, 237, 42, 180, 0, 52, 42, 180, 0, 48, 182, 1, 55, 42, 4, 181, 0, 73, 42, 180, 0, 35, 180, 0, 114, 16, 11, 46, 172]
set_option maxRecDepth 100000 in
theorem bcX7_image_0 : ((cX7_image.data.toList.drop 0).take blX7_image_0.length).map UInt8.toNat = blX7_image_0 := by decide +kernel
noncomputable def blX7_image_1 : List Nat := [46, 172]
set_option maxRecDepth 100000 in
theorem bcX7_image_1 : ((cX7_image.data.toList.drop 48).take blX7_image_1.length).map UInt8.toNat = blX7_image_1 := by decide +kernel
noncomputable def blX7_isWay_0 : List Nat := [26, 27, 184, 1, 80, 153, 0, 15, 26, 154, 0, 7, 27, 153, 0, 7, 4, 167, 0, 4, 3, 172]
set_option maxRecDepth 100000 in
theorem bcX7_isWay_0 : ((cX7_isWay.data.toList.drop 0).take blX7_isWay_0.length).map UInt8.toNat = blX7_isWay_0 := by decide +kernel
noncomputable def blX7_keepScript_0 : List Nat := [42, 180, 0, 28, 42, 180, 0, 21, 182, 1, 66, 42, 180, 0, 10, 3, 182, 0, 89, 87, 42, 180, 0, 28, 180, 1, 61, 4, 100, 172]
set_option maxRecDepth 100000 in
theorem bcX7_keepScript_0 : ((cX7_keepScript.data.toList.drop 0).take blX7_keepScript_0.length).map UInt8.toNat = blX7_keepScript_0 := by decide +kernel
noncomputable def blX7_law_0 : List Nat := [42, 180, 0, 35, 180, 0, 114, 3, 46, 61, 42, 6, 27, 3, 3, 4, 182, 0, 163, 156, 0, 7, 2, 167, 0, 4, 28, 172]
set_option maxRecDepth 100000 in
theorem bcX7_law_0 : ((cX7_law.data.toList.drop 0).take blX7_law_0.length).map UInt8.toNat = blX7_law_0 := by decide +kernel
noncomputable def blX7_limit_0 : List Nat := [42, 180, 0, 35, 27, 182, 0, 120, 153, 0, 22, 28, 29, 184, 0, 210, 153, 0, 14, 42, 180, 0, 35, 27, 182, 0, 143, 153, 0, 5, 2, 172, 3, 54, 4, 4, 54, 5, 21, 5, 17, 0, 200, 163, 0, 54, 42, 180, 0, 35, 27]
set_option maxRecDepth 100000 in
theorem bcX7_limit_0 : ((cX7_limit.data.toList.drop 0).take blX7_limit_0.length).map UInt8.toNat = blX7_limit_0 := by decide +kernel
noncomputable def blX7_limit_1 : List Nat := [0, 35, 27, 21, 5, 28, 104, 21, 5, 29, 104, 182, 0, 213, 153, 0, 35, 42, 180, 0, 35, 27, 21, 5, 28, 104, 21, 5, 29, 104, 182, 0, 217, 154, 0, 6, 167, 0, 13, 21, 5, 54, 4, 132, 5, 1, 167, 255, 200, 21, 4]
set_option maxRecDepth 100000 in
theorem bcX7_limit_1 : ((cX7_limit.data.toList.drop 48).take blX7_limit_1.length).map UInt8.toNat = blX7_limit_1 := by decide +kernel
noncomputable def blX7_limit_2 : List Nat := [200, 21, 4, 172]
set_option maxRecDepth 100000 in
theorem bcX7_limit_2 : ((cX7_limit.data.toList.drop 96).take blX7_limit_2.length).map UInt8.toNat = blX7_limit_2 := by decide +kernel
noncomputable def blX7_log_0 : List Nat := [27, 155, 0, 20, 27, 42, 182, 0, 204, 162, 0, 12, 28, 155, 0, 8, 28, 6, 161, 0, 6, 18, 113, 172, 42, 180, 0, 48, 42, 180, 0, 35, 180, 0, 114, 16, 16, 46, 4, 100, 27, 100, 28, 182, 0, 207, 172]
set_option maxRecDepth 100000 in
theorem bcX7_log_0 : ((cX7_log.data.toList.drop 0).take blX7_log_0.length).map UInt8.toNat = blX7_log_0 := by decide +kernel
def dl_X7_held_40_pub03_0 : List (Nat × Instr × Nat) := [(1, .tableswitch 72 0 4 #[35, 43, 51, 59, 64], 35)]
set_option maxRecDepth 100000 in
theorem dall_X7_held_40_pub03_0 : dchk cX7_held dl_X7_held_40_pub03_0 = true := by decide +kernel
theorem dX7_held_1 : decode cX7_held 1 = .ok (.tableswitch 72 0 4 #[35, 43, 51, 59, 64], 35) := dchk_at dall_X7_held_40_pub03_0 (k := 0) rfl
def F_X7_held (p1 : Int32) (c_tape_length : Int32) (c_scripts_held : Int32) (c_now_row : Nat → Int32) (c_history_held : Int32) : Option (Int32) :=
  if p1 = (0 : Int32) then bd1 (F_X5_sites c_now_row) (fun r_2 => some r_2) else if p1 = (1 : Int32) then some c_scripts_held else if p1 = (2 : Int32) then some c_tape_length else if p1 = (3 : Int32) then bd1 (F_X7_loggedActs c_now_row) (fun r_4 => some r_4) else if p1 = (4 : Int32) then some c_history_held else some (-100000000 : Int32)
abbrev w_X7_held (E : EE) (a_ a_tape a_reader a_scripts a_now a_trial a_kept a_book a_keptBook a_history a_draws a_refused a_tape_bytes a_scripts_steps a_scripts_counts a_now_row a_now_partners a_now_share a_now_leftOver a_history_rows : Nat) (c_hasImage : Int32) (c_tape_length : Int32) (c_scripts_held : Int32) (c_now_askedCount : Int32) (c_now_outcome : Int32) (c_now_row : Nat → Int32) (c_history_next : Int32) (c_history_held : Int32) : va_W := [k_X7 a_ a_tape a_reader a_scripts a_now a_trial a_kept a_book a_keptBook a_history a_draws a_refused c_hasImage, k_X6 a_tape a_tape_bytes c_tape_length, k_X4 a_scripts a_scripts_steps a_scripts_counts c_scripts_held, k_X5 a_now a_now_row a_now_partners c_now_askedCount c_now_outcome a_now_share a_now_leftOver, k_I E a_now_row 81 c_now_row, k_X2 a_history a_history_rows c_history_next c_history_held]
def v_f_X7_held : List Cond := List.cons (.code yX7_held cX7_held 2 (some .int)) (HAppend.hAppend (α := List Cond) (β := List Cond) (γ := List Cond) [.fieldLink RX7 35 "HushWatch" "now" "LHushWatch$State;", .fieldLink RX7 28 "HushWatch" "scripts" "LHushWatch$Scripts;", .fieldLink RX7 10 "HushWatch" "tape" "LHushWatch$Tape;", .fieldLink RX7 58 "HushWatch" "history" "LHushWatch$History;", .constant RX7 113 (-100000000), .methodLink RX7 117 yX5_sites, .instanceMethod yX5_sites, .selects RX5 yX5_sites yX5_sites, .initialized RX5, .methodLink RX7 204 yX7_loggedActs, .instanceMethod yX7_loggedActs, .selects RX7 yX7_loggedActs yX7_loggedActs, .initialized RX7] (HAppend.hAppend (α := List Cond) (β := List Cond) (γ := List Cond) wsX70 (HAppend.hAppend (α := List Cond) (β := List Cond) (γ := List Cond) v_f_X5_sites (HAppend.hAppend (α := List Cond) (β := List Cond) (γ := List Cond) wsX40 (HAppend.hAppend (α := List Cond) (β := List Cond) (γ := List Cond) wsX60 (HAppend.hAppend (α := List Cond) (β := List Cond) (γ := List Cond) v_f_X7_loggedActs (HAppend.hAppend (α := List Cond) (β := List Cond) (γ := List Cond) wsX20 [])))))))
theorem gw_f_X7_held : v_f_X7_held.all goodWord = true := gw_c2 (by decide +kernel) (gw_ap gw_wsX70 (gw_ap gw_f_X5_sites (gw_ap gw_wsX40 (gw_ap gw_wsX60 (gw_ap gw_f_X7_loggedActs (gw_ap gw_wsX20 gw_nil))))))
theorem i_f_X7_held_X7 : ∀ w ∈ wsX70, w ∈ v_f_X7_held := fun _ h => List.mem_cons_of_mem _ (List.mem_append_right _ (List.mem_append_left _ h))
theorem i_f_X7_held_X4 : ∀ w ∈ wsX40, w ∈ v_f_X7_held := fun _ h => List.mem_cons_of_mem _ (List.mem_append_right _ (List.mem_append_right _ (List.mem_append_right _ (List.mem_append_left _ h))))
theorem i_f_X7_held_X6 : ∀ w ∈ wsX60, w ∈ v_f_X7_held := fun _ h => List.mem_cons_of_mem _ (List.mem_append_right _ (List.mem_append_right _ (List.mem_append_right _ (List.mem_append_right _ (List.mem_append_left _ h)))))
theorem i_f_X7_held_X2 : ∀ w ∈ wsX20, w ∈ v_f_X7_held := fun _ h => List.mem_cons_of_mem _ (List.mem_append_right _ (List.mem_append_right _ (List.mem_append_right _ (List.mem_append_right _ (List.mem_append_right _ (List.mem_append_right _ (List.mem_append_left _ h)))))))
theorem g_f_X7_held_f_X5_sites_117 : GoodIn v_f_X7_held (wsV RX7 117 RX5 yX5_sites v_f_X5_sites) := goodIn_in gw_f_X7_held (in4 6 7 8 9 rfl rfl rfl rfl (fun _ h => List.mem_cons_of_mem _ (List.mem_append_right _ (List.mem_append_right _ (List.mem_append_left _ h)))))
theorem g_f_X7_held_f_X7_loggedActs_204 : GoodIn v_f_X7_held (wsV RX7 204 RX7 yX7_loggedActs v_f_X7_loggedActs) := goodIn_in gw_f_X7_held (in4 10 11 12 13 rfl rfl rfl rfl (fun _ h => List.mem_cons_of_mem _ (List.mem_append_right _ (List.mem_append_right _ (List.mem_append_right _ (List.mem_append_right _ (List.mem_append_right _ (List.mem_append_left _ h))))))))
theorem hd_X7_held : yX7_held.cls = RX7 ∧ yX7_held.cls ≠ "java/lang/invoke/MethodHandle" ∧ yX7_held.cls ≠ "java/lang/invoke/VarHandle" ∧ (parseMethodDescriptor yX7_held.desc).map (fun d => d.parameters.length) = some 1 := by decide +kernel
set_option maxHeartbeats 4000000 in
set_option maxRecDepth 100000 in
theorem f_X7_held (l : Launch) (E : EE) {a_ a_tape a_reader a_scripts a_now a_trial a_kept a_book a_keptBook a_history a_draws a_refused a_tape_bytes a_scripts_steps a_scripts_counts a_now_row a_now_partners a_now_share a_now_leftOver a_history_rows : Nat} {p1 : Int32} {c_hasImage : Int32} {c_tape_length : Int32} {c_scripts_held : Int32} {c_now_askedCount : Int32} {c_now_outcome : Int32} {c_now_row : Nat → Int32} {c_history_next : Int32} {c_history_held : Int32} {rr : Int32} (hF : F_X7_held p1 c_tape_length c_scripts_held c_now_row c_history_held = some rr) : Met l yX7_held v_f_X7_held (({ frames := 2, cells := 0, slots := 0, locals := 41 } : Room)) (va_Pc [.ref a_, .int p1] (pP E (w_X7_held E a_ a_tape a_reader a_scripts a_now a_trial a_kept a_book a_keptBook a_history a_draws a_refused a_tape_bytes a_scripts_steps a_scripts_counts a_now_row a_now_partners a_now_share a_now_leftOver a_history_rows c_hasImage c_tape_length c_scripts_held c_now_askedCount c_now_outcome c_now_row c_history_next c_history_held))) (vp_Si (fun q : Int32 => q = rr)) 0 0 (fun _ => False) := by
  refine Met.ofW (cc := cX7_held) (maxL := 2) (ret := (some .int)) (by decide) rfl ?_
  intro p e s m args below meth c s₁ B hml hv
  obtain ⟨rfl, ⟨hK, hN⟩, hP⟩ := hv
  have hx := B.exec
  have hb := B.bytes
  have hr := B.returns
  have hts := atoms_spec (ws := v_f_X7_held) B.pre
  have hown : s.vm.findClass RX7 = some m.cls := own_of hd_X7_held.1 (findClass_of_methodNamed B.named)
  have hlocks : meth.locks = false := B.notSynchronized
  replace hP : va_P E.1 vwCl [k_X7 a_ a_tape a_reader a_scripts a_now a_trial a_kept a_book a_keptBook a_history a_draws a_refused c_hasImage, k_X6 a_tape a_tape_bytes c_tape_length, k_X4 a_scripts a_scripts_steps a_scripts_counts c_scripts_held, k_X5 a_now a_now_row a_now_partners c_now_askedCount c_now_outcome a_now_share a_now_leftOver, k_I E a_now_row 81 c_now_row, k_X2 a_history a_history_rows c_history_next c_history_held] s.heap := hP
  have hl := lv_entry ([.ref a_, .int p1]) (n := 2) (Nat.le_of_ble_eq_true rfl)
  rw [lg_entry_eq]
  generalize (lg_sl ([.ref a_, .int p1]) ++ List.replicate (2 - (lg_sl ([.ref a_, .int p1])).length) Slot.unset).toArray = ls at hl ⊢
  have hl : lv_has ls 2 [(0, .ref a_), (1, .int p1)] := hl
  obtain ⟨Q, hQ⟩ : ∃ Q : State → Prop, Q = MQ below (vp_Si (fun q : Int32 => q = rr)) #[Value.ref a_, Value.int p1] s 0 0 (fun _ => False) := ⟨_, rfl⟩
  rw [← hQ]
  change W p l e ({ frames := 2, cells := 0, slots := 0, locals := 41 } : Room) s m #[Value.ref a_, Value.int p1] below meth c s.heap [] 0 0 Q (F0 m 0 ls [])
  unfold F_X7_held at hF
  refine lv_iload_n hx hb (dq_27 0 bcX7_held_0 (j := 0) rfl rfl) rfl (lv_at hl 1 rfl) ?_
  rcases Classical.em (p1 = (0 : Int32)) with c_1_0 | c_1_0
  ·
    replace hF := ip c_1_0 hF
    refine lv_tableIn (off := 35) (tgt := 36) hx hb dX7_held_1 (by rw [c_1_0]; decide) (by rw [c_1_0]; decide) (by rw [c_1_0]; decide) (by decide) ?_
    refine lv_aload_n hx hb (dq_42 0 bcX7_held_0 (j := 36) rfl rfl) rfl (lv_at hl 0 rfl) ?_
    refine gt_X7_3 (v := .ref a_now) hx hb hts i_f_X7_held_X7 hown hK hP 0 rfl (hts (.fieldLink RX7 35 "HushWatch" "now" "LHushWatch$State;") (List.mem_of_getElem? (i := 1) rfl)) rfl (dq_180 0 bcX7_held_0 (j := 37) (i := 35) rfl rfl rfl) ?_
    replace hF := bd1_s hF
    obtain ⟨r_2, hc_3, hF⟩ := hF
    have hPc : va_P E.1 vwCl (w_X5_sites E a_now a_now_row a_now_partners a_now_share a_now_leftOver c_now_askedCount c_now_outcome c_now_row) s.heap := hP.sub (ws' := [k_X5 a_now a_now_row a_now_partners c_now_askedCount c_now_outcome a_now_share a_now_leftOver, k_I E a_now_row 81 c_now_row]) [3, 4] rfl
    have hrc := va_recv hK hPc (ci := 6) (q0 := 0) rfl rfl
    refine pE_i (va_runV (As := []) (rest := [])  ⟨hx, hb, hml, hown, hts⟩ (f_X5_sites l E (a_ := a_now) (a_row := a_now_row) (a_partners := a_now_partners) (a_share := a_now_share) (a_leftOver := a_now_leftOver) (c_askedCount := c_now_askedCount) (c_outcome := c_now_outcome) (c_row := c_now_row) hc_3) (cwV 0 hts g_f_X7_held_f_X5_sites_117 rfl rfl rfl hd_X5_sites ⟨Nat.le_of_ble_eq_true rfl, Nat.le_of_ble_eq_true rfl⟩) ⟨pP.blind, hrc, (pP.pre ⟨hK, hN⟩ hPc)⟩ rfl rfl hl.1 rfl (lv_room (Nat.le_of_ble_eq_true rfl)) (dq_182 0 bcX7_held_0 (j := 40) (i := 117) rfl rfl rfl) ⟨Nat.le_of_ble_eq_true rfl, Nat.le_of_ble_eq_true rfl⟩) ?_
    rw [hQ]
    obtain e9_0 := inj1 hF
    exact W.iret (v := r_2) hx hb hr (fun tt ht hW => ⟨_, rfl, e9_0, ht⟩) (fun _ h => by cases h) (dq_172 0 bcX7_held_0 (j := 43) rfl rfl)
  replace hF := inn c_1_0 hF
  rcases Classical.em (p1 = (1 : Int32)) with c_1_1 | c_1_1
  ·
    replace hF := ip c_1_1 hF
    refine lv_tableIn (off := 43) (tgt := 44) hx hb dX7_held_1 (by rw [c_1_1]; decide) (by rw [c_1_1]; decide) (by rw [c_1_1]; decide) (by decide) ?_
    refine lv_aload_n hx hb (dq_42 0 bcX7_held_0 (j := 44) rfl rfl) rfl (lv_at hl 0 rfl) ?_
    refine gt_X7_2 (v := .ref a_scripts) hx hb hts i_f_X7_held_X7 hown hK hP 0 rfl (hts (.fieldLink RX7 28 "HushWatch" "scripts" "LHushWatch$Scripts;") (List.mem_of_getElem? (i := 2) rfl)) rfl (dq_180 0 bcX7_held_0 (j := 45) (i := 28) rfl rfl rfl) ?_
    refine va_getN (D := E.1) (ci := 5) (v := .int c_scripts_held) (C := RX4) (T := TX4) (N := 3) hx hb hts i_f_X7_held_X4 hown hK hP 2 rfl rfl 2 (by decide) (nx hN 9 rfl) (fun _ h9 => h9) rfl (dq_180 48 bcX7_held_1 (j := 0) (i := 317) rfl rfl rfl) ?_
    rw [hQ]
    obtain e9_0 := inj1 hF
    exact W.iret (v := c_scripts_held) hx hb hr (fun tt ht hW => ⟨_, rfl, e9_0, ht⟩) (fun _ h => by cases h) (dq_172 48 bcX7_held_1 (j := 3) rfl rfl)
  replace hF := inn c_1_1 hF
  rcases Classical.em (p1 = (2 : Int32)) with c_1_2 | c_1_2
  ·
    replace hF := ip c_1_2 hF
    refine lv_tableIn (off := 51) (tgt := 52) hx hb dX7_held_1 (by rw [c_1_2]; decide) (by rw [c_1_2]; decide) (by rw [c_1_2]; decide) (by decide) ?_
    refine lv_aload_n hx hb (dq_42 48 bcX7_held_1 (j := 4) rfl rfl) rfl (lv_at hl 0 rfl) ?_
    refine gt_X7_0 (v := .ref a_tape) hx hb hts i_f_X7_held_X7 hown hK hP 0 rfl (hts (.fieldLink RX7 10 "HushWatch" "tape" "LHushWatch$Tape;") (List.mem_of_getElem? (i := 3) rfl)) rfl (dq_180 48 bcX7_held_1 (j := 5) (i := 10) rfl rfl rfl) ?_
    refine va_getN (D := E.1) (ci := 7) (v := .int c_tape_length) (C := RX6) (T := TX6) (N := 2) hx hb hts i_f_X7_held_X6 hown hK hP 1 rfl rfl 1 (by decide) (nx hN 1 rfl) (fun _ h9 => h9) rfl (dq_180 48 bcX7_held_1 (j := 8) (i := 81) rfl rfl rfl) ?_
    rw [hQ]
    obtain e9_0 := inj1 hF
    exact W.iret (v := c_tape_length) hx hb hr (fun tt ht hW => ⟨_, rfl, e9_0, ht⟩) (fun _ h => by cases h) (dq_172 48 bcX7_held_1 (j := 11) rfl rfl)
  replace hF := inn c_1_2 hF
  rcases Classical.em (p1 = (3 : Int32)) with c_1_3 | c_1_3
  ·
    replace hF := ip c_1_3 hF
    refine lv_tableIn (off := 59) (tgt := 60) hx hb dX7_held_1 (by rw [c_1_3]; decide) (by rw [c_1_3]; decide) (by rw [c_1_3]; decide) (by decide) ?_
    refine lv_aload_n hx hb (dq_42 48 bcX7_held_1 (j := 12) rfl rfl) rfl (lv_at hl 0 rfl) ?_
    replace hF := bd1_s hF
    obtain ⟨r_4, hc_5, hF⟩ := hF
    have hPc : va_P E.1 vwCl (w_X7_loggedActs E a_ a_tape a_reader a_scripts a_now a_trial a_kept a_book a_keptBook a_history a_draws a_refused a_now_row a_now_partners a_now_share a_now_leftOver c_hasImage c_now_askedCount c_now_outcome c_now_row) s.heap := hP.sub (ws' := [k_X7 a_ a_tape a_reader a_scripts a_now a_trial a_kept a_book a_keptBook a_history a_draws a_refused c_hasImage, k_X5 a_now a_now_row a_now_partners c_now_askedCount c_now_outcome a_now_share a_now_leftOver, k_I E a_now_row 81 c_now_row]) [0, 3, 4] rfl
    have hrc := va_recv hK hPc (ci := 8) (q0 := 0) rfl rfl
    refine pE_i (va_runV (As := []) (rest := [])  ⟨hx, hb, hml, hown, hts⟩ (f_X7_loggedActs l E (a_ := a_) (a_tape := a_tape) (a_reader := a_reader) (a_scripts := a_scripts) (a_now := a_now) (a_trial := a_trial) (a_kept := a_kept) (a_book := a_book) (a_keptBook := a_keptBook) (a_history := a_history) (a_draws := a_draws) (a_refused := a_refused) (a_now_row := a_now_row) (a_now_partners := a_now_partners) (a_now_share := a_now_share) (a_now_leftOver := a_now_leftOver) (c_hasImage := c_hasImage) (c_now_askedCount := c_now_askedCount) (c_now_outcome := c_now_outcome) (c_now_row := c_now_row) hc_5) (cwV 0 hts g_f_X7_held_f_X7_loggedActs_204 rfl rfl rfl hd_X7_loggedActs ⟨Nat.le_of_ble_eq_true rfl, Nat.le_of_ble_eq_true rfl⟩) ⟨pP.blind, hrc, (pP.pre ⟨hK, hN⟩ hPc)⟩ rfl rfl hl.1 rfl (lv_room (Nat.le_of_ble_eq_true rfl)) (dq_182 48 bcX7_held_1 (j := 13) (i := 204) rfl rfl rfl) ⟨Nat.le_of_ble_eq_true rfl, Nat.le_of_ble_eq_true rfl⟩) ?_
    rw [hQ]
    obtain e9_0 := inj1 hF
    exact W.iret (v := r_4) hx hb hr (fun tt ht hW => ⟨_, rfl, e9_0, ht⟩) (fun _ h => by cases h) (dq_172 48 bcX7_held_1 (j := 16) rfl rfl)
  replace hF := inn c_1_3 hF
  rcases Classical.em (p1 = (4 : Int32)) with c_1_4 | c_1_4
  ·
    replace hF := ip c_1_4 hF
    refine lv_tableIn (off := 64) (tgt := 65) hx hb dX7_held_1 (by rw [c_1_4]; decide) (by rw [c_1_4]; decide) (by rw [c_1_4]; decide) (by decide) ?_
    refine lv_aload_n hx hb (dq_42 48 bcX7_held_1 (j := 17) rfl rfl) rfl (lv_at hl 0 rfl) ?_
    refine gt_X7_8 (v := .ref a_history) hx hb hts i_f_X7_held_X7 hown hK hP 0 rfl (hts (.fieldLink RX7 58 "HushWatch" "history" "LHushWatch$History;") (List.mem_of_getElem? (i := 4) rfl)) rfl (dq_180 48 bcX7_held_1 (j := 18) (i := 58) rfl rfl rfl) ?_
    refine va_getN (D := E.1) (ci := 3) (v := .int c_history_held) (C := RX2) (T := TX2) (N := 3) hx hb hts i_f_X7_held_X2 hown hK hP 5 rfl rfl 2 (by decide) (nx hN 18 rfl) (fun _ h9 => h9) rfl (dq_180 48 bcX7_held_1 (j := 21) (i := 201) rfl rfl rfl) ?_
    rw [hQ]
    obtain e9_0 := inj1 hF
    exact W.iret (v := c_history_held) hx hb hr (fun tt ht hW => ⟨_, rfl, e9_0, ht⟩) (fun _ h => by cases h) (dq_172 48 bcX7_held_1 (j := 24) rfl rfl)
  replace hF := inn c_1_4 hF
  refine lv_tableOut (tgt := 73) hx hb dX7_held_1 (by have t0 : (0 : Int32).toInt = 0 := (by decide); have t1 : (1 : Int32).toInt = 1 := (by decide); have t2 : (2 : Int32).toInt = 2 := (by decide); have t3 : (3 : Int32).toInt = 3 := (by decide); have t4 : (4 : Int32).toInt = 4 := (by decide); simp only [← Int32.toInt_inj, t0, t1, t2, t3, t4] at c_1_0 c_1_1 c_1_2 c_1_3 c_1_4; omega) (by decide) ?_
  refine lv_ldc (v := -100000000) hx hb hown (hts (.constant RX7 113 (-100000000)) (List.mem_of_getElem? (i := 5) rfl)) (dq_18 48 bcX7_held_1 (j := 25) (i := 113) rfl rfl) ?_
  rw [hQ]
  obtain e9_0 := inj1 hF
  exact W.iret (v := (-100000000 : Int32)) hx hb hr (fun tt ht hW => ⟨_, rfl, e9_0, ht⟩) (fun _ h => by cases h) (dq_172 48 bcX7_held_1 (j := 27) rfl rfl)

def F_X7_image (c_now_row : Nat → Int32) (c_kept_row : Nat → Int32) (c_book_lines : Nat → Int32) (c_keptBook_lines : Nat → Int32) (c_hasImage : Int32) : Option (Int32 × (Nat → Int32) × (Nat → Int32) × Int32) :=
  bd1 (F_X5_stands c_now_row) (fun r_1 => if r_1 = (0 : Int32) then some ((-1 : Int32), c_kept_row, c_keptBook_lines, c_hasImage) else bd1 (F_X5_copyFrom c_kept_row c_now_row) (fun w_5 => bd1 (F_X0_copyFrom c_keptBook_lines c_book_lines) (fun w_7 => some (c_now_row 11, w_5, w_7, (1 : Int32)))))
abbrev w_X7_image (E : EE) (a_ a_tape a_reader a_scripts a_now a_trial a_kept a_book a_keptBook a_history a_draws a_refused a_now_row a_now_partners a_now_share a_now_leftOver a_kept_row a_kept_partners a_kept_share a_kept_leftOver a_book_lines a_keptBook_lines : Nat) (c_hasImage : Int32) (c_now_askedCount : Int32) (c_now_outcome : Int32) (c_now_row : Nat → Int32) (c_kept_askedCount : Int32) (c_kept_outcome : Int32) (c_kept_row : Nat → Int32) (c_book_lines : Nat → Int32) (c_keptBook_lines : Nat → Int32) : va_W := [k_X7 a_ a_tape a_reader a_scripts a_now a_trial a_kept a_book a_keptBook a_history a_draws a_refused c_hasImage, k_X5 a_now a_now_row a_now_partners c_now_askedCount c_now_outcome a_now_share a_now_leftOver, k_I E a_now_row 81 c_now_row, k_X5 a_kept a_kept_row a_kept_partners c_kept_askedCount c_kept_outcome a_kept_share a_kept_leftOver, k_I E a_kept_row 81 c_kept_row, k_X0 a_book a_book_lines, k_I E a_book_lines 300 c_book_lines, k_X0 a_keptBook a_keptBook_lines, k_I E a_keptBook_lines 300 c_keptBook_lines]
def v_f_X7_image : List Cond := List.cons (.code yX7_image cX7_image 1 (some .int)) (HAppend.hAppend (α := List Cond) (β := List Cond) (γ := List Cond) [.fieldLink RX7 35 "HushWatch" "now" "LHushWatch$State;", .fieldLink RX7 42 "HushWatch" "kept" "LHushWatch$State;", .fieldLink RX7 52 "HushWatch" "keptBook" "LHushWatch$Book;", .fieldLink RX7 48 "HushWatch" "book" "LHushWatch$Book;", .fieldLink RX7 73 "HushWatch" "hasImage" "Z", .methodLink RX7 110 yX5_stands, .instanceMethod yX5_stands, .selects RX5 yX5_stands yX5_stands, .initialized RX5, .methodLink RX7 237 yX5_copyFrom, .instanceMethod yX5_copyFrom, .selects RX5 yX5_copyFrom yX5_copyFrom, .methodLink RX7 311 yX0_copyFrom, .instanceMethod yX0_copyFrom, .selects RX0 yX0_copyFrom yX0_copyFrom, .initialized RX0] (HAppend.hAppend (α := List Cond) (β := List Cond) (γ := List Cond) wsX70 (HAppend.hAppend (α := List Cond) (β := List Cond) (γ := List Cond) v_f_X5_stands (HAppend.hAppend (α := List Cond) (β := List Cond) (γ := List Cond) v_f_X5_copyFrom (HAppend.hAppend (α := List Cond) (β := List Cond) (γ := List Cond) v_f_X0_copyFrom (HAppend.hAppend (α := List Cond) (β := List Cond) (γ := List Cond) wsX50 []))))))
theorem gw_f_X7_image : v_f_X7_image.all goodWord = true := gw_c2 (by decide +kernel) (gw_ap gw_wsX70 (gw_ap gw_f_X5_stands (gw_ap gw_f_X5_copyFrom (gw_ap gw_f_X0_copyFrom (gw_ap gw_wsX50 gw_nil)))))
theorem i_f_X7_image_X7 : ∀ w ∈ wsX70, w ∈ v_f_X7_image := fun _ h => List.mem_cons_of_mem _ (List.mem_append_right _ (List.mem_append_left _ h))
theorem i_f_X7_image_X5 : ∀ w ∈ wsX50, w ∈ v_f_X7_image := fun _ h => List.mem_cons_of_mem _ (List.mem_append_right _ (List.mem_append_right _ (List.mem_append_right _ (List.mem_append_right _ (List.mem_append_right _ (List.mem_append_left _ h))))))
theorem g_f_X7_image_f_X5_stands_110 : GoodIn v_f_X7_image (wsV RX7 110 RX5 yX5_stands v_f_X5_stands) := goodIn_in gw_f_X7_image (in4 6 7 8 9 rfl rfl rfl rfl (fun _ h => List.mem_cons_of_mem _ (List.mem_append_right _ (List.mem_append_right _ (List.mem_append_left _ h)))))
theorem g_f_X7_image_f_X5_copyFrom_237 : GoodIn v_f_X7_image (wsV RX7 237 RX5 yX5_copyFrom v_f_X5_copyFrom) := goodIn_in gw_f_X7_image (in4 10 11 12 9 rfl rfl rfl rfl (fun _ h => List.mem_cons_of_mem _ (List.mem_append_right _ (List.mem_append_right _ (List.mem_append_right _ (List.mem_append_left _ h))))))
theorem g_f_X7_image_f_X0_copyFrom_311 : GoodIn v_f_X7_image (wsV RX7 311 RX0 yX0_copyFrom v_f_X0_copyFrom) := goodIn_in gw_f_X7_image (in4 13 14 15 16 rfl rfl rfl rfl (fun _ h => List.mem_cons_of_mem _ (List.mem_append_right _ (List.mem_append_right _ (List.mem_append_right _ (List.mem_append_right _ (List.mem_append_left _ h)))))))
theorem hd_X7_image : yX7_image.cls = RX7 ∧ yX7_image.cls ≠ "java/lang/invoke/MethodHandle" ∧ yX7_image.cls ≠ "java/lang/invoke/VarHandle" ∧ (parseMethodDescriptor yX7_image.desc).map (fun d => d.parameters.length) = some 0 := by decide +kernel
set_option maxHeartbeats 4000000 in
set_option maxRecDepth 100000 in
theorem f_X7_image (l : Launch) (E : EE) (sz : Nat) {a_ a_tape a_reader a_scripts a_now a_trial a_kept a_book a_keptBook a_history a_draws a_refused a_now_row a_now_partners a_now_share a_now_leftOver a_kept_row a_kept_partners a_kept_share a_kept_leftOver a_book_lines a_keptBook_lines : Nat} {c_hasImage : Int32} {c_now_askedCount : Int32} {c_now_outcome : Int32} {c_now_row : Nat → Int32} {c_kept_askedCount : Int32} {c_kept_outcome : Int32} {c_kept_row : Nat → Int32} {c_book_lines : Nat → Int32} {c_keptBook_lines : Nat → Int32} {rr : Int32} {n_kept_row : Nat → Int32} {n_keptBook_lines : Nat → Int32} {n_hasImage : Int32} (hF : F_X7_image c_now_row c_kept_row c_book_lines c_keptBook_lines c_hasImage = some (rr, n_kept_row, n_keptBook_lines, n_hasImage)) : Met l yX7_image v_f_X7_image (({ frames := 2, cells := 0, slots := 0, locals := 81 } : Room)) (va_Pc [.ref a_] (pW E sz (w_X7_image E a_ a_tape a_reader a_scripts a_now a_trial a_kept a_book a_keptBook a_history a_draws a_refused a_now_row a_now_partners a_now_share a_now_leftOver a_kept_row a_kept_partners a_kept_share a_kept_leftOver a_book_lines a_keptBook_lines c_hasImage c_now_askedCount c_now_outcome c_now_row c_kept_askedCount c_kept_outcome c_kept_row c_book_lines c_keptBook_lines))) (va_Qi (fun (q : Int32) (_u : Unit) => q = rr) (fun (_u : Unit) tt => va_P E.1 vwCl (w_X7_image E a_ a_tape a_reader a_scripts a_now a_trial a_kept a_book a_keptBook a_history a_draws a_refused a_now_row a_now_partners a_now_share a_now_leftOver a_kept_row a_kept_partners a_kept_share a_kept_leftOver a_book_lines a_keptBook_lines n_hasImage c_now_askedCount c_now_outcome c_now_row c_kept_askedCount c_kept_outcome n_kept_row c_book_lines n_keptBook_lines) tt.heap ∧ va_D (va_A (w_X7_image E a_ a_tape a_reader a_scripts a_now a_trial a_kept a_book a_keptBook a_history a_draws a_refused a_now_row a_now_partners a_now_share a_now_leftOver a_kept_row a_kept_partners a_kept_share a_kept_leftOver a_book_lines a_keptBook_lines c_hasImage c_now_askedCount c_now_outcome c_now_row c_kept_askedCount c_kept_outcome c_kept_row c_book_lines c_keptBook_lines) sz) (w_X7_image E a_ a_tape a_reader a_scripts a_now a_trial a_kept a_book a_keptBook a_history a_draws a_refused a_now_row a_now_partners a_now_share a_now_leftOver a_kept_row a_kept_partners a_kept_share a_kept_leftOver a_book_lines a_keptBook_lines n_hasImage c_now_askedCount c_now_outcome c_now_row c_kept_askedCount c_kept_outcome n_kept_row c_book_lines n_keptBook_lines)) (va_A (w_X7_image E a_ a_tape a_reader a_scripts a_now a_trial a_kept a_book a_keptBook a_history a_draws a_refused a_now_row a_now_partners a_now_share a_now_leftOver a_kept_row a_kept_partners a_kept_share a_kept_leftOver a_book_lines a_keptBook_lines c_hasImage c_now_askedCount c_now_outcome c_now_row c_kept_askedCount c_kept_outcome c_kept_row c_book_lines c_keptBook_lines) sz)) 0 0 (va_A (w_X7_image E a_ a_tape a_reader a_scripts a_now a_trial a_kept a_book a_keptBook a_history a_draws a_refused a_now_row a_now_partners a_now_share a_now_leftOver a_kept_row a_kept_partners a_kept_share a_kept_leftOver a_book_lines a_keptBook_lines c_hasImage c_now_askedCount c_now_outcome c_now_row c_kept_askedCount c_kept_outcome c_kept_row c_book_lines c_keptBook_lines) sz) := by
  refine Met.ofW (cc := cX7_image) (maxL := 1) (ret := (some .int)) (by decide) rfl ?_
  intro p e s m args below meth c s₁ B hml hv
  obtain ⟨rfl, hsz, ⟨hK, hN⟩, hP, hD0⟩ := hv
  have hx := B.exec
  have hb := B.bytes
  have hr := B.returns
  have hts := atoms_spec (ws := v_f_X7_image) B.pre
  have hown : s.vm.findClass RX7 = some m.cls := own_of hd_X7_image.1 (findClass_of_methodNamed B.named)
  have hlocks : meth.locks = false := B.notSynchronized
  subst hsz
  have hD := hD0.self (sz := s.heap.size)
  generalize hAe : va_A (w_X7_image E a_ a_tape a_reader a_scripts a_now a_trial a_kept a_book a_keptBook a_history a_draws a_refused a_now_row a_now_partners a_now_share a_now_leftOver a_kept_row a_kept_partners a_kept_share a_kept_leftOver a_book_lines a_keptBook_lines c_hasImage c_now_askedCount c_now_outcome c_now_row c_kept_askedCount c_kept_outcome c_kept_row c_book_lines c_keptBook_lines) s.heap.size = A at hD ⊢
  have hA : ∀ q : Nat, s.heap.size ≤ q → A q := fun q h => by rw [← hAe]; exact Or.inr h
  have hS : va_S A s.heap s.heap [] := va_S.rf
  have hl := lv_entry ([.ref a_]) (n := 1) (Nat.le_of_ble_eq_true rfl)
  rw [lg_entry_eq]
  generalize (lg_sl ([.ref a_]) ++ List.replicate (1 - (lg_sl ([.ref a_])).length) Slot.unset).toArray = ls at hl ⊢
  have hl : lv_has ls 1 [(0, .ref a_)] := hl
  obtain ⟨Q, hQ⟩ : ∃ Q : State → Prop, Q = MQ below (va_Qi (fun (q : Int32) (_u : Unit) => q = rr) (fun (_u : Unit) tt => va_P E.1 vwCl (w_X7_image E a_ a_tape a_reader a_scripts a_now a_trial a_kept a_book a_keptBook a_history a_draws a_refused a_now_row a_now_partners a_now_share a_now_leftOver a_kept_row a_kept_partners a_kept_share a_kept_leftOver a_book_lines a_keptBook_lines n_hasImage c_now_askedCount c_now_outcome c_now_row c_kept_askedCount c_kept_outcome n_kept_row c_book_lines n_keptBook_lines) tt.heap ∧ va_D A (w_X7_image E a_ a_tape a_reader a_scripts a_now a_trial a_kept a_book a_keptBook a_history a_draws a_refused a_now_row a_now_partners a_now_share a_now_leftOver a_kept_row a_kept_partners a_kept_share a_kept_leftOver a_book_lines a_keptBook_lines n_hasImage c_now_askedCount c_now_outcome c_now_row c_kept_askedCount c_kept_outcome n_kept_row c_book_lines n_keptBook_lines)) A) #[Value.ref a_] s 0 0 A := ⟨_, rfl⟩
  rw [← hQ]
  change W p l e ({ frames := 2, cells := 0, slots := 0, locals := 81 } : Room) s m #[Value.ref a_] below meth c s.heap [] 0 0 Q (F0 m 0 ls [])
  suffices hh9 : ∀ (H : Heap) (locs : List Loc), va_P E.1 vwCl (w_X7_image E a_ a_tape a_reader a_scripts a_now a_trial a_kept a_book a_keptBook a_history a_draws a_refused a_now_row a_now_partners a_now_share a_now_leftOver a_kept_row a_kept_partners a_kept_share a_kept_leftOver a_book_lines a_keptBook_lines c_hasImage c_now_askedCount c_now_outcome c_now_row c_kept_askedCount c_kept_outcome c_kept_row c_book_lines c_keptBook_lines) H → va_D A (w_X7_image E a_ a_tape a_reader a_scripts a_now a_trial a_kept a_book a_keptBook a_history a_draws a_refused a_now_row a_now_partners a_now_share a_now_leftOver a_kept_row a_kept_partners a_kept_share a_kept_leftOver a_book_lines a_keptBook_lines c_hasImage c_now_askedCount c_now_outcome c_now_row c_kept_askedCount c_kept_outcome c_kept_row c_book_lines c_keptBook_lines) → va_S A s.heap H locs → W p l e ({ frames := 2, cells := 0, slots := 0, locals := 81 } : Room) s m #[Value.ref a_] below meth c H locs 0 0 Q (F0 m 0 ls []) from hh9 s.heap [] hP hD hS
  clear hP hD hS
  intro H locs hP hD hS
  have h9 := fixPD (ws' := [k_X7 a_ a_tape a_reader a_scripts a_now a_trial a_kept a_book a_keptBook a_history a_draws a_refused c_hasImage, k_X5 a_now a_now_row a_now_partners c_now_askedCount c_now_outcome a_now_share a_now_leftOver, k_I E a_now_row 81 c_now_row, k_X5 a_kept a_kept_row a_kept_partners c_kept_askedCount c_kept_outcome a_kept_share a_kept_leftOver, k_I E a_kept_row 81 c_kept_row, k_X0 a_book a_book_lines, k_I E a_book_lines 300 c_book_lines, k_X0 a_keptBook a_keptBook_lines, k_I E a_keptBook_lines 300 c_keptBook_lines]) hP hD rfl
  clear hP hD
  obtain ⟨hP, hD⟩ := h9
  unfold F_X7_image at hF
  refine lv_aload_n hx hb (dq_42 0 bcX7_image_0 (j := 0) rfl rfl) rfl (lv_at hl 0 rfl) ?_
  refine gt_X7_3 (v := .ref a_now) hx hb hts i_f_X7_image_X7 hown hK hP 0 rfl (hts (.fieldLink RX7 35 "HushWatch" "now" "LHushWatch$State;") (List.mem_of_getElem? (i := 1) rfl)) rfl (dq_180 0 bcX7_image_0 (j := 1) (i := 35) rfl rfl rfl) ?_
  replace hF := bd1_s hF
  obtain ⟨r_1, hc_2, hF⟩ := hF
  have hPc : va_P E.1 vwCl (w_X5_stands E a_now a_now_row a_now_partners a_now_share a_now_leftOver c_now_askedCount c_now_outcome c_now_row) H := hP.sub (ws' := [k_X5 a_now a_now_row a_now_partners c_now_askedCount c_now_outcome a_now_share a_now_leftOver, k_I E a_now_row 81 c_now_row]) [1, 2] rfl
  have hrc := va_recv hK hPc (ci := 6) (q0 := 0) rfl rfl
  refine pE_z (va_runV (As := []) (rest := [])  ⟨hx, hb, hml, hown, hts⟩ (f_X5_stands l E (a_ := a_now) (a_row := a_now_row) (a_partners := a_now_partners) (a_share := a_now_share) (a_leftOver := a_now_leftOver) (c_askedCount := c_now_askedCount) (c_outcome := c_now_outcome) (c_row := c_now_row) hc_2) (cwV 0 hts g_f_X7_image_f_X5_stands_110 rfl rfl rfl hd_X5_stands ⟨Nat.le_of_ble_eq_true rfl, Nat.le_of_ble_eq_true rfl⟩) ⟨pP.blind, hrc, (pP.pre ⟨hK, hN⟩ hPc)⟩ rfl rfl hl.1 rfl (lv_room (Nat.le_of_ble_eq_true rfl)) (dq_182 0 bcX7_image_0 (j := 4) (i := 110) rfl rfl rfl) ⟨Nat.le_of_ble_eq_true rfl, Nat.le_of_ble_eq_true rfl⟩) (fun hb_3 => ?_)
  refine lv_if_ne (tgt := 12) hx hb (dq_154 0 bcX7_image_0 (j := 7) (i := 5) rfl rfl rfl) (by decide) (fun c_4 => ?_) (fun c_4 => ?_)
  ·
    replace hF := inn c_4 hF
    refine lv_aload_n hx hb (dq_42 0 bcX7_image_0 (j := 12) rfl rfl) rfl (lv_at hl 0 rfl) ?_
    refine gt_X7_5 (v := .ref a_kept) hx hb hts i_f_X7_image_X7 hown hK hP 0 rfl (hts (.fieldLink RX7 42 "HushWatch" "kept" "LHushWatch$State;") (List.mem_of_getElem? (i := 2) rfl)) rfl (dq_180 0 bcX7_image_0 (j := 13) (i := 42) rfl rfl rfl) ?_
    refine lv_aload_n hx hb (dq_42 0 bcX7_image_0 (j := 16) rfl rfl) rfl (lv_at hl 0 rfl) ?_
    refine gt_X7_3 (v := .ref a_now) hx hb hts i_f_X7_image_X7 hown hK hP 0 rfl (hts (.fieldLink RX7 35 "HushWatch" "now" "LHushWatch$State;") (List.mem_of_getElem? (i := 1) rfl)) rfl (dq_180 0 bcX7_image_0 (j := 17) (i := 35) rfl rfl rfl) ?_
    replace hF := bd1_s hF
    obtain ⟨w_5, hc_6, hF⟩ := hF
    obtain ⟨hPc, hDc, hFc⟩ := wcut (wc := (w_X5_copyFrom E a_kept a_kept_row a_kept_partners a_kept_share a_kept_leftOver a_now a_now_row a_now_partners a_now_share a_now_leftOver c_kept_askedCount c_kept_outcome c_kept_row c_now_askedCount c_now_outcome c_now_row)) hP hD hS hA [3, 4, 1, 2] (by decide) rfl
    have hrc := va_recv hK hPc (ci := 6) (q0 := 0) rfl rfl
    refine cE_v (wc := (w_X5_copyFrom E a_kept a_kept_row a_kept_partners a_kept_share a_kept_leftOver a_now a_now_row a_now_partners a_now_share a_now_leftOver c_kept_askedCount c_kept_outcome c_kept_row c_now_askedCount c_now_outcome c_now_row)) (wr := [k_X7 a_ a_tape a_reader a_scripts a_now a_trial a_kept a_book a_keptBook a_history a_draws a_refused c_hasImage, k_X0 a_book a_book_lines, k_I E a_book_lines 300 c_book_lines, k_X0 a_keptBook a_keptBook_lines, k_I E a_keptBook_lines 300 c_keptBook_lines]) (w1 := (w_X5_copyFrom E a_kept a_kept_row a_kept_partners a_kept_share a_kept_leftOver a_now a_now_row a_now_partners a_now_share a_now_leftOver c_kept_askedCount c_kept_outcome w_5 c_now_askedCount c_now_outcome c_now_row)) (va_runV (As := [.ref a_now]) (rest := [])  ⟨hx, hb, hml, hown, hts⟩ (f_X5_copyFrom l E H.size (a_ := a_kept) (a_row := a_kept_row) (a_partners := a_kept_partners) (a_share := a_kept_share) (a_leftOver := a_kept_leftOver) (a_o1 := a_now) (a_o1_row := a_now_row) (a_o1_partners := a_now_partners) (a_o1_share := a_now_share) (a_o1_leftOver := a_now_leftOver) (c_askedCount := c_kept_askedCount) (c_outcome := c_kept_outcome) (c_row := c_kept_row) (c_o1_askedCount := c_now_askedCount) (c_o1_outcome := c_now_outcome) (c_o1_row := c_now_row) hc_6) (cwV 1 hts g_f_X7_image_f_X5_copyFrom_237 rfl rfl rfl hd_X5_copyFrom ⟨Nat.le_of_ble_eq_true rfl, Nat.le_of_ble_eq_true rfl⟩) ⟨pW.blind, hrc, (pW.pre ⟨hK, hN⟩ hPc hDc)⟩ rfl rfl hl.1 rfl (lv_room (Nat.le_of_ble_eq_true rfl)) (dq_182 0 bcX7_image_0 (j := 20) (i := 237) rfl rfl rfl) ⟨Nat.le_of_ble_eq_true rfl, Nat.le_of_ble_eq_true rfl⟩) hS hFc hP hD [3, 4, 1, 2] [0, 5, 6, 7, 8] rfl rfl (by decide) (by decide) (fun H locs hP hD hS => ?_)
    have h9 := fixPD (ws' := [k_X7 a_ a_tape a_reader a_scripts a_now a_trial a_kept a_book a_keptBook a_history a_draws a_refused c_hasImage, k_X0 a_book a_book_lines, k_I E a_book_lines 300 c_book_lines, k_X0 a_keptBook a_keptBook_lines, k_I E a_keptBook_lines 300 c_keptBook_lines, k_X5 a_kept a_kept_row a_kept_partners c_kept_askedCount c_kept_outcome a_kept_share a_kept_leftOver, k_I E a_kept_row 81 w_5, k_X5 a_now a_now_row a_now_partners c_now_askedCount c_now_outcome a_now_share a_now_leftOver, k_I E a_now_row 81 c_now_row]) hP hD rfl
    clear hP hD
    obtain ⟨hP, hD⟩ := h9
    refine lv_aload_n hx hb (dq_42 0 bcX7_image_0 (j := 23) rfl rfl) rfl (lv_at hl 0 rfl) ?_
    refine gt_X7_7 (v := .ref a_keptBook) hx hb hts i_f_X7_image_X7 hown hK hP 0 rfl (hts (.fieldLink RX7 52 "HushWatch" "keptBook" "LHushWatch$Book;") (List.mem_of_getElem? (i := 3) rfl)) rfl (dq_180 0 bcX7_image_0 (j := 24) (i := 52) rfl rfl rfl) ?_
    refine lv_aload_n hx hb (dq_42 0 bcX7_image_0 (j := 27) rfl rfl) rfl (lv_at hl 0 rfl) ?_
    refine gt_X7_6 (v := .ref a_book) hx hb hts i_f_X7_image_X7 hown hK hP 0 rfl (hts (.fieldLink RX7 48 "HushWatch" "book" "LHushWatch$Book;") (List.mem_of_getElem? (i := 4) rfl)) rfl (dq_180 0 bcX7_image_0 (j := 28) (i := 48) rfl rfl rfl) ?_
    replace hF := bd1_s hF
    obtain ⟨w_7, hc_8, hF⟩ := hF
    obtain ⟨hPc, hDc, hFc⟩ := wcut (wc := (w_X0_copyFrom E a_keptBook a_keptBook_lines a_book a_book_lines c_keptBook_lines c_book_lines)) hP hD hS hA [3, 4, 1, 2] (by decide) rfl
    have hrc := va_recv hK hPc (ci := 1) (q0 := 0) rfl rfl
    refine cE_v (wc := (w_X0_copyFrom E a_keptBook a_keptBook_lines a_book a_book_lines c_keptBook_lines c_book_lines)) (wr := [k_X7 a_ a_tape a_reader a_scripts a_now a_trial a_kept a_book a_keptBook a_history a_draws a_refused c_hasImage, k_X5 a_kept a_kept_row a_kept_partners c_kept_askedCount c_kept_outcome a_kept_share a_kept_leftOver, k_I E a_kept_row 81 w_5, k_X5 a_now a_now_row a_now_partners c_now_askedCount c_now_outcome a_now_share a_now_leftOver, k_I E a_now_row 81 c_now_row]) (w1 := (w_X0_copyFrom E a_keptBook a_keptBook_lines a_book a_book_lines w_7 c_book_lines)) (va_runV (As := [.ref a_book]) (rest := [])  ⟨hx, hb, hml, hown, hts⟩ (f_X0_copyFrom l E H.size (a_ := a_keptBook) (a_lines := a_keptBook_lines) (a_o1 := a_book) (a_o1_lines := a_book_lines) (c_lines := c_keptBook_lines) (c_o1_lines := c_book_lines) hc_8) (cwV 1 hts g_f_X7_image_f_X0_copyFrom_311 rfl rfl rfl hd_X0_copyFrom ⟨Nat.le_of_ble_eq_true rfl, Nat.le_of_ble_eq_true rfl⟩) ⟨pW.blind, hrc, (pW.pre ⟨hK, hN⟩ hPc hDc)⟩ rfl rfl hl.1 rfl (lv_room (Nat.le_of_ble_eq_true rfl)) (dq_182 0 bcX7_image_0 (j := 31) (i := 311) rfl rfl rfl) ⟨Nat.le_of_ble_eq_true rfl, Nat.le_of_ble_eq_true rfl⟩) hS hFc hP hD [3, 4, 1, 2] [0, 5, 6, 7, 8] rfl rfl (by decide) (by decide) (fun H locs hP hD hS => ?_)
    have h9 := fixPD (ws' := [k_X7 a_ a_tape a_reader a_scripts a_now a_trial a_kept a_book a_keptBook a_history a_draws a_refused c_hasImage, k_X5 a_kept a_kept_row a_kept_partners c_kept_askedCount c_kept_outcome a_kept_share a_kept_leftOver, k_I E a_kept_row 81 w_5, k_X5 a_now a_now_row a_now_partners c_now_askedCount c_now_outcome a_now_share a_now_leftOver, k_I E a_now_row 81 c_now_row, k_X0 a_keptBook a_keptBook_lines, k_I E a_keptBook_lines 300 w_7, k_X0 a_book a_book_lines, k_I E a_book_lines 300 c_book_lines]) hP hD rfl
    clear hP hD
    obtain ⟨hP, hD⟩ := h9
    refine lv_aload_n hx hb (dq_42 0 bcX7_image_0 (j := 34) rfl rfl) rfl (lv_at hl 0 rfl) ?_
    refine lv_iconst (v := 1) hx hb (dq_4 0 bcX7_image_0 (j := 35) rfl rfl) (by decide) ?_
    refine pt_X7_11 (v := .int (1 : Int32)) hx hb hts i_f_X7_image_X7 hown hK hP hD hS 0 rfl (hts (.fieldLink RX7 73 "HushWatch" "hasImage" "Z") (List.mem_of_getElem? (i := 5) rfl)) rfl rfl (Nat.le_of_ble_eq_true rfl) (dq_181 0 bcX7_image_0 (j := 36) (i := 73) rfl rfl rfl) (fun H locs hP hD hS => ?_)
    have h9 := fixPD (ws' := [k_X7 a_ a_tape a_reader a_scripts a_now a_trial a_kept a_book a_keptBook a_history a_draws a_refused (1 : Int32), k_X5 a_kept a_kept_row a_kept_partners c_kept_askedCount c_kept_outcome a_kept_share a_kept_leftOver, k_I E a_kept_row 81 w_5, k_X5 a_now a_now_row a_now_partners c_now_askedCount c_now_outcome a_now_share a_now_leftOver, k_I E a_now_row 81 c_now_row, k_X0 a_keptBook a_keptBook_lines, k_I E a_keptBook_lines 300 w_7, k_X0 a_book a_book_lines, k_I E a_book_lines 300 c_book_lines]) hP hD rfl
    clear hP hD
    obtain ⟨hP, hD⟩ := h9
    refine lv_aload_n hx hb (dq_42 0 bcX7_image_0 (j := 39) rfl rfl) rfl (lv_at hl 0 rfl) ?_
    refine gt_X7_3 (v := .ref a_now) hx hb hts i_f_X7_image_X7 hown hK hP 0 rfl (hts (.fieldLink RX7 35 "HushWatch" "now" "LHushWatch$State;") (List.mem_of_getElem? (i := 1) rfl)) rfl (dq_180 0 bcX7_image_0 (j := 40) (i := 35) rfl rfl rfl) ?_
    refine va_getN (D := E.1) (ci := 6) (v := .ref a_now_row) (C := RX5) (T := TX5) (N := 6) hx hb hts i_f_X7_image_X5 hown hK hP 3 rfl rfl 0 (by decide) (nx hN 12 rfl) (fun _ h9 => h9) rfl (dq_180 0 bcX7_image_0 (j := 43) (i := 114) rfl rfl rfl) ?_
    refine lv_bipush (v := 11) hx hb (dq_16 0 bcX7_image_0 (j := 46) (i := 11) rfl rfl rfl) (by decide) ?_
    refine va_iald hx hb hK hP 4 0 rfl rfl (vin rfl) (dq_46 48 bcX7_image_1 (j := 0) rfl rfl) ?_
    refine W.eq (g2 := F0 m 49 ls [.int (c_now_row 11)]) rfl ?_
    rw [hQ]
    have h9 := fin9 (P := fun u9 : Int32 × (Nat → Int32) × (Nat → Int32) × Int32 => (c_now_row 11) = u9.1 ∧ va_P E.1 vwCl (w_X7_image E a_ a_tape a_reader a_scripts a_now a_trial a_kept a_book a_keptBook a_history a_draws a_refused a_now_row a_now_partners a_now_share a_now_leftOver a_kept_row a_kept_partners a_kept_share a_kept_leftOver a_book_lines a_keptBook_lines u9.2.2.2 c_now_askedCount c_now_outcome c_now_row c_kept_askedCount c_kept_outcome u9.2.1 c_book_lines u9.2.2.1) H ∧ va_D A (w_X7_image E a_ a_tape a_reader a_scripts a_now a_trial a_kept a_book a_keptBook a_history a_draws a_refused a_now_row a_now_partners a_now_share a_now_leftOver a_kept_row a_kept_partners a_kept_share a_kept_leftOver a_book_lines a_keptBook_lines u9.2.2.2 c_now_askedCount c_now_outcome c_now_row c_kept_askedCount c_kept_outcome u9.2.1 c_book_lines u9.2.2.1)) hF ⟨rfl, hP.sub [0, 3, 4, 1, 2, 7, 8, 5, 6] rfl, hD.sub [0, 3, 4, 1, 2, 7, 8, 5, 6] (by decide) rfl⟩
    obtain ⟨e9_0, hP9, hD9⟩ := h9
    exact W.iret (v := c_now_row 11) hx hb hr (fun tt ht hW => ⟨⟨_, (), rfl, e9_0, ht ▸ hP9, hD9⟩, hS.F ht⟩) hS.2.2 (dq_172 48 bcX7_image_1 (j := 1) rfl rfl)
  ·
    replace hF := ip c_4 hF
    refine lv_iconst (v := -1) hx hb (dq_2 0 bcX7_image_0 (j := 10) rfl rfl) (by decide) ?_
    rw [hQ]
    have h9 := fin9 (P := fun u9 : Int32 × (Nat → Int32) × (Nat → Int32) × Int32 => (-1 : Int32) = u9.1 ∧ va_P E.1 vwCl (w_X7_image E a_ a_tape a_reader a_scripts a_now a_trial a_kept a_book a_keptBook a_history a_draws a_refused a_now_row a_now_partners a_now_share a_now_leftOver a_kept_row a_kept_partners a_kept_share a_kept_leftOver a_book_lines a_keptBook_lines u9.2.2.2 c_now_askedCount c_now_outcome c_now_row c_kept_askedCount c_kept_outcome u9.2.1 c_book_lines u9.2.2.1) H ∧ va_D A (w_X7_image E a_ a_tape a_reader a_scripts a_now a_trial a_kept a_book a_keptBook a_history a_draws a_refused a_now_row a_now_partners a_now_share a_now_leftOver a_kept_row a_kept_partners a_kept_share a_kept_leftOver a_book_lines a_keptBook_lines u9.2.2.2 c_now_askedCount c_now_outcome c_now_row c_kept_askedCount c_kept_outcome u9.2.1 c_book_lines u9.2.2.1)) hF ⟨rfl, hP, hD⟩
    obtain ⟨e9_0, hP9, hD9⟩ := h9
    exact W.iret (v := (-1 : Int32)) hx hb hr (fun tt ht hW => ⟨⟨_, (), rfl, e9_0, ht ▸ hP9, hD9⟩, hS.F ht⟩) hS.2.2 (dq_172 0 bcX7_image_0 (j := 11) rfl rfl)

def F_X7_isWay (p0 : Int32) (p1 : Int32) : Option (Int32) :=
  bd1 (F_X7_isMovable p0 p1) (fun r_1 => if r_1 = (0 : Int32) then some (0 : Int32) else if p0 = (0 : Int32) then if p1 = (0 : Int32) then some (0 : Int32) else some (1 : Int32) else some (1 : Int32))

def v_f_X7_isWay : List Cond := List.cons (.code yX7_isWay cX7_isWay 2 (some .boolean)) (HAppend.hAppend (α := List Cond) (β := List Cond) (γ := List Cond) [.methodLink RX7 336 yX7_isMovable, .static yX7_isMovable, .initialized RX7] (HAppend.hAppend (α := List Cond) (β := List Cond) (γ := List Cond) v_f_X7_isMovable []))
theorem gw_f_X7_isWay : v_f_X7_isWay.all goodWord = true := gw_c2 (by decide +kernel) (gw_ap gw_f_X7_isMovable gw_nil)
theorem g_f_X7_isWay_f_X7_isMovable_336 : GoodIn v_f_X7_isWay (va_wsS RX7 336 yX7_isMovable v_f_X7_isMovable) := goodIn_in gw_f_X7_isWay (in3 1 2 3 rfl rfl rfl (fun _ h => List.mem_cons_of_mem _ (List.mem_append_right _ (List.mem_append_left _ h))))
theorem hd_X7_isWay : yX7_isWay.cls = RX7 ∧ yX7_isWay.cls ≠ "java/lang/invoke/MethodHandle" ∧ yX7_isWay.cls ≠ "java/lang/invoke/VarHandle" ∧ (parseMethodDescriptor yX7_isWay.desc).map (fun d => d.parameters.length) = some 2 := by decide +kernel
set_option maxHeartbeats 4000000 in
set_option maxRecDepth 100000 in
theorem f_X7_isWay (l : Launch) (E : EE) {p0 : Int32} {p1 : Int32} {rr : Int32} (hF : F_X7_isWay p0 p1 = some rr) : Met l yX7_isWay v_f_X7_isWay (({ frames := 1, cells := 0, slots := 0, locals := 21 } : Room)) (va_Pc [.int p0, .int p1] (pP E [])) (vp_Si (fun q : Int32 => q = rr ∧ (q = 0 ∨ q = 1))) 0 0 (fun _ => False) := by
  refine Met.ofW (cc := cX7_isWay) (maxL := 2) (ret := (some .boolean)) (by decide) rfl ?_
  intro p e s m args below meth c s₁ B hml hv
  obtain ⟨rfl, ⟨hK, hN⟩, hP⟩ := hv
  have hx := B.exec
  have hb := B.bytes
  have hr := B.returns
  have hts := atoms_spec (ws := v_f_X7_isWay) B.pre
  have hown : s.vm.findClass RX7 = some m.cls := own_of hd_X7_isWay.1 (findClass_of_methodNamed B.named)
  have hlocks : meth.locks = false := B.notSynchronized
  replace hP : va_P E.1 vwCl [] s.heap := hP
  have hl := lv_entry ([.int p0, .int p1]) (n := 2) (Nat.le_of_ble_eq_true rfl)
  rw [lg_entry_eq]
  generalize (lg_sl ([.int p0, .int p1]) ++ List.replicate (2 - (lg_sl ([.int p0, .int p1])).length) Slot.unset).toArray = ls at hl ⊢
  have hl : lv_has ls 2 [(0, .int p0), (1, .int p1)] := hl
  obtain ⟨Q, hQ⟩ : ∃ Q : State → Prop, Q = MQ below (vp_Si (fun q : Int32 => q = rr ∧ (q = 0 ∨ q = 1))) #[Value.int p0, Value.int p1] s 0 0 (fun _ => False) := ⟨_, rfl⟩
  rw [← hQ]
  change W p l e ({ frames := 1, cells := 0, slots := 0, locals := 21 } : Room) s m #[Value.int p0, Value.int p1] below meth c s.heap [] 0 0 Q (F0 m 0 ls [])
  unfold F_X7_isWay at hF
  refine lv_iload_n hx hb (dq_26 0 bcX7_isWay_0 (j := 0) rfl rfl) rfl (lv_at hl 0 rfl) ?_
  refine lv_iload_n hx hb (dq_27 0 bcX7_isWay_0 (j := 1) rfl rfl) rfl (lv_at hl 1 rfl) ?_
  replace hF := bd1_s hF
  obtain ⟨r_1, hc_2, hF⟩ := hF
  have hPc : va_P E.1 vwCl [] s.heap := fun k q h => by simp at h
  refine pE_z (va_runS (As := [.int p0, .int p1]) (rest := [])  ⟨hx, hb, hml, hown, hts⟩ (f_X7_isMovable l E (p0 := p0) (p1 := p1) hc_2) (va_cwS 2 hts g_f_X7_isWay_f_X7_isMovable_336 rfl rfl rfl hd_X7_isMovable.2 ⟨Nat.le_of_ble_eq_true rfl, Nat.le_of_ble_eq_true rfl⟩) ⟨pP.blind, (pP.pre ⟨hK, hN⟩ hPc)⟩ rfl rfl hl.1 rfl (lv_room (Nat.le_of_ble_eq_true rfl)) (dq_184 0 bcX7_isWay_0 (j := 2) (i := 336) rfl rfl rfl) ⟨Nat.le_of_ble_eq_true rfl, Nat.le_of_ble_eq_true rfl⟩) (fun hb_3 => ?_)
  refine lv_if_eq (tgt := 20) hx hb (dq_153 0 bcX7_isWay_0 (j := 5) (i := 15) rfl rfl rfl) (by decide) (fun c_4 => ?_) (fun c_4 => ?_)
  ·
    replace hF := ip c_4 hF
    refine lv_iconst (v := 0) hx hb (dq_3 0 bcX7_isWay_0 (j := 20) rfl rfl) (by decide) ?_
    rw [hQ]
    obtain e9_0 := inj1 hF
    exact W.zret (v := (0 : Int32)) hx hb hr rfl (fun tt ht hW => ⟨_, rfl, ⟨e9_0, Or.inl rfl⟩, ht⟩) (fun _ h => by cases h) (dq_172 0 bcX7_isWay_0 (j := 21) rfl rfl)
  ·
    replace hF := inn c_4 hF
    refine lv_iload_n hx hb (dq_26 0 bcX7_isWay_0 (j := 8) rfl rfl) rfl (lv_at hl 0 rfl) ?_
    refine lv_if_ne (tgt := 16) hx hb (dq_154 0 bcX7_isWay_0 (j := 9) (i := 7) rfl rfl rfl) (by decide) (fun c_5 => ?_) (fun c_5 => ?_)
    ·
      replace hF := inn c_5 hF
      refine lv_iconst (v := 1) hx hb (dq_4 0 bcX7_isWay_0 (j := 16) rfl rfl) (by decide) ?_
      refine lv_goto (tgt := 21) hx hb (dq_167 0 bcX7_isWay_0 (j := 17) (i := 4) rfl rfl rfl) (by decide) ?_
      rw [hQ]
      obtain e9_0 := inj1 hF
      exact W.zret (v := (1 : Int32)) hx hb hr rfl (fun tt ht hW => ⟨_, rfl, ⟨e9_0, Or.inr rfl⟩, ht⟩) (fun _ h => by cases h) (dq_172 0 bcX7_isWay_0 (j := 21) rfl rfl)
    ·
      replace hF := ip c_5 hF
      refine lv_iload_n hx hb (dq_27 0 bcX7_isWay_0 (j := 12) rfl rfl) rfl (lv_at hl 1 rfl) ?_
      refine lv_if_eq (tgt := 20) hx hb (dq_153 0 bcX7_isWay_0 (j := 13) (i := 7) rfl rfl rfl) (by decide) (fun c_6 => ?_) (fun c_6 => ?_)
      ·
        replace hF := ip c_6 hF
        refine lv_iconst (v := 0) hx hb (dq_3 0 bcX7_isWay_0 (j := 20) rfl rfl) (by decide) ?_
        rw [hQ]
        obtain e9_0 := inj1 hF
        exact W.zret (v := (0 : Int32)) hx hb hr rfl (fun tt ht hW => ⟨_, rfl, ⟨e9_0, Or.inl rfl⟩, ht⟩) (fun _ h => by cases h) (dq_172 0 bcX7_isWay_0 (j := 21) rfl rfl)
      ·
        replace hF := inn c_6 hF
        refine lv_iconst (v := 1) hx hb (dq_4 0 bcX7_isWay_0 (j := 16) rfl rfl) (by decide) ?_
        refine lv_goto (tgt := 21) hx hb (dq_167 0 bcX7_isWay_0 (j := 17) (i := 4) rfl rfl rfl) (by decide) ?_
        rw [hQ]
        obtain e9_0 := inj1 hF
        exact W.zret (v := (1 : Int32)) hx hb hr rfl (fun tt ht hW => ⟨_, rfl, ⟨e9_0, Or.inr rfl⟩, ht⟩) (fun _ h => by cases h) (dq_172 0 bcX7_isWay_0 (j := 21) rfl rfl)

def F_X7_keepScript (c_tape_length : Int32) (c_reader_steps : Nat → Int32) (c_reader_stepCount : Int32) (c_scripts_steps : Nat → Int32) (c_scripts_counts : Nat → Int32) (c_scripts_held : Int32) : Option (Int32 × Int32 × (Nat → Int32) × (Nat → Int32) × Int32) :=
  bd3 (F_X4_keep c_scripts_steps c_scripts_counts c_scripts_held c_reader_steps c_reader_stepCount) (fun w_1 w_2 w_3 => bd2 (F_X6_cutTo (0 : Int32) c_tape_length) (fun r_5 w_6 => some (w_3 - (1 : Int32), w_6, w_1, w_2, w_3)))
abbrev w_X7_keepScript (E : EE) (a_ a_tape a_reader a_scripts a_now a_trial a_kept a_book a_keptBook a_history a_draws a_refused a_tape_bytes a_reader_rules a_reader_places a_reader_steps a_scripts_steps a_scripts_counts : Nat) (c_hasImage : Int32) (c_tape_length : Int32) (c_reader_siteCount : Int32) (c_reader_stepCount : Int32) (c_reader_seenRules : Int32) (c_reader_at : Int32) (c_reader_wordStart : Int32) (c_reader_number : Int32) (c_reader_failed : Int32) (c_reader_steps : Nat → Int32) (c_scripts_held : Int32) (c_scripts_steps : Nat → Int32) (c_scripts_counts : Nat → Int32) : va_W := [k_X7 a_ a_tape a_reader a_scripts a_now a_trial a_kept a_book a_keptBook a_history a_draws a_refused c_hasImage, k_X6 a_tape a_tape_bytes c_tape_length, k_X3 a_reader a_tape a_reader_rules a_reader_places a_reader_steps c_reader_siteCount c_reader_stepCount c_reader_seenRules c_reader_at c_reader_wordStart c_reader_number c_reader_failed, k_I E a_reader_steps 48 c_reader_steps, k_X4 a_scripts a_scripts_steps a_scripts_counts c_scripts_held, k_I E a_scripts_steps 192 c_scripts_steps, k_I E a_scripts_counts 4 c_scripts_counts]
def v_f_X7_keepScript : List Cond := List.cons (.code yX7_keepScript cX7_keepScript 1 (some .int)) (HAppend.hAppend (α := List Cond) (β := List Cond) (γ := List Cond) [.fieldLink RX7 28 "HushWatch" "scripts" "LHushWatch$Scripts;", .fieldLink RX7 21 "HushWatch" "reader" "LHushWatch$Reader;", .fieldLink RX7 10 "HushWatch" "tape" "LHushWatch$Tape;", .methodLink RX7 322 yX4_keep, .instanceMethod yX4_keep, .selects RX4 yX4_keep yX4_keep, .initialized RX4, .methodLink RX7 89 yX6_cutTo, .instanceMethod yX6_cutTo, .selects RX6 yX6_cutTo yX6_cutTo, .initialized RX6] (HAppend.hAppend (α := List Cond) (β := List Cond) (γ := List Cond) wsX70 (HAppend.hAppend (α := List Cond) (β := List Cond) (γ := List Cond) v_f_X4_keep (HAppend.hAppend (α := List Cond) (β := List Cond) (γ := List Cond) v_f_X6_cutTo (HAppend.hAppend (α := List Cond) (β := List Cond) (γ := List Cond) wsX40 [])))))
theorem gw_f_X7_keepScript : v_f_X7_keepScript.all goodWord = true := gw_c2 (by decide +kernel) (gw_ap gw_wsX70 (gw_ap gw_f_X4_keep (gw_ap gw_f_X6_cutTo (gw_ap gw_wsX40 gw_nil))))
theorem i_f_X7_keepScript_X7 : ∀ w ∈ wsX70, w ∈ v_f_X7_keepScript := fun _ h => List.mem_cons_of_mem _ (List.mem_append_right _ (List.mem_append_left _ h))
theorem i_f_X7_keepScript_X4 : ∀ w ∈ wsX40, w ∈ v_f_X7_keepScript := fun _ h => List.mem_cons_of_mem _ (List.mem_append_right _ (List.mem_append_right _ (List.mem_append_right _ (List.mem_append_right _ (List.mem_append_left _ h)))))
theorem g_f_X7_keepScript_f_X4_keep_322 : GoodIn v_f_X7_keepScript (wsV RX7 322 RX4 yX4_keep v_f_X4_keep) := goodIn_in gw_f_X7_keepScript (in4 4 5 6 7 rfl rfl rfl rfl (fun _ h => List.mem_cons_of_mem _ (List.mem_append_right _ (List.mem_append_right _ (List.mem_append_left _ h)))))
theorem g_f_X7_keepScript_f_X6_cutTo_89 : GoodIn v_f_X7_keepScript (wsV RX7 89 RX6 yX6_cutTo v_f_X6_cutTo) := goodIn_in gw_f_X7_keepScript (in4 8 9 10 11 rfl rfl rfl rfl (fun _ h => List.mem_cons_of_mem _ (List.mem_append_right _ (List.mem_append_right _ (List.mem_append_right _ (List.mem_append_left _ h))))))
theorem hd_X7_keepScript : yX7_keepScript.cls = RX7 ∧ yX7_keepScript.cls ≠ "java/lang/invoke/MethodHandle" ∧ yX7_keepScript.cls ≠ "java/lang/invoke/VarHandle" ∧ (parseMethodDescriptor yX7_keepScript.desc).map (fun d => d.parameters.length) = some 0 := by decide +kernel
set_option maxHeartbeats 4000000 in
set_option maxRecDepth 100000 in
theorem f_X7_keepScript (l : Launch) (E : EE) (sz : Nat) {a_ a_tape a_reader a_scripts a_now a_trial a_kept a_book a_keptBook a_history a_draws a_refused a_tape_bytes a_reader_rules a_reader_places a_reader_steps a_scripts_steps a_scripts_counts : Nat} {c_hasImage : Int32} {c_tape_length : Int32} {c_reader_siteCount : Int32} {c_reader_stepCount : Int32} {c_reader_seenRules : Int32} {c_reader_at : Int32} {c_reader_wordStart : Int32} {c_reader_number : Int32} {c_reader_failed : Int32} {c_reader_steps : Nat → Int32} {c_scripts_held : Int32} {c_scripts_steps : Nat → Int32} {c_scripts_counts : Nat → Int32} {rr : Int32} {n_tape_length : Int32} {n_scripts_steps : Nat → Int32} {n_scripts_counts : Nat → Int32} {n_scripts_held : Int32} (hF : F_X7_keepScript c_tape_length c_reader_steps c_reader_stepCount c_scripts_steps c_scripts_counts c_scripts_held = some (rr, n_tape_length, n_scripts_steps, n_scripts_counts, n_scripts_held)) : Met l yX7_keepScript v_f_X7_keepScript (({ frames := 2, cells := 0, slots := 0, locals := 81 } : Room)) (va_Pc [.ref a_] (pW E sz (w_X7_keepScript E a_ a_tape a_reader a_scripts a_now a_trial a_kept a_book a_keptBook a_history a_draws a_refused a_tape_bytes a_reader_rules a_reader_places a_reader_steps a_scripts_steps a_scripts_counts c_hasImage c_tape_length c_reader_siteCount c_reader_stepCount c_reader_seenRules c_reader_at c_reader_wordStart c_reader_number c_reader_failed c_reader_steps c_scripts_held c_scripts_steps c_scripts_counts))) (va_Qi (fun (q : Int32) (_u : Unit) => q = rr) (fun (_u : Unit) tt => va_P E.1 vwCl (w_X7_keepScript E a_ a_tape a_reader a_scripts a_now a_trial a_kept a_book a_keptBook a_history a_draws a_refused a_tape_bytes a_reader_rules a_reader_places a_reader_steps a_scripts_steps a_scripts_counts c_hasImage n_tape_length c_reader_siteCount c_reader_stepCount c_reader_seenRules c_reader_at c_reader_wordStart c_reader_number c_reader_failed c_reader_steps n_scripts_held n_scripts_steps n_scripts_counts) tt.heap ∧ va_D (va_A (w_X7_keepScript E a_ a_tape a_reader a_scripts a_now a_trial a_kept a_book a_keptBook a_history a_draws a_refused a_tape_bytes a_reader_rules a_reader_places a_reader_steps a_scripts_steps a_scripts_counts c_hasImage c_tape_length c_reader_siteCount c_reader_stepCount c_reader_seenRules c_reader_at c_reader_wordStart c_reader_number c_reader_failed c_reader_steps c_scripts_held c_scripts_steps c_scripts_counts) sz) (w_X7_keepScript E a_ a_tape a_reader a_scripts a_now a_trial a_kept a_book a_keptBook a_history a_draws a_refused a_tape_bytes a_reader_rules a_reader_places a_reader_steps a_scripts_steps a_scripts_counts c_hasImage n_tape_length c_reader_siteCount c_reader_stepCount c_reader_seenRules c_reader_at c_reader_wordStart c_reader_number c_reader_failed c_reader_steps n_scripts_held n_scripts_steps n_scripts_counts)) (va_A (w_X7_keepScript E a_ a_tape a_reader a_scripts a_now a_trial a_kept a_book a_keptBook a_history a_draws a_refused a_tape_bytes a_reader_rules a_reader_places a_reader_steps a_scripts_steps a_scripts_counts c_hasImage c_tape_length c_reader_siteCount c_reader_stepCount c_reader_seenRules c_reader_at c_reader_wordStart c_reader_number c_reader_failed c_reader_steps c_scripts_held c_scripts_steps c_scripts_counts) sz)) 0 0 (va_A (w_X7_keepScript E a_ a_tape a_reader a_scripts a_now a_trial a_kept a_book a_keptBook a_history a_draws a_refused a_tape_bytes a_reader_rules a_reader_places a_reader_steps a_scripts_steps a_scripts_counts c_hasImage c_tape_length c_reader_siteCount c_reader_stepCount c_reader_seenRules c_reader_at c_reader_wordStart c_reader_number c_reader_failed c_reader_steps c_scripts_held c_scripts_steps c_scripts_counts) sz) := by
  refine Met.ofW (cc := cX7_keepScript) (maxL := 1) (ret := (some .int)) (by decide) rfl ?_
  intro p e s m args below meth c s₁ B hml hv
  obtain ⟨rfl, hsz, ⟨hK, hN⟩, hP, hD0⟩ := hv
  have hx := B.exec
  have hb := B.bytes
  have hr := B.returns
  have hts := atoms_spec (ws := v_f_X7_keepScript) B.pre
  have hown : s.vm.findClass RX7 = some m.cls := own_of hd_X7_keepScript.1 (findClass_of_methodNamed B.named)
  have hlocks : meth.locks = false := B.notSynchronized
  subst hsz
  have hD := hD0.self (sz := s.heap.size)
  generalize hAe : va_A (w_X7_keepScript E a_ a_tape a_reader a_scripts a_now a_trial a_kept a_book a_keptBook a_history a_draws a_refused a_tape_bytes a_reader_rules a_reader_places a_reader_steps a_scripts_steps a_scripts_counts c_hasImage c_tape_length c_reader_siteCount c_reader_stepCount c_reader_seenRules c_reader_at c_reader_wordStart c_reader_number c_reader_failed c_reader_steps c_scripts_held c_scripts_steps c_scripts_counts) s.heap.size = A at hD ⊢
  have hA : ∀ q : Nat, s.heap.size ≤ q → A q := fun q h => by rw [← hAe]; exact Or.inr h
  have hS : va_S A s.heap s.heap [] := va_S.rf
  have hl := lv_entry ([.ref a_]) (n := 1) (Nat.le_of_ble_eq_true rfl)
  rw [lg_entry_eq]
  generalize (lg_sl ([.ref a_]) ++ List.replicate (1 - (lg_sl ([.ref a_])).length) Slot.unset).toArray = ls at hl ⊢
  have hl : lv_has ls 1 [(0, .ref a_)] := hl
  obtain ⟨Q, hQ⟩ : ∃ Q : State → Prop, Q = MQ below (va_Qi (fun (q : Int32) (_u : Unit) => q = rr) (fun (_u : Unit) tt => va_P E.1 vwCl (w_X7_keepScript E a_ a_tape a_reader a_scripts a_now a_trial a_kept a_book a_keptBook a_history a_draws a_refused a_tape_bytes a_reader_rules a_reader_places a_reader_steps a_scripts_steps a_scripts_counts c_hasImage n_tape_length c_reader_siteCount c_reader_stepCount c_reader_seenRules c_reader_at c_reader_wordStart c_reader_number c_reader_failed c_reader_steps n_scripts_held n_scripts_steps n_scripts_counts) tt.heap ∧ va_D A (w_X7_keepScript E a_ a_tape a_reader a_scripts a_now a_trial a_kept a_book a_keptBook a_history a_draws a_refused a_tape_bytes a_reader_rules a_reader_places a_reader_steps a_scripts_steps a_scripts_counts c_hasImage n_tape_length c_reader_siteCount c_reader_stepCount c_reader_seenRules c_reader_at c_reader_wordStart c_reader_number c_reader_failed c_reader_steps n_scripts_held n_scripts_steps n_scripts_counts)) A) #[Value.ref a_] s 0 0 A := ⟨_, rfl⟩
  rw [← hQ]
  change W p l e ({ frames := 2, cells := 0, slots := 0, locals := 81 } : Room) s m #[Value.ref a_] below meth c s.heap [] 0 0 Q (F0 m 0 ls [])
  suffices hh9 : ∀ (H : Heap) (locs : List Loc), va_P E.1 vwCl (w_X7_keepScript E a_ a_tape a_reader a_scripts a_now a_trial a_kept a_book a_keptBook a_history a_draws a_refused a_tape_bytes a_reader_rules a_reader_places a_reader_steps a_scripts_steps a_scripts_counts c_hasImage c_tape_length c_reader_siteCount c_reader_stepCount c_reader_seenRules c_reader_at c_reader_wordStart c_reader_number c_reader_failed c_reader_steps c_scripts_held c_scripts_steps c_scripts_counts) H → va_D A (w_X7_keepScript E a_ a_tape a_reader a_scripts a_now a_trial a_kept a_book a_keptBook a_history a_draws a_refused a_tape_bytes a_reader_rules a_reader_places a_reader_steps a_scripts_steps a_scripts_counts c_hasImage c_tape_length c_reader_siteCount c_reader_stepCount c_reader_seenRules c_reader_at c_reader_wordStart c_reader_number c_reader_failed c_reader_steps c_scripts_held c_scripts_steps c_scripts_counts) → va_S A s.heap H locs → W p l e ({ frames := 2, cells := 0, slots := 0, locals := 81 } : Room) s m #[Value.ref a_] below meth c H locs 0 0 Q (F0 m 0 ls []) from hh9 s.heap [] hP hD hS
  clear hP hD hS
  intro H locs hP hD hS
  have h9 := fixPD (ws' := [k_X7 a_ a_tape a_reader a_scripts a_now a_trial a_kept a_book a_keptBook a_history a_draws a_refused c_hasImage, k_X6 a_tape a_tape_bytes c_tape_length, k_X3 a_reader a_tape a_reader_rules a_reader_places a_reader_steps c_reader_siteCount c_reader_stepCount c_reader_seenRules c_reader_at c_reader_wordStart c_reader_number c_reader_failed, k_I E a_reader_steps 48 c_reader_steps, k_X4 a_scripts a_scripts_steps a_scripts_counts c_scripts_held, k_I E a_scripts_steps 192 c_scripts_steps, k_I E a_scripts_counts 4 c_scripts_counts]) hP hD rfl
  clear hP hD
  obtain ⟨hP, hD⟩ := h9
  unfold F_X7_keepScript at hF
  refine lv_aload_n hx hb (dq_42 0 bcX7_keepScript_0 (j := 0) rfl rfl) rfl (lv_at hl 0 rfl) ?_
  refine gt_X7_2 (v := .ref a_scripts) hx hb hts i_f_X7_keepScript_X7 hown hK hP 0 rfl (hts (.fieldLink RX7 28 "HushWatch" "scripts" "LHushWatch$Scripts;") (List.mem_of_getElem? (i := 1) rfl)) rfl (dq_180 0 bcX7_keepScript_0 (j := 1) (i := 28) rfl rfl rfl) ?_
  refine lv_aload_n hx hb (dq_42 0 bcX7_keepScript_0 (j := 4) rfl rfl) rfl (lv_at hl 0 rfl) ?_
  refine gt_X7_1 (v := .ref a_reader) hx hb hts i_f_X7_keepScript_X7 hown hK hP 0 rfl (hts (.fieldLink RX7 21 "HushWatch" "reader" "LHushWatch$Reader;") (List.mem_of_getElem? (i := 2) rfl)) rfl (dq_180 0 bcX7_keepScript_0 (j := 5) (i := 21) rfl rfl rfl) ?_
  replace hF := bd3_s hF
  obtain ⟨w_1, w_2, w_3, hc_4, hF⟩ := hF
  obtain ⟨hPc, hDc, hFc⟩ := wcut (wc := (w_X4_keep E a_scripts a_scripts_steps a_scripts_counts a_reader a_tape a_reader_rules a_reader_places a_reader_steps c_scripts_held c_scripts_steps c_scripts_counts c_reader_siteCount c_reader_stepCount c_reader_seenRules c_reader_at c_reader_wordStart c_reader_number c_reader_failed c_reader_steps)) hP hD hS hA [4, 5, 6, 2, 3] (by decide) rfl
  have hrc := va_recv hK hPc (ci := 5) (q0 := 0) rfl rfl
  refine cE_v (wc := (w_X4_keep E a_scripts a_scripts_steps a_scripts_counts a_reader a_tape a_reader_rules a_reader_places a_reader_steps c_scripts_held c_scripts_steps c_scripts_counts c_reader_siteCount c_reader_stepCount c_reader_seenRules c_reader_at c_reader_wordStart c_reader_number c_reader_failed c_reader_steps)) (wr := [k_X7 a_ a_tape a_reader a_scripts a_now a_trial a_kept a_book a_keptBook a_history a_draws a_refused c_hasImage, k_X6 a_tape a_tape_bytes c_tape_length]) (w1 := (w_X4_keep E a_scripts a_scripts_steps a_scripts_counts a_reader a_tape a_reader_rules a_reader_places a_reader_steps w_3 w_1 w_2 c_reader_siteCount c_reader_stepCount c_reader_seenRules c_reader_at c_reader_wordStart c_reader_number c_reader_failed c_reader_steps)) (va_runV (As := [.ref a_reader]) (rest := [])  ⟨hx, hb, hml, hown, hts⟩ (f_X4_keep l E H.size (a_ := a_scripts) (a_steps := a_scripts_steps) (a_counts := a_scripts_counts) (a_o1 := a_reader) (a_o1_tape := a_tape) (a_o1_rules := a_reader_rules) (a_o1_places := a_reader_places) (a_o1_steps := a_reader_steps) (c_held := c_scripts_held) (c_steps := c_scripts_steps) (c_counts := c_scripts_counts) (c_o1_siteCount := c_reader_siteCount) (c_o1_stepCount := c_reader_stepCount) (c_o1_seenRules := c_reader_seenRules) (c_o1_at := c_reader_at) (c_o1_wordStart := c_reader_wordStart) (c_o1_number := c_reader_number) (c_o1_failed := c_reader_failed) (c_o1_steps := c_reader_steps) hc_4) (cwV 1 hts g_f_X7_keepScript_f_X4_keep_322 rfl rfl rfl hd_X4_keep ⟨Nat.le_of_ble_eq_true rfl, Nat.le_of_ble_eq_true rfl⟩) ⟨pW.blind, hrc, (pW.pre ⟨hK, hN⟩ hPc hDc)⟩ rfl rfl hl.1 rfl (lv_room (Nat.le_of_ble_eq_true rfl)) (dq_182 0 bcX7_keepScript_0 (j := 8) (i := 322) rfl rfl rfl) ⟨Nat.le_of_ble_eq_true rfl, Nat.le_of_ble_eq_true rfl⟩) hS hFc hP hD [4, 5, 6, 2, 3] [0, 1] rfl rfl (by decide) (by decide) (fun H locs hP hD hS => ?_)
  have h9 := fixPD (ws' := [k_X7 a_ a_tape a_reader a_scripts a_now a_trial a_kept a_book a_keptBook a_history a_draws a_refused c_hasImage, k_X6 a_tape a_tape_bytes c_tape_length, k_X4 a_scripts a_scripts_steps a_scripts_counts w_3, k_I E a_scripts_steps 192 w_1, k_I E a_scripts_counts 4 w_2, k_X3 a_reader a_tape a_reader_rules a_reader_places a_reader_steps c_reader_siteCount c_reader_stepCount c_reader_seenRules c_reader_at c_reader_wordStart c_reader_number c_reader_failed, k_I E a_reader_steps 48 c_reader_steps]) hP hD rfl
  clear hP hD
  obtain ⟨hP, hD⟩ := h9
  refine lv_aload_n hx hb (dq_42 0 bcX7_keepScript_0 (j := 11) rfl rfl) rfl (lv_at hl 0 rfl) ?_
  refine gt_X7_0 (v := .ref a_tape) hx hb hts i_f_X7_keepScript_X7 hown hK hP 0 rfl (hts (.fieldLink RX7 10 "HushWatch" "tape" "LHushWatch$Tape;") (List.mem_of_getElem? (i := 3) rfl)) rfl (dq_180 0 bcX7_keepScript_0 (j := 12) (i := 10) rfl rfl rfl) ?_
  refine lv_iconst (v := 0) hx hb (dq_3 0 bcX7_keepScript_0 (j := 15) rfl rfl) (by decide) ?_
  replace hF := bd2_s hF
  obtain ⟨r_5, w_6, hc_7, hF⟩ := hF
  obtain ⟨hPc, hDc, hFc⟩ := wcut (wc := (w_X6_cutTo E a_tape a_tape_bytes c_tape_length)) hP hD hS hA [1] (by decide) rfl
  have hrc := va_recv hK hPc (ci := 7) (q0 := 0) rfl rfl
  refine cE_z (wc := (w_X6_cutTo E a_tape a_tape_bytes c_tape_length)) (wr := [k_X7 a_ a_tape a_reader a_scripts a_now a_trial a_kept a_book a_keptBook a_history a_draws a_refused c_hasImage, k_X4 a_scripts a_scripts_steps a_scripts_counts w_3, k_I E a_scripts_steps 192 w_1, k_I E a_scripts_counts 4 w_2, k_X3 a_reader a_tape a_reader_rules a_reader_places a_reader_steps c_reader_siteCount c_reader_stepCount c_reader_seenRules c_reader_at c_reader_wordStart c_reader_number c_reader_failed, k_I E a_reader_steps 48 c_reader_steps]) (w1 := (w_X6_cutTo E a_tape a_tape_bytes w_6)) (va_runV (As := [.int (0 : Int32)]) (rest := [])  ⟨hx, hb, hml, hown, hts⟩ (f_X6_cutTo l E H.size (a_ := a_tape) (a_bytes := a_tape_bytes) (p1 := (0 : Int32)) (c_length := c_tape_length) hc_7) (cwV 1 hts g_f_X7_keepScript_f_X6_cutTo_89 rfl rfl rfl hd_X6_cutTo ⟨Nat.le_of_ble_eq_true rfl, Nat.le_of_ble_eq_true rfl⟩) ⟨pW.blind, hrc, (pW.pre ⟨hK, hN⟩ hPc hDc)⟩ rfl rfl hl.1 rfl (lv_room (Nat.le_of_ble_eq_true rfl)) (dq_182 0 bcX7_keepScript_0 (j := 16) (i := 89) rfl rfl rfl) ⟨Nat.le_of_ble_eq_true rfl, Nat.le_of_ble_eq_true rfl⟩) hS hFc hP hD [1] [0, 2, 3, 4, 5, 6] rfl rfl (by decide) (by decide) (fun hb_8 H locs hP hD hS => ?_)
  have h9 := fixPD (ws' := [k_X7 a_ a_tape a_reader a_scripts a_now a_trial a_kept a_book a_keptBook a_history a_draws a_refused c_hasImage, k_X4 a_scripts a_scripts_steps a_scripts_counts w_3, k_I E a_scripts_steps 192 w_1, k_I E a_scripts_counts 4 w_2, k_X3 a_reader a_tape a_reader_rules a_reader_places a_reader_steps c_reader_siteCount c_reader_stepCount c_reader_seenRules c_reader_at c_reader_wordStart c_reader_number c_reader_failed, k_I E a_reader_steps 48 c_reader_steps, k_X6 a_tape a_tape_bytes w_6]) hP hD rfl
  clear hP hD
  obtain ⟨hP, hD⟩ := h9
  refine lv_pop hx hb (dq_87 0 bcX7_keepScript_0 (j := 19) rfl rfl) rfl ?_
  refine lv_aload_n hx hb (dq_42 0 bcX7_keepScript_0 (j := 20) rfl rfl) rfl (lv_at hl 0 rfl) ?_
  refine gt_X7_2 (v := .ref a_scripts) hx hb hts i_f_X7_keepScript_X7 hown hK hP 0 rfl (hts (.fieldLink RX7 28 "HushWatch" "scripts" "LHushWatch$Scripts;") (List.mem_of_getElem? (i := 1) rfl)) rfl (dq_180 0 bcX7_keepScript_0 (j := 21) (i := 28) rfl rfl rfl) ?_
  refine va_getN (D := E.1) (ci := 5) (v := .int w_3) (C := RX4) (T := TX4) (N := 3) hx hb hts i_f_X7_keepScript_X4 hown hK hP 1 rfl rfl 2 (by decide) (nx hN 9 rfl) (fun _ h9 => h9) rfl (dq_180 0 bcX7_keepScript_0 (j := 24) (i := 317) rfl rfl rfl) ?_
  refine lv_iconst (v := 1) hx hb (dq_4 0 bcX7_keepScript_0 (j := 27) rfl rfl) (by decide) ?_
  refine lv_isub hx hb (dq_100 0 bcX7_keepScript_0 (j := 28) rfl rfl) ?_
  rw [hQ]
  have h9 := fin9 (P := fun u9 : Int32 × Int32 × (Nat → Int32) × (Nat → Int32) × Int32 => (w_3 - (1 : Int32)) = u9.1 ∧ va_P E.1 vwCl (w_X7_keepScript E a_ a_tape a_reader a_scripts a_now a_trial a_kept a_book a_keptBook a_history a_draws a_refused a_tape_bytes a_reader_rules a_reader_places a_reader_steps a_scripts_steps a_scripts_counts c_hasImage u9.2.1 c_reader_siteCount c_reader_stepCount c_reader_seenRules c_reader_at c_reader_wordStart c_reader_number c_reader_failed c_reader_steps u9.2.2.2.2 u9.2.2.1 u9.2.2.2.1) H ∧ va_D A (w_X7_keepScript E a_ a_tape a_reader a_scripts a_now a_trial a_kept a_book a_keptBook a_history a_draws a_refused a_tape_bytes a_reader_rules a_reader_places a_reader_steps a_scripts_steps a_scripts_counts c_hasImage u9.2.1 c_reader_siteCount c_reader_stepCount c_reader_seenRules c_reader_at c_reader_wordStart c_reader_number c_reader_failed c_reader_steps u9.2.2.2.2 u9.2.2.1 u9.2.2.2.1)) hF ⟨rfl, hP.sub [0, 6, 4, 5, 1, 2, 3] rfl, hD.sub [0, 6, 4, 5, 1, 2, 3] (by decide) rfl⟩
  obtain ⟨e9_0, hP9, hD9⟩ := h9
  exact W.iret (v := w_3 - (1 : Int32)) hx hb hr (fun tt ht hW => ⟨⟨_, (), rfl, e9_0, ht ▸ hP9, hD9⟩, hS.F ht⟩) hS.2.2 (dq_172 0 bcX7_keepScript_0 (j := 29) rfl rfl)

def F_X7_law (K : Nat) (p1 : Int32) (c_now_row : Nat → Int32) (c_now_partners : Nat → Int32) (c_now_askedCount : Int32) (c_now_outcome : Int32) (c_now_share : Nat → Int32) (c_now_leftOver : Nat → Int32) (c_book_lines : Nat → Int32) (c_history_rows : Nat → Int32) (c_history_next : Int32) (c_history_held : Int32) (c_refused : Nat → Int32) : Option (Int32 × (Nat → Int32) × (Nat → Int32) × Int32 × Int32 × (Nat → Int32) × (Nat → Int32) × (Nat → Int32) × (Nat → Int32) × Int32 × Int32 × (Nat → Int32)) :=
  bd12 (F_X7_act K (3 : Int32) p1 (0 : Int32) (0 : Int32) (1 : Int32) c_now_row c_now_partners c_now_askedCount c_now_outcome c_now_share c_now_leftOver c_book_lines c_history_rows c_history_next c_history_held c_refused) (fun r_1 w_2 w_3 w_4 w_5 w_6 w_7 w_8 w_9 w_10 w_11 w_12 => if (0 : Int32) ≤ r_1 then some (c_now_row 0, w_2, w_3, w_4, w_5, w_6, w_7, w_8, w_9, w_10, w_11, w_12) else some ((-1 : Int32), w_2, w_3, w_4, w_5, w_6, w_7, w_8, w_9, w_10, w_11, w_12))
abbrev w_X7_law (E : EE) (a_ a_tape a_reader a_scripts a_now a_trial a_kept a_book a_keptBook a_history a_draws a_refused a_now_row a_now_partners a_now_share a_now_leftOver a_book_lines a_history_rows : Nat) (c_hasImage : Int32) (c_now_askedCount : Int32) (c_now_outcome : Int32) (c_now_row : Nat → Int32) (c_now_partners : Nat → Int32) (c_now_share : Nat → Int32) (c_now_leftOver : Nat → Int32) (c_book_lines : Nat → Int32) (c_history_next : Int32) (c_history_held : Int32) (c_history_rows : Nat → Int32) (c_refused : Nat → Int32) : va_W := [k_X7 a_ a_tape a_reader a_scripts a_now a_trial a_kept a_book a_keptBook a_history a_draws a_refused c_hasImage, k_X5 a_now a_now_row a_now_partners c_now_askedCount c_now_outcome a_now_share a_now_leftOver, k_I E a_now_row 81 c_now_row, k_I E a_now_partners 8 c_now_partners, k_I E a_now_share 2 c_now_share, k_I E a_now_leftOver 2 c_now_leftOver, k_X0 a_book a_book_lines, k_I E a_book_lines 300 c_book_lines, k_X2 a_history a_history_rows c_history_next c_history_held, k_I E a_history_rows 3240 c_history_rows, k_I E a_refused 3 c_refused]
def v_f_X7_law : List Cond := List.cons (.code yX7_law cX7_law 3 (some .int)) (HAppend.hAppend (α := List Cond) (β := List Cond) (γ := List Cond) [.fieldLink RX7 35 "HushWatch" "now" "LHushWatch$State;", .methodLink RX7 163 yX7_act, .instanceMethod yX7_act, .selects RX7 yX7_act yX7_act, .initialized RX7] (HAppend.hAppend (α := List Cond) (β := List Cond) (γ := List Cond) wsX70 (HAppend.hAppend (α := List Cond) (β := List Cond) (γ := List Cond) wsX50 (HAppend.hAppend (α := List Cond) (β := List Cond) (γ := List Cond) v_f_X7_act []))))
theorem gw_f_X7_law : v_f_X7_law.all goodWord = true := gw_c2 (by decide +kernel) (gw_ap gw_wsX70 (gw_ap gw_wsX50 (gw_ap gw_f_X7_act gw_nil)))
theorem i_f_X7_law_X7 : ∀ w ∈ wsX70, w ∈ v_f_X7_law := fun _ h => List.mem_cons_of_mem _ (List.mem_append_right _ (List.mem_append_left _ h))
theorem i_f_X7_law_X5 : ∀ w ∈ wsX50, w ∈ v_f_X7_law := fun _ h => List.mem_cons_of_mem _ (List.mem_append_right _ (List.mem_append_right _ (List.mem_append_left _ h)))
theorem g_f_X7_law_f_X7_act_163 : GoodIn v_f_X7_law (wsV RX7 163 RX7 yX7_act v_f_X7_act) := goodIn_in gw_f_X7_law (in4 2 3 4 5 rfl rfl rfl rfl (fun _ h => List.mem_cons_of_mem _ (List.mem_append_right _ (List.mem_append_right _ (List.mem_append_right _ (List.mem_append_left _ h))))))
theorem hd_X7_law : yX7_law.cls = RX7 ∧ yX7_law.cls ≠ "java/lang/invoke/MethodHandle" ∧ yX7_law.cls ≠ "java/lang/invoke/VarHandle" ∧ (parseMethodDescriptor yX7_law.desc).map (fun d => d.parameters.length) = some 1 := by decide +kernel
set_option maxHeartbeats 4000000 in
set_option maxRecDepth 100000 in
theorem f_X7_law (l : Launch) (E : EE) (sz : Nat) (K : Nat) {a_ a_tape a_reader a_scripts a_now a_trial a_kept a_book a_keptBook a_history a_draws a_refused a_now_row a_now_partners a_now_share a_now_leftOver a_book_lines a_history_rows : Nat} {p1 : Int32} {c_hasImage : Int32} {c_now_askedCount : Int32} {c_now_outcome : Int32} {c_now_row : Nat → Int32} {c_now_partners : Nat → Int32} {c_now_share : Nat → Int32} {c_now_leftOver : Nat → Int32} {c_book_lines : Nat → Int32} {c_history_next : Int32} {c_history_held : Int32} {c_history_rows : Nat → Int32} {c_refused : Nat → Int32} {rr : Int32} {n_now_row : Nat → Int32} {n_now_partners : Nat → Int32} {n_now_askedCount : Int32} {n_now_outcome : Int32} {n_now_share : Nat → Int32} {n_now_leftOver : Nat → Int32} {n_book_lines : Nat → Int32} {n_history_rows : Nat → Int32} {n_history_next : Int32} {n_history_held : Int32} {n_refused : Nat → Int32} (hF : F_X7_law K p1 c_now_row c_now_partners c_now_askedCount c_now_outcome c_now_share c_now_leftOver c_book_lines c_history_rows c_history_next c_history_held c_refused = some (rr, n_now_row, n_now_partners, n_now_askedCount, n_now_outcome, n_now_share, n_now_leftOver, n_book_lines, n_history_rows, n_history_next, n_history_held, n_refused)) : Met l yX7_law v_f_X7_law (({ frames := 6, cells := 0, slots := 0, locals := 151 } : Room)) (va_Pc [.ref a_, .int p1] (pW E sz (w_X7_law E a_ a_tape a_reader a_scripts a_now a_trial a_kept a_book a_keptBook a_history a_draws a_refused a_now_row a_now_partners a_now_share a_now_leftOver a_book_lines a_history_rows c_hasImage c_now_askedCount c_now_outcome c_now_row c_now_partners c_now_share c_now_leftOver c_book_lines c_history_next c_history_held c_history_rows c_refused))) (va_Qi (fun (q : Int32) (_u : Unit) => q = rr) (fun (_u : Unit) tt => va_P E.1 vwCl (w_X7_law E a_ a_tape a_reader a_scripts a_now a_trial a_kept a_book a_keptBook a_history a_draws a_refused a_now_row a_now_partners a_now_share a_now_leftOver a_book_lines a_history_rows c_hasImage n_now_askedCount n_now_outcome n_now_row n_now_partners n_now_share n_now_leftOver n_book_lines n_history_next n_history_held n_history_rows n_refused) tt.heap ∧ va_D (va_A (w_X7_law E a_ a_tape a_reader a_scripts a_now a_trial a_kept a_book a_keptBook a_history a_draws a_refused a_now_row a_now_partners a_now_share a_now_leftOver a_book_lines a_history_rows c_hasImage c_now_askedCount c_now_outcome c_now_row c_now_partners c_now_share c_now_leftOver c_book_lines c_history_next c_history_held c_history_rows c_refused) sz) (w_X7_law E a_ a_tape a_reader a_scripts a_now a_trial a_kept a_book a_keptBook a_history a_draws a_refused a_now_row a_now_partners a_now_share a_now_leftOver a_book_lines a_history_rows c_hasImage n_now_askedCount n_now_outcome n_now_row n_now_partners n_now_share n_now_leftOver n_book_lines n_history_next n_history_held n_history_rows n_refused)) (va_A (w_X7_law E a_ a_tape a_reader a_scripts a_now a_trial a_kept a_book a_keptBook a_history a_draws a_refused a_now_row a_now_partners a_now_share a_now_leftOver a_book_lines a_history_rows c_hasImage c_now_askedCount c_now_outcome c_now_row c_now_partners c_now_share c_now_leftOver c_book_lines c_history_next c_history_held c_history_rows c_refused) sz)) 0 0 (va_A (w_X7_law E a_ a_tape a_reader a_scripts a_now a_trial a_kept a_book a_keptBook a_history a_draws a_refused a_now_row a_now_partners a_now_share a_now_leftOver a_book_lines a_history_rows c_hasImage c_now_askedCount c_now_outcome c_now_row c_now_partners c_now_share c_now_leftOver c_book_lines c_history_next c_history_held c_history_rows c_refused) sz) := by
  refine Met.ofW (cc := cX7_law) (maxL := 3) (ret := (some .int)) (by decide) rfl ?_
  intro p e s m args below meth c s₁ B hml hv
  obtain ⟨rfl, hsz, ⟨hK, hN⟩, hP, hD0⟩ := hv
  have hx := B.exec
  have hb := B.bytes
  have hr := B.returns
  have hts := atoms_spec (ws := v_f_X7_law) B.pre
  have hown : s.vm.findClass RX7 = some m.cls := own_of hd_X7_law.1 (findClass_of_methodNamed B.named)
  have hlocks : meth.locks = false := B.notSynchronized
  subst hsz
  have hD := hD0.self (sz := s.heap.size)
  generalize hAe : va_A (w_X7_law E a_ a_tape a_reader a_scripts a_now a_trial a_kept a_book a_keptBook a_history a_draws a_refused a_now_row a_now_partners a_now_share a_now_leftOver a_book_lines a_history_rows c_hasImage c_now_askedCount c_now_outcome c_now_row c_now_partners c_now_share c_now_leftOver c_book_lines c_history_next c_history_held c_history_rows c_refused) s.heap.size = A at hD ⊢
  have hA : ∀ q : Nat, s.heap.size ≤ q → A q := fun q h => by rw [← hAe]; exact Or.inr h
  have hS : va_S A s.heap s.heap [] := va_S.rf
  have hl := lv_entry ([.ref a_, .int p1]) (n := 3) (Nat.le_of_ble_eq_true rfl)
  rw [lg_entry_eq]
  generalize (lg_sl ([.ref a_, .int p1]) ++ List.replicate (3 - (lg_sl ([.ref a_, .int p1])).length) Slot.unset).toArray = ls at hl ⊢
  have hl : lv_has ls 3 [(0, .ref a_), (1, .int p1)] := hl
  obtain ⟨Q, hQ⟩ : ∃ Q : State → Prop, Q = MQ below (va_Qi (fun (q : Int32) (_u : Unit) => q = rr) (fun (_u : Unit) tt => va_P E.1 vwCl (w_X7_law E a_ a_tape a_reader a_scripts a_now a_trial a_kept a_book a_keptBook a_history a_draws a_refused a_now_row a_now_partners a_now_share a_now_leftOver a_book_lines a_history_rows c_hasImage n_now_askedCount n_now_outcome n_now_row n_now_partners n_now_share n_now_leftOver n_book_lines n_history_next n_history_held n_history_rows n_refused) tt.heap ∧ va_D A (w_X7_law E a_ a_tape a_reader a_scripts a_now a_trial a_kept a_book a_keptBook a_history a_draws a_refused a_now_row a_now_partners a_now_share a_now_leftOver a_book_lines a_history_rows c_hasImage n_now_askedCount n_now_outcome n_now_row n_now_partners n_now_share n_now_leftOver n_book_lines n_history_next n_history_held n_history_rows n_refused)) A) #[Value.ref a_, Value.int p1] s 0 0 A := ⟨_, rfl⟩
  rw [← hQ]
  change W p l e ({ frames := 6, cells := 0, slots := 0, locals := 151 } : Room) s m #[Value.ref a_, Value.int p1] below meth c s.heap [] 0 0 Q (F0 m 0 ls [])
  suffices hh9 : ∀ (H : Heap) (locs : List Loc), va_P E.1 vwCl (w_X7_law E a_ a_tape a_reader a_scripts a_now a_trial a_kept a_book a_keptBook a_history a_draws a_refused a_now_row a_now_partners a_now_share a_now_leftOver a_book_lines a_history_rows c_hasImage c_now_askedCount c_now_outcome c_now_row c_now_partners c_now_share c_now_leftOver c_book_lines c_history_next c_history_held c_history_rows c_refused) H → va_D A (w_X7_law E a_ a_tape a_reader a_scripts a_now a_trial a_kept a_book a_keptBook a_history a_draws a_refused a_now_row a_now_partners a_now_share a_now_leftOver a_book_lines a_history_rows c_hasImage c_now_askedCount c_now_outcome c_now_row c_now_partners c_now_share c_now_leftOver c_book_lines c_history_next c_history_held c_history_rows c_refused) → va_S A s.heap H locs → W p l e ({ frames := 6, cells := 0, slots := 0, locals := 151 } : Room) s m #[Value.ref a_, Value.int p1] below meth c H locs 0 0 Q (F0 m 0 ls []) from hh9 s.heap [] hP hD hS
  clear hP hD hS
  intro H locs hP hD hS
  have h9 := fixPD (ws' := [k_X7 a_ a_tape a_reader a_scripts a_now a_trial a_kept a_book a_keptBook a_history a_draws a_refused c_hasImage, k_X5 a_now a_now_row a_now_partners c_now_askedCount c_now_outcome a_now_share a_now_leftOver, k_I E a_now_row 81 c_now_row, k_I E a_now_partners 8 c_now_partners, k_I E a_now_share 2 c_now_share, k_I E a_now_leftOver 2 c_now_leftOver, k_X0 a_book a_book_lines, k_I E a_book_lines 300 c_book_lines, k_X2 a_history a_history_rows c_history_next c_history_held, k_I E a_history_rows 3240 c_history_rows, k_I E a_refused 3 c_refused]) hP hD rfl
  clear hP hD
  obtain ⟨hP, hD⟩ := h9
  unfold F_X7_law at hF
  refine lv_aload_n hx hb (dq_42 0 bcX7_law_0 (j := 0) rfl rfl) rfl (lv_at hl 0 rfl) ?_
  refine gt_X7_3 (v := .ref a_now) hx hb hts i_f_X7_law_X7 hown hK hP 0 rfl (hts (.fieldLink RX7 35 "HushWatch" "now" "LHushWatch$State;") (List.mem_of_getElem? (i := 1) rfl)) rfl (dq_180 0 bcX7_law_0 (j := 1) (i := 35) rfl rfl rfl) ?_
  refine va_getN (D := E.1) (ci := 6) (v := .ref a_now_row) (C := RX5) (T := TX5) (N := 6) hx hb hts i_f_X7_law_X5 hown hK hP 1 rfl rfl 0 (by decide) (nx hN 12 rfl) (fun _ h9 => h9) rfl (dq_180 0 bcX7_law_0 (j := 4) (i := 114) rfl rfl rfl) ?_
  refine lv_iconst (v := 0) hx hb (dq_3 0 bcX7_law_0 (j := 7) rfl rfl) (by decide) ?_
  refine va_iald hx hb hK hP 2 0 rfl rfl (vin rfl) (dq_46 0 bcX7_law_0 (j := 8) rfl rfl) ?_
  refine W.eq (g2 := F0 m 9 ls [.int (c_now_row 0)]) rfl ?_
  refine lv_istore_n (lv' := [(2, .int (c_now_row 0)), (0, .ref a_), (1, .int p1)]) hx hb (dq_61 0 bcX7_law_0 (j := 9) rfl rfl) rfl hl (by decide) rfl (fun ls hl => ?_)
  refine lv_aload_n hx hb (dq_42 0 bcX7_law_0 (j := 10) rfl rfl) rfl (lv_at hl 1 rfl) ?_
  refine lv_iconst (v := 3) hx hb (dq_6 0 bcX7_law_0 (j := 11) rfl rfl) (by decide) ?_
  refine lv_iload_n hx hb (dq_27 0 bcX7_law_0 (j := 12) rfl rfl) rfl (lv_at hl 2 rfl) ?_
  refine lv_iconst (v := 0) hx hb (dq_3 0 bcX7_law_0 (j := 13) rfl rfl) (by decide) ?_
  refine lv_iconst (v := 0) hx hb (dq_3 0 bcX7_law_0 (j := 14) rfl rfl) (by decide) ?_
  refine lv_iconst (v := 1) hx hb (dq_4 0 bcX7_law_0 (j := 15) rfl rfl) (by decide) ?_
  replace hF := bd12_s hF
  obtain ⟨r_1, w_2, w_3, w_4, w_5, w_6, w_7, w_8, w_9, w_10, w_11, w_12, hc_13, hF⟩ := hF
  obtain ⟨hPc, hDc, hFc⟩ := wcut (wc := (w_X7_act E a_ a_tape a_reader a_scripts a_now a_trial a_kept a_book a_keptBook a_history a_draws a_refused a_now_row a_now_partners a_now_share a_now_leftOver a_book_lines a_history_rows c_hasImage c_now_askedCount c_now_outcome c_now_row c_now_partners c_now_share c_now_leftOver c_book_lines c_history_next c_history_held c_history_rows c_refused)) hP hD hS hA [0, 1, 2, 3, 4, 5, 6, 7, 8, 9, 10] (by decide) rfl
  have hrc := va_recv hK hPc (ci := 8) (q0 := 0) rfl rfl
  refine cE_i (wc := (w_X7_act E a_ a_tape a_reader a_scripts a_now a_trial a_kept a_book a_keptBook a_history a_draws a_refused a_now_row a_now_partners a_now_share a_now_leftOver a_book_lines a_history_rows c_hasImage c_now_askedCount c_now_outcome c_now_row c_now_partners c_now_share c_now_leftOver c_book_lines c_history_next c_history_held c_history_rows c_refused)) (wr := []) (w1 := (w_X7_act E a_ a_tape a_reader a_scripts a_now a_trial a_kept a_book a_keptBook a_history a_draws a_refused a_now_row a_now_partners a_now_share a_now_leftOver a_book_lines a_history_rows c_hasImage w_4 w_5 w_2 w_3 w_6 w_7 w_8 w_10 w_11 w_9 w_12)) (va_runV (As := [.int (3 : Int32), .int p1, .int (0 : Int32), .int (0 : Int32), .int (1 : Int32)]) (rest := [])  ⟨hx, hb, hml, hown, hts⟩ (f_X7_act l E H.size K (a_ := a_) (a_tape := a_tape) (a_reader := a_reader) (a_scripts := a_scripts) (a_now := a_now) (a_trial := a_trial) (a_kept := a_kept) (a_book := a_book) (a_keptBook := a_keptBook) (a_history := a_history) (a_draws := a_draws) (a_refused := a_refused) (a_now_row := a_now_row) (a_now_partners := a_now_partners) (a_now_share := a_now_share) (a_now_leftOver := a_now_leftOver) (a_book_lines := a_book_lines) (a_history_rows := a_history_rows) (p1 := (3 : Int32)) (p2 := p1) (p3 := (0 : Int32)) (p4 := (0 : Int32)) (p5 := (1 : Int32)) (c_hasImage := c_hasImage) (c_now_askedCount := c_now_askedCount) (c_now_outcome := c_now_outcome) (c_now_row := c_now_row) (c_now_partners := c_now_partners) (c_now_share := c_now_share) (c_now_leftOver := c_now_leftOver) (c_book_lines := c_book_lines) (c_history_next := c_history_next) (c_history_held := c_history_held) (c_history_rows := c_history_rows) (c_refused := c_refused) hc_13) (cwV 5 hts g_f_X7_law_f_X7_act_163 rfl rfl rfl hd_X7_act ⟨Nat.le_of_ble_eq_true rfl, Nat.le_of_ble_eq_true rfl⟩) ⟨pW.blind, hrc, (pW.pre ⟨hK, hN⟩ hPc hDc)⟩ rfl rfl hl.1 rfl (lv_room (Nat.le_of_ble_eq_true rfl)) (dq_182 0 bcX7_law_0 (j := 16) (i := 163) rfl rfl rfl) ⟨Nat.le_of_ble_eq_true rfl, Nat.le_of_ble_eq_true rfl⟩) hS hFc hP hD [0, 1, 2, 3, 4, 5, 6, 7, 8, 9, 10] [] rfl rfl (by decide) (by decide) (fun H locs hP hD hS => ?_)
  have h9 := fixPD (ws' := [k_X7 a_ a_tape a_reader a_scripts a_now a_trial a_kept a_book a_keptBook a_history a_draws a_refused c_hasImage, k_X5 a_now a_now_row a_now_partners w_4 w_5 a_now_share a_now_leftOver, k_I E a_now_row 81 w_2, k_I E a_now_partners 8 w_3, k_I E a_now_share 2 w_6, k_I E a_now_leftOver 2 w_7, k_X0 a_book a_book_lines, k_I E a_book_lines 300 w_8, k_X2 a_history a_history_rows w_10 w_11, k_I E a_history_rows 3240 w_9, k_I E a_refused 3 w_12]) hP hD rfl
  clear hP hD
  obtain ⟨hP, hD⟩ := h9
  refine lv_if_ge (tgt := 26) hx hb (dq_156 0 bcX7_law_0 (j := 19) (i := 7) rfl rfl rfl) (by decide) (fun c_14 => ?_) (fun c_14 => ?_)
  ·
    replace hF := ip c_14 hF
    refine lv_iload_n hx hb (dq_28 0 bcX7_law_0 (j := 26) rfl rfl) rfl (lv_at hl 0 rfl) ?_
    rw [hQ]
    have h9 := fin9 (P := fun u9 : Int32 × (Nat → Int32) × (Nat → Int32) × Int32 × Int32 × (Nat → Int32) × (Nat → Int32) × (Nat → Int32) × (Nat → Int32) × Int32 × Int32 × (Nat → Int32) => (c_now_row 0) = u9.1 ∧ va_P E.1 vwCl (w_X7_law E a_ a_tape a_reader a_scripts a_now a_trial a_kept a_book a_keptBook a_history a_draws a_refused a_now_row a_now_partners a_now_share a_now_leftOver a_book_lines a_history_rows c_hasImage u9.2.2.2.1 u9.2.2.2.2.1 u9.2.1 u9.2.2.1 u9.2.2.2.2.2.1 u9.2.2.2.2.2.2.1 u9.2.2.2.2.2.2.2.1 u9.2.2.2.2.2.2.2.2.2.1 u9.2.2.2.2.2.2.2.2.2.2.1 u9.2.2.2.2.2.2.2.2.1 u9.2.2.2.2.2.2.2.2.2.2.2) H ∧ va_D A (w_X7_law E a_ a_tape a_reader a_scripts a_now a_trial a_kept a_book a_keptBook a_history a_draws a_refused a_now_row a_now_partners a_now_share a_now_leftOver a_book_lines a_history_rows c_hasImage u9.2.2.2.1 u9.2.2.2.2.1 u9.2.1 u9.2.2.1 u9.2.2.2.2.2.1 u9.2.2.2.2.2.2.1 u9.2.2.2.2.2.2.2.1 u9.2.2.2.2.2.2.2.2.2.1 u9.2.2.2.2.2.2.2.2.2.2.1 u9.2.2.2.2.2.2.2.2.1 u9.2.2.2.2.2.2.2.2.2.2.2)) hF ⟨rfl, hP, hD⟩
    obtain ⟨e9_0, hP9, hD9⟩ := h9
    exact W.iret (v := c_now_row 0) hx hb hr (fun tt ht hW => ⟨⟨_, (), rfl, e9_0, ht ▸ hP9, hD9⟩, hS.F ht⟩) hS.2.2 (dq_172 0 bcX7_law_0 (j := 27) rfl rfl)
  ·
    replace hF := inn c_14 hF
    refine lv_iconst (v := -1) hx hb (dq_2 0 bcX7_law_0 (j := 22) rfl rfl) (by decide) ?_
    refine lv_goto (tgt := 27) hx hb (dq_167 0 bcX7_law_0 (j := 23) (i := 4) rfl rfl rfl) (by decide) ?_
    rw [hQ]
    have h9 := fin9 (P := fun u9 : Int32 × (Nat → Int32) × (Nat → Int32) × Int32 × Int32 × (Nat → Int32) × (Nat → Int32) × (Nat → Int32) × (Nat → Int32) × Int32 × Int32 × (Nat → Int32) => (-1 : Int32) = u9.1 ∧ va_P E.1 vwCl (w_X7_law E a_ a_tape a_reader a_scripts a_now a_trial a_kept a_book a_keptBook a_history a_draws a_refused a_now_row a_now_partners a_now_share a_now_leftOver a_book_lines a_history_rows c_hasImage u9.2.2.2.1 u9.2.2.2.2.1 u9.2.1 u9.2.2.1 u9.2.2.2.2.2.1 u9.2.2.2.2.2.2.1 u9.2.2.2.2.2.2.2.1 u9.2.2.2.2.2.2.2.2.2.1 u9.2.2.2.2.2.2.2.2.2.2.1 u9.2.2.2.2.2.2.2.2.1 u9.2.2.2.2.2.2.2.2.2.2.2) H ∧ va_D A (w_X7_law E a_ a_tape a_reader a_scripts a_now a_trial a_kept a_book a_keptBook a_history a_draws a_refused a_now_row a_now_partners a_now_share a_now_leftOver a_book_lines a_history_rows c_hasImage u9.2.2.2.1 u9.2.2.2.2.1 u9.2.1 u9.2.2.1 u9.2.2.2.2.2.1 u9.2.2.2.2.2.2.1 u9.2.2.2.2.2.2.2.1 u9.2.2.2.2.2.2.2.2.2.1 u9.2.2.2.2.2.2.2.2.2.2.1 u9.2.2.2.2.2.2.2.2.1 u9.2.2.2.2.2.2.2.2.2.2.2)) hF ⟨rfl, hP, hD⟩
    obtain ⟨e9_0, hP9, hD9⟩ := h9
    exact W.iret (v := (-1 : Int32)) hx hb hr (fun tt ht hW => ⟨⟨_, (), rfl, e9_0, ht ▸ hP9, hD9⟩, hS.F ht⟩) hS.2.2 (dq_172 0 bcX7_law_0 (j := 27) rfl rfl)

def B_X7_limit_38 (p1 : Int32) (p2 : Int32) (p3 : Int32) (c_now_row : Nat → Int32) (x4 : Int32) (x5 : Int32) : Option ((Int32 × Int32) ⊕ (Nat × Int32)) :=
  if (200 : Int32) < x5 then some (.inr (1, x4)) else bd1 (F_X5_hasRoom p1 (x5 * p2) (x5 * p3) c_now_row) (fun r_14 => if r_14 = (0 : Int32) then some (.inr (1, x4)) else bd1 (F_X5_isQuietWith p1 (x5 * p2) (x5 * p3) c_now_row) (fun r_18 => if r_18 = (0 : Int32) then some (.inr (0, x4)) else some (.inl (x5, x5 + (1 : Int32)))))
def F_X7_limit (K : Nat) (p1 : Int32) (p2 : Int32) (p3 : Int32) (c_now_row : Nat → Int32) : Option (Int32) :=
  bd1 (F_X5_hasSite p1 c_now_row) (fun r_1 => if r_1 = (0 : Int32) then some (-1 : Int32) else bd1 (F_X7_isWay p2 p3) (fun r_5 => if r_5 = (0 : Int32) then some (-1 : Int32) else bd1 (F_X5_isFrozen p1 c_now_row) (fun r_9 => if r_9 = (0 : Int32) then bd2 (lpF (fun u9 : Int32 × Int32 => B_X7_limit_38 p1 p2 p3 c_now_row u9.1 u9.2) K ((0 : Int32), (1 : Int32))) (fun t_22 x4_23 => if t_22 = 0 then some x4_23 else if t_22 = 1 then some x4_23 else none) else some (-1 : Int32))))
abbrev w_X7_limit (E : EE) (a_ a_tape a_reader a_scripts a_now a_trial a_kept a_book a_keptBook a_history a_draws a_refused a_now_row a_now_partners a_now_share a_now_leftOver : Nat) (c_hasImage : Int32) (c_now_askedCount : Int32) (c_now_outcome : Int32) (c_now_row : Nat → Int32) : va_W := [k_X7 a_ a_tape a_reader a_scripts a_now a_trial a_kept a_book a_keptBook a_history a_draws a_refused c_hasImage, k_X5 a_now a_now_row a_now_partners c_now_askedCount c_now_outcome a_now_share a_now_leftOver, k_I E a_now_row 81 c_now_row]
def v_f_X7_limit : List Cond := List.cons (.code yX7_limit cX7_limit 6 (some .int)) (HAppend.hAppend (α := List Cond) (β := List Cond) (γ := List Cond) [.fieldLink RX7 35 "HushWatch" "now" "LHushWatch$State;", .methodLink RX7 120 yX5_hasSite, .instanceMethod yX5_hasSite, .selects RX5 yX5_hasSite yX5_hasSite, .initialized RX5, .methodLink RX7 210 yX7_isWay, .static yX7_isWay, .initialized RX7, .methodLink RX7 143 yX5_isFrozen, .instanceMethod yX5_isFrozen, .selects RX5 yX5_isFrozen yX5_isFrozen, .methodLink RX7 213 yX5_hasRoom, .instanceMethod yX5_hasRoom, .selects RX5 yX5_hasRoom yX5_hasRoom, .methodLink RX7 217 yX5_isQuietWith, .instanceMethod yX5_isQuietWith, .selects RX5 yX5_isQuietWith yX5_isQuietWith] (HAppend.hAppend (α := List Cond) (β := List Cond) (γ := List Cond) wsX70 (HAppend.hAppend (α := List Cond) (β := List Cond) (γ := List Cond) v_f_X5_hasSite (HAppend.hAppend (α := List Cond) (β := List Cond) (γ := List Cond) v_f_X7_isWay (HAppend.hAppend (α := List Cond) (β := List Cond) (γ := List Cond) v_f_X5_isFrozen (HAppend.hAppend (α := List Cond) (β := List Cond) (γ := List Cond) v_f_X5_hasRoom (HAppend.hAppend (α := List Cond) (β := List Cond) (γ := List Cond) v_f_X5_isQuietWith [])))))))
theorem gw_f_X7_limit : v_f_X7_limit.all goodWord = true := gw_c2 (by decide +kernel) (gw_ap gw_wsX70 (gw_ap gw_f_X5_hasSite (gw_ap gw_f_X7_isWay (gw_ap gw_f_X5_isFrozen (gw_ap gw_f_X5_hasRoom (gw_ap gw_f_X5_isQuietWith gw_nil))))))
theorem i_f_X7_limit_X7 : ∀ w ∈ wsX70, w ∈ v_f_X7_limit := fun _ h => List.mem_cons_of_mem _ (List.mem_append_right _ (List.mem_append_left _ h))
theorem g_f_X7_limit_f_X5_hasSite_120 : GoodIn v_f_X7_limit (wsV RX7 120 RX5 yX5_hasSite v_f_X5_hasSite) := goodIn_in gw_f_X7_limit (in4 2 3 4 5 rfl rfl rfl rfl (fun _ h => List.mem_cons_of_mem _ (List.mem_append_right _ (List.mem_append_right _ (List.mem_append_left _ h)))))
theorem g_f_X7_limit_f_X7_isWay_210 : GoodIn v_f_X7_limit (va_wsS RX7 210 yX7_isWay v_f_X7_isWay) := goodIn_in gw_f_X7_limit (in3 6 7 8 rfl rfl rfl (fun _ h => List.mem_cons_of_mem _ (List.mem_append_right _ (List.mem_append_right _ (List.mem_append_right _ (List.mem_append_left _ h))))))
theorem g_f_X7_limit_f_X5_isFrozen_143 : GoodIn v_f_X7_limit (wsV RX7 143 RX5 yX5_isFrozen v_f_X5_isFrozen) := goodIn_in gw_f_X7_limit (in4 9 10 11 5 rfl rfl rfl rfl (fun _ h => List.mem_cons_of_mem _ (List.mem_append_right _ (List.mem_append_right _ (List.mem_append_right _ (List.mem_append_right _ (List.mem_append_left _ h)))))))
theorem g_f_X7_limit_f_X5_hasRoom_213 : GoodIn v_f_X7_limit (wsV RX7 213 RX5 yX5_hasRoom v_f_X5_hasRoom) := goodIn_in gw_f_X7_limit (in4 12 13 14 5 rfl rfl rfl rfl (fun _ h => List.mem_cons_of_mem _ (List.mem_append_right _ (List.mem_append_right _ (List.mem_append_right _ (List.mem_append_right _ (List.mem_append_right _ (List.mem_append_left _ h))))))))
theorem g_f_X7_limit_f_X5_isQuietWith_217 : GoodIn v_f_X7_limit (wsV RX7 217 RX5 yX5_isQuietWith v_f_X5_isQuietWith) := goodIn_in gw_f_X7_limit (in4 15 16 17 5 rfl rfl rfl rfl (fun _ h => List.mem_cons_of_mem _ (List.mem_append_right _ (List.mem_append_right _ (List.mem_append_right _ (List.mem_append_right _ (List.mem_append_right _ (List.mem_append_right _ (List.mem_append_left _ h)))))))))
theorem hd_X7_limit : yX7_limit.cls = RX7 ∧ yX7_limit.cls ≠ "java/lang/invoke/MethodHandle" ∧ yX7_limit.cls ≠ "java/lang/invoke/VarHandle" ∧ (parseMethodDescriptor yX7_limit.desc).map (fun d => d.parameters.length) = some 3 := by decide +kernel
set_option maxHeartbeats 4000000 in
set_option maxRecDepth 100000 in
theorem wb_X7_limit_38 {p : Program} (l : Launch) {e : Env} {s : State} {m : MethodId} {below : List Frame} {meth : Method} {c : Code} {Q : State → Prop} (E : EE) (K : Nat) {a_ a_tape a_reader a_scripts a_now a_trial a_kept a_book a_keptBook a_history a_draws a_refused a_now_row a_now_partners a_now_share a_now_leftOver : Nat} {p1 : Int32} {p2 : Int32} {p3 : Int32} {c_hasImage : Int32} {c_now_askedCount : Int32} {c_now_outcome : Int32} {c_now_row : Nat → Int32} {x4 : Int32} {x5 : Int32} (hx : p.tables.exec = Jvm.exec) (hb : c.code = cX7_limit) (hml : c.maxLocals = 6) (hown : s.vm.findClass RX7 = some m.cls) (hts : ∀ w ∈ v_f_X7_limit, w.before #[Value.ref a_, Value.int p1, Value.int p2, Value.int p3] s = true) (hK : va_K E.1 vwCl (TY E) s) (hN : NX s) {xx : (Int32 × Int32) ⊕ (Nat × Int32)} (hC : ∀ (x4 : Int32), ∀ (x5 : Int32), xx = .inl (x4, x5) → ∀ (ls : Array Slot), lv_has ls 6 [(0, .ref a_), (1, .int p1), (2, .int p2), (3, .int p3), (4, .int x4), (5, .int x5)] → W p l e ({ frames := 3, cells := 0, slots := 0, locals := 73 } : Room) s m #[Value.ref a_, Value.int p1, Value.int p2, Value.int p3] below meth c s.heap [] 0 0 Q (F0 m 38 ls [])) (hE : ∀ (t9 : Nat), ∀ (x4 : Int32), xx = .inr (t9, x4) → ((t9 = 0 → ∀ (ls : Array Slot), lv_has ls 6 [(4, .int x4)] → W p l e ({ frames := 3, cells := 0, slots := 0, locals := 73 } : Room) s m #[Value.ref a_, Value.int p1, Value.int p2, Value.int p3] below meth c s.heap [] 0 0 Q (F0 m 84 ls [])) ∧ (t9 = 1 → ∀ (ls : Array Slot), lv_has ls 6 [(4, .int x4)] → W p l e ({ frames := 3, cells := 0, slots := 0, locals := 73 } : Room) s m #[Value.ref a_, Value.int p1, Value.int p2, Value.int p3] below meth c s.heap [] 0 0 Q (F0 m 97 ls [])))) (hF : B_X7_limit_38 p1 p2 p3 c_now_row x4 x5 = some xx) (hP : va_P E.1 vwCl (w_X7_limit E a_ a_tape a_reader a_scripts a_now a_trial a_kept a_book a_keptBook a_history a_draws a_refused a_now_row a_now_partners a_now_share a_now_leftOver c_hasImage c_now_askedCount c_now_outcome c_now_row) s.heap) : ∀ (ls : Array Slot), lv_has ls 6 [(0, .ref a_), (1, .int p1), (2, .int p2), (3, .int p3), (4, .int x4), (5, .int x5)] → W p l e ({ frames := 3, cells := 0, slots := 0, locals := 73 } : Room) s m #[Value.ref a_, Value.int p1, Value.int p2, Value.int p3] below meth c s.heap [] 0 0 Q (F0 m 38 ls []) := by
  unfold B_X7_limit_38 at hF
  replace hP : va_P E.1 vwCl [k_X7 a_ a_tape a_reader a_scripts a_now a_trial a_kept a_book a_keptBook a_history a_draws a_refused c_hasImage, k_X5 a_now a_now_row a_now_partners c_now_askedCount c_now_outcome a_now_share a_now_leftOver, k_I E a_now_row 81 c_now_row] s.heap := hP
  intro ls hl
  refine lv_iload hx hb (dq_21 0 bcX7_limit_0 (j := 38) (i := 5) rfl rfl) (lv_at hl 5 rfl) ?_
  refine lv_sipush (v := 200) hx hb (dq_17 0 bcX7_limit_0 (j := 40) (i := 200) rfl rfl rfl) (by decide) ?_
  refine lv_icmp_gt (tgt := 97) hx hb (dq_163 0 bcX7_limit_0 (j := 43) (i := 54) rfl rfl rfl) (by decide) (fun c_13 => ?_) (fun c_13 => ?_)
  ·
    replace hF := ip c_13 hF
    cases hF
    exact (hE 1 x4 rfl).2 rfl ls (lv_sub hl [4] rfl)
  ·
    replace hF := inn c_13 hF
    refine lv_aload_n hx hb (dq_42 0 bcX7_limit_0 (j := 46) rfl rfl) rfl (lv_at hl 0 rfl) ?_
    refine gt_X7_3 (v := .ref a_now) hx hb hts i_f_X7_limit_X7 hown hK hP 0 rfl (hts (.fieldLink RX7 35 "HushWatch" "now" "LHushWatch$State;") (List.mem_of_getElem? (i := 1) rfl)) rfl (dq_180 0 bcX7_limit_0 (j := 47) (i := 35) rfl rfl rfl) ?_
    refine lv_iload_n hx hb (dq_27 48 bcX7_limit_1 (j := 2) rfl rfl) rfl (lv_at hl 1 rfl) ?_
    refine lv_iload hx hb (dq_21 48 bcX7_limit_1 (j := 3) (i := 5) rfl rfl) (lv_at hl 5 rfl) ?_
    refine lv_iload_n hx hb (dq_28 48 bcX7_limit_1 (j := 5) rfl rfl) rfl (lv_at hl 2 rfl) ?_
    refine lv_imul hx hb (dq_104 48 bcX7_limit_1 (j := 6) rfl rfl) ?_
    refine lv_iload hx hb (dq_21 48 bcX7_limit_1 (j := 7) (i := 5) rfl rfl) (lv_at hl 5 rfl) ?_
    refine lv_iload_n hx hb (dq_29 48 bcX7_limit_1 (j := 9) rfl rfl) rfl (lv_at hl 3 rfl) ?_
    refine lv_imul hx hb (dq_104 48 bcX7_limit_1 (j := 10) rfl rfl) ?_
    replace hF := bd1_s hF
    obtain ⟨r_14, hc_15, hF⟩ := hF
    have hPc : va_P E.1 vwCl (w_X5_hasRoom E a_now a_now_row a_now_partners a_now_share a_now_leftOver c_now_askedCount c_now_outcome c_now_row) s.heap := hP.sub (ws' := [k_X5 a_now a_now_row a_now_partners c_now_askedCount c_now_outcome a_now_share a_now_leftOver, k_I E a_now_row 81 c_now_row]) [1, 2] rfl
    have hrc := va_recv hK hPc (ci := 6) (q0 := 0) rfl rfl
    refine pE_z (va_runV (As := [.int p1, .int (x5 * p2), .int (x5 * p3)]) (rest := [])  ⟨hx, hb, hml, hown, hts⟩ (f_X5_hasRoom l E (a_ := a_now) (a_row := a_now_row) (a_partners := a_now_partners) (a_share := a_now_share) (a_leftOver := a_now_leftOver) (p1 := p1) (p2 := x5 * p2) (p3 := x5 * p3) (c_askedCount := c_now_askedCount) (c_outcome := c_now_outcome) (c_row := c_now_row) hc_15) (cwV 3 hts g_f_X7_limit_f_X5_hasRoom_213 rfl rfl rfl hd_X5_hasRoom ⟨Nat.le_of_ble_eq_true rfl, Nat.le_of_ble_eq_true rfl⟩) ⟨pP.blind, hrc, (pP.pre ⟨hK, hN⟩ hPc)⟩ rfl rfl hl.1 rfl (lv_room (Nat.le_of_ble_eq_true rfl)) (dq_182 48 bcX7_limit_1 (j := 11) (i := 213) rfl rfl rfl) ⟨Nat.le_of_ble_eq_true rfl, Nat.le_of_ble_eq_true rfl⟩) (fun hb_16 => ?_)
    refine lv_if_eq (tgt := 97) hx hb (dq_153 48 bcX7_limit_1 (j := 14) (i := 35) rfl rfl rfl) (by decide) (fun c_17 => ?_) (fun c_17 => ?_)
    ·
      replace hF := ip c_17 hF
      cases hF
      exact (hE 1 x4 rfl).2 rfl ls (lv_sub hl [4] rfl)
    ·
      replace hF := inn c_17 hF
      refine lv_aload_n hx hb (dq_42 48 bcX7_limit_1 (j := 17) rfl rfl) rfl (lv_at hl 0 rfl) ?_
      refine gt_X7_3 (v := .ref a_now) hx hb hts i_f_X7_limit_X7 hown hK hP 0 rfl (hts (.fieldLink RX7 35 "HushWatch" "now" "LHushWatch$State;") (List.mem_of_getElem? (i := 1) rfl)) rfl (dq_180 48 bcX7_limit_1 (j := 18) (i := 35) rfl rfl rfl) ?_
      refine lv_iload_n hx hb (dq_27 48 bcX7_limit_1 (j := 21) rfl rfl) rfl (lv_at hl 1 rfl) ?_
      refine lv_iload hx hb (dq_21 48 bcX7_limit_1 (j := 22) (i := 5) rfl rfl) (lv_at hl 5 rfl) ?_
      refine lv_iload_n hx hb (dq_28 48 bcX7_limit_1 (j := 24) rfl rfl) rfl (lv_at hl 2 rfl) ?_
      refine lv_imul hx hb (dq_104 48 bcX7_limit_1 (j := 25) rfl rfl) ?_
      refine lv_iload hx hb (dq_21 48 bcX7_limit_1 (j := 26) (i := 5) rfl rfl) (lv_at hl 5 rfl) ?_
      refine lv_iload_n hx hb (dq_29 48 bcX7_limit_1 (j := 28) rfl rfl) rfl (lv_at hl 3 rfl) ?_
      refine lv_imul hx hb (dq_104 48 bcX7_limit_1 (j := 29) rfl rfl) ?_
      replace hF := bd1_s hF
      obtain ⟨r_18, hc_19, hF⟩ := hF
      have hPc : va_P E.1 vwCl (w_X5_isQuietWith E a_now a_now_row a_now_partners a_now_share a_now_leftOver c_now_askedCount c_now_outcome c_now_row) s.heap := hP.sub (ws' := [k_X5 a_now a_now_row a_now_partners c_now_askedCount c_now_outcome a_now_share a_now_leftOver, k_I E a_now_row 81 c_now_row]) [1, 2] rfl
      have hrc := va_recv hK hPc (ci := 6) (q0 := 0) rfl rfl
      refine pE_z (va_runV (As := [.int p1, .int (x5 * p2), .int (x5 * p3)]) (rest := [])  ⟨hx, hb, hml, hown, hts⟩ (f_X5_isQuietWith l E (a_ := a_now) (a_row := a_now_row) (a_partners := a_now_partners) (a_share := a_now_share) (a_leftOver := a_now_leftOver) (p1 := p1) (p2 := x5 * p2) (p3 := x5 * p3) (c_askedCount := c_now_askedCount) (c_outcome := c_now_outcome) (c_row := c_now_row) hc_19) (cwV 3 hts g_f_X7_limit_f_X5_isQuietWith_217 rfl rfl rfl hd_X5_isQuietWith ⟨Nat.le_of_ble_eq_true rfl, Nat.le_of_ble_eq_true rfl⟩) ⟨pP.blind, hrc, (pP.pre ⟨hK, hN⟩ hPc)⟩ rfl rfl hl.1 rfl (lv_room (Nat.le_of_ble_eq_true rfl)) (dq_182 48 bcX7_limit_1 (j := 30) (i := 217) rfl rfl rfl) ⟨Nat.le_of_ble_eq_true rfl, Nat.le_of_ble_eq_true rfl⟩) (fun hb_20 => ?_)
      refine lv_if_ne (tgt := 87) hx hb (dq_154 48 bcX7_limit_1 (j := 33) (i := 6) rfl rfl rfl) (by decide) (fun c_21 => ?_) (fun c_21 => ?_)
      ·
        replace hF := inn c_21 hF
        refine lv_iload hx hb (dq_21 48 bcX7_limit_1 (j := 39) (i := 5) rfl rfl) (lv_at hl 5 rfl) ?_
        refine lv_istore (lv' := [(4, .int x5), (0, .ref a_), (1, .int p1), (2, .int p2), (3, .int p3), (5, .int x5)]) hx hb (dq_54 48 bcX7_limit_1 (j := 41) (i := 4) rfl rfl) hl (by decide) rfl (fun ls hl => ?_)
        refine lv_iinc (v := x5 + (1 : Int32)) (lv' := [(5, .int (x5 + (1 : Int32))), (4, .int x5), (0, .ref a_), (1, .int p1), (2, .int p2), (3, .int p3)]) hx hb (dq_132 48 bcX7_limit_1 (j := 43) (i := 1) rfl rfl rfl) hl (k := 5) rfl (rfl) (by decide) rfl (fun ls hl => ?_)
        refine lv_goto (tgt := 38) hx hb (dq_167 48 bcX7_limit_1 (j := 46) (i := -56) rfl rfl rfl) (by decide) ?_
        cases hF
        exact hC x5 (x5 + (1 : Int32)) rfl ls (lv_sub hl [2, 3, 4, 5, 1, 0] rfl)
      ·
        replace hF := ip c_21 hF
        cases hF
        exact (hE 0 x4 rfl).1 rfl ls (lv_sub hl [4] rfl)

set_option maxHeartbeats 4000000 in
set_option maxRecDepth 100000 in
theorem lw_X7_limit_38 {p : Program} (l : Launch) {e : Env} {s : State} {m : MethodId} {below : List Frame} {meth : Method} {c : Code} {Q : State → Prop} (E : EE) (K : Nat) {a_ a_tape a_reader a_scripts a_now a_trial a_kept a_book a_keptBook a_history a_draws a_refused a_now_row a_now_partners a_now_share a_now_leftOver : Nat} {p1 : Int32} {p2 : Int32} {p3 : Int32} {c_hasImage : Int32} {c_now_askedCount : Int32} {c_now_outcome : Int32} {c_now_row : Nat → Int32} (hx : p.tables.exec = Jvm.exec) (hb : c.code = cX7_limit) (hml : c.maxLocals = 6) (hown : s.vm.findClass RX7 = some m.cls) (hts : ∀ w ∈ v_f_X7_limit, w.before #[Value.ref a_, Value.int p1, Value.int p2, Value.int p3] s = true) (hK : va_K E.1 vwCl (TY E) s) (hN : NX s) (hP : va_P E.1 vwCl (w_X7_limit E a_ a_tape a_reader a_scripts a_now a_trial a_kept a_book a_keptBook a_history a_draws a_refused a_now_row a_now_partners a_now_share a_now_leftOver c_hasImage c_now_askedCount c_now_outcome c_now_row) s.heap) (j9 : Nat) (x4 : Int32) (x5 : Int32) (t9' : Nat) (x4' : Int32) (hL : lpF (fun u9 : Int32 × Int32 => B_X7_limit_38 p1 p2 p3 c_now_row u9.1 u9.2) j9 (x4, x5) = some (t9', x4')) (hX : (t9' = 0 → ∀ (ls : Array Slot), lv_has ls 6 [(4, .int x4')] → W p l e ({ frames := 3, cells := 0, slots := 0, locals := 73 } : Room) s m #[Value.ref a_, Value.int p1, Value.int p2, Value.int p3] below meth c s.heap [] 0 0 Q (F0 m 84 ls [])) ∧ (t9' = 1 → ∀ (ls : Array Slot), lv_has ls 6 [(4, .int x4')] → W p l e ({ frames := 3, cells := 0, slots := 0, locals := 73 } : Room) s m #[Value.ref a_, Value.int p1, Value.int p2, Value.int p3] below meth c s.heap [] 0 0 Q (F0 m 97 ls []))) : ∀ (ls : Array Slot), lv_has ls 6 [(0, .ref a_), (1, .int p1), (2, .int p2), (3, .int p3), (4, .int x4), (5, .int x5)] → W p l e ({ frames := 3, cells := 0, slots := 0, locals := 73 } : Room) s m #[Value.ref a_, Value.int p1, Value.int p2, Value.int p3] below meth c s.heap [] 0 0 Q (F0 m 38 ls []) := by
  exact lp_rule (P := (fun u9 : Int32 × Int32 => ∀ (ls : Array Slot), lv_has ls 6 [(0, .ref a_), (1, .int p1), (2, .int p2), (3, .int p3), (4, .int u9.1), (5, .int u9.2)] → W p l e ({ frames := 3, cells := 0, slots := 0, locals := 73 } : Room) s m #[Value.ref a_, Value.int p1, Value.int p2, Value.int p3] below meth c s.heap [] 0 0 Q (F0 m 38 ls []))) (R := (fun r9 : Nat × Int32 => (r9.1 = 0 → ∀ (ls : Array Slot), lv_has ls 6 [(4, .int r9.2)] → W p l e ({ frames := 3, cells := 0, slots := 0, locals := 73 } : Room) s m #[Value.ref a_, Value.int p1, Value.int p2, Value.int p3] below meth c s.heap [] 0 0 Q (F0 m 84 ls [])) ∧ (r9.1 = 1 → ∀ (ls : Array Slot), lv_has ls 6 [(4, .int r9.2)] → W p l e ({ frames := 3, cells := 0, slots := 0, locals := 73 } : Room) s m #[Value.ref a_, Value.int p1, Value.int p2, Value.int p3] below meth c s.heap [] 0 0 Q (F0 m 97 ls [])))) (fun u9 xx hF hC hE => wb_X7_limit_38 l E K (p1 := p1) (p2 := p2) (p3 := p3) (c_hasImage := c_hasImage) (c_now_askedCount := c_now_askedCount) (c_now_outcome := c_now_outcome) (c_now_row := c_now_row) (x4 := u9.1) (x5 := u9.2) hx hb hml hown hts hK hN (fun x4 x5 q9 => hC _ q9) (fun t9 x4 q9 => hE _ q9) hF hP) j9 (x4, x5) (t9', x4') hL hX

set_option maxHeartbeats 4000000 in
set_option maxRecDepth 100000 in
theorem f_X7_limit (l : Launch) (E : EE) (K : Nat) {a_ a_tape a_reader a_scripts a_now a_trial a_kept a_book a_keptBook a_history a_draws a_refused a_now_row a_now_partners a_now_share a_now_leftOver : Nat} {p1 : Int32} {p2 : Int32} {p3 : Int32} {c_hasImage : Int32} {c_now_askedCount : Int32} {c_now_outcome : Int32} {c_now_row : Nat → Int32} {rr : Int32} (hF : F_X7_limit K p1 p2 p3 c_now_row = some rr) : Met l yX7_limit v_f_X7_limit (({ frames := 3, cells := 0, slots := 0, locals := 73 } : Room)) (va_Pc [.ref a_, .int p1, .int p2, .int p3] (pP E (w_X7_limit E a_ a_tape a_reader a_scripts a_now a_trial a_kept a_book a_keptBook a_history a_draws a_refused a_now_row a_now_partners a_now_share a_now_leftOver c_hasImage c_now_askedCount c_now_outcome c_now_row))) (vp_Si (fun q : Int32 => q = rr)) 0 0 (fun _ => False) := by
  refine Met.ofW (cc := cX7_limit) (maxL := 6) (ret := (some .int)) (by decide) rfl ?_
  intro p e s m args below meth c s₁ B hml hv
  obtain ⟨rfl, ⟨hK, hN⟩, hP⟩ := hv
  have hx := B.exec
  have hb := B.bytes
  have hr := B.returns
  have hts := atoms_spec (ws := v_f_X7_limit) B.pre
  have hown : s.vm.findClass RX7 = some m.cls := own_of hd_X7_limit.1 (findClass_of_methodNamed B.named)
  have hlocks : meth.locks = false := B.notSynchronized
  replace hP : va_P E.1 vwCl [k_X7 a_ a_tape a_reader a_scripts a_now a_trial a_kept a_book a_keptBook a_history a_draws a_refused c_hasImage, k_X5 a_now a_now_row a_now_partners c_now_askedCount c_now_outcome a_now_share a_now_leftOver, k_I E a_now_row 81 c_now_row] s.heap := hP
  have hl := lv_entry ([.ref a_, .int p1, .int p2, .int p3]) (n := 6) (Nat.le_of_ble_eq_true rfl)
  rw [lg_entry_eq]
  generalize (lg_sl ([.ref a_, .int p1, .int p2, .int p3]) ++ List.replicate (6 - (lg_sl ([.ref a_, .int p1, .int p2, .int p3])).length) Slot.unset).toArray = ls at hl ⊢
  have hl : lv_has ls 6 [(0, .ref a_), (1, .int p1), (2, .int p2), (3, .int p3)] := hl
  obtain ⟨Q, hQ⟩ : ∃ Q : State → Prop, Q = MQ below (vp_Si (fun q : Int32 => q = rr)) #[Value.ref a_, Value.int p1, Value.int p2, Value.int p3] s 0 0 (fun _ => False) := ⟨_, rfl⟩
  rw [← hQ]
  change W p l e ({ frames := 3, cells := 0, slots := 0, locals := 73 } : Room) s m #[Value.ref a_, Value.int p1, Value.int p2, Value.int p3] below meth c s.heap [] 0 0 Q (F0 m 0 ls [])
  unfold F_X7_limit at hF
  refine lv_aload_n hx hb (dq_42 0 bcX7_limit_0 (j := 0) rfl rfl) rfl (lv_at hl 0 rfl) ?_
  refine gt_X7_3 (v := .ref a_now) hx hb hts i_f_X7_limit_X7 hown hK hP 0 rfl (hts (.fieldLink RX7 35 "HushWatch" "now" "LHushWatch$State;") (List.mem_of_getElem? (i := 1) rfl)) rfl (dq_180 0 bcX7_limit_0 (j := 1) (i := 35) rfl rfl rfl) ?_
  refine lv_iload_n hx hb (dq_27 0 bcX7_limit_0 (j := 4) rfl rfl) rfl (lv_at hl 1 rfl) ?_
  replace hF := bd1_s hF
  obtain ⟨r_1, hc_2, hF⟩ := hF
  have hPc : va_P E.1 vwCl (w_X5_hasSite E a_now a_now_row a_now_partners a_now_share a_now_leftOver c_now_askedCount c_now_outcome c_now_row) s.heap := hP.sub (ws' := [k_X5 a_now a_now_row a_now_partners c_now_askedCount c_now_outcome a_now_share a_now_leftOver, k_I E a_now_row 81 c_now_row]) [1, 2] rfl
  have hrc := va_recv hK hPc (ci := 6) (q0 := 0) rfl rfl
  refine pE_z (va_runV (As := [.int p1]) (rest := [])  ⟨hx, hb, hml, hown, hts⟩ (f_X5_hasSite l E (a_ := a_now) (a_row := a_now_row) (a_partners := a_now_partners) (a_share := a_now_share) (a_leftOver := a_now_leftOver) (p1 := p1) (c_askedCount := c_now_askedCount) (c_outcome := c_now_outcome) (c_row := c_now_row) hc_2) (cwV 1 hts g_f_X7_limit_f_X5_hasSite_120 rfl rfl rfl hd_X5_hasSite ⟨Nat.le_of_ble_eq_true rfl, Nat.le_of_ble_eq_true rfl⟩) ⟨pP.blind, hrc, (pP.pre ⟨hK, hN⟩ hPc)⟩ rfl rfl hl.1 rfl (lv_room (Nat.le_of_ble_eq_true rfl)) (dq_182 0 bcX7_limit_0 (j := 5) (i := 120) rfl rfl rfl) ⟨Nat.le_of_ble_eq_true rfl, Nat.le_of_ble_eq_true rfl⟩) (fun hb_3 => ?_)
  refine lv_if_eq (tgt := 30) hx hb (dq_153 0 bcX7_limit_0 (j := 8) (i := 22) rfl rfl rfl) (by decide) (fun c_4 => ?_) (fun c_4 => ?_)
  ·
    replace hF := ip c_4 hF
    refine lv_iconst (v := -1) hx hb (dq_2 0 bcX7_limit_0 (j := 30) rfl rfl) (by decide) ?_
    rw [hQ]
    obtain e9_0 := inj1 hF
    exact W.iret (v := (-1 : Int32)) hx hb hr (fun tt ht hW => ⟨_, rfl, e9_0, ht⟩) (fun _ h => by cases h) (dq_172 0 bcX7_limit_0 (j := 31) rfl rfl)
  ·
    replace hF := inn c_4 hF
    refine lv_iload_n hx hb (dq_28 0 bcX7_limit_0 (j := 11) rfl rfl) rfl (lv_at hl 2 rfl) ?_
    refine lv_iload_n hx hb (dq_29 0 bcX7_limit_0 (j := 12) rfl rfl) rfl (lv_at hl 3 rfl) ?_
    replace hF := bd1_s hF
    obtain ⟨r_5, hc_6, hF⟩ := hF
    have hPc : va_P E.1 vwCl [] s.heap := fun k q h => by simp at h
    refine pE_z (va_runS (As := [.int p2, .int p3]) (rest := [])  ⟨hx, hb, hml, hown, hts⟩ (f_X7_isWay l E (p0 := p2) (p1 := p3) hc_6) (va_cwS 2 hts g_f_X7_limit_f_X7_isWay_210 rfl rfl rfl hd_X7_isWay.2 ⟨Nat.le_of_ble_eq_true rfl, Nat.le_of_ble_eq_true rfl⟩) ⟨pP.blind, (pP.pre ⟨hK, hN⟩ hPc)⟩ rfl rfl hl.1 rfl (lv_room (Nat.le_of_ble_eq_true rfl)) (dq_184 0 bcX7_limit_0 (j := 13) (i := 210) rfl rfl rfl) ⟨Nat.le_of_ble_eq_true rfl, Nat.le_of_ble_eq_true rfl⟩) (fun hb_7 => ?_)
    refine lv_if_eq (tgt := 30) hx hb (dq_153 0 bcX7_limit_0 (j := 16) (i := 14) rfl rfl rfl) (by decide) (fun c_8 => ?_) (fun c_8 => ?_)
    ·
      replace hF := ip c_8 hF
      refine lv_iconst (v := -1) hx hb (dq_2 0 bcX7_limit_0 (j := 30) rfl rfl) (by decide) ?_
      rw [hQ]
      obtain e9_0 := inj1 hF
      exact W.iret (v := (-1 : Int32)) hx hb hr (fun tt ht hW => ⟨_, rfl, e9_0, ht⟩) (fun _ h => by cases h) (dq_172 0 bcX7_limit_0 (j := 31) rfl rfl)
    ·
      replace hF := inn c_8 hF
      refine lv_aload_n hx hb (dq_42 0 bcX7_limit_0 (j := 19) rfl rfl) rfl (lv_at hl 0 rfl) ?_
      refine gt_X7_3 (v := .ref a_now) hx hb hts i_f_X7_limit_X7 hown hK hP 0 rfl (hts (.fieldLink RX7 35 "HushWatch" "now" "LHushWatch$State;") (List.mem_of_getElem? (i := 1) rfl)) rfl (dq_180 0 bcX7_limit_0 (j := 20) (i := 35) rfl rfl rfl) ?_
      refine lv_iload_n hx hb (dq_27 0 bcX7_limit_0 (j := 23) rfl rfl) rfl (lv_at hl 1 rfl) ?_
      replace hF := bd1_s hF
      obtain ⟨r_9, hc_10, hF⟩ := hF
      have hPc : va_P E.1 vwCl (w_X5_isFrozen E a_now a_now_row a_now_partners a_now_share a_now_leftOver c_now_askedCount c_now_outcome c_now_row) s.heap := hP.sub (ws' := [k_X5 a_now a_now_row a_now_partners c_now_askedCount c_now_outcome a_now_share a_now_leftOver, k_I E a_now_row 81 c_now_row]) [1, 2] rfl
      have hrc := va_recv hK hPc (ci := 6) (q0 := 0) rfl rfl
      refine pE_z (va_runV (As := [.int p1]) (rest := [])  ⟨hx, hb, hml, hown, hts⟩ (f_X5_isFrozen l E (a_ := a_now) (a_row := a_now_row) (a_partners := a_now_partners) (a_share := a_now_share) (a_leftOver := a_now_leftOver) (p1 := p1) (c_askedCount := c_now_askedCount) (c_outcome := c_now_outcome) (c_row := c_now_row) hc_10) (cwV 1 hts g_f_X7_limit_f_X5_isFrozen_143 rfl rfl rfl hd_X5_isFrozen ⟨Nat.le_of_ble_eq_true rfl, Nat.le_of_ble_eq_true rfl⟩) ⟨pP.blind, hrc, (pP.pre ⟨hK, hN⟩ hPc)⟩ rfl rfl hl.1 rfl (lv_room (Nat.le_of_ble_eq_true rfl)) (dq_182 0 bcX7_limit_0 (j := 24) (i := 143) rfl rfl rfl) ⟨Nat.le_of_ble_eq_true rfl, Nat.le_of_ble_eq_true rfl⟩) (fun hb_11 => ?_)
      refine lv_if_eq (tgt := 32) hx hb (dq_153 0 bcX7_limit_0 (j := 27) (i := 5) rfl rfl rfl) (by decide) (fun c_12 => ?_) (fun c_12 => ?_)
      ·
        replace hF := ip c_12 hF
        refine lv_iconst (v := 0) hx hb (dq_3 0 bcX7_limit_0 (j := 32) rfl rfl) (by decide) ?_
        refine lv_istore (lv' := [(4, .int (0 : Int32)), (0, .ref a_), (1, .int p1), (2, .int p2), (3, .int p3)]) hx hb (dq_54 0 bcX7_limit_0 (j := 33) (i := 4) rfl rfl) hl (by decide) rfl (fun ls hl => ?_)
        refine lv_iconst (v := 1) hx hb (dq_4 0 bcX7_limit_0 (j := 35) rfl rfl) (by decide) ?_
        refine lv_istore (lv' := [(5, .int (1 : Int32)), (4, .int (0 : Int32)), (0, .ref a_), (1, .int p1), (2, .int p2), (3, .int p3)]) hx hb (dq_54 0 bcX7_limit_0 (j := 36) (i := 5) rfl rfl) hl (by decide) rfl (fun ls hl => ?_)
        replace hF := bd2_s hF
        obtain ⟨t_22, x4_23, hL_24, hF⟩ := hF
        refine lw_X7_limit_38 l E K (p1 := p1) (p2 := p2) (p3 := p3) (c_hasImage := c_hasImage) (c_now_askedCount := c_now_askedCount) (c_now_outcome := c_now_outcome) (c_now_row := c_now_row) hx hb hml hown hts hK hN hP K (0 : Int32) (1 : Int32) t_22 x4_23 hL_24 ⟨?_, ?_⟩ ls (lv_sub hl [2, 3, 4, 5, 1, 0] rfl)
        ·
          intro t9
          replace hF := ip t9 hF
          intro ls hl
          refine lv_goto (tgt := 97) hx hb (dq_167 48 bcX7_limit_1 (j := 36) (i := 13) rfl rfl rfl) (by decide) ?_
          refine lv_iload hx hb (dq_21 96 bcX7_limit_2 (j := 1) (i := 4) rfl rfl) (lv_at hl 0 rfl) ?_
          rw [hQ]
          obtain e9_0 := inj1 hF
          exact W.iret (v := x4_23) hx hb hr (fun tt ht hW => ⟨_, rfl, e9_0, ht⟩) (fun _ h => by cases h) (dq_172 96 bcX7_limit_2 (j := 3) rfl rfl)
        ·
          intro t9
          replace hF := inn (show ¬ t_22 = 0 by omega) hF
          replace hF := ip t9 hF
          intro ls hl
          refine lv_iload hx hb (dq_21 96 bcX7_limit_2 (j := 1) (i := 4) rfl rfl) (lv_at hl 0 rfl) ?_
          rw [hQ]
          obtain e9_0 := inj1 hF
          exact W.iret (v := x4_23) hx hb hr (fun tt ht hW => ⟨_, rfl, e9_0, ht⟩) (fun _ h => by cases h) (dq_172 96 bcX7_limit_2 (j := 3) rfl rfl)
      ·
        replace hF := inn c_12 hF
        refine lv_iconst (v := -1) hx hb (dq_2 0 bcX7_limit_0 (j := 30) rfl rfl) (by decide) ?_
        rw [hQ]
        obtain e9_0 := inj1 hF
        exact W.iret (v := (-1 : Int32)) hx hb hr (fun tt ht hW => ⟨_, rfl, e9_0, ht⟩) (fun _ h => by cases h) (dq_172 0 bcX7_limit_0 (j := 31) rfl rfl)

def F_X7_log (p1 : Int32) (p2 : Int32) (c_now_row : Nat → Int32) (c_book_lines : Nat → Int32) : Option (Int32) :=
  if p1 < (0 : Int32) then some (-100000000 : Int32) else bd1 (F_X7_loggedActs c_now_row) (fun r_2 => if r_2 ≤ p1 then some (-100000000 : Int32) else if p2 < (0 : Int32) then some (-100000000 : Int32) else if p2 < (3 : Int32) then bd1 (F_X0_read (((c_now_row 16) - (1 : Int32)) - p1) p2 c_book_lines) (fun r_7 => some r_7) else some (-100000000 : Int32))
abbrev w_X7_log (E : EE) (a_ a_tape a_reader a_scripts a_now a_trial a_kept a_book a_keptBook a_history a_draws a_refused a_now_row a_now_partners a_now_share a_now_leftOver a_book_lines : Nat) (c_hasImage : Int32) (c_now_askedCount : Int32) (c_now_outcome : Int32) (c_now_row : Nat → Int32) (c_book_lines : Nat → Int32) : va_W := [k_X7 a_ a_tape a_reader a_scripts a_now a_trial a_kept a_book a_keptBook a_history a_draws a_refused c_hasImage, k_X5 a_now a_now_row a_now_partners c_now_askedCount c_now_outcome a_now_share a_now_leftOver, k_I E a_now_row 81 c_now_row, k_X0 a_book a_book_lines, k_I E a_book_lines 300 c_book_lines]
def v_f_X7_log : List Cond := List.cons (.code yX7_log cX7_log 3 (some .int)) (HAppend.hAppend (α := List Cond) (β := List Cond) (γ := List Cond) [.constant RX7 113 (-100000000), .fieldLink RX7 48 "HushWatch" "book" "LHushWatch$Book;", .fieldLink RX7 35 "HushWatch" "now" "LHushWatch$State;", .methodLink RX7 204 yX7_loggedActs, .instanceMethod yX7_loggedActs, .selects RX7 yX7_loggedActs yX7_loggedActs, .initialized RX7, .methodLink RX7 207 yX0_read, .instanceMethod yX0_read, .selects RX0 yX0_read yX0_read, .initialized RX0] (HAppend.hAppend (α := List Cond) (β := List Cond) (γ := List Cond) v_f_X7_loggedActs (HAppend.hAppend (α := List Cond) (β := List Cond) (γ := List Cond) wsX70 (HAppend.hAppend (α := List Cond) (β := List Cond) (γ := List Cond) wsX50 (HAppend.hAppend (α := List Cond) (β := List Cond) (γ := List Cond) v_f_X0_read [])))))
theorem gw_f_X7_log : v_f_X7_log.all goodWord = true := gw_c2 (by decide +kernel) (gw_ap gw_f_X7_loggedActs (gw_ap gw_wsX70 (gw_ap gw_wsX50 (gw_ap gw_f_X0_read gw_nil))))
theorem i_f_X7_log_X7 : ∀ w ∈ wsX70, w ∈ v_f_X7_log := fun _ h => List.mem_cons_of_mem _ (List.mem_append_right _ (List.mem_append_right _ (List.mem_append_left _ h)))
theorem i_f_X7_log_X5 : ∀ w ∈ wsX50, w ∈ v_f_X7_log := fun _ h => List.mem_cons_of_mem _ (List.mem_append_right _ (List.mem_append_right _ (List.mem_append_right _ (List.mem_append_left _ h))))
theorem g_f_X7_log_f_X7_loggedActs_204 : GoodIn v_f_X7_log (wsV RX7 204 RX7 yX7_loggedActs v_f_X7_loggedActs) := goodIn_in gw_f_X7_log (in4 4 5 6 7 rfl rfl rfl rfl (fun _ h => List.mem_cons_of_mem _ (List.mem_append_right _ (List.mem_append_left _ h))))
theorem g_f_X7_log_f_X0_read_207 : GoodIn v_f_X7_log (wsV RX7 207 RX0 yX0_read v_f_X0_read) := goodIn_in gw_f_X7_log (in4 8 9 10 11 rfl rfl rfl rfl (fun _ h => List.mem_cons_of_mem _ (List.mem_append_right _ (List.mem_append_right _ (List.mem_append_right _ (List.mem_append_right _ (List.mem_append_left _ h)))))))
theorem hd_X7_log : yX7_log.cls = RX7 ∧ yX7_log.cls ≠ "java/lang/invoke/MethodHandle" ∧ yX7_log.cls ≠ "java/lang/invoke/VarHandle" ∧ (parseMethodDescriptor yX7_log.desc).map (fun d => d.parameters.length) = some 2 := by decide +kernel
set_option maxHeartbeats 4000000 in
set_option maxRecDepth 100000 in
theorem f_X7_log (l : Launch) (E : EE) {a_ a_tape a_reader a_scripts a_now a_trial a_kept a_book a_keptBook a_history a_draws a_refused a_now_row a_now_partners a_now_share a_now_leftOver a_book_lines : Nat} {p1 : Int32} {p2 : Int32} {c_hasImage : Int32} {c_now_askedCount : Int32} {c_now_outcome : Int32} {c_now_row : Nat → Int32} {c_book_lines : Nat → Int32} {rr : Int32} (hF : F_X7_log p1 p2 c_now_row c_book_lines = some rr) : Met l yX7_log v_f_X7_log (({ frames := 2, cells := 0, slots := 0, locals := 44 } : Room)) (va_Pc [.ref a_, .int p1, .int p2] (pP E (w_X7_log E a_ a_tape a_reader a_scripts a_now a_trial a_kept a_book a_keptBook a_history a_draws a_refused a_now_row a_now_partners a_now_share a_now_leftOver a_book_lines c_hasImage c_now_askedCount c_now_outcome c_now_row c_book_lines))) (vp_Si (fun q : Int32 => q = rr)) 0 0 (fun _ => False) := by
  refine Met.ofW (cc := cX7_log) (maxL := 3) (ret := (some .int)) (by decide) rfl ?_
  intro p e s m args below meth c s₁ B hml hv
  obtain ⟨rfl, ⟨hK, hN⟩, hP⟩ := hv
  have hx := B.exec
  have hb := B.bytes
  have hr := B.returns
  have hts := atoms_spec (ws := v_f_X7_log) B.pre
  have hown : s.vm.findClass RX7 = some m.cls := own_of hd_X7_log.1 (findClass_of_methodNamed B.named)
  have hlocks : meth.locks = false := B.notSynchronized
  replace hP : va_P E.1 vwCl [k_X7 a_ a_tape a_reader a_scripts a_now a_trial a_kept a_book a_keptBook a_history a_draws a_refused c_hasImage, k_X5 a_now a_now_row a_now_partners c_now_askedCount c_now_outcome a_now_share a_now_leftOver, k_I E a_now_row 81 c_now_row, k_X0 a_book a_book_lines, k_I E a_book_lines 300 c_book_lines] s.heap := hP
  have hl := lv_entry ([.ref a_, .int p1, .int p2]) (n := 3) (Nat.le_of_ble_eq_true rfl)
  rw [lg_entry_eq]
  generalize (lg_sl ([.ref a_, .int p1, .int p2]) ++ List.replicate (3 - (lg_sl ([.ref a_, .int p1, .int p2])).length) Slot.unset).toArray = ls at hl ⊢
  have hl : lv_has ls 3 [(0, .ref a_), (1, .int p1), (2, .int p2)] := hl
  obtain ⟨Q, hQ⟩ : ∃ Q : State → Prop, Q = MQ below (vp_Si (fun q : Int32 => q = rr)) #[Value.ref a_, Value.int p1, Value.int p2] s 0 0 (fun _ => False) := ⟨_, rfl⟩
  rw [← hQ]
  change W p l e ({ frames := 2, cells := 0, slots := 0, locals := 44 } : Room) s m #[Value.ref a_, Value.int p1, Value.int p2] below meth c s.heap [] 0 0 Q (F0 m 0 ls [])
  unfold F_X7_log at hF
  refine lv_iload_n hx hb (dq_27 0 bcX7_log_0 (j := 0) rfl rfl) rfl (lv_at hl 1 rfl) ?_
  refine lv_if_lt (tgt := 21) hx hb (dq_155 0 bcX7_log_0 (j := 1) (i := 20) rfl rfl rfl) (by decide) (fun c_1 => ?_) (fun c_1 => ?_)
  ·
    replace hF := ip c_1 hF
    refine lv_ldc (v := -100000000) hx hb hown (hts (.constant RX7 113 (-100000000)) (List.mem_of_getElem? (i := 1) rfl)) (dq_18 0 bcX7_log_0 (j := 21) (i := 113) rfl rfl) ?_
    rw [hQ]
    obtain e9_0 := inj1 hF
    exact W.iret (v := (-100000000 : Int32)) hx hb hr (fun tt ht hW => ⟨_, rfl, e9_0, ht⟩) (fun _ h => by cases h) (dq_172 0 bcX7_log_0 (j := 23) rfl rfl)
  ·
    replace hF := inn c_1 hF
    refine lv_iload_n hx hb (dq_27 0 bcX7_log_0 (j := 4) rfl rfl) rfl (lv_at hl 1 rfl) ?_
    refine lv_aload_n hx hb (dq_42 0 bcX7_log_0 (j := 5) rfl rfl) rfl (lv_at hl 0 rfl) ?_
    replace hF := bd1_s hF
    obtain ⟨r_2, hc_3, hF⟩ := hF
    have hPc : va_P E.1 vwCl (w_X7_loggedActs E a_ a_tape a_reader a_scripts a_now a_trial a_kept a_book a_keptBook a_history a_draws a_refused a_now_row a_now_partners a_now_share a_now_leftOver c_hasImage c_now_askedCount c_now_outcome c_now_row) s.heap := hP.sub (ws' := [k_X7 a_ a_tape a_reader a_scripts a_now a_trial a_kept a_book a_keptBook a_history a_draws a_refused c_hasImage, k_X5 a_now a_now_row a_now_partners c_now_askedCount c_now_outcome a_now_share a_now_leftOver, k_I E a_now_row 81 c_now_row]) [0, 1, 2] rfl
    have hrc := va_recv hK hPc (ci := 8) (q0 := 0) rfl rfl
    refine pE_i (va_runV (As := []) (rest := [.int p1])  ⟨hx, hb, hml, hown, hts⟩ (f_X7_loggedActs l E (a_ := a_) (a_tape := a_tape) (a_reader := a_reader) (a_scripts := a_scripts) (a_now := a_now) (a_trial := a_trial) (a_kept := a_kept) (a_book := a_book) (a_keptBook := a_keptBook) (a_history := a_history) (a_draws := a_draws) (a_refused := a_refused) (a_now_row := a_now_row) (a_now_partners := a_now_partners) (a_now_share := a_now_share) (a_now_leftOver := a_now_leftOver) (c_hasImage := c_hasImage) (c_now_askedCount := c_now_askedCount) (c_now_outcome := c_now_outcome) (c_now_row := c_now_row) hc_3) (cwV 0 hts g_f_X7_log_f_X7_loggedActs_204 rfl rfl rfl hd_X7_loggedActs ⟨Nat.le_of_ble_eq_true rfl, Nat.le_of_ble_eq_true rfl⟩) ⟨pP.blind, hrc, (pP.pre ⟨hK, hN⟩ hPc)⟩ rfl rfl hl.1 rfl (lv_room (Nat.le_of_ble_eq_true rfl)) (dq_182 0 bcX7_log_0 (j := 6) (i := 204) rfl rfl rfl) ⟨Nat.le_of_ble_eq_true rfl, Nat.le_of_ble_eq_true rfl⟩) ?_
    refine lv_icmp_ge (tgt := 21) hx hb (dq_162 0 bcX7_log_0 (j := 9) (i := 12) rfl rfl rfl) (by decide) (fun c_4 => ?_) (fun c_4 => ?_)
    ·
      replace hF := ip c_4 hF
      refine lv_ldc (v := -100000000) hx hb hown (hts (.constant RX7 113 (-100000000)) (List.mem_of_getElem? (i := 1) rfl)) (dq_18 0 bcX7_log_0 (j := 21) (i := 113) rfl rfl) ?_
      rw [hQ]
      obtain e9_0 := inj1 hF
      exact W.iret (v := (-100000000 : Int32)) hx hb hr (fun tt ht hW => ⟨_, rfl, e9_0, ht⟩) (fun _ h => by cases h) (dq_172 0 bcX7_log_0 (j := 23) rfl rfl)
    ·
      replace hF := inn c_4 hF
      refine lv_iload_n hx hb (dq_28 0 bcX7_log_0 (j := 12) rfl rfl) rfl (lv_at hl 2 rfl) ?_
      refine lv_if_lt (tgt := 21) hx hb (dq_155 0 bcX7_log_0 (j := 13) (i := 8) rfl rfl rfl) (by decide) (fun c_5 => ?_) (fun c_5 => ?_)
      ·
        replace hF := ip c_5 hF
        refine lv_ldc (v := -100000000) hx hb hown (hts (.constant RX7 113 (-100000000)) (List.mem_of_getElem? (i := 1) rfl)) (dq_18 0 bcX7_log_0 (j := 21) (i := 113) rfl rfl) ?_
        rw [hQ]
        obtain e9_0 := inj1 hF
        exact W.iret (v := (-100000000 : Int32)) hx hb hr (fun tt ht hW => ⟨_, rfl, e9_0, ht⟩) (fun _ h => by cases h) (dq_172 0 bcX7_log_0 (j := 23) rfl rfl)
      ·
        replace hF := inn c_5 hF
        refine lv_iload_n hx hb (dq_28 0 bcX7_log_0 (j := 16) rfl rfl) rfl (lv_at hl 2 rfl) ?_
        refine lv_iconst (v := 3) hx hb (dq_6 0 bcX7_log_0 (j := 17) rfl rfl) (by decide) ?_
        refine lv_icmp_lt (tgt := 24) hx hb (dq_161 0 bcX7_log_0 (j := 18) (i := 6) rfl rfl rfl) (by decide) (fun c_6 => ?_) (fun c_6 => ?_)
        ·
          replace hF := ip c_6 hF
          refine lv_aload_n hx hb (dq_42 0 bcX7_log_0 (j := 24) rfl rfl) rfl (lv_at hl 0 rfl) ?_
          refine gt_X7_6 (v := .ref a_book) hx hb hts i_f_X7_log_X7 hown hK hP 0 rfl (hts (.fieldLink RX7 48 "HushWatch" "book" "LHushWatch$Book;") (List.mem_of_getElem? (i := 2) rfl)) rfl (dq_180 0 bcX7_log_0 (j := 25) (i := 48) rfl rfl rfl) ?_
          refine lv_aload_n hx hb (dq_42 0 bcX7_log_0 (j := 28) rfl rfl) rfl (lv_at hl 0 rfl) ?_
          refine gt_X7_3 (v := .ref a_now) hx hb hts i_f_X7_log_X7 hown hK hP 0 rfl (hts (.fieldLink RX7 35 "HushWatch" "now" "LHushWatch$State;") (List.mem_of_getElem? (i := 3) rfl)) rfl (dq_180 0 bcX7_log_0 (j := 29) (i := 35) rfl rfl rfl) ?_
          refine va_getN (D := E.1) (ci := 6) (v := .ref a_now_row) (C := RX5) (T := TX5) (N := 6) hx hb hts i_f_X7_log_X5 hown hK hP 1 rfl rfl 0 (by decide) (nx hN 12 rfl) (fun _ h9 => h9) rfl (dq_180 0 bcX7_log_0 (j := 32) (i := 114) rfl rfl rfl) ?_
          refine lv_bipush (v := 16) hx hb (dq_16 0 bcX7_log_0 (j := 35) (i := 16) rfl rfl rfl) (by decide) ?_
          refine va_iald hx hb hK hP 2 0 rfl rfl (vin rfl) (dq_46 0 bcX7_log_0 (j := 37) rfl rfl) ?_
          refine W.eq (g2 := F0 m 38 ls [.int (c_now_row 16), .ref a_book]) rfl ?_
          refine lv_iconst (v := 1) hx hb (dq_4 0 bcX7_log_0 (j := 38) rfl rfl) (by decide) ?_
          refine lv_isub hx hb (dq_100 0 bcX7_log_0 (j := 39) rfl rfl) ?_
          refine lv_iload_n hx hb (dq_27 0 bcX7_log_0 (j := 40) rfl rfl) rfl (lv_at hl 1 rfl) ?_
          refine lv_isub hx hb (dq_100 0 bcX7_log_0 (j := 41) rfl rfl) ?_
          refine lv_iload_n hx hb (dq_28 0 bcX7_log_0 (j := 42) rfl rfl) rfl (lv_at hl 2 rfl) ?_
          replace hF := bd1_s hF
          obtain ⟨r_7, hc_8, hF⟩ := hF
          have hPc : va_P E.1 vwCl (w_X0_read E a_book a_book_lines c_book_lines) s.heap := hP.sub (ws' := [k_X0 a_book a_book_lines, k_I E a_book_lines 300 c_book_lines]) [3, 4] rfl
          have hrc := va_recv hK hPc (ci := 1) (q0 := 0) rfl rfl
          refine pE_i (va_runV (As := [.int (((c_now_row 16) - (1 : Int32)) - p1), .int p2]) (rest := [])  ⟨hx, hb, hml, hown, hts⟩ (f_X0_read l E (a_ := a_book) (a_lines := a_book_lines) (p1 := ((c_now_row 16) - (1 : Int32)) - p1) (p2 := p2) (c_lines := c_book_lines) hc_8) (cwV 2 hts g_f_X7_log_f_X0_read_207 rfl rfl rfl hd_X0_read ⟨Nat.le_of_ble_eq_true rfl, Nat.le_of_ble_eq_true rfl⟩) ⟨pP.blind, hrc, (pP.pre ⟨hK, hN⟩ hPc)⟩ rfl rfl hl.1 rfl (lv_room (Nat.le_of_ble_eq_true rfl)) (dq_182 0 bcX7_log_0 (j := 43) (i := 207) rfl rfl rfl) ⟨Nat.le_of_ble_eq_true rfl, Nat.le_of_ble_eq_true rfl⟩) ?_
          rw [hQ]
          obtain e9_0 := inj1 hF
          exact W.iret (v := r_7) hx hb hr (fun tt ht hW => ⟨_, rfl, e9_0, ht⟩) (fun _ h => by cases h) (dq_172 0 bcX7_log_0 (j := 46) rfl rfl)
        ·
          replace hF := inn c_6 hF
          refine lv_ldc (v := -100000000) hx hb hown (hts (.constant RX7 113 (-100000000)) (List.mem_of_getElem? (i := 1) rfl)) (dq_18 0 bcX7_log_0 (j := 21) (i := 113) rfl rfl) ?_
          rw [hQ]
          obtain e9_0 := inj1 hF
          exact W.iret (v := (-100000000 : Int32)) hx hb hr (fun tt ht hW => ⟨_, rfl, e9_0, ht⟩) (fun _ h => by cases h) (dq_172 0 bcX7_log_0 (j := 23) rfl rfl)
