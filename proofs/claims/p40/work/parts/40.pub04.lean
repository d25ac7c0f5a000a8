noncomputable def blX7_most_0 : List Nat := [42, 180, 0, 35, 182, 0, 110, 154, 0, 6, 18, 113, 172, 27, 170, 0, 0, 0, 0, 181, 0, 0, 0, 0, 0, 0, 0, 11, 0, 0, 0, 62, 0, 0, 0, 73, 0, 0, 0, 84, 0, 0, 0, 95, 0, 0, 0, 106, 0, 0, 0]
set_option maxRecDepth 100000 in
theorem bcX7_most_0 : ((cX7_most.data.toList.drop 0).take blX7_most_0.length).map UInt8.toNat = blX7_most_0 := by decide +kernel
noncomputable def blX7_most_1 : List Nat := [0, 0, 0, 117, 0, 0, 0, 128, 0, 0, 0, 136, 0, 0, 0, 144, 0, 0, 0, 153, 0, 0, 0, 162, 0, 0, 0, 170, 42, 180, 0, 35, 180, 0, 114, 16, 11, 46, 172, 42, 180, 0, 35, 180, 0, 114, 16, 12, 46, 172, 42]
set_option maxRecDepth 100000 in
theorem bcX7_most_1 : ((cX7_most.data.toList.drop 48).take blX7_most_1.length).map UInt8.toNat = blX7_most_1 := by decide +kernel
noncomputable def blX7_most_2 : List Nat := [46, 172, 42, 180, 0, 35, 180, 0, 114, 16, 13, 46, 172, 42, 180, 0, 35, 180, 0, 114, 16, 14, 46, 172, 42, 180, 0, 35, 180, 0, 114, 16, 15, 46, 172, 42, 180, 0, 35, 180, 0, 114, 16, 6, 46, 172, 42, 180, 0, 35, 182]
set_option maxRecDepth 100000 in
theorem bcX7_most_2 : ((cX7_most.data.toList.drop 96).take blX7_most_2.length).map UInt8.toNat = blX7_most_2 := by decide +kernel
noncomputable def blX7_most_3 : List Nat := [0, 35, 182, 1, 46, 172, 42, 180, 0, 35, 182, 1, 49, 172, 42, 180, 0, 35, 7, 182, 0, 160, 172, 42, 180, 0, 35, 8, 182, 0, 160, 172, 42, 180, 0, 35, 182, 1, 52, 172, 42, 180, 0, 35, 180, 0, 114, 16, 7, 46, 172]
set_option maxRecDepth 100000 in
theorem bcX7_most_3 : ((cX7_most.data.toList.drop 144).take blX7_most_3.length).map UInt8.toNat = blX7_most_3 := by decide +kernel
noncomputable def blX7_most_4 : List Nat := [7, 46, 172, 18, 113, 172]
set_option maxRecDepth 100000 in
theorem bcX7_most_4 : ((cX7_most.data.toList.drop 192).take blX7_most_4.length).map UInt8.toNat = blX7_most_4 := by decide +kernel
noncomputable def blX7_move_0 : List Nat := [42, 3, 27, 28, 29, 4, 182, 0, 163, 172]
set_option maxRecDepth 100000 in
theorem bcX7_move_0 : ((cX7_move.data.toList.drop 0).take blX7_move_0.length).map UInt8.toNat = blX7_move_0 := by decide +kernel
noncomputable def blX7_needs_0 : List Nat := [42, 180, 0, 35, 3, 27, 28, 29, 182, 0, 220, 2, 159, 0, 7, 20, 0, 154, 173, 42, 180, 0, 35, 27, 28, 29, 182, 0, 254, 10, 97, 173]
set_option maxRecDepth 100000 in
theorem bcX7_needs_0 : ((cX7_needs.data.toList.drop 0).take blX7_needs_0.length).map UInt8.toNat = blX7_needs_0 := by decide +kernel
noncomputable def blX7_partner_1 : List Nat := [182, 0, 237, 42, 180, 0, 39, 27, 28, 29, 182, 0, 247, 3, 54, 4, 21, 4, 42, 180, 0, 39, 182, 0, 117, 162, 0, 48, 21, 4, 27, 159, 0, 36, 42, 180, 0, 39, 21, 4, 182, 0, 143, 154, 0, 24, 42, 180, 0, 39, 4]
set_option maxRecDepth 100000 in
theorem bcX7_partner_1 : ((cX7_partner.data.toList.drop 48).take blX7_partner_1.length).map UInt8.toNat = blX7_partner_1 := by decide +kernel
noncomputable def blX7_partner_2 : List Nat := [0, 39, 4, 27, 120, 4, 21, 4, 120, 128, 182, 0, 251, 153, 0, 6, 21, 4, 172, 132, 4, 1, 167, 255, 202, 2, 172]
set_option maxRecDepth 100000 in
theorem bcX7_partner_2 : ((cX7_partner.data.toList.drop 96).take blX7_partner_2.length).map UInt8.toNat = blX7_partner_2 := by decide +kernel
noncomputable def blX7_partner_0 : List Nat := [42, 180, 0, 35, 3, 27, 28, 29, 182, 0, 220, 2, 160, 0, 26, 42, 180, 0, 35, 182, 0, 244, 154, 0, 16, 42, 180, 0, 35, 27, 28, 29, 182, 0, 217, 153, 0, 5, 2, 172, 42, 180, 0, 39, 42, 180, 0, 35, 182, 0, 237]
set_option maxRecDepth 100000 in
theorem bcX7_partner_0 : ((cX7_partner.data.toList.drop 0).take blX7_partner_0.length).map UInt8.toNat = blX7_partner_0 := by decide +kernel
def dl_X7_most_40_pub04_0 : List (Nat × Instr × Nat) := [(14, .tableswitch 181 0 11 #[62, 73, 84, 95, 106, 117, 128, 136, 144, 153, 162, 170], 62)]
set_option maxRecDepth 100000 in
theorem dall_X7_most_40_pub04_0 : dchk cX7_most dl_X7_most_40_pub04_0 = true := by decide +kernel
theorem dX7_most_14 : decode cX7_most 14 = .ok (.tableswitch 181 0 11 #[62, 73, 84, 95, 106, 117, 128, 136, 144, 153, 162, 170], 62) := dchk_at dall_X7_most_40_pub04_0 (k := 0) rfl
def F_X7_most (K : Nat) (p1 : Int32) (c_now_row : Nat → Int32) : Option (Int32) :=
  bd1 (F_X5_stands c_now_row) (fun r_1 => if r_1 = (0 : Int32) then some (-100000000 : Int32) else if p1 = (0 : Int32) then some (c_now_row 11) else if p1 = (1 : Int32) then some (c_now_row 12) else if p1 = (2 : Int32) then some (c_now_row 13) else if p1 = (3 : Int32) then some (c_now_row 14) else if p1 = (4 : Int32) then some (c_now_row 15) else if p1 = (5 : Int32) then some (c_now_row 6) else if p1 = (6 : Int32) then bd1 (F_X5_quietSites K c_now_row) (fun r_6 => some r_6) else if p1 = (7 : Int32) then bd1 (F_X5_slackSites K c_now_row) (fun r_8 => some r_8) else if p1 = (8 : Int32) then bd1 (F_X5_total K (4 : Int32) c_now_row) (fun r_10 => some r_10) else if p1 = (9 : Int32) then bd1 (F_X5_total K (5 : Int32) c_now_row) (fun r_12 => some r_12) else if p1 = (10 : Int32) then bd1 (F_X5_unmovedSites K c_now_row) (fun r_14 => some r_14) else if p1 = (11 : Int32) then some (c_now_row 7) else some (-100000000 : Int32))
abbrev w_X7_most (E : EE) (a_ a_tape a_reader a_scripts a_now a_trial a_kept a_book a_keptBook a_history a_draws a_refused a_now_row a_now_partners a_now_share a_now_leftOver : Nat) (c_hasImage : Int32) (c_now_askedCount : Int32) (c_now_outcome : Int32) (c_now_row : Nat → Int32) : va_W := [k_X7 a_ a_tape a_reader a_scripts a_now a_trial a_kept a_book a_keptBook a_history a_draws a_refused c_hasImage, k_X5 a_now a_now_row a_now_partners c_now_askedCount c_now_outcome a_now_share a_now_leftOver, k_I E a_now_row 81 c_now_row]
def v_f_X7_most : List Cond := List.cons (.code yX7_most cX7_most 2 (some .int)) (HAppend.hAppend (α := List Cond) (β := List Cond) (γ := List Cond) [.fieldLink RX7 35 "HushWatch" "now" "LHushWatch$State;", .constant RX7 113 (-100000000), .methodLink RX7 110 yX5_stands, .instanceMethod yX5_stands, .selects RX5 yX5_stands yX5_stands, .initialized RX5, .methodLink RX7 302 yX5_quietSites, .instanceMethod yX5_quietSites, .selects RX5 yX5_quietSites yX5_quietSites, .methodLink RX7 305 yX5_slackSites, .instanceMethod yX5_slackSites, .selects RX5 yX5_slackSites yX5_slackSites, .methodLink RX7 160 yX5_total, .instanceMethod yX5_total, .selects RX5 yX5_total yX5_total, .methodLink RX7 308 yX5_unmovedSites, .instanceMethod yX5_unmovedSites, .selects RX5 yX5_unmovedSites yX5_unmovedSites] (HAppend.hAppend (α := List Cond) (β := List Cond) (γ := List Cond) wsX70 (HAppend.hAppend (α := List Cond) (β := List Cond) (γ := List Cond) v_f_X5_stands (HAppend.hAppend (α := List Cond) (β := List Cond) (γ := List Cond) wsX50 (HAppend.hAppend (α := List Cond) (β := List Cond) (γ := List Cond) v_f_X5_quietSites (HAppend.hAppend (α := List Cond) (β := List Cond) (γ := List Cond) v_f_X5_slackSites (HAppend.hAppend (α := List Cond) (β := List Cond) (γ := List Cond) v_f_X5_total (HAppend.hAppend (α := List Cond) (β := List Cond) (γ := List Cond) v_f_X5_unmovedSites []))))))))
theorem gw_f_X7_most : v_f_X7_most.all goodWord = true := gw_c2 (by decide +kernel) (gw_ap gw_wsX70 (gw_ap gw_f_X5_stands (gw_ap gw_wsX50 (gw_ap gw_f_X5_quietSites (gw_ap gw_f_X5_slackSites (gw_ap gw_f_X5_total (gw_ap gw_f_X5_unmovedSites gw_nil)))))))
theorem i_f_X7_most_X7 : ∀ w ∈ wsX70, w ∈ v_f_X7_most := fun _ h => List.mem_cons_of_mem _ (List.mem_append_right _ (List.mem_append_left _ h))
theorem i_f_X7_most_X5 : ∀ w ∈ wsX50, w ∈ v_f_X7_most := fun _ h => List.mem_cons_of_mem _ (List.mem_append_right _ (List.mem_append_right _ (List.mem_append_right _ (List.mem_append_left _ h))))
theorem g_f_X7_most_f_X5_stands_110 : GoodIn v_f_X7_most (wsV RX7 110 RX5 yX5_stands v_f_X5_stands) := goodIn_in gw_f_X7_most (in4 3 4 5 6 rfl rfl rfl rfl (fun _ h => List.mem_cons_of_mem _ (List.mem_append_right _ (List.mem_append_right _ (List.mem_append_left _ h)))))
theorem g_f_X7_most_f_X5_quietSites_302 : GoodIn v_f_X7_most (wsV RX7 302 RX5 yX5_quietSites v_f_X5_quietSites) := goodIn_in gw_f_X7_most (in4 7 8 9 6 rfl rfl rfl rfl (fun _ h => List.mem_cons_of_mem _ (List.mem_append_right _ (List.mem_append_right _ (List.mem_append_right _ (List.mem_append_right _ (List.mem_append_left _ h)))))))
theorem g_f_X7_most_f_X5_slackSites_305 : GoodIn v_f_X7_most (wsV RX7 305 RX5 yX5_slackSites v_f_X5_slackSites) := goodIn_in gw_f_X7_most (in4 10 11 12 6 rfl rfl rfl rfl (fun _ h => List.mem_cons_of_mem _ (List.mem_append_right _ (List.mem_append_right _ (List.mem_append_right _ (List.mem_append_right _ (List.mem_append_right _ (List.mem_append_left _ h))))))))
theorem g_f_X7_most_f_X5_total_160 : GoodIn v_f_X7_most (wsV RX7 160 RX5 yX5_total v_f_X5_total) := goodIn_in gw_f_X7_most (in4 13 14 15 6 rfl rfl rfl rfl (fun _ h => List.mem_cons_of_mem _ (List.mem_append_right _ (List.mem_append_right _ (List.mem_append_right _ (List.mem_append_right _ (List.mem_append_right _ (List.mem_append_right _ (List.mem_append_left _ h)))))))))
theorem g_f_X7_most_f_X5_unmovedSites_308 : GoodIn v_f_X7_most (wsV RX7 308 RX5 yX5_unmovedSites v_f_X5_unmovedSites) := goodIn_in gw_f_X7_most (in4 16 17 18 6 rfl rfl rfl rfl (fun _ h => List.mem_cons_of_mem _ (List.mem_append_right _ (List.mem_append_right _ (List.mem_append_right _ (List.mem_append_right _ (List.mem_append_right _ (List.mem_append_right _ (List.mem_append_right _ (List.mem_append_left _ h))))))))))
theorem hd_X7_most : yX7_most.cls = RX7 ∧ yX7_most.cls ≠ "java/lang/invoke/MethodHandle" ∧ yX7_most.cls ≠ "java/lang/invoke/VarHandle" ∧ (parseMethodDescriptor yX7_most.desc).map (fun d => d.parameters.length) = some 1 := by decide +kernel
set_option maxHeartbeats 4000000 in
set_option maxRecDepth 100000 in
theorem f_X7_most (l : Launch) (E : EE) (K : Nat) {a_ a_tape a_reader a_scripts a_now a_trial a_kept a_book a_keptBook a_history a_draws a_refused a_now_row a_now_partners a_now_share a_now_leftOver : Nat} {p1 : Int32} {c_hasImage : Int32} {c_now_askedCount : Int32} {c_now_outcome : Int32} {c_now_row : Nat → Int32} {rr : Int32} (hF : F_X7_most K p1 c_now_row = some rr) : Met l yX7_most v_f_X7_most (({ frames := 4, cells := 0, slots := 0, locals := 93 } : Room)) (va_Pc [.ref a_, .int p1] (pP E (w_X7_most E a_ a_tape a_reader a_scripts a_now a_trial a_kept a_book a_keptBook a_history a_draws a_refused a_now_row a_now_partners a_now_share a_now_leftOver c_hasImage c_now_askedCount c_now_outcome c_now_row))) (vp_Si (fun q : Int32 => q = rr)) 0 0 (fun _ => False) := by
  refine Met.ofW (cc := cX7_most) (maxL := 2) (ret := (some .int)) (by decide) rfl ?_
  intro p e s m args below meth c s₁ B hml hv
  obtain ⟨rfl, ⟨hK, hN⟩, hP⟩ := hv
  have hx := B.exec
  have hb := B.bytes
  have hr := B.returns
  have hts := atoms_spec (ws := v_f_X7_most) B.pre
  have hown : s.vm.findClass RX7 = some m.cls := own_of hd_X7_most.1 (findClass_of_methodNamed B.named)
  have hlocks : meth.locks = false := B.notSynchronized
  replace hP : va_P E.1 vwCl [k_X7 a_ a_tape a_reader a_scripts a_now a_trial a_kept a_book a_keptBook a_history a_draws a_refused c_hasImage, k_X5 a_now a_now_row a_now_partners c_now_askedCount c_now_outcome a_now_share a_now_leftOver, k_I E a_now_row 81 c_now_row] s.heap := hP
  have hl := lv_entry ([.ref a_, .int p1]) (n := 2) (Nat.le_of_ble_eq_true rfl)
  rw [lg_entry_eq]
  generalize (lg_sl ([.ref a_, .int p1]) ++ List.replicate (2 - (lg_sl ([.ref a_, .int p1])).length) Slot.unset).toArray = ls at hl ⊢
  have hl : lv_has ls 2 [(0, .ref a_), (1, .int p1)] := hl
  obtain ⟨Q, hQ⟩ : ∃ Q : State → Prop, Q = MQ below (vp_Si (fun q : Int32 => q = rr)) #[Value.ref a_, Value.int p1] s 0 0 (fun _ => False) := ⟨_, rfl⟩
  rw [← hQ]
  change W p l e ({ frames := 4, cells := 0, slots := 0, locals := 93 } : Room) s m #[Value.ref a_, Value.int p1] below meth c s.heap [] 0 0 Q (F0 m 0 ls [])
  unfold F_X7_most at hF
  refine lv_aload_n hx hb (dq_42 0 bcX7_most_0 (j := 0) rfl rfl) rfl (lv_at hl 0 rfl) ?_
  refine gt_X7_3 (v := .ref a_now) hx hb hts i_f_X7_most_X7 hown hK hP 0 rfl (hts (.fieldLink RX7 35 "HushWatch" "now" "LHushWatch$State;") (List.mem_of_getElem? (i := 1) rfl)) rfl (dq_180 0 bcX7_most_0 (j := 1) (i := 35) rfl rfl rfl) ?_
  replace hF := bd1_s hF
  obtain ⟨r_1, hc_2, hF⟩ := hF
  have hPc : va_P E.1 vwCl (w_X5_stands E a_now a_now_row a_now_partners a_now_share a_now_leftOver c_now_askedCount c_now_outcome c_now_row) s.heap := hP.sub (ws' := [k_X5 a_now a_now_row a_now_partners c_now_askedCount c_now_outcome a_now_share a_now_leftOver, k_I E a_now_row 81 c_now_row]) [1, 2] rfl
  have hrc := va_recv hK hPc (ci := 6) (q0 := 0) rfl rfl
  refine pE_z (va_runV (As := []) (rest := [])  ⟨hx, hb, hml, hown, hts⟩ (f_X5_stands l E (a_ := a_now) (a_row := a_now_row) (a_partners := a_now_partners) (a_share := a_now_share) (a_leftOver := a_now_leftOver) (c_askedCount := c_now_askedCount) (c_outcome := c_now_outcome) (c_row := c_now_row) hc_2) (cwV 0 hts g_f_X7_most_f_X5_stands_110 rfl rfl rfl hd_X5_stands ⟨Nat.le_of_ble_eq_true rfl, Nat.le_of_ble_eq_true rfl⟩) ⟨pP.blind, hrc, (pP.pre ⟨hK, hN⟩ hPc)⟩ rfl rfl hl.1 rfl (lv_room (Nat.le_of_ble_eq_true rfl)) (dq_182 0 bcX7_most_0 (j := 4) (i := 110) rfl rfl rfl) ⟨Nat.le_of_ble_eq_true rfl, Nat.le_of_ble_eq_true rfl⟩) (fun hb_3 => ?_)
  refine lv_if_ne (tgt := 13) hx hb (dq_154 0 bcX7_most_0 (j := 7) (i := 6) rfl rfl rfl) (by decide) (fun c_4 => ?_) (fun c_4 => ?_)
  ·
    replace hF := inn c_4 hF
    refine lv_iload_n hx hb (dq_27 0 bcX7_most_0 (j := 13) rfl rfl) rfl (lv_at hl 1 rfl) ?_
    rcases Classical.em (p1 = (0 : Int32)) with c_5_0 | c_5_0
    ·
      replace hF := ip c_5_0 hF
      refine lv_tableIn (off := 62) (tgt := 76) hx hb dX7_most_14 (by rw [c_5_0]; decide) (by rw [c_5_0]; decide) (by rw [c_5_0]; decide) (by decide) ?_
      refine lv_aload_n hx hb (dq_42 48 bcX7_most_1 (j := 28) rfl rfl) rfl (lv_at hl 0 rfl) ?_
      refine gt_X7_3 (v := .ref a_now) hx hb hts i_f_X7_most_X7 hown hK hP 0 rfl (hts (.fieldLink RX7 35 "HushWatch" "now" "LHushWatch$State;") (List.mem_of_getElem? (i := 1) rfl)) rfl (dq_180 48 bcX7_most_1 (j := 29) (i := 35) rfl rfl rfl) ?_
      refine va_getN (D := E.1) (ci := 6) (v := .ref a_now_row) (C := RX5) (T := TX5) (N := 6) hx hb hts i_f_X7_most_X5 hown hK hP 1 rfl rfl 0 (by decide) (nx hN 12 rfl) (fun _ h9 => h9) rfl (dq_180 48 bcX7_most_1 (j := 32) (i := 114) rfl rfl rfl) ?_
      refine lv_bipush (v := 11) hx hb (dq_16 48 bcX7_most_1 (j := 35) (i := 11) rfl rfl rfl) (by decide) ?_
      refine va_iald hx hb hK hP 2 0 rfl rfl (vin rfl) (dq_46 48 bcX7_most_1 (j := 37) rfl rfl) ?_
      refine W.eq (g2 := F0 m 86 ls [.int (c_now_row 11)]) rfl ?_
      rw [hQ]
      obtain e9_0 := inj1 hF
      exact W.iret (v := c_now_row 11) hx hb hr (fun tt ht hW => ⟨_, rfl, e9_0, ht⟩) (fun _ h => by cases h) (dq_172 48 bcX7_most_1 (j := 38) rfl rfl)
    replace hF := inn c_5_0 hF
    rcases Classical.em (p1 = (1 : Int32)) with c_5_1 | c_5_1
    ·
      replace hF := ip c_5_1 hF
      refine lv_tableIn (off := 73) (tgt := 87) hx hb dX7_most_14 (by rw [c_5_1]; decide) (by rw [c_5_1]; decide) (by rw [c_5_1]; decide) (by decide) ?_
      refine lv_aload_n hx hb (dq_42 48 bcX7_most_1 (j := 39) rfl rfl) rfl (lv_at hl 0 rfl) ?_
      refine gt_X7_3 (v := .ref a_now) hx hb hts i_f_X7_most_X7 hown hK hP 0 rfl (hts (.fieldLink RX7 35 "HushWatch" "now" "LHushWatch$State;") (List.mem_of_getElem? (i := 1) rfl)) rfl (dq_180 48 bcX7_most_1 (j := 40) (i := 35) rfl rfl rfl) ?_
      refine va_getN (D := E.1) (ci := 6) (v := .ref a_now_row) (C := RX5) (T := TX5) (N := 6) hx hb hts i_f_X7_most_X5 hown hK hP 1 rfl rfl 0 (by decide) (nx hN 12 rfl) (fun _ h9 => h9) rfl (dq_180 48 bcX7_most_1 (j := 43) (i := 114) rfl rfl rfl) ?_
      refine lv_bipush (v := 12) hx hb (dq_16 48 bcX7_most_1 (j := 46) (i := 12) rfl rfl rfl) (by decide) ?_
      refine va_iald hx hb hK hP 2 0 rfl rfl (vin rfl) (dq_46 96 bcX7_most_2 (j := 0) rfl rfl) ?_
      refine W.eq (g2 := F0 m 97 ls [.int (c_now_row 12)]) rfl ?_
      rw [hQ]
      obtain e9_0 := inj1 hF
      exact W.iret (v := c_now_row 12) hx hb hr (fun tt ht hW => ⟨_, rfl, e9_0, ht⟩) (fun _ h => by cases h) (dq_172 96 bcX7_most_2 (j := 1) rfl rfl)
    replace hF := inn c_5_1 hF
    rcases Classical.em (p1 = (2 : Int32)) with c_5_2 | c_5_2
    ·
      replace hF := ip c_5_2 hF
      refine lv_tableIn (off := 84) (tgt := 98) hx hb dX7_most_14 (by rw [c_5_2]; decide) (by rw [c_5_2]; decide) (by rw [c_5_2]; decide) (by decide) ?_
      refine lv_aload_n hx hb (dq_42 96 bcX7_most_2 (j := 2) rfl rfl) rfl (lv_at hl 0 rfl) ?_
      refine gt_X7_3 (v := .ref a_now) hx hb hts i_f_X7_most_X7 hown hK hP 0 rfl (hts (.fieldLink RX7 35 "HushWatch" "now" "LHushWatch$State;") (List.mem_of_getElem? (i := 1) rfl)) rfl (dq_180 96 bcX7_most_2 (j := 3) (i := 35) rfl rfl rfl) ?_
      refine va_getN (D := E.1) (ci := 6) (v := .ref a_now_row) (C := RX5) (T := TX5) (N := 6) hx hb hts i_f_X7_most_X5 hown hK hP 1 rfl rfl 0 (by decide) (nx hN 12 rfl) (fun _ h9 => h9) rfl (dq_180 96 bcX7_most_2 (j := 6) (i := 114) rfl rfl rfl) ?_
      refine lv_bipush (v := 13) hx hb (dq_16 96 bcX7_most_2 (j := 9) (i := 13) rfl rfl rfl) (by decide) ?_
      refine va_iald hx hb hK hP 2 0 rfl rfl (vin rfl) (dq_46 96 bcX7_most_2 (j := 11) rfl rfl) ?_
      refine W.eq (g2 := F0 m 108 ls [.int (c_now_row 13)]) rfl ?_
      rw [hQ]
      obtain e9_0 := inj1 hF
      exact W.iret (v := c_now_row 13) hx hb hr (fun tt ht hW => ⟨_, rfl, e9_0, ht⟩) (fun _ h => by cases h) (dq_172 96 bcX7_most_2 (j := 12) rfl rfl)
    replace hF := inn c_5_2 hF
    rcases Classical.em (p1 = (3 : Int32)) with c_5_3 | c_5_3
    ·
      replace hF := ip c_5_3 hF
      refine lv_tableIn (off := 95) (tgt := 109) hx hb dX7_most_14 (by rw [c_5_3]; decide) (by rw [c_5_3]; decide) (by rw [c_5_3]; decide) (by decide) ?_
      refine lv_aload_n hx hb (dq_42 96 bcX7_most_2 (j := 13) rfl rfl) rfl (lv_at hl 0 rfl) ?_
      refine gt_X7_3 (v := .ref a_now) hx hb hts i_f_X7_most_X7 hown hK hP 0 rfl (hts (.fieldLink RX7 35 "HushWatch" "now" "LHushWatch$State;") (List.mem_of_getElem? (i := 1) rfl)) rfl (dq_180 96 bcX7_most_2 (j := 14) (i := 35) rfl rfl rfl) ?_
      refine va_getN (D := E.1) (ci := 6) (v := .ref a_now_row) (C := RX5) (T := TX5) (N := 6) hx hb hts i_f_X7_most_X5 hown hK hP 1 rfl rfl 0 (by decide) (nx hN 12 rfl) (fun _ h9 => h9) rfl (dq_180 96 bcX7_most_2 (j := 17) (i := 114) rfl rfl rfl) ?_
      refine lv_bipush (v := 14) hx hb (dq_16 96 bcX7_most_2 (j := 20) (i := 14) rfl rfl rfl) (by decide) ?_
      refine va_iald hx hb hK hP 2 0 rfl rfl (vin rfl) (dq_46 96 bcX7_most_2 (j := 22) rfl rfl) ?_
      refine W.eq (g2 := F0 m 119 ls [.int (c_now_row 14)]) rfl ?_
      rw [hQ]
      obtain e9_0 := inj1 hF
      exact W.iret (v := c_now_row 14) hx hb hr (fun tt ht hW => ⟨_, rfl, e9_0, ht⟩) (fun _ h => by cases h) (dq_172 96 bcX7_most_2 (j := 23) rfl rfl)
    replace hF := inn c_5_3 hF
    rcases Classical.em (p1 = (4 : Int32)) with c_5_4 | c_5_4
    ·
      replace hF := ip c_5_4 hF
      refine lv_tableIn (off := 106) (tgt := 120) hx hb dX7_most_14 (by rw [c_5_4]; decide) (by rw [c_5_4]; decide) (by rw [c_5_4]; decide) (by decide) ?_
      refine lv_aload_n hx hb (dq_42 96 bcX7_most_2 (j := 24) rfl rfl) rfl (lv_at hl 0 rfl) ?_
      refine gt_X7_3 (v := .ref a_now) hx hb hts i_f_X7_most_X7 hown hK hP 0 rfl (hts (.fieldLink RX7 35 "HushWatch" "now" "LHushWatch$State;") (List.mem_of_getElem? (i := 1) rfl)) rfl (dq_180 96 bcX7_most_2 (j := 25) (i := 35) rfl rfl rfl) ?_
      refine va_getN (D := E.1) (ci := 6) (v := .ref a_now_row) (C := RX5) (T := TX5) (N := 6) hx hb hts i_f_X7_most_X5 hown hK hP 1 rfl rfl 0 (by decide) (nx hN 12 rfl) (fun _ h9 => h9) rfl (dq_180 96 bcX7_most_2 (j := 28) (i := 114) rfl rfl rfl) ?_
      refine lv_bipush (v := 15) hx hb (dq_16 96 bcX7_most_2 (j := 31) (i := 15) rfl rfl rfl) (by decide) ?_
      refine va_iald hx hb hK hP 2 0 rfl rfl (vin rfl) (dq_46 96 bcX7_most_2 (j := 33) rfl rfl) ?_
      refine W.eq (g2 := F0 m 130 ls [.int (c_now_row 15)]) rfl ?_
      rw [hQ]
      obtain e9_0 := inj1 hF
      exact W.iret (v := c_now_row 15) hx hb hr (fun tt ht hW => ⟨_, rfl, e9_0, ht⟩) (fun _ h => by cases h) (dq_172 96 bcX7_most_2 (j := 34) rfl rfl)
    replace hF := inn c_5_4 hF
    rcases Classical.em (p1 = (5 : Int32)) with c_5_5 | c_5_5
    ·
      replace hF := ip c_5_5 hF
      refine lv_tableIn (off := 117) (tgt := 131) hx hb dX7_most_14 (by rw [c_5_5]; decide) (by rw [c_5_5]; decide) (by rw [c_5_5]; decide) (by decide) ?_
      refine lv_aload_n hx hb (dq_42 96 bcX7_most_2 (j := 35) rfl rfl) rfl (lv_at hl 0 rfl) ?_
      refine gt_X7_3 (v := .ref a_now) hx hb hts i_f_X7_most_X7 hown hK hP 0 rfl (hts (.fieldLink RX7 35 "HushWatch" "now" "LHushWatch$State;") (List.mem_of_getElem? (i := 1) rfl)) rfl (dq_180 96 bcX7_most_2 (j := 36) (i := 35) rfl rfl rfl) ?_
      refine va_getN (D := E.1) (ci := 6) (v := .ref a_now_row) (C := RX5) (T := TX5) (N := 6) hx hb hts i_f_X7_most_X5 hown hK hP 1 rfl rfl 0 (by decide) (nx hN 12 rfl) (fun _ h9 => h9) rfl (dq_180 96 bcX7_most_2 (j := 39) (i := 114) rfl rfl rfl) ?_
      refine lv_bipush (v := 6) hx hb (dq_16 96 bcX7_most_2 (j := 42) (i := 6) rfl rfl rfl) (by decide) ?_
      refine va_iald hx hb hK hP 2 0 rfl rfl (vin rfl) (dq_46 96 bcX7_most_2 (j := 44) rfl rfl) ?_
      refine W.eq (g2 := F0 m 141 ls [.int (c_now_row 6)]) rfl ?_
      rw [hQ]
      obtain e9_0 := inj1 hF
      exact W.iret (v := c_now_row 6) hx hb hr (fun tt ht hW => ⟨_, rfl, e9_0, ht⟩) (fun _ h => by cases h) (dq_172 96 bcX7_most_2 (j := 45) rfl rfl)
    replace hF := inn c_5_5 hF
    rcases Classical.em (p1 = (6 : Int32)) with c_5_6 | c_5_6
    ·
      replace hF := ip c_5_6 hF
      refine lv_tableIn (off := 128) (tgt := 142) hx hb dX7_most_14 (by rw [c_5_6]; decide) (by rw [c_5_6]; decide) (by rw [c_5_6]; decide) (by decide) ?_
      refine lv_aload_n hx hb (dq_42 96 bcX7_most_2 (j := 46) rfl rfl) rfl (lv_at hl 0 rfl) ?_
      refine gt_X7_3 (v := .ref a_now) hx hb hts i_f_X7_most_X7 hown hK hP 0 rfl (hts (.fieldLink RX7 35 "HushWatch" "now" "LHushWatch$State;") (List.mem_of_getElem? (i := 1) rfl)) rfl (dq_180 96 bcX7_most_2 (j := 47) (i := 35) rfl rfl rfl) ?_
      replace hF := bd1_s hF
      obtain ⟨r_6, hc_7, hF⟩ := hF
      have hPc : va_P E.1 vwCl (w_X5_quietSites E a_now a_now_row a_now_partners a_now_share a_now_leftOver c_now_askedCount c_now_outcome c_now_row) s.heap := hP.sub (ws' := [k_X5 a_now a_now_row a_now_partners c_now_askedCount c_now_outcome a_now_share a_now_leftOver, k_I E a_now_row 81 c_now_row]) [1, 2] rfl
      have hrc := va_recv hK hPc (ci := 6) (q0 := 0) rfl rfl
      refine pE_i (va_runV (As := []) (rest := [])  ⟨hx, hb, hml, hown, hts⟩ (f_X5_quietSites l E K (a_ := a_now) (a_row := a_now_row) (a_partners := a_now_partners) (a_share := a_now_share) (a_leftOver := a_now_leftOver) (c_askedCount := c_now_askedCount) (c_outcome := c_now_outcome) (c_row := c_now_row) hc_7) (cwV 0 hts g_f_X7_most_f_X5_quietSites_302 rfl rfl rfl hd_X5_quietSites ⟨Nat.le_of_ble_eq_true rfl, Nat.le_of_ble_eq_true rfl⟩) ⟨pP.blind, hrc, (pP.pre ⟨hK, hN⟩ hPc)⟩ rfl rfl hl.1 rfl (lv_room (Nat.le_of_ble_eq_true rfl)) (dq_182 144 bcX7_most_3 (j := 2) (i := 302) rfl rfl rfl) ⟨Nat.le_of_ble_eq_true rfl, Nat.le_of_ble_eq_true rfl⟩) ?_
      rw [hQ]
      obtain e9_0 := inj1 hF
      exact W.iret (v := r_6) hx hb hr (fun tt ht hW => ⟨_, rfl, e9_0, ht⟩) (fun _ h => by cases h) (dq_172 144 bcX7_most_3 (j := 5) rfl rfl)
    replace hF := inn c_5_6 hF
    rcases Classical.em (p1 = (7 : Int32)) with c_5_7 | c_5_7
    ·
      replace hF := ip c_5_7 hF
      refine lv_tableIn (off := 136) (tgt := 150) hx hb dX7_most_14 (by rw [c_5_7]; decide) (by rw [c_5_7]; decide) (by rw [c_5_7]; decide) (by decide) ?_
      refine lv_aload_n hx hb (dq_42 144 bcX7_most_3 (j := 6) rfl rfl) rfl (lv_at hl 0 rfl) ?_
      refine gt_X7_3 (v := .ref a_now) hx hb hts i_f_X7_most_X7 hown hK hP 0 rfl (hts (.fieldLink RX7 35 "HushWatch" "now" "LHushWatch$State;") (List.mem_of_getElem? (i := 1) rfl)) rfl (dq_180 144 bcX7_most_3 (j := 7) (i := 35) rfl rfl rfl) ?_
      replace hF := bd1_s hF
      obtain ⟨r_8, hc_9, hF⟩ := hF
      have hPc : va_P E.1 vwCl (w_X5_slackSites E a_now a_now_row a_now_partners a_now_share a_now_leftOver c_now_askedCount c_now_outcome c_now_row) s.heap := hP.sub (ws' := [k_X5 a_now a_now_row a_now_partners c_now_askedCount c_now_outcome a_now_share a_now_leftOver, k_I E a_now_row 81 c_now_row]) [1, 2] rfl
      have hrc := va_recv hK hPc (ci := 6) (q0 := 0) rfl rfl
      refine pE_i (va_runV (As := []) (rest := [])  ⟨hx, hb, hml, hown, hts⟩ (f_X5_slackSites l E K (a_ := a_now) (a_row := a_now_row) (a_partners := a_now_partners) (a_share := a_now_share) (a_leftOver := a_now_leftOver) (c_askedCount := c_now_askedCount) (c_outcome := c_now_outcome) (c_row := c_now_row) hc_9) (cwV 0 hts g_f_X7_most_f_X5_slackSites_305 rfl rfl rfl hd_X5_slackSites ⟨Nat.le_of_ble_eq_true rfl, Nat.le_of_ble_eq_true rfl⟩) ⟨pP.blind, hrc, (pP.pre ⟨hK, hN⟩ hPc)⟩ rfl rfl hl.1 rfl (lv_room (Nat.le_of_ble_eq_true rfl)) (dq_182 144 bcX7_most_3 (j := 10) (i := 305) rfl rfl rfl) ⟨Nat.le_of_ble_eq_true rfl, Nat.le_of_ble_eq_true rfl⟩) ?_
      rw [hQ]
      obtain e9_0 := inj1 hF
      exact W.iret (v := r_8) hx hb hr (fun tt ht hW => ⟨_, rfl, e9_0, ht⟩) (fun _ h => by cases h) (dq_172 144 bcX7_most_3 (j := 13) rfl rfl)
    replace hF := inn c_5_7 hF
    rcases Classical.em (p1 = (8 : Int32)) with c_5_8 | c_5_8
    ·
      replace hF := ip c_5_8 hF
      refine lv_tableIn (off := 144) (tgt := 158) hx hb dX7_most_14 (by rw [c_5_8]; decide) (by rw [c_5_8]; decide) (by rw [c_5_8]; decide) (by decide) ?_
      refine lv_aload_n hx hb (dq_42 144 bcX7_most_3 (j := 14) rfl rfl) rfl (lv_at hl 0 rfl) ?_
      refine gt_X7_3 (v := .ref a_now) hx hb hts i_f_X7_most_X7 hown hK hP 0 rfl (hts (.fieldLink RX7 35 "HushWatch" "now" "LHushWatch$State;") (List.mem_of_getElem? (i := 1) rfl)) rfl (dq_180 144 bcX7_most_3 (j := 15) (i := 35) rfl rfl rfl) ?_
      refine lv_iconst (v := 4) hx hb (dq_7 144 bcX7_most_3 (j := 18) rfl rfl) (by decide) ?_
      replace hF := bd1_s hF
      obtain ⟨r_10, hc_11, hF⟩ := hF
      have hPc : va_P E.1 vwCl (w_X5_total E a_now a_now_row a_now_partners a_now_share a_now_leftOver c_now_askedCount c_now_outcome c_now_row) s.heap := hP.sub (ws' := [k_X5 a_now a_now_row a_now_partners c_now_askedCount c_now_outcome a_now_share a_now_leftOver, k_I E a_now_row 81 c_now_row]) [1, 2] rfl
      have hrc := va_recv hK hPc (ci := 6) (q0 := 0) rfl rfl
      refine pE_i (va_runV (As := [.int (4 : Int32)]) (rest := [])  ⟨hx, hb, hml, hown, hts⟩ (f_X5_total l E K (a_ := a_now) (a_row := a_now_row) (a_partners := a_now_partners) (a_share := a_now_share) (a_leftOver := a_now_leftOver) (p1 := (4 : Int32)) (c_askedCount := c_now_askedCount) (c_outcome := c_now_outcome) (c_row := c_now_row) hc_11) (cwV 1 hts g_f_X7_most_f_X5_total_160 rfl rfl rfl hd_X5_total ⟨Nat.le_of_ble_eq_true rfl, Nat.le_of_ble_eq_true rfl⟩) ⟨pP.blind, hrc, (pP.pre ⟨hK, hN⟩ hPc)⟩ rfl rfl hl.1 rfl (lv_room (Nat.le_of_ble_eq_true rfl)) (dq_182 144 bcX7_most_3 (j := 19) (i := 160) rfl rfl rfl) ⟨Nat.le_of_ble_eq_true rfl, Nat.le_of_ble_eq_true rfl⟩) ?_
      rw [hQ]
      obtain e9_0 := inj1 hF
      exact W.iret (v := r_10) hx hb hr (fun tt ht hW => ⟨_, rfl, e9_0, ht⟩) (fun _ h => by cases h) (dq_172 144 bcX7_most_3 (j := 22) rfl rfl)
    replace hF := inn c_5_8 hF
    rcases Classical.em (p1 = (9 : Int32)) with c_5_9 | c_5_9
    ·
      replace hF := ip c_5_9 hF
      refine lv_tableIn (off := 153) (tgt := 167) hx hb dX7_most_14 (by rw [c_5_9]; decide) (by rw [c_5_9]; decide) (by rw [c_5_9]; decide) (by decide) ?_
      refine lv_aload_n hx hb (dq_42 144 bcX7_most_3 (j := 23) rfl rfl) rfl (lv_at hl 0 rfl) ?_
      refine gt_X7_3 (v := .ref a_now) hx hb hts i_f_X7_most_X7 hown hK hP 0 rfl (hts (.fieldLink RX7 35 "HushWatch" "now" "LHushWatch$State;") (List.mem_of_getElem? (i := 1) rfl)) rfl (dq_180 144 bcX7_most_3 (j := 24) (i := 35) rfl rfl rfl) ?_
      refine lv_iconst (v := 5) hx hb (dq_8 144 bcX7_most_3 (j := 27) rfl rfl) (by decide) ?_
      replace hF := bd1_s hF
      obtain ⟨r_12, hc_13, hF⟩ := hF
      have hPc : va_P E.1 vwCl (w_X5_total E a_now a_now_row a_now_partners a_now_share a_now_leftOver c_now_askedCount c_now_outcome c_now_row) s.heap := hP.sub (ws' := [k_X5 a_now a_now_row a_now_partners c_now_askedCount c_now_outcome a_now_share a_now_leftOver, k_I E a_now_row 81 c_now_row]) [1, 2] rfl
      have hrc := va_recv hK hPc (ci := 6) (q0 := 0) rfl rfl
      refine pE_i (va_runV (As := [.int (5 : Int32)]) (rest := [])  ⟨hx, hb, hml, hown, hts⟩ (f_X5_total l E K (a_ := a_now) (a_row := a_now_row) (a_partners := a_now_partners) (a_share := a_now_share) (a_leftOver := a_now_leftOver) (p1 := (5 : Int32)) (c_askedCount := c_now_askedCount) (c_outcome := c_now_outcome) (c_row := c_now_row) hc_13) (cwV 1 hts g_f_X7_most_f_X5_total_160 rfl rfl rfl hd_X5_total ⟨Nat.le_of_ble_eq_true rfl, Nat.le_of_ble_eq_true rfl⟩) ⟨pP.blind, hrc, (pP.pre ⟨hK, hN⟩ hPc)⟩ rfl rfl hl.1 rfl (lv_room (Nat.le_of_ble_eq_true rfl)) (dq_182 144 bcX7_most_3 (j := 28) (i := 160) rfl rfl rfl) ⟨Nat.le_of_ble_eq_true rfl, Nat.le_of_ble_eq_true rfl⟩) ?_
      rw [hQ]
      obtain e9_0 := inj1 hF
      exact W.iret (v := r_12) hx hb hr (fun tt ht hW => ⟨_, rfl, e9_0, ht⟩) (fun _ h => by cases h) (dq_172 144 bcX7_most_3 (j := 31) rfl rfl)
    replace hF := inn c_5_9 hF
    rcases Classical.em (p1 = (10 : Int32)) with c_5_10 | c_5_10
    ·
      replace hF := ip c_5_10 hF
      refine lv_tableIn (off := 162) (tgt := 176) hx hb dX7_most_14 (by rw [c_5_10]; decide) (by rw [c_5_10]; decide) (by rw [c_5_10]; decide) (by decide) ?_
      refine lv_aload_n hx hb (dq_42 144 bcX7_most_3 (j := 32) rfl rfl) rfl (lv_at hl 0 rfl) ?_
      refine gt_X7_3 (v := .ref a_now) hx hb hts i_f_X7_most_X7 hown hK hP 0 rfl (hts (.fieldLink RX7 35 "HushWatch" "now" "LHushWatch$State;") (List.mem_of_getElem? (i := 1) rfl)) rfl (dq_180 144 bcX7_most_3 (j := 33) (i := 35) rfl rfl rfl) ?_
      replace hF := bd1_s hF
      obtain ⟨r_14, hc_15, hF⟩ := hF
      have hPc : va_P E.1 vwCl (w_X5_unmovedSites E a_now a_now_row a_now_partners a_now_share a_now_leftOver c_now_askedCount c_now_outcome c_now_row) s.heap := hP.sub (ws' := [k_X5 a_now a_now_row a_now_partners c_now_askedCount c_now_outcome a_now_share a_now_leftOver, k_I E a_now_row 81 c_now_row]) [1, 2] rfl
      have hrc := va_recv hK hPc (ci := 6) (q0 := 0) rfl rfl
      refine pE_i (va_runV (As := []) (rest := [])  ⟨hx, hb, hml, hown, hts⟩ (f_X5_unmovedSites l E K (a_ := a_now) (a_row := a_now_row) (a_partners := a_now_partners) (a_share := a_now_share) (a_leftOver := a_now_leftOver) (c_askedCount := c_now_askedCount) (c_outcome := c_now_outcome) (c_row := c_now_row) hc_15) (cwV 0 hts g_f_X7_most_f_X5_unmovedSites_308 rfl rfl rfl hd_X5_unmovedSites ⟨Nat.le_of_ble_eq_true rfl, Nat.le_of_ble_eq_true rfl⟩) ⟨pP.blind, hrc, (pP.pre ⟨hK, hN⟩ hPc)⟩ rfl rfl hl.1 rfl (lv_room (Nat.le_of_ble_eq_true rfl)) (dq_182 144 bcX7_most_3 (j := 36) (i := 308) rfl rfl rfl) ⟨Nat.le_of_ble_eq_true rfl, Nat.le_of_ble_eq_true rfl⟩) ?_
      rw [hQ]
      obtain e9_0 := inj1 hF
      exact W.iret (v := r_14) hx hb hr (fun tt ht hW => ⟨_, rfl, e9_0, ht⟩) (fun _ h => by cases h) (dq_172 144 bcX7_most_3 (j := 39) rfl rfl)
    replace hF := inn c_5_10 hF
    rcases Classical.em (p1 = (11 : Int32)) with c_5_11 | c_5_11
    ·
      replace hF := ip c_5_11 hF
      refine lv_tableIn (off := 170) (tgt := 184) hx hb dX7_most_14 (by rw [c_5_11]; decide) (by rw [c_5_11]; decide) (by rw [c_5_11]; decide) (by decide) ?_
      refine lv_aload_n hx hb (dq_42 144 bcX7_most_3 (j := 40) rfl rfl) rfl (lv_at hl 0 rfl) ?_
      refine gt_X7_3 (v := .ref a_now) hx hb hts i_f_X7_most_X7 hown hK hP 0 rfl (hts (.fieldLink RX7 35 "HushWatch" "now" "LHushWatch$State;") (List.mem_of_getElem? (i := 1) rfl)) rfl (dq_180 144 bcX7_most_3 (j := 41) (i := 35) rfl rfl rfl) ?_
      refine va_getN (D := E.1) (ci := 6) (v := .ref a_now_row) (C := RX5) (T := TX5) (N := 6) hx hb hts i_f_X7_most_X5 hown hK hP 1 rfl rfl 0 (by decide) (nx hN 12 rfl) (fun _ h9 => h9) rfl (dq_180 144 bcX7_most_3 (j := 44) (i := 114) rfl rfl rfl) ?_
      refine lv_bipush (v := 7) hx hb (dq_16 144 bcX7_most_3 (j := 47) (i := 7) rfl rfl rfl) (by decide) ?_
      refine va_iald hx hb hK hP 2 0 rfl rfl (vin rfl) (dq_46 192 bcX7_most_4 (j := 1) rfl rfl) ?_
      refine W.eq (g2 := F0 m 194 ls [.int (c_now_row 7)]) rfl ?_
      rw [hQ]
      obtain e9_0 := inj1 hF
      exact W.iret (v := c_now_row 7) hx hb hr (fun tt ht hW => ⟨_, rfl, e9_0, ht⟩) (fun _ h => by cases h) (dq_172 192 bcX7_most_4 (j := 2) rfl rfl)
    replace hF := inn c_5_11 hF
    refine lv_tableOut (tgt := 195) hx hb dX7_most_14 (by have t0 : (0 : Int32).toInt = 0 := (by decide); have t1 : (1 : Int32).toInt = 1 := (by decide); have t2 : (2 : Int32).toInt = 2 := (by decide); have t3 : (3 : Int32).toInt = 3 := (by decide); have t4 : (4 : Int32).toInt = 4 := (by decide); have t5 : (5 : Int32).toInt = 5 := (by decide); have t6 : (6 : Int32).toInt = 6 := (by decide); have t7 : (7 : Int32).toInt = 7 := (by decide); have t8 : (8 : Int32).toInt = 8 := (by decide); have t9 : (9 : Int32).toInt = 9 := (by decide); have t10 : (10 : Int32).toInt = 10 := (by decide); have t11 : (11 : Int32).toInt = 11 := (by decide); simp only [← Int32.toInt_inj, t0, t1, t2, t3, t4, t5, t6, t7, t8, t9, t10, t11] at c_5_0 c_5_1 c_5_2 c_5_3 c_5_4 c_5_5 c_5_6 c_5_7 c_5_8 c_5_9 c_5_10 c_5_11; omega) (by decide) ?_
    refine lv_ldc (v := -100000000) hx hb hown (hts (.constant RX7 113 (-100000000)) (List.mem_of_getElem? (i := 2) rfl)) (dq_18 192 bcX7_most_4 (j := 3) (i := 113) rfl rfl) ?_
    rw [hQ]
    obtain e9_0 := inj1 hF
    exact W.iret (v := (-100000000 : Int32)) hx hb hr (fun tt ht hW => ⟨_, rfl, e9_0, ht⟩) (fun _ h => by cases h) (dq_172 192 bcX7_most_4 (j := 5) rfl rfl)
  ·
    replace hF := ip c_4 hF
    refine lv_ldc (v := -100000000) hx hb hown (hts (.constant RX7 113 (-100000000)) (List.mem_of_getElem? (i := 2) rfl)) (dq_18 0 bcX7_most_0 (j := 10) (i := 113) rfl rfl) ?_
    rw [hQ]
    obtain e9_0 := inj1 hF
    exact W.iret (v := (-100000000 : Int32)) hx hb hr (fun tt ht hW => ⟨_, rfl, e9_0, ht⟩) (fun _ h => by cases h) (dq_172 0 bcX7_most_0 (j := 12) rfl rfl)

def F_X7_move (K : Nat) (p1 : Int32) (p2 : Int32) (p3 : Int32) (c_now_row : Nat → Int32) (c_now_partners : Nat → Int32) (c_now_askedCount : Int32) (c_now_outcome : Int32) (c_now_share : Nat → Int32) (c_now_leftOver : Nat → Int32) (c_book_lines : Nat → Int32) (c_history_rows : Nat → Int32) (c_history_next : Int32) (c_history_held : Int32) (c_refused : Nat → Int32) : Option (Int32 × (Nat → Int32) × (Nat → Int32) × Int32 × Int32 × (Nat → Int32) × (Nat → Int32) × (Nat → Int32) × (Nat → Int32) × Int32 × Int32 × (Nat → Int32)) :=
  bd12 (F_X7_act K (0 : Int32) p1 p2 p3 (1 : Int32) c_now_row c_now_partners c_now_askedCount c_now_outcome c_now_share c_now_leftOver c_book_lines c_history_rows c_history_next c_history_held c_refused) (fun r_1 w_2 w_3 w_4 w_5 w_6 w_7 w_8 w_9 w_10 w_11 w_12 => some (r_1, w_2, w_3, w_4, w_5, w_6, w_7, w_8, w_9, w_10, w_11, w_12))
abbrev w_X7_move (E : EE) (a_ a_tape a_reader a_scripts a_now a_trial a_kept a_book a_keptBook a_history a_draws a_refused a_now_row a_now_partners a_now_share a_now_leftOver a_book_lines a_history_rows : Nat) (c_hasImage : Int32) (c_now_askedCount : Int32) (c_now_outcome : Int32) (c_now_row : Nat → Int32) (c_now_partners : Nat → Int32) (c_now_share : Nat → Int32) (c_now_leftOver : Nat → Int32) (c_book_lines : Nat → Int32) (c_history_next : Int32) (c_history_held : Int32) (c_history_rows : Nat → Int32) (c_refused : Nat → Int32) : va_W := [k_X7 a_ a_tape a_reader a_scripts a_now a_trial a_kept a_book a_keptBook a_history a_draws a_refused c_hasImage, k_X5 a_now a_now_row a_now_partners c_now_askedCount c_now_outcome a_now_share a_now_leftOver, k_I E a_now_row 81 c_now_row, k_I E a_now_partners 8 c_now_partners, k_I E a_now_share 2 c_now_share, k_I E a_now_leftOver 2 c_now_leftOver, k_X0 a_book a_book_lines, k_I E a_book_lines 300 c_book_lines, k_X2 a_history a_history_rows c_history_next c_history_held, k_I E a_history_rows 3240 c_history_rows, k_I E a_refused 3 c_refused]
def v_f_X7_move : List Cond := List.cons (.code yX7_move cX7_move 4 (some .int)) (HAppend.hAppend (α := List Cond) (β := List Cond) (γ := List Cond) [.methodLink RX7 163 yX7_act, .instanceMethod yX7_act, .selects RX7 yX7_act yX7_act, .initialized RX7] (HAppend.hAppend (α := List Cond) (β := List Cond) (γ := List Cond) v_f_X7_act []))
theorem gw_f_X7_move : v_f_X7_move.all goodWord = true := gw_c2 (by decide +kernel) (gw_ap gw_f_X7_act gw_nil)
theorem g_f_X7_move_f_X7_act_163 : GoodIn v_f_X7_move (wsV RX7 163 RX7 yX7_act v_f_X7_act) := goodIn_in gw_f_X7_move (in4 1 2 3 4 rfl rfl rfl rfl (fun _ h => List.mem_cons_of_mem _ (List.mem_append_right _ (List.mem_append_left _ h))))
theorem hd_X7_move : yX7_move.cls = RX7 ∧ yX7_move.cls ≠ "java/lang/invoke/MethodHandle" ∧ yX7_move.cls ≠ "java/lang/invoke/VarHandle" ∧ (parseMethodDescriptor yX7_move.desc).map (fun d => d.parameters.length) = some 3 := by decide +kernel
set_option maxHeartbeats 4000000 in
set_option maxRecDepth 100000 in
theorem f_X7_move (l : Launch) (E : EE) (sz : Nat) (K : Nat) {a_ a_tape a_reader a_scripts a_now a_trial a_kept a_book a_keptBook a_history a_draws a_refused a_now_row a_now_partners a_now_share a_now_leftOver a_book_lines a_history_rows : Nat} {p1 : Int32} {p2 : Int32} {p3 : Int32} {c_hasImage : Int32} {c_now_askedCount : Int32} {c_now_outcome : Int32} {c_now_row : Nat → Int32} {c_now_partners : Nat → Int32} {c_now_share : Nat → Int32} {c_now_leftOver : Nat → Int32} {c_book_lines : Nat → Int32} {c_history_next : Int32} {c_history_held : Int32} {c_history_rows : Nat → Int32} {c_refused : Nat → Int32} {rr : Int32} {n_now_row : Nat → Int32} {n_now_partners : Nat → Int32} {n_now_askedCount : Int32} {n_now_outcome : Int32} {n_now_share : Nat → Int32} {n_now_leftOver : Nat → Int32} {n_book_lines : Nat → Int32} {n_history_rows : Nat → Int32} {n_history_next : Int32} {n_history_held : Int32} {n_refused : Nat → Int32} (hF : F_X7_move K p1 p2 p3 c_now_row c_now_partners c_now_askedCount c_now_outcome c_now_share c_now_leftOver c_book_lines c_history_rows c_history_next c_history_held c_refused = some (rr, n_now_row, n_now_partners, n_now_askedCount, n_now_outcome, n_now_share, n_now_leftOver, n_book_lines, n_history_rows, n_history_next, n_history_held, n_refused)) : Met l yX7_move v_f_X7_move (({ frames := 6, cells := 0, slots := 0, locals := 151 } : Room)) (va_Pc [.ref a_, .int p1, .int p2, .int p3] (pW E sz (w_X7_move E a_ a_tape a_reader a_scripts a_now a_trial a_kept a_book a_keptBook a_history a_draws a_refused a_now_row a_now_partners a_now_share a_now_leftOver a_book_lines a_history_rows c_hasImage c_now_askedCount c_now_outcome c_now_row c_now_partners c_now_share c_now_leftOver c_book_lines c_history_next c_history_held c_history_rows c_refused))) (va_Qi (fun (q : Int32) (_u : Unit) => q = rr) (fun (_u : Unit) tt => va_P E.1 vwCl (w_X7_move E a_ a_tape a_reader a_scripts a_now a_trial a_kept a_book a_keptBook a_history a_draws a_refused a_now_row a_now_partners a_now_share a_now_leftOver a_book_lines a_history_rows c_hasImage n_now_askedCount n_now_outcome n_now_row n_now_partners n_now_share n_now_leftOver n_book_lines n_history_next n_history_held n_history_rows n_refused) tt.heap ∧ va_D (va_A (w_X7_move E a_ a_tape a_reader a_scripts a_now a_trial a_kept a_book a_keptBook a_history a_draws a_refused a_now_row a_now_partners a_now_share a_now_leftOver a_book_lines a_history_rows c_hasImage c_now_askedCount c_now_outcome c_now_row c_now_partners c_now_share c_now_leftOver c_book_lines c_history_next c_history_held c_history_rows c_refused) sz) (w_X7_move E a_ a_tape a_reader a_scripts a_now a_trial a_kept a_book a_keptBook a_history a_draws a_refused a_now_row a_now_partners a_now_share a_now_leftOver a_book_lines a_history_rows c_hasImage n_now_askedCount n_now_outcome n_now_row n_now_partners n_now_share n_now_leftOver n_book_lines n_history_next n_history_held n_history_rows n_refused)) (va_A (w_X7_move E a_ a_tape a_reader a_scripts a_now a_trial a_kept a_book a_keptBook a_history a_draws a_refused a_now_row a_now_partners a_now_share a_now_leftOver a_book_lines a_history_rows c_hasImage c_now_askedCount c_now_outcome c_now_row c_now_partners c_now_share c_now_leftOver c_book_lines c_history_next c_history_held c_history_rows c_refused) sz)) 0 0 (va_A (w_X7_move E a_ a_tape a_reader a_scripts a_now a_trial a_kept a_book a_keptBook a_history a_draws a_refused a_now_row a_now_partners a_now_share a_now_leftOver a_book_lines a_history_rows c_hasImage c_now_askedCount c_now_outcome c_now_row c_now_partners c_now_share c_now_leftOver c_book_lines c_history_next c_history_held c_history_rows c_refused) sz) := by
  refine Met.ofW (cc := cX7_move) (maxL := 4) (ret := (some .int)) (by decide) rfl ?_
  intro p e s m args below meth c s₁ B hml hv
  obtain ⟨rfl, hsz, ⟨hK, hN⟩, hP, hD0⟩ := hv
  have hx := B.exec
  have hb := B.bytes
  have hr := B.returns
  have hts := atoms_spec (ws := v_f_X7_move) B.pre
  have hown : s.vm.findClass RX7 = some m.cls := own_of hd_X7_move.1 (findClass_of_methodNamed B.named)
  have hlocks : meth.locks = false := B.notSynchronized
  subst hsz
  have hD := hD0.self (sz := s.heap.size)
  generalize hAe : va_A (w_X7_move E a_ a_tape a_reader a_scripts a_now a_trial a_kept a_book a_keptBook a_history a_draws a_refused a_now_row a_now_partners a_now_share a_now_leftOver a_book_lines a_history_rows c_hasImage c_now_askedCount c_now_outcome c_now_row c_now_partners c_now_share c_now_leftOver c_book_lines c_history_next c_history_held c_history_rows c_refused) s.heap.size = A at hD ⊢
  have hA : ∀ q : Nat, s.heap.size ≤ q → A q := fun q h => by rw [← hAe]; exact Or.inr h
  have hS : va_S A s.heap s.heap [] := va_S.rf
  have hl := lv_entry ([.ref a_, .int p1, .int p2, .int p3]) (n := 4) (Nat.le_of_ble_eq_true rfl)
  rw [lg_entry_eq]
  generalize (lg_sl ([.ref a_, .int p1, .int p2, .int p3]) ++ List.replicate (4 - (lg_sl ([.ref a_, .int p1, .int p2, .int p3])).length) Slot.unset).toArray = ls at hl ⊢
  have hl : lv_has ls 4 [(0, .ref a_), (1, .int p1), (2, .int p2), (3, .int p3)] := hl
  obtain ⟨Q, hQ⟩ : ∃ Q : State → Prop, Q = MQ below (va_Qi (fun (q : Int32) (_u : Unit) => q = rr) (fun (_u : Unit) tt => va_P E.1 vwCl (w_X7_move E a_ a_tape a_reader a_scripts a_now a_trial a_kept a_book a_keptBook a_history a_draws a_refused a_now_row a_now_partners a_now_share a_now_leftOver a_book_lines a_history_rows c_hasImage n_now_askedCount n_now_outcome n_now_row n_now_partners n_now_share n_now_leftOver n_book_lines n_history_next n_history_held n_history_rows n_refused) tt.heap ∧ va_D A (w_X7_move E a_ a_tape a_reader a_scripts a_now a_trial a_kept a_book a_keptBook a_history a_draws a_refused a_now_row a_now_partners a_now_share a_now_leftOver a_book_lines a_history_rows c_hasImage n_now_askedCount n_now_outcome n_now_row n_now_partners n_now_share n_now_leftOver n_book_lines n_history_next n_history_held n_history_rows n_refused)) A) #[Value.ref a_, Value.int p1, Value.int p2, Value.int p3] s 0 0 A := ⟨_, rfl⟩
  rw [← hQ]
  change W p l e ({ frames := 6, cells := 0, slots := 0, locals := 151 } : Room) s m #[Value.ref a_, Value.int p1, Value.int p2, Value.int p3] below meth c s.heap [] 0 0 Q (F0 m 0 ls [])
  suffices hh9 : ∀ (H : Heap) (locs : List Loc), va_P E.1 vwCl (w_X7_move E a_ a_tape a_reader a_scripts a_now a_trial a_kept a_book a_keptBook a_history a_draws a_refused a_now_row a_now_partners a_now_share a_now_leftOver a_book_lines a_history_rows c_hasImage c_now_askedCount c_now_outcome c_now_row c_now_partners c_now_share c_now_leftOver c_book_lines c_history_next c_history_held c_history_rows c_refused) H → va_D A (w_X7_move E a_ a_tape a_reader a_scripts a_now a_trial a_kept a_book a_keptBook a_history a_draws a_refused a_now_row a_now_partners a_now_share a_now_leftOver a_book_lines a_history_rows c_hasImage c_now_askedCount c_now_outcome c_now_row c_now_partners c_now_share c_now_leftOver c_book_lines c_history_next c_history_held c_history_rows c_refused) → va_S A s.heap H locs → W p l e ({ frames := 6, cells := 0, slots := 0, locals := 151 } : Room) s m #[Value.ref a_, Value.int p1, Value.int p2, Value.int p3] below meth c H locs 0 0 Q (F0 m 0 ls []) from hh9 s.heap [] hP hD hS
  clear hP hD hS
  intro H locs hP hD hS
  have h9 := fixPD (ws' := [k_X7 a_ a_tape a_reader a_scripts a_now a_trial a_kept a_book a_keptBook a_history a_draws a_refused c_hasImage, k_X5 a_now a_now_row a_now_partners c_now_askedCount c_now_outcome a_now_share a_now_leftOver, k_I E a_now_row 81 c_now_row, k_I E a_now_partners 8 c_now_partners, k_I E a_now_share 2 c_now_share, k_I E a_now_leftOver 2 c_now_leftOver, k_X0 a_book a_book_lines, k_I E a_book_lines 300 c_book_lines, k_X2 a_history a_history_rows c_history_next c_history_held, k_I E a_history_rows 3240 c_history_rows, k_I E a_refused 3 c_refused]) hP hD rfl
  clear hP hD
  obtain ⟨hP, hD⟩ := h9
  unfold F_X7_move at hF
  refine lv_aload_n hx hb (dq_42 0 bcX7_move_0 (j := 0) rfl rfl) rfl (lv_at hl 0 rfl) ?_
  refine lv_iconst (v := 0) hx hb (dq_3 0 bcX7_move_0 (j := 1) rfl rfl) (by decide) ?_
  refine lv_iload_n hx hb (dq_27 0 bcX7_move_0 (j := 2) rfl rfl) rfl (lv_at hl 1 rfl) ?_
  refine lv_iload_n hx hb (dq_28 0 bcX7_move_0 (j := 3) rfl rfl) rfl (lv_at hl 2 rfl) ?_
  refine lv_iload_n hx hb (dq_29 0 bcX7_move_0 (j := 4) rfl rfl) rfl (lv_at hl 3 rfl) ?_
  refine lv_iconst (v := 1) hx hb (dq_4 0 bcX7_move_0 (j := 5) rfl rfl) (by decide) ?_
  replace hF := bd12_s hF
  obtain ⟨r_1, w_2, w_3, w_4, w_5, w_6, w_7, w_8, w_9, w_10, w_11, w_12, hc_13, hF⟩ := hF
  obtain ⟨hPc, hDc, hFc⟩ := wcut (wc := (w_X7_act E a_ a_tape a_reader a_scripts a_now a_trial a_kept a_book a_keptBook a_history a_draws a_refused a_now_row a_now_partners a_now_share a_now_leftOver a_book_lines a_history_rows c_hasImage c_now_askedCount c_now_outcome c_now_row c_now_partners c_now_share c_now_leftOver c_book_lines c_history_next c_history_held c_history_rows c_refused)) hP hD hS hA [0, 1, 2, 3, 4, 5, 6, 7, 8, 9, 10] (by decide) rfl
  have hrc := va_recv hK hPc (ci := 8) (q0 := 0) rfl rfl
  refine cE_i (wc := (w_X7_act E a_ a_tape a_reader a_scripts a_now a_trial a_kept a_book a_keptBook a_history a_draws a_refused a_now_row a_now_partners a_now_share a_now_leftOver a_book_lines a_history_rows c_hasImage c_now_askedCount c_now_outcome c_now_row c_now_partners c_now_share c_now_leftOver c_book_lines c_history_next c_history_held c_history_rows c_refused)) (wr := []) (w1 := (w_X7_act E a_ a_tape a_reader a_scripts a_now a_trial a_kept a_book a_keptBook a_history a_draws a_refused a_now_row a_now_partners a_now_share a_now_leftOver a_book_lines a_history_rows c_hasImage w_4 w_5 w_2 w_3 w_6 w_7 w_8 w_10 w_11 w_9 w_12)) (va_runV (As := [.int (0 : Int32), .int p1, .int p2, .int p3, .int (1 : Int32)]) (rest := [])  ⟨hx, hb, hml, hown, hts⟩ (f_X7_act l E H.size K (a_ := a_) (a_tape := a_tape) (a_reader := a_reader) (a_scripts := a_scripts) (a_now := a_now) (a_trial := a_trial) (a_kept := a_kept) (a_book := a_book) (a_keptBook := a_keptBook) (a_history := a_history) (a_draws := a_draws) (a_refused := a_refused) (a_now_row := a_now_row) (a_now_partners := a_now_partners) (a_now_share := a_now_share) (a_now_leftOver := a_now_leftOver) (a_book_lines := a_book_lines) (a_history_rows := a_history_rows) (p1 := (0 : Int32)) (p2 := p1) (p3 := p2) (p4 := p3) (p5 := (1 : Int32)) (c_hasImage := c_hasImage) (c_now_askedCount := c_now_askedCount) (c_now_outcome := c_now_outcome) (c_now_row := c_now_row) (c_now_partners := c_now_partners) (c_now_share := c_now_share) (c_now_leftOver := c_now_leftOver) (c_book_lines := c_book_lines) (c_history_next := c_history_next) (c_history_held := c_history_held) (c_history_rows := c_history_rows) (c_refused := c_refused) hc_13) (cwV 5 hts g_f_X7_move_f_X7_act_163 rfl rfl rfl hd_X7_act ⟨Nat.le_of_ble_eq_true rfl, Nat.le_of_ble_eq_true rfl⟩) ⟨pW.blind, hrc, (pW.pre ⟨hK, hN⟩ hPc hDc)⟩ rfl rfl hl.1 rfl (lv_room (Nat.le_of_ble_eq_true rfl)) (dq_182 0 bcX7_move_0 (j := 6) (i := 163) rfl rfl rfl) ⟨Nat.le_of_ble_eq_true rfl, Nat.le_of_ble_eq_true rfl⟩) hS hFc hP hD [0, 1, 2, 3, 4, 5, 6, 7, 8, 9, 10] [] rfl rfl (by decide) (by decide) (fun H locs hP hD hS => ?_)
  have h9 := fixPD (ws' := [k_X7 a_ a_tape a_reader a_scripts a_now a_trial a_kept a_book a_keptBook a_history a_draws a_refused c_hasImage, k_X5 a_now a_now_row a_now_partners w_4 w_5 a_now_share a_now_leftOver, k_I E a_now_row 81 w_2, k_I E a_now_partners 8 w_3, k_I E a_now_share 2 w_6, k_I E a_now_leftOver 2 w_7, k_X0 a_book a_book_lines, k_I E a_book_lines 300 w_8, k_X2 a_history a_history_rows w_10 w_11, k_I E a_history_rows 3240 w_9, k_I E a_refused 3 w_12]) hP hD rfl
  clear hP hD
  obtain ⟨hP, hD⟩ := h9
  rw [hQ]
  have h9 := fin9 (P := fun u9 : Int32 × (Nat → Int32) × (Nat → Int32) × Int32 × Int32 × (Nat → Int32) × (Nat → Int32) × (Nat → Int32) × (Nat → Int32) × Int32 × Int32 × (Nat → Int32) => r_1 = u9.1 ∧ va_P E.1 vwCl (w_X7_move E a_ a_tape a_reader a_scripts a_now a_trial a_kept a_book a_keptBook a_history a_draws a_refused a_now_row a_now_partners a_now_share a_now_leftOver a_book_lines a_history_rows c_hasImage u9.2.2.2.1 u9.2.2.2.2.1 u9.2.1 u9.2.2.1 u9.2.2.2.2.2.1 u9.2.2.2.2.2.2.1 u9.2.2.2.2.2.2.2.1 u9.2.2.2.2.2.2.2.2.2.1 u9.2.2.2.2.2.2.2.2.2.2.1 u9.2.2.2.2.2.2.2.2.1 u9.2.2.2.2.2.2.2.2.2.2.2) H ∧ va_D A (w_X7_move E a_ a_tape a_reader a_scripts a_now a_trial a_kept a_book a_keptBook a_history a_draws a_refused a_now_row a_now_partners a_now_share a_now_leftOver a_book_lines a_history_rows c_hasImage u9.2.2.2.1 u9.2.2.2.2.1 u9.2.1 u9.2.2.1 u9.2.2.2.2.2.1 u9.2.2.2.2.2.2.1 u9.2.2.2.2.2.2.2.1 u9.2.2.2.2.2.2.2.2.2.1 u9.2.2.2.2.2.2.2.2.2.2.1 u9.2.2.2.2.2.2.2.2.1 u9.2.2.2.2.2.2.2.2.2.2.2)) hF ⟨rfl, hP, hD⟩
  obtain ⟨e9_0, hP9, hD9⟩ := h9
  exact W.iret (v := r_1) hx hb hr (fun tt ht hW => ⟨⟨_, (), rfl, e9_0, ht ▸ hP9, hD9⟩, hS.F ht⟩) hS.2.2 (dq_172 0 bcX7_move_0 (j := 9) rfl rfl)

def F_X7_needs (p1 : Int32) (p2 : Int32) (p3 : Int32) (c_now_row : Nat → Int32) : Option (Int64) :=
  bd1 (F_X5_refusal (0 : Int32) p1 p2 p3 c_now_row) (fun r_1 => if r_1 = (-1 : Int32) then bd1 (F_X5_pointValue p1 p2 p3 c_now_row) (fun r_4 => some (r_4 + (1 : Int64))) else some (-100000000 : Int64))
abbrev w_X7_needs (E : EE) (a_ a_tape a_reader a_scripts a_now a_trial a_kept a_book a_keptBook a_history a_draws a_refused a_now_row a_now_partners a_now_share a_now_leftOver : Nat) (c_hasImage : Int32) (c_now_askedCount : Int32) (c_now_outcome : Int32) (c_now_row : Nat → Int32) : va_W := [k_X7 a_ a_tape a_reader a_scripts a_now a_trial a_kept a_book a_keptBook a_history a_draws a_refused c_hasImage, k_X5 a_now a_now_row a_now_partners c_now_askedCount c_now_outcome a_now_share a_now_leftOver, k_I E a_now_row 81 c_now_row]
def v_f_X7_needs : List Cond := List.cons (.code yX7_needs cX7_needs 4 (some .long)) (HAppend.hAppend (α := List Cond) (β := List Cond) (γ := List Cond) [.fieldLink RX7 35 "HushWatch" "now" "LHushWatch$State;", .constantLong RX7 154 (-100000000), .methodLink RX7 220 yX5_refusal, .instanceMethod yX5_refusal, .selects RX5 yX5_refusal yX5_refusal, .initialized RX5, .methodLink RX7 254 yX5_pointValue, .instanceMethod yX5_pointValue, .selects RX5 yX5_pointValue yX5_pointValue] (HAppend.hAppend (α := List Cond) (β := List Cond) (γ := List Cond) wsX70 (HAppend.hAppend (α := List Cond) (β := List Cond) (γ := List Cond) v_f_X5_refusal (HAppend.hAppend (α := List Cond) (β := List Cond) (γ := List Cond) v_f_X5_pointValue []))))
theorem gw_f_X7_needs : v_f_X7_needs.all goodWord = true := gw_c2 (by decide +kernel) (gw_ap gw_wsX70 (gw_ap gw_f_X5_refusal (gw_ap gw_f_X5_pointValue gw_nil)))
theorem i_f_X7_needs_X7 : ∀ w ∈ wsX70, w ∈ v_f_X7_needs := fun _ h => List.mem_cons_of_mem _ (List.mem_append_right _ (List.mem_append_left _ h))
theorem g_f_X7_needs_f_X5_refusal_220 : GoodIn v_f_X7_needs (wsV RX7 220 RX5 yX5_refusal v_f_X5_refusal) := goodIn_in gw_f_X7_needs (in4 3 4 5 6 rfl rfl rfl rfl (fun _ h => List.mem_cons_of_mem _ (List.mem_append_right _ (List.mem_append_right _ (List.mem_append_left _ h)))))
theorem g_f_X7_needs_f_X5_pointValue_254 : GoodIn v_f_X7_needs (wsV RX7 254 RX5 yX5_pointValue v_f_X5_pointValue) := goodIn_in gw_f_X7_needs (in4 7 8 9 6 rfl rfl rfl rfl (fun _ h => List.mem_cons_of_mem _ (List.mem_append_right _ (List.mem_append_right _ (List.mem_append_right _ (List.mem_append_left _ h))))))
theorem hd_X7_needs : yX7_needs.cls = RX7 ∧ yX7_needs.cls ≠ "java/lang/invoke/MethodHandle" ∧ yX7_needs.cls ≠ "java/lang/invoke/VarHandle" ∧ (parseMethodDescriptor yX7_needs.desc).map (fun d => d.parameters.length) = some 3 := by decide +kernel
set_option maxHeartbeats 4000000 in
set_option maxRecDepth 100000 in
theorem f_X7_needs (l : Launch) (E : EE) {a_ a_tape a_reader a_scripts a_now a_trial a_kept a_book a_keptBook a_history a_draws a_refused a_now_row a_now_partners a_now_share a_now_leftOver : Nat} {p1 : Int32} {p2 : Int32} {p3 : Int32} {c_hasImage : Int32} {c_now_askedCount : Int32} {c_now_outcome : Int32} {c_now_row : Nat → Int32} {rr : Int64} (hF : F_X7_needs p1 p2 p3 c_now_row = some rr) : Met l yX7_needs v_f_X7_needs (({ frames := 4, cells := 0, slots := 0, locals := 92 } : Room)) (va_Pc [.ref a_, .int p1, .int p2, .int p3] (pP E (w_X7_needs E a_ a_tape a_reader a_scripts a_now a_trial a_kept a_book a_keptBook a_history a_draws a_refused a_now_row a_now_partners a_now_share a_now_leftOver c_hasImage c_now_askedCount c_now_outcome c_now_row))) (vp_Sl (fun q : Int64 => q = rr)) 0 0 (fun _ => False) := by
  refine Met.ofW (cc := cX7_needs) (maxL := 4) (ret := (some .long)) (by decide) rfl ?_
  intro p e s m args below meth c s₁ B hml hv
  obtain ⟨rfl, ⟨hK, hN⟩, hP⟩ := hv
  have hx := B.exec
  have hb := B.bytes
  have hr := B.returns
  have hts := atoms_spec (ws := v_f_X7_needs) B.pre
  have hown : s.vm.findClass RX7 = some m.cls := own_of hd_X7_needs.1 (findClass_of_methodNamed B.named)
  have hlocks : meth.locks = false := B.notSynchronized
  replace hP : va_P E.1 vwCl [k_X7 a_ a_tape a_reader a_scripts a_now a_trial a_kept a_book a_keptBook a_history a_draws a_refused c_hasImage, k_X5 a_now a_now_row a_now_partners c_now_askedCount c_now_outcome a_now_share a_now_leftOver, k_I E a_now_row 81 c_now_row] s.heap := hP
  have hl := lv_entry ([.ref a_, .int p1, .int p2, .int p3]) (n := 4) (Nat.le_of_ble_eq_true rfl)
  rw [lg_entry_eq]
  generalize (lg_sl ([.ref a_, .int p1, .int p2, .int p3]) ++ List.replicate (4 - (lg_sl ([.ref a_, .int p1, .int p2, .int p3])).length) Slot.unset).toArray = ls at hl ⊢
  have hl : lv_has ls 4 [(0, .ref a_), (1, .int p1), (2, .int p2), (3, .int p3)] := hl
  obtain ⟨Q, hQ⟩ : ∃ Q : State → Prop, Q = MQ below (vp_Sl (fun q : Int64 => q = rr)) #[Value.ref a_, Value.int p1, Value.int p2, Value.int p3] s 0 0 (fun _ => False) := ⟨_, rfl⟩
  rw [← hQ]
  change W p l e ({ frames := 4, cells := 0, slots := 0, locals := 92 } : Room) s m #[Value.ref a_, Value.int p1, Value.int p2, Value.int p3] below meth c s.heap [] 0 0 Q (F0 m 0 ls [])
  unfold F_X7_needs at hF
  refine lv_aload_n hx hb (dq_42 0 bcX7_needs_0 (j := 0) rfl rfl) rfl (lv_at hl 0 rfl) ?_
  refine gt_X7_3 (v := .ref a_now) hx hb hts i_f_X7_needs_X7 hown hK hP 0 rfl (hts (.fieldLink RX7 35 "HushWatch" "now" "LHushWatch$State;") (List.mem_of_getElem? (i := 1) rfl)) rfl (dq_180 0 bcX7_needs_0 (j := 1) (i := 35) rfl rfl rfl) ?_
  refine lv_iconst (v := 0) hx hb (dq_3 0 bcX7_needs_0 (j := 4) rfl rfl) (by decide) ?_
  refine lv_iload_n hx hb (dq_27 0 bcX7_needs_0 (j := 5) rfl rfl) rfl (lv_at hl 1 rfl) ?_
  refine lv_iload_n hx hb (dq_28 0 bcX7_needs_0 (j := 6) rfl rfl) rfl (lv_at hl 2 rfl) ?_
  refine lv_iload_n hx hb (dq_29 0 bcX7_needs_0 (j := 7) rfl rfl) rfl (lv_at hl 3 rfl) ?_
  replace hF := bd1_s hF
  obtain ⟨r_1, hc_2, hF⟩ := hF
  have hPc : va_P E.1 vwCl (w_X5_refusal E a_now a_now_row a_now_partners a_now_share a_now_leftOver c_now_askedCount c_now_outcome c_now_row) s.heap := hP.sub (ws' := [k_X5 a_now a_now_row a_now_partners c_now_askedCount c_now_outcome a_now_share a_now_leftOver, k_I E a_now_row 81 c_now_row]) [1, 2] rfl
  have hrc := va_recv hK hPc (ci := 6) (q0 := 0) rfl rfl
  refine pE_i (va_runV (As := [.int (0 : Int32), .int p1, .int p2, .int p3]) (rest := [])  ⟨hx, hb, hml, hown, hts⟩ (f_X5_refusal l E (a_ := a_now) (a_row := a_now_row) (a_partners := a_now_partners) (a_share := a_now_share) (a_leftOver := a_now_leftOver) (p1 := (0 : Int32)) (p2 := p1) (p3 := p2) (p4 := p3) (c_askedCount := c_now_askedCount) (c_outcome := c_now_outcome) (c_row := c_now_row) hc_2) (cwV 4 hts g_f_X7_needs_f_X5_refusal_220 rfl rfl rfl hd_X5_refusal ⟨Nat.le_of_ble_eq_true rfl, Nat.le_of_ble_eq_true rfl⟩) ⟨pP.blind, hrc, (pP.pre ⟨hK, hN⟩ hPc)⟩ rfl rfl hl.1 rfl (lv_room (Nat.le_of_ble_eq_true rfl)) (dq_182 0 bcX7_needs_0 (j := 8) (i := 220) rfl rfl rfl) ⟨Nat.le_of_ble_eq_true rfl, Nat.le_of_ble_eq_true rfl⟩) ?_
  refine lv_iconst (v := -1) hx hb (dq_2 0 bcX7_needs_0 (j := 11) rfl rfl) (by decide) ?_
  refine lv_icmp_eq (tgt := 19) hx hb (dq_159 0 bcX7_needs_0 (j := 12) (i := 7) rfl rfl rfl) (by decide) (fun c_3 => ?_) (fun c_3 => ?_)
  ·
    replace hF := ip c_3 hF
    refine lv_aload_n hx hb (dq_42 0 bcX7_needs_0 (j := 19) rfl rfl) rfl (lv_at hl 0 rfl) ?_
    refine gt_X7_3 (v := .ref a_now) hx hb hts i_f_X7_needs_X7 hown hK hP 0 rfl (hts (.fieldLink RX7 35 "HushWatch" "now" "LHushWatch$State;") (List.mem_of_getElem? (i := 1) rfl)) rfl (dq_180 0 bcX7_needs_0 (j := 20) (i := 35) rfl rfl rfl) ?_
    refine lv_iload_n hx hb (dq_27 0 bcX7_needs_0 (j := 23) rfl rfl) rfl (lv_at hl 1 rfl) ?_
    refine lv_iload_n hx hb (dq_28 0 bcX7_needs_0 (j := 24) rfl rfl) rfl (lv_at hl 2 rfl) ?_
    refine lv_iload_n hx hb (dq_29 0 bcX7_needs_0 (j := 25) rfl rfl) rfl (lv_at hl 3 rfl) ?_
    replace hF := bd1_s hF
    obtain ⟨r_4, hc_5, hF⟩ := hF
    have hPc : va_P E.1 vwCl (w_X5_pointValue E a_now a_now_row a_now_partners a_now_share a_now_leftOver c_now_askedCount c_now_outcome c_now_row) s.heap := hP.sub (ws' := [k_X5 a_now a_now_row a_now_partners c_now_askedCount c_now_outcome a_now_share a_now_leftOver, k_I E a_now_row 81 c_now_row]) [1, 2] rfl
    have hrc := va_recv hK hPc (ci := 6) (q0 := 0) rfl rfl
    refine pE_l (va_runV (As := [.int p1, .int p2, .int p3]) (rest := [])  ⟨hx, hb, hml, hown, hts⟩ (f_X5_pointValue l E (a_ := a_now) (a_row := a_now_row) (a_partners := a_now_partners) (a_share := a_now_share) (a_leftOver := a_now_leftOver) (p1 := p1) (p2 := p2) (p3 := p3) (c_askedCount := c_now_askedCount) (c_outcome := c_now_outcome) (c_row := c_now_row) hc_5) (cwV 3 hts g_f_X7_needs_f_X5_pointValue_254 rfl rfl rfl hd_X5_pointValue ⟨Nat.le_of_ble_eq_true rfl, Nat.le_of_ble_eq_true rfl⟩) ⟨pP.blind, hrc, (pP.pre ⟨hK, hN⟩ hPc)⟩ rfl rfl hl.1 rfl (lv_room (Nat.le_of_ble_eq_true rfl)) (dq_182 0 bcX7_needs_0 (j := 26) (i := 254) rfl rfl rfl) ⟨Nat.le_of_ble_eq_true rfl, Nat.le_of_ble_eq_true rfl⟩) ?_
    refine lv_lconst (v := 1) hx hb (dq_10 0 bcX7_needs_0 (j := 29) rfl rfl) (by decide) ?_
    refine lv_ladd hx hb (dq_97 0 bcX7_needs_0 (j := 30) rfl rfl) ?_
    rw [hQ]
    obtain e9_0 := inj1 hF
    exact W.lret (v := r_4 + (1 : Int64)) hx hb hr (fun tt ht hW => ⟨_, rfl, e9_0, ht⟩) (fun _ h => by cases h) (dq_173 0 bcX7_needs_0 (j := 31) rfl rfl)
  ·
    replace hF := inn c_3 hF
    refine lv_ldc2 (v := -100000000) hx hb hown (hts (.constantLong RX7 154 (-100000000)) (List.mem_of_getElem? (i := 2) rfl)) (dq_20 0 bcX7_needs_0 (j := 15) (i := 154) rfl rfl rfl) ?_
    rw [hQ]
    obtain e9_0 := inj1 hF
    exact W.lret (v := (-100000000 : Int64)) hx hb hr (fun tt ht hW => ⟨_, rfl, e9_0, ht⟩) (fun _ h => by cases h) (dq_173 0 bcX7_needs_0 (j := 18) rfl rfl)

def B_X7_partner_64 (K : Nat) (p1 : Int32) (c_trial_row : Nat → Int32) (x4 : Int32) (c_trial_share : Nat → Int32) (c_trial_leftOver : Nat → Int32) : Option ((Int32 × (Nat → Int32) × (Nat → Int32)) ⊕ (Nat × Int32 × (Nat → Int32) × (Nat → Int32))) :=
  bd1 (F_X5_sites c_trial_row) (fun r_16 => if r_16 ≤ x4 then some (.inr (1, x4, c_trial_share, c_trial_leftOver)) else if x4 = p1 then some (.inl (x4 + (1 : Int32), c_trial_share, c_trial_leftOver)) else bd1 (F_X5_isFrozen x4 c_trial_row) (fun r_20 => if r_20 = (0 : Int32) then bd3 (F_X5_canShare K (((1 : Int32) <<< (p1 &&& (31 : Int32))) ||| ((1 : Int32) <<< (x4 &&& (31 : Int32)))) c_trial_row c_trial_share c_trial_leftOver) (fun r_24 w_25 w_26 => if r_24 = (0 : Int32) then some (.inl (x4 + (1 : Int32), w_25, w_26)) else some (.inr (0, x4, w_25, w_26))) else some (.inl (x4 + (1 : Int32), c_trial_share, c_trial_leftOver))))
def F_X7_partner (K : Nat) (p1 : Int32) (p2 : Int32) (p3 : Int32) (c_now_row : Nat → Int32) (c_trial_row : Nat → Int32) (c_trial_share : Nat → Int32) (c_trial_leftOver : Nat → Int32) : Option (Int32 × (Nat → Int32) × (Nat → Int32) × (Nat → Int32)) :=
  bd1 (F_X5_refusal (0 : Int32) p1 p2 p3 c_now_row) (fun r_1 => if r_1 = (-1 : Int32) then bd1 (F_X5_isAbove c_now_row) (fun r_4 => if r_4 = (0 : Int32) then bd1 (F_X5_isQuietWith p1 p2 p3 c_now_row) (fun r_8 => if r_8 = (0 : Int32) then bd1 (F_X5_copyFrom c_trial_row c_now_row) (fun w_12 => bd1 (F_X5_shift p1 p2 p3 w_12) (fun w_14 => bd4 (lpF (fun u9 : Int32 × (Nat → Int32) × (Nat → Int32) => B_X7_partner_64 K p1 w_14 u9.1 u9.2.1 u9.2.2) K ((0 : Int32), c_trial_share, c_trial_leftOver)) (fun t_30 x4_31 c_trial_share_32 c_trial_leftOver_33 => if t_30 = 0 then some (x4_31, w_14, c_trial_share_32, c_trial_leftOver_33) else if t_30 = 1 then some ((-1 : Int32), w_14, c_trial_share_32, c_trial_leftOver_33) else none))) else some ((-1 : Int32), c_trial_row, c_trial_share, c_trial_leftOver)) else some ((-1 : Int32), c_trial_row, c_trial_share, c_trial_leftOver)) else some ((-1 : Int32), c_trial_row, c_trial_share, c_trial_leftOver))
abbrev w_X7_partner (E : EE) (a_ a_tape a_reader a_scripts a_now a_trial a_kept a_book a_keptBook a_history a_draws a_refused a_now_row a_now_partners a_now_share a_now_leftOver a_trial_row a_trial_partners a_trial_share a_trial_leftOver : Nat) (c_hasImage : Int32) (c_now_askedCount : Int32) (c_now_outcome : Int32) (c_now_row : Nat → Int32) (c_trial_askedCount : Int32) (c_trial_outcome : Int32) (c_trial_row : Nat → Int32) (c_trial_share : Nat → Int32) (c_trial_leftOver : Nat → Int32) : va_W := [k_X7 a_ a_tape a_reader a_scripts a_now a_trial a_kept a_book a_keptBook a_history a_draws a_refused c_hasImage, k_X5 a_now a_now_row a_now_partners c_now_askedCount c_now_outcome a_now_share a_now_leftOver, k_I E a_now_row 81 c_now_row, k_X5 a_trial a_trial_row a_trial_partners c_trial_askedCount c_trial_outcome a_trial_share a_trial_leftOver, k_I E a_trial_row 81 c_trial_row, k_I E a_trial_share 2 c_trial_share, k_I E a_trial_leftOver 2 c_trial_leftOver]
def v_f_X7_partner : List Cond := List.cons (.code yX7_partner cX7_partner 5 (some .int)) (HAppend.hAppend (α := List Cond) (β := List Cond) (γ := List Cond) [.fieldLink RX7 35 "HushWatch" "now" "LHushWatch$State;", .fieldLink RX7 39 "HushWatch" "trial" "LHushWatch$State;", .methodLink RX7 220 yX5_refusal, .instanceMethod yX5_refusal, .selects RX5 yX5_refusal yX5_refusal, .initialized RX5, .methodLink RX7 244 yX5_isAbove, .instanceMethod yX5_isAbove, .selects RX5 yX5_isAbove yX5_isAbove, .methodLink RX7 217 yX5_isQuietWith, .instanceMethod yX5_isQuietWith, .selects RX5 yX5_isQuietWith yX5_isQuietWith, .methodLink RX7 237 yX5_copyFrom, .instanceMethod yX5_copyFrom, .selects RX5 yX5_copyFrom yX5_copyFrom, .methodLink RX7 247 yX5_shift, .instanceMethod yX5_shift, .selects RX5 yX5_shift yX5_shift, .methodLink RX7 117 yX5_sites, .instanceMethod yX5_sites, .selects RX5 yX5_sites yX5_sites, .methodLink RX7 143 yX5_isFrozen, .instanceMethod yX5_isFrozen, .selects RX5 yX5_isFrozen yX5_isFrozen, .methodLink RX7 251 yX5_canShare, .instanceMethod yX5_canShare, .selects RX5 yX5_canShare yX5_canShare] (HAppend.hAppend (α := List Cond) (β := List Cond) (γ := List Cond) wsX70 (HAppend.hAppend (α := List Cond) (β := List Cond) (γ := List Cond) v_f_X5_refusal (HAppend.hAppend (α := List Cond) (β := List Cond) (γ := List Cond) v_f_X5_isAbove (HAppend.hAppend (α := List Cond) (β := List Cond) (γ := List Cond) v_f_X5_isQuietWith (HAppend.hAppend (α := List Cond) (β := List Cond) (γ := List Cond) v_f_X5_copyFrom (HAppend.hAppend (α := List Cond) (β := List Cond) (γ := List Cond) v_f_X5_shift (HAppend.hAppend (α := List Cond) (β := List Cond) (γ := List Cond) v_f_X5_sites (HAppend.hAppend (α := List Cond) (β := List Cond) (γ := List Cond) v_f_X5_isFrozen (HAppend.hAppend (α := List Cond) (β := List Cond) (γ := List Cond) v_f_X5_canShare []))))))))))
theorem gw_f_X7_partner : v_f_X7_partner.all goodWord = true := gw_c2 (by decide +kernel) (gw_ap gw_wsX70 (gw_ap gw_f_X5_refusal (gw_ap gw_f_X5_isAbove (gw_ap gw_f_X5_isQuietWith (gw_ap gw_f_X5_copyFrom (gw_ap gw_f_X5_shift (gw_ap gw_f_X5_sites (gw_ap gw_f_X5_isFrozen (gw_ap gw_f_X5_canShare gw_nil)))))))))
theorem i_f_X7_partner_X7 : ∀ w ∈ wsX70, w ∈ v_f_X7_partner := fun _ h => List.mem_cons_of_mem _ (List.mem_append_right _ (List.mem_append_left _ h))
theorem g_f_X7_partner_f_X5_refusal_220 : GoodIn v_f_X7_partner (wsV RX7 220 RX5 yX5_refusal v_f_X5_refusal) := goodIn_in gw_f_X7_partner (in4 3 4 5 6 rfl rfl rfl rfl (fun _ h => List.mem_cons_of_mem _ (List.mem_append_right _ (List.mem_append_right _ (List.mem_append_left _ h)))))
theorem g_f_X7_partner_f_X5_isAbove_244 : GoodIn v_f_X7_partner (wsV RX7 244 RX5 yX5_isAbove v_f_X5_isAbove) := goodIn_in gw_f_X7_partner (in4 7 8 9 6 rfl rfl rfl rfl (fun _ h => List.mem_cons_of_mem _ (List.mem_append_right _ (List.mem_append_right _ (List.mem_append_right _ (List.mem_append_left _ h))))))
theorem g_f_X7_partner_f_X5_isQuietWith_217 : GoodIn v_f_X7_partner (wsV RX7 217 RX5 yX5_isQuietWith v_f_X5_isQuietWith) := goodIn_in gw_f_X7_partner (in4 10 11 12 6 rfl rfl rfl rfl (fun _ h => List.mem_cons_of_mem _ (List.mem_append_right _ (List.mem_append_right _ (List.mem_append_right _ (List.mem_append_right _ (List.mem_append_left _ h)))))))
theorem g_f_X7_partner_f_X5_copyFrom_237 : GoodIn v_f_X7_partner (wsV RX7 237 RX5 yX5_copyFrom v_f_X5_copyFrom) := goodIn_in gw_f_X7_partner (in4 13 14 15 6 rfl rfl rfl rfl (fun _ h => List.mem_cons_of_mem _ (List.mem_append_right _ (List.mem_append_right _ (List.mem_append_right _ (List.mem_append_right _ (List.mem_append_right _ (List.mem_append_left _ h))))))))
theorem g_f_X7_partner_f_X5_shift_247 : GoodIn v_f_X7_partner (wsV RX7 247 RX5 yX5_shift v_f_X5_shift) := goodIn_in gw_f_X7_partner (in4 16 17 18 6 rfl rfl rfl rfl (fun _ h => List.mem_cons_of_mem _ (List.mem_append_right _ (List.mem_append_right _ (List.mem_append_right _ (List.mem_append_right _ (List.mem_append_right _ (List.mem_append_right _ (List.mem_append_left _ h)))))))))
theorem g_f_X7_partner_f_X5_sites_117 : GoodIn v_f_X7_partner (wsV RX7 117 RX5 yX5_sites v_f_X5_sites) := goodIn_in gw_f_X7_partner (in4 19 20 21 6 rfl rfl rfl rfl (fun _ h => List.mem_cons_of_mem _ (List.mem_append_right _ (List.mem_append_right _ (List.mem_append_right _ (List.mem_append_right _ (List.mem_append_right _ (List.mem_append_right _ (List.mem_append_right _ (List.mem_append_left _ h))))))))))
theorem g_f_X7_partner_f_X5_isFrozen_143 : GoodIn v_f_X7_partner (wsV RX7 143 RX5 yX5_isFrozen v_f_X5_isFrozen) := goodIn_in gw_f_X7_partner (in4 22 23 24 6 rfl rfl rfl rfl (fun _ h => List.mem_cons_of_mem _ (List.mem_append_right _ (List.mem_append_right _ (List.mem_append_right _ (List.mem_append_right _ (List.mem_append_right _ (List.mem_append_right _ (List.mem_append_right _ (List.mem_append_right _ (List.mem_append_left _ h)))))))))))
theorem g_f_X7_partner_f_X5_canShare_251 : GoodIn v_f_X7_partner (wsV RX7 251 RX5 yX5_canShare v_f_X5_canShare) := goodIn_in gw_f_X7_partner (in4 25 26 27 6 rfl rfl rfl rfl (fun _ h => List.mem_cons_of_mem _ (List.mem_append_right _ (List.mem_append_right _ (List.mem_append_right _ (List.mem_append_right _ (List.mem_append_right _ (List.mem_append_right _ (List.mem_append_right _ (List.mem_append_right _ (List.mem_append_right _ (List.mem_append_left _ h))))))))))))
theorem hd_X7_partner : yX7_partner.cls = RX7 ∧ yX7_partner.cls ≠ "java/lang/invoke/MethodHandle" ∧ yX7_partner.cls ≠ "java/lang/invoke/VarHandle" ∧ (parseMethodDescriptor yX7_partner.desc).map (fun d => d.parameters.length) = some 3 := by decide +kernel
set_option maxHeartbeats 4000000 in
set_option maxRecDepth 100000 in
theorem wb_X7_partner_64 {p : Program} (l : Launch) {e : Env} {s : State} {m : MethodId} {below : List Frame} {meth : Method} {c : Code} {Q : State → Prop} (E : EE) (K : Nat) {a_ a_tape a_reader a_scripts a_now a_trial a_kept a_book a_keptBook a_history a_draws a_refused a_now_row a_now_partners a_now_share a_now_leftOver a_trial_row a_trial_partners a_trial_share a_trial_leftOver : Nat} {p1 : Int32} {p2 : Int32} {p3 : Int32} {c_hasImage : Int32} {c_now_askedCount : Int32} {c_now_outcome : Int32} {c_now_row : Nat → Int32} {c_trial_askedCount : Int32} {c_trial_outcome : Int32} {x4 : Int32} {c_trial_row : Nat → Int32} {c_trial_share : Nat → Int32} {c_trial_leftOver : Nat → Int32} (hx : p.tables.exec = Jvm.exec) (hb : c.code = cX7_partner) (hml : c.maxLocals = 5) (hown : s.vm.findClass RX7 = some m.cls) (hts : ∀ w ∈ v_f_X7_partner, w.before #[Value.ref a_, Value.int p1, Value.int p2, Value.int p3] s = true) (hK : va_K E.1 vwCl (TY E) s) (hN : NX s) {A : Nat → Prop} (hA : ∀ q : Nat, s.heap.size ≤ q → A q) {xx : (Int32 × (Nat → Int32) × (Nat → Int32)) ⊕ (Nat × Int32 × (Nat → Int32) × (Nat → Int32))} (hC : ∀ (x4 : Int32), ∀ (c_trial_share : Nat → Int32), ∀ (c_trial_leftOver : Nat → Int32), xx = .inl (x4, c_trial_share, c_trial_leftOver) → ∀ (H : Heap) (locs : List Loc) (ls : Array Slot), va_P E.1 vwCl (w_X7_partner E a_ a_tape a_reader a_scripts a_now a_trial a_kept a_book a_keptBook a_history a_draws a_refused a_now_row a_now_partners a_now_share a_now_leftOver a_trial_row a_trial_partners a_trial_share a_trial_leftOver c_hasImage c_now_askedCount c_now_outcome c_now_row c_trial_askedCount c_trial_outcome c_trial_row c_trial_share c_trial_leftOver) H → va_D A (w_X7_partner E a_ a_tape a_reader a_scripts a_now a_trial a_kept a_book a_keptBook a_history a_draws a_refused a_now_row a_now_partners a_now_share a_now_leftOver a_trial_row a_trial_partners a_trial_share a_trial_leftOver c_hasImage c_now_askedCount c_now_outcome c_now_row c_trial_askedCount c_trial_outcome c_trial_row c_trial_share c_trial_leftOver) → va_S A s.heap H locs → lv_has ls 5 [(0, .ref a_), (1, .int p1), (4, .int x4)] → W p l e ({ frames := 4, cells := 0, slots := 0, locals := 92 } : Room) s m #[Value.ref a_, Value.int p1, Value.int p2, Value.int p3] below meth c H locs 0 0 Q (F0 m 64 ls [])) (hE : ∀ (t9 : Nat), ∀ (x4 : Int32), ∀ (c_trial_share : Nat → Int32), ∀ (c_trial_leftOver : Nat → Int32), xx = .inr (t9, x4, c_trial_share, c_trial_leftOver) → ((t9 = 0 → ∀ (H : Heap) (locs : List Loc) (ls : Array Slot), va_P E.1 vwCl (w_X7_partner E a_ a_tape a_reader a_scripts a_now a_trial a_kept a_book a_keptBook a_history a_draws a_refused a_now_row a_now_partners a_now_share a_now_leftOver a_trial_row a_trial_partners a_trial_share a_trial_leftOver c_hasImage c_now_askedCount c_now_outcome c_now_row c_trial_askedCount c_trial_outcome c_trial_row c_trial_share c_trial_leftOver) H → va_D A (w_X7_partner E a_ a_tape a_reader a_scripts a_now a_trial a_kept a_book a_keptBook a_history a_draws a_refused a_now_row a_now_partners a_now_share a_now_leftOver a_trial_row a_trial_partners a_trial_share a_trial_leftOver c_hasImage c_now_askedCount c_now_outcome c_now_row c_trial_askedCount c_trial_outcome c_trial_row c_trial_share c_trial_leftOver) → va_S A s.heap H locs → lv_has ls 5 [(4, .int x4)] → W p l e ({ frames := 4, cells := 0, slots := 0, locals := 92 } : Room) s m #[Value.ref a_, Value.int p1, Value.int p2, Value.int p3] below meth c H locs 0 0 Q (F0 m 112 ls [])) ∧ (t9 = 1 → ∀ (H : Heap) (locs : List Loc) (ls : Array Slot), va_P E.1 vwCl (w_X7_partner E a_ a_tape a_reader a_scripts a_now a_trial a_kept a_book a_keptBook a_history a_draws a_refused a_now_row a_now_partners a_now_share a_now_leftOver a_trial_row a_trial_partners a_trial_share a_trial_leftOver c_hasImage c_now_askedCount c_now_outcome c_now_row c_trial_askedCount c_trial_outcome c_trial_row c_trial_share c_trial_leftOver) H → va_D A (w_X7_partner E a_ a_tape a_reader a_scripts a_now a_trial a_kept a_book a_keptBook a_history a_draws a_refused a_now_row a_now_partners a_now_share a_now_leftOver a_trial_row a_trial_partners a_trial_share a_trial_leftOver c_hasImage c_now_askedCount c_now_outcome c_now_row c_trial_askedCount c_trial_outcome c_trial_row c_trial_share c_trial_leftOver) → va_S A s.heap H locs → lv_has ls 5 [] → W p l e ({ frames := 4, cells := 0, slots := 0, locals := 92 } : Room) s m #[Value.ref a_, Value.int p1, Value.int p2, Value.int p3] below meth c H locs 0 0 Q (F0 m 121 ls [])))) (hF : B_X7_partner_64 K p1 c_trial_row x4 c_trial_share c_trial_leftOver = some xx) : ∀ (H : Heap) (locs : List Loc) (ls : Array Slot), va_P E.1 vwCl (w_X7_partner E a_ a_tape a_reader a_scripts a_now a_trial a_kept a_book a_keptBook a_history a_draws a_refused a_now_row a_now_partners a_now_share a_now_leftOver a_trial_row a_trial_partners a_trial_share a_trial_leftOver c_hasImage c_now_askedCount c_now_outcome c_now_row c_trial_askedCount c_trial_outcome c_trial_row c_trial_share c_trial_leftOver) H → va_D A (w_X7_partner E a_ a_tape a_reader a_scripts a_now a_trial a_kept a_book a_keptBook a_history a_draws a_refused a_now_row a_now_partners a_now_share a_now_leftOver a_trial_row a_trial_partners a_trial_share a_trial_leftOver c_hasImage c_now_askedCount c_now_outcome c_now_row c_trial_askedCount c_trial_outcome c_trial_row c_trial_share c_trial_leftOver) → va_S A s.heap H locs → lv_has ls 5 [(0, .ref a_), (1, .int p1), (4, .int x4)] → W p l e ({ frames := 4, cells := 0, slots := 0, locals := 92 } : Room) s m #[Value.ref a_, Value.int p1, Value.int p2, Value.int p3] below meth c H locs 0 0 Q (F0 m 64 ls []) := by
  unfold B_X7_partner_64 at hF
  intro H locs ls hP hD hS hl
  have h9 := fixPD (ws' := [k_X7 a_ a_tape a_reader a_scripts a_now a_trial a_kept a_book a_keptBook a_history a_draws a_refused c_hasImage, k_X5 a_now a_now_row a_now_partners c_now_askedCount c_now_outcome a_now_share a_now_leftOver, k_I E a_now_row 81 c_now_row, k_X5 a_trial a_trial_row a_trial_partners c_trial_askedCount c_trial_outcome a_trial_share a_trial_leftOver, k_I E a_trial_row 81 c_trial_row, k_I E a_trial_share 2 c_trial_share, k_I E a_trial_leftOver 2 c_trial_leftOver]) hP hD rfl
  clear hP hD
  obtain ⟨hP, hD⟩ := h9
  refine lv_iload hx hb (dq_21 48 bcX7_partner_1 (j := 16) (i := 4) rfl rfl) (lv_at hl 2 rfl) ?_
  refine lv_aload_n hx hb (dq_42 48 bcX7_partner_1 (j := 18) rfl rfl) rfl (lv_at hl 0 rfl) ?_
  refine gt_X7_4 (v := .ref a_trial) hx hb hts i_f_X7_partner_X7 hown hK hP 0 rfl (hts (.fieldLink RX7 39 "HushWatch" "trial" "LHushWatch$State;") (List.mem_of_getElem? (i := 2) rfl)) rfl (dq_180 48 bcX7_partner_1 (j := 19) (i := 39) rfl rfl rfl) ?_
  replace hF := bd1_s hF
  obtain ⟨r_16, hc_17, hF⟩ := hF
  have hPc : va_P E.1 vwCl (w_X5_sites E a_trial a_trial_row a_trial_partners a_trial_share a_trial_leftOver c_trial_askedCount c_trial_outcome c_trial_row) H := hP.sub (ws' := [k_X5 a_trial a_trial_row a_trial_partners c_trial_askedCount c_trial_outcome a_trial_share a_trial_leftOver, k_I E a_trial_row 81 c_trial_row]) [3, 4] rfl
  have hrc := va_recv hK hPc (ci := 6) (q0 := 0) rfl rfl
  refine pE_i (va_runV (As := []) (rest := [.int x4])  ⟨hx, hb, hml, hown, hts⟩ (f_X5_sites l E (a_ := a_trial) (a_row := a_trial_row) (a_partners := a_trial_partners) (a_share := a_trial_share) (a_leftOver := a_trial_leftOver) (c_askedCount := c_trial_askedCount) (c_outcome := c_trial_outcome) (c_row := c_trial_row) hc_17) (cwV 0 hts g_f_X7_partner_f_X5_sites_117 rfl rfl rfl hd_X5_sites ⟨Nat.le_of_ble_eq_true rfl, Nat.le_of_ble_eq_true rfl⟩) ⟨pP.blind, hrc, (pP.pre ⟨hK, hN⟩ hPc)⟩ rfl rfl hl.1 rfl (lv_room (Nat.le_of_ble_eq_true rfl)) (dq_182 48 bcX7_partner_1 (j := 22) (i := 117) rfl rfl rfl) ⟨Nat.le_of_ble_eq_true rfl, Nat.le_of_ble_eq_true rfl⟩) ?_
  refine lv_icmp_ge (tgt := 121) hx hb (dq_162 48 bcX7_partner_1 (j := 25) (i := 48) rfl rfl rfl) (by decide) (fun c_18 => ?_) (fun c_18 => ?_)
  ·
    replace hF := ip c_18 hF
    cases hF
    exact (hE 1 x4 c_trial_share c_trial_leftOver rfl).2 rfl H locs ls (hP.sub [0, 1, 2, 3, 4, 5, 6] rfl) (hD.sub [0, 1, 2, 3, 4, 5, 6] (by decide) rfl) hS (lv_sub hl [] rfl)
  ·
    replace hF := inn c_18 hF
    refine lv_iload hx hb (dq_21 48 bcX7_partner_1 (j := 28) (i := 4) rfl rfl) (lv_at hl 2 rfl) ?_
    refine lv_iload_n hx hb (dq_27 48 bcX7_partner_1 (j := 30) rfl rfl) rfl (lv_at hl 1 rfl) ?_
    refine lv_icmp_eq (tgt := 115) hx hb (dq_159 48 bcX7_partner_1 (j := 31) (i := 36) rfl rfl rfl) (by decide) (fun c_19 => ?_) (fun c_19 => ?_)
    ·
      replace hF := ip c_19 hF
      refine lv_iinc (v := x4 + (1 : Int32)) (lv' := [(4, .int (x4 + (1 : Int32))), (0, .ref a_), (1, .int p1)]) hx hb (dq_132 96 bcX7_partner_2 (j := 19) (i := 1) rfl rfl rfl) hl (k := 2) rfl (rfl) (by decide) rfl (fun ls hl => ?_)
      refine lv_goto (tgt := 64) hx hb (dq_167 96 bcX7_partner_2 (j := 22) (i := -54) rfl rfl rfl) (by decide) ?_
      cases hF
      exact hC (x4 + (1 : Int32)) c_trial_share c_trial_leftOver rfl H locs ls (hP.sub [0, 1, 2, 3, 4, 5, 6] rfl) (hD.sub [0, 1, 2, 3, 4, 5, 6] (by decide) rfl) hS (lv_sub hl [1, 2, 0] rfl)
    ·
      replace hF := inn c_19 hF
      refine lv_aload_n hx hb (dq_42 48 bcX7_partner_1 (j := 34) rfl rfl) rfl (lv_at hl 0 rfl) ?_
      refine gt_X7_4 (v := .ref a_trial) hx hb hts i_f_X7_partner_X7 hown hK hP 0 rfl (hts (.fieldLink RX7 39 "HushWatch" "trial" "LHushWatch$State;") (List.mem_of_getElem? (i := 2) rfl)) rfl (dq_180 48 bcX7_partner_1 (j := 35) (i := 39) rfl rfl rfl) ?_
      refine lv_iload hx hb (dq_21 48 bcX7_partner_1 (j := 38) (i := 4) rfl rfl) (lv_at hl 2 rfl) ?_
      replace hF := bd1_s hF
      obtain ⟨r_20, hc_21, hF⟩ := hF
      have hPc : va_P E.1 vwCl (w_X5_isFrozen E a_trial a_trial_row a_trial_partners a_trial_share a_trial_leftOver c_trial_askedCount c_trial_outcome c_trial_row) H := hP.sub (ws' := [k_X5 a_trial a_trial_row a_trial_partners c_trial_askedCount c_trial_outcome a_trial_share a_trial_leftOver, k_I E a_trial_row 81 c_trial_row]) [3, 4] rfl
      have hrc := va_recv hK hPc (ci := 6) (q0 := 0) rfl rfl
      refine pE_z (va_runV (As := [.int x4]) (rest := [])  ⟨hx, hb, hml, hown, hts⟩ (f_X5_isFrozen l E (a_ := a_trial) (a_row := a_trial_row) (a_partners := a_trial_partners) (a_share := a_trial_share) (a_leftOver := a_trial_leftOver) (p1 := x4) (c_askedCount := c_trial_askedCount) (c_outcome := c_trial_outcome) (c_row := c_trial_row) hc_21) (cwV 1 hts g_f_X7_partner_f_X5_isFrozen_143 rfl rfl rfl hd_X5_isFrozen ⟨Nat.le_of_ble_eq_true rfl, Nat.le_of_ble_eq_true rfl⟩) ⟨pP.blind, hrc, (pP.pre ⟨hK, hN⟩ hPc)⟩ rfl rfl hl.1 rfl (lv_room (Nat.le_of_ble_eq_true rfl)) (dq_182 48 bcX7_partner_1 (j := 40) (i := 143) rfl rfl rfl) ⟨Nat.le_of_ble_eq_true rfl, Nat.le_of_ble_eq_true rfl⟩) (fun hb_22 => ?_)
      refine lv_if_ne (tgt := 115) hx hb (dq_154 48 bcX7_partner_1 (j := 43) (i := 24) rfl rfl rfl) (by decide) (fun c_23 => ?_) (fun c_23 => ?_)
      ·
        replace hF := inn c_23 hF
        refine lv_iinc (v := x4 + (1 : Int32)) (lv' := [(4, .int (x4 + (1 : Int32))), (0, .ref a_), (1, .int p1)]) hx hb (dq_132 96 bcX7_partner_2 (j := 19) (i := 1) rfl rfl rfl) hl (k := 2) rfl (rfl) (by decide) rfl (fun ls hl => ?_)
        refine lv_goto (tgt := 64) hx hb (dq_167 96 bcX7_partner_2 (j := 22) (i := -54) rfl rfl rfl) (by decide) ?_
        cases hF
        exact hC (x4 + (1 : Int32)) c_trial_share c_trial_leftOver rfl H locs ls (hP.sub [0, 1, 2, 3, 4, 5, 6] rfl) (hD.sub [0, 1, 2, 3, 4, 5, 6] (by decide) rfl) hS (lv_sub hl [1, 2, 0] rfl)
      ·
        replace hF := ip c_23 hF
        refine lv_aload_n hx hb (dq_42 48 bcX7_partner_1 (j := 46) rfl rfl) rfl (lv_at hl 0 rfl) ?_
        refine gt_X7_4 (v := .ref a_trial) hx hb hts i_f_X7_partner_X7 hown hK hP 0 rfl (hts (.fieldLink RX7 39 "HushWatch" "trial" "LHushWatch$State;") (List.mem_of_getElem? (i := 2) rfl)) rfl (dq_180 48 bcX7_partner_1 (j := 47) (i := 39) rfl rfl rfl) ?_
        refine lv_iconst (v := 1) hx hb (dq_4 96 bcX7_partner_2 (j := 2) rfl rfl) (by decide) ?_
        refine lv_iload_n hx hb (dq_27 96 bcX7_partner_2 (j := 3) rfl rfl) rfl (lv_at hl 1 rfl) ?_
        refine lv_ishl hx hb (dq_120 96 bcX7_partner_2 (j := 4) rfl rfl) ?_
        refine lv_iconst (v := 1) hx hb (dq_4 96 bcX7_partner_2 (j := 5) rfl rfl) (by decide) ?_
        refine lv_iload hx hb (dq_21 96 bcX7_partner_2 (j := 6) (i := 4) rfl rfl) (lv_at hl 2 rfl) ?_
        refine lv_ishl hx hb (dq_120 96 bcX7_partner_2 (j := 8) rfl rfl) ?_
        refine lv_ior hx hb (dq_128 96 bcX7_partner_2 (j := 9) rfl rfl) ?_
        replace hF := bd3_s hF
        obtain ⟨r_24, w_25, w_26, hc_27, hF⟩ := hF
        obtain ⟨hPc, hDc, hFc⟩ := wcut (wc := (w_X5_canShare E a_trial a_trial_row a_trial_partners a_trial_share a_trial_leftOver c_trial_askedCount c_trial_outcome c_trial_row c_trial_share c_trial_leftOver)) hP hD hS hA [3, 4, 5, 6] (by decide) rfl
        have hrc := va_recv hK hPc (ci := 6) (q0 := 0) rfl rfl
        refine cE_z (wc := (w_X5_canShare E a_trial a_trial_row a_trial_partners a_trial_share a_trial_leftOver c_trial_askedCount c_trial_outcome c_trial_row c_trial_share c_trial_leftOver)) (wr := [k_X7 a_ a_tape a_reader a_scripts a_now a_trial a_kept a_book a_keptBook a_history a_draws a_refused c_hasImage, k_X5 a_now a_now_row a_now_partners c_now_askedCount c_now_outcome a_now_share a_now_leftOver, k_I E a_now_row 81 c_now_row]) (w1 := (w_X5_canShare E a_trial a_trial_row a_trial_partners a_trial_share a_trial_leftOver c_trial_askedCount c_trial_outcome c_trial_row w_25 w_26)) (va_runV (As := [.int (((1 : Int32) <<< (p1 &&& (31 : Int32))) ||| ((1 : Int32) <<< (x4 &&& (31 : Int32))))]) (rest := [])  ⟨hx, hb, hml, hown, hts⟩ (f_X5_canShare l E H.size K (a_ := a_trial) (a_row := a_trial_row) (a_partners := a_trial_partners) (a_share := a_trial_share) (a_leftOver := a_trial_leftOver) (p1 := ((1 : Int32) <<< (p1 &&& (31 : Int32))) ||| ((1 : Int32) <<< (x4 &&& (31 : Int32)))) (c_askedCount := c_trial_askedCount) (c_outcome := c_trial_outcome) (c_row := c_trial_row) (c_share := c_trial_share) (c_leftOver := c_trial_leftOver) hc_27) (cwV 1 hts g_f_X7_partner_f_X5_canShare_251 rfl rfl rfl hd_X5_canShare ⟨Nat.le_of_ble_eq_true rfl, Nat.le_of_ble_eq_true rfl⟩) ⟨pW.blind, hrc, (pW.pre ⟨hK, hN⟩ hPc hDc)⟩ rfl rfl hl.1 rfl (lv_room (Nat.le_of_ble_eq_true rfl)) (dq_182 96 bcX7_partner_2 (j := 10) (i := 251) rfl rfl rfl) ⟨Nat.le_of_ble_eq_true rfl, Nat.le_of_ble_eq_true rfl⟩) hS hFc hP hD [3, 4, 5, 6] [0, 1, 2] rfl rfl (by decide) (by decide) (fun hb_28 H locs hP hD hS => ?_)
        have h9 := fixPD (ws' := [k_X7 a_ a_tape a_reader a_scripts a_now a_trial a_kept a_book a_keptBook a_history a_draws a_refused c_hasImage, k_X5 a_now a_now_row a_now_partners c_now_askedCount c_now_outcome a_now_share a_now_leftOver, k_I E a_now_row 81 c_now_row, k_X5 a_trial a_trial_row a_trial_partners c_trial_askedCount c_trial_outcome a_trial_share a_trial_leftOver, k_I E a_trial_row 81 c_trial_row, k_I E a_trial_share 2 w_25, k_I E a_trial_leftOver 2 w_26]) hP hD rfl
        clear hP hD
        obtain ⟨hP, hD⟩ := h9
        refine lv_if_eq (tgt := 115) hx hb (dq_153 96 bcX7_partner_2 (j := 13) (i := 6) rfl rfl rfl) (by decide) (fun c_29 => ?_) (fun c_29 => ?_)
        ·
          replace hF := ip c_29 hF
          refine lv_iinc (v := x4 + (1 : Int32)) (lv' := [(4, .int (x4 + (1 : Int32))), (0, .ref a_), (1, .int p1)]) hx hb (dq_132 96 bcX7_partner_2 (j := 19) (i := 1) rfl rfl rfl) hl (k := 2) rfl (rfl) (by decide) rfl (fun ls hl => ?_)
          refine lv_goto (tgt := 64) hx hb (dq_167 96 bcX7_partner_2 (j := 22) (i := -54) rfl rfl rfl) (by decide) ?_
          cases hF
          exact hC (x4 + (1 : Int32)) w_25 w_26 rfl H locs ls (hP.sub [0, 1, 2, 3, 4, 5, 6] rfl) (hD.sub [0, 1, 2, 3, 4, 5, 6] (by decide) rfl) hS (lv_sub hl [1, 2, 0] rfl)
        ·
          replace hF := inn c_29 hF
          cases hF
          exact (hE 0 x4 w_25 w_26 rfl).1 rfl H locs ls (hP.sub [0, 1, 2, 3, 4, 5, 6] rfl) (hD.sub [0, 1, 2, 3, 4, 5, 6] (by decide) rfl) hS (lv_sub hl [2] rfl)

set_option maxHeartbeats 4000000 in
set_option maxRecDepth 100000 in
theorem lw_X7_partner_64 {p : Program} (l : Launch) {e : Env} {s : State} {m : MethodId} {below : List Frame} {meth : Method} {c : Code} {Q : State → Prop} (E : EE) (K : Nat) {a_ a_tape a_reader a_scripts a_now a_trial a_kept a_book a_keptBook a_history a_draws a_refused a_now_row a_now_partners a_now_share a_now_leftOver a_trial_row a_trial_partners a_trial_share a_trial_leftOver : Nat} {p1 : Int32} {p2 : Int32} {p3 : Int32} {c_hasImage : Int32} {c_now_askedCount : Int32} {c_now_outcome : Int32} {c_now_row : Nat → Int32} {c_trial_askedCount : Int32} {c_trial_outcome : Int32} {c_trial_row : Nat → Int32} (hx : p.tables.exec = Jvm.exec) (hb : c.code = cX7_partner) (hml : c.maxLocals = 5) (hown : s.vm.findClass RX7 = some m.cls) (hts : ∀ w ∈ v_f_X7_partner, w.before #[Value.ref a_, Value.int p1, Value.int p2, Value.int p3] s = true) (hK : va_K E.1 vwCl (TY E) s) (hN : NX s) {A : Nat → Prop} (hA : ∀ q : Nat, s.heap.size ≤ q → A q) (j9 : Nat) (x4 : Int32) (c_trial_share : Nat → Int32) (c_trial_leftOver : Nat → Int32) (t9' : Nat) (x4' : Int32) (c_trial_share' : Nat → Int32) (c_trial_leftOver' : Nat → Int32) (hL : lpF (fun u9 : Int32 × (Nat → Int32) × (Nat → Int32) => B_X7_partner_64 K p1 c_trial_row u9.1 u9.2.1 u9.2.2) j9 (x4, c_trial_share, c_trial_leftOver) = some (t9', x4', c_trial_share', c_trial_leftOver')) (hX : (t9' = 0 → ∀ (H : Heap) (locs : List Loc) (ls : Array Slot), va_P E.1 vwCl (w_X7_partner E a_ a_tape a_reader a_scripts a_now a_trial a_kept a_book a_keptBook a_history a_draws a_refused a_now_row a_now_partners a_now_share a_now_leftOver a_trial_row a_trial_partners a_trial_share a_trial_leftOver c_hasImage c_now_askedCount c_now_outcome c_now_row c_trial_askedCount c_trial_outcome c_trial_row c_trial_share' c_trial_leftOver') H → va_D A (w_X7_partner E a_ a_tape a_reader a_scripts a_now a_trial a_kept a_book a_keptBook a_history a_draws a_refused a_now_row a_now_partners a_now_share a_now_leftOver a_trial_row a_trial_partners a_trial_share a_trial_leftOver c_hasImage c_now_askedCount c_now_outcome c_now_row c_trial_askedCount c_trial_outcome c_trial_row c_trial_share' c_trial_leftOver') → va_S A s.heap H locs → lv_has ls 5 [(4, .int x4')] → W p l e ({ frames := 4, cells := 0, slots := 0, locals := 92 } : Room) s m #[Value.ref a_, Value.int p1, Value.int p2, Value.int p3] below meth c H locs 0 0 Q (F0 m 112 ls [])) ∧ (t9' = 1 → ∀ (H : Heap) (locs : List Loc) (ls : Array Slot), va_P E.1 vwCl (w_X7_partner E a_ a_tape a_reader a_scripts a_now a_trial a_kept a_book a_keptBook a_history a_draws a_refused a_now_row a_now_partners a_now_share a_now_leftOver a_trial_row a_trial_partners a_trial_share a_trial_leftOver c_hasImage c_now_askedCount c_now_outcome c_now_row c_trial_askedCount c_trial_outcome c_trial_row c_trial_share' c_trial_leftOver') H → va_D A (w_X7_partner E a_ a_tape a_reader a_scripts a_now a_trial a_kept a_book a_keptBook a_history a_draws a_refused a_now_row a_now_partners a_now_share a_now_leftOver a_trial_row a_trial_partners a_trial_share a_trial_leftOver c_hasImage c_now_askedCount c_now_outcome c_now_row c_trial_askedCount c_trial_outcome c_trial_row c_trial_share' c_trial_leftOver') → va_S A s.heap H locs → lv_has ls 5 [] → W p l e ({ frames := 4, cells := 0, slots := 0, locals := 92 } : Room) s m #[Value.ref a_, Value.int p1, Value.int p2, Value.int p3] below meth c H locs 0 0 Q (F0 m 121 ls []))) : ∀ (H : Heap) (locs : List Loc) (ls : Array Slot), va_P E.1 vwCl (w_X7_partner E a_ a_tape a_reader a_scripts a_now a_trial a_kept a_book a_keptBook a_history a_draws a_refused a_now_row a_now_partners a_now_share a_now_leftOver a_trial_row a_trial_partners a_trial_share a_trial_leftOver c_hasImage c_now_askedCount c_now_outcome c_now_row c_trial_askedCount c_trial_outcome c_trial_row c_trial_share c_trial_leftOver) H → va_D A (w_X7_partner E a_ a_tape a_reader a_scripts a_now a_trial a_kept a_book a_keptBook a_history a_draws a_refused a_now_row a_now_partners a_now_share a_now_leftOver a_trial_row a_trial_partners a_trial_share a_trial_leftOver c_hasImage c_now_askedCount c_now_outcome c_now_row c_trial_askedCount c_trial_outcome c_trial_row c_trial_share c_trial_leftOver) → va_S A s.heap H locs → lv_has ls 5 [(0, .ref a_), (1, .int p1), (4, .int x4)] → W p l e ({ frames := 4, cells := 0, slots := 0, locals := 92 } : Room) s m #[Value.ref a_, Value.int p1, Value.int p2, Value.int p3] below meth c H locs 0 0 Q (F0 m 64 ls []) := by
  exact lp_rule (P := (fun u9 : Int32 × (Nat → Int32) × (Nat → Int32) => ∀ (H : Heap) (locs : List Loc) (ls : Array Slot), va_P E.1 vwCl (w_X7_partner E a_ a_tape a_reader a_scripts a_now a_trial a_kept a_book a_keptBook a_history a_draws a_refused a_now_row a_now_partners a_now_share a_now_leftOver a_trial_row a_trial_partners a_trial_share a_trial_leftOver c_hasImage c_now_askedCount c_now_outcome c_now_row c_trial_askedCount c_trial_outcome c_trial_row u9.2.1 u9.2.2) H → va_D A (w_X7_partner E a_ a_tape a_reader a_scripts a_now a_trial a_kept a_book a_keptBook a_history a_draws a_refused a_now_row a_now_partners a_now_share a_now_leftOver a_trial_row a_trial_partners a_trial_share a_trial_leftOver c_hasImage c_now_askedCount c_now_outcome c_now_row c_trial_askedCount c_trial_outcome c_trial_row u9.2.1 u9.2.2) → va_S A s.heap H locs → lv_has ls 5 [(0, .ref a_), (1, .int p1), (4, .int u9.1)] → W p l e ({ frames := 4, cells := 0, slots := 0, locals := 92 } : Room) s m #[Value.ref a_, Value.int p1, Value.int p2, Value.int p3] below meth c H locs 0 0 Q (F0 m 64 ls []))) (R := (fun r9 : Nat × Int32 × (Nat → Int32) × (Nat → Int32) => (r9.1 = 0 → ∀ (H : Heap) (locs : List Loc) (ls : Array Slot), va_P E.1 vwCl (w_X7_partner E a_ a_tape a_reader a_scripts a_now a_trial a_kept a_book a_keptBook a_history a_draws a_refused a_now_row a_now_partners a_now_share a_now_leftOver a_trial_row a_trial_partners a_trial_share a_trial_leftOver c_hasImage c_now_askedCount c_now_outcome c_now_row c_trial_askedCount c_trial_outcome c_trial_row r9.2.2.1 r9.2.2.2) H → va_D A (w_X7_partner E a_ a_tape a_reader a_scripts a_now a_trial a_kept a_book a_keptBook a_history a_draws a_refused a_now_row a_now_partners a_now_share a_now_leftOver a_trial_row a_trial_partners a_trial_share a_trial_leftOver c_hasImage c_now_askedCount c_now_outcome c_now_row c_trial_askedCount c_trial_outcome c_trial_row r9.2.2.1 r9.2.2.2) → va_S A s.heap H locs → lv_has ls 5 [(4, .int r9.2.1)] → W p l e ({ frames := 4, cells := 0, slots := 0, locals := 92 } : Room) s m #[Value.ref a_, Value.int p1, Value.int p2, Value.int p3] below meth c H locs 0 0 Q (F0 m 112 ls [])) ∧ (r9.1 = 1 → ∀ (H : Heap) (locs : List Loc) (ls : Array Slot), va_P E.1 vwCl (w_X7_partner E a_ a_tape a_reader a_scripts a_now a_trial a_kept a_book a_keptBook a_history a_draws a_refused a_now_row a_now_partners a_now_share a_now_leftOver a_trial_row a_trial_partners a_trial_share a_trial_leftOver c_hasImage c_now_askedCount c_now_outcome c_now_row c_trial_askedCount c_trial_outcome c_trial_row r9.2.2.1 r9.2.2.2) H → va_D A (w_X7_partner E a_ a_tape a_reader a_scripts a_now a_trial a_kept a_book a_keptBook a_history a_draws a_refused a_now_row a_now_partners a_now_share a_now_leftOver a_trial_row a_trial_partners a_trial_share a_trial_leftOver c_hasImage c_now_askedCount c_now_outcome c_now_row c_trial_askedCount c_trial_outcome c_trial_row r9.2.2.1 r9.2.2.2) → va_S A s.heap H locs → lv_has ls 5 [] → W p l e ({ frames := 4, cells := 0, slots := 0, locals := 92 } : Room) s m #[Value.ref a_, Value.int p1, Value.int p2, Value.int p3] below meth c H locs 0 0 Q (F0 m 121 ls [])))) (fun u9 xx hF hC hE => wb_X7_partner_64 l E K (p1 := p1) (p2 := p2) (p3 := p3) (c_hasImage := c_hasImage) (c_now_askedCount := c_now_askedCount) (c_now_outcome := c_now_outcome) (c_now_row := c_now_row) (c_trial_askedCount := c_trial_askedCount) (c_trial_outcome := c_trial_outcome) (x4 := u9.1) (c_trial_row := c_trial_row) (c_trial_share := u9.2.1) (c_trial_leftOver := u9.2.2) hx hb hml hown hts hK hN hA (fun x4 c_trial_share c_trial_leftOver q9 => hC _ q9) (fun t9 x4 c_trial_share c_trial_leftOver q9 => hE _ q9) hF) j9 (x4, c_trial_share, c_trial_leftOver) (t9', x4', c_trial_share', c_trial_leftOver') hL hX

set_option maxHeartbeats 4000000 in
set_option maxRecDepth 100000 in
theorem f_X7_partner (l : Launch) (E : EE) (sz : Nat) (K : Nat) {a_ a_tape a_reader a_scripts a_now a_trial a_kept a_book a_keptBook a_history a_draws a_refused a_now_row a_now_partners a_now_share a_now_leftOver a_trial_row a_trial_partners a_trial_share a_trial_leftOver : Nat} {p1 : Int32} {p2 : Int32} {p3 : Int32} {c_hasImage : Int32} {c_now_askedCount : Int32} {c_now_outcome : Int32} {c_now_row : Nat → Int32} {c_trial_askedCount : Int32} {c_trial_outcome : Int32} {c_trial_row : Nat → Int32} {c_trial_share : Nat → Int32} {c_trial_leftOver : Nat → Int32} {rr : Int32} {n_trial_row : Nat → Int32} {n_trial_share : Nat → Int32} {n_trial_leftOver : Nat → Int32} (hF : F_X7_partner K p1 p2 p3 c_now_row c_trial_row c_trial_share c_trial_leftOver = some (rr, n_trial_row, n_trial_share, n_trial_leftOver)) : Met l yX7_partner v_f_X7_partner (({ frames := 4, cells := 0, slots := 0, locals := 92 } : Room)) (va_Pc [.ref a_, .int p1, .int p2, .int p3] (pW E sz (w_X7_partner E a_ a_tape a_reader a_scripts a_now a_trial a_kept a_book a_keptBook a_history a_draws a_refused a_now_row a_now_partners a_now_share a_now_leftOver a_trial_row a_trial_partners a_trial_share a_trial_leftOver c_hasImage c_now_askedCount c_now_outcome c_now_row c_trial_askedCount c_trial_outcome c_trial_row c_trial_share c_trial_leftOver))) (va_Qi (fun (q : Int32) (_u : Unit) => q = rr) (fun (_u : Unit) tt => va_P E.1 vwCl (w_X7_partner E a_ a_tape a_reader a_scripts a_now a_trial a_kept a_book a_keptBook a_history a_draws a_refused a_now_row a_now_partners a_now_share a_now_leftOver a_trial_row a_trial_partners a_trial_share a_trial_leftOver c_hasImage c_now_askedCount c_now_outcome c_now_row c_trial_askedCount c_trial_outcome n_trial_row n_trial_share n_trial_leftOver) tt.heap ∧ va_D (va_A (w_X7_partner E a_ a_tape a_reader a_scripts a_now a_trial a_kept a_book a_keptBook a_history a_draws a_refused a_now_row a_now_partners a_now_share a_now_leftOver a_trial_row a_trial_partners a_trial_share a_trial_leftOver c_hasImage c_now_askedCount c_now_outcome c_now_row c_trial_askedCount c_trial_outcome c_trial_row c_trial_share c_trial_leftOver) sz) (w_X7_partner E a_ a_tape a_reader a_scripts a_now a_trial a_kept a_book a_keptBook a_history a_draws a_refused a_now_row a_now_partners a_now_share a_now_leftOver a_trial_row a_trial_partners a_trial_share a_trial_leftOver c_hasImage c_now_askedCount c_now_outcome c_now_row c_trial_askedCount c_trial_outcome n_trial_row n_trial_share n_trial_leftOver)) (va_A (w_X7_partner E a_ a_tape a_reader a_scripts a_now a_trial a_kept a_book a_keptBook a_history a_draws a_refused a_now_row a_now_partners a_now_share a_now_leftOver a_trial_row a_trial_partners a_trial_share a_trial_leftOver c_hasImage c_now_askedCount c_now_outcome c_now_row c_trial_askedCount c_trial_outcome c_trial_row c_trial_share c_trial_leftOver) sz)) 0 0 (va_A (w_X7_partner E a_ a_tape a_reader a_scripts a_now a_trial a_kept a_book a_keptBook a_history a_draws a_refused a_now_row a_now_partners a_now_share a_now_leftOver a_trial_row a_trial_partners a_trial_share a_trial_leftOver c_hasImage c_now_askedCount c_now_outcome c_now_row c_trial_askedCount c_trial_outcome c_trial_row c_trial_share c_trial_leftOver) sz) := by
  refine Met.ofW (cc := cX7_partner) (maxL := 5) (ret := (some .int)) (by decide) rfl ?_
  intro p e s m args below meth c s₁ B hml hv
  obtain ⟨rfl, hsz, ⟨hK, hN⟩, hP, hD0⟩ := hv
  have hx := B.exec
  have hb := B.bytes
  have hr := B.returns
  have hts := atoms_spec (ws := v_f_X7_partner) B.pre
  have hown : s.vm.findClass RX7 = some m.cls := own_of hd_X7_partner.1 (findClass_of_methodNamed B.named)
  have hlocks : meth.locks = false := B.notSynchronized
  subst hsz
  have hD := hD0.self (sz := s.heap.size)
  generalize hAe : va_A (w_X7_partner E a_ a_tape a_reader a_scripts a_now a_trial a_kept a_book a_keptBook a_history a_draws a_refused a_now_row a_now_partners a_now_share a_now_leftOver a_trial_row a_trial_partners a_trial_share a_trial_leftOver c_hasImage c_now_askedCount c_now_outcome c_now_row c_trial_askedCount c_trial_outcome c_trial_row c_trial_share c_trial_leftOver) s.heap.size = A at hD ⊢
  have hA : ∀ q : Nat, s.heap.size ≤ q → A q := fun q h => by rw [← hAe]; exact Or.inr h
  have hS : va_S A s.heap s.heap [] := va_S.rf
  have hl := lv_entry ([.ref a_, .int p1, .int p2, .int p3]) (n := 5) (Nat.le_of_ble_eq_true rfl)
  rw [lg_entry_eq]
  generalize (lg_sl ([.ref a_, .int p1, .int p2, .int p3]) ++ List.replicate (5 - (lg_sl ([.ref a_, .int p1, .int p2, .int p3])).length) Slot.unset).toArray = ls at hl ⊢
  have hl : lv_has ls 5 [(0, .ref a_), (1, .int p1), (2, .int p2), (3, .int p3)] := hl
  obtain ⟨Q, hQ⟩ : ∃ Q : State → Prop, Q = MQ below (va_Qi (fun (q : Int32) (_u : Unit) => q = rr) (fun (_u : Unit) tt => va_P E.1 vwCl (w_X7_partner E a_ a_tape a_reader a_scripts a_now a_trial a_kept a_book a_keptBook a_history a_draws a_refused a_now_row a_now_partners a_now_share a_now_leftOver a_trial_row a_trial_partners a_trial_share a_trial_leftOver c_hasImage c_now_askedCount c_now_outcome c_now_row c_trial_askedCount c_trial_outcome n_trial_row n_trial_share n_trial_leftOver) tt.heap ∧ va_D A (w_X7_partner E a_ a_tape a_reader a_scripts a_now a_trial a_kept a_book a_keptBook a_history a_draws a_refused a_now_row a_now_partners a_now_share a_now_leftOver a_trial_row a_trial_partners a_trial_share a_trial_leftOver c_hasImage c_now_askedCount c_now_outcome c_now_row c_trial_askedCount c_trial_outcome n_trial_row n_trial_share n_trial_leftOver)) A) #[Value.ref a_, Value.int p1, Value.int p2, Value.int p3] s 0 0 A := ⟨_, rfl⟩
  rw [← hQ]
  change W p l e ({ frames := 4, cells := 0, slots := 0, locals := 92 } : Room) s m #[Value.ref a_, Value.int p1, Value.int p2, Value.int p3] below meth c s.heap [] 0 0 Q (F0 m 0 ls [])
  suffices hh9 : ∀ (H : Heap) (locs : List Loc), va_P E.1 vwCl (w_X7_partner E a_ a_tape a_reader a_scripts a_now a_trial a_kept a_book a_keptBook a_history a_draws a_refused a_now_row a_now_partners a_now_share a_now_leftOver a_trial_row a_trial_partners a_trial_share a_trial_leftOver c_hasImage c_now_askedCount c_now_outcome c_now_row c_trial_askedCount c_trial_outcome c_trial_row c_trial_share c_trial_leftOver) H → va_D A (w_X7_partner E a_ a_tape a_reader a_scripts a_now a_trial a_kept a_book a_keptBook a_history a_draws a_refused a_now_row a_now_partners a_now_share a_now_leftOver a_trial_row a_trial_partners a_trial_share a_trial_leftOver c_hasImage c_now_askedCount c_now_outcome c_now_row c_trial_askedCount c_trial_outcome c_trial_row c_trial_share c_trial_leftOver) → va_S A s.heap H locs → W p l e ({ frames := 4, cells := 0, slots := 0, locals := 92 } : Room) s m #[Value.ref a_, Value.int p1, Value.int p2, Value.int p3] below meth c H locs 0 0 Q (F0 m 0 ls []) from hh9 s.heap [] hP hD hS
  clear hP hD hS
  intro H locs hP hD hS
  have h9 := fixPD (ws' := [k_X7 a_ a_tape a_reader a_scripts a_now a_trial a_kept a_book a_keptBook a_history a_draws a_refused c_hasImage, k_X5 a_now a_now_row a_now_partners c_now_askedCount c_now_outcome a_now_share a_now_leftOver, k_I E a_now_row 81 c_now_row, k_X5 a_trial a_trial_row a_trial_partners c_trial_askedCount c_trial_outcome a_trial_share a_trial_leftOver, k_I E a_trial_row 81 c_trial_row, k_I E a_trial_share 2 c_trial_share, k_I E a_trial_leftOver 2 c_trial_leftOver]) hP hD rfl
  clear hP hD
  obtain ⟨hP, hD⟩ := h9
  unfold F_X7_partner at hF
  refine lv_aload_n hx hb (dq_42 0 bcX7_partner_0 (j := 0) rfl rfl) rfl (lv_at hl 0 rfl) ?_
  refine gt_X7_3 (v := .ref a_now) hx hb hts i_f_X7_partner_X7 hown hK hP 0 rfl (hts (.fieldLink RX7 35 "HushWatch" "now" "LHushWatch$State;") (List.mem_of_getElem? (i := 1) rfl)) rfl (dq_180 0 bcX7_partner_0 (j := 1) (i := 35) rfl rfl rfl) ?_
  refine lv_iconst (v := 0) hx hb (dq_3 0 bcX7_partner_0 (j := 4) rfl rfl) (by decide) ?_
  refine lv_iload_n hx hb (dq_27 0 bcX7_partner_0 (j := 5) rfl rfl) rfl (lv_at hl 1 rfl) ?_
  refine lv_iload_n hx hb (dq_28 0 bcX7_partner_0 (j := 6) rfl rfl) rfl (lv_at hl 2 rfl) ?_
  refine lv_iload_n hx hb (dq_29 0 bcX7_partner_0 (j := 7) rfl rfl) rfl (lv_at hl 3 rfl) ?_
  replace hF := bd1_s hF
  obtain ⟨r_1, hc_2, hF⟩ := hF
  have hPc : va_P E.1 vwCl (w_X5_refusal E a_now a_now_row a_now_partners a_now_share a_now_leftOver c_now_askedCount c_now_outcome c_now_row) H := hP.sub (ws' := [k_X5 a_now a_now_row a_now_partners c_now_askedCount c_now_outcome a_now_share a_now_leftOver, k_I E a_now_row 81 c_now_row]) [1, 2] rfl
  have hrc := va_recv hK hPc (ci := 6) (q0 := 0) rfl rfl
  refine pE_i (va_runV (As := [.int (0 : Int32), .int p1, .int p2, .int p3]) (rest := [])  ⟨hx, hb, hml, hown, hts⟩ (f_X5_refusal l E (a_ := a_now) (a_row := a_now_row) (a_partners := a_now_partners) (a_share := a_now_share) (a_leftOver := a_now_leftOver) (p1 := (0 : Int32)) (p2 := p1) (p3 := p2) (p4 := p3) (c_askedCount := c_now_askedCount) (c_outcome := c_now_outcome) (c_row := c_now_row) hc_2) (cwV 4 hts g_f_X7_partner_f_X5_refusal_220 rfl rfl rfl hd_X5_refusal ⟨Nat.le_of_ble_eq_true rfl, Nat.le_of_ble_eq_true rfl⟩) ⟨pP.blind, hrc, (pP.pre ⟨hK, hN⟩ hPc)⟩ rfl rfl hl.1 rfl (lv_room (Nat.le_of_ble_eq_true rfl)) (dq_182 0 bcX7_partner_0 (j := 8) (i := 220) rfl rfl rfl) ⟨Nat.le_of_ble_eq_true rfl, Nat.le_of_ble_eq_true rfl⟩) ?_
  refine lv_iconst (v := -1) hx hb (dq_2 0 bcX7_partner_0 (j := 11) rfl rfl) (by decide) ?_
  refine lv_icmp_ne (tgt := 38) hx hb (dq_160 0 bcX7_partner_0 (j := 12) (i := 26) rfl rfl rfl) (by decide) (fun c_3 => ?_) (fun c_3 => ?_)
  ·
    replace hF := inn c_3 hF
    refine lv_iconst (v := -1) hx hb (dq_2 0 bcX7_partner_0 (j := 38) rfl rfl) (by decide) ?_
    rw [hQ]
    have h9 := fin9 (P := fun u9 : Int32 × (Nat → Int32) × (Nat → Int32) × (Nat → Int32) => (-1 : Int32) = u9.1 ∧ va_P E.1 vwCl (w_X7_partner E a_ a_tape a_reader a_scripts a_now a_trial a_kept a_book a_keptBook a_history a_draws a_refused a_now_row a_now_partners a_now_share a_now_leftOver a_trial_row a_trial_partners a_trial_share a_trial_leftOver c_hasImage c_now_askedCount c_now_outcome c_now_row c_trial_askedCount c_trial_outcome u9.2.1 u9.2.2.1 u9.2.2.2) H ∧ va_D A (w_X7_partner E a_ a_tape a_reader a_scripts a_now a_trial a_kept a_book a_keptBook a_history a_draws a_refused a_now_row a_now_partners a_now_share a_now_leftOver a_trial_row a_trial_partners a_trial_share a_trial_leftOver c_hasImage c_now_askedCount c_now_outcome c_now_row c_trial_askedCount c_trial_outcome u9.2.1 u9.2.2.1 u9.2.2.2)) hF ⟨rfl, hP, hD⟩
    obtain ⟨e9_0, hP9, hD9⟩ := h9
    exact W.iret (v := (-1 : Int32)) hx hb hr (fun tt ht hW => ⟨⟨_, (), rfl, e9_0, ht ▸ hP9, hD9⟩, hS.F ht⟩) hS.2.2 (dq_172 0 bcX7_partner_0 (j := 39) rfl rfl)
  ·
    replace hF := ip c_3 hF
    refine lv_aload_n hx hb (dq_42 0 bcX7_partner_0 (j := 15) rfl rfl) rfl (lv_at hl 0 rfl) ?_
    refine gt_X7_3 (v := .ref a_now) hx hb hts i_f_X7_partner_X7 hown hK hP 0 rfl (hts (.fieldLink RX7 35 "HushWatch" "now" "LHushWatch$State;") (List.mem_of_getElem? (i := 1) rfl)) rfl (dq_180 0 bcX7_partner_0 (j := 16) (i := 35) rfl rfl rfl) ?_
    replace hF := bd1_s hF
    obtain ⟨r_4, hc_5, hF⟩ := hF
    have hPc : va_P E.1 vwCl (w_X5_isAbove E a_now a_now_row a_now_partners a_now_share a_now_leftOver c_now_askedCount c_now_outcome c_now_row) H := hP.sub (ws' := [k_X5 a_now a_now_row a_now_partners c_now_askedCount c_now_outcome a_now_share a_now_leftOver, k_I E a_now_row 81 c_now_row]) [1, 2] rfl
    have hrc := va_recv hK hPc (ci := 6) (q0 := 0) rfl rfl
    refine pE_z (va_runV (As := []) (rest := [])  ⟨hx, hb, hml, hown, hts⟩ (f_X5_isAbove l E (a_ := a_now) (a_row := a_now_row) (a_partners := a_now_partners) (a_share := a_now_share) (a_leftOver := a_now_leftOver) (c_askedCount := c_now_askedCount) (c_outcome := c_now_outcome) (c_row := c_now_row) hc_5) (cwV 0 hts g_f_X7_partner_f_X5_isAbove_244 rfl rfl rfl hd_X5_isAbove ⟨Nat.le_of_ble_eq_true rfl, Nat.le_of_ble_eq_true rfl⟩) ⟨pP.blind, hrc, (pP.pre ⟨hK, hN⟩ hPc)⟩ rfl rfl hl.1 rfl (lv_room (Nat.le_of_ble_eq_true rfl)) (dq_182 0 bcX7_partner_0 (j := 19) (i := 244) rfl rfl rfl) ⟨Nat.le_of_ble_eq_true rfl, Nat.le_of_ble_eq_true rfl⟩) (fun hb_6 => ?_)
    refine lv_if_ne (tgt := 38) hx hb (dq_154 0 bcX7_partner_0 (j := 22) (i := 16) rfl rfl rfl) (by decide) (fun c_7 => ?_) (fun c_7 => ?_)
    ·
      replace hF := inn c_7 hF
      refine lv_iconst (v := -1) hx hb (dq_2 0 bcX7_partner_0 (j := 38) rfl rfl) (by decide) ?_
      rw [hQ]
      have h9 := fin9 (P := fun u9 : Int32 × (Nat → Int32) × (Nat → Int32) × (Nat → Int32) => (-1 : Int32) = u9.1 ∧ va_P E.1 vwCl (w_X7_partner E a_ a_tape a_reader a_scripts a_now a_trial a_kept a_book a_keptBook a_history a_draws a_refused a_now_row a_now_partners a_now_share a_now_leftOver a_trial_row a_trial_partners a_trial_share a_trial_leftOver c_hasImage c_now_askedCount c_now_outcome c_now_row c_trial_askedCount c_trial_outcome u9.2.1 u9.2.2.1 u9.2.2.2) H ∧ va_D A (w_X7_partner E a_ a_tape a_reader a_scripts a_now a_trial a_kept a_book a_keptBook a_history a_draws a_refused a_now_row a_now_partners a_now_share a_now_leftOver a_trial_row a_trial_partners a_trial_share a_trial_leftOver c_hasImage c_now_askedCount c_now_outcome c_now_row c_trial_askedCount c_trial_outcome u9.2.1 u9.2.2.1 u9.2.2.2)) hF ⟨rfl, hP, hD⟩
      obtain ⟨e9_0, hP9, hD9⟩ := h9
      exact W.iret (v := (-1 : Int32)) hx hb hr (fun tt ht hW => ⟨⟨_, (), rfl, e9_0, ht ▸ hP9, hD9⟩, hS.F ht⟩) hS.2.2 (dq_172 0 bcX7_partner_0 (j := 39) rfl rfl)
    ·
      replace hF := ip c_7 hF
      refine lv_aload_n hx hb (dq_42 0 bcX7_partner_0 (j := 25) rfl rfl) rfl (lv_at hl 0 rfl) ?_
      refine gt_X7_3 (v := .ref a_now) hx hb hts i_f_X7_partner_X7 hown hK hP 0 rfl (hts (.fieldLink RX7 35 "HushWatch" "now" "LHushWatch$State;") (List.mem_of_getElem? (i := 1) rfl)) rfl (dq_180 0 bcX7_partner_0 (j := 26) (i := 35) rfl rfl rfl) ?_
      refine lv_iload_n hx hb (dq_27 0 bcX7_partner_0 (j := 29) rfl rfl) rfl (lv_at hl 1 rfl) ?_
      refine lv_iload_n hx hb (dq_28 0 bcX7_partner_0 (j := 30) rfl rfl) rfl (lv_at hl 2 rfl) ?_
      refine lv_iload_n hx hb (dq_29 0 bcX7_partner_0 (j := 31) rfl rfl) rfl (lv_at hl 3 rfl) ?_
      replace hF := bd1_s hF
      obtain ⟨r_8, hc_9, hF⟩ := hF
      have hPc : va_P E.1 vwCl (w_X5_isQuietWith E a_now a_now_row a_now_partners a_now_share a_now_leftOver c_now_askedCount c_now_outcome c_now_row) H := hP.sub (ws' := [k_X5 a_now a_now_row a_now_partners c_now_askedCount c_now_outcome a_now_share a_now_leftOver, k_I E a_now_row 81 c_now_row]) [1, 2] rfl
      have hrc := va_recv hK hPc (ci := 6) (q0 := 0) rfl rfl
      refine pE_z (va_runV (As := [.int p1, .int p2, .int p3]) (rest := [])  ⟨hx, hb, hml, hown, hts⟩ (f_X5_isQuietWith l E (a_ := a_now) (a_row := a_now_row) (a_partners := a_now_partners) (a_share := a_now_share) (a_leftOver := a_now_leftOver) (p1 := p1) (p2 := p2) (p3 := p3) (c_askedCount := c_now_askedCount) (c_outcome := c_now_outcome) (c_row := c_now_row) hc_9) (cwV 3 hts g_f_X7_partner_f_X5_isQuietWith_217 rfl rfl rfl hd_X5_isQuietWith ⟨Nat.le_of_ble_eq_true rfl, Nat.le_of_ble_eq_true rfl⟩) ⟨pP.blind, hrc, (pP.pre ⟨hK, hN⟩ hPc)⟩ rfl rfl hl.1 rfl (lv_room (Nat.le_of_ble_eq_true rfl)) (dq_182 0 bcX7_partner_0 (j := 32) (i := 217) rfl rfl rfl) ⟨Nat.le_of_ble_eq_true rfl, Nat.le_of_ble_eq_true rfl⟩) (fun hb_10 => ?_)
      refine lv_if_eq (tgt := 40) hx hb (dq_153 0 bcX7_partner_0 (j := 35) (i := 5) rfl rfl rfl) (by decide) (fun c_11 => ?_) (fun c_11 => ?_)
      ·
        replace hF := ip c_11 hF
        refine lv_aload_n hx hb (dq_42 0 bcX7_partner_0 (j := 40) rfl rfl) rfl (lv_at hl 0 rfl) ?_
        refine gt_X7_4 (v := .ref a_trial) hx hb hts i_f_X7_partner_X7 hown hK hP 0 rfl (hts (.fieldLink RX7 39 "HushWatch" "trial" "LHushWatch$State;") (List.mem_of_getElem? (i := 2) rfl)) rfl (dq_180 0 bcX7_partner_0 (j := 41) (i := 39) rfl rfl rfl) ?_
        refine lv_aload_n hx hb (dq_42 0 bcX7_partner_0 (j := 44) rfl rfl) rfl (lv_at hl 0 rfl) ?_
        refine gt_X7_3 (v := .ref a_now) hx hb hts i_f_X7_partner_X7 hown hK hP 0 rfl (hts (.fieldLink RX7 35 "HushWatch" "now" "LHushWatch$State;") (List.mem_of_getElem? (i := 1) rfl)) rfl (dq_180 0 bcX7_partner_0 (j := 45) (i := 35) rfl rfl rfl) ?_
        replace hF := bd1_s hF
        obtain ⟨w_12, hc_13, hF⟩ := hF
        obtain ⟨hPc, hDc, hFc⟩ := wcut (wc := (w_X5_copyFrom E a_trial a_trial_row a_trial_partners a_trial_share a_trial_leftOver a_now a_now_row a_now_partners a_now_share a_now_leftOver c_trial_askedCount c_trial_outcome c_trial_row c_now_askedCount c_now_outcome c_now_row)) hP hD hS hA [3, 4, 1, 2] (by decide) rfl
        have hrc := va_recv hK hPc (ci := 6) (q0 := 0) rfl rfl
        refine cE_v (wc := (w_X5_copyFrom E a_trial a_trial_row a_trial_partners a_trial_share a_trial_leftOver a_now a_now_row a_now_partners a_now_share a_now_leftOver c_trial_askedCount c_trial_outcome c_trial_row c_now_askedCount c_now_outcome c_now_row)) (wr := [k_X7 a_ a_tape a_reader a_scripts a_now a_trial a_kept a_book a_keptBook a_history a_draws a_refused c_hasImage, k_I E a_trial_share 2 c_trial_share, k_I E a_trial_leftOver 2 c_trial_leftOver]) (w1 := (w_X5_copyFrom E a_trial a_trial_row a_trial_partners a_trial_share a_trial_leftOver a_now a_now_row a_now_partners a_now_share a_now_leftOver c_trial_askedCount c_trial_outcome w_12 c_now_askedCount c_now_outcome c_now_row)) (va_runV (As := [.ref a_now]) (rest := [])  ⟨hx, hb, hml, hown, hts⟩ (f_X5_copyFrom l E H.size (a_ := a_trial) (a_row := a_trial_row) (a_partners := a_trial_partners) (a_share := a_trial_share) (a_leftOver := a_trial_leftOver) (a_o1 := a_now) (a_o1_row := a_now_row) (a_o1_partners := a_now_partners) (a_o1_share := a_now_share) (a_o1_leftOver := a_now_leftOver) (c_askedCount := c_trial_askedCount) (c_outcome := c_trial_outcome) (c_row := c_trial_row) (c_o1_askedCount := c_now_askedCount) (c_o1_outcome := c_now_outcome) (c_o1_row := c_now_row) hc_13) (cwV 1 hts g_f_X7_partner_f_X5_copyFrom_237 rfl rfl rfl hd_X5_copyFrom ⟨Nat.le_of_ble_eq_true rfl, Nat.le_of_ble_eq_true rfl⟩) ⟨pW.blind, hrc, (pW.pre ⟨hK, hN⟩ hPc hDc)⟩ rfl rfl hl.1 rfl (lv_room (Nat.le_of_ble_eq_true rfl)) (dq_182 48 bcX7_partner_1 (j := 0) (i := 237) rfl rfl rfl) ⟨Nat.le_of_ble_eq_true rfl, Nat.le_of_ble_eq_true rfl⟩) hS hFc hP hD [3, 4, 1, 2] [0, 5, 6] rfl rfl (by decide) (by decide) (fun H locs hP hD hS => ?_)
        have h9 := fixPD (ws' := [k_X7 a_ a_tape a_reader a_scripts a_now a_trial a_kept a_book a_keptBook a_history a_draws a_refused c_hasImage, k_I E a_trial_share 2 c_trial_share, k_I E a_trial_leftOver 2 c_trial_leftOver, k_X5 a_trial a_trial_row a_trial_partners c_trial_askedCount c_trial_outcome a_trial_share a_trial_leftOver, k_I E a_trial_row 81 w_12, k_X5 a_now a_now_row a_now_partners c_now_askedCount c_now_outcome a_now_share a_now_leftOver, k_I E a_now_row 81 c_now_row]) hP hD rfl
        clear hP hD
        obtain ⟨hP, hD⟩ := h9
        refine lv_aload_n hx hb (dq_42 48 bcX7_partner_1 (j := 3) rfl rfl) rfl (lv_at hl 0 rfl) ?_
        refine gt_X7_4 (v := .ref a_trial) hx hb hts i_f_X7_partner_X7 hown hK hP 0 rfl (hts (.fieldLink RX7 39 "HushWatch" "trial" "LHushWatch$State;") (List.mem_of_getElem? (i := 2) rfl)) rfl (dq_180 48 bcX7_partner_1 (j := 4) (i := 39) rfl rfl rfl) ?_
        refine lv_iload_n hx hb (dq_27 48 bcX7_partner_1 (j := 7) rfl rfl) rfl (lv_at hl 1 rfl) ?_
        refine lv_iload_n hx hb (dq_28 48 bcX7_partner_1 (j := 8) rfl rfl) rfl (lv_at hl 2 rfl) ?_
        refine lv_iload_n hx hb (dq_29 48 bcX7_partner_1 (j := 9) rfl rfl) rfl (lv_at hl 3 rfl) ?_
        replace hF := bd1_s hF
        obtain ⟨w_14, hc_15, hF⟩ := hF
        obtain ⟨hPc, hDc, hFc⟩ := wcut (wc := (w_X5_shift E a_trial a_trial_row a_trial_partners a_trial_share a_trial_leftOver c_trial_askedCount c_trial_outcome w_12)) hP hD hS hA [3, 4] (by decide) rfl
        have hrc := va_recv hK hPc (ci := 6) (q0 := 0) rfl rfl
        refine cE_v (wc := (w_X5_shift E a_trial a_trial_row a_trial_partners a_trial_share a_trial_leftOver c_trial_askedCount c_trial_outcome w_12)) (wr := [k_X7 a_ a_tape a_reader a_scripts a_now a_trial a_kept a_book a_keptBook a_history a_draws a_refused c_hasImage, k_I E a_trial_share 2 c_trial_share, k_I E a_trial_leftOver 2 c_trial_leftOver, k_X5 a_now a_now_row a_now_partners c_now_askedCount c_now_outcome a_now_share a_now_leftOver, k_I E a_now_row 81 c_now_row]) (w1 := (w_X5_shift E a_trial a_trial_row a_trial_partners a_trial_share a_trial_leftOver c_trial_askedCount c_trial_outcome w_14)) (va_runV (As := [.int p1, .int p2, .int p3]) (rest := [])  ⟨hx, hb, hml, hown, hts⟩ (f_X5_shift l E H.size (a_ := a_trial) (a_row := a_trial_row) (a_partners := a_trial_partners) (a_share := a_trial_share) (a_leftOver := a_trial_leftOver) (p1 := p1) (p2 := p2) (p3 := p3) (c_askedCount := c_trial_askedCount) (c_outcome := c_trial_outcome) (c_row := w_12) hc_15) (cwV 3 hts g_f_X7_partner_f_X5_shift_247 rfl rfl rfl hd_X5_shift ⟨Nat.le_of_ble_eq_true rfl, Nat.le_of_ble_eq_true rfl⟩) ⟨pW.blind, hrc, (pW.pre ⟨hK, hN⟩ hPc hDc)⟩ rfl rfl hl.1 rfl (lv_room (Nat.le_of_ble_eq_true rfl)) (dq_182 48 bcX7_partner_1 (j := 10) (i := 247) rfl rfl rfl) ⟨Nat.le_of_ble_eq_true rfl, Nat.le_of_ble_eq_true rfl⟩) hS hFc hP hD [3, 4] [0, 1, 2, 5, 6] rfl rfl (by decide) (by decide) (fun H locs hP hD hS => ?_)
        have h9 := fixPD (ws' := [k_X7 a_ a_tape a_reader a_scripts a_now a_trial a_kept a_book a_keptBook a_history a_draws a_refused c_hasImage, k_I E a_trial_share 2 c_trial_share, k_I E a_trial_leftOver 2 c_trial_leftOver, k_X5 a_now a_now_row a_now_partners c_now_askedCount c_now_outcome a_now_share a_now_leftOver, k_I E a_now_row 81 c_now_row, k_X5 a_trial a_trial_row a_trial_partners c_trial_askedCount c_trial_outcome a_trial_share a_trial_leftOver, k_I E a_trial_row 81 w_14]) hP hD rfl
        clear hP hD
        obtain ⟨hP, hD⟩ := h9
        refine lv_iconst (v := 0) hx hb (dq_3 48 bcX7_partner_1 (j := 13) rfl rfl) (by decide) ?_
        refine lv_istore (lv' := [(4, .int (0 : Int32)), (0, .ref a_), (1, .int p1), (2, .int p2), (3, .int p3)]) hx hb (dq_54 48 bcX7_partner_1 (j := 14) (i := 4) rfl rfl) hl (by decide) rfl (fun ls hl => ?_)
        replace hF := bd4_s hF
        obtain ⟨t_30, x4_31, c_trial_share_32, c_trial_leftOver_33, hL_34, hF⟩ := hF
        refine lw_X7_partner_64 l E K (p1 := p1) (p2 := p2) (p3 := p3) (c_hasImage := c_hasImage) (c_now_askedCount := c_now_askedCount) (c_now_outcome := c_now_outcome) (c_now_row := c_now_row) (c_trial_askedCount := c_trial_askedCount) (c_trial_outcome := c_trial_outcome) (c_trial_row := w_14) hx hb hml hown hts hK hN hA K (0 : Int32) c_trial_share c_trial_leftOver t_30 x4_31 c_trial_share_32 c_trial_leftOver_33 hL_34 ⟨?_, ?_⟩ H locs ls (hP.sub [0, 3, 4, 5, 6, 1, 2] rfl) (hD.sub [0, 3, 4, 5, 6, 1, 2] (by decide) rfl) hS (lv_sub hl [1, 2, 0] rfl)
        ·
          intro t9
          replace hF := ip t9 hF
          intro H locs ls hP hD hS hl
          have h9 := fixPD (ws' := [k_X7 a_ a_tape a_reader a_scripts a_now a_trial a_kept a_book a_keptBook a_history a_draws a_refused c_hasImage, k_X5 a_now a_now_row a_now_partners c_now_askedCount c_now_outcome a_now_share a_now_leftOver, k_I E a_now_row 81 c_now_row, k_X5 a_trial a_trial_row a_trial_partners c_trial_askedCount c_trial_outcome a_trial_share a_trial_leftOver, k_I E a_trial_row 81 w_14, k_I E a_trial_share 2 c_trial_share_32, k_I E a_trial_leftOver 2 c_trial_leftOver_33]) hP hD rfl
          clear hP hD
          obtain ⟨hP, hD⟩ := h9
          refine lv_iload hx hb (dq_21 96 bcX7_partner_2 (j := 16) (i := 4) rfl rfl) (lv_at hl 0 rfl) ?_
          rw [hQ]
          have h9 := fin9 (P := fun u9 : Int32 × (Nat → Int32) × (Nat → Int32) × (Nat → Int32) => x4_31 = u9.1 ∧ va_P E.1 vwCl (w_X7_partner E a_ a_tape a_reader a_scripts a_now a_trial a_kept a_book a_keptBook a_history a_draws a_refused a_now_row a_now_partners a_now_share a_now_leftOver a_trial_row a_trial_partners a_trial_share a_trial_leftOver c_hasImage c_now_askedCount c_now_outcome c_now_row c_trial_askedCount c_trial_outcome u9.2.1 u9.2.2.1 u9.2.2.2) H ∧ va_D A (w_X7_partner E a_ a_tape a_reader a_scripts a_now a_trial a_kept a_book a_keptBook a_history a_draws a_refused a_now_row a_now_partners a_now_share a_now_leftOver a_trial_row a_trial_partners a_trial_share a_trial_leftOver c_hasImage c_now_askedCount c_now_outcome c_now_row c_trial_askedCount c_trial_outcome u9.2.1 u9.2.2.1 u9.2.2.2)) hF ⟨rfl, hP, hD⟩
          obtain ⟨e9_0, hP9, hD9⟩ := h9
          exact W.iret (v := x4_31) hx hb hr (fun tt ht hW => ⟨⟨_, (), rfl, e9_0, ht ▸ hP9, hD9⟩, hS.F ht⟩) hS.2.2 (dq_172 96 bcX7_partner_2 (j := 18) rfl rfl)
        ·
          intro t9
          replace hF := inn (show ¬ t_30 = 0 by omega) hF
          replace hF := ip t9 hF
          intro H locs ls hP hD hS hl
          have h9 := fixPD (ws' := [k_X7 a_ a_tape a_reader a_scripts a_now a_trial a_kept a_book a_keptBook a_history a_draws a_refused c_hasImage, k_X5 a_now a_now_row a_now_partners c_now_askedCount c_now_outcome a_now_share a_now_leftOver, k_I E a_now_row 81 c_now_row, k_X5 a_trial a_trial_row a_trial_partners c_trial_askedCount c_trial_outcome a_trial_share a_trial_leftOver, k_I E a_trial_row 81 w_14, k_I E a_trial_share 2 c_trial_share_32, k_I E a_trial_leftOver 2 c_trial_leftOver_33]) hP hD rfl
          clear hP hD
          obtain ⟨hP, hD⟩ := h9
          refine lv_iconst (v := -1) hx hb (dq_2 96 bcX7_partner_2 (j := 25) rfl rfl) (by decide) ?_
          rw [hQ]
          have h9 := fin9 (P := fun u9 : Int32 × (Nat → Int32) × (Nat → Int32) × (Nat → Int32) => (-1 : Int32) = u9.1 ∧ va_P E.1 vwCl (w_X7_partner E a_ a_tape a_reader a_scripts a_now a_trial a_kept a_book a_keptBook a_history a_draws a_refused a_now_row a_now_partners a_now_share a_now_leftOver a_trial_row a_trial_partners a_trial_share a_trial_leftOver c_hasImage c_now_askedCount c_now_outcome c_now_row c_trial_askedCount c_trial_outcome u9.2.1 u9.2.2.1 u9.2.2.2) H ∧ va_D A (w_X7_partner E a_ a_tape a_reader a_scripts a_now a_trial a_kept a_book a_keptBook a_history a_draws a_refused a_now_row a_now_partners a_now_share a_now_leftOver a_trial_row a_trial_partners a_trial_share a_trial_leftOver c_hasImage c_now_askedCount c_now_outcome c_now_row c_trial_askedCount c_trial_outcome u9.2.1 u9.2.2.1 u9.2.2.2)) hF ⟨rfl, hP, hD⟩
          obtain ⟨e9_0, hP9, hD9⟩ := h9
          exact W.iret (v := (-1 : Int32)) hx hb hr (fun tt ht hW => ⟨⟨_, (), rfl, e9_0, ht ▸ hP9, hD9⟩, hS.F ht⟩) hS.2.2 (dq_172 96 bcX7_partner_2 (j := 26) rfl rfl)
      ·
        replace hF := inn c_11 hF
        refine lv_iconst (v := -1) hx hb (dq_2 0 bcX7_partner_0 (j := 38) rfl rfl) (by decide) ?_
        rw [hQ]
        have h9 := fin9 (P := fun u9 : Int32 × (Nat → Int32) × (Nat → Int32) × (Nat → Int32) => (-1 : Int32) = u9.1 ∧ va_P E.1 vwCl (w_X7_partner E a_ a_tape a_reader a_scripts a_now a_trial a_kept a_book a_keptBook a_history a_draws a_refused a_now_row a_now_partners a_now_share a_now_leftOver a_trial_row a_trial_partners a_trial_share a_trial_leftOver c_hasImage c_now_askedCount c_now_outcome c_now_row c_trial_askedCount c_trial_outcome u9.2.1 u9.2.2.1 u9.2.2.2) H ∧ va_D A (w_X7_partner E a_ a_tape a_reader a_scripts a_now a_trial a_kept a_book a_keptBook a_history a_draws a_refused a_now_row a_now_partners a_now_share a_now_leftOver a_trial_row a_trial_partners a_trial_share a_trial_leftOver c_hasImage c_now_askedCount c_now_outcome c_now_row c_trial_askedCount c_trial_outcome u9.2.1 u9.2.2.1 u9.2.2.2)) hF ⟨rfl, hP, hD⟩
        obtain ⟨e9_0, hP9, hD9⟩ := h9
        exact W.iret (v := (-1 : Int32)) hx hb hr (fun tt ht hW => ⟨⟨_, (), rfl, e9_0, ht ▸ hP9, hD9⟩, hS.F ht⟩) hS.2.2 (dq_172 0 bcX7_partner_0 (j := 39) rfl rfl)
