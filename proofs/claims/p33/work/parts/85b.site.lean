noncomputable def blX7_site_0 : List Nat := [42, 180, 0, 35, 27, 182, 0, 120, 153, 0, 13, 28, 155, 0, 9, 28, 16, 13, 164, 0, 13, 187, 0, 123, 89, 18, 125, 183, 0, 127, 191, 28, 170, 0, 0, 0, 0, 0, 0, 130, 0, 0, 0, 6, 0, 0, 0, 13, 0, 0, 0]
set_option maxRecDepth 100000 in
theorem bcX7_site_0 : ((cX7_site.data.toList.drop 0).take blX7_site_0.length).map UInt8.toNat = blX7_site_0 := by decide +kernel
noncomputable def blX7_site_1 : List Nat := [0, 0, 0, 48, 0, 0, 0, 48, 0, 0, 0, 61, 0, 0, 0, 61, 0, 0, 0, 74, 0, 0, 0, 91, 0, 0, 0, 102, 0, 0, 0, 113, 42, 180, 0, 35, 27, 28, 16, 6, 100, 182, 0, 130, 172, 42, 180, 0, 35, 27, 28]
set_option maxRecDepth 100000 in
theorem bcX7_site_1 : ((cX7_site.data.toList.drop 48).take blX7_site_1.length).map UInt8.toNat = blX7_site_1 := by decide +kernel
noncomputable def blX7_site_2 : List Nat := [35, 27, 28, 16, 8, 100, 182, 0, 134, 172, 42, 180, 0, 35, 27, 182, 0, 137, 153, 0, 7, 4, 167, 0, 4, 3, 172, 42, 180, 0, 35, 27, 16, 6, 182, 0, 140, 172, 42, 180, 0, 35, 27, 16, 7, 182, 0, 140, 172, 42, 180]
set_option maxRecDepth 100000 in
theorem bcX7_site_2 : ((cX7_site.data.toList.drop 96).take blX7_site_2.length).map UInt8.toNat = blX7_site_2 := by decide +kernel
noncomputable def blX7_site_3 : List Nat := [172, 42, 180, 0, 35, 27, 182, 0, 143, 153, 0, 7, 4, 167, 0, 4, 3, 172, 42, 180, 0, 35, 27, 3, 28, 96, 182, 0, 140, 172]
set_option maxRecDepth 100000 in
theorem bcX7_site_3 : ((cX7_site.data.toList.drop 144).take blX7_site_3.length).map UInt8.toNat = blX7_site_3 := by decide +kernel
def dl_X7_site_85b_site_0 : List (Nat × Instr × Nat) := [(32, .tableswitch 130 6 13 #[48, 48, 61, 61, 74, 91, 102, 113], 48), (0, .aload_n 0, 1), (1, .getfield 35, 3), (4, .iload_n 1, 1), (5, .invokevirtual 120, 3), (8, .ifCond .eq 13, 3), (21, .new 123, 3), (24, .dup, 1), (25, .ldc 125, 2), (27, .invokespecial 127, 3), (30, .athrow, 1), (11, .iload_n 2, 1), (12, .ifCond .lt 9, 3), (15, .iload_n 2, 1), (16, .bipush 13, 2), (18, .if_icmp .le 13, 3)]
set_option maxRecDepth 100000 in
theorem dall_X7_site_85b_site_0 : dchk cX7_site dl_X7_site_85b_site_0 = true := by decide +kernel
theorem dX7_site_32 : decode cX7_site 32 = .ok (.tableswitch 130 6 13 #[48, 48, 61, 61, 74, 91, 102, 113], 48) := dchk_at dall_X7_site_85b_site_0 (k := 0) rfl
theorem dX7_site_0 : decode cX7_site 0 = .ok (.aload_n 0, 1) := dchk_at dall_X7_site_85b_site_0 (k := 1) rfl
theorem dX7_site_1 : decode cX7_site 1 = .ok (.getfield 35, 3) := dchk_at dall_X7_site_85b_site_0 (k := 2) rfl
theorem dX7_site_4 : decode cX7_site 4 = .ok (.iload_n 1, 1) := dchk_at dall_X7_site_85b_site_0 (k := 3) rfl
theorem dX7_site_5 : decode cX7_site 5 = .ok (.invokevirtual 120, 3) := dchk_at dall_X7_site_85b_site_0 (k := 4) rfl
theorem dX7_site_8 : decode cX7_site 8 = .ok (.ifCond .eq 13, 3) := dchk_at dall_X7_site_85b_site_0 (k := 5) rfl
theorem dX7_site_21 : decode cX7_site 21 = .ok (.new 123, 3) := dchk_at dall_X7_site_85b_site_0 (k := 6) rfl
theorem dX7_site_24 : decode cX7_site 24 = .ok (.dup, 1) := dchk_at dall_X7_site_85b_site_0 (k := 7) rfl
theorem dX7_site_25 : decode cX7_site 25 = .ok (.ldc 125, 2) := dchk_at dall_X7_site_85b_site_0 (k := 8) rfl
theorem dX7_site_27 : decode cX7_site 27 = .ok (.invokespecial 127, 3) := dchk_at dall_X7_site_85b_site_0 (k := 9) rfl
theorem dX7_site_30 : decode cX7_site 30 = .ok (.athrow, 1) := dchk_at dall_X7_site_85b_site_0 (k := 10) rfl
theorem dX7_site_11 : decode cX7_site 11 = .ok (.iload_n 2, 1) := dchk_at dall_X7_site_85b_site_0 (k := 11) rfl
theorem dX7_site_12 : decode cX7_site 12 = .ok (.ifCond .lt 9, 3) := dchk_at dall_X7_site_85b_site_0 (k := 12) rfl
theorem dX7_site_15 : decode cX7_site 15 = .ok (.iload_n 2, 1) := dchk_at dall_X7_site_85b_site_0 (k := 13) rfl
theorem dX7_site_16 : decode cX7_site 16 = .ok (.bipush 13, 2) := dchk_at dall_X7_site_85b_site_0 (k := 14) rfl
theorem dX7_site_18 : decode cX7_site 18 = .ok (.if_icmp .le 13, 3) := dchk_at dall_X7_site_85b_site_0 (k := 15) rfl
def dl_L_site_85b_site_0 : List (Nat × Instr × Nat) := [(0, .aload_n 3, 1), (1, .iconst 0, 1), (2, .aload_n 0, 1), (3, .iload_n 1, 1), (4, .iload_n 2, 1), (5, .invokevirtual 7, 3), (13, .astore 4, 2), (15, .iconst 1, 1), (16, .ireturn, 1), (8, .i2l, 1), (9, .lastore, 1), (10, .goto 7, 3), (17, .iconst 0, 1), (18, .ireturn, 1)]
set_option maxRecDepth 100000 in
theorem dall_L_site_85b_site_0 : dchk cL_site dl_L_site_85b_site_0 = true := by decide +kernel
theorem dL_site_0 : decode cL_site 0 = .ok (.aload_n 3, 1) := dchk_at dall_L_site_85b_site_0 (k := 0) rfl
theorem dL_site_1 : decode cL_site 1 = .ok (.iconst 0, 1) := dchk_at dall_L_site_85b_site_0 (k := 1) rfl
theorem dL_site_2 : decode cL_site 2 = .ok (.aload_n 0, 1) := dchk_at dall_L_site_85b_site_0 (k := 2) rfl
theorem dL_site_3 : decode cL_site 3 = .ok (.iload_n 1, 1) := dchk_at dall_L_site_85b_site_0 (k := 3) rfl
theorem dL_site_4 : decode cL_site 4 = .ok (.iload_n 2, 1) := dchk_at dall_L_site_85b_site_0 (k := 4) rfl
theorem dL_site_5 : decode cL_site 5 = .ok (.invokevirtual 7, 3) := dchk_at dall_L_site_85b_site_0 (k := 5) rfl
theorem dL_site_13 : decode cL_site 13 = .ok (.astore 4, 2) := dchk_at dall_L_site_85b_site_0 (k := 6) rfl
theorem dL_site_15 : decode cL_site 15 = .ok (.iconst 1, 1) := dchk_at dall_L_site_85b_site_0 (k := 7) rfl
theorem dL_site_16 : decode cL_site 16 = .ok (.ireturn, 1) := dchk_at dall_L_site_85b_site_0 (k := 8) rfl
theorem dL_site_8 : decode cL_site 8 = .ok (.i2l, 1) := dchk_at dall_L_site_85b_site_0 (k := 9) rfl
theorem dL_site_9 : decode cL_site 9 = .ok (.lastore, 1) := dchk_at dall_L_site_85b_site_0 (k := 10) rfl
theorem dL_site_10 : decode cL_site 10 = .ok (.goto 7, 3) := dchk_at dall_L_site_85b_site_0 (k := 11) rfl
theorem dL_site_17 : decode cL_site 17 = .ok (.iconst 0, 1) := dchk_at dall_L_site_85b_site_0 (k := 12) rfl
theorem dL_site_18 : decode cL_site 18 = .ok (.ireturn, 1) := dchk_at dall_L_site_85b_site_0 (k := 13) rfl
def F_X7_site (p1 : Int32) (p2 : Int32) (c_now_row : Nat → Int32) : Option (Int32) :=
  bd1 (F_X5_hasSite p1 c_now_row) (fun r_1 => if r_1 = (0 : Int32) then none else if p2 < (0 : Int32) then none else if p2 ≤ (13 : Int32) then if p2 = (6 : Int32) then bd1 (F_X5_drift p1 (p2 - (6 : Int32)) c_now_row) (fun r_8 => some r_8) else if p2 = (7 : Int32) then bd1 (F_X5_drift p1 (p2 - (6 : Int32)) c_now_row) (fun r_10 => some r_10) else if p2 = (8 : Int32) then bd1 (F_X5_point p1 (p2 - (8 : Int32)) c_now_row) (fun r_12 => some r_12) else if p2 = (9 : Int32) then bd1 (F_X5_point p1 (p2 - (8 : Int32)) c_now_row) (fun r_14 => some r_14) else if p2 = (10 : Int32) then bd1 (F_X5_isQuiet p1 c_now_row) (fun r_16 => if r_16 = (0 : Int32) then some (0 : Int32) else some (1 : Int32)) else if p2 = (11 : Int32) then bd1 (F_X5_of p1 (6 : Int32) c_now_row) (fun r_20 => some r_20) else if p2 = (12 : Int32) then bd1 (F_X5_of p1 (7 : Int32) c_now_row) (fun r_22 => some r_22) else if p2 = (13 : Int32) then bd1 (F_X5_isFrozen p1 c_now_row) (fun r_24 => if r_24 = (0 : Int32) then some (0 : Int32) else some (1 : Int32)) else bd1 (F_X5_of p1 ((0 : Int32) + p2) c_now_row) (fun r_28 => some r_28) else none)
abbrev w_X7_site (E : EE) (a_ a_tape a_reader a_scripts a_now a_trial a_kept a_book a_keptBook a_history a_draws a_refused a_now_row a_now_partners a_now_share a_now_leftOver : Nat) (c_hasImage : Int32) (c_now_askedCount : Int32) (c_now_outcome : Int32) (c_now_row : Nat → Int32) : va_W := [k_X7 a_ a_tape a_reader a_scripts a_now a_trial a_kept a_book a_keptBook a_history a_draws a_refused c_hasImage, k_X5 a_now a_now_row a_now_partners c_now_askedCount c_now_outcome a_now_share a_now_leftOver, k_I E a_now_row 81 c_now_row]
def v_f_X7_site : List Cond := List.cons (.code yX7_site cX7_site 3 (some .int)) (HAppend.hAppend (α := List Cond) (β := List Cond) (γ := List Cond) [.fieldLink RX7 35 "HushWatch" "now" "LHushWatch$State;", .methodLink RX7 120 yX5_hasSite, .instanceMethod yX5_hasSite, .selects RX5 yX5_hasSite yX5_hasSite, .initialized RX5, .methodLink RX7 130 yX5_drift, .instanceMethod yX5_drift, .selects RX5 yX5_drift yX5_drift, .methodLink RX7 134 yX5_point, .instanceMethod yX5_point, .selects RX5 yX5_point yX5_point, .methodLink RX7 137 yX5_isQuiet, .instanceMethod yX5_isQuiet, .selects RX5 yX5_isQuiet yX5_isQuiet, .methodLink RX7 140 yX5_of, .instanceMethod yX5_of, .selects RX5 yX5_of yX5_of, .methodLink RX7 143 yX5_isFrozen, .instanceMethod yX5_isFrozen, .selects RX5 yX5_isFrozen yX5_isFrozen] (HAppend.hAppend (α := List Cond) (β := List Cond) (γ := List Cond) wsX70 (HAppend.hAppend (α := List Cond) (β := List Cond) (γ := List Cond) v_f_X5_hasSite (HAppend.hAppend (α := List Cond) (β := List Cond) (γ := List Cond) v_f_X5_drift (HAppend.hAppend (α := List Cond) (β := List Cond) (γ := List Cond) v_f_X5_point (HAppend.hAppend (α := List Cond) (β := List Cond) (γ := List Cond) v_f_X5_isQuiet (HAppend.hAppend (α := List Cond) (β := List Cond) (γ := List Cond) v_f_X5_of (HAppend.hAppend (α := List Cond) (β := List Cond) (γ := List Cond) v_f_X5_isFrozen []))))))))
theorem gw_f_X7_site : v_f_X7_site.all goodWord = true := gw_c2 (by decide +kernel) (gw_ap gw_wsX70 (gw_ap gw_f_X5_hasSite (gw_ap gw_f_X5_drift (gw_ap gw_f_X5_point (gw_ap gw_f_X5_isQuiet (gw_ap gw_f_X5_of (gw_ap gw_f_X5_isFrozen gw_nil)))))))
theorem i_f_X7_site_X7 : ∀ w ∈ wsX70, w ∈ v_f_X7_site := fun _ h => List.mem_cons_of_mem _ (List.mem_append_right _ (List.mem_append_left _ h))
theorem g_f_X7_site_f_X5_hasSite_120 : GoodIn v_f_X7_site (wsV RX7 120 RX5 yX5_hasSite v_f_X5_hasSite) := goodIn_in gw_f_X7_site (in4 2 3 4 5 rfl rfl rfl rfl (fun _ h => List.mem_cons_of_mem _ (List.mem_append_right _ (List.mem_append_right _ (List.mem_append_left _ h)))))
theorem g_f_X7_site_f_X5_drift_130 : GoodIn v_f_X7_site (wsV RX7 130 RX5 yX5_drift v_f_X5_drift) := goodIn_in gw_f_X7_site (in4 6 7 8 5 rfl rfl rfl rfl (fun _ h => List.mem_cons_of_mem _ (List.mem_append_right _ (List.mem_append_right _ (List.mem_append_right _ (List.mem_append_left _ h))))))
theorem g_f_X7_site_f_X5_point_134 : GoodIn v_f_X7_site (wsV RX7 134 RX5 yX5_point v_f_X5_point) := goodIn_in gw_f_X7_site (in4 9 10 11 5 rfl rfl rfl rfl (fun _ h => List.mem_cons_of_mem _ (List.mem_append_right _ (List.mem_append_right _ (List.mem_append_right _ (List.mem_append_right _ (List.mem_append_left _ h)))))))
theorem g_f_X7_site_f_X5_isQuiet_137 : GoodIn v_f_X7_site (wsV RX7 137 RX5 yX5_isQuiet v_f_X5_isQuiet) := goodIn_in gw_f_X7_site (in4 12 13 14 5 rfl rfl rfl rfl (fun _ h => List.mem_cons_of_mem _ (List.mem_append_right _ (List.mem_append_right _ (List.mem_append_right _ (List.mem_append_right _ (List.mem_append_right _ (List.mem_append_left _ h))))))))
theorem g_f_X7_site_f_X5_of_140 : GoodIn v_f_X7_site (wsV RX7 140 RX5 yX5_of v_f_X5_of) := goodIn_in gw_f_X7_site (in4 15 16 17 5 rfl rfl rfl rfl (fun _ h => List.mem_cons_of_mem _ (List.mem_append_right _ (List.mem_append_right _ (List.mem_append_right _ (List.mem_append_right _ (List.mem_append_right _ (List.mem_append_right _ (List.mem_append_left _ h)))))))))
theorem g_f_X7_site_f_X5_isFrozen_143 : GoodIn v_f_X7_site (wsV RX7 143 RX5 yX5_isFrozen v_f_X5_isFrozen) := goodIn_in gw_f_X7_site (in4 18 19 20 5 rfl rfl rfl rfl (fun _ h => List.mem_cons_of_mem _ (List.mem_append_right _ (List.mem_append_right _ (List.mem_append_right _ (List.mem_append_right _ (List.mem_append_right _ (List.mem_append_right _ (List.mem_append_right _ (List.mem_append_left _ h))))))))))
theorem hd_X7_site : yX7_site.cls = RX7 ∧ yX7_site.cls ≠ "java/lang/invoke/MethodHandle" ∧ yX7_site.cls ≠ "java/lang/invoke/VarHandle" ∧ (parseMethodDescriptor yX7_site.desc).map (fun d => d.parameters.length) = some 2 := by decide +kernel
set_option maxHeartbeats 4000000 in
set_option maxRecDepth 100000 in
theorem f_X7_site (l : Launch) (E : EE) {a_ a_tape a_reader a_scripts a_now a_trial a_kept a_book a_keptBook a_history a_draws a_refused a_now_row a_now_partners a_now_share a_now_leftOver : Nat} {p1 : Int32} {p2 : Int32} {c_hasImage : Int32} {c_now_askedCount : Int32} {c_now_outcome : Int32} {c_now_row : Nat → Int32} {rr : Int32} (hF : F_X7_site p1 p2 c_now_row = some rr) : Met l yX7_site v_f_X7_site (({ frames := 3, cells := 0, slots := 0, locals := 71 } : Room)) (va_Pc [.ref a_, .int p1, .int p2] (pP E (w_X7_site E a_ a_tape a_reader a_scripts a_now a_trial a_kept a_book a_keptBook a_history a_draws a_refused a_now_row a_now_partners a_now_share a_now_leftOver c_hasImage c_now_askedCount c_now_outcome c_now_row))) (vp_Si (fun q : Int32 => q = rr)) 0 0 (fun _ => False) := by
  refine Met.ofW (cc := cX7_site) (maxL := 3) (ret := (some .int)) (by decide) rfl ?_
  intro p e s m args below meth c s₁ B hml hv
  obtain ⟨rfl, ⟨hK, hN⟩, hP⟩ := hv
  have hx := B.exec
  have hb := B.bytes
  have hr := B.returns
  have hts := atoms_spec (ws := v_f_X7_site) B.pre
  have hown : s.vm.findClass RX7 = some m.cls := own_of hd_X7_site.1 (findClass_of_methodNamed B.named)
  have hlocks : meth.locks = false := B.notSynchronized
  replace hP : va_P E.1 vwCl [k_X7 a_ a_tape a_reader a_scripts a_now a_trial a_kept a_book a_keptBook a_history a_draws a_refused c_hasImage, k_X5 a_now a_now_row a_now_partners c_now_askedCount c_now_outcome a_now_share a_now_leftOver, k_I E a_now_row 81 c_now_row] s.heap := hP
  have hl := lv_entry ([.ref a_, .int p1, .int p2]) (n := 3) (Nat.le_of_ble_eq_true rfl)
  rw [lg_entry_eq]
  generalize (lg_sl ([.ref a_, .int p1, .int p2]) ++ List.replicate (3 - (lg_sl ([.ref a_, .int p1, .int p2])).length) Slot.unset).toArray = ls at hl ⊢
  have hl : lv_has ls 3 [(0, .ref a_), (1, .int p1), (2, .int p2)] := hl
  obtain ⟨Q, hQ⟩ : ∃ Q : State → Prop, Q = MQ below (vp_Si (fun q : Int32 => q = rr)) #[Value.ref a_, Value.int p1, Value.int p2] s 0 0 (fun _ => False) := ⟨_, rfl⟩
  rw [← hQ]
  change W p l e ({ frames := 3, cells := 0, slots := 0, locals := 71 } : Room) s m #[Value.ref a_, Value.int p1, Value.int p2] below meth c s.heap [] 0 0 Q (F0 m 0 ls [])
  unfold F_X7_site at hF
  refine lv_aload_n hx hb (dq_42 0 bcX7_site_0 (j := 0) rfl rfl) rfl (lv_at hl 0 rfl) ?_
  refine gt_X7_3 (v := .ref a_now) hx hb hts i_f_X7_site_X7 hown hK hP 0 rfl (hts (.fieldLink RX7 35 "HushWatch" "now" "LHushWatch$State;") (List.mem_of_getElem? (i := 1) rfl)) rfl (dq_180 0 bcX7_site_0 (j := 1) (i := 35) rfl rfl rfl) ?_
  refine lv_iload_n hx hb (dq_27 0 bcX7_site_0 (j := 4) rfl rfl) rfl (lv_at hl 1 rfl) ?_
  replace hF := bd1_s hF
  obtain ⟨r_1, hc_2, hF⟩ := hF
  have hPc : va_P E.1 vwCl (w_X5_hasSite E a_now a_now_row a_now_partners a_now_share a_now_leftOver c_now_askedCount c_now_outcome c_now_row) s.heap := hP.sub (ws' := [k_X5 a_now a_now_row a_now_partners c_now_askedCount c_now_outcome a_now_share a_now_leftOver, k_I E a_now_row 81 c_now_row]) [1, 2] rfl
  have hrc := va_recv hK hPc (ci := 6) (q0 := 0) rfl rfl
  refine pE_z (va_runV (As := [.int p1]) (rest := [])  ⟨hx, hb, hml, hown, hts⟩ (f_X5_hasSite l E (a_ := a_now) (a_row := a_now_row) (a_partners := a_now_partners) (a_share := a_now_share) (a_leftOver := a_now_leftOver) (p1 := p1) (c_askedCount := c_now_askedCount) (c_outcome := c_now_outcome) (c_row := c_now_row) hc_2) (cwV 1 hts g_f_X7_site_f_X5_hasSite_120 rfl rfl rfl hd_X5_hasSite ⟨Nat.le_of_ble_eq_true rfl, Nat.le_of_ble_eq_true rfl⟩) ⟨pP.blind, hrc, (pP.pre ⟨hK, hN⟩ hPc)⟩ rfl rfl hl.1 rfl (lv_room (Nat.le_of_ble_eq_true rfl)) (dq_182 0 bcX7_site_0 (j := 5) (i := 120) rfl rfl rfl) ⟨Nat.le_of_ble_eq_true rfl, Nat.le_of_ble_eq_true rfl⟩) (fun hb_3 => ?_)
  refine lv_if_eq (tgt := 21) hx hb (dq_153 0 bcX7_site_0 (j := 8) (i := 13) rfl rfl rfl) (by decide) (fun c_4 => ?_) (fun c_4 => ?_)
  ·
    replace hF := ip c_4 hF
    cases hF
  ·
    replace hF := inn c_4 hF
    refine lv_iload_n hx hb (dq_28 0 bcX7_site_0 (j := 11) rfl rfl) rfl (lv_at hl 2 rfl) ?_
    refine lv_if_lt (tgt := 21) hx hb (dq_155 0 bcX7_site_0 (j := 12) (i := 9) rfl rfl rfl) (by decide) (fun c_5 => ?_) (fun c_5 => ?_)
    ·
      replace hF := ip c_5 hF
      cases hF
    ·
      replace hF := inn c_5 hF
      refine lv_iload_n hx hb (dq_28 0 bcX7_site_0 (j := 15) rfl rfl) rfl (lv_at hl 2 rfl) ?_
      refine lv_bipush (v := 13) hx hb (dq_16 0 bcX7_site_0 (j := 16) (i := 13) rfl rfl rfl) (by decide) ?_
      refine lv_icmp_le (tgt := 31) hx hb (dq_164 0 bcX7_site_0 (j := 18) (i := 13) rfl rfl rfl) (by decide) (fun c_6 => ?_) (fun c_6 => ?_)
      ·
        replace hF := ip c_6 hF
        refine lv_iload_n hx hb (dq_28 0 bcX7_site_0 (j := 31) rfl rfl) rfl (lv_at hl 2 rfl) ?_
        rcases Classical.em (p2 = (6 : Int32)) with c_7_6 | c_7_6
        ·
          replace hF := ip c_7_6 hF
          refine lv_tableIn (off := 48) (tgt := 80) hx hb dX7_site_32 (by rw [c_7_6]; decide) (by rw [c_7_6]; decide) (by rw [c_7_6]; decide) (by decide) ?_
          refine lv_aload_n hx hb (dq_42 48 bcX7_site_1 (j := 32) rfl rfl) rfl (lv_at hl 0 rfl) ?_
          refine gt_X7_3 (v := .ref a_now) hx hb hts i_f_X7_site_X7 hown hK hP 0 rfl (hts (.fieldLink RX7 35 "HushWatch" "now" "LHushWatch$State;") (List.mem_of_getElem? (i := 1) rfl)) rfl (dq_180 48 bcX7_site_1 (j := 33) (i := 35) rfl rfl rfl) ?_
          refine lv_iload_n hx hb (dq_27 48 bcX7_site_1 (j := 36) rfl rfl) rfl (lv_at hl 1 rfl) ?_
          refine lv_iload_n hx hb (dq_28 48 bcX7_site_1 (j := 37) rfl rfl) rfl (lv_at hl 2 rfl) ?_
          refine lv_bipush (v := 6) hx hb (dq_16 48 bcX7_site_1 (j := 38) (i := 6) rfl rfl rfl) (by decide) ?_
          refine lv_isub hx hb (dq_100 48 bcX7_site_1 (j := 40) rfl rfl) ?_
          replace hF := bd1_s hF
          obtain ⟨r_8, hc_9, hF⟩ := hF
          have hPc : va_P E.1 vwCl (w_X5_drift E a_now a_now_row a_now_partners a_now_share a_now_leftOver c_now_askedCount c_now_outcome c_now_row) s.heap := hP.sub (ws' := [k_X5 a_now a_now_row a_now_partners c_now_askedCount c_now_outcome a_now_share a_now_leftOver, k_I E a_now_row 81 c_now_row]) [1, 2] rfl
          have hrc := va_recv hK hPc (ci := 6) (q0 := 0) rfl rfl
          refine pE_i (va_runV (As := [.int p1, .int (p2 - (6 : Int32))]) (rest := [])  ⟨hx, hb, hml, hown, hts⟩ (f_X5_drift l E (a_ := a_now) (a_row := a_now_row) (a_partners := a_now_partners) (a_share := a_now_share) (a_leftOver := a_now_leftOver) (p1 := p1) (p2 := p2 - (6 : Int32)) (c_askedCount := c_now_askedCount) (c_outcome := c_now_outcome) (c_row := c_now_row) hc_9) (cwV 2 hts g_f_X7_site_f_X5_drift_130 rfl rfl rfl hd_X5_drift ⟨Nat.le_of_ble_eq_true rfl, Nat.le_of_ble_eq_true rfl⟩) ⟨pP.blind, hrc, (pP.pre ⟨hK, hN⟩ hPc)⟩ rfl rfl hl.1 rfl (lv_room (Nat.le_of_ble_eq_true rfl)) (dq_182 48 bcX7_site_1 (j := 41) (i := 130) rfl rfl rfl) ⟨Nat.le_of_ble_eq_true rfl, Nat.le_of_ble_eq_true rfl⟩) ?_
          rw [hQ]
          obtain e9_0 := inj1 hF
          exact W.iret (v := r_8) hx hb hr (fun tt ht hW => ⟨_, rfl, e9_0, ht⟩) (fun _ h => by cases h) (dq_172 48 bcX7_site_1 (j := 44) rfl rfl)
        replace hF := inn c_7_6 hF
        rcases Classical.em (p2 = (7 : Int32)) with c_7_7 | c_7_7
        ·
          replace hF := ip c_7_7 hF
          refine lv_tableIn (off := 48) (tgt := 80) hx hb dX7_site_32 (by rw [c_7_7]; decide) (by rw [c_7_7]; decide) (by rw [c_7_7]; decide) (by decide) ?_
          refine lv_aload_n hx hb (dq_42 48 bcX7_site_1 (j := 32) rfl rfl) rfl (lv_at hl 0 rfl) ?_
          refine gt_X7_3 (v := .ref a_now) hx hb hts i_f_X7_site_X7 hown hK hP 0 rfl (hts (.fieldLink RX7 35 "HushWatch" "now" "LHushWatch$State;") (List.mem_of_getElem? (i := 1) rfl)) rfl (dq_180 48 bcX7_site_1 (j := 33) (i := 35) rfl rfl rfl) ?_
          refine lv_iload_n hx hb (dq_27 48 bcX7_site_1 (j := 36) rfl rfl) rfl (lv_at hl 1 rfl) ?_
          refine lv_iload_n hx hb (dq_28 48 bcX7_site_1 (j := 37) rfl rfl) rfl (lv_at hl 2 rfl) ?_
          refine lv_bipush (v := 6) hx hb (dq_16 48 bcX7_site_1 (j := 38) (i := 6) rfl rfl rfl) (by decide) ?_
          refine lv_isub hx hb (dq_100 48 bcX7_site_1 (j := 40) rfl rfl) ?_
          replace hF := bd1_s hF
          obtain ⟨r_10, hc_11, hF⟩ := hF
          have hPc : va_P E.1 vwCl (w_X5_drift E a_now a_now_row a_now_partners a_now_share a_now_leftOver c_now_askedCount c_now_outcome c_now_row) s.heap := hP.sub (ws' := [k_X5 a_now a_now_row a_now_partners c_now_askedCount c_now_outcome a_now_share a_now_leftOver, k_I E a_now_row 81 c_now_row]) [1, 2] rfl
          have hrc := va_recv hK hPc (ci := 6) (q0 := 0) rfl rfl
          refine pE_i (va_runV (As := [.int p1, .int (p2 - (6 : Int32))]) (rest := [])  ⟨hx, hb, hml, hown, hts⟩ (f_X5_drift l E (a_ := a_now) (a_row := a_now_row) (a_partners := a_now_partners) (a_share := a_now_share) (a_leftOver := a_now_leftOver) (p1 := p1) (p2 := p2 - (6 : Int32)) (c_askedCount := c_now_askedCount) (c_outcome := c_now_outcome) (c_row := c_now_row) hc_11) (cwV 2 hts g_f_X7_site_f_X5_drift_130 rfl rfl rfl hd_X5_drift ⟨Nat.le_of_ble_eq_true rfl, Nat.le_of_ble_eq_true rfl⟩) ⟨pP.blind, hrc, (pP.pre ⟨hK, hN⟩ hPc)⟩ rfl rfl hl.1 rfl (lv_room (Nat.le_of_ble_eq_true rfl)) (dq_182 48 bcX7_site_1 (j := 41) (i := 130) rfl rfl rfl) ⟨Nat.le_of_ble_eq_true rfl, Nat.le_of_ble_eq_true rfl⟩) ?_
          rw [hQ]
          obtain e9_0 := inj1 hF
          exact W.iret (v := r_10) hx hb hr (fun tt ht hW => ⟨_, rfl, e9_0, ht⟩) (fun _ h => by cases h) (dq_172 48 bcX7_site_1 (j := 44) rfl rfl)
        replace hF := inn c_7_7 hF
        rcases Classical.em (p2 = (8 : Int32)) with c_7_8 | c_7_8
        ·
          replace hF := ip c_7_8 hF
          refine lv_tableIn (off := 61) (tgt := 93) hx hb dX7_site_32 (by rw [c_7_8]; decide) (by rw [c_7_8]; decide) (by rw [c_7_8]; decide) (by decide) ?_
          refine lv_aload_n hx hb (dq_42 48 bcX7_site_1 (j := 45) rfl rfl) rfl (lv_at hl 0 rfl) ?_
          refine gt_X7_3 (v := .ref a_now) hx hb hts i_f_X7_site_X7 hown hK hP 0 rfl (hts (.fieldLink RX7 35 "HushWatch" "now" "LHushWatch$State;") (List.mem_of_getElem? (i := 1) rfl)) rfl (dq_180 48 bcX7_site_1 (j := 46) (i := 35) rfl rfl rfl) ?_
          refine lv_iload_n hx hb (dq_27 96 bcX7_site_2 (j := 1) rfl rfl) rfl (lv_at hl 1 rfl) ?_
          refine lv_iload_n hx hb (dq_28 96 bcX7_site_2 (j := 2) rfl rfl) rfl (lv_at hl 2 rfl) ?_
          refine lv_bipush (v := 8) hx hb (dq_16 96 bcX7_site_2 (j := 3) (i := 8) rfl rfl rfl) (by decide) ?_
          refine lv_isub hx hb (dq_100 96 bcX7_site_2 (j := 5) rfl rfl) ?_
          replace hF := bd1_s hF
          obtain ⟨r_12, hc_13, hF⟩ := hF
          have hPc : va_P E.1 vwCl (w_X5_point E a_now a_now_row a_now_partners a_now_share a_now_leftOver c_now_askedCount c_now_outcome c_now_row) s.heap := hP.sub (ws' := [k_X5 a_now a_now_row a_now_partners c_now_askedCount c_now_outcome a_now_share a_now_leftOver, k_I E a_now_row 81 c_now_row]) [1, 2] rfl
          have hrc := va_recv hK hPc (ci := 6) (q0 := 0) rfl rfl
          refine pE_i (va_runV (As := [.int p1, .int (p2 - (8 : Int32))]) (rest := [])  ⟨hx, hb, hml, hown, hts⟩ (f_X5_point l E (a_ := a_now) (a_row := a_now_row) (a_partners := a_now_partners) (a_share := a_now_share) (a_leftOver := a_now_leftOver) (p1 := p1) (p2 := p2 - (8 : Int32)) (c_askedCount := c_now_askedCount) (c_outcome := c_now_outcome) (c_row := c_now_row) hc_13) (cwV 2 hts g_f_X7_site_f_X5_point_134 rfl rfl rfl hd_X5_point ⟨Nat.le_of_ble_eq_true rfl, Nat.le_of_ble_eq_true rfl⟩) ⟨pP.blind, hrc, (pP.pre ⟨hK, hN⟩ hPc)⟩ rfl rfl hl.1 rfl (lv_room (Nat.le_of_ble_eq_true rfl)) (dq_182 96 bcX7_site_2 (j := 6) (i := 134) rfl rfl rfl) ⟨Nat.le_of_ble_eq_true rfl, Nat.le_of_ble_eq_true rfl⟩) ?_
          rw [hQ]
          obtain e9_0 := inj1 hF
          exact W.iret (v := r_12) hx hb hr (fun tt ht hW => ⟨_, rfl, e9_0, ht⟩) (fun _ h => by cases h) (dq_172 96 bcX7_site_2 (j := 9) rfl rfl)
        replace hF := inn c_7_8 hF
        rcases Classical.em (p2 = (9 : Int32)) with c_7_9 | c_7_9
        ·
          replace hF := ip c_7_9 hF
          refine lv_tableIn (off := 61) (tgt := 93) hx hb dX7_site_32 (by rw [c_7_9]; decide) (by rw [c_7_9]; decide) (by rw [c_7_9]; decide) (by decide) ?_
          refine lv_aload_n hx hb (dq_42 48 bcX7_site_1 (j := 45) rfl rfl) rfl (lv_at hl 0 rfl) ?_
          refine gt_X7_3 (v := .ref a_now) hx hb hts i_f_X7_site_X7 hown hK hP 0 rfl (hts (.fieldLink RX7 35 "HushWatch" "now" "LHushWatch$State;") (List.mem_of_getElem? (i := 1) rfl)) rfl (dq_180 48 bcX7_site_1 (j := 46) (i := 35) rfl rfl rfl) ?_
          refine lv_iload_n hx hb (dq_27 96 bcX7_site_2 (j := 1) rfl rfl) rfl (lv_at hl 1 rfl) ?_
          refine lv_iload_n hx hb (dq_28 96 bcX7_site_2 (j := 2) rfl rfl) rfl (lv_at hl 2 rfl) ?_
          refine lv_bipush (v := 8) hx hb (dq_16 96 bcX7_site_2 (j := 3) (i := 8) rfl rfl rfl) (by decide) ?_
          refine lv_isub hx hb (dq_100 96 bcX7_site_2 (j := 5) rfl rfl) ?_
          replace hF := bd1_s hF
          obtain ⟨r_14, hc_15, hF⟩ := hF
          have hPc : va_P E.1 vwCl (w_X5_point E a_now a_now_row a_now_partners a_now_share a_now_leftOver c_now_askedCount c_now_outcome c_now_row) s.heap := hP.sub (ws' := [k_X5 a_now a_now_row a_now_partners c_now_askedCount c_now_outcome a_now_share a_now_leftOver, k_I E a_now_row 81 c_now_row]) [1, 2] rfl
          have hrc := va_recv hK hPc (ci := 6) (q0 := 0) rfl rfl
          refine pE_i (va_runV (As := [.int p1, .int (p2 - (8 : Int32))]) (rest := [])  ⟨hx, hb, hml, hown, hts⟩ (f_X5_point l E (a_ := a_now) (a_row := a_now_row) (a_partners := a_now_partners) (a_share := a_now_share) (a_leftOver := a_now_leftOver) (p1 := p1) (p2 := p2 - (8 : Int32)) (c_askedCount := c_now_askedCount) (c_outcome := c_now_outcome) (c_row := c_now_row) hc_15) (cwV 2 hts g_f_X7_site_f_X5_point_134 rfl rfl rfl hd_X5_point ⟨Nat.le_of_ble_eq_true rfl, Nat.le_of_ble_eq_true rfl⟩) ⟨pP.blind, hrc, (pP.pre ⟨hK, hN⟩ hPc)⟩ rfl rfl hl.1 rfl (lv_room (Nat.le_of_ble_eq_true rfl)) (dq_182 96 bcX7_site_2 (j := 6) (i := 134) rfl rfl rfl) ⟨Nat.le_of_ble_eq_true rfl, Nat.le_of_ble_eq_true rfl⟩) ?_
          rw [hQ]
          obtain e9_0 := inj1 hF
          exact W.iret (v := r_14) hx hb hr (fun tt ht hW => ⟨_, rfl, e9_0, ht⟩) (fun _ h => by cases h) (dq_172 96 bcX7_site_2 (j := 9) rfl rfl)
        replace hF := inn c_7_9 hF
        rcases Classical.em (p2 = (10 : Int32)) with c_7_10 | c_7_10
        ·
          replace hF := ip c_7_10 hF
          refine lv_tableIn (off := 74) (tgt := 106) hx hb dX7_site_32 (by rw [c_7_10]; decide) (by rw [c_7_10]; decide) (by rw [c_7_10]; decide) (by decide) ?_
          refine lv_aload_n hx hb (dq_42 96 bcX7_site_2 (j := 10) rfl rfl) rfl (lv_at hl 0 rfl) ?_
          refine gt_X7_3 (v := .ref a_now) hx hb hts i_f_X7_site_X7 hown hK hP 0 rfl (hts (.fieldLink RX7 35 "HushWatch" "now" "LHushWatch$State;") (List.mem_of_getElem? (i := 1) rfl)) rfl (dq_180 96 bcX7_site_2 (j := 11) (i := 35) rfl rfl rfl) ?_
          refine lv_iload_n hx hb (dq_27 96 bcX7_site_2 (j := 14) rfl rfl) rfl (lv_at hl 1 rfl) ?_
          replace hF := bd1_s hF
          obtain ⟨r_16, hc_17, hF⟩ := hF
          have hPc : va_P E.1 vwCl (w_X5_isQuiet E a_now a_now_row a_now_partners a_now_share a_now_leftOver c_now_askedCount c_now_outcome c_now_row) s.heap := hP.sub (ws' := [k_X5 a_now a_now_row a_now_partners c_now_askedCount c_now_outcome a_now_share a_now_leftOver, k_I E a_now_row 81 c_now_row]) [1, 2] rfl
          have hrc := va_recv hK hPc (ci := 6) (q0 := 0) rfl rfl
          refine pE_z (va_runV (As := [.int p1]) (rest := [])  ⟨hx, hb, hml, hown, hts⟩ (f_X5_isQuiet l E (a_ := a_now) (a_row := a_now_row) (a_partners := a_now_partners) (a_share := a_now_share) (a_leftOver := a_now_leftOver) (p1 := p1) (c_askedCount := c_now_askedCount) (c_outcome := c_now_outcome) (c_row := c_now_row) hc_17) (cwV 1 hts g_f_X7_site_f_X5_isQuiet_137 rfl rfl rfl hd_X5_isQuiet ⟨Nat.le_of_ble_eq_true rfl, Nat.le_of_ble_eq_true rfl⟩) ⟨pP.blind, hrc, (pP.pre ⟨hK, hN⟩ hPc)⟩ rfl rfl hl.1 rfl (lv_room (Nat.le_of_ble_eq_true rfl)) (dq_182 96 bcX7_site_2 (j := 15) (i := 137) rfl rfl rfl) ⟨Nat.le_of_ble_eq_true rfl, Nat.le_of_ble_eq_true rfl⟩) (fun hb_18 => ?_)
          refine lv_if_eq (tgt := 121) hx hb (dq_153 96 bcX7_site_2 (j := 18) (i := 7) rfl rfl rfl) (by decide) (fun c_19 => ?_) (fun c_19 => ?_)
          ·
            replace hF := ip c_19 hF
            refine lv_iconst (v := 0) hx hb (dq_3 96 bcX7_site_2 (j := 25) rfl rfl) (by decide) ?_
            rw [hQ]
            obtain e9_0 := inj1 hF
            exact W.iret (v := (0 : Int32)) hx hb hr (fun tt ht hW => ⟨_, rfl, e9_0, ht⟩) (fun _ h => by cases h) (dq_172 96 bcX7_site_2 (j := 26) rfl rfl)
          ·
            replace hF := inn c_19 hF
            refine lv_iconst (v := 1) hx hb (dq_4 96 bcX7_site_2 (j := 21) rfl rfl) (by decide) ?_
            refine lv_goto (tgt := 122) hx hb (dq_167 96 bcX7_site_2 (j := 22) (i := 4) rfl rfl rfl) (by decide) ?_
            rw [hQ]
            obtain e9_0 := inj1 hF
            exact W.iret (v := (1 : Int32)) hx hb hr (fun tt ht hW => ⟨_, rfl, e9_0, ht⟩) (fun _ h => by cases h) (dq_172 96 bcX7_site_2 (j := 26) rfl rfl)
        replace hF := inn c_7_10 hF
        rcases Classical.em (p2 = (11 : Int32)) with c_7_11 | c_7_11
        ·
          replace hF := ip c_7_11 hF
          refine lv_tableIn (off := 91) (tgt := 123) hx hb dX7_site_32 (by rw [c_7_11]; decide) (by rw [c_7_11]; decide) (by rw [c_7_11]; decide) (by decide) ?_
          refine lv_aload_n hx hb (dq_42 96 bcX7_site_2 (j := 27) rfl rfl) rfl (lv_at hl 0 rfl) ?_
          refine gt_X7_3 (v := .ref a_now) hx hb hts i_f_X7_site_X7 hown hK hP 0 rfl (hts (.fieldLink RX7 35 "HushWatch" "now" "LHushWatch$State;") (List.mem_of_getElem? (i := 1) rfl)) rfl (dq_180 96 bcX7_site_2 (j := 28) (i := 35) rfl rfl rfl) ?_
          refine lv_iload_n hx hb (dq_27 96 bcX7_site_2 (j := 31) rfl rfl) rfl (lv_at hl 1 rfl) ?_
          refine lv_bipush (v := 6) hx hb (dq_16 96 bcX7_site_2 (j := 32) (i := 6) rfl rfl rfl) (by decide) ?_
          replace hF := bd1_s hF
          obtain ⟨r_20, hc_21, hF⟩ := hF
          have hPc : va_P E.1 vwCl (w_X5_of E a_now a_now_row a_now_partners a_now_share a_now_leftOver c_now_askedCount c_now_outcome c_now_row) s.heap := hP.sub (ws' := [k_X5 a_now a_now_row a_now_partners c_now_askedCount c_now_outcome a_now_share a_now_leftOver, k_I E a_now_row 81 c_now_row]) [1, 2] rfl
          have hrc := va_recv hK hPc (ci := 6) (q0 := 0) rfl rfl
          refine pE_i (va_runV (As := [.int p1, .int (6 : Int32)]) (rest := [])  ⟨hx, hb, hml, hown, hts⟩ (f_X5_of l E (a_ := a_now) (a_row := a_now_row) (a_partners := a_now_partners) (a_share := a_now_share) (a_leftOver := a_now_leftOver) (p1 := p1) (p2 := (6 : Int32)) (c_askedCount := c_now_askedCount) (c_outcome := c_now_outcome) (c_row := c_now_row) hc_21) (cwV 2 hts g_f_X7_site_f_X5_of_140 rfl rfl rfl hd_X5_of ⟨Nat.le_of_ble_eq_true rfl, Nat.le_of_ble_eq_true rfl⟩) ⟨pP.blind, hrc, (pP.pre ⟨hK, hN⟩ hPc)⟩ rfl rfl hl.1 rfl (lv_room (Nat.le_of_ble_eq_true rfl)) (dq_182 96 bcX7_site_2 (j := 34) (i := 140) rfl rfl rfl) ⟨Nat.le_of_ble_eq_true rfl, Nat.le_of_ble_eq_true rfl⟩) ?_
          rw [hQ]
          obtain e9_0 := inj1 hF
          exact W.iret (v := r_20) hx hb hr (fun tt ht hW => ⟨_, rfl, e9_0, ht⟩) (fun _ h => by cases h) (dq_172 96 bcX7_site_2 (j := 37) rfl rfl)
        replace hF := inn c_7_11 hF
        rcases Classical.em (p2 = (12 : Int32)) with c_7_12 | c_7_12
        ·
          replace hF := ip c_7_12 hF
          refine lv_tableIn (off := 102) (tgt := 134) hx hb dX7_site_32 (by rw [c_7_12]; decide) (by rw [c_7_12]; decide) (by rw [c_7_12]; decide) (by decide) ?_
          refine lv_aload_n hx hb (dq_42 96 bcX7_site_2 (j := 38) rfl rfl) rfl (lv_at hl 0 rfl) ?_
          refine gt_X7_3 (v := .ref a_now) hx hb hts i_f_X7_site_X7 hown hK hP 0 rfl (hts (.fieldLink RX7 35 "HushWatch" "now" "LHushWatch$State;") (List.mem_of_getElem? (i := 1) rfl)) rfl (dq_180 96 bcX7_site_2 (j := 39) (i := 35) rfl rfl rfl) ?_
          refine lv_iload_n hx hb (dq_27 96 bcX7_site_2 (j := 42) rfl rfl) rfl (lv_at hl 1 rfl) ?_
          refine lv_bipush (v := 7) hx hb (dq_16 96 bcX7_site_2 (j := 43) (i := 7) rfl rfl rfl) (by decide) ?_
          replace hF := bd1_s hF
          obtain ⟨r_22, hc_23, hF⟩ := hF
          have hPc : va_P E.1 vwCl (w_X5_of E a_now a_now_row a_now_partners a_now_share a_now_leftOver c_now_askedCount c_now_outcome c_now_row) s.heap := hP.sub (ws' := [k_X5 a_now a_now_row a_now_partners c_now_askedCount c_now_outcome a_now_share a_now_leftOver, k_I E a_now_row 81 c_now_row]) [1, 2] rfl
          have hrc := va_recv hK hPc (ci := 6) (q0 := 0) rfl rfl
          refine pE_i (va_runV (As := [.int p1, .int (7 : Int32)]) (rest := [])  ⟨hx, hb, hml, hown, hts⟩ (f_X5_of l E (a_ := a_now) (a_row := a_now_row) (a_partners := a_now_partners) (a_share := a_now_share) (a_leftOver := a_now_leftOver) (p1 := p1) (p2 := (7 : Int32)) (c_askedCount := c_now_askedCount) (c_outcome := c_now_outcome) (c_row := c_now_row) hc_23) (cwV 2 hts g_f_X7_site_f_X5_of_140 rfl rfl rfl hd_X5_of ⟨Nat.le_of_ble_eq_true rfl, Nat.le_of_ble_eq_true rfl⟩) ⟨pP.blind, hrc, (pP.pre ⟨hK, hN⟩ hPc)⟩ rfl rfl hl.1 rfl (lv_room (Nat.le_of_ble_eq_true rfl)) (dq_182 96 bcX7_site_2 (j := 45) (i := 140) rfl rfl rfl) ⟨Nat.le_of_ble_eq_true rfl, Nat.le_of_ble_eq_true rfl⟩) ?_
          rw [hQ]
          obtain e9_0 := inj1 hF
          exact W.iret (v := r_22) hx hb hr (fun tt ht hW => ⟨_, rfl, e9_0, ht⟩) (fun _ h => by cases h) (dq_172 144 bcX7_site_3 (j := 0) rfl rfl)
        replace hF := inn c_7_12 hF
        rcases Classical.em (p2 = (13 : Int32)) with c_7_13 | c_7_13
        ·
          replace hF := ip c_7_13 hF
          refine lv_tableIn (off := 113) (tgt := 145) hx hb dX7_site_32 (by rw [c_7_13]; decide) (by rw [c_7_13]; decide) (by rw [c_7_13]; decide) (by decide) ?_
          refine lv_aload_n hx hb (dq_42 144 bcX7_site_3 (j := 1) rfl rfl) rfl (lv_at hl 0 rfl) ?_
          refine gt_X7_3 (v := .ref a_now) hx hb hts i_f_X7_site_X7 hown hK hP 0 rfl (hts (.fieldLink RX7 35 "HushWatch" "now" "LHushWatch$State;") (List.mem_of_getElem? (i := 1) rfl)) rfl (dq_180 144 bcX7_site_3 (j := 2) (i := 35) rfl rfl rfl) ?_
          refine lv_iload_n hx hb (dq_27 144 bcX7_site_3 (j := 5) rfl rfl) rfl (lv_at hl 1 rfl) ?_
          replace hF := bd1_s hF
          obtain ⟨r_24, hc_25, hF⟩ := hF
          have hPc : va_P E.1 vwCl (w_X5_isFrozen E a_now a_now_row a_now_partners a_now_share a_now_leftOver c_now_askedCount c_now_outcome c_now_row) s.heap := hP.sub (ws' := [k_X5 a_now a_now_row a_now_partners c_now_askedCount c_now_outcome a_now_share a_now_leftOver, k_I E a_now_row 81 c_now_row]) [1, 2] rfl
          have hrc := va_recv hK hPc (ci := 6) (q0 := 0) rfl rfl
          refine pE_z (va_runV (As := [.int p1]) (rest := [])  ⟨hx, hb, hml, hown, hts⟩ (f_X5_isFrozen l E (a_ := a_now) (a_row := a_now_row) (a_partners := a_now_partners) (a_share := a_now_share) (a_leftOver := a_now_leftOver) (p1 := p1) (c_askedCount := c_now_askedCount) (c_outcome := c_now_outcome) (c_row := c_now_row) hc_25) (cwV 1 hts g_f_X7_site_f_X5_isFrozen_143 rfl rfl rfl hd_X5_isFrozen ⟨Nat.le_of_ble_eq_true rfl, Nat.le_of_ble_eq_true rfl⟩) ⟨pP.blind, hrc, (pP.pre ⟨hK, hN⟩ hPc)⟩ rfl rfl hl.1 rfl (lv_room (Nat.le_of_ble_eq_true rfl)) (dq_182 144 bcX7_site_3 (j := 6) (i := 143) rfl rfl rfl) ⟨Nat.le_of_ble_eq_true rfl, Nat.le_of_ble_eq_true rfl⟩) (fun hb_26 => ?_)
          refine lv_if_eq (tgt := 160) hx hb (dq_153 144 bcX7_site_3 (j := 9) (i := 7) rfl rfl rfl) (by decide) (fun c_27 => ?_) (fun c_27 => ?_)
          ·
            replace hF := ip c_27 hF
            refine lv_iconst (v := 0) hx hb (dq_3 144 bcX7_site_3 (j := 16) rfl rfl) (by decide) ?_
            rw [hQ]
            obtain e9_0 := inj1 hF
            exact W.iret (v := (0 : Int32)) hx hb hr (fun tt ht hW => ⟨_, rfl, e9_0, ht⟩) (fun _ h => by cases h) (dq_172 144 bcX7_site_3 (j := 17) rfl rfl)
          ·
            replace hF := inn c_27 hF
            refine lv_iconst (v := 1) hx hb (dq_4 144 bcX7_site_3 (j := 12) rfl rfl) (by decide) ?_
            refine lv_goto (tgt := 161) hx hb (dq_167 144 bcX7_site_3 (j := 13) (i := 4) rfl rfl rfl) (by decide) ?_
            rw [hQ]
            obtain e9_0 := inj1 hF
            exact W.iret (v := (1 : Int32)) hx hb hr (fun tt ht hW => ⟨_, rfl, e9_0, ht⟩) (fun _ h => by cases h) (dq_172 144 bcX7_site_3 (j := 17) rfl rfl)
        replace hF := inn c_7_13 hF
        refine lv_tableOut (tgt := 162) hx hb dX7_site_32 (by have t0 : (6 : Int32).toInt = 6 := (by decide); have t1 : (7 : Int32).toInt = 7 := (by decide); have t2 : (8 : Int32).toInt = 8 := (by decide); have t3 : (9 : Int32).toInt = 9 := (by decide); have t4 : (10 : Int32).toInt = 10 := (by decide); have t5 : (11 : Int32).toInt = 11 := (by decide); have t6 : (12 : Int32).toInt = 12 := (by decide); have t7 : (13 : Int32).toInt = 13 := (by decide); simp only [← Int32.toInt_inj, t0, t1, t2, t3, t4, t5, t6, t7] at c_7_6 c_7_7 c_7_8 c_7_9 c_7_10 c_7_11 c_7_12 c_7_13; omega) (by decide) ?_
        refine lv_aload_n hx hb (dq_42 144 bcX7_site_3 (j := 18) rfl rfl) rfl (lv_at hl 0 rfl) ?_
        refine gt_X7_3 (v := .ref a_now) hx hb hts i_f_X7_site_X7 hown hK hP 0 rfl (hts (.fieldLink RX7 35 "HushWatch" "now" "LHushWatch$State;") (List.mem_of_getElem? (i := 1) rfl)) rfl (dq_180 144 bcX7_site_3 (j := 19) (i := 35) rfl rfl rfl) ?_
        refine lv_iload_n hx hb (dq_27 144 bcX7_site_3 (j := 22) rfl rfl) rfl (lv_at hl 1 rfl) ?_
        refine lv_iconst (v := 0) hx hb (dq_3 144 bcX7_site_3 (j := 23) rfl rfl) (by decide) ?_
        refine lv_iload_n hx hb (dq_28 144 bcX7_site_3 (j := 24) rfl rfl) rfl (lv_at hl 2 rfl) ?_
        refine lv_iadd hx hb (dq_96 144 bcX7_site_3 (j := 25) rfl rfl) ?_
        replace hF := bd1_s hF
        obtain ⟨r_28, hc_29, hF⟩ := hF
        have hPc : va_P E.1 vwCl (w_X5_of E a_now a_now_row a_now_partners a_now_share a_now_leftOver c_now_askedCount c_now_outcome c_now_row) s.heap := hP.sub (ws' := [k_X5 a_now a_now_row a_now_partners c_now_askedCount c_now_outcome a_now_share a_now_leftOver, k_I E a_now_row 81 c_now_row]) [1, 2] rfl
        have hrc := va_recv hK hPc (ci := 6) (q0 := 0) rfl rfl
        refine pE_i (va_runV (As := [.int p1, .int ((0 : Int32) + p2)]) (rest := [])  ⟨hx, hb, hml, hown, hts⟩ (f_X5_of l E (a_ := a_now) (a_row := a_now_row) (a_partners := a_now_partners) (a_share := a_now_share) (a_leftOver := a_now_leftOver) (p1 := p1) (p2 := (0 : Int32) + p2) (c_askedCount := c_now_askedCount) (c_outcome := c_now_outcome) (c_row := c_now_row) hc_29) (cwV 2 hts g_f_X7_site_f_X5_of_140 rfl rfl rfl hd_X5_of ⟨Nat.le_of_ble_eq_true rfl, Nat.le_of_ble_eq_true rfl⟩) ⟨pP.blind, hrc, (pP.pre ⟨hK, hN⟩ hPc)⟩ rfl rfl hl.1 rfl (lv_room (Nat.le_of_ble_eq_true rfl)) (dq_182 144 bcX7_site_3 (j := 26) (i := 140) rfl rfl rfl) ⟨Nat.le_of_ble_eq_true rfl, Nat.le_of_ble_eq_true rfl⟩) ?_
        rw [hQ]
        obtain e9_0 := inj1 hF
        exact W.iret (v := r_28) hx hb hr (fun tt ht hW => ⟨_, rfl, e9_0, ht⟩) (fun _ h => by cases h) (dq_172 144 bcX7_site_3 (j := 29) rfl rfl)
      ·
        replace hF := inn c_6 hF
        cases hF

def nsT : String := "no such site, or nothing such to tell of it"
/-- site's start: cells, the text, the statics of Throwable, the words beside the good ones -/
def pS (E : EE) (W : va_W) (sa : Nat) (U : State) : Prop := kw E U ∧ va_P E.1 vwCl W U.heap ∧ vk_R RX7 125 nsT sa U ∧ vx_Zq Bundle.tN "UNASSIGNED_STACK" Bundle.steD (fun _ => False) U U.heap ∧ vx_Zq Bundle.tN "SUPPRESSED_SENTINEL" Bundle.listD (fun _ => False) U U.heap ∧ ∀ w ∈ nsB, va_Nw w U
theorem pS.blind {E : EE} {W : va_W} {sa : Nat} {av : List Value} : FrameBlind (va_Pc av (pS E W sa)) := fun _ U _ _ q => ⟨q.1, q.2.1.calling, q.2.2.1, vk_R.same (u := U) rfl q.2.2.2.1, q.2.2.2.2.1.moved (Vm.Alike.refl U.vm), q.2.2.2.2.2.1.moved (Vm.Alike.refl U.vm), fun w hw => nsB_same (u := U) (nsB_ok w hw) rfl (q.2.2.2.2.2.2 w hw)⟩
theorem pS.pre {E : EE} {W : va_W} {sa : Nat} {av : List Value} {s : State} {H : Heap} {A : Nat → Prop} {locs : List Loc} (hk : kw E s) (hP : va_P E.1 vwCl W H) (hstr : vk_R RX7 125 nsT sa s) (hS : va_S A s.heap H locs) (hU : vx_Zq Bundle.tN "UNASSIGNED_STACK" Bundle.steD A s s.heap) (hN : vx_Zq Bundle.tN "SUPPRESSED_SENTINEL" Bundle.listD A s s.heap) (hB : ∀ w ∈ nsB, va_Nw w s) : ∀ U : State, U.heap = H → s.WarmedH U.vm → va_Pc av (pS E W sa) av.toArray U := fun U hU1 hW => ⟨rfl, hk.warm hW, by rw [hU1]; exact hP, hstr.warm hW, by rw [hU1]; exact ((hU.kept hS.2.1).narrow (fun _ h => h.elim)).moved hW.alike, by rw [hU1]; exact ((hN.kept hS.2.1).narrow (fun _ h => h.elim)).moved hW.alike, fun w hw => nsB_warm (nsB_ok w hw) hW (hB w hw)⟩
def v_t1 : List Cond := .code yX7_site cX7_site 3 (some .int) :: ([.fieldLink RX7 35 "HushWatch" "now" "LHushWatch$State;", .classLink RX7 123 nsX, .initialized nsX, .methodLink RX7 120 yX5_hasSite, .instanceMethod yX5_hasSite, .selects RX5 yX5_hasSite yX5_hasSite, .initialized RX5] ++ (wsX70 ++ (v_f_X5_hasSite ++ [])))
def v_t_site : List Cond := v_t1 ++ nsG
theorem gw_t1 : v_t1.all goodWord = true := by decide +kernel
theorem in_t1 {w : Cond} (h : w ∈ v_t1) : w ∈ v_t_site := List.mem_append_left _ h
theorem i_t_X7 : ∀ w ∈ wsX70, w ∈ v_t_site := fun _ h => in_t1 (List.mem_cons_of_mem _ (List.mem_append_right _ (List.mem_append_left _ h)))
theorem g_t_has : GoodIn v_t_site (wsV RX7 120 RX5 yX5_hasSite v_f_X5_hasSite) := goodIn_app (fun w h => (fun q : w ∈ v_t1 ∧ _ => ⟨in_t1 q.1, q.2⟩) (goodIn_of (big := v_t1) _ (by decide +kernel) w h)) (goodIn_sub (fun _ h => in_t1 (List.mem_cons_of_mem _ (List.mem_append_right _ (List.mem_append_right _ (List.mem_append_left _ h))))) gw_f_X5_hasSite)
set_option maxHeartbeats 4000000 in
set_option maxRecDepth 100000 in
/-- HushWatch.site where it throws -/
theorem t_site (l : Launch) (hfl : l.stackTraces = false) (E : EE) {a_ a_tape a_reader a_scripts a_now a_trial a_kept a_book a_keptBook a_history a_draws a_refused a_now_row a_now_partners a_now_share a_now_leftOver : Nat} {c_hasImage : Int32} {c_now_askedCount : Int32} {c_now_outcome : Int32} {c_now_row : Nat → Int32} (sa : Nat) {p1 p2 h0 : Int32} (hh0 : F_X5_hasSite p1 c_now_row = some h0) (hT : h0 = 0 ∨ p2 < 0 ∨ ¬ p2 ≤ 13) : vx_Met l yX7_site v_t_site ({ frames := 6, cells := 1, slots := 6, locals := 82 }) (va_Pc [.ref a_, .int p1, .int p2] (pS E (w_X7_goes E a_ a_tape a_reader a_scripts a_now a_trial a_kept a_book a_keptBook a_history a_draws a_refused a_now_row a_now_partners a_now_share a_now_leftOver c_hasImage c_now_askedCount c_now_outcome c_now_row) sa)) (va_Qi (fun _ (_u : Unit) => False) (fun (_u : Unit) _ => True) (fun _ => False)) (vx_X (fun _u : Unit => True) (fun E9 (_u : Unit) _ => E9 = nsX) (fun _ => False)) 1 6 (fun _ => False) := by
  refine vx_ofW (cc := cX7_site) (maxL := 3) (ret := some .int) (by decide) rfl ?_
  intro p e s m args below meth c s₁ B hml hnox hv
  obtain ⟨rfl, ⟨hK, hN⟩, hP, hstr, hU9, hN9, hB9⟩ := hv
  have hx := B.exec
  have hb := B.bytes
  have hr := B.returns
  have hts := atoms_spec (ws := v_t_site) B.pre
  have hown : s.vm.findClass RX7 = some m.cls := findClass_of_methodNamed B.named
  have hlocks := B.notSynchronized
  have hP : va_P E.1 vwCl [k_X7 a_ a_tape a_reader a_scripts a_now a_trial a_kept a_book a_keptBook a_history a_draws a_refused c_hasImage, k_X5 a_now a_now_row a_now_partners c_now_askedCount c_now_outcome a_now_share a_now_leftOver, k_I E a_now_row 81 c_now_row] s.heap := hP
  have hl := lv_entry ([.ref a_, .int p1, .int p2]) (n := 3) (Nat.le_of_ble_eq_true rfl)
  rw [lg_entry_eq]
  generalize (lg_sl ([.ref a_, .int p1, .int p2]) ++ List.replicate (3 - (lg_sl ([.ref a_, .int p1, .int p2])).length) Slot.unset).toArray = ls at hl ⊢
  have hl : lv_has ls 3 [(0, .ref a_), (1, .int p1), (2, .int p2)] := hl
  refine lv_aload_n hx hb dX7_site_0 rfl (lv_at hl 0 rfl) ?_
  refine va_get (D := E.1) (ci := 8) (v := .ref a_now) (C := RX7) (T := TX7) (N := 12) hx hb hts i_t_X7 hown hK hP 0 rfl rfl 3 (by decide) (hts (.fieldLink RX7 35 "HushWatch" "now" "LHushWatch$State;") (in_t1 (List.mem_of_getElem? (i := 1) rfl))) (fun _ h9 => h9) rfl dX7_site_1 ?_
  refine lv_iload_n hx hb dX7_site_4 rfl (lv_at hl 1 rfl) ?_
  have hPc : va_P E.1 vwCl (w_X5_hasSite E a_now a_now_row a_now_partners a_now_share a_now_leftOver c_now_askedCount c_now_outcome c_now_row) s.heap := hP.sub (ws' := [k_X5 a_now a_now_row a_now_partners c_now_askedCount c_now_outcome a_now_share a_now_leftOver, k_I E a_now_row 81 c_now_row]) [1, 2] rfl
  refine pE_z (va_runV (As := [.int p1]) (rest := []) ⟨hx, hb, hml, hown, hts⟩ (f_X5_hasSite l E (a_ := a_now) (a_row := a_now_row) (a_partners := a_now_partners) (a_share := a_now_share) (a_leftOver := a_now_leftOver) (p1 := p1) (c_askedCount := c_now_askedCount) (c_outcome := c_now_outcome) (c_row := c_now_row) hh0) (cwV 1 hts g_t_has rfl rfl rfl (by decide +kernel) ⟨Nat.le_of_ble_eq_true rfl, Nat.le_of_ble_eq_true rfl⟩) ⟨pP.blind, va_recv hK hPc (ci := 6) (q0 := 0) rfl rfl, (pP.pre ⟨hK, hN⟩ hPc)⟩ rfl rfl hl.1 rfl (lv_room (Nat.le_of_ble_eq_true rfl)) dX7_site_5 ⟨Nat.le_of_ble_eq_true rfl, Nat.le_of_ble_eq_true rfl⟩) (fun hb1 => ?_)
  refine lv_if_eq (tgt := 21) hx hb dX7_site_8 (by decide) (fun _ => ?_) (fun q => ?_)
  · exact ns_throw (A := fun _ => False) (own := RX7) (text := nsT) (sa := sa) hx hb hfl hown (hts (.classLink RX7 123 nsX) (in_t1 (List.mem_of_getElem? (i := 2) rfl))) (hts (.initialized nsX) (in_t1 (List.mem_of_getElem? (i := 3) rfl))) hstr (vx_hat (fun w hw => hts w (List.mem_append_right _ hw)) nsG_rest (fun w hw => nsB_use (nsB_ok w hw) (hB9 w hw))) nsG_ot hU9 hN9 va_S.rf (by rw [hml]; exact hl.1) dX7_site_21 dX7_site_24 dX7_site_25 dX7_site_27 dX7_site_30 (fun x hx => (hnox x hx).elim) (Nat.le_of_ble_eq_true rfl) (Nat.le_of_ble_eq_true rfl) (Nat.le_of_ble_eq_true rfl) (Nat.le_of_ble_eq_true rfl) hlocks (fun t hal hz hq => ⟨(), trivial, rfl, hz, fun q h1 _ => hq q h1⟩) (fun z hz => nomatch hz) (Nat.le_refl _) (Nat.le_refl _)
  refine lv_iload_n hx hb dX7_site_11 rfl (lv_at hl 2 rfl) ?_
  refine lv_if_lt (tgt := 21) hx hb dX7_site_12 (by decide) (fun _ => ?_) (fun q2 => ?_)
  · exact ns_throw (A := fun _ => False) (own := RX7) (text := nsT) (sa := sa) hx hb hfl hown (hts (.classLink RX7 123 nsX) (in_t1 (List.mem_of_getElem? (i := 2) rfl))) (hts (.initialized nsX) (in_t1 (List.mem_of_getElem? (i := 3) rfl))) hstr (vx_hat (fun w hw => hts w (List.mem_append_right _ hw)) nsG_rest (fun w hw => nsB_use (nsB_ok w hw) (hB9 w hw))) nsG_ot hU9 hN9 va_S.rf (by rw [hml]; exact hl.1) dX7_site_21 dX7_site_24 dX7_site_25 dX7_site_27 dX7_site_30 (fun x hx => (hnox x hx).elim) (Nat.le_of_ble_eq_true rfl) (Nat.le_of_ble_eq_true rfl) (Nat.le_of_ble_eq_true rfl) (Nat.le_of_ble_eq_true rfl) hlocks (fun t hal hz hq => ⟨(), trivial, rfl, hz, fun q h1 _ => hq q h1⟩) (fun z hz => nomatch hz) (Nat.le_refl _) (Nat.le_refl _)
  refine lv_iload_n hx hb dX7_site_15 rfl (lv_at hl 2 rfl) ?_
  refine lv_bipush (v := 13) hx hb dX7_site_16 (by decide) ?_
  refine lv_icmp_le (tgt := 31) hx hb dX7_site_18 (by decide) (fun q3 => ?_) (fun _ => ?_)
  · exfalso
    rcases hT with z | z | z
    · exact q z
    · exact q2 z
    · exact z q3
  · exact ns_throw (A := fun _ => False) (own := RX7) (text := nsT) (sa := sa) hx hb hfl hown (hts (.classLink RX7 123 nsX) (in_t1 (List.mem_of_getElem? (i := 2) rfl))) (hts (.initialized nsX) (in_t1 (List.mem_of_getElem? (i := 3) rfl))) hstr (vx_hat (fun w hw => hts w (List.mem_append_right _ hw)) nsG_rest (fun w hw => nsB_use (nsB_ok w hw) (hB9 w hw))) nsG_ot hU9 hN9 va_S.rf (by rw [hml]; exact hl.1) dX7_site_21 dX7_site_24 dX7_site_25 dX7_site_27 dX7_site_30 (fun x hx => (hnox x hx).elim) (Nat.le_of_ble_eq_true rfl) (Nat.le_of_ble_eq_true rfl) (Nat.le_of_ble_eq_true rfl) (Nat.le_of_ble_eq_true rfl) hlocks (fun t hal hz hq => ⟨(), trivial, rfl, hz, fun q h1 _ => hq q h1⟩) (fun z hz => nomatch hz) (Nat.le_refl _) (Nat.le_refl _)
def v_m_site : List Cond := .codeWith yL_site cL_site 5 (some .int) [(0, 10, 13, 13)] :: ([.methodLink RL 7 yX7_site, .instanceMethod yX7_site, .selects RX7 yX7_site yX7_site, .initialized RX7, .classLink RL 13 nsX] ++ (v_t_site ++ []))
theorem g_m_t : GoodIn v_m_site (wsV RL 7 RX7 yX7_site v_t_site) := goodIn_app (goodIn_of _ (by decide +kernel)) (goodIn_app (goodIn_sub (fun _ h => List.mem_cons_of_mem _ (List.mem_append_right _ (List.mem_append_left _ (List.mem_append_left _ h)))) gw_t1) (goodIn_sub (fun _ h => List.mem_cons_of_mem _ (List.mem_append_right _ (List.mem_append_left _ (List.mem_append_right _ h)))) nsG_good))
set_option maxHeartbeats 4000000 in
set_option maxRecDepth 100000 in
/-- the law's own site where the class throws: it answers 1, nothing old is changed -/
theorem m_site0 (l : Launch) (hfl : l.stackTraces = false) (E : EE) {a_ a_tape a_reader a_scripts a_now a_trial a_kept a_book a_keptBook a_history a_draws a_refused a_now_row a_now_partners a_now_share a_now_leftOver : Nat} {c_hasImage : Int32} {c_now_askedCount : Int32} {c_now_outcome : Int32} {c_now_row : Nat → Int32} (ao sa : Nat) {p1 p2 h0 : Int32} (hh0 : F_X5_hasSite p1 c_now_row = some h0) (hT : h0 = 0 ∨ p2 < 0 ∨ ¬ p2 ≤ 13) : vx_Met l yL_site v_m_site ({ frames := 7, cells := 1, slots := 6, locals := 104 }) (va_Pc [.ref a_, .int p1, .int p2, .ref ao] (pS E (w_X7_goes E a_ a_tape a_reader a_scripts a_now a_trial a_kept a_book a_keptBook a_history a_draws a_refused a_now_row a_now_partners a_now_share a_now_leftOver c_hasImage c_now_askedCount c_now_outcome c_now_row) sa)) (va_Qi (fun r (_u : Unit) => r = 1) (fun (_u : Unit) _ => True) (fun _ => False)) (fun _ _ _ => False) 1 6 (fun _ => False) := by
  refine vx_ofWH (cc := cL_site) (maxL := 5) (ret := some .int) (hh := [(0, 10, 13, 13)]) (by decide) rfl ?_
  intro p e s m args below meth c s₁ B hml hv
  obtain ⟨rfl, ⟨hK, hN⟩, hP, hstr, hU9, hN9, hB9⟩ := hv
  have hx := B.exec
  have hb := B.bytes
  have hr := B.returns
  have hts := atoms_spec (ws := v_m_site) B.pre
  have hown : s.vm.findClass RL = some m.cls := findClass_of_methodNamed B.named
  have hlocks := B.notSynchronized
  have htab : c.exceptionTable.toList = tableOf [(0, 10, 13, 13)] := vx_table (x := yL_site) B (hts _ List.mem_cons_self)
  have hS : va_S (fun _ : Nat => False) s.heap s.heap [] := va_S.rf
  have hl := lv_entry ([.ref a_, .int p1, .int p2, .ref ao]) (n := 5) (Nat.le_of_ble_eq_true rfl)
  rw [lg_entry_eq]
  generalize (lg_sl ([.ref a_, .int p1, .int p2, .ref ao]) ++ List.replicate (5 - (lg_sl ([.ref a_, .int p1, .int p2, .ref ao])).length) Slot.unset).toArray = ls at hl ⊢
  have hl : lv_has ls 5 [(0, .ref a_), (1, .int p1), (2, .int p2), (3, .ref ao)] := hl
  refine lv_aload_n hx hb dL_site_0 rfl (lv_at hl 3 rfl) ?_
  refine lv_iconst (v := 0) hx hb dL_site_1 (by decide) ?_
  refine lv_aload_n hx hb dL_site_2 rfl (lv_at hl 0 rfl) ?_
  refine lv_iload_n hx hb dL_site_3 rfl (lv_at hl 1 rfl) ?_
  refine lv_iload_n hx hb dL_site_4 rfl (lv_at hl 2 rfl) ?_
  refine vx_calli (vx_runV (As := [.int p1, .int p2]) (rest := [.int 0, .ref ao]) ⟨hx, hb, hml, hown, hts⟩ (t_site l hfl E (a_ := a_) (a_tape := a_tape) (a_reader := a_reader) (a_scripts := a_scripts) (a_now := a_now) (a_trial := a_trial) (a_kept := a_kept) (a_book := a_book) (a_keptBook := a_keptBook) (a_history := a_history) (a_draws := a_draws) (a_refused := a_refused) (a_now_row := a_now_row) (a_now_partners := a_now_partners) (a_now_share := a_now_share) (a_now_leftOver := a_now_leftOver) (c_hasImage := c_hasImage) (c_now_askedCount := c_now_askedCount) (c_now_outcome := c_now_outcome) (c_now_row := c_now_row) sa hh0 hT) (cwV 2 hts g_m_t rfl rfl rfl (by decide +kernel) ⟨Nat.le_of_ble_eq_true rfl, Nat.le_of_ble_eq_true rfl⟩) ⟨pS.blind, va_recv hK hP (ci := 8) (q0 := 0) rfl rfl, pS.pre ⟨hK, hN⟩ hP hstr hS hU9 hN9 hB9⟩ rfl rfl hl.1 rfl (lv_room (Nat.le_of_ble_eq_true rfl)) dL_site_5 ⟨Nat.le_of_ble_eq_true rfl, Nat.le_of_ble_eq_true rfl⟩) hS (fun _ _ h => h) (fun _ h => h) (fun _ _ h => h) (fun E9 ce q9 u tt H1 locs1 ht hvm hpx hBX hz hk1 hS1 hcell hcv hcl => ?_) (fun r u tt H1 locs1 ht hvm hw hB hz hk1 hS1 => hw.elim)
  have hBX : E9 = nsX := hBX
  subst hBX
  refine vx_catch (own := RL) (name := nsX) (E := nsX) hown [] ⟨0, 10, 13, 13⟩ [] (by rw [htab]; rfl) (fun z hz => nomatch hz) (by decide) (by decide) (hts (.classLink RL 13 nsX) (List.mem_of_getElem? (i := 5) rfl)) (nsB_use (nsB_ok _ (List.mem_of_getElem? (i := 0) rfl)) (hB9 _ (List.mem_of_getElem? (i := 0) rfl))) hcell hcv hcl ?_
  refine W.eq (g2 := F0 m 13 ls [.ref q9]) rfl ?_
  refine lv_astore (lv' := [(4, .ref q9), (0, .ref a_), (1, .int p1), (2, .int p2), (3, .ref ao)]) hx hb dL_site_13 hl (by decide) rfl (fun ls hl => ?_)
  refine lv_iconst (v := 1) hx hb dL_site_15 (by decide) ?_
  refine W.widen (k := 1) (n := 6) (Nat.le_of_ble_eq_true rfl) (Nat.le_of_ble_eq_true rfl) ?_
  exact vx_ret (W.iret (v := 1) hx hb hr (fun tt ht hW => ⟨⟨1, (), rfl, rfl, trivial⟩, hS1.F ht⟩) hS1.2.2 dL_site_16)
theorem m_site (l : Launch) (hfl : l.stackTraces = false) (E : EE) {a_ a_tape a_reader a_scripts a_now a_trial a_kept a_book a_keptBook a_history a_draws a_refused a_now_row a_now_partners a_now_share a_now_leftOver : Nat} {c_hasImage : Int32} {c_now_askedCount : Int32} {c_now_outcome : Int32} {c_now_row : Nat → Int32} (ao sa : Nat) {p1 p2 h0 : Int32} (hh0 : F_X5_hasSite p1 c_now_row = some h0) (hT : h0 = 0 ∨ p2 < 0 ∨ ¬ p2 ≤ 13) : Met l yL_site v_m_site ({ frames := 7, cells := 1, slots := 6, locals := 104 }) (va_Pc [.ref a_, .int p1, .int p2, .ref ao] (pS E (w_X7_goes E a_ a_tape a_reader a_scripts a_now a_trial a_kept a_book a_keptBook a_history a_draws a_refused a_now_row a_now_partners a_now_share a_now_leftOver c_hasImage c_now_askedCount c_now_outcome c_now_row) sa)) (va_Qi (fun r (_u : Unit) => r = 1) (fun (_u : Unit) _ => True) (fun _ => False)) 1 6 (fun _ => False) :=
  MetFree.mono (m_site0 l hfl E (a_ := a_) (a_tape := a_tape) (a_reader := a_reader) (a_scripts := a_scripts) (a_now := a_now) (a_trial := a_trial) (a_kept := a_kept) (a_book := a_book) (a_keptBook := a_keptBook) (a_history := a_history) (a_draws := a_draws) (a_refused := a_refused) (a_now_row := a_now_row) (a_now_partners := a_now_partners) (a_now_share := a_now_share) (a_now_leftOver := a_now_leftOver) (c_hasImage := c_hasImage) (c_now_askedCount := c_now_askedCount) (c_now_outcome := c_now_outcome) (c_now_row := c_now_row) ao sa hh0 hT) (fun _ _ h => h) (fun _ _ _ _ _ _ => trivial) (fun a st oc t _ h => by
    rcases h with h | ⟨q, -, E9, ce, L, hX, -⟩
    · exact h
    · exact hX.elim)
def v_n_site : List Cond := .codeWith yL_site cL_site 5 (some .int) [(0, 10, 13, 13)] :: ([.methodLink RL 7 yX7_site, .instanceMethod yX7_site, .selects RX7 yX7_site yX7_site, .initialized RX7] ++ (v_f_X7_site ++ []))
theorem g_n_t : GoodIn v_n_site (wsV RL 7 RX7 yX7_site v_f_X7_site) := goodIn_app (goodIn_of _ (by decide +kernel)) (goodIn_sub (fun _ h => List.mem_cons_of_mem _ (List.mem_append_right _ (List.mem_append_left _ h))) gw_f_X7_site)
set_option maxHeartbeats 4000000 in
set_option maxRecDepth 100000 in
/-- the law's own site where the class answers -/
theorem n_site0 (l : Launch) (E : EE) (sz : Nat) {a_ a_tape a_reader a_scripts a_now a_trial a_kept a_book a_keptBook a_history a_draws a_refused a_now_row a_now_partners a_now_share a_now_leftOver : Nat} {c_hasImage : Int32} {c_now_askedCount : Int32} {c_now_outcome : Int32} {c_now_row : Nat → Int32} {ao : Nat} {fo : Nat → Int64} {p1 p2 rr : Int32} (hF : F_X7_site p1 p2 c_now_row = some rr) : vx_Met l yL_site v_n_site ({ frames := 4, cells := 0, slots := 0, locals := 93 } : Room) (va_Pc [.ref a_, .int p1, .int p2, .ref ao] (pW E sz ((w_X7_goes E a_ a_tape a_reader a_scripts a_now a_trial a_kept a_book a_keptBook a_history a_draws a_refused a_now_row a_now_partners a_now_share a_now_leftOver c_hasImage c_now_askedCount c_now_outcome c_now_row) ++ [(ao, .inl (E.2.2.2, 1, .inr (.inl fo)))]))) (va_Qi (fun r9 (u9 : Nat → Int64) => r9 = 0 ∧ u9 = vp_updL fo 0 rr.toInt64) (fun (u : Nat → Int64) tt => va_P E.1 vwCl ((w_X7_goes E a_ a_tape a_reader a_scripts a_now a_trial a_kept a_book a_keptBook a_history a_draws a_refused a_now_row a_now_partners a_now_share a_now_leftOver c_hasImage c_now_askedCount c_now_outcome c_now_row) ++ [(ao, .inl (E.2.2.2, 1, .inr (.inl u)))]) tt.heap ∧ va_D (va_A ((w_X7_goes E a_ a_tape a_reader a_scripts a_now a_trial a_kept a_book a_keptBook a_history a_draws a_refused a_now_row a_now_partners a_now_share a_now_leftOver c_hasImage c_now_askedCount c_now_outcome c_now_row) ++ [(ao, .inl (E.2.2.2, 1, .inr (.inl fo)))]) sz) ((w_X7_goes E a_ a_tape a_reader a_scripts a_now a_trial a_kept a_book a_keptBook a_history a_draws a_refused a_now_row a_now_partners a_now_share a_now_leftOver c_hasImage c_now_askedCount c_now_outcome c_now_row) ++ [(ao, .inl (E.2.2.2, 1, .inr (.inl u)))])) (va_A ((w_X7_goes E a_ a_tape a_reader a_scripts a_now a_trial a_kept a_book a_keptBook a_history a_draws a_refused a_now_row a_now_partners a_now_share a_now_leftOver c_hasImage c_now_askedCount c_now_outcome c_now_row) ++ [(ao, .inl (E.2.2.2, 1, .inr (.inl fo)))]) sz)) (fun _ _ _ => False) 0 0 (va_A ((w_X7_goes E a_ a_tape a_reader a_scripts a_now a_trial a_kept a_book a_keptBook a_history a_draws a_refused a_now_row a_now_partners a_now_share a_now_leftOver c_hasImage c_now_askedCount c_now_outcome c_now_row) ++ [(ao, .inl (E.2.2.2, 1, .inr (.inl fo)))]) sz) := by
  refine vx_ofWH (cc := cL_site) (maxL := 5) (ret := some .int) (hh := [(0, 10, 13, 13)]) (by decide) rfl ?_
  intro p e s m args below meth c s₁ B hml hv
  obtain ⟨rfl, hsz, ⟨hK, hN⟩, hP, hD0⟩ := hv
  have hx := B.exec
  have hb := B.bytes
  have hr := B.returns
  have hts := atoms_spec (ws := v_n_site) B.pre
  have hown : s.vm.findClass RL = some m.cls := findClass_of_methodNamed B.named
  have hlocks := B.notSynchronized
  subst hsz
  have hD := hD0.self (sz := s.heap.size)
  generalize hAe : va_A ((w_X7_goes E a_ a_tape a_reader a_scripts a_now a_trial a_kept a_book a_keptBook a_history a_draws a_refused a_now_row a_now_partners a_now_share a_now_leftOver c_hasImage c_now_askedCount c_now_outcome c_now_row) ++ [(ao, .inl (E.2.2.2, 1, .inr (.inl fo)))]) s.heap.size = A at hD ⊢
  have hA : ∀ q : Nat, s.heap.size ≤ q → A q := fun q h => by rw [← hAe]; exact Or.inr h
  have hS : va_S A s.heap s.heap [] := va_S.rf
  have hP : va_P E.1 vwCl [k_X7 a_ a_tape a_reader a_scripts a_now a_trial a_kept a_book a_keptBook a_history a_draws a_refused c_hasImage, k_X5 a_now a_now_row a_now_partners c_now_askedCount c_now_outcome a_now_share a_now_leftOver, k_I E a_now_row 81 c_now_row, (ao, .inl (E.2.2.2, 1, .inr (.inl fo)))] s.heap := hP
  have hD : va_D A [k_X7 a_ a_tape a_reader a_scripts a_now a_trial a_kept a_book a_keptBook a_history a_draws a_refused c_hasImage, k_X5 a_now a_now_row a_now_partners c_now_askedCount c_now_outcome a_now_share a_now_leftOver, k_I E a_now_row 81 c_now_row, (ao, .inl (E.2.2.2, 1, .inr (.inl fo)))] := hD
  have hl := lv_entry ([.ref a_, .int p1, .int p2, .ref ao]) (n := 5) (Nat.le_of_ble_eq_true rfl)
  rw [lg_entry_eq]
  generalize (lg_sl ([.ref a_, .int p1, .int p2, .ref ao]) ++ List.replicate (5 - (lg_sl ([.ref a_, .int p1, .int p2, .ref ao])).length) Slot.unset).toArray = ls at hl ⊢
  have hl : lv_has ls 5 [(0, .ref a_), (1, .int p1), (2, .int p2), (3, .ref ao)] := hl
  refine lv_aload_n hx hb dL_site_0 rfl (lv_at hl 3 rfl) ?_
  refine lv_iconst (v := 0) hx hb dL_site_1 (by decide) ?_
  refine lv_aload_n hx hb dL_site_2 rfl (lv_at hl 0 rfl) ?_
  refine lv_iload_n hx hb dL_site_3 rfl (lv_at hl 1 rfl) ?_
  refine lv_iload_n hx hb dL_site_4 rfl (lv_at hl 2 rfl) ?_
  have hPc : va_P E.1 vwCl (w_X7_site E a_ a_tape a_reader a_scripts a_now a_trial a_kept a_book a_keptBook a_history a_draws a_refused a_now_row a_now_partners a_now_share a_now_leftOver c_hasImage c_now_askedCount c_now_outcome c_now_row) s.heap := hP.sub (ws' := [k_X7 a_ a_tape a_reader a_scripts a_now a_trial a_kept a_book a_keptBook a_history a_draws a_refused c_hasImage, k_X5 a_now a_now_row a_now_partners c_now_askedCount c_now_outcome a_now_share a_now_leftOver, k_I E a_now_row 81 c_now_row]) [0, 1, 2] rfl
  refine pE_i (va_runV (As := [.int p1, .int p2]) (rest := [.int 0, .ref ao]) ⟨hx, hb, hml, hown, hts⟩ (f_X7_site l E (a_ := a_) (a_tape := a_tape) (a_reader := a_reader) (a_scripts := a_scripts) (a_now := a_now) (a_trial := a_trial) (a_kept := a_kept) (a_book := a_book) (a_keptBook := a_keptBook) (a_history := a_history) (a_draws := a_draws) (a_refused := a_refused) (a_now_row := a_now_row) (a_now_partners := a_now_partners) (a_now_share := a_now_share) (a_now_leftOver := a_now_leftOver) (c_hasImage := c_hasImage) (c_now_askedCount := c_now_askedCount) (c_now_outcome := c_now_outcome) (c_now_row := c_now_row) hF) (cwV 2 hts g_n_t rfl rfl rfl (by decide +kernel) ⟨Nat.le_of_ble_eq_true rfl, Nat.le_of_ble_eq_true rfl⟩) ⟨pP.blind, va_recv hK hPc (ci := 8) (q0 := 0) rfl rfl, pP.pre ⟨hK, hN⟩ hPc⟩ rfl rfl hl.1 rfl (lv_room (Nat.le_of_ble_eq_true rfl)) dL_site_5 ⟨Nat.le_of_ble_eq_true rfl, Nat.le_of_ble_eq_true rfl⟩) ?_
  refine lv_i2l (v := rr.toInt64) hx hb dL_site_8 rfl ?_
  refine va_last hx hb hK hP hD hS 3 2 rfl rfl (vin rfl) dL_site_9 (fun H locs hP hD hS => ?_)
  have h9 := fixPD (ws' := [k_X7 a_ a_tape a_reader a_scripts a_now a_trial a_kept a_book a_keptBook a_history a_draws a_refused c_hasImage, k_X5 a_now a_now_row a_now_partners c_now_askedCount c_now_outcome a_now_share a_now_leftOver, k_I E a_now_row 81 c_now_row, (ao, .inl (E.2.2.2, 1, .inr (.inl (vp_updL fo 0 rr.toInt64))))]) hP hD rfl
  clear hP hD
  obtain ⟨hP, hD⟩ := h9
  refine lv_goto (tgt := 17) hx hb dL_site_10 (by decide) ?_
  refine lv_iconst (v := 0) hx hb dL_site_17 (by decide) ?_
  exact vx_ret (W.iret (v := 0) hx hb hr (fun tt ht hW => ⟨⟨0, vp_updL fo 0 rr.toInt64, rfl, ⟨rfl, rfl⟩, by rw [ht]; exact hP, hD⟩, hS.F ht⟩) hS.2.2 dL_site_18)
theorem n_site (l : Launch) (E : EE) (sz : Nat) {a_ a_tape a_reader a_scripts a_now a_trial a_kept a_book a_keptBook a_history a_draws a_refused a_now_row a_now_partners a_now_share a_now_leftOver : Nat} {c_hasImage : Int32} {c_now_askedCount : Int32} {c_now_outcome : Int32} {c_now_row : Nat → Int32} {ao : Nat} {fo : Nat → Int64} {p1 p2 rr : Int32} (hF : F_X7_site p1 p2 c_now_row = some rr) : Met l yL_site v_n_site ({ frames := 4, cells := 0, slots := 0, locals := 93 } : Room) (va_Pc [.ref a_, .int p1, .int p2, .ref ao] (pW E sz ((w_X7_goes E a_ a_tape a_reader a_scripts a_now a_trial a_kept a_book a_keptBook a_history a_draws a_refused a_now_row a_now_partners a_now_share a_now_leftOver c_hasImage c_now_askedCount c_now_outcome c_now_row) ++ [(ao, .inl (E.2.2.2, 1, .inr (.inl fo)))]))) (va_Qi (fun r9 (u9 : Nat → Int64) => r9 = 0 ∧ u9 = vp_updL fo 0 rr.toInt64) (fun (u : Nat → Int64) tt => va_P E.1 vwCl ((w_X7_goes E a_ a_tape a_reader a_scripts a_now a_trial a_kept a_book a_keptBook a_history a_draws a_refused a_now_row a_now_partners a_now_share a_now_leftOver c_hasImage c_now_askedCount c_now_outcome c_now_row) ++ [(ao, .inl (E.2.2.2, 1, .inr (.inl u)))]) tt.heap ∧ va_D (va_A ((w_X7_goes E a_ a_tape a_reader a_scripts a_now a_trial a_kept a_book a_keptBook a_history a_draws a_refused a_now_row a_now_partners a_now_share a_now_leftOver c_hasImage c_now_askedCount c_now_outcome c_now_row) ++ [(ao, .inl (E.2.2.2, 1, .inr (.inl fo)))]) sz) ((w_X7_goes E a_ a_tape a_reader a_scripts a_now a_trial a_kept a_book a_keptBook a_history a_draws a_refused a_now_row a_now_partners a_now_share a_now_leftOver c_hasImage c_now_askedCount c_now_outcome c_now_row) ++ [(ao, .inl (E.2.2.2, 1, .inr (.inl u)))])) (va_A ((w_X7_goes E a_ a_tape a_reader a_scripts a_now a_trial a_kept a_book a_keptBook a_history a_draws a_refused a_now_row a_now_partners a_now_share a_now_leftOver c_hasImage c_now_askedCount c_now_outcome c_now_row) ++ [(ao, .inl (E.2.2.2, 1, .inr (.inl fo)))]) sz)) 0 0 (va_A ((w_X7_goes E a_ a_tape a_reader a_scripts a_now a_trial a_kept a_book a_keptBook a_history a_draws a_refused a_now_row a_now_partners a_now_share a_now_leftOver c_hasImage c_now_askedCount c_now_outcome c_now_row) ++ [(ao, .inl (E.2.2.2, 1, .inr (.inl fo)))]) sz) :=
  MetFree.mono (n_site0 l E sz (a_ := a_) (a_tape := a_tape) (a_reader := a_reader) (a_scripts := a_scripts) (a_now := a_now) (a_trial := a_trial) (a_kept := a_kept) (a_book := a_book) (a_keptBook := a_keptBook) (a_history := a_history) (a_draws := a_draws) (a_refused := a_refused) (a_now_row := a_now_row) (a_now_partners := a_now_partners) (a_now_share := a_now_share) (a_now_leftOver := a_now_leftOver) (c_hasImage := c_hasImage) (c_now_askedCount := c_now_askedCount) (c_now_outcome := c_now_outcome) (c_now_row := c_now_row) hF) (fun _ _ h => h) (fun _ _ _ _ _ _ => trivial) (fun a st oc t _ h => by
    rcases h with h | ⟨q, -, E9, ce, L, hX, -⟩
    · exact h
    · exact hX.elim)
theorem site_or {p1 p2 : Int32} {f : Nat → Int32} : (∃ r, F_X7_site p1 p2 f = some r) ∨ ∃ h0, F_X5_hasSite p1 f = some h0 ∧ (h0 = 0 ∨ p2 < 0 ∨ ¬ p2 ≤ 13) := by
  obtain ⟨h0, e, -⟩ := hs_ok (p1 := p1) (f := f)
  by_cases q : h0 = 0 ∨ p2 < 0 ∨ ¬ p2 ≤ 13
  · exact Or.inr ⟨h0, e, q⟩
  · have q1 : ¬ h0 = 0 := fun z => q (Or.inl z)
    have q2 : ¬ p2 < 0 := fun z => q (Or.inr (Or.inl z))
    have q3 : p2 ≤ 13 := Classical.byContradiction (fun z => q (Or.inr (Or.inr z)))
    have h : Tt (F_X7_site p1 p2 f) (fun _ => True) := by
      unfold F_X7_site
      rw [e, xb1, if_neg q1, if_neg q2, if_pos q3]
      refine tt_ite (fun _ => tt_bd1 t_drift (fun _ _ => tt_some trivial)) (fun _ => tt_ite (fun _ => tt_bd1 t_drift (fun _ _ => tt_some trivial)) (fun _ => tt_ite (fun _ => tt_bd1 t_point (fun _ _ => tt_some trivial)) (fun _ => tt_ite (fun _ => tt_bd1 t_point (fun _ _ => tt_some trivial)) (fun _ => tt_ite (fun _ => tt_bd1 t_isQuiet (fun _ _ => tt_ite (fun _ => tt_some trivial) (fun _ => tt_some trivial))) (fun _ => tt_ite (fun _ => tt_bd1 t_of (fun _ _ => tt_some trivial)) (fun _ => tt_ite (fun _ => tt_bd1 t_of (fun _ _ => tt_some trivial)) (fun _ => tt_ite (fun _ => tt_bd1 t_isFrozen (fun _ _ => tt_ite (fun _ => tt_some trivial) (fun _ => tt_some trivial))) (fun _ => tt_bd1 t_of (fun _ _ => tt_some trivial)))))))))
    obtain ⟨r, hr, -⟩ := h
    exact Or.inl ⟨r, hr⟩
