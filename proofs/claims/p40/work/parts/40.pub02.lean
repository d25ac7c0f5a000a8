noncomputable def blX7_fair_0 : List Nat := [42, 180, 0, 35, 182, 0, 110, 153, 0, 12, 27, 155, 0, 8, 27, 4, 164, 0, 5, 2, 172, 3, 61, 4, 62, 29, 42, 180, 0, 35, 182, 0, 117, 162, 0, 78, 27, 154, 0, 35, 42, 180, 0, 35, 29, 3, 3, 182, 0, 254, 42]
set_option maxRecDepth 100000 in
theorem bcX7_fair_0 : ((cX7_fair.data.toList.drop 0).take blX7_fair_0.length).map UInt8.toNat = blX7_fair_0 := by decide +kernel
noncomputable def blX7_fair_1 : List Nat := [0, 254, 42, 180, 0, 35, 28, 3, 3, 182, 0, 254, 148, 158, 0, 7, 4, 167, 0, 31, 3, 167, 0, 27, 42, 180, 0, 35, 29, 182, 1, 6, 42, 180, 0, 35, 28, 182, 1, 6, 164, 0, 7, 4, 167, 0, 4, 3, 54, 4, 21]
set_option maxRecDepth 100000 in
theorem bcX7_fair_1 : ((cX7_fair.data.toList.drop 48).take blX7_fair_1.length).map UInt8.toNat = blX7_fair_1 := by decide +kernel
noncomputable def blX7_fair_2 : List Nat := [54, 4, 21, 4, 153, 0, 5, 29, 61, 132, 3, 1, 167, 255, 173, 28, 172]
set_option maxRecDepth 100000 in
theorem bcX7_fair_2 : ((cX7_fair.data.toList.drop 96).take blX7_fair_2.length).map UInt8.toNat = blX7_fair_2 := by decide +kernel
noncomputable def blX7_fault_0 : List Nat := [27, 154, 0, 11, 42, 180, 0, 21, 182, 0, 93, 172, 27, 4, 160, 0, 13, 42, 180, 0, 21, 182, 0, 97, 167, 0, 5, 16, 254, 172]
set_option maxRecDepth 100000 in
theorem bcX7_fault_0 : ((cX7_fault.data.toList.drop 0).take blX7_fault_0.length).map UInt8.toNat = blX7_fault_0 := by decide +kernel
noncomputable def blX7_feed_0 : List Nat := [27, 184, 0, 77, 28, 184, 0, 77, 96, 29, 184, 0, 77, 96, 21, 4, 184, 0, 77, 96, 21, 5, 184, 0, 77, 96, 54, 6, 42, 180, 0, 10, 180, 0, 81, 21, 6, 96, 17, 1, 64, 164, 0, 5, 2, 172, 42, 180, 0, 10, 27]
set_option maxRecDepth 100000 in
theorem bcX7_feed_0 : ((cX7_feed.data.toList.drop 0).take blX7_feed_0.length).map UInt8.toNat = blX7_feed_0 := by decide +kernel
noncomputable def blX7_feed_1 : List Nat := [0, 10, 27, 182, 0, 85, 42, 180, 0, 10, 28, 182, 0, 85, 42, 180, 0, 10, 29, 182, 0, 85, 42, 180, 0, 10, 21, 4, 182, 0, 85, 42, 180, 0, 10, 21, 5, 182, 0, 85, 42, 180, 0, 10, 180, 0, 81, 172]
set_option maxRecDepth 100000 in
theorem bcX7_feed_1 : ((cX7_feed.data.toList.drop 48).take blX7_feed_1.length).map UInt8.toNat = blX7_feed_1 := by decide +kernel
noncomputable def blX7_freeze_0 : List Nat := [42, 16, 6, 27, 3, 3, 4, 182, 0, 163, 156, 0, 5, 2, 172, 42, 180, 0, 35, 27, 182, 0, 143, 153, 0, 7, 4, 167, 0, 4, 3, 172]
set_option maxRecDepth 100000 in
theorem bcX7_freeze_0 : ((cX7_freeze.data.toList.drop 0).take blX7_freeze_0.length).map UInt8.toNat = blX7_freeze_0 := by decide +kernel
noncomputable def blX7_goal_0 : List Nat := [42, 180, 0, 35, 180, 0, 114, 5, 46, 61, 42, 8, 27, 3, 3, 4, 182, 0, 163, 156, 0, 7, 2, 167, 0, 4, 28, 172]
set_option maxRecDepth 100000 in
theorem bcX7_goal_0 : ((cX7_goal.data.toList.drop 0).take blX7_goal_0.length).map UInt8.toNat = blX7_goal_0 := by decide +kernel
noncomputable def blX7_goes_0 : List Nat := [42, 180, 0, 35, 27, 182, 0, 120, 153, 0, 22, 28, 155, 0, 18, 28, 4, 163, 0, 13, 42, 180, 0, 35, 182, 0, 170, 153, 0, 5, 2, 172, 42, 180, 0, 35, 27, 28, 4, 160, 0, 7, 4, 167, 0, 4, 3, 182, 1, 2, 172]
set_option maxRecDepth 100000 in
theorem bcX7_goes_0 : ((cX7_goes.data.toList.drop 0).take blX7_goes_0.length).map UInt8.toNat = blX7_goes_0 := by decide +kernel
noncomputable def blX7_goes_1 : List Nat := [1, 2, 172]
set_option maxRecDepth 100000 in
theorem bcX7_goes_1 : ((cX7_goes.data.toList.drop 48).take blX7_goes_1.length).map UInt8.toNat = blX7_goes_1 := by decide +kernel
noncomputable def blX7_loggedActs_0 : List Nat := [42, 180, 0, 35, 180, 0, 114, 16, 16, 46, 16, 60, 184, 1, 71, 172]
set_option maxRecDepth 100000 in
theorem bcX7_loggedActs_0 : ((cX7_loggedActs.data.toList.drop 0).take blX7_loggedActs_0.length).map UInt8.toNat = blX7_loggedActs_0 := by decide +kernel

def B_X7_fair_25 (p1 : Int32) (c_now_row : Nat → Int32) (x2 : Int32) (x3 : Int32) : Option ((Int32 × Int32) ⊕ (Int32)) :=
  bd1 (F_X5_sites c_now_row) (fun r_7 => if r_7 ≤ x3 then some (.inr x2) else if p1 = (0 : Int32) then bd1 (F_X5_pointValue x3 (0 : Int32) (0 : Int32) c_now_row) (fun r_16 => bd1 (F_X5_pointValue x2 (0 : Int32) (0 : Int32) c_now_row) (fun r_18 => if lg_cmp r_16 r_18 ≤ (0 : Int32) then some (.inl (x2, x3 + (1 : Int32))) else some (.inl (x3, x3 + (1 : Int32))))) else bd1 (F_X5_slackLength x3 c_now_row) (fun r_11 => bd1 (F_X5_slackLength x2 c_now_row) (fun r_13 => if r_11 ≤ r_13 then some (.inl (x2, x3 + (1 : Int32))) else some (.inl (x3, x3 + (1 : Int32))))))
def F_X7_fair (K : Nat) (p1 : Int32) (c_now_row : Nat → Int32) : Option (Int32) :=
  bd1 (F_X5_stands c_now_row) (fun r_1 => if r_1 = (0 : Int32) then some (-1 : Int32) else if p1 < (0 : Int32) then some (-1 : Int32) else if p1 ≤ (1 : Int32) then bd1 (lpF (fun u9 : Int32 × Int32 => B_X7_fair_25 p1 c_now_row u9.1 u9.2) K ((0 : Int32), (1 : Int32))) (fun x2_21 => some x2_21) else some (-1 : Int32))
abbrev w_X7_fair (E : EE) (a_ a_tape a_reader a_scripts a_now a_trial a_kept a_book a_keptBook a_history a_draws a_refused a_now_row a_now_partners a_now_share a_now_leftOver : Nat) (c_hasImage : Int32) (c_now_askedCount : Int32) (c_now_outcome : Int32) (c_now_row : Nat → Int32) : va_W := [k_X7 a_ a_tape a_reader a_scripts a_now a_trial a_kept a_book a_keptBook a_history a_draws a_refused c_hasImage, k_X5 a_now a_now_row a_now_partners c_now_askedCount c_now_outcome a_now_share a_now_leftOver, k_I E a_now_row 81 c_now_row]
def v_f_X7_fair : List Cond := List.cons (.code yX7_fair cX7_fair 5 (some .int)) (HAppend.hAppend (α := List Cond) (β := List Cond) (γ := List Cond) [.fieldLink RX7 35 "HushWatch" "now" "LHushWatch$State;", .methodLink RX7 110 yX5_stands, .instanceMethod yX5_stands, .selects RX5 yX5_stands yX5_stands, .initialized RX5, .methodLink RX7 117 yX5_sites, .instanceMethod yX5_sites, .selects RX5 yX5_sites yX5_sites, .methodLink RX7 262 yX5_slackLength, .instanceMethod yX5_slackLength, .selects RX5 yX5_slackLength yX5_slackLength, .methodLink RX7 254 yX5_pointValue, .instanceMethod yX5_pointValue, .selects RX5 yX5_pointValue yX5_pointValue] (HAppend.hAppend (α := List Cond) (β := List Cond) (γ := List Cond) wsX70 (HAppend.hAppend (α := List Cond) (β := List Cond) (γ := List Cond) v_f_X5_stands (HAppend.hAppend (α := List Cond) (β := List Cond) (γ := List Cond) v_f_X5_sites (HAppend.hAppend (α := List Cond) (β := List Cond) (γ := List Cond) v_f_X5_slackLength (HAppend.hAppend (α := List Cond) (β := List Cond) (γ := List Cond) v_f_X5_pointValue []))))))
theorem gw_f_X7_fair : v_f_X7_fair.all goodWord = true := gw_c2 (by decide +kernel) (gw_ap gw_wsX70 (gw_ap gw_f_X5_stands (gw_ap gw_f_X5_sites (gw_ap gw_f_X5_slackLength (gw_ap gw_f_X5_pointValue gw_nil)))))
theorem i_f_X7_fair_X7 : ∀ w ∈ wsX70, w ∈ v_f_X7_fair := fun _ h => List.mem_cons_of_mem _ (List.mem_append_right _ (List.mem_append_left _ h))
theorem g_f_X7_fair_f_X5_stands_110 : GoodIn v_f_X7_fair (wsV RX7 110 RX5 yX5_stands v_f_X5_stands) := goodIn_in gw_f_X7_fair (in4 2 3 4 5 rfl rfl rfl rfl (fun _ h => List.mem_cons_of_mem _ (List.mem_append_right _ (List.mem_append_right _ (List.mem_append_left _ h)))))
theorem g_f_X7_fair_f_X5_sites_117 : GoodIn v_f_X7_fair (wsV RX7 117 RX5 yX5_sites v_f_X5_sites) := goodIn_in gw_f_X7_fair (in4 6 7 8 5 rfl rfl rfl rfl (fun _ h => List.mem_cons_of_mem _ (List.mem_append_right _ (List.mem_append_right _ (List.mem_append_right _ (List.mem_append_left _ h))))))
theorem g_f_X7_fair_f_X5_slackLength_262 : GoodIn v_f_X7_fair (wsV RX7 262 RX5 yX5_slackLength v_f_X5_slackLength) := goodIn_in gw_f_X7_fair (in4 9 10 11 5 rfl rfl rfl rfl (fun _ h => List.mem_cons_of_mem _ (List.mem_append_right _ (List.mem_append_right _ (List.mem_append_right _ (List.mem_append_right _ (List.mem_append_left _ h)))))))
theorem g_f_X7_fair_f_X5_pointValue_254 : GoodIn v_f_X7_fair (wsV RX7 254 RX5 yX5_pointValue v_f_X5_pointValue) := goodIn_in gw_f_X7_fair (in4 12 13 14 5 rfl rfl rfl rfl (fun _ h => List.mem_cons_of_mem _ (List.mem_append_right _ (List.mem_append_right _ (List.mem_append_right _ (List.mem_append_right _ (List.mem_append_right _ (List.mem_append_left _ h))))))))
theorem hd_X7_fair : yX7_fair.cls = RX7 ∧ yX7_fair.cls ≠ "java/lang/invoke/MethodHandle" ∧ yX7_fair.cls ≠ "java/lang/invoke/VarHandle" ∧ (parseMethodDescriptor yX7_fair.desc).map (fun d => d.parameters.length) = some 1 := by decide +kernel
set_option maxHeartbeats 4000000 in
set_option maxRecDepth 100000 in
theorem wb_X7_fair_25 {p : Program} (l : Launch) {e : Env} {s : State} {m : MethodId} {below : List Frame} {meth : Method} {c : Code} {Q : State → Prop} (E : EE) (K : Nat) {a_ a_tape a_reader a_scripts a_now a_trial a_kept a_book a_keptBook a_history a_draws a_refused a_now_row a_now_partners a_now_share a_now_leftOver : Nat} {p1 : Int32} {c_hasImage : Int32} {c_now_askedCount : Int32} {c_now_outcome : Int32} {c_now_row : Nat → Int32} {x2 : Int32} {x3 : Int32} (hx : p.tables.exec = Jvm.exec) (hb : c.code = cX7_fair) (hml : c.maxLocals = 5) (hown : s.vm.findClass RX7 = some m.cls) (hts : ∀ w ∈ v_f_X7_fair, w.before #[Value.ref a_, Value.int p1] s = true) (hK : va_K E.1 vwCl (TY E) s) (hN : NX s) {xx : (Int32 × Int32) ⊕ (Int32)} (hC : ∀ (x2 : Int32), ∀ (x3 : Int32), xx = .inl (x2, x3) → ∀ (ls : Array Slot), lv_has ls 5 [(0, .ref a_), (1, .int p1), (2, .int x2), (3, .int x3)] → W p l e ({ frames := 3, cells := 0, slots := 0, locals := 68 } : Room) s m #[Value.ref a_, Value.int p1] below meth c s.heap [] 0 0 Q (F0 m 25 ls [])) (hE : ∀ (x2 : Int32), xx = .inr x2 → ((∀ (ls : Array Slot), lv_has ls 5 [(2, .int x2)] → W p l e ({ frames := 3, cells := 0, slots := 0, locals := 68 } : Room) s m #[Value.ref a_, Value.int p1] below meth c s.heap [] 0 0 Q (F0 m 111 ls [])))) (hF : B_X7_fair_25 p1 c_now_row x2 x3 = some xx) (hP : va_P E.1 vwCl (w_X7_fair E a_ a_tape a_reader a_scripts a_now a_trial a_kept a_book a_keptBook a_history a_draws a_refused a_now_row a_now_partners a_now_share a_now_leftOver c_hasImage c_now_askedCount c_now_outcome c_now_row) s.heap) : ∀ (ls : Array Slot), lv_has ls 5 [(0, .ref a_), (1, .int p1), (2, .int x2), (3, .int x3)] → W p l e ({ frames := 3, cells := 0, slots := 0, locals := 68 } : Room) s m #[Value.ref a_, Value.int p1] below meth c s.heap [] 0 0 Q (F0 m 25 ls []) := by
  unfold B_X7_fair_25 at hF
  replace hP : va_P E.1 vwCl [k_X7 a_ a_tape a_reader a_scripts a_now a_trial a_kept a_book a_keptBook a_history a_draws a_refused c_hasImage, k_X5 a_now a_now_row a_now_partners c_now_askedCount c_now_outcome a_now_share a_now_leftOver, k_I E a_now_row 81 c_now_row] s.heap := hP
  intro ls hl
  refine lv_iload_n hx hb (dq_29 0 bcX7_fair_0 (j := 25) rfl rfl) rfl (lv_at hl 3 rfl) ?_
  refine lv_aload_n hx hb (dq_42 0 bcX7_fair_0 (j := 26) rfl rfl) rfl (lv_at hl 0 rfl) ?_
  refine gt_X7_3 (v := .ref a_now) hx hb hts i_f_X7_fair_X7 hown hK hP 0 rfl (hts (.fieldLink RX7 35 "HushWatch" "now" "LHushWatch$State;") (List.mem_of_getElem? (i := 1) rfl)) rfl (dq_180 0 bcX7_fair_0 (j := 27) (i := 35) rfl rfl rfl) ?_
  replace hF := bd1_s hF
  obtain ⟨r_7, hc_8, hF⟩ := hF
  have hPc : va_P E.1 vwCl (w_X5_sites E a_now a_now_row a_now_partners a_now_share a_now_leftOver c_now_askedCount c_now_outcome c_now_row) s.heap := hP.sub (ws' := [k_X5 a_now a_now_row a_now_partners c_now_askedCount c_now_outcome a_now_share a_now_leftOver, k_I E a_now_row 81 c_now_row]) [1, 2] rfl
  have hrc := va_recv hK hPc (ci := 6) (q0 := 0) rfl rfl
  refine pE_i (va_runV (As := []) (rest := [.int x3])  ⟨hx, hb, hml, hown, hts⟩ (f_X5_sites l E (a_ := a_now) (a_row := a_now_row) (a_partners := a_now_partners) (a_share := a_now_share) (a_leftOver := a_now_leftOver) (c_askedCount := c_now_askedCount) (c_outcome := c_now_outcome) (c_row := c_now_row) hc_8) (cwV 0 hts g_f_X7_fair_f_X5_sites_117 rfl rfl rfl hd_X5_sites ⟨Nat.le_of_ble_eq_true rfl, Nat.le_of_ble_eq_true rfl⟩) ⟨pP.blind, hrc, (pP.pre ⟨hK, hN⟩ hPc)⟩ rfl rfl hl.1 rfl (lv_room (Nat.le_of_ble_eq_true rfl)) (dq_182 0 bcX7_fair_0 (j := 30) (i := 117) rfl rfl rfl) ⟨Nat.le_of_ble_eq_true rfl, Nat.le_of_ble_eq_true rfl⟩) ?_
  refine lv_icmp_ge (tgt := 111) hx hb (dq_162 0 bcX7_fair_0 (j := 33) (i := 78) rfl rfl rfl) (by decide) (fun c_9 => ?_) (fun c_9 => ?_)
  ·
    replace hF := ip c_9 hF
    cases hF
    exact hE x2 rfl ls (lv_sub hl [2] rfl)
  ·
    replace hF := inn c_9 hF
    refine lv_iload_n hx hb (dq_27 0 bcX7_fair_0 (j := 36) rfl rfl) rfl (lv_at hl 1 rfl) ?_
    refine lv_if_ne (tgt := 72) hx hb (dq_154 0 bcX7_fair_0 (j := 37) (i := 35) rfl rfl rfl) (by decide) (fun c_10 => ?_) (fun c_10 => ?_)
    ·
      replace hF := inn c_10 hF
      refine lv_aload_n hx hb (dq_42 48 bcX7_fair_1 (j := 24) rfl rfl) rfl (lv_at hl 0 rfl) ?_
      refine gt_X7_3 (v := .ref a_now) hx hb hts i_f_X7_fair_X7 hown hK hP 0 rfl (hts (.fieldLink RX7 35 "HushWatch" "now" "LHushWatch$State;") (List.mem_of_getElem? (i := 1) rfl)) rfl (dq_180 48 bcX7_fair_1 (j := 25) (i := 35) rfl rfl rfl) ?_
      refine lv_iload_n hx hb (dq_29 48 bcX7_fair_1 (j := 28) rfl rfl) rfl (lv_at hl 3 rfl) ?_
      replace hF := bd1_s hF
      obtain ⟨r_11, hc_12, hF⟩ := hF
      have hPc : va_P E.1 vwCl (w_X5_slackLength E a_now a_now_row a_now_partners a_now_share a_now_leftOver c_now_askedCount c_now_outcome c_now_row) s.heap := hP.sub (ws' := [k_X5 a_now a_now_row a_now_partners c_now_askedCount c_now_outcome a_now_share a_now_leftOver, k_I E a_now_row 81 c_now_row]) [1, 2] rfl
      have hrc := va_recv hK hPc (ci := 6) (q0 := 0) rfl rfl
      refine pE_i (va_runV (As := [.int x3]) (rest := [])  ⟨hx, hb, hml, hown, hts⟩ (f_X5_slackLength l E (a_ := a_now) (a_row := a_now_row) (a_partners := a_now_partners) (a_share := a_now_share) (a_leftOver := a_now_leftOver) (p1 := x3) (c_askedCount := c_now_askedCount) (c_outcome := c_now_outcome) (c_row := c_now_row) hc_12) (cwV 1 hts g_f_X7_fair_f_X5_slackLength_262 rfl rfl rfl hd_X5_slackLength ⟨Nat.le_of_ble_eq_true rfl, Nat.le_of_ble_eq_true rfl⟩) ⟨pP.blind, hrc, (pP.pre ⟨hK, hN⟩ hPc)⟩ rfl rfl hl.1 rfl (lv_room (Nat.le_of_ble_eq_true rfl)) (dq_182 48 bcX7_fair_1 (j := 29) (i := 262) rfl rfl rfl) ⟨Nat.le_of_ble_eq_true rfl, Nat.le_of_ble_eq_true rfl⟩) ?_
      refine lv_aload_n hx hb (dq_42 48 bcX7_fair_1 (j := 32) rfl rfl) rfl (lv_at hl 0 rfl) ?_
      refine gt_X7_3 (v := .ref a_now) hx hb hts i_f_X7_fair_X7 hown hK hP 0 rfl (hts (.fieldLink RX7 35 "HushWatch" "now" "LHushWatch$State;") (List.mem_of_getElem? (i := 1) rfl)) rfl (dq_180 48 bcX7_fair_1 (j := 33) (i := 35) rfl rfl rfl) ?_
      refine lv_iload_n hx hb (dq_28 48 bcX7_fair_1 (j := 36) rfl rfl) rfl (lv_at hl 2 rfl) ?_
      replace hF := bd1_s hF
      obtain ⟨r_13, hc_14, hF⟩ := hF
      have hPc : va_P E.1 vwCl (w_X5_slackLength E a_now a_now_row a_now_partners a_now_share a_now_leftOver c_now_askedCount c_now_outcome c_now_row) s.heap := hP.sub (ws' := [k_X5 a_now a_now_row a_now_partners c_now_askedCount c_now_outcome a_now_share a_now_leftOver, k_I E a_now_row 81 c_now_row]) [1, 2] rfl
      have hrc := va_recv hK hPc (ci := 6) (q0 := 0) rfl rfl
      refine pE_i (va_runV (As := [.int x2]) (rest := [.int r_11])  ⟨hx, hb, hml, hown, hts⟩ (f_X5_slackLength l E (a_ := a_now) (a_row := a_now_row) (a_partners := a_now_partners) (a_share := a_now_share) (a_leftOver := a_now_leftOver) (p1 := x2) (c_askedCount := c_now_askedCount) (c_outcome := c_now_outcome) (c_row := c_now_row) hc_14) (cwV 1 hts g_f_X7_fair_f_X5_slackLength_262 rfl rfl rfl hd_X5_slackLength ⟨Nat.le_of_ble_eq_true rfl, Nat.le_of_ble_eq_true rfl⟩) ⟨pP.blind, hrc, (pP.pre ⟨hK, hN⟩ hPc)⟩ rfl rfl hl.1 rfl (lv_room (Nat.le_of_ble_eq_true rfl)) (dq_182 48 bcX7_fair_1 (j := 37) (i := 262) rfl rfl rfl) ⟨Nat.le_of_ble_eq_true rfl, Nat.le_of_ble_eq_true rfl⟩) ?_
      refine lv_icmp_le (tgt := 95) hx hb (dq_164 48 bcX7_fair_1 (j := 40) (i := 7) rfl rfl rfl) (by decide) (fun c_15 => ?_) (fun c_15 => ?_)
      ·
        replace hF := ip c_15 hF
        refine lv_iconst (v := 0) hx hb (dq_3 48 bcX7_fair_1 (j := 47) rfl rfl) (by decide) ?_
        refine lv_istore (lv' := [(4, .int (0 : Int32)), (0, .ref a_), (1, .int p1), (2, .int x2), (3, .int x3)]) hx hb (dq_54 96 bcX7_fair_2 (j := 0) (i := 4) rfl rfl) hl (by decide) rfl (fun ls hl => ?_)
        refine lv_iload hx hb (dq_21 96 bcX7_fair_2 (j := 2) (i := 4) rfl rfl) (lv_at hl 0 rfl) ?_
        refine lv_if_eq (tgt := 105) hx hb (dq_153 96 bcX7_fair_2 (j := 4) (i := 5) rfl rfl rfl) (by decide) (fun _ => ?_) (fun q => absurd (by decide) q)
        refine lv_iinc (v := x3 + (1 : Int32)) (lv' := [(3, .int (x3 + (1 : Int32))), (4, .int (0 : Int32)), (0, .ref a_), (1, .int p1), (2, .int x2)]) hx hb (dq_132 96 bcX7_fair_2 (j := 9) (i := 1) rfl rfl rfl) hl (k := 4) rfl (rfl) (by decide) rfl (fun ls hl => ?_)
        refine lv_goto (tgt := 25) hx hb (dq_167 96 bcX7_fair_2 (j := 12) (i := -83) rfl rfl rfl) (by decide) ?_
        cases hF
        exact hC x2 (x3 + (1 : Int32)) rfl ls (lv_sub hl [2, 3, 4, 0] rfl)
      ·
        replace hF := inn c_15 hF
        refine lv_iconst (v := 1) hx hb (dq_4 48 bcX7_fair_1 (j := 43) rfl rfl) (by decide) ?_
        refine lv_goto (tgt := 96) hx hb (dq_167 48 bcX7_fair_1 (j := 44) (i := 4) rfl rfl rfl) (by decide) ?_
        refine lv_istore (lv' := [(4, .int (1 : Int32)), (0, .ref a_), (1, .int p1), (2, .int x2), (3, .int x3)]) hx hb (dq_54 96 bcX7_fair_2 (j := 0) (i := 4) rfl rfl) hl (by decide) rfl (fun ls hl => ?_)
        refine lv_iload hx hb (dq_21 96 bcX7_fair_2 (j := 2) (i := 4) rfl rfl) (lv_at hl 0 rfl) ?_
        refine lv_if_eq (tgt := 105) hx hb (dq_153 96 bcX7_fair_2 (j := 4) (i := 5) rfl rfl rfl) (by decide) (fun q => absurd q (by decide)) (fun _ => ?_)
        refine lv_iload_n hx hb (dq_29 96 bcX7_fair_2 (j := 7) rfl rfl) rfl (lv_at hl 4 rfl) ?_
        refine lv_istore_n (lv' := [(2, .int x3), (4, .int (1 : Int32)), (0, .ref a_), (1, .int p1), (3, .int x3)]) hx hb (dq_61 96 bcX7_fair_2 (j := 8) rfl rfl) rfl hl (by decide) rfl (fun ls hl => ?_)
        refine lv_iinc (v := x3 + (1 : Int32)) (lv' := [(3, .int (x3 + (1 : Int32))), (2, .int x3), (4, .int (1 : Int32)), (0, .ref a_), (1, .int p1)]) hx hb (dq_132 96 bcX7_fair_2 (j := 9) (i := 1) rfl rfl rfl) hl (k := 4) rfl (rfl) (by decide) rfl (fun ls hl => ?_)
        refine lv_goto (tgt := 25) hx hb (dq_167 96 bcX7_fair_2 (j := 12) (i := -83) rfl rfl rfl) (by decide) ?_
        cases hF
        exact hC x3 (x3 + (1 : Int32)) rfl ls (lv_sub hl [3, 4, 1, 0] rfl)
    ·
      replace hF := ip c_10 hF
      refine lv_aload_n hx hb (dq_42 0 bcX7_fair_0 (j := 40) rfl rfl) rfl (lv_at hl 0 rfl) ?_
      refine gt_X7_3 (v := .ref a_now) hx hb hts i_f_X7_fair_X7 hown hK hP 0 rfl (hts (.fieldLink RX7 35 "HushWatch" "now" "LHushWatch$State;") (List.mem_of_getElem? (i := 1) rfl)) rfl (dq_180 0 bcX7_fair_0 (j := 41) (i := 35) rfl rfl rfl) ?_
      refine lv_iload_n hx hb (dq_29 0 bcX7_fair_0 (j := 44) rfl rfl) rfl (lv_at hl 3 rfl) ?_
      refine lv_iconst (v := 0) hx hb (dq_3 0 bcX7_fair_0 (j := 45) rfl rfl) (by decide) ?_
      refine lv_iconst (v := 0) hx hb (dq_3 0 bcX7_fair_0 (j := 46) rfl rfl) (by decide) ?_
      replace hF := bd1_s hF
      obtain ⟨r_16, hc_17, hF⟩ := hF
      have hPc : va_P E.1 vwCl (w_X5_pointValue E a_now a_now_row a_now_partners a_now_share a_now_leftOver c_now_askedCount c_now_outcome c_now_row) s.heap := hP.sub (ws' := [k_X5 a_now a_now_row a_now_partners c_now_askedCount c_now_outcome a_now_share a_now_leftOver, k_I E a_now_row 81 c_now_row]) [1, 2] rfl
      have hrc := va_recv hK hPc (ci := 6) (q0 := 0) rfl rfl
      refine pE_l (va_runV (As := [.int x3, .int (0 : Int32), .int (0 : Int32)]) (rest := [])  ⟨hx, hb, hml, hown, hts⟩ (f_X5_pointValue l E (a_ := a_now) (a_row := a_now_row) (a_partners := a_now_partners) (a_share := a_now_share) (a_leftOver := a_now_leftOver) (p1 := x3) (p2 := (0 : Int32)) (p3 := (0 : Int32)) (c_askedCount := c_now_askedCount) (c_outcome := c_now_outcome) (c_row := c_now_row) hc_17) (cwV 3 hts g_f_X7_fair_f_X5_pointValue_254 rfl rfl rfl hd_X5_pointValue ⟨Nat.le_of_ble_eq_true rfl, Nat.le_of_ble_eq_true rfl⟩) ⟨pP.blind, hrc, (pP.pre ⟨hK, hN⟩ hPc)⟩ rfl rfl hl.1 rfl (lv_room (Nat.le_of_ble_eq_true rfl)) (dq_182 0 bcX7_fair_0 (j := 47) (i := 254) rfl rfl rfl) ⟨Nat.le_of_ble_eq_true rfl, Nat.le_of_ble_eq_true rfl⟩) ?_
      refine lv_aload_n hx hb (dq_42 48 bcX7_fair_1 (j := 2) rfl rfl) rfl (lv_at hl 0 rfl) ?_
      refine gt_X7_3 (v := .ref a_now) hx hb hts i_f_X7_fair_X7 hown hK hP 0 rfl (hts (.fieldLink RX7 35 "HushWatch" "now" "LHushWatch$State;") (List.mem_of_getElem? (i := 1) rfl)) rfl (dq_180 48 bcX7_fair_1 (j := 3) (i := 35) rfl rfl rfl) ?_
      refine lv_iload_n hx hb (dq_28 48 bcX7_fair_1 (j := 6) rfl rfl) rfl (lv_at hl 2 rfl) ?_
      refine lv_iconst (v := 0) hx hb (dq_3 48 bcX7_fair_1 (j := 7) rfl rfl) (by decide) ?_
      refine lv_iconst (v := 0) hx hb (dq_3 48 bcX7_fair_1 (j := 8) rfl rfl) (by decide) ?_
      replace hF := bd1_s hF
      obtain ⟨r_18, hc_19, hF⟩ := hF
      have hPc : va_P E.1 vwCl (w_X5_pointValue E a_now a_now_row a_now_partners a_now_share a_now_leftOver c_now_askedCount c_now_outcome c_now_row) s.heap := hP.sub (ws' := [k_X5 a_now a_now_row a_now_partners c_now_askedCount c_now_outcome a_now_share a_now_leftOver, k_I E a_now_row 81 c_now_row]) [1, 2] rfl
      have hrc := va_recv hK hPc (ci := 6) (q0 := 0) rfl rfl
      refine pE_l (va_runV (As := [.int x2, .int (0 : Int32), .int (0 : Int32)]) (rest := [.long r_16])  ⟨hx, hb, hml, hown, hts⟩ (f_X5_pointValue l E (a_ := a_now) (a_row := a_now_row) (a_partners := a_now_partners) (a_share := a_now_share) (a_leftOver := a_now_leftOver) (p1 := x2) (p2 := (0 : Int32)) (p3 := (0 : Int32)) (c_askedCount := c_now_askedCount) (c_outcome := c_now_outcome) (c_row := c_now_row) hc_19) (cwV 3 hts g_f_X7_fair_f_X5_pointValue_254 rfl rfl rfl hd_X5_pointValue ⟨Nat.le_of_ble_eq_true rfl, Nat.le_of_ble_eq_true rfl⟩) ⟨pP.blind, hrc, (pP.pre ⟨hK, hN⟩ hPc)⟩ rfl rfl hl.1 rfl (lv_room (Nat.le_of_ble_eq_true rfl)) (dq_182 48 bcX7_fair_1 (j := 9) (i := 254) rfl rfl rfl) ⟨Nat.le_of_ble_eq_true rfl, Nat.le_of_ble_eq_true rfl⟩) ?_
      refine W.lcmp hx hb (dq_148 48 bcX7_fair_1 (j := 12) rfl rfl) ?_
      refine lv_if_le (tgt := 68) hx hb (dq_158 48 bcX7_fair_1 (j := 13) (i := 7) rfl rfl rfl) (by decide) (fun c_20 => ?_) (fun c_20 => ?_)
      ·
        replace hF := ip c_20 hF
        refine lv_iconst (v := 0) hx hb (dq_3 48 bcX7_fair_1 (j := 20) rfl rfl) (by decide) ?_
        refine lv_goto (tgt := 96) hx hb (dq_167 48 bcX7_fair_1 (j := 21) (i := 27) rfl rfl rfl) (by decide) ?_
        refine lv_istore (lv' := [(4, .int (0 : Int32)), (0, .ref a_), (1, .int p1), (2, .int x2), (3, .int x3)]) hx hb (dq_54 96 bcX7_fair_2 (j := 0) (i := 4) rfl rfl) hl (by decide) rfl (fun ls hl => ?_)
        refine lv_iload hx hb (dq_21 96 bcX7_fair_2 (j := 2) (i := 4) rfl rfl) (lv_at hl 0 rfl) ?_
        refine lv_if_eq (tgt := 105) hx hb (dq_153 96 bcX7_fair_2 (j := 4) (i := 5) rfl rfl rfl) (by decide) (fun _ => ?_) (fun q => absurd (by decide) q)
        refine lv_iinc (v := x3 + (1 : Int32)) (lv' := [(3, .int (x3 + (1 : Int32))), (4, .int (0 : Int32)), (0, .ref a_), (1, .int p1), (2, .int x2)]) hx hb (dq_132 96 bcX7_fair_2 (j := 9) (i := 1) rfl rfl rfl) hl (k := 4) rfl (rfl) (by decide) rfl (fun ls hl => ?_)
        refine lv_goto (tgt := 25) hx hb (dq_167 96 bcX7_fair_2 (j := 12) (i := -83) rfl rfl rfl) (by decide) ?_
        cases hF
        exact hC x2 (x3 + (1 : Int32)) rfl ls (lv_sub hl [2, 3, 4, 0] rfl)
      ·
        replace hF := inn c_20 hF
        refine lv_iconst (v := 1) hx hb (dq_4 48 bcX7_fair_1 (j := 16) rfl rfl) (by decide) ?_
        refine lv_goto (tgt := 96) hx hb (dq_167 48 bcX7_fair_1 (j := 17) (i := 31) rfl rfl rfl) (by decide) ?_
        refine lv_istore (lv' := [(4, .int (1 : Int32)), (0, .ref a_), (1, .int p1), (2, .int x2), (3, .int x3)]) hx hb (dq_54 96 bcX7_fair_2 (j := 0) (i := 4) rfl rfl) hl (by decide) rfl (fun ls hl => ?_)
        refine lv_iload hx hb (dq_21 96 bcX7_fair_2 (j := 2) (i := 4) rfl rfl) (lv_at hl 0 rfl) ?_
        refine lv_if_eq (tgt := 105) hx hb (dq_153 96 bcX7_fair_2 (j := 4) (i := 5) rfl rfl rfl) (by decide) (fun q => absurd q (by decide)) (fun _ => ?_)
        refine lv_iload_n hx hb (dq_29 96 bcX7_fair_2 (j := 7) rfl rfl) rfl (lv_at hl 4 rfl) ?_
        refine lv_istore_n (lv' := [(2, .int x3), (4, .int (1 : Int32)), (0, .ref a_), (1, .int p1), (3, .int x3)]) hx hb (dq_61 96 bcX7_fair_2 (j := 8) rfl rfl) rfl hl (by decide) rfl (fun ls hl => ?_)
        refine lv_iinc (v := x3 + (1 : Int32)) (lv' := [(3, .int (x3 + (1 : Int32))), (2, .int x3), (4, .int (1 : Int32)), (0, .ref a_), (1, .int p1)]) hx hb (dq_132 96 bcX7_fair_2 (j := 9) (i := 1) rfl rfl rfl) hl (k := 4) rfl (rfl) (by decide) rfl (fun ls hl => ?_)
        refine lv_goto (tgt := 25) hx hb (dq_167 96 bcX7_fair_2 (j := 12) (i := -83) rfl rfl rfl) (by decide) ?_
        cases hF
        exact hC x3 (x3 + (1 : Int32)) rfl ls (lv_sub hl [3, 4, 1, 0] rfl)

set_option maxHeartbeats 4000000 in
set_option maxRecDepth 100000 in
theorem lw_X7_fair_25 {p : Program} (l : Launch) {e : Env} {s : State} {m : MethodId} {below : List Frame} {meth : Method} {c : Code} {Q : State → Prop} (E : EE) (K : Nat) {a_ a_tape a_reader a_scripts a_now a_trial a_kept a_book a_keptBook a_history a_draws a_refused a_now_row a_now_partners a_now_share a_now_leftOver : Nat} {p1 : Int32} {c_hasImage : Int32} {c_now_askedCount : Int32} {c_now_outcome : Int32} {c_now_row : Nat → Int32} (hx : p.tables.exec = Jvm.exec) (hb : c.code = cX7_fair) (hml : c.maxLocals = 5) (hown : s.vm.findClass RX7 = some m.cls) (hts : ∀ w ∈ v_f_X7_fair, w.before #[Value.ref a_, Value.int p1] s = true) (hK : va_K E.1 vwCl (TY E) s) (hN : NX s) (hP : va_P E.1 vwCl (w_X7_fair E a_ a_tape a_reader a_scripts a_now a_trial a_kept a_book a_keptBook a_history a_draws a_refused a_now_row a_now_partners a_now_share a_now_leftOver c_hasImage c_now_askedCount c_now_outcome c_now_row) s.heap) (j9 : Nat) (x2 : Int32) (x3 : Int32) (x2' : Int32) (hL : lpF (fun u9 : Int32 × Int32 => B_X7_fair_25 p1 c_now_row u9.1 u9.2) j9 (x2, x3) = some x2') (hX : (∀ (ls : Array Slot), lv_has ls 5 [(2, .int x2')] → W p l e ({ frames := 3, cells := 0, slots := 0, locals := 68 } : Room) s m #[Value.ref a_, Value.int p1] below meth c s.heap [] 0 0 Q (F0 m 111 ls []))) : ∀ (ls : Array Slot), lv_has ls 5 [(0, .ref a_), (1, .int p1), (2, .int x2), (3, .int x3)] → W p l e ({ frames := 3, cells := 0, slots := 0, locals := 68 } : Room) s m #[Value.ref a_, Value.int p1] below meth c s.heap [] 0 0 Q (F0 m 25 ls []) := by
  exact lp_rule (P := (fun u9 : Int32 × Int32 => ∀ (ls : Array Slot), lv_has ls 5 [(0, .ref a_), (1, .int p1), (2, .int u9.1), (3, .int u9.2)] → W p l e ({ frames := 3, cells := 0, slots := 0, locals := 68 } : Room) s m #[Value.ref a_, Value.int p1] below meth c s.heap [] 0 0 Q (F0 m 25 ls []))) (R := (fun r9 : Int32 => (∀ (ls : Array Slot), lv_has ls 5 [(2, .int r9)] → W p l e ({ frames := 3, cells := 0, slots := 0, locals := 68 } : Room) s m #[Value.ref a_, Value.int p1] below meth c s.heap [] 0 0 Q (F0 m 111 ls [])))) (fun u9 xx hF hC hE => wb_X7_fair_25 l E K (p1 := p1) (c_hasImage := c_hasImage) (c_now_askedCount := c_now_askedCount) (c_now_outcome := c_now_outcome) (c_now_row := c_now_row) (x2 := u9.1) (x3 := u9.2) hx hb hml hown hts hK hN (fun x2 x3 q9 => hC _ q9) (fun x2 q9 => hE _ q9) hF hP) j9 (x2, x3) x2' hL hX

set_option maxHeartbeats 4000000 in
set_option maxRecDepth 100000 in
theorem f_X7_fair (l : Launch) (E : EE) (K : Nat) {a_ a_tape a_reader a_scripts a_now a_trial a_kept a_book a_keptBook a_history a_draws a_refused a_now_row a_now_partners a_now_share a_now_leftOver : Nat} {p1 : Int32} {c_hasImage : Int32} {c_now_askedCount : Int32} {c_now_outcome : Int32} {c_now_row : Nat → Int32} {rr : Int32} (hF : F_X7_fair K p1 c_now_row = some rr) : Met l yX7_fair v_f_X7_fair (({ frames := 3, cells := 0, slots := 0, locals := 68 } : Room)) (va_Pc [.ref a_, .int p1] (pP E (w_X7_fair E a_ a_tape a_reader a_scripts a_now a_trial a_kept a_book a_keptBook a_history a_draws a_refused a_now_row a_now_partners a_now_share a_now_leftOver c_hasImage c_now_askedCount c_now_outcome c_now_row))) (vp_Si (fun q : Int32 => q = rr)) 0 0 (fun _ => False) := by
  refine Met.ofW (cc := cX7_fair) (maxL := 5) (ret := (some .int)) (by decide) rfl ?_
  intro p e s m args below meth c s₁ B hml hv
  obtain ⟨rfl, ⟨hK, hN⟩, hP⟩ := hv
  have hx := B.exec
  have hb := B.bytes
  have hr := B.returns
  have hts := atoms_spec (ws := v_f_X7_fair) B.pre
  have hown : s.vm.findClass RX7 = some m.cls := own_of hd_X7_fair.1 (findClass_of_methodNamed B.named)
  have hlocks : meth.locks = false := B.notSynchronized
  replace hP : va_P E.1 vwCl [k_X7 a_ a_tape a_reader a_scripts a_now a_trial a_kept a_book a_keptBook a_history a_draws a_refused c_hasImage, k_X5 a_now a_now_row a_now_partners c_now_askedCount c_now_outcome a_now_share a_now_leftOver, k_I E a_now_row 81 c_now_row] s.heap := hP
  have hl := lv_entry ([.ref a_, .int p1]) (n := 5) (Nat.le_of_ble_eq_true rfl)
  rw [lg_entry_eq]
  generalize (lg_sl ([.ref a_, .int p1]) ++ List.replicate (5 - (lg_sl ([.ref a_, .int p1])).length) Slot.unset).toArray = ls at hl ⊢
  have hl : lv_has ls 5 [(0, .ref a_), (1, .int p1)] := hl
  obtain ⟨Q, hQ⟩ : ∃ Q : State → Prop, Q = MQ below (vp_Si (fun q : Int32 => q = rr)) #[Value.ref a_, Value.int p1] s 0 0 (fun _ => False) := ⟨_, rfl⟩
  rw [← hQ]
  change W p l e ({ frames := 3, cells := 0, slots := 0, locals := 68 } : Room) s m #[Value.ref a_, Value.int p1] below meth c s.heap [] 0 0 Q (F0 m 0 ls [])
  unfold F_X7_fair at hF
  refine lv_aload_n hx hb (dq_42 0 bcX7_fair_0 (j := 0) rfl rfl) rfl (lv_at hl 0 rfl) ?_
  refine gt_X7_3 (v := .ref a_now) hx hb hts i_f_X7_fair_X7 hown hK hP 0 rfl (hts (.fieldLink RX7 35 "HushWatch" "now" "LHushWatch$State;") (List.mem_of_getElem? (i := 1) rfl)) rfl (dq_180 0 bcX7_fair_0 (j := 1) (i := 35) rfl rfl rfl) ?_
  replace hF := bd1_s hF
  obtain ⟨r_1, hc_2, hF⟩ := hF
  have hPc : va_P E.1 vwCl (w_X5_stands E a_now a_now_row a_now_partners a_now_share a_now_leftOver c_now_askedCount c_now_outcome c_now_row) s.heap := hP.sub (ws' := [k_X5 a_now a_now_row a_now_partners c_now_askedCount c_now_outcome a_now_share a_now_leftOver, k_I E a_now_row 81 c_now_row]) [1, 2] rfl
  have hrc := va_recv hK hPc (ci := 6) (q0 := 0) rfl rfl
  refine pE_z (va_runV (As := []) (rest := [])  ⟨hx, hb, hml, hown, hts⟩ (f_X5_stands l E (a_ := a_now) (a_row := a_now_row) (a_partners := a_now_partners) (a_share := a_now_share) (a_leftOver := a_now_leftOver) (c_askedCount := c_now_askedCount) (c_outcome := c_now_outcome) (c_row := c_now_row) hc_2) (cwV 0 hts g_f_X7_fair_f_X5_stands_110 rfl rfl rfl hd_X5_stands ⟨Nat.le_of_ble_eq_true rfl, Nat.le_of_ble_eq_true rfl⟩) ⟨pP.blind, hrc, (pP.pre ⟨hK, hN⟩ hPc)⟩ rfl rfl hl.1 rfl (lv_room (Nat.le_of_ble_eq_true rfl)) (dq_182 0 bcX7_fair_0 (j := 4) (i := 110) rfl rfl rfl) ⟨Nat.le_of_ble_eq_true rfl, Nat.le_of_ble_eq_true rfl⟩) (fun hb_3 => ?_)
  refine lv_if_eq (tgt := 19) hx hb (dq_153 0 bcX7_fair_0 (j := 7) (i := 12) rfl rfl rfl) (by decide) (fun c_4 => ?_) (fun c_4 => ?_)
  ·
    replace hF := ip c_4 hF
    refine lv_iconst (v := -1) hx hb (dq_2 0 bcX7_fair_0 (j := 19) rfl rfl) (by decide) ?_
    rw [hQ]
    obtain e9_0 := inj1 hF
    exact W.iret (v := (-1 : Int32)) hx hb hr (fun tt ht hW => ⟨_, rfl, e9_0, ht⟩) (fun _ h => by cases h) (dq_172 0 bcX7_fair_0 (j := 20) rfl rfl)
  ·
    replace hF := inn c_4 hF
    refine lv_iload_n hx hb (dq_27 0 bcX7_fair_0 (j := 10) rfl rfl) rfl (lv_at hl 1 rfl) ?_
    refine lv_if_lt (tgt := 19) hx hb (dq_155 0 bcX7_fair_0 (j := 11) (i := 8) rfl rfl rfl) (by decide) (fun c_5 => ?_) (fun c_5 => ?_)
    ·
      replace hF := ip c_5 hF
      refine lv_iconst (v := -1) hx hb (dq_2 0 bcX7_fair_0 (j := 19) rfl rfl) (by decide) ?_
      rw [hQ]
      obtain e9_0 := inj1 hF
      exact W.iret (v := (-1 : Int32)) hx hb hr (fun tt ht hW => ⟨_, rfl, e9_0, ht⟩) (fun _ h => by cases h) (dq_172 0 bcX7_fair_0 (j := 20) rfl rfl)
    ·
      replace hF := inn c_5 hF
      refine lv_iload_n hx hb (dq_27 0 bcX7_fair_0 (j := 14) rfl rfl) rfl (lv_at hl 1 rfl) ?_
      refine lv_iconst (v := 1) hx hb (dq_4 0 bcX7_fair_0 (j := 15) rfl rfl) (by decide) ?_
      refine lv_icmp_le (tgt := 21) hx hb (dq_164 0 bcX7_fair_0 (j := 16) (i := 5) rfl rfl rfl) (by decide) (fun c_6 => ?_) (fun c_6 => ?_)
      ·
        replace hF := ip c_6 hF
        refine lv_iconst (v := 0) hx hb (dq_3 0 bcX7_fair_0 (j := 21) rfl rfl) (by decide) ?_
        refine lv_istore_n (lv' := [(2, .int (0 : Int32)), (0, .ref a_), (1, .int p1)]) hx hb (dq_61 0 bcX7_fair_0 (j := 22) rfl rfl) rfl hl (by decide) rfl (fun ls hl => ?_)
        refine lv_iconst (v := 1) hx hb (dq_4 0 bcX7_fair_0 (j := 23) rfl rfl) (by decide) ?_
        refine lv_istore_n (lv' := [(3, .int (1 : Int32)), (2, .int (0 : Int32)), (0, .ref a_), (1, .int p1)]) hx hb (dq_62 0 bcX7_fair_0 (j := 24) rfl rfl) rfl hl (by decide) rfl (fun ls hl => ?_)
        replace hF := bd1_s hF
        obtain ⟨x2_21, hL_22, hF⟩ := hF
        refine lw_X7_fair_25 l E K (p1 := p1) (c_hasImage := c_hasImage) (c_now_askedCount := c_now_askedCount) (c_now_outcome := c_now_outcome) (c_now_row := c_now_row) hx hb hml hown hts hK hN hP K (0 : Int32) (1 : Int32) x2_21 hL_22 ?_ ls (lv_sub hl [2, 3, 1, 0] rfl)
        ·
          intro ls hl
          refine lv_iload_n hx hb (dq_28 96 bcX7_fair_2 (j := 15) rfl rfl) rfl (lv_at hl 0 rfl) ?_
          rw [hQ]
          obtain e9_0 := inj1 hF
          exact W.iret (v := x2_21) hx hb hr (fun tt ht hW => ⟨_, rfl, e9_0, ht⟩) (fun _ h => by cases h) (dq_172 96 bcX7_fair_2 (j := 16) rfl rfl)
      ·
        replace hF := inn c_6 hF
        refine lv_iconst (v := -1) hx hb (dq_2 0 bcX7_fair_0 (j := 19) rfl rfl) (by decide) ?_
        rw [hQ]
        obtain e9_0 := inj1 hF
        exact W.iret (v := (-1 : Int32)) hx hb hr (fun tt ht hW => ⟨_, rfl, e9_0, ht⟩) (fun _ h => by cases h) (dq_172 0 bcX7_fair_0 (j := 20) rfl rfl)

def F_X7_fault (K : Nat) (p1 : Int32) (c_tape_bytes : Nat → Int32) (c_tape_length : Int32) (c_reader_rules : Nat → Int32) (c_reader_places : Nat → Int32) (c_reader_steps : Nat → Int32) (c_reader_siteCount : Int32) (c_reader_stepCount : Int32) (c_reader_seenRules : Int32) (c_reader_at : Int32) (c_reader_wordStart : Int32) (c_reader_number : Int32) (c_reader_failed : Int32) : Option (Int32 × (Nat → Int32) × (Nat → Int32) × (Nat → Int32) × Int32 × Int32 × Int32 × Int32 × Int32 × Int32 × Int32) :=
  if p1 = (0 : Int32) then bd10 (F_X3_readWatch K c_tape_bytes c_tape_length c_reader_rules c_reader_places c_reader_siteCount c_reader_stepCount c_reader_seenRules c_reader_at c_reader_wordStart c_reader_number c_reader_failed) (fun r_14 w_15 w_16 w_17 w_18 w_19 w_20 w_21 w_22 w_23 => some (r_14, w_15, w_16, c_reader_steps, w_17, w_18, w_19, w_20, w_21, w_22, w_23)) else if p1 = (1 : Int32) then bd10 (F_X3_readScript K c_tape_bytes c_tape_length c_reader_rules c_reader_steps c_reader_siteCount c_reader_stepCount c_reader_seenRules c_reader_at c_reader_wordStart c_reader_number c_reader_failed) (fun r_3 w_4 w_5 w_6 w_7 w_8 w_9 w_10 w_11 w_12 => some (r_3, w_4, c_reader_places, w_5, w_6, w_7, w_8, w_9, w_10, w_11, w_12)) else some ((-2 : Int32), c_reader_rules, c_reader_places, c_reader_steps, c_reader_siteCount, c_reader_stepCount, c_reader_seenRules, c_reader_at, c_reader_wordStart, c_reader_number, c_reader_failed)
abbrev w_X7_fault (E : EE) (a_ a_tape a_reader a_scripts a_now a_trial a_kept a_book a_keptBook a_history a_draws a_refused a_tape_bytes a_reader_rules a_reader_places a_reader_steps : Nat) (c_hasImage : Int32) (c_tape_length : Int32) (c_tape_bytes : Nat → Int32) (c_reader_siteCount : Int32) (c_reader_stepCount : Int32) (c_reader_seenRules : Int32) (c_reader_at : Int32) (c_reader_wordStart : Int32) (c_reader_number : Int32) (c_reader_failed : Int32) (c_reader_rules : Nat → Int32) (c_reader_places : Nat → Int32) (c_reader_steps : Nat → Int32) : va_W := [k_X7 a_ a_tape a_reader a_scripts a_now a_trial a_kept a_book a_keptBook a_history a_draws a_refused c_hasImage, k_X6 a_tape a_tape_bytes c_tape_length, k_B E a_tape_bytes 320 c_tape_bytes, k_X3 a_reader a_tape a_reader_rules a_reader_places a_reader_steps c_reader_siteCount c_reader_stepCount c_reader_seenRules c_reader_at c_reader_wordStart c_reader_number c_reader_failed, k_I E a_reader_rules 3 c_reader_rules, k_I E a_reader_places 16 c_reader_places, k_I E a_reader_steps 48 c_reader_steps]
def v_f_X7_fault : List Cond := List.cons (.code yX7_fault cX7_fault 2 (some .int)) (HAppend.hAppend (α := List Cond) (β := List Cond) (γ := List Cond) [.fieldLink RX7 21 "HushWatch" "reader" "LHushWatch$Reader;", .methodLink RX7 97 yX3_readScript, .instanceMethod yX3_readScript, .selects RX3 yX3_readScript yX3_readScript, .initialized RX3, .methodLink RX7 93 yX3_readWatch, .instanceMethod yX3_readWatch, .selects RX3 yX3_readWatch yX3_readWatch] (HAppend.hAppend (α := List Cond) (β := List Cond) (γ := List Cond) wsX70 (HAppend.hAppend (α := List Cond) (β := List Cond) (γ := List Cond) v_f_X3_readScript (HAppend.hAppend (α := List Cond) (β := List Cond) (γ := List Cond) v_f_X3_readWatch []))))
theorem gw_f_X7_fault : v_f_X7_fault.all goodWord = true := gw_c2 (by decide +kernel) (gw_ap gw_wsX70 (gw_ap gw_f_X3_readScript (gw_ap gw_f_X3_readWatch gw_nil)))
theorem i_f_X7_fault_X7 : ∀ w ∈ wsX70, w ∈ v_f_X7_fault := fun _ h => List.mem_cons_of_mem _ (List.mem_append_right _ (List.mem_append_left _ h))
theorem g_f_X7_fault_f_X3_readScript_97 : GoodIn v_f_X7_fault (wsV RX7 97 RX3 yX3_readScript v_f_X3_readScript) := goodIn_in gw_f_X7_fault (in4 2 3 4 5 rfl rfl rfl rfl (fun _ h => List.mem_cons_of_mem _ (List.mem_append_right _ (List.mem_append_right _ (List.mem_append_left _ h)))))
theorem g_f_X7_fault_f_X3_readWatch_93 : GoodIn v_f_X7_fault (wsV RX7 93 RX3 yX3_readWatch v_f_X3_readWatch) := goodIn_in gw_f_X7_fault (in4 6 7 8 5 rfl rfl rfl rfl (fun _ h => List.mem_cons_of_mem _ (List.mem_append_right _ (List.mem_append_right _ (List.mem_append_right _ (List.mem_append_left _ h))))))
theorem hd_X7_fault : yX7_fault.cls = RX7 ∧ yX7_fault.cls ≠ "java/lang/invoke/MethodHandle" ∧ yX7_fault.cls ≠ "java/lang/invoke/VarHandle" ∧ (parseMethodDescriptor yX7_fault.desc).map (fun d => d.parameters.length) = some 1 := by decide +kernel
set_option maxHeartbeats 4000000 in
set_option maxRecDepth 100000 in
theorem f_X7_fault (l : Launch) (E : EE) (sz : Nat) (K : Nat) (z9 : Nat → Nat) {a_ a_tape a_reader a_scripts a_now a_trial a_kept a_book a_keptBook a_history a_draws a_refused a_tape_bytes a_reader_rules a_reader_places a_reader_steps : Nat} {p1 : Int32} {c_hasImage : Int32} {c_tape_length : Int32} {c_tape_bytes : Nat → Int32} {c_reader_siteCount : Int32} {c_reader_stepCount : Int32} {c_reader_seenRules : Int32} {c_reader_at : Int32} {c_reader_wordStart : Int32} {c_reader_number : Int32} {c_reader_failed : Int32} {c_reader_rules : Nat → Int32} {c_reader_places : Nat → Int32} {c_reader_steps : Nat → Int32} {rr : Int32} {n_reader_rules : Nat → Int32} {n_reader_places : Nat → Int32} {n_reader_steps : Nat → Int32} {n_reader_siteCount : Int32} {n_reader_stepCount : Int32} {n_reader_seenRules : Int32} {n_reader_at : Int32} {n_reader_wordStart : Int32} {n_reader_number : Int32} {n_reader_failed : Int32} (hF : F_X7_fault K p1 c_tape_bytes c_tape_length c_reader_rules c_reader_places c_reader_steps c_reader_siteCount c_reader_stepCount c_reader_seenRules c_reader_at c_reader_wordStart c_reader_number c_reader_failed = some (rr, n_reader_rules, n_reader_places, n_reader_steps, n_reader_siteCount, n_reader_stepCount, n_reader_seenRules, n_reader_at, n_reader_wordStart, n_reader_number, n_reader_failed)) : Met l yX7_fault v_f_X7_fault (({ frames := 9, cells := 0, slots := 0, locals := 190 } : Room)) (va_Pc [.ref a_, .int p1] (qWZ E z9 sz (w_X7_fault E a_ a_tape a_reader a_scripts a_now a_trial a_kept a_book a_keptBook a_history a_draws a_refused a_tape_bytes a_reader_rules a_reader_places a_reader_steps c_hasImage c_tape_length c_tape_bytes c_reader_siteCount c_reader_stepCount c_reader_seenRules c_reader_at c_reader_wordStart c_reader_number c_reader_failed c_reader_rules c_reader_places c_reader_steps))) (va_Qi (fun (q : Int32) (_u : Unit) => q = rr) (fun (_u : Unit) tt => va_P E.1 vwCl (w_X7_fault E a_ a_tape a_reader a_scripts a_now a_trial a_kept a_book a_keptBook a_history a_draws a_refused a_tape_bytes a_reader_rules a_reader_places a_reader_steps c_hasImage c_tape_length c_tape_bytes n_reader_siteCount n_reader_stepCount n_reader_seenRules n_reader_at n_reader_wordStart n_reader_number n_reader_failed n_reader_rules n_reader_places n_reader_steps) tt.heap ∧ va_D (va_A (w_X7_fault E a_ a_tape a_reader a_scripts a_now a_trial a_kept a_book a_keptBook a_history a_draws a_refused a_tape_bytes a_reader_rules a_reader_places a_reader_steps c_hasImage c_tape_length c_tape_bytes c_reader_siteCount c_reader_stepCount c_reader_seenRules c_reader_at c_reader_wordStart c_reader_number c_reader_failed c_reader_rules c_reader_places c_reader_steps) sz) (w_X7_fault E a_ a_tape a_reader a_scripts a_now a_trial a_kept a_book a_keptBook a_history a_draws a_refused a_tape_bytes a_reader_rules a_reader_places a_reader_steps c_hasImage c_tape_length c_tape_bytes n_reader_siteCount n_reader_stepCount n_reader_seenRules n_reader_at n_reader_wordStart n_reader_number n_reader_failed n_reader_rules n_reader_places n_reader_steps)) (va_A (w_X7_fault E a_ a_tape a_reader a_scripts a_now a_trial a_kept a_book a_keptBook a_history a_draws a_refused a_tape_bytes a_reader_rules a_reader_places a_reader_steps c_hasImage c_tape_length c_tape_bytes c_reader_siteCount c_reader_stepCount c_reader_seenRules c_reader_at c_reader_wordStart c_reader_number c_reader_failed c_reader_rules c_reader_places c_reader_steps) sz)) 0 0 (va_A (w_X7_fault E a_ a_tape a_reader a_scripts a_now a_trial a_kept a_book a_keptBook a_history a_draws a_refused a_tape_bytes a_reader_rules a_reader_places a_reader_steps c_hasImage c_tape_length c_tape_bytes c_reader_siteCount c_reader_stepCount c_reader_seenRules c_reader_at c_reader_wordStart c_reader_number c_reader_failed c_reader_rules c_reader_places c_reader_steps) sz) := by
  refine Met.ofW (cc := cX7_fault) (maxL := 2) (ret := (some .int)) (by decide) rfl ?_
  intro p e s m args below meth c s₁ B hml hv
  obtain ⟨rfl, hsz, ⟨hK, hN⟩, hP, hD0, hZ⟩ := hv
  have hx := B.exec
  have hb := B.bytes
  have hr := B.returns
  have hts := atoms_spec (ws := v_f_X7_fault) B.pre
  have hown : s.vm.findClass RX7 = some m.cls := own_of hd_X7_fault.1 (findClass_of_methodNamed B.named)
  have hlocks : meth.locks = false := B.notSynchronized
  subst hsz
  have hD := hD0.self (sz := s.heap.size)
  generalize hAe : va_A (w_X7_fault E a_ a_tape a_reader a_scripts a_now a_trial a_kept a_book a_keptBook a_history a_draws a_refused a_tape_bytes a_reader_rules a_reader_places a_reader_steps c_hasImage c_tape_length c_tape_bytes c_reader_siteCount c_reader_stepCount c_reader_seenRules c_reader_at c_reader_wordStart c_reader_number c_reader_failed c_reader_rules c_reader_places c_reader_steps) s.heap.size = A at hD hZ ⊢
  have hA : ∀ q : Nat, s.heap.size ≤ q → A q := fun q h => by rw [← hAe]; exact Or.inr h
  have hS : va_S A s.heap s.heap [] := va_S.rf
  have hl := lv_entry ([.ref a_, .int p1]) (n := 2) (Nat.le_of_ble_eq_true rfl)
  rw [lg_entry_eq]
  generalize (lg_sl ([.ref a_, .int p1]) ++ List.replicate (2 - (lg_sl ([.ref a_, .int p1])).length) Slot.unset).toArray = ls at hl ⊢
  have hl : lv_has ls 2 [(0, .ref a_), (1, .int p1)] := hl
  obtain ⟨Q, hQ⟩ : ∃ Q : State → Prop, Q = MQ below (va_Qi (fun (q : Int32) (_u : Unit) => q = rr) (fun (_u : Unit) tt => va_P E.1 vwCl (w_X7_fault E a_ a_tape a_reader a_scripts a_now a_trial a_kept a_book a_keptBook a_history a_draws a_refused a_tape_bytes a_reader_rules a_reader_places a_reader_steps c_hasImage c_tape_length c_tape_bytes n_reader_siteCount n_reader_stepCount n_reader_seenRules n_reader_at n_reader_wordStart n_reader_number n_reader_failed n_reader_rules n_reader_places n_reader_steps) tt.heap ∧ va_D A (w_X7_fault E a_ a_tape a_reader a_scripts a_now a_trial a_kept a_book a_keptBook a_history a_draws a_refused a_tape_bytes a_reader_rules a_reader_places a_reader_steps c_hasImage c_tape_length c_tape_bytes n_reader_siteCount n_reader_stepCount n_reader_seenRules n_reader_at n_reader_wordStart n_reader_number n_reader_failed n_reader_rules n_reader_places n_reader_steps)) A) #[Value.ref a_, Value.int p1] s 0 0 A := ⟨_, rfl⟩
  rw [← hQ]
  change W p l e ({ frames := 9, cells := 0, slots := 0, locals := 190 } : Room) s m #[Value.ref a_, Value.int p1] below meth c s.heap [] 0 0 Q (F0 m 0 ls [])
  suffices hh9 : ∀ (H : Heap) (locs : List Loc), va_P E.1 vwCl (w_X7_fault E a_ a_tape a_reader a_scripts a_now a_trial a_kept a_book a_keptBook a_history a_draws a_refused a_tape_bytes a_reader_rules a_reader_places a_reader_steps c_hasImage c_tape_length c_tape_bytes c_reader_siteCount c_reader_stepCount c_reader_seenRules c_reader_at c_reader_wordStart c_reader_number c_reader_failed c_reader_rules c_reader_places c_reader_steps) H → va_D A (w_X7_fault E a_ a_tape a_reader a_scripts a_now a_trial a_kept a_book a_keptBook a_history a_draws a_refused a_tape_bytes a_reader_rules a_reader_places a_reader_steps c_hasImage c_tape_length c_tape_bytes c_reader_siteCount c_reader_stepCount c_reader_seenRules c_reader_at c_reader_wordStart c_reader_number c_reader_failed c_reader_rules c_reader_places c_reader_steps) → va_S A s.heap H locs → W p l e ({ frames := 9, cells := 0, slots := 0, locals := 190 } : Room) s m #[Value.ref a_, Value.int p1] below meth c H locs 0 0 Q (F0 m 0 ls []) from hh9 s.heap [] hP hD hS
  clear hP hD hS
  intro H locs hP hD hS
  have h9 := fixPD (ws' := [k_X7 a_ a_tape a_reader a_scripts a_now a_trial a_kept a_book a_keptBook a_history a_draws a_refused c_hasImage, k_X6 a_tape a_tape_bytes c_tape_length, k_B E a_tape_bytes 320 c_tape_bytes, k_X3 a_reader a_tape a_reader_rules a_reader_places a_reader_steps c_reader_siteCount c_reader_stepCount c_reader_seenRules c_reader_at c_reader_wordStart c_reader_number c_reader_failed, k_I E a_reader_rules 3 c_reader_rules, k_I E a_reader_places 16 c_reader_places, k_I E a_reader_steps 48 c_reader_steps]) hP hD rfl
  clear hP hD
  obtain ⟨hP, hD⟩ := h9
  unfold F_X7_fault at hF
  refine lv_iload_n hx hb (dq_27 0 bcX7_fault_0 (j := 0) rfl rfl) rfl (lv_at hl 1 rfl) ?_
  refine lv_if_ne (tgt := 12) hx hb (dq_154 0 bcX7_fault_0 (j := 1) (i := 11) rfl rfl rfl) (by decide) (fun c_1 => ?_) (fun c_1 => ?_)
  ·
    replace hF := inn c_1 hF
    refine lv_iload_n hx hb (dq_27 0 bcX7_fault_0 (j := 12) rfl rfl) rfl (lv_at hl 1 rfl) ?_
    refine lv_iconst (v := 1) hx hb (dq_4 0 bcX7_fault_0 (j := 13) rfl rfl) (by decide) ?_
    refine lv_icmp_ne (tgt := 27) hx hb (dq_160 0 bcX7_fault_0 (j := 14) (i := 13) rfl rfl rfl) (by decide) (fun c_2 => ?_) (fun c_2 => ?_)
    ·
      replace hF := inn c_2 hF
      refine lv_bipush (v := -2) hx hb (dq_16 0 bcX7_fault_0 (j := 27) (i := -2) rfl rfl rfl) (by decide) ?_
      rw [hQ]
      have h9 := fin9 (P := fun u9 : Int32 × (Nat → Int32) × (Nat → Int32) × (Nat → Int32) × Int32 × Int32 × Int32 × Int32 × Int32 × Int32 × Int32 => (-2 : Int32) = u9.1 ∧ va_P E.1 vwCl (w_X7_fault E a_ a_tape a_reader a_scripts a_now a_trial a_kept a_book a_keptBook a_history a_draws a_refused a_tape_bytes a_reader_rules a_reader_places a_reader_steps c_hasImage c_tape_length c_tape_bytes u9.2.2.2.2.1 u9.2.2.2.2.2.1 u9.2.2.2.2.2.2.1 u9.2.2.2.2.2.2.2.1 u9.2.2.2.2.2.2.2.2.1 u9.2.2.2.2.2.2.2.2.2.1 u9.2.2.2.2.2.2.2.2.2.2 u9.2.1 u9.2.2.1 u9.2.2.2.1) H ∧ va_D A (w_X7_fault E a_ a_tape a_reader a_scripts a_now a_trial a_kept a_book a_keptBook a_history a_draws a_refused a_tape_bytes a_reader_rules a_reader_places a_reader_steps c_hasImage c_tape_length c_tape_bytes u9.2.2.2.2.1 u9.2.2.2.2.2.1 u9.2.2.2.2.2.2.1 u9.2.2.2.2.2.2.2.1 u9.2.2.2.2.2.2.2.2.1 u9.2.2.2.2.2.2.2.2.2.1 u9.2.2.2.2.2.2.2.2.2.2 u9.2.1 u9.2.2.1 u9.2.2.2.1)) hF ⟨rfl, hP, hD⟩
      obtain ⟨e9_0, hP9, hD9⟩ := h9
      exact W.iret (v := (-2 : Int32)) hx hb hr (fun tt ht hW => ⟨⟨_, (), rfl, e9_0, ht ▸ hP9, hD9⟩, hS.F ht⟩) hS.2.2 (dq_172 0 bcX7_fault_0 (j := 29) rfl rfl)
    ·
      replace hF := ip c_2 hF
      refine lv_aload_n hx hb (dq_42 0 bcX7_fault_0 (j := 17) rfl rfl) rfl (lv_at hl 0 rfl) ?_
      refine gt_X7_1 (v := .ref a_reader) hx hb hts i_f_X7_fault_X7 hown hK hP 0 rfl (hts (.fieldLink RX7 21 "HushWatch" "reader" "LHushWatch$Reader;") (List.mem_of_getElem? (i := 1) rfl)) rfl (dq_180 0 bcX7_fault_0 (j := 18) (i := 21) rfl rfl rfl) ?_
      replace hF := bd10_s hF
      obtain ⟨r_3, w_4, w_5, w_6, w_7, w_8, w_9, w_10, w_11, w_12, hc_13, hF⟩ := hF
      obtain ⟨hPc, hDc, hFc⟩ := wcut (wc := (w_X3_readScript E a_reader a_tape a_reader_rules a_reader_places a_reader_steps a_tape_bytes c_reader_siteCount c_reader_stepCount c_reader_seenRules c_reader_at c_reader_wordStart c_reader_number c_reader_failed c_tape_length c_tape_bytes c_reader_rules c_reader_steps)) hP hD hS hA [3, 1, 2, 4, 6] (by decide) rfl
      have hrc := va_recv hK hPc (ci := 4) (q0 := 0) rfl rfl
      refine cE_i (wc := (w_X3_readScript E a_reader a_tape a_reader_rules a_reader_places a_reader_steps a_tape_bytes c_reader_siteCount c_reader_stepCount c_reader_seenRules c_reader_at c_reader_wordStart c_reader_number c_reader_failed c_tape_length c_tape_bytes c_reader_rules c_reader_steps)) (wr := [k_X7 a_ a_tape a_reader a_scripts a_now a_trial a_kept a_book a_keptBook a_history a_draws a_refused c_hasImage, k_I E a_reader_places 16 c_reader_places]) (w1 := (w_X3_readScript E a_reader a_tape a_reader_rules a_reader_places a_reader_steps a_tape_bytes w_6 w_7 w_8 w_9 w_10 w_11 w_12 c_tape_length c_tape_bytes w_4 w_5)) (va_runV (As := []) (rest := [])  ⟨hx, hb, hml, hown, hts⟩ (f_X3_readScript l E H.size K z9 (a_ := a_reader) (a_tape := a_tape) (a_rules := a_reader_rules) (a_places := a_reader_places) (a_steps := a_reader_steps) (a_tape_bytes := a_tape_bytes) (c_siteCount := c_reader_siteCount) (c_stepCount := c_reader_stepCount) (c_seenRules := c_reader_seenRules) (c_at := c_reader_at) (c_wordStart := c_reader_wordStart) (c_number := c_reader_number) (c_failed := c_reader_failed) (c_tape_length := c_tape_length) (c_tape_bytes := c_tape_bytes) (c_rules := c_reader_rules) (c_steps := c_reader_steps) hc_13) (cwV 0 hts g_f_X7_fault_f_X3_readScript_97 rfl rfl rfl hd_X3_readScript ⟨Nat.le_of_ble_eq_true rfl, Nat.le_of_ble_eq_true rfl⟩) ⟨qWZ.blind, hrc, (qWZ.pre ⟨hK, hN⟩ hPc hDc hZ hS hFc)⟩ rfl rfl hl.1 rfl (lv_room (Nat.le_of_ble_eq_true rfl)) (dq_182 0 bcX7_fault_0 (j := 21) (i := 97) rfl rfl rfl) ⟨Nat.le_of_ble_eq_true rfl, Nat.le_of_ble_eq_true rfl⟩) hS hFc hP hD [3, 1, 2, 4, 6] [0, 5] rfl rfl (by decide) (by decide) (fun H locs hP hD hS => ?_)
      have h9 := fixPD (ws' := [k_X7 a_ a_tape a_reader a_scripts a_now a_trial a_kept a_book a_keptBook a_history a_draws a_refused c_hasImage, k_I E a_reader_places 16 c_reader_places, k_X3 a_reader a_tape a_reader_rules a_reader_places a_reader_steps w_6 w_7 w_8 w_9 w_10 w_11 w_12, k_X6 a_tape a_tape_bytes c_tape_length, k_B E a_tape_bytes 320 c_tape_bytes, k_I E a_reader_rules 3 w_4, k_I E a_reader_steps 48 w_5]) hP hD rfl
      clear hP hD
      obtain ⟨hP, hD⟩ := h9
      refine lv_goto (tgt := 29) hx hb (dq_167 0 bcX7_fault_0 (j := 24) (i := 5) rfl rfl rfl) (by decide) ?_
      rw [hQ]
      have h9 := fin9 (P := fun u9 : Int32 × (Nat → Int32) × (Nat → Int32) × (Nat → Int32) × Int32 × Int32 × Int32 × Int32 × Int32 × Int32 × Int32 => r_3 = u9.1 ∧ va_P E.1 vwCl (w_X7_fault E a_ a_tape a_reader a_scripts a_now a_trial a_kept a_book a_keptBook a_history a_draws a_refused a_tape_bytes a_reader_rules a_reader_places a_reader_steps c_hasImage c_tape_length c_tape_bytes u9.2.2.2.2.1 u9.2.2.2.2.2.1 u9.2.2.2.2.2.2.1 u9.2.2.2.2.2.2.2.1 u9.2.2.2.2.2.2.2.2.1 u9.2.2.2.2.2.2.2.2.2.1 u9.2.2.2.2.2.2.2.2.2.2 u9.2.1 u9.2.2.1 u9.2.2.2.1) H ∧ va_D A (w_X7_fault E a_ a_tape a_reader a_scripts a_now a_trial a_kept a_book a_keptBook a_history a_draws a_refused a_tape_bytes a_reader_rules a_reader_places a_reader_steps c_hasImage c_tape_length c_tape_bytes u9.2.2.2.2.1 u9.2.2.2.2.2.1 u9.2.2.2.2.2.2.1 u9.2.2.2.2.2.2.2.1 u9.2.2.2.2.2.2.2.2.1 u9.2.2.2.2.2.2.2.2.2.1 u9.2.2.2.2.2.2.2.2.2.2 u9.2.1 u9.2.2.1 u9.2.2.2.1)) hF ⟨rfl, hP.sub [0, 3, 4, 2, 5, 1, 6] rfl, hD.sub [0, 3, 4, 2, 5, 1, 6] (by decide) rfl⟩
      obtain ⟨e9_0, hP9, hD9⟩ := h9
      exact W.iret (v := r_3) hx hb hr (fun tt ht hW => ⟨⟨_, (), rfl, e9_0, ht ▸ hP9, hD9⟩, hS.F ht⟩) hS.2.2 (dq_172 0 bcX7_fault_0 (j := 29) rfl rfl)
  ·
    replace hF := ip c_1 hF
    refine lv_aload_n hx hb (dq_42 0 bcX7_fault_0 (j := 4) rfl rfl) rfl (lv_at hl 0 rfl) ?_
    refine gt_X7_1 (v := .ref a_reader) hx hb hts i_f_X7_fault_X7 hown hK hP 0 rfl (hts (.fieldLink RX7 21 "HushWatch" "reader" "LHushWatch$Reader;") (List.mem_of_getElem? (i := 1) rfl)) rfl (dq_180 0 bcX7_fault_0 (j := 5) (i := 21) rfl rfl rfl) ?_
    replace hF := bd10_s hF
    obtain ⟨r_14, w_15, w_16, w_17, w_18, w_19, w_20, w_21, w_22, w_23, hc_24, hF⟩ := hF
    obtain ⟨hPc, hDc, hFc⟩ := wcut (wc := (w_X3_readWatch E a_reader a_tape a_reader_rules a_reader_places a_reader_steps a_tape_bytes c_reader_siteCount c_reader_stepCount c_reader_seenRules c_reader_at c_reader_wordStart c_reader_number c_reader_failed c_tape_length c_tape_bytes c_reader_rules c_reader_places)) hP hD hS hA [3, 1, 2, 4, 5] (by decide) rfl
    have hrc := va_recv hK hPc (ci := 4) (q0 := 0) rfl rfl
    refine cE_i (wc := (w_X3_readWatch E a_reader a_tape a_reader_rules a_reader_places a_reader_steps a_tape_bytes c_reader_siteCount c_reader_stepCount c_reader_seenRules c_reader_at c_reader_wordStart c_reader_number c_reader_failed c_tape_length c_tape_bytes c_reader_rules c_reader_places)) (wr := [k_X7 a_ a_tape a_reader a_scripts a_now a_trial a_kept a_book a_keptBook a_history a_draws a_refused c_hasImage, k_I E a_reader_steps 48 c_reader_steps]) (w1 := (w_X3_readWatch E a_reader a_tape a_reader_rules a_reader_places a_reader_steps a_tape_bytes w_17 w_18 w_19 w_20 w_21 w_22 w_23 c_tape_length c_tape_bytes w_15 w_16)) (va_runV (As := []) (rest := [])  ⟨hx, hb, hml, hown, hts⟩ (f_X3_readWatch l E H.size K z9 (a_ := a_reader) (a_tape := a_tape) (a_rules := a_reader_rules) (a_places := a_reader_places) (a_steps := a_reader_steps) (a_tape_bytes := a_tape_bytes) (c_siteCount := c_reader_siteCount) (c_stepCount := c_reader_stepCount) (c_seenRules := c_reader_seenRules) (c_at := c_reader_at) (c_wordStart := c_reader_wordStart) (c_number := c_reader_number) (c_failed := c_reader_failed) (c_tape_length := c_tape_length) (c_tape_bytes := c_tape_bytes) (c_rules := c_reader_rules) (c_places := c_reader_places) hc_24) (cwV 0 hts g_f_X7_fault_f_X3_readWatch_93 rfl rfl rfl hd_X3_readWatch ⟨Nat.le_of_ble_eq_true rfl, Nat.le_of_ble_eq_true rfl⟩) ⟨qWZ.blind, hrc, (qWZ.pre ⟨hK, hN⟩ hPc hDc hZ hS hFc)⟩ rfl rfl hl.1 rfl (lv_room (Nat.le_of_ble_eq_true rfl)) (dq_182 0 bcX7_fault_0 (j := 8) (i := 93) rfl rfl rfl) ⟨Nat.le_of_ble_eq_true rfl, Nat.le_of_ble_eq_true rfl⟩) hS hFc hP hD [3, 1, 2, 4, 5] [0, 6] rfl rfl (by decide) (by decide) (fun H locs hP hD hS => ?_)
    have h9 := fixPD (ws' := [k_X7 a_ a_tape a_reader a_scripts a_now a_trial a_kept a_book a_keptBook a_history a_draws a_refused c_hasImage, k_I E a_reader_steps 48 c_reader_steps, k_X3 a_reader a_tape a_reader_rules a_reader_places a_reader_steps w_17 w_18 w_19 w_20 w_21 w_22 w_23, k_X6 a_tape a_tape_bytes c_tape_length, k_B E a_tape_bytes 320 c_tape_bytes, k_I E a_reader_rules 3 w_15, k_I E a_reader_places 16 w_16]) hP hD rfl
    clear hP hD
    obtain ⟨hP, hD⟩ := h9
    rw [hQ]
    have h9 := fin9 (P := fun u9 : Int32 × (Nat → Int32) × (Nat → Int32) × (Nat → Int32) × Int32 × Int32 × Int32 × Int32 × Int32 × Int32 × Int32 => r_14 = u9.1 ∧ va_P E.1 vwCl (w_X7_fault E a_ a_tape a_reader a_scripts a_now a_trial a_kept a_book a_keptBook a_history a_draws a_refused a_tape_bytes a_reader_rules a_reader_places a_reader_steps c_hasImage c_tape_length c_tape_bytes u9.2.2.2.2.1 u9.2.2.2.2.2.1 u9.2.2.2.2.2.2.1 u9.2.2.2.2.2.2.2.1 u9.2.2.2.2.2.2.2.2.1 u9.2.2.2.2.2.2.2.2.2.1 u9.2.2.2.2.2.2.2.2.2.2 u9.2.1 u9.2.2.1 u9.2.2.2.1) H ∧ va_D A (w_X7_fault E a_ a_tape a_reader a_scripts a_now a_trial a_kept a_book a_keptBook a_history a_draws a_refused a_tape_bytes a_reader_rules a_reader_places a_reader_steps c_hasImage c_tape_length c_tape_bytes u9.2.2.2.2.1 u9.2.2.2.2.2.1 u9.2.2.2.2.2.2.1 u9.2.2.2.2.2.2.2.1 u9.2.2.2.2.2.2.2.2.1 u9.2.2.2.2.2.2.2.2.2.1 u9.2.2.2.2.2.2.2.2.2.2 u9.2.1 u9.2.2.1 u9.2.2.2.1)) hF ⟨rfl, hP.sub [0, 3, 4, 2, 5, 6, 1] rfl, hD.sub [0, 3, 4, 2, 5, 6, 1] (by decide) rfl⟩
    obtain ⟨e9_0, hP9, hD9⟩ := h9
    exact W.iret (v := r_14) hx hb hr (fun tt ht hW => ⟨⟨_, (), rfl, e9_0, ht ▸ hP9, hD9⟩, hS.F ht⟩) hS.2.2 (dq_172 0 bcX7_fault_0 (j := 11) rfl rfl)

def F_X7_feed (K : Nat) (p1 : Int32) (p2 : Int32) (p3 : Int32) (p4 : Int32) (p5 : Int32) (c_tape_bytes : Nat → Int32) (c_tape_length : Int32) : Option (Int32 × (Nat → Int32) × Int32) :=
  bd1 (F_X6_bytesIn K p1) (fun r_1 => bd1 (F_X6_bytesIn K p2) (fun r_3 => bd1 (F_X6_bytesIn K p3) (fun r_5 => bd1 (F_X6_bytesIn K p4) (fun r_7 => bd1 (F_X6_bytesIn K p5) (fun r_9 => if c_tape_length + ((((r_1 + r_3) + r_5) + r_7) + r_9) ≤ (320 : Int32) then bd2 (F_X6_take K p1 c_tape_bytes c_tape_length) (fun w_12 w_13 => bd2 (F_X6_take K p2 w_12 w_13) (fun w_15 w_16 => bd2 (F_X6_take K p3 w_15 w_16) (fun w_18 w_19 => bd2 (F_X6_take K p4 w_18 w_19) (fun w_21 w_22 => bd2 (F_X6_take K p5 w_21 w_22) (fun w_24 w_25 => some (w_25, w_24, w_25)))))) else some ((-1 : Int32), c_tape_bytes, c_tape_length))))))
abbrev w_X7_feed (E : EE) (a_ a_tape a_reader a_scripts a_now a_trial a_kept a_book a_keptBook a_history a_draws a_refused a_tape_bytes : Nat) (c_hasImage : Int32) (c_tape_length : Int32) (c_tape_bytes : Nat → Int32) : va_W := [k_X7 a_ a_tape a_reader a_scripts a_now a_trial a_kept a_book a_keptBook a_history a_draws a_refused c_hasImage, k_X6 a_tape a_tape_bytes c_tape_length, k_B E a_tape_bytes 320 c_tape_bytes]
def v_f_X7_feed : List Cond := List.cons (.code yX7_feed cX7_feed 7 (some .int)) (HAppend.hAppend (α := List Cond) (β := List Cond) (γ := List Cond) [.fieldLink RX7 10 "HushWatch" "tape" "LHushWatch$Tape;", .methodLink RX7 77 yX6_bytesIn, .static yX6_bytesIn, .initialized RX6, .methodLink RX7 85 yX6_take, .instanceMethod yX6_take, .selects RX6 yX6_take yX6_take] (HAppend.hAppend (α := List Cond) (β := List Cond) (γ := List Cond) v_f_X6_bytesIn (HAppend.hAppend (α := List Cond) (β := List Cond) (γ := List Cond) wsX70 (HAppend.hAppend (α := List Cond) (β := List Cond) (γ := List Cond) wsX60 (HAppend.hAppend (α := List Cond) (β := List Cond) (γ := List Cond) v_f_X6_take [])))))
theorem gw_f_X7_feed : v_f_X7_feed.all goodWord = true := gw_c2 (by decide +kernel) (gw_ap gw_f_X6_bytesIn (gw_ap gw_wsX70 (gw_ap gw_wsX60 (gw_ap gw_f_X6_take gw_nil))))
theorem i_f_X7_feed_X7 : ∀ w ∈ wsX70, w ∈ v_f_X7_feed := fun _ h => List.mem_cons_of_mem _ (List.mem_append_right _ (List.mem_append_right _ (List.mem_append_left _ h)))
theorem i_f_X7_feed_X6 : ∀ w ∈ wsX60, w ∈ v_f_X7_feed := fun _ h => List.mem_cons_of_mem _ (List.mem_append_right _ (List.mem_append_right _ (List.mem_append_right _ (List.mem_append_left _ h))))
theorem g_f_X7_feed_f_X6_bytesIn_77 : GoodIn v_f_X7_feed (va_wsS RX7 77 yX6_bytesIn v_f_X6_bytesIn) := goodIn_in gw_f_X7_feed (in3 2 3 4 rfl rfl rfl (fun _ h => List.mem_cons_of_mem _ (List.mem_append_right _ (List.mem_append_left _ h))))
theorem g_f_X7_feed_f_X6_take_85 : GoodIn v_f_X7_feed (wsV RX7 85 RX6 yX6_take v_f_X6_take) := goodIn_in gw_f_X7_feed (in4 5 6 7 4 rfl rfl rfl rfl (fun _ h => List.mem_cons_of_mem _ (List.mem_append_right _ (List.mem_append_right _ (List.mem_append_right _ (List.mem_append_right _ (List.mem_append_left _ h)))))))
theorem hd_X7_feed : yX7_feed.cls = RX7 ∧ yX7_feed.cls ≠ "java/lang/invoke/MethodHandle" ∧ yX7_feed.cls ≠ "java/lang/invoke/VarHandle" ∧ (parseMethodDescriptor yX7_feed.desc).map (fun d => d.parameters.length) = some 5 := by decide +kernel
set_option maxHeartbeats 4000000 in
set_option maxRecDepth 100000 in
theorem f_X7_feed (l : Launch) (E : EE) (sz : Nat) (K : Nat) {a_ a_tape a_reader a_scripts a_now a_trial a_kept a_book a_keptBook a_history a_draws a_refused a_tape_bytes : Nat} {p1 : Int32} {p2 : Int32} {p3 : Int32} {p4 : Int32} {p5 : Int32} {c_hasImage : Int32} {c_tape_length : Int32} {c_tape_bytes : Nat → Int32} {rr : Int32} {n_tape_bytes : Nat → Int32} {n_tape_length : Int32} (hF : F_X7_feed K p1 p2 p3 p4 p5 c_tape_bytes c_tape_length = some (rr, n_tape_bytes, n_tape_length)) : Met l yX7_feed v_f_X7_feed (({ frames := 1, cells := 0, slots := 0, locals := 23 } : Room)) (va_Pc [.ref a_, .int p1, .int p2, .int p3, .int p4, .int p5] (pW E sz (w_X7_feed E a_ a_tape a_reader a_scripts a_now a_trial a_kept a_book a_keptBook a_history a_draws a_refused a_tape_bytes c_hasImage c_tape_length c_tape_bytes))) (va_Qi (fun (q : Int32) (_u : Unit) => q = rr) (fun (_u : Unit) tt => va_P E.1 vwCl (w_X7_feed E a_ a_tape a_reader a_scripts a_now a_trial a_kept a_book a_keptBook a_history a_draws a_refused a_tape_bytes c_hasImage n_tape_length n_tape_bytes) tt.heap ∧ va_D (va_A (w_X7_feed E a_ a_tape a_reader a_scripts a_now a_trial a_kept a_book a_keptBook a_history a_draws a_refused a_tape_bytes c_hasImage c_tape_length c_tape_bytes) sz) (w_X7_feed E a_ a_tape a_reader a_scripts a_now a_trial a_kept a_book a_keptBook a_history a_draws a_refused a_tape_bytes c_hasImage n_tape_length n_tape_bytes)) (va_A (w_X7_feed E a_ a_tape a_reader a_scripts a_now a_trial a_kept a_book a_keptBook a_history a_draws a_refused a_tape_bytes c_hasImage c_tape_length c_tape_bytes) sz)) 0 0 (va_A (w_X7_feed E a_ a_tape a_reader a_scripts a_now a_trial a_kept a_book a_keptBook a_history a_draws a_refused a_tape_bytes c_hasImage c_tape_length c_tape_bytes) sz) := by
  refine Met.ofW (cc := cX7_feed) (maxL := 7) (ret := (some .int)) (by decide) rfl ?_
  intro p e s m args below meth c s₁ B hml hv
  obtain ⟨rfl, hsz, ⟨hK, hN⟩, hP, hD0⟩ := hv
  have hx := B.exec
  have hb := B.bytes
  have hr := B.returns
  have hts := atoms_spec (ws := v_f_X7_feed) B.pre
  have hown : s.vm.findClass RX7 = some m.cls := own_of hd_X7_feed.1 (findClass_of_methodNamed B.named)
  have hlocks : meth.locks = false := B.notSynchronized
  subst hsz
  have hD := hD0.self (sz := s.heap.size)
  generalize hAe : va_A (w_X7_feed E a_ a_tape a_reader a_scripts a_now a_trial a_kept a_book a_keptBook a_history a_draws a_refused a_tape_bytes c_hasImage c_tape_length c_tape_bytes) s.heap.size = A at hD ⊢
  have hA : ∀ q : Nat, s.heap.size ≤ q → A q := fun q h => by rw [← hAe]; exact Or.inr h
  have hS : va_S A s.heap s.heap [] := va_S.rf
  have hl := lv_entry ([.ref a_, .int p1, .int p2, .int p3, .int p4, .int p5]) (n := 7) (Nat.le_of_ble_eq_true rfl)
  rw [lg_entry_eq]
  generalize (lg_sl ([.ref a_, .int p1, .int p2, .int p3, .int p4, .int p5]) ++ List.replicate (7 - (lg_sl ([.ref a_, .int p1, .int p2, .int p3, .int p4, .int p5])).length) Slot.unset).toArray = ls at hl ⊢
  have hl : lv_has ls 7 [(0, .ref a_), (1, .int p1), (2, .int p2), (3, .int p3), (4, .int p4), (5, .int p5)] := hl
  obtain ⟨Q, hQ⟩ : ∃ Q : State → Prop, Q = MQ below (va_Qi (fun (q : Int32) (_u : Unit) => q = rr) (fun (_u : Unit) tt => va_P E.1 vwCl (w_X7_feed E a_ a_tape a_reader a_scripts a_now a_trial a_kept a_book a_keptBook a_history a_draws a_refused a_tape_bytes c_hasImage n_tape_length n_tape_bytes) tt.heap ∧ va_D A (w_X7_feed E a_ a_tape a_reader a_scripts a_now a_trial a_kept a_book a_keptBook a_history a_draws a_refused a_tape_bytes c_hasImage n_tape_length n_tape_bytes)) A) #[Value.ref a_, Value.int p1, Value.int p2, Value.int p3, Value.int p4, Value.int p5] s 0 0 A := ⟨_, rfl⟩
  rw [← hQ]
  change W p l e ({ frames := 1, cells := 0, slots := 0, locals := 23 } : Room) s m #[Value.ref a_, Value.int p1, Value.int p2, Value.int p3, Value.int p4, Value.int p5] below meth c s.heap [] 0 0 Q (F0 m 0 ls [])
  suffices hh9 : ∀ (H : Heap) (locs : List Loc), va_P E.1 vwCl (w_X7_feed E a_ a_tape a_reader a_scripts a_now a_trial a_kept a_book a_keptBook a_history a_draws a_refused a_tape_bytes c_hasImage c_tape_length c_tape_bytes) H → va_D A (w_X7_feed E a_ a_tape a_reader a_scripts a_now a_trial a_kept a_book a_keptBook a_history a_draws a_refused a_tape_bytes c_hasImage c_tape_length c_tape_bytes) → va_S A s.heap H locs → W p l e ({ frames := 1, cells := 0, slots := 0, locals := 23 } : Room) s m #[Value.ref a_, Value.int p1, Value.int p2, Value.int p3, Value.int p4, Value.int p5] below meth c H locs 0 0 Q (F0 m 0 ls []) from hh9 s.heap [] hP hD hS
  clear hP hD hS
  intro H locs hP hD hS
  have h9 := fixPD (ws' := [k_X7 a_ a_tape a_reader a_scripts a_now a_trial a_kept a_book a_keptBook a_history a_draws a_refused c_hasImage, k_X6 a_tape a_tape_bytes c_tape_length, k_B E a_tape_bytes 320 c_tape_bytes]) hP hD rfl
  clear hP hD
  obtain ⟨hP, hD⟩ := h9
  unfold F_X7_feed at hF
  refine lv_iload_n hx hb (dq_27 0 bcX7_feed_0 (j := 0) rfl rfl) rfl (lv_at hl 1 rfl) ?_
  replace hF := bd1_s hF
  obtain ⟨r_1, hc_2, hF⟩ := hF
  have hPc : va_P E.1 vwCl [] H := fun k q h => by simp at h
  refine pE_i (va_runS (As := [.int p1]) (rest := [])  ⟨hx, hb, hml, hown, hts⟩ (f_X6_bytesIn l E K (p0 := p1) hc_2) (va_cwS 1 hts g_f_X7_feed_f_X6_bytesIn_77 rfl rfl rfl hd_X6_bytesIn.2 ⟨Nat.le_of_ble_eq_true rfl, Nat.le_of_ble_eq_true rfl⟩) ⟨pP.blind, (pP.pre ⟨hK, hN⟩ hPc)⟩ rfl rfl hl.1 rfl (lv_room (Nat.le_of_ble_eq_true rfl)) (dq_184 0 bcX7_feed_0 (j := 1) (i := 77) rfl rfl rfl) ⟨Nat.le_of_ble_eq_true rfl, Nat.le_of_ble_eq_true rfl⟩) ?_
  refine lv_iload_n hx hb (dq_28 0 bcX7_feed_0 (j := 4) rfl rfl) rfl (lv_at hl 2 rfl) ?_
  replace hF := bd1_s hF
  obtain ⟨r_3, hc_4, hF⟩ := hF
  have hPc : va_P E.1 vwCl [] H := fun k q h => by simp at h
  refine pE_i (va_runS (As := [.int p2]) (rest := [.int r_1])  ⟨hx, hb, hml, hown, hts⟩ (f_X6_bytesIn l E K (p0 := p2) hc_4) (va_cwS 1 hts g_f_X7_feed_f_X6_bytesIn_77 rfl rfl rfl hd_X6_bytesIn.2 ⟨Nat.le_of_ble_eq_true rfl, Nat.le_of_ble_eq_true rfl⟩) ⟨pP.blind, (pP.pre ⟨hK, hN⟩ hPc)⟩ rfl rfl hl.1 rfl (lv_room (Nat.le_of_ble_eq_true rfl)) (dq_184 0 bcX7_feed_0 (j := 5) (i := 77) rfl rfl rfl) ⟨Nat.le_of_ble_eq_true rfl, Nat.le_of_ble_eq_true rfl⟩) ?_
  refine lv_iadd hx hb (dq_96 0 bcX7_feed_0 (j := 8) rfl rfl) ?_
  refine lv_iload_n hx hb (dq_29 0 bcX7_feed_0 (j := 9) rfl rfl) rfl (lv_at hl 3 rfl) ?_
  replace hF := bd1_s hF
  obtain ⟨r_5, hc_6, hF⟩ := hF
  have hPc : va_P E.1 vwCl [] H := fun k q h => by simp at h
  refine pE_i (va_runS (As := [.int p3]) (rest := [.int (r_1 + r_3)])  ⟨hx, hb, hml, hown, hts⟩ (f_X6_bytesIn l E K (p0 := p3) hc_6) (va_cwS 1 hts g_f_X7_feed_f_X6_bytesIn_77 rfl rfl rfl hd_X6_bytesIn.2 ⟨Nat.le_of_ble_eq_true rfl, Nat.le_of_ble_eq_true rfl⟩) ⟨pP.blind, (pP.pre ⟨hK, hN⟩ hPc)⟩ rfl rfl hl.1 rfl (lv_room (Nat.le_of_ble_eq_true rfl)) (dq_184 0 bcX7_feed_0 (j := 10) (i := 77) rfl rfl rfl) ⟨Nat.le_of_ble_eq_true rfl, Nat.le_of_ble_eq_true rfl⟩) ?_
  refine lv_iadd hx hb (dq_96 0 bcX7_feed_0 (j := 13) rfl rfl) ?_
  refine lv_iload hx hb (dq_21 0 bcX7_feed_0 (j := 14) (i := 4) rfl rfl) (lv_at hl 4 rfl) ?_
  replace hF := bd1_s hF
  obtain ⟨r_7, hc_8, hF⟩ := hF
  have hPc : va_P E.1 vwCl [] H := fun k q h => by simp at h
  refine pE_i (va_runS (As := [.int p4]) (rest := [.int ((r_1 + r_3) + r_5)])  ⟨hx, hb, hml, hown, hts⟩ (f_X6_bytesIn l E K (p0 := p4) hc_8) (va_cwS 1 hts g_f_X7_feed_f_X6_bytesIn_77 rfl rfl rfl hd_X6_bytesIn.2 ⟨Nat.le_of_ble_eq_true rfl, Nat.le_of_ble_eq_true rfl⟩) ⟨pP.blind, (pP.pre ⟨hK, hN⟩ hPc)⟩ rfl rfl hl.1 rfl (lv_room (Nat.le_of_ble_eq_true rfl)) (dq_184 0 bcX7_feed_0 (j := 16) (i := 77) rfl rfl rfl) ⟨Nat.le_of_ble_eq_true rfl, Nat.le_of_ble_eq_true rfl⟩) ?_
  refine lv_iadd hx hb (dq_96 0 bcX7_feed_0 (j := 19) rfl rfl) ?_
  refine lv_iload hx hb (dq_21 0 bcX7_feed_0 (j := 20) (i := 5) rfl rfl) (lv_at hl 5 rfl) ?_
  replace hF := bd1_s hF
  obtain ⟨r_9, hc_10, hF⟩ := hF
  have hPc : va_P E.1 vwCl [] H := fun k q h => by simp at h
  refine pE_i (va_runS (As := [.int p5]) (rest := [.int (((r_1 + r_3) + r_5) + r_7)])  ⟨hx, hb, hml, hown, hts⟩ (f_X6_bytesIn l E K (p0 := p5) hc_10) (va_cwS 1 hts g_f_X7_feed_f_X6_bytesIn_77 rfl rfl rfl hd_X6_bytesIn.2 ⟨Nat.le_of_ble_eq_true rfl, Nat.le_of_ble_eq_true rfl⟩) ⟨pP.blind, (pP.pre ⟨hK, hN⟩ hPc)⟩ rfl rfl hl.1 rfl (lv_room (Nat.le_of_ble_eq_true rfl)) (dq_184 0 bcX7_feed_0 (j := 22) (i := 77) rfl rfl rfl) ⟨Nat.le_of_ble_eq_true rfl, Nat.le_of_ble_eq_true rfl⟩) ?_
  refine lv_iadd hx hb (dq_96 0 bcX7_feed_0 (j := 25) rfl rfl) ?_
  refine lv_istore (lv' := [(6, .int ((((r_1 + r_3) + r_5) + r_7) + r_9)), (0, .ref a_), (1, .int p1), (2, .int p2), (3, .int p3), (4, .int p4), (5, .int p5)]) hx hb (dq_54 0 bcX7_feed_0 (j := 26) (i := 6) rfl rfl) hl (by decide) rfl (fun ls hl => ?_)
  refine lv_aload_n hx hb (dq_42 0 bcX7_feed_0 (j := 28) rfl rfl) rfl (lv_at hl 1 rfl) ?_
  refine gt_X7_0 (v := .ref a_tape) hx hb hts i_f_X7_feed_X7 hown hK hP 0 rfl (hts (.fieldLink RX7 10 "HushWatch" "tape" "LHushWatch$Tape;") (List.mem_of_getElem? (i := 1) rfl)) rfl (dq_180 0 bcX7_feed_0 (j := 29) (i := 10) rfl rfl rfl) ?_
  refine va_getN (D := E.1) (ci := 7) (v := .int c_tape_length) (C := RX6) (T := TX6) (N := 2) hx hb hts i_f_X7_feed_X6 hown hK hP 1 rfl rfl 1 (by decide) (nx hN 1 rfl) (fun _ h9 => h9) rfl (dq_180 0 bcX7_feed_0 (j := 32) (i := 81) rfl rfl rfl) ?_
  refine lv_iload hx hb (dq_21 0 bcX7_feed_0 (j := 35) (i := 6) rfl rfl) (lv_at hl 0 rfl) ?_
  refine lv_iadd hx hb (dq_96 0 bcX7_feed_0 (j := 37) rfl rfl) ?_
  refine lv_sipush (v := 320) hx hb (dq_17 0 bcX7_feed_0 (j := 38) (i := 320) rfl rfl rfl) (by decide) ?_
  refine lv_icmp_le (tgt := 46) hx hb (dq_164 0 bcX7_feed_0 (j := 41) (i := 5) rfl rfl rfl) (by decide) (fun c_11 => ?_) (fun c_11 => ?_)
  ·
    replace hF := ip c_11 hF
    refine lv_aload_n hx hb (dq_42 0 bcX7_feed_0 (j := 46) rfl rfl) rfl (lv_at hl 1 rfl) ?_
    refine gt_X7_0 (v := .ref a_tape) hx hb hts i_f_X7_feed_X7 hown hK hP 0 rfl (hts (.fieldLink RX7 10 "HushWatch" "tape" "LHushWatch$Tape;") (List.mem_of_getElem? (i := 1) rfl)) rfl (dq_180 0 bcX7_feed_0 (j := 47) (i := 10) rfl rfl rfl) ?_
    refine lv_iload_n hx hb (dq_27 48 bcX7_feed_1 (j := 2) rfl rfl) rfl (lv_at hl 2 rfl) ?_
    replace hF := bd2_s hF
    obtain ⟨w_12, w_13, hc_14, hF⟩ := hF
    obtain ⟨hPc, hDc, hFc⟩ := wcut (wc := (w_X6_take E a_tape a_tape_bytes c_tape_length c_tape_bytes)) hP hD hS hA [1, 2] (by decide) rfl
    have hrc := va_recv hK hPc (ci := 7) (q0 := 0) rfl rfl
    refine cE_v (wc := (w_X6_take E a_tape a_tape_bytes c_tape_length c_tape_bytes)) (wr := [k_X7 a_ a_tape a_reader a_scripts a_now a_trial a_kept a_book a_keptBook a_history a_draws a_refused c_hasImage]) (w1 := (w_X6_take E a_tape a_tape_bytes w_13 w_12)) (va_runV (As := [.int p1]) (rest := [])  ⟨hx, hb, hml, hown, hts⟩ (f_X6_take l E H.size K (a_ := a_tape) (a_bytes := a_tape_bytes) (p1 := p1) (c_length := c_tape_length) (c_bytes := c_tape_bytes) hc_14) (cwV 1 hts g_f_X7_feed_f_X6_take_85 rfl rfl rfl hd_X6_take ⟨Nat.le_of_ble_eq_true rfl, Nat.le_of_ble_eq_true rfl⟩) ⟨pW.blind, hrc, (pW.pre ⟨hK, hN⟩ hPc hDc)⟩ rfl rfl hl.1 rfl (lv_room (Nat.le_of_ble_eq_true rfl)) (dq_182 48 bcX7_feed_1 (j := 3) (i := 85) rfl rfl rfl) ⟨Nat.le_of_ble_eq_true rfl, Nat.le_of_ble_eq_true rfl⟩) hS hFc hP hD [1, 2] [0] rfl rfl (by decide) (by decide) (fun H locs hP hD hS => ?_)
    have h9 := fixPD (ws' := [k_X7 a_ a_tape a_reader a_scripts a_now a_trial a_kept a_book a_keptBook a_history a_draws a_refused c_hasImage, k_X6 a_tape a_tape_bytes w_13, k_B E a_tape_bytes 320 w_12]) hP hD rfl
    clear hP hD
    obtain ⟨hP, hD⟩ := h9
    refine lv_aload_n hx hb (dq_42 48 bcX7_feed_1 (j := 6) rfl rfl) rfl (lv_at hl 1 rfl) ?_
    refine gt_X7_0 (v := .ref a_tape) hx hb hts i_f_X7_feed_X7 hown hK hP 0 rfl (hts (.fieldLink RX7 10 "HushWatch" "tape" "LHushWatch$Tape;") (List.mem_of_getElem? (i := 1) rfl)) rfl (dq_180 48 bcX7_feed_1 (j := 7) (i := 10) rfl rfl rfl) ?_
    refine lv_iload_n hx hb (dq_28 48 bcX7_feed_1 (j := 10) rfl rfl) rfl (lv_at hl 3 rfl) ?_
    replace hF := bd2_s hF
    obtain ⟨w_15, w_16, hc_17, hF⟩ := hF
    obtain ⟨hPc, hDc, hFc⟩ := wcut (wc := (w_X6_take E a_tape a_tape_bytes w_13 w_12)) hP hD hS hA [1, 2] (by decide) rfl
    have hrc := va_recv hK hPc (ci := 7) (q0 := 0) rfl rfl
    refine cE_v (wc := (w_X6_take E a_tape a_tape_bytes w_13 w_12)) (wr := [k_X7 a_ a_tape a_reader a_scripts a_now a_trial a_kept a_book a_keptBook a_history a_draws a_refused c_hasImage]) (w1 := (w_X6_take E a_tape a_tape_bytes w_16 w_15)) (va_runV (As := [.int p2]) (rest := [])  ⟨hx, hb, hml, hown, hts⟩ (f_X6_take l E H.size K (a_ := a_tape) (a_bytes := a_tape_bytes) (p1 := p2) (c_length := w_13) (c_bytes := w_12) hc_17) (cwV 1 hts g_f_X7_feed_f_X6_take_85 rfl rfl rfl hd_X6_take ⟨Nat.le_of_ble_eq_true rfl, Nat.le_of_ble_eq_true rfl⟩) ⟨pW.blind, hrc, (pW.pre ⟨hK, hN⟩ hPc hDc)⟩ rfl rfl hl.1 rfl (lv_room (Nat.le_of_ble_eq_true rfl)) (dq_182 48 bcX7_feed_1 (j := 11) (i := 85) rfl rfl rfl) ⟨Nat.le_of_ble_eq_true rfl, Nat.le_of_ble_eq_true rfl⟩) hS hFc hP hD [1, 2] [0] rfl rfl (by decide) (by decide) (fun H locs hP hD hS => ?_)
    have h9 := fixPD (ws' := [k_X7 a_ a_tape a_reader a_scripts a_now a_trial a_kept a_book a_keptBook a_history a_draws a_refused c_hasImage, k_X6 a_tape a_tape_bytes w_16, k_B E a_tape_bytes 320 w_15]) hP hD rfl
    clear hP hD
    obtain ⟨hP, hD⟩ := h9
    refine lv_aload_n hx hb (dq_42 48 bcX7_feed_1 (j := 14) rfl rfl) rfl (lv_at hl 1 rfl) ?_
    refine gt_X7_0 (v := .ref a_tape) hx hb hts i_f_X7_feed_X7 hown hK hP 0 rfl (hts (.fieldLink RX7 10 "HushWatch" "tape" "LHushWatch$Tape;") (List.mem_of_getElem? (i := 1) rfl)) rfl (dq_180 48 bcX7_feed_1 (j := 15) (i := 10) rfl rfl rfl) ?_
    refine lv_iload_n hx hb (dq_29 48 bcX7_feed_1 (j := 18) rfl rfl) rfl (lv_at hl 4 rfl) ?_
    replace hF := bd2_s hF
    obtain ⟨w_18, w_19, hc_20, hF⟩ := hF
    obtain ⟨hPc, hDc, hFc⟩ := wcut (wc := (w_X6_take E a_tape a_tape_bytes w_16 w_15)) hP hD hS hA [1, 2] (by decide) rfl
    have hrc := va_recv hK hPc (ci := 7) (q0 := 0) rfl rfl
    refine cE_v (wc := (w_X6_take E a_tape a_tape_bytes w_16 w_15)) (wr := [k_X7 a_ a_tape a_reader a_scripts a_now a_trial a_kept a_book a_keptBook a_history a_draws a_refused c_hasImage]) (w1 := (w_X6_take E a_tape a_tape_bytes w_19 w_18)) (va_runV (As := [.int p3]) (rest := [])  ⟨hx, hb, hml, hown, hts⟩ (f_X6_take l E H.size K (a_ := a_tape) (a_bytes := a_tape_bytes) (p1 := p3) (c_length := w_16) (c_bytes := w_15) hc_20) (cwV 1 hts g_f_X7_feed_f_X6_take_85 rfl rfl rfl hd_X6_take ⟨Nat.le_of_ble_eq_true rfl, Nat.le_of_ble_eq_true rfl⟩) ⟨pW.blind, hrc, (pW.pre ⟨hK, hN⟩ hPc hDc)⟩ rfl rfl hl.1 rfl (lv_room (Nat.le_of_ble_eq_true rfl)) (dq_182 48 bcX7_feed_1 (j := 19) (i := 85) rfl rfl rfl) ⟨Nat.le_of_ble_eq_true rfl, Nat.le_of_ble_eq_true rfl⟩) hS hFc hP hD [1, 2] [0] rfl rfl (by decide) (by decide) (fun H locs hP hD hS => ?_)
    have h9 := fixPD (ws' := [k_X7 a_ a_tape a_reader a_scripts a_now a_trial a_kept a_book a_keptBook a_history a_draws a_refused c_hasImage, k_X6 a_tape a_tape_bytes w_19, k_B E a_tape_bytes 320 w_18]) hP hD rfl
    clear hP hD
    obtain ⟨hP, hD⟩ := h9
    refine lv_aload_n hx hb (dq_42 48 bcX7_feed_1 (j := 22) rfl rfl) rfl (lv_at hl 1 rfl) ?_
    refine gt_X7_0 (v := .ref a_tape) hx hb hts i_f_X7_feed_X7 hown hK hP 0 rfl (hts (.fieldLink RX7 10 "HushWatch" "tape" "LHushWatch$Tape;") (List.mem_of_getElem? (i := 1) rfl)) rfl (dq_180 48 bcX7_feed_1 (j := 23) (i := 10) rfl rfl rfl) ?_
    refine lv_iload hx hb (dq_21 48 bcX7_feed_1 (j := 26) (i := 4) rfl rfl) (lv_at hl 5 rfl) ?_
    replace hF := bd2_s hF
    obtain ⟨w_21, w_22, hc_23, hF⟩ := hF
    obtain ⟨hPc, hDc, hFc⟩ := wcut (wc := (w_X6_take E a_tape a_tape_bytes w_19 w_18)) hP hD hS hA [1, 2] (by decide) rfl
    have hrc := va_recv hK hPc (ci := 7) (q0 := 0) rfl rfl
    refine cE_v (wc := (w_X6_take E a_tape a_tape_bytes w_19 w_18)) (wr := [k_X7 a_ a_tape a_reader a_scripts a_now a_trial a_kept a_book a_keptBook a_history a_draws a_refused c_hasImage]) (w1 := (w_X6_take E a_tape a_tape_bytes w_22 w_21)) (va_runV (As := [.int p4]) (rest := [])  ⟨hx, hb, hml, hown, hts⟩ (f_X6_take l E H.size K (a_ := a_tape) (a_bytes := a_tape_bytes) (p1 := p4) (c_length := w_19) (c_bytes := w_18) hc_23) (cwV 1 hts g_f_X7_feed_f_X6_take_85 rfl rfl rfl hd_X6_take ⟨Nat.le_of_ble_eq_true rfl, Nat.le_of_ble_eq_true rfl⟩) ⟨pW.blind, hrc, (pW.pre ⟨hK, hN⟩ hPc hDc)⟩ rfl rfl hl.1 rfl (lv_room (Nat.le_of_ble_eq_true rfl)) (dq_182 48 bcX7_feed_1 (j := 28) (i := 85) rfl rfl rfl) ⟨Nat.le_of_ble_eq_true rfl, Nat.le_of_ble_eq_true rfl⟩) hS hFc hP hD [1, 2] [0] rfl rfl (by decide) (by decide) (fun H locs hP hD hS => ?_)
    have h9 := fixPD (ws' := [k_X7 a_ a_tape a_reader a_scripts a_now a_trial a_kept a_book a_keptBook a_history a_draws a_refused c_hasImage, k_X6 a_tape a_tape_bytes w_22, k_B E a_tape_bytes 320 w_21]) hP hD rfl
    clear hP hD
    obtain ⟨hP, hD⟩ := h9
    refine lv_aload_n hx hb (dq_42 48 bcX7_feed_1 (j := 31) rfl rfl) rfl (lv_at hl 1 rfl) ?_
    refine gt_X7_0 (v := .ref a_tape) hx hb hts i_f_X7_feed_X7 hown hK hP 0 rfl (hts (.fieldLink RX7 10 "HushWatch" "tape" "LHushWatch$Tape;") (List.mem_of_getElem? (i := 1) rfl)) rfl (dq_180 48 bcX7_feed_1 (j := 32) (i := 10) rfl rfl rfl) ?_
    refine lv_iload hx hb (dq_21 48 bcX7_feed_1 (j := 35) (i := 5) rfl rfl) (lv_at hl 6 rfl) ?_
    replace hF := bd2_s hF
    obtain ⟨w_24, w_25, hc_26, hF⟩ := hF
    obtain ⟨hPc, hDc, hFc⟩ := wcut (wc := (w_X6_take E a_tape a_tape_bytes w_22 w_21)) hP hD hS hA [1, 2] (by decide) rfl
    have hrc := va_recv hK hPc (ci := 7) (q0 := 0) rfl rfl
    refine cE_v (wc := (w_X6_take E a_tape a_tape_bytes w_22 w_21)) (wr := [k_X7 a_ a_tape a_reader a_scripts a_now a_trial a_kept a_book a_keptBook a_history a_draws a_refused c_hasImage]) (w1 := (w_X6_take E a_tape a_tape_bytes w_25 w_24)) (va_runV (As := [.int p5]) (rest := [])  ⟨hx, hb, hml, hown, hts⟩ (f_X6_take l E H.size K (a_ := a_tape) (a_bytes := a_tape_bytes) (p1 := p5) (c_length := w_22) (c_bytes := w_21) hc_26) (cwV 1 hts g_f_X7_feed_f_X6_take_85 rfl rfl rfl hd_X6_take ⟨Nat.le_of_ble_eq_true rfl, Nat.le_of_ble_eq_true rfl⟩) ⟨pW.blind, hrc, (pW.pre ⟨hK, hN⟩ hPc hDc)⟩ rfl rfl hl.1 rfl (lv_room (Nat.le_of_ble_eq_true rfl)) (dq_182 48 bcX7_feed_1 (j := 37) (i := 85) rfl rfl rfl) ⟨Nat.le_of_ble_eq_true rfl, Nat.le_of_ble_eq_true rfl⟩) hS hFc hP hD [1, 2] [0] rfl rfl (by decide) (by decide) (fun H locs hP hD hS => ?_)
    have h9 := fixPD (ws' := [k_X7 a_ a_tape a_reader a_scripts a_now a_trial a_kept a_book a_keptBook a_history a_draws a_refused c_hasImage, k_X6 a_tape a_tape_bytes w_25, k_B E a_tape_bytes 320 w_24]) hP hD rfl
    clear hP hD
    obtain ⟨hP, hD⟩ := h9
    refine lv_aload_n hx hb (dq_42 48 bcX7_feed_1 (j := 40) rfl rfl) rfl (lv_at hl 1 rfl) ?_
    refine gt_X7_0 (v := .ref a_tape) hx hb hts i_f_X7_feed_X7 hown hK hP 0 rfl (hts (.fieldLink RX7 10 "HushWatch" "tape" "LHushWatch$Tape;") (List.mem_of_getElem? (i := 1) rfl)) rfl (dq_180 48 bcX7_feed_1 (j := 41) (i := 10) rfl rfl rfl) ?_
    refine va_getN (D := E.1) (ci := 7) (v := .int w_25) (C := RX6) (T := TX6) (N := 2) hx hb hts i_f_X7_feed_X6 hown hK hP 1 rfl rfl 1 (by decide) (nx hN 1 rfl) (fun _ h9 => h9) rfl (dq_180 48 bcX7_feed_1 (j := 44) (i := 81) rfl rfl rfl) ?_
    rw [hQ]
    have h9 := fin9 (P := fun u9 : Int32 × (Nat → Int32) × Int32 => w_25 = u9.1 ∧ va_P E.1 vwCl (w_X7_feed E a_ a_tape a_reader a_scripts a_now a_trial a_kept a_book a_keptBook a_history a_draws a_refused a_tape_bytes c_hasImage u9.2.2 u9.2.1) H ∧ va_D A (w_X7_feed E a_ a_tape a_reader a_scripts a_now a_trial a_kept a_book a_keptBook a_history a_draws a_refused a_tape_bytes c_hasImage u9.2.2 u9.2.1)) hF ⟨rfl, hP, hD⟩
    obtain ⟨e9_0, hP9, hD9⟩ := h9
    exact W.iret (v := w_25) hx hb hr (fun tt ht hW => ⟨⟨_, (), rfl, e9_0, ht ▸ hP9, hD9⟩, hS.F ht⟩) hS.2.2 (dq_172 48 bcX7_feed_1 (j := 47) rfl rfl)
  ·
    replace hF := inn c_11 hF
    refine lv_iconst (v := -1) hx hb (dq_2 0 bcX7_feed_0 (j := 44) rfl rfl) (by decide) ?_
    rw [hQ]
    have h9 := fin9 (P := fun u9 : Int32 × (Nat → Int32) × Int32 => (-1 : Int32) = u9.1 ∧ va_P E.1 vwCl (w_X7_feed E a_ a_tape a_reader a_scripts a_now a_trial a_kept a_book a_keptBook a_history a_draws a_refused a_tape_bytes c_hasImage u9.2.2 u9.2.1) H ∧ va_D A (w_X7_feed E a_ a_tape a_reader a_scripts a_now a_trial a_kept a_book a_keptBook a_history a_draws a_refused a_tape_bytes c_hasImage u9.2.2 u9.2.1)) hF ⟨rfl, hP, hD⟩
    obtain ⟨e9_0, hP9, hD9⟩ := h9
    exact W.iret (v := (-1 : Int32)) hx hb hr (fun tt ht hW => ⟨⟨_, (), rfl, e9_0, ht ▸ hP9, hD9⟩, hS.F ht⟩) hS.2.2 (dq_172 0 bcX7_feed_0 (j := 45) rfl rfl)

def F_X7_freeze (K : Nat) (p1 : Int32) (c_now_row : Nat → Int32) (c_now_partners : Nat → Int32) (c_now_askedCount : Int32) (c_now_outcome : Int32) (c_now_share : Nat → Int32) (c_now_leftOver : Nat → Int32) (c_book_lines : Nat → Int32) (c_history_rows : Nat → Int32) (c_history_next : Int32) (c_history_held : Int32) (c_refused : Nat → Int32) : Option (Int32 × (Nat → Int32) × (Nat → Int32) × Int32 × Int32 × (Nat → Int32) × (Nat → Int32) × (Nat → Int32) × (Nat → Int32) × Int32 × Int32 × (Nat → Int32)) :=
  bd12 (F_X7_act K (6 : Int32) p1 (0 : Int32) (0 : Int32) (1 : Int32) c_now_row c_now_partners c_now_askedCount c_now_outcome c_now_share c_now_leftOver c_book_lines c_history_rows c_history_next c_history_held c_refused) (fun r_1 w_2 w_3 w_4 w_5 w_6 w_7 w_8 w_9 w_10 w_11 w_12 => if (0 : Int32) ≤ r_1 then bd1 (F_X5_isFrozen p1 w_2) (fun r_15 => if r_15 = (0 : Int32) then some ((0 : Int32), w_2, w_3, w_4, w_5, w_6, w_7, w_8, w_9, w_10, w_11, w_12) else some ((1 : Int32), w_2, w_3, w_4, w_5, w_6, w_7, w_8, w_9, w_10, w_11, w_12)) else some ((-1 : Int32), w_2, w_3, w_4, w_5, w_6, w_7, w_8, w_9, w_10, w_11, w_12))
abbrev w_X7_freeze (E : EE) (a_ a_tape a_reader a_scripts a_now a_trial a_kept a_book a_keptBook a_history a_draws a_refused a_now_row a_now_partners a_now_share a_now_leftOver a_book_lines a_history_rows : Nat) (c_hasImage : Int32) (c_now_askedCount : Int32) (c_now_outcome : Int32) (c_now_row : Nat → Int32) (c_now_partners : Nat → Int32) (c_now_share : Nat → Int32) (c_now_leftOver : Nat → Int32) (c_book_lines : Nat → Int32) (c_history_next : Int32) (c_history_held : Int32) (c_history_rows : Nat → Int32) (c_refused : Nat → Int32) : va_W := [k_X7 a_ a_tape a_reader a_scripts a_now a_trial a_kept a_book a_keptBook a_history a_draws a_refused c_hasImage, k_X5 a_now a_now_row a_now_partners c_now_askedCount c_now_outcome a_now_share a_now_leftOver, k_I E a_now_row 81 c_now_row, k_I E a_now_partners 8 c_now_partners, k_I E a_now_share 2 c_now_share, k_I E a_now_leftOver 2 c_now_leftOver, k_X0 a_book a_book_lines, k_I E a_book_lines 300 c_book_lines, k_X2 a_history a_history_rows c_history_next c_history_held, k_I E a_history_rows 3240 c_history_rows, k_I E a_refused 3 c_refused]
def v_f_X7_freeze : List Cond := List.cons (.code yX7_freeze cX7_freeze 2 (some .int)) (HAppend.hAppend (α := List Cond) (β := List Cond) (γ := List Cond) [.fieldLink RX7 35 "HushWatch" "now" "LHushWatch$State;", .methodLink RX7 163 yX7_act, .instanceMethod yX7_act, .selects RX7 yX7_act yX7_act, .initialized RX7, .methodLink RX7 143 yX5_isFrozen, .instanceMethod yX5_isFrozen, .selects RX5 yX5_isFrozen yX5_isFrozen, .initialized RX5] (HAppend.hAppend (α := List Cond) (β := List Cond) (γ := List Cond) v_f_X7_act (HAppend.hAppend (α := List Cond) (β := List Cond) (γ := List Cond) wsX70 (HAppend.hAppend (α := List Cond) (β := List Cond) (γ := List Cond) v_f_X5_isFrozen []))))
theorem gw_f_X7_freeze : v_f_X7_freeze.all goodWord = true := gw_c2 (by decide +kernel) (gw_ap gw_f_X7_act (gw_ap gw_wsX70 (gw_ap gw_f_X5_isFrozen gw_nil)))
theorem i_f_X7_freeze_X7 : ∀ w ∈ wsX70, w ∈ v_f_X7_freeze := fun _ h => List.mem_cons_of_mem _ (List.mem_append_right _ (List.mem_append_right _ (List.mem_append_left _ h)))
theorem g_f_X7_freeze_f_X7_act_163 : GoodIn v_f_X7_freeze (wsV RX7 163 RX7 yX7_act v_f_X7_act) := goodIn_in gw_f_X7_freeze (in4 2 3 4 5 rfl rfl rfl rfl (fun _ h => List.mem_cons_of_mem _ (List.mem_append_right _ (List.mem_append_left _ h))))
theorem g_f_X7_freeze_f_X5_isFrozen_143 : GoodIn v_f_X7_freeze (wsV RX7 143 RX5 yX5_isFrozen v_f_X5_isFrozen) := goodIn_in gw_f_X7_freeze (in4 6 7 8 9 rfl rfl rfl rfl (fun _ h => List.mem_cons_of_mem _ (List.mem_append_right _ (List.mem_append_right _ (List.mem_append_right _ (List.mem_append_left _ h))))))
theorem hd_X7_freeze : yX7_freeze.cls = RX7 ∧ yX7_freeze.cls ≠ "java/lang/invoke/MethodHandle" ∧ yX7_freeze.cls ≠ "java/lang/invoke/VarHandle" ∧ (parseMethodDescriptor yX7_freeze.desc).map (fun d => d.parameters.length) = some 1 := by decide +kernel
set_option maxHeartbeats 4000000 in
set_option maxRecDepth 100000 in
theorem f_X7_freeze (l : Launch) (E : EE) (sz : Nat) (K : Nat) {a_ a_tape a_reader a_scripts a_now a_trial a_kept a_book a_keptBook a_history a_draws a_refused a_now_row a_now_partners a_now_share a_now_leftOver a_book_lines a_history_rows : Nat} {p1 : Int32} {c_hasImage : Int32} {c_now_askedCount : Int32} {c_now_outcome : Int32} {c_now_row : Nat → Int32} {c_now_partners : Nat → Int32} {c_now_share : Nat → Int32} {c_now_leftOver : Nat → Int32} {c_book_lines : Nat → Int32} {c_history_next : Int32} {c_history_held : Int32} {c_history_rows : Nat → Int32} {c_refused : Nat → Int32} {rr : Int32} {n_now_row : Nat → Int32} {n_now_partners : Nat → Int32} {n_now_askedCount : Int32} {n_now_outcome : Int32} {n_now_share : Nat → Int32} {n_now_leftOver : Nat → Int32} {n_book_lines : Nat → Int32} {n_history_rows : Nat → Int32} {n_history_next : Int32} {n_history_held : Int32} {n_refused : Nat → Int32} (hF : F_X7_freeze K p1 c_now_row c_now_partners c_now_askedCount c_now_outcome c_now_share c_now_leftOver c_book_lines c_history_rows c_history_next c_history_held c_refused = some (rr, n_now_row, n_now_partners, n_now_askedCount, n_now_outcome, n_now_share, n_now_leftOver, n_book_lines, n_history_rows, n_history_next, n_history_held, n_refused)) : Met l yX7_freeze v_f_X7_freeze (({ frames := 6, cells := 0, slots := 0, locals := 151 } : Room)) (va_Pc [.ref a_, .int p1] (pW E sz (w_X7_freeze E a_ a_tape a_reader a_scripts a_now a_trial a_kept a_book a_keptBook a_history a_draws a_refused a_now_row a_now_partners a_now_share a_now_leftOver a_book_lines a_history_rows c_hasImage c_now_askedCount c_now_outcome c_now_row c_now_partners c_now_share c_now_leftOver c_book_lines c_history_next c_history_held c_history_rows c_refused))) (va_Qi (fun (q : Int32) (_u : Unit) => q = rr) (fun (_u : Unit) tt => va_P E.1 vwCl (w_X7_freeze E a_ a_tape a_reader a_scripts a_now a_trial a_kept a_book a_keptBook a_history a_draws a_refused a_now_row a_now_partners a_now_share a_now_leftOver a_book_lines a_history_rows c_hasImage n_now_askedCount n_now_outcome n_now_row n_now_partners n_now_share n_now_leftOver n_book_lines n_history_next n_history_held n_history_rows n_refused) tt.heap ∧ va_D (va_A (w_X7_freeze E a_ a_tape a_reader a_scripts a_now a_trial a_kept a_book a_keptBook a_history a_draws a_refused a_now_row a_now_partners a_now_share a_now_leftOver a_book_lines a_history_rows c_hasImage c_now_askedCount c_now_outcome c_now_row c_now_partners c_now_share c_now_leftOver c_book_lines c_history_next c_history_held c_history_rows c_refused) sz) (w_X7_freeze E a_ a_tape a_reader a_scripts a_now a_trial a_kept a_book a_keptBook a_history a_draws a_refused a_now_row a_now_partners a_now_share a_now_leftOver a_book_lines a_history_rows c_hasImage n_now_askedCount n_now_outcome n_now_row n_now_partners n_now_share n_now_leftOver n_book_lines n_history_next n_history_held n_history_rows n_refused)) (va_A (w_X7_freeze E a_ a_tape a_reader a_scripts a_now a_trial a_kept a_book a_keptBook a_history a_draws a_refused a_now_row a_now_partners a_now_share a_now_leftOver a_book_lines a_history_rows c_hasImage c_now_askedCount c_now_outcome c_now_row c_now_partners c_now_share c_now_leftOver c_book_lines c_history_next c_history_held c_history_rows c_refused) sz)) 0 0 (va_A (w_X7_freeze E a_ a_tape a_reader a_scripts a_now a_trial a_kept a_book a_keptBook a_history a_draws a_refused a_now_row a_now_partners a_now_share a_now_leftOver a_book_lines a_history_rows c_hasImage c_now_askedCount c_now_outcome c_now_row c_now_partners c_now_share c_now_leftOver c_book_lines c_history_next c_history_held c_history_rows c_refused) sz) := by
  refine Met.ofW (cc := cX7_freeze) (maxL := 2) (ret := (some .int)) (by decide) rfl ?_
  intro p e s m args below meth c s₁ B hml hv
  obtain ⟨rfl, hsz, ⟨hK, hN⟩, hP, hD0⟩ := hv
  have hx := B.exec
  have hb := B.bytes
  have hr := B.returns
  have hts := atoms_spec (ws := v_f_X7_freeze) B.pre
  have hown : s.vm.findClass RX7 = some m.cls := own_of hd_X7_freeze.1 (findClass_of_methodNamed B.named)
  have hlocks : meth.locks = false := B.notSynchronized
  subst hsz
  have hD := hD0.self (sz := s.heap.size)
  generalize hAe : va_A (w_X7_freeze E a_ a_tape a_reader a_scripts a_now a_trial a_kept a_book a_keptBook a_history a_draws a_refused a_now_row a_now_partners a_now_share a_now_leftOver a_book_lines a_history_rows c_hasImage c_now_askedCount c_now_outcome c_now_row c_now_partners c_now_share c_now_leftOver c_book_lines c_history_next c_history_held c_history_rows c_refused) s.heap.size = A at hD ⊢
  have hA : ∀ q : Nat, s.heap.size ≤ q → A q := fun q h => by rw [← hAe]; exact Or.inr h
  have hS : va_S A s.heap s.heap [] := va_S.rf
  have hl := lv_entry ([.ref a_, .int p1]) (n := 2) (Nat.le_of_ble_eq_true rfl)
  rw [lg_entry_eq]
  generalize (lg_sl ([.ref a_, .int p1]) ++ List.replicate (2 - (lg_sl ([.ref a_, .int p1])).length) Slot.unset).toArray = ls at hl ⊢
  have hl : lv_has ls 2 [(0, .ref a_), (1, .int p1)] := hl
  obtain ⟨Q, hQ⟩ : ∃ Q : State → Prop, Q = MQ below (va_Qi (fun (q : Int32) (_u : Unit) => q = rr) (fun (_u : Unit) tt => va_P E.1 vwCl (w_X7_freeze E a_ a_tape a_reader a_scripts a_now a_trial a_kept a_book a_keptBook a_history a_draws a_refused a_now_row a_now_partners a_now_share a_now_leftOver a_book_lines a_history_rows c_hasImage n_now_askedCount n_now_outcome n_now_row n_now_partners n_now_share n_now_leftOver n_book_lines n_history_next n_history_held n_history_rows n_refused) tt.heap ∧ va_D A (w_X7_freeze E a_ a_tape a_reader a_scripts a_now a_trial a_kept a_book a_keptBook a_history a_draws a_refused a_now_row a_now_partners a_now_share a_now_leftOver a_book_lines a_history_rows c_hasImage n_now_askedCount n_now_outcome n_now_row n_now_partners n_now_share n_now_leftOver n_book_lines n_history_next n_history_held n_history_rows n_refused)) A) #[Value.ref a_, Value.int p1] s 0 0 A := ⟨_, rfl⟩
  rw [← hQ]
  change W p l e ({ frames := 6, cells := 0, slots := 0, locals := 151 } : Room) s m #[Value.ref a_, Value.int p1] below meth c s.heap [] 0 0 Q (F0 m 0 ls [])
  suffices hh9 : ∀ (H : Heap) (locs : List Loc), va_P E.1 vwCl (w_X7_freeze E a_ a_tape a_reader a_scripts a_now a_trial a_kept a_book a_keptBook a_history a_draws a_refused a_now_row a_now_partners a_now_share a_now_leftOver a_book_lines a_history_rows c_hasImage c_now_askedCount c_now_outcome c_now_row c_now_partners c_now_share c_now_leftOver c_book_lines c_history_next c_history_held c_history_rows c_refused) H → va_D A (w_X7_freeze E a_ a_tape a_reader a_scripts a_now a_trial a_kept a_book a_keptBook a_history a_draws a_refused a_now_row a_now_partners a_now_share a_now_leftOver a_book_lines a_history_rows c_hasImage c_now_askedCount c_now_outcome c_now_row c_now_partners c_now_share c_now_leftOver c_book_lines c_history_next c_history_held c_history_rows c_refused) → va_S A s.heap H locs → W p l e ({ frames := 6, cells := 0, slots := 0, locals := 151 } : Room) s m #[Value.ref a_, Value.int p1] below meth c H locs 0 0 Q (F0 m 0 ls []) from hh9 s.heap [] hP hD hS
  clear hP hD hS
  intro H locs hP hD hS
  have h9 := fixPD (ws' := [k_X7 a_ a_tape a_reader a_scripts a_now a_trial a_kept a_book a_keptBook a_history a_draws a_refused c_hasImage, k_X5 a_now a_now_row a_now_partners c_now_askedCount c_now_outcome a_now_share a_now_leftOver, k_I E a_now_row 81 c_now_row, k_I E a_now_partners 8 c_now_partners, k_I E a_now_share 2 c_now_share, k_I E a_now_leftOver 2 c_now_leftOver, k_X0 a_book a_book_lines, k_I E a_book_lines 300 c_book_lines, k_X2 a_history a_history_rows c_history_next c_history_held, k_I E a_history_rows 3240 c_history_rows, k_I E a_refused 3 c_refused]) hP hD rfl
  clear hP hD
  obtain ⟨hP, hD⟩ := h9
  unfold F_X7_freeze at hF
  refine lv_aload_n hx hb (dq_42 0 bcX7_freeze_0 (j := 0) rfl rfl) rfl (lv_at hl 0 rfl) ?_
  refine lv_bipush (v := 6) hx hb (dq_16 0 bcX7_freeze_0 (j := 1) (i := 6) rfl rfl rfl) (by decide) ?_
  refine lv_iload_n hx hb (dq_27 0 bcX7_freeze_0 (j := 3) rfl rfl) rfl (lv_at hl 1 rfl) ?_
  refine lv_iconst (v := 0) hx hb (dq_3 0 bcX7_freeze_0 (j := 4) rfl rfl) (by decide) ?_
  refine lv_iconst (v := 0) hx hb (dq_3 0 bcX7_freeze_0 (j := 5) rfl rfl) (by decide) ?_
  refine lv_iconst (v := 1) hx hb (dq_4 0 bcX7_freeze_0 (j := 6) rfl rfl) (by decide) ?_
  replace hF := bd12_s hF
  obtain ⟨r_1, w_2, w_3, w_4, w_5, w_6, w_7, w_8, w_9, w_10, w_11, w_12, hc_13, hF⟩ := hF
  obtain ⟨hPc, hDc, hFc⟩ := wcut (wc := (w_X7_act E a_ a_tape a_reader a_scripts a_now a_trial a_kept a_book a_keptBook a_history a_draws a_refused a_now_row a_now_partners a_now_share a_now_leftOver a_book_lines a_history_rows c_hasImage c_now_askedCount c_now_outcome c_now_row c_now_partners c_now_share c_now_leftOver c_book_lines c_history_next c_history_held c_history_rows c_refused)) hP hD hS hA [0, 1, 2, 3, 4, 5, 6, 7, 8, 9, 10] (by decide) rfl
  have hrc := va_recv hK hPc (ci := 8) (q0 := 0) rfl rfl
  refine cE_i (wc := (w_X7_act E a_ a_tape a_reader a_scripts a_now a_trial a_kept a_book a_keptBook a_history a_draws a_refused a_now_row a_now_partners a_now_share a_now_leftOver a_book_lines a_history_rows c_hasImage c_now_askedCount c_now_outcome c_now_row c_now_partners c_now_share c_now_leftOver c_book_lines c_history_next c_history_held c_history_rows c_refused)) (wr := []) (w1 := (w_X7_act E a_ a_tape a_reader a_scripts a_now a_trial a_kept a_book a_keptBook a_history a_draws a_refused a_now_row a_now_partners a_now_share a_now_leftOver a_book_lines a_history_rows c_hasImage w_4 w_5 w_2 w_3 w_6 w_7 w_8 w_10 w_11 w_9 w_12)) (va_runV (As := [.int (6 : Int32), .int p1, .int (0 : Int32), .int (0 : Int32), .int (1 : Int32)]) (rest := [])  ⟨hx, hb, hml, hown, hts⟩ (f_X7_act l E H.size K (a_ := a_) (a_tape := a_tape) (a_reader := a_reader) (a_scripts := a_scripts) (a_now := a_now) (a_trial := a_trial) (a_kept := a_kept) (a_book := a_book) (a_keptBook := a_keptBook) (a_history := a_history) (a_draws := a_draws) (a_refused := a_refused) (a_now_row := a_now_row) (a_now_partners := a_now_partners) (a_now_share := a_now_share) (a_now_leftOver := a_now_leftOver) (a_book_lines := a_book_lines) (a_history_rows := a_history_rows) (p1 := (6 : Int32)) (p2 := p1) (p3 := (0 : Int32)) (p4 := (0 : Int32)) (p5 := (1 : Int32)) (c_hasImage := c_hasImage) (c_now_askedCount := c_now_askedCount) (c_now_outcome := c_now_outcome) (c_now_row := c_now_row) (c_now_partners := c_now_partners) (c_now_share := c_now_share) (c_now_leftOver := c_now_leftOver) (c_book_lines := c_book_lines) (c_history_next := c_history_next) (c_history_held := c_history_held) (c_history_rows := c_history_rows) (c_refused := c_refused) hc_13) (cwV 5 hts g_f_X7_freeze_f_X7_act_163 rfl rfl rfl hd_X7_act ⟨Nat.le_of_ble_eq_true rfl, Nat.le_of_ble_eq_true rfl⟩) ⟨pW.blind, hrc, (pW.pre ⟨hK, hN⟩ hPc hDc)⟩ rfl rfl hl.1 rfl (lv_room (Nat.le_of_ble_eq_true rfl)) (dq_182 0 bcX7_freeze_0 (j := 7) (i := 163) rfl rfl rfl) ⟨Nat.le_of_ble_eq_true rfl, Nat.le_of_ble_eq_true rfl⟩) hS hFc hP hD [0, 1, 2, 3, 4, 5, 6, 7, 8, 9, 10] [] rfl rfl (by decide) (by decide) (fun H locs hP hD hS => ?_)
  have h9 := fixPD (ws' := [k_X7 a_ a_tape a_reader a_scripts a_now a_trial a_kept a_book a_keptBook a_history a_draws a_refused c_hasImage, k_X5 a_now a_now_row a_now_partners w_4 w_5 a_now_share a_now_leftOver, k_I E a_now_row 81 w_2, k_I E a_now_partners 8 w_3, k_I E a_now_share 2 w_6, k_I E a_now_leftOver 2 w_7, k_X0 a_book a_book_lines, k_I E a_book_lines 300 w_8, k_X2 a_history a_history_rows w_10 w_11, k_I E a_history_rows 3240 w_9, k_I E a_refused 3 w_12]) hP hD rfl
  clear hP hD
  obtain ⟨hP, hD⟩ := h9
  refine lv_if_ge (tgt := 15) hx hb (dq_156 0 bcX7_freeze_0 (j := 10) (i := 5) rfl rfl rfl) (by decide) (fun c_14 => ?_) (fun c_14 => ?_)
  ·
    replace hF := ip c_14 hF
    refine lv_aload_n hx hb (dq_42 0 bcX7_freeze_0 (j := 15) rfl rfl) rfl (lv_at hl 0 rfl) ?_
    refine gt_X7_3 (v := .ref a_now) hx hb hts i_f_X7_freeze_X7 hown hK hP 0 rfl (hts (.fieldLink RX7 35 "HushWatch" "now" "LHushWatch$State;") (List.mem_of_getElem? (i := 1) rfl)) rfl (dq_180 0 bcX7_freeze_0 (j := 16) (i := 35) rfl rfl rfl) ?_
    refine lv_iload_n hx hb (dq_27 0 bcX7_freeze_0 (j := 19) rfl rfl) rfl (lv_at hl 1 rfl) ?_
    replace hF := bd1_s hF
    obtain ⟨r_15, hc_16, hF⟩ := hF
    have hPc : va_P E.1 vwCl (w_X5_isFrozen E a_now a_now_row a_now_partners a_now_share a_now_leftOver w_4 w_5 w_2) H := hP.sub (ws' := [k_X5 a_now a_now_row a_now_partners w_4 w_5 a_now_share a_now_leftOver, k_I E a_now_row 81 w_2]) [1, 2] rfl
    have hrc := va_recv hK hPc (ci := 6) (q0 := 0) rfl rfl
    refine pE_z (va_runV (As := [.int p1]) (rest := [])  ⟨hx, hb, hml, hown, hts⟩ (f_X5_isFrozen l E (a_ := a_now) (a_row := a_now_row) (a_partners := a_now_partners) (a_share := a_now_share) (a_leftOver := a_now_leftOver) (p1 := p1) (c_askedCount := w_4) (c_outcome := w_5) (c_row := w_2) hc_16) (cwV 1 hts g_f_X7_freeze_f_X5_isFrozen_143 rfl rfl rfl hd_X5_isFrozen ⟨Nat.le_of_ble_eq_true rfl, Nat.le_of_ble_eq_true rfl⟩) ⟨pP.blind, hrc, (pP.pre ⟨hK, hN⟩ hPc)⟩ rfl rfl hl.1 rfl (lv_room (Nat.le_of_ble_eq_true rfl)) (dq_182 0 bcX7_freeze_0 (j := 20) (i := 143) rfl rfl rfl) ⟨Nat.le_of_ble_eq_true rfl, Nat.le_of_ble_eq_true rfl⟩) (fun hb_17 => ?_)
    refine lv_if_eq (tgt := 30) hx hb (dq_153 0 bcX7_freeze_0 (j := 23) (i := 7) rfl rfl rfl) (by decide) (fun c_18 => ?_) (fun c_18 => ?_)
    ·
      replace hF := ip c_18 hF
      refine lv_iconst (v := 0) hx hb (dq_3 0 bcX7_freeze_0 (j := 30) rfl rfl) (by decide) ?_
      rw [hQ]
      have h9 := fin9 (P := fun u9 : Int32 × (Nat → Int32) × (Nat → Int32) × Int32 × Int32 × (Nat → Int32) × (Nat → Int32) × (Nat → Int32) × (Nat → Int32) × Int32 × Int32 × (Nat → Int32) => (0 : Int32) = u9.1 ∧ va_P E.1 vwCl (w_X7_freeze E a_ a_tape a_reader a_scripts a_now a_trial a_kept a_book a_keptBook a_history a_draws a_refused a_now_row a_now_partners a_now_share a_now_leftOver a_book_lines a_history_rows c_hasImage u9.2.2.2.1 u9.2.2.2.2.1 u9.2.1 u9.2.2.1 u9.2.2.2.2.2.1 u9.2.2.2.2.2.2.1 u9.2.2.2.2.2.2.2.1 u9.2.2.2.2.2.2.2.2.2.1 u9.2.2.2.2.2.2.2.2.2.2.1 u9.2.2.2.2.2.2.2.2.1 u9.2.2.2.2.2.2.2.2.2.2.2) H ∧ va_D A (w_X7_freeze E a_ a_tape a_reader a_scripts a_now a_trial a_kept a_book a_keptBook a_history a_draws a_refused a_now_row a_now_partners a_now_share a_now_leftOver a_book_lines a_history_rows c_hasImage u9.2.2.2.1 u9.2.2.2.2.1 u9.2.1 u9.2.2.1 u9.2.2.2.2.2.1 u9.2.2.2.2.2.2.1 u9.2.2.2.2.2.2.2.1 u9.2.2.2.2.2.2.2.2.2.1 u9.2.2.2.2.2.2.2.2.2.2.1 u9.2.2.2.2.2.2.2.2.1 u9.2.2.2.2.2.2.2.2.2.2.2)) hF ⟨rfl, hP, hD⟩
      obtain ⟨e9_0, hP9, hD9⟩ := h9
      exact W.iret (v := (0 : Int32)) hx hb hr (fun tt ht hW => ⟨⟨_, (), rfl, e9_0, ht ▸ hP9, hD9⟩, hS.F ht⟩) hS.2.2 (dq_172 0 bcX7_freeze_0 (j := 31) rfl rfl)
    ·
      replace hF := inn c_18 hF
      refine lv_iconst (v := 1) hx hb (dq_4 0 bcX7_freeze_0 (j := 26) rfl rfl) (by decide) ?_
      refine lv_goto (tgt := 31) hx hb (dq_167 0 bcX7_freeze_0 (j := 27) (i := 4) rfl rfl rfl) (by decide) ?_
      rw [hQ]
      have h9 := fin9 (P := fun u9 : Int32 × (Nat → Int32) × (Nat → Int32) × Int32 × Int32 × (Nat → Int32) × (Nat → Int32) × (Nat → Int32) × (Nat → Int32) × Int32 × Int32 × (Nat → Int32) => (1 : Int32) = u9.1 ∧ va_P E.1 vwCl (w_X7_freeze E a_ a_tape a_reader a_scripts a_now a_trial a_kept a_book a_keptBook a_history a_draws a_refused a_now_row a_now_partners a_now_share a_now_leftOver a_book_lines a_history_rows c_hasImage u9.2.2.2.1 u9.2.2.2.2.1 u9.2.1 u9.2.2.1 u9.2.2.2.2.2.1 u9.2.2.2.2.2.2.1 u9.2.2.2.2.2.2.2.1 u9.2.2.2.2.2.2.2.2.2.1 u9.2.2.2.2.2.2.2.2.2.2.1 u9.2.2.2.2.2.2.2.2.1 u9.2.2.2.2.2.2.2.2.2.2.2) H ∧ va_D A (w_X7_freeze E a_ a_tape a_reader a_scripts a_now a_trial a_kept a_book a_keptBook a_history a_draws a_refused a_now_row a_now_partners a_now_share a_now_leftOver a_book_lines a_history_rows c_hasImage u9.2.2.2.1 u9.2.2.2.2.1 u9.2.1 u9.2.2.1 u9.2.2.2.2.2.1 u9.2.2.2.2.2.2.1 u9.2.2.2.2.2.2.2.1 u9.2.2.2.2.2.2.2.2.2.1 u9.2.2.2.2.2.2.2.2.2.2.1 u9.2.2.2.2.2.2.2.2.1 u9.2.2.2.2.2.2.2.2.2.2.2)) hF ⟨rfl, hP, hD⟩
      obtain ⟨e9_0, hP9, hD9⟩ := h9
      exact W.iret (v := (1 : Int32)) hx hb hr (fun tt ht hW => ⟨⟨_, (), rfl, e9_0, ht ▸ hP9, hD9⟩, hS.F ht⟩) hS.2.2 (dq_172 0 bcX7_freeze_0 (j := 31) rfl rfl)
  ·
    replace hF := inn c_14 hF
    refine lv_iconst (v := -1) hx hb (dq_2 0 bcX7_freeze_0 (j := 13) rfl rfl) (by decide) ?_
    rw [hQ]
    have h9 := fin9 (P := fun u9 : Int32 × (Nat → Int32) × (Nat → Int32) × Int32 × Int32 × (Nat → Int32) × (Nat → Int32) × (Nat → Int32) × (Nat → Int32) × Int32 × Int32 × (Nat → Int32) => (-1 : Int32) = u9.1 ∧ va_P E.1 vwCl (w_X7_freeze E a_ a_tape a_reader a_scripts a_now a_trial a_kept a_book a_keptBook a_history a_draws a_refused a_now_row a_now_partners a_now_share a_now_leftOver a_book_lines a_history_rows c_hasImage u9.2.2.2.1 u9.2.2.2.2.1 u9.2.1 u9.2.2.1 u9.2.2.2.2.2.1 u9.2.2.2.2.2.2.1 u9.2.2.2.2.2.2.2.1 u9.2.2.2.2.2.2.2.2.2.1 u9.2.2.2.2.2.2.2.2.2.2.1 u9.2.2.2.2.2.2.2.2.1 u9.2.2.2.2.2.2.2.2.2.2.2) H ∧ va_D A (w_X7_freeze E a_ a_tape a_reader a_scripts a_now a_trial a_kept a_book a_keptBook a_history a_draws a_refused a_now_row a_now_partners a_now_share a_now_leftOver a_book_lines a_history_rows c_hasImage u9.2.2.2.1 u9.2.2.2.2.1 u9.2.1 u9.2.2.1 u9.2.2.2.2.2.1 u9.2.2.2.2.2.2.1 u9.2.2.2.2.2.2.2.1 u9.2.2.2.2.2.2.2.2.2.1 u9.2.2.2.2.2.2.2.2.2.2.1 u9.2.2.2.2.2.2.2.2.1 u9.2.2.2.2.2.2.2.2.2.2.2)) hF ⟨rfl, hP, hD⟩
    obtain ⟨e9_0, hP9, hD9⟩ := h9
    exact W.iret (v := (-1 : Int32)) hx hb hr (fun tt ht hW => ⟨⟨_, (), rfl, e9_0, ht ▸ hP9, hD9⟩, hS.F ht⟩) hS.2.2 (dq_172 0 bcX7_freeze_0 (j := 14) rfl rfl)

def F_X7_goal (K : Nat) (p1 : Int32) (c_now_row : Nat → Int32) (c_now_partners : Nat → Int32) (c_now_askedCount : Int32) (c_now_outcome : Int32) (c_now_share : Nat → Int32) (c_now_leftOver : Nat → Int32) (c_book_lines : Nat → Int32) (c_history_rows : Nat → Int32) (c_history_next : Int32) (c_history_held : Int32) (c_refused : Nat → Int32) : Option (Int32 × (Nat → Int32) × (Nat → Int32) × Int32 × Int32 × (Nat → Int32) × (Nat → Int32) × (Nat → Int32) × (Nat → Int32) × Int32 × Int32 × (Nat → Int32)) :=
  bd12 (F_X7_act K (5 : Int32) p1 (0 : Int32) (0 : Int32) (1 : Int32) c_now_row c_now_partners c_now_askedCount c_now_outcome c_now_share c_now_leftOver c_book_lines c_history_rows c_history_next c_history_held c_refused) (fun r_1 w_2 w_3 w_4 w_5 w_6 w_7 w_8 w_9 w_10 w_11 w_12 => if (0 : Int32) ≤ r_1 then some (c_now_row 2, w_2, w_3, w_4, w_5, w_6, w_7, w_8, w_9, w_10, w_11, w_12) else some ((-1 : Int32), w_2, w_3, w_4, w_5, w_6, w_7, w_8, w_9, w_10, w_11, w_12))
abbrev w_X7_goal (E : EE) (a_ a_tape a_reader a_scripts a_now a_trial a_kept a_book a_keptBook a_history a_draws a_refused a_now_row a_now_partners a_now_share a_now_leftOver a_book_lines a_history_rows : Nat) (c_hasImage : Int32) (c_now_askedCount : Int32) (c_now_outcome : Int32) (c_now_row : Nat → Int32) (c_now_partners : Nat → Int32) (c_now_share : Nat → Int32) (c_now_leftOver : Nat → Int32) (c_book_lines : Nat → Int32) (c_history_next : Int32) (c_history_held : Int32) (c_history_rows : Nat → Int32) (c_refused : Nat → Int32) : va_W := [k_X7 a_ a_tape a_reader a_scripts a_now a_trial a_kept a_book a_keptBook a_history a_draws a_refused c_hasImage, k_X5 a_now a_now_row a_now_partners c_now_askedCount c_now_outcome a_now_share a_now_leftOver, k_I E a_now_row 81 c_now_row, k_I E a_now_partners 8 c_now_partners, k_I E a_now_share 2 c_now_share, k_I E a_now_leftOver 2 c_now_leftOver, k_X0 a_book a_book_lines, k_I E a_book_lines 300 c_book_lines, k_X2 a_history a_history_rows c_history_next c_history_held, k_I E a_history_rows 3240 c_history_rows, k_I E a_refused 3 c_refused]
def v_f_X7_goal : List Cond := List.cons (.code yX7_goal cX7_goal 3 (some .int)) (HAppend.hAppend (α := List Cond) (β := List Cond) (γ := List Cond) [.fieldLink RX7 35 "HushWatch" "now" "LHushWatch$State;", .methodLink RX7 163 yX7_act, .instanceMethod yX7_act, .selects RX7 yX7_act yX7_act, .initialized RX7] (HAppend.hAppend (α := List Cond) (β := List Cond) (γ := List Cond) wsX70 (HAppend.hAppend (α := List Cond) (β := List Cond) (γ := List Cond) wsX50 (HAppend.hAppend (α := List Cond) (β := List Cond) (γ := List Cond) v_f_X7_act []))))
theorem gw_f_X7_goal : v_f_X7_goal.all goodWord = true := gw_c2 (by decide +kernel) (gw_ap gw_wsX70 (gw_ap gw_wsX50 (gw_ap gw_f_X7_act gw_nil)))
theorem i_f_X7_goal_X7 : ∀ w ∈ wsX70, w ∈ v_f_X7_goal := fun _ h => List.mem_cons_of_mem _ (List.mem_append_right _ (List.mem_append_left _ h))
theorem i_f_X7_goal_X5 : ∀ w ∈ wsX50, w ∈ v_f_X7_goal := fun _ h => List.mem_cons_of_mem _ (List.mem_append_right _ (List.mem_append_right _ (List.mem_append_left _ h)))
theorem g_f_X7_goal_f_X7_act_163 : GoodIn v_f_X7_goal (wsV RX7 163 RX7 yX7_act v_f_X7_act) := goodIn_in gw_f_X7_goal (in4 2 3 4 5 rfl rfl rfl rfl (fun _ h => List.mem_cons_of_mem _ (List.mem_append_right _ (List.mem_append_right _ (List.mem_append_right _ (List.mem_append_left _ h))))))
theorem hd_X7_goal : yX7_goal.cls = RX7 ∧ yX7_goal.cls ≠ "java/lang/invoke/MethodHandle" ∧ yX7_goal.cls ≠ "java/lang/invoke/VarHandle" ∧ (parseMethodDescriptor yX7_goal.desc).map (fun d => d.parameters.length) = some 1 := by decide +kernel
set_option maxHeartbeats 4000000 in
set_option maxRecDepth 100000 in
theorem f_X7_goal (l : Launch) (E : EE) (sz : Nat) (K : Nat) {a_ a_tape a_reader a_scripts a_now a_trial a_kept a_book a_keptBook a_history a_draws a_refused a_now_row a_now_partners a_now_share a_now_leftOver a_book_lines a_history_rows : Nat} {p1 : Int32} {c_hasImage : Int32} {c_now_askedCount : Int32} {c_now_outcome : Int32} {c_now_row : Nat → Int32} {c_now_partners : Nat → Int32} {c_now_share : Nat → Int32} {c_now_leftOver : Nat → Int32} {c_book_lines : Nat → Int32} {c_history_next : Int32} {c_history_held : Int32} {c_history_rows : Nat → Int32} {c_refused : Nat → Int32} {rr : Int32} {n_now_row : Nat → Int32} {n_now_partners : Nat → Int32} {n_now_askedCount : Int32} {n_now_outcome : Int32} {n_now_share : Nat → Int32} {n_now_leftOver : Nat → Int32} {n_book_lines : Nat → Int32} {n_history_rows : Nat → Int32} {n_history_next : Int32} {n_history_held : Int32} {n_refused : Nat → Int32} (hF : F_X7_goal K p1 c_now_row c_now_partners c_now_askedCount c_now_outcome c_now_share c_now_leftOver c_book_lines c_history_rows c_history_next c_history_held c_refused = some (rr, n_now_row, n_now_partners, n_now_askedCount, n_now_outcome, n_now_share, n_now_leftOver, n_book_lines, n_history_rows, n_history_next, n_history_held, n_refused)) : Met l yX7_goal v_f_X7_goal (({ frames := 6, cells := 0, slots := 0, locals := 151 } : Room)) (va_Pc [.ref a_, .int p1] (pW E sz (w_X7_goal E a_ a_tape a_reader a_scripts a_now a_trial a_kept a_book a_keptBook a_history a_draws a_refused a_now_row a_now_partners a_now_share a_now_leftOver a_book_lines a_history_rows c_hasImage c_now_askedCount c_now_outcome c_now_row c_now_partners c_now_share c_now_leftOver c_book_lines c_history_next c_history_held c_history_rows c_refused))) (va_Qi (fun (q : Int32) (_u : Unit) => q = rr) (fun (_u : Unit) tt => va_P E.1 vwCl (w_X7_goal E a_ a_tape a_reader a_scripts a_now a_trial a_kept a_book a_keptBook a_history a_draws a_refused a_now_row a_now_partners a_now_share a_now_leftOver a_book_lines a_history_rows c_hasImage n_now_askedCount n_now_outcome n_now_row n_now_partners n_now_share n_now_leftOver n_book_lines n_history_next n_history_held n_history_rows n_refused) tt.heap ∧ va_D (va_A (w_X7_goal E a_ a_tape a_reader a_scripts a_now a_trial a_kept a_book a_keptBook a_history a_draws a_refused a_now_row a_now_partners a_now_share a_now_leftOver a_book_lines a_history_rows c_hasImage c_now_askedCount c_now_outcome c_now_row c_now_partners c_now_share c_now_leftOver c_book_lines c_history_next c_history_held c_history_rows c_refused) sz) (w_X7_goal E a_ a_tape a_reader a_scripts a_now a_trial a_kept a_book a_keptBook a_history a_draws a_refused a_now_row a_now_partners a_now_share a_now_leftOver a_book_lines a_history_rows c_hasImage n_now_askedCount n_now_outcome n_now_row n_now_partners n_now_share n_now_leftOver n_book_lines n_history_next n_history_held n_history_rows n_refused)) (va_A (w_X7_goal E a_ a_tape a_reader a_scripts a_now a_trial a_kept a_book a_keptBook a_history a_draws a_refused a_now_row a_now_partners a_now_share a_now_leftOver a_book_lines a_history_rows c_hasImage c_now_askedCount c_now_outcome c_now_row c_now_partners c_now_share c_now_leftOver c_book_lines c_history_next c_history_held c_history_rows c_refused) sz)) 0 0 (va_A (w_X7_goal E a_ a_tape a_reader a_scripts a_now a_trial a_kept a_book a_keptBook a_history a_draws a_refused a_now_row a_now_partners a_now_share a_now_leftOver a_book_lines a_history_rows c_hasImage c_now_askedCount c_now_outcome c_now_row c_now_partners c_now_share c_now_leftOver c_book_lines c_history_next c_history_held c_history_rows c_refused) sz) := by
  refine Met.ofW (cc := cX7_goal) (maxL := 3) (ret := (some .int)) (by decide) rfl ?_
  intro p e s m args below meth c s₁ B hml hv
  obtain ⟨rfl, hsz, ⟨hK, hN⟩, hP, hD0⟩ := hv
  have hx := B.exec
  have hb := B.bytes
  have hr := B.returns
  have hts := atoms_spec (ws := v_f_X7_goal) B.pre
  have hown : s.vm.findClass RX7 = some m.cls := own_of hd_X7_goal.1 (findClass_of_methodNamed B.named)
  have hlocks : meth.locks = false := B.notSynchronized
  subst hsz
  have hD := hD0.self (sz := s.heap.size)
  generalize hAe : va_A (w_X7_goal E a_ a_tape a_reader a_scripts a_now a_trial a_kept a_book a_keptBook a_history a_draws a_refused a_now_row a_now_partners a_now_share a_now_leftOver a_book_lines a_history_rows c_hasImage c_now_askedCount c_now_outcome c_now_row c_now_partners c_now_share c_now_leftOver c_book_lines c_history_next c_history_held c_history_rows c_refused) s.heap.size = A at hD ⊢
  have hA : ∀ q : Nat, s.heap.size ≤ q → A q := fun q h => by rw [← hAe]; exact Or.inr h
  have hS : va_S A s.heap s.heap [] := va_S.rf
  have hl := lv_entry ([.ref a_, .int p1]) (n := 3) (Nat.le_of_ble_eq_true rfl)
  rw [lg_entry_eq]
  generalize (lg_sl ([.ref a_, .int p1]) ++ List.replicate (3 - (lg_sl ([.ref a_, .int p1])).length) Slot.unset).toArray = ls at hl ⊢
  have hl : lv_has ls 3 [(0, .ref a_), (1, .int p1)] := hl
  obtain ⟨Q, hQ⟩ : ∃ Q : State → Prop, Q = MQ below (va_Qi (fun (q : Int32) (_u : Unit) => q = rr) (fun (_u : Unit) tt => va_P E.1 vwCl (w_X7_goal E a_ a_tape a_reader a_scripts a_now a_trial a_kept a_book a_keptBook a_history a_draws a_refused a_now_row a_now_partners a_now_share a_now_leftOver a_book_lines a_history_rows c_hasImage n_now_askedCount n_now_outcome n_now_row n_now_partners n_now_share n_now_leftOver n_book_lines n_history_next n_history_held n_history_rows n_refused) tt.heap ∧ va_D A (w_X7_goal E a_ a_tape a_reader a_scripts a_now a_trial a_kept a_book a_keptBook a_history a_draws a_refused a_now_row a_now_partners a_now_share a_now_leftOver a_book_lines a_history_rows c_hasImage n_now_askedCount n_now_outcome n_now_row n_now_partners n_now_share n_now_leftOver n_book_lines n_history_next n_history_held n_history_rows n_refused)) A) #[Value.ref a_, Value.int p1] s 0 0 A := ⟨_, rfl⟩
  rw [← hQ]
  change W p l e ({ frames := 6, cells := 0, slots := 0, locals := 151 } : Room) s m #[Value.ref a_, Value.int p1] below meth c s.heap [] 0 0 Q (F0 m 0 ls [])
  suffices hh9 : ∀ (H : Heap) (locs : List Loc), va_P E.1 vwCl (w_X7_goal E a_ a_tape a_reader a_scripts a_now a_trial a_kept a_book a_keptBook a_history a_draws a_refused a_now_row a_now_partners a_now_share a_now_leftOver a_book_lines a_history_rows c_hasImage c_now_askedCount c_now_outcome c_now_row c_now_partners c_now_share c_now_leftOver c_book_lines c_history_next c_history_held c_history_rows c_refused) H → va_D A (w_X7_goal E a_ a_tape a_reader a_scripts a_now a_trial a_kept a_book a_keptBook a_history a_draws a_refused a_now_row a_now_partners a_now_share a_now_leftOver a_book_lines a_history_rows c_hasImage c_now_askedCount c_now_outcome c_now_row c_now_partners c_now_share c_now_leftOver c_book_lines c_history_next c_history_held c_history_rows c_refused) → va_S A s.heap H locs → W p l e ({ frames := 6, cells := 0, slots := 0, locals := 151 } : Room) s m #[Value.ref a_, Value.int p1] below meth c H locs 0 0 Q (F0 m 0 ls []) from hh9 s.heap [] hP hD hS
  clear hP hD hS
  intro H locs hP hD hS
  have h9 := fixPD (ws' := [k_X7 a_ a_tape a_reader a_scripts a_now a_trial a_kept a_book a_keptBook a_history a_draws a_refused c_hasImage, k_X5 a_now a_now_row a_now_partners c_now_askedCount c_now_outcome a_now_share a_now_leftOver, k_I E a_now_row 81 c_now_row, k_I E a_now_partners 8 c_now_partners, k_I E a_now_share 2 c_now_share, k_I E a_now_leftOver 2 c_now_leftOver, k_X0 a_book a_book_lines, k_I E a_book_lines 300 c_book_lines, k_X2 a_history a_history_rows c_history_next c_history_held, k_I E a_history_rows 3240 c_history_rows, k_I E a_refused 3 c_refused]) hP hD rfl
  clear hP hD
  obtain ⟨hP, hD⟩ := h9
  unfold F_X7_goal at hF
  refine lv_aload_n hx hb (dq_42 0 bcX7_goal_0 (j := 0) rfl rfl) rfl (lv_at hl 0 rfl) ?_
  refine gt_X7_3 (v := .ref a_now) hx hb hts i_f_X7_goal_X7 hown hK hP 0 rfl (hts (.fieldLink RX7 35 "HushWatch" "now" "LHushWatch$State;") (List.mem_of_getElem? (i := 1) rfl)) rfl (dq_180 0 bcX7_goal_0 (j := 1) (i := 35) rfl rfl rfl) ?_
  refine va_getN (D := E.1) (ci := 6) (v := .ref a_now_row) (C := RX5) (T := TX5) (N := 6) hx hb hts i_f_X7_goal_X5 hown hK hP 1 rfl rfl 0 (by decide) (nx hN 12 rfl) (fun _ h9 => h9) rfl (dq_180 0 bcX7_goal_0 (j := 4) (i := 114) rfl rfl rfl) ?_
  refine lv_iconst (v := 2) hx hb (dq_5 0 bcX7_goal_0 (j := 7) rfl rfl) (by decide) ?_
  refine va_iald hx hb hK hP 2 0 rfl rfl (vin rfl) (dq_46 0 bcX7_goal_0 (j := 8) rfl rfl) ?_
  refine W.eq (g2 := F0 m 9 ls [.int (c_now_row 2)]) rfl ?_
  refine lv_istore_n (lv' := [(2, .int (c_now_row 2)), (0, .ref a_), (1, .int p1)]) hx hb (dq_61 0 bcX7_goal_0 (j := 9) rfl rfl) rfl hl (by decide) rfl (fun ls hl => ?_)
  refine lv_aload_n hx hb (dq_42 0 bcX7_goal_0 (j := 10) rfl rfl) rfl (lv_at hl 1 rfl) ?_
  refine lv_iconst (v := 5) hx hb (dq_8 0 bcX7_goal_0 (j := 11) rfl rfl) (by decide) ?_
  refine lv_iload_n hx hb (dq_27 0 bcX7_goal_0 (j := 12) rfl rfl) rfl (lv_at hl 2 rfl) ?_
  refine lv_iconst (v := 0) hx hb (dq_3 0 bcX7_goal_0 (j := 13) rfl rfl) (by decide) ?_
  refine lv_iconst (v := 0) hx hb (dq_3 0 bcX7_goal_0 (j := 14) rfl rfl) (by decide) ?_
  refine lv_iconst (v := 1) hx hb (dq_4 0 bcX7_goal_0 (j := 15) rfl rfl) (by decide) ?_
  replace hF := bd12_s hF
  obtain ⟨r_1, w_2, w_3, w_4, w_5, w_6, w_7, w_8, w_9, w_10, w_11, w_12, hc_13, hF⟩ := hF
  obtain ⟨hPc, hDc, hFc⟩ := wcut (wc := (w_X7_act E a_ a_tape a_reader a_scripts a_now a_trial a_kept a_book a_keptBook a_history a_draws a_refused a_now_row a_now_partners a_now_share a_now_leftOver a_book_lines a_history_rows c_hasImage c_now_askedCount c_now_outcome c_now_row c_now_partners c_now_share c_now_leftOver c_book_lines c_history_next c_history_held c_history_rows c_refused)) hP hD hS hA [0, 1, 2, 3, 4, 5, 6, 7, 8, 9, 10] (by decide) rfl
  have hrc := va_recv hK hPc (ci := 8) (q0 := 0) rfl rfl
  refine cE_i (wc := (w_X7_act E a_ a_tape a_reader a_scripts a_now a_trial a_kept a_book a_keptBook a_history a_draws a_refused a_now_row a_now_partners a_now_share a_now_leftOver a_book_lines a_history_rows c_hasImage c_now_askedCount c_now_outcome c_now_row c_now_partners c_now_share c_now_leftOver c_book_lines c_history_next c_history_held c_history_rows c_refused)) (wr := []) (w1 := (w_X7_act E a_ a_tape a_reader a_scripts a_now a_trial a_kept a_book a_keptBook a_history a_draws a_refused a_now_row a_now_partners a_now_share a_now_leftOver a_book_lines a_history_rows c_hasImage w_4 w_5 w_2 w_3 w_6 w_7 w_8 w_10 w_11 w_9 w_12)) (va_runV (As := [.int (5 : Int32), .int p1, .int (0 : Int32), .int (0 : Int32), .int (1 : Int32)]) (rest := [])  ⟨hx, hb, hml, hown, hts⟩ (f_X7_act l E H.size K (a_ := a_) (a_tape := a_tape) (a_reader := a_reader) (a_scripts := a_scripts) (a_now := a_now) (a_trial := a_trial) (a_kept := a_kept) (a_book := a_book) (a_keptBook := a_keptBook) (a_history := a_history) (a_draws := a_draws) (a_refused := a_refused) (a_now_row := a_now_row) (a_now_partners := a_now_partners) (a_now_share := a_now_share) (a_now_leftOver := a_now_leftOver) (a_book_lines := a_book_lines) (a_history_rows := a_history_rows) (p1 := (5 : Int32)) (p2 := p1) (p3 := (0 : Int32)) (p4 := (0 : Int32)) (p5 := (1 : Int32)) (c_hasImage := c_hasImage) (c_now_askedCount := c_now_askedCount) (c_now_outcome := c_now_outcome) (c_now_row := c_now_row) (c_now_partners := c_now_partners) (c_now_share := c_now_share) (c_now_leftOver := c_now_leftOver) (c_book_lines := c_book_lines) (c_history_next := c_history_next) (c_history_held := c_history_held) (c_history_rows := c_history_rows) (c_refused := c_refused) hc_13) (cwV 5 hts g_f_X7_goal_f_X7_act_163 rfl rfl rfl hd_X7_act ⟨Nat.le_of_ble_eq_true rfl, Nat.le_of_ble_eq_true rfl⟩) ⟨pW.blind, hrc, (pW.pre ⟨hK, hN⟩ hPc hDc)⟩ rfl rfl hl.1 rfl (lv_room (Nat.le_of_ble_eq_true rfl)) (dq_182 0 bcX7_goal_0 (j := 16) (i := 163) rfl rfl rfl) ⟨Nat.le_of_ble_eq_true rfl, Nat.le_of_ble_eq_true rfl⟩) hS hFc hP hD [0, 1, 2, 3, 4, 5, 6, 7, 8, 9, 10] [] rfl rfl (by decide) (by decide) (fun H locs hP hD hS => ?_)
  have h9 := fixPD (ws' := [k_X7 a_ a_tape a_reader a_scripts a_now a_trial a_kept a_book a_keptBook a_history a_draws a_refused c_hasImage, k_X5 a_now a_now_row a_now_partners w_4 w_5 a_now_share a_now_leftOver, k_I E a_now_row 81 w_2, k_I E a_now_partners 8 w_3, k_I E a_now_share 2 w_6, k_I E a_now_leftOver 2 w_7, k_X0 a_book a_book_lines, k_I E a_book_lines 300 w_8, k_X2 a_history a_history_rows w_10 w_11, k_I E a_history_rows 3240 w_9, k_I E a_refused 3 w_12]) hP hD rfl
  clear hP hD
  obtain ⟨hP, hD⟩ := h9
  refine lv_if_ge (tgt := 26) hx hb (dq_156 0 bcX7_goal_0 (j := 19) (i := 7) rfl rfl rfl) (by decide) (fun c_14 => ?_) (fun c_14 => ?_)
  ·
    replace hF := ip c_14 hF
    refine lv_iload_n hx hb (dq_28 0 bcX7_goal_0 (j := 26) rfl rfl) rfl (lv_at hl 0 rfl) ?_
    rw [hQ]
    have h9 := fin9 (P := fun u9 : Int32 × (Nat → Int32) × (Nat → Int32) × Int32 × Int32 × (Nat → Int32) × (Nat → Int32) × (Nat → Int32) × (Nat → Int32) × Int32 × Int32 × (Nat → Int32) => (c_now_row 2) = u9.1 ∧ va_P E.1 vwCl (w_X7_goal E a_ a_tape a_reader a_scripts a_now a_trial a_kept a_book a_keptBook a_history a_draws a_refused a_now_row a_now_partners a_now_share a_now_leftOver a_book_lines a_history_rows c_hasImage u9.2.2.2.1 u9.2.2.2.2.1 u9.2.1 u9.2.2.1 u9.2.2.2.2.2.1 u9.2.2.2.2.2.2.1 u9.2.2.2.2.2.2.2.1 u9.2.2.2.2.2.2.2.2.2.1 u9.2.2.2.2.2.2.2.2.2.2.1 u9.2.2.2.2.2.2.2.2.1 u9.2.2.2.2.2.2.2.2.2.2.2) H ∧ va_D A (w_X7_goal E a_ a_tape a_reader a_scripts a_now a_trial a_kept a_book a_keptBook a_history a_draws a_refused a_now_row a_now_partners a_now_share a_now_leftOver a_book_lines a_history_rows c_hasImage u9.2.2.2.1 u9.2.2.2.2.1 u9.2.1 u9.2.2.1 u9.2.2.2.2.2.1 u9.2.2.2.2.2.2.1 u9.2.2.2.2.2.2.2.1 u9.2.2.2.2.2.2.2.2.2.1 u9.2.2.2.2.2.2.2.2.2.2.1 u9.2.2.2.2.2.2.2.2.1 u9.2.2.2.2.2.2.2.2.2.2.2)) hF ⟨rfl, hP, hD⟩
    obtain ⟨e9_0, hP9, hD9⟩ := h9
    exact W.iret (v := c_now_row 2) hx hb hr (fun tt ht hW => ⟨⟨_, (), rfl, e9_0, ht ▸ hP9, hD9⟩, hS.F ht⟩) hS.2.2 (dq_172 0 bcX7_goal_0 (j := 27) rfl rfl)
  ·
    replace hF := inn c_14 hF
    refine lv_iconst (v := -1) hx hb (dq_2 0 bcX7_goal_0 (j := 22) rfl rfl) (by decide) ?_
    refine lv_goto (tgt := 27) hx hb (dq_167 0 bcX7_goal_0 (j := 23) (i := 4) rfl rfl rfl) (by decide) ?_
    rw [hQ]
    have h9 := fin9 (P := fun u9 : Int32 × (Nat → Int32) × (Nat → Int32) × Int32 × Int32 × (Nat → Int32) × (Nat → Int32) × (Nat → Int32) × (Nat → Int32) × Int32 × Int32 × (Nat → Int32) => (-1 : Int32) = u9.1 ∧ va_P E.1 vwCl (w_X7_goal E a_ a_tape a_reader a_scripts a_now a_trial a_kept a_book a_keptBook a_history a_draws a_refused a_now_row a_now_partners a_now_share a_now_leftOver a_book_lines a_history_rows c_hasImage u9.2.2.2.1 u9.2.2.2.2.1 u9.2.1 u9.2.2.1 u9.2.2.2.2.2.1 u9.2.2.2.2.2.2.1 u9.2.2.2.2.2.2.2.1 u9.2.2.2.2.2.2.2.2.2.1 u9.2.2.2.2.2.2.2.2.2.2.1 u9.2.2.2.2.2.2.2.2.1 u9.2.2.2.2.2.2.2.2.2.2.2) H ∧ va_D A (w_X7_goal E a_ a_tape a_reader a_scripts a_now a_trial a_kept a_book a_keptBook a_history a_draws a_refused a_now_row a_now_partners a_now_share a_now_leftOver a_book_lines a_history_rows c_hasImage u9.2.2.2.1 u9.2.2.2.2.1 u9.2.1 u9.2.2.1 u9.2.2.2.2.2.1 u9.2.2.2.2.2.2.1 u9.2.2.2.2.2.2.2.1 u9.2.2.2.2.2.2.2.2.2.1 u9.2.2.2.2.2.2.2.2.2.2.1 u9.2.2.2.2.2.2.2.2.1 u9.2.2.2.2.2.2.2.2.2.2.2)) hF ⟨rfl, hP, hD⟩
    obtain ⟨e9_0, hP9, hD9⟩ := h9
    exact W.iret (v := (-1 : Int32)) hx hb hr (fun tt ht hW => ⟨⟨_, (), rfl, e9_0, ht ▸ hP9, hD9⟩, hS.F ht⟩) hS.2.2 (dq_172 0 bcX7_goal_0 (j := 27) rfl rfl)

def F_X7_goes (K : Nat) (p1 : Int32) (p2 : Int32) (c_now_row : Nat → Int32) : Option (Int32) :=
  bd1 (F_X5_hasSite p1 c_now_row) (fun r_1 => if r_1 = (0 : Int32) then some (-1 : Int32) else if p2 < (0 : Int32) then some (-1 : Int32) else if (1 : Int32) < p2 then some (-1 : Int32) else bd1 (F_X5_isReached c_now_row) (fun r_7 => if r_7 = (0 : Int32) then if p2 = (1 : Int32) then bd1 (F_X5_aloneToGoal K p1 (1 : Int32) c_now_row) (fun r_14 => some r_14) else bd1 (F_X5_aloneToGoal K p1 (0 : Int32) c_now_row) (fun r_12 => some r_12) else some (-1 : Int32)))
abbrev w_X7_goes (E : EE) (a_ a_tape a_reader a_scripts a_now a_trial a_kept a_book a_keptBook a_history a_draws a_refused a_now_row a_now_partners a_now_share a_now_leftOver : Nat) (c_hasImage : Int32) (c_now_askedCount : Int32) (c_now_outcome : Int32) (c_now_row : Nat → Int32) : va_W := [k_X7 a_ a_tape a_reader a_scripts a_now a_trial a_kept a_book a_keptBook a_history a_draws a_refused c_hasImage, k_X5 a_now a_now_row a_now_partners c_now_askedCount c_now_outcome a_now_share a_now_leftOver, k_I E a_now_row 81 c_now_row]
def v_f_X7_goes : List Cond := List.cons (.code yX7_goes cX7_goes 3 (some .int)) (HAppend.hAppend (α := List Cond) (β := List Cond) (γ := List Cond) [.fieldLink RX7 35 "HushWatch" "now" "LHushWatch$State;", .methodLink RX7 120 yX5_hasSite, .instanceMethod yX5_hasSite, .selects RX5 yX5_hasSite yX5_hasSite, .initialized RX5, .methodLink RX7 170 yX5_isReached, .instanceMethod yX5_isReached, .selects RX5 yX5_isReached yX5_isReached, .methodLink RX7 258 yX5_aloneToGoal, .instanceMethod yX5_aloneToGoal, .selects RX5 yX5_aloneToGoal yX5_aloneToGoal] (HAppend.hAppend (α := List Cond) (β := List Cond) (γ := List Cond) wsX70 (HAppend.hAppend (α := List Cond) (β := List Cond) (γ := List Cond) v_f_X5_hasSite (HAppend.hAppend (α := List Cond) (β := List Cond) (γ := List Cond) v_f_X5_isReached (HAppend.hAppend (α := List Cond) (β := List Cond) (γ := List Cond) v_f_X5_aloneToGoal [])))))
theorem gw_f_X7_goes : v_f_X7_goes.all goodWord = true := gw_c2 (by decide +kernel) (gw_ap gw_wsX70 (gw_ap gw_f_X5_hasSite (gw_ap gw_f_X5_isReached (gw_ap gw_f_X5_aloneToGoal gw_nil))))
theorem i_f_X7_goes_X7 : ∀ w ∈ wsX70, w ∈ v_f_X7_goes := fun _ h => List.mem_cons_of_mem _ (List.mem_append_right _ (List.mem_append_left _ h))
theorem g_f_X7_goes_f_X5_hasSite_120 : GoodIn v_f_X7_goes (wsV RX7 120 RX5 yX5_hasSite v_f_X5_hasSite) := goodIn_in gw_f_X7_goes (in4 2 3 4 5 rfl rfl rfl rfl (fun _ h => List.mem_cons_of_mem _ (List.mem_append_right _ (List.mem_append_right _ (List.mem_append_left _ h)))))
theorem g_f_X7_goes_f_X5_isReached_170 : GoodIn v_f_X7_goes (wsV RX7 170 RX5 yX5_isReached v_f_X5_isReached) := goodIn_in gw_f_X7_goes (in4 6 7 8 5 rfl rfl rfl rfl (fun _ h => List.mem_cons_of_mem _ (List.mem_append_right _ (List.mem_append_right _ (List.mem_append_right _ (List.mem_append_left _ h))))))
theorem g_f_X7_goes_f_X5_aloneToGoal_258 : GoodIn v_f_X7_goes (wsV RX7 258 RX5 yX5_aloneToGoal v_f_X5_aloneToGoal) := goodIn_in gw_f_X7_goes (in4 9 10 11 5 rfl rfl rfl rfl (fun _ h => List.mem_cons_of_mem _ (List.mem_append_right _ (List.mem_append_right _ (List.mem_append_right _ (List.mem_append_right _ (List.mem_append_left _ h)))))))
theorem hd_X7_goes : yX7_goes.cls = RX7 ∧ yX7_goes.cls ≠ "java/lang/invoke/MethodHandle" ∧ yX7_goes.cls ≠ "java/lang/invoke/VarHandle" ∧ (parseMethodDescriptor yX7_goes.desc).map (fun d => d.parameters.length) = some 2 := by decide +kernel
set_option maxHeartbeats 4000000 in
set_option maxRecDepth 100000 in
theorem f_X7_goes (l : Launch) (E : EE) (K : Nat) {a_ a_tape a_reader a_scripts a_now a_trial a_kept a_book a_keptBook a_history a_draws a_refused a_now_row a_now_partners a_now_share a_now_leftOver : Nat} {p1 : Int32} {p2 : Int32} {c_hasImage : Int32} {c_now_askedCount : Int32} {c_now_outcome : Int32} {c_now_row : Nat → Int32} {rr : Int32} (hF : F_X7_goes K p1 p2 c_now_row = some rr) : Met l yX7_goes v_f_X7_goes (({ frames := 3, cells := 0, slots := 0, locals := 77 } : Room)) (va_Pc [.ref a_, .int p1, .int p2] (pP E (w_X7_goes E a_ a_tape a_reader a_scripts a_now a_trial a_kept a_book a_keptBook a_history a_draws a_refused a_now_row a_now_partners a_now_share a_now_leftOver c_hasImage c_now_askedCount c_now_outcome c_now_row))) (vp_Si (fun q : Int32 => q = rr)) 0 0 (fun _ => False) := by
  refine Met.ofW (cc := cX7_goes) (maxL := 3) (ret := (some .int)) (by decide) rfl ?_
  intro p e s m args below meth c s₁ B hml hv
  obtain ⟨rfl, ⟨hK, hN⟩, hP⟩ := hv
  have hx := B.exec
  have hb := B.bytes
  have hr := B.returns
  have hts := atoms_spec (ws := v_f_X7_goes) B.pre
  have hown : s.vm.findClass RX7 = some m.cls := own_of hd_X7_goes.1 (findClass_of_methodNamed B.named)
  have hlocks : meth.locks = false := B.notSynchronized
  replace hP : va_P E.1 vwCl [k_X7 a_ a_tape a_reader a_scripts a_now a_trial a_kept a_book a_keptBook a_history a_draws a_refused c_hasImage, k_X5 a_now a_now_row a_now_partners c_now_askedCount c_now_outcome a_now_share a_now_leftOver, k_I E a_now_row 81 c_now_row] s.heap := hP
  have hl := lv_entry ([.ref a_, .int p1, .int p2]) (n := 3) (Nat.le_of_ble_eq_true rfl)
  rw [lg_entry_eq]
  generalize (lg_sl ([.ref a_, .int p1, .int p2]) ++ List.replicate (3 - (lg_sl ([.ref a_, .int p1, .int p2])).length) Slot.unset).toArray = ls at hl ⊢
  have hl : lv_has ls 3 [(0, .ref a_), (1, .int p1), (2, .int p2)] := hl
  obtain ⟨Q, hQ⟩ : ∃ Q : State → Prop, Q = MQ below (vp_Si (fun q : Int32 => q = rr)) #[Value.ref a_, Value.int p1, Value.int p2] s 0 0 (fun _ => False) := ⟨_, rfl⟩
  rw [← hQ]
  change W p l e ({ frames := 3, cells := 0, slots := 0, locals := 77 } : Room) s m #[Value.ref a_, Value.int p1, Value.int p2] below meth c s.heap [] 0 0 Q (F0 m 0 ls [])
  unfold F_X7_goes at hF
  refine lv_aload_n hx hb (dq_42 0 bcX7_goes_0 (j := 0) rfl rfl) rfl (lv_at hl 0 rfl) ?_
  refine gt_X7_3 (v := .ref a_now) hx hb hts i_f_X7_goes_X7 hown hK hP 0 rfl (hts (.fieldLink RX7 35 "HushWatch" "now" "LHushWatch$State;") (List.mem_of_getElem? (i := 1) rfl)) rfl (dq_180 0 bcX7_goes_0 (j := 1) (i := 35) rfl rfl rfl) ?_
  refine lv_iload_n hx hb (dq_27 0 bcX7_goes_0 (j := 4) rfl rfl) rfl (lv_at hl 1 rfl) ?_
  replace hF := bd1_s hF
  obtain ⟨r_1, hc_2, hF⟩ := hF
  have hPc : va_P E.1 vwCl (w_X5_hasSite E a_now a_now_row a_now_partners a_now_share a_now_leftOver c_now_askedCount c_now_outcome c_now_row) s.heap := hP.sub (ws' := [k_X5 a_now a_now_row a_now_partners c_now_askedCount c_now_outcome a_now_share a_now_leftOver, k_I E a_now_row 81 c_now_row]) [1, 2] rfl
  have hrc := va_recv hK hPc (ci := 6) (q0 := 0) rfl rfl
  refine pE_z (va_runV (As := [.int p1]) (rest := [])  ⟨hx, hb, hml, hown, hts⟩ (f_X5_hasSite l E (a_ := a_now) (a_row := a_now_row) (a_partners := a_now_partners) (a_share := a_now_share) (a_leftOver := a_now_leftOver) (p1 := p1) (c_askedCount := c_now_askedCount) (c_outcome := c_now_outcome) (c_row := c_now_row) hc_2) (cwV 1 hts g_f_X7_goes_f_X5_hasSite_120 rfl rfl rfl hd_X5_hasSite ⟨Nat.le_of_ble_eq_true rfl, Nat.le_of_ble_eq_true rfl⟩) ⟨pP.blind, hrc, (pP.pre ⟨hK, hN⟩ hPc)⟩ rfl rfl hl.1 rfl (lv_room (Nat.le_of_ble_eq_true rfl)) (dq_182 0 bcX7_goes_0 (j := 5) (i := 120) rfl rfl rfl) ⟨Nat.le_of_ble_eq_true rfl, Nat.le_of_ble_eq_true rfl⟩) (fun hb_3 => ?_)
  refine lv_if_eq (tgt := 30) hx hb (dq_153 0 bcX7_goes_0 (j := 8) (i := 22) rfl rfl rfl) (by decide) (fun c_4 => ?_) (fun c_4 => ?_)
  ·
    replace hF := ip c_4 hF
    refine lv_iconst (v := -1) hx hb (dq_2 0 bcX7_goes_0 (j := 30) rfl rfl) (by decide) ?_
    rw [hQ]
    obtain e9_0 := inj1 hF
    exact W.iret (v := (-1 : Int32)) hx hb hr (fun tt ht hW => ⟨_, rfl, e9_0, ht⟩) (fun _ h => by cases h) (dq_172 0 bcX7_goes_0 (j := 31) rfl rfl)
  ·
    replace hF := inn c_4 hF
    refine lv_iload_n hx hb (dq_28 0 bcX7_goes_0 (j := 11) rfl rfl) rfl (lv_at hl 2 rfl) ?_
    refine lv_if_lt (tgt := 30) hx hb (dq_155 0 bcX7_goes_0 (j := 12) (i := 18) rfl rfl rfl) (by decide) (fun c_5 => ?_) (fun c_5 => ?_)
    ·
      replace hF := ip c_5 hF
      refine lv_iconst (v := -1) hx hb (dq_2 0 bcX7_goes_0 (j := 30) rfl rfl) (by decide) ?_
      rw [hQ]
      obtain e9_0 := inj1 hF
      exact W.iret (v := (-1 : Int32)) hx hb hr (fun tt ht hW => ⟨_, rfl, e9_0, ht⟩) (fun _ h => by cases h) (dq_172 0 bcX7_goes_0 (j := 31) rfl rfl)
    ·
      replace hF := inn c_5 hF
      refine lv_iload_n hx hb (dq_28 0 bcX7_goes_0 (j := 15) rfl rfl) rfl (lv_at hl 2 rfl) ?_
      refine lv_iconst (v := 1) hx hb (dq_4 0 bcX7_goes_0 (j := 16) rfl rfl) (by decide) ?_
      refine lv_icmp_gt (tgt := 30) hx hb (dq_163 0 bcX7_goes_0 (j := 17) (i := 13) rfl rfl rfl) (by decide) (fun c_6 => ?_) (fun c_6 => ?_)
      ·
        replace hF := ip c_6 hF
        refine lv_iconst (v := -1) hx hb (dq_2 0 bcX7_goes_0 (j := 30) rfl rfl) (by decide) ?_
        rw [hQ]
        obtain e9_0 := inj1 hF
        exact W.iret (v := (-1 : Int32)) hx hb hr (fun tt ht hW => ⟨_, rfl, e9_0, ht⟩) (fun _ h => by cases h) (dq_172 0 bcX7_goes_0 (j := 31) rfl rfl)
      ·
        replace hF := inn c_6 hF
        refine lv_aload_n hx hb (dq_42 0 bcX7_goes_0 (j := 20) rfl rfl) rfl (lv_at hl 0 rfl) ?_
        refine gt_X7_3 (v := .ref a_now) hx hb hts i_f_X7_goes_X7 hown hK hP 0 rfl (hts (.fieldLink RX7 35 "HushWatch" "now" "LHushWatch$State;") (List.mem_of_getElem? (i := 1) rfl)) rfl (dq_180 0 bcX7_goes_0 (j := 21) (i := 35) rfl rfl rfl) ?_
        replace hF := bd1_s hF
        obtain ⟨r_7, hc_8, hF⟩ := hF
        have hPc : va_P E.1 vwCl (w_X5_isReached E a_now a_now_row a_now_partners a_now_share a_now_leftOver c_now_askedCount c_now_outcome c_now_row) s.heap := hP.sub (ws' := [k_X5 a_now a_now_row a_now_partners c_now_askedCount c_now_outcome a_now_share a_now_leftOver, k_I E a_now_row 81 c_now_row]) [1, 2] rfl
        have hrc := va_recv hK hPc (ci := 6) (q0 := 0) rfl rfl
        refine pE_z (va_runV (As := []) (rest := [])  ⟨hx, hb, hml, hown, hts⟩ (f_X5_isReached l E (a_ := a_now) (a_row := a_now_row) (a_partners := a_now_partners) (a_share := a_now_share) (a_leftOver := a_now_leftOver) (c_askedCount := c_now_askedCount) (c_outcome := c_now_outcome) (c_row := c_now_row) hc_8) (cwV 0 hts g_f_X7_goes_f_X5_isReached_170 rfl rfl rfl hd_X5_isReached ⟨Nat.le_of_ble_eq_true rfl, Nat.le_of_ble_eq_true rfl⟩) ⟨pP.blind, hrc, (pP.pre ⟨hK, hN⟩ hPc)⟩ rfl rfl hl.1 rfl (lv_room (Nat.le_of_ble_eq_true rfl)) (dq_182 0 bcX7_goes_0 (j := 24) (i := 170) rfl rfl rfl) ⟨Nat.le_of_ble_eq_true rfl, Nat.le_of_ble_eq_true rfl⟩) (fun hb_9 => ?_)
        refine lv_if_eq (tgt := 32) hx hb (dq_153 0 bcX7_goes_0 (j := 27) (i := 5) rfl rfl rfl) (by decide) (fun c_10 => ?_) (fun c_10 => ?_)
        ·
          replace hF := ip c_10 hF
          refine lv_aload_n hx hb (dq_42 0 bcX7_goes_0 (j := 32) rfl rfl) rfl (lv_at hl 0 rfl) ?_
          refine gt_X7_3 (v := .ref a_now) hx hb hts i_f_X7_goes_X7 hown hK hP 0 rfl (hts (.fieldLink RX7 35 "HushWatch" "now" "LHushWatch$State;") (List.mem_of_getElem? (i := 1) rfl)) rfl (dq_180 0 bcX7_goes_0 (j := 33) (i := 35) rfl rfl rfl) ?_
          refine lv_iload_n hx hb (dq_27 0 bcX7_goes_0 (j := 36) rfl rfl) rfl (lv_at hl 1 rfl) ?_
          refine lv_iload_n hx hb (dq_28 0 bcX7_goes_0 (j := 37) rfl rfl) rfl (lv_at hl 2 rfl) ?_
          refine lv_iconst (v := 1) hx hb (dq_4 0 bcX7_goes_0 (j := 38) rfl rfl) (by decide) ?_
          refine lv_icmp_ne (tgt := 46) hx hb (dq_160 0 bcX7_goes_0 (j := 39) (i := 7) rfl rfl rfl) (by decide) (fun c_11 => ?_) (fun c_11 => ?_)
          ·
            replace hF := inn c_11 hF
            refine lv_iconst (v := 0) hx hb (dq_3 0 bcX7_goes_0 (j := 46) rfl rfl) (by decide) ?_
            replace hF := bd1_s hF
            obtain ⟨r_12, hc_13, hF⟩ := hF
            have hPc : va_P E.1 vwCl (w_X5_aloneToGoal E a_now a_now_row a_now_partners a_now_share a_now_leftOver c_now_askedCount c_now_outcome c_now_row) s.heap := hP.sub (ws' := [k_X5 a_now a_now_row a_now_partners c_now_askedCount c_now_outcome a_now_share a_now_leftOver, k_I E a_now_row 81 c_now_row]) [1, 2] rfl
            have hrc := va_recv hK hPc (ci := 6) (q0 := 0) rfl rfl
            refine pE_i (va_runV (As := [.int p1, .int (0 : Int32)]) (rest := [])  ⟨hx, hb, hml, hown, hts⟩ (f_X5_aloneToGoal l E K (a_ := a_now) (a_row := a_now_row) (a_partners := a_now_partners) (a_share := a_now_share) (a_leftOver := a_now_leftOver) (p1 := p1) (p2 := (0 : Int32)) (c_askedCount := c_now_askedCount) (c_outcome := c_now_outcome) (c_row := c_now_row) hc_13) (cwV 2 hts g_f_X7_goes_f_X5_aloneToGoal_258 rfl rfl rfl hd_X5_aloneToGoal ⟨Nat.le_of_ble_eq_true rfl, Nat.le_of_ble_eq_true rfl⟩) ⟨pP.blind, hrc, (pP.pre ⟨hK, hN⟩ hPc)⟩ rfl rfl hl.1 rfl (lv_room (Nat.le_of_ble_eq_true rfl)) (dq_182 0 bcX7_goes_0 (j := 47) (i := 258) rfl rfl rfl) ⟨Nat.le_of_ble_eq_true rfl, Nat.le_of_ble_eq_true rfl⟩) ?_
            rw [hQ]
            obtain e9_0 := inj1 hF
            exact W.iret (v := r_12) hx hb hr (fun tt ht hW => ⟨_, rfl, e9_0, ht⟩) (fun _ h => by cases h) (dq_172 48 bcX7_goes_1 (j := 2) rfl rfl)
          ·
            replace hF := ip c_11 hF
            refine lv_iconst (v := 1) hx hb (dq_4 0 bcX7_goes_0 (j := 42) rfl rfl) (by decide) ?_
            refine lv_goto (tgt := 47) hx hb (dq_167 0 bcX7_goes_0 (j := 43) (i := 4) rfl rfl rfl) (by decide) ?_
            replace hF := bd1_s hF
            obtain ⟨r_14, hc_15, hF⟩ := hF
            have hPc : va_P E.1 vwCl (w_X5_aloneToGoal E a_now a_now_row a_now_partners a_now_share a_now_leftOver c_now_askedCount c_now_outcome c_now_row) s.heap := hP.sub (ws' := [k_X5 a_now a_now_row a_now_partners c_now_askedCount c_now_outcome a_now_share a_now_leftOver, k_I E a_now_row 81 c_now_row]) [1, 2] rfl
            have hrc := va_recv hK hPc (ci := 6) (q0 := 0) rfl rfl
            refine pE_i (va_runV (As := [.int p1, .int (1 : Int32)]) (rest := [])  ⟨hx, hb, hml, hown, hts⟩ (f_X5_aloneToGoal l E K (a_ := a_now) (a_row := a_now_row) (a_partners := a_now_partners) (a_share := a_now_share) (a_leftOver := a_now_leftOver) (p1 := p1) (p2 := (1 : Int32)) (c_askedCount := c_now_askedCount) (c_outcome := c_now_outcome) (c_row := c_now_row) hc_15) (cwV 2 hts g_f_X7_goes_f_X5_aloneToGoal_258 rfl rfl rfl hd_X5_aloneToGoal ⟨Nat.le_of_ble_eq_true rfl, Nat.le_of_ble_eq_true rfl⟩) ⟨pP.blind, hrc, (pP.pre ⟨hK, hN⟩ hPc)⟩ rfl rfl hl.1 rfl (lv_room (Nat.le_of_ble_eq_true rfl)) (dq_182 0 bcX7_goes_0 (j := 47) (i := 258) rfl rfl rfl) ⟨Nat.le_of_ble_eq_true rfl, Nat.le_of_ble_eq_true rfl⟩) ?_
            rw [hQ]
            obtain e9_0 := inj1 hF
            exact W.iret (v := r_14) hx hb hr (fun tt ht hW => ⟨_, rfl, e9_0, ht⟩) (fun _ h => by cases h) (dq_172 48 bcX7_goes_1 (j := 2) rfl rfl)
        ·
          replace hF := inn c_10 hF
          refine lv_iconst (v := -1) hx hb (dq_2 0 bcX7_goes_0 (j := 30) rfl rfl) (by decide) ?_
          rw [hQ]
          obtain e9_0 := inj1 hF
          exact W.iret (v := (-1 : Int32)) hx hb hr (fun tt ht hW => ⟨_, rfl, e9_0, ht⟩) (fun _ h => by cases h) (dq_172 0 bcX7_goes_0 (j := 31) rfl rfl)

def F_X7_loggedActs (c_now_row : Nat → Int32) : Option (Int32) :=
  some (minF (c_now_row 16) (60 : Int32))
abbrev w_X7_loggedActs (E : EE) (a_ a_tape a_reader a_scripts a_now a_trial a_kept a_book a_keptBook a_history a_draws a_refused a_now_row a_now_partners a_now_share a_now_leftOver : Nat) (c_hasImage : Int32) (c_now_askedCount : Int32) (c_now_outcome : Int32) (c_now_row : Nat → Int32) : va_W := [k_X7 a_ a_tape a_reader a_scripts a_now a_trial a_kept a_book a_keptBook a_history a_draws a_refused c_hasImage, k_X5 a_now a_now_row a_now_partners c_now_askedCount c_now_outcome a_now_share a_now_leftOver, k_I E a_now_row 81 c_now_row]
def v_f_X7_loggedActs : List Cond := List.cons (.code yX7_loggedActs cX7_loggedActs 1 (some .int)) (HAppend.hAppend (α := List Cond) (β := List Cond) (γ := List Cond) [.fieldLink RX7 35 "HushWatch" "now" "LHushWatch$State;", .methodLink RX7 327 Lib.Math.min.name, .static Lib.Math.min.name, .initialized "java/lang/Math", .code Lib.Math.min.name Lib.Math.min.code 2 (some .int)] (HAppend.hAppend (α := List Cond) (β := List Cond) (γ := List Cond) wsX70 (HAppend.hAppend (α := List Cond) (β := List Cond) (γ := List Cond) wsX50 [])))
theorem gw_f_X7_loggedActs : v_f_X7_loggedActs.all goodWord = true := gw_c2 (by decide +kernel) (gw_ap gw_wsX70 (gw_ap gw_wsX50 gw_nil))
theorem i_f_X7_loggedActs_X7 : ∀ w ∈ wsX70, w ∈ v_f_X7_loggedActs := fun _ h => List.mem_cons_of_mem _ (List.mem_append_right _ (List.mem_append_left _ h))
theorem i_f_X7_loggedActs_X5 : ∀ w ∈ wsX50, w ∈ v_f_X7_loggedActs := fun _ h => List.mem_cons_of_mem _ (List.mem_append_right _ (List.mem_append_right _ (List.mem_append_left _ h)))
theorem hd_X7_loggedActs : yX7_loggedActs.cls = RX7 ∧ yX7_loggedActs.cls ≠ "java/lang/invoke/MethodHandle" ∧ yX7_loggedActs.cls ≠ "java/lang/invoke/VarHandle" ∧ (parseMethodDescriptor yX7_loggedActs.desc).map (fun d => d.parameters.length) = some 0 := by decide +kernel
set_option maxHeartbeats 4000000 in
set_option maxRecDepth 100000 in
theorem f_X7_loggedActs (l : Launch) (E : EE) {a_ a_tape a_reader a_scripts a_now a_trial a_kept a_book a_keptBook a_history a_draws a_refused a_now_row a_now_partners a_now_share a_now_leftOver : Nat} {c_hasImage : Int32} {c_now_askedCount : Int32} {c_now_outcome : Int32} {c_now_row : Nat → Int32} {rr : Int32} (hF : F_X7_loggedActs c_now_row = some rr) : Met l yX7_loggedActs v_f_X7_loggedActs (({ frames := 1, cells := 0, slots := 0, locals := 21 } : Room)) (va_Pc [.ref a_] (pP E (w_X7_loggedActs E a_ a_tape a_reader a_scripts a_now a_trial a_kept a_book a_keptBook a_history a_draws a_refused a_now_row a_now_partners a_now_share a_now_leftOver c_hasImage c_now_askedCount c_now_outcome c_now_row))) (vp_Si (fun q : Int32 => q = rr)) 0 0 (fun _ => False) := by
  refine Met.ofW (cc := cX7_loggedActs) (maxL := 1) (ret := (some .int)) (by decide) rfl ?_
  intro p e s m args below meth c s₁ B hml hv
  obtain ⟨rfl, ⟨hK, hN⟩, hP⟩ := hv
  have hx := B.exec
  have hb := B.bytes
  have hr := B.returns
  have hts := atoms_spec (ws := v_f_X7_loggedActs) B.pre
  have hown : s.vm.findClass RX7 = some m.cls := own_of hd_X7_loggedActs.1 (findClass_of_methodNamed B.named)
  have hlocks : meth.locks = false := B.notSynchronized
  replace hP : va_P E.1 vwCl [k_X7 a_ a_tape a_reader a_scripts a_now a_trial a_kept a_book a_keptBook a_history a_draws a_refused c_hasImage, k_X5 a_now a_now_row a_now_partners c_now_askedCount c_now_outcome a_now_share a_now_leftOver, k_I E a_now_row 81 c_now_row] s.heap := hP
  have hl := lv_entry ([.ref a_]) (n := 1) (Nat.le_of_ble_eq_true rfl)
  rw [lg_entry_eq]
  generalize (lg_sl ([.ref a_]) ++ List.replicate (1 - (lg_sl ([.ref a_])).length) Slot.unset).toArray = ls at hl ⊢
  have hl : lv_has ls 1 [(0, .ref a_)] := hl
  obtain ⟨Q, hQ⟩ : ∃ Q : State → Prop, Q = MQ below (vp_Si (fun q : Int32 => q = rr)) #[Value.ref a_] s 0 0 (fun _ => False) := ⟨_, rfl⟩
  rw [← hQ]
  change W p l e ({ frames := 1, cells := 0, slots := 0, locals := 21 } : Room) s m #[Value.ref a_] below meth c s.heap [] 0 0 Q (F0 m 0 ls [])
  unfold F_X7_loggedActs at hF
  refine lv_aload_n hx hb (dq_42 0 bcX7_loggedActs_0 (j := 0) rfl rfl) rfl (lv_at hl 0 rfl) ?_
  refine gt_X7_3 (v := .ref a_now) hx hb hts i_f_X7_loggedActs_X7 hown hK hP 0 rfl (hts (.fieldLink RX7 35 "HushWatch" "now" "LHushWatch$State;") (List.mem_of_getElem? (i := 1) rfl)) rfl (dq_180 0 bcX7_loggedActs_0 (j := 1) (i := 35) rfl rfl rfl) ?_
  refine va_getN (D := E.1) (ci := 6) (v := .ref a_now_row) (C := RX5) (T := TX5) (N := 6) hx hb hts i_f_X7_loggedActs_X5 hown hK hP 1 rfl rfl 0 (by decide) (nx hN 12 rfl) (fun _ h9 => h9) rfl (dq_180 0 bcX7_loggedActs_0 (j := 4) (i := 114) rfl rfl rfl) ?_
  refine lv_bipush (v := 16) hx hb (dq_16 0 bcX7_loggedActs_0 (j := 7) (i := 16) rfl rfl rfl) (by decide) ?_
  refine va_iald hx hb hK hP 2 0 rfl rfl (vin rfl) (dq_46 0 bcX7_loggedActs_0 (j := 9) rfl rfl) ?_
  refine W.eq (g2 := F0 m 10 ls [.int (c_now_row 16)]) rfl ?_
  refine lv_bipush (v := 60) hx hb (dq_16 0 bcX7_loggedActs_0 (j := 10) (i := 60) rfl rfl rfl) (by decide) ?_
  refine va_mmin hx hb (hml.trans hl.1.symm) hown (hts (.methodLink RX7 327 Lib.Math.min.name) (List.mem_of_getElem? (i := 2) rfl)) (hts (.static Lib.Math.min.name) (List.mem_of_getElem? (i := 3) rfl)) (hts (.initialized "java/lang/Math") (List.mem_of_getElem? (i := 4) rfl)) (hts (.code Lib.Math.min.name Lib.Math.min.code 2 (some .int)) (List.mem_of_getElem? (i := 5) rfl)) (Nat.le_of_ble_eq_true rfl) (Nat.le_of_ble_eq_true rfl) (Nat.le_of_ble_eq_true rfl) (Nat.le_of_ble_eq_true rfl) (dq_184 0 bcX7_loggedActs_0 (j := 12) (i := 327) rfl rfl rfl) ?_
  refine W.eq (g2 := F0 m 15 ls [.int (minF (c_now_row 16) (60 : Int32))]) rfl ?_
  rw [hQ]
  obtain e9_0 := inj1 hF
  exact W.iret (v := (minF (c_now_row 16) (60 : Int32))) hx hb hr (fun tt ht hW => ⟨_, rfl, e9_0, ht⟩) (fun _ h => by cases h) (dq_172 0 bcX7_loggedActs_0 (j := 15) rfl rfl)
