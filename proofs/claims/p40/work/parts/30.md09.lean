noncomputable def blX8_all_0 : List Nat := [42, 182, 1, 43, 153, 0, 15, 27, 133, 9, 20, 1, 129, 184, 0, 60, 154, 0, 7, 20, 1, 127, 173, 27, 170, 0, 0, 0, 0, 0, 0, 86, 0, 0, 0, 0, 0, 0, 0, 4, 0, 0, 0, 36, 0, 0, 0, 44, 0, 0, 0]
set_option maxRecDepth 100000 in
theorem bcX8_all_0 : ((cX8_all.data.toList.drop 0).take blX8_all_0.length).map UInt8.toNat = blX8_all_0 := by decide +kernel
noncomputable def blX8_all_1 : List Nat := [0, 0, 0, 52, 0, 0, 0, 59, 0, 0, 0, 67, 42, 16, 16, 182, 0, 199, 133, 173, 42, 16, 24, 182, 0, 199, 133, 173, 42, 3, 182, 0, 199, 133, 173, 42, 16, 8, 182, 0, 199, 133, 173, 42, 42, 16, 16, 182, 0, 199, 133]
set_option maxRecDepth 100000 in
theorem bcX8_all_1 : ((cX8_all.data.toList.drop 48).take blX8_all_1.length).map UInt8.toNat = blX8_all_1 := by decide +kernel
noncomputable def blX8_all_2 : List Nat := [0, 199, 133, 42, 16, 24, 182, 0, 199, 133, 182, 0, 218, 173, 42, 42, 3, 182, 0, 199, 133, 42, 16, 8, 182, 0, 199, 133, 182, 0, 218, 173]
set_option maxRecDepth 100000 in
theorem bcX8_all_2 : ((cX8_all.data.toList.drop 96).take blX8_all_2.length).map UInt8.toNat = blX8_all_2 := by decide +kernel
noncomputable def blX8_bad_0 : List Nat := [42, 42, 180, 0, 103, 2, 160, 0, 10, 42, 180, 0, 94, 167, 0, 7, 42, 180, 0, 103, 181, 0, 103, 177]
set_option maxRecDepth 100000 in
theorem bcX8_bad_0 : ((cX8_bad.data.toList.drop 0).take blX8_bad_0.length).map UInt8.toNat = blX8_bad_0 := by decide +kernel
noncomputable def blX8_here_0 : List Nat := [42, 180, 0, 64, 42, 180, 0, 57, 162, 0, 15, 42, 180, 0, 9, 42, 180, 0, 64, 46, 167, 0, 4, 2, 172]
set_option maxRecDepth 100000 in
theorem bcX8_here_0 : ((cX8_here.data.toList.drop 0).take blX8_here_0.length).map UInt8.toNat = blX8_here_0 := by decide +kernel
noncomputable def blX8_isLetter_0 : List Nat := [26, 16, 97, 161, 0, 13, 26, 16, 122, 163, 0, 7, 4, 167, 0, 4, 3, 172]
set_option maxRecDepth 100000 in
theorem bcX8_isLetter_0 : ((cX8_isLetter.data.toList.drop 0).take blX8_isLetter_0.length).map UInt8.toNat = blX8_isLetter_0 := by decide +kernel
noncomputable def blX8_readWord_0 : List Nat := [42, 9, 181, 0, 67, 3, 60, 42, 182, 0, 71, 184, 0, 75, 153, 0, 53, 42, 27, 16, 8, 162, 0, 26, 20, 0, 79, 42, 180, 0, 67, 105, 42, 182, 0, 71, 133, 97, 20, 0, 81, 101, 10, 97, 167, 0, 4, 9, 181, 0, 67]
set_option maxRecDepth 100000 in
theorem bcX8_readWord_0 : ((cX8_readWord.data.toList.drop 0).take blX8_readWord_0.length).map UInt8.toNat = blX8_readWord_0 := by decide +kernel
noncomputable def blX8_readWord_1 : List Nat := [181, 0, 67, 132, 1, 1, 42, 89, 180, 0, 64, 4, 96, 181, 0, 64, 167, 255, 199, 42, 4, 181, 0, 83, 177]
set_option maxRecDepth 100000 in
theorem bcX8_readWord_1 : ((cX8_readWord.data.toList.drop 48).take blX8_readWord_1.length).map UInt8.toNat = blX8_readWord_1 := by decide +kernel
noncomputable def blX8_isDigit_0 : List Nat := [26, 16, 48, 161, 0, 13, 26, 16, 57, 163, 0, 7, 4, 167, 0, 4, 3, 172]
set_option maxRecDepth 100000 in
theorem bcX8_isDigit_0 : ((cX8_isDigit.data.toList.drop 0).take blX8_isDigit_0.length).map UInt8.toNat = blX8_isDigit_0 := by decide +kernel
def dl_X8_all_30_md09_0 : List (Nat × Instr × Nat) := [(24, .tableswitch 86 0 4 #[36, 44, 52, 59, 67], 36)]
set_option maxRecDepth 100000 in
theorem dall_X8_all_30_md09_0 : dchk cX8_all dl_X8_all_30_md09_0 = true := by decide +kernel
theorem dX8_all_24 : decode cX8_all 24 = .ok (.tableswitch 86 0 4 #[36, 44, 52, 59, 67], 36) := dchk_at dall_X8_all_30_md09_0 (k := 0) rfl
def F_X8_all (K : Nat) (p1 : Int32) (c_now : Nat → Int32) (c_sites : Int32) : Option (Int64) :=
  bd1 (F_X8_isWatch c_sites) (fun r_1 => if r_1 = (0 : Int32) then some (-100000000 : Int64) else bd1 (F_X8_in p1.toInt64 (0 : Int64) (5 : Int64)) (fun r_5 => if r_5 = (0 : Int32) then some (-100000000 : Int64) else if p1 = (0 : Int32) then bd1 (F_X8_sum K (16 : Int32) c_now c_sites) (fun r_10 => some r_10.toInt64) else if p1 = (1 : Int32) then bd1 (F_X8_sum K (24 : Int32) c_now c_sites) (fun r_12 => some r_12.toInt64) else if p1 = (2 : Int32) then bd1 (F_X8_sum K (0 : Int32) c_now c_sites) (fun r_14 => some r_14.toInt64) else if p1 = (3 : Int32) then bd1 (F_X8_sum K (8 : Int32) c_now c_sites) (fun r_16 => some r_16.toInt64) else if p1 = (4 : Int32) then bd1 (F_X8_sum K (16 : Int32) c_now c_sites) (fun r_18 => bd1 (F_X8_sum K (24 : Int32) c_now c_sites) (fun r_20 => bd1 (F_X8_valueOf r_18.toInt64 r_20.toInt64 c_now) (fun r_22 => some r_22))) else bd1 (F_X8_sum K (0 : Int32) c_now c_sites) (fun r_24 => bd1 (F_X8_sum K (8 : Int32) c_now c_sites) (fun r_26 => bd1 (F_X8_valueOf r_24.toInt64 r_26.toInt64 c_now) (fun r_28 => some r_28)))))
abbrev w_X8_all (E : EE) (a_ a_tape a_readPlace a_script a_scriptLong a_now a_refused a_shareX a_shareY a_askedRow a_kept a_aside a_spelled a_image : Nat) (c_thrown : Int32) (c_taped : Int32) (c_at : Int32) (c_part : Int32) (c_partFrom : Int32) (c_partNumber : Int32) (c_wrong : Int32) (c_partWord : Int64) (c_readLaw : Int32) (c_readBound : Int32) (c_readGoal : Int32) (c_readSites : Int32) (c_scripts : Int32) (c_sites : Int32) (c_asked : Int32) (c_outcome : Int32) (c_took : Int32) (c_acts : Int32) (c_drawn : Int64) (c_racer : Int32) (c_raced : Int32) (c_spelledMany : Int32) (c_hasImage : Int32) (c_now : Nat → Int32) : va_W := [k_X8 a_ c_thrown a_tape c_taped c_at c_part c_partFrom c_partNumber c_wrong c_partWord c_readLaw c_readBound c_readGoal c_readSites a_readPlace a_script a_scriptLong c_scripts a_now a_refused c_sites a_shareX a_shareY c_asked c_outcome a_askedRow c_took a_kept c_acts c_drawn a_aside c_racer c_raced a_spelled c_spelledMany a_image c_hasImage, k_I E a_now 265 c_now]
def v_f_X8_all : List Cond := List.cons (.code yX8_all cX8_all 2 (some .long)) (HAppend.hAppend (α := List Cond) (β := List Cond) (γ := List Cond) [.constantLong RX8 383 (-100000000), .constantLong RX8 385 (5), .methodLink RX8 299 yX8_isWatch, .instanceMethod yX8_isWatch, .selects RX8 yX8_isWatch yX8_isWatch, .initialized RX8, .methodLink RX8 60 yX8_in, .static yX8_in, .methodLink RX8 199 yX8_sum, .instanceMethod yX8_sum, .selects RX8 yX8_sum yX8_sum, .methodLink RX8 218 yX8_valueOf, .instanceMethod yX8_valueOf, .selects RX8 yX8_valueOf yX8_valueOf] (HAppend.hAppend (α := List Cond) (β := List Cond) (γ := List Cond) v_f_X8_isWatch (HAppend.hAppend (α := List Cond) (β := List Cond) (γ := List Cond) v_f_X8_in (HAppend.hAppend (α := List Cond) (β := List Cond) (γ := List Cond) v_f_X8_sum (HAppend.hAppend (α := List Cond) (β := List Cond) (γ := List Cond) v_f_X8_valueOf [])))))
theorem gw_f_X8_all : v_f_X8_all.all goodWord = true := gw_c2 (by decide +kernel) (gw_ap gw_f_X8_isWatch (gw_ap gw_f_X8_in (gw_ap gw_f_X8_sum (gw_ap gw_f_X8_valueOf gw_nil))))
theorem g_f_X8_all_f_X8_isWatch_299 : GoodIn v_f_X8_all (wsV RX8 299 RX8 yX8_isWatch v_f_X8_isWatch) := goodIn_in gw_f_X8_all (in4 3 4 5 6 rfl rfl rfl rfl (fun _ h => List.mem_cons_of_mem _ (List.mem_append_right _ (List.mem_append_left _ h))))
theorem g_f_X8_all_f_X8_in_60 : GoodIn v_f_X8_all (va_wsS RX8 60 yX8_in v_f_X8_in) := goodIn_in gw_f_X8_all (in3 7 8 6 rfl rfl rfl (fun _ h => List.mem_cons_of_mem _ (List.mem_append_right _ (List.mem_append_right _ (List.mem_append_left _ h)))))
theorem g_f_X8_all_f_X8_sum_199 : GoodIn v_f_X8_all (wsV RX8 199 RX8 yX8_sum v_f_X8_sum) := goodIn_in gw_f_X8_all (in4 9 10 11 6 rfl rfl rfl rfl (fun _ h => List.mem_cons_of_mem _ (List.mem_append_right _ (List.mem_append_right _ (List.mem_append_right _ (List.mem_append_left _ h))))))
theorem g_f_X8_all_f_X8_valueOf_218 : GoodIn v_f_X8_all (wsV RX8 218 RX8 yX8_valueOf v_f_X8_valueOf) := goodIn_in gw_f_X8_all (in4 12 13 14 6 rfl rfl rfl rfl (fun _ h => List.mem_cons_of_mem _ (List.mem_append_right _ (List.mem_append_right _ (List.mem_append_right _ (List.mem_append_right _ (List.mem_append_left _ h)))))))
theorem hd_X8_all : yX8_all.cls = RX8 ∧ yX8_all.cls ≠ "java/lang/invoke/MethodHandle" ∧ yX8_all.cls ≠ "java/lang/invoke/VarHandle" ∧ (parseMethodDescriptor yX8_all.desc).map (fun d => d.parameters.length) = some 1 := by decide +kernel
set_option maxHeartbeats 4000000 in
set_option maxRecDepth 100000 in
theorem f_X8_all (l : Launch) (E : EE) (K : Nat) {a_ a_tape a_readPlace a_script a_scriptLong a_now a_refused a_shareX a_shareY a_askedRow a_kept a_aside a_spelled a_image : Nat} {p1 : Int32} {c_thrown : Int32} {c_taped : Int32} {c_at : Int32} {c_part : Int32} {c_partFrom : Int32} {c_partNumber : Int32} {c_wrong : Int32} {c_partWord : Int64} {c_readLaw : Int32} {c_readBound : Int32} {c_readGoal : Int32} {c_readSites : Int32} {c_scripts : Int32} {c_sites : Int32} {c_asked : Int32} {c_outcome : Int32} {c_took : Int32} {c_acts : Int32} {c_drawn : Int64} {c_racer : Int32} {c_raced : Int32} {c_spelledMany : Int32} {c_hasImage : Int32} {c_now : Nat → Int32} {rr : Int64} (hF : F_X8_all K p1 c_now c_sites = some rr) : Met l yX8_all v_f_X8_all (({ frames := 1, cells := 0, slots := 0, locals := 28 } : Room)) (va_Pc [.ref a_, .int p1] (pP E (w_X8_all E a_ a_tape a_readPlace a_script a_scriptLong a_now a_refused a_shareX a_shareY a_askedRow a_kept a_aside a_spelled a_image c_thrown c_taped c_at c_part c_partFrom c_partNumber c_wrong c_partWord c_readLaw c_readBound c_readGoal c_readSites c_scripts c_sites c_asked c_outcome c_took c_acts c_drawn c_racer c_raced c_spelledMany c_hasImage c_now))) (vp_Sl (fun q : Int64 => q = rr)) 0 0 (fun _ => False) := by
  refine Met.ofW (cc := cX8_all) (maxL := 2) (ret := (some .long)) (by decide) rfl ?_
  intro p e s m args below meth c s₁ B hml hv
  obtain ⟨rfl, ⟨hK, hN⟩, hP⟩ := hv
  have hx := B.exec
  have hb := B.bytes
  have hr := B.returns
  have hts := atoms_spec (ws := v_f_X8_all) B.pre
  have hown : s.vm.findClass RX8 = some m.cls := own_of hd_X8_all.1 (findClass_of_methodNamed B.named)
  have hlocks : meth.locks = false := B.notSynchronized
  replace hP : va_P E.1 vwCl [k_X8 a_ c_thrown a_tape c_taped c_at c_part c_partFrom c_partNumber c_wrong c_partWord c_readLaw c_readBound c_readGoal c_readSites a_readPlace a_script a_scriptLong c_scripts a_now a_refused c_sites a_shareX a_shareY c_asked c_outcome a_askedRow c_took a_kept c_acts c_drawn a_aside c_racer c_raced a_spelled c_spelledMany a_image c_hasImage, k_I E a_now 265 c_now] s.heap := hP
  have hl := lv_entry ([.ref a_, .int p1]) (n := 2) (Nat.le_of_ble_eq_true rfl)
  rw [lg_entry_eq]
  generalize (lg_sl ([.ref a_, .int p1]) ++ List.replicate (2 - (lg_sl ([.ref a_, .int p1])).length) Slot.unset).toArray = ls at hl ⊢
  have hl : lv_has ls 2 [(0, .ref a_), (1, .int p1)] := hl
  obtain ⟨Q, hQ⟩ : ∃ Q : State → Prop, Q = MQ below (vp_Sl (fun q : Int64 => q = rr)) #[Value.ref a_, Value.int p1] s 0 0 (fun _ => False) := ⟨_, rfl⟩
  rw [← hQ]
  change W p l e ({ frames := 1, cells := 0, slots := 0, locals := 28 } : Room) s m #[Value.ref a_, Value.int p1] below meth c s.heap [] 0 0 Q (F0 m 0 ls [])
  unfold F_X8_all at hF
  refine lv_aload_n hx hb (dq_42 0 bcX8_all_0 (j := 0) rfl rfl) rfl (lv_at hl 0 rfl) ?_
  replace hF := bd1_s hF
  obtain ⟨r_1, hc_2, hF⟩ := hF
  have hPc : va_P E.1 vwCl (w_X8_isWatch E a_ a_tape a_readPlace a_script a_scriptLong a_now a_refused a_shareX a_shareY a_askedRow a_kept a_aside a_spelled a_image c_thrown c_taped c_at c_part c_partFrom c_partNumber c_wrong c_partWord c_readLaw c_readBound c_readGoal c_readSites c_scripts c_sites c_asked c_outcome c_took c_acts c_drawn c_racer c_raced c_spelledMany c_hasImage) s.heap := hP.sub (ws' := [k_X8 a_ c_thrown a_tape c_taped c_at c_part c_partFrom c_partNumber c_wrong c_partWord c_readLaw c_readBound c_readGoal c_readSites a_readPlace a_script a_scriptLong c_scripts a_now a_refused c_sites a_shareX a_shareY c_asked c_outcome a_askedRow c_took a_kept c_acts c_drawn a_aside c_racer c_raced a_spelled c_spelledMany a_image c_hasImage]) [0] rfl
  have hrc := va_recv hK hPc (ci := 9) (q0 := 0) rfl rfl
  refine pE_z (va_runV (As := []) (rest := [])  ⟨hx, hb, hml, hown, hts⟩ (f_X8_isWatch l E (a_ := a_) (a_tape := a_tape) (a_readPlace := a_readPlace) (a_script := a_script) (a_scriptLong := a_scriptLong) (a_now := a_now) (a_refused := a_refused) (a_shareX := a_shareX) (a_shareY := a_shareY) (a_askedRow := a_askedRow) (a_kept := a_kept) (a_aside := a_aside) (a_spelled := a_spelled) (a_image := a_image) (c_thrown := c_thrown) (c_taped := c_taped) (c_at := c_at) (c_part := c_part) (c_partFrom := c_partFrom) (c_partNumber := c_partNumber) (c_wrong := c_wrong) (c_partWord := c_partWord) (c_readLaw := c_readLaw) (c_readBound := c_readBound) (c_readGoal := c_readGoal) (c_readSites := c_readSites) (c_scripts := c_scripts) (c_sites := c_sites) (c_asked := c_asked) (c_outcome := c_outcome) (c_took := c_took) (c_acts := c_acts) (c_drawn := c_drawn) (c_racer := c_racer) (c_raced := c_raced) (c_spelledMany := c_spelledMany) (c_hasImage := c_hasImage) hc_2) (cwV 0 hts g_f_X8_all_f_X8_isWatch_299 rfl rfl rfl hd_X8_isWatch ⟨Nat.le_of_ble_eq_true rfl, Nat.le_of_ble_eq_true rfl⟩) ⟨pP.blind, hrc, (pP.pre ⟨hK, hN⟩ hPc)⟩ rfl rfl hl.1 rfl (lv_room (Nat.le_of_ble_eq_true rfl)) (dq_182 0 bcX8_all_0 (j := 1) (i := 299) rfl rfl rfl) ⟨Nat.le_of_ble_eq_true rfl, Nat.le_of_ble_eq_true rfl⟩) (fun hb_3 => ?_)
  refine lv_if_eq (tgt := 19) hx hb (dq_153 0 bcX8_all_0 (j := 4) (i := 15) rfl rfl rfl) (by decide) (fun c_4 => ?_) (fun c_4 => ?_)
  ·
    replace hF := ip c_4 hF
    refine lv_ldc2 (v := -100000000) hx hb hown (hts (.constantLong RX8 383 (-100000000)) (List.mem_of_getElem? (i := 1) rfl)) (dq_20 0 bcX8_all_0 (j := 19) (i := 383) rfl rfl rfl) ?_
    rw [hQ]
    obtain e9_0 := inj1 hF
    exact W.lret (v := (-100000000 : Int64)) hx hb hr (fun tt ht hW => ⟨_, rfl, e9_0, ht⟩) (fun _ h => by cases h) (dq_173 0 bcX8_all_0 (j := 22) rfl rfl)
  ·
    replace hF := inn c_4 hF
    refine lv_iload_n hx hb (dq_27 0 bcX8_all_0 (j := 7) rfl rfl) rfl (lv_at hl 1 rfl) ?_
    refine lv_i2l (v := p1.toInt64) hx hb (dq_133 0 bcX8_all_0 (j := 8) rfl rfl) rfl ?_
    refine lv_lconst (v := 0) hx hb (dq_9 0 bcX8_all_0 (j := 9) rfl rfl) (by decide) ?_
    refine lv_ldc2 (v := 5) hx hb hown (hts (.constantLong RX8 385 (5)) (List.mem_of_getElem? (i := 2) rfl)) (dq_20 0 bcX8_all_0 (j := 10) (i := 385) rfl rfl rfl) ?_
    replace hF := bd1_s hF
    obtain ⟨r_5, hc_6, hF⟩ := hF
    have hPc : va_P E.1 vwCl [] s.heap := fun k q h => by simp at h
    refine pE_z (va_runS (As := [.long p1.toInt64, .long (0 : Int64), .long (5 : Int64)]) (rest := [])  ⟨hx, hb, hml, hown, hts⟩ (f_X8_in l E (p0 := p1.toInt64) (p1 := (0 : Int64)) (p2 := (5 : Int64)) hc_6) (va_cwS 3 hts g_f_X8_all_f_X8_in_60 rfl rfl rfl hd_X8_in.2 ⟨Nat.le_of_ble_eq_true rfl, Nat.le_of_ble_eq_true rfl⟩) ⟨pP.blind, (pP.pre ⟨hK, hN⟩ hPc)⟩ rfl rfl hl.1 rfl (lv_room (Nat.le_of_ble_eq_true rfl)) (dq_184 0 bcX8_all_0 (j := 13) (i := 60) rfl rfl rfl) ⟨Nat.le_of_ble_eq_true rfl, Nat.le_of_ble_eq_true rfl⟩) (fun hb_7 => ?_)
    refine lv_if_ne (tgt := 23) hx hb (dq_154 0 bcX8_all_0 (j := 16) (i := 7) rfl rfl rfl) (by decide) (fun c_8 => ?_) (fun c_8 => ?_)
    ·
      replace hF := inn c_8 hF
      refine lv_iload_n hx hb (dq_27 0 bcX8_all_0 (j := 23) rfl rfl) rfl (lv_at hl 1 rfl) ?_
      rcases Classical.em (p1 = (0 : Int32)) with c_9_0 | c_9_0
      ·
        replace hF := ip c_9_0 hF
        refine lv_tableIn (off := 36) (tgt := 60) hx hb dX8_all_24 (by rw [c_9_0]; decide) (by rw [c_9_0]; decide) (by rw [c_9_0]; decide) (by decide) ?_
        refine lv_aload_n hx hb (dq_42 48 bcX8_all_1 (j := 12) rfl rfl) rfl (lv_at hl 0 rfl) ?_
        refine lv_bipush (v := 16) hx hb (dq_16 48 bcX8_all_1 (j := 13) (i := 16) rfl rfl rfl) (by decide) ?_
        replace hF := bd1_s hF
        obtain ⟨r_10, hc_11, hF⟩ := hF
        have hPc : va_P E.1 vwCl (w_X8_sum E a_ a_tape a_readPlace a_script a_scriptLong a_now a_refused a_shareX a_shareY a_askedRow a_kept a_aside a_spelled a_image c_thrown c_taped c_at c_part c_partFrom c_partNumber c_wrong c_partWord c_readLaw c_readBound c_readGoal c_readSites c_scripts c_sites c_asked c_outcome c_took c_acts c_drawn c_racer c_raced c_spelledMany c_hasImage c_now) s.heap := hP.sub (ws' := [k_X8 a_ c_thrown a_tape c_taped c_at c_part c_partFrom c_partNumber c_wrong c_partWord c_readLaw c_readBound c_readGoal c_readSites a_readPlace a_script a_scriptLong c_scripts a_now a_refused c_sites a_shareX a_shareY c_asked c_outcome a_askedRow c_took a_kept c_acts c_drawn a_aside c_racer c_raced a_spelled c_spelledMany a_image c_hasImage, k_I E a_now 265 c_now]) [0, 1] rfl
        have hrc := va_recv hK hPc (ci := 9) (q0 := 0) rfl rfl
        refine pE_i (va_runV (As := [.int (16 : Int32)]) (rest := [])  ⟨hx, hb, hml, hown, hts⟩ (f_X8_sum l E K (a_ := a_) (a_tape := a_tape) (a_readPlace := a_readPlace) (a_script := a_script) (a_scriptLong := a_scriptLong) (a_now := a_now) (a_refused := a_refused) (a_shareX := a_shareX) (a_shareY := a_shareY) (a_askedRow := a_askedRow) (a_kept := a_kept) (a_aside := a_aside) (a_spelled := a_spelled) (a_image := a_image) (p1 := (16 : Int32)) (c_thrown := c_thrown) (c_taped := c_taped) (c_at := c_at) (c_part := c_part) (c_partFrom := c_partFrom) (c_partNumber := c_partNumber) (c_wrong := c_wrong) (c_partWord := c_partWord) (c_readLaw := c_readLaw) (c_readBound := c_readBound) (c_readGoal := c_readGoal) (c_readSites := c_readSites) (c_scripts := c_scripts) (c_sites := c_sites) (c_asked := c_asked) (c_outcome := c_outcome) (c_took := c_took) (c_acts := c_acts) (c_drawn := c_drawn) (c_racer := c_racer) (c_raced := c_raced) (c_spelledMany := c_spelledMany) (c_hasImage := c_hasImage) (c_now := c_now) hc_11) (cwV 1 hts g_f_X8_all_f_X8_sum_199 rfl rfl rfl hd_X8_sum ⟨Nat.le_of_ble_eq_true rfl, Nat.le_of_ble_eq_true rfl⟩) ⟨pP.blind, hrc, (pP.pre ⟨hK, hN⟩ hPc)⟩ rfl rfl hl.1 rfl (lv_room (Nat.le_of_ble_eq_true rfl)) (dq_182 48 bcX8_all_1 (j := 15) (i := 199) rfl rfl rfl) ⟨Nat.le_of_ble_eq_true rfl, Nat.le_of_ble_eq_true rfl⟩) ?_
        refine lv_i2l (v := r_10.toInt64) hx hb (dq_133 48 bcX8_all_1 (j := 18) rfl rfl) rfl ?_
        rw [hQ]
        obtain e9_0 := inj1 hF
        exact W.lret (v := r_10.toInt64) hx hb hr (fun tt ht hW => ⟨_, rfl, e9_0, ht⟩) (fun _ h => by cases h) (dq_173 48 bcX8_all_1 (j := 19) rfl rfl)
      replace hF := inn c_9_0 hF
      rcases Classical.em (p1 = (1 : Int32)) with c_9_1 | c_9_1
      ·
        replace hF := ip c_9_1 hF
        refine lv_tableIn (off := 44) (tgt := 68) hx hb dX8_all_24 (by rw [c_9_1]; decide) (by rw [c_9_1]; decide) (by rw [c_9_1]; decide) (by decide) ?_
        refine lv_aload_n hx hb (dq_42 48 bcX8_all_1 (j := 20) rfl rfl) rfl (lv_at hl 0 rfl) ?_
        refine lv_bipush (v := 24) hx hb (dq_16 48 bcX8_all_1 (j := 21) (i := 24) rfl rfl rfl) (by decide) ?_
        replace hF := bd1_s hF
        obtain ⟨r_12, hc_13, hF⟩ := hF
        have hPc : va_P E.1 vwCl (w_X8_sum E a_ a_tape a_readPlace a_script a_scriptLong a_now a_refused a_shareX a_shareY a_askedRow a_kept a_aside a_spelled a_image c_thrown c_taped c_at c_part c_partFrom c_partNumber c_wrong c_partWord c_readLaw c_readBound c_readGoal c_readSites c_scripts c_sites c_asked c_outcome c_took c_acts c_drawn c_racer c_raced c_spelledMany c_hasImage c_now) s.heap := hP.sub (ws' := [k_X8 a_ c_thrown a_tape c_taped c_at c_part c_partFrom c_partNumber c_wrong c_partWord c_readLaw c_readBound c_readGoal c_readSites a_readPlace a_script a_scriptLong c_scripts a_now a_refused c_sites a_shareX a_shareY c_asked c_outcome a_askedRow c_took a_kept c_acts c_drawn a_aside c_racer c_raced a_spelled c_spelledMany a_image c_hasImage, k_I E a_now 265 c_now]) [0, 1] rfl
        have hrc := va_recv hK hPc (ci := 9) (q0 := 0) rfl rfl
        refine pE_i (va_runV (As := [.int (24 : Int32)]) (rest := [])  ⟨hx, hb, hml, hown, hts⟩ (f_X8_sum l E K (a_ := a_) (a_tape := a_tape) (a_readPlace := a_readPlace) (a_script := a_script) (a_scriptLong := a_scriptLong) (a_now := a_now) (a_refused := a_refused) (a_shareX := a_shareX) (a_shareY := a_shareY) (a_askedRow := a_askedRow) (a_kept := a_kept) (a_aside := a_aside) (a_spelled := a_spelled) (a_image := a_image) (p1 := (24 : Int32)) (c_thrown := c_thrown) (c_taped := c_taped) (c_at := c_at) (c_part := c_part) (c_partFrom := c_partFrom) (c_partNumber := c_partNumber) (c_wrong := c_wrong) (c_partWord := c_partWord) (c_readLaw := c_readLaw) (c_readBound := c_readBound) (c_readGoal := c_readGoal) (c_readSites := c_readSites) (c_scripts := c_scripts) (c_sites := c_sites) (c_asked := c_asked) (c_outcome := c_outcome) (c_took := c_took) (c_acts := c_acts) (c_drawn := c_drawn) (c_racer := c_racer) (c_raced := c_raced) (c_spelledMany := c_spelledMany) (c_hasImage := c_hasImage) (c_now := c_now) hc_13) (cwV 1 hts g_f_X8_all_f_X8_sum_199 rfl rfl rfl hd_X8_sum ⟨Nat.le_of_ble_eq_true rfl, Nat.le_of_ble_eq_true rfl⟩) ⟨pP.blind, hrc, (pP.pre ⟨hK, hN⟩ hPc)⟩ rfl rfl hl.1 rfl (lv_room (Nat.le_of_ble_eq_true rfl)) (dq_182 48 bcX8_all_1 (j := 23) (i := 199) rfl rfl rfl) ⟨Nat.le_of_ble_eq_true rfl, Nat.le_of_ble_eq_true rfl⟩) ?_
        refine lv_i2l (v := r_12.toInt64) hx hb (dq_133 48 bcX8_all_1 (j := 26) rfl rfl) rfl ?_
        rw [hQ]
        obtain e9_0 := inj1 hF
        exact W.lret (v := r_12.toInt64) hx hb hr (fun tt ht hW => ⟨_, rfl, e9_0, ht⟩) (fun _ h => by cases h) (dq_173 48 bcX8_all_1 (j := 27) rfl rfl)
      replace hF := inn c_9_1 hF
      rcases Classical.em (p1 = (2 : Int32)) with c_9_2 | c_9_2
      ·
        replace hF := ip c_9_2 hF
        refine lv_tableIn (off := 52) (tgt := 76) hx hb dX8_all_24 (by rw [c_9_2]; decide) (by rw [c_9_2]; decide) (by rw [c_9_2]; decide) (by decide) ?_
        refine lv_aload_n hx hb (dq_42 48 bcX8_all_1 (j := 28) rfl rfl) rfl (lv_at hl 0 rfl) ?_
        refine lv_iconst (v := 0) hx hb (dq_3 48 bcX8_all_1 (j := 29) rfl rfl) (by decide) ?_
        replace hF := bd1_s hF
        obtain ⟨r_14, hc_15, hF⟩ := hF
        have hPc : va_P E.1 vwCl (w_X8_sum E a_ a_tape a_readPlace a_script a_scriptLong a_now a_refused a_shareX a_shareY a_askedRow a_kept a_aside a_spelled a_image c_thrown c_taped c_at c_part c_partFrom c_partNumber c_wrong c_partWord c_readLaw c_readBound c_readGoal c_readSites c_scripts c_sites c_asked c_outcome c_took c_acts c_drawn c_racer c_raced c_spelledMany c_hasImage c_now) s.heap := hP.sub (ws' := [k_X8 a_ c_thrown a_tape c_taped c_at c_part c_partFrom c_partNumber c_wrong c_partWord c_readLaw c_readBound c_readGoal c_readSites a_readPlace a_script a_scriptLong c_scripts a_now a_refused c_sites a_shareX a_shareY c_asked c_outcome a_askedRow c_took a_kept c_acts c_drawn a_aside c_racer c_raced a_spelled c_spelledMany a_image c_hasImage, k_I E a_now 265 c_now]) [0, 1] rfl
        have hrc := va_recv hK hPc (ci := 9) (q0 := 0) rfl rfl
        refine pE_i (va_runV (As := [.int (0 : Int32)]) (rest := [])  ⟨hx, hb, hml, hown, hts⟩ (f_X8_sum l E K (a_ := a_) (a_tape := a_tape) (a_readPlace := a_readPlace) (a_script := a_script) (a_scriptLong := a_scriptLong) (a_now := a_now) (a_refused := a_refused) (a_shareX := a_shareX) (a_shareY := a_shareY) (a_askedRow := a_askedRow) (a_kept := a_kept) (a_aside := a_aside) (a_spelled := a_spelled) (a_image := a_image) (p1 := (0 : Int32)) (c_thrown := c_thrown) (c_taped := c_taped) (c_at := c_at) (c_part := c_part) (c_partFrom := c_partFrom) (c_partNumber := c_partNumber) (c_wrong := c_wrong) (c_partWord := c_partWord) (c_readLaw := c_readLaw) (c_readBound := c_readBound) (c_readGoal := c_readGoal) (c_readSites := c_readSites) (c_scripts := c_scripts) (c_sites := c_sites) (c_asked := c_asked) (c_outcome := c_outcome) (c_took := c_took) (c_acts := c_acts) (c_drawn := c_drawn) (c_racer := c_racer) (c_raced := c_raced) (c_spelledMany := c_spelledMany) (c_hasImage := c_hasImage) (c_now := c_now) hc_15) (cwV 1 hts g_f_X8_all_f_X8_sum_199 rfl rfl rfl hd_X8_sum ⟨Nat.le_of_ble_eq_true rfl, Nat.le_of_ble_eq_true rfl⟩) ⟨pP.blind, hrc, (pP.pre ⟨hK, hN⟩ hPc)⟩ rfl rfl hl.1 rfl (lv_room (Nat.le_of_ble_eq_true rfl)) (dq_182 48 bcX8_all_1 (j := 30) (i := 199) rfl rfl rfl) ⟨Nat.le_of_ble_eq_true rfl, Nat.le_of_ble_eq_true rfl⟩) ?_
        refine lv_i2l (v := r_14.toInt64) hx hb (dq_133 48 bcX8_all_1 (j := 33) rfl rfl) rfl ?_
        rw [hQ]
        obtain e9_0 := inj1 hF
        exact W.lret (v := r_14.toInt64) hx hb hr (fun tt ht hW => ⟨_, rfl, e9_0, ht⟩) (fun _ h => by cases h) (dq_173 48 bcX8_all_1 (j := 34) rfl rfl)
      replace hF := inn c_9_2 hF
      rcases Classical.em (p1 = (3 : Int32)) with c_9_3 | c_9_3
      ·
        replace hF := ip c_9_3 hF
        refine lv_tableIn (off := 59) (tgt := 83) hx hb dX8_all_24 (by rw [c_9_3]; decide) (by rw [c_9_3]; decide) (by rw [c_9_3]; decide) (by decide) ?_
        refine lv_aload_n hx hb (dq_42 48 bcX8_all_1 (j := 35) rfl rfl) rfl (lv_at hl 0 rfl) ?_
        refine lv_bipush (v := 8) hx hb (dq_16 48 bcX8_all_1 (j := 36) (i := 8) rfl rfl rfl) (by decide) ?_
        replace hF := bd1_s hF
        obtain ⟨r_16, hc_17, hF⟩ := hF
        have hPc : va_P E.1 vwCl (w_X8_sum E a_ a_tape a_readPlace a_script a_scriptLong a_now a_refused a_shareX a_shareY a_askedRow a_kept a_aside a_spelled a_image c_thrown c_taped c_at c_part c_partFrom c_partNumber c_wrong c_partWord c_readLaw c_readBound c_readGoal c_readSites c_scripts c_sites c_asked c_outcome c_took c_acts c_drawn c_racer c_raced c_spelledMany c_hasImage c_now) s.heap := hP.sub (ws' := [k_X8 a_ c_thrown a_tape c_taped c_at c_part c_partFrom c_partNumber c_wrong c_partWord c_readLaw c_readBound c_readGoal c_readSites a_readPlace a_script a_scriptLong c_scripts a_now a_refused c_sites a_shareX a_shareY c_asked c_outcome a_askedRow c_took a_kept c_acts c_drawn a_aside c_racer c_raced a_spelled c_spelledMany a_image c_hasImage, k_I E a_now 265 c_now]) [0, 1] rfl
        have hrc := va_recv hK hPc (ci := 9) (q0 := 0) rfl rfl
        refine pE_i (va_runV (As := [.int (8 : Int32)]) (rest := [])  ⟨hx, hb, hml, hown, hts⟩ (f_X8_sum l E K (a_ := a_) (a_tape := a_tape) (a_readPlace := a_readPlace) (a_script := a_script) (a_scriptLong := a_scriptLong) (a_now := a_now) (a_refused := a_refused) (a_shareX := a_shareX) (a_shareY := a_shareY) (a_askedRow := a_askedRow) (a_kept := a_kept) (a_aside := a_aside) (a_spelled := a_spelled) (a_image := a_image) (p1 := (8 : Int32)) (c_thrown := c_thrown) (c_taped := c_taped) (c_at := c_at) (c_part := c_part) (c_partFrom := c_partFrom) (c_partNumber := c_partNumber) (c_wrong := c_wrong) (c_partWord := c_partWord) (c_readLaw := c_readLaw) (c_readBound := c_readBound) (c_readGoal := c_readGoal) (c_readSites := c_readSites) (c_scripts := c_scripts) (c_sites := c_sites) (c_asked := c_asked) (c_outcome := c_outcome) (c_took := c_took) (c_acts := c_acts) (c_drawn := c_drawn) (c_racer := c_racer) (c_raced := c_raced) (c_spelledMany := c_spelledMany) (c_hasImage := c_hasImage) (c_now := c_now) hc_17) (cwV 1 hts g_f_X8_all_f_X8_sum_199 rfl rfl rfl hd_X8_sum ⟨Nat.le_of_ble_eq_true rfl, Nat.le_of_ble_eq_true rfl⟩) ⟨pP.blind, hrc, (pP.pre ⟨hK, hN⟩ hPc)⟩ rfl rfl hl.1 rfl (lv_room (Nat.le_of_ble_eq_true rfl)) (dq_182 48 bcX8_all_1 (j := 38) (i := 199) rfl rfl rfl) ⟨Nat.le_of_ble_eq_true rfl, Nat.le_of_ble_eq_true rfl⟩) ?_
        refine lv_i2l (v := r_16.toInt64) hx hb (dq_133 48 bcX8_all_1 (j := 41) rfl rfl) rfl ?_
        rw [hQ]
        obtain e9_0 := inj1 hF
        exact W.lret (v := r_16.toInt64) hx hb hr (fun tt ht hW => ⟨_, rfl, e9_0, ht⟩) (fun _ h => by cases h) (dq_173 48 bcX8_all_1 (j := 42) rfl rfl)
      replace hF := inn c_9_3 hF
      rcases Classical.em (p1 = (4 : Int32)) with c_9_4 | c_9_4
      ·
        replace hF := ip c_9_4 hF
        refine lv_tableIn (off := 67) (tgt := 91) hx hb dX8_all_24 (by rw [c_9_4]; decide) (by rw [c_9_4]; decide) (by rw [c_9_4]; decide) (by decide) ?_
        refine lv_aload_n hx hb (dq_42 48 bcX8_all_1 (j := 43) rfl rfl) rfl (lv_at hl 0 rfl) ?_
        refine lv_aload_n hx hb (dq_42 48 bcX8_all_1 (j := 44) rfl rfl) rfl (lv_at hl 0 rfl) ?_
        refine lv_bipush (v := 16) hx hb (dq_16 48 bcX8_all_1 (j := 45) (i := 16) rfl rfl rfl) (by decide) ?_
        replace hF := bd1_s hF
        obtain ⟨r_18, hc_19, hF⟩ := hF
        have hPc : va_P E.1 vwCl (w_X8_sum E a_ a_tape a_readPlace a_script a_scriptLong a_now a_refused a_shareX a_shareY a_askedRow a_kept a_aside a_spelled a_image c_thrown c_taped c_at c_part c_partFrom c_partNumber c_wrong c_partWord c_readLaw c_readBound c_readGoal c_readSites c_scripts c_sites c_asked c_outcome c_took c_acts c_drawn c_racer c_raced c_spelledMany c_hasImage c_now) s.heap := hP.sub (ws' := [k_X8 a_ c_thrown a_tape c_taped c_at c_part c_partFrom c_partNumber c_wrong c_partWord c_readLaw c_readBound c_readGoal c_readSites a_readPlace a_script a_scriptLong c_scripts a_now a_refused c_sites a_shareX a_shareY c_asked c_outcome a_askedRow c_took a_kept c_acts c_drawn a_aside c_racer c_raced a_spelled c_spelledMany a_image c_hasImage, k_I E a_now 265 c_now]) [0, 1] rfl
        have hrc := va_recv hK hPc (ci := 9) (q0 := 0) rfl rfl
        refine pE_i (va_runV (As := [.int (16 : Int32)]) (rest := [.ref a_])  ⟨hx, hb, hml, hown, hts⟩ (f_X8_sum l E K (a_ := a_) (a_tape := a_tape) (a_readPlace := a_readPlace) (a_script := a_script) (a_scriptLong := a_scriptLong) (a_now := a_now) (a_refused := a_refused) (a_shareX := a_shareX) (a_shareY := a_shareY) (a_askedRow := a_askedRow) (a_kept := a_kept) (a_aside := a_aside) (a_spelled := a_spelled) (a_image := a_image) (p1 := (16 : Int32)) (c_thrown := c_thrown) (c_taped := c_taped) (c_at := c_at) (c_part := c_part) (c_partFrom := c_partFrom) (c_partNumber := c_partNumber) (c_wrong := c_wrong) (c_partWord := c_partWord) (c_readLaw := c_readLaw) (c_readBound := c_readBound) (c_readGoal := c_readGoal) (c_readSites := c_readSites) (c_scripts := c_scripts) (c_sites := c_sites) (c_asked := c_asked) (c_outcome := c_outcome) (c_took := c_took) (c_acts := c_acts) (c_drawn := c_drawn) (c_racer := c_racer) (c_raced := c_raced) (c_spelledMany := c_spelledMany) (c_hasImage := c_hasImage) (c_now := c_now) hc_19) (cwV 1 hts g_f_X8_all_f_X8_sum_199 rfl rfl rfl hd_X8_sum ⟨Nat.le_of_ble_eq_true rfl, Nat.le_of_ble_eq_true rfl⟩) ⟨pP.blind, hrc, (pP.pre ⟨hK, hN⟩ hPc)⟩ rfl rfl hl.1 rfl (lv_room (Nat.le_of_ble_eq_true rfl)) (dq_182 48 bcX8_all_1 (j := 47) (i := 199) rfl rfl rfl) ⟨Nat.le_of_ble_eq_true rfl, Nat.le_of_ble_eq_true rfl⟩) ?_
        refine lv_i2l (v := r_18.toInt64) hx hb (dq_133 96 bcX8_all_2 (j := 2) rfl rfl) rfl ?_
        refine lv_aload_n hx hb (dq_42 96 bcX8_all_2 (j := 3) rfl rfl) rfl (lv_at hl 0 rfl) ?_
        refine lv_bipush (v := 24) hx hb (dq_16 96 bcX8_all_2 (j := 4) (i := 24) rfl rfl rfl) (by decide) ?_
        replace hF := bd1_s hF
        obtain ⟨r_20, hc_21, hF⟩ := hF
        have hPc : va_P E.1 vwCl (w_X8_sum E a_ a_tape a_readPlace a_script a_scriptLong a_now a_refused a_shareX a_shareY a_askedRow a_kept a_aside a_spelled a_image c_thrown c_taped c_at c_part c_partFrom c_partNumber c_wrong c_partWord c_readLaw c_readBound c_readGoal c_readSites c_scripts c_sites c_asked c_outcome c_took c_acts c_drawn c_racer c_raced c_spelledMany c_hasImage c_now) s.heap := hP.sub (ws' := [k_X8 a_ c_thrown a_tape c_taped c_at c_part c_partFrom c_partNumber c_wrong c_partWord c_readLaw c_readBound c_readGoal c_readSites a_readPlace a_script a_scriptLong c_scripts a_now a_refused c_sites a_shareX a_shareY c_asked c_outcome a_askedRow c_took a_kept c_acts c_drawn a_aside c_racer c_raced a_spelled c_spelledMany a_image c_hasImage, k_I E a_now 265 c_now]) [0, 1] rfl
        have hrc := va_recv hK hPc (ci := 9) (q0 := 0) rfl rfl
        refine pE_i (va_runV (As := [.int (24 : Int32)]) (rest := [.long r_18.toInt64, .ref a_])  ⟨hx, hb, hml, hown, hts⟩ (f_X8_sum l E K (a_ := a_) (a_tape := a_tape) (a_readPlace := a_readPlace) (a_script := a_script) (a_scriptLong := a_scriptLong) (a_now := a_now) (a_refused := a_refused) (a_shareX := a_shareX) (a_shareY := a_shareY) (a_askedRow := a_askedRow) (a_kept := a_kept) (a_aside := a_aside) (a_spelled := a_spelled) (a_image := a_image) (p1 := (24 : Int32)) (c_thrown := c_thrown) (c_taped := c_taped) (c_at := c_at) (c_part := c_part) (c_partFrom := c_partFrom) (c_partNumber := c_partNumber) (c_wrong := c_wrong) (c_partWord := c_partWord) (c_readLaw := c_readLaw) (c_readBound := c_readBound) (c_readGoal := c_readGoal) (c_readSites := c_readSites) (c_scripts := c_scripts) (c_sites := c_sites) (c_asked := c_asked) (c_outcome := c_outcome) (c_took := c_took) (c_acts := c_acts) (c_drawn := c_drawn) (c_racer := c_racer) (c_raced := c_raced) (c_spelledMany := c_spelledMany) (c_hasImage := c_hasImage) (c_now := c_now) hc_21) (cwV 1 hts g_f_X8_all_f_X8_sum_199 rfl rfl rfl hd_X8_sum ⟨Nat.le_of_ble_eq_true rfl, Nat.le_of_ble_eq_true rfl⟩) ⟨pP.blind, hrc, (pP.pre ⟨hK, hN⟩ hPc)⟩ rfl rfl hl.1 rfl (lv_room (Nat.le_of_ble_eq_true rfl)) (dq_182 96 bcX8_all_2 (j := 6) (i := 199) rfl rfl rfl) ⟨Nat.le_of_ble_eq_true rfl, Nat.le_of_ble_eq_true rfl⟩) ?_
        refine lv_i2l (v := r_20.toInt64) hx hb (dq_133 96 bcX8_all_2 (j := 9) rfl rfl) rfl ?_
        replace hF := bd1_s hF
        obtain ⟨r_22, hc_23, hF⟩ := hF
        have hPc : va_P E.1 vwCl (w_X8_valueOf E a_ a_tape a_readPlace a_script a_scriptLong a_now a_refused a_shareX a_shareY a_askedRow a_kept a_aside a_spelled a_image c_thrown c_taped c_at c_part c_partFrom c_partNumber c_wrong c_partWord c_readLaw c_readBound c_readGoal c_readSites c_scripts c_sites c_asked c_outcome c_took c_acts c_drawn c_racer c_raced c_spelledMany c_hasImage c_now) s.heap := hP.sub (ws' := [k_X8 a_ c_thrown a_tape c_taped c_at c_part c_partFrom c_partNumber c_wrong c_partWord c_readLaw c_readBound c_readGoal c_readSites a_readPlace a_script a_scriptLong c_scripts a_now a_refused c_sites a_shareX a_shareY c_asked c_outcome a_askedRow c_took a_kept c_acts c_drawn a_aside c_racer c_raced a_spelled c_spelledMany a_image c_hasImage, k_I E a_now 265 c_now]) [0, 1] rfl
        have hrc := va_recv hK hPc (ci := 9) (q0 := 0) rfl rfl
        refine pE_l (va_runV (As := [.long r_18.toInt64, .long r_20.toInt64]) (rest := [])  ⟨hx, hb, hml, hown, hts⟩ (f_X8_valueOf l E (a_ := a_) (a_tape := a_tape) (a_readPlace := a_readPlace) (a_script := a_script) (a_scriptLong := a_scriptLong) (a_now := a_now) (a_refused := a_refused) (a_shareX := a_shareX) (a_shareY := a_shareY) (a_askedRow := a_askedRow) (a_kept := a_kept) (a_aside := a_aside) (a_spelled := a_spelled) (a_image := a_image) (p1 := r_18.toInt64) (p2 := r_20.toInt64) (c_thrown := c_thrown) (c_taped := c_taped) (c_at := c_at) (c_part := c_part) (c_partFrom := c_partFrom) (c_partNumber := c_partNumber) (c_wrong := c_wrong) (c_partWord := c_partWord) (c_readLaw := c_readLaw) (c_readBound := c_readBound) (c_readGoal := c_readGoal) (c_readSites := c_readSites) (c_scripts := c_scripts) (c_sites := c_sites) (c_asked := c_asked) (c_outcome := c_outcome) (c_took := c_took) (c_acts := c_acts) (c_drawn := c_drawn) (c_racer := c_racer) (c_raced := c_raced) (c_spelledMany := c_spelledMany) (c_hasImage := c_hasImage) (c_now := c_now) hc_23) (cwV 2 hts g_f_X8_all_f_X8_valueOf_218 rfl rfl rfl hd_X8_valueOf ⟨Nat.le_of_ble_eq_true rfl, Nat.le_of_ble_eq_true rfl⟩) ⟨pP.blind, hrc, (pP.pre ⟨hK, hN⟩ hPc)⟩ rfl rfl hl.1 rfl (lv_room (Nat.le_of_ble_eq_true rfl)) (dq_182 96 bcX8_all_2 (j := 10) (i := 218) rfl rfl rfl) ⟨Nat.le_of_ble_eq_true rfl, Nat.le_of_ble_eq_true rfl⟩) ?_
        rw [hQ]
        obtain e9_0 := inj1 hF
        exact W.lret (v := r_22) hx hb hr (fun tt ht hW => ⟨_, rfl, e9_0, ht⟩) (fun _ h => by cases h) (dq_173 96 bcX8_all_2 (j := 13) rfl rfl)
      replace hF := inn c_9_4 hF
      refine lv_tableOut (tgt := 110) hx hb dX8_all_24 (by have t0 : (0 : Int32).toInt = 0 := (by decide); have t1 : (1 : Int32).toInt = 1 := (by decide); have t2 : (2 : Int32).toInt = 2 := (by decide); have t3 : (3 : Int32).toInt = 3 := (by decide); have t4 : (4 : Int32).toInt = 4 := (by decide); simp only [← Int32.toInt_inj, t0, t1, t2, t3, t4] at c_9_0 c_9_1 c_9_2 c_9_3 c_9_4; omega) (by decide) ?_
      refine lv_aload_n hx hb (dq_42 96 bcX8_all_2 (j := 14) rfl rfl) rfl (lv_at hl 0 rfl) ?_
      refine lv_aload_n hx hb (dq_42 96 bcX8_all_2 (j := 15) rfl rfl) rfl (lv_at hl 0 rfl) ?_
      refine lv_iconst (v := 0) hx hb (dq_3 96 bcX8_all_2 (j := 16) rfl rfl) (by decide) ?_
      replace hF := bd1_s hF
      obtain ⟨r_24, hc_25, hF⟩ := hF
      have hPc : va_P E.1 vwCl (w_X8_sum E a_ a_tape a_readPlace a_script a_scriptLong a_now a_refused a_shareX a_shareY a_askedRow a_kept a_aside a_spelled a_image c_thrown c_taped c_at c_part c_partFrom c_partNumber c_wrong c_partWord c_readLaw c_readBound c_readGoal c_readSites c_scripts c_sites c_asked c_outcome c_took c_acts c_drawn c_racer c_raced c_spelledMany c_hasImage c_now) s.heap := hP.sub (ws' := [k_X8 a_ c_thrown a_tape c_taped c_at c_part c_partFrom c_partNumber c_wrong c_partWord c_readLaw c_readBound c_readGoal c_readSites a_readPlace a_script a_scriptLong c_scripts a_now a_refused c_sites a_shareX a_shareY c_asked c_outcome a_askedRow c_took a_kept c_acts c_drawn a_aside c_racer c_raced a_spelled c_spelledMany a_image c_hasImage, k_I E a_now 265 c_now]) [0, 1] rfl
      have hrc := va_recv hK hPc (ci := 9) (q0 := 0) rfl rfl
      refine pE_i (va_runV (As := [.int (0 : Int32)]) (rest := [.ref a_])  ⟨hx, hb, hml, hown, hts⟩ (f_X8_sum l E K (a_ := a_) (a_tape := a_tape) (a_readPlace := a_readPlace) (a_script := a_script) (a_scriptLong := a_scriptLong) (a_now := a_now) (a_refused := a_refused) (a_shareX := a_shareX) (a_shareY := a_shareY) (a_askedRow := a_askedRow) (a_kept := a_kept) (a_aside := a_aside) (a_spelled := a_spelled) (a_image := a_image) (p1 := (0 : Int32)) (c_thrown := c_thrown) (c_taped := c_taped) (c_at := c_at) (c_part := c_part) (c_partFrom := c_partFrom) (c_partNumber := c_partNumber) (c_wrong := c_wrong) (c_partWord := c_partWord) (c_readLaw := c_readLaw) (c_readBound := c_readBound) (c_readGoal := c_readGoal) (c_readSites := c_readSites) (c_scripts := c_scripts) (c_sites := c_sites) (c_asked := c_asked) (c_outcome := c_outcome) (c_took := c_took) (c_acts := c_acts) (c_drawn := c_drawn) (c_racer := c_racer) (c_raced := c_raced) (c_spelledMany := c_spelledMany) (c_hasImage := c_hasImage) (c_now := c_now) hc_25) (cwV 1 hts g_f_X8_all_f_X8_sum_199 rfl rfl rfl hd_X8_sum ⟨Nat.le_of_ble_eq_true rfl, Nat.le_of_ble_eq_true rfl⟩) ⟨pP.blind, hrc, (pP.pre ⟨hK, hN⟩ hPc)⟩ rfl rfl hl.1 rfl (lv_room (Nat.le_of_ble_eq_true rfl)) (dq_182 96 bcX8_all_2 (j := 17) (i := 199) rfl rfl rfl) ⟨Nat.le_of_ble_eq_true rfl, Nat.le_of_ble_eq_true rfl⟩) ?_
      refine lv_i2l (v := r_24.toInt64) hx hb (dq_133 96 bcX8_all_2 (j := 20) rfl rfl) rfl ?_
      refine lv_aload_n hx hb (dq_42 96 bcX8_all_2 (j := 21) rfl rfl) rfl (lv_at hl 0 rfl) ?_
      refine lv_bipush (v := 8) hx hb (dq_16 96 bcX8_all_2 (j := 22) (i := 8) rfl rfl rfl) (by decide) ?_
      replace hF := bd1_s hF
      obtain ⟨r_26, hc_27, hF⟩ := hF
      have hPc : va_P E.1 vwCl (w_X8_sum E a_ a_tape a_readPlace a_script a_scriptLong a_now a_refused a_shareX a_shareY a_askedRow a_kept a_aside a_spelled a_image c_thrown c_taped c_at c_part c_partFrom c_partNumber c_wrong c_partWord c_readLaw c_readBound c_readGoal c_readSites c_scripts c_sites c_asked c_outcome c_took c_acts c_drawn c_racer c_raced c_spelledMany c_hasImage c_now) s.heap := hP.sub (ws' := [k_X8 a_ c_thrown a_tape c_taped c_at c_part c_partFrom c_partNumber c_wrong c_partWord c_readLaw c_readBound c_readGoal c_readSites a_readPlace a_script a_scriptLong c_scripts a_now a_refused c_sites a_shareX a_shareY c_asked c_outcome a_askedRow c_took a_kept c_acts c_drawn a_aside c_racer c_raced a_spelled c_spelledMany a_image c_hasImage, k_I E a_now 265 c_now]) [0, 1] rfl
      have hrc := va_recv hK hPc (ci := 9) (q0 := 0) rfl rfl
      refine pE_i (va_runV (As := [.int (8 : Int32)]) (rest := [.long r_24.toInt64, .ref a_])  ⟨hx, hb, hml, hown, hts⟩ (f_X8_sum l E K (a_ := a_) (a_tape := a_tape) (a_readPlace := a_readPlace) (a_script := a_script) (a_scriptLong := a_scriptLong) (a_now := a_now) (a_refused := a_refused) (a_shareX := a_shareX) (a_shareY := a_shareY) (a_askedRow := a_askedRow) (a_kept := a_kept) (a_aside := a_aside) (a_spelled := a_spelled) (a_image := a_image) (p1 := (8 : Int32)) (c_thrown := c_thrown) (c_taped := c_taped) (c_at := c_at) (c_part := c_part) (c_partFrom := c_partFrom) (c_partNumber := c_partNumber) (c_wrong := c_wrong) (c_partWord := c_partWord) (c_readLaw := c_readLaw) (c_readBound := c_readBound) (c_readGoal := c_readGoal) (c_readSites := c_readSites) (c_scripts := c_scripts) (c_sites := c_sites) (c_asked := c_asked) (c_outcome := c_outcome) (c_took := c_took) (c_acts := c_acts) (c_drawn := c_drawn) (c_racer := c_racer) (c_raced := c_raced) (c_spelledMany := c_spelledMany) (c_hasImage := c_hasImage) (c_now := c_now) hc_27) (cwV 1 hts g_f_X8_all_f_X8_sum_199 rfl rfl rfl hd_X8_sum ⟨Nat.le_of_ble_eq_true rfl, Nat.le_of_ble_eq_true rfl⟩) ⟨pP.blind, hrc, (pP.pre ⟨hK, hN⟩ hPc)⟩ rfl rfl hl.1 rfl (lv_room (Nat.le_of_ble_eq_true rfl)) (dq_182 96 bcX8_all_2 (j := 24) (i := 199) rfl rfl rfl) ⟨Nat.le_of_ble_eq_true rfl, Nat.le_of_ble_eq_true rfl⟩) ?_
      refine lv_i2l (v := r_26.toInt64) hx hb (dq_133 96 bcX8_all_2 (j := 27) rfl rfl) rfl ?_
      replace hF := bd1_s hF
      obtain ⟨r_28, hc_29, hF⟩ := hF
      have hPc : va_P E.1 vwCl (w_X8_valueOf E a_ a_tape a_readPlace a_script a_scriptLong a_now a_refused a_shareX a_shareY a_askedRow a_kept a_aside a_spelled a_image c_thrown c_taped c_at c_part c_partFrom c_partNumber c_wrong c_partWord c_readLaw c_readBound c_readGoal c_readSites c_scripts c_sites c_asked c_outcome c_took c_acts c_drawn c_racer c_raced c_spelledMany c_hasImage c_now) s.heap := hP.sub (ws' := [k_X8 a_ c_thrown a_tape c_taped c_at c_part c_partFrom c_partNumber c_wrong c_partWord c_readLaw c_readBound c_readGoal c_readSites a_readPlace a_script a_scriptLong c_scripts a_now a_refused c_sites a_shareX a_shareY c_asked c_outcome a_askedRow c_took a_kept c_acts c_drawn a_aside c_racer c_raced a_spelled c_spelledMany a_image c_hasImage, k_I E a_now 265 c_now]) [0, 1] rfl
      have hrc := va_recv hK hPc (ci := 9) (q0 := 0) rfl rfl
      refine pE_l (va_runV (As := [.long r_24.toInt64, .long r_26.toInt64]) (rest := [])  ⟨hx, hb, hml, hown, hts⟩ (f_X8_valueOf l E (a_ := a_) (a_tape := a_tape) (a_readPlace := a_readPlace) (a_script := a_script) (a_scriptLong := a_scriptLong) (a_now := a_now) (a_refused := a_refused) (a_shareX := a_shareX) (a_shareY := a_shareY) (a_askedRow := a_askedRow) (a_kept := a_kept) (a_aside := a_aside) (a_spelled := a_spelled) (a_image := a_image) (p1 := r_24.toInt64) (p2 := r_26.toInt64) (c_thrown := c_thrown) (c_taped := c_taped) (c_at := c_at) (c_part := c_part) (c_partFrom := c_partFrom) (c_partNumber := c_partNumber) (c_wrong := c_wrong) (c_partWord := c_partWord) (c_readLaw := c_readLaw) (c_readBound := c_readBound) (c_readGoal := c_readGoal) (c_readSites := c_readSites) (c_scripts := c_scripts) (c_sites := c_sites) (c_asked := c_asked) (c_outcome := c_outcome) (c_took := c_took) (c_acts := c_acts) (c_drawn := c_drawn) (c_racer := c_racer) (c_raced := c_raced) (c_spelledMany := c_spelledMany) (c_hasImage := c_hasImage) (c_now := c_now) hc_29) (cwV 2 hts g_f_X8_all_f_X8_valueOf_218 rfl rfl rfl hd_X8_valueOf ⟨Nat.le_of_ble_eq_true rfl, Nat.le_of_ble_eq_true rfl⟩) ⟨pP.blind, hrc, (pP.pre ⟨hK, hN⟩ hPc)⟩ rfl rfl hl.1 rfl (lv_room (Nat.le_of_ble_eq_true rfl)) (dq_182 96 bcX8_all_2 (j := 28) (i := 218) rfl rfl rfl) ⟨Nat.le_of_ble_eq_true rfl, Nat.le_of_ble_eq_true rfl⟩) ?_
      rw [hQ]
      obtain e9_0 := inj1 hF
      exact W.lret (v := r_28) hx hb hr (fun tt ht hW => ⟨_, rfl, e9_0, ht⟩) (fun _ h => by cases h) (dq_173 96 bcX8_all_2 (j := 31) rfl rfl)
    ·
      replace hF := ip c_8 hF
      refine lv_ldc2 (v := -100000000) hx hb hown (hts (.constantLong RX8 383 (-100000000)) (List.mem_of_getElem? (i := 1) rfl)) (dq_20 0 bcX8_all_0 (j := 19) (i := 383) rfl rfl rfl) ?_
      rw [hQ]
      obtain e9_0 := inj1 hF
      exact W.lret (v := (-100000000 : Int64)) hx hb hr (fun tt ht hW => ⟨_, rfl, e9_0, ht⟩) (fun _ h => by cases h) (dq_173 0 bcX8_all_0 (j := 22) rfl rfl)

def F_X8_bad (c_partFrom : Int32) (c_wrong : Int32) : Option (Int32) :=
  if c_wrong = (-1 : Int32) then some c_partFrom else some c_wrong
abbrev w_X8_bad (E : EE) (a_ a_tape a_readPlace a_script a_scriptLong a_now a_refused a_shareX a_shareY a_askedRow a_kept a_aside a_spelled a_image : Nat) (c_thrown : Int32) (c_taped : Int32) (c_at : Int32) (c_part : Int32) (c_partFrom : Int32) (c_partNumber : Int32) (c_wrong : Int32) (c_partWord : Int64) (c_readLaw : Int32) (c_readBound : Int32) (c_readGoal : Int32) (c_readSites : Int32) (c_scripts : Int32) (c_sites : Int32) (c_asked : Int32) (c_outcome : Int32) (c_took : Int32) (c_acts : Int32) (c_drawn : Int64) (c_racer : Int32) (c_raced : Int32) (c_spelledMany : Int32) (c_hasImage : Int32) : va_W := [k_X8 a_ c_thrown a_tape c_taped c_at c_part c_partFrom c_partNumber c_wrong c_partWord c_readLaw c_readBound c_readGoal c_readSites a_readPlace a_script a_scriptLong c_scripts a_now a_refused c_sites a_shareX a_shareY c_asked c_outcome a_askedRow c_took a_kept c_acts c_drawn a_aside c_racer c_raced a_spelled c_spelledMany a_image c_hasImage]
def v_f_X8_bad : List Cond := List.cons (.code yX8_bad cX8_bad 1 none) (HAppend.hAppend (α := List Cond) (β := List Cond) (γ := List Cond) [.fieldLink RX8 103 "HushWatchModel" "wrong" "I", .fieldLink RX8 94 "HushWatchModel" "partFrom" "I"] (HAppend.hAppend (α := List Cond) (β := List Cond) (γ := List Cond) wsX80 []))
theorem gw_f_X8_bad : v_f_X8_bad.all goodWord = true := gw_c2 (by decide +kernel) (gw_ap gw_wsX80 gw_nil)
theorem i_f_X8_bad_X8 : ∀ w ∈ wsX80, w ∈ v_f_X8_bad := fun _ h => List.mem_cons_of_mem _ (List.mem_append_right _ (List.mem_append_left _ h))
theorem hd_X8_bad : yX8_bad.cls = RX8 ∧ yX8_bad.cls ≠ "java/lang/invoke/MethodHandle" ∧ yX8_bad.cls ≠ "java/lang/invoke/VarHandle" ∧ (parseMethodDescriptor yX8_bad.desc).map (fun d => d.parameters.length) = some 0 := by decide +kernel
set_option maxHeartbeats 4000000 in
set_option maxRecDepth 100000 in
theorem f_X8_bad (l : Launch) (E : EE) (sz : Nat) {a_ a_tape a_readPlace a_script a_scriptLong a_now a_refused a_shareX a_shareY a_askedRow a_kept a_aside a_spelled a_image : Nat} {c_thrown : Int32} {c_taped : Int32} {c_at : Int32} {c_part : Int32} {c_partFrom : Int32} {c_partNumber : Int32} {c_wrong : Int32} {c_partWord : Int64} {c_readLaw : Int32} {c_readBound : Int32} {c_readGoal : Int32} {c_readSites : Int32} {c_scripts : Int32} {c_sites : Int32} {c_asked : Int32} {c_outcome : Int32} {c_took : Int32} {c_acts : Int32} {c_drawn : Int64} {c_racer : Int32} {c_raced : Int32} {c_spelledMany : Int32} {c_hasImage : Int32} {n_wrong : Int32} (hF : F_X8_bad c_partFrom c_wrong = some n_wrong) : Met l yX8_bad v_f_X8_bad (({ frames := 0, cells := 0, slots := 0, locals := 0 } : Room)) (va_Pc [.ref a_] (pW E sz (w_X8_bad E a_ a_tape a_readPlace a_script a_scriptLong a_now a_refused a_shareX a_shareY a_askedRow a_kept a_aside a_spelled a_image c_thrown c_taped c_at c_part c_partFrom c_partNumber c_wrong c_partWord c_readLaw c_readBound c_readGoal c_readSites c_scripts c_sites c_asked c_outcome c_took c_acts c_drawn c_racer c_raced c_spelledMany c_hasImage))) (va_Qv (fun (_u : Unit) => True) (fun (_u : Unit) tt => va_P E.1 vwCl (w_X8_bad E a_ a_tape a_readPlace a_script a_scriptLong a_now a_refused a_shareX a_shareY a_askedRow a_kept a_aside a_spelled a_image c_thrown c_taped c_at c_part c_partFrom c_partNumber n_wrong c_partWord c_readLaw c_readBound c_readGoal c_readSites c_scripts c_sites c_asked c_outcome c_took c_acts c_drawn c_racer c_raced c_spelledMany c_hasImage) tt.heap ∧ va_D (va_A (w_X8_bad E a_ a_tape a_readPlace a_script a_scriptLong a_now a_refused a_shareX a_shareY a_askedRow a_kept a_aside a_spelled a_image c_thrown c_taped c_at c_part c_partFrom c_partNumber c_wrong c_partWord c_readLaw c_readBound c_readGoal c_readSites c_scripts c_sites c_asked c_outcome c_took c_acts c_drawn c_racer c_raced c_spelledMany c_hasImage) sz) (w_X8_bad E a_ a_tape a_readPlace a_script a_scriptLong a_now a_refused a_shareX a_shareY a_askedRow a_kept a_aside a_spelled a_image c_thrown c_taped c_at c_part c_partFrom c_partNumber n_wrong c_partWord c_readLaw c_readBound c_readGoal c_readSites c_scripts c_sites c_asked c_outcome c_took c_acts c_drawn c_racer c_raced c_spelledMany c_hasImage)) (va_A (w_X8_bad E a_ a_tape a_readPlace a_script a_scriptLong a_now a_refused a_shareX a_shareY a_askedRow a_kept a_aside a_spelled a_image c_thrown c_taped c_at c_part c_partFrom c_partNumber c_wrong c_partWord c_readLaw c_readBound c_readGoal c_readSites c_scripts c_sites c_asked c_outcome c_took c_acts c_drawn c_racer c_raced c_spelledMany c_hasImage) sz)) 0 0 (va_A (w_X8_bad E a_ a_tape a_readPlace a_script a_scriptLong a_now a_refused a_shareX a_shareY a_askedRow a_kept a_aside a_spelled a_image c_thrown c_taped c_at c_part c_partFrom c_partNumber c_wrong c_partWord c_readLaw c_readBound c_readGoal c_readSites c_scripts c_sites c_asked c_outcome c_took c_acts c_drawn c_racer c_raced c_spelledMany c_hasImage) sz) := by
  refine Met.ofW (cc := cX8_bad) (maxL := 1) (ret := none) (by decide) rfl ?_
  intro p e s m args below meth c s₁ B hml hv
  obtain ⟨rfl, hsz, ⟨hK, hN⟩, hP, hD0⟩ := hv
  have hx := B.exec
  have hb := B.bytes
  have hr := B.returns
  have hts := atoms_spec (ws := v_f_X8_bad) B.pre
  have hown : s.vm.findClass RX8 = some m.cls := own_of hd_X8_bad.1 (findClass_of_methodNamed B.named)
  have hlocks : meth.locks = false := B.notSynchronized
  subst hsz
  have hD := hD0.self (sz := s.heap.size)
  generalize hAe : va_A (w_X8_bad E a_ a_tape a_readPlace a_script a_scriptLong a_now a_refused a_shareX a_shareY a_askedRow a_kept a_aside a_spelled a_image c_thrown c_taped c_at c_part c_partFrom c_partNumber c_wrong c_partWord c_readLaw c_readBound c_readGoal c_readSites c_scripts c_sites c_asked c_outcome c_took c_acts c_drawn c_racer c_raced c_spelledMany c_hasImage) s.heap.size = A at hD ⊢
  have hA : ∀ q : Nat, s.heap.size ≤ q → A q := fun q h => by rw [← hAe]; exact Or.inr h
  have hS : va_S A s.heap s.heap [] := va_S.rf
  have hl := lv_entry ([.ref a_]) (n := 1) (Nat.le_of_ble_eq_true rfl)
  rw [lg_entry_eq]
  generalize (lg_sl ([.ref a_]) ++ List.replicate (1 - (lg_sl ([.ref a_])).length) Slot.unset).toArray = ls at hl ⊢
  have hl : lv_has ls 1 [(0, .ref a_)] := hl
  obtain ⟨Q, hQ⟩ : ∃ Q : State → Prop, Q = MQ below (va_Qv (fun (_u : Unit) => True) (fun (_u : Unit) tt => va_P E.1 vwCl (w_X8_bad E a_ a_tape a_readPlace a_script a_scriptLong a_now a_refused a_shareX a_shareY a_askedRow a_kept a_aside a_spelled a_image c_thrown c_taped c_at c_part c_partFrom c_partNumber n_wrong c_partWord c_readLaw c_readBound c_readGoal c_readSites c_scripts c_sites c_asked c_outcome c_took c_acts c_drawn c_racer c_raced c_spelledMany c_hasImage) tt.heap ∧ va_D A (w_X8_bad E a_ a_tape a_readPlace a_script a_scriptLong a_now a_refused a_shareX a_shareY a_askedRow a_kept a_aside a_spelled a_image c_thrown c_taped c_at c_part c_partFrom c_partNumber n_wrong c_partWord c_readLaw c_readBound c_readGoal c_readSites c_scripts c_sites c_asked c_outcome c_took c_acts c_drawn c_racer c_raced c_spelledMany c_hasImage)) A) #[Value.ref a_] s 0 0 A := ⟨_, rfl⟩
  rw [← hQ]
  change W p l e ({ frames := 0, cells := 0, slots := 0, locals := 0 } : Room) s m #[Value.ref a_] below meth c s.heap [] 0 0 Q (F0 m 0 ls [])
  suffices hh9 : ∀ (H : Heap) (locs : List Loc), va_P E.1 vwCl (w_X8_bad E a_ a_tape a_readPlace a_script a_scriptLong a_now a_refused a_shareX a_shareY a_askedRow a_kept a_aside a_spelled a_image c_thrown c_taped c_at c_part c_partFrom c_partNumber c_wrong c_partWord c_readLaw c_readBound c_readGoal c_readSites c_scripts c_sites c_asked c_outcome c_took c_acts c_drawn c_racer c_raced c_spelledMany c_hasImage) H → va_D A (w_X8_bad E a_ a_tape a_readPlace a_script a_scriptLong a_now a_refused a_shareX a_shareY a_askedRow a_kept a_aside a_spelled a_image c_thrown c_taped c_at c_part c_partFrom c_partNumber c_wrong c_partWord c_readLaw c_readBound c_readGoal c_readSites c_scripts c_sites c_asked c_outcome c_took c_acts c_drawn c_racer c_raced c_spelledMany c_hasImage) → va_S A s.heap H locs → W p l e ({ frames := 0, cells := 0, slots := 0, locals := 0 } : Room) s m #[Value.ref a_] below meth c H locs 0 0 Q (F0 m 0 ls []) from hh9 s.heap [] hP hD hS
  clear hP hD hS
  intro H locs hP hD hS
  have h9 := fixPD (ws' := [k_X8 a_ c_thrown a_tape c_taped c_at c_part c_partFrom c_partNumber c_wrong c_partWord c_readLaw c_readBound c_readGoal c_readSites a_readPlace a_script a_scriptLong c_scripts a_now a_refused c_sites a_shareX a_shareY c_asked c_outcome a_askedRow c_took a_kept c_acts c_drawn a_aside c_racer c_raced a_spelled c_spelledMany a_image c_hasImage]) hP hD rfl
  clear hP hD
  obtain ⟨hP, hD⟩ := h9
  unfold F_X8_bad at hF
  refine lv_aload_n hx hb (dq_42 0 bcX8_bad_0 (j := 0) rfl rfl) rfl (lv_at hl 0 rfl) ?_
  refine lv_aload_n hx hb (dq_42 0 bcX8_bad_0 (j := 1) rfl rfl) rfl (lv_at hl 0 rfl) ?_
  refine gt_X8_7 (v := .int c_wrong) hx hb hts i_f_X8_bad_X8 hown hK hP 0 rfl (hts (.fieldLink RX8 103 "HushWatchModel" "wrong" "I") (List.mem_of_getElem? (i := 1) rfl)) rfl (dq_180 0 bcX8_bad_0 (j := 2) (i := 103) rfl rfl rfl) ?_
  refine lv_iconst (v := -1) hx hb (dq_2 0 bcX8_bad_0 (j := 5) rfl rfl) (by decide) ?_
  refine lv_icmp_ne (tgt := 16) hx hb (dq_160 0 bcX8_bad_0 (j := 6) (i := 10) rfl rfl rfl) (by decide) (fun c_1 => ?_) (fun c_1 => ?_)
  ·
    replace hF := inn c_1 hF
    refine lv_aload_n hx hb (dq_42 0 bcX8_bad_0 (j := 16) rfl rfl) rfl (lv_at hl 0 rfl) ?_
    refine gt_X8_7 (v := .int c_wrong) hx hb hts i_f_X8_bad_X8 hown hK hP 0 rfl (hts (.fieldLink RX8 103 "HushWatchModel" "wrong" "I") (List.mem_of_getElem? (i := 1) rfl)) rfl (dq_180 0 bcX8_bad_0 (j := 17) (i := 103) rfl rfl rfl) ?_
    refine pt_X8_7 (v := .int c_wrong) hx hb hts i_f_X8_bad_X8 hown hK hP hD hS 0 rfl (hts (.fieldLink RX8 103 "HushWatchModel" "wrong" "I") (List.mem_of_getElem? (i := 1) rfl)) rfl rfl (Nat.le_of_ble_eq_true rfl) (dq_181 0 bcX8_bad_0 (j := 20) (i := 103) rfl rfl rfl) (fun H locs hP hD hS => ?_)
    have h9 := fixPD (ws' := [k_X8 a_ c_thrown a_tape c_taped c_at c_part c_partFrom c_partNumber c_wrong c_partWord c_readLaw c_readBound c_readGoal c_readSites a_readPlace a_script a_scriptLong c_scripts a_now a_refused c_sites a_shareX a_shareY c_asked c_outcome a_askedRow c_took a_kept c_acts c_drawn a_aside c_racer c_raced a_spelled c_spelledMany a_image c_hasImage]) hP hD rfl
    clear hP hD
    obtain ⟨hP, hD⟩ := h9
    rw [hQ]
    have h9 := fin9 (P := fun u9 : Int32 => va_P E.1 vwCl (w_X8_bad E a_ a_tape a_readPlace a_script a_scriptLong a_now a_refused a_shareX a_shareY a_askedRow a_kept a_aside a_spelled a_image c_thrown c_taped c_at c_part c_partFrom c_partNumber u9 c_partWord c_readLaw c_readBound c_readGoal c_readSites c_scripts c_sites c_asked c_outcome c_took c_acts c_drawn c_racer c_raced c_spelledMany c_hasImage) H ∧ va_D A (w_X8_bad E a_ a_tape a_readPlace a_script a_scriptLong a_now a_refused a_shareX a_shareY a_askedRow a_kept a_aside a_spelled a_image c_thrown c_taped c_at c_part c_partFrom c_partNumber u9 c_partWord c_readLaw c_readBound c_readGoal c_readSites c_scripts c_sites c_asked c_outcome c_took c_acts c_drawn c_racer c_raced c_spelledMany c_hasImage)) hF ⟨hP, hD⟩
    obtain ⟨hP9, hD9⟩ := h9
    exact W.vret hx hb hr (fun tt ht hW => ⟨⟨(), rfl, trivial, ht ▸ hP9, hD9⟩, hS.F ht⟩) hS.2.2 (dq_177 0 bcX8_bad_0 (j := 23) rfl rfl)
  ·
    replace hF := ip c_1 hF
    refine lv_aload_n hx hb (dq_42 0 bcX8_bad_0 (j := 9) rfl rfl) rfl (lv_at hl 0 rfl) ?_
    refine gt_X8_5 (v := .int c_partFrom) hx hb hts i_f_X8_bad_X8 hown hK hP 0 rfl (hts (.fieldLink RX8 94 "HushWatchModel" "partFrom" "I") (List.mem_of_getElem? (i := 2) rfl)) rfl (dq_180 0 bcX8_bad_0 (j := 10) (i := 94) rfl rfl rfl) ?_
    refine lv_goto (tgt := 20) hx hb (dq_167 0 bcX8_bad_0 (j := 13) (i := 7) rfl rfl rfl) (by decide) ?_
    refine pt_X8_7 (v := .int c_partFrom) hx hb hts i_f_X8_bad_X8 hown hK hP hD hS 0 rfl (hts (.fieldLink RX8 103 "HushWatchModel" "wrong" "I") (List.mem_of_getElem? (i := 1) rfl)) rfl rfl (Nat.le_of_ble_eq_true rfl) (dq_181 0 bcX8_bad_0 (j := 20) (i := 103) rfl rfl rfl) (fun H locs hP hD hS => ?_)
    have h9 := fixPD (ws' := [k_X8 a_ c_thrown a_tape c_taped c_at c_part c_partFrom c_partNumber c_partFrom c_partWord c_readLaw c_readBound c_readGoal c_readSites a_readPlace a_script a_scriptLong c_scripts a_now a_refused c_sites a_shareX a_shareY c_asked c_outcome a_askedRow c_took a_kept c_acts c_drawn a_aside c_racer c_raced a_spelled c_spelledMany a_image c_hasImage]) hP hD rfl
    clear hP hD
    obtain ⟨hP, hD⟩ := h9
    rw [hQ]
    have h9 := fin9 (P := fun u9 : Int32 => va_P E.1 vwCl (w_X8_bad E a_ a_tape a_readPlace a_script a_scriptLong a_now a_refused a_shareX a_shareY a_askedRow a_kept a_aside a_spelled a_image c_thrown c_taped c_at c_part c_partFrom c_partNumber u9 c_partWord c_readLaw c_readBound c_readGoal c_readSites c_scripts c_sites c_asked c_outcome c_took c_acts c_drawn c_racer c_raced c_spelledMany c_hasImage) H ∧ va_D A (w_X8_bad E a_ a_tape a_readPlace a_script a_scriptLong a_now a_refused a_shareX a_shareY a_askedRow a_kept a_aside a_spelled a_image c_thrown c_taped c_at c_part c_partFrom c_partNumber u9 c_partWord c_readLaw c_readBound c_readGoal c_readSites c_scripts c_sites c_asked c_outcome c_took c_acts c_drawn c_racer c_raced c_spelledMany c_hasImage)) hF ⟨hP, hD⟩
    obtain ⟨hP9, hD9⟩ := h9
    exact W.vret hx hb hr (fun tt ht hW => ⟨⟨(), rfl, trivial, ht ▸ hP9, hD9⟩, hS.F ht⟩) hS.2.2 (dq_177 0 bcX8_bad_0 (j := 23) rfl rfl)

def F_X8_here (c_tape : Nat → Int32) (c_taped : Int32) (c_at : Int32) : Option (Int32) :=
  if c_taped ≤ c_at then some (-1 : Int32) else ixF c_at 320 (some (c_tape c_at.toNatClampNeg))
abbrev w_X8_here (E : EE) (a_ a_tape a_readPlace a_script a_scriptLong a_now a_refused a_shareX a_shareY a_askedRow a_kept a_aside a_spelled a_image : Nat) (c_thrown : Int32) (c_taped : Int32) (c_at : Int32) (c_part : Int32) (c_partFrom : Int32) (c_partNumber : Int32) (c_wrong : Int32) (c_partWord : Int64) (c_readLaw : Int32) (c_readBound : Int32) (c_readGoal : Int32) (c_readSites : Int32) (c_scripts : Int32) (c_sites : Int32) (c_asked : Int32) (c_outcome : Int32) (c_took : Int32) (c_acts : Int32) (c_drawn : Int64) (c_racer : Int32) (c_raced : Int32) (c_spelledMany : Int32) (c_hasImage : Int32) (c_tape : Nat → Int32) : va_W := [k_X8 a_ c_thrown a_tape c_taped c_at c_part c_partFrom c_partNumber c_wrong c_partWord c_readLaw c_readBound c_readGoal c_readSites a_readPlace a_script a_scriptLong c_scripts a_now a_refused c_sites a_shareX a_shareY c_asked c_outcome a_askedRow c_took a_kept c_acts c_drawn a_aside c_racer c_raced a_spelled c_spelledMany a_image c_hasImage, k_I E a_tape 320 c_tape]
def v_f_X8_here : List Cond := List.cons (.code yX8_here cX8_here 1 (some .int)) (HAppend.hAppend (α := List Cond) (β := List Cond) (γ := List Cond) [.fieldLink RX8 64 "HushWatchModel" "at" "I", .fieldLink RX8 57 "HushWatchModel" "taped" "I", .fieldLink RX8 9 "HushWatchModel" "tape" "[I"] (HAppend.hAppend (α := List Cond) (β := List Cond) (γ := List Cond) wsX80 []))
theorem gw_f_X8_here : v_f_X8_here.all goodWord = true := gw_c2 (by decide +kernel) (gw_ap gw_wsX80 gw_nil)
theorem i_f_X8_here_X8 : ∀ w ∈ wsX80, w ∈ v_f_X8_here := fun _ h => List.mem_cons_of_mem _ (List.mem_append_right _ (List.mem_append_left _ h))
theorem hd_X8_here : yX8_here.cls = RX8 ∧ yX8_here.cls ≠ "java/lang/invoke/MethodHandle" ∧ yX8_here.cls ≠ "java/lang/invoke/VarHandle" ∧ (parseMethodDescriptor yX8_here.desc).map (fun d => d.parameters.length) = some 0 := by decide +kernel
set_option maxHeartbeats 4000000 in
set_option maxRecDepth 100000 in
theorem f_X8_here (l : Launch) (E : EE) {a_ a_tape a_readPlace a_script a_scriptLong a_now a_refused a_shareX a_shareY a_askedRow a_kept a_aside a_spelled a_image : Nat} {c_thrown : Int32} {c_taped : Int32} {c_at : Int32} {c_part : Int32} {c_partFrom : Int32} {c_partNumber : Int32} {c_wrong : Int32} {c_partWord : Int64} {c_readLaw : Int32} {c_readBound : Int32} {c_readGoal : Int32} {c_readSites : Int32} {c_scripts : Int32} {c_sites : Int32} {c_asked : Int32} {c_outcome : Int32} {c_took : Int32} {c_acts : Int32} {c_drawn : Int64} {c_racer : Int32} {c_raced : Int32} {c_spelledMany : Int32} {c_hasImage : Int32} {c_tape : Nat → Int32} {rr : Int32} (hF : F_X8_here c_tape c_taped c_at = some rr) : Met l yX8_here v_f_X8_here (({ frames := 0, cells := 0, slots := 0, locals := 0 } : Room)) (va_Pc [.ref a_] (pP E (w_X8_here E a_ a_tape a_readPlace a_script a_scriptLong a_now a_refused a_shareX a_shareY a_askedRow a_kept a_aside a_spelled a_image c_thrown c_taped c_at c_part c_partFrom c_partNumber c_wrong c_partWord c_readLaw c_readBound c_readGoal c_readSites c_scripts c_sites c_asked c_outcome c_took c_acts c_drawn c_racer c_raced c_spelledMany c_hasImage c_tape))) (vp_Si (fun q : Int32 => q = rr)) 0 0 (fun _ => False) := by
  refine Met.ofW (cc := cX8_here) (maxL := 1) (ret := (some .int)) (by decide) rfl ?_
  intro p e s m args below meth c s₁ B hml hv
  obtain ⟨rfl, ⟨hK, hN⟩, hP⟩ := hv
  have hx := B.exec
  have hb := B.bytes
  have hr := B.returns
  have hts := atoms_spec (ws := v_f_X8_here) B.pre
  have hown : s.vm.findClass RX8 = some m.cls := own_of hd_X8_here.1 (findClass_of_methodNamed B.named)
  have hlocks : meth.locks = false := B.notSynchronized
  replace hP : va_P E.1 vwCl [k_X8 a_ c_thrown a_tape c_taped c_at c_part c_partFrom c_partNumber c_wrong c_partWord c_readLaw c_readBound c_readGoal c_readSites a_readPlace a_script a_scriptLong c_scripts a_now a_refused c_sites a_shareX a_shareY c_asked c_outcome a_askedRow c_took a_kept c_acts c_drawn a_aside c_racer c_raced a_spelled c_spelledMany a_image c_hasImage, k_I E a_tape 320 c_tape] s.heap := hP
  have hl := lv_entry ([.ref a_]) (n := 1) (Nat.le_of_ble_eq_true rfl)
  rw [lg_entry_eq]
  generalize (lg_sl ([.ref a_]) ++ List.replicate (1 - (lg_sl ([.ref a_])).length) Slot.unset).toArray = ls at hl ⊢
  have hl : lv_has ls 1 [(0, .ref a_)] := hl
  obtain ⟨Q, hQ⟩ : ∃ Q : State → Prop, Q = MQ below (vp_Si (fun q : Int32 => q = rr)) #[Value.ref a_] s 0 0 (fun _ => False) := ⟨_, rfl⟩
  rw [← hQ]
  change W p l e ({ frames := 0, cells := 0, slots := 0, locals := 0 } : Room) s m #[Value.ref a_] below meth c s.heap [] 0 0 Q (F0 m 0 ls [])
  unfold F_X8_here at hF
  refine lv_aload_n hx hb (dq_42 0 bcX8_here_0 (j := 0) rfl rfl) rfl (lv_at hl 0 rfl) ?_
  refine gt_X8_3 (v := .int c_at) hx hb hts i_f_X8_here_X8 hown hK hP 0 rfl (hts (.fieldLink RX8 64 "HushWatchModel" "at" "I") (List.mem_of_getElem? (i := 1) rfl)) rfl (dq_180 0 bcX8_here_0 (j := 1) (i := 64) rfl rfl rfl) ?_
  refine lv_aload_n hx hb (dq_42 0 bcX8_here_0 (j := 4) rfl rfl) rfl (lv_at hl 0 rfl) ?_
  refine gt_X8_2 (v := .int c_taped) hx hb hts i_f_X8_here_X8 hown hK hP 0 rfl (hts (.fieldLink RX8 57 "HushWatchModel" "taped" "I") (List.mem_of_getElem? (i := 2) rfl)) rfl (dq_180 0 bcX8_here_0 (j := 5) (i := 57) rfl rfl rfl) ?_
  refine lv_icmp_ge (tgt := 23) hx hb (dq_162 0 bcX8_here_0 (j := 8) (i := 15) rfl rfl rfl) (by decide) (fun c_1 => ?_) (fun c_1 => ?_)
  ·
    replace hF := ip c_1 hF
    refine lv_iconst (v := -1) hx hb (dq_2 0 bcX8_here_0 (j := 23) rfl rfl) (by decide) ?_
    rw [hQ]
    obtain e9_0 := inj1 hF
    exact W.iret (v := (-1 : Int32)) hx hb hr (fun tt ht hW => ⟨_, rfl, e9_0, ht⟩) (fun _ h => by cases h) (dq_172 0 bcX8_here_0 (j := 24) rfl rfl)
  ·
    replace hF := inn c_1 hF
    refine lv_aload_n hx hb (dq_42 0 bcX8_here_0 (j := 11) rfl rfl) rfl (lv_at hl 0 rfl) ?_
    refine gt_X8_1 (v := .ref a_tape) hx hb hts i_f_X8_here_X8 hown hK hP 0 rfl (hts (.fieldLink RX8 9 "HushWatchModel" "tape" "[I") (List.mem_of_getElem? (i := 3) rfl)) rfl (dq_180 0 bcX8_here_0 (j := 12) (i := 9) rfl rfl rfl) ?_
    refine lv_aload_n hx hb (dq_42 0 bcX8_here_0 (j := 15) rfl rfl) rfl (lv_at hl 0 rfl) ?_
    refine gt_X8_3 (v := .int c_at) hx hb hts i_f_X8_here_X8 hown hK hP 0 rfl (hts (.fieldLink RX8 64 "HushWatchModel" "at" "I") (List.mem_of_getElem? (i := 1) rfl)) rfl (dq_180 0 bcX8_here_0 (j := 16) (i := 64) rfl rfl rfl) ?_
    replace hF := ix_s hF
    obtain ⟨hi_2, hF⟩ := hF
    refine va_iald hx hb hK hP 1 0 rfl rfl hi_2 (dq_46 0 bcX8_here_0 (j := 19) rfl rfl) ?_
    refine lv_goto (tgt := 24) hx hb (dq_167 0 bcX8_here_0 (j := 20) (i := 4) rfl rfl rfl) (by decide) ?_
    rw [hQ]
    obtain e9_0 := inj1 hF
    exact W.iret (v := c_tape c_at.toNatClampNeg) hx hb hr (fun tt ht hW => ⟨_, rfl, e9_0, ht⟩) (fun _ h => by cases h) (dq_172 0 bcX8_here_0 (j := 24) rfl rfl)

def F_X8_isLetter (p0 : Int32) : Option (Int32) :=
  if p0 < (97 : Int32) then some (0 : Int32) else if (122 : Int32) < p0 then some (0 : Int32) else some (1 : Int32)

def v_f_X8_isLetter : List Cond := List.cons (.code yX8_isLetter cX8_isLetter 1 (some .boolean)) (HAppend.hAppend (α := List Cond) (β := List Cond) (γ := List Cond) [] [])
theorem gw_f_X8_isLetter : v_f_X8_isLetter.all goodWord = true := gw_c2 (by decide +kernel) gw_nil
theorem hd_X8_isLetter : yX8_isLetter.cls = RX8 ∧ yX8_isLetter.cls ≠ "java/lang/invoke/MethodHandle" ∧ yX8_isLetter.cls ≠ "java/lang/invoke/VarHandle" ∧ (parseMethodDescriptor yX8_isLetter.desc).map (fun d => d.parameters.length) = some 1 := by decide +kernel
set_option maxHeartbeats 4000000 in
set_option maxRecDepth 100000 in
theorem f_X8_isLetter (l : Launch) (E : EE) {p0 : Int32} {rr : Int32} (hF : F_X8_isLetter p0 = some rr) : Met l yX8_isLetter v_f_X8_isLetter (({ frames := 0, cells := 0, slots := 0, locals := 0 } : Room)) (va_Pc [.int p0] (pP E [])) (vp_Si (fun q : Int32 => q = rr ∧ (q = 0 ∨ q = 1))) 0 0 (fun _ => False) := by
  refine Met.ofW (cc := cX8_isLetter) (maxL := 1) (ret := (some .boolean)) (by decide) rfl ?_
  intro p e s m args below meth c s₁ B hml hv
  obtain ⟨rfl, ⟨hK, hN⟩, hP⟩ := hv
  have hx := B.exec
  have hb := B.bytes
  have hr := B.returns
  have hts := atoms_spec (ws := v_f_X8_isLetter) B.pre
  have hown : s.vm.findClass RX8 = some m.cls := own_of hd_X8_isLetter.1 (findClass_of_methodNamed B.named)
  have hlocks : meth.locks = false := B.notSynchronized
  replace hP : va_P E.1 vwCl [] s.heap := hP
  have hl := lv_entry ([.int p0]) (n := 1) (Nat.le_of_ble_eq_true rfl)
  rw [lg_entry_eq]
  generalize (lg_sl ([.int p0]) ++ List.replicate (1 - (lg_sl ([.int p0])).length) Slot.unset).toArray = ls at hl ⊢
  have hl : lv_has ls 1 [(0, .int p0)] := hl
  obtain ⟨Q, hQ⟩ : ∃ Q : State → Prop, Q = MQ below (vp_Si (fun q : Int32 => q = rr ∧ (q = 0 ∨ q = 1))) #[Value.int p0] s 0 0 (fun _ => False) := ⟨_, rfl⟩
  rw [← hQ]
  change W p l e ({ frames := 0, cells := 0, slots := 0, locals := 0 } : Room) s m #[Value.int p0] below meth c s.heap [] 0 0 Q (F0 m 0 ls [])
  unfold F_X8_isLetter at hF
  refine lv_iload_n hx hb (dq_26 0 bcX8_isLetter_0 (j := 0) rfl rfl) rfl (lv_at hl 0 rfl) ?_
  refine lv_bipush (v := 97) hx hb (dq_16 0 bcX8_isLetter_0 (j := 1) (i := 97) rfl rfl rfl) (by decide) ?_
  refine lv_icmp_lt (tgt := 16) hx hb (dq_161 0 bcX8_isLetter_0 (j := 3) (i := 13) rfl rfl rfl) (by decide) (fun c_1 => ?_) (fun c_1 => ?_)
  ·
    replace hF := ip c_1 hF
    refine lv_iconst (v := 0) hx hb (dq_3 0 bcX8_isLetter_0 (j := 16) rfl rfl) (by decide) ?_
    rw [hQ]
    obtain e9_0 := inj1 hF
    exact W.zret (v := (0 : Int32)) hx hb hr rfl (fun tt ht hW => ⟨_, rfl, ⟨e9_0, Or.inl rfl⟩, ht⟩) (fun _ h => by cases h) (dq_172 0 bcX8_isLetter_0 (j := 17) rfl rfl)
  ·
    replace hF := inn c_1 hF
    refine lv_iload_n hx hb (dq_26 0 bcX8_isLetter_0 (j := 6) rfl rfl) rfl (lv_at hl 0 rfl) ?_
    refine lv_bipush (v := 122) hx hb (dq_16 0 bcX8_isLetter_0 (j := 7) (i := 122) rfl rfl rfl) (by decide) ?_
    refine lv_icmp_gt (tgt := 16) hx hb (dq_163 0 bcX8_isLetter_0 (j := 9) (i := 7) rfl rfl rfl) (by decide) (fun c_2 => ?_) (fun c_2 => ?_)
    ·
      replace hF := ip c_2 hF
      refine lv_iconst (v := 0) hx hb (dq_3 0 bcX8_isLetter_0 (j := 16) rfl rfl) (by decide) ?_
      rw [hQ]
      obtain e9_0 := inj1 hF
      exact W.zret (v := (0 : Int32)) hx hb hr rfl (fun tt ht hW => ⟨_, rfl, ⟨e9_0, Or.inl rfl⟩, ht⟩) (fun _ h => by cases h) (dq_172 0 bcX8_isLetter_0 (j := 17) rfl rfl)
    ·
      replace hF := inn c_2 hF
      refine lv_iconst (v := 1) hx hb (dq_4 0 bcX8_isLetter_0 (j := 12) rfl rfl) (by decide) ?_
      refine lv_goto (tgt := 17) hx hb (dq_167 0 bcX8_isLetter_0 (j := 13) (i := 4) rfl rfl rfl) (by decide) ?_
      rw [hQ]
      obtain e9_0 := inj1 hF
      exact W.zret (v := (1 : Int32)) hx hb hr rfl (fun tt ht hW => ⟨_, rfl, ⟨e9_0, Or.inr rfl⟩, ht⟩) (fun _ h => by cases h) (dq_172 0 bcX8_isLetter_0 (j := 17) rfl rfl)

def B_X8_readWord_7 (c_taped : Int32) (c_tape : Nat → Int32) (x1 : Int32) (c_at : Int32) (c_partWord : Int64) : Option ((Int32 × Int32 × Int64) ⊕ (Int32 × Int64)) :=
  bd1 (F_X8_here c_tape c_taped c_at) (fun r_1 => bd1 (F_X8_isLetter r_1) (fun r_3 => if r_3 = (0 : Int32) then some (.inr (c_at, c_partWord)) else if (8 : Int32) ≤ x1 then some (.inl (x1 + (1 : Int32), c_at + (1 : Int32), (0 : Int64))) else bd1 (F_X8_here c_tape c_taped c_at) (fun r_8 => some (.inl (x1 + (1 : Int32), c_at + (1 : Int32), ((((32 : Int64) * c_partWord) + r_8.toInt64) - (97 : Int64)) + (1 : Int64))))))
def F_X8_readWord (K : Nat) (c_tape : Nat → Int32) (c_taped : Int32) (c_at : Int32) (c_part : Int32) (c_partWord : Int64) : Option (Int32 × Int32 × Int64) :=
  bd2 (lpF (fun u9 : Int32 × Int32 × Int64 => B_X8_readWord_7 c_taped c_tape u9.1 u9.2.1 u9.2.2) K ((0 : Int32), c_at, (0 : Int64))) (fun c_at_10 c_partWord_11 => some (c_at_10, (1 : Int32), c_partWord_11))
abbrev w_X8_readWord (E : EE) (a_ a_tape a_readPlace a_script a_scriptLong a_now a_refused a_shareX a_shareY a_askedRow a_kept a_aside a_spelled a_image : Nat) (c_thrown : Int32) (c_taped : Int32) (c_at : Int32) (c_part : Int32) (c_partFrom : Int32) (c_partNumber : Int32) (c_wrong : Int32) (c_partWord : Int64) (c_readLaw : Int32) (c_readBound : Int32) (c_readGoal : Int32) (c_readSites : Int32) (c_scripts : Int32) (c_sites : Int32) (c_asked : Int32) (c_outcome : Int32) (c_took : Int32) (c_acts : Int32) (c_drawn : Int64) (c_racer : Int32) (c_raced : Int32) (c_spelledMany : Int32) (c_hasImage : Int32) (c_tape : Nat → Int32) : va_W := [k_X8 a_ c_thrown a_tape c_taped c_at c_part c_partFrom c_partNumber c_wrong c_partWord c_readLaw c_readBound c_readGoal c_readSites a_readPlace a_script a_scriptLong c_scripts a_now a_refused c_sites a_shareX a_shareY c_asked c_outcome a_askedRow c_took a_kept c_acts c_drawn a_aside c_racer c_raced a_spelled c_spelledMany a_image c_hasImage, k_I E a_tape 320 c_tape]
def v_f_X8_readWord : List Cond := List.cons (.code yX8_readWord cX8_readWord 2 none) (HAppend.hAppend (α := List Cond) (β := List Cond) (γ := List Cond) [.fieldLink RX8 67 "HushWatchModel" "partWord" "J", .fieldLink RX8 64 "HushWatchModel" "at" "I", .constantLong RX8 79 (32), .constantLong RX8 81 (97), .fieldLink RX8 83 "HushWatchModel" "part" "I", .methodLink RX8 71 yX8_here, .instanceMethod yX8_here, .selects RX8 yX8_here yX8_here, .initialized RX8, .methodLink RX8 75 yX8_isLetter, .static yX8_isLetter] (HAppend.hAppend (α := List Cond) (β := List Cond) (γ := List Cond) wsX80 (HAppend.hAppend (α := List Cond) (β := List Cond) (γ := List Cond) v_f_X8_here (HAppend.hAppend (α := List Cond) (β := List Cond) (γ := List Cond) v_f_X8_isLetter []))))
theorem gw_f_X8_readWord : v_f_X8_readWord.all goodWord = true := gw_c2 (by decide +kernel) (gw_ap gw_wsX80 (gw_ap gw_f_X8_here (gw_ap gw_f_X8_isLetter gw_nil)))
theorem i_f_X8_readWord_X8 : ∀ w ∈ wsX80, w ∈ v_f_X8_readWord := fun _ h => List.mem_cons_of_mem _ (List.mem_append_right _ (List.mem_append_left _ h))
theorem g_f_X8_readWord_f_X8_here_71 : GoodIn v_f_X8_readWord (wsV RX8 71 RX8 yX8_here v_f_X8_here) := goodIn_in gw_f_X8_readWord (in4 6 7 8 9 rfl rfl rfl rfl (fun _ h => List.mem_cons_of_mem _ (List.mem_append_right _ (List.mem_append_right _ (List.mem_append_left _ h)))))
theorem g_f_X8_readWord_f_X8_isLetter_75 : GoodIn v_f_X8_readWord (va_wsS RX8 75 yX8_isLetter v_f_X8_isLetter) := goodIn_in gw_f_X8_readWord (in3 10 11 9 rfl rfl rfl (fun _ h => List.mem_cons_of_mem _ (List.mem_append_right _ (List.mem_append_right _ (List.mem_append_right _ (List.mem_append_left _ h))))))
theorem hd_X8_readWord : yX8_readWord.cls = RX8 ∧ yX8_readWord.cls ≠ "java/lang/invoke/MethodHandle" ∧ yX8_readWord.cls ≠ "java/lang/invoke/VarHandle" ∧ (parseMethodDescriptor yX8_readWord.desc).map (fun d => d.parameters.length) = some 0 := by decide +kernel
set_option maxHeartbeats 4000000 in
set_option maxRecDepth 100000 in
theorem wb_X8_readWord_7 {p : Program} (l : Launch) {e : Env} {s : State} {m : MethodId} {below : List Frame} {meth : Method} {c : Code} {Q : State → Prop} (E : EE) (K : Nat) {a_ a_tape a_readPlace a_script a_scriptLong a_now a_refused a_shareX a_shareY a_askedRow a_kept a_aside a_spelled a_image : Nat} {c_thrown : Int32} {c_taped : Int32} {c_partFrom : Int32} {c_partNumber : Int32} {c_wrong : Int32} {c_readLaw : Int32} {c_readBound : Int32} {c_readGoal : Int32} {c_readSites : Int32} {c_scripts : Int32} {c_sites : Int32} {c_asked : Int32} {c_outcome : Int32} {c_took : Int32} {c_acts : Int32} {c_drawn : Int64} {c_racer : Int32} {c_raced : Int32} {c_spelledMany : Int32} {c_hasImage : Int32} {c_tape : Nat → Int32} {x1 : Int32} {c_at : Int32} {c_part : Int32} {c_partWord : Int64} (hx : p.tables.exec = Jvm.exec) (hb : c.code = cX8_readWord) (hml : c.maxLocals = 2) (hown : s.vm.findClass RX8 = some m.cls) (hts : ∀ w ∈ v_f_X8_readWord, w.before #[Value.ref a_] s = true) (hK : va_K E.1 vwCl (TY E) s) (hN : NX s) {A : Nat → Prop} (hA : ∀ q : Nat, s.heap.size ≤ q → A q) {xx : (Int32 × Int32 × Int64) ⊕ (Int32 × Int64)} (hC : ∀ (x1 : Int32), ∀ (c_at : Int32), ∀ (c_partWord : Int64), xx = .inl (x1, c_at, c_partWord) → ∀ (H : Heap) (locs : List Loc) (ls : Array Slot), va_P E.1 vwCl (w_X8_readWord E a_ a_tape a_readPlace a_script a_scriptLong a_now a_refused a_shareX a_shareY a_askedRow a_kept a_aside a_spelled a_image c_thrown c_taped c_at c_part c_partFrom c_partNumber c_wrong c_partWord c_readLaw c_readBound c_readGoal c_readSites c_scripts c_sites c_asked c_outcome c_took c_acts c_drawn c_racer c_raced c_spelledMany c_hasImage c_tape) H → va_D A (w_X8_readWord E a_ a_tape a_readPlace a_script a_scriptLong a_now a_refused a_shareX a_shareY a_askedRow a_kept a_aside a_spelled a_image c_thrown c_taped c_at c_part c_partFrom c_partNumber c_wrong c_partWord c_readLaw c_readBound c_readGoal c_readSites c_scripts c_sites c_asked c_outcome c_took c_acts c_drawn c_racer c_raced c_spelledMany c_hasImage c_tape) → va_S A s.heap H locs → lv_has ls 2 [(0, .ref a_), (1, .int x1)] → W p l e ({ frames := 1, cells := 0, slots := 0, locals := 20 } : Room) s m #[Value.ref a_] below meth c H locs 0 0 Q (F0 m 7 ls [])) (hE : ∀ (c_at : Int32), ∀ (c_partWord : Int64), xx = .inr (c_at, c_partWord) → ((∀ (H : Heap) (locs : List Loc) (ls : Array Slot), va_P E.1 vwCl (w_X8_readWord E a_ a_tape a_readPlace a_script a_scriptLong a_now a_refused a_shareX a_shareY a_askedRow a_kept a_aside a_spelled a_image c_thrown c_taped c_at c_part c_partFrom c_partNumber c_wrong c_partWord c_readLaw c_readBound c_readGoal c_readSites c_scripts c_sites c_asked c_outcome c_took c_acts c_drawn c_racer c_raced c_spelledMany c_hasImage c_tape) H → va_D A (w_X8_readWord E a_ a_tape a_readPlace a_script a_scriptLong a_now a_refused a_shareX a_shareY a_askedRow a_kept a_aside a_spelled a_image c_thrown c_taped c_at c_part c_partFrom c_partNumber c_wrong c_partWord c_readLaw c_readBound c_readGoal c_readSites c_scripts c_sites c_asked c_outcome c_took c_acts c_drawn c_racer c_raced c_spelledMany c_hasImage c_tape) → va_S A s.heap H locs → lv_has ls 2 [(0, .ref a_)] → W p l e ({ frames := 1, cells := 0, slots := 0, locals := 20 } : Room) s m #[Value.ref a_] below meth c H locs 0 0 Q (F0 m 67 ls [])))) (hF : B_X8_readWord_7 c_taped c_tape x1 c_at c_partWord = some xx) : ∀ (H : Heap) (locs : List Loc) (ls : Array Slot), va_P E.1 vwCl (w_X8_readWord E a_ a_tape a_readPlace a_script a_scriptLong a_now a_refused a_shareX a_shareY a_askedRow a_kept a_aside a_spelled a_image c_thrown c_taped c_at c_part c_partFrom c_partNumber c_wrong c_partWord c_readLaw c_readBound c_readGoal c_readSites c_scripts c_sites c_asked c_outcome c_took c_acts c_drawn c_racer c_raced c_spelledMany c_hasImage c_tape) H → va_D A (w_X8_readWord E a_ a_tape a_readPlace a_script a_scriptLong a_now a_refused a_shareX a_shareY a_askedRow a_kept a_aside a_spelled a_image c_thrown c_taped c_at c_part c_partFrom c_partNumber c_wrong c_partWord c_readLaw c_readBound c_readGoal c_readSites c_scripts c_sites c_asked c_outcome c_took c_acts c_drawn c_racer c_raced c_spelledMany c_hasImage c_tape) → va_S A s.heap H locs → lv_has ls 2 [(0, .ref a_), (1, .int x1)] → W p l e ({ frames := 1, cells := 0, slots := 0, locals := 20 } : Room) s m #[Value.ref a_] below meth c H locs 0 0 Q (F0 m 7 ls []) := by
  unfold B_X8_readWord_7 at hF
  intro H locs ls hP hD hS hl
  have h9 := fixPD (ws' := [k_X8 a_ c_thrown a_tape c_taped c_at c_part c_partFrom c_partNumber c_wrong c_partWord c_readLaw c_readBound c_readGoal c_readSites a_readPlace a_script a_scriptLong c_scripts a_now a_refused c_sites a_shareX a_shareY c_asked c_outcome a_askedRow c_took a_kept c_acts c_drawn a_aside c_racer c_raced a_spelled c_spelledMany a_image c_hasImage, k_I E a_tape 320 c_tape]) hP hD rfl
  clear hP hD
  obtain ⟨hP, hD⟩ := h9
  refine lv_aload_n hx hb (dq_42 0 bcX8_readWord_0 (j := 7) rfl rfl) rfl (lv_at hl 0 rfl) ?_
  replace hF := bd1_s hF
  obtain ⟨r_1, hc_2, hF⟩ := hF
  have hPc : va_P E.1 vwCl (w_X8_here E a_ a_tape a_readPlace a_script a_scriptLong a_now a_refused a_shareX a_shareY a_askedRow a_kept a_aside a_spelled a_image c_thrown c_taped c_at c_part c_partFrom c_partNumber c_wrong c_partWord c_readLaw c_readBound c_readGoal c_readSites c_scripts c_sites c_asked c_outcome c_took c_acts c_drawn c_racer c_raced c_spelledMany c_hasImage c_tape) H := hP.sub (ws' := [k_X8 a_ c_thrown a_tape c_taped c_at c_part c_partFrom c_partNumber c_wrong c_partWord c_readLaw c_readBound c_readGoal c_readSites a_readPlace a_script a_scriptLong c_scripts a_now a_refused c_sites a_shareX a_shareY c_asked c_outcome a_askedRow c_took a_kept c_acts c_drawn a_aside c_racer c_raced a_spelled c_spelledMany a_image c_hasImage, k_I E a_tape 320 c_tape]) [0, 1] rfl
  have hrc := va_recv hK hPc (ci := 9) (q0 := 0) rfl rfl
  refine pE_i (va_runV (As := []) (rest := [])  ⟨hx, hb, hml, hown, hts⟩ (f_X8_here l E (a_ := a_) (a_tape := a_tape) (a_readPlace := a_readPlace) (a_script := a_script) (a_scriptLong := a_scriptLong) (a_now := a_now) (a_refused := a_refused) (a_shareX := a_shareX) (a_shareY := a_shareY) (a_askedRow := a_askedRow) (a_kept := a_kept) (a_aside := a_aside) (a_spelled := a_spelled) (a_image := a_image) (c_thrown := c_thrown) (c_taped := c_taped) (c_at := c_at) (c_part := c_part) (c_partFrom := c_partFrom) (c_partNumber := c_partNumber) (c_wrong := c_wrong) (c_partWord := c_partWord) (c_readLaw := c_readLaw) (c_readBound := c_readBound) (c_readGoal := c_readGoal) (c_readSites := c_readSites) (c_scripts := c_scripts) (c_sites := c_sites) (c_asked := c_asked) (c_outcome := c_outcome) (c_took := c_took) (c_acts := c_acts) (c_drawn := c_drawn) (c_racer := c_racer) (c_raced := c_raced) (c_spelledMany := c_spelledMany) (c_hasImage := c_hasImage) (c_tape := c_tape) hc_2) (cwV 0 hts g_f_X8_readWord_f_X8_here_71 rfl rfl rfl hd_X8_here ⟨Nat.le_of_ble_eq_true rfl, Nat.le_of_ble_eq_true rfl⟩) ⟨pP.blind, hrc, (pP.pre ⟨hK, hN⟩ hPc)⟩ rfl rfl hl.1 rfl (lv_room (Nat.le_of_ble_eq_true rfl)) (dq_182 0 bcX8_readWord_0 (j := 8) (i := 71) rfl rfl rfl) ⟨Nat.le_of_ble_eq_true rfl, Nat.le_of_ble_eq_true rfl⟩) ?_
  replace hF := bd1_s hF
  obtain ⟨r_3, hc_4, hF⟩ := hF
  have hPc : va_P E.1 vwCl [] H := fun k q h => by simp at h
  refine pE_z (va_runS (As := [.int r_1]) (rest := [])  ⟨hx, hb, hml, hown, hts⟩ (f_X8_isLetter l E (p0 := r_1) hc_4) (va_cwS 1 hts g_f_X8_readWord_f_X8_isLetter_75 rfl rfl rfl hd_X8_isLetter.2 ⟨Nat.le_of_ble_eq_true rfl, Nat.le_of_ble_eq_true rfl⟩) ⟨pP.blind, (pP.pre ⟨hK, hN⟩ hPc)⟩ rfl rfl hl.1 rfl (lv_room (Nat.le_of_ble_eq_true rfl)) (dq_184 0 bcX8_readWord_0 (j := 11) (i := 75) rfl rfl rfl) ⟨Nat.le_of_ble_eq_true rfl, Nat.le_of_ble_eq_true rfl⟩) (fun hb_5 => ?_)
  refine lv_if_eq (tgt := 67) hx hb (dq_153 0 bcX8_readWord_0 (j := 14) (i := 53) rfl rfl rfl) (by decide) (fun c_6 => ?_) (fun c_6 => ?_)
  ·
    replace hF := ip c_6 hF
    cases hF
    exact hE c_at c_partWord rfl H locs ls (hP.sub [0, 1] rfl) (hD.sub [0, 1] (by decide) rfl) hS (lv_sub hl [0] rfl)
  ·
    replace hF := inn c_6 hF
    refine lv_aload_n hx hb (dq_42 0 bcX8_readWord_0 (j := 17) rfl rfl) rfl (lv_at hl 0 rfl) ?_
    refine lv_iload_n hx hb (dq_27 0 bcX8_readWord_0 (j := 18) rfl rfl) rfl (lv_at hl 1 rfl) ?_
    refine lv_bipush (v := 8) hx hb (dq_16 0 bcX8_readWord_0 (j := 19) (i := 8) rfl rfl rfl) (by decide) ?_
    refine lv_icmp_ge (tgt := 47) hx hb (dq_162 0 bcX8_readWord_0 (j := 21) (i := 26) rfl rfl rfl) (by decide) (fun c_7 => ?_) (fun c_7 => ?_)
    ·
      replace hF := ip c_7 hF
      refine lv_lconst (v := 0) hx hb (dq_9 0 bcX8_readWord_0 (j := 47) rfl rfl) (by decide) ?_
      refine pt_X8_8 (v := .long (0 : Int64)) hx hb hts i_f_X8_readWord_X8 hown hK hP hD hS 0 rfl (hts (.fieldLink RX8 67 "HushWatchModel" "partWord" "J") (List.mem_of_getElem? (i := 1) rfl)) rfl rfl (Nat.le_of_ble_eq_true rfl) (dq_181 48 bcX8_readWord_1 (j := 0) (i := 67) rfl rfl rfl) (fun H locs hP hD hS => ?_)
      have h9 := fixPD (ws' := [k_X8 a_ c_thrown a_tape c_taped c_at c_part c_partFrom c_partNumber c_wrong (0 : Int64) c_readLaw c_readBound c_readGoal c_readSites a_readPlace a_script a_scriptLong c_scripts a_now a_refused c_sites a_shareX a_shareY c_asked c_outcome a_askedRow c_took a_kept c_acts c_drawn a_aside c_racer c_raced a_spelled c_spelledMany a_image c_hasImage, k_I E a_tape 320 c_tape]) hP hD rfl
      clear hP hD
      obtain ⟨hP, hD⟩ := h9
      refine lv_iinc (v := x1 + (1 : Int32)) (lv' := [(1, .int (x1 + (1 : Int32))), (0, .ref a_)]) hx hb (dq_132 48 bcX8_readWord_1 (j := 3) (i := 1) rfl rfl rfl) hl (k := 1) rfl (rfl) (by decide) rfl (fun ls hl => ?_)
      refine lv_aload_n hx hb (dq_42 48 bcX8_readWord_1 (j := 6) rfl rfl) rfl (lv_at hl 1 rfl) ?_
      refine lv_dup hx hb (dq_89 48 bcX8_readWord_1 (j := 7) rfl rfl) rfl ?_
      refine gt_X8_3 (v := .int c_at) hx hb hts i_f_X8_readWord_X8 hown hK hP 0 rfl (hts (.fieldLink RX8 64 "HushWatchModel" "at" "I") (List.mem_of_getElem? (i := 2) rfl)) rfl (dq_180 48 bcX8_readWord_1 (j := 8) (i := 64) rfl rfl rfl) ?_
      refine lv_iconst (v := 1) hx hb (dq_4 48 bcX8_readWord_1 (j := 11) rfl rfl) (by decide) ?_
      refine lv_iadd hx hb (dq_96 48 bcX8_readWord_1 (j := 12) rfl rfl) ?_
      refine pt_X8_3 (v := .int (c_at + (1 : Int32))) hx hb hts i_f_X8_readWord_X8 hown hK hP hD hS 0 rfl (hts (.fieldLink RX8 64 "HushWatchModel" "at" "I") (List.mem_of_getElem? (i := 2) rfl)) rfl rfl (Nat.le_of_ble_eq_true rfl) (dq_181 48 bcX8_readWord_1 (j := 13) (i := 64) rfl rfl rfl) (fun H locs hP hD hS => ?_)
      have h9 := fixPD (ws' := [k_X8 a_ c_thrown a_tape c_taped (c_at + (1 : Int32)) c_part c_partFrom c_partNumber c_wrong (0 : Int64) c_readLaw c_readBound c_readGoal c_readSites a_readPlace a_script a_scriptLong c_scripts a_now a_refused c_sites a_shareX a_shareY c_asked c_outcome a_askedRow c_took a_kept c_acts c_drawn a_aside c_racer c_raced a_spelled c_spelledMany a_image c_hasImage, k_I E a_tape 320 c_tape]) hP hD rfl
      clear hP hD
      obtain ⟨hP, hD⟩ := h9
      refine lv_goto (tgt := 7) hx hb (dq_167 48 bcX8_readWord_1 (j := 16) (i := -57) rfl rfl rfl) (by decide) ?_
      cases hF
      exact hC (x1 + (1 : Int32)) (c_at + (1 : Int32)) (0 : Int64) rfl H locs ls (hP.sub [0, 1] rfl) (hD.sub [0, 1] (by decide) rfl) hS (lv_sub hl [1, 0] rfl)
    ·
      replace hF := inn c_7 hF
      refine lv_ldc2 (v := 32) hx hb hown (hts (.constantLong RX8 79 (32)) (List.mem_of_getElem? (i := 3) rfl)) (dq_20 0 bcX8_readWord_0 (j := 24) (i := 79) rfl rfl rfl) ?_
      refine lv_aload_n hx hb (dq_42 0 bcX8_readWord_0 (j := 27) rfl rfl) rfl (lv_at hl 0 rfl) ?_
      refine gt_X8_8 (v := .long c_partWord) hx hb hts i_f_X8_readWord_X8 hown hK hP 0 rfl (hts (.fieldLink RX8 67 "HushWatchModel" "partWord" "J") (List.mem_of_getElem? (i := 1) rfl)) rfl (dq_180 0 bcX8_readWord_0 (j := 28) (i := 67) rfl rfl rfl) ?_
      refine lv_lmul hx hb (dq_105 0 bcX8_readWord_0 (j := 31) rfl rfl) ?_
      refine lv_aload_n hx hb (dq_42 0 bcX8_readWord_0 (j := 32) rfl rfl) rfl (lv_at hl 0 rfl) ?_
      replace hF := bd1_s hF
      obtain ⟨r_8, hc_9, hF⟩ := hF
      have hPc : va_P E.1 vwCl (w_X8_here E a_ a_tape a_readPlace a_script a_scriptLong a_now a_refused a_shareX a_shareY a_askedRow a_kept a_aside a_spelled a_image c_thrown c_taped c_at c_part c_partFrom c_partNumber c_wrong c_partWord c_readLaw c_readBound c_readGoal c_readSites c_scripts c_sites c_asked c_outcome c_took c_acts c_drawn c_racer c_raced c_spelledMany c_hasImage c_tape) H := hP.sub (ws' := [k_X8 a_ c_thrown a_tape c_taped c_at c_part c_partFrom c_partNumber c_wrong c_partWord c_readLaw c_readBound c_readGoal c_readSites a_readPlace a_script a_scriptLong c_scripts a_now a_refused c_sites a_shareX a_shareY c_asked c_outcome a_askedRow c_took a_kept c_acts c_drawn a_aside c_racer c_raced a_spelled c_spelledMany a_image c_hasImage, k_I E a_tape 320 c_tape]) [0, 1] rfl
      have hrc := va_recv hK hPc (ci := 9) (q0 := 0) rfl rfl
      refine pE_i (va_runV (As := []) (rest := [.long ((32 : Int64) * c_partWord), .ref a_])  ⟨hx, hb, hml, hown, hts⟩ (f_X8_here l E (a_ := a_) (a_tape := a_tape) (a_readPlace := a_readPlace) (a_script := a_script) (a_scriptLong := a_scriptLong) (a_now := a_now) (a_refused := a_refused) (a_shareX := a_shareX) (a_shareY := a_shareY) (a_askedRow := a_askedRow) (a_kept := a_kept) (a_aside := a_aside) (a_spelled := a_spelled) (a_image := a_image) (c_thrown := c_thrown) (c_taped := c_taped) (c_at := c_at) (c_part := c_part) (c_partFrom := c_partFrom) (c_partNumber := c_partNumber) (c_wrong := c_wrong) (c_partWord := c_partWord) (c_readLaw := c_readLaw) (c_readBound := c_readBound) (c_readGoal := c_readGoal) (c_readSites := c_readSites) (c_scripts := c_scripts) (c_sites := c_sites) (c_asked := c_asked) (c_outcome := c_outcome) (c_took := c_took) (c_acts := c_acts) (c_drawn := c_drawn) (c_racer := c_racer) (c_raced := c_raced) (c_spelledMany := c_spelledMany) (c_hasImage := c_hasImage) (c_tape := c_tape) hc_9) (cwV 0 hts g_f_X8_readWord_f_X8_here_71 rfl rfl rfl hd_X8_here ⟨Nat.le_of_ble_eq_true rfl, Nat.le_of_ble_eq_true rfl⟩) ⟨pP.blind, hrc, (pP.pre ⟨hK, hN⟩ hPc)⟩ rfl rfl hl.1 rfl (lv_room (Nat.le_of_ble_eq_true rfl)) (dq_182 0 bcX8_readWord_0 (j := 33) (i := 71) rfl rfl rfl) ⟨Nat.le_of_ble_eq_true rfl, Nat.le_of_ble_eq_true rfl⟩) ?_
      refine lv_i2l (v := r_8.toInt64) hx hb (dq_133 0 bcX8_readWord_0 (j := 36) rfl rfl) rfl ?_
      refine lv_ladd hx hb (dq_97 0 bcX8_readWord_0 (j := 37) rfl rfl) ?_
      refine lv_ldc2 (v := 97) hx hb hown (hts (.constantLong RX8 81 (97)) (List.mem_of_getElem? (i := 4) rfl)) (dq_20 0 bcX8_readWord_0 (j := 38) (i := 81) rfl rfl rfl) ?_
      refine lv_lsub hx hb (dq_101 0 bcX8_readWord_0 (j := 41) rfl rfl) ?_
      refine lv_lconst (v := 1) hx hb (dq_10 0 bcX8_readWord_0 (j := 42) rfl rfl) (by decide) ?_
      refine lv_ladd hx hb (dq_97 0 bcX8_readWord_0 (j := 43) rfl rfl) ?_
      refine lv_goto (tgt := 48) hx hb (dq_167 0 bcX8_readWord_0 (j := 44) (i := 4) rfl rfl rfl) (by decide) ?_
      refine pt_X8_8 (v := .long (((((32 : Int64) * c_partWord) + r_8.toInt64) - (97 : Int64)) + (1 : Int64))) hx hb hts i_f_X8_readWord_X8 hown hK hP hD hS 0 rfl (hts (.fieldLink RX8 67 "HushWatchModel" "partWord" "J") (List.mem_of_getElem? (i := 1) rfl)) rfl rfl (Nat.le_of_ble_eq_true rfl) (dq_181 48 bcX8_readWord_1 (j := 0) (i := 67) rfl rfl rfl) (fun H locs hP hD hS => ?_)
      have h9 := fixPD (ws' := [k_X8 a_ c_thrown a_tape c_taped c_at c_part c_partFrom c_partNumber c_wrong (((((32 : Int64) * c_partWord) + r_8.toInt64) - (97 : Int64)) + (1 : Int64)) c_readLaw c_readBound c_readGoal c_readSites a_readPlace a_script a_scriptLong c_scripts a_now a_refused c_sites a_shareX a_shareY c_asked c_outcome a_askedRow c_took a_kept c_acts c_drawn a_aside c_racer c_raced a_spelled c_spelledMany a_image c_hasImage, k_I E a_tape 320 c_tape]) hP hD rfl
      clear hP hD
      obtain ⟨hP, hD⟩ := h9
      refine lv_iinc (v := x1 + (1 : Int32)) (lv' := [(1, .int (x1 + (1 : Int32))), (0, .ref a_)]) hx hb (dq_132 48 bcX8_readWord_1 (j := 3) (i := 1) rfl rfl rfl) hl (k := 1) rfl (rfl) (by decide) rfl (fun ls hl => ?_)
      refine lv_aload_n hx hb (dq_42 48 bcX8_readWord_1 (j := 6) rfl rfl) rfl (lv_at hl 1 rfl) ?_
      refine lv_dup hx hb (dq_89 48 bcX8_readWord_1 (j := 7) rfl rfl) rfl ?_
      refine gt_X8_3 (v := .int c_at) hx hb hts i_f_X8_readWord_X8 hown hK hP 0 rfl (hts (.fieldLink RX8 64 "HushWatchModel" "at" "I") (List.mem_of_getElem? (i := 2) rfl)) rfl (dq_180 48 bcX8_readWord_1 (j := 8) (i := 64) rfl rfl rfl) ?_
      refine lv_iconst (v := 1) hx hb (dq_4 48 bcX8_readWord_1 (j := 11) rfl rfl) (by decide) ?_
      refine lv_iadd hx hb (dq_96 48 bcX8_readWord_1 (j := 12) rfl rfl) ?_
      refine pt_X8_3 (v := .int (c_at + (1 : Int32))) hx hb hts i_f_X8_readWord_X8 hown hK hP hD hS 0 rfl (hts (.fieldLink RX8 64 "HushWatchModel" "at" "I") (List.mem_of_getElem? (i := 2) rfl)) rfl rfl (Nat.le_of_ble_eq_true rfl) (dq_181 48 bcX8_readWord_1 (j := 13) (i := 64) rfl rfl rfl) (fun H locs hP hD hS => ?_)
      have h9 := fixPD (ws' := [k_X8 a_ c_thrown a_tape c_taped (c_at + (1 : Int32)) c_part c_partFrom c_partNumber c_wrong (((((32 : Int64) * c_partWord) + r_8.toInt64) - (97 : Int64)) + (1 : Int64)) c_readLaw c_readBound c_readGoal c_readSites a_readPlace a_script a_scriptLong c_scripts a_now a_refused c_sites a_shareX a_shareY c_asked c_outcome a_askedRow c_took a_kept c_acts c_drawn a_aside c_racer c_raced a_spelled c_spelledMany a_image c_hasImage, k_I E a_tape 320 c_tape]) hP hD rfl
      clear hP hD
      obtain ⟨hP, hD⟩ := h9
      refine lv_goto (tgt := 7) hx hb (dq_167 48 bcX8_readWord_1 (j := 16) (i := -57) rfl rfl rfl) (by decide) ?_
      cases hF
      exact hC (x1 + (1 : Int32)) (c_at + (1 : Int32)) (((((32 : Int64) * c_partWord) + r_8.toInt64) - (97 : Int64)) + (1 : Int64)) rfl H locs ls (hP.sub [0, 1] rfl) (hD.sub [0, 1] (by decide) rfl) hS (lv_sub hl [1, 0] rfl)

set_option maxHeartbeats 4000000 in
set_option maxRecDepth 100000 in
theorem lw_X8_readWord_7 {p : Program} (l : Launch) {e : Env} {s : State} {m : MethodId} {below : List Frame} {meth : Method} {c : Code} {Q : State → Prop} (E : EE) (K : Nat) {a_ a_tape a_readPlace a_script a_scriptLong a_now a_refused a_shareX a_shareY a_askedRow a_kept a_aside a_spelled a_image : Nat} {c_thrown : Int32} {c_taped : Int32} {c_partFrom : Int32} {c_partNumber : Int32} {c_wrong : Int32} {c_readLaw : Int32} {c_readBound : Int32} {c_readGoal : Int32} {c_readSites : Int32} {c_scripts : Int32} {c_sites : Int32} {c_asked : Int32} {c_outcome : Int32} {c_took : Int32} {c_acts : Int32} {c_drawn : Int64} {c_racer : Int32} {c_raced : Int32} {c_spelledMany : Int32} {c_hasImage : Int32} {c_tape : Nat → Int32} {c_part : Int32} (hx : p.tables.exec = Jvm.exec) (hb : c.code = cX8_readWord) (hml : c.maxLocals = 2) (hown : s.vm.findClass RX8 = some m.cls) (hts : ∀ w ∈ v_f_X8_readWord, w.before #[Value.ref a_] s = true) (hK : va_K E.1 vwCl (TY E) s) (hN : NX s) {A : Nat → Prop} (hA : ∀ q : Nat, s.heap.size ≤ q → A q) (j9 : Nat) (x1 : Int32) (c_at : Int32) (c_partWord : Int64) (c_at' : Int32) (c_partWord' : Int64) (hL : lpF (fun u9 : Int32 × Int32 × Int64 => B_X8_readWord_7 c_taped c_tape u9.1 u9.2.1 u9.2.2) j9 (x1, c_at, c_partWord) = some (c_at', c_partWord')) (hX : (∀ (H : Heap) (locs : List Loc) (ls : Array Slot), va_P E.1 vwCl (w_X8_readWord E a_ a_tape a_readPlace a_script a_scriptLong a_now a_refused a_shareX a_shareY a_askedRow a_kept a_aside a_spelled a_image c_thrown c_taped c_at' c_part c_partFrom c_partNumber c_wrong c_partWord' c_readLaw c_readBound c_readGoal c_readSites c_scripts c_sites c_asked c_outcome c_took c_acts c_drawn c_racer c_raced c_spelledMany c_hasImage c_tape) H → va_D A (w_X8_readWord E a_ a_tape a_readPlace a_script a_scriptLong a_now a_refused a_shareX a_shareY a_askedRow a_kept a_aside a_spelled a_image c_thrown c_taped c_at' c_part c_partFrom c_partNumber c_wrong c_partWord' c_readLaw c_readBound c_readGoal c_readSites c_scripts c_sites c_asked c_outcome c_took c_acts c_drawn c_racer c_raced c_spelledMany c_hasImage c_tape) → va_S A s.heap H locs → lv_has ls 2 [(0, .ref a_)] → W p l e ({ frames := 1, cells := 0, slots := 0, locals := 20 } : Room) s m #[Value.ref a_] below meth c H locs 0 0 Q (F0 m 67 ls []))) : ∀ (H : Heap) (locs : List Loc) (ls : Array Slot), va_P E.1 vwCl (w_X8_readWord E a_ a_tape a_readPlace a_script a_scriptLong a_now a_refused a_shareX a_shareY a_askedRow a_kept a_aside a_spelled a_image c_thrown c_taped c_at c_part c_partFrom c_partNumber c_wrong c_partWord c_readLaw c_readBound c_readGoal c_readSites c_scripts c_sites c_asked c_outcome c_took c_acts c_drawn c_racer c_raced c_spelledMany c_hasImage c_tape) H → va_D A (w_X8_readWord E a_ a_tape a_readPlace a_script a_scriptLong a_now a_refused a_shareX a_shareY a_askedRow a_kept a_aside a_spelled a_image c_thrown c_taped c_at c_part c_partFrom c_partNumber c_wrong c_partWord c_readLaw c_readBound c_readGoal c_readSites c_scripts c_sites c_asked c_outcome c_took c_acts c_drawn c_racer c_raced c_spelledMany c_hasImage c_tape) → va_S A s.heap H locs → lv_has ls 2 [(0, .ref a_), (1, .int x1)] → W p l e ({ frames := 1, cells := 0, slots := 0, locals := 20 } : Room) s m #[Value.ref a_] below meth c H locs 0 0 Q (F0 m 7 ls []) := by
  exact lp_rule (P := (fun u9 : Int32 × Int32 × Int64 => ∀ (H : Heap) (locs : List Loc) (ls : Array Slot), va_P E.1 vwCl (w_X8_readWord E a_ a_tape a_readPlace a_script a_scriptLong a_now a_refused a_shareX a_shareY a_askedRow a_kept a_aside a_spelled a_image c_thrown c_taped u9.2.1 c_part c_partFrom c_partNumber c_wrong u9.2.2 c_readLaw c_readBound c_readGoal c_readSites c_scripts c_sites c_asked c_outcome c_took c_acts c_drawn c_racer c_raced c_spelledMany c_hasImage c_tape) H → va_D A (w_X8_readWord E a_ a_tape a_readPlace a_script a_scriptLong a_now a_refused a_shareX a_shareY a_askedRow a_kept a_aside a_spelled a_image c_thrown c_taped u9.2.1 c_part c_partFrom c_partNumber c_wrong u9.2.2 c_readLaw c_readBound c_readGoal c_readSites c_scripts c_sites c_asked c_outcome c_took c_acts c_drawn c_racer c_raced c_spelledMany c_hasImage c_tape) → va_S A s.heap H locs → lv_has ls 2 [(0, .ref a_), (1, .int u9.1)] → W p l e ({ frames := 1, cells := 0, slots := 0, locals := 20 } : Room) s m #[Value.ref a_] below meth c H locs 0 0 Q (F0 m 7 ls []))) (R := (fun r9 : Int32 × Int64 => (∀ (H : Heap) (locs : List Loc) (ls : Array Slot), va_P E.1 vwCl (w_X8_readWord E a_ a_tape a_readPlace a_script a_scriptLong a_now a_refused a_shareX a_shareY a_askedRow a_kept a_aside a_spelled a_image c_thrown c_taped r9.1 c_part c_partFrom c_partNumber c_wrong r9.2 c_readLaw c_readBound c_readGoal c_readSites c_scripts c_sites c_asked c_outcome c_took c_acts c_drawn c_racer c_raced c_spelledMany c_hasImage c_tape) H → va_D A (w_X8_readWord E a_ a_tape a_readPlace a_script a_scriptLong a_now a_refused a_shareX a_shareY a_askedRow a_kept a_aside a_spelled a_image c_thrown c_taped r9.1 c_part c_partFrom c_partNumber c_wrong r9.2 c_readLaw c_readBound c_readGoal c_readSites c_scripts c_sites c_asked c_outcome c_took c_acts c_drawn c_racer c_raced c_spelledMany c_hasImage c_tape) → va_S A s.heap H locs → lv_has ls 2 [(0, .ref a_)] → W p l e ({ frames := 1, cells := 0, slots := 0, locals := 20 } : Room) s m #[Value.ref a_] below meth c H locs 0 0 Q (F0 m 67 ls [])))) (fun u9 xx hF hC hE => wb_X8_readWord_7 l E K (c_thrown := c_thrown) (c_taped := c_taped) (c_partFrom := c_partFrom) (c_partNumber := c_partNumber) (c_wrong := c_wrong) (c_readLaw := c_readLaw) (c_readBound := c_readBound) (c_readGoal := c_readGoal) (c_readSites := c_readSites) (c_scripts := c_scripts) (c_sites := c_sites) (c_asked := c_asked) (c_outcome := c_outcome) (c_took := c_took) (c_acts := c_acts) (c_drawn := c_drawn) (c_racer := c_racer) (c_raced := c_raced) (c_spelledMany := c_spelledMany) (c_hasImage := c_hasImage) (c_tape := c_tape) (x1 := u9.1) (c_at := u9.2.1) (c_part := c_part) (c_partWord := u9.2.2) hx hb hml hown hts hK hN hA (fun x1 c_at c_partWord q9 => hC _ q9) (fun c_at c_partWord q9 => hE _ q9) hF) j9 (x1, c_at, c_partWord) (c_at', c_partWord') hL hX

set_option maxHeartbeats 4000000 in
set_option maxRecDepth 100000 in
theorem f_X8_readWord (l : Launch) (E : EE) (sz : Nat) (K : Nat) {a_ a_tape a_readPlace a_script a_scriptLong a_now a_refused a_shareX a_shareY a_askedRow a_kept a_aside a_spelled a_image : Nat} {c_thrown : Int32} {c_taped : Int32} {c_at : Int32} {c_part : Int32} {c_partFrom : Int32} {c_partNumber : Int32} {c_wrong : Int32} {c_partWord : Int64} {c_readLaw : Int32} {c_readBound : Int32} {c_readGoal : Int32} {c_readSites : Int32} {c_scripts : Int32} {c_sites : Int32} {c_asked : Int32} {c_outcome : Int32} {c_took : Int32} {c_acts : Int32} {c_drawn : Int64} {c_racer : Int32} {c_raced : Int32} {c_spelledMany : Int32} {c_hasImage : Int32} {c_tape : Nat → Int32} {n_at : Int32} {n_part : Int32} {n_partWord : Int64} (hF : F_X8_readWord K c_tape c_taped c_at c_part c_partWord = some (n_at, n_part, n_partWord)) : Met l yX8_readWord v_f_X8_readWord (({ frames := 1, cells := 0, slots := 0, locals := 20 } : Room)) (va_Pc [.ref a_] (pW E sz (w_X8_readWord E a_ a_tape a_readPlace a_script a_scriptLong a_now a_refused a_shareX a_shareY a_askedRow a_kept a_aside a_spelled a_image c_thrown c_taped c_at c_part c_partFrom c_partNumber c_wrong c_partWord c_readLaw c_readBound c_readGoal c_readSites c_scripts c_sites c_asked c_outcome c_took c_acts c_drawn c_racer c_raced c_spelledMany c_hasImage c_tape))) (va_Qv (fun (_u : Unit) => True) (fun (_u : Unit) tt => va_P E.1 vwCl (w_X8_readWord E a_ a_tape a_readPlace a_script a_scriptLong a_now a_refused a_shareX a_shareY a_askedRow a_kept a_aside a_spelled a_image c_thrown c_taped n_at n_part c_partFrom c_partNumber c_wrong n_partWord c_readLaw c_readBound c_readGoal c_readSites c_scripts c_sites c_asked c_outcome c_took c_acts c_drawn c_racer c_raced c_spelledMany c_hasImage c_tape) tt.heap ∧ va_D (va_A (w_X8_readWord E a_ a_tape a_readPlace a_script a_scriptLong a_now a_refused a_shareX a_shareY a_askedRow a_kept a_aside a_spelled a_image c_thrown c_taped c_at c_part c_partFrom c_partNumber c_wrong c_partWord c_readLaw c_readBound c_readGoal c_readSites c_scripts c_sites c_asked c_outcome c_took c_acts c_drawn c_racer c_raced c_spelledMany c_hasImage c_tape) sz) (w_X8_readWord E a_ a_tape a_readPlace a_script a_scriptLong a_now a_refused a_shareX a_shareY a_askedRow a_kept a_aside a_spelled a_image c_thrown c_taped n_at n_part c_partFrom c_partNumber c_wrong n_partWord c_readLaw c_readBound c_readGoal c_readSites c_scripts c_sites c_asked c_outcome c_took c_acts c_drawn c_racer c_raced c_spelledMany c_hasImage c_tape)) (va_A (w_X8_readWord E a_ a_tape a_readPlace a_script a_scriptLong a_now a_refused a_shareX a_shareY a_askedRow a_kept a_aside a_spelled a_image c_thrown c_taped c_at c_part c_partFrom c_partNumber c_wrong c_partWord c_readLaw c_readBound c_readGoal c_readSites c_scripts c_sites c_asked c_outcome c_took c_acts c_drawn c_racer c_raced c_spelledMany c_hasImage c_tape) sz)) 0 0 (va_A (w_X8_readWord E a_ a_tape a_readPlace a_script a_scriptLong a_now a_refused a_shareX a_shareY a_askedRow a_kept a_aside a_spelled a_image c_thrown c_taped c_at c_part c_partFrom c_partNumber c_wrong c_partWord c_readLaw c_readBound c_readGoal c_readSites c_scripts c_sites c_asked c_outcome c_took c_acts c_drawn c_racer c_raced c_spelledMany c_hasImage c_tape) sz) := by
  refine Met.ofW (cc := cX8_readWord) (maxL := 2) (ret := none) (by decide) rfl ?_
  intro p e s m args below meth c s₁ B hml hv
  obtain ⟨rfl, hsz, ⟨hK, hN⟩, hP, hD0⟩ := hv
  have hx := B.exec
  have hb := B.bytes
  have hr := B.returns
  have hts := atoms_spec (ws := v_f_X8_readWord) B.pre
  have hown : s.vm.findClass RX8 = some m.cls := own_of hd_X8_readWord.1 (findClass_of_methodNamed B.named)
  have hlocks : meth.locks = false := B.notSynchronized
  subst hsz
  have hD := hD0.self (sz := s.heap.size)
  generalize hAe : va_A (w_X8_readWord E a_ a_tape a_readPlace a_script a_scriptLong a_now a_refused a_shareX a_shareY a_askedRow a_kept a_aside a_spelled a_image c_thrown c_taped c_at c_part c_partFrom c_partNumber c_wrong c_partWord c_readLaw c_readBound c_readGoal c_readSites c_scripts c_sites c_asked c_outcome c_took c_acts c_drawn c_racer c_raced c_spelledMany c_hasImage c_tape) s.heap.size = A at hD ⊢
  have hA : ∀ q : Nat, s.heap.size ≤ q → A q := fun q h => by rw [← hAe]; exact Or.inr h
  have hS : va_S A s.heap s.heap [] := va_S.rf
  have hl := lv_entry ([.ref a_]) (n := 2) (Nat.le_of_ble_eq_true rfl)
  rw [lg_entry_eq]
  generalize (lg_sl ([.ref a_]) ++ List.replicate (2 - (lg_sl ([.ref a_])).length) Slot.unset).toArray = ls at hl ⊢
  have hl : lv_has ls 2 [(0, .ref a_)] := hl
  obtain ⟨Q, hQ⟩ : ∃ Q : State → Prop, Q = MQ below (va_Qv (fun (_u : Unit) => True) (fun (_u : Unit) tt => va_P E.1 vwCl (w_X8_readWord E a_ a_tape a_readPlace a_script a_scriptLong a_now a_refused a_shareX a_shareY a_askedRow a_kept a_aside a_spelled a_image c_thrown c_taped n_at n_part c_partFrom c_partNumber c_wrong n_partWord c_readLaw c_readBound c_readGoal c_readSites c_scripts c_sites c_asked c_outcome c_took c_acts c_drawn c_racer c_raced c_spelledMany c_hasImage c_tape) tt.heap ∧ va_D A (w_X8_readWord E a_ a_tape a_readPlace a_script a_scriptLong a_now a_refused a_shareX a_shareY a_askedRow a_kept a_aside a_spelled a_image c_thrown c_taped n_at n_part c_partFrom c_partNumber c_wrong n_partWord c_readLaw c_readBound c_readGoal c_readSites c_scripts c_sites c_asked c_outcome c_took c_acts c_drawn c_racer c_raced c_spelledMany c_hasImage c_tape)) A) #[Value.ref a_] s 0 0 A := ⟨_, rfl⟩
  rw [← hQ]
  change W p l e ({ frames := 1, cells := 0, slots := 0, locals := 20 } : Room) s m #[Value.ref a_] below meth c s.heap [] 0 0 Q (F0 m 0 ls [])
  suffices hh9 : ∀ (H : Heap) (locs : List Loc), va_P E.1 vwCl (w_X8_readWord E a_ a_tape a_readPlace a_script a_scriptLong a_now a_refused a_shareX a_shareY a_askedRow a_kept a_aside a_spelled a_image c_thrown c_taped c_at c_part c_partFrom c_partNumber c_wrong c_partWord c_readLaw c_readBound c_readGoal c_readSites c_scripts c_sites c_asked c_outcome c_took c_acts c_drawn c_racer c_raced c_spelledMany c_hasImage c_tape) H → va_D A (w_X8_readWord E a_ a_tape a_readPlace a_script a_scriptLong a_now a_refused a_shareX a_shareY a_askedRow a_kept a_aside a_spelled a_image c_thrown c_taped c_at c_part c_partFrom c_partNumber c_wrong c_partWord c_readLaw c_readBound c_readGoal c_readSites c_scripts c_sites c_asked c_outcome c_took c_acts c_drawn c_racer c_raced c_spelledMany c_hasImage c_tape) → va_S A s.heap H locs → W p l e ({ frames := 1, cells := 0, slots := 0, locals := 20 } : Room) s m #[Value.ref a_] below meth c H locs 0 0 Q (F0 m 0 ls []) from hh9 s.heap [] hP hD hS
  clear hP hD hS
  intro H locs hP hD hS
  have h9 := fixPD (ws' := [k_X8 a_ c_thrown a_tape c_taped c_at c_part c_partFrom c_partNumber c_wrong c_partWord c_readLaw c_readBound c_readGoal c_readSites a_readPlace a_script a_scriptLong c_scripts a_now a_refused c_sites a_shareX a_shareY c_asked c_outcome a_askedRow c_took a_kept c_acts c_drawn a_aside c_racer c_raced a_spelled c_spelledMany a_image c_hasImage, k_I E a_tape 320 c_tape]) hP hD rfl
  clear hP hD
  obtain ⟨hP, hD⟩ := h9
  unfold F_X8_readWord at hF
  refine lv_aload_n hx hb (dq_42 0 bcX8_readWord_0 (j := 0) rfl rfl) rfl (lv_at hl 0 rfl) ?_
  refine lv_lconst (v := 0) hx hb (dq_9 0 bcX8_readWord_0 (j := 1) rfl rfl) (by decide) ?_
  refine pt_X8_8 (v := .long (0 : Int64)) hx hb hts i_f_X8_readWord_X8 hown hK hP hD hS 0 rfl (hts (.fieldLink RX8 67 "HushWatchModel" "partWord" "J") (List.mem_of_getElem? (i := 1) rfl)) rfl rfl (Nat.le_of_ble_eq_true rfl) (dq_181 0 bcX8_readWord_0 (j := 2) (i := 67) rfl rfl rfl) (fun H locs hP hD hS => ?_)
  have h9 := fixPD (ws' := [k_X8 a_ c_thrown a_tape c_taped c_at c_part c_partFrom c_partNumber c_wrong (0 : Int64) c_readLaw c_readBound c_readGoal c_readSites a_readPlace a_script a_scriptLong c_scripts a_now a_refused c_sites a_shareX a_shareY c_asked c_outcome a_askedRow c_took a_kept c_acts c_drawn a_aside c_racer c_raced a_spelled c_spelledMany a_image c_hasImage, k_I E a_tape 320 c_tape]) hP hD rfl
  clear hP hD
  obtain ⟨hP, hD⟩ := h9
  refine lv_iconst (v := 0) hx hb (dq_3 0 bcX8_readWord_0 (j := 5) rfl rfl) (by decide) ?_
  refine lv_istore_n (lv' := [(1, .int (0 : Int32)), (0, .ref a_)]) hx hb (dq_60 0 bcX8_readWord_0 (j := 6) rfl rfl) rfl hl (by decide) rfl (fun ls hl => ?_)
  replace hF := bd2_s hF
  obtain ⟨c_at_10, c_partWord_11, hL_12, hF⟩ := hF
  refine lw_X8_readWord_7 l E K (c_thrown := c_thrown) (c_taped := c_taped) (c_partFrom := c_partFrom) (c_partNumber := c_partNumber) (c_wrong := c_wrong) (c_readLaw := c_readLaw) (c_readBound := c_readBound) (c_readGoal := c_readGoal) (c_readSites := c_readSites) (c_scripts := c_scripts) (c_sites := c_sites) (c_asked := c_asked) (c_outcome := c_outcome) (c_took := c_took) (c_acts := c_acts) (c_drawn := c_drawn) (c_racer := c_racer) (c_raced := c_raced) (c_spelledMany := c_spelledMany) (c_hasImage := c_hasImage) (c_tape := c_tape) (c_part := c_part) hx hb hml hown hts hK hN hA K (0 : Int32) c_at (0 : Int64) c_at_10 c_partWord_11 hL_12 ?_ H locs ls (hP.sub [0, 1] rfl) (hD.sub [0, 1] (by decide) rfl) hS (lv_sub hl [1, 0] rfl)
  ·
    intro H locs ls hP hD hS hl
    have h9 := fixPD (ws' := [k_X8 a_ c_thrown a_tape c_taped c_at_10 c_part c_partFrom c_partNumber c_wrong c_partWord_11 c_readLaw c_readBound c_readGoal c_readSites a_readPlace a_script a_scriptLong c_scripts a_now a_refused c_sites a_shareX a_shareY c_asked c_outcome a_askedRow c_took a_kept c_acts c_drawn a_aside c_racer c_raced a_spelled c_spelledMany a_image c_hasImage, k_I E a_tape 320 c_tape]) hP hD rfl
    clear hP hD
    obtain ⟨hP, hD⟩ := h9
    refine lv_aload_n hx hb (dq_42 48 bcX8_readWord_1 (j := 19) rfl rfl) rfl (lv_at hl 0 rfl) ?_
    refine lv_iconst (v := 1) hx hb (dq_4 48 bcX8_readWord_1 (j := 20) rfl rfl) (by decide) ?_
    refine pt_X8_4 (v := .int (1 : Int32)) hx hb hts i_f_X8_readWord_X8 hown hK hP hD hS 0 rfl (hts (.fieldLink RX8 83 "HushWatchModel" "part" "I") (List.mem_of_getElem? (i := 5) rfl)) rfl rfl (Nat.le_of_ble_eq_true rfl) (dq_181 48 bcX8_readWord_1 (j := 21) (i := 83) rfl rfl rfl) (fun H locs hP hD hS => ?_)
    have h9 := fixPD (ws' := [k_X8 a_ c_thrown a_tape c_taped c_at_10 (1 : Int32) c_partFrom c_partNumber c_wrong c_partWord_11 c_readLaw c_readBound c_readGoal c_readSites a_readPlace a_script a_scriptLong c_scripts a_now a_refused c_sites a_shareX a_shareY c_asked c_outcome a_askedRow c_took a_kept c_acts c_drawn a_aside c_racer c_raced a_spelled c_spelledMany a_image c_hasImage, k_I E a_tape 320 c_tape]) hP hD rfl
    clear hP hD
    obtain ⟨hP, hD⟩ := h9
    rw [hQ]
    have h9 := fin9 (P := fun u9 : Int32 × Int32 × Int64 => va_P E.1 vwCl (w_X8_readWord E a_ a_tape a_readPlace a_script a_scriptLong a_now a_refused a_shareX a_shareY a_askedRow a_kept a_aside a_spelled a_image c_thrown c_taped u9.1 u9.2.1 c_partFrom c_partNumber c_wrong u9.2.2 c_readLaw c_readBound c_readGoal c_readSites c_scripts c_sites c_asked c_outcome c_took c_acts c_drawn c_racer c_raced c_spelledMany c_hasImage c_tape) H ∧ va_D A (w_X8_readWord E a_ a_tape a_readPlace a_script a_scriptLong a_now a_refused a_shareX a_shareY a_askedRow a_kept a_aside a_spelled a_image c_thrown c_taped u9.1 u9.2.1 c_partFrom c_partNumber c_wrong u9.2.2 c_readLaw c_readBound c_readGoal c_readSites c_scripts c_sites c_asked c_outcome c_took c_acts c_drawn c_racer c_raced c_spelledMany c_hasImage c_tape)) hF ⟨hP, hD⟩
    obtain ⟨hP9, hD9⟩ := h9
    exact W.vret hx hb hr (fun tt ht hW => ⟨⟨(), rfl, trivial, ht ▸ hP9, hD9⟩, hS.F ht⟩) hS.2.2 (dq_177 48 bcX8_readWord_1 (j := 24) rfl rfl)

def F_X8_isDigit (p0 : Int32) : Option (Int32) :=
  if p0 < (48 : Int32) then some (0 : Int32) else if (57 : Int32) < p0 then some (0 : Int32) else some (1 : Int32)

def v_f_X8_isDigit : List Cond := List.cons (.code yX8_isDigit cX8_isDigit 1 (some .boolean)) (HAppend.hAppend (α := List Cond) (β := List Cond) (γ := List Cond) [] [])
theorem gw_f_X8_isDigit : v_f_X8_isDigit.all goodWord = true := gw_c2 (by decide +kernel) gw_nil
theorem hd_X8_isDigit : yX8_isDigit.cls = RX8 ∧ yX8_isDigit.cls ≠ "java/lang/invoke/MethodHandle" ∧ yX8_isDigit.cls ≠ "java/lang/invoke/VarHandle" ∧ (parseMethodDescriptor yX8_isDigit.desc).map (fun d => d.parameters.length) = some 1 := by decide +kernel
set_option maxHeartbeats 4000000 in
set_option maxRecDepth 100000 in
theorem f_X8_isDigit (l : Launch) (E : EE) {p0 : Int32} {rr : Int32} (hF : F_X8_isDigit p0 = some rr) : Met l yX8_isDigit v_f_X8_isDigit (({ frames := 0, cells := 0, slots := 0, locals := 0 } : Room)) (va_Pc [.int p0] (pP E [])) (vp_Si (fun q : Int32 => q = rr ∧ (q = 0 ∨ q = 1))) 0 0 (fun _ => False) := by
  refine Met.ofW (cc := cX8_isDigit) (maxL := 1) (ret := (some .boolean)) (by decide) rfl ?_
  intro p e s m args below meth c s₁ B hml hv
  obtain ⟨rfl, ⟨hK, hN⟩, hP⟩ := hv
  have hx := B.exec
  have hb := B.bytes
  have hr := B.returns
  have hts := atoms_spec (ws := v_f_X8_isDigit) B.pre
  have hown : s.vm.findClass RX8 = some m.cls := own_of hd_X8_isDigit.1 (findClass_of_methodNamed B.named)
  have hlocks : meth.locks = false := B.notSynchronized
  replace hP : va_P E.1 vwCl [] s.heap := hP
  have hl := lv_entry ([.int p0]) (n := 1) (Nat.le_of_ble_eq_true rfl)
  rw [lg_entry_eq]
  generalize (lg_sl ([.int p0]) ++ List.replicate (1 - (lg_sl ([.int p0])).length) Slot.unset).toArray = ls at hl ⊢
  have hl : lv_has ls 1 [(0, .int p0)] := hl
  obtain ⟨Q, hQ⟩ : ∃ Q : State → Prop, Q = MQ below (vp_Si (fun q : Int32 => q = rr ∧ (q = 0 ∨ q = 1))) #[Value.int p0] s 0 0 (fun _ => False) := ⟨_, rfl⟩
  rw [← hQ]
  change W p l e ({ frames := 0, cells := 0, slots := 0, locals := 0 } : Room) s m #[Value.int p0] below meth c s.heap [] 0 0 Q (F0 m 0 ls [])
  unfold F_X8_isDigit at hF
  refine lv_iload_n hx hb (dq_26 0 bcX8_isDigit_0 (j := 0) rfl rfl) rfl (lv_at hl 0 rfl) ?_
  refine lv_bipush (v := 48) hx hb (dq_16 0 bcX8_isDigit_0 (j := 1) (i := 48) rfl rfl rfl) (by decide) ?_
  refine lv_icmp_lt (tgt := 16) hx hb (dq_161 0 bcX8_isDigit_0 (j := 3) (i := 13) rfl rfl rfl) (by decide) (fun c_1 => ?_) (fun c_1 => ?_)
  ·
    replace hF := ip c_1 hF
    refine lv_iconst (v := 0) hx hb (dq_3 0 bcX8_isDigit_0 (j := 16) rfl rfl) (by decide) ?_
    rw [hQ]
    obtain e9_0 := inj1 hF
    exact W.zret (v := (0 : Int32)) hx hb hr rfl (fun tt ht hW => ⟨_, rfl, ⟨e9_0, Or.inl rfl⟩, ht⟩) (fun _ h => by cases h) (dq_172 0 bcX8_isDigit_0 (j := 17) rfl rfl)
  ·
    replace hF := inn c_1 hF
    refine lv_iload_n hx hb (dq_26 0 bcX8_isDigit_0 (j := 6) rfl rfl) rfl (lv_at hl 0 rfl) ?_
    refine lv_bipush (v := 57) hx hb (dq_16 0 bcX8_isDigit_0 (j := 7) (i := 57) rfl rfl rfl) (by decide) ?_
    refine lv_icmp_gt (tgt := 16) hx hb (dq_163 0 bcX8_isDigit_0 (j := 9) (i := 7) rfl rfl rfl) (by decide) (fun c_2 => ?_) (fun c_2 => ?_)
    ·
      replace hF := ip c_2 hF
      refine lv_iconst (v := 0) hx hb (dq_3 0 bcX8_isDigit_0 (j := 16) rfl rfl) (by decide) ?_
      rw [hQ]
      obtain e9_0 := inj1 hF
      exact W.zret (v := (0 : Int32)) hx hb hr rfl (fun tt ht hW => ⟨_, rfl, ⟨e9_0, Or.inl rfl⟩, ht⟩) (fun _ h => by cases h) (dq_172 0 bcX8_isDigit_0 (j := 17) rfl rfl)
    ·
      replace hF := inn c_2 hF
      refine lv_iconst (v := 1) hx hb (dq_4 0 bcX8_isDigit_0 (j := 12) rfl rfl) (by decide) ?_
      refine lv_goto (tgt := 17) hx hb (dq_167 0 bcX8_isDigit_0 (j := 13) (i := 4) rfl rfl rfl) (by decide) ?_
      rw [hQ]
      obtain e9_0 := inj1 hF
      exact W.zret (v := (1 : Int32)) hx hb hr rfl (fun tt ht hW => ⟨_, rfl, ⟨e9_0, Or.inr rfl⟩, ht⟩) (fun _ h => by cases h) (dq_172 0 bcX8_isDigit_0 (j := 17) rfl rfl)
