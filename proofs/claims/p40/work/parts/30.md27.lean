noncomputable def blX8_status_0 : List Nat := [27, 133, 9, 20, 1, 117, 184, 0, 60, 153, 0, 12, 42, 180, 0, 25, 27, 46, 167, 0, 4, 2, 172]
set_option maxRecDepth 100000 in
theorem bcX8_status_0 : ((cX8_status.data.toList.drop 0).take blX8_status_0.length).map UInt8.toNat = blX8_status_0 := by decide +kernel
noncomputable def blX8_step__0 : List Nat := [42, 27, 182, 1, 176, 153, 0, 51, 28, 133, 9, 42, 180, 0, 19, 27, 46, 4, 100, 133, 184, 0, 60, 153, 0, 33, 29, 133, 9, 20, 1, 119, 184, 0, 60, 153, 0, 21, 42, 180, 0, 16, 7, 16, 12, 27, 104, 28, 96, 104, 29]
set_option maxRecDepth 100000 in
theorem bcX8_step__0 : ((cX8_step_.data.toList.drop 0).take blX8_step__0.length).map UInt8.toNat = blX8_step__0 := by decide +kernel
noncomputable def blX8_step__1 : List Nat := [96, 104, 29, 96, 46, 167, 0, 5, 18, 182, 172]
set_option maxRecDepth 100000 in
theorem bcX8_step__1 : ((cX8_step_.data.toList.drop 48).take blX8_step__1.length).map UInt8.toNat = blX8_step__1 := by decide +kernel
noncomputable def blX8_sync_0 : List Nat := [42, 2, 4, 3, 3, 3, 182, 1, 94, 172]
set_option maxRecDepth 100000 in
theorem bcX8_sync_0 : ((cX8_sync.data.toList.drop 0).take blX8_sync_0.length).map UInt8.toNat = blX8_sync_0 := by decide +kernel
noncomputable def blX8_takeWatch_0 : List Nat := [42, 42, 180, 0, 120, 181, 0, 196, 3, 60, 27, 17, 1, 9, 162, 0, 16, 42, 180, 0, 22, 27, 3, 79, 132, 1, 1, 167, 255, 239, 3, 60, 27, 42, 180, 0, 196, 162, 0, 79, 42, 180, 0, 22, 3, 27, 96, 42, 180, 0, 13]
set_option maxRecDepth 100000 in
theorem bcX8_takeWatch_0 : ((cX8_takeWatch.data.toList.drop 0).take blX8_takeWatch_0.length).map UInt8.toNat = blX8_takeWatch_0 := by decide +kernel
noncomputable def blX8_takeWatch_1 : List Nat := [180, 0, 13, 5, 27, 104, 46, 79, 42, 180, 0, 22, 16, 8, 27, 96, 42, 180, 0, 13, 5, 27, 104, 4, 96, 46, 79, 42, 180, 0, 22, 16, 16, 27, 96, 42, 180, 0, 22, 3, 27, 96, 46, 79, 42, 180, 0, 22, 16, 24, 27]
set_option maxRecDepth 100000 in
theorem bcX8_takeWatch_1 : ((cX8_takeWatch.data.toList.drop 48).take blX8_takeWatch_1.length).map UInt8.toNat = blX8_takeWatch_1 := by decide +kernel
noncomputable def blX8_takeWatch_2 : List Nat := [16, 24, 27, 96, 42, 180, 0, 22, 16, 8, 27, 96, 46, 79, 132, 1, 1, 167, 255, 175, 42, 180, 0, 22, 16, 64, 42, 180, 0, 149, 79, 42, 180, 0, 22, 16, 65, 42, 180, 0, 154, 79, 42, 180, 0, 22, 16, 66, 42, 180, 0]
set_option maxRecDepth 100000 in
theorem bcX8_takeWatch_2 : ((cX8_takeWatch.data.toList.drop 96).take blX8_takeWatch_2.length).map UInt8.toNat = blX8_takeWatch_2 := by decide +kernel
noncomputable def blX8_takeWatch_3 : List Nat := [42, 180, 0, 157, 79, 42, 180, 0, 22, 16, 72, 42, 42, 16, 16, 182, 0, 199, 42, 16, 24, 182, 0, 199, 182, 0, 202, 153, 0, 7, 3, 167, 0, 4, 4, 79, 42, 3, 181, 0, 205, 42, 3, 181, 0, 208, 42, 180, 0, 196, 172]
set_option maxRecDepth 100000 in
theorem bcX8_takeWatch_3 : ((cX8_takeWatch.data.toList.drop 144).take blX8_takeWatch_3.length).map UInt8.toNat = blX8_takeWatch_3 := by decide +kernel
noncomputable def blX8_takeWatch_4 : List Nat := [0, 196, 172]
set_option maxRecDepth 100000 in
theorem bcX8_takeWatch_4 : ((cX8_takeWatch.data.toList.drop 192).take blX8_takeWatch_4.length).map UInt8.toNat = blX8_takeWatch_4 := by decide +kernel
noncomputable def blX8_tells_0 : List Nat := [42, 182, 1, 43, 153, 0, 44, 27, 133, 20, 1, 123, 20, 1, 125, 184, 0, 60, 153, 0, 30, 28, 133, 20, 1, 123, 20, 1, 125, 184, 0, 60, 153, 0, 16, 42, 27, 28, 182, 0, 202, 153, 0, 7, 4, 167, 0, 4, 3, 172]
set_option maxRecDepth 100000 in
theorem bcX8_tells_0 : ((cX8_tells.data.toList.drop 0).take blX8_tells_0.length).map UInt8.toNat = blX8_tells_0 := by decide +kernel
noncomputable def blX8_tells_1 : List Nat := [3, 172]
set_option maxRecDepth 100000 in
theorem bcX8_tells_1 : ((cX8_tells.data.toList.drop 48).take blX8_tells_1.length).map UInt8.toNat = blX8_tells_1 := by decide +kernel

def F_X8_status (p1 : Int32) (c_refused : Nat → Int32) : Option (Int32) :=
  bd1 (F_X8_in p1.toInt64 (0 : Int64) (2 : Int64)) (fun r_1 => if r_1 = (0 : Int32) then some (-1 : Int32) else ixF p1 3 (some (c_refused p1.toNatClampNeg)))
abbrev w_X8_status (E : EE) (a_ a_tape a_readPlace a_script a_scriptLong a_now a_refused a_shareX a_shareY a_askedRow a_kept a_aside a_spelled a_image : Nat) (c_thrown : Int32) (c_taped : Int32) (c_at : Int32) (c_part : Int32) (c_partFrom : Int32) (c_partNumber : Int32) (c_wrong : Int32) (c_partWord : Int64) (c_readLaw : Int32) (c_readBound : Int32) (c_readGoal : Int32) (c_readSites : Int32) (c_scripts : Int32) (c_sites : Int32) (c_asked : Int32) (c_outcome : Int32) (c_took : Int32) (c_acts : Int32) (c_drawn : Int64) (c_racer : Int32) (c_raced : Int32) (c_spelledMany : Int32) (c_hasImage : Int32) (c_refused : Nat → Int32) : va_W := [k_X8 a_ c_thrown a_tape c_taped c_at c_part c_partFrom c_partNumber c_wrong c_partWord c_readLaw c_readBound c_readGoal c_readSites a_readPlace a_script a_scriptLong c_scripts a_now a_refused c_sites a_shareX a_shareY c_asked c_outcome a_askedRow c_took a_kept c_acts c_drawn a_aside c_racer c_raced a_spelled c_spelledMany a_image c_hasImage, k_I E a_refused 3 c_refused]
def v_f_X8_status : List Cond := List.cons (.code yX8_status cX8_status 2 (some .int)) (HAppend.hAppend (α := List Cond) (β := List Cond) (γ := List Cond) [.constantLong RX8 373 (2), .fieldLink RX8 25 "HushWatchModel" "refused" "[I", .methodLink RX8 60 yX8_in, .static yX8_in, .initialized RX8] (HAppend.hAppend (α := List Cond) (β := List Cond) (γ := List Cond) v_f_X8_in (HAppend.hAppend (α := List Cond) (β := List Cond) (γ := List Cond) wsX80 [])))
theorem gw_f_X8_status : v_f_X8_status.all goodWord = true := gw_c2 (by decide +kernel) (gw_ap gw_f_X8_in (gw_ap gw_wsX80 gw_nil))
theorem i_f_X8_status_X8 : ∀ w ∈ wsX80, w ∈ v_f_X8_status := fun _ h => List.mem_cons_of_mem _ (List.mem_append_right _ (List.mem_append_right _ (List.mem_append_left _ h)))
theorem g_f_X8_status_f_X8_in_60 : GoodIn v_f_X8_status (va_wsS RX8 60 yX8_in v_f_X8_in) := goodIn_in gw_f_X8_status (in3 3 4 5 rfl rfl rfl (fun _ h => List.mem_cons_of_mem _ (List.mem_append_right _ (List.mem_append_left _ h))))
theorem hd_X8_status : yX8_status.cls = RX8 ∧ yX8_status.cls ≠ "java/lang/invoke/MethodHandle" ∧ yX8_status.cls ≠ "java/lang/invoke/VarHandle" ∧ (parseMethodDescriptor yX8_status.desc).map (fun d => d.parameters.length) = some 1 := by decide +kernel
set_option maxHeartbeats 4000000 in
set_option maxRecDepth 100000 in
theorem f_X8_status (l : Launch) (E : EE) {a_ a_tape a_readPlace a_script a_scriptLong a_now a_refused a_shareX a_shareY a_askedRow a_kept a_aside a_spelled a_image : Nat} {p1 : Int32} {c_thrown : Int32} {c_taped : Int32} {c_at : Int32} {c_part : Int32} {c_partFrom : Int32} {c_partNumber : Int32} {c_wrong : Int32} {c_partWord : Int64} {c_readLaw : Int32} {c_readBound : Int32} {c_readGoal : Int32} {c_readSites : Int32} {c_scripts : Int32} {c_sites : Int32} {c_asked : Int32} {c_outcome : Int32} {c_took : Int32} {c_acts : Int32} {c_drawn : Int64} {c_racer : Int32} {c_raced : Int32} {c_spelledMany : Int32} {c_hasImage : Int32} {c_refused : Nat → Int32} {rr : Int32} (hF : F_X8_status p1 c_refused = some rr) : Met l yX8_status v_f_X8_status (({ frames := 1, cells := 0, slots := 0, locals := 25 } : Room)) (va_Pc [.ref a_, .int p1] (pP E (w_X8_status E a_ a_tape a_readPlace a_script a_scriptLong a_now a_refused a_shareX a_shareY a_askedRow a_kept a_aside a_spelled a_image c_thrown c_taped c_at c_part c_partFrom c_partNumber c_wrong c_partWord c_readLaw c_readBound c_readGoal c_readSites c_scripts c_sites c_asked c_outcome c_took c_acts c_drawn c_racer c_raced c_spelledMany c_hasImage c_refused))) (vp_Si (fun q : Int32 => q = rr)) 0 0 (fun _ => False) := by
  refine Met.ofW (cc := cX8_status) (maxL := 2) (ret := (some .int)) (by decide) rfl ?_
  intro p e s m args below meth c s₁ B hml hv
  obtain ⟨rfl, ⟨hK, hN⟩, hP⟩ := hv
  have hx := B.exec
  have hb := B.bytes
  have hr := B.returns
  have hts := atoms_spec (ws := v_f_X8_status) B.pre
  have hown : s.vm.findClass RX8 = some m.cls := own_of hd_X8_status.1 (findClass_of_methodNamed B.named)
  have hlocks : meth.locks = false := B.notSynchronized
  replace hP : va_P E.1 vwCl [k_X8 a_ c_thrown a_tape c_taped c_at c_part c_partFrom c_partNumber c_wrong c_partWord c_readLaw c_readBound c_readGoal c_readSites a_readPlace a_script a_scriptLong c_scripts a_now a_refused c_sites a_shareX a_shareY c_asked c_outcome a_askedRow c_took a_kept c_acts c_drawn a_aside c_racer c_raced a_spelled c_spelledMany a_image c_hasImage, k_I E a_refused 3 c_refused] s.heap := hP
  have hl := lv_entry ([.ref a_, .int p1]) (n := 2) (Nat.le_of_ble_eq_true rfl)
  rw [lg_entry_eq]
  generalize (lg_sl ([.ref a_, .int p1]) ++ List.replicate (2 - (lg_sl ([.ref a_, .int p1])).length) Slot.unset).toArray = ls at hl ⊢
  have hl : lv_has ls 2 [(0, .ref a_), (1, .int p1)] := hl
  obtain ⟨Q, hQ⟩ : ∃ Q : State → Prop, Q = MQ below (vp_Si (fun q : Int32 => q = rr)) #[Value.ref a_, Value.int p1] s 0 0 (fun _ => False) := ⟨_, rfl⟩
  rw [← hQ]
  change W p l e ({ frames := 1, cells := 0, slots := 0, locals := 25 } : Room) s m #[Value.ref a_, Value.int p1] below meth c s.heap [] 0 0 Q (F0 m 0 ls [])
  unfold F_X8_status at hF
  refine lv_iload_n hx hb (dq_27 0 bcX8_status_0 (j := 0) rfl rfl) rfl (lv_at hl 1 rfl) ?_
  refine lv_i2l (v := p1.toInt64) hx hb (dq_133 0 bcX8_status_0 (j := 1) rfl rfl) rfl ?_
  refine lv_lconst (v := 0) hx hb (dq_9 0 bcX8_status_0 (j := 2) rfl rfl) (by decide) ?_
  refine lv_ldc2 (v := 2) hx hb hown (hts (.constantLong RX8 373 (2)) (List.mem_of_getElem? (i := 1) rfl)) (dq_20 0 bcX8_status_0 (j := 3) (i := 373) rfl rfl rfl) ?_
  replace hF := bd1_s hF
  obtain ⟨r_1, hc_2, hF⟩ := hF
  have hPc : va_P E.1 vwCl [] s.heap := fun k q h => by simp at h
  refine pE_z (va_runS (As := [.long p1.toInt64, .long (0 : Int64), .long (2 : Int64)]) (rest := [])  ⟨hx, hb, hml, hown, hts⟩ (f_X8_in l E (p0 := p1.toInt64) (p1 := (0 : Int64)) (p2 := (2 : Int64)) hc_2) (va_cwS 3 hts g_f_X8_status_f_X8_in_60 rfl rfl rfl hd_X8_in.2 ⟨Nat.le_of_ble_eq_true rfl, Nat.le_of_ble_eq_true rfl⟩) ⟨pP.blind, (pP.pre ⟨hK, hN⟩ hPc)⟩ rfl rfl hl.1 rfl (lv_room (Nat.le_of_ble_eq_true rfl)) (dq_184 0 bcX8_status_0 (j := 6) (i := 60) rfl rfl rfl) ⟨Nat.le_of_ble_eq_true rfl, Nat.le_of_ble_eq_true rfl⟩) (fun hb_3 => ?_)
  refine lv_if_eq (tgt := 21) hx hb (dq_153 0 bcX8_status_0 (j := 9) (i := 12) rfl rfl rfl) (by decide) (fun c_4 => ?_) (fun c_4 => ?_)
  ·
    replace hF := ip c_4 hF
    refine lv_iconst (v := -1) hx hb (dq_2 0 bcX8_status_0 (j := 21) rfl rfl) (by decide) ?_
    rw [hQ]
    obtain e9_0 := inj1 hF
    exact W.iret (v := (-1 : Int32)) hx hb hr (fun tt ht hW => ⟨_, rfl, e9_0, ht⟩) (fun _ h => by cases h) (dq_172 0 bcX8_status_0 (j := 22) rfl rfl)
  ·
    replace hF := inn c_4 hF
    refine lv_aload_n hx hb (dq_42 0 bcX8_status_0 (j := 12) rfl rfl) rfl (lv_at hl 0 rfl) ?_
    refine gt_X8_18 (v := .ref a_refused) hx hb hts i_f_X8_status_X8 hown hK hP 0 rfl (hts (.fieldLink RX8 25 "HushWatchModel" "refused" "[I") (List.mem_of_getElem? (i := 2) rfl)) rfl (dq_180 0 bcX8_status_0 (j := 13) (i := 25) rfl rfl rfl) ?_
    refine lv_iload_n hx hb (dq_27 0 bcX8_status_0 (j := 16) rfl rfl) rfl (lv_at hl 1 rfl) ?_
    replace hF := ix_s hF
    obtain ⟨hi_5, hF⟩ := hF
    refine va_iald hx hb hK hP 1 0 rfl rfl hi_5 (dq_46 0 bcX8_status_0 (j := 17) rfl rfl) ?_
    refine lv_goto (tgt := 22) hx hb (dq_167 0 bcX8_status_0 (j := 18) (i := 4) rfl rfl rfl) (by decide) ?_
    rw [hQ]
    obtain e9_0 := inj1 hF
    exact W.iret (v := c_refused p1.toNatClampNeg) hx hb hr (fun tt ht hW => ⟨_, rfl, e9_0, ht⟩) (fun _ h => by cases h) (dq_172 0 bcX8_status_0 (j := 22) rfl rfl)

def F_X8_step_ (p1 : Int32) (p2 : Int32) (p3 : Int32) (c_script : Nat → Int32) (c_scriptLong : Nat → Int32) (c_scripts : Int32) : Option (Int32) :=
  bd1 (F_X8_isScript p1 c_scripts) (fun r_1 => if r_1 = (0 : Int32) then some (-100000000 : Int32) else ixF p1 5 (bd1 (F_X8_in p2.toInt64 (0 : Int64) (((c_scriptLong p1.toNatClampNeg) - (1 : Int32)).toInt64)) (fun r_6 => if r_6 = (0 : Int32) then some (-100000000 : Int32) else bd1 (F_X8_in p3.toInt64 (0 : Int64) (3 : Int64)) (fun r_10 => if r_10 = (0 : Int32) then some (-100000000 : Int32) else ixF (((4 : Int32) * (((12 : Int32) * p1) + p2)) + p3) 240 (some (c_script (((4 : Int32) * (((12 : Int32) * p1) + p2)) + p3).toNatClampNeg))))))
abbrev w_X8_step_ (E : EE) (a_ a_tape a_readPlace a_script a_scriptLong a_now a_refused a_shareX a_shareY a_askedRow a_kept a_aside a_spelled a_image : Nat) (c_thrown : Int32) (c_taped : Int32) (c_at : Int32) (c_part : Int32) (c_partFrom : Int32) (c_partNumber : Int32) (c_wrong : Int32) (c_partWord : Int64) (c_readLaw : Int32) (c_readBound : Int32) (c_readGoal : Int32) (c_readSites : Int32) (c_scripts : Int32) (c_sites : Int32) (c_asked : Int32) (c_outcome : Int32) (c_took : Int32) (c_acts : Int32) (c_drawn : Int64) (c_racer : Int32) (c_raced : Int32) (c_spelledMany : Int32) (c_hasImage : Int32) (c_script : Nat → Int32) (c_scriptLong : Nat → Int32) : va_W := [k_X8 a_ c_thrown a_tape c_taped c_at c_part c_partFrom c_partNumber c_wrong c_partWord c_readLaw c_readBound c_readGoal c_readSites a_readPlace a_script a_scriptLong c_scripts a_now a_refused c_sites a_shareX a_shareY c_asked c_outcome a_askedRow c_took a_kept c_acts c_drawn a_aside c_racer c_raced a_spelled c_spelledMany a_image c_hasImage, k_I E a_script 240 c_script, k_I E a_scriptLong 5 c_scriptLong]
def v_f_X8_step_ : List Cond := List.cons (.code yX8_step_ cX8_step_ 4 (some .int)) (HAppend.hAppend (α := List Cond) (β := List Cond) (γ := List Cond) [.constant RX8 182 (-100000000), .fieldLink RX8 19 "HushWatchModel" "scriptLong" "[I", .constantLong RX8 375 (3), .fieldLink RX8 16 "HushWatchModel" "script" "[I", .methodLink RX8 432 yX8_isScript, .instanceMethod yX8_isScript, .selects RX8 yX8_isScript yX8_isScript, .initialized RX8, .methodLink RX8 60 yX8_in, .static yX8_in] (HAppend.hAppend (α := List Cond) (β := List Cond) (γ := List Cond) v_f_X8_isScript (HAppend.hAppend (α := List Cond) (β := List Cond) (γ := List Cond) wsX80 (HAppend.hAppend (α := List Cond) (β := List Cond) (γ := List Cond) v_f_X8_in []))))
theorem gw_f_X8_step_ : v_f_X8_step_.all goodWord = true := gw_c2 (by decide +kernel) (gw_ap gw_f_X8_isScript (gw_ap gw_wsX80 (gw_ap gw_f_X8_in gw_nil)))
theorem i_f_X8_step__X8 : ∀ w ∈ wsX80, w ∈ v_f_X8_step_ := fun _ h => List.mem_cons_of_mem _ (List.mem_append_right _ (List.mem_append_right _ (List.mem_append_left _ h)))
theorem g_f_X8_step__f_X8_isScript_432 : GoodIn v_f_X8_step_ (wsV RX8 432 RX8 yX8_isScript v_f_X8_isScript) := goodIn_in gw_f_X8_step_ (in4 5 6 7 8 rfl rfl rfl rfl (fun _ h => List.mem_cons_of_mem _ (List.mem_append_right _ (List.mem_append_left _ h))))
theorem g_f_X8_step__f_X8_in_60 : GoodIn v_f_X8_step_ (va_wsS RX8 60 yX8_in v_f_X8_in) := goodIn_in gw_f_X8_step_ (in3 9 10 8 rfl rfl rfl (fun _ h => List.mem_cons_of_mem _ (List.mem_append_right _ (List.mem_append_right _ (List.mem_append_right _ (List.mem_append_left _ h))))))
theorem hd_X8_step_ : yX8_step_.cls = RX8 ∧ yX8_step_.cls ≠ "java/lang/invoke/MethodHandle" ∧ yX8_step_.cls ≠ "java/lang/invoke/VarHandle" ∧ (parseMethodDescriptor yX8_step_.desc).map (fun d => d.parameters.length) = some 3 := by decide +kernel
set_option maxHeartbeats 4000000 in
set_option maxRecDepth 100000 in
theorem f_X8_step_ (l : Launch) (E : EE) {a_ a_tape a_readPlace a_script a_scriptLong a_now a_refused a_shareX a_shareY a_askedRow a_kept a_aside a_spelled a_image : Nat} {p1 : Int32} {p2 : Int32} {p3 : Int32} {c_thrown : Int32} {c_taped : Int32} {c_at : Int32} {c_part : Int32} {c_partFrom : Int32} {c_partNumber : Int32} {c_wrong : Int32} {c_partWord : Int64} {c_readLaw : Int32} {c_readBound : Int32} {c_readGoal : Int32} {c_readSites : Int32} {c_scripts : Int32} {c_sites : Int32} {c_asked : Int32} {c_outcome : Int32} {c_took : Int32} {c_acts : Int32} {c_drawn : Int64} {c_racer : Int32} {c_raced : Int32} {c_spelledMany : Int32} {c_hasImage : Int32} {c_script : Nat → Int32} {c_scriptLong : Nat → Int32} {rr : Int32} (hF : F_X8_step_ p1 p2 p3 c_script c_scriptLong c_scripts = some rr) : Met l yX8_step_ v_f_X8_step_ (({ frames := 2, cells := 0, slots := 0, locals := 46 } : Room)) (va_Pc [.ref a_, .int p1, .int p2, .int p3] (pP E (w_X8_step_ E a_ a_tape a_readPlace a_script a_scriptLong a_now a_refused a_shareX a_shareY a_askedRow a_kept a_aside a_spelled a_image c_thrown c_taped c_at c_part c_partFrom c_partNumber c_wrong c_partWord c_readLaw c_readBound c_readGoal c_readSites c_scripts c_sites c_asked c_outcome c_took c_acts c_drawn c_racer c_raced c_spelledMany c_hasImage c_script c_scriptLong))) (vp_Si (fun q : Int32 => q = rr)) 0 0 (fun _ => False) := by
  refine Met.ofW (cc := cX8_step_) (maxL := 4) (ret := (some .int)) (by decide) rfl ?_
  intro p e s m args below meth c s₁ B hml hv
  obtain ⟨rfl, ⟨hK, hN⟩, hP⟩ := hv
  have hx := B.exec
  have hb := B.bytes
  have hr := B.returns
  have hts := atoms_spec (ws := v_f_X8_step_) B.pre
  have hown : s.vm.findClass RX8 = some m.cls := own_of hd_X8_step_.1 (findClass_of_methodNamed B.named)
  have hlocks : meth.locks = false := B.notSynchronized
  replace hP : va_P E.1 vwCl [k_X8 a_ c_thrown a_tape c_taped c_at c_part c_partFrom c_partNumber c_wrong c_partWord c_readLaw c_readBound c_readGoal c_readSites a_readPlace a_script a_scriptLong c_scripts a_now a_refused c_sites a_shareX a_shareY c_asked c_outcome a_askedRow c_took a_kept c_acts c_drawn a_aside c_racer c_raced a_spelled c_spelledMany a_image c_hasImage, k_I E a_script 240 c_script, k_I E a_scriptLong 5 c_scriptLong] s.heap := hP
  have hl := lv_entry ([.ref a_, .int p1, .int p2, .int p3]) (n := 4) (Nat.le_of_ble_eq_true rfl)
  rw [lg_entry_eq]
  generalize (lg_sl ([.ref a_, .int p1, .int p2, .int p3]) ++ List.replicate (4 - (lg_sl ([.ref a_, .int p1, .int p2, .int p3])).length) Slot.unset).toArray = ls at hl ⊢
  have hl : lv_has ls 4 [(0, .ref a_), (1, .int p1), (2, .int p2), (3, .int p3)] := hl
  obtain ⟨Q, hQ⟩ : ∃ Q : State → Prop, Q = MQ below (vp_Si (fun q : Int32 => q = rr)) #[Value.ref a_, Value.int p1, Value.int p2, Value.int p3] s 0 0 (fun _ => False) := ⟨_, rfl⟩
  rw [← hQ]
  change W p l e ({ frames := 2, cells := 0, slots := 0, locals := 46 } : Room) s m #[Value.ref a_, Value.int p1, Value.int p2, Value.int p3] below meth c s.heap [] 0 0 Q (F0 m 0 ls [])
  unfold F_X8_step_ at hF
  refine lv_aload_n hx hb (dq_42 0 bcX8_step__0 (j := 0) rfl rfl) rfl (lv_at hl 0 rfl) ?_
  refine lv_iload_n hx hb (dq_27 0 bcX8_step__0 (j := 1) rfl rfl) rfl (lv_at hl 1 rfl) ?_
  replace hF := bd1_s hF
  obtain ⟨r_1, hc_2, hF⟩ := hF
  have hPc : va_P E.1 vwCl (w_X8_isScript E a_ a_tape a_readPlace a_script a_scriptLong a_now a_refused a_shareX a_shareY a_askedRow a_kept a_aside a_spelled a_image c_thrown c_taped c_at c_part c_partFrom c_partNumber c_wrong c_partWord c_readLaw c_readBound c_readGoal c_readSites c_scripts c_sites c_asked c_outcome c_took c_acts c_drawn c_racer c_raced c_spelledMany c_hasImage) s.heap := hP.sub (ws' := [k_X8 a_ c_thrown a_tape c_taped c_at c_part c_partFrom c_partNumber c_wrong c_partWord c_readLaw c_readBound c_readGoal c_readSites a_readPlace a_script a_scriptLong c_scripts a_now a_refused c_sites a_shareX a_shareY c_asked c_outcome a_askedRow c_took a_kept c_acts c_drawn a_aside c_racer c_raced a_spelled c_spelledMany a_image c_hasImage]) [0] rfl
  have hrc := va_recv hK hPc (ci := 9) (q0 := 0) rfl rfl
  refine pE_z (va_runV (As := [.int p1]) (rest := [])  ⟨hx, hb, hml, hown, hts⟩ (f_X8_isScript l E (a_ := a_) (a_tape := a_tape) (a_readPlace := a_readPlace) (a_script := a_script) (a_scriptLong := a_scriptLong) (a_now := a_now) (a_refused := a_refused) (a_shareX := a_shareX) (a_shareY := a_shareY) (a_askedRow := a_askedRow) (a_kept := a_kept) (a_aside := a_aside) (a_spelled := a_spelled) (a_image := a_image) (p1 := p1) (c_thrown := c_thrown) (c_taped := c_taped) (c_at := c_at) (c_part := c_part) (c_partFrom := c_partFrom) (c_partNumber := c_partNumber) (c_wrong := c_wrong) (c_partWord := c_partWord) (c_readLaw := c_readLaw) (c_readBound := c_readBound) (c_readGoal := c_readGoal) (c_readSites := c_readSites) (c_scripts := c_scripts) (c_sites := c_sites) (c_asked := c_asked) (c_outcome := c_outcome) (c_took := c_took) (c_acts := c_acts) (c_drawn := c_drawn) (c_racer := c_racer) (c_raced := c_raced) (c_spelledMany := c_spelledMany) (c_hasImage := c_hasImage) hc_2) (cwV 1 hts g_f_X8_step__f_X8_isScript_432 rfl rfl rfl hd_X8_isScript ⟨Nat.le_of_ble_eq_true rfl, Nat.le_of_ble_eq_true rfl⟩) ⟨pP.blind, hrc, (pP.pre ⟨hK, hN⟩ hPc)⟩ rfl rfl hl.1 rfl (lv_room (Nat.le_of_ble_eq_true rfl)) (dq_182 0 bcX8_step__0 (j := 2) (i := 432) rfl rfl rfl) ⟨Nat.le_of_ble_eq_true rfl, Nat.le_of_ble_eq_true rfl⟩) (fun hb_3 => ?_)
  refine lv_if_eq (tgt := 56) hx hb (dq_153 0 bcX8_step__0 (j := 5) (i := 51) rfl rfl rfl) (by decide) (fun c_4 => ?_) (fun c_4 => ?_)
  ·
    replace hF := ip c_4 hF
    refine lv_ldc (v := -100000000) hx hb hown (hts (.constant RX8 182 (-100000000)) (List.mem_of_getElem? (i := 1) rfl)) (dq_18 48 bcX8_step__1 (j := 8) (i := 182) rfl rfl) ?_
    rw [hQ]
    obtain e9_0 := inj1 hF
    exact W.iret (v := (-100000000 : Int32)) hx hb hr (fun tt ht hW => ⟨_, rfl, e9_0, ht⟩) (fun _ h => by cases h) (dq_172 48 bcX8_step__1 (j := 10) rfl rfl)
  ·
    replace hF := inn c_4 hF
    refine lv_iload_n hx hb (dq_28 0 bcX8_step__0 (j := 8) rfl rfl) rfl (lv_at hl 2 rfl) ?_
    refine lv_i2l (v := p2.toInt64) hx hb (dq_133 0 bcX8_step__0 (j := 9) rfl rfl) rfl ?_
    refine lv_lconst (v := 0) hx hb (dq_9 0 bcX8_step__0 (j := 10) rfl rfl) (by decide) ?_
    refine lv_aload_n hx hb (dq_42 0 bcX8_step__0 (j := 11) rfl rfl) rfl (lv_at hl 0 rfl) ?_
    refine gt_X8_15 (v := .ref a_scriptLong) hx hb hts i_f_X8_step__X8 hown hK hP 0 rfl (hts (.fieldLink RX8 19 "HushWatchModel" "scriptLong" "[I") (List.mem_of_getElem? (i := 2) rfl)) rfl (dq_180 0 bcX8_step__0 (j := 12) (i := 19) rfl rfl rfl) ?_
    refine lv_iload_n hx hb (dq_27 0 bcX8_step__0 (j := 15) rfl rfl) rfl (lv_at hl 1 rfl) ?_
    replace hF := ix_s hF
    obtain ⟨hi_5, hF⟩ := hF
    refine va_iald hx hb hK hP 2 0 rfl rfl hi_5 (dq_46 0 bcX8_step__0 (j := 16) rfl rfl) ?_
    refine lv_iconst (v := 1) hx hb (dq_4 0 bcX8_step__0 (j := 17) rfl rfl) (by decide) ?_
    refine lv_isub hx hb (dq_100 0 bcX8_step__0 (j := 18) rfl rfl) ?_
    refine lv_i2l (v := ((c_scriptLong p1.toNatClampNeg) - (1 : Int32)).toInt64) hx hb (dq_133 0 bcX8_step__0 (j := 19) rfl rfl) rfl ?_
    replace hF := bd1_s hF
    obtain ⟨r_6, hc_7, hF⟩ := hF
    have hPc : va_P E.1 vwCl [] s.heap := fun k q h => by simp at h
    refine pE_z (va_runS (As := [.long p2.toInt64, .long (0 : Int64), .long (((c_scriptLong p1.toNatClampNeg) - (1 : Int32)).toInt64)]) (rest := [])  ⟨hx, hb, hml, hown, hts⟩ (f_X8_in l E (p0 := p2.toInt64) (p1 := (0 : Int64)) (p2 := ((c_scriptLong p1.toNatClampNeg) - (1 : Int32)).toInt64) hc_7) (va_cwS 3 hts g_f_X8_step__f_X8_in_60 rfl rfl rfl hd_X8_in.2 ⟨Nat.le_of_ble_eq_true rfl, Nat.le_of_ble_eq_true rfl⟩) ⟨pP.blind, (pP.pre ⟨hK, hN⟩ hPc)⟩ rfl rfl hl.1 rfl (lv_room (Nat.le_of_ble_eq_true rfl)) (dq_184 0 bcX8_step__0 (j := 20) (i := 60) rfl rfl rfl) ⟨Nat.le_of_ble_eq_true rfl, Nat.le_of_ble_eq_true rfl⟩) (fun hb_8 => ?_)
    refine lv_if_eq (tgt := 56) hx hb (dq_153 0 bcX8_step__0 (j := 23) (i := 33) rfl rfl rfl) (by decide) (fun c_9 => ?_) (fun c_9 => ?_)
    ·
      replace hF := ip c_9 hF
      refine lv_ldc (v := -100000000) hx hb hown (hts (.constant RX8 182 (-100000000)) (List.mem_of_getElem? (i := 1) rfl)) (dq_18 48 bcX8_step__1 (j := 8) (i := 182) rfl rfl) ?_
      rw [hQ]
      obtain e9_0 := inj1 hF
      exact W.iret (v := (-100000000 : Int32)) hx hb hr (fun tt ht hW => ⟨_, rfl, e9_0, ht⟩) (fun _ h => by cases h) (dq_172 48 bcX8_step__1 (j := 10) rfl rfl)
    ·
      replace hF := inn c_9 hF
      refine lv_iload_n hx hb (dq_29 0 bcX8_step__0 (j := 26) rfl rfl) rfl (lv_at hl 3 rfl) ?_
      refine lv_i2l (v := p3.toInt64) hx hb (dq_133 0 bcX8_step__0 (j := 27) rfl rfl) rfl ?_
      refine lv_lconst (v := 0) hx hb (dq_9 0 bcX8_step__0 (j := 28) rfl rfl) (by decide) ?_
      refine lv_ldc2 (v := 3) hx hb hown (hts (.constantLong RX8 375 (3)) (List.mem_of_getElem? (i := 3) rfl)) (dq_20 0 bcX8_step__0 (j := 29) (i := 375) rfl rfl rfl) ?_
      replace hF := bd1_s hF
      obtain ⟨r_10, hc_11, hF⟩ := hF
      have hPc : va_P E.1 vwCl [] s.heap := fun k q h => by simp at h
      refine pE_z (va_runS (As := [.long p3.toInt64, .long (0 : Int64), .long (3 : Int64)]) (rest := [])  ⟨hx, hb, hml, hown, hts⟩ (f_X8_in l E (p0 := p3.toInt64) (p1 := (0 : Int64)) (p2 := (3 : Int64)) hc_11) (va_cwS 3 hts g_f_X8_step__f_X8_in_60 rfl rfl rfl hd_X8_in.2 ⟨Nat.le_of_ble_eq_true rfl, Nat.le_of_ble_eq_true rfl⟩) ⟨pP.blind, (pP.pre ⟨hK, hN⟩ hPc)⟩ rfl rfl hl.1 rfl (lv_room (Nat.le_of_ble_eq_true rfl)) (dq_184 0 bcX8_step__0 (j := 32) (i := 60) rfl rfl rfl) ⟨Nat.le_of_ble_eq_true rfl, Nat.le_of_ble_eq_true rfl⟩) (fun hb_12 => ?_)
      refine lv_if_eq (tgt := 56) hx hb (dq_153 0 bcX8_step__0 (j := 35) (i := 21) rfl rfl rfl) (by decide) (fun c_13 => ?_) (fun c_13 => ?_)
      ·
        replace hF := ip c_13 hF
        refine lv_ldc (v := -100000000) hx hb hown (hts (.constant RX8 182 (-100000000)) (List.mem_of_getElem? (i := 1) rfl)) (dq_18 48 bcX8_step__1 (j := 8) (i := 182) rfl rfl) ?_
        rw [hQ]
        obtain e9_0 := inj1 hF
        exact W.iret (v := (-100000000 : Int32)) hx hb hr (fun tt ht hW => ⟨_, rfl, e9_0, ht⟩) (fun _ h => by cases h) (dq_172 48 bcX8_step__1 (j := 10) rfl rfl)
      ·
        replace hF := inn c_13 hF
        refine lv_aload_n hx hb (dq_42 0 bcX8_step__0 (j := 38) rfl rfl) rfl (lv_at hl 0 rfl) ?_
        refine gt_X8_14 (v := .ref a_script) hx hb hts i_f_X8_step__X8 hown hK hP 0 rfl (hts (.fieldLink RX8 16 "HushWatchModel" "script" "[I") (List.mem_of_getElem? (i := 4) rfl)) rfl (dq_180 0 bcX8_step__0 (j := 39) (i := 16) rfl rfl rfl) ?_
        refine lv_iconst (v := 4) hx hb (dq_7 0 bcX8_step__0 (j := 42) rfl rfl) (by decide) ?_
        refine lv_bipush (v := 12) hx hb (dq_16 0 bcX8_step__0 (j := 43) (i := 12) rfl rfl rfl) (by decide) ?_
        refine lv_iload_n hx hb (dq_27 0 bcX8_step__0 (j := 45) rfl rfl) rfl (lv_at hl 1 rfl) ?_
        refine lv_imul hx hb (dq_104 0 bcX8_step__0 (j := 46) rfl rfl) ?_
        refine lv_iload_n hx hb (dq_28 0 bcX8_step__0 (j := 47) rfl rfl) rfl (lv_at hl 2 rfl) ?_
        refine lv_iadd hx hb (dq_96 48 bcX8_step__1 (j := 0) rfl rfl) ?_
        refine lv_imul hx hb (dq_104 48 bcX8_step__1 (j := 1) rfl rfl) ?_
        refine lv_iload_n hx hb (dq_29 48 bcX8_step__1 (j := 2) rfl rfl) rfl (lv_at hl 3 rfl) ?_
        refine lv_iadd hx hb (dq_96 48 bcX8_step__1 (j := 3) rfl rfl) ?_
        replace hF := ix_s hF
        obtain ⟨hi_14, hF⟩ := hF
        refine va_iald hx hb hK hP 1 0 rfl rfl hi_14 (dq_46 48 bcX8_step__1 (j := 4) rfl rfl) ?_
        refine lv_goto (tgt := 58) hx hb (dq_167 48 bcX8_step__1 (j := 5) (i := 5) rfl rfl rfl) (by decide) ?_
        rw [hQ]
        obtain e9_0 := inj1 hF
        exact W.iret (v := c_script (((4 : Int32) * (((12 : Int32) * p1) + p2)) + p3).toNatClampNeg) hx hb hr (fun tt ht hW => ⟨_, rfl, e9_0, ht⟩) (fun _ h => by cases h) (dq_172 48 bcX8_step__1 (j := 10) rfl rfl)

def F_X8_sync (K : Nat) (c_now : Nat → Int32) (c_refused : Nat → Int32) (c_sites : Int32) (c_shareX : Nat → Int32) (c_shareY : Nat → Int32) (c_asked : Int32) (c_outcome : Int32) (c_askedRow : Nat → Int32) (c_took : Int32) (c_kept : Nat → Int32) (c_acts : Int32) : Option (Int32 × (Nat → Int32) × (Nat → Int32) × (Nat → Int32) × (Nat → Int32) × Int32 × Int32 × (Nat → Int32) × Int32 × (Nat → Int32) × Int32) :=
  bd11 (F_X8_hand K (-1 : Int32) (1 : Int32) (0 : Int32) (0 : Int32) (0 : Int32) c_now c_refused c_sites c_shareX c_shareY c_asked c_outcome c_askedRow c_took c_kept c_acts) (fun r_1 w_2 w_3 w_4 w_5 w_6 w_7 w_8 w_9 w_10 w_11 => some (r_1, w_2, w_3, w_4, w_5, w_6, w_7, w_8, w_9, w_10, w_11))
abbrev w_X8_sync (E : EE) (a_ a_tape a_readPlace a_script a_scriptLong a_now a_refused a_shareX a_shareY a_askedRow a_kept a_aside a_spelled a_image : Nat) (c_thrown : Int32) (c_taped : Int32) (c_at : Int32) (c_part : Int32) (c_partFrom : Int32) (c_partNumber : Int32) (c_wrong : Int32) (c_partWord : Int64) (c_readLaw : Int32) (c_readBound : Int32) (c_readGoal : Int32) (c_readSites : Int32) (c_scripts : Int32) (c_sites : Int32) (c_asked : Int32) (c_outcome : Int32) (c_took : Int32) (c_acts : Int32) (c_drawn : Int64) (c_racer : Int32) (c_raced : Int32) (c_spelledMany : Int32) (c_hasImage : Int32) (c_now : Nat → Int32) (c_refused : Nat → Int32) (c_shareX : Nat → Int32) (c_shareY : Nat → Int32) (c_askedRow : Nat → Int32) (c_kept : Nat → Int32) : va_W := [k_X8 a_ c_thrown a_tape c_taped c_at c_part c_partFrom c_partNumber c_wrong c_partWord c_readLaw c_readBound c_readGoal c_readSites a_readPlace a_script a_scriptLong c_scripts a_now a_refused c_sites a_shareX a_shareY c_asked c_outcome a_askedRow c_took a_kept c_acts c_drawn a_aside c_racer c_raced a_spelled c_spelledMany a_image c_hasImage, k_I E a_now 265 c_now, k_I E a_refused 3 c_refused, k_I E a_shareX 8 c_shareX, k_I E a_shareY 8 c_shareY, k_I E a_askedRow 8 c_askedRow, k_I E a_kept 10600 c_kept]
def v_f_X8_sync : List Cond := List.cons (.code yX8_sync cX8_sync 1 (some .int)) (HAppend.hAppend (α := List Cond) (β := List Cond) (γ := List Cond) [.methodLink RX8 350 yX8_hand, .instanceMethod yX8_hand, .selects RX8 yX8_hand yX8_hand, .initialized RX8] (HAppend.hAppend (α := List Cond) (β := List Cond) (γ := List Cond) v_f_X8_hand []))
theorem gw_f_X8_sync : v_f_X8_sync.all goodWord = true := gw_c2 (by decide +kernel) (gw_ap gw_f_X8_hand gw_nil)
theorem g_f_X8_sync_f_X8_hand_350 : GoodIn v_f_X8_sync (wsV RX8 350 RX8 yX8_hand v_f_X8_hand) := goodIn_in gw_f_X8_sync (in4 1 2 3 4 rfl rfl rfl rfl (fun _ h => List.mem_cons_of_mem _ (List.mem_append_right _ (List.mem_append_left _ h))))
theorem hd_X8_sync : yX8_sync.cls = RX8 ∧ yX8_sync.cls ≠ "java/lang/invoke/MethodHandle" ∧ yX8_sync.cls ≠ "java/lang/invoke/VarHandle" ∧ (parseMethodDescriptor yX8_sync.desc).map (fun d => d.parameters.length) = some 0 := by decide +kernel
set_option maxHeartbeats 4000000 in
set_option maxRecDepth 100000 in
theorem f_X8_sync (l : Launch) (E : EE) (sz : Nat) (K : Nat) {a_ a_tape a_readPlace a_script a_scriptLong a_now a_refused a_shareX a_shareY a_askedRow a_kept a_aside a_spelled a_image : Nat} {c_thrown : Int32} {c_taped : Int32} {c_at : Int32} {c_part : Int32} {c_partFrom : Int32} {c_partNumber : Int32} {c_wrong : Int32} {c_partWord : Int64} {c_readLaw : Int32} {c_readBound : Int32} {c_readGoal : Int32} {c_readSites : Int32} {c_scripts : Int32} {c_sites : Int32} {c_asked : Int32} {c_outcome : Int32} {c_took : Int32} {c_acts : Int32} {c_drawn : Int64} {c_racer : Int32} {c_raced : Int32} {c_spelledMany : Int32} {c_hasImage : Int32} {c_now : Nat → Int32} {c_refused : Nat → Int32} {c_shareX : Nat → Int32} {c_shareY : Nat → Int32} {c_askedRow : Nat → Int32} {c_kept : Nat → Int32} {rr : Int32} {n_now : Nat → Int32} {n_refused : Nat → Int32} {n_shareX : Nat → Int32} {n_shareY : Nat → Int32} {n_asked : Int32} {n_outcome : Int32} {n_askedRow : Nat → Int32} {n_took : Int32} {n_kept : Nat → Int32} {n_acts : Int32} (hF : F_X8_sync K c_now c_refused c_sites c_shareX c_shareY c_asked c_outcome c_askedRow c_took c_kept c_acts = some (rr, n_now, n_refused, n_shareX, n_shareY, n_asked, n_outcome, n_askedRow, n_took, n_kept, n_acts)) : Met l yX8_sync v_f_X8_sync (({ frames := 10, cells := 0, slots := 0, locals := 241 } : Room)) (va_Pc [.ref a_] (pW E sz (w_X8_sync E a_ a_tape a_readPlace a_script a_scriptLong a_now a_refused a_shareX a_shareY a_askedRow a_kept a_aside a_spelled a_image c_thrown c_taped c_at c_part c_partFrom c_partNumber c_wrong c_partWord c_readLaw c_readBound c_readGoal c_readSites c_scripts c_sites c_asked c_outcome c_took c_acts c_drawn c_racer c_raced c_spelledMany c_hasImage c_now c_refused c_shareX c_shareY c_askedRow c_kept))) (va_Qi (fun (q : Int32) (_u : Unit) => q = rr) (fun (_u : Unit) tt => va_P E.1 vwCl (w_X8_sync E a_ a_tape a_readPlace a_script a_scriptLong a_now a_refused a_shareX a_shareY a_askedRow a_kept a_aside a_spelled a_image c_thrown c_taped c_at c_part c_partFrom c_partNumber c_wrong c_partWord c_readLaw c_readBound c_readGoal c_readSites c_scripts c_sites n_asked n_outcome n_took n_acts c_drawn c_racer c_raced c_spelledMany c_hasImage n_now n_refused n_shareX n_shareY n_askedRow n_kept) tt.heap ∧ va_D (va_A (w_X8_sync E a_ a_tape a_readPlace a_script a_scriptLong a_now a_refused a_shareX a_shareY a_askedRow a_kept a_aside a_spelled a_image c_thrown c_taped c_at c_part c_partFrom c_partNumber c_wrong c_partWord c_readLaw c_readBound c_readGoal c_readSites c_scripts c_sites c_asked c_outcome c_took c_acts c_drawn c_racer c_raced c_spelledMany c_hasImage c_now c_refused c_shareX c_shareY c_askedRow c_kept) sz) (w_X8_sync E a_ a_tape a_readPlace a_script a_scriptLong a_now a_refused a_shareX a_shareY a_askedRow a_kept a_aside a_spelled a_image c_thrown c_taped c_at c_part c_partFrom c_partNumber c_wrong c_partWord c_readLaw c_readBound c_readGoal c_readSites c_scripts c_sites n_asked n_outcome n_took n_acts c_drawn c_racer c_raced c_spelledMany c_hasImage n_now n_refused n_shareX n_shareY n_askedRow n_kept)) (va_A (w_X8_sync E a_ a_tape a_readPlace a_script a_scriptLong a_now a_refused a_shareX a_shareY a_askedRow a_kept a_aside a_spelled a_image c_thrown c_taped c_at c_part c_partFrom c_partNumber c_wrong c_partWord c_readLaw c_readBound c_readGoal c_readSites c_scripts c_sites c_asked c_outcome c_took c_acts c_drawn c_racer c_raced c_spelledMany c_hasImage c_now c_refused c_shareX c_shareY c_askedRow c_kept) sz)) 0 0 (va_A (w_X8_sync E a_ a_tape a_readPlace a_script a_scriptLong a_now a_refused a_shareX a_shareY a_askedRow a_kept a_aside a_spelled a_image c_thrown c_taped c_at c_part c_partFrom c_partNumber c_wrong c_partWord c_readLaw c_readBound c_readGoal c_readSites c_scripts c_sites c_asked c_outcome c_took c_acts c_drawn c_racer c_raced c_spelledMany c_hasImage c_now c_refused c_shareX c_shareY c_askedRow c_kept) sz) := by
  refine Met.ofW (cc := cX8_sync) (maxL := 1) (ret := (some .int)) (by decide) rfl ?_
  intro p e s m args below meth c s₁ B hml hv
  obtain ⟨rfl, hsz, ⟨hK, hN⟩, hP, hD0⟩ := hv
  have hx := B.exec
  have hb := B.bytes
  have hr := B.returns
  have hts := atoms_spec (ws := v_f_X8_sync) B.pre
  have hown : s.vm.findClass RX8 = some m.cls := own_of hd_X8_sync.1 (findClass_of_methodNamed B.named)
  have hlocks : meth.locks = false := B.notSynchronized
  subst hsz
  have hD := hD0.self (sz := s.heap.size)
  generalize hAe : va_A (w_X8_sync E a_ a_tape a_readPlace a_script a_scriptLong a_now a_refused a_shareX a_shareY a_askedRow a_kept a_aside a_spelled a_image c_thrown c_taped c_at c_part c_partFrom c_partNumber c_wrong c_partWord c_readLaw c_readBound c_readGoal c_readSites c_scripts c_sites c_asked c_outcome c_took c_acts c_drawn c_racer c_raced c_spelledMany c_hasImage c_now c_refused c_shareX c_shareY c_askedRow c_kept) s.heap.size = A at hD ⊢
  have hA : ∀ q : Nat, s.heap.size ≤ q → A q := fun q h => by rw [← hAe]; exact Or.inr h
  have hS : va_S A s.heap s.heap [] := va_S.rf
  have hl := lv_entry ([.ref a_]) (n := 1) (Nat.le_of_ble_eq_true rfl)
  rw [lg_entry_eq]
  generalize (lg_sl ([.ref a_]) ++ List.replicate (1 - (lg_sl ([.ref a_])).length) Slot.unset).toArray = ls at hl ⊢
  have hl : lv_has ls 1 [(0, .ref a_)] := hl
  obtain ⟨Q, hQ⟩ : ∃ Q : State → Prop, Q = MQ below (va_Qi (fun (q : Int32) (_u : Unit) => q = rr) (fun (_u : Unit) tt => va_P E.1 vwCl (w_X8_sync E a_ a_tape a_readPlace a_script a_scriptLong a_now a_refused a_shareX a_shareY a_askedRow a_kept a_aside a_spelled a_image c_thrown c_taped c_at c_part c_partFrom c_partNumber c_wrong c_partWord c_readLaw c_readBound c_readGoal c_readSites c_scripts c_sites n_asked n_outcome n_took n_acts c_drawn c_racer c_raced c_spelledMany c_hasImage n_now n_refused n_shareX n_shareY n_askedRow n_kept) tt.heap ∧ va_D A (w_X8_sync E a_ a_tape a_readPlace a_script a_scriptLong a_now a_refused a_shareX a_shareY a_askedRow a_kept a_aside a_spelled a_image c_thrown c_taped c_at c_part c_partFrom c_partNumber c_wrong c_partWord c_readLaw c_readBound c_readGoal c_readSites c_scripts c_sites n_asked n_outcome n_took n_acts c_drawn c_racer c_raced c_spelledMany c_hasImage n_now n_refused n_shareX n_shareY n_askedRow n_kept)) A) #[Value.ref a_] s 0 0 A := ⟨_, rfl⟩
  rw [← hQ]
  change W p l e ({ frames := 10, cells := 0, slots := 0, locals := 241 } : Room) s m #[Value.ref a_] below meth c s.heap [] 0 0 Q (F0 m 0 ls [])
  suffices hh9 : ∀ (H : Heap) (locs : List Loc), va_P E.1 vwCl (w_X8_sync E a_ a_tape a_readPlace a_script a_scriptLong a_now a_refused a_shareX a_shareY a_askedRow a_kept a_aside a_spelled a_image c_thrown c_taped c_at c_part c_partFrom c_partNumber c_wrong c_partWord c_readLaw c_readBound c_readGoal c_readSites c_scripts c_sites c_asked c_outcome c_took c_acts c_drawn c_racer c_raced c_spelledMany c_hasImage c_now c_refused c_shareX c_shareY c_askedRow c_kept) H → va_D A (w_X8_sync E a_ a_tape a_readPlace a_script a_scriptLong a_now a_refused a_shareX a_shareY a_askedRow a_kept a_aside a_spelled a_image c_thrown c_taped c_at c_part c_partFrom c_partNumber c_wrong c_partWord c_readLaw c_readBound c_readGoal c_readSites c_scripts c_sites c_asked c_outcome c_took c_acts c_drawn c_racer c_raced c_spelledMany c_hasImage c_now c_refused c_shareX c_shareY c_askedRow c_kept) → va_S A s.heap H locs → W p l e ({ frames := 10, cells := 0, slots := 0, locals := 241 } : Room) s m #[Value.ref a_] below meth c H locs 0 0 Q (F0 m 0 ls []) from hh9 s.heap [] hP hD hS
  clear hP hD hS
  intro H locs hP hD hS
  have h9 := fixPD (ws' := [k_X8 a_ c_thrown a_tape c_taped c_at c_part c_partFrom c_partNumber c_wrong c_partWord c_readLaw c_readBound c_readGoal c_readSites a_readPlace a_script a_scriptLong c_scripts a_now a_refused c_sites a_shareX a_shareY c_asked c_outcome a_askedRow c_took a_kept c_acts c_drawn a_aside c_racer c_raced a_spelled c_spelledMany a_image c_hasImage, k_I E a_now 265 c_now, k_I E a_refused 3 c_refused, k_I E a_shareX 8 c_shareX, k_I E a_shareY 8 c_shareY, k_I E a_askedRow 8 c_askedRow, k_I E a_kept 10600 c_kept]) hP hD rfl
  clear hP hD
  obtain ⟨hP, hD⟩ := h9
  unfold F_X8_sync at hF
  refine lv_aload_n hx hb (dq_42 0 bcX8_sync_0 (j := 0) rfl rfl) rfl (lv_at hl 0 rfl) ?_
  refine lv_iconst (v := -1) hx hb (dq_2 0 bcX8_sync_0 (j := 1) rfl rfl) (by decide) ?_
  refine lv_iconst (v := 1) hx hb (dq_4 0 bcX8_sync_0 (j := 2) rfl rfl) (by decide) ?_
  refine lv_iconst (v := 0) hx hb (dq_3 0 bcX8_sync_0 (j := 3) rfl rfl) (by decide) ?_
  refine lv_iconst (v := 0) hx hb (dq_3 0 bcX8_sync_0 (j := 4) rfl rfl) (by decide) ?_
  refine lv_iconst (v := 0) hx hb (dq_3 0 bcX8_sync_0 (j := 5) rfl rfl) (by decide) ?_
  replace hF := bd11_s hF
  obtain ⟨r_1, w_2, w_3, w_4, w_5, w_6, w_7, w_8, w_9, w_10, w_11, hc_12, hF⟩ := hF
  obtain ⟨hPc, hDc, hFc⟩ := wcut (wc := (w_X8_hand E a_ a_tape a_readPlace a_script a_scriptLong a_now a_refused a_shareX a_shareY a_askedRow a_kept a_aside a_spelled a_image c_thrown c_taped c_at c_part c_partFrom c_partNumber c_wrong c_partWord c_readLaw c_readBound c_readGoal c_readSites c_scripts c_sites c_asked c_outcome c_took c_acts c_drawn c_racer c_raced c_spelledMany c_hasImage c_now c_refused c_shareX c_shareY c_askedRow c_kept)) hP hD hS hA [0, 1, 2, 3, 4, 5, 6] (by decide) rfl
  have hrc := va_recv hK hPc (ci := 9) (q0 := 0) rfl rfl
  refine cE_i (wc := (w_X8_hand E a_ a_tape a_readPlace a_script a_scriptLong a_now a_refused a_shareX a_shareY a_askedRow a_kept a_aside a_spelled a_image c_thrown c_taped c_at c_part c_partFrom c_partNumber c_wrong c_partWord c_readLaw c_readBound c_readGoal c_readSites c_scripts c_sites c_asked c_outcome c_took c_acts c_drawn c_racer c_raced c_spelledMany c_hasImage c_now c_refused c_shareX c_shareY c_askedRow c_kept)) (wr := []) (w1 := (w_X8_hand E a_ a_tape a_readPlace a_script a_scriptLong a_now a_refused a_shareX a_shareY a_askedRow a_kept a_aside a_spelled a_image c_thrown c_taped c_at c_part c_partFrom c_partNumber c_wrong c_partWord c_readLaw c_readBound c_readGoal c_readSites c_scripts c_sites w_6 w_7 w_9 w_11 c_drawn c_racer c_raced c_spelledMany c_hasImage w_2 w_3 w_4 w_5 w_8 w_10)) (va_runV (As := [.int (-1 : Int32), .int (1 : Int32), .int (0 : Int32), .int (0 : Int32), .int (0 : Int32)]) (rest := [])  ⟨hx, hb, hml, hown, hts⟩ (f_X8_hand l E H.size K (a_ := a_) (a_tape := a_tape) (a_readPlace := a_readPlace) (a_script := a_script) (a_scriptLong := a_scriptLong) (a_now := a_now) (a_refused := a_refused) (a_shareX := a_shareX) (a_shareY := a_shareY) (a_askedRow := a_askedRow) (a_kept := a_kept) (a_aside := a_aside) (a_spelled := a_spelled) (a_image := a_image) (p1 := (-1 : Int32)) (p2 := (1 : Int32)) (p3 := (0 : Int32)) (p4 := (0 : Int32)) (p5 := (0 : Int32)) (c_thrown := c_thrown) (c_taped := c_taped) (c_at := c_at) (c_part := c_part) (c_partFrom := c_partFrom) (c_partNumber := c_partNumber) (c_wrong := c_wrong) (c_partWord := c_partWord) (c_readLaw := c_readLaw) (c_readBound := c_readBound) (c_readGoal := c_readGoal) (c_readSites := c_readSites) (c_scripts := c_scripts) (c_sites := c_sites) (c_asked := c_asked) (c_outcome := c_outcome) (c_took := c_took) (c_acts := c_acts) (c_drawn := c_drawn) (c_racer := c_racer) (c_raced := c_raced) (c_spelledMany := c_spelledMany) (c_hasImage := c_hasImage) (c_now := c_now) (c_refused := c_refused) (c_shareX := c_shareX) (c_shareY := c_shareY) (c_askedRow := c_askedRow) (c_kept := c_kept) hc_12) (cwV 5 hts g_f_X8_sync_f_X8_hand_350 rfl rfl rfl hd_X8_hand ⟨Nat.le_of_ble_eq_true rfl, Nat.le_of_ble_eq_true rfl⟩) ⟨pW.blind, hrc, (pW.pre ⟨hK, hN⟩ hPc hDc)⟩ rfl rfl hl.1 rfl (lv_room (Nat.le_of_ble_eq_true rfl)) (dq_182 0 bcX8_sync_0 (j := 6) (i := 350) rfl rfl rfl) ⟨Nat.le_of_ble_eq_true rfl, Nat.le_of_ble_eq_true rfl⟩) hS hFc hP hD [0, 1, 2, 3, 4, 5, 6] [] rfl rfl (by decide) (by decide) (fun H locs hP hD hS => ?_)
  have h9 := fixPD (ws' := [k_X8 a_ c_thrown a_tape c_taped c_at c_part c_partFrom c_partNumber c_wrong c_partWord c_readLaw c_readBound c_readGoal c_readSites a_readPlace a_script a_scriptLong c_scripts a_now a_refused c_sites a_shareX a_shareY w_6 w_7 a_askedRow w_9 a_kept w_11 c_drawn a_aside c_racer c_raced a_spelled c_spelledMany a_image c_hasImage, k_I E a_now 265 w_2, k_I E a_refused 3 w_3, k_I E a_shareX 8 w_4, k_I E a_shareY 8 w_5, k_I E a_askedRow 8 w_8, k_I E a_kept 10600 w_10]) hP hD rfl
  clear hP hD
  obtain ⟨hP, hD⟩ := h9
  rw [hQ]
  have h9 := fin9 (P := fun u9 : Int32 × (Nat → Int32) × (Nat → Int32) × (Nat → Int32) × (Nat → Int32) × Int32 × Int32 × (Nat → Int32) × Int32 × (Nat → Int32) × Int32 => r_1 = u9.1 ∧ va_P E.1 vwCl (w_X8_sync E a_ a_tape a_readPlace a_script a_scriptLong a_now a_refused a_shareX a_shareY a_askedRow a_kept a_aside a_spelled a_image c_thrown c_taped c_at c_part c_partFrom c_partNumber c_wrong c_partWord c_readLaw c_readBound c_readGoal c_readSites c_scripts c_sites u9.2.2.2.2.2.1 u9.2.2.2.2.2.2.1 u9.2.2.2.2.2.2.2.2.1 u9.2.2.2.2.2.2.2.2.2.2 c_drawn c_racer c_raced c_spelledMany c_hasImage u9.2.1 u9.2.2.1 u9.2.2.2.1 u9.2.2.2.2.1 u9.2.2.2.2.2.2.2.1 u9.2.2.2.2.2.2.2.2.2.1) H ∧ va_D A (w_X8_sync E a_ a_tape a_readPlace a_script a_scriptLong a_now a_refused a_shareX a_shareY a_askedRow a_kept a_aside a_spelled a_image c_thrown c_taped c_at c_part c_partFrom c_partNumber c_wrong c_partWord c_readLaw c_readBound c_readGoal c_readSites c_scripts c_sites u9.2.2.2.2.2.1 u9.2.2.2.2.2.2.1 u9.2.2.2.2.2.2.2.2.1 u9.2.2.2.2.2.2.2.2.2.2 c_drawn c_racer c_raced c_spelledMany c_hasImage u9.2.1 u9.2.2.1 u9.2.2.2.1 u9.2.2.2.2.1 u9.2.2.2.2.2.2.2.1 u9.2.2.2.2.2.2.2.2.2.1)) hF ⟨rfl, hP, hD⟩
  obtain ⟨e9_0, hP9, hD9⟩ := h9
  exact W.iret (v := r_1) hx hb hr (fun tt ht hW => ⟨⟨_, (), rfl, e9_0, ht ▸ hP9, hD9⟩, hS.F ht⟩) hS.2.2 (dq_172 0 bcX8_sync_0 (j := 9) rfl rfl)

def B_X8_takeWatch_10 (x1 : Int32) (c_now : Nat → Int32) : Option ((Int32 × (Nat → Int32)) ⊕ ((Nat → Int32))) :=
  if (265 : Int32) ≤ x1 then some (.inr c_now) else ixF x1 265 (nmF (upd c_now x1.toNatClampNeg (0 : Int32)) (fun f_3 => some (.inl (x1 + (1 : Int32), f_3))))
def B_X8_takeWatch_32 (c_readPlace : Nat → Int32) (c_sites : Int32) (x1 : Int32) (c_now : Nat → Int32) : Option ((Int32 × (Nat → Int32)) ⊕ ((Nat → Int32))) :=
  if c_sites ≤ x1 then some (.inr c_now) else ixF ((2 : Int32) * x1) 16 (ixF ((0 : Int32) + x1) 265 (nmF (upd c_now ((0 : Int32) + x1).toNatClampNeg (c_readPlace ((2 : Int32) * x1).toNatClampNeg)) (fun f_9 => ixF (((2 : Int32) * x1) + (1 : Int32)) 16 (ixF ((8 : Int32) + x1) 265 (nmF (upd f_9 ((8 : Int32) + x1).toNatClampNeg (c_readPlace (((2 : Int32) * x1) + (1 : Int32)).toNatClampNeg)) (fun f_12 => ixF ((0 : Int32) + x1) 265 (ixF ((16 : Int32) + x1) 265 (nmF (upd f_12 ((16 : Int32) + x1).toNatClampNeg (f_12 ((0 : Int32) + x1).toNatClampNeg)) (fun f_15 => ixF ((8 : Int32) + x1) 265 (ixF ((24 : Int32) + x1) 265 (nmF (upd f_15 ((24 : Int32) + x1).toNatClampNeg (f_15 ((8 : Int32) + x1).toNatClampNeg)) (fun f_18 => some (.inl (x1 + (1 : Int32), f_18))))))))))))))
def F_X8_takeWatch (K : Nat) (c_readLaw : Int32) (c_readBound : Int32) (c_readGoal : Int32) (c_readSites : Int32) (c_readPlace : Nat → Int32) (c_now : Nat → Int32) (c_sites : Int32) (c_acts : Int32) (c_hasImage : Int32) : Option (Int32 × (Nat → Int32) × Int32 × Int32 × Int32) :=
  bd1 (lpF (fun u9 : Int32 × (Nat → Int32) => B_X8_takeWatch_10  u9.1 u9.2) K ((0 : Int32), c_now)) (fun c_now_4 => bd1 (lpF (fun u9 : Int32 × (Nat → Int32) => B_X8_takeWatch_32 c_readPlace c_readSites u9.1 u9.2) K ((0 : Int32), c_now_4)) (fun c_now_19 => nmF (upd c_now_19 64 c_readLaw) (fun f_21 => nmF (upd f_21 65 c_readBound) (fun f_22 => nmF (upd f_22 66 c_readGoal) (fun f_23 => bd1 (F_X8_sum K (16 : Int32) f_23 c_readSites) (fun r_24 => bd1 (F_X8_sum K (24 : Int32) f_23 c_readSites) (fun r_26 => bd1 (F_X8_isAllowed r_24 r_26 f_23) (fun r_28 => if r_28 = (0 : Int32) then nmF (upd f_23 72 (1 : Int32)) (fun f_32 => some (c_readSites, f_32, c_readSites, (0 : Int32), (0 : Int32))) else nmF (upd f_23 72 (0 : Int32)) (fun f_33 => some (c_readSites, f_33, c_readSites, (0 : Int32), (0 : Int32)))))))))))
abbrev w_X8_takeWatch (E : EE) (a_ a_tape a_readPlace a_script a_scriptLong a_now a_refused a_shareX a_shareY a_askedRow a_kept a_aside a_spelled a_image : Nat) (c_thrown : Int32) (c_taped : Int32) (c_at : Int32) (c_part : Int32) (c_partFrom : Int32) (c_partNumber : Int32) (c_wrong : Int32) (c_partWord : Int64) (c_readLaw : Int32) (c_readBound : Int32) (c_readGoal : Int32) (c_readSites : Int32) (c_scripts : Int32) (c_sites : Int32) (c_asked : Int32) (c_outcome : Int32) (c_took : Int32) (c_acts : Int32) (c_drawn : Int64) (c_racer : Int32) (c_raced : Int32) (c_spelledMany : Int32) (c_hasImage : Int32) (c_readPlace : Nat → Int32) (c_now : Nat → Int32) : va_W := [k_X8 a_ c_thrown a_tape c_taped c_at c_part c_partFrom c_partNumber c_wrong c_partWord c_readLaw c_readBound c_readGoal c_readSites a_readPlace a_script a_scriptLong c_scripts a_now a_refused c_sites a_shareX a_shareY c_asked c_outcome a_askedRow c_took a_kept c_acts c_drawn a_aside c_racer c_raced a_spelled c_spelledMany a_image c_hasImage, k_I E a_readPlace 16 c_readPlace, k_I E a_now 265 c_now]
def v_f_X8_takeWatch : List Cond := List.cons (.code yX8_takeWatch cX8_takeWatch 2 (some .int)) (HAppend.hAppend (α := List Cond) (β := List Cond) (γ := List Cond) [.fieldLink RX8 120 "HushWatchModel" "readSites" "I", .fieldLink RX8 196 "HushWatchModel" "sites" "I", .fieldLink RX8 22 "HushWatchModel" "now" "[I", .fieldLink RX8 13 "HushWatchModel" "readPlace" "[I", .fieldLink RX8 149 "HushWatchModel" "readLaw" "I", .fieldLink RX8 154 "HushWatchModel" "readBound" "I", .fieldLink RX8 157 "HushWatchModel" "readGoal" "I", .fieldLink RX8 205 "HushWatchModel" "acts" "I", .fieldLink RX8 208 "HushWatchModel" "hasImage" "Z", .methodLink RX8 199 yX8_sum, .instanceMethod yX8_sum, .selects RX8 yX8_sum yX8_sum, .initialized RX8, .methodLink RX8 202 yX8_isAllowed, .instanceMethod yX8_isAllowed, .selects RX8 yX8_isAllowed yX8_isAllowed] (HAppend.hAppend (α := List Cond) (β := List Cond) (γ := List Cond) wsX80 (HAppend.hAppend (α := List Cond) (β := List Cond) (γ := List Cond) v_f_X8_sum (HAppend.hAppend (α := List Cond) (β := List Cond) (γ := List Cond) v_f_X8_isAllowed []))))
theorem gw_f_X8_takeWatch : v_f_X8_takeWatch.all goodWord = true := gw_c2 (by decide +kernel) (gw_ap gw_wsX80 (gw_ap gw_f_X8_sum (gw_ap gw_f_X8_isAllowed gw_nil)))
theorem i_f_X8_takeWatch_X8 : ∀ w ∈ wsX80, w ∈ v_f_X8_takeWatch := fun _ h => List.mem_cons_of_mem _ (List.mem_append_right _ (List.mem_append_left _ h))
theorem g_f_X8_takeWatch_f_X8_sum_199 : GoodIn v_f_X8_takeWatch (wsV RX8 199 RX8 yX8_sum v_f_X8_sum) := goodIn_in gw_f_X8_takeWatch (in4 10 11 12 13 rfl rfl rfl rfl (fun _ h => List.mem_cons_of_mem _ (List.mem_append_right _ (List.mem_append_right _ (List.mem_append_left _ h)))))
theorem g_f_X8_takeWatch_f_X8_isAllowed_202 : GoodIn v_f_X8_takeWatch (wsV RX8 202 RX8 yX8_isAllowed v_f_X8_isAllowed) := goodIn_in gw_f_X8_takeWatch (in4 14 15 16 13 rfl rfl rfl rfl (fun _ h => List.mem_cons_of_mem _ (List.mem_append_right _ (List.mem_append_right _ (List.mem_append_right _ (List.mem_append_left _ h))))))
theorem hd_X8_takeWatch : yX8_takeWatch.cls = RX8 ∧ yX8_takeWatch.cls ≠ "java/lang/invoke/MethodHandle" ∧ yX8_takeWatch.cls ≠ "java/lang/invoke/VarHandle" ∧ (parseMethodDescriptor yX8_takeWatch.desc).map (fun d => d.parameters.length) = some 0 := by decide +kernel
set_option maxHeartbeats 4000000 in
set_option maxRecDepth 100000 in
theorem wb_X8_takeWatch_10 {p : Program} (l : Launch) {e : Env} {s : State} {m : MethodId} {below : List Frame} {meth : Method} {c : Code} {Q : State → Prop} (E : EE) (K : Nat) {a_ a_tape a_readPlace a_script a_scriptLong a_now a_refused a_shareX a_shareY a_askedRow a_kept a_aside a_spelled a_image : Nat} {c_thrown : Int32} {c_taped : Int32} {c_at : Int32} {c_part : Int32} {c_partFrom : Int32} {c_partNumber : Int32} {c_wrong : Int32} {c_partWord : Int64} {c_readLaw : Int32} {c_readBound : Int32} {c_readGoal : Int32} {c_readSites : Int32} {c_scripts : Int32} {c_asked : Int32} {c_outcome : Int32} {c_took : Int32} {c_drawn : Int64} {c_racer : Int32} {c_raced : Int32} {c_spelledMany : Int32} {c_readPlace : Nat → Int32} {x1 : Int32} {c_now : Nat → Int32} {c_sites : Int32} {c_acts : Int32} {c_hasImage : Int32} (hx : p.tables.exec = Jvm.exec) (hb : c.code = cX8_takeWatch) (hml : c.maxLocals = 2) (hown : s.vm.findClass RX8 = some m.cls) (hts : ∀ w ∈ v_f_X8_takeWatch, w.before #[Value.ref a_] s = true) (hK : va_K E.1 vwCl (TY E) s) (hN : NX s) {A : Nat → Prop} (hA : ∀ q : Nat, s.heap.size ≤ q → A q) {xx : (Int32 × (Nat → Int32)) ⊕ ((Nat → Int32))} (hC : ∀ (x1 : Int32), ∀ (c_now : Nat → Int32), xx = .inl (x1, c_now) → ∀ (H : Heap) (locs : List Loc) (ls : Array Slot), va_P E.1 vwCl (w_X8_takeWatch E a_ a_tape a_readPlace a_script a_scriptLong a_now a_refused a_shareX a_shareY a_askedRow a_kept a_aside a_spelled a_image c_thrown c_taped c_at c_part c_partFrom c_partNumber c_wrong c_partWord c_readLaw c_readBound c_readGoal c_readSites c_scripts c_sites c_asked c_outcome c_took c_acts c_drawn c_racer c_raced c_spelledMany c_hasImage c_readPlace c_now) H → va_D A (w_X8_takeWatch E a_ a_tape a_readPlace a_script a_scriptLong a_now a_refused a_shareX a_shareY a_askedRow a_kept a_aside a_spelled a_image c_thrown c_taped c_at c_part c_partFrom c_partNumber c_wrong c_partWord c_readLaw c_readBound c_readGoal c_readSites c_scripts c_sites c_asked c_outcome c_took c_acts c_drawn c_racer c_raced c_spelledMany c_hasImage c_readPlace c_now) → va_S A s.heap H locs → lv_has ls 2 [(0, .ref a_), (1, .int x1)] → W p l e ({ frames := 2, cells := 0, slots := 0, locals := 50 } : Room) s m #[Value.ref a_] below meth c H locs 0 0 Q (F0 m 10 ls [])) (hE : ∀ (c_now : Nat → Int32), xx = .inr c_now → ((∀ (H : Heap) (locs : List Loc) (ls : Array Slot), va_P E.1 vwCl (w_X8_takeWatch E a_ a_tape a_readPlace a_script a_scriptLong a_now a_refused a_shareX a_shareY a_askedRow a_kept a_aside a_spelled a_image c_thrown c_taped c_at c_part c_partFrom c_partNumber c_wrong c_partWord c_readLaw c_readBound c_readGoal c_readSites c_scripts c_sites c_asked c_outcome c_took c_acts c_drawn c_racer c_raced c_spelledMany c_hasImage c_readPlace c_now) H → va_D A (w_X8_takeWatch E a_ a_tape a_readPlace a_script a_scriptLong a_now a_refused a_shareX a_shareY a_askedRow a_kept a_aside a_spelled a_image c_thrown c_taped c_at c_part c_partFrom c_partNumber c_wrong c_partWord c_readLaw c_readBound c_readGoal c_readSites c_scripts c_sites c_asked c_outcome c_took c_acts c_drawn c_racer c_raced c_spelledMany c_hasImage c_readPlace c_now) → va_S A s.heap H locs → lv_has ls 2 [(0, .ref a_)] → W p l e ({ frames := 2, cells := 0, slots := 0, locals := 50 } : Room) s m #[Value.ref a_] below meth c H locs 0 0 Q (F0 m 30 ls [])))) (hF : B_X8_takeWatch_10  x1 c_now = some xx) : ∀ (H : Heap) (locs : List Loc) (ls : Array Slot), va_P E.1 vwCl (w_X8_takeWatch E a_ a_tape a_readPlace a_script a_scriptLong a_now a_refused a_shareX a_shareY a_askedRow a_kept a_aside a_spelled a_image c_thrown c_taped c_at c_part c_partFrom c_partNumber c_wrong c_partWord c_readLaw c_readBound c_readGoal c_readSites c_scripts c_sites c_asked c_outcome c_took c_acts c_drawn c_racer c_raced c_spelledMany c_hasImage c_readPlace c_now) H → va_D A (w_X8_takeWatch E a_ a_tape a_readPlace a_script a_scriptLong a_now a_refused a_shareX a_shareY a_askedRow a_kept a_aside a_spelled a_image c_thrown c_taped c_at c_part c_partFrom c_partNumber c_wrong c_partWord c_readLaw c_readBound c_readGoal c_readSites c_scripts c_sites c_asked c_outcome c_took c_acts c_drawn c_racer c_raced c_spelledMany c_hasImage c_readPlace c_now) → va_S A s.heap H locs → lv_has ls 2 [(0, .ref a_), (1, .int x1)] → W p l e ({ frames := 2, cells := 0, slots := 0, locals := 50 } : Room) s m #[Value.ref a_] below meth c H locs 0 0 Q (F0 m 10 ls []) := by
  unfold B_X8_takeWatch_10 at hF
  intro H locs ls hP hD hS hl
  have h9 := fixPD (ws' := [k_X8 a_ c_thrown a_tape c_taped c_at c_part c_partFrom c_partNumber c_wrong c_partWord c_readLaw c_readBound c_readGoal c_readSites a_readPlace a_script a_scriptLong c_scripts a_now a_refused c_sites a_shareX a_shareY c_asked c_outcome a_askedRow c_took a_kept c_acts c_drawn a_aside c_racer c_raced a_spelled c_spelledMany a_image c_hasImage, k_I E a_readPlace 16 c_readPlace, k_I E a_now 265 c_now]) hP hD rfl
  clear hP hD
  obtain ⟨hP, hD⟩ := h9
  refine lv_iload_n hx hb (dq_27 0 bcX8_takeWatch_0 (j := 10) rfl rfl) rfl (lv_at hl 1 rfl) ?_
  refine lv_sipush (v := 265) hx hb (dq_17 0 bcX8_takeWatch_0 (j := 11) (i := 265) rfl rfl rfl) (by decide) ?_
  refine lv_icmp_ge (tgt := 30) hx hb (dq_162 0 bcX8_takeWatch_0 (j := 14) (i := 16) rfl rfl rfl) (by decide) (fun c_1 => ?_) (fun c_1 => ?_)
  ·
    replace hF := ip c_1 hF
    cases hF
    exact hE c_now rfl H locs ls (hP.sub [0, 1, 2] rfl) (hD.sub [0, 1, 2] (by decide) rfl) hS (lv_sub hl [0] rfl)
  ·
    replace hF := inn c_1 hF
    refine lv_aload_n hx hb (dq_42 0 bcX8_takeWatch_0 (j := 17) rfl rfl) rfl (lv_at hl 0 rfl) ?_
    refine gt_X8_17 (v := .ref a_now) hx hb hts i_f_X8_takeWatch_X8 hown hK hP 0 rfl (hts (.fieldLink RX8 22 "HushWatchModel" "now" "[I") (List.mem_of_getElem? (i := 3) rfl)) rfl (dq_180 0 bcX8_takeWatch_0 (j := 18) (i := 22) rfl rfl rfl) ?_
    refine lv_iload_n hx hb (dq_27 0 bcX8_takeWatch_0 (j := 21) rfl rfl) rfl (lv_at hl 1 rfl) ?_
    refine lv_iconst (v := 0) hx hb (dq_3 0 bcX8_takeWatch_0 (j := 22) rfl rfl) (by decide) ?_
    replace hF := ix_s hF
    obtain ⟨hi_2, hF⟩ := hF
    refine va_iast hx hb hK hP hD hS 2 0 rfl rfl hi_2 (dq_79 0 bcX8_takeWatch_0 (j := 23) rfl rfl) (fun H locs hP hD hS => ?_)
    have h9 := fixPD (ws' := [k_X8 a_ c_thrown a_tape c_taped c_at c_part c_partFrom c_partNumber c_wrong c_partWord c_readLaw c_readBound c_readGoal c_readSites a_readPlace a_script a_scriptLong c_scripts a_now a_refused c_sites a_shareX a_shareY c_asked c_outcome a_askedRow c_took a_kept c_acts c_drawn a_aside c_racer c_raced a_spelled c_spelledMany a_image c_hasImage, k_I E a_readPlace 16 c_readPlace, k_I E a_now 265 (upd c_now x1.toNatClampNeg (0 : Int32))]) hP hD rfl
    clear hP hD
    obtain ⟨hP, hD⟩ := h9
    replace hF := nm_s hF
    obtain ⟨f_3, hf_3, hF⟩ := hF
    rw [← hf_3] at hP hD
    refine lv_iinc (v := x1 + (1 : Int32)) (lv' := [(1, .int (x1 + (1 : Int32))), (0, .ref a_)]) hx hb (dq_132 0 bcX8_takeWatch_0 (j := 24) (i := 1) rfl rfl rfl) hl (k := 1) rfl (rfl) (by decide) rfl (fun ls hl => ?_)
    refine lv_goto (tgt := 10) hx hb (dq_167 0 bcX8_takeWatch_0 (j := 27) (i := -17) rfl rfl rfl) (by decide) ?_
    cases hF
    exact hC (x1 + (1 : Int32)) f_3 rfl H locs ls (hP.sub [0, 1, 2] rfl) (hD.sub [0, 1, 2] (by decide) rfl) hS (lv_sub hl [1, 0] rfl)

set_option maxHeartbeats 4000000 in
set_option maxRecDepth 100000 in
theorem lw_X8_takeWatch_10 {p : Program} (l : Launch) {e : Env} {s : State} {m : MethodId} {below : List Frame} {meth : Method} {c : Code} {Q : State → Prop} (E : EE) (K : Nat) {a_ a_tape a_readPlace a_script a_scriptLong a_now a_refused a_shareX a_shareY a_askedRow a_kept a_aside a_spelled a_image : Nat} {c_thrown : Int32} {c_taped : Int32} {c_at : Int32} {c_part : Int32} {c_partFrom : Int32} {c_partNumber : Int32} {c_wrong : Int32} {c_partWord : Int64} {c_readLaw : Int32} {c_readBound : Int32} {c_readGoal : Int32} {c_readSites : Int32} {c_scripts : Int32} {c_asked : Int32} {c_outcome : Int32} {c_took : Int32} {c_drawn : Int64} {c_racer : Int32} {c_raced : Int32} {c_spelledMany : Int32} {c_readPlace : Nat → Int32} {c_sites : Int32} {c_acts : Int32} {c_hasImage : Int32} (hx : p.tables.exec = Jvm.exec) (hb : c.code = cX8_takeWatch) (hml : c.maxLocals = 2) (hown : s.vm.findClass RX8 = some m.cls) (hts : ∀ w ∈ v_f_X8_takeWatch, w.before #[Value.ref a_] s = true) (hK : va_K E.1 vwCl (TY E) s) (hN : NX s) {A : Nat → Prop} (hA : ∀ q : Nat, s.heap.size ≤ q → A q) (j9 : Nat) (x1 : Int32) (c_now : Nat → Int32) (c_now' : Nat → Int32) (hL : lpF (fun u9 : Int32 × (Nat → Int32) => B_X8_takeWatch_10  u9.1 u9.2) j9 (x1, c_now) = some c_now') (hX : (∀ (H : Heap) (locs : List Loc) (ls : Array Slot), va_P E.1 vwCl (w_X8_takeWatch E a_ a_tape a_readPlace a_script a_scriptLong a_now a_refused a_shareX a_shareY a_askedRow a_kept a_aside a_spelled a_image c_thrown c_taped c_at c_part c_partFrom c_partNumber c_wrong c_partWord c_readLaw c_readBound c_readGoal c_readSites c_scripts c_sites c_asked c_outcome c_took c_acts c_drawn c_racer c_raced c_spelledMany c_hasImage c_readPlace c_now') H → va_D A (w_X8_takeWatch E a_ a_tape a_readPlace a_script a_scriptLong a_now a_refused a_shareX a_shareY a_askedRow a_kept a_aside a_spelled a_image c_thrown c_taped c_at c_part c_partFrom c_partNumber c_wrong c_partWord c_readLaw c_readBound c_readGoal c_readSites c_scripts c_sites c_asked c_outcome c_took c_acts c_drawn c_racer c_raced c_spelledMany c_hasImage c_readPlace c_now') → va_S A s.heap H locs → lv_has ls 2 [(0, .ref a_)] → W p l e ({ frames := 2, cells := 0, slots := 0, locals := 50 } : Room) s m #[Value.ref a_] below meth c H locs 0 0 Q (F0 m 30 ls []))) : ∀ (H : Heap) (locs : List Loc) (ls : Array Slot), va_P E.1 vwCl (w_X8_takeWatch E a_ a_tape a_readPlace a_script a_scriptLong a_now a_refused a_shareX a_shareY a_askedRow a_kept a_aside a_spelled a_image c_thrown c_taped c_at c_part c_partFrom c_partNumber c_wrong c_partWord c_readLaw c_readBound c_readGoal c_readSites c_scripts c_sites c_asked c_outcome c_took c_acts c_drawn c_racer c_raced c_spelledMany c_hasImage c_readPlace c_now) H → va_D A (w_X8_takeWatch E a_ a_tape a_readPlace a_script a_scriptLong a_now a_refused a_shareX a_shareY a_askedRow a_kept a_aside a_spelled a_image c_thrown c_taped c_at c_part c_partFrom c_partNumber c_wrong c_partWord c_readLaw c_readBound c_readGoal c_readSites c_scripts c_sites c_asked c_outcome c_took c_acts c_drawn c_racer c_raced c_spelledMany c_hasImage c_readPlace c_now) → va_S A s.heap H locs → lv_has ls 2 [(0, .ref a_), (1, .int x1)] → W p l e ({ frames := 2, cells := 0, slots := 0, locals := 50 } : Room) s m #[Value.ref a_] below meth c H locs 0 0 Q (F0 m 10 ls []) := by
  exact lp_rule (P := (fun u9 : Int32 × (Nat → Int32) => ∀ (H : Heap) (locs : List Loc) (ls : Array Slot), va_P E.1 vwCl (w_X8_takeWatch E a_ a_tape a_readPlace a_script a_scriptLong a_now a_refused a_shareX a_shareY a_askedRow a_kept a_aside a_spelled a_image c_thrown c_taped c_at c_part c_partFrom c_partNumber c_wrong c_partWord c_readLaw c_readBound c_readGoal c_readSites c_scripts c_sites c_asked c_outcome c_took c_acts c_drawn c_racer c_raced c_spelledMany c_hasImage c_readPlace u9.2) H → va_D A (w_X8_takeWatch E a_ a_tape a_readPlace a_script a_scriptLong a_now a_refused a_shareX a_shareY a_askedRow a_kept a_aside a_spelled a_image c_thrown c_taped c_at c_part c_partFrom c_partNumber c_wrong c_partWord c_readLaw c_readBound c_readGoal c_readSites c_scripts c_sites c_asked c_outcome c_took c_acts c_drawn c_racer c_raced c_spelledMany c_hasImage c_readPlace u9.2) → va_S A s.heap H locs → lv_has ls 2 [(0, .ref a_), (1, .int u9.1)] → W p l e ({ frames := 2, cells := 0, slots := 0, locals := 50 } : Room) s m #[Value.ref a_] below meth c H locs 0 0 Q (F0 m 10 ls []))) (R := (fun r9 : (Nat → Int32) => (∀ (H : Heap) (locs : List Loc) (ls : Array Slot), va_P E.1 vwCl (w_X8_takeWatch E a_ a_tape a_readPlace a_script a_scriptLong a_now a_refused a_shareX a_shareY a_askedRow a_kept a_aside a_spelled a_image c_thrown c_taped c_at c_part c_partFrom c_partNumber c_wrong c_partWord c_readLaw c_readBound c_readGoal c_readSites c_scripts c_sites c_asked c_outcome c_took c_acts c_drawn c_racer c_raced c_spelledMany c_hasImage c_readPlace r9) H → va_D A (w_X8_takeWatch E a_ a_tape a_readPlace a_script a_scriptLong a_now a_refused a_shareX a_shareY a_askedRow a_kept a_aside a_spelled a_image c_thrown c_taped c_at c_part c_partFrom c_partNumber c_wrong c_partWord c_readLaw c_readBound c_readGoal c_readSites c_scripts c_sites c_asked c_outcome c_took c_acts c_drawn c_racer c_raced c_spelledMany c_hasImage c_readPlace r9) → va_S A s.heap H locs → lv_has ls 2 [(0, .ref a_)] → W p l e ({ frames := 2, cells := 0, slots := 0, locals := 50 } : Room) s m #[Value.ref a_] below meth c H locs 0 0 Q (F0 m 30 ls [])))) (fun u9 xx hF hC hE => wb_X8_takeWatch_10 l E K (c_thrown := c_thrown) (c_taped := c_taped) (c_at := c_at) (c_part := c_part) (c_partFrom := c_partFrom) (c_partNumber := c_partNumber) (c_wrong := c_wrong) (c_partWord := c_partWord) (c_readLaw := c_readLaw) (c_readBound := c_readBound) (c_readGoal := c_readGoal) (c_readSites := c_readSites) (c_scripts := c_scripts) (c_asked := c_asked) (c_outcome := c_outcome) (c_took := c_took) (c_drawn := c_drawn) (c_racer := c_racer) (c_raced := c_raced) (c_spelledMany := c_spelledMany) (c_readPlace := c_readPlace) (x1 := u9.1) (c_now := u9.2) (c_sites := c_sites) (c_acts := c_acts) (c_hasImage := c_hasImage) hx hb hml hown hts hK hN hA (fun x1 c_now q9 => hC _ q9) (fun c_now q9 => hE _ q9) hF) j9 (x1, c_now) c_now' hL hX

set_option maxHeartbeats 4000000 in
set_option maxRecDepth 100000 in
theorem wb_X8_takeWatch_32 {p : Program} (l : Launch) {e : Env} {s : State} {m : MethodId} {below : List Frame} {meth : Method} {c : Code} {Q : State → Prop} (E : EE) (K : Nat) {a_ a_tape a_readPlace a_script a_scriptLong a_now a_refused a_shareX a_shareY a_askedRow a_kept a_aside a_spelled a_image : Nat} {c_thrown : Int32} {c_taped : Int32} {c_at : Int32} {c_part : Int32} {c_partFrom : Int32} {c_partNumber : Int32} {c_wrong : Int32} {c_partWord : Int64} {c_readLaw : Int32} {c_readBound : Int32} {c_readGoal : Int32} {c_readSites : Int32} {c_scripts : Int32} {c_asked : Int32} {c_outcome : Int32} {c_took : Int32} {c_drawn : Int64} {c_racer : Int32} {c_raced : Int32} {c_spelledMany : Int32} {c_readPlace : Nat → Int32} {x1 : Int32} {c_now : Nat → Int32} {c_sites : Int32} {c_acts : Int32} {c_hasImage : Int32} (hx : p.tables.exec = Jvm.exec) (hb : c.code = cX8_takeWatch) (hml : c.maxLocals = 2) (hown : s.vm.findClass RX8 = some m.cls) (hts : ∀ w ∈ v_f_X8_takeWatch, w.before #[Value.ref a_] s = true) (hK : va_K E.1 vwCl (TY E) s) (hN : NX s) {A : Nat → Prop} (hA : ∀ q : Nat, s.heap.size ≤ q → A q) {xx : (Int32 × (Nat → Int32)) ⊕ ((Nat → Int32))} (hC : ∀ (x1 : Int32), ∀ (c_now : Nat → Int32), xx = .inl (x1, c_now) → ∀ (H : Heap) (locs : List Loc) (ls : Array Slot), va_P E.1 vwCl (w_X8_takeWatch E a_ a_tape a_readPlace a_script a_scriptLong a_now a_refused a_shareX a_shareY a_askedRow a_kept a_aside a_spelled a_image c_thrown c_taped c_at c_part c_partFrom c_partNumber c_wrong c_partWord c_readLaw c_readBound c_readGoal c_readSites c_scripts c_sites c_asked c_outcome c_took c_acts c_drawn c_racer c_raced c_spelledMany c_hasImage c_readPlace c_now) H → va_D A (w_X8_takeWatch E a_ a_tape a_readPlace a_script a_scriptLong a_now a_refused a_shareX a_shareY a_askedRow a_kept a_aside a_spelled a_image c_thrown c_taped c_at c_part c_partFrom c_partNumber c_wrong c_partWord c_readLaw c_readBound c_readGoal c_readSites c_scripts c_sites c_asked c_outcome c_took c_acts c_drawn c_racer c_raced c_spelledMany c_hasImage c_readPlace c_now) → va_S A s.heap H locs → lv_has ls 2 [(0, .ref a_), (1, .int x1)] → W p l e ({ frames := 2, cells := 0, slots := 0, locals := 50 } : Room) s m #[Value.ref a_] below meth c H locs 0 0 Q (F0 m 32 ls [])) (hE : ∀ (c_now : Nat → Int32), xx = .inr c_now → ((∀ (H : Heap) (locs : List Loc) (ls : Array Slot), va_P E.1 vwCl (w_X8_takeWatch E a_ a_tape a_readPlace a_script a_scriptLong a_now a_refused a_shareX a_shareY a_askedRow a_kept a_aside a_spelled a_image c_thrown c_taped c_at c_part c_partFrom c_partNumber c_wrong c_partWord c_readLaw c_readBound c_readGoal c_readSites c_scripts c_sites c_asked c_outcome c_took c_acts c_drawn c_racer c_raced c_spelledMany c_hasImage c_readPlace c_now) H → va_D A (w_X8_takeWatch E a_ a_tape a_readPlace a_script a_scriptLong a_now a_refused a_shareX a_shareY a_askedRow a_kept a_aside a_spelled a_image c_thrown c_taped c_at c_part c_partFrom c_partNumber c_wrong c_partWord c_readLaw c_readBound c_readGoal c_readSites c_scripts c_sites c_asked c_outcome c_took c_acts c_drawn c_racer c_raced c_spelledMany c_hasImage c_readPlace c_now) → va_S A s.heap H locs → lv_has ls 2 [(0, .ref a_)] → W p l e ({ frames := 2, cells := 0, slots := 0, locals := 50 } : Room) s m #[Value.ref a_] below meth c H locs 0 0 Q (F0 m 116 ls [])))) (hF : B_X8_takeWatch_32 c_readPlace c_sites x1 c_now = some xx) : ∀ (H : Heap) (locs : List Loc) (ls : Array Slot), va_P E.1 vwCl (w_X8_takeWatch E a_ a_tape a_readPlace a_script a_scriptLong a_now a_refused a_shareX a_shareY a_askedRow a_kept a_aside a_spelled a_image c_thrown c_taped c_at c_part c_partFrom c_partNumber c_wrong c_partWord c_readLaw c_readBound c_readGoal c_readSites c_scripts c_sites c_asked c_outcome c_took c_acts c_drawn c_racer c_raced c_spelledMany c_hasImage c_readPlace c_now) H → va_D A (w_X8_takeWatch E a_ a_tape a_readPlace a_script a_scriptLong a_now a_refused a_shareX a_shareY a_askedRow a_kept a_aside a_spelled a_image c_thrown c_taped c_at c_part c_partFrom c_partNumber c_wrong c_partWord c_readLaw c_readBound c_readGoal c_readSites c_scripts c_sites c_asked c_outcome c_took c_acts c_drawn c_racer c_raced c_spelledMany c_hasImage c_readPlace c_now) → va_S A s.heap H locs → lv_has ls 2 [(0, .ref a_), (1, .int x1)] → W p l e ({ frames := 2, cells := 0, slots := 0, locals := 50 } : Room) s m #[Value.ref a_] below meth c H locs 0 0 Q (F0 m 32 ls []) := by
  unfold B_X8_takeWatch_32 at hF
  intro H locs ls hP hD hS hl
  have h9 := fixPD (ws' := [k_X8 a_ c_thrown a_tape c_taped c_at c_part c_partFrom c_partNumber c_wrong c_partWord c_readLaw c_readBound c_readGoal c_readSites a_readPlace a_script a_scriptLong c_scripts a_now a_refused c_sites a_shareX a_shareY c_asked c_outcome a_askedRow c_took a_kept c_acts c_drawn a_aside c_racer c_raced a_spelled c_spelledMany a_image c_hasImage, k_I E a_readPlace 16 c_readPlace, k_I E a_now 265 c_now]) hP hD rfl
  clear hP hD
  obtain ⟨hP, hD⟩ := h9
  refine lv_iload_n hx hb (dq_27 0 bcX8_takeWatch_0 (j := 32) rfl rfl) rfl (lv_at hl 1 rfl) ?_
  refine lv_aload_n hx hb (dq_42 0 bcX8_takeWatch_0 (j := 33) rfl rfl) rfl (lv_at hl 0 rfl) ?_
  refine gt_X8_19 (v := .int c_sites) hx hb hts i_f_X8_takeWatch_X8 hown hK hP 0 rfl (hts (.fieldLink RX8 196 "HushWatchModel" "sites" "I") (List.mem_of_getElem? (i := 2) rfl)) rfl (dq_180 0 bcX8_takeWatch_0 (j := 34) (i := 196) rfl rfl rfl) ?_
  refine lv_icmp_ge (tgt := 116) hx hb (dq_162 0 bcX8_takeWatch_0 (j := 37) (i := 79) rfl rfl rfl) (by decide) (fun c_6 => ?_) (fun c_6 => ?_)
  ·
    replace hF := ip c_6 hF
    cases hF
    exact hE c_now rfl H locs ls (hP.sub [0, 1, 2] rfl) (hD.sub [0, 1, 2] (by decide) rfl) hS (lv_sub hl [0] rfl)
  ·
    replace hF := inn c_6 hF
    refine lv_aload_n hx hb (dq_42 0 bcX8_takeWatch_0 (j := 40) rfl rfl) rfl (lv_at hl 0 rfl) ?_
    refine gt_X8_17 (v := .ref a_now) hx hb hts i_f_X8_takeWatch_X8 hown hK hP 0 rfl (hts (.fieldLink RX8 22 "HushWatchModel" "now" "[I") (List.mem_of_getElem? (i := 3) rfl)) rfl (dq_180 0 bcX8_takeWatch_0 (j := 41) (i := 22) rfl rfl rfl) ?_
    refine lv_iconst (v := 0) hx hb (dq_3 0 bcX8_takeWatch_0 (j := 44) rfl rfl) (by decide) ?_
    refine lv_iload_n hx hb (dq_27 0 bcX8_takeWatch_0 (j := 45) rfl rfl) rfl (lv_at hl 1 rfl) ?_
    refine lv_iadd hx hb (dq_96 0 bcX8_takeWatch_0 (j := 46) rfl rfl) ?_
    refine lv_aload_n hx hb (dq_42 0 bcX8_takeWatch_0 (j := 47) rfl rfl) rfl (lv_at hl 0 rfl) ?_
    refine gt_X8_13 (v := .ref a_readPlace) hx hb hts i_f_X8_takeWatch_X8 hown hK hP 0 rfl (hts (.fieldLink RX8 13 "HushWatchModel" "readPlace" "[I") (List.mem_of_getElem? (i := 4) rfl)) rfl (dq_180 48 bcX8_takeWatch_1 (j := 0) (i := 13) rfl rfl rfl) ?_
    refine lv_iconst (v := 2) hx hb (dq_5 48 bcX8_takeWatch_1 (j := 3) rfl rfl) (by decide) ?_
    refine lv_iload_n hx hb (dq_27 48 bcX8_takeWatch_1 (j := 4) rfl rfl) rfl (lv_at hl 1 rfl) ?_
    refine lv_imul hx hb (dq_104 48 bcX8_takeWatch_1 (j := 5) rfl rfl) ?_
    replace hF := ix_s hF
    obtain ⟨hi_7, hF⟩ := hF
    refine va_iald hx hb hK hP 1 0 rfl rfl hi_7 (dq_46 48 bcX8_takeWatch_1 (j := 6) rfl rfl) ?_
    replace hF := ix_s hF
    obtain ⟨hi_8, hF⟩ := hF
    refine va_iast hx hb hK hP hD hS 2 0 rfl rfl hi_8 (dq_79 48 bcX8_takeWatch_1 (j := 7) rfl rfl) (fun H locs hP hD hS => ?_)
    have h9 := fixPD (ws' := [k_X8 a_ c_thrown a_tape c_taped c_at c_part c_partFrom c_partNumber c_wrong c_partWord c_readLaw c_readBound c_readGoal c_readSites a_readPlace a_script a_scriptLong c_scripts a_now a_refused c_sites a_shareX a_shareY c_asked c_outcome a_askedRow c_took a_kept c_acts c_drawn a_aside c_racer c_raced a_spelled c_spelledMany a_image c_hasImage, k_I E a_readPlace 16 c_readPlace, k_I E a_now 265 (upd c_now ((0 : Int32) + x1).toNatClampNeg (c_readPlace ((2 : Int32) * x1).toNatClampNeg))]) hP hD rfl
    clear hP hD
    obtain ⟨hP, hD⟩ := h9
    replace hF := nm_s hF
    obtain ⟨f_9, hf_9, hF⟩ := hF
    rw [← hf_9] at hP hD
    refine lv_aload_n hx hb (dq_42 48 bcX8_takeWatch_1 (j := 8) rfl rfl) rfl (lv_at hl 0 rfl) ?_
    refine gt_X8_17 (v := .ref a_now) hx hb hts i_f_X8_takeWatch_X8 hown hK hP 0 rfl (hts (.fieldLink RX8 22 "HushWatchModel" "now" "[I") (List.mem_of_getElem? (i := 3) rfl)) rfl (dq_180 48 bcX8_takeWatch_1 (j := 9) (i := 22) rfl rfl rfl) ?_
    refine lv_bipush (v := 8) hx hb (dq_16 48 bcX8_takeWatch_1 (j := 12) (i := 8) rfl rfl rfl) (by decide) ?_
    refine lv_iload_n hx hb (dq_27 48 bcX8_takeWatch_1 (j := 14) rfl rfl) rfl (lv_at hl 1 rfl) ?_
    refine lv_iadd hx hb (dq_96 48 bcX8_takeWatch_1 (j := 15) rfl rfl) ?_
    refine lv_aload_n hx hb (dq_42 48 bcX8_takeWatch_1 (j := 16) rfl rfl) rfl (lv_at hl 0 rfl) ?_
    refine gt_X8_13 (v := .ref a_readPlace) hx hb hts i_f_X8_takeWatch_X8 hown hK hP 0 rfl (hts (.fieldLink RX8 13 "HushWatchModel" "readPlace" "[I") (List.mem_of_getElem? (i := 4) rfl)) rfl (dq_180 48 bcX8_takeWatch_1 (j := 17) (i := 13) rfl rfl rfl) ?_
    refine lv_iconst (v := 2) hx hb (dq_5 48 bcX8_takeWatch_1 (j := 20) rfl rfl) (by decide) ?_
    refine lv_iload_n hx hb (dq_27 48 bcX8_takeWatch_1 (j := 21) rfl rfl) rfl (lv_at hl 1 rfl) ?_
    refine lv_imul hx hb (dq_104 48 bcX8_takeWatch_1 (j := 22) rfl rfl) ?_
    refine lv_iconst (v := 1) hx hb (dq_4 48 bcX8_takeWatch_1 (j := 23) rfl rfl) (by decide) ?_
    refine lv_iadd hx hb (dq_96 48 bcX8_takeWatch_1 (j := 24) rfl rfl) ?_
    replace hF := ix_s hF
    obtain ⟨hi_10, hF⟩ := hF
    refine va_iald hx hb hK hP 1 0 rfl rfl hi_10 (dq_46 48 bcX8_takeWatch_1 (j := 25) rfl rfl) ?_
    replace hF := ix_s hF
    obtain ⟨hi_11, hF⟩ := hF
    refine va_iast hx hb hK hP hD hS 2 0 rfl rfl hi_11 (dq_79 48 bcX8_takeWatch_1 (j := 26) rfl rfl) (fun H locs hP hD hS => ?_)
    have h9 := fixPD (ws' := [k_X8 a_ c_thrown a_tape c_taped c_at c_part c_partFrom c_partNumber c_wrong c_partWord c_readLaw c_readBound c_readGoal c_readSites a_readPlace a_script a_scriptLong c_scripts a_now a_refused c_sites a_shareX a_shareY c_asked c_outcome a_askedRow c_took a_kept c_acts c_drawn a_aside c_racer c_raced a_spelled c_spelledMany a_image c_hasImage, k_I E a_readPlace 16 c_readPlace, k_I E a_now 265 (upd f_9 ((8 : Int32) + x1).toNatClampNeg (c_readPlace (((2 : Int32) * x1) + (1 : Int32)).toNatClampNeg))]) hP hD rfl
    clear hP hD
    obtain ⟨hP, hD⟩ := h9
    replace hF := nm_s hF
    obtain ⟨f_12, hf_12, hF⟩ := hF
    rw [← hf_12] at hP hD
    refine lv_aload_n hx hb (dq_42 48 bcX8_takeWatch_1 (j := 27) rfl rfl) rfl (lv_at hl 0 rfl) ?_
    refine gt_X8_17 (v := .ref a_now) hx hb hts i_f_X8_takeWatch_X8 hown hK hP 0 rfl (hts (.fieldLink RX8 22 "HushWatchModel" "now" "[I") (List.mem_of_getElem? (i := 3) rfl)) rfl (dq_180 48 bcX8_takeWatch_1 (j := 28) (i := 22) rfl rfl rfl) ?_
    refine lv_bipush (v := 16) hx hb (dq_16 48 bcX8_takeWatch_1 (j := 31) (i := 16) rfl rfl rfl) (by decide) ?_
    refine lv_iload_n hx hb (dq_27 48 bcX8_takeWatch_1 (j := 33) rfl rfl) rfl (lv_at hl 1 rfl) ?_
    refine lv_iadd hx hb (dq_96 48 bcX8_takeWatch_1 (j := 34) rfl rfl) ?_
    refine lv_aload_n hx hb (dq_42 48 bcX8_takeWatch_1 (j := 35) rfl rfl) rfl (lv_at hl 0 rfl) ?_
    refine gt_X8_17 (v := .ref a_now) hx hb hts i_f_X8_takeWatch_X8 hown hK hP 0 rfl (hts (.fieldLink RX8 22 "HushWatchModel" "now" "[I") (List.mem_of_getElem? (i := 3) rfl)) rfl (dq_180 48 bcX8_takeWatch_1 (j := 36) (i := 22) rfl rfl rfl) ?_
    refine lv_iconst (v := 0) hx hb (dq_3 48 bcX8_takeWatch_1 (j := 39) rfl rfl) (by decide) ?_
    refine lv_iload_n hx hb (dq_27 48 bcX8_takeWatch_1 (j := 40) rfl rfl) rfl (lv_at hl 1 rfl) ?_
    refine lv_iadd hx hb (dq_96 48 bcX8_takeWatch_1 (j := 41) rfl rfl) ?_
    replace hF := ix_s hF
    obtain ⟨hi_13, hF⟩ := hF
    refine va_iald hx hb hK hP 2 0 rfl rfl hi_13 (dq_46 48 bcX8_takeWatch_1 (j := 42) rfl rfl) ?_
    replace hF := ix_s hF
    obtain ⟨hi_14, hF⟩ := hF
    refine va_iast hx hb hK hP hD hS 2 0 rfl rfl hi_14 (dq_79 48 bcX8_takeWatch_1 (j := 43) rfl rfl) (fun H locs hP hD hS => ?_)
    have h9 := fixPD (ws' := [k_X8 a_ c_thrown a_tape c_taped c_at c_part c_partFrom c_partNumber c_wrong c_partWord c_readLaw c_readBound c_readGoal c_readSites a_readPlace a_script a_scriptLong c_scripts a_now a_refused c_sites a_shareX a_shareY c_asked c_outcome a_askedRow c_took a_kept c_acts c_drawn a_aside c_racer c_raced a_spelled c_spelledMany a_image c_hasImage, k_I E a_readPlace 16 c_readPlace, k_I E a_now 265 (upd f_12 ((16 : Int32) + x1).toNatClampNeg (f_12 ((0 : Int32) + x1).toNatClampNeg))]) hP hD rfl
    clear hP hD
    obtain ⟨hP, hD⟩ := h9
    replace hF := nm_s hF
    obtain ⟨f_15, hf_15, hF⟩ := hF
    rw [← hf_15] at hP hD
    refine lv_aload_n hx hb (dq_42 48 bcX8_takeWatch_1 (j := 44) rfl rfl) rfl (lv_at hl 0 rfl) ?_
    refine gt_X8_17 (v := .ref a_now) hx hb hts i_f_X8_takeWatch_X8 hown hK hP 0 rfl (hts (.fieldLink RX8 22 "HushWatchModel" "now" "[I") (List.mem_of_getElem? (i := 3) rfl)) rfl (dq_180 48 bcX8_takeWatch_1 (j := 45) (i := 22) rfl rfl rfl) ?_
    refine lv_bipush (v := 24) hx hb (dq_16 96 bcX8_takeWatch_2 (j := 0) (i := 24) rfl rfl rfl) (by decide) ?_
    refine lv_iload_n hx hb (dq_27 96 bcX8_takeWatch_2 (j := 2) rfl rfl) rfl (lv_at hl 1 rfl) ?_
    refine lv_iadd hx hb (dq_96 96 bcX8_takeWatch_2 (j := 3) rfl rfl) ?_
    refine lv_aload_n hx hb (dq_42 96 bcX8_takeWatch_2 (j := 4) rfl rfl) rfl (lv_at hl 0 rfl) ?_
    refine gt_X8_17 (v := .ref a_now) hx hb hts i_f_X8_takeWatch_X8 hown hK hP 0 rfl (hts (.fieldLink RX8 22 "HushWatchModel" "now" "[I") (List.mem_of_getElem? (i := 3) rfl)) rfl (dq_180 96 bcX8_takeWatch_2 (j := 5) (i := 22) rfl rfl rfl) ?_
    refine lv_bipush (v := 8) hx hb (dq_16 96 bcX8_takeWatch_2 (j := 8) (i := 8) rfl rfl rfl) (by decide) ?_
    refine lv_iload_n hx hb (dq_27 96 bcX8_takeWatch_2 (j := 10) rfl rfl) rfl (lv_at hl 1 rfl) ?_
    refine lv_iadd hx hb (dq_96 96 bcX8_takeWatch_2 (j := 11) rfl rfl) ?_
    replace hF := ix_s hF
    obtain ⟨hi_16, hF⟩ := hF
    refine va_iald hx hb hK hP 2 0 rfl rfl hi_16 (dq_46 96 bcX8_takeWatch_2 (j := 12) rfl rfl) ?_
    replace hF := ix_s hF
    obtain ⟨hi_17, hF⟩ := hF
    refine va_iast hx hb hK hP hD hS 2 0 rfl rfl hi_17 (dq_79 96 bcX8_takeWatch_2 (j := 13) rfl rfl) (fun H locs hP hD hS => ?_)
    have h9 := fixPD (ws' := [k_X8 a_ c_thrown a_tape c_taped c_at c_part c_partFrom c_partNumber c_wrong c_partWord c_readLaw c_readBound c_readGoal c_readSites a_readPlace a_script a_scriptLong c_scripts a_now a_refused c_sites a_shareX a_shareY c_asked c_outcome a_askedRow c_took a_kept c_acts c_drawn a_aside c_racer c_raced a_spelled c_spelledMany a_image c_hasImage, k_I E a_readPlace 16 c_readPlace, k_I E a_now 265 (upd f_15 ((24 : Int32) + x1).toNatClampNeg (f_15 ((8 : Int32) + x1).toNatClampNeg))]) hP hD rfl
    clear hP hD
    obtain ⟨hP, hD⟩ := h9
    replace hF := nm_s hF
    obtain ⟨f_18, hf_18, hF⟩ := hF
    rw [← hf_18] at hP hD
    refine lv_iinc (v := x1 + (1 : Int32)) (lv' := [(1, .int (x1 + (1 : Int32))), (0, .ref a_)]) hx hb (dq_132 96 bcX8_takeWatch_2 (j := 14) (i := 1) rfl rfl rfl) hl (k := 1) rfl (rfl) (by decide) rfl (fun ls hl => ?_)
    refine lv_goto (tgt := 32) hx hb (dq_167 96 bcX8_takeWatch_2 (j := 17) (i := -81) rfl rfl rfl) (by decide) ?_
    cases hF
    exact hC (x1 + (1 : Int32)) f_18 rfl H locs ls (hP.sub [0, 1, 2] rfl) (hD.sub [0, 1, 2] (by decide) rfl) hS (lv_sub hl [1, 0] rfl)

set_option maxHeartbeats 4000000 in
set_option maxRecDepth 100000 in
theorem lw_X8_takeWatch_32 {p : Program} (l : Launch) {e : Env} {s : State} {m : MethodId} {below : List Frame} {meth : Method} {c : Code} {Q : State → Prop} (E : EE) (K : Nat) {a_ a_tape a_readPlace a_script a_scriptLong a_now a_refused a_shareX a_shareY a_askedRow a_kept a_aside a_spelled a_image : Nat} {c_thrown : Int32} {c_taped : Int32} {c_at : Int32} {c_part : Int32} {c_partFrom : Int32} {c_partNumber : Int32} {c_wrong : Int32} {c_partWord : Int64} {c_readLaw : Int32} {c_readBound : Int32} {c_readGoal : Int32} {c_readSites : Int32} {c_scripts : Int32} {c_asked : Int32} {c_outcome : Int32} {c_took : Int32} {c_drawn : Int64} {c_racer : Int32} {c_raced : Int32} {c_spelledMany : Int32} {c_readPlace : Nat → Int32} {c_sites : Int32} {c_acts : Int32} {c_hasImage : Int32} (hx : p.tables.exec = Jvm.exec) (hb : c.code = cX8_takeWatch) (hml : c.maxLocals = 2) (hown : s.vm.findClass RX8 = some m.cls) (hts : ∀ w ∈ v_f_X8_takeWatch, w.before #[Value.ref a_] s = true) (hK : va_K E.1 vwCl (TY E) s) (hN : NX s) {A : Nat → Prop} (hA : ∀ q : Nat, s.heap.size ≤ q → A q) (j9 : Nat) (x1 : Int32) (c_now : Nat → Int32) (c_now' : Nat → Int32) (hL : lpF (fun u9 : Int32 × (Nat → Int32) => B_X8_takeWatch_32 c_readPlace c_sites u9.1 u9.2) j9 (x1, c_now) = some c_now') (hX : (∀ (H : Heap) (locs : List Loc) (ls : Array Slot), va_P E.1 vwCl (w_X8_takeWatch E a_ a_tape a_readPlace a_script a_scriptLong a_now a_refused a_shareX a_shareY a_askedRow a_kept a_aside a_spelled a_image c_thrown c_taped c_at c_part c_partFrom c_partNumber c_wrong c_partWord c_readLaw c_readBound c_readGoal c_readSites c_scripts c_sites c_asked c_outcome c_took c_acts c_drawn c_racer c_raced c_spelledMany c_hasImage c_readPlace c_now') H → va_D A (w_X8_takeWatch E a_ a_tape a_readPlace a_script a_scriptLong a_now a_refused a_shareX a_shareY a_askedRow a_kept a_aside a_spelled a_image c_thrown c_taped c_at c_part c_partFrom c_partNumber c_wrong c_partWord c_readLaw c_readBound c_readGoal c_readSites c_scripts c_sites c_asked c_outcome c_took c_acts c_drawn c_racer c_raced c_spelledMany c_hasImage c_readPlace c_now') → va_S A s.heap H locs → lv_has ls 2 [(0, .ref a_)] → W p l e ({ frames := 2, cells := 0, slots := 0, locals := 50 } : Room) s m #[Value.ref a_] below meth c H locs 0 0 Q (F0 m 116 ls []))) : ∀ (H : Heap) (locs : List Loc) (ls : Array Slot), va_P E.1 vwCl (w_X8_takeWatch E a_ a_tape a_readPlace a_script a_scriptLong a_now a_refused a_shareX a_shareY a_askedRow a_kept a_aside a_spelled a_image c_thrown c_taped c_at c_part c_partFrom c_partNumber c_wrong c_partWord c_readLaw c_readBound c_readGoal c_readSites c_scripts c_sites c_asked c_outcome c_took c_acts c_drawn c_racer c_raced c_spelledMany c_hasImage c_readPlace c_now) H → va_D A (w_X8_takeWatch E a_ a_tape a_readPlace a_script a_scriptLong a_now a_refused a_shareX a_shareY a_askedRow a_kept a_aside a_spelled a_image c_thrown c_taped c_at c_part c_partFrom c_partNumber c_wrong c_partWord c_readLaw c_readBound c_readGoal c_readSites c_scripts c_sites c_asked c_outcome c_took c_acts c_drawn c_racer c_raced c_spelledMany c_hasImage c_readPlace c_now) → va_S A s.heap H locs → lv_has ls 2 [(0, .ref a_), (1, .int x1)] → W p l e ({ frames := 2, cells := 0, slots := 0, locals := 50 } : Room) s m #[Value.ref a_] below meth c H locs 0 0 Q (F0 m 32 ls []) := by
  exact lp_rule (P := (fun u9 : Int32 × (Nat → Int32) => ∀ (H : Heap) (locs : List Loc) (ls : Array Slot), va_P E.1 vwCl (w_X8_takeWatch E a_ a_tape a_readPlace a_script a_scriptLong a_now a_refused a_shareX a_shareY a_askedRow a_kept a_aside a_spelled a_image c_thrown c_taped c_at c_part c_partFrom c_partNumber c_wrong c_partWord c_readLaw c_readBound c_readGoal c_readSites c_scripts c_sites c_asked c_outcome c_took c_acts c_drawn c_racer c_raced c_spelledMany c_hasImage c_readPlace u9.2) H → va_D A (w_X8_takeWatch E a_ a_tape a_readPlace a_script a_scriptLong a_now a_refused a_shareX a_shareY a_askedRow a_kept a_aside a_spelled a_image c_thrown c_taped c_at c_part c_partFrom c_partNumber c_wrong c_partWord c_readLaw c_readBound c_readGoal c_readSites c_scripts c_sites c_asked c_outcome c_took c_acts c_drawn c_racer c_raced c_spelledMany c_hasImage c_readPlace u9.2) → va_S A s.heap H locs → lv_has ls 2 [(0, .ref a_), (1, .int u9.1)] → W p l e ({ frames := 2, cells := 0, slots := 0, locals := 50 } : Room) s m #[Value.ref a_] below meth c H locs 0 0 Q (F0 m 32 ls []))) (R := (fun r9 : (Nat → Int32) => (∀ (H : Heap) (locs : List Loc) (ls : Array Slot), va_P E.1 vwCl (w_X8_takeWatch E a_ a_tape a_readPlace a_script a_scriptLong a_now a_refused a_shareX a_shareY a_askedRow a_kept a_aside a_spelled a_image c_thrown c_taped c_at c_part c_partFrom c_partNumber c_wrong c_partWord c_readLaw c_readBound c_readGoal c_readSites c_scripts c_sites c_asked c_outcome c_took c_acts c_drawn c_racer c_raced c_spelledMany c_hasImage c_readPlace r9) H → va_D A (w_X8_takeWatch E a_ a_tape a_readPlace a_script a_scriptLong a_now a_refused a_shareX a_shareY a_askedRow a_kept a_aside a_spelled a_image c_thrown c_taped c_at c_part c_partFrom c_partNumber c_wrong c_partWord c_readLaw c_readBound c_readGoal c_readSites c_scripts c_sites c_asked c_outcome c_took c_acts c_drawn c_racer c_raced c_spelledMany c_hasImage c_readPlace r9) → va_S A s.heap H locs → lv_has ls 2 [(0, .ref a_)] → W p l e ({ frames := 2, cells := 0, slots := 0, locals := 50 } : Room) s m #[Value.ref a_] below meth c H locs 0 0 Q (F0 m 116 ls [])))) (fun u9 xx hF hC hE => wb_X8_takeWatch_32 l E K (c_thrown := c_thrown) (c_taped := c_taped) (c_at := c_at) (c_part := c_part) (c_partFrom := c_partFrom) (c_partNumber := c_partNumber) (c_wrong := c_wrong) (c_partWord := c_partWord) (c_readLaw := c_readLaw) (c_readBound := c_readBound) (c_readGoal := c_readGoal) (c_readSites := c_readSites) (c_scripts := c_scripts) (c_asked := c_asked) (c_outcome := c_outcome) (c_took := c_took) (c_drawn := c_drawn) (c_racer := c_racer) (c_raced := c_raced) (c_spelledMany := c_spelledMany) (c_readPlace := c_readPlace) (x1 := u9.1) (c_now := u9.2) (c_sites := c_sites) (c_acts := c_acts) (c_hasImage := c_hasImage) hx hb hml hown hts hK hN hA (fun x1 c_now q9 => hC _ q9) (fun c_now q9 => hE _ q9) hF) j9 (x1, c_now) c_now' hL hX

set_option maxHeartbeats 4000000 in
set_option maxRecDepth 100000 in
theorem f_X8_takeWatch (l : Launch) (E : EE) (sz : Nat) (K : Nat) {a_ a_tape a_readPlace a_script a_scriptLong a_now a_refused a_shareX a_shareY a_askedRow a_kept a_aside a_spelled a_image : Nat} {c_thrown : Int32} {c_taped : Int32} {c_at : Int32} {c_part : Int32} {c_partFrom : Int32} {c_partNumber : Int32} {c_wrong : Int32} {c_partWord : Int64} {c_readLaw : Int32} {c_readBound : Int32} {c_readGoal : Int32} {c_readSites : Int32} {c_scripts : Int32} {c_sites : Int32} {c_asked : Int32} {c_outcome : Int32} {c_took : Int32} {c_acts : Int32} {c_drawn : Int64} {c_racer : Int32} {c_raced : Int32} {c_spelledMany : Int32} {c_hasImage : Int32} {c_readPlace : Nat → Int32} {c_now : Nat → Int32} {rr : Int32} {n_now : Nat → Int32} {n_sites : Int32} {n_acts : Int32} {n_hasImage : Int32} (hF : F_X8_takeWatch K c_readLaw c_readBound c_readGoal c_readSites c_readPlace c_now c_sites c_acts c_hasImage = some (rr, n_now, n_sites, n_acts, n_hasImage)) : Met l yX8_takeWatch v_f_X8_takeWatch (({ frames := 2, cells := 0, slots := 0, locals := 50 } : Room)) (va_Pc [.ref a_] (pW E sz (w_X8_takeWatch E a_ a_tape a_readPlace a_script a_scriptLong a_now a_refused a_shareX a_shareY a_askedRow a_kept a_aside a_spelled a_image c_thrown c_taped c_at c_part c_partFrom c_partNumber c_wrong c_partWord c_readLaw c_readBound c_readGoal c_readSites c_scripts c_sites c_asked c_outcome c_took c_acts c_drawn c_racer c_raced c_spelledMany c_hasImage c_readPlace c_now))) (va_Qi (fun (q : Int32) (_u : Unit) => q = rr) (fun (_u : Unit) tt => va_P E.1 vwCl (w_X8_takeWatch E a_ a_tape a_readPlace a_script a_scriptLong a_now a_refused a_shareX a_shareY a_askedRow a_kept a_aside a_spelled a_image c_thrown c_taped c_at c_part c_partFrom c_partNumber c_wrong c_partWord c_readLaw c_readBound c_readGoal c_readSites c_scripts n_sites c_asked c_outcome c_took n_acts c_drawn c_racer c_raced c_spelledMany n_hasImage c_readPlace n_now) tt.heap ∧ va_D (va_A (w_X8_takeWatch E a_ a_tape a_readPlace a_script a_scriptLong a_now a_refused a_shareX a_shareY a_askedRow a_kept a_aside a_spelled a_image c_thrown c_taped c_at c_part c_partFrom c_partNumber c_wrong c_partWord c_readLaw c_readBound c_readGoal c_readSites c_scripts c_sites c_asked c_outcome c_took c_acts c_drawn c_racer c_raced c_spelledMany c_hasImage c_readPlace c_now) sz) (w_X8_takeWatch E a_ a_tape a_readPlace a_script a_scriptLong a_now a_refused a_shareX a_shareY a_askedRow a_kept a_aside a_spelled a_image c_thrown c_taped c_at c_part c_partFrom c_partNumber c_wrong c_partWord c_readLaw c_readBound c_readGoal c_readSites c_scripts n_sites c_asked c_outcome c_took n_acts c_drawn c_racer c_raced c_spelledMany n_hasImage c_readPlace n_now)) (va_A (w_X8_takeWatch E a_ a_tape a_readPlace a_script a_scriptLong a_now a_refused a_shareX a_shareY a_askedRow a_kept a_aside a_spelled a_image c_thrown c_taped c_at c_part c_partFrom c_partNumber c_wrong c_partWord c_readLaw c_readBound c_readGoal c_readSites c_scripts c_sites c_asked c_outcome c_took c_acts c_drawn c_racer c_raced c_spelledMany c_hasImage c_readPlace c_now) sz)) 0 0 (va_A (w_X8_takeWatch E a_ a_tape a_readPlace a_script a_scriptLong a_now a_refused a_shareX a_shareY a_askedRow a_kept a_aside a_spelled a_image c_thrown c_taped c_at c_part c_partFrom c_partNumber c_wrong c_partWord c_readLaw c_readBound c_readGoal c_readSites c_scripts c_sites c_asked c_outcome c_took c_acts c_drawn c_racer c_raced c_spelledMany c_hasImage c_readPlace c_now) sz) := by
  refine Met.ofW (cc := cX8_takeWatch) (maxL := 2) (ret := (some .int)) (by decide) rfl ?_
  intro p e s m args below meth c s₁ B hml hv
  obtain ⟨rfl, hsz, ⟨hK, hN⟩, hP, hD0⟩ := hv
  have hx := B.exec
  have hb := B.bytes
  have hr := B.returns
  have hts := atoms_spec (ws := v_f_X8_takeWatch) B.pre
  have hown : s.vm.findClass RX8 = some m.cls := own_of hd_X8_takeWatch.1 (findClass_of_methodNamed B.named)
  have hlocks : meth.locks = false := B.notSynchronized
  subst hsz
  have hD := hD0.self (sz := s.heap.size)
  generalize hAe : va_A (w_X8_takeWatch E a_ a_tape a_readPlace a_script a_scriptLong a_now a_refused a_shareX a_shareY a_askedRow a_kept a_aside a_spelled a_image c_thrown c_taped c_at c_part c_partFrom c_partNumber c_wrong c_partWord c_readLaw c_readBound c_readGoal c_readSites c_scripts c_sites c_asked c_outcome c_took c_acts c_drawn c_racer c_raced c_spelledMany c_hasImage c_readPlace c_now) s.heap.size = A at hD ⊢
  have hA : ∀ q : Nat, s.heap.size ≤ q → A q := fun q h => by rw [← hAe]; exact Or.inr h
  have hS : va_S A s.heap s.heap [] := va_S.rf
  have hl := lv_entry ([.ref a_]) (n := 2) (Nat.le_of_ble_eq_true rfl)
  rw [lg_entry_eq]
  generalize (lg_sl ([.ref a_]) ++ List.replicate (2 - (lg_sl ([.ref a_])).length) Slot.unset).toArray = ls at hl ⊢
  have hl : lv_has ls 2 [(0, .ref a_)] := hl
  obtain ⟨Q, hQ⟩ : ∃ Q : State → Prop, Q = MQ below (va_Qi (fun (q : Int32) (_u : Unit) => q = rr) (fun (_u : Unit) tt => va_P E.1 vwCl (w_X8_takeWatch E a_ a_tape a_readPlace a_script a_scriptLong a_now a_refused a_shareX a_shareY a_askedRow a_kept a_aside a_spelled a_image c_thrown c_taped c_at c_part c_partFrom c_partNumber c_wrong c_partWord c_readLaw c_readBound c_readGoal c_readSites c_scripts n_sites c_asked c_outcome c_took n_acts c_drawn c_racer c_raced c_spelledMany n_hasImage c_readPlace n_now) tt.heap ∧ va_D A (w_X8_takeWatch E a_ a_tape a_readPlace a_script a_scriptLong a_now a_refused a_shareX a_shareY a_askedRow a_kept a_aside a_spelled a_image c_thrown c_taped c_at c_part c_partFrom c_partNumber c_wrong c_partWord c_readLaw c_readBound c_readGoal c_readSites c_scripts n_sites c_asked c_outcome c_took n_acts c_drawn c_racer c_raced c_spelledMany n_hasImage c_readPlace n_now)) A) #[Value.ref a_] s 0 0 A := ⟨_, rfl⟩
  rw [← hQ]
  change W p l e ({ frames := 2, cells := 0, slots := 0, locals := 50 } : Room) s m #[Value.ref a_] below meth c s.heap [] 0 0 Q (F0 m 0 ls [])
  suffices hh9 : ∀ (H : Heap) (locs : List Loc), va_P E.1 vwCl (w_X8_takeWatch E a_ a_tape a_readPlace a_script a_scriptLong a_now a_refused a_shareX a_shareY a_askedRow a_kept a_aside a_spelled a_image c_thrown c_taped c_at c_part c_partFrom c_partNumber c_wrong c_partWord c_readLaw c_readBound c_readGoal c_readSites c_scripts c_sites c_asked c_outcome c_took c_acts c_drawn c_racer c_raced c_spelledMany c_hasImage c_readPlace c_now) H → va_D A (w_X8_takeWatch E a_ a_tape a_readPlace a_script a_scriptLong a_now a_refused a_shareX a_shareY a_askedRow a_kept a_aside a_spelled a_image c_thrown c_taped c_at c_part c_partFrom c_partNumber c_wrong c_partWord c_readLaw c_readBound c_readGoal c_readSites c_scripts c_sites c_asked c_outcome c_took c_acts c_drawn c_racer c_raced c_spelledMany c_hasImage c_readPlace c_now) → va_S A s.heap H locs → W p l e ({ frames := 2, cells := 0, slots := 0, locals := 50 } : Room) s m #[Value.ref a_] below meth c H locs 0 0 Q (F0 m 0 ls []) from hh9 s.heap [] hP hD hS
  clear hP hD hS
  intro H locs hP hD hS
  have h9 := fixPD (ws' := [k_X8 a_ c_thrown a_tape c_taped c_at c_part c_partFrom c_partNumber c_wrong c_partWord c_readLaw c_readBound c_readGoal c_readSites a_readPlace a_script a_scriptLong c_scripts a_now a_refused c_sites a_shareX a_shareY c_asked c_outcome a_askedRow c_took a_kept c_acts c_drawn a_aside c_racer c_raced a_spelled c_spelledMany a_image c_hasImage, k_I E a_readPlace 16 c_readPlace, k_I E a_now 265 c_now]) hP hD rfl
  clear hP hD
  obtain ⟨hP, hD⟩ := h9
  unfold F_X8_takeWatch at hF
  refine lv_aload_n hx hb (dq_42 0 bcX8_takeWatch_0 (j := 0) rfl rfl) rfl (lv_at hl 0 rfl) ?_
  refine lv_aload_n hx hb (dq_42 0 bcX8_takeWatch_0 (j := 1) rfl rfl) rfl (lv_at hl 0 rfl) ?_
  refine gt_X8_12 (v := .int c_readSites) hx hb hts i_f_X8_takeWatch_X8 hown hK hP 0 rfl (hts (.fieldLink RX8 120 "HushWatchModel" "readSites" "I") (List.mem_of_getElem? (i := 1) rfl)) rfl (dq_180 0 bcX8_takeWatch_0 (j := 2) (i := 120) rfl rfl rfl) ?_
  refine pt_X8_19 (v := .int c_readSites) hx hb hts i_f_X8_takeWatch_X8 hown hK hP hD hS 0 rfl (hts (.fieldLink RX8 196 "HushWatchModel" "sites" "I") (List.mem_of_getElem? (i := 2) rfl)) rfl rfl (Nat.le_of_ble_eq_true rfl) (dq_181 0 bcX8_takeWatch_0 (j := 5) (i := 196) rfl rfl rfl) (fun H locs hP hD hS => ?_)
  have h9 := fixPD (ws' := [k_X8 a_ c_thrown a_tape c_taped c_at c_part c_partFrom c_partNumber c_wrong c_partWord c_readLaw c_readBound c_readGoal c_readSites a_readPlace a_script a_scriptLong c_scripts a_now a_refused c_readSites a_shareX a_shareY c_asked c_outcome a_askedRow c_took a_kept c_acts c_drawn a_aside c_racer c_raced a_spelled c_spelledMany a_image c_hasImage, k_I E a_readPlace 16 c_readPlace, k_I E a_now 265 c_now]) hP hD rfl
  clear hP hD
  obtain ⟨hP, hD⟩ := h9
  refine lv_iconst (v := 0) hx hb (dq_3 0 bcX8_takeWatch_0 (j := 8) rfl rfl) (by decide) ?_
  refine lv_istore_n (lv' := [(1, .int (0 : Int32)), (0, .ref a_)]) hx hb (dq_60 0 bcX8_takeWatch_0 (j := 9) rfl rfl) rfl hl (by decide) rfl (fun ls hl => ?_)
  replace hF := bd1_s hF
  obtain ⟨c_now_4, hL_5, hF⟩ := hF
  refine lw_X8_takeWatch_10 l E K (c_thrown := c_thrown) (c_taped := c_taped) (c_at := c_at) (c_part := c_part) (c_partFrom := c_partFrom) (c_partNumber := c_partNumber) (c_wrong := c_wrong) (c_partWord := c_partWord) (c_readLaw := c_readLaw) (c_readBound := c_readBound) (c_readGoal := c_readGoal) (c_readSites := c_readSites) (c_scripts := c_scripts) (c_asked := c_asked) (c_outcome := c_outcome) (c_took := c_took) (c_drawn := c_drawn) (c_racer := c_racer) (c_raced := c_raced) (c_spelledMany := c_spelledMany) (c_readPlace := c_readPlace) (c_sites := c_readSites) (c_acts := c_acts) (c_hasImage := c_hasImage) hx hb hml hown hts hK hN hA K (0 : Int32) c_now c_now_4 hL_5 ?_ H locs ls (hP.sub [0, 1, 2] rfl) (hD.sub [0, 1, 2] (by decide) rfl) hS (lv_sub hl [1, 0] rfl)
  ·
    intro H locs ls hP hD hS hl
    have h9 := fixPD (ws' := [k_X8 a_ c_thrown a_tape c_taped c_at c_part c_partFrom c_partNumber c_wrong c_partWord c_readLaw c_readBound c_readGoal c_readSites a_readPlace a_script a_scriptLong c_scripts a_now a_refused c_readSites a_shareX a_shareY c_asked c_outcome a_askedRow c_took a_kept c_acts c_drawn a_aside c_racer c_raced a_spelled c_spelledMany a_image c_hasImage, k_I E a_readPlace 16 c_readPlace, k_I E a_now 265 c_now_4]) hP hD rfl
    clear hP hD
    obtain ⟨hP, hD⟩ := h9
    refine lv_iconst (v := 0) hx hb (dq_3 0 bcX8_takeWatch_0 (j := 30) rfl rfl) (by decide) ?_
    refine lv_istore_n (lv' := [(1, .int (0 : Int32)), (0, .ref a_)]) hx hb (dq_60 0 bcX8_takeWatch_0 (j := 31) rfl rfl) rfl hl (by decide) rfl (fun ls hl => ?_)
    replace hF := bd1_s hF
    obtain ⟨c_now_19, hL_20, hF⟩ := hF
    refine lw_X8_takeWatch_32 l E K (c_thrown := c_thrown) (c_taped := c_taped) (c_at := c_at) (c_part := c_part) (c_partFrom := c_partFrom) (c_partNumber := c_partNumber) (c_wrong := c_wrong) (c_partWord := c_partWord) (c_readLaw := c_readLaw) (c_readBound := c_readBound) (c_readGoal := c_readGoal) (c_readSites := c_readSites) (c_scripts := c_scripts) (c_asked := c_asked) (c_outcome := c_outcome) (c_took := c_took) (c_drawn := c_drawn) (c_racer := c_racer) (c_raced := c_raced) (c_spelledMany := c_spelledMany) (c_readPlace := c_readPlace) (c_sites := c_readSites) (c_acts := c_acts) (c_hasImage := c_hasImage) hx hb hml hown hts hK hN hA K (0 : Int32) c_now_4 c_now_19 hL_20 ?_ H locs ls (hP.sub [0, 1, 2] rfl) (hD.sub [0, 1, 2] (by decide) rfl) hS (lv_sub hl [1, 0] rfl)
    ·
      intro H locs ls hP hD hS hl
      have h9 := fixPD (ws' := [k_X8 a_ c_thrown a_tape c_taped c_at c_part c_partFrom c_partNumber c_wrong c_partWord c_readLaw c_readBound c_readGoal c_readSites a_readPlace a_script a_scriptLong c_scripts a_now a_refused c_readSites a_shareX a_shareY c_asked c_outcome a_askedRow c_took a_kept c_acts c_drawn a_aside c_racer c_raced a_spelled c_spelledMany a_image c_hasImage, k_I E a_readPlace 16 c_readPlace, k_I E a_now 265 c_now_19]) hP hD rfl
      clear hP hD
      obtain ⟨hP, hD⟩ := h9
      refine lv_aload_n hx hb (dq_42 96 bcX8_takeWatch_2 (j := 20) rfl rfl) rfl (lv_at hl 0 rfl) ?_
      refine gt_X8_17 (v := .ref a_now) hx hb hts i_f_X8_takeWatch_X8 hown hK hP 0 rfl (hts (.fieldLink RX8 22 "HushWatchModel" "now" "[I") (List.mem_of_getElem? (i := 3) rfl)) rfl (dq_180 96 bcX8_takeWatch_2 (j := 21) (i := 22) rfl rfl rfl) ?_
      refine lv_bipush (v := 64) hx hb (dq_16 96 bcX8_takeWatch_2 (j := 24) (i := 64) rfl rfl rfl) (by decide) ?_
      refine lv_aload_n hx hb (dq_42 96 bcX8_takeWatch_2 (j := 26) rfl rfl) rfl (lv_at hl 0 rfl) ?_
      refine gt_X8_9 (v := .int c_readLaw) hx hb hts i_f_X8_takeWatch_X8 hown hK hP 0 rfl (hts (.fieldLink RX8 149 "HushWatchModel" "readLaw" "I") (List.mem_of_getElem? (i := 5) rfl)) rfl (dq_180 96 bcX8_takeWatch_2 (j := 27) (i := 149) rfl rfl rfl) ?_
      refine va_iast hx hb hK hP hD hS 2 0 rfl rfl (vin rfl) (dq_79 96 bcX8_takeWatch_2 (j := 30) rfl rfl) (fun H locs hP hD hS => ?_)
      have h9 := fixPD (ws' := [k_X8 a_ c_thrown a_tape c_taped c_at c_part c_partFrom c_partNumber c_wrong c_partWord c_readLaw c_readBound c_readGoal c_readSites a_readPlace a_script a_scriptLong c_scripts a_now a_refused c_readSites a_shareX a_shareY c_asked c_outcome a_askedRow c_took a_kept c_acts c_drawn a_aside c_racer c_raced a_spelled c_spelledMany a_image c_hasImage, k_I E a_readPlace 16 c_readPlace, k_I E a_now 265 (upd c_now_19 64 c_readLaw)]) hP hD rfl
      clear hP hD
      obtain ⟨hP, hD⟩ := h9
      replace hF := nm_s hF
      obtain ⟨f_21, hf_21, hF⟩ := hF
      rw [← hf_21] at hP hD
      refine lv_aload_n hx hb (dq_42 96 bcX8_takeWatch_2 (j := 31) rfl rfl) rfl (lv_at hl 0 rfl) ?_
      refine gt_X8_17 (v := .ref a_now) hx hb hts i_f_X8_takeWatch_X8 hown hK hP 0 rfl (hts (.fieldLink RX8 22 "HushWatchModel" "now" "[I") (List.mem_of_getElem? (i := 3) rfl)) rfl (dq_180 96 bcX8_takeWatch_2 (j := 32) (i := 22) rfl rfl rfl) ?_
      refine lv_bipush (v := 65) hx hb (dq_16 96 bcX8_takeWatch_2 (j := 35) (i := 65) rfl rfl rfl) (by decide) ?_
      refine lv_aload_n hx hb (dq_42 96 bcX8_takeWatch_2 (j := 37) rfl rfl) rfl (lv_at hl 0 rfl) ?_
      refine gt_X8_10 (v := .int c_readBound) hx hb hts i_f_X8_takeWatch_X8 hown hK hP 0 rfl (hts (.fieldLink RX8 154 "HushWatchModel" "readBound" "I") (List.mem_of_getElem? (i := 6) rfl)) rfl (dq_180 96 bcX8_takeWatch_2 (j := 38) (i := 154) rfl rfl rfl) ?_
      refine va_iast hx hb hK hP hD hS 2 0 rfl rfl (vin rfl) (dq_79 96 bcX8_takeWatch_2 (j := 41) rfl rfl) (fun H locs hP hD hS => ?_)
      have h9 := fixPD (ws' := [k_X8 a_ c_thrown a_tape c_taped c_at c_part c_partFrom c_partNumber c_wrong c_partWord c_readLaw c_readBound c_readGoal c_readSites a_readPlace a_script a_scriptLong c_scripts a_now a_refused c_readSites a_shareX a_shareY c_asked c_outcome a_askedRow c_took a_kept c_acts c_drawn a_aside c_racer c_raced a_spelled c_spelledMany a_image c_hasImage, k_I E a_readPlace 16 c_readPlace, k_I E a_now 265 (upd f_21 65 c_readBound)]) hP hD rfl
      clear hP hD
      obtain ⟨hP, hD⟩ := h9
      replace hF := nm_s hF
      obtain ⟨f_22, hf_22, hF⟩ := hF
      rw [← hf_22] at hP hD
      refine lv_aload_n hx hb (dq_42 96 bcX8_takeWatch_2 (j := 42) rfl rfl) rfl (lv_at hl 0 rfl) ?_
      refine gt_X8_17 (v := .ref a_now) hx hb hts i_f_X8_takeWatch_X8 hown hK hP 0 rfl (hts (.fieldLink RX8 22 "HushWatchModel" "now" "[I") (List.mem_of_getElem? (i := 3) rfl)) rfl (dq_180 96 bcX8_takeWatch_2 (j := 43) (i := 22) rfl rfl rfl) ?_
      refine lv_bipush (v := 66) hx hb (dq_16 96 bcX8_takeWatch_2 (j := 46) (i := 66) rfl rfl rfl) (by decide) ?_
      refine lv_aload_n hx hb (dq_42 144 bcX8_takeWatch_3 (j := 0) rfl rfl) rfl (lv_at hl 0 rfl) ?_
      refine gt_X8_11 (v := .int c_readGoal) hx hb hts i_f_X8_takeWatch_X8 hown hK hP 0 rfl (hts (.fieldLink RX8 157 "HushWatchModel" "readGoal" "I") (List.mem_of_getElem? (i := 7) rfl)) rfl (dq_180 144 bcX8_takeWatch_3 (j := 1) (i := 157) rfl rfl rfl) ?_
      refine va_iast hx hb hK hP hD hS 2 0 rfl rfl (vin rfl) (dq_79 144 bcX8_takeWatch_3 (j := 4) rfl rfl) (fun H locs hP hD hS => ?_)
      have h9 := fixPD (ws' := [k_X8 a_ c_thrown a_tape c_taped c_at c_part c_partFrom c_partNumber c_wrong c_partWord c_readLaw c_readBound c_readGoal c_readSites a_readPlace a_script a_scriptLong c_scripts a_now a_refused c_readSites a_shareX a_shareY c_asked c_outcome a_askedRow c_took a_kept c_acts c_drawn a_aside c_racer c_raced a_spelled c_spelledMany a_image c_hasImage, k_I E a_readPlace 16 c_readPlace, k_I E a_now 265 (upd f_22 66 c_readGoal)]) hP hD rfl
      clear hP hD
      obtain ⟨hP, hD⟩ := h9
      replace hF := nm_s hF
      obtain ⟨f_23, hf_23, hF⟩ := hF
      rw [← hf_23] at hP hD
      refine lv_aload_n hx hb (dq_42 144 bcX8_takeWatch_3 (j := 5) rfl rfl) rfl (lv_at hl 0 rfl) ?_
      refine gt_X8_17 (v := .ref a_now) hx hb hts i_f_X8_takeWatch_X8 hown hK hP 0 rfl (hts (.fieldLink RX8 22 "HushWatchModel" "now" "[I") (List.mem_of_getElem? (i := 3) rfl)) rfl (dq_180 144 bcX8_takeWatch_3 (j := 6) (i := 22) rfl rfl rfl) ?_
      refine lv_bipush (v := 72) hx hb (dq_16 144 bcX8_takeWatch_3 (j := 9) (i := 72) rfl rfl rfl) (by decide) ?_
      refine lv_aload_n hx hb (dq_42 144 bcX8_takeWatch_3 (j := 11) rfl rfl) rfl (lv_at hl 0 rfl) ?_
      refine lv_aload_n hx hb (dq_42 144 bcX8_takeWatch_3 (j := 12) rfl rfl) rfl (lv_at hl 0 rfl) ?_
      refine lv_bipush (v := 16) hx hb (dq_16 144 bcX8_takeWatch_3 (j := 13) (i := 16) rfl rfl rfl) (by decide) ?_
      replace hF := bd1_s hF
      obtain ⟨r_24, hc_25, hF⟩ := hF
      have hPc : va_P E.1 vwCl (w_X8_sum E a_ a_tape a_readPlace a_script a_scriptLong a_now a_refused a_shareX a_shareY a_askedRow a_kept a_aside a_spelled a_image c_thrown c_taped c_at c_part c_partFrom c_partNumber c_wrong c_partWord c_readLaw c_readBound c_readGoal c_readSites c_scripts c_readSites c_asked c_outcome c_took c_acts c_drawn c_racer c_raced c_spelledMany c_hasImage f_23) H := hP.sub (ws' := [k_X8 a_ c_thrown a_tape c_taped c_at c_part c_partFrom c_partNumber c_wrong c_partWord c_readLaw c_readBound c_readGoal c_readSites a_readPlace a_script a_scriptLong c_scripts a_now a_refused c_readSites a_shareX a_shareY c_asked c_outcome a_askedRow c_took a_kept c_acts c_drawn a_aside c_racer c_raced a_spelled c_spelledMany a_image c_hasImage, k_I E a_now 265 f_23]) [0, 2] rfl
      have hrc := va_recv hK hPc (ci := 9) (q0 := 0) rfl rfl
      refine pE_i (va_runV (As := [.int (16 : Int32)]) (rest := [.ref a_, .int (72 : Int32), .ref a_now])  ⟨hx, hb, hml, hown, hts⟩ (f_X8_sum l E K (a_ := a_) (a_tape := a_tape) (a_readPlace := a_readPlace) (a_script := a_script) (a_scriptLong := a_scriptLong) (a_now := a_now) (a_refused := a_refused) (a_shareX := a_shareX) (a_shareY := a_shareY) (a_askedRow := a_askedRow) (a_kept := a_kept) (a_aside := a_aside) (a_spelled := a_spelled) (a_image := a_image) (p1 := (16 : Int32)) (c_thrown := c_thrown) (c_taped := c_taped) (c_at := c_at) (c_part := c_part) (c_partFrom := c_partFrom) (c_partNumber := c_partNumber) (c_wrong := c_wrong) (c_partWord := c_partWord) (c_readLaw := c_readLaw) (c_readBound := c_readBound) (c_readGoal := c_readGoal) (c_readSites := c_readSites) (c_scripts := c_scripts) (c_sites := c_readSites) (c_asked := c_asked) (c_outcome := c_outcome) (c_took := c_took) (c_acts := c_acts) (c_drawn := c_drawn) (c_racer := c_racer) (c_raced := c_raced) (c_spelledMany := c_spelledMany) (c_hasImage := c_hasImage) (c_now := f_23) hc_25) (cwV 1 hts g_f_X8_takeWatch_f_X8_sum_199 rfl rfl rfl hd_X8_sum ⟨Nat.le_of_ble_eq_true rfl, Nat.le_of_ble_eq_true rfl⟩) ⟨pP.blind, hrc, (pP.pre ⟨hK, hN⟩ hPc)⟩ rfl rfl hl.1 rfl (lv_room (Nat.le_of_ble_eq_true rfl)) (dq_182 144 bcX8_takeWatch_3 (j := 15) (i := 199) rfl rfl rfl) ⟨Nat.le_of_ble_eq_true rfl, Nat.le_of_ble_eq_true rfl⟩) ?_
      refine lv_aload_n hx hb (dq_42 144 bcX8_takeWatch_3 (j := 18) rfl rfl) rfl (lv_at hl 0 rfl) ?_
      refine lv_bipush (v := 24) hx hb (dq_16 144 bcX8_takeWatch_3 (j := 19) (i := 24) rfl rfl rfl) (by decide) ?_
      replace hF := bd1_s hF
      obtain ⟨r_26, hc_27, hF⟩ := hF
      have hPc : va_P E.1 vwCl (w_X8_sum E a_ a_tape a_readPlace a_script a_scriptLong a_now a_refused a_shareX a_shareY a_askedRow a_kept a_aside a_spelled a_image c_thrown c_taped c_at c_part c_partFrom c_partNumber c_wrong c_partWord c_readLaw c_readBound c_readGoal c_readSites c_scripts c_readSites c_asked c_outcome c_took c_acts c_drawn c_racer c_raced c_spelledMany c_hasImage f_23) H := hP.sub (ws' := [k_X8 a_ c_thrown a_tape c_taped c_at c_part c_partFrom c_partNumber c_wrong c_partWord c_readLaw c_readBound c_readGoal c_readSites a_readPlace a_script a_scriptLong c_scripts a_now a_refused c_readSites a_shareX a_shareY c_asked c_outcome a_askedRow c_took a_kept c_acts c_drawn a_aside c_racer c_raced a_spelled c_spelledMany a_image c_hasImage, k_I E a_now 265 f_23]) [0, 2] rfl
      have hrc := va_recv hK hPc (ci := 9) (q0 := 0) rfl rfl
      refine pE_i (va_runV (As := [.int (24 : Int32)]) (rest := [.int r_24, .ref a_, .int (72 : Int32), .ref a_now])  ⟨hx, hb, hml, hown, hts⟩ (f_X8_sum l E K (a_ := a_) (a_tape := a_tape) (a_readPlace := a_readPlace) (a_script := a_script) (a_scriptLong := a_scriptLong) (a_now := a_now) (a_refused := a_refused) (a_shareX := a_shareX) (a_shareY := a_shareY) (a_askedRow := a_askedRow) (a_kept := a_kept) (a_aside := a_aside) (a_spelled := a_spelled) (a_image := a_image) (p1 := (24 : Int32)) (c_thrown := c_thrown) (c_taped := c_taped) (c_at := c_at) (c_part := c_part) (c_partFrom := c_partFrom) (c_partNumber := c_partNumber) (c_wrong := c_wrong) (c_partWord := c_partWord) (c_readLaw := c_readLaw) (c_readBound := c_readBound) (c_readGoal := c_readGoal) (c_readSites := c_readSites) (c_scripts := c_scripts) (c_sites := c_readSites) (c_asked := c_asked) (c_outcome := c_outcome) (c_took := c_took) (c_acts := c_acts) (c_drawn := c_drawn) (c_racer := c_racer) (c_raced := c_raced) (c_spelledMany := c_spelledMany) (c_hasImage := c_hasImage) (c_now := f_23) hc_27) (cwV 1 hts g_f_X8_takeWatch_f_X8_sum_199 rfl rfl rfl hd_X8_sum ⟨Nat.le_of_ble_eq_true rfl, Nat.le_of_ble_eq_true rfl⟩) ⟨pP.blind, hrc, (pP.pre ⟨hK, hN⟩ hPc)⟩ rfl rfl hl.1 rfl (lv_room (Nat.le_of_ble_eq_true rfl)) (dq_182 144 bcX8_takeWatch_3 (j := 21) (i := 199) rfl rfl rfl) ⟨Nat.le_of_ble_eq_true rfl, Nat.le_of_ble_eq_true rfl⟩) ?_
      replace hF := bd1_s hF
      obtain ⟨r_28, hc_29, hF⟩ := hF
      have hPc : va_P E.1 vwCl (w_X8_isAllowed E a_ a_tape a_readPlace a_script a_scriptLong a_now a_refused a_shareX a_shareY a_askedRow a_kept a_aside a_spelled a_image c_thrown c_taped c_at c_part c_partFrom c_partNumber c_wrong c_partWord c_readLaw c_readBound c_readGoal c_readSites c_scripts c_readSites c_asked c_outcome c_took c_acts c_drawn c_racer c_raced c_spelledMany c_hasImage f_23) H := hP.sub (ws' := [k_X8 a_ c_thrown a_tape c_taped c_at c_part c_partFrom c_partNumber c_wrong c_partWord c_readLaw c_readBound c_readGoal c_readSites a_readPlace a_script a_scriptLong c_scripts a_now a_refused c_readSites a_shareX a_shareY c_asked c_outcome a_askedRow c_took a_kept c_acts c_drawn a_aside c_racer c_raced a_spelled c_spelledMany a_image c_hasImage, k_I E a_now 265 f_23]) [0, 2] rfl
      have hrc := va_recv hK hPc (ci := 9) (q0 := 0) rfl rfl
      refine pE_z (va_runV (As := [.int r_24, .int r_26]) (rest := [.int (72 : Int32), .ref a_now])  ⟨hx, hb, hml, hown, hts⟩ (f_X8_isAllowed l E (a_ := a_) (a_tape := a_tape) (a_readPlace := a_readPlace) (a_script := a_script) (a_scriptLong := a_scriptLong) (a_now := a_now) (a_refused := a_refused) (a_shareX := a_shareX) (a_shareY := a_shareY) (a_askedRow := a_askedRow) (a_kept := a_kept) (a_aside := a_aside) (a_spelled := a_spelled) (a_image := a_image) (p1 := r_24) (p2 := r_26) (c_thrown := c_thrown) (c_taped := c_taped) (c_at := c_at) (c_part := c_part) (c_partFrom := c_partFrom) (c_partNumber := c_partNumber) (c_wrong := c_wrong) (c_partWord := c_partWord) (c_readLaw := c_readLaw) (c_readBound := c_readBound) (c_readGoal := c_readGoal) (c_readSites := c_readSites) (c_scripts := c_scripts) (c_sites := c_readSites) (c_asked := c_asked) (c_outcome := c_outcome) (c_took := c_took) (c_acts := c_acts) (c_drawn := c_drawn) (c_racer := c_racer) (c_raced := c_raced) (c_spelledMany := c_spelledMany) (c_hasImage := c_hasImage) (c_now := f_23) hc_29) (cwV 2 hts g_f_X8_takeWatch_f_X8_isAllowed_202 rfl rfl rfl hd_X8_isAllowed ⟨Nat.le_of_ble_eq_true rfl, Nat.le_of_ble_eq_true rfl⟩) ⟨pP.blind, hrc, (pP.pre ⟨hK, hN⟩ hPc)⟩ rfl rfl hl.1 rfl (lv_room (Nat.le_of_ble_eq_true rfl)) (dq_182 144 bcX8_takeWatch_3 (j := 24) (i := 202) rfl rfl rfl) ⟨Nat.le_of_ble_eq_true rfl, Nat.le_of_ble_eq_true rfl⟩) (fun hb_30 => ?_)
      refine lv_if_eq (tgt := 178) hx hb (dq_153 144 bcX8_takeWatch_3 (j := 27) (i := 7) rfl rfl rfl) (by decide) (fun c_31 => ?_) (fun c_31 => ?_)
      ·
        replace hF := ip c_31 hF
        refine lv_iconst (v := 1) hx hb (dq_4 144 bcX8_takeWatch_3 (j := 34) rfl rfl) (by decide) ?_
        refine va_iast hx hb hK hP hD hS 2 0 rfl rfl (vin rfl) (dq_79 144 bcX8_takeWatch_3 (j := 35) rfl rfl) (fun H locs hP hD hS => ?_)
        have h9 := fixPD (ws' := [k_X8 a_ c_thrown a_tape c_taped c_at c_part c_partFrom c_partNumber c_wrong c_partWord c_readLaw c_readBound c_readGoal c_readSites a_readPlace a_script a_scriptLong c_scripts a_now a_refused c_readSites a_shareX a_shareY c_asked c_outcome a_askedRow c_took a_kept c_acts c_drawn a_aside c_racer c_raced a_spelled c_spelledMany a_image c_hasImage, k_I E a_readPlace 16 c_readPlace, k_I E a_now 265 (upd f_23 72 (1 : Int32))]) hP hD rfl
        clear hP hD
        obtain ⟨hP, hD⟩ := h9
        replace hF := nm_s hF
        obtain ⟨f_32, hf_32, hF⟩ := hF
        rw [← hf_32] at hP hD
        refine lv_aload_n hx hb (dq_42 144 bcX8_takeWatch_3 (j := 36) rfl rfl) rfl (lv_at hl 0 rfl) ?_
        refine lv_iconst (v := 0) hx hb (dq_3 144 bcX8_takeWatch_3 (j := 37) rfl rfl) (by decide) ?_
        refine pt_X8_27 (v := .int (0 : Int32)) hx hb hts i_f_X8_takeWatch_X8 hown hK hP hD hS 0 rfl (hts (.fieldLink RX8 205 "HushWatchModel" "acts" "I") (List.mem_of_getElem? (i := 8) rfl)) rfl rfl (Nat.le_of_ble_eq_true rfl) (dq_181 144 bcX8_takeWatch_3 (j := 38) (i := 205) rfl rfl rfl) (fun H locs hP hD hS => ?_)
        have h9 := fixPD (ws' := [k_X8 a_ c_thrown a_tape c_taped c_at c_part c_partFrom c_partNumber c_wrong c_partWord c_readLaw c_readBound c_readGoal c_readSites a_readPlace a_script a_scriptLong c_scripts a_now a_refused c_readSites a_shareX a_shareY c_asked c_outcome a_askedRow c_took a_kept (0 : Int32) c_drawn a_aside c_racer c_raced a_spelled c_spelledMany a_image c_hasImage, k_I E a_readPlace 16 c_readPlace, k_I E a_now 265 f_32]) hP hD rfl
        clear hP hD
        obtain ⟨hP, hD⟩ := h9
        refine lv_aload_n hx hb (dq_42 144 bcX8_takeWatch_3 (j := 41) rfl rfl) rfl (lv_at hl 0 rfl) ?_
        refine lv_iconst (v := 0) hx hb (dq_3 144 bcX8_takeWatch_3 (j := 42) rfl rfl) (by decide) ?_
        refine pt_X8_35 (v := .int (0 : Int32)) hx hb hts i_f_X8_takeWatch_X8 hown hK hP hD hS 0 rfl (hts (.fieldLink RX8 208 "HushWatchModel" "hasImage" "Z") (List.mem_of_getElem? (i := 9) rfl)) rfl rfl (Nat.le_of_ble_eq_true rfl) (dq_181 144 bcX8_takeWatch_3 (j := 43) (i := 208) rfl rfl rfl) (fun H locs hP hD hS => ?_)
        have h9 := fixPD (ws' := [k_X8 a_ c_thrown a_tape c_taped c_at c_part c_partFrom c_partNumber c_wrong c_partWord c_readLaw c_readBound c_readGoal c_readSites a_readPlace a_script a_scriptLong c_scripts a_now a_refused c_readSites a_shareX a_shareY c_asked c_outcome a_askedRow c_took a_kept (0 : Int32) c_drawn a_aside c_racer c_raced a_spelled c_spelledMany a_image (0 : Int32), k_I E a_readPlace 16 c_readPlace, k_I E a_now 265 f_32]) hP hD rfl
        clear hP hD
        obtain ⟨hP, hD⟩ := h9
        refine lv_aload_n hx hb (dq_42 144 bcX8_takeWatch_3 (j := 46) rfl rfl) rfl (lv_at hl 0 rfl) ?_
        refine gt_X8_19 (v := .int c_readSites) hx hb hts i_f_X8_takeWatch_X8 hown hK hP 0 rfl (hts (.fieldLink RX8 196 "HushWatchModel" "sites" "I") (List.mem_of_getElem? (i := 2) rfl)) rfl (dq_180 144 bcX8_takeWatch_3 (j := 47) (i := 196) rfl rfl rfl) ?_
        rw [hQ]
        have h9 := fin9 (P := fun u9 : Int32 × (Nat → Int32) × Int32 × Int32 × Int32 => c_readSites = u9.1 ∧ va_P E.1 vwCl (w_X8_takeWatch E a_ a_tape a_readPlace a_script a_scriptLong a_now a_refused a_shareX a_shareY a_askedRow a_kept a_aside a_spelled a_image c_thrown c_taped c_at c_part c_partFrom c_partNumber c_wrong c_partWord c_readLaw c_readBound c_readGoal c_readSites c_scripts u9.2.2.1 c_asked c_outcome c_took u9.2.2.2.1 c_drawn c_racer c_raced c_spelledMany u9.2.2.2.2 c_readPlace u9.2.1) H ∧ va_D A (w_X8_takeWatch E a_ a_tape a_readPlace a_script a_scriptLong a_now a_refused a_shareX a_shareY a_askedRow a_kept a_aside a_spelled a_image c_thrown c_taped c_at c_part c_partFrom c_partNumber c_wrong c_partWord c_readLaw c_readBound c_readGoal c_readSites c_scripts u9.2.2.1 c_asked c_outcome c_took u9.2.2.2.1 c_drawn c_racer c_raced c_spelledMany u9.2.2.2.2 c_readPlace u9.2.1)) hF ⟨rfl, hP, hD⟩
        obtain ⟨e9_0, hP9, hD9⟩ := h9
        exact W.iret (v := c_readSites) hx hb hr (fun tt ht hW => ⟨⟨_, (), rfl, e9_0, ht ▸ hP9, hD9⟩, hS.F ht⟩) hS.2.2 (dq_172 192 bcX8_takeWatch_4 (j := 2) rfl rfl)
      ·
        replace hF := inn c_31 hF
        refine lv_iconst (v := 0) hx hb (dq_3 144 bcX8_takeWatch_3 (j := 30) rfl rfl) (by decide) ?_
        refine lv_goto (tgt := 179) hx hb (dq_167 144 bcX8_takeWatch_3 (j := 31) (i := 4) rfl rfl rfl) (by decide) ?_
        refine va_iast hx hb hK hP hD hS 2 0 rfl rfl (vin rfl) (dq_79 144 bcX8_takeWatch_3 (j := 35) rfl rfl) (fun H locs hP hD hS => ?_)
        have h9 := fixPD (ws' := [k_X8 a_ c_thrown a_tape c_taped c_at c_part c_partFrom c_partNumber c_wrong c_partWord c_readLaw c_readBound c_readGoal c_readSites a_readPlace a_script a_scriptLong c_scripts a_now a_refused c_readSites a_shareX a_shareY c_asked c_outcome a_askedRow c_took a_kept c_acts c_drawn a_aside c_racer c_raced a_spelled c_spelledMany a_image c_hasImage, k_I E a_readPlace 16 c_readPlace, k_I E a_now 265 (upd f_23 72 (0 : Int32))]) hP hD rfl
        clear hP hD
        obtain ⟨hP, hD⟩ := h9
        replace hF := nm_s hF
        obtain ⟨f_33, hf_33, hF⟩ := hF
        rw [← hf_33] at hP hD
        refine lv_aload_n hx hb (dq_42 144 bcX8_takeWatch_3 (j := 36) rfl rfl) rfl (lv_at hl 0 rfl) ?_
        refine lv_iconst (v := 0) hx hb (dq_3 144 bcX8_takeWatch_3 (j := 37) rfl rfl) (by decide) ?_
        refine pt_X8_27 (v := .int (0 : Int32)) hx hb hts i_f_X8_takeWatch_X8 hown hK hP hD hS 0 rfl (hts (.fieldLink RX8 205 "HushWatchModel" "acts" "I") (List.mem_of_getElem? (i := 8) rfl)) rfl rfl (Nat.le_of_ble_eq_true rfl) (dq_181 144 bcX8_takeWatch_3 (j := 38) (i := 205) rfl rfl rfl) (fun H locs hP hD hS => ?_)
        have h9 := fixPD (ws' := [k_X8 a_ c_thrown a_tape c_taped c_at c_part c_partFrom c_partNumber c_wrong c_partWord c_readLaw c_readBound c_readGoal c_readSites a_readPlace a_script a_scriptLong c_scripts a_now a_refused c_readSites a_shareX a_shareY c_asked c_outcome a_askedRow c_took a_kept (0 : Int32) c_drawn a_aside c_racer c_raced a_spelled c_spelledMany a_image c_hasImage, k_I E a_readPlace 16 c_readPlace, k_I E a_now 265 f_33]) hP hD rfl
        clear hP hD
        obtain ⟨hP, hD⟩ := h9
        refine lv_aload_n hx hb (dq_42 144 bcX8_takeWatch_3 (j := 41) rfl rfl) rfl (lv_at hl 0 rfl) ?_
        refine lv_iconst (v := 0) hx hb (dq_3 144 bcX8_takeWatch_3 (j := 42) rfl rfl) (by decide) ?_
        refine pt_X8_35 (v := .int (0 : Int32)) hx hb hts i_f_X8_takeWatch_X8 hown hK hP hD hS 0 rfl (hts (.fieldLink RX8 208 "HushWatchModel" "hasImage" "Z") (List.mem_of_getElem? (i := 9) rfl)) rfl rfl (Nat.le_of_ble_eq_true rfl) (dq_181 144 bcX8_takeWatch_3 (j := 43) (i := 208) rfl rfl rfl) (fun H locs hP hD hS => ?_)
        have h9 := fixPD (ws' := [k_X8 a_ c_thrown a_tape c_taped c_at c_part c_partFrom c_partNumber c_wrong c_partWord c_readLaw c_readBound c_readGoal c_readSites a_readPlace a_script a_scriptLong c_scripts a_now a_refused c_readSites a_shareX a_shareY c_asked c_outcome a_askedRow c_took a_kept (0 : Int32) c_drawn a_aside c_racer c_raced a_spelled c_spelledMany a_image (0 : Int32), k_I E a_readPlace 16 c_readPlace, k_I E a_now 265 f_33]) hP hD rfl
        clear hP hD
        obtain ⟨hP, hD⟩ := h9
        refine lv_aload_n hx hb (dq_42 144 bcX8_takeWatch_3 (j := 46) rfl rfl) rfl (lv_at hl 0 rfl) ?_
        refine gt_X8_19 (v := .int c_readSites) hx hb hts i_f_X8_takeWatch_X8 hown hK hP 0 rfl (hts (.fieldLink RX8 196 "HushWatchModel" "sites" "I") (List.mem_of_getElem? (i := 2) rfl)) rfl (dq_180 144 bcX8_takeWatch_3 (j := 47) (i := 196) rfl rfl rfl) ?_
        rw [hQ]
        have h9 := fin9 (P := fun u9 : Int32 × (Nat → Int32) × Int32 × Int32 × Int32 => c_readSites = u9.1 ∧ va_P E.1 vwCl (w_X8_takeWatch E a_ a_tape a_readPlace a_script a_scriptLong a_now a_refused a_shareX a_shareY a_askedRow a_kept a_aside a_spelled a_image c_thrown c_taped c_at c_part c_partFrom c_partNumber c_wrong c_partWord c_readLaw c_readBound c_readGoal c_readSites c_scripts u9.2.2.1 c_asked c_outcome c_took u9.2.2.2.1 c_drawn c_racer c_raced c_spelledMany u9.2.2.2.2 c_readPlace u9.2.1) H ∧ va_D A (w_X8_takeWatch E a_ a_tape a_readPlace a_script a_scriptLong a_now a_refused a_shareX a_shareY a_askedRow a_kept a_aside a_spelled a_image c_thrown c_taped c_at c_part c_partFrom c_partNumber c_wrong c_partWord c_readLaw c_readBound c_readGoal c_readSites c_scripts u9.2.2.1 c_asked c_outcome c_took u9.2.2.2.1 c_drawn c_racer c_raced c_spelledMany u9.2.2.2.2 c_readPlace u9.2.1)) hF ⟨rfl, hP, hD⟩
        obtain ⟨e9_0, hP9, hD9⟩ := h9
        exact W.iret (v := c_readSites) hx hb hr (fun tt ht hW => ⟨⟨_, (), rfl, e9_0, ht ▸ hP9, hD9⟩, hS.F ht⟩) hS.2.2 (dq_172 192 bcX8_takeWatch_4 (j := 2) rfl rfl)

def F_X8_tells (p1 : Int32) (p2 : Int32) (c_now : Nat → Int32) (c_sites : Int32) : Option (Int32) :=
  bd1 (F_X8_isWatch c_sites) (fun r_1 => if r_1 = (0 : Int32) then some (0 : Int32) else bd1 (F_X8_in p1.toInt64 (-1000000 : Int64) (1000000 : Int64)) (fun r_5 => if r_5 = (0 : Int32) then some (0 : Int32) else bd1 (F_X8_in p2.toInt64 (-1000000 : Int64) (1000000 : Int64)) (fun r_9 => if r_9 = (0 : Int32) then some (0 : Int32) else bd1 (F_X8_isAllowed p1 p2 c_now) (fun r_13 => if r_13 = (0 : Int32) then some (0 : Int32) else some (1 : Int32)))))
abbrev w_X8_tells (E : EE) (a_ a_tape a_readPlace a_script a_scriptLong a_now a_refused a_shareX a_shareY a_askedRow a_kept a_aside a_spelled a_image : Nat) (c_thrown : Int32) (c_taped : Int32) (c_at : Int32) (c_part : Int32) (c_partFrom : Int32) (c_partNumber : Int32) (c_wrong : Int32) (c_partWord : Int64) (c_readLaw : Int32) (c_readBound : Int32) (c_readGoal : Int32) (c_readSites : Int32) (c_scripts : Int32) (c_sites : Int32) (c_asked : Int32) (c_outcome : Int32) (c_took : Int32) (c_acts : Int32) (c_drawn : Int64) (c_racer : Int32) (c_raced : Int32) (c_spelledMany : Int32) (c_hasImage : Int32) (c_now : Nat → Int32) : va_W := [k_X8 a_ c_thrown a_tape c_taped c_at c_part c_partFrom c_partNumber c_wrong c_partWord c_readLaw c_readBound c_readGoal c_readSites a_readPlace a_script a_scriptLong c_scripts a_now a_refused c_sites a_shareX a_shareY c_asked c_outcome a_askedRow c_took a_kept c_acts c_drawn a_aside c_racer c_raced a_spelled c_spelledMany a_image c_hasImage, k_I E a_now 265 c_now]
def v_f_X8_tells : List Cond := List.cons (.code yX8_tells cX8_tells 3 (some .boolean)) (HAppend.hAppend (α := List Cond) (β := List Cond) (γ := List Cond) [.constantLong RX8 379 (-1000000), .constantLong RX8 381 (1000000), .methodLink RX8 299 yX8_isWatch, .instanceMethod yX8_isWatch, .selects RX8 yX8_isWatch yX8_isWatch, .initialized RX8, .methodLink RX8 60 yX8_in, .static yX8_in, .methodLink RX8 202 yX8_isAllowed, .instanceMethod yX8_isAllowed, .selects RX8 yX8_isAllowed yX8_isAllowed] (HAppend.hAppend (α := List Cond) (β := List Cond) (γ := List Cond) v_f_X8_isWatch (HAppend.hAppend (α := List Cond) (β := List Cond) (γ := List Cond) v_f_X8_in (HAppend.hAppend (α := List Cond) (β := List Cond) (γ := List Cond) v_f_X8_isAllowed []))))
theorem gw_f_X8_tells : v_f_X8_tells.all goodWord = true := gw_c2 (by decide +kernel) (gw_ap gw_f_X8_isWatch (gw_ap gw_f_X8_in (gw_ap gw_f_X8_isAllowed gw_nil)))
theorem g_f_X8_tells_f_X8_isWatch_299 : GoodIn v_f_X8_tells (wsV RX8 299 RX8 yX8_isWatch v_f_X8_isWatch) := goodIn_in gw_f_X8_tells (in4 3 4 5 6 rfl rfl rfl rfl (fun _ h => List.mem_cons_of_mem _ (List.mem_append_right _ (List.mem_append_left _ h))))
theorem g_f_X8_tells_f_X8_in_60 : GoodIn v_f_X8_tells (va_wsS RX8 60 yX8_in v_f_X8_in) := goodIn_in gw_f_X8_tells (in3 7 8 6 rfl rfl rfl (fun _ h => List.mem_cons_of_mem _ (List.mem_append_right _ (List.mem_append_right _ (List.mem_append_left _ h)))))
theorem g_f_X8_tells_f_X8_isAllowed_202 : GoodIn v_f_X8_tells (wsV RX8 202 RX8 yX8_isAllowed v_f_X8_isAllowed) := goodIn_in gw_f_X8_tells (in4 9 10 11 6 rfl rfl rfl rfl (fun _ h => List.mem_cons_of_mem _ (List.mem_append_right _ (List.mem_append_right _ (List.mem_append_right _ (List.mem_append_left _ h))))))
theorem hd_X8_tells : yX8_tells.cls = RX8 ∧ yX8_tells.cls ≠ "java/lang/invoke/MethodHandle" ∧ yX8_tells.cls ≠ "java/lang/invoke/VarHandle" ∧ (parseMethodDescriptor yX8_tells.desc).map (fun d => d.parameters.length) = some 2 := by decide +kernel
set_option maxHeartbeats 4000000 in
set_option maxRecDepth 100000 in
theorem f_X8_tells (l : Launch) (E : EE) {a_ a_tape a_readPlace a_script a_scriptLong a_now a_refused a_shareX a_shareY a_askedRow a_kept a_aside a_spelled a_image : Nat} {p1 : Int32} {p2 : Int32} {c_thrown : Int32} {c_taped : Int32} {c_at : Int32} {c_part : Int32} {c_partFrom : Int32} {c_partNumber : Int32} {c_wrong : Int32} {c_partWord : Int64} {c_readLaw : Int32} {c_readBound : Int32} {c_readGoal : Int32} {c_readSites : Int32} {c_scripts : Int32} {c_sites : Int32} {c_asked : Int32} {c_outcome : Int32} {c_took : Int32} {c_acts : Int32} {c_drawn : Int64} {c_racer : Int32} {c_raced : Int32} {c_spelledMany : Int32} {c_hasImage : Int32} {c_now : Nat → Int32} {rr : Int32} (hF : F_X8_tells p1 p2 c_now c_sites = some rr) : Met l yX8_tells v_f_X8_tells (({ frames := 2, cells := 0, slots := 0, locals := 50 } : Room)) (va_Pc [.ref a_, .int p1, .int p2] (pP E (w_X8_tells E a_ a_tape a_readPlace a_script a_scriptLong a_now a_refused a_shareX a_shareY a_askedRow a_kept a_aside a_spelled a_image c_thrown c_taped c_at c_part c_partFrom c_partNumber c_wrong c_partWord c_readLaw c_readBound c_readGoal c_readSites c_scripts c_sites c_asked c_outcome c_took c_acts c_drawn c_racer c_raced c_spelledMany c_hasImage c_now))) (vp_Si (fun q : Int32 => q = rr ∧ (q = 0 ∨ q = 1))) 0 0 (fun _ => False) := by
  refine Met.ofW (cc := cX8_tells) (maxL := 3) (ret := (some .boolean)) (by decide) rfl ?_
  intro p e s m args below meth c s₁ B hml hv
  obtain ⟨rfl, ⟨hK, hN⟩, hP⟩ := hv
  have hx := B.exec
  have hb := B.bytes
  have hr := B.returns
  have hts := atoms_spec (ws := v_f_X8_tells) B.pre
  have hown : s.vm.findClass RX8 = some m.cls := own_of hd_X8_tells.1 (findClass_of_methodNamed B.named)
  have hlocks : meth.locks = false := B.notSynchronized
  replace hP : va_P E.1 vwCl [k_X8 a_ c_thrown a_tape c_taped c_at c_part c_partFrom c_partNumber c_wrong c_partWord c_readLaw c_readBound c_readGoal c_readSites a_readPlace a_script a_scriptLong c_scripts a_now a_refused c_sites a_shareX a_shareY c_asked c_outcome a_askedRow c_took a_kept c_acts c_drawn a_aside c_racer c_raced a_spelled c_spelledMany a_image c_hasImage, k_I E a_now 265 c_now] s.heap := hP
  have hl := lv_entry ([.ref a_, .int p1, .int p2]) (n := 3) (Nat.le_of_ble_eq_true rfl)
  rw [lg_entry_eq]
  generalize (lg_sl ([.ref a_, .int p1, .int p2]) ++ List.replicate (3 - (lg_sl ([.ref a_, .int p1, .int p2])).length) Slot.unset).toArray = ls at hl ⊢
  have hl : lv_has ls 3 [(0, .ref a_), (1, .int p1), (2, .int p2)] := hl
  obtain ⟨Q, hQ⟩ : ∃ Q : State → Prop, Q = MQ below (vp_Si (fun q : Int32 => q = rr ∧ (q = 0 ∨ q = 1))) #[Value.ref a_, Value.int p1, Value.int p2] s 0 0 (fun _ => False) := ⟨_, rfl⟩
  rw [← hQ]
  change W p l e ({ frames := 2, cells := 0, slots := 0, locals := 50 } : Room) s m #[Value.ref a_, Value.int p1, Value.int p2] below meth c s.heap [] 0 0 Q (F0 m 0 ls [])
  unfold F_X8_tells at hF
  refine lv_aload_n hx hb (dq_42 0 bcX8_tells_0 (j := 0) rfl rfl) rfl (lv_at hl 0 rfl) ?_
  replace hF := bd1_s hF
  obtain ⟨r_1, hc_2, hF⟩ := hF
  have hPc : va_P E.1 vwCl (w_X8_isWatch E a_ a_tape a_readPlace a_script a_scriptLong a_now a_refused a_shareX a_shareY a_askedRow a_kept a_aside a_spelled a_image c_thrown c_taped c_at c_part c_partFrom c_partNumber c_wrong c_partWord c_readLaw c_readBound c_readGoal c_readSites c_scripts c_sites c_asked c_outcome c_took c_acts c_drawn c_racer c_raced c_spelledMany c_hasImage) s.heap := hP.sub (ws' := [k_X8 a_ c_thrown a_tape c_taped c_at c_part c_partFrom c_partNumber c_wrong c_partWord c_readLaw c_readBound c_readGoal c_readSites a_readPlace a_script a_scriptLong c_scripts a_now a_refused c_sites a_shareX a_shareY c_asked c_outcome a_askedRow c_took a_kept c_acts c_drawn a_aside c_racer c_raced a_spelled c_spelledMany a_image c_hasImage]) [0] rfl
  have hrc := va_recv hK hPc (ci := 9) (q0 := 0) rfl rfl
  refine pE_z (va_runV (As := []) (rest := [])  ⟨hx, hb, hml, hown, hts⟩ (f_X8_isWatch l E (a_ := a_) (a_tape := a_tape) (a_readPlace := a_readPlace) (a_script := a_script) (a_scriptLong := a_scriptLong) (a_now := a_now) (a_refused := a_refused) (a_shareX := a_shareX) (a_shareY := a_shareY) (a_askedRow := a_askedRow) (a_kept := a_kept) (a_aside := a_aside) (a_spelled := a_spelled) (a_image := a_image) (c_thrown := c_thrown) (c_taped := c_taped) (c_at := c_at) (c_part := c_part) (c_partFrom := c_partFrom) (c_partNumber := c_partNumber) (c_wrong := c_wrong) (c_partWord := c_partWord) (c_readLaw := c_readLaw) (c_readBound := c_readBound) (c_readGoal := c_readGoal) (c_readSites := c_readSites) (c_scripts := c_scripts) (c_sites := c_sites) (c_asked := c_asked) (c_outcome := c_outcome) (c_took := c_took) (c_acts := c_acts) (c_drawn := c_drawn) (c_racer := c_racer) (c_raced := c_raced) (c_spelledMany := c_spelledMany) (c_hasImage := c_hasImage) hc_2) (cwV 0 hts g_f_X8_tells_f_X8_isWatch_299 rfl rfl rfl hd_X8_isWatch ⟨Nat.le_of_ble_eq_true rfl, Nat.le_of_ble_eq_true rfl⟩) ⟨pP.blind, hrc, (pP.pre ⟨hK, hN⟩ hPc)⟩ rfl rfl hl.1 rfl (lv_room (Nat.le_of_ble_eq_true rfl)) (dq_182 0 bcX8_tells_0 (j := 1) (i := 299) rfl rfl rfl) ⟨Nat.le_of_ble_eq_true rfl, Nat.le_of_ble_eq_true rfl⟩) (fun hb_3 => ?_)
  refine lv_if_eq (tgt := 48) hx hb (dq_153 0 bcX8_tells_0 (j := 4) (i := 44) rfl rfl rfl) (by decide) (fun c_4 => ?_) (fun c_4 => ?_)
  ·
    replace hF := ip c_4 hF
    refine lv_iconst (v := 0) hx hb (dq_3 48 bcX8_tells_1 (j := 0) rfl rfl) (by decide) ?_
    rw [hQ]
    obtain e9_0 := inj1 hF
    exact W.zret (v := (0 : Int32)) hx hb hr rfl (fun tt ht hW => ⟨_, rfl, ⟨e9_0, Or.inl rfl⟩, ht⟩) (fun _ h => by cases h) (dq_172 48 bcX8_tells_1 (j := 1) rfl rfl)
  ·
    replace hF := inn c_4 hF
    refine lv_iload_n hx hb (dq_27 0 bcX8_tells_0 (j := 7) rfl rfl) rfl (lv_at hl 1 rfl) ?_
    refine lv_i2l (v := p1.toInt64) hx hb (dq_133 0 bcX8_tells_0 (j := 8) rfl rfl) rfl ?_
    refine lv_ldc2 (v := -1000000) hx hb hown (hts (.constantLong RX8 379 (-1000000)) (List.mem_of_getElem? (i := 1) rfl)) (dq_20 0 bcX8_tells_0 (j := 9) (i := 379) rfl rfl rfl) ?_
    refine lv_ldc2 (v := 1000000) hx hb hown (hts (.constantLong RX8 381 (1000000)) (List.mem_of_getElem? (i := 2) rfl)) (dq_20 0 bcX8_tells_0 (j := 12) (i := 381) rfl rfl rfl) ?_
    replace hF := bd1_s hF
    obtain ⟨r_5, hc_6, hF⟩ := hF
    have hPc : va_P E.1 vwCl [] s.heap := fun k q h => by simp at h
    refine pE_z (va_runS (As := [.long p1.toInt64, .long (-1000000 : Int64), .long (1000000 : Int64)]) (rest := [])  ⟨hx, hb, hml, hown, hts⟩ (f_X8_in l E (p0 := p1.toInt64) (p1 := (-1000000 : Int64)) (p2 := (1000000 : Int64)) hc_6) (va_cwS 3 hts g_f_X8_tells_f_X8_in_60 rfl rfl rfl hd_X8_in.2 ⟨Nat.le_of_ble_eq_true rfl, Nat.le_of_ble_eq_true rfl⟩) ⟨pP.blind, (pP.pre ⟨hK, hN⟩ hPc)⟩ rfl rfl hl.1 rfl (lv_room (Nat.le_of_ble_eq_true rfl)) (dq_184 0 bcX8_tells_0 (j := 15) (i := 60) rfl rfl rfl) ⟨Nat.le_of_ble_eq_true rfl, Nat.le_of_ble_eq_true rfl⟩) (fun hb_7 => ?_)
    refine lv_if_eq (tgt := 48) hx hb (dq_153 0 bcX8_tells_0 (j := 18) (i := 30) rfl rfl rfl) (by decide) (fun c_8 => ?_) (fun c_8 => ?_)
    ·
      replace hF := ip c_8 hF
      refine lv_iconst (v := 0) hx hb (dq_3 48 bcX8_tells_1 (j := 0) rfl rfl) (by decide) ?_
      rw [hQ]
      obtain e9_0 := inj1 hF
      exact W.zret (v := (0 : Int32)) hx hb hr rfl (fun tt ht hW => ⟨_, rfl, ⟨e9_0, Or.inl rfl⟩, ht⟩) (fun _ h => by cases h) (dq_172 48 bcX8_tells_1 (j := 1) rfl rfl)
    ·
      replace hF := inn c_8 hF
      refine lv_iload_n hx hb (dq_28 0 bcX8_tells_0 (j := 21) rfl rfl) rfl (lv_at hl 2 rfl) ?_
      refine lv_i2l (v := p2.toInt64) hx hb (dq_133 0 bcX8_tells_0 (j := 22) rfl rfl) rfl ?_
      refine lv_ldc2 (v := -1000000) hx hb hown (hts (.constantLong RX8 379 (-1000000)) (List.mem_of_getElem? (i := 1) rfl)) (dq_20 0 bcX8_tells_0 (j := 23) (i := 379) rfl rfl rfl) ?_
      refine lv_ldc2 (v := 1000000) hx hb hown (hts (.constantLong RX8 381 (1000000)) (List.mem_of_getElem? (i := 2) rfl)) (dq_20 0 bcX8_tells_0 (j := 26) (i := 381) rfl rfl rfl) ?_
      replace hF := bd1_s hF
      obtain ⟨r_9, hc_10, hF⟩ := hF
      have hPc : va_P E.1 vwCl [] s.heap := fun k q h => by simp at h
      refine pE_z (va_runS (As := [.long p2.toInt64, .long (-1000000 : Int64), .long (1000000 : Int64)]) (rest := [])  ⟨hx, hb, hml, hown, hts⟩ (f_X8_in l E (p0 := p2.toInt64) (p1 := (-1000000 : Int64)) (p2 := (1000000 : Int64)) hc_10) (va_cwS 3 hts g_f_X8_tells_f_X8_in_60 rfl rfl rfl hd_X8_in.2 ⟨Nat.le_of_ble_eq_true rfl, Nat.le_of_ble_eq_true rfl⟩) ⟨pP.blind, (pP.pre ⟨hK, hN⟩ hPc)⟩ rfl rfl hl.1 rfl (lv_room (Nat.le_of_ble_eq_true rfl)) (dq_184 0 bcX8_tells_0 (j := 29) (i := 60) rfl rfl rfl) ⟨Nat.le_of_ble_eq_true rfl, Nat.le_of_ble_eq_true rfl⟩) (fun hb_11 => ?_)
      refine lv_if_eq (tgt := 48) hx hb (dq_153 0 bcX8_tells_0 (j := 32) (i := 16) rfl rfl rfl) (by decide) (fun c_12 => ?_) (fun c_12 => ?_)
      ·
        replace hF := ip c_12 hF
        refine lv_iconst (v := 0) hx hb (dq_3 48 bcX8_tells_1 (j := 0) rfl rfl) (by decide) ?_
        rw [hQ]
        obtain e9_0 := inj1 hF
        exact W.zret (v := (0 : Int32)) hx hb hr rfl (fun tt ht hW => ⟨_, rfl, ⟨e9_0, Or.inl rfl⟩, ht⟩) (fun _ h => by cases h) (dq_172 48 bcX8_tells_1 (j := 1) rfl rfl)
      ·
        replace hF := inn c_12 hF
        refine lv_aload_n hx hb (dq_42 0 bcX8_tells_0 (j := 35) rfl rfl) rfl (lv_at hl 0 rfl) ?_
        refine lv_iload_n hx hb (dq_27 0 bcX8_tells_0 (j := 36) rfl rfl) rfl (lv_at hl 1 rfl) ?_
        refine lv_iload_n hx hb (dq_28 0 bcX8_tells_0 (j := 37) rfl rfl) rfl (lv_at hl 2 rfl) ?_
        replace hF := bd1_s hF
        obtain ⟨r_13, hc_14, hF⟩ := hF
        have hPc : va_P E.1 vwCl (w_X8_isAllowed E a_ a_tape a_readPlace a_script a_scriptLong a_now a_refused a_shareX a_shareY a_askedRow a_kept a_aside a_spelled a_image c_thrown c_taped c_at c_part c_partFrom c_partNumber c_wrong c_partWord c_readLaw c_readBound c_readGoal c_readSites c_scripts c_sites c_asked c_outcome c_took c_acts c_drawn c_racer c_raced c_spelledMany c_hasImage c_now) s.heap := hP.sub (ws' := [k_X8 a_ c_thrown a_tape c_taped c_at c_part c_partFrom c_partNumber c_wrong c_partWord c_readLaw c_readBound c_readGoal c_readSites a_readPlace a_script a_scriptLong c_scripts a_now a_refused c_sites a_shareX a_shareY c_asked c_outcome a_askedRow c_took a_kept c_acts c_drawn a_aside c_racer c_raced a_spelled c_spelledMany a_image c_hasImage, k_I E a_now 265 c_now]) [0, 1] rfl
        have hrc := va_recv hK hPc (ci := 9) (q0 := 0) rfl rfl
        refine pE_z (va_runV (As := [.int p1, .int p2]) (rest := [])  ⟨hx, hb, hml, hown, hts⟩ (f_X8_isAllowed l E (a_ := a_) (a_tape := a_tape) (a_readPlace := a_readPlace) (a_script := a_script) (a_scriptLong := a_scriptLong) (a_now := a_now) (a_refused := a_refused) (a_shareX := a_shareX) (a_shareY := a_shareY) (a_askedRow := a_askedRow) (a_kept := a_kept) (a_aside := a_aside) (a_spelled := a_spelled) (a_image := a_image) (p1 := p1) (p2 := p2) (c_thrown := c_thrown) (c_taped := c_taped) (c_at := c_at) (c_part := c_part) (c_partFrom := c_partFrom) (c_partNumber := c_partNumber) (c_wrong := c_wrong) (c_partWord := c_partWord) (c_readLaw := c_readLaw) (c_readBound := c_readBound) (c_readGoal := c_readGoal) (c_readSites := c_readSites) (c_scripts := c_scripts) (c_sites := c_sites) (c_asked := c_asked) (c_outcome := c_outcome) (c_took := c_took) (c_acts := c_acts) (c_drawn := c_drawn) (c_racer := c_racer) (c_raced := c_raced) (c_spelledMany := c_spelledMany) (c_hasImage := c_hasImage) (c_now := c_now) hc_14) (cwV 2 hts g_f_X8_tells_f_X8_isAllowed_202 rfl rfl rfl hd_X8_isAllowed ⟨Nat.le_of_ble_eq_true rfl, Nat.le_of_ble_eq_true rfl⟩) ⟨pP.blind, hrc, (pP.pre ⟨hK, hN⟩ hPc)⟩ rfl rfl hl.1 rfl (lv_room (Nat.le_of_ble_eq_true rfl)) (dq_182 0 bcX8_tells_0 (j := 38) (i := 202) rfl rfl rfl) ⟨Nat.le_of_ble_eq_true rfl, Nat.le_of_ble_eq_true rfl⟩) (fun hb_15 => ?_)
        refine lv_if_eq (tgt := 48) hx hb (dq_153 0 bcX8_tells_0 (j := 41) (i := 7) rfl rfl rfl) (by decide) (fun c_16 => ?_) (fun c_16 => ?_)
        ·
          replace hF := ip c_16 hF
          refine lv_iconst (v := 0) hx hb (dq_3 48 bcX8_tells_1 (j := 0) rfl rfl) (by decide) ?_
          rw [hQ]
          obtain e9_0 := inj1 hF
          exact W.zret (v := (0 : Int32)) hx hb hr rfl (fun tt ht hW => ⟨_, rfl, ⟨e9_0, Or.inl rfl⟩, ht⟩) (fun _ h => by cases h) (dq_172 48 bcX8_tells_1 (j := 1) rfl rfl)
        ·
          replace hF := inn c_16 hF
          refine lv_iconst (v := 1) hx hb (dq_4 0 bcX8_tells_0 (j := 44) rfl rfl) (by decide) ?_
          refine lv_goto (tgt := 49) hx hb (dq_167 0 bcX8_tells_0 (j := 45) (i := 4) rfl rfl rfl) (by decide) ?_
          rw [hQ]
          obtain e9_0 := inj1 hF
          exact W.zret (v := (1 : Int32)) hx hb hr rfl (fun tt ht hW => ⟨_, rfl, ⟨e9_0, Or.inr rfl⟩, ht⟩) (fun _ h => by cases h) (dq_172 48 bcX8_tells_1 (j := 1) rfl rfl)
