noncomputable def blX8_act_0 : List Nat := [42, 182, 1, 78, 42, 27, 28, 29, 21, 4, 182, 1, 81, 54, 5, 42, 27, 27, 4, 160, 0, 7, 2, 167, 0, 4, 28, 182, 1, 84, 21, 5, 172]
set_option maxRecDepth 100000 in
theorem bcX8_act_0 : ((cX8_act.data.toList.drop 0).take blX8_act_0.length).map UInt8.toNat = blX8_act_0 := by decide +kernel
noncomputable def blX8_actOf_0 : List Nat := [26, 170, 0, 0, 0, 0, 0, 56, 0, 0, 0, 0, 0, 0, 0, 6, 0, 0, 0, 43, 0, 0, 0, 45, 0, 0, 0, 47, 0, 0, 0, 49, 0, 0, 0, 51, 0, 0, 0, 56, 0, 0, 0, 53, 3, 172, 7, 172, 5, 172, 6]
set_option maxRecDepth 100000 in
theorem bcX8_actOf_0 : ((cX8_actOf.data.toList.drop 0).take blX8_actOf_0.length).map UInt8.toNat = blX8_actOf_0 := by decide +kernel
noncomputable def blX8_actOf_1 : List Nat := [5, 172, 6, 172, 4, 172, 16, 6, 172, 8, 172]
set_option maxRecDepth 100000 in
theorem bcX8_actOf_1 : ((cX8_actOf.data.toList.drop 48).take blX8_actOf_1.length).map UInt8.toNat = blX8_actOf_1 := by decide +kernel
noncomputable def blX8_in_0 : List Nat := [30, 32, 148, 155, 0, 14, 30, 22, 4, 148, 157, 0, 7, 4, 167, 0, 4, 3, 172]
set_option maxRecDepth 100000 in
theorem bcX8_in_0 : ((cX8_in.data.toList.drop 0).take blX8_in_0.length).map UInt8.toNat = blX8_in_0 := by decide +kernel
noncomputable def blX8_isSite_0 : List Nat := [27, 133, 9, 42, 180, 0, 196, 4, 100, 133, 184, 0, 60, 172]
set_option maxRecDepth 100000 in
theorem bcX8_isSite_0 : ((cX8_isSite.data.toList.drop 0).take blX8_isSite_0.length).map UInt8.toNat = blX8_isSite_0 := by decide +kernel
noncomputable def blX8_whyMove_1 : List Nat := [133, 20, 1, 29, 20, 1, 31, 184, 0, 60, 153, 0, 31, 42, 180, 0, 22, 16, 8, 27, 96, 46, 29, 96, 133, 20, 1, 29, 20, 1, 31, 184, 0, 60, 153, 0, 7, 4, 167, 0, 4, 3, 54, 4, 21, 4, 154, 0, 7, 4, 167]
set_option maxRecDepth 100000 in
theorem bcX8_whyMove_1 : ((cX8_whyMove.data.toList.drop 48).take blX8_whyMove_1.length).map UInt8.toNat = blX8_whyMove_1 := by decide +kernel
noncomputable def blX8_whyMove_2 : List Nat := [7, 4, 167, 0, 24, 28, 154, 0, 7, 29, 153, 0, 11, 42, 27, 182, 1, 1, 153, 0, 7, 5, 167, 0, 4, 2, 172]
set_option maxRecDepth 100000 in
theorem bcX8_whyMove_2 : ((cX8_whyMove.data.toList.drop 96).take blX8_whyMove_2.length).map UInt8.toNat = blX8_whyMove_2 := by decide +kernel
noncomputable def blX8_whyMove_0 : List Nat := [42, 27, 182, 1, 22, 154, 0, 5, 3, 172, 28, 133, 20, 1, 25, 20, 1, 27, 184, 0, 60, 153, 0, 68, 29, 133, 20, 1, 25, 20, 1, 27, 184, 0, 60, 153, 0, 54, 42, 180, 0, 22, 3, 27, 96, 46, 28, 96, 133, 20, 1]
set_option maxRecDepth 100000 in
theorem bcX8_whyMove_0 : ((cX8_whyMove.data.toList.drop 0).take blX8_whyMove_0.length).map UInt8.toNat = blX8_whyMove_0 := by decide +kernel
noncomputable def blX8_isWatch_0 : List Nat := [42, 180, 0, 196, 158, 0, 7, 4, 167, 0, 4, 3, 172]
set_option maxRecDepth 100000 in
theorem bcX8_isWatch_0 : ((cX8_isWatch.data.toList.drop 0).take blX8_isWatch_0.length).map UInt8.toNat = blX8_isWatch_0 := by decide +kernel
noncomputable def blX8_whySet_0 : List Nat := [42, 182, 1, 43, 154, 0, 7, 3, 167, 0, 30, 27, 133, 28, 133, 29, 133, 184, 0, 60, 154, 0, 7, 4, 167, 0, 14, 27, 21, 4, 160, 0, 7, 5, 167, 0, 4, 2, 172]
set_option maxRecDepth 100000 in
theorem bcX8_whySet_0 : ((cX8_whySet.data.toList.drop 0).take blX8_whySet_0.length).map UInt8.toNat = blX8_whySet_0 := by decide +kernel
noncomputable def blX8_isReached_0 : List Nat := [42, 180, 0, 22, 16, 73, 46, 42, 180, 0, 22, 16, 66, 46, 161, 0, 7, 4, 167, 0, 4, 3, 172]
set_option maxRecDepth 100000 in
theorem bcX8_isReached_0 : ((cX8_isReached.data.toList.drop 0).take blX8_isReached_0.length).map UInt8.toNat = blX8_isReached_0 := by decide +kernel
noncomputable def blX8_whyAdd_0 : List Nat := [42, 27, 182, 1, 22, 154, 0, 5, 3, 172, 28, 133, 10, 20, 1, 33, 184, 0, 60, 153, 0, 20, 42, 180, 0, 22, 16, 48, 27, 96, 46, 28, 96, 19, 1, 35, 164, 0, 7, 4, 167, 0, 15, 42, 182, 1, 36, 153, 0, 7, 5]
set_option maxRecDepth 100000 in
theorem bcX8_whyAdd_0 : ((cX8_whyAdd.data.toList.drop 0).take blX8_whyAdd_0.length).map UInt8.toNat = blX8_whyAdd_0 := by decide +kernel
noncomputable def blX8_whyAdd_1 : List Nat := [0, 7, 5, 167, 0, 4, 2, 172]
set_option maxRecDepth 100000 in
theorem bcX8_whyAdd_1 : ((cX8_whyAdd.data.toList.drop 48).take blX8_whyAdd_1.length).map UInt8.toNat = blX8_whyAdd_1 := by decide +kernel
def dl_X8_actOf_30_md07_0 : List (Nat × Instr × Nat) := [(1, .tableswitch 56 0 6 #[43, 45, 47, 49, 51, 56, 53], 43)]
set_option maxRecDepth 100000 in
theorem dall_X8_actOf_30_md07_0 : dchk cX8_actOf dl_X8_actOf_30_md07_0 = true := by decide +kernel
theorem dX8_actOf_1 : decode cX8_actOf 1 = .ok (.tableswitch 56 0 6 #[43, 45, 47, 49, 51, 56, 53], 43) := dchk_at dall_X8_actOf_30_md07_0 (k := 0) rfl
def F_X8_act (K : Nat) (p1 : Int32) (p2 : Int32) (p3 : Int32) (p4 : Int32) (c_now : Nat → Int32) (c_sites : Int32) (c_shareX : Nat → Int32) (c_shareY : Nat → Int32) (c_asked : Int32) (c_outcome : Int32) (c_askedRow : Nat → Int32) (c_took : Int32) (c_kept : Nat → Int32) (c_acts : Int32) : Option (Int32 × (Nat → Int32) × (Nat → Int32) × (Nat → Int32) × Int32 × Int32 × (Nat → Int32) × Int32 × (Nat → Int32) × Int32) :=
  bd2 (F_X8_keep K c_now c_kept c_acts) (fun w_1 w_2 => bd8 (F_X8_doNow K p1 p2 p3 p4 c_now c_sites c_shareX c_shareY c_asked c_outcome c_askedRow c_took) (fun r_4 w_5 w_6 w_7 w_8 w_9 w_10 w_11 => if p1 = (1 : Int32) then bd1 (F_X8_note K p1 (-1 : Int32) w_5 w_11) (fun w_16 => some (r_4, w_16, w_6, w_7, w_8, w_9, w_10, w_11, w_1, w_2)) else bd1 (F_X8_note K p1 p2 w_5 w_11) (fun w_14 => some (r_4, w_14, w_6, w_7, w_8, w_9, w_10, w_11, w_1, w_2))))
abbrev w_X8_act (E : EE) (a_ a_tape a_readPlace a_script a_scriptLong a_now a_refused a_shareX a_shareY a_askedRow a_kept a_aside a_spelled a_image : Nat) (c_thrown : Int32) (c_taped : Int32) (c_at : Int32) (c_part : Int32) (c_partFrom : Int32) (c_partNumber : Int32) (c_wrong : Int32) (c_partWord : Int64) (c_readLaw : Int32) (c_readBound : Int32) (c_readGoal : Int32) (c_readSites : Int32) (c_scripts : Int32) (c_sites : Int32) (c_asked : Int32) (c_outcome : Int32) (c_took : Int32) (c_acts : Int32) (c_drawn : Int64) (c_racer : Int32) (c_raced : Int32) (c_spelledMany : Int32) (c_hasImage : Int32) (c_now : Nat → Int32) (c_shareX : Nat → Int32) (c_shareY : Nat → Int32) (c_askedRow : Nat → Int32) (c_kept : Nat → Int32) : va_W := [k_X8 a_ c_thrown a_tape c_taped c_at c_part c_partFrom c_partNumber c_wrong c_partWord c_readLaw c_readBound c_readGoal c_readSites a_readPlace a_script a_scriptLong c_scripts a_now a_refused c_sites a_shareX a_shareY c_asked c_outcome a_askedRow c_took a_kept c_acts c_drawn a_aside c_racer c_raced a_spelled c_spelledMany a_image c_hasImage, k_I E a_now 265 c_now, k_I E a_shareX 8 c_shareX, k_I E a_shareY 8 c_shareY, k_I E a_askedRow 8 c_askedRow, k_I E a_kept 10600 c_kept]
def v_f_X8_act : List Cond := List.cons (.code yX8_act cX8_act 6 (some .int)) (HAppend.hAppend (α := List Cond) (β := List Cond) (γ := List Cond) [.methodLink RX8 334 yX8_keep, .instanceMethod yX8_keep, .selects RX8 yX8_keep yX8_keep, .initialized RX8, .methodLink RX8 337 yX8_doNow, .instanceMethod yX8_doNow, .selects RX8 yX8_doNow yX8_doNow, .methodLink RX8 340 yX8_note, .instanceMethod yX8_note, .selects RX8 yX8_note yX8_note] (HAppend.hAppend (α := List Cond) (β := List Cond) (γ := List Cond) v_f_X8_keep (HAppend.hAppend (α := List Cond) (β := List Cond) (γ := List Cond) v_f_X8_doNow (HAppend.hAppend (α := List Cond) (β := List Cond) (γ := List Cond) v_f_X8_note []))))
theorem gw_f_X8_act : v_f_X8_act.all goodWord = true := gw_c2 (by decide +kernel) (gw_ap gw_f_X8_keep (gw_ap gw_f_X8_doNow (gw_ap gw_f_X8_note gw_nil)))
theorem g_f_X8_act_f_X8_keep_334 : GoodIn v_f_X8_act (wsV RX8 334 RX8 yX8_keep v_f_X8_keep) := goodIn_in gw_f_X8_act (in4 1 2 3 4 rfl rfl rfl rfl (fun _ h => List.mem_cons_of_mem _ (List.mem_append_right _ (List.mem_append_left _ h))))
theorem g_f_X8_act_f_X8_doNow_337 : GoodIn v_f_X8_act (wsV RX8 337 RX8 yX8_doNow v_f_X8_doNow) := goodIn_in gw_f_X8_act (in4 5 6 7 4 rfl rfl rfl rfl (fun _ h => List.mem_cons_of_mem _ (List.mem_append_right _ (List.mem_append_right _ (List.mem_append_left _ h)))))
theorem g_f_X8_act_f_X8_note_340 : GoodIn v_f_X8_act (wsV RX8 340 RX8 yX8_note v_f_X8_note) := goodIn_in gw_f_X8_act (in4 8 9 10 4 rfl rfl rfl rfl (fun _ h => List.mem_cons_of_mem _ (List.mem_append_right _ (List.mem_append_right _ (List.mem_append_right _ (List.mem_append_left _ h))))))
theorem hd_X8_act : yX8_act.cls = RX8 ∧ yX8_act.cls ≠ "java/lang/invoke/MethodHandle" ∧ yX8_act.cls ≠ "java/lang/invoke/VarHandle" ∧ (parseMethodDescriptor yX8_act.desc).map (fun d => d.parameters.length) = some 4 := by decide +kernel
set_option maxHeartbeats 4000000 in
set_option maxRecDepth 100000 in
theorem f_X8_act (l : Launch) (E : EE) (sz : Nat) (K : Nat) {a_ a_tape a_readPlace a_script a_scriptLong a_now a_refused a_shareX a_shareY a_askedRow a_kept a_aside a_spelled a_image : Nat} {p1 : Int32} {p2 : Int32} {p3 : Int32} {p4 : Int32} {c_thrown : Int32} {c_taped : Int32} {c_at : Int32} {c_part : Int32} {c_partFrom : Int32} {c_partNumber : Int32} {c_wrong : Int32} {c_partWord : Int64} {c_readLaw : Int32} {c_readBound : Int32} {c_readGoal : Int32} {c_readSites : Int32} {c_scripts : Int32} {c_sites : Int32} {c_asked : Int32} {c_outcome : Int32} {c_took : Int32} {c_acts : Int32} {c_drawn : Int64} {c_racer : Int32} {c_raced : Int32} {c_spelledMany : Int32} {c_hasImage : Int32} {c_now : Nat → Int32} {c_shareX : Nat → Int32} {c_shareY : Nat → Int32} {c_askedRow : Nat → Int32} {c_kept : Nat → Int32} {rr : Int32} {n_now : Nat → Int32} {n_shareX : Nat → Int32} {n_shareY : Nat → Int32} {n_asked : Int32} {n_outcome : Int32} {n_askedRow : Nat → Int32} {n_took : Int32} {n_kept : Nat → Int32} {n_acts : Int32} (hF : F_X8_act K p1 p2 p3 p4 c_now c_sites c_shareX c_shareY c_asked c_outcome c_askedRow c_took c_kept c_acts = some (rr, n_now, n_shareX, n_shareY, n_asked, n_outcome, n_askedRow, n_took, n_kept, n_acts)) : Met l yX8_act v_f_X8_act (({ frames := 8, cells := 0, slots := 0, locals := 190 } : Room)) (va_Pc [.ref a_, .int p1, .int p2, .int p3, .int p4] (pW E sz (w_X8_act E a_ a_tape a_readPlace a_script a_scriptLong a_now a_refused a_shareX a_shareY a_askedRow a_kept a_aside a_spelled a_image c_thrown c_taped c_at c_part c_partFrom c_partNumber c_wrong c_partWord c_readLaw c_readBound c_readGoal c_readSites c_scripts c_sites c_asked c_outcome c_took c_acts c_drawn c_racer c_raced c_spelledMany c_hasImage c_now c_shareX c_shareY c_askedRow c_kept))) (va_Qi (fun (q : Int32) (_u : Unit) => q = rr) (fun (_u : Unit) tt => va_P E.1 vwCl (w_X8_act E a_ a_tape a_readPlace a_script a_scriptLong a_now a_refused a_shareX a_shareY a_askedRow a_kept a_aside a_spelled a_image c_thrown c_taped c_at c_part c_partFrom c_partNumber c_wrong c_partWord c_readLaw c_readBound c_readGoal c_readSites c_scripts c_sites n_asked n_outcome n_took n_acts c_drawn c_racer c_raced c_spelledMany c_hasImage n_now n_shareX n_shareY n_askedRow n_kept) tt.heap ∧ va_D (va_A (w_X8_act E a_ a_tape a_readPlace a_script a_scriptLong a_now a_refused a_shareX a_shareY a_askedRow a_kept a_aside a_spelled a_image c_thrown c_taped c_at c_part c_partFrom c_partNumber c_wrong c_partWord c_readLaw c_readBound c_readGoal c_readSites c_scripts c_sites c_asked c_outcome c_took c_acts c_drawn c_racer c_raced c_spelledMany c_hasImage c_now c_shareX c_shareY c_askedRow c_kept) sz) (w_X8_act E a_ a_tape a_readPlace a_script a_scriptLong a_now a_refused a_shareX a_shareY a_askedRow a_kept a_aside a_spelled a_image c_thrown c_taped c_at c_part c_partFrom c_partNumber c_wrong c_partWord c_readLaw c_readBound c_readGoal c_readSites c_scripts c_sites n_asked n_outcome n_took n_acts c_drawn c_racer c_raced c_spelledMany c_hasImage n_now n_shareX n_shareY n_askedRow n_kept)) (va_A (w_X8_act E a_ a_tape a_readPlace a_script a_scriptLong a_now a_refused a_shareX a_shareY a_askedRow a_kept a_aside a_spelled a_image c_thrown c_taped c_at c_part c_partFrom c_partNumber c_wrong c_partWord c_readLaw c_readBound c_readGoal c_readSites c_scripts c_sites c_asked c_outcome c_took c_acts c_drawn c_racer c_raced c_spelledMany c_hasImage c_now c_shareX c_shareY c_askedRow c_kept) sz)) 0 0 (va_A (w_X8_act E a_ a_tape a_readPlace a_script a_scriptLong a_now a_refused a_shareX a_shareY a_askedRow a_kept a_aside a_spelled a_image c_thrown c_taped c_at c_part c_partFrom c_partNumber c_wrong c_partWord c_readLaw c_readBound c_readGoal c_readSites c_scripts c_sites c_asked c_outcome c_took c_acts c_drawn c_racer c_raced c_spelledMany c_hasImage c_now c_shareX c_shareY c_askedRow c_kept) sz) := by
  refine Met.ofW (cc := cX8_act) (maxL := 6) (ret := (some .int)) (by decide) rfl ?_
  intro p e s m args below meth c s₁ B hml hv
  obtain ⟨rfl, hsz, ⟨hK, hN⟩, hP, hD0⟩ := hv
  have hx := B.exec
  have hb := B.bytes
  have hr := B.returns
  have hts := atoms_spec (ws := v_f_X8_act) B.pre
  have hown : s.vm.findClass RX8 = some m.cls := own_of hd_X8_act.1 (findClass_of_methodNamed B.named)
  have hlocks : meth.locks = false := B.notSynchronized
  subst hsz
  have hD := hD0.self (sz := s.heap.size)
  generalize hAe : va_A (w_X8_act E a_ a_tape a_readPlace a_script a_scriptLong a_now a_refused a_shareX a_shareY a_askedRow a_kept a_aside a_spelled a_image c_thrown c_taped c_at c_part c_partFrom c_partNumber c_wrong c_partWord c_readLaw c_readBound c_readGoal c_readSites c_scripts c_sites c_asked c_outcome c_took c_acts c_drawn c_racer c_raced c_spelledMany c_hasImage c_now c_shareX c_shareY c_askedRow c_kept) s.heap.size = A at hD ⊢
  have hA : ∀ q : Nat, s.heap.size ≤ q → A q := fun q h => by rw [← hAe]; exact Or.inr h
  have hS : va_S A s.heap s.heap [] := va_S.rf
  have hl := lv_entry ([.ref a_, .int p1, .int p2, .int p3, .int p4]) (n := 6) (Nat.le_of_ble_eq_true rfl)
  rw [lg_entry_eq]
  generalize (lg_sl ([.ref a_, .int p1, .int p2, .int p3, .int p4]) ++ List.replicate (6 - (lg_sl ([.ref a_, .int p1, .int p2, .int p3, .int p4])).length) Slot.unset).toArray = ls at hl ⊢
  have hl : lv_has ls 6 [(0, .ref a_), (1, .int p1), (2, .int p2), (3, .int p3), (4, .int p4)] := hl
  obtain ⟨Q, hQ⟩ : ∃ Q : State → Prop, Q = MQ below (va_Qi (fun (q : Int32) (_u : Unit) => q = rr) (fun (_u : Unit) tt => va_P E.1 vwCl (w_X8_act E a_ a_tape a_readPlace a_script a_scriptLong a_now a_refused a_shareX a_shareY a_askedRow a_kept a_aside a_spelled a_image c_thrown c_taped c_at c_part c_partFrom c_partNumber c_wrong c_partWord c_readLaw c_readBound c_readGoal c_readSites c_scripts c_sites n_asked n_outcome n_took n_acts c_drawn c_racer c_raced c_spelledMany c_hasImage n_now n_shareX n_shareY n_askedRow n_kept) tt.heap ∧ va_D A (w_X8_act E a_ a_tape a_readPlace a_script a_scriptLong a_now a_refused a_shareX a_shareY a_askedRow a_kept a_aside a_spelled a_image c_thrown c_taped c_at c_part c_partFrom c_partNumber c_wrong c_partWord c_readLaw c_readBound c_readGoal c_readSites c_scripts c_sites n_asked n_outcome n_took n_acts c_drawn c_racer c_raced c_spelledMany c_hasImage n_now n_shareX n_shareY n_askedRow n_kept)) A) #[Value.ref a_, Value.int p1, Value.int p2, Value.int p3, Value.int p4] s 0 0 A := ⟨_, rfl⟩
  rw [← hQ]
  change W p l e ({ frames := 8, cells := 0, slots := 0, locals := 190 } : Room) s m #[Value.ref a_, Value.int p1, Value.int p2, Value.int p3, Value.int p4] below meth c s.heap [] 0 0 Q (F0 m 0 ls [])
  suffices hh9 : ∀ (H : Heap) (locs : List Loc), va_P E.1 vwCl (w_X8_act E a_ a_tape a_readPlace a_script a_scriptLong a_now a_refused a_shareX a_shareY a_askedRow a_kept a_aside a_spelled a_image c_thrown c_taped c_at c_part c_partFrom c_partNumber c_wrong c_partWord c_readLaw c_readBound c_readGoal c_readSites c_scripts c_sites c_asked c_outcome c_took c_acts c_drawn c_racer c_raced c_spelledMany c_hasImage c_now c_shareX c_shareY c_askedRow c_kept) H → va_D A (w_X8_act E a_ a_tape a_readPlace a_script a_scriptLong a_now a_refused a_shareX a_shareY a_askedRow a_kept a_aside a_spelled a_image c_thrown c_taped c_at c_part c_partFrom c_partNumber c_wrong c_partWord c_readLaw c_readBound c_readGoal c_readSites c_scripts c_sites c_asked c_outcome c_took c_acts c_drawn c_racer c_raced c_spelledMany c_hasImage c_now c_shareX c_shareY c_askedRow c_kept) → va_S A s.heap H locs → W p l e ({ frames := 8, cells := 0, slots := 0, locals := 190 } : Room) s m #[Value.ref a_, Value.int p1, Value.int p2, Value.int p3, Value.int p4] below meth c H locs 0 0 Q (F0 m 0 ls []) from hh9 s.heap [] hP hD hS
  clear hP hD hS
  intro H locs hP hD hS
  have h9 := fixPD (ws' := [k_X8 a_ c_thrown a_tape c_taped c_at c_part c_partFrom c_partNumber c_wrong c_partWord c_readLaw c_readBound c_readGoal c_readSites a_readPlace a_script a_scriptLong c_scripts a_now a_refused c_sites a_shareX a_shareY c_asked c_outcome a_askedRow c_took a_kept c_acts c_drawn a_aside c_racer c_raced a_spelled c_spelledMany a_image c_hasImage, k_I E a_now 265 c_now, k_I E a_shareX 8 c_shareX, k_I E a_shareY 8 c_shareY, k_I E a_askedRow 8 c_askedRow, k_I E a_kept 10600 c_kept]) hP hD rfl
  clear hP hD
  obtain ⟨hP, hD⟩ := h9
  unfold F_X8_act at hF
  refine lv_aload_n hx hb (dq_42 0 bcX8_act_0 (j := 0) rfl rfl) rfl (lv_at hl 0 rfl) ?_
  replace hF := bd2_s hF
  obtain ⟨w_1, w_2, hc_3, hF⟩ := hF
  obtain ⟨hPc, hDc, hFc⟩ := wcut (wc := (w_X8_keep E a_ a_tape a_readPlace a_script a_scriptLong a_now a_refused a_shareX a_shareY a_askedRow a_kept a_aside a_spelled a_image c_thrown c_taped c_at c_part c_partFrom c_partNumber c_wrong c_partWord c_readLaw c_readBound c_readGoal c_readSites c_scripts c_sites c_asked c_outcome c_took c_acts c_drawn c_racer c_raced c_spelledMany c_hasImage c_now c_kept)) hP hD hS hA [0, 1, 5] (by decide) rfl
  have hrc := va_recv hK hPc (ci := 9) (q0 := 0) rfl rfl
  refine cE_v (wc := (w_X8_keep E a_ a_tape a_readPlace a_script a_scriptLong a_now a_refused a_shareX a_shareY a_askedRow a_kept a_aside a_spelled a_image c_thrown c_taped c_at c_part c_partFrom c_partNumber c_wrong c_partWord c_readLaw c_readBound c_readGoal c_readSites c_scripts c_sites c_asked c_outcome c_took c_acts c_drawn c_racer c_raced c_spelledMany c_hasImage c_now c_kept)) (wr := [k_I E a_shareX 8 c_shareX, k_I E a_shareY 8 c_shareY, k_I E a_askedRow 8 c_askedRow]) (w1 := (w_X8_keep E a_ a_tape a_readPlace a_script a_scriptLong a_now a_refused a_shareX a_shareY a_askedRow a_kept a_aside a_spelled a_image c_thrown c_taped c_at c_part c_partFrom c_partNumber c_wrong c_partWord c_readLaw c_readBound c_readGoal c_readSites c_scripts c_sites c_asked c_outcome c_took w_2 c_drawn c_racer c_raced c_spelledMany c_hasImage c_now w_1)) (va_runV (As := []) (rest := [])  ⟨hx, hb, hml, hown, hts⟩ (f_X8_keep l E H.size K (a_ := a_) (a_tape := a_tape) (a_readPlace := a_readPlace) (a_script := a_script) (a_scriptLong := a_scriptLong) (a_now := a_now) (a_refused := a_refused) (a_shareX := a_shareX) (a_shareY := a_shareY) (a_askedRow := a_askedRow) (a_kept := a_kept) (a_aside := a_aside) (a_spelled := a_spelled) (a_image := a_image) (c_thrown := c_thrown) (c_taped := c_taped) (c_at := c_at) (c_part := c_part) (c_partFrom := c_partFrom) (c_partNumber := c_partNumber) (c_wrong := c_wrong) (c_partWord := c_partWord) (c_readLaw := c_readLaw) (c_readBound := c_readBound) (c_readGoal := c_readGoal) (c_readSites := c_readSites) (c_scripts := c_scripts) (c_sites := c_sites) (c_asked := c_asked) (c_outcome := c_outcome) (c_took := c_took) (c_acts := c_acts) (c_drawn := c_drawn) (c_racer := c_racer) (c_raced := c_raced) (c_spelledMany := c_spelledMany) (c_hasImage := c_hasImage) (c_now := c_now) (c_kept := c_kept) hc_3) (cwV 0 hts g_f_X8_act_f_X8_keep_334 rfl rfl rfl hd_X8_keep ⟨Nat.le_of_ble_eq_true rfl, Nat.le_of_ble_eq_true rfl⟩) ⟨pW.blind, hrc, (pW.pre ⟨hK, hN⟩ hPc hDc)⟩ rfl rfl hl.1 rfl (lv_room (Nat.le_of_ble_eq_true rfl)) (dq_182 0 bcX8_act_0 (j := 1) (i := 334) rfl rfl rfl) ⟨Nat.le_of_ble_eq_true rfl, Nat.le_of_ble_eq_true rfl⟩) hS hFc hP hD [0, 1, 5] [2, 3, 4] rfl rfl (by decide) (by decide) (fun H locs hP hD hS => ?_)
  have h9 := fixPD (ws' := [k_I E a_shareX 8 c_shareX, k_I E a_shareY 8 c_shareY, k_I E a_askedRow 8 c_askedRow, k_X8 a_ c_thrown a_tape c_taped c_at c_part c_partFrom c_partNumber c_wrong c_partWord c_readLaw c_readBound c_readGoal c_readSites a_readPlace a_script a_scriptLong c_scripts a_now a_refused c_sites a_shareX a_shareY c_asked c_outcome a_askedRow c_took a_kept w_2 c_drawn a_aside c_racer c_raced a_spelled c_spelledMany a_image c_hasImage, k_I E a_now 265 c_now, k_I E a_kept 10600 w_1]) hP hD rfl
  clear hP hD
  obtain ⟨hP, hD⟩ := h9
  refine lv_aload_n hx hb (dq_42 0 bcX8_act_0 (j := 4) rfl rfl) rfl (lv_at hl 0 rfl) ?_
  refine lv_iload_n hx hb (dq_27 0 bcX8_act_0 (j := 5) rfl rfl) rfl (lv_at hl 1 rfl) ?_
  refine lv_iload_n hx hb (dq_28 0 bcX8_act_0 (j := 6) rfl rfl) rfl (lv_at hl 2 rfl) ?_
  refine lv_iload_n hx hb (dq_29 0 bcX8_act_0 (j := 7) rfl rfl) rfl (lv_at hl 3 rfl) ?_
  refine lv_iload hx hb (dq_21 0 bcX8_act_0 (j := 8) (i := 4) rfl rfl) (lv_at hl 4 rfl) ?_
  replace hF := bd8_s hF
  obtain ⟨r_4, w_5, w_6, w_7, w_8, w_9, w_10, w_11, hc_12, hF⟩ := hF
  obtain ⟨hPc, hDc, hFc⟩ := wcut (wc := (w_X8_doNow E a_ a_tape a_readPlace a_script a_scriptLong a_now a_refused a_shareX a_shareY a_askedRow a_kept a_aside a_spelled a_image c_thrown c_taped c_at c_part c_partFrom c_partNumber c_wrong c_partWord c_readLaw c_readBound c_readGoal c_readSites c_scripts c_sites c_asked c_outcome c_took w_2 c_drawn c_racer c_raced c_spelledMany c_hasImage c_now c_shareX c_shareY c_askedRow)) hP hD hS hA [3, 4, 0, 1, 2] (by decide) rfl
  have hrc := va_recv hK hPc (ci := 9) (q0 := 0) rfl rfl
  refine cE_i (wc := (w_X8_doNow E a_ a_tape a_readPlace a_script a_scriptLong a_now a_refused a_shareX a_shareY a_askedRow a_kept a_aside a_spelled a_image c_thrown c_taped c_at c_part c_partFrom c_partNumber c_wrong c_partWord c_readLaw c_readBound c_readGoal c_readSites c_scripts c_sites c_asked c_outcome c_took w_2 c_drawn c_racer c_raced c_spelledMany c_hasImage c_now c_shareX c_shareY c_askedRow)) (wr := [k_I E a_kept 10600 w_1]) (w1 := (w_X8_doNow E a_ a_tape a_readPlace a_script a_scriptLong a_now a_refused a_shareX a_shareY a_askedRow a_kept a_aside a_spelled a_image c_thrown c_taped c_at c_part c_partFrom c_partNumber c_wrong c_partWord c_readLaw c_readBound c_readGoal c_readSites c_scripts c_sites w_8 w_9 w_11 w_2 c_drawn c_racer c_raced c_spelledMany c_hasImage w_5 w_6 w_7 w_10)) (va_runV (As := [.int p1, .int p2, .int p3, .int p4]) (rest := [])  ⟨hx, hb, hml, hown, hts⟩ (f_X8_doNow l E H.size K (a_ := a_) (a_tape := a_tape) (a_readPlace := a_readPlace) (a_script := a_script) (a_scriptLong := a_scriptLong) (a_now := a_now) (a_refused := a_refused) (a_shareX := a_shareX) (a_shareY := a_shareY) (a_askedRow := a_askedRow) (a_kept := a_kept) (a_aside := a_aside) (a_spelled := a_spelled) (a_image := a_image) (p1 := p1) (p2 := p2) (p3 := p3) (p4 := p4) (c_thrown := c_thrown) (c_taped := c_taped) (c_at := c_at) (c_part := c_part) (c_partFrom := c_partFrom) (c_partNumber := c_partNumber) (c_wrong := c_wrong) (c_partWord := c_partWord) (c_readLaw := c_readLaw) (c_readBound := c_readBound) (c_readGoal := c_readGoal) (c_readSites := c_readSites) (c_scripts := c_scripts) (c_sites := c_sites) (c_asked := c_asked) (c_outcome := c_outcome) (c_took := c_took) (c_acts := w_2) (c_drawn := c_drawn) (c_racer := c_racer) (c_raced := c_raced) (c_spelledMany := c_spelledMany) (c_hasImage := c_hasImage) (c_now := c_now) (c_shareX := c_shareX) (c_shareY := c_shareY) (c_askedRow := c_askedRow) hc_12) (cwV 4 hts g_f_X8_act_f_X8_doNow_337 rfl rfl rfl hd_X8_doNow ⟨Nat.le_of_ble_eq_true rfl, Nat.le_of_ble_eq_true rfl⟩) ⟨pW.blind, hrc, (pW.pre ⟨hK, hN⟩ hPc hDc)⟩ rfl rfl hl.1 rfl (lv_room (Nat.le_of_ble_eq_true rfl)) (dq_182 0 bcX8_act_0 (j := 10) (i := 337) rfl rfl rfl) ⟨Nat.le_of_ble_eq_true rfl, Nat.le_of_ble_eq_true rfl⟩) hS hFc hP hD [3, 4, 0, 1, 2] [5] rfl rfl (by decide) (by decide) (fun H locs hP hD hS => ?_)
  have h9 := fixPD (ws' := [k_I E a_kept 10600 w_1, k_X8 a_ c_thrown a_tape c_taped c_at c_part c_partFrom c_partNumber c_wrong c_partWord c_readLaw c_readBound c_readGoal c_readSites a_readPlace a_script a_scriptLong c_scripts a_now a_refused c_sites a_shareX a_shareY w_8 w_9 a_askedRow w_11 a_kept w_2 c_drawn a_aside c_racer c_raced a_spelled c_spelledMany a_image c_hasImage, k_I E a_now 265 w_5, k_I E a_shareX 8 w_6, k_I E a_shareY 8 w_7, k_I E a_askedRow 8 w_10]) hP hD rfl
  clear hP hD
  obtain ⟨hP, hD⟩ := h9
  refine lv_istore (lv' := [(5, .int r_4), (0, .ref a_), (1, .int p1), (2, .int p2), (3, .int p3), (4, .int p4)]) hx hb (dq_54 0 bcX8_act_0 (j := 13) (i := 5) rfl rfl) hl (by decide) rfl (fun ls hl => ?_)
  refine lv_aload_n hx hb (dq_42 0 bcX8_act_0 (j := 15) rfl rfl) rfl (lv_at hl 1 rfl) ?_
  refine lv_iload_n hx hb (dq_27 0 bcX8_act_0 (j := 16) rfl rfl) rfl (lv_at hl 2 rfl) ?_
  refine lv_iload_n hx hb (dq_27 0 bcX8_act_0 (j := 17) rfl rfl) rfl (lv_at hl 2 rfl) ?_
  refine lv_iconst (v := 1) hx hb (dq_4 0 bcX8_act_0 (j := 18) rfl rfl) (by decide) ?_
  refine lv_icmp_ne (tgt := 26) hx hb (dq_160 0 bcX8_act_0 (j := 19) (i := 7) rfl rfl rfl) (by decide) (fun c_13 => ?_) (fun c_13 => ?_)
  ·
    replace hF := inn c_13 hF
    refine lv_iload_n hx hb (dq_28 0 bcX8_act_0 (j := 26) rfl rfl) rfl (lv_at hl 3 rfl) ?_
    replace hF := bd1_s hF
    obtain ⟨w_14, hc_15, hF⟩ := hF
    obtain ⟨hPc, hDc, hFc⟩ := wcut (wc := (w_X8_note E a_ a_tape a_readPlace a_script a_scriptLong a_now a_refused a_shareX a_shareY a_askedRow a_kept a_aside a_spelled a_image c_thrown c_taped c_at c_part c_partFrom c_partNumber c_wrong c_partWord c_readLaw c_readBound c_readGoal c_readSites c_scripts c_sites w_8 w_9 w_11 w_2 c_drawn c_racer c_raced c_spelledMany c_hasImage w_5)) hP hD hS hA [1, 2] (by decide) rfl
    have hrc := va_recv hK hPc (ci := 9) (q0 := 0) rfl rfl
    refine cE_v (wc := (w_X8_note E a_ a_tape a_readPlace a_script a_scriptLong a_now a_refused a_shareX a_shareY a_askedRow a_kept a_aside a_spelled a_image c_thrown c_taped c_at c_part c_partFrom c_partNumber c_wrong c_partWord c_readLaw c_readBound c_readGoal c_readSites c_scripts c_sites w_8 w_9 w_11 w_2 c_drawn c_racer c_raced c_spelledMany c_hasImage w_5)) (wr := [k_I E a_kept 10600 w_1, k_I E a_shareX 8 w_6, k_I E a_shareY 8 w_7, k_I E a_askedRow 8 w_10]) (w1 := (w_X8_note E a_ a_tape a_readPlace a_script a_scriptLong a_now a_refused a_shareX a_shareY a_askedRow a_kept a_aside a_spelled a_image c_thrown c_taped c_at c_part c_partFrom c_partNumber c_wrong c_partWord c_readLaw c_readBound c_readGoal c_readSites c_scripts c_sites w_8 w_9 w_11 w_2 c_drawn c_racer c_raced c_spelledMany c_hasImage w_14)) (va_runV (As := [.int p1, .int p2]) (rest := [])  ⟨hx, hb, hml, hown, hts⟩ (f_X8_note l E H.size K (a_ := a_) (a_tape := a_tape) (a_readPlace := a_readPlace) (a_script := a_script) (a_scriptLong := a_scriptLong) (a_now := a_now) (a_refused := a_refused) (a_shareX := a_shareX) (a_shareY := a_shareY) (a_askedRow := a_askedRow) (a_kept := a_kept) (a_aside := a_aside) (a_spelled := a_spelled) (a_image := a_image) (p1 := p1) (p2 := p2) (c_thrown := c_thrown) (c_taped := c_taped) (c_at := c_at) (c_part := c_part) (c_partFrom := c_partFrom) (c_partNumber := c_partNumber) (c_wrong := c_wrong) (c_partWord := c_partWord) (c_readLaw := c_readLaw) (c_readBound := c_readBound) (c_readGoal := c_readGoal) (c_readSites := c_readSites) (c_scripts := c_scripts) (c_sites := c_sites) (c_asked := w_8) (c_outcome := w_9) (c_took := w_11) (c_acts := w_2) (c_drawn := c_drawn) (c_racer := c_racer) (c_raced := c_raced) (c_spelledMany := c_spelledMany) (c_hasImage := c_hasImage) (c_now := w_5) hc_15) (cwV 2 hts g_f_X8_act_f_X8_note_340 rfl rfl rfl hd_X8_note ⟨Nat.le_of_ble_eq_true rfl, Nat.le_of_ble_eq_true rfl⟩) ⟨pW.blind, hrc, (pW.pre ⟨hK, hN⟩ hPc hDc)⟩ rfl rfl hl.1 rfl (lv_room (Nat.le_of_ble_eq_true rfl)) (dq_182 0 bcX8_act_0 (j := 27) (i := 340) rfl rfl rfl) ⟨Nat.le_of_ble_eq_true rfl, Nat.le_of_ble_eq_true rfl⟩) hS hFc hP hD [1, 2] [0, 3, 4, 5] rfl rfl (by decide) (by decide) (fun H locs hP hD hS => ?_)
    have h9 := fixPD (ws' := [k_I E a_kept 10600 w_1, k_I E a_shareX 8 w_6, k_I E a_shareY 8 w_7, k_I E a_askedRow 8 w_10, k_X8 a_ c_thrown a_tape c_taped c_at c_part c_partFrom c_partNumber c_wrong c_partWord c_readLaw c_readBound c_readGoal c_readSites a_readPlace a_script a_scriptLong c_scripts a_now a_refused c_sites a_shareX a_shareY w_8 w_9 a_askedRow w_11 a_kept w_2 c_drawn a_aside c_racer c_raced a_spelled c_spelledMany a_image c_hasImage, k_I E a_now 265 w_14]) hP hD rfl
    clear hP hD
    obtain ⟨hP, hD⟩ := h9
    refine lv_iload hx hb (dq_21 0 bcX8_act_0 (j := 30) (i := 5) rfl rfl) (lv_at hl 0 rfl) ?_
    rw [hQ]
    have h9 := fin9 (P := fun u9 : Int32 × (Nat → Int32) × (Nat → Int32) × (Nat → Int32) × Int32 × Int32 × (Nat → Int32) × Int32 × (Nat → Int32) × Int32 => r_4 = u9.1 ∧ va_P E.1 vwCl (w_X8_act E a_ a_tape a_readPlace a_script a_scriptLong a_now a_refused a_shareX a_shareY a_askedRow a_kept a_aside a_spelled a_image c_thrown c_taped c_at c_part c_partFrom c_partNumber c_wrong c_partWord c_readLaw c_readBound c_readGoal c_readSites c_scripts c_sites u9.2.2.2.2.1 u9.2.2.2.2.2.1 u9.2.2.2.2.2.2.2.1 u9.2.2.2.2.2.2.2.2.2 c_drawn c_racer c_raced c_spelledMany c_hasImage u9.2.1 u9.2.2.1 u9.2.2.2.1 u9.2.2.2.2.2.2.1 u9.2.2.2.2.2.2.2.2.1) H ∧ va_D A (w_X8_act E a_ a_tape a_readPlace a_script a_scriptLong a_now a_refused a_shareX a_shareY a_askedRow a_kept a_aside a_spelled a_image c_thrown c_taped c_at c_part c_partFrom c_partNumber c_wrong c_partWord c_readLaw c_readBound c_readGoal c_readSites c_scripts c_sites u9.2.2.2.2.1 u9.2.2.2.2.2.1 u9.2.2.2.2.2.2.2.1 u9.2.2.2.2.2.2.2.2.2 c_drawn c_racer c_raced c_spelledMany c_hasImage u9.2.1 u9.2.2.1 u9.2.2.2.1 u9.2.2.2.2.2.2.1 u9.2.2.2.2.2.2.2.2.1)) hF ⟨rfl, hP.sub [4, 5, 1, 2, 3, 0] rfl, hD.sub [4, 5, 1, 2, 3, 0] (by decide) rfl⟩
    obtain ⟨e9_0, hP9, hD9⟩ := h9
    exact W.iret (v := r_4) hx hb hr (fun tt ht hW => ⟨⟨_, (), rfl, e9_0, ht ▸ hP9, hD9⟩, hS.F ht⟩) hS.2.2 (dq_172 0 bcX8_act_0 (j := 32) rfl rfl)
  ·
    replace hF := ip c_13 hF
    refine lv_iconst (v := -1) hx hb (dq_2 0 bcX8_act_0 (j := 22) rfl rfl) (by decide) ?_
    refine lv_goto (tgt := 27) hx hb (dq_167 0 bcX8_act_0 (j := 23) (i := 4) rfl rfl rfl) (by decide) ?_
    replace hF := bd1_s hF
    obtain ⟨w_16, hc_17, hF⟩ := hF
    obtain ⟨hPc, hDc, hFc⟩ := wcut (wc := (w_X8_note E a_ a_tape a_readPlace a_script a_scriptLong a_now a_refused a_shareX a_shareY a_askedRow a_kept a_aside a_spelled a_image c_thrown c_taped c_at c_part c_partFrom c_partNumber c_wrong c_partWord c_readLaw c_readBound c_readGoal c_readSites c_scripts c_sites w_8 w_9 w_11 w_2 c_drawn c_racer c_raced c_spelledMany c_hasImage w_5)) hP hD hS hA [1, 2] (by decide) rfl
    have hrc := va_recv hK hPc (ci := 9) (q0 := 0) rfl rfl
    refine cE_v (wc := (w_X8_note E a_ a_tape a_readPlace a_script a_scriptLong a_now a_refused a_shareX a_shareY a_askedRow a_kept a_aside a_spelled a_image c_thrown c_taped c_at c_part c_partFrom c_partNumber c_wrong c_partWord c_readLaw c_readBound c_readGoal c_readSites c_scripts c_sites w_8 w_9 w_11 w_2 c_drawn c_racer c_raced c_spelledMany c_hasImage w_5)) (wr := [k_I E a_kept 10600 w_1, k_I E a_shareX 8 w_6, k_I E a_shareY 8 w_7, k_I E a_askedRow 8 w_10]) (w1 := (w_X8_note E a_ a_tape a_readPlace a_script a_scriptLong a_now a_refused a_shareX a_shareY a_askedRow a_kept a_aside a_spelled a_image c_thrown c_taped c_at c_part c_partFrom c_partNumber c_wrong c_partWord c_readLaw c_readBound c_readGoal c_readSites c_scripts c_sites w_8 w_9 w_11 w_2 c_drawn c_racer c_raced c_spelledMany c_hasImage w_16)) (va_runV (As := [.int p1, .int (-1 : Int32)]) (rest := [])  ⟨hx, hb, hml, hown, hts⟩ (f_X8_note l E H.size K (a_ := a_) (a_tape := a_tape) (a_readPlace := a_readPlace) (a_script := a_script) (a_scriptLong := a_scriptLong) (a_now := a_now) (a_refused := a_refused) (a_shareX := a_shareX) (a_shareY := a_shareY) (a_askedRow := a_askedRow) (a_kept := a_kept) (a_aside := a_aside) (a_spelled := a_spelled) (a_image := a_image) (p1 := p1) (p2 := (-1 : Int32)) (c_thrown := c_thrown) (c_taped := c_taped) (c_at := c_at) (c_part := c_part) (c_partFrom := c_partFrom) (c_partNumber := c_partNumber) (c_wrong := c_wrong) (c_partWord := c_partWord) (c_readLaw := c_readLaw) (c_readBound := c_readBound) (c_readGoal := c_readGoal) (c_readSites := c_readSites) (c_scripts := c_scripts) (c_sites := c_sites) (c_asked := w_8) (c_outcome := w_9) (c_took := w_11) (c_acts := w_2) (c_drawn := c_drawn) (c_racer := c_racer) (c_raced := c_raced) (c_spelledMany := c_spelledMany) (c_hasImage := c_hasImage) (c_now := w_5) hc_17) (cwV 2 hts g_f_X8_act_f_X8_note_340 rfl rfl rfl hd_X8_note ⟨Nat.le_of_ble_eq_true rfl, Nat.le_of_ble_eq_true rfl⟩) ⟨pW.blind, hrc, (pW.pre ⟨hK, hN⟩ hPc hDc)⟩ rfl rfl hl.1 rfl (lv_room (Nat.le_of_ble_eq_true rfl)) (dq_182 0 bcX8_act_0 (j := 27) (i := 340) rfl rfl rfl) ⟨Nat.le_of_ble_eq_true rfl, Nat.le_of_ble_eq_true rfl⟩) hS hFc hP hD [1, 2] [0, 3, 4, 5] rfl rfl (by decide) (by decide) (fun H locs hP hD hS => ?_)
    have h9 := fixPD (ws' := [k_I E a_kept 10600 w_1, k_I E a_shareX 8 w_6, k_I E a_shareY 8 w_7, k_I E a_askedRow 8 w_10, k_X8 a_ c_thrown a_tape c_taped c_at c_part c_partFrom c_partNumber c_wrong c_partWord c_readLaw c_readBound c_readGoal c_readSites a_readPlace a_script a_scriptLong c_scripts a_now a_refused c_sites a_shareX a_shareY w_8 w_9 a_askedRow w_11 a_kept w_2 c_drawn a_aside c_racer c_raced a_spelled c_spelledMany a_image c_hasImage, k_I E a_now 265 w_16]) hP hD rfl
    clear hP hD
    obtain ⟨hP, hD⟩ := h9
    refine lv_iload hx hb (dq_21 0 bcX8_act_0 (j := 30) (i := 5) rfl rfl) (lv_at hl 0 rfl) ?_
    rw [hQ]
    have h9 := fin9 (P := fun u9 : Int32 × (Nat → Int32) × (Nat → Int32) × (Nat → Int32) × Int32 × Int32 × (Nat → Int32) × Int32 × (Nat → Int32) × Int32 => r_4 = u9.1 ∧ va_P E.1 vwCl (w_X8_act E a_ a_tape a_readPlace a_script a_scriptLong a_now a_refused a_shareX a_shareY a_askedRow a_kept a_aside a_spelled a_image c_thrown c_taped c_at c_part c_partFrom c_partNumber c_wrong c_partWord c_readLaw c_readBound c_readGoal c_readSites c_scripts c_sites u9.2.2.2.2.1 u9.2.2.2.2.2.1 u9.2.2.2.2.2.2.2.1 u9.2.2.2.2.2.2.2.2.2 c_drawn c_racer c_raced c_spelledMany c_hasImage u9.2.1 u9.2.2.1 u9.2.2.2.1 u9.2.2.2.2.2.2.1 u9.2.2.2.2.2.2.2.2.1) H ∧ va_D A (w_X8_act E a_ a_tape a_readPlace a_script a_scriptLong a_now a_refused a_shareX a_shareY a_askedRow a_kept a_aside a_spelled a_image c_thrown c_taped c_at c_part c_partFrom c_partNumber c_wrong c_partWord c_readLaw c_readBound c_readGoal c_readSites c_scripts c_sites u9.2.2.2.2.1 u9.2.2.2.2.2.1 u9.2.2.2.2.2.2.2.1 u9.2.2.2.2.2.2.2.2.2 c_drawn c_racer c_raced c_spelledMany c_hasImage u9.2.1 u9.2.2.1 u9.2.2.2.1 u9.2.2.2.2.2.2.1 u9.2.2.2.2.2.2.2.2.1)) hF ⟨rfl, hP.sub [4, 5, 1, 2, 3, 0] rfl, hD.sub [4, 5, 1, 2, 3, 0] (by decide) rfl⟩
    obtain ⟨e9_0, hP9, hD9⟩ := h9
    exact W.iret (v := r_4) hx hb hr (fun tt ht hW => ⟨⟨_, (), rfl, e9_0, ht ▸ hP9, hD9⟩, hS.F ht⟩) hS.2.2 (dq_172 0 bcX8_act_0 (j := 32) rfl rfl)

def F_X8_actOf (p0 : Int32) : Option (Int32) :=
  if p0 = (0 : Int32) then some (0 : Int32) else if p0 = (1 : Int32) then some (4 : Int32) else if p0 = (2 : Int32) then some (2 : Int32) else if p0 = (3 : Int32) then some (3 : Int32) else if p0 = (4 : Int32) then some (1 : Int32) else if p0 = (5 : Int32) then some (5 : Int32) else if p0 = (6 : Int32) then some (6 : Int32) else some (5 : Int32)

def v_f_X8_actOf : List Cond := List.cons (.code yX8_actOf cX8_actOf 1 (some .int)) (HAppend.hAppend (α := List Cond) (β := List Cond) (γ := List Cond) [] [])
theorem gw_f_X8_actOf : v_f_X8_actOf.all goodWord = true := gw_c2 (by decide +kernel) gw_nil
theorem hd_X8_actOf : yX8_actOf.cls = RX8 ∧ yX8_actOf.cls ≠ "java/lang/invoke/MethodHandle" ∧ yX8_actOf.cls ≠ "java/lang/invoke/VarHandle" ∧ (parseMethodDescriptor yX8_actOf.desc).map (fun d => d.parameters.length) = some 1 := by decide +kernel
set_option maxHeartbeats 4000000 in
set_option maxRecDepth 100000 in
theorem f_X8_actOf (l : Launch) (E : EE) {p0 : Int32} {rr : Int32} (hF : F_X8_actOf p0 = some rr) : Met l yX8_actOf v_f_X8_actOf (({ frames := 0, cells := 0, slots := 0, locals := 0 } : Room)) (va_Pc [.int p0] (pP E [])) (vp_Si (fun q : Int32 => q = rr)) 0 0 (fun _ => False) := by
  refine Met.ofW (cc := cX8_actOf) (maxL := 1) (ret := (some .int)) (by decide) rfl ?_
  intro p e s m args below meth c s₁ B hml hv
  obtain ⟨rfl, ⟨hK, hN⟩, hP⟩ := hv
  have hx := B.exec
  have hb := B.bytes
  have hr := B.returns
  have hts := atoms_spec (ws := v_f_X8_actOf) B.pre
  have hown : s.vm.findClass RX8 = some m.cls := own_of hd_X8_actOf.1 (findClass_of_methodNamed B.named)
  have hlocks : meth.locks = false := B.notSynchronized
  replace hP : va_P E.1 vwCl [] s.heap := hP
  have hl := lv_entry ([.int p0]) (n := 1) (Nat.le_of_ble_eq_true rfl)
  rw [lg_entry_eq]
  generalize (lg_sl ([.int p0]) ++ List.replicate (1 - (lg_sl ([.int p0])).length) Slot.unset).toArray = ls at hl ⊢
  have hl : lv_has ls 1 [(0, .int p0)] := hl
  obtain ⟨Q, hQ⟩ : ∃ Q : State → Prop, Q = MQ below (vp_Si (fun q : Int32 => q = rr)) #[Value.int p0] s 0 0 (fun _ => False) := ⟨_, rfl⟩
  rw [← hQ]
  change W p l e ({ frames := 0, cells := 0, slots := 0, locals := 0 } : Room) s m #[Value.int p0] below meth c s.heap [] 0 0 Q (F0 m 0 ls [])
  unfold F_X8_actOf at hF
  refine lv_iload_n hx hb (dq_26 0 bcX8_actOf_0 (j := 0) rfl rfl) rfl (lv_at hl 0 rfl) ?_
  rcases Classical.em (p0 = (0 : Int32)) with c_1_0 | c_1_0
  ·
    replace hF := ip c_1_0 hF
    refine lv_tableIn (off := 43) (tgt := 44) hx hb dX8_actOf_1 (by rw [c_1_0]; decide) (by rw [c_1_0]; decide) (by rw [c_1_0]; decide) (by decide) ?_
    refine lv_iconst (v := 0) hx hb (dq_3 0 bcX8_actOf_0 (j := 44) rfl rfl) (by decide) ?_
    rw [hQ]
    obtain e9_0 := inj1 hF
    exact W.iret (v := (0 : Int32)) hx hb hr (fun tt ht hW => ⟨_, rfl, e9_0, ht⟩) (fun _ h => by cases h) (dq_172 0 bcX8_actOf_0 (j := 45) rfl rfl)
  replace hF := inn c_1_0 hF
  rcases Classical.em (p0 = (1 : Int32)) with c_1_1 | c_1_1
  ·
    replace hF := ip c_1_1 hF
    refine lv_tableIn (off := 45) (tgt := 46) hx hb dX8_actOf_1 (by rw [c_1_1]; decide) (by rw [c_1_1]; decide) (by rw [c_1_1]; decide) (by decide) ?_
    refine lv_iconst (v := 4) hx hb (dq_7 0 bcX8_actOf_0 (j := 46) rfl rfl) (by decide) ?_
    rw [hQ]
    obtain e9_0 := inj1 hF
    exact W.iret (v := (4 : Int32)) hx hb hr (fun tt ht hW => ⟨_, rfl, e9_0, ht⟩) (fun _ h => by cases h) (dq_172 0 bcX8_actOf_0 (j := 47) rfl rfl)
  replace hF := inn c_1_1 hF
  rcases Classical.em (p0 = (2 : Int32)) with c_1_2 | c_1_2
  ·
    replace hF := ip c_1_2 hF
    refine lv_tableIn (off := 47) (tgt := 48) hx hb dX8_actOf_1 (by rw [c_1_2]; decide) (by rw [c_1_2]; decide) (by rw [c_1_2]; decide) (by decide) ?_
    refine lv_iconst (v := 2) hx hb (dq_5 48 bcX8_actOf_1 (j := 0) rfl rfl) (by decide) ?_
    rw [hQ]
    obtain e9_0 := inj1 hF
    exact W.iret (v := (2 : Int32)) hx hb hr (fun tt ht hW => ⟨_, rfl, e9_0, ht⟩) (fun _ h => by cases h) (dq_172 48 bcX8_actOf_1 (j := 1) rfl rfl)
  replace hF := inn c_1_2 hF
  rcases Classical.em (p0 = (3 : Int32)) with c_1_3 | c_1_3
  ·
    replace hF := ip c_1_3 hF
    refine lv_tableIn (off := 49) (tgt := 50) hx hb dX8_actOf_1 (by rw [c_1_3]; decide) (by rw [c_1_3]; decide) (by rw [c_1_3]; decide) (by decide) ?_
    refine lv_iconst (v := 3) hx hb (dq_6 48 bcX8_actOf_1 (j := 2) rfl rfl) (by decide) ?_
    rw [hQ]
    obtain e9_0 := inj1 hF
    exact W.iret (v := (3 : Int32)) hx hb hr (fun tt ht hW => ⟨_, rfl, e9_0, ht⟩) (fun _ h => by cases h) (dq_172 48 bcX8_actOf_1 (j := 3) rfl rfl)
  replace hF := inn c_1_3 hF
  rcases Classical.em (p0 = (4 : Int32)) with c_1_4 | c_1_4
  ·
    replace hF := ip c_1_4 hF
    refine lv_tableIn (off := 51) (tgt := 52) hx hb dX8_actOf_1 (by rw [c_1_4]; decide) (by rw [c_1_4]; decide) (by rw [c_1_4]; decide) (by decide) ?_
    refine lv_iconst (v := 1) hx hb (dq_4 48 bcX8_actOf_1 (j := 4) rfl rfl) (by decide) ?_
    rw [hQ]
    obtain e9_0 := inj1 hF
    exact W.iret (v := (1 : Int32)) hx hb hr (fun tt ht hW => ⟨_, rfl, e9_0, ht⟩) (fun _ h => by cases h) (dq_172 48 bcX8_actOf_1 (j := 5) rfl rfl)
  replace hF := inn c_1_4 hF
  rcases Classical.em (p0 = (5 : Int32)) with c_1_5 | c_1_5
  ·
    replace hF := ip c_1_5 hF
    refine lv_tableIn (off := 56) (tgt := 57) hx hb dX8_actOf_1 (by rw [c_1_5]; decide) (by rw [c_1_5]; decide) (by rw [c_1_5]; decide) (by decide) ?_
    refine lv_iconst (v := 5) hx hb (dq_8 48 bcX8_actOf_1 (j := 9) rfl rfl) (by decide) ?_
    rw [hQ]
    obtain e9_0 := inj1 hF
    exact W.iret (v := (5 : Int32)) hx hb hr (fun tt ht hW => ⟨_, rfl, e9_0, ht⟩) (fun _ h => by cases h) (dq_172 48 bcX8_actOf_1 (j := 10) rfl rfl)
  replace hF := inn c_1_5 hF
  rcases Classical.em (p0 = (6 : Int32)) with c_1_6 | c_1_6
  ·
    replace hF := ip c_1_6 hF
    refine lv_tableIn (off := 53) (tgt := 54) hx hb dX8_actOf_1 (by rw [c_1_6]; decide) (by rw [c_1_6]; decide) (by rw [c_1_6]; decide) (by decide) ?_
    refine lv_bipush (v := 6) hx hb (dq_16 48 bcX8_actOf_1 (j := 6) (i := 6) rfl rfl rfl) (by decide) ?_
    rw [hQ]
    obtain e9_0 := inj1 hF
    exact W.iret (v := (6 : Int32)) hx hb hr (fun tt ht hW => ⟨_, rfl, e9_0, ht⟩) (fun _ h => by cases h) (dq_172 48 bcX8_actOf_1 (j := 8) rfl rfl)
  replace hF := inn c_1_6 hF
  refine lv_tableOut (tgt := 57) hx hb dX8_actOf_1 (by have t0 : (0 : Int32).toInt = 0 := (by decide); have t1 : (1 : Int32).toInt = 1 := (by decide); have t2 : (2 : Int32).toInt = 2 := (by decide); have t3 : (3 : Int32).toInt = 3 := (by decide); have t4 : (4 : Int32).toInt = 4 := (by decide); have t5 : (5 : Int32).toInt = 5 := (by decide); have t6 : (6 : Int32).toInt = 6 := (by decide); simp only [← Int32.toInt_inj, t0, t1, t2, t3, t4, t5, t6] at c_1_0 c_1_1 c_1_2 c_1_3 c_1_4 c_1_5 c_1_6; omega) (by decide) ?_
  refine lv_iconst (v := 5) hx hb (dq_8 48 bcX8_actOf_1 (j := 9) rfl rfl) (by decide) ?_
  rw [hQ]
  obtain e9_0 := inj1 hF
  exact W.iret (v := (5 : Int32)) hx hb hr (fun tt ht hW => ⟨_, rfl, e9_0, ht⟩) (fun _ h => by cases h) (dq_172 48 bcX8_actOf_1 (j := 10) rfl rfl)

def F_X8_in (p0 : Int64) (p1 : Int64) (p2 : Int64) : Option (Int32) :=
  if lg_cmp p0 p1 < (0 : Int32) then some (0 : Int32) else if (0 : Int32) < lg_cmp p0 p2 then some (0 : Int32) else some (1 : Int32)

def v_f_X8_in : List Cond := List.cons (.code yX8_in cX8_in 6 (some .boolean)) (HAppend.hAppend (α := List Cond) (β := List Cond) (γ := List Cond) [] [])
theorem gw_f_X8_in : v_f_X8_in.all goodWord = true := gw_c2 (by decide +kernel) gw_nil
theorem hd_X8_in : yX8_in.cls = RX8 ∧ yX8_in.cls ≠ "java/lang/invoke/MethodHandle" ∧ yX8_in.cls ≠ "java/lang/invoke/VarHandle" ∧ (parseMethodDescriptor yX8_in.desc).map (fun d => d.parameters.length) = some 3 := by decide +kernel
set_option maxHeartbeats 4000000 in
set_option maxRecDepth 100000 in
theorem f_X8_in (l : Launch) (E : EE) {p0 : Int64} {p1 : Int64} {p2 : Int64} {rr : Int32} (hF : F_X8_in p0 p1 p2 = some rr) : Met l yX8_in v_f_X8_in (({ frames := 0, cells := 0, slots := 0, locals := 0 } : Room)) (va_Pc [.long p0, .long p1, .long p2] (pP E [])) (vp_Si (fun q : Int32 => q = rr ∧ (q = 0 ∨ q = 1))) 0 0 (fun _ => False) := by
  refine Met.ofW (cc := cX8_in) (maxL := 6) (ret := (some .boolean)) (by decide) rfl ?_
  intro p e s m args below meth c s₁ B hml hv
  obtain ⟨rfl, ⟨hK, hN⟩, hP⟩ := hv
  have hx := B.exec
  have hb := B.bytes
  have hr := B.returns
  have hts := atoms_spec (ws := v_f_X8_in) B.pre
  have hown : s.vm.findClass RX8 = some m.cls := own_of hd_X8_in.1 (findClass_of_methodNamed B.named)
  have hlocks : meth.locks = false := B.notSynchronized
  replace hP : va_P E.1 vwCl [] s.heap := hP
  have hl := lv_entry ([.long p0, .long p1, .long p2]) (n := 6) (Nat.le_of_ble_eq_true rfl)
  rw [lg_entry_eq]
  generalize (lg_sl ([.long p0, .long p1, .long p2]) ++ List.replicate (6 - (lg_sl ([.long p0, .long p1, .long p2])).length) Slot.unset).toArray = ls at hl ⊢
  have hl : lv_has ls 6 [(0, .long p0), (2, .long p1), (4, .long p2)] := hl
  obtain ⟨Q, hQ⟩ : ∃ Q : State → Prop, Q = MQ below (vp_Si (fun q : Int32 => q = rr ∧ (q = 0 ∨ q = 1))) #[Value.long p0, Value.long p1, Value.long p2] s 0 0 (fun _ => False) := ⟨_, rfl⟩
  rw [← hQ]
  change W p l e ({ frames := 0, cells := 0, slots := 0, locals := 0 } : Room) s m #[Value.long p0, Value.long p1, Value.long p2] below meth c s.heap [] 0 0 Q (F0 m 0 ls [])
  unfold F_X8_in at hF
  refine lv_lload_n hx hb (dq_30 0 bcX8_in_0 (j := 0) rfl rfl) rfl (lv_at hl 0 rfl) ?_
  refine lv_lload_n hx hb (dq_32 0 bcX8_in_0 (j := 1) rfl rfl) rfl (lv_at hl 1 rfl) ?_
  refine W.lcmp hx hb (dq_148 0 bcX8_in_0 (j := 2) rfl rfl) ?_
  refine lv_if_lt (tgt := 17) hx hb (dq_155 0 bcX8_in_0 (j := 3) (i := 14) rfl rfl rfl) (by decide) (fun c_1 => ?_) (fun c_1 => ?_)
  ·
    replace hF := ip c_1 hF
    refine lv_iconst (v := 0) hx hb (dq_3 0 bcX8_in_0 (j := 17) rfl rfl) (by decide) ?_
    rw [hQ]
    obtain e9_0 := inj1 hF
    exact W.zret (v := (0 : Int32)) hx hb hr rfl (fun tt ht hW => ⟨_, rfl, ⟨e9_0, Or.inl rfl⟩, ht⟩) (fun _ h => by cases h) (dq_172 0 bcX8_in_0 (j := 18) rfl rfl)
  ·
    replace hF := inn c_1 hF
    refine lv_lload_n hx hb (dq_30 0 bcX8_in_0 (j := 6) rfl rfl) rfl (lv_at hl 0 rfl) ?_
    refine lv_lload hx hb (dq_22 0 bcX8_in_0 (j := 7) (i := 4) rfl rfl) (lv_at hl 2 rfl) ?_
    refine W.lcmp hx hb (dq_148 0 bcX8_in_0 (j := 9) rfl rfl) ?_
    refine lv_if_gt (tgt := 17) hx hb (dq_157 0 bcX8_in_0 (j := 10) (i := 7) rfl rfl rfl) (by decide) (fun c_2 => ?_) (fun c_2 => ?_)
    ·
      replace hF := ip c_2 hF
      refine lv_iconst (v := 0) hx hb (dq_3 0 bcX8_in_0 (j := 17) rfl rfl) (by decide) ?_
      rw [hQ]
      obtain e9_0 := inj1 hF
      exact W.zret (v := (0 : Int32)) hx hb hr rfl (fun tt ht hW => ⟨_, rfl, ⟨e9_0, Or.inl rfl⟩, ht⟩) (fun _ h => by cases h) (dq_172 0 bcX8_in_0 (j := 18) rfl rfl)
    ·
      replace hF := inn c_2 hF
      refine lv_iconst (v := 1) hx hb (dq_4 0 bcX8_in_0 (j := 13) rfl rfl) (by decide) ?_
      refine lv_goto (tgt := 18) hx hb (dq_167 0 bcX8_in_0 (j := 14) (i := 4) rfl rfl rfl) (by decide) ?_
      rw [hQ]
      obtain e9_0 := inj1 hF
      exact W.zret (v := (1 : Int32)) hx hb hr rfl (fun tt ht hW => ⟨_, rfl, ⟨e9_0, Or.inr rfl⟩, ht⟩) (fun _ h => by cases h) (dq_172 0 bcX8_in_0 (j := 18) rfl rfl)

def F_X8_isSite (p1 : Int32) (c_sites : Int32) : Option (Int32) :=
  bd1 (F_X8_in p1.toInt64 (0 : Int64) ((c_sites - (1 : Int32)).toInt64)) (fun r_1 => some r_1)
abbrev w_X8_isSite (E : EE) (a_ a_tape a_readPlace a_script a_scriptLong a_now a_refused a_shareX a_shareY a_askedRow a_kept a_aside a_spelled a_image : Nat) (c_thrown : Int32) (c_taped : Int32) (c_at : Int32) (c_part : Int32) (c_partFrom : Int32) (c_partNumber : Int32) (c_wrong : Int32) (c_partWord : Int64) (c_readLaw : Int32) (c_readBound : Int32) (c_readGoal : Int32) (c_readSites : Int32) (c_scripts : Int32) (c_sites : Int32) (c_asked : Int32) (c_outcome : Int32) (c_took : Int32) (c_acts : Int32) (c_drawn : Int64) (c_racer : Int32) (c_raced : Int32) (c_spelledMany : Int32) (c_hasImage : Int32) : va_W := [k_X8 a_ c_thrown a_tape c_taped c_at c_part c_partFrom c_partNumber c_wrong c_partWord c_readLaw c_readBound c_readGoal c_readSites a_readPlace a_script a_scriptLong c_scripts a_now a_refused c_sites a_shareX a_shareY c_asked c_outcome a_askedRow c_took a_kept c_acts c_drawn a_aside c_racer c_raced a_spelled c_spelledMany a_image c_hasImage]
def v_f_X8_isSite : List Cond := List.cons (.code yX8_isSite cX8_isSite 2 (some .boolean)) (HAppend.hAppend (α := List Cond) (β := List Cond) (γ := List Cond) [.fieldLink RX8 196 "HushWatchModel" "sites" "I", .methodLink RX8 60 yX8_in, .static yX8_in, .initialized RX8] (HAppend.hAppend (α := List Cond) (β := List Cond) (γ := List Cond) wsX80 (HAppend.hAppend (α := List Cond) (β := List Cond) (γ := List Cond) v_f_X8_in [])))
theorem gw_f_X8_isSite : v_f_X8_isSite.all goodWord = true := gw_c2 (by decide +kernel) (gw_ap gw_wsX80 (gw_ap gw_f_X8_in gw_nil))
theorem i_f_X8_isSite_X8 : ∀ w ∈ wsX80, w ∈ v_f_X8_isSite := fun _ h => List.mem_cons_of_mem _ (List.mem_append_right _ (List.mem_append_left _ h))
theorem g_f_X8_isSite_f_X8_in_60 : GoodIn v_f_X8_isSite (va_wsS RX8 60 yX8_in v_f_X8_in) := goodIn_in gw_f_X8_isSite (in3 2 3 4 rfl rfl rfl (fun _ h => List.mem_cons_of_mem _ (List.mem_append_right _ (List.mem_append_right _ (List.mem_append_left _ h)))))
theorem hd_X8_isSite : yX8_isSite.cls = RX8 ∧ yX8_isSite.cls ≠ "java/lang/invoke/MethodHandle" ∧ yX8_isSite.cls ≠ "java/lang/invoke/VarHandle" ∧ (parseMethodDescriptor yX8_isSite.desc).map (fun d => d.parameters.length) = some 1 := by decide +kernel
set_option maxHeartbeats 4000000 in
set_option maxRecDepth 100000 in
theorem f_X8_isSite (l : Launch) (E : EE) {a_ a_tape a_readPlace a_script a_scriptLong a_now a_refused a_shareX a_shareY a_askedRow a_kept a_aside a_spelled a_image : Nat} {p1 : Int32} {c_thrown : Int32} {c_taped : Int32} {c_at : Int32} {c_part : Int32} {c_partFrom : Int32} {c_partNumber : Int32} {c_wrong : Int32} {c_partWord : Int64} {c_readLaw : Int32} {c_readBound : Int32} {c_readGoal : Int32} {c_readSites : Int32} {c_scripts : Int32} {c_sites : Int32} {c_asked : Int32} {c_outcome : Int32} {c_took : Int32} {c_acts : Int32} {c_drawn : Int64} {c_racer : Int32} {c_raced : Int32} {c_spelledMany : Int32} {c_hasImage : Int32} {rr : Int32} (hF : F_X8_isSite p1 c_sites = some rr) : Met l yX8_isSite v_f_X8_isSite (({ frames := 1, cells := 0, slots := 0, locals := 25 } : Room)) (va_Pc [.ref a_, .int p1] (pP E (w_X8_isSite E a_ a_tape a_readPlace a_script a_scriptLong a_now a_refused a_shareX a_shareY a_askedRow a_kept a_aside a_spelled a_image c_thrown c_taped c_at c_part c_partFrom c_partNumber c_wrong c_partWord c_readLaw c_readBound c_readGoal c_readSites c_scripts c_sites c_asked c_outcome c_took c_acts c_drawn c_racer c_raced c_spelledMany c_hasImage))) (vp_Si (fun q : Int32 => q = rr ∧ (q = 0 ∨ q = 1))) 0 0 (fun _ => False) := by
  refine Met.ofW (cc := cX8_isSite) (maxL := 2) (ret := (some .boolean)) (by decide) rfl ?_
  intro p e s m args below meth c s₁ B hml hv
  obtain ⟨rfl, ⟨hK, hN⟩, hP⟩ := hv
  have hx := B.exec
  have hb := B.bytes
  have hr := B.returns
  have hts := atoms_spec (ws := v_f_X8_isSite) B.pre
  have hown : s.vm.findClass RX8 = some m.cls := own_of hd_X8_isSite.1 (findClass_of_methodNamed B.named)
  have hlocks : meth.locks = false := B.notSynchronized
  replace hP : va_P E.1 vwCl [k_X8 a_ c_thrown a_tape c_taped c_at c_part c_partFrom c_partNumber c_wrong c_partWord c_readLaw c_readBound c_readGoal c_readSites a_readPlace a_script a_scriptLong c_scripts a_now a_refused c_sites a_shareX a_shareY c_asked c_outcome a_askedRow c_took a_kept c_acts c_drawn a_aside c_racer c_raced a_spelled c_spelledMany a_image c_hasImage] s.heap := hP
  have hl := lv_entry ([.ref a_, .int p1]) (n := 2) (Nat.le_of_ble_eq_true rfl)
  rw [lg_entry_eq]
  generalize (lg_sl ([.ref a_, .int p1]) ++ List.replicate (2 - (lg_sl ([.ref a_, .int p1])).length) Slot.unset).toArray = ls at hl ⊢
  have hl : lv_has ls 2 [(0, .ref a_), (1, .int p1)] := hl
  obtain ⟨Q, hQ⟩ : ∃ Q : State → Prop, Q = MQ below (vp_Si (fun q : Int32 => q = rr ∧ (q = 0 ∨ q = 1))) #[Value.ref a_, Value.int p1] s 0 0 (fun _ => False) := ⟨_, rfl⟩
  rw [← hQ]
  change W p l e ({ frames := 1, cells := 0, slots := 0, locals := 25 } : Room) s m #[Value.ref a_, Value.int p1] below meth c s.heap [] 0 0 Q (F0 m 0 ls [])
  unfold F_X8_isSite at hF
  refine lv_iload_n hx hb (dq_27 0 bcX8_isSite_0 (j := 0) rfl rfl) rfl (lv_at hl 1 rfl) ?_
  refine lv_i2l (v := p1.toInt64) hx hb (dq_133 0 bcX8_isSite_0 (j := 1) rfl rfl) rfl ?_
  refine lv_lconst (v := 0) hx hb (dq_9 0 bcX8_isSite_0 (j := 2) rfl rfl) (by decide) ?_
  refine lv_aload_n hx hb (dq_42 0 bcX8_isSite_0 (j := 3) rfl rfl) rfl (lv_at hl 0 rfl) ?_
  refine gt_X8_19 (v := .int c_sites) hx hb hts i_f_X8_isSite_X8 hown hK hP 0 rfl (hts (.fieldLink RX8 196 "HushWatchModel" "sites" "I") (List.mem_of_getElem? (i := 1) rfl)) rfl (dq_180 0 bcX8_isSite_0 (j := 4) (i := 196) rfl rfl rfl) ?_
  refine lv_iconst (v := 1) hx hb (dq_4 0 bcX8_isSite_0 (j := 7) rfl rfl) (by decide) ?_
  refine lv_isub hx hb (dq_100 0 bcX8_isSite_0 (j := 8) rfl rfl) ?_
  refine lv_i2l (v := (c_sites - (1 : Int32)).toInt64) hx hb (dq_133 0 bcX8_isSite_0 (j := 9) rfl rfl) rfl ?_
  replace hF := bd1_s hF
  obtain ⟨r_1, hc_2, hF⟩ := hF
  have hPc : va_P E.1 vwCl [] s.heap := fun k q h => by simp at h
  refine pE_z (va_runS (As := [.long p1.toInt64, .long (0 : Int64), .long ((c_sites - (1 : Int32)).toInt64)]) (rest := [])  ⟨hx, hb, hml, hown, hts⟩ (f_X8_in l E (p0 := p1.toInt64) (p1 := (0 : Int64)) (p2 := (c_sites - (1 : Int32)).toInt64) hc_2) (va_cwS 3 hts g_f_X8_isSite_f_X8_in_60 rfl rfl rfl hd_X8_in.2 ⟨Nat.le_of_ble_eq_true rfl, Nat.le_of_ble_eq_true rfl⟩) ⟨pP.blind, (pP.pre ⟨hK, hN⟩ hPc)⟩ rfl rfl hl.1 rfl (lv_room (Nat.le_of_ble_eq_true rfl)) (dq_184 0 bcX8_isSite_0 (j := 10) (i := 60) rfl rfl rfl) ⟨Nat.le_of_ble_eq_true rfl, Nat.le_of_ble_eq_true rfl⟩) (fun hb_3 => ?_)
  rw [hQ]
  obtain e9_0 := inj1 hF
  exact W.zret (v := r_1) hx hb hr (nar_bool hb_3) (fun tt ht hW => ⟨_, rfl, ⟨e9_0, hb_3⟩, ht⟩) (fun _ h => by cases h) (dq_172 0 bcX8_isSite_0 (j := 13) rfl rfl)

def J_X8_whyMove_90 (p1 : Int32) (p2 : Int32) (p3 : Int32) (c_now : Nat → Int32) (k0 : Int32) : Option (Int32) :=
  if k0 = (0 : Int32) then some (1 : Int32) else if p2 = (0 : Int32) then if p3 = (0 : Int32) then some (2 : Int32) else bd1 (F_X8_isFrozen p1 c_now) (fun r_16 => if r_16 = (0 : Int32) then some (-1 : Int32) else some (2 : Int32)) else bd1 (F_X8_isFrozen p1 c_now) (fun r_11 => if r_11 = (0 : Int32) then some (-1 : Int32) else some (2 : Int32))
def J_X8_whyMove_89 (p1 : Int32) (p2 : Int32) (p3 : Int32) (c_now : Nat → Int32) : Option (Int32) :=
  J_X8_whyMove_90 p1 p2 p3 c_now (0 : Int32)
def F_X8_whyMove (p1 : Int32) (p2 : Int32) (p3 : Int32) (c_now : Nat → Int32) (c_sites : Int32) : Option (Int32) :=
  bd1 (F_X8_isSite p1 c_sites) (fun r_1 => if r_1 = (0 : Int32) then some (0 : Int32) else bd1 (F_X8_in p2.toInt64 (-9999 : Int64) (9999 : Int64)) (fun r_5 => if r_5 = (0 : Int32) then J_X8_whyMove_89 p1 p2 p3 c_now else bd1 (F_X8_in p3.toInt64 (-9999 : Int64) (9999 : Int64)) (fun r_20 => if r_20 = (0 : Int32) then J_X8_whyMove_89 p1 p2 p3 c_now else ixF ((0 : Int32) + p1) 265 (bd1 (F_X8_in (((c_now ((0 : Int32) + p1).toNatClampNeg) + p2).toInt64) (-99999 : Int64) (99999 : Int64)) (fun r_25 => if r_25 = (0 : Int32) then J_X8_whyMove_89 p1 p2 p3 c_now else ixF ((8 : Int32) + p1) 265 (bd1 (F_X8_in (((c_now ((8 : Int32) + p1).toNatClampNeg) + p3).toInt64) (-99999 : Int64) (99999 : Int64)) (fun r_30 => if r_30 = (0 : Int32) then J_X8_whyMove_89 p1 p2 p3 c_now else J_X8_whyMove_90 p1 p2 p3 c_now (1 : Int32))))))))
abbrev w_X8_whyMove (E : EE) (a_ a_tape a_readPlace a_script a_scriptLong a_now a_refused a_shareX a_shareY a_askedRow a_kept a_aside a_spelled a_image : Nat) (c_thrown : Int32) (c_taped : Int32) (c_at : Int32) (c_part : Int32) (c_partFrom : Int32) (c_partNumber : Int32) (c_wrong : Int32) (c_partWord : Int64) (c_readLaw : Int32) (c_readBound : Int32) (c_readGoal : Int32) (c_readSites : Int32) (c_scripts : Int32) (c_sites : Int32) (c_asked : Int32) (c_outcome : Int32) (c_took : Int32) (c_acts : Int32) (c_drawn : Int64) (c_racer : Int32) (c_raced : Int32) (c_spelledMany : Int32) (c_hasImage : Int32) (c_now : Nat → Int32) : va_W := [k_X8 a_ c_thrown a_tape c_taped c_at c_part c_partFrom c_partNumber c_wrong c_partWord c_readLaw c_readBound c_readGoal c_readSites a_readPlace a_script a_scriptLong c_scripts a_now a_refused c_sites a_shareX a_shareY c_asked c_outcome a_askedRow c_took a_kept c_acts c_drawn a_aside c_racer c_raced a_spelled c_spelledMany a_image c_hasImage, k_I E a_now 265 c_now]
def v_f_X8_whyMove : List Cond := List.cons (.code yX8_whyMove cX8_whyMove 5 (some .int)) (HAppend.hAppend (α := List Cond) (β := List Cond) (γ := List Cond) [.constantLong RX8 281 (-9999), .constantLong RX8 283 (9999), .fieldLink RX8 22 "HushWatchModel" "now" "[I", .constantLong RX8 285 (-99999), .constantLong RX8 287 (99999), .methodLink RX8 278 yX8_isSite, .instanceMethod yX8_isSite, .selects RX8 yX8_isSite yX8_isSite, .initialized RX8, .methodLink RX8 60 yX8_in, .static yX8_in, .methodLink RX8 257 yX8_isFrozen, .instanceMethod yX8_isFrozen, .selects RX8 yX8_isFrozen yX8_isFrozen] (HAppend.hAppend (α := List Cond) (β := List Cond) (γ := List Cond) v_f_X8_isSite (HAppend.hAppend (α := List Cond) (β := List Cond) (γ := List Cond) v_f_X8_in (HAppend.hAppend (α := List Cond) (β := List Cond) (γ := List Cond) v_f_X8_isFrozen (HAppend.hAppend (α := List Cond) (β := List Cond) (γ := List Cond) wsX80 [])))))
theorem gw_f_X8_whyMove : v_f_X8_whyMove.all goodWord = true := gw_c2 (by decide +kernel) (gw_ap gw_f_X8_isSite (gw_ap gw_f_X8_in (gw_ap gw_f_X8_isFrozen (gw_ap gw_wsX80 gw_nil))))
theorem i_f_X8_whyMove_X8 : ∀ w ∈ wsX80, w ∈ v_f_X8_whyMove := fun _ h => List.mem_cons_of_mem _ (List.mem_append_right _ (List.mem_append_right _ (List.mem_append_right _ (List.mem_append_right _ (List.mem_append_left _ h)))))
theorem g_f_X8_whyMove_f_X8_isSite_278 : GoodIn v_f_X8_whyMove (wsV RX8 278 RX8 yX8_isSite v_f_X8_isSite) := goodIn_in gw_f_X8_whyMove (in4 6 7 8 9 rfl rfl rfl rfl (fun _ h => List.mem_cons_of_mem _ (List.mem_append_right _ (List.mem_append_left _ h))))
theorem g_f_X8_whyMove_f_X8_in_60 : GoodIn v_f_X8_whyMove (va_wsS RX8 60 yX8_in v_f_X8_in) := goodIn_in gw_f_X8_whyMove (in3 10 11 9 rfl rfl rfl (fun _ h => List.mem_cons_of_mem _ (List.mem_append_right _ (List.mem_append_right _ (List.mem_append_left _ h)))))
theorem g_f_X8_whyMove_f_X8_isFrozen_257 : GoodIn v_f_X8_whyMove (wsV RX8 257 RX8 yX8_isFrozen v_f_X8_isFrozen) := goodIn_in gw_f_X8_whyMove (in4 12 13 14 9 rfl rfl rfl rfl (fun _ h => List.mem_cons_of_mem _ (List.mem_append_right _ (List.mem_append_right _ (List.mem_append_right _ (List.mem_append_left _ h))))))
theorem hd_X8_whyMove : yX8_whyMove.cls = RX8 ∧ yX8_whyMove.cls ≠ "java/lang/invoke/MethodHandle" ∧ yX8_whyMove.cls ≠ "java/lang/invoke/VarHandle" ∧ (parseMethodDescriptor yX8_whyMove.desc).map (fun d => d.parameters.length) = some 3 := by decide +kernel
set_option maxHeartbeats 4000000 in
set_option maxRecDepth 100000 in
theorem j_X8_whyMove_90 {p : Program} (l : Launch) {e : Env} {s : State} {m : MethodId} {below : List Frame} {meth : Method} {c : Code} {Q : State → Prop} (E : EE) {a_ a_tape a_readPlace a_script a_scriptLong a_now a_refused a_shareX a_shareY a_askedRow a_kept a_aside a_spelled a_image : Nat} {p1 : Int32} {p2 : Int32} {p3 : Int32} {c_thrown : Int32} {c_taped : Int32} {c_at : Int32} {c_part : Int32} {c_partFrom : Int32} {c_partNumber : Int32} {c_wrong : Int32} {c_partWord : Int64} {c_readLaw : Int32} {c_readBound : Int32} {c_readGoal : Int32} {c_readSites : Int32} {c_scripts : Int32} {c_sites : Int32} {c_asked : Int32} {c_outcome : Int32} {c_took : Int32} {c_acts : Int32} {c_drawn : Int64} {c_racer : Int32} {c_raced : Int32} {c_spelledMany : Int32} {c_hasImage : Int32} {c_now : Nat → Int32} {k0 : Int32} (hx : p.tables.exec = Jvm.exec) (hb : c.code = cX8_whyMove) (hml : c.maxLocals = 5) (hown : s.vm.findClass RX8 = some m.cls) (hts : ∀ w ∈ v_f_X8_whyMove, w.before #[Value.ref a_, Value.int p1, Value.int p2, Value.int p3] s = true) (hK : va_K E.1 vwCl (TY E) s) (hN : NX s) {rr : Int32} (hr : meth.sig.returnType = (some .int)) (hlocks : meth.locks = false) (hQ : Q = MQ below (vp_Si (fun q : Int32 => q = rr)) #[Value.ref a_, Value.int p1, Value.int p2, Value.int p3] s 0 0 (fun _ => False)) (hF : J_X8_whyMove_90 p1 p2 p3 c_now k0 = some rr) (hP : va_P E.1 vwCl (w_X8_whyMove E a_ a_tape a_readPlace a_script a_scriptLong a_now a_refused a_shareX a_shareY a_askedRow a_kept a_aside a_spelled a_image c_thrown c_taped c_at c_part c_partFrom c_partNumber c_wrong c_partWord c_readLaw c_readBound c_readGoal c_readSites c_scripts c_sites c_asked c_outcome c_took c_acts c_drawn c_racer c_raced c_spelledMany c_hasImage c_now) s.heap) : ∀ (ls : Array Slot), lv_has ls 5 [(0, .ref a_), (1, .int p1), (2, .int p2), (3, .int p3)] → W p l e ({ frames := 2, cells := 0, slots := 0, locals := 46 } : Room) s m #[Value.ref a_, Value.int p1, Value.int p2, Value.int p3] below meth c s.heap [] 0 0 Q (F0 m 90 ls [.int k0]) := by
  unfold J_X8_whyMove_90 at hF
  replace hP : va_P E.1 vwCl [k_X8 a_ c_thrown a_tape c_taped c_at c_part c_partFrom c_partNumber c_wrong c_partWord c_readLaw c_readBound c_readGoal c_readSites a_readPlace a_script a_scriptLong c_scripts a_now a_refused c_sites a_shareX a_shareY c_asked c_outcome a_askedRow c_took a_kept c_acts c_drawn a_aside c_racer c_raced a_spelled c_spelledMany a_image c_hasImage, k_I E a_now 265 c_now] s.heap := hP
  intro ls hl
  refine lv_istore (lv' := [(4, .int k0), (0, .ref a_), (1, .int p1), (2, .int p2), (3, .int p3)]) hx hb (dq_54 48 bcX8_whyMove_1 (j := 42) (i := 4) rfl rfl) hl (by decide) rfl (fun ls hl => ?_)
  refine lv_iload hx hb (dq_21 48 bcX8_whyMove_1 (j := 44) (i := 4) rfl rfl) (lv_at hl 0 rfl) ?_
  refine lv_if_ne (tgt := 101) hx hb (dq_154 48 bcX8_whyMove_1 (j := 46) (i := 7) rfl rfl rfl) (by decide) (fun c_9 => ?_) (fun c_9 => ?_)
  ·
    replace hF := inn c_9 hF
    refine lv_iload_n hx hb (dq_28 96 bcX8_whyMove_2 (j := 5) rfl rfl) rfl (lv_at hl 3 rfl) ?_
    refine lv_if_ne (tgt := 109) hx hb (dq_154 96 bcX8_whyMove_2 (j := 6) (i := 7) rfl rfl rfl) (by decide) (fun c_10 => ?_) (fun c_10 => ?_)
    ·
      replace hF := inn c_10 hF
      refine lv_aload_n hx hb (dq_42 96 bcX8_whyMove_2 (j := 13) rfl rfl) rfl (lv_at hl 1 rfl) ?_
      refine lv_iload_n hx hb (dq_27 96 bcX8_whyMove_2 (j := 14) rfl rfl) rfl (lv_at hl 2 rfl) ?_
      replace hF := bd1_s hF
      obtain ⟨r_11, hc_12, hF⟩ := hF
      have hPc : va_P E.1 vwCl (w_X8_isFrozen E a_ a_tape a_readPlace a_script a_scriptLong a_now a_refused a_shareX a_shareY a_askedRow a_kept a_aside a_spelled a_image c_thrown c_taped c_at c_part c_partFrom c_partNumber c_wrong c_partWord c_readLaw c_readBound c_readGoal c_readSites c_scripts c_sites c_asked c_outcome c_took c_acts c_drawn c_racer c_raced c_spelledMany c_hasImage c_now) s.heap := hP.sub (ws' := [k_X8 a_ c_thrown a_tape c_taped c_at c_part c_partFrom c_partNumber c_wrong c_partWord c_readLaw c_readBound c_readGoal c_readSites a_readPlace a_script a_scriptLong c_scripts a_now a_refused c_sites a_shareX a_shareY c_asked c_outcome a_askedRow c_took a_kept c_acts c_drawn a_aside c_racer c_raced a_spelled c_spelledMany a_image c_hasImage, k_I E a_now 265 c_now]) [0, 1] rfl
      have hrc := va_recv hK hPc (ci := 9) (q0 := 0) rfl rfl
      refine pE_z (va_runV (As := [.int p1]) (rest := [])  ⟨hx, hb, hml, hown, hts⟩ (f_X8_isFrozen l E (a_ := a_) (a_tape := a_tape) (a_readPlace := a_readPlace) (a_script := a_script) (a_scriptLong := a_scriptLong) (a_now := a_now) (a_refused := a_refused) (a_shareX := a_shareX) (a_shareY := a_shareY) (a_askedRow := a_askedRow) (a_kept := a_kept) (a_aside := a_aside) (a_spelled := a_spelled) (a_image := a_image) (p1 := p1) (c_thrown := c_thrown) (c_taped := c_taped) (c_at := c_at) (c_part := c_part) (c_partFrom := c_partFrom) (c_partNumber := c_partNumber) (c_wrong := c_wrong) (c_partWord := c_partWord) (c_readLaw := c_readLaw) (c_readBound := c_readBound) (c_readGoal := c_readGoal) (c_readSites := c_readSites) (c_scripts := c_scripts) (c_sites := c_sites) (c_asked := c_asked) (c_outcome := c_outcome) (c_took := c_took) (c_acts := c_acts) (c_drawn := c_drawn) (c_racer := c_racer) (c_raced := c_raced) (c_spelledMany := c_spelledMany) (c_hasImage := c_hasImage) (c_now := c_now) hc_12) (cwV 1 hts g_f_X8_whyMove_f_X8_isFrozen_257 rfl rfl rfl hd_X8_isFrozen ⟨Nat.le_of_ble_eq_true rfl, Nat.le_of_ble_eq_true rfl⟩) ⟨pP.blind, hrc, (pP.pre ⟨hK, hN⟩ hPc)⟩ rfl rfl hl.1 rfl (lv_room (Nat.le_of_ble_eq_true rfl)) (dq_182 96 bcX8_whyMove_2 (j := 15) (i := 257) rfl rfl rfl) ⟨Nat.le_of_ble_eq_true rfl, Nat.le_of_ble_eq_true rfl⟩) (fun hb_13 => ?_)
      refine lv_if_eq (tgt := 121) hx hb (dq_153 96 bcX8_whyMove_2 (j := 18) (i := 7) rfl rfl rfl) (by decide) (fun c_14 => ?_) (fun c_14 => ?_)
      ·
        replace hF := ip c_14 hF
        refine lv_iconst (v := -1) hx hb (dq_2 96 bcX8_whyMove_2 (j := 25) rfl rfl) (by decide) ?_
        rw [hQ]
        obtain e9_0 := inj1 hF
        exact W.iret (v := (-1 : Int32)) hx hb hr (fun tt ht hW => ⟨_, rfl, e9_0, ht⟩) (fun _ h => by cases h) (dq_172 96 bcX8_whyMove_2 (j := 26) rfl rfl)
      ·
        replace hF := inn c_14 hF
        refine lv_iconst (v := 2) hx hb (dq_5 96 bcX8_whyMove_2 (j := 21) rfl rfl) (by decide) ?_
        refine lv_goto (tgt := 122) hx hb (dq_167 96 bcX8_whyMove_2 (j := 22) (i := 4) rfl rfl rfl) (by decide) ?_
        rw [hQ]
        obtain e9_0 := inj1 hF
        exact W.iret (v := (2 : Int32)) hx hb hr (fun tt ht hW => ⟨_, rfl, e9_0, ht⟩) (fun _ h => by cases h) (dq_172 96 bcX8_whyMove_2 (j := 26) rfl rfl)
    ·
      replace hF := ip c_10 hF
      refine lv_iload_n hx hb (dq_29 96 bcX8_whyMove_2 (j := 9) rfl rfl) rfl (lv_at hl 4 rfl) ?_
      refine lv_if_eq (tgt := 117) hx hb (dq_153 96 bcX8_whyMove_2 (j := 10) (i := 11) rfl rfl rfl) (by decide) (fun c_15 => ?_) (fun c_15 => ?_)
      ·
        replace hF := ip c_15 hF
        refine lv_iconst (v := 2) hx hb (dq_5 96 bcX8_whyMove_2 (j := 21) rfl rfl) (by decide) ?_
        refine lv_goto (tgt := 122) hx hb (dq_167 96 bcX8_whyMove_2 (j := 22) (i := 4) rfl rfl rfl) (by decide) ?_
        rw [hQ]
        obtain e9_0 := inj1 hF
        exact W.iret (v := (2 : Int32)) hx hb hr (fun tt ht hW => ⟨_, rfl, e9_0, ht⟩) (fun _ h => by cases h) (dq_172 96 bcX8_whyMove_2 (j := 26) rfl rfl)
      ·
        replace hF := inn c_15 hF
        refine lv_aload_n hx hb (dq_42 96 bcX8_whyMove_2 (j := 13) rfl rfl) rfl (lv_at hl 1 rfl) ?_
        refine lv_iload_n hx hb (dq_27 96 bcX8_whyMove_2 (j := 14) rfl rfl) rfl (lv_at hl 2 rfl) ?_
        replace hF := bd1_s hF
        obtain ⟨r_16, hc_17, hF⟩ := hF
        have hPc : va_P E.1 vwCl (w_X8_isFrozen E a_ a_tape a_readPlace a_script a_scriptLong a_now a_refused a_shareX a_shareY a_askedRow a_kept a_aside a_spelled a_image c_thrown c_taped c_at c_part c_partFrom c_partNumber c_wrong c_partWord c_readLaw c_readBound c_readGoal c_readSites c_scripts c_sites c_asked c_outcome c_took c_acts c_drawn c_racer c_raced c_spelledMany c_hasImage c_now) s.heap := hP.sub (ws' := [k_X8 a_ c_thrown a_tape c_taped c_at c_part c_partFrom c_partNumber c_wrong c_partWord c_readLaw c_readBound c_readGoal c_readSites a_readPlace a_script a_scriptLong c_scripts a_now a_refused c_sites a_shareX a_shareY c_asked c_outcome a_askedRow c_took a_kept c_acts c_drawn a_aside c_racer c_raced a_spelled c_spelledMany a_image c_hasImage, k_I E a_now 265 c_now]) [0, 1] rfl
        have hrc := va_recv hK hPc (ci := 9) (q0 := 0) rfl rfl
        refine pE_z (va_runV (As := [.int p1]) (rest := [])  ⟨hx, hb, hml, hown, hts⟩ (f_X8_isFrozen l E (a_ := a_) (a_tape := a_tape) (a_readPlace := a_readPlace) (a_script := a_script) (a_scriptLong := a_scriptLong) (a_now := a_now) (a_refused := a_refused) (a_shareX := a_shareX) (a_shareY := a_shareY) (a_askedRow := a_askedRow) (a_kept := a_kept) (a_aside := a_aside) (a_spelled := a_spelled) (a_image := a_image) (p1 := p1) (c_thrown := c_thrown) (c_taped := c_taped) (c_at := c_at) (c_part := c_part) (c_partFrom := c_partFrom) (c_partNumber := c_partNumber) (c_wrong := c_wrong) (c_partWord := c_partWord) (c_readLaw := c_readLaw) (c_readBound := c_readBound) (c_readGoal := c_readGoal) (c_readSites := c_readSites) (c_scripts := c_scripts) (c_sites := c_sites) (c_asked := c_asked) (c_outcome := c_outcome) (c_took := c_took) (c_acts := c_acts) (c_drawn := c_drawn) (c_racer := c_racer) (c_raced := c_raced) (c_spelledMany := c_spelledMany) (c_hasImage := c_hasImage) (c_now := c_now) hc_17) (cwV 1 hts g_f_X8_whyMove_f_X8_isFrozen_257 rfl rfl rfl hd_X8_isFrozen ⟨Nat.le_of_ble_eq_true rfl, Nat.le_of_ble_eq_true rfl⟩) ⟨pP.blind, hrc, (pP.pre ⟨hK, hN⟩ hPc)⟩ rfl rfl hl.1 rfl (lv_room (Nat.le_of_ble_eq_true rfl)) (dq_182 96 bcX8_whyMove_2 (j := 15) (i := 257) rfl rfl rfl) ⟨Nat.le_of_ble_eq_true rfl, Nat.le_of_ble_eq_true rfl⟩) (fun hb_18 => ?_)
        refine lv_if_eq (tgt := 121) hx hb (dq_153 96 bcX8_whyMove_2 (j := 18) (i := 7) rfl rfl rfl) (by decide) (fun c_19 => ?_) (fun c_19 => ?_)
        ·
          replace hF := ip c_19 hF
          refine lv_iconst (v := -1) hx hb (dq_2 96 bcX8_whyMove_2 (j := 25) rfl rfl) (by decide) ?_
          rw [hQ]
          obtain e9_0 := inj1 hF
          exact W.iret (v := (-1 : Int32)) hx hb hr (fun tt ht hW => ⟨_, rfl, e9_0, ht⟩) (fun _ h => by cases h) (dq_172 96 bcX8_whyMove_2 (j := 26) rfl rfl)
        ·
          replace hF := inn c_19 hF
          refine lv_iconst (v := 2) hx hb (dq_5 96 bcX8_whyMove_2 (j := 21) rfl rfl) (by decide) ?_
          refine lv_goto (tgt := 122) hx hb (dq_167 96 bcX8_whyMove_2 (j := 22) (i := 4) rfl rfl rfl) (by decide) ?_
          rw [hQ]
          obtain e9_0 := inj1 hF
          exact W.iret (v := (2 : Int32)) hx hb hr (fun tt ht hW => ⟨_, rfl, e9_0, ht⟩) (fun _ h => by cases h) (dq_172 96 bcX8_whyMove_2 (j := 26) rfl rfl)
  ·
    replace hF := ip c_9 hF
    refine lv_iconst (v := 1) hx hb (dq_4 96 bcX8_whyMove_2 (j := 1) rfl rfl) (by decide) ?_
    refine lv_goto (tgt := 122) hx hb (dq_167 96 bcX8_whyMove_2 (j := 2) (i := 24) rfl rfl rfl) (by decide) ?_
    rw [hQ]
    obtain e9_0 := inj1 hF
    exact W.iret (v := (1 : Int32)) hx hb hr (fun tt ht hW => ⟨_, rfl, e9_0, ht⟩) (fun _ h => by cases h) (dq_172 96 bcX8_whyMove_2 (j := 26) rfl rfl)

set_option maxHeartbeats 4000000 in
set_option maxRecDepth 100000 in
theorem j_X8_whyMove_89 {p : Program} (l : Launch) {e : Env} {s : State} {m : MethodId} {below : List Frame} {meth : Method} {c : Code} {Q : State → Prop} (E : EE) {a_ a_tape a_readPlace a_script a_scriptLong a_now a_refused a_shareX a_shareY a_askedRow a_kept a_aside a_spelled a_image : Nat} {p1 : Int32} {p2 : Int32} {p3 : Int32} {c_thrown : Int32} {c_taped : Int32} {c_at : Int32} {c_part : Int32} {c_partFrom : Int32} {c_partNumber : Int32} {c_wrong : Int32} {c_partWord : Int64} {c_readLaw : Int32} {c_readBound : Int32} {c_readGoal : Int32} {c_readSites : Int32} {c_scripts : Int32} {c_sites : Int32} {c_asked : Int32} {c_outcome : Int32} {c_took : Int32} {c_acts : Int32} {c_drawn : Int64} {c_racer : Int32} {c_raced : Int32} {c_spelledMany : Int32} {c_hasImage : Int32} {c_now : Nat → Int32} (hx : p.tables.exec = Jvm.exec) (hb : c.code = cX8_whyMove) (hml : c.maxLocals = 5) (hown : s.vm.findClass RX8 = some m.cls) (hts : ∀ w ∈ v_f_X8_whyMove, w.before #[Value.ref a_, Value.int p1, Value.int p2, Value.int p3] s = true) (hK : va_K E.1 vwCl (TY E) s) (hN : NX s) {rr : Int32} (hr : meth.sig.returnType = (some .int)) (hlocks : meth.locks = false) (hQ : Q = MQ below (vp_Si (fun q : Int32 => q = rr)) #[Value.ref a_, Value.int p1, Value.int p2, Value.int p3] s 0 0 (fun _ => False)) (hF : J_X8_whyMove_89 p1 p2 p3 c_now = some rr) (hP : va_P E.1 vwCl (w_X8_whyMove E a_ a_tape a_readPlace a_script a_scriptLong a_now a_refused a_shareX a_shareY a_askedRow a_kept a_aside a_spelled a_image c_thrown c_taped c_at c_part c_partFrom c_partNumber c_wrong c_partWord c_readLaw c_readBound c_readGoal c_readSites c_scripts c_sites c_asked c_outcome c_took c_acts c_drawn c_racer c_raced c_spelledMany c_hasImage c_now) s.heap) : ∀ (ls : Array Slot), lv_has ls 5 [(0, .ref a_), (1, .int p1), (2, .int p2), (3, .int p3)] → W p l e ({ frames := 2, cells := 0, slots := 0, locals := 46 } : Room) s m #[Value.ref a_, Value.int p1, Value.int p2, Value.int p3] below meth c s.heap [] 0 0 Q (F0 m 89 ls []) := by
  unfold J_X8_whyMove_89 at hF
  replace hP : va_P E.1 vwCl [k_X8 a_ c_thrown a_tape c_taped c_at c_part c_partFrom c_partNumber c_wrong c_partWord c_readLaw c_readBound c_readGoal c_readSites a_readPlace a_script a_scriptLong c_scripts a_now a_refused c_sites a_shareX a_shareY c_asked c_outcome a_askedRow c_took a_kept c_acts c_drawn a_aside c_racer c_raced a_spelled c_spelledMany a_image c_hasImage, k_I E a_now 265 c_now] s.heap := hP
  intro ls hl
  refine lv_iconst (v := 0) hx hb (dq_3 48 bcX8_whyMove_1 (j := 41) rfl rfl) (by decide) ?_
  exact j_X8_whyMove_90 l E (p1 := p1) (p2 := p2) (p3 := p3) (c_thrown := c_thrown) (c_taped := c_taped) (c_at := c_at) (c_part := c_part) (c_partFrom := c_partFrom) (c_partNumber := c_partNumber) (c_wrong := c_wrong) (c_partWord := c_partWord) (c_readLaw := c_readLaw) (c_readBound := c_readBound) (c_readGoal := c_readGoal) (c_readSites := c_readSites) (c_scripts := c_scripts) (c_sites := c_sites) (c_asked := c_asked) (c_outcome := c_outcome) (c_took := c_took) (c_acts := c_acts) (c_drawn := c_drawn) (c_racer := c_racer) (c_raced := c_raced) (c_spelledMany := c_spelledMany) (c_hasImage := c_hasImage) (c_now := c_now) (k0 := (0 : Int32)) hx hb hml hown hts hK hN hr hlocks hQ hF hP ls (lv_sub hl [0, 1, 2, 3] rfl)

set_option maxHeartbeats 4000000 in
set_option maxRecDepth 100000 in
theorem f_X8_whyMove (l : Launch) (E : EE) {a_ a_tape a_readPlace a_script a_scriptLong a_now a_refused a_shareX a_shareY a_askedRow a_kept a_aside a_spelled a_image : Nat} {p1 : Int32} {p2 : Int32} {p3 : Int32} {c_thrown : Int32} {c_taped : Int32} {c_at : Int32} {c_part : Int32} {c_partFrom : Int32} {c_partNumber : Int32} {c_wrong : Int32} {c_partWord : Int64} {c_readLaw : Int32} {c_readBound : Int32} {c_readGoal : Int32} {c_readSites : Int32} {c_scripts : Int32} {c_sites : Int32} {c_asked : Int32} {c_outcome : Int32} {c_took : Int32} {c_acts : Int32} {c_drawn : Int64} {c_racer : Int32} {c_raced : Int32} {c_spelledMany : Int32} {c_hasImage : Int32} {c_now : Nat → Int32} {rr : Int32} (hF : F_X8_whyMove p1 p2 p3 c_now c_sites = some rr) : Met l yX8_whyMove v_f_X8_whyMove (({ frames := 2, cells := 0, slots := 0, locals := 46 } : Room)) (va_Pc [.ref a_, .int p1, .int p2, .int p3] (pP E (w_X8_whyMove E a_ a_tape a_readPlace a_script a_scriptLong a_now a_refused a_shareX a_shareY a_askedRow a_kept a_aside a_spelled a_image c_thrown c_taped c_at c_part c_partFrom c_partNumber c_wrong c_partWord c_readLaw c_readBound c_readGoal c_readSites c_scripts c_sites c_asked c_outcome c_took c_acts c_drawn c_racer c_raced c_spelledMany c_hasImage c_now))) (vp_Si (fun q : Int32 => q = rr)) 0 0 (fun _ => False) := by
  refine Met.ofW (cc := cX8_whyMove) (maxL := 5) (ret := (some .int)) (by decide) rfl ?_
  intro p e s m args below meth c s₁ B hml hv
  obtain ⟨rfl, ⟨hK, hN⟩, hP⟩ := hv
  have hx := B.exec
  have hb := B.bytes
  have hr := B.returns
  have hts := atoms_spec (ws := v_f_X8_whyMove) B.pre
  have hown : s.vm.findClass RX8 = some m.cls := own_of hd_X8_whyMove.1 (findClass_of_methodNamed B.named)
  have hlocks : meth.locks = false := B.notSynchronized
  replace hP : va_P E.1 vwCl [k_X8 a_ c_thrown a_tape c_taped c_at c_part c_partFrom c_partNumber c_wrong c_partWord c_readLaw c_readBound c_readGoal c_readSites a_readPlace a_script a_scriptLong c_scripts a_now a_refused c_sites a_shareX a_shareY c_asked c_outcome a_askedRow c_took a_kept c_acts c_drawn a_aside c_racer c_raced a_spelled c_spelledMany a_image c_hasImage, k_I E a_now 265 c_now] s.heap := hP
  have hl := lv_entry ([.ref a_, .int p1, .int p2, .int p3]) (n := 5) (Nat.le_of_ble_eq_true rfl)
  rw [lg_entry_eq]
  generalize (lg_sl ([.ref a_, .int p1, .int p2, .int p3]) ++ List.replicate (5 - (lg_sl ([.ref a_, .int p1, .int p2, .int p3])).length) Slot.unset).toArray = ls at hl ⊢
  have hl : lv_has ls 5 [(0, .ref a_), (1, .int p1), (2, .int p2), (3, .int p3)] := hl
  obtain ⟨Q, hQ⟩ : ∃ Q : State → Prop, Q = MQ below (vp_Si (fun q : Int32 => q = rr)) #[Value.ref a_, Value.int p1, Value.int p2, Value.int p3] s 0 0 (fun _ => False) := ⟨_, rfl⟩
  rw [← hQ]
  change W p l e ({ frames := 2, cells := 0, slots := 0, locals := 46 } : Room) s m #[Value.ref a_, Value.int p1, Value.int p2, Value.int p3] below meth c s.heap [] 0 0 Q (F0 m 0 ls [])
  unfold F_X8_whyMove at hF
  refine lv_aload_n hx hb (dq_42 0 bcX8_whyMove_0 (j := 0) rfl rfl) rfl (lv_at hl 0 rfl) ?_
  refine lv_iload_n hx hb (dq_27 0 bcX8_whyMove_0 (j := 1) rfl rfl) rfl (lv_at hl 1 rfl) ?_
  replace hF := bd1_s hF
  obtain ⟨r_1, hc_2, hF⟩ := hF
  have hPc : va_P E.1 vwCl (w_X8_isSite E a_ a_tape a_readPlace a_script a_scriptLong a_now a_refused a_shareX a_shareY a_askedRow a_kept a_aside a_spelled a_image c_thrown c_taped c_at c_part c_partFrom c_partNumber c_wrong c_partWord c_readLaw c_readBound c_readGoal c_readSites c_scripts c_sites c_asked c_outcome c_took c_acts c_drawn c_racer c_raced c_spelledMany c_hasImage) s.heap := hP.sub (ws' := [k_X8 a_ c_thrown a_tape c_taped c_at c_part c_partFrom c_partNumber c_wrong c_partWord c_readLaw c_readBound c_readGoal c_readSites a_readPlace a_script a_scriptLong c_scripts a_now a_refused c_sites a_shareX a_shareY c_asked c_outcome a_askedRow c_took a_kept c_acts c_drawn a_aside c_racer c_raced a_spelled c_spelledMany a_image c_hasImage]) [0] rfl
  have hrc := va_recv hK hPc (ci := 9) (q0 := 0) rfl rfl
  refine pE_z (va_runV (As := [.int p1]) (rest := [])  ⟨hx, hb, hml, hown, hts⟩ (f_X8_isSite l E (a_ := a_) (a_tape := a_tape) (a_readPlace := a_readPlace) (a_script := a_script) (a_scriptLong := a_scriptLong) (a_now := a_now) (a_refused := a_refused) (a_shareX := a_shareX) (a_shareY := a_shareY) (a_askedRow := a_askedRow) (a_kept := a_kept) (a_aside := a_aside) (a_spelled := a_spelled) (a_image := a_image) (p1 := p1) (c_thrown := c_thrown) (c_taped := c_taped) (c_at := c_at) (c_part := c_part) (c_partFrom := c_partFrom) (c_partNumber := c_partNumber) (c_wrong := c_wrong) (c_partWord := c_partWord) (c_readLaw := c_readLaw) (c_readBound := c_readBound) (c_readGoal := c_readGoal) (c_readSites := c_readSites) (c_scripts := c_scripts) (c_sites := c_sites) (c_asked := c_asked) (c_outcome := c_outcome) (c_took := c_took) (c_acts := c_acts) (c_drawn := c_drawn) (c_racer := c_racer) (c_raced := c_raced) (c_spelledMany := c_spelledMany) (c_hasImage := c_hasImage) hc_2) (cwV 1 hts g_f_X8_whyMove_f_X8_isSite_278 rfl rfl rfl hd_X8_isSite ⟨Nat.le_of_ble_eq_true rfl, Nat.le_of_ble_eq_true rfl⟩) ⟨pP.blind, hrc, (pP.pre ⟨hK, hN⟩ hPc)⟩ rfl rfl hl.1 rfl (lv_room (Nat.le_of_ble_eq_true rfl)) (dq_182 0 bcX8_whyMove_0 (j := 2) (i := 278) rfl rfl rfl) ⟨Nat.le_of_ble_eq_true rfl, Nat.le_of_ble_eq_true rfl⟩) (fun hb_3 => ?_)
  refine lv_if_ne (tgt := 10) hx hb (dq_154 0 bcX8_whyMove_0 (j := 5) (i := 5) rfl rfl rfl) (by decide) (fun c_4 => ?_) (fun c_4 => ?_)
  ·
    replace hF := inn c_4 hF
    refine lv_iload_n hx hb (dq_28 0 bcX8_whyMove_0 (j := 10) rfl rfl) rfl (lv_at hl 2 rfl) ?_
    refine lv_i2l (v := p2.toInt64) hx hb (dq_133 0 bcX8_whyMove_0 (j := 11) rfl rfl) rfl ?_
    refine lv_ldc2 (v := -9999) hx hb hown (hts (.constantLong RX8 281 (-9999)) (List.mem_of_getElem? (i := 1) rfl)) (dq_20 0 bcX8_whyMove_0 (j := 12) (i := 281) rfl rfl rfl) ?_
    refine lv_ldc2 (v := 9999) hx hb hown (hts (.constantLong RX8 283 (9999)) (List.mem_of_getElem? (i := 2) rfl)) (dq_20 0 bcX8_whyMove_0 (j := 15) (i := 283) rfl rfl rfl) ?_
    replace hF := bd1_s hF
    obtain ⟨r_5, hc_6, hF⟩ := hF
    have hPc : va_P E.1 vwCl [] s.heap := fun k q h => by simp at h
    refine pE_z (va_runS (As := [.long p2.toInt64, .long (-9999 : Int64), .long (9999 : Int64)]) (rest := [])  ⟨hx, hb, hml, hown, hts⟩ (f_X8_in l E (p0 := p2.toInt64) (p1 := (-9999 : Int64)) (p2 := (9999 : Int64)) hc_6) (va_cwS 3 hts g_f_X8_whyMove_f_X8_in_60 rfl rfl rfl hd_X8_in.2 ⟨Nat.le_of_ble_eq_true rfl, Nat.le_of_ble_eq_true rfl⟩) ⟨pP.blind, (pP.pre ⟨hK, hN⟩ hPc)⟩ rfl rfl hl.1 rfl (lv_room (Nat.le_of_ble_eq_true rfl)) (dq_184 0 bcX8_whyMove_0 (j := 18) (i := 60) rfl rfl rfl) ⟨Nat.le_of_ble_eq_true rfl, Nat.le_of_ble_eq_true rfl⟩) (fun hb_7 => ?_)
    refine lv_if_eq (tgt := 89) hx hb (dq_153 0 bcX8_whyMove_0 (j := 21) (i := 68) rfl rfl rfl) (by decide) (fun c_8 => ?_) (fun c_8 => ?_)
    ·
      replace hF := ip c_8 hF
      exact j_X8_whyMove_89 l E (p1 := p1) (p2 := p2) (p3 := p3) (c_thrown := c_thrown) (c_taped := c_taped) (c_at := c_at) (c_part := c_part) (c_partFrom := c_partFrom) (c_partNumber := c_partNumber) (c_wrong := c_wrong) (c_partWord := c_partWord) (c_readLaw := c_readLaw) (c_readBound := c_readBound) (c_readGoal := c_readGoal) (c_readSites := c_readSites) (c_scripts := c_scripts) (c_sites := c_sites) (c_asked := c_asked) (c_outcome := c_outcome) (c_took := c_took) (c_acts := c_acts) (c_drawn := c_drawn) (c_racer := c_racer) (c_raced := c_raced) (c_spelledMany := c_spelledMany) (c_hasImage := c_hasImage) (c_now := c_now) hx hb hml hown hts hK hN hr hlocks hQ hF hP ls (lv_sub hl [0, 1, 2, 3] rfl)
    ·
      replace hF := inn c_8 hF
      refine lv_iload_n hx hb (dq_29 0 bcX8_whyMove_0 (j := 24) rfl rfl) rfl (lv_at hl 3 rfl) ?_
      refine lv_i2l (v := p3.toInt64) hx hb (dq_133 0 bcX8_whyMove_0 (j := 25) rfl rfl) rfl ?_
      refine lv_ldc2 (v := -9999) hx hb hown (hts (.constantLong RX8 281 (-9999)) (List.mem_of_getElem? (i := 1) rfl)) (dq_20 0 bcX8_whyMove_0 (j := 26) (i := 281) rfl rfl rfl) ?_
      refine lv_ldc2 (v := 9999) hx hb hown (hts (.constantLong RX8 283 (9999)) (List.mem_of_getElem? (i := 2) rfl)) (dq_20 0 bcX8_whyMove_0 (j := 29) (i := 283) rfl rfl rfl) ?_
      replace hF := bd1_s hF
      obtain ⟨r_20, hc_21, hF⟩ := hF
      have hPc : va_P E.1 vwCl [] s.heap := fun k q h => by simp at h
      refine pE_z (va_runS (As := [.long p3.toInt64, .long (-9999 : Int64), .long (9999 : Int64)]) (rest := [])  ⟨hx, hb, hml, hown, hts⟩ (f_X8_in l E (p0 := p3.toInt64) (p1 := (-9999 : Int64)) (p2 := (9999 : Int64)) hc_21) (va_cwS 3 hts g_f_X8_whyMove_f_X8_in_60 rfl rfl rfl hd_X8_in.2 ⟨Nat.le_of_ble_eq_true rfl, Nat.le_of_ble_eq_true rfl⟩) ⟨pP.blind, (pP.pre ⟨hK, hN⟩ hPc)⟩ rfl rfl hl.1 rfl (lv_room (Nat.le_of_ble_eq_true rfl)) (dq_184 0 bcX8_whyMove_0 (j := 32) (i := 60) rfl rfl rfl) ⟨Nat.le_of_ble_eq_true rfl, Nat.le_of_ble_eq_true rfl⟩) (fun hb_22 => ?_)
      refine lv_if_eq (tgt := 89) hx hb (dq_153 0 bcX8_whyMove_0 (j := 35) (i := 54) rfl rfl rfl) (by decide) (fun c_23 => ?_) (fun c_23 => ?_)
      ·
        replace hF := ip c_23 hF
        exact j_X8_whyMove_89 l E (p1 := p1) (p2 := p2) (p3 := p3) (c_thrown := c_thrown) (c_taped := c_taped) (c_at := c_at) (c_part := c_part) (c_partFrom := c_partFrom) (c_partNumber := c_partNumber) (c_wrong := c_wrong) (c_partWord := c_partWord) (c_readLaw := c_readLaw) (c_readBound := c_readBound) (c_readGoal := c_readGoal) (c_readSites := c_readSites) (c_scripts := c_scripts) (c_sites := c_sites) (c_asked := c_asked) (c_outcome := c_outcome) (c_took := c_took) (c_acts := c_acts) (c_drawn := c_drawn) (c_racer := c_racer) (c_raced := c_raced) (c_spelledMany := c_spelledMany) (c_hasImage := c_hasImage) (c_now := c_now) hx hb hml hown hts hK hN hr hlocks hQ hF hP ls (lv_sub hl [0, 1, 2, 3] rfl)
      ·
        replace hF := inn c_23 hF
        refine lv_aload_n hx hb (dq_42 0 bcX8_whyMove_0 (j := 38) rfl rfl) rfl (lv_at hl 0 rfl) ?_
        refine gt_X8_17 (v := .ref a_now) hx hb hts i_f_X8_whyMove_X8 hown hK hP 0 rfl (hts (.fieldLink RX8 22 "HushWatchModel" "now" "[I") (List.mem_of_getElem? (i := 3) rfl)) rfl (dq_180 0 bcX8_whyMove_0 (j := 39) (i := 22) rfl rfl rfl) ?_
        refine lv_iconst (v := 0) hx hb (dq_3 0 bcX8_whyMove_0 (j := 42) rfl rfl) (by decide) ?_
        refine lv_iload_n hx hb (dq_27 0 bcX8_whyMove_0 (j := 43) rfl rfl) rfl (lv_at hl 1 rfl) ?_
        refine lv_iadd hx hb (dq_96 0 bcX8_whyMove_0 (j := 44) rfl rfl) ?_
        replace hF := ix_s hF
        obtain ⟨hi_24, hF⟩ := hF
        refine va_iald hx hb hK hP 1 0 rfl rfl hi_24 (dq_46 0 bcX8_whyMove_0 (j := 45) rfl rfl) ?_
        refine lv_iload_n hx hb (dq_28 0 bcX8_whyMove_0 (j := 46) rfl rfl) rfl (lv_at hl 2 rfl) ?_
        refine lv_iadd hx hb (dq_96 0 bcX8_whyMove_0 (j := 47) rfl rfl) ?_
        refine lv_i2l (v := ((c_now ((0 : Int32) + p1).toNatClampNeg) + p2).toInt64) hx hb (dq_133 48 bcX8_whyMove_1 (j := 0) rfl rfl) rfl ?_
        refine lv_ldc2 (v := -99999) hx hb hown (hts (.constantLong RX8 285 (-99999)) (List.mem_of_getElem? (i := 4) rfl)) (dq_20 48 bcX8_whyMove_1 (j := 1) (i := 285) rfl rfl rfl) ?_
        refine lv_ldc2 (v := 99999) hx hb hown (hts (.constantLong RX8 287 (99999)) (List.mem_of_getElem? (i := 5) rfl)) (dq_20 48 bcX8_whyMove_1 (j := 4) (i := 287) rfl rfl rfl) ?_
        replace hF := bd1_s hF
        obtain ⟨r_25, hc_26, hF⟩ := hF
        have hPc : va_P E.1 vwCl [] s.heap := fun k q h => by simp at h
        refine pE_z (va_runS (As := [.long (((c_now ((0 : Int32) + p1).toNatClampNeg) + p2).toInt64), .long (-99999 : Int64), .long (99999 : Int64)]) (rest := [])  ⟨hx, hb, hml, hown, hts⟩ (f_X8_in l E (p0 := ((c_now ((0 : Int32) + p1).toNatClampNeg) + p2).toInt64) (p1 := (-99999 : Int64)) (p2 := (99999 : Int64)) hc_26) (va_cwS 3 hts g_f_X8_whyMove_f_X8_in_60 rfl rfl rfl hd_X8_in.2 ⟨Nat.le_of_ble_eq_true rfl, Nat.le_of_ble_eq_true rfl⟩) ⟨pP.blind, (pP.pre ⟨hK, hN⟩ hPc)⟩ rfl rfl hl.1 rfl (lv_room (Nat.le_of_ble_eq_true rfl)) (dq_184 48 bcX8_whyMove_1 (j := 7) (i := 60) rfl rfl rfl) ⟨Nat.le_of_ble_eq_true rfl, Nat.le_of_ble_eq_true rfl⟩) (fun hb_27 => ?_)
        refine lv_if_eq (tgt := 89) hx hb (dq_153 48 bcX8_whyMove_1 (j := 10) (i := 31) rfl rfl rfl) (by decide) (fun c_28 => ?_) (fun c_28 => ?_)
        ·
          replace hF := ip c_28 hF
          exact j_X8_whyMove_89 l E (p1 := p1) (p2 := p2) (p3 := p3) (c_thrown := c_thrown) (c_taped := c_taped) (c_at := c_at) (c_part := c_part) (c_partFrom := c_partFrom) (c_partNumber := c_partNumber) (c_wrong := c_wrong) (c_partWord := c_partWord) (c_readLaw := c_readLaw) (c_readBound := c_readBound) (c_readGoal := c_readGoal) (c_readSites := c_readSites) (c_scripts := c_scripts) (c_sites := c_sites) (c_asked := c_asked) (c_outcome := c_outcome) (c_took := c_took) (c_acts := c_acts) (c_drawn := c_drawn) (c_racer := c_racer) (c_raced := c_raced) (c_spelledMany := c_spelledMany) (c_hasImage := c_hasImage) (c_now := c_now) hx hb hml hown hts hK hN hr hlocks hQ hF hP ls (lv_sub hl [0, 1, 2, 3] rfl)
        ·
          replace hF := inn c_28 hF
          refine lv_aload_n hx hb (dq_42 48 bcX8_whyMove_1 (j := 13) rfl rfl) rfl (lv_at hl 0 rfl) ?_
          refine gt_X8_17 (v := .ref a_now) hx hb hts i_f_X8_whyMove_X8 hown hK hP 0 rfl (hts (.fieldLink RX8 22 "HushWatchModel" "now" "[I") (List.mem_of_getElem? (i := 3) rfl)) rfl (dq_180 48 bcX8_whyMove_1 (j := 14) (i := 22) rfl rfl rfl) ?_
          refine lv_bipush (v := 8) hx hb (dq_16 48 bcX8_whyMove_1 (j := 17) (i := 8) rfl rfl rfl) (by decide) ?_
          refine lv_iload_n hx hb (dq_27 48 bcX8_whyMove_1 (j := 19) rfl rfl) rfl (lv_at hl 1 rfl) ?_
          refine lv_iadd hx hb (dq_96 48 bcX8_whyMove_1 (j := 20) rfl rfl) ?_
          replace hF := ix_s hF
          obtain ⟨hi_29, hF⟩ := hF
          refine va_iald hx hb hK hP 1 0 rfl rfl hi_29 (dq_46 48 bcX8_whyMove_1 (j := 21) rfl rfl) ?_
          refine lv_iload_n hx hb (dq_29 48 bcX8_whyMove_1 (j := 22) rfl rfl) rfl (lv_at hl 3 rfl) ?_
          refine lv_iadd hx hb (dq_96 48 bcX8_whyMove_1 (j := 23) rfl rfl) ?_
          refine lv_i2l (v := ((c_now ((8 : Int32) + p1).toNatClampNeg) + p3).toInt64) hx hb (dq_133 48 bcX8_whyMove_1 (j := 24) rfl rfl) rfl ?_
          refine lv_ldc2 (v := -99999) hx hb hown (hts (.constantLong RX8 285 (-99999)) (List.mem_of_getElem? (i := 4) rfl)) (dq_20 48 bcX8_whyMove_1 (j := 25) (i := 285) rfl rfl rfl) ?_
          refine lv_ldc2 (v := 99999) hx hb hown (hts (.constantLong RX8 287 (99999)) (List.mem_of_getElem? (i := 5) rfl)) (dq_20 48 bcX8_whyMove_1 (j := 28) (i := 287) rfl rfl rfl) ?_
          replace hF := bd1_s hF
          obtain ⟨r_30, hc_31, hF⟩ := hF
          have hPc : va_P E.1 vwCl [] s.heap := fun k q h => by simp at h
          refine pE_z (va_runS (As := [.long (((c_now ((8 : Int32) + p1).toNatClampNeg) + p3).toInt64), .long (-99999 : Int64), .long (99999 : Int64)]) (rest := [])  ⟨hx, hb, hml, hown, hts⟩ (f_X8_in l E (p0 := ((c_now ((8 : Int32) + p1).toNatClampNeg) + p3).toInt64) (p1 := (-99999 : Int64)) (p2 := (99999 : Int64)) hc_31) (va_cwS 3 hts g_f_X8_whyMove_f_X8_in_60 rfl rfl rfl hd_X8_in.2 ⟨Nat.le_of_ble_eq_true rfl, Nat.le_of_ble_eq_true rfl⟩) ⟨pP.blind, (pP.pre ⟨hK, hN⟩ hPc)⟩ rfl rfl hl.1 rfl (lv_room (Nat.le_of_ble_eq_true rfl)) (dq_184 48 bcX8_whyMove_1 (j := 31) (i := 60) rfl rfl rfl) ⟨Nat.le_of_ble_eq_true rfl, Nat.le_of_ble_eq_true rfl⟩) (fun hb_32 => ?_)
          refine lv_if_eq (tgt := 89) hx hb (dq_153 48 bcX8_whyMove_1 (j := 34) (i := 7) rfl rfl rfl) (by decide) (fun c_33 => ?_) (fun c_33 => ?_)
          ·
            replace hF := ip c_33 hF
            exact j_X8_whyMove_89 l E (p1 := p1) (p2 := p2) (p3 := p3) (c_thrown := c_thrown) (c_taped := c_taped) (c_at := c_at) (c_part := c_part) (c_partFrom := c_partFrom) (c_partNumber := c_partNumber) (c_wrong := c_wrong) (c_partWord := c_partWord) (c_readLaw := c_readLaw) (c_readBound := c_readBound) (c_readGoal := c_readGoal) (c_readSites := c_readSites) (c_scripts := c_scripts) (c_sites := c_sites) (c_asked := c_asked) (c_outcome := c_outcome) (c_took := c_took) (c_acts := c_acts) (c_drawn := c_drawn) (c_racer := c_racer) (c_raced := c_raced) (c_spelledMany := c_spelledMany) (c_hasImage := c_hasImage) (c_now := c_now) hx hb hml hown hts hK hN hr hlocks hQ hF hP ls (lv_sub hl [0, 1, 2, 3] rfl)
          ·
            replace hF := inn c_33 hF
            refine lv_iconst (v := 1) hx hb (dq_4 48 bcX8_whyMove_1 (j := 37) rfl rfl) (by decide) ?_
            refine lv_goto (tgt := 90) hx hb (dq_167 48 bcX8_whyMove_1 (j := 38) (i := 4) rfl rfl rfl) (by decide) ?_
            exact j_X8_whyMove_90 l E (p1 := p1) (p2 := p2) (p3 := p3) (c_thrown := c_thrown) (c_taped := c_taped) (c_at := c_at) (c_part := c_part) (c_partFrom := c_partFrom) (c_partNumber := c_partNumber) (c_wrong := c_wrong) (c_partWord := c_partWord) (c_readLaw := c_readLaw) (c_readBound := c_readBound) (c_readGoal := c_readGoal) (c_readSites := c_readSites) (c_scripts := c_scripts) (c_sites := c_sites) (c_asked := c_asked) (c_outcome := c_outcome) (c_took := c_took) (c_acts := c_acts) (c_drawn := c_drawn) (c_racer := c_racer) (c_raced := c_raced) (c_spelledMany := c_spelledMany) (c_hasImage := c_hasImage) (c_now := c_now) (k0 := (1 : Int32)) hx hb hml hown hts hK hN hr hlocks hQ hF hP ls (lv_sub hl [0, 1, 2, 3] rfl)
  ·
    replace hF := ip c_4 hF
    refine lv_iconst (v := 0) hx hb (dq_3 0 bcX8_whyMove_0 (j := 8) rfl rfl) (by decide) ?_
    rw [hQ]
    obtain e9_0 := inj1 hF
    exact W.iret (v := (0 : Int32)) hx hb hr (fun tt ht hW => ⟨_, rfl, e9_0, ht⟩) (fun _ h => by cases h) (dq_172 0 bcX8_whyMove_0 (j := 9) rfl rfl)

def F_X8_isWatch (c_sites : Int32) : Option (Int32) :=
  if c_sites ≤ (0 : Int32) then some (0 : Int32) else some (1 : Int32)
abbrev w_X8_isWatch (E : EE) (a_ a_tape a_readPlace a_script a_scriptLong a_now a_refused a_shareX a_shareY a_askedRow a_kept a_aside a_spelled a_image : Nat) (c_thrown : Int32) (c_taped : Int32) (c_at : Int32) (c_part : Int32) (c_partFrom : Int32) (c_partNumber : Int32) (c_wrong : Int32) (c_partWord : Int64) (c_readLaw : Int32) (c_readBound : Int32) (c_readGoal : Int32) (c_readSites : Int32) (c_scripts : Int32) (c_sites : Int32) (c_asked : Int32) (c_outcome : Int32) (c_took : Int32) (c_acts : Int32) (c_drawn : Int64) (c_racer : Int32) (c_raced : Int32) (c_spelledMany : Int32) (c_hasImage : Int32) : va_W := [k_X8 a_ c_thrown a_tape c_taped c_at c_part c_partFrom c_partNumber c_wrong c_partWord c_readLaw c_readBound c_readGoal c_readSites a_readPlace a_script a_scriptLong c_scripts a_now a_refused c_sites a_shareX a_shareY c_asked c_outcome a_askedRow c_took a_kept c_acts c_drawn a_aside c_racer c_raced a_spelled c_spelledMany a_image c_hasImage]
def v_f_X8_isWatch : List Cond := List.cons (.code yX8_isWatch cX8_isWatch 1 (some .boolean)) (HAppend.hAppend (α := List Cond) (β := List Cond) (γ := List Cond) [.fieldLink RX8 196 "HushWatchModel" "sites" "I"] (HAppend.hAppend (α := List Cond) (β := List Cond) (γ := List Cond) wsX80 []))
theorem gw_f_X8_isWatch : v_f_X8_isWatch.all goodWord = true := gw_c2 (by decide +kernel) (gw_ap gw_wsX80 gw_nil)
theorem i_f_X8_isWatch_X8 : ∀ w ∈ wsX80, w ∈ v_f_X8_isWatch := fun _ h => List.mem_cons_of_mem _ (List.mem_append_right _ (List.mem_append_left _ h))
theorem hd_X8_isWatch : yX8_isWatch.cls = RX8 ∧ yX8_isWatch.cls ≠ "java/lang/invoke/MethodHandle" ∧ yX8_isWatch.cls ≠ "java/lang/invoke/VarHandle" ∧ (parseMethodDescriptor yX8_isWatch.desc).map (fun d => d.parameters.length) = some 0 := by decide +kernel
set_option maxHeartbeats 4000000 in
set_option maxRecDepth 100000 in
theorem f_X8_isWatch (l : Launch) (E : EE) {a_ a_tape a_readPlace a_script a_scriptLong a_now a_refused a_shareX a_shareY a_askedRow a_kept a_aside a_spelled a_image : Nat} {c_thrown : Int32} {c_taped : Int32} {c_at : Int32} {c_part : Int32} {c_partFrom : Int32} {c_partNumber : Int32} {c_wrong : Int32} {c_partWord : Int64} {c_readLaw : Int32} {c_readBound : Int32} {c_readGoal : Int32} {c_readSites : Int32} {c_scripts : Int32} {c_sites : Int32} {c_asked : Int32} {c_outcome : Int32} {c_took : Int32} {c_acts : Int32} {c_drawn : Int64} {c_racer : Int32} {c_raced : Int32} {c_spelledMany : Int32} {c_hasImage : Int32} {rr : Int32} (hF : F_X8_isWatch c_sites = some rr) : Met l yX8_isWatch v_f_X8_isWatch (({ frames := 0, cells := 0, slots := 0, locals := 0 } : Room)) (va_Pc [.ref a_] (pP E (w_X8_isWatch E a_ a_tape a_readPlace a_script a_scriptLong a_now a_refused a_shareX a_shareY a_askedRow a_kept a_aside a_spelled a_image c_thrown c_taped c_at c_part c_partFrom c_partNumber c_wrong c_partWord c_readLaw c_readBound c_readGoal c_readSites c_scripts c_sites c_asked c_outcome c_took c_acts c_drawn c_racer c_raced c_spelledMany c_hasImage))) (vp_Si (fun q : Int32 => q = rr ∧ (q = 0 ∨ q = 1))) 0 0 (fun _ => False) := by
  refine Met.ofW (cc := cX8_isWatch) (maxL := 1) (ret := (some .boolean)) (by decide) rfl ?_
  intro p e s m args below meth c s₁ B hml hv
  obtain ⟨rfl, ⟨hK, hN⟩, hP⟩ := hv
  have hx := B.exec
  have hb := B.bytes
  have hr := B.returns
  have hts := atoms_spec (ws := v_f_X8_isWatch) B.pre
  have hown : s.vm.findClass RX8 = some m.cls := own_of hd_X8_isWatch.1 (findClass_of_methodNamed B.named)
  have hlocks : meth.locks = false := B.notSynchronized
  replace hP : va_P E.1 vwCl [k_X8 a_ c_thrown a_tape c_taped c_at c_part c_partFrom c_partNumber c_wrong c_partWord c_readLaw c_readBound c_readGoal c_readSites a_readPlace a_script a_scriptLong c_scripts a_now a_refused c_sites a_shareX a_shareY c_asked c_outcome a_askedRow c_took a_kept c_acts c_drawn a_aside c_racer c_raced a_spelled c_spelledMany a_image c_hasImage] s.heap := hP
  have hl := lv_entry ([.ref a_]) (n := 1) (Nat.le_of_ble_eq_true rfl)
  rw [lg_entry_eq]
  generalize (lg_sl ([.ref a_]) ++ List.replicate (1 - (lg_sl ([.ref a_])).length) Slot.unset).toArray = ls at hl ⊢
  have hl : lv_has ls 1 [(0, .ref a_)] := hl
  obtain ⟨Q, hQ⟩ : ∃ Q : State → Prop, Q = MQ below (vp_Si (fun q : Int32 => q = rr ∧ (q = 0 ∨ q = 1))) #[Value.ref a_] s 0 0 (fun _ => False) := ⟨_, rfl⟩
  rw [← hQ]
  change W p l e ({ frames := 0, cells := 0, slots := 0, locals := 0 } : Room) s m #[Value.ref a_] below meth c s.heap [] 0 0 Q (F0 m 0 ls [])
  unfold F_X8_isWatch at hF
  refine lv_aload_n hx hb (dq_42 0 bcX8_isWatch_0 (j := 0) rfl rfl) rfl (lv_at hl 0 rfl) ?_
  refine gt_X8_19 (v := .int c_sites) hx hb hts i_f_X8_isWatch_X8 hown hK hP 0 rfl (hts (.fieldLink RX8 196 "HushWatchModel" "sites" "I") (List.mem_of_getElem? (i := 1) rfl)) rfl (dq_180 0 bcX8_isWatch_0 (j := 1) (i := 196) rfl rfl rfl) ?_
  refine lv_if_le (tgt := 11) hx hb (dq_158 0 bcX8_isWatch_0 (j := 4) (i := 7) rfl rfl rfl) (by decide) (fun c_1 => ?_) (fun c_1 => ?_)
  ·
    replace hF := ip c_1 hF
    refine lv_iconst (v := 0) hx hb (dq_3 0 bcX8_isWatch_0 (j := 11) rfl rfl) (by decide) ?_
    rw [hQ]
    obtain e9_0 := inj1 hF
    exact W.zret (v := (0 : Int32)) hx hb hr rfl (fun tt ht hW => ⟨_, rfl, ⟨e9_0, Or.inl rfl⟩, ht⟩) (fun _ h => by cases h) (dq_172 0 bcX8_isWatch_0 (j := 12) rfl rfl)
  ·
    replace hF := inn c_1 hF
    refine lv_iconst (v := 1) hx hb (dq_4 0 bcX8_isWatch_0 (j := 7) rfl rfl) (by decide) ?_
    refine lv_goto (tgt := 12) hx hb (dq_167 0 bcX8_isWatch_0 (j := 8) (i := 4) rfl rfl rfl) (by decide) ?_
    rw [hQ]
    obtain e9_0 := inj1 hF
    exact W.zret (v := (1 : Int32)) hx hb hr rfl (fun tt ht hW => ⟨_, rfl, ⟨e9_0, Or.inr rfl⟩, ht⟩) (fun _ h => by cases h) (dq_172 0 bcX8_isWatch_0 (j := 12) rfl rfl)

def F_X8_whySet (p1 : Int32) (p2 : Int32) (p3 : Int32) (p4 : Int32) (c_sites : Int32) : Option (Int32) :=
  bd1 (F_X8_isWatch c_sites) (fun r_1 => if r_1 = (0 : Int32) then some (0 : Int32) else bd1 (F_X8_in p1.toInt64 p2.toInt64 p3.toInt64) (fun r_5 => if r_5 = (0 : Int32) then some (1 : Int32) else if p1 = p4 then some (2 : Int32) else some (-1 : Int32)))
abbrev w_X8_whySet (E : EE) (a_ a_tape a_readPlace a_script a_scriptLong a_now a_refused a_shareX a_shareY a_askedRow a_kept a_aside a_spelled a_image : Nat) (c_thrown : Int32) (c_taped : Int32) (c_at : Int32) (c_part : Int32) (c_partFrom : Int32) (c_partNumber : Int32) (c_wrong : Int32) (c_partWord : Int64) (c_readLaw : Int32) (c_readBound : Int32) (c_readGoal : Int32) (c_readSites : Int32) (c_scripts : Int32) (c_sites : Int32) (c_asked : Int32) (c_outcome : Int32) (c_took : Int32) (c_acts : Int32) (c_drawn : Int64) (c_racer : Int32) (c_raced : Int32) (c_spelledMany : Int32) (c_hasImage : Int32) : va_W := [k_X8 a_ c_thrown a_tape c_taped c_at c_part c_partFrom c_partNumber c_wrong c_partWord c_readLaw c_readBound c_readGoal c_readSites a_readPlace a_script a_scriptLong c_scripts a_now a_refused c_sites a_shareX a_shareY c_asked c_outcome a_askedRow c_took a_kept c_acts c_drawn a_aside c_racer c_raced a_spelled c_spelledMany a_image c_hasImage]
def v_f_X8_whySet : List Cond := List.cons (.code yX8_whySet cX8_whySet 5 (some .int)) (HAppend.hAppend (α := List Cond) (β := List Cond) (γ := List Cond) [.methodLink RX8 299 yX8_isWatch, .instanceMethod yX8_isWatch, .selects RX8 yX8_isWatch yX8_isWatch, .initialized RX8, .methodLink RX8 60 yX8_in, .static yX8_in] (HAppend.hAppend (α := List Cond) (β := List Cond) (γ := List Cond) v_f_X8_isWatch (HAppend.hAppend (α := List Cond) (β := List Cond) (γ := List Cond) v_f_X8_in [])))
theorem gw_f_X8_whySet : v_f_X8_whySet.all goodWord = true := gw_c2 (by decide +kernel) (gw_ap gw_f_X8_isWatch (gw_ap gw_f_X8_in gw_nil))
theorem g_f_X8_whySet_f_X8_isWatch_299 : GoodIn v_f_X8_whySet (wsV RX8 299 RX8 yX8_isWatch v_f_X8_isWatch) := goodIn_in gw_f_X8_whySet (in4 1 2 3 4 rfl rfl rfl rfl (fun _ h => List.mem_cons_of_mem _ (List.mem_append_right _ (List.mem_append_left _ h))))
theorem g_f_X8_whySet_f_X8_in_60 : GoodIn v_f_X8_whySet (va_wsS RX8 60 yX8_in v_f_X8_in) := goodIn_in gw_f_X8_whySet (in3 5 6 4 rfl rfl rfl (fun _ h => List.mem_cons_of_mem _ (List.mem_append_right _ (List.mem_append_right _ (List.mem_append_left _ h)))))
theorem hd_X8_whySet : yX8_whySet.cls = RX8 ∧ yX8_whySet.cls ≠ "java/lang/invoke/MethodHandle" ∧ yX8_whySet.cls ≠ "java/lang/invoke/VarHandle" ∧ (parseMethodDescriptor yX8_whySet.desc).map (fun d => d.parameters.length) = some 4 := by decide +kernel
set_option maxHeartbeats 4000000 in
set_option maxRecDepth 100000 in
theorem f_X8_whySet (l : Launch) (E : EE) {a_ a_tape a_readPlace a_script a_scriptLong a_now a_refused a_shareX a_shareY a_askedRow a_kept a_aside a_spelled a_image : Nat} {p1 : Int32} {p2 : Int32} {p3 : Int32} {p4 : Int32} {c_thrown : Int32} {c_taped : Int32} {c_at : Int32} {c_part : Int32} {c_partFrom : Int32} {c_partNumber : Int32} {c_wrong : Int32} {c_partWord : Int64} {c_readLaw : Int32} {c_readBound : Int32} {c_readGoal : Int32} {c_readSites : Int32} {c_scripts : Int32} {c_sites : Int32} {c_asked : Int32} {c_outcome : Int32} {c_took : Int32} {c_acts : Int32} {c_drawn : Int64} {c_racer : Int32} {c_raced : Int32} {c_spelledMany : Int32} {c_hasImage : Int32} {rr : Int32} (hF : F_X8_whySet p1 p2 p3 p4 c_sites = some rr) : Met l yX8_whySet v_f_X8_whySet (({ frames := 1, cells := 0, slots := 0, locals := 25 } : Room)) (va_Pc [.ref a_, .int p1, .int p2, .int p3, .int p4] (pP E (w_X8_whySet E a_ a_tape a_readPlace a_script a_scriptLong a_now a_refused a_shareX a_shareY a_askedRow a_kept a_aside a_spelled a_image c_thrown c_taped c_at c_part c_partFrom c_partNumber c_wrong c_partWord c_readLaw c_readBound c_readGoal c_readSites c_scripts c_sites c_asked c_outcome c_took c_acts c_drawn c_racer c_raced c_spelledMany c_hasImage))) (vp_Si (fun q : Int32 => q = rr)) 0 0 (fun _ => False) := by
  refine Met.ofW (cc := cX8_whySet) (maxL := 5) (ret := (some .int)) (by decide) rfl ?_
  intro p e s m args below meth c s₁ B hml hv
  obtain ⟨rfl, ⟨hK, hN⟩, hP⟩ := hv
  have hx := B.exec
  have hb := B.bytes
  have hr := B.returns
  have hts := atoms_spec (ws := v_f_X8_whySet) B.pre
  have hown : s.vm.findClass RX8 = some m.cls := own_of hd_X8_whySet.1 (findClass_of_methodNamed B.named)
  have hlocks : meth.locks = false := B.notSynchronized
  replace hP : va_P E.1 vwCl [k_X8 a_ c_thrown a_tape c_taped c_at c_part c_partFrom c_partNumber c_wrong c_partWord c_readLaw c_readBound c_readGoal c_readSites a_readPlace a_script a_scriptLong c_scripts a_now a_refused c_sites a_shareX a_shareY c_asked c_outcome a_askedRow c_took a_kept c_acts c_drawn a_aside c_racer c_raced a_spelled c_spelledMany a_image c_hasImage] s.heap := hP
  have hl := lv_entry ([.ref a_, .int p1, .int p2, .int p3, .int p4]) (n := 5) (Nat.le_of_ble_eq_true rfl)
  rw [lg_entry_eq]
  generalize (lg_sl ([.ref a_, .int p1, .int p2, .int p3, .int p4]) ++ List.replicate (5 - (lg_sl ([.ref a_, .int p1, .int p2, .int p3, .int p4])).length) Slot.unset).toArray = ls at hl ⊢
  have hl : lv_has ls 5 [(0, .ref a_), (1, .int p1), (2, .int p2), (3, .int p3), (4, .int p4)] := hl
  obtain ⟨Q, hQ⟩ : ∃ Q : State → Prop, Q = MQ below (vp_Si (fun q : Int32 => q = rr)) #[Value.ref a_, Value.int p1, Value.int p2, Value.int p3, Value.int p4] s 0 0 (fun _ => False) := ⟨_, rfl⟩
  rw [← hQ]
  change W p l e ({ frames := 1, cells := 0, slots := 0, locals := 25 } : Room) s m #[Value.ref a_, Value.int p1, Value.int p2, Value.int p3, Value.int p4] below meth c s.heap [] 0 0 Q (F0 m 0 ls [])
  unfold F_X8_whySet at hF
  refine lv_aload_n hx hb (dq_42 0 bcX8_whySet_0 (j := 0) rfl rfl) rfl (lv_at hl 0 rfl) ?_
  replace hF := bd1_s hF
  obtain ⟨r_1, hc_2, hF⟩ := hF
  have hPc : va_P E.1 vwCl (w_X8_isWatch E a_ a_tape a_readPlace a_script a_scriptLong a_now a_refused a_shareX a_shareY a_askedRow a_kept a_aside a_spelled a_image c_thrown c_taped c_at c_part c_partFrom c_partNumber c_wrong c_partWord c_readLaw c_readBound c_readGoal c_readSites c_scripts c_sites c_asked c_outcome c_took c_acts c_drawn c_racer c_raced c_spelledMany c_hasImage) s.heap := hP.sub (ws' := [k_X8 a_ c_thrown a_tape c_taped c_at c_part c_partFrom c_partNumber c_wrong c_partWord c_readLaw c_readBound c_readGoal c_readSites a_readPlace a_script a_scriptLong c_scripts a_now a_refused c_sites a_shareX a_shareY c_asked c_outcome a_askedRow c_took a_kept c_acts c_drawn a_aside c_racer c_raced a_spelled c_spelledMany a_image c_hasImage]) [0] rfl
  have hrc := va_recv hK hPc (ci := 9) (q0 := 0) rfl rfl
  refine pE_z (va_runV (As := []) (rest := [])  ⟨hx, hb, hml, hown, hts⟩ (f_X8_isWatch l E (a_ := a_) (a_tape := a_tape) (a_readPlace := a_readPlace) (a_script := a_script) (a_scriptLong := a_scriptLong) (a_now := a_now) (a_refused := a_refused) (a_shareX := a_shareX) (a_shareY := a_shareY) (a_askedRow := a_askedRow) (a_kept := a_kept) (a_aside := a_aside) (a_spelled := a_spelled) (a_image := a_image) (c_thrown := c_thrown) (c_taped := c_taped) (c_at := c_at) (c_part := c_part) (c_partFrom := c_partFrom) (c_partNumber := c_partNumber) (c_wrong := c_wrong) (c_partWord := c_partWord) (c_readLaw := c_readLaw) (c_readBound := c_readBound) (c_readGoal := c_readGoal) (c_readSites := c_readSites) (c_scripts := c_scripts) (c_sites := c_sites) (c_asked := c_asked) (c_outcome := c_outcome) (c_took := c_took) (c_acts := c_acts) (c_drawn := c_drawn) (c_racer := c_racer) (c_raced := c_raced) (c_spelledMany := c_spelledMany) (c_hasImage := c_hasImage) hc_2) (cwV 0 hts g_f_X8_whySet_f_X8_isWatch_299 rfl rfl rfl hd_X8_isWatch ⟨Nat.le_of_ble_eq_true rfl, Nat.le_of_ble_eq_true rfl⟩) ⟨pP.blind, hrc, (pP.pre ⟨hK, hN⟩ hPc)⟩ rfl rfl hl.1 rfl (lv_room (Nat.le_of_ble_eq_true rfl)) (dq_182 0 bcX8_whySet_0 (j := 1) (i := 299) rfl rfl rfl) ⟨Nat.le_of_ble_eq_true rfl, Nat.le_of_ble_eq_true rfl⟩) (fun hb_3 => ?_)
  refine lv_if_ne (tgt := 11) hx hb (dq_154 0 bcX8_whySet_0 (j := 4) (i := 7) rfl rfl rfl) (by decide) (fun c_4 => ?_) (fun c_4 => ?_)
  ·
    replace hF := inn c_4 hF
    refine lv_iload_n hx hb (dq_27 0 bcX8_whySet_0 (j := 11) rfl rfl) rfl (lv_at hl 1 rfl) ?_
    refine lv_i2l (v := p1.toInt64) hx hb (dq_133 0 bcX8_whySet_0 (j := 12) rfl rfl) rfl ?_
    refine lv_iload_n hx hb (dq_28 0 bcX8_whySet_0 (j := 13) rfl rfl) rfl (lv_at hl 2 rfl) ?_
    refine lv_i2l (v := p2.toInt64) hx hb (dq_133 0 bcX8_whySet_0 (j := 14) rfl rfl) rfl ?_
    refine lv_iload_n hx hb (dq_29 0 bcX8_whySet_0 (j := 15) rfl rfl) rfl (lv_at hl 3 rfl) ?_
    refine lv_i2l (v := p3.toInt64) hx hb (dq_133 0 bcX8_whySet_0 (j := 16) rfl rfl) rfl ?_
    replace hF := bd1_s hF
    obtain ⟨r_5, hc_6, hF⟩ := hF
    have hPc : va_P E.1 vwCl [] s.heap := fun k q h => by simp at h
    refine pE_z (va_runS (As := [.long p1.toInt64, .long p2.toInt64, .long p3.toInt64]) (rest := [])  ⟨hx, hb, hml, hown, hts⟩ (f_X8_in l E (p0 := p1.toInt64) (p1 := p2.toInt64) (p2 := p3.toInt64) hc_6) (va_cwS 3 hts g_f_X8_whySet_f_X8_in_60 rfl rfl rfl hd_X8_in.2 ⟨Nat.le_of_ble_eq_true rfl, Nat.le_of_ble_eq_true rfl⟩) ⟨pP.blind, (pP.pre ⟨hK, hN⟩ hPc)⟩ rfl rfl hl.1 rfl (lv_room (Nat.le_of_ble_eq_true rfl)) (dq_184 0 bcX8_whySet_0 (j := 17) (i := 60) rfl rfl rfl) ⟨Nat.le_of_ble_eq_true rfl, Nat.le_of_ble_eq_true rfl⟩) (fun hb_7 => ?_)
    refine lv_if_ne (tgt := 27) hx hb (dq_154 0 bcX8_whySet_0 (j := 20) (i := 7) rfl rfl rfl) (by decide) (fun c_8 => ?_) (fun c_8 => ?_)
    ·
      replace hF := inn c_8 hF
      refine lv_iload_n hx hb (dq_27 0 bcX8_whySet_0 (j := 27) rfl rfl) rfl (lv_at hl 1 rfl) ?_
      refine lv_iload hx hb (dq_21 0 bcX8_whySet_0 (j := 28) (i := 4) rfl rfl) (lv_at hl 4 rfl) ?_
      refine lv_icmp_ne (tgt := 37) hx hb (dq_160 0 bcX8_whySet_0 (j := 30) (i := 7) rfl rfl rfl) (by decide) (fun c_9 => ?_) (fun c_9 => ?_)
      ·
        replace hF := inn c_9 hF
        refine lv_iconst (v := -1) hx hb (dq_2 0 bcX8_whySet_0 (j := 37) rfl rfl) (by decide) ?_
        rw [hQ]
        obtain e9_0 := inj1 hF
        exact W.iret (v := (-1 : Int32)) hx hb hr (fun tt ht hW => ⟨_, rfl, e9_0, ht⟩) (fun _ h => by cases h) (dq_172 0 bcX8_whySet_0 (j := 38) rfl rfl)
      ·
        replace hF := ip c_9 hF
        refine lv_iconst (v := 2) hx hb (dq_5 0 bcX8_whySet_0 (j := 33) rfl rfl) (by decide) ?_
        refine lv_goto (tgt := 38) hx hb (dq_167 0 bcX8_whySet_0 (j := 34) (i := 4) rfl rfl rfl) (by decide) ?_
        rw [hQ]
        obtain e9_0 := inj1 hF
        exact W.iret (v := (2 : Int32)) hx hb hr (fun tt ht hW => ⟨_, rfl, e9_0, ht⟩) (fun _ h => by cases h) (dq_172 0 bcX8_whySet_0 (j := 38) rfl rfl)
    ·
      replace hF := ip c_8 hF
      refine lv_iconst (v := 1) hx hb (dq_4 0 bcX8_whySet_0 (j := 23) rfl rfl) (by decide) ?_
      refine lv_goto (tgt := 38) hx hb (dq_167 0 bcX8_whySet_0 (j := 24) (i := 14) rfl rfl rfl) (by decide) ?_
      rw [hQ]
      obtain e9_0 := inj1 hF
      exact W.iret (v := (1 : Int32)) hx hb hr (fun tt ht hW => ⟨_, rfl, e9_0, ht⟩) (fun _ h => by cases h) (dq_172 0 bcX8_whySet_0 (j := 38) rfl rfl)
  ·
    replace hF := ip c_4 hF
    refine lv_iconst (v := 0) hx hb (dq_3 0 bcX8_whySet_0 (j := 7) rfl rfl) (by decide) ?_
    refine lv_goto (tgt := 38) hx hb (dq_167 0 bcX8_whySet_0 (j := 8) (i := 30) rfl rfl rfl) (by decide) ?_
    rw [hQ]
    obtain e9_0 := inj1 hF
    exact W.iret (v := (0 : Int32)) hx hb hr (fun tt ht hW => ⟨_, rfl, e9_0, ht⟩) (fun _ h => by cases h) (dq_172 0 bcX8_whySet_0 (j := 38) rfl rfl)

def F_X8_isReached (c_now : Nat → Int32) : Option (Int32) :=
  if c_now 73 < c_now 66 then some (0 : Int32) else some (1 : Int32)
abbrev w_X8_isReached (E : EE) (a_ a_tape a_readPlace a_script a_scriptLong a_now a_refused a_shareX a_shareY a_askedRow a_kept a_aside a_spelled a_image : Nat) (c_thrown : Int32) (c_taped : Int32) (c_at : Int32) (c_part : Int32) (c_partFrom : Int32) (c_partNumber : Int32) (c_wrong : Int32) (c_partWord : Int64) (c_readLaw : Int32) (c_readBound : Int32) (c_readGoal : Int32) (c_readSites : Int32) (c_scripts : Int32) (c_sites : Int32) (c_asked : Int32) (c_outcome : Int32) (c_took : Int32) (c_acts : Int32) (c_drawn : Int64) (c_racer : Int32) (c_raced : Int32) (c_spelledMany : Int32) (c_hasImage : Int32) (c_now : Nat → Int32) : va_W := [k_X8 a_ c_thrown a_tape c_taped c_at c_part c_partFrom c_partNumber c_wrong c_partWord c_readLaw c_readBound c_readGoal c_readSites a_readPlace a_script a_scriptLong c_scripts a_now a_refused c_sites a_shareX a_shareY c_asked c_outcome a_askedRow c_took a_kept c_acts c_drawn a_aside c_racer c_raced a_spelled c_spelledMany a_image c_hasImage, k_I E a_now 265 c_now]
def v_f_X8_isReached : List Cond := List.cons (.code yX8_isReached cX8_isReached 1 (some .boolean)) (HAppend.hAppend (α := List Cond) (β := List Cond) (γ := List Cond) [.fieldLink RX8 22 "HushWatchModel" "now" "[I"] (HAppend.hAppend (α := List Cond) (β := List Cond) (γ := List Cond) wsX80 []))
theorem gw_f_X8_isReached : v_f_X8_isReached.all goodWord = true := gw_c2 (by decide +kernel) (gw_ap gw_wsX80 gw_nil)
theorem i_f_X8_isReached_X8 : ∀ w ∈ wsX80, w ∈ v_f_X8_isReached := fun _ h => List.mem_cons_of_mem _ (List.mem_append_right _ (List.mem_append_left _ h))
theorem hd_X8_isReached : yX8_isReached.cls = RX8 ∧ yX8_isReached.cls ≠ "java/lang/invoke/MethodHandle" ∧ yX8_isReached.cls ≠ "java/lang/invoke/VarHandle" ∧ (parseMethodDescriptor yX8_isReached.desc).map (fun d => d.parameters.length) = some 0 := by decide +kernel
set_option maxHeartbeats 4000000 in
set_option maxRecDepth 100000 in
theorem f_X8_isReached (l : Launch) (E : EE) {a_ a_tape a_readPlace a_script a_scriptLong a_now a_refused a_shareX a_shareY a_askedRow a_kept a_aside a_spelled a_image : Nat} {c_thrown : Int32} {c_taped : Int32} {c_at : Int32} {c_part : Int32} {c_partFrom : Int32} {c_partNumber : Int32} {c_wrong : Int32} {c_partWord : Int64} {c_readLaw : Int32} {c_readBound : Int32} {c_readGoal : Int32} {c_readSites : Int32} {c_scripts : Int32} {c_sites : Int32} {c_asked : Int32} {c_outcome : Int32} {c_took : Int32} {c_acts : Int32} {c_drawn : Int64} {c_racer : Int32} {c_raced : Int32} {c_spelledMany : Int32} {c_hasImage : Int32} {c_now : Nat → Int32} {rr : Int32} (hF : F_X8_isReached c_now = some rr) : Met l yX8_isReached v_f_X8_isReached (({ frames := 0, cells := 0, slots := 0, locals := 0 } : Room)) (va_Pc [.ref a_] (pP E (w_X8_isReached E a_ a_tape a_readPlace a_script a_scriptLong a_now a_refused a_shareX a_shareY a_askedRow a_kept a_aside a_spelled a_image c_thrown c_taped c_at c_part c_partFrom c_partNumber c_wrong c_partWord c_readLaw c_readBound c_readGoal c_readSites c_scripts c_sites c_asked c_outcome c_took c_acts c_drawn c_racer c_raced c_spelledMany c_hasImage c_now))) (vp_Si (fun q : Int32 => q = rr ∧ (q = 0 ∨ q = 1))) 0 0 (fun _ => False) := by
  refine Met.ofW (cc := cX8_isReached) (maxL := 1) (ret := (some .boolean)) (by decide) rfl ?_
  intro p e s m args below meth c s₁ B hml hv
  obtain ⟨rfl, ⟨hK, hN⟩, hP⟩ := hv
  have hx := B.exec
  have hb := B.bytes
  have hr := B.returns
  have hts := atoms_spec (ws := v_f_X8_isReached) B.pre
  have hown : s.vm.findClass RX8 = some m.cls := own_of hd_X8_isReached.1 (findClass_of_methodNamed B.named)
  have hlocks : meth.locks = false := B.notSynchronized
  replace hP : va_P E.1 vwCl [k_X8 a_ c_thrown a_tape c_taped c_at c_part c_partFrom c_partNumber c_wrong c_partWord c_readLaw c_readBound c_readGoal c_readSites a_readPlace a_script a_scriptLong c_scripts a_now a_refused c_sites a_shareX a_shareY c_asked c_outcome a_askedRow c_took a_kept c_acts c_drawn a_aside c_racer c_raced a_spelled c_spelledMany a_image c_hasImage, k_I E a_now 265 c_now] s.heap := hP
  have hl := lv_entry ([.ref a_]) (n := 1) (Nat.le_of_ble_eq_true rfl)
  rw [lg_entry_eq]
  generalize (lg_sl ([.ref a_]) ++ List.replicate (1 - (lg_sl ([.ref a_])).length) Slot.unset).toArray = ls at hl ⊢
  have hl : lv_has ls 1 [(0, .ref a_)] := hl
  obtain ⟨Q, hQ⟩ : ∃ Q : State → Prop, Q = MQ below (vp_Si (fun q : Int32 => q = rr ∧ (q = 0 ∨ q = 1))) #[Value.ref a_] s 0 0 (fun _ => False) := ⟨_, rfl⟩
  rw [← hQ]
  change W p l e ({ frames := 0, cells := 0, slots := 0, locals := 0 } : Room) s m #[Value.ref a_] below meth c s.heap [] 0 0 Q (F0 m 0 ls [])
  unfold F_X8_isReached at hF
  refine lv_aload_n hx hb (dq_42 0 bcX8_isReached_0 (j := 0) rfl rfl) rfl (lv_at hl 0 rfl) ?_
  refine gt_X8_17 (v := .ref a_now) hx hb hts i_f_X8_isReached_X8 hown hK hP 0 rfl (hts (.fieldLink RX8 22 "HushWatchModel" "now" "[I") (List.mem_of_getElem? (i := 1) rfl)) rfl (dq_180 0 bcX8_isReached_0 (j := 1) (i := 22) rfl rfl rfl) ?_
  refine lv_bipush (v := 73) hx hb (dq_16 0 bcX8_isReached_0 (j := 4) (i := 73) rfl rfl rfl) (by decide) ?_
  refine va_iald hx hb hK hP 1 0 rfl rfl (vin rfl) (dq_46 0 bcX8_isReached_0 (j := 6) rfl rfl) ?_
  refine W.eq (g2 := F0 m 7 ls [.int (c_now 73)]) rfl ?_
  refine lv_aload_n hx hb (dq_42 0 bcX8_isReached_0 (j := 7) rfl rfl) rfl (lv_at hl 0 rfl) ?_
  refine gt_X8_17 (v := .ref a_now) hx hb hts i_f_X8_isReached_X8 hown hK hP 0 rfl (hts (.fieldLink RX8 22 "HushWatchModel" "now" "[I") (List.mem_of_getElem? (i := 1) rfl)) rfl (dq_180 0 bcX8_isReached_0 (j := 8) (i := 22) rfl rfl rfl) ?_
  refine lv_bipush (v := 66) hx hb (dq_16 0 bcX8_isReached_0 (j := 11) (i := 66) rfl rfl rfl) (by decide) ?_
  refine va_iald hx hb hK hP 1 0 rfl rfl (vin rfl) (dq_46 0 bcX8_isReached_0 (j := 13) rfl rfl) ?_
  refine W.eq (g2 := F0 m 14 ls [.int (c_now 66), .int (c_now 73)]) rfl ?_
  refine lv_icmp_lt (tgt := 21) hx hb (dq_161 0 bcX8_isReached_0 (j := 14) (i := 7) rfl rfl rfl) (by decide) (fun c_1 => ?_) (fun c_1 => ?_)
  ·
    replace hF := ip c_1 hF
    refine lv_iconst (v := 0) hx hb (dq_3 0 bcX8_isReached_0 (j := 21) rfl rfl) (by decide) ?_
    rw [hQ]
    obtain e9_0 := inj1 hF
    exact W.zret (v := (0 : Int32)) hx hb hr rfl (fun tt ht hW => ⟨_, rfl, ⟨e9_0, Or.inl rfl⟩, ht⟩) (fun _ h => by cases h) (dq_172 0 bcX8_isReached_0 (j := 22) rfl rfl)
  ·
    replace hF := inn c_1 hF
    refine lv_iconst (v := 1) hx hb (dq_4 0 bcX8_isReached_0 (j := 17) rfl rfl) (by decide) ?_
    refine lv_goto (tgt := 22) hx hb (dq_167 0 bcX8_isReached_0 (j := 18) (i := 4) rfl rfl rfl) (by decide) ?_
    rw [hQ]
    obtain e9_0 := inj1 hF
    exact W.zret (v := (1 : Int32)) hx hb hr rfl (fun tt ht hW => ⟨_, rfl, ⟨e9_0, Or.inr rfl⟩, ht⟩) (fun _ h => by cases h) (dq_172 0 bcX8_isReached_0 (j := 22) rfl rfl)

def F_X8_whyAdd (p1 : Int32) (p2 : Int32) (c_now : Nat → Int32) (c_sites : Int32) : Option (Int32) :=
  bd1 (F_X8_isSite p1 c_sites) (fun r_1 => if r_1 = (0 : Int32) then some (0 : Int32) else bd1 (F_X8_in p2.toInt64 (1 : Int64) (999 : Int64)) (fun r_5 => if r_5 = (0 : Int32) then some (1 : Int32) else ixF ((48 : Int32) + p1) 265 (if (c_now ((48 : Int32) + p1).toNatClampNeg) + p2 ≤ (99999 : Int32) then bd1 (F_X8_isReached c_now) (fun r_11 => if r_11 = (0 : Int32) then some (-1 : Int32) else some (2 : Int32)) else some (1 : Int32))))
abbrev w_X8_whyAdd (E : EE) (a_ a_tape a_readPlace a_script a_scriptLong a_now a_refused a_shareX a_shareY a_askedRow a_kept a_aside a_spelled a_image : Nat) (c_thrown : Int32) (c_taped : Int32) (c_at : Int32) (c_part : Int32) (c_partFrom : Int32) (c_partNumber : Int32) (c_wrong : Int32) (c_partWord : Int64) (c_readLaw : Int32) (c_readBound : Int32) (c_readGoal : Int32) (c_readSites : Int32) (c_scripts : Int32) (c_sites : Int32) (c_asked : Int32) (c_outcome : Int32) (c_took : Int32) (c_acts : Int32) (c_drawn : Int64) (c_racer : Int32) (c_raced : Int32) (c_spelledMany : Int32) (c_hasImage : Int32) (c_now : Nat → Int32) : va_W := [k_X8 a_ c_thrown a_tape c_taped c_at c_part c_partFrom c_partNumber c_wrong c_partWord c_readLaw c_readBound c_readGoal c_readSites a_readPlace a_script a_scriptLong c_scripts a_now a_refused c_sites a_shareX a_shareY c_asked c_outcome a_askedRow c_took a_kept c_acts c_drawn a_aside c_racer c_raced a_spelled c_spelledMany a_image c_hasImage, k_I E a_now 265 c_now]
def v_f_X8_whyAdd : List Cond := List.cons (.code yX8_whyAdd cX8_whyAdd 3 (some .int)) (HAppend.hAppend (α := List Cond) (β := List Cond) (γ := List Cond) [.constantLong RX8 289 (999), .fieldLink RX8 22 "HushWatchModel" "now" "[I", .constant RX8 291 (99999), .methodLink RX8 278 yX8_isSite, .instanceMethod yX8_isSite, .selects RX8 yX8_isSite yX8_isSite, .initialized RX8, .methodLink RX8 60 yX8_in, .static yX8_in, .methodLink RX8 292 yX8_isReached, .instanceMethod yX8_isReached, .selects RX8 yX8_isReached yX8_isReached] (HAppend.hAppend (α := List Cond) (β := List Cond) (γ := List Cond) v_f_X8_isSite (HAppend.hAppend (α := List Cond) (β := List Cond) (γ := List Cond) v_f_X8_in (HAppend.hAppend (α := List Cond) (β := List Cond) (γ := List Cond) wsX80 (HAppend.hAppend (α := List Cond) (β := List Cond) (γ := List Cond) v_f_X8_isReached [])))))
theorem gw_f_X8_whyAdd : v_f_X8_whyAdd.all goodWord = true := gw_c2 (by decide +kernel) (gw_ap gw_f_X8_isSite (gw_ap gw_f_X8_in (gw_ap gw_wsX80 (gw_ap gw_f_X8_isReached gw_nil))))
theorem i_f_X8_whyAdd_X8 : ∀ w ∈ wsX80, w ∈ v_f_X8_whyAdd := fun _ h => List.mem_cons_of_mem _ (List.mem_append_right _ (List.mem_append_right _ (List.mem_append_right _ (List.mem_append_left _ h))))
theorem g_f_X8_whyAdd_f_X8_isSite_278 : GoodIn v_f_X8_whyAdd (wsV RX8 278 RX8 yX8_isSite v_f_X8_isSite) := goodIn_in gw_f_X8_whyAdd (in4 4 5 6 7 rfl rfl rfl rfl (fun _ h => List.mem_cons_of_mem _ (List.mem_append_right _ (List.mem_append_left _ h))))
theorem g_f_X8_whyAdd_f_X8_in_60 : GoodIn v_f_X8_whyAdd (va_wsS RX8 60 yX8_in v_f_X8_in) := goodIn_in gw_f_X8_whyAdd (in3 8 9 7 rfl rfl rfl (fun _ h => List.mem_cons_of_mem _ (List.mem_append_right _ (List.mem_append_right _ (List.mem_append_left _ h)))))
theorem g_f_X8_whyAdd_f_X8_isReached_292 : GoodIn v_f_X8_whyAdd (wsV RX8 292 RX8 yX8_isReached v_f_X8_isReached) := goodIn_in gw_f_X8_whyAdd (in4 10 11 12 7 rfl rfl rfl rfl (fun _ h => List.mem_cons_of_mem _ (List.mem_append_right _ (List.mem_append_right _ (List.mem_append_right _ (List.mem_append_right _ (List.mem_append_left _ h)))))))
theorem hd_X8_whyAdd : yX8_whyAdd.cls = RX8 ∧ yX8_whyAdd.cls ≠ "java/lang/invoke/MethodHandle" ∧ yX8_whyAdd.cls ≠ "java/lang/invoke/VarHandle" ∧ (parseMethodDescriptor yX8_whyAdd.desc).map (fun d => d.parameters.length) = some 2 := by decide +kernel
set_option maxHeartbeats 4000000 in
set_option maxRecDepth 100000 in
theorem f_X8_whyAdd (l : Launch) (E : EE) {a_ a_tape a_readPlace a_script a_scriptLong a_now a_refused a_shareX a_shareY a_askedRow a_kept a_aside a_spelled a_image : Nat} {p1 : Int32} {p2 : Int32} {c_thrown : Int32} {c_taped : Int32} {c_at : Int32} {c_part : Int32} {c_partFrom : Int32} {c_partNumber : Int32} {c_wrong : Int32} {c_partWord : Int64} {c_readLaw : Int32} {c_readBound : Int32} {c_readGoal : Int32} {c_readSites : Int32} {c_scripts : Int32} {c_sites : Int32} {c_asked : Int32} {c_outcome : Int32} {c_took : Int32} {c_acts : Int32} {c_drawn : Int64} {c_racer : Int32} {c_raced : Int32} {c_spelledMany : Int32} {c_hasImage : Int32} {c_now : Nat → Int32} {rr : Int32} (hF : F_X8_whyAdd p1 p2 c_now c_sites = some rr) : Met l yX8_whyAdd v_f_X8_whyAdd (({ frames := 2, cells := 0, slots := 0, locals := 46 } : Room)) (va_Pc [.ref a_, .int p1, .int p2] (pP E (w_X8_whyAdd E a_ a_tape a_readPlace a_script a_scriptLong a_now a_refused a_shareX a_shareY a_askedRow a_kept a_aside a_spelled a_image c_thrown c_taped c_at c_part c_partFrom c_partNumber c_wrong c_partWord c_readLaw c_readBound c_readGoal c_readSites c_scripts c_sites c_asked c_outcome c_took c_acts c_drawn c_racer c_raced c_spelledMany c_hasImage c_now))) (vp_Si (fun q : Int32 => q = rr)) 0 0 (fun _ => False) := by
  refine Met.ofW (cc := cX8_whyAdd) (maxL := 3) (ret := (some .int)) (by decide) rfl ?_
  intro p e s m args below meth c s₁ B hml hv
  obtain ⟨rfl, ⟨hK, hN⟩, hP⟩ := hv
  have hx := B.exec
  have hb := B.bytes
  have hr := B.returns
  have hts := atoms_spec (ws := v_f_X8_whyAdd) B.pre
  have hown : s.vm.findClass RX8 = some m.cls := own_of hd_X8_whyAdd.1 (findClass_of_methodNamed B.named)
  have hlocks : meth.locks = false := B.notSynchronized
  replace hP : va_P E.1 vwCl [k_X8 a_ c_thrown a_tape c_taped c_at c_part c_partFrom c_partNumber c_wrong c_partWord c_readLaw c_readBound c_readGoal c_readSites a_readPlace a_script a_scriptLong c_scripts a_now a_refused c_sites a_shareX a_shareY c_asked c_outcome a_askedRow c_took a_kept c_acts c_drawn a_aside c_racer c_raced a_spelled c_spelledMany a_image c_hasImage, k_I E a_now 265 c_now] s.heap := hP
  have hl := lv_entry ([.ref a_, .int p1, .int p2]) (n := 3) (Nat.le_of_ble_eq_true rfl)
  rw [lg_entry_eq]
  generalize (lg_sl ([.ref a_, .int p1, .int p2]) ++ List.replicate (3 - (lg_sl ([.ref a_, .int p1, .int p2])).length) Slot.unset).toArray = ls at hl ⊢
  have hl : lv_has ls 3 [(0, .ref a_), (1, .int p1), (2, .int p2)] := hl
  obtain ⟨Q, hQ⟩ : ∃ Q : State → Prop, Q = MQ below (vp_Si (fun q : Int32 => q = rr)) #[Value.ref a_, Value.int p1, Value.int p2] s 0 0 (fun _ => False) := ⟨_, rfl⟩
  rw [← hQ]
  change W p l e ({ frames := 2, cells := 0, slots := 0, locals := 46 } : Room) s m #[Value.ref a_, Value.int p1, Value.int p2] below meth c s.heap [] 0 0 Q (F0 m 0 ls [])
  unfold F_X8_whyAdd at hF
  refine lv_aload_n hx hb (dq_42 0 bcX8_whyAdd_0 (j := 0) rfl rfl) rfl (lv_at hl 0 rfl) ?_
  refine lv_iload_n hx hb (dq_27 0 bcX8_whyAdd_0 (j := 1) rfl rfl) rfl (lv_at hl 1 rfl) ?_
  replace hF := bd1_s hF
  obtain ⟨r_1, hc_2, hF⟩ := hF
  have hPc : va_P E.1 vwCl (w_X8_isSite E a_ a_tape a_readPlace a_script a_scriptLong a_now a_refused a_shareX a_shareY a_askedRow a_kept a_aside a_spelled a_image c_thrown c_taped c_at c_part c_partFrom c_partNumber c_wrong c_partWord c_readLaw c_readBound c_readGoal c_readSites c_scripts c_sites c_asked c_outcome c_took c_acts c_drawn c_racer c_raced c_spelledMany c_hasImage) s.heap := hP.sub (ws' := [k_X8 a_ c_thrown a_tape c_taped c_at c_part c_partFrom c_partNumber c_wrong c_partWord c_readLaw c_readBound c_readGoal c_readSites a_readPlace a_script a_scriptLong c_scripts a_now a_refused c_sites a_shareX a_shareY c_asked c_outcome a_askedRow c_took a_kept c_acts c_drawn a_aside c_racer c_raced a_spelled c_spelledMany a_image c_hasImage]) [0] rfl
  have hrc := va_recv hK hPc (ci := 9) (q0 := 0) rfl rfl
  refine pE_z (va_runV (As := [.int p1]) (rest := [])  ⟨hx, hb, hml, hown, hts⟩ (f_X8_isSite l E (a_ := a_) (a_tape := a_tape) (a_readPlace := a_readPlace) (a_script := a_script) (a_scriptLong := a_scriptLong) (a_now := a_now) (a_refused := a_refused) (a_shareX := a_shareX) (a_shareY := a_shareY) (a_askedRow := a_askedRow) (a_kept := a_kept) (a_aside := a_aside) (a_spelled := a_spelled) (a_image := a_image) (p1 := p1) (c_thrown := c_thrown) (c_taped := c_taped) (c_at := c_at) (c_part := c_part) (c_partFrom := c_partFrom) (c_partNumber := c_partNumber) (c_wrong := c_wrong) (c_partWord := c_partWord) (c_readLaw := c_readLaw) (c_readBound := c_readBound) (c_readGoal := c_readGoal) (c_readSites := c_readSites) (c_scripts := c_scripts) (c_sites := c_sites) (c_asked := c_asked) (c_outcome := c_outcome) (c_took := c_took) (c_acts := c_acts) (c_drawn := c_drawn) (c_racer := c_racer) (c_raced := c_raced) (c_spelledMany := c_spelledMany) (c_hasImage := c_hasImage) hc_2) (cwV 1 hts g_f_X8_whyAdd_f_X8_isSite_278 rfl rfl rfl hd_X8_isSite ⟨Nat.le_of_ble_eq_true rfl, Nat.le_of_ble_eq_true rfl⟩) ⟨pP.blind, hrc, (pP.pre ⟨hK, hN⟩ hPc)⟩ rfl rfl hl.1 rfl (lv_room (Nat.le_of_ble_eq_true rfl)) (dq_182 0 bcX8_whyAdd_0 (j := 2) (i := 278) rfl rfl rfl) ⟨Nat.le_of_ble_eq_true rfl, Nat.le_of_ble_eq_true rfl⟩) (fun hb_3 => ?_)
  refine lv_if_ne (tgt := 10) hx hb (dq_154 0 bcX8_whyAdd_0 (j := 5) (i := 5) rfl rfl rfl) (by decide) (fun c_4 => ?_) (fun c_4 => ?_)
  ·
    replace hF := inn c_4 hF
    refine lv_iload_n hx hb (dq_28 0 bcX8_whyAdd_0 (j := 10) rfl rfl) rfl (lv_at hl 2 rfl) ?_
    refine lv_i2l (v := p2.toInt64) hx hb (dq_133 0 bcX8_whyAdd_0 (j := 11) rfl rfl) rfl ?_
    refine lv_lconst (v := 1) hx hb (dq_10 0 bcX8_whyAdd_0 (j := 12) rfl rfl) (by decide) ?_
    refine lv_ldc2 (v := 999) hx hb hown (hts (.constantLong RX8 289 (999)) (List.mem_of_getElem? (i := 1) rfl)) (dq_20 0 bcX8_whyAdd_0 (j := 13) (i := 289) rfl rfl rfl) ?_
    replace hF := bd1_s hF
    obtain ⟨r_5, hc_6, hF⟩ := hF
    have hPc : va_P E.1 vwCl [] s.heap := fun k q h => by simp at h
    refine pE_z (va_runS (As := [.long p2.toInt64, .long (1 : Int64), .long (999 : Int64)]) (rest := [])  ⟨hx, hb, hml, hown, hts⟩ (f_X8_in l E (p0 := p2.toInt64) (p1 := (1 : Int64)) (p2 := (999 : Int64)) hc_6) (va_cwS 3 hts g_f_X8_whyAdd_f_X8_in_60 rfl rfl rfl hd_X8_in.2 ⟨Nat.le_of_ble_eq_true rfl, Nat.le_of_ble_eq_true rfl⟩) ⟨pP.blind, (pP.pre ⟨hK, hN⟩ hPc)⟩ rfl rfl hl.1 rfl (lv_room (Nat.le_of_ble_eq_true rfl)) (dq_184 0 bcX8_whyAdd_0 (j := 16) (i := 60) rfl rfl rfl) ⟨Nat.le_of_ble_eq_true rfl, Nat.le_of_ble_eq_true rfl⟩) (fun hb_7 => ?_)
    refine lv_if_eq (tgt := 39) hx hb (dq_153 0 bcX8_whyAdd_0 (j := 19) (i := 20) rfl rfl rfl) (by decide) (fun c_8 => ?_) (fun c_8 => ?_)
    ·
      replace hF := ip c_8 hF
      refine lv_iconst (v := 1) hx hb (dq_4 0 bcX8_whyAdd_0 (j := 39) rfl rfl) (by decide) ?_
      refine lv_goto (tgt := 55) hx hb (dq_167 0 bcX8_whyAdd_0 (j := 40) (i := 15) rfl rfl rfl) (by decide) ?_
      rw [hQ]
      obtain e9_0 := inj1 hF
      exact W.iret (v := (1 : Int32)) hx hb hr (fun tt ht hW => ⟨_, rfl, e9_0, ht⟩) (fun _ h => by cases h) (dq_172 48 bcX8_whyAdd_1 (j := 7) rfl rfl)
    ·
      replace hF := inn c_8 hF
      refine lv_aload_n hx hb (dq_42 0 bcX8_whyAdd_0 (j := 22) rfl rfl) rfl (lv_at hl 0 rfl) ?_
      refine gt_X8_17 (v := .ref a_now) hx hb hts i_f_X8_whyAdd_X8 hown hK hP 0 rfl (hts (.fieldLink RX8 22 "HushWatchModel" "now" "[I") (List.mem_of_getElem? (i := 2) rfl)) rfl (dq_180 0 bcX8_whyAdd_0 (j := 23) (i := 22) rfl rfl rfl) ?_
      refine lv_bipush (v := 48) hx hb (dq_16 0 bcX8_whyAdd_0 (j := 26) (i := 48) rfl rfl rfl) (by decide) ?_
      refine lv_iload_n hx hb (dq_27 0 bcX8_whyAdd_0 (j := 28) rfl rfl) rfl (lv_at hl 1 rfl) ?_
      refine lv_iadd hx hb (dq_96 0 bcX8_whyAdd_0 (j := 29) rfl rfl) ?_
      replace hF := ix_s hF
      obtain ⟨hi_9, hF⟩ := hF
      refine va_iald hx hb hK hP 1 0 rfl rfl hi_9 (dq_46 0 bcX8_whyAdd_0 (j := 30) rfl rfl) ?_
      refine lv_iload_n hx hb (dq_28 0 bcX8_whyAdd_0 (j := 31) rfl rfl) rfl (lv_at hl 2 rfl) ?_
      refine lv_iadd hx hb (dq_96 0 bcX8_whyAdd_0 (j := 32) rfl rfl) ?_
      refine lv_ldcw (v := 99999) hx hb hown (hts (.constant RX8 291 (99999)) (List.mem_of_getElem? (i := 3) rfl)) (dq_19 0 bcX8_whyAdd_0 (j := 33) (i := 291) rfl rfl rfl) ?_
      refine lv_icmp_le (tgt := 43) hx hb (dq_164 0 bcX8_whyAdd_0 (j := 36) (i := 7) rfl rfl rfl) (by decide) (fun c_10 => ?_) (fun c_10 => ?_)
      ·
        replace hF := ip c_10 hF
        refine lv_aload_n hx hb (dq_42 0 bcX8_whyAdd_0 (j := 43) rfl rfl) rfl (lv_at hl 0 rfl) ?_
        replace hF := bd1_s hF
        obtain ⟨r_11, hc_12, hF⟩ := hF
        have hPc : va_P E.1 vwCl (w_X8_isReached E a_ a_tape a_readPlace a_script a_scriptLong a_now a_refused a_shareX a_shareY a_askedRow a_kept a_aside a_spelled a_image c_thrown c_taped c_at c_part c_partFrom c_partNumber c_wrong c_partWord c_readLaw c_readBound c_readGoal c_readSites c_scripts c_sites c_asked c_outcome c_took c_acts c_drawn c_racer c_raced c_spelledMany c_hasImage c_now) s.heap := hP.sub (ws' := [k_X8 a_ c_thrown a_tape c_taped c_at c_part c_partFrom c_partNumber c_wrong c_partWord c_readLaw c_readBound c_readGoal c_readSites a_readPlace a_script a_scriptLong c_scripts a_now a_refused c_sites a_shareX a_shareY c_asked c_outcome a_askedRow c_took a_kept c_acts c_drawn a_aside c_racer c_raced a_spelled c_spelledMany a_image c_hasImage, k_I E a_now 265 c_now]) [0, 1] rfl
        have hrc := va_recv hK hPc (ci := 9) (q0 := 0) rfl rfl
        refine pE_z (va_runV (As := []) (rest := [])  ⟨hx, hb, hml, hown, hts⟩ (f_X8_isReached l E (a_ := a_) (a_tape := a_tape) (a_readPlace := a_readPlace) (a_script := a_script) (a_scriptLong := a_scriptLong) (a_now := a_now) (a_refused := a_refused) (a_shareX := a_shareX) (a_shareY := a_shareY) (a_askedRow := a_askedRow) (a_kept := a_kept) (a_aside := a_aside) (a_spelled := a_spelled) (a_image := a_image) (c_thrown := c_thrown) (c_taped := c_taped) (c_at := c_at) (c_part := c_part) (c_partFrom := c_partFrom) (c_partNumber := c_partNumber) (c_wrong := c_wrong) (c_partWord := c_partWord) (c_readLaw := c_readLaw) (c_readBound := c_readBound) (c_readGoal := c_readGoal) (c_readSites := c_readSites) (c_scripts := c_scripts) (c_sites := c_sites) (c_asked := c_asked) (c_outcome := c_outcome) (c_took := c_took) (c_acts := c_acts) (c_drawn := c_drawn) (c_racer := c_racer) (c_raced := c_raced) (c_spelledMany := c_spelledMany) (c_hasImage := c_hasImage) (c_now := c_now) hc_12) (cwV 0 hts g_f_X8_whyAdd_f_X8_isReached_292 rfl rfl rfl hd_X8_isReached ⟨Nat.le_of_ble_eq_true rfl, Nat.le_of_ble_eq_true rfl⟩) ⟨pP.blind, hrc, (pP.pre ⟨hK, hN⟩ hPc)⟩ rfl rfl hl.1 rfl (lv_room (Nat.le_of_ble_eq_true rfl)) (dq_182 0 bcX8_whyAdd_0 (j := 44) (i := 292) rfl rfl rfl) ⟨Nat.le_of_ble_eq_true rfl, Nat.le_of_ble_eq_true rfl⟩) (fun hb_13 => ?_)
        refine lv_if_eq (tgt := 54) hx hb (dq_153 0 bcX8_whyAdd_0 (j := 47) (i := 7) rfl rfl rfl) (by decide) (fun c_14 => ?_) (fun c_14 => ?_)
        ·
          replace hF := ip c_14 hF
          refine lv_iconst (v := -1) hx hb (dq_2 48 bcX8_whyAdd_1 (j := 6) rfl rfl) (by decide) ?_
          rw [hQ]
          obtain e9_0 := inj1 hF
          exact W.iret (v := (-1 : Int32)) hx hb hr (fun tt ht hW => ⟨_, rfl, e9_0, ht⟩) (fun _ h => by cases h) (dq_172 48 bcX8_whyAdd_1 (j := 7) rfl rfl)
        ·
          replace hF := inn c_14 hF
          refine lv_iconst (v := 2) hx hb (dq_5 48 bcX8_whyAdd_1 (j := 2) rfl rfl) (by decide) ?_
          refine lv_goto (tgt := 55) hx hb (dq_167 48 bcX8_whyAdd_1 (j := 3) (i := 4) rfl rfl rfl) (by decide) ?_
          rw [hQ]
          obtain e9_0 := inj1 hF
          exact W.iret (v := (2 : Int32)) hx hb hr (fun tt ht hW => ⟨_, rfl, e9_0, ht⟩) (fun _ h => by cases h) (dq_172 48 bcX8_whyAdd_1 (j := 7) rfl rfl)
      ·
        replace hF := inn c_10 hF
        refine lv_iconst (v := 1) hx hb (dq_4 0 bcX8_whyAdd_0 (j := 39) rfl rfl) (by decide) ?_
        refine lv_goto (tgt := 55) hx hb (dq_167 0 bcX8_whyAdd_0 (j := 40) (i := 15) rfl rfl rfl) (by decide) ?_
        rw [hQ]
        obtain e9_0 := inj1 hF
        exact W.iret (v := (1 : Int32)) hx hb hr (fun tt ht hW => ⟨_, rfl, e9_0, ht⟩) (fun _ h => by cases h) (dq_172 48 bcX8_whyAdd_1 (j := 7) rfl rfl)
  ·
    replace hF := ip c_4 hF
    refine lv_iconst (v := 0) hx hb (dq_3 0 bcX8_whyAdd_0 (j := 8) rfl rfl) (by decide) ?_
    rw [hQ]
    obtain e9_0 := inj1 hF
    exact W.iret (v := (0 : Int32)) hx hb hr (fun tt ht hW => ⟨_, rfl, e9_0, ht⟩) (fun _ h => by cases h) (dq_172 0 bcX8_whyAdd_0 (j := 9) rfl rfl)
