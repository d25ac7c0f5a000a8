-- 30.md06
section
noncomputable def blX8_doIt_0 : List Nat := [42, 3, 181, 1, 60, 27, 170, 0, 0, 0, 0, 139, 0, 0, 0, 0, 0, 0, 0, 6, 0, 0, 0, 42, 0, 0, 0, 59, 0, 0, 0, 78, 0, 0, 0, 86, 0, 0, 0, 94, 0, 0, 0, 139, 0, 0, 0, 109, 42, 42, 28]
set_option maxRecDepth 100000 in
theorem bcX8_doIt_0 : ((cX8_doIt.data.toList.drop 0).take blX8_doIt_0.length).map UInt8.toNat = blX8_doIt_0 := by decide +kernel
noncomputable def blX8_doIt_1 : List Nat := [42, 42, 28, 29, 21, 4, 182, 1, 63, 181, 1, 60, 42, 180, 1, 60, 172, 42, 182, 1, 10, 42, 5, 42, 180, 0, 196, 104, 181, 1, 60, 42, 180, 1, 60, 172, 42, 16, 65, 28, 182, 1, 66, 172, 42, 16, 64, 28, 182, 1, 66]
set_option maxRecDepth 100000 in
theorem bcX8_doIt_1 : ((cX8_doIt.data.toList.drop 48).take blX8_doIt_1.length).map UInt8.toNat = blX8_doIt_1 := by decide +kernel
noncomputable def blX8_doIt_2 : List Nat := [182, 1, 66, 172, 42, 42, 28, 29, 182, 1, 69, 181, 1, 60, 42, 180, 1, 60, 172, 42, 180, 0, 22, 16, 76, 28, 96, 4, 42, 180, 0, 22, 16, 76, 28, 96, 46, 100, 79, 42, 180, 0, 22, 16, 76, 28, 96, 46, 172, 42, 28]
set_option maxRecDepth 100000 in
theorem bcX8_doIt_2 : ((cX8_doIt.data.toList.drop 96).take blX8_doIt_2.length).map UInt8.toNat = blX8_doIt_2 := by decide +kernel
noncomputable def blX8_doIt_3 : List Nat := [172, 42, 28, 182, 1, 72, 172]
set_option maxRecDepth 100000 in
theorem bcX8_doIt_3 : ((cX8_doIt.data.toList.drop 144).take blX8_doIt_3.length).map UInt8.toNat = blX8_doIt_3 := by decide +kernel
noncomputable def blX8_doNow_0 : List Nat := [42, 27, 28, 29, 21, 4, 182, 1, 75, 54, 5, 42, 180, 0, 22, 16, 67, 92, 46, 42, 180, 1, 60, 96, 79, 21, 5, 172]
set_option maxRecDepth 100000 in
theorem bcX8_doNow_0 : ((cX8_doNow.data.toList.drop 0).take blX8_doNow_0.length).map UInt8.toNat = blX8_doNow_0 := by decide +kernel
noncomputable def blX8_note_1 : List Nat := [180, 0, 22, 16, 84, 92, 46, 4, 100, 79, 16, 85, 6, 42, 180, 0, 22, 16, 84, 46, 104, 96, 62, 42, 180, 0, 22, 29, 27, 79, 42, 180, 0, 22, 29, 4, 96, 28, 79, 42, 180, 0, 22, 29, 5, 96, 42, 180, 1, 60, 79]
set_option maxRecDepth 100000 in
theorem bcX8_note_1 : ((cX8_note.data.toList.drop 48).take blX8_note_1.length).map UInt8.toNat = blX8_note_1 := by decide +kernel
noncomputable def blX8_note_2 : List Nat := [1, 60, 79, 42, 180, 0, 22, 16, 84, 92, 46, 4, 96, 79, 177]
set_option maxRecDepth 100000 in
theorem bcX8_note_2 : ((cX8_note.data.toList.drop 96).take blX8_note_2.length).map UInt8.toNat = blX8_note_2 := by decide +kernel
noncomputable def blX8_note_0 : List Nat := [42, 180, 0, 22, 16, 84, 46, 16, 60, 160, 0, 49, 6, 62, 29, 17, 0, 180, 162, 0, 29, 42, 180, 0, 22, 16, 85, 29, 96, 6, 100, 42, 180, 0, 22, 16, 85, 29, 96, 46, 79, 132, 3, 1, 167, 255, 226, 42, 180, 0, 22]
set_option maxRecDepth 100000 in
theorem bcX8_note_0 : ((cX8_note.data.toList.drop 0).take blX8_note_0.length).map UInt8.toNat = blX8_note_0 := by decide +kernel
def dl_X8_doIt_30_md06_0 : List (Nat × Instr × Nat) := [(6, .tableswitch 139 0 6 #[42, 59, 78, 86, 94, 139, 109], 42)]
set_option maxRecDepth 100000 in
theorem dall_X8_doIt_30_md06_0 : dchk cX8_doIt dl_X8_doIt_30_md06_0 = true := by decide +kernel
theorem dX8_doIt_6 : decode cX8_doIt 6 = .ok (.tableswitch 139 0 6 #[42, 59, 78, 86, 94, 139, 109], 42) := dchk_at dall_X8_doIt_30_md06_0 (k := 0) rfl
def F_X8_doIt (K : Nat) (p1 : Int32) (p2 : Int32) (p3 : Int32) (p4 : Int32) (c_now : Nat → Int32) (c_sites : Int32) (c_shareX : Nat → Int32) (c_shareY : Nat → Int32) (c_asked : Int32) (c_outcome : Int32) (c_askedRow : Nat → Int32) (c_took : Int32) : Option (Int32 × (Nat → Int32) × (Nat → Int32) × (Nat → Int32) × Int32 × Int32 × (Nat → Int32) × Int32) :=
  if p1 = (0 : Int32) then bd7 (F_X8_movesNow K p2 p3 p4 c_now c_sites c_shareX c_shareY c_asked c_outcome c_askedRow) (fun r_2 w_3 w_4 w_5 w_6 w_7 w_8 => some (r_2, w_3, w_4, w_5, w_6, w_7, w_8, r_2)) else if p1 = (1 : Int32) then bd1 (F_X8_hearsAll K c_now c_sites) (fun w_10 => some ((2 : Int32) * c_sites, w_10, c_shareX, c_shareY, c_asked, c_outcome, c_askedRow, (2 : Int32) * c_sites)) else if p1 = (2 : Int32) then bd3 (F_X8_setsAnd K (65 : Int32) p2 c_now c_sites (0 : Int32)) (fun r_12 w_13 w_14 => some (r_12, w_13, c_shareX, c_shareY, c_asked, c_outcome, c_askedRow, w_14)) else if p1 = (3 : Int32) then bd3 (F_X8_setsAnd K (64 : Int32) p2 c_now c_sites (0 : Int32)) (fun r_16 w_17 w_18 => some (r_16, w_17, c_shareX, c_shareY, c_asked, c_outcome, c_askedRow, w_18)) else if p1 = (4 : Int32) then bd2 (F_X8_addsNow K p2 p3 c_now c_sites) (fun r_20 w_21 => some (r_20, w_21, c_shareX, c_shareY, c_asked, c_outcome, c_askedRow, r_20)) else if p1 = (5 : Int32) then bd2 (F_X8_setsGoal K p2 c_now c_sites) (fun r_23 w_24 => some (r_23, w_24, c_shareX, c_shareY, c_asked, c_outcome, c_askedRow, (0 : Int32))) else if p1 = (6 : Int32) then ixF ((76 : Int32) + p2) 265 (ixF ((76 : Int32) + p2) 265 (nmF (upd c_now ((76 : Int32) + p2).toNatClampNeg ((1 : Int32) - (c_now ((76 : Int32) + p2).toNatClampNeg))) (fun f_28 => ixF ((76 : Int32) + p2) 265 (some (f_28 ((76 : Int32) + p2).toNatClampNeg, f_28, c_shareX, c_shareY, c_asked, c_outcome, c_askedRow, (0 : Int32)))))) else bd2 (F_X8_setsGoal K p2 c_now c_sites) (fun r_30 w_31 => some (r_30, w_31, c_shareX, c_shareY, c_asked, c_outcome, c_askedRow, (0 : Int32)))
abbrev w_X8_doIt (E : EE) (a_ a_tape a_readPlace a_script a_scriptLong a_now a_refused a_shareX a_shareY a_askedRow a_kept a_aside a_spelled a_image : Nat) (c_thrown : Int32) (c_taped : Int32) (c_at : Int32) (c_part : Int32) (c_partFrom : Int32) (c_partNumber : Int32) (c_wrong : Int32) (c_partWord : Int64) (c_readLaw : Int32) (c_readBound : Int32) (c_readGoal : Int32) (c_readSites : Int32) (c_scripts : Int32) (c_sites : Int32) (c_asked : Int32) (c_outcome : Int32) (c_took : Int32) (c_acts : Int32) (c_drawn : Int64) (c_racer : Int32) (c_raced : Int32) (c_spelledMany : Int32) (c_hasImage : Int32) (c_now : Nat → Int32) (c_shareX : Nat → Int32) (c_shareY : Nat → Int32) (c_askedRow : Nat → Int32) : va_W := [k_X8 a_ c_thrown a_tape c_taped c_at c_part c_partFrom c_partNumber c_wrong c_partWord c_readLaw c_readBound c_readGoal c_readSites a_readPlace a_script a_scriptLong c_scripts a_now a_refused c_sites a_shareX a_shareY c_asked c_outcome a_askedRow c_took a_kept c_acts c_drawn a_aside c_racer c_raced a_spelled c_spelledMany a_image c_hasImage, k_I E a_now 265 c_now, k_I E a_shareX 8 c_shareX, k_I E a_shareY 8 c_shareY, k_I E a_askedRow 8 c_askedRow]
def v_f_X8_doIt : List Cond := List.cons (.code yX8_doIt cX8_doIt 5 (some .int)) (HAppend.hAppend (α := List Cond) (β := List Cond) (γ := List Cond) [.fieldLink RX8 316 "HushWatchModel" "took" "I", .fieldLink RX8 196 "HushWatchModel" "sites" "I", .fieldLink RX8 22 "HushWatchModel" "now" "[I", .methodLink RX8 319 yX8_movesNow, .instanceMethod yX8_movesNow, .selects RX8 yX8_movesNow yX8_movesNow, .initialized RX8, .methodLink RX8 266 yX8_hearsAll, .instanceMethod yX8_hearsAll, .selects RX8 yX8_hearsAll yX8_hearsAll, .methodLink RX8 322 yX8_setsAnd, .instanceMethod yX8_setsAnd, .selects RX8 yX8_setsAnd yX8_setsAnd, .methodLink RX8 325 yX8_addsNow, .instanceMethod yX8_addsNow, .selects RX8 yX8_addsNow yX8_addsNow, .methodLink RX8 328 yX8_setsGoal, .instanceMethod yX8_setsGoal, .selects RX8 yX8_setsGoal yX8_setsGoal] (HAppend.hAppend (α := List Cond) (β := List Cond) (γ := List Cond) wsX80 (HAppend.hAppend (α := List Cond) (β := List Cond) (γ := List Cond) v_f_X8_movesNow (HAppend.hAppend (α := List Cond) (β := List Cond) (γ := List Cond) v_f_X8_hearsAll (HAppend.hAppend (α := List Cond) (β := List Cond) (γ := List Cond) v_f_X8_setsAnd (HAppend.hAppend (α := List Cond) (β := List Cond) (γ := List Cond) v_f_X8_addsNow (HAppend.hAppend (α := List Cond) (β := List Cond) (γ := List Cond) v_f_X8_setsGoal [])))))))
theorem gw_f_X8_doIt : v_f_X8_doIt.all goodWord = true := gw_c2 (by decide +kernel) (gw_ap gw_wsX80 (gw_ap gw_f_X8_movesNow (gw_ap gw_f_X8_hearsAll (gw_ap gw_f_X8_setsAnd (gw_ap gw_f_X8_addsNow (gw_ap gw_f_X8_setsGoal gw_nil))))))
theorem i_f_X8_doIt_X8 : ∀ w ∈ wsX80, w ∈ v_f_X8_doIt := fun _ h => List.mem_cons_of_mem _ (List.mem_append_right _ (List.mem_append_left _ h))
theorem g_f_X8_doIt_f_X8_movesNow_319 : GoodIn v_f_X8_doIt (wsV RX8 319 RX8 yX8_movesNow v_f_X8_movesNow) := goodIn_in gw_f_X8_doIt (in4 4 5 6 7 rfl rfl rfl rfl (fun _ h => List.mem_cons_of_mem _ (List.mem_append_right _ (List.mem_append_right _ (List.mem_append_left _ h)))))
theorem g_f_X8_doIt_f_X8_hearsAll_266 : GoodIn v_f_X8_doIt (wsV RX8 266 RX8 yX8_hearsAll v_f_X8_hearsAll) := goodIn_in gw_f_X8_doIt (in4 8 9 10 7 rfl rfl rfl rfl (fun _ h => List.mem_cons_of_mem _ (List.mem_append_right _ (List.mem_append_right _ (List.mem_append_right _ (List.mem_append_left _ h))))))
theorem g_f_X8_doIt_f_X8_setsAnd_322 : GoodIn v_f_X8_doIt (wsV RX8 322 RX8 yX8_setsAnd v_f_X8_setsAnd) := goodIn_in gw_f_X8_doIt (in4 11 12 13 7 rfl rfl rfl rfl (fun _ h => List.mem_cons_of_mem _ (List.mem_append_right _ (List.mem_append_right _ (List.mem_append_right _ (List.mem_append_right _ (List.mem_append_left _ h)))))))
theorem g_f_X8_doIt_f_X8_addsNow_325 : GoodIn v_f_X8_doIt (wsV RX8 325 RX8 yX8_addsNow v_f_X8_addsNow) := goodIn_in gw_f_X8_doIt (in4 14 15 16 7 rfl rfl rfl rfl (fun _ h => List.mem_cons_of_mem _ (List.mem_append_right _ (List.mem_append_right _ (List.mem_append_right _ (List.mem_append_right _ (List.mem_append_right _ (List.mem_append_left _ h))))))))
theorem g_f_X8_doIt_f_X8_setsGoal_328 : GoodIn v_f_X8_doIt (wsV RX8 328 RX8 yX8_setsGoal v_f_X8_setsGoal) := goodIn_in gw_f_X8_doIt (in4 17 18 19 7 rfl rfl rfl rfl (fun _ h => List.mem_cons_of_mem _ (List.mem_append_right _ (List.mem_append_right _ (List.mem_append_right _ (List.mem_append_right _ (List.mem_append_right _ (List.mem_append_right _ (List.mem_append_left _ h)))))))))
theorem hd_X8_doIt : yX8_doIt.cls = RX8 ∧ yX8_doIt.cls ≠ "java/lang/invoke/MethodHandle" ∧ yX8_doIt.cls ≠ "java/lang/invoke/VarHandle" ∧ (parseMethodDescriptor yX8_doIt.desc).map (fun d => d.parameters.length) = some 4 := by decide +kernel
set_option maxHeartbeats 4000000 in
set_option maxRecDepth 100000 in
theorem f_X8_doIt (l : Launch) (E : EE) (sz : Nat) (K : Nat) {a_ a_tape a_readPlace a_script a_scriptLong a_now a_refused a_shareX a_shareY a_askedRow a_kept a_aside a_spelled a_image : Nat} {p1 : Int32} {p2 : Int32} {p3 : Int32} {p4 : Int32} {c_thrown : Int32} {c_taped : Int32} {c_at : Int32} {c_part : Int32} {c_partFrom : Int32} {c_partNumber : Int32} {c_wrong : Int32} {c_partWord : Int64} {c_readLaw : Int32} {c_readBound : Int32} {c_readGoal : Int32} {c_readSites : Int32} {c_scripts : Int32} {c_sites : Int32} {c_asked : Int32} {c_outcome : Int32} {c_took : Int32} {c_acts : Int32} {c_drawn : Int64} {c_racer : Int32} {c_raced : Int32} {c_spelledMany : Int32} {c_hasImage : Int32} {c_now : Nat → Int32} {c_shareX : Nat → Int32} {c_shareY : Nat → Int32} {c_askedRow : Nat → Int32} {rr : Int32} {n_now : Nat → Int32} {n_shareX : Nat → Int32} {n_shareY : Nat → Int32} {n_asked : Int32} {n_outcome : Int32} {n_askedRow : Nat → Int32} {n_took : Int32} (hF : F_X8_doIt K p1 p2 p3 p4 c_now c_sites c_shareX c_shareY c_asked c_outcome c_askedRow c_took = some (rr, n_now, n_shareX, n_shareY, n_asked, n_outcome, n_askedRow, n_took)) : Met l yX8_doIt v_f_X8_doIt (({ frames := 6, cells := 0, slots := 0, locals := 141 } : Room)) (va_Pc [.ref a_, .int p1, .int p2, .int p3, .int p4] (pW E sz (w_X8_doIt E a_ a_tape a_readPlace a_script a_scriptLong a_now a_refused a_shareX a_shareY a_askedRow a_kept a_aside a_spelled a_image c_thrown c_taped c_at c_part c_partFrom c_partNumber c_wrong c_partWord c_readLaw c_readBound c_readGoal c_readSites c_scripts c_sites c_asked c_outcome c_took c_acts c_drawn c_racer c_raced c_spelledMany c_hasImage c_now c_shareX c_shareY c_askedRow))) (va_Qi (fun (q : Int32) (_u : Unit) => q = rr) (fun (_u : Unit) tt => va_P E.1 vwCl (w_X8_doIt E a_ a_tape a_readPlace a_script a_scriptLong a_now a_refused a_shareX a_shareY a_askedRow a_kept a_aside a_spelled a_image c_thrown c_taped c_at c_part c_partFrom c_partNumber c_wrong c_partWord c_readLaw c_readBound c_readGoal c_readSites c_scripts c_sites n_asked n_outcome n_took c_acts c_drawn c_racer c_raced c_spelledMany c_hasImage n_now n_shareX n_shareY n_askedRow) tt.heap ∧ va_D (va_A (w_X8_doIt E a_ a_tape a_readPlace a_script a_scriptLong a_now a_refused a_shareX a_shareY a_askedRow a_kept a_aside a_spelled a_image c_thrown c_taped c_at c_part c_partFrom c_partNumber c_wrong c_partWord c_readLaw c_readBound c_readGoal c_readSites c_scripts c_sites c_asked c_outcome c_took c_acts c_drawn c_racer c_raced c_spelledMany c_hasImage c_now c_shareX c_shareY c_askedRow) sz) (w_X8_doIt E a_ a_tape a_readPlace a_script a_scriptLong a_now a_refused a_shareX a_shareY a_askedRow a_kept a_aside a_spelled a_image c_thrown c_taped c_at c_part c_partFrom c_partNumber c_wrong c_partWord c_readLaw c_readBound c_readGoal c_readSites c_scripts c_sites n_asked n_outcome n_took c_acts c_drawn c_racer c_raced c_spelledMany c_hasImage n_now n_shareX n_shareY n_askedRow)) (va_A (w_X8_doIt E a_ a_tape a_readPlace a_script a_scriptLong a_now a_refused a_shareX a_shareY a_askedRow a_kept a_aside a_spelled a_image c_thrown c_taped c_at c_part c_partFrom c_partNumber c_wrong c_partWord c_readLaw c_readBound c_readGoal c_readSites c_scripts c_sites c_asked c_outcome c_took c_acts c_drawn c_racer c_raced c_spelledMany c_hasImage c_now c_shareX c_shareY c_askedRow) sz)) 0 0 (va_A (w_X8_doIt E a_ a_tape a_readPlace a_script a_scriptLong a_now a_refused a_shareX a_shareY a_askedRow a_kept a_aside a_spelled a_image c_thrown c_taped c_at c_part c_partFrom c_partNumber c_wrong c_partWord c_readLaw c_readBound c_readGoal c_readSites c_scripts c_sites c_asked c_outcome c_took c_acts c_drawn c_racer c_raced c_spelledMany c_hasImage c_now c_shareX c_shareY c_askedRow) sz) := by
  refine Met.ofW (cc := cX8_doIt) (maxL := 5) (ret := (some .int)) (by decide) rfl ?_
  intro p e s m args below meth c s₁ B hml hv
  obtain ⟨rfl, hsz, ⟨hK, hN⟩, hP, hD0⟩ := hv
  have hx := B.exec
  have hb := B.bytes
  have hr := B.returns
  have hts := atoms_spec (ws := v_f_X8_doIt) B.pre
  have hown : s.vm.findClass RX8 = some m.cls := own_of hd_X8_doIt.1 (findClass_of_methodNamed B.named)
  have hlocks : meth.locks = false := B.notSynchronized
  subst hsz
  have hD := hD0.self (sz := s.heap.size)
  generalize hAe : va_A (w_X8_doIt E a_ a_tape a_readPlace a_script a_scriptLong a_now a_refused a_shareX a_shareY a_askedRow a_kept a_aside a_spelled a_image c_thrown c_taped c_at c_part c_partFrom c_partNumber c_wrong c_partWord c_readLaw c_readBound c_readGoal c_readSites c_scripts c_sites c_asked c_outcome c_took c_acts c_drawn c_racer c_raced c_spelledMany c_hasImage c_now c_shareX c_shareY c_askedRow) s.heap.size = A at hD ⊢
  have hA : ∀ q : Nat, s.heap.size ≤ q → A q := fun q h => by rw [← hAe]; exact Or.inr h
  have hS : va_S A s.heap s.heap [] := va_S.rf
  have hl := lv_entry ([.ref a_, .int p1, .int p2, .int p3, .int p4]) (n := 5) (Nat.le_of_ble_eq_true rfl)
  rw [lg_entry_eq]
  generalize (lg_sl ([.ref a_, .int p1, .int p2, .int p3, .int p4]) ++ List.replicate (5 - (lg_sl ([.ref a_, .int p1, .int p2, .int p3, .int p4])).length) Slot.unset).toArray = ls at hl ⊢
  have hl : lv_has ls 5 [(0, .ref a_), (1, .int p1), (2, .int p2), (3, .int p3), (4, .int p4)] := hl
  obtain ⟨Q, hQ⟩ : ∃ Q : State → Prop, Q = MQ below (va_Qi (fun (q : Int32) (_u : Unit) => q = rr) (fun (_u : Unit) tt => va_P E.1 vwCl (w_X8_doIt E a_ a_tape a_readPlace a_script a_scriptLong a_now a_refused a_shareX a_shareY a_askedRow a_kept a_aside a_spelled a_image c_thrown c_taped c_at c_part c_partFrom c_partNumber c_wrong c_partWord c_readLaw c_readBound c_readGoal c_readSites c_scripts c_sites n_asked n_outcome n_took c_acts c_drawn c_racer c_raced c_spelledMany c_hasImage n_now n_shareX n_shareY n_askedRow) tt.heap ∧ va_D A (w_X8_doIt E a_ a_tape a_readPlace a_script a_scriptLong a_now a_refused a_shareX a_shareY a_askedRow a_kept a_aside a_spelled a_image c_thrown c_taped c_at c_part c_partFrom c_partNumber c_wrong c_partWord c_readLaw c_readBound c_readGoal c_readSites c_scripts c_sites n_asked n_outcome n_took c_acts c_drawn c_racer c_raced c_spelledMany c_hasImage n_now n_shareX n_shareY n_askedRow)) A) #[Value.ref a_, Value.int p1, Value.int p2, Value.int p3, Value.int p4] s 0 0 A := ⟨_, rfl⟩
  rw [← hQ]
  change W p l e ({ frames := 6, cells := 0, slots := 0, locals := 141 } : Room) s m #[Value.ref a_, Value.int p1, Value.int p2, Value.int p3, Value.int p4] below meth c s.heap [] 0 0 Q (F0 m 0 ls [])
  suffices hh9 : ∀ (H : Heap) (locs : List Loc), va_P E.1 vwCl (w_X8_doIt E a_ a_tape a_readPlace a_script a_scriptLong a_now a_refused a_shareX a_shareY a_askedRow a_kept a_aside a_spelled a_image c_thrown c_taped c_at c_part c_partFrom c_partNumber c_wrong c_partWord c_readLaw c_readBound c_readGoal c_readSites c_scripts c_sites c_asked c_outcome c_took c_acts c_drawn c_racer c_raced c_spelledMany c_hasImage c_now c_shareX c_shareY c_askedRow) H → va_D A (w_X8_doIt E a_ a_tape a_readPlace a_script a_scriptLong a_now a_refused a_shareX a_shareY a_askedRow a_kept a_aside a_spelled a_image c_thrown c_taped c_at c_part c_partFrom c_partNumber c_wrong c_partWord c_readLaw c_readBound c_readGoal c_readSites c_scripts c_sites c_asked c_outcome c_took c_acts c_drawn c_racer c_raced c_spelledMany c_hasImage c_now c_shareX c_shareY c_askedRow) → va_S A s.heap H locs → W p l e ({ frames := 6, cells := 0, slots := 0, locals := 141 } : Room) s m #[Value.ref a_, Value.int p1, Value.int p2, Value.int p3, Value.int p4] below meth c H locs 0 0 Q (F0 m 0 ls []) from hh9 s.heap [] hP hD hS
  clear hP hD hS
  intro H locs hP hD hS
  have h9 := fixPD (ws' := [k_X8 a_ c_thrown a_tape c_taped c_at c_part c_partFrom c_partNumber c_wrong c_partWord c_readLaw c_readBound c_readGoal c_readSites a_readPlace a_script a_scriptLong c_scripts a_now a_refused c_sites a_shareX a_shareY c_asked c_outcome a_askedRow c_took a_kept c_acts c_drawn a_aside c_racer c_raced a_spelled c_spelledMany a_image c_hasImage, k_I E a_now 265 c_now, k_I E a_shareX 8 c_shareX, k_I E a_shareY 8 c_shareY, k_I E a_askedRow 8 c_askedRow]) hP hD rfl
  clear hP hD
  obtain ⟨hP, hD⟩ := h9
  unfold F_X8_doIt at hF
  refine lv_aload_n hx hb (dq_42 0 bcX8_doIt_0 (j := 0) rfl rfl) rfl (lv_at hl 0 rfl) ?_
  refine lv_iconst (v := 0) hx hb (dq_3 0 bcX8_doIt_0 (j := 1) rfl rfl) (by decide) ?_
  refine pt_X8_25 (v := .int (0 : Int32)) hx hb hts i_f_X8_doIt_X8 hown hK hP hD hS 0 rfl (hts (.fieldLink RX8 316 "HushWatchModel" "took" "I") (List.mem_of_getElem? (i := 1) rfl)) rfl rfl (Nat.le_of_ble_eq_true rfl) (dq_181 0 bcX8_doIt_0 (j := 2) (i := 316) rfl rfl rfl) (fun H locs hP hD hS => ?_)
  have h9 := fixPD (ws' := [k_X8 a_ c_thrown a_tape c_taped c_at c_part c_partFrom c_partNumber c_wrong c_partWord c_readLaw c_readBound c_readGoal c_readSites a_readPlace a_script a_scriptLong c_scripts a_now a_refused c_sites a_shareX a_shareY c_asked c_outcome a_askedRow (0 : Int32) a_kept c_acts c_drawn a_aside c_racer c_raced a_spelled c_spelledMany a_image c_hasImage, k_I E a_now 265 c_now, k_I E a_shareX 8 c_shareX, k_I E a_shareY 8 c_shareY, k_I E a_askedRow 8 c_askedRow]) hP hD rfl
  clear hP hD
  obtain ⟨hP, hD⟩ := h9
  refine lv_iload_n hx hb (dq_27 0 bcX8_doIt_0 (j := 5) rfl rfl) rfl (lv_at hl 1 rfl) ?_
  rcases Classical.em (p1 = (0 : Int32)) with c_1_0 | c_1_0
  ·
    replace hF := ip c_1_0 hF
    refine lv_tableIn (off := 42) (tgt := 48) hx hb dX8_doIt_6 (by rw [c_1_0]; decide) (by rw [c_1_0]; decide) (by rw [c_1_0]; decide) (by decide) ?_
    refine lv_aload_n hx hb (dq_42 48 bcX8_doIt_1 (j := 0) rfl rfl) rfl (lv_at hl 0 rfl) ?_
    refine lv_aload_n hx hb (dq_42 48 bcX8_doIt_1 (j := 1) rfl rfl) rfl (lv_at hl 0 rfl) ?_
    refine lv_iload_n hx hb (dq_28 48 bcX8_doIt_1 (j := 2) rfl rfl) rfl (lv_at hl 2 rfl) ?_
    refine lv_iload_n hx hb (dq_29 48 bcX8_doIt_1 (j := 3) rfl rfl) rfl (lv_at hl 3 rfl) ?_
    refine lv_iload hx hb (dq_21 48 bcX8_doIt_1 (j := 4) (i := 4) rfl rfl) (lv_at hl 4 rfl) ?_
    replace hF := bd7_s hF
    obtain ⟨r_2, w_3, w_4, w_5, w_6, w_7, w_8, hc_9, hF⟩ := hF
    obtain ⟨hPc, hDc, hFc⟩ := wcut (wc := (w_X8_movesNow E a_ a_tape a_readPlace a_script a_scriptLong a_now a_refused a_shareX a_shareY a_askedRow a_kept a_aside a_spelled a_image c_thrown c_taped c_at c_part c_partFrom c_partNumber c_wrong c_partWord c_readLaw c_readBound c_readGoal c_readSites c_scripts c_sites c_asked c_outcome (0 : Int32) c_acts c_drawn c_racer c_raced c_spelledMany c_hasImage c_now c_shareX c_shareY c_askedRow)) hP hD hS hA [0, 1, 2, 3, 4] (by decide) rfl
    have hrc := va_recv hK hPc (ci := 9) (q0 := 0) rfl rfl
    refine cE_i (wc := (w_X8_movesNow E a_ a_tape a_readPlace a_script a_scriptLong a_now a_refused a_shareX a_shareY a_askedRow a_kept a_aside a_spelled a_image c_thrown c_taped c_at c_part c_partFrom c_partNumber c_wrong c_partWord c_readLaw c_readBound c_readGoal c_readSites c_scripts c_sites c_asked c_outcome (0 : Int32) c_acts c_drawn c_racer c_raced c_spelledMany c_hasImage c_now c_shareX c_shareY c_askedRow)) (wr := []) (w1 := (w_X8_movesNow E a_ a_tape a_readPlace a_script a_scriptLong a_now a_refused a_shareX a_shareY a_askedRow a_kept a_aside a_spelled a_image c_thrown c_taped c_at c_part c_partFrom c_partNumber c_wrong c_partWord c_readLaw c_readBound c_readGoal c_readSites c_scripts c_sites w_6 w_7 (0 : Int32) c_acts c_drawn c_racer c_raced c_spelledMany c_hasImage w_3 w_4 w_5 w_8)) (va_runV (As := [.int p2, .int p3, .int p4]) (rest := [.ref a_])  ⟨hx, hb, hml, hown, hts⟩ (f_X8_movesNow l E H.size K (a_ := a_) (a_tape := a_tape) (a_readPlace := a_readPlace) (a_script := a_script) (a_scriptLong := a_scriptLong) (a_now := a_now) (a_refused := a_refused) (a_shareX := a_shareX) (a_shareY := a_shareY) (a_askedRow := a_askedRow) (a_kept := a_kept) (a_aside := a_aside) (a_spelled := a_spelled) (a_image := a_image) (p1 := p2) (p2 := p3) (p3 := p4) (c_thrown := c_thrown) (c_taped := c_taped) (c_at := c_at) (c_part := c_part) (c_partFrom := c_partFrom) (c_partNumber := c_partNumber) (c_wrong := c_wrong) (c_partWord := c_partWord) (c_readLaw := c_readLaw) (c_readBound := c_readBound) (c_readGoal := c_readGoal) (c_readSites := c_readSites) (c_scripts := c_scripts) (c_sites := c_sites) (c_asked := c_asked) (c_outcome := c_outcome) (c_took := (0 : Int32)) (c_acts := c_acts) (c_drawn := c_drawn) (c_racer := c_racer) (c_raced := c_raced) (c_spelledMany := c_spelledMany) (c_hasImage := c_hasImage) (c_now := c_now) (c_shareX := c_shareX) (c_shareY := c_shareY) (c_askedRow := c_askedRow) hc_9) (cwV 3 hts g_f_X8_doIt_f_X8_movesNow_319 rfl rfl rfl hd_X8_movesNow ⟨Nat.le_of_ble_eq_true rfl, Nat.le_of_ble_eq_true rfl⟩) ⟨pW.blind, hrc, (pW.pre ⟨hK, hN⟩ hPc hDc)⟩ rfl rfl hl.1 rfl (lv_room (Nat.le_of_ble_eq_true rfl)) (dq_182 48 bcX8_doIt_1 (j := 6) (i := 319) rfl rfl rfl) ⟨Nat.le_of_ble_eq_true rfl, Nat.le_of_ble_eq_true rfl⟩) hS hFc hP hD [0, 1, 2, 3, 4] [] rfl rfl (by decide) (by decide) (fun H locs hP hD hS => ?_)
    have h9 := fixPD (ws' := [k_X8 a_ c_thrown a_tape c_taped c_at c_part c_partFrom c_partNumber c_wrong c_partWord c_readLaw c_readBound c_readGoal c_readSites a_readPlace a_script a_scriptLong c_scripts a_now a_refused c_sites a_shareX a_shareY w_6 w_7 a_askedRow (0 : Int32) a_kept c_acts c_drawn a_aside c_racer c_raced a_spelled c_spelledMany a_image c_hasImage, k_I E a_now 265 w_3, k_I E a_shareX 8 w_4, k_I E a_shareY 8 w_5, k_I E a_askedRow 8 w_8]) hP hD rfl
    clear hP hD
    obtain ⟨hP, hD⟩ := h9
    refine pt_X8_25 (v := .int r_2) hx hb hts i_f_X8_doIt_X8 hown hK hP hD hS 0 rfl (hts (.fieldLink RX8 316 "HushWatchModel" "took" "I") (List.mem_of_getElem? (i := 1) rfl)) rfl rfl (Nat.le_of_ble_eq_true rfl) (dq_181 48 bcX8_doIt_1 (j := 9) (i := 316) rfl rfl rfl) (fun H locs hP hD hS => ?_)
    have h9 := fixPD (ws' := [k_X8 a_ c_thrown a_tape c_taped c_at c_part c_partFrom c_partNumber c_wrong c_partWord c_readLaw c_readBound c_readGoal c_readSites a_readPlace a_script a_scriptLong c_scripts a_now a_refused c_sites a_shareX a_shareY w_6 w_7 a_askedRow r_2 a_kept c_acts c_drawn a_aside c_racer c_raced a_spelled c_spelledMany a_image c_hasImage, k_I E a_now 265 w_3, k_I E a_shareX 8 w_4, k_I E a_shareY 8 w_5, k_I E a_askedRow 8 w_8]) hP hD rfl
    clear hP hD
    obtain ⟨hP, hD⟩ := h9
    refine lv_aload_n hx hb (dq_42 48 bcX8_doIt_1 (j := 12) rfl rfl) rfl (lv_at hl 0 rfl) ?_
    refine gt_X8_25 (v := .int r_2) hx hb hts i_f_X8_doIt_X8 hown hK hP 0 rfl (hts (.fieldLink RX8 316 "HushWatchModel" "took" "I") (List.mem_of_getElem? (i := 1) rfl)) rfl (dq_180 48 bcX8_doIt_1 (j := 13) (i := 316) rfl rfl rfl) ?_
    rw [hQ]
    have h9 := fin9 (P := fun u9 : Int32 × (Nat → Int32) × (Nat → Int32) × (Nat → Int32) × Int32 × Int32 × (Nat → Int32) × Int32 => r_2 = u9.1 ∧ va_P E.1 vwCl (w_X8_doIt E a_ a_tape a_readPlace a_script a_scriptLong a_now a_refused a_shareX a_shareY a_askedRow a_kept a_aside a_spelled a_image c_thrown c_taped c_at c_part c_partFrom c_partNumber c_wrong c_partWord c_readLaw c_readBound c_readGoal c_readSites c_scripts c_sites u9.2.2.2.2.1 u9.2.2.2.2.2.1 u9.2.2.2.2.2.2.2 c_acts c_drawn c_racer c_raced c_spelledMany c_hasImage u9.2.1 u9.2.2.1 u9.2.2.2.1 u9.2.2.2.2.2.2.1) H ∧ va_D A (w_X8_doIt E a_ a_tape a_readPlace a_script a_scriptLong a_now a_refused a_shareX a_shareY a_askedRow a_kept a_aside a_spelled a_image c_thrown c_taped c_at c_part c_partFrom c_partNumber c_wrong c_partWord c_readLaw c_readBound c_readGoal c_readSites c_scripts c_sites u9.2.2.2.2.1 u9.2.2.2.2.2.1 u9.2.2.2.2.2.2.2 c_acts c_drawn c_racer c_raced c_spelledMany c_hasImage u9.2.1 u9.2.2.1 u9.2.2.2.1 u9.2.2.2.2.2.2.1)) hF ⟨rfl, hP, hD⟩
    obtain ⟨e9_0, hP9, hD9⟩ := h9
    exact W.iret (v := r_2) hx hb hr (fun tt ht hW => ⟨⟨_, (), rfl, e9_0, ht ▸ hP9, hD9⟩, hS.F ht⟩) hS.2.2 (dq_172 48 bcX8_doIt_1 (j := 16) rfl rfl)
  replace hF := inn c_1_0 hF
  rcases Classical.em (p1 = (1 : Int32)) with c_1_1 | c_1_1
  ·
    replace hF := ip c_1_1 hF
    refine lv_tableIn (off := 59) (tgt := 65) hx hb dX8_doIt_6 (by rw [c_1_1]; decide) (by rw [c_1_1]; decide) (by rw [c_1_1]; decide) (by decide) ?_
    refine lv_aload_n hx hb (dq_42 48 bcX8_doIt_1 (j := 17) rfl rfl) rfl (lv_at hl 0 rfl) ?_
    replace hF := bd1_s hF
    obtain ⟨w_10, hc_11, hF⟩ := hF
    obtain ⟨hPc, hDc, hFc⟩ := wcut (wc := (w_X8_hearsAll E a_ a_tape a_readPlace a_script a_scriptLong a_now a_refused a_shareX a_shareY a_askedRow a_kept a_aside a_spelled a_image c_thrown c_taped c_at c_part c_partFrom c_partNumber c_wrong c_partWord c_readLaw c_readBound c_readGoal c_readSites c_scripts c_sites c_asked c_outcome (0 : Int32) c_acts c_drawn c_racer c_raced c_spelledMany c_hasImage c_now)) hP hD hS hA [0, 1] (by decide) rfl
    have hrc := va_recv hK hPc (ci := 9) (q0 := 0) rfl rfl
    refine cE_v (wc := (w_X8_hearsAll E a_ a_tape a_readPlace a_script a_scriptLong a_now a_refused a_shareX a_shareY a_askedRow a_kept a_aside a_spelled a_image c_thrown c_taped c_at c_part c_partFrom c_partNumber c_wrong c_partWord c_readLaw c_readBound c_readGoal c_readSites c_scripts c_sites c_asked c_outcome (0 : Int32) c_acts c_drawn c_racer c_raced c_spelledMany c_hasImage c_now)) (wr := [k_I E a_shareX 8 c_shareX, k_I E a_shareY 8 c_shareY, k_I E a_askedRow 8 c_askedRow]) (w1 := (w_X8_hearsAll E a_ a_tape a_readPlace a_script a_scriptLong a_now a_refused a_shareX a_shareY a_askedRow a_kept a_aside a_spelled a_image c_thrown c_taped c_at c_part c_partFrom c_partNumber c_wrong c_partWord c_readLaw c_readBound c_readGoal c_readSites c_scripts c_sites c_asked c_outcome (0 : Int32) c_acts c_drawn c_racer c_raced c_spelledMany c_hasImage w_10)) (va_runV (As := []) (rest := [])  ⟨hx, hb, hml, hown, hts⟩ (f_X8_hearsAll l E H.size K (a_ := a_) (a_tape := a_tape) (a_readPlace := a_readPlace) (a_script := a_script) (a_scriptLong := a_scriptLong) (a_now := a_now) (a_refused := a_refused) (a_shareX := a_shareX) (a_shareY := a_shareY) (a_askedRow := a_askedRow) (a_kept := a_kept) (a_aside := a_aside) (a_spelled := a_spelled) (a_image := a_image) (c_thrown := c_thrown) (c_taped := c_taped) (c_at := c_at) (c_part := c_part) (c_partFrom := c_partFrom) (c_partNumber := c_partNumber) (c_wrong := c_wrong) (c_partWord := c_partWord) (c_readLaw := c_readLaw) (c_readBound := c_readBound) (c_readGoal := c_readGoal) (c_readSites := c_readSites) (c_scripts := c_scripts) (c_sites := c_sites) (c_asked := c_asked) (c_outcome := c_outcome) (c_took := (0 : Int32)) (c_acts := c_acts) (c_drawn := c_drawn) (c_racer := c_racer) (c_raced := c_raced) (c_spelledMany := c_spelledMany) (c_hasImage := c_hasImage) (c_now := c_now) hc_11) (cwV 0 hts g_f_X8_doIt_f_X8_hearsAll_266 rfl rfl rfl hd_X8_hearsAll ⟨Nat.le_of_ble_eq_true rfl, Nat.le_of_ble_eq_true rfl⟩) ⟨pW.blind, hrc, (pW.pre ⟨hK, hN⟩ hPc hDc)⟩ rfl rfl hl.1 rfl (lv_room (Nat.le_of_ble_eq_true rfl)) (dq_182 48 bcX8_doIt_1 (j := 18) (i := 266) rfl rfl rfl) ⟨Nat.le_of_ble_eq_true rfl, Nat.le_of_ble_eq_true rfl⟩) hS hFc hP hD [0, 1] [2, 3, 4] rfl rfl (by decide) (by decide) (fun H locs hP hD hS => ?_)
    have h9 := fixPD (ws' := [k_I E a_shareX 8 c_shareX, k_I E a_shareY 8 c_shareY, k_I E a_askedRow 8 c_askedRow, k_X8 a_ c_thrown a_tape c_taped c_at c_part c_partFrom c_partNumber c_wrong c_partWord c_readLaw c_readBound c_readGoal c_readSites a_readPlace a_script a_scriptLong c_scripts a_now a_refused c_sites a_shareX a_shareY c_asked c_outcome a_askedRow (0 : Int32) a_kept c_acts c_drawn a_aside c_racer c_raced a_spelled c_spelledMany a_image c_hasImage, k_I E a_now 265 w_10]) hP hD rfl
    clear hP hD
    obtain ⟨hP, hD⟩ := h9
    refine lv_aload_n hx hb (dq_42 48 bcX8_doIt_1 (j := 21) rfl rfl) rfl (lv_at hl 0 rfl) ?_
    refine lv_iconst (v := 2) hx hb (dq_5 48 bcX8_doIt_1 (j := 22) rfl rfl) (by decide) ?_
    refine lv_aload_n hx hb (dq_42 48 bcX8_doIt_1 (j := 23) rfl rfl) rfl (lv_at hl 0 rfl) ?_
    refine gt_X8_19 (v := .int c_sites) hx hb hts i_f_X8_doIt_X8 hown hK hP 3 rfl (hts (.fieldLink RX8 196 "HushWatchModel" "sites" "I") (List.mem_of_getElem? (i := 2) rfl)) rfl (dq_180 48 bcX8_doIt_1 (j := 24) (i := 196) rfl rfl rfl) ?_
    refine lv_imul hx hb (dq_104 48 bcX8_doIt_1 (j := 27) rfl rfl) ?_
    refine pt_X8_25 (v := .int ((2 : Int32) * c_sites)) hx hb hts i_f_X8_doIt_X8 hown hK hP hD hS 3 rfl (hts (.fieldLink RX8 316 "HushWatchModel" "took" "I") (List.mem_of_getElem? (i := 1) rfl)) rfl rfl (Nat.le_of_ble_eq_true rfl) (dq_181 48 bcX8_doIt_1 (j := 28) (i := 316) rfl rfl rfl) (fun H locs hP hD hS => ?_)
    have h9 := fixPD (ws' := [k_I E a_shareX 8 c_shareX, k_I E a_shareY 8 c_shareY, k_I E a_askedRow 8 c_askedRow, k_X8 a_ c_thrown a_tape c_taped c_at c_part c_partFrom c_partNumber c_wrong c_partWord c_readLaw c_readBound c_readGoal c_readSites a_readPlace a_script a_scriptLong c_scripts a_now a_refused c_sites a_shareX a_shareY c_asked c_outcome a_askedRow ((2 : Int32) * c_sites) a_kept c_acts c_drawn a_aside c_racer c_raced a_spelled c_spelledMany a_image c_hasImage, k_I E a_now 265 w_10]) hP hD rfl
    clear hP hD
    obtain ⟨hP, hD⟩ := h9
    refine lv_aload_n hx hb (dq_42 48 bcX8_doIt_1 (j := 31) rfl rfl) rfl (lv_at hl 0 rfl) ?_
    refine gt_X8_25 (v := .int ((2 : Int32) * c_sites)) hx hb hts i_f_X8_doIt_X8 hown hK hP 3 rfl (hts (.fieldLink RX8 316 "HushWatchModel" "took" "I") (List.mem_of_getElem? (i := 1) rfl)) rfl (dq_180 48 bcX8_doIt_1 (j := 32) (i := 316) rfl rfl rfl) ?_
    rw [hQ]
    have h9 := fin9 (P := fun u9 : Int32 × (Nat → Int32) × (Nat → Int32) × (Nat → Int32) × Int32 × Int32 × (Nat → Int32) × Int32 => ((2 : Int32) * c_sites) = u9.1 ∧ va_P E.1 vwCl (w_X8_doIt E a_ a_tape a_readPlace a_script a_scriptLong a_now a_refused a_shareX a_shareY a_askedRow a_kept a_aside a_spelled a_image c_thrown c_taped c_at c_part c_partFrom c_partNumber c_wrong c_partWord c_readLaw c_readBound c_readGoal c_readSites c_scripts c_sites u9.2.2.2.2.1 u9.2.2.2.2.2.1 u9.2.2.2.2.2.2.2 c_acts c_drawn c_racer c_raced c_spelledMany c_hasImage u9.2.1 u9.2.2.1 u9.2.2.2.1 u9.2.2.2.2.2.2.1) H ∧ va_D A (w_X8_doIt E a_ a_tape a_readPlace a_script a_scriptLong a_now a_refused a_shareX a_shareY a_askedRow a_kept a_aside a_spelled a_image c_thrown c_taped c_at c_part c_partFrom c_partNumber c_wrong c_partWord c_readLaw c_readBound c_readGoal c_readSites c_scripts c_sites u9.2.2.2.2.1 u9.2.2.2.2.2.1 u9.2.2.2.2.2.2.2 c_acts c_drawn c_racer c_raced c_spelledMany c_hasImage u9.2.1 u9.2.2.1 u9.2.2.2.1 u9.2.2.2.2.2.2.1)) hF ⟨rfl, hP.sub [3, 4, 0, 1, 2] rfl, hD.sub [3, 4, 0, 1, 2] (by decide) rfl⟩
    obtain ⟨e9_0, hP9, hD9⟩ := h9
    exact W.iret (v := (2 : Int32) * c_sites) hx hb hr (fun tt ht hW => ⟨⟨_, (), rfl, e9_0, ht ▸ hP9, hD9⟩, hS.F ht⟩) hS.2.2 (dq_172 48 bcX8_doIt_1 (j := 35) rfl rfl)
  replace hF := inn c_1_1 hF
  rcases Classical.em (p1 = (2 : Int32)) with c_1_2 | c_1_2
  ·
    replace hF := ip c_1_2 hF
    refine lv_tableIn (off := 78) (tgt := 84) hx hb dX8_doIt_6 (by rw [c_1_2]; decide) (by rw [c_1_2]; decide) (by rw [c_1_2]; decide) (by decide) ?_
    refine lv_aload_n hx hb (dq_42 48 bcX8_doIt_1 (j := 36) rfl rfl) rfl (lv_at hl 0 rfl) ?_
    refine lv_bipush (v := 65) hx hb (dq_16 48 bcX8_doIt_1 (j := 37) (i := 65) rfl rfl rfl) (by decide) ?_
    refine lv_iload_n hx hb (dq_28 48 bcX8_doIt_1 (j := 39) rfl rfl) rfl (lv_at hl 2 rfl) ?_
    replace hF := bd3_s hF
    obtain ⟨r_12, w_13, w_14, hc_15, hF⟩ := hF
    obtain ⟨hPc, hDc, hFc⟩ := wcut (wc := (w_X8_setsAnd E a_ a_tape a_readPlace a_script a_scriptLong a_now a_refused a_shareX a_shareY a_askedRow a_kept a_aside a_spelled a_image c_thrown c_taped c_at c_part c_partFrom c_partNumber c_wrong c_partWord c_readLaw c_readBound c_readGoal c_readSites c_scripts c_sites c_asked c_outcome (0 : Int32) c_acts c_drawn c_racer c_raced c_spelledMany c_hasImage c_now)) hP hD hS hA [0, 1] (by decide) rfl
    have hrc := va_recv hK hPc (ci := 9) (q0 := 0) rfl rfl
    refine cE_i (wc := (w_X8_setsAnd E a_ a_tape a_readPlace a_script a_scriptLong a_now a_refused a_shareX a_shareY a_askedRow a_kept a_aside a_spelled a_image c_thrown c_taped c_at c_part c_partFrom c_partNumber c_wrong c_partWord c_readLaw c_readBound c_readGoal c_readSites c_scripts c_sites c_asked c_outcome (0 : Int32) c_acts c_drawn c_racer c_raced c_spelledMany c_hasImage c_now)) (wr := [k_I E a_shareX 8 c_shareX, k_I E a_shareY 8 c_shareY, k_I E a_askedRow 8 c_askedRow]) (w1 := (w_X8_setsAnd E a_ a_tape a_readPlace a_script a_scriptLong a_now a_refused a_shareX a_shareY a_askedRow a_kept a_aside a_spelled a_image c_thrown c_taped c_at c_part c_partFrom c_partNumber c_wrong c_partWord c_readLaw c_readBound c_readGoal c_readSites c_scripts c_sites c_asked c_outcome w_14 c_acts c_drawn c_racer c_raced c_spelledMany c_hasImage w_13)) (va_runV (As := [.int (65 : Int32), .int p2]) (rest := [])  ⟨hx, hb, hml, hown, hts⟩ (f_X8_setsAnd l E H.size K (a_ := a_) (a_tape := a_tape) (a_readPlace := a_readPlace) (a_script := a_script) (a_scriptLong := a_scriptLong) (a_now := a_now) (a_refused := a_refused) (a_shareX := a_shareX) (a_shareY := a_shareY) (a_askedRow := a_askedRow) (a_kept := a_kept) (a_aside := a_aside) (a_spelled := a_spelled) (a_image := a_image) (p1 := (65 : Int32)) (p2 := p2) (c_thrown := c_thrown) (c_taped := c_taped) (c_at := c_at) (c_part := c_part) (c_partFrom := c_partFrom) (c_partNumber := c_partNumber) (c_wrong := c_wrong) (c_partWord := c_partWord) (c_readLaw := c_readLaw) (c_readBound := c_readBound) (c_readGoal := c_readGoal) (c_readSites := c_readSites) (c_scripts := c_scripts) (c_sites := c_sites) (c_asked := c_asked) (c_outcome := c_outcome) (c_took := (0 : Int32)) (c_acts := c_acts) (c_drawn := c_drawn) (c_racer := c_racer) (c_raced := c_raced) (c_spelledMany := c_spelledMany) (c_hasImage := c_hasImage) (c_now := c_now) hc_15) (cwV 2 hts g_f_X8_doIt_f_X8_setsAnd_322 rfl rfl rfl hd_X8_setsAnd ⟨Nat.le_of_ble_eq_true rfl, Nat.le_of_ble_eq_true rfl⟩) ⟨pW.blind, hrc, (pW.pre ⟨hK, hN⟩ hPc hDc)⟩ rfl rfl hl.1 rfl (lv_room (Nat.le_of_ble_eq_true rfl)) (dq_182 48 bcX8_doIt_1 (j := 40) (i := 322) rfl rfl rfl) ⟨Nat.le_of_ble_eq_true rfl, Nat.le_of_ble_eq_true rfl⟩) hS hFc hP hD [0, 1] [2, 3, 4] rfl rfl (by decide) (by decide) (fun H locs hP hD hS => ?_)
    have h9 := fixPD (ws' := [k_I E a_shareX 8 c_shareX, k_I E a_shareY 8 c_shareY, k_I E a_askedRow 8 c_askedRow, k_X8 a_ c_thrown a_tape c_taped c_at c_part c_partFrom c_partNumber c_wrong c_partWord c_readLaw c_readBound c_readGoal c_readSites a_readPlace a_script a_scriptLong c_scripts a_now a_refused c_sites a_shareX a_shareY c_asked c_outcome a_askedRow w_14 a_kept c_acts c_drawn a_aside c_racer c_raced a_spelled c_spelledMany a_image c_hasImage, k_I E a_now 265 w_13]) hP hD rfl
    clear hP hD
    obtain ⟨hP, hD⟩ := h9
    rw [hQ]
    have h9 := fin9 (P := fun u9 : Int32 × (Nat → Int32) × (Nat → Int32) × (Nat → Int32) × Int32 × Int32 × (Nat → Int32) × Int32 => r_12 = u9.1 ∧ va_P E.1 vwCl (w_X8_doIt E a_ a_tape a_readPlace a_script a_scriptLong a_now a_refused a_shareX a_shareY a_askedRow a_kept a_aside a_spelled a_image c_thrown c_taped c_at c_part c_partFrom c_partNumber c_wrong c_partWord c_readLaw c_readBound c_readGoal c_readSites c_scripts c_sites u9.2.2.2.2.1 u9.2.2.2.2.2.1 u9.2.2.2.2.2.2.2 c_acts c_drawn c_racer c_raced c_spelledMany c_hasImage u9.2.1 u9.2.2.1 u9.2.2.2.1 u9.2.2.2.2.2.2.1) H ∧ va_D A (w_X8_doIt E a_ a_tape a_readPlace a_script a_scriptLong a_now a_refused a_shareX a_shareY a_askedRow a_kept a_aside a_spelled a_image c_thrown c_taped c_at c_part c_partFrom c_partNumber c_wrong c_partWord c_readLaw c_readBound c_readGoal c_readSites c_scripts c_sites u9.2.2.2.2.1 u9.2.2.2.2.2.1 u9.2.2.2.2.2.2.2 c_acts c_drawn c_racer c_raced c_spelledMany c_hasImage u9.2.1 u9.2.2.1 u9.2.2.2.1 u9.2.2.2.2.2.2.1)) hF ⟨rfl, hP.sub [3, 4, 0, 1, 2] rfl, hD.sub [3, 4, 0, 1, 2] (by decide) rfl⟩
    obtain ⟨e9_0, hP9, hD9⟩ := h9
    exact W.iret (v := r_12) hx hb hr (fun tt ht hW => ⟨⟨_, (), rfl, e9_0, ht ▸ hP9, hD9⟩, hS.F ht⟩) hS.2.2 (dq_172 48 bcX8_doIt_1 (j := 43) rfl rfl)
  replace hF := inn c_1_2 hF
  rcases Classical.em (p1 = (3 : Int32)) with c_1_3 | c_1_3
  ·
    replace hF := ip c_1_3 hF
    refine lv_tableIn (off := 86) (tgt := 92) hx hb dX8_doIt_6 (by rw [c_1_3]; decide) (by rw [c_1_3]; decide) (by rw [c_1_3]; decide) (by decide) ?_
    refine lv_aload_n hx hb (dq_42 48 bcX8_doIt_1 (j := 44) rfl rfl) rfl (lv_at hl 0 rfl) ?_
    refine lv_bipush (v := 64) hx hb (dq_16 48 bcX8_doIt_1 (j := 45) (i := 64) rfl rfl rfl) (by decide) ?_
    refine lv_iload_n hx hb (dq_28 48 bcX8_doIt_1 (j := 47) rfl rfl) rfl (lv_at hl 2 rfl) ?_
    replace hF := bd3_s hF
    obtain ⟨r_16, w_17, w_18, hc_19, hF⟩ := hF
    obtain ⟨hPc, hDc, hFc⟩ := wcut (wc := (w_X8_setsAnd E a_ a_tape a_readPlace a_script a_scriptLong a_now a_refused a_shareX a_shareY a_askedRow a_kept a_aside a_spelled a_image c_thrown c_taped c_at c_part c_partFrom c_partNumber c_wrong c_partWord c_readLaw c_readBound c_readGoal c_readSites c_scripts c_sites c_asked c_outcome (0 : Int32) c_acts c_drawn c_racer c_raced c_spelledMany c_hasImage c_now)) hP hD hS hA [0, 1] (by decide) rfl
    have hrc := va_recv hK hPc (ci := 9) (q0 := 0) rfl rfl
    refine cE_i (wc := (w_X8_setsAnd E a_ a_tape a_readPlace a_script a_scriptLong a_now a_refused a_shareX a_shareY a_askedRow a_kept a_aside a_spelled a_image c_thrown c_taped c_at c_part c_partFrom c_partNumber c_wrong c_partWord c_readLaw c_readBound c_readGoal c_readSites c_scripts c_sites c_asked c_outcome (0 : Int32) c_acts c_drawn c_racer c_raced c_spelledMany c_hasImage c_now)) (wr := [k_I E a_shareX 8 c_shareX, k_I E a_shareY 8 c_shareY, k_I E a_askedRow 8 c_askedRow]) (w1 := (w_X8_setsAnd E a_ a_tape a_readPlace a_script a_scriptLong a_now a_refused a_shareX a_shareY a_askedRow a_kept a_aside a_spelled a_image c_thrown c_taped c_at c_part c_partFrom c_partNumber c_wrong c_partWord c_readLaw c_readBound c_readGoal c_readSites c_scripts c_sites c_asked c_outcome w_18 c_acts c_drawn c_racer c_raced c_spelledMany c_hasImage w_17)) (va_runV (As := [.int (64 : Int32), .int p2]) (rest := [])  ⟨hx, hb, hml, hown, hts⟩ (f_X8_setsAnd l E H.size K (a_ := a_) (a_tape := a_tape) (a_readPlace := a_readPlace) (a_script := a_script) (a_scriptLong := a_scriptLong) (a_now := a_now) (a_refused := a_refused) (a_shareX := a_shareX) (a_shareY := a_shareY) (a_askedRow := a_askedRow) (a_kept := a_kept) (a_aside := a_aside) (a_spelled := a_spelled) (a_image := a_image) (p1 := (64 : Int32)) (p2 := p2) (c_thrown := c_thrown) (c_taped := c_taped) (c_at := c_at) (c_part := c_part) (c_partFrom := c_partFrom) (c_partNumber := c_partNumber) (c_wrong := c_wrong) (c_partWord := c_partWord) (c_readLaw := c_readLaw) (c_readBound := c_readBound) (c_readGoal := c_readGoal) (c_readSites := c_readSites) (c_scripts := c_scripts) (c_sites := c_sites) (c_asked := c_asked) (c_outcome := c_outcome) (c_took := (0 : Int32)) (c_acts := c_acts) (c_drawn := c_drawn) (c_racer := c_racer) (c_raced := c_raced) (c_spelledMany := c_spelledMany) (c_hasImage := c_hasImage) (c_now := c_now) hc_19) (cwV 2 hts g_f_X8_doIt_f_X8_setsAnd_322 rfl rfl rfl hd_X8_setsAnd ⟨Nat.le_of_ble_eq_true rfl, Nat.le_of_ble_eq_true rfl⟩) ⟨pW.blind, hrc, (pW.pre ⟨hK, hN⟩ hPc hDc)⟩ rfl rfl hl.1 rfl (lv_room (Nat.le_of_ble_eq_true rfl)) (dq_182 96 bcX8_doIt_2 (j := 0) (i := 322) rfl rfl rfl) ⟨Nat.le_of_ble_eq_true rfl, Nat.le_of_ble_eq_true rfl⟩) hS hFc hP hD [0, 1] [2, 3, 4] rfl rfl (by decide) (by decide) (fun H locs hP hD hS => ?_)
    have h9 := fixPD (ws' := [k_I E a_shareX 8 c_shareX, k_I E a_shareY 8 c_shareY, k_I E a_askedRow 8 c_askedRow, k_X8 a_ c_thrown a_tape c_taped c_at c_part c_partFrom c_partNumber c_wrong c_partWord c_readLaw c_readBound c_readGoal c_readSites a_readPlace a_script a_scriptLong c_scripts a_now a_refused c_sites a_shareX a_shareY c_asked c_outcome a_askedRow w_18 a_kept c_acts c_drawn a_aside c_racer c_raced a_spelled c_spelledMany a_image c_hasImage, k_I E a_now 265 w_17]) hP hD rfl
    clear hP hD
    obtain ⟨hP, hD⟩ := h9
    rw [hQ]
    have h9 := fin9 (P := fun u9 : Int32 × (Nat → Int32) × (Nat → Int32) × (Nat → Int32) × Int32 × Int32 × (Nat → Int32) × Int32 => r_16 = u9.1 ∧ va_P E.1 vwCl (w_X8_doIt E a_ a_tape a_readPlace a_script a_scriptLong a_now a_refused a_shareX a_shareY a_askedRow a_kept a_aside a_spelled a_image c_thrown c_taped c_at c_part c_partFrom c_partNumber c_wrong c_partWord c_readLaw c_readBound c_readGoal c_readSites c_scripts c_sites u9.2.2.2.2.1 u9.2.2.2.2.2.1 u9.2.2.2.2.2.2.2 c_acts c_drawn c_racer c_raced c_spelledMany c_hasImage u9.2.1 u9.2.2.1 u9.2.2.2.1 u9.2.2.2.2.2.2.1) H ∧ va_D A (w_X8_doIt E a_ a_tape a_readPlace a_script a_scriptLong a_now a_refused a_shareX a_shareY a_askedRow a_kept a_aside a_spelled a_image c_thrown c_taped c_at c_part c_partFrom c_partNumber c_wrong c_partWord c_readLaw c_readBound c_readGoal c_readSites c_scripts c_sites u9.2.2.2.2.1 u9.2.2.2.2.2.1 u9.2.2.2.2.2.2.2 c_acts c_drawn c_racer c_raced c_spelledMany c_hasImage u9.2.1 u9.2.2.1 u9.2.2.2.1 u9.2.2.2.2.2.2.1)) hF ⟨rfl, hP.sub [3, 4, 0, 1, 2] rfl, hD.sub [3, 4, 0, 1, 2] (by decide) rfl⟩
    obtain ⟨e9_0, hP9, hD9⟩ := h9
    exact W.iret (v := r_16) hx hb hr (fun tt ht hW => ⟨⟨_, (), rfl, e9_0, ht ▸ hP9, hD9⟩, hS.F ht⟩) hS.2.2 (dq_172 96 bcX8_doIt_2 (j := 3) rfl rfl)
  replace hF := inn c_1_3 hF
  rcases Classical.em (p1 = (4 : Int32)) with c_1_4 | c_1_4
  ·
    replace hF := ip c_1_4 hF
    refine lv_tableIn (off := 94) (tgt := 100) hx hb dX8_doIt_6 (by rw [c_1_4]; decide) (by rw [c_1_4]; decide) (by rw [c_1_4]; decide) (by decide) ?_
    refine lv_aload_n hx hb (dq_42 96 bcX8_doIt_2 (j := 4) rfl rfl) rfl (lv_at hl 0 rfl) ?_
    refine lv_aload_n hx hb (dq_42 96 bcX8_doIt_2 (j := 5) rfl rfl) rfl (lv_at hl 0 rfl) ?_
    refine lv_iload_n hx hb (dq_28 96 bcX8_doIt_2 (j := 6) rfl rfl) rfl (lv_at hl 2 rfl) ?_
    refine lv_iload_n hx hb (dq_29 96 bcX8_doIt_2 (j := 7) rfl rfl) rfl (lv_at hl 3 rfl) ?_
    replace hF := bd2_s hF
    obtain ⟨r_20, w_21, hc_22, hF⟩ := hF
    obtain ⟨hPc, hDc, hFc⟩ := wcut (wc := (w_X8_addsNow E a_ a_tape a_readPlace a_script a_scriptLong a_now a_refused a_shareX a_shareY a_askedRow a_kept a_aside a_spelled a_image c_thrown c_taped c_at c_part c_partFrom c_partNumber c_wrong c_partWord c_readLaw c_readBound c_readGoal c_readSites c_scripts c_sites c_asked c_outcome (0 : Int32) c_acts c_drawn c_racer c_raced c_spelledMany c_hasImage c_now)) hP hD hS hA [0, 1] (by decide) rfl
    have hrc := va_recv hK hPc (ci := 9) (q0 := 0) rfl rfl
    refine cE_i (wc := (w_X8_addsNow E a_ a_tape a_readPlace a_script a_scriptLong a_now a_refused a_shareX a_shareY a_askedRow a_kept a_aside a_spelled a_image c_thrown c_taped c_at c_part c_partFrom c_partNumber c_wrong c_partWord c_readLaw c_readBound c_readGoal c_readSites c_scripts c_sites c_asked c_outcome (0 : Int32) c_acts c_drawn c_racer c_raced c_spelledMany c_hasImage c_now)) (wr := [k_I E a_shareX 8 c_shareX, k_I E a_shareY 8 c_shareY, k_I E a_askedRow 8 c_askedRow]) (w1 := (w_X8_addsNow E a_ a_tape a_readPlace a_script a_scriptLong a_now a_refused a_shareX a_shareY a_askedRow a_kept a_aside a_spelled a_image c_thrown c_taped c_at c_part c_partFrom c_partNumber c_wrong c_partWord c_readLaw c_readBound c_readGoal c_readSites c_scripts c_sites c_asked c_outcome (0 : Int32) c_acts c_drawn c_racer c_raced c_spelledMany c_hasImage w_21)) (va_runV (As := [.int p2, .int p3]) (rest := [.ref a_])  ⟨hx, hb, hml, hown, hts⟩ (f_X8_addsNow l E H.size K (a_ := a_) (a_tape := a_tape) (a_readPlace := a_readPlace) (a_script := a_script) (a_scriptLong := a_scriptLong) (a_now := a_now) (a_refused := a_refused) (a_shareX := a_shareX) (a_shareY := a_shareY) (a_askedRow := a_askedRow) (a_kept := a_kept) (a_aside := a_aside) (a_spelled := a_spelled) (a_image := a_image) (p1 := p2) (p2 := p3) (c_thrown := c_thrown) (c_taped := c_taped) (c_at := c_at) (c_part := c_part) (c_partFrom := c_partFrom) (c_partNumber := c_partNumber) (c_wrong := c_wrong) (c_partWord := c_partWord) (c_readLaw := c_readLaw) (c_readBound := c_readBound) (c_readGoal := c_readGoal) (c_readSites := c_readSites) (c_scripts := c_scripts) (c_sites := c_sites) (c_asked := c_asked) (c_outcome := c_outcome) (c_took := (0 : Int32)) (c_acts := c_acts) (c_drawn := c_drawn) (c_racer := c_racer) (c_raced := c_raced) (c_spelledMany := c_spelledMany) (c_hasImage := c_hasImage) (c_now := c_now) hc_22) (cwV 2 hts g_f_X8_doIt_f_X8_addsNow_325 rfl rfl rfl hd_X8_addsNow ⟨Nat.le_of_ble_eq_true rfl, Nat.le_of_ble_eq_true rfl⟩) ⟨pW.blind, hrc, (pW.pre ⟨hK, hN⟩ hPc hDc)⟩ rfl rfl hl.1 rfl (lv_room (Nat.le_of_ble_eq_true rfl)) (dq_182 96 bcX8_doIt_2 (j := 8) (i := 325) rfl rfl rfl) ⟨Nat.le_of_ble_eq_true rfl, Nat.le_of_ble_eq_true rfl⟩) hS hFc hP hD [0, 1] [2, 3, 4] rfl rfl (by decide) (by decide) (fun H locs hP hD hS => ?_)
    have h9 := fixPD (ws' := [k_I E a_shareX 8 c_shareX, k_I E a_shareY 8 c_shareY, k_I E a_askedRow 8 c_askedRow, k_X8 a_ c_thrown a_tape c_taped c_at c_part c_partFrom c_partNumber c_wrong c_partWord c_readLaw c_readBound c_readGoal c_readSites a_readPlace a_script a_scriptLong c_scripts a_now a_refused c_sites a_shareX a_shareY c_asked c_outcome a_askedRow (0 : Int32) a_kept c_acts c_drawn a_aside c_racer c_raced a_spelled c_spelledMany a_image c_hasImage, k_I E a_now 265 w_21]) hP hD rfl
    clear hP hD
    obtain ⟨hP, hD⟩ := h9
    refine pt_X8_25 (v := .int r_20) hx hb hts i_f_X8_doIt_X8 hown hK hP hD hS 3 rfl (hts (.fieldLink RX8 316 "HushWatchModel" "took" "I") (List.mem_of_getElem? (i := 1) rfl)) rfl rfl (Nat.le_of_ble_eq_true rfl) (dq_181 96 bcX8_doIt_2 (j := 11) (i := 316) rfl rfl rfl) (fun H locs hP hD hS => ?_)
    have h9 := fixPD (ws' := [k_I E a_shareX 8 c_shareX, k_I E a_shareY 8 c_shareY, k_I E a_askedRow 8 c_askedRow, k_X8 a_ c_thrown a_tape c_taped c_at c_part c_partFrom c_partNumber c_wrong c_partWord c_readLaw c_readBound c_readGoal c_readSites a_readPlace a_script a_scriptLong c_scripts a_now a_refused c_sites a_shareX a_shareY c_asked c_outcome a_askedRow r_20 a_kept c_acts c_drawn a_aside c_racer c_raced a_spelled c_spelledMany a_image c_hasImage, k_I E a_now 265 w_21]) hP hD rfl
    clear hP hD
    obtain ⟨hP, hD⟩ := h9
    refine lv_aload_n hx hb (dq_42 96 bcX8_doIt_2 (j := 14) rfl rfl) rfl (lv_at hl 0 rfl) ?_
    refine gt_X8_25 (v := .int r_20) hx hb hts i_f_X8_doIt_X8 hown hK hP 3 rfl (hts (.fieldLink RX8 316 "HushWatchModel" "took" "I") (List.mem_of_getElem? (i := 1) rfl)) rfl (dq_180 96 bcX8_doIt_2 (j := 15) (i := 316) rfl rfl rfl) ?_
    rw [hQ]
    have h9 := fin9 (P := fun u9 : Int32 × (Nat → Int32) × (Nat → Int32) × (Nat → Int32) × Int32 × Int32 × (Nat → Int32) × Int32 => r_20 = u9.1 ∧ va_P E.1 vwCl (w_X8_doIt E a_ a_tape a_readPlace a_script a_scriptLong a_now a_refused a_shareX a_shareY a_askedRow a_kept a_aside a_spelled a_image c_thrown c_taped c_at c_part c_partFrom c_partNumber c_wrong c_partWord c_readLaw c_readBound c_readGoal c_readSites c_scripts c_sites u9.2.2.2.2.1 u9.2.2.2.2.2.1 u9.2.2.2.2.2.2.2 c_acts c_drawn c_racer c_raced c_spelledMany c_hasImage u9.2.1 u9.2.2.1 u9.2.2.2.1 u9.2.2.2.2.2.2.1) H ∧ va_D A (w_X8_doIt E a_ a_tape a_readPlace a_script a_scriptLong a_now a_refused a_shareX a_shareY a_askedRow a_kept a_aside a_spelled a_image c_thrown c_taped c_at c_part c_partFrom c_partNumber c_wrong c_partWord c_readLaw c_readBound c_readGoal c_readSites c_scripts c_sites u9.2.2.2.2.1 u9.2.2.2.2.2.1 u9.2.2.2.2.2.2.2 c_acts c_drawn c_racer c_raced c_spelledMany c_hasImage u9.2.1 u9.2.2.1 u9.2.2.2.1 u9.2.2.2.2.2.2.1)) hF ⟨rfl, hP.sub [3, 4, 0, 1, 2] rfl, hD.sub [3, 4, 0, 1, 2] (by decide) rfl⟩
    obtain ⟨e9_0, hP9, hD9⟩ := h9
    exact W.iret (v := r_20) hx hb hr (fun tt ht hW => ⟨⟨_, (), rfl, e9_0, ht ▸ hP9, hD9⟩, hS.F ht⟩) hS.2.2 (dq_172 96 bcX8_doIt_2 (j := 18) rfl rfl)
  replace hF := inn c_1_4 hF
  rcases Classical.em (p1 = (5 : Int32)) with c_1_5 | c_1_5
  ·
    replace hF := ip c_1_5 hF
    refine lv_tableIn (off := 139) (tgt := 145) hx hb dX8_doIt_6 (by rw [c_1_5]; decide) (by rw [c_1_5]; decide) (by rw [c_1_5]; decide) (by decide) ?_
    refine lv_aload_n hx hb (dq_42 144 bcX8_doIt_3 (j := 1) rfl rfl) rfl (lv_at hl 0 rfl) ?_
    refine lv_iload_n hx hb (dq_28 144 bcX8_doIt_3 (j := 2) rfl rfl) rfl (lv_at hl 2 rfl) ?_
    replace hF := bd2_s hF
    obtain ⟨r_23, w_24, hc_25, hF⟩ := hF
    obtain ⟨hPc, hDc, hFc⟩ := wcut (wc := (w_X8_setsGoal E a_ a_tape a_readPlace a_script a_scriptLong a_now a_refused a_shareX a_shareY a_askedRow a_kept a_aside a_spelled a_image c_thrown c_taped c_at c_part c_partFrom c_partNumber c_wrong c_partWord c_readLaw c_readBound c_readGoal c_readSites c_scripts c_sites c_asked c_outcome (0 : Int32) c_acts c_drawn c_racer c_raced c_spelledMany c_hasImage c_now)) hP hD hS hA [0, 1] (by decide) rfl
    have hrc := va_recv hK hPc (ci := 9) (q0 := 0) rfl rfl
    refine cE_i (wc := (w_X8_setsGoal E a_ a_tape a_readPlace a_script a_scriptLong a_now a_refused a_shareX a_shareY a_askedRow a_kept a_aside a_spelled a_image c_thrown c_taped c_at c_part c_partFrom c_partNumber c_wrong c_partWord c_readLaw c_readBound c_readGoal c_readSites c_scripts c_sites c_asked c_outcome (0 : Int32) c_acts c_drawn c_racer c_raced c_spelledMany c_hasImage c_now)) (wr := [k_I E a_shareX 8 c_shareX, k_I E a_shareY 8 c_shareY, k_I E a_askedRow 8 c_askedRow]) (w1 := (w_X8_setsGoal E a_ a_tape a_readPlace a_script a_scriptLong a_now a_refused a_shareX a_shareY a_askedRow a_kept a_aside a_spelled a_image c_thrown c_taped c_at c_part c_partFrom c_partNumber c_wrong c_partWord c_readLaw c_readBound c_readGoal c_readSites c_scripts c_sites c_asked c_outcome (0 : Int32) c_acts c_drawn c_racer c_raced c_spelledMany c_hasImage w_24)) (va_runV (As := [.int p2]) (rest := [])  ⟨hx, hb, hml, hown, hts⟩ (f_X8_setsGoal l E H.size K (a_ := a_) (a_tape := a_tape) (a_readPlace := a_readPlace) (a_script := a_script) (a_scriptLong := a_scriptLong) (a_now := a_now) (a_refused := a_refused) (a_shareX := a_shareX) (a_shareY := a_shareY) (a_askedRow := a_askedRow) (a_kept := a_kept) (a_aside := a_aside) (a_spelled := a_spelled) (a_image := a_image) (p1 := p2) (c_thrown := c_thrown) (c_taped := c_taped) (c_at := c_at) (c_part := c_part) (c_partFrom := c_partFrom) (c_partNumber := c_partNumber) (c_wrong := c_wrong) (c_partWord := c_partWord) (c_readLaw := c_readLaw) (c_readBound := c_readBound) (c_readGoal := c_readGoal) (c_readSites := c_readSites) (c_scripts := c_scripts) (c_sites := c_sites) (c_asked := c_asked) (c_outcome := c_outcome) (c_took := (0 : Int32)) (c_acts := c_acts) (c_drawn := c_drawn) (c_racer := c_racer) (c_raced := c_raced) (c_spelledMany := c_spelledMany) (c_hasImage := c_hasImage) (c_now := c_now) hc_25) (cwV 1 hts g_f_X8_doIt_f_X8_setsGoal_328 rfl rfl rfl hd_X8_setsGoal ⟨Nat.le_of_ble_eq_true rfl, Nat.le_of_ble_eq_true rfl⟩) ⟨pW.blind, hrc, (pW.pre ⟨hK, hN⟩ hPc hDc)⟩ rfl rfl hl.1 rfl (lv_room (Nat.le_of_ble_eq_true rfl)) (dq_182 144 bcX8_doIt_3 (j := 3) (i := 328) rfl rfl rfl) ⟨Nat.le_of_ble_eq_true rfl, Nat.le_of_ble_eq_true rfl⟩) hS hFc hP hD [0, 1] [2, 3, 4] rfl rfl (by decide) (by decide) (fun H locs hP hD hS => ?_)
    have h9 := fixPD (ws' := [k_I E a_shareX 8 c_shareX, k_I E a_shareY 8 c_shareY, k_I E a_askedRow 8 c_askedRow, k_X8 a_ c_thrown a_tape c_taped c_at c_part c_partFrom c_partNumber c_wrong c_partWord c_readLaw c_readBound c_readGoal c_readSites a_readPlace a_script a_scriptLong c_scripts a_now a_refused c_sites a_shareX a_shareY c_asked c_outcome a_askedRow (0 : Int32) a_kept c_acts c_drawn a_aside c_racer c_raced a_spelled c_spelledMany a_image c_hasImage, k_I E a_now 265 w_24]) hP hD rfl
    clear hP hD
    obtain ⟨hP, hD⟩ := h9
    rw [hQ]
    have h9 := fin9 (P := fun u9 : Int32 × (Nat → Int32) × (Nat → Int32) × (Nat → Int32) × Int32 × Int32 × (Nat → Int32) × Int32 => r_23 = u9.1 ∧ va_P E.1 vwCl (w_X8_doIt E a_ a_tape a_readPlace a_script a_scriptLong a_now a_refused a_shareX a_shareY a_askedRow a_kept a_aside a_spelled a_image c_thrown c_taped c_at c_part c_partFrom c_partNumber c_wrong c_partWord c_readLaw c_readBound c_readGoal c_readSites c_scripts c_sites u9.2.2.2.2.1 u9.2.2.2.2.2.1 u9.2.2.2.2.2.2.2 c_acts c_drawn c_racer c_raced c_spelledMany c_hasImage u9.2.1 u9.2.2.1 u9.2.2.2.1 u9.2.2.2.2.2.2.1) H ∧ va_D A (w_X8_doIt E a_ a_tape a_readPlace a_script a_scriptLong a_now a_refused a_shareX a_shareY a_askedRow a_kept a_aside a_spelled a_image c_thrown c_taped c_at c_part c_partFrom c_partNumber c_wrong c_partWord c_readLaw c_readBound c_readGoal c_readSites c_scripts c_sites u9.2.2.2.2.1 u9.2.2.2.2.2.1 u9.2.2.2.2.2.2.2 c_acts c_drawn c_racer c_raced c_spelledMany c_hasImage u9.2.1 u9.2.2.1 u9.2.2.2.1 u9.2.2.2.2.2.2.1)) hF ⟨rfl, hP.sub [3, 4, 0, 1, 2] rfl, hD.sub [3, 4, 0, 1, 2] (by decide) rfl⟩
    obtain ⟨e9_0, hP9, hD9⟩ := h9
    exact W.iret (v := r_23) hx hb hr (fun tt ht hW => ⟨⟨_, (), rfl, e9_0, ht ▸ hP9, hD9⟩, hS.F ht⟩) hS.2.2 (dq_172 144 bcX8_doIt_3 (j := 6) rfl rfl)
  replace hF := inn c_1_5 hF
  rcases Classical.em (p1 = (6 : Int32)) with c_1_6 | c_1_6
  ·
    replace hF := ip c_1_6 hF
    refine lv_tableIn (off := 109) (tgt := 115) hx hb dX8_doIt_6 (by rw [c_1_6]; decide) (by rw [c_1_6]; decide) (by rw [c_1_6]; decide) (by decide) ?_
    refine lv_aload_n hx hb (dq_42 96 bcX8_doIt_2 (j := 19) rfl rfl) rfl (lv_at hl 0 rfl) ?_
    refine gt_X8_17 (v := .ref a_now) hx hb hts i_f_X8_doIt_X8 hown hK hP 0 rfl (hts (.fieldLink RX8 22 "HushWatchModel" "now" "[I") (List.mem_of_getElem? (i := 3) rfl)) rfl (dq_180 96 bcX8_doIt_2 (j := 20) (i := 22) rfl rfl rfl) ?_
    refine lv_bipush (v := 76) hx hb (dq_16 96 bcX8_doIt_2 (j := 23) (i := 76) rfl rfl rfl) (by decide) ?_
    refine lv_iload_n hx hb (dq_28 96 bcX8_doIt_2 (j := 25) rfl rfl) rfl (lv_at hl 2 rfl) ?_
    refine lv_iadd hx hb (dq_96 96 bcX8_doIt_2 (j := 26) rfl rfl) ?_
    refine lv_iconst (v := 1) hx hb (dq_4 96 bcX8_doIt_2 (j := 27) rfl rfl) (by decide) ?_
    refine lv_aload_n hx hb (dq_42 96 bcX8_doIt_2 (j := 28) rfl rfl) rfl (lv_at hl 0 rfl) ?_
    refine gt_X8_17 (v := .ref a_now) hx hb hts i_f_X8_doIt_X8 hown hK hP 0 rfl (hts (.fieldLink RX8 22 "HushWatchModel" "now" "[I") (List.mem_of_getElem? (i := 3) rfl)) rfl (dq_180 96 bcX8_doIt_2 (j := 29) (i := 22) rfl rfl rfl) ?_
    refine lv_bipush (v := 76) hx hb (dq_16 96 bcX8_doIt_2 (j := 32) (i := 76) rfl rfl rfl) (by decide) ?_
    refine lv_iload_n hx hb (dq_28 96 bcX8_doIt_2 (j := 34) rfl rfl) rfl (lv_at hl 2 rfl) ?_
    refine lv_iadd hx hb (dq_96 96 bcX8_doIt_2 (j := 35) rfl rfl) ?_
    replace hF := ix_s hF
    obtain ⟨hi_26, hF⟩ := hF
    refine va_iald hx hb hK hP 1 0 rfl rfl hi_26 (dq_46 96 bcX8_doIt_2 (j := 36) rfl rfl) ?_
    refine lv_isub hx hb (dq_100 96 bcX8_doIt_2 (j := 37) rfl rfl) ?_
    replace hF := ix_s hF
    obtain ⟨hi_27, hF⟩ := hF
    refine va_iast hx hb hK hP hD hS 1 0 rfl rfl hi_27 (dq_79 96 bcX8_doIt_2 (j := 38) rfl rfl) (fun H locs hP hD hS => ?_)
    have h9 := fixPD (ws' := [k_X8 a_ c_thrown a_tape c_taped c_at c_part c_partFrom c_partNumber c_wrong c_partWord c_readLaw c_readBound c_readGoal c_readSites a_readPlace a_script a_scriptLong c_scripts a_now a_refused c_sites a_shareX a_shareY c_asked c_outcome a_askedRow (0 : Int32) a_kept c_acts c_drawn a_aside c_racer c_raced a_spelled c_spelledMany a_image c_hasImage, k_I E a_now 265 (upd c_now ((76 : Int32) + p2).toNatClampNeg ((1 : Int32) - (c_now ((76 : Int32) + p2).toNatClampNeg))), k_I E a_shareX 8 c_shareX, k_I E a_shareY 8 c_shareY, k_I E a_askedRow 8 c_askedRow]) hP hD rfl
    clear hP hD
    obtain ⟨hP, hD⟩ := h9
    replace hF := nm_s hF
    obtain ⟨f_28, hf_28, hF⟩ := hF
    rw [← hf_28] at hP hD
    refine lv_aload_n hx hb (dq_42 96 bcX8_doIt_2 (j := 39) rfl rfl) rfl (lv_at hl 0 rfl) ?_
    refine gt_X8_17 (v := .ref a_now) hx hb hts i_f_X8_doIt_X8 hown hK hP 0 rfl (hts (.fieldLink RX8 22 "HushWatchModel" "now" "[I") (List.mem_of_getElem? (i := 3) rfl)) rfl (dq_180 96 bcX8_doIt_2 (j := 40) (i := 22) rfl rfl rfl) ?_
    refine lv_bipush (v := 76) hx hb (dq_16 96 bcX8_doIt_2 (j := 43) (i := 76) rfl rfl rfl) (by decide) ?_
    refine lv_iload_n hx hb (dq_28 96 bcX8_doIt_2 (j := 45) rfl rfl) rfl (lv_at hl 2 rfl) ?_
    refine lv_iadd hx hb (dq_96 96 bcX8_doIt_2 (j := 46) rfl rfl) ?_
    replace hF := ix_s hF
    obtain ⟨hi_29, hF⟩ := hF
    refine va_iald hx hb hK hP 1 0 rfl rfl hi_29 (dq_46 96 bcX8_doIt_2 (j := 47) rfl rfl) ?_
    rw [hQ]
    have h9 := fin9 (P := fun u9 : Int32 × (Nat → Int32) × (Nat → Int32) × (Nat → Int32) × Int32 × Int32 × (Nat → Int32) × Int32 => (f_28 ((76 : Int32) + p2).toNatClampNeg) = u9.1 ∧ va_P E.1 vwCl (w_X8_doIt E a_ a_tape a_readPlace a_script a_scriptLong a_now a_refused a_shareX a_shareY a_askedRow a_kept a_aside a_spelled a_image c_thrown c_taped c_at c_part c_partFrom c_partNumber c_wrong c_partWord c_readLaw c_readBound c_readGoal c_readSites c_scripts c_sites u9.2.2.2.2.1 u9.2.2.2.2.2.1 u9.2.2.2.2.2.2.2 c_acts c_drawn c_racer c_raced c_spelledMany c_hasImage u9.2.1 u9.2.2.1 u9.2.2.2.1 u9.2.2.2.2.2.2.1) H ∧ va_D A (w_X8_doIt E a_ a_tape a_readPlace a_script a_scriptLong a_now a_refused a_shareX a_shareY a_askedRow a_kept a_aside a_spelled a_image c_thrown c_taped c_at c_part c_partFrom c_partNumber c_wrong c_partWord c_readLaw c_readBound c_readGoal c_readSites c_scripts c_sites u9.2.2.2.2.1 u9.2.2.2.2.2.1 u9.2.2.2.2.2.2.2 c_acts c_drawn c_racer c_raced c_spelledMany c_hasImage u9.2.1 u9.2.2.1 u9.2.2.2.1 u9.2.2.2.2.2.2.1)) hF ⟨rfl, hP, hD⟩
    obtain ⟨e9_0, hP9, hD9⟩ := h9
    exact W.iret (v := f_28 ((76 : Int32) + p2).toNatClampNeg) hx hb hr (fun tt ht hW => ⟨⟨_, (), rfl, e9_0, ht ▸ hP9, hD9⟩, hS.F ht⟩) hS.2.2 (dq_172 144 bcX8_doIt_3 (j := 0) rfl rfl)
  replace hF := inn c_1_6 hF
  refine lv_tableOut (tgt := 145) hx hb dX8_doIt_6 (by have t0 : (0 : Int32).toInt = 0 := (by decide); have t1 : (1 : Int32).toInt = 1 := (by decide); have t2 : (2 : Int32).toInt = 2 := (by decide); have t3 : (3 : Int32).toInt = 3 := (by decide); have t4 : (4 : Int32).toInt = 4 := (by decide); have t5 : (5 : Int32).toInt = 5 := (by decide); have t6 : (6 : Int32).toInt = 6 := (by decide); simp only [← Int32.toInt_inj, t0, t1, t2, t3, t4, t5, t6] at c_1_0 c_1_1 c_1_2 c_1_3 c_1_4 c_1_5 c_1_6; omega) (by decide) ?_
  refine lv_aload_n hx hb (dq_42 144 bcX8_doIt_3 (j := 1) rfl rfl) rfl (lv_at hl 0 rfl) ?_
  refine lv_iload_n hx hb (dq_28 144 bcX8_doIt_3 (j := 2) rfl rfl) rfl (lv_at hl 2 rfl) ?_
  replace hF := bd2_s hF
  obtain ⟨r_30, w_31, hc_32, hF⟩ := hF
  obtain ⟨hPc, hDc, hFc⟩ := wcut (wc := (w_X8_setsGoal E a_ a_tape a_readPlace a_script a_scriptLong a_now a_refused a_shareX a_shareY a_askedRow a_kept a_aside a_spelled a_image c_thrown c_taped c_at c_part c_partFrom c_partNumber c_wrong c_partWord c_readLaw c_readBound c_readGoal c_readSites c_scripts c_sites c_asked c_outcome (0 : Int32) c_acts c_drawn c_racer c_raced c_spelledMany c_hasImage c_now)) hP hD hS hA [0, 1] (by decide) rfl
  have hrc := va_recv hK hPc (ci := 9) (q0 := 0) rfl rfl
  refine cE_i (wc := (w_X8_setsGoal E a_ a_tape a_readPlace a_script a_scriptLong a_now a_refused a_shareX a_shareY a_askedRow a_kept a_aside a_spelled a_image c_thrown c_taped c_at c_part c_partFrom c_partNumber c_wrong c_partWord c_readLaw c_readBound c_readGoal c_readSites c_scripts c_sites c_asked c_outcome (0 : Int32) c_acts c_drawn c_racer c_raced c_spelledMany c_hasImage c_now)) (wr := [k_I E a_shareX 8 c_shareX, k_I E a_shareY 8 c_shareY, k_I E a_askedRow 8 c_askedRow]) (w1 := (w_X8_setsGoal E a_ a_tape a_readPlace a_script a_scriptLong a_now a_refused a_shareX a_shareY a_askedRow a_kept a_aside a_spelled a_image c_thrown c_taped c_at c_part c_partFrom c_partNumber c_wrong c_partWord c_readLaw c_readBound c_readGoal c_readSites c_scripts c_sites c_asked c_outcome (0 : Int32) c_acts c_drawn c_racer c_raced c_spelledMany c_hasImage w_31)) (va_runV (As := [.int p2]) (rest := [])  ⟨hx, hb, hml, hown, hts⟩ (f_X8_setsGoal l E H.size K (a_ := a_) (a_tape := a_tape) (a_readPlace := a_readPlace) (a_script := a_script) (a_scriptLong := a_scriptLong) (a_now := a_now) (a_refused := a_refused) (a_shareX := a_shareX) (a_shareY := a_shareY) (a_askedRow := a_askedRow) (a_kept := a_kept) (a_aside := a_aside) (a_spelled := a_spelled) (a_image := a_image) (p1 := p2) (c_thrown := c_thrown) (c_taped := c_taped) (c_at := c_at) (c_part := c_part) (c_partFrom := c_partFrom) (c_partNumber := c_partNumber) (c_wrong := c_wrong) (c_partWord := c_partWord) (c_readLaw := c_readLaw) (c_readBound := c_readBound) (c_readGoal := c_readGoal) (c_readSites := c_readSites) (c_scripts := c_scripts) (c_sites := c_sites) (c_asked := c_asked) (c_outcome := c_outcome) (c_took := (0 : Int32)) (c_acts := c_acts) (c_drawn := c_drawn) (c_racer := c_racer) (c_raced := c_raced) (c_spelledMany := c_spelledMany) (c_hasImage := c_hasImage) (c_now := c_now) hc_32) (cwV 1 hts g_f_X8_doIt_f_X8_setsGoal_328 rfl rfl rfl hd_X8_setsGoal ⟨Nat.le_of_ble_eq_true rfl, Nat.le_of_ble_eq_true rfl⟩) ⟨pW.blind, hrc, (pW.pre ⟨hK, hN⟩ hPc hDc)⟩ rfl rfl hl.1 rfl (lv_room (Nat.le_of_ble_eq_true rfl)) (dq_182 144 bcX8_doIt_3 (j := 3) (i := 328) rfl rfl rfl) ⟨Nat.le_of_ble_eq_true rfl, Nat.le_of_ble_eq_true rfl⟩) hS hFc hP hD [0, 1] [2, 3, 4] rfl rfl (by decide) (by decide) (fun H locs hP hD hS => ?_)
  have h9 := fixPD (ws' := [k_I E a_shareX 8 c_shareX, k_I E a_shareY 8 c_shareY, k_I E a_askedRow 8 c_askedRow, k_X8 a_ c_thrown a_tape c_taped c_at c_part c_partFrom c_partNumber c_wrong c_partWord c_readLaw c_readBound c_readGoal c_readSites a_readPlace a_script a_scriptLong c_scripts a_now a_refused c_sites a_shareX a_shareY c_asked c_outcome a_askedRow (0 : Int32) a_kept c_acts c_drawn a_aside c_racer c_raced a_spelled c_spelledMany a_image c_hasImage, k_I E a_now 265 w_31]) hP hD rfl
  clear hP hD
  obtain ⟨hP, hD⟩ := h9
  rw [hQ]
  have h9 := fin9 (P := fun u9 : Int32 × (Nat → Int32) × (Nat → Int32) × (Nat → Int32) × Int32 × Int32 × (Nat → Int32) × Int32 => r_30 = u9.1 ∧ va_P E.1 vwCl (w_X8_doIt E a_ a_tape a_readPlace a_script a_scriptLong a_now a_refused a_shareX a_shareY a_askedRow a_kept a_aside a_spelled a_image c_thrown c_taped c_at c_part c_partFrom c_partNumber c_wrong c_partWord c_readLaw c_readBound c_readGoal c_readSites c_scripts c_sites u9.2.2.2.2.1 u9.2.2.2.2.2.1 u9.2.2.2.2.2.2.2 c_acts c_drawn c_racer c_raced c_spelledMany c_hasImage u9.2.1 u9.2.2.1 u9.2.2.2.1 u9.2.2.2.2.2.2.1) H ∧ va_D A (w_X8_doIt E a_ a_tape a_readPlace a_script a_scriptLong a_now a_refused a_shareX a_shareY a_askedRow a_kept a_aside a_spelled a_image c_thrown c_taped c_at c_part c_partFrom c_partNumber c_wrong c_partWord c_readLaw c_readBound c_readGoal c_readSites c_scripts c_sites u9.2.2.2.2.1 u9.2.2.2.2.2.1 u9.2.2.2.2.2.2.2 c_acts c_drawn c_racer c_raced c_spelledMany c_hasImage u9.2.1 u9.2.2.1 u9.2.2.2.1 u9.2.2.2.2.2.2.1)) hF ⟨rfl, hP.sub [3, 4, 0, 1, 2] rfl, hD.sub [3, 4, 0, 1, 2] (by decide) rfl⟩
  obtain ⟨e9_0, hP9, hD9⟩ := h9
  exact W.iret (v := r_30) hx hb hr (fun tt ht hW => ⟨⟨_, (), rfl, e9_0, ht ▸ hP9, hD9⟩, hS.F ht⟩) hS.2.2 (dq_172 144 bcX8_doIt_3 (j := 6) rfl rfl)

def F_X8_doNow (K : Nat) (p1 : Int32) (p2 : Int32) (p3 : Int32) (p4 : Int32) (c_now : Nat → Int32) (c_sites : Int32) (c_shareX : Nat → Int32) (c_shareY : Nat → Int32) (c_asked : Int32) (c_outcome : Int32) (c_askedRow : Nat → Int32) (c_took : Int32) : Option (Int32 × (Nat → Int32) × (Nat → Int32) × (Nat → Int32) × Int32 × Int32 × (Nat → Int32) × Int32) :=
  bd8 (F_X8_doIt K p1 p2 p3 p4 c_now c_sites c_shareX c_shareY c_asked c_outcome c_askedRow c_took) (fun r_1 w_2 w_3 w_4 w_5 w_6 w_7 w_8 => nmF (upd w_2 67 ((w_2 67) + w_8)) (fun f_10 => some (r_1, f_10, w_3, w_4, w_5, w_6, w_7, w_8)))
abbrev w_X8_doNow (E : EE) (a_ a_tape a_readPlace a_script a_scriptLong a_now a_refused a_shareX a_shareY a_askedRow a_kept a_aside a_spelled a_image : Nat) (c_thrown : Int32) (c_taped : Int32) (c_at : Int32) (c_part : Int32) (c_partFrom : Int32) (c_partNumber : Int32) (c_wrong : Int32) (c_partWord : Int64) (c_readLaw : Int32) (c_readBound : Int32) (c_readGoal : Int32) (c_readSites : Int32) (c_scripts : Int32) (c_sites : Int32) (c_asked : Int32) (c_outcome : Int32) (c_took : Int32) (c_acts : Int32) (c_drawn : Int64) (c_racer : Int32) (c_raced : Int32) (c_spelledMany : Int32) (c_hasImage : Int32) (c_now : Nat → Int32) (c_shareX : Nat → Int32) (c_shareY : Nat → Int32) (c_askedRow : Nat → Int32) : va_W := [k_X8 a_ c_thrown a_tape c_taped c_at c_part c_partFrom c_partNumber c_wrong c_partWord c_readLaw c_readBound c_readGoal c_readSites a_readPlace a_script a_scriptLong c_scripts a_now a_refused c_sites a_shareX a_shareY c_asked c_outcome a_askedRow c_took a_kept c_acts c_drawn a_aside c_racer c_raced a_spelled c_spelledMany a_image c_hasImage, k_I E a_now 265 c_now, k_I E a_shareX 8 c_shareX, k_I E a_shareY 8 c_shareY, k_I E a_askedRow 8 c_askedRow]
def v_f_X8_doNow : List Cond := List.cons (.code yX8_doNow cX8_doNow 6 (some .int)) (HAppend.hAppend (α := List Cond) (β := List Cond) (γ := List Cond) [.fieldLink RX8 22 "HushWatchModel" "now" "[I", .fieldLink RX8 316 "HushWatchModel" "took" "I", .methodLink RX8 331 yX8_doIt, .instanceMethod yX8_doIt, .selects RX8 yX8_doIt yX8_doIt, .initialized RX8] (HAppend.hAppend (α := List Cond) (β := List Cond) (γ := List Cond) v_f_X8_doIt (HAppend.hAppend (α := List Cond) (β := List Cond) (γ := List Cond) wsX80 [])))
theorem gw_f_X8_doNow : v_f_X8_doNow.all goodWord = true := gw_c2 (by decide +kernel) (gw_ap gw_f_X8_doIt (gw_ap gw_wsX80 gw_nil))
theorem i_f_X8_doNow_X8 : ∀ w ∈ wsX80, w ∈ v_f_X8_doNow := fun _ h => List.mem_cons_of_mem _ (List.mem_append_right _ (List.mem_append_right _ (List.mem_append_left _ h)))
theorem g_f_X8_doNow_f_X8_doIt_331 : GoodIn v_f_X8_doNow (wsV RX8 331 RX8 yX8_doIt v_f_X8_doIt) := goodIn_in gw_f_X8_doNow (in4 3 4 5 6 rfl rfl rfl rfl (fun _ h => List.mem_cons_of_mem _ (List.mem_append_right _ (List.mem_append_left _ h))))
theorem hd_X8_doNow : yX8_doNow.cls = RX8 ∧ yX8_doNow.cls ≠ "java/lang/invoke/MethodHandle" ∧ yX8_doNow.cls ≠ "java/lang/invoke/VarHandle" ∧ (parseMethodDescriptor yX8_doNow.desc).map (fun d => d.parameters.length) = some 4 := by decide +kernel
set_option maxHeartbeats 4000000 in
set_option maxRecDepth 100000 in
theorem f_X8_doNow (l : Launch) (E : EE) (sz : Nat) (K : Nat) {a_ a_tape a_readPlace a_script a_scriptLong a_now a_refused a_shareX a_shareY a_askedRow a_kept a_aside a_spelled a_image : Nat} {p1 : Int32} {p2 : Int32} {p3 : Int32} {p4 : Int32} {c_thrown : Int32} {c_taped : Int32} {c_at : Int32} {c_part : Int32} {c_partFrom : Int32} {c_partNumber : Int32} {c_wrong : Int32} {c_partWord : Int64} {c_readLaw : Int32} {c_readBound : Int32} {c_readGoal : Int32} {c_readSites : Int32} {c_scripts : Int32} {c_sites : Int32} {c_asked : Int32} {c_outcome : Int32} {c_took : Int32} {c_acts : Int32} {c_drawn : Int64} {c_racer : Int32} {c_raced : Int32} {c_spelledMany : Int32} {c_hasImage : Int32} {c_now : Nat → Int32} {c_shareX : Nat → Int32} {c_shareY : Nat → Int32} {c_askedRow : Nat → Int32} {rr : Int32} {n_now : Nat → Int32} {n_shareX : Nat → Int32} {n_shareY : Nat → Int32} {n_asked : Int32} {n_outcome : Int32} {n_askedRow : Nat → Int32} {n_took : Int32} (hF : F_X8_doNow K p1 p2 p3 p4 c_now c_sites c_shareX c_shareY c_asked c_outcome c_askedRow c_took = some (rr, n_now, n_shareX, n_shareY, n_asked, n_outcome, n_askedRow, n_took)) : Met l yX8_doNow v_f_X8_doNow (({ frames := 7, cells := 0, slots := 0, locals := 165 } : Room)) (va_Pc [.ref a_, .int p1, .int p2, .int p3, .int p4] (pW E sz (w_X8_doNow E a_ a_tape a_readPlace a_script a_scriptLong a_now a_refused a_shareX a_shareY a_askedRow a_kept a_aside a_spelled a_image c_thrown c_taped c_at c_part c_partFrom c_partNumber c_wrong c_partWord c_readLaw c_readBound c_readGoal c_readSites c_scripts c_sites c_asked c_outcome c_took c_acts c_drawn c_racer c_raced c_spelledMany c_hasImage c_now c_shareX c_shareY c_askedRow))) (va_Qi (fun (q : Int32) (_u : Unit) => q = rr) (fun (_u : Unit) tt => va_P E.1 vwCl (w_X8_doNow E a_ a_tape a_readPlace a_script a_scriptLong a_now a_refused a_shareX a_shareY a_askedRow a_kept a_aside a_spelled a_image c_thrown c_taped c_at c_part c_partFrom c_partNumber c_wrong c_partWord c_readLaw c_readBound c_readGoal c_readSites c_scripts c_sites n_asked n_outcome n_took c_acts c_drawn c_racer c_raced c_spelledMany c_hasImage n_now n_shareX n_shareY n_askedRow) tt.heap ∧ va_D (va_A (w_X8_doNow E a_ a_tape a_readPlace a_script a_scriptLong a_now a_refused a_shareX a_shareY a_askedRow a_kept a_aside a_spelled a_image c_thrown c_taped c_at c_part c_partFrom c_partNumber c_wrong c_partWord c_readLaw c_readBound c_readGoal c_readSites c_scripts c_sites c_asked c_outcome c_took c_acts c_drawn c_racer c_raced c_spelledMany c_hasImage c_now c_shareX c_shareY c_askedRow) sz) (w_X8_doNow E a_ a_tape a_readPlace a_script a_scriptLong a_now a_refused a_shareX a_shareY a_askedRow a_kept a_aside a_spelled a_image c_thrown c_taped c_at c_part c_partFrom c_partNumber c_wrong c_partWord c_readLaw c_readBound c_readGoal c_readSites c_scripts c_sites n_asked n_outcome n_took c_acts c_drawn c_racer c_raced c_spelledMany c_hasImage n_now n_shareX n_shareY n_askedRow)) (va_A (w_X8_doNow E a_ a_tape a_readPlace a_script a_scriptLong a_now a_refused a_shareX a_shareY a_askedRow a_kept a_aside a_spelled a_image c_thrown c_taped c_at c_part c_partFrom c_partNumber c_wrong c_partWord c_readLaw c_readBound c_readGoal c_readSites c_scripts c_sites c_asked c_outcome c_took c_acts c_drawn c_racer c_raced c_spelledMany c_hasImage c_now c_shareX c_shareY c_askedRow) sz)) 0 0 (va_A (w_X8_doNow E a_ a_tape a_readPlace a_script a_scriptLong a_now a_refused a_shareX a_shareY a_askedRow a_kept a_aside a_spelled a_image c_thrown c_taped c_at c_part c_partFrom c_partNumber c_wrong c_partWord c_readLaw c_readBound c_readGoal c_readSites c_scripts c_sites c_asked c_outcome c_took c_acts c_drawn c_racer c_raced c_spelledMany c_hasImage c_now c_shareX c_shareY c_askedRow) sz) := by
  refine Met.ofW (cc := cX8_doNow) (maxL := 6) (ret := (some .int)) (by decide) rfl ?_
  intro p e s m args below meth c s₁ B hml hv
  obtain ⟨rfl, hsz, ⟨hK, hN⟩, hP, hD0⟩ := hv
  have hx := B.exec
  have hb := B.bytes
  have hr := B.returns
  have hts := atoms_spec (ws := v_f_X8_doNow) B.pre
  have hown : s.vm.findClass RX8 = some m.cls := own_of hd_X8_doNow.1 (findClass_of_methodNamed B.named)
  have hlocks : meth.locks = false := B.notSynchronized
  subst hsz
  have hD := hD0.self (sz := s.heap.size)
  generalize hAe : va_A (w_X8_doNow E a_ a_tape a_readPlace a_script a_scriptLong a_now a_refused a_shareX a_shareY a_askedRow a_kept a_aside a_spelled a_image c_thrown c_taped c_at c_part c_partFrom c_partNumber c_wrong c_partWord c_readLaw c_readBound c_readGoal c_readSites c_scripts c_sites c_asked c_outcome c_took c_acts c_drawn c_racer c_raced c_spelledMany c_hasImage c_now c_shareX c_shareY c_askedRow) s.heap.size = A at hD ⊢
  have hA : ∀ q : Nat, s.heap.size ≤ q → A q := fun q h => by rw [← hAe]; exact Or.inr h
  have hS : va_S A s.heap s.heap [] := va_S.rf
  have hl := lv_entry ([.ref a_, .int p1, .int p2, .int p3, .int p4]) (n := 6) (Nat.le_of_ble_eq_true rfl)
  rw [lg_entry_eq]
  generalize (lg_sl ([.ref a_, .int p1, .int p2, .int p3, .int p4]) ++ List.replicate (6 - (lg_sl ([.ref a_, .int p1, .int p2, .int p3, .int p4])).length) Slot.unset).toArray = ls at hl ⊢
  have hl : lv_has ls 6 [(0, .ref a_), (1, .int p1), (2, .int p2), (3, .int p3), (4, .int p4)] := hl
  obtain ⟨Q, hQ⟩ : ∃ Q : State → Prop, Q = MQ below (va_Qi (fun (q : Int32) (_u : Unit) => q = rr) (fun (_u : Unit) tt => va_P E.1 vwCl (w_X8_doNow E a_ a_tape a_readPlace a_script a_scriptLong a_now a_refused a_shareX a_shareY a_askedRow a_kept a_aside a_spelled a_image c_thrown c_taped c_at c_part c_partFrom c_partNumber c_wrong c_partWord c_readLaw c_readBound c_readGoal c_readSites c_scripts c_sites n_asked n_outcome n_took c_acts c_drawn c_racer c_raced c_spelledMany c_hasImage n_now n_shareX n_shareY n_askedRow) tt.heap ∧ va_D A (w_X8_doNow E a_ a_tape a_readPlace a_script a_scriptLong a_now a_refused a_shareX a_shareY a_askedRow a_kept a_aside a_spelled a_image c_thrown c_taped c_at c_part c_partFrom c_partNumber c_wrong c_partWord c_readLaw c_readBound c_readGoal c_readSites c_scripts c_sites n_asked n_outcome n_took c_acts c_drawn c_racer c_raced c_spelledMany c_hasImage n_now n_shareX n_shareY n_askedRow)) A) #[Value.ref a_, Value.int p1, Value.int p2, Value.int p3, Value.int p4] s 0 0 A := ⟨_, rfl⟩
  rw [← hQ]
  change W p l e ({ frames := 7, cells := 0, slots := 0, locals := 165 } : Room) s m #[Value.ref a_, Value.int p1, Value.int p2, Value.int p3, Value.int p4] below meth c s.heap [] 0 0 Q (F0 m 0 ls [])
  suffices hh9 : ∀ (H : Heap) (locs : List Loc), va_P E.1 vwCl (w_X8_doNow E a_ a_tape a_readPlace a_script a_scriptLong a_now a_refused a_shareX a_shareY a_askedRow a_kept a_aside a_spelled a_image c_thrown c_taped c_at c_part c_partFrom c_partNumber c_wrong c_partWord c_readLaw c_readBound c_readGoal c_readSites c_scripts c_sites c_asked c_outcome c_took c_acts c_drawn c_racer c_raced c_spelledMany c_hasImage c_now c_shareX c_shareY c_askedRow) H → va_D A (w_X8_doNow E a_ a_tape a_readPlace a_script a_scriptLong a_now a_refused a_shareX a_shareY a_askedRow a_kept a_aside a_spelled a_image c_thrown c_taped c_at c_part c_partFrom c_partNumber c_wrong c_partWord c_readLaw c_readBound c_readGoal c_readSites c_scripts c_sites c_asked c_outcome c_took c_acts c_drawn c_racer c_raced c_spelledMany c_hasImage c_now c_shareX c_shareY c_askedRow) → va_S A s.heap H locs → W p l e ({ frames := 7, cells := 0, slots := 0, locals := 165 } : Room) s m #[Value.ref a_, Value.int p1, Value.int p2, Value.int p3, Value.int p4] below meth c H locs 0 0 Q (F0 m 0 ls []) from hh9 s.heap [] hP hD hS
  clear hP hD hS
  intro H locs hP hD hS
  have h9 := fixPD (ws' := [k_X8 a_ c_thrown a_tape c_taped c_at c_part c_partFrom c_partNumber c_wrong c_partWord c_readLaw c_readBound c_readGoal c_readSites a_readPlace a_script a_scriptLong c_scripts a_now a_refused c_sites a_shareX a_shareY c_asked c_outcome a_askedRow c_took a_kept c_acts c_drawn a_aside c_racer c_raced a_spelled c_spelledMany a_image c_hasImage, k_I E a_now 265 c_now, k_I E a_shareX 8 c_shareX, k_I E a_shareY 8 c_shareY, k_I E a_askedRow 8 c_askedRow]) hP hD rfl
  clear hP hD
  obtain ⟨hP, hD⟩ := h9
  unfold F_X8_doNow at hF
  refine lv_aload_n hx hb (dq_42 0 bcX8_doNow_0 (j := 0) rfl rfl) rfl (lv_at hl 0 rfl) ?_
  refine lv_iload_n hx hb (dq_27 0 bcX8_doNow_0 (j := 1) rfl rfl) rfl (lv_at hl 1 rfl) ?_
  refine lv_iload_n hx hb (dq_28 0 bcX8_doNow_0 (j := 2) rfl rfl) rfl (lv_at hl 2 rfl) ?_
  refine lv_iload_n hx hb (dq_29 0 bcX8_doNow_0 (j := 3) rfl rfl) rfl (lv_at hl 3 rfl) ?_
  refine lv_iload hx hb (dq_21 0 bcX8_doNow_0 (j := 4) (i := 4) rfl rfl) (lv_at hl 4 rfl) ?_
  replace hF := bd8_s hF
  obtain ⟨r_1, w_2, w_3, w_4, w_5, w_6, w_7, w_8, hc_9, hF⟩ := hF
  obtain ⟨hPc, hDc, hFc⟩ := wcut (wc := (w_X8_doIt E a_ a_tape a_readPlace a_script a_scriptLong a_now a_refused a_shareX a_shareY a_askedRow a_kept a_aside a_spelled a_image c_thrown c_taped c_at c_part c_partFrom c_partNumber c_wrong c_partWord c_readLaw c_readBound c_readGoal c_readSites c_scripts c_sites c_asked c_outcome c_took c_acts c_drawn c_racer c_raced c_spelledMany c_hasImage c_now c_shareX c_shareY c_askedRow)) hP hD hS hA [0, 1, 2, 3, 4] (by decide) rfl
  have hrc := va_recv hK hPc (ci := 9) (q0 := 0) rfl rfl
  refine cE_i (wc := (w_X8_doIt E a_ a_tape a_readPlace a_script a_scriptLong a_now a_refused a_shareX a_shareY a_askedRow a_kept a_aside a_spelled a_image c_thrown c_taped c_at c_part c_partFrom c_partNumber c_wrong c_partWord c_readLaw c_readBound c_readGoal c_readSites c_scripts c_sites c_asked c_outcome c_took c_acts c_drawn c_racer c_raced c_spelledMany c_hasImage c_now c_shareX c_shareY c_askedRow)) (wr := []) (w1 := (w_X8_doIt E a_ a_tape a_readPlace a_script a_scriptLong a_now a_refused a_shareX a_shareY a_askedRow a_kept a_aside a_spelled a_image c_thrown c_taped c_at c_part c_partFrom c_partNumber c_wrong c_partWord c_readLaw c_readBound c_readGoal c_readSites c_scripts c_sites w_5 w_6 w_8 c_acts c_drawn c_racer c_raced c_spelledMany c_hasImage w_2 w_3 w_4 w_7)) (va_runV (As := [.int p1, .int p2, .int p3, .int p4]) (rest := [])  ⟨hx, hb, hml, hown, hts⟩ (f_X8_doIt l E H.size K (a_ := a_) (a_tape := a_tape) (a_readPlace := a_readPlace) (a_script := a_script) (a_scriptLong := a_scriptLong) (a_now := a_now) (a_refused := a_refused) (a_shareX := a_shareX) (a_shareY := a_shareY) (a_askedRow := a_askedRow) (a_kept := a_kept) (a_aside := a_aside) (a_spelled := a_spelled) (a_image := a_image) (p1 := p1) (p2 := p2) (p3 := p3) (p4 := p4) (c_thrown := c_thrown) (c_taped := c_taped) (c_at := c_at) (c_part := c_part) (c_partFrom := c_partFrom) (c_partNumber := c_partNumber) (c_wrong := c_wrong) (c_partWord := c_partWord) (c_readLaw := c_readLaw) (c_readBound := c_readBound) (c_readGoal := c_readGoal) (c_readSites := c_readSites) (c_scripts := c_scripts) (c_sites := c_sites) (c_asked := c_asked) (c_outcome := c_outcome) (c_took := c_took) (c_acts := c_acts) (c_drawn := c_drawn) (c_racer := c_racer) (c_raced := c_raced) (c_spelledMany := c_spelledMany) (c_hasImage := c_hasImage) (c_now := c_now) (c_shareX := c_shareX) (c_shareY := c_shareY) (c_askedRow := c_askedRow) hc_9) (cwV 4 hts g_f_X8_doNow_f_X8_doIt_331 rfl rfl rfl hd_X8_doIt ⟨Nat.le_of_ble_eq_true rfl, Nat.le_of_ble_eq_true rfl⟩) ⟨pW.blind, hrc, (pW.pre ⟨hK, hN⟩ hPc hDc)⟩ rfl rfl hl.1 rfl (lv_room (Nat.le_of_ble_eq_true rfl)) (dq_182 0 bcX8_doNow_0 (j := 6) (i := 331) rfl rfl rfl) ⟨Nat.le_of_ble_eq_true rfl, Nat.le_of_ble_eq_true rfl⟩) hS hFc hP hD [0, 1, 2, 3, 4] [] rfl rfl (by decide) (by decide) (fun H locs hP hD hS => ?_)
  have h9 := fixPD (ws' := [k_X8 a_ c_thrown a_tape c_taped c_at c_part c_partFrom c_partNumber c_wrong c_partWord c_readLaw c_readBound c_readGoal c_readSites a_readPlace a_script a_scriptLong c_scripts a_now a_refused c_sites a_shareX a_shareY w_5 w_6 a_askedRow w_8 a_kept c_acts c_drawn a_aside c_racer c_raced a_spelled c_spelledMany a_image c_hasImage, k_I E a_now 265 w_2, k_I E a_shareX 8 w_3, k_I E a_shareY 8 w_4, k_I E a_askedRow 8 w_7]) hP hD rfl
  clear hP hD
  obtain ⟨hP, hD⟩ := h9
  refine lv_istore (lv' := [(5, .int r_1), (0, .ref a_), (1, .int p1), (2, .int p2), (3, .int p3), (4, .int p4)]) hx hb (dq_54 0 bcX8_doNow_0 (j := 9) (i := 5) rfl rfl) hl (by decide) rfl (fun ls hl => ?_)
  refine lv_aload_n hx hb (dq_42 0 bcX8_doNow_0 (j := 11) rfl rfl) rfl (lv_at hl 1 rfl) ?_
  refine gt_X8_17 (v := .ref a_now) hx hb hts i_f_X8_doNow_X8 hown hK hP 0 rfl (hts (.fieldLink RX8 22 "HushWatchModel" "now" "[I") (List.mem_of_getElem? (i := 1) rfl)) rfl (dq_180 0 bcX8_doNow_0 (j := 12) (i := 22) rfl rfl rfl) ?_
  refine lv_bipush (v := 67) hx hb (dq_16 0 bcX8_doNow_0 (j := 15) (i := 67) rfl rfl rfl) (by decide) ?_
  refine lv_dup2_11 hx hb (dq_92 0 bcX8_doNow_0 (j := 17) rfl rfl) rfl rfl ?_
  refine va_iald hx hb hK hP 1 0 rfl rfl (vin rfl) (dq_46 0 bcX8_doNow_0 (j := 18) rfl rfl) ?_
  refine W.eq (g2 := F0 m 19 ls [.int (w_2 67), .int (67 : Int32), .ref a_now]) rfl ?_
  refine lv_aload_n hx hb (dq_42 0 bcX8_doNow_0 (j := 19) rfl rfl) rfl (lv_at hl 1 rfl) ?_
  refine gt_X8_25 (v := .int w_8) hx hb hts i_f_X8_doNow_X8 hown hK hP 0 rfl (hts (.fieldLink RX8 316 "HushWatchModel" "took" "I") (List.mem_of_getElem? (i := 2) rfl)) rfl (dq_180 0 bcX8_doNow_0 (j := 20) (i := 316) rfl rfl rfl) ?_
  refine lv_iadd hx hb (dq_96 0 bcX8_doNow_0 (j := 23) rfl rfl) ?_
  refine va_iast hx hb hK hP hD hS 1 0 rfl rfl (vin rfl) (dq_79 0 bcX8_doNow_0 (j := 24) rfl rfl) (fun H locs hP hD hS => ?_)
  have h9 := fixPD (ws' := [k_X8 a_ c_thrown a_tape c_taped c_at c_part c_partFrom c_partNumber c_wrong c_partWord c_readLaw c_readBound c_readGoal c_readSites a_readPlace a_script a_scriptLong c_scripts a_now a_refused c_sites a_shareX a_shareY w_5 w_6 a_askedRow w_8 a_kept c_acts c_drawn a_aside c_racer c_raced a_spelled c_spelledMany a_image c_hasImage, k_I E a_now 265 (upd w_2 67 ((w_2 67) + w_8)), k_I E a_shareX 8 w_3, k_I E a_shareY 8 w_4, k_I E a_askedRow 8 w_7]) hP hD rfl
  clear hP hD
  obtain ⟨hP, hD⟩ := h9
  replace hF := nm_s hF
  obtain ⟨f_10, hf_10, hF⟩ := hF
  rw [← hf_10] at hP hD
  refine lv_iload hx hb (dq_21 0 bcX8_doNow_0 (j := 25) (i := 5) rfl rfl) (lv_at hl 0 rfl) ?_
  rw [hQ]
  have h9 := fin9 (P := fun u9 : Int32 × (Nat → Int32) × (Nat → Int32) × (Nat → Int32) × Int32 × Int32 × (Nat → Int32) × Int32 => r_1 = u9.1 ∧ va_P E.1 vwCl (w_X8_doNow E a_ a_tape a_readPlace a_script a_scriptLong a_now a_refused a_shareX a_shareY a_askedRow a_kept a_aside a_spelled a_image c_thrown c_taped c_at c_part c_partFrom c_partNumber c_wrong c_partWord c_readLaw c_readBound c_readGoal c_readSites c_scripts c_sites u9.2.2.2.2.1 u9.2.2.2.2.2.1 u9.2.2.2.2.2.2.2 c_acts c_drawn c_racer c_raced c_spelledMany c_hasImage u9.2.1 u9.2.2.1 u9.2.2.2.1 u9.2.2.2.2.2.2.1) H ∧ va_D A (w_X8_doNow E a_ a_tape a_readPlace a_script a_scriptLong a_now a_refused a_shareX a_shareY a_askedRow a_kept a_aside a_spelled a_image c_thrown c_taped c_at c_part c_partFrom c_partNumber c_wrong c_partWord c_readLaw c_readBound c_readGoal c_readSites c_scripts c_sites u9.2.2.2.2.1 u9.2.2.2.2.2.1 u9.2.2.2.2.2.2.2 c_acts c_drawn c_racer c_raced c_spelledMany c_hasImage u9.2.1 u9.2.2.1 u9.2.2.2.1 u9.2.2.2.2.2.2.1)) hF ⟨rfl, hP, hD⟩
  obtain ⟨e9_0, hP9, hD9⟩ := h9
  exact W.iret (v := r_1) hx hb hr (fun tt ht hW => ⟨⟨_, (), rfl, e9_0, ht ▸ hP9, hD9⟩, hS.F ht⟩) hS.2.2 (dq_172 0 bcX8_doNow_0 (j := 27) rfl rfl)

def J_X8_note_58 (p1 : Int32) (p2 : Int32) (c_took : Int32) (c_now : Nat → Int32) : Option ((Nat → Int32)) :=
  ixF ((85 : Int32) + ((3 : Int32) * (c_now 84))) 265 (nmF (upd c_now ((85 : Int32) + ((3 : Int32) * (c_now 84))).toNatClampNeg p1) (fun f_3 => ixF (((85 : Int32) + ((3 : Int32) * (c_now 84))) + (1 : Int32)) 265 (nmF (upd f_3 (((85 : Int32) + ((3 : Int32) * (c_now 84))) + (1 : Int32)).toNatClampNeg p2) (fun f_5 => ixF (((85 : Int32) + ((3 : Int32) * (c_now 84))) + (2 : Int32)) 265 (nmF (upd f_5 (((85 : Int32) + ((3 : Int32) * (c_now 84))) + (2 : Int32)).toNatClampNeg c_took) (fun f_7 => nmF (upd f_7 84 ((f_7 84) + (1 : Int32))) (fun f_8 => some f_8)))))))
def B_X8_note_14 (x3 : Int32) (c_now : Nat → Int32) : Option ((Int32 × (Nat → Int32)) ⊕ ((Nat → Int32))) :=
  if (180 : Int32) ≤ x3 then some (.inr c_now) else ixF ((85 : Int32) + x3) 265 (ixF (((85 : Int32) + x3) - (3 : Int32)) 265 (nmF (upd c_now (((85 : Int32) + x3) - (3 : Int32)).toNatClampNeg (c_now ((85 : Int32) + x3).toNatClampNeg)) (fun f_12 => some (.inl (x3 + (1 : Int32), f_12)))))
def F_X8_note (K : Nat) (p1 : Int32) (p2 : Int32) (c_now : Nat → Int32) (c_took : Int32) : Option ((Nat → Int32)) :=
  if c_now 84 = (60 : Int32) then bd1 (lpF (fun u9 : Int32 × (Nat → Int32) => B_X8_note_14  u9.1 u9.2) K ((3 : Int32), c_now)) (fun c_now_13 => nmF (upd c_now_13 84 ((c_now_13 84) - (1 : Int32))) (fun f_15 => J_X8_note_58 p1 p2 c_took f_15)) else J_X8_note_58 p1 p2 c_took c_now
abbrev w_X8_note (E : EE) (a_ a_tape a_readPlace a_script a_scriptLong a_now a_refused a_shareX a_shareY a_askedRow a_kept a_aside a_spelled a_image : Nat) (c_thrown : Int32) (c_taped : Int32) (c_at : Int32) (c_part : Int32) (c_partFrom : Int32) (c_partNumber : Int32) (c_wrong : Int32) (c_partWord : Int64) (c_readLaw : Int32) (c_readBound : Int32) (c_readGoal : Int32) (c_readSites : Int32) (c_scripts : Int32) (c_sites : Int32) (c_asked : Int32) (c_outcome : Int32) (c_took : Int32) (c_acts : Int32) (c_drawn : Int64) (c_racer : Int32) (c_raced : Int32) (c_spelledMany : Int32) (c_hasImage : Int32) (c_now : Nat → Int32) : va_W := [k_X8 a_ c_thrown a_tape c_taped c_at c_part c_partFrom c_partNumber c_wrong c_partWord c_readLaw c_readBound c_readGoal c_readSites a_readPlace a_script a_scriptLong c_scripts a_now a_refused c_sites a_shareX a_shareY c_asked c_outcome a_askedRow c_took a_kept c_acts c_drawn a_aside c_racer c_raced a_spelled c_spelledMany a_image c_hasImage, k_I E a_now 265 c_now]
def v_f_X8_note : List Cond := List.cons (.code yX8_note cX8_note 4 none) (HAppend.hAppend (α := List Cond) (β := List Cond) (γ := List Cond) [.fieldLink RX8 22 "HushWatchModel" "now" "[I", .fieldLink RX8 316 "HushWatchModel" "took" "I"] (HAppend.hAppend (α := List Cond) (β := List Cond) (γ := List Cond) wsX80 []))
theorem gw_f_X8_note : v_f_X8_note.all goodWord = true := gw_c2 (by decide +kernel) (gw_ap gw_wsX80 gw_nil)
theorem i_f_X8_note_X8 : ∀ w ∈ wsX80, w ∈ v_f_X8_note := fun _ h => List.mem_cons_of_mem _ (List.mem_append_right _ (List.mem_append_left _ h))
theorem hd_X8_note : yX8_note.cls = RX8 ∧ yX8_note.cls ≠ "java/lang/invoke/MethodHandle" ∧ yX8_note.cls ≠ "java/lang/invoke/VarHandle" ∧ (parseMethodDescriptor yX8_note.desc).map (fun d => d.parameters.length) = some 2 := by decide +kernel
set_option maxHeartbeats 4000000 in
set_option maxRecDepth 100000 in
theorem j_X8_note_58 {p : Program} (l : Launch) {e : Env} {s : State} {m : MethodId} {below : List Frame} {meth : Method} {c : Code} {Q : State → Prop} (E : EE) (K : Nat) {a_ a_tape a_readPlace a_script a_scriptLong a_now a_refused a_shareX a_shareY a_askedRow a_kept a_aside a_spelled a_image : Nat} {p1 : Int32} {p2 : Int32} {c_thrown : Int32} {c_taped : Int32} {c_at : Int32} {c_part : Int32} {c_partFrom : Int32} {c_partNumber : Int32} {c_wrong : Int32} {c_partWord : Int64} {c_readLaw : Int32} {c_readBound : Int32} {c_readGoal : Int32} {c_readSites : Int32} {c_scripts : Int32} {c_sites : Int32} {c_asked : Int32} {c_outcome : Int32} {c_took : Int32} {c_acts : Int32} {c_drawn : Int64} {c_racer : Int32} {c_raced : Int32} {c_spelledMany : Int32} {c_hasImage : Int32} {c_now : Nat → Int32} (hx : p.tables.exec = Jvm.exec) (hb : c.code = cX8_note) (hml : c.maxLocals = 4) (hown : s.vm.findClass RX8 = some m.cls) (hts : ∀ w ∈ v_f_X8_note, w.before #[Value.ref a_, Value.int p1, Value.int p2] s = true) (hK : va_K E.1 vwCl (TY E) s) (hN : NX s) {A : Nat → Prop} (hA : ∀ q : Nat, s.heap.size ≤ q → A q) {n_now : Nat → Int32} (hr : meth.sig.returnType = none) (hlocks : meth.locks = false) (hQ : Q = MQ below (va_Qv (fun (_u : Unit) => True) (fun (_u : Unit) tt => va_P E.1 vwCl (w_X8_note E a_ a_tape a_readPlace a_script a_scriptLong a_now a_refused a_shareX a_shareY a_askedRow a_kept a_aside a_spelled a_image c_thrown c_taped c_at c_part c_partFrom c_partNumber c_wrong c_partWord c_readLaw c_readBound c_readGoal c_readSites c_scripts c_sites c_asked c_outcome c_took c_acts c_drawn c_racer c_raced c_spelledMany c_hasImage n_now) tt.heap ∧ va_D A (w_X8_note E a_ a_tape a_readPlace a_script a_scriptLong a_now a_refused a_shareX a_shareY a_askedRow a_kept a_aside a_spelled a_image c_thrown c_taped c_at c_part c_partFrom c_partNumber c_wrong c_partWord c_readLaw c_readBound c_readGoal c_readSites c_scripts c_sites c_asked c_outcome c_took c_acts c_drawn c_racer c_raced c_spelledMany c_hasImage n_now)) A) #[Value.ref a_, Value.int p1, Value.int p2] s 0 0 A) (hF : J_X8_note_58 p1 p2 c_took c_now = some n_now) : ∀ (H : Heap) (locs : List Loc) (ls : Array Slot), va_P E.1 vwCl (w_X8_note E a_ a_tape a_readPlace a_script a_scriptLong a_now a_refused a_shareX a_shareY a_askedRow a_kept a_aside a_spelled a_image c_thrown c_taped c_at c_part c_partFrom c_partNumber c_wrong c_partWord c_readLaw c_readBound c_readGoal c_readSites c_scripts c_sites c_asked c_outcome c_took c_acts c_drawn c_racer c_raced c_spelledMany c_hasImage c_now) H → va_D A (w_X8_note E a_ a_tape a_readPlace a_script a_scriptLong a_now a_refused a_shareX a_shareY a_askedRow a_kept a_aside a_spelled a_image c_thrown c_taped c_at c_part c_partFrom c_partNumber c_wrong c_partWord c_readLaw c_readBound c_readGoal c_readSites c_scripts c_sites c_asked c_outcome c_took c_acts c_drawn c_racer c_raced c_spelledMany c_hasImage c_now) → va_S A s.heap H locs → lv_has ls 4 [(0, .ref a_), (1, .int p1), (2, .int p2)] → W p l e ({ frames := 0, cells := 0, slots := 0, locals := 0 } : Room) s m #[Value.ref a_, Value.int p1, Value.int p2] below meth c H locs 0 0 Q (F0 m 58 ls []) := by
  unfold J_X8_note_58 at hF
  intro H locs ls hP hD hS hl
  have h9 := fixPD (ws' := [k_X8 a_ c_thrown a_tape c_taped c_at c_part c_partFrom c_partNumber c_wrong c_partWord c_readLaw c_readBound c_readGoal c_readSites a_readPlace a_script a_scriptLong c_scripts a_now a_refused c_sites a_shareX a_shareY c_asked c_outcome a_askedRow c_took a_kept c_acts c_drawn a_aside c_racer c_raced a_spelled c_spelledMany a_image c_hasImage, k_I E a_now 265 c_now]) hP hD rfl
  clear hP hD
  obtain ⟨hP, hD⟩ := h9
  refine lv_bipush (v := 85) hx hb (dq_16 48 bcX8_note_1 (j := 10) (i := 85) rfl rfl rfl) (by decide) ?_
  refine lv_iconst (v := 3) hx hb (dq_6 48 bcX8_note_1 (j := 12) rfl rfl) (by decide) ?_
  refine lv_aload_n hx hb (dq_42 48 bcX8_note_1 (j := 13) rfl rfl) rfl (lv_at hl 0 rfl) ?_
  refine gt_X8_17 (v := .ref a_now) hx hb hts i_f_X8_note_X8 hown hK hP 0 rfl (hts (.fieldLink RX8 22 "HushWatchModel" "now" "[I") (List.mem_of_getElem? (i := 1) rfl)) rfl (dq_180 48 bcX8_note_1 (j := 14) (i := 22) rfl rfl rfl) ?_
  refine lv_bipush (v := 84) hx hb (dq_16 48 bcX8_note_1 (j := 17) (i := 84) rfl rfl rfl) (by decide) ?_
  refine va_iald hx hb hK hP 1 0 rfl rfl (vin rfl) (dq_46 48 bcX8_note_1 (j := 19) rfl rfl) ?_
  refine W.eq (g2 := F0 m 68 ls [.int (c_now 84), .int (3 : Int32), .int (85 : Int32)]) rfl ?_
  refine lv_imul hx hb (dq_104 48 bcX8_note_1 (j := 20) rfl rfl) ?_
  refine lv_iadd hx hb (dq_96 48 bcX8_note_1 (j := 21) rfl rfl) ?_
  refine lv_istore_n (lv' := [(3, .int ((85 : Int32) + ((3 : Int32) * (c_now 84)))), (0, .ref a_), (1, .int p1), (2, .int p2)]) hx hb (dq_62 48 bcX8_note_1 (j := 22) rfl rfl) rfl hl (by decide) rfl (fun ls hl => ?_)
  refine lv_aload_n hx hb (dq_42 48 bcX8_note_1 (j := 23) rfl rfl) rfl (lv_at hl 1 rfl) ?_
  refine gt_X8_17 (v := .ref a_now) hx hb hts i_f_X8_note_X8 hown hK hP 0 rfl (hts (.fieldLink RX8 22 "HushWatchModel" "now" "[I") (List.mem_of_getElem? (i := 1) rfl)) rfl (dq_180 48 bcX8_note_1 (j := 24) (i := 22) rfl rfl rfl) ?_
  refine lv_iload_n hx hb (dq_29 48 bcX8_note_1 (j := 27) rfl rfl) rfl (lv_at hl 0 rfl) ?_
  refine lv_iload_n hx hb (dq_27 48 bcX8_note_1 (j := 28) rfl rfl) rfl (lv_at hl 2 rfl) ?_
  replace hF := ix_s hF
  obtain ⟨hi_2, hF⟩ := hF
  refine va_iast hx hb hK hP hD hS 1 0 rfl rfl hi_2 (dq_79 48 bcX8_note_1 (j := 29) rfl rfl) (fun H locs hP hD hS => ?_)
  have h9 := fixPD (ws' := [k_X8 a_ c_thrown a_tape c_taped c_at c_part c_partFrom c_partNumber c_wrong c_partWord c_readLaw c_readBound c_readGoal c_readSites a_readPlace a_script a_scriptLong c_scripts a_now a_refused c_sites a_shareX a_shareY c_asked c_outcome a_askedRow c_took a_kept c_acts c_drawn a_aside c_racer c_raced a_spelled c_spelledMany a_image c_hasImage, k_I E a_now 265 (upd c_now ((85 : Int32) + ((3 : Int32) * (c_now 84))).toNatClampNeg p1)]) hP hD rfl
  clear hP hD
  obtain ⟨hP, hD⟩ := h9
  replace hF := nm_s hF
  obtain ⟨f_3, hf_3, hF⟩ := hF
  rw [← hf_3] at hP hD
  refine lv_aload_n hx hb (dq_42 48 bcX8_note_1 (j := 30) rfl rfl) rfl (lv_at hl 1 rfl) ?_
  refine gt_X8_17 (v := .ref a_now) hx hb hts i_f_X8_note_X8 hown hK hP 0 rfl (hts (.fieldLink RX8 22 "HushWatchModel" "now" "[I") (List.mem_of_getElem? (i := 1) rfl)) rfl (dq_180 48 bcX8_note_1 (j := 31) (i := 22) rfl rfl rfl) ?_
  refine lv_iload_n hx hb (dq_29 48 bcX8_note_1 (j := 34) rfl rfl) rfl (lv_at hl 0 rfl) ?_
  refine lv_iconst (v := 1) hx hb (dq_4 48 bcX8_note_1 (j := 35) rfl rfl) (by decide) ?_
  refine lv_iadd hx hb (dq_96 48 bcX8_note_1 (j := 36) rfl rfl) ?_
  refine lv_iload_n hx hb (dq_28 48 bcX8_note_1 (j := 37) rfl rfl) rfl (lv_at hl 3 rfl) ?_
  replace hF := ix_s hF
  obtain ⟨hi_4, hF⟩ := hF
  refine va_iast hx hb hK hP hD hS 1 0 rfl rfl hi_4 (dq_79 48 bcX8_note_1 (j := 38) rfl rfl) (fun H locs hP hD hS => ?_)
  have h9 := fixPD (ws' := [k_X8 a_ c_thrown a_tape c_taped c_at c_part c_partFrom c_partNumber c_wrong c_partWord c_readLaw c_readBound c_readGoal c_readSites a_readPlace a_script a_scriptLong c_scripts a_now a_refused c_sites a_shareX a_shareY c_asked c_outcome a_askedRow c_took a_kept c_acts c_drawn a_aside c_racer c_raced a_spelled c_spelledMany a_image c_hasImage, k_I E a_now 265 (upd f_3 (((85 : Int32) + ((3 : Int32) * (c_now 84))) + (1 : Int32)).toNatClampNeg p2)]) hP hD rfl
  clear hP hD
  obtain ⟨hP, hD⟩ := h9
  replace hF := nm_s hF
  obtain ⟨f_5, hf_5, hF⟩ := hF
  rw [← hf_5] at hP hD
  refine lv_aload_n hx hb (dq_42 48 bcX8_note_1 (j := 39) rfl rfl) rfl (lv_at hl 1 rfl) ?_
  refine gt_X8_17 (v := .ref a_now) hx hb hts i_f_X8_note_X8 hown hK hP 0 rfl (hts (.fieldLink RX8 22 "HushWatchModel" "now" "[I") (List.mem_of_getElem? (i := 1) rfl)) rfl (dq_180 48 bcX8_note_1 (j := 40) (i := 22) rfl rfl rfl) ?_
  refine lv_iload_n hx hb (dq_29 48 bcX8_note_1 (j := 43) rfl rfl) rfl (lv_at hl 0 rfl) ?_
  refine lv_iconst (v := 2) hx hb (dq_5 48 bcX8_note_1 (j := 44) rfl rfl) (by decide) ?_
  refine lv_iadd hx hb (dq_96 48 bcX8_note_1 (j := 45) rfl rfl) ?_
  refine lv_aload_n hx hb (dq_42 48 bcX8_note_1 (j := 46) rfl rfl) rfl (lv_at hl 1 rfl) ?_
  refine gt_X8_25 (v := .int c_took) hx hb hts i_f_X8_note_X8 hown hK hP 0 rfl (hts (.fieldLink RX8 316 "HushWatchModel" "took" "I") (List.mem_of_getElem? (i := 2) rfl)) rfl (dq_180 48 bcX8_note_1 (j := 47) (i := 316) rfl rfl rfl) ?_
  replace hF := ix_s hF
  obtain ⟨hi_6, hF⟩ := hF
  refine va_iast hx hb hK hP hD hS 1 0 rfl rfl hi_6 (dq_79 96 bcX8_note_2 (j := 2) rfl rfl) (fun H locs hP hD hS => ?_)
  have h9 := fixPD (ws' := [k_X8 a_ c_thrown a_tape c_taped c_at c_part c_partFrom c_partNumber c_wrong c_partWord c_readLaw c_readBound c_readGoal c_readSites a_readPlace a_script a_scriptLong c_scripts a_now a_refused c_sites a_shareX a_shareY c_asked c_outcome a_askedRow c_took a_kept c_acts c_drawn a_aside c_racer c_raced a_spelled c_spelledMany a_image c_hasImage, k_I E a_now 265 (upd f_5 (((85 : Int32) + ((3 : Int32) * (c_now 84))) + (2 : Int32)).toNatClampNeg c_took)]) hP hD rfl
  clear hP hD
  obtain ⟨hP, hD⟩ := h9
  replace hF := nm_s hF
  obtain ⟨f_7, hf_7, hF⟩ := hF
  rw [← hf_7] at hP hD
  refine lv_aload_n hx hb (dq_42 96 bcX8_note_2 (j := 3) rfl rfl) rfl (lv_at hl 1 rfl) ?_
  refine gt_X8_17 (v := .ref a_now) hx hb hts i_f_X8_note_X8 hown hK hP 0 rfl (hts (.fieldLink RX8 22 "HushWatchModel" "now" "[I") (List.mem_of_getElem? (i := 1) rfl)) rfl (dq_180 96 bcX8_note_2 (j := 4) (i := 22) rfl rfl rfl) ?_
  refine lv_bipush (v := 84) hx hb (dq_16 96 bcX8_note_2 (j := 7) (i := 84) rfl rfl rfl) (by decide) ?_
  refine lv_dup2_11 hx hb (dq_92 96 bcX8_note_2 (j := 9) rfl rfl) rfl rfl ?_
  refine va_iald hx hb hK hP 1 0 rfl rfl (vin rfl) (dq_46 96 bcX8_note_2 (j := 10) rfl rfl) ?_
  refine W.eq (g2 := F0 m 107 ls [.int (f_7 84), .int (84 : Int32), .ref a_now]) rfl ?_
  refine lv_iconst (v := 1) hx hb (dq_4 96 bcX8_note_2 (j := 11) rfl rfl) (by decide) ?_
  refine lv_iadd hx hb (dq_96 96 bcX8_note_2 (j := 12) rfl rfl) ?_
  refine va_iast hx hb hK hP hD hS 1 0 rfl rfl (vin rfl) (dq_79 96 bcX8_note_2 (j := 13) rfl rfl) (fun H locs hP hD hS => ?_)
  have h9 := fixPD (ws' := [k_X8 a_ c_thrown a_tape c_taped c_at c_part c_partFrom c_partNumber c_wrong c_partWord c_readLaw c_readBound c_readGoal c_readSites a_readPlace a_script a_scriptLong c_scripts a_now a_refused c_sites a_shareX a_shareY c_asked c_outcome a_askedRow c_took a_kept c_acts c_drawn a_aside c_racer c_raced a_spelled c_spelledMany a_image c_hasImage, k_I E a_now 265 (upd f_7 84 ((f_7 84) + (1 : Int32)))]) hP hD rfl
  clear hP hD
  obtain ⟨hP, hD⟩ := h9
  replace hF := nm_s hF
  obtain ⟨f_8, hf_8, hF⟩ := hF
  rw [← hf_8] at hP hD
  rw [hQ]
  have h9 := fin9 (P := fun u9 : (Nat → Int32) => va_P E.1 vwCl (w_X8_note E a_ a_tape a_readPlace a_script a_scriptLong a_now a_refused a_shareX a_shareY a_askedRow a_kept a_aside a_spelled a_image c_thrown c_taped c_at c_part c_partFrom c_partNumber c_wrong c_partWord c_readLaw c_readBound c_readGoal c_readSites c_scripts c_sites c_asked c_outcome c_took c_acts c_drawn c_racer c_raced c_spelledMany c_hasImage u9) H ∧ va_D A (w_X8_note E a_ a_tape a_readPlace a_script a_scriptLong a_now a_refused a_shareX a_shareY a_askedRow a_kept a_aside a_spelled a_image c_thrown c_taped c_at c_part c_partFrom c_partNumber c_wrong c_partWord c_readLaw c_readBound c_readGoal c_readSites c_scripts c_sites c_asked c_outcome c_took c_acts c_drawn c_racer c_raced c_spelledMany c_hasImage u9)) hF ⟨hP, hD⟩
  obtain ⟨hP9, hD9⟩ := h9
  exact W.vret hx hb hr (fun tt ht hW => ⟨⟨(), rfl, trivial, ht ▸ hP9, hD9⟩, hS.F ht⟩) hS.2.2 (dq_177 96 bcX8_note_2 (j := 14) rfl rfl)

set_option maxHeartbeats 4000000 in
set_option maxRecDepth 100000 in
theorem wb_X8_note_14 {p : Program} (l : Launch) {e : Env} {s : State} {m : MethodId} {below : List Frame} {meth : Method} {c : Code} {Q : State → Prop} (E : EE) (K : Nat) {a_ a_tape a_readPlace a_script a_scriptLong a_now a_refused a_shareX a_shareY a_askedRow a_kept a_aside a_spelled a_image : Nat} {p1 : Int32} {p2 : Int32} {c_thrown : Int32} {c_taped : Int32} {c_at : Int32} {c_part : Int32} {c_partFrom : Int32} {c_partNumber : Int32} {c_wrong : Int32} {c_partWord : Int64} {c_readLaw : Int32} {c_readBound : Int32} {c_readGoal : Int32} {c_readSites : Int32} {c_scripts : Int32} {c_sites : Int32} {c_asked : Int32} {c_outcome : Int32} {c_took : Int32} {c_acts : Int32} {c_drawn : Int64} {c_racer : Int32} {c_raced : Int32} {c_spelledMany : Int32} {c_hasImage : Int32} {x3 : Int32} {c_now : Nat → Int32} (hx : p.tables.exec = Jvm.exec) (hb : c.code = cX8_note) (hml : c.maxLocals = 4) (hown : s.vm.findClass RX8 = some m.cls) (hts : ∀ w ∈ v_f_X8_note, w.before #[Value.ref a_, Value.int p1, Value.int p2] s = true) (hK : va_K E.1 vwCl (TY E) s) (hN : NX s) {A : Nat → Prop} (hA : ∀ q : Nat, s.heap.size ≤ q → A q) {xx : (Int32 × (Nat → Int32)) ⊕ ((Nat → Int32))} (hC : ∀ (x3 : Int32), ∀ (c_now : Nat → Int32), xx = .inl (x3, c_now) → ∀ (H : Heap) (locs : List Loc) (ls : Array Slot), va_P E.1 vwCl (w_X8_note E a_ a_tape a_readPlace a_script a_scriptLong a_now a_refused a_shareX a_shareY a_askedRow a_kept a_aside a_spelled a_image c_thrown c_taped c_at c_part c_partFrom c_partNumber c_wrong c_partWord c_readLaw c_readBound c_readGoal c_readSites c_scripts c_sites c_asked c_outcome c_took c_acts c_drawn c_racer c_raced c_spelledMany c_hasImage c_now) H → va_D A (w_X8_note E a_ a_tape a_readPlace a_script a_scriptLong a_now a_refused a_shareX a_shareY a_askedRow a_kept a_aside a_spelled a_image c_thrown c_taped c_at c_part c_partFrom c_partNumber c_wrong c_partWord c_readLaw c_readBound c_readGoal c_readSites c_scripts c_sites c_asked c_outcome c_took c_acts c_drawn c_racer c_raced c_spelledMany c_hasImage c_now) → va_S A s.heap H locs → lv_has ls 4 [(0, .ref a_), (1, .int p1), (2, .int p2), (3, .int x3)] → W p l e ({ frames := 0, cells := 0, slots := 0, locals := 0 } : Room) s m #[Value.ref a_, Value.int p1, Value.int p2] below meth c H locs 0 0 Q (F0 m 14 ls [])) (hE : ∀ (c_now : Nat → Int32), xx = .inr c_now → ((∀ (H : Heap) (locs : List Loc) (ls : Array Slot), va_P E.1 vwCl (w_X8_note E a_ a_tape a_readPlace a_script a_scriptLong a_now a_refused a_shareX a_shareY a_askedRow a_kept a_aside a_spelled a_image c_thrown c_taped c_at c_part c_partFrom c_partNumber c_wrong c_partWord c_readLaw c_readBound c_readGoal c_readSites c_scripts c_sites c_asked c_outcome c_took c_acts c_drawn c_racer c_raced c_spelledMany c_hasImage c_now) H → va_D A (w_X8_note E a_ a_tape a_readPlace a_script a_scriptLong a_now a_refused a_shareX a_shareY a_askedRow a_kept a_aside a_spelled a_image c_thrown c_taped c_at c_part c_partFrom c_partNumber c_wrong c_partWord c_readLaw c_readBound c_readGoal c_readSites c_scripts c_sites c_asked c_outcome c_took c_acts c_drawn c_racer c_raced c_spelledMany c_hasImage c_now) → va_S A s.heap H locs → lv_has ls 4 [(0, .ref a_), (1, .int p1), (2, .int p2)] → W p l e ({ frames := 0, cells := 0, slots := 0, locals := 0 } : Room) s m #[Value.ref a_, Value.int p1, Value.int p2] below meth c H locs 0 0 Q (F0 m 47 ls [])))) (hF : B_X8_note_14  x3 c_now = some xx) : ∀ (H : Heap) (locs : List Loc) (ls : Array Slot), va_P E.1 vwCl (w_X8_note E a_ a_tape a_readPlace a_script a_scriptLong a_now a_refused a_shareX a_shareY a_askedRow a_kept a_aside a_spelled a_image c_thrown c_taped c_at c_part c_partFrom c_partNumber c_wrong c_partWord c_readLaw c_readBound c_readGoal c_readSites c_scripts c_sites c_asked c_outcome c_took c_acts c_drawn c_racer c_raced c_spelledMany c_hasImage c_now) H → va_D A (w_X8_note E a_ a_tape a_readPlace a_script a_scriptLong a_now a_refused a_shareX a_shareY a_askedRow a_kept a_aside a_spelled a_image c_thrown c_taped c_at c_part c_partFrom c_partNumber c_wrong c_partWord c_readLaw c_readBound c_readGoal c_readSites c_scripts c_sites c_asked c_outcome c_took c_acts c_drawn c_racer c_raced c_spelledMany c_hasImage c_now) → va_S A s.heap H locs → lv_has ls 4 [(0, .ref a_), (1, .int p1), (2, .int p2), (3, .int x3)] → W p l e ({ frames := 0, cells := 0, slots := 0, locals := 0 } : Room) s m #[Value.ref a_, Value.int p1, Value.int p2] below meth c H locs 0 0 Q (F0 m 14 ls []) := by
  unfold B_X8_note_14 at hF
  intro H locs ls hP hD hS hl
  have h9 := fixPD (ws' := [k_X8 a_ c_thrown a_tape c_taped c_at c_part c_partFrom c_partNumber c_wrong c_partWord c_readLaw c_readBound c_readGoal c_readSites a_readPlace a_script a_scriptLong c_scripts a_now a_refused c_sites a_shareX a_shareY c_asked c_outcome a_askedRow c_took a_kept c_acts c_drawn a_aside c_racer c_raced a_spelled c_spelledMany a_image c_hasImage, k_I E a_now 265 c_now]) hP hD rfl
  clear hP hD
  obtain ⟨hP, hD⟩ := h9
  refine lv_iload_n hx hb (dq_29 0 bcX8_note_0 (j := 14) rfl rfl) rfl (lv_at hl 3 rfl) ?_
  refine lv_sipush (v := 180) hx hb (dq_17 0 bcX8_note_0 (j := 15) (i := 180) rfl rfl rfl) (by decide) ?_
  refine lv_icmp_ge (tgt := 47) hx hb (dq_162 0 bcX8_note_0 (j := 18) (i := 29) rfl rfl rfl) (by decide) (fun c_9 => ?_) (fun c_9 => ?_)
  ·
    replace hF := ip c_9 hF
    cases hF
    exact hE c_now rfl H locs ls (hP.sub [0, 1] rfl) (hD.sub [0, 1] (by decide) rfl) hS (lv_sub hl [0, 1, 2] rfl)
  ·
    replace hF := inn c_9 hF
    refine lv_aload_n hx hb (dq_42 0 bcX8_note_0 (j := 21) rfl rfl) rfl (lv_at hl 0 rfl) ?_
    refine gt_X8_17 (v := .ref a_now) hx hb hts i_f_X8_note_X8 hown hK hP 0 rfl (hts (.fieldLink RX8 22 "HushWatchModel" "now" "[I") (List.mem_of_getElem? (i := 1) rfl)) rfl (dq_180 0 bcX8_note_0 (j := 22) (i := 22) rfl rfl rfl) ?_
    refine lv_bipush (v := 85) hx hb (dq_16 0 bcX8_note_0 (j := 25) (i := 85) rfl rfl rfl) (by decide) ?_
    refine lv_iload_n hx hb (dq_29 0 bcX8_note_0 (j := 27) rfl rfl) rfl (lv_at hl 3 rfl) ?_
    refine lv_iadd hx hb (dq_96 0 bcX8_note_0 (j := 28) rfl rfl) ?_
    refine lv_iconst (v := 3) hx hb (dq_6 0 bcX8_note_0 (j := 29) rfl rfl) (by decide) ?_
    refine lv_isub hx hb (dq_100 0 bcX8_note_0 (j := 30) rfl rfl) ?_
    refine lv_aload_n hx hb (dq_42 0 bcX8_note_0 (j := 31) rfl rfl) rfl (lv_at hl 0 rfl) ?_
    refine gt_X8_17 (v := .ref a_now) hx hb hts i_f_X8_note_X8 hown hK hP 0 rfl (hts (.fieldLink RX8 22 "HushWatchModel" "now" "[I") (List.mem_of_getElem? (i := 1) rfl)) rfl (dq_180 0 bcX8_note_0 (j := 32) (i := 22) rfl rfl rfl) ?_
    refine lv_bipush (v := 85) hx hb (dq_16 0 bcX8_note_0 (j := 35) (i := 85) rfl rfl rfl) (by decide) ?_
    refine lv_iload_n hx hb (dq_29 0 bcX8_note_0 (j := 37) rfl rfl) rfl (lv_at hl 3 rfl) ?_
    refine lv_iadd hx hb (dq_96 0 bcX8_note_0 (j := 38) rfl rfl) ?_
    replace hF := ix_s hF
    obtain ⟨hi_10, hF⟩ := hF
    refine va_iald hx hb hK hP 1 0 rfl rfl hi_10 (dq_46 0 bcX8_note_0 (j := 39) rfl rfl) ?_
    replace hF := ix_s hF
    obtain ⟨hi_11, hF⟩ := hF
    refine va_iast hx hb hK hP hD hS 1 0 rfl rfl hi_11 (dq_79 0 bcX8_note_0 (j := 40) rfl rfl) (fun H locs hP hD hS => ?_)
    have h9 := fixPD (ws' := [k_X8 a_ c_thrown a_tape c_taped c_at c_part c_partFrom c_partNumber c_wrong c_partWord c_readLaw c_readBound c_readGoal c_readSites a_readPlace a_script a_scriptLong c_scripts a_now a_refused c_sites a_shareX a_shareY c_asked c_outcome a_askedRow c_took a_kept c_acts c_drawn a_aside c_racer c_raced a_spelled c_spelledMany a_image c_hasImage, k_I E a_now 265 (upd c_now (((85 : Int32) + x3) - (3 : Int32)).toNatClampNeg (c_now ((85 : Int32) + x3).toNatClampNeg))]) hP hD rfl
    clear hP hD
    obtain ⟨hP, hD⟩ := h9
    replace hF := nm_s hF
    obtain ⟨f_12, hf_12, hF⟩ := hF
    rw [← hf_12] at hP hD
    refine lv_iinc (v := x3 + (1 : Int32)) (lv' := [(3, .int (x3 + (1 : Int32))), (0, .ref a_), (1, .int p1), (2, .int p2)]) hx hb (dq_132 0 bcX8_note_0 (j := 41) (i := 1) rfl rfl rfl) hl (k := 3) rfl (rfl) (by decide) rfl (fun ls hl => ?_)
    refine lv_goto (tgt := 14) hx hb (dq_167 0 bcX8_note_0 (j := 44) (i := -30) rfl rfl rfl) (by decide) ?_
    cases hF
    exact hC (x3 + (1 : Int32)) f_12 rfl H locs ls (hP.sub [0, 1] rfl) (hD.sub [0, 1] (by decide) rfl) hS (lv_sub hl [1, 2, 3, 0] rfl)

set_option maxHeartbeats 4000000 in
set_option maxRecDepth 100000 in
theorem lw_X8_note_14 {p : Program} (l : Launch) {e : Env} {s : State} {m : MethodId} {below : List Frame} {meth : Method} {c : Code} {Q : State → Prop} (E : EE) (K : Nat) {a_ a_tape a_readPlace a_script a_scriptLong a_now a_refused a_shareX a_shareY a_askedRow a_kept a_aside a_spelled a_image : Nat} {p1 : Int32} {p2 : Int32} {c_thrown : Int32} {c_taped : Int32} {c_at : Int32} {c_part : Int32} {c_partFrom : Int32} {c_partNumber : Int32} {c_wrong : Int32} {c_partWord : Int64} {c_readLaw : Int32} {c_readBound : Int32} {c_readGoal : Int32} {c_readSites : Int32} {c_scripts : Int32} {c_sites : Int32} {c_asked : Int32} {c_outcome : Int32} {c_took : Int32} {c_acts : Int32} {c_drawn : Int64} {c_racer : Int32} {c_raced : Int32} {c_spelledMany : Int32} {c_hasImage : Int32} (hx : p.tables.exec = Jvm.exec) (hb : c.code = cX8_note) (hml : c.maxLocals = 4) (hown : s.vm.findClass RX8 = some m.cls) (hts : ∀ w ∈ v_f_X8_note, w.before #[Value.ref a_, Value.int p1, Value.int p2] s = true) (hK : va_K E.1 vwCl (TY E) s) (hN : NX s) {A : Nat → Prop} (hA : ∀ q : Nat, s.heap.size ≤ q → A q) (j9 : Nat) (x3 : Int32) (c_now : Nat → Int32) (c_now' : Nat → Int32) (hL : lpF (fun u9 : Int32 × (Nat → Int32) => B_X8_note_14  u9.1 u9.2) j9 (x3, c_now) = some c_now') (hX : (∀ (H : Heap) (locs : List Loc) (ls : Array Slot), va_P E.1 vwCl (w_X8_note E a_ a_tape a_readPlace a_script a_scriptLong a_now a_refused a_shareX a_shareY a_askedRow a_kept a_aside a_spelled a_image c_thrown c_taped c_at c_part c_partFrom c_partNumber c_wrong c_partWord c_readLaw c_readBound c_readGoal c_readSites c_scripts c_sites c_asked c_outcome c_took c_acts c_drawn c_racer c_raced c_spelledMany c_hasImage c_now') H → va_D A (w_X8_note E a_ a_tape a_readPlace a_script a_scriptLong a_now a_refused a_shareX a_shareY a_askedRow a_kept a_aside a_spelled a_image c_thrown c_taped c_at c_part c_partFrom c_partNumber c_wrong c_partWord c_readLaw c_readBound c_readGoal c_readSites c_scripts c_sites c_asked c_outcome c_took c_acts c_drawn c_racer c_raced c_spelledMany c_hasImage c_now') → va_S A s.heap H locs → lv_has ls 4 [(0, .ref a_), (1, .int p1), (2, .int p2)] → W p l e ({ frames := 0, cells := 0, slots := 0, locals := 0 } : Room) s m #[Value.ref a_, Value.int p1, Value.int p2] below meth c H locs 0 0 Q (F0 m 47 ls []))) : ∀ (H : Heap) (locs : List Loc) (ls : Array Slot), va_P E.1 vwCl (w_X8_note E a_ a_tape a_readPlace a_script a_scriptLong a_now a_refused a_shareX a_shareY a_askedRow a_kept a_aside a_spelled a_image c_thrown c_taped c_at c_part c_partFrom c_partNumber c_wrong c_partWord c_readLaw c_readBound c_readGoal c_readSites c_scripts c_sites c_asked c_outcome c_took c_acts c_drawn c_racer c_raced c_spelledMany c_hasImage c_now) H → va_D A (w_X8_note E a_ a_tape a_readPlace a_script a_scriptLong a_now a_refused a_shareX a_shareY a_askedRow a_kept a_aside a_spelled a_image c_thrown c_taped c_at c_part c_partFrom c_partNumber c_wrong c_partWord c_readLaw c_readBound c_readGoal c_readSites c_scripts c_sites c_asked c_outcome c_took c_acts c_drawn c_racer c_raced c_spelledMany c_hasImage c_now) → va_S A s.heap H locs → lv_has ls 4 [(0, .ref a_), (1, .int p1), (2, .int p2), (3, .int x3)] → W p l e ({ frames := 0, cells := 0, slots := 0, locals := 0 } : Room) s m #[Value.ref a_, Value.int p1, Value.int p2] below meth c H locs 0 0 Q (F0 m 14 ls []) := by
  exact lp_rule (P := (fun u9 : Int32 × (Nat → Int32) => ∀ (H : Heap) (locs : List Loc) (ls : Array Slot), va_P E.1 vwCl (w_X8_note E a_ a_tape a_readPlace a_script a_scriptLong a_now a_refused a_shareX a_shareY a_askedRow a_kept a_aside a_spelled a_image c_thrown c_taped c_at c_part c_partFrom c_partNumber c_wrong c_partWord c_readLaw c_readBound c_readGoal c_readSites c_scripts c_sites c_asked c_outcome c_took c_acts c_drawn c_racer c_raced c_spelledMany c_hasImage u9.2) H → va_D A (w_X8_note E a_ a_tape a_readPlace a_script a_scriptLong a_now a_refused a_shareX a_shareY a_askedRow a_kept a_aside a_spelled a_image c_thrown c_taped c_at c_part c_partFrom c_partNumber c_wrong c_partWord c_readLaw c_readBound c_readGoal c_readSites c_scripts c_sites c_asked c_outcome c_took c_acts c_drawn c_racer c_raced c_spelledMany c_hasImage u9.2) → va_S A s.heap H locs → lv_has ls 4 [(0, .ref a_), (1, .int p1), (2, .int p2), (3, .int u9.1)] → W p l e ({ frames := 0, cells := 0, slots := 0, locals := 0 } : Room) s m #[Value.ref a_, Value.int p1, Value.int p2] below meth c H locs 0 0 Q (F0 m 14 ls []))) (R := (fun r9 : (Nat → Int32) => (∀ (H : Heap) (locs : List Loc) (ls : Array Slot), va_P E.1 vwCl (w_X8_note E a_ a_tape a_readPlace a_script a_scriptLong a_now a_refused a_shareX a_shareY a_askedRow a_kept a_aside a_spelled a_image c_thrown c_taped c_at c_part c_partFrom c_partNumber c_wrong c_partWord c_readLaw c_readBound c_readGoal c_readSites c_scripts c_sites c_asked c_outcome c_took c_acts c_drawn c_racer c_raced c_spelledMany c_hasImage r9) H → va_D A (w_X8_note E a_ a_tape a_readPlace a_script a_scriptLong a_now a_refused a_shareX a_shareY a_askedRow a_kept a_aside a_spelled a_image c_thrown c_taped c_at c_part c_partFrom c_partNumber c_wrong c_partWord c_readLaw c_readBound c_readGoal c_readSites c_scripts c_sites c_asked c_outcome c_took c_acts c_drawn c_racer c_raced c_spelledMany c_hasImage r9) → va_S A s.heap H locs → lv_has ls 4 [(0, .ref a_), (1, .int p1), (2, .int p2)] → W p l e ({ frames := 0, cells := 0, slots := 0, locals := 0 } : Room) s m #[Value.ref a_, Value.int p1, Value.int p2] below meth c H locs 0 0 Q (F0 m 47 ls [])))) (fun u9 xx hF hC hE => wb_X8_note_14 l E K (p1 := p1) (p2 := p2) (c_thrown := c_thrown) (c_taped := c_taped) (c_at := c_at) (c_part := c_part) (c_partFrom := c_partFrom) (c_partNumber := c_partNumber) (c_wrong := c_wrong) (c_partWord := c_partWord) (c_readLaw := c_readLaw) (c_readBound := c_readBound) (c_readGoal := c_readGoal) (c_readSites := c_readSites) (c_scripts := c_scripts) (c_sites := c_sites) (c_asked := c_asked) (c_outcome := c_outcome) (c_took := c_took) (c_acts := c_acts) (c_drawn := c_drawn) (c_racer := c_racer) (c_raced := c_raced) (c_spelledMany := c_spelledMany) (c_hasImage := c_hasImage) (x3 := u9.1) (c_now := u9.2) hx hb hml hown hts hK hN hA (fun x3 c_now q9 => hC _ q9) (fun c_now q9 => hE _ q9) hF) j9 (x3, c_now) c_now' hL hX

set_option maxHeartbeats 4000000 in
set_option maxRecDepth 100000 in
theorem f_X8_note (l : Launch) (E : EE) (sz : Nat) (K : Nat) {a_ a_tape a_readPlace a_script a_scriptLong a_now a_refused a_shareX a_shareY a_askedRow a_kept a_aside a_spelled a_image : Nat} {p1 : Int32} {p2 : Int32} {c_thrown : Int32} {c_taped : Int32} {c_at : Int32} {c_part : Int32} {c_partFrom : Int32} {c_partNumber : Int32} {c_wrong : Int32} {c_partWord : Int64} {c_readLaw : Int32} {c_readBound : Int32} {c_readGoal : Int32} {c_readSites : Int32} {c_scripts : Int32} {c_sites : Int32} {c_asked : Int32} {c_outcome : Int32} {c_took : Int32} {c_acts : Int32} {c_drawn : Int64} {c_racer : Int32} {c_raced : Int32} {c_spelledMany : Int32} {c_hasImage : Int32} {c_now : Nat → Int32} {n_now : Nat → Int32} (hF : F_X8_note K p1 p2 c_now c_took = some n_now) : Met l yX8_note v_f_X8_note (({ frames := 0, cells := 0, slots := 0, locals := 0 } : Room)) (va_Pc [.ref a_, .int p1, .int p2] (pW E sz (w_X8_note E a_ a_tape a_readPlace a_script a_scriptLong a_now a_refused a_shareX a_shareY a_askedRow a_kept a_aside a_spelled a_image c_thrown c_taped c_at c_part c_partFrom c_partNumber c_wrong c_partWord c_readLaw c_readBound c_readGoal c_readSites c_scripts c_sites c_asked c_outcome c_took c_acts c_drawn c_racer c_raced c_spelledMany c_hasImage c_now))) (va_Qv (fun (_u : Unit) => True) (fun (_u : Unit) tt => va_P E.1 vwCl (w_X8_note E a_ a_tape a_readPlace a_script a_scriptLong a_now a_refused a_shareX a_shareY a_askedRow a_kept a_aside a_spelled a_image c_thrown c_taped c_at c_part c_partFrom c_partNumber c_wrong c_partWord c_readLaw c_readBound c_readGoal c_readSites c_scripts c_sites c_asked c_outcome c_took c_acts c_drawn c_racer c_raced c_spelledMany c_hasImage n_now) tt.heap ∧ va_D (va_A (w_X8_note E a_ a_tape a_readPlace a_script a_scriptLong a_now a_refused a_shareX a_shareY a_askedRow a_kept a_aside a_spelled a_image c_thrown c_taped c_at c_part c_partFrom c_partNumber c_wrong c_partWord c_readLaw c_readBound c_readGoal c_readSites c_scripts c_sites c_asked c_outcome c_took c_acts c_drawn c_racer c_raced c_spelledMany c_hasImage c_now) sz) (w_X8_note E a_ a_tape a_readPlace a_script a_scriptLong a_now a_refused a_shareX a_shareY a_askedRow a_kept a_aside a_spelled a_image c_thrown c_taped c_at c_part c_partFrom c_partNumber c_wrong c_partWord c_readLaw c_readBound c_readGoal c_readSites c_scripts c_sites c_asked c_outcome c_took c_acts c_drawn c_racer c_raced c_spelledMany c_hasImage n_now)) (va_A (w_X8_note E a_ a_tape a_readPlace a_script a_scriptLong a_now a_refused a_shareX a_shareY a_askedRow a_kept a_aside a_spelled a_image c_thrown c_taped c_at c_part c_partFrom c_partNumber c_wrong c_partWord c_readLaw c_readBound c_readGoal c_readSites c_scripts c_sites c_asked c_outcome c_took c_acts c_drawn c_racer c_raced c_spelledMany c_hasImage c_now) sz)) 0 0 (va_A (w_X8_note E a_ a_tape a_readPlace a_script a_scriptLong a_now a_refused a_shareX a_shareY a_askedRow a_kept a_aside a_spelled a_image c_thrown c_taped c_at c_part c_partFrom c_partNumber c_wrong c_partWord c_readLaw c_readBound c_readGoal c_readSites c_scripts c_sites c_asked c_outcome c_took c_acts c_drawn c_racer c_raced c_spelledMany c_hasImage c_now) sz) := by
  refine Met.ofW (cc := cX8_note) (maxL := 4) (ret := none) (by decide) rfl ?_
  intro p e s m args below meth c s₁ B hml hv
  obtain ⟨rfl, hsz, ⟨hK, hN⟩, hP, hD0⟩ := hv
  have hx := B.exec
  have hb := B.bytes
  have hr := B.returns
  have hts := atoms_spec (ws := v_f_X8_note) B.pre
  have hown : s.vm.findClass RX8 = some m.cls := own_of hd_X8_note.1 (findClass_of_methodNamed B.named)
  have hlocks : meth.locks = false := B.notSynchronized
  subst hsz
  have hD := hD0.self (sz := s.heap.size)
  generalize hAe : va_A (w_X8_note E a_ a_tape a_readPlace a_script a_scriptLong a_now a_refused a_shareX a_shareY a_askedRow a_kept a_aside a_spelled a_image c_thrown c_taped c_at c_part c_partFrom c_partNumber c_wrong c_partWord c_readLaw c_readBound c_readGoal c_readSites c_scripts c_sites c_asked c_outcome c_took c_acts c_drawn c_racer c_raced c_spelledMany c_hasImage c_now) s.heap.size = A at hD ⊢
  have hA : ∀ q : Nat, s.heap.size ≤ q → A q := fun q h => by rw [← hAe]; exact Or.inr h
  have hS : va_S A s.heap s.heap [] := va_S.rf
  have hl := lv_entry ([.ref a_, .int p1, .int p2]) (n := 4) (Nat.le_of_ble_eq_true rfl)
  rw [lg_entry_eq]
  generalize (lg_sl ([.ref a_, .int p1, .int p2]) ++ List.replicate (4 - (lg_sl ([.ref a_, .int p1, .int p2])).length) Slot.unset).toArray = ls at hl ⊢
  have hl : lv_has ls 4 [(0, .ref a_), (1, .int p1), (2, .int p2)] := hl
  obtain ⟨Q, hQ⟩ : ∃ Q : State → Prop, Q = MQ below (va_Qv (fun (_u : Unit) => True) (fun (_u : Unit) tt => va_P E.1 vwCl (w_X8_note E a_ a_tape a_readPlace a_script a_scriptLong a_now a_refused a_shareX a_shareY a_askedRow a_kept a_aside a_spelled a_image c_thrown c_taped c_at c_part c_partFrom c_partNumber c_wrong c_partWord c_readLaw c_readBound c_readGoal c_readSites c_scripts c_sites c_asked c_outcome c_took c_acts c_drawn c_racer c_raced c_spelledMany c_hasImage n_now) tt.heap ∧ va_D A (w_X8_note E a_ a_tape a_readPlace a_script a_scriptLong a_now a_refused a_shareX a_shareY a_askedRow a_kept a_aside a_spelled a_image c_thrown c_taped c_at c_part c_partFrom c_partNumber c_wrong c_partWord c_readLaw c_readBound c_readGoal c_readSites c_scripts c_sites c_asked c_outcome c_took c_acts c_drawn c_racer c_raced c_spelledMany c_hasImage n_now)) A) #[Value.ref a_, Value.int p1, Value.int p2] s 0 0 A := ⟨_, rfl⟩
  rw [← hQ]
  change W p l e ({ frames := 0, cells := 0, slots := 0, locals := 0 } : Room) s m #[Value.ref a_, Value.int p1, Value.int p2] below meth c s.heap [] 0 0 Q (F0 m 0 ls [])
  suffices hh9 : ∀ (H : Heap) (locs : List Loc), va_P E.1 vwCl (w_X8_note E a_ a_tape a_readPlace a_script a_scriptLong a_now a_refused a_shareX a_shareY a_askedRow a_kept a_aside a_spelled a_image c_thrown c_taped c_at c_part c_partFrom c_partNumber c_wrong c_partWord c_readLaw c_readBound c_readGoal c_readSites c_scripts c_sites c_asked c_outcome c_took c_acts c_drawn c_racer c_raced c_spelledMany c_hasImage c_now) H → va_D A (w_X8_note E a_ a_tape a_readPlace a_script a_scriptLong a_now a_refused a_shareX a_shareY a_askedRow a_kept a_aside a_spelled a_image c_thrown c_taped c_at c_part c_partFrom c_partNumber c_wrong c_partWord c_readLaw c_readBound c_readGoal c_readSites c_scripts c_sites c_asked c_outcome c_took c_acts c_drawn c_racer c_raced c_spelledMany c_hasImage c_now) → va_S A s.heap H locs → W p l e ({ frames := 0, cells := 0, slots := 0, locals := 0 } : Room) s m #[Value.ref a_, Value.int p1, Value.int p2] below meth c H locs 0 0 Q (F0 m 0 ls []) from hh9 s.heap [] hP hD hS
  clear hP hD hS
  intro H locs hP hD hS
  have h9 := fixPD (ws' := [k_X8 a_ c_thrown a_tape c_taped c_at c_part c_partFrom c_partNumber c_wrong c_partWord c_readLaw c_readBound c_readGoal c_readSites a_readPlace a_script a_scriptLong c_scripts a_now a_refused c_sites a_shareX a_shareY c_asked c_outcome a_askedRow c_took a_kept c_acts c_drawn a_aside c_racer c_raced a_spelled c_spelledMany a_image c_hasImage, k_I E a_now 265 c_now]) hP hD rfl
  clear hP hD
  obtain ⟨hP, hD⟩ := h9
  unfold F_X8_note at hF
  refine lv_aload_n hx hb (dq_42 0 bcX8_note_0 (j := 0) rfl rfl) rfl (lv_at hl 0 rfl) ?_
  refine gt_X8_17 (v := .ref a_now) hx hb hts i_f_X8_note_X8 hown hK hP 0 rfl (hts (.fieldLink RX8 22 "HushWatchModel" "now" "[I") (List.mem_of_getElem? (i := 1) rfl)) rfl (dq_180 0 bcX8_note_0 (j := 1) (i := 22) rfl rfl rfl) ?_
  refine lv_bipush (v := 84) hx hb (dq_16 0 bcX8_note_0 (j := 4) (i := 84) rfl rfl rfl) (by decide) ?_
  refine va_iald hx hb hK hP 1 0 rfl rfl (vin rfl) (dq_46 0 bcX8_note_0 (j := 6) rfl rfl) ?_
  refine W.eq (g2 := F0 m 7 ls [.int (c_now 84)]) rfl ?_
  refine lv_bipush (v := 60) hx hb (dq_16 0 bcX8_note_0 (j := 7) (i := 60) rfl rfl rfl) (by decide) ?_
  refine lv_icmp_ne (tgt := 58) hx hb (dq_160 0 bcX8_note_0 (j := 9) (i := 49) rfl rfl rfl) (by decide) (fun c_1 => ?_) (fun c_1 => ?_)
  ·
    replace hF := inn c_1 hF
    exact j_X8_note_58 l E K (p1 := p1) (p2 := p2) (c_thrown := c_thrown) (c_taped := c_taped) (c_at := c_at) (c_part := c_part) (c_partFrom := c_partFrom) (c_partNumber := c_partNumber) (c_wrong := c_wrong) (c_partWord := c_partWord) (c_readLaw := c_readLaw) (c_readBound := c_readBound) (c_readGoal := c_readGoal) (c_readSites := c_readSites) (c_scripts := c_scripts) (c_sites := c_sites) (c_asked := c_asked) (c_outcome := c_outcome) (c_took := c_took) (c_acts := c_acts) (c_drawn := c_drawn) (c_racer := c_racer) (c_raced := c_raced) (c_spelledMany := c_spelledMany) (c_hasImage := c_hasImage) (c_now := c_now) hx hb hml hown hts hK hN hA hr hlocks hQ hF H locs ls (hP.sub [0, 1] rfl) (hD.sub [0, 1] (by decide) rfl) hS (lv_sub hl [0, 1, 2] rfl)
  ·
    replace hF := ip c_1 hF
    refine lv_iconst (v := 3) hx hb (dq_6 0 bcX8_note_0 (j := 12) rfl rfl) (by decide) ?_
    refine lv_istore_n (lv' := [(3, .int (3 : Int32)), (0, .ref a_), (1, .int p1), (2, .int p2)]) hx hb (dq_62 0 bcX8_note_0 (j := 13) rfl rfl) rfl hl (by decide) rfl (fun ls hl => ?_)
    replace hF := bd1_s hF
    obtain ⟨c_now_13, hL_14, hF⟩ := hF
    refine lw_X8_note_14 l E K (p1 := p1) (p2 := p2) (c_thrown := c_thrown) (c_taped := c_taped) (c_at := c_at) (c_part := c_part) (c_partFrom := c_partFrom) (c_partNumber := c_partNumber) (c_wrong := c_wrong) (c_partWord := c_partWord) (c_readLaw := c_readLaw) (c_readBound := c_readBound) (c_readGoal := c_readGoal) (c_readSites := c_readSites) (c_scripts := c_scripts) (c_sites := c_sites) (c_asked := c_asked) (c_outcome := c_outcome) (c_took := c_took) (c_acts := c_acts) (c_drawn := c_drawn) (c_racer := c_racer) (c_raced := c_raced) (c_spelledMany := c_spelledMany) (c_hasImage := c_hasImage) hx hb hml hown hts hK hN hA K (3 : Int32) c_now c_now_13 hL_14 ?_ H locs ls (hP.sub [0, 1] rfl) (hD.sub [0, 1] (by decide) rfl) hS (lv_sub hl [1, 2, 3, 0] rfl)
    ·
      intro H locs ls hP hD hS hl
      have h9 := fixPD (ws' := [k_X8 a_ c_thrown a_tape c_taped c_at c_part c_partFrom c_partNumber c_wrong c_partWord c_readLaw c_readBound c_readGoal c_readSites a_readPlace a_script a_scriptLong c_scripts a_now a_refused c_sites a_shareX a_shareY c_asked c_outcome a_askedRow c_took a_kept c_acts c_drawn a_aside c_racer c_raced a_spelled c_spelledMany a_image c_hasImage, k_I E a_now 265 c_now_13]) hP hD rfl
      clear hP hD
      obtain ⟨hP, hD⟩ := h9
      refine lv_aload_n hx hb (dq_42 0 bcX8_note_0 (j := 47) rfl rfl) rfl (lv_at hl 0 rfl) ?_
      refine gt_X8_17 (v := .ref a_now) hx hb hts i_f_X8_note_X8 hown hK hP 0 rfl (hts (.fieldLink RX8 22 "HushWatchModel" "now" "[I") (List.mem_of_getElem? (i := 1) rfl)) rfl (dq_180 48 bcX8_note_1 (j := 0) (i := 22) rfl rfl rfl) ?_
      refine lv_bipush (v := 84) hx hb (dq_16 48 bcX8_note_1 (j := 3) (i := 84) rfl rfl rfl) (by decide) ?_
      refine lv_dup2_11 hx hb (dq_92 48 bcX8_note_1 (j := 5) rfl rfl) rfl rfl ?_
      refine va_iald hx hb hK hP 1 0 rfl rfl (vin rfl) (dq_46 48 bcX8_note_1 (j := 6) rfl rfl) ?_
      refine W.eq (g2 := F0 m 55 ls [.int (c_now_13 84), .int (84 : Int32), .ref a_now]) rfl ?_
      refine lv_iconst (v := 1) hx hb (dq_4 48 bcX8_note_1 (j := 7) rfl rfl) (by decide) ?_
      refine lv_isub hx hb (dq_100 48 bcX8_note_1 (j := 8) rfl rfl) ?_
      refine va_iast hx hb hK hP hD hS 1 0 rfl rfl (vin rfl) (dq_79 48 bcX8_note_1 (j := 9) rfl rfl) (fun H locs hP hD hS => ?_)
      have h9 := fixPD (ws' := [k_X8 a_ c_thrown a_tape c_taped c_at c_part c_partFrom c_partNumber c_wrong c_partWord c_readLaw c_readBound c_readGoal c_readSites a_readPlace a_script a_scriptLong c_scripts a_now a_refused c_sites a_shareX a_shareY c_asked c_outcome a_askedRow c_took a_kept c_acts c_drawn a_aside c_racer c_raced a_spelled c_spelledMany a_image c_hasImage, k_I E a_now 265 (upd c_now_13 84 ((c_now_13 84) - (1 : Int32)))]) hP hD rfl
      clear hP hD
      obtain ⟨hP, hD⟩ := h9
      replace hF := nm_s hF
      obtain ⟨f_15, hf_15, hF⟩ := hF
      rw [← hf_15] at hP hD
      exact j_X8_note_58 l E K (p1 := p1) (p2 := p2) (c_thrown := c_thrown) (c_taped := c_taped) (c_at := c_at) (c_part := c_part) (c_partFrom := c_partFrom) (c_partNumber := c_partNumber) (c_wrong := c_wrong) (c_partWord := c_partWord) (c_readLaw := c_readLaw) (c_readBound := c_readBound) (c_readGoal := c_readGoal) (c_readSites := c_readSites) (c_scripts := c_scripts) (c_sites := c_sites) (c_asked := c_asked) (c_outcome := c_outcome) (c_took := c_took) (c_acts := c_acts) (c_drawn := c_drawn) (c_racer := c_racer) (c_raced := c_raced) (c_spelledMany := c_spelledMany) (c_hasImage := c_hasImage) (c_now := f_15) hx hb hml hown hts hK hN hA hr hlocks hQ hF H locs ls (hP.sub [0, 1] rfl) (hD.sub [0, 1] (by decide) rfl) hS (lv_sub hl [0, 1, 2] rfl)
end
-- 30.md07
section
noncomputable def blX8_act_0 : List Nat := [42, 182, 1, 78, 42, 27, 28, 29, 21, 4, 182, 1, 81, 54, 5, 42, 27, 27, 4, 160, 0, 7, 2, 167, 0, 4, 28, 182, 1, 84, 21, 5, 172]
set_option maxRecDepth 100000 in
theorem bcX8_act_0 : ((cX8_act.data.toList.drop 0).take blX8_act_0.length).map UInt8.toNat = blX8_act_0 := by decide +kernel
noncomputable def blX8_actOf_0 : List Nat := [26, 170, 0, 0, 0, 0, 0, 56, 0, 0, 0, 0, 0, 0, 0, 6, 0, 0, 0, 43, 0, 0, 0, 45, 0, 0, 0, 47, 0, 0, 0, 49, 0, 0, 0, 51, 0, 0, 0, 56, 0, 0, 0, 53, 3, 172, 7, 172, 5, 172, 6]
set_option maxRecDepth 100000 in
theorem bcX8_actOf_0 : ((cX8_actOf.data.toList.drop 0).take blX8_actOf_0.length).map UInt8.toNat = blX8_actOf_0 := by decide +kernel
noncomputable def blX8_actOf_1 : List Nat := [5, 172, 6, 172, 4, 172, 16, 6, 172, 8, 172]
set_option maxRecDepth 100000 in
theorem bcX8_actOf_1 : ((cX8_actOf.data.toList.drop 48).take blX8_actOf_1.length).map UInt8.toNat = blX8_actOf_1 := by decide +kernel
noncomputable def blX8_in_0 : List Nat := [30, 32, 148, 155, 0, 14, 30, 22, 4, 148, 157, 0, 7, 4, 167, 0, 4, 3, 172]
set_option maxRecDepth 100000 in
theorem bcX8_in_0 : ((cX8_in.data.toList.drop 0).take blX8_in_0.length).map UInt8.toNat = blX8_in_0 := by decide +kernel
noncomputable def blX8_isSite_0 : List Nat := [27, 133, 9, 42, 180, 0, 196, 4, 100, 133, 184, 0, 60, 172]
set_option maxRecDepth 100000 in
theorem bcX8_isSite_0 : ((cX8_isSite.data.toList.drop 0).take blX8_isSite_0.length).map UInt8.toNat = blX8_isSite_0 := by decide +kernel
noncomputable def blX8_whyMove_1 : List Nat := [133, 20, 1, 29, 20, 1, 31, 184, 0, 60, 153, 0, 31, 42, 180, 0, 22, 16, 8, 27, 96, 46, 29, 96, 133, 20, 1, 29, 20, 1, 31, 184, 0, 60, 153, 0, 7, 4, 167, 0, 4, 3, 54, 4, 21, 4, 154, 0, 7, 4, 167]
set_option maxRecDepth 100000 in
theorem bcX8_whyMove_1 : ((cX8_whyMove.data.toList.drop 48).take blX8_whyMove_1.length).map UInt8.toNat = blX8_whyMove_1 := by decide +kernel
noncomputable def blX8_whyMove_2 : List Nat := [7, 4, 167, 0, 24, 28, 154, 0, 7, 29, 153, 0, 11, 42, 27, 182, 1, 1, 153, 0, 7, 5, 167, 0, 4, 2, 172]
set_option maxRecDepth 100000 in
theorem bcX8_whyMove_2 : ((cX8_whyMove.data.toList.drop 96).take blX8_whyMove_2.length).map UInt8.toNat = blX8_whyMove_2 := by decide +kernel
noncomputable def blX8_whyMove_0 : List Nat := [42, 27, 182, 1, 22, 154, 0, 5, 3, 172, 28, 133, 20, 1, 25, 20, 1, 27, 184, 0, 60, 153, 0, 68, 29, 133, 20, 1, 25, 20, 1, 27, 184, 0, 60, 153, 0, 54, 42, 180, 0, 22, 3, 27, 96, 46, 28, 96, 133, 20, 1]
set_option maxRecDepth 100000 in
theorem bcX8_whyMove_0 : ((cX8_whyMove.data.toList.drop 0).take blX8_whyMove_0.length).map UInt8.toNat = blX8_whyMove_0 := by decide +kernel
noncomputable def blX8_isWatch_0 : List Nat := [42, 180, 0, 196, 158, 0, 7, 4, 167, 0, 4, 3, 172]
set_option maxRecDepth 100000 in
theorem bcX8_isWatch_0 : ((cX8_isWatch.data.toList.drop 0).take blX8_isWatch_0.length).map UInt8.toNat = blX8_isWatch_0 := by decide +kernel
noncomputable def blX8_whySet_0 : List Nat := [42, 182, 1, 43, 154, 0, 7, 3, 167, 0, 30, 27, 133, 28, 133, 29, 133, 184, 0, 60, 154, 0, 7, 4, 167, 0, 14, 27, 21, 4, 160, 0, 7, 5, 167, 0, 4, 2, 172]
set_option maxRecDepth 100000 in
theorem bcX8_whySet_0 : ((cX8_whySet.data.toList.drop 0).take blX8_whySet_0.length).map UInt8.toNat = blX8_whySet_0 := by decide +kernel
noncomputable def blX8_isReached_0 : List Nat := [42, 180, 0, 22, 16, 73, 46, 42, 180, 0, 22, 16, 66, 46, 161, 0, 7, 4, 167, 0, 4, 3, 172]
set_option maxRecDepth 100000 in
theorem bcX8_isReached_0 : ((cX8_isReached.data.toList.drop 0).take blX8_isReached_0.length).map UInt8.toNat = blX8_isReached_0 := by decide +kernel
noncomputable def blX8_whyAdd_0 : List Nat := [42, 27, 182, 1, 22, 154, 0, 5, 3, 172, 28, 133, 10, 20, 1, 33, 184, 0, 60, 153, 0, 20, 42, 180, 0, 22, 16, 48, 27, 96, 46, 28, 96, 19, 1, 35, 164, 0, 7, 4, 167, 0, 15, 42, 182, 1, 36, 153, 0, 7, 5]
set_option maxRecDepth 100000 in
theorem bcX8_whyAdd_0 : ((cX8_whyAdd.data.toList.drop 0).take blX8_whyAdd_0.length).map UInt8.toNat = blX8_whyAdd_0 := by decide +kernel
noncomputable def blX8_whyAdd_1 : List Nat := [0, 7, 5, 167, 0, 4, 2, 172]
set_option maxRecDepth 100000 in
theorem bcX8_whyAdd_1 : ((cX8_whyAdd.data.toList.drop 48).take blX8_whyAdd_1.length).map UInt8.toNat = blX8_whyAdd_1 := by decide +kernel
def dl_X8_actOf_30_md07_0 : List (Nat × Instr × Nat) := [(1, .tableswitch 56 0 6 #[43, 45, 47, 49, 51, 56, 53], 43)]
set_option maxRecDepth 100000 in
theorem dall_X8_actOf_30_md07_0 : dchk cX8_actOf dl_X8_actOf_30_md07_0 = true := by decide +kernel
theorem dX8_actOf_1 : decode cX8_actOf 1 = .ok (.tableswitch 56 0 6 #[43, 45, 47, 49, 51, 56, 53], 43) := dchk_at dall_X8_actOf_30_md07_0 (k := 0) rfl
def F_X8_act (K : Nat) (p1 : Int32) (p2 : Int32) (p3 : Int32) (p4 : Int32) (c_now : Nat → Int32) (c_sites : Int32) (c_shareX : Nat → Int32) (c_shareY : Nat → Int32) (c_asked : Int32) (c_outcome : Int32) (c_askedRow : Nat → Int32) (c_took : Int32) (c_kept : Nat → Int32) (c_acts : Int32) : Option (Int32 × (Nat → Int32) × (Nat → Int32) × (Nat → Int32) × Int32 × Int32 × (Nat → Int32) × Int32 × (Nat → Int32) × Int32) :=
  bd2 (F_X8_keep K c_now c_kept c_acts) (fun w_1 w_2 => bd8 (F_X8_doNow K p1 p2 p3 p4 c_now c_sites c_shareX c_shareY c_asked c_outcome c_askedRow c_took) (fun r_4 w_5 w_6 w_7 w_8 w_9 w_10 w_11 => if p1 = (1 : Int32) then bd1 (F_X8_note K p1 (-1 : Int32) w_5 w_11) (fun w_16 => some (r_4, w_16, w_6, w_7, w_8, w_9, w_10, w_11, w_1, w_2)) else bd1 (F_X8_note K p1 p2 w_5 w_11) (fun w_14 => some (r_4, w_14, w_6, w_7, w_8, w_9, w_10, w_11, w_1, w_2))))
abbrev w_X8_act (E : EE) (a_ a_tape a_readPlace a_script a_scriptLong a_now a_refused a_shareX a_shareY a_askedRow a_kept a_aside a_spelled a_image : Nat) (c_thrown : Int32) (c_taped : Int32) (c_at : Int32) (c_part : Int32) (c_partFrom : Int32) (c_partNumber : Int32) (c_wrong : Int32) (c_partWord : Int64) (c_readLaw : Int32) (c_readBound : Int32) (c_readGoal : Int32) (c_readSites : Int32) (c_scripts : Int32) (c_sites : Int32) (c_asked : Int32) (c_outcome : Int32) (c_took : Int32) (c_acts : Int32) (c_drawn : Int64) (c_racer : Int32) (c_raced : Int32) (c_spelledMany : Int32) (c_hasImage : Int32) (c_now : Nat → Int32) (c_shareX : Nat → Int32) (c_shareY : Nat → Int32) (c_askedRow : Nat → Int32) (c_kept : Nat → Int32) : va_W := [k_X8 a_ c_thrown a_tape c_taped c_at c_part c_partFrom c_partNumber c_wrong c_partWord c_readLaw c_readBound c_readGoal c_readSites a_readPlace a_script a_scriptLong c_scripts a_now a_refused c_sites a_shareX a_shareY c_asked c_outcome a_askedRow c_took a_kept c_acts c_drawn a_aside c_racer c_raced a_spelled c_spelledMany a_image c_hasImage, k_I E a_now 265 c_now, k_I E a_shareX 8 c_shareX, k_I E a_shareY 8 c_shareY, k_I E a_askedRow 8 c_askedRow, k_I E a_kept 10600 c_kept]
def v_f_X8_act : List Cond := List.cons (.code yX8_act cX8_act 6 (some .int)) (HAppend.hAppend (α := List Cond) (β := List Cond) (γ := List Cond) [.methodLink RX8 334 yX8_keep, .instanceMethod yX8_keep, .selects RX8 yX8_keep yX8_keep, .initialized RX8, .methodLink RX8 337 yX8_doNow, .instanceMethod yX8_doNow, .selects RX8 yX8_doNow yX8_doNow, .methodLink RX8 340 yX8_note, .instanceMethod yX8_note, .selects RX8 yX8_note yX8_note] (HAppend.hAppend (α := List Cond) (β := List Cond) (γ := List Cond) v_f_X8_keep (HAppend.hAppend (α := List Cond) (β := List Cond) (γ := List Cond) v_f_X8_doNow (HAppend.hAppend (α := List Cond) (β := List Cond) (γ := List Cond) v_f_X8_note []))))
theorem gw_f_X8_act : v_f_X8_act.all goodWord = true := gw_c2 (by decide +kernel) (gw_ap gw_f_X8_keep (gw_ap gw_f_X8_doNow (gw_ap gw_f_X8_note gw_nil)))
theorem g_f_X8_act_f_X8_keep_334 : GoodIn v_f_X8_act (wsV RX8 334 RX8 yX8_keep v_f_X8_keep) := goodIn_in gw_f_X8_act (in4 1 2 3 4 rfl rfl rfl rfl (fun _ h => List.mem_cons_of_mem _ (List.mem_append_right _ (List.mem_append_left _ h))))
theorem g_f_X8_act_f_X8_doNow_337 : GoodIn v_f_X8_act (wsV RX8 337 RX8 yX8_doNow v_f_X8_doNow) := goodIn_in gw_f_X8_act (in4 5 6 7 4 rfl rfl rfl rfl (fun _ h => List.mem_cons_of_mem _ (List.mem_append_right _ (List.mem_append_right _ (List.mem_append_left _ h)))))
theorem g_f_X8_act_f_X8_note_340 : GoodIn v_f_X8_act (wsV RX8 340 RX8 yX8_note v_f_X8_note) := goodIn_in gw_f_X8_act (in4 8 9 10 4 rfl rfl rfl rfl (fun _ h => List.mem_cons_of_mem _ (List.mem_append_right _ (List.mem_append_right _ (List.mem_append_right _ (List.mem_append_left _ h))))))
theorem hd_X8_act : yX8_act.cls = RX8 ∧ yX8_act.cls ≠ "java/lang/invoke/MethodHandle" ∧ yX8_act.cls ≠ "java/lang/invoke/VarHandle" ∧ (parseMethodDescriptor yX8_act.desc).map (fun d => d.parameters.length) = some 4 := by decide +kernel
set_option maxHeartbeats 4000000 in
set_option maxRecDepth 100000 in
theorem f_X8_act (l : Launch) (E : EE) (sz : Nat) (K : Nat) {a_ a_tape a_readPlace a_script a_scriptLong a_now a_refused a_shareX a_shareY a_askedRow a_kept a_aside a_spelled a_image : Nat} {p1 : Int32} {p2 : Int32} {p3 : Int32} {p4 : Int32} {c_thrown : Int32} {c_taped : Int32} {c_at : Int32} {c_part : Int32} {c_partFrom : Int32} {c_partNumber : Int32} {c_wrong : Int32} {c_partWord : Int64} {c_readLaw : Int32} {c_readBound : Int32} {c_readGoal : Int32} {c_readSites : Int32} {c_scripts : Int32} {c_sites : Int32} {c_asked : Int32} {c_outcome : Int32} {c_took : Int32} {c_acts : Int32} {c_drawn : Int64} {c_racer : Int32} {c_raced : Int32} {c_spelledMany : Int32} {c_hasImage : Int32} {c_now : Nat → Int32} {c_shareX : Nat → Int32} {c_shareY : Nat → Int32} {c_askedRow : Nat → Int32} {c_kept : Nat → Int32} {rr : Int32} {n_now : Nat → Int32} {n_shareX : Nat → Int32} {n_shareY : Nat → Int32} {n_asked : Int32} {n_outcome : Int32} {n_askedRow : Nat → Int32} {n_took : Int32} {n_kept : Nat → Int32} {n_acts : Int32} (hF : F_X8_act K p1 p2 p3 p4 c_now c_sites c_shareX c_shareY c_asked c_outcome c_askedRow c_took c_kept c_acts = some (rr, n_now, n_shareX, n_shareY, n_asked, n_outcome, n_askedRow, n_took, n_kept, n_acts)) : Met l yX8_act v_f_X8_act (({ frames := 8, cells := 0, slots := 0, locals := 190 } : Room)) (va_Pc [.ref a_, .int p1, .int p2, .int p3, .int p4] (pW E sz (w_X8_act E a_ a_tape a_readPlace a_script a_scriptLong a_now a_refused a_shareX a_shareY a_askedRow a_kept a_aside a_spelled a_image c_thrown c_taped c_at c_part c_partFrom c_partNumber c_wrong c_partWord c_readLaw c_readBound c_readGoal c_readSites c_scripts c_sites c_asked c_outcome c_took c_acts c_drawn c_racer c_raced c_spelledMany c_hasImage c_now c_shareX c_shareY c_askedRow c_kept))) (va_Qi (fun (q : Int32) (_u : Unit) => q = rr) (fun (_u : Unit) tt => va_P E.1 vwCl (w_X8_act E a_ a_tape a_readPlace a_script a_scriptLong a_now a_refused a_shareX a_shareY a_askedRow a_kept a_aside a_spelled a_image c_thrown c_taped c_at c_part c_partFrom c_partNumber c_wrong c_partWord c_readLaw c_readBound c_readGoal c_readSites c_scripts c_sites n_asked n_outcome n_took n_acts c_drawn c_racer c_raced c_spelledMany c_hasImage n_now n_shareX n_shareY n_askedRow n_kept) tt.heap ∧ va_D (va_A (w_X8_act E a_ a_tape a_readPlace a_script a_scriptLong a_now a_refused a_shareX a_shareY a_askedRow a_kept a_aside a_spelled a_image c_thrown c_taped c_at c_part c_partFrom c_partNumber c_wrong c_partWord c_readLaw c_readBound c_readGoal c_readSites c_scripts c_sites c_asked c_outcome c_took c_acts c_drawn c_racer c_raced c_spelledMany c_hasImage c_now c_shareX c_shareY c_askedRow c_kept) sz) (w_X8_act E a_ a_tape a_readPlace a_script a_scriptLong a_now a_refused a_shareX a_shareY a_askedRow a_kept a_aside a_spelled a_image c_thrown c_taped c_at c_part c_partFrom c_partNumber c_wrong c_partWord c_readLaw c_readBound c_readGoal c_readSites c_scripts c_sites n_asked n_outcome n_took n_acts c_drawn c_racer c_raced c_spelledMany c_hasImage n_now n_shareX n_shareY n_askedRow n_kept)) (va_A (w_X8_act E a_ a_tape a_readPlace a_script a_scriptLong a_now a_refused a_shareX a_shareY a_askedRow a_kept a_aside a_spelled a_image c_thrown c_taped c_at c_part c_partFrom c_partNumber c_wrong c_partWord c_readLaw c_readBound c_readGoal c_readSites c_scripts c_sites c_asked c_outcome c_took c_acts c_drawn c_racer c_raced c_spelledMany c_hasImage c_now c_shareX c_shareY c_askedRow c_kept) sz)) 0 0 (va_A (w_X8_act E a_ a_tape a_readPlace a_script a_scriptLong a_now a_refused a_shareX a_shareY a_askedRow a_kept a_aside a_spelled a_image c_thrown c_taped c_at c_part c_partFrom c_partNumber c_wrong c_partWord c_readLaw c_readBound c_readGoal c_readSites c_scripts c_sites c_asked c_outcome c_took c_acts c_drawn c_racer c_raced c_spelledMany c_hasImage c_now c_shareX c_shareY c_askedRow c_kept) sz) := by
  refine Met.ofW (cc := cX8_act) (maxL := 6) (ret := (some .int)) (by decide) rfl ?_
  intro p e s m args below meth c s₁ B hml hv
  obtain ⟨rfl, hsz, ⟨hK, hN⟩, hP, hD0⟩ := hv
  have hx := B.exec
  have hb := B.bytes
  have hr := B.returns
  have hts := atoms_spec (ws := v_f_X8_act) B.pre
  have hown : s.vm.findClass RX8 = some m.cls := own_of hd_X8_act.1 (findClass_of_methodNamed B.named)
  have hlocks : meth.locks = false := B.notSynchronized
  subst hsz
  have hD := hD0.self (sz := s.heap.size)
  generalize hAe : va_A (w_X8_act E a_ a_tape a_readPlace a_script a_scriptLong a_now a_refused a_shareX a_shareY a_askedRow a_kept a_aside a_spelled a_image c_thrown c_taped c_at c_part c_partFrom c_partNumber c_wrong c_partWord c_readLaw c_readBound c_readGoal c_readSites c_scripts c_sites c_asked c_outcome c_took c_acts c_drawn c_racer c_raced c_spelledMany c_hasImage c_now c_shareX c_shareY c_askedRow c_kept) s.heap.size = A at hD ⊢
  have hA : ∀ q : Nat, s.heap.size ≤ q → A q := fun q h => by rw [← hAe]; exact Or.inr h
  have hS : va_S A s.heap s.heap [] := va_S.rf
  have hl := lv_entry ([.ref a_, .int p1, .int p2, .int p3, .int p4]) (n := 6) (Nat.le_of_ble_eq_true rfl)
  rw [lg_entry_eq]
  generalize (lg_sl ([.ref a_, .int p1, .int p2, .int p3, .int p4]) ++ List.replicate (6 - (lg_sl ([.ref a_, .int p1, .int p2, .int p3, .int p4])).length) Slot.unset).toArray = ls at hl ⊢
  have hl : lv_has ls 6 [(0, .ref a_), (1, .int p1), (2, .int p2), (3, .int p3), (4, .int p4)] := hl
  obtain ⟨Q, hQ⟩ : ∃ Q : State → Prop, Q = MQ below (va_Qi (fun (q : Int32) (_u : Unit) => q = rr) (fun (_u : Unit) tt => va_P E.1 vwCl (w_X8_act E a_ a_tape a_readPlace a_script a_scriptLong a_now a_refused a_shareX a_shareY a_askedRow a_kept a_aside a_spelled a_image c_thrown c_taped c_at c_part c_partFrom c_partNumber c_wrong c_partWord c_readLaw c_readBound c_readGoal c_readSites c_scripts c_sites n_asked n_outcome n_took n_acts c_drawn c_racer c_raced c_spelledMany c_hasImage n_now n_shareX n_shareY n_askedRow n_kept) tt.heap ∧ va_D A (w_X8_act E a_ a_tape a_readPlace a_script a_scriptLong a_now a_refused a_shareX a_shareY a_askedRow a_kept a_aside a_spelled a_image c_thrown c_taped c_at c_part c_partFrom c_partNumber c_wrong c_partWord c_readLaw c_readBound c_readGoal c_readSites c_scripts c_sites n_asked n_outcome n_took n_acts c_drawn c_racer c_raced c_spelledMany c_hasImage n_now n_shareX n_shareY n_askedRow n_kept)) A) #[Value.ref a_, Value.int p1, Value.int p2, Value.int p3, Value.int p4] s 0 0 A := ⟨_, rfl⟩
  rw [← hQ]
  change W p l e ({ frames := 8, cells := 0, slots := 0, locals := 190 } : Room) s m #[Value.ref a_, Value.int p1, Value.int p2, Value.int p3, Value.int p4] below meth c s.heap [] 0 0 Q (F0 m 0 ls [])
  suffices hh9 : ∀ (H : Heap) (locs : List Loc), va_P E.1 vwCl (w_X8_act E a_ a_tape a_readPlace a_script a_scriptLong a_now a_refused a_shareX a_shareY a_askedRow a_kept a_aside a_spelled a_image c_thrown c_taped c_at c_part c_partFrom c_partNumber c_wrong c_partWord c_readLaw c_readBound c_readGoal c_readSites c_scripts c_sites c_asked c_outcome c_took c_acts c_drawn c_racer c_raced c_spelledMany c_hasImage c_now c_shareX c_shareY c_askedRow c_kept) H → va_D A (w_X8_act E a_ a_tape a_readPlace a_script a_scriptLong a_now a_refused a_shareX a_shareY a_askedRow a_kept a_aside a_spelled a_image c_thrown c_taped c_at c_part c_partFrom c_partNumber c_wrong c_partWord c_readLaw c_readBound c_readGoal c_readSites c_scripts c_sites c_asked c_outcome c_took c_acts c_drawn c_racer c_raced c_spelledMany c_hasImage c_now c_shareX c_shareY c_askedRow c_kept) → va_S A s.heap H locs → W p l e ({ frames := 8, cells := 0, slots := 0, locals := 190 } : Room) s m #[Value.ref a_, Value.int p1, Value.int p2, Value.int p3, Value.int p4] below meth c H locs 0 0 Q (F0 m 0 ls []) from hh9 s.heap [] hP hD hS
  clear hP hD hS
  intro H locs hP hD hS
  have h9 := fixPD (ws' := [k_X8 a_ c_thrown a_tape c_taped c_at c_part c_partFrom c_partNumber c_wrong c_partWord c_readLaw c_readBound c_readGoal c_readSites a_readPlace a_script a_scriptLong c_scripts a_now a_refused c_sites a_shareX a_shareY c_asked c_outcome a_askedRow c_took a_kept c_acts c_drawn a_aside c_racer c_raced a_spelled c_spelledMany a_image c_hasImage, k_I E a_now 265 c_now, k_I E a_shareX 8 c_shareX, k_I E a_shareY 8 c_shareY, k_I E a_askedRow 8 c_askedRow, k_I E a_kept 10600 c_kept]) hP hD rfl
  clear hP hD
  obtain ⟨hP, hD⟩ := h9
  unfold F_X8_act at hF
  refine lv_aload_n hx hb (dq_42 0 bcX8_act_0 (j := 0) rfl rfl) rfl (lv_at hl 0 rfl) ?_
  replace hF := bd2_s hF
  obtain ⟨w_1, w_2, hc_3, hF⟩ := hF
  obtain ⟨hPc, hDc, hFc⟩ := wcut (wc := (w_X8_keep E a_ a_tape a_readPlace a_script a_scriptLong a_now a_refused a_shareX a_shareY a_askedRow a_kept a_aside a_spelled a_image c_thrown c_taped c_at c_part c_partFrom c_partNumber c_wrong c_partWord c_readLaw c_readBound c_readGoal c_readSites c_scripts c_sites c_asked c_outcome c_took c_acts c_drawn c_racer c_raced c_spelledMany c_hasImage c_now c_kept)) hP hD hS hA [0, 1, 5] (by decide) rfl
  have hrc := va_recv hK hPc (ci := 9) (q0 := 0) rfl rfl
  refine cE_v (wc := (w_X8_keep E a_ a_tape a_readPlace a_script a_scriptLong a_now a_refused a_shareX a_shareY a_askedRow a_kept a_aside a_spelled a_image c_thrown c_taped c_at c_part c_partFrom c_partNumber c_wrong c_partWord c_readLaw c_readBound c_readGoal c_readSites c_scripts c_sites c_asked c_outcome c_took c_acts c_drawn c_racer c_raced c_spelledMany c_hasImage c_now c_kept)) (wr := [k_I E a_shareX 8 c_shareX, k_I E a_shareY 8 c_shareY, k_I E a_askedRow 8 c_askedRow]) (w1 := (w_X8_keep E a_ a_tape a_readPlace a_script a_scriptLong a_now a_refused a_shareX a_shareY a_askedRow a_kept a_aside a_spelled a_image c_thrown c_taped c_at c_part c_partFrom c_partNumber c_wrong c_partWord c_readLaw c_readBound c_readGoal c_readSites c_scripts c_sites c_asked c_outcome c_took w_2 c_drawn c_racer c_raced c_spelledMany c_hasImage c_now w_1)) (va_runV (As := []) (rest := [])  ⟨hx, hb, hml, hown, hts⟩ (f_X8_keep l E H.size K (a_ := a_) (a_tape := a_tape) (a_readPlace := a_readPlace) (a_script := a_script) (a_scriptLong := a_scriptLong) (a_now := a_now) (a_refused := a_refused) (a_shareX := a_shareX) (a_shareY := a_shareY) (a_askedRow := a_askedRow) (a_kept := a_kept) (a_aside := a_aside) (a_spelled := a_spelled) (a_image := a_image) (c_thrown := c_thrown) (c_taped := c_taped) (c_at := c_at) (c_part := c_part) (c_partFrom := c_partFrom) (c_partNumber := c_partNumber) (c_wrong := c_wrong) (c_partWord := c_partWord) (c_readLaw := c_readLaw) (c_readBound := c_readBound) (c_readGoal := c_readGoal) (c_readSites := c_readSites) (c_scripts := c_scripts) (c_sites := c_sites) (c_asked := c_asked) (c_outcome := c_outcome) (c_took := c_took) (c_acts := c_acts) (c_drawn := c_drawn) (c_racer := c_racer) (c_raced := c_raced) (c_spelledMany := c_spelledMany) (c_hasImage := c_hasImage) (c_now := c_now) (c_kept := c_kept) hc_3) (cwV 0 hts g_f_X8_act_f_X8_keep_334 rfl rfl rfl hd_X8_keep ⟨Nat.le_of_ble_eq_true rfl, Nat.le_of_ble_eq_true rfl⟩) ⟨pW.blind, hrc, (pW.pre ⟨hK, hN⟩ hPc hDc)⟩ rfl rfl hl.1 rfl (lv_room (Nat.le_of_ble_eq_true rfl)) (dq_182 0 bcX8_act_0 (j := 1) (i := 334) rfl rfl rfl) ⟨Nat.le_of_ble_eq_true rfl, Nat.le_of_ble_eq_true rfl⟩) hS hFc hP hD [0, 1, 5] [2, 3, 4] rfl rfl (by decide) (by decide) (fun H locs hP hD hS => ?_)
  have h9 := fixPD (ws' := [k_I E a_shareX 8 c_shareX, k_I E a_shareY 8 c_shareY, k_I E a_askedRow 8 c_askedRow, k_X8 a_ c_thrown a_tape c_taped c_at c_part c_partFrom c_partNumber c_wrong c_partWord c_readLaw c_readBound c_readGoal c_readSites a_readPlace a_script a_scriptLong c_scripts a_now a_refused c_sites a_shareX a_shareY c_asked c_outcome a_askedRow c_took a_kept w_2 c_drawn a_aside c_racer c_raced a_spelled c_spelledMany a_image c_hasImage, k_I E a_now 265 c_now, k_I E a_kept 10600 w_1]) hP hD rfl
  clear hP hD
  obtain ⟨hP, hD⟩ := h9
  refine lv_aload_n hx hb (dq_42 0 bcX8_act_0 (j := 4) rfl rfl) rfl (lv_at hl 0 rfl) ?_
  refine lv_iload_n hx hb (dq_27 0 bcX8_act_0 (j := 5) rfl rfl) rfl (lv_at hl 1 rfl) ?_
  refine lv_iload_n hx hb (dq_28 0 bcX8_act_0 (j := 6) rfl rfl) rfl (lv_at hl 2 rfl) ?_
  refine lv_iload_n hx hb (dq_29 0 bcX8_act_0 (j := 7) rfl rfl) rfl (lv_at hl 3 rfl) ?_
  refine lv_iload hx hb (dq_21 0 bcX8_act_0 (j := 8) (i := 4) rfl rfl) (lv_at hl 4 rfl) ?_
  replace hF := bd8_s hF
  obtain ⟨r_4, w_5, w_6, w_7, w_8, w_9, w_10, w_11, hc_12, hF⟩ := hF
  obtain ⟨hPc, hDc, hFc⟩ := wcut (wc := (w_X8_doNow E a_ a_tape a_readPlace a_script a_scriptLong a_now a_refused a_shareX a_shareY a_askedRow a_kept a_aside a_spelled a_image c_thrown c_taped c_at c_part c_partFrom c_partNumber c_wrong c_partWord c_readLaw c_readBound c_readGoal c_readSites c_scripts c_sites c_asked c_outcome c_took w_2 c_drawn c_racer c_raced c_spelledMany c_hasImage c_now c_shareX c_shareY c_askedRow)) hP hD hS hA [3, 4, 0, 1, 2] (by decide) rfl
  have hrc := va_recv hK hPc (ci := 9) (q0 := 0) rfl rfl
  refine cE_i (wc := (w_X8_doNow E a_ a_tape a_readPlace a_script a_scriptLong a_now a_refused a_shareX a_shareY a_askedRow a_kept a_aside a_spelled a_image c_thrown c_taped c_at c_part c_partFrom c_partNumber c_wrong c_partWord c_readLaw c_readBound c_readGoal c_readSites c_scripts c_sites c_asked c_outcome c_took w_2 c_drawn c_racer c_raced c_spelledMany c_hasImage c_now c_shareX c_shareY c_askedRow)) (wr := [k_I E a_kept 10600 w_1]) (w1 := (w_X8_doNow E a_ a_tape a_readPlace a_script a_scriptLong a_now a_refused a_shareX a_shareY a_askedRow a_kept a_aside a_spelled a_image c_thrown c_taped c_at c_part c_partFrom c_partNumber c_wrong c_partWord c_readLaw c_readBound c_readGoal c_readSites c_scripts c_sites w_8 w_9 w_11 w_2 c_drawn c_racer c_raced c_spelledMany c_hasImage w_5 w_6 w_7 w_10)) (va_runV (As := [.int p1, .int p2, .int p3, .int p4]) (rest := [])  ⟨hx, hb, hml, hown, hts⟩ (f_X8_doNow l E H.size K (a_ := a_) (a_tape := a_tape) (a_readPlace := a_readPlace) (a_script := a_script) (a_scriptLong := a_scriptLong) (a_now := a_now) (a_refused := a_refused) (a_shareX := a_shareX) (a_shareY := a_shareY) (a_askedRow := a_askedRow) (a_kept := a_kept) (a_aside := a_aside) (a_spelled := a_spelled) (a_image := a_image) (p1 := p1) (p2 := p2) (p3 := p3) (p4 := p4) (c_thrown := c_thrown) (c_taped := c_taped) (c_at := c_at) (c_part := c_part) (c_partFrom := c_partFrom) (c_partNumber := c_partNumber) (c_wrong := c_wrong) (c_partWord := c_partWord) (c_readLaw := c_readLaw) (c_readBound := c_readBound) (c_readGoal := c_readGoal) (c_readSites := c_readSites) (c_scripts := c_scripts) (c_sites := c_sites) (c_asked := c_asked) (c_outcome := c_outcome) (c_took := c_took) (c_acts := w_2) (c_drawn := c_drawn) (c_racer := c_racer) (c_raced := c_raced) (c_spelledMany := c_spelledMany) (c_hasImage := c_hasImage) (c_now := c_now) (c_shareX := c_shareX) (c_shareY := c_shareY) (c_askedRow := c_askedRow) hc_12) (cwV 4 hts g_f_X8_act_f_X8_doNow_337 rfl rfl rfl hd_X8_doNow ⟨Nat.le_of_ble_eq_true rfl, Nat.le_of_ble_eq_true rfl⟩) ⟨pW.blind, hrc, (pW.pre ⟨hK, hN⟩ hPc hDc)⟩ rfl rfl hl.1 rfl (lv_room (Nat.le_of_ble_eq_true rfl)) (dq_182 0 bcX8_act_0 (j := 10) (i := 337) rfl rfl rfl) ⟨Nat.le_of_ble_eq_true rfl, Nat.le_of_ble_eq_true rfl⟩) hS hFc hP hD [3, 4, 0, 1, 2] [5] rfl rfl (by decide) (by decide) (fun H locs hP hD hS => ?_)
  have h9 := fixPD (ws' := [k_I E a_kept 10600 w_1, k_X8 a_ c_thrown a_tape c_taped c_at c_part c_partFrom c_partNumber c_wrong c_partWord c_readLaw c_readBound c_readGoal c_readSites a_readPlace a_script a_scriptLong c_scripts a_now a_refused c_sites a_shareX a_shareY w_8 w_9 a_askedRow w_11 a_kept w_2 c_drawn a_aside c_racer c_raced a_spelled c_spelledMany a_image c_hasImage, k_I E a_now 265 w_5, k_I E a_shareX 8 w_6, k_I E a_shareY 8 w_7, k_I E a_askedRow 8 w_10]) hP hD rfl
  clear hP hD
  obtain ⟨hP, hD⟩ := h9
  refine lv_istore (lv' := [(5, .int r_4), (0, .ref a_), (1, .int p1), (2, .int p2), (3, .int p3), (4, .int p4)]) hx hb (dq_54 0 bcX8_act_0 (j := 13) (i := 5) rfl rfl) hl (by decide) rfl (fun ls hl => ?_)
  refine lv_aload_n hx hb (dq_42 0 bcX8_act_0 (j := 15) rfl rfl) rfl (lv_at hl 1 rfl) ?_
  refine lv_iload_n hx hb (dq_27 0 bcX8_act_0 (j := 16) rfl rfl) rfl (lv_at hl 2 rfl) ?_
  refine lv_iload_n hx hb (dq_27 0 bcX8_act_0 (j := 17) rfl rfl) rfl (lv_at hl 2 rfl) ?_
  refine lv_iconst (v := 1) hx hb (dq_4 0 bcX8_act_0 (j := 18) rfl rfl) (by decide) ?_
  refine lv_icmp_ne (tgt := 26) hx hb (dq_160 0 bcX8_act_0 (j := 19) (i := 7) rfl rfl rfl) (by decide) (fun c_13 => ?_) (fun c_13 => ?_)
  ·
    replace hF := inn c_13 hF
    refine lv_iload_n hx hb (dq_28 0 bcX8_act_0 (j := 26) rfl rfl) rfl (lv_at hl 3 rfl) ?_
    replace hF := bd1_s hF
    obtain ⟨w_14, hc_15, hF⟩ := hF
    obtain ⟨hPc, hDc, hFc⟩ := wcut (wc := (w_X8_note E a_ a_tape a_readPlace a_script a_scriptLong a_now a_refused a_shareX a_shareY a_askedRow a_kept a_aside a_spelled a_image c_thrown c_taped c_at c_part c_partFrom c_partNumber c_wrong c_partWord c_readLaw c_readBound c_readGoal c_readSites c_scripts c_sites w_8 w_9 w_11 w_2 c_drawn c_racer c_raced c_spelledMany c_hasImage w_5)) hP hD hS hA [1, 2] (by decide) rfl
    have hrc := va_recv hK hPc (ci := 9) (q0 := 0) rfl rfl
    refine cE_v (wc := (w_X8_note E a_ a_tape a_readPlace a_script a_scriptLong a_now a_refused a_shareX a_shareY a_askedRow a_kept a_aside a_spelled a_image c_thrown c_taped c_at c_part c_partFrom c_partNumber c_wrong c_partWord c_readLaw c_readBound c_readGoal c_readSites c_scripts c_sites w_8 w_9 w_11 w_2 c_drawn c_racer c_raced c_spelledMany c_hasImage w_5)) (wr := [k_I E a_kept 10600 w_1, k_I E a_shareX 8 w_6, k_I E a_shareY 8 w_7, k_I E a_askedRow 8 w_10]) (w1 := (w_X8_note E a_ a_tape a_readPlace a_script a_scriptLong a_now a_refused a_shareX a_shareY a_askedRow a_kept a_aside a_spelled a_image c_thrown c_taped c_at c_part c_partFrom c_partNumber c_wrong c_partWord c_readLaw c_readBound c_readGoal c_readSites c_scripts c_sites w_8 w_9 w_11 w_2 c_drawn c_racer c_raced c_spelledMany c_hasImage w_14)) (va_runV (As := [.int p1, .int p2]) (rest := [])  ⟨hx, hb, hml, hown, hts⟩ (f_X8_note l E H.size K (a_ := a_) (a_tape := a_tape) (a_readPlace := a_readPlace) (a_script := a_script) (a_scriptLong := a_scriptLong) (a_now := a_now) (a_refused := a_refused) (a_shareX := a_shareX) (a_shareY := a_shareY) (a_askedRow := a_askedRow) (a_kept := a_kept) (a_aside := a_aside) (a_spelled := a_spelled) (a_image := a_image) (p1 := p1) (p2 := p2) (c_thrown := c_thrown) (c_taped := c_taped) (c_at := c_at) (c_part := c_part) (c_partFrom := c_partFrom) (c_partNumber := c_partNumber) (c_wrong := c_wrong) (c_partWord := c_partWord) (c_readLaw := c_readLaw) (c_readBound := c_readBound) (c_readGoal := c_readGoal) (c_readSites := c_readSites) (c_scripts := c_scripts) (c_sites := c_sites) (c_asked := w_8) (c_outcome := w_9) (c_took := w_11) (c_acts := w_2) (c_drawn := c_drawn) (c_racer := c_racer) (c_raced := c_raced) (c_spelledMany := c_spelledMany) (c_hasImage := c_hasImage) (c_now := w_5) hc_15) (cwV 2 hts g_f_X8_act_f_X8_note_340 rfl rfl rfl hd_X8_note ⟨Nat.le_of_ble_eq_true rfl, Nat.le_of_ble_eq_true rfl⟩) ⟨pW.blind, hrc, (pW.pre ⟨hK, hN⟩ hPc hDc)⟩ rfl rfl hl.1 rfl (lv_room (Nat.le_of_ble_eq_true rfl)) (dq_182 0 bcX8_act_0 (j := 27) (i := 340) rfl rfl rfl) ⟨Nat.le_of_ble_eq_true rfl, Nat.le_of_ble_eq_true rfl⟩) hS hFc hP hD [1, 2] [0, 3, 4, 5] rfl rfl (by decide) (by decide) (fun H locs hP hD hS => ?_)
    have h9 := fixPD (ws' := [k_I E a_kept 10600 w_1, k_I E a_shareX 8 w_6, k_I E a_shareY 8 w_7, k_I E a_askedRow 8 w_10, k_X8 a_ c_thrown a_tape c_taped c_at c_part c_partFrom c_partNumber c_wrong c_partWord c_readLaw c_readBound c_readGoal c_readSites a_readPlace a_script a_scriptLong c_scripts a_now a_refused c_sites a_shareX a_shareY w_8 w_9 a_askedRow w_11 a_kept w_2 c_drawn a_aside c_racer c_raced a_spelled c_spelledMany a_image c_hasImage, k_I E a_now 265 w_14]) hP hD rfl
    clear hP hD
    obtain ⟨hP, hD⟩ := h9
    refine lv_iload hx hb (dq_21 0 bcX8_act_0 (j := 30) (i := 5) rfl rfl) (lv_at hl 0 rfl) ?_
    rw [hQ]
    have h9 := fin9 (P := fun u9 : Int32 × (Nat → Int32) × (Nat → Int32) × (Nat → Int32) × Int32 × Int32 × (Nat → Int32) × Int32 × (Nat → Int32) × Int32 => r_4 = u9.1 ∧ va_P E.1 vwCl (w_X8_act E a_ a_tape a_readPlace a_script a_scriptLong a_now a_refused a_shareX a_shareY a_askedRow a_kept a_aside a_spelled a_image c_thrown c_taped c_at c_part c_partFrom c_partNumber c_wrong c_partWord c_readLaw c_readBound c_readGoal c_readSites c_scripts c_sites u9.2.2.2.2.1 u9.2.2.2.2.2.1 u9.2.2.2.2.2.2.2.1 u9.2.2.2.2.2.2.2.2.2 c_drawn c_racer c_raced c_spelledMany c_hasImage u9.2.1 u9.2.2.1 u9.2.2.2.1 u9.2.2.2.2.2.2.1 u9.2.2.2.2.2.2.2.2.1) H ∧ va_D A (w_X8_act E a_ a_tape a_readPlace a_script a_scriptLong a_now a_refused a_shareX a_shareY a_askedRow a_kept a_aside a_spelled a_image c_thrown c_taped c_at c_part c_partFrom c_partNumber c_wrong c_partWord c_readLaw c_readBound c_readGoal c_readSites c_scripts c_sites u9.2.2.2.2.1 u9.2.2.2.2.2.1 u9.2.2.2.2.2.2.2.1 u9.2.2.2.2.2.2.2.2.2 c_drawn c_racer c_raced c_spelledMany c_hasImage u9.2.1 u9.2.2.1 u9.2.2.2.1 u9.2.2.2.2.2.2.1 u9.2.2.2.2.2.2.2.2.1)) hF ⟨rfl, hP.sub [4, 5, 1, 2, 3, 0] rfl, hD.sub [4, 5, 1, 2, 3, 0] (by decide) rfl⟩
    obtain ⟨e9_0, hP9, hD9⟩ := h9
    exact W.iret (v := r_4) hx hb hr (fun tt ht hW => ⟨⟨_, (), rfl, e9_0, ht ▸ hP9, hD9⟩, hS.F ht⟩) hS.2.2 (dq_172 0 bcX8_act_0 (j := 32) rfl rfl)
  ·
    replace hF := ip c_13 hF
    refine lv_iconst (v := -1) hx hb (dq_2 0 bcX8_act_0 (j := 22) rfl rfl) (by decide) ?_
    refine lv_goto (tgt := 27) hx hb (dq_167 0 bcX8_act_0 (j := 23) (i := 4) rfl rfl rfl) (by decide) ?_
    replace hF := bd1_s hF
    obtain ⟨w_16, hc_17, hF⟩ := hF
    obtain ⟨hPc, hDc, hFc⟩ := wcut (wc := (w_X8_note E a_ a_tape a_readPlace a_script a_scriptLong a_now a_refused a_shareX a_shareY a_askedRow a_kept a_aside a_spelled a_image c_thrown c_taped c_at c_part c_partFrom c_partNumber c_wrong c_partWord c_readLaw c_readBound c_readGoal c_readSites c_scripts c_sites w_8 w_9 w_11 w_2 c_drawn c_racer c_raced c_spelledMany c_hasImage w_5)) hP hD hS hA [1, 2] (by decide) rfl
    have hrc := va_recv hK hPc (ci := 9) (q0 := 0) rfl rfl
    refine cE_v (wc := (w_X8_note E a_ a_tape a_readPlace a_script a_scriptLong a_now a_refused a_shareX a_shareY a_askedRow a_kept a_aside a_spelled a_image c_thrown c_taped c_at c_part c_partFrom c_partNumber c_wrong c_partWord c_readLaw c_readBound c_readGoal c_readSites c_scripts c_sites w_8 w_9 w_11 w_2 c_drawn c_racer c_raced c_spelledMany c_hasImage w_5)) (wr := [k_I E a_kept 10600 w_1, k_I E a_shareX 8 w_6, k_I E a_shareY 8 w_7, k_I E a_askedRow 8 w_10]) (w1 := (w_X8_note E a_ a_tape a_readPlace a_script a_scriptLong a_now a_refused a_shareX a_shareY a_askedRow a_kept a_aside a_spelled a_image c_thrown c_taped c_at c_part c_partFrom c_partNumber c_wrong c_partWord c_readLaw c_readBound c_readGoal c_readSites c_scripts c_sites w_8 w_9 w_11 w_2 c_drawn c_racer c_raced c_spelledMany c_hasImage w_16)) (va_runV (As := [.int p1, .int (-1 : Int32)]) (rest := [])  ⟨hx, hb, hml, hown, hts⟩ (f_X8_note l E H.size K (a_ := a_) (a_tape := a_tape) (a_readPlace := a_readPlace) (a_script := a_script) (a_scriptLong := a_scriptLong) (a_now := a_now) (a_refused := a_refused) (a_shareX := a_shareX) (a_shareY := a_shareY) (a_askedRow := a_askedRow) (a_kept := a_kept) (a_aside := a_aside) (a_spelled := a_spelled) (a_image := a_image) (p1 := p1) (p2 := (-1 : Int32)) (c_thrown := c_thrown) (c_taped := c_taped) (c_at := c_at) (c_part := c_part) (c_partFrom := c_partFrom) (c_partNumber := c_partNumber) (c_wrong := c_wrong) (c_partWord := c_partWord) (c_readLaw := c_readLaw) (c_readBound := c_readBound) (c_readGoal := c_readGoal) (c_readSites := c_readSites) (c_scripts := c_scripts) (c_sites := c_sites) (c_asked := w_8) (c_outcome := w_9) (c_took := w_11) (c_acts := w_2) (c_drawn := c_drawn) (c_racer := c_racer) (c_raced := c_raced) (c_spelledMany := c_spelledMany) (c_hasImage := c_hasImage) (c_now := w_5) hc_17) (cwV 2 hts g_f_X8_act_f_X8_note_340 rfl rfl rfl hd_X8_note ⟨Nat.le_of_ble_eq_true rfl, Nat.le_of_ble_eq_true rfl⟩) ⟨pW.blind, hrc, (pW.pre ⟨hK, hN⟩ hPc hDc)⟩ rfl rfl hl.1 rfl (lv_room (Nat.le_of_ble_eq_true rfl)) (dq_182 0 bcX8_act_0 (j := 27) (i := 340) rfl rfl rfl) ⟨Nat.le_of_ble_eq_true rfl, Nat.le_of_ble_eq_true rfl⟩) hS hFc hP hD [1, 2] [0, 3, 4, 5] rfl rfl (by decide) (by decide) (fun H locs hP hD hS => ?_)
    have h9 := fixPD (ws' := [k_I E a_kept 10600 w_1, k_I E a_shareX 8 w_6, k_I E a_shareY 8 w_7, k_I E a_askedRow 8 w_10, k_X8 a_ c_thrown a_tape c_taped c_at c_part c_partFrom c_partNumber c_wrong c_partWord c_readLaw c_readBound c_readGoal c_readSites a_readPlace a_script a_scriptLong c_scripts a_now a_refused c_sites a_shareX a_shareY w_8 w_9 a_askedRow w_11 a_kept w_2 c_drawn a_aside c_racer c_raced a_spelled c_spelledMany a_image c_hasImage, k_I E a_now 265 w_16]) hP hD rfl
    clear hP hD
    obtain ⟨hP, hD⟩ := h9
    refine lv_iload hx hb (dq_21 0 bcX8_act_0 (j := 30) (i := 5) rfl rfl) (lv_at hl 0 rfl) ?_
    rw [hQ]
    have h9 := fin9 (P := fun u9 : Int32 × (Nat → Int32) × (Nat → Int32) × (Nat → Int32) × Int32 × Int32 × (Nat → Int32) × Int32 × (Nat → Int32) × Int32 => r_4 = u9.1 ∧ va_P E.1 vwCl (w_X8_act E a_ a_tape a_readPlace a_script a_scriptLong a_now a_refused a_shareX a_shareY a_askedRow a_kept a_aside a_spelled a_image c_thrown c_taped c_at c_part c_partFrom c_partNumber c_wrong c_partWord c_readLaw c_readBound c_readGoal c_readSites c_scripts c_sites u9.2.2.2.2.1 u9.2.2.2.2.2.1 u9.2.2.2.2.2.2.2.1 u9.2.2.2.2.2.2.2.2.2 c_drawn c_racer c_raced c_spelledMany c_hasImage u9.2.1 u9.2.2.1 u9.2.2.2.1 u9.2.2.2.2.2.2.1 u9.2.2.2.2.2.2.2.2.1) H ∧ va_D A (w_X8_act E a_ a_tape a_readPlace a_script a_scriptLong a_now a_refused a_shareX a_shareY a_askedRow a_kept a_aside a_spelled a_image c_thrown c_taped c_at c_part c_partFrom c_partNumber c_wrong c_partWord c_readLaw c_readBound c_readGoal c_readSites c_scripts c_sites u9.2.2.2.2.1 u9.2.2.2.2.2.1 u9.2.2.2.2.2.2.2.1 u9.2.2.2.2.2.2.2.2.2 c_drawn c_racer c_raced c_spelledMany c_hasImage u9.2.1 u9.2.2.1 u9.2.2.2.1 u9.2.2.2.2.2.2.1 u9.2.2.2.2.2.2.2.2.1)) hF ⟨rfl, hP.sub [4, 5, 1, 2, 3, 0] rfl, hD.sub [4, 5, 1, 2, 3, 0] (by decide) rfl⟩
    obtain ⟨e9_0, hP9, hD9⟩ := h9
    exact W.iret (v := r_4) hx hb hr (fun tt ht hW => ⟨⟨_, (), rfl, e9_0, ht ▸ hP9, hD9⟩, hS.F ht⟩) hS.2.2 (dq_172 0 bcX8_act_0 (j := 32) rfl rfl)

def F_X8_actOf (p0 : Int32) : Option (Int32) :=
  if p0 = (0 : Int32) then some (0 : Int32) else if p0 = (1 : Int32) then some (4 : Int32) else if p0 = (2 : Int32) then some (2 : Int32) else if p0 = (3 : Int32) then some (3 : Int32) else if p0 = (4 : Int32) then some (1 : Int32) else if p0 = (5 : Int32) then some (5 : Int32) else if p0 = (6 : Int32) then some (6 : Int32) else some (5 : Int32)

def v_f_X8_actOf : List Cond := List.cons (.code yX8_actOf cX8_actOf 1 (some .int)) (HAppend.hAppend (α := List Cond) (β := List Cond) (γ := List Cond) [] [])
theorem gw_f_X8_actOf : v_f_X8_actOf.all goodWord = true := gw_c2 (by decide +kernel) gw_nil
theorem hd_X8_actOf : yX8_actOf.cls = RX8 ∧ yX8_actOf.cls ≠ "java/lang/invoke/MethodHandle" ∧ yX8_actOf.cls ≠ "java/lang/invoke/VarHandle" ∧ (parseMethodDescriptor yX8_actOf.desc).map (fun d => d.parameters.length) = some 1 := by decide +kernel
set_option maxHeartbeats 4000000 in
set_option maxRecDepth 100000 in
theorem f_X8_actOf (l : Launch) (E : EE) {p0 : Int32} {rr : Int32} (hF : F_X8_actOf p0 = some rr) : Met l yX8_actOf v_f_X8_actOf (({ frames := 0, cells := 0, slots := 0, locals := 0 } : Room)) (va_Pc [.int p0] (pP E [])) (vp_Si (fun q : Int32 => q = rr)) 0 0 (fun _ => False) := by
  refine Met.ofW (cc := cX8_actOf) (maxL := 1) (ret := (some .int)) (by decide) rfl ?_
  intro p e s m args below meth c s₁ B hml hv
  obtain ⟨rfl, ⟨hK, hN⟩, hP⟩ := hv
  have hx := B.exec
  have hb := B.bytes
  have hr := B.returns
  have hts := atoms_spec (ws := v_f_X8_actOf) B.pre
  have hown : s.vm.findClass RX8 = some m.cls := own_of hd_X8_actOf.1 (findClass_of_methodNamed B.named)
  have hlocks : meth.locks = false := B.notSynchronized
  replace hP : va_P E.1 vwCl [] s.heap := hP
  have hl := lv_entry ([.int p0]) (n := 1) (Nat.le_of_ble_eq_true rfl)
  rw [lg_entry_eq]
  generalize (lg_sl ([.int p0]) ++ List.replicate (1 - (lg_sl ([.int p0])).length) Slot.unset).toArray = ls at hl ⊢
  have hl : lv_has ls 1 [(0, .int p0)] := hl
  obtain ⟨Q, hQ⟩ : ∃ Q : State → Prop, Q = MQ below (vp_Si (fun q : Int32 => q = rr)) #[Value.int p0] s 0 0 (fun _ => False) := ⟨_, rfl⟩
  rw [← hQ]
  change W p l e ({ frames := 0, cells := 0, slots := 0, locals := 0 } : Room) s m #[Value.int p0] below meth c s.heap [] 0 0 Q (F0 m 0 ls [])
  unfold F_X8_actOf at hF
  refine lv_iload_n hx hb (dq_26 0 bcX8_actOf_0 (j := 0) rfl rfl) rfl (lv_at hl 0 rfl) ?_
  rcases Classical.em (p0 = (0 : Int32)) with c_1_0 | c_1_0
  ·
    replace hF := ip c_1_0 hF
    refine lv_tableIn (off := 43) (tgt := 44) hx hb dX8_actOf_1 (by rw [c_1_0]; decide) (by rw [c_1_0]; decide) (by rw [c_1_0]; decide) (by decide) ?_
    refine lv_iconst (v := 0) hx hb (dq_3 0 bcX8_actOf_0 (j := 44) rfl rfl) (by decide) ?_
    rw [hQ]
    obtain e9_0 := inj1 hF
    exact W.iret (v := (0 : Int32)) hx hb hr (fun tt ht hW => ⟨_, rfl, e9_0, ht⟩) (fun _ h => by cases h) (dq_172 0 bcX8_actOf_0 (j := 45) rfl rfl)
  replace hF := inn c_1_0 hF
  rcases Classical.em (p0 = (1 : Int32)) with c_1_1 | c_1_1
  ·
    replace hF := ip c_1_1 hF
    refine lv_tableIn (off := 45) (tgt := 46) hx hb dX8_actOf_1 (by rw [c_1_1]; decide) (by rw [c_1_1]; decide) (by rw [c_1_1]; decide) (by decide) ?_
    refine lv_iconst (v := 4) hx hb (dq_7 0 bcX8_actOf_0 (j := 46) rfl rfl) (by decide) ?_
    rw [hQ]
    obtain e9_0 := inj1 hF
    exact W.iret (v := (4 : Int32)) hx hb hr (fun tt ht hW => ⟨_, rfl, e9_0, ht⟩) (fun _ h => by cases h) (dq_172 0 bcX8_actOf_0 (j := 47) rfl rfl)
  replace hF := inn c_1_1 hF
  rcases Classical.em (p0 = (2 : Int32)) with c_1_2 | c_1_2
  ·
    replace hF := ip c_1_2 hF
    refine lv_tableIn (off := 47) (tgt := 48) hx hb dX8_actOf_1 (by rw [c_1_2]; decide) (by rw [c_1_2]; decide) (by rw [c_1_2]; decide) (by decide) ?_
    refine lv_iconst (v := 2) hx hb (dq_5 48 bcX8_actOf_1 (j := 0) rfl rfl) (by decide) ?_
    rw [hQ]
    obtain e9_0 := inj1 hF
    exact W.iret (v := (2 : Int32)) hx hb hr (fun tt ht hW => ⟨_, rfl, e9_0, ht⟩) (fun _ h => by cases h) (dq_172 48 bcX8_actOf_1 (j := 1) rfl rfl)
  replace hF := inn c_1_2 hF
  rcases Classical.em (p0 = (3 : Int32)) with c_1_3 | c_1_3
  ·
    replace hF := ip c_1_3 hF
    refine lv_tableIn (off := 49) (tgt := 50) hx hb dX8_actOf_1 (by rw [c_1_3]; decide) (by rw [c_1_3]; decide) (by rw [c_1_3]; decide) (by decide) ?_
    refine lv_iconst (v := 3) hx hb (dq_6 48 bcX8_actOf_1 (j := 2) rfl rfl) (by decide) ?_
    rw [hQ]
    obtain e9_0 := inj1 hF
    exact W.iret (v := (3 : Int32)) hx hb hr (fun tt ht hW => ⟨_, rfl, e9_0, ht⟩) (fun _ h => by cases h) (dq_172 48 bcX8_actOf_1 (j := 3) rfl rfl)
  replace hF := inn c_1_3 hF
  rcases Classical.em (p0 = (4 : Int32)) with c_1_4 | c_1_4
  ·
    replace hF := ip c_1_4 hF
    refine lv_tableIn (off := 51) (tgt := 52) hx hb dX8_actOf_1 (by rw [c_1_4]; decide) (by rw [c_1_4]; decide) (by rw [c_1_4]; decide) (by decide) ?_
    refine lv_iconst (v := 1) hx hb (dq_4 48 bcX8_actOf_1 (j := 4) rfl rfl) (by decide) ?_
    rw [hQ]
    obtain e9_0 := inj1 hF
    exact W.iret (v := (1 : Int32)) hx hb hr (fun tt ht hW => ⟨_, rfl, e9_0, ht⟩) (fun _ h => by cases h) (dq_172 48 bcX8_actOf_1 (j := 5) rfl rfl)
  replace hF := inn c_1_4 hF
  rcases Classical.em (p0 = (5 : Int32)) with c_1_5 | c_1_5
  ·
    replace hF := ip c_1_5 hF
    refine lv_tableIn (off := 56) (tgt := 57) hx hb dX8_actOf_1 (by rw [c_1_5]; decide) (by rw [c_1_5]; decide) (by rw [c_1_5]; decide) (by decide) ?_
    refine lv_iconst (v := 5) hx hb (dq_8 48 bcX8_actOf_1 (j := 9) rfl rfl) (by decide) ?_
    rw [hQ]
    obtain e9_0 := inj1 hF
    exact W.iret (v := (5 : Int32)) hx hb hr (fun tt ht hW => ⟨_, rfl, e9_0, ht⟩) (fun _ h => by cases h) (dq_172 48 bcX8_actOf_1 (j := 10) rfl rfl)
  replace hF := inn c_1_5 hF
  rcases Classical.em (p0 = (6 : Int32)) with c_1_6 | c_1_6
  ·
    replace hF := ip c_1_6 hF
    refine lv_tableIn (off := 53) (tgt := 54) hx hb dX8_actOf_1 (by rw [c_1_6]; decide) (by rw [c_1_6]; decide) (by rw [c_1_6]; decide) (by decide) ?_
    refine lv_bipush (v := 6) hx hb (dq_16 48 bcX8_actOf_1 (j := 6) (i := 6) rfl rfl rfl) (by decide) ?_
    rw [hQ]
    obtain e9_0 := inj1 hF
    exact W.iret (v := (6 : Int32)) hx hb hr (fun tt ht hW => ⟨_, rfl, e9_0, ht⟩) (fun _ h => by cases h) (dq_172 48 bcX8_actOf_1 (j := 8) rfl rfl)
  replace hF := inn c_1_6 hF
  refine lv_tableOut (tgt := 57) hx hb dX8_actOf_1 (by have t0 : (0 : Int32).toInt = 0 := (by decide); have t1 : (1 : Int32).toInt = 1 := (by decide); have t2 : (2 : Int32).toInt = 2 := (by decide); have t3 : (3 : Int32).toInt = 3 := (by decide); have t4 : (4 : Int32).toInt = 4 := (by decide); have t5 : (5 : Int32).toInt = 5 := (by decide); have t6 : (6 : Int32).toInt = 6 := (by decide); simp only [← Int32.toInt_inj, t0, t1, t2, t3, t4, t5, t6] at c_1_0 c_1_1 c_1_2 c_1_3 c_1_4 c_1_5 c_1_6; omega) (by decide) ?_
  refine lv_iconst (v := 5) hx hb (dq_8 48 bcX8_actOf_1 (j := 9) rfl rfl) (by decide) ?_
  rw [hQ]
  obtain e9_0 := inj1 hF
  exact W.iret (v := (5 : Int32)) hx hb hr (fun tt ht hW => ⟨_, rfl, e9_0, ht⟩) (fun _ h => by cases h) (dq_172 48 bcX8_actOf_1 (j := 10) rfl rfl)

def F_X8_in (p0 : Int64) (p1 : Int64) (p2 : Int64) : Option (Int32) :=
  if lg_cmp p0 p1 < (0 : Int32) then some (0 : Int32) else if (0 : Int32) < lg_cmp p0 p2 then some (0 : Int32) else some (1 : Int32)

def v_f_X8_in : List Cond := List.cons (.code yX8_in cX8_in 6 (some .boolean)) (HAppend.hAppend (α := List Cond) (β := List Cond) (γ := List Cond) [] [])
theorem gw_f_X8_in : v_f_X8_in.all goodWord = true := gw_c2 (by decide +kernel) gw_nil
theorem hd_X8_in : yX8_in.cls = RX8 ∧ yX8_in.cls ≠ "java/lang/invoke/MethodHandle" ∧ yX8_in.cls ≠ "java/lang/invoke/VarHandle" ∧ (parseMethodDescriptor yX8_in.desc).map (fun d => d.parameters.length) = some 3 := by decide +kernel
set_option maxHeartbeats 4000000 in
set_option maxRecDepth 100000 in
theorem f_X8_in (l : Launch) (E : EE) {p0 : Int64} {p1 : Int64} {p2 : Int64} {rr : Int32} (hF : F_X8_in p0 p1 p2 = some rr) : Met l yX8_in v_f_X8_in (({ frames := 0, cells := 0, slots := 0, locals := 0 } : Room)) (va_Pc [.long p0, .long p1, .long p2] (pP E [])) (vp_Si (fun q : Int32 => q = rr ∧ (q = 0 ∨ q = 1))) 0 0 (fun _ => False) := by
  refine Met.ofW (cc := cX8_in) (maxL := 6) (ret := (some .boolean)) (by decide) rfl ?_
  intro p e s m args below meth c s₁ B hml hv
  obtain ⟨rfl, ⟨hK, hN⟩, hP⟩ := hv
  have hx := B.exec
  have hb := B.bytes
  have hr := B.returns
  have hts := atoms_spec (ws := v_f_X8_in) B.pre
  have hown : s.vm.findClass RX8 = some m.cls := own_of hd_X8_in.1 (findClass_of_methodNamed B.named)
  have hlocks : meth.locks = false := B.notSynchronized
  replace hP : va_P E.1 vwCl [] s.heap := hP
  have hl := lv_entry ([.long p0, .long p1, .long p2]) (n := 6) (Nat.le_of_ble_eq_true rfl)
  rw [lg_entry_eq]
  generalize (lg_sl ([.long p0, .long p1, .long p2]) ++ List.replicate (6 - (lg_sl ([.long p0, .long p1, .long p2])).length) Slot.unset).toArray = ls at hl ⊢
  have hl : lv_has ls 6 [(0, .long p0), (2, .long p1), (4, .long p2)] := hl
  obtain ⟨Q, hQ⟩ : ∃ Q : State → Prop, Q = MQ below (vp_Si (fun q : Int32 => q = rr ∧ (q = 0 ∨ q = 1))) #[Value.long p0, Value.long p1, Value.long p2] s 0 0 (fun _ => False) := ⟨_, rfl⟩
  rw [← hQ]
  change W p l e ({ frames := 0, cells := 0, slots := 0, locals := 0 } : Room) s m #[Value.long p0, Value.long p1, Value.long p2] below meth c s.heap [] 0 0 Q (F0 m 0 ls [])
  unfold F_X8_in at hF
  refine lv_lload_n hx hb (dq_30 0 bcX8_in_0 (j := 0) rfl rfl) rfl (lv_at hl 0 rfl) ?_
  refine lv_lload_n hx hb (dq_32 0 bcX8_in_0 (j := 1) rfl rfl) rfl (lv_at hl 1 rfl) ?_
  refine W.lcmp hx hb (dq_148 0 bcX8_in_0 (j := 2) rfl rfl) ?_
  refine lv_if_lt (tgt := 17) hx hb (dq_155 0 bcX8_in_0 (j := 3) (i := 14) rfl rfl rfl) (by decide) (fun c_1 => ?_) (fun c_1 => ?_)
  ·
    replace hF := ip c_1 hF
    refine lv_iconst (v := 0) hx hb (dq_3 0 bcX8_in_0 (j := 17) rfl rfl) (by decide) ?_
    rw [hQ]
    obtain e9_0 := inj1 hF
    exact W.zret (v := (0 : Int32)) hx hb hr rfl (fun tt ht hW => ⟨_, rfl, ⟨e9_0, Or.inl rfl⟩, ht⟩) (fun _ h => by cases h) (dq_172 0 bcX8_in_0 (j := 18) rfl rfl)
  ·
    replace hF := inn c_1 hF
    refine lv_lload_n hx hb (dq_30 0 bcX8_in_0 (j := 6) rfl rfl) rfl (lv_at hl 0 rfl) ?_
    refine lv_lload hx hb (dq_22 0 bcX8_in_0 (j := 7) (i := 4) rfl rfl) (lv_at hl 2 rfl) ?_
    refine W.lcmp hx hb (dq_148 0 bcX8_in_0 (j := 9) rfl rfl) ?_
    refine lv_if_gt (tgt := 17) hx hb (dq_157 0 bcX8_in_0 (j := 10) (i := 7) rfl rfl rfl) (by decide) (fun c_2 => ?_) (fun c_2 => ?_)
    ·
      replace hF := ip c_2 hF
      refine lv_iconst (v := 0) hx hb (dq_3 0 bcX8_in_0 (j := 17) rfl rfl) (by decide) ?_
      rw [hQ]
      obtain e9_0 := inj1 hF
      exact W.zret (v := (0 : Int32)) hx hb hr rfl (fun tt ht hW => ⟨_, rfl, ⟨e9_0, Or.inl rfl⟩, ht⟩) (fun _ h => by cases h) (dq_172 0 bcX8_in_0 (j := 18) rfl rfl)
    ·
      replace hF := inn c_2 hF
      refine lv_iconst (v := 1) hx hb (dq_4 0 bcX8_in_0 (j := 13) rfl rfl) (by decide) ?_
      refine lv_goto (tgt := 18) hx hb (dq_167 0 bcX8_in_0 (j := 14) (i := 4) rfl rfl rfl) (by decide) ?_
      rw [hQ]
      obtain e9_0 := inj1 hF
      exact W.zret (v := (1 : Int32)) hx hb hr rfl (fun tt ht hW => ⟨_, rfl, ⟨e9_0, Or.inr rfl⟩, ht⟩) (fun _ h => by cases h) (dq_172 0 bcX8_in_0 (j := 18) rfl rfl)

def F_X8_isSite (p1 : Int32) (c_sites : Int32) : Option (Int32) :=
  bd1 (F_X8_in p1.toInt64 (0 : Int64) ((c_sites - (1 : Int32)).toInt64)) (fun r_1 => some r_1)
abbrev w_X8_isSite (E : EE) (a_ a_tape a_readPlace a_script a_scriptLong a_now a_refused a_shareX a_shareY a_askedRow a_kept a_aside a_spelled a_image : Nat) (c_thrown : Int32) (c_taped : Int32) (c_at : Int32) (c_part : Int32) (c_partFrom : Int32) (c_partNumber : Int32) (c_wrong : Int32) (c_partWord : Int64) (c_readLaw : Int32) (c_readBound : Int32) (c_readGoal : Int32) (c_readSites : Int32) (c_scripts : Int32) (c_sites : Int32) (c_asked : Int32) (c_outcome : Int32) (c_took : Int32) (c_acts : Int32) (c_drawn : Int64) (c_racer : Int32) (c_raced : Int32) (c_spelledMany : Int32) (c_hasImage : Int32) : va_W := [k_X8 a_ c_thrown a_tape c_taped c_at c_part c_partFrom c_partNumber c_wrong c_partWord c_readLaw c_readBound c_readGoal c_readSites a_readPlace a_script a_scriptLong c_scripts a_now a_refused c_sites a_shareX a_shareY c_asked c_outcome a_askedRow c_took a_kept c_acts c_drawn a_aside c_racer c_raced a_spelled c_spelledMany a_image c_hasImage]
def v_f_X8_isSite : List Cond := List.cons (.code yX8_isSite cX8_isSite 2 (some .boolean)) (HAppend.hAppend (α := List Cond) (β := List Cond) (γ := List Cond) [.fieldLink RX8 196 "HushWatchModel" "sites" "I", .methodLink RX8 60 yX8_in, .static yX8_in, .initialized RX8] (HAppend.hAppend (α := List Cond) (β := List Cond) (γ := List Cond) wsX80 (HAppend.hAppend (α := List Cond) (β := List Cond) (γ := List Cond) v_f_X8_in [])))
theorem gw_f_X8_isSite : v_f_X8_isSite.all goodWord = true := gw_c2 (by decide +kernel) (gw_ap gw_wsX80 (gw_ap gw_f_X8_in gw_nil))
theorem i_f_X8_isSite_X8 : ∀ w ∈ wsX80, w ∈ v_f_X8_isSite := fun _ h => List.mem_cons_of_mem _ (List.mem_append_right _ (List.mem_append_left _ h))
theorem g_f_X8_isSite_f_X8_in_60 : GoodIn v_f_X8_isSite (va_wsS RX8 60 yX8_in v_f_X8_in) := goodIn_in gw_f_X8_isSite (in3 2 3 4 rfl rfl rfl (fun _ h => List.mem_cons_of_mem _ (List.mem_append_right _ (List.mem_append_right _ (List.mem_append_left _ h)))))
theorem hd_X8_isSite : yX8_isSite.cls = RX8 ∧ yX8_isSite.cls ≠ "java/lang/invoke/MethodHandle" ∧ yX8_isSite.cls ≠ "java/lang/invoke/VarHandle" ∧ (parseMethodDescriptor yX8_isSite.desc).map (fun d => d.parameters.length) = some 1 := by decide +kernel
set_option maxHeartbeats 4000000 in
set_option maxRecDepth 100000 in
theorem f_X8_isSite (l : Launch) (E : EE) {a_ a_tape a_readPlace a_script a_scriptLong a_now a_refused a_shareX a_shareY a_askedRow a_kept a_aside a_spelled a_image : Nat} {p1 : Int32} {c_thrown : Int32} {c_taped : Int32} {c_at : Int32} {c_part : Int32} {c_partFrom : Int32} {c_partNumber : Int32} {c_wrong : Int32} {c_partWord : Int64} {c_readLaw : Int32} {c_readBound : Int32} {c_readGoal : Int32} {c_readSites : Int32} {c_scripts : Int32} {c_sites : Int32} {c_asked : Int32} {c_outcome : Int32} {c_took : Int32} {c_acts : Int32} {c_drawn : Int64} {c_racer : Int32} {c_raced : Int32} {c_spelledMany : Int32} {c_hasImage : Int32} {rr : Int32} (hF : F_X8_isSite p1 c_sites = some rr) : Met l yX8_isSite v_f_X8_isSite (({ frames := 1, cells := 0, slots := 0, locals := 25 } : Room)) (va_Pc [.ref a_, .int p1] (pP E (w_X8_isSite E a_ a_tape a_readPlace a_script a_scriptLong a_now a_refused a_shareX a_shareY a_askedRow a_kept a_aside a_spelled a_image c_thrown c_taped c_at c_part c_partFrom c_partNumber c_wrong c_partWord c_readLaw c_readBound c_readGoal c_readSites c_scripts c_sites c_asked c_outcome c_took c_acts c_drawn c_racer c_raced c_spelledMany c_hasImage))) (vp_Si (fun q : Int32 => q = rr ∧ (q = 0 ∨ q = 1))) 0 0 (fun _ => False) := by
  refine Met.ofW (cc := cX8_isSite) (maxL := 2) (ret := (some .boolean)) (by decide) rfl ?_
  intro p e s m args below meth c s₁ B hml hv
  obtain ⟨rfl, ⟨hK, hN⟩, hP⟩ := hv
  have hx := B.exec
  have hb := B.bytes
  have hr := B.returns
  have hts := atoms_spec (ws := v_f_X8_isSite) B.pre
  have hown : s.vm.findClass RX8 = some m.cls := own_of hd_X8_isSite.1 (findClass_of_methodNamed B.named)
  have hlocks : meth.locks = false := B.notSynchronized
  replace hP : va_P E.1 vwCl [k_X8 a_ c_thrown a_tape c_taped c_at c_part c_partFrom c_partNumber c_wrong c_partWord c_readLaw c_readBound c_readGoal c_readSites a_readPlace a_script a_scriptLong c_scripts a_now a_refused c_sites a_shareX a_shareY c_asked c_outcome a_askedRow c_took a_kept c_acts c_drawn a_aside c_racer c_raced a_spelled c_spelledMany a_image c_hasImage] s.heap := hP
  have hl := lv_entry ([.ref a_, .int p1]) (n := 2) (Nat.le_of_ble_eq_true rfl)
  rw [lg_entry_eq]
  generalize (lg_sl ([.ref a_, .int p1]) ++ List.replicate (2 - (lg_sl ([.ref a_, .int p1])).length) Slot.unset).toArray = ls at hl ⊢
  have hl : lv_has ls 2 [(0, .ref a_), (1, .int p1)] := hl
  obtain ⟨Q, hQ⟩ : ∃ Q : State → Prop, Q = MQ below (vp_Si (fun q : Int32 => q = rr ∧ (q = 0 ∨ q = 1))) #[Value.ref a_, Value.int p1] s 0 0 (fun _ => False) := ⟨_, rfl⟩
  rw [← hQ]
  change W p l e ({ frames := 1, cells := 0, slots := 0, locals := 25 } : Room) s m #[Value.ref a_, Value.int p1] below meth c s.heap [] 0 0 Q (F0 m 0 ls [])
  unfold F_X8_isSite at hF
  refine lv_iload_n hx hb (dq_27 0 bcX8_isSite_0 (j := 0) rfl rfl) rfl (lv_at hl 1 rfl) ?_
  refine lv_i2l (v := p1.toInt64) hx hb (dq_133 0 bcX8_isSite_0 (j := 1) rfl rfl) rfl ?_
  refine lv_lconst (v := 0) hx hb (dq_9 0 bcX8_isSite_0 (j := 2) rfl rfl) (by decide) ?_
  refine lv_aload_n hx hb (dq_42 0 bcX8_isSite_0 (j := 3) rfl rfl) rfl (lv_at hl 0 rfl) ?_
  refine gt_X8_19 (v := .int c_sites) hx hb hts i_f_X8_isSite_X8 hown hK hP 0 rfl (hts (.fieldLink RX8 196 "HushWatchModel" "sites" "I") (List.mem_of_getElem? (i := 1) rfl)) rfl (dq_180 0 bcX8_isSite_0 (j := 4) (i := 196) rfl rfl rfl) ?_
  refine lv_iconst (v := 1) hx hb (dq_4 0 bcX8_isSite_0 (j := 7) rfl rfl) (by decide) ?_
  refine lv_isub hx hb (dq_100 0 bcX8_isSite_0 (j := 8) rfl rfl) ?_
  refine lv_i2l (v := (c_sites - (1 : Int32)).toInt64) hx hb (dq_133 0 bcX8_isSite_0 (j := 9) rfl rfl) rfl ?_
  replace hF := bd1_s hF
  obtain ⟨r_1, hc_2, hF⟩ := hF
  have hPc : va_P E.1 vwCl [] s.heap := fun k q h => by simp at h
  refine pE_z (va_runS (As := [.long p1.toInt64, .long (0 : Int64), .long ((c_sites - (1 : Int32)).toInt64)]) (rest := [])  ⟨hx, hb, hml, hown, hts⟩ (f_X8_in l E (p0 := p1.toInt64) (p1 := (0 : Int64)) (p2 := (c_sites - (1 : Int32)).toInt64) hc_2) (va_cwS 3 hts g_f_X8_isSite_f_X8_in_60 rfl rfl rfl hd_X8_in.2 ⟨Nat.le_of_ble_eq_true rfl, Nat.le_of_ble_eq_true rfl⟩) ⟨pP.blind, (pP.pre ⟨hK, hN⟩ hPc)⟩ rfl rfl hl.1 rfl (lv_room (Nat.le_of_ble_eq_true rfl)) (dq_184 0 bcX8_isSite_0 (j := 10) (i := 60) rfl rfl rfl) ⟨Nat.le_of_ble_eq_true rfl, Nat.le_of_ble_eq_true rfl⟩) (fun hb_3 => ?_)
  rw [hQ]
  obtain e9_0 := inj1 hF
  exact W.zret (v := r_1) hx hb hr (nar_bool hb_3) (fun tt ht hW => ⟨_, rfl, ⟨e9_0, hb_3⟩, ht⟩) (fun _ h => by cases h) (dq_172 0 bcX8_isSite_0 (j := 13) rfl rfl)

def J_X8_whyMove_90 (p1 : Int32) (p2 : Int32) (p3 : Int32) (c_now : Nat → Int32) (k0 : Int32) : Option (Int32) :=
  if k0 = (0 : Int32) then some (1 : Int32) else if p2 = (0 : Int32) then if p3 = (0 : Int32) then some (2 : Int32) else bd1 (F_X8_isFrozen p1 c_now) (fun r_16 => if r_16 = (0 : Int32) then some (-1 : Int32) else some (2 : Int32)) else bd1 (F_X8_isFrozen p1 c_now) (fun r_11 => if r_11 = (0 : Int32) then some (-1 : Int32) else some (2 : Int32))
def J_X8_whyMove_89 (p1 : Int32) (p2 : Int32) (p3 : Int32) (c_now : Nat → Int32) : Option (Int32) :=
  J_X8_whyMove_90 p1 p2 p3 c_now (0 : Int32)
def F_X8_whyMove (p1 : Int32) (p2 : Int32) (p3 : Int32) (c_now : Nat → Int32) (c_sites : Int32) : Option (Int32) :=
  bd1 (F_X8_isSite p1 c_sites) (fun r_1 => if r_1 = (0 : Int32) then some (0 : Int32) else bd1 (F_X8_in p2.toInt64 (-9999 : Int64) (9999 : Int64)) (fun r_5 => if r_5 = (0 : Int32) then J_X8_whyMove_89 p1 p2 p3 c_now else bd1 (F_X8_in p3.toInt64 (-9999 : Int64) (9999 : Int64)) (fun r_20 => if r_20 = (0 : Int32) then J_X8_whyMove_89 p1 p2 p3 c_now else ixF ((0 : Int32) + p1) 265 (bd1 (F_X8_in (((c_now ((0 : Int32) + p1).toNatClampNeg) + p2).toInt64) (-99999 : Int64) (99999 : Int64)) (fun r_25 => if r_25 = (0 : Int32) then J_X8_whyMove_89 p1 p2 p3 c_now else ixF ((8 : Int32) + p1) 265 (bd1 (F_X8_in (((c_now ((8 : Int32) + p1).toNatClampNeg) + p3).toInt64) (-99999 : Int64) (99999 : Int64)) (fun r_30 => if r_30 = (0 : Int32) then J_X8_whyMove_89 p1 p2 p3 c_now else J_X8_whyMove_90 p1 p2 p3 c_now (1 : Int32))))))))
abbrev w_X8_whyMove (E : EE) (a_ a_tape a_readPlace a_script a_scriptLong a_now a_refused a_shareX a_shareY a_askedRow a_kept a_aside a_spelled a_image : Nat) (c_thrown : Int32) (c_taped : Int32) (c_at : Int32) (c_part : Int32) (c_partFrom : Int32) (c_partNumber : Int32) (c_wrong : Int32) (c_partWord : Int64) (c_readLaw : Int32) (c_readBound : Int32) (c_readGoal : Int32) (c_readSites : Int32) (c_scripts : Int32) (c_sites : Int32) (c_asked : Int32) (c_outcome : Int32) (c_took : Int32) (c_acts : Int32) (c_drawn : Int64) (c_racer : Int32) (c_raced : Int32) (c_spelledMany : Int32) (c_hasImage : Int32) (c_now : Nat → Int32) : va_W := [k_X8 a_ c_thrown a_tape c_taped c_at c_part c_partFrom c_partNumber c_wrong c_partWord c_readLaw c_readBound c_readGoal c_readSites a_readPlace a_script a_scriptLong c_scripts a_now a_refused c_sites a_shareX a_shareY c_asked c_outcome a_askedRow c_took a_kept c_acts c_drawn a_aside c_racer c_raced a_spelled c_spelledMany a_image c_hasImage, k_I E a_now 265 c_now]
def v_f_X8_whyMove : List Cond := List.cons (.code yX8_whyMove cX8_whyMove 5 (some .int)) (HAppend.hAppend (α := List Cond) (β := List Cond) (γ := List Cond) [.constantLong RX8 281 (-9999), .constantLong RX8 283 (9999), .fieldLink RX8 22 "HushWatchModel" "now" "[I", .constantLong RX8 285 (-99999), .constantLong RX8 287 (99999), .methodLink RX8 278 yX8_isSite, .instanceMethod yX8_isSite, .selects RX8 yX8_isSite yX8_isSite, .initialized RX8, .methodLink RX8 60 yX8_in, .static yX8_in, .methodLink RX8 257 yX8_isFrozen, .instanceMethod yX8_isFrozen, .selects RX8 yX8_isFrozen yX8_isFrozen] (HAppend.hAppend (α := List Cond) (β := List Cond) (γ := List Cond) v_f_X8_isSite (HAppend.hAppend (α := List Cond) (β := List Cond) (γ := List Cond) v_f_X8_in (HAppend.hAppend (α := List Cond) (β := List Cond) (γ := List Cond) v_f_X8_isFrozen (HAppend.hAppend (α := List Cond) (β := List Cond) (γ := List Cond) wsX80 [])))))
theorem gw_f_X8_whyMove : v_f_X8_whyMove.all goodWord = true := gw_c2 (by decide +kernel) (gw_ap gw_f_X8_isSite (gw_ap gw_f_X8_in (gw_ap gw_f_X8_isFrozen (gw_ap gw_wsX80 gw_nil))))
theorem i_f_X8_whyMove_X8 : ∀ w ∈ wsX80, w ∈ v_f_X8_whyMove := fun _ h => List.mem_cons_of_mem _ (List.mem_append_right _ (List.mem_append_right _ (List.mem_append_right _ (List.mem_append_right _ (List.mem_append_left _ h)))))
theorem g_f_X8_whyMove_f_X8_isSite_278 : GoodIn v_f_X8_whyMove (wsV RX8 278 RX8 yX8_isSite v_f_X8_isSite) := goodIn_in gw_f_X8_whyMove (in4 6 7 8 9 rfl rfl rfl rfl (fun _ h => List.mem_cons_of_mem _ (List.mem_append_right _ (List.mem_append_left _ h))))
theorem g_f_X8_whyMove_f_X8_in_60 : GoodIn v_f_X8_whyMove (va_wsS RX8 60 yX8_in v_f_X8_in) := goodIn_in gw_f_X8_whyMove (in3 10 11 9 rfl rfl rfl (fun _ h => List.mem_cons_of_mem _ (List.mem_append_right _ (List.mem_append_right _ (List.mem_append_left _ h)))))
theorem g_f_X8_whyMove_f_X8_isFrozen_257 : GoodIn v_f_X8_whyMove (wsV RX8 257 RX8 yX8_isFrozen v_f_X8_isFrozen) := goodIn_in gw_f_X8_whyMove (in4 12 13 14 9 rfl rfl rfl rfl (fun _ h => List.mem_cons_of_mem _ (List.mem_append_right _ (List.mem_append_right _ (List.mem_append_right _ (List.mem_append_left _ h))))))
theorem hd_X8_whyMove : yX8_whyMove.cls = RX8 ∧ yX8_whyMove.cls ≠ "java/lang/invoke/MethodHandle" ∧ yX8_whyMove.cls ≠ "java/lang/invoke/VarHandle" ∧ (parseMethodDescriptor yX8_whyMove.desc).map (fun d => d.parameters.length) = some 3 := by decide +kernel
set_option maxHeartbeats 4000000 in
set_option maxRecDepth 100000 in
theorem j_X8_whyMove_90 {p : Program} (l : Launch) {e : Env} {s : State} {m : MethodId} {below : List Frame} {meth : Method} {c : Code} {Q : State → Prop} (E : EE) {a_ a_tape a_readPlace a_script a_scriptLong a_now a_refused a_shareX a_shareY a_askedRow a_kept a_aside a_spelled a_image : Nat} {p1 : Int32} {p2 : Int32} {p3 : Int32} {c_thrown : Int32} {c_taped : Int32} {c_at : Int32} {c_part : Int32} {c_partFrom : Int32} {c_partNumber : Int32} {c_wrong : Int32} {c_partWord : Int64} {c_readLaw : Int32} {c_readBound : Int32} {c_readGoal : Int32} {c_readSites : Int32} {c_scripts : Int32} {c_sites : Int32} {c_asked : Int32} {c_outcome : Int32} {c_took : Int32} {c_acts : Int32} {c_drawn : Int64} {c_racer : Int32} {c_raced : Int32} {c_spelledMany : Int32} {c_hasImage : Int32} {c_now : Nat → Int32} {k0 : Int32} (hx : p.tables.exec = Jvm.exec) (hb : c.code = cX8_whyMove) (hml : c.maxLocals = 5) (hown : s.vm.findClass RX8 = some m.cls) (hts : ∀ w ∈ v_f_X8_whyMove, w.before #[Value.ref a_, Value.int p1, Value.int p2, Value.int p3] s = true) (hK : va_K E.1 vwCl (TY E) s) (hN : NX s) {rr : Int32} (hr : meth.sig.returnType = (some .int)) (hlocks : meth.locks = false) (hQ : Q = MQ below (vp_Si (fun q : Int32 => q = rr)) #[Value.ref a_, Value.int p1, Value.int p2, Value.int p3] s 0 0 (fun _ => False)) (hF : J_X8_whyMove_90 p1 p2 p3 c_now k0 = some rr) (hP : va_P E.1 vwCl (w_X8_whyMove E a_ a_tape a_readPlace a_script a_scriptLong a_now a_refused a_shareX a_shareY a_askedRow a_kept a_aside a_spelled a_image c_thrown c_taped c_at c_part c_partFrom c_partNumber c_wrong c_partWord c_readLaw c_readBound c_readGoal c_readSites c_scripts c_sites c_asked c_outcome c_took c_acts c_drawn c_racer c_raced c_spelledMany c_hasImage c_now) s.heap) : ∀ (ls : Array Slot), lv_has ls 5 [(0, .ref a_), (1, .int p1), (2, .int p2), (3, .int p3)] → W p l e ({ frames := 2, cells := 0, slots := 0, locals := 46 } : Room) s m #[Value.ref a_, Value.int p1, Value.int p2, Value.int p3] below meth c s.heap [] 0 0 Q (F0 m 90 ls [.int k0]) := by
  unfold J_X8_whyMove_90 at hF
  replace hP : va_P E.1 vwCl [k_X8 a_ c_thrown a_tape c_taped c_at c_part c_partFrom c_partNumber c_wrong c_partWord c_readLaw c_readBound c_readGoal c_readSites a_readPlace a_script a_scriptLong c_scripts a_now a_refused c_sites a_shareX a_shareY c_asked c_outcome a_askedRow c_took a_kept c_acts c_drawn a_aside c_racer c_raced a_spelled c_spelledMany a_image c_hasImage, k_I E a_now 265 c_now] s.heap := hP
  intro ls hl
  refine lv_istore (lv' := [(4, .int k0), (0, .ref a_), (1, .int p1), (2, .int p2), (3, .int p3)]) hx hb (dq_54 48 bcX8_whyMove_1 (j := 42) (i := 4) rfl rfl) hl (by decide) rfl (fun ls hl => ?_)
  refine lv_iload hx hb (dq_21 48 bcX8_whyMove_1 (j := 44) (i := 4) rfl rfl) (lv_at hl 0 rfl) ?_
  refine lv_if_ne (tgt := 101) hx hb (dq_154 48 bcX8_whyMove_1 (j := 46) (i := 7) rfl rfl rfl) (by decide) (fun c_9 => ?_) (fun c_9 => ?_)
  ·
    replace hF := inn c_9 hF
    refine lv_iload_n hx hb (dq_28 96 bcX8_whyMove_2 (j := 5) rfl rfl) rfl (lv_at hl 3 rfl) ?_
    refine lv_if_ne (tgt := 109) hx hb (dq_154 96 bcX8_whyMove_2 (j := 6) (i := 7) rfl rfl rfl) (by decide) (fun c_10 => ?_) (fun c_10 => ?_)
    ·
      replace hF := inn c_10 hF
      refine lv_aload_n hx hb (dq_42 96 bcX8_whyMove_2 (j := 13) rfl rfl) rfl (lv_at hl 1 rfl) ?_
      refine lv_iload_n hx hb (dq_27 96 bcX8_whyMove_2 (j := 14) rfl rfl) rfl (lv_at hl 2 rfl) ?_
      replace hF := bd1_s hF
      obtain ⟨r_11, hc_12, hF⟩ := hF
      have hPc : va_P E.1 vwCl (w_X8_isFrozen E a_ a_tape a_readPlace a_script a_scriptLong a_now a_refused a_shareX a_shareY a_askedRow a_kept a_aside a_spelled a_image c_thrown c_taped c_at c_part c_partFrom c_partNumber c_wrong c_partWord c_readLaw c_readBound c_readGoal c_readSites c_scripts c_sites c_asked c_outcome c_took c_acts c_drawn c_racer c_raced c_spelledMany c_hasImage c_now) s.heap := hP.sub (ws' := [k_X8 a_ c_thrown a_tape c_taped c_at c_part c_partFrom c_partNumber c_wrong c_partWord c_readLaw c_readBound c_readGoal c_readSites a_readPlace a_script a_scriptLong c_scripts a_now a_refused c_sites a_shareX a_shareY c_asked c_outcome a_askedRow c_took a_kept c_acts c_drawn a_aside c_racer c_raced a_spelled c_spelledMany a_image c_hasImage, k_I E a_now 265 c_now]) [0, 1] rfl
      have hrc := va_recv hK hPc (ci := 9) (q0 := 0) rfl rfl
      refine pE_z (va_runV (As := [.int p1]) (rest := [])  ⟨hx, hb, hml, hown, hts⟩ (f_X8_isFrozen l E (a_ := a_) (a_tape := a_tape) (a_readPlace := a_readPlace) (a_script := a_script) (a_scriptLong := a_scriptLong) (a_now := a_now) (a_refused := a_refused) (a_shareX := a_shareX) (a_shareY := a_shareY) (a_askedRow := a_askedRow) (a_kept := a_kept) (a_aside := a_aside) (a_spelled := a_spelled) (a_image := a_image) (p1 := p1) (c_thrown := c_thrown) (c_taped := c_taped) (c_at := c_at) (c_part := c_part) (c_partFrom := c_partFrom) (c_partNumber := c_partNumber) (c_wrong := c_wrong) (c_partWord := c_partWord) (c_readLaw := c_readLaw) (c_readBound := c_readBound) (c_readGoal := c_readGoal) (c_readSites := c_readSites) (c_scripts := c_scripts) (c_sites := c_sites) (c_asked := c_asked) (c_outcome := c_outcome) (c_took := c_took) (c_acts := c_acts) (c_drawn := c_drawn) (c_racer := c_racer) (c_raced := c_raced) (c_spelledMany := c_spelledMany) (c_hasImage := c_hasImage) (c_now := c_now) hc_12) (cwV 1 hts g_f_X8_whyMove_f_X8_isFrozen_257 rfl rfl rfl hd_X8_isFrozen ⟨Nat.le_of_ble_eq_true rfl, Nat.le_of_ble_eq_true rfl⟩) ⟨pP.blind, hrc, (pP.pre ⟨hK, hN⟩ hPc)⟩ rfl rfl hl.1 rfl (lv_room (Nat.le_of_ble_eq_true rfl)) (dq_182 96 bcX8_whyMove_2 (j := 15) (i := 257) rfl rfl rfl) ⟨Nat.le_of_ble_eq_true rfl, Nat.le_of_ble_eq_true rfl⟩) (fun hb_13 => ?_)
      refine lv_if_eq (tgt := 121) hx hb (dq_153 96 bcX8_whyMove_2 (j := 18) (i := 7) rfl rfl rfl) (by decide) (fun c_14 => ?_) (fun c_14 => ?_)
      ·
        replace hF := ip c_14 hF
        refine lv_iconst (v := -1) hx hb (dq_2 96 bcX8_whyMove_2 (j := 25) rfl rfl) (by decide) ?_
        rw [hQ]
        obtain e9_0 := inj1 hF
        exact W.iret (v := (-1 : Int32)) hx hb hr (fun tt ht hW => ⟨_, rfl, e9_0, ht⟩) (fun _ h => by cases h) (dq_172 96 bcX8_whyMove_2 (j := 26) rfl rfl)
      ·
        replace hF := inn c_14 hF
        refine lv_iconst (v := 2) hx hb (dq_5 96 bcX8_whyMove_2 (j := 21) rfl rfl) (by decide) ?_
        refine lv_goto (tgt := 122) hx hb (dq_167 96 bcX8_whyMove_2 (j := 22) (i := 4) rfl rfl rfl) (by decide) ?_
        rw [hQ]
        obtain e9_0 := inj1 hF
        exact W.iret (v := (2 : Int32)) hx hb hr (fun tt ht hW => ⟨_, rfl, e9_0, ht⟩) (fun _ h => by cases h) (dq_172 96 bcX8_whyMove_2 (j := 26) rfl rfl)
    ·
      replace hF := ip c_10 hF
      refine lv_iload_n hx hb (dq_29 96 bcX8_whyMove_2 (j := 9) rfl rfl) rfl (lv_at hl 4 rfl) ?_
      refine lv_if_eq (tgt := 117) hx hb (dq_153 96 bcX8_whyMove_2 (j := 10) (i := 11) rfl rfl rfl) (by decide) (fun c_15 => ?_) (fun c_15 => ?_)
      ·
        replace hF := ip c_15 hF
        refine lv_iconst (v := 2) hx hb (dq_5 96 bcX8_whyMove_2 (j := 21) rfl rfl) (by decide) ?_
        refine lv_goto (tgt := 122) hx hb (dq_167 96 bcX8_whyMove_2 (j := 22) (i := 4) rfl rfl rfl) (by decide) ?_
        rw [hQ]
        obtain e9_0 := inj1 hF
        exact W.iret (v := (2 : Int32)) hx hb hr (fun tt ht hW => ⟨_, rfl, e9_0, ht⟩) (fun _ h => by cases h) (dq_172 96 bcX8_whyMove_2 (j := 26) rfl rfl)
      ·
        replace hF := inn c_15 hF
        refine lv_aload_n hx hb (dq_42 96 bcX8_whyMove_2 (j := 13) rfl rfl) rfl (lv_at hl 1 rfl) ?_
        refine lv_iload_n hx hb (dq_27 96 bcX8_whyMove_2 (j := 14) rfl rfl) rfl (lv_at hl 2 rfl) ?_
        replace hF := bd1_s hF
        obtain ⟨r_16, hc_17, hF⟩ := hF
        have hPc : va_P E.1 vwCl (w_X8_isFrozen E a_ a_tape a_readPlace a_script a_scriptLong a_now a_refused a_shareX a_shareY a_askedRow a_kept a_aside a_spelled a_image c_thrown c_taped c_at c_part c_partFrom c_partNumber c_wrong c_partWord c_readLaw c_readBound c_readGoal c_readSites c_scripts c_sites c_asked c_outcome c_took c_acts c_drawn c_racer c_raced c_spelledMany c_hasImage c_now) s.heap := hP.sub (ws' := [k_X8 a_ c_thrown a_tape c_taped c_at c_part c_partFrom c_partNumber c_wrong c_partWord c_readLaw c_readBound c_readGoal c_readSites a_readPlace a_script a_scriptLong c_scripts a_now a_refused c_sites a_shareX a_shareY c_asked c_outcome a_askedRow c_took a_kept c_acts c_drawn a_aside c_racer c_raced a_spelled c_spelledMany a_image c_hasImage, k_I E a_now 265 c_now]) [0, 1] rfl
        have hrc := va_recv hK hPc (ci := 9) (q0 := 0) rfl rfl
        refine pE_z (va_runV (As := [.int p1]) (rest := [])  ⟨hx, hb, hml, hown, hts⟩ (f_X8_isFrozen l E (a_ := a_) (a_tape := a_tape) (a_readPlace := a_readPlace) (a_script := a_script) (a_scriptLong := a_scriptLong) (a_now := a_now) (a_refused := a_refused) (a_shareX := a_shareX) (a_shareY := a_shareY) (a_askedRow := a_askedRow) (a_kept := a_kept) (a_aside := a_aside) (a_spelled := a_spelled) (a_image := a_image) (p1 := p1) (c_thrown := c_thrown) (c_taped := c_taped) (c_at := c_at) (c_part := c_part) (c_partFrom := c_partFrom) (c_partNumber := c_partNumber) (c_wrong := c_wrong) (c_partWord := c_partWord) (c_readLaw := c_readLaw) (c_readBound := c_readBound) (c_readGoal := c_readGoal) (c_readSites := c_readSites) (c_scripts := c_scripts) (c_sites := c_sites) (c_asked := c_asked) (c_outcome := c_outcome) (c_took := c_took) (c_acts := c_acts) (c_drawn := c_drawn) (c_racer := c_racer) (c_raced := c_raced) (c_spelledMany := c_spelledMany) (c_hasImage := c_hasImage) (c_now := c_now) hc_17) (cwV 1 hts g_f_X8_whyMove_f_X8_isFrozen_257 rfl rfl rfl hd_X8_isFrozen ⟨Nat.le_of_ble_eq_true rfl, Nat.le_of_ble_eq_true rfl⟩) ⟨pP.blind, hrc, (pP.pre ⟨hK, hN⟩ hPc)⟩ rfl rfl hl.1 rfl (lv_room (Nat.le_of_ble_eq_true rfl)) (dq_182 96 bcX8_whyMove_2 (j := 15) (i := 257) rfl rfl rfl) ⟨Nat.le_of_ble_eq_true rfl, Nat.le_of_ble_eq_true rfl⟩) (fun hb_18 => ?_)
        refine lv_if_eq (tgt := 121) hx hb (dq_153 96 bcX8_whyMove_2 (j := 18) (i := 7) rfl rfl rfl) (by decide) (fun c_19 => ?_) (fun c_19 => ?_)
        ·
          replace hF := ip c_19 hF
          refine lv_iconst (v := -1) hx hb (dq_2 96 bcX8_whyMove_2 (j := 25) rfl rfl) (by decide) ?_
          rw [hQ]
          obtain e9_0 := inj1 hF
          exact W.iret (v := (-1 : Int32)) hx hb hr (fun tt ht hW => ⟨_, rfl, e9_0, ht⟩) (fun _ h => by cases h) (dq_172 96 bcX8_whyMove_2 (j := 26) rfl rfl)
        ·
          replace hF := inn c_19 hF
          refine lv_iconst (v := 2) hx hb (dq_5 96 bcX8_whyMove_2 (j := 21) rfl rfl) (by decide) ?_
          refine lv_goto (tgt := 122) hx hb (dq_167 96 bcX8_whyMove_2 (j := 22) (i := 4) rfl rfl rfl) (by decide) ?_
          rw [hQ]
          obtain e9_0 := inj1 hF
          exact W.iret (v := (2 : Int32)) hx hb hr (fun tt ht hW => ⟨_, rfl, e9_0, ht⟩) (fun _ h => by cases h) (dq_172 96 bcX8_whyMove_2 (j := 26) rfl rfl)
  ·
    replace hF := ip c_9 hF
    refine lv_iconst (v := 1) hx hb (dq_4 96 bcX8_whyMove_2 (j := 1) rfl rfl) (by decide) ?_
    refine lv_goto (tgt := 122) hx hb (dq_167 96 bcX8_whyMove_2 (j := 2) (i := 24) rfl rfl rfl) (by decide) ?_
    rw [hQ]
    obtain e9_0 := inj1 hF
    exact W.iret (v := (1 : Int32)) hx hb hr (fun tt ht hW => ⟨_, rfl, e9_0, ht⟩) (fun _ h => by cases h) (dq_172 96 bcX8_whyMove_2 (j := 26) rfl rfl)

set_option maxHeartbeats 4000000 in
set_option maxRecDepth 100000 in
theorem j_X8_whyMove_89 {p : Program} (l : Launch) {e : Env} {s : State} {m : MethodId} {below : List Frame} {meth : Method} {c : Code} {Q : State → Prop} (E : EE) {a_ a_tape a_readPlace a_script a_scriptLong a_now a_refused a_shareX a_shareY a_askedRow a_kept a_aside a_spelled a_image : Nat} {p1 : Int32} {p2 : Int32} {p3 : Int32} {c_thrown : Int32} {c_taped : Int32} {c_at : Int32} {c_part : Int32} {c_partFrom : Int32} {c_partNumber : Int32} {c_wrong : Int32} {c_partWord : Int64} {c_readLaw : Int32} {c_readBound : Int32} {c_readGoal : Int32} {c_readSites : Int32} {c_scripts : Int32} {c_sites : Int32} {c_asked : Int32} {c_outcome : Int32} {c_took : Int32} {c_acts : Int32} {c_drawn : Int64} {c_racer : Int32} {c_raced : Int32} {c_spelledMany : Int32} {c_hasImage : Int32} {c_now : Nat → Int32} (hx : p.tables.exec = Jvm.exec) (hb : c.code = cX8_whyMove) (hml : c.maxLocals = 5) (hown : s.vm.findClass RX8 = some m.cls) (hts : ∀ w ∈ v_f_X8_whyMove, w.before #[Value.ref a_, Value.int p1, Value.int p2, Value.int p3] s = true) (hK : va_K E.1 vwCl (TY E) s) (hN : NX s) {rr : Int32} (hr : meth.sig.returnType = (some .int)) (hlocks : meth.locks = false) (hQ : Q = MQ below (vp_Si (fun q : Int32 => q = rr)) #[Value.ref a_, Value.int p1, Value.int p2, Value.int p3] s 0 0 (fun _ => False)) (hF : J_X8_whyMove_89 p1 p2 p3 c_now = some rr) (hP : va_P E.1 vwCl (w_X8_whyMove E a_ a_tape a_readPlace a_script a_scriptLong a_now a_refused a_shareX a_shareY a_askedRow a_kept a_aside a_spelled a_image c_thrown c_taped c_at c_part c_partFrom c_partNumber c_wrong c_partWord c_readLaw c_readBound c_readGoal c_readSites c_scripts c_sites c_asked c_outcome c_took c_acts c_drawn c_racer c_raced c_spelledMany c_hasImage c_now) s.heap) : ∀ (ls : Array Slot), lv_has ls 5 [(0, .ref a_), (1, .int p1), (2, .int p2), (3, .int p3)] → W p l e ({ frames := 2, cells := 0, slots := 0, locals := 46 } : Room) s m #[Value.ref a_, Value.int p1, Value.int p2, Value.int p3] below meth c s.heap [] 0 0 Q (F0 m 89 ls []) := by
  unfold J_X8_whyMove_89 at hF
  replace hP : va_P E.1 vwCl [k_X8 a_ c_thrown a_tape c_taped c_at c_part c_partFrom c_partNumber c_wrong c_partWord c_readLaw c_readBound c_readGoal c_readSites a_readPlace a_script a_scriptLong c_scripts a_now a_refused c_sites a_shareX a_shareY c_asked c_outcome a_askedRow c_took a_kept c_acts c_drawn a_aside c_racer c_raced a_spelled c_spelledMany a_image c_hasImage, k_I E a_now 265 c_now] s.heap := hP
  intro ls hl
  refine lv_iconst (v := 0) hx hb (dq_3 48 bcX8_whyMove_1 (j := 41) rfl rfl) (by decide) ?_
  exact j_X8_whyMove_90 l E (p1 := p1) (p2 := p2) (p3 := p3) (c_thrown := c_thrown) (c_taped := c_taped) (c_at := c_at) (c_part := c_part) (c_partFrom := c_partFrom) (c_partNumber := c_partNumber) (c_wrong := c_wrong) (c_partWord := c_partWord) (c_readLaw := c_readLaw) (c_readBound := c_readBound) (c_readGoal := c_readGoal) (c_readSites := c_readSites) (c_scripts := c_scripts) (c_sites := c_sites) (c_asked := c_asked) (c_outcome := c_outcome) (c_took := c_took) (c_acts := c_acts) (c_drawn := c_drawn) (c_racer := c_racer) (c_raced := c_raced) (c_spelledMany := c_spelledMany) (c_hasImage := c_hasImage) (c_now := c_now) (k0 := (0 : Int32)) hx hb hml hown hts hK hN hr hlocks hQ hF hP ls (lv_sub hl [0, 1, 2, 3] rfl)

set_option maxHeartbeats 4000000 in
set_option maxRecDepth 100000 in
theorem f_X8_whyMove (l : Launch) (E : EE) {a_ a_tape a_readPlace a_script a_scriptLong a_now a_refused a_shareX a_shareY a_askedRow a_kept a_aside a_spelled a_image : Nat} {p1 : Int32} {p2 : Int32} {p3 : Int32} {c_thrown : Int32} {c_taped : Int32} {c_at : Int32} {c_part : Int32} {c_partFrom : Int32} {c_partNumber : Int32} {c_wrong : Int32} {c_partWord : Int64} {c_readLaw : Int32} {c_readBound : Int32} {c_readGoal : Int32} {c_readSites : Int32} {c_scripts : Int32} {c_sites : Int32} {c_asked : Int32} {c_outcome : Int32} {c_took : Int32} {c_acts : Int32} {c_drawn : Int64} {c_racer : Int32} {c_raced : Int32} {c_spelledMany : Int32} {c_hasImage : Int32} {c_now : Nat → Int32} {rr : Int32} (hF : F_X8_whyMove p1 p2 p3 c_now c_sites = some rr) : Met l yX8_whyMove v_f_X8_whyMove (({ frames := 2, cells := 0, slots := 0, locals := 46 } : Room)) (va_Pc [.ref a_, .int p1, .int p2, .int p3] (pP E (w_X8_whyMove E a_ a_tape a_readPlace a_script a_scriptLong a_now a_refused a_shareX a_shareY a_askedRow a_kept a_aside a_spelled a_image c_thrown c_taped c_at c_part c_partFrom c_partNumber c_wrong c_partWord c_readLaw c_readBound c_readGoal c_readSites c_scripts c_sites c_asked c_outcome c_took c_acts c_drawn c_racer c_raced c_spelledMany c_hasImage c_now))) (vp_Si (fun q : Int32 => q = rr)) 0 0 (fun _ => False) := by
  refine Met.ofW (cc := cX8_whyMove) (maxL := 5) (ret := (some .int)) (by decide) rfl ?_
  intro p e s m args below meth c s₁ B hml hv
  obtain ⟨rfl, ⟨hK, hN⟩, hP⟩ := hv
  have hx := B.exec
  have hb := B.bytes
  have hr := B.returns
  have hts := atoms_spec (ws := v_f_X8_whyMove) B.pre
  have hown : s.vm.findClass RX8 = some m.cls := own_of hd_X8_whyMove.1 (findClass_of_methodNamed B.named)
  have hlocks : meth.locks = false := B.notSynchronized
  replace hP : va_P E.1 vwCl [k_X8 a_ c_thrown a_tape c_taped c_at c_part c_partFrom c_partNumber c_wrong c_partWord c_readLaw c_readBound c_readGoal c_readSites a_readPlace a_script a_scriptLong c_scripts a_now a_refused c_sites a_shareX a_shareY c_asked c_outcome a_askedRow c_took a_kept c_acts c_drawn a_aside c_racer c_raced a_spelled c_spelledMany a_image c_hasImage, k_I E a_now 265 c_now] s.heap := hP
  have hl := lv_entry ([.ref a_, .int p1, .int p2, .int p3]) (n := 5) (Nat.le_of_ble_eq_true rfl)
  rw [lg_entry_eq]
  generalize (lg_sl ([.ref a_, .int p1, .int p2, .int p3]) ++ List.replicate (5 - (lg_sl ([.ref a_, .int p1, .int p2, .int p3])).length) Slot.unset).toArray = ls at hl ⊢
  have hl : lv_has ls 5 [(0, .ref a_), (1, .int p1), (2, .int p2), (3, .int p3)] := hl
  obtain ⟨Q, hQ⟩ : ∃ Q : State → Prop, Q = MQ below (vp_Si (fun q : Int32 => q = rr)) #[Value.ref a_, Value.int p1, Value.int p2, Value.int p3] s 0 0 (fun _ => False) := ⟨_, rfl⟩
  rw [← hQ]
  change W p l e ({ frames := 2, cells := 0, slots := 0, locals := 46 } : Room) s m #[Value.ref a_, Value.int p1, Value.int p2, Value.int p3] below meth c s.heap [] 0 0 Q (F0 m 0 ls [])
  unfold F_X8_whyMove at hF
  refine lv_aload_n hx hb (dq_42 0 bcX8_whyMove_0 (j := 0) rfl rfl) rfl (lv_at hl 0 rfl) ?_
  refine lv_iload_n hx hb (dq_27 0 bcX8_whyMove_0 (j := 1) rfl rfl) rfl (lv_at hl 1 rfl) ?_
  replace hF := bd1_s hF
  obtain ⟨r_1, hc_2, hF⟩ := hF
  have hPc : va_P E.1 vwCl (w_X8_isSite E a_ a_tape a_readPlace a_script a_scriptLong a_now a_refused a_shareX a_shareY a_askedRow a_kept a_aside a_spelled a_image c_thrown c_taped c_at c_part c_partFrom c_partNumber c_wrong c_partWord c_readLaw c_readBound c_readGoal c_readSites c_scripts c_sites c_asked c_outcome c_took c_acts c_drawn c_racer c_raced c_spelledMany c_hasImage) s.heap := hP.sub (ws' := [k_X8 a_ c_thrown a_tape c_taped c_at c_part c_partFrom c_partNumber c_wrong c_partWord c_readLaw c_readBound c_readGoal c_readSites a_readPlace a_script a_scriptLong c_scripts a_now a_refused c_sites a_shareX a_shareY c_asked c_outcome a_askedRow c_took a_kept c_acts c_drawn a_aside c_racer c_raced a_spelled c_spelledMany a_image c_hasImage]) [0] rfl
  have hrc := va_recv hK hPc (ci := 9) (q0 := 0) rfl rfl
  refine pE_z (va_runV (As := [.int p1]) (rest := [])  ⟨hx, hb, hml, hown, hts⟩ (f_X8_isSite l E (a_ := a_) (a_tape := a_tape) (a_readPlace := a_readPlace) (a_script := a_script) (a_scriptLong := a_scriptLong) (a_now := a_now) (a_refused := a_refused) (a_shareX := a_shareX) (a_shareY := a_shareY) (a_askedRow := a_askedRow) (a_kept := a_kept) (a_aside := a_aside) (a_spelled := a_spelled) (a_image := a_image) (p1 := p1) (c_thrown := c_thrown) (c_taped := c_taped) (c_at := c_at) (c_part := c_part) (c_partFrom := c_partFrom) (c_partNumber := c_partNumber) (c_wrong := c_wrong) (c_partWord := c_partWord) (c_readLaw := c_readLaw) (c_readBound := c_readBound) (c_readGoal := c_readGoal) (c_readSites := c_readSites) (c_scripts := c_scripts) (c_sites := c_sites) (c_asked := c_asked) (c_outcome := c_outcome) (c_took := c_took) (c_acts := c_acts) (c_drawn := c_drawn) (c_racer := c_racer) (c_raced := c_raced) (c_spelledMany := c_spelledMany) (c_hasImage := c_hasImage) hc_2) (cwV 1 hts g_f_X8_whyMove_f_X8_isSite_278 rfl rfl rfl hd_X8_isSite ⟨Nat.le_of_ble_eq_true rfl, Nat.le_of_ble_eq_true rfl⟩) ⟨pP.blind, hrc, (pP.pre ⟨hK, hN⟩ hPc)⟩ rfl rfl hl.1 rfl (lv_room (Nat.le_of_ble_eq_true rfl)) (dq_182 0 bcX8_whyMove_0 (j := 2) (i := 278) rfl rfl rfl) ⟨Nat.le_of_ble_eq_true rfl, Nat.le_of_ble_eq_true rfl⟩) (fun hb_3 => ?_)
  refine lv_if_ne (tgt := 10) hx hb (dq_154 0 bcX8_whyMove_0 (j := 5) (i := 5) rfl rfl rfl) (by decide) (fun c_4 => ?_) (fun c_4 => ?_)
  ·
    replace hF := inn c_4 hF
    refine lv_iload_n hx hb (dq_28 0 bcX8_whyMove_0 (j := 10) rfl rfl) rfl (lv_at hl 2 rfl) ?_
    refine lv_i2l (v := p2.toInt64) hx hb (dq_133 0 bcX8_whyMove_0 (j := 11) rfl rfl) rfl ?_
    refine lv_ldc2 (v := -9999) hx hb hown (hts (.constantLong RX8 281 (-9999)) (List.mem_of_getElem? (i := 1) rfl)) (dq_20 0 bcX8_whyMove_0 (j := 12) (i := 281) rfl rfl rfl) ?_
    refine lv_ldc2 (v := 9999) hx hb hown (hts (.constantLong RX8 283 (9999)) (List.mem_of_getElem? (i := 2) rfl)) (dq_20 0 bcX8_whyMove_0 (j := 15) (i := 283) rfl rfl rfl) ?_
    replace hF := bd1_s hF
    obtain ⟨r_5, hc_6, hF⟩ := hF
    have hPc : va_P E.1 vwCl [] s.heap := fun k q h => by simp at h
    refine pE_z (va_runS (As := [.long p2.toInt64, .long (-9999 : Int64), .long (9999 : Int64)]) (rest := [])  ⟨hx, hb, hml, hown, hts⟩ (f_X8_in l E (p0 := p2.toInt64) (p1 := (-9999 : Int64)) (p2 := (9999 : Int64)) hc_6) (va_cwS 3 hts g_f_X8_whyMove_f_X8_in_60 rfl rfl rfl hd_X8_in.2 ⟨Nat.le_of_ble_eq_true rfl, Nat.le_of_ble_eq_true rfl⟩) ⟨pP.blind, (pP.pre ⟨hK, hN⟩ hPc)⟩ rfl rfl hl.1 rfl (lv_room (Nat.le_of_ble_eq_true rfl)) (dq_184 0 bcX8_whyMove_0 (j := 18) (i := 60) rfl rfl rfl) ⟨Nat.le_of_ble_eq_true rfl, Nat.le_of_ble_eq_true rfl⟩) (fun hb_7 => ?_)
    refine lv_if_eq (tgt := 89) hx hb (dq_153 0 bcX8_whyMove_0 (j := 21) (i := 68) rfl rfl rfl) (by decide) (fun c_8 => ?_) (fun c_8 => ?_)
    ·
      replace hF := ip c_8 hF
      exact j_X8_whyMove_89 l E (p1 := p1) (p2 := p2) (p3 := p3) (c_thrown := c_thrown) (c_taped := c_taped) (c_at := c_at) (c_part := c_part) (c_partFrom := c_partFrom) (c_partNumber := c_partNumber) (c_wrong := c_wrong) (c_partWord := c_partWord) (c_readLaw := c_readLaw) (c_readBound := c_readBound) (c_readGoal := c_readGoal) (c_readSites := c_readSites) (c_scripts := c_scripts) (c_sites := c_sites) (c_asked := c_asked) (c_outcome := c_outcome) (c_took := c_took) (c_acts := c_acts) (c_drawn := c_drawn) (c_racer := c_racer) (c_raced := c_raced) (c_spelledMany := c_spelledMany) (c_hasImage := c_hasImage) (c_now := c_now) hx hb hml hown hts hK hN hr hlocks hQ hF hP ls (lv_sub hl [0, 1, 2, 3] rfl)
    ·
      replace hF := inn c_8 hF
      refine lv_iload_n hx hb (dq_29 0 bcX8_whyMove_0 (j := 24) rfl rfl) rfl (lv_at hl 3 rfl) ?_
      refine lv_i2l (v := p3.toInt64) hx hb (dq_133 0 bcX8_whyMove_0 (j := 25) rfl rfl) rfl ?_
      refine lv_ldc2 (v := -9999) hx hb hown (hts (.constantLong RX8 281 (-9999)) (List.mem_of_getElem? (i := 1) rfl)) (dq_20 0 bcX8_whyMove_0 (j := 26) (i := 281) rfl rfl rfl) ?_
      refine lv_ldc2 (v := 9999) hx hb hown (hts (.constantLong RX8 283 (9999)) (List.mem_of_getElem? (i := 2) rfl)) (dq_20 0 bcX8_whyMove_0 (j := 29) (i := 283) rfl rfl rfl) ?_
      replace hF := bd1_s hF
      obtain ⟨r_20, hc_21, hF⟩ := hF
      have hPc : va_P E.1 vwCl [] s.heap := fun k q h => by simp at h
      refine pE_z (va_runS (As := [.long p3.toInt64, .long (-9999 : Int64), .long (9999 : Int64)]) (rest := [])  ⟨hx, hb, hml, hown, hts⟩ (f_X8_in l E (p0 := p3.toInt64) (p1 := (-9999 : Int64)) (p2 := (9999 : Int64)) hc_21) (va_cwS 3 hts g_f_X8_whyMove_f_X8_in_60 rfl rfl rfl hd_X8_in.2 ⟨Nat.le_of_ble_eq_true rfl, Nat.le_of_ble_eq_true rfl⟩) ⟨pP.blind, (pP.pre ⟨hK, hN⟩ hPc)⟩ rfl rfl hl.1 rfl (lv_room (Nat.le_of_ble_eq_true rfl)) (dq_184 0 bcX8_whyMove_0 (j := 32) (i := 60) rfl rfl rfl) ⟨Nat.le_of_ble_eq_true rfl, Nat.le_of_ble_eq_true rfl⟩) (fun hb_22 => ?_)
      refine lv_if_eq (tgt := 89) hx hb (dq_153 0 bcX8_whyMove_0 (j := 35) (i := 54) rfl rfl rfl) (by decide) (fun c_23 => ?_) (fun c_23 => ?_)
      ·
        replace hF := ip c_23 hF
        exact j_X8_whyMove_89 l E (p1 := p1) (p2 := p2) (p3 := p3) (c_thrown := c_thrown) (c_taped := c_taped) (c_at := c_at) (c_part := c_part) (c_partFrom := c_partFrom) (c_partNumber := c_partNumber) (c_wrong := c_wrong) (c_partWord := c_partWord) (c_readLaw := c_readLaw) (c_readBound := c_readBound) (c_readGoal := c_readGoal) (c_readSites := c_readSites) (c_scripts := c_scripts) (c_sites := c_sites) (c_asked := c_asked) (c_outcome := c_outcome) (c_took := c_took) (c_acts := c_acts) (c_drawn := c_drawn) (c_racer := c_racer) (c_raced := c_raced) (c_spelledMany := c_spelledMany) (c_hasImage := c_hasImage) (c_now := c_now) hx hb hml hown hts hK hN hr hlocks hQ hF hP ls (lv_sub hl [0, 1, 2, 3] rfl)
      ·
        replace hF := inn c_23 hF
        refine lv_aload_n hx hb (dq_42 0 bcX8_whyMove_0 (j := 38) rfl rfl) rfl (lv_at hl 0 rfl) ?_
        refine gt_X8_17 (v := .ref a_now) hx hb hts i_f_X8_whyMove_X8 hown hK hP 0 rfl (hts (.fieldLink RX8 22 "HushWatchModel" "now" "[I") (List.mem_of_getElem? (i := 3) rfl)) rfl (dq_180 0 bcX8_whyMove_0 (j := 39) (i := 22) rfl rfl rfl) ?_
        refine lv_iconst (v := 0) hx hb (dq_3 0 bcX8_whyMove_0 (j := 42) rfl rfl) (by decide) ?_
        refine lv_iload_n hx hb (dq_27 0 bcX8_whyMove_0 (j := 43) rfl rfl) rfl (lv_at hl 1 rfl) ?_
        refine lv_iadd hx hb (dq_96 0 bcX8_whyMove_0 (j := 44) rfl rfl) ?_
        replace hF := ix_s hF
        obtain ⟨hi_24, hF⟩ := hF
        refine va_iald hx hb hK hP 1 0 rfl rfl hi_24 (dq_46 0 bcX8_whyMove_0 (j := 45) rfl rfl) ?_
        refine lv_iload_n hx hb (dq_28 0 bcX8_whyMove_0 (j := 46) rfl rfl) rfl (lv_at hl 2 rfl) ?_
        refine lv_iadd hx hb (dq_96 0 bcX8_whyMove_0 (j := 47) rfl rfl) ?_
        refine lv_i2l (v := ((c_now ((0 : Int32) + p1).toNatClampNeg) + p2).toInt64) hx hb (dq_133 48 bcX8_whyMove_1 (j := 0) rfl rfl) rfl ?_
        refine lv_ldc2 (v := -99999) hx hb hown (hts (.constantLong RX8 285 (-99999)) (List.mem_of_getElem? (i := 4) rfl)) (dq_20 48 bcX8_whyMove_1 (j := 1) (i := 285) rfl rfl rfl) ?_
        refine lv_ldc2 (v := 99999) hx hb hown (hts (.constantLong RX8 287 (99999)) (List.mem_of_getElem? (i := 5) rfl)) (dq_20 48 bcX8_whyMove_1 (j := 4) (i := 287) rfl rfl rfl) ?_
        replace hF := bd1_s hF
        obtain ⟨r_25, hc_26, hF⟩ := hF
        have hPc : va_P E.1 vwCl [] s.heap := fun k q h => by simp at h
        refine pE_z (va_runS (As := [.long (((c_now ((0 : Int32) + p1).toNatClampNeg) + p2).toInt64), .long (-99999 : Int64), .long (99999 : Int64)]) (rest := [])  ⟨hx, hb, hml, hown, hts⟩ (f_X8_in l E (p0 := ((c_now ((0 : Int32) + p1).toNatClampNeg) + p2).toInt64) (p1 := (-99999 : Int64)) (p2 := (99999 : Int64)) hc_26) (va_cwS 3 hts g_f_X8_whyMove_f_X8_in_60 rfl rfl rfl hd_X8_in.2 ⟨Nat.le_of_ble_eq_true rfl, Nat.le_of_ble_eq_true rfl⟩) ⟨pP.blind, (pP.pre ⟨hK, hN⟩ hPc)⟩ rfl rfl hl.1 rfl (lv_room (Nat.le_of_ble_eq_true rfl)) (dq_184 48 bcX8_whyMove_1 (j := 7) (i := 60) rfl rfl rfl) ⟨Nat.le_of_ble_eq_true rfl, Nat.le_of_ble_eq_true rfl⟩) (fun hb_27 => ?_)
        refine lv_if_eq (tgt := 89) hx hb (dq_153 48 bcX8_whyMove_1 (j := 10) (i := 31) rfl rfl rfl) (by decide) (fun c_28 => ?_) (fun c_28 => ?_)
        ·
          replace hF := ip c_28 hF
          exact j_X8_whyMove_89 l E (p1 := p1) (p2 := p2) (p3 := p3) (c_thrown := c_thrown) (c_taped := c_taped) (c_at := c_at) (c_part := c_part) (c_partFrom := c_partFrom) (c_partNumber := c_partNumber) (c_wrong := c_wrong) (c_partWord := c_partWord) (c_readLaw := c_readLaw) (c_readBound := c_readBound) (c_readGoal := c_readGoal) (c_readSites := c_readSites) (c_scripts := c_scripts) (c_sites := c_sites) (c_asked := c_asked) (c_outcome := c_outcome) (c_took := c_took) (c_acts := c_acts) (c_drawn := c_drawn) (c_racer := c_racer) (c_raced := c_raced) (c_spelledMany := c_spelledMany) (c_hasImage := c_hasImage) (c_now := c_now) hx hb hml hown hts hK hN hr hlocks hQ hF hP ls (lv_sub hl [0, 1, 2, 3] rfl)
        ·
          replace hF := inn c_28 hF
          refine lv_aload_n hx hb (dq_42 48 bcX8_whyMove_1 (j := 13) rfl rfl) rfl (lv_at hl 0 rfl) ?_
          refine gt_X8_17 (v := .ref a_now) hx hb hts i_f_X8_whyMove_X8 hown hK hP 0 rfl (hts (.fieldLink RX8 22 "HushWatchModel" "now" "[I") (List.mem_of_getElem? (i := 3) rfl)) rfl (dq_180 48 bcX8_whyMove_1 (j := 14) (i := 22) rfl rfl rfl) ?_
          refine lv_bipush (v := 8) hx hb (dq_16 48 bcX8_whyMove_1 (j := 17) (i := 8) rfl rfl rfl) (by decide) ?_
          refine lv_iload_n hx hb (dq_27 48 bcX8_whyMove_1 (j := 19) rfl rfl) rfl (lv_at hl 1 rfl) ?_
          refine lv_iadd hx hb (dq_96 48 bcX8_whyMove_1 (j := 20) rfl rfl) ?_
          replace hF := ix_s hF
          obtain ⟨hi_29, hF⟩ := hF
          refine va_iald hx hb hK hP 1 0 rfl rfl hi_29 (dq_46 48 bcX8_whyMove_1 (j := 21) rfl rfl) ?_
          refine lv_iload_n hx hb (dq_29 48 bcX8_whyMove_1 (j := 22) rfl rfl) rfl (lv_at hl 3 rfl) ?_
          refine lv_iadd hx hb (dq_96 48 bcX8_whyMove_1 (j := 23) rfl rfl) ?_
          refine lv_i2l (v := ((c_now ((8 : Int32) + p1).toNatClampNeg) + p3).toInt64) hx hb (dq_133 48 bcX8_whyMove_1 (j := 24) rfl rfl) rfl ?_
          refine lv_ldc2 (v := -99999) hx hb hown (hts (.constantLong RX8 285 (-99999)) (List.mem_of_getElem? (i := 4) rfl)) (dq_20 48 bcX8_whyMove_1 (j := 25) (i := 285) rfl rfl rfl) ?_
          refine lv_ldc2 (v := 99999) hx hb hown (hts (.constantLong RX8 287 (99999)) (List.mem_of_getElem? (i := 5) rfl)) (dq_20 48 bcX8_whyMove_1 (j := 28) (i := 287) rfl rfl rfl) ?_
          replace hF := bd1_s hF
          obtain ⟨r_30, hc_31, hF⟩ := hF
          have hPc : va_P E.1 vwCl [] s.heap := fun k q h => by simp at h
          refine pE_z (va_runS (As := [.long (((c_now ((8 : Int32) + p1).toNatClampNeg) + p3).toInt64), .long (-99999 : Int64), .long (99999 : Int64)]) (rest := [])  ⟨hx, hb, hml, hown, hts⟩ (f_X8_in l E (p0 := ((c_now ((8 : Int32) + p1).toNatClampNeg) + p3).toInt64) (p1 := (-99999 : Int64)) (p2 := (99999 : Int64)) hc_31) (va_cwS 3 hts g_f_X8_whyMove_f_X8_in_60 rfl rfl rfl hd_X8_in.2 ⟨Nat.le_of_ble_eq_true rfl, Nat.le_of_ble_eq_true rfl⟩) ⟨pP.blind, (pP.pre ⟨hK, hN⟩ hPc)⟩ rfl rfl hl.1 rfl (lv_room (Nat.le_of_ble_eq_true rfl)) (dq_184 48 bcX8_whyMove_1 (j := 31) (i := 60) rfl rfl rfl) ⟨Nat.le_of_ble_eq_true rfl, Nat.le_of_ble_eq_true rfl⟩) (fun hb_32 => ?_)
          refine lv_if_eq (tgt := 89) hx hb (dq_153 48 bcX8_whyMove_1 (j := 34) (i := 7) rfl rfl rfl) (by decide) (fun c_33 => ?_) (fun c_33 => ?_)
          ·
            replace hF := ip c_33 hF
            exact j_X8_whyMove_89 l E (p1 := p1) (p2 := p2) (p3 := p3) (c_thrown := c_thrown) (c_taped := c_taped) (c_at := c_at) (c_part := c_part) (c_partFrom := c_partFrom) (c_partNumber := c_partNumber) (c_wrong := c_wrong) (c_partWord := c_partWord) (c_readLaw := c_readLaw) (c_readBound := c_readBound) (c_readGoal := c_readGoal) (c_readSites := c_readSites) (c_scripts := c_scripts) (c_sites := c_sites) (c_asked := c_asked) (c_outcome := c_outcome) (c_took := c_took) (c_acts := c_acts) (c_drawn := c_drawn) (c_racer := c_racer) (c_raced := c_raced) (c_spelledMany := c_spelledMany) (c_hasImage := c_hasImage) (c_now := c_now) hx hb hml hown hts hK hN hr hlocks hQ hF hP ls (lv_sub hl [0, 1, 2, 3] rfl)
          ·
            replace hF := inn c_33 hF
            refine lv_iconst (v := 1) hx hb (dq_4 48 bcX8_whyMove_1 (j := 37) rfl rfl) (by decide) ?_
            refine lv_goto (tgt := 90) hx hb (dq_167 48 bcX8_whyMove_1 (j := 38) (i := 4) rfl rfl rfl) (by decide) ?_
            exact j_X8_whyMove_90 l E (p1 := p1) (p2 := p2) (p3 := p3) (c_thrown := c_thrown) (c_taped := c_taped) (c_at := c_at) (c_part := c_part) (c_partFrom := c_partFrom) (c_partNumber := c_partNumber) (c_wrong := c_wrong) (c_partWord := c_partWord) (c_readLaw := c_readLaw) (c_readBound := c_readBound) (c_readGoal := c_readGoal) (c_readSites := c_readSites) (c_scripts := c_scripts) (c_sites := c_sites) (c_asked := c_asked) (c_outcome := c_outcome) (c_took := c_took) (c_acts := c_acts) (c_drawn := c_drawn) (c_racer := c_racer) (c_raced := c_raced) (c_spelledMany := c_spelledMany) (c_hasImage := c_hasImage) (c_now := c_now) (k0 := (1 : Int32)) hx hb hml hown hts hK hN hr hlocks hQ hF hP ls (lv_sub hl [0, 1, 2, 3] rfl)
  ·
    replace hF := ip c_4 hF
    refine lv_iconst (v := 0) hx hb (dq_3 0 bcX8_whyMove_0 (j := 8) rfl rfl) (by decide) ?_
    rw [hQ]
    obtain e9_0 := inj1 hF
    exact W.iret (v := (0 : Int32)) hx hb hr (fun tt ht hW => ⟨_, rfl, e9_0, ht⟩) (fun _ h => by cases h) (dq_172 0 bcX8_whyMove_0 (j := 9) rfl rfl)

def F_X8_isWatch (c_sites : Int32) : Option (Int32) :=
  if c_sites ≤ (0 : Int32) then some (0 : Int32) else some (1 : Int32)
abbrev w_X8_isWatch (E : EE) (a_ a_tape a_readPlace a_script a_scriptLong a_now a_refused a_shareX a_shareY a_askedRow a_kept a_aside a_spelled a_image : Nat) (c_thrown : Int32) (c_taped : Int32) (c_at : Int32) (c_part : Int32) (c_partFrom : Int32) (c_partNumber : Int32) (c_wrong : Int32) (c_partWord : Int64) (c_readLaw : Int32) (c_readBound : Int32) (c_readGoal : Int32) (c_readSites : Int32) (c_scripts : Int32) (c_sites : Int32) (c_asked : Int32) (c_outcome : Int32) (c_took : Int32) (c_acts : Int32) (c_drawn : Int64) (c_racer : Int32) (c_raced : Int32) (c_spelledMany : Int32) (c_hasImage : Int32) : va_W := [k_X8 a_ c_thrown a_tape c_taped c_at c_part c_partFrom c_partNumber c_wrong c_partWord c_readLaw c_readBound c_readGoal c_readSites a_readPlace a_script a_scriptLong c_scripts a_now a_refused c_sites a_shareX a_shareY c_asked c_outcome a_askedRow c_took a_kept c_acts c_drawn a_aside c_racer c_raced a_spelled c_spelledMany a_image c_hasImage]
def v_f_X8_isWatch : List Cond := List.cons (.code yX8_isWatch cX8_isWatch 1 (some .boolean)) (HAppend.hAppend (α := List Cond) (β := List Cond) (γ := List Cond) [.fieldLink RX8 196 "HushWatchModel" "sites" "I"] (HAppend.hAppend (α := List Cond) (β := List Cond) (γ := List Cond) wsX80 []))
theorem gw_f_X8_isWatch : v_f_X8_isWatch.all goodWord = true := gw_c2 (by decide +kernel) (gw_ap gw_wsX80 gw_nil)
theorem i_f_X8_isWatch_X8 : ∀ w ∈ wsX80, w ∈ v_f_X8_isWatch := fun _ h => List.mem_cons_of_mem _ (List.mem_append_right _ (List.mem_append_left _ h))
theorem hd_X8_isWatch : yX8_isWatch.cls = RX8 ∧ yX8_isWatch.cls ≠ "java/lang/invoke/MethodHandle" ∧ yX8_isWatch.cls ≠ "java/lang/invoke/VarHandle" ∧ (parseMethodDescriptor yX8_isWatch.desc).map (fun d => d.parameters.length) = some 0 := by decide +kernel
set_option maxHeartbeats 4000000 in
set_option maxRecDepth 100000 in
theorem f_X8_isWatch (l : Launch) (E : EE) {a_ a_tape a_readPlace a_script a_scriptLong a_now a_refused a_shareX a_shareY a_askedRow a_kept a_aside a_spelled a_image : Nat} {c_thrown : Int32} {c_taped : Int32} {c_at : Int32} {c_part : Int32} {c_partFrom : Int32} {c_partNumber : Int32} {c_wrong : Int32} {c_partWord : Int64} {c_readLaw : Int32} {c_readBound : Int32} {c_readGoal : Int32} {c_readSites : Int32} {c_scripts : Int32} {c_sites : Int32} {c_asked : Int32} {c_outcome : Int32} {c_took : Int32} {c_acts : Int32} {c_drawn : Int64} {c_racer : Int32} {c_raced : Int32} {c_spelledMany : Int32} {c_hasImage : Int32} {rr : Int32} (hF : F_X8_isWatch c_sites = some rr) : Met l yX8_isWatch v_f_X8_isWatch (({ frames := 0, cells := 0, slots := 0, locals := 0 } : Room)) (va_Pc [.ref a_] (pP E (w_X8_isWatch E a_ a_tape a_readPlace a_script a_scriptLong a_now a_refused a_shareX a_shareY a_askedRow a_kept a_aside a_spelled a_image c_thrown c_taped c_at c_part c_partFrom c_partNumber c_wrong c_partWord c_readLaw c_readBound c_readGoal c_readSites c_scripts c_sites c_asked c_outcome c_took c_acts c_drawn c_racer c_raced c_spelledMany c_hasImage))) (vp_Si (fun q : Int32 => q = rr ∧ (q = 0 ∨ q = 1))) 0 0 (fun _ => False) := by
  refine Met.ofW (cc := cX8_isWatch) (maxL := 1) (ret := (some .boolean)) (by decide) rfl ?_
  intro p e s m args below meth c s₁ B hml hv
  obtain ⟨rfl, ⟨hK, hN⟩, hP⟩ := hv
  have hx := B.exec
  have hb := B.bytes
  have hr := B.returns
  have hts := atoms_spec (ws := v_f_X8_isWatch) B.pre
  have hown : s.vm.findClass RX8 = some m.cls := own_of hd_X8_isWatch.1 (findClass_of_methodNamed B.named)
  have hlocks : meth.locks = false := B.notSynchronized
  replace hP : va_P E.1 vwCl [k_X8 a_ c_thrown a_tape c_taped c_at c_part c_partFrom c_partNumber c_wrong c_partWord c_readLaw c_readBound c_readGoal c_readSites a_readPlace a_script a_scriptLong c_scripts a_now a_refused c_sites a_shareX a_shareY c_asked c_outcome a_askedRow c_took a_kept c_acts c_drawn a_aside c_racer c_raced a_spelled c_spelledMany a_image c_hasImage] s.heap := hP
  have hl := lv_entry ([.ref a_]) (n := 1) (Nat.le_of_ble_eq_true rfl)
  rw [lg_entry_eq]
  generalize (lg_sl ([.ref a_]) ++ List.replicate (1 - (lg_sl ([.ref a_])).length) Slot.unset).toArray = ls at hl ⊢
  have hl : lv_has ls 1 [(0, .ref a_)] := hl
  obtain ⟨Q, hQ⟩ : ∃ Q : State → Prop, Q = MQ below (vp_Si (fun q : Int32 => q = rr ∧ (q = 0 ∨ q = 1))) #[Value.ref a_] s 0 0 (fun _ => False) := ⟨_, rfl⟩
  rw [← hQ]
  change W p l e ({ frames := 0, cells := 0, slots := 0, locals := 0 } : Room) s m #[Value.ref a_] below meth c s.heap [] 0 0 Q (F0 m 0 ls [])
  unfold F_X8_isWatch at hF
  refine lv_aload_n hx hb (dq_42 0 bcX8_isWatch_0 (j := 0) rfl rfl) rfl (lv_at hl 0 rfl) ?_
  refine gt_X8_19 (v := .int c_sites) hx hb hts i_f_X8_isWatch_X8 hown hK hP 0 rfl (hts (.fieldLink RX8 196 "HushWatchModel" "sites" "I") (List.mem_of_getElem? (i := 1) rfl)) rfl (dq_180 0 bcX8_isWatch_0 (j := 1) (i := 196) rfl rfl rfl) ?_
  refine lv_if_le (tgt := 11) hx hb (dq_158 0 bcX8_isWatch_0 (j := 4) (i := 7) rfl rfl rfl) (by decide) (fun c_1 => ?_) (fun c_1 => ?_)
  ·
    replace hF := ip c_1 hF
    refine lv_iconst (v := 0) hx hb (dq_3 0 bcX8_isWatch_0 (j := 11) rfl rfl) (by decide) ?_
    rw [hQ]
    obtain e9_0 := inj1 hF
    exact W.zret (v := (0 : Int32)) hx hb hr rfl (fun tt ht hW => ⟨_, rfl, ⟨e9_0, Or.inl rfl⟩, ht⟩) (fun _ h => by cases h) (dq_172 0 bcX8_isWatch_0 (j := 12) rfl rfl)
  ·
    replace hF := inn c_1 hF
    refine lv_iconst (v := 1) hx hb (dq_4 0 bcX8_isWatch_0 (j := 7) rfl rfl) (by decide) ?_
    refine lv_goto (tgt := 12) hx hb (dq_167 0 bcX8_isWatch_0 (j := 8) (i := 4) rfl rfl rfl) (by decide) ?_
    rw [hQ]
    obtain e9_0 := inj1 hF
    exact W.zret (v := (1 : Int32)) hx hb hr rfl (fun tt ht hW => ⟨_, rfl, ⟨e9_0, Or.inr rfl⟩, ht⟩) (fun _ h => by cases h) (dq_172 0 bcX8_isWatch_0 (j := 12) rfl rfl)

def F_X8_whySet (p1 : Int32) (p2 : Int32) (p3 : Int32) (p4 : Int32) (c_sites : Int32) : Option (Int32) :=
  bd1 (F_X8_isWatch c_sites) (fun r_1 => if r_1 = (0 : Int32) then some (0 : Int32) else bd1 (F_X8_in p1.toInt64 p2.toInt64 p3.toInt64) (fun r_5 => if r_5 = (0 : Int32) then some (1 : Int32) else if p1 = p4 then some (2 : Int32) else some (-1 : Int32)))
abbrev w_X8_whySet (E : EE) (a_ a_tape a_readPlace a_script a_scriptLong a_now a_refused a_shareX a_shareY a_askedRow a_kept a_aside a_spelled a_image : Nat) (c_thrown : Int32) (c_taped : Int32) (c_at : Int32) (c_part : Int32) (c_partFrom : Int32) (c_partNumber : Int32) (c_wrong : Int32) (c_partWord : Int64) (c_readLaw : Int32) (c_readBound : Int32) (c_readGoal : Int32) (c_readSites : Int32) (c_scripts : Int32) (c_sites : Int32) (c_asked : Int32) (c_outcome : Int32) (c_took : Int32) (c_acts : Int32) (c_drawn : Int64) (c_racer : Int32) (c_raced : Int32) (c_spelledMany : Int32) (c_hasImage : Int32) : va_W := [k_X8 a_ c_thrown a_tape c_taped c_at c_part c_partFrom c_partNumber c_wrong c_partWord c_readLaw c_readBound c_readGoal c_readSites a_readPlace a_script a_scriptLong c_scripts a_now a_refused c_sites a_shareX a_shareY c_asked c_outcome a_askedRow c_took a_kept c_acts c_drawn a_aside c_racer c_raced a_spelled c_spelledMany a_image c_hasImage]
def v_f_X8_whySet : List Cond := List.cons (.code yX8_whySet cX8_whySet 5 (some .int)) (HAppend.hAppend (α := List Cond) (β := List Cond) (γ := List Cond) [.methodLink RX8 299 yX8_isWatch, .instanceMethod yX8_isWatch, .selects RX8 yX8_isWatch yX8_isWatch, .initialized RX8, .methodLink RX8 60 yX8_in, .static yX8_in] (HAppend.hAppend (α := List Cond) (β := List Cond) (γ := List Cond) v_f_X8_isWatch (HAppend.hAppend (α := List Cond) (β := List Cond) (γ := List Cond) v_f_X8_in [])))
theorem gw_f_X8_whySet : v_f_X8_whySet.all goodWord = true := gw_c2 (by decide +kernel) (gw_ap gw_f_X8_isWatch (gw_ap gw_f_X8_in gw_nil))
theorem g_f_X8_whySet_f_X8_isWatch_299 : GoodIn v_f_X8_whySet (wsV RX8 299 RX8 yX8_isWatch v_f_X8_isWatch) := goodIn_in gw_f_X8_whySet (in4 1 2 3 4 rfl rfl rfl rfl (fun _ h => List.mem_cons_of_mem _ (List.mem_append_right _ (List.mem_append_left _ h))))
theorem g_f_X8_whySet_f_X8_in_60 : GoodIn v_f_X8_whySet (va_wsS RX8 60 yX8_in v_f_X8_in) := goodIn_in gw_f_X8_whySet (in3 5 6 4 rfl rfl rfl (fun _ h => List.mem_cons_of_mem _ (List.mem_append_right _ (List.mem_append_right _ (List.mem_append_left _ h)))))
theorem hd_X8_whySet : yX8_whySet.cls = RX8 ∧ yX8_whySet.cls ≠ "java/lang/invoke/MethodHandle" ∧ yX8_whySet.cls ≠ "java/lang/invoke/VarHandle" ∧ (parseMethodDescriptor yX8_whySet.desc).map (fun d => d.parameters.length) = some 4 := by decide +kernel
set_option maxHeartbeats 4000000 in
set_option maxRecDepth 100000 in
theorem f_X8_whySet (l : Launch) (E : EE) {a_ a_tape a_readPlace a_script a_scriptLong a_now a_refused a_shareX a_shareY a_askedRow a_kept a_aside a_spelled a_image : Nat} {p1 : Int32} {p2 : Int32} {p3 : Int32} {p4 : Int32} {c_thrown : Int32} {c_taped : Int32} {c_at : Int32} {c_part : Int32} {c_partFrom : Int32} {c_partNumber : Int32} {c_wrong : Int32} {c_partWord : Int64} {c_readLaw : Int32} {c_readBound : Int32} {c_readGoal : Int32} {c_readSites : Int32} {c_scripts : Int32} {c_sites : Int32} {c_asked : Int32} {c_outcome : Int32} {c_took : Int32} {c_acts : Int32} {c_drawn : Int64} {c_racer : Int32} {c_raced : Int32} {c_spelledMany : Int32} {c_hasImage : Int32} {rr : Int32} (hF : F_X8_whySet p1 p2 p3 p4 c_sites = some rr) : Met l yX8_whySet v_f_X8_whySet (({ frames := 1, cells := 0, slots := 0, locals := 25 } : Room)) (va_Pc [.ref a_, .int p1, .int p2, .int p3, .int p4] (pP E (w_X8_whySet E a_ a_tape a_readPlace a_script a_scriptLong a_now a_refused a_shareX a_shareY a_askedRow a_kept a_aside a_spelled a_image c_thrown c_taped c_at c_part c_partFrom c_partNumber c_wrong c_partWord c_readLaw c_readBound c_readGoal c_readSites c_scripts c_sites c_asked c_outcome c_took c_acts c_drawn c_racer c_raced c_spelledMany c_hasImage))) (vp_Si (fun q : Int32 => q = rr)) 0 0 (fun _ => False) := by
  refine Met.ofW (cc := cX8_whySet) (maxL := 5) (ret := (some .int)) (by decide) rfl ?_
  intro p e s m args below meth c s₁ B hml hv
  obtain ⟨rfl, ⟨hK, hN⟩, hP⟩ := hv
  have hx := B.exec
  have hb := B.bytes
  have hr := B.returns
  have hts := atoms_spec (ws := v_f_X8_whySet) B.pre
  have hown : s.vm.findClass RX8 = some m.cls := own_of hd_X8_whySet.1 (findClass_of_methodNamed B.named)
  have hlocks : meth.locks = false := B.notSynchronized
  replace hP : va_P E.1 vwCl [k_X8 a_ c_thrown a_tape c_taped c_at c_part c_partFrom c_partNumber c_wrong c_partWord c_readLaw c_readBound c_readGoal c_readSites a_readPlace a_script a_scriptLong c_scripts a_now a_refused c_sites a_shareX a_shareY c_asked c_outcome a_askedRow c_took a_kept c_acts c_drawn a_aside c_racer c_raced a_spelled c_spelledMany a_image c_hasImage] s.heap := hP
  have hl := lv_entry ([.ref a_, .int p1, .int p2, .int p3, .int p4]) (n := 5) (Nat.le_of_ble_eq_true rfl)
  rw [lg_entry_eq]
  generalize (lg_sl ([.ref a_, .int p1, .int p2, .int p3, .int p4]) ++ List.replicate (5 - (lg_sl ([.ref a_, .int p1, .int p2, .int p3, .int p4])).length) Slot.unset).toArray = ls at hl ⊢
  have hl : lv_has ls 5 [(0, .ref a_), (1, .int p1), (2, .int p2), (3, .int p3), (4, .int p4)] := hl
  obtain ⟨Q, hQ⟩ : ∃ Q : State → Prop, Q = MQ below (vp_Si (fun q : Int32 => q = rr)) #[Value.ref a_, Value.int p1, Value.int p2, Value.int p3, Value.int p4] s 0 0 (fun _ => False) := ⟨_, rfl⟩
  rw [← hQ]
  change W p l e ({ frames := 1, cells := 0, slots := 0, locals := 25 } : Room) s m #[Value.ref a_, Value.int p1, Value.int p2, Value.int p3, Value.int p4] below meth c s.heap [] 0 0 Q (F0 m 0 ls [])
  unfold F_X8_whySet at hF
  refine lv_aload_n hx hb (dq_42 0 bcX8_whySet_0 (j := 0) rfl rfl) rfl (lv_at hl 0 rfl) ?_
  replace hF := bd1_s hF
  obtain ⟨r_1, hc_2, hF⟩ := hF
  have hPc : va_P E.1 vwCl (w_X8_isWatch E a_ a_tape a_readPlace a_script a_scriptLong a_now a_refused a_shareX a_shareY a_askedRow a_kept a_aside a_spelled a_image c_thrown c_taped c_at c_part c_partFrom c_partNumber c_wrong c_partWord c_readLaw c_readBound c_readGoal c_readSites c_scripts c_sites c_asked c_outcome c_took c_acts c_drawn c_racer c_raced c_spelledMany c_hasImage) s.heap := hP.sub (ws' := [k_X8 a_ c_thrown a_tape c_taped c_at c_part c_partFrom c_partNumber c_wrong c_partWord c_readLaw c_readBound c_readGoal c_readSites a_readPlace a_script a_scriptLong c_scripts a_now a_refused c_sites a_shareX a_shareY c_asked c_outcome a_askedRow c_took a_kept c_acts c_drawn a_aside c_racer c_raced a_spelled c_spelledMany a_image c_hasImage]) [0] rfl
  have hrc := va_recv hK hPc (ci := 9) (q0 := 0) rfl rfl
  refine pE_z (va_runV (As := []) (rest := [])  ⟨hx, hb, hml, hown, hts⟩ (f_X8_isWatch l E (a_ := a_) (a_tape := a_tape) (a_readPlace := a_readPlace) (a_script := a_script) (a_scriptLong := a_scriptLong) (a_now := a_now) (a_refused := a_refused) (a_shareX := a_shareX) (a_shareY := a_shareY) (a_askedRow := a_askedRow) (a_kept := a_kept) (a_aside := a_aside) (a_spelled := a_spelled) (a_image := a_image) (c_thrown := c_thrown) (c_taped := c_taped) (c_at := c_at) (c_part := c_part) (c_partFrom := c_partFrom) (c_partNumber := c_partNumber) (c_wrong := c_wrong) (c_partWord := c_partWord) (c_readLaw := c_readLaw) (c_readBound := c_readBound) (c_readGoal := c_readGoal) (c_readSites := c_readSites) (c_scripts := c_scripts) (c_sites := c_sites) (c_asked := c_asked) (c_outcome := c_outcome) (c_took := c_took) (c_acts := c_acts) (c_drawn := c_drawn) (c_racer := c_racer) (c_raced := c_raced) (c_spelledMany := c_spelledMany) (c_hasImage := c_hasImage) hc_2) (cwV 0 hts g_f_X8_whySet_f_X8_isWatch_299 rfl rfl rfl hd_X8_isWatch ⟨Nat.le_of_ble_eq_true rfl, Nat.le_of_ble_eq_true rfl⟩) ⟨pP.blind, hrc, (pP.pre ⟨hK, hN⟩ hPc)⟩ rfl rfl hl.1 rfl (lv_room (Nat.le_of_ble_eq_true rfl)) (dq_182 0 bcX8_whySet_0 (j := 1) (i := 299) rfl rfl rfl) ⟨Nat.le_of_ble_eq_true rfl, Nat.le_of_ble_eq_true rfl⟩) (fun hb_3 => ?_)
  refine lv_if_ne (tgt := 11) hx hb (dq_154 0 bcX8_whySet_0 (j := 4) (i := 7) rfl rfl rfl) (by decide) (fun c_4 => ?_) (fun c_4 => ?_)
  ·
    replace hF := inn c_4 hF
    refine lv_iload_n hx hb (dq_27 0 bcX8_whySet_0 (j := 11) rfl rfl) rfl (lv_at hl 1 rfl) ?_
    refine lv_i2l (v := p1.toInt64) hx hb (dq_133 0 bcX8_whySet_0 (j := 12) rfl rfl) rfl ?_
    refine lv_iload_n hx hb (dq_28 0 bcX8_whySet_0 (j := 13) rfl rfl) rfl (lv_at hl 2 rfl) ?_
    refine lv_i2l (v := p2.toInt64) hx hb (dq_133 0 bcX8_whySet_0 (j := 14) rfl rfl) rfl ?_
    refine lv_iload_n hx hb (dq_29 0 bcX8_whySet_0 (j := 15) rfl rfl) rfl (lv_at hl 3 rfl) ?_
    refine lv_i2l (v := p3.toInt64) hx hb (dq_133 0 bcX8_whySet_0 (j := 16) rfl rfl) rfl ?_
    replace hF := bd1_s hF
    obtain ⟨r_5, hc_6, hF⟩ := hF
    have hPc : va_P E.1 vwCl [] s.heap := fun k q h => by simp at h
    refine pE_z (va_runS (As := [.long p1.toInt64, .long p2.toInt64, .long p3.toInt64]) (rest := [])  ⟨hx, hb, hml, hown, hts⟩ (f_X8_in l E (p0 := p1.toInt64) (p1 := p2.toInt64) (p2 := p3.toInt64) hc_6) (va_cwS 3 hts g_f_X8_whySet_f_X8_in_60 rfl rfl rfl hd_X8_in.2 ⟨Nat.le_of_ble_eq_true rfl, Nat.le_of_ble_eq_true rfl⟩) ⟨pP.blind, (pP.pre ⟨hK, hN⟩ hPc)⟩ rfl rfl hl.1 rfl (lv_room (Nat.le_of_ble_eq_true rfl)) (dq_184 0 bcX8_whySet_0 (j := 17) (i := 60) rfl rfl rfl) ⟨Nat.le_of_ble_eq_true rfl, Nat.le_of_ble_eq_true rfl⟩) (fun hb_7 => ?_)
    refine lv_if_ne (tgt := 27) hx hb (dq_154 0 bcX8_whySet_0 (j := 20) (i := 7) rfl rfl rfl) (by decide) (fun c_8 => ?_) (fun c_8 => ?_)
    ·
      replace hF := inn c_8 hF
      refine lv_iload_n hx hb (dq_27 0 bcX8_whySet_0 (j := 27) rfl rfl) rfl (lv_at hl 1 rfl) ?_
      refine lv_iload hx hb (dq_21 0 bcX8_whySet_0 (j := 28) (i := 4) rfl rfl) (lv_at hl 4 rfl) ?_
      refine lv_icmp_ne (tgt := 37) hx hb (dq_160 0 bcX8_whySet_0 (j := 30) (i := 7) rfl rfl rfl) (by decide) (fun c_9 => ?_) (fun c_9 => ?_)
      ·
        replace hF := inn c_9 hF
        refine lv_iconst (v := -1) hx hb (dq_2 0 bcX8_whySet_0 (j := 37) rfl rfl) (by decide) ?_
        rw [hQ]
        obtain e9_0 := inj1 hF
        exact W.iret (v := (-1 : Int32)) hx hb hr (fun tt ht hW => ⟨_, rfl, e9_0, ht⟩) (fun _ h => by cases h) (dq_172 0 bcX8_whySet_0 (j := 38) rfl rfl)
      ·
        replace hF := ip c_9 hF
        refine lv_iconst (v := 2) hx hb (dq_5 0 bcX8_whySet_0 (j := 33) rfl rfl) (by decide) ?_
        refine lv_goto (tgt := 38) hx hb (dq_167 0 bcX8_whySet_0 (j := 34) (i := 4) rfl rfl rfl) (by decide) ?_
        rw [hQ]
        obtain e9_0 := inj1 hF
        exact W.iret (v := (2 : Int32)) hx hb hr (fun tt ht hW => ⟨_, rfl, e9_0, ht⟩) (fun _ h => by cases h) (dq_172 0 bcX8_whySet_0 (j := 38) rfl rfl)
    ·
      replace hF := ip c_8 hF
      refine lv_iconst (v := 1) hx hb (dq_4 0 bcX8_whySet_0 (j := 23) rfl rfl) (by decide) ?_
      refine lv_goto (tgt := 38) hx hb (dq_167 0 bcX8_whySet_0 (j := 24) (i := 14) rfl rfl rfl) (by decide) ?_
      rw [hQ]
      obtain e9_0 := inj1 hF
      exact W.iret (v := (1 : Int32)) hx hb hr (fun tt ht hW => ⟨_, rfl, e9_0, ht⟩) (fun _ h => by cases h) (dq_172 0 bcX8_whySet_0 (j := 38) rfl rfl)
  ·
    replace hF := ip c_4 hF
    refine lv_iconst (v := 0) hx hb (dq_3 0 bcX8_whySet_0 (j := 7) rfl rfl) (by decide) ?_
    refine lv_goto (tgt := 38) hx hb (dq_167 0 bcX8_whySet_0 (j := 8) (i := 30) rfl rfl rfl) (by decide) ?_
    rw [hQ]
    obtain e9_0 := inj1 hF
    exact W.iret (v := (0 : Int32)) hx hb hr (fun tt ht hW => ⟨_, rfl, e9_0, ht⟩) (fun _ h => by cases h) (dq_172 0 bcX8_whySet_0 (j := 38) rfl rfl)

def F_X8_isReached (c_now : Nat → Int32) : Option (Int32) :=
  if c_now 73 < c_now 66 then some (0 : Int32) else some (1 : Int32)
abbrev w_X8_isReached (E : EE) (a_ a_tape a_readPlace a_script a_scriptLong a_now a_refused a_shareX a_shareY a_askedRow a_kept a_aside a_spelled a_image : Nat) (c_thrown : Int32) (c_taped : Int32) (c_at : Int32) (c_part : Int32) (c_partFrom : Int32) (c_partNumber : Int32) (c_wrong : Int32) (c_partWord : Int64) (c_readLaw : Int32) (c_readBound : Int32) (c_readGoal : Int32) (c_readSites : Int32) (c_scripts : Int32) (c_sites : Int32) (c_asked : Int32) (c_outcome : Int32) (c_took : Int32) (c_acts : Int32) (c_drawn : Int64) (c_racer : Int32) (c_raced : Int32) (c_spelledMany : Int32) (c_hasImage : Int32) (c_now : Nat → Int32) : va_W := [k_X8 a_ c_thrown a_tape c_taped c_at c_part c_partFrom c_partNumber c_wrong c_partWord c_readLaw c_readBound c_readGoal c_readSites a_readPlace a_script a_scriptLong c_scripts a_now a_refused c_sites a_shareX a_shareY c_asked c_outcome a_askedRow c_took a_kept c_acts c_drawn a_aside c_racer c_raced a_spelled c_spelledMany a_image c_hasImage, k_I E a_now 265 c_now]
def v_f_X8_isReached : List Cond := List.cons (.code yX8_isReached cX8_isReached 1 (some .boolean)) (HAppend.hAppend (α := List Cond) (β := List Cond) (γ := List Cond) [.fieldLink RX8 22 "HushWatchModel" "now" "[I"] (HAppend.hAppend (α := List Cond) (β := List Cond) (γ := List Cond) wsX80 []))
theorem gw_f_X8_isReached : v_f_X8_isReached.all goodWord = true := gw_c2 (by decide +kernel) (gw_ap gw_wsX80 gw_nil)
theorem i_f_X8_isReached_X8 : ∀ w ∈ wsX80, w ∈ v_f_X8_isReached := fun _ h => List.mem_cons_of_mem _ (List.mem_append_right _ (List.mem_append_left _ h))
theorem hd_X8_isReached : yX8_isReached.cls = RX8 ∧ yX8_isReached.cls ≠ "java/lang/invoke/MethodHandle" ∧ yX8_isReached.cls ≠ "java/lang/invoke/VarHandle" ∧ (parseMethodDescriptor yX8_isReached.desc).map (fun d => d.parameters.length) = some 0 := by decide +kernel
set_option maxHeartbeats 4000000 in
set_option maxRecDepth 100000 in
theorem f_X8_isReached (l : Launch) (E : EE) {a_ a_tape a_readPlace a_script a_scriptLong a_now a_refused a_shareX a_shareY a_askedRow a_kept a_aside a_spelled a_image : Nat} {c_thrown : Int32} {c_taped : Int32} {c_at : Int32} {c_part : Int32} {c_partFrom : Int32} {c_partNumber : Int32} {c_wrong : Int32} {c_partWord : Int64} {c_readLaw : Int32} {c_readBound : Int32} {c_readGoal : Int32} {c_readSites : Int32} {c_scripts : Int32} {c_sites : Int32} {c_asked : Int32} {c_outcome : Int32} {c_took : Int32} {c_acts : Int32} {c_drawn : Int64} {c_racer : Int32} {c_raced : Int32} {c_spelledMany : Int32} {c_hasImage : Int32} {c_now : Nat → Int32} {rr : Int32} (hF : F_X8_isReached c_now = some rr) : Met l yX8_isReached v_f_X8_isReached (({ frames := 0, cells := 0, slots := 0, locals := 0 } : Room)) (va_Pc [.ref a_] (pP E (w_X8_isReached E a_ a_tape a_readPlace a_script a_scriptLong a_now a_refused a_shareX a_shareY a_askedRow a_kept a_aside a_spelled a_image c_thrown c_taped c_at c_part c_partFrom c_partNumber c_wrong c_partWord c_readLaw c_readBound c_readGoal c_readSites c_scripts c_sites c_asked c_outcome c_took c_acts c_drawn c_racer c_raced c_spelledMany c_hasImage c_now))) (vp_Si (fun q : Int32 => q = rr ∧ (q = 0 ∨ q = 1))) 0 0 (fun _ => False) := by
  refine Met.ofW (cc := cX8_isReached) (maxL := 1) (ret := (some .boolean)) (by decide) rfl ?_
  intro p e s m args below meth c s₁ B hml hv
  obtain ⟨rfl, ⟨hK, hN⟩, hP⟩ := hv
  have hx := B.exec
  have hb := B.bytes
  have hr := B.returns
  have hts := atoms_spec (ws := v_f_X8_isReached) B.pre
  have hown : s.vm.findClass RX8 = some m.cls := own_of hd_X8_isReached.1 (findClass_of_methodNamed B.named)
  have hlocks : meth.locks = false := B.notSynchronized
  replace hP : va_P E.1 vwCl [k_X8 a_ c_thrown a_tape c_taped c_at c_part c_partFrom c_partNumber c_wrong c_partWord c_readLaw c_readBound c_readGoal c_readSites a_readPlace a_script a_scriptLong c_scripts a_now a_refused c_sites a_shareX a_shareY c_asked c_outcome a_askedRow c_took a_kept c_acts c_drawn a_aside c_racer c_raced a_spelled c_spelledMany a_image c_hasImage, k_I E a_now 265 c_now] s.heap := hP
  have hl := lv_entry ([.ref a_]) (n := 1) (Nat.le_of_ble_eq_true rfl)
  rw [lg_entry_eq]
  generalize (lg_sl ([.ref a_]) ++ List.replicate (1 - (lg_sl ([.ref a_])).length) Slot.unset).toArray = ls at hl ⊢
  have hl : lv_has ls 1 [(0, .ref a_)] := hl
  obtain ⟨Q, hQ⟩ : ∃ Q : State → Prop, Q = MQ below (vp_Si (fun q : Int32 => q = rr ∧ (q = 0 ∨ q = 1))) #[Value.ref a_] s 0 0 (fun _ => False) := ⟨_, rfl⟩
  rw [← hQ]
  change W p l e ({ frames := 0, cells := 0, slots := 0, locals := 0 } : Room) s m #[Value.ref a_] below meth c s.heap [] 0 0 Q (F0 m 0 ls [])
  unfold F_X8_isReached at hF
  refine lv_aload_n hx hb (dq_42 0 bcX8_isReached_0 (j := 0) rfl rfl) rfl (lv_at hl 0 rfl) ?_
  refine gt_X8_17 (v := .ref a_now) hx hb hts i_f_X8_isReached_X8 hown hK hP 0 rfl (hts (.fieldLink RX8 22 "HushWatchModel" "now" "[I") (List.mem_of_getElem? (i := 1) rfl)) rfl (dq_180 0 bcX8_isReached_0 (j := 1) (i := 22) rfl rfl rfl) ?_
  refine lv_bipush (v := 73) hx hb (dq_16 0 bcX8_isReached_0 (j := 4) (i := 73) rfl rfl rfl) (by decide) ?_
  refine va_iald hx hb hK hP 1 0 rfl rfl (vin rfl) (dq_46 0 bcX8_isReached_0 (j := 6) rfl rfl) ?_
  refine W.eq (g2 := F0 m 7 ls [.int (c_now 73)]) rfl ?_
  refine lv_aload_n hx hb (dq_42 0 bcX8_isReached_0 (j := 7) rfl rfl) rfl (lv_at hl 0 rfl) ?_
  refine gt_X8_17 (v := .ref a_now) hx hb hts i_f_X8_isReached_X8 hown hK hP 0 rfl (hts (.fieldLink RX8 22 "HushWatchModel" "now" "[I") (List.mem_of_getElem? (i := 1) rfl)) rfl (dq_180 0 bcX8_isReached_0 (j := 8) (i := 22) rfl rfl rfl) ?_
  refine lv_bipush (v := 66) hx hb (dq_16 0 bcX8_isReached_0 (j := 11) (i := 66) rfl rfl rfl) (by decide) ?_
  refine va_iald hx hb hK hP 1 0 rfl rfl (vin rfl) (dq_46 0 bcX8_isReached_0 (j := 13) rfl rfl) ?_
  refine W.eq (g2 := F0 m 14 ls [.int (c_now 66), .int (c_now 73)]) rfl ?_
  refine lv_icmp_lt (tgt := 21) hx hb (dq_161 0 bcX8_isReached_0 (j := 14) (i := 7) rfl rfl rfl) (by decide) (fun c_1 => ?_) (fun c_1 => ?_)
  ·
    replace hF := ip c_1 hF
    refine lv_iconst (v := 0) hx hb (dq_3 0 bcX8_isReached_0 (j := 21) rfl rfl) (by decide) ?_
    rw [hQ]
    obtain e9_0 := inj1 hF
    exact W.zret (v := (0 : Int32)) hx hb hr rfl (fun tt ht hW => ⟨_, rfl, ⟨e9_0, Or.inl rfl⟩, ht⟩) (fun _ h => by cases h) (dq_172 0 bcX8_isReached_0 (j := 22) rfl rfl)
  ·
    replace hF := inn c_1 hF
    refine lv_iconst (v := 1) hx hb (dq_4 0 bcX8_isReached_0 (j := 17) rfl rfl) (by decide) ?_
    refine lv_goto (tgt := 22) hx hb (dq_167 0 bcX8_isReached_0 (j := 18) (i := 4) rfl rfl rfl) (by decide) ?_
    rw [hQ]
    obtain e9_0 := inj1 hF
    exact W.zret (v := (1 : Int32)) hx hb hr rfl (fun tt ht hW => ⟨_, rfl, ⟨e9_0, Or.inr rfl⟩, ht⟩) (fun _ h => by cases h) (dq_172 0 bcX8_isReached_0 (j := 22) rfl rfl)

def F_X8_whyAdd (p1 : Int32) (p2 : Int32) (c_now : Nat → Int32) (c_sites : Int32) : Option (Int32) :=
  bd1 (F_X8_isSite p1 c_sites) (fun r_1 => if r_1 = (0 : Int32) then some (0 : Int32) else bd1 (F_X8_in p2.toInt64 (1 : Int64) (999 : Int64)) (fun r_5 => if r_5 = (0 : Int32) then some (1 : Int32) else ixF ((48 : Int32) + p1) 265 (if (c_now ((48 : Int32) + p1).toNatClampNeg) + p2 ≤ (99999 : Int32) then bd1 (F_X8_isReached c_now) (fun r_11 => if r_11 = (0 : Int32) then some (-1 : Int32) else some (2 : Int32)) else some (1 : Int32))))
abbrev w_X8_whyAdd (E : EE) (a_ a_tape a_readPlace a_script a_scriptLong a_now a_refused a_shareX a_shareY a_askedRow a_kept a_aside a_spelled a_image : Nat) (c_thrown : Int32) (c_taped : Int32) (c_at : Int32) (c_part : Int32) (c_partFrom : Int32) (c_partNumber : Int32) (c_wrong : Int32) (c_partWord : Int64) (c_readLaw : Int32) (c_readBound : Int32) (c_readGoal : Int32) (c_readSites : Int32) (c_scripts : Int32) (c_sites : Int32) (c_asked : Int32) (c_outcome : Int32) (c_took : Int32) (c_acts : Int32) (c_drawn : Int64) (c_racer : Int32) (c_raced : Int32) (c_spelledMany : Int32) (c_hasImage : Int32) (c_now : Nat → Int32) : va_W := [k_X8 a_ c_thrown a_tape c_taped c_at c_part c_partFrom c_partNumber c_wrong c_partWord c_readLaw c_readBound c_readGoal c_readSites a_readPlace a_script a_scriptLong c_scripts a_now a_refused c_sites a_shareX a_shareY c_asked c_outcome a_askedRow c_took a_kept c_acts c_drawn a_aside c_racer c_raced a_spelled c_spelledMany a_image c_hasImage, k_I E a_now 265 c_now]
def v_f_X8_whyAdd : List Cond := List.cons (.code yX8_whyAdd cX8_whyAdd 3 (some .int)) (HAppend.hAppend (α := List Cond) (β := List Cond) (γ := List Cond) [.constantLong RX8 289 (999), .fieldLink RX8 22 "HushWatchModel" "now" "[I", .constant RX8 291 (99999), .methodLink RX8 278 yX8_isSite, .instanceMethod yX8_isSite, .selects RX8 yX8_isSite yX8_isSite, .initialized RX8, .methodLink RX8 60 yX8_in, .static yX8_in, .methodLink RX8 292 yX8_isReached, .instanceMethod yX8_isReached, .selects RX8 yX8_isReached yX8_isReached] (HAppend.hAppend (α := List Cond) (β := List Cond) (γ := List Cond) v_f_X8_isSite (HAppend.hAppend (α := List Cond) (β := List Cond) (γ := List Cond) v_f_X8_in (HAppend.hAppend (α := List Cond) (β := List Cond) (γ := List Cond) wsX80 (HAppend.hAppend (α := List Cond) (β := List Cond) (γ := List Cond) v_f_X8_isReached [])))))
theorem gw_f_X8_whyAdd : v_f_X8_whyAdd.all goodWord = true := gw_c2 (by decide +kernel) (gw_ap gw_f_X8_isSite (gw_ap gw_f_X8_in (gw_ap gw_wsX80 (gw_ap gw_f_X8_isReached gw_nil))))
theorem i_f_X8_whyAdd_X8 : ∀ w ∈ wsX80, w ∈ v_f_X8_whyAdd := fun _ h => List.mem_cons_of_mem _ (List.mem_append_right _ (List.mem_append_right _ (List.mem_append_right _ (List.mem_append_left _ h))))
theorem g_f_X8_whyAdd_f_X8_isSite_278 : GoodIn v_f_X8_whyAdd (wsV RX8 278 RX8 yX8_isSite v_f_X8_isSite) := goodIn_in gw_f_X8_whyAdd (in4 4 5 6 7 rfl rfl rfl rfl (fun _ h => List.mem_cons_of_mem _ (List.mem_append_right _ (List.mem_append_left _ h))))
theorem g_f_X8_whyAdd_f_X8_in_60 : GoodIn v_f_X8_whyAdd (va_wsS RX8 60 yX8_in v_f_X8_in) := goodIn_in gw_f_X8_whyAdd (in3 8 9 7 rfl rfl rfl (fun _ h => List.mem_cons_of_mem _ (List.mem_append_right _ (List.mem_append_right _ (List.mem_append_left _ h)))))
theorem g_f_X8_whyAdd_f_X8_isReached_292 : GoodIn v_f_X8_whyAdd (wsV RX8 292 RX8 yX8_isReached v_f_X8_isReached) := goodIn_in gw_f_X8_whyAdd (in4 10 11 12 7 rfl rfl rfl rfl (fun _ h => List.mem_cons_of_mem _ (List.mem_append_right _ (List.mem_append_right _ (List.mem_append_right _ (List.mem_append_right _ (List.mem_append_left _ h)))))))
theorem hd_X8_whyAdd : yX8_whyAdd.cls = RX8 ∧ yX8_whyAdd.cls ≠ "java/lang/invoke/MethodHandle" ∧ yX8_whyAdd.cls ≠ "java/lang/invoke/VarHandle" ∧ (parseMethodDescriptor yX8_whyAdd.desc).map (fun d => d.parameters.length) = some 2 := by decide +kernel
set_option maxHeartbeats 4000000 in
set_option maxRecDepth 100000 in
theorem f_X8_whyAdd (l : Launch) (E : EE) {a_ a_tape a_readPlace a_script a_scriptLong a_now a_refused a_shareX a_shareY a_askedRow a_kept a_aside a_spelled a_image : Nat} {p1 : Int32} {p2 : Int32} {c_thrown : Int32} {c_taped : Int32} {c_at : Int32} {c_part : Int32} {c_partFrom : Int32} {c_partNumber : Int32} {c_wrong : Int32} {c_partWord : Int64} {c_readLaw : Int32} {c_readBound : Int32} {c_readGoal : Int32} {c_readSites : Int32} {c_scripts : Int32} {c_sites : Int32} {c_asked : Int32} {c_outcome : Int32} {c_took : Int32} {c_acts : Int32} {c_drawn : Int64} {c_racer : Int32} {c_raced : Int32} {c_spelledMany : Int32} {c_hasImage : Int32} {c_now : Nat → Int32} {rr : Int32} (hF : F_X8_whyAdd p1 p2 c_now c_sites = some rr) : Met l yX8_whyAdd v_f_X8_whyAdd (({ frames := 2, cells := 0, slots := 0, locals := 46 } : Room)) (va_Pc [.ref a_, .int p1, .int p2] (pP E (w_X8_whyAdd E a_ a_tape a_readPlace a_script a_scriptLong a_now a_refused a_shareX a_shareY a_askedRow a_kept a_aside a_spelled a_image c_thrown c_taped c_at c_part c_partFrom c_partNumber c_wrong c_partWord c_readLaw c_readBound c_readGoal c_readSites c_scripts c_sites c_asked c_outcome c_took c_acts c_drawn c_racer c_raced c_spelledMany c_hasImage c_now))) (vp_Si (fun q : Int32 => q = rr)) 0 0 (fun _ => False) := by
  refine Met.ofW (cc := cX8_whyAdd) (maxL := 3) (ret := (some .int)) (by decide) rfl ?_
  intro p e s m args below meth c s₁ B hml hv
  obtain ⟨rfl, ⟨hK, hN⟩, hP⟩ := hv
  have hx := B.exec
  have hb := B.bytes
  have hr := B.returns
  have hts := atoms_spec (ws := v_f_X8_whyAdd) B.pre
  have hown : s.vm.findClass RX8 = some m.cls := own_of hd_X8_whyAdd.1 (findClass_of_methodNamed B.named)
  have hlocks : meth.locks = false := B.notSynchronized
  replace hP : va_P E.1 vwCl [k_X8 a_ c_thrown a_tape c_taped c_at c_part c_partFrom c_partNumber c_wrong c_partWord c_readLaw c_readBound c_readGoal c_readSites a_readPlace a_script a_scriptLong c_scripts a_now a_refused c_sites a_shareX a_shareY c_asked c_outcome a_askedRow c_took a_kept c_acts c_drawn a_aside c_racer c_raced a_spelled c_spelledMany a_image c_hasImage, k_I E a_now 265 c_now] s.heap := hP
  have hl := lv_entry ([.ref a_, .int p1, .int p2]) (n := 3) (Nat.le_of_ble_eq_true rfl)
  rw [lg_entry_eq]
  generalize (lg_sl ([.ref a_, .int p1, .int p2]) ++ List.replicate (3 - (lg_sl ([.ref a_, .int p1, .int p2])).length) Slot.unset).toArray = ls at hl ⊢
  have hl : lv_has ls 3 [(0, .ref a_), (1, .int p1), (2, .int p2)] := hl
  obtain ⟨Q, hQ⟩ : ∃ Q : State → Prop, Q = MQ below (vp_Si (fun q : Int32 => q = rr)) #[Value.ref a_, Value.int p1, Value.int p2] s 0 0 (fun _ => False) := ⟨_, rfl⟩
  rw [← hQ]
  change W p l e ({ frames := 2, cells := 0, slots := 0, locals := 46 } : Room) s m #[Value.ref a_, Value.int p1, Value.int p2] below meth c s.heap [] 0 0 Q (F0 m 0 ls [])
  unfold F_X8_whyAdd at hF
  refine lv_aload_n hx hb (dq_42 0 bcX8_whyAdd_0 (j := 0) rfl rfl) rfl (lv_at hl 0 rfl) ?_
  refine lv_iload_n hx hb (dq_27 0 bcX8_whyAdd_0 (j := 1) rfl rfl) rfl (lv_at hl 1 rfl) ?_
  replace hF := bd1_s hF
  obtain ⟨r_1, hc_2, hF⟩ := hF
  have hPc : va_P E.1 vwCl (w_X8_isSite E a_ a_tape a_readPlace a_script a_scriptLong a_now a_refused a_shareX a_shareY a_askedRow a_kept a_aside a_spelled a_image c_thrown c_taped c_at c_part c_partFrom c_partNumber c_wrong c_partWord c_readLaw c_readBound c_readGoal c_readSites c_scripts c_sites c_asked c_outcome c_took c_acts c_drawn c_racer c_raced c_spelledMany c_hasImage) s.heap := hP.sub (ws' := [k_X8 a_ c_thrown a_tape c_taped c_at c_part c_partFrom c_partNumber c_wrong c_partWord c_readLaw c_readBound c_readGoal c_readSites a_readPlace a_script a_scriptLong c_scripts a_now a_refused c_sites a_shareX a_shareY c_asked c_outcome a_askedRow c_took a_kept c_acts c_drawn a_aside c_racer c_raced a_spelled c_spelledMany a_image c_hasImage]) [0] rfl
  have hrc := va_recv hK hPc (ci := 9) (q0 := 0) rfl rfl
  refine pE_z (va_runV (As := [.int p1]) (rest := [])  ⟨hx, hb, hml, hown, hts⟩ (f_X8_isSite l E (a_ := a_) (a_tape := a_tape) (a_readPlace := a_readPlace) (a_script := a_script) (a_scriptLong := a_scriptLong) (a_now := a_now) (a_refused := a_refused) (a_shareX := a_shareX) (a_shareY := a_shareY) (a_askedRow := a_askedRow) (a_kept := a_kept) (a_aside := a_aside) (a_spelled := a_spelled) (a_image := a_image) (p1 := p1) (c_thrown := c_thrown) (c_taped := c_taped) (c_at := c_at) (c_part := c_part) (c_partFrom := c_partFrom) (c_partNumber := c_partNumber) (c_wrong := c_wrong) (c_partWord := c_partWord) (c_readLaw := c_readLaw) (c_readBound := c_readBound) (c_readGoal := c_readGoal) (c_readSites := c_readSites) (c_scripts := c_scripts) (c_sites := c_sites) (c_asked := c_asked) (c_outcome := c_outcome) (c_took := c_took) (c_acts := c_acts) (c_drawn := c_drawn) (c_racer := c_racer) (c_raced := c_raced) (c_spelledMany := c_spelledMany) (c_hasImage := c_hasImage) hc_2) (cwV 1 hts g_f_X8_whyAdd_f_X8_isSite_278 rfl rfl rfl hd_X8_isSite ⟨Nat.le_of_ble_eq_true rfl, Nat.le_of_ble_eq_true rfl⟩) ⟨pP.blind, hrc, (pP.pre ⟨hK, hN⟩ hPc)⟩ rfl rfl hl.1 rfl (lv_room (Nat.le_of_ble_eq_true rfl)) (dq_182 0 bcX8_whyAdd_0 (j := 2) (i := 278) rfl rfl rfl) ⟨Nat.le_of_ble_eq_true rfl, Nat.le_of_ble_eq_true rfl⟩) (fun hb_3 => ?_)
  refine lv_if_ne (tgt := 10) hx hb (dq_154 0 bcX8_whyAdd_0 (j := 5) (i := 5) rfl rfl rfl) (by decide) (fun c_4 => ?_) (fun c_4 => ?_)
  ·
    replace hF := inn c_4 hF
    refine lv_iload_n hx hb (dq_28 0 bcX8_whyAdd_0 (j := 10) rfl rfl) rfl (lv_at hl 2 rfl) ?_
    refine lv_i2l (v := p2.toInt64) hx hb (dq_133 0 bcX8_whyAdd_0 (j := 11) rfl rfl) rfl ?_
    refine lv_lconst (v := 1) hx hb (dq_10 0 bcX8_whyAdd_0 (j := 12) rfl rfl) (by decide) ?_
    refine lv_ldc2 (v := 999) hx hb hown (hts (.constantLong RX8 289 (999)) (List.mem_of_getElem? (i := 1) rfl)) (dq_20 0 bcX8_whyAdd_0 (j := 13) (i := 289) rfl rfl rfl) ?_
    replace hF := bd1_s hF
    obtain ⟨r_5, hc_6, hF⟩ := hF
    have hPc : va_P E.1 vwCl [] s.heap := fun k q h => by simp at h
    refine pE_z (va_runS (As := [.long p2.toInt64, .long (1 : Int64), .long (999 : Int64)]) (rest := [])  ⟨hx, hb, hml, hown, hts⟩ (f_X8_in l E (p0 := p2.toInt64) (p1 := (1 : Int64)) (p2 := (999 : Int64)) hc_6) (va_cwS 3 hts g_f_X8_whyAdd_f_X8_in_60 rfl rfl rfl hd_X8_in.2 ⟨Nat.le_of_ble_eq_true rfl, Nat.le_of_ble_eq_true rfl⟩) ⟨pP.blind, (pP.pre ⟨hK, hN⟩ hPc)⟩ rfl rfl hl.1 rfl (lv_room (Nat.le_of_ble_eq_true rfl)) (dq_184 0 bcX8_whyAdd_0 (j := 16) (i := 60) rfl rfl rfl) ⟨Nat.le_of_ble_eq_true rfl, Nat.le_of_ble_eq_true rfl⟩) (fun hb_7 => ?_)
    refine lv_if_eq (tgt := 39) hx hb (dq_153 0 bcX8_whyAdd_0 (j := 19) (i := 20) rfl rfl rfl) (by decide) (fun c_8 => ?_) (fun c_8 => ?_)
    ·
      replace hF := ip c_8 hF
      refine lv_iconst (v := 1) hx hb (dq_4 0 bcX8_whyAdd_0 (j := 39) rfl rfl) (by decide) ?_
      refine lv_goto (tgt := 55) hx hb (dq_167 0 bcX8_whyAdd_0 (j := 40) (i := 15) rfl rfl rfl) (by decide) ?_
      rw [hQ]
      obtain e9_0 := inj1 hF
      exact W.iret (v := (1 : Int32)) hx hb hr (fun tt ht hW => ⟨_, rfl, e9_0, ht⟩) (fun _ h => by cases h) (dq_172 48 bcX8_whyAdd_1 (j := 7) rfl rfl)
    ·
      replace hF := inn c_8 hF
      refine lv_aload_n hx hb (dq_42 0 bcX8_whyAdd_0 (j := 22) rfl rfl) rfl (lv_at hl 0 rfl) ?_
      refine gt_X8_17 (v := .ref a_now) hx hb hts i_f_X8_whyAdd_X8 hown hK hP 0 rfl (hts (.fieldLink RX8 22 "HushWatchModel" "now" "[I") (List.mem_of_getElem? (i := 2) rfl)) rfl (dq_180 0 bcX8_whyAdd_0 (j := 23) (i := 22) rfl rfl rfl) ?_
      refine lv_bipush (v := 48) hx hb (dq_16 0 bcX8_whyAdd_0 (j := 26) (i := 48) rfl rfl rfl) (by decide) ?_
      refine lv_iload_n hx hb (dq_27 0 bcX8_whyAdd_0 (j := 28) rfl rfl) rfl (lv_at hl 1 rfl) ?_
      refine lv_iadd hx hb (dq_96 0 bcX8_whyAdd_0 (j := 29) rfl rfl) ?_
      replace hF := ix_s hF
      obtain ⟨hi_9, hF⟩ := hF
      refine va_iald hx hb hK hP 1 0 rfl rfl hi_9 (dq_46 0 bcX8_whyAdd_0 (j := 30) rfl rfl) ?_
      refine lv_iload_n hx hb (dq_28 0 bcX8_whyAdd_0 (j := 31) rfl rfl) rfl (lv_at hl 2 rfl) ?_
      refine lv_iadd hx hb (dq_96 0 bcX8_whyAdd_0 (j := 32) rfl rfl) ?_
      refine lv_ldcw (v := 99999) hx hb hown (hts (.constant RX8 291 (99999)) (List.mem_of_getElem? (i := 3) rfl)) (dq_19 0 bcX8_whyAdd_0 (j := 33) (i := 291) rfl rfl rfl) ?_
      refine lv_icmp_le (tgt := 43) hx hb (dq_164 0 bcX8_whyAdd_0 (j := 36) (i := 7) rfl rfl rfl) (by decide) (fun c_10 => ?_) (fun c_10 => ?_)
      ·
        replace hF := ip c_10 hF
        refine lv_aload_n hx hb (dq_42 0 bcX8_whyAdd_0 (j := 43) rfl rfl) rfl (lv_at hl 0 rfl) ?_
        replace hF := bd1_s hF
        obtain ⟨r_11, hc_12, hF⟩ := hF
        have hPc : va_P E.1 vwCl (w_X8_isReached E a_ a_tape a_readPlace a_script a_scriptLong a_now a_refused a_shareX a_shareY a_askedRow a_kept a_aside a_spelled a_image c_thrown c_taped c_at c_part c_partFrom c_partNumber c_wrong c_partWord c_readLaw c_readBound c_readGoal c_readSites c_scripts c_sites c_asked c_outcome c_took c_acts c_drawn c_racer c_raced c_spelledMany c_hasImage c_now) s.heap := hP.sub (ws' := [k_X8 a_ c_thrown a_tape c_taped c_at c_part c_partFrom c_partNumber c_wrong c_partWord c_readLaw c_readBound c_readGoal c_readSites a_readPlace a_script a_scriptLong c_scripts a_now a_refused c_sites a_shareX a_shareY c_asked c_outcome a_askedRow c_took a_kept c_acts c_drawn a_aside c_racer c_raced a_spelled c_spelledMany a_image c_hasImage, k_I E a_now 265 c_now]) [0, 1] rfl
        have hrc := va_recv hK hPc (ci := 9) (q0 := 0) rfl rfl
        refine pE_z (va_runV (As := []) (rest := [])  ⟨hx, hb, hml, hown, hts⟩ (f_X8_isReached l E (a_ := a_) (a_tape := a_tape) (a_readPlace := a_readPlace) (a_script := a_script) (a_scriptLong := a_scriptLong) (a_now := a_now) (a_refused := a_refused) (a_shareX := a_shareX) (a_shareY := a_shareY) (a_askedRow := a_askedRow) (a_kept := a_kept) (a_aside := a_aside) (a_spelled := a_spelled) (a_image := a_image) (c_thrown := c_thrown) (c_taped := c_taped) (c_at := c_at) (c_part := c_part) (c_partFrom := c_partFrom) (c_partNumber := c_partNumber) (c_wrong := c_wrong) (c_partWord := c_partWord) (c_readLaw := c_readLaw) (c_readBound := c_readBound) (c_readGoal := c_readGoal) (c_readSites := c_readSites) (c_scripts := c_scripts) (c_sites := c_sites) (c_asked := c_asked) (c_outcome := c_outcome) (c_took := c_took) (c_acts := c_acts) (c_drawn := c_drawn) (c_racer := c_racer) (c_raced := c_raced) (c_spelledMany := c_spelledMany) (c_hasImage := c_hasImage) (c_now := c_now) hc_12) (cwV 0 hts g_f_X8_whyAdd_f_X8_isReached_292 rfl rfl rfl hd_X8_isReached ⟨Nat.le_of_ble_eq_true rfl, Nat.le_of_ble_eq_true rfl⟩) ⟨pP.blind, hrc, (pP.pre ⟨hK, hN⟩ hPc)⟩ rfl rfl hl.1 rfl (lv_room (Nat.le_of_ble_eq_true rfl)) (dq_182 0 bcX8_whyAdd_0 (j := 44) (i := 292) rfl rfl rfl) ⟨Nat.le_of_ble_eq_true rfl, Nat.le_of_ble_eq_true rfl⟩) (fun hb_13 => ?_)
        refine lv_if_eq (tgt := 54) hx hb (dq_153 0 bcX8_whyAdd_0 (j := 47) (i := 7) rfl rfl rfl) (by decide) (fun c_14 => ?_) (fun c_14 => ?_)
        ·
          replace hF := ip c_14 hF
          refine lv_iconst (v := -1) hx hb (dq_2 48 bcX8_whyAdd_1 (j := 6) rfl rfl) (by decide) ?_
          rw [hQ]
          obtain e9_0 := inj1 hF
          exact W.iret (v := (-1 : Int32)) hx hb hr (fun tt ht hW => ⟨_, rfl, e9_0, ht⟩) (fun _ h => by cases h) (dq_172 48 bcX8_whyAdd_1 (j := 7) rfl rfl)
        ·
          replace hF := inn c_14 hF
          refine lv_iconst (v := 2) hx hb (dq_5 48 bcX8_whyAdd_1 (j := 2) rfl rfl) (by decide) ?_
          refine lv_goto (tgt := 55) hx hb (dq_167 48 bcX8_whyAdd_1 (j := 3) (i := 4) rfl rfl rfl) (by decide) ?_
          rw [hQ]
          obtain e9_0 := inj1 hF
          exact W.iret (v := (2 : Int32)) hx hb hr (fun tt ht hW => ⟨_, rfl, e9_0, ht⟩) (fun _ h => by cases h) (dq_172 48 bcX8_whyAdd_1 (j := 7) rfl rfl)
      ·
        replace hF := inn c_10 hF
        refine lv_iconst (v := 1) hx hb (dq_4 0 bcX8_whyAdd_0 (j := 39) rfl rfl) (by decide) ?_
        refine lv_goto (tgt := 55) hx hb (dq_167 0 bcX8_whyAdd_0 (j := 40) (i := 15) rfl rfl rfl) (by decide) ?_
        rw [hQ]
        obtain e9_0 := inj1 hF
        exact W.iret (v := (1 : Int32)) hx hb hr (fun tt ht hW => ⟨_, rfl, e9_0, ht⟩) (fun _ h => by cases h) (dq_172 48 bcX8_whyAdd_1 (j := 7) rfl rfl)
  ·
    replace hF := ip c_4 hF
    refine lv_iconst (v := 0) hx hb (dq_3 0 bcX8_whyAdd_0 (j := 8) rfl rfl) (by decide) ?_
    rw [hQ]
    obtain e9_0 := inj1 hF
    exact W.iret (v := (0 : Int32)) hx hb hr (fun tt ht hW => ⟨_, rfl, e9_0, ht⟩) (fun _ h => by cases h) (dq_172 0 bcX8_whyAdd_0 (j := 9) rfl rfl)
end
