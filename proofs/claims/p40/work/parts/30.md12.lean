noncomputable def blX8_asked_0 : List Nat := [42, 27, 28, 29, 4, 182, 1, 143, 2, 160, 0, 7, 2, 167, 0, 31, 21, 4, 133, 9, 42, 180, 0, 248, 4, 100, 133, 184, 0, 60, 153, 0, 13, 42, 180, 0, 34, 21, 4, 46, 167, 0, 4, 2, 172]
set_option maxRecDepth 100000 in
theorem bcX8_asked_0 : ((cX8_asked.data.toList.drop 0).take blX8_asked_0.length).map UInt8.toNat = blX8_asked_0 := by decide +kernel
noncomputable def blX8_back_0 : List Nat := [42, 180, 0, 208, 154, 0, 5, 2, 172, 3, 60, 27, 17, 1, 9, 162, 0, 21, 42, 180, 0, 22, 27, 42, 180, 0, 46, 27, 46, 79, 132, 1, 1, 167, 255, 234, 42, 3, 181, 0, 205, 42, 180, 0, 22, 16, 67, 46, 172]
set_option maxRecDepth 100000 in
theorem bcX8_back_0 : ((cX8_back.data.toList.drop 0).take blX8_back_0.length).map UInt8.toNat = blX8_back_0 := by decide +kernel
noncomputable def blX8_back_1 : List Nat := [172]
set_option maxRecDepth 100000 in
theorem bcX8_back_1 : ((cX8_back.data.toList.drop 48).take blX8_back_1.length).map UInt8.toNat = blX8_back_1 := by decide +kernel
noncomputable def blX8_begins_0 : List Nat := [42, 3, 181, 0, 64, 42, 2, 181, 0, 103, 42, 182, 0, 109, 177]
set_option maxRecDepth 100000 in
theorem bcX8_begins_0 : ((cX8_begins.data.toList.drop 0).take blX8_begins_0.length).map UInt8.toNat = blX8_begins_0 := by decide +kernel
noncomputable def blX8_bound_0 : List Nat := [42, 18, 182, 5, 27, 3, 3, 182, 1, 94, 172]
set_option maxRecDepth 100000 in
theorem bcX8_bound_0 : ((cX8_bound.data.toList.drop 0).take blX8_bound_0.length).map UInt8.toNat = blX8_bound_0 := by decide +kernel
noncomputable def blX8_byteOf_0 : List Nat := [21, 5, 7, 162, 0, 7, 26, 167, 0, 38, 21, 5, 16, 8, 162, 0, 7, 27, 167, 0, 27, 21, 5, 16, 12, 162, 0, 7, 28, 167, 0, 16, 21, 5, 16, 16, 162, 0, 7, 29, 167, 0, 5, 21, 4, 54, 6, 21, 6, 16, 24]
set_option maxRecDepth 100000 in
theorem bcX8_byteOf_0 : ((cX8_byteOf.data.toList.drop 0).take blX8_byteOf_0.length).map UInt8.toNat = blX8_byteOf_0 := by decide +kernel
noncomputable def blX8_byteOf_1 : List Nat := [6, 16, 24, 16, 8, 21, 5, 7, 112, 104, 100, 122, 17, 0, 255, 126, 172]
set_option maxRecDepth 100000 in
theorem bcX8_byteOf_1 : ((cX8_byteOf.data.toList.drop 48).take blX8_byteOf_1.length).map UInt8.toNat = blX8_byteOf_1 := by decide +kernel
noncomputable def blX8_canStand_0 : List Nat := [42, 180, 0, 22, 3, 27, 96, 46, 133, 20, 1, 29, 20, 1, 31, 184, 0, 60, 153, 0, 29, 42, 180, 0, 22, 16, 8, 27, 96, 46, 133, 20, 1, 29, 20, 1, 31, 184, 0, 60, 153, 0, 7, 4, 167, 0, 4, 3, 172]
set_option maxRecDepth 100000 in
theorem bcX8_canStand_0 : ((cX8_canStand.data.toList.drop 0).take blX8_canStand_0.length).map UInt8.toNat = blX8_canStand_0 := by decide +kernel
noncomputable def blX8_canStand_1 : List Nat := [172]
set_option maxRecDepth 100000 in
theorem bcX8_canStand_1 : ((cX8_canStand.data.toList.drop 48).take blX8_canStand_1.length).map UInt8.toNat = blX8_canStand_1 := by decide +kernel
noncomputable def blX8_isWord_0 : List Nat := [42, 180, 0, 83, 4, 160, 0, 16, 42, 180, 0, 67, 31, 148, 154, 0, 7, 4, 167, 0, 4, 3, 172]
set_option maxRecDepth 100000 in
theorem bcX8_isWord_0 : ((cX8_isWord.data.toList.drop 0).take blX8_isWord_0.length).map UInt8.toNat = blX8_isWord_0 := by decide +kernel
noncomputable def blX8_word_1 : List Nat := [29, 167, 0, 16, 21, 8, 7, 160, 0, 8, 21, 4, 167, 0, 5, 21, 5, 54, 9, 21, 9, 154, 0, 8, 22, 6, 167, 0, 19, 20, 0, 79, 22, 6, 105, 21, 9, 133, 97, 20, 0, 81, 101, 10, 97, 55, 6, 132, 8, 1, 167]
set_option maxRecDepth 100000 in
theorem bcX8_word_1 : ((cX8_word.data.toList.drop 48).take blX8_word_1.length).map UInt8.toNat = blX8_word_1 := by decide +kernel
noncomputable def blX8_word_2 : List Nat := [8, 1, 167, 255, 164, 22, 6, 173]
set_option maxRecDepth 100000 in
theorem bcX8_word_2 : ((cX8_word.data.toList.drop 96).take blX8_word_2.length).map UInt8.toNat = blX8_word_2 := by decide +kernel
noncomputable def blX8_word_0 : List Nat := [9, 55, 6, 3, 54, 8, 21, 8, 16, 6, 162, 0, 91, 21, 8, 154, 0, 7, 26, 167, 0, 46, 21, 8, 4, 160, 0, 7, 27, 167, 0, 36, 21, 8, 5, 160, 0, 7, 28, 167, 0, 26, 21, 8, 6, 160, 0, 7, 29, 167, 0]
set_option maxRecDepth 100000 in
theorem bcX8_word_0 : ((cX8_word.data.toList.drop 0).take blX8_word_0.length).map UInt8.toNat = blX8_word_0 := by decide +kernel

def F_X8_asked (K : Nat) (p1 : Int32) (p2 : Int32) (p3 : Int32) (p4 : Int32) (c_now : Nat → Int32) (c_sites : Int32) (c_shareX : Nat → Int32) (c_shareY : Nat → Int32) (c_asked : Int32) (c_outcome : Int32) (c_askedRow : Nat → Int32) (c_aside : Nat → Int32) : Option (Int32 × (Nat → Int32) × (Nat → Int32) × (Nat → Int32) × Int32 × Int32 × (Nat → Int32) × (Nat → Int32)) :=
  bd8 (F_X8_would K p1 p2 p3 (1 : Int32) c_now c_sites c_shareX c_shareY c_asked c_outcome c_askedRow c_aside) (fun r_1 w_2 w_3 w_4 w_5 w_6 w_7 w_8 => if r_1 = (-1 : Int32) then some ((-1 : Int32), w_2, w_3, w_4, w_5, w_6, w_7, w_8) else bd1 (F_X8_in p4.toInt64 (0 : Int64) ((w_5 - (1 : Int32)).toInt64)) (fun r_11 => if r_11 = (0 : Int32) then some ((-1 : Int32), w_2, w_3, w_4, w_5, w_6, w_7, w_8) else ixF p4 8 (some (w_7 p4.toNatClampNeg, w_2, w_3, w_4, w_5, w_6, w_7, w_8))))
abbrev w_X8_asked (E : EE) (a_ a_tape a_readPlace a_script a_scriptLong a_now a_refused a_shareX a_shareY a_askedRow a_kept a_aside a_spelled a_image : Nat) (c_thrown : Int32) (c_taped : Int32) (c_at : Int32) (c_part : Int32) (c_partFrom : Int32) (c_partNumber : Int32) (c_wrong : Int32) (c_partWord : Int64) (c_readLaw : Int32) (c_readBound : Int32) (c_readGoal : Int32) (c_readSites : Int32) (c_scripts : Int32) (c_sites : Int32) (c_asked : Int32) (c_outcome : Int32) (c_took : Int32) (c_acts : Int32) (c_drawn : Int64) (c_racer : Int32) (c_raced : Int32) (c_spelledMany : Int32) (c_hasImage : Int32) (c_now : Nat → Int32) (c_shareX : Nat → Int32) (c_shareY : Nat → Int32) (c_askedRow : Nat → Int32) (c_aside : Nat → Int32) : va_W := [k_X8 a_ c_thrown a_tape c_taped c_at c_part c_partFrom c_partNumber c_wrong c_partWord c_readLaw c_readBound c_readGoal c_readSites a_readPlace a_script a_scriptLong c_scripts a_now a_refused c_sites a_shareX a_shareY c_asked c_outcome a_askedRow c_took a_kept c_acts c_drawn a_aside c_racer c_raced a_spelled c_spelledMany a_image c_hasImage, k_I E a_now 265 c_now, k_I E a_shareX 8 c_shareX, k_I E a_shareY 8 c_shareY, k_I E a_askedRow 8 c_askedRow, k_I E a_aside 84 c_aside]
def v_f_X8_asked : List Cond := List.cons (.code yX8_asked cX8_asked 5 (some .int)) (HAppend.hAppend (α := List Cond) (β := List Cond) (γ := List Cond) [.fieldLink RX8 248 "HushWatchModel" "asked" "I", .fieldLink RX8 34 "HushWatchModel" "askedRow" "[I", .methodLink RX8 399 yX8_would, .instanceMethod yX8_would, .selects RX8 yX8_would yX8_would, .initialized RX8, .methodLink RX8 60 yX8_in, .static yX8_in] (HAppend.hAppend (α := List Cond) (β := List Cond) (γ := List Cond) v_f_X8_would (HAppend.hAppend (α := List Cond) (β := List Cond) (γ := List Cond) wsX80 (HAppend.hAppend (α := List Cond) (β := List Cond) (γ := List Cond) v_f_X8_in []))))
theorem gw_f_X8_asked : v_f_X8_asked.all goodWord = true := gw_c2 (by decide +kernel) (gw_ap gw_f_X8_would (gw_ap gw_wsX80 (gw_ap gw_f_X8_in gw_nil)))
theorem i_f_X8_asked_X8 : ∀ w ∈ wsX80, w ∈ v_f_X8_asked := fun _ h => List.mem_cons_of_mem _ (List.mem_append_right _ (List.mem_append_right _ (List.mem_append_left _ h)))
theorem g_f_X8_asked_f_X8_would_399 : GoodIn v_f_X8_asked (wsV RX8 399 RX8 yX8_would v_f_X8_would) := goodIn_in gw_f_X8_asked (in4 3 4 5 6 rfl rfl rfl rfl (fun _ h => List.mem_cons_of_mem _ (List.mem_append_right _ (List.mem_append_left _ h))))
theorem g_f_X8_asked_f_X8_in_60 : GoodIn v_f_X8_asked (va_wsS RX8 60 yX8_in v_f_X8_in) := goodIn_in gw_f_X8_asked (in3 7 8 6 rfl rfl rfl (fun _ h => List.mem_cons_of_mem _ (List.mem_append_right _ (List.mem_append_right _ (List.mem_append_right _ (List.mem_append_left _ h))))))
theorem hd_X8_asked : yX8_asked.cls = RX8 ∧ yX8_asked.cls ≠ "java/lang/invoke/MethodHandle" ∧ yX8_asked.cls ≠ "java/lang/invoke/VarHandle" ∧ (parseMethodDescriptor yX8_asked.desc).map (fun d => d.parameters.length) = some 4 := by decide +kernel
set_option maxHeartbeats 4000000 in
set_option maxRecDepth 100000 in
theorem f_X8_asked (l : Launch) (E : EE) (sz : Nat) (K : Nat) {a_ a_tape a_readPlace a_script a_scriptLong a_now a_refused a_shareX a_shareY a_askedRow a_kept a_aside a_spelled a_image : Nat} {p1 : Int32} {p2 : Int32} {p3 : Int32} {p4 : Int32} {c_thrown : Int32} {c_taped : Int32} {c_at : Int32} {c_part : Int32} {c_partFrom : Int32} {c_partNumber : Int32} {c_wrong : Int32} {c_partWord : Int64} {c_readLaw : Int32} {c_readBound : Int32} {c_readGoal : Int32} {c_readSites : Int32} {c_scripts : Int32} {c_sites : Int32} {c_asked : Int32} {c_outcome : Int32} {c_took : Int32} {c_acts : Int32} {c_drawn : Int64} {c_racer : Int32} {c_raced : Int32} {c_spelledMany : Int32} {c_hasImage : Int32} {c_now : Nat → Int32} {c_shareX : Nat → Int32} {c_shareY : Nat → Int32} {c_askedRow : Nat → Int32} {c_aside : Nat → Int32} {rr : Int32} {n_now : Nat → Int32} {n_shareX : Nat → Int32} {n_shareY : Nat → Int32} {n_asked : Int32} {n_outcome : Int32} {n_askedRow : Nat → Int32} {n_aside : Nat → Int32} (hF : F_X8_asked K p1 p2 p3 p4 c_now c_sites c_shareX c_shareY c_asked c_outcome c_askedRow c_aside = some (rr, n_now, n_shareX, n_shareY, n_asked, n_outcome, n_askedRow, n_aside)) : Met l yX8_asked v_f_X8_asked (({ frames := 7, cells := 0, slots := 0, locals := 166 } : Room)) (va_Pc [.ref a_, .int p1, .int p2, .int p3, .int p4] (pW E sz (w_X8_asked E a_ a_tape a_readPlace a_script a_scriptLong a_now a_refused a_shareX a_shareY a_askedRow a_kept a_aside a_spelled a_image c_thrown c_taped c_at c_part c_partFrom c_partNumber c_wrong c_partWord c_readLaw c_readBound c_readGoal c_readSites c_scripts c_sites c_asked c_outcome c_took c_acts c_drawn c_racer c_raced c_spelledMany c_hasImage c_now c_shareX c_shareY c_askedRow c_aside))) (va_Qi (fun (q : Int32) (_u : Unit) => q = rr) (fun (_u : Unit) tt => va_P E.1 vwCl (w_X8_asked E a_ a_tape a_readPlace a_script a_scriptLong a_now a_refused a_shareX a_shareY a_askedRow a_kept a_aside a_spelled a_image c_thrown c_taped c_at c_part c_partFrom c_partNumber c_wrong c_partWord c_readLaw c_readBound c_readGoal c_readSites c_scripts c_sites n_asked n_outcome c_took c_acts c_drawn c_racer c_raced c_spelledMany c_hasImage n_now n_shareX n_shareY n_askedRow n_aside) tt.heap ∧ va_D (va_A (w_X8_asked E a_ a_tape a_readPlace a_script a_scriptLong a_now a_refused a_shareX a_shareY a_askedRow a_kept a_aside a_spelled a_image c_thrown c_taped c_at c_part c_partFrom c_partNumber c_wrong c_partWord c_readLaw c_readBound c_readGoal c_readSites c_scripts c_sites c_asked c_outcome c_took c_acts c_drawn c_racer c_raced c_spelledMany c_hasImage c_now c_shareX c_shareY c_askedRow c_aside) sz) (w_X8_asked E a_ a_tape a_readPlace a_script a_scriptLong a_now a_refused a_shareX a_shareY a_askedRow a_kept a_aside a_spelled a_image c_thrown c_taped c_at c_part c_partFrom c_partNumber c_wrong c_partWord c_readLaw c_readBound c_readGoal c_readSites c_scripts c_sites n_asked n_outcome c_took c_acts c_drawn c_racer c_raced c_spelledMany c_hasImage n_now n_shareX n_shareY n_askedRow n_aside)) (va_A (w_X8_asked E a_ a_tape a_readPlace a_script a_scriptLong a_now a_refused a_shareX a_shareY a_askedRow a_kept a_aside a_spelled a_image c_thrown c_taped c_at c_part c_partFrom c_partNumber c_wrong c_partWord c_readLaw c_readBound c_readGoal c_readSites c_scripts c_sites c_asked c_outcome c_took c_acts c_drawn c_racer c_raced c_spelledMany c_hasImage c_now c_shareX c_shareY c_askedRow c_aside) sz)) 0 0 (va_A (w_X8_asked E a_ a_tape a_readPlace a_script a_scriptLong a_now a_refused a_shareX a_shareY a_askedRow a_kept a_aside a_spelled a_image c_thrown c_taped c_at c_part c_partFrom c_partNumber c_wrong c_partWord c_readLaw c_readBound c_readGoal c_readSites c_scripts c_sites c_asked c_outcome c_took c_acts c_drawn c_racer c_raced c_spelledMany c_hasImage c_now c_shareX c_shareY c_askedRow c_aside) sz) := by
  refine Met.ofW (cc := cX8_asked) (maxL := 5) (ret := (some .int)) (by decide) rfl ?_
  intro p e s m args below meth c s₁ B hml hv
  obtain ⟨rfl, hsz, ⟨hK, hN⟩, hP, hD0⟩ := hv
  have hx := B.exec
  have hb := B.bytes
  have hr := B.returns
  have hts := atoms_spec (ws := v_f_X8_asked) B.pre
  have hown : s.vm.findClass RX8 = some m.cls := own_of hd_X8_asked.1 (findClass_of_methodNamed B.named)
  have hlocks : meth.locks = false := B.notSynchronized
  subst hsz
  have hD := hD0.self (sz := s.heap.size)
  generalize hAe : va_A (w_X8_asked E a_ a_tape a_readPlace a_script a_scriptLong a_now a_refused a_shareX a_shareY a_askedRow a_kept a_aside a_spelled a_image c_thrown c_taped c_at c_part c_partFrom c_partNumber c_wrong c_partWord c_readLaw c_readBound c_readGoal c_readSites c_scripts c_sites c_asked c_outcome c_took c_acts c_drawn c_racer c_raced c_spelledMany c_hasImage c_now c_shareX c_shareY c_askedRow c_aside) s.heap.size = A at hD ⊢
  have hA : ∀ q : Nat, s.heap.size ≤ q → A q := fun q h => by rw [← hAe]; exact Or.inr h
  have hS : va_S A s.heap s.heap [] := va_S.rf
  have hl := lv_entry ([.ref a_, .int p1, .int p2, .int p3, .int p4]) (n := 5) (Nat.le_of_ble_eq_true rfl)
  rw [lg_entry_eq]
  generalize (lg_sl ([.ref a_, .int p1, .int p2, .int p3, .int p4]) ++ List.replicate (5 - (lg_sl ([.ref a_, .int p1, .int p2, .int p3, .int p4])).length) Slot.unset).toArray = ls at hl ⊢
  have hl : lv_has ls 5 [(0, .ref a_), (1, .int p1), (2, .int p2), (3, .int p3), (4, .int p4)] := hl
  obtain ⟨Q, hQ⟩ : ∃ Q : State → Prop, Q = MQ below (va_Qi (fun (q : Int32) (_u : Unit) => q = rr) (fun (_u : Unit) tt => va_P E.1 vwCl (w_X8_asked E a_ a_tape a_readPlace a_script a_scriptLong a_now a_refused a_shareX a_shareY a_askedRow a_kept a_aside a_spelled a_image c_thrown c_taped c_at c_part c_partFrom c_partNumber c_wrong c_partWord c_readLaw c_readBound c_readGoal c_readSites c_scripts c_sites n_asked n_outcome c_took c_acts c_drawn c_racer c_raced c_spelledMany c_hasImage n_now n_shareX n_shareY n_askedRow n_aside) tt.heap ∧ va_D A (w_X8_asked E a_ a_tape a_readPlace a_script a_scriptLong a_now a_refused a_shareX a_shareY a_askedRow a_kept a_aside a_spelled a_image c_thrown c_taped c_at c_part c_partFrom c_partNumber c_wrong c_partWord c_readLaw c_readBound c_readGoal c_readSites c_scripts c_sites n_asked n_outcome c_took c_acts c_drawn c_racer c_raced c_spelledMany c_hasImage n_now n_shareX n_shareY n_askedRow n_aside)) A) #[Value.ref a_, Value.int p1, Value.int p2, Value.int p3, Value.int p4] s 0 0 A := ⟨_, rfl⟩
  rw [← hQ]
  change W p l e ({ frames := 7, cells := 0, slots := 0, locals := 166 } : Room) s m #[Value.ref a_, Value.int p1, Value.int p2, Value.int p3, Value.int p4] below meth c s.heap [] 0 0 Q (F0 m 0 ls [])
  suffices hh9 : ∀ (H : Heap) (locs : List Loc), va_P E.1 vwCl (w_X8_asked E a_ a_tape a_readPlace a_script a_scriptLong a_now a_refused a_shareX a_shareY a_askedRow a_kept a_aside a_spelled a_image c_thrown c_taped c_at c_part c_partFrom c_partNumber c_wrong c_partWord c_readLaw c_readBound c_readGoal c_readSites c_scripts c_sites c_asked c_outcome c_took c_acts c_drawn c_racer c_raced c_spelledMany c_hasImage c_now c_shareX c_shareY c_askedRow c_aside) H → va_D A (w_X8_asked E a_ a_tape a_readPlace a_script a_scriptLong a_now a_refused a_shareX a_shareY a_askedRow a_kept a_aside a_spelled a_image c_thrown c_taped c_at c_part c_partFrom c_partNumber c_wrong c_partWord c_readLaw c_readBound c_readGoal c_readSites c_scripts c_sites c_asked c_outcome c_took c_acts c_drawn c_racer c_raced c_spelledMany c_hasImage c_now c_shareX c_shareY c_askedRow c_aside) → va_S A s.heap H locs → W p l e ({ frames := 7, cells := 0, slots := 0, locals := 166 } : Room) s m #[Value.ref a_, Value.int p1, Value.int p2, Value.int p3, Value.int p4] below meth c H locs 0 0 Q (F0 m 0 ls []) from hh9 s.heap [] hP hD hS
  clear hP hD hS
  intro H locs hP hD hS
  have h9 := fixPD (ws' := [k_X8 a_ c_thrown a_tape c_taped c_at c_part c_partFrom c_partNumber c_wrong c_partWord c_readLaw c_readBound c_readGoal c_readSites a_readPlace a_script a_scriptLong c_scripts a_now a_refused c_sites a_shareX a_shareY c_asked c_outcome a_askedRow c_took a_kept c_acts c_drawn a_aside c_racer c_raced a_spelled c_spelledMany a_image c_hasImage, k_I E a_now 265 c_now, k_I E a_shareX 8 c_shareX, k_I E a_shareY 8 c_shareY, k_I E a_askedRow 8 c_askedRow, k_I E a_aside 84 c_aside]) hP hD rfl
  clear hP hD
  obtain ⟨hP, hD⟩ := h9
  unfold F_X8_asked at hF
  refine lv_aload_n hx hb (dq_42 0 bcX8_asked_0 (j := 0) rfl rfl) rfl (lv_at hl 0 rfl) ?_
  refine lv_iload_n hx hb (dq_27 0 bcX8_asked_0 (j := 1) rfl rfl) rfl (lv_at hl 1 rfl) ?_
  refine lv_iload_n hx hb (dq_28 0 bcX8_asked_0 (j := 2) rfl rfl) rfl (lv_at hl 2 rfl) ?_
  refine lv_iload_n hx hb (dq_29 0 bcX8_asked_0 (j := 3) rfl rfl) rfl (lv_at hl 3 rfl) ?_
  refine lv_iconst (v := 1) hx hb (dq_4 0 bcX8_asked_0 (j := 4) rfl rfl) (by decide) ?_
  replace hF := bd8_s hF
  obtain ⟨r_1, w_2, w_3, w_4, w_5, w_6, w_7, w_8, hc_9, hF⟩ := hF
  obtain ⟨hPc, hDc, hFc⟩ := wcut (wc := (w_X8_would E a_ a_tape a_readPlace a_script a_scriptLong a_now a_refused a_shareX a_shareY a_askedRow a_kept a_aside a_spelled a_image c_thrown c_taped c_at c_part c_partFrom c_partNumber c_wrong c_partWord c_readLaw c_readBound c_readGoal c_readSites c_scripts c_sites c_asked c_outcome c_took c_acts c_drawn c_racer c_raced c_spelledMany c_hasImage c_now c_shareX c_shareY c_askedRow c_aside)) hP hD hS hA [0, 1, 2, 3, 4, 5] (by decide) rfl
  have hrc := va_recv hK hPc (ci := 9) (q0 := 0) rfl rfl
  refine cE_i (wc := (w_X8_would E a_ a_tape a_readPlace a_script a_scriptLong a_now a_refused a_shareX a_shareY a_askedRow a_kept a_aside a_spelled a_image c_thrown c_taped c_at c_part c_partFrom c_partNumber c_wrong c_partWord c_readLaw c_readBound c_readGoal c_readSites c_scripts c_sites c_asked c_outcome c_took c_acts c_drawn c_racer c_raced c_spelledMany c_hasImage c_now c_shareX c_shareY c_askedRow c_aside)) (wr := []) (w1 := (w_X8_would E a_ a_tape a_readPlace a_script a_scriptLong a_now a_refused a_shareX a_shareY a_askedRow a_kept a_aside a_spelled a_image c_thrown c_taped c_at c_part c_partFrom c_partNumber c_wrong c_partWord c_readLaw c_readBound c_readGoal c_readSites c_scripts c_sites w_5 w_6 c_took c_acts c_drawn c_racer c_raced c_spelledMany c_hasImage w_2 w_3 w_4 w_7 w_8)) (va_runV (As := [.int p1, .int p2, .int p3, .int (1 : Int32)]) (rest := [])  ⟨hx, hb, hml, hown, hts⟩ (f_X8_would l E H.size K (a_ := a_) (a_tape := a_tape) (a_readPlace := a_readPlace) (a_script := a_script) (a_scriptLong := a_scriptLong) (a_now := a_now) (a_refused := a_refused) (a_shareX := a_shareX) (a_shareY := a_shareY) (a_askedRow := a_askedRow) (a_kept := a_kept) (a_aside := a_aside) (a_spelled := a_spelled) (a_image := a_image) (p1 := p1) (p2 := p2) (p3 := p3) (p4 := (1 : Int32)) (c_thrown := c_thrown) (c_taped := c_taped) (c_at := c_at) (c_part := c_part) (c_partFrom := c_partFrom) (c_partNumber := c_partNumber) (c_wrong := c_wrong) (c_partWord := c_partWord) (c_readLaw := c_readLaw) (c_readBound := c_readBound) (c_readGoal := c_readGoal) (c_readSites := c_readSites) (c_scripts := c_scripts) (c_sites := c_sites) (c_asked := c_asked) (c_outcome := c_outcome) (c_took := c_took) (c_acts := c_acts) (c_drawn := c_drawn) (c_racer := c_racer) (c_raced := c_raced) (c_spelledMany := c_spelledMany) (c_hasImage := c_hasImage) (c_now := c_now) (c_shareX := c_shareX) (c_shareY := c_shareY) (c_askedRow := c_askedRow) (c_aside := c_aside) hc_9) (cwV 4 hts g_f_X8_asked_f_X8_would_399 rfl rfl rfl hd_X8_would ⟨Nat.le_of_ble_eq_true rfl, Nat.le_of_ble_eq_true rfl⟩) ⟨pW.blind, hrc, (pW.pre ⟨hK, hN⟩ hPc hDc)⟩ rfl rfl hl.1 rfl (lv_room (Nat.le_of_ble_eq_true rfl)) (dq_182 0 bcX8_asked_0 (j := 5) (i := 399) rfl rfl rfl) ⟨Nat.le_of_ble_eq_true rfl, Nat.le_of_ble_eq_true rfl⟩) hS hFc hP hD [0, 1, 2, 3, 4, 5] [] rfl rfl (by decide) (by decide) (fun H locs hP hD hS => ?_)
  have h9 := fixPD (ws' := [k_X8 a_ c_thrown a_tape c_taped c_at c_part c_partFrom c_partNumber c_wrong c_partWord c_readLaw c_readBound c_readGoal c_readSites a_readPlace a_script a_scriptLong c_scripts a_now a_refused c_sites a_shareX a_shareY w_5 w_6 a_askedRow c_took a_kept c_acts c_drawn a_aside c_racer c_raced a_spelled c_spelledMany a_image c_hasImage, k_I E a_now 265 w_2, k_I E a_shareX 8 w_3, k_I E a_shareY 8 w_4, k_I E a_askedRow 8 w_7, k_I E a_aside 84 w_8]) hP hD rfl
  clear hP hD
  obtain ⟨hP, hD⟩ := h9
  refine lv_iconst (v := -1) hx hb (dq_2 0 bcX8_asked_0 (j := 8) rfl rfl) (by decide) ?_
  refine lv_icmp_ne (tgt := 16) hx hb (dq_160 0 bcX8_asked_0 (j := 9) (i := 7) rfl rfl rfl) (by decide) (fun c_10 => ?_) (fun c_10 => ?_)
  ·
    replace hF := inn c_10 hF
    refine lv_iload hx hb (dq_21 0 bcX8_asked_0 (j := 16) (i := 4) rfl rfl) (lv_at hl 4 rfl) ?_
    refine lv_i2l (v := p4.toInt64) hx hb (dq_133 0 bcX8_asked_0 (j := 18) rfl rfl) rfl ?_
    refine lv_lconst (v := 0) hx hb (dq_9 0 bcX8_asked_0 (j := 19) rfl rfl) (by decide) ?_
    refine lv_aload_n hx hb (dq_42 0 bcX8_asked_0 (j := 20) rfl rfl) rfl (lv_at hl 0 rfl) ?_
    refine gt_X8_22 (v := .int w_5) hx hb hts i_f_X8_asked_X8 hown hK hP 0 rfl (hts (.fieldLink RX8 248 "HushWatchModel" "asked" "I") (List.mem_of_getElem? (i := 1) rfl)) rfl (dq_180 0 bcX8_asked_0 (j := 21) (i := 248) rfl rfl rfl) ?_
    refine lv_iconst (v := 1) hx hb (dq_4 0 bcX8_asked_0 (j := 24) rfl rfl) (by decide) ?_
    refine lv_isub hx hb (dq_100 0 bcX8_asked_0 (j := 25) rfl rfl) ?_
    refine lv_i2l (v := (w_5 - (1 : Int32)).toInt64) hx hb (dq_133 0 bcX8_asked_0 (j := 26) rfl rfl) rfl ?_
    replace hF := bd1_s hF
    obtain ⟨r_11, hc_12, hF⟩ := hF
    have hPc : va_P E.1 vwCl [] H := fun k q h => by simp at h
    refine pE_z (va_runS (As := [.long p4.toInt64, .long (0 : Int64), .long ((w_5 - (1 : Int32)).toInt64)]) (rest := [])  ⟨hx, hb, hml, hown, hts⟩ (f_X8_in l E (p0 := p4.toInt64) (p1 := (0 : Int64)) (p2 := (w_5 - (1 : Int32)).toInt64) hc_12) (va_cwS 3 hts g_f_X8_asked_f_X8_in_60 rfl rfl rfl hd_X8_in.2 ⟨Nat.le_of_ble_eq_true rfl, Nat.le_of_ble_eq_true rfl⟩) ⟨pP.blind, (pP.pre ⟨hK, hN⟩ hPc)⟩ rfl rfl hl.1 rfl (lv_room (Nat.le_of_ble_eq_true rfl)) (dq_184 0 bcX8_asked_0 (j := 27) (i := 60) rfl rfl rfl) ⟨Nat.le_of_ble_eq_true rfl, Nat.le_of_ble_eq_true rfl⟩) (fun hb_13 => ?_)
    refine lv_if_eq (tgt := 43) hx hb (dq_153 0 bcX8_asked_0 (j := 30) (i := 13) rfl rfl rfl) (by decide) (fun c_14 => ?_) (fun c_14 => ?_)
    ·
      replace hF := ip c_14 hF
      refine lv_iconst (v := -1) hx hb (dq_2 0 bcX8_asked_0 (j := 43) rfl rfl) (by decide) ?_
      rw [hQ]
      have h9 := fin9 (P := fun u9 : Int32 × (Nat → Int32) × (Nat → Int32) × (Nat → Int32) × Int32 × Int32 × (Nat → Int32) × (Nat → Int32) => (-1 : Int32) = u9.1 ∧ va_P E.1 vwCl (w_X8_asked E a_ a_tape a_readPlace a_script a_scriptLong a_now a_refused a_shareX a_shareY a_askedRow a_kept a_aside a_spelled a_image c_thrown c_taped c_at c_part c_partFrom c_partNumber c_wrong c_partWord c_readLaw c_readBound c_readGoal c_readSites c_scripts c_sites u9.2.2.2.2.1 u9.2.2.2.2.2.1 c_took c_acts c_drawn c_racer c_raced c_spelledMany c_hasImage u9.2.1 u9.2.2.1 u9.2.2.2.1 u9.2.2.2.2.2.2.1 u9.2.2.2.2.2.2.2) H ∧ va_D A (w_X8_asked E a_ a_tape a_readPlace a_script a_scriptLong a_now a_refused a_shareX a_shareY a_askedRow a_kept a_aside a_spelled a_image c_thrown c_taped c_at c_part c_partFrom c_partNumber c_wrong c_partWord c_readLaw c_readBound c_readGoal c_readSites c_scripts c_sites u9.2.2.2.2.1 u9.2.2.2.2.2.1 c_took c_acts c_drawn c_racer c_raced c_spelledMany c_hasImage u9.2.1 u9.2.2.1 u9.2.2.2.1 u9.2.2.2.2.2.2.1 u9.2.2.2.2.2.2.2)) hF ⟨rfl, hP, hD⟩
      obtain ⟨e9_0, hP9, hD9⟩ := h9
      exact W.iret (v := (-1 : Int32)) hx hb hr (fun tt ht hW => ⟨⟨_, (), rfl, e9_0, ht ▸ hP9, hD9⟩, hS.F ht⟩) hS.2.2 (dq_172 0 bcX8_asked_0 (j := 44) rfl rfl)
    ·
      replace hF := inn c_14 hF
      refine lv_aload_n hx hb (dq_42 0 bcX8_asked_0 (j := 33) rfl rfl) rfl (lv_at hl 0 rfl) ?_
      refine gt_X8_24 (v := .ref a_askedRow) hx hb hts i_f_X8_asked_X8 hown hK hP 0 rfl (hts (.fieldLink RX8 34 "HushWatchModel" "askedRow" "[I") (List.mem_of_getElem? (i := 2) rfl)) rfl (dq_180 0 bcX8_asked_0 (j := 34) (i := 34) rfl rfl rfl) ?_
      refine lv_iload hx hb (dq_21 0 bcX8_asked_0 (j := 37) (i := 4) rfl rfl) (lv_at hl 4 rfl) ?_
      replace hF := ix_s hF
      obtain ⟨hi_15, hF⟩ := hF
      refine va_iald hx hb hK hP 4 0 rfl rfl hi_15 (dq_46 0 bcX8_asked_0 (j := 39) rfl rfl) ?_
      refine lv_goto (tgt := 44) hx hb (dq_167 0 bcX8_asked_0 (j := 40) (i := 4) rfl rfl rfl) (by decide) ?_
      rw [hQ]
      have h9 := fin9 (P := fun u9 : Int32 × (Nat → Int32) × (Nat → Int32) × (Nat → Int32) × Int32 × Int32 × (Nat → Int32) × (Nat → Int32) => (w_7 p4.toNatClampNeg) = u9.1 ∧ va_P E.1 vwCl (w_X8_asked E a_ a_tape a_readPlace a_script a_scriptLong a_now a_refused a_shareX a_shareY a_askedRow a_kept a_aside a_spelled a_image c_thrown c_taped c_at c_part c_partFrom c_partNumber c_wrong c_partWord c_readLaw c_readBound c_readGoal c_readSites c_scripts c_sites u9.2.2.2.2.1 u9.2.2.2.2.2.1 c_took c_acts c_drawn c_racer c_raced c_spelledMany c_hasImage u9.2.1 u9.2.2.1 u9.2.2.2.1 u9.2.2.2.2.2.2.1 u9.2.2.2.2.2.2.2) H ∧ va_D A (w_X8_asked E a_ a_tape a_readPlace a_script a_scriptLong a_now a_refused a_shareX a_shareY a_askedRow a_kept a_aside a_spelled a_image c_thrown c_taped c_at c_part c_partFrom c_partNumber c_wrong c_partWord c_readLaw c_readBound c_readGoal c_readSites c_scripts c_sites u9.2.2.2.2.1 u9.2.2.2.2.2.1 c_took c_acts c_drawn c_racer c_raced c_spelledMany c_hasImage u9.2.1 u9.2.2.1 u9.2.2.2.1 u9.2.2.2.2.2.2.1 u9.2.2.2.2.2.2.2)) hF ⟨rfl, hP, hD⟩
      obtain ⟨e9_0, hP9, hD9⟩ := h9
      exact W.iret (v := w_7 p4.toNatClampNeg) hx hb hr (fun tt ht hW => ⟨⟨_, (), rfl, e9_0, ht ▸ hP9, hD9⟩, hS.F ht⟩) hS.2.2 (dq_172 0 bcX8_asked_0 (j := 44) rfl rfl)
  ·
    replace hF := ip c_10 hF
    refine lv_iconst (v := -1) hx hb (dq_2 0 bcX8_asked_0 (j := 12) rfl rfl) (by decide) ?_
    refine lv_goto (tgt := 44) hx hb (dq_167 0 bcX8_asked_0 (j := 13) (i := 31) rfl rfl rfl) (by decide) ?_
    rw [hQ]
    have h9 := fin9 (P := fun u9 : Int32 × (Nat → Int32) × (Nat → Int32) × (Nat → Int32) × Int32 × Int32 × (Nat → Int32) × (Nat → Int32) => (-1 : Int32) = u9.1 ∧ va_P E.1 vwCl (w_X8_asked E a_ a_tape a_readPlace a_script a_scriptLong a_now a_refused a_shareX a_shareY a_askedRow a_kept a_aside a_spelled a_image c_thrown c_taped c_at c_part c_partFrom c_partNumber c_wrong c_partWord c_readLaw c_readBound c_readGoal c_readSites c_scripts c_sites u9.2.2.2.2.1 u9.2.2.2.2.2.1 c_took c_acts c_drawn c_racer c_raced c_spelledMany c_hasImage u9.2.1 u9.2.2.1 u9.2.2.2.1 u9.2.2.2.2.2.2.1 u9.2.2.2.2.2.2.2) H ∧ va_D A (w_X8_asked E a_ a_tape a_readPlace a_script a_scriptLong a_now a_refused a_shareX a_shareY a_askedRow a_kept a_aside a_spelled a_image c_thrown c_taped c_at c_part c_partFrom c_partNumber c_wrong c_partWord c_readLaw c_readBound c_readGoal c_readSites c_scripts c_sites u9.2.2.2.2.1 u9.2.2.2.2.2.1 c_took c_acts c_drawn c_racer c_raced c_spelledMany c_hasImage u9.2.1 u9.2.2.1 u9.2.2.2.1 u9.2.2.2.2.2.2.1 u9.2.2.2.2.2.2.2)) hF ⟨rfl, hP, hD⟩
    obtain ⟨e9_0, hP9, hD9⟩ := h9
    exact W.iret (v := (-1 : Int32)) hx hb hr (fun tt ht hW => ⟨⟨_, (), rfl, e9_0, ht ▸ hP9, hD9⟩, hS.F ht⟩) hS.2.2 (dq_172 0 bcX8_asked_0 (j := 44) rfl rfl)

def B_X8_back_11 (c_image : Nat → Int32) (x1 : Int32) (c_now : Nat → Int32) : Option ((Int32 × (Nat → Int32)) ⊕ ((Nat → Int32))) :=
  if (265 : Int32) ≤ x1 then some (.inr c_now) else ixF x1 265 (ixF x1 265 (nmF (upd c_now x1.toNatClampNeg (c_image x1.toNatClampNeg)) (fun f_5 => some (.inl (x1 + (1 : Int32), f_5)))))
def F_X8_back (K : Nat) (c_now : Nat → Int32) (c_acts : Int32) (c_image : Nat → Int32) (c_hasImage : Int32) : Option (Int32 × (Nat → Int32) × Int32) :=
  if c_hasImage = (0 : Int32) then some ((-1 : Int32), c_now, c_acts) else bd1 (lpF (fun u9 : Int32 × (Nat → Int32) => B_X8_back_11 c_image u9.1 u9.2) K ((0 : Int32), c_now)) (fun c_now_6 => some (c_now_6 67, c_now_6, (0 : Int32)))
abbrev w_X8_back (E : EE) (a_ a_tape a_readPlace a_script a_scriptLong a_now a_refused a_shareX a_shareY a_askedRow a_kept a_aside a_spelled a_image : Nat) (c_thrown : Int32) (c_taped : Int32) (c_at : Int32) (c_part : Int32) (c_partFrom : Int32) (c_partNumber : Int32) (c_wrong : Int32) (c_partWord : Int64) (c_readLaw : Int32) (c_readBound : Int32) (c_readGoal : Int32) (c_readSites : Int32) (c_scripts : Int32) (c_sites : Int32) (c_asked : Int32) (c_outcome : Int32) (c_took : Int32) (c_acts : Int32) (c_drawn : Int64) (c_racer : Int32) (c_raced : Int32) (c_spelledMany : Int32) (c_hasImage : Int32) (c_now : Nat → Int32) (c_image : Nat → Int32) : va_W := [k_X8 a_ c_thrown a_tape c_taped c_at c_part c_partFrom c_partNumber c_wrong c_partWord c_readLaw c_readBound c_readGoal c_readSites a_readPlace a_script a_scriptLong c_scripts a_now a_refused c_sites a_shareX a_shareY c_asked c_outcome a_askedRow c_took a_kept c_acts c_drawn a_aside c_racer c_raced a_spelled c_spelledMany a_image c_hasImage, k_I E a_now 265 c_now, k_I E a_image 265 c_image]
def v_f_X8_back : List Cond := List.cons (.code yX8_back cX8_back 2 (some .int)) (HAppend.hAppend (α := List Cond) (β := List Cond) (γ := List Cond) [.fieldLink RX8 208 "HushWatchModel" "hasImage" "Z", .fieldLink RX8 22 "HushWatchModel" "now" "[I", .fieldLink RX8 46 "HushWatchModel" "image" "[I", .fieldLink RX8 205 "HushWatchModel" "acts" "I"] (HAppend.hAppend (α := List Cond) (β := List Cond) (γ := List Cond) wsX80 []))
theorem gw_f_X8_back : v_f_X8_back.all goodWord = true := gw_c2 (by decide +kernel) (gw_ap gw_wsX80 gw_nil)
theorem i_f_X8_back_X8 : ∀ w ∈ wsX80, w ∈ v_f_X8_back := fun _ h => List.mem_cons_of_mem _ (List.mem_append_right _ (List.mem_append_left _ h))
theorem hd_X8_back : yX8_back.cls = RX8 ∧ yX8_back.cls ≠ "java/lang/invoke/MethodHandle" ∧ yX8_back.cls ≠ "java/lang/invoke/VarHandle" ∧ (parseMethodDescriptor yX8_back.desc).map (fun d => d.parameters.length) = some 0 := by decide +kernel
set_option maxHeartbeats 4000000 in
set_option maxRecDepth 100000 in
theorem wb_X8_back_11 {p : Program} (l : Launch) {e : Env} {s : State} {m : MethodId} {below : List Frame} {meth : Method} {c : Code} {Q : State → Prop} (E : EE) (K : Nat) {a_ a_tape a_readPlace a_script a_scriptLong a_now a_refused a_shareX a_shareY a_askedRow a_kept a_aside a_spelled a_image : Nat} {c_thrown : Int32} {c_taped : Int32} {c_at : Int32} {c_part : Int32} {c_partFrom : Int32} {c_partNumber : Int32} {c_wrong : Int32} {c_partWord : Int64} {c_readLaw : Int32} {c_readBound : Int32} {c_readGoal : Int32} {c_readSites : Int32} {c_scripts : Int32} {c_sites : Int32} {c_asked : Int32} {c_outcome : Int32} {c_took : Int32} {c_drawn : Int64} {c_racer : Int32} {c_raced : Int32} {c_spelledMany : Int32} {c_hasImage : Int32} {c_image : Nat → Int32} {x1 : Int32} {c_now : Nat → Int32} {c_acts : Int32} (hx : p.tables.exec = Jvm.exec) (hb : c.code = cX8_back) (hml : c.maxLocals = 2) (hown : s.vm.findClass RX8 = some m.cls) (hts : ∀ w ∈ v_f_X8_back, w.before #[Value.ref a_] s = true) (hK : va_K E.1 vwCl (TY E) s) (hN : NX s) {A : Nat → Prop} (hA : ∀ q : Nat, s.heap.size ≤ q → A q) {xx : (Int32 × (Nat → Int32)) ⊕ ((Nat → Int32))} (hC : ∀ (x1 : Int32), ∀ (c_now : Nat → Int32), xx = .inl (x1, c_now) → ∀ (H : Heap) (locs : List Loc) (ls : Array Slot), va_P E.1 vwCl (w_X8_back E a_ a_tape a_readPlace a_script a_scriptLong a_now a_refused a_shareX a_shareY a_askedRow a_kept a_aside a_spelled a_image c_thrown c_taped c_at c_part c_partFrom c_partNumber c_wrong c_partWord c_readLaw c_readBound c_readGoal c_readSites c_scripts c_sites c_asked c_outcome c_took c_acts c_drawn c_racer c_raced c_spelledMany c_hasImage c_now c_image) H → va_D A (w_X8_back E a_ a_tape a_readPlace a_script a_scriptLong a_now a_refused a_shareX a_shareY a_askedRow a_kept a_aside a_spelled a_image c_thrown c_taped c_at c_part c_partFrom c_partNumber c_wrong c_partWord c_readLaw c_readBound c_readGoal c_readSites c_scripts c_sites c_asked c_outcome c_took c_acts c_drawn c_racer c_raced c_spelledMany c_hasImage c_now c_image) → va_S A s.heap H locs → lv_has ls 2 [(0, .ref a_), (1, .int x1)] → W p l e ({ frames := 0, cells := 0, slots := 0, locals := 0 } : Room) s m #[Value.ref a_] below meth c H locs 0 0 Q (F0 m 11 ls [])) (hE : ∀ (c_now : Nat → Int32), xx = .inr c_now → ((∀ (H : Heap) (locs : List Loc) (ls : Array Slot), va_P E.1 vwCl (w_X8_back E a_ a_tape a_readPlace a_script a_scriptLong a_now a_refused a_shareX a_shareY a_askedRow a_kept a_aside a_spelled a_image c_thrown c_taped c_at c_part c_partFrom c_partNumber c_wrong c_partWord c_readLaw c_readBound c_readGoal c_readSites c_scripts c_sites c_asked c_outcome c_took c_acts c_drawn c_racer c_raced c_spelledMany c_hasImage c_now c_image) H → va_D A (w_X8_back E a_ a_tape a_readPlace a_script a_scriptLong a_now a_refused a_shareX a_shareY a_askedRow a_kept a_aside a_spelled a_image c_thrown c_taped c_at c_part c_partFrom c_partNumber c_wrong c_partWord c_readLaw c_readBound c_readGoal c_readSites c_scripts c_sites c_asked c_outcome c_took c_acts c_drawn c_racer c_raced c_spelledMany c_hasImage c_now c_image) → va_S A s.heap H locs → lv_has ls 2 [(0, .ref a_)] → W p l e ({ frames := 0, cells := 0, slots := 0, locals := 0 } : Room) s m #[Value.ref a_] below meth c H locs 0 0 Q (F0 m 36 ls [])))) (hF : B_X8_back_11 c_image x1 c_now = some xx) : ∀ (H : Heap) (locs : List Loc) (ls : Array Slot), va_P E.1 vwCl (w_X8_back E a_ a_tape a_readPlace a_script a_scriptLong a_now a_refused a_shareX a_shareY a_askedRow a_kept a_aside a_spelled a_image c_thrown c_taped c_at c_part c_partFrom c_partNumber c_wrong c_partWord c_readLaw c_readBound c_readGoal c_readSites c_scripts c_sites c_asked c_outcome c_took c_acts c_drawn c_racer c_raced c_spelledMany c_hasImage c_now c_image) H → va_D A (w_X8_back E a_ a_tape a_readPlace a_script a_scriptLong a_now a_refused a_shareX a_shareY a_askedRow a_kept a_aside a_spelled a_image c_thrown c_taped c_at c_part c_partFrom c_partNumber c_wrong c_partWord c_readLaw c_readBound c_readGoal c_readSites c_scripts c_sites c_asked c_outcome c_took c_acts c_drawn c_racer c_raced c_spelledMany c_hasImage c_now c_image) → va_S A s.heap H locs → lv_has ls 2 [(0, .ref a_), (1, .int x1)] → W p l e ({ frames := 0, cells := 0, slots := 0, locals := 0 } : Room) s m #[Value.ref a_] below meth c H locs 0 0 Q (F0 m 11 ls []) := by
  unfold B_X8_back_11 at hF
  intro H locs ls hP hD hS hl
  have h9 := fixPD (ws' := [k_X8 a_ c_thrown a_tape c_taped c_at c_part c_partFrom c_partNumber c_wrong c_partWord c_readLaw c_readBound c_readGoal c_readSites a_readPlace a_script a_scriptLong c_scripts a_now a_refused c_sites a_shareX a_shareY c_asked c_outcome a_askedRow c_took a_kept c_acts c_drawn a_aside c_racer c_raced a_spelled c_spelledMany a_image c_hasImage, k_I E a_now 265 c_now, k_I E a_image 265 c_image]) hP hD rfl
  clear hP hD
  obtain ⟨hP, hD⟩ := h9
  refine lv_iload_n hx hb (dq_27 0 bcX8_back_0 (j := 11) rfl rfl) rfl (lv_at hl 1 rfl) ?_
  refine lv_sipush (v := 265) hx hb (dq_17 0 bcX8_back_0 (j := 12) (i := 265) rfl rfl rfl) (by decide) ?_
  refine lv_icmp_ge (tgt := 36) hx hb (dq_162 0 bcX8_back_0 (j := 15) (i := 21) rfl rfl rfl) (by decide) (fun c_2 => ?_) (fun c_2 => ?_)
  ·
    replace hF := ip c_2 hF
    cases hF
    exact hE c_now rfl H locs ls (hP.sub [0, 1, 2] rfl) (hD.sub [0, 1, 2] (by decide) rfl) hS (lv_sub hl [0] rfl)
  ·
    replace hF := inn c_2 hF
    refine lv_aload_n hx hb (dq_42 0 bcX8_back_0 (j := 18) rfl rfl) rfl (lv_at hl 0 rfl) ?_
    refine gt_X8_17 (v := .ref a_now) hx hb hts i_f_X8_back_X8 hown hK hP 0 rfl (hts (.fieldLink RX8 22 "HushWatchModel" "now" "[I") (List.mem_of_getElem? (i := 2) rfl)) rfl (dq_180 0 bcX8_back_0 (j := 19) (i := 22) rfl rfl rfl) ?_
    refine lv_iload_n hx hb (dq_27 0 bcX8_back_0 (j := 22) rfl rfl) rfl (lv_at hl 1 rfl) ?_
    refine lv_aload_n hx hb (dq_42 0 bcX8_back_0 (j := 23) rfl rfl) rfl (lv_at hl 0 rfl) ?_
    refine gt_X8_34 (v := .ref a_image) hx hb hts i_f_X8_back_X8 hown hK hP 0 rfl (hts (.fieldLink RX8 46 "HushWatchModel" "image" "[I") (List.mem_of_getElem? (i := 3) rfl)) rfl (dq_180 0 bcX8_back_0 (j := 24) (i := 46) rfl rfl rfl) ?_
    refine lv_iload_n hx hb (dq_27 0 bcX8_back_0 (j := 27) rfl rfl) rfl (lv_at hl 1 rfl) ?_
    replace hF := ix_s hF
    obtain ⟨hi_3, hF⟩ := hF
    refine va_iald hx hb hK hP 2 0 rfl rfl hi_3 (dq_46 0 bcX8_back_0 (j := 28) rfl rfl) ?_
    replace hF := ix_s hF
    obtain ⟨hi_4, hF⟩ := hF
    refine va_iast hx hb hK hP hD hS 1 0 rfl rfl hi_4 (dq_79 0 bcX8_back_0 (j := 29) rfl rfl) (fun H locs hP hD hS => ?_)
    have h9 := fixPD (ws' := [k_X8 a_ c_thrown a_tape c_taped c_at c_part c_partFrom c_partNumber c_wrong c_partWord c_readLaw c_readBound c_readGoal c_readSites a_readPlace a_script a_scriptLong c_scripts a_now a_refused c_sites a_shareX a_shareY c_asked c_outcome a_askedRow c_took a_kept c_acts c_drawn a_aside c_racer c_raced a_spelled c_spelledMany a_image c_hasImage, k_I E a_now 265 (upd c_now x1.toNatClampNeg (c_image x1.toNatClampNeg)), k_I E a_image 265 c_image]) hP hD rfl
    clear hP hD
    obtain ⟨hP, hD⟩ := h9
    replace hF := nm_s hF
    obtain ⟨f_5, hf_5, hF⟩ := hF
    rw [← hf_5] at hP hD
    refine lv_iinc (v := x1 + (1 : Int32)) (lv' := [(1, .int (x1 + (1 : Int32))), (0, .ref a_)]) hx hb (dq_132 0 bcX8_back_0 (j := 30) (i := 1) rfl rfl rfl) hl (k := 1) rfl (rfl) (by decide) rfl (fun ls hl => ?_)
    refine lv_goto (tgt := 11) hx hb (dq_167 0 bcX8_back_0 (j := 33) (i := -22) rfl rfl rfl) (by decide) ?_
    cases hF
    exact hC (x1 + (1 : Int32)) f_5 rfl H locs ls (hP.sub [0, 1, 2] rfl) (hD.sub [0, 1, 2] (by decide) rfl) hS (lv_sub hl [1, 0] rfl)

set_option maxHeartbeats 4000000 in
set_option maxRecDepth 100000 in
theorem lw_X8_back_11 {p : Program} (l : Launch) {e : Env} {s : State} {m : MethodId} {below : List Frame} {meth : Method} {c : Code} {Q : State → Prop} (E : EE) (K : Nat) {a_ a_tape a_readPlace a_script a_scriptLong a_now a_refused a_shareX a_shareY a_askedRow a_kept a_aside a_spelled a_image : Nat} {c_thrown : Int32} {c_taped : Int32} {c_at : Int32} {c_part : Int32} {c_partFrom : Int32} {c_partNumber : Int32} {c_wrong : Int32} {c_partWord : Int64} {c_readLaw : Int32} {c_readBound : Int32} {c_readGoal : Int32} {c_readSites : Int32} {c_scripts : Int32} {c_sites : Int32} {c_asked : Int32} {c_outcome : Int32} {c_took : Int32} {c_drawn : Int64} {c_racer : Int32} {c_raced : Int32} {c_spelledMany : Int32} {c_hasImage : Int32} {c_image : Nat → Int32} {c_acts : Int32} (hx : p.tables.exec = Jvm.exec) (hb : c.code = cX8_back) (hml : c.maxLocals = 2) (hown : s.vm.findClass RX8 = some m.cls) (hts : ∀ w ∈ v_f_X8_back, w.before #[Value.ref a_] s = true) (hK : va_K E.1 vwCl (TY E) s) (hN : NX s) {A : Nat → Prop} (hA : ∀ q : Nat, s.heap.size ≤ q → A q) (j9 : Nat) (x1 : Int32) (c_now : Nat → Int32) (c_now' : Nat → Int32) (hL : lpF (fun u9 : Int32 × (Nat → Int32) => B_X8_back_11 c_image u9.1 u9.2) j9 (x1, c_now) = some c_now') (hX : (∀ (H : Heap) (locs : List Loc) (ls : Array Slot), va_P E.1 vwCl (w_X8_back E a_ a_tape a_readPlace a_script a_scriptLong a_now a_refused a_shareX a_shareY a_askedRow a_kept a_aside a_spelled a_image c_thrown c_taped c_at c_part c_partFrom c_partNumber c_wrong c_partWord c_readLaw c_readBound c_readGoal c_readSites c_scripts c_sites c_asked c_outcome c_took c_acts c_drawn c_racer c_raced c_spelledMany c_hasImage c_now' c_image) H → va_D A (w_X8_back E a_ a_tape a_readPlace a_script a_scriptLong a_now a_refused a_shareX a_shareY a_askedRow a_kept a_aside a_spelled a_image c_thrown c_taped c_at c_part c_partFrom c_partNumber c_wrong c_partWord c_readLaw c_readBound c_readGoal c_readSites c_scripts c_sites c_asked c_outcome c_took c_acts c_drawn c_racer c_raced c_spelledMany c_hasImage c_now' c_image) → va_S A s.heap H locs → lv_has ls 2 [(0, .ref a_)] → W p l e ({ frames := 0, cells := 0, slots := 0, locals := 0 } : Room) s m #[Value.ref a_] below meth c H locs 0 0 Q (F0 m 36 ls []))) : ∀ (H : Heap) (locs : List Loc) (ls : Array Slot), va_P E.1 vwCl (w_X8_back E a_ a_tape a_readPlace a_script a_scriptLong a_now a_refused a_shareX a_shareY a_askedRow a_kept a_aside a_spelled a_image c_thrown c_taped c_at c_part c_partFrom c_partNumber c_wrong c_partWord c_readLaw c_readBound c_readGoal c_readSites c_scripts c_sites c_asked c_outcome c_took c_acts c_drawn c_racer c_raced c_spelledMany c_hasImage c_now c_image) H → va_D A (w_X8_back E a_ a_tape a_readPlace a_script a_scriptLong a_now a_refused a_shareX a_shareY a_askedRow a_kept a_aside a_spelled a_image c_thrown c_taped c_at c_part c_partFrom c_partNumber c_wrong c_partWord c_readLaw c_readBound c_readGoal c_readSites c_scripts c_sites c_asked c_outcome c_took c_acts c_drawn c_racer c_raced c_spelledMany c_hasImage c_now c_image) → va_S A s.heap H locs → lv_has ls 2 [(0, .ref a_), (1, .int x1)] → W p l e ({ frames := 0, cells := 0, slots := 0, locals := 0 } : Room) s m #[Value.ref a_] below meth c H locs 0 0 Q (F0 m 11 ls []) := by
  exact lp_rule (P := (fun u9 : Int32 × (Nat → Int32) => ∀ (H : Heap) (locs : List Loc) (ls : Array Slot), va_P E.1 vwCl (w_X8_back E a_ a_tape a_readPlace a_script a_scriptLong a_now a_refused a_shareX a_shareY a_askedRow a_kept a_aside a_spelled a_image c_thrown c_taped c_at c_part c_partFrom c_partNumber c_wrong c_partWord c_readLaw c_readBound c_readGoal c_readSites c_scripts c_sites c_asked c_outcome c_took c_acts c_drawn c_racer c_raced c_spelledMany c_hasImage u9.2 c_image) H → va_D A (w_X8_back E a_ a_tape a_readPlace a_script a_scriptLong a_now a_refused a_shareX a_shareY a_askedRow a_kept a_aside a_spelled a_image c_thrown c_taped c_at c_part c_partFrom c_partNumber c_wrong c_partWord c_readLaw c_readBound c_readGoal c_readSites c_scripts c_sites c_asked c_outcome c_took c_acts c_drawn c_racer c_raced c_spelledMany c_hasImage u9.2 c_image) → va_S A s.heap H locs → lv_has ls 2 [(0, .ref a_), (1, .int u9.1)] → W p l e ({ frames := 0, cells := 0, slots := 0, locals := 0 } : Room) s m #[Value.ref a_] below meth c H locs 0 0 Q (F0 m 11 ls []))) (R := (fun r9 : (Nat → Int32) => (∀ (H : Heap) (locs : List Loc) (ls : Array Slot), va_P E.1 vwCl (w_X8_back E a_ a_tape a_readPlace a_script a_scriptLong a_now a_refused a_shareX a_shareY a_askedRow a_kept a_aside a_spelled a_image c_thrown c_taped c_at c_part c_partFrom c_partNumber c_wrong c_partWord c_readLaw c_readBound c_readGoal c_readSites c_scripts c_sites c_asked c_outcome c_took c_acts c_drawn c_racer c_raced c_spelledMany c_hasImage r9 c_image) H → va_D A (w_X8_back E a_ a_tape a_readPlace a_script a_scriptLong a_now a_refused a_shareX a_shareY a_askedRow a_kept a_aside a_spelled a_image c_thrown c_taped c_at c_part c_partFrom c_partNumber c_wrong c_partWord c_readLaw c_readBound c_readGoal c_readSites c_scripts c_sites c_asked c_outcome c_took c_acts c_drawn c_racer c_raced c_spelledMany c_hasImage r9 c_image) → va_S A s.heap H locs → lv_has ls 2 [(0, .ref a_)] → W p l e ({ frames := 0, cells := 0, slots := 0, locals := 0 } : Room) s m #[Value.ref a_] below meth c H locs 0 0 Q (F0 m 36 ls [])))) (fun u9 xx hF hC hE => wb_X8_back_11 l E K (c_thrown := c_thrown) (c_taped := c_taped) (c_at := c_at) (c_part := c_part) (c_partFrom := c_partFrom) (c_partNumber := c_partNumber) (c_wrong := c_wrong) (c_partWord := c_partWord) (c_readLaw := c_readLaw) (c_readBound := c_readBound) (c_readGoal := c_readGoal) (c_readSites := c_readSites) (c_scripts := c_scripts) (c_sites := c_sites) (c_asked := c_asked) (c_outcome := c_outcome) (c_took := c_took) (c_drawn := c_drawn) (c_racer := c_racer) (c_raced := c_raced) (c_spelledMany := c_spelledMany) (c_hasImage := c_hasImage) (c_image := c_image) (x1 := u9.1) (c_now := u9.2) (c_acts := c_acts) hx hb hml hown hts hK hN hA (fun x1 c_now q9 => hC _ q9) (fun c_now q9 => hE _ q9) hF) j9 (x1, c_now) c_now' hL hX

set_option maxHeartbeats 4000000 in
set_option maxRecDepth 100000 in
theorem f_X8_back (l : Launch) (E : EE) (sz : Nat) (K : Nat) {a_ a_tape a_readPlace a_script a_scriptLong a_now a_refused a_shareX a_shareY a_askedRow a_kept a_aside a_spelled a_image : Nat} {c_thrown : Int32} {c_taped : Int32} {c_at : Int32} {c_part : Int32} {c_partFrom : Int32} {c_partNumber : Int32} {c_wrong : Int32} {c_partWord : Int64} {c_readLaw : Int32} {c_readBound : Int32} {c_readGoal : Int32} {c_readSites : Int32} {c_scripts : Int32} {c_sites : Int32} {c_asked : Int32} {c_outcome : Int32} {c_took : Int32} {c_acts : Int32} {c_drawn : Int64} {c_racer : Int32} {c_raced : Int32} {c_spelledMany : Int32} {c_hasImage : Int32} {c_now : Nat → Int32} {c_image : Nat → Int32} {rr : Int32} {n_now : Nat → Int32} {n_acts : Int32} (hF : F_X8_back K c_now c_acts c_image c_hasImage = some (rr, n_now, n_acts)) : Met l yX8_back v_f_X8_back (({ frames := 0, cells := 0, slots := 0, locals := 0 } : Room)) (va_Pc [.ref a_] (pW E sz (w_X8_back E a_ a_tape a_readPlace a_script a_scriptLong a_now a_refused a_shareX a_shareY a_askedRow a_kept a_aside a_spelled a_image c_thrown c_taped c_at c_part c_partFrom c_partNumber c_wrong c_partWord c_readLaw c_readBound c_readGoal c_readSites c_scripts c_sites c_asked c_outcome c_took c_acts c_drawn c_racer c_raced c_spelledMany c_hasImage c_now c_image))) (va_Qi (fun (q : Int32) (_u : Unit) => q = rr) (fun (_u : Unit) tt => va_P E.1 vwCl (w_X8_back E a_ a_tape a_readPlace a_script a_scriptLong a_now a_refused a_shareX a_shareY a_askedRow a_kept a_aside a_spelled a_image c_thrown c_taped c_at c_part c_partFrom c_partNumber c_wrong c_partWord c_readLaw c_readBound c_readGoal c_readSites c_scripts c_sites c_asked c_outcome c_took n_acts c_drawn c_racer c_raced c_spelledMany c_hasImage n_now c_image) tt.heap ∧ va_D (va_A (w_X8_back E a_ a_tape a_readPlace a_script a_scriptLong a_now a_refused a_shareX a_shareY a_askedRow a_kept a_aside a_spelled a_image c_thrown c_taped c_at c_part c_partFrom c_partNumber c_wrong c_partWord c_readLaw c_readBound c_readGoal c_readSites c_scripts c_sites c_asked c_outcome c_took c_acts c_drawn c_racer c_raced c_spelledMany c_hasImage c_now c_image) sz) (w_X8_back E a_ a_tape a_readPlace a_script a_scriptLong a_now a_refused a_shareX a_shareY a_askedRow a_kept a_aside a_spelled a_image c_thrown c_taped c_at c_part c_partFrom c_partNumber c_wrong c_partWord c_readLaw c_readBound c_readGoal c_readSites c_scripts c_sites c_asked c_outcome c_took n_acts c_drawn c_racer c_raced c_spelledMany c_hasImage n_now c_image)) (va_A (w_X8_back E a_ a_tape a_readPlace a_script a_scriptLong a_now a_refused a_shareX a_shareY a_askedRow a_kept a_aside a_spelled a_image c_thrown c_taped c_at c_part c_partFrom c_partNumber c_wrong c_partWord c_readLaw c_readBound c_readGoal c_readSites c_scripts c_sites c_asked c_outcome c_took c_acts c_drawn c_racer c_raced c_spelledMany c_hasImage c_now c_image) sz)) 0 0 (va_A (w_X8_back E a_ a_tape a_readPlace a_script a_scriptLong a_now a_refused a_shareX a_shareY a_askedRow a_kept a_aside a_spelled a_image c_thrown c_taped c_at c_part c_partFrom c_partNumber c_wrong c_partWord c_readLaw c_readBound c_readGoal c_readSites c_scripts c_sites c_asked c_outcome c_took c_acts c_drawn c_racer c_raced c_spelledMany c_hasImage c_now c_image) sz) := by
  refine Met.ofW (cc := cX8_back) (maxL := 2) (ret := (some .int)) (by decide) rfl ?_
  intro p e s m args below meth c s₁ B hml hv
  obtain ⟨rfl, hsz, ⟨hK, hN⟩, hP, hD0⟩ := hv
  have hx := B.exec
  have hb := B.bytes
  have hr := B.returns
  have hts := atoms_spec (ws := v_f_X8_back) B.pre
  have hown : s.vm.findClass RX8 = some m.cls := own_of hd_X8_back.1 (findClass_of_methodNamed B.named)
  have hlocks : meth.locks = false := B.notSynchronized
  subst hsz
  have hD := hD0.self (sz := s.heap.size)
  generalize hAe : va_A (w_X8_back E a_ a_tape a_readPlace a_script a_scriptLong a_now a_refused a_shareX a_shareY a_askedRow a_kept a_aside a_spelled a_image c_thrown c_taped c_at c_part c_partFrom c_partNumber c_wrong c_partWord c_readLaw c_readBound c_readGoal c_readSites c_scripts c_sites c_asked c_outcome c_took c_acts c_drawn c_racer c_raced c_spelledMany c_hasImage c_now c_image) s.heap.size = A at hD ⊢
  have hA : ∀ q : Nat, s.heap.size ≤ q → A q := fun q h => by rw [← hAe]; exact Or.inr h
  have hS : va_S A s.heap s.heap [] := va_S.rf
  have hl := lv_entry ([.ref a_]) (n := 2) (Nat.le_of_ble_eq_true rfl)
  rw [lg_entry_eq]
  generalize (lg_sl ([.ref a_]) ++ List.replicate (2 - (lg_sl ([.ref a_])).length) Slot.unset).toArray = ls at hl ⊢
  have hl : lv_has ls 2 [(0, .ref a_)] := hl
  obtain ⟨Q, hQ⟩ : ∃ Q : State → Prop, Q = MQ below (va_Qi (fun (q : Int32) (_u : Unit) => q = rr) (fun (_u : Unit) tt => va_P E.1 vwCl (w_X8_back E a_ a_tape a_readPlace a_script a_scriptLong a_now a_refused a_shareX a_shareY a_askedRow a_kept a_aside a_spelled a_image c_thrown c_taped c_at c_part c_partFrom c_partNumber c_wrong c_partWord c_readLaw c_readBound c_readGoal c_readSites c_scripts c_sites c_asked c_outcome c_took n_acts c_drawn c_racer c_raced c_spelledMany c_hasImage n_now c_image) tt.heap ∧ va_D A (w_X8_back E a_ a_tape a_readPlace a_script a_scriptLong a_now a_refused a_shareX a_shareY a_askedRow a_kept a_aside a_spelled a_image c_thrown c_taped c_at c_part c_partFrom c_partNumber c_wrong c_partWord c_readLaw c_readBound c_readGoal c_readSites c_scripts c_sites c_asked c_outcome c_took n_acts c_drawn c_racer c_raced c_spelledMany c_hasImage n_now c_image)) A) #[Value.ref a_] s 0 0 A := ⟨_, rfl⟩
  rw [← hQ]
  change W p l e ({ frames := 0, cells := 0, slots := 0, locals := 0 } : Room) s m #[Value.ref a_] below meth c s.heap [] 0 0 Q (F0 m 0 ls [])
  suffices hh9 : ∀ (H : Heap) (locs : List Loc), va_P E.1 vwCl (w_X8_back E a_ a_tape a_readPlace a_script a_scriptLong a_now a_refused a_shareX a_shareY a_askedRow a_kept a_aside a_spelled a_image c_thrown c_taped c_at c_part c_partFrom c_partNumber c_wrong c_partWord c_readLaw c_readBound c_readGoal c_readSites c_scripts c_sites c_asked c_outcome c_took c_acts c_drawn c_racer c_raced c_spelledMany c_hasImage c_now c_image) H → va_D A (w_X8_back E a_ a_tape a_readPlace a_script a_scriptLong a_now a_refused a_shareX a_shareY a_askedRow a_kept a_aside a_spelled a_image c_thrown c_taped c_at c_part c_partFrom c_partNumber c_wrong c_partWord c_readLaw c_readBound c_readGoal c_readSites c_scripts c_sites c_asked c_outcome c_took c_acts c_drawn c_racer c_raced c_spelledMany c_hasImage c_now c_image) → va_S A s.heap H locs → W p l e ({ frames := 0, cells := 0, slots := 0, locals := 0 } : Room) s m #[Value.ref a_] below meth c H locs 0 0 Q (F0 m 0 ls []) from hh9 s.heap [] hP hD hS
  clear hP hD hS
  intro H locs hP hD hS
  have h9 := fixPD (ws' := [k_X8 a_ c_thrown a_tape c_taped c_at c_part c_partFrom c_partNumber c_wrong c_partWord c_readLaw c_readBound c_readGoal c_readSites a_readPlace a_script a_scriptLong c_scripts a_now a_refused c_sites a_shareX a_shareY c_asked c_outcome a_askedRow c_took a_kept c_acts c_drawn a_aside c_racer c_raced a_spelled c_spelledMany a_image c_hasImage, k_I E a_now 265 c_now, k_I E a_image 265 c_image]) hP hD rfl
  clear hP hD
  obtain ⟨hP, hD⟩ := h9
  unfold F_X8_back at hF
  refine lv_aload_n hx hb (dq_42 0 bcX8_back_0 (j := 0) rfl rfl) rfl (lv_at hl 0 rfl) ?_
  refine gt_X8_35 (v := .int c_hasImage) hx hb hts i_f_X8_back_X8 hown hK hP 0 rfl (hts (.fieldLink RX8 208 "HushWatchModel" "hasImage" "Z") (List.mem_of_getElem? (i := 1) rfl)) rfl (dq_180 0 bcX8_back_0 (j := 1) (i := 208) rfl rfl rfl) ?_
  refine lv_if_ne (tgt := 9) hx hb (dq_154 0 bcX8_back_0 (j := 4) (i := 5) rfl rfl rfl) (by decide) (fun c_1 => ?_) (fun c_1 => ?_)
  ·
    replace hF := inn c_1 hF
    refine lv_iconst (v := 0) hx hb (dq_3 0 bcX8_back_0 (j := 9) rfl rfl) (by decide) ?_
    refine lv_istore_n (lv' := [(1, .int (0 : Int32)), (0, .ref a_)]) hx hb (dq_60 0 bcX8_back_0 (j := 10) rfl rfl) rfl hl (by decide) rfl (fun ls hl => ?_)
    replace hF := bd1_s hF
    obtain ⟨c_now_6, hL_7, hF⟩ := hF
    refine lw_X8_back_11 l E K (c_thrown := c_thrown) (c_taped := c_taped) (c_at := c_at) (c_part := c_part) (c_partFrom := c_partFrom) (c_partNumber := c_partNumber) (c_wrong := c_wrong) (c_partWord := c_partWord) (c_readLaw := c_readLaw) (c_readBound := c_readBound) (c_readGoal := c_readGoal) (c_readSites := c_readSites) (c_scripts := c_scripts) (c_sites := c_sites) (c_asked := c_asked) (c_outcome := c_outcome) (c_took := c_took) (c_drawn := c_drawn) (c_racer := c_racer) (c_raced := c_raced) (c_spelledMany := c_spelledMany) (c_hasImage := c_hasImage) (c_image := c_image) (c_acts := c_acts) hx hb hml hown hts hK hN hA K (0 : Int32) c_now c_now_6 hL_7 ?_ H locs ls (hP.sub [0, 1, 2] rfl) (hD.sub [0, 1, 2] (by decide) rfl) hS (lv_sub hl [1, 0] rfl)
    ·
      intro H locs ls hP hD hS hl
      have h9 := fixPD (ws' := [k_X8 a_ c_thrown a_tape c_taped c_at c_part c_partFrom c_partNumber c_wrong c_partWord c_readLaw c_readBound c_readGoal c_readSites a_readPlace a_script a_scriptLong c_scripts a_now a_refused c_sites a_shareX a_shareY c_asked c_outcome a_askedRow c_took a_kept c_acts c_drawn a_aside c_racer c_raced a_spelled c_spelledMany a_image c_hasImage, k_I E a_now 265 c_now_6, k_I E a_image 265 c_image]) hP hD rfl
      clear hP hD
      obtain ⟨hP, hD⟩ := h9
      refine lv_aload_n hx hb (dq_42 0 bcX8_back_0 (j := 36) rfl rfl) rfl (lv_at hl 0 rfl) ?_
      refine lv_iconst (v := 0) hx hb (dq_3 0 bcX8_back_0 (j := 37) rfl rfl) (by decide) ?_
      refine pt_X8_27 (v := .int (0 : Int32)) hx hb hts i_f_X8_back_X8 hown hK hP hD hS 0 rfl (hts (.fieldLink RX8 205 "HushWatchModel" "acts" "I") (List.mem_of_getElem? (i := 4) rfl)) rfl rfl (Nat.le_of_ble_eq_true rfl) (dq_181 0 bcX8_back_0 (j := 38) (i := 205) rfl rfl rfl) (fun H locs hP hD hS => ?_)
      have h9 := fixPD (ws' := [k_X8 a_ c_thrown a_tape c_taped c_at c_part c_partFrom c_partNumber c_wrong c_partWord c_readLaw c_readBound c_readGoal c_readSites a_readPlace a_script a_scriptLong c_scripts a_now a_refused c_sites a_shareX a_shareY c_asked c_outcome a_askedRow c_took a_kept (0 : Int32) c_drawn a_aside c_racer c_raced a_spelled c_spelledMany a_image c_hasImage, k_I E a_now 265 c_now_6, k_I E a_image 265 c_image]) hP hD rfl
      clear hP hD
      obtain ⟨hP, hD⟩ := h9
      refine lv_aload_n hx hb (dq_42 0 bcX8_back_0 (j := 41) rfl rfl) rfl (lv_at hl 0 rfl) ?_
      refine gt_X8_17 (v := .ref a_now) hx hb hts i_f_X8_back_X8 hown hK hP 0 rfl (hts (.fieldLink RX8 22 "HushWatchModel" "now" "[I") (List.mem_of_getElem? (i := 2) rfl)) rfl (dq_180 0 bcX8_back_0 (j := 42) (i := 22) rfl rfl rfl) ?_
      refine lv_bipush (v := 67) hx hb (dq_16 0 bcX8_back_0 (j := 45) (i := 67) rfl rfl rfl) (by decide) ?_
      refine va_iald hx hb hK hP 1 0 rfl rfl (vin rfl) (dq_46 0 bcX8_back_0 (j := 47) rfl rfl) ?_
      refine W.eq (g2 := F0 m 48 ls [.int (c_now_6 67)]) rfl ?_
      rw [hQ]
      have h9 := fin9 (P := fun u9 : Int32 × (Nat → Int32) × Int32 => (c_now_6 67) = u9.1 ∧ va_P E.1 vwCl (w_X8_back E a_ a_tape a_readPlace a_script a_scriptLong a_now a_refused a_shareX a_shareY a_askedRow a_kept a_aside a_spelled a_image c_thrown c_taped c_at c_part c_partFrom c_partNumber c_wrong c_partWord c_readLaw c_readBound c_readGoal c_readSites c_scripts c_sites c_asked c_outcome c_took u9.2.2 c_drawn c_racer c_raced c_spelledMany c_hasImage u9.2.1 c_image) H ∧ va_D A (w_X8_back E a_ a_tape a_readPlace a_script a_scriptLong a_now a_refused a_shareX a_shareY a_askedRow a_kept a_aside a_spelled a_image c_thrown c_taped c_at c_part c_partFrom c_partNumber c_wrong c_partWord c_readLaw c_readBound c_readGoal c_readSites c_scripts c_sites c_asked c_outcome c_took u9.2.2 c_drawn c_racer c_raced c_spelledMany c_hasImage u9.2.1 c_image)) hF ⟨rfl, hP, hD⟩
      obtain ⟨e9_0, hP9, hD9⟩ := h9
      exact W.iret (v := c_now_6 67) hx hb hr (fun tt ht hW => ⟨⟨_, (), rfl, e9_0, ht ▸ hP9, hD9⟩, hS.F ht⟩) hS.2.2 (dq_172 48 bcX8_back_1 (j := 0) rfl rfl)
  ·
    replace hF := ip c_1 hF
    refine lv_iconst (v := -1) hx hb (dq_2 0 bcX8_back_0 (j := 7) rfl rfl) (by decide) ?_
    rw [hQ]
    have h9 := fin9 (P := fun u9 : Int32 × (Nat → Int32) × Int32 => (-1 : Int32) = u9.1 ∧ va_P E.1 vwCl (w_X8_back E a_ a_tape a_readPlace a_script a_scriptLong a_now a_refused a_shareX a_shareY a_askedRow a_kept a_aside a_spelled a_image c_thrown c_taped c_at c_part c_partFrom c_partNumber c_wrong c_partWord c_readLaw c_readBound c_readGoal c_readSites c_scripts c_sites c_asked c_outcome c_took u9.2.2 c_drawn c_racer c_raced c_spelledMany c_hasImage u9.2.1 c_image) H ∧ va_D A (w_X8_back E a_ a_tape a_readPlace a_script a_scriptLong a_now a_refused a_shareX a_shareY a_askedRow a_kept a_aside a_spelled a_image c_thrown c_taped c_at c_part c_partFrom c_partNumber c_wrong c_partWord c_readLaw c_readBound c_readGoal c_readSites c_scripts c_sites c_asked c_outcome c_took u9.2.2 c_drawn c_racer c_raced c_spelledMany c_hasImage u9.2.1 c_image)) hF ⟨rfl, hP, hD⟩
    obtain ⟨e9_0, hP9, hD9⟩ := h9
    exact W.iret (v := (-1 : Int32)) hx hb hr (fun tt ht hW => ⟨⟨_, (), rfl, e9_0, ht ▸ hP9, hD9⟩, hS.F ht⟩) hS.2.2 (dq_172 0 bcX8_back_0 (j := 8) rfl rfl)

def F_X8_begins (K : Nat) (c_tape : Nat → Int32) (c_taped : Int32) (c_at : Int32) (c_part : Int32) (c_partFrom : Int32) (c_partNumber : Int32) (c_wrong : Int32) (c_partWord : Int64) : Option (Int32 × Int32 × Int32 × Int32 × Int32 × Int64) :=
  bd5 (F_X8_next K c_tape c_taped (0 : Int32) c_part c_partFrom c_partNumber c_partWord) (fun w_1 w_2 w_3 w_4 w_5 => some (w_1, w_2, w_3, w_4, (-1 : Int32), w_5))
abbrev w_X8_begins (E : EE) (a_ a_tape a_readPlace a_script a_scriptLong a_now a_refused a_shareX a_shareY a_askedRow a_kept a_aside a_spelled a_image : Nat) (c_thrown : Int32) (c_taped : Int32) (c_at : Int32) (c_part : Int32) (c_partFrom : Int32) (c_partNumber : Int32) (c_wrong : Int32) (c_partWord : Int64) (c_readLaw : Int32) (c_readBound : Int32) (c_readGoal : Int32) (c_readSites : Int32) (c_scripts : Int32) (c_sites : Int32) (c_asked : Int32) (c_outcome : Int32) (c_took : Int32) (c_acts : Int32) (c_drawn : Int64) (c_racer : Int32) (c_raced : Int32) (c_spelledMany : Int32) (c_hasImage : Int32) (c_tape : Nat → Int32) : va_W := [k_X8 a_ c_thrown a_tape c_taped c_at c_part c_partFrom c_partNumber c_wrong c_partWord c_readLaw c_readBound c_readGoal c_readSites a_readPlace a_script a_scriptLong c_scripts a_now a_refused c_sites a_shareX a_shareY c_asked c_outcome a_askedRow c_took a_kept c_acts c_drawn a_aside c_racer c_raced a_spelled c_spelledMany a_image c_hasImage, k_I E a_tape 320 c_tape]
def v_f_X8_begins : List Cond := List.cons (.code yX8_begins cX8_begins 1 none) (HAppend.hAppend (α := List Cond) (β := List Cond) (γ := List Cond) [.fieldLink RX8 64 "HushWatchModel" "at" "I", .fieldLink RX8 103 "HushWatchModel" "wrong" "I", .methodLink RX8 109 yX8_next, .instanceMethod yX8_next, .selects RX8 yX8_next yX8_next, .initialized RX8] (HAppend.hAppend (α := List Cond) (β := List Cond) (γ := List Cond) wsX80 (HAppend.hAppend (α := List Cond) (β := List Cond) (γ := List Cond) v_f_X8_next [])))
theorem gw_f_X8_begins : v_f_X8_begins.all goodWord = true := gw_c2 (by decide +kernel) (gw_ap gw_wsX80 (gw_ap gw_f_X8_next gw_nil))
theorem i_f_X8_begins_X8 : ∀ w ∈ wsX80, w ∈ v_f_X8_begins := fun _ h => List.mem_cons_of_mem _ (List.mem_append_right _ (List.mem_append_left _ h))
theorem g_f_X8_begins_f_X8_next_109 : GoodIn v_f_X8_begins (wsV RX8 109 RX8 yX8_next v_f_X8_next) := goodIn_in gw_f_X8_begins (in4 3 4 5 6 rfl rfl rfl rfl (fun _ h => List.mem_cons_of_mem _ (List.mem_append_right _ (List.mem_append_right _ (List.mem_append_left _ h)))))
theorem hd_X8_begins : yX8_begins.cls = RX8 ∧ yX8_begins.cls ≠ "java/lang/invoke/MethodHandle" ∧ yX8_begins.cls ≠ "java/lang/invoke/VarHandle" ∧ (parseMethodDescriptor yX8_begins.desc).map (fun d => d.parameters.length) = some 0 := by decide +kernel
set_option maxHeartbeats 4000000 in
set_option maxRecDepth 100000 in
theorem f_X8_begins (l : Launch) (E : EE) (sz : Nat) (K : Nat) {a_ a_tape a_readPlace a_script a_scriptLong a_now a_refused a_shareX a_shareY a_askedRow a_kept a_aside a_spelled a_image : Nat} {c_thrown : Int32} {c_taped : Int32} {c_at : Int32} {c_part : Int32} {c_partFrom : Int32} {c_partNumber : Int32} {c_wrong : Int32} {c_partWord : Int64} {c_readLaw : Int32} {c_readBound : Int32} {c_readGoal : Int32} {c_readSites : Int32} {c_scripts : Int32} {c_sites : Int32} {c_asked : Int32} {c_outcome : Int32} {c_took : Int32} {c_acts : Int32} {c_drawn : Int64} {c_racer : Int32} {c_raced : Int32} {c_spelledMany : Int32} {c_hasImage : Int32} {c_tape : Nat → Int32} {n_at : Int32} {n_part : Int32} {n_partFrom : Int32} {n_partNumber : Int32} {n_wrong : Int32} {n_partWord : Int64} (hF : F_X8_begins K c_tape c_taped c_at c_part c_partFrom c_partNumber c_wrong c_partWord = some (n_at, n_part, n_partFrom, n_partNumber, n_wrong, n_partWord)) : Met l yX8_begins v_f_X8_begins (({ frames := 3, cells := 0, slots := 0, locals := 68 } : Room)) (va_Pc [.ref a_] (pW E sz (w_X8_begins E a_ a_tape a_readPlace a_script a_scriptLong a_now a_refused a_shareX a_shareY a_askedRow a_kept a_aside a_spelled a_image c_thrown c_taped c_at c_part c_partFrom c_partNumber c_wrong c_partWord c_readLaw c_readBound c_readGoal c_readSites c_scripts c_sites c_asked c_outcome c_took c_acts c_drawn c_racer c_raced c_spelledMany c_hasImage c_tape))) (va_Qv (fun (_u : Unit) => True) (fun (_u : Unit) tt => va_P E.1 vwCl (w_X8_begins E a_ a_tape a_readPlace a_script a_scriptLong a_now a_refused a_shareX a_shareY a_askedRow a_kept a_aside a_spelled a_image c_thrown c_taped n_at n_part n_partFrom n_partNumber n_wrong n_partWord c_readLaw c_readBound c_readGoal c_readSites c_scripts c_sites c_asked c_outcome c_took c_acts c_drawn c_racer c_raced c_spelledMany c_hasImage c_tape) tt.heap ∧ va_D (va_A (w_X8_begins E a_ a_tape a_readPlace a_script a_scriptLong a_now a_refused a_shareX a_shareY a_askedRow a_kept a_aside a_spelled a_image c_thrown c_taped c_at c_part c_partFrom c_partNumber c_wrong c_partWord c_readLaw c_readBound c_readGoal c_readSites c_scripts c_sites c_asked c_outcome c_took c_acts c_drawn c_racer c_raced c_spelledMany c_hasImage c_tape) sz) (w_X8_begins E a_ a_tape a_readPlace a_script a_scriptLong a_now a_refused a_shareX a_shareY a_askedRow a_kept a_aside a_spelled a_image c_thrown c_taped n_at n_part n_partFrom n_partNumber n_wrong n_partWord c_readLaw c_readBound c_readGoal c_readSites c_scripts c_sites c_asked c_outcome c_took c_acts c_drawn c_racer c_raced c_spelledMany c_hasImage c_tape)) (va_A (w_X8_begins E a_ a_tape a_readPlace a_script a_scriptLong a_now a_refused a_shareX a_shareY a_askedRow a_kept a_aside a_spelled a_image c_thrown c_taped c_at c_part c_partFrom c_partNumber c_wrong c_partWord c_readLaw c_readBound c_readGoal c_readSites c_scripts c_sites c_asked c_outcome c_took c_acts c_drawn c_racer c_raced c_spelledMany c_hasImage c_tape) sz)) 0 0 (va_A (w_X8_begins E a_ a_tape a_readPlace a_script a_scriptLong a_now a_refused a_shareX a_shareY a_askedRow a_kept a_aside a_spelled a_image c_thrown c_taped c_at c_part c_partFrom c_partNumber c_wrong c_partWord c_readLaw c_readBound c_readGoal c_readSites c_scripts c_sites c_asked c_outcome c_took c_acts c_drawn c_racer c_raced c_spelledMany c_hasImage c_tape) sz) := by
  refine Met.ofW (cc := cX8_begins) (maxL := 1) (ret := none) (by decide) rfl ?_
  intro p e s m args below meth c s₁ B hml hv
  obtain ⟨rfl, hsz, ⟨hK, hN⟩, hP, hD0⟩ := hv
  have hx := B.exec
  have hb := B.bytes
  have hr := B.returns
  have hts := atoms_spec (ws := v_f_X8_begins) B.pre
  have hown : s.vm.findClass RX8 = some m.cls := own_of hd_X8_begins.1 (findClass_of_methodNamed B.named)
  have hlocks : meth.locks = false := B.notSynchronized
  subst hsz
  have hD := hD0.self (sz := s.heap.size)
  generalize hAe : va_A (w_X8_begins E a_ a_tape a_readPlace a_script a_scriptLong a_now a_refused a_shareX a_shareY a_askedRow a_kept a_aside a_spelled a_image c_thrown c_taped c_at c_part c_partFrom c_partNumber c_wrong c_partWord c_readLaw c_readBound c_readGoal c_readSites c_scripts c_sites c_asked c_outcome c_took c_acts c_drawn c_racer c_raced c_spelledMany c_hasImage c_tape) s.heap.size = A at hD ⊢
  have hA : ∀ q : Nat, s.heap.size ≤ q → A q := fun q h => by rw [← hAe]; exact Or.inr h
  have hS : va_S A s.heap s.heap [] := va_S.rf
  have hl := lv_entry ([.ref a_]) (n := 1) (Nat.le_of_ble_eq_true rfl)
  rw [lg_entry_eq]
  generalize (lg_sl ([.ref a_]) ++ List.replicate (1 - (lg_sl ([.ref a_])).length) Slot.unset).toArray = ls at hl ⊢
  have hl : lv_has ls 1 [(0, .ref a_)] := hl
  obtain ⟨Q, hQ⟩ : ∃ Q : State → Prop, Q = MQ below (va_Qv (fun (_u : Unit) => True) (fun (_u : Unit) tt => va_P E.1 vwCl (w_X8_begins E a_ a_tape a_readPlace a_script a_scriptLong a_now a_refused a_shareX a_shareY a_askedRow a_kept a_aside a_spelled a_image c_thrown c_taped n_at n_part n_partFrom n_partNumber n_wrong n_partWord c_readLaw c_readBound c_readGoal c_readSites c_scripts c_sites c_asked c_outcome c_took c_acts c_drawn c_racer c_raced c_spelledMany c_hasImage c_tape) tt.heap ∧ va_D A (w_X8_begins E a_ a_tape a_readPlace a_script a_scriptLong a_now a_refused a_shareX a_shareY a_askedRow a_kept a_aside a_spelled a_image c_thrown c_taped n_at n_part n_partFrom n_partNumber n_wrong n_partWord c_readLaw c_readBound c_readGoal c_readSites c_scripts c_sites c_asked c_outcome c_took c_acts c_drawn c_racer c_raced c_spelledMany c_hasImage c_tape)) A) #[Value.ref a_] s 0 0 A := ⟨_, rfl⟩
  rw [← hQ]
  change W p l e ({ frames := 3, cells := 0, slots := 0, locals := 68 } : Room) s m #[Value.ref a_] below meth c s.heap [] 0 0 Q (F0 m 0 ls [])
  suffices hh9 : ∀ (H : Heap) (locs : List Loc), va_P E.1 vwCl (w_X8_begins E a_ a_tape a_readPlace a_script a_scriptLong a_now a_refused a_shareX a_shareY a_askedRow a_kept a_aside a_spelled a_image c_thrown c_taped c_at c_part c_partFrom c_partNumber c_wrong c_partWord c_readLaw c_readBound c_readGoal c_readSites c_scripts c_sites c_asked c_outcome c_took c_acts c_drawn c_racer c_raced c_spelledMany c_hasImage c_tape) H → va_D A (w_X8_begins E a_ a_tape a_readPlace a_script a_scriptLong a_now a_refused a_shareX a_shareY a_askedRow a_kept a_aside a_spelled a_image c_thrown c_taped c_at c_part c_partFrom c_partNumber c_wrong c_partWord c_readLaw c_readBound c_readGoal c_readSites c_scripts c_sites c_asked c_outcome c_took c_acts c_drawn c_racer c_raced c_spelledMany c_hasImage c_tape) → va_S A s.heap H locs → W p l e ({ frames := 3, cells := 0, slots := 0, locals := 68 } : Room) s m #[Value.ref a_] below meth c H locs 0 0 Q (F0 m 0 ls []) from hh9 s.heap [] hP hD hS
  clear hP hD hS
  intro H locs hP hD hS
  have h9 := fixPD (ws' := [k_X8 a_ c_thrown a_tape c_taped c_at c_part c_partFrom c_partNumber c_wrong c_partWord c_readLaw c_readBound c_readGoal c_readSites a_readPlace a_script a_scriptLong c_scripts a_now a_refused c_sites a_shareX a_shareY c_asked c_outcome a_askedRow c_took a_kept c_acts c_drawn a_aside c_racer c_raced a_spelled c_spelledMany a_image c_hasImage, k_I E a_tape 320 c_tape]) hP hD rfl
  clear hP hD
  obtain ⟨hP, hD⟩ := h9
  unfold F_X8_begins at hF
  refine lv_aload_n hx hb (dq_42 0 bcX8_begins_0 (j := 0) rfl rfl) rfl (lv_at hl 0 rfl) ?_
  refine lv_iconst (v := 0) hx hb (dq_3 0 bcX8_begins_0 (j := 1) rfl rfl) (by decide) ?_
  refine pt_X8_3 (v := .int (0 : Int32)) hx hb hts i_f_X8_begins_X8 hown hK hP hD hS 0 rfl (hts (.fieldLink RX8 64 "HushWatchModel" "at" "I") (List.mem_of_getElem? (i := 1) rfl)) rfl rfl (Nat.le_of_ble_eq_true rfl) (dq_181 0 bcX8_begins_0 (j := 2) (i := 64) rfl rfl rfl) (fun H locs hP hD hS => ?_)
  have h9 := fixPD (ws' := [k_X8 a_ c_thrown a_tape c_taped (0 : Int32) c_part c_partFrom c_partNumber c_wrong c_partWord c_readLaw c_readBound c_readGoal c_readSites a_readPlace a_script a_scriptLong c_scripts a_now a_refused c_sites a_shareX a_shareY c_asked c_outcome a_askedRow c_took a_kept c_acts c_drawn a_aside c_racer c_raced a_spelled c_spelledMany a_image c_hasImage, k_I E a_tape 320 c_tape]) hP hD rfl
  clear hP hD
  obtain ⟨hP, hD⟩ := h9
  refine lv_aload_n hx hb (dq_42 0 bcX8_begins_0 (j := 5) rfl rfl) rfl (lv_at hl 0 rfl) ?_
  refine lv_iconst (v := -1) hx hb (dq_2 0 bcX8_begins_0 (j := 6) rfl rfl) (by decide) ?_
  refine pt_X8_7 (v := .int (-1 : Int32)) hx hb hts i_f_X8_begins_X8 hown hK hP hD hS 0 rfl (hts (.fieldLink RX8 103 "HushWatchModel" "wrong" "I") (List.mem_of_getElem? (i := 2) rfl)) rfl rfl (Nat.le_of_ble_eq_true rfl) (dq_181 0 bcX8_begins_0 (j := 7) (i := 103) rfl rfl rfl) (fun H locs hP hD hS => ?_)
  have h9 := fixPD (ws' := [k_X8 a_ c_thrown a_tape c_taped (0 : Int32) c_part c_partFrom c_partNumber (-1 : Int32) c_partWord c_readLaw c_readBound c_readGoal c_readSites a_readPlace a_script a_scriptLong c_scripts a_now a_refused c_sites a_shareX a_shareY c_asked c_outcome a_askedRow c_took a_kept c_acts c_drawn a_aside c_racer c_raced a_spelled c_spelledMany a_image c_hasImage, k_I E a_tape 320 c_tape]) hP hD rfl
  clear hP hD
  obtain ⟨hP, hD⟩ := h9
  refine lv_aload_n hx hb (dq_42 0 bcX8_begins_0 (j := 10) rfl rfl) rfl (lv_at hl 0 rfl) ?_
  replace hF := bd5_s hF
  obtain ⟨w_1, w_2, w_3, w_4, w_5, hc_6, hF⟩ := hF
  obtain ⟨hPc, hDc, hFc⟩ := wcut (wc := (w_X8_next E a_ a_tape a_readPlace a_script a_scriptLong a_now a_refused a_shareX a_shareY a_askedRow a_kept a_aside a_spelled a_image c_thrown c_taped (0 : Int32) c_part c_partFrom c_partNumber (-1 : Int32) c_partWord c_readLaw c_readBound c_readGoal c_readSites c_scripts c_sites c_asked c_outcome c_took c_acts c_drawn c_racer c_raced c_spelledMany c_hasImage c_tape)) hP hD hS hA [0, 1] (by decide) rfl
  have hrc := va_recv hK hPc (ci := 9) (q0 := 0) rfl rfl
  refine cE_v (wc := (w_X8_next E a_ a_tape a_readPlace a_script a_scriptLong a_now a_refused a_shareX a_shareY a_askedRow a_kept a_aside a_spelled a_image c_thrown c_taped (0 : Int32) c_part c_partFrom c_partNumber (-1 : Int32) c_partWord c_readLaw c_readBound c_readGoal c_readSites c_scripts c_sites c_asked c_outcome c_took c_acts c_drawn c_racer c_raced c_spelledMany c_hasImage c_tape)) (wr := []) (w1 := (w_X8_next E a_ a_tape a_readPlace a_script a_scriptLong a_now a_refused a_shareX a_shareY a_askedRow a_kept a_aside a_spelled a_image c_thrown c_taped w_1 w_2 w_3 w_4 (-1 : Int32) w_5 c_readLaw c_readBound c_readGoal c_readSites c_scripts c_sites c_asked c_outcome c_took c_acts c_drawn c_racer c_raced c_spelledMany c_hasImage c_tape)) (va_runV (As := []) (rest := [])  ⟨hx, hb, hml, hown, hts⟩ (f_X8_next l E H.size K (a_ := a_) (a_tape := a_tape) (a_readPlace := a_readPlace) (a_script := a_script) (a_scriptLong := a_scriptLong) (a_now := a_now) (a_refused := a_refused) (a_shareX := a_shareX) (a_shareY := a_shareY) (a_askedRow := a_askedRow) (a_kept := a_kept) (a_aside := a_aside) (a_spelled := a_spelled) (a_image := a_image) (c_thrown := c_thrown) (c_taped := c_taped) (c_at := (0 : Int32)) (c_part := c_part) (c_partFrom := c_partFrom) (c_partNumber := c_partNumber) (c_wrong := (-1 : Int32)) (c_partWord := c_partWord) (c_readLaw := c_readLaw) (c_readBound := c_readBound) (c_readGoal := c_readGoal) (c_readSites := c_readSites) (c_scripts := c_scripts) (c_sites := c_sites) (c_asked := c_asked) (c_outcome := c_outcome) (c_took := c_took) (c_acts := c_acts) (c_drawn := c_drawn) (c_racer := c_racer) (c_raced := c_raced) (c_spelledMany := c_spelledMany) (c_hasImage := c_hasImage) (c_tape := c_tape) hc_6) (cwV 0 hts g_f_X8_begins_f_X8_next_109 rfl rfl rfl hd_X8_next ⟨Nat.le_of_ble_eq_true rfl, Nat.le_of_ble_eq_true rfl⟩) ⟨pW.blind, hrc, (pW.pre ⟨hK, hN⟩ hPc hDc)⟩ rfl rfl hl.1 rfl (lv_room (Nat.le_of_ble_eq_true rfl)) (dq_182 0 bcX8_begins_0 (j := 11) (i := 109) rfl rfl rfl) ⟨Nat.le_of_ble_eq_true rfl, Nat.le_of_ble_eq_true rfl⟩) hS hFc hP hD [0, 1] [] rfl rfl (by decide) (by decide) (fun H locs hP hD hS => ?_)
  have h9 := fixPD (ws' := [k_X8 a_ c_thrown a_tape c_taped w_1 w_2 w_3 w_4 (-1 : Int32) w_5 c_readLaw c_readBound c_readGoal c_readSites a_readPlace a_script a_scriptLong c_scripts a_now a_refused c_sites a_shareX a_shareY c_asked c_outcome a_askedRow c_took a_kept c_acts c_drawn a_aside c_racer c_raced a_spelled c_spelledMany a_image c_hasImage, k_I E a_tape 320 c_tape]) hP hD rfl
  clear hP hD
  obtain ⟨hP, hD⟩ := h9
  rw [hQ]
  have h9 := fin9 (P := fun u9 : Int32 × Int32 × Int32 × Int32 × Int32 × Int64 => va_P E.1 vwCl (w_X8_begins E a_ a_tape a_readPlace a_script a_scriptLong a_now a_refused a_shareX a_shareY a_askedRow a_kept a_aside a_spelled a_image c_thrown c_taped u9.1 u9.2.1 u9.2.2.1 u9.2.2.2.1 u9.2.2.2.2.1 u9.2.2.2.2.2 c_readLaw c_readBound c_readGoal c_readSites c_scripts c_sites c_asked c_outcome c_took c_acts c_drawn c_racer c_raced c_spelledMany c_hasImage c_tape) H ∧ va_D A (w_X8_begins E a_ a_tape a_readPlace a_script a_scriptLong a_now a_refused a_shareX a_shareY a_askedRow a_kept a_aside a_spelled a_image c_thrown c_taped u9.1 u9.2.1 u9.2.2.1 u9.2.2.2.1 u9.2.2.2.2.1 u9.2.2.2.2.2 c_readLaw c_readBound c_readGoal c_readSites c_scripts c_sites c_asked c_outcome c_took c_acts c_drawn c_racer c_raced c_spelledMany c_hasImage c_tape)) hF ⟨hP, hD⟩
  obtain ⟨hP9, hD9⟩ := h9
  exact W.vret hx hb hr (fun tt ht hW => ⟨⟨(), rfl, trivial, ht ▸ hP9, hD9⟩, hS.F ht⟩) hS.2.2 (dq_177 0 bcX8_begins_0 (j := 14) rfl rfl)

def F_X8_bound (K : Nat) (p1 : Int32) (c_now : Nat → Int32) (c_refused : Nat → Int32) (c_sites : Int32) (c_shareX : Nat → Int32) (c_shareY : Nat → Int32) (c_asked : Int32) (c_outcome : Int32) (c_askedRow : Nat → Int32) (c_took : Int32) (c_kept : Nat → Int32) (c_acts : Int32) : Option (Int32 × (Nat → Int32) × (Nat → Int32) × (Nat → Int32) × (Nat → Int32) × Int32 × Int32 × (Nat → Int32) × Int32 × (Nat → Int32) × Int32) :=
  bd11 (F_X8_hand K (-100000000 : Int32) (2 : Int32) p1 (0 : Int32) (0 : Int32) c_now c_refused c_sites c_shareX c_shareY c_asked c_outcome c_askedRow c_took c_kept c_acts) (fun r_1 w_2 w_3 w_4 w_5 w_6 w_7 w_8 w_9 w_10 w_11 => some (r_1, w_2, w_3, w_4, w_5, w_6, w_7, w_8, w_9, w_10, w_11))
abbrev w_X8_bound (E : EE) (a_ a_tape a_readPlace a_script a_scriptLong a_now a_refused a_shareX a_shareY a_askedRow a_kept a_aside a_spelled a_image : Nat) (c_thrown : Int32) (c_taped : Int32) (c_at : Int32) (c_part : Int32) (c_partFrom : Int32) (c_partNumber : Int32) (c_wrong : Int32) (c_partWord : Int64) (c_readLaw : Int32) (c_readBound : Int32) (c_readGoal : Int32) (c_readSites : Int32) (c_scripts : Int32) (c_sites : Int32) (c_asked : Int32) (c_outcome : Int32) (c_took : Int32) (c_acts : Int32) (c_drawn : Int64) (c_racer : Int32) (c_raced : Int32) (c_spelledMany : Int32) (c_hasImage : Int32) (c_now : Nat → Int32) (c_refused : Nat → Int32) (c_shareX : Nat → Int32) (c_shareY : Nat → Int32) (c_askedRow : Nat → Int32) (c_kept : Nat → Int32) : va_W := [k_X8 a_ c_thrown a_tape c_taped c_at c_part c_partFrom c_partNumber c_wrong c_partWord c_readLaw c_readBound c_readGoal c_readSites a_readPlace a_script a_scriptLong c_scripts a_now a_refused c_sites a_shareX a_shareY c_asked c_outcome a_askedRow c_took a_kept c_acts c_drawn a_aside c_racer c_raced a_spelled c_spelledMany a_image c_hasImage, k_I E a_now 265 c_now, k_I E a_refused 3 c_refused, k_I E a_shareX 8 c_shareX, k_I E a_shareY 8 c_shareY, k_I E a_askedRow 8 c_askedRow, k_I E a_kept 10600 c_kept]
def v_f_X8_bound : List Cond := List.cons (.code yX8_bound cX8_bound 2 (some .int)) (HAppend.hAppend (α := List Cond) (β := List Cond) (γ := List Cond) [.constant RX8 182 (-100000000), .methodLink RX8 350 yX8_hand, .instanceMethod yX8_hand, .selects RX8 yX8_hand yX8_hand, .initialized RX8] (HAppend.hAppend (α := List Cond) (β := List Cond) (γ := List Cond) v_f_X8_hand []))
theorem gw_f_X8_bound : v_f_X8_bound.all goodWord = true := gw_c2 (by decide +kernel) (gw_ap gw_f_X8_hand gw_nil)
theorem g_f_X8_bound_f_X8_hand_350 : GoodIn v_f_X8_bound (wsV RX8 350 RX8 yX8_hand v_f_X8_hand) := goodIn_in gw_f_X8_bound (in4 2 3 4 5 rfl rfl rfl rfl (fun _ h => List.mem_cons_of_mem _ (List.mem_append_right _ (List.mem_append_left _ h))))
theorem hd_X8_bound : yX8_bound.cls = RX8 ∧ yX8_bound.cls ≠ "java/lang/invoke/MethodHandle" ∧ yX8_bound.cls ≠ "java/lang/invoke/VarHandle" ∧ (parseMethodDescriptor yX8_bound.desc).map (fun d => d.parameters.length) = some 1 := by decide +kernel
set_option maxHeartbeats 4000000 in
set_option maxRecDepth 100000 in
theorem f_X8_bound (l : Launch) (E : EE) (sz : Nat) (K : Nat) {a_ a_tape a_readPlace a_script a_scriptLong a_now a_refused a_shareX a_shareY a_askedRow a_kept a_aside a_spelled a_image : Nat} {p1 : Int32} {c_thrown : Int32} {c_taped : Int32} {c_at : Int32} {c_part : Int32} {c_partFrom : Int32} {c_partNumber : Int32} {c_wrong : Int32} {c_partWord : Int64} {c_readLaw : Int32} {c_readBound : Int32} {c_readGoal : Int32} {c_readSites : Int32} {c_scripts : Int32} {c_sites : Int32} {c_asked : Int32} {c_outcome : Int32} {c_took : Int32} {c_acts : Int32} {c_drawn : Int64} {c_racer : Int32} {c_raced : Int32} {c_spelledMany : Int32} {c_hasImage : Int32} {c_now : Nat → Int32} {c_refused : Nat → Int32} {c_shareX : Nat → Int32} {c_shareY : Nat → Int32} {c_askedRow : Nat → Int32} {c_kept : Nat → Int32} {rr : Int32} {n_now : Nat → Int32} {n_refused : Nat → Int32} {n_shareX : Nat → Int32} {n_shareY : Nat → Int32} {n_asked : Int32} {n_outcome : Int32} {n_askedRow : Nat → Int32} {n_took : Int32} {n_kept : Nat → Int32} {n_acts : Int32} (hF : F_X8_bound K p1 c_now c_refused c_sites c_shareX c_shareY c_asked c_outcome c_askedRow c_took c_kept c_acts = some (rr, n_now, n_refused, n_shareX, n_shareY, n_asked, n_outcome, n_askedRow, n_took, n_kept, n_acts)) : Met l yX8_bound v_f_X8_bound (({ frames := 10, cells := 0, slots := 0, locals := 241 } : Room)) (va_Pc [.ref a_, .int p1] (pW E sz (w_X8_bound E a_ a_tape a_readPlace a_script a_scriptLong a_now a_refused a_shareX a_shareY a_askedRow a_kept a_aside a_spelled a_image c_thrown c_taped c_at c_part c_partFrom c_partNumber c_wrong c_partWord c_readLaw c_readBound c_readGoal c_readSites c_scripts c_sites c_asked c_outcome c_took c_acts c_drawn c_racer c_raced c_spelledMany c_hasImage c_now c_refused c_shareX c_shareY c_askedRow c_kept))) (va_Qi (fun (q : Int32) (_u : Unit) => q = rr) (fun (_u : Unit) tt => va_P E.1 vwCl (w_X8_bound E a_ a_tape a_readPlace a_script a_scriptLong a_now a_refused a_shareX a_shareY a_askedRow a_kept a_aside a_spelled a_image c_thrown c_taped c_at c_part c_partFrom c_partNumber c_wrong c_partWord c_readLaw c_readBound c_readGoal c_readSites c_scripts c_sites n_asked n_outcome n_took n_acts c_drawn c_racer c_raced c_spelledMany c_hasImage n_now n_refused n_shareX n_shareY n_askedRow n_kept) tt.heap ∧ va_D (va_A (w_X8_bound E a_ a_tape a_readPlace a_script a_scriptLong a_now a_refused a_shareX a_shareY a_askedRow a_kept a_aside a_spelled a_image c_thrown c_taped c_at c_part c_partFrom c_partNumber c_wrong c_partWord c_readLaw c_readBound c_readGoal c_readSites c_scripts c_sites c_asked c_outcome c_took c_acts c_drawn c_racer c_raced c_spelledMany c_hasImage c_now c_refused c_shareX c_shareY c_askedRow c_kept) sz) (w_X8_bound E a_ a_tape a_readPlace a_script a_scriptLong a_now a_refused a_shareX a_shareY a_askedRow a_kept a_aside a_spelled a_image c_thrown c_taped c_at c_part c_partFrom c_partNumber c_wrong c_partWord c_readLaw c_readBound c_readGoal c_readSites c_scripts c_sites n_asked n_outcome n_took n_acts c_drawn c_racer c_raced c_spelledMany c_hasImage n_now n_refused n_shareX n_shareY n_askedRow n_kept)) (va_A (w_X8_bound E a_ a_tape a_readPlace a_script a_scriptLong a_now a_refused a_shareX a_shareY a_askedRow a_kept a_aside a_spelled a_image c_thrown c_taped c_at c_part c_partFrom c_partNumber c_wrong c_partWord c_readLaw c_readBound c_readGoal c_readSites c_scripts c_sites c_asked c_outcome c_took c_acts c_drawn c_racer c_raced c_spelledMany c_hasImage c_now c_refused c_shareX c_shareY c_askedRow c_kept) sz)) 0 0 (va_A (w_X8_bound E a_ a_tape a_readPlace a_script a_scriptLong a_now a_refused a_shareX a_shareY a_askedRow a_kept a_aside a_spelled a_image c_thrown c_taped c_at c_part c_partFrom c_partNumber c_wrong c_partWord c_readLaw c_readBound c_readGoal c_readSites c_scripts c_sites c_asked c_outcome c_took c_acts c_drawn c_racer c_raced c_spelledMany c_hasImage c_now c_refused c_shareX c_shareY c_askedRow c_kept) sz) := by
  refine Met.ofW (cc := cX8_bound) (maxL := 2) (ret := (some .int)) (by decide) rfl ?_
  intro p e s m args below meth c s₁ B hml hv
  obtain ⟨rfl, hsz, ⟨hK, hN⟩, hP, hD0⟩ := hv
  have hx := B.exec
  have hb := B.bytes
  have hr := B.returns
  have hts := atoms_spec (ws := v_f_X8_bound) B.pre
  have hown : s.vm.findClass RX8 = some m.cls := own_of hd_X8_bound.1 (findClass_of_methodNamed B.named)
  have hlocks : meth.locks = false := B.notSynchronized
  subst hsz
  have hD := hD0.self (sz := s.heap.size)
  generalize hAe : va_A (w_X8_bound E a_ a_tape a_readPlace a_script a_scriptLong a_now a_refused a_shareX a_shareY a_askedRow a_kept a_aside a_spelled a_image c_thrown c_taped c_at c_part c_partFrom c_partNumber c_wrong c_partWord c_readLaw c_readBound c_readGoal c_readSites c_scripts c_sites c_asked c_outcome c_took c_acts c_drawn c_racer c_raced c_spelledMany c_hasImage c_now c_refused c_shareX c_shareY c_askedRow c_kept) s.heap.size = A at hD ⊢
  have hA : ∀ q : Nat, s.heap.size ≤ q → A q := fun q h => by rw [← hAe]; exact Or.inr h
  have hS : va_S A s.heap s.heap [] := va_S.rf
  have hl := lv_entry ([.ref a_, .int p1]) (n := 2) (Nat.le_of_ble_eq_true rfl)
  rw [lg_entry_eq]
  generalize (lg_sl ([.ref a_, .int p1]) ++ List.replicate (2 - (lg_sl ([.ref a_, .int p1])).length) Slot.unset).toArray = ls at hl ⊢
  have hl : lv_has ls 2 [(0, .ref a_), (1, .int p1)] := hl
  obtain ⟨Q, hQ⟩ : ∃ Q : State → Prop, Q = MQ below (va_Qi (fun (q : Int32) (_u : Unit) => q = rr) (fun (_u : Unit) tt => va_P E.1 vwCl (w_X8_bound E a_ a_tape a_readPlace a_script a_scriptLong a_now a_refused a_shareX a_shareY a_askedRow a_kept a_aside a_spelled a_image c_thrown c_taped c_at c_part c_partFrom c_partNumber c_wrong c_partWord c_readLaw c_readBound c_readGoal c_readSites c_scripts c_sites n_asked n_outcome n_took n_acts c_drawn c_racer c_raced c_spelledMany c_hasImage n_now n_refused n_shareX n_shareY n_askedRow n_kept) tt.heap ∧ va_D A (w_X8_bound E a_ a_tape a_readPlace a_script a_scriptLong a_now a_refused a_shareX a_shareY a_askedRow a_kept a_aside a_spelled a_image c_thrown c_taped c_at c_part c_partFrom c_partNumber c_wrong c_partWord c_readLaw c_readBound c_readGoal c_readSites c_scripts c_sites n_asked n_outcome n_took n_acts c_drawn c_racer c_raced c_spelledMany c_hasImage n_now n_refused n_shareX n_shareY n_askedRow n_kept)) A) #[Value.ref a_, Value.int p1] s 0 0 A := ⟨_, rfl⟩
  rw [← hQ]
  change W p l e ({ frames := 10, cells := 0, slots := 0, locals := 241 } : Room) s m #[Value.ref a_, Value.int p1] below meth c s.heap [] 0 0 Q (F0 m 0 ls [])
  suffices hh9 : ∀ (H : Heap) (locs : List Loc), va_P E.1 vwCl (w_X8_bound E a_ a_tape a_readPlace a_script a_scriptLong a_now a_refused a_shareX a_shareY a_askedRow a_kept a_aside a_spelled a_image c_thrown c_taped c_at c_part c_partFrom c_partNumber c_wrong c_partWord c_readLaw c_readBound c_readGoal c_readSites c_scripts c_sites c_asked c_outcome c_took c_acts c_drawn c_racer c_raced c_spelledMany c_hasImage c_now c_refused c_shareX c_shareY c_askedRow c_kept) H → va_D A (w_X8_bound E a_ a_tape a_readPlace a_script a_scriptLong a_now a_refused a_shareX a_shareY a_askedRow a_kept a_aside a_spelled a_image c_thrown c_taped c_at c_part c_partFrom c_partNumber c_wrong c_partWord c_readLaw c_readBound c_readGoal c_readSites c_scripts c_sites c_asked c_outcome c_took c_acts c_drawn c_racer c_raced c_spelledMany c_hasImage c_now c_refused c_shareX c_shareY c_askedRow c_kept) → va_S A s.heap H locs → W p l e ({ frames := 10, cells := 0, slots := 0, locals := 241 } : Room) s m #[Value.ref a_, Value.int p1] below meth c H locs 0 0 Q (F0 m 0 ls []) from hh9 s.heap [] hP hD hS
  clear hP hD hS
  intro H locs hP hD hS
  have h9 := fixPD (ws' := [k_X8 a_ c_thrown a_tape c_taped c_at c_part c_partFrom c_partNumber c_wrong c_partWord c_readLaw c_readBound c_readGoal c_readSites a_readPlace a_script a_scriptLong c_scripts a_now a_refused c_sites a_shareX a_shareY c_asked c_outcome a_askedRow c_took a_kept c_acts c_drawn a_aside c_racer c_raced a_spelled c_spelledMany a_image c_hasImage, k_I E a_now 265 c_now, k_I E a_refused 3 c_refused, k_I E a_shareX 8 c_shareX, k_I E a_shareY 8 c_shareY, k_I E a_askedRow 8 c_askedRow, k_I E a_kept 10600 c_kept]) hP hD rfl
  clear hP hD
  obtain ⟨hP, hD⟩ := h9
  unfold F_X8_bound at hF
  refine lv_aload_n hx hb (dq_42 0 bcX8_bound_0 (j := 0) rfl rfl) rfl (lv_at hl 0 rfl) ?_
  refine lv_ldc (v := -100000000) hx hb hown (hts (.constant RX8 182 (-100000000)) (List.mem_of_getElem? (i := 1) rfl)) (dq_18 0 bcX8_bound_0 (j := 1) (i := 182) rfl rfl) ?_
  refine lv_iconst (v := 2) hx hb (dq_5 0 bcX8_bound_0 (j := 3) rfl rfl) (by decide) ?_
  refine lv_iload_n hx hb (dq_27 0 bcX8_bound_0 (j := 4) rfl rfl) rfl (lv_at hl 1 rfl) ?_
  refine lv_iconst (v := 0) hx hb (dq_3 0 bcX8_bound_0 (j := 5) rfl rfl) (by decide) ?_
  refine lv_iconst (v := 0) hx hb (dq_3 0 bcX8_bound_0 (j := 6) rfl rfl) (by decide) ?_
  replace hF := bd11_s hF
  obtain ⟨r_1, w_2, w_3, w_4, w_5, w_6, w_7, w_8, w_9, w_10, w_11, hc_12, hF⟩ := hF
  obtain ⟨hPc, hDc, hFc⟩ := wcut (wc := (w_X8_hand E a_ a_tape a_readPlace a_script a_scriptLong a_now a_refused a_shareX a_shareY a_askedRow a_kept a_aside a_spelled a_image c_thrown c_taped c_at c_part c_partFrom c_partNumber c_wrong c_partWord c_readLaw c_readBound c_readGoal c_readSites c_scripts c_sites c_asked c_outcome c_took c_acts c_drawn c_racer c_raced c_spelledMany c_hasImage c_now c_refused c_shareX c_shareY c_askedRow c_kept)) hP hD hS hA [0, 1, 2, 3, 4, 5, 6] (by decide) rfl
  have hrc := va_recv hK hPc (ci := 9) (q0 := 0) rfl rfl
  refine cE_i (wc := (w_X8_hand E a_ a_tape a_readPlace a_script a_scriptLong a_now a_refused a_shareX a_shareY a_askedRow a_kept a_aside a_spelled a_image c_thrown c_taped c_at c_part c_partFrom c_partNumber c_wrong c_partWord c_readLaw c_readBound c_readGoal c_readSites c_scripts c_sites c_asked c_outcome c_took c_acts c_drawn c_racer c_raced c_spelledMany c_hasImage c_now c_refused c_shareX c_shareY c_askedRow c_kept)) (wr := []) (w1 := (w_X8_hand E a_ a_tape a_readPlace a_script a_scriptLong a_now a_refused a_shareX a_shareY a_askedRow a_kept a_aside a_spelled a_image c_thrown c_taped c_at c_part c_partFrom c_partNumber c_wrong c_partWord c_readLaw c_readBound c_readGoal c_readSites c_scripts c_sites w_6 w_7 w_9 w_11 c_drawn c_racer c_raced c_spelledMany c_hasImage w_2 w_3 w_4 w_5 w_8 w_10)) (va_runV (As := [.int (-100000000 : Int32), .int (2 : Int32), .int p1, .int (0 : Int32), .int (0 : Int32)]) (rest := [])  ⟨hx, hb, hml, hown, hts⟩ (f_X8_hand l E H.size K (a_ := a_) (a_tape := a_tape) (a_readPlace := a_readPlace) (a_script := a_script) (a_scriptLong := a_scriptLong) (a_now := a_now) (a_refused := a_refused) (a_shareX := a_shareX) (a_shareY := a_shareY) (a_askedRow := a_askedRow) (a_kept := a_kept) (a_aside := a_aside) (a_spelled := a_spelled) (a_image := a_image) (p1 := (-100000000 : Int32)) (p2 := (2 : Int32)) (p3 := p1) (p4 := (0 : Int32)) (p5 := (0 : Int32)) (c_thrown := c_thrown) (c_taped := c_taped) (c_at := c_at) (c_part := c_part) (c_partFrom := c_partFrom) (c_partNumber := c_partNumber) (c_wrong := c_wrong) (c_partWord := c_partWord) (c_readLaw := c_readLaw) (c_readBound := c_readBound) (c_readGoal := c_readGoal) (c_readSites := c_readSites) (c_scripts := c_scripts) (c_sites := c_sites) (c_asked := c_asked) (c_outcome := c_outcome) (c_took := c_took) (c_acts := c_acts) (c_drawn := c_drawn) (c_racer := c_racer) (c_raced := c_raced) (c_spelledMany := c_spelledMany) (c_hasImage := c_hasImage) (c_now := c_now) (c_refused := c_refused) (c_shareX := c_shareX) (c_shareY := c_shareY) (c_askedRow := c_askedRow) (c_kept := c_kept) hc_12) (cwV 5 hts g_f_X8_bound_f_X8_hand_350 rfl rfl rfl hd_X8_hand ⟨Nat.le_of_ble_eq_true rfl, Nat.le_of_ble_eq_true rfl⟩) ⟨pW.blind, hrc, (pW.pre ⟨hK, hN⟩ hPc hDc)⟩ rfl rfl hl.1 rfl (lv_room (Nat.le_of_ble_eq_true rfl)) (dq_182 0 bcX8_bound_0 (j := 7) (i := 350) rfl rfl rfl) ⟨Nat.le_of_ble_eq_true rfl, Nat.le_of_ble_eq_true rfl⟩) hS hFc hP hD [0, 1, 2, 3, 4, 5, 6] [] rfl rfl (by decide) (by decide) (fun H locs hP hD hS => ?_)
  have h9 := fixPD (ws' := [k_X8 a_ c_thrown a_tape c_taped c_at c_part c_partFrom c_partNumber c_wrong c_partWord c_readLaw c_readBound c_readGoal c_readSites a_readPlace a_script a_scriptLong c_scripts a_now a_refused c_sites a_shareX a_shareY w_6 w_7 a_askedRow w_9 a_kept w_11 c_drawn a_aside c_racer c_raced a_spelled c_spelledMany a_image c_hasImage, k_I E a_now 265 w_2, k_I E a_refused 3 w_3, k_I E a_shareX 8 w_4, k_I E a_shareY 8 w_5, k_I E a_askedRow 8 w_8, k_I E a_kept 10600 w_10]) hP hD rfl
  clear hP hD
  obtain ⟨hP, hD⟩ := h9
  rw [hQ]
  have h9 := fin9 (P := fun u9 : Int32 × (Nat → Int32) × (Nat → Int32) × (Nat → Int32) × (Nat → Int32) × Int32 × Int32 × (Nat → Int32) × Int32 × (Nat → Int32) × Int32 => r_1 = u9.1 ∧ va_P E.1 vwCl (w_X8_bound E a_ a_tape a_readPlace a_script a_scriptLong a_now a_refused a_shareX a_shareY a_askedRow a_kept a_aside a_spelled a_image c_thrown c_taped c_at c_part c_partFrom c_partNumber c_wrong c_partWord c_readLaw c_readBound c_readGoal c_readSites c_scripts c_sites u9.2.2.2.2.2.1 u9.2.2.2.2.2.2.1 u9.2.2.2.2.2.2.2.2.1 u9.2.2.2.2.2.2.2.2.2.2 c_drawn c_racer c_raced c_spelledMany c_hasImage u9.2.1 u9.2.2.1 u9.2.2.2.1 u9.2.2.2.2.1 u9.2.2.2.2.2.2.2.1 u9.2.2.2.2.2.2.2.2.2.1) H ∧ va_D A (w_X8_bound E a_ a_tape a_readPlace a_script a_scriptLong a_now a_refused a_shareX a_shareY a_askedRow a_kept a_aside a_spelled a_image c_thrown c_taped c_at c_part c_partFrom c_partNumber c_wrong c_partWord c_readLaw c_readBound c_readGoal c_readSites c_scripts c_sites u9.2.2.2.2.2.1 u9.2.2.2.2.2.2.1 u9.2.2.2.2.2.2.2.2.1 u9.2.2.2.2.2.2.2.2.2.2 c_drawn c_racer c_raced c_spelledMany c_hasImage u9.2.1 u9.2.2.1 u9.2.2.2.1 u9.2.2.2.2.1 u9.2.2.2.2.2.2.2.1 u9.2.2.2.2.2.2.2.2.2.1)) hF ⟨rfl, hP, hD⟩
  obtain ⟨e9_0, hP9, hD9⟩ := h9
  exact W.iret (v := r_1) hx hb hr (fun tt ht hW => ⟨⟨_, (), rfl, e9_0, ht ▸ hP9, hD9⟩, hS.F ht⟩) hS.2.2 (dq_172 0 bcX8_bound_0 (j := 10) rfl rfl)

def J_X8_byteOf_45 (p5 : Int32) (k0 : Int32) : Option (Int32) :=
  some ((k0 >>> (((24 : Int32) - ((8 : Int32) * (p5 - p5 / (4 : Int32) * (4 : Int32)))) &&& (31 : Int32))) &&& (255 : Int32))
def F_X8_byteOf (p0 : Int32) (p1 : Int32) (p2 : Int32) (p3 : Int32) (p4 : Int32) (p5 : Int32) : Option (Int32) :=
  if (4 : Int32) ≤ p5 then if (8 : Int32) ≤ p5 then if (12 : Int32) ≤ p5 then if (16 : Int32) ≤ p5 then J_X8_byteOf_45 p5 p4 else J_X8_byteOf_45 p5 p3 else J_X8_byteOf_45 p5 p2 else J_X8_byteOf_45 p5 p1 else J_X8_byteOf_45 p5 p0

def v_f_X8_byteOf : List Cond := List.cons (.code yX8_byteOf cX8_byteOf 7 (some .int)) (HAppend.hAppend (α := List Cond) (β := List Cond) (γ := List Cond) [] [])
theorem gw_f_X8_byteOf : v_f_X8_byteOf.all goodWord = true := gw_c2 (by decide +kernel) gw_nil
theorem hd_X8_byteOf : yX8_byteOf.cls = RX8 ∧ yX8_byteOf.cls ≠ "java/lang/invoke/MethodHandle" ∧ yX8_byteOf.cls ≠ "java/lang/invoke/VarHandle" ∧ (parseMethodDescriptor yX8_byteOf.desc).map (fun d => d.parameters.length) = some 6 := by decide +kernel
set_option maxHeartbeats 4000000 in
set_option maxRecDepth 100000 in
theorem j_X8_byteOf_45 {p : Program} (l : Launch) {e : Env} {s : State} {m : MethodId} {below : List Frame} {meth : Method} {c : Code} {Q : State → Prop} (E : EE) {p0 : Int32} {p1 : Int32} {p2 : Int32} {p3 : Int32} {p4 : Int32} {p5 : Int32} {k0 : Int32} (hx : p.tables.exec = Jvm.exec) (hb : c.code = cX8_byteOf) (hml : c.maxLocals = 7) (hown : s.vm.findClass RX8 = some m.cls) (hts : ∀ w ∈ v_f_X8_byteOf, w.before #[Value.int p0, Value.int p1, Value.int p2, Value.int p3, Value.int p4, Value.int p5] s = true) (hK : va_K E.1 vwCl (TY E) s) (hN : NX s) {rr : Int32} (hr : meth.sig.returnType = (some .int)) (hlocks : meth.locks = false) (hQ : Q = MQ below (vp_Si (fun q : Int32 => q = rr)) #[Value.int p0, Value.int p1, Value.int p2, Value.int p3, Value.int p4, Value.int p5] s 0 0 (fun _ => False)) (hF : J_X8_byteOf_45 p5 k0 = some rr) (hP : va_P E.1 vwCl [] s.heap) : ∀ (ls : Array Slot), lv_has ls 7 [(5, .int p5)] → W p l e ({ frames := 0, cells := 0, slots := 0, locals := 0 } : Room) s m #[Value.int p0, Value.int p1, Value.int p2, Value.int p3, Value.int p4, Value.int p5] below meth c s.heap [] 0 0 Q (F0 m 45 ls [.int k0]) := by
  unfold J_X8_byteOf_45 at hF
  replace hP : va_P E.1 vwCl [] s.heap := hP
  intro ls hl
  refine lv_istore (lv' := [(6, .int k0), (5, .int p5)]) hx hb (dq_54 0 bcX8_byteOf_0 (j := 45) (i := 6) rfl rfl) hl (by decide) rfl (fun ls hl => ?_)
  refine lv_iload hx hb (dq_21 0 bcX8_byteOf_0 (j := 47) (i := 6) rfl rfl) (lv_at hl 0 rfl) ?_
  refine lv_bipush (v := 24) hx hb (dq_16 48 bcX8_byteOf_1 (j := 1) (i := 24) rfl rfl rfl) (by decide) ?_
  refine lv_bipush (v := 8) hx hb (dq_16 48 bcX8_byteOf_1 (j := 3) (i := 8) rfl rfl rfl) (by decide) ?_
  refine lv_iload hx hb (dq_21 48 bcX8_byteOf_1 (j := 5) (i := 5) rfl rfl) (lv_at hl 1 rfl) ?_
  refine lv_iconst (v := 4) hx hb (dq_7 48 bcX8_byteOf_1 (j := 7) rfl rfl) (by decide) ?_
  refine lv_irem hx hb (dq_112 48 bcX8_byteOf_1 (j := 8) rfl rfl) (by decide) ?_
  refine lv_imul hx hb (dq_104 48 bcX8_byteOf_1 (j := 9) rfl rfl) ?_
  refine lv_isub hx hb (dq_100 48 bcX8_byteOf_1 (j := 10) rfl rfl) ?_
  refine lv_ishr hx hb (dq_122 48 bcX8_byteOf_1 (j := 11) rfl rfl) ?_
  refine lv_sipush (v := 255) hx hb (dq_17 48 bcX8_byteOf_1 (j := 12) (i := 255) rfl rfl rfl) (by decide) ?_
  refine lv_iand hx hb (dq_126 48 bcX8_byteOf_1 (j := 15) rfl rfl) ?_
  rw [hQ]
  obtain e9_0 := inj1 hF
  exact W.iret (v := (k0 >>> (((24 : Int32) - ((8 : Int32) * (p5 - p5 / (4 : Int32) * (4 : Int32)))) &&& (31 : Int32))) &&& (255 : Int32)) hx hb hr (fun tt ht hW => ⟨_, rfl, e9_0, ht⟩) (fun _ h => by cases h) (dq_172 48 bcX8_byteOf_1 (j := 16) rfl rfl)

set_option maxHeartbeats 4000000 in
set_option maxRecDepth 100000 in
theorem f_X8_byteOf (l : Launch) (E : EE) {p0 : Int32} {p1 : Int32} {p2 : Int32} {p3 : Int32} {p4 : Int32} {p5 : Int32} {rr : Int32} (hF : F_X8_byteOf p0 p1 p2 p3 p4 p5 = some rr) : Met l yX8_byteOf v_f_X8_byteOf (({ frames := 0, cells := 0, slots := 0, locals := 0 } : Room)) (va_Pc [.int p0, .int p1, .int p2, .int p3, .int p4, .int p5] (pP E [])) (vp_Si (fun q : Int32 => q = rr)) 0 0 (fun _ => False) := by
  refine Met.ofW (cc := cX8_byteOf) (maxL := 7) (ret := (some .int)) (by decide) rfl ?_
  intro p e s m args below meth c s₁ B hml hv
  obtain ⟨rfl, ⟨hK, hN⟩, hP⟩ := hv
  have hx := B.exec
  have hb := B.bytes
  have hr := B.returns
  have hts := atoms_spec (ws := v_f_X8_byteOf) B.pre
  have hown : s.vm.findClass RX8 = some m.cls := own_of hd_X8_byteOf.1 (findClass_of_methodNamed B.named)
  have hlocks : meth.locks = false := B.notSynchronized
  replace hP : va_P E.1 vwCl [] s.heap := hP
  have hl := lv_entry ([.int p0, .int p1, .int p2, .int p3, .int p4, .int p5]) (n := 7) (Nat.le_of_ble_eq_true rfl)
  rw [lg_entry_eq]
  generalize (lg_sl ([.int p0, .int p1, .int p2, .int p3, .int p4, .int p5]) ++ List.replicate (7 - (lg_sl ([.int p0, .int p1, .int p2, .int p3, .int p4, .int p5])).length) Slot.unset).toArray = ls at hl ⊢
  have hl : lv_has ls 7 [(0, .int p0), (1, .int p1), (2, .int p2), (3, .int p3), (4, .int p4), (5, .int p5)] := hl
  obtain ⟨Q, hQ⟩ : ∃ Q : State → Prop, Q = MQ below (vp_Si (fun q : Int32 => q = rr)) #[Value.int p0, Value.int p1, Value.int p2, Value.int p3, Value.int p4, Value.int p5] s 0 0 (fun _ => False) := ⟨_, rfl⟩
  rw [← hQ]
  change W p l e ({ frames := 0, cells := 0, slots := 0, locals := 0 } : Room) s m #[Value.int p0, Value.int p1, Value.int p2, Value.int p3, Value.int p4, Value.int p5] below meth c s.heap [] 0 0 Q (F0 m 0 ls [])
  unfold F_X8_byteOf at hF
  refine lv_iload hx hb (dq_21 0 bcX8_byteOf_0 (j := 0) (i := 5) rfl rfl) (lv_at hl 5 rfl) ?_
  refine lv_iconst (v := 4) hx hb (dq_7 0 bcX8_byteOf_0 (j := 2) rfl rfl) (by decide) ?_
  refine lv_icmp_ge (tgt := 10) hx hb (dq_162 0 bcX8_byteOf_0 (j := 3) (i := 7) rfl rfl rfl) (by decide) (fun c_1 => ?_) (fun c_1 => ?_)
  ·
    replace hF := ip c_1 hF
    refine lv_iload hx hb (dq_21 0 bcX8_byteOf_0 (j := 10) (i := 5) rfl rfl) (lv_at hl 5 rfl) ?_
    refine lv_bipush (v := 8) hx hb (dq_16 0 bcX8_byteOf_0 (j := 12) (i := 8) rfl rfl rfl) (by decide) ?_
    refine lv_icmp_ge (tgt := 21) hx hb (dq_162 0 bcX8_byteOf_0 (j := 14) (i := 7) rfl rfl rfl) (by decide) (fun c_2 => ?_) (fun c_2 => ?_)
    ·
      replace hF := ip c_2 hF
      refine lv_iload hx hb (dq_21 0 bcX8_byteOf_0 (j := 21) (i := 5) rfl rfl) (lv_at hl 5 rfl) ?_
      refine lv_bipush (v := 12) hx hb (dq_16 0 bcX8_byteOf_0 (j := 23) (i := 12) rfl rfl rfl) (by decide) ?_
      refine lv_icmp_ge (tgt := 32) hx hb (dq_162 0 bcX8_byteOf_0 (j := 25) (i := 7) rfl rfl rfl) (by decide) (fun c_3 => ?_) (fun c_3 => ?_)
      ·
        replace hF := ip c_3 hF
        refine lv_iload hx hb (dq_21 0 bcX8_byteOf_0 (j := 32) (i := 5) rfl rfl) (lv_at hl 5 rfl) ?_
        refine lv_bipush (v := 16) hx hb (dq_16 0 bcX8_byteOf_0 (j := 34) (i := 16) rfl rfl rfl) (by decide) ?_
        refine lv_icmp_ge (tgt := 43) hx hb (dq_162 0 bcX8_byteOf_0 (j := 36) (i := 7) rfl rfl rfl) (by decide) (fun c_4 => ?_) (fun c_4 => ?_)
        ·
          replace hF := ip c_4 hF
          refine lv_iload hx hb (dq_21 0 bcX8_byteOf_0 (j := 43) (i := 4) rfl rfl) (lv_at hl 4 rfl) ?_
          exact j_X8_byteOf_45 l E (p0 := p0) (p1 := p1) (p2 := p2) (p3 := p3) (p4 := p4) (p5 := p5) (k0 := p4) hx hb hml hown hts hK hN hr hlocks hQ hF hP ls (lv_sub hl [5] rfl)
        ·
          replace hF := inn c_4 hF
          refine lv_iload_n hx hb (dq_29 0 bcX8_byteOf_0 (j := 39) rfl rfl) rfl (lv_at hl 3 rfl) ?_
          refine lv_goto (tgt := 45) hx hb (dq_167 0 bcX8_byteOf_0 (j := 40) (i := 5) rfl rfl rfl) (by decide) ?_
          exact j_X8_byteOf_45 l E (p0 := p0) (p1 := p1) (p2 := p2) (p3 := p3) (p4 := p4) (p5 := p5) (k0 := p3) hx hb hml hown hts hK hN hr hlocks hQ hF hP ls (lv_sub hl [5] rfl)
      ·
        replace hF := inn c_3 hF
        refine lv_iload_n hx hb (dq_28 0 bcX8_byteOf_0 (j := 28) rfl rfl) rfl (lv_at hl 2 rfl) ?_
        refine lv_goto (tgt := 45) hx hb (dq_167 0 bcX8_byteOf_0 (j := 29) (i := 16) rfl rfl rfl) (by decide) ?_
        exact j_X8_byteOf_45 l E (p0 := p0) (p1 := p1) (p2 := p2) (p3 := p3) (p4 := p4) (p5 := p5) (k0 := p2) hx hb hml hown hts hK hN hr hlocks hQ hF hP ls (lv_sub hl [5] rfl)
    ·
      replace hF := inn c_2 hF
      refine lv_iload_n hx hb (dq_27 0 bcX8_byteOf_0 (j := 17) rfl rfl) rfl (lv_at hl 1 rfl) ?_
      refine lv_goto (tgt := 45) hx hb (dq_167 0 bcX8_byteOf_0 (j := 18) (i := 27) rfl rfl rfl) (by decide) ?_
      exact j_X8_byteOf_45 l E (p0 := p0) (p1 := p1) (p2 := p2) (p3 := p3) (p4 := p4) (p5 := p5) (k0 := p1) hx hb hml hown hts hK hN hr hlocks hQ hF hP ls (lv_sub hl [5] rfl)
  ·
    replace hF := inn c_1 hF
    refine lv_iload_n hx hb (dq_26 0 bcX8_byteOf_0 (j := 6) rfl rfl) rfl (lv_at hl 0 rfl) ?_
    refine lv_goto (tgt := 45) hx hb (dq_167 0 bcX8_byteOf_0 (j := 7) (i := 38) rfl rfl rfl) (by decide) ?_
    exact j_X8_byteOf_45 l E (p0 := p0) (p1 := p1) (p2 := p2) (p3 := p3) (p4 := p4) (p5 := p5) (k0 := p0) hx hb hml hown hts hK hN hr hlocks hQ hF hP ls (lv_sub hl [5] rfl)

def F_X8_canStand (p1 : Int32) (c_now : Nat → Int32) : Option (Int32) :=
  ixF ((0 : Int32) + p1) 265 (bd1 (F_X8_in ((c_now ((0 : Int32) + p1).toNatClampNeg).toInt64) (-99999 : Int64) (99999 : Int64)) (fun r_2 => if r_2 = (0 : Int32) then some (0 : Int32) else ixF ((8 : Int32) + p1) 265 (bd1 (F_X8_in ((c_now ((8 : Int32) + p1).toNatClampNeg).toInt64) (-99999 : Int64) (99999 : Int64)) (fun r_7 => if r_7 = (0 : Int32) then some (0 : Int32) else some (1 : Int32)))))
abbrev w_X8_canStand (E : EE) (a_ a_tape a_readPlace a_script a_scriptLong a_now a_refused a_shareX a_shareY a_askedRow a_kept a_aside a_spelled a_image : Nat) (c_thrown : Int32) (c_taped : Int32) (c_at : Int32) (c_part : Int32) (c_partFrom : Int32) (c_partNumber : Int32) (c_wrong : Int32) (c_partWord : Int64) (c_readLaw : Int32) (c_readBound : Int32) (c_readGoal : Int32) (c_readSites : Int32) (c_scripts : Int32) (c_sites : Int32) (c_asked : Int32) (c_outcome : Int32) (c_took : Int32) (c_acts : Int32) (c_drawn : Int64) (c_racer : Int32) (c_raced : Int32) (c_spelledMany : Int32) (c_hasImage : Int32) (c_now : Nat → Int32) : va_W := [k_X8 a_ c_thrown a_tape c_taped c_at c_part c_partFrom c_partNumber c_wrong c_partWord c_readLaw c_readBound c_readGoal c_readSites a_readPlace a_script a_scriptLong c_scripts a_now a_refused c_sites a_shareX a_shareY c_asked c_outcome a_askedRow c_took a_kept c_acts c_drawn a_aside c_racer c_raced a_spelled c_spelledMany a_image c_hasImage, k_I E a_now 265 c_now]
def v_f_X8_canStand : List Cond := List.cons (.code yX8_canStand cX8_canStand 2 (some .boolean)) (HAppend.hAppend (α := List Cond) (β := List Cond) (γ := List Cond) [.fieldLink RX8 22 "HushWatchModel" "now" "[I", .constantLong RX8 285 (-99999), .constantLong RX8 287 (99999), .methodLink RX8 60 yX8_in, .static yX8_in, .initialized RX8] (HAppend.hAppend (α := List Cond) (β := List Cond) (γ := List Cond) wsX80 (HAppend.hAppend (α := List Cond) (β := List Cond) (γ := List Cond) v_f_X8_in [])))
theorem gw_f_X8_canStand : v_f_X8_canStand.all goodWord = true := gw_c2 (by decide +kernel) (gw_ap gw_wsX80 (gw_ap gw_f_X8_in gw_nil))
theorem i_f_X8_canStand_X8 : ∀ w ∈ wsX80, w ∈ v_f_X8_canStand := fun _ h => List.mem_cons_of_mem _ (List.mem_append_right _ (List.mem_append_left _ h))
theorem g_f_X8_canStand_f_X8_in_60 : GoodIn v_f_X8_canStand (va_wsS RX8 60 yX8_in v_f_X8_in) := goodIn_in gw_f_X8_canStand (in3 4 5 6 rfl rfl rfl (fun _ h => List.mem_cons_of_mem _ (List.mem_append_right _ (List.mem_append_right _ (List.mem_append_left _ h)))))
theorem hd_X8_canStand : yX8_canStand.cls = RX8 ∧ yX8_canStand.cls ≠ "java/lang/invoke/MethodHandle" ∧ yX8_canStand.cls ≠ "java/lang/invoke/VarHandle" ∧ (parseMethodDescriptor yX8_canStand.desc).map (fun d => d.parameters.length) = some 1 := by decide +kernel
set_option maxHeartbeats 4000000 in
set_option maxRecDepth 100000 in
theorem f_X8_canStand (l : Launch) (E : EE) {a_ a_tape a_readPlace a_script a_scriptLong a_now a_refused a_shareX a_shareY a_askedRow a_kept a_aside a_spelled a_image : Nat} {p1 : Int32} {c_thrown : Int32} {c_taped : Int32} {c_at : Int32} {c_part : Int32} {c_partFrom : Int32} {c_partNumber : Int32} {c_wrong : Int32} {c_partWord : Int64} {c_readLaw : Int32} {c_readBound : Int32} {c_readGoal : Int32} {c_readSites : Int32} {c_scripts : Int32} {c_sites : Int32} {c_asked : Int32} {c_outcome : Int32} {c_took : Int32} {c_acts : Int32} {c_drawn : Int64} {c_racer : Int32} {c_raced : Int32} {c_spelledMany : Int32} {c_hasImage : Int32} {c_now : Nat → Int32} {rr : Int32} (hF : F_X8_canStand p1 c_now = some rr) : Met l yX8_canStand v_f_X8_canStand (({ frames := 1, cells := 0, slots := 0, locals := 25 } : Room)) (va_Pc [.ref a_, .int p1] (pP E (w_X8_canStand E a_ a_tape a_readPlace a_script a_scriptLong a_now a_refused a_shareX a_shareY a_askedRow a_kept a_aside a_spelled a_image c_thrown c_taped c_at c_part c_partFrom c_partNumber c_wrong c_partWord c_readLaw c_readBound c_readGoal c_readSites c_scripts c_sites c_asked c_outcome c_took c_acts c_drawn c_racer c_raced c_spelledMany c_hasImage c_now))) (vp_Si (fun q : Int32 => q = rr ∧ (q = 0 ∨ q = 1))) 0 0 (fun _ => False) := by
  refine Met.ofW (cc := cX8_canStand) (maxL := 2) (ret := (some .boolean)) (by decide) rfl ?_
  intro p e s m args below meth c s₁ B hml hv
  obtain ⟨rfl, ⟨hK, hN⟩, hP⟩ := hv
  have hx := B.exec
  have hb := B.bytes
  have hr := B.returns
  have hts := atoms_spec (ws := v_f_X8_canStand) B.pre
  have hown : s.vm.findClass RX8 = some m.cls := own_of hd_X8_canStand.1 (findClass_of_methodNamed B.named)
  have hlocks : meth.locks = false := B.notSynchronized
  replace hP : va_P E.1 vwCl [k_X8 a_ c_thrown a_tape c_taped c_at c_part c_partFrom c_partNumber c_wrong c_partWord c_readLaw c_readBound c_readGoal c_readSites a_readPlace a_script a_scriptLong c_scripts a_now a_refused c_sites a_shareX a_shareY c_asked c_outcome a_askedRow c_took a_kept c_acts c_drawn a_aside c_racer c_raced a_spelled c_spelledMany a_image c_hasImage, k_I E a_now 265 c_now] s.heap := hP
  have hl := lv_entry ([.ref a_, .int p1]) (n := 2) (Nat.le_of_ble_eq_true rfl)
  rw [lg_entry_eq]
  generalize (lg_sl ([.ref a_, .int p1]) ++ List.replicate (2 - (lg_sl ([.ref a_, .int p1])).length) Slot.unset).toArray = ls at hl ⊢
  have hl : lv_has ls 2 [(0, .ref a_), (1, .int p1)] := hl
  obtain ⟨Q, hQ⟩ : ∃ Q : State → Prop, Q = MQ below (vp_Si (fun q : Int32 => q = rr ∧ (q = 0 ∨ q = 1))) #[Value.ref a_, Value.int p1] s 0 0 (fun _ => False) := ⟨_, rfl⟩
  rw [← hQ]
  change W p l e ({ frames := 1, cells := 0, slots := 0, locals := 25 } : Room) s m #[Value.ref a_, Value.int p1] below meth c s.heap [] 0 0 Q (F0 m 0 ls [])
  unfold F_X8_canStand at hF
  refine lv_aload_n hx hb (dq_42 0 bcX8_canStand_0 (j := 0) rfl rfl) rfl (lv_at hl 0 rfl) ?_
  refine gt_X8_17 (v := .ref a_now) hx hb hts i_f_X8_canStand_X8 hown hK hP 0 rfl (hts (.fieldLink RX8 22 "HushWatchModel" "now" "[I") (List.mem_of_getElem? (i := 1) rfl)) rfl (dq_180 0 bcX8_canStand_0 (j := 1) (i := 22) rfl rfl rfl) ?_
  refine lv_iconst (v := 0) hx hb (dq_3 0 bcX8_canStand_0 (j := 4) rfl rfl) (by decide) ?_
  refine lv_iload_n hx hb (dq_27 0 bcX8_canStand_0 (j := 5) rfl rfl) rfl (lv_at hl 1 rfl) ?_
  refine lv_iadd hx hb (dq_96 0 bcX8_canStand_0 (j := 6) rfl rfl) ?_
  replace hF := ix_s hF
  obtain ⟨hi_1, hF⟩ := hF
  refine va_iald hx hb hK hP 1 0 rfl rfl hi_1 (dq_46 0 bcX8_canStand_0 (j := 7) rfl rfl) ?_
  refine lv_i2l (v := (c_now ((0 : Int32) + p1).toNatClampNeg).toInt64) hx hb (dq_133 0 bcX8_canStand_0 (j := 8) rfl rfl) rfl ?_
  refine lv_ldc2 (v := -99999) hx hb hown (hts (.constantLong RX8 285 (-99999)) (List.mem_of_getElem? (i := 2) rfl)) (dq_20 0 bcX8_canStand_0 (j := 9) (i := 285) rfl rfl rfl) ?_
  refine lv_ldc2 (v := 99999) hx hb hown (hts (.constantLong RX8 287 (99999)) (List.mem_of_getElem? (i := 3) rfl)) (dq_20 0 bcX8_canStand_0 (j := 12) (i := 287) rfl rfl rfl) ?_
  replace hF := bd1_s hF
  obtain ⟨r_2, hc_3, hF⟩ := hF
  have hPc : va_P E.1 vwCl [] s.heap := fun k q h => by simp at h
  refine pE_z (va_runS (As := [.long ((c_now ((0 : Int32) + p1).toNatClampNeg).toInt64), .long (-99999 : Int64), .long (99999 : Int64)]) (rest := [])  ⟨hx, hb, hml, hown, hts⟩ (f_X8_in l E (p0 := (c_now ((0 : Int32) + p1).toNatClampNeg).toInt64) (p1 := (-99999 : Int64)) (p2 := (99999 : Int64)) hc_3) (va_cwS 3 hts g_f_X8_canStand_f_X8_in_60 rfl rfl rfl hd_X8_in.2 ⟨Nat.le_of_ble_eq_true rfl, Nat.le_of_ble_eq_true rfl⟩) ⟨pP.blind, (pP.pre ⟨hK, hN⟩ hPc)⟩ rfl rfl hl.1 rfl (lv_room (Nat.le_of_ble_eq_true rfl)) (dq_184 0 bcX8_canStand_0 (j := 15) (i := 60) rfl rfl rfl) ⟨Nat.le_of_ble_eq_true rfl, Nat.le_of_ble_eq_true rfl⟩) (fun hb_4 => ?_)
  refine lv_if_eq (tgt := 47) hx hb (dq_153 0 bcX8_canStand_0 (j := 18) (i := 29) rfl rfl rfl) (by decide) (fun c_5 => ?_) (fun c_5 => ?_)
  ·
    replace hF := ip c_5 hF
    refine lv_iconst (v := 0) hx hb (dq_3 0 bcX8_canStand_0 (j := 47) rfl rfl) (by decide) ?_
    rw [hQ]
    obtain e9_0 := inj1 hF
    exact W.zret (v := (0 : Int32)) hx hb hr rfl (fun tt ht hW => ⟨_, rfl, ⟨e9_0, Or.inl rfl⟩, ht⟩) (fun _ h => by cases h) (dq_172 48 bcX8_canStand_1 (j := 0) rfl rfl)
  ·
    replace hF := inn c_5 hF
    refine lv_aload_n hx hb (dq_42 0 bcX8_canStand_0 (j := 21) rfl rfl) rfl (lv_at hl 0 rfl) ?_
    refine gt_X8_17 (v := .ref a_now) hx hb hts i_f_X8_canStand_X8 hown hK hP 0 rfl (hts (.fieldLink RX8 22 "HushWatchModel" "now" "[I") (List.mem_of_getElem? (i := 1) rfl)) rfl (dq_180 0 bcX8_canStand_0 (j := 22) (i := 22) rfl rfl rfl) ?_
    refine lv_bipush (v := 8) hx hb (dq_16 0 bcX8_canStand_0 (j := 25) (i := 8) rfl rfl rfl) (by decide) ?_
    refine lv_iload_n hx hb (dq_27 0 bcX8_canStand_0 (j := 27) rfl rfl) rfl (lv_at hl 1 rfl) ?_
    refine lv_iadd hx hb (dq_96 0 bcX8_canStand_0 (j := 28) rfl rfl) ?_
    replace hF := ix_s hF
    obtain ⟨hi_6, hF⟩ := hF
    refine va_iald hx hb hK hP 1 0 rfl rfl hi_6 (dq_46 0 bcX8_canStand_0 (j := 29) rfl rfl) ?_
    refine lv_i2l (v := (c_now ((8 : Int32) + p1).toNatClampNeg).toInt64) hx hb (dq_133 0 bcX8_canStand_0 (j := 30) rfl rfl) rfl ?_
    refine lv_ldc2 (v := -99999) hx hb hown (hts (.constantLong RX8 285 (-99999)) (List.mem_of_getElem? (i := 2) rfl)) (dq_20 0 bcX8_canStand_0 (j := 31) (i := 285) rfl rfl rfl) ?_
    refine lv_ldc2 (v := 99999) hx hb hown (hts (.constantLong RX8 287 (99999)) (List.mem_of_getElem? (i := 3) rfl)) (dq_20 0 bcX8_canStand_0 (j := 34) (i := 287) rfl rfl rfl) ?_
    replace hF := bd1_s hF
    obtain ⟨r_7, hc_8, hF⟩ := hF
    have hPc : va_P E.1 vwCl [] s.heap := fun k q h => by simp at h
    refine pE_z (va_runS (As := [.long ((c_now ((8 : Int32) + p1).toNatClampNeg).toInt64), .long (-99999 : Int64), .long (99999 : Int64)]) (rest := [])  ⟨hx, hb, hml, hown, hts⟩ (f_X8_in l E (p0 := (c_now ((8 : Int32) + p1).toNatClampNeg).toInt64) (p1 := (-99999 : Int64)) (p2 := (99999 : Int64)) hc_8) (va_cwS 3 hts g_f_X8_canStand_f_X8_in_60 rfl rfl rfl hd_X8_in.2 ⟨Nat.le_of_ble_eq_true rfl, Nat.le_of_ble_eq_true rfl⟩) ⟨pP.blind, (pP.pre ⟨hK, hN⟩ hPc)⟩ rfl rfl hl.1 rfl (lv_room (Nat.le_of_ble_eq_true rfl)) (dq_184 0 bcX8_canStand_0 (j := 37) (i := 60) rfl rfl rfl) ⟨Nat.le_of_ble_eq_true rfl, Nat.le_of_ble_eq_true rfl⟩) (fun hb_9 => ?_)
    refine lv_if_eq (tgt := 47) hx hb (dq_153 0 bcX8_canStand_0 (j := 40) (i := 7) rfl rfl rfl) (by decide) (fun c_10 => ?_) (fun c_10 => ?_)
    ·
      replace hF := ip c_10 hF
      refine lv_iconst (v := 0) hx hb (dq_3 0 bcX8_canStand_0 (j := 47) rfl rfl) (by decide) ?_
      rw [hQ]
      obtain e9_0 := inj1 hF
      exact W.zret (v := (0 : Int32)) hx hb hr rfl (fun tt ht hW => ⟨_, rfl, ⟨e9_0, Or.inl rfl⟩, ht⟩) (fun _ h => by cases h) (dq_172 48 bcX8_canStand_1 (j := 0) rfl rfl)
    ·
      replace hF := inn c_10 hF
      refine lv_iconst (v := 1) hx hb (dq_4 0 bcX8_canStand_0 (j := 43) rfl rfl) (by decide) ?_
      refine lv_goto (tgt := 48) hx hb (dq_167 0 bcX8_canStand_0 (j := 44) (i := 4) rfl rfl rfl) (by decide) ?_
      rw [hQ]
      obtain e9_0 := inj1 hF
      exact W.zret (v := (1 : Int32)) hx hb hr rfl (fun tt ht hW => ⟨_, rfl, ⟨e9_0, Or.inr rfl⟩, ht⟩) (fun _ h => by cases h) (dq_172 48 bcX8_canStand_1 (j := 0) rfl rfl)

def F_X8_isWord (p1 : Int64) (c_part : Int32) (c_partWord : Int64) : Option (Int32) :=
  if c_part = (1 : Int32) then if lg_cmp c_partWord p1 = (0 : Int32) then some (1 : Int32) else some (0 : Int32) else some (0 : Int32)
abbrev w_X8_isWord (E : EE) (a_ a_tape a_readPlace a_script a_scriptLong a_now a_refused a_shareX a_shareY a_askedRow a_kept a_aside a_spelled a_image : Nat) (c_thrown : Int32) (c_taped : Int32) (c_at : Int32) (c_part : Int32) (c_partFrom : Int32) (c_partNumber : Int32) (c_wrong : Int32) (c_partWord : Int64) (c_readLaw : Int32) (c_readBound : Int32) (c_readGoal : Int32) (c_readSites : Int32) (c_scripts : Int32) (c_sites : Int32) (c_asked : Int32) (c_outcome : Int32) (c_took : Int32) (c_acts : Int32) (c_drawn : Int64) (c_racer : Int32) (c_raced : Int32) (c_spelledMany : Int32) (c_hasImage : Int32) : va_W := [k_X8 a_ c_thrown a_tape c_taped c_at c_part c_partFrom c_partNumber c_wrong c_partWord c_readLaw c_readBound c_readGoal c_readSites a_readPlace a_script a_scriptLong c_scripts a_now a_refused c_sites a_shareX a_shareY c_asked c_outcome a_askedRow c_took a_kept c_acts c_drawn a_aside c_racer c_raced a_spelled c_spelledMany a_image c_hasImage]
def v_f_X8_isWord : List Cond := List.cons (.code yX8_isWord cX8_isWord 3 (some .boolean)) (HAppend.hAppend (α := List Cond) (β := List Cond) (γ := List Cond) [.fieldLink RX8 83 "HushWatchModel" "part" "I", .fieldLink RX8 67 "HushWatchModel" "partWord" "J"] (HAppend.hAppend (α := List Cond) (β := List Cond) (γ := List Cond) wsX80 []))
theorem gw_f_X8_isWord : v_f_X8_isWord.all goodWord = true := gw_c2 (by decide +kernel) (gw_ap gw_wsX80 gw_nil)
theorem i_f_X8_isWord_X8 : ∀ w ∈ wsX80, w ∈ v_f_X8_isWord := fun _ h => List.mem_cons_of_mem _ (List.mem_append_right _ (List.mem_append_left _ h))
theorem hd_X8_isWord : yX8_isWord.cls = RX8 ∧ yX8_isWord.cls ≠ "java/lang/invoke/MethodHandle" ∧ yX8_isWord.cls ≠ "java/lang/invoke/VarHandle" ∧ (parseMethodDescriptor yX8_isWord.desc).map (fun d => d.parameters.length) = some 1 := by decide +kernel
set_option maxHeartbeats 4000000 in
set_option maxRecDepth 100000 in
theorem f_X8_isWord (l : Launch) (E : EE) {a_ a_tape a_readPlace a_script a_scriptLong a_now a_refused a_shareX a_shareY a_askedRow a_kept a_aside a_spelled a_image : Nat} {p1 : Int64} {c_thrown : Int32} {c_taped : Int32} {c_at : Int32} {c_part : Int32} {c_partFrom : Int32} {c_partNumber : Int32} {c_wrong : Int32} {c_partWord : Int64} {c_readLaw : Int32} {c_readBound : Int32} {c_readGoal : Int32} {c_readSites : Int32} {c_scripts : Int32} {c_sites : Int32} {c_asked : Int32} {c_outcome : Int32} {c_took : Int32} {c_acts : Int32} {c_drawn : Int64} {c_racer : Int32} {c_raced : Int32} {c_spelledMany : Int32} {c_hasImage : Int32} {rr : Int32} (hF : F_X8_isWord p1 c_part c_partWord = some rr) : Met l yX8_isWord v_f_X8_isWord (({ frames := 0, cells := 0, slots := 0, locals := 0 } : Room)) (va_Pc [.ref a_, .long p1] (pP E (w_X8_isWord E a_ a_tape a_readPlace a_script a_scriptLong a_now a_refused a_shareX a_shareY a_askedRow a_kept a_aside a_spelled a_image c_thrown c_taped c_at c_part c_partFrom c_partNumber c_wrong c_partWord c_readLaw c_readBound c_readGoal c_readSites c_scripts c_sites c_asked c_outcome c_took c_acts c_drawn c_racer c_raced c_spelledMany c_hasImage))) (vp_Si (fun q : Int32 => q = rr ∧ (q = 0 ∨ q = 1))) 0 0 (fun _ => False) := by
  refine Met.ofW (cc := cX8_isWord) (maxL := 3) (ret := (some .boolean)) (by decide) rfl ?_
  intro p e s m args below meth c s₁ B hml hv
  obtain ⟨rfl, ⟨hK, hN⟩, hP⟩ := hv
  have hx := B.exec
  have hb := B.bytes
  have hr := B.returns
  have hts := atoms_spec (ws := v_f_X8_isWord) B.pre
  have hown : s.vm.findClass RX8 = some m.cls := own_of hd_X8_isWord.1 (findClass_of_methodNamed B.named)
  have hlocks : meth.locks = false := B.notSynchronized
  replace hP : va_P E.1 vwCl [k_X8 a_ c_thrown a_tape c_taped c_at c_part c_partFrom c_partNumber c_wrong c_partWord c_readLaw c_readBound c_readGoal c_readSites a_readPlace a_script a_scriptLong c_scripts a_now a_refused c_sites a_shareX a_shareY c_asked c_outcome a_askedRow c_took a_kept c_acts c_drawn a_aside c_racer c_raced a_spelled c_spelledMany a_image c_hasImage] s.heap := hP
  have hl := lv_entry ([.ref a_, .long p1]) (n := 3) (Nat.le_of_ble_eq_true rfl)
  rw [lg_entry_eq]
  generalize (lg_sl ([.ref a_, .long p1]) ++ List.replicate (3 - (lg_sl ([.ref a_, .long p1])).length) Slot.unset).toArray = ls at hl ⊢
  have hl : lv_has ls 3 [(0, .ref a_), (1, .long p1)] := hl
  obtain ⟨Q, hQ⟩ : ∃ Q : State → Prop, Q = MQ below (vp_Si (fun q : Int32 => q = rr ∧ (q = 0 ∨ q = 1))) #[Value.ref a_, Value.long p1] s 0 0 (fun _ => False) := ⟨_, rfl⟩
  rw [← hQ]
  change W p l e ({ frames := 0, cells := 0, slots := 0, locals := 0 } : Room) s m #[Value.ref a_, Value.long p1] below meth c s.heap [] 0 0 Q (F0 m 0 ls [])
  unfold F_X8_isWord at hF
  refine lv_aload_n hx hb (dq_42 0 bcX8_isWord_0 (j := 0) rfl rfl) rfl (lv_at hl 0 rfl) ?_
  refine gt_X8_4 (v := .int c_part) hx hb hts i_f_X8_isWord_X8 hown hK hP 0 rfl (hts (.fieldLink RX8 83 "HushWatchModel" "part" "I") (List.mem_of_getElem? (i := 1) rfl)) rfl (dq_180 0 bcX8_isWord_0 (j := 1) (i := 83) rfl rfl rfl) ?_
  refine lv_iconst (v := 1) hx hb (dq_4 0 bcX8_isWord_0 (j := 4) rfl rfl) (by decide) ?_
  refine lv_icmp_ne (tgt := 21) hx hb (dq_160 0 bcX8_isWord_0 (j := 5) (i := 16) rfl rfl rfl) (by decide) (fun c_1 => ?_) (fun c_1 => ?_)
  ·
    replace hF := inn c_1 hF
    refine lv_iconst (v := 0) hx hb (dq_3 0 bcX8_isWord_0 (j := 21) rfl rfl) (by decide) ?_
    rw [hQ]
    obtain e9_0 := inj1 hF
    exact W.zret (v := (0 : Int32)) hx hb hr rfl (fun tt ht hW => ⟨_, rfl, ⟨e9_0, Or.inl rfl⟩, ht⟩) (fun _ h => by cases h) (dq_172 0 bcX8_isWord_0 (j := 22) rfl rfl)
  ·
    replace hF := ip c_1 hF
    refine lv_aload_n hx hb (dq_42 0 bcX8_isWord_0 (j := 8) rfl rfl) rfl (lv_at hl 0 rfl) ?_
    refine gt_X8_8 (v := .long c_partWord) hx hb hts i_f_X8_isWord_X8 hown hK hP 0 rfl (hts (.fieldLink RX8 67 "HushWatchModel" "partWord" "J") (List.mem_of_getElem? (i := 2) rfl)) rfl (dq_180 0 bcX8_isWord_0 (j := 9) (i := 67) rfl rfl rfl) ?_
    refine lv_lload_n hx hb (dq_31 0 bcX8_isWord_0 (j := 12) rfl rfl) rfl (lv_at hl 1 rfl) ?_
    refine W.lcmp hx hb (dq_148 0 bcX8_isWord_0 (j := 13) rfl rfl) ?_
    refine lv_if_ne (tgt := 21) hx hb (dq_154 0 bcX8_isWord_0 (j := 14) (i := 7) rfl rfl rfl) (by decide) (fun c_2 => ?_) (fun c_2 => ?_)
    ·
      replace hF := inn c_2 hF
      refine lv_iconst (v := 0) hx hb (dq_3 0 bcX8_isWord_0 (j := 21) rfl rfl) (by decide) ?_
      rw [hQ]
      obtain e9_0 := inj1 hF
      exact W.zret (v := (0 : Int32)) hx hb hr rfl (fun tt ht hW => ⟨_, rfl, ⟨e9_0, Or.inl rfl⟩, ht⟩) (fun _ h => by cases h) (dq_172 0 bcX8_isWord_0 (j := 22) rfl rfl)
    ·
      replace hF := ip c_2 hF
      refine lv_iconst (v := 1) hx hb (dq_4 0 bcX8_isWord_0 (j := 17) rfl rfl) (by decide) ?_
      refine lv_goto (tgt := 22) hx hb (dq_167 0 bcX8_isWord_0 (j := 18) (i := 4) rfl rfl rfl) (by decide) ?_
      rw [hQ]
      obtain e9_0 := inj1 hF
      exact W.zret (v := (1 : Int32)) hx hb hr rfl (fun tt ht hW => ⟨_, rfl, ⟨e9_0, Or.inr rfl⟩, ht⟩) (fun _ h => by cases h) (dq_172 0 bcX8_isWord_0 (j := 22) rfl rfl)

def J_X8_word_65_r7 (k0 : Int32) (x6 : Int64) (x8 : Int32) : Option ((Int64 × Int32) ⊕ (Int64)) :=
  if k0 = (0 : Int32) then some (.inl (x6, x8 + (1 : Int32))) else some (.inl (((((32 : Int64) * x6) + k0.toInt64) - (97 : Int64)) + (1 : Int64), x8 + (1 : Int32)))
def B_X8_word_6 (p0 : Int32) (p1 : Int32) (p2 : Int32) (p3 : Int32) (p4 : Int32) (p5 : Int32) (x6 : Int64) (x8 : Int32) : Option ((Int64 × Int32) ⊕ (Int64)) :=
  if (6 : Int32) ≤ x8 then some (.inr x6) else if x8 = (0 : Int32) then J_X8_word_65_r7 p0 x6 x8 else if x8 = (1 : Int32) then J_X8_word_65_r7 p1 x6 x8 else if x8 = (2 : Int32) then J_X8_word_65_r7 p2 x6 x8 else if x8 = (3 : Int32) then J_X8_word_65_r7 p3 x6 x8 else if x8 = (4 : Int32) then J_X8_word_65_r7 p4 x6 x8 else J_X8_word_65_r7 p5 x6 x8
def F_X8_word (K : Nat) (p0 : Int32) (p1 : Int32) (p2 : Int32) (p3 : Int32) (p4 : Int32) (p5 : Int32) : Option (Int64) :=
  bd1 (lpF (fun u9 : Int64 × Int32 => B_X8_word_6 p0 p1 p2 p3 p4 p5 u9.1 u9.2) K ((0 : Int64), (0 : Int32))) (fun x6_8 => some x6_8)

def v_f_X8_word : List Cond := List.cons (.code yX8_word cX8_word 10 (some .long)) (HAppend.hAppend (α := List Cond) (β := List Cond) (γ := List Cond) [.constantLong RX8 79 (32), .constantLong RX8 81 (97)] [])
theorem gw_f_X8_word : v_f_X8_word.all goodWord = true := gw_c2 (by decide +kernel) gw_nil
theorem hd_X8_word : yX8_word.cls = RX8 ∧ yX8_word.cls ≠ "java/lang/invoke/MethodHandle" ∧ yX8_word.cls ≠ "java/lang/invoke/VarHandle" ∧ (parseMethodDescriptor yX8_word.desc).map (fun d => d.parameters.length) = some 6 := by decide +kernel
set_option maxHeartbeats 4000000 in
set_option maxRecDepth 100000 in
theorem j_X8_word_65_r7 {p : Program} (l : Launch) {e : Env} {s : State} {m : MethodId} {below : List Frame} {meth : Method} {c : Code} {Q : State → Prop} (E : EE) (K : Nat) {p0 : Int32} {p1 : Int32} {p2 : Int32} {p3 : Int32} {p4 : Int32} {p5 : Int32} {k0 : Int32} {x6 : Int64} {x8 : Int32} (hx : p.tables.exec = Jvm.exec) (hb : c.code = cX8_word) (hml : c.maxLocals = 10) (hown : s.vm.findClass RX8 = some m.cls) (hts : ∀ w ∈ v_f_X8_word, w.before #[Value.int p0, Value.int p1, Value.int p2, Value.int p3, Value.int p4, Value.int p5] s = true) (hK : va_K E.1 vwCl (TY E) s) (hN : NX s) {xx : (Int64 × Int32) ⊕ (Int64)} (hC : ∀ (x6 : Int64), ∀ (x8 : Int32), xx = .inl (x6, x8) → ∀ (ls : Array Slot), lv_has ls 10 [(0, .int p0), (1, .int p1), (2, .int p2), (3, .int p3), (4, .int p4), (5, .int p5), (6, .long x6), (8, .int x8)] → W p l e ({ frames := 0, cells := 0, slots := 0, locals := 0 } : Room) s m #[Value.int p0, Value.int p1, Value.int p2, Value.int p3, Value.int p4, Value.int p5] below meth c s.heap [] 0 0 Q (F0 m 6 ls [])) (hE : ∀ (x6 : Int64), xx = .inr x6 → ((∀ (ls : Array Slot), lv_has ls 10 [(6, .long x6)] → W p l e ({ frames := 0, cells := 0, slots := 0, locals := 0 } : Room) s m #[Value.int p0, Value.int p1, Value.int p2, Value.int p3, Value.int p4, Value.int p5] below meth c s.heap [] 0 0 Q (F0 m 101 ls [])))) (hF : J_X8_word_65_r7 k0 x6 x8 = some xx) (hP : va_P E.1 vwCl [] s.heap) : ∀ (ls : Array Slot), lv_has ls 10 [(0, .int p0), (1, .int p1), (2, .int p2), (3, .int p3), (4, .int p4), (5, .int p5), (6, .long x6), (8, .int x8)] → W p l e ({ frames := 0, cells := 0, slots := 0, locals := 0 } : Room) s m #[Value.int p0, Value.int p1, Value.int p2, Value.int p3, Value.int p4, Value.int p5] below meth c s.heap [] 0 0 Q (F0 m 65 ls [.int k0]) := by
  unfold J_X8_word_65_r7 at hF
  replace hP : va_P E.1 vwCl [] s.heap := hP
  intro ls hl
  refine lv_istore (lv' := [(9, .int k0), (0, .int p0), (1, .int p1), (2, .int p2), (3, .int p3), (4, .int p4), (5, .int p5), (6, .long x6), (8, .int x8)]) hx hb (dq_54 48 bcX8_word_1 (j := 17) (i := 9) rfl rfl) hl (by decide) rfl (fun ls hl => ?_)
  refine lv_iload hx hb (dq_21 48 bcX8_word_1 (j := 19) (i := 9) rfl rfl) (lv_at hl 0 rfl) ?_
  refine lv_if_ne (tgt := 77) hx hb (dq_154 48 bcX8_word_1 (j := 21) (i := 8) rfl rfl rfl) (by decide) (fun c_7 => ?_) (fun c_7 => ?_)
  ·
    replace hF := inn c_7 hF
    refine lv_ldc2 (v := 32) hx hb hown (hts (.constantLong RX8 79 (32)) (List.mem_of_getElem? (i := 1) rfl)) (dq_20 48 bcX8_word_1 (j := 29) (i := 79) rfl rfl rfl) ?_
    refine lv_lload hx hb (dq_22 48 bcX8_word_1 (j := 32) (i := 6) rfl rfl) (lv_at hl 7 rfl) ?_
    refine lv_lmul hx hb (dq_105 48 bcX8_word_1 (j := 34) rfl rfl) ?_
    refine lv_iload hx hb (dq_21 48 bcX8_word_1 (j := 35) (i := 9) rfl rfl) (lv_at hl 0 rfl) ?_
    refine lv_i2l (v := k0.toInt64) hx hb (dq_133 48 bcX8_word_1 (j := 37) rfl rfl) rfl ?_
    refine lv_ladd hx hb (dq_97 48 bcX8_word_1 (j := 38) rfl rfl) ?_
    refine lv_ldc2 (v := 97) hx hb hown (hts (.constantLong RX8 81 (97)) (List.mem_of_getElem? (i := 2) rfl)) (dq_20 48 bcX8_word_1 (j := 39) (i := 81) rfl rfl rfl) ?_
    refine lv_lsub hx hb (dq_101 48 bcX8_word_1 (j := 42) rfl rfl) ?_
    refine lv_lconst (v := 1) hx hb (dq_10 48 bcX8_word_1 (j := 43) rfl rfl) (by decide) ?_
    refine lv_ladd hx hb (dq_97 48 bcX8_word_1 (j := 44) rfl rfl) ?_
    refine lv_lstore (lv' := [(6, .long (((((32 : Int64) * x6) + k0.toInt64) - (97 : Int64)) + (1 : Int64))), (9, .int k0), (0, .int p0), (1, .int p1), (2, .int p2), (3, .int p3), (4, .int p4), (5, .int p5), (8, .int x8)]) hx hb (dq_55 48 bcX8_word_1 (j := 45) (i := 6) rfl rfl) hl (by decide) rfl (fun ls hl => ?_)
    refine lv_iinc (v := x8 + (1 : Int32)) (lv' := [(8, .int (x8 + (1 : Int32))), (6, .long (((((32 : Int64) * x6) + k0.toInt64) - (97 : Int64)) + (1 : Int64))), (9, .int k0), (0, .int p0), (1, .int p1), (2, .int p2), (3, .int p3), (4, .int p4), (5, .int p5)]) hx hb (dq_132 48 bcX8_word_1 (j := 47) (i := 1) rfl rfl rfl) hl (k := 8) rfl (rfl) (by decide) rfl (fun ls hl => ?_)
    refine lv_goto (tgt := 6) hx hb (dq_167 96 bcX8_word_2 (j := 2) (i := -92) rfl rfl rfl) (by decide) ?_
    cases hF
    exact hC (((((32 : Int64) * x6) + k0.toInt64) - (97 : Int64)) + (1 : Int64)) (x8 + (1 : Int32)) rfl ls (lv_sub hl [3, 4, 5, 6, 7, 8, 1, 0] rfl)
  ·
    replace hF := ip c_7 hF
    refine lv_lload hx hb (dq_22 48 bcX8_word_1 (j := 24) (i := 6) rfl rfl) (lv_at hl 7 rfl) ?_
    refine lv_goto (tgt := 93) hx hb (dq_167 48 bcX8_word_1 (j := 26) (i := 19) rfl rfl rfl) (by decide) ?_
    refine lv_lstore (lv' := [(6, .long x6), (9, .int k0), (0, .int p0), (1, .int p1), (2, .int p2), (3, .int p3), (4, .int p4), (5, .int p5), (8, .int x8)]) hx hb (dq_55 48 bcX8_word_1 (j := 45) (i := 6) rfl rfl) hl (by decide) rfl (fun ls hl => ?_)
    refine lv_iinc (v := x8 + (1 : Int32)) (lv' := [(8, .int (x8 + (1 : Int32))), (6, .long x6), (9, .int k0), (0, .int p0), (1, .int p1), (2, .int p2), (3, .int p3), (4, .int p4), (5, .int p5)]) hx hb (dq_132 48 bcX8_word_1 (j := 47) (i := 1) rfl rfl rfl) hl (k := 8) rfl (rfl) (by decide) rfl (fun ls hl => ?_)
    refine lv_goto (tgt := 6) hx hb (dq_167 96 bcX8_word_2 (j := 2) (i := -92) rfl rfl rfl) (by decide) ?_
    cases hF
    exact hC x6 (x8 + (1 : Int32)) rfl ls (lv_sub hl [3, 4, 5, 6, 7, 8, 1, 0] rfl)

set_option maxHeartbeats 4000000 in
set_option maxRecDepth 100000 in
theorem wb_X8_word_6 {p : Program} (l : Launch) {e : Env} {s : State} {m : MethodId} {below : List Frame} {meth : Method} {c : Code} {Q : State → Prop} (E : EE) (K : Nat) {p0 : Int32} {p1 : Int32} {p2 : Int32} {p3 : Int32} {p4 : Int32} {p5 : Int32} {x6 : Int64} {x8 : Int32} (hx : p.tables.exec = Jvm.exec) (hb : c.code = cX8_word) (hml : c.maxLocals = 10) (hown : s.vm.findClass RX8 = some m.cls) (hts : ∀ w ∈ v_f_X8_word, w.before #[Value.int p0, Value.int p1, Value.int p2, Value.int p3, Value.int p4, Value.int p5] s = true) (hK : va_K E.1 vwCl (TY E) s) (hN : NX s) {xx : (Int64 × Int32) ⊕ (Int64)} (hC : ∀ (x6 : Int64), ∀ (x8 : Int32), xx = .inl (x6, x8) → ∀ (ls : Array Slot), lv_has ls 10 [(0, .int p0), (1, .int p1), (2, .int p2), (3, .int p3), (4, .int p4), (5, .int p5), (6, .long x6), (8, .int x8)] → W p l e ({ frames := 0, cells := 0, slots := 0, locals := 0 } : Room) s m #[Value.int p0, Value.int p1, Value.int p2, Value.int p3, Value.int p4, Value.int p5] below meth c s.heap [] 0 0 Q (F0 m 6 ls [])) (hE : ∀ (x6 : Int64), xx = .inr x6 → ((∀ (ls : Array Slot), lv_has ls 10 [(6, .long x6)] → W p l e ({ frames := 0, cells := 0, slots := 0, locals := 0 } : Room) s m #[Value.int p0, Value.int p1, Value.int p2, Value.int p3, Value.int p4, Value.int p5] below meth c s.heap [] 0 0 Q (F0 m 101 ls [])))) (hF : B_X8_word_6 p0 p1 p2 p3 p4 p5 x6 x8 = some xx) (hP : va_P E.1 vwCl [] s.heap) : ∀ (ls : Array Slot), lv_has ls 10 [(0, .int p0), (1, .int p1), (2, .int p2), (3, .int p3), (4, .int p4), (5, .int p5), (6, .long x6), (8, .int x8)] → W p l e ({ frames := 0, cells := 0, slots := 0, locals := 0 } : Room) s m #[Value.int p0, Value.int p1, Value.int p2, Value.int p3, Value.int p4, Value.int p5] below meth c s.heap [] 0 0 Q (F0 m 6 ls []) := by
  unfold B_X8_word_6 at hF
  replace hP : va_P E.1 vwCl [] s.heap := hP
  intro ls hl
  refine lv_iload hx hb (dq_21 0 bcX8_word_0 (j := 6) (i := 8) rfl rfl) (lv_at hl 7 rfl) ?_
  refine lv_bipush (v := 6) hx hb (dq_16 0 bcX8_word_0 (j := 8) (i := 6) rfl rfl rfl) (by decide) ?_
  refine lv_icmp_ge (tgt := 101) hx hb (dq_162 0 bcX8_word_0 (j := 10) (i := 91) rfl rfl rfl) (by decide) (fun c_1 => ?_) (fun c_1 => ?_)
  ·
    replace hF := ip c_1 hF
    cases hF
    exact hE x6 rfl ls (lv_sub hl [6] rfl)
  ·
    replace hF := inn c_1 hF
    refine lv_iload hx hb (dq_21 0 bcX8_word_0 (j := 13) (i := 8) rfl rfl) (lv_at hl 7 rfl) ?_
    refine lv_if_ne (tgt := 22) hx hb (dq_154 0 bcX8_word_0 (j := 15) (i := 7) rfl rfl rfl) (by decide) (fun c_2 => ?_) (fun c_2 => ?_)
    ·
      replace hF := inn c_2 hF
      refine lv_iload hx hb (dq_21 0 bcX8_word_0 (j := 22) (i := 8) rfl rfl) (lv_at hl 7 rfl) ?_
      refine lv_iconst (v := 1) hx hb (dq_4 0 bcX8_word_0 (j := 24) rfl rfl) (by decide) ?_
      refine lv_icmp_ne (tgt := 32) hx hb (dq_160 0 bcX8_word_0 (j := 25) (i := 7) rfl rfl rfl) (by decide) (fun c_3 => ?_) (fun c_3 => ?_)
      ·
        replace hF := inn c_3 hF
        refine lv_iload hx hb (dq_21 0 bcX8_word_0 (j := 32) (i := 8) rfl rfl) (lv_at hl 7 rfl) ?_
        refine lv_iconst (v := 2) hx hb (dq_5 0 bcX8_word_0 (j := 34) rfl rfl) (by decide) ?_
        refine lv_icmp_ne (tgt := 42) hx hb (dq_160 0 bcX8_word_0 (j := 35) (i := 7) rfl rfl rfl) (by decide) (fun c_4 => ?_) (fun c_4 => ?_)
        ·
          replace hF := inn c_4 hF
          refine lv_iload hx hb (dq_21 0 bcX8_word_0 (j := 42) (i := 8) rfl rfl) (lv_at hl 7 rfl) ?_
          refine lv_iconst (v := 3) hx hb (dq_6 0 bcX8_word_0 (j := 44) rfl rfl) (by decide) ?_
          refine lv_icmp_ne (tgt := 52) hx hb (dq_160 0 bcX8_word_0 (j := 45) (i := 7) rfl rfl rfl) (by decide) (fun c_5 => ?_) (fun c_5 => ?_)
          ·
            replace hF := inn c_5 hF
            refine lv_iload hx hb (dq_21 48 bcX8_word_1 (j := 4) (i := 8) rfl rfl) (lv_at hl 7 rfl) ?_
            refine lv_iconst (v := 4) hx hb (dq_7 48 bcX8_word_1 (j := 6) rfl rfl) (by decide) ?_
            refine lv_icmp_ne (tgt := 63) hx hb (dq_160 48 bcX8_word_1 (j := 7) (i := 8) rfl rfl rfl) (by decide) (fun c_6 => ?_) (fun c_6 => ?_)
            ·
              replace hF := inn c_6 hF
              refine lv_iload hx hb (dq_21 48 bcX8_word_1 (j := 15) (i := 5) rfl rfl) (lv_at hl 5 rfl) ?_
              exact j_X8_word_65_r7 l E K (p0 := p0) (p1 := p1) (p2 := p2) (p3 := p3) (p4 := p4) (p5 := p5) (k0 := p5) (x6 := x6) (x8 := x8) hx hb hml hown hts hK hN hC hE hF hP ls (lv_sub hl [0, 1, 2, 3, 4, 5, 6, 7] rfl)
            ·
              replace hF := ip c_6 hF
              refine lv_iload hx hb (dq_21 48 bcX8_word_1 (j := 10) (i := 4) rfl rfl) (lv_at hl 4 rfl) ?_
              refine lv_goto (tgt := 65) hx hb (dq_167 48 bcX8_word_1 (j := 12) (i := 5) rfl rfl rfl) (by decide) ?_
              exact j_X8_word_65_r7 l E K (p0 := p0) (p1 := p1) (p2 := p2) (p3 := p3) (p4 := p4) (p5 := p5) (k0 := p4) (x6 := x6) (x8 := x8) hx hb hml hown hts hK hN hC hE hF hP ls (lv_sub hl [0, 1, 2, 3, 4, 5, 6, 7] rfl)
          ·
            replace hF := ip c_5 hF
            refine lv_iload_n hx hb (dq_29 48 bcX8_word_1 (j := 0) rfl rfl) rfl (lv_at hl 3 rfl) ?_
            refine lv_goto (tgt := 65) hx hb (dq_167 48 bcX8_word_1 (j := 1) (i := 16) rfl rfl rfl) (by decide) ?_
            exact j_X8_word_65_r7 l E K (p0 := p0) (p1 := p1) (p2 := p2) (p3 := p3) (p4 := p4) (p5 := p5) (k0 := p3) (x6 := x6) (x8 := x8) hx hb hml hown hts hK hN hC hE hF hP ls (lv_sub hl [0, 1, 2, 3, 4, 5, 6, 7] rfl)
        ·
          replace hF := ip c_4 hF
          refine lv_iload_n hx hb (dq_28 0 bcX8_word_0 (j := 38) rfl rfl) rfl (lv_at hl 2 rfl) ?_
          refine lv_goto (tgt := 65) hx hb (dq_167 0 bcX8_word_0 (j := 39) (i := 26) rfl rfl rfl) (by decide) ?_
          exact j_X8_word_65_r7 l E K (p0 := p0) (p1 := p1) (p2 := p2) (p3 := p3) (p4 := p4) (p5 := p5) (k0 := p2) (x6 := x6) (x8 := x8) hx hb hml hown hts hK hN hC hE hF hP ls (lv_sub hl [0, 1, 2, 3, 4, 5, 6, 7] rfl)
      ·
        replace hF := ip c_3 hF
        refine lv_iload_n hx hb (dq_27 0 bcX8_word_0 (j := 28) rfl rfl) rfl (lv_at hl 1 rfl) ?_
        refine lv_goto (tgt := 65) hx hb (dq_167 0 bcX8_word_0 (j := 29) (i := 36) rfl rfl rfl) (by decide) ?_
        exact j_X8_word_65_r7 l E K (p0 := p0) (p1 := p1) (p2 := p2) (p3 := p3) (p4 := p4) (p5 := p5) (k0 := p1) (x6 := x6) (x8 := x8) hx hb hml hown hts hK hN hC hE hF hP ls (lv_sub hl [0, 1, 2, 3, 4, 5, 6, 7] rfl)
    ·
      replace hF := ip c_2 hF
      refine lv_iload_n hx hb (dq_26 0 bcX8_word_0 (j := 18) rfl rfl) rfl (lv_at hl 0 rfl) ?_
      refine lv_goto (tgt := 65) hx hb (dq_167 0 bcX8_word_0 (j := 19) (i := 46) rfl rfl rfl) (by decide) ?_
      exact j_X8_word_65_r7 l E K (p0 := p0) (p1 := p1) (p2 := p2) (p3 := p3) (p4 := p4) (p5 := p5) (k0 := p0) (x6 := x6) (x8 := x8) hx hb hml hown hts hK hN hC hE hF hP ls (lv_sub hl [0, 1, 2, 3, 4, 5, 6, 7] rfl)

set_option maxHeartbeats 4000000 in
set_option maxRecDepth 100000 in
theorem lw_X8_word_6 {p : Program} (l : Launch) {e : Env} {s : State} {m : MethodId} {below : List Frame} {meth : Method} {c : Code} {Q : State → Prop} (E : EE) (K : Nat) {p0 : Int32} {p1 : Int32} {p2 : Int32} {p3 : Int32} {p4 : Int32} {p5 : Int32} (hx : p.tables.exec = Jvm.exec) (hb : c.code = cX8_word) (hml : c.maxLocals = 10) (hown : s.vm.findClass RX8 = some m.cls) (hts : ∀ w ∈ v_f_X8_word, w.before #[Value.int p0, Value.int p1, Value.int p2, Value.int p3, Value.int p4, Value.int p5] s = true) (hK : va_K E.1 vwCl (TY E) s) (hN : NX s) (hP : va_P E.1 vwCl [] s.heap) (j9 : Nat) (x6 : Int64) (x8 : Int32) (x6' : Int64) (hL : lpF (fun u9 : Int64 × Int32 => B_X8_word_6 p0 p1 p2 p3 p4 p5 u9.1 u9.2) j9 (x6, x8) = some x6') (hX : (∀ (ls : Array Slot), lv_has ls 10 [(6, .long x6')] → W p l e ({ frames := 0, cells := 0, slots := 0, locals := 0 } : Room) s m #[Value.int p0, Value.int p1, Value.int p2, Value.int p3, Value.int p4, Value.int p5] below meth c s.heap [] 0 0 Q (F0 m 101 ls []))) : ∀ (ls : Array Slot), lv_has ls 10 [(0, .int p0), (1, .int p1), (2, .int p2), (3, .int p3), (4, .int p4), (5, .int p5), (6, .long x6), (8, .int x8)] → W p l e ({ frames := 0, cells := 0, slots := 0, locals := 0 } : Room) s m #[Value.int p0, Value.int p1, Value.int p2, Value.int p3, Value.int p4, Value.int p5] below meth c s.heap [] 0 0 Q (F0 m 6 ls []) := by
  exact lp_rule (P := (fun u9 : Int64 × Int32 => ∀ (ls : Array Slot), lv_has ls 10 [(0, .int p0), (1, .int p1), (2, .int p2), (3, .int p3), (4, .int p4), (5, .int p5), (6, .long u9.1), (8, .int u9.2)] → W p l e ({ frames := 0, cells := 0, slots := 0, locals := 0 } : Room) s m #[Value.int p0, Value.int p1, Value.int p2, Value.int p3, Value.int p4, Value.int p5] below meth c s.heap [] 0 0 Q (F0 m 6 ls []))) (R := (fun r9 : Int64 => (∀ (ls : Array Slot), lv_has ls 10 [(6, .long r9)] → W p l e ({ frames := 0, cells := 0, slots := 0, locals := 0 } : Room) s m #[Value.int p0, Value.int p1, Value.int p2, Value.int p3, Value.int p4, Value.int p5] below meth c s.heap [] 0 0 Q (F0 m 101 ls [])))) (fun u9 xx hF hC hE => wb_X8_word_6 l E K (p0 := p0) (p1 := p1) (p2 := p2) (p3 := p3) (p4 := p4) (p5 := p5) (x6 := u9.1) (x8 := u9.2) hx hb hml hown hts hK hN (fun x6 x8 q9 => hC _ q9) (fun x6 q9 => hE _ q9) hF hP) j9 (x6, x8) x6' hL hX

set_option maxHeartbeats 4000000 in
set_option maxRecDepth 100000 in
theorem f_X8_word (l : Launch) (E : EE) (K : Nat) {p0 : Int32} {p1 : Int32} {p2 : Int32} {p3 : Int32} {p4 : Int32} {p5 : Int32} {rr : Int64} (hF : F_X8_word K p0 p1 p2 p3 p4 p5 = some rr) : Met l yX8_word v_f_X8_word (({ frames := 0, cells := 0, slots := 0, locals := 0 } : Room)) (va_Pc [.int p0, .int p1, .int p2, .int p3, .int p4, .int p5] (pP E [])) (vp_Sl (fun q : Int64 => q = rr)) 0 0 (fun _ => False) := by
  refine Met.ofW (cc := cX8_word) (maxL := 10) (ret := (some .long)) (by decide) rfl ?_
  intro p e s m args below meth c s₁ B hml hv
  obtain ⟨rfl, ⟨hK, hN⟩, hP⟩ := hv
  have hx := B.exec
  have hb := B.bytes
  have hr := B.returns
  have hts := atoms_spec (ws := v_f_X8_word) B.pre
  have hown : s.vm.findClass RX8 = some m.cls := own_of hd_X8_word.1 (findClass_of_methodNamed B.named)
  have hlocks : meth.locks = false := B.notSynchronized
  replace hP : va_P E.1 vwCl [] s.heap := hP
  have hl := lv_entry ([.int p0, .int p1, .int p2, .int p3, .int p4, .int p5]) (n := 10) (Nat.le_of_ble_eq_true rfl)
  rw [lg_entry_eq]
  generalize (lg_sl ([.int p0, .int p1, .int p2, .int p3, .int p4, .int p5]) ++ List.replicate (10 - (lg_sl ([.int p0, .int p1, .int p2, .int p3, .int p4, .int p5])).length) Slot.unset).toArray = ls at hl ⊢
  have hl : lv_has ls 10 [(0, .int p0), (1, .int p1), (2, .int p2), (3, .int p3), (4, .int p4), (5, .int p5)] := hl
  obtain ⟨Q, hQ⟩ : ∃ Q : State → Prop, Q = MQ below (vp_Sl (fun q : Int64 => q = rr)) #[Value.int p0, Value.int p1, Value.int p2, Value.int p3, Value.int p4, Value.int p5] s 0 0 (fun _ => False) := ⟨_, rfl⟩
  rw [← hQ]
  change W p l e ({ frames := 0, cells := 0, slots := 0, locals := 0 } : Room) s m #[Value.int p0, Value.int p1, Value.int p2, Value.int p3, Value.int p4, Value.int p5] below meth c s.heap [] 0 0 Q (F0 m 0 ls [])
  unfold F_X8_word at hF
  refine lv_lconst (v := 0) hx hb (dq_9 0 bcX8_word_0 (j := 0) rfl rfl) (by decide) ?_
  refine lv_lstore (lv' := [(6, .long (0 : Int64)), (0, .int p0), (1, .int p1), (2, .int p2), (3, .int p3), (4, .int p4), (5, .int p5)]) hx hb (dq_55 0 bcX8_word_0 (j := 1) (i := 6) rfl rfl) hl (by decide) rfl (fun ls hl => ?_)
  refine lv_iconst (v := 0) hx hb (dq_3 0 bcX8_word_0 (j := 3) rfl rfl) (by decide) ?_
  refine lv_istore (lv' := [(8, .int (0 : Int32)), (6, .long (0 : Int64)), (0, .int p0), (1, .int p1), (2, .int p2), (3, .int p3), (4, .int p4), (5, .int p5)]) hx hb (dq_54 0 bcX8_word_0 (j := 4) (i := 8) rfl rfl) hl (by decide) rfl (fun ls hl => ?_)
  replace hF := bd1_s hF
  obtain ⟨x6_8, hL_9, hF⟩ := hF
  refine lw_X8_word_6 l E K (p0 := p0) (p1 := p1) (p2 := p2) (p3 := p3) (p4 := p4) (p5 := p5) hx hb hml hown hts hK hN hP K (0 : Int64) (0 : Int32) x6_8 hL_9 ?_ ls (lv_sub hl [2, 3, 4, 5, 6, 7, 1, 0] rfl)
  ·
    intro ls hl
    refine lv_lload hx hb (dq_22 96 bcX8_word_2 (j := 5) (i := 6) rfl rfl) (lv_at hl 0 rfl) ?_
    rw [hQ]
    obtain e9_0 := inj1 hF
    exact W.lret (v := x6_8) hx hb hr (fun tt ht hW => ⟨_, rfl, e9_0, ht⟩) (fun _ h => by cases h) (dq_173 96 bcX8_word_2 (j := 7) rfl rfl)
