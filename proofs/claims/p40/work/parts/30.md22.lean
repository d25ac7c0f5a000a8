noncomputable def blX8_limit_0 : List Nat := [42, 27, 182, 1, 22, 153, 0, 19, 28, 29, 184, 1, 131, 153, 0, 11, 42, 27, 182, 1, 1, 153, 0, 5, 2, 172, 42, 182, 1, 134, 2, 54, 4, 4, 54, 5, 21, 5, 153, 0, 65, 21, 4, 17, 0, 200, 162, 0, 57, 132, 4]
set_option maxRecDepth 100000 in
theorem bcX8_limit_0 : ((cX8_limit.data.toList.drop 0).take blX8_limit_0.length).map UInt8.toNat = blX8_limit_0 := by decide +kernel
noncomputable def blX8_limit_1 : List Nat := [57, 132, 4, 1, 42, 180, 0, 22, 3, 27, 96, 92, 46, 28, 96, 79, 42, 180, 0, 22, 16, 8, 27, 96, 92, 46, 29, 96, 79, 42, 27, 182, 1, 137, 153, 0, 15, 42, 27, 182, 0, 254, 153, 0, 7, 4, 167, 0, 4, 3, 54]
set_option maxRecDepth 100000 in
theorem bcX8_limit_1 : ((cX8_limit.data.toList.drop 48).take blX8_limit_1.length).map UInt8.toNat = blX8_limit_1 := by decide +kernel
noncomputable def blX8_limit_2 : List Nat := [4, 3, 54, 5, 167, 255, 192, 42, 182, 1, 140, 21, 4, 172]
set_option maxRecDepth 100000 in
theorem bcX8_limit_2 : ((cX8_limit.data.toList.drop 96).take blX8_limit_2.length).map UInt8.toNat = blX8_limit_2 := by decide +kernel
noncomputable def blX8_log_0 : List Nat := [27, 133, 9, 42, 180, 0, 22, 16, 84, 46, 4, 100, 133, 184, 0, 60, 153, 0, 41, 28, 133, 9, 20, 1, 117, 184, 0, 60, 153, 0, 29, 42, 180, 0, 22, 16, 85, 6, 42, 180, 0, 22, 16, 84, 46, 4, 100, 27, 100, 104, 96]
set_option maxRecDepth 100000 in
theorem bcX8_log_0 : ((cX8_log.data.toList.drop 0).take blX8_log_0.length).map UInt8.toNat = blX8_log_0 := by decide +kernel
noncomputable def blX8_log_1 : List Nat := [100, 104, 96, 28, 96, 46, 167, 0, 5, 18, 182, 172]
set_option maxRecDepth 100000 in
theorem bcX8_log_1 : ((cX8_log.data.toList.drop 48).take blX8_log_1.length).map UInt8.toNat = blX8_log_1 := by decide +kernel
noncomputable def blX8_quietOnes_0 : List Nat := [3, 60, 3, 61, 28, 42, 180, 0, 196, 162, 0, 27, 27, 42, 28, 182, 0, 254, 153, 0, 9, 4, 28, 120, 167, 0, 4, 3, 128, 60, 132, 2, 1, 167, 255, 227, 27, 172]
set_option maxRecDepth 100000 in
theorem bcX8_quietOnes_0 : ((cX8_quietOnes.data.toList.drop 0).take blX8_quietOnes_0.length).map UInt8.toNat = blX8_quietOnes_0 := by decide +kernel
noncomputable def blX8_slackOnes_0 : List Nat := [3, 60, 3, 61, 28, 42, 180, 0, 196, 162, 0, 27, 27, 42, 28, 182, 1, 164, 158, 0, 9, 4, 28, 120, 167, 0, 4, 3, 128, 60, 132, 2, 1, 167, 255, 227, 27, 172]
set_option maxRecDepth 100000 in
theorem bcX8_slackOnes_0 : ((cX8_slackOnes.data.toList.drop 0).take blX8_slackOnes_0.length).map UInt8.toNat = blX8_slackOnes_0 := by decide +kernel
noncomputable def blX8_stillOnes_0 : List Nat := [3, 60, 3, 61, 28, 42, 180, 0, 196, 162, 0, 60, 27, 42, 180, 0, 22, 3, 28, 96, 46, 42, 180, 0, 22, 16, 16, 28, 96, 46, 160, 0, 30, 42, 180, 0, 22, 16, 8, 28, 96, 46, 42, 180, 0, 22, 16, 24, 28, 96, 46]
set_option maxRecDepth 100000 in
theorem bcX8_stillOnes_0 : ((cX8_stillOnes.data.toList.drop 0).take blX8_stillOnes_0.length).map UInt8.toNat = blX8_stillOnes_0 := by decide +kernel
noncomputable def blX8_stillOnes_1 : List Nat := [28, 96, 46, 160, 0, 9, 4, 28, 120, 167, 0, 4, 3, 128, 60, 132, 2, 1, 167, 255, 194, 27, 172]
set_option maxRecDepth 100000 in
theorem bcX8_stillOnes_1 : ((cX8_stillOnes.data.toList.drop 48).take blX8_stillOnes_1.length).map UInt8.toNat = blX8_stillOnes_1 := by decide +kernel

def B_X8_limit_36 (K : Nat) (p1 : Int32) (p2 : Int32) (p3 : Int32) (c_sites : Int32) (x4 : Int32) (x5 : Int32) (c_now : Nat → Int32) : Option ((Int32 × Int32 × (Nat → Int32)) ⊕ (Int32 × (Nat → Int32))) :=
  if x5 = (0 : Int32) then some (.inr (x4, c_now)) else if (200 : Int32) ≤ x4 then some (.inr (x4, c_now)) else ixF ((0 : Int32) + p1) 265 (ixF ((0 : Int32) + p1) 265 (nmF (upd c_now ((0 : Int32) + p1).toNatClampNeg ((c_now ((0 : Int32) + p1).toNatClampNeg) + p2)) (fun f_19 => ixF ((8 : Int32) + p1) 265 (ixF ((8 : Int32) + p1) 265 (nmF (upd f_19 ((8 : Int32) + p1).toNatClampNeg ((f_19 ((8 : Int32) + p1).toNatClampNeg) + p3)) (fun f_22 => bd1 (F_X8_canStand p1 f_22) (fun r_23 => if r_23 = (0 : Int32) then some (.inl (x4 + (1 : Int32), (0 : Int32), f_22)) else bd1 (F_X8_isQuiet K p1 f_22 c_sites) (fun r_27 => if r_27 = (0 : Int32) then some (.inl (x4 + (1 : Int32), (0 : Int32), f_22)) else some (.inl (x4 + (1 : Int32), (1 : Int32), f_22))))))))))
def F_X8_limit (K : Nat) (p1 : Int32) (p2 : Int32) (p3 : Int32) (c_now : Nat → Int32) (c_sites : Int32) (c_aside : Nat → Int32) : Option (Int32 × (Nat → Int32) × (Nat → Int32)) :=
  bd1 (F_X8_isSite p1 c_sites) (fun r_1 => if r_1 = (0 : Int32) then some ((-1 : Int32), c_now, c_aside) else bd1 (F_X8_isWay p2 p3) (fun r_5 => if r_5 = (0 : Int32) then some ((-1 : Int32), c_now, c_aside) else bd1 (F_X8_isFrozen p1 c_now) (fun r_9 => if r_9 = (0 : Int32) then bd1 (F_X8_putAside K c_now c_aside) (fun w_13 => bd2 (lpF (fun u9 : Int32 × Int32 × (Nat → Int32) => B_X8_limit_36 K p1 p2 p3 c_sites u9.1 u9.2.1 u9.2.2) K ((-1 : Int32), (1 : Int32), c_now)) (fun x4_31 c_now_32 => bd1 (F_X8_bringBack K c_now_32 w_13) (fun w_34 => some (x4_31, w_34, w_13)))) else some ((-1 : Int32), c_now, c_aside))))
abbrev w_X8_limit (E : EE) (a_ a_tape a_readPlace a_script a_scriptLong a_now a_refused a_shareX a_shareY a_askedRow a_kept a_aside a_spelled a_image : Nat) (c_thrown : Int32) (c_taped : Int32) (c_at : Int32) (c_part : Int32) (c_partFrom : Int32) (c_partNumber : Int32) (c_wrong : Int32) (c_partWord : Int64) (c_readLaw : Int32) (c_readBound : Int32) (c_readGoal : Int32) (c_readSites : Int32) (c_scripts : Int32) (c_sites : Int32) (c_asked : Int32) (c_outcome : Int32) (c_took : Int32) (c_acts : Int32) (c_drawn : Int64) (c_racer : Int32) (c_raced : Int32) (c_spelledMany : Int32) (c_hasImage : Int32) (c_now : Nat → Int32) (c_aside : Nat → Int32) : va_W := [k_X8 a_ c_thrown a_tape c_taped c_at c_part c_partFrom c_partNumber c_wrong c_partWord c_readLaw c_readBound c_readGoal c_readSites a_readPlace a_script a_scriptLong c_scripts a_now a_refused c_sites a_shareX a_shareY c_asked c_outcome a_askedRow c_took a_kept c_acts c_drawn a_aside c_racer c_raced a_spelled c_spelledMany a_image c_hasImage, k_I E a_now 265 c_now, k_I E a_aside 84 c_aside]
def v_f_X8_limit : List Cond := List.cons (.code yX8_limit cX8_limit 6 (some .int)) (HAppend.hAppend (α := List Cond) (β := List Cond) (γ := List Cond) [.fieldLink RX8 22 "HushWatchModel" "now" "[I", .methodLink RX8 278 yX8_isSite, .instanceMethod yX8_isSite, .selects RX8 yX8_isSite yX8_isSite, .initialized RX8, .methodLink RX8 387 yX8_isWay, .static yX8_isWay, .methodLink RX8 257 yX8_isFrozen, .instanceMethod yX8_isFrozen, .selects RX8 yX8_isFrozen yX8_isFrozen, .methodLink RX8 390 yX8_putAside, .instanceMethod yX8_putAside, .selects RX8 yX8_putAside yX8_putAside, .methodLink RX8 393 yX8_canStand, .instanceMethod yX8_canStand, .selects RX8 yX8_canStand yX8_canStand, .methodLink RX8 254 yX8_isQuiet, .instanceMethod yX8_isQuiet, .selects RX8 yX8_isQuiet yX8_isQuiet, .methodLink RX8 396 yX8_bringBack, .instanceMethod yX8_bringBack, .selects RX8 yX8_bringBack yX8_bringBack] (HAppend.hAppend (α := List Cond) (β := List Cond) (γ := List Cond) v_f_X8_isSite (HAppend.hAppend (α := List Cond) (β := List Cond) (γ := List Cond) v_f_X8_isWay (HAppend.hAppend (α := List Cond) (β := List Cond) (γ := List Cond) v_f_X8_isFrozen (HAppend.hAppend (α := List Cond) (β := List Cond) (γ := List Cond) v_f_X8_putAside (HAppend.hAppend (α := List Cond) (β := List Cond) (γ := List Cond) wsX80 (HAppend.hAppend (α := List Cond) (β := List Cond) (γ := List Cond) v_f_X8_canStand (HAppend.hAppend (α := List Cond) (β := List Cond) (γ := List Cond) v_f_X8_isQuiet (HAppend.hAppend (α := List Cond) (β := List Cond) (γ := List Cond) v_f_X8_bringBack [])))))))))
theorem gw_f_X8_limit : v_f_X8_limit.all goodWord = true := gw_c2 (by decide +kernel) (gw_ap gw_f_X8_isSite (gw_ap gw_f_X8_isWay (gw_ap gw_f_X8_isFrozen (gw_ap gw_f_X8_putAside (gw_ap gw_wsX80 (gw_ap gw_f_X8_canStand (gw_ap gw_f_X8_isQuiet (gw_ap gw_f_X8_bringBack gw_nil))))))))
theorem i_f_X8_limit_X8 : ∀ w ∈ wsX80, w ∈ v_f_X8_limit := fun _ h => List.mem_cons_of_mem _ (List.mem_append_right _ (List.mem_append_right _ (List.mem_append_right _ (List.mem_append_right _ (List.mem_append_right _ (List.mem_append_left _ h))))))
theorem g_f_X8_limit_f_X8_isSite_278 : GoodIn v_f_X8_limit (wsV RX8 278 RX8 yX8_isSite v_f_X8_isSite) := goodIn_in gw_f_X8_limit (in4 2 3 4 5 rfl rfl rfl rfl (fun _ h => List.mem_cons_of_mem _ (List.mem_append_right _ (List.mem_append_left _ h))))
theorem g_f_X8_limit_f_X8_isWay_387 : GoodIn v_f_X8_limit (va_wsS RX8 387 yX8_isWay v_f_X8_isWay) := goodIn_in gw_f_X8_limit (in3 6 7 5 rfl rfl rfl (fun _ h => List.mem_cons_of_mem _ (List.mem_append_right _ (List.mem_append_right _ (List.mem_append_left _ h)))))
theorem g_f_X8_limit_f_X8_isFrozen_257 : GoodIn v_f_X8_limit (wsV RX8 257 RX8 yX8_isFrozen v_f_X8_isFrozen) := goodIn_in gw_f_X8_limit (in4 8 9 10 5 rfl rfl rfl rfl (fun _ h => List.mem_cons_of_mem _ (List.mem_append_right _ (List.mem_append_right _ (List.mem_append_right _ (List.mem_append_left _ h))))))
theorem g_f_X8_limit_f_X8_putAside_390 : GoodIn v_f_X8_limit (wsV RX8 390 RX8 yX8_putAside v_f_X8_putAside) := goodIn_in gw_f_X8_limit (in4 11 12 13 5 rfl rfl rfl rfl (fun _ h => List.mem_cons_of_mem _ (List.mem_append_right _ (List.mem_append_right _ (List.mem_append_right _ (List.mem_append_right _ (List.mem_append_left _ h)))))))
theorem g_f_X8_limit_f_X8_canStand_393 : GoodIn v_f_X8_limit (wsV RX8 393 RX8 yX8_canStand v_f_X8_canStand) := goodIn_in gw_f_X8_limit (in4 14 15 16 5 rfl rfl rfl rfl (fun _ h => List.mem_cons_of_mem _ (List.mem_append_right _ (List.mem_append_right _ (List.mem_append_right _ (List.mem_append_right _ (List.mem_append_right _ (List.mem_append_right _ (List.mem_append_left _ h)))))))))
theorem g_f_X8_limit_f_X8_isQuiet_254 : GoodIn v_f_X8_limit (wsV RX8 254 RX8 yX8_isQuiet v_f_X8_isQuiet) := goodIn_in gw_f_X8_limit (in4 17 18 19 5 rfl rfl rfl rfl (fun _ h => List.mem_cons_of_mem _ (List.mem_append_right _ (List.mem_append_right _ (List.mem_append_right _ (List.mem_append_right _ (List.mem_append_right _ (List.mem_append_right _ (List.mem_append_right _ (List.mem_append_left _ h))))))))))
theorem g_f_X8_limit_f_X8_bringBack_396 : GoodIn v_f_X8_limit (wsV RX8 396 RX8 yX8_bringBack v_f_X8_bringBack) := goodIn_in gw_f_X8_limit (in4 20 21 22 5 rfl rfl rfl rfl (fun _ h => List.mem_cons_of_mem _ (List.mem_append_right _ (List.mem_append_right _ (List.mem_append_right _ (List.mem_append_right _ (List.mem_append_right _ (List.mem_append_right _ (List.mem_append_right _ (List.mem_append_right _ (List.mem_append_left _ h)))))))))))
theorem hd_X8_limit : yX8_limit.cls = RX8 ∧ yX8_limit.cls ≠ "java/lang/invoke/MethodHandle" ∧ yX8_limit.cls ≠ "java/lang/invoke/VarHandle" ∧ (parseMethodDescriptor yX8_limit.desc).map (fun d => d.parameters.length) = some 3 := by decide +kernel
set_option maxHeartbeats 4000000 in
set_option maxRecDepth 100000 in
theorem wb_X8_limit_36 {p : Program} (l : Launch) {e : Env} {s : State} {m : MethodId} {below : List Frame} {meth : Method} {c : Code} {Q : State → Prop} (E : EE) (K : Nat) {a_ a_tape a_readPlace a_script a_scriptLong a_now a_refused a_shareX a_shareY a_askedRow a_kept a_aside a_spelled a_image : Nat} {p1 : Int32} {p2 : Int32} {p3 : Int32} {c_thrown : Int32} {c_taped : Int32} {c_at : Int32} {c_part : Int32} {c_partFrom : Int32} {c_partNumber : Int32} {c_wrong : Int32} {c_partWord : Int64} {c_readLaw : Int32} {c_readBound : Int32} {c_readGoal : Int32} {c_readSites : Int32} {c_scripts : Int32} {c_sites : Int32} {c_asked : Int32} {c_outcome : Int32} {c_took : Int32} {c_acts : Int32} {c_drawn : Int64} {c_racer : Int32} {c_raced : Int32} {c_spelledMany : Int32} {c_hasImage : Int32} {x4 : Int32} {x5 : Int32} {c_now : Nat → Int32} {c_aside : Nat → Int32} (hx : p.tables.exec = Jvm.exec) (hb : c.code = cX8_limit) (hml : c.maxLocals = 6) (hown : s.vm.findClass RX8 = some m.cls) (hts : ∀ w ∈ v_f_X8_limit, w.before #[Value.ref a_, Value.int p1, Value.int p2, Value.int p3] s = true) (hK : va_K E.1 vwCl (TY E) s) (hN : NX s) {A : Nat → Prop} (hA : ∀ q : Nat, s.heap.size ≤ q → A q) {xx : (Int32 × Int32 × (Nat → Int32)) ⊕ (Int32 × (Nat → Int32))} (hC : ∀ (x4 : Int32), ∀ (x5 : Int32), ∀ (c_now : Nat → Int32), xx = .inl (x4, x5, c_now) → ∀ (H : Heap) (locs : List Loc) (ls : Array Slot), va_P E.1 vwCl (w_X8_limit E a_ a_tape a_readPlace a_script a_scriptLong a_now a_refused a_shareX a_shareY a_askedRow a_kept a_aside a_spelled a_image c_thrown c_taped c_at c_part c_partFrom c_partNumber c_wrong c_partWord c_readLaw c_readBound c_readGoal c_readSites c_scripts c_sites c_asked c_outcome c_took c_acts c_drawn c_racer c_raced c_spelledMany c_hasImage c_now c_aside) H → va_D A (w_X8_limit E a_ a_tape a_readPlace a_script a_scriptLong a_now a_refused a_shareX a_shareY a_askedRow a_kept a_aside a_spelled a_image c_thrown c_taped c_at c_part c_partFrom c_partNumber c_wrong c_partWord c_readLaw c_readBound c_readGoal c_readSites c_scripts c_sites c_asked c_outcome c_took c_acts c_drawn c_racer c_raced c_spelledMany c_hasImage c_now c_aside) → va_S A s.heap H locs → lv_has ls 6 [(0, .ref a_), (1, .int p1), (2, .int p2), (3, .int p3), (4, .int x4), (5, .int x5)] → W p l e ({ frames := 4, cells := 0, slots := 0, locals := 93 } : Room) s m #[Value.ref a_, Value.int p1, Value.int p2, Value.int p3] below meth c H locs 0 0 Q (F0 m 36 ls [])) (hE : ∀ (x4 : Int32), ∀ (c_now : Nat → Int32), xx = .inr (x4, c_now) → ((∀ (H : Heap) (locs : List Loc) (ls : Array Slot), va_P E.1 vwCl (w_X8_limit E a_ a_tape a_readPlace a_script a_scriptLong a_now a_refused a_shareX a_shareY a_askedRow a_kept a_aside a_spelled a_image c_thrown c_taped c_at c_part c_partFrom c_partNumber c_wrong c_partWord c_readLaw c_readBound c_readGoal c_readSites c_scripts c_sites c_asked c_outcome c_took c_acts c_drawn c_racer c_raced c_spelledMany c_hasImage c_now c_aside) H → va_D A (w_X8_limit E a_ a_tape a_readPlace a_script a_scriptLong a_now a_refused a_shareX a_shareY a_askedRow a_kept a_aside a_spelled a_image c_thrown c_taped c_at c_part c_partFrom c_partNumber c_wrong c_partWord c_readLaw c_readBound c_readGoal c_readSites c_scripts c_sites c_asked c_outcome c_took c_acts c_drawn c_racer c_raced c_spelledMany c_hasImage c_now c_aside) → va_S A s.heap H locs → lv_has ls 6 [(0, .ref a_), (4, .int x4)] → W p l e ({ frames := 4, cells := 0, slots := 0, locals := 93 } : Room) s m #[Value.ref a_, Value.int p1, Value.int p2, Value.int p3] below meth c H locs 0 0 Q (F0 m 103 ls [])))) (hF : B_X8_limit_36 K p1 p2 p3 c_sites x4 x5 c_now = some xx) : ∀ (H : Heap) (locs : List Loc) (ls : Array Slot), va_P E.1 vwCl (w_X8_limit E a_ a_tape a_readPlace a_script a_scriptLong a_now a_refused a_shareX a_shareY a_askedRow a_kept a_aside a_spelled a_image c_thrown c_taped c_at c_part c_partFrom c_partNumber c_wrong c_partWord c_readLaw c_readBound c_readGoal c_readSites c_scripts c_sites c_asked c_outcome c_took c_acts c_drawn c_racer c_raced c_spelledMany c_hasImage c_now c_aside) H → va_D A (w_X8_limit E a_ a_tape a_readPlace a_script a_scriptLong a_now a_refused a_shareX a_shareY a_askedRow a_kept a_aside a_spelled a_image c_thrown c_taped c_at c_part c_partFrom c_partNumber c_wrong c_partWord c_readLaw c_readBound c_readGoal c_readSites c_scripts c_sites c_asked c_outcome c_took c_acts c_drawn c_racer c_raced c_spelledMany c_hasImage c_now c_aside) → va_S A s.heap H locs → lv_has ls 6 [(0, .ref a_), (1, .int p1), (2, .int p2), (3, .int p3), (4, .int x4), (5, .int x5)] → W p l e ({ frames := 4, cells := 0, slots := 0, locals := 93 } : Room) s m #[Value.ref a_, Value.int p1, Value.int p2, Value.int p3] below meth c H locs 0 0 Q (F0 m 36 ls []) := by
  unfold B_X8_limit_36 at hF
  intro H locs ls hP hD hS hl
  have h9 := fixPD (ws' := [k_X8 a_ c_thrown a_tape c_taped c_at c_part c_partFrom c_partNumber c_wrong c_partWord c_readLaw c_readBound c_readGoal c_readSites a_readPlace a_script a_scriptLong c_scripts a_now a_refused c_sites a_shareX a_shareY c_asked c_outcome a_askedRow c_took a_kept c_acts c_drawn a_aside c_racer c_raced a_spelled c_spelledMany a_image c_hasImage, k_I E a_now 265 c_now, k_I E a_aside 84 c_aside]) hP hD rfl
  clear hP hD
  obtain ⟨hP, hD⟩ := h9
  refine lv_iload hx hb (dq_21 0 bcX8_limit_0 (j := 36) (i := 5) rfl rfl) (lv_at hl 5 rfl) ?_
  refine lv_if_eq (tgt := 103) hx hb (dq_153 0 bcX8_limit_0 (j := 38) (i := 65) rfl rfl rfl) (by decide) (fun c_15 => ?_) (fun c_15 => ?_)
  ·
    replace hF := ip c_15 hF
    cases hF
    exact hE x4 c_now rfl H locs ls (hP.sub [0, 1, 2] rfl) (hD.sub [0, 1, 2] (by decide) rfl) hS (lv_sub hl [0, 4] rfl)
  ·
    replace hF := inn c_15 hF
    refine lv_iload hx hb (dq_21 0 bcX8_limit_0 (j := 41) (i := 4) rfl rfl) (lv_at hl 4 rfl) ?_
    refine lv_sipush (v := 200) hx hb (dq_17 0 bcX8_limit_0 (j := 43) (i := 200) rfl rfl rfl) (by decide) ?_
    refine lv_icmp_ge (tgt := 103) hx hb (dq_162 0 bcX8_limit_0 (j := 46) (i := 57) rfl rfl rfl) (by decide) (fun c_16 => ?_) (fun c_16 => ?_)
    ·
      replace hF := ip c_16 hF
      cases hF
      exact hE x4 c_now rfl H locs ls (hP.sub [0, 1, 2] rfl) (hD.sub [0, 1, 2] (by decide) rfl) hS (lv_sub hl [0, 4] rfl)
    ·
      replace hF := inn c_16 hF
      refine lv_iinc (v := x4 + (1 : Int32)) (lv' := [(4, .int (x4 + (1 : Int32))), (0, .ref a_), (1, .int p1), (2, .int p2), (3, .int p3), (5, .int x5)]) hx hb (dq_132 48 bcX8_limit_1 (j := 1) (i := 1) rfl rfl rfl) hl (k := 4) rfl (rfl) (by decide) rfl (fun ls hl => ?_)
      refine lv_aload_n hx hb (dq_42 48 bcX8_limit_1 (j := 4) rfl rfl) rfl (lv_at hl 1 rfl) ?_
      refine gt_X8_17 (v := .ref a_now) hx hb hts i_f_X8_limit_X8 hown hK hP 0 rfl (hts (.fieldLink RX8 22 "HushWatchModel" "now" "[I") (List.mem_of_getElem? (i := 1) rfl)) rfl (dq_180 48 bcX8_limit_1 (j := 5) (i := 22) rfl rfl rfl) ?_
      refine lv_iconst (v := 0) hx hb (dq_3 48 bcX8_limit_1 (j := 8) rfl rfl) (by decide) ?_
      refine lv_iload_n hx hb (dq_27 48 bcX8_limit_1 (j := 9) rfl rfl) rfl (lv_at hl 2 rfl) ?_
      refine lv_iadd hx hb (dq_96 48 bcX8_limit_1 (j := 10) rfl rfl) ?_
      refine lv_dup2_11 hx hb (dq_92 48 bcX8_limit_1 (j := 11) rfl rfl) rfl rfl ?_
      replace hF := ix_s hF
      obtain ⟨hi_17, hF⟩ := hF
      refine va_iald hx hb hK hP 1 0 rfl rfl hi_17 (dq_46 48 bcX8_limit_1 (j := 12) rfl rfl) ?_
      refine lv_iload_n hx hb (dq_28 48 bcX8_limit_1 (j := 13) rfl rfl) rfl (lv_at hl 3 rfl) ?_
      refine lv_iadd hx hb (dq_96 48 bcX8_limit_1 (j := 14) rfl rfl) ?_
      replace hF := ix_s hF
      obtain ⟨hi_18, hF⟩ := hF
      refine va_iast hx hb hK hP hD hS 1 0 rfl rfl hi_18 (dq_79 48 bcX8_limit_1 (j := 15) rfl rfl) (fun H locs hP hD hS => ?_)
      have h9 := fixPD (ws' := [k_X8 a_ c_thrown a_tape c_taped c_at c_part c_partFrom c_partNumber c_wrong c_partWord c_readLaw c_readBound c_readGoal c_readSites a_readPlace a_script a_scriptLong c_scripts a_now a_refused c_sites a_shareX a_shareY c_asked c_outcome a_askedRow c_took a_kept c_acts c_drawn a_aside c_racer c_raced a_spelled c_spelledMany a_image c_hasImage, k_I E a_now 265 (upd c_now ((0 : Int32) + p1).toNatClampNeg ((c_now ((0 : Int32) + p1).toNatClampNeg) + p2)), k_I E a_aside 84 c_aside]) hP hD rfl
      clear hP hD
      obtain ⟨hP, hD⟩ := h9
      replace hF := nm_s hF
      obtain ⟨f_19, hf_19, hF⟩ := hF
      rw [← hf_19] at hP hD
      refine lv_aload_n hx hb (dq_42 48 bcX8_limit_1 (j := 16) rfl rfl) rfl (lv_at hl 1 rfl) ?_
      refine gt_X8_17 (v := .ref a_now) hx hb hts i_f_X8_limit_X8 hown hK hP 0 rfl (hts (.fieldLink RX8 22 "HushWatchModel" "now" "[I") (List.mem_of_getElem? (i := 1) rfl)) rfl (dq_180 48 bcX8_limit_1 (j := 17) (i := 22) rfl rfl rfl) ?_
      refine lv_bipush (v := 8) hx hb (dq_16 48 bcX8_limit_1 (j := 20) (i := 8) rfl rfl rfl) (by decide) ?_
      refine lv_iload_n hx hb (dq_27 48 bcX8_limit_1 (j := 22) rfl rfl) rfl (lv_at hl 2 rfl) ?_
      refine lv_iadd hx hb (dq_96 48 bcX8_limit_1 (j := 23) rfl rfl) ?_
      refine lv_dup2_11 hx hb (dq_92 48 bcX8_limit_1 (j := 24) rfl rfl) rfl rfl ?_
      replace hF := ix_s hF
      obtain ⟨hi_20, hF⟩ := hF
      refine va_iald hx hb hK hP 1 0 rfl rfl hi_20 (dq_46 48 bcX8_limit_1 (j := 25) rfl rfl) ?_
      refine lv_iload_n hx hb (dq_29 48 bcX8_limit_1 (j := 26) rfl rfl) rfl (lv_at hl 4 rfl) ?_
      refine lv_iadd hx hb (dq_96 48 bcX8_limit_1 (j := 27) rfl rfl) ?_
      replace hF := ix_s hF
      obtain ⟨hi_21, hF⟩ := hF
      refine va_iast hx hb hK hP hD hS 1 0 rfl rfl hi_21 (dq_79 48 bcX8_limit_1 (j := 28) rfl rfl) (fun H locs hP hD hS => ?_)
      have h9 := fixPD (ws' := [k_X8 a_ c_thrown a_tape c_taped c_at c_part c_partFrom c_partNumber c_wrong c_partWord c_readLaw c_readBound c_readGoal c_readSites a_readPlace a_script a_scriptLong c_scripts a_now a_refused c_sites a_shareX a_shareY c_asked c_outcome a_askedRow c_took a_kept c_acts c_drawn a_aside c_racer c_raced a_spelled c_spelledMany a_image c_hasImage, k_I E a_now 265 (upd f_19 ((8 : Int32) + p1).toNatClampNeg ((f_19 ((8 : Int32) + p1).toNatClampNeg) + p3)), k_I E a_aside 84 c_aside]) hP hD rfl
      clear hP hD
      obtain ⟨hP, hD⟩ := h9
      replace hF := nm_s hF
      obtain ⟨f_22, hf_22, hF⟩ := hF
      rw [← hf_22] at hP hD
      refine lv_aload_n hx hb (dq_42 48 bcX8_limit_1 (j := 29) rfl rfl) rfl (lv_at hl 1 rfl) ?_
      refine lv_iload_n hx hb (dq_27 48 bcX8_limit_1 (j := 30) rfl rfl) rfl (lv_at hl 2 rfl) ?_
      replace hF := bd1_s hF
      obtain ⟨r_23, hc_24, hF⟩ := hF
      have hPc : va_P E.1 vwCl (w_X8_canStand E a_ a_tape a_readPlace a_script a_scriptLong a_now a_refused a_shareX a_shareY a_askedRow a_kept a_aside a_spelled a_image c_thrown c_taped c_at c_part c_partFrom c_partNumber c_wrong c_partWord c_readLaw c_readBound c_readGoal c_readSites c_scripts c_sites c_asked c_outcome c_took c_acts c_drawn c_racer c_raced c_spelledMany c_hasImage f_22) H := hP.sub (ws' := [k_X8 a_ c_thrown a_tape c_taped c_at c_part c_partFrom c_partNumber c_wrong c_partWord c_readLaw c_readBound c_readGoal c_readSites a_readPlace a_script a_scriptLong c_scripts a_now a_refused c_sites a_shareX a_shareY c_asked c_outcome a_askedRow c_took a_kept c_acts c_drawn a_aside c_racer c_raced a_spelled c_spelledMany a_image c_hasImage, k_I E a_now 265 f_22]) [0, 1] rfl
      have hrc := va_recv hK hPc (ci := 9) (q0 := 0) rfl rfl
      refine pE_z (va_runV (As := [.int p1]) (rest := [])  ⟨hx, hb, hml, hown, hts⟩ (f_X8_canStand l E (a_ := a_) (a_tape := a_tape) (a_readPlace := a_readPlace) (a_script := a_script) (a_scriptLong := a_scriptLong) (a_now := a_now) (a_refused := a_refused) (a_shareX := a_shareX) (a_shareY := a_shareY) (a_askedRow := a_askedRow) (a_kept := a_kept) (a_aside := a_aside) (a_spelled := a_spelled) (a_image := a_image) (p1 := p1) (c_thrown := c_thrown) (c_taped := c_taped) (c_at := c_at) (c_part := c_part) (c_partFrom := c_partFrom) (c_partNumber := c_partNumber) (c_wrong := c_wrong) (c_partWord := c_partWord) (c_readLaw := c_readLaw) (c_readBound := c_readBound) (c_readGoal := c_readGoal) (c_readSites := c_readSites) (c_scripts := c_scripts) (c_sites := c_sites) (c_asked := c_asked) (c_outcome := c_outcome) (c_took := c_took) (c_acts := c_acts) (c_drawn := c_drawn) (c_racer := c_racer) (c_raced := c_raced) (c_spelledMany := c_spelledMany) (c_hasImage := c_hasImage) (c_now := f_22) hc_24) (cwV 1 hts g_f_X8_limit_f_X8_canStand_393 rfl rfl rfl hd_X8_canStand ⟨Nat.le_of_ble_eq_true rfl, Nat.le_of_ble_eq_true rfl⟩) ⟨pP.blind, hrc, (pP.pre ⟨hK, hN⟩ hPc)⟩ rfl rfl hl.1 rfl (lv_room (Nat.le_of_ble_eq_true rfl)) (dq_182 48 bcX8_limit_1 (j := 31) (i := 393) rfl rfl rfl) ⟨Nat.le_of_ble_eq_true rfl, Nat.le_of_ble_eq_true rfl⟩) (fun hb_25 => ?_)
      refine lv_if_eq (tgt := 97) hx hb (dq_153 48 bcX8_limit_1 (j := 34) (i := 15) rfl rfl rfl) (by decide) (fun c_26 => ?_) (fun c_26 => ?_)
      ·
        replace hF := ip c_26 hF
        refine lv_iconst (v := 0) hx hb (dq_3 96 bcX8_limit_2 (j := 1) rfl rfl) (by decide) ?_
        refine lv_istore (lv' := [(5, .int (0 : Int32)), (4, .int (x4 + (1 : Int32))), (0, .ref a_), (1, .int p1), (2, .int p2), (3, .int p3)]) hx hb (dq_54 96 bcX8_limit_2 (j := 2) (i := 5) rfl rfl) hl (by decide) rfl (fun ls hl => ?_)
        refine lv_goto (tgt := 36) hx hb (dq_167 96 bcX8_limit_2 (j := 4) (i := -64) rfl rfl rfl) (by decide) ?_
        cases hF
        exact hC (x4 + (1 : Int32)) (0 : Int32) f_22 rfl H locs ls (hP.sub [0, 1, 2] rfl) (hD.sub [0, 1, 2] (by decide) rfl) hS (lv_sub hl [2, 3, 4, 5, 1, 0] rfl)
      ·
        replace hF := inn c_26 hF
        refine lv_aload_n hx hb (dq_42 48 bcX8_limit_1 (j := 37) rfl rfl) rfl (lv_at hl 1 rfl) ?_
        refine lv_iload_n hx hb (dq_27 48 bcX8_limit_1 (j := 38) rfl rfl) rfl (lv_at hl 2 rfl) ?_
        replace hF := bd1_s hF
        obtain ⟨r_27, hc_28, hF⟩ := hF
        have hPc : va_P E.1 vwCl (w_X8_isQuiet E a_ a_tape a_readPlace a_script a_scriptLong a_now a_refused a_shareX a_shareY a_askedRow a_kept a_aside a_spelled a_image c_thrown c_taped c_at c_part c_partFrom c_partNumber c_wrong c_partWord c_readLaw c_readBound c_readGoal c_readSites c_scripts c_sites c_asked c_outcome c_took c_acts c_drawn c_racer c_raced c_spelledMany c_hasImage f_22) H := hP.sub (ws' := [k_X8 a_ c_thrown a_tape c_taped c_at c_part c_partFrom c_partNumber c_wrong c_partWord c_readLaw c_readBound c_readGoal c_readSites a_readPlace a_script a_scriptLong c_scripts a_now a_refused c_sites a_shareX a_shareY c_asked c_outcome a_askedRow c_took a_kept c_acts c_drawn a_aside c_racer c_raced a_spelled c_spelledMany a_image c_hasImage, k_I E a_now 265 f_22]) [0, 1] rfl
        have hrc := va_recv hK hPc (ci := 9) (q0 := 0) rfl rfl
        refine pE_z (va_runV (As := [.int p1]) (rest := [])  ⟨hx, hb, hml, hown, hts⟩ (f_X8_isQuiet l E K (a_ := a_) (a_tape := a_tape) (a_readPlace := a_readPlace) (a_script := a_script) (a_scriptLong := a_scriptLong) (a_now := a_now) (a_refused := a_refused) (a_shareX := a_shareX) (a_shareY := a_shareY) (a_askedRow := a_askedRow) (a_kept := a_kept) (a_aside := a_aside) (a_spelled := a_spelled) (a_image := a_image) (p1 := p1) (c_thrown := c_thrown) (c_taped := c_taped) (c_at := c_at) (c_part := c_part) (c_partFrom := c_partFrom) (c_partNumber := c_partNumber) (c_wrong := c_wrong) (c_partWord := c_partWord) (c_readLaw := c_readLaw) (c_readBound := c_readBound) (c_readGoal := c_readGoal) (c_readSites := c_readSites) (c_scripts := c_scripts) (c_sites := c_sites) (c_asked := c_asked) (c_outcome := c_outcome) (c_took := c_took) (c_acts := c_acts) (c_drawn := c_drawn) (c_racer := c_racer) (c_raced := c_raced) (c_spelledMany := c_spelledMany) (c_hasImage := c_hasImage) (c_now := f_22) hc_28) (cwV 1 hts g_f_X8_limit_f_X8_isQuiet_254 rfl rfl rfl hd_X8_isQuiet ⟨Nat.le_of_ble_eq_true rfl, Nat.le_of_ble_eq_true rfl⟩) ⟨pP.blind, hrc, (pP.pre ⟨hK, hN⟩ hPc)⟩ rfl rfl hl.1 rfl (lv_room (Nat.le_of_ble_eq_true rfl)) (dq_182 48 bcX8_limit_1 (j := 39) (i := 254) rfl rfl rfl) ⟨Nat.le_of_ble_eq_true rfl, Nat.le_of_ble_eq_true rfl⟩) (fun hb_29 => ?_)
        refine lv_if_eq (tgt := 97) hx hb (dq_153 48 bcX8_limit_1 (j := 42) (i := 7) rfl rfl rfl) (by decide) (fun c_30 => ?_) (fun c_30 => ?_)
        ·
          replace hF := ip c_30 hF
          refine lv_iconst (v := 0) hx hb (dq_3 96 bcX8_limit_2 (j := 1) rfl rfl) (by decide) ?_
          refine lv_istore (lv' := [(5, .int (0 : Int32)), (4, .int (x4 + (1 : Int32))), (0, .ref a_), (1, .int p1), (2, .int p2), (3, .int p3)]) hx hb (dq_54 96 bcX8_limit_2 (j := 2) (i := 5) rfl rfl) hl (by decide) rfl (fun ls hl => ?_)
          refine lv_goto (tgt := 36) hx hb (dq_167 96 bcX8_limit_2 (j := 4) (i := -64) rfl rfl rfl) (by decide) ?_
          cases hF
          exact hC (x4 + (1 : Int32)) (0 : Int32) f_22 rfl H locs ls (hP.sub [0, 1, 2] rfl) (hD.sub [0, 1, 2] (by decide) rfl) hS (lv_sub hl [2, 3, 4, 5, 1, 0] rfl)
        ·
          replace hF := inn c_30 hF
          refine lv_iconst (v := 1) hx hb (dq_4 48 bcX8_limit_1 (j := 45) rfl rfl) (by decide) ?_
          refine lv_goto (tgt := 98) hx hb (dq_167 48 bcX8_limit_1 (j := 46) (i := 4) rfl rfl rfl) (by decide) ?_
          refine lv_istore (lv' := [(5, .int (1 : Int32)), (4, .int (x4 + (1 : Int32))), (0, .ref a_), (1, .int p1), (2, .int p2), (3, .int p3)]) hx hb (dq_54 96 bcX8_limit_2 (j := 2) (i := 5) rfl rfl) hl (by decide) rfl (fun ls hl => ?_)
          refine lv_goto (tgt := 36) hx hb (dq_167 96 bcX8_limit_2 (j := 4) (i := -64) rfl rfl rfl) (by decide) ?_
          cases hF
          exact hC (x4 + (1 : Int32)) (1 : Int32) f_22 rfl H locs ls (hP.sub [0, 1, 2] rfl) (hD.sub [0, 1, 2] (by decide) rfl) hS (lv_sub hl [2, 3, 4, 5, 1, 0] rfl)

set_option maxHeartbeats 4000000 in
set_option maxRecDepth 100000 in
theorem lw_X8_limit_36 {p : Program} (l : Launch) {e : Env} {s : State} {m : MethodId} {below : List Frame} {meth : Method} {c : Code} {Q : State → Prop} (E : EE) (K : Nat) {a_ a_tape a_readPlace a_script a_scriptLong a_now a_refused a_shareX a_shareY a_askedRow a_kept a_aside a_spelled a_image : Nat} {p1 : Int32} {p2 : Int32} {p3 : Int32} {c_thrown : Int32} {c_taped : Int32} {c_at : Int32} {c_part : Int32} {c_partFrom : Int32} {c_partNumber : Int32} {c_wrong : Int32} {c_partWord : Int64} {c_readLaw : Int32} {c_readBound : Int32} {c_readGoal : Int32} {c_readSites : Int32} {c_scripts : Int32} {c_sites : Int32} {c_asked : Int32} {c_outcome : Int32} {c_took : Int32} {c_acts : Int32} {c_drawn : Int64} {c_racer : Int32} {c_raced : Int32} {c_spelledMany : Int32} {c_hasImage : Int32} {c_aside : Nat → Int32} (hx : p.tables.exec = Jvm.exec) (hb : c.code = cX8_limit) (hml : c.maxLocals = 6) (hown : s.vm.findClass RX8 = some m.cls) (hts : ∀ w ∈ v_f_X8_limit, w.before #[Value.ref a_, Value.int p1, Value.int p2, Value.int p3] s = true) (hK : va_K E.1 vwCl (TY E) s) (hN : NX s) {A : Nat → Prop} (hA : ∀ q : Nat, s.heap.size ≤ q → A q) (j9 : Nat) (x4 : Int32) (x5 : Int32) (c_now : Nat → Int32) (x4' : Int32) (c_now' : Nat → Int32) (hL : lpF (fun u9 : Int32 × Int32 × (Nat → Int32) => B_X8_limit_36 K p1 p2 p3 c_sites u9.1 u9.2.1 u9.2.2) j9 (x4, x5, c_now) = some (x4', c_now')) (hX : (∀ (H : Heap) (locs : List Loc) (ls : Array Slot), va_P E.1 vwCl (w_X8_limit E a_ a_tape a_readPlace a_script a_scriptLong a_now a_refused a_shareX a_shareY a_askedRow a_kept a_aside a_spelled a_image c_thrown c_taped c_at c_part c_partFrom c_partNumber c_wrong c_partWord c_readLaw c_readBound c_readGoal c_readSites c_scripts c_sites c_asked c_outcome c_took c_acts c_drawn c_racer c_raced c_spelledMany c_hasImage c_now' c_aside) H → va_D A (w_X8_limit E a_ a_tape a_readPlace a_script a_scriptLong a_now a_refused a_shareX a_shareY a_askedRow a_kept a_aside a_spelled a_image c_thrown c_taped c_at c_part c_partFrom c_partNumber c_wrong c_partWord c_readLaw c_readBound c_readGoal c_readSites c_scripts c_sites c_asked c_outcome c_took c_acts c_drawn c_racer c_raced c_spelledMany c_hasImage c_now' c_aside) → va_S A s.heap H locs → lv_has ls 6 [(0, .ref a_), (4, .int x4')] → W p l e ({ frames := 4, cells := 0, slots := 0, locals := 93 } : Room) s m #[Value.ref a_, Value.int p1, Value.int p2, Value.int p3] below meth c H locs 0 0 Q (F0 m 103 ls []))) : ∀ (H : Heap) (locs : List Loc) (ls : Array Slot), va_P E.1 vwCl (w_X8_limit E a_ a_tape a_readPlace a_script a_scriptLong a_now a_refused a_shareX a_shareY a_askedRow a_kept a_aside a_spelled a_image c_thrown c_taped c_at c_part c_partFrom c_partNumber c_wrong c_partWord c_readLaw c_readBound c_readGoal c_readSites c_scripts c_sites c_asked c_outcome c_took c_acts c_drawn c_racer c_raced c_spelledMany c_hasImage c_now c_aside) H → va_D A (w_X8_limit E a_ a_tape a_readPlace a_script a_scriptLong a_now a_refused a_shareX a_shareY a_askedRow a_kept a_aside a_spelled a_image c_thrown c_taped c_at c_part c_partFrom c_partNumber c_wrong c_partWord c_readLaw c_readBound c_readGoal c_readSites c_scripts c_sites c_asked c_outcome c_took c_acts c_drawn c_racer c_raced c_spelledMany c_hasImage c_now c_aside) → va_S A s.heap H locs → lv_has ls 6 [(0, .ref a_), (1, .int p1), (2, .int p2), (3, .int p3), (4, .int x4), (5, .int x5)] → W p l e ({ frames := 4, cells := 0, slots := 0, locals := 93 } : Room) s m #[Value.ref a_, Value.int p1, Value.int p2, Value.int p3] below meth c H locs 0 0 Q (F0 m 36 ls []) := by
  exact lp_rule (P := (fun u9 : Int32 × Int32 × (Nat → Int32) => ∀ (H : Heap) (locs : List Loc) (ls : Array Slot), va_P E.1 vwCl (w_X8_limit E a_ a_tape a_readPlace a_script a_scriptLong a_now a_refused a_shareX a_shareY a_askedRow a_kept a_aside a_spelled a_image c_thrown c_taped c_at c_part c_partFrom c_partNumber c_wrong c_partWord c_readLaw c_readBound c_readGoal c_readSites c_scripts c_sites c_asked c_outcome c_took c_acts c_drawn c_racer c_raced c_spelledMany c_hasImage u9.2.2 c_aside) H → va_D A (w_X8_limit E a_ a_tape a_readPlace a_script a_scriptLong a_now a_refused a_shareX a_shareY a_askedRow a_kept a_aside a_spelled a_image c_thrown c_taped c_at c_part c_partFrom c_partNumber c_wrong c_partWord c_readLaw c_readBound c_readGoal c_readSites c_scripts c_sites c_asked c_outcome c_took c_acts c_drawn c_racer c_raced c_spelledMany c_hasImage u9.2.2 c_aside) → va_S A s.heap H locs → lv_has ls 6 [(0, .ref a_), (1, .int p1), (2, .int p2), (3, .int p3), (4, .int u9.1), (5, .int u9.2.1)] → W p l e ({ frames := 4, cells := 0, slots := 0, locals := 93 } : Room) s m #[Value.ref a_, Value.int p1, Value.int p2, Value.int p3] below meth c H locs 0 0 Q (F0 m 36 ls []))) (R := (fun r9 : Int32 × (Nat → Int32) => (∀ (H : Heap) (locs : List Loc) (ls : Array Slot), va_P E.1 vwCl (w_X8_limit E a_ a_tape a_readPlace a_script a_scriptLong a_now a_refused a_shareX a_shareY a_askedRow a_kept a_aside a_spelled a_image c_thrown c_taped c_at c_part c_partFrom c_partNumber c_wrong c_partWord c_readLaw c_readBound c_readGoal c_readSites c_scripts c_sites c_asked c_outcome c_took c_acts c_drawn c_racer c_raced c_spelledMany c_hasImage r9.2 c_aside) H → va_D A (w_X8_limit E a_ a_tape a_readPlace a_script a_scriptLong a_now a_refused a_shareX a_shareY a_askedRow a_kept a_aside a_spelled a_image c_thrown c_taped c_at c_part c_partFrom c_partNumber c_wrong c_partWord c_readLaw c_readBound c_readGoal c_readSites c_scripts c_sites c_asked c_outcome c_took c_acts c_drawn c_racer c_raced c_spelledMany c_hasImage r9.2 c_aside) → va_S A s.heap H locs → lv_has ls 6 [(0, .ref a_), (4, .int r9.1)] → W p l e ({ frames := 4, cells := 0, slots := 0, locals := 93 } : Room) s m #[Value.ref a_, Value.int p1, Value.int p2, Value.int p3] below meth c H locs 0 0 Q (F0 m 103 ls [])))) (fun u9 xx hF hC hE => wb_X8_limit_36 l E K (p1 := p1) (p2 := p2) (p3 := p3) (c_thrown := c_thrown) (c_taped := c_taped) (c_at := c_at) (c_part := c_part) (c_partFrom := c_partFrom) (c_partNumber := c_partNumber) (c_wrong := c_wrong) (c_partWord := c_partWord) (c_readLaw := c_readLaw) (c_readBound := c_readBound) (c_readGoal := c_readGoal) (c_readSites := c_readSites) (c_scripts := c_scripts) (c_sites := c_sites) (c_asked := c_asked) (c_outcome := c_outcome) (c_took := c_took) (c_acts := c_acts) (c_drawn := c_drawn) (c_racer := c_racer) (c_raced := c_raced) (c_spelledMany := c_spelledMany) (c_hasImage := c_hasImage) (x4 := u9.1) (x5 := u9.2.1) (c_now := u9.2.2) (c_aside := c_aside) hx hb hml hown hts hK hN hA (fun x4 x5 c_now q9 => hC _ q9) (fun x4 c_now q9 => hE _ q9) hF) j9 (x4, x5, c_now) (x4', c_now') hL hX

set_option maxHeartbeats 4000000 in
set_option maxRecDepth 100000 in
theorem f_X8_limit (l : Launch) (E : EE) (sz : Nat) (K : Nat) {a_ a_tape a_readPlace a_script a_scriptLong a_now a_refused a_shareX a_shareY a_askedRow a_kept a_aside a_spelled a_image : Nat} {p1 : Int32} {p2 : Int32} {p3 : Int32} {c_thrown : Int32} {c_taped : Int32} {c_at : Int32} {c_part : Int32} {c_partFrom : Int32} {c_partNumber : Int32} {c_wrong : Int32} {c_partWord : Int64} {c_readLaw : Int32} {c_readBound : Int32} {c_readGoal : Int32} {c_readSites : Int32} {c_scripts : Int32} {c_sites : Int32} {c_asked : Int32} {c_outcome : Int32} {c_took : Int32} {c_acts : Int32} {c_drawn : Int64} {c_racer : Int32} {c_raced : Int32} {c_spelledMany : Int32} {c_hasImage : Int32} {c_now : Nat → Int32} {c_aside : Nat → Int32} {rr : Int32} {n_now : Nat → Int32} {n_aside : Nat → Int32} (hF : F_X8_limit K p1 p2 p3 c_now c_sites c_aside = some (rr, n_now, n_aside)) : Met l yX8_limit v_f_X8_limit (({ frames := 4, cells := 0, slots := 0, locals := 93 } : Room)) (va_Pc [.ref a_, .int p1, .int p2, .int p3] (pW E sz (w_X8_limit E a_ a_tape a_readPlace a_script a_scriptLong a_now a_refused a_shareX a_shareY a_askedRow a_kept a_aside a_spelled a_image c_thrown c_taped c_at c_part c_partFrom c_partNumber c_wrong c_partWord c_readLaw c_readBound c_readGoal c_readSites c_scripts c_sites c_asked c_outcome c_took c_acts c_drawn c_racer c_raced c_spelledMany c_hasImage c_now c_aside))) (va_Qi (fun (q : Int32) (_u : Unit) => q = rr) (fun (_u : Unit) tt => va_P E.1 vwCl (w_X8_limit E a_ a_tape a_readPlace a_script a_scriptLong a_now a_refused a_shareX a_shareY a_askedRow a_kept a_aside a_spelled a_image c_thrown c_taped c_at c_part c_partFrom c_partNumber c_wrong c_partWord c_readLaw c_readBound c_readGoal c_readSites c_scripts c_sites c_asked c_outcome c_took c_acts c_drawn c_racer c_raced c_spelledMany c_hasImage n_now n_aside) tt.heap ∧ va_D (va_A (w_X8_limit E a_ a_tape a_readPlace a_script a_scriptLong a_now a_refused a_shareX a_shareY a_askedRow a_kept a_aside a_spelled a_image c_thrown c_taped c_at c_part c_partFrom c_partNumber c_wrong c_partWord c_readLaw c_readBound c_readGoal c_readSites c_scripts c_sites c_asked c_outcome c_took c_acts c_drawn c_racer c_raced c_spelledMany c_hasImage c_now c_aside) sz) (w_X8_limit E a_ a_tape a_readPlace a_script a_scriptLong a_now a_refused a_shareX a_shareY a_askedRow a_kept a_aside a_spelled a_image c_thrown c_taped c_at c_part c_partFrom c_partNumber c_wrong c_partWord c_readLaw c_readBound c_readGoal c_readSites c_scripts c_sites c_asked c_outcome c_took c_acts c_drawn c_racer c_raced c_spelledMany c_hasImage n_now n_aside)) (va_A (w_X8_limit E a_ a_tape a_readPlace a_script a_scriptLong a_now a_refused a_shareX a_shareY a_askedRow a_kept a_aside a_spelled a_image c_thrown c_taped c_at c_part c_partFrom c_partNumber c_wrong c_partWord c_readLaw c_readBound c_readGoal c_readSites c_scripts c_sites c_asked c_outcome c_took c_acts c_drawn c_racer c_raced c_spelledMany c_hasImage c_now c_aside) sz)) 0 0 (va_A (w_X8_limit E a_ a_tape a_readPlace a_script a_scriptLong a_now a_refused a_shareX a_shareY a_askedRow a_kept a_aside a_spelled a_image c_thrown c_taped c_at c_part c_partFrom c_partNumber c_wrong c_partWord c_readLaw c_readBound c_readGoal c_readSites c_scripts c_sites c_asked c_outcome c_took c_acts c_drawn c_racer c_raced c_spelledMany c_hasImage c_now c_aside) sz) := by
  refine Met.ofW (cc := cX8_limit) (maxL := 6) (ret := (some .int)) (by decide) rfl ?_
  intro p e s m args below meth c s₁ B hml hv
  obtain ⟨rfl, hsz, ⟨hK, hN⟩, hP, hD0⟩ := hv
  have hx := B.exec
  have hb := B.bytes
  have hr := B.returns
  have hts := atoms_spec (ws := v_f_X8_limit) B.pre
  have hown : s.vm.findClass RX8 = some m.cls := own_of hd_X8_limit.1 (findClass_of_methodNamed B.named)
  have hlocks : meth.locks = false := B.notSynchronized
  subst hsz
  have hD := hD0.self (sz := s.heap.size)
  generalize hAe : va_A (w_X8_limit E a_ a_tape a_readPlace a_script a_scriptLong a_now a_refused a_shareX a_shareY a_askedRow a_kept a_aside a_spelled a_image c_thrown c_taped c_at c_part c_partFrom c_partNumber c_wrong c_partWord c_readLaw c_readBound c_readGoal c_readSites c_scripts c_sites c_asked c_outcome c_took c_acts c_drawn c_racer c_raced c_spelledMany c_hasImage c_now c_aside) s.heap.size = A at hD ⊢
  have hA : ∀ q : Nat, s.heap.size ≤ q → A q := fun q h => by rw [← hAe]; exact Or.inr h
  have hS : va_S A s.heap s.heap [] := va_S.rf
  have hl := lv_entry ([.ref a_, .int p1, .int p2, .int p3]) (n := 6) (Nat.le_of_ble_eq_true rfl)
  rw [lg_entry_eq]
  generalize (lg_sl ([.ref a_, .int p1, .int p2, .int p3]) ++ List.replicate (6 - (lg_sl ([.ref a_, .int p1, .int p2, .int p3])).length) Slot.unset).toArray = ls at hl ⊢
  have hl : lv_has ls 6 [(0, .ref a_), (1, .int p1), (2, .int p2), (3, .int p3)] := hl
  obtain ⟨Q, hQ⟩ : ∃ Q : State → Prop, Q = MQ below (va_Qi (fun (q : Int32) (_u : Unit) => q = rr) (fun (_u : Unit) tt => va_P E.1 vwCl (w_X8_limit E a_ a_tape a_readPlace a_script a_scriptLong a_now a_refused a_shareX a_shareY a_askedRow a_kept a_aside a_spelled a_image c_thrown c_taped c_at c_part c_partFrom c_partNumber c_wrong c_partWord c_readLaw c_readBound c_readGoal c_readSites c_scripts c_sites c_asked c_outcome c_took c_acts c_drawn c_racer c_raced c_spelledMany c_hasImage n_now n_aside) tt.heap ∧ va_D A (w_X8_limit E a_ a_tape a_readPlace a_script a_scriptLong a_now a_refused a_shareX a_shareY a_askedRow a_kept a_aside a_spelled a_image c_thrown c_taped c_at c_part c_partFrom c_partNumber c_wrong c_partWord c_readLaw c_readBound c_readGoal c_readSites c_scripts c_sites c_asked c_outcome c_took c_acts c_drawn c_racer c_raced c_spelledMany c_hasImage n_now n_aside)) A) #[Value.ref a_, Value.int p1, Value.int p2, Value.int p3] s 0 0 A := ⟨_, rfl⟩
  rw [← hQ]
  change W p l e ({ frames := 4, cells := 0, slots := 0, locals := 93 } : Room) s m #[Value.ref a_, Value.int p1, Value.int p2, Value.int p3] below meth c s.heap [] 0 0 Q (F0 m 0 ls [])
  suffices hh9 : ∀ (H : Heap) (locs : List Loc), va_P E.1 vwCl (w_X8_limit E a_ a_tape a_readPlace a_script a_scriptLong a_now a_refused a_shareX a_shareY a_askedRow a_kept a_aside a_spelled a_image c_thrown c_taped c_at c_part c_partFrom c_partNumber c_wrong c_partWord c_readLaw c_readBound c_readGoal c_readSites c_scripts c_sites c_asked c_outcome c_took c_acts c_drawn c_racer c_raced c_spelledMany c_hasImage c_now c_aside) H → va_D A (w_X8_limit E a_ a_tape a_readPlace a_script a_scriptLong a_now a_refused a_shareX a_shareY a_askedRow a_kept a_aside a_spelled a_image c_thrown c_taped c_at c_part c_partFrom c_partNumber c_wrong c_partWord c_readLaw c_readBound c_readGoal c_readSites c_scripts c_sites c_asked c_outcome c_took c_acts c_drawn c_racer c_raced c_spelledMany c_hasImage c_now c_aside) → va_S A s.heap H locs → W p l e ({ frames := 4, cells := 0, slots := 0, locals := 93 } : Room) s m #[Value.ref a_, Value.int p1, Value.int p2, Value.int p3] below meth c H locs 0 0 Q (F0 m 0 ls []) from hh9 s.heap [] hP hD hS
  clear hP hD hS
  intro H locs hP hD hS
  have h9 := fixPD (ws' := [k_X8 a_ c_thrown a_tape c_taped c_at c_part c_partFrom c_partNumber c_wrong c_partWord c_readLaw c_readBound c_readGoal c_readSites a_readPlace a_script a_scriptLong c_scripts a_now a_refused c_sites a_shareX a_shareY c_asked c_outcome a_askedRow c_took a_kept c_acts c_drawn a_aside c_racer c_raced a_spelled c_spelledMany a_image c_hasImage, k_I E a_now 265 c_now, k_I E a_aside 84 c_aside]) hP hD rfl
  clear hP hD
  obtain ⟨hP, hD⟩ := h9
  unfold F_X8_limit at hF
  refine lv_aload_n hx hb (dq_42 0 bcX8_limit_0 (j := 0) rfl rfl) rfl (lv_at hl 0 rfl) ?_
  refine lv_iload_n hx hb (dq_27 0 bcX8_limit_0 (j := 1) rfl rfl) rfl (lv_at hl 1 rfl) ?_
  replace hF := bd1_s hF
  obtain ⟨r_1, hc_2, hF⟩ := hF
  have hPc : va_P E.1 vwCl (w_X8_isSite E a_ a_tape a_readPlace a_script a_scriptLong a_now a_refused a_shareX a_shareY a_askedRow a_kept a_aside a_spelled a_image c_thrown c_taped c_at c_part c_partFrom c_partNumber c_wrong c_partWord c_readLaw c_readBound c_readGoal c_readSites c_scripts c_sites c_asked c_outcome c_took c_acts c_drawn c_racer c_raced c_spelledMany c_hasImage) H := hP.sub (ws' := [k_X8 a_ c_thrown a_tape c_taped c_at c_part c_partFrom c_partNumber c_wrong c_partWord c_readLaw c_readBound c_readGoal c_readSites a_readPlace a_script a_scriptLong c_scripts a_now a_refused c_sites a_shareX a_shareY c_asked c_outcome a_askedRow c_took a_kept c_acts c_drawn a_aside c_racer c_raced a_spelled c_spelledMany a_image c_hasImage]) [0] rfl
  have hrc := va_recv hK hPc (ci := 9) (q0 := 0) rfl rfl
  refine pE_z (va_runV (As := [.int p1]) (rest := [])  ⟨hx, hb, hml, hown, hts⟩ (f_X8_isSite l E (a_ := a_) (a_tape := a_tape) (a_readPlace := a_readPlace) (a_script := a_script) (a_scriptLong := a_scriptLong) (a_now := a_now) (a_refused := a_refused) (a_shareX := a_shareX) (a_shareY := a_shareY) (a_askedRow := a_askedRow) (a_kept := a_kept) (a_aside := a_aside) (a_spelled := a_spelled) (a_image := a_image) (p1 := p1) (c_thrown := c_thrown) (c_taped := c_taped) (c_at := c_at) (c_part := c_part) (c_partFrom := c_partFrom) (c_partNumber := c_partNumber) (c_wrong := c_wrong) (c_partWord := c_partWord) (c_readLaw := c_readLaw) (c_readBound := c_readBound) (c_readGoal := c_readGoal) (c_readSites := c_readSites) (c_scripts := c_scripts) (c_sites := c_sites) (c_asked := c_asked) (c_outcome := c_outcome) (c_took := c_took) (c_acts := c_acts) (c_drawn := c_drawn) (c_racer := c_racer) (c_raced := c_raced) (c_spelledMany := c_spelledMany) (c_hasImage := c_hasImage) hc_2) (cwV 1 hts g_f_X8_limit_f_X8_isSite_278 rfl rfl rfl hd_X8_isSite ⟨Nat.le_of_ble_eq_true rfl, Nat.le_of_ble_eq_true rfl⟩) ⟨pP.blind, hrc, (pP.pre ⟨hK, hN⟩ hPc)⟩ rfl rfl hl.1 rfl (lv_room (Nat.le_of_ble_eq_true rfl)) (dq_182 0 bcX8_limit_0 (j := 2) (i := 278) rfl rfl rfl) ⟨Nat.le_of_ble_eq_true rfl, Nat.le_of_ble_eq_true rfl⟩) (fun hb_3 => ?_)
  refine lv_if_eq (tgt := 24) hx hb (dq_153 0 bcX8_limit_0 (j := 5) (i := 19) rfl rfl rfl) (by decide) (fun c_4 => ?_) (fun c_4 => ?_)
  ·
    replace hF := ip c_4 hF
    refine lv_iconst (v := -1) hx hb (dq_2 0 bcX8_limit_0 (j := 24) rfl rfl) (by decide) ?_
    rw [hQ]
    have h9 := fin9 (P := fun u9 : Int32 × (Nat → Int32) × (Nat → Int32) => (-1 : Int32) = u9.1 ∧ va_P E.1 vwCl (w_X8_limit E a_ a_tape a_readPlace a_script a_scriptLong a_now a_refused a_shareX a_shareY a_askedRow a_kept a_aside a_spelled a_image c_thrown c_taped c_at c_part c_partFrom c_partNumber c_wrong c_partWord c_readLaw c_readBound c_readGoal c_readSites c_scripts c_sites c_asked c_outcome c_took c_acts c_drawn c_racer c_raced c_spelledMany c_hasImage u9.2.1 u9.2.2) H ∧ va_D A (w_X8_limit E a_ a_tape a_readPlace a_script a_scriptLong a_now a_refused a_shareX a_shareY a_askedRow a_kept a_aside a_spelled a_image c_thrown c_taped c_at c_part c_partFrom c_partNumber c_wrong c_partWord c_readLaw c_readBound c_readGoal c_readSites c_scripts c_sites c_asked c_outcome c_took c_acts c_drawn c_racer c_raced c_spelledMany c_hasImage u9.2.1 u9.2.2)) hF ⟨rfl, hP, hD⟩
    obtain ⟨e9_0, hP9, hD9⟩ := h9
    exact W.iret (v := (-1 : Int32)) hx hb hr (fun tt ht hW => ⟨⟨_, (), rfl, e9_0, ht ▸ hP9, hD9⟩, hS.F ht⟩) hS.2.2 (dq_172 0 bcX8_limit_0 (j := 25) rfl rfl)
  ·
    replace hF := inn c_4 hF
    refine lv_iload_n hx hb (dq_28 0 bcX8_limit_0 (j := 8) rfl rfl) rfl (lv_at hl 2 rfl) ?_
    refine lv_iload_n hx hb (dq_29 0 bcX8_limit_0 (j := 9) rfl rfl) rfl (lv_at hl 3 rfl) ?_
    replace hF := bd1_s hF
    obtain ⟨r_5, hc_6, hF⟩ := hF
    have hPc : va_P E.1 vwCl [] H := fun k q h => by simp at h
    refine pE_z (va_runS (As := [.int p2, .int p3]) (rest := [])  ⟨hx, hb, hml, hown, hts⟩ (f_X8_isWay l E (p0 := p2) (p1 := p3) hc_6) (va_cwS 2 hts g_f_X8_limit_f_X8_isWay_387 rfl rfl rfl hd_X8_isWay.2 ⟨Nat.le_of_ble_eq_true rfl, Nat.le_of_ble_eq_true rfl⟩) ⟨pP.blind, (pP.pre ⟨hK, hN⟩ hPc)⟩ rfl rfl hl.1 rfl (lv_room (Nat.le_of_ble_eq_true rfl)) (dq_184 0 bcX8_limit_0 (j := 10) (i := 387) rfl rfl rfl) ⟨Nat.le_of_ble_eq_true rfl, Nat.le_of_ble_eq_true rfl⟩) (fun hb_7 => ?_)
    refine lv_if_eq (tgt := 24) hx hb (dq_153 0 bcX8_limit_0 (j := 13) (i := 11) rfl rfl rfl) (by decide) (fun c_8 => ?_) (fun c_8 => ?_)
    ·
      replace hF := ip c_8 hF
      refine lv_iconst (v := -1) hx hb (dq_2 0 bcX8_limit_0 (j := 24) rfl rfl) (by decide) ?_
      rw [hQ]
      have h9 := fin9 (P := fun u9 : Int32 × (Nat → Int32) × (Nat → Int32) => (-1 : Int32) = u9.1 ∧ va_P E.1 vwCl (w_X8_limit E a_ a_tape a_readPlace a_script a_scriptLong a_now a_refused a_shareX a_shareY a_askedRow a_kept a_aside a_spelled a_image c_thrown c_taped c_at c_part c_partFrom c_partNumber c_wrong c_partWord c_readLaw c_readBound c_readGoal c_readSites c_scripts c_sites c_asked c_outcome c_took c_acts c_drawn c_racer c_raced c_spelledMany c_hasImage u9.2.1 u9.2.2) H ∧ va_D A (w_X8_limit E a_ a_tape a_readPlace a_script a_scriptLong a_now a_refused a_shareX a_shareY a_askedRow a_kept a_aside a_spelled a_image c_thrown c_taped c_at c_part c_partFrom c_partNumber c_wrong c_partWord c_readLaw c_readBound c_readGoal c_readSites c_scripts c_sites c_asked c_outcome c_took c_acts c_drawn c_racer c_raced c_spelledMany c_hasImage u9.2.1 u9.2.2)) hF ⟨rfl, hP, hD⟩
      obtain ⟨e9_0, hP9, hD9⟩ := h9
      exact W.iret (v := (-1 : Int32)) hx hb hr (fun tt ht hW => ⟨⟨_, (), rfl, e9_0, ht ▸ hP9, hD9⟩, hS.F ht⟩) hS.2.2 (dq_172 0 bcX8_limit_0 (j := 25) rfl rfl)
    ·
      replace hF := inn c_8 hF
      refine lv_aload_n hx hb (dq_42 0 bcX8_limit_0 (j := 16) rfl rfl) rfl (lv_at hl 0 rfl) ?_
      refine lv_iload_n hx hb (dq_27 0 bcX8_limit_0 (j := 17) rfl rfl) rfl (lv_at hl 1 rfl) ?_
      replace hF := bd1_s hF
      obtain ⟨r_9, hc_10, hF⟩ := hF
      have hPc : va_P E.1 vwCl (w_X8_isFrozen E a_ a_tape a_readPlace a_script a_scriptLong a_now a_refused a_shareX a_shareY a_askedRow a_kept a_aside a_spelled a_image c_thrown c_taped c_at c_part c_partFrom c_partNumber c_wrong c_partWord c_readLaw c_readBound c_readGoal c_readSites c_scripts c_sites c_asked c_outcome c_took c_acts c_drawn c_racer c_raced c_spelledMany c_hasImage c_now) H := hP.sub (ws' := [k_X8 a_ c_thrown a_tape c_taped c_at c_part c_partFrom c_partNumber c_wrong c_partWord c_readLaw c_readBound c_readGoal c_readSites a_readPlace a_script a_scriptLong c_scripts a_now a_refused c_sites a_shareX a_shareY c_asked c_outcome a_askedRow c_took a_kept c_acts c_drawn a_aside c_racer c_raced a_spelled c_spelledMany a_image c_hasImage, k_I E a_now 265 c_now]) [0, 1] rfl
      have hrc := va_recv hK hPc (ci := 9) (q0 := 0) rfl rfl
      refine pE_z (va_runV (As := [.int p1]) (rest := [])  ⟨hx, hb, hml, hown, hts⟩ (f_X8_isFrozen l E (a_ := a_) (a_tape := a_tape) (a_readPlace := a_readPlace) (a_script := a_script) (a_scriptLong := a_scriptLong) (a_now := a_now) (a_refused := a_refused) (a_shareX := a_shareX) (a_shareY := a_shareY) (a_askedRow := a_askedRow) (a_kept := a_kept) (a_aside := a_aside) (a_spelled := a_spelled) (a_image := a_image) (p1 := p1) (c_thrown := c_thrown) (c_taped := c_taped) (c_at := c_at) (c_part := c_part) (c_partFrom := c_partFrom) (c_partNumber := c_partNumber) (c_wrong := c_wrong) (c_partWord := c_partWord) (c_readLaw := c_readLaw) (c_readBound := c_readBound) (c_readGoal := c_readGoal) (c_readSites := c_readSites) (c_scripts := c_scripts) (c_sites := c_sites) (c_asked := c_asked) (c_outcome := c_outcome) (c_took := c_took) (c_acts := c_acts) (c_drawn := c_drawn) (c_racer := c_racer) (c_raced := c_raced) (c_spelledMany := c_spelledMany) (c_hasImage := c_hasImage) (c_now := c_now) hc_10) (cwV 1 hts g_f_X8_limit_f_X8_isFrozen_257 rfl rfl rfl hd_X8_isFrozen ⟨Nat.le_of_ble_eq_true rfl, Nat.le_of_ble_eq_true rfl⟩) ⟨pP.blind, hrc, (pP.pre ⟨hK, hN⟩ hPc)⟩ rfl rfl hl.1 rfl (lv_room (Nat.le_of_ble_eq_true rfl)) (dq_182 0 bcX8_limit_0 (j := 18) (i := 257) rfl rfl rfl) ⟨Nat.le_of_ble_eq_true rfl, Nat.le_of_ble_eq_true rfl⟩) (fun hb_11 => ?_)
      refine lv_if_eq (tgt := 26) hx hb (dq_153 0 bcX8_limit_0 (j := 21) (i := 5) rfl rfl rfl) (by decide) (fun c_12 => ?_) (fun c_12 => ?_)
      ·
        replace hF := ip c_12 hF
        refine lv_aload_n hx hb (dq_42 0 bcX8_limit_0 (j := 26) rfl rfl) rfl (lv_at hl 0 rfl) ?_
        replace hF := bd1_s hF
        obtain ⟨w_13, hc_14, hF⟩ := hF
        obtain ⟨hPc, hDc, hFc⟩ := wcut (wc := (w_X8_putAside E a_ a_tape a_readPlace a_script a_scriptLong a_now a_refused a_shareX a_shareY a_askedRow a_kept a_aside a_spelled a_image c_thrown c_taped c_at c_part c_partFrom c_partNumber c_wrong c_partWord c_readLaw c_readBound c_readGoal c_readSites c_scripts c_sites c_asked c_outcome c_took c_acts c_drawn c_racer c_raced c_spelledMany c_hasImage c_now c_aside)) hP hD hS hA [0, 1, 2] (by decide) rfl
        have hrc := va_recv hK hPc (ci := 9) (q0 := 0) rfl rfl
        refine cE_v (wc := (w_X8_putAside E a_ a_tape a_readPlace a_script a_scriptLong a_now a_refused a_shareX a_shareY a_askedRow a_kept a_aside a_spelled a_image c_thrown c_taped c_at c_part c_partFrom c_partNumber c_wrong c_partWord c_readLaw c_readBound c_readGoal c_readSites c_scripts c_sites c_asked c_outcome c_took c_acts c_drawn c_racer c_raced c_spelledMany c_hasImage c_now c_aside)) (wr := []) (w1 := (w_X8_putAside E a_ a_tape a_readPlace a_script a_scriptLong a_now a_refused a_shareX a_shareY a_askedRow a_kept a_aside a_spelled a_image c_thrown c_taped c_at c_part c_partFrom c_partNumber c_wrong c_partWord c_readLaw c_readBound c_readGoal c_readSites c_scripts c_sites c_asked c_outcome c_took c_acts c_drawn c_racer c_raced c_spelledMany c_hasImage c_now w_13)) (va_runV (As := []) (rest := [])  ⟨hx, hb, hml, hown, hts⟩ (f_X8_putAside l E H.size K (a_ := a_) (a_tape := a_tape) (a_readPlace := a_readPlace) (a_script := a_script) (a_scriptLong := a_scriptLong) (a_now := a_now) (a_refused := a_refused) (a_shareX := a_shareX) (a_shareY := a_shareY) (a_askedRow := a_askedRow) (a_kept := a_kept) (a_aside := a_aside) (a_spelled := a_spelled) (a_image := a_image) (c_thrown := c_thrown) (c_taped := c_taped) (c_at := c_at) (c_part := c_part) (c_partFrom := c_partFrom) (c_partNumber := c_partNumber) (c_wrong := c_wrong) (c_partWord := c_partWord) (c_readLaw := c_readLaw) (c_readBound := c_readBound) (c_readGoal := c_readGoal) (c_readSites := c_readSites) (c_scripts := c_scripts) (c_sites := c_sites) (c_asked := c_asked) (c_outcome := c_outcome) (c_took := c_took) (c_acts := c_acts) (c_drawn := c_drawn) (c_racer := c_racer) (c_raced := c_raced) (c_spelledMany := c_spelledMany) (c_hasImage := c_hasImage) (c_now := c_now) (c_aside := c_aside) hc_14) (cwV 0 hts g_f_X8_limit_f_X8_putAside_390 rfl rfl rfl hd_X8_putAside ⟨Nat.le_of_ble_eq_true rfl, Nat.le_of_ble_eq_true rfl⟩) ⟨pW.blind, hrc, (pW.pre ⟨hK, hN⟩ hPc hDc)⟩ rfl rfl hl.1 rfl (lv_room (Nat.le_of_ble_eq_true rfl)) (dq_182 0 bcX8_limit_0 (j := 27) (i := 390) rfl rfl rfl) ⟨Nat.le_of_ble_eq_true rfl, Nat.le_of_ble_eq_true rfl⟩) hS hFc hP hD [0, 1, 2] [] rfl rfl (by decide) (by decide) (fun H locs hP hD hS => ?_)
        have h9 := fixPD (ws' := [k_X8 a_ c_thrown a_tape c_taped c_at c_part c_partFrom c_partNumber c_wrong c_partWord c_readLaw c_readBound c_readGoal c_readSites a_readPlace a_script a_scriptLong c_scripts a_now a_refused c_sites a_shareX a_shareY c_asked c_outcome a_askedRow c_took a_kept c_acts c_drawn a_aside c_racer c_raced a_spelled c_spelledMany a_image c_hasImage, k_I E a_now 265 c_now, k_I E a_aside 84 w_13]) hP hD rfl
        clear hP hD
        obtain ⟨hP, hD⟩ := h9
        refine lv_iconst (v := -1) hx hb (dq_2 0 bcX8_limit_0 (j := 30) rfl rfl) (by decide) ?_
        refine lv_istore (lv' := [(4, .int (-1 : Int32)), (0, .ref a_), (1, .int p1), (2, .int p2), (3, .int p3)]) hx hb (dq_54 0 bcX8_limit_0 (j := 31) (i := 4) rfl rfl) hl (by decide) rfl (fun ls hl => ?_)
        refine lv_iconst (v := 1) hx hb (dq_4 0 bcX8_limit_0 (j := 33) rfl rfl) (by decide) ?_
        refine lv_istore (lv' := [(5, .int (1 : Int32)), (4, .int (-1 : Int32)), (0, .ref a_), (1, .int p1), (2, .int p2), (3, .int p3)]) hx hb (dq_54 0 bcX8_limit_0 (j := 34) (i := 5) rfl rfl) hl (by decide) rfl (fun ls hl => ?_)
        replace hF := bd2_s hF
        obtain ⟨x4_31, c_now_32, hL_33, hF⟩ := hF
        refine lw_X8_limit_36 l E K (p1 := p1) (p2 := p2) (p3 := p3) (c_thrown := c_thrown) (c_taped := c_taped) (c_at := c_at) (c_part := c_part) (c_partFrom := c_partFrom) (c_partNumber := c_partNumber) (c_wrong := c_wrong) (c_partWord := c_partWord) (c_readLaw := c_readLaw) (c_readBound := c_readBound) (c_readGoal := c_readGoal) (c_readSites := c_readSites) (c_scripts := c_scripts) (c_sites := c_sites) (c_asked := c_asked) (c_outcome := c_outcome) (c_took := c_took) (c_acts := c_acts) (c_drawn := c_drawn) (c_racer := c_racer) (c_raced := c_raced) (c_spelledMany := c_spelledMany) (c_hasImage := c_hasImage) (c_aside := w_13) hx hb hml hown hts hK hN hA K (-1 : Int32) (1 : Int32) c_now x4_31 c_now_32 hL_33 ?_ H locs ls (hP.sub [0, 1, 2] rfl) (hD.sub [0, 1, 2] (by decide) rfl) hS (lv_sub hl [2, 3, 4, 5, 1, 0] rfl)
        ·
          intro H locs ls hP hD hS hl
          have h9 := fixPD (ws' := [k_X8 a_ c_thrown a_tape c_taped c_at c_part c_partFrom c_partNumber c_wrong c_partWord c_readLaw c_readBound c_readGoal c_readSites a_readPlace a_script a_scriptLong c_scripts a_now a_refused c_sites a_shareX a_shareY c_asked c_outcome a_askedRow c_took a_kept c_acts c_drawn a_aside c_racer c_raced a_spelled c_spelledMany a_image c_hasImage, k_I E a_now 265 c_now_32, k_I E a_aside 84 w_13]) hP hD rfl
          clear hP hD
          obtain ⟨hP, hD⟩ := h9
          refine lv_aload_n hx hb (dq_42 96 bcX8_limit_2 (j := 7) rfl rfl) rfl (lv_at hl 0 rfl) ?_
          replace hF := bd1_s hF
          obtain ⟨w_34, hc_35, hF⟩ := hF
          obtain ⟨hPc, hDc, hFc⟩ := wcut (wc := (w_X8_bringBack E a_ a_tape a_readPlace a_script a_scriptLong a_now a_refused a_shareX a_shareY a_askedRow a_kept a_aside a_spelled a_image c_thrown c_taped c_at c_part c_partFrom c_partNumber c_wrong c_partWord c_readLaw c_readBound c_readGoal c_readSites c_scripts c_sites c_asked c_outcome c_took c_acts c_drawn c_racer c_raced c_spelledMany c_hasImage c_now_32 w_13)) hP hD hS hA [0, 1, 2] (by decide) rfl
          have hrc := va_recv hK hPc (ci := 9) (q0 := 0) rfl rfl
          refine cE_v (wc := (w_X8_bringBack E a_ a_tape a_readPlace a_script a_scriptLong a_now a_refused a_shareX a_shareY a_askedRow a_kept a_aside a_spelled a_image c_thrown c_taped c_at c_part c_partFrom c_partNumber c_wrong c_partWord c_readLaw c_readBound c_readGoal c_readSites c_scripts c_sites c_asked c_outcome c_took c_acts c_drawn c_racer c_raced c_spelledMany c_hasImage c_now_32 w_13)) (wr := []) (w1 := (w_X8_bringBack E a_ a_tape a_readPlace a_script a_scriptLong a_now a_refused a_shareX a_shareY a_askedRow a_kept a_aside a_spelled a_image c_thrown c_taped c_at c_part c_partFrom c_partNumber c_wrong c_partWord c_readLaw c_readBound c_readGoal c_readSites c_scripts c_sites c_asked c_outcome c_took c_acts c_drawn c_racer c_raced c_spelledMany c_hasImage w_34 w_13)) (va_runV (As := []) (rest := [])  ⟨hx, hb, hml, hown, hts⟩ (f_X8_bringBack l E H.size K (a_ := a_) (a_tape := a_tape) (a_readPlace := a_readPlace) (a_script := a_script) (a_scriptLong := a_scriptLong) (a_now := a_now) (a_refused := a_refused) (a_shareX := a_shareX) (a_shareY := a_shareY) (a_askedRow := a_askedRow) (a_kept := a_kept) (a_aside := a_aside) (a_spelled := a_spelled) (a_image := a_image) (c_thrown := c_thrown) (c_taped := c_taped) (c_at := c_at) (c_part := c_part) (c_partFrom := c_partFrom) (c_partNumber := c_partNumber) (c_wrong := c_wrong) (c_partWord := c_partWord) (c_readLaw := c_readLaw) (c_readBound := c_readBound) (c_readGoal := c_readGoal) (c_readSites := c_readSites) (c_scripts := c_scripts) (c_sites := c_sites) (c_asked := c_asked) (c_outcome := c_outcome) (c_took := c_took) (c_acts := c_acts) (c_drawn := c_drawn) (c_racer := c_racer) (c_raced := c_raced) (c_spelledMany := c_spelledMany) (c_hasImage := c_hasImage) (c_now := c_now_32) (c_aside := w_13) hc_35) (cwV 0 hts g_f_X8_limit_f_X8_bringBack_396 rfl rfl rfl hd_X8_bringBack ⟨Nat.le_of_ble_eq_true rfl, Nat.le_of_ble_eq_true rfl⟩) ⟨pW.blind, hrc, (pW.pre ⟨hK, hN⟩ hPc hDc)⟩ rfl rfl hl.1 rfl (lv_room (Nat.le_of_ble_eq_true rfl)) (dq_182 96 bcX8_limit_2 (j := 8) (i := 396) rfl rfl rfl) ⟨Nat.le_of_ble_eq_true rfl, Nat.le_of_ble_eq_true rfl⟩) hS hFc hP hD [0, 1, 2] [] rfl rfl (by decide) (by decide) (fun H locs hP hD hS => ?_)
          have h9 := fixPD (ws' := [k_X8 a_ c_thrown a_tape c_taped c_at c_part c_partFrom c_partNumber c_wrong c_partWord c_readLaw c_readBound c_readGoal c_readSites a_readPlace a_script a_scriptLong c_scripts a_now a_refused c_sites a_shareX a_shareY c_asked c_outcome a_askedRow c_took a_kept c_acts c_drawn a_aside c_racer c_raced a_spelled c_spelledMany a_image c_hasImage, k_I E a_now 265 w_34, k_I E a_aside 84 w_13]) hP hD rfl
          clear hP hD
          obtain ⟨hP, hD⟩ := h9
          refine lv_iload hx hb (dq_21 96 bcX8_limit_2 (j := 11) (i := 4) rfl rfl) (lv_at hl 1 rfl) ?_
          rw [hQ]
          have h9 := fin9 (P := fun u9 : Int32 × (Nat → Int32) × (Nat → Int32) => x4_31 = u9.1 ∧ va_P E.1 vwCl (w_X8_limit E a_ a_tape a_readPlace a_script a_scriptLong a_now a_refused a_shareX a_shareY a_askedRow a_kept a_aside a_spelled a_image c_thrown c_taped c_at c_part c_partFrom c_partNumber c_wrong c_partWord c_readLaw c_readBound c_readGoal c_readSites c_scripts c_sites c_asked c_outcome c_took c_acts c_drawn c_racer c_raced c_spelledMany c_hasImage u9.2.1 u9.2.2) H ∧ va_D A (w_X8_limit E a_ a_tape a_readPlace a_script a_scriptLong a_now a_refused a_shareX a_shareY a_askedRow a_kept a_aside a_spelled a_image c_thrown c_taped c_at c_part c_partFrom c_partNumber c_wrong c_partWord c_readLaw c_readBound c_readGoal c_readSites c_scripts c_sites c_asked c_outcome c_took c_acts c_drawn c_racer c_raced c_spelledMany c_hasImage u9.2.1 u9.2.2)) hF ⟨rfl, hP, hD⟩
          obtain ⟨e9_0, hP9, hD9⟩ := h9
          exact W.iret (v := x4_31) hx hb hr (fun tt ht hW => ⟨⟨_, (), rfl, e9_0, ht ▸ hP9, hD9⟩, hS.F ht⟩) hS.2.2 (dq_172 96 bcX8_limit_2 (j := 13) rfl rfl)
      ·
        replace hF := inn c_12 hF
        refine lv_iconst (v := -1) hx hb (dq_2 0 bcX8_limit_0 (j := 24) rfl rfl) (by decide) ?_
        rw [hQ]
        have h9 := fin9 (P := fun u9 : Int32 × (Nat → Int32) × (Nat → Int32) => (-1 : Int32) = u9.1 ∧ va_P E.1 vwCl (w_X8_limit E a_ a_tape a_readPlace a_script a_scriptLong a_now a_refused a_shareX a_shareY a_askedRow a_kept a_aside a_spelled a_image c_thrown c_taped c_at c_part c_partFrom c_partNumber c_wrong c_partWord c_readLaw c_readBound c_readGoal c_readSites c_scripts c_sites c_asked c_outcome c_took c_acts c_drawn c_racer c_raced c_spelledMany c_hasImage u9.2.1 u9.2.2) H ∧ va_D A (w_X8_limit E a_ a_tape a_readPlace a_script a_scriptLong a_now a_refused a_shareX a_shareY a_askedRow a_kept a_aside a_spelled a_image c_thrown c_taped c_at c_part c_partFrom c_partNumber c_wrong c_partWord c_readLaw c_readBound c_readGoal c_readSites c_scripts c_sites c_asked c_outcome c_took c_acts c_drawn c_racer c_raced c_spelledMany c_hasImage u9.2.1 u9.2.2)) hF ⟨rfl, hP, hD⟩
        obtain ⟨e9_0, hP9, hD9⟩ := h9
        exact W.iret (v := (-1 : Int32)) hx hb hr (fun tt ht hW => ⟨⟨_, (), rfl, e9_0, ht ▸ hP9, hD9⟩, hS.F ht⟩) hS.2.2 (dq_172 0 bcX8_limit_0 (j := 25) rfl rfl)

def F_X8_log (p1 : Int32) (p2 : Int32) (c_now : Nat → Int32) : Option (Int32) :=
  bd1 (F_X8_in p1.toInt64 (0 : Int64) (((c_now 84) - (1 : Int32)).toInt64)) (fun r_1 => if r_1 = (0 : Int32) then some (-100000000 : Int32) else bd1 (F_X8_in p2.toInt64 (0 : Int64) (2 : Int64)) (fun r_5 => if r_5 = (0 : Int32) then some (-100000000 : Int32) else ixF (((85 : Int32) + ((3 : Int32) * (((c_now 84) - (1 : Int32)) - p1))) + p2) 265 (some (c_now (((85 : Int32) + ((3 : Int32) * (((c_now 84) - (1 : Int32)) - p1))) + p2).toNatClampNeg))))
abbrev w_X8_log (E : EE) (a_ a_tape a_readPlace a_script a_scriptLong a_now a_refused a_shareX a_shareY a_askedRow a_kept a_aside a_spelled a_image : Nat) (c_thrown : Int32) (c_taped : Int32) (c_at : Int32) (c_part : Int32) (c_partFrom : Int32) (c_partNumber : Int32) (c_wrong : Int32) (c_partWord : Int64) (c_readLaw : Int32) (c_readBound : Int32) (c_readGoal : Int32) (c_readSites : Int32) (c_scripts : Int32) (c_sites : Int32) (c_asked : Int32) (c_outcome : Int32) (c_took : Int32) (c_acts : Int32) (c_drawn : Int64) (c_racer : Int32) (c_raced : Int32) (c_spelledMany : Int32) (c_hasImage : Int32) (c_now : Nat → Int32) : va_W := [k_X8 a_ c_thrown a_tape c_taped c_at c_part c_partFrom c_partNumber c_wrong c_partWord c_readLaw c_readBound c_readGoal c_readSites a_readPlace a_script a_scriptLong c_scripts a_now a_refused c_sites a_shareX a_shareY c_asked c_outcome a_askedRow c_took a_kept c_acts c_drawn a_aside c_racer c_raced a_spelled c_spelledMany a_image c_hasImage, k_I E a_now 265 c_now]
def v_f_X8_log : List Cond := List.cons (.code yX8_log cX8_log 3 (some .int)) (HAppend.hAppend (α := List Cond) (β := List Cond) (γ := List Cond) [.fieldLink RX8 22 "HushWatchModel" "now" "[I", .constant RX8 182 (-100000000), .constantLong RX8 373 (2), .methodLink RX8 60 yX8_in, .static yX8_in, .initialized RX8] (HAppend.hAppend (α := List Cond) (β := List Cond) (γ := List Cond) wsX80 (HAppend.hAppend (α := List Cond) (β := List Cond) (γ := List Cond) v_f_X8_in [])))
theorem gw_f_X8_log : v_f_X8_log.all goodWord = true := gw_c2 (by decide +kernel) (gw_ap gw_wsX80 (gw_ap gw_f_X8_in gw_nil))
theorem i_f_X8_log_X8 : ∀ w ∈ wsX80, w ∈ v_f_X8_log := fun _ h => List.mem_cons_of_mem _ (List.mem_append_right _ (List.mem_append_left _ h))
theorem g_f_X8_log_f_X8_in_60 : GoodIn v_f_X8_log (va_wsS RX8 60 yX8_in v_f_X8_in) := goodIn_in gw_f_X8_log (in3 4 5 6 rfl rfl rfl (fun _ h => List.mem_cons_of_mem _ (List.mem_append_right _ (List.mem_append_right _ (List.mem_append_left _ h)))))
theorem hd_X8_log : yX8_log.cls = RX8 ∧ yX8_log.cls ≠ "java/lang/invoke/MethodHandle" ∧ yX8_log.cls ≠ "java/lang/invoke/VarHandle" ∧ (parseMethodDescriptor yX8_log.desc).map (fun d => d.parameters.length) = some 2 := by decide +kernel
set_option maxHeartbeats 4000000 in
set_option maxRecDepth 100000 in
theorem f_X8_log (l : Launch) (E : EE) {a_ a_tape a_readPlace a_script a_scriptLong a_now a_refused a_shareX a_shareY a_askedRow a_kept a_aside a_spelled a_image : Nat} {p1 : Int32} {p2 : Int32} {c_thrown : Int32} {c_taped : Int32} {c_at : Int32} {c_part : Int32} {c_partFrom : Int32} {c_partNumber : Int32} {c_wrong : Int32} {c_partWord : Int64} {c_readLaw : Int32} {c_readBound : Int32} {c_readGoal : Int32} {c_readSites : Int32} {c_scripts : Int32} {c_sites : Int32} {c_asked : Int32} {c_outcome : Int32} {c_took : Int32} {c_acts : Int32} {c_drawn : Int64} {c_racer : Int32} {c_raced : Int32} {c_spelledMany : Int32} {c_hasImage : Int32} {c_now : Nat → Int32} {rr : Int32} (hF : F_X8_log p1 p2 c_now = some rr) : Met l yX8_log v_f_X8_log (({ frames := 1, cells := 0, slots := 0, locals := 25 } : Room)) (va_Pc [.ref a_, .int p1, .int p2] (pP E (w_X8_log E a_ a_tape a_readPlace a_script a_scriptLong a_now a_refused a_shareX a_shareY a_askedRow a_kept a_aside a_spelled a_image c_thrown c_taped c_at c_part c_partFrom c_partNumber c_wrong c_partWord c_readLaw c_readBound c_readGoal c_readSites c_scripts c_sites c_asked c_outcome c_took c_acts c_drawn c_racer c_raced c_spelledMany c_hasImage c_now))) (vp_Si (fun q : Int32 => q = rr)) 0 0 (fun _ => False) := by
  refine Met.ofW (cc := cX8_log) (maxL := 3) (ret := (some .int)) (by decide) rfl ?_
  intro p e s m args below meth c s₁ B hml hv
  obtain ⟨rfl, ⟨hK, hN⟩, hP⟩ := hv
  have hx := B.exec
  have hb := B.bytes
  have hr := B.returns
  have hts := atoms_spec (ws := v_f_X8_log) B.pre
  have hown : s.vm.findClass RX8 = some m.cls := own_of hd_X8_log.1 (findClass_of_methodNamed B.named)
  have hlocks : meth.locks = false := B.notSynchronized
  replace hP : va_P E.1 vwCl [k_X8 a_ c_thrown a_tape c_taped c_at c_part c_partFrom c_partNumber c_wrong c_partWord c_readLaw c_readBound c_readGoal c_readSites a_readPlace a_script a_scriptLong c_scripts a_now a_refused c_sites a_shareX a_shareY c_asked c_outcome a_askedRow c_took a_kept c_acts c_drawn a_aside c_racer c_raced a_spelled c_spelledMany a_image c_hasImage, k_I E a_now 265 c_now] s.heap := hP
  have hl := lv_entry ([.ref a_, .int p1, .int p2]) (n := 3) (Nat.le_of_ble_eq_true rfl)
  rw [lg_entry_eq]
  generalize (lg_sl ([.ref a_, .int p1, .int p2]) ++ List.replicate (3 - (lg_sl ([.ref a_, .int p1, .int p2])).length) Slot.unset).toArray = ls at hl ⊢
  have hl : lv_has ls 3 [(0, .ref a_), (1, .int p1), (2, .int p2)] := hl
  obtain ⟨Q, hQ⟩ : ∃ Q : State → Prop, Q = MQ below (vp_Si (fun q : Int32 => q = rr)) #[Value.ref a_, Value.int p1, Value.int p2] s 0 0 (fun _ => False) := ⟨_, rfl⟩
  rw [← hQ]
  change W p l e ({ frames := 1, cells := 0, slots := 0, locals := 25 } : Room) s m #[Value.ref a_, Value.int p1, Value.int p2] below meth c s.heap [] 0 0 Q (F0 m 0 ls [])
  unfold F_X8_log at hF
  refine lv_iload_n hx hb (dq_27 0 bcX8_log_0 (j := 0) rfl rfl) rfl (lv_at hl 1 rfl) ?_
  refine lv_i2l (v := p1.toInt64) hx hb (dq_133 0 bcX8_log_0 (j := 1) rfl rfl) rfl ?_
  refine lv_lconst (v := 0) hx hb (dq_9 0 bcX8_log_0 (j := 2) rfl rfl) (by decide) ?_
  refine lv_aload_n hx hb (dq_42 0 bcX8_log_0 (j := 3) rfl rfl) rfl (lv_at hl 0 rfl) ?_
  refine gt_X8_17 (v := .ref a_now) hx hb hts i_f_X8_log_X8 hown hK hP 0 rfl (hts (.fieldLink RX8 22 "HushWatchModel" "now" "[I") (List.mem_of_getElem? (i := 1) rfl)) rfl (dq_180 0 bcX8_log_0 (j := 4) (i := 22) rfl rfl rfl) ?_
  refine lv_bipush (v := 84) hx hb (dq_16 0 bcX8_log_0 (j := 7) (i := 84) rfl rfl rfl) (by decide) ?_
  refine va_iald hx hb hK hP 1 0 rfl rfl (vin rfl) (dq_46 0 bcX8_log_0 (j := 9) rfl rfl) ?_
  refine W.eq (g2 := F0 m 10 ls [.int (c_now 84), .long (0 : Int64), .long p1.toInt64]) rfl ?_
  refine lv_iconst (v := 1) hx hb (dq_4 0 bcX8_log_0 (j := 10) rfl rfl) (by decide) ?_
  refine lv_isub hx hb (dq_100 0 bcX8_log_0 (j := 11) rfl rfl) ?_
  refine lv_i2l (v := ((c_now 84) - (1 : Int32)).toInt64) hx hb (dq_133 0 bcX8_log_0 (j := 12) rfl rfl) rfl ?_
  replace hF := bd1_s hF
  obtain ⟨r_1, hc_2, hF⟩ := hF
  have hPc : va_P E.1 vwCl [] s.heap := fun k q h => by simp at h
  refine pE_z (va_runS (As := [.long p1.toInt64, .long (0 : Int64), .long (((c_now 84) - (1 : Int32)).toInt64)]) (rest := [])  ⟨hx, hb, hml, hown, hts⟩ (f_X8_in l E (p0 := p1.toInt64) (p1 := (0 : Int64)) (p2 := ((c_now 84) - (1 : Int32)).toInt64) hc_2) (va_cwS 3 hts g_f_X8_log_f_X8_in_60 rfl rfl rfl hd_X8_in.2 ⟨Nat.le_of_ble_eq_true rfl, Nat.le_of_ble_eq_true rfl⟩) ⟨pP.blind, (pP.pre ⟨hK, hN⟩ hPc)⟩ rfl rfl hl.1 rfl (lv_room (Nat.le_of_ble_eq_true rfl)) (dq_184 0 bcX8_log_0 (j := 13) (i := 60) rfl rfl rfl) ⟨Nat.le_of_ble_eq_true rfl, Nat.le_of_ble_eq_true rfl⟩) (fun hb_3 => ?_)
  refine lv_if_eq (tgt := 57) hx hb (dq_153 0 bcX8_log_0 (j := 16) (i := 41) rfl rfl rfl) (by decide) (fun c_4 => ?_) (fun c_4 => ?_)
  ·
    replace hF := ip c_4 hF
    refine lv_ldc (v := -100000000) hx hb hown (hts (.constant RX8 182 (-100000000)) (List.mem_of_getElem? (i := 2) rfl)) (dq_18 48 bcX8_log_1 (j := 9) (i := 182) rfl rfl) ?_
    rw [hQ]
    obtain e9_0 := inj1 hF
    exact W.iret (v := (-100000000 : Int32)) hx hb hr (fun tt ht hW => ⟨_, rfl, e9_0, ht⟩) (fun _ h => by cases h) (dq_172 48 bcX8_log_1 (j := 11) rfl rfl)
  ·
    replace hF := inn c_4 hF
    refine lv_iload_n hx hb (dq_28 0 bcX8_log_0 (j := 19) rfl rfl) rfl (lv_at hl 2 rfl) ?_
    refine lv_i2l (v := p2.toInt64) hx hb (dq_133 0 bcX8_log_0 (j := 20) rfl rfl) rfl ?_
    refine lv_lconst (v := 0) hx hb (dq_9 0 bcX8_log_0 (j := 21) rfl rfl) (by decide) ?_
    refine lv_ldc2 (v := 2) hx hb hown (hts (.constantLong RX8 373 (2)) (List.mem_of_getElem? (i := 3) rfl)) (dq_20 0 bcX8_log_0 (j := 22) (i := 373) rfl rfl rfl) ?_
    replace hF := bd1_s hF
    obtain ⟨r_5, hc_6, hF⟩ := hF
    have hPc : va_P E.1 vwCl [] s.heap := fun k q h => by simp at h
    refine pE_z (va_runS (As := [.long p2.toInt64, .long (0 : Int64), .long (2 : Int64)]) (rest := [])  ⟨hx, hb, hml, hown, hts⟩ (f_X8_in l E (p0 := p2.toInt64) (p1 := (0 : Int64)) (p2 := (2 : Int64)) hc_6) (va_cwS 3 hts g_f_X8_log_f_X8_in_60 rfl rfl rfl hd_X8_in.2 ⟨Nat.le_of_ble_eq_true rfl, Nat.le_of_ble_eq_true rfl⟩) ⟨pP.blind, (pP.pre ⟨hK, hN⟩ hPc)⟩ rfl rfl hl.1 rfl (lv_room (Nat.le_of_ble_eq_true rfl)) (dq_184 0 bcX8_log_0 (j := 25) (i := 60) rfl rfl rfl) ⟨Nat.le_of_ble_eq_true rfl, Nat.le_of_ble_eq_true rfl⟩) (fun hb_7 => ?_)
    refine lv_if_eq (tgt := 57) hx hb (dq_153 0 bcX8_log_0 (j := 28) (i := 29) rfl rfl rfl) (by decide) (fun c_8 => ?_) (fun c_8 => ?_)
    ·
      replace hF := ip c_8 hF
      refine lv_ldc (v := -100000000) hx hb hown (hts (.constant RX8 182 (-100000000)) (List.mem_of_getElem? (i := 2) rfl)) (dq_18 48 bcX8_log_1 (j := 9) (i := 182) rfl rfl) ?_
      rw [hQ]
      obtain e9_0 := inj1 hF
      exact W.iret (v := (-100000000 : Int32)) hx hb hr (fun tt ht hW => ⟨_, rfl, e9_0, ht⟩) (fun _ h => by cases h) (dq_172 48 bcX8_log_1 (j := 11) rfl rfl)
    ·
      replace hF := inn c_8 hF
      refine lv_aload_n hx hb (dq_42 0 bcX8_log_0 (j := 31) rfl rfl) rfl (lv_at hl 0 rfl) ?_
      refine gt_X8_17 (v := .ref a_now) hx hb hts i_f_X8_log_X8 hown hK hP 0 rfl (hts (.fieldLink RX8 22 "HushWatchModel" "now" "[I") (List.mem_of_getElem? (i := 1) rfl)) rfl (dq_180 0 bcX8_log_0 (j := 32) (i := 22) rfl rfl rfl) ?_
      refine lv_bipush (v := 85) hx hb (dq_16 0 bcX8_log_0 (j := 35) (i := 85) rfl rfl rfl) (by decide) ?_
      refine lv_iconst (v := 3) hx hb (dq_6 0 bcX8_log_0 (j := 37) rfl rfl) (by decide) ?_
      refine lv_aload_n hx hb (dq_42 0 bcX8_log_0 (j := 38) rfl rfl) rfl (lv_at hl 0 rfl) ?_
      refine gt_X8_17 (v := .ref a_now) hx hb hts i_f_X8_log_X8 hown hK hP 0 rfl (hts (.fieldLink RX8 22 "HushWatchModel" "now" "[I") (List.mem_of_getElem? (i := 1) rfl)) rfl (dq_180 0 bcX8_log_0 (j := 39) (i := 22) rfl rfl rfl) ?_
      refine lv_bipush (v := 84) hx hb (dq_16 0 bcX8_log_0 (j := 42) (i := 84) rfl rfl rfl) (by decide) ?_
      refine va_iald hx hb hK hP 1 0 rfl rfl (vin rfl) (dq_46 0 bcX8_log_0 (j := 44) rfl rfl) ?_
      refine W.eq (g2 := F0 m 45 ls [.int (c_now 84), .int (3 : Int32), .int (85 : Int32), .ref a_now]) rfl ?_
      refine lv_iconst (v := 1) hx hb (dq_4 0 bcX8_log_0 (j := 45) rfl rfl) (by decide) ?_
      refine lv_isub hx hb (dq_100 0 bcX8_log_0 (j := 46) rfl rfl) ?_
      refine lv_iload_n hx hb (dq_27 0 bcX8_log_0 (j := 47) rfl rfl) rfl (lv_at hl 1 rfl) ?_
      refine lv_isub hx hb (dq_100 48 bcX8_log_1 (j := 0) rfl rfl) ?_
      refine lv_imul hx hb (dq_104 48 bcX8_log_1 (j := 1) rfl rfl) ?_
      refine lv_iadd hx hb (dq_96 48 bcX8_log_1 (j := 2) rfl rfl) ?_
      refine lv_iload_n hx hb (dq_28 48 bcX8_log_1 (j := 3) rfl rfl) rfl (lv_at hl 2 rfl) ?_
      refine lv_iadd hx hb (dq_96 48 bcX8_log_1 (j := 4) rfl rfl) ?_
      replace hF := ix_s hF
      obtain ⟨hi_9, hF⟩ := hF
      refine va_iald hx hb hK hP 1 0 rfl rfl hi_9 (dq_46 48 bcX8_log_1 (j := 5) rfl rfl) ?_
      refine lv_goto (tgt := 59) hx hb (dq_167 48 bcX8_log_1 (j := 6) (i := 5) rfl rfl rfl) (by decide) ?_
      rw [hQ]
      obtain e9_0 := inj1 hF
      exact W.iret (v := c_now (((85 : Int32) + ((3 : Int32) * (((c_now 84) - (1 : Int32)) - p1))) + p2).toNatClampNeg) hx hb hr (fun tt ht hW => ⟨_, rfl, e9_0, ht⟩) (fun _ h => by cases h) (dq_172 48 bcX8_log_1 (j := 11) rfl rfl)

def B_X8_quietOnes_4 (K : Nat) (c_sites : Int32) (c_now : Nat → Int32) (x1 : Int32) (x2 : Int32) : Option ((Int32 × Int32) ⊕ (Int32)) :=
  if c_sites ≤ x2 then some (.inr x1) else bd1 (F_X8_isQuiet K x2 c_now c_sites) (fun r_2 => if r_2 = (0 : Int32) then some (.inl (x1 ||| (0 : Int32), x2 + (1 : Int32))) else some (.inl (x1 ||| ((1 : Int32) <<< (x2 &&& (31 : Int32))), x2 + (1 : Int32))))
def F_X8_quietOnes (K : Nat) (c_now : Nat → Int32) (c_sites : Int32) : Option (Int32) :=
  bd1 (lpF (fun u9 : Int32 × Int32 => B_X8_quietOnes_4 K c_sites c_now u9.1 u9.2) K ((0 : Int32), (0 : Int32))) (fun x1_6 => some x1_6)
abbrev w_X8_quietOnes (E : EE) (a_ a_tape a_readPlace a_script a_scriptLong a_now a_refused a_shareX a_shareY a_askedRow a_kept a_aside a_spelled a_image : Nat) (c_thrown : Int32) (c_taped : Int32) (c_at : Int32) (c_part : Int32) (c_partFrom : Int32) (c_partNumber : Int32) (c_wrong : Int32) (c_partWord : Int64) (c_readLaw : Int32) (c_readBound : Int32) (c_readGoal : Int32) (c_readSites : Int32) (c_scripts : Int32) (c_sites : Int32) (c_asked : Int32) (c_outcome : Int32) (c_took : Int32) (c_acts : Int32) (c_drawn : Int64) (c_racer : Int32) (c_raced : Int32) (c_spelledMany : Int32) (c_hasImage : Int32) (c_now : Nat → Int32) : va_W := [k_X8 a_ c_thrown a_tape c_taped c_at c_part c_partFrom c_partNumber c_wrong c_partWord c_readLaw c_readBound c_readGoal c_readSites a_readPlace a_script a_scriptLong c_scripts a_now a_refused c_sites a_shareX a_shareY c_asked c_outcome a_askedRow c_took a_kept c_acts c_drawn a_aside c_racer c_raced a_spelled c_spelledMany a_image c_hasImage, k_I E a_now 265 c_now]
def v_f_X8_quietOnes : List Cond := List.cons (.code yX8_quietOnes cX8_quietOnes 3 (some .int)) (HAppend.hAppend (α := List Cond) (β := List Cond) (γ := List Cond) [.fieldLink RX8 196 "HushWatchModel" "sites" "I", .methodLink RX8 254 yX8_isQuiet, .instanceMethod yX8_isQuiet, .selects RX8 yX8_isQuiet yX8_isQuiet, .initialized RX8] (HAppend.hAppend (α := List Cond) (β := List Cond) (γ := List Cond) wsX80 (HAppend.hAppend (α := List Cond) (β := List Cond) (γ := List Cond) v_f_X8_isQuiet [])))
theorem gw_f_X8_quietOnes : v_f_X8_quietOnes.all goodWord = true := gw_c2 (by decide +kernel) (gw_ap gw_wsX80 (gw_ap gw_f_X8_isQuiet gw_nil))
theorem i_f_X8_quietOnes_X8 : ∀ w ∈ wsX80, w ∈ v_f_X8_quietOnes := fun _ h => List.mem_cons_of_mem _ (List.mem_append_right _ (List.mem_append_left _ h))
theorem g_f_X8_quietOnes_f_X8_isQuiet_254 : GoodIn v_f_X8_quietOnes (wsV RX8 254 RX8 yX8_isQuiet v_f_X8_isQuiet) := goodIn_in gw_f_X8_quietOnes (in4 2 3 4 5 rfl rfl rfl rfl (fun _ h => List.mem_cons_of_mem _ (List.mem_append_right _ (List.mem_append_right _ (List.mem_append_left _ h)))))
theorem hd_X8_quietOnes : yX8_quietOnes.cls = RX8 ∧ yX8_quietOnes.cls ≠ "java/lang/invoke/MethodHandle" ∧ yX8_quietOnes.cls ≠ "java/lang/invoke/VarHandle" ∧ (parseMethodDescriptor yX8_quietOnes.desc).map (fun d => d.parameters.length) = some 0 := by decide +kernel
set_option maxHeartbeats 4000000 in
set_option maxRecDepth 100000 in
theorem wb_X8_quietOnes_4 {p : Program} (l : Launch) {e : Env} {s : State} {m : MethodId} {below : List Frame} {meth : Method} {c : Code} {Q : State → Prop} (E : EE) (K : Nat) {a_ a_tape a_readPlace a_script a_scriptLong a_now a_refused a_shareX a_shareY a_askedRow a_kept a_aside a_spelled a_image : Nat} {c_thrown : Int32} {c_taped : Int32} {c_at : Int32} {c_part : Int32} {c_partFrom : Int32} {c_partNumber : Int32} {c_wrong : Int32} {c_partWord : Int64} {c_readLaw : Int32} {c_readBound : Int32} {c_readGoal : Int32} {c_readSites : Int32} {c_scripts : Int32} {c_sites : Int32} {c_asked : Int32} {c_outcome : Int32} {c_took : Int32} {c_acts : Int32} {c_drawn : Int64} {c_racer : Int32} {c_raced : Int32} {c_spelledMany : Int32} {c_hasImage : Int32} {c_now : Nat → Int32} {x1 : Int32} {x2 : Int32} (hx : p.tables.exec = Jvm.exec) (hb : c.code = cX8_quietOnes) (hml : c.maxLocals = 3) (hown : s.vm.findClass RX8 = some m.cls) (hts : ∀ w ∈ v_f_X8_quietOnes, w.before #[Value.ref a_] s = true) (hK : va_K E.1 vwCl (TY E) s) (hN : NX s) {xx : (Int32 × Int32) ⊕ (Int32)} (hC : ∀ (x1 : Int32), ∀ (x2 : Int32), xx = .inl (x1, x2) → ∀ (ls : Array Slot), lv_has ls 3 [(0, .ref a_), (1, .int x1), (2, .int x2)] → W p l e ({ frames := 4, cells := 0, slots := 0, locals := 93 } : Room) s m #[Value.ref a_] below meth c s.heap [] 0 0 Q (F0 m 4 ls [])) (hE : ∀ (x1 : Int32), xx = .inr x1 → ((∀ (ls : Array Slot), lv_has ls 3 [(1, .int x1)] → W p l e ({ frames := 4, cells := 0, slots := 0, locals := 93 } : Room) s m #[Value.ref a_] below meth c s.heap [] 0 0 Q (F0 m 36 ls [])))) (hF : B_X8_quietOnes_4 K c_sites c_now x1 x2 = some xx) (hP : va_P E.1 vwCl (w_X8_quietOnes E a_ a_tape a_readPlace a_script a_scriptLong a_now a_refused a_shareX a_shareY a_askedRow a_kept a_aside a_spelled a_image c_thrown c_taped c_at c_part c_partFrom c_partNumber c_wrong c_partWord c_readLaw c_readBound c_readGoal c_readSites c_scripts c_sites c_asked c_outcome c_took c_acts c_drawn c_racer c_raced c_spelledMany c_hasImage c_now) s.heap) : ∀ (ls : Array Slot), lv_has ls 3 [(0, .ref a_), (1, .int x1), (2, .int x2)] → W p l e ({ frames := 4, cells := 0, slots := 0, locals := 93 } : Room) s m #[Value.ref a_] below meth c s.heap [] 0 0 Q (F0 m 4 ls []) := by
  unfold B_X8_quietOnes_4 at hF
  replace hP : va_P E.1 vwCl [k_X8 a_ c_thrown a_tape c_taped c_at c_part c_partFrom c_partNumber c_wrong c_partWord c_readLaw c_readBound c_readGoal c_readSites a_readPlace a_script a_scriptLong c_scripts a_now a_refused c_sites a_shareX a_shareY c_asked c_outcome a_askedRow c_took a_kept c_acts c_drawn a_aside c_racer c_raced a_spelled c_spelledMany a_image c_hasImage, k_I E a_now 265 c_now] s.heap := hP
  intro ls hl
  refine lv_iload_n hx hb (dq_28 0 bcX8_quietOnes_0 (j := 4) rfl rfl) rfl (lv_at hl 2 rfl) ?_
  refine lv_aload_n hx hb (dq_42 0 bcX8_quietOnes_0 (j := 5) rfl rfl) rfl (lv_at hl 0 rfl) ?_
  refine gt_X8_19 (v := .int c_sites) hx hb hts i_f_X8_quietOnes_X8 hown hK hP 0 rfl (hts (.fieldLink RX8 196 "HushWatchModel" "sites" "I") (List.mem_of_getElem? (i := 1) rfl)) rfl (dq_180 0 bcX8_quietOnes_0 (j := 6) (i := 196) rfl rfl rfl) ?_
  refine lv_icmp_ge (tgt := 36) hx hb (dq_162 0 bcX8_quietOnes_0 (j := 9) (i := 27) rfl rfl rfl) (by decide) (fun c_1 => ?_) (fun c_1 => ?_)
  ·
    replace hF := ip c_1 hF
    cases hF
    exact hE x1 rfl ls (lv_sub hl [1] rfl)
  ·
    replace hF := inn c_1 hF
    refine lv_iload_n hx hb (dq_27 0 bcX8_quietOnes_0 (j := 12) rfl rfl) rfl (lv_at hl 1 rfl) ?_
    refine lv_aload_n hx hb (dq_42 0 bcX8_quietOnes_0 (j := 13) rfl rfl) rfl (lv_at hl 0 rfl) ?_
    refine lv_iload_n hx hb (dq_28 0 bcX8_quietOnes_0 (j := 14) rfl rfl) rfl (lv_at hl 2 rfl) ?_
    replace hF := bd1_s hF
    obtain ⟨r_2, hc_3, hF⟩ := hF
    have hPc : va_P E.1 vwCl (w_X8_isQuiet E a_ a_tape a_readPlace a_script a_scriptLong a_now a_refused a_shareX a_shareY a_askedRow a_kept a_aside a_spelled a_image c_thrown c_taped c_at c_part c_partFrom c_partNumber c_wrong c_partWord c_readLaw c_readBound c_readGoal c_readSites c_scripts c_sites c_asked c_outcome c_took c_acts c_drawn c_racer c_raced c_spelledMany c_hasImage c_now) s.heap := hP.sub (ws' := [k_X8 a_ c_thrown a_tape c_taped c_at c_part c_partFrom c_partNumber c_wrong c_partWord c_readLaw c_readBound c_readGoal c_readSites a_readPlace a_script a_scriptLong c_scripts a_now a_refused c_sites a_shareX a_shareY c_asked c_outcome a_askedRow c_took a_kept c_acts c_drawn a_aside c_racer c_raced a_spelled c_spelledMany a_image c_hasImage, k_I E a_now 265 c_now]) [0, 1] rfl
    have hrc := va_recv hK hPc (ci := 9) (q0 := 0) rfl rfl
    refine pE_z (va_runV (As := [.int x2]) (rest := [.int x1])  ⟨hx, hb, hml, hown, hts⟩ (f_X8_isQuiet l E K (a_ := a_) (a_tape := a_tape) (a_readPlace := a_readPlace) (a_script := a_script) (a_scriptLong := a_scriptLong) (a_now := a_now) (a_refused := a_refused) (a_shareX := a_shareX) (a_shareY := a_shareY) (a_askedRow := a_askedRow) (a_kept := a_kept) (a_aside := a_aside) (a_spelled := a_spelled) (a_image := a_image) (p1 := x2) (c_thrown := c_thrown) (c_taped := c_taped) (c_at := c_at) (c_part := c_part) (c_partFrom := c_partFrom) (c_partNumber := c_partNumber) (c_wrong := c_wrong) (c_partWord := c_partWord) (c_readLaw := c_readLaw) (c_readBound := c_readBound) (c_readGoal := c_readGoal) (c_readSites := c_readSites) (c_scripts := c_scripts) (c_sites := c_sites) (c_asked := c_asked) (c_outcome := c_outcome) (c_took := c_took) (c_acts := c_acts) (c_drawn := c_drawn) (c_racer := c_racer) (c_raced := c_raced) (c_spelledMany := c_spelledMany) (c_hasImage := c_hasImage) (c_now := c_now) hc_3) (cwV 1 hts g_f_X8_quietOnes_f_X8_isQuiet_254 rfl rfl rfl hd_X8_isQuiet ⟨Nat.le_of_ble_eq_true rfl, Nat.le_of_ble_eq_true rfl⟩) ⟨pP.blind, hrc, (pP.pre ⟨hK, hN⟩ hPc)⟩ rfl rfl hl.1 rfl (lv_room (Nat.le_of_ble_eq_true rfl)) (dq_182 0 bcX8_quietOnes_0 (j := 15) (i := 254) rfl rfl rfl) ⟨Nat.le_of_ble_eq_true rfl, Nat.le_of_ble_eq_true rfl⟩) (fun hb_4 => ?_)
    refine lv_if_eq (tgt := 27) hx hb (dq_153 0 bcX8_quietOnes_0 (j := 18) (i := 9) rfl rfl rfl) (by decide) (fun c_5 => ?_) (fun c_5 => ?_)
    ·
      replace hF := ip c_5 hF
      refine lv_iconst (v := 0) hx hb (dq_3 0 bcX8_quietOnes_0 (j := 27) rfl rfl) (by decide) ?_
      refine lv_ior hx hb (dq_128 0 bcX8_quietOnes_0 (j := 28) rfl rfl) ?_
      refine lv_istore_n (lv' := [(1, .int (x1 ||| (0 : Int32))), (0, .ref a_), (2, .int x2)]) hx hb (dq_60 0 bcX8_quietOnes_0 (j := 29) rfl rfl) rfl hl (by decide) rfl (fun ls hl => ?_)
      refine lv_iinc (v := x2 + (1 : Int32)) (lv' := [(2, .int (x2 + (1 : Int32))), (1, .int (x1 ||| (0 : Int32))), (0, .ref a_)]) hx hb (dq_132 0 bcX8_quietOnes_0 (j := 30) (i := 1) rfl rfl rfl) hl (k := 2) rfl (rfl) (by decide) rfl (fun ls hl => ?_)
      refine lv_goto (tgt := 4) hx hb (dq_167 0 bcX8_quietOnes_0 (j := 33) (i := -29) rfl rfl rfl) (by decide) ?_
      cases hF
      exact hC (x1 ||| (0 : Int32)) (x2 + (1 : Int32)) rfl ls (lv_sub hl [2, 1, 0] rfl)
    ·
      replace hF := inn c_5 hF
      refine lv_iconst (v := 1) hx hb (dq_4 0 bcX8_quietOnes_0 (j := 21) rfl rfl) (by decide) ?_
      refine lv_iload_n hx hb (dq_28 0 bcX8_quietOnes_0 (j := 22) rfl rfl) rfl (lv_at hl 2 rfl) ?_
      refine lv_ishl hx hb (dq_120 0 bcX8_quietOnes_0 (j := 23) rfl rfl) ?_
      refine lv_goto (tgt := 28) hx hb (dq_167 0 bcX8_quietOnes_0 (j := 24) (i := 4) rfl rfl rfl) (by decide) ?_
      refine lv_ior hx hb (dq_128 0 bcX8_quietOnes_0 (j := 28) rfl rfl) ?_
      refine lv_istore_n (lv' := [(1, .int (x1 ||| ((1 : Int32) <<< (x2 &&& (31 : Int32))))), (0, .ref a_), (2, .int x2)]) hx hb (dq_60 0 bcX8_quietOnes_0 (j := 29) rfl rfl) rfl hl (by decide) rfl (fun ls hl => ?_)
      refine lv_iinc (v := x2 + (1 : Int32)) (lv' := [(2, .int (x2 + (1 : Int32))), (1, .int (x1 ||| ((1 : Int32) <<< (x2 &&& (31 : Int32))))), (0, .ref a_)]) hx hb (dq_132 0 bcX8_quietOnes_0 (j := 30) (i := 1) rfl rfl rfl) hl (k := 2) rfl (rfl) (by decide) rfl (fun ls hl => ?_)
      refine lv_goto (tgt := 4) hx hb (dq_167 0 bcX8_quietOnes_0 (j := 33) (i := -29) rfl rfl rfl) (by decide) ?_
      cases hF
      exact hC (x1 ||| ((1 : Int32) <<< (x2 &&& (31 : Int32)))) (x2 + (1 : Int32)) rfl ls (lv_sub hl [2, 1, 0] rfl)

set_option maxHeartbeats 4000000 in
set_option maxRecDepth 100000 in
theorem lw_X8_quietOnes_4 {p : Program} (l : Launch) {e : Env} {s : State} {m : MethodId} {below : List Frame} {meth : Method} {c : Code} {Q : State → Prop} (E : EE) (K : Nat) {a_ a_tape a_readPlace a_script a_scriptLong a_now a_refused a_shareX a_shareY a_askedRow a_kept a_aside a_spelled a_image : Nat} {c_thrown : Int32} {c_taped : Int32} {c_at : Int32} {c_part : Int32} {c_partFrom : Int32} {c_partNumber : Int32} {c_wrong : Int32} {c_partWord : Int64} {c_readLaw : Int32} {c_readBound : Int32} {c_readGoal : Int32} {c_readSites : Int32} {c_scripts : Int32} {c_sites : Int32} {c_asked : Int32} {c_outcome : Int32} {c_took : Int32} {c_acts : Int32} {c_drawn : Int64} {c_racer : Int32} {c_raced : Int32} {c_spelledMany : Int32} {c_hasImage : Int32} {c_now : Nat → Int32} (hx : p.tables.exec = Jvm.exec) (hb : c.code = cX8_quietOnes) (hml : c.maxLocals = 3) (hown : s.vm.findClass RX8 = some m.cls) (hts : ∀ w ∈ v_f_X8_quietOnes, w.before #[Value.ref a_] s = true) (hK : va_K E.1 vwCl (TY E) s) (hN : NX s) (hP : va_P E.1 vwCl (w_X8_quietOnes E a_ a_tape a_readPlace a_script a_scriptLong a_now a_refused a_shareX a_shareY a_askedRow a_kept a_aside a_spelled a_image c_thrown c_taped c_at c_part c_partFrom c_partNumber c_wrong c_partWord c_readLaw c_readBound c_readGoal c_readSites c_scripts c_sites c_asked c_outcome c_took c_acts c_drawn c_racer c_raced c_spelledMany c_hasImage c_now) s.heap) (j9 : Nat) (x1 : Int32) (x2 : Int32) (x1' : Int32) (hL : lpF (fun u9 : Int32 × Int32 => B_X8_quietOnes_4 K c_sites c_now u9.1 u9.2) j9 (x1, x2) = some x1') (hX : (∀ (ls : Array Slot), lv_has ls 3 [(1, .int x1')] → W p l e ({ frames := 4, cells := 0, slots := 0, locals := 93 } : Room) s m #[Value.ref a_] below meth c s.heap [] 0 0 Q (F0 m 36 ls []))) : ∀ (ls : Array Slot), lv_has ls 3 [(0, .ref a_), (1, .int x1), (2, .int x2)] → W p l e ({ frames := 4, cells := 0, slots := 0, locals := 93 } : Room) s m #[Value.ref a_] below meth c s.heap [] 0 0 Q (F0 m 4 ls []) := by
  exact lp_rule (P := (fun u9 : Int32 × Int32 => ∀ (ls : Array Slot), lv_has ls 3 [(0, .ref a_), (1, .int u9.1), (2, .int u9.2)] → W p l e ({ frames := 4, cells := 0, slots := 0, locals := 93 } : Room) s m #[Value.ref a_] below meth c s.heap [] 0 0 Q (F0 m 4 ls []))) (R := (fun r9 : Int32 => (∀ (ls : Array Slot), lv_has ls 3 [(1, .int r9)] → W p l e ({ frames := 4, cells := 0, slots := 0, locals := 93 } : Room) s m #[Value.ref a_] below meth c s.heap [] 0 0 Q (F0 m 36 ls [])))) (fun u9 xx hF hC hE => wb_X8_quietOnes_4 l E K (c_thrown := c_thrown) (c_taped := c_taped) (c_at := c_at) (c_part := c_part) (c_partFrom := c_partFrom) (c_partNumber := c_partNumber) (c_wrong := c_wrong) (c_partWord := c_partWord) (c_readLaw := c_readLaw) (c_readBound := c_readBound) (c_readGoal := c_readGoal) (c_readSites := c_readSites) (c_scripts := c_scripts) (c_sites := c_sites) (c_asked := c_asked) (c_outcome := c_outcome) (c_took := c_took) (c_acts := c_acts) (c_drawn := c_drawn) (c_racer := c_racer) (c_raced := c_raced) (c_spelledMany := c_spelledMany) (c_hasImage := c_hasImage) (c_now := c_now) (x1 := u9.1) (x2 := u9.2) hx hb hml hown hts hK hN (fun x1 x2 q9 => hC _ q9) (fun x1 q9 => hE _ q9) hF hP) j9 (x1, x2) x1' hL hX

set_option maxHeartbeats 4000000 in
set_option maxRecDepth 100000 in
theorem f_X8_quietOnes (l : Launch) (E : EE) (K : Nat) {a_ a_tape a_readPlace a_script a_scriptLong a_now a_refused a_shareX a_shareY a_askedRow a_kept a_aside a_spelled a_image : Nat} {c_thrown : Int32} {c_taped : Int32} {c_at : Int32} {c_part : Int32} {c_partFrom : Int32} {c_partNumber : Int32} {c_wrong : Int32} {c_partWord : Int64} {c_readLaw : Int32} {c_readBound : Int32} {c_readGoal : Int32} {c_readSites : Int32} {c_scripts : Int32} {c_sites : Int32} {c_asked : Int32} {c_outcome : Int32} {c_took : Int32} {c_acts : Int32} {c_drawn : Int64} {c_racer : Int32} {c_raced : Int32} {c_spelledMany : Int32} {c_hasImage : Int32} {c_now : Nat → Int32} {rr : Int32} (hF : F_X8_quietOnes K c_now c_sites = some rr) : Met l yX8_quietOnes v_f_X8_quietOnes (({ frames := 4, cells := 0, slots := 0, locals := 93 } : Room)) (va_Pc [.ref a_] (pP E (w_X8_quietOnes E a_ a_tape a_readPlace a_script a_scriptLong a_now a_refused a_shareX a_shareY a_askedRow a_kept a_aside a_spelled a_image c_thrown c_taped c_at c_part c_partFrom c_partNumber c_wrong c_partWord c_readLaw c_readBound c_readGoal c_readSites c_scripts c_sites c_asked c_outcome c_took c_acts c_drawn c_racer c_raced c_spelledMany c_hasImage c_now))) (vp_Si (fun q : Int32 => q = rr)) 0 0 (fun _ => False) := by
  refine Met.ofW (cc := cX8_quietOnes) (maxL := 3) (ret := (some .int)) (by decide) rfl ?_
  intro p e s m args below meth c s₁ B hml hv
  obtain ⟨rfl, ⟨hK, hN⟩, hP⟩ := hv
  have hx := B.exec
  have hb := B.bytes
  have hr := B.returns
  have hts := atoms_spec (ws := v_f_X8_quietOnes) B.pre
  have hown : s.vm.findClass RX8 = some m.cls := own_of hd_X8_quietOnes.1 (findClass_of_methodNamed B.named)
  have hlocks : meth.locks = false := B.notSynchronized
  replace hP : va_P E.1 vwCl [k_X8 a_ c_thrown a_tape c_taped c_at c_part c_partFrom c_partNumber c_wrong c_partWord c_readLaw c_readBound c_readGoal c_readSites a_readPlace a_script a_scriptLong c_scripts a_now a_refused c_sites a_shareX a_shareY c_asked c_outcome a_askedRow c_took a_kept c_acts c_drawn a_aside c_racer c_raced a_spelled c_spelledMany a_image c_hasImage, k_I E a_now 265 c_now] s.heap := hP
  have hl := lv_entry ([.ref a_]) (n := 3) (Nat.le_of_ble_eq_true rfl)
  rw [lg_entry_eq]
  generalize (lg_sl ([.ref a_]) ++ List.replicate (3 - (lg_sl ([.ref a_])).length) Slot.unset).toArray = ls at hl ⊢
  have hl : lv_has ls 3 [(0, .ref a_)] := hl
  obtain ⟨Q, hQ⟩ : ∃ Q : State → Prop, Q = MQ below (vp_Si (fun q : Int32 => q = rr)) #[Value.ref a_] s 0 0 (fun _ => False) := ⟨_, rfl⟩
  rw [← hQ]
  change W p l e ({ frames := 4, cells := 0, slots := 0, locals := 93 } : Room) s m #[Value.ref a_] below meth c s.heap [] 0 0 Q (F0 m 0 ls [])
  unfold F_X8_quietOnes at hF
  refine lv_iconst (v := 0) hx hb (dq_3 0 bcX8_quietOnes_0 (j := 0) rfl rfl) (by decide) ?_
  refine lv_istore_n (lv' := [(1, .int (0 : Int32)), (0, .ref a_)]) hx hb (dq_60 0 bcX8_quietOnes_0 (j := 1) rfl rfl) rfl hl (by decide) rfl (fun ls hl => ?_)
  refine lv_iconst (v := 0) hx hb (dq_3 0 bcX8_quietOnes_0 (j := 2) rfl rfl) (by decide) ?_
  refine lv_istore_n (lv' := [(2, .int (0 : Int32)), (1, .int (0 : Int32)), (0, .ref a_)]) hx hb (dq_61 0 bcX8_quietOnes_0 (j := 3) rfl rfl) rfl hl (by decide) rfl (fun ls hl => ?_)
  replace hF := bd1_s hF
  obtain ⟨x1_6, hL_7, hF⟩ := hF
  refine lw_X8_quietOnes_4 l E K (c_thrown := c_thrown) (c_taped := c_taped) (c_at := c_at) (c_part := c_part) (c_partFrom := c_partFrom) (c_partNumber := c_partNumber) (c_wrong := c_wrong) (c_partWord := c_partWord) (c_readLaw := c_readLaw) (c_readBound := c_readBound) (c_readGoal := c_readGoal) (c_readSites := c_readSites) (c_scripts := c_scripts) (c_sites := c_sites) (c_asked := c_asked) (c_outcome := c_outcome) (c_took := c_took) (c_acts := c_acts) (c_drawn := c_drawn) (c_racer := c_racer) (c_raced := c_raced) (c_spelledMany := c_spelledMany) (c_hasImage := c_hasImage) (c_now := c_now) hx hb hml hown hts hK hN hP K (0 : Int32) (0 : Int32) x1_6 hL_7 ?_ ls (lv_sub hl [2, 1, 0] rfl)
  ·
    intro ls hl
    refine lv_iload_n hx hb (dq_27 0 bcX8_quietOnes_0 (j := 36) rfl rfl) rfl (lv_at hl 0 rfl) ?_
    rw [hQ]
    obtain e9_0 := inj1 hF
    exact W.iret (v := x1_6) hx hb hr (fun tt ht hW => ⟨_, rfl, e9_0, ht⟩) (fun _ h => by cases h) (dq_172 0 bcX8_quietOnes_0 (j := 37) rfl rfl)

def B_X8_slackOnes_4 (c_sites : Int32) (c_now : Nat → Int32) (x1 : Int32) (x2 : Int32) : Option ((Int32 × Int32) ⊕ (Int32)) :=
  if c_sites ≤ x2 then some (.inr x1) else bd1 (F_X8_slackOf x2 c_now) (fun r_2 => if r_2 ≤ (0 : Int32) then some (.inl (x1 ||| (0 : Int32), x2 + (1 : Int32))) else some (.inl (x1 ||| ((1 : Int32) <<< (x2 &&& (31 : Int32))), x2 + (1 : Int32))))
def F_X8_slackOnes (K : Nat) (c_now : Nat → Int32) (c_sites : Int32) : Option (Int32) :=
  bd1 (lpF (fun u9 : Int32 × Int32 => B_X8_slackOnes_4 c_sites c_now u9.1 u9.2) K ((0 : Int32), (0 : Int32))) (fun x1_5 => some x1_5)
abbrev w_X8_slackOnes (E : EE) (a_ a_tape a_readPlace a_script a_scriptLong a_now a_refused a_shareX a_shareY a_askedRow a_kept a_aside a_spelled a_image : Nat) (c_thrown : Int32) (c_taped : Int32) (c_at : Int32) (c_part : Int32) (c_partFrom : Int32) (c_partNumber : Int32) (c_wrong : Int32) (c_partWord : Int64) (c_readLaw : Int32) (c_readBound : Int32) (c_readGoal : Int32) (c_readSites : Int32) (c_scripts : Int32) (c_sites : Int32) (c_asked : Int32) (c_outcome : Int32) (c_took : Int32) (c_acts : Int32) (c_drawn : Int64) (c_racer : Int32) (c_raced : Int32) (c_spelledMany : Int32) (c_hasImage : Int32) (c_now : Nat → Int32) : va_W := [k_X8 a_ c_thrown a_tape c_taped c_at c_part c_partFrom c_partNumber c_wrong c_partWord c_readLaw c_readBound c_readGoal c_readSites a_readPlace a_script a_scriptLong c_scripts a_now a_refused c_sites a_shareX a_shareY c_asked c_outcome a_askedRow c_took a_kept c_acts c_drawn a_aside c_racer c_raced a_spelled c_spelledMany a_image c_hasImage, k_I E a_now 265 c_now]
def v_f_X8_slackOnes : List Cond := List.cons (.code yX8_slackOnes cX8_slackOnes 3 (some .int)) (HAppend.hAppend (α := List Cond) (β := List Cond) (γ := List Cond) [.fieldLink RX8 196 "HushWatchModel" "sites" "I", .methodLink RX8 420 yX8_slackOf, .instanceMethod yX8_slackOf, .selects RX8 yX8_slackOf yX8_slackOf, .initialized RX8] (HAppend.hAppend (α := List Cond) (β := List Cond) (γ := List Cond) wsX80 (HAppend.hAppend (α := List Cond) (β := List Cond) (γ := List Cond) v_f_X8_slackOf [])))
theorem gw_f_X8_slackOnes : v_f_X8_slackOnes.all goodWord = true := gw_c2 (by decide +kernel) (gw_ap gw_wsX80 (gw_ap gw_f_X8_slackOf gw_nil))
theorem i_f_X8_slackOnes_X8 : ∀ w ∈ wsX80, w ∈ v_f_X8_slackOnes := fun _ h => List.mem_cons_of_mem _ (List.mem_append_right _ (List.mem_append_left _ h))
theorem g_f_X8_slackOnes_f_X8_slackOf_420 : GoodIn v_f_X8_slackOnes (wsV RX8 420 RX8 yX8_slackOf v_f_X8_slackOf) := goodIn_in gw_f_X8_slackOnes (in4 2 3 4 5 rfl rfl rfl rfl (fun _ h => List.mem_cons_of_mem _ (List.mem_append_right _ (List.mem_append_right _ (List.mem_append_left _ h)))))
theorem hd_X8_slackOnes : yX8_slackOnes.cls = RX8 ∧ yX8_slackOnes.cls ≠ "java/lang/invoke/MethodHandle" ∧ yX8_slackOnes.cls ≠ "java/lang/invoke/VarHandle" ∧ (parseMethodDescriptor yX8_slackOnes.desc).map (fun d => d.parameters.length) = some 0 := by decide +kernel
set_option maxHeartbeats 4000000 in
set_option maxRecDepth 100000 in
theorem wb_X8_slackOnes_4 {p : Program} (l : Launch) {e : Env} {s : State} {m : MethodId} {below : List Frame} {meth : Method} {c : Code} {Q : State → Prop} (E : EE) (K : Nat) {a_ a_tape a_readPlace a_script a_scriptLong a_now a_refused a_shareX a_shareY a_askedRow a_kept a_aside a_spelled a_image : Nat} {c_thrown : Int32} {c_taped : Int32} {c_at : Int32} {c_part : Int32} {c_partFrom : Int32} {c_partNumber : Int32} {c_wrong : Int32} {c_partWord : Int64} {c_readLaw : Int32} {c_readBound : Int32} {c_readGoal : Int32} {c_readSites : Int32} {c_scripts : Int32} {c_sites : Int32} {c_asked : Int32} {c_outcome : Int32} {c_took : Int32} {c_acts : Int32} {c_drawn : Int64} {c_racer : Int32} {c_raced : Int32} {c_spelledMany : Int32} {c_hasImage : Int32} {c_now : Nat → Int32} {x1 : Int32} {x2 : Int32} (hx : p.tables.exec = Jvm.exec) (hb : c.code = cX8_slackOnes) (hml : c.maxLocals = 3) (hown : s.vm.findClass RX8 = some m.cls) (hts : ∀ w ∈ v_f_X8_slackOnes, w.before #[Value.ref a_] s = true) (hK : va_K E.1 vwCl (TY E) s) (hN : NX s) {xx : (Int32 × Int32) ⊕ (Int32)} (hC : ∀ (x1 : Int32), ∀ (x2 : Int32), xx = .inl (x1, x2) → ∀ (ls : Array Slot), lv_has ls 3 [(0, .ref a_), (1, .int x1), (2, .int x2)] → W p l e ({ frames := 2, cells := 0, slots := 0, locals := 41 } : Room) s m #[Value.ref a_] below meth c s.heap [] 0 0 Q (F0 m 4 ls [])) (hE : ∀ (x1 : Int32), xx = .inr x1 → ((∀ (ls : Array Slot), lv_has ls 3 [(1, .int x1)] → W p l e ({ frames := 2, cells := 0, slots := 0, locals := 41 } : Room) s m #[Value.ref a_] below meth c s.heap [] 0 0 Q (F0 m 36 ls [])))) (hF : B_X8_slackOnes_4 c_sites c_now x1 x2 = some xx) (hP : va_P E.1 vwCl (w_X8_slackOnes E a_ a_tape a_readPlace a_script a_scriptLong a_now a_refused a_shareX a_shareY a_askedRow a_kept a_aside a_spelled a_image c_thrown c_taped c_at c_part c_partFrom c_partNumber c_wrong c_partWord c_readLaw c_readBound c_readGoal c_readSites c_scripts c_sites c_asked c_outcome c_took c_acts c_drawn c_racer c_raced c_spelledMany c_hasImage c_now) s.heap) : ∀ (ls : Array Slot), lv_has ls 3 [(0, .ref a_), (1, .int x1), (2, .int x2)] → W p l e ({ frames := 2, cells := 0, slots := 0, locals := 41 } : Room) s m #[Value.ref a_] below meth c s.heap [] 0 0 Q (F0 m 4 ls []) := by
  unfold B_X8_slackOnes_4 at hF
  replace hP : va_P E.1 vwCl [k_X8 a_ c_thrown a_tape c_taped c_at c_part c_partFrom c_partNumber c_wrong c_partWord c_readLaw c_readBound c_readGoal c_readSites a_readPlace a_script a_scriptLong c_scripts a_now a_refused c_sites a_shareX a_shareY c_asked c_outcome a_askedRow c_took a_kept c_acts c_drawn a_aside c_racer c_raced a_spelled c_spelledMany a_image c_hasImage, k_I E a_now 265 c_now] s.heap := hP
  intro ls hl
  refine lv_iload_n hx hb (dq_28 0 bcX8_slackOnes_0 (j := 4) rfl rfl) rfl (lv_at hl 2 rfl) ?_
  refine lv_aload_n hx hb (dq_42 0 bcX8_slackOnes_0 (j := 5) rfl rfl) rfl (lv_at hl 0 rfl) ?_
  refine gt_X8_19 (v := .int c_sites) hx hb hts i_f_X8_slackOnes_X8 hown hK hP 0 rfl (hts (.fieldLink RX8 196 "HushWatchModel" "sites" "I") (List.mem_of_getElem? (i := 1) rfl)) rfl (dq_180 0 bcX8_slackOnes_0 (j := 6) (i := 196) rfl rfl rfl) ?_
  refine lv_icmp_ge (tgt := 36) hx hb (dq_162 0 bcX8_slackOnes_0 (j := 9) (i := 27) rfl rfl rfl) (by decide) (fun c_1 => ?_) (fun c_1 => ?_)
  ·
    replace hF := ip c_1 hF
    cases hF
    exact hE x1 rfl ls (lv_sub hl [1] rfl)
  ·
    replace hF := inn c_1 hF
    refine lv_iload_n hx hb (dq_27 0 bcX8_slackOnes_0 (j := 12) rfl rfl) rfl (lv_at hl 1 rfl) ?_
    refine lv_aload_n hx hb (dq_42 0 bcX8_slackOnes_0 (j := 13) rfl rfl) rfl (lv_at hl 0 rfl) ?_
    refine lv_iload_n hx hb (dq_28 0 bcX8_slackOnes_0 (j := 14) rfl rfl) rfl (lv_at hl 2 rfl) ?_
    replace hF := bd1_s hF
    obtain ⟨r_2, hc_3, hF⟩ := hF
    have hPc : va_P E.1 vwCl (w_X8_slackOf E a_ a_tape a_readPlace a_script a_scriptLong a_now a_refused a_shareX a_shareY a_askedRow a_kept a_aside a_spelled a_image c_thrown c_taped c_at c_part c_partFrom c_partNumber c_wrong c_partWord c_readLaw c_readBound c_readGoal c_readSites c_scripts c_sites c_asked c_outcome c_took c_acts c_drawn c_racer c_raced c_spelledMany c_hasImage c_now) s.heap := hP.sub (ws' := [k_X8 a_ c_thrown a_tape c_taped c_at c_part c_partFrom c_partNumber c_wrong c_partWord c_readLaw c_readBound c_readGoal c_readSites a_readPlace a_script a_scriptLong c_scripts a_now a_refused c_sites a_shareX a_shareY c_asked c_outcome a_askedRow c_took a_kept c_acts c_drawn a_aside c_racer c_raced a_spelled c_spelledMany a_image c_hasImage, k_I E a_now 265 c_now]) [0, 1] rfl
    have hrc := va_recv hK hPc (ci := 9) (q0 := 0) rfl rfl
    refine pE_i (va_runV (As := [.int x2]) (rest := [.int x1])  ⟨hx, hb, hml, hown, hts⟩ (f_X8_slackOf l E (a_ := a_) (a_tape := a_tape) (a_readPlace := a_readPlace) (a_script := a_script) (a_scriptLong := a_scriptLong) (a_now := a_now) (a_refused := a_refused) (a_shareX := a_shareX) (a_shareY := a_shareY) (a_askedRow := a_askedRow) (a_kept := a_kept) (a_aside := a_aside) (a_spelled := a_spelled) (a_image := a_image) (p1 := x2) (c_thrown := c_thrown) (c_taped := c_taped) (c_at := c_at) (c_part := c_part) (c_partFrom := c_partFrom) (c_partNumber := c_partNumber) (c_wrong := c_wrong) (c_partWord := c_partWord) (c_readLaw := c_readLaw) (c_readBound := c_readBound) (c_readGoal := c_readGoal) (c_readSites := c_readSites) (c_scripts := c_scripts) (c_sites := c_sites) (c_asked := c_asked) (c_outcome := c_outcome) (c_took := c_took) (c_acts := c_acts) (c_drawn := c_drawn) (c_racer := c_racer) (c_raced := c_raced) (c_spelledMany := c_spelledMany) (c_hasImage := c_hasImage) (c_now := c_now) hc_3) (cwV 1 hts g_f_X8_slackOnes_f_X8_slackOf_420 rfl rfl rfl hd_X8_slackOf ⟨Nat.le_of_ble_eq_true rfl, Nat.le_of_ble_eq_true rfl⟩) ⟨pP.blind, hrc, (pP.pre ⟨hK, hN⟩ hPc)⟩ rfl rfl hl.1 rfl (lv_room (Nat.le_of_ble_eq_true rfl)) (dq_182 0 bcX8_slackOnes_0 (j := 15) (i := 420) rfl rfl rfl) ⟨Nat.le_of_ble_eq_true rfl, Nat.le_of_ble_eq_true rfl⟩) ?_
    refine lv_if_le (tgt := 27) hx hb (dq_158 0 bcX8_slackOnes_0 (j := 18) (i := 9) rfl rfl rfl) (by decide) (fun c_4 => ?_) (fun c_4 => ?_)
    ·
      replace hF := ip c_4 hF
      refine lv_iconst (v := 0) hx hb (dq_3 0 bcX8_slackOnes_0 (j := 27) rfl rfl) (by decide) ?_
      refine lv_ior hx hb (dq_128 0 bcX8_slackOnes_0 (j := 28) rfl rfl) ?_
      refine lv_istore_n (lv' := [(1, .int (x1 ||| (0 : Int32))), (0, .ref a_), (2, .int x2)]) hx hb (dq_60 0 bcX8_slackOnes_0 (j := 29) rfl rfl) rfl hl (by decide) rfl (fun ls hl => ?_)
      refine lv_iinc (v := x2 + (1 : Int32)) (lv' := [(2, .int (x2 + (1 : Int32))), (1, .int (x1 ||| (0 : Int32))), (0, .ref a_)]) hx hb (dq_132 0 bcX8_slackOnes_0 (j := 30) (i := 1) rfl rfl rfl) hl (k := 2) rfl (rfl) (by decide) rfl (fun ls hl => ?_)
      refine lv_goto (tgt := 4) hx hb (dq_167 0 bcX8_slackOnes_0 (j := 33) (i := -29) rfl rfl rfl) (by decide) ?_
      cases hF
      exact hC (x1 ||| (0 : Int32)) (x2 + (1 : Int32)) rfl ls (lv_sub hl [2, 1, 0] rfl)
    ·
      replace hF := inn c_4 hF
      refine lv_iconst (v := 1) hx hb (dq_4 0 bcX8_slackOnes_0 (j := 21) rfl rfl) (by decide) ?_
      refine lv_iload_n hx hb (dq_28 0 bcX8_slackOnes_0 (j := 22) rfl rfl) rfl (lv_at hl 2 rfl) ?_
      refine lv_ishl hx hb (dq_120 0 bcX8_slackOnes_0 (j := 23) rfl rfl) ?_
      refine lv_goto (tgt := 28) hx hb (dq_167 0 bcX8_slackOnes_0 (j := 24) (i := 4) rfl rfl rfl) (by decide) ?_
      refine lv_ior hx hb (dq_128 0 bcX8_slackOnes_0 (j := 28) rfl rfl) ?_
      refine lv_istore_n (lv' := [(1, .int (x1 ||| ((1 : Int32) <<< (x2 &&& (31 : Int32))))), (0, .ref a_), (2, .int x2)]) hx hb (dq_60 0 bcX8_slackOnes_0 (j := 29) rfl rfl) rfl hl (by decide) rfl (fun ls hl => ?_)
      refine lv_iinc (v := x2 + (1 : Int32)) (lv' := [(2, .int (x2 + (1 : Int32))), (1, .int (x1 ||| ((1 : Int32) <<< (x2 &&& (31 : Int32))))), (0, .ref a_)]) hx hb (dq_132 0 bcX8_slackOnes_0 (j := 30) (i := 1) rfl rfl rfl) hl (k := 2) rfl (rfl) (by decide) rfl (fun ls hl => ?_)
      refine lv_goto (tgt := 4) hx hb (dq_167 0 bcX8_slackOnes_0 (j := 33) (i := -29) rfl rfl rfl) (by decide) ?_
      cases hF
      exact hC (x1 ||| ((1 : Int32) <<< (x2 &&& (31 : Int32)))) (x2 + (1 : Int32)) rfl ls (lv_sub hl [2, 1, 0] rfl)

set_option maxHeartbeats 4000000 in
set_option maxRecDepth 100000 in
theorem lw_X8_slackOnes_4 {p : Program} (l : Launch) {e : Env} {s : State} {m : MethodId} {below : List Frame} {meth : Method} {c : Code} {Q : State → Prop} (E : EE) (K : Nat) {a_ a_tape a_readPlace a_script a_scriptLong a_now a_refused a_shareX a_shareY a_askedRow a_kept a_aside a_spelled a_image : Nat} {c_thrown : Int32} {c_taped : Int32} {c_at : Int32} {c_part : Int32} {c_partFrom : Int32} {c_partNumber : Int32} {c_wrong : Int32} {c_partWord : Int64} {c_readLaw : Int32} {c_readBound : Int32} {c_readGoal : Int32} {c_readSites : Int32} {c_scripts : Int32} {c_sites : Int32} {c_asked : Int32} {c_outcome : Int32} {c_took : Int32} {c_acts : Int32} {c_drawn : Int64} {c_racer : Int32} {c_raced : Int32} {c_spelledMany : Int32} {c_hasImage : Int32} {c_now : Nat → Int32} (hx : p.tables.exec = Jvm.exec) (hb : c.code = cX8_slackOnes) (hml : c.maxLocals = 3) (hown : s.vm.findClass RX8 = some m.cls) (hts : ∀ w ∈ v_f_X8_slackOnes, w.before #[Value.ref a_] s = true) (hK : va_K E.1 vwCl (TY E) s) (hN : NX s) (hP : va_P E.1 vwCl (w_X8_slackOnes E a_ a_tape a_readPlace a_script a_scriptLong a_now a_refused a_shareX a_shareY a_askedRow a_kept a_aside a_spelled a_image c_thrown c_taped c_at c_part c_partFrom c_partNumber c_wrong c_partWord c_readLaw c_readBound c_readGoal c_readSites c_scripts c_sites c_asked c_outcome c_took c_acts c_drawn c_racer c_raced c_spelledMany c_hasImage c_now) s.heap) (j9 : Nat) (x1 : Int32) (x2 : Int32) (x1' : Int32) (hL : lpF (fun u9 : Int32 × Int32 => B_X8_slackOnes_4 c_sites c_now u9.1 u9.2) j9 (x1, x2) = some x1') (hX : (∀ (ls : Array Slot), lv_has ls 3 [(1, .int x1')] → W p l e ({ frames := 2, cells := 0, slots := 0, locals := 41 } : Room) s m #[Value.ref a_] below meth c s.heap [] 0 0 Q (F0 m 36 ls []))) : ∀ (ls : Array Slot), lv_has ls 3 [(0, .ref a_), (1, .int x1), (2, .int x2)] → W p l e ({ frames := 2, cells := 0, slots := 0, locals := 41 } : Room) s m #[Value.ref a_] below meth c s.heap [] 0 0 Q (F0 m 4 ls []) := by
  exact lp_rule (P := (fun u9 : Int32 × Int32 => ∀ (ls : Array Slot), lv_has ls 3 [(0, .ref a_), (1, .int u9.1), (2, .int u9.2)] → W p l e ({ frames := 2, cells := 0, slots := 0, locals := 41 } : Room) s m #[Value.ref a_] below meth c s.heap [] 0 0 Q (F0 m 4 ls []))) (R := (fun r9 : Int32 => (∀ (ls : Array Slot), lv_has ls 3 [(1, .int r9)] → W p l e ({ frames := 2, cells := 0, slots := 0, locals := 41 } : Room) s m #[Value.ref a_] below meth c s.heap [] 0 0 Q (F0 m 36 ls [])))) (fun u9 xx hF hC hE => wb_X8_slackOnes_4 l E K (c_thrown := c_thrown) (c_taped := c_taped) (c_at := c_at) (c_part := c_part) (c_partFrom := c_partFrom) (c_partNumber := c_partNumber) (c_wrong := c_wrong) (c_partWord := c_partWord) (c_readLaw := c_readLaw) (c_readBound := c_readBound) (c_readGoal := c_readGoal) (c_readSites := c_readSites) (c_scripts := c_scripts) (c_sites := c_sites) (c_asked := c_asked) (c_outcome := c_outcome) (c_took := c_took) (c_acts := c_acts) (c_drawn := c_drawn) (c_racer := c_racer) (c_raced := c_raced) (c_spelledMany := c_spelledMany) (c_hasImage := c_hasImage) (c_now := c_now) (x1 := u9.1) (x2 := u9.2) hx hb hml hown hts hK hN (fun x1 x2 q9 => hC _ q9) (fun x1 q9 => hE _ q9) hF hP) j9 (x1, x2) x1' hL hX

set_option maxHeartbeats 4000000 in
set_option maxRecDepth 100000 in
theorem f_X8_slackOnes (l : Launch) (E : EE) (K : Nat) {a_ a_tape a_readPlace a_script a_scriptLong a_now a_refused a_shareX a_shareY a_askedRow a_kept a_aside a_spelled a_image : Nat} {c_thrown : Int32} {c_taped : Int32} {c_at : Int32} {c_part : Int32} {c_partFrom : Int32} {c_partNumber : Int32} {c_wrong : Int32} {c_partWord : Int64} {c_readLaw : Int32} {c_readBound : Int32} {c_readGoal : Int32} {c_readSites : Int32} {c_scripts : Int32} {c_sites : Int32} {c_asked : Int32} {c_outcome : Int32} {c_took : Int32} {c_acts : Int32} {c_drawn : Int64} {c_racer : Int32} {c_raced : Int32} {c_spelledMany : Int32} {c_hasImage : Int32} {c_now : Nat → Int32} {rr : Int32} (hF : F_X8_slackOnes K c_now c_sites = some rr) : Met l yX8_slackOnes v_f_X8_slackOnes (({ frames := 2, cells := 0, slots := 0, locals := 41 } : Room)) (va_Pc [.ref a_] (pP E (w_X8_slackOnes E a_ a_tape a_readPlace a_script a_scriptLong a_now a_refused a_shareX a_shareY a_askedRow a_kept a_aside a_spelled a_image c_thrown c_taped c_at c_part c_partFrom c_partNumber c_wrong c_partWord c_readLaw c_readBound c_readGoal c_readSites c_scripts c_sites c_asked c_outcome c_took c_acts c_drawn c_racer c_raced c_spelledMany c_hasImage c_now))) (vp_Si (fun q : Int32 => q = rr)) 0 0 (fun _ => False) := by
  refine Met.ofW (cc := cX8_slackOnes) (maxL := 3) (ret := (some .int)) (by decide) rfl ?_
  intro p e s m args below meth c s₁ B hml hv
  obtain ⟨rfl, ⟨hK, hN⟩, hP⟩ := hv
  have hx := B.exec
  have hb := B.bytes
  have hr := B.returns
  have hts := atoms_spec (ws := v_f_X8_slackOnes) B.pre
  have hown : s.vm.findClass RX8 = some m.cls := own_of hd_X8_slackOnes.1 (findClass_of_methodNamed B.named)
  have hlocks : meth.locks = false := B.notSynchronized
  replace hP : va_P E.1 vwCl [k_X8 a_ c_thrown a_tape c_taped c_at c_part c_partFrom c_partNumber c_wrong c_partWord c_readLaw c_readBound c_readGoal c_readSites a_readPlace a_script a_scriptLong c_scripts a_now a_refused c_sites a_shareX a_shareY c_asked c_outcome a_askedRow c_took a_kept c_acts c_drawn a_aside c_racer c_raced a_spelled c_spelledMany a_image c_hasImage, k_I E a_now 265 c_now] s.heap := hP
  have hl := lv_entry ([.ref a_]) (n := 3) (Nat.le_of_ble_eq_true rfl)
  rw [lg_entry_eq]
  generalize (lg_sl ([.ref a_]) ++ List.replicate (3 - (lg_sl ([.ref a_])).length) Slot.unset).toArray = ls at hl ⊢
  have hl : lv_has ls 3 [(0, .ref a_)] := hl
  obtain ⟨Q, hQ⟩ : ∃ Q : State → Prop, Q = MQ below (vp_Si (fun q : Int32 => q = rr)) #[Value.ref a_] s 0 0 (fun _ => False) := ⟨_, rfl⟩
  rw [← hQ]
  change W p l e ({ frames := 2, cells := 0, slots := 0, locals := 41 } : Room) s m #[Value.ref a_] below meth c s.heap [] 0 0 Q (F0 m 0 ls [])
  unfold F_X8_slackOnes at hF
  refine lv_iconst (v := 0) hx hb (dq_3 0 bcX8_slackOnes_0 (j := 0) rfl rfl) (by decide) ?_
  refine lv_istore_n (lv' := [(1, .int (0 : Int32)), (0, .ref a_)]) hx hb (dq_60 0 bcX8_slackOnes_0 (j := 1) rfl rfl) rfl hl (by decide) rfl (fun ls hl => ?_)
  refine lv_iconst (v := 0) hx hb (dq_3 0 bcX8_slackOnes_0 (j := 2) rfl rfl) (by decide) ?_
  refine lv_istore_n (lv' := [(2, .int (0 : Int32)), (1, .int (0 : Int32)), (0, .ref a_)]) hx hb (dq_61 0 bcX8_slackOnes_0 (j := 3) rfl rfl) rfl hl (by decide) rfl (fun ls hl => ?_)
  replace hF := bd1_s hF
  obtain ⟨x1_5, hL_6, hF⟩ := hF
  refine lw_X8_slackOnes_4 l E K (c_thrown := c_thrown) (c_taped := c_taped) (c_at := c_at) (c_part := c_part) (c_partFrom := c_partFrom) (c_partNumber := c_partNumber) (c_wrong := c_wrong) (c_partWord := c_partWord) (c_readLaw := c_readLaw) (c_readBound := c_readBound) (c_readGoal := c_readGoal) (c_readSites := c_readSites) (c_scripts := c_scripts) (c_sites := c_sites) (c_asked := c_asked) (c_outcome := c_outcome) (c_took := c_took) (c_acts := c_acts) (c_drawn := c_drawn) (c_racer := c_racer) (c_raced := c_raced) (c_spelledMany := c_spelledMany) (c_hasImage := c_hasImage) (c_now := c_now) hx hb hml hown hts hK hN hP K (0 : Int32) (0 : Int32) x1_5 hL_6 ?_ ls (lv_sub hl [2, 1, 0] rfl)
  ·
    intro ls hl
    refine lv_iload_n hx hb (dq_27 0 bcX8_slackOnes_0 (j := 36) rfl rfl) rfl (lv_at hl 0 rfl) ?_
    rw [hQ]
    obtain e9_0 := inj1 hF
    exact W.iret (v := x1_5) hx hb hr (fun tt ht hW => ⟨_, rfl, e9_0, ht⟩) (fun _ h => by cases h) (dq_172 0 bcX8_slackOnes_0 (j := 37) rfl rfl)

def B_X8_stillOnes_4 (c_sites : Int32) (c_now : Nat → Int32) (x1 : Int32) (x2 : Int32) : Option ((Int32 × Int32) ⊕ (Int32)) :=
  if c_sites ≤ x2 then some (.inr x1) else ixF ((0 : Int32) + x2) 265 (ixF ((16 : Int32) + x2) 265 (if c_now ((0 : Int32) + x2).toNatClampNeg = c_now ((16 : Int32) + x2).toNatClampNeg then ixF ((8 : Int32) + x2) 265 (ixF ((24 : Int32) + x2) 265 (if c_now ((8 : Int32) + x2).toNatClampNeg = c_now ((24 : Int32) + x2).toNatClampNeg then some (.inl (x1 ||| ((1 : Int32) <<< (x2 &&& (31 : Int32))), x2 + (1 : Int32))) else some (.inl (x1 ||| (0 : Int32), x2 + (1 : Int32))))) else some (.inl (x1 ||| (0 : Int32), x2 + (1 : Int32)))))
def F_X8_stillOnes (K : Nat) (c_now : Nat → Int32) (c_sites : Int32) : Option (Int32) :=
  bd1 (lpF (fun u9 : Int32 × Int32 => B_X8_stillOnes_4 c_sites c_now u9.1 u9.2) K ((0 : Int32), (0 : Int32))) (fun x1_8 => some x1_8)
abbrev w_X8_stillOnes (E : EE) (a_ a_tape a_readPlace a_script a_scriptLong a_now a_refused a_shareX a_shareY a_askedRow a_kept a_aside a_spelled a_image : Nat) (c_thrown : Int32) (c_taped : Int32) (c_at : Int32) (c_part : Int32) (c_partFrom : Int32) (c_partNumber : Int32) (c_wrong : Int32) (c_partWord : Int64) (c_readLaw : Int32) (c_readBound : Int32) (c_readGoal : Int32) (c_readSites : Int32) (c_scripts : Int32) (c_sites : Int32) (c_asked : Int32) (c_outcome : Int32) (c_took : Int32) (c_acts : Int32) (c_drawn : Int64) (c_racer : Int32) (c_raced : Int32) (c_spelledMany : Int32) (c_hasImage : Int32) (c_now : Nat → Int32) : va_W := [k_X8 a_ c_thrown a_tape c_taped c_at c_part c_partFrom c_partNumber c_wrong c_partWord c_readLaw c_readBound c_readGoal c_readSites a_readPlace a_script a_scriptLong c_scripts a_now a_refused c_sites a_shareX a_shareY c_asked c_outcome a_askedRow c_took a_kept c_acts c_drawn a_aside c_racer c_raced a_spelled c_spelledMany a_image c_hasImage, k_I E a_now 265 c_now]
def v_f_X8_stillOnes : List Cond := List.cons (.code yX8_stillOnes cX8_stillOnes 3 (some .int)) (HAppend.hAppend (α := List Cond) (β := List Cond) (γ := List Cond) [.fieldLink RX8 196 "HushWatchModel" "sites" "I", .fieldLink RX8 22 "HushWatchModel" "now" "[I"] (HAppend.hAppend (α := List Cond) (β := List Cond) (γ := List Cond) wsX80 []))
theorem gw_f_X8_stillOnes : v_f_X8_stillOnes.all goodWord = true := gw_c2 (by decide +kernel) (gw_ap gw_wsX80 gw_nil)
theorem i_f_X8_stillOnes_X8 : ∀ w ∈ wsX80, w ∈ v_f_X8_stillOnes := fun _ h => List.mem_cons_of_mem _ (List.mem_append_right _ (List.mem_append_left _ h))
theorem hd_X8_stillOnes : yX8_stillOnes.cls = RX8 ∧ yX8_stillOnes.cls ≠ "java/lang/invoke/MethodHandle" ∧ yX8_stillOnes.cls ≠ "java/lang/invoke/VarHandle" ∧ (parseMethodDescriptor yX8_stillOnes.desc).map (fun d => d.parameters.length) = some 0 := by decide +kernel
set_option maxHeartbeats 4000000 in
set_option maxRecDepth 100000 in
theorem wb_X8_stillOnes_4 {p : Program} (l : Launch) {e : Env} {s : State} {m : MethodId} {below : List Frame} {meth : Method} {c : Code} {Q : State → Prop} (E : EE) (K : Nat) {a_ a_tape a_readPlace a_script a_scriptLong a_now a_refused a_shareX a_shareY a_askedRow a_kept a_aside a_spelled a_image : Nat} {c_thrown : Int32} {c_taped : Int32} {c_at : Int32} {c_part : Int32} {c_partFrom : Int32} {c_partNumber : Int32} {c_wrong : Int32} {c_partWord : Int64} {c_readLaw : Int32} {c_readBound : Int32} {c_readGoal : Int32} {c_readSites : Int32} {c_scripts : Int32} {c_sites : Int32} {c_asked : Int32} {c_outcome : Int32} {c_took : Int32} {c_acts : Int32} {c_drawn : Int64} {c_racer : Int32} {c_raced : Int32} {c_spelledMany : Int32} {c_hasImage : Int32} {c_now : Nat → Int32} {x1 : Int32} {x2 : Int32} (hx : p.tables.exec = Jvm.exec) (hb : c.code = cX8_stillOnes) (hml : c.maxLocals = 3) (hown : s.vm.findClass RX8 = some m.cls) (hts : ∀ w ∈ v_f_X8_stillOnes, w.before #[Value.ref a_] s = true) (hK : va_K E.1 vwCl (TY E) s) (hN : NX s) {xx : (Int32 × Int32) ⊕ (Int32)} (hC : ∀ (x1 : Int32), ∀ (x2 : Int32), xx = .inl (x1, x2) → ∀ (ls : Array Slot), lv_has ls 3 [(0, .ref a_), (1, .int x1), (2, .int x2)] → W p l e ({ frames := 0, cells := 0, slots := 0, locals := 0 } : Room) s m #[Value.ref a_] below meth c s.heap [] 0 0 Q (F0 m 4 ls [])) (hE : ∀ (x1 : Int32), xx = .inr x1 → ((∀ (ls : Array Slot), lv_has ls 3 [(1, .int x1)] → W p l e ({ frames := 0, cells := 0, slots := 0, locals := 0 } : Room) s m #[Value.ref a_] below meth c s.heap [] 0 0 Q (F0 m 69 ls [])))) (hF : B_X8_stillOnes_4 c_sites c_now x1 x2 = some xx) (hP : va_P E.1 vwCl (w_X8_stillOnes E a_ a_tape a_readPlace a_script a_scriptLong a_now a_refused a_shareX a_shareY a_askedRow a_kept a_aside a_spelled a_image c_thrown c_taped c_at c_part c_partFrom c_partNumber c_wrong c_partWord c_readLaw c_readBound c_readGoal c_readSites c_scripts c_sites c_asked c_outcome c_took c_acts c_drawn c_racer c_raced c_spelledMany c_hasImage c_now) s.heap) : ∀ (ls : Array Slot), lv_has ls 3 [(0, .ref a_), (1, .int x1), (2, .int x2)] → W p l e ({ frames := 0, cells := 0, slots := 0, locals := 0 } : Room) s m #[Value.ref a_] below meth c s.heap [] 0 0 Q (F0 m 4 ls []) := by
  unfold B_X8_stillOnes_4 at hF
  replace hP : va_P E.1 vwCl [k_X8 a_ c_thrown a_tape c_taped c_at c_part c_partFrom c_partNumber c_wrong c_partWord c_readLaw c_readBound c_readGoal c_readSites a_readPlace a_script a_scriptLong c_scripts a_now a_refused c_sites a_shareX a_shareY c_asked c_outcome a_askedRow c_took a_kept c_acts c_drawn a_aside c_racer c_raced a_spelled c_spelledMany a_image c_hasImage, k_I E a_now 265 c_now] s.heap := hP
  intro ls hl
  refine lv_iload_n hx hb (dq_28 0 bcX8_stillOnes_0 (j := 4) rfl rfl) rfl (lv_at hl 2 rfl) ?_
  refine lv_aload_n hx hb (dq_42 0 bcX8_stillOnes_0 (j := 5) rfl rfl) rfl (lv_at hl 0 rfl) ?_
  refine gt_X8_19 (v := .int c_sites) hx hb hts i_f_X8_stillOnes_X8 hown hK hP 0 rfl (hts (.fieldLink RX8 196 "HushWatchModel" "sites" "I") (List.mem_of_getElem? (i := 1) rfl)) rfl (dq_180 0 bcX8_stillOnes_0 (j := 6) (i := 196) rfl rfl rfl) ?_
  refine lv_icmp_ge (tgt := 69) hx hb (dq_162 0 bcX8_stillOnes_0 (j := 9) (i := 60) rfl rfl rfl) (by decide) (fun c_1 => ?_) (fun c_1 => ?_)
  ·
    replace hF := ip c_1 hF
    cases hF
    exact hE x1 rfl ls (lv_sub hl [1] rfl)
  ·
    replace hF := inn c_1 hF
    refine lv_iload_n hx hb (dq_27 0 bcX8_stillOnes_0 (j := 12) rfl rfl) rfl (lv_at hl 1 rfl) ?_
    refine lv_aload_n hx hb (dq_42 0 bcX8_stillOnes_0 (j := 13) rfl rfl) rfl (lv_at hl 0 rfl) ?_
    refine gt_X8_17 (v := .ref a_now) hx hb hts i_f_X8_stillOnes_X8 hown hK hP 0 rfl (hts (.fieldLink RX8 22 "HushWatchModel" "now" "[I") (List.mem_of_getElem? (i := 2) rfl)) rfl (dq_180 0 bcX8_stillOnes_0 (j := 14) (i := 22) rfl rfl rfl) ?_
    refine lv_iconst (v := 0) hx hb (dq_3 0 bcX8_stillOnes_0 (j := 17) rfl rfl) (by decide) ?_
    refine lv_iload_n hx hb (dq_28 0 bcX8_stillOnes_0 (j := 18) rfl rfl) rfl (lv_at hl 2 rfl) ?_
    refine lv_iadd hx hb (dq_96 0 bcX8_stillOnes_0 (j := 19) rfl rfl) ?_
    replace hF := ix_s hF
    obtain ⟨hi_2, hF⟩ := hF
    refine va_iald hx hb hK hP 1 0 rfl rfl hi_2 (dq_46 0 bcX8_stillOnes_0 (j := 20) rfl rfl) ?_
    refine lv_aload_n hx hb (dq_42 0 bcX8_stillOnes_0 (j := 21) rfl rfl) rfl (lv_at hl 0 rfl) ?_
    refine gt_X8_17 (v := .ref a_now) hx hb hts i_f_X8_stillOnes_X8 hown hK hP 0 rfl (hts (.fieldLink RX8 22 "HushWatchModel" "now" "[I") (List.mem_of_getElem? (i := 2) rfl)) rfl (dq_180 0 bcX8_stillOnes_0 (j := 22) (i := 22) rfl rfl rfl) ?_
    refine lv_bipush (v := 16) hx hb (dq_16 0 bcX8_stillOnes_0 (j := 25) (i := 16) rfl rfl rfl) (by decide) ?_
    refine lv_iload_n hx hb (dq_28 0 bcX8_stillOnes_0 (j := 27) rfl rfl) rfl (lv_at hl 2 rfl) ?_
    refine lv_iadd hx hb (dq_96 0 bcX8_stillOnes_0 (j := 28) rfl rfl) ?_
    replace hF := ix_s hF
    obtain ⟨hi_3, hF⟩ := hF
    refine va_iald hx hb hK hP 1 0 rfl rfl hi_3 (dq_46 0 bcX8_stillOnes_0 (j := 29) rfl rfl) ?_
    refine lv_icmp_ne (tgt := 60) hx hb (dq_160 0 bcX8_stillOnes_0 (j := 30) (i := 30) rfl rfl rfl) (by decide) (fun c_4 => ?_) (fun c_4 => ?_)
    ·
      replace hF := inn c_4 hF
      refine lv_iconst (v := 0) hx hb (dq_3 48 bcX8_stillOnes_1 (j := 12) rfl rfl) (by decide) ?_
      refine lv_ior hx hb (dq_128 48 bcX8_stillOnes_1 (j := 13) rfl rfl) ?_
      refine lv_istore_n (lv' := [(1, .int (x1 ||| (0 : Int32))), (0, .ref a_), (2, .int x2)]) hx hb (dq_60 48 bcX8_stillOnes_1 (j := 14) rfl rfl) rfl hl (by decide) rfl (fun ls hl => ?_)
      refine lv_iinc (v := x2 + (1 : Int32)) (lv' := [(2, .int (x2 + (1 : Int32))), (1, .int (x1 ||| (0 : Int32))), (0, .ref a_)]) hx hb (dq_132 48 bcX8_stillOnes_1 (j := 15) (i := 1) rfl rfl rfl) hl (k := 2) rfl (rfl) (by decide) rfl (fun ls hl => ?_)
      refine lv_goto (tgt := 4) hx hb (dq_167 48 bcX8_stillOnes_1 (j := 18) (i := -62) rfl rfl rfl) (by decide) ?_
      cases hF
      exact hC (x1 ||| (0 : Int32)) (x2 + (1 : Int32)) rfl ls (lv_sub hl [2, 1, 0] rfl)
    ·
      replace hF := ip c_4 hF
      refine lv_aload_n hx hb (dq_42 0 bcX8_stillOnes_0 (j := 33) rfl rfl) rfl (lv_at hl 0 rfl) ?_
      refine gt_X8_17 (v := .ref a_now) hx hb hts i_f_X8_stillOnes_X8 hown hK hP 0 rfl (hts (.fieldLink RX8 22 "HushWatchModel" "now" "[I") (List.mem_of_getElem? (i := 2) rfl)) rfl (dq_180 0 bcX8_stillOnes_0 (j := 34) (i := 22) rfl rfl rfl) ?_
      refine lv_bipush (v := 8) hx hb (dq_16 0 bcX8_stillOnes_0 (j := 37) (i := 8) rfl rfl rfl) (by decide) ?_
      refine lv_iload_n hx hb (dq_28 0 bcX8_stillOnes_0 (j := 39) rfl rfl) rfl (lv_at hl 2 rfl) ?_
      refine lv_iadd hx hb (dq_96 0 bcX8_stillOnes_0 (j := 40) rfl rfl) ?_
      replace hF := ix_s hF
      obtain ⟨hi_5, hF⟩ := hF
      refine va_iald hx hb hK hP 1 0 rfl rfl hi_5 (dq_46 0 bcX8_stillOnes_0 (j := 41) rfl rfl) ?_
      refine lv_aload_n hx hb (dq_42 0 bcX8_stillOnes_0 (j := 42) rfl rfl) rfl (lv_at hl 0 rfl) ?_
      refine gt_X8_17 (v := .ref a_now) hx hb hts i_f_X8_stillOnes_X8 hown hK hP 0 rfl (hts (.fieldLink RX8 22 "HushWatchModel" "now" "[I") (List.mem_of_getElem? (i := 2) rfl)) rfl (dq_180 0 bcX8_stillOnes_0 (j := 43) (i := 22) rfl rfl rfl) ?_
      refine lv_bipush (v := 24) hx hb (dq_16 0 bcX8_stillOnes_0 (j := 46) (i := 24) rfl rfl rfl) (by decide) ?_
      refine lv_iload_n hx hb (dq_28 48 bcX8_stillOnes_1 (j := 0) rfl rfl) rfl (lv_at hl 2 rfl) ?_
      refine lv_iadd hx hb (dq_96 48 bcX8_stillOnes_1 (j := 1) rfl rfl) ?_
      replace hF := ix_s hF
      obtain ⟨hi_6, hF⟩ := hF
      refine va_iald hx hb hK hP 1 0 rfl rfl hi_6 (dq_46 48 bcX8_stillOnes_1 (j := 2) rfl rfl) ?_
      refine lv_icmp_ne (tgt := 60) hx hb (dq_160 48 bcX8_stillOnes_1 (j := 3) (i := 9) rfl rfl rfl) (by decide) (fun c_7 => ?_) (fun c_7 => ?_)
      ·
        replace hF := inn c_7 hF
        refine lv_iconst (v := 0) hx hb (dq_3 48 bcX8_stillOnes_1 (j := 12) rfl rfl) (by decide) ?_
        refine lv_ior hx hb (dq_128 48 bcX8_stillOnes_1 (j := 13) rfl rfl) ?_
        refine lv_istore_n (lv' := [(1, .int (x1 ||| (0 : Int32))), (0, .ref a_), (2, .int x2)]) hx hb (dq_60 48 bcX8_stillOnes_1 (j := 14) rfl rfl) rfl hl (by decide) rfl (fun ls hl => ?_)
        refine lv_iinc (v := x2 + (1 : Int32)) (lv' := [(2, .int (x2 + (1 : Int32))), (1, .int (x1 ||| (0 : Int32))), (0, .ref a_)]) hx hb (dq_132 48 bcX8_stillOnes_1 (j := 15) (i := 1) rfl rfl rfl) hl (k := 2) rfl (rfl) (by decide) rfl (fun ls hl => ?_)
        refine lv_goto (tgt := 4) hx hb (dq_167 48 bcX8_stillOnes_1 (j := 18) (i := -62) rfl rfl rfl) (by decide) ?_
        cases hF
        exact hC (x1 ||| (0 : Int32)) (x2 + (1 : Int32)) rfl ls (lv_sub hl [2, 1, 0] rfl)
      ·
        replace hF := ip c_7 hF
        refine lv_iconst (v := 1) hx hb (dq_4 48 bcX8_stillOnes_1 (j := 6) rfl rfl) (by decide) ?_
        refine lv_iload_n hx hb (dq_28 48 bcX8_stillOnes_1 (j := 7) rfl rfl) rfl (lv_at hl 2 rfl) ?_
        refine lv_ishl hx hb (dq_120 48 bcX8_stillOnes_1 (j := 8) rfl rfl) ?_
        refine lv_goto (tgt := 61) hx hb (dq_167 48 bcX8_stillOnes_1 (j := 9) (i := 4) rfl rfl rfl) (by decide) ?_
        refine lv_ior hx hb (dq_128 48 bcX8_stillOnes_1 (j := 13) rfl rfl) ?_
        refine lv_istore_n (lv' := [(1, .int (x1 ||| ((1 : Int32) <<< (x2 &&& (31 : Int32))))), (0, .ref a_), (2, .int x2)]) hx hb (dq_60 48 bcX8_stillOnes_1 (j := 14) rfl rfl) rfl hl (by decide) rfl (fun ls hl => ?_)
        refine lv_iinc (v := x2 + (1 : Int32)) (lv' := [(2, .int (x2 + (1 : Int32))), (1, .int (x1 ||| ((1 : Int32) <<< (x2 &&& (31 : Int32))))), (0, .ref a_)]) hx hb (dq_132 48 bcX8_stillOnes_1 (j := 15) (i := 1) rfl rfl rfl) hl (k := 2) rfl (rfl) (by decide) rfl (fun ls hl => ?_)
        refine lv_goto (tgt := 4) hx hb (dq_167 48 bcX8_stillOnes_1 (j := 18) (i := -62) rfl rfl rfl) (by decide) ?_
        cases hF
        exact hC (x1 ||| ((1 : Int32) <<< (x2 &&& (31 : Int32)))) (x2 + (1 : Int32)) rfl ls (lv_sub hl [2, 1, 0] rfl)

set_option maxHeartbeats 4000000 in
set_option maxRecDepth 100000 in
theorem lw_X8_stillOnes_4 {p : Program} (l : Launch) {e : Env} {s : State} {m : MethodId} {below : List Frame} {meth : Method} {c : Code} {Q : State → Prop} (E : EE) (K : Nat) {a_ a_tape a_readPlace a_script a_scriptLong a_now a_refused a_shareX a_shareY a_askedRow a_kept a_aside a_spelled a_image : Nat} {c_thrown : Int32} {c_taped : Int32} {c_at : Int32} {c_part : Int32} {c_partFrom : Int32} {c_partNumber : Int32} {c_wrong : Int32} {c_partWord : Int64} {c_readLaw : Int32} {c_readBound : Int32} {c_readGoal : Int32} {c_readSites : Int32} {c_scripts : Int32} {c_sites : Int32} {c_asked : Int32} {c_outcome : Int32} {c_took : Int32} {c_acts : Int32} {c_drawn : Int64} {c_racer : Int32} {c_raced : Int32} {c_spelledMany : Int32} {c_hasImage : Int32} {c_now : Nat → Int32} (hx : p.tables.exec = Jvm.exec) (hb : c.code = cX8_stillOnes) (hml : c.maxLocals = 3) (hown : s.vm.findClass RX8 = some m.cls) (hts : ∀ w ∈ v_f_X8_stillOnes, w.before #[Value.ref a_] s = true) (hK : va_K E.1 vwCl (TY E) s) (hN : NX s) (hP : va_P E.1 vwCl (w_X8_stillOnes E a_ a_tape a_readPlace a_script a_scriptLong a_now a_refused a_shareX a_shareY a_askedRow a_kept a_aside a_spelled a_image c_thrown c_taped c_at c_part c_partFrom c_partNumber c_wrong c_partWord c_readLaw c_readBound c_readGoal c_readSites c_scripts c_sites c_asked c_outcome c_took c_acts c_drawn c_racer c_raced c_spelledMany c_hasImage c_now) s.heap) (j9 : Nat) (x1 : Int32) (x2 : Int32) (x1' : Int32) (hL : lpF (fun u9 : Int32 × Int32 => B_X8_stillOnes_4 c_sites c_now u9.1 u9.2) j9 (x1, x2) = some x1') (hX : (∀ (ls : Array Slot), lv_has ls 3 [(1, .int x1')] → W p l e ({ frames := 0, cells := 0, slots := 0, locals := 0 } : Room) s m #[Value.ref a_] below meth c s.heap [] 0 0 Q (F0 m 69 ls []))) : ∀ (ls : Array Slot), lv_has ls 3 [(0, .ref a_), (1, .int x1), (2, .int x2)] → W p l e ({ frames := 0, cells := 0, slots := 0, locals := 0 } : Room) s m #[Value.ref a_] below meth c s.heap [] 0 0 Q (F0 m 4 ls []) := by
  exact lp_rule (P := (fun u9 : Int32 × Int32 => ∀ (ls : Array Slot), lv_has ls 3 [(0, .ref a_), (1, .int u9.1), (2, .int u9.2)] → W p l e ({ frames := 0, cells := 0, slots := 0, locals := 0 } : Room) s m #[Value.ref a_] below meth c s.heap [] 0 0 Q (F0 m 4 ls []))) (R := (fun r9 : Int32 => (∀ (ls : Array Slot), lv_has ls 3 [(1, .int r9)] → W p l e ({ frames := 0, cells := 0, slots := 0, locals := 0 } : Room) s m #[Value.ref a_] below meth c s.heap [] 0 0 Q (F0 m 69 ls [])))) (fun u9 xx hF hC hE => wb_X8_stillOnes_4 l E K (c_thrown := c_thrown) (c_taped := c_taped) (c_at := c_at) (c_part := c_part) (c_partFrom := c_partFrom) (c_partNumber := c_partNumber) (c_wrong := c_wrong) (c_partWord := c_partWord) (c_readLaw := c_readLaw) (c_readBound := c_readBound) (c_readGoal := c_readGoal) (c_readSites := c_readSites) (c_scripts := c_scripts) (c_sites := c_sites) (c_asked := c_asked) (c_outcome := c_outcome) (c_took := c_took) (c_acts := c_acts) (c_drawn := c_drawn) (c_racer := c_racer) (c_raced := c_raced) (c_spelledMany := c_spelledMany) (c_hasImage := c_hasImage) (c_now := c_now) (x1 := u9.1) (x2 := u9.2) hx hb hml hown hts hK hN (fun x1 x2 q9 => hC _ q9) (fun x1 q9 => hE _ q9) hF hP) j9 (x1, x2) x1' hL hX

set_option maxHeartbeats 4000000 in
set_option maxRecDepth 100000 in
theorem f_X8_stillOnes (l : Launch) (E : EE) (K : Nat) {a_ a_tape a_readPlace a_script a_scriptLong a_now a_refused a_shareX a_shareY a_askedRow a_kept a_aside a_spelled a_image : Nat} {c_thrown : Int32} {c_taped : Int32} {c_at : Int32} {c_part : Int32} {c_partFrom : Int32} {c_partNumber : Int32} {c_wrong : Int32} {c_partWord : Int64} {c_readLaw : Int32} {c_readBound : Int32} {c_readGoal : Int32} {c_readSites : Int32} {c_scripts : Int32} {c_sites : Int32} {c_asked : Int32} {c_outcome : Int32} {c_took : Int32} {c_acts : Int32} {c_drawn : Int64} {c_racer : Int32} {c_raced : Int32} {c_spelledMany : Int32} {c_hasImage : Int32} {c_now : Nat → Int32} {rr : Int32} (hF : F_X8_stillOnes K c_now c_sites = some rr) : Met l yX8_stillOnes v_f_X8_stillOnes (({ frames := 0, cells := 0, slots := 0, locals := 0 } : Room)) (va_Pc [.ref a_] (pP E (w_X8_stillOnes E a_ a_tape a_readPlace a_script a_scriptLong a_now a_refused a_shareX a_shareY a_askedRow a_kept a_aside a_spelled a_image c_thrown c_taped c_at c_part c_partFrom c_partNumber c_wrong c_partWord c_readLaw c_readBound c_readGoal c_readSites c_scripts c_sites c_asked c_outcome c_took c_acts c_drawn c_racer c_raced c_spelledMany c_hasImage c_now))) (vp_Si (fun q : Int32 => q = rr)) 0 0 (fun _ => False) := by
  refine Met.ofW (cc := cX8_stillOnes) (maxL := 3) (ret := (some .int)) (by decide) rfl ?_
  intro p e s m args below meth c s₁ B hml hv
  obtain ⟨rfl, ⟨hK, hN⟩, hP⟩ := hv
  have hx := B.exec
  have hb := B.bytes
  have hr := B.returns
  have hts := atoms_spec (ws := v_f_X8_stillOnes) B.pre
  have hown : s.vm.findClass RX8 = some m.cls := own_of hd_X8_stillOnes.1 (findClass_of_methodNamed B.named)
  have hlocks : meth.locks = false := B.notSynchronized
  replace hP : va_P E.1 vwCl [k_X8 a_ c_thrown a_tape c_taped c_at c_part c_partFrom c_partNumber c_wrong c_partWord c_readLaw c_readBound c_readGoal c_readSites a_readPlace a_script a_scriptLong c_scripts a_now a_refused c_sites a_shareX a_shareY c_asked c_outcome a_askedRow c_took a_kept c_acts c_drawn a_aside c_racer c_raced a_spelled c_spelledMany a_image c_hasImage, k_I E a_now 265 c_now] s.heap := hP
  have hl := lv_entry ([.ref a_]) (n := 3) (Nat.le_of_ble_eq_true rfl)
  rw [lg_entry_eq]
  generalize (lg_sl ([.ref a_]) ++ List.replicate (3 - (lg_sl ([.ref a_])).length) Slot.unset).toArray = ls at hl ⊢
  have hl : lv_has ls 3 [(0, .ref a_)] := hl
  obtain ⟨Q, hQ⟩ : ∃ Q : State → Prop, Q = MQ below (vp_Si (fun q : Int32 => q = rr)) #[Value.ref a_] s 0 0 (fun _ => False) := ⟨_, rfl⟩
  rw [← hQ]
  change W p l e ({ frames := 0, cells := 0, slots := 0, locals := 0 } : Room) s m #[Value.ref a_] below meth c s.heap [] 0 0 Q (F0 m 0 ls [])
  unfold F_X8_stillOnes at hF
  refine lv_iconst (v := 0) hx hb (dq_3 0 bcX8_stillOnes_0 (j := 0) rfl rfl) (by decide) ?_
  refine lv_istore_n (lv' := [(1, .int (0 : Int32)), (0, .ref a_)]) hx hb (dq_60 0 bcX8_stillOnes_0 (j := 1) rfl rfl) rfl hl (by decide) rfl (fun ls hl => ?_)
  refine lv_iconst (v := 0) hx hb (dq_3 0 bcX8_stillOnes_0 (j := 2) rfl rfl) (by decide) ?_
  refine lv_istore_n (lv' := [(2, .int (0 : Int32)), (1, .int (0 : Int32)), (0, .ref a_)]) hx hb (dq_61 0 bcX8_stillOnes_0 (j := 3) rfl rfl) rfl hl (by decide) rfl (fun ls hl => ?_)
  replace hF := bd1_s hF
  obtain ⟨x1_8, hL_9, hF⟩ := hF
  refine lw_X8_stillOnes_4 l E K (c_thrown := c_thrown) (c_taped := c_taped) (c_at := c_at) (c_part := c_part) (c_partFrom := c_partFrom) (c_partNumber := c_partNumber) (c_wrong := c_wrong) (c_partWord := c_partWord) (c_readLaw := c_readLaw) (c_readBound := c_readBound) (c_readGoal := c_readGoal) (c_readSites := c_readSites) (c_scripts := c_scripts) (c_sites := c_sites) (c_asked := c_asked) (c_outcome := c_outcome) (c_took := c_took) (c_acts := c_acts) (c_drawn := c_drawn) (c_racer := c_racer) (c_raced := c_raced) (c_spelledMany := c_spelledMany) (c_hasImage := c_hasImage) (c_now := c_now) hx hb hml hown hts hK hN hP K (0 : Int32) (0 : Int32) x1_8 hL_9 ?_ ls (lv_sub hl [2, 1, 0] rfl)
  ·
    intro ls hl
    refine lv_iload_n hx hb (dq_27 48 bcX8_stillOnes_1 (j := 21) rfl rfl) rfl (lv_at hl 0 rfl) ?_
    rw [hQ]
    obtain e9_0 := inj1 hF
    exact W.iret (v := x1_8) hx hb hr (fun tt ht hW => ⟨_, rfl, e9_0, ht⟩) (fun _ h => by cases h) (dq_172 48 bcX8_stillOnes_1 (j := 22) rfl rfl)
