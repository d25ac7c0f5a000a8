noncomputable def blX8_above_0 : List Nat := [26, 156, 0, 8, 26, 116, 167, 0, 4, 26, 172]
set_option maxRecDepth 100000 in
theorem bcX8_above_0 : ((cX8_above.data.toList.drop 0).take blX8_above_0.length).map UInt8.toNat = blX8_above_0 := by decide +kernel
noncomputable def blX8_keep_1 : List Nat := [100, 181, 0, 205, 3, 60, 27, 17, 1, 9, 162, 0, 30, 42, 180, 0, 37, 17, 1, 9, 42, 180, 0, 205, 104, 27, 96, 42, 180, 0, 22, 27, 46, 79, 132, 1, 1, 167, 255, 225, 42, 89, 180, 0, 205, 4, 96, 181, 0, 205, 177]
set_option maxRecDepth 100000 in
theorem bcX8_keep_1 : ((cX8_keep.data.toList.drop 48).take blX8_keep_1.length).map UInt8.toNat = blX8_keep_1 := by decide +kernel
noncomputable def blX8_keep_2 : List Nat := [0, 205, 177]
set_option maxRecDepth 100000 in
theorem bcX8_keep_2 : ((cX8_keep.data.toList.drop 96).take blX8_keep_2.length).map UInt8.toNat = blX8_keep_2 := by decide +kernel
noncomputable def blX8_keep_0 : List Nat := [42, 180, 0, 205, 16, 40, 160, 0, 46, 17, 1, 9, 60, 27, 17, 41, 104, 162, 0, 25, 42, 180, 0, 37, 27, 17, 1, 9, 100, 42, 180, 0, 37, 27, 46, 79, 132, 1, 1, 167, 255, 230, 42, 89, 180, 0, 205, 4, 100, 181, 0]
set_option maxRecDepth 100000 in
theorem bcX8_keep_0 : ((cX8_keep.data.toList.drop 0).take blX8_keep_0.length).map UInt8.toNat = blX8_keep_0 := by decide +kernel
noncomputable def blX8_driftX_0 : List Nat := [42, 180, 0, 22, 3, 27, 96, 46, 42, 180, 0, 22, 16, 16, 27, 96, 46, 100, 42, 180, 0, 22, 16, 32, 27, 96, 46, 96, 172]
set_option maxRecDepth 100000 in
theorem bcX8_driftX_0 : ((cX8_driftX.data.toList.drop 0).take blX8_driftX_0.length).map UInt8.toNat = blX8_driftX_0 := by decide +kernel
noncomputable def blX8_driftY_0 : List Nat := [42, 180, 0, 22, 16, 8, 27, 96, 46, 42, 180, 0, 22, 16, 24, 27, 96, 46, 100, 42, 180, 0, 22, 16, 40, 27, 96, 46, 96, 172]
set_option maxRecDepth 100000 in
theorem bcX8_driftY_0 : ((cX8_driftY.data.toList.drop 0).take blX8_driftY_0.length).map UInt8.toNat = blX8_driftY_0 := by decide +kernel
noncomputable def blX8_sum_0 : List Nat := [3, 61, 3, 62, 29, 42, 180, 0, 196, 162, 0, 20, 28, 42, 180, 0, 22, 27, 29, 96, 46, 96, 61, 132, 3, 1, 167, 255, 234, 28, 172]
set_option maxRecDepth 100000 in
theorem bcX8_sum_0 : ((cX8_sum.data.toList.drop 0).take blX8_sum_0.length).map UInt8.toNat = blX8_sum_0 := by decide +kernel
noncomputable def blX8_pointX_0 : List Nat := [42, 16, 16, 182, 0, 199, 42, 180, 0, 196, 27, 104, 96, 172]
set_option maxRecDepth 100000 in
theorem bcX8_pointX_0 : ((cX8_pointX.data.toList.drop 0).take blX8_pointX_0.length).map UInt8.toNat = blX8_pointX_0 := by decide +kernel
noncomputable def blX8_pointY_0 : List Nat := [42, 16, 24, 182, 0, 199, 42, 180, 0, 196, 27, 104, 96, 172]
set_option maxRecDepth 100000 in
theorem bcX8_pointY_0 : ((cX8_pointY.data.toList.drop 0).take blX8_pointY_0.length).map UInt8.toNat = blX8_pointY_0 := by decide +kernel
noncomputable def blX8_valueOf_0 : List Nat := [31, 9, 148, 156, 0, 8, 31, 117, 167, 0, 4, 31, 55, 5, 33, 9, 148, 156, 0, 8, 33, 117, 167, 0, 4, 33, 55, 7, 42, 180, 0, 22, 16, 64, 46, 170, 0, 0, 0, 53, 0, 0, 0, 0, 0, 0, 0, 2, 0, 0, 0]
set_option maxRecDepth 100000 in
theorem bcX8_valueOf_0 : ((cX8_valueOf.data.toList.drop 0).take blX8_valueOf_0.length).map UInt8.toNat = blX8_valueOf_0 := by decide +kernel
noncomputable def blX8_valueOf_1 : List Nat := [0, 0, 0, 25, 0, 0, 0, 29, 0, 0, 0, 37, 31, 33, 97, 173, 31, 31, 105, 33, 33, 105, 97, 173, 22, 5, 22, 7, 148, 158, 0, 8, 22, 5, 167, 0, 5, 22, 7, 173, 22, 5, 22, 7, 97, 173]
set_option maxRecDepth 100000 in
theorem bcX8_valueOf_1 : ((cX8_valueOf.data.toList.drop 48).take blX8_valueOf_1.length).map UInt8.toNat = blX8_valueOf_1 := by decide +kernel
noncomputable def blX8_isAllowed_0 : List Nat := [42, 27, 133, 28, 133, 182, 0, 218, 42, 180, 0, 22, 16, 65, 46, 133, 148, 156, 0, 7, 4, 167, 0, 4, 3, 172]
set_option maxRecDepth 100000 in
theorem bcX8_isAllowed_0 : ((cX8_isAllowed.data.toList.drop 0).take blX8_isAllowed_0.length).map UInt8.toNat = blX8_isAllowed_0 := by decide +kernel
def dl_X8_valueOf_30_md00_0 : List (Nat × Instr × Nat) := [(35, .tableswitch 53 0 2 #[25, 29, 37], 25)]
set_option maxRecDepth 100000 in
theorem dall_X8_valueOf_30_md00_0 : dchk cX8_valueOf dl_X8_valueOf_30_md00_0 = true := by decide +kernel
theorem dX8_valueOf_35 : decode cX8_valueOf 35 = .ok (.tableswitch 53 0 2 #[25, 29, 37], 25) := dchk_at dall_X8_valueOf_30_md00_0 (k := 0) rfl
def F_X8_above (p0 : Int32) : Option (Int32) :=
  if (0 : Int32) ≤ p0 then some p0 else some (-p0)

def v_f_X8_above : List Cond := List.cons (.code yX8_above cX8_above 1 (some .int)) (HAppend.hAppend (α := List Cond) (β := List Cond) (γ := List Cond) [] [])
theorem gw_f_X8_above : v_f_X8_above.all goodWord = true := gw_c2 (by decide +kernel) gw_nil
theorem hd_X8_above : yX8_above.cls = RX8 ∧ yX8_above.cls ≠ "java/lang/invoke/MethodHandle" ∧ yX8_above.cls ≠ "java/lang/invoke/VarHandle" ∧ (parseMethodDescriptor yX8_above.desc).map (fun d => d.parameters.length) = some 1 := by decide +kernel
set_option maxHeartbeats 4000000 in
set_option maxRecDepth 100000 in
theorem f_X8_above (l : Launch) (E : EE) {p0 : Int32} {rr : Int32} (hF : F_X8_above p0 = some rr) : Met l yX8_above v_f_X8_above (({ frames := 0, cells := 0, slots := 0, locals := 0 } : Room)) (va_Pc [.int p0] (pP E [])) (vp_Si (fun q : Int32 => q = rr)) 0 0 (fun _ => False) := by
  refine Met.ofW (cc := cX8_above) (maxL := 1) (ret := (some .int)) (by decide) rfl ?_
  intro p e s m args below meth c s₁ B hml hv
  obtain ⟨rfl, ⟨hK, hN⟩, hP⟩ := hv
  have hx := B.exec
  have hb := B.bytes
  have hr := B.returns
  have hts := atoms_spec (ws := v_f_X8_above) B.pre
  have hown : s.vm.findClass RX8 = some m.cls := own_of hd_X8_above.1 (findClass_of_methodNamed B.named)
  have hlocks : meth.locks = false := B.notSynchronized
  replace hP : va_P E.1 vwCl [] s.heap := hP
  have hl := lv_entry ([.int p0]) (n := 1) (Nat.le_of_ble_eq_true rfl)
  rw [lg_entry_eq]
  generalize (lg_sl ([.int p0]) ++ List.replicate (1 - (lg_sl ([.int p0])).length) Slot.unset).toArray = ls at hl ⊢
  have hl : lv_has ls 1 [(0, .int p0)] := hl
  obtain ⟨Q, hQ⟩ : ∃ Q : State → Prop, Q = MQ below (vp_Si (fun q : Int32 => q = rr)) #[Value.int p0] s 0 0 (fun _ => False) := ⟨_, rfl⟩
  rw [← hQ]
  change W p l e ({ frames := 0, cells := 0, slots := 0, locals := 0 } : Room) s m #[Value.int p0] below meth c s.heap [] 0 0 Q (F0 m 0 ls [])
  unfold F_X8_above at hF
  refine lv_iload_n hx hb (dq_26 0 bcX8_above_0 (j := 0) rfl rfl) rfl (lv_at hl 0 rfl) ?_
  refine lv_if_ge (tgt := 9) hx hb (dq_156 0 bcX8_above_0 (j := 1) (i := 8) rfl rfl rfl) (by decide) (fun c_1 => ?_) (fun c_1 => ?_)
  ·
    replace hF := ip c_1 hF
    refine lv_iload_n hx hb (dq_26 0 bcX8_above_0 (j := 9) rfl rfl) rfl (lv_at hl 0 rfl) ?_
    rw [hQ]
    obtain e9_0 := inj1 hF
    exact W.iret (v := p0) hx hb hr (fun tt ht hW => ⟨_, rfl, e9_0, ht⟩) (fun _ h => by cases h) (dq_172 0 bcX8_above_0 (j := 10) rfl rfl)
  ·
    replace hF := inn c_1 hF
    refine lv_iload_n hx hb (dq_26 0 bcX8_above_0 (j := 4) rfl rfl) rfl (lv_at hl 0 rfl) ?_
    refine lv_ineg hx hb (dq_116 0 bcX8_above_0 (j := 5) rfl rfl) ?_
    refine lv_goto (tgt := 10) hx hb (dq_167 0 bcX8_above_0 (j := 6) (i := 4) rfl rfl rfl) (by decide) ?_
    rw [hQ]
    obtain e9_0 := inj1 hF
    exact W.iret (v := -p0) hx hb hr (fun tt ht hW => ⟨_, rfl, e9_0, ht⟩) (fun _ h => by cases h) (dq_172 0 bcX8_above_0 (j := 10) rfl rfl)

def B_X8_keep_54 (c_now : Nat → Int32) (c_acts : Int32) (x1 : Int32) (c_kept : Nat → Int32) : Option ((Int32 × (Nat → Int32)) ⊕ ((Nat → Int32))) :=
  if (265 : Int32) ≤ x1 then some (.inr c_kept) else ixF x1 265 (ixF (((265 : Int32) * c_acts) + x1) 10600 (nmF (upd c_kept (((265 : Int32) * c_acts) + x1).toNatClampNeg (c_now x1.toNatClampNeg)) (fun f_5 => some (.inl (x1 + (1 : Int32), f_5)))))
def J_X8_keep_52 (K : Nat) (c_now : Nat → Int32) (c_kept : Nat → Int32) (c_acts : Int32) : Option ((Nat → Int32) × Int32) :=
  bd1 (lpF (fun u9 : Int32 × (Nat → Int32) => B_X8_keep_54 c_now c_acts u9.1 u9.2) K ((0 : Int32), c_kept)) (fun c_kept_6 => some (c_kept_6, c_acts + (1 : Int32)))
def B_X8_keep_13 (x1 : Int32) (c_kept : Nat → Int32) : Option ((Int32 × (Nat → Int32)) ⊕ ((Nat → Int32))) :=
  if (10600 : Int32) ≤ x1 then some (.inr c_kept) else ixF x1 10600 (ixF (x1 - (265 : Int32)) 10600 (nmF (upd c_kept (x1 - (265 : Int32)).toNatClampNeg (c_kept x1.toNatClampNeg)) (fun f_11 => some (.inl (x1 + (1 : Int32), f_11)))))
def F_X8_keep (K : Nat) (c_now : Nat → Int32) (c_kept : Nat → Int32) (c_acts : Int32) : Option ((Nat → Int32) × Int32) :=
  if c_acts = (40 : Int32) then bd1 (lpF (fun u9 : Int32 × (Nat → Int32) => B_X8_keep_13  u9.1 u9.2) K ((265 : Int32), c_kept)) (fun c_kept_12 => J_X8_keep_52 K c_now c_kept_12 (c_acts - (1 : Int32))) else J_X8_keep_52 K c_now c_kept c_acts
theorem gw_wsX80 : wsX80.all goodWord = true := by decide +kernel
abbrev w_X8_keep (E : EE) (a_ a_tape a_readPlace a_script a_scriptLong a_now a_refused a_shareX a_shareY a_askedRow a_kept a_aside a_spelled a_image : Nat) (c_thrown : Int32) (c_taped : Int32) (c_at : Int32) (c_part : Int32) (c_partFrom : Int32) (c_partNumber : Int32) (c_wrong : Int32) (c_partWord : Int64) (c_readLaw : Int32) (c_readBound : Int32) (c_readGoal : Int32) (c_readSites : Int32) (c_scripts : Int32) (c_sites : Int32) (c_asked : Int32) (c_outcome : Int32) (c_took : Int32) (c_acts : Int32) (c_drawn : Int64) (c_racer : Int32) (c_raced : Int32) (c_spelledMany : Int32) (c_hasImage : Int32) (c_now : Nat → Int32) (c_kept : Nat → Int32) : va_W := [k_X8 a_ c_thrown a_tape c_taped c_at c_part c_partFrom c_partNumber c_wrong c_partWord c_readLaw c_readBound c_readGoal c_readSites a_readPlace a_script a_scriptLong c_scripts a_now a_refused c_sites a_shareX a_shareY c_asked c_outcome a_askedRow c_took a_kept c_acts c_drawn a_aside c_racer c_raced a_spelled c_spelledMany a_image c_hasImage, k_I E a_now 265 c_now, k_I E a_kept 10600 c_kept]
def v_f_X8_keep : List Cond := List.cons (.code yX8_keep cX8_keep 2 none) (HAppend.hAppend (α := List Cond) (β := List Cond) (γ := List Cond) [.fieldLink RX8 205 "HushWatchModel" "acts" "I", .fieldLink RX8 37 "HushWatchModel" "kept" "[I", .fieldLink RX8 22 "HushWatchModel" "now" "[I"] (HAppend.hAppend (α := List Cond) (β := List Cond) (γ := List Cond) wsX80 []))
theorem gw_f_X8_keep : v_f_X8_keep.all goodWord = true := gw_c2 (by decide +kernel) (gw_ap gw_wsX80 gw_nil)
theorem i_f_X8_keep_X8 : ∀ w ∈ wsX80, w ∈ v_f_X8_keep := fun _ h => List.mem_cons_of_mem _ (List.mem_append_right _ (List.mem_append_left _ h))
theorem hd_X8_keep : yX8_keep.cls = RX8 ∧ yX8_keep.cls ≠ "java/lang/invoke/MethodHandle" ∧ yX8_keep.cls ≠ "java/lang/invoke/VarHandle" ∧ (parseMethodDescriptor yX8_keep.desc).map (fun d => d.parameters.length) = some 0 := by decide +kernel
set_option maxHeartbeats 4000000 in
set_option maxRecDepth 100000 in
theorem wb_X8_keep_54 {p : Program} (l : Launch) {e : Env} {s : State} {m : MethodId} {below : List Frame} {meth : Method} {c : Code} {Q : State → Prop} (E : EE) (K : Nat) {a_ a_tape a_readPlace a_script a_scriptLong a_now a_refused a_shareX a_shareY a_askedRow a_kept a_aside a_spelled a_image : Nat} {c_thrown : Int32} {c_taped : Int32} {c_at : Int32} {c_part : Int32} {c_partFrom : Int32} {c_partNumber : Int32} {c_wrong : Int32} {c_partWord : Int64} {c_readLaw : Int32} {c_readBound : Int32} {c_readGoal : Int32} {c_readSites : Int32} {c_scripts : Int32} {c_sites : Int32} {c_asked : Int32} {c_outcome : Int32} {c_took : Int32} {c_drawn : Int64} {c_racer : Int32} {c_raced : Int32} {c_spelledMany : Int32} {c_hasImage : Int32} {c_now : Nat → Int32} {x1 : Int32} {c_kept : Nat → Int32} {c_acts : Int32} (hx : p.tables.exec = Jvm.exec) (hb : c.code = cX8_keep) (hml : c.maxLocals = 2) (hown : s.vm.findClass RX8 = some m.cls) (hts : ∀ w ∈ v_f_X8_keep, w.before #[Value.ref a_] s = true) (hK : va_K E.1 vwCl (TY E) s) (hN : NX s) {A : Nat → Prop} (hA : ∀ q : Nat, s.heap.size ≤ q → A q) {xx : (Int32 × (Nat → Int32)) ⊕ ((Nat → Int32))} (hC : ∀ (x1 : Int32), ∀ (c_kept : Nat → Int32), xx = .inl (x1, c_kept) → ∀ (H : Heap) (locs : List Loc) (ls : Array Slot), va_P E.1 vwCl (w_X8_keep E a_ a_tape a_readPlace a_script a_scriptLong a_now a_refused a_shareX a_shareY a_askedRow a_kept a_aside a_spelled a_image c_thrown c_taped c_at c_part c_partFrom c_partNumber c_wrong c_partWord c_readLaw c_readBound c_readGoal c_readSites c_scripts c_sites c_asked c_outcome c_took c_acts c_drawn c_racer c_raced c_spelledMany c_hasImage c_now c_kept) H → va_D A (w_X8_keep E a_ a_tape a_readPlace a_script a_scriptLong a_now a_refused a_shareX a_shareY a_askedRow a_kept a_aside a_spelled a_image c_thrown c_taped c_at c_part c_partFrom c_partNumber c_wrong c_partWord c_readLaw c_readBound c_readGoal c_readSites c_scripts c_sites c_asked c_outcome c_took c_acts c_drawn c_racer c_raced c_spelledMany c_hasImage c_now c_kept) → va_S A s.heap H locs → lv_has ls 2 [(0, .ref a_), (1, .int x1)] → W p l e ({ frames := 0, cells := 0, slots := 0, locals := 0 } : Room) s m #[Value.ref a_] below meth c H locs 0 0 Q (F0 m 54 ls [])) (hE : ∀ (c_kept : Nat → Int32), xx = .inr c_kept → ((∀ (H : Heap) (locs : List Loc) (ls : Array Slot), va_P E.1 vwCl (w_X8_keep E a_ a_tape a_readPlace a_script a_scriptLong a_now a_refused a_shareX a_shareY a_askedRow a_kept a_aside a_spelled a_image c_thrown c_taped c_at c_part c_partFrom c_partNumber c_wrong c_partWord c_readLaw c_readBound c_readGoal c_readSites c_scripts c_sites c_asked c_outcome c_took c_acts c_drawn c_racer c_raced c_spelledMany c_hasImage c_now c_kept) H → va_D A (w_X8_keep E a_ a_tape a_readPlace a_script a_scriptLong a_now a_refused a_shareX a_shareY a_askedRow a_kept a_aside a_spelled a_image c_thrown c_taped c_at c_part c_partFrom c_partNumber c_wrong c_partWord c_readLaw c_readBound c_readGoal c_readSites c_scripts c_sites c_asked c_outcome c_took c_acts c_drawn c_racer c_raced c_spelledMany c_hasImage c_now c_kept) → va_S A s.heap H locs → lv_has ls 2 [(0, .ref a_)] → W p l e ({ frames := 0, cells := 0, slots := 0, locals := 0 } : Room) s m #[Value.ref a_] below meth c H locs 0 0 Q (F0 m 88 ls [])))) (hF : B_X8_keep_54 c_now c_acts x1 c_kept = some xx) : ∀ (H : Heap) (locs : List Loc) (ls : Array Slot), va_P E.1 vwCl (w_X8_keep E a_ a_tape a_readPlace a_script a_scriptLong a_now a_refused a_shareX a_shareY a_askedRow a_kept a_aside a_spelled a_image c_thrown c_taped c_at c_part c_partFrom c_partNumber c_wrong c_partWord c_readLaw c_readBound c_readGoal c_readSites c_scripts c_sites c_asked c_outcome c_took c_acts c_drawn c_racer c_raced c_spelledMany c_hasImage c_now c_kept) H → va_D A (w_X8_keep E a_ a_tape a_readPlace a_script a_scriptLong a_now a_refused a_shareX a_shareY a_askedRow a_kept a_aside a_spelled a_image c_thrown c_taped c_at c_part c_partFrom c_partNumber c_wrong c_partWord c_readLaw c_readBound c_readGoal c_readSites c_scripts c_sites c_asked c_outcome c_took c_acts c_drawn c_racer c_raced c_spelledMany c_hasImage c_now c_kept) → va_S A s.heap H locs → lv_has ls 2 [(0, .ref a_), (1, .int x1)] → W p l e ({ frames := 0, cells := 0, slots := 0, locals := 0 } : Room) s m #[Value.ref a_] below meth c H locs 0 0 Q (F0 m 54 ls []) := by
  unfold B_X8_keep_54 at hF
  intro H locs ls hP hD hS hl
  have h9 := fixPD (ws' := [k_X8 a_ c_thrown a_tape c_taped c_at c_part c_partFrom c_partNumber c_wrong c_partWord c_readLaw c_readBound c_readGoal c_readSites a_readPlace a_script a_scriptLong c_scripts a_now a_refused c_sites a_shareX a_shareY c_asked c_outcome a_askedRow c_took a_kept c_acts c_drawn a_aside c_racer c_raced a_spelled c_spelledMany a_image c_hasImage, k_I E a_now 265 c_now, k_I E a_kept 10600 c_kept]) hP hD rfl
  clear hP hD
  obtain ⟨hP, hD⟩ := h9
  refine lv_iload_n hx hb (dq_27 48 bcX8_keep_1 (j := 6) rfl rfl) rfl (lv_at hl 1 rfl) ?_
  refine lv_sipush (v := 265) hx hb (dq_17 48 bcX8_keep_1 (j := 7) (i := 265) rfl rfl rfl) (by decide) ?_
  refine lv_icmp_ge (tgt := 88) hx hb (dq_162 48 bcX8_keep_1 (j := 10) (i := 30) rfl rfl rfl) (by decide) (fun c_2 => ?_) (fun c_2 => ?_)
  ·
    replace hF := ip c_2 hF
    cases hF
    exact hE c_kept rfl H locs ls (hP.sub [0, 1, 2] rfl) (hD.sub [0, 1, 2] (by decide) rfl) hS (lv_sub hl [0] rfl)
  ·
    replace hF := inn c_2 hF
    refine lv_aload_n hx hb (dq_42 48 bcX8_keep_1 (j := 13) rfl rfl) rfl (lv_at hl 0 rfl) ?_
    refine gt_X8_26 (v := .ref a_kept) hx hb hts i_f_X8_keep_X8 hown hK hP 0 rfl (hts (.fieldLink RX8 37 "HushWatchModel" "kept" "[I") (List.mem_of_getElem? (i := 2) rfl)) rfl (dq_180 48 bcX8_keep_1 (j := 14) (i := 37) rfl rfl rfl) ?_
    refine lv_sipush (v := 265) hx hb (dq_17 48 bcX8_keep_1 (j := 17) (i := 265) rfl rfl rfl) (by decide) ?_
    refine lv_aload_n hx hb (dq_42 48 bcX8_keep_1 (j := 20) rfl rfl) rfl (lv_at hl 0 rfl) ?_
    refine gt_X8_27 (v := .int c_acts) hx hb hts i_f_X8_keep_X8 hown hK hP 0 rfl (hts (.fieldLink RX8 205 "HushWatchModel" "acts" "I") (List.mem_of_getElem? (i := 1) rfl)) rfl (dq_180 48 bcX8_keep_1 (j := 21) (i := 205) rfl rfl rfl) ?_
    refine lv_imul hx hb (dq_104 48 bcX8_keep_1 (j := 24) rfl rfl) ?_
    refine lv_iload_n hx hb (dq_27 48 bcX8_keep_1 (j := 25) rfl rfl) rfl (lv_at hl 1 rfl) ?_
    refine lv_iadd hx hb (dq_96 48 bcX8_keep_1 (j := 26) rfl rfl) ?_
    refine lv_aload_n hx hb (dq_42 48 bcX8_keep_1 (j := 27) rfl rfl) rfl (lv_at hl 0 rfl) ?_
    refine gt_X8_17 (v := .ref a_now) hx hb hts i_f_X8_keep_X8 hown hK hP 0 rfl (hts (.fieldLink RX8 22 "HushWatchModel" "now" "[I") (List.mem_of_getElem? (i := 3) rfl)) rfl (dq_180 48 bcX8_keep_1 (j := 28) (i := 22) rfl rfl rfl) ?_
    refine lv_iload_n hx hb (dq_27 48 bcX8_keep_1 (j := 31) rfl rfl) rfl (lv_at hl 1 rfl) ?_
    replace hF := ix_s hF
    obtain ⟨hi_3, hF⟩ := hF
    refine va_iald hx hb hK hP 1 0 rfl rfl hi_3 (dq_46 48 bcX8_keep_1 (j := 32) rfl rfl) ?_
    replace hF := ix_s hF
    obtain ⟨hi_4, hF⟩ := hF
    refine va_iast hx hb hK hP hD hS 2 0 rfl rfl hi_4 (dq_79 48 bcX8_keep_1 (j := 33) rfl rfl) (fun H locs hP hD hS => ?_)
    have h9 := fixPD (ws' := [k_X8 a_ c_thrown a_tape c_taped c_at c_part c_partFrom c_partNumber c_wrong c_partWord c_readLaw c_readBound c_readGoal c_readSites a_readPlace a_script a_scriptLong c_scripts a_now a_refused c_sites a_shareX a_shareY c_asked c_outcome a_askedRow c_took a_kept c_acts c_drawn a_aside c_racer c_raced a_spelled c_spelledMany a_image c_hasImage, k_I E a_now 265 c_now, k_I E a_kept 10600 (upd c_kept (((265 : Int32) * c_acts) + x1).toNatClampNeg (c_now x1.toNatClampNeg))]) hP hD rfl
    clear hP hD
    obtain ⟨hP, hD⟩ := h9
    replace hF := nm_s hF
    obtain ⟨f_5, hf_5, hF⟩ := hF
    rw [← hf_5] at hP hD
    refine lv_iinc (v := x1 + (1 : Int32)) (lv' := [(1, .int (x1 + (1 : Int32))), (0, .ref a_)]) hx hb (dq_132 48 bcX8_keep_1 (j := 34) (i := 1) rfl rfl rfl) hl (k := 1) rfl (rfl) (by decide) rfl (fun ls hl => ?_)
    refine lv_goto (tgt := 54) hx hb (dq_167 48 bcX8_keep_1 (j := 37) (i := -31) rfl rfl rfl) (by decide) ?_
    cases hF
    exact hC (x1 + (1 : Int32)) f_5 rfl H locs ls (hP.sub [0, 1, 2] rfl) (hD.sub [0, 1, 2] (by decide) rfl) hS (lv_sub hl [1, 0] rfl)

set_option maxHeartbeats 4000000 in
set_option maxRecDepth 100000 in
theorem lw_X8_keep_54 {p : Program} (l : Launch) {e : Env} {s : State} {m : MethodId} {below : List Frame} {meth : Method} {c : Code} {Q : State → Prop} (E : EE) (K : Nat) {a_ a_tape a_readPlace a_script a_scriptLong a_now a_refused a_shareX a_shareY a_askedRow a_kept a_aside a_spelled a_image : Nat} {c_thrown : Int32} {c_taped : Int32} {c_at : Int32} {c_part : Int32} {c_partFrom : Int32} {c_partNumber : Int32} {c_wrong : Int32} {c_partWord : Int64} {c_readLaw : Int32} {c_readBound : Int32} {c_readGoal : Int32} {c_readSites : Int32} {c_scripts : Int32} {c_sites : Int32} {c_asked : Int32} {c_outcome : Int32} {c_took : Int32} {c_drawn : Int64} {c_racer : Int32} {c_raced : Int32} {c_spelledMany : Int32} {c_hasImage : Int32} {c_now : Nat → Int32} {c_acts : Int32} (hx : p.tables.exec = Jvm.exec) (hb : c.code = cX8_keep) (hml : c.maxLocals = 2) (hown : s.vm.findClass RX8 = some m.cls) (hts : ∀ w ∈ v_f_X8_keep, w.before #[Value.ref a_] s = true) (hK : va_K E.1 vwCl (TY E) s) (hN : NX s) {A : Nat → Prop} (hA : ∀ q : Nat, s.heap.size ≤ q → A q) (j9 : Nat) (x1 : Int32) (c_kept : Nat → Int32) (c_kept' : Nat → Int32) (hL : lpF (fun u9 : Int32 × (Nat → Int32) => B_X8_keep_54 c_now c_acts u9.1 u9.2) j9 (x1, c_kept) = some c_kept') (hX : (∀ (H : Heap) (locs : List Loc) (ls : Array Slot), va_P E.1 vwCl (w_X8_keep E a_ a_tape a_readPlace a_script a_scriptLong a_now a_refused a_shareX a_shareY a_askedRow a_kept a_aside a_spelled a_image c_thrown c_taped c_at c_part c_partFrom c_partNumber c_wrong c_partWord c_readLaw c_readBound c_readGoal c_readSites c_scripts c_sites c_asked c_outcome c_took c_acts c_drawn c_racer c_raced c_spelledMany c_hasImage c_now c_kept') H → va_D A (w_X8_keep E a_ a_tape a_readPlace a_script a_scriptLong a_now a_refused a_shareX a_shareY a_askedRow a_kept a_aside a_spelled a_image c_thrown c_taped c_at c_part c_partFrom c_partNumber c_wrong c_partWord c_readLaw c_readBound c_readGoal c_readSites c_scripts c_sites c_asked c_outcome c_took c_acts c_drawn c_racer c_raced c_spelledMany c_hasImage c_now c_kept') → va_S A s.heap H locs → lv_has ls 2 [(0, .ref a_)] → W p l e ({ frames := 0, cells := 0, slots := 0, locals := 0 } : Room) s m #[Value.ref a_] below meth c H locs 0 0 Q (F0 m 88 ls []))) : ∀ (H : Heap) (locs : List Loc) (ls : Array Slot), va_P E.1 vwCl (w_X8_keep E a_ a_tape a_readPlace a_script a_scriptLong a_now a_refused a_shareX a_shareY a_askedRow a_kept a_aside a_spelled a_image c_thrown c_taped c_at c_part c_partFrom c_partNumber c_wrong c_partWord c_readLaw c_readBound c_readGoal c_readSites c_scripts c_sites c_asked c_outcome c_took c_acts c_drawn c_racer c_raced c_spelledMany c_hasImage c_now c_kept) H → va_D A (w_X8_keep E a_ a_tape a_readPlace a_script a_scriptLong a_now a_refused a_shareX a_shareY a_askedRow a_kept a_aside a_spelled a_image c_thrown c_taped c_at c_part c_partFrom c_partNumber c_wrong c_partWord c_readLaw c_readBound c_readGoal c_readSites c_scripts c_sites c_asked c_outcome c_took c_acts c_drawn c_racer c_raced c_spelledMany c_hasImage c_now c_kept) → va_S A s.heap H locs → lv_has ls 2 [(0, .ref a_), (1, .int x1)] → W p l e ({ frames := 0, cells := 0, slots := 0, locals := 0 } : Room) s m #[Value.ref a_] below meth c H locs 0 0 Q (F0 m 54 ls []) := by
  exact lp_rule (P := (fun u9 : Int32 × (Nat → Int32) => ∀ (H : Heap) (locs : List Loc) (ls : Array Slot), va_P E.1 vwCl (w_X8_keep E a_ a_tape a_readPlace a_script a_scriptLong a_now a_refused a_shareX a_shareY a_askedRow a_kept a_aside a_spelled a_image c_thrown c_taped c_at c_part c_partFrom c_partNumber c_wrong c_partWord c_readLaw c_readBound c_readGoal c_readSites c_scripts c_sites c_asked c_outcome c_took c_acts c_drawn c_racer c_raced c_spelledMany c_hasImage c_now u9.2) H → va_D A (w_X8_keep E a_ a_tape a_readPlace a_script a_scriptLong a_now a_refused a_shareX a_shareY a_askedRow a_kept a_aside a_spelled a_image c_thrown c_taped c_at c_part c_partFrom c_partNumber c_wrong c_partWord c_readLaw c_readBound c_readGoal c_readSites c_scripts c_sites c_asked c_outcome c_took c_acts c_drawn c_racer c_raced c_spelledMany c_hasImage c_now u9.2) → va_S A s.heap H locs → lv_has ls 2 [(0, .ref a_), (1, .int u9.1)] → W p l e ({ frames := 0, cells := 0, slots := 0, locals := 0 } : Room) s m #[Value.ref a_] below meth c H locs 0 0 Q (F0 m 54 ls []))) (R := (fun r9 : (Nat → Int32) => (∀ (H : Heap) (locs : List Loc) (ls : Array Slot), va_P E.1 vwCl (w_X8_keep E a_ a_tape a_readPlace a_script a_scriptLong a_now a_refused a_shareX a_shareY a_askedRow a_kept a_aside a_spelled a_image c_thrown c_taped c_at c_part c_partFrom c_partNumber c_wrong c_partWord c_readLaw c_readBound c_readGoal c_readSites c_scripts c_sites c_asked c_outcome c_took c_acts c_drawn c_racer c_raced c_spelledMany c_hasImage c_now r9) H → va_D A (w_X8_keep E a_ a_tape a_readPlace a_script a_scriptLong a_now a_refused a_shareX a_shareY a_askedRow a_kept a_aside a_spelled a_image c_thrown c_taped c_at c_part c_partFrom c_partNumber c_wrong c_partWord c_readLaw c_readBound c_readGoal c_readSites c_scripts c_sites c_asked c_outcome c_took c_acts c_drawn c_racer c_raced c_spelledMany c_hasImage c_now r9) → va_S A s.heap H locs → lv_has ls 2 [(0, .ref a_)] → W p l e ({ frames := 0, cells := 0, slots := 0, locals := 0 } : Room) s m #[Value.ref a_] below meth c H locs 0 0 Q (F0 m 88 ls [])))) (fun u9 xx hF hC hE => wb_X8_keep_54 l E K (c_thrown := c_thrown) (c_taped := c_taped) (c_at := c_at) (c_part := c_part) (c_partFrom := c_partFrom) (c_partNumber := c_partNumber) (c_wrong := c_wrong) (c_partWord := c_partWord) (c_readLaw := c_readLaw) (c_readBound := c_readBound) (c_readGoal := c_readGoal) (c_readSites := c_readSites) (c_scripts := c_scripts) (c_sites := c_sites) (c_asked := c_asked) (c_outcome := c_outcome) (c_took := c_took) (c_drawn := c_drawn) (c_racer := c_racer) (c_raced := c_raced) (c_spelledMany := c_spelledMany) (c_hasImage := c_hasImage) (c_now := c_now) (x1 := u9.1) (c_kept := u9.2) (c_acts := c_acts) hx hb hml hown hts hK hN hA (fun x1 c_kept q9 => hC _ q9) (fun c_kept q9 => hE _ q9) hF) j9 (x1, c_kept) c_kept' hL hX

set_option maxHeartbeats 4000000 in
set_option maxRecDepth 100000 in
theorem j_X8_keep_52 {p : Program} (l : Launch) {e : Env} {s : State} {m : MethodId} {below : List Frame} {meth : Method} {c : Code} {Q : State → Prop} (E : EE) (K : Nat) {a_ a_tape a_readPlace a_script a_scriptLong a_now a_refused a_shareX a_shareY a_askedRow a_kept a_aside a_spelled a_image : Nat} {c_thrown : Int32} {c_taped : Int32} {c_at : Int32} {c_part : Int32} {c_partFrom : Int32} {c_partNumber : Int32} {c_wrong : Int32} {c_partWord : Int64} {c_readLaw : Int32} {c_readBound : Int32} {c_readGoal : Int32} {c_readSites : Int32} {c_scripts : Int32} {c_sites : Int32} {c_asked : Int32} {c_outcome : Int32} {c_took : Int32} {c_drawn : Int64} {c_racer : Int32} {c_raced : Int32} {c_spelledMany : Int32} {c_hasImage : Int32} {c_now : Nat → Int32} {c_kept : Nat → Int32} {c_acts : Int32} (hx : p.tables.exec = Jvm.exec) (hb : c.code = cX8_keep) (hml : c.maxLocals = 2) (hown : s.vm.findClass RX8 = some m.cls) (hts : ∀ w ∈ v_f_X8_keep, w.before #[Value.ref a_] s = true) (hK : va_K E.1 vwCl (TY E) s) (hN : NX s) {A : Nat → Prop} (hA : ∀ q : Nat, s.heap.size ≤ q → A q) {n_kept : Nat → Int32} {n_acts : Int32} (hr : meth.sig.returnType = none) (hlocks : meth.locks = false) (hQ : Q = MQ below (va_Qv (fun (_u : Unit) => True) (fun (_u : Unit) tt => va_P E.1 vwCl (w_X8_keep E a_ a_tape a_readPlace a_script a_scriptLong a_now a_refused a_shareX a_shareY a_askedRow a_kept a_aside a_spelled a_image c_thrown c_taped c_at c_part c_partFrom c_partNumber c_wrong c_partWord c_readLaw c_readBound c_readGoal c_readSites c_scripts c_sites c_asked c_outcome c_took n_acts c_drawn c_racer c_raced c_spelledMany c_hasImage c_now n_kept) tt.heap ∧ va_D A (w_X8_keep E a_ a_tape a_readPlace a_script a_scriptLong a_now a_refused a_shareX a_shareY a_askedRow a_kept a_aside a_spelled a_image c_thrown c_taped c_at c_part c_partFrom c_partNumber c_wrong c_partWord c_readLaw c_readBound c_readGoal c_readSites c_scripts c_sites c_asked c_outcome c_took n_acts c_drawn c_racer c_raced c_spelledMany c_hasImage c_now n_kept)) A) #[Value.ref a_] s 0 0 A) (hF : J_X8_keep_52 K c_now c_kept c_acts = some (n_kept, n_acts)) : ∀ (H : Heap) (locs : List Loc) (ls : Array Slot), va_P E.1 vwCl (w_X8_keep E a_ a_tape a_readPlace a_script a_scriptLong a_now a_refused a_shareX a_shareY a_askedRow a_kept a_aside a_spelled a_image c_thrown c_taped c_at c_part c_partFrom c_partNumber c_wrong c_partWord c_readLaw c_readBound c_readGoal c_readSites c_scripts c_sites c_asked c_outcome c_took c_acts c_drawn c_racer c_raced c_spelledMany c_hasImage c_now c_kept) H → va_D A (w_X8_keep E a_ a_tape a_readPlace a_script a_scriptLong a_now a_refused a_shareX a_shareY a_askedRow a_kept a_aside a_spelled a_image c_thrown c_taped c_at c_part c_partFrom c_partNumber c_wrong c_partWord c_readLaw c_readBound c_readGoal c_readSites c_scripts c_sites c_asked c_outcome c_took c_acts c_drawn c_racer c_raced c_spelledMany c_hasImage c_now c_kept) → va_S A s.heap H locs → lv_has ls 2 [(0, .ref a_)] → W p l e ({ frames := 0, cells := 0, slots := 0, locals := 0 } : Room) s m #[Value.ref a_] below meth c H locs 0 0 Q (F0 m 52 ls []) := by
  unfold J_X8_keep_52 at hF
  intro H locs ls hP hD hS hl
  have h9 := fixPD (ws' := [k_X8 a_ c_thrown a_tape c_taped c_at c_part c_partFrom c_partNumber c_wrong c_partWord c_readLaw c_readBound c_readGoal c_readSites a_readPlace a_script a_scriptLong c_scripts a_now a_refused c_sites a_shareX a_shareY c_asked c_outcome a_askedRow c_took a_kept c_acts c_drawn a_aside c_racer c_raced a_spelled c_spelledMany a_image c_hasImage, k_I E a_now 265 c_now, k_I E a_kept 10600 c_kept]) hP hD rfl
  clear hP hD
  obtain ⟨hP, hD⟩ := h9
  refine lv_iconst (v := 0) hx hb (dq_3 48 bcX8_keep_1 (j := 4) rfl rfl) (by decide) ?_
  refine lv_istore_n (lv' := [(1, .int (0 : Int32)), (0, .ref a_)]) hx hb (dq_60 48 bcX8_keep_1 (j := 5) rfl rfl) rfl hl (by decide) rfl (fun ls hl => ?_)
  replace hF := bd1_s hF
  obtain ⟨c_kept_6, hL_7, hF⟩ := hF
  refine lw_X8_keep_54 l E K (c_thrown := c_thrown) (c_taped := c_taped) (c_at := c_at) (c_part := c_part) (c_partFrom := c_partFrom) (c_partNumber := c_partNumber) (c_wrong := c_wrong) (c_partWord := c_partWord) (c_readLaw := c_readLaw) (c_readBound := c_readBound) (c_readGoal := c_readGoal) (c_readSites := c_readSites) (c_scripts := c_scripts) (c_sites := c_sites) (c_asked := c_asked) (c_outcome := c_outcome) (c_took := c_took) (c_drawn := c_drawn) (c_racer := c_racer) (c_raced := c_raced) (c_spelledMany := c_spelledMany) (c_hasImage := c_hasImage) (c_now := c_now) (c_acts := c_acts) hx hb hml hown hts hK hN hA K (0 : Int32) c_kept c_kept_6 hL_7 ?_ H locs ls (hP.sub [0, 1, 2] rfl) (hD.sub [0, 1, 2] (by decide) rfl) hS (lv_sub hl [1, 0] rfl)
  ·
    intro H locs ls hP hD hS hl
    have h9 := fixPD (ws' := [k_X8 a_ c_thrown a_tape c_taped c_at c_part c_partFrom c_partNumber c_wrong c_partWord c_readLaw c_readBound c_readGoal c_readSites a_readPlace a_script a_scriptLong c_scripts a_now a_refused c_sites a_shareX a_shareY c_asked c_outcome a_askedRow c_took a_kept c_acts c_drawn a_aside c_racer c_raced a_spelled c_spelledMany a_image c_hasImage, k_I E a_now 265 c_now, k_I E a_kept 10600 c_kept_6]) hP hD rfl
    clear hP hD
    obtain ⟨hP, hD⟩ := h9
    refine lv_aload_n hx hb (dq_42 48 bcX8_keep_1 (j := 40) rfl rfl) rfl (lv_at hl 0 rfl) ?_
    refine lv_dup hx hb (dq_89 48 bcX8_keep_1 (j := 41) rfl rfl) rfl ?_
    refine gt_X8_27 (v := .int c_acts) hx hb hts i_f_X8_keep_X8 hown hK hP 0 rfl (hts (.fieldLink RX8 205 "HushWatchModel" "acts" "I") (List.mem_of_getElem? (i := 1) rfl)) rfl (dq_180 48 bcX8_keep_1 (j := 42) (i := 205) rfl rfl rfl) ?_
    refine lv_iconst (v := 1) hx hb (dq_4 48 bcX8_keep_1 (j := 45) rfl rfl) (by decide) ?_
    refine lv_iadd hx hb (dq_96 48 bcX8_keep_1 (j := 46) rfl rfl) ?_
    refine pt_X8_27 (v := .int (c_acts + (1 : Int32))) hx hb hts i_f_X8_keep_X8 hown hK hP hD hS 0 rfl (hts (.fieldLink RX8 205 "HushWatchModel" "acts" "I") (List.mem_of_getElem? (i := 1) rfl)) rfl rfl (Nat.le_of_ble_eq_true rfl) (dq_181 48 bcX8_keep_1 (j := 47) (i := 205) rfl rfl rfl) (fun H locs hP hD hS => ?_)
    have h9 := fixPD (ws' := [k_X8 a_ c_thrown a_tape c_taped c_at c_part c_partFrom c_partNumber c_wrong c_partWord c_readLaw c_readBound c_readGoal c_readSites a_readPlace a_script a_scriptLong c_scripts a_now a_refused c_sites a_shareX a_shareY c_asked c_outcome a_askedRow c_took a_kept (c_acts + (1 : Int32)) c_drawn a_aside c_racer c_raced a_spelled c_spelledMany a_image c_hasImage, k_I E a_now 265 c_now, k_I E a_kept 10600 c_kept_6]) hP hD rfl
    clear hP hD
    obtain ⟨hP, hD⟩ := h9
    rw [hQ]
    have h9 := fin9 (P := fun u9 : (Nat → Int32) × Int32 => va_P E.1 vwCl (w_X8_keep E a_ a_tape a_readPlace a_script a_scriptLong a_now a_refused a_shareX a_shareY a_askedRow a_kept a_aside a_spelled a_image c_thrown c_taped c_at c_part c_partFrom c_partNumber c_wrong c_partWord c_readLaw c_readBound c_readGoal c_readSites c_scripts c_sites c_asked c_outcome c_took u9.2 c_drawn c_racer c_raced c_spelledMany c_hasImage c_now u9.1) H ∧ va_D A (w_X8_keep E a_ a_tape a_readPlace a_script a_scriptLong a_now a_refused a_shareX a_shareY a_askedRow a_kept a_aside a_spelled a_image c_thrown c_taped c_at c_part c_partFrom c_partNumber c_wrong c_partWord c_readLaw c_readBound c_readGoal c_readSites c_scripts c_sites c_asked c_outcome c_took u9.2 c_drawn c_racer c_raced c_spelledMany c_hasImage c_now u9.1)) hF ⟨hP, hD⟩
    obtain ⟨hP9, hD9⟩ := h9
    exact W.vret hx hb hr (fun tt ht hW => ⟨⟨(), rfl, trivial, ht ▸ hP9, hD9⟩, hS.F ht⟩) hS.2.2 (dq_177 96 bcX8_keep_2 (j := 2) rfl rfl)

set_option maxHeartbeats 4000000 in
set_option maxRecDepth 100000 in
theorem wb_X8_keep_13 {p : Program} (l : Launch) {e : Env} {s : State} {m : MethodId} {below : List Frame} {meth : Method} {c : Code} {Q : State → Prop} (E : EE) (K : Nat) {a_ a_tape a_readPlace a_script a_scriptLong a_now a_refused a_shareX a_shareY a_askedRow a_kept a_aside a_spelled a_image : Nat} {c_thrown : Int32} {c_taped : Int32} {c_at : Int32} {c_part : Int32} {c_partFrom : Int32} {c_partNumber : Int32} {c_wrong : Int32} {c_partWord : Int64} {c_readLaw : Int32} {c_readBound : Int32} {c_readGoal : Int32} {c_readSites : Int32} {c_scripts : Int32} {c_sites : Int32} {c_asked : Int32} {c_outcome : Int32} {c_took : Int32} {c_drawn : Int64} {c_racer : Int32} {c_raced : Int32} {c_spelledMany : Int32} {c_hasImage : Int32} {c_now : Nat → Int32} {x1 : Int32} {c_kept : Nat → Int32} {c_acts : Int32} (hx : p.tables.exec = Jvm.exec) (hb : c.code = cX8_keep) (hml : c.maxLocals = 2) (hown : s.vm.findClass RX8 = some m.cls) (hts : ∀ w ∈ v_f_X8_keep, w.before #[Value.ref a_] s = true) (hK : va_K E.1 vwCl (TY E) s) (hN : NX s) {A : Nat → Prop} (hA : ∀ q : Nat, s.heap.size ≤ q → A q) {xx : (Int32 × (Nat → Int32)) ⊕ ((Nat → Int32))} (hC : ∀ (x1 : Int32), ∀ (c_kept : Nat → Int32), xx = .inl (x1, c_kept) → ∀ (H : Heap) (locs : List Loc) (ls : Array Slot), va_P E.1 vwCl (w_X8_keep E a_ a_tape a_readPlace a_script a_scriptLong a_now a_refused a_shareX a_shareY a_askedRow a_kept a_aside a_spelled a_image c_thrown c_taped c_at c_part c_partFrom c_partNumber c_wrong c_partWord c_readLaw c_readBound c_readGoal c_readSites c_scripts c_sites c_asked c_outcome c_took c_acts c_drawn c_racer c_raced c_spelledMany c_hasImage c_now c_kept) H → va_D A (w_X8_keep E a_ a_tape a_readPlace a_script a_scriptLong a_now a_refused a_shareX a_shareY a_askedRow a_kept a_aside a_spelled a_image c_thrown c_taped c_at c_part c_partFrom c_partNumber c_wrong c_partWord c_readLaw c_readBound c_readGoal c_readSites c_scripts c_sites c_asked c_outcome c_took c_acts c_drawn c_racer c_raced c_spelledMany c_hasImage c_now c_kept) → va_S A s.heap H locs → lv_has ls 2 [(0, .ref a_), (1, .int x1)] → W p l e ({ frames := 0, cells := 0, slots := 0, locals := 0 } : Room) s m #[Value.ref a_] below meth c H locs 0 0 Q (F0 m 13 ls [])) (hE : ∀ (c_kept : Nat → Int32), xx = .inr c_kept → ((∀ (H : Heap) (locs : List Loc) (ls : Array Slot), va_P E.1 vwCl (w_X8_keep E a_ a_tape a_readPlace a_script a_scriptLong a_now a_refused a_shareX a_shareY a_askedRow a_kept a_aside a_spelled a_image c_thrown c_taped c_at c_part c_partFrom c_partNumber c_wrong c_partWord c_readLaw c_readBound c_readGoal c_readSites c_scripts c_sites c_asked c_outcome c_took c_acts c_drawn c_racer c_raced c_spelledMany c_hasImage c_now c_kept) H → va_D A (w_X8_keep E a_ a_tape a_readPlace a_script a_scriptLong a_now a_refused a_shareX a_shareY a_askedRow a_kept a_aside a_spelled a_image c_thrown c_taped c_at c_part c_partFrom c_partNumber c_wrong c_partWord c_readLaw c_readBound c_readGoal c_readSites c_scripts c_sites c_asked c_outcome c_took c_acts c_drawn c_racer c_raced c_spelledMany c_hasImage c_now c_kept) → va_S A s.heap H locs → lv_has ls 2 [(0, .ref a_)] → W p l e ({ frames := 0, cells := 0, slots := 0, locals := 0 } : Room) s m #[Value.ref a_] below meth c H locs 0 0 Q (F0 m 42 ls [])))) (hF : B_X8_keep_13  x1 c_kept = some xx) : ∀ (H : Heap) (locs : List Loc) (ls : Array Slot), va_P E.1 vwCl (w_X8_keep E a_ a_tape a_readPlace a_script a_scriptLong a_now a_refused a_shareX a_shareY a_askedRow a_kept a_aside a_spelled a_image c_thrown c_taped c_at c_part c_partFrom c_partNumber c_wrong c_partWord c_readLaw c_readBound c_readGoal c_readSites c_scripts c_sites c_asked c_outcome c_took c_acts c_drawn c_racer c_raced c_spelledMany c_hasImage c_now c_kept) H → va_D A (w_X8_keep E a_ a_tape a_readPlace a_script a_scriptLong a_now a_refused a_shareX a_shareY a_askedRow a_kept a_aside a_spelled a_image c_thrown c_taped c_at c_part c_partFrom c_partNumber c_wrong c_partWord c_readLaw c_readBound c_readGoal c_readSites c_scripts c_sites c_asked c_outcome c_took c_acts c_drawn c_racer c_raced c_spelledMany c_hasImage c_now c_kept) → va_S A s.heap H locs → lv_has ls 2 [(0, .ref a_), (1, .int x1)] → W p l e ({ frames := 0, cells := 0, slots := 0, locals := 0 } : Room) s m #[Value.ref a_] below meth c H locs 0 0 Q (F0 m 13 ls []) := by
  unfold B_X8_keep_13 at hF
  intro H locs ls hP hD hS hl
  have h9 := fixPD (ws' := [k_X8 a_ c_thrown a_tape c_taped c_at c_part c_partFrom c_partNumber c_wrong c_partWord c_readLaw c_readBound c_readGoal c_readSites a_readPlace a_script a_scriptLong c_scripts a_now a_refused c_sites a_shareX a_shareY c_asked c_outcome a_askedRow c_took a_kept c_acts c_drawn a_aside c_racer c_raced a_spelled c_spelledMany a_image c_hasImage, k_I E a_now 265 c_now, k_I E a_kept 10600 c_kept]) hP hD rfl
  clear hP hD
  obtain ⟨hP, hD⟩ := h9
  refine lv_iload_n hx hb (dq_27 0 bcX8_keep_0 (j := 13) rfl rfl) rfl (lv_at hl 1 rfl) ?_
  refine lv_sipush (v := 10600) hx hb (dq_17 0 bcX8_keep_0 (j := 14) (i := 10600) rfl rfl rfl) (by decide) ?_
  refine lv_icmp_ge (tgt := 42) hx hb (dq_162 0 bcX8_keep_0 (j := 17) (i := 25) rfl rfl rfl) (by decide) (fun c_8 => ?_) (fun c_8 => ?_)
  ·
    replace hF := ip c_8 hF
    cases hF
    exact hE c_kept rfl H locs ls (hP.sub [0, 1, 2] rfl) (hD.sub [0, 1, 2] (by decide) rfl) hS (lv_sub hl [0] rfl)
  ·
    replace hF := inn c_8 hF
    refine lv_aload_n hx hb (dq_42 0 bcX8_keep_0 (j := 20) rfl rfl) rfl (lv_at hl 0 rfl) ?_
    refine gt_X8_26 (v := .ref a_kept) hx hb hts i_f_X8_keep_X8 hown hK hP 0 rfl (hts (.fieldLink RX8 37 "HushWatchModel" "kept" "[I") (List.mem_of_getElem? (i := 2) rfl)) rfl (dq_180 0 bcX8_keep_0 (j := 21) (i := 37) rfl rfl rfl) ?_
    refine lv_iload_n hx hb (dq_27 0 bcX8_keep_0 (j := 24) rfl rfl) rfl (lv_at hl 1 rfl) ?_
    refine lv_sipush (v := 265) hx hb (dq_17 0 bcX8_keep_0 (j := 25) (i := 265) rfl rfl rfl) (by decide) ?_
    refine lv_isub hx hb (dq_100 0 bcX8_keep_0 (j := 28) rfl rfl) ?_
    refine lv_aload_n hx hb (dq_42 0 bcX8_keep_0 (j := 29) rfl rfl) rfl (lv_at hl 0 rfl) ?_
    refine gt_X8_26 (v := .ref a_kept) hx hb hts i_f_X8_keep_X8 hown hK hP 0 rfl (hts (.fieldLink RX8 37 "HushWatchModel" "kept" "[I") (List.mem_of_getElem? (i := 2) rfl)) rfl (dq_180 0 bcX8_keep_0 (j := 30) (i := 37) rfl rfl rfl) ?_
    refine lv_iload_n hx hb (dq_27 0 bcX8_keep_0 (j := 33) rfl rfl) rfl (lv_at hl 1 rfl) ?_
    replace hF := ix_s hF
    obtain ⟨hi_9, hF⟩ := hF
    refine va_iald hx hb hK hP 2 0 rfl rfl hi_9 (dq_46 0 bcX8_keep_0 (j := 34) rfl rfl) ?_
    replace hF := ix_s hF
    obtain ⟨hi_10, hF⟩ := hF
    refine va_iast hx hb hK hP hD hS 2 0 rfl rfl hi_10 (dq_79 0 bcX8_keep_0 (j := 35) rfl rfl) (fun H locs hP hD hS => ?_)
    have h9 := fixPD (ws' := [k_X8 a_ c_thrown a_tape c_taped c_at c_part c_partFrom c_partNumber c_wrong c_partWord c_readLaw c_readBound c_readGoal c_readSites a_readPlace a_script a_scriptLong c_scripts a_now a_refused c_sites a_shareX a_shareY c_asked c_outcome a_askedRow c_took a_kept c_acts c_drawn a_aside c_racer c_raced a_spelled c_spelledMany a_image c_hasImage, k_I E a_now 265 c_now, k_I E a_kept 10600 (upd c_kept (x1 - (265 : Int32)).toNatClampNeg (c_kept x1.toNatClampNeg))]) hP hD rfl
    clear hP hD
    obtain ⟨hP, hD⟩ := h9
    replace hF := nm_s hF
    obtain ⟨f_11, hf_11, hF⟩ := hF
    rw [← hf_11] at hP hD
    refine lv_iinc (v := x1 + (1 : Int32)) (lv' := [(1, .int (x1 + (1 : Int32))), (0, .ref a_)]) hx hb (dq_132 0 bcX8_keep_0 (j := 36) (i := 1) rfl rfl rfl) hl (k := 1) rfl (rfl) (by decide) rfl (fun ls hl => ?_)
    refine lv_goto (tgt := 13) hx hb (dq_167 0 bcX8_keep_0 (j := 39) (i := -26) rfl rfl rfl) (by decide) ?_
    cases hF
    exact hC (x1 + (1 : Int32)) f_11 rfl H locs ls (hP.sub [0, 1, 2] rfl) (hD.sub [0, 1, 2] (by decide) rfl) hS (lv_sub hl [1, 0] rfl)

set_option maxHeartbeats 4000000 in
set_option maxRecDepth 100000 in
theorem lw_X8_keep_13 {p : Program} (l : Launch) {e : Env} {s : State} {m : MethodId} {below : List Frame} {meth : Method} {c : Code} {Q : State → Prop} (E : EE) (K : Nat) {a_ a_tape a_readPlace a_script a_scriptLong a_now a_refused a_shareX a_shareY a_askedRow a_kept a_aside a_spelled a_image : Nat} {c_thrown : Int32} {c_taped : Int32} {c_at : Int32} {c_part : Int32} {c_partFrom : Int32} {c_partNumber : Int32} {c_wrong : Int32} {c_partWord : Int64} {c_readLaw : Int32} {c_readBound : Int32} {c_readGoal : Int32} {c_readSites : Int32} {c_scripts : Int32} {c_sites : Int32} {c_asked : Int32} {c_outcome : Int32} {c_took : Int32} {c_drawn : Int64} {c_racer : Int32} {c_raced : Int32} {c_spelledMany : Int32} {c_hasImage : Int32} {c_now : Nat → Int32} {c_acts : Int32} (hx : p.tables.exec = Jvm.exec) (hb : c.code = cX8_keep) (hml : c.maxLocals = 2) (hown : s.vm.findClass RX8 = some m.cls) (hts : ∀ w ∈ v_f_X8_keep, w.before #[Value.ref a_] s = true) (hK : va_K E.1 vwCl (TY E) s) (hN : NX s) {A : Nat → Prop} (hA : ∀ q : Nat, s.heap.size ≤ q → A q) (j9 : Nat) (x1 : Int32) (c_kept : Nat → Int32) (c_kept' : Nat → Int32) (hL : lpF (fun u9 : Int32 × (Nat → Int32) => B_X8_keep_13  u9.1 u9.2) j9 (x1, c_kept) = some c_kept') (hX : (∀ (H : Heap) (locs : List Loc) (ls : Array Slot), va_P E.1 vwCl (w_X8_keep E a_ a_tape a_readPlace a_script a_scriptLong a_now a_refused a_shareX a_shareY a_askedRow a_kept a_aside a_spelled a_image c_thrown c_taped c_at c_part c_partFrom c_partNumber c_wrong c_partWord c_readLaw c_readBound c_readGoal c_readSites c_scripts c_sites c_asked c_outcome c_took c_acts c_drawn c_racer c_raced c_spelledMany c_hasImage c_now c_kept') H → va_D A (w_X8_keep E a_ a_tape a_readPlace a_script a_scriptLong a_now a_refused a_shareX a_shareY a_askedRow a_kept a_aside a_spelled a_image c_thrown c_taped c_at c_part c_partFrom c_partNumber c_wrong c_partWord c_readLaw c_readBound c_readGoal c_readSites c_scripts c_sites c_asked c_outcome c_took c_acts c_drawn c_racer c_raced c_spelledMany c_hasImage c_now c_kept') → va_S A s.heap H locs → lv_has ls 2 [(0, .ref a_)] → W p l e ({ frames := 0, cells := 0, slots := 0, locals := 0 } : Room) s m #[Value.ref a_] below meth c H locs 0 0 Q (F0 m 42 ls []))) : ∀ (H : Heap) (locs : List Loc) (ls : Array Slot), va_P E.1 vwCl (w_X8_keep E a_ a_tape a_readPlace a_script a_scriptLong a_now a_refused a_shareX a_shareY a_askedRow a_kept a_aside a_spelled a_image c_thrown c_taped c_at c_part c_partFrom c_partNumber c_wrong c_partWord c_readLaw c_readBound c_readGoal c_readSites c_scripts c_sites c_asked c_outcome c_took c_acts c_drawn c_racer c_raced c_spelledMany c_hasImage c_now c_kept) H → va_D A (w_X8_keep E a_ a_tape a_readPlace a_script a_scriptLong a_now a_refused a_shareX a_shareY a_askedRow a_kept a_aside a_spelled a_image c_thrown c_taped c_at c_part c_partFrom c_partNumber c_wrong c_partWord c_readLaw c_readBound c_readGoal c_readSites c_scripts c_sites c_asked c_outcome c_took c_acts c_drawn c_racer c_raced c_spelledMany c_hasImage c_now c_kept) → va_S A s.heap H locs → lv_has ls 2 [(0, .ref a_), (1, .int x1)] → W p l e ({ frames := 0, cells := 0, slots := 0, locals := 0 } : Room) s m #[Value.ref a_] below meth c H locs 0 0 Q (F0 m 13 ls []) := by
  exact lp_rule (P := (fun u9 : Int32 × (Nat → Int32) => ∀ (H : Heap) (locs : List Loc) (ls : Array Slot), va_P E.1 vwCl (w_X8_keep E a_ a_tape a_readPlace a_script a_scriptLong a_now a_refused a_shareX a_shareY a_askedRow a_kept a_aside a_spelled a_image c_thrown c_taped c_at c_part c_partFrom c_partNumber c_wrong c_partWord c_readLaw c_readBound c_readGoal c_readSites c_scripts c_sites c_asked c_outcome c_took c_acts c_drawn c_racer c_raced c_spelledMany c_hasImage c_now u9.2) H → va_D A (w_X8_keep E a_ a_tape a_readPlace a_script a_scriptLong a_now a_refused a_shareX a_shareY a_askedRow a_kept a_aside a_spelled a_image c_thrown c_taped c_at c_part c_partFrom c_partNumber c_wrong c_partWord c_readLaw c_readBound c_readGoal c_readSites c_scripts c_sites c_asked c_outcome c_took c_acts c_drawn c_racer c_raced c_spelledMany c_hasImage c_now u9.2) → va_S A s.heap H locs → lv_has ls 2 [(0, .ref a_), (1, .int u9.1)] → W p l e ({ frames := 0, cells := 0, slots := 0, locals := 0 } : Room) s m #[Value.ref a_] below meth c H locs 0 0 Q (F0 m 13 ls []))) (R := (fun r9 : (Nat → Int32) => (∀ (H : Heap) (locs : List Loc) (ls : Array Slot), va_P E.1 vwCl (w_X8_keep E a_ a_tape a_readPlace a_script a_scriptLong a_now a_refused a_shareX a_shareY a_askedRow a_kept a_aside a_spelled a_image c_thrown c_taped c_at c_part c_partFrom c_partNumber c_wrong c_partWord c_readLaw c_readBound c_readGoal c_readSites c_scripts c_sites c_asked c_outcome c_took c_acts c_drawn c_racer c_raced c_spelledMany c_hasImage c_now r9) H → va_D A (w_X8_keep E a_ a_tape a_readPlace a_script a_scriptLong a_now a_refused a_shareX a_shareY a_askedRow a_kept a_aside a_spelled a_image c_thrown c_taped c_at c_part c_partFrom c_partNumber c_wrong c_partWord c_readLaw c_readBound c_readGoal c_readSites c_scripts c_sites c_asked c_outcome c_took c_acts c_drawn c_racer c_raced c_spelledMany c_hasImage c_now r9) → va_S A s.heap H locs → lv_has ls 2 [(0, .ref a_)] → W p l e ({ frames := 0, cells := 0, slots := 0, locals := 0 } : Room) s m #[Value.ref a_] below meth c H locs 0 0 Q (F0 m 42 ls [])))) (fun u9 xx hF hC hE => wb_X8_keep_13 l E K (c_thrown := c_thrown) (c_taped := c_taped) (c_at := c_at) (c_part := c_part) (c_partFrom := c_partFrom) (c_partNumber := c_partNumber) (c_wrong := c_wrong) (c_partWord := c_partWord) (c_readLaw := c_readLaw) (c_readBound := c_readBound) (c_readGoal := c_readGoal) (c_readSites := c_readSites) (c_scripts := c_scripts) (c_sites := c_sites) (c_asked := c_asked) (c_outcome := c_outcome) (c_took := c_took) (c_drawn := c_drawn) (c_racer := c_racer) (c_raced := c_raced) (c_spelledMany := c_spelledMany) (c_hasImage := c_hasImage) (c_now := c_now) (x1 := u9.1) (c_kept := u9.2) (c_acts := c_acts) hx hb hml hown hts hK hN hA (fun x1 c_kept q9 => hC _ q9) (fun c_kept q9 => hE _ q9) hF) j9 (x1, c_kept) c_kept' hL hX

set_option maxHeartbeats 4000000 in
set_option maxRecDepth 100000 in
theorem f_X8_keep (l : Launch) (E : EE) (sz : Nat) (K : Nat) {a_ a_tape a_readPlace a_script a_scriptLong a_now a_refused a_shareX a_shareY a_askedRow a_kept a_aside a_spelled a_image : Nat} {c_thrown : Int32} {c_taped : Int32} {c_at : Int32} {c_part : Int32} {c_partFrom : Int32} {c_partNumber : Int32} {c_wrong : Int32} {c_partWord : Int64} {c_readLaw : Int32} {c_readBound : Int32} {c_readGoal : Int32} {c_readSites : Int32} {c_scripts : Int32} {c_sites : Int32} {c_asked : Int32} {c_outcome : Int32} {c_took : Int32} {c_acts : Int32} {c_drawn : Int64} {c_racer : Int32} {c_raced : Int32} {c_spelledMany : Int32} {c_hasImage : Int32} {c_now : Nat → Int32} {c_kept : Nat → Int32} {n_kept : Nat → Int32} {n_acts : Int32} (hF : F_X8_keep K c_now c_kept c_acts = some (n_kept, n_acts)) : Met l yX8_keep v_f_X8_keep (({ frames := 0, cells := 0, slots := 0, locals := 0 } : Room)) (va_Pc [.ref a_] (pW E sz (w_X8_keep E a_ a_tape a_readPlace a_script a_scriptLong a_now a_refused a_shareX a_shareY a_askedRow a_kept a_aside a_spelled a_image c_thrown c_taped c_at c_part c_partFrom c_partNumber c_wrong c_partWord c_readLaw c_readBound c_readGoal c_readSites c_scripts c_sites c_asked c_outcome c_took c_acts c_drawn c_racer c_raced c_spelledMany c_hasImage c_now c_kept))) (va_Qv (fun (_u : Unit) => True) (fun (_u : Unit) tt => va_P E.1 vwCl (w_X8_keep E a_ a_tape a_readPlace a_script a_scriptLong a_now a_refused a_shareX a_shareY a_askedRow a_kept a_aside a_spelled a_image c_thrown c_taped c_at c_part c_partFrom c_partNumber c_wrong c_partWord c_readLaw c_readBound c_readGoal c_readSites c_scripts c_sites c_asked c_outcome c_took n_acts c_drawn c_racer c_raced c_spelledMany c_hasImage c_now n_kept) tt.heap ∧ va_D (va_A (w_X8_keep E a_ a_tape a_readPlace a_script a_scriptLong a_now a_refused a_shareX a_shareY a_askedRow a_kept a_aside a_spelled a_image c_thrown c_taped c_at c_part c_partFrom c_partNumber c_wrong c_partWord c_readLaw c_readBound c_readGoal c_readSites c_scripts c_sites c_asked c_outcome c_took c_acts c_drawn c_racer c_raced c_spelledMany c_hasImage c_now c_kept) sz) (w_X8_keep E a_ a_tape a_readPlace a_script a_scriptLong a_now a_refused a_shareX a_shareY a_askedRow a_kept a_aside a_spelled a_image c_thrown c_taped c_at c_part c_partFrom c_partNumber c_wrong c_partWord c_readLaw c_readBound c_readGoal c_readSites c_scripts c_sites c_asked c_outcome c_took n_acts c_drawn c_racer c_raced c_spelledMany c_hasImage c_now n_kept)) (va_A (w_X8_keep E a_ a_tape a_readPlace a_script a_scriptLong a_now a_refused a_shareX a_shareY a_askedRow a_kept a_aside a_spelled a_image c_thrown c_taped c_at c_part c_partFrom c_partNumber c_wrong c_partWord c_readLaw c_readBound c_readGoal c_readSites c_scripts c_sites c_asked c_outcome c_took c_acts c_drawn c_racer c_raced c_spelledMany c_hasImage c_now c_kept) sz)) 0 0 (va_A (w_X8_keep E a_ a_tape a_readPlace a_script a_scriptLong a_now a_refused a_shareX a_shareY a_askedRow a_kept a_aside a_spelled a_image c_thrown c_taped c_at c_part c_partFrom c_partNumber c_wrong c_partWord c_readLaw c_readBound c_readGoal c_readSites c_scripts c_sites c_asked c_outcome c_took c_acts c_drawn c_racer c_raced c_spelledMany c_hasImage c_now c_kept) sz) := by
  refine Met.ofW (cc := cX8_keep) (maxL := 2) (ret := none) (by decide) rfl ?_
  intro p e s m args below meth c s₁ B hml hv
  obtain ⟨rfl, hsz, ⟨hK, hN⟩, hP, hD0⟩ := hv
  have hx := B.exec
  have hb := B.bytes
  have hr := B.returns
  have hts := atoms_spec (ws := v_f_X8_keep) B.pre
  have hown : s.vm.findClass RX8 = some m.cls := own_of hd_X8_keep.1 (findClass_of_methodNamed B.named)
  have hlocks : meth.locks = false := B.notSynchronized
  subst hsz
  have hD := hD0.self (sz := s.heap.size)
  generalize hAe : va_A (w_X8_keep E a_ a_tape a_readPlace a_script a_scriptLong a_now a_refused a_shareX a_shareY a_askedRow a_kept a_aside a_spelled a_image c_thrown c_taped c_at c_part c_partFrom c_partNumber c_wrong c_partWord c_readLaw c_readBound c_readGoal c_readSites c_scripts c_sites c_asked c_outcome c_took c_acts c_drawn c_racer c_raced c_spelledMany c_hasImage c_now c_kept) s.heap.size = A at hD ⊢
  have hA : ∀ q : Nat, s.heap.size ≤ q → A q := fun q h => by rw [← hAe]; exact Or.inr h
  have hS : va_S A s.heap s.heap [] := va_S.rf
  have hl := lv_entry ([.ref a_]) (n := 2) (Nat.le_of_ble_eq_true rfl)
  rw [lg_entry_eq]
  generalize (lg_sl ([.ref a_]) ++ List.replicate (2 - (lg_sl ([.ref a_])).length) Slot.unset).toArray = ls at hl ⊢
  have hl : lv_has ls 2 [(0, .ref a_)] := hl
  obtain ⟨Q, hQ⟩ : ∃ Q : State → Prop, Q = MQ below (va_Qv (fun (_u : Unit) => True) (fun (_u : Unit) tt => va_P E.1 vwCl (w_X8_keep E a_ a_tape a_readPlace a_script a_scriptLong a_now a_refused a_shareX a_shareY a_askedRow a_kept a_aside a_spelled a_image c_thrown c_taped c_at c_part c_partFrom c_partNumber c_wrong c_partWord c_readLaw c_readBound c_readGoal c_readSites c_scripts c_sites c_asked c_outcome c_took n_acts c_drawn c_racer c_raced c_spelledMany c_hasImage c_now n_kept) tt.heap ∧ va_D A (w_X8_keep E a_ a_tape a_readPlace a_script a_scriptLong a_now a_refused a_shareX a_shareY a_askedRow a_kept a_aside a_spelled a_image c_thrown c_taped c_at c_part c_partFrom c_partNumber c_wrong c_partWord c_readLaw c_readBound c_readGoal c_readSites c_scripts c_sites c_asked c_outcome c_took n_acts c_drawn c_racer c_raced c_spelledMany c_hasImage c_now n_kept)) A) #[Value.ref a_] s 0 0 A := ⟨_, rfl⟩
  rw [← hQ]
  change W p l e ({ frames := 0, cells := 0, slots := 0, locals := 0 } : Room) s m #[Value.ref a_] below meth c s.heap [] 0 0 Q (F0 m 0 ls [])
  suffices hh9 : ∀ (H : Heap) (locs : List Loc), va_P E.1 vwCl (w_X8_keep E a_ a_tape a_readPlace a_script a_scriptLong a_now a_refused a_shareX a_shareY a_askedRow a_kept a_aside a_spelled a_image c_thrown c_taped c_at c_part c_partFrom c_partNumber c_wrong c_partWord c_readLaw c_readBound c_readGoal c_readSites c_scripts c_sites c_asked c_outcome c_took c_acts c_drawn c_racer c_raced c_spelledMany c_hasImage c_now c_kept) H → va_D A (w_X8_keep E a_ a_tape a_readPlace a_script a_scriptLong a_now a_refused a_shareX a_shareY a_askedRow a_kept a_aside a_spelled a_image c_thrown c_taped c_at c_part c_partFrom c_partNumber c_wrong c_partWord c_readLaw c_readBound c_readGoal c_readSites c_scripts c_sites c_asked c_outcome c_took c_acts c_drawn c_racer c_raced c_spelledMany c_hasImage c_now c_kept) → va_S A s.heap H locs → W p l e ({ frames := 0, cells := 0, slots := 0, locals := 0 } : Room) s m #[Value.ref a_] below meth c H locs 0 0 Q (F0 m 0 ls []) from hh9 s.heap [] hP hD hS
  clear hP hD hS
  intro H locs hP hD hS
  have h9 := fixPD (ws' := [k_X8 a_ c_thrown a_tape c_taped c_at c_part c_partFrom c_partNumber c_wrong c_partWord c_readLaw c_readBound c_readGoal c_readSites a_readPlace a_script a_scriptLong c_scripts a_now a_refused c_sites a_shareX a_shareY c_asked c_outcome a_askedRow c_took a_kept c_acts c_drawn a_aside c_racer c_raced a_spelled c_spelledMany a_image c_hasImage, k_I E a_now 265 c_now, k_I E a_kept 10600 c_kept]) hP hD rfl
  clear hP hD
  obtain ⟨hP, hD⟩ := h9
  unfold F_X8_keep at hF
  refine lv_aload_n hx hb (dq_42 0 bcX8_keep_0 (j := 0) rfl rfl) rfl (lv_at hl 0 rfl) ?_
  refine gt_X8_27 (v := .int c_acts) hx hb hts i_f_X8_keep_X8 hown hK hP 0 rfl (hts (.fieldLink RX8 205 "HushWatchModel" "acts" "I") (List.mem_of_getElem? (i := 1) rfl)) rfl (dq_180 0 bcX8_keep_0 (j := 1) (i := 205) rfl rfl rfl) ?_
  refine lv_bipush (v := 40) hx hb (dq_16 0 bcX8_keep_0 (j := 4) (i := 40) rfl rfl rfl) (by decide) ?_
  refine lv_icmp_ne (tgt := 52) hx hb (dq_160 0 bcX8_keep_0 (j := 6) (i := 46) rfl rfl rfl) (by decide) (fun c_1 => ?_) (fun c_1 => ?_)
  ·
    replace hF := inn c_1 hF
    exact j_X8_keep_52 l E K (c_thrown := c_thrown) (c_taped := c_taped) (c_at := c_at) (c_part := c_part) (c_partFrom := c_partFrom) (c_partNumber := c_partNumber) (c_wrong := c_wrong) (c_partWord := c_partWord) (c_readLaw := c_readLaw) (c_readBound := c_readBound) (c_readGoal := c_readGoal) (c_readSites := c_readSites) (c_scripts := c_scripts) (c_sites := c_sites) (c_asked := c_asked) (c_outcome := c_outcome) (c_took := c_took) (c_drawn := c_drawn) (c_racer := c_racer) (c_raced := c_raced) (c_spelledMany := c_spelledMany) (c_hasImage := c_hasImage) (c_now := c_now) (c_kept := c_kept) (c_acts := c_acts) hx hb hml hown hts hK hN hA hr hlocks hQ hF H locs ls (hP.sub [0, 1, 2] rfl) (hD.sub [0, 1, 2] (by decide) rfl) hS (lv_sub hl [0] rfl)
  ·
    replace hF := ip c_1 hF
    refine lv_sipush (v := 265) hx hb (dq_17 0 bcX8_keep_0 (j := 9) (i := 265) rfl rfl rfl) (by decide) ?_
    refine lv_istore_n (lv' := [(1, .int (265 : Int32)), (0, .ref a_)]) hx hb (dq_60 0 bcX8_keep_0 (j := 12) rfl rfl) rfl hl (by decide) rfl (fun ls hl => ?_)
    replace hF := bd1_s hF
    obtain ⟨c_kept_12, hL_13, hF⟩ := hF
    refine lw_X8_keep_13 l E K (c_thrown := c_thrown) (c_taped := c_taped) (c_at := c_at) (c_part := c_part) (c_partFrom := c_partFrom) (c_partNumber := c_partNumber) (c_wrong := c_wrong) (c_partWord := c_partWord) (c_readLaw := c_readLaw) (c_readBound := c_readBound) (c_readGoal := c_readGoal) (c_readSites := c_readSites) (c_scripts := c_scripts) (c_sites := c_sites) (c_asked := c_asked) (c_outcome := c_outcome) (c_took := c_took) (c_drawn := c_drawn) (c_racer := c_racer) (c_raced := c_raced) (c_spelledMany := c_spelledMany) (c_hasImage := c_hasImage) (c_now := c_now) (c_acts := c_acts) hx hb hml hown hts hK hN hA K (265 : Int32) c_kept c_kept_12 hL_13 ?_ H locs ls (hP.sub [0, 1, 2] rfl) (hD.sub [0, 1, 2] (by decide) rfl) hS (lv_sub hl [1, 0] rfl)
    ·
      intro H locs ls hP hD hS hl
      have h9 := fixPD (ws' := [k_X8 a_ c_thrown a_tape c_taped c_at c_part c_partFrom c_partNumber c_wrong c_partWord c_readLaw c_readBound c_readGoal c_readSites a_readPlace a_script a_scriptLong c_scripts a_now a_refused c_sites a_shareX a_shareY c_asked c_outcome a_askedRow c_took a_kept c_acts c_drawn a_aside c_racer c_raced a_spelled c_spelledMany a_image c_hasImage, k_I E a_now 265 c_now, k_I E a_kept 10600 c_kept_12]) hP hD rfl
      clear hP hD
      obtain ⟨hP, hD⟩ := h9
      refine lv_aload_n hx hb (dq_42 0 bcX8_keep_0 (j := 42) rfl rfl) rfl (lv_at hl 0 rfl) ?_
      refine lv_dup hx hb (dq_89 0 bcX8_keep_0 (j := 43) rfl rfl) rfl ?_
      refine gt_X8_27 (v := .int c_acts) hx hb hts i_f_X8_keep_X8 hown hK hP 0 rfl (hts (.fieldLink RX8 205 "HushWatchModel" "acts" "I") (List.mem_of_getElem? (i := 1) rfl)) rfl (dq_180 0 bcX8_keep_0 (j := 44) (i := 205) rfl rfl rfl) ?_
      refine lv_iconst (v := 1) hx hb (dq_4 0 bcX8_keep_0 (j := 47) rfl rfl) (by decide) ?_
      refine lv_isub hx hb (dq_100 48 bcX8_keep_1 (j := 0) rfl rfl) ?_
      refine pt_X8_27 (v := .int (c_acts - (1 : Int32))) hx hb hts i_f_X8_keep_X8 hown hK hP hD hS 0 rfl (hts (.fieldLink RX8 205 "HushWatchModel" "acts" "I") (List.mem_of_getElem? (i := 1) rfl)) rfl rfl (Nat.le_of_ble_eq_true rfl) (dq_181 48 bcX8_keep_1 (j := 1) (i := 205) rfl rfl rfl) (fun H locs hP hD hS => ?_)
      have h9 := fixPD (ws' := [k_X8 a_ c_thrown a_tape c_taped c_at c_part c_partFrom c_partNumber c_wrong c_partWord c_readLaw c_readBound c_readGoal c_readSites a_readPlace a_script a_scriptLong c_scripts a_now a_refused c_sites a_shareX a_shareY c_asked c_outcome a_askedRow c_took a_kept (c_acts - (1 : Int32)) c_drawn a_aside c_racer c_raced a_spelled c_spelledMany a_image c_hasImage, k_I E a_now 265 c_now, k_I E a_kept 10600 c_kept_12]) hP hD rfl
      clear hP hD
      obtain ⟨hP, hD⟩ := h9
      exact j_X8_keep_52 l E K (c_thrown := c_thrown) (c_taped := c_taped) (c_at := c_at) (c_part := c_part) (c_partFrom := c_partFrom) (c_partNumber := c_partNumber) (c_wrong := c_wrong) (c_partWord := c_partWord) (c_readLaw := c_readLaw) (c_readBound := c_readBound) (c_readGoal := c_readGoal) (c_readSites := c_readSites) (c_scripts := c_scripts) (c_sites := c_sites) (c_asked := c_asked) (c_outcome := c_outcome) (c_took := c_took) (c_drawn := c_drawn) (c_racer := c_racer) (c_raced := c_raced) (c_spelledMany := c_spelledMany) (c_hasImage := c_hasImage) (c_now := c_now) (c_kept := c_kept_12) (c_acts := c_acts - (1 : Int32)) hx hb hml hown hts hK hN hA hr hlocks hQ hF H locs ls (hP.sub [0, 1, 2] rfl) (hD.sub [0, 1, 2] (by decide) rfl) hS (lv_sub hl [0] rfl)

def F_X8_driftX (p1 : Int32) (c_now : Nat → Int32) : Option (Int32) :=
  ixF ((0 : Int32) + p1) 265 (ixF ((16 : Int32) + p1) 265 (ixF ((32 : Int32) + p1) 265 (some (((c_now ((0 : Int32) + p1).toNatClampNeg) - (c_now ((16 : Int32) + p1).toNatClampNeg)) + (c_now ((32 : Int32) + p1).toNatClampNeg)))))
abbrev w_X8_driftX (E : EE) (a_ a_tape a_readPlace a_script a_scriptLong a_now a_refused a_shareX a_shareY a_askedRow a_kept a_aside a_spelled a_image : Nat) (c_thrown : Int32) (c_taped : Int32) (c_at : Int32) (c_part : Int32) (c_partFrom : Int32) (c_partNumber : Int32) (c_wrong : Int32) (c_partWord : Int64) (c_readLaw : Int32) (c_readBound : Int32) (c_readGoal : Int32) (c_readSites : Int32) (c_scripts : Int32) (c_sites : Int32) (c_asked : Int32) (c_outcome : Int32) (c_took : Int32) (c_acts : Int32) (c_drawn : Int64) (c_racer : Int32) (c_raced : Int32) (c_spelledMany : Int32) (c_hasImage : Int32) (c_now : Nat → Int32) : va_W := [k_X8 a_ c_thrown a_tape c_taped c_at c_part c_partFrom c_partNumber c_wrong c_partWord c_readLaw c_readBound c_readGoal c_readSites a_readPlace a_script a_scriptLong c_scripts a_now a_refused c_sites a_shareX a_shareY c_asked c_outcome a_askedRow c_took a_kept c_acts c_drawn a_aside c_racer c_raced a_spelled c_spelledMany a_image c_hasImage, k_I E a_now 265 c_now]
def v_f_X8_driftX : List Cond := List.cons (.code yX8_driftX cX8_driftX 2 (some .int)) (HAppend.hAppend (α := List Cond) (β := List Cond) (γ := List Cond) [.fieldLink RX8 22 "HushWatchModel" "now" "[I"] (HAppend.hAppend (α := List Cond) (β := List Cond) (γ := List Cond) wsX80 []))
theorem gw_f_X8_driftX : v_f_X8_driftX.all goodWord = true := gw_c2 (by decide +kernel) (gw_ap gw_wsX80 gw_nil)
theorem i_f_X8_driftX_X8 : ∀ w ∈ wsX80, w ∈ v_f_X8_driftX := fun _ h => List.mem_cons_of_mem _ (List.mem_append_right _ (List.mem_append_left _ h))
theorem hd_X8_driftX : yX8_driftX.cls = RX8 ∧ yX8_driftX.cls ≠ "java/lang/invoke/MethodHandle" ∧ yX8_driftX.cls ≠ "java/lang/invoke/VarHandle" ∧ (parseMethodDescriptor yX8_driftX.desc).map (fun d => d.parameters.length) = some 1 := by decide +kernel
set_option maxHeartbeats 4000000 in
set_option maxRecDepth 100000 in
theorem f_X8_driftX (l : Launch) (E : EE) {a_ a_tape a_readPlace a_script a_scriptLong a_now a_refused a_shareX a_shareY a_askedRow a_kept a_aside a_spelled a_image : Nat} {p1 : Int32} {c_thrown : Int32} {c_taped : Int32} {c_at : Int32} {c_part : Int32} {c_partFrom : Int32} {c_partNumber : Int32} {c_wrong : Int32} {c_partWord : Int64} {c_readLaw : Int32} {c_readBound : Int32} {c_readGoal : Int32} {c_readSites : Int32} {c_scripts : Int32} {c_sites : Int32} {c_asked : Int32} {c_outcome : Int32} {c_took : Int32} {c_acts : Int32} {c_drawn : Int64} {c_racer : Int32} {c_raced : Int32} {c_spelledMany : Int32} {c_hasImage : Int32} {c_now : Nat → Int32} {rr : Int32} (hF : F_X8_driftX p1 c_now = some rr) : Met l yX8_driftX v_f_X8_driftX (({ frames := 0, cells := 0, slots := 0, locals := 0 } : Room)) (va_Pc [.ref a_, .int p1] (pP E (w_X8_driftX E a_ a_tape a_readPlace a_script a_scriptLong a_now a_refused a_shareX a_shareY a_askedRow a_kept a_aside a_spelled a_image c_thrown c_taped c_at c_part c_partFrom c_partNumber c_wrong c_partWord c_readLaw c_readBound c_readGoal c_readSites c_scripts c_sites c_asked c_outcome c_took c_acts c_drawn c_racer c_raced c_spelledMany c_hasImage c_now))) (vp_Si (fun q : Int32 => q = rr)) 0 0 (fun _ => False) := by
  refine Met.ofW (cc := cX8_driftX) (maxL := 2) (ret := (some .int)) (by decide) rfl ?_
  intro p e s m args below meth c s₁ B hml hv
  obtain ⟨rfl, ⟨hK, hN⟩, hP⟩ := hv
  have hx := B.exec
  have hb := B.bytes
  have hr := B.returns
  have hts := atoms_spec (ws := v_f_X8_driftX) B.pre
  have hown : s.vm.findClass RX8 = some m.cls := own_of hd_X8_driftX.1 (findClass_of_methodNamed B.named)
  have hlocks : meth.locks = false := B.notSynchronized
  replace hP : va_P E.1 vwCl [k_X8 a_ c_thrown a_tape c_taped c_at c_part c_partFrom c_partNumber c_wrong c_partWord c_readLaw c_readBound c_readGoal c_readSites a_readPlace a_script a_scriptLong c_scripts a_now a_refused c_sites a_shareX a_shareY c_asked c_outcome a_askedRow c_took a_kept c_acts c_drawn a_aside c_racer c_raced a_spelled c_spelledMany a_image c_hasImage, k_I E a_now 265 c_now] s.heap := hP
  have hl := lv_entry ([.ref a_, .int p1]) (n := 2) (Nat.le_of_ble_eq_true rfl)
  rw [lg_entry_eq]
  generalize (lg_sl ([.ref a_, .int p1]) ++ List.replicate (2 - (lg_sl ([.ref a_, .int p1])).length) Slot.unset).toArray = ls at hl ⊢
  have hl : lv_has ls 2 [(0, .ref a_), (1, .int p1)] := hl
  obtain ⟨Q, hQ⟩ : ∃ Q : State → Prop, Q = MQ below (vp_Si (fun q : Int32 => q = rr)) #[Value.ref a_, Value.int p1] s 0 0 (fun _ => False) := ⟨_, rfl⟩
  rw [← hQ]
  change W p l e ({ frames := 0, cells := 0, slots := 0, locals := 0 } : Room) s m #[Value.ref a_, Value.int p1] below meth c s.heap [] 0 0 Q (F0 m 0 ls [])
  unfold F_X8_driftX at hF
  refine lv_aload_n hx hb (dq_42 0 bcX8_driftX_0 (j := 0) rfl rfl) rfl (lv_at hl 0 rfl) ?_
  refine gt_X8_17 (v := .ref a_now) hx hb hts i_f_X8_driftX_X8 hown hK hP 0 rfl (hts (.fieldLink RX8 22 "HushWatchModel" "now" "[I") (List.mem_of_getElem? (i := 1) rfl)) rfl (dq_180 0 bcX8_driftX_0 (j := 1) (i := 22) rfl rfl rfl) ?_
  refine lv_iconst (v := 0) hx hb (dq_3 0 bcX8_driftX_0 (j := 4) rfl rfl) (by decide) ?_
  refine lv_iload_n hx hb (dq_27 0 bcX8_driftX_0 (j := 5) rfl rfl) rfl (lv_at hl 1 rfl) ?_
  refine lv_iadd hx hb (dq_96 0 bcX8_driftX_0 (j := 6) rfl rfl) ?_
  replace hF := ix_s hF
  obtain ⟨hi_1, hF⟩ := hF
  refine va_iald hx hb hK hP 1 0 rfl rfl hi_1 (dq_46 0 bcX8_driftX_0 (j := 7) rfl rfl) ?_
  refine lv_aload_n hx hb (dq_42 0 bcX8_driftX_0 (j := 8) rfl rfl) rfl (lv_at hl 0 rfl) ?_
  refine gt_X8_17 (v := .ref a_now) hx hb hts i_f_X8_driftX_X8 hown hK hP 0 rfl (hts (.fieldLink RX8 22 "HushWatchModel" "now" "[I") (List.mem_of_getElem? (i := 1) rfl)) rfl (dq_180 0 bcX8_driftX_0 (j := 9) (i := 22) rfl rfl rfl) ?_
  refine lv_bipush (v := 16) hx hb (dq_16 0 bcX8_driftX_0 (j := 12) (i := 16) rfl rfl rfl) (by decide) ?_
  refine lv_iload_n hx hb (dq_27 0 bcX8_driftX_0 (j := 14) rfl rfl) rfl (lv_at hl 1 rfl) ?_
  refine lv_iadd hx hb (dq_96 0 bcX8_driftX_0 (j := 15) rfl rfl) ?_
  replace hF := ix_s hF
  obtain ⟨hi_2, hF⟩ := hF
  refine va_iald hx hb hK hP 1 0 rfl rfl hi_2 (dq_46 0 bcX8_driftX_0 (j := 16) rfl rfl) ?_
  refine lv_isub hx hb (dq_100 0 bcX8_driftX_0 (j := 17) rfl rfl) ?_
  refine lv_aload_n hx hb (dq_42 0 bcX8_driftX_0 (j := 18) rfl rfl) rfl (lv_at hl 0 rfl) ?_
  refine gt_X8_17 (v := .ref a_now) hx hb hts i_f_X8_driftX_X8 hown hK hP 0 rfl (hts (.fieldLink RX8 22 "HushWatchModel" "now" "[I") (List.mem_of_getElem? (i := 1) rfl)) rfl (dq_180 0 bcX8_driftX_0 (j := 19) (i := 22) rfl rfl rfl) ?_
  refine lv_bipush (v := 32) hx hb (dq_16 0 bcX8_driftX_0 (j := 22) (i := 32) rfl rfl rfl) (by decide) ?_
  refine lv_iload_n hx hb (dq_27 0 bcX8_driftX_0 (j := 24) rfl rfl) rfl (lv_at hl 1 rfl) ?_
  refine lv_iadd hx hb (dq_96 0 bcX8_driftX_0 (j := 25) rfl rfl) ?_
  replace hF := ix_s hF
  obtain ⟨hi_3, hF⟩ := hF
  refine va_iald hx hb hK hP 1 0 rfl rfl hi_3 (dq_46 0 bcX8_driftX_0 (j := 26) rfl rfl) ?_
  refine lv_iadd hx hb (dq_96 0 bcX8_driftX_0 (j := 27) rfl rfl) ?_
  rw [hQ]
  obtain e9_0 := inj1 hF
  exact W.iret (v := ((c_now ((0 : Int32) + p1).toNatClampNeg) - (c_now ((16 : Int32) + p1).toNatClampNeg)) + (c_now ((32 : Int32) + p1).toNatClampNeg)) hx hb hr (fun tt ht hW => ⟨_, rfl, e9_0, ht⟩) (fun _ h => by cases h) (dq_172 0 bcX8_driftX_0 (j := 28) rfl rfl)

def F_X8_driftY (p1 : Int32) (c_now : Nat → Int32) : Option (Int32) :=
  ixF ((8 : Int32) + p1) 265 (ixF ((24 : Int32) + p1) 265 (ixF ((40 : Int32) + p1) 265 (some (((c_now ((8 : Int32) + p1).toNatClampNeg) - (c_now ((24 : Int32) + p1).toNatClampNeg)) + (c_now ((40 : Int32) + p1).toNatClampNeg)))))
abbrev w_X8_driftY (E : EE) (a_ a_tape a_readPlace a_script a_scriptLong a_now a_refused a_shareX a_shareY a_askedRow a_kept a_aside a_spelled a_image : Nat) (c_thrown : Int32) (c_taped : Int32) (c_at : Int32) (c_part : Int32) (c_partFrom : Int32) (c_partNumber : Int32) (c_wrong : Int32) (c_partWord : Int64) (c_readLaw : Int32) (c_readBound : Int32) (c_readGoal : Int32) (c_readSites : Int32) (c_scripts : Int32) (c_sites : Int32) (c_asked : Int32) (c_outcome : Int32) (c_took : Int32) (c_acts : Int32) (c_drawn : Int64) (c_racer : Int32) (c_raced : Int32) (c_spelledMany : Int32) (c_hasImage : Int32) (c_now : Nat → Int32) : va_W := [k_X8 a_ c_thrown a_tape c_taped c_at c_part c_partFrom c_partNumber c_wrong c_partWord c_readLaw c_readBound c_readGoal c_readSites a_readPlace a_script a_scriptLong c_scripts a_now a_refused c_sites a_shareX a_shareY c_asked c_outcome a_askedRow c_took a_kept c_acts c_drawn a_aside c_racer c_raced a_spelled c_spelledMany a_image c_hasImage, k_I E a_now 265 c_now]
def v_f_X8_driftY : List Cond := List.cons (.code yX8_driftY cX8_driftY 2 (some .int)) (HAppend.hAppend (α := List Cond) (β := List Cond) (γ := List Cond) [.fieldLink RX8 22 "HushWatchModel" "now" "[I"] (HAppend.hAppend (α := List Cond) (β := List Cond) (γ := List Cond) wsX80 []))
theorem gw_f_X8_driftY : v_f_X8_driftY.all goodWord = true := gw_c2 (by decide +kernel) (gw_ap gw_wsX80 gw_nil)
theorem i_f_X8_driftY_X8 : ∀ w ∈ wsX80, w ∈ v_f_X8_driftY := fun _ h => List.mem_cons_of_mem _ (List.mem_append_right _ (List.mem_append_left _ h))
theorem hd_X8_driftY : yX8_driftY.cls = RX8 ∧ yX8_driftY.cls ≠ "java/lang/invoke/MethodHandle" ∧ yX8_driftY.cls ≠ "java/lang/invoke/VarHandle" ∧ (parseMethodDescriptor yX8_driftY.desc).map (fun d => d.parameters.length) = some 1 := by decide +kernel
set_option maxHeartbeats 4000000 in
set_option maxRecDepth 100000 in
theorem f_X8_driftY (l : Launch) (E : EE) {a_ a_tape a_readPlace a_script a_scriptLong a_now a_refused a_shareX a_shareY a_askedRow a_kept a_aside a_spelled a_image : Nat} {p1 : Int32} {c_thrown : Int32} {c_taped : Int32} {c_at : Int32} {c_part : Int32} {c_partFrom : Int32} {c_partNumber : Int32} {c_wrong : Int32} {c_partWord : Int64} {c_readLaw : Int32} {c_readBound : Int32} {c_readGoal : Int32} {c_readSites : Int32} {c_scripts : Int32} {c_sites : Int32} {c_asked : Int32} {c_outcome : Int32} {c_took : Int32} {c_acts : Int32} {c_drawn : Int64} {c_racer : Int32} {c_raced : Int32} {c_spelledMany : Int32} {c_hasImage : Int32} {c_now : Nat → Int32} {rr : Int32} (hF : F_X8_driftY p1 c_now = some rr) : Met l yX8_driftY v_f_X8_driftY (({ frames := 0, cells := 0, slots := 0, locals := 0 } : Room)) (va_Pc [.ref a_, .int p1] (pP E (w_X8_driftY E a_ a_tape a_readPlace a_script a_scriptLong a_now a_refused a_shareX a_shareY a_askedRow a_kept a_aside a_spelled a_image c_thrown c_taped c_at c_part c_partFrom c_partNumber c_wrong c_partWord c_readLaw c_readBound c_readGoal c_readSites c_scripts c_sites c_asked c_outcome c_took c_acts c_drawn c_racer c_raced c_spelledMany c_hasImage c_now))) (vp_Si (fun q : Int32 => q = rr)) 0 0 (fun _ => False) := by
  refine Met.ofW (cc := cX8_driftY) (maxL := 2) (ret := (some .int)) (by decide) rfl ?_
  intro p e s m args below meth c s₁ B hml hv
  obtain ⟨rfl, ⟨hK, hN⟩, hP⟩ := hv
  have hx := B.exec
  have hb := B.bytes
  have hr := B.returns
  have hts := atoms_spec (ws := v_f_X8_driftY) B.pre
  have hown : s.vm.findClass RX8 = some m.cls := own_of hd_X8_driftY.1 (findClass_of_methodNamed B.named)
  have hlocks : meth.locks = false := B.notSynchronized
  replace hP : va_P E.1 vwCl [k_X8 a_ c_thrown a_tape c_taped c_at c_part c_partFrom c_partNumber c_wrong c_partWord c_readLaw c_readBound c_readGoal c_readSites a_readPlace a_script a_scriptLong c_scripts a_now a_refused c_sites a_shareX a_shareY c_asked c_outcome a_askedRow c_took a_kept c_acts c_drawn a_aside c_racer c_raced a_spelled c_spelledMany a_image c_hasImage, k_I E a_now 265 c_now] s.heap := hP
  have hl := lv_entry ([.ref a_, .int p1]) (n := 2) (Nat.le_of_ble_eq_true rfl)
  rw [lg_entry_eq]
  generalize (lg_sl ([.ref a_, .int p1]) ++ List.replicate (2 - (lg_sl ([.ref a_, .int p1])).length) Slot.unset).toArray = ls at hl ⊢
  have hl : lv_has ls 2 [(0, .ref a_), (1, .int p1)] := hl
  obtain ⟨Q, hQ⟩ : ∃ Q : State → Prop, Q = MQ below (vp_Si (fun q : Int32 => q = rr)) #[Value.ref a_, Value.int p1] s 0 0 (fun _ => False) := ⟨_, rfl⟩
  rw [← hQ]
  change W p l e ({ frames := 0, cells := 0, slots := 0, locals := 0 } : Room) s m #[Value.ref a_, Value.int p1] below meth c s.heap [] 0 0 Q (F0 m 0 ls [])
  unfold F_X8_driftY at hF
  refine lv_aload_n hx hb (dq_42 0 bcX8_driftY_0 (j := 0) rfl rfl) rfl (lv_at hl 0 rfl) ?_
  refine gt_X8_17 (v := .ref a_now) hx hb hts i_f_X8_driftY_X8 hown hK hP 0 rfl (hts (.fieldLink RX8 22 "HushWatchModel" "now" "[I") (List.mem_of_getElem? (i := 1) rfl)) rfl (dq_180 0 bcX8_driftY_0 (j := 1) (i := 22) rfl rfl rfl) ?_
  refine lv_bipush (v := 8) hx hb (dq_16 0 bcX8_driftY_0 (j := 4) (i := 8) rfl rfl rfl) (by decide) ?_
  refine lv_iload_n hx hb (dq_27 0 bcX8_driftY_0 (j := 6) rfl rfl) rfl (lv_at hl 1 rfl) ?_
  refine lv_iadd hx hb (dq_96 0 bcX8_driftY_0 (j := 7) rfl rfl) ?_
  replace hF := ix_s hF
  obtain ⟨hi_1, hF⟩ := hF
  refine va_iald hx hb hK hP 1 0 rfl rfl hi_1 (dq_46 0 bcX8_driftY_0 (j := 8) rfl rfl) ?_
  refine lv_aload_n hx hb (dq_42 0 bcX8_driftY_0 (j := 9) rfl rfl) rfl (lv_at hl 0 rfl) ?_
  refine gt_X8_17 (v := .ref a_now) hx hb hts i_f_X8_driftY_X8 hown hK hP 0 rfl (hts (.fieldLink RX8 22 "HushWatchModel" "now" "[I") (List.mem_of_getElem? (i := 1) rfl)) rfl (dq_180 0 bcX8_driftY_0 (j := 10) (i := 22) rfl rfl rfl) ?_
  refine lv_bipush (v := 24) hx hb (dq_16 0 bcX8_driftY_0 (j := 13) (i := 24) rfl rfl rfl) (by decide) ?_
  refine lv_iload_n hx hb (dq_27 0 bcX8_driftY_0 (j := 15) rfl rfl) rfl (lv_at hl 1 rfl) ?_
  refine lv_iadd hx hb (dq_96 0 bcX8_driftY_0 (j := 16) rfl rfl) ?_
  replace hF := ix_s hF
  obtain ⟨hi_2, hF⟩ := hF
  refine va_iald hx hb hK hP 1 0 rfl rfl hi_2 (dq_46 0 bcX8_driftY_0 (j := 17) rfl rfl) ?_
  refine lv_isub hx hb (dq_100 0 bcX8_driftY_0 (j := 18) rfl rfl) ?_
  refine lv_aload_n hx hb (dq_42 0 bcX8_driftY_0 (j := 19) rfl rfl) rfl (lv_at hl 0 rfl) ?_
  refine gt_X8_17 (v := .ref a_now) hx hb hts i_f_X8_driftY_X8 hown hK hP 0 rfl (hts (.fieldLink RX8 22 "HushWatchModel" "now" "[I") (List.mem_of_getElem? (i := 1) rfl)) rfl (dq_180 0 bcX8_driftY_0 (j := 20) (i := 22) rfl rfl rfl) ?_
  refine lv_bipush (v := 40) hx hb (dq_16 0 bcX8_driftY_0 (j := 23) (i := 40) rfl rfl rfl) (by decide) ?_
  refine lv_iload_n hx hb (dq_27 0 bcX8_driftY_0 (j := 25) rfl rfl) rfl (lv_at hl 1 rfl) ?_
  refine lv_iadd hx hb (dq_96 0 bcX8_driftY_0 (j := 26) rfl rfl) ?_
  replace hF := ix_s hF
  obtain ⟨hi_3, hF⟩ := hF
  refine va_iald hx hb hK hP 1 0 rfl rfl hi_3 (dq_46 0 bcX8_driftY_0 (j := 27) rfl rfl) ?_
  refine lv_iadd hx hb (dq_96 0 bcX8_driftY_0 (j := 28) rfl rfl) ?_
  rw [hQ]
  obtain e9_0 := inj1 hF
  exact W.iret (v := ((c_now ((8 : Int32) + p1).toNatClampNeg) - (c_now ((24 : Int32) + p1).toNatClampNeg)) + (c_now ((40 : Int32) + p1).toNatClampNeg)) hx hb hr (fun tt ht hW => ⟨_, rfl, e9_0, ht⟩) (fun _ h => by cases h) (dq_172 0 bcX8_driftY_0 (j := 29) rfl rfl)

def B_X8_sum_4 (p1 : Int32) (c_sites : Int32) (c_now : Nat → Int32) (x2 : Int32) (x3 : Int32) : Option ((Int32 × Int32) ⊕ (Int32)) :=
  if c_sites ≤ x3 then some (.inr x2) else ixF (p1 + x3) 265 (some (.inl (x2 + (c_now (p1 + x3).toNatClampNeg), x3 + (1 : Int32))))
def F_X8_sum (K : Nat) (p1 : Int32) (c_now : Nat → Int32) (c_sites : Int32) : Option (Int32) :=
  bd1 (lpF (fun u9 : Int32 × Int32 => B_X8_sum_4 p1 c_sites c_now u9.1 u9.2) K ((0 : Int32), (0 : Int32))) (fun x2_3 => some x2_3)
abbrev w_X8_sum (E : EE) (a_ a_tape a_readPlace a_script a_scriptLong a_now a_refused a_shareX a_shareY a_askedRow a_kept a_aside a_spelled a_image : Nat) (c_thrown : Int32) (c_taped : Int32) (c_at : Int32) (c_part : Int32) (c_partFrom : Int32) (c_partNumber : Int32) (c_wrong : Int32) (c_partWord : Int64) (c_readLaw : Int32) (c_readBound : Int32) (c_readGoal : Int32) (c_readSites : Int32) (c_scripts : Int32) (c_sites : Int32) (c_asked : Int32) (c_outcome : Int32) (c_took : Int32) (c_acts : Int32) (c_drawn : Int64) (c_racer : Int32) (c_raced : Int32) (c_spelledMany : Int32) (c_hasImage : Int32) (c_now : Nat → Int32) : va_W := [k_X8 a_ c_thrown a_tape c_taped c_at c_part c_partFrom c_partNumber c_wrong c_partWord c_readLaw c_readBound c_readGoal c_readSites a_readPlace a_script a_scriptLong c_scripts a_now a_refused c_sites a_shareX a_shareY c_asked c_outcome a_askedRow c_took a_kept c_acts c_drawn a_aside c_racer c_raced a_spelled c_spelledMany a_image c_hasImage, k_I E a_now 265 c_now]
def v_f_X8_sum : List Cond := List.cons (.code yX8_sum cX8_sum 4 (some .int)) (HAppend.hAppend (α := List Cond) (β := List Cond) (γ := List Cond) [.fieldLink RX8 196 "HushWatchModel" "sites" "I", .fieldLink RX8 22 "HushWatchModel" "now" "[I"] (HAppend.hAppend (α := List Cond) (β := List Cond) (γ := List Cond) wsX80 []))
theorem gw_f_X8_sum : v_f_X8_sum.all goodWord = true := gw_c2 (by decide +kernel) (gw_ap gw_wsX80 gw_nil)
theorem i_f_X8_sum_X8 : ∀ w ∈ wsX80, w ∈ v_f_X8_sum := fun _ h => List.mem_cons_of_mem _ (List.mem_append_right _ (List.mem_append_left _ h))
theorem hd_X8_sum : yX8_sum.cls = RX8 ∧ yX8_sum.cls ≠ "java/lang/invoke/MethodHandle" ∧ yX8_sum.cls ≠ "java/lang/invoke/VarHandle" ∧ (parseMethodDescriptor yX8_sum.desc).map (fun d => d.parameters.length) = some 1 := by decide +kernel
set_option maxHeartbeats 4000000 in
set_option maxRecDepth 100000 in
theorem wb_X8_sum_4 {p : Program} (l : Launch) {e : Env} {s : State} {m : MethodId} {below : List Frame} {meth : Method} {c : Code} {Q : State → Prop} (E : EE) (K : Nat) {a_ a_tape a_readPlace a_script a_scriptLong a_now a_refused a_shareX a_shareY a_askedRow a_kept a_aside a_spelled a_image : Nat} {p1 : Int32} {c_thrown : Int32} {c_taped : Int32} {c_at : Int32} {c_part : Int32} {c_partFrom : Int32} {c_partNumber : Int32} {c_wrong : Int32} {c_partWord : Int64} {c_readLaw : Int32} {c_readBound : Int32} {c_readGoal : Int32} {c_readSites : Int32} {c_scripts : Int32} {c_sites : Int32} {c_asked : Int32} {c_outcome : Int32} {c_took : Int32} {c_acts : Int32} {c_drawn : Int64} {c_racer : Int32} {c_raced : Int32} {c_spelledMany : Int32} {c_hasImage : Int32} {c_now : Nat → Int32} {x2 : Int32} {x3 : Int32} (hx : p.tables.exec = Jvm.exec) (hb : c.code = cX8_sum) (hml : c.maxLocals = 4) (hown : s.vm.findClass RX8 = some m.cls) (hts : ∀ w ∈ v_f_X8_sum, w.before #[Value.ref a_, Value.int p1] s = true) (hK : va_K E.1 vwCl (TY E) s) (hN : NX s) {xx : (Int32 × Int32) ⊕ (Int32)} (hC : ∀ (x2 : Int32), ∀ (x3 : Int32), xx = .inl (x2, x3) → ∀ (ls : Array Slot), lv_has ls 4 [(0, .ref a_), (1, .int p1), (2, .int x2), (3, .int x3)] → W p l e ({ frames := 0, cells := 0, slots := 0, locals := 0 } : Room) s m #[Value.ref a_, Value.int p1] below meth c s.heap [] 0 0 Q (F0 m 4 ls [])) (hE : ∀ (x2 : Int32), xx = .inr x2 → ((∀ (ls : Array Slot), lv_has ls 4 [(2, .int x2)] → W p l e ({ frames := 0, cells := 0, slots := 0, locals := 0 } : Room) s m #[Value.ref a_, Value.int p1] below meth c s.heap [] 0 0 Q (F0 m 29 ls [])))) (hF : B_X8_sum_4 p1 c_sites c_now x2 x3 = some xx) (hP : va_P E.1 vwCl (w_X8_sum E a_ a_tape a_readPlace a_script a_scriptLong a_now a_refused a_shareX a_shareY a_askedRow a_kept a_aside a_spelled a_image c_thrown c_taped c_at c_part c_partFrom c_partNumber c_wrong c_partWord c_readLaw c_readBound c_readGoal c_readSites c_scripts c_sites c_asked c_outcome c_took c_acts c_drawn c_racer c_raced c_spelledMany c_hasImage c_now) s.heap) : ∀ (ls : Array Slot), lv_has ls 4 [(0, .ref a_), (1, .int p1), (2, .int x2), (3, .int x3)] → W p l e ({ frames := 0, cells := 0, slots := 0, locals := 0 } : Room) s m #[Value.ref a_, Value.int p1] below meth c s.heap [] 0 0 Q (F0 m 4 ls []) := by
  unfold B_X8_sum_4 at hF
  replace hP : va_P E.1 vwCl [k_X8 a_ c_thrown a_tape c_taped c_at c_part c_partFrom c_partNumber c_wrong c_partWord c_readLaw c_readBound c_readGoal c_readSites a_readPlace a_script a_scriptLong c_scripts a_now a_refused c_sites a_shareX a_shareY c_asked c_outcome a_askedRow c_took a_kept c_acts c_drawn a_aside c_racer c_raced a_spelled c_spelledMany a_image c_hasImage, k_I E a_now 265 c_now] s.heap := hP
  intro ls hl
  refine lv_iload_n hx hb (dq_29 0 bcX8_sum_0 (j := 4) rfl rfl) rfl (lv_at hl 3 rfl) ?_
  refine lv_aload_n hx hb (dq_42 0 bcX8_sum_0 (j := 5) rfl rfl) rfl (lv_at hl 0 rfl) ?_
  refine gt_X8_19 (v := .int c_sites) hx hb hts i_f_X8_sum_X8 hown hK hP 0 rfl (hts (.fieldLink RX8 196 "HushWatchModel" "sites" "I") (List.mem_of_getElem? (i := 1) rfl)) rfl (dq_180 0 bcX8_sum_0 (j := 6) (i := 196) rfl rfl rfl) ?_
  refine lv_icmp_ge (tgt := 29) hx hb (dq_162 0 bcX8_sum_0 (j := 9) (i := 20) rfl rfl rfl) (by decide) (fun c_1 => ?_) (fun c_1 => ?_)
  ·
    replace hF := ip c_1 hF
    cases hF
    exact hE x2 rfl ls (lv_sub hl [2] rfl)
  ·
    replace hF := inn c_1 hF
    refine lv_iload_n hx hb (dq_28 0 bcX8_sum_0 (j := 12) rfl rfl) rfl (lv_at hl 2 rfl) ?_
    refine lv_aload_n hx hb (dq_42 0 bcX8_sum_0 (j := 13) rfl rfl) rfl (lv_at hl 0 rfl) ?_
    refine gt_X8_17 (v := .ref a_now) hx hb hts i_f_X8_sum_X8 hown hK hP 0 rfl (hts (.fieldLink RX8 22 "HushWatchModel" "now" "[I") (List.mem_of_getElem? (i := 2) rfl)) rfl (dq_180 0 bcX8_sum_0 (j := 14) (i := 22) rfl rfl rfl) ?_
    refine lv_iload_n hx hb (dq_27 0 bcX8_sum_0 (j := 17) rfl rfl) rfl (lv_at hl 1 rfl) ?_
    refine lv_iload_n hx hb (dq_29 0 bcX8_sum_0 (j := 18) rfl rfl) rfl (lv_at hl 3 rfl) ?_
    refine lv_iadd hx hb (dq_96 0 bcX8_sum_0 (j := 19) rfl rfl) ?_
    replace hF := ix_s hF
    obtain ⟨hi_2, hF⟩ := hF
    refine va_iald hx hb hK hP 1 0 rfl rfl hi_2 (dq_46 0 bcX8_sum_0 (j := 20) rfl rfl) ?_
    refine lv_iadd hx hb (dq_96 0 bcX8_sum_0 (j := 21) rfl rfl) ?_
    refine lv_istore_n (lv' := [(2, .int (x2 + (c_now (p1 + x3).toNatClampNeg))), (0, .ref a_), (1, .int p1), (3, .int x3)]) hx hb (dq_61 0 bcX8_sum_0 (j := 22) rfl rfl) rfl hl (by decide) rfl (fun ls hl => ?_)
    refine lv_iinc (v := x3 + (1 : Int32)) (lv' := [(3, .int (x3 + (1 : Int32))), (2, .int (x2 + (c_now (p1 + x3).toNatClampNeg))), (0, .ref a_), (1, .int p1)]) hx hb (dq_132 0 bcX8_sum_0 (j := 23) (i := 1) rfl rfl rfl) hl (k := 3) rfl (rfl) (by decide) rfl (fun ls hl => ?_)
    refine lv_goto (tgt := 4) hx hb (dq_167 0 bcX8_sum_0 (j := 26) (i := -22) rfl rfl rfl) (by decide) ?_
    cases hF
    exact hC (x2 + (c_now (p1 + x3).toNatClampNeg)) (x3 + (1 : Int32)) rfl ls (lv_sub hl [2, 3, 1, 0] rfl)

set_option maxHeartbeats 4000000 in
set_option maxRecDepth 100000 in
theorem lw_X8_sum_4 {p : Program} (l : Launch) {e : Env} {s : State} {m : MethodId} {below : List Frame} {meth : Method} {c : Code} {Q : State → Prop} (E : EE) (K : Nat) {a_ a_tape a_readPlace a_script a_scriptLong a_now a_refused a_shareX a_shareY a_askedRow a_kept a_aside a_spelled a_image : Nat} {p1 : Int32} {c_thrown : Int32} {c_taped : Int32} {c_at : Int32} {c_part : Int32} {c_partFrom : Int32} {c_partNumber : Int32} {c_wrong : Int32} {c_partWord : Int64} {c_readLaw : Int32} {c_readBound : Int32} {c_readGoal : Int32} {c_readSites : Int32} {c_scripts : Int32} {c_sites : Int32} {c_asked : Int32} {c_outcome : Int32} {c_took : Int32} {c_acts : Int32} {c_drawn : Int64} {c_racer : Int32} {c_raced : Int32} {c_spelledMany : Int32} {c_hasImage : Int32} {c_now : Nat → Int32} (hx : p.tables.exec = Jvm.exec) (hb : c.code = cX8_sum) (hml : c.maxLocals = 4) (hown : s.vm.findClass RX8 = some m.cls) (hts : ∀ w ∈ v_f_X8_sum, w.before #[Value.ref a_, Value.int p1] s = true) (hK : va_K E.1 vwCl (TY E) s) (hN : NX s) (hP : va_P E.1 vwCl (w_X8_sum E a_ a_tape a_readPlace a_script a_scriptLong a_now a_refused a_shareX a_shareY a_askedRow a_kept a_aside a_spelled a_image c_thrown c_taped c_at c_part c_partFrom c_partNumber c_wrong c_partWord c_readLaw c_readBound c_readGoal c_readSites c_scripts c_sites c_asked c_outcome c_took c_acts c_drawn c_racer c_raced c_spelledMany c_hasImage c_now) s.heap) (j9 : Nat) (x2 : Int32) (x3 : Int32) (x2' : Int32) (hL : lpF (fun u9 : Int32 × Int32 => B_X8_sum_4 p1 c_sites c_now u9.1 u9.2) j9 (x2, x3) = some x2') (hX : (∀ (ls : Array Slot), lv_has ls 4 [(2, .int x2')] → W p l e ({ frames := 0, cells := 0, slots := 0, locals := 0 } : Room) s m #[Value.ref a_, Value.int p1] below meth c s.heap [] 0 0 Q (F0 m 29 ls []))) : ∀ (ls : Array Slot), lv_has ls 4 [(0, .ref a_), (1, .int p1), (2, .int x2), (3, .int x3)] → W p l e ({ frames := 0, cells := 0, slots := 0, locals := 0 } : Room) s m #[Value.ref a_, Value.int p1] below meth c s.heap [] 0 0 Q (F0 m 4 ls []) := by
  exact lp_rule (P := (fun u9 : Int32 × Int32 => ∀ (ls : Array Slot), lv_has ls 4 [(0, .ref a_), (1, .int p1), (2, .int u9.1), (3, .int u9.2)] → W p l e ({ frames := 0, cells := 0, slots := 0, locals := 0 } : Room) s m #[Value.ref a_, Value.int p1] below meth c s.heap [] 0 0 Q (F0 m 4 ls []))) (R := (fun r9 : Int32 => (∀ (ls : Array Slot), lv_has ls 4 [(2, .int r9)] → W p l e ({ frames := 0, cells := 0, slots := 0, locals := 0 } : Room) s m #[Value.ref a_, Value.int p1] below meth c s.heap [] 0 0 Q (F0 m 29 ls [])))) (fun u9 xx hF hC hE => wb_X8_sum_4 l E K (p1 := p1) (c_thrown := c_thrown) (c_taped := c_taped) (c_at := c_at) (c_part := c_part) (c_partFrom := c_partFrom) (c_partNumber := c_partNumber) (c_wrong := c_wrong) (c_partWord := c_partWord) (c_readLaw := c_readLaw) (c_readBound := c_readBound) (c_readGoal := c_readGoal) (c_readSites := c_readSites) (c_scripts := c_scripts) (c_sites := c_sites) (c_asked := c_asked) (c_outcome := c_outcome) (c_took := c_took) (c_acts := c_acts) (c_drawn := c_drawn) (c_racer := c_racer) (c_raced := c_raced) (c_spelledMany := c_spelledMany) (c_hasImage := c_hasImage) (c_now := c_now) (x2 := u9.1) (x3 := u9.2) hx hb hml hown hts hK hN (fun x2 x3 q9 => hC _ q9) (fun x2 q9 => hE _ q9) hF hP) j9 (x2, x3) x2' hL hX

set_option maxHeartbeats 4000000 in
set_option maxRecDepth 100000 in
theorem f_X8_sum (l : Launch) (E : EE) (K : Nat) {a_ a_tape a_readPlace a_script a_scriptLong a_now a_refused a_shareX a_shareY a_askedRow a_kept a_aside a_spelled a_image : Nat} {p1 : Int32} {c_thrown : Int32} {c_taped : Int32} {c_at : Int32} {c_part : Int32} {c_partFrom : Int32} {c_partNumber : Int32} {c_wrong : Int32} {c_partWord : Int64} {c_readLaw : Int32} {c_readBound : Int32} {c_readGoal : Int32} {c_readSites : Int32} {c_scripts : Int32} {c_sites : Int32} {c_asked : Int32} {c_outcome : Int32} {c_took : Int32} {c_acts : Int32} {c_drawn : Int64} {c_racer : Int32} {c_raced : Int32} {c_spelledMany : Int32} {c_hasImage : Int32} {c_now : Nat → Int32} {rr : Int32} (hF : F_X8_sum K p1 c_now c_sites = some rr) : Met l yX8_sum v_f_X8_sum (({ frames := 0, cells := 0, slots := 0, locals := 0 } : Room)) (va_Pc [.ref a_, .int p1] (pP E (w_X8_sum E a_ a_tape a_readPlace a_script a_scriptLong a_now a_refused a_shareX a_shareY a_askedRow a_kept a_aside a_spelled a_image c_thrown c_taped c_at c_part c_partFrom c_partNumber c_wrong c_partWord c_readLaw c_readBound c_readGoal c_readSites c_scripts c_sites c_asked c_outcome c_took c_acts c_drawn c_racer c_raced c_spelledMany c_hasImage c_now))) (vp_Si (fun q : Int32 => q = rr)) 0 0 (fun _ => False) := by
  refine Met.ofW (cc := cX8_sum) (maxL := 4) (ret := (some .int)) (by decide) rfl ?_
  intro p e s m args below meth c s₁ B hml hv
  obtain ⟨rfl, ⟨hK, hN⟩, hP⟩ := hv
  have hx := B.exec
  have hb := B.bytes
  have hr := B.returns
  have hts := atoms_spec (ws := v_f_X8_sum) B.pre
  have hown : s.vm.findClass RX8 = some m.cls := own_of hd_X8_sum.1 (findClass_of_methodNamed B.named)
  have hlocks : meth.locks = false := B.notSynchronized
  replace hP : va_P E.1 vwCl [k_X8 a_ c_thrown a_tape c_taped c_at c_part c_partFrom c_partNumber c_wrong c_partWord c_readLaw c_readBound c_readGoal c_readSites a_readPlace a_script a_scriptLong c_scripts a_now a_refused c_sites a_shareX a_shareY c_asked c_outcome a_askedRow c_took a_kept c_acts c_drawn a_aside c_racer c_raced a_spelled c_spelledMany a_image c_hasImage, k_I E a_now 265 c_now] s.heap := hP
  have hl := lv_entry ([.ref a_, .int p1]) (n := 4) (Nat.le_of_ble_eq_true rfl)
  rw [lg_entry_eq]
  generalize (lg_sl ([.ref a_, .int p1]) ++ List.replicate (4 - (lg_sl ([.ref a_, .int p1])).length) Slot.unset).toArray = ls at hl ⊢
  have hl : lv_has ls 4 [(0, .ref a_), (1, .int p1)] := hl
  obtain ⟨Q, hQ⟩ : ∃ Q : State → Prop, Q = MQ below (vp_Si (fun q : Int32 => q = rr)) #[Value.ref a_, Value.int p1] s 0 0 (fun _ => False) := ⟨_, rfl⟩
  rw [← hQ]
  change W p l e ({ frames := 0, cells := 0, slots := 0, locals := 0 } : Room) s m #[Value.ref a_, Value.int p1] below meth c s.heap [] 0 0 Q (F0 m 0 ls [])
  unfold F_X8_sum at hF
  refine lv_iconst (v := 0) hx hb (dq_3 0 bcX8_sum_0 (j := 0) rfl rfl) (by decide) ?_
  refine lv_istore_n (lv' := [(2, .int (0 : Int32)), (0, .ref a_), (1, .int p1)]) hx hb (dq_61 0 bcX8_sum_0 (j := 1) rfl rfl) rfl hl (by decide) rfl (fun ls hl => ?_)
  refine lv_iconst (v := 0) hx hb (dq_3 0 bcX8_sum_0 (j := 2) rfl rfl) (by decide) ?_
  refine lv_istore_n (lv' := [(3, .int (0 : Int32)), (2, .int (0 : Int32)), (0, .ref a_), (1, .int p1)]) hx hb (dq_62 0 bcX8_sum_0 (j := 3) rfl rfl) rfl hl (by decide) rfl (fun ls hl => ?_)
  replace hF := bd1_s hF
  obtain ⟨x2_3, hL_4, hF⟩ := hF
  refine lw_X8_sum_4 l E K (p1 := p1) (c_thrown := c_thrown) (c_taped := c_taped) (c_at := c_at) (c_part := c_part) (c_partFrom := c_partFrom) (c_partNumber := c_partNumber) (c_wrong := c_wrong) (c_partWord := c_partWord) (c_readLaw := c_readLaw) (c_readBound := c_readBound) (c_readGoal := c_readGoal) (c_readSites := c_readSites) (c_scripts := c_scripts) (c_sites := c_sites) (c_asked := c_asked) (c_outcome := c_outcome) (c_took := c_took) (c_acts := c_acts) (c_drawn := c_drawn) (c_racer := c_racer) (c_raced := c_raced) (c_spelledMany := c_spelledMany) (c_hasImage := c_hasImage) (c_now := c_now) hx hb hml hown hts hK hN hP K (0 : Int32) (0 : Int32) x2_3 hL_4 ?_ ls (lv_sub hl [2, 3, 1, 0] rfl)
  ·
    intro ls hl
    refine lv_iload_n hx hb (dq_28 0 bcX8_sum_0 (j := 29) rfl rfl) rfl (lv_at hl 0 rfl) ?_
    rw [hQ]
    obtain e9_0 := inj1 hF
    exact W.iret (v := x2_3) hx hb hr (fun tt ht hW => ⟨_, rfl, e9_0, ht⟩) (fun _ h => by cases h) (dq_172 0 bcX8_sum_0 (j := 30) rfl rfl)

def F_X8_pointX (K : Nat) (p1 : Int32) (c_now : Nat → Int32) (c_sites : Int32) : Option (Int32) :=
  bd1 (F_X8_sum K (16 : Int32) c_now c_sites) (fun r_1 => some (r_1 + (c_sites * p1)))
abbrev w_X8_pointX (E : EE) (a_ a_tape a_readPlace a_script a_scriptLong a_now a_refused a_shareX a_shareY a_askedRow a_kept a_aside a_spelled a_image : Nat) (c_thrown : Int32) (c_taped : Int32) (c_at : Int32) (c_part : Int32) (c_partFrom : Int32) (c_partNumber : Int32) (c_wrong : Int32) (c_partWord : Int64) (c_readLaw : Int32) (c_readBound : Int32) (c_readGoal : Int32) (c_readSites : Int32) (c_scripts : Int32) (c_sites : Int32) (c_asked : Int32) (c_outcome : Int32) (c_took : Int32) (c_acts : Int32) (c_drawn : Int64) (c_racer : Int32) (c_raced : Int32) (c_spelledMany : Int32) (c_hasImage : Int32) (c_now : Nat → Int32) : va_W := [k_X8 a_ c_thrown a_tape c_taped c_at c_part c_partFrom c_partNumber c_wrong c_partWord c_readLaw c_readBound c_readGoal c_readSites a_readPlace a_script a_scriptLong c_scripts a_now a_refused c_sites a_shareX a_shareY c_asked c_outcome a_askedRow c_took a_kept c_acts c_drawn a_aside c_racer c_raced a_spelled c_spelledMany a_image c_hasImage, k_I E a_now 265 c_now]
def v_f_X8_pointX : List Cond := List.cons (.code yX8_pointX cX8_pointX 2 (some .int)) (HAppend.hAppend (α := List Cond) (β := List Cond) (γ := List Cond) [.fieldLink RX8 196 "HushWatchModel" "sites" "I", .methodLink RX8 199 yX8_sum, .instanceMethod yX8_sum, .selects RX8 yX8_sum yX8_sum, .initialized RX8] (HAppend.hAppend (α := List Cond) (β := List Cond) (γ := List Cond) v_f_X8_sum (HAppend.hAppend (α := List Cond) (β := List Cond) (γ := List Cond) wsX80 [])))
theorem gw_f_X8_pointX : v_f_X8_pointX.all goodWord = true := gw_c2 (by decide +kernel) (gw_ap gw_f_X8_sum (gw_ap gw_wsX80 gw_nil))
theorem i_f_X8_pointX_X8 : ∀ w ∈ wsX80, w ∈ v_f_X8_pointX := fun _ h => List.mem_cons_of_mem _ (List.mem_append_right _ (List.mem_append_right _ (List.mem_append_left _ h)))
theorem g_f_X8_pointX_f_X8_sum_199 : GoodIn v_f_X8_pointX (wsV RX8 199 RX8 yX8_sum v_f_X8_sum) := goodIn_in gw_f_X8_pointX (in4 2 3 4 5 rfl rfl rfl rfl (fun _ h => List.mem_cons_of_mem _ (List.mem_append_right _ (List.mem_append_left _ h))))
theorem hd_X8_pointX : yX8_pointX.cls = RX8 ∧ yX8_pointX.cls ≠ "java/lang/invoke/MethodHandle" ∧ yX8_pointX.cls ≠ "java/lang/invoke/VarHandle" ∧ (parseMethodDescriptor yX8_pointX.desc).map (fun d => d.parameters.length) = some 1 := by decide +kernel
set_option maxHeartbeats 4000000 in
set_option maxRecDepth 100000 in
theorem f_X8_pointX (l : Launch) (E : EE) (K : Nat) {a_ a_tape a_readPlace a_script a_scriptLong a_now a_refused a_shareX a_shareY a_askedRow a_kept a_aside a_spelled a_image : Nat} {p1 : Int32} {c_thrown : Int32} {c_taped : Int32} {c_at : Int32} {c_part : Int32} {c_partFrom : Int32} {c_partNumber : Int32} {c_wrong : Int32} {c_partWord : Int64} {c_readLaw : Int32} {c_readBound : Int32} {c_readGoal : Int32} {c_readSites : Int32} {c_scripts : Int32} {c_sites : Int32} {c_asked : Int32} {c_outcome : Int32} {c_took : Int32} {c_acts : Int32} {c_drawn : Int64} {c_racer : Int32} {c_raced : Int32} {c_spelledMany : Int32} {c_hasImage : Int32} {c_now : Nat → Int32} {rr : Int32} (hF : F_X8_pointX K p1 c_now c_sites = some rr) : Met l yX8_pointX v_f_X8_pointX (({ frames := 1, cells := 0, slots := 0, locals := 23 } : Room)) (va_Pc [.ref a_, .int p1] (pP E (w_X8_pointX E a_ a_tape a_readPlace a_script a_scriptLong a_now a_refused a_shareX a_shareY a_askedRow a_kept a_aside a_spelled a_image c_thrown c_taped c_at c_part c_partFrom c_partNumber c_wrong c_partWord c_readLaw c_readBound c_readGoal c_readSites c_scripts c_sites c_asked c_outcome c_took c_acts c_drawn c_racer c_raced c_spelledMany c_hasImage c_now))) (vp_Si (fun q : Int32 => q = rr)) 0 0 (fun _ => False) := by
  refine Met.ofW (cc := cX8_pointX) (maxL := 2) (ret := (some .int)) (by decide) rfl ?_
  intro p e s m args below meth c s₁ B hml hv
  obtain ⟨rfl, ⟨hK, hN⟩, hP⟩ := hv
  have hx := B.exec
  have hb := B.bytes
  have hr := B.returns
  have hts := atoms_spec (ws := v_f_X8_pointX) B.pre
  have hown : s.vm.findClass RX8 = some m.cls := own_of hd_X8_pointX.1 (findClass_of_methodNamed B.named)
  have hlocks : meth.locks = false := B.notSynchronized
  replace hP : va_P E.1 vwCl [k_X8 a_ c_thrown a_tape c_taped c_at c_part c_partFrom c_partNumber c_wrong c_partWord c_readLaw c_readBound c_readGoal c_readSites a_readPlace a_script a_scriptLong c_scripts a_now a_refused c_sites a_shareX a_shareY c_asked c_outcome a_askedRow c_took a_kept c_acts c_drawn a_aside c_racer c_raced a_spelled c_spelledMany a_image c_hasImage, k_I E a_now 265 c_now] s.heap := hP
  have hl := lv_entry ([.ref a_, .int p1]) (n := 2) (Nat.le_of_ble_eq_true rfl)
  rw [lg_entry_eq]
  generalize (lg_sl ([.ref a_, .int p1]) ++ List.replicate (2 - (lg_sl ([.ref a_, .int p1])).length) Slot.unset).toArray = ls at hl ⊢
  have hl : lv_has ls 2 [(0, .ref a_), (1, .int p1)] := hl
  obtain ⟨Q, hQ⟩ : ∃ Q : State → Prop, Q = MQ below (vp_Si (fun q : Int32 => q = rr)) #[Value.ref a_, Value.int p1] s 0 0 (fun _ => False) := ⟨_, rfl⟩
  rw [← hQ]
  change W p l e ({ frames := 1, cells := 0, slots := 0, locals := 23 } : Room) s m #[Value.ref a_, Value.int p1] below meth c s.heap [] 0 0 Q (F0 m 0 ls [])
  unfold F_X8_pointX at hF
  refine lv_aload_n hx hb (dq_42 0 bcX8_pointX_0 (j := 0) rfl rfl) rfl (lv_at hl 0 rfl) ?_
  refine lv_bipush (v := 16) hx hb (dq_16 0 bcX8_pointX_0 (j := 1) (i := 16) rfl rfl rfl) (by decide) ?_
  replace hF := bd1_s hF
  obtain ⟨r_1, hc_2, hF⟩ := hF
  have hPc : va_P E.1 vwCl (w_X8_sum E a_ a_tape a_readPlace a_script a_scriptLong a_now a_refused a_shareX a_shareY a_askedRow a_kept a_aside a_spelled a_image c_thrown c_taped c_at c_part c_partFrom c_partNumber c_wrong c_partWord c_readLaw c_readBound c_readGoal c_readSites c_scripts c_sites c_asked c_outcome c_took c_acts c_drawn c_racer c_raced c_spelledMany c_hasImage c_now) s.heap := hP.sub (ws' := [k_X8 a_ c_thrown a_tape c_taped c_at c_part c_partFrom c_partNumber c_wrong c_partWord c_readLaw c_readBound c_readGoal c_readSites a_readPlace a_script a_scriptLong c_scripts a_now a_refused c_sites a_shareX a_shareY c_asked c_outcome a_askedRow c_took a_kept c_acts c_drawn a_aside c_racer c_raced a_spelled c_spelledMany a_image c_hasImage, k_I E a_now 265 c_now]) [0, 1] rfl
  have hrc := va_recv hK hPc (ci := 9) (q0 := 0) rfl rfl
  refine pE_i (va_runV (As := [.int (16 : Int32)]) (rest := [])  ⟨hx, hb, hml, hown, hts⟩ (f_X8_sum l E K (a_ := a_) (a_tape := a_tape) (a_readPlace := a_readPlace) (a_script := a_script) (a_scriptLong := a_scriptLong) (a_now := a_now) (a_refused := a_refused) (a_shareX := a_shareX) (a_shareY := a_shareY) (a_askedRow := a_askedRow) (a_kept := a_kept) (a_aside := a_aside) (a_spelled := a_spelled) (a_image := a_image) (p1 := (16 : Int32)) (c_thrown := c_thrown) (c_taped := c_taped) (c_at := c_at) (c_part := c_part) (c_partFrom := c_partFrom) (c_partNumber := c_partNumber) (c_wrong := c_wrong) (c_partWord := c_partWord) (c_readLaw := c_readLaw) (c_readBound := c_readBound) (c_readGoal := c_readGoal) (c_readSites := c_readSites) (c_scripts := c_scripts) (c_sites := c_sites) (c_asked := c_asked) (c_outcome := c_outcome) (c_took := c_took) (c_acts := c_acts) (c_drawn := c_drawn) (c_racer := c_racer) (c_raced := c_raced) (c_spelledMany := c_spelledMany) (c_hasImage := c_hasImage) (c_now := c_now) hc_2) (cwV 1 hts g_f_X8_pointX_f_X8_sum_199 rfl rfl rfl hd_X8_sum ⟨Nat.le_of_ble_eq_true rfl, Nat.le_of_ble_eq_true rfl⟩) ⟨pP.blind, hrc, (pP.pre ⟨hK, hN⟩ hPc)⟩ rfl rfl hl.1 rfl (lv_room (Nat.le_of_ble_eq_true rfl)) (dq_182 0 bcX8_pointX_0 (j := 3) (i := 199) rfl rfl rfl) ⟨Nat.le_of_ble_eq_true rfl, Nat.le_of_ble_eq_true rfl⟩) ?_
  refine lv_aload_n hx hb (dq_42 0 bcX8_pointX_0 (j := 6) rfl rfl) rfl (lv_at hl 0 rfl) ?_
  refine gt_X8_19 (v := .int c_sites) hx hb hts i_f_X8_pointX_X8 hown hK hP 0 rfl (hts (.fieldLink RX8 196 "HushWatchModel" "sites" "I") (List.mem_of_getElem? (i := 1) rfl)) rfl (dq_180 0 bcX8_pointX_0 (j := 7) (i := 196) rfl rfl rfl) ?_
  refine lv_iload_n hx hb (dq_27 0 bcX8_pointX_0 (j := 10) rfl rfl) rfl (lv_at hl 1 rfl) ?_
  refine lv_imul hx hb (dq_104 0 bcX8_pointX_0 (j := 11) rfl rfl) ?_
  refine lv_iadd hx hb (dq_96 0 bcX8_pointX_0 (j := 12) rfl rfl) ?_
  rw [hQ]
  obtain e9_0 := inj1 hF
  exact W.iret (v := r_1 + (c_sites * p1)) hx hb hr (fun tt ht hW => ⟨_, rfl, e9_0, ht⟩) (fun _ h => by cases h) (dq_172 0 bcX8_pointX_0 (j := 13) rfl rfl)

def F_X8_pointY (K : Nat) (p1 : Int32) (c_now : Nat → Int32) (c_sites : Int32) : Option (Int32) :=
  bd1 (F_X8_sum K (24 : Int32) c_now c_sites) (fun r_1 => some (r_1 + (c_sites * p1)))
abbrev w_X8_pointY (E : EE) (a_ a_tape a_readPlace a_script a_scriptLong a_now a_refused a_shareX a_shareY a_askedRow a_kept a_aside a_spelled a_image : Nat) (c_thrown : Int32) (c_taped : Int32) (c_at : Int32) (c_part : Int32) (c_partFrom : Int32) (c_partNumber : Int32) (c_wrong : Int32) (c_partWord : Int64) (c_readLaw : Int32) (c_readBound : Int32) (c_readGoal : Int32) (c_readSites : Int32) (c_scripts : Int32) (c_sites : Int32) (c_asked : Int32) (c_outcome : Int32) (c_took : Int32) (c_acts : Int32) (c_drawn : Int64) (c_racer : Int32) (c_raced : Int32) (c_spelledMany : Int32) (c_hasImage : Int32) (c_now : Nat → Int32) : va_W := [k_X8 a_ c_thrown a_tape c_taped c_at c_part c_partFrom c_partNumber c_wrong c_partWord c_readLaw c_readBound c_readGoal c_readSites a_readPlace a_script a_scriptLong c_scripts a_now a_refused c_sites a_shareX a_shareY c_asked c_outcome a_askedRow c_took a_kept c_acts c_drawn a_aside c_racer c_raced a_spelled c_spelledMany a_image c_hasImage, k_I E a_now 265 c_now]
def v_f_X8_pointY : List Cond := List.cons (.code yX8_pointY cX8_pointY 2 (some .int)) (HAppend.hAppend (α := List Cond) (β := List Cond) (γ := List Cond) [.fieldLink RX8 196 "HushWatchModel" "sites" "I", .methodLink RX8 199 yX8_sum, .instanceMethod yX8_sum, .selects RX8 yX8_sum yX8_sum, .initialized RX8] (HAppend.hAppend (α := List Cond) (β := List Cond) (γ := List Cond) v_f_X8_sum (HAppend.hAppend (α := List Cond) (β := List Cond) (γ := List Cond) wsX80 [])))
theorem gw_f_X8_pointY : v_f_X8_pointY.all goodWord = true := gw_c2 (by decide +kernel) (gw_ap gw_f_X8_sum (gw_ap gw_wsX80 gw_nil))
theorem i_f_X8_pointY_X8 : ∀ w ∈ wsX80, w ∈ v_f_X8_pointY := fun _ h => List.mem_cons_of_mem _ (List.mem_append_right _ (List.mem_append_right _ (List.mem_append_left _ h)))
theorem g_f_X8_pointY_f_X8_sum_199 : GoodIn v_f_X8_pointY (wsV RX8 199 RX8 yX8_sum v_f_X8_sum) := goodIn_in gw_f_X8_pointY (in4 2 3 4 5 rfl rfl rfl rfl (fun _ h => List.mem_cons_of_mem _ (List.mem_append_right _ (List.mem_append_left _ h))))
theorem hd_X8_pointY : yX8_pointY.cls = RX8 ∧ yX8_pointY.cls ≠ "java/lang/invoke/MethodHandle" ∧ yX8_pointY.cls ≠ "java/lang/invoke/VarHandle" ∧ (parseMethodDescriptor yX8_pointY.desc).map (fun d => d.parameters.length) = some 1 := by decide +kernel
set_option maxHeartbeats 4000000 in
set_option maxRecDepth 100000 in
theorem f_X8_pointY (l : Launch) (E : EE) (K : Nat) {a_ a_tape a_readPlace a_script a_scriptLong a_now a_refused a_shareX a_shareY a_askedRow a_kept a_aside a_spelled a_image : Nat} {p1 : Int32} {c_thrown : Int32} {c_taped : Int32} {c_at : Int32} {c_part : Int32} {c_partFrom : Int32} {c_partNumber : Int32} {c_wrong : Int32} {c_partWord : Int64} {c_readLaw : Int32} {c_readBound : Int32} {c_readGoal : Int32} {c_readSites : Int32} {c_scripts : Int32} {c_sites : Int32} {c_asked : Int32} {c_outcome : Int32} {c_took : Int32} {c_acts : Int32} {c_drawn : Int64} {c_racer : Int32} {c_raced : Int32} {c_spelledMany : Int32} {c_hasImage : Int32} {c_now : Nat → Int32} {rr : Int32} (hF : F_X8_pointY K p1 c_now c_sites = some rr) : Met l yX8_pointY v_f_X8_pointY (({ frames := 1, cells := 0, slots := 0, locals := 23 } : Room)) (va_Pc [.ref a_, .int p1] (pP E (w_X8_pointY E a_ a_tape a_readPlace a_script a_scriptLong a_now a_refused a_shareX a_shareY a_askedRow a_kept a_aside a_spelled a_image c_thrown c_taped c_at c_part c_partFrom c_partNumber c_wrong c_partWord c_readLaw c_readBound c_readGoal c_readSites c_scripts c_sites c_asked c_outcome c_took c_acts c_drawn c_racer c_raced c_spelledMany c_hasImage c_now))) (vp_Si (fun q : Int32 => q = rr)) 0 0 (fun _ => False) := by
  refine Met.ofW (cc := cX8_pointY) (maxL := 2) (ret := (some .int)) (by decide) rfl ?_
  intro p e s m args below meth c s₁ B hml hv
  obtain ⟨rfl, ⟨hK, hN⟩, hP⟩ := hv
  have hx := B.exec
  have hb := B.bytes
  have hr := B.returns
  have hts := atoms_spec (ws := v_f_X8_pointY) B.pre
  have hown : s.vm.findClass RX8 = some m.cls := own_of hd_X8_pointY.1 (findClass_of_methodNamed B.named)
  have hlocks : meth.locks = false := B.notSynchronized
  replace hP : va_P E.1 vwCl [k_X8 a_ c_thrown a_tape c_taped c_at c_part c_partFrom c_partNumber c_wrong c_partWord c_readLaw c_readBound c_readGoal c_readSites a_readPlace a_script a_scriptLong c_scripts a_now a_refused c_sites a_shareX a_shareY c_asked c_outcome a_askedRow c_took a_kept c_acts c_drawn a_aside c_racer c_raced a_spelled c_spelledMany a_image c_hasImage, k_I E a_now 265 c_now] s.heap := hP
  have hl := lv_entry ([.ref a_, .int p1]) (n := 2) (Nat.le_of_ble_eq_true rfl)
  rw [lg_entry_eq]
  generalize (lg_sl ([.ref a_, .int p1]) ++ List.replicate (2 - (lg_sl ([.ref a_, .int p1])).length) Slot.unset).toArray = ls at hl ⊢
  have hl : lv_has ls 2 [(0, .ref a_), (1, .int p1)] := hl
  obtain ⟨Q, hQ⟩ : ∃ Q : State → Prop, Q = MQ below (vp_Si (fun q : Int32 => q = rr)) #[Value.ref a_, Value.int p1] s 0 0 (fun _ => False) := ⟨_, rfl⟩
  rw [← hQ]
  change W p l e ({ frames := 1, cells := 0, slots := 0, locals := 23 } : Room) s m #[Value.ref a_, Value.int p1] below meth c s.heap [] 0 0 Q (F0 m 0 ls [])
  unfold F_X8_pointY at hF
  refine lv_aload_n hx hb (dq_42 0 bcX8_pointY_0 (j := 0) rfl rfl) rfl (lv_at hl 0 rfl) ?_
  refine lv_bipush (v := 24) hx hb (dq_16 0 bcX8_pointY_0 (j := 1) (i := 24) rfl rfl rfl) (by decide) ?_
  replace hF := bd1_s hF
  obtain ⟨r_1, hc_2, hF⟩ := hF
  have hPc : va_P E.1 vwCl (w_X8_sum E a_ a_tape a_readPlace a_script a_scriptLong a_now a_refused a_shareX a_shareY a_askedRow a_kept a_aside a_spelled a_image c_thrown c_taped c_at c_part c_partFrom c_partNumber c_wrong c_partWord c_readLaw c_readBound c_readGoal c_readSites c_scripts c_sites c_asked c_outcome c_took c_acts c_drawn c_racer c_raced c_spelledMany c_hasImage c_now) s.heap := hP.sub (ws' := [k_X8 a_ c_thrown a_tape c_taped c_at c_part c_partFrom c_partNumber c_wrong c_partWord c_readLaw c_readBound c_readGoal c_readSites a_readPlace a_script a_scriptLong c_scripts a_now a_refused c_sites a_shareX a_shareY c_asked c_outcome a_askedRow c_took a_kept c_acts c_drawn a_aside c_racer c_raced a_spelled c_spelledMany a_image c_hasImage, k_I E a_now 265 c_now]) [0, 1] rfl
  have hrc := va_recv hK hPc (ci := 9) (q0 := 0) rfl rfl
  refine pE_i (va_runV (As := [.int (24 : Int32)]) (rest := [])  ⟨hx, hb, hml, hown, hts⟩ (f_X8_sum l E K (a_ := a_) (a_tape := a_tape) (a_readPlace := a_readPlace) (a_script := a_script) (a_scriptLong := a_scriptLong) (a_now := a_now) (a_refused := a_refused) (a_shareX := a_shareX) (a_shareY := a_shareY) (a_askedRow := a_askedRow) (a_kept := a_kept) (a_aside := a_aside) (a_spelled := a_spelled) (a_image := a_image) (p1 := (24 : Int32)) (c_thrown := c_thrown) (c_taped := c_taped) (c_at := c_at) (c_part := c_part) (c_partFrom := c_partFrom) (c_partNumber := c_partNumber) (c_wrong := c_wrong) (c_partWord := c_partWord) (c_readLaw := c_readLaw) (c_readBound := c_readBound) (c_readGoal := c_readGoal) (c_readSites := c_readSites) (c_scripts := c_scripts) (c_sites := c_sites) (c_asked := c_asked) (c_outcome := c_outcome) (c_took := c_took) (c_acts := c_acts) (c_drawn := c_drawn) (c_racer := c_racer) (c_raced := c_raced) (c_spelledMany := c_spelledMany) (c_hasImage := c_hasImage) (c_now := c_now) hc_2) (cwV 1 hts g_f_X8_pointY_f_X8_sum_199 rfl rfl rfl hd_X8_sum ⟨Nat.le_of_ble_eq_true rfl, Nat.le_of_ble_eq_true rfl⟩) ⟨pP.blind, hrc, (pP.pre ⟨hK, hN⟩ hPc)⟩ rfl rfl hl.1 rfl (lv_room (Nat.le_of_ble_eq_true rfl)) (dq_182 0 bcX8_pointY_0 (j := 3) (i := 199) rfl rfl rfl) ⟨Nat.le_of_ble_eq_true rfl, Nat.le_of_ble_eq_true rfl⟩) ?_
  refine lv_aload_n hx hb (dq_42 0 bcX8_pointY_0 (j := 6) rfl rfl) rfl (lv_at hl 0 rfl) ?_
  refine gt_X8_19 (v := .int c_sites) hx hb hts i_f_X8_pointY_X8 hown hK hP 0 rfl (hts (.fieldLink RX8 196 "HushWatchModel" "sites" "I") (List.mem_of_getElem? (i := 1) rfl)) rfl (dq_180 0 bcX8_pointY_0 (j := 7) (i := 196) rfl rfl rfl) ?_
  refine lv_iload_n hx hb (dq_27 0 bcX8_pointY_0 (j := 10) rfl rfl) rfl (lv_at hl 1 rfl) ?_
  refine lv_imul hx hb (dq_104 0 bcX8_pointY_0 (j := 11) rfl rfl) ?_
  refine lv_iadd hx hb (dq_96 0 bcX8_pointY_0 (j := 12) rfl rfl) ?_
  rw [hQ]
  obtain e9_0 := inj1 hF
  exact W.iret (v := r_1 + (c_sites * p1)) hx hb hr (fun tt ht hW => ⟨_, rfl, e9_0, ht⟩) (fun _ h => by cases h) (dq_172 0 bcX8_pointY_0 (j := 13) rfl rfl)

def J_X8_valueOf_26 (p1 : Int64) (p2 : Int64) (c_now : Nat → Int32) (k0 : Int64) (x5 : Int64) : Option (Int64) :=
  if (c_now 64) = (0 : Int32) then some (p1 + p2) else if (c_now 64) = (1 : Int32) then some ((p1 * p1) + (p2 * p2)) else if (c_now 64) = (2 : Int32) then if lg_cmp x5 k0 ≤ (0 : Int32) then some k0 else some x5 else some (x5 + k0)
def J_X8_valueOf_12 (p1 : Int64) (p2 : Int64) (c_now : Nat → Int32) (k0 : Int64) : Option (Int64) :=
  if (0 : Int32) ≤ lg_cmp p2 (0 : Int64) then J_X8_valueOf_26 p1 p2 c_now p2 k0 else J_X8_valueOf_26 p1 p2 c_now (-p2) k0
def F_X8_valueOf (p1 : Int64) (p2 : Int64) (c_now : Nat → Int32) : Option (Int64) :=
  if (0 : Int32) ≤ lg_cmp p1 (0 : Int64) then J_X8_valueOf_12 p1 p2 c_now p1 else J_X8_valueOf_12 p1 p2 c_now (-p1)
abbrev w_X8_valueOf (E : EE) (a_ a_tape a_readPlace a_script a_scriptLong a_now a_refused a_shareX a_shareY a_askedRow a_kept a_aside a_spelled a_image : Nat) (c_thrown : Int32) (c_taped : Int32) (c_at : Int32) (c_part : Int32) (c_partFrom : Int32) (c_partNumber : Int32) (c_wrong : Int32) (c_partWord : Int64) (c_readLaw : Int32) (c_readBound : Int32) (c_readGoal : Int32) (c_readSites : Int32) (c_scripts : Int32) (c_sites : Int32) (c_asked : Int32) (c_outcome : Int32) (c_took : Int32) (c_acts : Int32) (c_drawn : Int64) (c_racer : Int32) (c_raced : Int32) (c_spelledMany : Int32) (c_hasImage : Int32) (c_now : Nat → Int32) : va_W := [k_X8 a_ c_thrown a_tape c_taped c_at c_part c_partFrom c_partNumber c_wrong c_partWord c_readLaw c_readBound c_readGoal c_readSites a_readPlace a_script a_scriptLong c_scripts a_now a_refused c_sites a_shareX a_shareY c_asked c_outcome a_askedRow c_took a_kept c_acts c_drawn a_aside c_racer c_raced a_spelled c_spelledMany a_image c_hasImage, k_I E a_now 265 c_now]
def v_f_X8_valueOf : List Cond := List.cons (.code yX8_valueOf cX8_valueOf 9 (some .long)) (HAppend.hAppend (α := List Cond) (β := List Cond) (γ := List Cond) [.fieldLink RX8 22 "HushWatchModel" "now" "[I"] (HAppend.hAppend (α := List Cond) (β := List Cond) (γ := List Cond) wsX80 []))
theorem gw_f_X8_valueOf : v_f_X8_valueOf.all goodWord = true := gw_c2 (by decide +kernel) (gw_ap gw_wsX80 gw_nil)
theorem i_f_X8_valueOf_X8 : ∀ w ∈ wsX80, w ∈ v_f_X8_valueOf := fun _ h => List.mem_cons_of_mem _ (List.mem_append_right _ (List.mem_append_left _ h))
theorem hd_X8_valueOf : yX8_valueOf.cls = RX8 ∧ yX8_valueOf.cls ≠ "java/lang/invoke/MethodHandle" ∧ yX8_valueOf.cls ≠ "java/lang/invoke/VarHandle" ∧ (parseMethodDescriptor yX8_valueOf.desc).map (fun d => d.parameters.length) = some 2 := by decide +kernel
set_option maxHeartbeats 4000000 in
set_option maxRecDepth 100000 in
theorem j_X8_valueOf_26 {p : Program} (l : Launch) {e : Env} {s : State} {m : MethodId} {below : List Frame} {meth : Method} {c : Code} {Q : State → Prop} (E : EE) {a_ a_tape a_readPlace a_script a_scriptLong a_now a_refused a_shareX a_shareY a_askedRow a_kept a_aside a_spelled a_image : Nat} {p1 : Int64} {p2 : Int64} {c_thrown : Int32} {c_taped : Int32} {c_at : Int32} {c_part : Int32} {c_partFrom : Int32} {c_partNumber : Int32} {c_wrong : Int32} {c_partWord : Int64} {c_readLaw : Int32} {c_readBound : Int32} {c_readGoal : Int32} {c_readSites : Int32} {c_scripts : Int32} {c_sites : Int32} {c_asked : Int32} {c_outcome : Int32} {c_took : Int32} {c_acts : Int32} {c_drawn : Int64} {c_racer : Int32} {c_raced : Int32} {c_spelledMany : Int32} {c_hasImage : Int32} {c_now : Nat → Int32} {k0 : Int64} {x5 : Int64} (hx : p.tables.exec = Jvm.exec) (hb : c.code = cX8_valueOf) (hml : c.maxLocals = 9) (hown : s.vm.findClass RX8 = some m.cls) (hts : ∀ w ∈ v_f_X8_valueOf, w.before #[Value.ref a_, Value.long p1, Value.long p2] s = true) (hK : va_K E.1 vwCl (TY E) s) (hN : NX s) {rr : Int64} (hr : meth.sig.returnType = (some .long)) (hlocks : meth.locks = false) (hQ : Q = MQ below (vp_Sl (fun q : Int64 => q = rr)) #[Value.ref a_, Value.long p1, Value.long p2] s 0 0 (fun _ => False)) (hF : J_X8_valueOf_26 p1 p2 c_now k0 x5 = some rr) (hP : va_P E.1 vwCl (w_X8_valueOf E a_ a_tape a_readPlace a_script a_scriptLong a_now a_refused a_shareX a_shareY a_askedRow a_kept a_aside a_spelled a_image c_thrown c_taped c_at c_part c_partFrom c_partNumber c_wrong c_partWord c_readLaw c_readBound c_readGoal c_readSites c_scripts c_sites c_asked c_outcome c_took c_acts c_drawn c_racer c_raced c_spelledMany c_hasImage c_now) s.heap) : ∀ (ls : Array Slot), lv_has ls 9 [(0, .ref a_), (1, .long p1), (3, .long p2), (5, .long x5)] → W p l e ({ frames := 0, cells := 0, slots := 0, locals := 0 } : Room) s m #[Value.ref a_, Value.long p1, Value.long p2] below meth c s.heap [] 0 0 Q (F0 m 26 ls [.long k0]) := by
  unfold J_X8_valueOf_26 at hF
  replace hP : va_P E.1 vwCl [k_X8 a_ c_thrown a_tape c_taped c_at c_part c_partFrom c_partNumber c_wrong c_partWord c_readLaw c_readBound c_readGoal c_readSites a_readPlace a_script a_scriptLong c_scripts a_now a_refused c_sites a_shareX a_shareY c_asked c_outcome a_askedRow c_took a_kept c_acts c_drawn a_aside c_racer c_raced a_spelled c_spelledMany a_image c_hasImage, k_I E a_now 265 c_now] s.heap := hP
  intro ls hl
  refine lv_lstore (lv' := [(7, .long k0), (0, .ref a_), (1, .long p1), (3, .long p2), (5, .long x5)]) hx hb (dq_55 0 bcX8_valueOf_0 (j := 26) (i := 7) rfl rfl) hl (by decide) rfl (fun ls hl => ?_)
  refine lv_aload_n hx hb (dq_42 0 bcX8_valueOf_0 (j := 28) rfl rfl) rfl (lv_at hl 1 rfl) ?_
  refine gt_X8_17 (v := .ref a_now) hx hb hts i_f_X8_valueOf_X8 hown hK hP 0 rfl (hts (.fieldLink RX8 22 "HushWatchModel" "now" "[I") (List.mem_of_getElem? (i := 1) rfl)) rfl (dq_180 0 bcX8_valueOf_0 (j := 29) (i := 22) rfl rfl rfl) ?_
  refine lv_bipush (v := 64) hx hb (dq_16 0 bcX8_valueOf_0 (j := 32) (i := 64) rfl rfl rfl) (by decide) ?_
  refine va_iald hx hb hK hP 1 0 rfl rfl (vin rfl) (dq_46 0 bcX8_valueOf_0 (j := 34) rfl rfl) ?_
  refine W.eq (g2 := F0 m 35 ls [.int (c_now 64)]) rfl ?_
  rcases Classical.em ((c_now 64) = (0 : Int32)) with c_3_0 | c_3_0
  ·
    replace hF := ip c_3_0 hF
    refine lv_tableIn (off := 25) (tgt := 60) hx hb dX8_valueOf_35 (by rw [c_3_0]; decide) (by rw [c_3_0]; decide) (by rw [c_3_0]; decide) (by decide) ?_
    refine lv_lload_n hx hb (dq_31 48 bcX8_valueOf_1 (j := 12) rfl rfl) rfl (lv_at hl 2 rfl) ?_
    refine lv_lload_n hx hb (dq_33 48 bcX8_valueOf_1 (j := 13) rfl rfl) rfl (lv_at hl 3 rfl) ?_
    refine lv_ladd hx hb (dq_97 48 bcX8_valueOf_1 (j := 14) rfl rfl) ?_
    rw [hQ]
    obtain e9_0 := inj1 hF
    exact W.lret (v := p1 + p2) hx hb hr (fun tt ht hW => ⟨_, rfl, e9_0, ht⟩) (fun _ h => by cases h) (dq_173 48 bcX8_valueOf_1 (j := 15) rfl rfl)
  replace hF := inn c_3_0 hF
  rcases Classical.em ((c_now 64) = (1 : Int32)) with c_3_1 | c_3_1
  ·
    replace hF := ip c_3_1 hF
    refine lv_tableIn (off := 29) (tgt := 64) hx hb dX8_valueOf_35 (by rw [c_3_1]; decide) (by rw [c_3_1]; decide) (by rw [c_3_1]; decide) (by decide) ?_
    refine lv_lload_n hx hb (dq_31 48 bcX8_valueOf_1 (j := 16) rfl rfl) rfl (lv_at hl 2 rfl) ?_
    refine lv_lload_n hx hb (dq_31 48 bcX8_valueOf_1 (j := 17) rfl rfl) rfl (lv_at hl 2 rfl) ?_
    refine lv_lmul hx hb (dq_105 48 bcX8_valueOf_1 (j := 18) rfl rfl) ?_
    refine lv_lload_n hx hb (dq_33 48 bcX8_valueOf_1 (j := 19) rfl rfl) rfl (lv_at hl 3 rfl) ?_
    refine lv_lload_n hx hb (dq_33 48 bcX8_valueOf_1 (j := 20) rfl rfl) rfl (lv_at hl 3 rfl) ?_
    refine lv_lmul hx hb (dq_105 48 bcX8_valueOf_1 (j := 21) rfl rfl) ?_
    refine lv_ladd hx hb (dq_97 48 bcX8_valueOf_1 (j := 22) rfl rfl) ?_
    rw [hQ]
    obtain e9_0 := inj1 hF
    exact W.lret (v := (p1 * p1) + (p2 * p2)) hx hb hr (fun tt ht hW => ⟨_, rfl, e9_0, ht⟩) (fun _ h => by cases h) (dq_173 48 bcX8_valueOf_1 (j := 23) rfl rfl)
  replace hF := inn c_3_1 hF
  rcases Classical.em ((c_now 64) = (2 : Int32)) with c_3_2 | c_3_2
  ·
    replace hF := ip c_3_2 hF
    refine lv_tableIn (off := 37) (tgt := 72) hx hb dX8_valueOf_35 (by rw [c_3_2]; decide) (by rw [c_3_2]; decide) (by rw [c_3_2]; decide) (by decide) ?_
    refine lv_lload hx hb (dq_22 48 bcX8_valueOf_1 (j := 24) (i := 5) rfl rfl) (lv_at hl 4 rfl) ?_
    refine lv_lload hx hb (dq_22 48 bcX8_valueOf_1 (j := 26) (i := 7) rfl rfl) (lv_at hl 0 rfl) ?_
    refine W.lcmp hx hb (dq_148 48 bcX8_valueOf_1 (j := 28) rfl rfl) ?_
    refine lv_if_le (tgt := 85) hx hb (dq_158 48 bcX8_valueOf_1 (j := 29) (i := 8) rfl rfl rfl) (by decide) (fun c_4 => ?_) (fun c_4 => ?_)
    ·
      replace hF := ip c_4 hF
      refine lv_lload hx hb (dq_22 48 bcX8_valueOf_1 (j := 37) (i := 7) rfl rfl) (lv_at hl 0 rfl) ?_
      rw [hQ]
      obtain e9_0 := inj1 hF
      exact W.lret (v := k0) hx hb hr (fun tt ht hW => ⟨_, rfl, e9_0, ht⟩) (fun _ h => by cases h) (dq_173 48 bcX8_valueOf_1 (j := 39) rfl rfl)
    ·
      replace hF := inn c_4 hF
      refine lv_lload hx hb (dq_22 48 bcX8_valueOf_1 (j := 32) (i := 5) rfl rfl) (lv_at hl 4 rfl) ?_
      refine lv_goto (tgt := 87) hx hb (dq_167 48 bcX8_valueOf_1 (j := 34) (i := 5) rfl rfl rfl) (by decide) ?_
      rw [hQ]
      obtain e9_0 := inj1 hF
      exact W.lret (v := x5) hx hb hr (fun tt ht hW => ⟨_, rfl, e9_0, ht⟩) (fun _ h => by cases h) (dq_173 48 bcX8_valueOf_1 (j := 39) rfl rfl)
  replace hF := inn c_3_2 hF
  refine lv_tableOut (tgt := 88) hx hb dX8_valueOf_35 (by have t0 : (0 : Int32).toInt = 0 := (by decide); have t1 : (1 : Int32).toInt = 1 := (by decide); have t2 : (2 : Int32).toInt = 2 := (by decide); simp only [← Int32.toInt_inj, t0, t1, t2] at c_3_0 c_3_1 c_3_2; omega) (by decide) ?_
  refine lv_lload hx hb (dq_22 48 bcX8_valueOf_1 (j := 40) (i := 5) rfl rfl) (lv_at hl 4 rfl) ?_
  refine lv_lload hx hb (dq_22 48 bcX8_valueOf_1 (j := 42) (i := 7) rfl rfl) (lv_at hl 0 rfl) ?_
  refine lv_ladd hx hb (dq_97 48 bcX8_valueOf_1 (j := 44) rfl rfl) ?_
  rw [hQ]
  obtain e9_0 := inj1 hF
  exact W.lret (v := x5 + k0) hx hb hr (fun tt ht hW => ⟨_, rfl, e9_0, ht⟩) (fun _ h => by cases h) (dq_173 48 bcX8_valueOf_1 (j := 45) rfl rfl)

set_option maxHeartbeats 4000000 in
set_option maxRecDepth 100000 in
theorem j_X8_valueOf_12 {p : Program} (l : Launch) {e : Env} {s : State} {m : MethodId} {below : List Frame} {meth : Method} {c : Code} {Q : State → Prop} (E : EE) {a_ a_tape a_readPlace a_script a_scriptLong a_now a_refused a_shareX a_shareY a_askedRow a_kept a_aside a_spelled a_image : Nat} {p1 : Int64} {p2 : Int64} {c_thrown : Int32} {c_taped : Int32} {c_at : Int32} {c_part : Int32} {c_partFrom : Int32} {c_partNumber : Int32} {c_wrong : Int32} {c_partWord : Int64} {c_readLaw : Int32} {c_readBound : Int32} {c_readGoal : Int32} {c_readSites : Int32} {c_scripts : Int32} {c_sites : Int32} {c_asked : Int32} {c_outcome : Int32} {c_took : Int32} {c_acts : Int32} {c_drawn : Int64} {c_racer : Int32} {c_raced : Int32} {c_spelledMany : Int32} {c_hasImage : Int32} {c_now : Nat → Int32} {k0 : Int64} (hx : p.tables.exec = Jvm.exec) (hb : c.code = cX8_valueOf) (hml : c.maxLocals = 9) (hown : s.vm.findClass RX8 = some m.cls) (hts : ∀ w ∈ v_f_X8_valueOf, w.before #[Value.ref a_, Value.long p1, Value.long p2] s = true) (hK : va_K E.1 vwCl (TY E) s) (hN : NX s) {rr : Int64} (hr : meth.sig.returnType = (some .long)) (hlocks : meth.locks = false) (hQ : Q = MQ below (vp_Sl (fun q : Int64 => q = rr)) #[Value.ref a_, Value.long p1, Value.long p2] s 0 0 (fun _ => False)) (hF : J_X8_valueOf_12 p1 p2 c_now k0 = some rr) (hP : va_P E.1 vwCl (w_X8_valueOf E a_ a_tape a_readPlace a_script a_scriptLong a_now a_refused a_shareX a_shareY a_askedRow a_kept a_aside a_spelled a_image c_thrown c_taped c_at c_part c_partFrom c_partNumber c_wrong c_partWord c_readLaw c_readBound c_readGoal c_readSites c_scripts c_sites c_asked c_outcome c_took c_acts c_drawn c_racer c_raced c_spelledMany c_hasImage c_now) s.heap) : ∀ (ls : Array Slot), lv_has ls 9 [(0, .ref a_), (1, .long p1), (3, .long p2)] → W p l e ({ frames := 0, cells := 0, slots := 0, locals := 0 } : Room) s m #[Value.ref a_, Value.long p1, Value.long p2] below meth c s.heap [] 0 0 Q (F0 m 12 ls [.long k0]) := by
  unfold J_X8_valueOf_12 at hF
  replace hP : va_P E.1 vwCl [k_X8 a_ c_thrown a_tape c_taped c_at c_part c_partFrom c_partNumber c_wrong c_partWord c_readLaw c_readBound c_readGoal c_readSites a_readPlace a_script a_scriptLong c_scripts a_now a_refused c_sites a_shareX a_shareY c_asked c_outcome a_askedRow c_took a_kept c_acts c_drawn a_aside c_racer c_raced a_spelled c_spelledMany a_image c_hasImage, k_I E a_now 265 c_now] s.heap := hP
  intro ls hl
  refine lv_lstore (lv' := [(5, .long k0), (0, .ref a_), (1, .long p1), (3, .long p2)]) hx hb (dq_55 0 bcX8_valueOf_0 (j := 12) (i := 5) rfl rfl) hl (by decide) rfl (fun ls hl => ?_)
  refine lv_lload_n hx hb (dq_33 0 bcX8_valueOf_0 (j := 14) rfl rfl) rfl (lv_at hl 3 rfl) ?_
  refine lv_lconst (v := 0) hx hb (dq_9 0 bcX8_valueOf_0 (j := 15) rfl rfl) (by decide) ?_
  refine W.lcmp hx hb (dq_148 0 bcX8_valueOf_0 (j := 16) rfl rfl) ?_
  refine lv_if_ge (tgt := 25) hx hb (dq_156 0 bcX8_valueOf_0 (j := 17) (i := 8) rfl rfl rfl) (by decide) (fun c_2 => ?_) (fun c_2 => ?_)
  ·
    replace hF := ip c_2 hF
    refine lv_lload_n hx hb (dq_33 0 bcX8_valueOf_0 (j := 25) rfl rfl) rfl (lv_at hl 3 rfl) ?_
    exact j_X8_valueOf_26 l E (p1 := p1) (p2 := p2) (c_thrown := c_thrown) (c_taped := c_taped) (c_at := c_at) (c_part := c_part) (c_partFrom := c_partFrom) (c_partNumber := c_partNumber) (c_wrong := c_wrong) (c_partWord := c_partWord) (c_readLaw := c_readLaw) (c_readBound := c_readBound) (c_readGoal := c_readGoal) (c_readSites := c_readSites) (c_scripts := c_scripts) (c_sites := c_sites) (c_asked := c_asked) (c_outcome := c_outcome) (c_took := c_took) (c_acts := c_acts) (c_drawn := c_drawn) (c_racer := c_racer) (c_raced := c_raced) (c_spelledMany := c_spelledMany) (c_hasImage := c_hasImage) (c_now := c_now) (k0 := p2) (x5 := k0) hx hb hml hown hts hK hN hr hlocks hQ hF hP ls (lv_sub hl [1, 2, 3, 0] rfl)
  ·
    replace hF := inn c_2 hF
    refine lv_lload_n hx hb (dq_33 0 bcX8_valueOf_0 (j := 20) rfl rfl) rfl (lv_at hl 3 rfl) ?_
    refine lv_lneg hx hb (dq_117 0 bcX8_valueOf_0 (j := 21) rfl rfl) ?_
    refine lv_goto (tgt := 26) hx hb (dq_167 0 bcX8_valueOf_0 (j := 22) (i := 4) rfl rfl rfl) (by decide) ?_
    exact j_X8_valueOf_26 l E (p1 := p1) (p2 := p2) (c_thrown := c_thrown) (c_taped := c_taped) (c_at := c_at) (c_part := c_part) (c_partFrom := c_partFrom) (c_partNumber := c_partNumber) (c_wrong := c_wrong) (c_partWord := c_partWord) (c_readLaw := c_readLaw) (c_readBound := c_readBound) (c_readGoal := c_readGoal) (c_readSites := c_readSites) (c_scripts := c_scripts) (c_sites := c_sites) (c_asked := c_asked) (c_outcome := c_outcome) (c_took := c_took) (c_acts := c_acts) (c_drawn := c_drawn) (c_racer := c_racer) (c_raced := c_raced) (c_spelledMany := c_spelledMany) (c_hasImage := c_hasImage) (c_now := c_now) (k0 := -p2) (x5 := k0) hx hb hml hown hts hK hN hr hlocks hQ hF hP ls (lv_sub hl [1, 2, 3, 0] rfl)

set_option maxHeartbeats 4000000 in
set_option maxRecDepth 100000 in
theorem f_X8_valueOf (l : Launch) (E : EE) {a_ a_tape a_readPlace a_script a_scriptLong a_now a_refused a_shareX a_shareY a_askedRow a_kept a_aside a_spelled a_image : Nat} {p1 : Int64} {p2 : Int64} {c_thrown : Int32} {c_taped : Int32} {c_at : Int32} {c_part : Int32} {c_partFrom : Int32} {c_partNumber : Int32} {c_wrong : Int32} {c_partWord : Int64} {c_readLaw : Int32} {c_readBound : Int32} {c_readGoal : Int32} {c_readSites : Int32} {c_scripts : Int32} {c_sites : Int32} {c_asked : Int32} {c_outcome : Int32} {c_took : Int32} {c_acts : Int32} {c_drawn : Int64} {c_racer : Int32} {c_raced : Int32} {c_spelledMany : Int32} {c_hasImage : Int32} {c_now : Nat → Int32} {rr : Int64} (hF : F_X8_valueOf p1 p2 c_now = some rr) : Met l yX8_valueOf v_f_X8_valueOf (({ frames := 0, cells := 0, slots := 0, locals := 0 } : Room)) (va_Pc [.ref a_, .long p1, .long p2] (pP E (w_X8_valueOf E a_ a_tape a_readPlace a_script a_scriptLong a_now a_refused a_shareX a_shareY a_askedRow a_kept a_aside a_spelled a_image c_thrown c_taped c_at c_part c_partFrom c_partNumber c_wrong c_partWord c_readLaw c_readBound c_readGoal c_readSites c_scripts c_sites c_asked c_outcome c_took c_acts c_drawn c_racer c_raced c_spelledMany c_hasImage c_now))) (vp_Sl (fun q : Int64 => q = rr)) 0 0 (fun _ => False) := by
  refine Met.ofW (cc := cX8_valueOf) (maxL := 9) (ret := (some .long)) (by decide) rfl ?_
  intro p e s m args below meth c s₁ B hml hv
  obtain ⟨rfl, ⟨hK, hN⟩, hP⟩ := hv
  have hx := B.exec
  have hb := B.bytes
  have hr := B.returns
  have hts := atoms_spec (ws := v_f_X8_valueOf) B.pre
  have hown : s.vm.findClass RX8 = some m.cls := own_of hd_X8_valueOf.1 (findClass_of_methodNamed B.named)
  have hlocks : meth.locks = false := B.notSynchronized
  replace hP : va_P E.1 vwCl [k_X8 a_ c_thrown a_tape c_taped c_at c_part c_partFrom c_partNumber c_wrong c_partWord c_readLaw c_readBound c_readGoal c_readSites a_readPlace a_script a_scriptLong c_scripts a_now a_refused c_sites a_shareX a_shareY c_asked c_outcome a_askedRow c_took a_kept c_acts c_drawn a_aside c_racer c_raced a_spelled c_spelledMany a_image c_hasImage, k_I E a_now 265 c_now] s.heap := hP
  have hl := lv_entry ([.ref a_, .long p1, .long p2]) (n := 9) (Nat.le_of_ble_eq_true rfl)
  rw [lg_entry_eq]
  generalize (lg_sl ([.ref a_, .long p1, .long p2]) ++ List.replicate (9 - (lg_sl ([.ref a_, .long p1, .long p2])).length) Slot.unset).toArray = ls at hl ⊢
  have hl : lv_has ls 9 [(0, .ref a_), (1, .long p1), (3, .long p2)] := hl
  obtain ⟨Q, hQ⟩ : ∃ Q : State → Prop, Q = MQ below (vp_Sl (fun q : Int64 => q = rr)) #[Value.ref a_, Value.long p1, Value.long p2] s 0 0 (fun _ => False) := ⟨_, rfl⟩
  rw [← hQ]
  change W p l e ({ frames := 0, cells := 0, slots := 0, locals := 0 } : Room) s m #[Value.ref a_, Value.long p1, Value.long p2] below meth c s.heap [] 0 0 Q (F0 m 0 ls [])
  unfold F_X8_valueOf at hF
  refine lv_lload_n hx hb (dq_31 0 bcX8_valueOf_0 (j := 0) rfl rfl) rfl (lv_at hl 1 rfl) ?_
  refine lv_lconst (v := 0) hx hb (dq_9 0 bcX8_valueOf_0 (j := 1) rfl rfl) (by decide) ?_
  refine W.lcmp hx hb (dq_148 0 bcX8_valueOf_0 (j := 2) rfl rfl) ?_
  refine lv_if_ge (tgt := 11) hx hb (dq_156 0 bcX8_valueOf_0 (j := 3) (i := 8) rfl rfl rfl) (by decide) (fun c_1 => ?_) (fun c_1 => ?_)
  ·
    replace hF := ip c_1 hF
    refine lv_lload_n hx hb (dq_31 0 bcX8_valueOf_0 (j := 11) rfl rfl) rfl (lv_at hl 1 rfl) ?_
    exact j_X8_valueOf_12 l E (p1 := p1) (p2 := p2) (c_thrown := c_thrown) (c_taped := c_taped) (c_at := c_at) (c_part := c_part) (c_partFrom := c_partFrom) (c_partNumber := c_partNumber) (c_wrong := c_wrong) (c_partWord := c_partWord) (c_readLaw := c_readLaw) (c_readBound := c_readBound) (c_readGoal := c_readGoal) (c_readSites := c_readSites) (c_scripts := c_scripts) (c_sites := c_sites) (c_asked := c_asked) (c_outcome := c_outcome) (c_took := c_took) (c_acts := c_acts) (c_drawn := c_drawn) (c_racer := c_racer) (c_raced := c_raced) (c_spelledMany := c_spelledMany) (c_hasImage := c_hasImage) (c_now := c_now) (k0 := p1) hx hb hml hown hts hK hN hr hlocks hQ hF hP ls (lv_sub hl [0, 1, 2] rfl)
  ·
    replace hF := inn c_1 hF
    refine lv_lload_n hx hb (dq_31 0 bcX8_valueOf_0 (j := 6) rfl rfl) rfl (lv_at hl 1 rfl) ?_
    refine lv_lneg hx hb (dq_117 0 bcX8_valueOf_0 (j := 7) rfl rfl) ?_
    refine lv_goto (tgt := 12) hx hb (dq_167 0 bcX8_valueOf_0 (j := 8) (i := 4) rfl rfl rfl) (by decide) ?_
    exact j_X8_valueOf_12 l E (p1 := p1) (p2 := p2) (c_thrown := c_thrown) (c_taped := c_taped) (c_at := c_at) (c_part := c_part) (c_partFrom := c_partFrom) (c_partNumber := c_partNumber) (c_wrong := c_wrong) (c_partWord := c_partWord) (c_readLaw := c_readLaw) (c_readBound := c_readBound) (c_readGoal := c_readGoal) (c_readSites := c_readSites) (c_scripts := c_scripts) (c_sites := c_sites) (c_asked := c_asked) (c_outcome := c_outcome) (c_took := c_took) (c_acts := c_acts) (c_drawn := c_drawn) (c_racer := c_racer) (c_raced := c_raced) (c_spelledMany := c_spelledMany) (c_hasImage := c_hasImage) (c_now := c_now) (k0 := -p1) hx hb hml hown hts hK hN hr hlocks hQ hF hP ls (lv_sub hl [0, 1, 2] rfl)

def F_X8_isAllowed (p1 : Int32) (p2 : Int32) (c_now : Nat → Int32) : Option (Int32) :=
  bd1 (F_X8_valueOf p1.toInt64 p2.toInt64 c_now) (fun r_1 => if (0 : Int32) ≤ lg_cmp r_1 ((c_now 65).toInt64) then some (0 : Int32) else some (1 : Int32))
abbrev w_X8_isAllowed (E : EE) (a_ a_tape a_readPlace a_script a_scriptLong a_now a_refused a_shareX a_shareY a_askedRow a_kept a_aside a_spelled a_image : Nat) (c_thrown : Int32) (c_taped : Int32) (c_at : Int32) (c_part : Int32) (c_partFrom : Int32) (c_partNumber : Int32) (c_wrong : Int32) (c_partWord : Int64) (c_readLaw : Int32) (c_readBound : Int32) (c_readGoal : Int32) (c_readSites : Int32) (c_scripts : Int32) (c_sites : Int32) (c_asked : Int32) (c_outcome : Int32) (c_took : Int32) (c_acts : Int32) (c_drawn : Int64) (c_racer : Int32) (c_raced : Int32) (c_spelledMany : Int32) (c_hasImage : Int32) (c_now : Nat → Int32) : va_W := [k_X8 a_ c_thrown a_tape c_taped c_at c_part c_partFrom c_partNumber c_wrong c_partWord c_readLaw c_readBound c_readGoal c_readSites a_readPlace a_script a_scriptLong c_scripts a_now a_refused c_sites a_shareX a_shareY c_asked c_outcome a_askedRow c_took a_kept c_acts c_drawn a_aside c_racer c_raced a_spelled c_spelledMany a_image c_hasImage, k_I E a_now 265 c_now]
def v_f_X8_isAllowed : List Cond := List.cons (.code yX8_isAllowed cX8_isAllowed 3 (some .boolean)) (HAppend.hAppend (α := List Cond) (β := List Cond) (γ := List Cond) [.fieldLink RX8 22 "HushWatchModel" "now" "[I", .methodLink RX8 218 yX8_valueOf, .instanceMethod yX8_valueOf, .selects RX8 yX8_valueOf yX8_valueOf, .initialized RX8] (HAppend.hAppend (α := List Cond) (β := List Cond) (γ := List Cond) v_f_X8_valueOf (HAppend.hAppend (α := List Cond) (β := List Cond) (γ := List Cond) wsX80 [])))
theorem gw_f_X8_isAllowed : v_f_X8_isAllowed.all goodWord = true := gw_c2 (by decide +kernel) (gw_ap gw_f_X8_valueOf (gw_ap gw_wsX80 gw_nil))
theorem i_f_X8_isAllowed_X8 : ∀ w ∈ wsX80, w ∈ v_f_X8_isAllowed := fun _ h => List.mem_cons_of_mem _ (List.mem_append_right _ (List.mem_append_right _ (List.mem_append_left _ h)))
theorem g_f_X8_isAllowed_f_X8_valueOf_218 : GoodIn v_f_X8_isAllowed (wsV RX8 218 RX8 yX8_valueOf v_f_X8_valueOf) := goodIn_in gw_f_X8_isAllowed (in4 2 3 4 5 rfl rfl rfl rfl (fun _ h => List.mem_cons_of_mem _ (List.mem_append_right _ (List.mem_append_left _ h))))
theorem hd_X8_isAllowed : yX8_isAllowed.cls = RX8 ∧ yX8_isAllowed.cls ≠ "java/lang/invoke/MethodHandle" ∧ yX8_isAllowed.cls ≠ "java/lang/invoke/VarHandle" ∧ (parseMethodDescriptor yX8_isAllowed.desc).map (fun d => d.parameters.length) = some 2 := by decide +kernel
set_option maxHeartbeats 4000000 in
set_option maxRecDepth 100000 in
theorem f_X8_isAllowed (l : Launch) (E : EE) {a_ a_tape a_readPlace a_script a_scriptLong a_now a_refused a_shareX a_shareY a_askedRow a_kept a_aside a_spelled a_image : Nat} {p1 : Int32} {p2 : Int32} {c_thrown : Int32} {c_taped : Int32} {c_at : Int32} {c_part : Int32} {c_partFrom : Int32} {c_partNumber : Int32} {c_wrong : Int32} {c_partWord : Int64} {c_readLaw : Int32} {c_readBound : Int32} {c_readGoal : Int32} {c_readSites : Int32} {c_scripts : Int32} {c_sites : Int32} {c_asked : Int32} {c_outcome : Int32} {c_took : Int32} {c_acts : Int32} {c_drawn : Int64} {c_racer : Int32} {c_raced : Int32} {c_spelledMany : Int32} {c_hasImage : Int32} {c_now : Nat → Int32} {rr : Int32} (hF : F_X8_isAllowed p1 p2 c_now = some rr) : Met l yX8_isAllowed v_f_X8_isAllowed (({ frames := 1, cells := 0, slots := 0, locals := 28 } : Room)) (va_Pc [.ref a_, .int p1, .int p2] (pP E (w_X8_isAllowed E a_ a_tape a_readPlace a_script a_scriptLong a_now a_refused a_shareX a_shareY a_askedRow a_kept a_aside a_spelled a_image c_thrown c_taped c_at c_part c_partFrom c_partNumber c_wrong c_partWord c_readLaw c_readBound c_readGoal c_readSites c_scripts c_sites c_asked c_outcome c_took c_acts c_drawn c_racer c_raced c_spelledMany c_hasImage c_now))) (vp_Si (fun q : Int32 => q = rr ∧ (q = 0 ∨ q = 1))) 0 0 (fun _ => False) := by
  refine Met.ofW (cc := cX8_isAllowed) (maxL := 3) (ret := (some .boolean)) (by decide) rfl ?_
  intro p e s m args below meth c s₁ B hml hv
  obtain ⟨rfl, ⟨hK, hN⟩, hP⟩ := hv
  have hx := B.exec
  have hb := B.bytes
  have hr := B.returns
  have hts := atoms_spec (ws := v_f_X8_isAllowed) B.pre
  have hown : s.vm.findClass RX8 = some m.cls := own_of hd_X8_isAllowed.1 (findClass_of_methodNamed B.named)
  have hlocks : meth.locks = false := B.notSynchronized
  replace hP : va_P E.1 vwCl [k_X8 a_ c_thrown a_tape c_taped c_at c_part c_partFrom c_partNumber c_wrong c_partWord c_readLaw c_readBound c_readGoal c_readSites a_readPlace a_script a_scriptLong c_scripts a_now a_refused c_sites a_shareX a_shareY c_asked c_outcome a_askedRow c_took a_kept c_acts c_drawn a_aside c_racer c_raced a_spelled c_spelledMany a_image c_hasImage, k_I E a_now 265 c_now] s.heap := hP
  have hl := lv_entry ([.ref a_, .int p1, .int p2]) (n := 3) (Nat.le_of_ble_eq_true rfl)
  rw [lg_entry_eq]
  generalize (lg_sl ([.ref a_, .int p1, .int p2]) ++ List.replicate (3 - (lg_sl ([.ref a_, .int p1, .int p2])).length) Slot.unset).toArray = ls at hl ⊢
  have hl : lv_has ls 3 [(0, .ref a_), (1, .int p1), (2, .int p2)] := hl
  obtain ⟨Q, hQ⟩ : ∃ Q : State → Prop, Q = MQ below (vp_Si (fun q : Int32 => q = rr ∧ (q = 0 ∨ q = 1))) #[Value.ref a_, Value.int p1, Value.int p2] s 0 0 (fun _ => False) := ⟨_, rfl⟩
  rw [← hQ]
  change W p l e ({ frames := 1, cells := 0, slots := 0, locals := 28 } : Room) s m #[Value.ref a_, Value.int p1, Value.int p2] below meth c s.heap [] 0 0 Q (F0 m 0 ls [])
  unfold F_X8_isAllowed at hF
  refine lv_aload_n hx hb (dq_42 0 bcX8_isAllowed_0 (j := 0) rfl rfl) rfl (lv_at hl 0 rfl) ?_
  refine lv_iload_n hx hb (dq_27 0 bcX8_isAllowed_0 (j := 1) rfl rfl) rfl (lv_at hl 1 rfl) ?_
  refine lv_i2l (v := p1.toInt64) hx hb (dq_133 0 bcX8_isAllowed_0 (j := 2) rfl rfl) rfl ?_
  refine lv_iload_n hx hb (dq_28 0 bcX8_isAllowed_0 (j := 3) rfl rfl) rfl (lv_at hl 2 rfl) ?_
  refine lv_i2l (v := p2.toInt64) hx hb (dq_133 0 bcX8_isAllowed_0 (j := 4) rfl rfl) rfl ?_
  replace hF := bd1_s hF
  obtain ⟨r_1, hc_2, hF⟩ := hF
  have hPc : va_P E.1 vwCl (w_X8_valueOf E a_ a_tape a_readPlace a_script a_scriptLong a_now a_refused a_shareX a_shareY a_askedRow a_kept a_aside a_spelled a_image c_thrown c_taped c_at c_part c_partFrom c_partNumber c_wrong c_partWord c_readLaw c_readBound c_readGoal c_readSites c_scripts c_sites c_asked c_outcome c_took c_acts c_drawn c_racer c_raced c_spelledMany c_hasImage c_now) s.heap := hP.sub (ws' := [k_X8 a_ c_thrown a_tape c_taped c_at c_part c_partFrom c_partNumber c_wrong c_partWord c_readLaw c_readBound c_readGoal c_readSites a_readPlace a_script a_scriptLong c_scripts a_now a_refused c_sites a_shareX a_shareY c_asked c_outcome a_askedRow c_took a_kept c_acts c_drawn a_aside c_racer c_raced a_spelled c_spelledMany a_image c_hasImage, k_I E a_now 265 c_now]) [0, 1] rfl
  have hrc := va_recv hK hPc (ci := 9) (q0 := 0) rfl rfl
  refine pE_l (va_runV (As := [.long p1.toInt64, .long p2.toInt64]) (rest := [])  ⟨hx, hb, hml, hown, hts⟩ (f_X8_valueOf l E (a_ := a_) (a_tape := a_tape) (a_readPlace := a_readPlace) (a_script := a_script) (a_scriptLong := a_scriptLong) (a_now := a_now) (a_refused := a_refused) (a_shareX := a_shareX) (a_shareY := a_shareY) (a_askedRow := a_askedRow) (a_kept := a_kept) (a_aside := a_aside) (a_spelled := a_spelled) (a_image := a_image) (p1 := p1.toInt64) (p2 := p2.toInt64) (c_thrown := c_thrown) (c_taped := c_taped) (c_at := c_at) (c_part := c_part) (c_partFrom := c_partFrom) (c_partNumber := c_partNumber) (c_wrong := c_wrong) (c_partWord := c_partWord) (c_readLaw := c_readLaw) (c_readBound := c_readBound) (c_readGoal := c_readGoal) (c_readSites := c_readSites) (c_scripts := c_scripts) (c_sites := c_sites) (c_asked := c_asked) (c_outcome := c_outcome) (c_took := c_took) (c_acts := c_acts) (c_drawn := c_drawn) (c_racer := c_racer) (c_raced := c_raced) (c_spelledMany := c_spelledMany) (c_hasImage := c_hasImage) (c_now := c_now) hc_2) (cwV 2 hts g_f_X8_isAllowed_f_X8_valueOf_218 rfl rfl rfl hd_X8_valueOf ⟨Nat.le_of_ble_eq_true rfl, Nat.le_of_ble_eq_true rfl⟩) ⟨pP.blind, hrc, (pP.pre ⟨hK, hN⟩ hPc)⟩ rfl rfl hl.1 rfl (lv_room (Nat.le_of_ble_eq_true rfl)) (dq_182 0 bcX8_isAllowed_0 (j := 5) (i := 218) rfl rfl rfl) ⟨Nat.le_of_ble_eq_true rfl, Nat.le_of_ble_eq_true rfl⟩) ?_
  refine lv_aload_n hx hb (dq_42 0 bcX8_isAllowed_0 (j := 8) rfl rfl) rfl (lv_at hl 0 rfl) ?_
  refine gt_X8_17 (v := .ref a_now) hx hb hts i_f_X8_isAllowed_X8 hown hK hP 0 rfl (hts (.fieldLink RX8 22 "HushWatchModel" "now" "[I") (List.mem_of_getElem? (i := 1) rfl)) rfl (dq_180 0 bcX8_isAllowed_0 (j := 9) (i := 22) rfl rfl rfl) ?_
  refine lv_bipush (v := 65) hx hb (dq_16 0 bcX8_isAllowed_0 (j := 12) (i := 65) rfl rfl rfl) (by decide) ?_
  refine va_iald hx hb hK hP 1 0 rfl rfl (vin rfl) (dq_46 0 bcX8_isAllowed_0 (j := 14) rfl rfl) ?_
  refine W.eq (g2 := F0 m 15 ls [.int (c_now 65), .long r_1]) rfl ?_
  refine lv_i2l (v := (c_now 65).toInt64) hx hb (dq_133 0 bcX8_isAllowed_0 (j := 15) rfl rfl) rfl ?_
  refine W.lcmp hx hb (dq_148 0 bcX8_isAllowed_0 (j := 16) rfl rfl) ?_
  refine lv_if_ge (tgt := 24) hx hb (dq_156 0 bcX8_isAllowed_0 (j := 17) (i := 7) rfl rfl rfl) (by decide) (fun c_3 => ?_) (fun c_3 => ?_)
  ·
    replace hF := ip c_3 hF
    refine lv_iconst (v := 0) hx hb (dq_3 0 bcX8_isAllowed_0 (j := 24) rfl rfl) (by decide) ?_
    rw [hQ]
    obtain e9_0 := inj1 hF
    exact W.zret (v := (0 : Int32)) hx hb hr rfl (fun tt ht hW => ⟨_, rfl, ⟨e9_0, Or.inl rfl⟩, ht⟩) (fun _ h => by cases h) (dq_172 0 bcX8_isAllowed_0 (j := 25) rfl rfl)
  ·
    replace hF := inn c_3 hF
    refine lv_iconst (v := 1) hx hb (dq_4 0 bcX8_isAllowed_0 (j := 20) rfl rfl) (by decide) ?_
    refine lv_goto (tgt := 25) hx hb (dq_167 0 bcX8_isAllowed_0 (j := 21) (i := 4) rfl rfl rfl) (by decide) ?_
    rw [hQ]
    obtain e9_0 := inj1 hF
    exact W.zret (v := (1 : Int32)) hx hb hr rfl (fun tt ht hW => ⟨_, rfl, ⟨e9_0, Or.inr rfl⟩, ht⟩) (fun _ h => by cases h) (dq_172 0 bcX8_isAllowed_0 (j := 25) rfl rfl)
