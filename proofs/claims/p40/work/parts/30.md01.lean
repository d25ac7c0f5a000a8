noncomputable def blX8_isQuietBy_0 : List Nat := [42, 180, 0, 22, 16, 72, 46, 4, 160, 0, 19, 27, 154, 0, 11, 28, 154, 0, 7, 4, 167, 0, 21, 3, 167, 0, 17, 42, 42, 27, 182, 0, 222, 42, 28, 182, 0, 225, 182, 0, 202, 172]
set_option maxRecDepth 100000 in
theorem bcX8_isQuietBy_0 : ((cX8_isQuietBy.data.toList.drop 0).take blX8_isQuietBy_0.length).map UInt8.toNat = blX8_isQuietBy_0 := by decide +kernel
noncomputable def blX8_isQuiet_0 : List Nat := [42, 42, 27, 182, 0, 228, 42, 27, 182, 0, 231, 182, 0, 234, 172]
set_option maxRecDepth 100000 in
theorem bcX8_isQuiet_0 : ((cX8_isQuiet.data.toList.drop 0).take blX8_isQuiet_0.length).map UInt8.toNat = blX8_isQuiet_0 := by decide +kernel
noncomputable def blX8_isFrozen_0 : List Nat := [42, 180, 0, 22, 16, 76, 27, 96, 46, 4, 160, 0, 7, 4, 167, 0, 4, 3, 172]
set_option maxRecDepth 100000 in
theorem bcX8_isFrozen_0 : ((cX8_isFrozen.data.toList.drop 0).take blX8_isFrozen_0.length).map UInt8.toNat = blX8_isFrozen_0 := by decide +kernel
noncomputable def blX8_bits_0 : List Nat := [3, 60, 3, 61, 28, 16, 8, 162, 0, 17, 27, 26, 28, 122, 4, 126, 96, 60, 132, 2, 1, 167, 255, 239, 27, 172]
set_option maxRecDepth 100000 in
theorem bcX8_bits_0 : ((cX8_bits.data.toList.drop 0).take blX8_bits_0.length).map UInt8.toNat = blX8_bits_0 := by decide +kernel
noncomputable def blX8_has_0 : List Nat := [26, 27, 122, 4, 126, 4, 160, 0, 7, 4, 167, 0, 4, 3, 172]
set_option maxRecDepth 100000 in
theorem bcX8_has_0 : ((cX8_has.data.toList.drop 0).take blX8_has_0.length).map UInt8.toNat = blX8_has_0 := by decide +kernel

def F_X8_isQuietBy (K : Nat) (p1 : Int32) (p2 : Int32) (c_now : Nat → Int32) (c_sites : Int32) : Option (Int32) :=
  if c_now 72 = (1 : Int32) then if p1 = (0 : Int32) then if p2 = (0 : Int32) then some (1 : Int32) else some (0 : Int32) else some (0 : Int32) else bd1 (F_X8_pointX K p1 c_now c_sites) (fun r_2 => bd1 (F_X8_pointY K p2 c_now c_sites) (fun r_4 => bd1 (F_X8_isAllowed r_2 r_4 c_now) (fun r_6 => some r_6)))
abbrev w_X8_isQuietBy (E : EE) (a_ a_tape a_readPlace a_script a_scriptLong a_now a_refused a_shareX a_shareY a_askedRow a_kept a_aside a_spelled a_image : Nat) (c_thrown : Int32) (c_taped : Int32) (c_at : Int32) (c_part : Int32) (c_partFrom : Int32) (c_partNumber : Int32) (c_wrong : Int32) (c_partWord : Int64) (c_readLaw : Int32) (c_readBound : Int32) (c_readGoal : Int32) (c_readSites : Int32) (c_scripts : Int32) (c_sites : Int32) (c_asked : Int32) (c_outcome : Int32) (c_took : Int32) (c_acts : Int32) (c_drawn : Int64) (c_racer : Int32) (c_raced : Int32) (c_spelledMany : Int32) (c_hasImage : Int32) (c_now : Nat → Int32) : va_W := [k_X8 a_ c_thrown a_tape c_taped c_at c_part c_partFrom c_partNumber c_wrong c_partWord c_readLaw c_readBound c_readGoal c_readSites a_readPlace a_script a_scriptLong c_scripts a_now a_refused c_sites a_shareX a_shareY c_asked c_outcome a_askedRow c_took a_kept c_acts c_drawn a_aside c_racer c_raced a_spelled c_spelledMany a_image c_hasImage, k_I E a_now 265 c_now]
def v_f_X8_isQuietBy : List Cond := List.cons (.code yX8_isQuietBy cX8_isQuietBy 3 (some .boolean)) (HAppend.hAppend (α := List Cond) (β := List Cond) (γ := List Cond) [.fieldLink RX8 22 "HushWatchModel" "now" "[I", .methodLink RX8 222 yX8_pointX, .instanceMethod yX8_pointX, .selects RX8 yX8_pointX yX8_pointX, .initialized RX8, .methodLink RX8 225 yX8_pointY, .instanceMethod yX8_pointY, .selects RX8 yX8_pointY yX8_pointY, .methodLink RX8 202 yX8_isAllowed, .instanceMethod yX8_isAllowed, .selects RX8 yX8_isAllowed yX8_isAllowed] (HAppend.hAppend (α := List Cond) (β := List Cond) (γ := List Cond) wsX80 (HAppend.hAppend (α := List Cond) (β := List Cond) (γ := List Cond) v_f_X8_pointX (HAppend.hAppend (α := List Cond) (β := List Cond) (γ := List Cond) v_f_X8_pointY (HAppend.hAppend (α := List Cond) (β := List Cond) (γ := List Cond) v_f_X8_isAllowed [])))))
theorem gw_f_X8_isQuietBy : v_f_X8_isQuietBy.all goodWord = true := gw_c2 (by decide +kernel) (gw_ap gw_wsX80 (gw_ap gw_f_X8_pointX (gw_ap gw_f_X8_pointY (gw_ap gw_f_X8_isAllowed gw_nil))))
theorem i_f_X8_isQuietBy_X8 : ∀ w ∈ wsX80, w ∈ v_f_X8_isQuietBy := fun _ h => List.mem_cons_of_mem _ (List.mem_append_right _ (List.mem_append_left _ h))
theorem g_f_X8_isQuietBy_f_X8_pointX_222 : GoodIn v_f_X8_isQuietBy (wsV RX8 222 RX8 yX8_pointX v_f_X8_pointX) := goodIn_in gw_f_X8_isQuietBy (in4 2 3 4 5 rfl rfl rfl rfl (fun _ h => List.mem_cons_of_mem _ (List.mem_append_right _ (List.mem_append_right _ (List.mem_append_left _ h)))))
theorem g_f_X8_isQuietBy_f_X8_pointY_225 : GoodIn v_f_X8_isQuietBy (wsV RX8 225 RX8 yX8_pointY v_f_X8_pointY) := goodIn_in gw_f_X8_isQuietBy (in4 6 7 8 5 rfl rfl rfl rfl (fun _ h => List.mem_cons_of_mem _ (List.mem_append_right _ (List.mem_append_right _ (List.mem_append_right _ (List.mem_append_left _ h))))))
theorem g_f_X8_isQuietBy_f_X8_isAllowed_202 : GoodIn v_f_X8_isQuietBy (wsV RX8 202 RX8 yX8_isAllowed v_f_X8_isAllowed) := goodIn_in gw_f_X8_isQuietBy (in4 9 10 11 5 rfl rfl rfl rfl (fun _ h => List.mem_cons_of_mem _ (List.mem_append_right _ (List.mem_append_right _ (List.mem_append_right _ (List.mem_append_right _ (List.mem_append_left _ h)))))))
theorem hd_X8_isQuietBy : yX8_isQuietBy.cls = RX8 ∧ yX8_isQuietBy.cls ≠ "java/lang/invoke/MethodHandle" ∧ yX8_isQuietBy.cls ≠ "java/lang/invoke/VarHandle" ∧ (parseMethodDescriptor yX8_isQuietBy.desc).map (fun d => d.parameters.length) = some 2 := by decide +kernel
set_option maxHeartbeats 4000000 in
set_option maxRecDepth 100000 in
theorem f_X8_isQuietBy (l : Launch) (E : EE) (K : Nat) {a_ a_tape a_readPlace a_script a_scriptLong a_now a_refused a_shareX a_shareY a_askedRow a_kept a_aside a_spelled a_image : Nat} {p1 : Int32} {p2 : Int32} {c_thrown : Int32} {c_taped : Int32} {c_at : Int32} {c_part : Int32} {c_partFrom : Int32} {c_partNumber : Int32} {c_wrong : Int32} {c_partWord : Int64} {c_readLaw : Int32} {c_readBound : Int32} {c_readGoal : Int32} {c_readSites : Int32} {c_scripts : Int32} {c_sites : Int32} {c_asked : Int32} {c_outcome : Int32} {c_took : Int32} {c_acts : Int32} {c_drawn : Int64} {c_racer : Int32} {c_raced : Int32} {c_spelledMany : Int32} {c_hasImage : Int32} {c_now : Nat → Int32} {rr : Int32} (hF : F_X8_isQuietBy K p1 p2 c_now c_sites = some rr) : Met l yX8_isQuietBy v_f_X8_isQuietBy (({ frames := 2, cells := 0, slots := 0, locals := 50 } : Room)) (va_Pc [.ref a_, .int p1, .int p2] (pP E (w_X8_isQuietBy E a_ a_tape a_readPlace a_script a_scriptLong a_now a_refused a_shareX a_shareY a_askedRow a_kept a_aside a_spelled a_image c_thrown c_taped c_at c_part c_partFrom c_partNumber c_wrong c_partWord c_readLaw c_readBound c_readGoal c_readSites c_scripts c_sites c_asked c_outcome c_took c_acts c_drawn c_racer c_raced c_spelledMany c_hasImage c_now))) (vp_Si (fun q : Int32 => q = rr ∧ (q = 0 ∨ q = 1))) 0 0 (fun _ => False) := by
  refine Met.ofW (cc := cX8_isQuietBy) (maxL := 3) (ret := (some .boolean)) (by decide) rfl ?_
  intro p e s m args below meth c s₁ B hml hv
  obtain ⟨rfl, ⟨hK, hN⟩, hP⟩ := hv
  have hx := B.exec
  have hb := B.bytes
  have hr := B.returns
  have hts := atoms_spec (ws := v_f_X8_isQuietBy) B.pre
  have hown : s.vm.findClass RX8 = some m.cls := own_of hd_X8_isQuietBy.1 (findClass_of_methodNamed B.named)
  have hlocks : meth.locks = false := B.notSynchronized
  replace hP : va_P E.1 vwCl [k_X8 a_ c_thrown a_tape c_taped c_at c_part c_partFrom c_partNumber c_wrong c_partWord c_readLaw c_readBound c_readGoal c_readSites a_readPlace a_script a_scriptLong c_scripts a_now a_refused c_sites a_shareX a_shareY c_asked c_outcome a_askedRow c_took a_kept c_acts c_drawn a_aside c_racer c_raced a_spelled c_spelledMany a_image c_hasImage, k_I E a_now 265 c_now] s.heap := hP
  have hl := lv_entry ([.ref a_, .int p1, .int p2]) (n := 3) (Nat.le_of_ble_eq_true rfl)
  rw [lg_entry_eq]
  generalize (lg_sl ([.ref a_, .int p1, .int p2]) ++ List.replicate (3 - (lg_sl ([.ref a_, .int p1, .int p2])).length) Slot.unset).toArray = ls at hl ⊢
  have hl : lv_has ls 3 [(0, .ref a_), (1, .int p1), (2, .int p2)] := hl
  obtain ⟨Q, hQ⟩ : ∃ Q : State → Prop, Q = MQ below (vp_Si (fun q : Int32 => q = rr ∧ (q = 0 ∨ q = 1))) #[Value.ref a_, Value.int p1, Value.int p2] s 0 0 (fun _ => False) := ⟨_, rfl⟩
  rw [← hQ]
  change W p l e ({ frames := 2, cells := 0, slots := 0, locals := 50 } : Room) s m #[Value.ref a_, Value.int p1, Value.int p2] below meth c s.heap [] 0 0 Q (F0 m 0 ls [])
  unfold F_X8_isQuietBy at hF
  refine lv_aload_n hx hb (dq_42 0 bcX8_isQuietBy_0 (j := 0) rfl rfl) rfl (lv_at hl 0 rfl) ?_
  refine gt_X8_17 (v := .ref a_now) hx hb hts i_f_X8_isQuietBy_X8 hown hK hP 0 rfl (hts (.fieldLink RX8 22 "HushWatchModel" "now" "[I") (List.mem_of_getElem? (i := 1) rfl)) rfl (dq_180 0 bcX8_isQuietBy_0 (j := 1) (i := 22) rfl rfl rfl) ?_
  refine lv_bipush (v := 72) hx hb (dq_16 0 bcX8_isQuietBy_0 (j := 4) (i := 72) rfl rfl rfl) (by decide) ?_
  refine va_iald hx hb hK hP 1 0 rfl rfl (vin rfl) (dq_46 0 bcX8_isQuietBy_0 (j := 6) rfl rfl) ?_
  refine W.eq (g2 := F0 m 7 ls [.int (c_now 72)]) rfl ?_
  refine lv_iconst (v := 1) hx hb (dq_4 0 bcX8_isQuietBy_0 (j := 7) rfl rfl) (by decide) ?_
  refine lv_icmp_ne (tgt := 27) hx hb (dq_160 0 bcX8_isQuietBy_0 (j := 8) (i := 19) rfl rfl rfl) (by decide) (fun c_1 => ?_) (fun c_1 => ?_)
  ·
    replace hF := inn c_1 hF
    refine lv_aload_n hx hb (dq_42 0 bcX8_isQuietBy_0 (j := 27) rfl rfl) rfl (lv_at hl 0 rfl) ?_
    refine lv_aload_n hx hb (dq_42 0 bcX8_isQuietBy_0 (j := 28) rfl rfl) rfl (lv_at hl 0 rfl) ?_
    refine lv_iload_n hx hb (dq_27 0 bcX8_isQuietBy_0 (j := 29) rfl rfl) rfl (lv_at hl 1 rfl) ?_
    replace hF := bd1_s hF
    obtain ⟨r_2, hc_3, hF⟩ := hF
    have hPc : va_P E.1 vwCl (w_X8_pointX E a_ a_tape a_readPlace a_script a_scriptLong a_now a_refused a_shareX a_shareY a_askedRow a_kept a_aside a_spelled a_image c_thrown c_taped c_at c_part c_partFrom c_partNumber c_wrong c_partWord c_readLaw c_readBound c_readGoal c_readSites c_scripts c_sites c_asked c_outcome c_took c_acts c_drawn c_racer c_raced c_spelledMany c_hasImage c_now) s.heap := hP.sub (ws' := [k_X8 a_ c_thrown a_tape c_taped c_at c_part c_partFrom c_partNumber c_wrong c_partWord c_readLaw c_readBound c_readGoal c_readSites a_readPlace a_script a_scriptLong c_scripts a_now a_refused c_sites a_shareX a_shareY c_asked c_outcome a_askedRow c_took a_kept c_acts c_drawn a_aside c_racer c_raced a_spelled c_spelledMany a_image c_hasImage, k_I E a_now 265 c_now]) [0, 1] rfl
    have hrc := va_recv hK hPc (ci := 9) (q0 := 0) rfl rfl
    refine pE_i (va_runV (As := [.int p1]) (rest := [.ref a_])  ⟨hx, hb, hml, hown, hts⟩ (f_X8_pointX l E K (a_ := a_) (a_tape := a_tape) (a_readPlace := a_readPlace) (a_script := a_script) (a_scriptLong := a_scriptLong) (a_now := a_now) (a_refused := a_refused) (a_shareX := a_shareX) (a_shareY := a_shareY) (a_askedRow := a_askedRow) (a_kept := a_kept) (a_aside := a_aside) (a_spelled := a_spelled) (a_image := a_image) (p1 := p1) (c_thrown := c_thrown) (c_taped := c_taped) (c_at := c_at) (c_part := c_part) (c_partFrom := c_partFrom) (c_partNumber := c_partNumber) (c_wrong := c_wrong) (c_partWord := c_partWord) (c_readLaw := c_readLaw) (c_readBound := c_readBound) (c_readGoal := c_readGoal) (c_readSites := c_readSites) (c_scripts := c_scripts) (c_sites := c_sites) (c_asked := c_asked) (c_outcome := c_outcome) (c_took := c_took) (c_acts := c_acts) (c_drawn := c_drawn) (c_racer := c_racer) (c_raced := c_raced) (c_spelledMany := c_spelledMany) (c_hasImage := c_hasImage) (c_now := c_now) hc_3) (cwV 1 hts g_f_X8_isQuietBy_f_X8_pointX_222 rfl rfl rfl hd_X8_pointX ⟨Nat.le_of_ble_eq_true rfl, Nat.le_of_ble_eq_true rfl⟩) ⟨pP.blind, hrc, (pP.pre ⟨hK, hN⟩ hPc)⟩ rfl rfl hl.1 rfl (lv_room (Nat.le_of_ble_eq_true rfl)) (dq_182 0 bcX8_isQuietBy_0 (j := 30) (i := 222) rfl rfl rfl) ⟨Nat.le_of_ble_eq_true rfl, Nat.le_of_ble_eq_true rfl⟩) ?_
    refine lv_aload_n hx hb (dq_42 0 bcX8_isQuietBy_0 (j := 33) rfl rfl) rfl (lv_at hl 0 rfl) ?_
    refine lv_iload_n hx hb (dq_28 0 bcX8_isQuietBy_0 (j := 34) rfl rfl) rfl (lv_at hl 2 rfl) ?_
    replace hF := bd1_s hF
    obtain ⟨r_4, hc_5, hF⟩ := hF
    have hPc : va_P E.1 vwCl (w_X8_pointY E a_ a_tape a_readPlace a_script a_scriptLong a_now a_refused a_shareX a_shareY a_askedRow a_kept a_aside a_spelled a_image c_thrown c_taped c_at c_part c_partFrom c_partNumber c_wrong c_partWord c_readLaw c_readBound c_readGoal c_readSites c_scripts c_sites c_asked c_outcome c_took c_acts c_drawn c_racer c_raced c_spelledMany c_hasImage c_now) s.heap := hP.sub (ws' := [k_X8 a_ c_thrown a_tape c_taped c_at c_part c_partFrom c_partNumber c_wrong c_partWord c_readLaw c_readBound c_readGoal c_readSites a_readPlace a_script a_scriptLong c_scripts a_now a_refused c_sites a_shareX a_shareY c_asked c_outcome a_askedRow c_took a_kept c_acts c_drawn a_aside c_racer c_raced a_spelled c_spelledMany a_image c_hasImage, k_I E a_now 265 c_now]) [0, 1] rfl
    have hrc := va_recv hK hPc (ci := 9) (q0 := 0) rfl rfl
    refine pE_i (va_runV (As := [.int p2]) (rest := [.int r_2, .ref a_])  ⟨hx, hb, hml, hown, hts⟩ (f_X8_pointY l E K (a_ := a_) (a_tape := a_tape) (a_readPlace := a_readPlace) (a_script := a_script) (a_scriptLong := a_scriptLong) (a_now := a_now) (a_refused := a_refused) (a_shareX := a_shareX) (a_shareY := a_shareY) (a_askedRow := a_askedRow) (a_kept := a_kept) (a_aside := a_aside) (a_spelled := a_spelled) (a_image := a_image) (p1 := p2) (c_thrown := c_thrown) (c_taped := c_taped) (c_at := c_at) (c_part := c_part) (c_partFrom := c_partFrom) (c_partNumber := c_partNumber) (c_wrong := c_wrong) (c_partWord := c_partWord) (c_readLaw := c_readLaw) (c_readBound := c_readBound) (c_readGoal := c_readGoal) (c_readSites := c_readSites) (c_scripts := c_scripts) (c_sites := c_sites) (c_asked := c_asked) (c_outcome := c_outcome) (c_took := c_took) (c_acts := c_acts) (c_drawn := c_drawn) (c_racer := c_racer) (c_raced := c_raced) (c_spelledMany := c_spelledMany) (c_hasImage := c_hasImage) (c_now := c_now) hc_5) (cwV 1 hts g_f_X8_isQuietBy_f_X8_pointY_225 rfl rfl rfl hd_X8_pointY ⟨Nat.le_of_ble_eq_true rfl, Nat.le_of_ble_eq_true rfl⟩) ⟨pP.blind, hrc, (pP.pre ⟨hK, hN⟩ hPc)⟩ rfl rfl hl.1 rfl (lv_room (Nat.le_of_ble_eq_true rfl)) (dq_182 0 bcX8_isQuietBy_0 (j := 35) (i := 225) rfl rfl rfl) ⟨Nat.le_of_ble_eq_true rfl, Nat.le_of_ble_eq_true rfl⟩) ?_
    replace hF := bd1_s hF
    obtain ⟨r_6, hc_7, hF⟩ := hF
    have hPc : va_P E.1 vwCl (w_X8_isAllowed E a_ a_tape a_readPlace a_script a_scriptLong a_now a_refused a_shareX a_shareY a_askedRow a_kept a_aside a_spelled a_image c_thrown c_taped c_at c_part c_partFrom c_partNumber c_wrong c_partWord c_readLaw c_readBound c_readGoal c_readSites c_scripts c_sites c_asked c_outcome c_took c_acts c_drawn c_racer c_raced c_spelledMany c_hasImage c_now) s.heap := hP.sub (ws' := [k_X8 a_ c_thrown a_tape c_taped c_at c_part c_partFrom c_partNumber c_wrong c_partWord c_readLaw c_readBound c_readGoal c_readSites a_readPlace a_script a_scriptLong c_scripts a_now a_refused c_sites a_shareX a_shareY c_asked c_outcome a_askedRow c_took a_kept c_acts c_drawn a_aside c_racer c_raced a_spelled c_spelledMany a_image c_hasImage, k_I E a_now 265 c_now]) [0, 1] rfl
    have hrc := va_recv hK hPc (ci := 9) (q0 := 0) rfl rfl
    refine pE_z (va_runV (As := [.int r_2, .int r_4]) (rest := [])  ⟨hx, hb, hml, hown, hts⟩ (f_X8_isAllowed l E (a_ := a_) (a_tape := a_tape) (a_readPlace := a_readPlace) (a_script := a_script) (a_scriptLong := a_scriptLong) (a_now := a_now) (a_refused := a_refused) (a_shareX := a_shareX) (a_shareY := a_shareY) (a_askedRow := a_askedRow) (a_kept := a_kept) (a_aside := a_aside) (a_spelled := a_spelled) (a_image := a_image) (p1 := r_2) (p2 := r_4) (c_thrown := c_thrown) (c_taped := c_taped) (c_at := c_at) (c_part := c_part) (c_partFrom := c_partFrom) (c_partNumber := c_partNumber) (c_wrong := c_wrong) (c_partWord := c_partWord) (c_readLaw := c_readLaw) (c_readBound := c_readBound) (c_readGoal := c_readGoal) (c_readSites := c_readSites) (c_scripts := c_scripts) (c_sites := c_sites) (c_asked := c_asked) (c_outcome := c_outcome) (c_took := c_took) (c_acts := c_acts) (c_drawn := c_drawn) (c_racer := c_racer) (c_raced := c_raced) (c_spelledMany := c_spelledMany) (c_hasImage := c_hasImage) (c_now := c_now) hc_7) (cwV 2 hts g_f_X8_isQuietBy_f_X8_isAllowed_202 rfl rfl rfl hd_X8_isAllowed ⟨Nat.le_of_ble_eq_true rfl, Nat.le_of_ble_eq_true rfl⟩) ⟨pP.blind, hrc, (pP.pre ⟨hK, hN⟩ hPc)⟩ rfl rfl hl.1 rfl (lv_room (Nat.le_of_ble_eq_true rfl)) (dq_182 0 bcX8_isQuietBy_0 (j := 38) (i := 202) rfl rfl rfl) ⟨Nat.le_of_ble_eq_true rfl, Nat.le_of_ble_eq_true rfl⟩) (fun hb_8 => ?_)
    rw [hQ]
    obtain e9_0 := inj1 hF
    exact W.zret (v := r_6) hx hb hr (nar_bool hb_8) (fun tt ht hW => ⟨_, rfl, ⟨e9_0, hb_8⟩, ht⟩) (fun _ h => by cases h) (dq_172 0 bcX8_isQuietBy_0 (j := 41) rfl rfl)
  ·
    replace hF := ip c_1 hF
    refine lv_iload_n hx hb (dq_27 0 bcX8_isQuietBy_0 (j := 11) rfl rfl) rfl (lv_at hl 1 rfl) ?_
    refine lv_if_ne (tgt := 23) hx hb (dq_154 0 bcX8_isQuietBy_0 (j := 12) (i := 11) rfl rfl rfl) (by decide) (fun c_9 => ?_) (fun c_9 => ?_)
    ·
      replace hF := inn c_9 hF
      refine lv_iconst (v := 0) hx hb (dq_3 0 bcX8_isQuietBy_0 (j := 23) rfl rfl) (by decide) ?_
      refine lv_goto (tgt := 41) hx hb (dq_167 0 bcX8_isQuietBy_0 (j := 24) (i := 17) rfl rfl rfl) (by decide) ?_
      rw [hQ]
      obtain e9_0 := inj1 hF
      exact W.zret (v := (0 : Int32)) hx hb hr rfl (fun tt ht hW => ⟨_, rfl, ⟨e9_0, Or.inl rfl⟩, ht⟩) (fun _ h => by cases h) (dq_172 0 bcX8_isQuietBy_0 (j := 41) rfl rfl)
    ·
      replace hF := ip c_9 hF
      refine lv_iload_n hx hb (dq_28 0 bcX8_isQuietBy_0 (j := 15) rfl rfl) rfl (lv_at hl 2 rfl) ?_
      refine lv_if_ne (tgt := 23) hx hb (dq_154 0 bcX8_isQuietBy_0 (j := 16) (i := 7) rfl rfl rfl) (by decide) (fun c_10 => ?_) (fun c_10 => ?_)
      ·
        replace hF := inn c_10 hF
        refine lv_iconst (v := 0) hx hb (dq_3 0 bcX8_isQuietBy_0 (j := 23) rfl rfl) (by decide) ?_
        refine lv_goto (tgt := 41) hx hb (dq_167 0 bcX8_isQuietBy_0 (j := 24) (i := 17) rfl rfl rfl) (by decide) ?_
        rw [hQ]
        obtain e9_0 := inj1 hF
        exact W.zret (v := (0 : Int32)) hx hb hr rfl (fun tt ht hW => ⟨_, rfl, ⟨e9_0, Or.inl rfl⟩, ht⟩) (fun _ h => by cases h) (dq_172 0 bcX8_isQuietBy_0 (j := 41) rfl rfl)
      ·
        replace hF := ip c_10 hF
        refine lv_iconst (v := 1) hx hb (dq_4 0 bcX8_isQuietBy_0 (j := 19) rfl rfl) (by decide) ?_
        refine lv_goto (tgt := 41) hx hb (dq_167 0 bcX8_isQuietBy_0 (j := 20) (i := 21) rfl rfl rfl) (by decide) ?_
        rw [hQ]
        obtain e9_0 := inj1 hF
        exact W.zret (v := (1 : Int32)) hx hb hr rfl (fun tt ht hW => ⟨_, rfl, ⟨e9_0, Or.inr rfl⟩, ht⟩) (fun _ h => by cases h) (dq_172 0 bcX8_isQuietBy_0 (j := 41) rfl rfl)

def F_X8_isQuiet (K : Nat) (p1 : Int32) (c_now : Nat → Int32) (c_sites : Int32) : Option (Int32) :=
  bd1 (F_X8_driftX p1 c_now) (fun r_1 => bd1 (F_X8_driftY p1 c_now) (fun r_3 => bd1 (F_X8_isQuietBy K r_1 r_3 c_now c_sites) (fun r_5 => some r_5)))
abbrev w_X8_isQuiet (E : EE) (a_ a_tape a_readPlace a_script a_scriptLong a_now a_refused a_shareX a_shareY a_askedRow a_kept a_aside a_spelled a_image : Nat) (c_thrown : Int32) (c_taped : Int32) (c_at : Int32) (c_part : Int32) (c_partFrom : Int32) (c_partNumber : Int32) (c_wrong : Int32) (c_partWord : Int64) (c_readLaw : Int32) (c_readBound : Int32) (c_readGoal : Int32) (c_readSites : Int32) (c_scripts : Int32) (c_sites : Int32) (c_asked : Int32) (c_outcome : Int32) (c_took : Int32) (c_acts : Int32) (c_drawn : Int64) (c_racer : Int32) (c_raced : Int32) (c_spelledMany : Int32) (c_hasImage : Int32) (c_now : Nat → Int32) : va_W := [k_X8 a_ c_thrown a_tape c_taped c_at c_part c_partFrom c_partNumber c_wrong c_partWord c_readLaw c_readBound c_readGoal c_readSites a_readPlace a_script a_scriptLong c_scripts a_now a_refused c_sites a_shareX a_shareY c_asked c_outcome a_askedRow c_took a_kept c_acts c_drawn a_aside c_racer c_raced a_spelled c_spelledMany a_image c_hasImage, k_I E a_now 265 c_now]
def v_f_X8_isQuiet : List Cond := List.cons (.code yX8_isQuiet cX8_isQuiet 2 (some .boolean)) (HAppend.hAppend (α := List Cond) (β := List Cond) (γ := List Cond) [.methodLink RX8 228 yX8_driftX, .instanceMethod yX8_driftX, .selects RX8 yX8_driftX yX8_driftX, .initialized RX8, .methodLink RX8 231 yX8_driftY, .instanceMethod yX8_driftY, .selects RX8 yX8_driftY yX8_driftY, .methodLink RX8 234 yX8_isQuietBy, .instanceMethod yX8_isQuietBy, .selects RX8 yX8_isQuietBy yX8_isQuietBy] (HAppend.hAppend (α := List Cond) (β := List Cond) (γ := List Cond) v_f_X8_driftX (HAppend.hAppend (α := List Cond) (β := List Cond) (γ := List Cond) v_f_X8_driftY (HAppend.hAppend (α := List Cond) (β := List Cond) (γ := List Cond) v_f_X8_isQuietBy []))))
theorem gw_f_X8_isQuiet : v_f_X8_isQuiet.all goodWord = true := gw_c2 (by decide +kernel) (gw_ap gw_f_X8_driftX (gw_ap gw_f_X8_driftY (gw_ap gw_f_X8_isQuietBy gw_nil)))
theorem g_f_X8_isQuiet_f_X8_driftX_228 : GoodIn v_f_X8_isQuiet (wsV RX8 228 RX8 yX8_driftX v_f_X8_driftX) := goodIn_in gw_f_X8_isQuiet (in4 1 2 3 4 rfl rfl rfl rfl (fun _ h => List.mem_cons_of_mem _ (List.mem_append_right _ (List.mem_append_left _ h))))
theorem g_f_X8_isQuiet_f_X8_driftY_231 : GoodIn v_f_X8_isQuiet (wsV RX8 231 RX8 yX8_driftY v_f_X8_driftY) := goodIn_in gw_f_X8_isQuiet (in4 5 6 7 4 rfl rfl rfl rfl (fun _ h => List.mem_cons_of_mem _ (List.mem_append_right _ (List.mem_append_right _ (List.mem_append_left _ h)))))
theorem g_f_X8_isQuiet_f_X8_isQuietBy_234 : GoodIn v_f_X8_isQuiet (wsV RX8 234 RX8 yX8_isQuietBy v_f_X8_isQuietBy) := goodIn_in gw_f_X8_isQuiet (in4 8 9 10 4 rfl rfl rfl rfl (fun _ h => List.mem_cons_of_mem _ (List.mem_append_right _ (List.mem_append_right _ (List.mem_append_right _ (List.mem_append_left _ h))))))
theorem hd_X8_isQuiet : yX8_isQuiet.cls = RX8 ∧ yX8_isQuiet.cls ≠ "java/lang/invoke/MethodHandle" ∧ yX8_isQuiet.cls ≠ "java/lang/invoke/VarHandle" ∧ (parseMethodDescriptor yX8_isQuiet.desc).map (fun d => d.parameters.length) = some 1 := by decide +kernel
set_option maxHeartbeats 4000000 in
set_option maxRecDepth 100000 in
theorem f_X8_isQuiet (l : Launch) (E : EE) (K : Nat) {a_ a_tape a_readPlace a_script a_scriptLong a_now a_refused a_shareX a_shareY a_askedRow a_kept a_aside a_spelled a_image : Nat} {p1 : Int32} {c_thrown : Int32} {c_taped : Int32} {c_at : Int32} {c_part : Int32} {c_partFrom : Int32} {c_partNumber : Int32} {c_wrong : Int32} {c_partWord : Int64} {c_readLaw : Int32} {c_readBound : Int32} {c_readGoal : Int32} {c_readSites : Int32} {c_scripts : Int32} {c_sites : Int32} {c_asked : Int32} {c_outcome : Int32} {c_took : Int32} {c_acts : Int32} {c_drawn : Int64} {c_racer : Int32} {c_raced : Int32} {c_spelledMany : Int32} {c_hasImage : Int32} {c_now : Nat → Int32} {rr : Int32} (hF : F_X8_isQuiet K p1 c_now c_sites = some rr) : Met l yX8_isQuiet v_f_X8_isQuiet (({ frames := 3, cells := 0, slots := 0, locals := 72 } : Room)) (va_Pc [.ref a_, .int p1] (pP E (w_X8_isQuiet E a_ a_tape a_readPlace a_script a_scriptLong a_now a_refused a_shareX a_shareY a_askedRow a_kept a_aside a_spelled a_image c_thrown c_taped c_at c_part c_partFrom c_partNumber c_wrong c_partWord c_readLaw c_readBound c_readGoal c_readSites c_scripts c_sites c_asked c_outcome c_took c_acts c_drawn c_racer c_raced c_spelledMany c_hasImage c_now))) (vp_Si (fun q : Int32 => q = rr ∧ (q = 0 ∨ q = 1))) 0 0 (fun _ => False) := by
  refine Met.ofW (cc := cX8_isQuiet) (maxL := 2) (ret := (some .boolean)) (by decide) rfl ?_
  intro p e s m args below meth c s₁ B hml hv
  obtain ⟨rfl, ⟨hK, hN⟩, hP⟩ := hv
  have hx := B.exec
  have hb := B.bytes
  have hr := B.returns
  have hts := atoms_spec (ws := v_f_X8_isQuiet) B.pre
  have hown : s.vm.findClass RX8 = some m.cls := own_of hd_X8_isQuiet.1 (findClass_of_methodNamed B.named)
  have hlocks : meth.locks = false := B.notSynchronized
  replace hP : va_P E.1 vwCl [k_X8 a_ c_thrown a_tape c_taped c_at c_part c_partFrom c_partNumber c_wrong c_partWord c_readLaw c_readBound c_readGoal c_readSites a_readPlace a_script a_scriptLong c_scripts a_now a_refused c_sites a_shareX a_shareY c_asked c_outcome a_askedRow c_took a_kept c_acts c_drawn a_aside c_racer c_raced a_spelled c_spelledMany a_image c_hasImage, k_I E a_now 265 c_now] s.heap := hP
  have hl := lv_entry ([.ref a_, .int p1]) (n := 2) (Nat.le_of_ble_eq_true rfl)
  rw [lg_entry_eq]
  generalize (lg_sl ([.ref a_, .int p1]) ++ List.replicate (2 - (lg_sl ([.ref a_, .int p1])).length) Slot.unset).toArray = ls at hl ⊢
  have hl : lv_has ls 2 [(0, .ref a_), (1, .int p1)] := hl
  obtain ⟨Q, hQ⟩ : ∃ Q : State → Prop, Q = MQ below (vp_Si (fun q : Int32 => q = rr ∧ (q = 0 ∨ q = 1))) #[Value.ref a_, Value.int p1] s 0 0 (fun _ => False) := ⟨_, rfl⟩
  rw [← hQ]
  change W p l e ({ frames := 3, cells := 0, slots := 0, locals := 72 } : Room) s m #[Value.ref a_, Value.int p1] below meth c s.heap [] 0 0 Q (F0 m 0 ls [])
  unfold F_X8_isQuiet at hF
  refine lv_aload_n hx hb (dq_42 0 bcX8_isQuiet_0 (j := 0) rfl rfl) rfl (lv_at hl 0 rfl) ?_
  refine lv_aload_n hx hb (dq_42 0 bcX8_isQuiet_0 (j := 1) rfl rfl) rfl (lv_at hl 0 rfl) ?_
  refine lv_iload_n hx hb (dq_27 0 bcX8_isQuiet_0 (j := 2) rfl rfl) rfl (lv_at hl 1 rfl) ?_
  replace hF := bd1_s hF
  obtain ⟨r_1, hc_2, hF⟩ := hF
  have hPc : va_P E.1 vwCl (w_X8_driftX E a_ a_tape a_readPlace a_script a_scriptLong a_now a_refused a_shareX a_shareY a_askedRow a_kept a_aside a_spelled a_image c_thrown c_taped c_at c_part c_partFrom c_partNumber c_wrong c_partWord c_readLaw c_readBound c_readGoal c_readSites c_scripts c_sites c_asked c_outcome c_took c_acts c_drawn c_racer c_raced c_spelledMany c_hasImage c_now) s.heap := hP.sub (ws' := [k_X8 a_ c_thrown a_tape c_taped c_at c_part c_partFrom c_partNumber c_wrong c_partWord c_readLaw c_readBound c_readGoal c_readSites a_readPlace a_script a_scriptLong c_scripts a_now a_refused c_sites a_shareX a_shareY c_asked c_outcome a_askedRow c_took a_kept c_acts c_drawn a_aside c_racer c_raced a_spelled c_spelledMany a_image c_hasImage, k_I E a_now 265 c_now]) [0, 1] rfl
  have hrc := va_recv hK hPc (ci := 9) (q0 := 0) rfl rfl
  refine pE_i (va_runV (As := [.int p1]) (rest := [.ref a_])  ⟨hx, hb, hml, hown, hts⟩ (f_X8_driftX l E (a_ := a_) (a_tape := a_tape) (a_readPlace := a_readPlace) (a_script := a_script) (a_scriptLong := a_scriptLong) (a_now := a_now) (a_refused := a_refused) (a_shareX := a_shareX) (a_shareY := a_shareY) (a_askedRow := a_askedRow) (a_kept := a_kept) (a_aside := a_aside) (a_spelled := a_spelled) (a_image := a_image) (p1 := p1) (c_thrown := c_thrown) (c_taped := c_taped) (c_at := c_at) (c_part := c_part) (c_partFrom := c_partFrom) (c_partNumber := c_partNumber) (c_wrong := c_wrong) (c_partWord := c_partWord) (c_readLaw := c_readLaw) (c_readBound := c_readBound) (c_readGoal := c_readGoal) (c_readSites := c_readSites) (c_scripts := c_scripts) (c_sites := c_sites) (c_asked := c_asked) (c_outcome := c_outcome) (c_took := c_took) (c_acts := c_acts) (c_drawn := c_drawn) (c_racer := c_racer) (c_raced := c_raced) (c_spelledMany := c_spelledMany) (c_hasImage := c_hasImage) (c_now := c_now) hc_2) (cwV 1 hts g_f_X8_isQuiet_f_X8_driftX_228 rfl rfl rfl hd_X8_driftX ⟨Nat.le_of_ble_eq_true rfl, Nat.le_of_ble_eq_true rfl⟩) ⟨pP.blind, hrc, (pP.pre ⟨hK, hN⟩ hPc)⟩ rfl rfl hl.1 rfl (lv_room (Nat.le_of_ble_eq_true rfl)) (dq_182 0 bcX8_isQuiet_0 (j := 3) (i := 228) rfl rfl rfl) ⟨Nat.le_of_ble_eq_true rfl, Nat.le_of_ble_eq_true rfl⟩) ?_
  refine lv_aload_n hx hb (dq_42 0 bcX8_isQuiet_0 (j := 6) rfl rfl) rfl (lv_at hl 0 rfl) ?_
  refine lv_iload_n hx hb (dq_27 0 bcX8_isQuiet_0 (j := 7) rfl rfl) rfl (lv_at hl 1 rfl) ?_
  replace hF := bd1_s hF
  obtain ⟨r_3, hc_4, hF⟩ := hF
  have hPc : va_P E.1 vwCl (w_X8_driftY E a_ a_tape a_readPlace a_script a_scriptLong a_now a_refused a_shareX a_shareY a_askedRow a_kept a_aside a_spelled a_image c_thrown c_taped c_at c_part c_partFrom c_partNumber c_wrong c_partWord c_readLaw c_readBound c_readGoal c_readSites c_scripts c_sites c_asked c_outcome c_took c_acts c_drawn c_racer c_raced c_spelledMany c_hasImage c_now) s.heap := hP.sub (ws' := [k_X8 a_ c_thrown a_tape c_taped c_at c_part c_partFrom c_partNumber c_wrong c_partWord c_readLaw c_readBound c_readGoal c_readSites a_readPlace a_script a_scriptLong c_scripts a_now a_refused c_sites a_shareX a_shareY c_asked c_outcome a_askedRow c_took a_kept c_acts c_drawn a_aside c_racer c_raced a_spelled c_spelledMany a_image c_hasImage, k_I E a_now 265 c_now]) [0, 1] rfl
  have hrc := va_recv hK hPc (ci := 9) (q0 := 0) rfl rfl
  refine pE_i (va_runV (As := [.int p1]) (rest := [.int r_1, .ref a_])  ⟨hx, hb, hml, hown, hts⟩ (f_X8_driftY l E (a_ := a_) (a_tape := a_tape) (a_readPlace := a_readPlace) (a_script := a_script) (a_scriptLong := a_scriptLong) (a_now := a_now) (a_refused := a_refused) (a_shareX := a_shareX) (a_shareY := a_shareY) (a_askedRow := a_askedRow) (a_kept := a_kept) (a_aside := a_aside) (a_spelled := a_spelled) (a_image := a_image) (p1 := p1) (c_thrown := c_thrown) (c_taped := c_taped) (c_at := c_at) (c_part := c_part) (c_partFrom := c_partFrom) (c_partNumber := c_partNumber) (c_wrong := c_wrong) (c_partWord := c_partWord) (c_readLaw := c_readLaw) (c_readBound := c_readBound) (c_readGoal := c_readGoal) (c_readSites := c_readSites) (c_scripts := c_scripts) (c_sites := c_sites) (c_asked := c_asked) (c_outcome := c_outcome) (c_took := c_took) (c_acts := c_acts) (c_drawn := c_drawn) (c_racer := c_racer) (c_raced := c_raced) (c_spelledMany := c_spelledMany) (c_hasImage := c_hasImage) (c_now := c_now) hc_4) (cwV 1 hts g_f_X8_isQuiet_f_X8_driftY_231 rfl rfl rfl hd_X8_driftY ⟨Nat.le_of_ble_eq_true rfl, Nat.le_of_ble_eq_true rfl⟩) ⟨pP.blind, hrc, (pP.pre ⟨hK, hN⟩ hPc)⟩ rfl rfl hl.1 rfl (lv_room (Nat.le_of_ble_eq_true rfl)) (dq_182 0 bcX8_isQuiet_0 (j := 8) (i := 231) rfl rfl rfl) ⟨Nat.le_of_ble_eq_true rfl, Nat.le_of_ble_eq_true rfl⟩) ?_
  replace hF := bd1_s hF
  obtain ⟨r_5, hc_6, hF⟩ := hF
  have hPc : va_P E.1 vwCl (w_X8_isQuietBy E a_ a_tape a_readPlace a_script a_scriptLong a_now a_refused a_shareX a_shareY a_askedRow a_kept a_aside a_spelled a_image c_thrown c_taped c_at c_part c_partFrom c_partNumber c_wrong c_partWord c_readLaw c_readBound c_readGoal c_readSites c_scripts c_sites c_asked c_outcome c_took c_acts c_drawn c_racer c_raced c_spelledMany c_hasImage c_now) s.heap := hP.sub (ws' := [k_X8 a_ c_thrown a_tape c_taped c_at c_part c_partFrom c_partNumber c_wrong c_partWord c_readLaw c_readBound c_readGoal c_readSites a_readPlace a_script a_scriptLong c_scripts a_now a_refused c_sites a_shareX a_shareY c_asked c_outcome a_askedRow c_took a_kept c_acts c_drawn a_aside c_racer c_raced a_spelled c_spelledMany a_image c_hasImage, k_I E a_now 265 c_now]) [0, 1] rfl
  have hrc := va_recv hK hPc (ci := 9) (q0 := 0) rfl rfl
  refine pE_z (va_runV (As := [.int r_1, .int r_3]) (rest := [])  ⟨hx, hb, hml, hown, hts⟩ (f_X8_isQuietBy l E K (a_ := a_) (a_tape := a_tape) (a_readPlace := a_readPlace) (a_script := a_script) (a_scriptLong := a_scriptLong) (a_now := a_now) (a_refused := a_refused) (a_shareX := a_shareX) (a_shareY := a_shareY) (a_askedRow := a_askedRow) (a_kept := a_kept) (a_aside := a_aside) (a_spelled := a_spelled) (a_image := a_image) (p1 := r_1) (p2 := r_3) (c_thrown := c_thrown) (c_taped := c_taped) (c_at := c_at) (c_part := c_part) (c_partFrom := c_partFrom) (c_partNumber := c_partNumber) (c_wrong := c_wrong) (c_partWord := c_partWord) (c_readLaw := c_readLaw) (c_readBound := c_readBound) (c_readGoal := c_readGoal) (c_readSites := c_readSites) (c_scripts := c_scripts) (c_sites := c_sites) (c_asked := c_asked) (c_outcome := c_outcome) (c_took := c_took) (c_acts := c_acts) (c_drawn := c_drawn) (c_racer := c_racer) (c_raced := c_raced) (c_spelledMany := c_spelledMany) (c_hasImage := c_hasImage) (c_now := c_now) hc_6) (cwV 2 hts g_f_X8_isQuiet_f_X8_isQuietBy_234 rfl rfl rfl hd_X8_isQuietBy ⟨Nat.le_of_ble_eq_true rfl, Nat.le_of_ble_eq_true rfl⟩) ⟨pP.blind, hrc, (pP.pre ⟨hK, hN⟩ hPc)⟩ rfl rfl hl.1 rfl (lv_room (Nat.le_of_ble_eq_true rfl)) (dq_182 0 bcX8_isQuiet_0 (j := 11) (i := 234) rfl rfl rfl) ⟨Nat.le_of_ble_eq_true rfl, Nat.le_of_ble_eq_true rfl⟩) (fun hb_7 => ?_)
  rw [hQ]
  obtain e9_0 := inj1 hF
  exact W.zret (v := r_5) hx hb hr (nar_bool hb_7) (fun tt ht hW => ⟨_, rfl, ⟨e9_0, hb_7⟩, ht⟩) (fun _ h => by cases h) (dq_172 0 bcX8_isQuiet_0 (j := 14) rfl rfl)

def F_X8_isFrozen (p1 : Int32) (c_now : Nat → Int32) : Option (Int32) :=
  ixF ((76 : Int32) + p1) 265 (if c_now ((76 : Int32) + p1).toNatClampNeg = (1 : Int32) then some (1 : Int32) else some (0 : Int32))
abbrev w_X8_isFrozen (E : EE) (a_ a_tape a_readPlace a_script a_scriptLong a_now a_refused a_shareX a_shareY a_askedRow a_kept a_aside a_spelled a_image : Nat) (c_thrown : Int32) (c_taped : Int32) (c_at : Int32) (c_part : Int32) (c_partFrom : Int32) (c_partNumber : Int32) (c_wrong : Int32) (c_partWord : Int64) (c_readLaw : Int32) (c_readBound : Int32) (c_readGoal : Int32) (c_readSites : Int32) (c_scripts : Int32) (c_sites : Int32) (c_asked : Int32) (c_outcome : Int32) (c_took : Int32) (c_acts : Int32) (c_drawn : Int64) (c_racer : Int32) (c_raced : Int32) (c_spelledMany : Int32) (c_hasImage : Int32) (c_now : Nat → Int32) : va_W := [k_X8 a_ c_thrown a_tape c_taped c_at c_part c_partFrom c_partNumber c_wrong c_partWord c_readLaw c_readBound c_readGoal c_readSites a_readPlace a_script a_scriptLong c_scripts a_now a_refused c_sites a_shareX a_shareY c_asked c_outcome a_askedRow c_took a_kept c_acts c_drawn a_aside c_racer c_raced a_spelled c_spelledMany a_image c_hasImage, k_I E a_now 265 c_now]
def v_f_X8_isFrozen : List Cond := List.cons (.code yX8_isFrozen cX8_isFrozen 2 (some .boolean)) (HAppend.hAppend (α := List Cond) (β := List Cond) (γ := List Cond) [.fieldLink RX8 22 "HushWatchModel" "now" "[I"] (HAppend.hAppend (α := List Cond) (β := List Cond) (γ := List Cond) wsX80 []))
theorem gw_f_X8_isFrozen : v_f_X8_isFrozen.all goodWord = true := gw_c2 (by decide +kernel) (gw_ap gw_wsX80 gw_nil)
theorem i_f_X8_isFrozen_X8 : ∀ w ∈ wsX80, w ∈ v_f_X8_isFrozen := fun _ h => List.mem_cons_of_mem _ (List.mem_append_right _ (List.mem_append_left _ h))
theorem hd_X8_isFrozen : yX8_isFrozen.cls = RX8 ∧ yX8_isFrozen.cls ≠ "java/lang/invoke/MethodHandle" ∧ yX8_isFrozen.cls ≠ "java/lang/invoke/VarHandle" ∧ (parseMethodDescriptor yX8_isFrozen.desc).map (fun d => d.parameters.length) = some 1 := by decide +kernel
set_option maxHeartbeats 4000000 in
set_option maxRecDepth 100000 in
theorem f_X8_isFrozen (l : Launch) (E : EE) {a_ a_tape a_readPlace a_script a_scriptLong a_now a_refused a_shareX a_shareY a_askedRow a_kept a_aside a_spelled a_image : Nat} {p1 : Int32} {c_thrown : Int32} {c_taped : Int32} {c_at : Int32} {c_part : Int32} {c_partFrom : Int32} {c_partNumber : Int32} {c_wrong : Int32} {c_partWord : Int64} {c_readLaw : Int32} {c_readBound : Int32} {c_readGoal : Int32} {c_readSites : Int32} {c_scripts : Int32} {c_sites : Int32} {c_asked : Int32} {c_outcome : Int32} {c_took : Int32} {c_acts : Int32} {c_drawn : Int64} {c_racer : Int32} {c_raced : Int32} {c_spelledMany : Int32} {c_hasImage : Int32} {c_now : Nat → Int32} {rr : Int32} (hF : F_X8_isFrozen p1 c_now = some rr) : Met l yX8_isFrozen v_f_X8_isFrozen (({ frames := 0, cells := 0, slots := 0, locals := 0 } : Room)) (va_Pc [.ref a_, .int p1] (pP E (w_X8_isFrozen E a_ a_tape a_readPlace a_script a_scriptLong a_now a_refused a_shareX a_shareY a_askedRow a_kept a_aside a_spelled a_image c_thrown c_taped c_at c_part c_partFrom c_partNumber c_wrong c_partWord c_readLaw c_readBound c_readGoal c_readSites c_scripts c_sites c_asked c_outcome c_took c_acts c_drawn c_racer c_raced c_spelledMany c_hasImage c_now))) (vp_Si (fun q : Int32 => q = rr ∧ (q = 0 ∨ q = 1))) 0 0 (fun _ => False) := by
  refine Met.ofW (cc := cX8_isFrozen) (maxL := 2) (ret := (some .boolean)) (by decide) rfl ?_
  intro p e s m args below meth c s₁ B hml hv
  obtain ⟨rfl, ⟨hK, hN⟩, hP⟩ := hv
  have hx := B.exec
  have hb := B.bytes
  have hr := B.returns
  have hts := atoms_spec (ws := v_f_X8_isFrozen) B.pre
  have hown : s.vm.findClass RX8 = some m.cls := own_of hd_X8_isFrozen.1 (findClass_of_methodNamed B.named)
  have hlocks : meth.locks = false := B.notSynchronized
  replace hP : va_P E.1 vwCl [k_X8 a_ c_thrown a_tape c_taped c_at c_part c_partFrom c_partNumber c_wrong c_partWord c_readLaw c_readBound c_readGoal c_readSites a_readPlace a_script a_scriptLong c_scripts a_now a_refused c_sites a_shareX a_shareY c_asked c_outcome a_askedRow c_took a_kept c_acts c_drawn a_aside c_racer c_raced a_spelled c_spelledMany a_image c_hasImage, k_I E a_now 265 c_now] s.heap := hP
  have hl := lv_entry ([.ref a_, .int p1]) (n := 2) (Nat.le_of_ble_eq_true rfl)
  rw [lg_entry_eq]
  generalize (lg_sl ([.ref a_, .int p1]) ++ List.replicate (2 - (lg_sl ([.ref a_, .int p1])).length) Slot.unset).toArray = ls at hl ⊢
  have hl : lv_has ls 2 [(0, .ref a_), (1, .int p1)] := hl
  obtain ⟨Q, hQ⟩ : ∃ Q : State → Prop, Q = MQ below (vp_Si (fun q : Int32 => q = rr ∧ (q = 0 ∨ q = 1))) #[Value.ref a_, Value.int p1] s 0 0 (fun _ => False) := ⟨_, rfl⟩
  rw [← hQ]
  change W p l e ({ frames := 0, cells := 0, slots := 0, locals := 0 } : Room) s m #[Value.ref a_, Value.int p1] below meth c s.heap [] 0 0 Q (F0 m 0 ls [])
  unfold F_X8_isFrozen at hF
  refine lv_aload_n hx hb (dq_42 0 bcX8_isFrozen_0 (j := 0) rfl rfl) rfl (lv_at hl 0 rfl) ?_
  refine gt_X8_17 (v := .ref a_now) hx hb hts i_f_X8_isFrozen_X8 hown hK hP 0 rfl (hts (.fieldLink RX8 22 "HushWatchModel" "now" "[I") (List.mem_of_getElem? (i := 1) rfl)) rfl (dq_180 0 bcX8_isFrozen_0 (j := 1) (i := 22) rfl rfl rfl) ?_
  refine lv_bipush (v := 76) hx hb (dq_16 0 bcX8_isFrozen_0 (j := 4) (i := 76) rfl rfl rfl) (by decide) ?_
  refine lv_iload_n hx hb (dq_27 0 bcX8_isFrozen_0 (j := 6) rfl rfl) rfl (lv_at hl 1 rfl) ?_
  refine lv_iadd hx hb (dq_96 0 bcX8_isFrozen_0 (j := 7) rfl rfl) ?_
  replace hF := ix_s hF
  obtain ⟨hi_1, hF⟩ := hF
  refine va_iald hx hb hK hP 1 0 rfl rfl hi_1 (dq_46 0 bcX8_isFrozen_0 (j := 8) rfl rfl) ?_
  refine lv_iconst (v := 1) hx hb (dq_4 0 bcX8_isFrozen_0 (j := 9) rfl rfl) (by decide) ?_
  refine lv_icmp_ne (tgt := 17) hx hb (dq_160 0 bcX8_isFrozen_0 (j := 10) (i := 7) rfl rfl rfl) (by decide) (fun c_2 => ?_) (fun c_2 => ?_)
  ·
    replace hF := inn c_2 hF
    refine lv_iconst (v := 0) hx hb (dq_3 0 bcX8_isFrozen_0 (j := 17) rfl rfl) (by decide) ?_
    rw [hQ]
    obtain e9_0 := inj1 hF
    exact W.zret (v := (0 : Int32)) hx hb hr rfl (fun tt ht hW => ⟨_, rfl, ⟨e9_0, Or.inl rfl⟩, ht⟩) (fun _ h => by cases h) (dq_172 0 bcX8_isFrozen_0 (j := 18) rfl rfl)
  ·
    replace hF := ip c_2 hF
    refine lv_iconst (v := 1) hx hb (dq_4 0 bcX8_isFrozen_0 (j := 13) rfl rfl) (by decide) ?_
    refine lv_goto (tgt := 18) hx hb (dq_167 0 bcX8_isFrozen_0 (j := 14) (i := 4) rfl rfl rfl) (by decide) ?_
    rw [hQ]
    obtain e9_0 := inj1 hF
    exact W.zret (v := (1 : Int32)) hx hb hr rfl (fun tt ht hW => ⟨_, rfl, ⟨e9_0, Or.inr rfl⟩, ht⟩) (fun _ h => by cases h) (dq_172 0 bcX8_isFrozen_0 (j := 18) rfl rfl)

def B_X8_bits_4 (p0 : Int32) (x1 : Int32) (x2 : Int32) : Option ((Int32 × Int32) ⊕ (Int32)) :=
  if (8 : Int32) ≤ x2 then some (.inr x1) else some (.inl (x1 + ((p0 >>> (x2 &&& (31 : Int32))) &&& (1 : Int32)), x2 + (1 : Int32)))
def F_X8_bits (K : Nat) (p0 : Int32) : Option (Int32) :=
  bd1 (lpF (fun u9 : Int32 × Int32 => B_X8_bits_4 p0 u9.1 u9.2) K ((0 : Int32), (0 : Int32))) (fun x1_2 => some x1_2)

def v_f_X8_bits : List Cond := List.cons (.code yX8_bits cX8_bits 3 (some .int)) (HAppend.hAppend (α := List Cond) (β := List Cond) (γ := List Cond) [] [])
theorem gw_f_X8_bits : v_f_X8_bits.all goodWord = true := gw_c2 (by decide +kernel) gw_nil
theorem hd_X8_bits : yX8_bits.cls = RX8 ∧ yX8_bits.cls ≠ "java/lang/invoke/MethodHandle" ∧ yX8_bits.cls ≠ "java/lang/invoke/VarHandle" ∧ (parseMethodDescriptor yX8_bits.desc).map (fun d => d.parameters.length) = some 1 := by decide +kernel
set_option maxHeartbeats 4000000 in
set_option maxRecDepth 100000 in
theorem wb_X8_bits_4 {p : Program} (l : Launch) {e : Env} {s : State} {m : MethodId} {below : List Frame} {meth : Method} {c : Code} {Q : State → Prop} (E : EE) (K : Nat) {p0 : Int32} {x1 : Int32} {x2 : Int32} (hx : p.tables.exec = Jvm.exec) (hb : c.code = cX8_bits) (hml : c.maxLocals = 3) (hown : s.vm.findClass RX8 = some m.cls) (hts : ∀ w ∈ v_f_X8_bits, w.before #[Value.int p0] s = true) (hK : va_K E.1 vwCl (TY E) s) (hN : NX s) {xx : (Int32 × Int32) ⊕ (Int32)} (hC : ∀ (x1 : Int32), ∀ (x2 : Int32), xx = .inl (x1, x2) → ∀ (ls : Array Slot), lv_has ls 3 [(0, .int p0), (1, .int x1), (2, .int x2)] → W p l e ({ frames := 0, cells := 0, slots := 0, locals := 0 } : Room) s m #[Value.int p0] below meth c s.heap [] 0 0 Q (F0 m 4 ls [])) (hE : ∀ (x1 : Int32), xx = .inr x1 → ((∀ (ls : Array Slot), lv_has ls 3 [(1, .int x1)] → W p l e ({ frames := 0, cells := 0, slots := 0, locals := 0 } : Room) s m #[Value.int p0] below meth c s.heap [] 0 0 Q (F0 m 24 ls [])))) (hF : B_X8_bits_4 p0 x1 x2 = some xx) (hP : va_P E.1 vwCl [] s.heap) : ∀ (ls : Array Slot), lv_has ls 3 [(0, .int p0), (1, .int x1), (2, .int x2)] → W p l e ({ frames := 0, cells := 0, slots := 0, locals := 0 } : Room) s m #[Value.int p0] below meth c s.heap [] 0 0 Q (F0 m 4 ls []) := by
  unfold B_X8_bits_4 at hF
  replace hP : va_P E.1 vwCl [] s.heap := hP
  intro ls hl
  refine lv_iload_n hx hb (dq_28 0 bcX8_bits_0 (j := 4) rfl rfl) rfl (lv_at hl 2 rfl) ?_
  refine lv_bipush (v := 8) hx hb (dq_16 0 bcX8_bits_0 (j := 5) (i := 8) rfl rfl rfl) (by decide) ?_
  refine lv_icmp_ge (tgt := 24) hx hb (dq_162 0 bcX8_bits_0 (j := 7) (i := 17) rfl rfl rfl) (by decide) (fun c_1 => ?_) (fun c_1 => ?_)
  ·
    replace hF := ip c_1 hF
    cases hF
    exact hE x1 rfl ls (lv_sub hl [1] rfl)
  ·
    replace hF := inn c_1 hF
    refine lv_iload_n hx hb (dq_27 0 bcX8_bits_0 (j := 10) rfl rfl) rfl (lv_at hl 1 rfl) ?_
    refine lv_iload_n hx hb (dq_26 0 bcX8_bits_0 (j := 11) rfl rfl) rfl (lv_at hl 0 rfl) ?_
    refine lv_iload_n hx hb (dq_28 0 bcX8_bits_0 (j := 12) rfl rfl) rfl (lv_at hl 2 rfl) ?_
    refine lv_ishr hx hb (dq_122 0 bcX8_bits_0 (j := 13) rfl rfl) ?_
    refine lv_iconst (v := 1) hx hb (dq_4 0 bcX8_bits_0 (j := 14) rfl rfl) (by decide) ?_
    refine lv_iand hx hb (dq_126 0 bcX8_bits_0 (j := 15) rfl rfl) ?_
    refine lv_iadd hx hb (dq_96 0 bcX8_bits_0 (j := 16) rfl rfl) ?_
    refine lv_istore_n (lv' := [(1, .int (x1 + ((p0 >>> (x2 &&& (31 : Int32))) &&& (1 : Int32)))), (0, .int p0), (2, .int x2)]) hx hb (dq_60 0 bcX8_bits_0 (j := 17) rfl rfl) rfl hl (by decide) rfl (fun ls hl => ?_)
    refine lv_iinc (v := x2 + (1 : Int32)) (lv' := [(2, .int (x2 + (1 : Int32))), (1, .int (x1 + ((p0 >>> (x2 &&& (31 : Int32))) &&& (1 : Int32)))), (0, .int p0)]) hx hb (dq_132 0 bcX8_bits_0 (j := 18) (i := 1) rfl rfl rfl) hl (k := 2) rfl (rfl) (by decide) rfl (fun ls hl => ?_)
    refine lv_goto (tgt := 4) hx hb (dq_167 0 bcX8_bits_0 (j := 21) (i := -17) rfl rfl rfl) (by decide) ?_
    cases hF
    exact hC (x1 + ((p0 >>> (x2 &&& (31 : Int32))) &&& (1 : Int32))) (x2 + (1 : Int32)) rfl ls (lv_sub hl [2, 1, 0] rfl)

set_option maxHeartbeats 4000000 in
set_option maxRecDepth 100000 in
theorem lw_X8_bits_4 {p : Program} (l : Launch) {e : Env} {s : State} {m : MethodId} {below : List Frame} {meth : Method} {c : Code} {Q : State → Prop} (E : EE) (K : Nat) {p0 : Int32} (hx : p.tables.exec = Jvm.exec) (hb : c.code = cX8_bits) (hml : c.maxLocals = 3) (hown : s.vm.findClass RX8 = some m.cls) (hts : ∀ w ∈ v_f_X8_bits, w.before #[Value.int p0] s = true) (hK : va_K E.1 vwCl (TY E) s) (hN : NX s) (hP : va_P E.1 vwCl [] s.heap) (j9 : Nat) (x1 : Int32) (x2 : Int32) (x1' : Int32) (hL : lpF (fun u9 : Int32 × Int32 => B_X8_bits_4 p0 u9.1 u9.2) j9 (x1, x2) = some x1') (hX : (∀ (ls : Array Slot), lv_has ls 3 [(1, .int x1')] → W p l e ({ frames := 0, cells := 0, slots := 0, locals := 0 } : Room) s m #[Value.int p0] below meth c s.heap [] 0 0 Q (F0 m 24 ls []))) : ∀ (ls : Array Slot), lv_has ls 3 [(0, .int p0), (1, .int x1), (2, .int x2)] → W p l e ({ frames := 0, cells := 0, slots := 0, locals := 0 } : Room) s m #[Value.int p0] below meth c s.heap [] 0 0 Q (F0 m 4 ls []) := by
  exact lp_rule (P := (fun u9 : Int32 × Int32 => ∀ (ls : Array Slot), lv_has ls 3 [(0, .int p0), (1, .int u9.1), (2, .int u9.2)] → W p l e ({ frames := 0, cells := 0, slots := 0, locals := 0 } : Room) s m #[Value.int p0] below meth c s.heap [] 0 0 Q (F0 m 4 ls []))) (R := (fun r9 : Int32 => (∀ (ls : Array Slot), lv_has ls 3 [(1, .int r9)] → W p l e ({ frames := 0, cells := 0, slots := 0, locals := 0 } : Room) s m #[Value.int p0] below meth c s.heap [] 0 0 Q (F0 m 24 ls [])))) (fun u9 xx hF hC hE => wb_X8_bits_4 l E K (p0 := p0) (x1 := u9.1) (x2 := u9.2) hx hb hml hown hts hK hN (fun x1 x2 q9 => hC _ q9) (fun x1 q9 => hE _ q9) hF hP) j9 (x1, x2) x1' hL hX

set_option maxHeartbeats 4000000 in
set_option maxRecDepth 100000 in
theorem f_X8_bits (l : Launch) (E : EE) (K : Nat) {p0 : Int32} {rr : Int32} (hF : F_X8_bits K p0 = some rr) : Met l yX8_bits v_f_X8_bits (({ frames := 0, cells := 0, slots := 0, locals := 0 } : Room)) (va_Pc [.int p0] (pP E [])) (vp_Si (fun q : Int32 => q = rr)) 0 0 (fun _ => False) := by
  refine Met.ofW (cc := cX8_bits) (maxL := 3) (ret := (some .int)) (by decide) rfl ?_
  intro p e s m args below meth c s₁ B hml hv
  obtain ⟨rfl, ⟨hK, hN⟩, hP⟩ := hv
  have hx := B.exec
  have hb := B.bytes
  have hr := B.returns
  have hts := atoms_spec (ws := v_f_X8_bits) B.pre
  have hown : s.vm.findClass RX8 = some m.cls := own_of hd_X8_bits.1 (findClass_of_methodNamed B.named)
  have hlocks : meth.locks = false := B.notSynchronized
  replace hP : va_P E.1 vwCl [] s.heap := hP
  have hl := lv_entry ([.int p0]) (n := 3) (Nat.le_of_ble_eq_true rfl)
  rw [lg_entry_eq]
  generalize (lg_sl ([.int p0]) ++ List.replicate (3 - (lg_sl ([.int p0])).length) Slot.unset).toArray = ls at hl ⊢
  have hl : lv_has ls 3 [(0, .int p0)] := hl
  obtain ⟨Q, hQ⟩ : ∃ Q : State → Prop, Q = MQ below (vp_Si (fun q : Int32 => q = rr)) #[Value.int p0] s 0 0 (fun _ => False) := ⟨_, rfl⟩
  rw [← hQ]
  change W p l e ({ frames := 0, cells := 0, slots := 0, locals := 0 } : Room) s m #[Value.int p0] below meth c s.heap [] 0 0 Q (F0 m 0 ls [])
  unfold F_X8_bits at hF
  refine lv_iconst (v := 0) hx hb (dq_3 0 bcX8_bits_0 (j := 0) rfl rfl) (by decide) ?_
  refine lv_istore_n (lv' := [(1, .int (0 : Int32)), (0, .int p0)]) hx hb (dq_60 0 bcX8_bits_0 (j := 1) rfl rfl) rfl hl (by decide) rfl (fun ls hl => ?_)
  refine lv_iconst (v := 0) hx hb (dq_3 0 bcX8_bits_0 (j := 2) rfl rfl) (by decide) ?_
  refine lv_istore_n (lv' := [(2, .int (0 : Int32)), (1, .int (0 : Int32)), (0, .int p0)]) hx hb (dq_61 0 bcX8_bits_0 (j := 3) rfl rfl) rfl hl (by decide) rfl (fun ls hl => ?_)
  replace hF := bd1_s hF
  obtain ⟨x1_2, hL_3, hF⟩ := hF
  refine lw_X8_bits_4 l E K (p0 := p0) hx hb hml hown hts hK hN hP K (0 : Int32) (0 : Int32) x1_2 hL_3 ?_ ls (lv_sub hl [2, 1, 0] rfl)
  ·
    intro ls hl
    refine lv_iload_n hx hb (dq_27 0 bcX8_bits_0 (j := 24) rfl rfl) rfl (lv_at hl 0 rfl) ?_
    rw [hQ]
    obtain e9_0 := inj1 hF
    exact W.iret (v := x1_2) hx hb hr (fun tt ht hW => ⟨_, rfl, e9_0, ht⟩) (fun _ h => by cases h) (dq_172 0 bcX8_bits_0 (j := 25) rfl rfl)

def F_X8_has (p0 : Int32) (p1 : Int32) : Option (Int32) :=
  if (p0 >>> (p1 &&& (31 : Int32))) &&& (1 : Int32) = (1 : Int32) then some (1 : Int32) else some (0 : Int32)

def v_f_X8_has : List Cond := List.cons (.code yX8_has cX8_has 2 (some .boolean)) (HAppend.hAppend (α := List Cond) (β := List Cond) (γ := List Cond) [] [])
theorem gw_f_X8_has : v_f_X8_has.all goodWord = true := gw_c2 (by decide +kernel) gw_nil
theorem hd_X8_has : yX8_has.cls = RX8 ∧ yX8_has.cls ≠ "java/lang/invoke/MethodHandle" ∧ yX8_has.cls ≠ "java/lang/invoke/VarHandle" ∧ (parseMethodDescriptor yX8_has.desc).map (fun d => d.parameters.length) = some 2 := by decide +kernel
set_option maxHeartbeats 4000000 in
set_option maxRecDepth 100000 in
theorem f_X8_has (l : Launch) (E : EE) {p0 : Int32} {p1 : Int32} {rr : Int32} (hF : F_X8_has p0 p1 = some rr) : Met l yX8_has v_f_X8_has (({ frames := 0, cells := 0, slots := 0, locals := 0 } : Room)) (va_Pc [.int p0, .int p1] (pP E [])) (vp_Si (fun q : Int32 => q = rr ∧ (q = 0 ∨ q = 1))) 0 0 (fun _ => False) := by
  refine Met.ofW (cc := cX8_has) (maxL := 2) (ret := (some .boolean)) (by decide) rfl ?_
  intro p e s m args below meth c s₁ B hml hv
  obtain ⟨rfl, ⟨hK, hN⟩, hP⟩ := hv
  have hx := B.exec
  have hb := B.bytes
  have hr := B.returns
  have hts := atoms_spec (ws := v_f_X8_has) B.pre
  have hown : s.vm.findClass RX8 = some m.cls := own_of hd_X8_has.1 (findClass_of_methodNamed B.named)
  have hlocks : meth.locks = false := B.notSynchronized
  replace hP : va_P E.1 vwCl [] s.heap := hP
  have hl := lv_entry ([.int p0, .int p1]) (n := 2) (Nat.le_of_ble_eq_true rfl)
  rw [lg_entry_eq]
  generalize (lg_sl ([.int p0, .int p1]) ++ List.replicate (2 - (lg_sl ([.int p0, .int p1])).length) Slot.unset).toArray = ls at hl ⊢
  have hl : lv_has ls 2 [(0, .int p0), (1, .int p1)] := hl
  obtain ⟨Q, hQ⟩ : ∃ Q : State → Prop, Q = MQ below (vp_Si (fun q : Int32 => q = rr ∧ (q = 0 ∨ q = 1))) #[Value.int p0, Value.int p1] s 0 0 (fun _ => False) := ⟨_, rfl⟩
  rw [← hQ]
  change W p l e ({ frames := 0, cells := 0, slots := 0, locals := 0 } : Room) s m #[Value.int p0, Value.int p1] below meth c s.heap [] 0 0 Q (F0 m 0 ls [])
  unfold F_X8_has at hF
  refine lv_iload_n hx hb (dq_26 0 bcX8_has_0 (j := 0) rfl rfl) rfl (lv_at hl 0 rfl) ?_
  refine lv_iload_n hx hb (dq_27 0 bcX8_has_0 (j := 1) rfl rfl) rfl (lv_at hl 1 rfl) ?_
  refine lv_ishr hx hb (dq_122 0 bcX8_has_0 (j := 2) rfl rfl) ?_
  refine lv_iconst (v := 1) hx hb (dq_4 0 bcX8_has_0 (j := 3) rfl rfl) (by decide) ?_
  refine lv_iand hx hb (dq_126 0 bcX8_has_0 (j := 4) rfl rfl) ?_
  refine lv_iconst (v := 1) hx hb (dq_4 0 bcX8_has_0 (j := 5) rfl rfl) (by decide) ?_
  refine lv_icmp_ne (tgt := 13) hx hb (dq_160 0 bcX8_has_0 (j := 6) (i := 7) rfl rfl rfl) (by decide) (fun c_1 => ?_) (fun c_1 => ?_)
  ·
    replace hF := inn c_1 hF
    refine lv_iconst (v := 0) hx hb (dq_3 0 bcX8_has_0 (j := 13) rfl rfl) (by decide) ?_
    rw [hQ]
    obtain e9_0 := inj1 hF
    exact W.zret (v := (0 : Int32)) hx hb hr rfl (fun tt ht hW => ⟨_, rfl, ⟨e9_0, Or.inl rfl⟩, ht⟩) (fun _ h => by cases h) (dq_172 0 bcX8_has_0 (j := 14) rfl rfl)
  ·
    replace hF := ip c_1 hF
    refine lv_iconst (v := 1) hx hb (dq_4 0 bcX8_has_0 (j := 9) rfl rfl) (by decide) ?_
    refine lv_goto (tgt := 14) hx hb (dq_167 0 bcX8_has_0 (j := 10) (i := 4) rfl rfl rfl) (by decide) ?_
    rw [hQ]
    obtain e9_0 := inj1 hF
    exact W.zret (v := (1 : Int32)) hx hb hr rfl (fun tt ht hW => ⟨_, rfl, ⟨e9_0, Or.inr rfl⟩, ht⟩) (fun _ h => by cases h) (dq_172 0 bcX8_has_0 (j := 14) rfl rfl)
