noncomputable def blX5_freezeRefusal_0 : List Nat := [42, 27, 182, 0, 79, 154, 0, 5, 3, 172, 4, 42, 180, 0, 11, 6, 46, 120, 4, 100, 61, 42, 180, 0, 11, 16, 7, 46, 4, 27, 120, 128, 28, 160, 0, 15, 42, 27, 182, 0, 131, 154, 0, 7, 5, 167, 0, 4, 2, 172]
set_option maxRecDepth 100000 in
theorem bcX5_freezeRefusal_0 : ((cX5_freezeRefusal.data.toList.drop 0).take blX5_freezeRefusal_0.length).map UInt8.toNat = blX5_freezeRefusal_0 := by decide +kernel
noncomputable def blX5_freezeRefusal_1 : List Nat := [2, 172]
set_option maxRecDepth 100000 in
theorem bcX5_freezeRefusal_1 : ((cX5_freezeRefusal.data.toList.drop 48).take blX5_freezeRefusal_1.length).map UInt8.toNat = blX5_freezeRefusal_1 := by decide +kernel
noncomputable def blX5_hasRoom_0 : List Nat := [42, 27, 3, 182, 0, 69, 28, 96, 184, 0, 94, 18, 98, 163, 0, 23, 42, 27, 4, 182, 0, 69, 29, 96, 184, 0, 94, 18, 98, 163, 0, 7, 4, 167, 0, 4, 3, 172]
set_option maxRecDepth 100000 in
theorem bcX5_hasRoom_0 : ((cX5_hasRoom.data.toList.drop 0).take blX5_hasRoom_0.length).map UInt8.toNat = blX5_hasRoom_0 := by decide +kernel
noncomputable def blX5_isQuietWith_0 : List Nat := [42, 42, 27, 3, 182, 0, 72, 28, 96, 42, 27, 4, 182, 0, 72, 29, 96, 182, 0, 87, 172]
set_option maxRecDepth 100000 in
theorem bcX5_isQuietWith_0 : ((cX5_isQuietWith.data.toList.drop 0).take blX5_isQuietWith_0.length).map UInt8.toNat = blX5_isQuietWith_0 := by decide +kernel
noncomputable def blX7_isMovable_0 : List Nat := [26, 17, 216, 241, 161, 0, 28, 26, 17, 39, 15, 163, 0, 21, 27, 17, 216, 241, 161, 0, 14, 27, 17, 39, 15, 163, 0, 7, 4, 167, 0, 4, 3, 172]
set_option maxRecDepth 100000 in
theorem bcX7_isMovable_0 : ((cX7_isMovable.data.toList.drop 0).take blX7_isMovable_0.length).map UInt8.toNat = blX7_isMovable_0 := by decide +kernel
noncomputable def blX5_moveRefusal_0 : List Nat := [42, 27, 182, 0, 79, 154, 0, 5, 3, 172, 28, 29, 184, 0, 124, 153, 0, 13, 42, 27, 28, 29, 182, 0, 127, 154, 0, 5, 4, 172, 28, 154, 0, 7, 29, 153, 0, 11, 42, 27, 182, 0, 131, 153, 0, 7, 5, 167, 0, 4, 2]
set_option maxRecDepth 100000 in
theorem bcX5_moveRefusal_0 : ((cX5_moveRefusal.data.toList.drop 0).take blX5_moveRefusal_0.length).map UInt8.toNat = blX5_moveRefusal_0 := by decide +kernel
noncomputable def blX5_moveRefusal_1 : List Nat := [0, 4, 2, 172]
set_option maxRecDepth 100000 in
theorem bcX5_moveRefusal_1 : ((cX5_moveRefusal.data.toList.drop 48).take blX5_moveRefusal_1.length).map UInt8.toNat = blX5_moveRefusal_1 := by decide +kernel
noncomputable def blX5_point_0 : List Nat := [28, 154, 0, 12, 42, 180, 0, 11, 7, 46, 167, 0, 9, 42, 180, 0, 11, 8, 46, 42, 180, 0, 11, 6, 46, 42, 27, 28, 182, 0, 72, 104, 96, 172]
set_option maxRecDepth 100000 in
theorem bcX5_point_0 : ((cX5_point.data.toList.drop 0).take blX5_point_0.length).map UInt8.toNat = blX5_point_0 := by decide +kernel
noncomputable def blX5_pointValue_0 : List Nat := [42, 42, 27, 3, 182, 0, 91, 42, 180, 0, 11, 6, 46, 28, 104, 96, 133, 42, 27, 4, 182, 0, 91, 42, 180, 0, 11, 6, 46, 29, 104, 96, 133, 182, 0, 75, 173]
set_option maxRecDepth 100000 in
theorem bcX5_pointValue_0 : ((cX5_pointValue.data.toList.drop 0).take blX5_pointValue_0.length).map UInt8.toNat = blX5_pointValue_0 := by decide +kernel
noncomputable def blX5_quietSites_0 : List Nat := [3, 60, 3, 61, 28, 42, 182, 0, 45, 162, 0, 27, 27, 42, 28, 182, 0, 99, 153, 0, 9, 4, 28, 120, 167, 0, 4, 3, 128, 60, 132, 2, 1, 167, 255, 227, 27, 172]
set_option maxRecDepth 100000 in
theorem bcX5_quietSites_0 : ((cX5_quietSites.data.toList.drop 0).take blX5_quietSites_0.length).map UInt8.toNat = blX5_quietSites_0 := by decide +kernel
noncomputable def blX5_stands_0 : List Nat := [42, 180, 0, 11, 6, 46, 158, 0, 7, 4, 167, 0, 4, 3, 172]
set_option maxRecDepth 100000 in
theorem bcX5_stands_0 : ((cX5_stands.data.toList.drop 0).take blX5_stands_0.length).map UInt8.toNat = blX5_stands_0 := by decide +kernel
noncomputable def blX5_setRefusal_0 : List Nat := [26, 27, 161, 0, 8, 26, 28, 164, 0, 5, 4, 172, 26, 29, 160, 0, 7, 5, 167, 0, 4, 2, 172]
set_option maxRecDepth 100000 in
theorem bcX5_setRefusal_0 : ((cX5_setRefusal.data.toList.drop 0).take blX5_setRefusal_0.length).map UInt8.toNat = blX5_setRefusal_0 := by decide +kernel
noncomputable def blX5_refusal_0 : List Nat := [42, 182, 0, 105, 154, 0, 5, 3, 172, 27, 170, 0, 0, 0, 0, 110, 0, 0, 0, 0, 0, 0, 0, 6, 0, 0, 0, 42, 0, 0, 0, 110, 0, 0, 0, 51, 0, 0, 0, 66, 0, 0, 0, 79, 0, 0, 0, 86, 0, 0, 0]
set_option maxRecDepth 100000 in
theorem bcX5_refusal_0 : ((cX5_refusal.data.toList.drop 0).take blX5_refusal_0.length).map UInt8.toNat = blX5_refusal_0 := by decide +kernel
noncomputable def blX5_refusal_1 : List Nat := [0, 0, 0, 104, 42, 28, 29, 21, 4, 182, 0, 108, 172, 28, 18, 112, 18, 113, 42, 180, 0, 11, 4, 46, 184, 0, 114, 172, 28, 3, 6, 42, 180, 0, 11, 3, 46, 184, 0, 114, 172, 42, 28, 29, 182, 0, 118, 172, 28, 4, 161]
set_option maxRecDepth 100000 in
theorem bcX5_refusal_1 : ((cX5_refusal.data.toList.drop 48).take blX5_refusal_1.length).map UInt8.toNat = blX5_refusal_1 := by decide +kernel
noncomputable def blX5_refusal_2 : List Nat := [28, 4, 161, 0, 10, 28, 17, 39, 15, 164, 0, 7, 4, 167, 0, 4, 2, 172, 42, 28, 182, 0, 121, 172, 2, 172]
set_option maxRecDepth 100000 in
theorem bcX5_refusal_2 : ((cX5_refusal.data.toList.drop 96).take blX5_refusal_2.length).map UInt8.toNat = blX5_refusal_2 := by decide +kernel
noncomputable def blX5_slackLength_0 : List Nat := [42, 27, 7, 182, 0, 69, 184, 0, 94, 42, 27, 8, 182, 0, 69, 184, 0, 94, 96, 172]
set_option maxRecDepth 100000 in
theorem bcX5_slackLength_0 : ((cX5_slackLength.data.toList.drop 0).take blX5_slackLength_0.length).map UInt8.toNat = blX5_slackLength_0 := by decide +kernel
noncomputable def blX5_slackSites_0 : List Nat := [3, 60, 3, 61, 28, 42, 182, 0, 45, 162, 0, 27, 27, 42, 28, 182, 0, 102, 153, 0, 9, 4, 28, 120, 167, 0, 4, 3, 128, 60, 132, 2, 1, 167, 255, 227, 27, 172]
set_option maxRecDepth 100000 in
theorem bcX5_slackSites_0 : ((cX5_slackSites.data.toList.drop 0).take blX5_slackSites_0.length).map UInt8.toNat = blX5_slackSites_0 := by decide +kernel
def dl_X5_refusal_20_st05_0 : List (Nat × Instr × Nat) := [(10, .tableswitch 110 0 6 #[42, 110, 51, 66, 79, 86, 104], 42)]
set_option maxRecDepth 100000 in
theorem dall_X5_refusal_20_st05_0 : dchk cX5_refusal dl_X5_refusal_20_st05_0 = true := by decide +kernel
theorem dX5_refusal_10 : decode cX5_refusal 10 = .ok (.tableswitch 110 0 6 #[42, 110, 51, 66, 79, 86, 104], 42) := dchk_at dall_X5_refusal_20_st05_0 (k := 0) rfl
def F_X5_freezeRefusal (p1 : Int32) (c_row : Nat → Int32) : Option (Int32) :=
  bd1 (F_X5_hasSite p1 c_row) (fun r_1 => if r_1 = (0 : Int32) then some (0 : Int32) else if (c_row 7) ||| ((1 : Int32) <<< (p1 &&& (31 : Int32))) = ((1 : Int32) <<< ((c_row 3) &&& (31 : Int32))) - (1 : Int32) then bd1 (F_X5_isFrozen p1 c_row) (fun r_6 => if r_6 = (0 : Int32) then some (2 : Int32) else some (-1 : Int32)) else some (-1 : Int32))
abbrev w_X5_freezeRefusal (E : EE) (a_ a_row a_partners a_share a_leftOver : Nat) (c_askedCount : Int32) (c_outcome : Int32) (c_row : Nat → Int32) : va_W := [k_X5 a_ a_row a_partners c_askedCount c_outcome a_share a_leftOver, k_I E a_row 81 c_row]
def v_f_X5_freezeRefusal : List Cond := List.cons (.code yX5_freezeRefusal cX5_freezeRefusal 3 (some .int)) (HAppend.hAppend (α := List Cond) (β := List Cond) (γ := List Cond) [.fieldLink RX5 11 "HushWatch$State" "row" "[I", .methodLink RX5 79 yX5_hasSite, .instanceMethod yX5_hasSite, .selects RX5 yX5_hasSite yX5_hasSite, .initialized RX5, .methodLink RX5 131 yX5_isFrozen, .instanceMethod yX5_isFrozen, .selects RX5 yX5_isFrozen yX5_isFrozen] (HAppend.hAppend (α := List Cond) (β := List Cond) (γ := List Cond) v_f_X5_hasSite (HAppend.hAppend (α := List Cond) (β := List Cond) (γ := List Cond) wsX50 (HAppend.hAppend (α := List Cond) (β := List Cond) (γ := List Cond) v_f_X5_isFrozen []))))
theorem gw_f_X5_freezeRefusal : v_f_X5_freezeRefusal.all goodWord = true := gw_c2 (by decide +kernel) (gw_ap gw_f_X5_hasSite (gw_ap gw_wsX50 (gw_ap gw_f_X5_isFrozen gw_nil)))
theorem i_f_X5_freezeRefusal_X5 : ∀ w ∈ wsX50, w ∈ v_f_X5_freezeRefusal := fun _ h => List.mem_cons_of_mem _ (List.mem_append_right _ (List.mem_append_right _ (List.mem_append_left _ h)))
theorem g_f_X5_freezeRefusal_f_X5_hasSite_79 : GoodIn v_f_X5_freezeRefusal (wsV RX5 79 RX5 yX5_hasSite v_f_X5_hasSite) := goodIn_in gw_f_X5_freezeRefusal (in4 2 3 4 5 rfl rfl rfl rfl (fun _ h => List.mem_cons_of_mem _ (List.mem_append_right _ (List.mem_append_left _ h))))
theorem g_f_X5_freezeRefusal_f_X5_isFrozen_131 : GoodIn v_f_X5_freezeRefusal (wsV RX5 131 RX5 yX5_isFrozen v_f_X5_isFrozen) := goodIn_in gw_f_X5_freezeRefusal (in4 6 7 8 5 rfl rfl rfl rfl (fun _ h => List.mem_cons_of_mem _ (List.mem_append_right _ (List.mem_append_right _ (List.mem_append_right _ (List.mem_append_left _ h))))))
theorem hd_X5_freezeRefusal : yX5_freezeRefusal.cls = RX5 ∧ yX5_freezeRefusal.cls ≠ "java/lang/invoke/MethodHandle" ∧ yX5_freezeRefusal.cls ≠ "java/lang/invoke/VarHandle" ∧ (parseMethodDescriptor yX5_freezeRefusal.desc).map (fun d => d.parameters.length) = some 1 := by decide +kernel
set_option maxHeartbeats 4000000 in
set_option maxRecDepth 100000 in
theorem f_X5_freezeRefusal (l : Launch) (E : EE) {a_ a_row a_partners a_share a_leftOver : Nat} {p1 : Int32} {c_askedCount : Int32} {c_outcome : Int32} {c_row : Nat → Int32} {rr : Int32} (hF : F_X5_freezeRefusal p1 c_row = some rr) : Met l yX5_freezeRefusal v_f_X5_freezeRefusal (({ frames := 2, cells := 0, slots := 0, locals := 42 } : Room)) (va_Pc [.ref a_, .int p1] (pP E (w_X5_freezeRefusal E a_ a_row a_partners a_share a_leftOver c_askedCount c_outcome c_row))) (vp_Si (fun q : Int32 => q = rr)) 0 0 (fun _ => False) := by
  refine Met.ofW (cc := cX5_freezeRefusal) (maxL := 3) (ret := (some .int)) (by decide) rfl ?_
  intro p e s m args below meth c s₁ B hml hv
  obtain ⟨rfl, ⟨hK, hN⟩, hP⟩ := hv
  have hx := B.exec
  have hb := B.bytes
  have hr := B.returns
  have hts := atoms_spec (ws := v_f_X5_freezeRefusal) B.pre
  have hown : s.vm.findClass RX5 = some m.cls := own_of hd_X5_freezeRefusal.1 (findClass_of_methodNamed B.named)
  have hlocks : meth.locks = false := B.notSynchronized
  replace hP : va_P E.1 vwCl [k_X5 a_ a_row a_partners c_askedCount c_outcome a_share a_leftOver, k_I E a_row 81 c_row] s.heap := hP
  have hl := lv_entry ([.ref a_, .int p1]) (n := 3) (Nat.le_of_ble_eq_true rfl)
  rw [lg_entry_eq]
  generalize (lg_sl ([.ref a_, .int p1]) ++ List.replicate (3 - (lg_sl ([.ref a_, .int p1])).length) Slot.unset).toArray = ls at hl ⊢
  have hl : lv_has ls 3 [(0, .ref a_), (1, .int p1)] := hl
  obtain ⟨Q, hQ⟩ : ∃ Q : State → Prop, Q = MQ below (vp_Si (fun q : Int32 => q = rr)) #[Value.ref a_, Value.int p1] s 0 0 (fun _ => False) := ⟨_, rfl⟩
  rw [← hQ]
  change W p l e ({ frames := 2, cells := 0, slots := 0, locals := 42 } : Room) s m #[Value.ref a_, Value.int p1] below meth c s.heap [] 0 0 Q (F0 m 0 ls [])
  unfold F_X5_freezeRefusal at hF
  refine lv_aload_n hx hb (dq_42 0 bcX5_freezeRefusal_0 (j := 0) rfl rfl) rfl (lv_at hl 0 rfl) ?_
  refine lv_iload_n hx hb (dq_27 0 bcX5_freezeRefusal_0 (j := 1) rfl rfl) rfl (lv_at hl 1 rfl) ?_
  replace hF := bd1_s hF
  obtain ⟨r_1, hc_2, hF⟩ := hF
  have hPc : va_P E.1 vwCl (w_X5_hasSite E a_ a_row a_partners a_share a_leftOver c_askedCount c_outcome c_row) s.heap := hP.sub (ws' := [k_X5 a_ a_row a_partners c_askedCount c_outcome a_share a_leftOver, k_I E a_row 81 c_row]) [0, 1] rfl
  have hrc := va_recv hK hPc (ci := 6) (q0 := 0) rfl rfl
  refine pE_z (va_runV (As := [.int p1]) (rest := [])  ⟨hx, hb, hml, hown, hts⟩ (f_X5_hasSite l E (a_ := a_) (a_row := a_row) (a_partners := a_partners) (a_share := a_share) (a_leftOver := a_leftOver) (p1 := p1) (c_askedCount := c_askedCount) (c_outcome := c_outcome) (c_row := c_row) hc_2) (cwV 1 hts g_f_X5_freezeRefusal_f_X5_hasSite_79 rfl rfl rfl hd_X5_hasSite ⟨Nat.le_of_ble_eq_true rfl, Nat.le_of_ble_eq_true rfl⟩) ⟨pP.blind, hrc, (pP.pre ⟨hK, hN⟩ hPc)⟩ rfl rfl hl.1 rfl (lv_room (Nat.le_of_ble_eq_true rfl)) (dq_182 0 bcX5_freezeRefusal_0 (j := 2) (i := 79) rfl rfl rfl) ⟨Nat.le_of_ble_eq_true rfl, Nat.le_of_ble_eq_true rfl⟩) (fun hb_3 => ?_)
  refine lv_if_ne (tgt := 10) hx hb (dq_154 0 bcX5_freezeRefusal_0 (j := 5) (i := 5) rfl rfl rfl) (by decide) (fun c_4 => ?_) (fun c_4 => ?_)
  ·
    replace hF := inn c_4 hF
    refine lv_iconst (v := 1) hx hb (dq_4 0 bcX5_freezeRefusal_0 (j := 10) rfl rfl) (by decide) ?_
    refine lv_aload_n hx hb (dq_42 0 bcX5_freezeRefusal_0 (j := 11) rfl rfl) rfl (lv_at hl 0 rfl) ?_
    refine gt_X5_0 (v := .ref a_row) hx hb hts i_f_X5_freezeRefusal_X5 hown hK hP 0 rfl (hts (.fieldLink RX5 11 "HushWatch$State" "row" "[I") (List.mem_of_getElem? (i := 1) rfl)) rfl (dq_180 0 bcX5_freezeRefusal_0 (j := 12) (i := 11) rfl rfl rfl) ?_
    refine lv_iconst (v := 3) hx hb (dq_6 0 bcX5_freezeRefusal_0 (j := 15) rfl rfl) (by decide) ?_
    refine va_iald hx hb hK hP 1 0 rfl rfl (vin rfl) (dq_46 0 bcX5_freezeRefusal_0 (j := 16) rfl rfl) ?_
    refine W.eq (g2 := F0 m 17 ls [.int (c_row 3), .int (1 : Int32)]) rfl ?_
    refine lv_ishl hx hb (dq_120 0 bcX5_freezeRefusal_0 (j := 17) rfl rfl) ?_
    refine lv_iconst (v := 1) hx hb (dq_4 0 bcX5_freezeRefusal_0 (j := 18) rfl rfl) (by decide) ?_
    refine lv_isub hx hb (dq_100 0 bcX5_freezeRefusal_0 (j := 19) rfl rfl) ?_
    refine lv_istore_n (lv' := [(2, .int (((1 : Int32) <<< ((c_row 3) &&& (31 : Int32))) - (1 : Int32))), (0, .ref a_), (1, .int p1)]) hx hb (dq_61 0 bcX5_freezeRefusal_0 (j := 20) rfl rfl) rfl hl (by decide) rfl (fun ls hl => ?_)
    refine lv_aload_n hx hb (dq_42 0 bcX5_freezeRefusal_0 (j := 21) rfl rfl) rfl (lv_at hl 1 rfl) ?_
    refine gt_X5_0 (v := .ref a_row) hx hb hts i_f_X5_freezeRefusal_X5 hown hK hP 0 rfl (hts (.fieldLink RX5 11 "HushWatch$State" "row" "[I") (List.mem_of_getElem? (i := 1) rfl)) rfl (dq_180 0 bcX5_freezeRefusal_0 (j := 22) (i := 11) rfl rfl rfl) ?_
    refine lv_bipush (v := 7) hx hb (dq_16 0 bcX5_freezeRefusal_0 (j := 25) (i := 7) rfl rfl rfl) (by decide) ?_
    refine va_iald hx hb hK hP 1 0 rfl rfl (vin rfl) (dq_46 0 bcX5_freezeRefusal_0 (j := 27) rfl rfl) ?_
    refine W.eq (g2 := F0 m 28 ls [.int (c_row 7)]) rfl ?_
    refine lv_iconst (v := 1) hx hb (dq_4 0 bcX5_freezeRefusal_0 (j := 28) rfl rfl) (by decide) ?_
    refine lv_iload_n hx hb (dq_27 0 bcX5_freezeRefusal_0 (j := 29) rfl rfl) rfl (lv_at hl 2 rfl) ?_
    refine lv_ishl hx hb (dq_120 0 bcX5_freezeRefusal_0 (j := 30) rfl rfl) ?_
    refine lv_ior hx hb (dq_128 0 bcX5_freezeRefusal_0 (j := 31) rfl rfl) ?_
    refine lv_iload_n hx hb (dq_28 0 bcX5_freezeRefusal_0 (j := 32) rfl rfl) rfl (lv_at hl 0 rfl) ?_
    refine lv_icmp_ne (tgt := 48) hx hb (dq_160 0 bcX5_freezeRefusal_0 (j := 33) (i := 15) rfl rfl rfl) (by decide) (fun c_5 => ?_) (fun c_5 => ?_)
    ·
      replace hF := inn c_5 hF
      refine lv_iconst (v := -1) hx hb (dq_2 48 bcX5_freezeRefusal_1 (j := 0) rfl rfl) (by decide) ?_
      rw [hQ]
      obtain e9_0 := inj1 hF
      exact W.iret (v := (-1 : Int32)) hx hb hr (fun tt ht hW => ⟨_, rfl, e9_0, ht⟩) (fun _ h => by cases h) (dq_172 48 bcX5_freezeRefusal_1 (j := 1) rfl rfl)
    ·
      replace hF := ip c_5 hF
      refine lv_aload_n hx hb (dq_42 0 bcX5_freezeRefusal_0 (j := 36) rfl rfl) rfl (lv_at hl 1 rfl) ?_
      refine lv_iload_n hx hb (dq_27 0 bcX5_freezeRefusal_0 (j := 37) rfl rfl) rfl (lv_at hl 2 rfl) ?_
      replace hF := bd1_s hF
      obtain ⟨r_6, hc_7, hF⟩ := hF
      have hPc : va_P E.1 vwCl (w_X5_isFrozen E a_ a_row a_partners a_share a_leftOver c_askedCount c_outcome c_row) s.heap := hP.sub (ws' := [k_X5 a_ a_row a_partners c_askedCount c_outcome a_share a_leftOver, k_I E a_row 81 c_row]) [0, 1] rfl
      have hrc := va_recv hK hPc (ci := 6) (q0 := 0) rfl rfl
      refine pE_z (va_runV (As := [.int p1]) (rest := [])  ⟨hx, hb, hml, hown, hts⟩ (f_X5_isFrozen l E (a_ := a_) (a_row := a_row) (a_partners := a_partners) (a_share := a_share) (a_leftOver := a_leftOver) (p1 := p1) (c_askedCount := c_askedCount) (c_outcome := c_outcome) (c_row := c_row) hc_7) (cwV 1 hts g_f_X5_freezeRefusal_f_X5_isFrozen_131 rfl rfl rfl hd_X5_isFrozen ⟨Nat.le_of_ble_eq_true rfl, Nat.le_of_ble_eq_true rfl⟩) ⟨pP.blind, hrc, (pP.pre ⟨hK, hN⟩ hPc)⟩ rfl rfl hl.1 rfl (lv_room (Nat.le_of_ble_eq_true rfl)) (dq_182 0 bcX5_freezeRefusal_0 (j := 38) (i := 131) rfl rfl rfl) ⟨Nat.le_of_ble_eq_true rfl, Nat.le_of_ble_eq_true rfl⟩) (fun hb_8 => ?_)
      refine lv_if_ne (tgt := 48) hx hb (dq_154 0 bcX5_freezeRefusal_0 (j := 41) (i := 7) rfl rfl rfl) (by decide) (fun c_9 => ?_) (fun c_9 => ?_)
      ·
        replace hF := inn c_9 hF
        refine lv_iconst (v := -1) hx hb (dq_2 48 bcX5_freezeRefusal_1 (j := 0) rfl rfl) (by decide) ?_
        rw [hQ]
        obtain e9_0 := inj1 hF
        exact W.iret (v := (-1 : Int32)) hx hb hr (fun tt ht hW => ⟨_, rfl, e9_0, ht⟩) (fun _ h => by cases h) (dq_172 48 bcX5_freezeRefusal_1 (j := 1) rfl rfl)
      ·
        replace hF := ip c_9 hF
        refine lv_iconst (v := 2) hx hb (dq_5 0 bcX5_freezeRefusal_0 (j := 44) rfl rfl) (by decide) ?_
        refine lv_goto (tgt := 49) hx hb (dq_167 0 bcX5_freezeRefusal_0 (j := 45) (i := 4) rfl rfl rfl) (by decide) ?_
        rw [hQ]
        obtain e9_0 := inj1 hF
        exact W.iret (v := (2 : Int32)) hx hb hr (fun tt ht hW => ⟨_, rfl, e9_0, ht⟩) (fun _ h => by cases h) (dq_172 48 bcX5_freezeRefusal_1 (j := 1) rfl rfl)
  ·
    replace hF := ip c_4 hF
    refine lv_iconst (v := 0) hx hb (dq_3 0 bcX5_freezeRefusal_0 (j := 8) rfl rfl) (by decide) ?_
    rw [hQ]
    obtain e9_0 := inj1 hF
    exact W.iret (v := (0 : Int32)) hx hb hr (fun tt ht hW => ⟨_, rfl, e9_0, ht⟩) (fun _ h => by cases h) (dq_172 0 bcX5_freezeRefusal_0 (j := 9) rfl rfl)

def F_X5_hasRoom (p1 : Int32) (p2 : Int32) (p3 : Int32) (c_row : Nat → Int32) : Option (Int32) :=
  bd1 (F_X5_of p1 (0 : Int32) c_row) (fun r_1 => if (99999 : Int32) < (absF (r_1 + p2)) then some (0 : Int32) else bd1 (F_X5_of p1 (1 : Int32) c_row) (fun r_4 => if (99999 : Int32) < (absF (r_4 + p3)) then some (0 : Int32) else some (1 : Int32)))
abbrev w_X5_hasRoom (E : EE) (a_ a_row a_partners a_share a_leftOver : Nat) (c_askedCount : Int32) (c_outcome : Int32) (c_row : Nat → Int32) : va_W := [k_X5 a_ a_row a_partners c_askedCount c_outcome a_share a_leftOver, k_I E a_row 81 c_row]
def v_f_X5_hasRoom : List Cond := List.cons (.code yX5_hasRoom cX5_hasRoom 4 (some .boolean)) (HAppend.hAppend (α := List Cond) (β := List Cond) (γ := List Cond) [.methodLink RX5 94 Lib.Math.abs.name, .static Lib.Math.abs.name, .initialized "java/lang/Math", .code Lib.Math.abs.name Lib.Math.abs.code 1 (some .int), .constant RX5 98 (99999), .methodLink RX5 69 yX5_of, .instanceMethod yX5_of, .selects RX5 yX5_of yX5_of, .initialized RX5] (HAppend.hAppend (α := List Cond) (β := List Cond) (γ := List Cond) v_f_X5_of []))
theorem gw_f_X5_hasRoom : v_f_X5_hasRoom.all goodWord = true := gw_c2 (by decide +kernel) (gw_ap gw_f_X5_of gw_nil)
theorem g_f_X5_hasRoom_f_X5_of_69 : GoodIn v_f_X5_hasRoom (wsV RX5 69 RX5 yX5_of v_f_X5_of) := goodIn_in gw_f_X5_hasRoom (in4 6 7 8 9 rfl rfl rfl rfl (fun _ h => List.mem_cons_of_mem _ (List.mem_append_right _ (List.mem_append_left _ h))))
theorem hd_X5_hasRoom : yX5_hasRoom.cls = RX5 ∧ yX5_hasRoom.cls ≠ "java/lang/invoke/MethodHandle" ∧ yX5_hasRoom.cls ≠ "java/lang/invoke/VarHandle" ∧ (parseMethodDescriptor yX5_hasRoom.desc).map (fun d => d.parameters.length) = some 3 := by decide +kernel
set_option maxHeartbeats 4000000 in
set_option maxRecDepth 100000 in
theorem f_X5_hasRoom (l : Launch) (E : EE) {a_ a_row a_partners a_share a_leftOver : Nat} {p1 : Int32} {p2 : Int32} {p3 : Int32} {c_askedCount : Int32} {c_outcome : Int32} {c_row : Nat → Int32} {rr : Int32} (hF : F_X5_hasRoom p1 p2 p3 c_row = some rr) : Met l yX5_hasRoom v_f_X5_hasRoom (({ frames := 1, cells := 0, slots := 0, locals := 22 } : Room)) (va_Pc [.ref a_, .int p1, .int p2, .int p3] (pP E (w_X5_hasRoom E a_ a_row a_partners a_share a_leftOver c_askedCount c_outcome c_row))) (vp_Si (fun q : Int32 => q = rr ∧ (q = 0 ∨ q = 1))) 0 0 (fun _ => False) := by
  refine Met.ofW (cc := cX5_hasRoom) (maxL := 4) (ret := (some .boolean)) (by decide) rfl ?_
  intro p e s m args below meth c s₁ B hml hv
  obtain ⟨rfl, ⟨hK, hN⟩, hP⟩ := hv
  have hx := B.exec
  have hb := B.bytes
  have hr := B.returns
  have hts := atoms_spec (ws := v_f_X5_hasRoom) B.pre
  have hown : s.vm.findClass RX5 = some m.cls := own_of hd_X5_hasRoom.1 (findClass_of_methodNamed B.named)
  have hlocks : meth.locks = false := B.notSynchronized
  replace hP : va_P E.1 vwCl [k_X5 a_ a_row a_partners c_askedCount c_outcome a_share a_leftOver, k_I E a_row 81 c_row] s.heap := hP
  have hl := lv_entry ([.ref a_, .int p1, .int p2, .int p3]) (n := 4) (Nat.le_of_ble_eq_true rfl)
  rw [lg_entry_eq]
  generalize (lg_sl ([.ref a_, .int p1, .int p2, .int p3]) ++ List.replicate (4 - (lg_sl ([.ref a_, .int p1, .int p2, .int p3])).length) Slot.unset).toArray = ls at hl ⊢
  have hl : lv_has ls 4 [(0, .ref a_), (1, .int p1), (2, .int p2), (3, .int p3)] := hl
  obtain ⟨Q, hQ⟩ : ∃ Q : State → Prop, Q = MQ below (vp_Si (fun q : Int32 => q = rr ∧ (q = 0 ∨ q = 1))) #[Value.ref a_, Value.int p1, Value.int p2, Value.int p3] s 0 0 (fun _ => False) := ⟨_, rfl⟩
  rw [← hQ]
  change W p l e ({ frames := 1, cells := 0, slots := 0, locals := 22 } : Room) s m #[Value.ref a_, Value.int p1, Value.int p2, Value.int p3] below meth c s.heap [] 0 0 Q (F0 m 0 ls [])
  unfold F_X5_hasRoom at hF
  refine lv_aload_n hx hb (dq_42 0 bcX5_hasRoom_0 (j := 0) rfl rfl) rfl (lv_at hl 0 rfl) ?_
  refine lv_iload_n hx hb (dq_27 0 bcX5_hasRoom_0 (j := 1) rfl rfl) rfl (lv_at hl 1 rfl) ?_
  refine lv_iconst (v := 0) hx hb (dq_3 0 bcX5_hasRoom_0 (j := 2) rfl rfl) (by decide) ?_
  replace hF := bd1_s hF
  obtain ⟨r_1, hc_2, hF⟩ := hF
  have hPc : va_P E.1 vwCl (w_X5_of E a_ a_row a_partners a_share a_leftOver c_askedCount c_outcome c_row) s.heap := hP.sub (ws' := [k_X5 a_ a_row a_partners c_askedCount c_outcome a_share a_leftOver, k_I E a_row 81 c_row]) [0, 1] rfl
  have hrc := va_recv hK hPc (ci := 6) (q0 := 0) rfl rfl
  refine pE_i (va_runV (As := [.int p1, .int (0 : Int32)]) (rest := [])  ⟨hx, hb, hml, hown, hts⟩ (f_X5_of l E (a_ := a_) (a_row := a_row) (a_partners := a_partners) (a_share := a_share) (a_leftOver := a_leftOver) (p1 := p1) (p2 := (0 : Int32)) (c_askedCount := c_askedCount) (c_outcome := c_outcome) (c_row := c_row) hc_2) (cwV 2 hts g_f_X5_hasRoom_f_X5_of_69 rfl rfl rfl hd_X5_of ⟨Nat.le_of_ble_eq_true rfl, Nat.le_of_ble_eq_true rfl⟩) ⟨pP.blind, hrc, (pP.pre ⟨hK, hN⟩ hPc)⟩ rfl rfl hl.1 rfl (lv_room (Nat.le_of_ble_eq_true rfl)) (dq_182 0 bcX5_hasRoom_0 (j := 3) (i := 69) rfl rfl rfl) ⟨Nat.le_of_ble_eq_true rfl, Nat.le_of_ble_eq_true rfl⟩) ?_
  refine lv_iload_n hx hb (dq_28 0 bcX5_hasRoom_0 (j := 6) rfl rfl) rfl (lv_at hl 2 rfl) ?_
  refine lv_iadd hx hb (dq_96 0 bcX5_hasRoom_0 (j := 7) rfl rfl) ?_
  refine va_mabs hx hb (hml.trans hl.1.symm) hown (hts (.methodLink RX5 94 Lib.Math.abs.name) (List.mem_of_getElem? (i := 1) rfl)) (hts (.static Lib.Math.abs.name) (List.mem_of_getElem? (i := 2) rfl)) (hts (.initialized "java/lang/Math") (List.mem_of_getElem? (i := 3) rfl)) (hts (.code Lib.Math.abs.name Lib.Math.abs.code 1 (some .int)) (List.mem_of_getElem? (i := 4) rfl)) (Nat.le_of_ble_eq_true rfl) (Nat.le_of_ble_eq_true rfl) (Nat.le_of_ble_eq_true rfl) (Nat.le_of_ble_eq_true rfl) (dq_184 0 bcX5_hasRoom_0 (j := 8) (i := 94) rfl rfl rfl) ?_
  refine W.eq (g2 := F0 m 11 ls [.int (absF (r_1 + p2))]) rfl ?_
  refine lv_ldc (v := 99999) hx hb hown (hts (.constant RX5 98 (99999)) (List.mem_of_getElem? (i := 5) rfl)) (dq_18 0 bcX5_hasRoom_0 (j := 11) (i := 98) rfl rfl) ?_
  refine lv_icmp_gt (tgt := 36) hx hb (dq_163 0 bcX5_hasRoom_0 (j := 13) (i := 23) rfl rfl rfl) (by decide) (fun c_3 => ?_) (fun c_3 => ?_)
  ·
    replace hF := ip c_3 hF
    refine lv_iconst (v := 0) hx hb (dq_3 0 bcX5_hasRoom_0 (j := 36) rfl rfl) (by decide) ?_
    rw [hQ]
    obtain e9_0 := inj1 hF
    exact W.zret (v := (0 : Int32)) hx hb hr rfl (fun tt ht hW => ⟨_, rfl, ⟨e9_0, Or.inl rfl⟩, ht⟩) (fun _ h => by cases h) (dq_172 0 bcX5_hasRoom_0 (j := 37) rfl rfl)
  ·
    replace hF := inn c_3 hF
    refine lv_aload_n hx hb (dq_42 0 bcX5_hasRoom_0 (j := 16) rfl rfl) rfl (lv_at hl 0 rfl) ?_
    refine lv_iload_n hx hb (dq_27 0 bcX5_hasRoom_0 (j := 17) rfl rfl) rfl (lv_at hl 1 rfl) ?_
    refine lv_iconst (v := 1) hx hb (dq_4 0 bcX5_hasRoom_0 (j := 18) rfl rfl) (by decide) ?_
    replace hF := bd1_s hF
    obtain ⟨r_4, hc_5, hF⟩ := hF
    have hPc : va_P E.1 vwCl (w_X5_of E a_ a_row a_partners a_share a_leftOver c_askedCount c_outcome c_row) s.heap := hP.sub (ws' := [k_X5 a_ a_row a_partners c_askedCount c_outcome a_share a_leftOver, k_I E a_row 81 c_row]) [0, 1] rfl
    have hrc := va_recv hK hPc (ci := 6) (q0 := 0) rfl rfl
    refine pE_i (va_runV (As := [.int p1, .int (1 : Int32)]) (rest := [])  ⟨hx, hb, hml, hown, hts⟩ (f_X5_of l E (a_ := a_) (a_row := a_row) (a_partners := a_partners) (a_share := a_share) (a_leftOver := a_leftOver) (p1 := p1) (p2 := (1 : Int32)) (c_askedCount := c_askedCount) (c_outcome := c_outcome) (c_row := c_row) hc_5) (cwV 2 hts g_f_X5_hasRoom_f_X5_of_69 rfl rfl rfl hd_X5_of ⟨Nat.le_of_ble_eq_true rfl, Nat.le_of_ble_eq_true rfl⟩) ⟨pP.blind, hrc, (pP.pre ⟨hK, hN⟩ hPc)⟩ rfl rfl hl.1 rfl (lv_room (Nat.le_of_ble_eq_true rfl)) (dq_182 0 bcX5_hasRoom_0 (j := 19) (i := 69) rfl rfl rfl) ⟨Nat.le_of_ble_eq_true rfl, Nat.le_of_ble_eq_true rfl⟩) ?_
    refine lv_iload_n hx hb (dq_29 0 bcX5_hasRoom_0 (j := 22) rfl rfl) rfl (lv_at hl 3 rfl) ?_
    refine lv_iadd hx hb (dq_96 0 bcX5_hasRoom_0 (j := 23) rfl rfl) ?_
    refine va_mabs hx hb (hml.trans hl.1.symm) hown (hts (.methodLink RX5 94 Lib.Math.abs.name) (List.mem_of_getElem? (i := 1) rfl)) (hts (.static Lib.Math.abs.name) (List.mem_of_getElem? (i := 2) rfl)) (hts (.initialized "java/lang/Math") (List.mem_of_getElem? (i := 3) rfl)) (hts (.code Lib.Math.abs.name Lib.Math.abs.code 1 (some .int)) (List.mem_of_getElem? (i := 4) rfl)) (Nat.le_of_ble_eq_true rfl) (Nat.le_of_ble_eq_true rfl) (Nat.le_of_ble_eq_true rfl) (Nat.le_of_ble_eq_true rfl) (dq_184 0 bcX5_hasRoom_0 (j := 24) (i := 94) rfl rfl rfl) ?_
    refine W.eq (g2 := F0 m 27 ls [.int (absF (r_4 + p3))]) rfl ?_
    refine lv_ldc (v := 99999) hx hb hown (hts (.constant RX5 98 (99999)) (List.mem_of_getElem? (i := 5) rfl)) (dq_18 0 bcX5_hasRoom_0 (j := 27) (i := 98) rfl rfl) ?_
    refine lv_icmp_gt (tgt := 36) hx hb (dq_163 0 bcX5_hasRoom_0 (j := 29) (i := 7) rfl rfl rfl) (by decide) (fun c_6 => ?_) (fun c_6 => ?_)
    ·
      replace hF := ip c_6 hF
      refine lv_iconst (v := 0) hx hb (dq_3 0 bcX5_hasRoom_0 (j := 36) rfl rfl) (by decide) ?_
      rw [hQ]
      obtain e9_0 := inj1 hF
      exact W.zret (v := (0 : Int32)) hx hb hr rfl (fun tt ht hW => ⟨_, rfl, ⟨e9_0, Or.inl rfl⟩, ht⟩) (fun _ h => by cases h) (dq_172 0 bcX5_hasRoom_0 (j := 37) rfl rfl)
    ·
      replace hF := inn c_6 hF
      refine lv_iconst (v := 1) hx hb (dq_4 0 bcX5_hasRoom_0 (j := 32) rfl rfl) (by decide) ?_
      refine lv_goto (tgt := 37) hx hb (dq_167 0 bcX5_hasRoom_0 (j := 33) (i := 4) rfl rfl rfl) (by decide) ?_
      rw [hQ]
      obtain e9_0 := inj1 hF
      exact W.zret (v := (1 : Int32)) hx hb hr rfl (fun tt ht hW => ⟨_, rfl, ⟨e9_0, Or.inr rfl⟩, ht⟩) (fun _ h => by cases h) (dq_172 0 bcX5_hasRoom_0 (j := 37) rfl rfl)

def F_X5_isQuietWith (p1 : Int32) (p2 : Int32) (p3 : Int32) (c_row : Nat → Int32) : Option (Int32) :=
  bd1 (F_X5_drift p1 (0 : Int32) c_row) (fun r_1 => bd1 (F_X5_drift p1 (1 : Int32) c_row) (fun r_3 => bd1 (F_X5_isQuietDrift (r_1 + p2) (r_3 + p3) c_row) (fun r_5 => some r_5)))
abbrev w_X5_isQuietWith (E : EE) (a_ a_row a_partners a_share a_leftOver : Nat) (c_askedCount : Int32) (c_outcome : Int32) (c_row : Nat → Int32) : va_W := [k_X5 a_ a_row a_partners c_askedCount c_outcome a_share a_leftOver, k_I E a_row 81 c_row]
def v_f_X5_isQuietWith : List Cond := List.cons (.code yX5_isQuietWith cX5_isQuietWith 4 (some .boolean)) (HAppend.hAppend (α := List Cond) (β := List Cond) (γ := List Cond) [.methodLink RX5 72 yX5_drift, .instanceMethod yX5_drift, .selects RX5 yX5_drift yX5_drift, .initialized RX5, .methodLink RX5 87 yX5_isQuietDrift, .instanceMethod yX5_isQuietDrift, .selects RX5 yX5_isQuietDrift yX5_isQuietDrift] (HAppend.hAppend (α := List Cond) (β := List Cond) (γ := List Cond) v_f_X5_drift (HAppend.hAppend (α := List Cond) (β := List Cond) (γ := List Cond) v_f_X5_isQuietDrift [])))
theorem gw_f_X5_isQuietWith : v_f_X5_isQuietWith.all goodWord = true := gw_c2 (by decide +kernel) (gw_ap gw_f_X5_drift (gw_ap gw_f_X5_isQuietDrift gw_nil))
theorem g_f_X5_isQuietWith_f_X5_drift_72 : GoodIn v_f_X5_isQuietWith (wsV RX5 72 RX5 yX5_drift v_f_X5_drift) := goodIn_in gw_f_X5_isQuietWith (in4 1 2 3 4 rfl rfl rfl rfl (fun _ h => List.mem_cons_of_mem _ (List.mem_append_right _ (List.mem_append_left _ h))))
theorem g_f_X5_isQuietWith_f_X5_isQuietDrift_87 : GoodIn v_f_X5_isQuietWith (wsV RX5 87 RX5 yX5_isQuietDrift v_f_X5_isQuietDrift) := goodIn_in gw_f_X5_isQuietWith (in4 5 6 7 4 rfl rfl rfl rfl (fun _ h => List.mem_cons_of_mem _ (List.mem_append_right _ (List.mem_append_right _ (List.mem_append_left _ h)))))
theorem hd_X5_isQuietWith : yX5_isQuietWith.cls = RX5 ∧ yX5_isQuietWith.cls ≠ "java/lang/invoke/MethodHandle" ∧ yX5_isQuietWith.cls ≠ "java/lang/invoke/VarHandle" ∧ (parseMethodDescriptor yX5_isQuietWith.desc).map (fun d => d.parameters.length) = some 3 := by decide +kernel
set_option maxHeartbeats 4000000 in
set_option maxRecDepth 100000 in
theorem f_X5_isQuietWith (l : Launch) (E : EE) {a_ a_row a_partners a_share a_leftOver : Nat} {p1 : Int32} {p2 : Int32} {p3 : Int32} {c_askedCount : Int32} {c_outcome : Int32} {c_row : Nat → Int32} {rr : Int32} (hF : F_X5_isQuietWith p1 p2 p3 c_row = some rr) : Met l yX5_isQuietWith v_f_X5_isQuietWith (({ frames := 2, cells := 0, slots := 0, locals := 50 } : Room)) (va_Pc [.ref a_, .int p1, .int p2, .int p3] (pP E (w_X5_isQuietWith E a_ a_row a_partners a_share a_leftOver c_askedCount c_outcome c_row))) (vp_Si (fun q : Int32 => q = rr ∧ (q = 0 ∨ q = 1))) 0 0 (fun _ => False) := by
  refine Met.ofW (cc := cX5_isQuietWith) (maxL := 4) (ret := (some .boolean)) (by decide) rfl ?_
  intro p e s m args below meth c s₁ B hml hv
  obtain ⟨rfl, ⟨hK, hN⟩, hP⟩ := hv
  have hx := B.exec
  have hb := B.bytes
  have hr := B.returns
  have hts := atoms_spec (ws := v_f_X5_isQuietWith) B.pre
  have hown : s.vm.findClass RX5 = some m.cls := own_of hd_X5_isQuietWith.1 (findClass_of_methodNamed B.named)
  have hlocks : meth.locks = false := B.notSynchronized
  replace hP : va_P E.1 vwCl [k_X5 a_ a_row a_partners c_askedCount c_outcome a_share a_leftOver, k_I E a_row 81 c_row] s.heap := hP
  have hl := lv_entry ([.ref a_, .int p1, .int p2, .int p3]) (n := 4) (Nat.le_of_ble_eq_true rfl)
  rw [lg_entry_eq]
  generalize (lg_sl ([.ref a_, .int p1, .int p2, .int p3]) ++ List.replicate (4 - (lg_sl ([.ref a_, .int p1, .int p2, .int p3])).length) Slot.unset).toArray = ls at hl ⊢
  have hl : lv_has ls 4 [(0, .ref a_), (1, .int p1), (2, .int p2), (3, .int p3)] := hl
  obtain ⟨Q, hQ⟩ : ∃ Q : State → Prop, Q = MQ below (vp_Si (fun q : Int32 => q = rr ∧ (q = 0 ∨ q = 1))) #[Value.ref a_, Value.int p1, Value.int p2, Value.int p3] s 0 0 (fun _ => False) := ⟨_, rfl⟩
  rw [← hQ]
  change W p l e ({ frames := 2, cells := 0, slots := 0, locals := 50 } : Room) s m #[Value.ref a_, Value.int p1, Value.int p2, Value.int p3] below meth c s.heap [] 0 0 Q (F0 m 0 ls [])
  unfold F_X5_isQuietWith at hF
  refine lv_aload_n hx hb (dq_42 0 bcX5_isQuietWith_0 (j := 0) rfl rfl) rfl (lv_at hl 0 rfl) ?_
  refine lv_aload_n hx hb (dq_42 0 bcX5_isQuietWith_0 (j := 1) rfl rfl) rfl (lv_at hl 0 rfl) ?_
  refine lv_iload_n hx hb (dq_27 0 bcX5_isQuietWith_0 (j := 2) rfl rfl) rfl (lv_at hl 1 rfl) ?_
  refine lv_iconst (v := 0) hx hb (dq_3 0 bcX5_isQuietWith_0 (j := 3) rfl rfl) (by decide) ?_
  replace hF := bd1_s hF
  obtain ⟨r_1, hc_2, hF⟩ := hF
  have hPc : va_P E.1 vwCl (w_X5_drift E a_ a_row a_partners a_share a_leftOver c_askedCount c_outcome c_row) s.heap := hP.sub (ws' := [k_X5 a_ a_row a_partners c_askedCount c_outcome a_share a_leftOver, k_I E a_row 81 c_row]) [0, 1] rfl
  have hrc := va_recv hK hPc (ci := 6) (q0 := 0) rfl rfl
  refine pE_i (va_runV (As := [.int p1, .int (0 : Int32)]) (rest := [.ref a_])  ⟨hx, hb, hml, hown, hts⟩ (f_X5_drift l E (a_ := a_) (a_row := a_row) (a_partners := a_partners) (a_share := a_share) (a_leftOver := a_leftOver) (p1 := p1) (p2 := (0 : Int32)) (c_askedCount := c_askedCount) (c_outcome := c_outcome) (c_row := c_row) hc_2) (cwV 2 hts g_f_X5_isQuietWith_f_X5_drift_72 rfl rfl rfl hd_X5_drift ⟨Nat.le_of_ble_eq_true rfl, Nat.le_of_ble_eq_true rfl⟩) ⟨pP.blind, hrc, (pP.pre ⟨hK, hN⟩ hPc)⟩ rfl rfl hl.1 rfl (lv_room (Nat.le_of_ble_eq_true rfl)) (dq_182 0 bcX5_isQuietWith_0 (j := 4) (i := 72) rfl rfl rfl) ⟨Nat.le_of_ble_eq_true rfl, Nat.le_of_ble_eq_true rfl⟩) ?_
  refine lv_iload_n hx hb (dq_28 0 bcX5_isQuietWith_0 (j := 7) rfl rfl) rfl (lv_at hl 2 rfl) ?_
  refine lv_iadd hx hb (dq_96 0 bcX5_isQuietWith_0 (j := 8) rfl rfl) ?_
  refine lv_aload_n hx hb (dq_42 0 bcX5_isQuietWith_0 (j := 9) rfl rfl) rfl (lv_at hl 0 rfl) ?_
  refine lv_iload_n hx hb (dq_27 0 bcX5_isQuietWith_0 (j := 10) rfl rfl) rfl (lv_at hl 1 rfl) ?_
  refine lv_iconst (v := 1) hx hb (dq_4 0 bcX5_isQuietWith_0 (j := 11) rfl rfl) (by decide) ?_
  replace hF := bd1_s hF
  obtain ⟨r_3, hc_4, hF⟩ := hF
  have hPc : va_P E.1 vwCl (w_X5_drift E a_ a_row a_partners a_share a_leftOver c_askedCount c_outcome c_row) s.heap := hP.sub (ws' := [k_X5 a_ a_row a_partners c_askedCount c_outcome a_share a_leftOver, k_I E a_row 81 c_row]) [0, 1] rfl
  have hrc := va_recv hK hPc (ci := 6) (q0 := 0) rfl rfl
  refine pE_i (va_runV (As := [.int p1, .int (1 : Int32)]) (rest := [.int (r_1 + p2), .ref a_])  ⟨hx, hb, hml, hown, hts⟩ (f_X5_drift l E (a_ := a_) (a_row := a_row) (a_partners := a_partners) (a_share := a_share) (a_leftOver := a_leftOver) (p1 := p1) (p2 := (1 : Int32)) (c_askedCount := c_askedCount) (c_outcome := c_outcome) (c_row := c_row) hc_4) (cwV 2 hts g_f_X5_isQuietWith_f_X5_drift_72 rfl rfl rfl hd_X5_drift ⟨Nat.le_of_ble_eq_true rfl, Nat.le_of_ble_eq_true rfl⟩) ⟨pP.blind, hrc, (pP.pre ⟨hK, hN⟩ hPc)⟩ rfl rfl hl.1 rfl (lv_room (Nat.le_of_ble_eq_true rfl)) (dq_182 0 bcX5_isQuietWith_0 (j := 12) (i := 72) rfl rfl rfl) ⟨Nat.le_of_ble_eq_true rfl, Nat.le_of_ble_eq_true rfl⟩) ?_
  refine lv_iload_n hx hb (dq_29 0 bcX5_isQuietWith_0 (j := 15) rfl rfl) rfl (lv_at hl 3 rfl) ?_
  refine lv_iadd hx hb (dq_96 0 bcX5_isQuietWith_0 (j := 16) rfl rfl) ?_
  replace hF := bd1_s hF
  obtain ⟨r_5, hc_6, hF⟩ := hF
  have hPc : va_P E.1 vwCl (w_X5_isQuietDrift E a_ a_row a_partners a_share a_leftOver c_askedCount c_outcome c_row) s.heap := hP.sub (ws' := [k_X5 a_ a_row a_partners c_askedCount c_outcome a_share a_leftOver, k_I E a_row 81 c_row]) [0, 1] rfl
  have hrc := va_recv hK hPc (ci := 6) (q0 := 0) rfl rfl
  refine pE_z (va_runV (As := [.int (r_1 + p2), .int (r_3 + p3)]) (rest := [])  ⟨hx, hb, hml, hown, hts⟩ (f_X5_isQuietDrift l E (a_ := a_) (a_row := a_row) (a_partners := a_partners) (a_share := a_share) (a_leftOver := a_leftOver) (p1 := r_1 + p2) (p2 := r_3 + p3) (c_askedCount := c_askedCount) (c_outcome := c_outcome) (c_row := c_row) hc_6) (cwV 2 hts g_f_X5_isQuietWith_f_X5_isQuietDrift_87 rfl rfl rfl hd_X5_isQuietDrift ⟨Nat.le_of_ble_eq_true rfl, Nat.le_of_ble_eq_true rfl⟩) ⟨pP.blind, hrc, (pP.pre ⟨hK, hN⟩ hPc)⟩ rfl rfl hl.1 rfl (lv_room (Nat.le_of_ble_eq_true rfl)) (dq_182 0 bcX5_isQuietWith_0 (j := 17) (i := 87) rfl rfl rfl) ⟨Nat.le_of_ble_eq_true rfl, Nat.le_of_ble_eq_true rfl⟩) (fun hb_7 => ?_)
  rw [hQ]
  obtain e9_0 := inj1 hF
  exact W.zret (v := r_5) hx hb hr (nar_bool hb_7) (fun tt ht hW => ⟨_, rfl, ⟨e9_0, hb_7⟩, ht⟩) (fun _ h => by cases h) (dq_172 0 bcX5_isQuietWith_0 (j := 20) rfl rfl)

def F_X7_isMovable (p0 : Int32) (p1 : Int32) : Option (Int32) :=
  if p0 < (-9999 : Int32) then some (0 : Int32) else if (9999 : Int32) < p0 then some (0 : Int32) else if p1 < (-9999 : Int32) then some (0 : Int32) else if (9999 : Int32) < p1 then some (0 : Int32) else some (1 : Int32)

def v_f_X7_isMovable : List Cond := List.cons (.code yX7_isMovable cX7_isMovable 2 (some .boolean)) (HAppend.hAppend (α := List Cond) (β := List Cond) (γ := List Cond) [] [])
theorem gw_f_X7_isMovable : v_f_X7_isMovable.all goodWord = true := gw_c2 (by decide +kernel) gw_nil
theorem hd_X7_isMovable : yX7_isMovable.cls = RX7 ∧ yX7_isMovable.cls ≠ "java/lang/invoke/MethodHandle" ∧ yX7_isMovable.cls ≠ "java/lang/invoke/VarHandle" ∧ (parseMethodDescriptor yX7_isMovable.desc).map (fun d => d.parameters.length) = some 2 := by decide +kernel
set_option maxHeartbeats 4000000 in
set_option maxRecDepth 100000 in
theorem f_X7_isMovable (l : Launch) (E : EE) {p0 : Int32} {p1 : Int32} {rr : Int32} (hF : F_X7_isMovable p0 p1 = some rr) : Met l yX7_isMovable v_f_X7_isMovable (({ frames := 0, cells := 0, slots := 0, locals := 0 } : Room)) (va_Pc [.int p0, .int p1] (pP E [])) (vp_Si (fun q : Int32 => q = rr ∧ (q = 0 ∨ q = 1))) 0 0 (fun _ => False) := by
  refine Met.ofW (cc := cX7_isMovable) (maxL := 2) (ret := (some .boolean)) (by decide) rfl ?_
  intro p e s m args below meth c s₁ B hml hv
  obtain ⟨rfl, ⟨hK, hN⟩, hP⟩ := hv
  have hx := B.exec
  have hb := B.bytes
  have hr := B.returns
  have hts := atoms_spec (ws := v_f_X7_isMovable) B.pre
  have hown : s.vm.findClass RX7 = some m.cls := own_of hd_X7_isMovable.1 (findClass_of_methodNamed B.named)
  have hlocks : meth.locks = false := B.notSynchronized
  replace hP : va_P E.1 vwCl [] s.heap := hP
  have hl := lv_entry ([.int p0, .int p1]) (n := 2) (Nat.le_of_ble_eq_true rfl)
  rw [lg_entry_eq]
  generalize (lg_sl ([.int p0, .int p1]) ++ List.replicate (2 - (lg_sl ([.int p0, .int p1])).length) Slot.unset).toArray = ls at hl ⊢
  have hl : lv_has ls 2 [(0, .int p0), (1, .int p1)] := hl
  obtain ⟨Q, hQ⟩ : ∃ Q : State → Prop, Q = MQ below (vp_Si (fun q : Int32 => q = rr ∧ (q = 0 ∨ q = 1))) #[Value.int p0, Value.int p1] s 0 0 (fun _ => False) := ⟨_, rfl⟩
  rw [← hQ]
  change W p l e ({ frames := 0, cells := 0, slots := 0, locals := 0 } : Room) s m #[Value.int p0, Value.int p1] below meth c s.heap [] 0 0 Q (F0 m 0 ls [])
  unfold F_X7_isMovable at hF
  refine lv_iload_n hx hb (dq_26 0 bcX7_isMovable_0 (j := 0) rfl rfl) rfl (lv_at hl 0 rfl) ?_
  refine lv_sipush (v := -9999) hx hb (dq_17 0 bcX7_isMovable_0 (j := 1) (i := -9999) rfl rfl rfl) (by decide) ?_
  refine lv_icmp_lt (tgt := 32) hx hb (dq_161 0 bcX7_isMovable_0 (j := 4) (i := 28) rfl rfl rfl) (by decide) (fun c_1 => ?_) (fun c_1 => ?_)
  ·
    replace hF := ip c_1 hF
    refine lv_iconst (v := 0) hx hb (dq_3 0 bcX7_isMovable_0 (j := 32) rfl rfl) (by decide) ?_
    rw [hQ]
    obtain e9_0 := inj1 hF
    exact W.zret (v := (0 : Int32)) hx hb hr rfl (fun tt ht hW => ⟨_, rfl, ⟨e9_0, Or.inl rfl⟩, ht⟩) (fun _ h => by cases h) (dq_172 0 bcX7_isMovable_0 (j := 33) rfl rfl)
  ·
    replace hF := inn c_1 hF
    refine lv_iload_n hx hb (dq_26 0 bcX7_isMovable_0 (j := 7) rfl rfl) rfl (lv_at hl 0 rfl) ?_
    refine lv_sipush (v := 9999) hx hb (dq_17 0 bcX7_isMovable_0 (j := 8) (i := 9999) rfl rfl rfl) (by decide) ?_
    refine lv_icmp_gt (tgt := 32) hx hb (dq_163 0 bcX7_isMovable_0 (j := 11) (i := 21) rfl rfl rfl) (by decide) (fun c_2 => ?_) (fun c_2 => ?_)
    ·
      replace hF := ip c_2 hF
      refine lv_iconst (v := 0) hx hb (dq_3 0 bcX7_isMovable_0 (j := 32) rfl rfl) (by decide) ?_
      rw [hQ]
      obtain e9_0 := inj1 hF
      exact W.zret (v := (0 : Int32)) hx hb hr rfl (fun tt ht hW => ⟨_, rfl, ⟨e9_0, Or.inl rfl⟩, ht⟩) (fun _ h => by cases h) (dq_172 0 bcX7_isMovable_0 (j := 33) rfl rfl)
    ·
      replace hF := inn c_2 hF
      refine lv_iload_n hx hb (dq_27 0 bcX7_isMovable_0 (j := 14) rfl rfl) rfl (lv_at hl 1 rfl) ?_
      refine lv_sipush (v := -9999) hx hb (dq_17 0 bcX7_isMovable_0 (j := 15) (i := -9999) rfl rfl rfl) (by decide) ?_
      refine lv_icmp_lt (tgt := 32) hx hb (dq_161 0 bcX7_isMovable_0 (j := 18) (i := 14) rfl rfl rfl) (by decide) (fun c_3 => ?_) (fun c_3 => ?_)
      ·
        replace hF := ip c_3 hF
        refine lv_iconst (v := 0) hx hb (dq_3 0 bcX7_isMovable_0 (j := 32) rfl rfl) (by decide) ?_
        rw [hQ]
        obtain e9_0 := inj1 hF
        exact W.zret (v := (0 : Int32)) hx hb hr rfl (fun tt ht hW => ⟨_, rfl, ⟨e9_0, Or.inl rfl⟩, ht⟩) (fun _ h => by cases h) (dq_172 0 bcX7_isMovable_0 (j := 33) rfl rfl)
      ·
        replace hF := inn c_3 hF
        refine lv_iload_n hx hb (dq_27 0 bcX7_isMovable_0 (j := 21) rfl rfl) rfl (lv_at hl 1 rfl) ?_
        refine lv_sipush (v := 9999) hx hb (dq_17 0 bcX7_isMovable_0 (j := 22) (i := 9999) rfl rfl rfl) (by decide) ?_
        refine lv_icmp_gt (tgt := 32) hx hb (dq_163 0 bcX7_isMovable_0 (j := 25) (i := 7) rfl rfl rfl) (by decide) (fun c_4 => ?_) (fun c_4 => ?_)
        ·
          replace hF := ip c_4 hF
          refine lv_iconst (v := 0) hx hb (dq_3 0 bcX7_isMovable_0 (j := 32) rfl rfl) (by decide) ?_
          rw [hQ]
          obtain e9_0 := inj1 hF
          exact W.zret (v := (0 : Int32)) hx hb hr rfl (fun tt ht hW => ⟨_, rfl, ⟨e9_0, Or.inl rfl⟩, ht⟩) (fun _ h => by cases h) (dq_172 0 bcX7_isMovable_0 (j := 33) rfl rfl)
        ·
          replace hF := inn c_4 hF
          refine lv_iconst (v := 1) hx hb (dq_4 0 bcX7_isMovable_0 (j := 28) rfl rfl) (by decide) ?_
          refine lv_goto (tgt := 33) hx hb (dq_167 0 bcX7_isMovable_0 (j := 29) (i := 4) rfl rfl rfl) (by decide) ?_
          rw [hQ]
          obtain e9_0 := inj1 hF
          exact W.zret (v := (1 : Int32)) hx hb hr rfl (fun tt ht hW => ⟨_, rfl, ⟨e9_0, Or.inr rfl⟩, ht⟩) (fun _ h => by cases h) (dq_172 0 bcX7_isMovable_0 (j := 33) rfl rfl)

def F_X5_moveRefusal (p1 : Int32) (p2 : Int32) (p3 : Int32) (c_row : Nat → Int32) : Option (Int32) :=
  bd1 (F_X5_hasSite p1 c_row) (fun r_1 => if r_1 = (0 : Int32) then some (0 : Int32) else bd1 (F_X7_isMovable p2 p3) (fun r_5 => if r_5 = (0 : Int32) then some (1 : Int32) else bd1 (F_X5_hasRoom p1 p2 p3 c_row) (fun r_9 => if r_9 = (0 : Int32) then some (1 : Int32) else if p2 = (0 : Int32) then if p3 = (0 : Int32) then some (2 : Int32) else bd1 (F_X5_isFrozen p1 c_row) (fun r_19 => if r_19 = (0 : Int32) then some (-1 : Int32) else some (2 : Int32)) else bd1 (F_X5_isFrozen p1 c_row) (fun r_14 => if r_14 = (0 : Int32) then some (-1 : Int32) else some (2 : Int32)))))
abbrev w_X5_moveRefusal (E : EE) (a_ a_row a_partners a_share a_leftOver : Nat) (c_askedCount : Int32) (c_outcome : Int32) (c_row : Nat → Int32) : va_W := [k_X5 a_ a_row a_partners c_askedCount c_outcome a_share a_leftOver, k_I E a_row 81 c_row]
def v_f_X5_moveRefusal : List Cond := List.cons (.code yX5_moveRefusal cX5_moveRefusal 4 (some .int)) (HAppend.hAppend (α := List Cond) (β := List Cond) (γ := List Cond) [.initialized RX7, .static yX7_isMovable, .methodLink RX5 79 yX5_hasSite, .instanceMethod yX5_hasSite, .selects RX5 yX5_hasSite yX5_hasSite, .initialized RX5, .methodLink RX5 127 yX5_hasRoom, .instanceMethod yX5_hasRoom, .selects RX5 yX5_hasRoom yX5_hasRoom, .methodLink RX5 131 yX5_isFrozen, .instanceMethod yX5_isFrozen, .selects RX5 yX5_isFrozen yX5_isFrozen] (HAppend.hAppend (α := List Cond) (β := List Cond) (γ := List Cond) v_f_X5_hasSite (HAppend.hAppend (α := List Cond) (β := List Cond) (γ := List Cond) v_f_X7_isMovable (HAppend.hAppend (α := List Cond) (β := List Cond) (γ := List Cond) v_f_X5_hasRoom (HAppend.hAppend (α := List Cond) (β := List Cond) (γ := List Cond) v_f_X5_isFrozen [])))))
theorem gw_f_X5_moveRefusal : v_f_X5_moveRefusal.all goodWord = true := gw_c2 (by decide +kernel) (gw_ap gw_f_X5_hasSite (gw_ap gw_f_X7_isMovable (gw_ap gw_f_X5_hasRoom (gw_ap gw_f_X5_isFrozen gw_nil))))
theorem g_f_X5_moveRefusal_f_X5_hasSite_79 : GoodIn v_f_X5_moveRefusal (wsV RX5 79 RX5 yX5_hasSite v_f_X5_hasSite) := goodIn_in gw_f_X5_moveRefusal (in4 3 4 5 6 rfl rfl rfl rfl (fun _ h => List.mem_cons_of_mem _ (List.mem_append_right _ (List.mem_append_left _ h))))
theorem g_f_X5_moveRefusal_f_X7_isMovable_124 : GoodIn v_f_X5_moveRefusal v_f_X7_isMovable := goodIn_sub (fun _ h => List.mem_cons_of_mem _ (List.mem_append_right _ (List.mem_append_right _ (List.mem_append_left _ h)))) gw_f_X7_isMovable
theorem g_f_X5_moveRefusal_f_X5_hasRoom_127 : GoodIn v_f_X5_moveRefusal (wsV RX5 127 RX5 yX5_hasRoom v_f_X5_hasRoom) := goodIn_in gw_f_X5_moveRefusal (in4 7 8 9 6 rfl rfl rfl rfl (fun _ h => List.mem_cons_of_mem _ (List.mem_append_right _ (List.mem_append_right _ (List.mem_append_right _ (List.mem_append_left _ h))))))
theorem g_f_X5_moveRefusal_f_X5_isFrozen_131 : GoodIn v_f_X5_moveRefusal (wsV RX5 131 RX5 yX5_isFrozen v_f_X5_isFrozen) := goodIn_in gw_f_X5_moveRefusal (in4 10 11 12 6 rfl rfl rfl rfl (fun _ h => List.mem_cons_of_mem _ (List.mem_append_right _ (List.mem_append_right _ (List.mem_append_right _ (List.mem_append_right _ (List.mem_append_left _ h)))))))
theorem hd_X5_moveRefusal : yX5_moveRefusal.cls = RX5 ∧ yX5_moveRefusal.cls ≠ "java/lang/invoke/MethodHandle" ∧ yX5_moveRefusal.cls ≠ "java/lang/invoke/VarHandle" ∧ (parseMethodDescriptor yX5_moveRefusal.desc).map (fun d => d.parameters.length) = some 3 := by decide +kernel
set_option maxHeartbeats 4000000 in
set_option maxRecDepth 100000 in
theorem f_X5_moveRefusal (l : Launch) (E : EE) {a_ a_row a_partners a_share a_leftOver : Nat} {p1 : Int32} {p2 : Int32} {p3 : Int32} {c_askedCount : Int32} {c_outcome : Int32} {c_row : Nat → Int32} {rr : Int32} (hF : F_X5_moveRefusal p1 p2 p3 c_row = some rr) : Met l yX5_moveRefusal v_f_X5_moveRefusal (({ frames := 2, cells := 0, slots := 0, locals := 45 } : Room)) (va_Pc [.ref a_, .int p1, .int p2, .int p3] (pP E (w_X5_moveRefusal E a_ a_row a_partners a_share a_leftOver c_askedCount c_outcome c_row))) (vp_Si (fun q : Int32 => q = rr)) 0 0 (fun _ => False) := by
  refine Met.ofW (cc := cX5_moveRefusal) (maxL := 4) (ret := (some .int)) (by decide) rfl ?_
  intro p e s m args below meth c s₁ B hml hv
  obtain ⟨rfl, ⟨hK, hN⟩, hP⟩ := hv
  have hx := B.exec
  have hb := B.bytes
  have hr := B.returns
  have hts := atoms_spec (ws := v_f_X5_moveRefusal) B.pre
  have hown : s.vm.findClass RX5 = some m.cls := own_of hd_X5_moveRefusal.1 (findClass_of_methodNamed B.named)
  have hlocks : meth.locks = false := B.notSynchronized
  replace hP : va_P E.1 vwCl [k_X5 a_ a_row a_partners c_askedCount c_outcome a_share a_leftOver, k_I E a_row 81 c_row] s.heap := hP
  have hl := lv_entry ([.ref a_, .int p1, .int p2, .int p3]) (n := 4) (Nat.le_of_ble_eq_true rfl)
  rw [lg_entry_eq]
  generalize (lg_sl ([.ref a_, .int p1, .int p2, .int p3]) ++ List.replicate (4 - (lg_sl ([.ref a_, .int p1, .int p2, .int p3])).length) Slot.unset).toArray = ls at hl ⊢
  have hl : lv_has ls 4 [(0, .ref a_), (1, .int p1), (2, .int p2), (3, .int p3)] := hl
  obtain ⟨Q, hQ⟩ : ∃ Q : State → Prop, Q = MQ below (vp_Si (fun q : Int32 => q = rr)) #[Value.ref a_, Value.int p1, Value.int p2, Value.int p3] s 0 0 (fun _ => False) := ⟨_, rfl⟩
  rw [← hQ]
  change W p l e ({ frames := 2, cells := 0, slots := 0, locals := 45 } : Room) s m #[Value.ref a_, Value.int p1, Value.int p2, Value.int p3] below meth c s.heap [] 0 0 Q (F0 m 0 ls [])
  unfold F_X5_moveRefusal at hF
  refine lv_aload_n hx hb (dq_42 0 bcX5_moveRefusal_0 (j := 0) rfl rfl) rfl (lv_at hl 0 rfl) ?_
  refine lv_iload_n hx hb (dq_27 0 bcX5_moveRefusal_0 (j := 1) rfl rfl) rfl (lv_at hl 1 rfl) ?_
  replace hF := bd1_s hF
  obtain ⟨r_1, hc_2, hF⟩ := hF
  have hPc : va_P E.1 vwCl (w_X5_hasSite E a_ a_row a_partners a_share a_leftOver c_askedCount c_outcome c_row) s.heap := hP.sub (ws' := [k_X5 a_ a_row a_partners c_askedCount c_outcome a_share a_leftOver, k_I E a_row 81 c_row]) [0, 1] rfl
  have hrc := va_recv hK hPc (ci := 6) (q0 := 0) rfl rfl
  refine pE_z (va_runV (As := [.int p1]) (rest := [])  ⟨hx, hb, hml, hown, hts⟩ (f_X5_hasSite l E (a_ := a_) (a_row := a_row) (a_partners := a_partners) (a_share := a_share) (a_leftOver := a_leftOver) (p1 := p1) (c_askedCount := c_askedCount) (c_outcome := c_outcome) (c_row := c_row) hc_2) (cwV 1 hts g_f_X5_moveRefusal_f_X5_hasSite_79 rfl rfl rfl hd_X5_hasSite ⟨Nat.le_of_ble_eq_true rfl, Nat.le_of_ble_eq_true rfl⟩) ⟨pP.blind, hrc, (pP.pre ⟨hK, hN⟩ hPc)⟩ rfl rfl hl.1 rfl (lv_room (Nat.le_of_ble_eq_true rfl)) (dq_182 0 bcX5_moveRefusal_0 (j := 2) (i := 79) rfl rfl rfl) ⟨Nat.le_of_ble_eq_true rfl, Nat.le_of_ble_eq_true rfl⟩) (fun hb_3 => ?_)
  refine lv_if_ne (tgt := 10) hx hb (dq_154 0 bcX5_moveRefusal_0 (j := 5) (i := 5) rfl rfl rfl) (by decide) (fun c_4 => ?_) (fun c_4 => ?_)
  ·
    replace hF := inn c_4 hF
    refine lv_iload_n hx hb (dq_28 0 bcX5_moveRefusal_0 (j := 10) rfl rfl) rfl (lv_at hl 2 rfl) ?_
    refine lv_iload_n hx hb (dq_29 0 bcX5_moveRefusal_0 (j := 11) rfl rfl) rfl (lv_at hl 3 rfl) ?_
    replace hF := bd1_s hF
    obtain ⟨r_5, hc_6, hF⟩ := hF
    have hPc : va_P E.1 vwCl [] s.heap := fun k q h => by simp at h
    refine pE_z (va_runSN (As := [.int p2, .int p3]) (rest := [])  ⟨hx, hb, hml, hown, hts⟩ (f_X7_isMovable l E (p0 := p2) (p1 := p3) hc_6) ⟨va_cnB 2 hts g_f_X5_moveRefusal_f_X7_isMovable_124 rfl rfl rfl (hN _ (List.mem_of_getElem? (i := 26) rfl)) (hts (.initialized RX7) (List.mem_of_getElem? (i := 1) rfl)) hd_X7_isMovable.2 ⟨Nat.le_of_ble_eq_true rfl, Nat.le_of_ble_eq_true rfl⟩, (hts (.static yX7_isMovable) (List.mem_of_getElem? (i := 2) rfl)), trivial⟩ ⟨pP.blind, (pP.pre ⟨hK, hN⟩ hPc)⟩ rfl rfl hl.1 rfl (lv_room (Nat.le_of_ble_eq_true rfl)) (dq_184 0 bcX5_moveRefusal_0 (j := 12) (i := 124) rfl rfl rfl) ⟨Nat.le_of_ble_eq_true rfl, Nat.le_of_ble_eq_true rfl⟩) (fun hb_7 => ?_)
    refine lv_if_eq (tgt := 28) hx hb (dq_153 0 bcX5_moveRefusal_0 (j := 15) (i := 13) rfl rfl rfl) (by decide) (fun c_8 => ?_) (fun c_8 => ?_)
    ·
      replace hF := ip c_8 hF
      refine lv_iconst (v := 1) hx hb (dq_4 0 bcX5_moveRefusal_0 (j := 28) rfl rfl) (by decide) ?_
      rw [hQ]
      obtain e9_0 := inj1 hF
      exact W.iret (v := (1 : Int32)) hx hb hr (fun tt ht hW => ⟨_, rfl, e9_0, ht⟩) (fun _ h => by cases h) (dq_172 0 bcX5_moveRefusal_0 (j := 29) rfl rfl)
    ·
      replace hF := inn c_8 hF
      refine lv_aload_n hx hb (dq_42 0 bcX5_moveRefusal_0 (j := 18) rfl rfl) rfl (lv_at hl 0 rfl) ?_
      refine lv_iload_n hx hb (dq_27 0 bcX5_moveRefusal_0 (j := 19) rfl rfl) rfl (lv_at hl 1 rfl) ?_
      refine lv_iload_n hx hb (dq_28 0 bcX5_moveRefusal_0 (j := 20) rfl rfl) rfl (lv_at hl 2 rfl) ?_
      refine lv_iload_n hx hb (dq_29 0 bcX5_moveRefusal_0 (j := 21) rfl rfl) rfl (lv_at hl 3 rfl) ?_
      replace hF := bd1_s hF
      obtain ⟨r_9, hc_10, hF⟩ := hF
      have hPc : va_P E.1 vwCl (w_X5_hasRoom E a_ a_row a_partners a_share a_leftOver c_askedCount c_outcome c_row) s.heap := hP.sub (ws' := [k_X5 a_ a_row a_partners c_askedCount c_outcome a_share a_leftOver, k_I E a_row 81 c_row]) [0, 1] rfl
      have hrc := va_recv hK hPc (ci := 6) (q0 := 0) rfl rfl
      refine pE_z (va_runV (As := [.int p1, .int p2, .int p3]) (rest := [])  ⟨hx, hb, hml, hown, hts⟩ (f_X5_hasRoom l E (a_ := a_) (a_row := a_row) (a_partners := a_partners) (a_share := a_share) (a_leftOver := a_leftOver) (p1 := p1) (p2 := p2) (p3 := p3) (c_askedCount := c_askedCount) (c_outcome := c_outcome) (c_row := c_row) hc_10) (cwV 3 hts g_f_X5_moveRefusal_f_X5_hasRoom_127 rfl rfl rfl hd_X5_hasRoom ⟨Nat.le_of_ble_eq_true rfl, Nat.le_of_ble_eq_true rfl⟩) ⟨pP.blind, hrc, (pP.pre ⟨hK, hN⟩ hPc)⟩ rfl rfl hl.1 rfl (lv_room (Nat.le_of_ble_eq_true rfl)) (dq_182 0 bcX5_moveRefusal_0 (j := 22) (i := 127) rfl rfl rfl) ⟨Nat.le_of_ble_eq_true rfl, Nat.le_of_ble_eq_true rfl⟩) (fun hb_11 => ?_)
      refine lv_if_ne (tgt := 30) hx hb (dq_154 0 bcX5_moveRefusal_0 (j := 25) (i := 5) rfl rfl rfl) (by decide) (fun c_12 => ?_) (fun c_12 => ?_)
      ·
        replace hF := inn c_12 hF
        refine lv_iload_n hx hb (dq_28 0 bcX5_moveRefusal_0 (j := 30) rfl rfl) rfl (lv_at hl 2 rfl) ?_
        refine lv_if_ne (tgt := 38) hx hb (dq_154 0 bcX5_moveRefusal_0 (j := 31) (i := 7) rfl rfl rfl) (by decide) (fun c_13 => ?_) (fun c_13 => ?_)
        ·
          replace hF := inn c_13 hF
          refine lv_aload_n hx hb (dq_42 0 bcX5_moveRefusal_0 (j := 38) rfl rfl) rfl (lv_at hl 0 rfl) ?_
          refine lv_iload_n hx hb (dq_27 0 bcX5_moveRefusal_0 (j := 39) rfl rfl) rfl (lv_at hl 1 rfl) ?_
          replace hF := bd1_s hF
          obtain ⟨r_14, hc_15, hF⟩ := hF
          have hPc : va_P E.1 vwCl (w_X5_isFrozen E a_ a_row a_partners a_share a_leftOver c_askedCount c_outcome c_row) s.heap := hP.sub (ws' := [k_X5 a_ a_row a_partners c_askedCount c_outcome a_share a_leftOver, k_I E a_row 81 c_row]) [0, 1] rfl
          have hrc := va_recv hK hPc (ci := 6) (q0 := 0) rfl rfl
          refine pE_z (va_runV (As := [.int p1]) (rest := [])  ⟨hx, hb, hml, hown, hts⟩ (f_X5_isFrozen l E (a_ := a_) (a_row := a_row) (a_partners := a_partners) (a_share := a_share) (a_leftOver := a_leftOver) (p1 := p1) (c_askedCount := c_askedCount) (c_outcome := c_outcome) (c_row := c_row) hc_15) (cwV 1 hts g_f_X5_moveRefusal_f_X5_isFrozen_131 rfl rfl rfl hd_X5_isFrozen ⟨Nat.le_of_ble_eq_true rfl, Nat.le_of_ble_eq_true rfl⟩) ⟨pP.blind, hrc, (pP.pre ⟨hK, hN⟩ hPc)⟩ rfl rfl hl.1 rfl (lv_room (Nat.le_of_ble_eq_true rfl)) (dq_182 0 bcX5_moveRefusal_0 (j := 40) (i := 131) rfl rfl rfl) ⟨Nat.le_of_ble_eq_true rfl, Nat.le_of_ble_eq_true rfl⟩) (fun hb_16 => ?_)
          refine lv_if_eq (tgt := 50) hx hb (dq_153 0 bcX5_moveRefusal_0 (j := 43) (i := 7) rfl rfl rfl) (by decide) (fun c_17 => ?_) (fun c_17 => ?_)
          ·
            replace hF := ip c_17 hF
            refine lv_iconst (v := -1) hx hb (dq_2 48 bcX5_moveRefusal_1 (j := 2) rfl rfl) (by decide) ?_
            rw [hQ]
            obtain e9_0 := inj1 hF
            exact W.iret (v := (-1 : Int32)) hx hb hr (fun tt ht hW => ⟨_, rfl, e9_0, ht⟩) (fun _ h => by cases h) (dq_172 48 bcX5_moveRefusal_1 (j := 3) rfl rfl)
          ·
            replace hF := inn c_17 hF
            refine lv_iconst (v := 2) hx hb (dq_5 0 bcX5_moveRefusal_0 (j := 46) rfl rfl) (by decide) ?_
            refine lv_goto (tgt := 51) hx hb (dq_167 0 bcX5_moveRefusal_0 (j := 47) (i := 4) rfl rfl rfl) (by decide) ?_
            rw [hQ]
            obtain e9_0 := inj1 hF
            exact W.iret (v := (2 : Int32)) hx hb hr (fun tt ht hW => ⟨_, rfl, e9_0, ht⟩) (fun _ h => by cases h) (dq_172 48 bcX5_moveRefusal_1 (j := 3) rfl rfl)
        ·
          replace hF := ip c_13 hF
          refine lv_iload_n hx hb (dq_29 0 bcX5_moveRefusal_0 (j := 34) rfl rfl) rfl (lv_at hl 3 rfl) ?_
          refine lv_if_eq (tgt := 46) hx hb (dq_153 0 bcX5_moveRefusal_0 (j := 35) (i := 11) rfl rfl rfl) (by decide) (fun c_18 => ?_) (fun c_18 => ?_)
          ·
            replace hF := ip c_18 hF
            refine lv_iconst (v := 2) hx hb (dq_5 0 bcX5_moveRefusal_0 (j := 46) rfl rfl) (by decide) ?_
            refine lv_goto (tgt := 51) hx hb (dq_167 0 bcX5_moveRefusal_0 (j := 47) (i := 4) rfl rfl rfl) (by decide) ?_
            rw [hQ]
            obtain e9_0 := inj1 hF
            exact W.iret (v := (2 : Int32)) hx hb hr (fun tt ht hW => ⟨_, rfl, e9_0, ht⟩) (fun _ h => by cases h) (dq_172 48 bcX5_moveRefusal_1 (j := 3) rfl rfl)
          ·
            replace hF := inn c_18 hF
            refine lv_aload_n hx hb (dq_42 0 bcX5_moveRefusal_0 (j := 38) rfl rfl) rfl (lv_at hl 0 rfl) ?_
            refine lv_iload_n hx hb (dq_27 0 bcX5_moveRefusal_0 (j := 39) rfl rfl) rfl (lv_at hl 1 rfl) ?_
            replace hF := bd1_s hF
            obtain ⟨r_19, hc_20, hF⟩ := hF
            have hPc : va_P E.1 vwCl (w_X5_isFrozen E a_ a_row a_partners a_share a_leftOver c_askedCount c_outcome c_row) s.heap := hP.sub (ws' := [k_X5 a_ a_row a_partners c_askedCount c_outcome a_share a_leftOver, k_I E a_row 81 c_row]) [0, 1] rfl
            have hrc := va_recv hK hPc (ci := 6) (q0 := 0) rfl rfl
            refine pE_z (va_runV (As := [.int p1]) (rest := [])  ⟨hx, hb, hml, hown, hts⟩ (f_X5_isFrozen l E (a_ := a_) (a_row := a_row) (a_partners := a_partners) (a_share := a_share) (a_leftOver := a_leftOver) (p1 := p1) (c_askedCount := c_askedCount) (c_outcome := c_outcome) (c_row := c_row) hc_20) (cwV 1 hts g_f_X5_moveRefusal_f_X5_isFrozen_131 rfl rfl rfl hd_X5_isFrozen ⟨Nat.le_of_ble_eq_true rfl, Nat.le_of_ble_eq_true rfl⟩) ⟨pP.blind, hrc, (pP.pre ⟨hK, hN⟩ hPc)⟩ rfl rfl hl.1 rfl (lv_room (Nat.le_of_ble_eq_true rfl)) (dq_182 0 bcX5_moveRefusal_0 (j := 40) (i := 131) rfl rfl rfl) ⟨Nat.le_of_ble_eq_true rfl, Nat.le_of_ble_eq_true rfl⟩) (fun hb_21 => ?_)
            refine lv_if_eq (tgt := 50) hx hb (dq_153 0 bcX5_moveRefusal_0 (j := 43) (i := 7) rfl rfl rfl) (by decide) (fun c_22 => ?_) (fun c_22 => ?_)
            ·
              replace hF := ip c_22 hF
              refine lv_iconst (v := -1) hx hb (dq_2 48 bcX5_moveRefusal_1 (j := 2) rfl rfl) (by decide) ?_
              rw [hQ]
              obtain e9_0 := inj1 hF
              exact W.iret (v := (-1 : Int32)) hx hb hr (fun tt ht hW => ⟨_, rfl, e9_0, ht⟩) (fun _ h => by cases h) (dq_172 48 bcX5_moveRefusal_1 (j := 3) rfl rfl)
            ·
              replace hF := inn c_22 hF
              refine lv_iconst (v := 2) hx hb (dq_5 0 bcX5_moveRefusal_0 (j := 46) rfl rfl) (by decide) ?_
              refine lv_goto (tgt := 51) hx hb (dq_167 0 bcX5_moveRefusal_0 (j := 47) (i := 4) rfl rfl rfl) (by decide) ?_
              rw [hQ]
              obtain e9_0 := inj1 hF
              exact W.iret (v := (2 : Int32)) hx hb hr (fun tt ht hW => ⟨_, rfl, e9_0, ht⟩) (fun _ h => by cases h) (dq_172 48 bcX5_moveRefusal_1 (j := 3) rfl rfl)
      ·
        replace hF := ip c_12 hF
        refine lv_iconst (v := 1) hx hb (dq_4 0 bcX5_moveRefusal_0 (j := 28) rfl rfl) (by decide) ?_
        rw [hQ]
        obtain e9_0 := inj1 hF
        exact W.iret (v := (1 : Int32)) hx hb hr (fun tt ht hW => ⟨_, rfl, e9_0, ht⟩) (fun _ h => by cases h) (dq_172 0 bcX5_moveRefusal_0 (j := 29) rfl rfl)
  ·
    replace hF := ip c_4 hF
    refine lv_iconst (v := 0) hx hb (dq_3 0 bcX5_moveRefusal_0 (j := 8) rfl rfl) (by decide) ?_
    rw [hQ]
    obtain e9_0 := inj1 hF
    exact W.iret (v := (0 : Int32)) hx hb hr (fun tt ht hW => ⟨_, rfl, e9_0, ht⟩) (fun _ h => by cases h) (dq_172 0 bcX5_moveRefusal_0 (j := 9) rfl rfl)

def J_X5_point_19 (p1 : Int32) (p2 : Int32) (c_row : Nat → Int32) (k0 : Int32) : Option (Int32) :=
  bd1 (F_X5_drift p1 p2 c_row) (fun r_2 => some (k0 + ((c_row 3) * r_2)))
def F_X5_point (p1 : Int32) (p2 : Int32) (c_row : Nat → Int32) : Option (Int32) :=
  if p2 = (0 : Int32) then J_X5_point_19 p1 p2 c_row (c_row 4) else J_X5_point_19 p1 p2 c_row (c_row 5)
abbrev w_X5_point (E : EE) (a_ a_row a_partners a_share a_leftOver : Nat) (c_askedCount : Int32) (c_outcome : Int32) (c_row : Nat → Int32) : va_W := [k_X5 a_ a_row a_partners c_askedCount c_outcome a_share a_leftOver, k_I E a_row 81 c_row]
def v_f_X5_point : List Cond := List.cons (.code yX5_point cX5_point 3 (some .int)) (HAppend.hAppend (α := List Cond) (β := List Cond) (γ := List Cond) [.fieldLink RX5 11 "HushWatch$State" "row" "[I", .methodLink RX5 72 yX5_drift, .instanceMethod yX5_drift, .selects RX5 yX5_drift yX5_drift, .initialized RX5] (HAppend.hAppend (α := List Cond) (β := List Cond) (γ := List Cond) wsX50 (HAppend.hAppend (α := List Cond) (β := List Cond) (γ := List Cond) v_f_X5_drift [])))
theorem gw_f_X5_point : v_f_X5_point.all goodWord = true := gw_c2 (by decide +kernel) (gw_ap gw_wsX50 (gw_ap gw_f_X5_drift gw_nil))
theorem i_f_X5_point_X5 : ∀ w ∈ wsX50, w ∈ v_f_X5_point := fun _ h => List.mem_cons_of_mem _ (List.mem_append_right _ (List.mem_append_left _ h))
theorem g_f_X5_point_f_X5_drift_72 : GoodIn v_f_X5_point (wsV RX5 72 RX5 yX5_drift v_f_X5_drift) := goodIn_in gw_f_X5_point (in4 2 3 4 5 rfl rfl rfl rfl (fun _ h => List.mem_cons_of_mem _ (List.mem_append_right _ (List.mem_append_right _ (List.mem_append_left _ h)))))
theorem hd_X5_point : yX5_point.cls = RX5 ∧ yX5_point.cls ≠ "java/lang/invoke/MethodHandle" ∧ yX5_point.cls ≠ "java/lang/invoke/VarHandle" ∧ (parseMethodDescriptor yX5_point.desc).map (fun d => d.parameters.length) = some 2 := by decide +kernel
set_option maxHeartbeats 4000000 in
set_option maxRecDepth 100000 in
theorem j_X5_point_19 {p : Program} (l : Launch) {e : Env} {s : State} {m : MethodId} {below : List Frame} {meth : Method} {c : Code} {Q : State → Prop} (E : EE) {a_ a_row a_partners a_share a_leftOver : Nat} {p1 : Int32} {p2 : Int32} {c_askedCount : Int32} {c_outcome : Int32} {c_row : Nat → Int32} {k0 : Int32} (hx : p.tables.exec = Jvm.exec) (hb : c.code = cX5_point) (hml : c.maxLocals = 3) (hown : s.vm.findClass RX5 = some m.cls) (hts : ∀ w ∈ v_f_X5_point, w.before #[Value.ref a_, Value.int p1, Value.int p2] s = true) (hK : va_K E.1 vwCl (TY E) s) (hN : NX s) {rr : Int32} (hr : meth.sig.returnType = (some .int)) (hlocks : meth.locks = false) (hQ : Q = MQ below (vp_Si (fun q : Int32 => q = rr)) #[Value.ref a_, Value.int p1, Value.int p2] s 0 0 (fun _ => False)) (hF : J_X5_point_19 p1 p2 c_row k0 = some rr) (hP : va_P E.1 vwCl (w_X5_point E a_ a_row a_partners a_share a_leftOver c_askedCount c_outcome c_row) s.heap) : ∀ (ls : Array Slot), lv_has ls 3 [(0, .ref a_), (1, .int p1), (2, .int p2)] → W p l e ({ frames := 1, cells := 0, slots := 0, locals := 23 } : Room) s m #[Value.ref a_, Value.int p1, Value.int p2] below meth c s.heap [] 0 0 Q (F0 m 19 ls [.int k0]) := by
  unfold J_X5_point_19 at hF
  replace hP : va_P E.1 vwCl [k_X5 a_ a_row a_partners c_askedCount c_outcome a_share a_leftOver, k_I E a_row 81 c_row] s.heap := hP
  intro ls hl
  refine lv_aload_n hx hb (dq_42 0 bcX5_point_0 (j := 19) rfl rfl) rfl (lv_at hl 0 rfl) ?_
  refine gt_X5_0 (v := .ref a_row) hx hb hts i_f_X5_point_X5 hown hK hP 0 rfl (hts (.fieldLink RX5 11 "HushWatch$State" "row" "[I") (List.mem_of_getElem? (i := 1) rfl)) rfl (dq_180 0 bcX5_point_0 (j := 20) (i := 11) rfl rfl rfl) ?_
  refine lv_iconst (v := 3) hx hb (dq_6 0 bcX5_point_0 (j := 23) rfl rfl) (by decide) ?_
  refine va_iald hx hb hK hP 1 0 rfl rfl (vin rfl) (dq_46 0 bcX5_point_0 (j := 24) rfl rfl) ?_
  refine W.eq (g2 := F0 m 25 ls [.int (c_row 3), .int k0]) rfl ?_
  refine lv_aload_n hx hb (dq_42 0 bcX5_point_0 (j := 25) rfl rfl) rfl (lv_at hl 0 rfl) ?_
  refine lv_iload_n hx hb (dq_27 0 bcX5_point_0 (j := 26) rfl rfl) rfl (lv_at hl 1 rfl) ?_
  refine lv_iload_n hx hb (dq_28 0 bcX5_point_0 (j := 27) rfl rfl) rfl (lv_at hl 2 rfl) ?_
  replace hF := bd1_s hF
  obtain ⟨r_2, hc_3, hF⟩ := hF
  have hPc : va_P E.1 vwCl (w_X5_drift E a_ a_row a_partners a_share a_leftOver c_askedCount c_outcome c_row) s.heap := hP.sub (ws' := [k_X5 a_ a_row a_partners c_askedCount c_outcome a_share a_leftOver, k_I E a_row 81 c_row]) [0, 1] rfl
  have hrc := va_recv hK hPc (ci := 6) (q0 := 0) rfl rfl
  refine pE_i (va_runV (As := [.int p1, .int p2]) (rest := [.int (c_row 3), .int k0])  ⟨hx, hb, hml, hown, hts⟩ (f_X5_drift l E (a_ := a_) (a_row := a_row) (a_partners := a_partners) (a_share := a_share) (a_leftOver := a_leftOver) (p1 := p1) (p2 := p2) (c_askedCount := c_askedCount) (c_outcome := c_outcome) (c_row := c_row) hc_3) (cwV 2 hts g_f_X5_point_f_X5_drift_72 rfl rfl rfl hd_X5_drift ⟨Nat.le_of_ble_eq_true rfl, Nat.le_of_ble_eq_true rfl⟩) ⟨pP.blind, hrc, (pP.pre ⟨hK, hN⟩ hPc)⟩ rfl rfl hl.1 rfl (lv_room (Nat.le_of_ble_eq_true rfl)) (dq_182 0 bcX5_point_0 (j := 28) (i := 72) rfl rfl rfl) ⟨Nat.le_of_ble_eq_true rfl, Nat.le_of_ble_eq_true rfl⟩) ?_
  refine lv_imul hx hb (dq_104 0 bcX5_point_0 (j := 31) rfl rfl) ?_
  refine lv_iadd hx hb (dq_96 0 bcX5_point_0 (j := 32) rfl rfl) ?_
  rw [hQ]
  obtain e9_0 := inj1 hF
  exact W.iret (v := k0 + ((c_row 3) * r_2)) hx hb hr (fun tt ht hW => ⟨_, rfl, e9_0, ht⟩) (fun _ h => by cases h) (dq_172 0 bcX5_point_0 (j := 33) rfl rfl)

set_option maxHeartbeats 4000000 in
set_option maxRecDepth 100000 in
theorem f_X5_point (l : Launch) (E : EE) {a_ a_row a_partners a_share a_leftOver : Nat} {p1 : Int32} {p2 : Int32} {c_askedCount : Int32} {c_outcome : Int32} {c_row : Nat → Int32} {rr : Int32} (hF : F_X5_point p1 p2 c_row = some rr) : Met l yX5_point v_f_X5_point (({ frames := 1, cells := 0, slots := 0, locals := 23 } : Room)) (va_Pc [.ref a_, .int p1, .int p2] (pP E (w_X5_point E a_ a_row a_partners a_share a_leftOver c_askedCount c_outcome c_row))) (vp_Si (fun q : Int32 => q = rr)) 0 0 (fun _ => False) := by
  refine Met.ofW (cc := cX5_point) (maxL := 3) (ret := (some .int)) (by decide) rfl ?_
  intro p e s m args below meth c s₁ B hml hv
  obtain ⟨rfl, ⟨hK, hN⟩, hP⟩ := hv
  have hx := B.exec
  have hb := B.bytes
  have hr := B.returns
  have hts := atoms_spec (ws := v_f_X5_point) B.pre
  have hown : s.vm.findClass RX5 = some m.cls := own_of hd_X5_point.1 (findClass_of_methodNamed B.named)
  have hlocks : meth.locks = false := B.notSynchronized
  replace hP : va_P E.1 vwCl [k_X5 a_ a_row a_partners c_askedCount c_outcome a_share a_leftOver, k_I E a_row 81 c_row] s.heap := hP
  have hl := lv_entry ([.ref a_, .int p1, .int p2]) (n := 3) (Nat.le_of_ble_eq_true rfl)
  rw [lg_entry_eq]
  generalize (lg_sl ([.ref a_, .int p1, .int p2]) ++ List.replicate (3 - (lg_sl ([.ref a_, .int p1, .int p2])).length) Slot.unset).toArray = ls at hl ⊢
  have hl : lv_has ls 3 [(0, .ref a_), (1, .int p1), (2, .int p2)] := hl
  obtain ⟨Q, hQ⟩ : ∃ Q : State → Prop, Q = MQ below (vp_Si (fun q : Int32 => q = rr)) #[Value.ref a_, Value.int p1, Value.int p2] s 0 0 (fun _ => False) := ⟨_, rfl⟩
  rw [← hQ]
  change W p l e ({ frames := 1, cells := 0, slots := 0, locals := 23 } : Room) s m #[Value.ref a_, Value.int p1, Value.int p2] below meth c s.heap [] 0 0 Q (F0 m 0 ls [])
  unfold F_X5_point at hF
  refine lv_iload_n hx hb (dq_28 0 bcX5_point_0 (j := 0) rfl rfl) rfl (lv_at hl 2 rfl) ?_
  refine lv_if_ne (tgt := 13) hx hb (dq_154 0 bcX5_point_0 (j := 1) (i := 12) rfl rfl rfl) (by decide) (fun c_1 => ?_) (fun c_1 => ?_)
  ·
    replace hF := inn c_1 hF
    refine lv_aload_n hx hb (dq_42 0 bcX5_point_0 (j := 13) rfl rfl) rfl (lv_at hl 0 rfl) ?_
    refine gt_X5_0 (v := .ref a_row) hx hb hts i_f_X5_point_X5 hown hK hP 0 rfl (hts (.fieldLink RX5 11 "HushWatch$State" "row" "[I") (List.mem_of_getElem? (i := 1) rfl)) rfl (dq_180 0 bcX5_point_0 (j := 14) (i := 11) rfl rfl rfl) ?_
    refine lv_iconst (v := 5) hx hb (dq_8 0 bcX5_point_0 (j := 17) rfl rfl) (by decide) ?_
    refine va_iald hx hb hK hP 1 0 rfl rfl (vin rfl) (dq_46 0 bcX5_point_0 (j := 18) rfl rfl) ?_
    refine W.eq (g2 := F0 m 19 ls [.int (c_row 5)]) rfl ?_
    exact j_X5_point_19 l E (p1 := p1) (p2 := p2) (c_askedCount := c_askedCount) (c_outcome := c_outcome) (c_row := c_row) (k0 := c_row 5) hx hb hml hown hts hK hN hr hlocks hQ hF hP ls (lv_sub hl [0, 1, 2] rfl)
  ·
    replace hF := ip c_1 hF
    refine lv_aload_n hx hb (dq_42 0 bcX5_point_0 (j := 4) rfl rfl) rfl (lv_at hl 0 rfl) ?_
    refine gt_X5_0 (v := .ref a_row) hx hb hts i_f_X5_point_X5 hown hK hP 0 rfl (hts (.fieldLink RX5 11 "HushWatch$State" "row" "[I") (List.mem_of_getElem? (i := 1) rfl)) rfl (dq_180 0 bcX5_point_0 (j := 5) (i := 11) rfl rfl rfl) ?_
    refine lv_iconst (v := 4) hx hb (dq_7 0 bcX5_point_0 (j := 8) rfl rfl) (by decide) ?_
    refine va_iald hx hb hK hP 1 0 rfl rfl (vin rfl) (dq_46 0 bcX5_point_0 (j := 9) rfl rfl) ?_
    refine W.eq (g2 := F0 m 10 ls [.int (c_row 4)]) rfl ?_
    refine lv_goto (tgt := 19) hx hb (dq_167 0 bcX5_point_0 (j := 10) (i := 9) rfl rfl rfl) (by decide) ?_
    exact j_X5_point_19 l E (p1 := p1) (p2 := p2) (c_askedCount := c_askedCount) (c_outcome := c_outcome) (c_row := c_row) (k0 := c_row 4) hx hb hml hown hts hK hN hr hlocks hQ hF hP ls (lv_sub hl [0, 1, 2] rfl)

def F_X5_pointValue (p1 : Int32) (p2 : Int32) (p3 : Int32) (c_row : Nat → Int32) : Option (Int64) :=
  bd1 (F_X5_point p1 (0 : Int32) c_row) (fun r_1 => bd1 (F_X5_point p1 (1 : Int32) c_row) (fun r_3 => bd1 (F_X5_valueOf ((r_1 + ((c_row 3) * p2)).toInt64) ((r_3 + ((c_row 3) * p3)).toInt64) c_row) (fun r_5 => some r_5)))
abbrev w_X5_pointValue (E : EE) (a_ a_row a_partners a_share a_leftOver : Nat) (c_askedCount : Int32) (c_outcome : Int32) (c_row : Nat → Int32) : va_W := [k_X5 a_ a_row a_partners c_askedCount c_outcome a_share a_leftOver, k_I E a_row 81 c_row]
def v_f_X5_pointValue : List Cond := List.cons (.code yX5_pointValue cX5_pointValue 4 (some .long)) (HAppend.hAppend (α := List Cond) (β := List Cond) (γ := List Cond) [.fieldLink RX5 11 "HushWatch$State" "row" "[I", .methodLink RX5 91 yX5_point, .instanceMethod yX5_point, .selects RX5 yX5_point yX5_point, .initialized RX5, .methodLink RX5 75 yX5_valueOf, .instanceMethod yX5_valueOf, .selects RX5 yX5_valueOf yX5_valueOf] (HAppend.hAppend (α := List Cond) (β := List Cond) (γ := List Cond) v_f_X5_point (HAppend.hAppend (α := List Cond) (β := List Cond) (γ := List Cond) wsX50 (HAppend.hAppend (α := List Cond) (β := List Cond) (γ := List Cond) v_f_X5_valueOf []))))
theorem gw_f_X5_pointValue : v_f_X5_pointValue.all goodWord = true := gw_c2 (by decide +kernel) (gw_ap gw_f_X5_point (gw_ap gw_wsX50 (gw_ap gw_f_X5_valueOf gw_nil)))
theorem i_f_X5_pointValue_X5 : ∀ w ∈ wsX50, w ∈ v_f_X5_pointValue := fun _ h => List.mem_cons_of_mem _ (List.mem_append_right _ (List.mem_append_right _ (List.mem_append_left _ h)))
theorem g_f_X5_pointValue_f_X5_point_91 : GoodIn v_f_X5_pointValue (wsV RX5 91 RX5 yX5_point v_f_X5_point) := goodIn_in gw_f_X5_pointValue (in4 2 3 4 5 rfl rfl rfl rfl (fun _ h => List.mem_cons_of_mem _ (List.mem_append_right _ (List.mem_append_left _ h))))
theorem g_f_X5_pointValue_f_X5_valueOf_75 : GoodIn v_f_X5_pointValue (wsV RX5 75 RX5 yX5_valueOf v_f_X5_valueOf) := goodIn_in gw_f_X5_pointValue (in4 6 7 8 5 rfl rfl rfl rfl (fun _ h => List.mem_cons_of_mem _ (List.mem_append_right _ (List.mem_append_right _ (List.mem_append_right _ (List.mem_append_left _ h))))))
theorem hd_X5_pointValue : yX5_pointValue.cls = RX5 ∧ yX5_pointValue.cls ≠ "java/lang/invoke/MethodHandle" ∧ yX5_pointValue.cls ≠ "java/lang/invoke/VarHandle" ∧ (parseMethodDescriptor yX5_pointValue.desc).map (fun d => d.parameters.length) = some 3 := by decide +kernel
set_option maxHeartbeats 4000000 in
set_option maxRecDepth 100000 in
theorem f_X5_pointValue (l : Launch) (E : EE) {a_ a_row a_partners a_share a_leftOver : Nat} {p1 : Int32} {p2 : Int32} {p3 : Int32} {c_askedCount : Int32} {c_outcome : Int32} {c_row : Nat → Int32} {rr : Int64} (hF : F_X5_pointValue p1 p2 p3 c_row = some rr) : Met l yX5_pointValue v_f_X5_pointValue (({ frames := 2, cells := 0, slots := 0, locals := 45 } : Room)) (va_Pc [.ref a_, .int p1, .int p2, .int p3] (pP E (w_X5_pointValue E a_ a_row a_partners a_share a_leftOver c_askedCount c_outcome c_row))) (vp_Sl (fun q : Int64 => q = rr)) 0 0 (fun _ => False) := by
  refine Met.ofW (cc := cX5_pointValue) (maxL := 4) (ret := (some .long)) (by decide) rfl ?_
  intro p e s m args below meth c s₁ B hml hv
  obtain ⟨rfl, ⟨hK, hN⟩, hP⟩ := hv
  have hx := B.exec
  have hb := B.bytes
  have hr := B.returns
  have hts := atoms_spec (ws := v_f_X5_pointValue) B.pre
  have hown : s.vm.findClass RX5 = some m.cls := own_of hd_X5_pointValue.1 (findClass_of_methodNamed B.named)
  have hlocks : meth.locks = false := B.notSynchronized
  replace hP : va_P E.1 vwCl [k_X5 a_ a_row a_partners c_askedCount c_outcome a_share a_leftOver, k_I E a_row 81 c_row] s.heap := hP
  have hl := lv_entry ([.ref a_, .int p1, .int p2, .int p3]) (n := 4) (Nat.le_of_ble_eq_true rfl)
  rw [lg_entry_eq]
  generalize (lg_sl ([.ref a_, .int p1, .int p2, .int p3]) ++ List.replicate (4 - (lg_sl ([.ref a_, .int p1, .int p2, .int p3])).length) Slot.unset).toArray = ls at hl ⊢
  have hl : lv_has ls 4 [(0, .ref a_), (1, .int p1), (2, .int p2), (3, .int p3)] := hl
  obtain ⟨Q, hQ⟩ : ∃ Q : State → Prop, Q = MQ below (vp_Sl (fun q : Int64 => q = rr)) #[Value.ref a_, Value.int p1, Value.int p2, Value.int p3] s 0 0 (fun _ => False) := ⟨_, rfl⟩
  rw [← hQ]
  change W p l e ({ frames := 2, cells := 0, slots := 0, locals := 45 } : Room) s m #[Value.ref a_, Value.int p1, Value.int p2, Value.int p3] below meth c s.heap [] 0 0 Q (F0 m 0 ls [])
  unfold F_X5_pointValue at hF
  refine lv_aload_n hx hb (dq_42 0 bcX5_pointValue_0 (j := 0) rfl rfl) rfl (lv_at hl 0 rfl) ?_
  refine lv_aload_n hx hb (dq_42 0 bcX5_pointValue_0 (j := 1) rfl rfl) rfl (lv_at hl 0 rfl) ?_
  refine lv_iload_n hx hb (dq_27 0 bcX5_pointValue_0 (j := 2) rfl rfl) rfl (lv_at hl 1 rfl) ?_
  refine lv_iconst (v := 0) hx hb (dq_3 0 bcX5_pointValue_0 (j := 3) rfl rfl) (by decide) ?_
  replace hF := bd1_s hF
  obtain ⟨r_1, hc_2, hF⟩ := hF
  have hPc : va_P E.1 vwCl (w_X5_point E a_ a_row a_partners a_share a_leftOver c_askedCount c_outcome c_row) s.heap := hP.sub (ws' := [k_X5 a_ a_row a_partners c_askedCount c_outcome a_share a_leftOver, k_I E a_row 81 c_row]) [0, 1] rfl
  have hrc := va_recv hK hPc (ci := 6) (q0 := 0) rfl rfl
  refine pE_i (va_runV (As := [.int p1, .int (0 : Int32)]) (rest := [.ref a_])  ⟨hx, hb, hml, hown, hts⟩ (f_X5_point l E (a_ := a_) (a_row := a_row) (a_partners := a_partners) (a_share := a_share) (a_leftOver := a_leftOver) (p1 := p1) (p2 := (0 : Int32)) (c_askedCount := c_askedCount) (c_outcome := c_outcome) (c_row := c_row) hc_2) (cwV 2 hts g_f_X5_pointValue_f_X5_point_91 rfl rfl rfl hd_X5_point ⟨Nat.le_of_ble_eq_true rfl, Nat.le_of_ble_eq_true rfl⟩) ⟨pP.blind, hrc, (pP.pre ⟨hK, hN⟩ hPc)⟩ rfl rfl hl.1 rfl (lv_room (Nat.le_of_ble_eq_true rfl)) (dq_182 0 bcX5_pointValue_0 (j := 4) (i := 91) rfl rfl rfl) ⟨Nat.le_of_ble_eq_true rfl, Nat.le_of_ble_eq_true rfl⟩) ?_
  refine lv_aload_n hx hb (dq_42 0 bcX5_pointValue_0 (j := 7) rfl rfl) rfl (lv_at hl 0 rfl) ?_
  refine gt_X5_0 (v := .ref a_row) hx hb hts i_f_X5_pointValue_X5 hown hK hP 0 rfl (hts (.fieldLink RX5 11 "HushWatch$State" "row" "[I") (List.mem_of_getElem? (i := 1) rfl)) rfl (dq_180 0 bcX5_pointValue_0 (j := 8) (i := 11) rfl rfl rfl) ?_
  refine lv_iconst (v := 3) hx hb (dq_6 0 bcX5_pointValue_0 (j := 11) rfl rfl) (by decide) ?_
  refine va_iald hx hb hK hP 1 0 rfl rfl (vin rfl) (dq_46 0 bcX5_pointValue_0 (j := 12) rfl rfl) ?_
  refine W.eq (g2 := F0 m 13 ls [.int (c_row 3), .int r_1, .ref a_]) rfl ?_
  refine lv_iload_n hx hb (dq_28 0 bcX5_pointValue_0 (j := 13) rfl rfl) rfl (lv_at hl 2 rfl) ?_
  refine lv_imul hx hb (dq_104 0 bcX5_pointValue_0 (j := 14) rfl rfl) ?_
  refine lv_iadd hx hb (dq_96 0 bcX5_pointValue_0 (j := 15) rfl rfl) ?_
  refine lv_i2l (v := (r_1 + ((c_row 3) * p2)).toInt64) hx hb (dq_133 0 bcX5_pointValue_0 (j := 16) rfl rfl) rfl ?_
  refine lv_aload_n hx hb (dq_42 0 bcX5_pointValue_0 (j := 17) rfl rfl) rfl (lv_at hl 0 rfl) ?_
  refine lv_iload_n hx hb (dq_27 0 bcX5_pointValue_0 (j := 18) rfl rfl) rfl (lv_at hl 1 rfl) ?_
  refine lv_iconst (v := 1) hx hb (dq_4 0 bcX5_pointValue_0 (j := 19) rfl rfl) (by decide) ?_
  replace hF := bd1_s hF
  obtain ⟨r_3, hc_4, hF⟩ := hF
  have hPc : va_P E.1 vwCl (w_X5_point E a_ a_row a_partners a_share a_leftOver c_askedCount c_outcome c_row) s.heap := hP.sub (ws' := [k_X5 a_ a_row a_partners c_askedCount c_outcome a_share a_leftOver, k_I E a_row 81 c_row]) [0, 1] rfl
  have hrc := va_recv hK hPc (ci := 6) (q0 := 0) rfl rfl
  refine pE_i (va_runV (As := [.int p1, .int (1 : Int32)]) (rest := [.long ((r_1 + ((c_row 3) * p2)).toInt64), .ref a_])  ⟨hx, hb, hml, hown, hts⟩ (f_X5_point l E (a_ := a_) (a_row := a_row) (a_partners := a_partners) (a_share := a_share) (a_leftOver := a_leftOver) (p1 := p1) (p2 := (1 : Int32)) (c_askedCount := c_askedCount) (c_outcome := c_outcome) (c_row := c_row) hc_4) (cwV 2 hts g_f_X5_pointValue_f_X5_point_91 rfl rfl rfl hd_X5_point ⟨Nat.le_of_ble_eq_true rfl, Nat.le_of_ble_eq_true rfl⟩) ⟨pP.blind, hrc, (pP.pre ⟨hK, hN⟩ hPc)⟩ rfl rfl hl.1 rfl (lv_room (Nat.le_of_ble_eq_true rfl)) (dq_182 0 bcX5_pointValue_0 (j := 20) (i := 91) rfl rfl rfl) ⟨Nat.le_of_ble_eq_true rfl, Nat.le_of_ble_eq_true rfl⟩) ?_
  refine lv_aload_n hx hb (dq_42 0 bcX5_pointValue_0 (j := 23) rfl rfl) rfl (lv_at hl 0 rfl) ?_
  refine gt_X5_0 (v := .ref a_row) hx hb hts i_f_X5_pointValue_X5 hown hK hP 0 rfl (hts (.fieldLink RX5 11 "HushWatch$State" "row" "[I") (List.mem_of_getElem? (i := 1) rfl)) rfl (dq_180 0 bcX5_pointValue_0 (j := 24) (i := 11) rfl rfl rfl) ?_
  refine lv_iconst (v := 3) hx hb (dq_6 0 bcX5_pointValue_0 (j := 27) rfl rfl) (by decide) ?_
  refine va_iald hx hb hK hP 1 0 rfl rfl (vin rfl) (dq_46 0 bcX5_pointValue_0 (j := 28) rfl rfl) ?_
  refine W.eq (g2 := F0 m 29 ls [.int (c_row 3), .int r_3, .long ((r_1 + ((c_row 3) * p2)).toInt64), .ref a_]) rfl ?_
  refine lv_iload_n hx hb (dq_29 0 bcX5_pointValue_0 (j := 29) rfl rfl) rfl (lv_at hl 3 rfl) ?_
  refine lv_imul hx hb (dq_104 0 bcX5_pointValue_0 (j := 30) rfl rfl) ?_
  refine lv_iadd hx hb (dq_96 0 bcX5_pointValue_0 (j := 31) rfl rfl) ?_
  refine lv_i2l (v := (r_3 + ((c_row 3) * p3)).toInt64) hx hb (dq_133 0 bcX5_pointValue_0 (j := 32) rfl rfl) rfl ?_
  replace hF := bd1_s hF
  obtain ⟨r_5, hc_6, hF⟩ := hF
  have hPc : va_P E.1 vwCl (w_X5_valueOf E a_ a_row a_partners a_share a_leftOver c_askedCount c_outcome c_row) s.heap := hP.sub (ws' := [k_X5 a_ a_row a_partners c_askedCount c_outcome a_share a_leftOver, k_I E a_row 81 c_row]) [0, 1] rfl
  have hrc := va_recv hK hPc (ci := 6) (q0 := 0) rfl rfl
  refine pE_l (va_runV (As := [.long ((r_1 + ((c_row 3) * p2)).toInt64), .long ((r_3 + ((c_row 3) * p3)).toInt64)]) (rest := [])  ⟨hx, hb, hml, hown, hts⟩ (f_X5_valueOf l E (a_ := a_) (a_row := a_row) (a_partners := a_partners) (a_share := a_share) (a_leftOver := a_leftOver) (p1 := (r_1 + ((c_row 3) * p2)).toInt64) (p2 := (r_3 + ((c_row 3) * p3)).toInt64) (c_askedCount := c_askedCount) (c_outcome := c_outcome) (c_row := c_row) hc_6) (cwV 2 hts g_f_X5_pointValue_f_X5_valueOf_75 rfl rfl rfl hd_X5_valueOf ⟨Nat.le_of_ble_eq_true rfl, Nat.le_of_ble_eq_true rfl⟩) ⟨pP.blind, hrc, (pP.pre ⟨hK, hN⟩ hPc)⟩ rfl rfl hl.1 rfl (lv_room (Nat.le_of_ble_eq_true rfl)) (dq_182 0 bcX5_pointValue_0 (j := 33) (i := 75) rfl rfl rfl) ⟨Nat.le_of_ble_eq_true rfl, Nat.le_of_ble_eq_true rfl⟩) ?_
  rw [hQ]
  obtain e9_0 := inj1 hF
  exact W.lret (v := r_5) hx hb hr (fun tt ht hW => ⟨_, rfl, e9_0, ht⟩) (fun _ h => by cases h) (dq_173 0 bcX5_pointValue_0 (j := 36) rfl rfl)

def B_X5_quietSites_4 (c_row : Nat → Int32) (x1 : Int32) (x2 : Int32) : Option ((Int32 × Int32) ⊕ (Int32)) :=
  bd1 (F_X5_sites c_row) (fun r_1 => if r_1 ≤ x2 then some (.inr x1) else bd1 (F_X5_isQuiet x2 c_row) (fun r_4 => if r_4 = (0 : Int32) then some (.inl (x1 ||| (0 : Int32), x2 + (1 : Int32))) else some (.inl (x1 ||| ((1 : Int32) <<< (x2 &&& (31 : Int32))), x2 + (1 : Int32)))))
def F_X5_quietSites (K : Nat) (c_row : Nat → Int32) : Option (Int32) :=
  bd1 (lpF (fun u9 : Int32 × Int32 => B_X5_quietSites_4 c_row u9.1 u9.2) K ((0 : Int32), (0 : Int32))) (fun x1_8 => some x1_8)
abbrev w_X5_quietSites (E : EE) (a_ a_row a_partners a_share a_leftOver : Nat) (c_askedCount : Int32) (c_outcome : Int32) (c_row : Nat → Int32) : va_W := [k_X5 a_ a_row a_partners c_askedCount c_outcome a_share a_leftOver, k_I E a_row 81 c_row]
def v_f_X5_quietSites : List Cond := List.cons (.code yX5_quietSites cX5_quietSites 3 (some .int)) (HAppend.hAppend (α := List Cond) (β := List Cond) (γ := List Cond) [.methodLink RX5 45 yX5_sites, .instanceMethod yX5_sites, .selects RX5 yX5_sites yX5_sites, .initialized RX5, .methodLink RX5 99 yX5_isQuiet, .instanceMethod yX5_isQuiet, .selects RX5 yX5_isQuiet yX5_isQuiet] (HAppend.hAppend (α := List Cond) (β := List Cond) (γ := List Cond) v_f_X5_sites (HAppend.hAppend (α := List Cond) (β := List Cond) (γ := List Cond) v_f_X5_isQuiet [])))
theorem gw_f_X5_quietSites : v_f_X5_quietSites.all goodWord = true := gw_c2 (by decide +kernel) (gw_ap gw_f_X5_sites (gw_ap gw_f_X5_isQuiet gw_nil))
theorem g_f_X5_quietSites_f_X5_sites_45 : GoodIn v_f_X5_quietSites (wsV RX5 45 RX5 yX5_sites v_f_X5_sites) := goodIn_in gw_f_X5_quietSites (in4 1 2 3 4 rfl rfl rfl rfl (fun _ h => List.mem_cons_of_mem _ (List.mem_append_right _ (List.mem_append_left _ h))))
theorem g_f_X5_quietSites_f_X5_isQuiet_99 : GoodIn v_f_X5_quietSites (wsV RX5 99 RX5 yX5_isQuiet v_f_X5_isQuiet) := goodIn_in gw_f_X5_quietSites (in4 5 6 7 4 rfl rfl rfl rfl (fun _ h => List.mem_cons_of_mem _ (List.mem_append_right _ (List.mem_append_right _ (List.mem_append_left _ h)))))
theorem hd_X5_quietSites : yX5_quietSites.cls = RX5 ∧ yX5_quietSites.cls ≠ "java/lang/invoke/MethodHandle" ∧ yX5_quietSites.cls ≠ "java/lang/invoke/VarHandle" ∧ (parseMethodDescriptor yX5_quietSites.desc).map (fun d => d.parameters.length) = some 0 := by decide +kernel
set_option maxHeartbeats 4000000 in
set_option maxRecDepth 100000 in
theorem wb_X5_quietSites_4 {p : Program} (l : Launch) {e : Env} {s : State} {m : MethodId} {below : List Frame} {meth : Method} {c : Code} {Q : State → Prop} (E : EE) (K : Nat) {a_ a_row a_partners a_share a_leftOver : Nat} {c_askedCount : Int32} {c_outcome : Int32} {c_row : Nat → Int32} {x1 : Int32} {x2 : Int32} (hx : p.tables.exec = Jvm.exec) (hb : c.code = cX5_quietSites) (hml : c.maxLocals = 3) (hown : s.vm.findClass RX5 = some m.cls) (hts : ∀ w ∈ v_f_X5_quietSites, w.before #[Value.ref a_] s = true) (hK : va_K E.1 vwCl (TY E) s) (hN : NX s) {xx : (Int32 × Int32) ⊕ (Int32)} (hC : ∀ (x1 : Int32), ∀ (x2 : Int32), xx = .inl (x1, x2) → ∀ (ls : Array Slot), lv_has ls 3 [(0, .ref a_), (1, .int x1), (2, .int x2)] → W p l e ({ frames := 3, cells := 0, slots := 0, locals := 71 } : Room) s m #[Value.ref a_] below meth c s.heap [] 0 0 Q (F0 m 4 ls [])) (hE : ∀ (x1 : Int32), xx = .inr x1 → ((∀ (ls : Array Slot), lv_has ls 3 [(1, .int x1)] → W p l e ({ frames := 3, cells := 0, slots := 0, locals := 71 } : Room) s m #[Value.ref a_] below meth c s.heap [] 0 0 Q (F0 m 36 ls [])))) (hF : B_X5_quietSites_4 c_row x1 x2 = some xx) (hP : va_P E.1 vwCl (w_X5_quietSites E a_ a_row a_partners a_share a_leftOver c_askedCount c_outcome c_row) s.heap) : ∀ (ls : Array Slot), lv_has ls 3 [(0, .ref a_), (1, .int x1), (2, .int x2)] → W p l e ({ frames := 3, cells := 0, slots := 0, locals := 71 } : Room) s m #[Value.ref a_] below meth c s.heap [] 0 0 Q (F0 m 4 ls []) := by
  unfold B_X5_quietSites_4 at hF
  replace hP : va_P E.1 vwCl [k_X5 a_ a_row a_partners c_askedCount c_outcome a_share a_leftOver, k_I E a_row 81 c_row] s.heap := hP
  intro ls hl
  refine lv_iload_n hx hb (dq_28 0 bcX5_quietSites_0 (j := 4) rfl rfl) rfl (lv_at hl 2 rfl) ?_
  refine lv_aload_n hx hb (dq_42 0 bcX5_quietSites_0 (j := 5) rfl rfl) rfl (lv_at hl 0 rfl) ?_
  replace hF := bd1_s hF
  obtain ⟨r_1, hc_2, hF⟩ := hF
  have hPc : va_P E.1 vwCl (w_X5_sites E a_ a_row a_partners a_share a_leftOver c_askedCount c_outcome c_row) s.heap := hP.sub (ws' := [k_X5 a_ a_row a_partners c_askedCount c_outcome a_share a_leftOver, k_I E a_row 81 c_row]) [0, 1] rfl
  have hrc := va_recv hK hPc (ci := 6) (q0 := 0) rfl rfl
  refine pE_i (va_runV (As := []) (rest := [.int x2])  ⟨hx, hb, hml, hown, hts⟩ (f_X5_sites l E (a_ := a_) (a_row := a_row) (a_partners := a_partners) (a_share := a_share) (a_leftOver := a_leftOver) (c_askedCount := c_askedCount) (c_outcome := c_outcome) (c_row := c_row) hc_2) (cwV 0 hts g_f_X5_quietSites_f_X5_sites_45 rfl rfl rfl hd_X5_sites ⟨Nat.le_of_ble_eq_true rfl, Nat.le_of_ble_eq_true rfl⟩) ⟨pP.blind, hrc, (pP.pre ⟨hK, hN⟩ hPc)⟩ rfl rfl hl.1 rfl (lv_room (Nat.le_of_ble_eq_true rfl)) (dq_182 0 bcX5_quietSites_0 (j := 6) (i := 45) rfl rfl rfl) ⟨Nat.le_of_ble_eq_true rfl, Nat.le_of_ble_eq_true rfl⟩) ?_
  refine lv_icmp_ge (tgt := 36) hx hb (dq_162 0 bcX5_quietSites_0 (j := 9) (i := 27) rfl rfl rfl) (by decide) (fun c_3 => ?_) (fun c_3 => ?_)
  ·
    replace hF := ip c_3 hF
    cases hF
    exact hE x1 rfl ls (lv_sub hl [1] rfl)
  ·
    replace hF := inn c_3 hF
    refine lv_iload_n hx hb (dq_27 0 bcX5_quietSites_0 (j := 12) rfl rfl) rfl (lv_at hl 1 rfl) ?_
    refine lv_aload_n hx hb (dq_42 0 bcX5_quietSites_0 (j := 13) rfl rfl) rfl (lv_at hl 0 rfl) ?_
    refine lv_iload_n hx hb (dq_28 0 bcX5_quietSites_0 (j := 14) rfl rfl) rfl (lv_at hl 2 rfl) ?_
    replace hF := bd1_s hF
    obtain ⟨r_4, hc_5, hF⟩ := hF
    have hPc : va_P E.1 vwCl (w_X5_isQuiet E a_ a_row a_partners a_share a_leftOver c_askedCount c_outcome c_row) s.heap := hP.sub (ws' := [k_X5 a_ a_row a_partners c_askedCount c_outcome a_share a_leftOver, k_I E a_row 81 c_row]) [0, 1] rfl
    have hrc := va_recv hK hPc (ci := 6) (q0 := 0) rfl rfl
    refine pE_z (va_runV (As := [.int x2]) (rest := [.int x1])  ⟨hx, hb, hml, hown, hts⟩ (f_X5_isQuiet l E (a_ := a_) (a_row := a_row) (a_partners := a_partners) (a_share := a_share) (a_leftOver := a_leftOver) (p1 := x2) (c_askedCount := c_askedCount) (c_outcome := c_outcome) (c_row := c_row) hc_5) (cwV 1 hts g_f_X5_quietSites_f_X5_isQuiet_99 rfl rfl rfl hd_X5_isQuiet ⟨Nat.le_of_ble_eq_true rfl, Nat.le_of_ble_eq_true rfl⟩) ⟨pP.blind, hrc, (pP.pre ⟨hK, hN⟩ hPc)⟩ rfl rfl hl.1 rfl (lv_room (Nat.le_of_ble_eq_true rfl)) (dq_182 0 bcX5_quietSites_0 (j := 15) (i := 99) rfl rfl rfl) ⟨Nat.le_of_ble_eq_true rfl, Nat.le_of_ble_eq_true rfl⟩) (fun hb_6 => ?_)
    refine lv_if_eq (tgt := 27) hx hb (dq_153 0 bcX5_quietSites_0 (j := 18) (i := 9) rfl rfl rfl) (by decide) (fun c_7 => ?_) (fun c_7 => ?_)
    ·
      replace hF := ip c_7 hF
      refine lv_iconst (v := 0) hx hb (dq_3 0 bcX5_quietSites_0 (j := 27) rfl rfl) (by decide) ?_
      refine lv_ior hx hb (dq_128 0 bcX5_quietSites_0 (j := 28) rfl rfl) ?_
      refine lv_istore_n (lv' := [(1, .int (x1 ||| (0 : Int32))), (0, .ref a_), (2, .int x2)]) hx hb (dq_60 0 bcX5_quietSites_0 (j := 29) rfl rfl) rfl hl (by decide) rfl (fun ls hl => ?_)
      refine lv_iinc (v := x2 + (1 : Int32)) (lv' := [(2, .int (x2 + (1 : Int32))), (1, .int (x1 ||| (0 : Int32))), (0, .ref a_)]) hx hb (dq_132 0 bcX5_quietSites_0 (j := 30) (i := 1) rfl rfl rfl) hl (k := 2) rfl (rfl) (by decide) rfl (fun ls hl => ?_)
      refine lv_goto (tgt := 4) hx hb (dq_167 0 bcX5_quietSites_0 (j := 33) (i := -29) rfl rfl rfl) (by decide) ?_
      cases hF
      exact hC (x1 ||| (0 : Int32)) (x2 + (1 : Int32)) rfl ls (lv_sub hl [2, 1, 0] rfl)
    ·
      replace hF := inn c_7 hF
      refine lv_iconst (v := 1) hx hb (dq_4 0 bcX5_quietSites_0 (j := 21) rfl rfl) (by decide) ?_
      refine lv_iload_n hx hb (dq_28 0 bcX5_quietSites_0 (j := 22) rfl rfl) rfl (lv_at hl 2 rfl) ?_
      refine lv_ishl hx hb (dq_120 0 bcX5_quietSites_0 (j := 23) rfl rfl) ?_
      refine lv_goto (tgt := 28) hx hb (dq_167 0 bcX5_quietSites_0 (j := 24) (i := 4) rfl rfl rfl) (by decide) ?_
      refine lv_ior hx hb (dq_128 0 bcX5_quietSites_0 (j := 28) rfl rfl) ?_
      refine lv_istore_n (lv' := [(1, .int (x1 ||| ((1 : Int32) <<< (x2 &&& (31 : Int32))))), (0, .ref a_), (2, .int x2)]) hx hb (dq_60 0 bcX5_quietSites_0 (j := 29) rfl rfl) rfl hl (by decide) rfl (fun ls hl => ?_)
      refine lv_iinc (v := x2 + (1 : Int32)) (lv' := [(2, .int (x2 + (1 : Int32))), (1, .int (x1 ||| ((1 : Int32) <<< (x2 &&& (31 : Int32))))), (0, .ref a_)]) hx hb (dq_132 0 bcX5_quietSites_0 (j := 30) (i := 1) rfl rfl rfl) hl (k := 2) rfl (rfl) (by decide) rfl (fun ls hl => ?_)
      refine lv_goto (tgt := 4) hx hb (dq_167 0 bcX5_quietSites_0 (j := 33) (i := -29) rfl rfl rfl) (by decide) ?_
      cases hF
      exact hC (x1 ||| ((1 : Int32) <<< (x2 &&& (31 : Int32)))) (x2 + (1 : Int32)) rfl ls (lv_sub hl [2, 1, 0] rfl)

set_option maxHeartbeats 4000000 in
set_option maxRecDepth 100000 in
theorem lw_X5_quietSites_4 {p : Program} (l : Launch) {e : Env} {s : State} {m : MethodId} {below : List Frame} {meth : Method} {c : Code} {Q : State → Prop} (E : EE) (K : Nat) {a_ a_row a_partners a_share a_leftOver : Nat} {c_askedCount : Int32} {c_outcome : Int32} {c_row : Nat → Int32} (hx : p.tables.exec = Jvm.exec) (hb : c.code = cX5_quietSites) (hml : c.maxLocals = 3) (hown : s.vm.findClass RX5 = some m.cls) (hts : ∀ w ∈ v_f_X5_quietSites, w.before #[Value.ref a_] s = true) (hK : va_K E.1 vwCl (TY E) s) (hN : NX s) (hP : va_P E.1 vwCl (w_X5_quietSites E a_ a_row a_partners a_share a_leftOver c_askedCount c_outcome c_row) s.heap) (j9 : Nat) (x1 : Int32) (x2 : Int32) (x1' : Int32) (hL : lpF (fun u9 : Int32 × Int32 => B_X5_quietSites_4 c_row u9.1 u9.2) j9 (x1, x2) = some x1') (hX : (∀ (ls : Array Slot), lv_has ls 3 [(1, .int x1')] → W p l e ({ frames := 3, cells := 0, slots := 0, locals := 71 } : Room) s m #[Value.ref a_] below meth c s.heap [] 0 0 Q (F0 m 36 ls []))) : ∀ (ls : Array Slot), lv_has ls 3 [(0, .ref a_), (1, .int x1), (2, .int x2)] → W p l e ({ frames := 3, cells := 0, slots := 0, locals := 71 } : Room) s m #[Value.ref a_] below meth c s.heap [] 0 0 Q (F0 m 4 ls []) := by
  exact lp_rule (P := (fun u9 : Int32 × Int32 => ∀ (ls : Array Slot), lv_has ls 3 [(0, .ref a_), (1, .int u9.1), (2, .int u9.2)] → W p l e ({ frames := 3, cells := 0, slots := 0, locals := 71 } : Room) s m #[Value.ref a_] below meth c s.heap [] 0 0 Q (F0 m 4 ls []))) (R := (fun r9 : Int32 => (∀ (ls : Array Slot), lv_has ls 3 [(1, .int r9)] → W p l e ({ frames := 3, cells := 0, slots := 0, locals := 71 } : Room) s m #[Value.ref a_] below meth c s.heap [] 0 0 Q (F0 m 36 ls [])))) (fun u9 xx hF hC hE => wb_X5_quietSites_4 l E K (c_askedCount := c_askedCount) (c_outcome := c_outcome) (c_row := c_row) (x1 := u9.1) (x2 := u9.2) hx hb hml hown hts hK hN (fun x1 x2 q9 => hC _ q9) (fun x1 q9 => hE _ q9) hF hP) j9 (x1, x2) x1' hL hX

set_option maxHeartbeats 4000000 in
set_option maxRecDepth 100000 in
theorem f_X5_quietSites (l : Launch) (E : EE) (K : Nat) {a_ a_row a_partners a_share a_leftOver : Nat} {c_askedCount : Int32} {c_outcome : Int32} {c_row : Nat → Int32} {rr : Int32} (hF : F_X5_quietSites K c_row = some rr) : Met l yX5_quietSites v_f_X5_quietSites (({ frames := 3, cells := 0, slots := 0, locals := 71 } : Room)) (va_Pc [.ref a_] (pP E (w_X5_quietSites E a_ a_row a_partners a_share a_leftOver c_askedCount c_outcome c_row))) (vp_Si (fun q : Int32 => q = rr)) 0 0 (fun _ => False) := by
  refine Met.ofW (cc := cX5_quietSites) (maxL := 3) (ret := (some .int)) (by decide) rfl ?_
  intro p e s m args below meth c s₁ B hml hv
  obtain ⟨rfl, ⟨hK, hN⟩, hP⟩ := hv
  have hx := B.exec
  have hb := B.bytes
  have hr := B.returns
  have hts := atoms_spec (ws := v_f_X5_quietSites) B.pre
  have hown : s.vm.findClass RX5 = some m.cls := own_of hd_X5_quietSites.1 (findClass_of_methodNamed B.named)
  have hlocks : meth.locks = false := B.notSynchronized
  replace hP : va_P E.1 vwCl [k_X5 a_ a_row a_partners c_askedCount c_outcome a_share a_leftOver, k_I E a_row 81 c_row] s.heap := hP
  have hl := lv_entry ([.ref a_]) (n := 3) (Nat.le_of_ble_eq_true rfl)
  rw [lg_entry_eq]
  generalize (lg_sl ([.ref a_]) ++ List.replicate (3 - (lg_sl ([.ref a_])).length) Slot.unset).toArray = ls at hl ⊢
  have hl : lv_has ls 3 [(0, .ref a_)] := hl
  obtain ⟨Q, hQ⟩ : ∃ Q : State → Prop, Q = MQ below (vp_Si (fun q : Int32 => q = rr)) #[Value.ref a_] s 0 0 (fun _ => False) := ⟨_, rfl⟩
  rw [← hQ]
  change W p l e ({ frames := 3, cells := 0, slots := 0, locals := 71 } : Room) s m #[Value.ref a_] below meth c s.heap [] 0 0 Q (F0 m 0 ls [])
  unfold F_X5_quietSites at hF
  refine lv_iconst (v := 0) hx hb (dq_3 0 bcX5_quietSites_0 (j := 0) rfl rfl) (by decide) ?_
  refine lv_istore_n (lv' := [(1, .int (0 : Int32)), (0, .ref a_)]) hx hb (dq_60 0 bcX5_quietSites_0 (j := 1) rfl rfl) rfl hl (by decide) rfl (fun ls hl => ?_)
  refine lv_iconst (v := 0) hx hb (dq_3 0 bcX5_quietSites_0 (j := 2) rfl rfl) (by decide) ?_
  refine lv_istore_n (lv' := [(2, .int (0 : Int32)), (1, .int (0 : Int32)), (0, .ref a_)]) hx hb (dq_61 0 bcX5_quietSites_0 (j := 3) rfl rfl) rfl hl (by decide) rfl (fun ls hl => ?_)
  replace hF := bd1_s hF
  obtain ⟨x1_8, hL_9, hF⟩ := hF
  refine lw_X5_quietSites_4 l E K (c_askedCount := c_askedCount) (c_outcome := c_outcome) (c_row := c_row) hx hb hml hown hts hK hN hP K (0 : Int32) (0 : Int32) x1_8 hL_9 ?_ ls (lv_sub hl [2, 1, 0] rfl)
  ·
    intro ls hl
    refine lv_iload_n hx hb (dq_27 0 bcX5_quietSites_0 (j := 36) rfl rfl) rfl (lv_at hl 0 rfl) ?_
    rw [hQ]
    obtain e9_0 := inj1 hF
    exact W.iret (v := x1_8) hx hb hr (fun tt ht hW => ⟨_, rfl, e9_0, ht⟩) (fun _ h => by cases h) (dq_172 0 bcX5_quietSites_0 (j := 37) rfl rfl)

def F_X5_stands (c_row : Nat → Int32) : Option (Int32) :=
  if c_row 3 ≤ (0 : Int32) then some (0 : Int32) else some (1 : Int32)
abbrev w_X5_stands (E : EE) (a_ a_row a_partners a_share a_leftOver : Nat) (c_askedCount : Int32) (c_outcome : Int32) (c_row : Nat → Int32) : va_W := [k_X5 a_ a_row a_partners c_askedCount c_outcome a_share a_leftOver, k_I E a_row 81 c_row]
def v_f_X5_stands : List Cond := List.cons (.code yX5_stands cX5_stands 1 (some .boolean)) (HAppend.hAppend (α := List Cond) (β := List Cond) (γ := List Cond) [.fieldLink RX5 11 "HushWatch$State" "row" "[I"] (HAppend.hAppend (α := List Cond) (β := List Cond) (γ := List Cond) wsX50 []))
theorem gw_f_X5_stands : v_f_X5_stands.all goodWord = true := gw_c2 (by decide +kernel) (gw_ap gw_wsX50 gw_nil)
theorem i_f_X5_stands_X5 : ∀ w ∈ wsX50, w ∈ v_f_X5_stands := fun _ h => List.mem_cons_of_mem _ (List.mem_append_right _ (List.mem_append_left _ h))
theorem hd_X5_stands : yX5_stands.cls = RX5 ∧ yX5_stands.cls ≠ "java/lang/invoke/MethodHandle" ∧ yX5_stands.cls ≠ "java/lang/invoke/VarHandle" ∧ (parseMethodDescriptor yX5_stands.desc).map (fun d => d.parameters.length) = some 0 := by decide +kernel
set_option maxHeartbeats 4000000 in
set_option maxRecDepth 100000 in
theorem f_X5_stands (l : Launch) (E : EE) {a_ a_row a_partners a_share a_leftOver : Nat} {c_askedCount : Int32} {c_outcome : Int32} {c_row : Nat → Int32} {rr : Int32} (hF : F_X5_stands c_row = some rr) : Met l yX5_stands v_f_X5_stands (({ frames := 0, cells := 0, slots := 0, locals := 0 } : Room)) (va_Pc [.ref a_] (pP E (w_X5_stands E a_ a_row a_partners a_share a_leftOver c_askedCount c_outcome c_row))) (vp_Si (fun q : Int32 => q = rr ∧ (q = 0 ∨ q = 1))) 0 0 (fun _ => False) := by
  refine Met.ofW (cc := cX5_stands) (maxL := 1) (ret := (some .boolean)) (by decide) rfl ?_
  intro p e s m args below meth c s₁ B hml hv
  obtain ⟨rfl, ⟨hK, hN⟩, hP⟩ := hv
  have hx := B.exec
  have hb := B.bytes
  have hr := B.returns
  have hts := atoms_spec (ws := v_f_X5_stands) B.pre
  have hown : s.vm.findClass RX5 = some m.cls := own_of hd_X5_stands.1 (findClass_of_methodNamed B.named)
  have hlocks : meth.locks = false := B.notSynchronized
  replace hP : va_P E.1 vwCl [k_X5 a_ a_row a_partners c_askedCount c_outcome a_share a_leftOver, k_I E a_row 81 c_row] s.heap := hP
  have hl := lv_entry ([.ref a_]) (n := 1) (Nat.le_of_ble_eq_true rfl)
  rw [lg_entry_eq]
  generalize (lg_sl ([.ref a_]) ++ List.replicate (1 - (lg_sl ([.ref a_])).length) Slot.unset).toArray = ls at hl ⊢
  have hl : lv_has ls 1 [(0, .ref a_)] := hl
  obtain ⟨Q, hQ⟩ : ∃ Q : State → Prop, Q = MQ below (vp_Si (fun q : Int32 => q = rr ∧ (q = 0 ∨ q = 1))) #[Value.ref a_] s 0 0 (fun _ => False) := ⟨_, rfl⟩
  rw [← hQ]
  change W p l e ({ frames := 0, cells := 0, slots := 0, locals := 0 } : Room) s m #[Value.ref a_] below meth c s.heap [] 0 0 Q (F0 m 0 ls [])
  unfold F_X5_stands at hF
  refine lv_aload_n hx hb (dq_42 0 bcX5_stands_0 (j := 0) rfl rfl) rfl (lv_at hl 0 rfl) ?_
  refine gt_X5_0 (v := .ref a_row) hx hb hts i_f_X5_stands_X5 hown hK hP 0 rfl (hts (.fieldLink RX5 11 "HushWatch$State" "row" "[I") (List.mem_of_getElem? (i := 1) rfl)) rfl (dq_180 0 bcX5_stands_0 (j := 1) (i := 11) rfl rfl rfl) ?_
  refine lv_iconst (v := 3) hx hb (dq_6 0 bcX5_stands_0 (j := 4) rfl rfl) (by decide) ?_
  refine va_iald hx hb hK hP 1 0 rfl rfl (vin rfl) (dq_46 0 bcX5_stands_0 (j := 5) rfl rfl) ?_
  refine W.eq (g2 := F0 m 6 ls [.int (c_row 3)]) rfl ?_
  refine lv_if_le (tgt := 13) hx hb (dq_158 0 bcX5_stands_0 (j := 6) (i := 7) rfl rfl rfl) (by decide) (fun c_1 => ?_) (fun c_1 => ?_)
  ·
    replace hF := ip c_1 hF
    refine lv_iconst (v := 0) hx hb (dq_3 0 bcX5_stands_0 (j := 13) rfl rfl) (by decide) ?_
    rw [hQ]
    obtain e9_0 := inj1 hF
    exact W.zret (v := (0 : Int32)) hx hb hr rfl (fun tt ht hW => ⟨_, rfl, ⟨e9_0, Or.inl rfl⟩, ht⟩) (fun _ h => by cases h) (dq_172 0 bcX5_stands_0 (j := 14) rfl rfl)
  ·
    replace hF := inn c_1 hF
    refine lv_iconst (v := 1) hx hb (dq_4 0 bcX5_stands_0 (j := 9) rfl rfl) (by decide) ?_
    refine lv_goto (tgt := 14) hx hb (dq_167 0 bcX5_stands_0 (j := 10) (i := 4) rfl rfl rfl) (by decide) ?_
    rw [hQ]
    obtain e9_0 := inj1 hF
    exact W.zret (v := (1 : Int32)) hx hb hr rfl (fun tt ht hW => ⟨_, rfl, ⟨e9_0, Or.inr rfl⟩, ht⟩) (fun _ h => by cases h) (dq_172 0 bcX5_stands_0 (j := 14) rfl rfl)

def F_X5_setRefusal (p0 : Int32) (p1 : Int32) (p2 : Int32) (p3 : Int32) : Option (Int32) :=
  if p0 < p1 then some (1 : Int32) else if p0 ≤ p2 then if p0 = p3 then some (2 : Int32) else some (-1 : Int32) else some (1 : Int32)

def v_f_X5_setRefusal : List Cond := List.cons (.code yX5_setRefusal cX5_setRefusal 4 (some .int)) (HAppend.hAppend (α := List Cond) (β := List Cond) (γ := List Cond) [] [])
theorem gw_f_X5_setRefusal : v_f_X5_setRefusal.all goodWord = true := gw_c2 (by decide +kernel) gw_nil
theorem hd_X5_setRefusal : yX5_setRefusal.cls = RX5 ∧ yX5_setRefusal.cls ≠ "java/lang/invoke/MethodHandle" ∧ yX5_setRefusal.cls ≠ "java/lang/invoke/VarHandle" ∧ (parseMethodDescriptor yX5_setRefusal.desc).map (fun d => d.parameters.length) = some 4 := by decide +kernel
set_option maxHeartbeats 4000000 in
set_option maxRecDepth 100000 in
theorem f_X5_setRefusal (l : Launch) (E : EE) {p0 : Int32} {p1 : Int32} {p2 : Int32} {p3 : Int32} {rr : Int32} (hF : F_X5_setRefusal p0 p1 p2 p3 = some rr) : Met l yX5_setRefusal v_f_X5_setRefusal (({ frames := 0, cells := 0, slots := 0, locals := 0 } : Room)) (va_Pc [.int p0, .int p1, .int p2, .int p3] (pP E [])) (vp_Si (fun q : Int32 => q = rr)) 0 0 (fun _ => False) := by
  refine Met.ofW (cc := cX5_setRefusal) (maxL := 4) (ret := (some .int)) (by decide) rfl ?_
  intro p e s m args below meth c s₁ B hml hv
  obtain ⟨rfl, ⟨hK, hN⟩, hP⟩ := hv
  have hx := B.exec
  have hb := B.bytes
  have hr := B.returns
  have hts := atoms_spec (ws := v_f_X5_setRefusal) B.pre
  have hown : s.vm.findClass RX5 = some m.cls := own_of hd_X5_setRefusal.1 (findClass_of_methodNamed B.named)
  have hlocks : meth.locks = false := B.notSynchronized
  replace hP : va_P E.1 vwCl [] s.heap := hP
  have hl := lv_entry ([.int p0, .int p1, .int p2, .int p3]) (n := 4) (Nat.le_of_ble_eq_true rfl)
  rw [lg_entry_eq]
  generalize (lg_sl ([.int p0, .int p1, .int p2, .int p3]) ++ List.replicate (4 - (lg_sl ([.int p0, .int p1, .int p2, .int p3])).length) Slot.unset).toArray = ls at hl ⊢
  have hl : lv_has ls 4 [(0, .int p0), (1, .int p1), (2, .int p2), (3, .int p3)] := hl
  obtain ⟨Q, hQ⟩ : ∃ Q : State → Prop, Q = MQ below (vp_Si (fun q : Int32 => q = rr)) #[Value.int p0, Value.int p1, Value.int p2, Value.int p3] s 0 0 (fun _ => False) := ⟨_, rfl⟩
  rw [← hQ]
  change W p l e ({ frames := 0, cells := 0, slots := 0, locals := 0 } : Room) s m #[Value.int p0, Value.int p1, Value.int p2, Value.int p3] below meth c s.heap [] 0 0 Q (F0 m 0 ls [])
  unfold F_X5_setRefusal at hF
  refine lv_iload_n hx hb (dq_26 0 bcX5_setRefusal_0 (j := 0) rfl rfl) rfl (lv_at hl 0 rfl) ?_
  refine lv_iload_n hx hb (dq_27 0 bcX5_setRefusal_0 (j := 1) rfl rfl) rfl (lv_at hl 1 rfl) ?_
  refine lv_icmp_lt (tgt := 10) hx hb (dq_161 0 bcX5_setRefusal_0 (j := 2) (i := 8) rfl rfl rfl) (by decide) (fun c_1 => ?_) (fun c_1 => ?_)
  ·
    replace hF := ip c_1 hF
    refine lv_iconst (v := 1) hx hb (dq_4 0 bcX5_setRefusal_0 (j := 10) rfl rfl) (by decide) ?_
    rw [hQ]
    obtain e9_0 := inj1 hF
    exact W.iret (v := (1 : Int32)) hx hb hr (fun tt ht hW => ⟨_, rfl, e9_0, ht⟩) (fun _ h => by cases h) (dq_172 0 bcX5_setRefusal_0 (j := 11) rfl rfl)
  ·
    replace hF := inn c_1 hF
    refine lv_iload_n hx hb (dq_26 0 bcX5_setRefusal_0 (j := 5) rfl rfl) rfl (lv_at hl 0 rfl) ?_
    refine lv_iload_n hx hb (dq_28 0 bcX5_setRefusal_0 (j := 6) rfl rfl) rfl (lv_at hl 2 rfl) ?_
    refine lv_icmp_le (tgt := 12) hx hb (dq_164 0 bcX5_setRefusal_0 (j := 7) (i := 5) rfl rfl rfl) (by decide) (fun c_2 => ?_) (fun c_2 => ?_)
    ·
      replace hF := ip c_2 hF
      refine lv_iload_n hx hb (dq_26 0 bcX5_setRefusal_0 (j := 12) rfl rfl) rfl (lv_at hl 0 rfl) ?_
      refine lv_iload_n hx hb (dq_29 0 bcX5_setRefusal_0 (j := 13) rfl rfl) rfl (lv_at hl 3 rfl) ?_
      refine lv_icmp_ne (tgt := 21) hx hb (dq_160 0 bcX5_setRefusal_0 (j := 14) (i := 7) rfl rfl rfl) (by decide) (fun c_3 => ?_) (fun c_3 => ?_)
      ·
        replace hF := inn c_3 hF
        refine lv_iconst (v := -1) hx hb (dq_2 0 bcX5_setRefusal_0 (j := 21) rfl rfl) (by decide) ?_
        rw [hQ]
        obtain e9_0 := inj1 hF
        exact W.iret (v := (-1 : Int32)) hx hb hr (fun tt ht hW => ⟨_, rfl, e9_0, ht⟩) (fun _ h => by cases h) (dq_172 0 bcX5_setRefusal_0 (j := 22) rfl rfl)
      ·
        replace hF := ip c_3 hF
        refine lv_iconst (v := 2) hx hb (dq_5 0 bcX5_setRefusal_0 (j := 17) rfl rfl) (by decide) ?_
        refine lv_goto (tgt := 22) hx hb (dq_167 0 bcX5_setRefusal_0 (j := 18) (i := 4) rfl rfl rfl) (by decide) ?_
        rw [hQ]
        obtain e9_0 := inj1 hF
        exact W.iret (v := (2 : Int32)) hx hb hr (fun tt ht hW => ⟨_, rfl, e9_0, ht⟩) (fun _ h => by cases h) (dq_172 0 bcX5_setRefusal_0 (j := 22) rfl rfl)
    ·
      replace hF := inn c_2 hF
      refine lv_iconst (v := 1) hx hb (dq_4 0 bcX5_setRefusal_0 (j := 10) rfl rfl) (by decide) ?_
      rw [hQ]
      obtain e9_0 := inj1 hF
      exact W.iret (v := (1 : Int32)) hx hb hr (fun tt ht hW => ⟨_, rfl, e9_0, ht⟩) (fun _ h => by cases h) (dq_172 0 bcX5_setRefusal_0 (j := 11) rfl rfl)

def F_X5_refusal (p1 : Int32) (p2 : Int32) (p3 : Int32) (p4 : Int32) (c_row : Nat → Int32) : Option (Int32) :=
  bd1 (F_X5_stands c_row) (fun r_1 => if r_1 = (0 : Int32) then some (0 : Int32) else if p1 = (0 : Int32) then bd1 (F_X5_moveRefusal p2 p3 p4 c_row) (fun r_6 => some r_6) else if p1 = (1 : Int32) then some (-1 : Int32) else if p1 = (2 : Int32) then bd1 (F_X5_setRefusal p2 (-9999999 : Int32) (9999999 : Int32) (c_row 1)) (fun r_8 => some r_8) else if p1 = (3 : Int32) then bd1 (F_X5_setRefusal p2 (0 : Int32) (3 : Int32) (c_row 0)) (fun r_10 => some r_10) else if p1 = (4 : Int32) then bd1 (F_X5_addRefusal p2 p3 c_row) (fun r_12 => some r_12) else if p1 = (5 : Int32) then if p2 < (1 : Int32) then some (1 : Int32) else if p2 ≤ (9999 : Int32) then some (-1 : Int32) else some (1 : Int32) else if p1 = (6 : Int32) then bd1 (F_X5_freezeRefusal p2 c_row) (fun r_16 => some r_16) else some (-1 : Int32))
abbrev w_X5_refusal (E : EE) (a_ a_row a_partners a_share a_leftOver : Nat) (c_askedCount : Int32) (c_outcome : Int32) (c_row : Nat → Int32) : va_W := [k_X5 a_ a_row a_partners c_askedCount c_outcome a_share a_leftOver, k_I E a_row 81 c_row]
def v_f_X5_refusal : List Cond := List.cons (.code yX5_refusal cX5_refusal 5 (some .int)) (HAppend.hAppend (α := List Cond) (β := List Cond) (γ := List Cond) [.constant RX5 112 (-9999999), .constant RX5 113 (9999999), .fieldLink RX5 11 "HushWatch$State" "row" "[I", .methodLink RX5 105 yX5_stands, .instanceMethod yX5_stands, .selects RX5 yX5_stands yX5_stands, .initialized RX5, .methodLink RX5 108 yX5_moveRefusal, .instanceMethod yX5_moveRefusal, .selects RX5 yX5_moveRefusal yX5_moveRefusal, .methodLink RX5 114 yX5_setRefusal, .static yX5_setRefusal, .methodLink RX5 118 yX5_addRefusal, .instanceMethod yX5_addRefusal, .selects RX5 yX5_addRefusal yX5_addRefusal, .methodLink RX5 121 yX5_freezeRefusal, .instanceMethod yX5_freezeRefusal, .selects RX5 yX5_freezeRefusal yX5_freezeRefusal] (HAppend.hAppend (α := List Cond) (β := List Cond) (γ := List Cond) v_f_X5_stands (HAppend.hAppend (α := List Cond) (β := List Cond) (γ := List Cond) v_f_X5_moveRefusal (HAppend.hAppend (α := List Cond) (β := List Cond) (γ := List Cond) wsX50 (HAppend.hAppend (α := List Cond) (β := List Cond) (γ := List Cond) v_f_X5_setRefusal (HAppend.hAppend (α := List Cond) (β := List Cond) (γ := List Cond) v_f_X5_addRefusal (HAppend.hAppend (α := List Cond) (β := List Cond) (γ := List Cond) v_f_X5_freezeRefusal [])))))))
theorem gw_f_X5_refusal : v_f_X5_refusal.all goodWord = true := gw_c2 (by decide +kernel) (gw_ap gw_f_X5_stands (gw_ap gw_f_X5_moveRefusal (gw_ap gw_wsX50 (gw_ap gw_f_X5_setRefusal (gw_ap gw_f_X5_addRefusal (gw_ap gw_f_X5_freezeRefusal gw_nil))))))
theorem i_f_X5_refusal_X5 : ∀ w ∈ wsX50, w ∈ v_f_X5_refusal := fun _ h => List.mem_cons_of_mem _ (List.mem_append_right _ (List.mem_append_right _ (List.mem_append_right _ (List.mem_append_left _ h))))
theorem g_f_X5_refusal_f_X5_stands_105 : GoodIn v_f_X5_refusal (wsV RX5 105 RX5 yX5_stands v_f_X5_stands) := goodIn_in gw_f_X5_refusal (in4 4 5 6 7 rfl rfl rfl rfl (fun _ h => List.mem_cons_of_mem _ (List.mem_append_right _ (List.mem_append_left _ h))))
theorem g_f_X5_refusal_f_X5_moveRefusal_108 : GoodIn v_f_X5_refusal (wsV RX5 108 RX5 yX5_moveRefusal v_f_X5_moveRefusal) := goodIn_in gw_f_X5_refusal (in4 8 9 10 7 rfl rfl rfl rfl (fun _ h => List.mem_cons_of_mem _ (List.mem_append_right _ (List.mem_append_right _ (List.mem_append_left _ h)))))
theorem g_f_X5_refusal_f_X5_setRefusal_114 : GoodIn v_f_X5_refusal (va_wsS RX5 114 yX5_setRefusal v_f_X5_setRefusal) := goodIn_in gw_f_X5_refusal (in3 11 12 7 rfl rfl rfl (fun _ h => List.mem_cons_of_mem _ (List.mem_append_right _ (List.mem_append_right _ (List.mem_append_right _ (List.mem_append_right _ (List.mem_append_left _ h)))))))
theorem g_f_X5_refusal_f_X5_addRefusal_118 : GoodIn v_f_X5_refusal (wsV RX5 118 RX5 yX5_addRefusal v_f_X5_addRefusal) := goodIn_in gw_f_X5_refusal (in4 13 14 15 7 rfl rfl rfl rfl (fun _ h => List.mem_cons_of_mem _ (List.mem_append_right _ (List.mem_append_right _ (List.mem_append_right _ (List.mem_append_right _ (List.mem_append_right _ (List.mem_append_left _ h))))))))
theorem g_f_X5_refusal_f_X5_freezeRefusal_121 : GoodIn v_f_X5_refusal (wsV RX5 121 RX5 yX5_freezeRefusal v_f_X5_freezeRefusal) := goodIn_in gw_f_X5_refusal (in4 16 17 18 7 rfl rfl rfl rfl (fun _ h => List.mem_cons_of_mem _ (List.mem_append_right _ (List.mem_append_right _ (List.mem_append_right _ (List.mem_append_right _ (List.mem_append_right _ (List.mem_append_right _ (List.mem_append_left _ h)))))))))
theorem hd_X5_refusal : yX5_refusal.cls = RX5 ∧ yX5_refusal.cls ≠ "java/lang/invoke/MethodHandle" ∧ yX5_refusal.cls ≠ "java/lang/invoke/VarHandle" ∧ (parseMethodDescriptor yX5_refusal.desc).map (fun d => d.parameters.length) = some 4 := by decide +kernel
set_option maxHeartbeats 4000000 in
set_option maxRecDepth 100000 in
theorem f_X5_refusal (l : Launch) (E : EE) {a_ a_row a_partners a_share a_leftOver : Nat} {p1 : Int32} {p2 : Int32} {p3 : Int32} {p4 : Int32} {c_askedCount : Int32} {c_outcome : Int32} {c_row : Nat → Int32} {rr : Int32} (hF : F_X5_refusal p1 p2 p3 p4 c_row = some rr) : Met l yX5_refusal v_f_X5_refusal (({ frames := 3, cells := 0, slots := 0, locals := 68 } : Room)) (va_Pc [.ref a_, .int p1, .int p2, .int p3, .int p4] (pP E (w_X5_refusal E a_ a_row a_partners a_share a_leftOver c_askedCount c_outcome c_row))) (vp_Si (fun q : Int32 => q = rr)) 0 0 (fun _ => False) := by
  refine Met.ofW (cc := cX5_refusal) (maxL := 5) (ret := (some .int)) (by decide) rfl ?_
  intro p e s m args below meth c s₁ B hml hv
  obtain ⟨rfl, ⟨hK, hN⟩, hP⟩ := hv
  have hx := B.exec
  have hb := B.bytes
  have hr := B.returns
  have hts := atoms_spec (ws := v_f_X5_refusal) B.pre
  have hown : s.vm.findClass RX5 = some m.cls := own_of hd_X5_refusal.1 (findClass_of_methodNamed B.named)
  have hlocks : meth.locks = false := B.notSynchronized
  replace hP : va_P E.1 vwCl [k_X5 a_ a_row a_partners c_askedCount c_outcome a_share a_leftOver, k_I E a_row 81 c_row] s.heap := hP
  have hl := lv_entry ([.ref a_, .int p1, .int p2, .int p3, .int p4]) (n := 5) (Nat.le_of_ble_eq_true rfl)
  rw [lg_entry_eq]
  generalize (lg_sl ([.ref a_, .int p1, .int p2, .int p3, .int p4]) ++ List.replicate (5 - (lg_sl ([.ref a_, .int p1, .int p2, .int p3, .int p4])).length) Slot.unset).toArray = ls at hl ⊢
  have hl : lv_has ls 5 [(0, .ref a_), (1, .int p1), (2, .int p2), (3, .int p3), (4, .int p4)] := hl
  obtain ⟨Q, hQ⟩ : ∃ Q : State → Prop, Q = MQ below (vp_Si (fun q : Int32 => q = rr)) #[Value.ref a_, Value.int p1, Value.int p2, Value.int p3, Value.int p4] s 0 0 (fun _ => False) := ⟨_, rfl⟩
  rw [← hQ]
  change W p l e ({ frames := 3, cells := 0, slots := 0, locals := 68 } : Room) s m #[Value.ref a_, Value.int p1, Value.int p2, Value.int p3, Value.int p4] below meth c s.heap [] 0 0 Q (F0 m 0 ls [])
  unfold F_X5_refusal at hF
  refine lv_aload_n hx hb (dq_42 0 bcX5_refusal_0 (j := 0) rfl rfl) rfl (lv_at hl 0 rfl) ?_
  replace hF := bd1_s hF
  obtain ⟨r_1, hc_2, hF⟩ := hF
  have hPc : va_P E.1 vwCl (w_X5_stands E a_ a_row a_partners a_share a_leftOver c_askedCount c_outcome c_row) s.heap := hP.sub (ws' := [k_X5 a_ a_row a_partners c_askedCount c_outcome a_share a_leftOver, k_I E a_row 81 c_row]) [0, 1] rfl
  have hrc := va_recv hK hPc (ci := 6) (q0 := 0) rfl rfl
  refine pE_z (va_runV (As := []) (rest := [])  ⟨hx, hb, hml, hown, hts⟩ (f_X5_stands l E (a_ := a_) (a_row := a_row) (a_partners := a_partners) (a_share := a_share) (a_leftOver := a_leftOver) (c_askedCount := c_askedCount) (c_outcome := c_outcome) (c_row := c_row) hc_2) (cwV 0 hts g_f_X5_refusal_f_X5_stands_105 rfl rfl rfl hd_X5_stands ⟨Nat.le_of_ble_eq_true rfl, Nat.le_of_ble_eq_true rfl⟩) ⟨pP.blind, hrc, (pP.pre ⟨hK, hN⟩ hPc)⟩ rfl rfl hl.1 rfl (lv_room (Nat.le_of_ble_eq_true rfl)) (dq_182 0 bcX5_refusal_0 (j := 1) (i := 105) rfl rfl rfl) ⟨Nat.le_of_ble_eq_true rfl, Nat.le_of_ble_eq_true rfl⟩) (fun hb_3 => ?_)
  refine lv_if_ne (tgt := 9) hx hb (dq_154 0 bcX5_refusal_0 (j := 4) (i := 5) rfl rfl rfl) (by decide) (fun c_4 => ?_) (fun c_4 => ?_)
  ·
    replace hF := inn c_4 hF
    refine lv_iload_n hx hb (dq_27 0 bcX5_refusal_0 (j := 9) rfl rfl) rfl (lv_at hl 1 rfl) ?_
    rcases Classical.em (p1 = (0 : Int32)) with c_5_0 | c_5_0
    ·
      replace hF := ip c_5_0 hF
      refine lv_tableIn (off := 42) (tgt := 52) hx hb dX5_refusal_10 (by rw [c_5_0]; decide) (by rw [c_5_0]; decide) (by rw [c_5_0]; decide) (by decide) ?_
      refine lv_aload_n hx hb (dq_42 48 bcX5_refusal_1 (j := 4) rfl rfl) rfl (lv_at hl 0 rfl) ?_
      refine lv_iload_n hx hb (dq_28 48 bcX5_refusal_1 (j := 5) rfl rfl) rfl (lv_at hl 2 rfl) ?_
      refine lv_iload_n hx hb (dq_29 48 bcX5_refusal_1 (j := 6) rfl rfl) rfl (lv_at hl 3 rfl) ?_
      refine lv_iload hx hb (dq_21 48 bcX5_refusal_1 (j := 7) (i := 4) rfl rfl) (lv_at hl 4 rfl) ?_
      replace hF := bd1_s hF
      obtain ⟨r_6, hc_7, hF⟩ := hF
      have hPc : va_P E.1 vwCl (w_X5_moveRefusal E a_ a_row a_partners a_share a_leftOver c_askedCount c_outcome c_row) s.heap := hP.sub (ws' := [k_X5 a_ a_row a_partners c_askedCount c_outcome a_share a_leftOver, k_I E a_row 81 c_row]) [0, 1] rfl
      have hrc := va_recv hK hPc (ci := 6) (q0 := 0) rfl rfl
      refine pE_i (va_runV (As := [.int p2, .int p3, .int p4]) (rest := [])  ⟨hx, hb, hml, hown, hts⟩ (f_X5_moveRefusal l E (a_ := a_) (a_row := a_row) (a_partners := a_partners) (a_share := a_share) (a_leftOver := a_leftOver) (p1 := p2) (p2 := p3) (p3 := p4) (c_askedCount := c_askedCount) (c_outcome := c_outcome) (c_row := c_row) hc_7) (cwV 3 hts g_f_X5_refusal_f_X5_moveRefusal_108 rfl rfl rfl hd_X5_moveRefusal ⟨Nat.le_of_ble_eq_true rfl, Nat.le_of_ble_eq_true rfl⟩) ⟨pP.blind, hrc, (pP.pre ⟨hK, hN⟩ hPc)⟩ rfl rfl hl.1 rfl (lv_room (Nat.le_of_ble_eq_true rfl)) (dq_182 48 bcX5_refusal_1 (j := 9) (i := 108) rfl rfl rfl) ⟨Nat.le_of_ble_eq_true rfl, Nat.le_of_ble_eq_true rfl⟩) ?_
      rw [hQ]
      obtain e9_0 := inj1 hF
      exact W.iret (v := r_6) hx hb hr (fun tt ht hW => ⟨_, rfl, e9_0, ht⟩) (fun _ h => by cases h) (dq_172 48 bcX5_refusal_1 (j := 12) rfl rfl)
    replace hF := inn c_5_0 hF
    rcases Classical.em (p1 = (1 : Int32)) with c_5_1 | c_5_1
    ·
      replace hF := ip c_5_1 hF
      refine lv_tableIn (off := 110) (tgt := 120) hx hb dX5_refusal_10 (by rw [c_5_1]; decide) (by rw [c_5_1]; decide) (by rw [c_5_1]; decide) (by decide) ?_
      refine lv_iconst (v := -1) hx hb (dq_2 96 bcX5_refusal_2 (j := 24) rfl rfl) (by decide) ?_
      rw [hQ]
      obtain e9_0 := inj1 hF
      exact W.iret (v := (-1 : Int32)) hx hb hr (fun tt ht hW => ⟨_, rfl, e9_0, ht⟩) (fun _ h => by cases h) (dq_172 96 bcX5_refusal_2 (j := 25) rfl rfl)
    replace hF := inn c_5_1 hF
    rcases Classical.em (p1 = (2 : Int32)) with c_5_2 | c_5_2
    ·
      replace hF := ip c_5_2 hF
      refine lv_tableIn (off := 51) (tgt := 61) hx hb dX5_refusal_10 (by rw [c_5_2]; decide) (by rw [c_5_2]; decide) (by rw [c_5_2]; decide) (by decide) ?_
      refine lv_iload_n hx hb (dq_28 48 bcX5_refusal_1 (j := 13) rfl rfl) rfl (lv_at hl 2 rfl) ?_
      refine lv_ldc (v := -9999999) hx hb hown (hts (.constant RX5 112 (-9999999)) (List.mem_of_getElem? (i := 1) rfl)) (dq_18 48 bcX5_refusal_1 (j := 14) (i := 112) rfl rfl) ?_
      refine lv_ldc (v := 9999999) hx hb hown (hts (.constant RX5 113 (9999999)) (List.mem_of_getElem? (i := 2) rfl)) (dq_18 48 bcX5_refusal_1 (j := 16) (i := 113) rfl rfl) ?_
      refine lv_aload_n hx hb (dq_42 48 bcX5_refusal_1 (j := 18) rfl rfl) rfl (lv_at hl 0 rfl) ?_
      refine gt_X5_0 (v := .ref a_row) hx hb hts i_f_X5_refusal_X5 hown hK hP 0 rfl (hts (.fieldLink RX5 11 "HushWatch$State" "row" "[I") (List.mem_of_getElem? (i := 3) rfl)) rfl (dq_180 48 bcX5_refusal_1 (j := 19) (i := 11) rfl rfl rfl) ?_
      refine lv_iconst (v := 1) hx hb (dq_4 48 bcX5_refusal_1 (j := 22) rfl rfl) (by decide) ?_
      refine va_iald hx hb hK hP 1 0 rfl rfl (vin rfl) (dq_46 48 bcX5_refusal_1 (j := 23) rfl rfl) ?_
      refine W.eq (g2 := F0 m 72 ls [.int (c_row 1), .int (9999999 : Int32), .int (-9999999 : Int32), .int p2]) rfl ?_
      replace hF := bd1_s hF
      obtain ⟨r_8, hc_9, hF⟩ := hF
      have hPc : va_P E.1 vwCl [] s.heap := fun k q h => by simp at h
      refine pE_i (va_runS (As := [.int p2, .int (-9999999 : Int32), .int (9999999 : Int32), .int (c_row 1)]) (rest := [])  ⟨hx, hb, hml, hown, hts⟩ (f_X5_setRefusal l E (p0 := p2) (p1 := (-9999999 : Int32)) (p2 := (9999999 : Int32)) (p3 := c_row 1) hc_9) (va_cwS 4 hts g_f_X5_refusal_f_X5_setRefusal_114 rfl rfl rfl hd_X5_setRefusal.2 ⟨Nat.le_of_ble_eq_true rfl, Nat.le_of_ble_eq_true rfl⟩) ⟨pP.blind, (pP.pre ⟨hK, hN⟩ hPc)⟩ rfl rfl hl.1 rfl (lv_room (Nat.le_of_ble_eq_true rfl)) (dq_184 48 bcX5_refusal_1 (j := 24) (i := 114) rfl rfl rfl) ⟨Nat.le_of_ble_eq_true rfl, Nat.le_of_ble_eq_true rfl⟩) ?_
      rw [hQ]
      obtain e9_0 := inj1 hF
      exact W.iret (v := r_8) hx hb hr (fun tt ht hW => ⟨_, rfl, e9_0, ht⟩) (fun _ h => by cases h) (dq_172 48 bcX5_refusal_1 (j := 27) rfl rfl)
    replace hF := inn c_5_2 hF
    rcases Classical.em (p1 = (3 : Int32)) with c_5_3 | c_5_3
    ·
      replace hF := ip c_5_3 hF
      refine lv_tableIn (off := 66) (tgt := 76) hx hb dX5_refusal_10 (by rw [c_5_3]; decide) (by rw [c_5_3]; decide) (by rw [c_5_3]; decide) (by decide) ?_
      refine lv_iload_n hx hb (dq_28 48 bcX5_refusal_1 (j := 28) rfl rfl) rfl (lv_at hl 2 rfl) ?_
      refine lv_iconst (v := 0) hx hb (dq_3 48 bcX5_refusal_1 (j := 29) rfl rfl) (by decide) ?_
      refine lv_iconst (v := 3) hx hb (dq_6 48 bcX5_refusal_1 (j := 30) rfl rfl) (by decide) ?_
      refine lv_aload_n hx hb (dq_42 48 bcX5_refusal_1 (j := 31) rfl rfl) rfl (lv_at hl 0 rfl) ?_
      refine gt_X5_0 (v := .ref a_row) hx hb hts i_f_X5_refusal_X5 hown hK hP 0 rfl (hts (.fieldLink RX5 11 "HushWatch$State" "row" "[I") (List.mem_of_getElem? (i := 3) rfl)) rfl (dq_180 48 bcX5_refusal_1 (j := 32) (i := 11) rfl rfl rfl) ?_
      refine lv_iconst (v := 0) hx hb (dq_3 48 bcX5_refusal_1 (j := 35) rfl rfl) (by decide) ?_
      refine va_iald hx hb hK hP 1 0 rfl rfl (vin rfl) (dq_46 48 bcX5_refusal_1 (j := 36) rfl rfl) ?_
      refine W.eq (g2 := F0 m 85 ls [.int (c_row 0), .int (3 : Int32), .int (0 : Int32), .int p2]) rfl ?_
      replace hF := bd1_s hF
      obtain ⟨r_10, hc_11, hF⟩ := hF
      have hPc : va_P E.1 vwCl [] s.heap := fun k q h => by simp at h
      refine pE_i (va_runS (As := [.int p2, .int (0 : Int32), .int (3 : Int32), .int (c_row 0)]) (rest := [])  ⟨hx, hb, hml, hown, hts⟩ (f_X5_setRefusal l E (p0 := p2) (p1 := (0 : Int32)) (p2 := (3 : Int32)) (p3 := c_row 0) hc_11) (va_cwS 4 hts g_f_X5_refusal_f_X5_setRefusal_114 rfl rfl rfl hd_X5_setRefusal.2 ⟨Nat.le_of_ble_eq_true rfl, Nat.le_of_ble_eq_true rfl⟩) ⟨pP.blind, (pP.pre ⟨hK, hN⟩ hPc)⟩ rfl rfl hl.1 rfl (lv_room (Nat.le_of_ble_eq_true rfl)) (dq_184 48 bcX5_refusal_1 (j := 37) (i := 114) rfl rfl rfl) ⟨Nat.le_of_ble_eq_true rfl, Nat.le_of_ble_eq_true rfl⟩) ?_
      rw [hQ]
      obtain e9_0 := inj1 hF
      exact W.iret (v := r_10) hx hb hr (fun tt ht hW => ⟨_, rfl, e9_0, ht⟩) (fun _ h => by cases h) (dq_172 48 bcX5_refusal_1 (j := 40) rfl rfl)
    replace hF := inn c_5_3 hF
    rcases Classical.em (p1 = (4 : Int32)) with c_5_4 | c_5_4
    ·
      replace hF := ip c_5_4 hF
      refine lv_tableIn (off := 79) (tgt := 89) hx hb dX5_refusal_10 (by rw [c_5_4]; decide) (by rw [c_5_4]; decide) (by rw [c_5_4]; decide) (by decide) ?_
      refine lv_aload_n hx hb (dq_42 48 bcX5_refusal_1 (j := 41) rfl rfl) rfl (lv_at hl 0 rfl) ?_
      refine lv_iload_n hx hb (dq_28 48 bcX5_refusal_1 (j := 42) rfl rfl) rfl (lv_at hl 2 rfl) ?_
      refine lv_iload_n hx hb (dq_29 48 bcX5_refusal_1 (j := 43) rfl rfl) rfl (lv_at hl 3 rfl) ?_
      replace hF := bd1_s hF
      obtain ⟨r_12, hc_13, hF⟩ := hF
      have hPc : va_P E.1 vwCl (w_X5_addRefusal E a_ a_row a_partners a_share a_leftOver c_askedCount c_outcome c_row) s.heap := hP.sub (ws' := [k_X5 a_ a_row a_partners c_askedCount c_outcome a_share a_leftOver, k_I E a_row 81 c_row]) [0, 1] rfl
      have hrc := va_recv hK hPc (ci := 6) (q0 := 0) rfl rfl
      refine pE_i (va_runV (As := [.int p2, .int p3]) (rest := [])  ⟨hx, hb, hml, hown, hts⟩ (f_X5_addRefusal l E (a_ := a_) (a_row := a_row) (a_partners := a_partners) (a_share := a_share) (a_leftOver := a_leftOver) (p1 := p2) (p2 := p3) (c_askedCount := c_askedCount) (c_outcome := c_outcome) (c_row := c_row) hc_13) (cwV 2 hts g_f_X5_refusal_f_X5_addRefusal_118 rfl rfl rfl hd_X5_addRefusal ⟨Nat.le_of_ble_eq_true rfl, Nat.le_of_ble_eq_true rfl⟩) ⟨pP.blind, hrc, (pP.pre ⟨hK, hN⟩ hPc)⟩ rfl rfl hl.1 rfl (lv_room (Nat.le_of_ble_eq_true rfl)) (dq_182 48 bcX5_refusal_1 (j := 44) (i := 118) rfl rfl rfl) ⟨Nat.le_of_ble_eq_true rfl, Nat.le_of_ble_eq_true rfl⟩) ?_
      rw [hQ]
      obtain e9_0 := inj1 hF
      exact W.iret (v := r_12) hx hb hr (fun tt ht hW => ⟨_, rfl, e9_0, ht⟩) (fun _ h => by cases h) (dq_172 48 bcX5_refusal_1 (j := 47) rfl rfl)
    replace hF := inn c_5_4 hF
    rcases Classical.em (p1 = (5 : Int32)) with c_5_5 | c_5_5
    ·
      replace hF := ip c_5_5 hF
      refine lv_tableIn (off := 86) (tgt := 96) hx hb dX5_refusal_10 (by rw [c_5_5]; decide) (by rw [c_5_5]; decide) (by rw [c_5_5]; decide) (by decide) ?_
      refine lv_iload_n hx hb (dq_28 96 bcX5_refusal_2 (j := 0) rfl rfl) rfl (lv_at hl 2 rfl) ?_
      refine lv_iconst (v := 1) hx hb (dq_4 96 bcX5_refusal_2 (j := 1) rfl rfl) (by decide) ?_
      refine lv_icmp_lt (tgt := 108) hx hb (dq_161 96 bcX5_refusal_2 (j := 2) (i := 10) rfl rfl rfl) (by decide) (fun c_14 => ?_) (fun c_14 => ?_)
      ·
        replace hF := ip c_14 hF
        refine lv_iconst (v := 1) hx hb (dq_4 96 bcX5_refusal_2 (j := 12) rfl rfl) (by decide) ?_
        refine lv_goto (tgt := 113) hx hb (dq_167 96 bcX5_refusal_2 (j := 13) (i := 4) rfl rfl rfl) (by decide) ?_
        rw [hQ]
        obtain e9_0 := inj1 hF
        exact W.iret (v := (1 : Int32)) hx hb hr (fun tt ht hW => ⟨_, rfl, e9_0, ht⟩) (fun _ h => by cases h) (dq_172 96 bcX5_refusal_2 (j := 17) rfl rfl)
      ·
        replace hF := inn c_14 hF
        refine lv_iload_n hx hb (dq_28 96 bcX5_refusal_2 (j := 5) rfl rfl) rfl (lv_at hl 2 rfl) ?_
        refine lv_sipush (v := 9999) hx hb (dq_17 96 bcX5_refusal_2 (j := 6) (i := 9999) rfl rfl rfl) (by decide) ?_
        refine lv_icmp_le (tgt := 112) hx hb (dq_164 96 bcX5_refusal_2 (j := 9) (i := 7) rfl rfl rfl) (by decide) (fun c_15 => ?_) (fun c_15 => ?_)
        ·
          replace hF := ip c_15 hF
          refine lv_iconst (v := -1) hx hb (dq_2 96 bcX5_refusal_2 (j := 16) rfl rfl) (by decide) ?_
          rw [hQ]
          obtain e9_0 := inj1 hF
          exact W.iret (v := (-1 : Int32)) hx hb hr (fun tt ht hW => ⟨_, rfl, e9_0, ht⟩) (fun _ h => by cases h) (dq_172 96 bcX5_refusal_2 (j := 17) rfl rfl)
        ·
          replace hF := inn c_15 hF
          refine lv_iconst (v := 1) hx hb (dq_4 96 bcX5_refusal_2 (j := 12) rfl rfl) (by decide) ?_
          refine lv_goto (tgt := 113) hx hb (dq_167 96 bcX5_refusal_2 (j := 13) (i := 4) rfl rfl rfl) (by decide) ?_
          rw [hQ]
          obtain e9_0 := inj1 hF
          exact W.iret (v := (1 : Int32)) hx hb hr (fun tt ht hW => ⟨_, rfl, e9_0, ht⟩) (fun _ h => by cases h) (dq_172 96 bcX5_refusal_2 (j := 17) rfl rfl)
    replace hF := inn c_5_5 hF
    rcases Classical.em (p1 = (6 : Int32)) with c_5_6 | c_5_6
    ·
      replace hF := ip c_5_6 hF
      refine lv_tableIn (off := 104) (tgt := 114) hx hb dX5_refusal_10 (by rw [c_5_6]; decide) (by rw [c_5_6]; decide) (by rw [c_5_6]; decide) (by decide) ?_
      refine lv_aload_n hx hb (dq_42 96 bcX5_refusal_2 (j := 18) rfl rfl) rfl (lv_at hl 0 rfl) ?_
      refine lv_iload_n hx hb (dq_28 96 bcX5_refusal_2 (j := 19) rfl rfl) rfl (lv_at hl 2 rfl) ?_
      replace hF := bd1_s hF
      obtain ⟨r_16, hc_17, hF⟩ := hF
      have hPc : va_P E.1 vwCl (w_X5_freezeRefusal E a_ a_row a_partners a_share a_leftOver c_askedCount c_outcome c_row) s.heap := hP.sub (ws' := [k_X5 a_ a_row a_partners c_askedCount c_outcome a_share a_leftOver, k_I E a_row 81 c_row]) [0, 1] rfl
      have hrc := va_recv hK hPc (ci := 6) (q0 := 0) rfl rfl
      refine pE_i (va_runV (As := [.int p2]) (rest := [])  ⟨hx, hb, hml, hown, hts⟩ (f_X5_freezeRefusal l E (a_ := a_) (a_row := a_row) (a_partners := a_partners) (a_share := a_share) (a_leftOver := a_leftOver) (p1 := p2) (c_askedCount := c_askedCount) (c_outcome := c_outcome) (c_row := c_row) hc_17) (cwV 1 hts g_f_X5_refusal_f_X5_freezeRefusal_121 rfl rfl rfl hd_X5_freezeRefusal ⟨Nat.le_of_ble_eq_true rfl, Nat.le_of_ble_eq_true rfl⟩) ⟨pP.blind, hrc, (pP.pre ⟨hK, hN⟩ hPc)⟩ rfl rfl hl.1 rfl (lv_room (Nat.le_of_ble_eq_true rfl)) (dq_182 96 bcX5_refusal_2 (j := 20) (i := 121) rfl rfl rfl) ⟨Nat.le_of_ble_eq_true rfl, Nat.le_of_ble_eq_true rfl⟩) ?_
      rw [hQ]
      obtain e9_0 := inj1 hF
      exact W.iret (v := r_16) hx hb hr (fun tt ht hW => ⟨_, rfl, e9_0, ht⟩) (fun _ h => by cases h) (dq_172 96 bcX5_refusal_2 (j := 23) rfl rfl)
    replace hF := inn c_5_6 hF
    refine lv_tableOut (tgt := 120) hx hb dX5_refusal_10 (by have t0 : (0 : Int32).toInt = 0 := (by decide); have t1 : (1 : Int32).toInt = 1 := (by decide); have t2 : (2 : Int32).toInt = 2 := (by decide); have t3 : (3 : Int32).toInt = 3 := (by decide); have t4 : (4 : Int32).toInt = 4 := (by decide); have t5 : (5 : Int32).toInt = 5 := (by decide); have t6 : (6 : Int32).toInt = 6 := (by decide); simp only [← Int32.toInt_inj, t0, t1, t2, t3, t4, t5, t6] at c_5_0 c_5_1 c_5_2 c_5_3 c_5_4 c_5_5 c_5_6; omega) (by decide) ?_
    refine lv_iconst (v := -1) hx hb (dq_2 96 bcX5_refusal_2 (j := 24) rfl rfl) (by decide) ?_
    rw [hQ]
    obtain e9_0 := inj1 hF
    exact W.iret (v := (-1 : Int32)) hx hb hr (fun tt ht hW => ⟨_, rfl, e9_0, ht⟩) (fun _ h => by cases h) (dq_172 96 bcX5_refusal_2 (j := 25) rfl rfl)
  ·
    replace hF := ip c_4 hF
    refine lv_iconst (v := 0) hx hb (dq_3 0 bcX5_refusal_0 (j := 7) rfl rfl) (by decide) ?_
    rw [hQ]
    obtain e9_0 := inj1 hF
    exact W.iret (v := (0 : Int32)) hx hb hr (fun tt ht hW => ⟨_, rfl, e9_0, ht⟩) (fun _ h => by cases h) (dq_172 0 bcX5_refusal_0 (j := 8) rfl rfl)

def F_X5_slackLength (p1 : Int32) (c_row : Nat → Int32) : Option (Int32) :=
  bd1 (F_X5_of p1 (4 : Int32) c_row) (fun r_1 => bd1 (F_X5_of p1 (5 : Int32) c_row) (fun r_3 => some ((absF r_1) + (absF r_3))))
abbrev w_X5_slackLength (E : EE) (a_ a_row a_partners a_share a_leftOver : Nat) (c_askedCount : Int32) (c_outcome : Int32) (c_row : Nat → Int32) : va_W := [k_X5 a_ a_row a_partners c_askedCount c_outcome a_share a_leftOver, k_I E a_row 81 c_row]
def v_f_X5_slackLength : List Cond := List.cons (.code yX5_slackLength cX5_slackLength 2 (some .int)) (HAppend.hAppend (α := List Cond) (β := List Cond) (γ := List Cond) [.methodLink RX5 94 Lib.Math.abs.name, .static Lib.Math.abs.name, .initialized "java/lang/Math", .code Lib.Math.abs.name Lib.Math.abs.code 1 (some .int), .methodLink RX5 69 yX5_of, .instanceMethod yX5_of, .selects RX5 yX5_of yX5_of, .initialized RX5] (HAppend.hAppend (α := List Cond) (β := List Cond) (γ := List Cond) v_f_X5_of []))
theorem gw_f_X5_slackLength : v_f_X5_slackLength.all goodWord = true := gw_c2 (by decide +kernel) (gw_ap gw_f_X5_of gw_nil)
theorem g_f_X5_slackLength_f_X5_of_69 : GoodIn v_f_X5_slackLength (wsV RX5 69 RX5 yX5_of v_f_X5_of) := goodIn_in gw_f_X5_slackLength (in4 5 6 7 8 rfl rfl rfl rfl (fun _ h => List.mem_cons_of_mem _ (List.mem_append_right _ (List.mem_append_left _ h))))
theorem hd_X5_slackLength : yX5_slackLength.cls = RX5 ∧ yX5_slackLength.cls ≠ "java/lang/invoke/MethodHandle" ∧ yX5_slackLength.cls ≠ "java/lang/invoke/VarHandle" ∧ (parseMethodDescriptor yX5_slackLength.desc).map (fun d => d.parameters.length) = some 1 := by decide +kernel
set_option maxHeartbeats 4000000 in
set_option maxRecDepth 100000 in
theorem f_X5_slackLength (l : Launch) (E : EE) {a_ a_row a_partners a_share a_leftOver : Nat} {p1 : Int32} {c_askedCount : Int32} {c_outcome : Int32} {c_row : Nat → Int32} {rr : Int32} (hF : F_X5_slackLength p1 c_row = some rr) : Met l yX5_slackLength v_f_X5_slackLength (({ frames := 1, cells := 0, slots := 0, locals := 22 } : Room)) (va_Pc [.ref a_, .int p1] (pP E (w_X5_slackLength E a_ a_row a_partners a_share a_leftOver c_askedCount c_outcome c_row))) (vp_Si (fun q : Int32 => q = rr)) 0 0 (fun _ => False) := by
  refine Met.ofW (cc := cX5_slackLength) (maxL := 2) (ret := (some .int)) (by decide) rfl ?_
  intro p e s m args below meth c s₁ B hml hv
  obtain ⟨rfl, ⟨hK, hN⟩, hP⟩ := hv
  have hx := B.exec
  have hb := B.bytes
  have hr := B.returns
  have hts := atoms_spec (ws := v_f_X5_slackLength) B.pre
  have hown : s.vm.findClass RX5 = some m.cls := own_of hd_X5_slackLength.1 (findClass_of_methodNamed B.named)
  have hlocks : meth.locks = false := B.notSynchronized
  replace hP : va_P E.1 vwCl [k_X5 a_ a_row a_partners c_askedCount c_outcome a_share a_leftOver, k_I E a_row 81 c_row] s.heap := hP
  have hl := lv_entry ([.ref a_, .int p1]) (n := 2) (Nat.le_of_ble_eq_true rfl)
  rw [lg_entry_eq]
  generalize (lg_sl ([.ref a_, .int p1]) ++ List.replicate (2 - (lg_sl ([.ref a_, .int p1])).length) Slot.unset).toArray = ls at hl ⊢
  have hl : lv_has ls 2 [(0, .ref a_), (1, .int p1)] := hl
  obtain ⟨Q, hQ⟩ : ∃ Q : State → Prop, Q = MQ below (vp_Si (fun q : Int32 => q = rr)) #[Value.ref a_, Value.int p1] s 0 0 (fun _ => False) := ⟨_, rfl⟩
  rw [← hQ]
  change W p l e ({ frames := 1, cells := 0, slots := 0, locals := 22 } : Room) s m #[Value.ref a_, Value.int p1] below meth c s.heap [] 0 0 Q (F0 m 0 ls [])
  unfold F_X5_slackLength at hF
  refine lv_aload_n hx hb (dq_42 0 bcX5_slackLength_0 (j := 0) rfl rfl) rfl (lv_at hl 0 rfl) ?_
  refine lv_iload_n hx hb (dq_27 0 bcX5_slackLength_0 (j := 1) rfl rfl) rfl (lv_at hl 1 rfl) ?_
  refine lv_iconst (v := 4) hx hb (dq_7 0 bcX5_slackLength_0 (j := 2) rfl rfl) (by decide) ?_
  replace hF := bd1_s hF
  obtain ⟨r_1, hc_2, hF⟩ := hF
  have hPc : va_P E.1 vwCl (w_X5_of E a_ a_row a_partners a_share a_leftOver c_askedCount c_outcome c_row) s.heap := hP.sub (ws' := [k_X5 a_ a_row a_partners c_askedCount c_outcome a_share a_leftOver, k_I E a_row 81 c_row]) [0, 1] rfl
  have hrc := va_recv hK hPc (ci := 6) (q0 := 0) rfl rfl
  refine pE_i (va_runV (As := [.int p1, .int (4 : Int32)]) (rest := [])  ⟨hx, hb, hml, hown, hts⟩ (f_X5_of l E (a_ := a_) (a_row := a_row) (a_partners := a_partners) (a_share := a_share) (a_leftOver := a_leftOver) (p1 := p1) (p2 := (4 : Int32)) (c_askedCount := c_askedCount) (c_outcome := c_outcome) (c_row := c_row) hc_2) (cwV 2 hts g_f_X5_slackLength_f_X5_of_69 rfl rfl rfl hd_X5_of ⟨Nat.le_of_ble_eq_true rfl, Nat.le_of_ble_eq_true rfl⟩) ⟨pP.blind, hrc, (pP.pre ⟨hK, hN⟩ hPc)⟩ rfl rfl hl.1 rfl (lv_room (Nat.le_of_ble_eq_true rfl)) (dq_182 0 bcX5_slackLength_0 (j := 3) (i := 69) rfl rfl rfl) ⟨Nat.le_of_ble_eq_true rfl, Nat.le_of_ble_eq_true rfl⟩) ?_
  refine va_mabs hx hb (hml.trans hl.1.symm) hown (hts (.methodLink RX5 94 Lib.Math.abs.name) (List.mem_of_getElem? (i := 1) rfl)) (hts (.static Lib.Math.abs.name) (List.mem_of_getElem? (i := 2) rfl)) (hts (.initialized "java/lang/Math") (List.mem_of_getElem? (i := 3) rfl)) (hts (.code Lib.Math.abs.name Lib.Math.abs.code 1 (some .int)) (List.mem_of_getElem? (i := 4) rfl)) (Nat.le_of_ble_eq_true rfl) (Nat.le_of_ble_eq_true rfl) (Nat.le_of_ble_eq_true rfl) (Nat.le_of_ble_eq_true rfl) (dq_184 0 bcX5_slackLength_0 (j := 6) (i := 94) rfl rfl rfl) ?_
  refine W.eq (g2 := F0 m 9 ls [.int (absF r_1)]) rfl ?_
  refine lv_aload_n hx hb (dq_42 0 bcX5_slackLength_0 (j := 9) rfl rfl) rfl (lv_at hl 0 rfl) ?_
  refine lv_iload_n hx hb (dq_27 0 bcX5_slackLength_0 (j := 10) rfl rfl) rfl (lv_at hl 1 rfl) ?_
  refine lv_iconst (v := 5) hx hb (dq_8 0 bcX5_slackLength_0 (j := 11) rfl rfl) (by decide) ?_
  replace hF := bd1_s hF
  obtain ⟨r_3, hc_4, hF⟩ := hF
  have hPc : va_P E.1 vwCl (w_X5_of E a_ a_row a_partners a_share a_leftOver c_askedCount c_outcome c_row) s.heap := hP.sub (ws' := [k_X5 a_ a_row a_partners c_askedCount c_outcome a_share a_leftOver, k_I E a_row 81 c_row]) [0, 1] rfl
  have hrc := va_recv hK hPc (ci := 6) (q0 := 0) rfl rfl
  refine pE_i (va_runV (As := [.int p1, .int (5 : Int32)]) (rest := [.int (absF r_1)])  ⟨hx, hb, hml, hown, hts⟩ (f_X5_of l E (a_ := a_) (a_row := a_row) (a_partners := a_partners) (a_share := a_share) (a_leftOver := a_leftOver) (p1 := p1) (p2 := (5 : Int32)) (c_askedCount := c_askedCount) (c_outcome := c_outcome) (c_row := c_row) hc_4) (cwV 2 hts g_f_X5_slackLength_f_X5_of_69 rfl rfl rfl hd_X5_of ⟨Nat.le_of_ble_eq_true rfl, Nat.le_of_ble_eq_true rfl⟩) ⟨pP.blind, hrc, (pP.pre ⟨hK, hN⟩ hPc)⟩ rfl rfl hl.1 rfl (lv_room (Nat.le_of_ble_eq_true rfl)) (dq_182 0 bcX5_slackLength_0 (j := 12) (i := 69) rfl rfl rfl) ⟨Nat.le_of_ble_eq_true rfl, Nat.le_of_ble_eq_true rfl⟩) ?_
  refine va_mabs hx hb (hml.trans hl.1.symm) hown (hts (.methodLink RX5 94 Lib.Math.abs.name) (List.mem_of_getElem? (i := 1) rfl)) (hts (.static Lib.Math.abs.name) (List.mem_of_getElem? (i := 2) rfl)) (hts (.initialized "java/lang/Math") (List.mem_of_getElem? (i := 3) rfl)) (hts (.code Lib.Math.abs.name Lib.Math.abs.code 1 (some .int)) (List.mem_of_getElem? (i := 4) rfl)) (Nat.le_of_ble_eq_true rfl) (Nat.le_of_ble_eq_true rfl) (Nat.le_of_ble_eq_true rfl) (Nat.le_of_ble_eq_true rfl) (dq_184 0 bcX5_slackLength_0 (j := 15) (i := 94) rfl rfl rfl) ?_
  refine W.eq (g2 := F0 m 18 ls [.int (absF r_3), .int (absF r_1)]) rfl ?_
  refine lv_iadd hx hb (dq_96 0 bcX5_slackLength_0 (j := 18) rfl rfl) ?_
  rw [hQ]
  obtain e9_0 := inj1 hF
  exact W.iret (v := (absF r_1) + (absF r_3)) hx hb hr (fun tt ht hW => ⟨_, rfl, e9_0, ht⟩) (fun _ h => by cases h) (dq_172 0 bcX5_slackLength_0 (j := 19) rfl rfl)

def B_X5_slackSites_4 (c_row : Nat → Int32) (x1 : Int32) (x2 : Int32) : Option ((Int32 × Int32) ⊕ (Int32)) :=
  bd1 (F_X5_sites c_row) (fun r_1 => if r_1 ≤ x2 then some (.inr x1) else bd1 (F_X5_slackLength x2 c_row) (fun r_4 => if r_4 = (0 : Int32) then some (.inl (x1 ||| (0 : Int32), x2 + (1 : Int32))) else some (.inl (x1 ||| ((1 : Int32) <<< (x2 &&& (31 : Int32))), x2 + (1 : Int32)))))
def F_X5_slackSites (K : Nat) (c_row : Nat → Int32) : Option (Int32) :=
  bd1 (lpF (fun u9 : Int32 × Int32 => B_X5_slackSites_4 c_row u9.1 u9.2) K ((0 : Int32), (0 : Int32))) (fun x1_7 => some x1_7)
abbrev w_X5_slackSites (E : EE) (a_ a_row a_partners a_share a_leftOver : Nat) (c_askedCount : Int32) (c_outcome : Int32) (c_row : Nat → Int32) : va_W := [k_X5 a_ a_row a_partners c_askedCount c_outcome a_share a_leftOver, k_I E a_row 81 c_row]
def v_f_X5_slackSites : List Cond := List.cons (.code yX5_slackSites cX5_slackSites 3 (some .int)) (HAppend.hAppend (α := List Cond) (β := List Cond) (γ := List Cond) [.methodLink RX5 45 yX5_sites, .instanceMethod yX5_sites, .selects RX5 yX5_sites yX5_sites, .initialized RX5, .methodLink RX5 102 yX5_slackLength, .instanceMethod yX5_slackLength, .selects RX5 yX5_slackLength yX5_slackLength] (HAppend.hAppend (α := List Cond) (β := List Cond) (γ := List Cond) v_f_X5_sites (HAppend.hAppend (α := List Cond) (β := List Cond) (γ := List Cond) v_f_X5_slackLength [])))
theorem gw_f_X5_slackSites : v_f_X5_slackSites.all goodWord = true := gw_c2 (by decide +kernel) (gw_ap gw_f_X5_sites (gw_ap gw_f_X5_slackLength gw_nil))
theorem g_f_X5_slackSites_f_X5_sites_45 : GoodIn v_f_X5_slackSites (wsV RX5 45 RX5 yX5_sites v_f_X5_sites) := goodIn_in gw_f_X5_slackSites (in4 1 2 3 4 rfl rfl rfl rfl (fun _ h => List.mem_cons_of_mem _ (List.mem_append_right _ (List.mem_append_left _ h))))
theorem g_f_X5_slackSites_f_X5_slackLength_102 : GoodIn v_f_X5_slackSites (wsV RX5 102 RX5 yX5_slackLength v_f_X5_slackLength) := goodIn_in gw_f_X5_slackSites (in4 5 6 7 4 rfl rfl rfl rfl (fun _ h => List.mem_cons_of_mem _ (List.mem_append_right _ (List.mem_append_right _ (List.mem_append_left _ h)))))
theorem hd_X5_slackSites : yX5_slackSites.cls = RX5 ∧ yX5_slackSites.cls ≠ "java/lang/invoke/MethodHandle" ∧ yX5_slackSites.cls ≠ "java/lang/invoke/VarHandle" ∧ (parseMethodDescriptor yX5_slackSites.desc).map (fun d => d.parameters.length) = some 0 := by decide +kernel
set_option maxHeartbeats 4000000 in
set_option maxRecDepth 100000 in
theorem wb_X5_slackSites_4 {p : Program} (l : Launch) {e : Env} {s : State} {m : MethodId} {below : List Frame} {meth : Method} {c : Code} {Q : State → Prop} (E : EE) (K : Nat) {a_ a_row a_partners a_share a_leftOver : Nat} {c_askedCount : Int32} {c_outcome : Int32} {c_row : Nat → Int32} {x1 : Int32} {x2 : Int32} (hx : p.tables.exec = Jvm.exec) (hb : c.code = cX5_slackSites) (hml : c.maxLocals = 3) (hown : s.vm.findClass RX5 = some m.cls) (hts : ∀ w ∈ v_f_X5_slackSites, w.before #[Value.ref a_] s = true) (hK : va_K E.1 vwCl (TY E) s) (hN : NX s) {xx : (Int32 × Int32) ⊕ (Int32)} (hC : ∀ (x1 : Int32), ∀ (x2 : Int32), xx = .inl (x1, x2) → ∀ (ls : Array Slot), lv_has ls 3 [(0, .ref a_), (1, .int x1), (2, .int x2)] → W p l e ({ frames := 2, cells := 0, slots := 0, locals := 43 } : Room) s m #[Value.ref a_] below meth c s.heap [] 0 0 Q (F0 m 4 ls [])) (hE : ∀ (x1 : Int32), xx = .inr x1 → ((∀ (ls : Array Slot), lv_has ls 3 [(1, .int x1)] → W p l e ({ frames := 2, cells := 0, slots := 0, locals := 43 } : Room) s m #[Value.ref a_] below meth c s.heap [] 0 0 Q (F0 m 36 ls [])))) (hF : B_X5_slackSites_4 c_row x1 x2 = some xx) (hP : va_P E.1 vwCl (w_X5_slackSites E a_ a_row a_partners a_share a_leftOver c_askedCount c_outcome c_row) s.heap) : ∀ (ls : Array Slot), lv_has ls 3 [(0, .ref a_), (1, .int x1), (2, .int x2)] → W p l e ({ frames := 2, cells := 0, slots := 0, locals := 43 } : Room) s m #[Value.ref a_] below meth c s.heap [] 0 0 Q (F0 m 4 ls []) := by
  unfold B_X5_slackSites_4 at hF
  replace hP : va_P E.1 vwCl [k_X5 a_ a_row a_partners c_askedCount c_outcome a_share a_leftOver, k_I E a_row 81 c_row] s.heap := hP
  intro ls hl
  refine lv_iload_n hx hb (dq_28 0 bcX5_slackSites_0 (j := 4) rfl rfl) rfl (lv_at hl 2 rfl) ?_
  refine lv_aload_n hx hb (dq_42 0 bcX5_slackSites_0 (j := 5) rfl rfl) rfl (lv_at hl 0 rfl) ?_
  replace hF := bd1_s hF
  obtain ⟨r_1, hc_2, hF⟩ := hF
  have hPc : va_P E.1 vwCl (w_X5_sites E a_ a_row a_partners a_share a_leftOver c_askedCount c_outcome c_row) s.heap := hP.sub (ws' := [k_X5 a_ a_row a_partners c_askedCount c_outcome a_share a_leftOver, k_I E a_row 81 c_row]) [0, 1] rfl
  have hrc := va_recv hK hPc (ci := 6) (q0 := 0) rfl rfl
  refine pE_i (va_runV (As := []) (rest := [.int x2])  ⟨hx, hb, hml, hown, hts⟩ (f_X5_sites l E (a_ := a_) (a_row := a_row) (a_partners := a_partners) (a_share := a_share) (a_leftOver := a_leftOver) (c_askedCount := c_askedCount) (c_outcome := c_outcome) (c_row := c_row) hc_2) (cwV 0 hts g_f_X5_slackSites_f_X5_sites_45 rfl rfl rfl hd_X5_sites ⟨Nat.le_of_ble_eq_true rfl, Nat.le_of_ble_eq_true rfl⟩) ⟨pP.blind, hrc, (pP.pre ⟨hK, hN⟩ hPc)⟩ rfl rfl hl.1 rfl (lv_room (Nat.le_of_ble_eq_true rfl)) (dq_182 0 bcX5_slackSites_0 (j := 6) (i := 45) rfl rfl rfl) ⟨Nat.le_of_ble_eq_true rfl, Nat.le_of_ble_eq_true rfl⟩) ?_
  refine lv_icmp_ge (tgt := 36) hx hb (dq_162 0 bcX5_slackSites_0 (j := 9) (i := 27) rfl rfl rfl) (by decide) (fun c_3 => ?_) (fun c_3 => ?_)
  ·
    replace hF := ip c_3 hF
    cases hF
    exact hE x1 rfl ls (lv_sub hl [1] rfl)
  ·
    replace hF := inn c_3 hF
    refine lv_iload_n hx hb (dq_27 0 bcX5_slackSites_0 (j := 12) rfl rfl) rfl (lv_at hl 1 rfl) ?_
    refine lv_aload_n hx hb (dq_42 0 bcX5_slackSites_0 (j := 13) rfl rfl) rfl (lv_at hl 0 rfl) ?_
    refine lv_iload_n hx hb (dq_28 0 bcX5_slackSites_0 (j := 14) rfl rfl) rfl (lv_at hl 2 rfl) ?_
    replace hF := bd1_s hF
    obtain ⟨r_4, hc_5, hF⟩ := hF
    have hPc : va_P E.1 vwCl (w_X5_slackLength E a_ a_row a_partners a_share a_leftOver c_askedCount c_outcome c_row) s.heap := hP.sub (ws' := [k_X5 a_ a_row a_partners c_askedCount c_outcome a_share a_leftOver, k_I E a_row 81 c_row]) [0, 1] rfl
    have hrc := va_recv hK hPc (ci := 6) (q0 := 0) rfl rfl
    refine pE_i (va_runV (As := [.int x2]) (rest := [.int x1])  ⟨hx, hb, hml, hown, hts⟩ (f_X5_slackLength l E (a_ := a_) (a_row := a_row) (a_partners := a_partners) (a_share := a_share) (a_leftOver := a_leftOver) (p1 := x2) (c_askedCount := c_askedCount) (c_outcome := c_outcome) (c_row := c_row) hc_5) (cwV 1 hts g_f_X5_slackSites_f_X5_slackLength_102 rfl rfl rfl hd_X5_slackLength ⟨Nat.le_of_ble_eq_true rfl, Nat.le_of_ble_eq_true rfl⟩) ⟨pP.blind, hrc, (pP.pre ⟨hK, hN⟩ hPc)⟩ rfl rfl hl.1 rfl (lv_room (Nat.le_of_ble_eq_true rfl)) (dq_182 0 bcX5_slackSites_0 (j := 15) (i := 102) rfl rfl rfl) ⟨Nat.le_of_ble_eq_true rfl, Nat.le_of_ble_eq_true rfl⟩) ?_
    refine lv_if_eq (tgt := 27) hx hb (dq_153 0 bcX5_slackSites_0 (j := 18) (i := 9) rfl rfl rfl) (by decide) (fun c_6 => ?_) (fun c_6 => ?_)
    ·
      replace hF := ip c_6 hF
      refine lv_iconst (v := 0) hx hb (dq_3 0 bcX5_slackSites_0 (j := 27) rfl rfl) (by decide) ?_
      refine lv_ior hx hb (dq_128 0 bcX5_slackSites_0 (j := 28) rfl rfl) ?_
      refine lv_istore_n (lv' := [(1, .int (x1 ||| (0 : Int32))), (0, .ref a_), (2, .int x2)]) hx hb (dq_60 0 bcX5_slackSites_0 (j := 29) rfl rfl) rfl hl (by decide) rfl (fun ls hl => ?_)
      refine lv_iinc (v := x2 + (1 : Int32)) (lv' := [(2, .int (x2 + (1 : Int32))), (1, .int (x1 ||| (0 : Int32))), (0, .ref a_)]) hx hb (dq_132 0 bcX5_slackSites_0 (j := 30) (i := 1) rfl rfl rfl) hl (k := 2) rfl (rfl) (by decide) rfl (fun ls hl => ?_)
      refine lv_goto (tgt := 4) hx hb (dq_167 0 bcX5_slackSites_0 (j := 33) (i := -29) rfl rfl rfl) (by decide) ?_
      cases hF
      exact hC (x1 ||| (0 : Int32)) (x2 + (1 : Int32)) rfl ls (lv_sub hl [2, 1, 0] rfl)
    ·
      replace hF := inn c_6 hF
      refine lv_iconst (v := 1) hx hb (dq_4 0 bcX5_slackSites_0 (j := 21) rfl rfl) (by decide) ?_
      refine lv_iload_n hx hb (dq_28 0 bcX5_slackSites_0 (j := 22) rfl rfl) rfl (lv_at hl 2 rfl) ?_
      refine lv_ishl hx hb (dq_120 0 bcX5_slackSites_0 (j := 23) rfl rfl) ?_
      refine lv_goto (tgt := 28) hx hb (dq_167 0 bcX5_slackSites_0 (j := 24) (i := 4) rfl rfl rfl) (by decide) ?_
      refine lv_ior hx hb (dq_128 0 bcX5_slackSites_0 (j := 28) rfl rfl) ?_
      refine lv_istore_n (lv' := [(1, .int (x1 ||| ((1 : Int32) <<< (x2 &&& (31 : Int32))))), (0, .ref a_), (2, .int x2)]) hx hb (dq_60 0 bcX5_slackSites_0 (j := 29) rfl rfl) rfl hl (by decide) rfl (fun ls hl => ?_)
      refine lv_iinc (v := x2 + (1 : Int32)) (lv' := [(2, .int (x2 + (1 : Int32))), (1, .int (x1 ||| ((1 : Int32) <<< (x2 &&& (31 : Int32))))), (0, .ref a_)]) hx hb (dq_132 0 bcX5_slackSites_0 (j := 30) (i := 1) rfl rfl rfl) hl (k := 2) rfl (rfl) (by decide) rfl (fun ls hl => ?_)
      refine lv_goto (tgt := 4) hx hb (dq_167 0 bcX5_slackSites_0 (j := 33) (i := -29) rfl rfl rfl) (by decide) ?_
      cases hF
      exact hC (x1 ||| ((1 : Int32) <<< (x2 &&& (31 : Int32)))) (x2 + (1 : Int32)) rfl ls (lv_sub hl [2, 1, 0] rfl)

set_option maxHeartbeats 4000000 in
set_option maxRecDepth 100000 in
theorem lw_X5_slackSites_4 {p : Program} (l : Launch) {e : Env} {s : State} {m : MethodId} {below : List Frame} {meth : Method} {c : Code} {Q : State → Prop} (E : EE) (K : Nat) {a_ a_row a_partners a_share a_leftOver : Nat} {c_askedCount : Int32} {c_outcome : Int32} {c_row : Nat → Int32} (hx : p.tables.exec = Jvm.exec) (hb : c.code = cX5_slackSites) (hml : c.maxLocals = 3) (hown : s.vm.findClass RX5 = some m.cls) (hts : ∀ w ∈ v_f_X5_slackSites, w.before #[Value.ref a_] s = true) (hK : va_K E.1 vwCl (TY E) s) (hN : NX s) (hP : va_P E.1 vwCl (w_X5_slackSites E a_ a_row a_partners a_share a_leftOver c_askedCount c_outcome c_row) s.heap) (j9 : Nat) (x1 : Int32) (x2 : Int32) (x1' : Int32) (hL : lpF (fun u9 : Int32 × Int32 => B_X5_slackSites_4 c_row u9.1 u9.2) j9 (x1, x2) = some x1') (hX : (∀ (ls : Array Slot), lv_has ls 3 [(1, .int x1')] → W p l e ({ frames := 2, cells := 0, slots := 0, locals := 43 } : Room) s m #[Value.ref a_] below meth c s.heap [] 0 0 Q (F0 m 36 ls []))) : ∀ (ls : Array Slot), lv_has ls 3 [(0, .ref a_), (1, .int x1), (2, .int x2)] → W p l e ({ frames := 2, cells := 0, slots := 0, locals := 43 } : Room) s m #[Value.ref a_] below meth c s.heap [] 0 0 Q (F0 m 4 ls []) := by
  exact lp_rule (P := (fun u9 : Int32 × Int32 => ∀ (ls : Array Slot), lv_has ls 3 [(0, .ref a_), (1, .int u9.1), (2, .int u9.2)] → W p l e ({ frames := 2, cells := 0, slots := 0, locals := 43 } : Room) s m #[Value.ref a_] below meth c s.heap [] 0 0 Q (F0 m 4 ls []))) (R := (fun r9 : Int32 => (∀ (ls : Array Slot), lv_has ls 3 [(1, .int r9)] → W p l e ({ frames := 2, cells := 0, slots := 0, locals := 43 } : Room) s m #[Value.ref a_] below meth c s.heap [] 0 0 Q (F0 m 36 ls [])))) (fun u9 xx hF hC hE => wb_X5_slackSites_4 l E K (c_askedCount := c_askedCount) (c_outcome := c_outcome) (c_row := c_row) (x1 := u9.1) (x2 := u9.2) hx hb hml hown hts hK hN (fun x1 x2 q9 => hC _ q9) (fun x1 q9 => hE _ q9) hF hP) j9 (x1, x2) x1' hL hX

set_option maxHeartbeats 4000000 in
set_option maxRecDepth 100000 in
theorem f_X5_slackSites (l : Launch) (E : EE) (K : Nat) {a_ a_row a_partners a_share a_leftOver : Nat} {c_askedCount : Int32} {c_outcome : Int32} {c_row : Nat → Int32} {rr : Int32} (hF : F_X5_slackSites K c_row = some rr) : Met l yX5_slackSites v_f_X5_slackSites (({ frames := 2, cells := 0, slots := 0, locals := 43 } : Room)) (va_Pc [.ref a_] (pP E (w_X5_slackSites E a_ a_row a_partners a_share a_leftOver c_askedCount c_outcome c_row))) (vp_Si (fun q : Int32 => q = rr)) 0 0 (fun _ => False) := by
  refine Met.ofW (cc := cX5_slackSites) (maxL := 3) (ret := (some .int)) (by decide) rfl ?_
  intro p e s m args below meth c s₁ B hml hv
  obtain ⟨rfl, ⟨hK, hN⟩, hP⟩ := hv
  have hx := B.exec
  have hb := B.bytes
  have hr := B.returns
  have hts := atoms_spec (ws := v_f_X5_slackSites) B.pre
  have hown : s.vm.findClass RX5 = some m.cls := own_of hd_X5_slackSites.1 (findClass_of_methodNamed B.named)
  have hlocks : meth.locks = false := B.notSynchronized
  replace hP : va_P E.1 vwCl [k_X5 a_ a_row a_partners c_askedCount c_outcome a_share a_leftOver, k_I E a_row 81 c_row] s.heap := hP
  have hl := lv_entry ([.ref a_]) (n := 3) (Nat.le_of_ble_eq_true rfl)
  rw [lg_entry_eq]
  generalize (lg_sl ([.ref a_]) ++ List.replicate (3 - (lg_sl ([.ref a_])).length) Slot.unset).toArray = ls at hl ⊢
  have hl : lv_has ls 3 [(0, .ref a_)] := hl
  obtain ⟨Q, hQ⟩ : ∃ Q : State → Prop, Q = MQ below (vp_Si (fun q : Int32 => q = rr)) #[Value.ref a_] s 0 0 (fun _ => False) := ⟨_, rfl⟩
  rw [← hQ]
  change W p l e ({ frames := 2, cells := 0, slots := 0, locals := 43 } : Room) s m #[Value.ref a_] below meth c s.heap [] 0 0 Q (F0 m 0 ls [])
  unfold F_X5_slackSites at hF
  refine lv_iconst (v := 0) hx hb (dq_3 0 bcX5_slackSites_0 (j := 0) rfl rfl) (by decide) ?_
  refine lv_istore_n (lv' := [(1, .int (0 : Int32)), (0, .ref a_)]) hx hb (dq_60 0 bcX5_slackSites_0 (j := 1) rfl rfl) rfl hl (by decide) rfl (fun ls hl => ?_)
  refine lv_iconst (v := 0) hx hb (dq_3 0 bcX5_slackSites_0 (j := 2) rfl rfl) (by decide) ?_
  refine lv_istore_n (lv' := [(2, .int (0 : Int32)), (1, .int (0 : Int32)), (0, .ref a_)]) hx hb (dq_61 0 bcX5_slackSites_0 (j := 3) rfl rfl) rfl hl (by decide) rfl (fun ls hl => ?_)
  replace hF := bd1_s hF
  obtain ⟨x1_7, hL_8, hF⟩ := hF
  refine lw_X5_slackSites_4 l E K (c_askedCount := c_askedCount) (c_outcome := c_outcome) (c_row := c_row) hx hb hml hown hts hK hN hP K (0 : Int32) (0 : Int32) x1_7 hL_8 ?_ ls (lv_sub hl [2, 1, 0] rfl)
  ·
    intro ls hl
    refine lv_iload_n hx hb (dq_27 0 bcX5_slackSites_0 (j := 36) rfl rfl) rfl (lv_at hl 0 rfl) ?_
    rw [hQ]
    obtain e9_0 := inj1 hF
    exact W.iret (v := x1_7) hx hb hr (fun tt ht hW => ⟨_, rfl, e9_0, ht⟩) (fun _ h => by cases h) (dq_172 0 bcX5_slackSites_0 (j := 37) rfl rfl)
