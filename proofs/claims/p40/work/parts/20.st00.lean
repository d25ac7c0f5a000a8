noncomputable def blX5_hasSite_0 : List Nat := [27, 155, 0, 23, 27, 42, 180, 0, 11, 6, 46, 162, 0, 13, 27, 16, 8, 162, 0, 7, 4, 167, 0, 4, 3, 172]
set_option maxRecDepth 100000 in
theorem bcX5_hasSite_0 : ((cX5_hasSite.data.toList.drop 0).take blX5_hasSite_0.length).map UInt8.toNat = blX5_hasSite_0 := by decide +kernel
noncomputable def blX5_of_0 : List Nat := [27, 155, 0, 19, 27, 16, 8, 162, 0, 13, 28, 155, 0, 9, 28, 16, 8, 161, 0, 5, 3, 172, 42, 180, 0, 11, 16, 17, 27, 16, 8, 104, 96, 28, 96, 46, 172]
set_option maxRecDepth 100000 in
theorem bcX5_of_0 : ((cX5_of.data.toList.drop 0).take blX5_of_0.length).map UInt8.toNat = blX5_of_0 := by decide +kernel
noncomputable def blX5_isReached_0 : List Nat := [42, 180, 0, 11, 16, 8, 46, 42, 180, 0, 11, 5, 46, 161, 0, 7, 4, 167, 0, 4, 3, 172]
set_option maxRecDepth 100000 in
theorem bcX5_isReached_0 : ((cX5_isReached.data.toList.drop 0).take blX5_isReached_0.length).map UInt8.toNat = blX5_isReached_0 := by decide +kernel
noncomputable def blX5_addRefusal_0 : List Nat := [42, 27, 182, 0, 79, 154, 0, 5, 3, 172, 28, 4, 161, 0, 24, 28, 17, 3, 231, 163, 0, 17, 42, 27, 16, 6, 182, 0, 69, 28, 96, 18, 98, 164, 0, 5, 4, 172, 42, 182, 0, 134, 153, 0, 7, 5, 167, 0, 4, 2, 172]
set_option maxRecDepth 100000 in
theorem bcX5_addRefusal_0 : ((cX5_addRefusal.data.toList.drop 0).take blX5_addRefusal_0.length).map UInt8.toNat = blX5_addRefusal_0 := by decide +kernel
noncomputable def blX5_addRefusal_1 : List Nat := [4, 2, 172]
set_option maxRecDepth 100000 in
theorem bcX5_addRefusal_1 : ((cX5_addRefusal.data.toList.drop 48).take blX5_addRefusal_1.length).map UInt8.toNat = blX5_addRefusal_1 := by decide +kernel
noncomputable def blX5_put_0 : List Nat := [27, 155, 0, 34, 27, 16, 8, 162, 0, 28, 28, 155, 0, 24, 28, 16, 8, 162, 0, 18, 42, 180, 0, 11, 16, 17, 27, 16, 8, 104, 96, 28, 96, 29, 79, 177]
set_option maxRecDepth 100000 in
theorem bcX5_put_0 : ((cX5_put.data.toList.drop 0).take blX5_put_0.length).map UInt8.toNat = blX5_put_0 := by decide +kernel
noncomputable def blX5_stepFrom_0 : List Nat := [5, 42, 180, 0, 11, 6, 46, 104, 61, 28, 158, 0, 13, 27, 42, 180, 0, 11, 5, 46, 161, 0, 7, 3, 167, 0, 13, 42, 180, 0, 11, 5, 46, 27, 100, 28, 108, 172]
set_option maxRecDepth 100000 in
theorem bcX5_stepFrom_0 : ((cX5_stepFrom.data.toList.drop 0).take blX5_stepFrom_0.length).map UInt8.toNat = blX5_stepFrom_0 := by decide +kernel
noncomputable def blX5_sites_0 : List Nat := [42, 180, 0, 11, 6, 46, 172]
set_option maxRecDepth 100000 in
theorem bcX5_sites_0 : ((cX5_sites.data.toList.drop 0).take blX5_sites_0.length).map UInt8.toNat = blX5_sites_0 := by decide +kernel
noncomputable def blX5_total_0 : List Nat := [3, 61, 3, 62, 29, 42, 182, 0, 45, 162, 0, 18, 28, 42, 29, 27, 182, 0, 69, 96, 61, 132, 3, 1, 167, 255, 236, 28, 172]
set_option maxRecDepth 100000 in
theorem bcX5_total_0 : ((cX5_total.data.toList.drop 0).take blX5_total_0.length).map UInt8.toNat = blX5_total_0 := by decide +kernel
noncomputable def blX5_endRound_0 : List Nat := [42, 180, 0, 11, 16, 8, 42, 16, 6, 182, 0, 188, 79, 42, 180, 0, 11, 16, 9, 3, 79, 42, 180, 0, 11, 16, 10, 92, 46, 4, 96, 79, 3, 60, 27, 42, 182, 0, 45, 162, 0, 17, 42, 27, 16, 7, 3, 182, 0, 52, 132]
set_option maxRecDepth 100000 in
theorem bcX5_endRound_0 : ((cX5_endRound.data.toList.drop 0).take blX5_endRound_0.length).map UInt8.toNat = blX5_endRound_0 := by decide +kernel
noncomputable def blX5_endRound_1 : List Nat := [0, 52, 132, 1, 1, 167, 255, 237, 177]
set_option maxRecDepth 100000 in
theorem bcX5_endRound_1 : ((cX5_endRound.data.toList.drop 48).take blX5_endRound_1.length).map UInt8.toNat = blX5_endRound_1 := by decide +kernel
noncomputable def blX5_addTo_1 : List Nat := [7, 42, 27, 16, 7, 182, 0, 69, 28, 96, 182, 0, 52, 3, 54, 4, 3, 54, 5, 21, 5, 16, 8, 162, 0, 82, 42, 27, 16, 7, 182, 0, 69, 29, 161, 0, 71, 42, 27, 16, 7, 42, 27, 16, 7, 182, 0, 69, 29, 100, 182]
set_option maxRecDepth 100000 in
theorem bcX5_addTo_1 : ((cX5_addTo.data.toList.drop 48).take blX5_addTo_1.length).map UInt8.toNat = blX5_addTo_1 := by decide +kernel
noncomputable def blX5_addTo_2 : List Nat := [29, 100, 182, 0, 52, 42, 180, 0, 11, 16, 9, 92, 46, 4, 96, 79, 132, 4, 1, 42, 180, 0, 11, 16, 9, 46, 42, 180, 0, 11, 6, 46, 161, 0, 19, 42, 182, 0, 185, 21, 4, 5, 42, 180, 0, 11, 6, 46, 104, 96, 172]
set_option maxRecDepth 100000 in
theorem bcX5_addTo_2 : ((cX5_addTo.data.toList.drop 96).take blX5_addTo_2.length).map UInt8.toNat = blX5_addTo_2 := by decide +kernel
noncomputable def blX5_addTo_3 : List Nat := [104, 96, 172, 132, 5, 1, 167, 255, 173, 21, 4, 172]
set_option maxRecDepth 100000 in
theorem bcX5_addTo_3 : ((cX5_addTo.data.toList.drop 144).take blX5_addTo_3.length).map UInt8.toNat = blX5_addTo_3 := by decide +kernel
noncomputable def blX5_addTo_0 : List Nat := [42, 27, 16, 6, 42, 27, 16, 6, 182, 0, 69, 28, 96, 182, 0, 52, 42, 42, 180, 0, 11, 16, 8, 46, 182, 0, 182, 62, 29, 154, 0, 16, 42, 180, 0, 11, 16, 8, 92, 46, 28, 96, 79, 4, 172, 42, 27, 16, 7, 42, 27]
set_option maxRecDepth 100000 in
theorem bcX5_addTo_0 : ((cX5_addTo.data.toList.drop 0).take blX5_addTo_0.length).map UInt8.toNat = blX5_addTo_0 := by decide +kernel
noncomputable def blX5_valueOf_0 : List Nat := [31, 9, 148, 156, 0, 8, 31, 117, 167, 0, 4, 31, 55, 5, 33, 9, 148, 156, 0, 8, 33, 117, 167, 0, 4, 33, 55, 7, 42, 180, 0, 11, 3, 46, 170, 0, 0, 0, 0, 56, 0, 0, 0, 1, 0, 0, 0, 3, 0, 0, 0]
set_option maxRecDepth 100000 in
theorem bcX5_valueOf_0 : ((cX5_valueOf.data.toList.drop 0).take blX5_valueOf_0.length).map UInt8.toNat = blX5_valueOf_0 := by decide +kernel
noncomputable def blX5_valueOf_1 : List Nat := [0, 0, 0, 26, 0, 0, 0, 34, 0, 0, 0, 50, 31, 31, 105, 33, 33, 105, 97, 173, 22, 5, 22, 7, 148, 158, 0, 8, 22, 5, 167, 0, 5, 22, 7, 173, 22, 5, 22, 7, 97, 173, 31, 33, 97, 173]
set_option maxRecDepth 100000 in
theorem bcX5_valueOf_1 : ((cX5_valueOf.data.toList.drop 48).take blX5_valueOf_1.length).map UInt8.toNat = blX5_valueOf_1 := by decide +kernel
def dl_X5_valueOf_20_st00_0 : List (Nat × Instr × Nat) := [(34, .tableswitch 56 1 3 #[26, 34, 50], 26)]
set_option maxRecDepth 100000 in
theorem dall_X5_valueOf_20_st00_0 : dchk cX5_valueOf dl_X5_valueOf_20_st00_0 = true := by decide +kernel
theorem dX5_valueOf_34 : decode cX5_valueOf 34 = .ok (.tableswitch 56 1 3 #[26, 34, 50], 26) := dchk_at dall_X5_valueOf_20_st00_0 (k := 0) rfl
def F_X5_hasSite (p1 : Int32) (c_row : Nat → Int32) : Option (Int32) :=
  if p1 < (0 : Int32) then some (0 : Int32) else if c_row 3 ≤ p1 then some (0 : Int32) else if (8 : Int32) ≤ p1 then some (0 : Int32) else some (1 : Int32)
theorem gw_wsX50 : wsX50.all goodWord = true := by decide +kernel
abbrev w_X5_hasSite (E : EE) (a_ a_row a_partners a_share a_leftOver : Nat) (c_askedCount : Int32) (c_outcome : Int32) (c_row : Nat → Int32) : va_W := [k_X5 a_ a_row a_partners c_askedCount c_outcome a_share a_leftOver, k_I E a_row 81 c_row]
def v_f_X5_hasSite : List Cond := List.cons (.code yX5_hasSite cX5_hasSite 2 (some .boolean)) (HAppend.hAppend (α := List Cond) (β := List Cond) (γ := List Cond) [.fieldLink RX5 11 "HushWatch$State" "row" "[I"] (HAppend.hAppend (α := List Cond) (β := List Cond) (γ := List Cond) wsX50 []))
theorem gw_f_X5_hasSite : v_f_X5_hasSite.all goodWord = true := gw_c2 (by decide +kernel) (gw_ap gw_wsX50 gw_nil)
theorem i_f_X5_hasSite_X5 : ∀ w ∈ wsX50, w ∈ v_f_X5_hasSite := fun _ h => List.mem_cons_of_mem _ (List.mem_append_right _ (List.mem_append_left _ h))
theorem hd_X5_hasSite : yX5_hasSite.cls = RX5 ∧ yX5_hasSite.cls ≠ "java/lang/invoke/MethodHandle" ∧ yX5_hasSite.cls ≠ "java/lang/invoke/VarHandle" ∧ (parseMethodDescriptor yX5_hasSite.desc).map (fun d => d.parameters.length) = some 1 := by decide +kernel
set_option maxHeartbeats 4000000 in
set_option maxRecDepth 100000 in
theorem f_X5_hasSite (l : Launch) (E : EE) {a_ a_row a_partners a_share a_leftOver : Nat} {p1 : Int32} {c_askedCount : Int32} {c_outcome : Int32} {c_row : Nat → Int32} {rr : Int32} (hF : F_X5_hasSite p1 c_row = some rr) : Met l yX5_hasSite v_f_X5_hasSite (({ frames := 0, cells := 0, slots := 0, locals := 0 } : Room)) (va_Pc [.ref a_, .int p1] (pP E (w_X5_hasSite E a_ a_row a_partners a_share a_leftOver c_askedCount c_outcome c_row))) (vp_Si (fun q : Int32 => q = rr ∧ (q = 0 ∨ q = 1))) 0 0 (fun _ => False) := by
  refine Met.ofW (cc := cX5_hasSite) (maxL := 2) (ret := (some .boolean)) (by decide) rfl ?_
  intro p e s m args below meth c s₁ B hml hv
  obtain ⟨rfl, ⟨hK, hN⟩, hP⟩ := hv
  have hx := B.exec
  have hb := B.bytes
  have hr := B.returns
  have hts := atoms_spec (ws := v_f_X5_hasSite) B.pre
  have hown : s.vm.findClass RX5 = some m.cls := own_of hd_X5_hasSite.1 (findClass_of_methodNamed B.named)
  have hlocks : meth.locks = false := B.notSynchronized
  replace hP : va_P E.1 vwCl [k_X5 a_ a_row a_partners c_askedCount c_outcome a_share a_leftOver, k_I E a_row 81 c_row] s.heap := hP
  have hl := lv_entry ([.ref a_, .int p1]) (n := 2) (Nat.le_of_ble_eq_true rfl)
  rw [lg_entry_eq]
  generalize (lg_sl ([.ref a_, .int p1]) ++ List.replicate (2 - (lg_sl ([.ref a_, .int p1])).length) Slot.unset).toArray = ls at hl ⊢
  have hl : lv_has ls 2 [(0, .ref a_), (1, .int p1)] := hl
  obtain ⟨Q, hQ⟩ : ∃ Q : State → Prop, Q = MQ below (vp_Si (fun q : Int32 => q = rr ∧ (q = 0 ∨ q = 1))) #[Value.ref a_, Value.int p1] s 0 0 (fun _ => False) := ⟨_, rfl⟩
  rw [← hQ]
  change W p l e ({ frames := 0, cells := 0, slots := 0, locals := 0 } : Room) s m #[Value.ref a_, Value.int p1] below meth c s.heap [] 0 0 Q (F0 m 0 ls [])
  unfold F_X5_hasSite at hF
  refine lv_iload_n hx hb (dq_27 0 bcX5_hasSite_0 (j := 0) rfl rfl) rfl (lv_at hl 1 rfl) ?_
  refine lv_if_lt (tgt := 24) hx hb (dq_155 0 bcX5_hasSite_0 (j := 1) (i := 23) rfl rfl rfl) (by decide) (fun c_1 => ?_) (fun c_1 => ?_)
  ·
    replace hF := ip c_1 hF
    refine lv_iconst (v := 0) hx hb (dq_3 0 bcX5_hasSite_0 (j := 24) rfl rfl) (by decide) ?_
    rw [hQ]
    obtain e9_0 := inj1 hF
    exact W.zret (v := (0 : Int32)) hx hb hr rfl (fun tt ht hW => ⟨_, rfl, ⟨e9_0, Or.inl rfl⟩, ht⟩) (fun _ h => by cases h) (dq_172 0 bcX5_hasSite_0 (j := 25) rfl rfl)
  ·
    replace hF := inn c_1 hF
    refine lv_iload_n hx hb (dq_27 0 bcX5_hasSite_0 (j := 4) rfl rfl) rfl (lv_at hl 1 rfl) ?_
    refine lv_aload_n hx hb (dq_42 0 bcX5_hasSite_0 (j := 5) rfl rfl) rfl (lv_at hl 0 rfl) ?_
    refine gt_X5_0 (v := .ref a_row) hx hb hts i_f_X5_hasSite_X5 hown hK hP 0 rfl (hts (.fieldLink RX5 11 "HushWatch$State" "row" "[I") (List.mem_of_getElem? (i := 1) rfl)) rfl (dq_180 0 bcX5_hasSite_0 (j := 6) (i := 11) rfl rfl rfl) ?_
    refine lv_iconst (v := 3) hx hb (dq_6 0 bcX5_hasSite_0 (j := 9) rfl rfl) (by decide) ?_
    refine va_iald hx hb hK hP 1 0 rfl rfl (vin rfl) (dq_46 0 bcX5_hasSite_0 (j := 10) rfl rfl) ?_
    refine W.eq (g2 := F0 m 11 ls [.int (c_row 3), .int p1]) rfl ?_
    refine lv_icmp_ge (tgt := 24) hx hb (dq_162 0 bcX5_hasSite_0 (j := 11) (i := 13) rfl rfl rfl) (by decide) (fun c_2 => ?_) (fun c_2 => ?_)
    ·
      replace hF := ip c_2 hF
      refine lv_iconst (v := 0) hx hb (dq_3 0 bcX5_hasSite_0 (j := 24) rfl rfl) (by decide) ?_
      rw [hQ]
      obtain e9_0 := inj1 hF
      exact W.zret (v := (0 : Int32)) hx hb hr rfl (fun tt ht hW => ⟨_, rfl, ⟨e9_0, Or.inl rfl⟩, ht⟩) (fun _ h => by cases h) (dq_172 0 bcX5_hasSite_0 (j := 25) rfl rfl)
    ·
      replace hF := inn c_2 hF
      refine lv_iload_n hx hb (dq_27 0 bcX5_hasSite_0 (j := 14) rfl rfl) rfl (lv_at hl 1 rfl) ?_
      refine lv_bipush (v := 8) hx hb (dq_16 0 bcX5_hasSite_0 (j := 15) (i := 8) rfl rfl rfl) (by decide) ?_
      refine lv_icmp_ge (tgt := 24) hx hb (dq_162 0 bcX5_hasSite_0 (j := 17) (i := 7) rfl rfl rfl) (by decide) (fun c_3 => ?_) (fun c_3 => ?_)
      ·
        replace hF := ip c_3 hF
        refine lv_iconst (v := 0) hx hb (dq_3 0 bcX5_hasSite_0 (j := 24) rfl rfl) (by decide) ?_
        rw [hQ]
        obtain e9_0 := inj1 hF
        exact W.zret (v := (0 : Int32)) hx hb hr rfl (fun tt ht hW => ⟨_, rfl, ⟨e9_0, Or.inl rfl⟩, ht⟩) (fun _ h => by cases h) (dq_172 0 bcX5_hasSite_0 (j := 25) rfl rfl)
      ·
        replace hF := inn c_3 hF
        refine lv_iconst (v := 1) hx hb (dq_4 0 bcX5_hasSite_0 (j := 20) rfl rfl) (by decide) ?_
        refine lv_goto (tgt := 25) hx hb (dq_167 0 bcX5_hasSite_0 (j := 21) (i := 4) rfl rfl rfl) (by decide) ?_
        rw [hQ]
        obtain e9_0 := inj1 hF
        exact W.zret (v := (1 : Int32)) hx hb hr rfl (fun tt ht hW => ⟨_, rfl, ⟨e9_0, Or.inr rfl⟩, ht⟩) (fun _ h => by cases h) (dq_172 0 bcX5_hasSite_0 (j := 25) rfl rfl)

def F_X5_of (p1 : Int32) (p2 : Int32) (c_row : Nat → Int32) : Option (Int32) :=
  if p1 < (0 : Int32) then some (0 : Int32) else if (8 : Int32) ≤ p1 then some (0 : Int32) else if p2 < (0 : Int32) then some (0 : Int32) else if p2 < (8 : Int32) then ixF (((17 : Int32) + (p1 * (8 : Int32))) + p2) 81 (some (c_row (((17 : Int32) + (p1 * (8 : Int32))) + p2).toNatClampNeg)) else some (0 : Int32)
abbrev w_X5_of (E : EE) (a_ a_row a_partners a_share a_leftOver : Nat) (c_askedCount : Int32) (c_outcome : Int32) (c_row : Nat → Int32) : va_W := [k_X5 a_ a_row a_partners c_askedCount c_outcome a_share a_leftOver, k_I E a_row 81 c_row]
def v_f_X5_of : List Cond := List.cons (.code yX5_of cX5_of 3 (some .int)) (HAppend.hAppend (α := List Cond) (β := List Cond) (γ := List Cond) [.fieldLink RX5 11 "HushWatch$State" "row" "[I"] (HAppend.hAppend (α := List Cond) (β := List Cond) (γ := List Cond) wsX50 []))
theorem gw_f_X5_of : v_f_X5_of.all goodWord = true := gw_c2 (by decide +kernel) (gw_ap gw_wsX50 gw_nil)
theorem i_f_X5_of_X5 : ∀ w ∈ wsX50, w ∈ v_f_X5_of := fun _ h => List.mem_cons_of_mem _ (List.mem_append_right _ (List.mem_append_left _ h))
theorem hd_X5_of : yX5_of.cls = RX5 ∧ yX5_of.cls ≠ "java/lang/invoke/MethodHandle" ∧ yX5_of.cls ≠ "java/lang/invoke/VarHandle" ∧ (parseMethodDescriptor yX5_of.desc).map (fun d => d.parameters.length) = some 2 := by decide +kernel
set_option maxHeartbeats 4000000 in
set_option maxRecDepth 100000 in
theorem f_X5_of (l : Launch) (E : EE) {a_ a_row a_partners a_share a_leftOver : Nat} {p1 : Int32} {p2 : Int32} {c_askedCount : Int32} {c_outcome : Int32} {c_row : Nat → Int32} {rr : Int32} (hF : F_X5_of p1 p2 c_row = some rr) : Met l yX5_of v_f_X5_of (({ frames := 0, cells := 0, slots := 0, locals := 0 } : Room)) (va_Pc [.ref a_, .int p1, .int p2] (pP E (w_X5_of E a_ a_row a_partners a_share a_leftOver c_askedCount c_outcome c_row))) (vp_Si (fun q : Int32 => q = rr)) 0 0 (fun _ => False) := by
  refine Met.ofW (cc := cX5_of) (maxL := 3) (ret := (some .int)) (by decide) rfl ?_
  intro p e s m args below meth c s₁ B hml hv
  obtain ⟨rfl, ⟨hK, hN⟩, hP⟩ := hv
  have hx := B.exec
  have hb := B.bytes
  have hr := B.returns
  have hts := atoms_spec (ws := v_f_X5_of) B.pre
  have hown : s.vm.findClass RX5 = some m.cls := own_of hd_X5_of.1 (findClass_of_methodNamed B.named)
  have hlocks : meth.locks = false := B.notSynchronized
  replace hP : va_P E.1 vwCl [k_X5 a_ a_row a_partners c_askedCount c_outcome a_share a_leftOver, k_I E a_row 81 c_row] s.heap := hP
  have hl := lv_entry ([.ref a_, .int p1, .int p2]) (n := 3) (Nat.le_of_ble_eq_true rfl)
  rw [lg_entry_eq]
  generalize (lg_sl ([.ref a_, .int p1, .int p2]) ++ List.replicate (3 - (lg_sl ([.ref a_, .int p1, .int p2])).length) Slot.unset).toArray = ls at hl ⊢
  have hl : lv_has ls 3 [(0, .ref a_), (1, .int p1), (2, .int p2)] := hl
  obtain ⟨Q, hQ⟩ : ∃ Q : State → Prop, Q = MQ below (vp_Si (fun q : Int32 => q = rr)) #[Value.ref a_, Value.int p1, Value.int p2] s 0 0 (fun _ => False) := ⟨_, rfl⟩
  rw [← hQ]
  change W p l e ({ frames := 0, cells := 0, slots := 0, locals := 0 } : Room) s m #[Value.ref a_, Value.int p1, Value.int p2] below meth c s.heap [] 0 0 Q (F0 m 0 ls [])
  unfold F_X5_of at hF
  refine lv_iload_n hx hb (dq_27 0 bcX5_of_0 (j := 0) rfl rfl) rfl (lv_at hl 1 rfl) ?_
  refine lv_if_lt (tgt := 20) hx hb (dq_155 0 bcX5_of_0 (j := 1) (i := 19) rfl rfl rfl) (by decide) (fun c_1 => ?_) (fun c_1 => ?_)
  ·
    replace hF := ip c_1 hF
    refine lv_iconst (v := 0) hx hb (dq_3 0 bcX5_of_0 (j := 20) rfl rfl) (by decide) ?_
    rw [hQ]
    obtain e9_0 := inj1 hF
    exact W.iret (v := (0 : Int32)) hx hb hr (fun tt ht hW => ⟨_, rfl, e9_0, ht⟩) (fun _ h => by cases h) (dq_172 0 bcX5_of_0 (j := 21) rfl rfl)
  ·
    replace hF := inn c_1 hF
    refine lv_iload_n hx hb (dq_27 0 bcX5_of_0 (j := 4) rfl rfl) rfl (lv_at hl 1 rfl) ?_
    refine lv_bipush (v := 8) hx hb (dq_16 0 bcX5_of_0 (j := 5) (i := 8) rfl rfl rfl) (by decide) ?_
    refine lv_icmp_ge (tgt := 20) hx hb (dq_162 0 bcX5_of_0 (j := 7) (i := 13) rfl rfl rfl) (by decide) (fun c_2 => ?_) (fun c_2 => ?_)
    ·
      replace hF := ip c_2 hF
      refine lv_iconst (v := 0) hx hb (dq_3 0 bcX5_of_0 (j := 20) rfl rfl) (by decide) ?_
      rw [hQ]
      obtain e9_0 := inj1 hF
      exact W.iret (v := (0 : Int32)) hx hb hr (fun tt ht hW => ⟨_, rfl, e9_0, ht⟩) (fun _ h => by cases h) (dq_172 0 bcX5_of_0 (j := 21) rfl rfl)
    ·
      replace hF := inn c_2 hF
      refine lv_iload_n hx hb (dq_28 0 bcX5_of_0 (j := 10) rfl rfl) rfl (lv_at hl 2 rfl) ?_
      refine lv_if_lt (tgt := 20) hx hb (dq_155 0 bcX5_of_0 (j := 11) (i := 9) rfl rfl rfl) (by decide) (fun c_3 => ?_) (fun c_3 => ?_)
      ·
        replace hF := ip c_3 hF
        refine lv_iconst (v := 0) hx hb (dq_3 0 bcX5_of_0 (j := 20) rfl rfl) (by decide) ?_
        rw [hQ]
        obtain e9_0 := inj1 hF
        exact W.iret (v := (0 : Int32)) hx hb hr (fun tt ht hW => ⟨_, rfl, e9_0, ht⟩) (fun _ h => by cases h) (dq_172 0 bcX5_of_0 (j := 21) rfl rfl)
      ·
        replace hF := inn c_3 hF
        refine lv_iload_n hx hb (dq_28 0 bcX5_of_0 (j := 14) rfl rfl) rfl (lv_at hl 2 rfl) ?_
        refine lv_bipush (v := 8) hx hb (dq_16 0 bcX5_of_0 (j := 15) (i := 8) rfl rfl rfl) (by decide) ?_
        refine lv_icmp_lt (tgt := 22) hx hb (dq_161 0 bcX5_of_0 (j := 17) (i := 5) rfl rfl rfl) (by decide) (fun c_4 => ?_) (fun c_4 => ?_)
        ·
          replace hF := ip c_4 hF
          refine lv_aload_n hx hb (dq_42 0 bcX5_of_0 (j := 22) rfl rfl) rfl (lv_at hl 0 rfl) ?_
          refine gt_X5_0 (v := .ref a_row) hx hb hts i_f_X5_of_X5 hown hK hP 0 rfl (hts (.fieldLink RX5 11 "HushWatch$State" "row" "[I") (List.mem_of_getElem? (i := 1) rfl)) rfl (dq_180 0 bcX5_of_0 (j := 23) (i := 11) rfl rfl rfl) ?_
          refine lv_bipush (v := 17) hx hb (dq_16 0 bcX5_of_0 (j := 26) (i := 17) rfl rfl rfl) (by decide) ?_
          refine lv_iload_n hx hb (dq_27 0 bcX5_of_0 (j := 28) rfl rfl) rfl (lv_at hl 1 rfl) ?_
          refine lv_bipush (v := 8) hx hb (dq_16 0 bcX5_of_0 (j := 29) (i := 8) rfl rfl rfl) (by decide) ?_
          refine lv_imul hx hb (dq_104 0 bcX5_of_0 (j := 31) rfl rfl) ?_
          refine lv_iadd hx hb (dq_96 0 bcX5_of_0 (j := 32) rfl rfl) ?_
          refine lv_iload_n hx hb (dq_28 0 bcX5_of_0 (j := 33) rfl rfl) rfl (lv_at hl 2 rfl) ?_
          refine lv_iadd hx hb (dq_96 0 bcX5_of_0 (j := 34) rfl rfl) ?_
          replace hF := ix_s hF
          obtain ⟨hi_5, hF⟩ := hF
          refine va_iald hx hb hK hP 1 0 rfl rfl hi_5 (dq_46 0 bcX5_of_0 (j := 35) rfl rfl) ?_
          rw [hQ]
          obtain e9_0 := inj1 hF
          exact W.iret (v := c_row (((17 : Int32) + (p1 * (8 : Int32))) + p2).toNatClampNeg) hx hb hr (fun tt ht hW => ⟨_, rfl, e9_0, ht⟩) (fun _ h => by cases h) (dq_172 0 bcX5_of_0 (j := 36) rfl rfl)
        ·
          replace hF := inn c_4 hF
          refine lv_iconst (v := 0) hx hb (dq_3 0 bcX5_of_0 (j := 20) rfl rfl) (by decide) ?_
          rw [hQ]
          obtain e9_0 := inj1 hF
          exact W.iret (v := (0 : Int32)) hx hb hr (fun tt ht hW => ⟨_, rfl, e9_0, ht⟩) (fun _ h => by cases h) (dq_172 0 bcX5_of_0 (j := 21) rfl rfl)

def F_X5_isReached (c_row : Nat → Int32) : Option (Int32) :=
  if c_row 8 < c_row 2 then some (0 : Int32) else some (1 : Int32)
abbrev w_X5_isReached (E : EE) (a_ a_row a_partners a_share a_leftOver : Nat) (c_askedCount : Int32) (c_outcome : Int32) (c_row : Nat → Int32) : va_W := [k_X5 a_ a_row a_partners c_askedCount c_outcome a_share a_leftOver, k_I E a_row 81 c_row]
def v_f_X5_isReached : List Cond := List.cons (.code yX5_isReached cX5_isReached 1 (some .boolean)) (HAppend.hAppend (α := List Cond) (β := List Cond) (γ := List Cond) [.fieldLink RX5 11 "HushWatch$State" "row" "[I"] (HAppend.hAppend (α := List Cond) (β := List Cond) (γ := List Cond) wsX50 []))
theorem gw_f_X5_isReached : v_f_X5_isReached.all goodWord = true := gw_c2 (by decide +kernel) (gw_ap gw_wsX50 gw_nil)
theorem i_f_X5_isReached_X5 : ∀ w ∈ wsX50, w ∈ v_f_X5_isReached := fun _ h => List.mem_cons_of_mem _ (List.mem_append_right _ (List.mem_append_left _ h))
theorem hd_X5_isReached : yX5_isReached.cls = RX5 ∧ yX5_isReached.cls ≠ "java/lang/invoke/MethodHandle" ∧ yX5_isReached.cls ≠ "java/lang/invoke/VarHandle" ∧ (parseMethodDescriptor yX5_isReached.desc).map (fun d => d.parameters.length) = some 0 := by decide +kernel
set_option maxHeartbeats 4000000 in
set_option maxRecDepth 100000 in
theorem f_X5_isReached (l : Launch) (E : EE) {a_ a_row a_partners a_share a_leftOver : Nat} {c_askedCount : Int32} {c_outcome : Int32} {c_row : Nat → Int32} {rr : Int32} (hF : F_X5_isReached c_row = some rr) : Met l yX5_isReached v_f_X5_isReached (({ frames := 0, cells := 0, slots := 0, locals := 0 } : Room)) (va_Pc [.ref a_] (pP E (w_X5_isReached E a_ a_row a_partners a_share a_leftOver c_askedCount c_outcome c_row))) (vp_Si (fun q : Int32 => q = rr ∧ (q = 0 ∨ q = 1))) 0 0 (fun _ => False) := by
  refine Met.ofW (cc := cX5_isReached) (maxL := 1) (ret := (some .boolean)) (by decide) rfl ?_
  intro p e s m args below meth c s₁ B hml hv
  obtain ⟨rfl, ⟨hK, hN⟩, hP⟩ := hv
  have hx := B.exec
  have hb := B.bytes
  have hr := B.returns
  have hts := atoms_spec (ws := v_f_X5_isReached) B.pre
  have hown : s.vm.findClass RX5 = some m.cls := own_of hd_X5_isReached.1 (findClass_of_methodNamed B.named)
  have hlocks : meth.locks = false := B.notSynchronized
  replace hP : va_P E.1 vwCl [k_X5 a_ a_row a_partners c_askedCount c_outcome a_share a_leftOver, k_I E a_row 81 c_row] s.heap := hP
  have hl := lv_entry ([.ref a_]) (n := 1) (Nat.le_of_ble_eq_true rfl)
  rw [lg_entry_eq]
  generalize (lg_sl ([.ref a_]) ++ List.replicate (1 - (lg_sl ([.ref a_])).length) Slot.unset).toArray = ls at hl ⊢
  have hl : lv_has ls 1 [(0, .ref a_)] := hl
  obtain ⟨Q, hQ⟩ : ∃ Q : State → Prop, Q = MQ below (vp_Si (fun q : Int32 => q = rr ∧ (q = 0 ∨ q = 1))) #[Value.ref a_] s 0 0 (fun _ => False) := ⟨_, rfl⟩
  rw [← hQ]
  change W p l e ({ frames := 0, cells := 0, slots := 0, locals := 0 } : Room) s m #[Value.ref a_] below meth c s.heap [] 0 0 Q (F0 m 0 ls [])
  unfold F_X5_isReached at hF
  refine lv_aload_n hx hb (dq_42 0 bcX5_isReached_0 (j := 0) rfl rfl) rfl (lv_at hl 0 rfl) ?_
  refine gt_X5_0 (v := .ref a_row) hx hb hts i_f_X5_isReached_X5 hown hK hP 0 rfl (hts (.fieldLink RX5 11 "HushWatch$State" "row" "[I") (List.mem_of_getElem? (i := 1) rfl)) rfl (dq_180 0 bcX5_isReached_0 (j := 1) (i := 11) rfl rfl rfl) ?_
  refine lv_bipush (v := 8) hx hb (dq_16 0 bcX5_isReached_0 (j := 4) (i := 8) rfl rfl rfl) (by decide) ?_
  refine va_iald hx hb hK hP 1 0 rfl rfl (vin rfl) (dq_46 0 bcX5_isReached_0 (j := 6) rfl rfl) ?_
  refine W.eq (g2 := F0 m 7 ls [.int (c_row 8)]) rfl ?_
  refine lv_aload_n hx hb (dq_42 0 bcX5_isReached_0 (j := 7) rfl rfl) rfl (lv_at hl 0 rfl) ?_
  refine gt_X5_0 (v := .ref a_row) hx hb hts i_f_X5_isReached_X5 hown hK hP 0 rfl (hts (.fieldLink RX5 11 "HushWatch$State" "row" "[I") (List.mem_of_getElem? (i := 1) rfl)) rfl (dq_180 0 bcX5_isReached_0 (j := 8) (i := 11) rfl rfl rfl) ?_
  refine lv_iconst (v := 2) hx hb (dq_5 0 bcX5_isReached_0 (j := 11) rfl rfl) (by decide) ?_
  refine va_iald hx hb hK hP 1 0 rfl rfl (vin rfl) (dq_46 0 bcX5_isReached_0 (j := 12) rfl rfl) ?_
  refine W.eq (g2 := F0 m 13 ls [.int (c_row 2), .int (c_row 8)]) rfl ?_
  refine lv_icmp_lt (tgt := 20) hx hb (dq_161 0 bcX5_isReached_0 (j := 13) (i := 7) rfl rfl rfl) (by decide) (fun c_1 => ?_) (fun c_1 => ?_)
  ·
    replace hF := ip c_1 hF
    refine lv_iconst (v := 0) hx hb (dq_3 0 bcX5_isReached_0 (j := 20) rfl rfl) (by decide) ?_
    rw [hQ]
    obtain e9_0 := inj1 hF
    exact W.zret (v := (0 : Int32)) hx hb hr rfl (fun tt ht hW => ⟨_, rfl, ⟨e9_0, Or.inl rfl⟩, ht⟩) (fun _ h => by cases h) (dq_172 0 bcX5_isReached_0 (j := 21) rfl rfl)
  ·
    replace hF := inn c_1 hF
    refine lv_iconst (v := 1) hx hb (dq_4 0 bcX5_isReached_0 (j := 16) rfl rfl) (by decide) ?_
    refine lv_goto (tgt := 21) hx hb (dq_167 0 bcX5_isReached_0 (j := 17) (i := 4) rfl rfl rfl) (by decide) ?_
    rw [hQ]
    obtain e9_0 := inj1 hF
    exact W.zret (v := (1 : Int32)) hx hb hr rfl (fun tt ht hW => ⟨_, rfl, ⟨e9_0, Or.inr rfl⟩, ht⟩) (fun _ h => by cases h) (dq_172 0 bcX5_isReached_0 (j := 21) rfl rfl)

def F_X5_addRefusal (p1 : Int32) (p2 : Int32) (c_row : Nat → Int32) : Option (Int32) :=
  bd1 (F_X5_hasSite p1 c_row) (fun r_1 => if r_1 = (0 : Int32) then some (0 : Int32) else if p2 < (1 : Int32) then some (1 : Int32) else if (999 : Int32) < p2 then some (1 : Int32) else bd1 (F_X5_of p1 (6 : Int32) c_row) (fun r_7 => if r_7 + p2 ≤ (99999 : Int32) then bd1 (F_X5_isReached c_row) (fun r_10 => if r_10 = (0 : Int32) then some (-1 : Int32) else some (2 : Int32)) else some (1 : Int32)))
abbrev w_X5_addRefusal (E : EE) (a_ a_row a_partners a_share a_leftOver : Nat) (c_askedCount : Int32) (c_outcome : Int32) (c_row : Nat → Int32) : va_W := [k_X5 a_ a_row a_partners c_askedCount c_outcome a_share a_leftOver, k_I E a_row 81 c_row]
def v_f_X5_addRefusal : List Cond := List.cons (.code yX5_addRefusal cX5_addRefusal 3 (some .int)) (HAppend.hAppend (α := List Cond) (β := List Cond) (γ := List Cond) [.constant RX5 98 (99999), .methodLink RX5 79 yX5_hasSite, .instanceMethod yX5_hasSite, .selects RX5 yX5_hasSite yX5_hasSite, .initialized RX5, .methodLink RX5 69 yX5_of, .instanceMethod yX5_of, .selects RX5 yX5_of yX5_of, .methodLink RX5 134 yX5_isReached, .instanceMethod yX5_isReached, .selects RX5 yX5_isReached yX5_isReached] (HAppend.hAppend (α := List Cond) (β := List Cond) (γ := List Cond) v_f_X5_hasSite (HAppend.hAppend (α := List Cond) (β := List Cond) (γ := List Cond) v_f_X5_of (HAppend.hAppend (α := List Cond) (β := List Cond) (γ := List Cond) v_f_X5_isReached []))))
theorem gw_f_X5_addRefusal : v_f_X5_addRefusal.all goodWord = true := gw_c2 (by decide +kernel) (gw_ap gw_f_X5_hasSite (gw_ap gw_f_X5_of (gw_ap gw_f_X5_isReached gw_nil)))
theorem g_f_X5_addRefusal_f_X5_hasSite_79 : GoodIn v_f_X5_addRefusal (wsV RX5 79 RX5 yX5_hasSite v_f_X5_hasSite) := goodIn_in gw_f_X5_addRefusal (in4 2 3 4 5 rfl rfl rfl rfl (fun _ h => List.mem_cons_of_mem _ (List.mem_append_right _ (List.mem_append_left _ h))))
theorem g_f_X5_addRefusal_f_X5_of_69 : GoodIn v_f_X5_addRefusal (wsV RX5 69 RX5 yX5_of v_f_X5_of) := goodIn_in gw_f_X5_addRefusal (in4 6 7 8 5 rfl rfl rfl rfl (fun _ h => List.mem_cons_of_mem _ (List.mem_append_right _ (List.mem_append_right _ (List.mem_append_left _ h)))))
theorem g_f_X5_addRefusal_f_X5_isReached_134 : GoodIn v_f_X5_addRefusal (wsV RX5 134 RX5 yX5_isReached v_f_X5_isReached) := goodIn_in gw_f_X5_addRefusal (in4 9 10 11 5 rfl rfl rfl rfl (fun _ h => List.mem_cons_of_mem _ (List.mem_append_right _ (List.mem_append_right _ (List.mem_append_right _ (List.mem_append_left _ h))))))
theorem hd_X5_addRefusal : yX5_addRefusal.cls = RX5 ∧ yX5_addRefusal.cls ≠ "java/lang/invoke/MethodHandle" ∧ yX5_addRefusal.cls ≠ "java/lang/invoke/VarHandle" ∧ (parseMethodDescriptor yX5_addRefusal.desc).map (fun d => d.parameters.length) = some 2 := by decide +kernel
set_option maxHeartbeats 4000000 in
set_option maxRecDepth 100000 in
theorem f_X5_addRefusal (l : Launch) (E : EE) {a_ a_row a_partners a_share a_leftOver : Nat} {p1 : Int32} {p2 : Int32} {c_askedCount : Int32} {c_outcome : Int32} {c_row : Nat → Int32} {rr : Int32} (hF : F_X5_addRefusal p1 p2 c_row = some rr) : Met l yX5_addRefusal v_f_X5_addRefusal (({ frames := 1, cells := 0, slots := 0, locals := 22 } : Room)) (va_Pc [.ref a_, .int p1, .int p2] (pP E (w_X5_addRefusal E a_ a_row a_partners a_share a_leftOver c_askedCount c_outcome c_row))) (vp_Si (fun q : Int32 => q = rr)) 0 0 (fun _ => False) := by
  refine Met.ofW (cc := cX5_addRefusal) (maxL := 3) (ret := (some .int)) (by decide) rfl ?_
  intro p e s m args below meth c s₁ B hml hv
  obtain ⟨rfl, ⟨hK, hN⟩, hP⟩ := hv
  have hx := B.exec
  have hb := B.bytes
  have hr := B.returns
  have hts := atoms_spec (ws := v_f_X5_addRefusal) B.pre
  have hown : s.vm.findClass RX5 = some m.cls := own_of hd_X5_addRefusal.1 (findClass_of_methodNamed B.named)
  have hlocks : meth.locks = false := B.notSynchronized
  replace hP : va_P E.1 vwCl [k_X5 a_ a_row a_partners c_askedCount c_outcome a_share a_leftOver, k_I E a_row 81 c_row] s.heap := hP
  have hl := lv_entry ([.ref a_, .int p1, .int p2]) (n := 3) (Nat.le_of_ble_eq_true rfl)
  rw [lg_entry_eq]
  generalize (lg_sl ([.ref a_, .int p1, .int p2]) ++ List.replicate (3 - (lg_sl ([.ref a_, .int p1, .int p2])).length) Slot.unset).toArray = ls at hl ⊢
  have hl : lv_has ls 3 [(0, .ref a_), (1, .int p1), (2, .int p2)] := hl
  obtain ⟨Q, hQ⟩ : ∃ Q : State → Prop, Q = MQ below (vp_Si (fun q : Int32 => q = rr)) #[Value.ref a_, Value.int p1, Value.int p2] s 0 0 (fun _ => False) := ⟨_, rfl⟩
  rw [← hQ]
  change W p l e ({ frames := 1, cells := 0, slots := 0, locals := 22 } : Room) s m #[Value.ref a_, Value.int p1, Value.int p2] below meth c s.heap [] 0 0 Q (F0 m 0 ls [])
  unfold F_X5_addRefusal at hF
  refine lv_aload_n hx hb (dq_42 0 bcX5_addRefusal_0 (j := 0) rfl rfl) rfl (lv_at hl 0 rfl) ?_
  refine lv_iload_n hx hb (dq_27 0 bcX5_addRefusal_0 (j := 1) rfl rfl) rfl (lv_at hl 1 rfl) ?_
  replace hF := bd1_s hF
  obtain ⟨r_1, hc_2, hF⟩ := hF
  have hPc : va_P E.1 vwCl (w_X5_hasSite E a_ a_row a_partners a_share a_leftOver c_askedCount c_outcome c_row) s.heap := hP.sub (ws' := [k_X5 a_ a_row a_partners c_askedCount c_outcome a_share a_leftOver, k_I E a_row 81 c_row]) [0, 1] rfl
  have hrc := va_recv hK hPc (ci := 6) (q0 := 0) rfl rfl
  refine pE_z (va_runV (As := [.int p1]) (rest := [])  ⟨hx, hb, hml, hown, hts⟩ (f_X5_hasSite l E (a_ := a_) (a_row := a_row) (a_partners := a_partners) (a_share := a_share) (a_leftOver := a_leftOver) (p1 := p1) (c_askedCount := c_askedCount) (c_outcome := c_outcome) (c_row := c_row) hc_2) (cwV 1 hts g_f_X5_addRefusal_f_X5_hasSite_79 rfl rfl rfl hd_X5_hasSite ⟨Nat.le_of_ble_eq_true rfl, Nat.le_of_ble_eq_true rfl⟩) ⟨pP.blind, hrc, (pP.pre ⟨hK, hN⟩ hPc)⟩ rfl rfl hl.1 rfl (lv_room (Nat.le_of_ble_eq_true rfl)) (dq_182 0 bcX5_addRefusal_0 (j := 2) (i := 79) rfl rfl rfl) ⟨Nat.le_of_ble_eq_true rfl, Nat.le_of_ble_eq_true rfl⟩) (fun hb_3 => ?_)
  refine lv_if_ne (tgt := 10) hx hb (dq_154 0 bcX5_addRefusal_0 (j := 5) (i := 5) rfl rfl rfl) (by decide) (fun c_4 => ?_) (fun c_4 => ?_)
  ·
    replace hF := inn c_4 hF
    refine lv_iload_n hx hb (dq_28 0 bcX5_addRefusal_0 (j := 10) rfl rfl) rfl (lv_at hl 2 rfl) ?_
    refine lv_iconst (v := 1) hx hb (dq_4 0 bcX5_addRefusal_0 (j := 11) rfl rfl) (by decide) ?_
    refine lv_icmp_lt (tgt := 36) hx hb (dq_161 0 bcX5_addRefusal_0 (j := 12) (i := 24) rfl rfl rfl) (by decide) (fun c_5 => ?_) (fun c_5 => ?_)
    ·
      replace hF := ip c_5 hF
      refine lv_iconst (v := 1) hx hb (dq_4 0 bcX5_addRefusal_0 (j := 36) rfl rfl) (by decide) ?_
      rw [hQ]
      obtain e9_0 := inj1 hF
      exact W.iret (v := (1 : Int32)) hx hb hr (fun tt ht hW => ⟨_, rfl, e9_0, ht⟩) (fun _ h => by cases h) (dq_172 0 bcX5_addRefusal_0 (j := 37) rfl rfl)
    ·
      replace hF := inn c_5 hF
      refine lv_iload_n hx hb (dq_28 0 bcX5_addRefusal_0 (j := 15) rfl rfl) rfl (lv_at hl 2 rfl) ?_
      refine lv_sipush (v := 999) hx hb (dq_17 0 bcX5_addRefusal_0 (j := 16) (i := 999) rfl rfl rfl) (by decide) ?_
      refine lv_icmp_gt (tgt := 36) hx hb (dq_163 0 bcX5_addRefusal_0 (j := 19) (i := 17) rfl rfl rfl) (by decide) (fun c_6 => ?_) (fun c_6 => ?_)
      ·
        replace hF := ip c_6 hF
        refine lv_iconst (v := 1) hx hb (dq_4 0 bcX5_addRefusal_0 (j := 36) rfl rfl) (by decide) ?_
        rw [hQ]
        obtain e9_0 := inj1 hF
        exact W.iret (v := (1 : Int32)) hx hb hr (fun tt ht hW => ⟨_, rfl, e9_0, ht⟩) (fun _ h => by cases h) (dq_172 0 bcX5_addRefusal_0 (j := 37) rfl rfl)
      ·
        replace hF := inn c_6 hF
        refine lv_aload_n hx hb (dq_42 0 bcX5_addRefusal_0 (j := 22) rfl rfl) rfl (lv_at hl 0 rfl) ?_
        refine lv_iload_n hx hb (dq_27 0 bcX5_addRefusal_0 (j := 23) rfl rfl) rfl (lv_at hl 1 rfl) ?_
        refine lv_bipush (v := 6) hx hb (dq_16 0 bcX5_addRefusal_0 (j := 24) (i := 6) rfl rfl rfl) (by decide) ?_
        replace hF := bd1_s hF
        obtain ⟨r_7, hc_8, hF⟩ := hF
        have hPc : va_P E.1 vwCl (w_X5_of E a_ a_row a_partners a_share a_leftOver c_askedCount c_outcome c_row) s.heap := hP.sub (ws' := [k_X5 a_ a_row a_partners c_askedCount c_outcome a_share a_leftOver, k_I E a_row 81 c_row]) [0, 1] rfl
        have hrc := va_recv hK hPc (ci := 6) (q0 := 0) rfl rfl
        refine pE_i (va_runV (As := [.int p1, .int (6 : Int32)]) (rest := [])  ⟨hx, hb, hml, hown, hts⟩ (f_X5_of l E (a_ := a_) (a_row := a_row) (a_partners := a_partners) (a_share := a_share) (a_leftOver := a_leftOver) (p1 := p1) (p2 := (6 : Int32)) (c_askedCount := c_askedCount) (c_outcome := c_outcome) (c_row := c_row) hc_8) (cwV 2 hts g_f_X5_addRefusal_f_X5_of_69 rfl rfl rfl hd_X5_of ⟨Nat.le_of_ble_eq_true rfl, Nat.le_of_ble_eq_true rfl⟩) ⟨pP.blind, hrc, (pP.pre ⟨hK, hN⟩ hPc)⟩ rfl rfl hl.1 rfl (lv_room (Nat.le_of_ble_eq_true rfl)) (dq_182 0 bcX5_addRefusal_0 (j := 26) (i := 69) rfl rfl rfl) ⟨Nat.le_of_ble_eq_true rfl, Nat.le_of_ble_eq_true rfl⟩) ?_
        refine lv_iload_n hx hb (dq_28 0 bcX5_addRefusal_0 (j := 29) rfl rfl) rfl (lv_at hl 2 rfl) ?_
        refine lv_iadd hx hb (dq_96 0 bcX5_addRefusal_0 (j := 30) rfl rfl) ?_
        refine lv_ldc (v := 99999) hx hb hown (hts (.constant RX5 98 (99999)) (List.mem_of_getElem? (i := 1) rfl)) (dq_18 0 bcX5_addRefusal_0 (j := 31) (i := 98) rfl rfl) ?_
        refine lv_icmp_le (tgt := 38) hx hb (dq_164 0 bcX5_addRefusal_0 (j := 33) (i := 5) rfl rfl rfl) (by decide) (fun c_9 => ?_) (fun c_9 => ?_)
        ·
          replace hF := ip c_9 hF
          refine lv_aload_n hx hb (dq_42 0 bcX5_addRefusal_0 (j := 38) rfl rfl) rfl (lv_at hl 0 rfl) ?_
          replace hF := bd1_s hF
          obtain ⟨r_10, hc_11, hF⟩ := hF
          have hPc : va_P E.1 vwCl (w_X5_isReached E a_ a_row a_partners a_share a_leftOver c_askedCount c_outcome c_row) s.heap := hP.sub (ws' := [k_X5 a_ a_row a_partners c_askedCount c_outcome a_share a_leftOver, k_I E a_row 81 c_row]) [0, 1] rfl
          have hrc := va_recv hK hPc (ci := 6) (q0 := 0) rfl rfl
          refine pE_z (va_runV (As := []) (rest := [])  ⟨hx, hb, hml, hown, hts⟩ (f_X5_isReached l E (a_ := a_) (a_row := a_row) (a_partners := a_partners) (a_share := a_share) (a_leftOver := a_leftOver) (c_askedCount := c_askedCount) (c_outcome := c_outcome) (c_row := c_row) hc_11) (cwV 0 hts g_f_X5_addRefusal_f_X5_isReached_134 rfl rfl rfl hd_X5_isReached ⟨Nat.le_of_ble_eq_true rfl, Nat.le_of_ble_eq_true rfl⟩) ⟨pP.blind, hrc, (pP.pre ⟨hK, hN⟩ hPc)⟩ rfl rfl hl.1 rfl (lv_room (Nat.le_of_ble_eq_true rfl)) (dq_182 0 bcX5_addRefusal_0 (j := 39) (i := 134) rfl rfl rfl) ⟨Nat.le_of_ble_eq_true rfl, Nat.le_of_ble_eq_true rfl⟩) (fun hb_12 => ?_)
          refine lv_if_eq (tgt := 49) hx hb (dq_153 0 bcX5_addRefusal_0 (j := 42) (i := 7) rfl rfl rfl) (by decide) (fun c_13 => ?_) (fun c_13 => ?_)
          ·
            replace hF := ip c_13 hF
            refine lv_iconst (v := -1) hx hb (dq_2 48 bcX5_addRefusal_1 (j := 1) rfl rfl) (by decide) ?_
            rw [hQ]
            obtain e9_0 := inj1 hF
            exact W.iret (v := (-1 : Int32)) hx hb hr (fun tt ht hW => ⟨_, rfl, e9_0, ht⟩) (fun _ h => by cases h) (dq_172 48 bcX5_addRefusal_1 (j := 2) rfl rfl)
          ·
            replace hF := inn c_13 hF
            refine lv_iconst (v := 2) hx hb (dq_5 0 bcX5_addRefusal_0 (j := 45) rfl rfl) (by decide) ?_
            refine lv_goto (tgt := 50) hx hb (dq_167 0 bcX5_addRefusal_0 (j := 46) (i := 4) rfl rfl rfl) (by decide) ?_
            rw [hQ]
            obtain e9_0 := inj1 hF
            exact W.iret (v := (2 : Int32)) hx hb hr (fun tt ht hW => ⟨_, rfl, e9_0, ht⟩) (fun _ h => by cases h) (dq_172 48 bcX5_addRefusal_1 (j := 2) rfl rfl)
        ·
          replace hF := inn c_9 hF
          refine lv_iconst (v := 1) hx hb (dq_4 0 bcX5_addRefusal_0 (j := 36) rfl rfl) (by decide) ?_
          rw [hQ]
          obtain e9_0 := inj1 hF
          exact W.iret (v := (1 : Int32)) hx hb hr (fun tt ht hW => ⟨_, rfl, e9_0, ht⟩) (fun _ h => by cases h) (dq_172 0 bcX5_addRefusal_0 (j := 37) rfl rfl)
  ·
    replace hF := ip c_4 hF
    refine lv_iconst (v := 0) hx hb (dq_3 0 bcX5_addRefusal_0 (j := 8) rfl rfl) (by decide) ?_
    rw [hQ]
    obtain e9_0 := inj1 hF
    exact W.iret (v := (0 : Int32)) hx hb hr (fun tt ht hW => ⟨_, rfl, e9_0, ht⟩) (fun _ h => by cases h) (dq_172 0 bcX5_addRefusal_0 (j := 9) rfl rfl)

def F_X5_put (p1 : Int32) (p2 : Int32) (p3 : Int32) (c_row : Nat → Int32) : Option ((Nat → Int32)) :=
  if p1 < (0 : Int32) then some c_row else if (8 : Int32) ≤ p1 then some c_row else if p2 < (0 : Int32) then some c_row else if (8 : Int32) ≤ p2 then some c_row else ixF (((17 : Int32) + (p1 * (8 : Int32))) + p2) 81 (nmF (upd c_row (((17 : Int32) + (p1 * (8 : Int32))) + p2).toNatClampNeg p3) (fun f_6 => some f_6))
abbrev w_X5_put (E : EE) (a_ a_row a_partners a_share a_leftOver : Nat) (c_askedCount : Int32) (c_outcome : Int32) (c_row : Nat → Int32) : va_W := [k_X5 a_ a_row a_partners c_askedCount c_outcome a_share a_leftOver, k_I E a_row 81 c_row]
def v_f_X5_put : List Cond := List.cons (.code yX5_put cX5_put 4 none) (HAppend.hAppend (α := List Cond) (β := List Cond) (γ := List Cond) [.fieldLink RX5 11 "HushWatch$State" "row" "[I"] (HAppend.hAppend (α := List Cond) (β := List Cond) (γ := List Cond) wsX50 []))
theorem gw_f_X5_put : v_f_X5_put.all goodWord = true := gw_c2 (by decide +kernel) (gw_ap gw_wsX50 gw_nil)
theorem i_f_X5_put_X5 : ∀ w ∈ wsX50, w ∈ v_f_X5_put := fun _ h => List.mem_cons_of_mem _ (List.mem_append_right _ (List.mem_append_left _ h))
theorem hd_X5_put : yX5_put.cls = RX5 ∧ yX5_put.cls ≠ "java/lang/invoke/MethodHandle" ∧ yX5_put.cls ≠ "java/lang/invoke/VarHandle" ∧ (parseMethodDescriptor yX5_put.desc).map (fun d => d.parameters.length) = some 3 := by decide +kernel
set_option maxHeartbeats 4000000 in
set_option maxRecDepth 100000 in
theorem f_X5_put (l : Launch) (E : EE) (sz : Nat) {a_ a_row a_partners a_share a_leftOver : Nat} {p1 : Int32} {p2 : Int32} {p3 : Int32} {c_askedCount : Int32} {c_outcome : Int32} {c_row : Nat → Int32} {n_row : Nat → Int32} (hF : F_X5_put p1 p2 p3 c_row = some n_row) : Met l yX5_put v_f_X5_put (({ frames := 0, cells := 0, slots := 0, locals := 0 } : Room)) (va_Pc [.ref a_, .int p1, .int p2, .int p3] (pW E sz (w_X5_put E a_ a_row a_partners a_share a_leftOver c_askedCount c_outcome c_row))) (va_Qv (fun (_u : Unit) => True) (fun (_u : Unit) tt => va_P E.1 vwCl (w_X5_put E a_ a_row a_partners a_share a_leftOver c_askedCount c_outcome n_row) tt.heap ∧ va_D (va_A (w_X5_put E a_ a_row a_partners a_share a_leftOver c_askedCount c_outcome c_row) sz) (w_X5_put E a_ a_row a_partners a_share a_leftOver c_askedCount c_outcome n_row)) (va_A (w_X5_put E a_ a_row a_partners a_share a_leftOver c_askedCount c_outcome c_row) sz)) 0 0 (va_A (w_X5_put E a_ a_row a_partners a_share a_leftOver c_askedCount c_outcome c_row) sz) := by
  refine Met.ofW (cc := cX5_put) (maxL := 4) (ret := none) (by decide) rfl ?_
  intro p e s m args below meth c s₁ B hml hv
  obtain ⟨rfl, hsz, ⟨hK, hN⟩, hP, hD0⟩ := hv
  have hx := B.exec
  have hb := B.bytes
  have hr := B.returns
  have hts := atoms_spec (ws := v_f_X5_put) B.pre
  have hown : s.vm.findClass RX5 = some m.cls := own_of hd_X5_put.1 (findClass_of_methodNamed B.named)
  have hlocks : meth.locks = false := B.notSynchronized
  subst hsz
  have hD := hD0.self (sz := s.heap.size)
  generalize hAe : va_A (w_X5_put E a_ a_row a_partners a_share a_leftOver c_askedCount c_outcome c_row) s.heap.size = A at hD ⊢
  have hA : ∀ q : Nat, s.heap.size ≤ q → A q := fun q h => by rw [← hAe]; exact Or.inr h
  have hS : va_S A s.heap s.heap [] := va_S.rf
  have hl := lv_entry ([.ref a_, .int p1, .int p2, .int p3]) (n := 4) (Nat.le_of_ble_eq_true rfl)
  rw [lg_entry_eq]
  generalize (lg_sl ([.ref a_, .int p1, .int p2, .int p3]) ++ List.replicate (4 - (lg_sl ([.ref a_, .int p1, .int p2, .int p3])).length) Slot.unset).toArray = ls at hl ⊢
  have hl : lv_has ls 4 [(0, .ref a_), (1, .int p1), (2, .int p2), (3, .int p3)] := hl
  obtain ⟨Q, hQ⟩ : ∃ Q : State → Prop, Q = MQ below (va_Qv (fun (_u : Unit) => True) (fun (_u : Unit) tt => va_P E.1 vwCl (w_X5_put E a_ a_row a_partners a_share a_leftOver c_askedCount c_outcome n_row) tt.heap ∧ va_D A (w_X5_put E a_ a_row a_partners a_share a_leftOver c_askedCount c_outcome n_row)) A) #[Value.ref a_, Value.int p1, Value.int p2, Value.int p3] s 0 0 A := ⟨_, rfl⟩
  rw [← hQ]
  change W p l e ({ frames := 0, cells := 0, slots := 0, locals := 0 } : Room) s m #[Value.ref a_, Value.int p1, Value.int p2, Value.int p3] below meth c s.heap [] 0 0 Q (F0 m 0 ls [])
  suffices hh9 : ∀ (H : Heap) (locs : List Loc), va_P E.1 vwCl (w_X5_put E a_ a_row a_partners a_share a_leftOver c_askedCount c_outcome c_row) H → va_D A (w_X5_put E a_ a_row a_partners a_share a_leftOver c_askedCount c_outcome c_row) → va_S A s.heap H locs → W p l e ({ frames := 0, cells := 0, slots := 0, locals := 0 } : Room) s m #[Value.ref a_, Value.int p1, Value.int p2, Value.int p3] below meth c H locs 0 0 Q (F0 m 0 ls []) from hh9 s.heap [] hP hD hS
  clear hP hD hS
  intro H locs hP hD hS
  have h9 := fixPD (ws' := [k_X5 a_ a_row a_partners c_askedCount c_outcome a_share a_leftOver, k_I E a_row 81 c_row]) hP hD rfl
  clear hP hD
  obtain ⟨hP, hD⟩ := h9
  unfold F_X5_put at hF
  refine lv_iload_n hx hb (dq_27 0 bcX5_put_0 (j := 0) rfl rfl) rfl (lv_at hl 1 rfl) ?_
  refine lv_if_lt (tgt := 35) hx hb (dq_155 0 bcX5_put_0 (j := 1) (i := 34) rfl rfl rfl) (by decide) (fun c_1 => ?_) (fun c_1 => ?_)
  ·
    replace hF := ip c_1 hF
    rw [hQ]
    have h9 := fin9 (P := fun u9 : (Nat → Int32) => va_P E.1 vwCl (w_X5_put E a_ a_row a_partners a_share a_leftOver c_askedCount c_outcome u9) H ∧ va_D A (w_X5_put E a_ a_row a_partners a_share a_leftOver c_askedCount c_outcome u9)) hF ⟨hP, hD⟩
    obtain ⟨hP9, hD9⟩ := h9
    exact W.vret hx hb hr (fun tt ht hW => ⟨⟨(), rfl, trivial, ht ▸ hP9, hD9⟩, hS.F ht⟩) hS.2.2 (dq_177 0 bcX5_put_0 (j := 35) rfl rfl)
  ·
    replace hF := inn c_1 hF
    refine lv_iload_n hx hb (dq_27 0 bcX5_put_0 (j := 4) rfl rfl) rfl (lv_at hl 1 rfl) ?_
    refine lv_bipush (v := 8) hx hb (dq_16 0 bcX5_put_0 (j := 5) (i := 8) rfl rfl rfl) (by decide) ?_
    refine lv_icmp_ge (tgt := 35) hx hb (dq_162 0 bcX5_put_0 (j := 7) (i := 28) rfl rfl rfl) (by decide) (fun c_2 => ?_) (fun c_2 => ?_)
    ·
      replace hF := ip c_2 hF
      rw [hQ]
      have h9 := fin9 (P := fun u9 : (Nat → Int32) => va_P E.1 vwCl (w_X5_put E a_ a_row a_partners a_share a_leftOver c_askedCount c_outcome u9) H ∧ va_D A (w_X5_put E a_ a_row a_partners a_share a_leftOver c_askedCount c_outcome u9)) hF ⟨hP, hD⟩
      obtain ⟨hP9, hD9⟩ := h9
      exact W.vret hx hb hr (fun tt ht hW => ⟨⟨(), rfl, trivial, ht ▸ hP9, hD9⟩, hS.F ht⟩) hS.2.2 (dq_177 0 bcX5_put_0 (j := 35) rfl rfl)
    ·
      replace hF := inn c_2 hF
      refine lv_iload_n hx hb (dq_28 0 bcX5_put_0 (j := 10) rfl rfl) rfl (lv_at hl 2 rfl) ?_
      refine lv_if_lt (tgt := 35) hx hb (dq_155 0 bcX5_put_0 (j := 11) (i := 24) rfl rfl rfl) (by decide) (fun c_3 => ?_) (fun c_3 => ?_)
      ·
        replace hF := ip c_3 hF
        rw [hQ]
        have h9 := fin9 (P := fun u9 : (Nat → Int32) => va_P E.1 vwCl (w_X5_put E a_ a_row a_partners a_share a_leftOver c_askedCount c_outcome u9) H ∧ va_D A (w_X5_put E a_ a_row a_partners a_share a_leftOver c_askedCount c_outcome u9)) hF ⟨hP, hD⟩
        obtain ⟨hP9, hD9⟩ := h9
        exact W.vret hx hb hr (fun tt ht hW => ⟨⟨(), rfl, trivial, ht ▸ hP9, hD9⟩, hS.F ht⟩) hS.2.2 (dq_177 0 bcX5_put_0 (j := 35) rfl rfl)
      ·
        replace hF := inn c_3 hF
        refine lv_iload_n hx hb (dq_28 0 bcX5_put_0 (j := 14) rfl rfl) rfl (lv_at hl 2 rfl) ?_
        refine lv_bipush (v := 8) hx hb (dq_16 0 bcX5_put_0 (j := 15) (i := 8) rfl rfl rfl) (by decide) ?_
        refine lv_icmp_ge (tgt := 35) hx hb (dq_162 0 bcX5_put_0 (j := 17) (i := 18) rfl rfl rfl) (by decide) (fun c_4 => ?_) (fun c_4 => ?_)
        ·
          replace hF := ip c_4 hF
          rw [hQ]
          have h9 := fin9 (P := fun u9 : (Nat → Int32) => va_P E.1 vwCl (w_X5_put E a_ a_row a_partners a_share a_leftOver c_askedCount c_outcome u9) H ∧ va_D A (w_X5_put E a_ a_row a_partners a_share a_leftOver c_askedCount c_outcome u9)) hF ⟨hP, hD⟩
          obtain ⟨hP9, hD9⟩ := h9
          exact W.vret hx hb hr (fun tt ht hW => ⟨⟨(), rfl, trivial, ht ▸ hP9, hD9⟩, hS.F ht⟩) hS.2.2 (dq_177 0 bcX5_put_0 (j := 35) rfl rfl)
        ·
          replace hF := inn c_4 hF
          refine lv_aload_n hx hb (dq_42 0 bcX5_put_0 (j := 20) rfl rfl) rfl (lv_at hl 0 rfl) ?_
          refine gt_X5_0 (v := .ref a_row) hx hb hts i_f_X5_put_X5 hown hK hP 0 rfl (hts (.fieldLink RX5 11 "HushWatch$State" "row" "[I") (List.mem_of_getElem? (i := 1) rfl)) rfl (dq_180 0 bcX5_put_0 (j := 21) (i := 11) rfl rfl rfl) ?_
          refine lv_bipush (v := 17) hx hb (dq_16 0 bcX5_put_0 (j := 24) (i := 17) rfl rfl rfl) (by decide) ?_
          refine lv_iload_n hx hb (dq_27 0 bcX5_put_0 (j := 26) rfl rfl) rfl (lv_at hl 1 rfl) ?_
          refine lv_bipush (v := 8) hx hb (dq_16 0 bcX5_put_0 (j := 27) (i := 8) rfl rfl rfl) (by decide) ?_
          refine lv_imul hx hb (dq_104 0 bcX5_put_0 (j := 29) rfl rfl) ?_
          refine lv_iadd hx hb (dq_96 0 bcX5_put_0 (j := 30) rfl rfl) ?_
          refine lv_iload_n hx hb (dq_28 0 bcX5_put_0 (j := 31) rfl rfl) rfl (lv_at hl 2 rfl) ?_
          refine lv_iadd hx hb (dq_96 0 bcX5_put_0 (j := 32) rfl rfl) ?_
          refine lv_iload_n hx hb (dq_29 0 bcX5_put_0 (j := 33) rfl rfl) rfl (lv_at hl 3 rfl) ?_
          replace hF := ix_s hF
          obtain ⟨hi_5, hF⟩ := hF
          refine va_iast hx hb hK hP hD hS 1 0 rfl rfl hi_5 (dq_79 0 bcX5_put_0 (j := 34) rfl rfl) (fun H locs hP hD hS => ?_)
          have h9 := fixPD (ws' := [k_X5 a_ a_row a_partners c_askedCount c_outcome a_share a_leftOver, k_I E a_row 81 (upd c_row (((17 : Int32) + (p1 * (8 : Int32))) + p2).toNatClampNeg p3)]) hP hD rfl
          clear hP hD
          obtain ⟨hP, hD⟩ := h9
          replace hF := nm_s hF
          obtain ⟨f_6, hf_6, hF⟩ := hF
          rw [← hf_6] at hP hD
          rw [hQ]
          have h9 := fin9 (P := fun u9 : (Nat → Int32) => va_P E.1 vwCl (w_X5_put E a_ a_row a_partners a_share a_leftOver c_askedCount c_outcome u9) H ∧ va_D A (w_X5_put E a_ a_row a_partners a_share a_leftOver c_askedCount c_outcome u9)) hF ⟨hP, hD⟩
          obtain ⟨hP9, hD9⟩ := h9
          exact W.vret hx hb hr (fun tt ht hW => ⟨⟨(), rfl, trivial, ht ▸ hP9, hD9⟩, hS.F ht⟩) hS.2.2 (dq_177 0 bcX5_put_0 (j := 35) rfl rfl)

def F_X5_stepFrom (p1 : Int32) (c_row : Nat → Int32) : Option (Int32) :=
  if (2 : Int32) * (c_row 3) ≤ (0 : Int32) then some (0 : Int32) else if p1 < c_row 2 then nzI ((2 : Int32) * (c_row 3)) (some (((c_row 2) - p1) / ((2 : Int32) * (c_row 3)))) else some (0 : Int32)
abbrev w_X5_stepFrom (E : EE) (a_ a_row a_partners a_share a_leftOver : Nat) (c_askedCount : Int32) (c_outcome : Int32) (c_row : Nat → Int32) : va_W := [k_X5 a_ a_row a_partners c_askedCount c_outcome a_share a_leftOver, k_I E a_row 81 c_row]
def v_f_X5_stepFrom : List Cond := List.cons (.code yX5_stepFrom cX5_stepFrom 3 (some .int)) (HAppend.hAppend (α := List Cond) (β := List Cond) (γ := List Cond) [.fieldLink RX5 11 "HushWatch$State" "row" "[I"] (HAppend.hAppend (α := List Cond) (β := List Cond) (γ := List Cond) wsX50 []))
theorem gw_f_X5_stepFrom : v_f_X5_stepFrom.all goodWord = true := gw_c2 (by decide +kernel) (gw_ap gw_wsX50 gw_nil)
theorem i_f_X5_stepFrom_X5 : ∀ w ∈ wsX50, w ∈ v_f_X5_stepFrom := fun _ h => List.mem_cons_of_mem _ (List.mem_append_right _ (List.mem_append_left _ h))
theorem hd_X5_stepFrom : yX5_stepFrom.cls = RX5 ∧ yX5_stepFrom.cls ≠ "java/lang/invoke/MethodHandle" ∧ yX5_stepFrom.cls ≠ "java/lang/invoke/VarHandle" ∧ (parseMethodDescriptor yX5_stepFrom.desc).map (fun d => d.parameters.length) = some 1 := by decide +kernel
set_option maxHeartbeats 4000000 in
set_option maxRecDepth 100000 in
theorem f_X5_stepFrom (l : Launch) (E : EE) {a_ a_row a_partners a_share a_leftOver : Nat} {p1 : Int32} {c_askedCount : Int32} {c_outcome : Int32} {c_row : Nat → Int32} {rr : Int32} (hF : F_X5_stepFrom p1 c_row = some rr) : Met l yX5_stepFrom v_f_X5_stepFrom (({ frames := 0, cells := 0, slots := 0, locals := 0 } : Room)) (va_Pc [.ref a_, .int p1] (pP E (w_X5_stepFrom E a_ a_row a_partners a_share a_leftOver c_askedCount c_outcome c_row))) (vp_Si (fun q : Int32 => q = rr)) 0 0 (fun _ => False) := by
  refine Met.ofW (cc := cX5_stepFrom) (maxL := 3) (ret := (some .int)) (by decide) rfl ?_
  intro p e s m args below meth c s₁ B hml hv
  obtain ⟨rfl, ⟨hK, hN⟩, hP⟩ := hv
  have hx := B.exec
  have hb := B.bytes
  have hr := B.returns
  have hts := atoms_spec (ws := v_f_X5_stepFrom) B.pre
  have hown : s.vm.findClass RX5 = some m.cls := own_of hd_X5_stepFrom.1 (findClass_of_methodNamed B.named)
  have hlocks : meth.locks = false := B.notSynchronized
  replace hP : va_P E.1 vwCl [k_X5 a_ a_row a_partners c_askedCount c_outcome a_share a_leftOver, k_I E a_row 81 c_row] s.heap := hP
  have hl := lv_entry ([.ref a_, .int p1]) (n := 3) (Nat.le_of_ble_eq_true rfl)
  rw [lg_entry_eq]
  generalize (lg_sl ([.ref a_, .int p1]) ++ List.replicate (3 - (lg_sl ([.ref a_, .int p1])).length) Slot.unset).toArray = ls at hl ⊢
  have hl : lv_has ls 3 [(0, .ref a_), (1, .int p1)] := hl
  obtain ⟨Q, hQ⟩ : ∃ Q : State → Prop, Q = MQ below (vp_Si (fun q : Int32 => q = rr)) #[Value.ref a_, Value.int p1] s 0 0 (fun _ => False) := ⟨_, rfl⟩
  rw [← hQ]
  change W p l e ({ frames := 0, cells := 0, slots := 0, locals := 0 } : Room) s m #[Value.ref a_, Value.int p1] below meth c s.heap [] 0 0 Q (F0 m 0 ls [])
  unfold F_X5_stepFrom at hF
  refine lv_iconst (v := 2) hx hb (dq_5 0 bcX5_stepFrom_0 (j := 0) rfl rfl) (by decide) ?_
  refine lv_aload_n hx hb (dq_42 0 bcX5_stepFrom_0 (j := 1) rfl rfl) rfl (lv_at hl 0 rfl) ?_
  refine gt_X5_0 (v := .ref a_row) hx hb hts i_f_X5_stepFrom_X5 hown hK hP 0 rfl (hts (.fieldLink RX5 11 "HushWatch$State" "row" "[I") (List.mem_of_getElem? (i := 1) rfl)) rfl (dq_180 0 bcX5_stepFrom_0 (j := 2) (i := 11) rfl rfl rfl) ?_
  refine lv_iconst (v := 3) hx hb (dq_6 0 bcX5_stepFrom_0 (j := 5) rfl rfl) (by decide) ?_
  refine va_iald hx hb hK hP 1 0 rfl rfl (vin rfl) (dq_46 0 bcX5_stepFrom_0 (j := 6) rfl rfl) ?_
  refine W.eq (g2 := F0 m 7 ls [.int (c_row 3), .int (2 : Int32)]) rfl ?_
  refine lv_imul hx hb (dq_104 0 bcX5_stepFrom_0 (j := 7) rfl rfl) ?_
  refine lv_istore_n (lv' := [(2, .int ((2 : Int32) * (c_row 3))), (0, .ref a_), (1, .int p1)]) hx hb (dq_61 0 bcX5_stepFrom_0 (j := 8) rfl rfl) rfl hl (by decide) rfl (fun ls hl => ?_)
  refine lv_iload_n hx hb (dq_28 0 bcX5_stepFrom_0 (j := 9) rfl rfl) rfl (lv_at hl 0 rfl) ?_
  refine lv_if_le (tgt := 23) hx hb (dq_158 0 bcX5_stepFrom_0 (j := 10) (i := 13) rfl rfl rfl) (by decide) (fun c_1 => ?_) (fun c_1 => ?_)
  ·
    replace hF := ip c_1 hF
    refine lv_iconst (v := 0) hx hb (dq_3 0 bcX5_stepFrom_0 (j := 23) rfl rfl) (by decide) ?_
    refine lv_goto (tgt := 37) hx hb (dq_167 0 bcX5_stepFrom_0 (j := 24) (i := 13) rfl rfl rfl) (by decide) ?_
    rw [hQ]
    obtain e9_0 := inj1 hF
    exact W.iret (v := (0 : Int32)) hx hb hr (fun tt ht hW => ⟨_, rfl, e9_0, ht⟩) (fun _ h => by cases h) (dq_172 0 bcX5_stepFrom_0 (j := 37) rfl rfl)
  ·
    replace hF := inn c_1 hF
    refine lv_iload_n hx hb (dq_27 0 bcX5_stepFrom_0 (j := 13) rfl rfl) rfl (lv_at hl 2 rfl) ?_
    refine lv_aload_n hx hb (dq_42 0 bcX5_stepFrom_0 (j := 14) rfl rfl) rfl (lv_at hl 1 rfl) ?_
    refine gt_X5_0 (v := .ref a_row) hx hb hts i_f_X5_stepFrom_X5 hown hK hP 0 rfl (hts (.fieldLink RX5 11 "HushWatch$State" "row" "[I") (List.mem_of_getElem? (i := 1) rfl)) rfl (dq_180 0 bcX5_stepFrom_0 (j := 15) (i := 11) rfl rfl rfl) ?_
    refine lv_iconst (v := 2) hx hb (dq_5 0 bcX5_stepFrom_0 (j := 18) rfl rfl) (by decide) ?_
    refine va_iald hx hb hK hP 1 0 rfl rfl (vin rfl) (dq_46 0 bcX5_stepFrom_0 (j := 19) rfl rfl) ?_
    refine W.eq (g2 := F0 m 20 ls [.int (c_row 2), .int p1]) rfl ?_
    refine lv_icmp_lt (tgt := 27) hx hb (dq_161 0 bcX5_stepFrom_0 (j := 20) (i := 7) rfl rfl rfl) (by decide) (fun c_2 => ?_) (fun c_2 => ?_)
    ·
      replace hF := ip c_2 hF
      refine lv_aload_n hx hb (dq_42 0 bcX5_stepFrom_0 (j := 27) rfl rfl) rfl (lv_at hl 1 rfl) ?_
      refine gt_X5_0 (v := .ref a_row) hx hb hts i_f_X5_stepFrom_X5 hown hK hP 0 rfl (hts (.fieldLink RX5 11 "HushWatch$State" "row" "[I") (List.mem_of_getElem? (i := 1) rfl)) rfl (dq_180 0 bcX5_stepFrom_0 (j := 28) (i := 11) rfl rfl rfl) ?_
      refine lv_iconst (v := 2) hx hb (dq_5 0 bcX5_stepFrom_0 (j := 31) rfl rfl) (by decide) ?_
      refine va_iald hx hb hK hP 1 0 rfl rfl (vin rfl) (dq_46 0 bcX5_stepFrom_0 (j := 32) rfl rfl) ?_
      refine W.eq (g2 := F0 m 33 ls [.int (c_row 2)]) rfl ?_
      refine lv_iload_n hx hb (dq_27 0 bcX5_stepFrom_0 (j := 33) rfl rfl) rfl (lv_at hl 2 rfl) ?_
      refine lv_isub hx hb (dq_100 0 bcX5_stepFrom_0 (j := 34) rfl rfl) ?_
      refine lv_iload_n hx hb (dq_28 0 bcX5_stepFrom_0 (j := 35) rfl rfl) rfl (lv_at hl 0 rfl) ?_
      replace hF := nzI_s hF
      obtain ⟨hz_3, hF⟩ := hF
      refine lv_idiv hx hb (dq_108 0 bcX5_stepFrom_0 (j := 36) rfl rfl) (hz_3) ?_
      rw [hQ]
      obtain e9_0 := inj1 hF
      exact W.iret (v := ((c_row 2) - p1) / ((2 : Int32) * (c_row 3))) hx hb hr (fun tt ht hW => ⟨_, rfl, e9_0, ht⟩) (fun _ h => by cases h) (dq_172 0 bcX5_stepFrom_0 (j := 37) rfl rfl)
    ·
      replace hF := inn c_2 hF
      refine lv_iconst (v := 0) hx hb (dq_3 0 bcX5_stepFrom_0 (j := 23) rfl rfl) (by decide) ?_
      refine lv_goto (tgt := 37) hx hb (dq_167 0 bcX5_stepFrom_0 (j := 24) (i := 13) rfl rfl rfl) (by decide) ?_
      rw [hQ]
      obtain e9_0 := inj1 hF
      exact W.iret (v := (0 : Int32)) hx hb hr (fun tt ht hW => ⟨_, rfl, e9_0, ht⟩) (fun _ h => by cases h) (dq_172 0 bcX5_stepFrom_0 (j := 37) rfl rfl)

def F_X5_sites (c_row : Nat → Int32) : Option (Int32) :=
  some (c_row 3)
abbrev w_X5_sites (E : EE) (a_ a_row a_partners a_share a_leftOver : Nat) (c_askedCount : Int32) (c_outcome : Int32) (c_row : Nat → Int32) : va_W := [k_X5 a_ a_row a_partners c_askedCount c_outcome a_share a_leftOver, k_I E a_row 81 c_row]
def v_f_X5_sites : List Cond := List.cons (.code yX5_sites cX5_sites 1 (some .int)) (HAppend.hAppend (α := List Cond) (β := List Cond) (γ := List Cond) [.fieldLink RX5 11 "HushWatch$State" "row" "[I"] (HAppend.hAppend (α := List Cond) (β := List Cond) (γ := List Cond) wsX50 []))
theorem gw_f_X5_sites : v_f_X5_sites.all goodWord = true := gw_c2 (by decide +kernel) (gw_ap gw_wsX50 gw_nil)
theorem i_f_X5_sites_X5 : ∀ w ∈ wsX50, w ∈ v_f_X5_sites := fun _ h => List.mem_cons_of_mem _ (List.mem_append_right _ (List.mem_append_left _ h))
theorem hd_X5_sites : yX5_sites.cls = RX5 ∧ yX5_sites.cls ≠ "java/lang/invoke/MethodHandle" ∧ yX5_sites.cls ≠ "java/lang/invoke/VarHandle" ∧ (parseMethodDescriptor yX5_sites.desc).map (fun d => d.parameters.length) = some 0 := by decide +kernel
set_option maxHeartbeats 4000000 in
set_option maxRecDepth 100000 in
theorem f_X5_sites (l : Launch) (E : EE) {a_ a_row a_partners a_share a_leftOver : Nat} {c_askedCount : Int32} {c_outcome : Int32} {c_row : Nat → Int32} {rr : Int32} (hF : F_X5_sites c_row = some rr) : Met l yX5_sites v_f_X5_sites (({ frames := 0, cells := 0, slots := 0, locals := 0 } : Room)) (va_Pc [.ref a_] (pP E (w_X5_sites E a_ a_row a_partners a_share a_leftOver c_askedCount c_outcome c_row))) (vp_Si (fun q : Int32 => q = rr)) 0 0 (fun _ => False) := by
  refine Met.ofW (cc := cX5_sites) (maxL := 1) (ret := (some .int)) (by decide) rfl ?_
  intro p e s m args below meth c s₁ B hml hv
  obtain ⟨rfl, ⟨hK, hN⟩, hP⟩ := hv
  have hx := B.exec
  have hb := B.bytes
  have hr := B.returns
  have hts := atoms_spec (ws := v_f_X5_sites) B.pre
  have hown : s.vm.findClass RX5 = some m.cls := own_of hd_X5_sites.1 (findClass_of_methodNamed B.named)
  have hlocks : meth.locks = false := B.notSynchronized
  replace hP : va_P E.1 vwCl [k_X5 a_ a_row a_partners c_askedCount c_outcome a_share a_leftOver, k_I E a_row 81 c_row] s.heap := hP
  have hl := lv_entry ([.ref a_]) (n := 1) (Nat.le_of_ble_eq_true rfl)
  rw [lg_entry_eq]
  generalize (lg_sl ([.ref a_]) ++ List.replicate (1 - (lg_sl ([.ref a_])).length) Slot.unset).toArray = ls at hl ⊢
  have hl : lv_has ls 1 [(0, .ref a_)] := hl
  obtain ⟨Q, hQ⟩ : ∃ Q : State → Prop, Q = MQ below (vp_Si (fun q : Int32 => q = rr)) #[Value.ref a_] s 0 0 (fun _ => False) := ⟨_, rfl⟩
  rw [← hQ]
  change W p l e ({ frames := 0, cells := 0, slots := 0, locals := 0 } : Room) s m #[Value.ref a_] below meth c s.heap [] 0 0 Q (F0 m 0 ls [])
  unfold F_X5_sites at hF
  refine lv_aload_n hx hb (dq_42 0 bcX5_sites_0 (j := 0) rfl rfl) rfl (lv_at hl 0 rfl) ?_
  refine gt_X5_0 (v := .ref a_row) hx hb hts i_f_X5_sites_X5 hown hK hP 0 rfl (hts (.fieldLink RX5 11 "HushWatch$State" "row" "[I") (List.mem_of_getElem? (i := 1) rfl)) rfl (dq_180 0 bcX5_sites_0 (j := 1) (i := 11) rfl rfl rfl) ?_
  refine lv_iconst (v := 3) hx hb (dq_6 0 bcX5_sites_0 (j := 4) rfl rfl) (by decide) ?_
  refine va_iald hx hb hK hP 1 0 rfl rfl (vin rfl) (dq_46 0 bcX5_sites_0 (j := 5) rfl rfl) ?_
  refine W.eq (g2 := F0 m 6 ls [.int (c_row 3)]) rfl ?_
  rw [hQ]
  obtain e9_0 := inj1 hF
  exact W.iret (v := c_row 3) hx hb hr (fun tt ht hW => ⟨_, rfl, e9_0, ht⟩) (fun _ h => by cases h) (dq_172 0 bcX5_sites_0 (j := 6) rfl rfl)

def B_X5_total_4 (p1 : Int32) (c_row : Nat → Int32) (x2 : Int32) (x3 : Int32) : Option ((Int32 × Int32) ⊕ (Int32)) :=
  bd1 (F_X5_sites c_row) (fun r_1 => if r_1 ≤ x3 then some (.inr x2) else bd1 (F_X5_of x3 p1 c_row) (fun r_4 => some (.inl (x2 + r_4, x3 + (1 : Int32)))))
def F_X5_total (K : Nat) (p1 : Int32) (c_row : Nat → Int32) : Option (Int32) :=
  bd1 (lpF (fun u9 : Int32 × Int32 => B_X5_total_4 p1 c_row u9.1 u9.2) K ((0 : Int32), (0 : Int32))) (fun x2_6 => some x2_6)
abbrev w_X5_total (E : EE) (a_ a_row a_partners a_share a_leftOver : Nat) (c_askedCount : Int32) (c_outcome : Int32) (c_row : Nat → Int32) : va_W := [k_X5 a_ a_row a_partners c_askedCount c_outcome a_share a_leftOver, k_I E a_row 81 c_row]
def v_f_X5_total : List Cond := List.cons (.code yX5_total cX5_total 4 (some .int)) (HAppend.hAppend (α := List Cond) (β := List Cond) (γ := List Cond) [.methodLink RX5 45 yX5_sites, .instanceMethod yX5_sites, .selects RX5 yX5_sites yX5_sites, .initialized RX5, .methodLink RX5 69 yX5_of, .instanceMethod yX5_of, .selects RX5 yX5_of yX5_of] (HAppend.hAppend (α := List Cond) (β := List Cond) (γ := List Cond) v_f_X5_sites (HAppend.hAppend (α := List Cond) (β := List Cond) (γ := List Cond) v_f_X5_of [])))
theorem gw_f_X5_total : v_f_X5_total.all goodWord = true := gw_c2 (by decide +kernel) (gw_ap gw_f_X5_sites (gw_ap gw_f_X5_of gw_nil))
theorem g_f_X5_total_f_X5_sites_45 : GoodIn v_f_X5_total (wsV RX5 45 RX5 yX5_sites v_f_X5_sites) := goodIn_in gw_f_X5_total (in4 1 2 3 4 rfl rfl rfl rfl (fun _ h => List.mem_cons_of_mem _ (List.mem_append_right _ (List.mem_append_left _ h))))
theorem g_f_X5_total_f_X5_of_69 : GoodIn v_f_X5_total (wsV RX5 69 RX5 yX5_of v_f_X5_of) := goodIn_in gw_f_X5_total (in4 5 6 7 4 rfl rfl rfl rfl (fun _ h => List.mem_cons_of_mem _ (List.mem_append_right _ (List.mem_append_right _ (List.mem_append_left _ h)))))
theorem hd_X5_total : yX5_total.cls = RX5 ∧ yX5_total.cls ≠ "java/lang/invoke/MethodHandle" ∧ yX5_total.cls ≠ "java/lang/invoke/VarHandle" ∧ (parseMethodDescriptor yX5_total.desc).map (fun d => d.parameters.length) = some 1 := by decide +kernel
set_option maxHeartbeats 4000000 in
set_option maxRecDepth 100000 in
theorem wb_X5_total_4 {p : Program} (l : Launch) {e : Env} {s : State} {m : MethodId} {below : List Frame} {meth : Method} {c : Code} {Q : State → Prop} (E : EE) (K : Nat) {a_ a_row a_partners a_share a_leftOver : Nat} {p1 : Int32} {c_askedCount : Int32} {c_outcome : Int32} {c_row : Nat → Int32} {x2 : Int32} {x3 : Int32} (hx : p.tables.exec = Jvm.exec) (hb : c.code = cX5_total) (hml : c.maxLocals = 4) (hown : s.vm.findClass RX5 = some m.cls) (hts : ∀ w ∈ v_f_X5_total, w.before #[Value.ref a_, Value.int p1] s = true) (hK : va_K E.1 vwCl (TY E) s) (hN : NX s) {xx : (Int32 × Int32) ⊕ (Int32)} (hC : ∀ (x2 : Int32), ∀ (x3 : Int32), xx = .inl (x2, x3) → ∀ (ls : Array Slot), lv_has ls 4 [(0, .ref a_), (1, .int p1), (2, .int x2), (3, .int x3)] → W p l e ({ frames := 1, cells := 0, slots := 0, locals := 22 } : Room) s m #[Value.ref a_, Value.int p1] below meth c s.heap [] 0 0 Q (F0 m 4 ls [])) (hE : ∀ (x2 : Int32), xx = .inr x2 → ((∀ (ls : Array Slot), lv_has ls 4 [(2, .int x2)] → W p l e ({ frames := 1, cells := 0, slots := 0, locals := 22 } : Room) s m #[Value.ref a_, Value.int p1] below meth c s.heap [] 0 0 Q (F0 m 27 ls [])))) (hF : B_X5_total_4 p1 c_row x2 x3 = some xx) (hP : va_P E.1 vwCl (w_X5_total E a_ a_row a_partners a_share a_leftOver c_askedCount c_outcome c_row) s.heap) : ∀ (ls : Array Slot), lv_has ls 4 [(0, .ref a_), (1, .int p1), (2, .int x2), (3, .int x3)] → W p l e ({ frames := 1, cells := 0, slots := 0, locals := 22 } : Room) s m #[Value.ref a_, Value.int p1] below meth c s.heap [] 0 0 Q (F0 m 4 ls []) := by
  unfold B_X5_total_4 at hF
  replace hP : va_P E.1 vwCl [k_X5 a_ a_row a_partners c_askedCount c_outcome a_share a_leftOver, k_I E a_row 81 c_row] s.heap := hP
  intro ls hl
  refine lv_iload_n hx hb (dq_29 0 bcX5_total_0 (j := 4) rfl rfl) rfl (lv_at hl 3 rfl) ?_
  refine lv_aload_n hx hb (dq_42 0 bcX5_total_0 (j := 5) rfl rfl) rfl (lv_at hl 0 rfl) ?_
  replace hF := bd1_s hF
  obtain ⟨r_1, hc_2, hF⟩ := hF
  have hPc : va_P E.1 vwCl (w_X5_sites E a_ a_row a_partners a_share a_leftOver c_askedCount c_outcome c_row) s.heap := hP.sub (ws' := [k_X5 a_ a_row a_partners c_askedCount c_outcome a_share a_leftOver, k_I E a_row 81 c_row]) [0, 1] rfl
  have hrc := va_recv hK hPc (ci := 6) (q0 := 0) rfl rfl
  refine pE_i (va_runV (As := []) (rest := [.int x3])  ⟨hx, hb, hml, hown, hts⟩ (f_X5_sites l E (a_ := a_) (a_row := a_row) (a_partners := a_partners) (a_share := a_share) (a_leftOver := a_leftOver) (c_askedCount := c_askedCount) (c_outcome := c_outcome) (c_row := c_row) hc_2) (cwV 0 hts g_f_X5_total_f_X5_sites_45 rfl rfl rfl hd_X5_sites ⟨Nat.le_of_ble_eq_true rfl, Nat.le_of_ble_eq_true rfl⟩) ⟨pP.blind, hrc, (pP.pre ⟨hK, hN⟩ hPc)⟩ rfl rfl hl.1 rfl (lv_room (Nat.le_of_ble_eq_true rfl)) (dq_182 0 bcX5_total_0 (j := 6) (i := 45) rfl rfl rfl) ⟨Nat.le_of_ble_eq_true rfl, Nat.le_of_ble_eq_true rfl⟩) ?_
  refine lv_icmp_ge (tgt := 27) hx hb (dq_162 0 bcX5_total_0 (j := 9) (i := 18) rfl rfl rfl) (by decide) (fun c_3 => ?_) (fun c_3 => ?_)
  ·
    replace hF := ip c_3 hF
    cases hF
    exact hE x2 rfl ls (lv_sub hl [2] rfl)
  ·
    replace hF := inn c_3 hF
    refine lv_iload_n hx hb (dq_28 0 bcX5_total_0 (j := 12) rfl rfl) rfl (lv_at hl 2 rfl) ?_
    refine lv_aload_n hx hb (dq_42 0 bcX5_total_0 (j := 13) rfl rfl) rfl (lv_at hl 0 rfl) ?_
    refine lv_iload_n hx hb (dq_29 0 bcX5_total_0 (j := 14) rfl rfl) rfl (lv_at hl 3 rfl) ?_
    refine lv_iload_n hx hb (dq_27 0 bcX5_total_0 (j := 15) rfl rfl) rfl (lv_at hl 1 rfl) ?_
    replace hF := bd1_s hF
    obtain ⟨r_4, hc_5, hF⟩ := hF
    have hPc : va_P E.1 vwCl (w_X5_of E a_ a_row a_partners a_share a_leftOver c_askedCount c_outcome c_row) s.heap := hP.sub (ws' := [k_X5 a_ a_row a_partners c_askedCount c_outcome a_share a_leftOver, k_I E a_row 81 c_row]) [0, 1] rfl
    have hrc := va_recv hK hPc (ci := 6) (q0 := 0) rfl rfl
    refine pE_i (va_runV (As := [.int x3, .int p1]) (rest := [.int x2])  ⟨hx, hb, hml, hown, hts⟩ (f_X5_of l E (a_ := a_) (a_row := a_row) (a_partners := a_partners) (a_share := a_share) (a_leftOver := a_leftOver) (p1 := x3) (p2 := p1) (c_askedCount := c_askedCount) (c_outcome := c_outcome) (c_row := c_row) hc_5) (cwV 2 hts g_f_X5_total_f_X5_of_69 rfl rfl rfl hd_X5_of ⟨Nat.le_of_ble_eq_true rfl, Nat.le_of_ble_eq_true rfl⟩) ⟨pP.blind, hrc, (pP.pre ⟨hK, hN⟩ hPc)⟩ rfl rfl hl.1 rfl (lv_room (Nat.le_of_ble_eq_true rfl)) (dq_182 0 bcX5_total_0 (j := 16) (i := 69) rfl rfl rfl) ⟨Nat.le_of_ble_eq_true rfl, Nat.le_of_ble_eq_true rfl⟩) ?_
    refine lv_iadd hx hb (dq_96 0 bcX5_total_0 (j := 19) rfl rfl) ?_
    refine lv_istore_n (lv' := [(2, .int (x2 + r_4)), (0, .ref a_), (1, .int p1), (3, .int x3)]) hx hb (dq_61 0 bcX5_total_0 (j := 20) rfl rfl) rfl hl (by decide) rfl (fun ls hl => ?_)
    refine lv_iinc (v := x3 + (1 : Int32)) (lv' := [(3, .int (x3 + (1 : Int32))), (2, .int (x2 + r_4)), (0, .ref a_), (1, .int p1)]) hx hb (dq_132 0 bcX5_total_0 (j := 21) (i := 1) rfl rfl rfl) hl (k := 3) rfl (rfl) (by decide) rfl (fun ls hl => ?_)
    refine lv_goto (tgt := 4) hx hb (dq_167 0 bcX5_total_0 (j := 24) (i := -20) rfl rfl rfl) (by decide) ?_
    cases hF
    exact hC (x2 + r_4) (x3 + (1 : Int32)) rfl ls (lv_sub hl [2, 3, 1, 0] rfl)

set_option maxHeartbeats 4000000 in
set_option maxRecDepth 100000 in
theorem lw_X5_total_4 {p : Program} (l : Launch) {e : Env} {s : State} {m : MethodId} {below : List Frame} {meth : Method} {c : Code} {Q : State → Prop} (E : EE) (K : Nat) {a_ a_row a_partners a_share a_leftOver : Nat} {p1 : Int32} {c_askedCount : Int32} {c_outcome : Int32} {c_row : Nat → Int32} (hx : p.tables.exec = Jvm.exec) (hb : c.code = cX5_total) (hml : c.maxLocals = 4) (hown : s.vm.findClass RX5 = some m.cls) (hts : ∀ w ∈ v_f_X5_total, w.before #[Value.ref a_, Value.int p1] s = true) (hK : va_K E.1 vwCl (TY E) s) (hN : NX s) (hP : va_P E.1 vwCl (w_X5_total E a_ a_row a_partners a_share a_leftOver c_askedCount c_outcome c_row) s.heap) (j9 : Nat) (x2 : Int32) (x3 : Int32) (x2' : Int32) (hL : lpF (fun u9 : Int32 × Int32 => B_X5_total_4 p1 c_row u9.1 u9.2) j9 (x2, x3) = some x2') (hX : (∀ (ls : Array Slot), lv_has ls 4 [(2, .int x2')] → W p l e ({ frames := 1, cells := 0, slots := 0, locals := 22 } : Room) s m #[Value.ref a_, Value.int p1] below meth c s.heap [] 0 0 Q (F0 m 27 ls []))) : ∀ (ls : Array Slot), lv_has ls 4 [(0, .ref a_), (1, .int p1), (2, .int x2), (3, .int x3)] → W p l e ({ frames := 1, cells := 0, slots := 0, locals := 22 } : Room) s m #[Value.ref a_, Value.int p1] below meth c s.heap [] 0 0 Q (F0 m 4 ls []) := by
  exact lp_rule (P := (fun u9 : Int32 × Int32 => ∀ (ls : Array Slot), lv_has ls 4 [(0, .ref a_), (1, .int p1), (2, .int u9.1), (3, .int u9.2)] → W p l e ({ frames := 1, cells := 0, slots := 0, locals := 22 } : Room) s m #[Value.ref a_, Value.int p1] below meth c s.heap [] 0 0 Q (F0 m 4 ls []))) (R := (fun r9 : Int32 => (∀ (ls : Array Slot), lv_has ls 4 [(2, .int r9)] → W p l e ({ frames := 1, cells := 0, slots := 0, locals := 22 } : Room) s m #[Value.ref a_, Value.int p1] below meth c s.heap [] 0 0 Q (F0 m 27 ls [])))) (fun u9 xx hF hC hE => wb_X5_total_4 l E K (p1 := p1) (c_askedCount := c_askedCount) (c_outcome := c_outcome) (c_row := c_row) (x2 := u9.1) (x3 := u9.2) hx hb hml hown hts hK hN (fun x2 x3 q9 => hC _ q9) (fun x2 q9 => hE _ q9) hF hP) j9 (x2, x3) x2' hL hX

set_option maxHeartbeats 4000000 in
set_option maxRecDepth 100000 in
theorem f_X5_total (l : Launch) (E : EE) (K : Nat) {a_ a_row a_partners a_share a_leftOver : Nat} {p1 : Int32} {c_askedCount : Int32} {c_outcome : Int32} {c_row : Nat → Int32} {rr : Int32} (hF : F_X5_total K p1 c_row = some rr) : Met l yX5_total v_f_X5_total (({ frames := 1, cells := 0, slots := 0, locals := 22 } : Room)) (va_Pc [.ref a_, .int p1] (pP E (w_X5_total E a_ a_row a_partners a_share a_leftOver c_askedCount c_outcome c_row))) (vp_Si (fun q : Int32 => q = rr)) 0 0 (fun _ => False) := by
  refine Met.ofW (cc := cX5_total) (maxL := 4) (ret := (some .int)) (by decide) rfl ?_
  intro p e s m args below meth c s₁ B hml hv
  obtain ⟨rfl, ⟨hK, hN⟩, hP⟩ := hv
  have hx := B.exec
  have hb := B.bytes
  have hr := B.returns
  have hts := atoms_spec (ws := v_f_X5_total) B.pre
  have hown : s.vm.findClass RX5 = some m.cls := own_of hd_X5_total.1 (findClass_of_methodNamed B.named)
  have hlocks : meth.locks = false := B.notSynchronized
  replace hP : va_P E.1 vwCl [k_X5 a_ a_row a_partners c_askedCount c_outcome a_share a_leftOver, k_I E a_row 81 c_row] s.heap := hP
  have hl := lv_entry ([.ref a_, .int p1]) (n := 4) (Nat.le_of_ble_eq_true rfl)
  rw [lg_entry_eq]
  generalize (lg_sl ([.ref a_, .int p1]) ++ List.replicate (4 - (lg_sl ([.ref a_, .int p1])).length) Slot.unset).toArray = ls at hl ⊢
  have hl : lv_has ls 4 [(0, .ref a_), (1, .int p1)] := hl
  obtain ⟨Q, hQ⟩ : ∃ Q : State → Prop, Q = MQ below (vp_Si (fun q : Int32 => q = rr)) #[Value.ref a_, Value.int p1] s 0 0 (fun _ => False) := ⟨_, rfl⟩
  rw [← hQ]
  change W p l e ({ frames := 1, cells := 0, slots := 0, locals := 22 } : Room) s m #[Value.ref a_, Value.int p1] below meth c s.heap [] 0 0 Q (F0 m 0 ls [])
  unfold F_X5_total at hF
  refine lv_iconst (v := 0) hx hb (dq_3 0 bcX5_total_0 (j := 0) rfl rfl) (by decide) ?_
  refine lv_istore_n (lv' := [(2, .int (0 : Int32)), (0, .ref a_), (1, .int p1)]) hx hb (dq_61 0 bcX5_total_0 (j := 1) rfl rfl) rfl hl (by decide) rfl (fun ls hl => ?_)
  refine lv_iconst (v := 0) hx hb (dq_3 0 bcX5_total_0 (j := 2) rfl rfl) (by decide) ?_
  refine lv_istore_n (lv' := [(3, .int (0 : Int32)), (2, .int (0 : Int32)), (0, .ref a_), (1, .int p1)]) hx hb (dq_62 0 bcX5_total_0 (j := 3) rfl rfl) rfl hl (by decide) rfl (fun ls hl => ?_)
  replace hF := bd1_s hF
  obtain ⟨x2_6, hL_7, hF⟩ := hF
  refine lw_X5_total_4 l E K (p1 := p1) (c_askedCount := c_askedCount) (c_outcome := c_outcome) (c_row := c_row) hx hb hml hown hts hK hN hP K (0 : Int32) (0 : Int32) x2_6 hL_7 ?_ ls (lv_sub hl [2, 3, 1, 0] rfl)
  ·
    intro ls hl
    refine lv_iload_n hx hb (dq_28 0 bcX5_total_0 (j := 27) rfl rfl) rfl (lv_at hl 0 rfl) ?_
    rw [hQ]
    obtain e9_0 := inj1 hF
    exact W.iret (v := x2_6) hx hb hr (fun tt ht hW => ⟨_, rfl, e9_0, ht⟩) (fun _ h => by cases h) (dq_172 0 bcX5_total_0 (j := 28) rfl rfl)

def B_X5_endRound_34 (x1 : Int32) (c_row : Nat → Int32) : Option ((Int32 × (Nat → Int32)) ⊕ ((Nat → Int32))) :=
  bd1 (F_X5_sites c_row) (fun r_6 => if r_6 ≤ x1 then some (.inr c_row) else bd1 (F_X5_put x1 (7 : Int32) (0 : Int32) c_row) (fun w_9 => some (.inl (x1 + (1 : Int32), w_9))))
def F_X5_endRound (K : Nat) (c_row : Nat → Int32) : Option ((Nat → Int32)) :=
  bd1 (F_X5_total K (6 : Int32) c_row) (fun r_1 => nmF (upd c_row 8 r_1) (fun f_3 => nmF (upd f_3 9 (0 : Int32)) (fun f_4 => nmF (upd f_4 10 ((f_4 10) + (1 : Int32))) (fun f_5 => bd1 (lpF (fun u9 : Int32 × (Nat → Int32) => B_X5_endRound_34  u9.1 u9.2) K ((0 : Int32), f_5)) (fun c_row_11 => some c_row_11)))))
abbrev w_X5_endRound (E : EE) (a_ a_row a_partners a_share a_leftOver : Nat) (c_askedCount : Int32) (c_outcome : Int32) (c_row : Nat → Int32) : va_W := [k_X5 a_ a_row a_partners c_askedCount c_outcome a_share a_leftOver, k_I E a_row 81 c_row]
def v_f_X5_endRound : List Cond := List.cons (.code yX5_endRound cX5_endRound 2 none) (HAppend.hAppend (α := List Cond) (β := List Cond) (γ := List Cond) [.fieldLink RX5 11 "HushWatch$State" "row" "[I", .methodLink RX5 188 yX5_total, .instanceMethod yX5_total, .selects RX5 yX5_total yX5_total, .initialized RX5, .methodLink RX5 45 yX5_sites, .instanceMethod yX5_sites, .selects RX5 yX5_sites yX5_sites, .methodLink RX5 52 yX5_put, .instanceMethod yX5_put, .selects RX5 yX5_put yX5_put] (HAppend.hAppend (α := List Cond) (β := List Cond) (γ := List Cond) wsX50 (HAppend.hAppend (α := List Cond) (β := List Cond) (γ := List Cond) v_f_X5_total (HAppend.hAppend (α := List Cond) (β := List Cond) (γ := List Cond) v_f_X5_sites (HAppend.hAppend (α := List Cond) (β := List Cond) (γ := List Cond) v_f_X5_put [])))))
theorem gw_f_X5_endRound : v_f_X5_endRound.all goodWord = true := gw_c2 (by decide +kernel) (gw_ap gw_wsX50 (gw_ap gw_f_X5_total (gw_ap gw_f_X5_sites (gw_ap gw_f_X5_put gw_nil))))
theorem i_f_X5_endRound_X5 : ∀ w ∈ wsX50, w ∈ v_f_X5_endRound := fun _ h => List.mem_cons_of_mem _ (List.mem_append_right _ (List.mem_append_left _ h))
theorem g_f_X5_endRound_f_X5_total_188 : GoodIn v_f_X5_endRound (wsV RX5 188 RX5 yX5_total v_f_X5_total) := goodIn_in gw_f_X5_endRound (in4 2 3 4 5 rfl rfl rfl rfl (fun _ h => List.mem_cons_of_mem _ (List.mem_append_right _ (List.mem_append_right _ (List.mem_append_left _ h)))))
theorem g_f_X5_endRound_f_X5_sites_45 : GoodIn v_f_X5_endRound (wsV RX5 45 RX5 yX5_sites v_f_X5_sites) := goodIn_in gw_f_X5_endRound (in4 6 7 8 5 rfl rfl rfl rfl (fun _ h => List.mem_cons_of_mem _ (List.mem_append_right _ (List.mem_append_right _ (List.mem_append_right _ (List.mem_append_left _ h))))))
theorem g_f_X5_endRound_f_X5_put_52 : GoodIn v_f_X5_endRound (wsV RX5 52 RX5 yX5_put v_f_X5_put) := goodIn_in gw_f_X5_endRound (in4 9 10 11 5 rfl rfl rfl rfl (fun _ h => List.mem_cons_of_mem _ (List.mem_append_right _ (List.mem_append_right _ (List.mem_append_right _ (List.mem_append_right _ (List.mem_append_left _ h)))))))
theorem hd_X5_endRound : yX5_endRound.cls = RX5 ∧ yX5_endRound.cls ≠ "java/lang/invoke/MethodHandle" ∧ yX5_endRound.cls ≠ "java/lang/invoke/VarHandle" ∧ (parseMethodDescriptor yX5_endRound.desc).map (fun d => d.parameters.length) = some 0 := by decide +kernel
set_option maxHeartbeats 4000000 in
set_option maxRecDepth 100000 in
theorem wb_X5_endRound_34 {p : Program} (l : Launch) {e : Env} {s : State} {m : MethodId} {below : List Frame} {meth : Method} {c : Code} {Q : State → Prop} (E : EE) (K : Nat) {a_ a_row a_partners a_share a_leftOver : Nat} {c_askedCount : Int32} {c_outcome : Int32} {x1 : Int32} {c_row : Nat → Int32} (hx : p.tables.exec = Jvm.exec) (hb : c.code = cX5_endRound) (hml : c.maxLocals = 2) (hown : s.vm.findClass RX5 = some m.cls) (hts : ∀ w ∈ v_f_X5_endRound, w.before #[Value.ref a_] s = true) (hK : va_K E.1 vwCl (TY E) s) (hN : NX s) {A : Nat → Prop} (hA : ∀ q : Nat, s.heap.size ≤ q → A q) {xx : (Int32 × (Nat → Int32)) ⊕ ((Nat → Int32))} (hC : ∀ (x1 : Int32), ∀ (c_row : Nat → Int32), xx = .inl (x1, c_row) → ∀ (H : Heap) (locs : List Loc) (ls : Array Slot), va_P E.1 vwCl (w_X5_endRound E a_ a_row a_partners a_share a_leftOver c_askedCount c_outcome c_row) H → va_D A (w_X5_endRound E a_ a_row a_partners a_share a_leftOver c_askedCount c_outcome c_row) → va_S A s.heap H locs → lv_has ls 2 [(0, .ref a_), (1, .int x1)] → W p l e ({ frames := 2, cells := 0, slots := 0, locals := 45 } : Room) s m #[Value.ref a_] below meth c H locs 0 0 Q (F0 m 34 ls [])) (hE : ∀ (c_row : Nat → Int32), xx = .inr c_row → ((∀ (H : Heap) (locs : List Loc) (ls : Array Slot), va_P E.1 vwCl (w_X5_endRound E a_ a_row a_partners a_share a_leftOver c_askedCount c_outcome c_row) H → va_D A (w_X5_endRound E a_ a_row a_partners a_share a_leftOver c_askedCount c_outcome c_row) → va_S A s.heap H locs → lv_has ls 2 [] → W p l e ({ frames := 2, cells := 0, slots := 0, locals := 45 } : Room) s m #[Value.ref a_] below meth c H locs 0 0 Q (F0 m 56 ls [])))) (hF : B_X5_endRound_34  x1 c_row = some xx) : ∀ (H : Heap) (locs : List Loc) (ls : Array Slot), va_P E.1 vwCl (w_X5_endRound E a_ a_row a_partners a_share a_leftOver c_askedCount c_outcome c_row) H → va_D A (w_X5_endRound E a_ a_row a_partners a_share a_leftOver c_askedCount c_outcome c_row) → va_S A s.heap H locs → lv_has ls 2 [(0, .ref a_), (1, .int x1)] → W p l e ({ frames := 2, cells := 0, slots := 0, locals := 45 } : Room) s m #[Value.ref a_] below meth c H locs 0 0 Q (F0 m 34 ls []) := by
  unfold B_X5_endRound_34 at hF
  intro H locs ls hP hD hS hl
  have h9 := fixPD (ws' := [k_X5 a_ a_row a_partners c_askedCount c_outcome a_share a_leftOver, k_I E a_row 81 c_row]) hP hD rfl
  clear hP hD
  obtain ⟨hP, hD⟩ := h9
  refine lv_iload_n hx hb (dq_27 0 bcX5_endRound_0 (j := 34) rfl rfl) rfl (lv_at hl 1 rfl) ?_
  refine lv_aload_n hx hb (dq_42 0 bcX5_endRound_0 (j := 35) rfl rfl) rfl (lv_at hl 0 rfl) ?_
  replace hF := bd1_s hF
  obtain ⟨r_6, hc_7, hF⟩ := hF
  have hPc : va_P E.1 vwCl (w_X5_sites E a_ a_row a_partners a_share a_leftOver c_askedCount c_outcome c_row) H := hP.sub (ws' := [k_X5 a_ a_row a_partners c_askedCount c_outcome a_share a_leftOver, k_I E a_row 81 c_row]) [0, 1] rfl
  have hrc := va_recv hK hPc (ci := 6) (q0 := 0) rfl rfl
  refine pE_i (va_runV (As := []) (rest := [.int x1])  ⟨hx, hb, hml, hown, hts⟩ (f_X5_sites l E (a_ := a_) (a_row := a_row) (a_partners := a_partners) (a_share := a_share) (a_leftOver := a_leftOver) (c_askedCount := c_askedCount) (c_outcome := c_outcome) (c_row := c_row) hc_7) (cwV 0 hts g_f_X5_endRound_f_X5_sites_45 rfl rfl rfl hd_X5_sites ⟨Nat.le_of_ble_eq_true rfl, Nat.le_of_ble_eq_true rfl⟩) ⟨pP.blind, hrc, (pP.pre ⟨hK, hN⟩ hPc)⟩ rfl rfl hl.1 rfl (lv_room (Nat.le_of_ble_eq_true rfl)) (dq_182 0 bcX5_endRound_0 (j := 36) (i := 45) rfl rfl rfl) ⟨Nat.le_of_ble_eq_true rfl, Nat.le_of_ble_eq_true rfl⟩) ?_
  refine lv_icmp_ge (tgt := 56) hx hb (dq_162 0 bcX5_endRound_0 (j := 39) (i := 17) rfl rfl rfl) (by decide) (fun c_8 => ?_) (fun c_8 => ?_)
  ·
    replace hF := ip c_8 hF
    cases hF
    exact hE c_row rfl H locs ls (hP.sub [0, 1] rfl) (hD.sub [0, 1] (by decide) rfl) hS (lv_sub hl [] rfl)
  ·
    replace hF := inn c_8 hF
    refine lv_aload_n hx hb (dq_42 0 bcX5_endRound_0 (j := 42) rfl rfl) rfl (lv_at hl 0 rfl) ?_
    refine lv_iload_n hx hb (dq_27 0 bcX5_endRound_0 (j := 43) rfl rfl) rfl (lv_at hl 1 rfl) ?_
    refine lv_bipush (v := 7) hx hb (dq_16 0 bcX5_endRound_0 (j := 44) (i := 7) rfl rfl rfl) (by decide) ?_
    refine lv_iconst (v := 0) hx hb (dq_3 0 bcX5_endRound_0 (j := 46) rfl rfl) (by decide) ?_
    replace hF := bd1_s hF
    obtain ⟨w_9, hc_10, hF⟩ := hF
    obtain ⟨hPc, hDc, hFc⟩ := wcut (wc := (w_X5_put E a_ a_row a_partners a_share a_leftOver c_askedCount c_outcome c_row)) hP hD hS hA [0, 1] (by decide) rfl
    have hrc := va_recv hK hPc (ci := 6) (q0 := 0) rfl rfl
    refine cE_v (wc := (w_X5_put E a_ a_row a_partners a_share a_leftOver c_askedCount c_outcome c_row)) (wr := []) (w1 := (w_X5_put E a_ a_row a_partners a_share a_leftOver c_askedCount c_outcome w_9)) (va_runV (As := [.int x1, .int (7 : Int32), .int (0 : Int32)]) (rest := [])  ⟨hx, hb, hml, hown, hts⟩ (f_X5_put l E H.size (a_ := a_) (a_row := a_row) (a_partners := a_partners) (a_share := a_share) (a_leftOver := a_leftOver) (p1 := x1) (p2 := (7 : Int32)) (p3 := (0 : Int32)) (c_askedCount := c_askedCount) (c_outcome := c_outcome) (c_row := c_row) hc_10) (cwV 3 hts g_f_X5_endRound_f_X5_put_52 rfl rfl rfl hd_X5_put ⟨Nat.le_of_ble_eq_true rfl, Nat.le_of_ble_eq_true rfl⟩) ⟨pW.blind, hrc, (pW.pre ⟨hK, hN⟩ hPc hDc)⟩ rfl rfl hl.1 rfl (lv_room (Nat.le_of_ble_eq_true rfl)) (dq_182 0 bcX5_endRound_0 (j := 47) (i := 52) rfl rfl rfl) ⟨Nat.le_of_ble_eq_true rfl, Nat.le_of_ble_eq_true rfl⟩) hS hFc hP hD [0, 1] [] rfl rfl (by decide) (by decide) (fun H locs hP hD hS => ?_)
    have h9 := fixPD (ws' := [k_X5 a_ a_row a_partners c_askedCount c_outcome a_share a_leftOver, k_I E a_row 81 w_9]) hP hD rfl
    clear hP hD
    obtain ⟨hP, hD⟩ := h9
    refine lv_iinc (v := x1 + (1 : Int32)) (lv' := [(1, .int (x1 + (1 : Int32))), (0, .ref a_)]) hx hb (dq_132 48 bcX5_endRound_1 (j := 2) (i := 1) rfl rfl rfl) hl (k := 1) rfl (rfl) (by decide) rfl (fun ls hl => ?_)
    refine lv_goto (tgt := 34) hx hb (dq_167 48 bcX5_endRound_1 (j := 5) (i := -19) rfl rfl rfl) (by decide) ?_
    cases hF
    exact hC (x1 + (1 : Int32)) w_9 rfl H locs ls (hP.sub [0, 1] rfl) (hD.sub [0, 1] (by decide) rfl) hS (lv_sub hl [1, 0] rfl)

set_option maxHeartbeats 4000000 in
set_option maxRecDepth 100000 in
theorem lw_X5_endRound_34 {p : Program} (l : Launch) {e : Env} {s : State} {m : MethodId} {below : List Frame} {meth : Method} {c : Code} {Q : State → Prop} (E : EE) (K : Nat) {a_ a_row a_partners a_share a_leftOver : Nat} {c_askedCount : Int32} {c_outcome : Int32} (hx : p.tables.exec = Jvm.exec) (hb : c.code = cX5_endRound) (hml : c.maxLocals = 2) (hown : s.vm.findClass RX5 = some m.cls) (hts : ∀ w ∈ v_f_X5_endRound, w.before #[Value.ref a_] s = true) (hK : va_K E.1 vwCl (TY E) s) (hN : NX s) {A : Nat → Prop} (hA : ∀ q : Nat, s.heap.size ≤ q → A q) (j9 : Nat) (x1 : Int32) (c_row : Nat → Int32) (c_row' : Nat → Int32) (hL : lpF (fun u9 : Int32 × (Nat → Int32) => B_X5_endRound_34  u9.1 u9.2) j9 (x1, c_row) = some c_row') (hX : (∀ (H : Heap) (locs : List Loc) (ls : Array Slot), va_P E.1 vwCl (w_X5_endRound E a_ a_row a_partners a_share a_leftOver c_askedCount c_outcome c_row') H → va_D A (w_X5_endRound E a_ a_row a_partners a_share a_leftOver c_askedCount c_outcome c_row') → va_S A s.heap H locs → lv_has ls 2 [] → W p l e ({ frames := 2, cells := 0, slots := 0, locals := 45 } : Room) s m #[Value.ref a_] below meth c H locs 0 0 Q (F0 m 56 ls []))) : ∀ (H : Heap) (locs : List Loc) (ls : Array Slot), va_P E.1 vwCl (w_X5_endRound E a_ a_row a_partners a_share a_leftOver c_askedCount c_outcome c_row) H → va_D A (w_X5_endRound E a_ a_row a_partners a_share a_leftOver c_askedCount c_outcome c_row) → va_S A s.heap H locs → lv_has ls 2 [(0, .ref a_), (1, .int x1)] → W p l e ({ frames := 2, cells := 0, slots := 0, locals := 45 } : Room) s m #[Value.ref a_] below meth c H locs 0 0 Q (F0 m 34 ls []) := by
  exact lp_rule (P := (fun u9 : Int32 × (Nat → Int32) => ∀ (H : Heap) (locs : List Loc) (ls : Array Slot), va_P E.1 vwCl (w_X5_endRound E a_ a_row a_partners a_share a_leftOver c_askedCount c_outcome u9.2) H → va_D A (w_X5_endRound E a_ a_row a_partners a_share a_leftOver c_askedCount c_outcome u9.2) → va_S A s.heap H locs → lv_has ls 2 [(0, .ref a_), (1, .int u9.1)] → W p l e ({ frames := 2, cells := 0, slots := 0, locals := 45 } : Room) s m #[Value.ref a_] below meth c H locs 0 0 Q (F0 m 34 ls []))) (R := (fun r9 : (Nat → Int32) => (∀ (H : Heap) (locs : List Loc) (ls : Array Slot), va_P E.1 vwCl (w_X5_endRound E a_ a_row a_partners a_share a_leftOver c_askedCount c_outcome r9) H → va_D A (w_X5_endRound E a_ a_row a_partners a_share a_leftOver c_askedCount c_outcome r9) → va_S A s.heap H locs → lv_has ls 2 [] → W p l e ({ frames := 2, cells := 0, slots := 0, locals := 45 } : Room) s m #[Value.ref a_] below meth c H locs 0 0 Q (F0 m 56 ls [])))) (fun u9 xx hF hC hE => wb_X5_endRound_34 l E K (c_askedCount := c_askedCount) (c_outcome := c_outcome) (x1 := u9.1) (c_row := u9.2) hx hb hml hown hts hK hN hA (fun x1 c_row q9 => hC _ q9) (fun c_row q9 => hE _ q9) hF) j9 (x1, c_row) c_row' hL hX

set_option maxHeartbeats 4000000 in
set_option maxRecDepth 100000 in
theorem f_X5_endRound (l : Launch) (E : EE) (sz : Nat) (K : Nat) {a_ a_row a_partners a_share a_leftOver : Nat} {c_askedCount : Int32} {c_outcome : Int32} {c_row : Nat → Int32} {n_row : Nat → Int32} (hF : F_X5_endRound K c_row = some n_row) : Met l yX5_endRound v_f_X5_endRound (({ frames := 2, cells := 0, slots := 0, locals := 45 } : Room)) (va_Pc [.ref a_] (pW E sz (w_X5_endRound E a_ a_row a_partners a_share a_leftOver c_askedCount c_outcome c_row))) (va_Qv (fun (_u : Unit) => True) (fun (_u : Unit) tt => va_P E.1 vwCl (w_X5_endRound E a_ a_row a_partners a_share a_leftOver c_askedCount c_outcome n_row) tt.heap ∧ va_D (va_A (w_X5_endRound E a_ a_row a_partners a_share a_leftOver c_askedCount c_outcome c_row) sz) (w_X5_endRound E a_ a_row a_partners a_share a_leftOver c_askedCount c_outcome n_row)) (va_A (w_X5_endRound E a_ a_row a_partners a_share a_leftOver c_askedCount c_outcome c_row) sz)) 0 0 (va_A (w_X5_endRound E a_ a_row a_partners a_share a_leftOver c_askedCount c_outcome c_row) sz) := by
  refine Met.ofW (cc := cX5_endRound) (maxL := 2) (ret := none) (by decide) rfl ?_
  intro p e s m args below meth c s₁ B hml hv
  obtain ⟨rfl, hsz, ⟨hK, hN⟩, hP, hD0⟩ := hv
  have hx := B.exec
  have hb := B.bytes
  have hr := B.returns
  have hts := atoms_spec (ws := v_f_X5_endRound) B.pre
  have hown : s.vm.findClass RX5 = some m.cls := own_of hd_X5_endRound.1 (findClass_of_methodNamed B.named)
  have hlocks : meth.locks = false := B.notSynchronized
  subst hsz
  have hD := hD0.self (sz := s.heap.size)
  generalize hAe : va_A (w_X5_endRound E a_ a_row a_partners a_share a_leftOver c_askedCount c_outcome c_row) s.heap.size = A at hD ⊢
  have hA : ∀ q : Nat, s.heap.size ≤ q → A q := fun q h => by rw [← hAe]; exact Or.inr h
  have hS : va_S A s.heap s.heap [] := va_S.rf
  have hl := lv_entry ([.ref a_]) (n := 2) (Nat.le_of_ble_eq_true rfl)
  rw [lg_entry_eq]
  generalize (lg_sl ([.ref a_]) ++ List.replicate (2 - (lg_sl ([.ref a_])).length) Slot.unset).toArray = ls at hl ⊢
  have hl : lv_has ls 2 [(0, .ref a_)] := hl
  obtain ⟨Q, hQ⟩ : ∃ Q : State → Prop, Q = MQ below (va_Qv (fun (_u : Unit) => True) (fun (_u : Unit) tt => va_P E.1 vwCl (w_X5_endRound E a_ a_row a_partners a_share a_leftOver c_askedCount c_outcome n_row) tt.heap ∧ va_D A (w_X5_endRound E a_ a_row a_partners a_share a_leftOver c_askedCount c_outcome n_row)) A) #[Value.ref a_] s 0 0 A := ⟨_, rfl⟩
  rw [← hQ]
  change W p l e ({ frames := 2, cells := 0, slots := 0, locals := 45 } : Room) s m #[Value.ref a_] below meth c s.heap [] 0 0 Q (F0 m 0 ls [])
  suffices hh9 : ∀ (H : Heap) (locs : List Loc), va_P E.1 vwCl (w_X5_endRound E a_ a_row a_partners a_share a_leftOver c_askedCount c_outcome c_row) H → va_D A (w_X5_endRound E a_ a_row a_partners a_share a_leftOver c_askedCount c_outcome c_row) → va_S A s.heap H locs → W p l e ({ frames := 2, cells := 0, slots := 0, locals := 45 } : Room) s m #[Value.ref a_] below meth c H locs 0 0 Q (F0 m 0 ls []) from hh9 s.heap [] hP hD hS
  clear hP hD hS
  intro H locs hP hD hS
  have h9 := fixPD (ws' := [k_X5 a_ a_row a_partners c_askedCount c_outcome a_share a_leftOver, k_I E a_row 81 c_row]) hP hD rfl
  clear hP hD
  obtain ⟨hP, hD⟩ := h9
  unfold F_X5_endRound at hF
  refine lv_aload_n hx hb (dq_42 0 bcX5_endRound_0 (j := 0) rfl rfl) rfl (lv_at hl 0 rfl) ?_
  refine gt_X5_0 (v := .ref a_row) hx hb hts i_f_X5_endRound_X5 hown hK hP 0 rfl (hts (.fieldLink RX5 11 "HushWatch$State" "row" "[I") (List.mem_of_getElem? (i := 1) rfl)) rfl (dq_180 0 bcX5_endRound_0 (j := 1) (i := 11) rfl rfl rfl) ?_
  refine lv_bipush (v := 8) hx hb (dq_16 0 bcX5_endRound_0 (j := 4) (i := 8) rfl rfl rfl) (by decide) ?_
  refine lv_aload_n hx hb (dq_42 0 bcX5_endRound_0 (j := 6) rfl rfl) rfl (lv_at hl 0 rfl) ?_
  refine lv_bipush (v := 6) hx hb (dq_16 0 bcX5_endRound_0 (j := 7) (i := 6) rfl rfl rfl) (by decide) ?_
  replace hF := bd1_s hF
  obtain ⟨r_1, hc_2, hF⟩ := hF
  have hPc : va_P E.1 vwCl (w_X5_total E a_ a_row a_partners a_share a_leftOver c_askedCount c_outcome c_row) H := hP.sub (ws' := [k_X5 a_ a_row a_partners c_askedCount c_outcome a_share a_leftOver, k_I E a_row 81 c_row]) [0, 1] rfl
  have hrc := va_recv hK hPc (ci := 6) (q0 := 0) rfl rfl
  refine pE_i (va_runV (As := [.int (6 : Int32)]) (rest := [.int (8 : Int32), .ref a_row])  ⟨hx, hb, hml, hown, hts⟩ (f_X5_total l E K (a_ := a_) (a_row := a_row) (a_partners := a_partners) (a_share := a_share) (a_leftOver := a_leftOver) (p1 := (6 : Int32)) (c_askedCount := c_askedCount) (c_outcome := c_outcome) (c_row := c_row) hc_2) (cwV 1 hts g_f_X5_endRound_f_X5_total_188 rfl rfl rfl hd_X5_total ⟨Nat.le_of_ble_eq_true rfl, Nat.le_of_ble_eq_true rfl⟩) ⟨pP.blind, hrc, (pP.pre ⟨hK, hN⟩ hPc)⟩ rfl rfl hl.1 rfl (lv_room (Nat.le_of_ble_eq_true rfl)) (dq_182 0 bcX5_endRound_0 (j := 9) (i := 188) rfl rfl rfl) ⟨Nat.le_of_ble_eq_true rfl, Nat.le_of_ble_eq_true rfl⟩) ?_
  refine va_iast hx hb hK hP hD hS 1 0 rfl rfl (vin rfl) (dq_79 0 bcX5_endRound_0 (j := 12) rfl rfl) (fun H locs hP hD hS => ?_)
  have h9 := fixPD (ws' := [k_X5 a_ a_row a_partners c_askedCount c_outcome a_share a_leftOver, k_I E a_row 81 (upd c_row 8 r_1)]) hP hD rfl
  clear hP hD
  obtain ⟨hP, hD⟩ := h9
  replace hF := nm_s hF
  obtain ⟨f_3, hf_3, hF⟩ := hF
  rw [← hf_3] at hP hD
  refine lv_aload_n hx hb (dq_42 0 bcX5_endRound_0 (j := 13) rfl rfl) rfl (lv_at hl 0 rfl) ?_
  refine gt_X5_0 (v := .ref a_row) hx hb hts i_f_X5_endRound_X5 hown hK hP 0 rfl (hts (.fieldLink RX5 11 "HushWatch$State" "row" "[I") (List.mem_of_getElem? (i := 1) rfl)) rfl (dq_180 0 bcX5_endRound_0 (j := 14) (i := 11) rfl rfl rfl) ?_
  refine lv_bipush (v := 9) hx hb (dq_16 0 bcX5_endRound_0 (j := 17) (i := 9) rfl rfl rfl) (by decide) ?_
  refine lv_iconst (v := 0) hx hb (dq_3 0 bcX5_endRound_0 (j := 19) rfl rfl) (by decide) ?_
  refine va_iast hx hb hK hP hD hS 1 0 rfl rfl (vin rfl) (dq_79 0 bcX5_endRound_0 (j := 20) rfl rfl) (fun H locs hP hD hS => ?_)
  have h9 := fixPD (ws' := [k_X5 a_ a_row a_partners c_askedCount c_outcome a_share a_leftOver, k_I E a_row 81 (upd f_3 9 (0 : Int32))]) hP hD rfl
  clear hP hD
  obtain ⟨hP, hD⟩ := h9
  replace hF := nm_s hF
  obtain ⟨f_4, hf_4, hF⟩ := hF
  rw [← hf_4] at hP hD
  refine lv_aload_n hx hb (dq_42 0 bcX5_endRound_0 (j := 21) rfl rfl) rfl (lv_at hl 0 rfl) ?_
  refine gt_X5_0 (v := .ref a_row) hx hb hts i_f_X5_endRound_X5 hown hK hP 0 rfl (hts (.fieldLink RX5 11 "HushWatch$State" "row" "[I") (List.mem_of_getElem? (i := 1) rfl)) rfl (dq_180 0 bcX5_endRound_0 (j := 22) (i := 11) rfl rfl rfl) ?_
  refine lv_bipush (v := 10) hx hb (dq_16 0 bcX5_endRound_0 (j := 25) (i := 10) rfl rfl rfl) (by decide) ?_
  refine lv_dup2_11 hx hb (dq_92 0 bcX5_endRound_0 (j := 27) rfl rfl) rfl rfl ?_
  refine va_iald hx hb hK hP 1 0 rfl rfl (vin rfl) (dq_46 0 bcX5_endRound_0 (j := 28) rfl rfl) ?_
  refine W.eq (g2 := F0 m 29 ls [.int (f_4 10), .int (10 : Int32), .ref a_row]) rfl ?_
  refine lv_iconst (v := 1) hx hb (dq_4 0 bcX5_endRound_0 (j := 29) rfl rfl) (by decide) ?_
  refine lv_iadd hx hb (dq_96 0 bcX5_endRound_0 (j := 30) rfl rfl) ?_
  refine va_iast hx hb hK hP hD hS 1 0 rfl rfl (vin rfl) (dq_79 0 bcX5_endRound_0 (j := 31) rfl rfl) (fun H locs hP hD hS => ?_)
  have h9 := fixPD (ws' := [k_X5 a_ a_row a_partners c_askedCount c_outcome a_share a_leftOver, k_I E a_row 81 (upd f_4 10 ((f_4 10) + (1 : Int32)))]) hP hD rfl
  clear hP hD
  obtain ⟨hP, hD⟩ := h9
  replace hF := nm_s hF
  obtain ⟨f_5, hf_5, hF⟩ := hF
  rw [← hf_5] at hP hD
  refine lv_iconst (v := 0) hx hb (dq_3 0 bcX5_endRound_0 (j := 32) rfl rfl) (by decide) ?_
  refine lv_istore_n (lv' := [(1, .int (0 : Int32)), (0, .ref a_)]) hx hb (dq_60 0 bcX5_endRound_0 (j := 33) rfl rfl) rfl hl (by decide) rfl (fun ls hl => ?_)
  replace hF := bd1_s hF
  obtain ⟨c_row_11, hL_12, hF⟩ := hF
  refine lw_X5_endRound_34 l E K (c_askedCount := c_askedCount) (c_outcome := c_outcome) hx hb hml hown hts hK hN hA K (0 : Int32) f_5 c_row_11 hL_12 ?_ H locs ls (hP.sub [0, 1] rfl) (hD.sub [0, 1] (by decide) rfl) hS (lv_sub hl [1, 0] rfl)
  ·
    intro H locs ls hP hD hS hl
    have h9 := fixPD (ws' := [k_X5 a_ a_row a_partners c_askedCount c_outcome a_share a_leftOver, k_I E a_row 81 c_row_11]) hP hD rfl
    clear hP hD
    obtain ⟨hP, hD⟩ := h9
    rw [hQ]
    have h9 := fin9 (P := fun u9 : (Nat → Int32) => va_P E.1 vwCl (w_X5_endRound E a_ a_row a_partners a_share a_leftOver c_askedCount c_outcome u9) H ∧ va_D A (w_X5_endRound E a_ a_row a_partners a_share a_leftOver c_askedCount c_outcome u9)) hF ⟨hP, hD⟩
    obtain ⟨hP9, hD9⟩ := h9
    exact W.vret hx hb hr (fun tt ht hW => ⟨⟨(), rfl, trivial, ht ▸ hP9, hD9⟩, hS.F ht⟩) hS.2.2 (dq_177 48 bcX5_endRound_1 (j := 8) rfl rfl)

def B_X5_addTo_67 (p1 : Int32) (x3 : Int32) (x4 : Int32) (x5 : Int32) (c_row : Nat → Int32) : Option ((Int32 × Int32 × (Nat → Int32)) ⊕ (Nat × Int32 × (Nat → Int32))) :=
  if (8 : Int32) ≤ x5 then some (.inr (1, x4, c_row)) else bd1 (F_X5_of p1 (7 : Int32) c_row) (fun r_13 => if r_13 < x3 then some (.inr (1, x4, c_row)) else bd1 (F_X5_of p1 (7 : Int32) c_row) (fun r_16 => bd1 (F_X5_put p1 (7 : Int32) (r_16 - x3) c_row) (fun w_18 => nmF (upd w_18 9 ((w_18 9) + (1 : Int32))) (fun f_20 => if f_20 9 < f_20 3 then some (.inl (x4 + (1 : Int32), x5 + (1 : Int32), f_20)) else some (.inr (0, x4 + (1 : Int32), f_20))))))
def F_X5_addTo (K : Nat) (p1 : Int32) (p2 : Int32) (c_row : Nat → Int32) : Option (Int32 × (Nat → Int32)) :=
  bd1 (F_X5_of p1 (6 : Int32) c_row) (fun r_1 => bd1 (F_X5_put p1 (6 : Int32) (r_1 + p2) c_row) (fun w_3 => bd1 (F_X5_stepFrom (w_3 8) w_3) (fun r_5 => if r_5 = (0 : Int32) then nmF (upd w_3 8 ((w_3 8) + p2)) (fun f_28 => some ((1 : Int32), f_28)) else bd1 (F_X5_of p1 (7 : Int32) w_3) (fun r_8 => bd1 (F_X5_put p1 (7 : Int32) (r_8 + p2) w_3) (fun w_10 => bd3 (lpF (fun u9 : Int32 × Int32 × (Nat → Int32) => B_X5_addTo_67 p1 r_5 u9.1 u9.2.1 u9.2.2) K ((0 : Int32), (0 : Int32), w_10)) (fun t_22 x4_23 c_row_24 => if t_22 = 0 then bd1 (F_X5_endRound K c_row_24) (fun w_26 => some (x4_23 + ((2 : Int32) * (w_26 3)), w_26)) else if t_22 = 1 then some (x4_23, c_row_24) else none))))))
abbrev w_X5_addTo (E : EE) (a_ a_row a_partners a_share a_leftOver : Nat) (c_askedCount : Int32) (c_outcome : Int32) (c_row : Nat → Int32) : va_W := [k_X5 a_ a_row a_partners c_askedCount c_outcome a_share a_leftOver, k_I E a_row 81 c_row]
def v_f_X5_addTo : List Cond := List.cons (.code yX5_addTo cX5_addTo 6 (some .int)) (HAppend.hAppend (α := List Cond) (β := List Cond) (γ := List Cond) [.fieldLink RX5 11 "HushWatch$State" "row" "[I", .methodLink RX5 69 yX5_of, .instanceMethod yX5_of, .selects RX5 yX5_of yX5_of, .initialized RX5, .methodLink RX5 52 yX5_put, .instanceMethod yX5_put, .selects RX5 yX5_put yX5_put, .methodLink RX5 182 yX5_stepFrom, .instanceMethod yX5_stepFrom, .selects RX5 yX5_stepFrom yX5_stepFrom, .methodLink RX5 185 yX5_endRound, .instanceMethod yX5_endRound, .selects RX5 yX5_endRound yX5_endRound] (HAppend.hAppend (α := List Cond) (β := List Cond) (γ := List Cond) v_f_X5_of (HAppend.hAppend (α := List Cond) (β := List Cond) (γ := List Cond) v_f_X5_put (HAppend.hAppend (α := List Cond) (β := List Cond) (γ := List Cond) wsX50 (HAppend.hAppend (α := List Cond) (β := List Cond) (γ := List Cond) v_f_X5_stepFrom (HAppend.hAppend (α := List Cond) (β := List Cond) (γ := List Cond) v_f_X5_endRound []))))))
theorem gw_f_X5_addTo : v_f_X5_addTo.all goodWord = true := gw_c2 (by decide +kernel) (gw_ap gw_f_X5_of (gw_ap gw_f_X5_put (gw_ap gw_wsX50 (gw_ap gw_f_X5_stepFrom (gw_ap gw_f_X5_endRound gw_nil)))))
theorem i_f_X5_addTo_X5 : ∀ w ∈ wsX50, w ∈ v_f_X5_addTo := fun _ h => List.mem_cons_of_mem _ (List.mem_append_right _ (List.mem_append_right _ (List.mem_append_right _ (List.mem_append_left _ h))))
theorem g_f_X5_addTo_f_X5_of_69 : GoodIn v_f_X5_addTo (wsV RX5 69 RX5 yX5_of v_f_X5_of) := goodIn_in gw_f_X5_addTo (in4 2 3 4 5 rfl rfl rfl rfl (fun _ h => List.mem_cons_of_mem _ (List.mem_append_right _ (List.mem_append_left _ h))))
theorem g_f_X5_addTo_f_X5_put_52 : GoodIn v_f_X5_addTo (wsV RX5 52 RX5 yX5_put v_f_X5_put) := goodIn_in gw_f_X5_addTo (in4 6 7 8 5 rfl rfl rfl rfl (fun _ h => List.mem_cons_of_mem _ (List.mem_append_right _ (List.mem_append_right _ (List.mem_append_left _ h)))))
theorem g_f_X5_addTo_f_X5_stepFrom_182 : GoodIn v_f_X5_addTo (wsV RX5 182 RX5 yX5_stepFrom v_f_X5_stepFrom) := goodIn_in gw_f_X5_addTo (in4 9 10 11 5 rfl rfl rfl rfl (fun _ h => List.mem_cons_of_mem _ (List.mem_append_right _ (List.mem_append_right _ (List.mem_append_right _ (List.mem_append_right _ (List.mem_append_left _ h)))))))
theorem g_f_X5_addTo_f_X5_endRound_185 : GoodIn v_f_X5_addTo (wsV RX5 185 RX5 yX5_endRound v_f_X5_endRound) := goodIn_in gw_f_X5_addTo (in4 12 13 14 5 rfl rfl rfl rfl (fun _ h => List.mem_cons_of_mem _ (List.mem_append_right _ (List.mem_append_right _ (List.mem_append_right _ (List.mem_append_right _ (List.mem_append_right _ (List.mem_append_left _ h))))))))
theorem hd_X5_addTo : yX5_addTo.cls = RX5 ∧ yX5_addTo.cls ≠ "java/lang/invoke/MethodHandle" ∧ yX5_addTo.cls ≠ "java/lang/invoke/VarHandle" ∧ (parseMethodDescriptor yX5_addTo.desc).map (fun d => d.parameters.length) = some 2 := by decide +kernel
set_option maxHeartbeats 4000000 in
set_option maxRecDepth 100000 in
theorem wb_X5_addTo_67 {p : Program} (l : Launch) {e : Env} {s : State} {m : MethodId} {below : List Frame} {meth : Method} {c : Code} {Q : State → Prop} (E : EE) (K : Nat) {a_ a_row a_partners a_share a_leftOver : Nat} {p1 : Int32} {p2 : Int32} {c_askedCount : Int32} {c_outcome : Int32} {x3 : Int32} {x4 : Int32} {x5 : Int32} {c_row : Nat → Int32} (hx : p.tables.exec = Jvm.exec) (hb : c.code = cX5_addTo) (hml : c.maxLocals = 6) (hown : s.vm.findClass RX5 = some m.cls) (hts : ∀ w ∈ v_f_X5_addTo, w.before #[Value.ref a_, Value.int p1, Value.int p2] s = true) (hK : va_K E.1 vwCl (TY E) s) (hN : NX s) {A : Nat → Prop} (hA : ∀ q : Nat, s.heap.size ≤ q → A q) {xx : (Int32 × Int32 × (Nat → Int32)) ⊕ (Nat × Int32 × (Nat → Int32))} (hC : ∀ (x4 : Int32), ∀ (x5 : Int32), ∀ (c_row : Nat → Int32), xx = .inl (x4, x5, c_row) → ∀ (H : Heap) (locs : List Loc) (ls : Array Slot), va_P E.1 vwCl (w_X5_addTo E a_ a_row a_partners a_share a_leftOver c_askedCount c_outcome c_row) H → va_D A (w_X5_addTo E a_ a_row a_partners a_share a_leftOver c_askedCount c_outcome c_row) → va_S A s.heap H locs → lv_has ls 6 [(0, .ref a_), (1, .int p1), (3, .int x3), (4, .int x4), (5, .int x5)] → W p l e ({ frames := 3, cells := 0, slots := 0, locals := 66 } : Room) s m #[Value.ref a_, Value.int p1, Value.int p2] below meth c H locs 0 0 Q (F0 m 67 ls [])) (hE : ∀ (t9 : Nat), ∀ (x4 : Int32), ∀ (c_row : Nat → Int32), xx = .inr (t9, x4, c_row) → ((t9 = 0 → ∀ (H : Heap) (locs : List Loc) (ls : Array Slot), va_P E.1 vwCl (w_X5_addTo E a_ a_row a_partners a_share a_leftOver c_askedCount c_outcome c_row) H → va_D A (w_X5_addTo E a_ a_row a_partners a_share a_leftOver c_askedCount c_outcome c_row) → va_S A s.heap H locs → lv_has ls 6 [(0, .ref a_), (4, .int x4)] → W p l e ({ frames := 3, cells := 0, slots := 0, locals := 66 } : Room) s m #[Value.ref a_, Value.int p1, Value.int p2] below meth c H locs 0 0 Q (F0 m 131 ls [])) ∧ (t9 = 1 → ∀ (H : Heap) (locs : List Loc) (ls : Array Slot), va_P E.1 vwCl (w_X5_addTo E a_ a_row a_partners a_share a_leftOver c_askedCount c_outcome c_row) H → va_D A (w_X5_addTo E a_ a_row a_partners a_share a_leftOver c_askedCount c_outcome c_row) → va_S A s.heap H locs → lv_has ls 6 [(4, .int x4)] → W p l e ({ frames := 3, cells := 0, slots := 0, locals := 66 } : Room) s m #[Value.ref a_, Value.int p1, Value.int p2] below meth c H locs 0 0 Q (F0 m 153 ls [])))) (hF : B_X5_addTo_67 p1 x3 x4 x5 c_row = some xx) : ∀ (H : Heap) (locs : List Loc) (ls : Array Slot), va_P E.1 vwCl (w_X5_addTo E a_ a_row a_partners a_share a_leftOver c_askedCount c_outcome c_row) H → va_D A (w_X5_addTo E a_ a_row a_partners a_share a_leftOver c_askedCount c_outcome c_row) → va_S A s.heap H locs → lv_has ls 6 [(0, .ref a_), (1, .int p1), (3, .int x3), (4, .int x4), (5, .int x5)] → W p l e ({ frames := 3, cells := 0, slots := 0, locals := 66 } : Room) s m #[Value.ref a_, Value.int p1, Value.int p2] below meth c H locs 0 0 Q (F0 m 67 ls []) := by
  unfold B_X5_addTo_67 at hF
  intro H locs ls hP hD hS hl
  have h9 := fixPD (ws' := [k_X5 a_ a_row a_partners c_askedCount c_outcome a_share a_leftOver, k_I E a_row 81 c_row]) hP hD rfl
  clear hP hD
  obtain ⟨hP, hD⟩ := h9
  refine lv_iload hx hb (dq_21 48 bcX5_addTo_1 (j := 19) (i := 5) rfl rfl) (lv_at hl 4 rfl) ?_
  refine lv_bipush (v := 8) hx hb (dq_16 48 bcX5_addTo_1 (j := 21) (i := 8) rfl rfl rfl) (by decide) ?_
  refine lv_icmp_ge (tgt := 153) hx hb (dq_162 48 bcX5_addTo_1 (j := 23) (i := 82) rfl rfl rfl) (by decide) (fun c_12 => ?_) (fun c_12 => ?_)
  ·
    replace hF := ip c_12 hF
    cases hF
    exact (hE 1 x4 c_row rfl).2 rfl H locs ls (hP.sub [0, 1] rfl) (hD.sub [0, 1] (by decide) rfl) hS (lv_sub hl [3] rfl)
  ·
    replace hF := inn c_12 hF
    refine lv_aload_n hx hb (dq_42 48 bcX5_addTo_1 (j := 26) rfl rfl) rfl (lv_at hl 0 rfl) ?_
    refine lv_iload_n hx hb (dq_27 48 bcX5_addTo_1 (j := 27) rfl rfl) rfl (lv_at hl 1 rfl) ?_
    refine lv_bipush (v := 7) hx hb (dq_16 48 bcX5_addTo_1 (j := 28) (i := 7) rfl rfl rfl) (by decide) ?_
    replace hF := bd1_s hF
    obtain ⟨r_13, hc_14, hF⟩ := hF
    have hPc : va_P E.1 vwCl (w_X5_of E a_ a_row a_partners a_share a_leftOver c_askedCount c_outcome c_row) H := hP.sub (ws' := [k_X5 a_ a_row a_partners c_askedCount c_outcome a_share a_leftOver, k_I E a_row 81 c_row]) [0, 1] rfl
    have hrc := va_recv hK hPc (ci := 6) (q0 := 0) rfl rfl
    refine pE_i (va_runV (As := [.int p1, .int (7 : Int32)]) (rest := [])  ⟨hx, hb, hml, hown, hts⟩ (f_X5_of l E (a_ := a_) (a_row := a_row) (a_partners := a_partners) (a_share := a_share) (a_leftOver := a_leftOver) (p1 := p1) (p2 := (7 : Int32)) (c_askedCount := c_askedCount) (c_outcome := c_outcome) (c_row := c_row) hc_14) (cwV 2 hts g_f_X5_addTo_f_X5_of_69 rfl rfl rfl hd_X5_of ⟨Nat.le_of_ble_eq_true rfl, Nat.le_of_ble_eq_true rfl⟩) ⟨pP.blind, hrc, (pP.pre ⟨hK, hN⟩ hPc)⟩ rfl rfl hl.1 rfl (lv_room (Nat.le_of_ble_eq_true rfl)) (dq_182 48 bcX5_addTo_1 (j := 30) (i := 69) rfl rfl rfl) ⟨Nat.le_of_ble_eq_true rfl, Nat.le_of_ble_eq_true rfl⟩) ?_
    refine lv_iload_n hx hb (dq_29 48 bcX5_addTo_1 (j := 33) rfl rfl) rfl (lv_at hl 2 rfl) ?_
    refine lv_icmp_lt (tgt := 153) hx hb (dq_161 48 bcX5_addTo_1 (j := 34) (i := 71) rfl rfl rfl) (by decide) (fun c_15 => ?_) (fun c_15 => ?_)
    ·
      replace hF := ip c_15 hF
      cases hF
      exact (hE 1 x4 c_row rfl).2 rfl H locs ls (hP.sub [0, 1] rfl) (hD.sub [0, 1] (by decide) rfl) hS (lv_sub hl [3] rfl)
    ·
      replace hF := inn c_15 hF
      refine lv_aload_n hx hb (dq_42 48 bcX5_addTo_1 (j := 37) rfl rfl) rfl (lv_at hl 0 rfl) ?_
      refine lv_iload_n hx hb (dq_27 48 bcX5_addTo_1 (j := 38) rfl rfl) rfl (lv_at hl 1 rfl) ?_
      refine lv_bipush (v := 7) hx hb (dq_16 48 bcX5_addTo_1 (j := 39) (i := 7) rfl rfl rfl) (by decide) ?_
      refine lv_aload_n hx hb (dq_42 48 bcX5_addTo_1 (j := 41) rfl rfl) rfl (lv_at hl 0 rfl) ?_
      refine lv_iload_n hx hb (dq_27 48 bcX5_addTo_1 (j := 42) rfl rfl) rfl (lv_at hl 1 rfl) ?_
      refine lv_bipush (v := 7) hx hb (dq_16 48 bcX5_addTo_1 (j := 43) (i := 7) rfl rfl rfl) (by decide) ?_
      replace hF := bd1_s hF
      obtain ⟨r_16, hc_17, hF⟩ := hF
      have hPc : va_P E.1 vwCl (w_X5_of E a_ a_row a_partners a_share a_leftOver c_askedCount c_outcome c_row) H := hP.sub (ws' := [k_X5 a_ a_row a_partners c_askedCount c_outcome a_share a_leftOver, k_I E a_row 81 c_row]) [0, 1] rfl
      have hrc := va_recv hK hPc (ci := 6) (q0 := 0) rfl rfl
      refine pE_i (va_runV (As := [.int p1, .int (7 : Int32)]) (rest := [.int (7 : Int32), .int p1, .ref a_])  ⟨hx, hb, hml, hown, hts⟩ (f_X5_of l E (a_ := a_) (a_row := a_row) (a_partners := a_partners) (a_share := a_share) (a_leftOver := a_leftOver) (p1 := p1) (p2 := (7 : Int32)) (c_askedCount := c_askedCount) (c_outcome := c_outcome) (c_row := c_row) hc_17) (cwV 2 hts g_f_X5_addTo_f_X5_of_69 rfl rfl rfl hd_X5_of ⟨Nat.le_of_ble_eq_true rfl, Nat.le_of_ble_eq_true rfl⟩) ⟨pP.blind, hrc, (pP.pre ⟨hK, hN⟩ hPc)⟩ rfl rfl hl.1 rfl (lv_room (Nat.le_of_ble_eq_true rfl)) (dq_182 48 bcX5_addTo_1 (j := 45) (i := 69) rfl rfl rfl) ⟨Nat.le_of_ble_eq_true rfl, Nat.le_of_ble_eq_true rfl⟩) ?_
      refine lv_iload_n hx hb (dq_29 96 bcX5_addTo_2 (j := 0) rfl rfl) rfl (lv_at hl 2 rfl) ?_
      refine lv_isub hx hb (dq_100 96 bcX5_addTo_2 (j := 1) rfl rfl) ?_
      replace hF := bd1_s hF
      obtain ⟨w_18, hc_19, hF⟩ := hF
      obtain ⟨hPc, hDc, hFc⟩ := wcut (wc := (w_X5_put E a_ a_row a_partners a_share a_leftOver c_askedCount c_outcome c_row)) hP hD hS hA [0, 1] (by decide) rfl
      have hrc := va_recv hK hPc (ci := 6) (q0 := 0) rfl rfl
      refine cE_v (wc := (w_X5_put E a_ a_row a_partners a_share a_leftOver c_askedCount c_outcome c_row)) (wr := []) (w1 := (w_X5_put E a_ a_row a_partners a_share a_leftOver c_askedCount c_outcome w_18)) (va_runV (As := [.int p1, .int (7 : Int32), .int (r_16 - x3)]) (rest := [])  ⟨hx, hb, hml, hown, hts⟩ (f_X5_put l E H.size (a_ := a_) (a_row := a_row) (a_partners := a_partners) (a_share := a_share) (a_leftOver := a_leftOver) (p1 := p1) (p2 := (7 : Int32)) (p3 := r_16 - x3) (c_askedCount := c_askedCount) (c_outcome := c_outcome) (c_row := c_row) hc_19) (cwV 3 hts g_f_X5_addTo_f_X5_put_52 rfl rfl rfl hd_X5_put ⟨Nat.le_of_ble_eq_true rfl, Nat.le_of_ble_eq_true rfl⟩) ⟨pW.blind, hrc, (pW.pre ⟨hK, hN⟩ hPc hDc)⟩ rfl rfl hl.1 rfl (lv_room (Nat.le_of_ble_eq_true rfl)) (dq_182 96 bcX5_addTo_2 (j := 2) (i := 52) rfl rfl rfl) ⟨Nat.le_of_ble_eq_true rfl, Nat.le_of_ble_eq_true rfl⟩) hS hFc hP hD [0, 1] [] rfl rfl (by decide) (by decide) (fun H locs hP hD hS => ?_)
      have h9 := fixPD (ws' := [k_X5 a_ a_row a_partners c_askedCount c_outcome a_share a_leftOver, k_I E a_row 81 w_18]) hP hD rfl
      clear hP hD
      obtain ⟨hP, hD⟩ := h9
      refine lv_aload_n hx hb (dq_42 96 bcX5_addTo_2 (j := 5) rfl rfl) rfl (lv_at hl 0 rfl) ?_
      refine gt_X5_0 (v := .ref a_row) hx hb hts i_f_X5_addTo_X5 hown hK hP 0 rfl (hts (.fieldLink RX5 11 "HushWatch$State" "row" "[I") (List.mem_of_getElem? (i := 1) rfl)) rfl (dq_180 96 bcX5_addTo_2 (j := 6) (i := 11) rfl rfl rfl) ?_
      refine lv_bipush (v := 9) hx hb (dq_16 96 bcX5_addTo_2 (j := 9) (i := 9) rfl rfl rfl) (by decide) ?_
      refine lv_dup2_11 hx hb (dq_92 96 bcX5_addTo_2 (j := 11) rfl rfl) rfl rfl ?_
      refine va_iald hx hb hK hP 1 0 rfl rfl (vin rfl) (dq_46 96 bcX5_addTo_2 (j := 12) rfl rfl) ?_
      refine W.eq (g2 := F0 m 109 ls [.int (w_18 9), .int (9 : Int32), .ref a_row]) rfl ?_
      refine lv_iconst (v := 1) hx hb (dq_4 96 bcX5_addTo_2 (j := 13) rfl rfl) (by decide) ?_
      refine lv_iadd hx hb (dq_96 96 bcX5_addTo_2 (j := 14) rfl rfl) ?_
      refine va_iast hx hb hK hP hD hS 1 0 rfl rfl (vin rfl) (dq_79 96 bcX5_addTo_2 (j := 15) rfl rfl) (fun H locs hP hD hS => ?_)
      have h9 := fixPD (ws' := [k_X5 a_ a_row a_partners c_askedCount c_outcome a_share a_leftOver, k_I E a_row 81 (upd w_18 9 ((w_18 9) + (1 : Int32)))]) hP hD rfl
      clear hP hD
      obtain ⟨hP, hD⟩ := h9
      replace hF := nm_s hF
      obtain ⟨f_20, hf_20, hF⟩ := hF
      rw [← hf_20] at hP hD
      refine lv_iinc (v := x4 + (1 : Int32)) (lv' := [(4, .int (x4 + (1 : Int32))), (0, .ref a_), (1, .int p1), (3, .int x3), (5, .int x5)]) hx hb (dq_132 96 bcX5_addTo_2 (j := 16) (i := 1) rfl rfl rfl) hl (k := 3) rfl (rfl) (by decide) rfl (fun ls hl => ?_)
      refine lv_aload_n hx hb (dq_42 96 bcX5_addTo_2 (j := 19) rfl rfl) rfl (lv_at hl 1 rfl) ?_
      refine gt_X5_0 (v := .ref a_row) hx hb hts i_f_X5_addTo_X5 hown hK hP 0 rfl (hts (.fieldLink RX5 11 "HushWatch$State" "row" "[I") (List.mem_of_getElem? (i := 1) rfl)) rfl (dq_180 96 bcX5_addTo_2 (j := 20) (i := 11) rfl rfl rfl) ?_
      refine lv_bipush (v := 9) hx hb (dq_16 96 bcX5_addTo_2 (j := 23) (i := 9) rfl rfl rfl) (by decide) ?_
      refine va_iald hx hb hK hP 1 0 rfl rfl (vin rfl) (dq_46 96 bcX5_addTo_2 (j := 25) rfl rfl) ?_
      refine W.eq (g2 := F0 m 122 ls [.int (f_20 9)]) rfl ?_
      refine lv_aload_n hx hb (dq_42 96 bcX5_addTo_2 (j := 26) rfl rfl) rfl (lv_at hl 1 rfl) ?_
      refine gt_X5_0 (v := .ref a_row) hx hb hts i_f_X5_addTo_X5 hown hK hP 0 rfl (hts (.fieldLink RX5 11 "HushWatch$State" "row" "[I") (List.mem_of_getElem? (i := 1) rfl)) rfl (dq_180 96 bcX5_addTo_2 (j := 27) (i := 11) rfl rfl rfl) ?_
      refine lv_iconst (v := 3) hx hb (dq_6 96 bcX5_addTo_2 (j := 30) rfl rfl) (by decide) ?_
      refine va_iald hx hb hK hP 1 0 rfl rfl (vin rfl) (dq_46 96 bcX5_addTo_2 (j := 31) rfl rfl) ?_
      refine W.eq (g2 := F0 m 128 ls [.int (f_20 3), .int (f_20 9)]) rfl ?_
      refine lv_icmp_lt (tgt := 147) hx hb (dq_161 96 bcX5_addTo_2 (j := 32) (i := 19) rfl rfl rfl) (by decide) (fun c_21 => ?_) (fun c_21 => ?_)
      ·
        replace hF := ip c_21 hF
        refine lv_iinc (v := x5 + (1 : Int32)) (lv' := [(5, .int (x5 + (1 : Int32))), (4, .int (x4 + (1 : Int32))), (0, .ref a_), (1, .int p1), (3, .int x3)]) hx hb (dq_132 144 bcX5_addTo_3 (j := 3) (i := 1) rfl rfl rfl) hl (k := 4) rfl (rfl) (by decide) rfl (fun ls hl => ?_)
        refine lv_goto (tgt := 67) hx hb (dq_167 144 bcX5_addTo_3 (j := 6) (i := -83) rfl rfl rfl) (by decide) ?_
        cases hF
        exact hC (x4 + (1 : Int32)) (x5 + (1 : Int32)) f_20 rfl H locs ls (hP.sub [0, 1] rfl) (hD.sub [0, 1] (by decide) rfl) hS (lv_sub hl [2, 3, 4, 1, 0] rfl)
      ·
        replace hF := inn c_21 hF
        cases hF
        exact (hE 0 (x4 + (1 : Int32)) f_20 rfl).1 rfl H locs ls (hP.sub [0, 1] rfl) (hD.sub [0, 1] (by decide) rfl) hS (lv_sub hl [1, 0] rfl)

set_option maxHeartbeats 4000000 in
set_option maxRecDepth 100000 in
theorem lw_X5_addTo_67 {p : Program} (l : Launch) {e : Env} {s : State} {m : MethodId} {below : List Frame} {meth : Method} {c : Code} {Q : State → Prop} (E : EE) (K : Nat) {a_ a_row a_partners a_share a_leftOver : Nat} {p1 : Int32} {p2 : Int32} {c_askedCount : Int32} {c_outcome : Int32} {x3 : Int32} (hx : p.tables.exec = Jvm.exec) (hb : c.code = cX5_addTo) (hml : c.maxLocals = 6) (hown : s.vm.findClass RX5 = some m.cls) (hts : ∀ w ∈ v_f_X5_addTo, w.before #[Value.ref a_, Value.int p1, Value.int p2] s = true) (hK : va_K E.1 vwCl (TY E) s) (hN : NX s) {A : Nat → Prop} (hA : ∀ q : Nat, s.heap.size ≤ q → A q) (j9 : Nat) (x4 : Int32) (x5 : Int32) (c_row : Nat → Int32) (t9' : Nat) (x4' : Int32) (c_row' : Nat → Int32) (hL : lpF (fun u9 : Int32 × Int32 × (Nat → Int32) => B_X5_addTo_67 p1 x3 u9.1 u9.2.1 u9.2.2) j9 (x4, x5, c_row) = some (t9', x4', c_row')) (hX : (t9' = 0 → ∀ (H : Heap) (locs : List Loc) (ls : Array Slot), va_P E.1 vwCl (w_X5_addTo E a_ a_row a_partners a_share a_leftOver c_askedCount c_outcome c_row') H → va_D A (w_X5_addTo E a_ a_row a_partners a_share a_leftOver c_askedCount c_outcome c_row') → va_S A s.heap H locs → lv_has ls 6 [(0, .ref a_), (4, .int x4')] → W p l e ({ frames := 3, cells := 0, slots := 0, locals := 66 } : Room) s m #[Value.ref a_, Value.int p1, Value.int p2] below meth c H locs 0 0 Q (F0 m 131 ls [])) ∧ (t9' = 1 → ∀ (H : Heap) (locs : List Loc) (ls : Array Slot), va_P E.1 vwCl (w_X5_addTo E a_ a_row a_partners a_share a_leftOver c_askedCount c_outcome c_row') H → va_D A (w_X5_addTo E a_ a_row a_partners a_share a_leftOver c_askedCount c_outcome c_row') → va_S A s.heap H locs → lv_has ls 6 [(4, .int x4')] → W p l e ({ frames := 3, cells := 0, slots := 0, locals := 66 } : Room) s m #[Value.ref a_, Value.int p1, Value.int p2] below meth c H locs 0 0 Q (F0 m 153 ls []))) : ∀ (H : Heap) (locs : List Loc) (ls : Array Slot), va_P E.1 vwCl (w_X5_addTo E a_ a_row a_partners a_share a_leftOver c_askedCount c_outcome c_row) H → va_D A (w_X5_addTo E a_ a_row a_partners a_share a_leftOver c_askedCount c_outcome c_row) → va_S A s.heap H locs → lv_has ls 6 [(0, .ref a_), (1, .int p1), (3, .int x3), (4, .int x4), (5, .int x5)] → W p l e ({ frames := 3, cells := 0, slots := 0, locals := 66 } : Room) s m #[Value.ref a_, Value.int p1, Value.int p2] below meth c H locs 0 0 Q (F0 m 67 ls []) := by
  exact lp_rule (P := (fun u9 : Int32 × Int32 × (Nat → Int32) => ∀ (H : Heap) (locs : List Loc) (ls : Array Slot), va_P E.1 vwCl (w_X5_addTo E a_ a_row a_partners a_share a_leftOver c_askedCount c_outcome u9.2.2) H → va_D A (w_X5_addTo E a_ a_row a_partners a_share a_leftOver c_askedCount c_outcome u9.2.2) → va_S A s.heap H locs → lv_has ls 6 [(0, .ref a_), (1, .int p1), (3, .int x3), (4, .int u9.1), (5, .int u9.2.1)] → W p l e ({ frames := 3, cells := 0, slots := 0, locals := 66 } : Room) s m #[Value.ref a_, Value.int p1, Value.int p2] below meth c H locs 0 0 Q (F0 m 67 ls []))) (R := (fun r9 : Nat × Int32 × (Nat → Int32) => (r9.1 = 0 → ∀ (H : Heap) (locs : List Loc) (ls : Array Slot), va_P E.1 vwCl (w_X5_addTo E a_ a_row a_partners a_share a_leftOver c_askedCount c_outcome r9.2.2) H → va_D A (w_X5_addTo E a_ a_row a_partners a_share a_leftOver c_askedCount c_outcome r9.2.2) → va_S A s.heap H locs → lv_has ls 6 [(0, .ref a_), (4, .int r9.2.1)] → W p l e ({ frames := 3, cells := 0, slots := 0, locals := 66 } : Room) s m #[Value.ref a_, Value.int p1, Value.int p2] below meth c H locs 0 0 Q (F0 m 131 ls [])) ∧ (r9.1 = 1 → ∀ (H : Heap) (locs : List Loc) (ls : Array Slot), va_P E.1 vwCl (w_X5_addTo E a_ a_row a_partners a_share a_leftOver c_askedCount c_outcome r9.2.2) H → va_D A (w_X5_addTo E a_ a_row a_partners a_share a_leftOver c_askedCount c_outcome r9.2.2) → va_S A s.heap H locs → lv_has ls 6 [(4, .int r9.2.1)] → W p l e ({ frames := 3, cells := 0, slots := 0, locals := 66 } : Room) s m #[Value.ref a_, Value.int p1, Value.int p2] below meth c H locs 0 0 Q (F0 m 153 ls [])))) (fun u9 xx hF hC hE => wb_X5_addTo_67 l E K (p1 := p1) (p2 := p2) (c_askedCount := c_askedCount) (c_outcome := c_outcome) (x3 := x3) (x4 := u9.1) (x5 := u9.2.1) (c_row := u9.2.2) hx hb hml hown hts hK hN hA (fun x4 x5 c_row q9 => hC _ q9) (fun t9 x4 c_row q9 => hE _ q9) hF) j9 (x4, x5, c_row) (t9', x4', c_row') hL hX

set_option maxHeartbeats 4000000 in
set_option maxRecDepth 100000 in
theorem f_X5_addTo (l : Launch) (E : EE) (sz : Nat) (K : Nat) {a_ a_row a_partners a_share a_leftOver : Nat} {p1 : Int32} {p2 : Int32} {c_askedCount : Int32} {c_outcome : Int32} {c_row : Nat → Int32} {rr : Int32} {n_row : Nat → Int32} (hF : F_X5_addTo K p1 p2 c_row = some (rr, n_row)) : Met l yX5_addTo v_f_X5_addTo (({ frames := 3, cells := 0, slots := 0, locals := 66 } : Room)) (va_Pc [.ref a_, .int p1, .int p2] (pW E sz (w_X5_addTo E a_ a_row a_partners a_share a_leftOver c_askedCount c_outcome c_row))) (va_Qi (fun (q : Int32) (_u : Unit) => q = rr) (fun (_u : Unit) tt => va_P E.1 vwCl (w_X5_addTo E a_ a_row a_partners a_share a_leftOver c_askedCount c_outcome n_row) tt.heap ∧ va_D (va_A (w_X5_addTo E a_ a_row a_partners a_share a_leftOver c_askedCount c_outcome c_row) sz) (w_X5_addTo E a_ a_row a_partners a_share a_leftOver c_askedCount c_outcome n_row)) (va_A (w_X5_addTo E a_ a_row a_partners a_share a_leftOver c_askedCount c_outcome c_row) sz)) 0 0 (va_A (w_X5_addTo E a_ a_row a_partners a_share a_leftOver c_askedCount c_outcome c_row) sz) := by
  refine Met.ofW (cc := cX5_addTo) (maxL := 6) (ret := (some .int)) (by decide) rfl ?_
  intro p e s m args below meth c s₁ B hml hv
  obtain ⟨rfl, hsz, ⟨hK, hN⟩, hP, hD0⟩ := hv
  have hx := B.exec
  have hb := B.bytes
  have hr := B.returns
  have hts := atoms_spec (ws := v_f_X5_addTo) B.pre
  have hown : s.vm.findClass RX5 = some m.cls := own_of hd_X5_addTo.1 (findClass_of_methodNamed B.named)
  have hlocks : meth.locks = false := B.notSynchronized
  subst hsz
  have hD := hD0.self (sz := s.heap.size)
  generalize hAe : va_A (w_X5_addTo E a_ a_row a_partners a_share a_leftOver c_askedCount c_outcome c_row) s.heap.size = A at hD ⊢
  have hA : ∀ q : Nat, s.heap.size ≤ q → A q := fun q h => by rw [← hAe]; exact Or.inr h
  have hS : va_S A s.heap s.heap [] := va_S.rf
  have hl := lv_entry ([.ref a_, .int p1, .int p2]) (n := 6) (Nat.le_of_ble_eq_true rfl)
  rw [lg_entry_eq]
  generalize (lg_sl ([.ref a_, .int p1, .int p2]) ++ List.replicate (6 - (lg_sl ([.ref a_, .int p1, .int p2])).length) Slot.unset).toArray = ls at hl ⊢
  have hl : lv_has ls 6 [(0, .ref a_), (1, .int p1), (2, .int p2)] := hl
  obtain ⟨Q, hQ⟩ : ∃ Q : State → Prop, Q = MQ below (va_Qi (fun (q : Int32) (_u : Unit) => q = rr) (fun (_u : Unit) tt => va_P E.1 vwCl (w_X5_addTo E a_ a_row a_partners a_share a_leftOver c_askedCount c_outcome n_row) tt.heap ∧ va_D A (w_X5_addTo E a_ a_row a_partners a_share a_leftOver c_askedCount c_outcome n_row)) A) #[Value.ref a_, Value.int p1, Value.int p2] s 0 0 A := ⟨_, rfl⟩
  rw [← hQ]
  change W p l e ({ frames := 3, cells := 0, slots := 0, locals := 66 } : Room) s m #[Value.ref a_, Value.int p1, Value.int p2] below meth c s.heap [] 0 0 Q (F0 m 0 ls [])
  suffices hh9 : ∀ (H : Heap) (locs : List Loc), va_P E.1 vwCl (w_X5_addTo E a_ a_row a_partners a_share a_leftOver c_askedCount c_outcome c_row) H → va_D A (w_X5_addTo E a_ a_row a_partners a_share a_leftOver c_askedCount c_outcome c_row) → va_S A s.heap H locs → W p l e ({ frames := 3, cells := 0, slots := 0, locals := 66 } : Room) s m #[Value.ref a_, Value.int p1, Value.int p2] below meth c H locs 0 0 Q (F0 m 0 ls []) from hh9 s.heap [] hP hD hS
  clear hP hD hS
  intro H locs hP hD hS
  have h9 := fixPD (ws' := [k_X5 a_ a_row a_partners c_askedCount c_outcome a_share a_leftOver, k_I E a_row 81 c_row]) hP hD rfl
  clear hP hD
  obtain ⟨hP, hD⟩ := h9
  unfold F_X5_addTo at hF
  refine lv_aload_n hx hb (dq_42 0 bcX5_addTo_0 (j := 0) rfl rfl) rfl (lv_at hl 0 rfl) ?_
  refine lv_iload_n hx hb (dq_27 0 bcX5_addTo_0 (j := 1) rfl rfl) rfl (lv_at hl 1 rfl) ?_
  refine lv_bipush (v := 6) hx hb (dq_16 0 bcX5_addTo_0 (j := 2) (i := 6) rfl rfl rfl) (by decide) ?_
  refine lv_aload_n hx hb (dq_42 0 bcX5_addTo_0 (j := 4) rfl rfl) rfl (lv_at hl 0 rfl) ?_
  refine lv_iload_n hx hb (dq_27 0 bcX5_addTo_0 (j := 5) rfl rfl) rfl (lv_at hl 1 rfl) ?_
  refine lv_bipush (v := 6) hx hb (dq_16 0 bcX5_addTo_0 (j := 6) (i := 6) rfl rfl rfl) (by decide) ?_
  replace hF := bd1_s hF
  obtain ⟨r_1, hc_2, hF⟩ := hF
  have hPc : va_P E.1 vwCl (w_X5_of E a_ a_row a_partners a_share a_leftOver c_askedCount c_outcome c_row) H := hP.sub (ws' := [k_X5 a_ a_row a_partners c_askedCount c_outcome a_share a_leftOver, k_I E a_row 81 c_row]) [0, 1] rfl
  have hrc := va_recv hK hPc (ci := 6) (q0 := 0) rfl rfl
  refine pE_i (va_runV (As := [.int p1, .int (6 : Int32)]) (rest := [.int (6 : Int32), .int p1, .ref a_])  ⟨hx, hb, hml, hown, hts⟩ (f_X5_of l E (a_ := a_) (a_row := a_row) (a_partners := a_partners) (a_share := a_share) (a_leftOver := a_leftOver) (p1 := p1) (p2 := (6 : Int32)) (c_askedCount := c_askedCount) (c_outcome := c_outcome) (c_row := c_row) hc_2) (cwV 2 hts g_f_X5_addTo_f_X5_of_69 rfl rfl rfl hd_X5_of ⟨Nat.le_of_ble_eq_true rfl, Nat.le_of_ble_eq_true rfl⟩) ⟨pP.blind, hrc, (pP.pre ⟨hK, hN⟩ hPc)⟩ rfl rfl hl.1 rfl (lv_room (Nat.le_of_ble_eq_true rfl)) (dq_182 0 bcX5_addTo_0 (j := 8) (i := 69) rfl rfl rfl) ⟨Nat.le_of_ble_eq_true rfl, Nat.le_of_ble_eq_true rfl⟩) ?_
  refine lv_iload_n hx hb (dq_28 0 bcX5_addTo_0 (j := 11) rfl rfl) rfl (lv_at hl 2 rfl) ?_
  refine lv_iadd hx hb (dq_96 0 bcX5_addTo_0 (j := 12) rfl rfl) ?_
  replace hF := bd1_s hF
  obtain ⟨w_3, hc_4, hF⟩ := hF
  obtain ⟨hPc, hDc, hFc⟩ := wcut (wc := (w_X5_put E a_ a_row a_partners a_share a_leftOver c_askedCount c_outcome c_row)) hP hD hS hA [0, 1] (by decide) rfl
  have hrc := va_recv hK hPc (ci := 6) (q0 := 0) rfl rfl
  refine cE_v (wc := (w_X5_put E a_ a_row a_partners a_share a_leftOver c_askedCount c_outcome c_row)) (wr := []) (w1 := (w_X5_put E a_ a_row a_partners a_share a_leftOver c_askedCount c_outcome w_3)) (va_runV (As := [.int p1, .int (6 : Int32), .int (r_1 + p2)]) (rest := [])  ⟨hx, hb, hml, hown, hts⟩ (f_X5_put l E H.size (a_ := a_) (a_row := a_row) (a_partners := a_partners) (a_share := a_share) (a_leftOver := a_leftOver) (p1 := p1) (p2 := (6 : Int32)) (p3 := r_1 + p2) (c_askedCount := c_askedCount) (c_outcome := c_outcome) (c_row := c_row) hc_4) (cwV 3 hts g_f_X5_addTo_f_X5_put_52 rfl rfl rfl hd_X5_put ⟨Nat.le_of_ble_eq_true rfl, Nat.le_of_ble_eq_true rfl⟩) ⟨pW.blind, hrc, (pW.pre ⟨hK, hN⟩ hPc hDc)⟩ rfl rfl hl.1 rfl (lv_room (Nat.le_of_ble_eq_true rfl)) (dq_182 0 bcX5_addTo_0 (j := 13) (i := 52) rfl rfl rfl) ⟨Nat.le_of_ble_eq_true rfl, Nat.le_of_ble_eq_true rfl⟩) hS hFc hP hD [0, 1] [] rfl rfl (by decide) (by decide) (fun H locs hP hD hS => ?_)
  have h9 := fixPD (ws' := [k_X5 a_ a_row a_partners c_askedCount c_outcome a_share a_leftOver, k_I E a_row 81 w_3]) hP hD rfl
  clear hP hD
  obtain ⟨hP, hD⟩ := h9
  refine lv_aload_n hx hb (dq_42 0 bcX5_addTo_0 (j := 16) rfl rfl) rfl (lv_at hl 0 rfl) ?_
  refine lv_aload_n hx hb (dq_42 0 bcX5_addTo_0 (j := 17) rfl rfl) rfl (lv_at hl 0 rfl) ?_
  refine gt_X5_0 (v := .ref a_row) hx hb hts i_f_X5_addTo_X5 hown hK hP 0 rfl (hts (.fieldLink RX5 11 "HushWatch$State" "row" "[I") (List.mem_of_getElem? (i := 1) rfl)) rfl (dq_180 0 bcX5_addTo_0 (j := 18) (i := 11) rfl rfl rfl) ?_
  refine lv_bipush (v := 8) hx hb (dq_16 0 bcX5_addTo_0 (j := 21) (i := 8) rfl rfl rfl) (by decide) ?_
  refine va_iald hx hb hK hP 1 0 rfl rfl (vin rfl) (dq_46 0 bcX5_addTo_0 (j := 23) rfl rfl) ?_
  refine W.eq (g2 := F0 m 24 ls [.int (w_3 8), .ref a_]) rfl ?_
  replace hF := bd1_s hF
  obtain ⟨r_5, hc_6, hF⟩ := hF
  have hPc : va_P E.1 vwCl (w_X5_stepFrom E a_ a_row a_partners a_share a_leftOver c_askedCount c_outcome w_3) H := hP.sub (ws' := [k_X5 a_ a_row a_partners c_askedCount c_outcome a_share a_leftOver, k_I E a_row 81 w_3]) [0, 1] rfl
  have hrc := va_recv hK hPc (ci := 6) (q0 := 0) rfl rfl
  refine pE_i (va_runV (As := [.int (w_3 8)]) (rest := [])  ⟨hx, hb, hml, hown, hts⟩ (f_X5_stepFrom l E (a_ := a_) (a_row := a_row) (a_partners := a_partners) (a_share := a_share) (a_leftOver := a_leftOver) (p1 := w_3 8) (c_askedCount := c_askedCount) (c_outcome := c_outcome) (c_row := w_3) hc_6) (cwV 1 hts g_f_X5_addTo_f_X5_stepFrom_182 rfl rfl rfl hd_X5_stepFrom ⟨Nat.le_of_ble_eq_true rfl, Nat.le_of_ble_eq_true rfl⟩) ⟨pP.blind, hrc, (pP.pre ⟨hK, hN⟩ hPc)⟩ rfl rfl hl.1 rfl (lv_room (Nat.le_of_ble_eq_true rfl)) (dq_182 0 bcX5_addTo_0 (j := 24) (i := 182) rfl rfl rfl) ⟨Nat.le_of_ble_eq_true rfl, Nat.le_of_ble_eq_true rfl⟩) ?_
  refine lv_istore_n (lv' := [(3, .int r_5), (0, .ref a_), (1, .int p1), (2, .int p2)]) hx hb (dq_62 0 bcX5_addTo_0 (j := 27) rfl rfl) rfl hl (by decide) rfl (fun ls hl => ?_)
  refine lv_iload_n hx hb (dq_29 0 bcX5_addTo_0 (j := 28) rfl rfl) rfl (lv_at hl 0 rfl) ?_
  refine lv_if_ne (tgt := 45) hx hb (dq_154 0 bcX5_addTo_0 (j := 29) (i := 16) rfl rfl rfl) (by decide) (fun c_7 => ?_) (fun c_7 => ?_)
  ·
    replace hF := inn c_7 hF
    refine lv_aload_n hx hb (dq_42 0 bcX5_addTo_0 (j := 45) rfl rfl) rfl (lv_at hl 1 rfl) ?_
    refine lv_iload_n hx hb (dq_27 0 bcX5_addTo_0 (j := 46) rfl rfl) rfl (lv_at hl 2 rfl) ?_
    refine lv_bipush (v := 7) hx hb (dq_16 0 bcX5_addTo_0 (j := 47) (i := 7) rfl rfl rfl) (by decide) ?_
    refine lv_aload_n hx hb (dq_42 48 bcX5_addTo_1 (j := 1) rfl rfl) rfl (lv_at hl 1 rfl) ?_
    refine lv_iload_n hx hb (dq_27 48 bcX5_addTo_1 (j := 2) rfl rfl) rfl (lv_at hl 2 rfl) ?_
    refine lv_bipush (v := 7) hx hb (dq_16 48 bcX5_addTo_1 (j := 3) (i := 7) rfl rfl rfl) (by decide) ?_
    replace hF := bd1_s hF
    obtain ⟨r_8, hc_9, hF⟩ := hF
    have hPc : va_P E.1 vwCl (w_X5_of E a_ a_row a_partners a_share a_leftOver c_askedCount c_outcome w_3) H := hP.sub (ws' := [k_X5 a_ a_row a_partners c_askedCount c_outcome a_share a_leftOver, k_I E a_row 81 w_3]) [0, 1] rfl
    have hrc := va_recv hK hPc (ci := 6) (q0 := 0) rfl rfl
    refine pE_i (va_runV (As := [.int p1, .int (7 : Int32)]) (rest := [.int (7 : Int32), .int p1, .ref a_])  ⟨hx, hb, hml, hown, hts⟩ (f_X5_of l E (a_ := a_) (a_row := a_row) (a_partners := a_partners) (a_share := a_share) (a_leftOver := a_leftOver) (p1 := p1) (p2 := (7 : Int32)) (c_askedCount := c_askedCount) (c_outcome := c_outcome) (c_row := w_3) hc_9) (cwV 2 hts g_f_X5_addTo_f_X5_of_69 rfl rfl rfl hd_X5_of ⟨Nat.le_of_ble_eq_true rfl, Nat.le_of_ble_eq_true rfl⟩) ⟨pP.blind, hrc, (pP.pre ⟨hK, hN⟩ hPc)⟩ rfl rfl hl.1 rfl (lv_room (Nat.le_of_ble_eq_true rfl)) (dq_182 48 bcX5_addTo_1 (j := 5) (i := 69) rfl rfl rfl) ⟨Nat.le_of_ble_eq_true rfl, Nat.le_of_ble_eq_true rfl⟩) ?_
    refine lv_iload_n hx hb (dq_28 48 bcX5_addTo_1 (j := 8) rfl rfl) rfl (lv_at hl 3 rfl) ?_
    refine lv_iadd hx hb (dq_96 48 bcX5_addTo_1 (j := 9) rfl rfl) ?_
    replace hF := bd1_s hF
    obtain ⟨w_10, hc_11, hF⟩ := hF
    obtain ⟨hPc, hDc, hFc⟩ := wcut (wc := (w_X5_put E a_ a_row a_partners a_share a_leftOver c_askedCount c_outcome w_3)) hP hD hS hA [0, 1] (by decide) rfl
    have hrc := va_recv hK hPc (ci := 6) (q0 := 0) rfl rfl
    refine cE_v (wc := (w_X5_put E a_ a_row a_partners a_share a_leftOver c_askedCount c_outcome w_3)) (wr := []) (w1 := (w_X5_put E a_ a_row a_partners a_share a_leftOver c_askedCount c_outcome w_10)) (va_runV (As := [.int p1, .int (7 : Int32), .int (r_8 + p2)]) (rest := [])  ⟨hx, hb, hml, hown, hts⟩ (f_X5_put l E H.size (a_ := a_) (a_row := a_row) (a_partners := a_partners) (a_share := a_share) (a_leftOver := a_leftOver) (p1 := p1) (p2 := (7 : Int32)) (p3 := r_8 + p2) (c_askedCount := c_askedCount) (c_outcome := c_outcome) (c_row := w_3) hc_11) (cwV 3 hts g_f_X5_addTo_f_X5_put_52 rfl rfl rfl hd_X5_put ⟨Nat.le_of_ble_eq_true rfl, Nat.le_of_ble_eq_true rfl⟩) ⟨pW.blind, hrc, (pW.pre ⟨hK, hN⟩ hPc hDc)⟩ rfl rfl hl.1 rfl (lv_room (Nat.le_of_ble_eq_true rfl)) (dq_182 48 bcX5_addTo_1 (j := 10) (i := 52) rfl rfl rfl) ⟨Nat.le_of_ble_eq_true rfl, Nat.le_of_ble_eq_true rfl⟩) hS hFc hP hD [0, 1] [] rfl rfl (by decide) (by decide) (fun H locs hP hD hS => ?_)
    have h9 := fixPD (ws' := [k_X5 a_ a_row a_partners c_askedCount c_outcome a_share a_leftOver, k_I E a_row 81 w_10]) hP hD rfl
    clear hP hD
    obtain ⟨hP, hD⟩ := h9
    refine lv_iconst (v := 0) hx hb (dq_3 48 bcX5_addTo_1 (j := 13) rfl rfl) (by decide) ?_
    refine lv_istore (lv' := [(4, .int (0 : Int32)), (3, .int r_5), (0, .ref a_), (1, .int p1), (2, .int p2)]) hx hb (dq_54 48 bcX5_addTo_1 (j := 14) (i := 4) rfl rfl) hl (by decide) rfl (fun ls hl => ?_)
    refine lv_iconst (v := 0) hx hb (dq_3 48 bcX5_addTo_1 (j := 16) rfl rfl) (by decide) ?_
    refine lv_istore (lv' := [(5, .int (0 : Int32)), (4, .int (0 : Int32)), (3, .int r_5), (0, .ref a_), (1, .int p1), (2, .int p2)]) hx hb (dq_54 48 bcX5_addTo_1 (j := 17) (i := 5) rfl rfl) hl (by decide) rfl (fun ls hl => ?_)
    replace hF := bd3_s hF
    obtain ⟨t_22, x4_23, c_row_24, hL_25, hF⟩ := hF
    refine lw_X5_addTo_67 l E K (p1 := p1) (p2 := p2) (c_askedCount := c_askedCount) (c_outcome := c_outcome) (x3 := r_5) hx hb hml hown hts hK hN hA K (0 : Int32) (0 : Int32) w_10 t_22 x4_23 c_row_24 hL_25 ⟨?_, ?_⟩ H locs ls (hP.sub [0, 1] rfl) (hD.sub [0, 1] (by decide) rfl) hS (lv_sub hl [3, 4, 2, 1, 0] rfl)
    ·
      intro t9
      replace hF := ip t9 hF
      intro H locs ls hP hD hS hl
      have h9 := fixPD (ws' := [k_X5 a_ a_row a_partners c_askedCount c_outcome a_share a_leftOver, k_I E a_row 81 c_row_24]) hP hD rfl
      clear hP hD
      obtain ⟨hP, hD⟩ := h9
      refine lv_aload_n hx hb (dq_42 96 bcX5_addTo_2 (j := 35) rfl rfl) rfl (lv_at hl 0 rfl) ?_
      replace hF := bd1_s hF
      obtain ⟨w_26, hc_27, hF⟩ := hF
      obtain ⟨hPc, hDc, hFc⟩ := wcut (wc := (w_X5_endRound E a_ a_row a_partners a_share a_leftOver c_askedCount c_outcome c_row_24)) hP hD hS hA [0, 1] (by decide) rfl
      have hrc := va_recv hK hPc (ci := 6) (q0 := 0) rfl rfl
      refine cE_v (wc := (w_X5_endRound E a_ a_row a_partners a_share a_leftOver c_askedCount c_outcome c_row_24)) (wr := []) (w1 := (w_X5_endRound E a_ a_row a_partners a_share a_leftOver c_askedCount c_outcome w_26)) (va_runV (As := []) (rest := [])  ⟨hx, hb, hml, hown, hts⟩ (f_X5_endRound l E H.size K (a_ := a_) (a_row := a_row) (a_partners := a_partners) (a_share := a_share) (a_leftOver := a_leftOver) (c_askedCount := c_askedCount) (c_outcome := c_outcome) (c_row := c_row_24) hc_27) (cwV 0 hts g_f_X5_addTo_f_X5_endRound_185 rfl rfl rfl hd_X5_endRound ⟨Nat.le_of_ble_eq_true rfl, Nat.le_of_ble_eq_true rfl⟩) ⟨pW.blind, hrc, (pW.pre ⟨hK, hN⟩ hPc hDc)⟩ rfl rfl hl.1 rfl (lv_room (Nat.le_of_ble_eq_true rfl)) (dq_182 96 bcX5_addTo_2 (j := 36) (i := 185) rfl rfl rfl) ⟨Nat.le_of_ble_eq_true rfl, Nat.le_of_ble_eq_true rfl⟩) hS hFc hP hD [0, 1] [] rfl rfl (by decide) (by decide) (fun H locs hP hD hS => ?_)
      have h9 := fixPD (ws' := [k_X5 a_ a_row a_partners c_askedCount c_outcome a_share a_leftOver, k_I E a_row 81 w_26]) hP hD rfl
      clear hP hD
      obtain ⟨hP, hD⟩ := h9
      refine lv_iload hx hb (dq_21 96 bcX5_addTo_2 (j := 39) (i := 4) rfl rfl) (lv_at hl 1 rfl) ?_
      refine lv_iconst (v := 2) hx hb (dq_5 96 bcX5_addTo_2 (j := 41) rfl rfl) (by decide) ?_
      refine lv_aload_n hx hb (dq_42 96 bcX5_addTo_2 (j := 42) rfl rfl) rfl (lv_at hl 0 rfl) ?_
      refine gt_X5_0 (v := .ref a_row) hx hb hts i_f_X5_addTo_X5 hown hK hP 0 rfl (hts (.fieldLink RX5 11 "HushWatch$State" "row" "[I") (List.mem_of_getElem? (i := 1) rfl)) rfl (dq_180 96 bcX5_addTo_2 (j := 43) (i := 11) rfl rfl rfl) ?_
      refine lv_iconst (v := 3) hx hb (dq_6 96 bcX5_addTo_2 (j := 46) rfl rfl) (by decide) ?_
      refine va_iald hx hb hK hP 1 0 rfl rfl (vin rfl) (dq_46 96 bcX5_addTo_2 (j := 47) rfl rfl) ?_
      refine W.eq (g2 := F0 m 144 ls [.int (w_26 3), .int (2 : Int32), .int x4_23]) rfl ?_
      refine lv_imul hx hb (dq_104 144 bcX5_addTo_3 (j := 0) rfl rfl) ?_
      refine lv_iadd hx hb (dq_96 144 bcX5_addTo_3 (j := 1) rfl rfl) ?_
      rw [hQ]
      have h9 := fin9 (P := fun u9 : Int32 × (Nat → Int32) => (x4_23 + ((2 : Int32) * (w_26 3))) = u9.1 ∧ va_P E.1 vwCl (w_X5_addTo E a_ a_row a_partners a_share a_leftOver c_askedCount c_outcome u9.2) H ∧ va_D A (w_X5_addTo E a_ a_row a_partners a_share a_leftOver c_askedCount c_outcome u9.2)) hF ⟨rfl, hP, hD⟩
      obtain ⟨e9_0, hP9, hD9⟩ := h9
      exact W.iret (v := x4_23 + ((2 : Int32) * (w_26 3))) hx hb hr (fun tt ht hW => ⟨⟨_, (), rfl, e9_0, ht ▸ hP9, hD9⟩, hS.F ht⟩) hS.2.2 (dq_172 144 bcX5_addTo_3 (j := 2) rfl rfl)
    ·
      intro t9
      replace hF := inn (show ¬ t_22 = 0 by omega) hF
      replace hF := ip t9 hF
      intro H locs ls hP hD hS hl
      have h9 := fixPD (ws' := [k_X5 a_ a_row a_partners c_askedCount c_outcome a_share a_leftOver, k_I E a_row 81 c_row_24]) hP hD rfl
      clear hP hD
      obtain ⟨hP, hD⟩ := h9
      refine lv_iload hx hb (dq_21 144 bcX5_addTo_3 (j := 9) (i := 4) rfl rfl) (lv_at hl 0 rfl) ?_
      rw [hQ]
      have h9 := fin9 (P := fun u9 : Int32 × (Nat → Int32) => x4_23 = u9.1 ∧ va_P E.1 vwCl (w_X5_addTo E a_ a_row a_partners a_share a_leftOver c_askedCount c_outcome u9.2) H ∧ va_D A (w_X5_addTo E a_ a_row a_partners a_share a_leftOver c_askedCount c_outcome u9.2)) hF ⟨rfl, hP, hD⟩
      obtain ⟨e9_0, hP9, hD9⟩ := h9
      exact W.iret (v := x4_23) hx hb hr (fun tt ht hW => ⟨⟨_, (), rfl, e9_0, ht ▸ hP9, hD9⟩, hS.F ht⟩) hS.2.2 (dq_172 144 bcX5_addTo_3 (j := 11) rfl rfl)
  ·
    replace hF := ip c_7 hF
    refine lv_aload_n hx hb (dq_42 0 bcX5_addTo_0 (j := 32) rfl rfl) rfl (lv_at hl 1 rfl) ?_
    refine gt_X5_0 (v := .ref a_row) hx hb hts i_f_X5_addTo_X5 hown hK hP 0 rfl (hts (.fieldLink RX5 11 "HushWatch$State" "row" "[I") (List.mem_of_getElem? (i := 1) rfl)) rfl (dq_180 0 bcX5_addTo_0 (j := 33) (i := 11) rfl rfl rfl) ?_
    refine lv_bipush (v := 8) hx hb (dq_16 0 bcX5_addTo_0 (j := 36) (i := 8) rfl rfl rfl) (by decide) ?_
    refine lv_dup2_11 hx hb (dq_92 0 bcX5_addTo_0 (j := 38) rfl rfl) rfl rfl ?_
    refine va_iald hx hb hK hP 1 0 rfl rfl (vin rfl) (dq_46 0 bcX5_addTo_0 (j := 39) rfl rfl) ?_
    refine W.eq (g2 := F0 m 40 ls [.int (w_3 8), .int (8 : Int32), .ref a_row]) rfl ?_
    refine lv_iload_n hx hb (dq_28 0 bcX5_addTo_0 (j := 40) rfl rfl) rfl (lv_at hl 3 rfl) ?_
    refine lv_iadd hx hb (dq_96 0 bcX5_addTo_0 (j := 41) rfl rfl) ?_
    refine va_iast hx hb hK hP hD hS 1 0 rfl rfl (vin rfl) (dq_79 0 bcX5_addTo_0 (j := 42) rfl rfl) (fun H locs hP hD hS => ?_)
    have h9 := fixPD (ws' := [k_X5 a_ a_row a_partners c_askedCount c_outcome a_share a_leftOver, k_I E a_row 81 (upd w_3 8 ((w_3 8) + p2))]) hP hD rfl
    clear hP hD
    obtain ⟨hP, hD⟩ := h9
    replace hF := nm_s hF
    obtain ⟨f_28, hf_28, hF⟩ := hF
    rw [← hf_28] at hP hD
    refine lv_iconst (v := 1) hx hb (dq_4 0 bcX5_addTo_0 (j := 43) rfl rfl) (by decide) ?_
    rw [hQ]
    have h9 := fin9 (P := fun u9 : Int32 × (Nat → Int32) => (1 : Int32) = u9.1 ∧ va_P E.1 vwCl (w_X5_addTo E a_ a_row a_partners a_share a_leftOver c_askedCount c_outcome u9.2) H ∧ va_D A (w_X5_addTo E a_ a_row a_partners a_share a_leftOver c_askedCount c_outcome u9.2)) hF ⟨rfl, hP, hD⟩
    obtain ⟨e9_0, hP9, hD9⟩ := h9
    exact W.iret (v := (1 : Int32)) hx hb hr (fun tt ht hW => ⟨⟨_, (), rfl, e9_0, ht ▸ hP9, hD9⟩, hS.F ht⟩) hS.2.2 (dq_172 0 bcX5_addTo_0 (j := 44) rfl rfl)

def J_X5_valueOf_26 (p1 : Int64) (p2 : Int64) (c_row : Nat → Int32) (k0 : Int64) (x5 : Int64) : Option (Int64) :=
  if (c_row 0) = (1 : Int32) then some ((p1 * p1) + (p2 * p2)) else if (c_row 0) = (2 : Int32) then if lg_cmp x5 k0 ≤ (0 : Int32) then some k0 else some x5 else if (c_row 0) = (3 : Int32) then some (x5 + k0) else some (p1 + p2)
def J_X5_valueOf_12 (p1 : Int64) (p2 : Int64) (c_row : Nat → Int32) (k0 : Int64) : Option (Int64) :=
  if (0 : Int32) ≤ lg_cmp p2 (0 : Int64) then J_X5_valueOf_26 p1 p2 c_row p2 k0 else J_X5_valueOf_26 p1 p2 c_row (-p2) k0
def F_X5_valueOf (p1 : Int64) (p2 : Int64) (c_row : Nat → Int32) : Option (Int64) :=
  if (0 : Int32) ≤ lg_cmp p1 (0 : Int64) then J_X5_valueOf_12 p1 p2 c_row p1 else J_X5_valueOf_12 p1 p2 c_row (-p1)
abbrev w_X5_valueOf (E : EE) (a_ a_row a_partners a_share a_leftOver : Nat) (c_askedCount : Int32) (c_outcome : Int32) (c_row : Nat → Int32) : va_W := [k_X5 a_ a_row a_partners c_askedCount c_outcome a_share a_leftOver, k_I E a_row 81 c_row]
def v_f_X5_valueOf : List Cond := List.cons (.code yX5_valueOf cX5_valueOf 9 (some .long)) (HAppend.hAppend (α := List Cond) (β := List Cond) (γ := List Cond) [.fieldLink RX5 11 "HushWatch$State" "row" "[I"] (HAppend.hAppend (α := List Cond) (β := List Cond) (γ := List Cond) wsX50 []))
theorem gw_f_X5_valueOf : v_f_X5_valueOf.all goodWord = true := gw_c2 (by decide +kernel) (gw_ap gw_wsX50 gw_nil)
theorem i_f_X5_valueOf_X5 : ∀ w ∈ wsX50, w ∈ v_f_X5_valueOf := fun _ h => List.mem_cons_of_mem _ (List.mem_append_right _ (List.mem_append_left _ h))
theorem hd_X5_valueOf : yX5_valueOf.cls = RX5 ∧ yX5_valueOf.cls ≠ "java/lang/invoke/MethodHandle" ∧ yX5_valueOf.cls ≠ "java/lang/invoke/VarHandle" ∧ (parseMethodDescriptor yX5_valueOf.desc).map (fun d => d.parameters.length) = some 2 := by decide +kernel
set_option maxHeartbeats 4000000 in
set_option maxRecDepth 100000 in
theorem j_X5_valueOf_26 {p : Program} (l : Launch) {e : Env} {s : State} {m : MethodId} {below : List Frame} {meth : Method} {c : Code} {Q : State → Prop} (E : EE) {a_ a_row a_partners a_share a_leftOver : Nat} {p1 : Int64} {p2 : Int64} {c_askedCount : Int32} {c_outcome : Int32} {c_row : Nat → Int32} {k0 : Int64} {x5 : Int64} (hx : p.tables.exec = Jvm.exec) (hb : c.code = cX5_valueOf) (hml : c.maxLocals = 9) (hown : s.vm.findClass RX5 = some m.cls) (hts : ∀ w ∈ v_f_X5_valueOf, w.before #[Value.ref a_, Value.long p1, Value.long p2] s = true) (hK : va_K E.1 vwCl (TY E) s) (hN : NX s) {rr : Int64} (hr : meth.sig.returnType = (some .long)) (hlocks : meth.locks = false) (hQ : Q = MQ below (vp_Sl (fun q : Int64 => q = rr)) #[Value.ref a_, Value.long p1, Value.long p2] s 0 0 (fun _ => False)) (hF : J_X5_valueOf_26 p1 p2 c_row k0 x5 = some rr) (hP : va_P E.1 vwCl (w_X5_valueOf E a_ a_row a_partners a_share a_leftOver c_askedCount c_outcome c_row) s.heap) : ∀ (ls : Array Slot), lv_has ls 9 [(0, .ref a_), (1, .long p1), (3, .long p2), (5, .long x5)] → W p l e ({ frames := 0, cells := 0, slots := 0, locals := 0 } : Room) s m #[Value.ref a_, Value.long p1, Value.long p2] below meth c s.heap [] 0 0 Q (F0 m 26 ls [.long k0]) := by
  unfold J_X5_valueOf_26 at hF
  replace hP : va_P E.1 vwCl [k_X5 a_ a_row a_partners c_askedCount c_outcome a_share a_leftOver, k_I E a_row 81 c_row] s.heap := hP
  intro ls hl
  refine lv_lstore (lv' := [(7, .long k0), (0, .ref a_), (1, .long p1), (3, .long p2), (5, .long x5)]) hx hb (dq_55 0 bcX5_valueOf_0 (j := 26) (i := 7) rfl rfl) hl (by decide) rfl (fun ls hl => ?_)
  refine lv_aload_n hx hb (dq_42 0 bcX5_valueOf_0 (j := 28) rfl rfl) rfl (lv_at hl 1 rfl) ?_
  refine gt_X5_0 (v := .ref a_row) hx hb hts i_f_X5_valueOf_X5 hown hK hP 0 rfl (hts (.fieldLink RX5 11 "HushWatch$State" "row" "[I") (List.mem_of_getElem? (i := 1) rfl)) rfl (dq_180 0 bcX5_valueOf_0 (j := 29) (i := 11) rfl rfl rfl) ?_
  refine lv_iconst (v := 0) hx hb (dq_3 0 bcX5_valueOf_0 (j := 32) rfl rfl) (by decide) ?_
  refine va_iald hx hb hK hP 1 0 rfl rfl (vin rfl) (dq_46 0 bcX5_valueOf_0 (j := 33) rfl rfl) ?_
  refine W.eq (g2 := F0 m 34 ls [.int (c_row 0)]) rfl ?_
  rcases Classical.em ((c_row 0) = (1 : Int32)) with c_3_1 | c_3_1
  ·
    replace hF := ip c_3_1 hF
    refine lv_tableIn (off := 26) (tgt := 60) hx hb dX5_valueOf_34 (by rw [c_3_1]; decide) (by rw [c_3_1]; decide) (by rw [c_3_1]; decide) (by decide) ?_
    refine lv_lload_n hx hb (dq_31 48 bcX5_valueOf_1 (j := 12) rfl rfl) rfl (lv_at hl 2 rfl) ?_
    refine lv_lload_n hx hb (dq_31 48 bcX5_valueOf_1 (j := 13) rfl rfl) rfl (lv_at hl 2 rfl) ?_
    refine lv_lmul hx hb (dq_105 48 bcX5_valueOf_1 (j := 14) rfl rfl) ?_
    refine lv_lload_n hx hb (dq_33 48 bcX5_valueOf_1 (j := 15) rfl rfl) rfl (lv_at hl 3 rfl) ?_
    refine lv_lload_n hx hb (dq_33 48 bcX5_valueOf_1 (j := 16) rfl rfl) rfl (lv_at hl 3 rfl) ?_
    refine lv_lmul hx hb (dq_105 48 bcX5_valueOf_1 (j := 17) rfl rfl) ?_
    refine lv_ladd hx hb (dq_97 48 bcX5_valueOf_1 (j := 18) rfl rfl) ?_
    rw [hQ]
    obtain e9_0 := inj1 hF
    exact W.lret (v := (p1 * p1) + (p2 * p2)) hx hb hr (fun tt ht hW => ⟨_, rfl, e9_0, ht⟩) (fun _ h => by cases h) (dq_173 48 bcX5_valueOf_1 (j := 19) rfl rfl)
  replace hF := inn c_3_1 hF
  rcases Classical.em ((c_row 0) = (2 : Int32)) with c_3_2 | c_3_2
  ·
    replace hF := ip c_3_2 hF
    refine lv_tableIn (off := 34) (tgt := 68) hx hb dX5_valueOf_34 (by rw [c_3_2]; decide) (by rw [c_3_2]; decide) (by rw [c_3_2]; decide) (by decide) ?_
    refine lv_lload hx hb (dq_22 48 bcX5_valueOf_1 (j := 20) (i := 5) rfl rfl) (lv_at hl 4 rfl) ?_
    refine lv_lload hx hb (dq_22 48 bcX5_valueOf_1 (j := 22) (i := 7) rfl rfl) (lv_at hl 0 rfl) ?_
    refine W.lcmp hx hb (dq_148 48 bcX5_valueOf_1 (j := 24) rfl rfl) ?_
    refine lv_if_le (tgt := 81) hx hb (dq_158 48 bcX5_valueOf_1 (j := 25) (i := 8) rfl rfl rfl) (by decide) (fun c_4 => ?_) (fun c_4 => ?_)
    ·
      replace hF := ip c_4 hF
      refine lv_lload hx hb (dq_22 48 bcX5_valueOf_1 (j := 33) (i := 7) rfl rfl) (lv_at hl 0 rfl) ?_
      rw [hQ]
      obtain e9_0 := inj1 hF
      exact W.lret (v := k0) hx hb hr (fun tt ht hW => ⟨_, rfl, e9_0, ht⟩) (fun _ h => by cases h) (dq_173 48 bcX5_valueOf_1 (j := 35) rfl rfl)
    ·
      replace hF := inn c_4 hF
      refine lv_lload hx hb (dq_22 48 bcX5_valueOf_1 (j := 28) (i := 5) rfl rfl) (lv_at hl 4 rfl) ?_
      refine lv_goto (tgt := 83) hx hb (dq_167 48 bcX5_valueOf_1 (j := 30) (i := 5) rfl rfl rfl) (by decide) ?_
      rw [hQ]
      obtain e9_0 := inj1 hF
      exact W.lret (v := x5) hx hb hr (fun tt ht hW => ⟨_, rfl, e9_0, ht⟩) (fun _ h => by cases h) (dq_173 48 bcX5_valueOf_1 (j := 35) rfl rfl)
  replace hF := inn c_3_2 hF
  rcases Classical.em ((c_row 0) = (3 : Int32)) with c_3_3 | c_3_3
  ·
    replace hF := ip c_3_3 hF
    refine lv_tableIn (off := 50) (tgt := 84) hx hb dX5_valueOf_34 (by rw [c_3_3]; decide) (by rw [c_3_3]; decide) (by rw [c_3_3]; decide) (by decide) ?_
    refine lv_lload hx hb (dq_22 48 bcX5_valueOf_1 (j := 36) (i := 5) rfl rfl) (lv_at hl 4 rfl) ?_
    refine lv_lload hx hb (dq_22 48 bcX5_valueOf_1 (j := 38) (i := 7) rfl rfl) (lv_at hl 0 rfl) ?_
    refine lv_ladd hx hb (dq_97 48 bcX5_valueOf_1 (j := 40) rfl rfl) ?_
    rw [hQ]
    obtain e9_0 := inj1 hF
    exact W.lret (v := x5 + k0) hx hb hr (fun tt ht hW => ⟨_, rfl, e9_0, ht⟩) (fun _ h => by cases h) (dq_173 48 bcX5_valueOf_1 (j := 41) rfl rfl)
  replace hF := inn c_3_3 hF
  refine lv_tableOut (tgt := 90) hx hb dX5_valueOf_34 (by have t0 : (1 : Int32).toInt = 1 := (by decide); have t1 : (2 : Int32).toInt = 2 := (by decide); have t2 : (3 : Int32).toInt = 3 := (by decide); simp only [← Int32.toInt_inj, t0, t1, t2] at c_3_1 c_3_2 c_3_3; omega) (by decide) ?_
  refine lv_lload_n hx hb (dq_31 48 bcX5_valueOf_1 (j := 42) rfl rfl) rfl (lv_at hl 2 rfl) ?_
  refine lv_lload_n hx hb (dq_33 48 bcX5_valueOf_1 (j := 43) rfl rfl) rfl (lv_at hl 3 rfl) ?_
  refine lv_ladd hx hb (dq_97 48 bcX5_valueOf_1 (j := 44) rfl rfl) ?_
  rw [hQ]
  obtain e9_0 := inj1 hF
  exact W.lret (v := p1 + p2) hx hb hr (fun tt ht hW => ⟨_, rfl, e9_0, ht⟩) (fun _ h => by cases h) (dq_173 48 bcX5_valueOf_1 (j := 45) rfl rfl)

set_option maxHeartbeats 4000000 in
set_option maxRecDepth 100000 in
theorem j_X5_valueOf_12 {p : Program} (l : Launch) {e : Env} {s : State} {m : MethodId} {below : List Frame} {meth : Method} {c : Code} {Q : State → Prop} (E : EE) {a_ a_row a_partners a_share a_leftOver : Nat} {p1 : Int64} {p2 : Int64} {c_askedCount : Int32} {c_outcome : Int32} {c_row : Nat → Int32} {k0 : Int64} (hx : p.tables.exec = Jvm.exec) (hb : c.code = cX5_valueOf) (hml : c.maxLocals = 9) (hown : s.vm.findClass RX5 = some m.cls) (hts : ∀ w ∈ v_f_X5_valueOf, w.before #[Value.ref a_, Value.long p1, Value.long p2] s = true) (hK : va_K E.1 vwCl (TY E) s) (hN : NX s) {rr : Int64} (hr : meth.sig.returnType = (some .long)) (hlocks : meth.locks = false) (hQ : Q = MQ below (vp_Sl (fun q : Int64 => q = rr)) #[Value.ref a_, Value.long p1, Value.long p2] s 0 0 (fun _ => False)) (hF : J_X5_valueOf_12 p1 p2 c_row k0 = some rr) (hP : va_P E.1 vwCl (w_X5_valueOf E a_ a_row a_partners a_share a_leftOver c_askedCount c_outcome c_row) s.heap) : ∀ (ls : Array Slot), lv_has ls 9 [(0, .ref a_), (1, .long p1), (3, .long p2)] → W p l e ({ frames := 0, cells := 0, slots := 0, locals := 0 } : Room) s m #[Value.ref a_, Value.long p1, Value.long p2] below meth c s.heap [] 0 0 Q (F0 m 12 ls [.long k0]) := by
  unfold J_X5_valueOf_12 at hF
  replace hP : va_P E.1 vwCl [k_X5 a_ a_row a_partners c_askedCount c_outcome a_share a_leftOver, k_I E a_row 81 c_row] s.heap := hP
  intro ls hl
  refine lv_lstore (lv' := [(5, .long k0), (0, .ref a_), (1, .long p1), (3, .long p2)]) hx hb (dq_55 0 bcX5_valueOf_0 (j := 12) (i := 5) rfl rfl) hl (by decide) rfl (fun ls hl => ?_)
  refine lv_lload_n hx hb (dq_33 0 bcX5_valueOf_0 (j := 14) rfl rfl) rfl (lv_at hl 3 rfl) ?_
  refine lv_lconst (v := 0) hx hb (dq_9 0 bcX5_valueOf_0 (j := 15) rfl rfl) (by decide) ?_
  refine W.lcmp hx hb (dq_148 0 bcX5_valueOf_0 (j := 16) rfl rfl) ?_
  refine lv_if_ge (tgt := 25) hx hb (dq_156 0 bcX5_valueOf_0 (j := 17) (i := 8) rfl rfl rfl) (by decide) (fun c_2 => ?_) (fun c_2 => ?_)
  ·
    replace hF := ip c_2 hF
    refine lv_lload_n hx hb (dq_33 0 bcX5_valueOf_0 (j := 25) rfl rfl) rfl (lv_at hl 3 rfl) ?_
    exact j_X5_valueOf_26 l E (p1 := p1) (p2 := p2) (c_askedCount := c_askedCount) (c_outcome := c_outcome) (c_row := c_row) (k0 := p2) (x5 := k0) hx hb hml hown hts hK hN hr hlocks hQ hF hP ls (lv_sub hl [1, 2, 3, 0] rfl)
  ·
    replace hF := inn c_2 hF
    refine lv_lload_n hx hb (dq_33 0 bcX5_valueOf_0 (j := 20) rfl rfl) rfl (lv_at hl 3 rfl) ?_
    refine lv_lneg hx hb (dq_117 0 bcX5_valueOf_0 (j := 21) rfl rfl) ?_
    refine lv_goto (tgt := 26) hx hb (dq_167 0 bcX5_valueOf_0 (j := 22) (i := 4) rfl rfl rfl) (by decide) ?_
    exact j_X5_valueOf_26 l E (p1 := p1) (p2 := p2) (c_askedCount := c_askedCount) (c_outcome := c_outcome) (c_row := c_row) (k0 := -p2) (x5 := k0) hx hb hml hown hts hK hN hr hlocks hQ hF hP ls (lv_sub hl [1, 2, 3, 0] rfl)

set_option maxHeartbeats 4000000 in
set_option maxRecDepth 100000 in
theorem f_X5_valueOf (l : Launch) (E : EE) {a_ a_row a_partners a_share a_leftOver : Nat} {p1 : Int64} {p2 : Int64} {c_askedCount : Int32} {c_outcome : Int32} {c_row : Nat → Int32} {rr : Int64} (hF : F_X5_valueOf p1 p2 c_row = some rr) : Met l yX5_valueOf v_f_X5_valueOf (({ frames := 0, cells := 0, slots := 0, locals := 0 } : Room)) (va_Pc [.ref a_, .long p1, .long p2] (pP E (w_X5_valueOf E a_ a_row a_partners a_share a_leftOver c_askedCount c_outcome c_row))) (vp_Sl (fun q : Int64 => q = rr)) 0 0 (fun _ => False) := by
  refine Met.ofW (cc := cX5_valueOf) (maxL := 9) (ret := (some .long)) (by decide) rfl ?_
  intro p e s m args below meth c s₁ B hml hv
  obtain ⟨rfl, ⟨hK, hN⟩, hP⟩ := hv
  have hx := B.exec
  have hb := B.bytes
  have hr := B.returns
  have hts := atoms_spec (ws := v_f_X5_valueOf) B.pre
  have hown : s.vm.findClass RX5 = some m.cls := own_of hd_X5_valueOf.1 (findClass_of_methodNamed B.named)
  have hlocks : meth.locks = false := B.notSynchronized
  replace hP : va_P E.1 vwCl [k_X5 a_ a_row a_partners c_askedCount c_outcome a_share a_leftOver, k_I E a_row 81 c_row] s.heap := hP
  have hl := lv_entry ([.ref a_, .long p1, .long p2]) (n := 9) (Nat.le_of_ble_eq_true rfl)
  rw [lg_entry_eq]
  generalize (lg_sl ([.ref a_, .long p1, .long p2]) ++ List.replicate (9 - (lg_sl ([.ref a_, .long p1, .long p2])).length) Slot.unset).toArray = ls at hl ⊢
  have hl : lv_has ls 9 [(0, .ref a_), (1, .long p1), (3, .long p2)] := hl
  obtain ⟨Q, hQ⟩ : ∃ Q : State → Prop, Q = MQ below (vp_Sl (fun q : Int64 => q = rr)) #[Value.ref a_, Value.long p1, Value.long p2] s 0 0 (fun _ => False) := ⟨_, rfl⟩
  rw [← hQ]
  change W p l e ({ frames := 0, cells := 0, slots := 0, locals := 0 } : Room) s m #[Value.ref a_, Value.long p1, Value.long p2] below meth c s.heap [] 0 0 Q (F0 m 0 ls [])
  unfold F_X5_valueOf at hF
  refine lv_lload_n hx hb (dq_31 0 bcX5_valueOf_0 (j := 0) rfl rfl) rfl (lv_at hl 1 rfl) ?_
  refine lv_lconst (v := 0) hx hb (dq_9 0 bcX5_valueOf_0 (j := 1) rfl rfl) (by decide) ?_
  refine W.lcmp hx hb (dq_148 0 bcX5_valueOf_0 (j := 2) rfl rfl) ?_
  refine lv_if_ge (tgt := 11) hx hb (dq_156 0 bcX5_valueOf_0 (j := 3) (i := 8) rfl rfl rfl) (by decide) (fun c_1 => ?_) (fun c_1 => ?_)
  ·
    replace hF := ip c_1 hF
    refine lv_lload_n hx hb (dq_31 0 bcX5_valueOf_0 (j := 11) rfl rfl) rfl (lv_at hl 1 rfl) ?_
    exact j_X5_valueOf_12 l E (p1 := p1) (p2 := p2) (c_askedCount := c_askedCount) (c_outcome := c_outcome) (c_row := c_row) (k0 := p1) hx hb hml hown hts hK hN hr hlocks hQ hF hP ls (lv_sub hl [0, 1, 2] rfl)
  ·
    replace hF := inn c_1 hF
    refine lv_lload_n hx hb (dq_31 0 bcX5_valueOf_0 (j := 6) rfl rfl) rfl (lv_at hl 1 rfl) ?_
    refine lv_lneg hx hb (dq_117 0 bcX5_valueOf_0 (j := 7) rfl rfl) ?_
    refine lv_goto (tgt := 12) hx hb (dq_167 0 bcX5_valueOf_0 (j := 8) (i := 4) rfl rfl rfl) (by decide) ?_
    exact j_X5_valueOf_12 l E (p1 := p1) (p2 := p2) (c_askedCount := c_askedCount) (c_outcome := c_outcome) (c_row := c_row) (k0 := -p1) hx hb hml hown hts hK hN hr hlocks hQ hF hP ls (lv_sub hl [0, 1, 2] rfl)
