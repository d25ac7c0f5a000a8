noncomputable def blJ3_checkIndex_8e157_0 : List Nat := [26, 155, 0, 8, 26, 27, 161, 0, 10, 44, 26, 27, 184, 0, 95, 191, 26, 172]
set_option maxRecDepth 100000 in
theorem bcJ3_checkIndex_8e157_0 : ((cJ3_checkIndex_8e157.data.toList.drop 0).take blJ3_checkIndex_8e157_0.length).map UInt8.toNat = blJ3_checkIndex_8e157_0 := by decide +kernel
noncomputable def blJ6_bitCount_0f7a4_0 : List Nat := [26, 26, 4, 124, 19, 1, 9, 126, 100, 59, 26, 19, 1, 10, 126, 26, 5, 124, 19, 1, 10, 126, 96, 59, 26, 26, 7, 124, 96, 19, 1, 11, 126, 59, 26, 26, 16, 8, 124, 96, 59, 26, 26, 16, 16, 124, 96, 59, 26, 16, 63]
set_option maxRecDepth 100000 in
theorem bcJ6_bitCount_0f7a4_0 : ((cJ6_bitCount_0f7a4.data.toList.drop 0).take blJ6_bitCount_0f7a4_0.length).map UInt8.toNat = blJ6_bitCount_0f7a4_0 := by decide +kernel
noncomputable def blJ6_bitCount_0f7a4_1 : List Nat := [26, 16, 63, 126, 172]
set_option maxRecDepth 100000 in
theorem bcJ6_bitCount_0f7a4_1 : ((cJ6_bitCount_0f7a4.data.toList.drop 48).take blJ6_bitCount_0f7a4_1.length).map UInt8.toNat = blJ6_bitCount_0f7a4_1 := by decide +kernel
noncomputable def blJ9_floorDiv_7cf53_0 : List Nat := [26, 27, 108, 61, 26, 27, 130, 156, 0, 14, 28, 27, 104, 26, 159, 0, 7, 28, 4, 100, 172, 28, 172]
set_option maxRecDepth 100000 in
theorem bcJ9_floorDiv_7cf53_0 : ((cJ9_floorDiv_7cf53.data.toList.drop 0).take blJ9_floorDiv_7cf53_0.length).map UInt8.toNat = blJ9_floorDiv_7cf53_0 := by decide +kernel
noncomputable def blJ9_floorMod_7cf53_0 : List Nat := [26, 27, 112, 61, 26, 27, 130, 156, 0, 11, 28, 153, 0, 7, 28, 27, 96, 172, 28, 172]
set_option maxRecDepth 100000 in
theorem bcJ9_floorMod_7cf53_0 : ((cJ9_floorMod_7cf53.data.toList.drop 0).take blJ9_floorMod_7cf53_0.length).map UInt8.toNat = blJ9_floorMod_7cf53_0 := by decide +kernel
noncomputable def blJ0_checkIndex_df160_0 : List Nat := [26, 27, 178, 4, 29, 184, 4, 35, 87, 177]
set_option maxRecDepth 100000 in
theorem bcJ0_checkIndex_df160_0 : ((cJ0_checkIndex_df160.data.toList.drop 0).take blJ0_checkIndex_df160_0.length).map UInt8.toNat = blJ0_checkIndex_df160_0 := by decide +kernel
noncomputable def blJ1_charAt_3b067_0 : List Nat := [27, 42, 190, 184, 0, 9, 42, 27, 51, 17, 0, 255, 126, 146, 172]
set_option maxRecDepth 100000 in
theorem bcJ1_charAt_3b067_0 : ((cJ1_charAt_3b067.data.toList.drop 0).take blJ1_charAt_3b067_0.length).map UInt8.toNat = blJ1_charAt_3b067_0 := by decide +kernel
noncomputable def blJ0_coder_7d493_0 : List Nat := [178, 0, 38, 153, 0, 10, 42, 180, 0, 15, 167, 0, 4, 4, 172]
set_option maxRecDepth 100000 in
theorem bcJ0_coder_7d493_0 : ((cJ0_coder_7d493.data.toList.drop 0).take blJ0_coder_7d493_0.length).map UInt8.toNat = blJ0_coder_7d493_0 := by decide +kernel
noncomputable def blJ0_length_8abf5_0 : List Nat := [42, 180, 0, 9, 190, 42, 182, 1, 79, 122, 172]
set_option maxRecDepth 100000 in
theorem bcJ0_length_8abf5_0 : ((cJ0_length_8abf5.data.toList.drop 0).take blJ0_length_8abf5_0.length).map UInt8.toNat = blJ0_length_8abf5_0 := by decide +kernel
noncomputable def blJ0_isLatin1_aae02_0 : List Nat := [178, 0, 38, 153, 0, 14, 42, 180, 0, 15, 154, 0, 7, 4, 167, 0, 4, 3, 172]
set_option maxRecDepth 100000 in
theorem bcJ0_isLatin1_aae02_0 : ((cJ0_isLatin1_aae02.data.toList.drop 0).take blJ0_isLatin1_aae02_0.length).map UInt8.toNat = blJ0_isLatin1_aae02_0 := by decide +kernel
noncomputable def blJ0_charAt_5068e_0 : List Nat := [42, 182, 1, 236, 153, 0, 12, 42, 180, 0, 9, 27, 184, 1, 239, 172, 42, 180, 0, 9, 27, 184, 1, 242, 172]
set_option maxRecDepth 100000 in
theorem bcJ0_charAt_5068e_0 : ((cJ0_charAt_5068e.data.toList.drop 0).take blJ0_charAt_5068e_0.length).map UInt8.toNat = blJ0_charAt_5068e_0 := by decide +kernel

def F_J3_checkIndex_8e157 (p0 : Int32) (p1 : Int32) : Option (Int32) :=
  if p0 < (0 : Int32) then none else if p0 < p1 then some p0 else none

def v_f_J3_checkIndex_8e157 : List Cond := List.cons (.code yJ3_checkIndex_8e157 cJ3_checkIndex_8e157 3 (some .int)) (HAppend.hAppend (α := List Cond) (β := List Cond) (γ := List Cond) [] [])
theorem gw_f_J3_checkIndex_8e157 : v_f_J3_checkIndex_8e157.all goodWord = true := gw_c2 (by decide +kernel) gw_nil
theorem hd_J3_checkIndex_8e157 : yJ3_checkIndex_8e157.cls = RJ3 ∧ yJ3_checkIndex_8e157.cls ≠ "java/lang/invoke/MethodHandle" ∧ yJ3_checkIndex_8e157.cls ≠ "java/lang/invoke/VarHandle" ∧ (parseMethodDescriptor yJ3_checkIndex_8e157.desc).map (fun d => d.parameters.length) = some 3 := by decide +kernel
set_option maxHeartbeats 4000000 in
set_option maxRecDepth 100000 in
theorem f_J3_checkIndex_8e157 (l : Launch) (E : EE) {p2 : Nat} {p0 : Int32} {p1 : Int32} {rr : Int32} (hF : F_J3_checkIndex_8e157 p0 p1 = some rr) : Met l yJ3_checkIndex_8e157 v_f_J3_checkIndex_8e157 (({ frames := 0, cells := 0, slots := 0, locals := 0 } : Room)) (va_Pc [.int p0, .int p1, .ref p2] (pP E [])) (vp_Si (fun q : Int32 => q = rr)) 0 0 (fun _ => False) := by
  refine Met.ofWF (cc := cJ3_checkIndex_8e157) (maxL := 3) (ret := (some .int)) (by decide +kernel) rfl ?_
  intro p e s m args below meth c s₁ B hml hv
  obtain ⟨rfl, ⟨hK, hN⟩, hP⟩ := hv
  have hx := B.exec
  have hb := B.bytes
  have hr := B.returns
  have hts := atoms_spec (ws := v_f_J3_checkIndex_8e157) B.pre
  have hown : s.vm.findClass RJ3 = some m.cls := own_of hd_J3_checkIndex_8e157.1 (findClass_of_methodNamed B.named)
  have hlocks : meth.locks = false := B.notSynchronized
  replace hP : va_P E.1 vwCl [] s.heap := hP
  have hl := lv_entry ([.int p0, .int p1, .ref p2]) (n := 3) (Nat.le_of_ble_eq_true rfl)
  rw [lg_entry_eq]
  generalize (lg_sl ([.int p0, .int p1, .ref p2]) ++ List.replicate (3 - (lg_sl ([.int p0, .int p1, .ref p2])).length) Slot.unset).toArray = ls at hl ⊢
  have hl : lv_has ls 3 [(0, .int p0), (1, .int p1), (2, .ref p2)] := hl
  obtain ⟨Q, hQ⟩ : ∃ Q : State → Prop, Q = MQ below (vp_Si (fun q : Int32 => q = rr)) #[Value.int p0, Value.int p1, Value.ref p2] s 0 0 (fun _ => False) := ⟨_, rfl⟩
  rw [← hQ]
  change W p l e ({ frames := 0, cells := 0, slots := 0, locals := 0 } : Room) s m #[Value.int p0, Value.int p1, Value.ref p2] below meth c s.heap [] 0 0 Q (F0 m 0 ls [])
  unfold F_J3_checkIndex_8e157 at hF
  refine lv_iload_n hx hb (dq_26 0 bcJ3_checkIndex_8e157_0 (j := 0) rfl rfl) rfl (lv_at hl 0 rfl) ?_
  refine lv_if_lt (tgt := 9) hx hb (dq_155 0 bcJ3_checkIndex_8e157_0 (j := 1) (i := 8) rfl rfl rfl) (by decide) (fun c_1 => ?_) (fun c_1 => ?_)
  ·
    replace hF := ip c_1 hF
    cases hF
  ·
    replace hF := inn c_1 hF
    refine lv_iload_n hx hb (dq_26 0 bcJ3_checkIndex_8e157_0 (j := 4) rfl rfl) rfl (lv_at hl 0 rfl) ?_
    refine lv_iload_n hx hb (dq_27 0 bcJ3_checkIndex_8e157_0 (j := 5) rfl rfl) rfl (lv_at hl 1 rfl) ?_
    refine lv_icmp_lt (tgt := 16) hx hb (dq_161 0 bcJ3_checkIndex_8e157_0 (j := 6) (i := 10) rfl rfl rfl) (by decide) (fun c_2 => ?_) (fun c_2 => ?_)
    ·
      replace hF := ip c_2 hF
      refine lv_iload_n hx hb (dq_26 0 bcJ3_checkIndex_8e157_0 (j := 16) rfl rfl) rfl (lv_at hl 0 rfl) ?_
      rw [hQ]
      obtain e9_0 := inj1 hF
      exact W.iret (v := p0) hx hb hr (fun tt ht hW => ⟨_, rfl, e9_0, ht⟩) (fun _ h => by cases h) (dq_172 0 bcJ3_checkIndex_8e157_0 (j := 17) rfl rfl)
    ·
      replace hF := inn c_2 hF
      cases hF

def F_J3_checkIndex_8e157null (p0 : Int32) (p1 : Int32) : Option (Int32) :=
  if p0 < (0 : Int32) then none else if p0 < p1 then some p0 else none

def v_f_J3_checkIndex_8e157null : List Cond := List.cons (.code yJ3_checkIndex_8e157 cJ3_checkIndex_8e157 3 (some .int)) (HAppend.hAppend (α := List Cond) (β := List Cond) (γ := List Cond) [] [])
theorem gw_f_J3_checkIndex_8e157null : v_f_J3_checkIndex_8e157null.all goodWord = true := gw_c2 (by decide +kernel) gw_nil
set_option maxHeartbeats 4000000 in
set_option maxRecDepth 100000 in
theorem f_J3_checkIndex_8e157null (l : Launch) (E : EE) {p0 : Int32} {p1 : Int32} {rr : Int32} (hF : F_J3_checkIndex_8e157null p0 p1 = some rr) : Met l yJ3_checkIndex_8e157 v_f_J3_checkIndex_8e157null (({ frames := 0, cells := 0, slots := 0, locals := 0 } : Room)) (va_Pc [.int p0, .int p1, .null] (pP E [])) (vp_Si (fun q : Int32 => q = rr)) 0 0 (fun _ => False) := by
  refine Met.ofWF (cc := cJ3_checkIndex_8e157) (maxL := 3) (ret := (some .int)) (by decide +kernel) rfl ?_
  intro p e s m args below meth c s₁ B hml hv
  obtain ⟨rfl, ⟨hK, hN⟩, hP⟩ := hv
  have hx := B.exec
  have hb := B.bytes
  have hr := B.returns
  have hts := atoms_spec (ws := v_f_J3_checkIndex_8e157null) B.pre
  have hown : s.vm.findClass RJ3 = some m.cls := own_of hd_J3_checkIndex_8e157.1 (findClass_of_methodNamed B.named)
  have hlocks : meth.locks = false := B.notSynchronized
  replace hP : va_P E.1 vwCl [] s.heap := hP
  have hl := lv_entry ([.int p0, .int p1, .null]) (n := 3) (Nat.le_of_ble_eq_true rfl)
  rw [lg_entry_eq]
  generalize (lg_sl ([.int p0, .int p1, .null]) ++ List.replicate (3 - (lg_sl ([.int p0, .int p1, .null])).length) Slot.unset).toArray = ls at hl ⊢
  have hl : lv_has ls 3 [(0, .int p0), (1, .int p1), (2, .null)] := hl
  obtain ⟨Q, hQ⟩ : ∃ Q : State → Prop, Q = MQ below (vp_Si (fun q : Int32 => q = rr)) #[Value.int p0, Value.int p1, Value.null] s 0 0 (fun _ => False) := ⟨_, rfl⟩
  rw [← hQ]
  change W p l e ({ frames := 0, cells := 0, slots := 0, locals := 0 } : Room) s m #[Value.int p0, Value.int p1, Value.null] below meth c s.heap [] 0 0 Q (F0 m 0 ls [])
  unfold F_J3_checkIndex_8e157null at hF
  refine lv_iload_n hx hb (dq_26 0 bcJ3_checkIndex_8e157_0 (j := 0) rfl rfl) rfl (lv_at hl 0 rfl) ?_
  refine lv_if_lt (tgt := 9) hx hb (dq_155 0 bcJ3_checkIndex_8e157_0 (j := 1) (i := 8) rfl rfl rfl) (by decide) (fun c_1 => ?_) (fun c_1 => ?_)
  ·
    replace hF := ip c_1 hF
    cases hF
  ·
    replace hF := inn c_1 hF
    refine lv_iload_n hx hb (dq_26 0 bcJ3_checkIndex_8e157_0 (j := 4) rfl rfl) rfl (lv_at hl 0 rfl) ?_
    refine lv_iload_n hx hb (dq_27 0 bcJ3_checkIndex_8e157_0 (j := 5) rfl rfl) rfl (lv_at hl 1 rfl) ?_
    refine lv_icmp_lt (tgt := 16) hx hb (dq_161 0 bcJ3_checkIndex_8e157_0 (j := 6) (i := 10) rfl rfl rfl) (by decide) (fun c_2 => ?_) (fun c_2 => ?_)
    ·
      replace hF := ip c_2 hF
      refine lv_iload_n hx hb (dq_26 0 bcJ3_checkIndex_8e157_0 (j := 16) rfl rfl) rfl (lv_at hl 0 rfl) ?_
      rw [hQ]
      obtain e9_0 := inj1 hF
      exact W.iret (v := p0) hx hb hr (fun tt ht hW => ⟨_, rfl, e9_0, ht⟩) (fun _ h => by cases h) (dq_172 0 bcJ3_checkIndex_8e157_0 (j := 17) rfl rfl)
    ·
      replace hF := inn c_2 hF
      cases hF

def F_J6_bitCount_0f7a4 (p0 : Int32) : Option (Int32) :=
  some ((((((((p0 - ((ushrF p0 (1 : Int32)) &&& (1431655765 : Int32))) &&& (858993459 : Int32)) + ((ushrF (p0 - ((ushrF p0 (1 : Int32)) &&& (1431655765 : Int32))) (2 : Int32)) &&& (858993459 : Int32))) + (ushrF (((p0 - ((ushrF p0 (1 : Int32)) &&& (1431655765 : Int32))) &&& (858993459 : Int32)) + ((ushrF (p0 - ((ushrF p0 (1 : Int32)) &&& (1431655765 : Int32))) (2 : Int32)) &&& (858993459 : Int32))) (4 : Int32))) &&& (252645135 : Int32)) + (ushrF (((((p0 - ((ushrF p0 (1 : Int32)) &&& (1431655765 : Int32))) &&& (858993459 : Int32)) + ((ushrF (p0 - ((ushrF p0 (1 : Int32)) &&& (1431655765 : Int32))) (2 : Int32)) &&& (858993459 : Int32))) + (ushrF (((p0 - ((ushrF p0 (1 : Int32)) &&& (1431655765 : Int32))) &&& (858993459 : Int32)) + ((ushrF (p0 - ((ushrF p0 (1 : Int32)) &&& (1431655765 : Int32))) (2 : Int32)) &&& (858993459 : Int32))) (4 : Int32))) &&& (252645135 : Int32)) (8 : Int32))) + (ushrF ((((((p0 - ((ushrF p0 (1 : Int32)) &&& (1431655765 : Int32))) &&& (858993459 : Int32)) + ((ushrF (p0 - ((ushrF p0 (1 : Int32)) &&& (1431655765 : Int32))) (2 : Int32)) &&& (858993459 : Int32))) + (ushrF (((p0 - ((ushrF p0 (1 : Int32)) &&& (1431655765 : Int32))) &&& (858993459 : Int32)) + ((ushrF (p0 - ((ushrF p0 (1 : Int32)) &&& (1431655765 : Int32))) (2 : Int32)) &&& (858993459 : Int32))) (4 : Int32))) &&& (252645135 : Int32)) + (ushrF (((((p0 - ((ushrF p0 (1 : Int32)) &&& (1431655765 : Int32))) &&& (858993459 : Int32)) + ((ushrF (p0 - ((ushrF p0 (1 : Int32)) &&& (1431655765 : Int32))) (2 : Int32)) &&& (858993459 : Int32))) + (ushrF (((p0 - ((ushrF p0 (1 : Int32)) &&& (1431655765 : Int32))) &&& (858993459 : Int32)) + ((ushrF (p0 - ((ushrF p0 (1 : Int32)) &&& (1431655765 : Int32))) (2 : Int32)) &&& (858993459 : Int32))) (4 : Int32))) &&& (252645135 : Int32)) (8 : Int32))) (16 : Int32))) &&& (63 : Int32))

def v_f_J6_bitCount_0f7a4 : List Cond := List.cons (.code yJ6_bitCount_0f7a4 cJ6_bitCount_0f7a4 1 (some .int)) (HAppend.hAppend (α := List Cond) (β := List Cond) (γ := List Cond) [.constant RJ6 265 (1431655765), .constant RJ6 266 (858993459), .constant RJ6 267 (252645135)] [])
theorem gw_f_J6_bitCount_0f7a4 : v_f_J6_bitCount_0f7a4.all goodWord = true := gw_c2 (by decide +kernel) gw_nil
theorem hd_J6_bitCount_0f7a4 : yJ6_bitCount_0f7a4.cls = RJ6 ∧ yJ6_bitCount_0f7a4.cls ≠ "java/lang/invoke/MethodHandle" ∧ yJ6_bitCount_0f7a4.cls ≠ "java/lang/invoke/VarHandle" ∧ (parseMethodDescriptor yJ6_bitCount_0f7a4.desc).map (fun d => d.parameters.length) = some 1 := by decide +kernel
set_option maxHeartbeats 4000000 in
set_option maxRecDepth 100000 in
theorem f_J6_bitCount_0f7a4 (l : Launch) (E : EE) {p0 : Int32} {rr : Int32} (hF : F_J6_bitCount_0f7a4 p0 = some rr) : Met l yJ6_bitCount_0f7a4 v_f_J6_bitCount_0f7a4 (({ frames := 0, cells := 0, slots := 0, locals := 0 } : Room)) (va_Pc [.int p0] (pP E [])) (vp_Si (fun q : Int32 => q = rr)) 0 0 (fun _ => False) := by
  refine Met.ofWF (cc := cJ6_bitCount_0f7a4) (maxL := 1) (ret := (some .int)) (by decide +kernel) rfl ?_
  intro p e s m args below meth c s₁ B hml hv
  obtain ⟨rfl, ⟨hK, hN⟩, hP⟩ := hv
  have hx := B.exec
  have hb := B.bytes
  have hr := B.returns
  have hts := atoms_spec (ws := v_f_J6_bitCount_0f7a4) B.pre
  have hown : s.vm.findClass RJ6 = some m.cls := own_of hd_J6_bitCount_0f7a4.1 (findClass_of_methodNamed B.named)
  have hlocks : meth.locks = false := B.notSynchronized
  replace hP : va_P E.1 vwCl [] s.heap := hP
  have hl := lv_entry ([.int p0]) (n := 1) (Nat.le_of_ble_eq_true rfl)
  rw [lg_entry_eq]
  generalize (lg_sl ([.int p0]) ++ List.replicate (1 - (lg_sl ([.int p0])).length) Slot.unset).toArray = ls at hl ⊢
  have hl : lv_has ls 1 [(0, .int p0)] := hl
  obtain ⟨Q, hQ⟩ : ∃ Q : State → Prop, Q = MQ below (vp_Si (fun q : Int32 => q = rr)) #[Value.int p0] s 0 0 (fun _ => False) := ⟨_, rfl⟩
  rw [← hQ]
  change W p l e ({ frames := 0, cells := 0, slots := 0, locals := 0 } : Room) s m #[Value.int p0] below meth c s.heap [] 0 0 Q (F0 m 0 ls [])
  unfold F_J6_bitCount_0f7a4 at hF
  refine lv_iload_n hx hb (dq_26 0 bcJ6_bitCount_0f7a4_0 (j := 0) rfl rfl) rfl (lv_at hl 0 rfl) ?_
  refine lv_iload_n hx hb (dq_26 0 bcJ6_bitCount_0f7a4_0 (j := 1) rfl rfl) rfl (lv_at hl 0 rfl) ?_
  refine lv_iconst (v := 1) hx hb (dq_4 0 bcJ6_bitCount_0f7a4_0 (j := 2) rfl rfl) (by decide) ?_
  refine lv_iushr (v := (ushrF p0 (1 : Int32))) hx hb (dq_124 0 bcJ6_bitCount_0f7a4_0 (j := 3) rfl rfl) rfl ?_
  refine lv_ldcw (v := 1431655765) hx hb hown (hts (.constant RJ6 265 (1431655765)) (List.mem_of_getElem? (i := 1) rfl)) (dq_19 0 bcJ6_bitCount_0f7a4_0 (j := 4) (i := 265) rfl rfl rfl) ?_
  refine lv_iand hx hb (dq_126 0 bcJ6_bitCount_0f7a4_0 (j := 7) rfl rfl) ?_
  refine lv_isub hx hb (dq_100 0 bcJ6_bitCount_0f7a4_0 (j := 8) rfl rfl) ?_
  refine lv_istore_n (lv' := [(0, .int (p0 - ((ushrF p0 (1 : Int32)) &&& (1431655765 : Int32))))]) hx hb (dq_59 0 bcJ6_bitCount_0f7a4_0 (j := 9) rfl rfl) rfl hl (by decide) rfl (fun ls hl => ?_)
  refine lv_iload_n hx hb (dq_26 0 bcJ6_bitCount_0f7a4_0 (j := 10) rfl rfl) rfl (lv_at hl 0 rfl) ?_
  refine lv_ldcw (v := 858993459) hx hb hown (hts (.constant RJ6 266 (858993459)) (List.mem_of_getElem? (i := 2) rfl)) (dq_19 0 bcJ6_bitCount_0f7a4_0 (j := 11) (i := 266) rfl rfl rfl) ?_
  refine lv_iand hx hb (dq_126 0 bcJ6_bitCount_0f7a4_0 (j := 14) rfl rfl) ?_
  refine lv_iload_n hx hb (dq_26 0 bcJ6_bitCount_0f7a4_0 (j := 15) rfl rfl) rfl (lv_at hl 0 rfl) ?_
  refine lv_iconst (v := 2) hx hb (dq_5 0 bcJ6_bitCount_0f7a4_0 (j := 16) rfl rfl) (by decide) ?_
  refine lv_iushr (v := (ushrF (p0 - ((ushrF p0 (1 : Int32)) &&& (1431655765 : Int32))) (2 : Int32))) hx hb (dq_124 0 bcJ6_bitCount_0f7a4_0 (j := 17) rfl rfl) rfl ?_
  refine lv_ldcw (v := 858993459) hx hb hown (hts (.constant RJ6 266 (858993459)) (List.mem_of_getElem? (i := 2) rfl)) (dq_19 0 bcJ6_bitCount_0f7a4_0 (j := 18) (i := 266) rfl rfl rfl) ?_
  refine lv_iand hx hb (dq_126 0 bcJ6_bitCount_0f7a4_0 (j := 21) rfl rfl) ?_
  refine lv_iadd hx hb (dq_96 0 bcJ6_bitCount_0f7a4_0 (j := 22) rfl rfl) ?_
  refine lv_istore_n (lv' := [(0, .int (((p0 - ((ushrF p0 (1 : Int32)) &&& (1431655765 : Int32))) &&& (858993459 : Int32)) + ((ushrF (p0 - ((ushrF p0 (1 : Int32)) &&& (1431655765 : Int32))) (2 : Int32)) &&& (858993459 : Int32))))]) hx hb (dq_59 0 bcJ6_bitCount_0f7a4_0 (j := 23) rfl rfl) rfl hl (by decide) rfl (fun ls hl => ?_)
  refine lv_iload_n hx hb (dq_26 0 bcJ6_bitCount_0f7a4_0 (j := 24) rfl rfl) rfl (lv_at hl 0 rfl) ?_
  refine lv_iload_n hx hb (dq_26 0 bcJ6_bitCount_0f7a4_0 (j := 25) rfl rfl) rfl (lv_at hl 0 rfl) ?_
  refine lv_iconst (v := 4) hx hb (dq_7 0 bcJ6_bitCount_0f7a4_0 (j := 26) rfl rfl) (by decide) ?_
  refine lv_iushr (v := (ushrF (((p0 - ((ushrF p0 (1 : Int32)) &&& (1431655765 : Int32))) &&& (858993459 : Int32)) + ((ushrF (p0 - ((ushrF p0 (1 : Int32)) &&& (1431655765 : Int32))) (2 : Int32)) &&& (858993459 : Int32))) (4 : Int32))) hx hb (dq_124 0 bcJ6_bitCount_0f7a4_0 (j := 27) rfl rfl) rfl ?_
  refine lv_iadd hx hb (dq_96 0 bcJ6_bitCount_0f7a4_0 (j := 28) rfl rfl) ?_
  refine lv_ldcw (v := 252645135) hx hb hown (hts (.constant RJ6 267 (252645135)) (List.mem_of_getElem? (i := 3) rfl)) (dq_19 0 bcJ6_bitCount_0f7a4_0 (j := 29) (i := 267) rfl rfl rfl) ?_
  refine lv_iand hx hb (dq_126 0 bcJ6_bitCount_0f7a4_0 (j := 32) rfl rfl) ?_
  refine lv_istore_n (lv' := [(0, .int (((((p0 - ((ushrF p0 (1 : Int32)) &&& (1431655765 : Int32))) &&& (858993459 : Int32)) + ((ushrF (p0 - ((ushrF p0 (1 : Int32)) &&& (1431655765 : Int32))) (2 : Int32)) &&& (858993459 : Int32))) + (ushrF (((p0 - ((ushrF p0 (1 : Int32)) &&& (1431655765 : Int32))) &&& (858993459 : Int32)) + ((ushrF (p0 - ((ushrF p0 (1 : Int32)) &&& (1431655765 : Int32))) (2 : Int32)) &&& (858993459 : Int32))) (4 : Int32))) &&& (252645135 : Int32)))]) hx hb (dq_59 0 bcJ6_bitCount_0f7a4_0 (j := 33) rfl rfl) rfl hl (by decide) rfl (fun ls hl => ?_)
  refine lv_iload_n hx hb (dq_26 0 bcJ6_bitCount_0f7a4_0 (j := 34) rfl rfl) rfl (lv_at hl 0 rfl) ?_
  refine lv_iload_n hx hb (dq_26 0 bcJ6_bitCount_0f7a4_0 (j := 35) rfl rfl) rfl (lv_at hl 0 rfl) ?_
  refine lv_bipush (v := 8) hx hb (dq_16 0 bcJ6_bitCount_0f7a4_0 (j := 36) (i := 8) rfl rfl rfl) (by decide) ?_
  refine lv_iushr (v := (ushrF (((((p0 - ((ushrF p0 (1 : Int32)) &&& (1431655765 : Int32))) &&& (858993459 : Int32)) + ((ushrF (p0 - ((ushrF p0 (1 : Int32)) &&& (1431655765 : Int32))) (2 : Int32)) &&& (858993459 : Int32))) + (ushrF (((p0 - ((ushrF p0 (1 : Int32)) &&& (1431655765 : Int32))) &&& (858993459 : Int32)) + ((ushrF (p0 - ((ushrF p0 (1 : Int32)) &&& (1431655765 : Int32))) (2 : Int32)) &&& (858993459 : Int32))) (4 : Int32))) &&& (252645135 : Int32)) (8 : Int32))) hx hb (dq_124 0 bcJ6_bitCount_0f7a4_0 (j := 38) rfl rfl) rfl ?_
  refine lv_iadd hx hb (dq_96 0 bcJ6_bitCount_0f7a4_0 (j := 39) rfl rfl) ?_
  refine lv_istore_n (lv' := [(0, .int ((((((p0 - ((ushrF p0 (1 : Int32)) &&& (1431655765 : Int32))) &&& (858993459 : Int32)) + ((ushrF (p0 - ((ushrF p0 (1 : Int32)) &&& (1431655765 : Int32))) (2 : Int32)) &&& (858993459 : Int32))) + (ushrF (((p0 - ((ushrF p0 (1 : Int32)) &&& (1431655765 : Int32))) &&& (858993459 : Int32)) + ((ushrF (p0 - ((ushrF p0 (1 : Int32)) &&& (1431655765 : Int32))) (2 : Int32)) &&& (858993459 : Int32))) (4 : Int32))) &&& (252645135 : Int32)) + (ushrF (((((p0 - ((ushrF p0 (1 : Int32)) &&& (1431655765 : Int32))) &&& (858993459 : Int32)) + ((ushrF (p0 - ((ushrF p0 (1 : Int32)) &&& (1431655765 : Int32))) (2 : Int32)) &&& (858993459 : Int32))) + (ushrF (((p0 - ((ushrF p0 (1 : Int32)) &&& (1431655765 : Int32))) &&& (858993459 : Int32)) + ((ushrF (p0 - ((ushrF p0 (1 : Int32)) &&& (1431655765 : Int32))) (2 : Int32)) &&& (858993459 : Int32))) (4 : Int32))) &&& (252645135 : Int32)) (8 : Int32))))]) hx hb (dq_59 0 bcJ6_bitCount_0f7a4_0 (j := 40) rfl rfl) rfl hl (by decide) rfl (fun ls hl => ?_)
  refine lv_iload_n hx hb (dq_26 0 bcJ6_bitCount_0f7a4_0 (j := 41) rfl rfl) rfl (lv_at hl 0 rfl) ?_
  refine lv_iload_n hx hb (dq_26 0 bcJ6_bitCount_0f7a4_0 (j := 42) rfl rfl) rfl (lv_at hl 0 rfl) ?_
  refine lv_bipush (v := 16) hx hb (dq_16 0 bcJ6_bitCount_0f7a4_0 (j := 43) (i := 16) rfl rfl rfl) (by decide) ?_
  refine lv_iushr (v := (ushrF ((((((p0 - ((ushrF p0 (1 : Int32)) &&& (1431655765 : Int32))) &&& (858993459 : Int32)) + ((ushrF (p0 - ((ushrF p0 (1 : Int32)) &&& (1431655765 : Int32))) (2 : Int32)) &&& (858993459 : Int32))) + (ushrF (((p0 - ((ushrF p0 (1 : Int32)) &&& (1431655765 : Int32))) &&& (858993459 : Int32)) + ((ushrF (p0 - ((ushrF p0 (1 : Int32)) &&& (1431655765 : Int32))) (2 : Int32)) &&& (858993459 : Int32))) (4 : Int32))) &&& (252645135 : Int32)) + (ushrF (((((p0 - ((ushrF p0 (1 : Int32)) &&& (1431655765 : Int32))) &&& (858993459 : Int32)) + ((ushrF (p0 - ((ushrF p0 (1 : Int32)) &&& (1431655765 : Int32))) (2 : Int32)) &&& (858993459 : Int32))) + (ushrF (((p0 - ((ushrF p0 (1 : Int32)) &&& (1431655765 : Int32))) &&& (858993459 : Int32)) + ((ushrF (p0 - ((ushrF p0 (1 : Int32)) &&& (1431655765 : Int32))) (2 : Int32)) &&& (858993459 : Int32))) (4 : Int32))) &&& (252645135 : Int32)) (8 : Int32))) (16 : Int32))) hx hb (dq_124 0 bcJ6_bitCount_0f7a4_0 (j := 45) rfl rfl) rfl ?_
  refine lv_iadd hx hb (dq_96 0 bcJ6_bitCount_0f7a4_0 (j := 46) rfl rfl) ?_
  refine lv_istore_n (lv' := [(0, .int (((((((p0 - ((ushrF p0 (1 : Int32)) &&& (1431655765 : Int32))) &&& (858993459 : Int32)) + ((ushrF (p0 - ((ushrF p0 (1 : Int32)) &&& (1431655765 : Int32))) (2 : Int32)) &&& (858993459 : Int32))) + (ushrF (((p0 - ((ushrF p0 (1 : Int32)) &&& (1431655765 : Int32))) &&& (858993459 : Int32)) + ((ushrF (p0 - ((ushrF p0 (1 : Int32)) &&& (1431655765 : Int32))) (2 : Int32)) &&& (858993459 : Int32))) (4 : Int32))) &&& (252645135 : Int32)) + (ushrF (((((p0 - ((ushrF p0 (1 : Int32)) &&& (1431655765 : Int32))) &&& (858993459 : Int32)) + ((ushrF (p0 - ((ushrF p0 (1 : Int32)) &&& (1431655765 : Int32))) (2 : Int32)) &&& (858993459 : Int32))) + (ushrF (((p0 - ((ushrF p0 (1 : Int32)) &&& (1431655765 : Int32))) &&& (858993459 : Int32)) + ((ushrF (p0 - ((ushrF p0 (1 : Int32)) &&& (1431655765 : Int32))) (2 : Int32)) &&& (858993459 : Int32))) (4 : Int32))) &&& (252645135 : Int32)) (8 : Int32))) + (ushrF ((((((p0 - ((ushrF p0 (1 : Int32)) &&& (1431655765 : Int32))) &&& (858993459 : Int32)) + ((ushrF (p0 - ((ushrF p0 (1 : Int32)) &&& (1431655765 : Int32))) (2 : Int32)) &&& (858993459 : Int32))) + (ushrF (((p0 - ((ushrF p0 (1 : Int32)) &&& (1431655765 : Int32))) &&& (858993459 : Int32)) + ((ushrF (p0 - ((ushrF p0 (1 : Int32)) &&& (1431655765 : Int32))) (2 : Int32)) &&& (858993459 : Int32))) (4 : Int32))) &&& (252645135 : Int32)) + (ushrF (((((p0 - ((ushrF p0 (1 : Int32)) &&& (1431655765 : Int32))) &&& (858993459 : Int32)) + ((ushrF (p0 - ((ushrF p0 (1 : Int32)) &&& (1431655765 : Int32))) (2 : Int32)) &&& (858993459 : Int32))) + (ushrF (((p0 - ((ushrF p0 (1 : Int32)) &&& (1431655765 : Int32))) &&& (858993459 : Int32)) + ((ushrF (p0 - ((ushrF p0 (1 : Int32)) &&& (1431655765 : Int32))) (2 : Int32)) &&& (858993459 : Int32))) (4 : Int32))) &&& (252645135 : Int32)) (8 : Int32))) (16 : Int32))))]) hx hb (dq_59 0 bcJ6_bitCount_0f7a4_0 (j := 47) rfl rfl) rfl hl (by decide) rfl (fun ls hl => ?_)
  refine lv_iload_n hx hb (dq_26 48 bcJ6_bitCount_0f7a4_1 (j := 0) rfl rfl) rfl (lv_at hl 0 rfl) ?_
  refine lv_bipush (v := 63) hx hb (dq_16 48 bcJ6_bitCount_0f7a4_1 (j := 1) (i := 63) rfl rfl rfl) (by decide) ?_
  refine lv_iand hx hb (dq_126 48 bcJ6_bitCount_0f7a4_1 (j := 3) rfl rfl) ?_
  rw [hQ]
  obtain e9_0 := inj1 hF
  exact W.iret (v := (((((((p0 - ((ushrF p0 (1 : Int32)) &&& (1431655765 : Int32))) &&& (858993459 : Int32)) + ((ushrF (p0 - ((ushrF p0 (1 : Int32)) &&& (1431655765 : Int32))) (2 : Int32)) &&& (858993459 : Int32))) + (ushrF (((p0 - ((ushrF p0 (1 : Int32)) &&& (1431655765 : Int32))) &&& (858993459 : Int32)) + ((ushrF (p0 - ((ushrF p0 (1 : Int32)) &&& (1431655765 : Int32))) (2 : Int32)) &&& (858993459 : Int32))) (4 : Int32))) &&& (252645135 : Int32)) + (ushrF (((((p0 - ((ushrF p0 (1 : Int32)) &&& (1431655765 : Int32))) &&& (858993459 : Int32)) + ((ushrF (p0 - ((ushrF p0 (1 : Int32)) &&& (1431655765 : Int32))) (2 : Int32)) &&& (858993459 : Int32))) + (ushrF (((p0 - ((ushrF p0 (1 : Int32)) &&& (1431655765 : Int32))) &&& (858993459 : Int32)) + ((ushrF (p0 - ((ushrF p0 (1 : Int32)) &&& (1431655765 : Int32))) (2 : Int32)) &&& (858993459 : Int32))) (4 : Int32))) &&& (252645135 : Int32)) (8 : Int32))) + (ushrF ((((((p0 - ((ushrF p0 (1 : Int32)) &&& (1431655765 : Int32))) &&& (858993459 : Int32)) + ((ushrF (p0 - ((ushrF p0 (1 : Int32)) &&& (1431655765 : Int32))) (2 : Int32)) &&& (858993459 : Int32))) + (ushrF (((p0 - ((ushrF p0 (1 : Int32)) &&& (1431655765 : Int32))) &&& (858993459 : Int32)) + ((ushrF (p0 - ((ushrF p0 (1 : Int32)) &&& (1431655765 : Int32))) (2 : Int32)) &&& (858993459 : Int32))) (4 : Int32))) &&& (252645135 : Int32)) + (ushrF (((((p0 - ((ushrF p0 (1 : Int32)) &&& (1431655765 : Int32))) &&& (858993459 : Int32)) + ((ushrF (p0 - ((ushrF p0 (1 : Int32)) &&& (1431655765 : Int32))) (2 : Int32)) &&& (858993459 : Int32))) + (ushrF (((p0 - ((ushrF p0 (1 : Int32)) &&& (1431655765 : Int32))) &&& (858993459 : Int32)) + ((ushrF (p0 - ((ushrF p0 (1 : Int32)) &&& (1431655765 : Int32))) (2 : Int32)) &&& (858993459 : Int32))) (4 : Int32))) &&& (252645135 : Int32)) (8 : Int32))) (16 : Int32))) &&& (63 : Int32)) hx hb hr (fun tt ht hW => ⟨_, rfl, e9_0, ht⟩) (fun _ h => by cases h) (dq_172 48 bcJ6_bitCount_0f7a4_1 (j := 4) rfl rfl)

def F_J9_floorDiv_7cf53 (p0 : Int32) (p1 : Int32) : Option (Int32) :=
  nzI p1 (if (0 : Int32) ≤ p0 ^^^ p1 then some (p0 / p1) else if (p0 / p1) * p1 = p0 then some (p0 / p1) else some ((p0 / p1) - (1 : Int32)))

def v_f_J9_floorDiv_7cf53 : List Cond := List.cons (.code yJ9_floorDiv_7cf53 cJ9_floorDiv_7cf53 3 (some .int)) (HAppend.hAppend (α := List Cond) (β := List Cond) (γ := List Cond) [] [])
theorem gw_f_J9_floorDiv_7cf53 : v_f_J9_floorDiv_7cf53.all goodWord = true := gw_c2 (by decide +kernel) gw_nil
theorem hd_J9_floorDiv_7cf53 : yJ9_floorDiv_7cf53.cls = RJ9 ∧ yJ9_floorDiv_7cf53.cls ≠ "java/lang/invoke/MethodHandle" ∧ yJ9_floorDiv_7cf53.cls ≠ "java/lang/invoke/VarHandle" ∧ (parseMethodDescriptor yJ9_floorDiv_7cf53.desc).map (fun d => d.parameters.length) = some 2 := by decide +kernel
set_option maxHeartbeats 4000000 in
set_option maxRecDepth 100000 in
theorem f_J9_floorDiv_7cf53 (l : Launch) (E : EE) {p0 : Int32} {p1 : Int32} {rr : Int32} (hF : F_J9_floorDiv_7cf53 p0 p1 = some rr) : Met l yJ9_floorDiv_7cf53 v_f_J9_floorDiv_7cf53 (({ frames := 0, cells := 0, slots := 0, locals := 0 } : Room)) (va_Pc [.int p0, .int p1] (pP E [])) (vp_Si (fun q : Int32 => q = rr)) 0 0 (fun _ => False) := by
  refine Met.ofWF (cc := cJ9_floorDiv_7cf53) (maxL := 3) (ret := (some .int)) (by decide +kernel) rfl ?_
  intro p e s m args below meth c s₁ B hml hv
  obtain ⟨rfl, ⟨hK, hN⟩, hP⟩ := hv
  have hx := B.exec
  have hb := B.bytes
  have hr := B.returns
  have hts := atoms_spec (ws := v_f_J9_floorDiv_7cf53) B.pre
  have hown : s.vm.findClass RJ9 = some m.cls := own_of hd_J9_floorDiv_7cf53.1 (findClass_of_methodNamed B.named)
  have hlocks : meth.locks = false := B.notSynchronized
  replace hP : va_P E.1 vwCl [] s.heap := hP
  have hl := lv_entry ([.int p0, .int p1]) (n := 3) (Nat.le_of_ble_eq_true rfl)
  rw [lg_entry_eq]
  generalize (lg_sl ([.int p0, .int p1]) ++ List.replicate (3 - (lg_sl ([.int p0, .int p1])).length) Slot.unset).toArray = ls at hl ⊢
  have hl : lv_has ls 3 [(0, .int p0), (1, .int p1)] := hl
  obtain ⟨Q, hQ⟩ : ∃ Q : State → Prop, Q = MQ below (vp_Si (fun q : Int32 => q = rr)) #[Value.int p0, Value.int p1] s 0 0 (fun _ => False) := ⟨_, rfl⟩
  rw [← hQ]
  change W p l e ({ frames := 0, cells := 0, slots := 0, locals := 0 } : Room) s m #[Value.int p0, Value.int p1] below meth c s.heap [] 0 0 Q (F0 m 0 ls [])
  unfold F_J9_floorDiv_7cf53 at hF
  refine lv_iload_n hx hb (dq_26 0 bcJ9_floorDiv_7cf53_0 (j := 0) rfl rfl) rfl (lv_at hl 0 rfl) ?_
  refine lv_iload_n hx hb (dq_27 0 bcJ9_floorDiv_7cf53_0 (j := 1) rfl rfl) rfl (lv_at hl 1 rfl) ?_
  replace hF := nzI_s hF
  obtain ⟨hz_1, hF⟩ := hF
  refine lv_idiv hx hb (dq_108 0 bcJ9_floorDiv_7cf53_0 (j := 2) rfl rfl) (hz_1) ?_
  refine lv_istore_n (lv' := [(2, .int (p0 / p1)), (0, .int p0), (1, .int p1)]) hx hb (dq_61 0 bcJ9_floorDiv_7cf53_0 (j := 3) rfl rfl) rfl hl (by decide) rfl (fun ls hl => ?_)
  refine lv_iload_n hx hb (dq_26 0 bcJ9_floorDiv_7cf53_0 (j := 4) rfl rfl) rfl (lv_at hl 1 rfl) ?_
  refine lv_iload_n hx hb (dq_27 0 bcJ9_floorDiv_7cf53_0 (j := 5) rfl rfl) rfl (lv_at hl 2 rfl) ?_
  refine lv_ixor hx hb (dq_130 0 bcJ9_floorDiv_7cf53_0 (j := 6) rfl rfl) ?_
  refine lv_if_ge (tgt := 21) hx hb (dq_156 0 bcJ9_floorDiv_7cf53_0 (j := 7) (i := 14) rfl rfl rfl) (by decide) (fun c_2 => ?_) (fun c_2 => ?_)
  ·
    replace hF := ip c_2 hF
    refine lv_iload_n hx hb (dq_28 0 bcJ9_floorDiv_7cf53_0 (j := 21) rfl rfl) rfl (lv_at hl 0 rfl) ?_
    rw [hQ]
    obtain e9_0 := inj1 hF
    exact W.iret (v := p0 / p1) hx hb hr (fun tt ht hW => ⟨_, rfl, e9_0, ht⟩) (fun _ h => by cases h) (dq_172 0 bcJ9_floorDiv_7cf53_0 (j := 22) rfl rfl)
  ·
    replace hF := inn c_2 hF
    refine lv_iload_n hx hb (dq_28 0 bcJ9_floorDiv_7cf53_0 (j := 10) rfl rfl) rfl (lv_at hl 0 rfl) ?_
    refine lv_iload_n hx hb (dq_27 0 bcJ9_floorDiv_7cf53_0 (j := 11) rfl rfl) rfl (lv_at hl 2 rfl) ?_
    refine lv_imul hx hb (dq_104 0 bcJ9_floorDiv_7cf53_0 (j := 12) rfl rfl) ?_
    refine lv_iload_n hx hb (dq_26 0 bcJ9_floorDiv_7cf53_0 (j := 13) rfl rfl) rfl (lv_at hl 1 rfl) ?_
    refine lv_icmp_eq (tgt := 21) hx hb (dq_159 0 bcJ9_floorDiv_7cf53_0 (j := 14) (i := 7) rfl rfl rfl) (by decide) (fun c_3 => ?_) (fun c_3 => ?_)
    ·
      replace hF := ip c_3 hF
      refine lv_iload_n hx hb (dq_28 0 bcJ9_floorDiv_7cf53_0 (j := 21) rfl rfl) rfl (lv_at hl 0 rfl) ?_
      rw [hQ]
      obtain e9_0 := inj1 hF
      exact W.iret (v := p0 / p1) hx hb hr (fun tt ht hW => ⟨_, rfl, e9_0, ht⟩) (fun _ h => by cases h) (dq_172 0 bcJ9_floorDiv_7cf53_0 (j := 22) rfl rfl)
    ·
      replace hF := inn c_3 hF
      refine lv_iload_n hx hb (dq_28 0 bcJ9_floorDiv_7cf53_0 (j := 17) rfl rfl) rfl (lv_at hl 0 rfl) ?_
      refine lv_iconst (v := 1) hx hb (dq_4 0 bcJ9_floorDiv_7cf53_0 (j := 18) rfl rfl) (by decide) ?_
      refine lv_isub hx hb (dq_100 0 bcJ9_floorDiv_7cf53_0 (j := 19) rfl rfl) ?_
      rw [hQ]
      obtain e9_0 := inj1 hF
      exact W.iret (v := (p0 / p1) - (1 : Int32)) hx hb hr (fun tt ht hW => ⟨_, rfl, e9_0, ht⟩) (fun _ h => by cases h) (dq_172 0 bcJ9_floorDiv_7cf53_0 (j := 20) rfl rfl)

def F_J9_floorMod_7cf53 (p0 : Int32) (p1 : Int32) : Option (Int32) :=
  nzI p1 (if (0 : Int32) ≤ p0 ^^^ p1 then some (p0 - p0 / p1 * p1) else if p0 - p0 / p1 * p1 = (0 : Int32) then some (p0 - p0 / p1 * p1) else some ((p0 - p0 / p1 * p1) + p1))

def v_f_J9_floorMod_7cf53 : List Cond := List.cons (.code yJ9_floorMod_7cf53 cJ9_floorMod_7cf53 3 (some .int)) (HAppend.hAppend (α := List Cond) (β := List Cond) (γ := List Cond) [] [])
theorem gw_f_J9_floorMod_7cf53 : v_f_J9_floorMod_7cf53.all goodWord = true := gw_c2 (by decide +kernel) gw_nil
theorem hd_J9_floorMod_7cf53 : yJ9_floorMod_7cf53.cls = RJ9 ∧ yJ9_floorMod_7cf53.cls ≠ "java/lang/invoke/MethodHandle" ∧ yJ9_floorMod_7cf53.cls ≠ "java/lang/invoke/VarHandle" ∧ (parseMethodDescriptor yJ9_floorMod_7cf53.desc).map (fun d => d.parameters.length) = some 2 := by decide +kernel
set_option maxHeartbeats 4000000 in
set_option maxRecDepth 100000 in
theorem f_J9_floorMod_7cf53 (l : Launch) (E : EE) {p0 : Int32} {p1 : Int32} {rr : Int32} (hF : F_J9_floorMod_7cf53 p0 p1 = some rr) : Met l yJ9_floorMod_7cf53 v_f_J9_floorMod_7cf53 (({ frames := 0, cells := 0, slots := 0, locals := 0 } : Room)) (va_Pc [.int p0, .int p1] (pP E [])) (vp_Si (fun q : Int32 => q = rr)) 0 0 (fun _ => False) := by
  refine Met.ofWF (cc := cJ9_floorMod_7cf53) (maxL := 3) (ret := (some .int)) (by decide +kernel) rfl ?_
  intro p e s m args below meth c s₁ B hml hv
  obtain ⟨rfl, ⟨hK, hN⟩, hP⟩ := hv
  have hx := B.exec
  have hb := B.bytes
  have hr := B.returns
  have hts := atoms_spec (ws := v_f_J9_floorMod_7cf53) B.pre
  have hown : s.vm.findClass RJ9 = some m.cls := own_of hd_J9_floorMod_7cf53.1 (findClass_of_methodNamed B.named)
  have hlocks : meth.locks = false := B.notSynchronized
  replace hP : va_P E.1 vwCl [] s.heap := hP
  have hl := lv_entry ([.int p0, .int p1]) (n := 3) (Nat.le_of_ble_eq_true rfl)
  rw [lg_entry_eq]
  generalize (lg_sl ([.int p0, .int p1]) ++ List.replicate (3 - (lg_sl ([.int p0, .int p1])).length) Slot.unset).toArray = ls at hl ⊢
  have hl : lv_has ls 3 [(0, .int p0), (1, .int p1)] := hl
  obtain ⟨Q, hQ⟩ : ∃ Q : State → Prop, Q = MQ below (vp_Si (fun q : Int32 => q = rr)) #[Value.int p0, Value.int p1] s 0 0 (fun _ => False) := ⟨_, rfl⟩
  rw [← hQ]
  change W p l e ({ frames := 0, cells := 0, slots := 0, locals := 0 } : Room) s m #[Value.int p0, Value.int p1] below meth c s.heap [] 0 0 Q (F0 m 0 ls [])
  unfold F_J9_floorMod_7cf53 at hF
  refine lv_iload_n hx hb (dq_26 0 bcJ9_floorMod_7cf53_0 (j := 0) rfl rfl) rfl (lv_at hl 0 rfl) ?_
  refine lv_iload_n hx hb (dq_27 0 bcJ9_floorMod_7cf53_0 (j := 1) rfl rfl) rfl (lv_at hl 1 rfl) ?_
  replace hF := nzI_s hF
  obtain ⟨hz_1, hF⟩ := hF
  refine lv_irem hx hb (dq_112 0 bcJ9_floorMod_7cf53_0 (j := 2) rfl rfl) (hz_1) ?_
  refine lv_istore_n (lv' := [(2, .int (p0 - p0 / p1 * p1)), (0, .int p0), (1, .int p1)]) hx hb (dq_61 0 bcJ9_floorMod_7cf53_0 (j := 3) rfl rfl) rfl hl (by decide) rfl (fun ls hl => ?_)
  refine lv_iload_n hx hb (dq_26 0 bcJ9_floorMod_7cf53_0 (j := 4) rfl rfl) rfl (lv_at hl 1 rfl) ?_
  refine lv_iload_n hx hb (dq_27 0 bcJ9_floorMod_7cf53_0 (j := 5) rfl rfl) rfl (lv_at hl 2 rfl) ?_
  refine lv_ixor hx hb (dq_130 0 bcJ9_floorMod_7cf53_0 (j := 6) rfl rfl) ?_
  refine lv_if_ge (tgt := 18) hx hb (dq_156 0 bcJ9_floorMod_7cf53_0 (j := 7) (i := 11) rfl rfl rfl) (by decide) (fun c_2 => ?_) (fun c_2 => ?_)
  ·
    replace hF := ip c_2 hF
    refine lv_iload_n hx hb (dq_28 0 bcJ9_floorMod_7cf53_0 (j := 18) rfl rfl) rfl (lv_at hl 0 rfl) ?_
    rw [hQ]
    obtain e9_0 := inj1 hF
    exact W.iret (v := p0 - p0 / p1 * p1) hx hb hr (fun tt ht hW => ⟨_, rfl, e9_0, ht⟩) (fun _ h => by cases h) (dq_172 0 bcJ9_floorMod_7cf53_0 (j := 19) rfl rfl)
  ·
    replace hF := inn c_2 hF
    refine lv_iload_n hx hb (dq_28 0 bcJ9_floorMod_7cf53_0 (j := 10) rfl rfl) rfl (lv_at hl 0 rfl) ?_
    refine lv_if_eq (tgt := 18) hx hb (dq_153 0 bcJ9_floorMod_7cf53_0 (j := 11) (i := 7) rfl rfl rfl) (by decide) (fun c_3 => ?_) (fun c_3 => ?_)
    ·
      replace hF := ip c_3 hF
      refine lv_iload_n hx hb (dq_28 0 bcJ9_floorMod_7cf53_0 (j := 18) rfl rfl) rfl (lv_at hl 0 rfl) ?_
      rw [hQ]
      obtain e9_0 := inj1 hF
      exact W.iret (v := p0 - p0 / p1 * p1) hx hb hr (fun tt ht hW => ⟨_, rfl, e9_0, ht⟩) (fun _ h => by cases h) (dq_172 0 bcJ9_floorMod_7cf53_0 (j := 19) rfl rfl)
    ·
      replace hF := inn c_3 hF
      refine lv_iload_n hx hb (dq_28 0 bcJ9_floorMod_7cf53_0 (j := 14) rfl rfl) rfl (lv_at hl 0 rfl) ?_
      refine lv_iload_n hx hb (dq_27 0 bcJ9_floorMod_7cf53_0 (j := 15) rfl rfl) rfl (lv_at hl 2 rfl) ?_
      refine lv_iadd hx hb (dq_96 0 bcJ9_floorMod_7cf53_0 (j := 16) rfl rfl) ?_
      rw [hQ]
      obtain e9_0 := inj1 hF
      exact W.iret (v := (p0 - p0 / p1 * p1) + p1) hx hb hr (fun tt ht hW => ⟨_, rfl, e9_0, ht⟩) (fun _ h => by cases h) (dq_172 0 bcJ9_floorMod_7cf53_0 (j := 17) rfl rfl)

def F_J0_checkIndex_df160 (p0 : Int32) (p1 : Int32) : Option (Unit) :=
  bd1 (F_J3_checkIndex_8e157null p0 p1) (fun r_1 => some ())

def v_f_J0_checkIndex_df160 : List Cond := List.cons (.code yJ0_checkIndex_df160 cJ0_checkIndex_df160 2 none) (HAppend.hAppend (α := List Cond) (β := List Cond) (γ := List Cond) [.fieldLink RJ0 1053 "jdk/internal/util/Preconditions" "SIOOBE_FORMATTER" "Ljava/util/function/BiFunction;", .methodLink RJ0 1059 yJ3_checkIndex_8e157, .static yJ3_checkIndex_8e157, .initialized RJ3] (HAppend.hAppend (α := List Cond) (β := List Cond) (γ := List Cond) v_f_J3_checkIndex_8e157null (HAppend.hAppend (α := List Cond) (β := List Cond) (γ := List Cond) v_f_J3_checkIndex_8e157 [])))
theorem gw_f_J0_checkIndex_df160 : v_f_J0_checkIndex_df160.all goodWord = true := gw_c2 (by decide +kernel) (gw_ap gw_f_J3_checkIndex_8e157null (gw_ap gw_f_J3_checkIndex_8e157 gw_nil))
theorem g_f_J0_checkIndex_df160_f_J3_checkIndex_8e157null_1059 : GoodIn v_f_J0_checkIndex_df160 (va_wsS RJ0 1059 yJ3_checkIndex_8e157 v_f_J3_checkIndex_8e157null) := goodIn_in gw_f_J0_checkIndex_df160 (in3 2 3 4 rfl rfl rfl (fun _ h => List.mem_cons_of_mem _ (List.mem_append_right _ (List.mem_append_left _ h))))
theorem g_f_J0_checkIndex_df160_f_J3_checkIndex_8e157_1059 : GoodIn v_f_J0_checkIndex_df160 (va_wsS RJ0 1059 yJ3_checkIndex_8e157 v_f_J3_checkIndex_8e157) := goodIn_in gw_f_J0_checkIndex_df160 (in3 2 3 4 rfl rfl rfl (fun _ h => List.mem_cons_of_mem _ (List.mem_append_right _ (List.mem_append_right _ (List.mem_append_left _ h)))))
theorem hd_J0_checkIndex_df160 : yJ0_checkIndex_df160.cls = RJ0 ∧ yJ0_checkIndex_df160.cls ≠ "java/lang/invoke/MethodHandle" ∧ yJ0_checkIndex_df160.cls ≠ "java/lang/invoke/VarHandle" ∧ (parseMethodDescriptor yJ0_checkIndex_df160.desc).map (fun d => d.parameters.length) = some 2 := by decide +kernel
set_option maxHeartbeats 4000000 in
set_option maxRecDepth 100000 in
theorem f_J0_checkIndex_df160 (l : Launch) (E : EE) (z9 : Nat → Nat) {p0 : Int32} {p1 : Int32} (hF : F_J0_checkIndex_df160 p0 p1 = some ()) : Met l yJ0_checkIndex_df160 v_f_J0_checkIndex_df160 (({ frames := 1, cells := 0, slots := 0, locals := 22 } : Room)) (va_Pc [.int p0, .int p1] (qPZ E z9 [])) (va_Sv (fun _ => True)) 0 0 (fun _ => False) := by
  refine Met.ofWF (cc := cJ0_checkIndex_df160) (maxL := 2) (ret := none) (by decide +kernel) rfl ?_
  intro p e s m args below meth c s₁ B hml hv
  obtain ⟨rfl, ⟨hK, hN⟩, hP, hZ⟩ := hv
  have hx := B.exec
  have hb := B.bytes
  have hr := B.returns
  have hts := atoms_spec (ws := v_f_J0_checkIndex_df160) B.pre
  have hown : s.vm.findClass RJ0 = some m.cls := own_of hd_J0_checkIndex_df160.1 (findClass_of_methodNamed B.named)
  have hlocks : meth.locks = false := B.notSynchronized
  replace hP : va_P E.1 vwCl [] s.heap := hP
  have hl := lv_entry ([.int p0, .int p1]) (n := 2) (Nat.le_of_ble_eq_true rfl)
  rw [lg_entry_eq]
  generalize (lg_sl ([.int p0, .int p1]) ++ List.replicate (2 - (lg_sl ([.int p0, .int p1])).length) Slot.unset).toArray = ls at hl ⊢
  have hl : lv_has ls 2 [(0, .int p0), (1, .int p1)] := hl
  obtain ⟨Q, hQ⟩ : ∃ Q : State → Prop, Q = MQ below (va_Sv (fun _ => True)) #[Value.int p0, Value.int p1] s 0 0 (fun _ => False) := ⟨_, rfl⟩
  rw [← hQ]
  change W p l e ({ frames := 1, cells := 0, slots := 0, locals := 22 } : Room) s m #[Value.int p0, Value.int p1] below meth c s.heap [] 0 0 Q (F0 m 0 ls [])
  unfold F_J0_checkIndex_df160 at hF
  refine lv_iload_n hx hb (dq_26 0 bcJ0_checkIndex_df160_0 (j := 0) rfl rfl) rfl (lv_at hl 0 rfl) ?_
  refine lv_iload_n hx hb (dq_27 0 bcJ0_checkIndex_df160_0 (j := 1) rfl rfl) rfl (lv_at hl 1 rfl) ?_
  rcases hZ.2.2.1.2.2.2.2.2 with hq9 | ⟨zt, hq9⟩
  ·
    refine va_gets hx hb hq9 (va_S.rf) hown (hts (.fieldLink RJ0 1053 "jdk/internal/util/Preconditions" "SIOOBE_FORMATTER" "Ljava/util/function/BiFunction;") (List.mem_of_getElem? (i := 1) rfl)) (fun _ h9 => h9) (dq_178 0 bcJ0_checkIndex_df160_0 (j := 2) (i := 1053) rfl rfl rfl) ?_
    replace hF := bd1_s hF
    obtain ⟨r_1, hc_2, hF⟩ := hF
    have hPc : va_P E.1 vwCl [] s.heap := fun k q h => by simp at h
    refine pE_i (va_runS (As := [.int p0, .int p1, .null]) (rest := [])  ⟨hx, hb, hml, hown, hts⟩ (f_J3_checkIndex_8e157null l E (p0 := p0) (p1 := p1) hc_2) (va_cwS 3 hts g_f_J0_checkIndex_df160_f_J3_checkIndex_8e157null_1059 rfl rfl rfl hd_J3_checkIndex_8e157.2 ⟨Nat.le_of_ble_eq_true rfl, Nat.le_of_ble_eq_true rfl⟩) ⟨pP.blind, (pP.pre ⟨hK, hN⟩ hPc)⟩ rfl rfl hl.1 rfl (lv_room (Nat.le_of_ble_eq_true rfl)) (dq_184 0 bcJ0_checkIndex_df160_0 (j := 5) (i := 1059) rfl rfl rfl) ⟨Nat.le_of_ble_eq_true rfl, Nat.le_of_ble_eq_true rfl⟩) ?_
    refine lv_pop hx hb (dq_87 0 bcJ0_checkIndex_df160_0 (j := 8) rfl rfl) rfl ?_
    rw [hQ]
    exact W.vret hx hb hr (fun tt ht hW => ⟨rfl, trivial, ht⟩) (fun _ h => by cases h) (dq_177 0 bcJ0_checkIndex_df160_0 (j := 9) rfl rfl)
  ·
    refine va_gets hx hb hq9 (va_S.rf) hown (hts (.fieldLink RJ0 1053 "jdk/internal/util/Preconditions" "SIOOBE_FORMATTER" "Ljava/util/function/BiFunction;") (List.mem_of_getElem? (i := 1) rfl)) (fun _ h9 => h9) (dq_178 0 bcJ0_checkIndex_df160_0 (j := 2) (i := 1053) rfl rfl rfl) ?_
    replace hF := bd1_s hF
    obtain ⟨r_3, hc_4, hF⟩ := hF
    have hPc : va_P E.1 vwCl [] s.heap := fun k q h => by simp at h
    refine pE_i (va_runS (As := [.int p0, .int p1, .ref zt]) (rest := [])  ⟨hx, hb, hml, hown, hts⟩ (f_J3_checkIndex_8e157 l E (p0 := p0) (p1 := p1) hc_4) (va_cwS 3 hts g_f_J0_checkIndex_df160_f_J3_checkIndex_8e157_1059 rfl rfl rfl hd_J3_checkIndex_8e157.2 ⟨Nat.le_of_ble_eq_true rfl, Nat.le_of_ble_eq_true rfl⟩) ⟨pP.blind, (pP.pre ⟨hK, hN⟩ hPc)⟩ rfl rfl hl.1 rfl (lv_room (Nat.le_of_ble_eq_true rfl)) (dq_184 0 bcJ0_checkIndex_df160_0 (j := 5) (i := 1059) rfl rfl rfl) ⟨Nat.le_of_ble_eq_true rfl, Nat.le_of_ble_eq_true rfl⟩) ?_
    refine lv_pop hx hb (dq_87 0 bcJ0_checkIndex_df160_0 (j := 8) rfl rfl) rfl ?_
    rw [hQ]
    exact W.vret hx hb hr (fun tt ht hW => ⟨rfl, trivial, ht⟩) (fun _ h => by cases h) (dq_177 0 bcJ0_checkIndex_df160_0 (j := 9) rfl rfl)

def F_J1_charAt_3b067 (p0 : Nat) (p1 : Int32) : Option (Int32) :=
  ltF p0 15 (bd1 (F_J0_checkIndex_df160 p1 (Int32.ofNat (strL.getD p0 0))) (fun u_2 => ltF p0 15 (ixF p1 (strL.getD p0 0) (some (((((strB.getD p0 []).getD p1.toNatClampNeg 0) &&& (255 : Int32)).toUInt32 % 65536).toInt32)))))

def v_f_J1_charAt_3b067 : List Cond := List.cons (.code yJ1_charAt_3b067 cJ1_charAt_3b067 2 (some .char)) (HAppend.hAppend (α := List Cond) (β := List Cond) (γ := List Cond) [.methodLink RJ1 9 yJ0_checkIndex_df160, .static yJ0_checkIndex_df160, .initialized RJ0] (HAppend.hAppend (α := List Cond) (β := List Cond) (γ := List Cond) v_f_J0_checkIndex_df160 []))
theorem gw_f_J1_charAt_3b067 : v_f_J1_charAt_3b067.all goodWord = true := gw_c2 (by decide +kernel) (gw_ap gw_f_J0_checkIndex_df160 gw_nil)
theorem g_f_J1_charAt_3b067_f_J0_checkIndex_df160_9 : GoodIn v_f_J1_charAt_3b067 (va_wsS RJ1 9 yJ0_checkIndex_df160 v_f_J0_checkIndex_df160) := goodIn_in gw_f_J1_charAt_3b067 (in3 1 2 3 rfl rfl rfl (fun _ h => List.mem_cons_of_mem _ (List.mem_append_right _ (List.mem_append_left _ h))))
theorem hd_J1_charAt_3b067 : yJ1_charAt_3b067.cls = RJ1 ∧ yJ1_charAt_3b067.cls ≠ "java/lang/invoke/MethodHandle" ∧ yJ1_charAt_3b067.cls ≠ "java/lang/invoke/VarHandle" ∧ (parseMethodDescriptor yJ1_charAt_3b067.desc).map (fun d => d.parameters.length) = some 2 := by decide +kernel
set_option maxHeartbeats 4000000 in
set_option maxRecDepth 100000 in
theorem f_J1_charAt_3b067 (l : Launch) (E : EE) (z9 : Nat → Nat) {p0 : Nat} {p1 : Int32} {rr : Int32} (hF : F_J1_charAt_3b067 p0 p1 = some rr) : Met l yJ1_charAt_3b067 v_f_J1_charAt_3b067 (({ frames := 2, cells := 0, slots := 0, locals := 43 } : Room)) (va_Pc [.ref (z9 (40 + p0)), .int p1] (qPZ E z9 [])) (vp_Si (fun q : Int32 => q = rr ∧ narrow .char (.int q) = .int q)) 0 0 (fun _ => False) := by
  refine Met.ofWF (cc := cJ1_charAt_3b067) (maxL := 2) (ret := (some .char)) (by decide +kernel) rfl ?_
  intro p e s m args below meth c s₁ B hml hv
  obtain ⟨rfl, ⟨hK, hN⟩, hP, hZ⟩ := hv
  have hx := B.exec
  have hb := B.bytes
  have hr := B.returns
  have hts := atoms_spec (ws := v_f_J1_charAt_3b067) B.pre
  have hown : s.vm.findClass RJ1 = some m.cls := own_of hd_J1_charAt_3b067.1 (findClass_of_methodNamed B.named)
  have hlocks : meth.locks = false := B.notSynchronized
  replace hP : va_P E.1 vwCl [] s.heap := hP
  have hl := lv_entry ([.ref (z9 (40 + p0)), .int p1]) (n := 2) (Nat.le_of_ble_eq_true rfl)
  rw [lg_entry_eq]
  generalize (lg_sl ([.ref (z9 (40 + p0)), .int p1]) ++ List.replicate (2 - (lg_sl ([.ref (z9 (40 + p0)), .int p1])).length) Slot.unset).toArray = ls at hl ⊢
  have hl : lv_has ls 2 [(0, .ref (z9 (40 + p0))), (1, .int p1)] := hl
  obtain ⟨Q, hQ⟩ : ∃ Q : State → Prop, Q = MQ below (vp_Si (fun q : Int32 => q = rr ∧ narrow .char (.int q) = .int q)) #[Value.ref (z9 (40 + p0)), Value.int p1] s 0 0 (fun _ => False) := ⟨_, rfl⟩
  rw [← hQ]
  change W p l e ({ frames := 2, cells := 0, slots := 0, locals := 43 } : Room) s m #[Value.ref (z9 (40 + p0)), Value.int p1] below meth c s.heap [] 0 0 Q (F0 m 0 ls [])
  unfold F_J1_charAt_3b067 at hF
  refine lv_iload_n hx hb (dq_27 0 bcJ1_charAt_3b067_0 (j := 0) rfl rfl) rfl (lv_at hl 1 rfl) ?_
  refine lv_aload_n hx hb (dq_42 0 bcJ1_charAt_3b067_0 (j := 1) rfl rfl) rfl (lv_at hl 0 rfl) ?_
  replace hF := ltF_s hF
  obtain ⟨hs_1, hF⟩ := hF
  refine va_tlen (v := (Int32.ofNat (strL.getD p0 0))) hx hb ((hZ.2.2.2.1.1 p0 hs_1).2.2.2) (va_S.rf) rfl (dq_190 0 bcJ1_charAt_3b067_0 (j := 2) rfl rfl) ?_
  replace hF := bd1_s hF
  obtain ⟨u_2, hc_3, hF⟩ := hF
  have hPc : va_P E.1 vwCl [] s.heap := fun k q h => by simp at h
  refine pc_v (va_runS (As := [.int p1, .int (Int32.ofNat (strL.getD p0 0))]) (rest := [])  ⟨hx, hb, hml, hown, hts⟩ (f_J0_checkIndex_df160 l E z9 (p0 := p1) (p1 := (Int32.ofNat (strL.getD p0 0))) hc_3) (va_cwS 2 hts g_f_J1_charAt_3b067_f_J0_checkIndex_df160_9 rfl rfl rfl hd_J0_checkIndex_df160.2 ⟨Nat.le_of_ble_eq_true rfl, Nat.le_of_ble_eq_true rfl⟩) ⟨qPZ.blind, (qPZ.pre0 ⟨hK, hN⟩ hPc hZ)⟩ rfl rfl hl.1 rfl (lv_room (Nat.le_of_ble_eq_true rfl)) (dq_184 0 bcJ1_charAt_3b067_0 (j := 3) (i := 9) rfl rfl rfl) ⟨Nat.le_of_ble_eq_true rfl, Nat.le_of_ble_eq_true rfl⟩) ?_
  refine lv_aload_n hx hb (dq_42 0 bcJ1_charAt_3b067_0 (j := 6) rfl rfl) rfl (lv_at hl 0 rfl) ?_
  refine lv_iload_n hx hb (dq_27 0 bcJ1_charAt_3b067_0 (j := 7) rfl rfl) rfl (lv_at hl 1 rfl) ?_
  replace hF := ltF_s hF
  obtain ⟨hs_4, hF⟩ := hF
  replace hF := ix_s hF
  obtain ⟨hi_5, hF⟩ := hF
  refine va_tb (v := .int ((strB.getD p0 []).getD p1.toNatClampNeg 0)) hx hb ((hZ.2.2.2.1.1 p0 hs_4).2.2.2) (va_S.rf) hi_5 rfl (dq_51 0 bcJ1_charAt_3b067_0 (j := 8) rfl rfl) ?_
  refine lv_sipush (v := 255) hx hb (dq_17 0 bcJ1_charAt_3b067_0 (j := 9) (i := 255) rfl rfl rfl) (by decide) ?_
  refine lv_iand hx hb (dq_126 0 bcJ1_charAt_3b067_0 (j := 12) rfl rfl) ?_
  refine lv_i2c (v := ((((strB.getD p0 []).getD p1.toNatClampNeg 0) &&& (255 : Int32)).toUInt32 % 65536).toInt32) hx hb (dq_146 0 bcJ1_charAt_3b067_0 (j := 13) rfl rfl) rfl ?_
  rw [hQ]
  obtain e9_0 := inj1 hF
  exact W.zret (v := ((((strB.getD p0 []).getD p1.toNatClampNeg 0) &&& (255 : Int32)).toUInt32 % 65536).toInt32) hx hb hr (nar_c _) (fun tt ht hW => ⟨_, rfl, ⟨e9_0, (nar_c _)⟩, ht⟩) (fun _ h => by cases h) (dq_172 0 bcJ1_charAt_3b067_0 (j := 14) rfl rfl)

def F_J0_coder_7d493 (p0 : Nat) : Option (Int32) :=
  ltF p0 15 (some (0 : Int32))

def v_f_J0_coder_7d493 : List Cond := List.cons (.code yJ0_coder_7d493 cJ0_coder_7d493 1 (some .byte)) (HAppend.hAppend (α := List Cond) (β := List Cond) (γ := List Cond) [.fieldLink RJ0 38 "java/lang/String" "COMPACT_STRINGS" "Z", .fieldLink RJ0 15 "java/lang/String" "coder" "B"] [])
theorem gw_f_J0_coder_7d493 : v_f_J0_coder_7d493.all goodWord = true := gw_c2 (by decide +kernel) gw_nil
theorem hd_J0_coder_7d493 : yJ0_coder_7d493.cls = RJ0 ∧ yJ0_coder_7d493.cls ≠ "java/lang/invoke/MethodHandle" ∧ yJ0_coder_7d493.cls ≠ "java/lang/invoke/VarHandle" ∧ (parseMethodDescriptor yJ0_coder_7d493.desc).map (fun d => d.parameters.length) = some 0 := by decide +kernel
set_option maxHeartbeats 4000000 in
set_option maxRecDepth 100000 in
theorem f_J0_coder_7d493 (l : Launch) (E : EE) (z9 : Nat → Nat) {p0 : Nat} {rr : Int32} (hF : F_J0_coder_7d493 p0 = some rr) : Met l yJ0_coder_7d493 v_f_J0_coder_7d493 (({ frames := 0, cells := 0, slots := 0, locals := 0 } : Room)) (va_Pc [.ref (z9 (20 + p0))] (qPZ E z9 [])) (vp_Si (fun q : Int32 => q = rr ∧ narrow .byte (.int q) = .int q)) 0 0 (fun _ => False) := by
  refine Met.ofWF (cc := cJ0_coder_7d493) (maxL := 1) (ret := (some .byte)) (by decide +kernel) rfl ?_
  intro p e s m args below meth c s₁ B hml hv
  obtain ⟨rfl, ⟨hK, hN⟩, hP, hZ⟩ := hv
  have hx := B.exec
  have hb := B.bytes
  have hr := B.returns
  have hts := atoms_spec (ws := v_f_J0_coder_7d493) B.pre
  have hown : s.vm.findClass RJ0 = some m.cls := own_of hd_J0_coder_7d493.1 (findClass_of_methodNamed B.named)
  have hlocks : meth.locks = false := B.notSynchronized
  replace hP : va_P E.1 vwCl [] s.heap := hP
  have hl := lv_entry ([.ref (z9 (20 + p0))]) (n := 1) (Nat.le_of_ble_eq_true rfl)
  rw [lg_entry_eq]
  generalize (lg_sl ([.ref (z9 (20 + p0))]) ++ List.replicate (1 - (lg_sl ([.ref (z9 (20 + p0))])).length) Slot.unset).toArray = ls at hl ⊢
  have hl : lv_has ls 1 [(0, .ref (z9 (20 + p0)))] := hl
  obtain ⟨Q, hQ⟩ : ∃ Q : State → Prop, Q = MQ below (vp_Si (fun q : Int32 => q = rr ∧ narrow .byte (.int q) = .int q)) #[Value.ref (z9 (20 + p0))] s 0 0 (fun _ => False) := ⟨_, rfl⟩
  rw [← hQ]
  change W p l e ({ frames := 0, cells := 0, slots := 0, locals := 0 } : Room) s m #[Value.ref (z9 (20 + p0))] below meth c s.heap [] 0 0 Q (F0 m 0 ls [])
  unfold F_J0_coder_7d493 at hF
  refine va_gets hx hb hZ.2.2.1.1 (va_S.rf) hown (hts (.fieldLink RJ0 38 "java/lang/String" "COMPACT_STRINGS" "Z") (List.mem_of_getElem? (i := 1) rfl)) (fun _ h9 => h9) (dq_178 0 bcJ0_coder_7d493_0 (j := 0) (i := 38) rfl rfl rfl) ?_
  refine lv_if_eq (tgt := 13) hx hb (dq_153 0 bcJ0_coder_7d493_0 (j := 3) (i := 10) rfl rfl rfl) (by decide) (fun q => absurd q (by decide)) (fun _ => ?_)
  refine lv_aload_n hx hb (dq_42 0 bcJ0_coder_7d493_0 (j := 6) rfl rfl) rfl (lv_at hl 0 rfl) ?_
  replace hF := ltF_s hF
  obtain ⟨hs_1, hF⟩ := hF
  refine vk_getf (v := .int (0 : Int32)) hx hb ((hZ.2.2.2.1.1 p0 hs_1).2.1) (va_S.rf) hown (hts (.fieldLink RJ0 15 "java/lang/String" "coder" "B") (List.mem_of_getElem? (i := 2) rfl)) (fun _ h9 => h9) (dq_180 0 bcJ0_coder_7d493_0 (j := 7) (i := 15) rfl rfl rfl) ?_
  refine lv_goto (tgt := 14) hx hb (dq_167 0 bcJ0_coder_7d493_0 (j := 10) (i := 4) rfl rfl rfl) (by decide) ?_
  rw [hQ]
  obtain e9_0 := inj1 hF
  exact W.zret (v := (0 : Int32)) hx hb hr rfl (fun tt ht hW => ⟨_, rfl, ⟨e9_0, rfl⟩, ht⟩) (fun _ h => by cases h) (dq_172 0 bcJ0_coder_7d493_0 (j := 14) rfl rfl)

def F_J0_length_8abf5 (p0 : Nat) : Option (Int32) :=
  ltF p0 15 (ltF p0 15 (ltF p0 15 (bd1 (F_J0_coder_7d493 p0) (fun r_3 => some ((Int32.ofNat (strL.getD p0 0)) >>> (r_3 &&& (31 : Int32)))))))

def v_f_J0_length_8abf5 : List Cond := List.cons (.code yJ0_length_8abf5 cJ0_length_8abf5 1 (some .int)) (HAppend.hAppend (α := List Cond) (β := List Cond) (γ := List Cond) [.fieldLink RJ0 9 "java/lang/String" "value" "[B", .methodLink RJ0 335 yJ0_coder_7d493, .instanceMethod yJ0_coder_7d493, .selects RJ0 yJ0_coder_7d493 yJ0_coder_7d493, .initialized RJ0] (HAppend.hAppend (α := List Cond) (β := List Cond) (γ := List Cond) v_f_J0_coder_7d493 []))
theorem gw_f_J0_length_8abf5 : v_f_J0_length_8abf5.all goodWord = true := gw_c2 (by decide +kernel) (gw_ap gw_f_J0_coder_7d493 gw_nil)
theorem g_f_J0_length_8abf5_f_J0_coder_7d493_335 : GoodIn v_f_J0_length_8abf5 (wsV RJ0 335 RJ0 yJ0_coder_7d493 v_f_J0_coder_7d493) := goodIn_in gw_f_J0_length_8abf5 (in4 2 3 4 5 rfl rfl rfl rfl (fun _ h => List.mem_cons_of_mem _ (List.mem_append_right _ (List.mem_append_left _ h))))
theorem hd_J0_length_8abf5 : yJ0_length_8abf5.cls = RJ0 ∧ yJ0_length_8abf5.cls ≠ "java/lang/invoke/MethodHandle" ∧ yJ0_length_8abf5.cls ≠ "java/lang/invoke/VarHandle" ∧ (parseMethodDescriptor yJ0_length_8abf5.desc).map (fun d => d.parameters.length) = some 0 := by decide +kernel
set_option maxHeartbeats 4000000 in
set_option maxRecDepth 100000 in
theorem f_J0_length_8abf5 (l : Launch) (E : EE) (z9 : Nat → Nat) {p0 : Nat} {rr : Int32} (hF : F_J0_length_8abf5 p0 = some rr) : Met l yJ0_length_8abf5 v_f_J0_length_8abf5 (({ frames := 1, cells := 0, slots := 0, locals := 20 } : Room)) (va_Pc [.ref (z9 (20 + p0))] (qPZ E z9 [])) (vp_Si (fun q : Int32 => q = rr)) 0 0 (fun _ => False) := by
  refine Met.ofWF (cc := cJ0_length_8abf5) (maxL := 1) (ret := (some .int)) (by decide +kernel) rfl ?_
  intro p e s m args below meth c s₁ B hml hv
  obtain ⟨rfl, ⟨hK, hN⟩, hP, hZ⟩ := hv
  have hx := B.exec
  have hb := B.bytes
  have hr := B.returns
  have hts := atoms_spec (ws := v_f_J0_length_8abf5) B.pre
  have hown : s.vm.findClass RJ0 = some m.cls := own_of hd_J0_length_8abf5.1 (findClass_of_methodNamed B.named)
  have hlocks : meth.locks = false := B.notSynchronized
  replace hP : va_P E.1 vwCl [] s.heap := hP
  have hl := lv_entry ([.ref (z9 (20 + p0))]) (n := 1) (Nat.le_of_ble_eq_true rfl)
  rw [lg_entry_eq]
  generalize (lg_sl ([.ref (z9 (20 + p0))]) ++ List.replicate (1 - (lg_sl ([.ref (z9 (20 + p0))])).length) Slot.unset).toArray = ls at hl ⊢
  have hl : lv_has ls 1 [(0, .ref (z9 (20 + p0)))] := hl
  obtain ⟨Q, hQ⟩ : ∃ Q : State → Prop, Q = MQ below (vp_Si (fun q : Int32 => q = rr)) #[Value.ref (z9 (20 + p0))] s 0 0 (fun _ => False) := ⟨_, rfl⟩
  rw [← hQ]
  change W p l e ({ frames := 1, cells := 0, slots := 0, locals := 20 } : Room) s m #[Value.ref (z9 (20 + p0))] below meth c s.heap [] 0 0 Q (F0 m 0 ls [])
  unfold F_J0_length_8abf5 at hF
  refine lv_aload_n hx hb (dq_42 0 bcJ0_length_8abf5_0 (j := 0) rfl rfl) rfl (lv_at hl 0 rfl) ?_
  replace hF := ltF_s hF
  obtain ⟨hs_1, hF⟩ := hF
  refine vk_getf (v := .ref (z9 (40 + p0))) hx hb ((hZ.2.2.2.1.1 p0 hs_1).2.2.1) (va_S.rf) hown (hts (.fieldLink RJ0 9 "java/lang/String" "value" "[B") (List.mem_of_getElem? (i := 1) rfl)) (fun _ h9 => h9) (dq_180 0 bcJ0_length_8abf5_0 (j := 1) (i := 9) rfl rfl rfl) ?_
  replace hF := ltF_s hF
  obtain ⟨hs_2, hF⟩ := hF
  refine va_tlen (v := (Int32.ofNat (strL.getD p0 0))) hx hb ((hZ.2.2.2.1.1 p0 hs_2).2.2.2) (va_S.rf) rfl (dq_190 0 bcJ0_length_8abf5_0 (j := 4) rfl rfl) ?_
  refine lv_aload_n hx hb (dq_42 0 bcJ0_length_8abf5_0 (j := 5) rfl rfl) rfl (lv_at hl 0 rfl) ?_
  replace hF := ltF_s hF
  obtain ⟨hs_4, hF⟩ := hF
  replace hF := bd1_s hF
  obtain ⟨r_3, hc_5, hF⟩ := hF
  have hPc : va_P E.1 vwCl [] s.heap := fun k q h => by simp at h
  refine pE_b (va_runV (As := []) (rest := [.int (Int32.ofNat (strL.getD p0 0))])  ⟨hx, hb, hml, hown, hts⟩ (f_J0_coder_7d493 l E z9 (p0 := p0) hc_5) (cwV 0 hts g_f_J0_length_8abf5_f_J0_coder_7d493_335 rfl rfl rfl hd_J0_coder_7d493 ⟨Nat.le_of_ble_eq_true rfl, Nat.le_of_ble_eq_true rfl⟩) ⟨qPZ.blind, vk_recv hZ.2.2.2.1 hs_4 (va_S.rf), (qPZ.pre0 ⟨hK, hN⟩ hPc hZ)⟩ rfl rfl hl.1 rfl (lv_room (Nat.le_of_ble_eq_true rfl)) (dq_182 0 bcJ0_length_8abf5_0 (j := 6) (i := 335) rfl rfl rfl) ⟨Nat.le_of_ble_eq_true rfl, Nat.le_of_ble_eq_true rfl⟩) (fun hb_6 => ?_)
  refine lv_ishr hx hb (dq_122 0 bcJ0_length_8abf5_0 (j := 9) rfl rfl) ?_
  rw [hQ]
  obtain e9_0 := inj1 hF
  exact W.iret (v := (Int32.ofNat (strL.getD p0 0)) >>> (r_3 &&& (31 : Int32))) hx hb hr (fun tt ht hW => ⟨_, rfl, e9_0, ht⟩) (fun _ h => by cases h) (dq_172 0 bcJ0_length_8abf5_0 (j := 10) rfl rfl)

def F_J0_isLatin1_aae02 (p0 : Nat) : Option (Int32) :=
  ltF p0 15 (some (1 : Int32))

def v_f_J0_isLatin1_aae02 : List Cond := List.cons (.code yJ0_isLatin1_aae02 cJ0_isLatin1_aae02 1 (some .boolean)) (HAppend.hAppend (α := List Cond) (β := List Cond) (γ := List Cond) [.fieldLink RJ0 38 "java/lang/String" "COMPACT_STRINGS" "Z", .fieldLink RJ0 15 "java/lang/String" "coder" "B"] [])
theorem gw_f_J0_isLatin1_aae02 : v_f_J0_isLatin1_aae02.all goodWord = true := gw_c2 (by decide +kernel) gw_nil
theorem hd_J0_isLatin1_aae02 : yJ0_isLatin1_aae02.cls = RJ0 ∧ yJ0_isLatin1_aae02.cls ≠ "java/lang/invoke/MethodHandle" ∧ yJ0_isLatin1_aae02.cls ≠ "java/lang/invoke/VarHandle" ∧ (parseMethodDescriptor yJ0_isLatin1_aae02.desc).map (fun d => d.parameters.length) = some 0 := by decide +kernel
set_option maxHeartbeats 4000000 in
set_option maxRecDepth 100000 in
theorem f_J0_isLatin1_aae02 (l : Launch) (E : EE) (z9 : Nat → Nat) {p0 : Nat} {rr : Int32} (hF : F_J0_isLatin1_aae02 p0 = some rr) : Met l yJ0_isLatin1_aae02 v_f_J0_isLatin1_aae02 (({ frames := 0, cells := 0, slots := 0, locals := 0 } : Room)) (va_Pc [.ref (z9 (20 + p0))] (qPZ E z9 [])) (vp_Si (fun q : Int32 => q = rr ∧ (q = 0 ∨ q = 1))) 0 0 (fun _ => False) := by
  refine Met.ofWF (cc := cJ0_isLatin1_aae02) (maxL := 1) (ret := (some .boolean)) (by decide +kernel) rfl ?_
  intro p e s m args below meth c s₁ B hml hv
  obtain ⟨rfl, ⟨hK, hN⟩, hP, hZ⟩ := hv
  have hx := B.exec
  have hb := B.bytes
  have hr := B.returns
  have hts := atoms_spec (ws := v_f_J0_isLatin1_aae02) B.pre
  have hown : s.vm.findClass RJ0 = some m.cls := own_of hd_J0_isLatin1_aae02.1 (findClass_of_methodNamed B.named)
  have hlocks : meth.locks = false := B.notSynchronized
  replace hP : va_P E.1 vwCl [] s.heap := hP
  have hl := lv_entry ([.ref (z9 (20 + p0))]) (n := 1) (Nat.le_of_ble_eq_true rfl)
  rw [lg_entry_eq]
  generalize (lg_sl ([.ref (z9 (20 + p0))]) ++ List.replicate (1 - (lg_sl ([.ref (z9 (20 + p0))])).length) Slot.unset).toArray = ls at hl ⊢
  have hl : lv_has ls 1 [(0, .ref (z9 (20 + p0)))] := hl
  obtain ⟨Q, hQ⟩ : ∃ Q : State → Prop, Q = MQ below (vp_Si (fun q : Int32 => q = rr ∧ (q = 0 ∨ q = 1))) #[Value.ref (z9 (20 + p0))] s 0 0 (fun _ => False) := ⟨_, rfl⟩
  rw [← hQ]
  change W p l e ({ frames := 0, cells := 0, slots := 0, locals := 0 } : Room) s m #[Value.ref (z9 (20 + p0))] below meth c s.heap [] 0 0 Q (F0 m 0 ls [])
  unfold F_J0_isLatin1_aae02 at hF
  refine va_gets hx hb hZ.2.2.1.1 (va_S.rf) hown (hts (.fieldLink RJ0 38 "java/lang/String" "COMPACT_STRINGS" "Z") (List.mem_of_getElem? (i := 1) rfl)) (fun _ h9 => h9) (dq_178 0 bcJ0_isLatin1_aae02_0 (j := 0) (i := 38) rfl rfl rfl) ?_
  refine lv_if_eq (tgt := 17) hx hb (dq_153 0 bcJ0_isLatin1_aae02_0 (j := 3) (i := 14) rfl rfl rfl) (by decide) (fun q => absurd q (by decide)) (fun _ => ?_)
  refine lv_aload_n hx hb (dq_42 0 bcJ0_isLatin1_aae02_0 (j := 6) rfl rfl) rfl (lv_at hl 0 rfl) ?_
  replace hF := ltF_s hF
  obtain ⟨hs_1, hF⟩ := hF
  refine vk_getf (v := .int (0 : Int32)) hx hb ((hZ.2.2.2.1.1 p0 hs_1).2.1) (va_S.rf) hown (hts (.fieldLink RJ0 15 "java/lang/String" "coder" "B") (List.mem_of_getElem? (i := 2) rfl)) (fun _ h9 => h9) (dq_180 0 bcJ0_isLatin1_aae02_0 (j := 7) (i := 15) rfl rfl rfl) ?_
  refine lv_if_ne (tgt := 17) hx hb (dq_154 0 bcJ0_isLatin1_aae02_0 (j := 10) (i := 7) rfl rfl rfl) (by decide) (fun q => absurd (by decide) q) (fun _ => ?_)
  refine lv_iconst (v := 1) hx hb (dq_4 0 bcJ0_isLatin1_aae02_0 (j := 13) rfl rfl) (by decide) ?_
  refine lv_goto (tgt := 18) hx hb (dq_167 0 bcJ0_isLatin1_aae02_0 (j := 14) (i := 4) rfl rfl rfl) (by decide) ?_
  rw [hQ]
  obtain e9_0 := inj1 hF
  exact W.zret (v := (1 : Int32)) hx hb hr rfl (fun tt ht hW => ⟨_, rfl, ⟨e9_0, Or.inr rfl⟩, ht⟩) (fun _ h => by cases h) (dq_172 0 bcJ0_isLatin1_aae02_0 (j := 18) rfl rfl)

def F_J0_charAt_5068e (p0 : Nat) (p1 : Int32) : Option (Int32) :=
  ltF p0 15 (bd1 (F_J0_isLatin1_aae02 p0) (fun r_1 => if r_1 = (0 : Int32) then none else ltF p0 15 (bd1 (F_J1_charAt_3b067 p0 p1) (fun r_7 => some r_7))))

def v_f_J0_charAt_5068e : List Cond := List.cons (.code yJ0_charAt_5068e cJ0_charAt_5068e 2 (some .char)) (HAppend.hAppend (α := List Cond) (β := List Cond) (γ := List Cond) [.fieldLink RJ0 9 "java/lang/String" "value" "[B", .methodLink RJ0 492 yJ0_isLatin1_aae02, .instanceMethod yJ0_isLatin1_aae02, .selects RJ0 yJ0_isLatin1_aae02 yJ0_isLatin1_aae02, .initialized RJ0, .methodLink RJ0 495 yJ1_charAt_3b067, .static yJ1_charAt_3b067, .initialized RJ1] (HAppend.hAppend (α := List Cond) (β := List Cond) (γ := List Cond) v_f_J0_isLatin1_aae02 (HAppend.hAppend (α := List Cond) (β := List Cond) (γ := List Cond) v_f_J1_charAt_3b067 [])))
theorem gw_f_J0_charAt_5068e : v_f_J0_charAt_5068e.all goodWord = true := gw_c2 (by decide +kernel) (gw_ap gw_f_J0_isLatin1_aae02 (gw_ap gw_f_J1_charAt_3b067 gw_nil))
theorem g_f_J0_charAt_5068e_f_J0_isLatin1_aae02_492 : GoodIn v_f_J0_charAt_5068e (wsV RJ0 492 RJ0 yJ0_isLatin1_aae02 v_f_J0_isLatin1_aae02) := goodIn_in gw_f_J0_charAt_5068e (in4 2 3 4 5 rfl rfl rfl rfl (fun _ h => List.mem_cons_of_mem _ (List.mem_append_right _ (List.mem_append_left _ h))))
theorem g_f_J0_charAt_5068e_f_J1_charAt_3b067_495 : GoodIn v_f_J0_charAt_5068e (va_wsS RJ0 495 yJ1_charAt_3b067 v_f_J1_charAt_3b067) := goodIn_in gw_f_J0_charAt_5068e (in3 6 7 8 rfl rfl rfl (fun _ h => List.mem_cons_of_mem _ (List.mem_append_right _ (List.mem_append_right _ (List.mem_append_left _ h)))))
theorem hd_J0_charAt_5068e : yJ0_charAt_5068e.cls = RJ0 ∧ yJ0_charAt_5068e.cls ≠ "java/lang/invoke/MethodHandle" ∧ yJ0_charAt_5068e.cls ≠ "java/lang/invoke/VarHandle" ∧ (parseMethodDescriptor yJ0_charAt_5068e.desc).map (fun d => d.parameters.length) = some 1 := by decide +kernel
set_option maxHeartbeats 4000000 in
set_option maxRecDepth 100000 in
theorem f_J0_charAt_5068e (l : Launch) (E : EE) (z9 : Nat → Nat) {p0 : Nat} {p1 : Int32} {rr : Int32} (hF : F_J0_charAt_5068e p0 p1 = some rr) : Met l yJ0_charAt_5068e v_f_J0_charAt_5068e (({ frames := 3, cells := 0, slots := 0, locals := 64 } : Room)) (va_Pc [.ref (z9 (20 + p0)), .int p1] (qPZ E z9 [])) (vp_Si (fun q : Int32 => q = rr ∧ narrow .char (.int q) = .int q)) 0 0 (fun _ => False) := by
  refine Met.ofWF (cc := cJ0_charAt_5068e) (maxL := 2) (ret := (some .char)) (by decide +kernel) rfl ?_
  intro p e s m args below meth c s₁ B hml hv
  obtain ⟨rfl, ⟨hK, hN⟩, hP, hZ⟩ := hv
  have hx := B.exec
  have hb := B.bytes
  have hr := B.returns
  have hts := atoms_spec (ws := v_f_J0_charAt_5068e) B.pre
  have hown : s.vm.findClass RJ0 = some m.cls := own_of hd_J0_charAt_5068e.1 (findClass_of_methodNamed B.named)
  have hlocks : meth.locks = false := B.notSynchronized
  replace hP : va_P E.1 vwCl [] s.heap := hP
  have hl := lv_entry ([.ref (z9 (20 + p0)), .int p1]) (n := 2) (Nat.le_of_ble_eq_true rfl)
  rw [lg_entry_eq]
  generalize (lg_sl ([.ref (z9 (20 + p0)), .int p1]) ++ List.replicate (2 - (lg_sl ([.ref (z9 (20 + p0)), .int p1])).length) Slot.unset).toArray = ls at hl ⊢
  have hl : lv_has ls 2 [(0, .ref (z9 (20 + p0))), (1, .int p1)] := hl
  obtain ⟨Q, hQ⟩ : ∃ Q : State → Prop, Q = MQ below (vp_Si (fun q : Int32 => q = rr ∧ narrow .char (.int q) = .int q)) #[Value.ref (z9 (20 + p0)), Value.int p1] s 0 0 (fun _ => False) := ⟨_, rfl⟩
  rw [← hQ]
  change W p l e ({ frames := 3, cells := 0, slots := 0, locals := 64 } : Room) s m #[Value.ref (z9 (20 + p0)), Value.int p1] below meth c s.heap [] 0 0 Q (F0 m 0 ls [])
  unfold F_J0_charAt_5068e at hF
  refine lv_aload_n hx hb (dq_42 0 bcJ0_charAt_5068e_0 (j := 0) rfl rfl) rfl (lv_at hl 0 rfl) ?_
  replace hF := ltF_s hF
  obtain ⟨hs_2, hF⟩ := hF
  replace hF := bd1_s hF
  obtain ⟨r_1, hc_3, hF⟩ := hF
  have hPc : va_P E.1 vwCl [] s.heap := fun k q h => by simp at h
  refine pE_z (va_runV (As := []) (rest := [])  ⟨hx, hb, hml, hown, hts⟩ (f_J0_isLatin1_aae02 l E z9 (p0 := p0) hc_3) (cwV 0 hts g_f_J0_charAt_5068e_f_J0_isLatin1_aae02_492 rfl rfl rfl hd_J0_isLatin1_aae02 ⟨Nat.le_of_ble_eq_true rfl, Nat.le_of_ble_eq_true rfl⟩) ⟨qPZ.blind, vk_recv hZ.2.2.2.1 hs_2 (va_S.rf), (qPZ.pre0 ⟨hK, hN⟩ hPc hZ)⟩ rfl rfl hl.1 rfl (lv_room (Nat.le_of_ble_eq_true rfl)) (dq_182 0 bcJ0_charAt_5068e_0 (j := 1) (i := 492) rfl rfl rfl) ⟨Nat.le_of_ble_eq_true rfl, Nat.le_of_ble_eq_true rfl⟩) (fun hb_4 => ?_)
  refine lv_if_eq (tgt := 16) hx hb (dq_153 0 bcJ0_charAt_5068e_0 (j := 4) (i := 12) rfl rfl rfl) (by decide) (fun c_5 => ?_) (fun c_5 => ?_)
  ·
    replace hF := ip c_5 hF
    cases hF
  ·
    replace hF := inn c_5 hF
    refine lv_aload_n hx hb (dq_42 0 bcJ0_charAt_5068e_0 (j := 7) rfl rfl) rfl (lv_at hl 0 rfl) ?_
    replace hF := ltF_s hF
    obtain ⟨hs_6, hF⟩ := hF
    refine vk_getf (v := .ref (z9 (40 + p0))) hx hb ((hZ.2.2.2.1.1 p0 hs_6).2.2.1) (va_S.rf) hown (hts (.fieldLink RJ0 9 "java/lang/String" "value" "[B") (List.mem_of_getElem? (i := 1) rfl)) (fun _ h9 => h9) (dq_180 0 bcJ0_charAt_5068e_0 (j := 8) (i := 9) rfl rfl rfl) ?_
    refine lv_iload_n hx hb (dq_27 0 bcJ0_charAt_5068e_0 (j := 11) rfl rfl) rfl (lv_at hl 1 rfl) ?_
    replace hF := bd1_s hF
    obtain ⟨r_7, hc_8, hF⟩ := hF
    have hPc : va_P E.1 vwCl [] s.heap := fun k q h => by simp at h
    refine pE_c (va_runS (As := [.ref (z9 (40 + p0)), .int p1]) (rest := [])  ⟨hx, hb, hml, hown, hts⟩ (f_J1_charAt_3b067 l E z9 (p0 := p0) (p1 := p1) hc_8) (va_cwS 2 hts g_f_J0_charAt_5068e_f_J1_charAt_3b067_495 rfl rfl rfl hd_J1_charAt_3b067.2 ⟨Nat.le_of_ble_eq_true rfl, Nat.le_of_ble_eq_true rfl⟩) ⟨qPZ.blind, (qPZ.pre0 ⟨hK, hN⟩ hPc hZ)⟩ rfl rfl hl.1 rfl (lv_room (Nat.le_of_ble_eq_true rfl)) (dq_184 0 bcJ0_charAt_5068e_0 (j := 12) (i := 495) rfl rfl rfl) ⟨Nat.le_of_ble_eq_true rfl, Nat.le_of_ble_eq_true rfl⟩) (fun hb_9 => ?_)
    rw [hQ]
    obtain e9_0 := inj1 hF
    exact W.zret (v := r_7) hx hb hr hb_9 (fun tt ht hW => ⟨_, rfl, ⟨e9_0, hb_9⟩, ht⟩) (fun _ h => by cases h) (dq_172 0 bcJ0_charAt_5068e_0 (j := 15) rfl rfl)
