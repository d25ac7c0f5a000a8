noncomputable def blX0_copyFrom_0 : List Nat := [43, 180, 0, 11, 3, 42, 180, 0, 11, 3, 17, 1, 44, 184, 0, 22, 177]
set_option maxRecDepth 100000 in
theorem bcX0_copyFrom_0 : ((cX0_copyFrom.data.toList.drop 0).take blX0_copyFrom_0.length).map UInt8.toNat = blX0_copyFrom_0 := by decide +kernel
noncomputable def blX0_read_0 : List Nat := [28, 155, 0, 26, 28, 6, 162, 0, 21, 42, 180, 0, 11, 27, 16, 100, 184, 0, 15, 6, 104, 28, 96, 46, 167, 0, 5, 18, 21, 172]
set_option maxRecDepth 100000 in
theorem bcX0_read_0 : ((cX0_read.data.toList.drop 0).take blX0_read_0.length).map UInt8.toNat = blX0_read_0 := by decide +kernel
noncomputable def blX0_write_0 : List Nat := [27, 16, 100, 184, 0, 15, 6, 104, 54, 5, 42, 180, 0, 11, 21, 5, 28, 79, 42, 180, 0, 11, 21, 5, 4, 96, 29, 79, 42, 180, 0, 11, 21, 5, 5, 96, 21, 4, 79, 177]
set_option maxRecDepth 100000 in
theorem bcX0_write_0 : ((cX0_write.data.toList.drop 0).take blX0_write_0.length).map UInt8.toNat = blX0_write_0 := by decide +kernel
noncomputable def blX1_next_0 : List Nat := [42, 42, 180, 0, 9, 20, 0, 32, 105, 20, 0, 34, 97, 181, 0, 9, 27, 158, 0, 17, 42, 180, 0, 9, 16, 33, 125, 27, 133, 113, 136, 167, 0, 4, 3, 172]
set_option maxRecDepth 100000 in
theorem bcX1_next_0 : ((cX1_next.data.toList.drop 0).take blX1_next_0.length).map UInt8.toNat = blX1_next_0 := by decide +kernel
noncomputable def blX1_pickAct_0 : List Nat := [42, 16, 8, 182, 0, 28, 61, 28, 16, 7, 160, 0, 14, 42, 4, 181, 0, 15, 42, 2, 181, 0, 19, 177, 42, 42, 27, 182, 0, 28, 181, 0, 19, 28, 16, 6, 160, 0, 21, 42, 7, 181, 0, 15, 42, 42, 16, 9, 182, 0, 28]
set_option maxRecDepth 100000 in
theorem bcX1_pickAct_0 : ((cX1_pickAct.data.toList.drop 0).take blX1_pickAct_0.length).map UInt8.toNat = blX1_pickAct_0 := by decide +kernel
noncomputable def blX1_pickAct_1 : List Nat := [182, 0, 28, 4, 96, 181, 0, 22, 177, 42, 3, 181, 0, 15, 42, 42, 16, 21, 182, 0, 28, 16, 10, 100, 181, 0, 22, 42, 42, 16, 21, 182, 0, 28, 16, 10, 100, 181, 0, 25, 177]
set_option maxRecDepth 100000 in
theorem bcX1_pickAct_1 : ((cX1_pickAct.data.toList.drop 48).take blX1_pickAct_1.length).map UInt8.toNat = blX1_pickAct_1 := by decide +kernel
noncomputable def blX2_bringBack_0 : List Nat := [42, 180, 0, 21, 154, 0, 5, 3, 172, 42, 42, 180, 0, 17, 158, 0, 12, 42, 180, 0, 17, 4, 100, 167, 0, 5, 16, 39, 181, 0, 17, 42, 89, 180, 0, 21, 4, 100, 181, 0, 21, 42, 180, 0, 11, 42, 180, 0, 17, 16, 81]
set_option maxRecDepth 100000 in
theorem bcX2_bringBack_0 : ((cX2_bringBack.data.toList.drop 0).take blX2_bringBack_0.length).map UInt8.toNat = blX2_bringBack_0 := by decide +kernel
noncomputable def blX2_bringBack_1 : List Nat := [17, 16, 81, 104, 43, 180, 0, 24, 3, 16, 81, 184, 0, 27, 4, 172]
set_option maxRecDepth 100000 in
theorem bcX2_bringBack_1 : ((cX2_bringBack.data.toList.drop 48).take blX2_bringBack_1.length).map UInt8.toNat = blX2_bringBack_1 := by decide +kernel
noncomputable def blX2_forget_0 : List Nat := [42, 3, 181, 0, 21, 177]
set_option maxRecDepth 100000 in
theorem bcX2_forget_0 : ((cX2_forget.data.toList.drop 0).take blX2_forget_0.length).map UInt8.toNat = blX2_forget_0 := by decide +kernel
noncomputable def blX2_keep_0 : List Nat := [43, 180, 0, 24, 3, 42, 180, 0, 11, 42, 180, 0, 17, 16, 81, 104, 16, 81, 184, 0, 27, 42, 42, 180, 0, 17, 4, 96, 16, 40, 162, 0, 12, 42, 180, 0, 17, 4, 96, 167, 0, 4, 3, 181, 0, 17, 42, 42, 180, 0, 21]
set_option maxRecDepth 100000 in
theorem bcX2_keep_0 : ((cX2_keep.data.toList.drop 0).take blX2_keep_0.length).map UInt8.toNat = blX2_keep_0 := by decide +kernel
noncomputable def blX2_keep_1 : List Nat := [180, 0, 21, 4, 96, 16, 40, 184, 0, 33, 181, 0, 21, 177]
set_option maxRecDepth 100000 in
theorem bcX2_keep_1 : ((cX2_keep.data.toList.drop 48).take blX2_keep_1.length).map UInt8.toNat = blX2_keep_1 := by decide +kernel
noncomputable def blX4_areFull_0 : List Nat := [42, 180, 0, 18, 7, 161, 0, 7, 4, 167, 0, 4, 3, 172]
set_option maxRecDepth 100000 in
theorem bcX4_areFull_0 : ((cX4_areFull.data.toList.drop 0).take blX4_areFull_0.length).map UInt8.toNat = blX4_areFull_0 := by decide +kernel
noncomputable def blX4_has_0 : List Nat := [27, 155, 0, 20, 27, 42, 180, 0, 18, 162, 0, 12, 27, 7, 162, 0, 7, 4, 167, 0, 4, 3, 172]
set_option maxRecDepth 100000 in
theorem bcX4_has_0 : ((cX4_has.data.toList.drop 0).take blX4_has_0.length).map UInt8.toNat = blX4_has_0 := by decide +kernel
noncomputable def blX4_keep_0 : List Nat := [42, 182, 0, 22, 154, 0, 47, 43, 180, 0, 26, 3, 42, 180, 0, 11, 42, 180, 0, 18, 16, 48, 104, 16, 48, 184, 0, 29, 42, 180, 0, 15, 42, 180, 0, 18, 43, 180, 0, 35, 79, 42, 89, 180, 0, 18, 4, 96, 181, 0, 18]
set_option maxRecDepth 100000 in
theorem bcX4_keep_0 : ((cX4_keep.data.toList.drop 0).take blX4_keep_0.length).map UInt8.toNat = blX4_keep_0 := by decide +kernel
noncomputable def blX4_keep_1 : List Nat := [181, 0, 18, 177]
set_option maxRecDepth 100000 in
theorem bcX4_keep_1 : ((cX4_keep.data.toList.drop 48).take blX4_keep_1.length).map UInt8.toNat = blX4_keep_1 := by decide +kernel
noncomputable def blX4_stepsOf_0 : List Nat := [42, 27, 182, 0, 38, 153, 0, 12, 42, 180, 0, 15, 27, 46, 167, 0, 4, 3, 172]
set_option maxRecDepth 100000 in
theorem bcX4_stepsOf_0 : ((cX4_stepsOf.data.toList.drop 0).take blX4_stepsOf_0.length).map UInt8.toNat = blX4_stepsOf_0 := by decide +kernel
noncomputable def blX4_read_0 : List Nat := [28, 155, 0, 21, 28, 42, 27, 182, 0, 42, 162, 0, 12, 29, 155, 0, 8, 29, 7, 161, 0, 6, 18, 46, 172, 42, 180, 0, 11, 27, 16, 48, 104, 28, 7, 104, 96, 29, 96, 46, 172]
set_option maxRecDepth 100000 in
theorem bcX4_read_0 : ((cX4_read.data.toList.drop 0).take blX4_read_0.length).map UInt8.toNat = blX4_read_0 := by decide +kernel
noncomputable def blX4_sortOf_0 : List Nat := [42, 27, 28, 3, 182, 0, 47, 62, 29, 155, 0, 19, 29, 178, 0, 51, 190, 162, 0, 11, 178, 0, 51, 29, 46, 167, 0, 4, 2, 172]
set_option maxRecDepth 100000 in
theorem bcX4_sortOf_0 : ((cX4_sortOf.data.toList.drop 0).take blX4_sortOf_0.length).map UInt8.toNat = blX4_sortOf_0 := by decide +kernel

def F_X0_copyFrom (c_lines : Nat → Int32) (c_o1_lines : Nat → Int32) : Option ((Nat → Int32)) :=
  cpF (0 : Int32) (0 : Int32) (300 : Int32) 300 300 (nmF (va_cpy c_o1_lines c_lines (0 : Int32).toNatClampNeg (0 : Int32).toNatClampNeg (300 : Int32).toNatClampNeg) (fun f_2 => some f_2))
theorem gw_wsX00 : wsX00.all goodWord = true := by decide +kernel
abbrev w_X0_copyFrom (E : EE) (a_ a_lines a_o1 a_o1_lines : Nat) (c_lines : Nat → Int32) (c_o1_lines : Nat → Int32) : va_W := [k_X0 a_ a_lines, k_I E a_lines 300 c_lines, k_X0 a_o1 a_o1_lines, k_I E a_o1_lines 300 c_o1_lines]
def v_f_X0_copyFrom : List Cond := List.cons (.code yX0_copyFrom cX0_copyFrom 2 none) (HAppend.hAppend (α := List Cond) (β := List Cond) (γ := List Cond) [.fieldLink RX0 11 "HushWatch$Book" "lines" "[I", .methodLink RX0 22 arraycopyName, .native arraycopyName, .static arraycopyName, .initialized "java/lang/System"] (HAppend.hAppend (α := List Cond) (β := List Cond) (γ := List Cond) wsX00 []))
theorem gw_f_X0_copyFrom : v_f_X0_copyFrom.all goodWord = true := gw_c2 (by decide +kernel) (gw_ap gw_wsX00 gw_nil)
theorem i_f_X0_copyFrom_X0 : ∀ w ∈ wsX00, w ∈ v_f_X0_copyFrom := fun _ h => List.mem_cons_of_mem _ (List.mem_append_right _ (List.mem_append_left _ h))
theorem hd_X0_copyFrom : yX0_copyFrom.cls = RX0 ∧ yX0_copyFrom.cls ≠ "java/lang/invoke/MethodHandle" ∧ yX0_copyFrom.cls ≠ "java/lang/invoke/VarHandle" ∧ (parseMethodDescriptor yX0_copyFrom.desc).map (fun d => d.parameters.length) = some 1 := by decide +kernel
set_option maxHeartbeats 4000000 in
set_option maxRecDepth 100000 in
theorem f_X0_copyFrom (l : Launch) (E : EE) (sz : Nat) {a_ a_lines a_o1 a_o1_lines : Nat} {c_lines : Nat → Int32} {c_o1_lines : Nat → Int32} {n_lines : Nat → Int32} (hF : F_X0_copyFrom c_lines c_o1_lines = some n_lines) : Met l yX0_copyFrom v_f_X0_copyFrom (({ frames := 1, cells := 0, slots := 0, locals := 60 } : Room)) (va_Pc [.ref a_, .ref a_o1] (pW E sz (w_X0_copyFrom E a_ a_lines a_o1 a_o1_lines c_lines c_o1_lines))) (va_Qv (fun (_u : Unit) => True) (fun (_u : Unit) tt => va_P E.1 vwCl (w_X0_copyFrom E a_ a_lines a_o1 a_o1_lines n_lines c_o1_lines) tt.heap ∧ va_D (va_A (w_X0_copyFrom E a_ a_lines a_o1 a_o1_lines c_lines c_o1_lines) sz) (w_X0_copyFrom E a_ a_lines a_o1 a_o1_lines n_lines c_o1_lines)) (va_A (w_X0_copyFrom E a_ a_lines a_o1 a_o1_lines c_lines c_o1_lines) sz)) 0 0 (va_A (w_X0_copyFrom E a_ a_lines a_o1 a_o1_lines c_lines c_o1_lines) sz) := by
  refine Met.ofW (cc := cX0_copyFrom) (maxL := 2) (ret := none) (by decide) rfl ?_
  intro p e s m args below meth c s₁ B hml hv
  obtain ⟨rfl, hsz, ⟨hK, hN⟩, hP, hD0⟩ := hv
  have hx := B.exec
  have hb := B.bytes
  have hr := B.returns
  have hts := atoms_spec (ws := v_f_X0_copyFrom) B.pre
  have hown : s.vm.findClass RX0 = some m.cls := own_of hd_X0_copyFrom.1 (findClass_of_methodNamed B.named)
  have hlocks : meth.locks = false := B.notSynchronized
  subst hsz
  have hD := hD0.self (sz := s.heap.size)
  generalize hAe : va_A (w_X0_copyFrom E a_ a_lines a_o1 a_o1_lines c_lines c_o1_lines) s.heap.size = A at hD ⊢
  have hA : ∀ q : Nat, s.heap.size ≤ q → A q := fun q h => by rw [← hAe]; exact Or.inr h
  have hS : va_S A s.heap s.heap [] := va_S.rf
  have hl := lv_entry ([.ref a_, .ref a_o1]) (n := 2) (Nat.le_of_ble_eq_true rfl)
  rw [lg_entry_eq]
  generalize (lg_sl ([.ref a_, .ref a_o1]) ++ List.replicate (2 - (lg_sl ([.ref a_, .ref a_o1])).length) Slot.unset).toArray = ls at hl ⊢
  have hl : lv_has ls 2 [(0, .ref a_), (1, .ref a_o1)] := hl
  obtain ⟨Q, hQ⟩ : ∃ Q : State → Prop, Q = MQ below (va_Qv (fun (_u : Unit) => True) (fun (_u : Unit) tt => va_P E.1 vwCl (w_X0_copyFrom E a_ a_lines a_o1 a_o1_lines n_lines c_o1_lines) tt.heap ∧ va_D A (w_X0_copyFrom E a_ a_lines a_o1 a_o1_lines n_lines c_o1_lines)) A) #[Value.ref a_, Value.ref a_o1] s 0 0 A := ⟨_, rfl⟩
  rw [← hQ]
  change W p l e ({ frames := 1, cells := 0, slots := 0, locals := 60 } : Room) s m #[Value.ref a_, Value.ref a_o1] below meth c s.heap [] 0 0 Q (F0 m 0 ls [])
  suffices hh9 : ∀ (H : Heap) (locs : List Loc), va_P E.1 vwCl (w_X0_copyFrom E a_ a_lines a_o1 a_o1_lines c_lines c_o1_lines) H → va_D A (w_X0_copyFrom E a_ a_lines a_o1 a_o1_lines c_lines c_o1_lines) → va_S A s.heap H locs → W p l e ({ frames := 1, cells := 0, slots := 0, locals := 60 } : Room) s m #[Value.ref a_, Value.ref a_o1] below meth c H locs 0 0 Q (F0 m 0 ls []) from hh9 s.heap [] hP hD hS
  clear hP hD hS
  intro H locs hP hD hS
  have h9 := fixPD (ws' := [k_X0 a_ a_lines, k_I E a_lines 300 c_lines, k_X0 a_o1 a_o1_lines, k_I E a_o1_lines 300 c_o1_lines]) hP hD rfl
  clear hP hD
  obtain ⟨hP, hD⟩ := h9
  unfold F_X0_copyFrom at hF
  refine lv_aload_n hx hb (dq_43 0 bcX0_copyFrom_0 (j := 0) rfl rfl) rfl (lv_at hl 1 rfl) ?_
  refine gt_X0_0 (v := .ref a_o1_lines) hx hb hts i_f_X0_copyFrom_X0 hown hK hP 2 rfl (hts (.fieldLink RX0 11 "HushWatch$Book" "lines" "[I") (List.mem_of_getElem? (i := 1) rfl)) rfl (dq_180 0 bcX0_copyFrom_0 (j := 1) (i := 11) rfl rfl rfl) ?_
  refine lv_iconst (v := 0) hx hb (dq_3 0 bcX0_copyFrom_0 (j := 4) rfl rfl) (by decide) ?_
  refine lv_aload_n hx hb (dq_42 0 bcX0_copyFrom_0 (j := 5) rfl rfl) rfl (lv_at hl 0 rfl) ?_
  refine gt_X0_0 (v := .ref a_lines) hx hb hts i_f_X0_copyFrom_X0 hown hK hP 0 rfl (hts (.fieldLink RX0 11 "HushWatch$Book" "lines" "[I") (List.mem_of_getElem? (i := 1) rfl)) rfl (dq_180 0 bcX0_copyFrom_0 (j := 6) (i := 11) rfl rfl rfl) ?_
  refine lv_iconst (v := 0) hx hb (dq_3 0 bcX0_copyFrom_0 (j := 9) rfl rfl) (by decide) ?_
  refine lv_sipush (v := 300) hx hb (dq_17 0 bcX0_copyFrom_0 (j := 10) (i := 300) rfl rfl rfl) (by decide) ?_
  replace hF := cp_s hF
  obtain ⟨hy_1, hF⟩ := hF
  refine va_copyi hx hb (hml.trans hl.1.symm) hown (hts (.methodLink RX0 22 arraycopyName) (List.mem_of_getElem? (i := 2) rfl)) (hts (.native arraycopyName) (List.mem_of_getElem? (i := 3) rfl)) (hts (.static arraycopyName) (List.mem_of_getElem? (i := 4) rfl)) (hts (.initialized "java/lang/System") (List.mem_of_getElem? (i := 5) rfl)) hK hP hD hS 3 1 0 0 rfl rfl rfl rfl rfl hy_1.1 hy_1.2.1 hy_1.2.2.1 hy_1.2.2.2.1 hy_1.2.2.2.2 (fun _ _ => rfl) (Nat.le_of_ble_eq_true rfl) (Nat.le_of_ble_eq_true rfl) (dq_184 0 bcX0_copyFrom_0 (j := 13) (i := 22) rfl rfl rfl) (fun H locs hP hD hS => ?_)
  have h9 := fixPD (ws' := [k_X0 a_ a_lines, k_I E a_lines 300 (va_cpy c_o1_lines c_lines (0 : Int32).toNatClampNeg (0 : Int32).toNatClampNeg (300 : Int32).toNatClampNeg), k_X0 a_o1 a_o1_lines, k_I E a_o1_lines 300 c_o1_lines]) hP hD rfl
  clear hP hD
  obtain ⟨hP, hD⟩ := h9
  replace hF := nm_s hF
  obtain ⟨f_2, hf_2, hF⟩ := hF
  rw [← hf_2] at hP hD
  rw [hQ]
  have h9 := fin9 (P := fun u9 : (Nat → Int32) => va_P E.1 vwCl (w_X0_copyFrom E a_ a_lines a_o1 a_o1_lines u9 c_o1_lines) H ∧ va_D A (w_X0_copyFrom E a_ a_lines a_o1 a_o1_lines u9 c_o1_lines)) hF ⟨hP, hD⟩
  obtain ⟨hP9, hD9⟩ := h9
  exact W.vret hx hb hr (fun tt ht hW => ⟨⟨(), rfl, trivial, ht ▸ hP9, hD9⟩, hS.F ht⟩) hS.2.2 (dq_177 0 bcX0_copyFrom_0 (j := 16) rfl rfl)

def F_X0_read (p1 : Int32) (p2 : Int32) (c_lines : Nat → Int32) : Option (Int32) :=
  if p2 < (0 : Int32) then some (-100000000 : Int32) else if (3 : Int32) ≤ p2 then some (-100000000 : Int32) else bd1 (F_J9_floorMod_7cf53 p1 (100 : Int32)) (fun r_3 => ixF ((r_3 * (3 : Int32)) + p2) 300 (some (c_lines ((r_3 * (3 : Int32)) + p2).toNatClampNeg)))
abbrev w_X0_read (E : EE) (a_ a_lines : Nat) (c_lines : Nat → Int32) : va_W := [k_X0 a_ a_lines, k_I E a_lines 300 c_lines]
def v_f_X0_read : List Cond := List.cons (.code yX0_read cX0_read 3 (some .int)) (HAppend.hAppend (α := List Cond) (β := List Cond) (γ := List Cond) [.constant RX0 21 (-100000000), .fieldLink RX0 11 "HushWatch$Book" "lines" "[I", .methodLink RX0 15 yJ9_floorMod_7cf53, .static yJ9_floorMod_7cf53, .initialized RJ9] (HAppend.hAppend (α := List Cond) (β := List Cond) (γ := List Cond) wsX00 (HAppend.hAppend (α := List Cond) (β := List Cond) (γ := List Cond) v_f_J9_floorMod_7cf53 [])))
theorem gw_f_X0_read : v_f_X0_read.all goodWord = true := gw_c2 (by decide +kernel) (gw_ap gw_wsX00 (gw_ap gw_f_J9_floorMod_7cf53 gw_nil))
theorem i_f_X0_read_X0 : ∀ w ∈ wsX00, w ∈ v_f_X0_read := fun _ h => List.mem_cons_of_mem _ (List.mem_append_right _ (List.mem_append_left _ h))
theorem g_f_X0_read_f_J9_floorMod_7cf53_15 : GoodIn v_f_X0_read (va_wsS RX0 15 yJ9_floorMod_7cf53 v_f_J9_floorMod_7cf53) := goodIn_in gw_f_X0_read (in3 3 4 5 rfl rfl rfl (fun _ h => List.mem_cons_of_mem _ (List.mem_append_right _ (List.mem_append_right _ (List.mem_append_left _ h)))))
theorem hd_X0_read : yX0_read.cls = RX0 ∧ yX0_read.cls ≠ "java/lang/invoke/MethodHandle" ∧ yX0_read.cls ≠ "java/lang/invoke/VarHandle" ∧ (parseMethodDescriptor yX0_read.desc).map (fun d => d.parameters.length) = some 2 := by decide +kernel
set_option maxHeartbeats 4000000 in
set_option maxRecDepth 100000 in
theorem f_X0_read (l : Launch) (E : EE) {a_ a_lines : Nat} {p1 : Int32} {p2 : Int32} {c_lines : Nat → Int32} {rr : Int32} (hF : F_X0_read p1 p2 c_lines = some rr) : Met l yX0_read v_f_X0_read (({ frames := 1, cells := 0, slots := 0, locals := 22 } : Room)) (va_Pc [.ref a_, .int p1, .int p2] (pP E (w_X0_read E a_ a_lines c_lines))) (vp_Si (fun q : Int32 => q = rr)) 0 0 (fun _ => False) := by
  refine Met.ofW (cc := cX0_read) (maxL := 3) (ret := (some .int)) (by decide) rfl ?_
  intro p e s m args below meth c s₁ B hml hv
  obtain ⟨rfl, ⟨hK, hN⟩, hP⟩ := hv
  have hx := B.exec
  have hb := B.bytes
  have hr := B.returns
  have hts := atoms_spec (ws := v_f_X0_read) B.pre
  have hown : s.vm.findClass RX0 = some m.cls := own_of hd_X0_read.1 (findClass_of_methodNamed B.named)
  have hlocks : meth.locks = false := B.notSynchronized
  replace hP : va_P E.1 vwCl [k_X0 a_ a_lines, k_I E a_lines 300 c_lines] s.heap := hP
  have hl := lv_entry ([.ref a_, .int p1, .int p2]) (n := 3) (Nat.le_of_ble_eq_true rfl)
  rw [lg_entry_eq]
  generalize (lg_sl ([.ref a_, .int p1, .int p2]) ++ List.replicate (3 - (lg_sl ([.ref a_, .int p1, .int p2])).length) Slot.unset).toArray = ls at hl ⊢
  have hl : lv_has ls 3 [(0, .ref a_), (1, .int p1), (2, .int p2)] := hl
  obtain ⟨Q, hQ⟩ : ∃ Q : State → Prop, Q = MQ below (vp_Si (fun q : Int32 => q = rr)) #[Value.ref a_, Value.int p1, Value.int p2] s 0 0 (fun _ => False) := ⟨_, rfl⟩
  rw [← hQ]
  change W p l e ({ frames := 1, cells := 0, slots := 0, locals := 22 } : Room) s m #[Value.ref a_, Value.int p1, Value.int p2] below meth c s.heap [] 0 0 Q (F0 m 0 ls [])
  unfold F_X0_read at hF
  refine lv_iload_n hx hb (dq_28 0 bcX0_read_0 (j := 0) rfl rfl) rfl (lv_at hl 2 rfl) ?_
  refine lv_if_lt (tgt := 27) hx hb (dq_155 0 bcX0_read_0 (j := 1) (i := 26) rfl rfl rfl) (by decide) (fun c_1 => ?_) (fun c_1 => ?_)
  ·
    replace hF := ip c_1 hF
    refine lv_ldc (v := -100000000) hx hb hown (hts (.constant RX0 21 (-100000000)) (List.mem_of_getElem? (i := 1) rfl)) (dq_18 0 bcX0_read_0 (j := 27) (i := 21) rfl rfl) ?_
    rw [hQ]
    obtain e9_0 := inj1 hF
    exact W.iret (v := (-100000000 : Int32)) hx hb hr (fun tt ht hW => ⟨_, rfl, e9_0, ht⟩) (fun _ h => by cases h) (dq_172 0 bcX0_read_0 (j := 29) rfl rfl)
  ·
    replace hF := inn c_1 hF
    refine lv_iload_n hx hb (dq_28 0 bcX0_read_0 (j := 4) rfl rfl) rfl (lv_at hl 2 rfl) ?_
    refine lv_iconst (v := 3) hx hb (dq_6 0 bcX0_read_0 (j := 5) rfl rfl) (by decide) ?_
    refine lv_icmp_ge (tgt := 27) hx hb (dq_162 0 bcX0_read_0 (j := 6) (i := 21) rfl rfl rfl) (by decide) (fun c_2 => ?_) (fun c_2 => ?_)
    ·
      replace hF := ip c_2 hF
      refine lv_ldc (v := -100000000) hx hb hown (hts (.constant RX0 21 (-100000000)) (List.mem_of_getElem? (i := 1) rfl)) (dq_18 0 bcX0_read_0 (j := 27) (i := 21) rfl rfl) ?_
      rw [hQ]
      obtain e9_0 := inj1 hF
      exact W.iret (v := (-100000000 : Int32)) hx hb hr (fun tt ht hW => ⟨_, rfl, e9_0, ht⟩) (fun _ h => by cases h) (dq_172 0 bcX0_read_0 (j := 29) rfl rfl)
    ·
      replace hF := inn c_2 hF
      refine lv_aload_n hx hb (dq_42 0 bcX0_read_0 (j := 9) rfl rfl) rfl (lv_at hl 0 rfl) ?_
      refine gt_X0_0 (v := .ref a_lines) hx hb hts i_f_X0_read_X0 hown hK hP 0 rfl (hts (.fieldLink RX0 11 "HushWatch$Book" "lines" "[I") (List.mem_of_getElem? (i := 2) rfl)) rfl (dq_180 0 bcX0_read_0 (j := 10) (i := 11) rfl rfl rfl) ?_
      refine lv_iload_n hx hb (dq_27 0 bcX0_read_0 (j := 13) rfl rfl) rfl (lv_at hl 1 rfl) ?_
      refine lv_bipush (v := 100) hx hb (dq_16 0 bcX0_read_0 (j := 14) (i := 100) rfl rfl rfl) (by decide) ?_
      replace hF := bd1_s hF
      obtain ⟨r_3, hc_4, hF⟩ := hF
      have hPc : va_P E.1 vwCl [] s.heap := fun k q h => by simp at h
      refine pE_i (va_runS (As := [.int p1, .int (100 : Int32)]) (rest := [.ref a_lines])  ⟨hx, hb, hml, hown, hts⟩ (f_J9_floorMod_7cf53 l E (p0 := p1) (p1 := (100 : Int32)) hc_4) (va_cwS 2 hts g_f_X0_read_f_J9_floorMod_7cf53_15 rfl rfl rfl hd_J9_floorMod_7cf53.2 ⟨Nat.le_of_ble_eq_true rfl, Nat.le_of_ble_eq_true rfl⟩) ⟨pP.blind, (pP.pre ⟨hK, hN⟩ hPc)⟩ rfl rfl hl.1 rfl (lv_room (Nat.le_of_ble_eq_true rfl)) (dq_184 0 bcX0_read_0 (j := 16) (i := 15) rfl rfl rfl) ⟨Nat.le_of_ble_eq_true rfl, Nat.le_of_ble_eq_true rfl⟩) ?_
      refine lv_iconst (v := 3) hx hb (dq_6 0 bcX0_read_0 (j := 19) rfl rfl) (by decide) ?_
      refine lv_imul hx hb (dq_104 0 bcX0_read_0 (j := 20) rfl rfl) ?_
      refine lv_iload_n hx hb (dq_28 0 bcX0_read_0 (j := 21) rfl rfl) rfl (lv_at hl 2 rfl) ?_
      refine lv_iadd hx hb (dq_96 0 bcX0_read_0 (j := 22) rfl rfl) ?_
      replace hF := ix_s hF
      obtain ⟨hi_5, hF⟩ := hF
      refine va_iald hx hb hK hP 1 0 rfl rfl hi_5 (dq_46 0 bcX0_read_0 (j := 23) rfl rfl) ?_
      refine lv_goto (tgt := 29) hx hb (dq_167 0 bcX0_read_0 (j := 24) (i := 5) rfl rfl rfl) (by decide) ?_
      rw [hQ]
      obtain e9_0 := inj1 hF
      exact W.iret (v := c_lines ((r_3 * (3 : Int32)) + p2).toNatClampNeg) hx hb hr (fun tt ht hW => ⟨_, rfl, e9_0, ht⟩) (fun _ h => by cases h) (dq_172 0 bcX0_read_0 (j := 29) rfl rfl)

def F_X0_write (p1 : Int32) (p2 : Int32) (p3 : Int32) (p4 : Int32) (c_lines : Nat → Int32) : Option ((Nat → Int32)) :=
  bd1 (F_J9_floorMod_7cf53 p1 (100 : Int32)) (fun r_1 => ixF (r_1 * (3 : Int32)) 300 (nmF (upd c_lines (r_1 * (3 : Int32)).toNatClampNeg p2) (fun f_4 => ixF ((r_1 * (3 : Int32)) + (1 : Int32)) 300 (nmF (upd f_4 ((r_1 * (3 : Int32)) + (1 : Int32)).toNatClampNeg p3) (fun f_6 => ixF ((r_1 * (3 : Int32)) + (2 : Int32)) 300 (nmF (upd f_6 ((r_1 * (3 : Int32)) + (2 : Int32)).toNatClampNeg p4) (fun f_8 => some f_8)))))))
abbrev w_X0_write (E : EE) (a_ a_lines : Nat) (c_lines : Nat → Int32) : va_W := [k_X0 a_ a_lines, k_I E a_lines 300 c_lines]
def v_f_X0_write : List Cond := List.cons (.code yX0_write cX0_write 6 none) (HAppend.hAppend (α := List Cond) (β := List Cond) (γ := List Cond) [.fieldLink RX0 11 "HushWatch$Book" "lines" "[I", .methodLink RX0 15 yJ9_floorMod_7cf53, .static yJ9_floorMod_7cf53, .initialized RJ9] (HAppend.hAppend (α := List Cond) (β := List Cond) (γ := List Cond) v_f_J9_floorMod_7cf53 (HAppend.hAppend (α := List Cond) (β := List Cond) (γ := List Cond) wsX00 [])))
theorem gw_f_X0_write : v_f_X0_write.all goodWord = true := gw_c2 (by decide +kernel) (gw_ap gw_f_J9_floorMod_7cf53 (gw_ap gw_wsX00 gw_nil))
theorem i_f_X0_write_X0 : ∀ w ∈ wsX00, w ∈ v_f_X0_write := fun _ h => List.mem_cons_of_mem _ (List.mem_append_right _ (List.mem_append_right _ (List.mem_append_left _ h)))
theorem g_f_X0_write_f_J9_floorMod_7cf53_15 : GoodIn v_f_X0_write (va_wsS RX0 15 yJ9_floorMod_7cf53 v_f_J9_floorMod_7cf53) := goodIn_in gw_f_X0_write (in3 2 3 4 rfl rfl rfl (fun _ h => List.mem_cons_of_mem _ (List.mem_append_right _ (List.mem_append_left _ h))))
theorem hd_X0_write : yX0_write.cls = RX0 ∧ yX0_write.cls ≠ "java/lang/invoke/MethodHandle" ∧ yX0_write.cls ≠ "java/lang/invoke/VarHandle" ∧ (parseMethodDescriptor yX0_write.desc).map (fun d => d.parameters.length) = some 4 := by decide +kernel
set_option maxHeartbeats 4000000 in
set_option maxRecDepth 100000 in
theorem f_X0_write (l : Launch) (E : EE) (sz : Nat) {a_ a_lines : Nat} {p1 : Int32} {p2 : Int32} {p3 : Int32} {p4 : Int32} {c_lines : Nat → Int32} {n_lines : Nat → Int32} (hF : F_X0_write p1 p2 p3 p4 c_lines = some n_lines) : Met l yX0_write v_f_X0_write (({ frames := 1, cells := 0, slots := 0, locals := 22 } : Room)) (va_Pc [.ref a_, .int p1, .int p2, .int p3, .int p4] (pW E sz (w_X0_write E a_ a_lines c_lines))) (va_Qv (fun (_u : Unit) => True) (fun (_u : Unit) tt => va_P E.1 vwCl (w_X0_write E a_ a_lines n_lines) tt.heap ∧ va_D (va_A (w_X0_write E a_ a_lines c_lines) sz) (w_X0_write E a_ a_lines n_lines)) (va_A (w_X0_write E a_ a_lines c_lines) sz)) 0 0 (va_A (w_X0_write E a_ a_lines c_lines) sz) := by
  refine Met.ofW (cc := cX0_write) (maxL := 6) (ret := none) (by decide) rfl ?_
  intro p e s m args below meth c s₁ B hml hv
  obtain ⟨rfl, hsz, ⟨hK, hN⟩, hP, hD0⟩ := hv
  have hx := B.exec
  have hb := B.bytes
  have hr := B.returns
  have hts := atoms_spec (ws := v_f_X0_write) B.pre
  have hown : s.vm.findClass RX0 = some m.cls := own_of hd_X0_write.1 (findClass_of_methodNamed B.named)
  have hlocks : meth.locks = false := B.notSynchronized
  subst hsz
  have hD := hD0.self (sz := s.heap.size)
  generalize hAe : va_A (w_X0_write E a_ a_lines c_lines) s.heap.size = A at hD ⊢
  have hA : ∀ q : Nat, s.heap.size ≤ q → A q := fun q h => by rw [← hAe]; exact Or.inr h
  have hS : va_S A s.heap s.heap [] := va_S.rf
  have hl := lv_entry ([.ref a_, .int p1, .int p2, .int p3, .int p4]) (n := 6) (Nat.le_of_ble_eq_true rfl)
  rw [lg_entry_eq]
  generalize (lg_sl ([.ref a_, .int p1, .int p2, .int p3, .int p4]) ++ List.replicate (6 - (lg_sl ([.ref a_, .int p1, .int p2, .int p3, .int p4])).length) Slot.unset).toArray = ls at hl ⊢
  have hl : lv_has ls 6 [(0, .ref a_), (1, .int p1), (2, .int p2), (3, .int p3), (4, .int p4)] := hl
  obtain ⟨Q, hQ⟩ : ∃ Q : State → Prop, Q = MQ below (va_Qv (fun (_u : Unit) => True) (fun (_u : Unit) tt => va_P E.1 vwCl (w_X0_write E a_ a_lines n_lines) tt.heap ∧ va_D A (w_X0_write E a_ a_lines n_lines)) A) #[Value.ref a_, Value.int p1, Value.int p2, Value.int p3, Value.int p4] s 0 0 A := ⟨_, rfl⟩
  rw [← hQ]
  change W p l e ({ frames := 1, cells := 0, slots := 0, locals := 22 } : Room) s m #[Value.ref a_, Value.int p1, Value.int p2, Value.int p3, Value.int p4] below meth c s.heap [] 0 0 Q (F0 m 0 ls [])
  suffices hh9 : ∀ (H : Heap) (locs : List Loc), va_P E.1 vwCl (w_X0_write E a_ a_lines c_lines) H → va_D A (w_X0_write E a_ a_lines c_lines) → va_S A s.heap H locs → W p l e ({ frames := 1, cells := 0, slots := 0, locals := 22 } : Room) s m #[Value.ref a_, Value.int p1, Value.int p2, Value.int p3, Value.int p4] below meth c H locs 0 0 Q (F0 m 0 ls []) from hh9 s.heap [] hP hD hS
  clear hP hD hS
  intro H locs hP hD hS
  have h9 := fixPD (ws' := [k_X0 a_ a_lines, k_I E a_lines 300 c_lines]) hP hD rfl
  clear hP hD
  obtain ⟨hP, hD⟩ := h9
  unfold F_X0_write at hF
  refine lv_iload_n hx hb (dq_27 0 bcX0_write_0 (j := 0) rfl rfl) rfl (lv_at hl 1 rfl) ?_
  refine lv_bipush (v := 100) hx hb (dq_16 0 bcX0_write_0 (j := 1) (i := 100) rfl rfl rfl) (by decide) ?_
  replace hF := bd1_s hF
  obtain ⟨r_1, hc_2, hF⟩ := hF
  have hPc : va_P E.1 vwCl [] H := fun k q h => by simp at h
  refine pE_i (va_runS (As := [.int p1, .int (100 : Int32)]) (rest := [])  ⟨hx, hb, hml, hown, hts⟩ (f_J9_floorMod_7cf53 l E (p0 := p1) (p1 := (100 : Int32)) hc_2) (va_cwS 2 hts g_f_X0_write_f_J9_floorMod_7cf53_15 rfl rfl rfl hd_J9_floorMod_7cf53.2 ⟨Nat.le_of_ble_eq_true rfl, Nat.le_of_ble_eq_true rfl⟩) ⟨pP.blind, (pP.pre ⟨hK, hN⟩ hPc)⟩ rfl rfl hl.1 rfl (lv_room (Nat.le_of_ble_eq_true rfl)) (dq_184 0 bcX0_write_0 (j := 3) (i := 15) rfl rfl rfl) ⟨Nat.le_of_ble_eq_true rfl, Nat.le_of_ble_eq_true rfl⟩) ?_
  refine lv_iconst (v := 3) hx hb (dq_6 0 bcX0_write_0 (j := 6) rfl rfl) (by decide) ?_
  refine lv_imul hx hb (dq_104 0 bcX0_write_0 (j := 7) rfl rfl) ?_
  refine lv_istore (lv' := [(5, .int (r_1 * (3 : Int32))), (0, .ref a_), (1, .int p1), (2, .int p2), (3, .int p3), (4, .int p4)]) hx hb (dq_54 0 bcX0_write_0 (j := 8) (i := 5) rfl rfl) hl (by decide) rfl (fun ls hl => ?_)
  refine lv_aload_n hx hb (dq_42 0 bcX0_write_0 (j := 10) rfl rfl) rfl (lv_at hl 1 rfl) ?_
  refine gt_X0_0 (v := .ref a_lines) hx hb hts i_f_X0_write_X0 hown hK hP 0 rfl (hts (.fieldLink RX0 11 "HushWatch$Book" "lines" "[I") (List.mem_of_getElem? (i := 1) rfl)) rfl (dq_180 0 bcX0_write_0 (j := 11) (i := 11) rfl rfl rfl) ?_
  refine lv_iload hx hb (dq_21 0 bcX0_write_0 (j := 14) (i := 5) rfl rfl) (lv_at hl 0 rfl) ?_
  refine lv_iload_n hx hb (dq_28 0 bcX0_write_0 (j := 16) rfl rfl) rfl (lv_at hl 3 rfl) ?_
  replace hF := ix_s hF
  obtain ⟨hi_3, hF⟩ := hF
  refine va_iast hx hb hK hP hD hS 1 0 rfl rfl hi_3 (dq_79 0 bcX0_write_0 (j := 17) rfl rfl) (fun H locs hP hD hS => ?_)
  have h9 := fixPD (ws' := [k_X0 a_ a_lines, k_I E a_lines 300 (upd c_lines (r_1 * (3 : Int32)).toNatClampNeg p2)]) hP hD rfl
  clear hP hD
  obtain ⟨hP, hD⟩ := h9
  replace hF := nm_s hF
  obtain ⟨f_4, hf_4, hF⟩ := hF
  rw [← hf_4] at hP hD
  refine lv_aload_n hx hb (dq_42 0 bcX0_write_0 (j := 18) rfl rfl) rfl (lv_at hl 1 rfl) ?_
  refine gt_X0_0 (v := .ref a_lines) hx hb hts i_f_X0_write_X0 hown hK hP 0 rfl (hts (.fieldLink RX0 11 "HushWatch$Book" "lines" "[I") (List.mem_of_getElem? (i := 1) rfl)) rfl (dq_180 0 bcX0_write_0 (j := 19) (i := 11) rfl rfl rfl) ?_
  refine lv_iload hx hb (dq_21 0 bcX0_write_0 (j := 22) (i := 5) rfl rfl) (lv_at hl 0 rfl) ?_
  refine lv_iconst (v := 1) hx hb (dq_4 0 bcX0_write_0 (j := 24) rfl rfl) (by decide) ?_
  refine lv_iadd hx hb (dq_96 0 bcX0_write_0 (j := 25) rfl rfl) ?_
  refine lv_iload_n hx hb (dq_29 0 bcX0_write_0 (j := 26) rfl rfl) rfl (lv_at hl 4 rfl) ?_
  replace hF := ix_s hF
  obtain ⟨hi_5, hF⟩ := hF
  refine va_iast hx hb hK hP hD hS 1 0 rfl rfl hi_5 (dq_79 0 bcX0_write_0 (j := 27) rfl rfl) (fun H locs hP hD hS => ?_)
  have h9 := fixPD (ws' := [k_X0 a_ a_lines, k_I E a_lines 300 (upd f_4 ((r_1 * (3 : Int32)) + (1 : Int32)).toNatClampNeg p3)]) hP hD rfl
  clear hP hD
  obtain ⟨hP, hD⟩ := h9
  replace hF := nm_s hF
  obtain ⟨f_6, hf_6, hF⟩ := hF
  rw [← hf_6] at hP hD
  refine lv_aload_n hx hb (dq_42 0 bcX0_write_0 (j := 28) rfl rfl) rfl (lv_at hl 1 rfl) ?_
  refine gt_X0_0 (v := .ref a_lines) hx hb hts i_f_X0_write_X0 hown hK hP 0 rfl (hts (.fieldLink RX0 11 "HushWatch$Book" "lines" "[I") (List.mem_of_getElem? (i := 1) rfl)) rfl (dq_180 0 bcX0_write_0 (j := 29) (i := 11) rfl rfl rfl) ?_
  refine lv_iload hx hb (dq_21 0 bcX0_write_0 (j := 32) (i := 5) rfl rfl) (lv_at hl 0 rfl) ?_
  refine lv_iconst (v := 2) hx hb (dq_5 0 bcX0_write_0 (j := 34) rfl rfl) (by decide) ?_
  refine lv_iadd hx hb (dq_96 0 bcX0_write_0 (j := 35) rfl rfl) ?_
  refine lv_iload hx hb (dq_21 0 bcX0_write_0 (j := 36) (i := 4) rfl rfl) (lv_at hl 5 rfl) ?_
  replace hF := ix_s hF
  obtain ⟨hi_7, hF⟩ := hF
  refine va_iast hx hb hK hP hD hS 1 0 rfl rfl hi_7 (dq_79 0 bcX0_write_0 (j := 38) rfl rfl) (fun H locs hP hD hS => ?_)
  have h9 := fixPD (ws' := [k_X0 a_ a_lines, k_I E a_lines 300 (upd f_6 ((r_1 * (3 : Int32)) + (2 : Int32)).toNatClampNeg p4)]) hP hD rfl
  clear hP hD
  obtain ⟨hP, hD⟩ := h9
  replace hF := nm_s hF
  obtain ⟨f_8, hf_8, hF⟩ := hF
  rw [← hf_8] at hP hD
  rw [hQ]
  have h9 := fin9 (P := fun u9 : (Nat → Int32) => va_P E.1 vwCl (w_X0_write E a_ a_lines u9) H ∧ va_D A (w_X0_write E a_ a_lines u9)) hF ⟨hP, hD⟩
  obtain ⟨hP9, hD9⟩ := h9
  exact W.vret hx hb hr (fun tt ht hW => ⟨⟨(), rfl, trivial, ht ▸ hP9, hD9⟩, hS.F ht⟩) hS.2.2 (dq_177 0 bcX0_write_0 (j := 39) rfl rfl)

def F_X1_next (p1 : Int32) (c_x : Int64) : Option (Int32 × Int64) :=
  if p1 ≤ (0 : Int32) then some ((0 : Int32), (c_x * (6364136223846793005 : Int64)) + (1442695040888963407 : Int64)) else nzL p1.toInt64 (some (((lushrF ((c_x * (6364136223846793005 : Int64)) + (1442695040888963407 : Int64)) (33 : Int32)) - (lushrF ((c_x * (6364136223846793005 : Int64)) + (1442695040888963407 : Int64)) (33 : Int32)) / p1.toInt64 * p1.toInt64).toInt32, (c_x * (6364136223846793005 : Int64)) + (1442695040888963407 : Int64)))
theorem gw_wsX10 : wsX10.all goodWord = true := by decide +kernel
abbrev w_X1_next (E : EE) (a_ : Nat) (c_x : Int64) (c_sort : Int32) (c_a : Int32) (c_b : Int32) (c_c : Int32) : va_W := [k_X1 a_ c_x c_sort c_a c_b c_c]
def v_f_X1_next : List Cond := List.cons (.code yX1_next cX1_next 2 (some .int)) (HAppend.hAppend (α := List Cond) (β := List Cond) (γ := List Cond) [.fieldLink RX1 9 "HushWatch$Draws" "x" "J", .constantLong RX1 32 (6364136223846793005), .constantLong RX1 34 (1442695040888963407)] (HAppend.hAppend (α := List Cond) (β := List Cond) (γ := List Cond) wsX10 []))
theorem gw_f_X1_next : v_f_X1_next.all goodWord = true := gw_c2 (by decide +kernel) (gw_ap gw_wsX10 gw_nil)
theorem i_f_X1_next_X1 : ∀ w ∈ wsX10, w ∈ v_f_X1_next := fun _ h => List.mem_cons_of_mem _ (List.mem_append_right _ (List.mem_append_left _ h))
theorem hd_X1_next : yX1_next.cls = RX1 ∧ yX1_next.cls ≠ "java/lang/invoke/MethodHandle" ∧ yX1_next.cls ≠ "java/lang/invoke/VarHandle" ∧ (parseMethodDescriptor yX1_next.desc).map (fun d => d.parameters.length) = some 1 := by decide +kernel
set_option maxHeartbeats 4000000 in
set_option maxRecDepth 100000 in
theorem f_X1_next (l : Launch) (E : EE) (sz : Nat) {a_ : Nat} {p1 : Int32} {c_x : Int64} {c_sort : Int32} {c_a : Int32} {c_b : Int32} {c_c : Int32} {rr : Int32} {n_x : Int64} (hF : F_X1_next p1 c_x = some (rr, n_x)) : Met l yX1_next v_f_X1_next (({ frames := 0, cells := 0, slots := 0, locals := 0 } : Room)) (va_Pc [.ref a_, .int p1] (pW E sz (w_X1_next E a_ c_x c_sort c_a c_b c_c))) (va_Qi (fun (q : Int32) (_u : Unit) => q = rr) (fun (_u : Unit) tt => va_P E.1 vwCl (w_X1_next E a_ n_x c_sort c_a c_b c_c) tt.heap ∧ va_D (va_A (w_X1_next E a_ c_x c_sort c_a c_b c_c) sz) (w_X1_next E a_ n_x c_sort c_a c_b c_c)) (va_A (w_X1_next E a_ c_x c_sort c_a c_b c_c) sz)) 0 0 (va_A (w_X1_next E a_ c_x c_sort c_a c_b c_c) sz) := by
  refine Met.ofW (cc := cX1_next) (maxL := 2) (ret := (some .int)) (by decide) rfl ?_
  intro p e s m args below meth c s₁ B hml hv
  obtain ⟨rfl, hsz, ⟨hK, hN⟩, hP, hD0⟩ := hv
  have hx := B.exec
  have hb := B.bytes
  have hr := B.returns
  have hts := atoms_spec (ws := v_f_X1_next) B.pre
  have hown : s.vm.findClass RX1 = some m.cls := own_of hd_X1_next.1 (findClass_of_methodNamed B.named)
  have hlocks : meth.locks = false := B.notSynchronized
  subst hsz
  have hD := hD0.self (sz := s.heap.size)
  generalize hAe : va_A (w_X1_next E a_ c_x c_sort c_a c_b c_c) s.heap.size = A at hD ⊢
  have hA : ∀ q : Nat, s.heap.size ≤ q → A q := fun q h => by rw [← hAe]; exact Or.inr h
  have hS : va_S A s.heap s.heap [] := va_S.rf
  have hl := lv_entry ([.ref a_, .int p1]) (n := 2) (Nat.le_of_ble_eq_true rfl)
  rw [lg_entry_eq]
  generalize (lg_sl ([.ref a_, .int p1]) ++ List.replicate (2 - (lg_sl ([.ref a_, .int p1])).length) Slot.unset).toArray = ls at hl ⊢
  have hl : lv_has ls 2 [(0, .ref a_), (1, .int p1)] := hl
  obtain ⟨Q, hQ⟩ : ∃ Q : State → Prop, Q = MQ below (va_Qi (fun (q : Int32) (_u : Unit) => q = rr) (fun (_u : Unit) tt => va_P E.1 vwCl (w_X1_next E a_ n_x c_sort c_a c_b c_c) tt.heap ∧ va_D A (w_X1_next E a_ n_x c_sort c_a c_b c_c)) A) #[Value.ref a_, Value.int p1] s 0 0 A := ⟨_, rfl⟩
  rw [← hQ]
  change W p l e ({ frames := 0, cells := 0, slots := 0, locals := 0 } : Room) s m #[Value.ref a_, Value.int p1] below meth c s.heap [] 0 0 Q (F0 m 0 ls [])
  suffices hh9 : ∀ (H : Heap) (locs : List Loc), va_P E.1 vwCl (w_X1_next E a_ c_x c_sort c_a c_b c_c) H → va_D A (w_X1_next E a_ c_x c_sort c_a c_b c_c) → va_S A s.heap H locs → W p l e ({ frames := 0, cells := 0, slots := 0, locals := 0 } : Room) s m #[Value.ref a_, Value.int p1] below meth c H locs 0 0 Q (F0 m 0 ls []) from hh9 s.heap [] hP hD hS
  clear hP hD hS
  intro H locs hP hD hS
  have h9 := fixPD (ws' := [k_X1 a_ c_x c_sort c_a c_b c_c]) hP hD rfl
  clear hP hD
  obtain ⟨hP, hD⟩ := h9
  unfold F_X1_next at hF
  refine lv_aload_n hx hb (dq_42 0 bcX1_next_0 (j := 0) rfl rfl) rfl (lv_at hl 0 rfl) ?_
  refine lv_aload_n hx hb (dq_42 0 bcX1_next_0 (j := 1) rfl rfl) rfl (lv_at hl 0 rfl) ?_
  refine gt_X1_0 (v := .long c_x) hx hb hts i_f_X1_next_X1 hown hK hP 0 rfl (hts (.fieldLink RX1 9 "HushWatch$Draws" "x" "J") (List.mem_of_getElem? (i := 1) rfl)) rfl (dq_180 0 bcX1_next_0 (j := 2) (i := 9) rfl rfl rfl) ?_
  refine lv_ldc2 (v := 6364136223846793005) hx hb hown (hts (.constantLong RX1 32 (6364136223846793005)) (List.mem_of_getElem? (i := 2) rfl)) (dq_20 0 bcX1_next_0 (j := 5) (i := 32) rfl rfl rfl) ?_
  refine lv_lmul hx hb (dq_105 0 bcX1_next_0 (j := 8) rfl rfl) ?_
  refine lv_ldc2 (v := 1442695040888963407) hx hb hown (hts (.constantLong RX1 34 (1442695040888963407)) (List.mem_of_getElem? (i := 3) rfl)) (dq_20 0 bcX1_next_0 (j := 9) (i := 34) rfl rfl rfl) ?_
  refine lv_ladd hx hb (dq_97 0 bcX1_next_0 (j := 12) rfl rfl) ?_
  refine pt_X1_0 (v := .long ((c_x * (6364136223846793005 : Int64)) + (1442695040888963407 : Int64))) hx hb hts i_f_X1_next_X1 hown hK hP hD hS 0 rfl (hts (.fieldLink RX1 9 "HushWatch$Draws" "x" "J") (List.mem_of_getElem? (i := 1) rfl)) rfl rfl (Nat.le_of_ble_eq_true rfl) (dq_181 0 bcX1_next_0 (j := 13) (i := 9) rfl rfl rfl) (fun H locs hP hD hS => ?_)
  have h9 := fixPD (ws' := [k_X1 a_ ((c_x * (6364136223846793005 : Int64)) + (1442695040888963407 : Int64)) c_sort c_a c_b c_c]) hP hD rfl
  clear hP hD
  obtain ⟨hP, hD⟩ := h9
  refine lv_iload_n hx hb (dq_27 0 bcX1_next_0 (j := 16) rfl rfl) rfl (lv_at hl 1 rfl) ?_
  refine lv_if_le (tgt := 34) hx hb (dq_158 0 bcX1_next_0 (j := 17) (i := 17) rfl rfl rfl) (by decide) (fun c_1 => ?_) (fun c_1 => ?_)
  ·
    replace hF := ip c_1 hF
    refine lv_iconst (v := 0) hx hb (dq_3 0 bcX1_next_0 (j := 34) rfl rfl) (by decide) ?_
    rw [hQ]
    have h9 := fin9 (P := fun u9 : Int32 × Int64 => (0 : Int32) = u9.1 ∧ va_P E.1 vwCl (w_X1_next E a_ u9.2 c_sort c_a c_b c_c) H ∧ va_D A (w_X1_next E a_ u9.2 c_sort c_a c_b c_c)) hF ⟨rfl, hP, hD⟩
    obtain ⟨e9_0, hP9, hD9⟩ := h9
    exact W.iret (v := (0 : Int32)) hx hb hr (fun tt ht hW => ⟨⟨_, (), rfl, e9_0, ht ▸ hP9, hD9⟩, hS.F ht⟩) hS.2.2 (dq_172 0 bcX1_next_0 (j := 35) rfl rfl)
  ·
    replace hF := inn c_1 hF
    refine lv_aload_n hx hb (dq_42 0 bcX1_next_0 (j := 20) rfl rfl) rfl (lv_at hl 0 rfl) ?_
    refine gt_X1_0 (v := .long ((c_x * (6364136223846793005 : Int64)) + (1442695040888963407 : Int64))) hx hb hts i_f_X1_next_X1 hown hK hP 0 rfl (hts (.fieldLink RX1 9 "HushWatch$Draws" "x" "J") (List.mem_of_getElem? (i := 1) rfl)) rfl (dq_180 0 bcX1_next_0 (j := 21) (i := 9) rfl rfl rfl) ?_
    refine lv_bipush (v := 33) hx hb (dq_16 0 bcX1_next_0 (j := 24) (i := 33) rfl rfl rfl) (by decide) ?_
    refine lv_lushr (v := (lushrF ((c_x * (6364136223846793005 : Int64)) + (1442695040888963407 : Int64)) (33 : Int32))) hx hb (dq_125 0 bcX1_next_0 (j := 26) rfl rfl) rfl ?_
    refine lv_iload_n hx hb (dq_27 0 bcX1_next_0 (j := 27) rfl rfl) rfl (lv_at hl 1 rfl) ?_
    refine lv_i2l (v := p1.toInt64) hx hb (dq_133 0 bcX1_next_0 (j := 28) rfl rfl) rfl ?_
    replace hF := nzL_s hF
    obtain ⟨hz_2, hF⟩ := hF
    refine lv_lrem hx hb (dq_113 0 bcX1_next_0 (j := 29) rfl rfl) (hz_2) ?_
    refine lv_l2i (v := ((lushrF ((c_x * (6364136223846793005 : Int64)) + (1442695040888963407 : Int64)) (33 : Int32)) - (lushrF ((c_x * (6364136223846793005 : Int64)) + (1442695040888963407 : Int64)) (33 : Int32)) / p1.toInt64 * p1.toInt64).toInt32) hx hb (dq_136 0 bcX1_next_0 (j := 30) rfl rfl) rfl ?_
    refine lv_goto (tgt := 35) hx hb (dq_167 0 bcX1_next_0 (j := 31) (i := 4) rfl rfl rfl) (by decide) ?_
    rw [hQ]
    have h9 := fin9 (P := fun u9 : Int32 × Int64 => (((lushrF ((c_x * (6364136223846793005 : Int64)) + (1442695040888963407 : Int64)) (33 : Int32)) - (lushrF ((c_x * (6364136223846793005 : Int64)) + (1442695040888963407 : Int64)) (33 : Int32)) / p1.toInt64 * p1.toInt64).toInt32) = u9.1 ∧ va_P E.1 vwCl (w_X1_next E a_ u9.2 c_sort c_a c_b c_c) H ∧ va_D A (w_X1_next E a_ u9.2 c_sort c_a c_b c_c)) hF ⟨rfl, hP, hD⟩
    obtain ⟨e9_0, hP9, hD9⟩ := h9
    exact W.iret (v := ((lushrF ((c_x * (6364136223846793005 : Int64)) + (1442695040888963407 : Int64)) (33 : Int32)) - (lushrF ((c_x * (6364136223846793005 : Int64)) + (1442695040888963407 : Int64)) (33 : Int32)) / p1.toInt64 * p1.toInt64).toInt32) hx hb hr (fun tt ht hW => ⟨⟨_, (), rfl, e9_0, ht ▸ hP9, hD9⟩, hS.F ht⟩) hS.2.2 (dq_172 0 bcX1_next_0 (j := 35) rfl rfl)

def F_X1_pickAct (p1 : Int32) (c_x : Int64) (c_sort : Int32) (c_a : Int32) (c_b : Int32) (c_c : Int32) : Option (Int64 × Int32 × Int32 × Int32 × Int32) :=
  bd2 (F_X1_next (8 : Int32) c_x) (fun r_1 w_2 => if r_1 = (7 : Int32) then some (w_2, (1 : Int32), (-1 : Int32), c_b, c_c) else bd2 (F_X1_next p1 w_2) (fun r_5 w_6 => if r_1 = (6 : Int32) then bd2 (F_X1_next (9 : Int32) w_6) (fun r_15 w_16 => some (w_16, (4 : Int32), r_5, r_15 + (1 : Int32), c_c)) else bd2 (F_X1_next (21 : Int32) w_6) (fun r_9 w_10 => bd2 (F_X1_next (21 : Int32) w_10) (fun r_12 w_13 => some (w_13, (0 : Int32), r_5, r_9 - (10 : Int32), r_12 - (10 : Int32))))))
abbrev w_X1_pickAct (E : EE) (a_ : Nat) (c_x : Int64) (c_sort : Int32) (c_a : Int32) (c_b : Int32) (c_c : Int32) : va_W := [k_X1 a_ c_x c_sort c_a c_b c_c]
def v_f_X1_pickAct : List Cond := List.cons (.code yX1_pickAct cX1_pickAct 3 none) (HAppend.hAppend (α := List Cond) (β := List Cond) (γ := List Cond) [.fieldLink RX1 19 "HushWatch$Draws" "a" "I", .fieldLink RX1 15 "HushWatch$Draws" "sort" "I", .fieldLink RX1 22 "HushWatch$Draws" "b" "I", .fieldLink RX1 25 "HushWatch$Draws" "c" "I", .methodLink RX1 28 yX1_next, .instanceMethod yX1_next, .selects RX1 yX1_next yX1_next, .initialized RX1] (HAppend.hAppend (α := List Cond) (β := List Cond) (γ := List Cond) v_f_X1_next (HAppend.hAppend (α := List Cond) (β := List Cond) (γ := List Cond) wsX10 [])))
theorem gw_f_X1_pickAct : v_f_X1_pickAct.all goodWord = true := gw_c2 (by decide +kernel) (gw_ap gw_f_X1_next (gw_ap gw_wsX10 gw_nil))
theorem i_f_X1_pickAct_X1 : ∀ w ∈ wsX10, w ∈ v_f_X1_pickAct := fun _ h => List.mem_cons_of_mem _ (List.mem_append_right _ (List.mem_append_right _ (List.mem_append_left _ h)))
theorem g_f_X1_pickAct_f_X1_next_28 : GoodIn v_f_X1_pickAct (wsV RX1 28 RX1 yX1_next v_f_X1_next) := goodIn_in gw_f_X1_pickAct (in4 5 6 7 8 rfl rfl rfl rfl (fun _ h => List.mem_cons_of_mem _ (List.mem_append_right _ (List.mem_append_left _ h))))
theorem hd_X1_pickAct : yX1_pickAct.cls = RX1 ∧ yX1_pickAct.cls ≠ "java/lang/invoke/MethodHandle" ∧ yX1_pickAct.cls ≠ "java/lang/invoke/VarHandle" ∧ (parseMethodDescriptor yX1_pickAct.desc).map (fun d => d.parameters.length) = some 1 := by decide +kernel
set_option maxHeartbeats 4000000 in
set_option maxRecDepth 100000 in
theorem f_X1_pickAct (l : Launch) (E : EE) (sz : Nat) {a_ : Nat} {p1 : Int32} {c_x : Int64} {c_sort : Int32} {c_a : Int32} {c_b : Int32} {c_c : Int32} {n_x : Int64} {n_sort : Int32} {n_a : Int32} {n_b : Int32} {n_c : Int32} (hF : F_X1_pickAct p1 c_x c_sort c_a c_b c_c = some (n_x, n_sort, n_a, n_b, n_c)) : Met l yX1_pickAct v_f_X1_pickAct (({ frames := 1, cells := 0, slots := 0, locals := 21 } : Room)) (va_Pc [.ref a_, .int p1] (pW E sz (w_X1_pickAct E a_ c_x c_sort c_a c_b c_c))) (va_Qv (fun (_u : Unit) => True) (fun (_u : Unit) tt => va_P E.1 vwCl (w_X1_pickAct E a_ n_x n_sort n_a n_b n_c) tt.heap ∧ va_D (va_A (w_X1_pickAct E a_ c_x c_sort c_a c_b c_c) sz) (w_X1_pickAct E a_ n_x n_sort n_a n_b n_c)) (va_A (w_X1_pickAct E a_ c_x c_sort c_a c_b c_c) sz)) 0 0 (va_A (w_X1_pickAct E a_ c_x c_sort c_a c_b c_c) sz) := by
  refine Met.ofW (cc := cX1_pickAct) (maxL := 3) (ret := none) (by decide) rfl ?_
  intro p e s m args below meth c s₁ B hml hv
  obtain ⟨rfl, hsz, ⟨hK, hN⟩, hP, hD0⟩ := hv
  have hx := B.exec
  have hb := B.bytes
  have hr := B.returns
  have hts := atoms_spec (ws := v_f_X1_pickAct) B.pre
  have hown : s.vm.findClass RX1 = some m.cls := own_of hd_X1_pickAct.1 (findClass_of_methodNamed B.named)
  have hlocks : meth.locks = false := B.notSynchronized
  subst hsz
  have hD := hD0.self (sz := s.heap.size)
  generalize hAe : va_A (w_X1_pickAct E a_ c_x c_sort c_a c_b c_c) s.heap.size = A at hD ⊢
  have hA : ∀ q : Nat, s.heap.size ≤ q → A q := fun q h => by rw [← hAe]; exact Or.inr h
  have hS : va_S A s.heap s.heap [] := va_S.rf
  have hl := lv_entry ([.ref a_, .int p1]) (n := 3) (Nat.le_of_ble_eq_true rfl)
  rw [lg_entry_eq]
  generalize (lg_sl ([.ref a_, .int p1]) ++ List.replicate (3 - (lg_sl ([.ref a_, .int p1])).length) Slot.unset).toArray = ls at hl ⊢
  have hl : lv_has ls 3 [(0, .ref a_), (1, .int p1)] := hl
  obtain ⟨Q, hQ⟩ : ∃ Q : State → Prop, Q = MQ below (va_Qv (fun (_u : Unit) => True) (fun (_u : Unit) tt => va_P E.1 vwCl (w_X1_pickAct E a_ n_x n_sort n_a n_b n_c) tt.heap ∧ va_D A (w_X1_pickAct E a_ n_x n_sort n_a n_b n_c)) A) #[Value.ref a_, Value.int p1] s 0 0 A := ⟨_, rfl⟩
  rw [← hQ]
  change W p l e ({ frames := 1, cells := 0, slots := 0, locals := 21 } : Room) s m #[Value.ref a_, Value.int p1] below meth c s.heap [] 0 0 Q (F0 m 0 ls [])
  suffices hh9 : ∀ (H : Heap) (locs : List Loc), va_P E.1 vwCl (w_X1_pickAct E a_ c_x c_sort c_a c_b c_c) H → va_D A (w_X1_pickAct E a_ c_x c_sort c_a c_b c_c) → va_S A s.heap H locs → W p l e ({ frames := 1, cells := 0, slots := 0, locals := 21 } : Room) s m #[Value.ref a_, Value.int p1] below meth c H locs 0 0 Q (F0 m 0 ls []) from hh9 s.heap [] hP hD hS
  clear hP hD hS
  intro H locs hP hD hS
  have h9 := fixPD (ws' := [k_X1 a_ c_x c_sort c_a c_b c_c]) hP hD rfl
  clear hP hD
  obtain ⟨hP, hD⟩ := h9
  unfold F_X1_pickAct at hF
  refine lv_aload_n hx hb (dq_42 0 bcX1_pickAct_0 (j := 0) rfl rfl) rfl (lv_at hl 0 rfl) ?_
  refine lv_bipush (v := 8) hx hb (dq_16 0 bcX1_pickAct_0 (j := 1) (i := 8) rfl rfl rfl) (by decide) ?_
  replace hF := bd2_s hF
  obtain ⟨r_1, w_2, hc_3, hF⟩ := hF
  obtain ⟨hPc, hDc, hFc⟩ := wcut (wc := (w_X1_next E a_ c_x c_sort c_a c_b c_c)) hP hD hS hA [0] (by decide) rfl
  have hrc := va_recv hK hPc (ci := 2) (q0 := 0) rfl rfl
  refine cE_i (wc := (w_X1_next E a_ c_x c_sort c_a c_b c_c)) (wr := []) (w1 := (w_X1_next E a_ w_2 c_sort c_a c_b c_c)) (va_runV (As := [.int (8 : Int32)]) (rest := [])  ⟨hx, hb, hml, hown, hts⟩ (f_X1_next l E H.size (a_ := a_) (p1 := (8 : Int32)) (c_x := c_x) (c_sort := c_sort) (c_a := c_a) (c_b := c_b) (c_c := c_c) hc_3) (cwV 1 hts g_f_X1_pickAct_f_X1_next_28 rfl rfl rfl hd_X1_next ⟨Nat.le_of_ble_eq_true rfl, Nat.le_of_ble_eq_true rfl⟩) ⟨pW.blind, hrc, (pW.pre ⟨hK, hN⟩ hPc hDc)⟩ rfl rfl hl.1 rfl (lv_room (Nat.le_of_ble_eq_true rfl)) (dq_182 0 bcX1_pickAct_0 (j := 3) (i := 28) rfl rfl rfl) ⟨Nat.le_of_ble_eq_true rfl, Nat.le_of_ble_eq_true rfl⟩) hS hFc hP hD [0] [] rfl rfl (by decide) (by decide) (fun H locs hP hD hS => ?_)
  have h9 := fixPD (ws' := [k_X1 a_ w_2 c_sort c_a c_b c_c]) hP hD rfl
  clear hP hD
  obtain ⟨hP, hD⟩ := h9
  refine lv_istore_n (lv' := [(2, .int r_1), (0, .ref a_), (1, .int p1)]) hx hb (dq_61 0 bcX1_pickAct_0 (j := 6) rfl rfl) rfl hl (by decide) rfl (fun ls hl => ?_)
  refine lv_iload_n hx hb (dq_28 0 bcX1_pickAct_0 (j := 7) rfl rfl) rfl (lv_at hl 0 rfl) ?_
  refine lv_bipush (v := 7) hx hb (dq_16 0 bcX1_pickAct_0 (j := 8) (i := 7) rfl rfl rfl) (by decide) ?_
  refine lv_icmp_ne (tgt := 24) hx hb (dq_160 0 bcX1_pickAct_0 (j := 10) (i := 14) rfl rfl rfl) (by decide) (fun c_4 => ?_) (fun c_4 => ?_)
  ·
    replace hF := inn c_4 hF
    refine lv_aload_n hx hb (dq_42 0 bcX1_pickAct_0 (j := 24) rfl rfl) rfl (lv_at hl 1 rfl) ?_
    refine lv_aload_n hx hb (dq_42 0 bcX1_pickAct_0 (j := 25) rfl rfl) rfl (lv_at hl 1 rfl) ?_
    refine lv_iload_n hx hb (dq_27 0 bcX1_pickAct_0 (j := 26) rfl rfl) rfl (lv_at hl 2 rfl) ?_
    replace hF := bd2_s hF
    obtain ⟨r_5, w_6, hc_7, hF⟩ := hF
    obtain ⟨hPc, hDc, hFc⟩ := wcut (wc := (w_X1_next E a_ w_2 c_sort c_a c_b c_c)) hP hD hS hA [0] (by decide) rfl
    have hrc := va_recv hK hPc (ci := 2) (q0 := 0) rfl rfl
    refine cE_i (wc := (w_X1_next E a_ w_2 c_sort c_a c_b c_c)) (wr := []) (w1 := (w_X1_next E a_ w_6 c_sort c_a c_b c_c)) (va_runV (As := [.int p1]) (rest := [.ref a_])  ⟨hx, hb, hml, hown, hts⟩ (f_X1_next l E H.size (a_ := a_) (p1 := p1) (c_x := w_2) (c_sort := c_sort) (c_a := c_a) (c_b := c_b) (c_c := c_c) hc_7) (cwV 1 hts g_f_X1_pickAct_f_X1_next_28 rfl rfl rfl hd_X1_next ⟨Nat.le_of_ble_eq_true rfl, Nat.le_of_ble_eq_true rfl⟩) ⟨pW.blind, hrc, (pW.pre ⟨hK, hN⟩ hPc hDc)⟩ rfl rfl hl.1 rfl (lv_room (Nat.le_of_ble_eq_true rfl)) (dq_182 0 bcX1_pickAct_0 (j := 27) (i := 28) rfl rfl rfl) ⟨Nat.le_of_ble_eq_true rfl, Nat.le_of_ble_eq_true rfl⟩) hS hFc hP hD [0] [] rfl rfl (by decide) (by decide) (fun H locs hP hD hS => ?_)
    have h9 := fixPD (ws' := [k_X1 a_ w_6 c_sort c_a c_b c_c]) hP hD rfl
    clear hP hD
    obtain ⟨hP, hD⟩ := h9
    refine pt_X1_2 (v := .int r_5) hx hb hts i_f_X1_pickAct_X1 hown hK hP hD hS 0 rfl (hts (.fieldLink RX1 19 "HushWatch$Draws" "a" "I") (List.mem_of_getElem? (i := 1) rfl)) rfl rfl (Nat.le_of_ble_eq_true rfl) (dq_181 0 bcX1_pickAct_0 (j := 30) (i := 19) rfl rfl rfl) (fun H locs hP hD hS => ?_)
    have h9 := fixPD (ws' := [k_X1 a_ w_6 c_sort r_5 c_b c_c]) hP hD rfl
    clear hP hD
    obtain ⟨hP, hD⟩ := h9
    refine lv_iload_n hx hb (dq_28 0 bcX1_pickAct_0 (j := 33) rfl rfl) rfl (lv_at hl 0 rfl) ?_
    refine lv_bipush (v := 6) hx hb (dq_16 0 bcX1_pickAct_0 (j := 34) (i := 6) rfl rfl rfl) (by decide) ?_
    refine lv_icmp_ne (tgt := 57) hx hb (dq_160 0 bcX1_pickAct_0 (j := 36) (i := 21) rfl rfl rfl) (by decide) (fun c_8 => ?_) (fun c_8 => ?_)
    ·
      replace hF := inn c_8 hF
      refine lv_aload_n hx hb (dq_42 48 bcX1_pickAct_1 (j := 9) rfl rfl) rfl (lv_at hl 1 rfl) ?_
      refine lv_iconst (v := 0) hx hb (dq_3 48 bcX1_pickAct_1 (j := 10) rfl rfl) (by decide) ?_
      refine pt_X1_1 (v := .int (0 : Int32)) hx hb hts i_f_X1_pickAct_X1 hown hK hP hD hS 0 rfl (hts (.fieldLink RX1 15 "HushWatch$Draws" "sort" "I") (List.mem_of_getElem? (i := 2) rfl)) rfl rfl (Nat.le_of_ble_eq_true rfl) (dq_181 48 bcX1_pickAct_1 (j := 11) (i := 15) rfl rfl rfl) (fun H locs hP hD hS => ?_)
      have h9 := fixPD (ws' := [k_X1 a_ w_6 (0 : Int32) r_5 c_b c_c]) hP hD rfl
      clear hP hD
      obtain ⟨hP, hD⟩ := h9
      refine lv_aload_n hx hb (dq_42 48 bcX1_pickAct_1 (j := 14) rfl rfl) rfl (lv_at hl 1 rfl) ?_
      refine lv_aload_n hx hb (dq_42 48 bcX1_pickAct_1 (j := 15) rfl rfl) rfl (lv_at hl 1 rfl) ?_
      refine lv_bipush (v := 21) hx hb (dq_16 48 bcX1_pickAct_1 (j := 16) (i := 21) rfl rfl rfl) (by decide) ?_
      replace hF := bd2_s hF
      obtain ⟨r_9, w_10, hc_11, hF⟩ := hF
      obtain ⟨hPc, hDc, hFc⟩ := wcut (wc := (w_X1_next E a_ w_6 (0 : Int32) r_5 c_b c_c)) hP hD hS hA [0] (by decide) rfl
      have hrc := va_recv hK hPc (ci := 2) (q0 := 0) rfl rfl
      refine cE_i (wc := (w_X1_next E a_ w_6 (0 : Int32) r_5 c_b c_c)) (wr := []) (w1 := (w_X1_next E a_ w_10 (0 : Int32) r_5 c_b c_c)) (va_runV (As := [.int (21 : Int32)]) (rest := [.ref a_])  ⟨hx, hb, hml, hown, hts⟩ (f_X1_next l E H.size (a_ := a_) (p1 := (21 : Int32)) (c_x := w_6) (c_sort := (0 : Int32)) (c_a := r_5) (c_b := c_b) (c_c := c_c) hc_11) (cwV 1 hts g_f_X1_pickAct_f_X1_next_28 rfl rfl rfl hd_X1_next ⟨Nat.le_of_ble_eq_true rfl, Nat.le_of_ble_eq_true rfl⟩) ⟨pW.blind, hrc, (pW.pre ⟨hK, hN⟩ hPc hDc)⟩ rfl rfl hl.1 rfl (lv_room (Nat.le_of_ble_eq_true rfl)) (dq_182 48 bcX1_pickAct_1 (j := 18) (i := 28) rfl rfl rfl) ⟨Nat.le_of_ble_eq_true rfl, Nat.le_of_ble_eq_true rfl⟩) hS hFc hP hD [0] [] rfl rfl (by decide) (by decide) (fun H locs hP hD hS => ?_)
      have h9 := fixPD (ws' := [k_X1 a_ w_10 (0 : Int32) r_5 c_b c_c]) hP hD rfl
      clear hP hD
      obtain ⟨hP, hD⟩ := h9
      refine lv_bipush (v := 10) hx hb (dq_16 48 bcX1_pickAct_1 (j := 21) (i := 10) rfl rfl rfl) (by decide) ?_
      refine lv_isub hx hb (dq_100 48 bcX1_pickAct_1 (j := 23) rfl rfl) ?_
      refine pt_X1_3 (v := .int (r_9 - (10 : Int32))) hx hb hts i_f_X1_pickAct_X1 hown hK hP hD hS 0 rfl (hts (.fieldLink RX1 22 "HushWatch$Draws" "b" "I") (List.mem_of_getElem? (i := 3) rfl)) rfl rfl (Nat.le_of_ble_eq_true rfl) (dq_181 48 bcX1_pickAct_1 (j := 24) (i := 22) rfl rfl rfl) (fun H locs hP hD hS => ?_)
      have h9 := fixPD (ws' := [k_X1 a_ w_10 (0 : Int32) r_5 (r_9 - (10 : Int32)) c_c]) hP hD rfl
      clear hP hD
      obtain ⟨hP, hD⟩ := h9
      refine lv_aload_n hx hb (dq_42 48 bcX1_pickAct_1 (j := 27) rfl rfl) rfl (lv_at hl 1 rfl) ?_
      refine lv_aload_n hx hb (dq_42 48 bcX1_pickAct_1 (j := 28) rfl rfl) rfl (lv_at hl 1 rfl) ?_
      refine lv_bipush (v := 21) hx hb (dq_16 48 bcX1_pickAct_1 (j := 29) (i := 21) rfl rfl rfl) (by decide) ?_
      replace hF := bd2_s hF
      obtain ⟨r_12, w_13, hc_14, hF⟩ := hF
      obtain ⟨hPc, hDc, hFc⟩ := wcut (wc := (w_X1_next E a_ w_10 (0 : Int32) r_5 (r_9 - (10 : Int32)) c_c)) hP hD hS hA [0] (by decide) rfl
      have hrc := va_recv hK hPc (ci := 2) (q0 := 0) rfl rfl
      refine cE_i (wc := (w_X1_next E a_ w_10 (0 : Int32) r_5 (r_9 - (10 : Int32)) c_c)) (wr := []) (w1 := (w_X1_next E a_ w_13 (0 : Int32) r_5 (r_9 - (10 : Int32)) c_c)) (va_runV (As := [.int (21 : Int32)]) (rest := [.ref a_])  ⟨hx, hb, hml, hown, hts⟩ (f_X1_next l E H.size (a_ := a_) (p1 := (21 : Int32)) (c_x := w_10) (c_sort := (0 : Int32)) (c_a := r_5) (c_b := r_9 - (10 : Int32)) (c_c := c_c) hc_14) (cwV 1 hts g_f_X1_pickAct_f_X1_next_28 rfl rfl rfl hd_X1_next ⟨Nat.le_of_ble_eq_true rfl, Nat.le_of_ble_eq_true rfl⟩) ⟨pW.blind, hrc, (pW.pre ⟨hK, hN⟩ hPc hDc)⟩ rfl rfl hl.1 rfl (lv_room (Nat.le_of_ble_eq_true rfl)) (dq_182 48 bcX1_pickAct_1 (j := 31) (i := 28) rfl rfl rfl) ⟨Nat.le_of_ble_eq_true rfl, Nat.le_of_ble_eq_true rfl⟩) hS hFc hP hD [0] [] rfl rfl (by decide) (by decide) (fun H locs hP hD hS => ?_)
      have h9 := fixPD (ws' := [k_X1 a_ w_13 (0 : Int32) r_5 (r_9 - (10 : Int32)) c_c]) hP hD rfl
      clear hP hD
      obtain ⟨hP, hD⟩ := h9
      refine lv_bipush (v := 10) hx hb (dq_16 48 bcX1_pickAct_1 (j := 34) (i := 10) rfl rfl rfl) (by decide) ?_
      refine lv_isub hx hb (dq_100 48 bcX1_pickAct_1 (j := 36) rfl rfl) ?_
      refine pt_X1_4 (v := .int (r_12 - (10 : Int32))) hx hb hts i_f_X1_pickAct_X1 hown hK hP hD hS 0 rfl (hts (.fieldLink RX1 25 "HushWatch$Draws" "c" "I") (List.mem_of_getElem? (i := 4) rfl)) rfl rfl (Nat.le_of_ble_eq_true rfl) (dq_181 48 bcX1_pickAct_1 (j := 37) (i := 25) rfl rfl rfl) (fun H locs hP hD hS => ?_)
      have h9 := fixPD (ws' := [k_X1 a_ w_13 (0 : Int32) r_5 (r_9 - (10 : Int32)) (r_12 - (10 : Int32))]) hP hD rfl
      clear hP hD
      obtain ⟨hP, hD⟩ := h9
      rw [hQ]
      have h9 := fin9 (P := fun u9 : Int64 × Int32 × Int32 × Int32 × Int32 => va_P E.1 vwCl (w_X1_pickAct E a_ u9.1 u9.2.1 u9.2.2.1 u9.2.2.2.1 u9.2.2.2.2) H ∧ va_D A (w_X1_pickAct E a_ u9.1 u9.2.1 u9.2.2.1 u9.2.2.2.1 u9.2.2.2.2)) hF ⟨hP, hD⟩
      obtain ⟨hP9, hD9⟩ := h9
      exact W.vret hx hb hr (fun tt ht hW => ⟨⟨(), rfl, trivial, ht ▸ hP9, hD9⟩, hS.F ht⟩) hS.2.2 (dq_177 48 bcX1_pickAct_1 (j := 40) rfl rfl)
    ·
      replace hF := ip c_8 hF
      refine lv_aload_n hx hb (dq_42 0 bcX1_pickAct_0 (j := 39) rfl rfl) rfl (lv_at hl 1 rfl) ?_
      refine lv_iconst (v := 4) hx hb (dq_7 0 bcX1_pickAct_0 (j := 40) rfl rfl) (by decide) ?_
      refine pt_X1_1 (v := .int (4 : Int32)) hx hb hts i_f_X1_pickAct_X1 hown hK hP hD hS 0 rfl (hts (.fieldLink RX1 15 "HushWatch$Draws" "sort" "I") (List.mem_of_getElem? (i := 2) rfl)) rfl rfl (Nat.le_of_ble_eq_true rfl) (dq_181 0 bcX1_pickAct_0 (j := 41) (i := 15) rfl rfl rfl) (fun H locs hP hD hS => ?_)
      have h9 := fixPD (ws' := [k_X1 a_ w_6 (4 : Int32) r_5 c_b c_c]) hP hD rfl
      clear hP hD
      obtain ⟨hP, hD⟩ := h9
      refine lv_aload_n hx hb (dq_42 0 bcX1_pickAct_0 (j := 44) rfl rfl) rfl (lv_at hl 1 rfl) ?_
      refine lv_aload_n hx hb (dq_42 0 bcX1_pickAct_0 (j := 45) rfl rfl) rfl (lv_at hl 1 rfl) ?_
      refine lv_bipush (v := 9) hx hb (dq_16 0 bcX1_pickAct_0 (j := 46) (i := 9) rfl rfl rfl) (by decide) ?_
      replace hF := bd2_s hF
      obtain ⟨r_15, w_16, hc_17, hF⟩ := hF
      obtain ⟨hPc, hDc, hFc⟩ := wcut (wc := (w_X1_next E a_ w_6 (4 : Int32) r_5 c_b c_c)) hP hD hS hA [0] (by decide) rfl
      have hrc := va_recv hK hPc (ci := 2) (q0 := 0) rfl rfl
      refine cE_i (wc := (w_X1_next E a_ w_6 (4 : Int32) r_5 c_b c_c)) (wr := []) (w1 := (w_X1_next E a_ w_16 (4 : Int32) r_5 c_b c_c)) (va_runV (As := [.int (9 : Int32)]) (rest := [.ref a_])  ⟨hx, hb, hml, hown, hts⟩ (f_X1_next l E H.size (a_ := a_) (p1 := (9 : Int32)) (c_x := w_6) (c_sort := (4 : Int32)) (c_a := r_5) (c_b := c_b) (c_c := c_c) hc_17) (cwV 1 hts g_f_X1_pickAct_f_X1_next_28 rfl rfl rfl hd_X1_next ⟨Nat.le_of_ble_eq_true rfl, Nat.le_of_ble_eq_true rfl⟩) ⟨pW.blind, hrc, (pW.pre ⟨hK, hN⟩ hPc hDc)⟩ rfl rfl hl.1 rfl (lv_room (Nat.le_of_ble_eq_true rfl)) (dq_182 48 bcX1_pickAct_1 (j := 0) (i := 28) rfl rfl rfl) ⟨Nat.le_of_ble_eq_true rfl, Nat.le_of_ble_eq_true rfl⟩) hS hFc hP hD [0] [] rfl rfl (by decide) (by decide) (fun H locs hP hD hS => ?_)
      have h9 := fixPD (ws' := [k_X1 a_ w_16 (4 : Int32) r_5 c_b c_c]) hP hD rfl
      clear hP hD
      obtain ⟨hP, hD⟩ := h9
      refine lv_iconst (v := 1) hx hb (dq_4 48 bcX1_pickAct_1 (j := 3) rfl rfl) (by decide) ?_
      refine lv_iadd hx hb (dq_96 48 bcX1_pickAct_1 (j := 4) rfl rfl) ?_
      refine pt_X1_3 (v := .int (r_15 + (1 : Int32))) hx hb hts i_f_X1_pickAct_X1 hown hK hP hD hS 0 rfl (hts (.fieldLink RX1 22 "HushWatch$Draws" "b" "I") (List.mem_of_getElem? (i := 3) rfl)) rfl rfl (Nat.le_of_ble_eq_true rfl) (dq_181 48 bcX1_pickAct_1 (j := 5) (i := 22) rfl rfl rfl) (fun H locs hP hD hS => ?_)
      have h9 := fixPD (ws' := [k_X1 a_ w_16 (4 : Int32) r_5 (r_15 + (1 : Int32)) c_c]) hP hD rfl
      clear hP hD
      obtain ⟨hP, hD⟩ := h9
      rw [hQ]
      have h9 := fin9 (P := fun u9 : Int64 × Int32 × Int32 × Int32 × Int32 => va_P E.1 vwCl (w_X1_pickAct E a_ u9.1 u9.2.1 u9.2.2.1 u9.2.2.2.1 u9.2.2.2.2) H ∧ va_D A (w_X1_pickAct E a_ u9.1 u9.2.1 u9.2.2.1 u9.2.2.2.1 u9.2.2.2.2)) hF ⟨hP, hD⟩
      obtain ⟨hP9, hD9⟩ := h9
      exact W.vret hx hb hr (fun tt ht hW => ⟨⟨(), rfl, trivial, ht ▸ hP9, hD9⟩, hS.F ht⟩) hS.2.2 (dq_177 48 bcX1_pickAct_1 (j := 8) rfl rfl)
  ·
    replace hF := ip c_4 hF
    refine lv_aload_n hx hb (dq_42 0 bcX1_pickAct_0 (j := 13) rfl rfl) rfl (lv_at hl 1 rfl) ?_
    refine lv_iconst (v := 1) hx hb (dq_4 0 bcX1_pickAct_0 (j := 14) rfl rfl) (by decide) ?_
    refine pt_X1_1 (v := .int (1 : Int32)) hx hb hts i_f_X1_pickAct_X1 hown hK hP hD hS 0 rfl (hts (.fieldLink RX1 15 "HushWatch$Draws" "sort" "I") (List.mem_of_getElem? (i := 2) rfl)) rfl rfl (Nat.le_of_ble_eq_true rfl) (dq_181 0 bcX1_pickAct_0 (j := 15) (i := 15) rfl rfl rfl) (fun H locs hP hD hS => ?_)
    have h9 := fixPD (ws' := [k_X1 a_ w_2 (1 : Int32) c_a c_b c_c]) hP hD rfl
    clear hP hD
    obtain ⟨hP, hD⟩ := h9
    refine lv_aload_n hx hb (dq_42 0 bcX1_pickAct_0 (j := 18) rfl rfl) rfl (lv_at hl 1 rfl) ?_
    refine lv_iconst (v := -1) hx hb (dq_2 0 bcX1_pickAct_0 (j := 19) rfl rfl) (by decide) ?_
    refine pt_X1_2 (v := .int (-1 : Int32)) hx hb hts i_f_X1_pickAct_X1 hown hK hP hD hS 0 rfl (hts (.fieldLink RX1 19 "HushWatch$Draws" "a" "I") (List.mem_of_getElem? (i := 1) rfl)) rfl rfl (Nat.le_of_ble_eq_true rfl) (dq_181 0 bcX1_pickAct_0 (j := 20) (i := 19) rfl rfl rfl) (fun H locs hP hD hS => ?_)
    have h9 := fixPD (ws' := [k_X1 a_ w_2 (1 : Int32) (-1 : Int32) c_b c_c]) hP hD rfl
    clear hP hD
    obtain ⟨hP, hD⟩ := h9
    rw [hQ]
    have h9 := fin9 (P := fun u9 : Int64 × Int32 × Int32 × Int32 × Int32 => va_P E.1 vwCl (w_X1_pickAct E a_ u9.1 u9.2.1 u9.2.2.1 u9.2.2.2.1 u9.2.2.2.2) H ∧ va_D A (w_X1_pickAct E a_ u9.1 u9.2.1 u9.2.2.1 u9.2.2.2.1 u9.2.2.2.2)) hF ⟨hP, hD⟩
    obtain ⟨hP9, hD9⟩ := h9
    exact W.vret hx hb hr (fun tt ht hW => ⟨⟨(), rfl, trivial, ht ▸ hP9, hD9⟩, hS.F ht⟩) hS.2.2 (dq_177 0 bcX1_pickAct_0 (j := 23) rfl rfl)

def J_X2_bringBack_28 (c_rows : Nat → Int32) (k0 : Int32) (c_held : Int32) (c_o1_row : Nat → Int32) : Option (Int32 × Int32 × Int32 × (Nat → Int32)) :=
  cpF (k0 * (81 : Int32)) (0 : Int32) (81 : Int32) 3240 81 (nmF (va_cpy c_rows c_o1_row (k0 * (81 : Int32)).toNatClampNeg (0 : Int32).toNatClampNeg (81 : Int32).toNatClampNeg) (fun f_4 => some ((1 : Int32), k0, c_held - (1 : Int32), f_4)))
def F_X2_bringBack (c_rows : Nat → Int32) (c_next : Int32) (c_held : Int32) (c_o1_row : Nat → Int32) : Option (Int32 × Int32 × Int32 × (Nat → Int32)) :=
  if c_held = (0 : Int32) then some ((0 : Int32), c_next, c_held, c_o1_row) else if c_next ≤ (0 : Int32) then J_X2_bringBack_28 c_rows (39 : Int32) c_held c_o1_row else J_X2_bringBack_28 c_rows (c_next - (1 : Int32)) c_held c_o1_row
theorem gw_wsX20 : wsX20.all goodWord = true := by decide +kernel
abbrev w_X2_bringBack (E : EE) (a_ a_rows a_o1 a_o1_row a_o1_partners a_o1_share a_o1_leftOver : Nat) (c_next : Int32) (c_held : Int32) (c_rows : Nat → Int32) (c_o1_askedCount : Int32) (c_o1_outcome : Int32) (c_o1_row : Nat → Int32) : va_W := [k_X2 a_ a_rows c_next c_held, k_I E a_rows 3240 c_rows, k_X5 a_o1 a_o1_row a_o1_partners c_o1_askedCount c_o1_outcome a_o1_share a_o1_leftOver, k_I E a_o1_row 81 c_o1_row]
def v_f_X2_bringBack : List Cond := List.cons (.code yX2_bringBack cX2_bringBack 2 (some .boolean)) (HAppend.hAppend (α := List Cond) (β := List Cond) (γ := List Cond) [.fieldLink RX2 21 "HushWatch$History" "held" "I", .fieldLink RX2 17 "HushWatch$History" "next" "I", .fieldLink RX2 11 "HushWatch$History" "rows" "[I", .methodLink RX2 27 arraycopyName, .native arraycopyName, .static arraycopyName, .initialized "java/lang/System"] (HAppend.hAppend (α := List Cond) (β := List Cond) (γ := List Cond) wsX20 (HAppend.hAppend (α := List Cond) (β := List Cond) (γ := List Cond) wsX50 [])))
theorem gw_f_X2_bringBack : v_f_X2_bringBack.all goodWord = true := gw_c2 (by decide +kernel) (gw_ap gw_wsX20 (gw_ap gw_wsX50 gw_nil))
theorem i_f_X2_bringBack_X2 : ∀ w ∈ wsX20, w ∈ v_f_X2_bringBack := fun _ h => List.mem_cons_of_mem _ (List.mem_append_right _ (List.mem_append_left _ h))
theorem i_f_X2_bringBack_X5 : ∀ w ∈ wsX50, w ∈ v_f_X2_bringBack := fun _ h => List.mem_cons_of_mem _ (List.mem_append_right _ (List.mem_append_right _ (List.mem_append_left _ h)))
theorem hd_X2_bringBack : yX2_bringBack.cls = RX2 ∧ yX2_bringBack.cls ≠ "java/lang/invoke/MethodHandle" ∧ yX2_bringBack.cls ≠ "java/lang/invoke/VarHandle" ∧ (parseMethodDescriptor yX2_bringBack.desc).map (fun d => d.parameters.length) = some 1 := by decide +kernel
set_option maxHeartbeats 4000000 in
set_option maxRecDepth 100000 in
theorem j_X2_bringBack_28 {p : Program} (l : Launch) {e : Env} {s : State} {m : MethodId} {below : List Frame} {meth : Method} {c : Code} {Q : State → Prop} (E : EE) {a_ a_rows a_o1 a_o1_row a_o1_partners a_o1_share a_o1_leftOver : Nat} {c_rows : Nat → Int32} {c_o1_askedCount : Int32} {c_o1_outcome : Int32} {k0 : Int32} {c_next : Int32} {c_held : Int32} {c_o1_row : Nat → Int32} (hx : p.tables.exec = Jvm.exec) (hb : c.code = cX2_bringBack) (hml : c.maxLocals = 2) (hown : s.vm.findClass RX2 = some m.cls) (hts : ∀ w ∈ v_f_X2_bringBack, w.before #[Value.ref a_, Value.ref a_o1] s = true) (hK : va_K E.1 vwCl (TY E) s) (hN : NX s) {A : Nat → Prop} (hA : ∀ q : Nat, s.heap.size ≤ q → A q) {rr : Int32} {n_next : Int32} {n_held : Int32} {n_o1_row : Nat → Int32} (hr : meth.sig.returnType = (some .boolean)) (hlocks : meth.locks = false) (hQ : Q = MQ below (va_Qi (fun (q : Int32) (_u : Unit) => q = rr ∧ (q = 0 ∨ q = 1)) (fun (_u : Unit) tt => va_P E.1 vwCl (w_X2_bringBack E a_ a_rows a_o1 a_o1_row a_o1_partners a_o1_share a_o1_leftOver n_next n_held c_rows c_o1_askedCount c_o1_outcome n_o1_row) tt.heap ∧ va_D A (w_X2_bringBack E a_ a_rows a_o1 a_o1_row a_o1_partners a_o1_share a_o1_leftOver n_next n_held c_rows c_o1_askedCount c_o1_outcome n_o1_row)) A) #[Value.ref a_, Value.ref a_o1] s 0 0 A) (hF : J_X2_bringBack_28 c_rows k0 c_held c_o1_row = some (rr, n_next, n_held, n_o1_row)) : ∀ (H : Heap) (locs : List Loc) (ls : Array Slot), va_P E.1 vwCl (w_X2_bringBack E a_ a_rows a_o1 a_o1_row a_o1_partners a_o1_share a_o1_leftOver c_next c_held c_rows c_o1_askedCount c_o1_outcome c_o1_row) H → va_D A (w_X2_bringBack E a_ a_rows a_o1 a_o1_row a_o1_partners a_o1_share a_o1_leftOver c_next c_held c_rows c_o1_askedCount c_o1_outcome c_o1_row) → va_S A s.heap H locs → lv_has ls 2 [(0, .ref a_), (1, .ref a_o1)] → W p l e ({ frames := 1, cells := 0, slots := 0, locals := 60 } : Room) s m #[Value.ref a_, Value.ref a_o1] below meth c H locs 0 0 Q (F0 m 28 ls [.int k0, .ref a_]) := by
  unfold J_X2_bringBack_28 at hF
  intro H locs ls hP hD hS hl
  have h9 := fixPD (ws' := [k_X2 a_ a_rows c_next c_held, k_I E a_rows 3240 c_rows, k_X5 a_o1 a_o1_row a_o1_partners c_o1_askedCount c_o1_outcome a_o1_share a_o1_leftOver, k_I E a_o1_row 81 c_o1_row]) hP hD rfl
  clear hP hD
  obtain ⟨hP, hD⟩ := h9
  refine pt_X2_1 (v := .int k0) hx hb hts i_f_X2_bringBack_X2 hown hK hP hD hS 0 rfl (hts (.fieldLink RX2 17 "HushWatch$History" "next" "I") (List.mem_of_getElem? (i := 2) rfl)) rfl rfl (Nat.le_of_ble_eq_true rfl) (dq_181 0 bcX2_bringBack_0 (j := 28) (i := 17) rfl rfl rfl) (fun H locs hP hD hS => ?_)
  have h9 := fixPD (ws' := [k_X2 a_ a_rows k0 c_held, k_I E a_rows 3240 c_rows, k_X5 a_o1 a_o1_row a_o1_partners c_o1_askedCount c_o1_outcome a_o1_share a_o1_leftOver, k_I E a_o1_row 81 c_o1_row]) hP hD rfl
  clear hP hD
  obtain ⟨hP, hD⟩ := h9
  refine lv_aload_n hx hb (dq_42 0 bcX2_bringBack_0 (j := 31) rfl rfl) rfl (lv_at hl 0 rfl) ?_
  refine lv_dup hx hb (dq_89 0 bcX2_bringBack_0 (j := 32) rfl rfl) rfl ?_
  refine gt_X2_2 (v := .int c_held) hx hb hts i_f_X2_bringBack_X2 hown hK hP 0 rfl (hts (.fieldLink RX2 21 "HushWatch$History" "held" "I") (List.mem_of_getElem? (i := 1) rfl)) rfl (dq_180 0 bcX2_bringBack_0 (j := 33) (i := 21) rfl rfl rfl) ?_
  refine lv_iconst (v := 1) hx hb (dq_4 0 bcX2_bringBack_0 (j := 36) rfl rfl) (by decide) ?_
  refine lv_isub hx hb (dq_100 0 bcX2_bringBack_0 (j := 37) rfl rfl) ?_
  refine pt_X2_2 (v := .int (c_held - (1 : Int32))) hx hb hts i_f_X2_bringBack_X2 hown hK hP hD hS 0 rfl (hts (.fieldLink RX2 21 "HushWatch$History" "held" "I") (List.mem_of_getElem? (i := 1) rfl)) rfl rfl (Nat.le_of_ble_eq_true rfl) (dq_181 0 bcX2_bringBack_0 (j := 38) (i := 21) rfl rfl rfl) (fun H locs hP hD hS => ?_)
  have h9 := fixPD (ws' := [k_X2 a_ a_rows k0 (c_held - (1 : Int32)), k_I E a_rows 3240 c_rows, k_X5 a_o1 a_o1_row a_o1_partners c_o1_askedCount c_o1_outcome a_o1_share a_o1_leftOver, k_I E a_o1_row 81 c_o1_row]) hP hD rfl
  clear hP hD
  obtain ⟨hP, hD⟩ := h9
  refine lv_aload_n hx hb (dq_42 0 bcX2_bringBack_0 (j := 41) rfl rfl) rfl (lv_at hl 0 rfl) ?_
  refine gt_X2_0 (v := .ref a_rows) hx hb hts i_f_X2_bringBack_X2 hown hK hP 0 rfl (hts (.fieldLink RX2 11 "HushWatch$History" "rows" "[I") (List.mem_of_getElem? (i := 3) rfl)) rfl (dq_180 0 bcX2_bringBack_0 (j := 42) (i := 11) rfl rfl rfl) ?_
  refine lv_aload_n hx hb (dq_42 0 bcX2_bringBack_0 (j := 45) rfl rfl) rfl (lv_at hl 0 rfl) ?_
  refine gt_X2_1 (v := .int k0) hx hb hts i_f_X2_bringBack_X2 hown hK hP 0 rfl (hts (.fieldLink RX2 17 "HushWatch$History" "next" "I") (List.mem_of_getElem? (i := 2) rfl)) rfl (dq_180 0 bcX2_bringBack_0 (j := 46) (i := 17) rfl rfl rfl) ?_
  refine lv_bipush (v := 81) hx hb (dq_16 48 bcX2_bringBack_1 (j := 1) (i := 81) rfl rfl rfl) (by decide) ?_
  refine lv_imul hx hb (dq_104 48 bcX2_bringBack_1 (j := 3) rfl rfl) ?_
  refine lv_aload_n hx hb (dq_43 48 bcX2_bringBack_1 (j := 4) rfl rfl) rfl (lv_at hl 1 rfl) ?_
  refine va_getN (D := E.1) (ci := 6) (v := .ref a_o1_row) (C := RX5) (T := TX5) (N := 6) hx hb hts i_f_X2_bringBack_X5 hown hK hP 2 rfl rfl 0 (by decide) (nx hN 11 rfl) (fun _ h9 => h9) rfl (dq_180 48 bcX2_bringBack_1 (j := 5) (i := 24) rfl rfl rfl) ?_
  refine lv_iconst (v := 0) hx hb (dq_3 48 bcX2_bringBack_1 (j := 8) rfl rfl) (by decide) ?_
  refine lv_bipush (v := 81) hx hb (dq_16 48 bcX2_bringBack_1 (j := 9) (i := 81) rfl rfl rfl) (by decide) ?_
  replace hF := cp_s hF
  obtain ⟨hy_3, hF⟩ := hF
  refine va_copyi hx hb (hml.trans hl.1.symm) hown (hts (.methodLink RX2 27 arraycopyName) (List.mem_of_getElem? (i := 4) rfl)) (hts (.native arraycopyName) (List.mem_of_getElem? (i := 5) rfl)) (hts (.static arraycopyName) (List.mem_of_getElem? (i := 6) rfl)) (hts (.initialized "java/lang/System") (List.mem_of_getElem? (i := 7) rfl)) hK hP hD hS 1 3 0 0 rfl rfl rfl rfl rfl hy_3.1 hy_3.2.1 hy_3.2.2.1 hy_3.2.2.2.1 hy_3.2.2.2.2 (fun _ _ => rfl) (Nat.le_of_ble_eq_true rfl) (Nat.le_of_ble_eq_true rfl) (dq_184 48 bcX2_bringBack_1 (j := 11) (i := 27) rfl rfl rfl) (fun H locs hP hD hS => ?_)
  have h9 := fixPD (ws' := [k_X2 a_ a_rows k0 (c_held - (1 : Int32)), k_I E a_rows 3240 c_rows, k_X5 a_o1 a_o1_row a_o1_partners c_o1_askedCount c_o1_outcome a_o1_share a_o1_leftOver, k_I E a_o1_row 81 (va_cpy c_rows c_o1_row (k0 * (81 : Int32)).toNatClampNeg (0 : Int32).toNatClampNeg (81 : Int32).toNatClampNeg)]) hP hD rfl
  clear hP hD
  obtain ⟨hP, hD⟩ := h9
  replace hF := nm_s hF
  obtain ⟨f_4, hf_4, hF⟩ := hF
  rw [← hf_4] at hP hD
  refine lv_iconst (v := 1) hx hb (dq_4 48 bcX2_bringBack_1 (j := 14) rfl rfl) (by decide) ?_
  rw [hQ]
  have h9 := fin9 (P := fun u9 : Int32 × Int32 × Int32 × (Nat → Int32) => (1 : Int32) = u9.1 ∧ va_P E.1 vwCl (w_X2_bringBack E a_ a_rows a_o1 a_o1_row a_o1_partners a_o1_share a_o1_leftOver u9.2.1 u9.2.2.1 c_rows c_o1_askedCount c_o1_outcome u9.2.2.2) H ∧ va_D A (w_X2_bringBack E a_ a_rows a_o1 a_o1_row a_o1_partners a_o1_share a_o1_leftOver u9.2.1 u9.2.2.1 c_rows c_o1_askedCount c_o1_outcome u9.2.2.2)) hF ⟨rfl, hP, hD⟩
  obtain ⟨e9_0, hP9, hD9⟩ := h9
  exact W.zret (v := (1 : Int32)) hx hb hr rfl (fun tt ht hW => ⟨⟨_, (), rfl, ⟨e9_0, Or.inr rfl⟩, ht ▸ hP9, hD9⟩, hS.F ht⟩) hS.2.2 (dq_172 48 bcX2_bringBack_1 (j := 15) rfl rfl)

set_option maxHeartbeats 4000000 in
set_option maxRecDepth 100000 in
theorem f_X2_bringBack (l : Launch) (E : EE) (sz : Nat) {a_ a_rows a_o1 a_o1_row a_o1_partners a_o1_share a_o1_leftOver : Nat} {c_next : Int32} {c_held : Int32} {c_rows : Nat → Int32} {c_o1_askedCount : Int32} {c_o1_outcome : Int32} {c_o1_row : Nat → Int32} {rr : Int32} {n_next : Int32} {n_held : Int32} {n_o1_row : Nat → Int32} (hF : F_X2_bringBack c_rows c_next c_held c_o1_row = some (rr, n_next, n_held, n_o1_row)) : Met l yX2_bringBack v_f_X2_bringBack (({ frames := 1, cells := 0, slots := 0, locals := 60 } : Room)) (va_Pc [.ref a_, .ref a_o1] (pW E sz (w_X2_bringBack E a_ a_rows a_o1 a_o1_row a_o1_partners a_o1_share a_o1_leftOver c_next c_held c_rows c_o1_askedCount c_o1_outcome c_o1_row))) (va_Qi (fun (q : Int32) (_u : Unit) => q = rr ∧ (q = 0 ∨ q = 1)) (fun (_u : Unit) tt => va_P E.1 vwCl (w_X2_bringBack E a_ a_rows a_o1 a_o1_row a_o1_partners a_o1_share a_o1_leftOver n_next n_held c_rows c_o1_askedCount c_o1_outcome n_o1_row) tt.heap ∧ va_D (va_A (w_X2_bringBack E a_ a_rows a_o1 a_o1_row a_o1_partners a_o1_share a_o1_leftOver c_next c_held c_rows c_o1_askedCount c_o1_outcome c_o1_row) sz) (w_X2_bringBack E a_ a_rows a_o1 a_o1_row a_o1_partners a_o1_share a_o1_leftOver n_next n_held c_rows c_o1_askedCount c_o1_outcome n_o1_row)) (va_A (w_X2_bringBack E a_ a_rows a_o1 a_o1_row a_o1_partners a_o1_share a_o1_leftOver c_next c_held c_rows c_o1_askedCount c_o1_outcome c_o1_row) sz)) 0 0 (va_A (w_X2_bringBack E a_ a_rows a_o1 a_o1_row a_o1_partners a_o1_share a_o1_leftOver c_next c_held c_rows c_o1_askedCount c_o1_outcome c_o1_row) sz) := by
  refine Met.ofW (cc := cX2_bringBack) (maxL := 2) (ret := (some .boolean)) (by decide) rfl ?_
  intro p e s m args below meth c s₁ B hml hv
  obtain ⟨rfl, hsz, ⟨hK, hN⟩, hP, hD0⟩ := hv
  have hx := B.exec
  have hb := B.bytes
  have hr := B.returns
  have hts := atoms_spec (ws := v_f_X2_bringBack) B.pre
  have hown : s.vm.findClass RX2 = some m.cls := own_of hd_X2_bringBack.1 (findClass_of_methodNamed B.named)
  have hlocks : meth.locks = false := B.notSynchronized
  subst hsz
  have hD := hD0.self (sz := s.heap.size)
  generalize hAe : va_A (w_X2_bringBack E a_ a_rows a_o1 a_o1_row a_o1_partners a_o1_share a_o1_leftOver c_next c_held c_rows c_o1_askedCount c_o1_outcome c_o1_row) s.heap.size = A at hD ⊢
  have hA : ∀ q : Nat, s.heap.size ≤ q → A q := fun q h => by rw [← hAe]; exact Or.inr h
  have hS : va_S A s.heap s.heap [] := va_S.rf
  have hl := lv_entry ([.ref a_, .ref a_o1]) (n := 2) (Nat.le_of_ble_eq_true rfl)
  rw [lg_entry_eq]
  generalize (lg_sl ([.ref a_, .ref a_o1]) ++ List.replicate (2 - (lg_sl ([.ref a_, .ref a_o1])).length) Slot.unset).toArray = ls at hl ⊢
  have hl : lv_has ls 2 [(0, .ref a_), (1, .ref a_o1)] := hl
  obtain ⟨Q, hQ⟩ : ∃ Q : State → Prop, Q = MQ below (va_Qi (fun (q : Int32) (_u : Unit) => q = rr ∧ (q = 0 ∨ q = 1)) (fun (_u : Unit) tt => va_P E.1 vwCl (w_X2_bringBack E a_ a_rows a_o1 a_o1_row a_o1_partners a_o1_share a_o1_leftOver n_next n_held c_rows c_o1_askedCount c_o1_outcome n_o1_row) tt.heap ∧ va_D A (w_X2_bringBack E a_ a_rows a_o1 a_o1_row a_o1_partners a_o1_share a_o1_leftOver n_next n_held c_rows c_o1_askedCount c_o1_outcome n_o1_row)) A) #[Value.ref a_, Value.ref a_o1] s 0 0 A := ⟨_, rfl⟩
  rw [← hQ]
  change W p l e ({ frames := 1, cells := 0, slots := 0, locals := 60 } : Room) s m #[Value.ref a_, Value.ref a_o1] below meth c s.heap [] 0 0 Q (F0 m 0 ls [])
  suffices hh9 : ∀ (H : Heap) (locs : List Loc), va_P E.1 vwCl (w_X2_bringBack E a_ a_rows a_o1 a_o1_row a_o1_partners a_o1_share a_o1_leftOver c_next c_held c_rows c_o1_askedCount c_o1_outcome c_o1_row) H → va_D A (w_X2_bringBack E a_ a_rows a_o1 a_o1_row a_o1_partners a_o1_share a_o1_leftOver c_next c_held c_rows c_o1_askedCount c_o1_outcome c_o1_row) → va_S A s.heap H locs → W p l e ({ frames := 1, cells := 0, slots := 0, locals := 60 } : Room) s m #[Value.ref a_, Value.ref a_o1] below meth c H locs 0 0 Q (F0 m 0 ls []) from hh9 s.heap [] hP hD hS
  clear hP hD hS
  intro H locs hP hD hS
  have h9 := fixPD (ws' := [k_X2 a_ a_rows c_next c_held, k_I E a_rows 3240 c_rows, k_X5 a_o1 a_o1_row a_o1_partners c_o1_askedCount c_o1_outcome a_o1_share a_o1_leftOver, k_I E a_o1_row 81 c_o1_row]) hP hD rfl
  clear hP hD
  obtain ⟨hP, hD⟩ := h9
  unfold F_X2_bringBack at hF
  refine lv_aload_n hx hb (dq_42 0 bcX2_bringBack_0 (j := 0) rfl rfl) rfl (lv_at hl 0 rfl) ?_
  refine gt_X2_2 (v := .int c_held) hx hb hts i_f_X2_bringBack_X2 hown hK hP 0 rfl (hts (.fieldLink RX2 21 "HushWatch$History" "held" "I") (List.mem_of_getElem? (i := 1) rfl)) rfl (dq_180 0 bcX2_bringBack_0 (j := 1) (i := 21) rfl rfl rfl) ?_
  refine lv_if_ne (tgt := 9) hx hb (dq_154 0 bcX2_bringBack_0 (j := 4) (i := 5) rfl rfl rfl) (by decide) (fun c_1 => ?_) (fun c_1 => ?_)
  ·
    replace hF := inn c_1 hF
    refine lv_aload_n hx hb (dq_42 0 bcX2_bringBack_0 (j := 9) rfl rfl) rfl (lv_at hl 0 rfl) ?_
    refine lv_aload_n hx hb (dq_42 0 bcX2_bringBack_0 (j := 10) rfl rfl) rfl (lv_at hl 0 rfl) ?_
    refine gt_X2_1 (v := .int c_next) hx hb hts i_f_X2_bringBack_X2 hown hK hP 0 rfl (hts (.fieldLink RX2 17 "HushWatch$History" "next" "I") (List.mem_of_getElem? (i := 2) rfl)) rfl (dq_180 0 bcX2_bringBack_0 (j := 11) (i := 17) rfl rfl rfl) ?_
    refine lv_if_le (tgt := 26) hx hb (dq_158 0 bcX2_bringBack_0 (j := 14) (i := 12) rfl rfl rfl) (by decide) (fun c_2 => ?_) (fun c_2 => ?_)
    ·
      replace hF := ip c_2 hF
      refine lv_bipush (v := 39) hx hb (dq_16 0 bcX2_bringBack_0 (j := 26) (i := 39) rfl rfl rfl) (by decide) ?_
      exact j_X2_bringBack_28 l E (c_rows := c_rows) (c_o1_askedCount := c_o1_askedCount) (c_o1_outcome := c_o1_outcome) (k0 := (39 : Int32)) (c_next := c_next) (c_held := c_held) (c_o1_row := c_o1_row) hx hb hml hown hts hK hN hA hr hlocks hQ hF H locs ls (hP.sub [0, 1, 2, 3] rfl) (hD.sub [0, 1, 2, 3] (by decide) rfl) hS (lv_sub hl [0, 1] rfl)
    ·
      replace hF := inn c_2 hF
      refine lv_aload_n hx hb (dq_42 0 bcX2_bringBack_0 (j := 17) rfl rfl) rfl (lv_at hl 0 rfl) ?_
      refine gt_X2_1 (v := .int c_next) hx hb hts i_f_X2_bringBack_X2 hown hK hP 0 rfl (hts (.fieldLink RX2 17 "HushWatch$History" "next" "I") (List.mem_of_getElem? (i := 2) rfl)) rfl (dq_180 0 bcX2_bringBack_0 (j := 18) (i := 17) rfl rfl rfl) ?_
      refine lv_iconst (v := 1) hx hb (dq_4 0 bcX2_bringBack_0 (j := 21) rfl rfl) (by decide) ?_
      refine lv_isub hx hb (dq_100 0 bcX2_bringBack_0 (j := 22) rfl rfl) ?_
      refine lv_goto (tgt := 28) hx hb (dq_167 0 bcX2_bringBack_0 (j := 23) (i := 5) rfl rfl rfl) (by decide) ?_
      exact j_X2_bringBack_28 l E (c_rows := c_rows) (c_o1_askedCount := c_o1_askedCount) (c_o1_outcome := c_o1_outcome) (k0 := c_next - (1 : Int32)) (c_next := c_next) (c_held := c_held) (c_o1_row := c_o1_row) hx hb hml hown hts hK hN hA hr hlocks hQ hF H locs ls (hP.sub [0, 1, 2, 3] rfl) (hD.sub [0, 1, 2, 3] (by decide) rfl) hS (lv_sub hl [0, 1] rfl)
  ·
    replace hF := ip c_1 hF
    refine lv_iconst (v := 0) hx hb (dq_3 0 bcX2_bringBack_0 (j := 7) rfl rfl) (by decide) ?_
    rw [hQ]
    have h9 := fin9 (P := fun u9 : Int32 × Int32 × Int32 × (Nat → Int32) => (0 : Int32) = u9.1 ∧ va_P E.1 vwCl (w_X2_bringBack E a_ a_rows a_o1 a_o1_row a_o1_partners a_o1_share a_o1_leftOver u9.2.1 u9.2.2.1 c_rows c_o1_askedCount c_o1_outcome u9.2.2.2) H ∧ va_D A (w_X2_bringBack E a_ a_rows a_o1 a_o1_row a_o1_partners a_o1_share a_o1_leftOver u9.2.1 u9.2.2.1 c_rows c_o1_askedCount c_o1_outcome u9.2.2.2)) hF ⟨rfl, hP, hD⟩
    obtain ⟨e9_0, hP9, hD9⟩ := h9
    exact W.zret (v := (0 : Int32)) hx hb hr rfl (fun tt ht hW => ⟨⟨_, (), rfl, ⟨e9_0, Or.inl rfl⟩, ht ▸ hP9, hD9⟩, hS.F ht⟩) hS.2.2 (dq_172 0 bcX2_bringBack_0 (j := 8) rfl rfl)

def F_X2_forget (c_held : Int32) : Option (Int32) :=
  some (0 : Int32)
abbrev w_X2_forget (E : EE) (a_ a_rows : Nat) (c_next : Int32) (c_held : Int32) : va_W := [k_X2 a_ a_rows c_next c_held]
def v_f_X2_forget : List Cond := List.cons (.code yX2_forget cX2_forget 1 none) (HAppend.hAppend (α := List Cond) (β := List Cond) (γ := List Cond) [.fieldLink RX2 21 "HushWatch$History" "held" "I"] (HAppend.hAppend (α := List Cond) (β := List Cond) (γ := List Cond) wsX20 []))
theorem gw_f_X2_forget : v_f_X2_forget.all goodWord = true := gw_c2 (by decide +kernel) (gw_ap gw_wsX20 gw_nil)
theorem i_f_X2_forget_X2 : ∀ w ∈ wsX20, w ∈ v_f_X2_forget := fun _ h => List.mem_cons_of_mem _ (List.mem_append_right _ (List.mem_append_left _ h))
theorem hd_X2_forget : yX2_forget.cls = RX2 ∧ yX2_forget.cls ≠ "java/lang/invoke/MethodHandle" ∧ yX2_forget.cls ≠ "java/lang/invoke/VarHandle" ∧ (parseMethodDescriptor yX2_forget.desc).map (fun d => d.parameters.length) = some 0 := by decide +kernel
set_option maxHeartbeats 4000000 in
set_option maxRecDepth 100000 in
theorem f_X2_forget (l : Launch) (E : EE) (sz : Nat) {a_ a_rows : Nat} {c_next : Int32} {c_held : Int32} {n_held : Int32} (hF : F_X2_forget c_held = some n_held) : Met l yX2_forget v_f_X2_forget (({ frames := 0, cells := 0, slots := 0, locals := 0 } : Room)) (va_Pc [.ref a_] (pW E sz (w_X2_forget E a_ a_rows c_next c_held))) (va_Qv (fun (_u : Unit) => True) (fun (_u : Unit) tt => va_P E.1 vwCl (w_X2_forget E a_ a_rows c_next n_held) tt.heap ∧ va_D (va_A (w_X2_forget E a_ a_rows c_next c_held) sz) (w_X2_forget E a_ a_rows c_next n_held)) (va_A (w_X2_forget E a_ a_rows c_next c_held) sz)) 0 0 (va_A (w_X2_forget E a_ a_rows c_next c_held) sz) := by
  refine Met.ofW (cc := cX2_forget) (maxL := 1) (ret := none) (by decide) rfl ?_
  intro p e s m args below meth c s₁ B hml hv
  obtain ⟨rfl, hsz, ⟨hK, hN⟩, hP, hD0⟩ := hv
  have hx := B.exec
  have hb := B.bytes
  have hr := B.returns
  have hts := atoms_spec (ws := v_f_X2_forget) B.pre
  have hown : s.vm.findClass RX2 = some m.cls := own_of hd_X2_forget.1 (findClass_of_methodNamed B.named)
  have hlocks : meth.locks = false := B.notSynchronized
  subst hsz
  have hD := hD0.self (sz := s.heap.size)
  generalize hAe : va_A (w_X2_forget E a_ a_rows c_next c_held) s.heap.size = A at hD ⊢
  have hA : ∀ q : Nat, s.heap.size ≤ q → A q := fun q h => by rw [← hAe]; exact Or.inr h
  have hS : va_S A s.heap s.heap [] := va_S.rf
  have hl := lv_entry ([.ref a_]) (n := 1) (Nat.le_of_ble_eq_true rfl)
  rw [lg_entry_eq]
  generalize (lg_sl ([.ref a_]) ++ List.replicate (1 - (lg_sl ([.ref a_])).length) Slot.unset).toArray = ls at hl ⊢
  have hl : lv_has ls 1 [(0, .ref a_)] := hl
  obtain ⟨Q, hQ⟩ : ∃ Q : State → Prop, Q = MQ below (va_Qv (fun (_u : Unit) => True) (fun (_u : Unit) tt => va_P E.1 vwCl (w_X2_forget E a_ a_rows c_next n_held) tt.heap ∧ va_D A (w_X2_forget E a_ a_rows c_next n_held)) A) #[Value.ref a_] s 0 0 A := ⟨_, rfl⟩
  rw [← hQ]
  change W p l e ({ frames := 0, cells := 0, slots := 0, locals := 0 } : Room) s m #[Value.ref a_] below meth c s.heap [] 0 0 Q (F0 m 0 ls [])
  suffices hh9 : ∀ (H : Heap) (locs : List Loc), va_P E.1 vwCl (w_X2_forget E a_ a_rows c_next c_held) H → va_D A (w_X2_forget E a_ a_rows c_next c_held) → va_S A s.heap H locs → W p l e ({ frames := 0, cells := 0, slots := 0, locals := 0 } : Room) s m #[Value.ref a_] below meth c H locs 0 0 Q (F0 m 0 ls []) from hh9 s.heap [] hP hD hS
  clear hP hD hS
  intro H locs hP hD hS
  have h9 := fixPD (ws' := [k_X2 a_ a_rows c_next c_held]) hP hD rfl
  clear hP hD
  obtain ⟨hP, hD⟩ := h9
  unfold F_X2_forget at hF
  refine lv_aload_n hx hb (dq_42 0 bcX2_forget_0 (j := 0) rfl rfl) rfl (lv_at hl 0 rfl) ?_
  refine lv_iconst (v := 0) hx hb (dq_3 0 bcX2_forget_0 (j := 1) rfl rfl) (by decide) ?_
  refine pt_X2_2 (v := .int (0 : Int32)) hx hb hts i_f_X2_forget_X2 hown hK hP hD hS 0 rfl (hts (.fieldLink RX2 21 "HushWatch$History" "held" "I") (List.mem_of_getElem? (i := 1) rfl)) rfl rfl (Nat.le_of_ble_eq_true rfl) (dq_181 0 bcX2_forget_0 (j := 2) (i := 21) rfl rfl rfl) (fun H locs hP hD hS => ?_)
  have h9 := fixPD (ws' := [k_X2 a_ a_rows c_next (0 : Int32)]) hP hD rfl
  clear hP hD
  obtain ⟨hP, hD⟩ := h9
  rw [hQ]
  have h9 := fin9 (P := fun u9 : Int32 => va_P E.1 vwCl (w_X2_forget E a_ a_rows c_next u9) H ∧ va_D A (w_X2_forget E a_ a_rows c_next u9)) hF ⟨hP, hD⟩
  obtain ⟨hP9, hD9⟩ := h9
  exact W.vret hx hb hr (fun tt ht hW => ⟨⟨(), rfl, trivial, ht ▸ hP9, hD9⟩, hS.F ht⟩) hS.2.2 (dq_177 0 bcX2_forget_0 (j := 5) rfl rfl)

def F_X2_keep (c_rows : Nat → Int32) (c_next : Int32) (c_held : Int32) (c_o1_row : Nat → Int32) : Option ((Nat → Int32) × Int32 × Int32) :=
  cpF (0 : Int32) (c_next * (81 : Int32)) (81 : Int32) 81 3240 (nmF (va_cpy c_o1_row c_rows (0 : Int32).toNatClampNeg (c_next * (81 : Int32)).toNatClampNeg (81 : Int32).toNatClampNeg) (fun f_2 => if (40 : Int32) ≤ c_next + (1 : Int32) then some (f_2, (0 : Int32), (minF (c_held + (1 : Int32)) (40 : Int32))) else some (f_2, c_next + (1 : Int32), (minF (c_held + (1 : Int32)) (40 : Int32)))))
abbrev w_X2_keep (E : EE) (a_ a_rows a_o1 a_o1_row a_o1_partners a_o1_share a_o1_leftOver : Nat) (c_next : Int32) (c_held : Int32) (c_rows : Nat → Int32) (c_o1_askedCount : Int32) (c_o1_outcome : Int32) (c_o1_row : Nat → Int32) : va_W := [k_X2 a_ a_rows c_next c_held, k_I E a_rows 3240 c_rows, k_X5 a_o1 a_o1_row a_o1_partners c_o1_askedCount c_o1_outcome a_o1_share a_o1_leftOver, k_I E a_o1_row 81 c_o1_row]
def v_f_X2_keep : List Cond := List.cons (.code yX2_keep cX2_keep 2 none) (HAppend.hAppend (α := List Cond) (β := List Cond) (γ := List Cond) [.fieldLink RX2 11 "HushWatch$History" "rows" "[I", .fieldLink RX2 17 "HushWatch$History" "next" "I", .methodLink RX2 27 arraycopyName, .native arraycopyName, .static arraycopyName, .initialized "java/lang/System", .fieldLink RX2 21 "HushWatch$History" "held" "I", .methodLink RX2 33 Lib.Math.min.name, .static Lib.Math.min.name, .initialized "java/lang/Math", .code Lib.Math.min.name Lib.Math.min.code 2 (some .int)] (HAppend.hAppend (α := List Cond) (β := List Cond) (γ := List Cond) wsX50 (HAppend.hAppend (α := List Cond) (β := List Cond) (γ := List Cond) wsX20 [])))
theorem gw_f_X2_keep : v_f_X2_keep.all goodWord = true := gw_c2 (by decide +kernel) (gw_ap gw_wsX50 (gw_ap gw_wsX20 gw_nil))
theorem i_f_X2_keep_X5 : ∀ w ∈ wsX50, w ∈ v_f_X2_keep := fun _ h => List.mem_cons_of_mem _ (List.mem_append_right _ (List.mem_append_left _ h))
theorem i_f_X2_keep_X2 : ∀ w ∈ wsX20, w ∈ v_f_X2_keep := fun _ h => List.mem_cons_of_mem _ (List.mem_append_right _ (List.mem_append_right _ (List.mem_append_left _ h)))
theorem hd_X2_keep : yX2_keep.cls = RX2 ∧ yX2_keep.cls ≠ "java/lang/invoke/MethodHandle" ∧ yX2_keep.cls ≠ "java/lang/invoke/VarHandle" ∧ (parseMethodDescriptor yX2_keep.desc).map (fun d => d.parameters.length) = some 1 := by decide +kernel
set_option maxHeartbeats 4000000 in
set_option maxRecDepth 100000 in
theorem f_X2_keep (l : Launch) (E : EE) (sz : Nat) {a_ a_rows a_o1 a_o1_row a_o1_partners a_o1_share a_o1_leftOver : Nat} {c_next : Int32} {c_held : Int32} {c_rows : Nat → Int32} {c_o1_askedCount : Int32} {c_o1_outcome : Int32} {c_o1_row : Nat → Int32} {n_rows : Nat → Int32} {n_next : Int32} {n_held : Int32} (hF : F_X2_keep c_rows c_next c_held c_o1_row = some (n_rows, n_next, n_held)) : Met l yX2_keep v_f_X2_keep (({ frames := 1, cells := 0, slots := 0, locals := 60 } : Room)) (va_Pc [.ref a_, .ref a_o1] (pW E sz (w_X2_keep E a_ a_rows a_o1 a_o1_row a_o1_partners a_o1_share a_o1_leftOver c_next c_held c_rows c_o1_askedCount c_o1_outcome c_o1_row))) (va_Qv (fun (_u : Unit) => True) (fun (_u : Unit) tt => va_P E.1 vwCl (w_X2_keep E a_ a_rows a_o1 a_o1_row a_o1_partners a_o1_share a_o1_leftOver n_next n_held n_rows c_o1_askedCount c_o1_outcome c_o1_row) tt.heap ∧ va_D (va_A (w_X2_keep E a_ a_rows a_o1 a_o1_row a_o1_partners a_o1_share a_o1_leftOver c_next c_held c_rows c_o1_askedCount c_o1_outcome c_o1_row) sz) (w_X2_keep E a_ a_rows a_o1 a_o1_row a_o1_partners a_o1_share a_o1_leftOver n_next n_held n_rows c_o1_askedCount c_o1_outcome c_o1_row)) (va_A (w_X2_keep E a_ a_rows a_o1 a_o1_row a_o1_partners a_o1_share a_o1_leftOver c_next c_held c_rows c_o1_askedCount c_o1_outcome c_o1_row) sz)) 0 0 (va_A (w_X2_keep E a_ a_rows a_o1 a_o1_row a_o1_partners a_o1_share a_o1_leftOver c_next c_held c_rows c_o1_askedCount c_o1_outcome c_o1_row) sz) := by
  refine Met.ofW (cc := cX2_keep) (maxL := 2) (ret := none) (by decide) rfl ?_
  intro p e s m args below meth c s₁ B hml hv
  obtain ⟨rfl, hsz, ⟨hK, hN⟩, hP, hD0⟩ := hv
  have hx := B.exec
  have hb := B.bytes
  have hr := B.returns
  have hts := atoms_spec (ws := v_f_X2_keep) B.pre
  have hown : s.vm.findClass RX2 = some m.cls := own_of hd_X2_keep.1 (findClass_of_methodNamed B.named)
  have hlocks : meth.locks = false := B.notSynchronized
  subst hsz
  have hD := hD0.self (sz := s.heap.size)
  generalize hAe : va_A (w_X2_keep E a_ a_rows a_o1 a_o1_row a_o1_partners a_o1_share a_o1_leftOver c_next c_held c_rows c_o1_askedCount c_o1_outcome c_o1_row) s.heap.size = A at hD ⊢
  have hA : ∀ q : Nat, s.heap.size ≤ q → A q := fun q h => by rw [← hAe]; exact Or.inr h
  have hS : va_S A s.heap s.heap [] := va_S.rf
  have hl := lv_entry ([.ref a_, .ref a_o1]) (n := 2) (Nat.le_of_ble_eq_true rfl)
  rw [lg_entry_eq]
  generalize (lg_sl ([.ref a_, .ref a_o1]) ++ List.replicate (2 - (lg_sl ([.ref a_, .ref a_o1])).length) Slot.unset).toArray = ls at hl ⊢
  have hl : lv_has ls 2 [(0, .ref a_), (1, .ref a_o1)] := hl
  obtain ⟨Q, hQ⟩ : ∃ Q : State → Prop, Q = MQ below (va_Qv (fun (_u : Unit) => True) (fun (_u : Unit) tt => va_P E.1 vwCl (w_X2_keep E a_ a_rows a_o1 a_o1_row a_o1_partners a_o1_share a_o1_leftOver n_next n_held n_rows c_o1_askedCount c_o1_outcome c_o1_row) tt.heap ∧ va_D A (w_X2_keep E a_ a_rows a_o1 a_o1_row a_o1_partners a_o1_share a_o1_leftOver n_next n_held n_rows c_o1_askedCount c_o1_outcome c_o1_row)) A) #[Value.ref a_, Value.ref a_o1] s 0 0 A := ⟨_, rfl⟩
  rw [← hQ]
  change W p l e ({ frames := 1, cells := 0, slots := 0, locals := 60 } : Room) s m #[Value.ref a_, Value.ref a_o1] below meth c s.heap [] 0 0 Q (F0 m 0 ls [])
  suffices hh9 : ∀ (H : Heap) (locs : List Loc), va_P E.1 vwCl (w_X2_keep E a_ a_rows a_o1 a_o1_row a_o1_partners a_o1_share a_o1_leftOver c_next c_held c_rows c_o1_askedCount c_o1_outcome c_o1_row) H → va_D A (w_X2_keep E a_ a_rows a_o1 a_o1_row a_o1_partners a_o1_share a_o1_leftOver c_next c_held c_rows c_o1_askedCount c_o1_outcome c_o1_row) → va_S A s.heap H locs → W p l e ({ frames := 1, cells := 0, slots := 0, locals := 60 } : Room) s m #[Value.ref a_, Value.ref a_o1] below meth c H locs 0 0 Q (F0 m 0 ls []) from hh9 s.heap [] hP hD hS
  clear hP hD hS
  intro H locs hP hD hS
  have h9 := fixPD (ws' := [k_X2 a_ a_rows c_next c_held, k_I E a_rows 3240 c_rows, k_X5 a_o1 a_o1_row a_o1_partners c_o1_askedCount c_o1_outcome a_o1_share a_o1_leftOver, k_I E a_o1_row 81 c_o1_row]) hP hD rfl
  clear hP hD
  obtain ⟨hP, hD⟩ := h9
  unfold F_X2_keep at hF
  refine lv_aload_n hx hb (dq_43 0 bcX2_keep_0 (j := 0) rfl rfl) rfl (lv_at hl 1 rfl) ?_
  refine va_getN (D := E.1) (ci := 6) (v := .ref a_o1_row) (C := RX5) (T := TX5) (N := 6) hx hb hts i_f_X2_keep_X5 hown hK hP 2 rfl rfl 0 (by decide) (nx hN 11 rfl) (fun _ h9 => h9) rfl (dq_180 0 bcX2_keep_0 (j := 1) (i := 24) rfl rfl rfl) ?_
  refine lv_iconst (v := 0) hx hb (dq_3 0 bcX2_keep_0 (j := 4) rfl rfl) (by decide) ?_
  refine lv_aload_n hx hb (dq_42 0 bcX2_keep_0 (j := 5) rfl rfl) rfl (lv_at hl 0 rfl) ?_
  refine gt_X2_0 (v := .ref a_rows) hx hb hts i_f_X2_keep_X2 hown hK hP 0 rfl (hts (.fieldLink RX2 11 "HushWatch$History" "rows" "[I") (List.mem_of_getElem? (i := 1) rfl)) rfl (dq_180 0 bcX2_keep_0 (j := 6) (i := 11) rfl rfl rfl) ?_
  refine lv_aload_n hx hb (dq_42 0 bcX2_keep_0 (j := 9) rfl rfl) rfl (lv_at hl 0 rfl) ?_
  refine gt_X2_1 (v := .int c_next) hx hb hts i_f_X2_keep_X2 hown hK hP 0 rfl (hts (.fieldLink RX2 17 "HushWatch$History" "next" "I") (List.mem_of_getElem? (i := 2) rfl)) rfl (dq_180 0 bcX2_keep_0 (j := 10) (i := 17) rfl rfl rfl) ?_
  refine lv_bipush (v := 81) hx hb (dq_16 0 bcX2_keep_0 (j := 13) (i := 81) rfl rfl rfl) (by decide) ?_
  refine lv_imul hx hb (dq_104 0 bcX2_keep_0 (j := 15) rfl rfl) ?_
  refine lv_bipush (v := 81) hx hb (dq_16 0 bcX2_keep_0 (j := 16) (i := 81) rfl rfl rfl) (by decide) ?_
  replace hF := cp_s hF
  obtain ⟨hy_1, hF⟩ := hF
  refine va_copyi hx hb (hml.trans hl.1.symm) hown (hts (.methodLink RX2 27 arraycopyName) (List.mem_of_getElem? (i := 3) rfl)) (hts (.native arraycopyName) (List.mem_of_getElem? (i := 4) rfl)) (hts (.static arraycopyName) (List.mem_of_getElem? (i := 5) rfl)) (hts (.initialized "java/lang/System") (List.mem_of_getElem? (i := 6) rfl)) hK hP hD hS 3 1 0 0 rfl rfl rfl rfl rfl hy_1.1 hy_1.2.1 hy_1.2.2.1 hy_1.2.2.2.1 hy_1.2.2.2.2 (fun _ _ => rfl) (Nat.le_of_ble_eq_true rfl) (Nat.le_of_ble_eq_true rfl) (dq_184 0 bcX2_keep_0 (j := 18) (i := 27) rfl rfl rfl) (fun H locs hP hD hS => ?_)
  have h9 := fixPD (ws' := [k_X2 a_ a_rows c_next c_held, k_I E a_rows 3240 (va_cpy c_o1_row c_rows (0 : Int32).toNatClampNeg (c_next * (81 : Int32)).toNatClampNeg (81 : Int32).toNatClampNeg), k_X5 a_o1 a_o1_row a_o1_partners c_o1_askedCount c_o1_outcome a_o1_share a_o1_leftOver, k_I E a_o1_row 81 c_o1_row]) hP hD rfl
  clear hP hD
  obtain ⟨hP, hD⟩ := h9
  replace hF := nm_s hF
  obtain ⟨f_2, hf_2, hF⟩ := hF
  rw [← hf_2] at hP hD
  refine lv_aload_n hx hb (dq_42 0 bcX2_keep_0 (j := 21) rfl rfl) rfl (lv_at hl 0 rfl) ?_
  refine lv_aload_n hx hb (dq_42 0 bcX2_keep_0 (j := 22) rfl rfl) rfl (lv_at hl 0 rfl) ?_
  refine gt_X2_1 (v := .int c_next) hx hb hts i_f_X2_keep_X2 hown hK hP 0 rfl (hts (.fieldLink RX2 17 "HushWatch$History" "next" "I") (List.mem_of_getElem? (i := 2) rfl)) rfl (dq_180 0 bcX2_keep_0 (j := 23) (i := 17) rfl rfl rfl) ?_
  refine lv_iconst (v := 1) hx hb (dq_4 0 bcX2_keep_0 (j := 26) rfl rfl) (by decide) ?_
  refine lv_iadd hx hb (dq_96 0 bcX2_keep_0 (j := 27) rfl rfl) ?_
  refine lv_bipush (v := 40) hx hb (dq_16 0 bcX2_keep_0 (j := 28) (i := 40) rfl rfl rfl) (by decide) ?_
  refine lv_icmp_ge (tgt := 42) hx hb (dq_162 0 bcX2_keep_0 (j := 30) (i := 12) rfl rfl rfl) (by decide) (fun c_3 => ?_) (fun c_3 => ?_)
  ·
    replace hF := ip c_3 hF
    refine lv_iconst (v := 0) hx hb (dq_3 0 bcX2_keep_0 (j := 42) rfl rfl) (by decide) ?_
    refine pt_X2_1 (v := .int (0 : Int32)) hx hb hts i_f_X2_keep_X2 hown hK hP hD hS 0 rfl (hts (.fieldLink RX2 17 "HushWatch$History" "next" "I") (List.mem_of_getElem? (i := 2) rfl)) rfl rfl (Nat.le_of_ble_eq_true rfl) (dq_181 0 bcX2_keep_0 (j := 43) (i := 17) rfl rfl rfl) (fun H locs hP hD hS => ?_)
    have h9 := fixPD (ws' := [k_X2 a_ a_rows (0 : Int32) c_held, k_I E a_rows 3240 f_2, k_X5 a_o1 a_o1_row a_o1_partners c_o1_askedCount c_o1_outcome a_o1_share a_o1_leftOver, k_I E a_o1_row 81 c_o1_row]) hP hD rfl
    clear hP hD
    obtain ⟨hP, hD⟩ := h9
    refine lv_aload_n hx hb (dq_42 0 bcX2_keep_0 (j := 46) rfl rfl) rfl (lv_at hl 0 rfl) ?_
    refine lv_aload_n hx hb (dq_42 0 bcX2_keep_0 (j := 47) rfl rfl) rfl (lv_at hl 0 rfl) ?_
    refine gt_X2_2 (v := .int c_held) hx hb hts i_f_X2_keep_X2 hown hK hP 0 rfl (hts (.fieldLink RX2 21 "HushWatch$History" "held" "I") (List.mem_of_getElem? (i := 7) rfl)) rfl (dq_180 48 bcX2_keep_1 (j := 0) (i := 21) rfl rfl rfl) ?_
    refine lv_iconst (v := 1) hx hb (dq_4 48 bcX2_keep_1 (j := 3) rfl rfl) (by decide) ?_
    refine lv_iadd hx hb (dq_96 48 bcX2_keep_1 (j := 4) rfl rfl) ?_
    refine lv_bipush (v := 40) hx hb (dq_16 48 bcX2_keep_1 (j := 5) (i := 40) rfl rfl rfl) (by decide) ?_
    refine va_mmin hx hb (hml.trans hl.1.symm) hown (hts (.methodLink RX2 33 Lib.Math.min.name) (List.mem_of_getElem? (i := 8) rfl)) (hts (.static Lib.Math.min.name) (List.mem_of_getElem? (i := 9) rfl)) (hts (.initialized "java/lang/Math") (List.mem_of_getElem? (i := 10) rfl)) (hts (.code Lib.Math.min.name Lib.Math.min.code 2 (some .int)) (List.mem_of_getElem? (i := 11) rfl)) (Nat.le_of_ble_eq_true rfl) (Nat.le_of_ble_eq_true rfl) (Nat.le_of_ble_eq_true rfl) (Nat.le_of_ble_eq_true rfl) (dq_184 48 bcX2_keep_1 (j := 7) (i := 33) rfl rfl rfl) ?_
    refine W.eq (g2 := F0 m 58 ls [.int (minF (c_held + (1 : Int32)) (40 : Int32)), .ref a_]) rfl ?_
    refine pt_X2_2 (v := .int (minF (c_held + (1 : Int32)) (40 : Int32))) hx hb hts i_f_X2_keep_X2 hown hK hP hD hS 0 rfl (hts (.fieldLink RX2 21 "HushWatch$History" "held" "I") (List.mem_of_getElem? (i := 7) rfl)) rfl rfl (Nat.le_of_ble_eq_true rfl) (dq_181 48 bcX2_keep_1 (j := 10) (i := 21) rfl rfl rfl) (fun H locs hP hD hS => ?_)
    have h9 := fixPD (ws' := [k_X2 a_ a_rows (0 : Int32) (minF (c_held + (1 : Int32)) (40 : Int32)), k_I E a_rows 3240 f_2, k_X5 a_o1 a_o1_row a_o1_partners c_o1_askedCount c_o1_outcome a_o1_share a_o1_leftOver, k_I E a_o1_row 81 c_o1_row]) hP hD rfl
    clear hP hD
    obtain ⟨hP, hD⟩ := h9
    rw [hQ]
    have h9 := fin9 (P := fun u9 : (Nat → Int32) × Int32 × Int32 => va_P E.1 vwCl (w_X2_keep E a_ a_rows a_o1 a_o1_row a_o1_partners a_o1_share a_o1_leftOver u9.2.1 u9.2.2 u9.1 c_o1_askedCount c_o1_outcome c_o1_row) H ∧ va_D A (w_X2_keep E a_ a_rows a_o1 a_o1_row a_o1_partners a_o1_share a_o1_leftOver u9.2.1 u9.2.2 u9.1 c_o1_askedCount c_o1_outcome c_o1_row)) hF ⟨hP, hD⟩
    obtain ⟨hP9, hD9⟩ := h9
    exact W.vret hx hb hr (fun tt ht hW => ⟨⟨(), rfl, trivial, ht ▸ hP9, hD9⟩, hS.F ht⟩) hS.2.2 (dq_177 48 bcX2_keep_1 (j := 13) rfl rfl)
  ·
    replace hF := inn c_3 hF
    refine lv_aload_n hx hb (dq_42 0 bcX2_keep_0 (j := 33) rfl rfl) rfl (lv_at hl 0 rfl) ?_
    refine gt_X2_1 (v := .int c_next) hx hb hts i_f_X2_keep_X2 hown hK hP 0 rfl (hts (.fieldLink RX2 17 "HushWatch$History" "next" "I") (List.mem_of_getElem? (i := 2) rfl)) rfl (dq_180 0 bcX2_keep_0 (j := 34) (i := 17) rfl rfl rfl) ?_
    refine lv_iconst (v := 1) hx hb (dq_4 0 bcX2_keep_0 (j := 37) rfl rfl) (by decide) ?_
    refine lv_iadd hx hb (dq_96 0 bcX2_keep_0 (j := 38) rfl rfl) ?_
    refine lv_goto (tgt := 43) hx hb (dq_167 0 bcX2_keep_0 (j := 39) (i := 4) rfl rfl rfl) (by decide) ?_
    refine pt_X2_1 (v := .int (c_next + (1 : Int32))) hx hb hts i_f_X2_keep_X2 hown hK hP hD hS 0 rfl (hts (.fieldLink RX2 17 "HushWatch$History" "next" "I") (List.mem_of_getElem? (i := 2) rfl)) rfl rfl (Nat.le_of_ble_eq_true rfl) (dq_181 0 bcX2_keep_0 (j := 43) (i := 17) rfl rfl rfl) (fun H locs hP hD hS => ?_)
    have h9 := fixPD (ws' := [k_X2 a_ a_rows (c_next + (1 : Int32)) c_held, k_I E a_rows 3240 f_2, k_X5 a_o1 a_o1_row a_o1_partners c_o1_askedCount c_o1_outcome a_o1_share a_o1_leftOver, k_I E a_o1_row 81 c_o1_row]) hP hD rfl
    clear hP hD
    obtain ⟨hP, hD⟩ := h9
    refine lv_aload_n hx hb (dq_42 0 bcX2_keep_0 (j := 46) rfl rfl) rfl (lv_at hl 0 rfl) ?_
    refine lv_aload_n hx hb (dq_42 0 bcX2_keep_0 (j := 47) rfl rfl) rfl (lv_at hl 0 rfl) ?_
    refine gt_X2_2 (v := .int c_held) hx hb hts i_f_X2_keep_X2 hown hK hP 0 rfl (hts (.fieldLink RX2 21 "HushWatch$History" "held" "I") (List.mem_of_getElem? (i := 7) rfl)) rfl (dq_180 48 bcX2_keep_1 (j := 0) (i := 21) rfl rfl rfl) ?_
    refine lv_iconst (v := 1) hx hb (dq_4 48 bcX2_keep_1 (j := 3) rfl rfl) (by decide) ?_
    refine lv_iadd hx hb (dq_96 48 bcX2_keep_1 (j := 4) rfl rfl) ?_
    refine lv_bipush (v := 40) hx hb (dq_16 48 bcX2_keep_1 (j := 5) (i := 40) rfl rfl rfl) (by decide) ?_
    refine va_mmin hx hb (hml.trans hl.1.symm) hown (hts (.methodLink RX2 33 Lib.Math.min.name) (List.mem_of_getElem? (i := 8) rfl)) (hts (.static Lib.Math.min.name) (List.mem_of_getElem? (i := 9) rfl)) (hts (.initialized "java/lang/Math") (List.mem_of_getElem? (i := 10) rfl)) (hts (.code Lib.Math.min.name Lib.Math.min.code 2 (some .int)) (List.mem_of_getElem? (i := 11) rfl)) (Nat.le_of_ble_eq_true rfl) (Nat.le_of_ble_eq_true rfl) (Nat.le_of_ble_eq_true rfl) (Nat.le_of_ble_eq_true rfl) (dq_184 48 bcX2_keep_1 (j := 7) (i := 33) rfl rfl rfl) ?_
    refine W.eq (g2 := F0 m 58 ls [.int (minF (c_held + (1 : Int32)) (40 : Int32)), .ref a_]) rfl ?_
    refine pt_X2_2 (v := .int (minF (c_held + (1 : Int32)) (40 : Int32))) hx hb hts i_f_X2_keep_X2 hown hK hP hD hS 0 rfl (hts (.fieldLink RX2 21 "HushWatch$History" "held" "I") (List.mem_of_getElem? (i := 7) rfl)) rfl rfl (Nat.le_of_ble_eq_true rfl) (dq_181 48 bcX2_keep_1 (j := 10) (i := 21) rfl rfl rfl) (fun H locs hP hD hS => ?_)
    have h9 := fixPD (ws' := [k_X2 a_ a_rows (c_next + (1 : Int32)) (minF (c_held + (1 : Int32)) (40 : Int32)), k_I E a_rows 3240 f_2, k_X5 a_o1 a_o1_row a_o1_partners c_o1_askedCount c_o1_outcome a_o1_share a_o1_leftOver, k_I E a_o1_row 81 c_o1_row]) hP hD rfl
    clear hP hD
    obtain ⟨hP, hD⟩ := h9
    rw [hQ]
    have h9 := fin9 (P := fun u9 : (Nat → Int32) × Int32 × Int32 => va_P E.1 vwCl (w_X2_keep E a_ a_rows a_o1 a_o1_row a_o1_partners a_o1_share a_o1_leftOver u9.2.1 u9.2.2 u9.1 c_o1_askedCount c_o1_outcome c_o1_row) H ∧ va_D A (w_X2_keep E a_ a_rows a_o1 a_o1_row a_o1_partners a_o1_share a_o1_leftOver u9.2.1 u9.2.2 u9.1 c_o1_askedCount c_o1_outcome c_o1_row)) hF ⟨hP, hD⟩
    obtain ⟨hP9, hD9⟩ := h9
    exact W.vret hx hb hr (fun tt ht hW => ⟨⟨(), rfl, trivial, ht ▸ hP9, hD9⟩, hS.F ht⟩) hS.2.2 (dq_177 48 bcX2_keep_1 (j := 13) rfl rfl)

def F_X4_areFull (c_held : Int32) : Option (Int32) :=
  if c_held < (4 : Int32) then some (0 : Int32) else some (1 : Int32)
theorem gw_wsX40 : wsX40.all goodWord = true := by decide +kernel
abbrev w_X4_areFull (E : EE) (a_ a_steps a_counts : Nat) (c_held : Int32) : va_W := [k_X4 a_ a_steps a_counts c_held]
def v_f_X4_areFull : List Cond := List.cons (.code yX4_areFull cX4_areFull 1 (some .boolean)) (HAppend.hAppend (α := List Cond) (β := List Cond) (γ := List Cond) [.fieldLink RX4 18 "HushWatch$Scripts" "held" "I"] (HAppend.hAppend (α := List Cond) (β := List Cond) (γ := List Cond) wsX40 []))
theorem gw_f_X4_areFull : v_f_X4_areFull.all goodWord = true := gw_c2 (by decide +kernel) (gw_ap gw_wsX40 gw_nil)
theorem i_f_X4_areFull_X4 : ∀ w ∈ wsX40, w ∈ v_f_X4_areFull := fun _ h => List.mem_cons_of_mem _ (List.mem_append_right _ (List.mem_append_left _ h))
theorem hd_X4_areFull : yX4_areFull.cls = RX4 ∧ yX4_areFull.cls ≠ "java/lang/invoke/MethodHandle" ∧ yX4_areFull.cls ≠ "java/lang/invoke/VarHandle" ∧ (parseMethodDescriptor yX4_areFull.desc).map (fun d => d.parameters.length) = some 0 := by decide +kernel
set_option maxHeartbeats 4000000 in
set_option maxRecDepth 100000 in
theorem f_X4_areFull (l : Launch) (E : EE) {a_ a_steps a_counts : Nat} {c_held : Int32} {rr : Int32} (hF : F_X4_areFull c_held = some rr) : Met l yX4_areFull v_f_X4_areFull (({ frames := 0, cells := 0, slots := 0, locals := 0 } : Room)) (va_Pc [.ref a_] (pP E (w_X4_areFull E a_ a_steps a_counts c_held))) (vp_Si (fun q : Int32 => q = rr ∧ (q = 0 ∨ q = 1))) 0 0 (fun _ => False) := by
  refine Met.ofW (cc := cX4_areFull) (maxL := 1) (ret := (some .boolean)) (by decide) rfl ?_
  intro p e s m args below meth c s₁ B hml hv
  obtain ⟨rfl, ⟨hK, hN⟩, hP⟩ := hv
  have hx := B.exec
  have hb := B.bytes
  have hr := B.returns
  have hts := atoms_spec (ws := v_f_X4_areFull) B.pre
  have hown : s.vm.findClass RX4 = some m.cls := own_of hd_X4_areFull.1 (findClass_of_methodNamed B.named)
  have hlocks : meth.locks = false := B.notSynchronized
  replace hP : va_P E.1 vwCl [k_X4 a_ a_steps a_counts c_held] s.heap := hP
  have hl := lv_entry ([.ref a_]) (n := 1) (Nat.le_of_ble_eq_true rfl)
  rw [lg_entry_eq]
  generalize (lg_sl ([.ref a_]) ++ List.replicate (1 - (lg_sl ([.ref a_])).length) Slot.unset).toArray = ls at hl ⊢
  have hl : lv_has ls 1 [(0, .ref a_)] := hl
  obtain ⟨Q, hQ⟩ : ∃ Q : State → Prop, Q = MQ below (vp_Si (fun q : Int32 => q = rr ∧ (q = 0 ∨ q = 1))) #[Value.ref a_] s 0 0 (fun _ => False) := ⟨_, rfl⟩
  rw [← hQ]
  change W p l e ({ frames := 0, cells := 0, slots := 0, locals := 0 } : Room) s m #[Value.ref a_] below meth c s.heap [] 0 0 Q (F0 m 0 ls [])
  unfold F_X4_areFull at hF
  refine lv_aload_n hx hb (dq_42 0 bcX4_areFull_0 (j := 0) rfl rfl) rfl (lv_at hl 0 rfl) ?_
  refine gt_X4_2 (v := .int c_held) hx hb hts i_f_X4_areFull_X4 hown hK hP 0 rfl (hts (.fieldLink RX4 18 "HushWatch$Scripts" "held" "I") (List.mem_of_getElem? (i := 1) rfl)) rfl (dq_180 0 bcX4_areFull_0 (j := 1) (i := 18) rfl rfl rfl) ?_
  refine lv_iconst (v := 4) hx hb (dq_7 0 bcX4_areFull_0 (j := 4) rfl rfl) (by decide) ?_
  refine lv_icmp_lt (tgt := 12) hx hb (dq_161 0 bcX4_areFull_0 (j := 5) (i := 7) rfl rfl rfl) (by decide) (fun c_1 => ?_) (fun c_1 => ?_)
  ·
    replace hF := ip c_1 hF
    refine lv_iconst (v := 0) hx hb (dq_3 0 bcX4_areFull_0 (j := 12) rfl rfl) (by decide) ?_
    rw [hQ]
    obtain e9_0 := inj1 hF
    exact W.zret (v := (0 : Int32)) hx hb hr rfl (fun tt ht hW => ⟨_, rfl, ⟨e9_0, Or.inl rfl⟩, ht⟩) (fun _ h => by cases h) (dq_172 0 bcX4_areFull_0 (j := 13) rfl rfl)
  ·
    replace hF := inn c_1 hF
    refine lv_iconst (v := 1) hx hb (dq_4 0 bcX4_areFull_0 (j := 8) rfl rfl) (by decide) ?_
    refine lv_goto (tgt := 13) hx hb (dq_167 0 bcX4_areFull_0 (j := 9) (i := 4) rfl rfl rfl) (by decide) ?_
    rw [hQ]
    obtain e9_0 := inj1 hF
    exact W.zret (v := (1 : Int32)) hx hb hr rfl (fun tt ht hW => ⟨_, rfl, ⟨e9_0, Or.inr rfl⟩, ht⟩) (fun _ h => by cases h) (dq_172 0 bcX4_areFull_0 (j := 13) rfl rfl)

def F_X4_has (p1 : Int32) (c_held : Int32) : Option (Int32) :=
  if p1 < (0 : Int32) then some (0 : Int32) else if c_held ≤ p1 then some (0 : Int32) else if (4 : Int32) ≤ p1 then some (0 : Int32) else some (1 : Int32)
abbrev w_X4_has (E : EE) (a_ a_steps a_counts : Nat) (c_held : Int32) : va_W := [k_X4 a_ a_steps a_counts c_held]
def v_f_X4_has : List Cond := List.cons (.code yX4_has cX4_has 2 (some .boolean)) (HAppend.hAppend (α := List Cond) (β := List Cond) (γ := List Cond) [.fieldLink RX4 18 "HushWatch$Scripts" "held" "I"] (HAppend.hAppend (α := List Cond) (β := List Cond) (γ := List Cond) wsX40 []))
theorem gw_f_X4_has : v_f_X4_has.all goodWord = true := gw_c2 (by decide +kernel) (gw_ap gw_wsX40 gw_nil)
theorem i_f_X4_has_X4 : ∀ w ∈ wsX40, w ∈ v_f_X4_has := fun _ h => List.mem_cons_of_mem _ (List.mem_append_right _ (List.mem_append_left _ h))
theorem hd_X4_has : yX4_has.cls = RX4 ∧ yX4_has.cls ≠ "java/lang/invoke/MethodHandle" ∧ yX4_has.cls ≠ "java/lang/invoke/VarHandle" ∧ (parseMethodDescriptor yX4_has.desc).map (fun d => d.parameters.length) = some 1 := by decide +kernel
set_option maxHeartbeats 4000000 in
set_option maxRecDepth 100000 in
theorem f_X4_has (l : Launch) (E : EE) {a_ a_steps a_counts : Nat} {p1 : Int32} {c_held : Int32} {rr : Int32} (hF : F_X4_has p1 c_held = some rr) : Met l yX4_has v_f_X4_has (({ frames := 0, cells := 0, slots := 0, locals := 0 } : Room)) (va_Pc [.ref a_, .int p1] (pP E (w_X4_has E a_ a_steps a_counts c_held))) (vp_Si (fun q : Int32 => q = rr ∧ (q = 0 ∨ q = 1))) 0 0 (fun _ => False) := by
  refine Met.ofW (cc := cX4_has) (maxL := 2) (ret := (some .boolean)) (by decide) rfl ?_
  intro p e s m args below meth c s₁ B hml hv
  obtain ⟨rfl, ⟨hK, hN⟩, hP⟩ := hv
  have hx := B.exec
  have hb := B.bytes
  have hr := B.returns
  have hts := atoms_spec (ws := v_f_X4_has) B.pre
  have hown : s.vm.findClass RX4 = some m.cls := own_of hd_X4_has.1 (findClass_of_methodNamed B.named)
  have hlocks : meth.locks = false := B.notSynchronized
  replace hP : va_P E.1 vwCl [k_X4 a_ a_steps a_counts c_held] s.heap := hP
  have hl := lv_entry ([.ref a_, .int p1]) (n := 2) (Nat.le_of_ble_eq_true rfl)
  rw [lg_entry_eq]
  generalize (lg_sl ([.ref a_, .int p1]) ++ List.replicate (2 - (lg_sl ([.ref a_, .int p1])).length) Slot.unset).toArray = ls at hl ⊢
  have hl : lv_has ls 2 [(0, .ref a_), (1, .int p1)] := hl
  obtain ⟨Q, hQ⟩ : ∃ Q : State → Prop, Q = MQ below (vp_Si (fun q : Int32 => q = rr ∧ (q = 0 ∨ q = 1))) #[Value.ref a_, Value.int p1] s 0 0 (fun _ => False) := ⟨_, rfl⟩
  rw [← hQ]
  change W p l e ({ frames := 0, cells := 0, slots := 0, locals := 0 } : Room) s m #[Value.ref a_, Value.int p1] below meth c s.heap [] 0 0 Q (F0 m 0 ls [])
  unfold F_X4_has at hF
  refine lv_iload_n hx hb (dq_27 0 bcX4_has_0 (j := 0) rfl rfl) rfl (lv_at hl 1 rfl) ?_
  refine lv_if_lt (tgt := 21) hx hb (dq_155 0 bcX4_has_0 (j := 1) (i := 20) rfl rfl rfl) (by decide) (fun c_1 => ?_) (fun c_1 => ?_)
  ·
    replace hF := ip c_1 hF
    refine lv_iconst (v := 0) hx hb (dq_3 0 bcX4_has_0 (j := 21) rfl rfl) (by decide) ?_
    rw [hQ]
    obtain e9_0 := inj1 hF
    exact W.zret (v := (0 : Int32)) hx hb hr rfl (fun tt ht hW => ⟨_, rfl, ⟨e9_0, Or.inl rfl⟩, ht⟩) (fun _ h => by cases h) (dq_172 0 bcX4_has_0 (j := 22) rfl rfl)
  ·
    replace hF := inn c_1 hF
    refine lv_iload_n hx hb (dq_27 0 bcX4_has_0 (j := 4) rfl rfl) rfl (lv_at hl 1 rfl) ?_
    refine lv_aload_n hx hb (dq_42 0 bcX4_has_0 (j := 5) rfl rfl) rfl (lv_at hl 0 rfl) ?_
    refine gt_X4_2 (v := .int c_held) hx hb hts i_f_X4_has_X4 hown hK hP 0 rfl (hts (.fieldLink RX4 18 "HushWatch$Scripts" "held" "I") (List.mem_of_getElem? (i := 1) rfl)) rfl (dq_180 0 bcX4_has_0 (j := 6) (i := 18) rfl rfl rfl) ?_
    refine lv_icmp_ge (tgt := 21) hx hb (dq_162 0 bcX4_has_0 (j := 9) (i := 12) rfl rfl rfl) (by decide) (fun c_2 => ?_) (fun c_2 => ?_)
    ·
      replace hF := ip c_2 hF
      refine lv_iconst (v := 0) hx hb (dq_3 0 bcX4_has_0 (j := 21) rfl rfl) (by decide) ?_
      rw [hQ]
      obtain e9_0 := inj1 hF
      exact W.zret (v := (0 : Int32)) hx hb hr rfl (fun tt ht hW => ⟨_, rfl, ⟨e9_0, Or.inl rfl⟩, ht⟩) (fun _ h => by cases h) (dq_172 0 bcX4_has_0 (j := 22) rfl rfl)
    ·
      replace hF := inn c_2 hF
      refine lv_iload_n hx hb (dq_27 0 bcX4_has_0 (j := 12) rfl rfl) rfl (lv_at hl 1 rfl) ?_
      refine lv_iconst (v := 4) hx hb (dq_7 0 bcX4_has_0 (j := 13) rfl rfl) (by decide) ?_
      refine lv_icmp_ge (tgt := 21) hx hb (dq_162 0 bcX4_has_0 (j := 14) (i := 7) rfl rfl rfl) (by decide) (fun c_3 => ?_) (fun c_3 => ?_)
      ·
        replace hF := ip c_3 hF
        refine lv_iconst (v := 0) hx hb (dq_3 0 bcX4_has_0 (j := 21) rfl rfl) (by decide) ?_
        rw [hQ]
        obtain e9_0 := inj1 hF
        exact W.zret (v := (0 : Int32)) hx hb hr rfl (fun tt ht hW => ⟨_, rfl, ⟨e9_0, Or.inl rfl⟩, ht⟩) (fun _ h => by cases h) (dq_172 0 bcX4_has_0 (j := 22) rfl rfl)
      ·
        replace hF := inn c_3 hF
        refine lv_iconst (v := 1) hx hb (dq_4 0 bcX4_has_0 (j := 17) rfl rfl) (by decide) ?_
        refine lv_goto (tgt := 22) hx hb (dq_167 0 bcX4_has_0 (j := 18) (i := 4) rfl rfl rfl) (by decide) ?_
        rw [hQ]
        obtain e9_0 := inj1 hF
        exact W.zret (v := (1 : Int32)) hx hb hr rfl (fun tt ht hW => ⟨_, rfl, ⟨e9_0, Or.inr rfl⟩, ht⟩) (fun _ h => by cases h) (dq_172 0 bcX4_has_0 (j := 22) rfl rfl)

def F_X4_keep (c_steps : Nat → Int32) (c_counts : Nat → Int32) (c_held : Int32) (c_o1_steps : Nat → Int32) (c_o1_stepCount : Int32) : Option ((Nat → Int32) × (Nat → Int32) × Int32) :=
  bd1 (F_X4_areFull c_held) (fun r_1 => if r_1 = (0 : Int32) then cpF (0 : Int32) (c_held * (48 : Int32)) (48 : Int32) 48 192 (nmF (va_cpy c_o1_steps c_steps (0 : Int32).toNatClampNeg (c_held * (48 : Int32)).toNatClampNeg (48 : Int32).toNatClampNeg) (fun f_6 => ixF c_held 4 (nmF (upd c_counts c_held.toNatClampNeg c_o1_stepCount) (fun f_8 => some (f_6, f_8, c_held + (1 : Int32)))))) else some (c_steps, c_counts, c_held))
abbrev w_X4_keep (E : EE) (a_ a_steps a_counts a_o1 a_o1_tape a_o1_rules a_o1_places a_o1_steps : Nat) (c_held : Int32) (c_steps : Nat → Int32) (c_counts : Nat → Int32) (c_o1_siteCount : Int32) (c_o1_stepCount : Int32) (c_o1_seenRules : Int32) (c_o1_at : Int32) (c_o1_wordStart : Int32) (c_o1_number : Int32) (c_o1_failed : Int32) (c_o1_steps : Nat → Int32) : va_W := [k_X4 a_ a_steps a_counts c_held, k_I E a_steps 192 c_steps, k_I E a_counts 4 c_counts, k_X3 a_o1 a_o1_tape a_o1_rules a_o1_places a_o1_steps c_o1_siteCount c_o1_stepCount c_o1_seenRules c_o1_at c_o1_wordStart c_o1_number c_o1_failed, k_I E a_o1_steps 48 c_o1_steps]
def v_f_X4_keep : List Cond := List.cons (.code yX4_keep cX4_keep 2 none) (HAppend.hAppend (α := List Cond) (β := List Cond) (γ := List Cond) [.fieldLink RX4 11 "HushWatch$Scripts" "steps" "[I", .fieldLink RX4 18 "HushWatch$Scripts" "held" "I", .methodLink RX4 29 arraycopyName, .native arraycopyName, .static arraycopyName, .initialized "java/lang/System", .fieldLink RX4 15 "HushWatch$Scripts" "counts" "[I", .methodLink RX4 22 yX4_areFull, .instanceMethod yX4_areFull, .selects RX4 yX4_areFull yX4_areFull, .initialized RX4] (HAppend.hAppend (α := List Cond) (β := List Cond) (γ := List Cond) v_f_X4_areFull (HAppend.hAppend (α := List Cond) (β := List Cond) (γ := List Cond) wsX30 (HAppend.hAppend (α := List Cond) (β := List Cond) (γ := List Cond) wsX40 []))))
theorem gw_f_X4_keep : v_f_X4_keep.all goodWord = true := gw_c2 (by decide +kernel) (gw_ap gw_f_X4_areFull (gw_ap gw_wsX30 (gw_ap gw_wsX40 gw_nil)))
theorem i_f_X4_keep_X3 : ∀ w ∈ wsX30, w ∈ v_f_X4_keep := fun _ h => List.mem_cons_of_mem _ (List.mem_append_right _ (List.mem_append_right _ (List.mem_append_left _ h)))
theorem i_f_X4_keep_X4 : ∀ w ∈ wsX40, w ∈ v_f_X4_keep := fun _ h => List.mem_cons_of_mem _ (List.mem_append_right _ (List.mem_append_right _ (List.mem_append_right _ (List.mem_append_left _ h))))
theorem g_f_X4_keep_f_X4_areFull_22 : GoodIn v_f_X4_keep (wsV RX4 22 RX4 yX4_areFull v_f_X4_areFull) := goodIn_in gw_f_X4_keep (in4 8 9 10 11 rfl rfl rfl rfl (fun _ h => List.mem_cons_of_mem _ (List.mem_append_right _ (List.mem_append_left _ h))))
theorem hd_X4_keep : yX4_keep.cls = RX4 ∧ yX4_keep.cls ≠ "java/lang/invoke/MethodHandle" ∧ yX4_keep.cls ≠ "java/lang/invoke/VarHandle" ∧ (parseMethodDescriptor yX4_keep.desc).map (fun d => d.parameters.length) = some 1 := by decide +kernel
set_option maxHeartbeats 4000000 in
set_option maxRecDepth 100000 in
theorem f_X4_keep (l : Launch) (E : EE) (sz : Nat) {a_ a_steps a_counts a_o1 a_o1_tape a_o1_rules a_o1_places a_o1_steps : Nat} {c_held : Int32} {c_steps : Nat → Int32} {c_counts : Nat → Int32} {c_o1_siteCount : Int32} {c_o1_stepCount : Int32} {c_o1_seenRules : Int32} {c_o1_at : Int32} {c_o1_wordStart : Int32} {c_o1_number : Int32} {c_o1_failed : Int32} {c_o1_steps : Nat → Int32} {n_steps : Nat → Int32} {n_counts : Nat → Int32} {n_held : Int32} (hF : F_X4_keep c_steps c_counts c_held c_o1_steps c_o1_stepCount = some (n_steps, n_counts, n_held)) : Met l yX4_keep v_f_X4_keep (({ frames := 1, cells := 0, slots := 0, locals := 60 } : Room)) (va_Pc [.ref a_, .ref a_o1] (pW E sz (w_X4_keep E a_ a_steps a_counts a_o1 a_o1_tape a_o1_rules a_o1_places a_o1_steps c_held c_steps c_counts c_o1_siteCount c_o1_stepCount c_o1_seenRules c_o1_at c_o1_wordStart c_o1_number c_o1_failed c_o1_steps))) (va_Qv (fun (_u : Unit) => True) (fun (_u : Unit) tt => va_P E.1 vwCl (w_X4_keep E a_ a_steps a_counts a_o1 a_o1_tape a_o1_rules a_o1_places a_o1_steps n_held n_steps n_counts c_o1_siteCount c_o1_stepCount c_o1_seenRules c_o1_at c_o1_wordStart c_o1_number c_o1_failed c_o1_steps) tt.heap ∧ va_D (va_A (w_X4_keep E a_ a_steps a_counts a_o1 a_o1_tape a_o1_rules a_o1_places a_o1_steps c_held c_steps c_counts c_o1_siteCount c_o1_stepCount c_o1_seenRules c_o1_at c_o1_wordStart c_o1_number c_o1_failed c_o1_steps) sz) (w_X4_keep E a_ a_steps a_counts a_o1 a_o1_tape a_o1_rules a_o1_places a_o1_steps n_held n_steps n_counts c_o1_siteCount c_o1_stepCount c_o1_seenRules c_o1_at c_o1_wordStart c_o1_number c_o1_failed c_o1_steps)) (va_A (w_X4_keep E a_ a_steps a_counts a_o1 a_o1_tape a_o1_rules a_o1_places a_o1_steps c_held c_steps c_counts c_o1_siteCount c_o1_stepCount c_o1_seenRules c_o1_at c_o1_wordStart c_o1_number c_o1_failed c_o1_steps) sz)) 0 0 (va_A (w_X4_keep E a_ a_steps a_counts a_o1 a_o1_tape a_o1_rules a_o1_places a_o1_steps c_held c_steps c_counts c_o1_siteCount c_o1_stepCount c_o1_seenRules c_o1_at c_o1_wordStart c_o1_number c_o1_failed c_o1_steps) sz) := by
  refine Met.ofW (cc := cX4_keep) (maxL := 2) (ret := none) (by decide) rfl ?_
  intro p e s m args below meth c s₁ B hml hv
  obtain ⟨rfl, hsz, ⟨hK, hN⟩, hP, hD0⟩ := hv
  have hx := B.exec
  have hb := B.bytes
  have hr := B.returns
  have hts := atoms_spec (ws := v_f_X4_keep) B.pre
  have hown : s.vm.findClass RX4 = some m.cls := own_of hd_X4_keep.1 (findClass_of_methodNamed B.named)
  have hlocks : meth.locks = false := B.notSynchronized
  subst hsz
  have hD := hD0.self (sz := s.heap.size)
  generalize hAe : va_A (w_X4_keep E a_ a_steps a_counts a_o1 a_o1_tape a_o1_rules a_o1_places a_o1_steps c_held c_steps c_counts c_o1_siteCount c_o1_stepCount c_o1_seenRules c_o1_at c_o1_wordStart c_o1_number c_o1_failed c_o1_steps) s.heap.size = A at hD ⊢
  have hA : ∀ q : Nat, s.heap.size ≤ q → A q := fun q h => by rw [← hAe]; exact Or.inr h
  have hS : va_S A s.heap s.heap [] := va_S.rf
  have hl := lv_entry ([.ref a_, .ref a_o1]) (n := 2) (Nat.le_of_ble_eq_true rfl)
  rw [lg_entry_eq]
  generalize (lg_sl ([.ref a_, .ref a_o1]) ++ List.replicate (2 - (lg_sl ([.ref a_, .ref a_o1])).length) Slot.unset).toArray = ls at hl ⊢
  have hl : lv_has ls 2 [(0, .ref a_), (1, .ref a_o1)] := hl
  obtain ⟨Q, hQ⟩ : ∃ Q : State → Prop, Q = MQ below (va_Qv (fun (_u : Unit) => True) (fun (_u : Unit) tt => va_P E.1 vwCl (w_X4_keep E a_ a_steps a_counts a_o1 a_o1_tape a_o1_rules a_o1_places a_o1_steps n_held n_steps n_counts c_o1_siteCount c_o1_stepCount c_o1_seenRules c_o1_at c_o1_wordStart c_o1_number c_o1_failed c_o1_steps) tt.heap ∧ va_D A (w_X4_keep E a_ a_steps a_counts a_o1 a_o1_tape a_o1_rules a_o1_places a_o1_steps n_held n_steps n_counts c_o1_siteCount c_o1_stepCount c_o1_seenRules c_o1_at c_o1_wordStart c_o1_number c_o1_failed c_o1_steps)) A) #[Value.ref a_, Value.ref a_o1] s 0 0 A := ⟨_, rfl⟩
  rw [← hQ]
  change W p l e ({ frames := 1, cells := 0, slots := 0, locals := 60 } : Room) s m #[Value.ref a_, Value.ref a_o1] below meth c s.heap [] 0 0 Q (F0 m 0 ls [])
  suffices hh9 : ∀ (H : Heap) (locs : List Loc), va_P E.1 vwCl (w_X4_keep E a_ a_steps a_counts a_o1 a_o1_tape a_o1_rules a_o1_places a_o1_steps c_held c_steps c_counts c_o1_siteCount c_o1_stepCount c_o1_seenRules c_o1_at c_o1_wordStart c_o1_number c_o1_failed c_o1_steps) H → va_D A (w_X4_keep E a_ a_steps a_counts a_o1 a_o1_tape a_o1_rules a_o1_places a_o1_steps c_held c_steps c_counts c_o1_siteCount c_o1_stepCount c_o1_seenRules c_o1_at c_o1_wordStart c_o1_number c_o1_failed c_o1_steps) → va_S A s.heap H locs → W p l e ({ frames := 1, cells := 0, slots := 0, locals := 60 } : Room) s m #[Value.ref a_, Value.ref a_o1] below meth c H locs 0 0 Q (F0 m 0 ls []) from hh9 s.heap [] hP hD hS
  clear hP hD hS
  intro H locs hP hD hS
  have h9 := fixPD (ws' := [k_X4 a_ a_steps a_counts c_held, k_I E a_steps 192 c_steps, k_I E a_counts 4 c_counts, k_X3 a_o1 a_o1_tape a_o1_rules a_o1_places a_o1_steps c_o1_siteCount c_o1_stepCount c_o1_seenRules c_o1_at c_o1_wordStart c_o1_number c_o1_failed, k_I E a_o1_steps 48 c_o1_steps]) hP hD rfl
  clear hP hD
  obtain ⟨hP, hD⟩ := h9
  unfold F_X4_keep at hF
  refine lv_aload_n hx hb (dq_42 0 bcX4_keep_0 (j := 0) rfl rfl) rfl (lv_at hl 0 rfl) ?_
  replace hF := bd1_s hF
  obtain ⟨r_1, hc_2, hF⟩ := hF
  have hPc : va_P E.1 vwCl (w_X4_areFull E a_ a_steps a_counts c_held) H := hP.sub (ws' := [k_X4 a_ a_steps a_counts c_held]) [0] rfl
  have hrc := va_recv hK hPc (ci := 5) (q0 := 0) rfl rfl
  refine pE_z (va_runV (As := []) (rest := [])  ⟨hx, hb, hml, hown, hts⟩ (f_X4_areFull l E (a_ := a_) (a_steps := a_steps) (a_counts := a_counts) (c_held := c_held) hc_2) (cwV 0 hts g_f_X4_keep_f_X4_areFull_22 rfl rfl rfl hd_X4_areFull ⟨Nat.le_of_ble_eq_true rfl, Nat.le_of_ble_eq_true rfl⟩) ⟨pP.blind, hrc, (pP.pre ⟨hK, hN⟩ hPc)⟩ rfl rfl hl.1 rfl (lv_room (Nat.le_of_ble_eq_true rfl)) (dq_182 0 bcX4_keep_0 (j := 1) (i := 22) rfl rfl rfl) ⟨Nat.le_of_ble_eq_true rfl, Nat.le_of_ble_eq_true rfl⟩) (fun hb_3 => ?_)
  refine lv_if_ne (tgt := 51) hx hb (dq_154 0 bcX4_keep_0 (j := 4) (i := 47) rfl rfl rfl) (by decide) (fun c_4 => ?_) (fun c_4 => ?_)
  ·
    replace hF := inn c_4 hF
    rw [hQ]
    have h9 := fin9 (P := fun u9 : (Nat → Int32) × (Nat → Int32) × Int32 => va_P E.1 vwCl (w_X4_keep E a_ a_steps a_counts a_o1 a_o1_tape a_o1_rules a_o1_places a_o1_steps u9.2.2 u9.1 u9.2.1 c_o1_siteCount c_o1_stepCount c_o1_seenRules c_o1_at c_o1_wordStart c_o1_number c_o1_failed c_o1_steps) H ∧ va_D A (w_X4_keep E a_ a_steps a_counts a_o1 a_o1_tape a_o1_rules a_o1_places a_o1_steps u9.2.2 u9.1 u9.2.1 c_o1_siteCount c_o1_stepCount c_o1_seenRules c_o1_at c_o1_wordStart c_o1_number c_o1_failed c_o1_steps)) hF ⟨hP, hD⟩
    obtain ⟨hP9, hD9⟩ := h9
    exact W.vret hx hb hr (fun tt ht hW => ⟨⟨(), rfl, trivial, ht ▸ hP9, hD9⟩, hS.F ht⟩) hS.2.2 (dq_177 48 bcX4_keep_1 (j := 3) rfl rfl)
  ·
    replace hF := ip c_4 hF
    refine lv_aload_n hx hb (dq_43 0 bcX4_keep_0 (j := 7) rfl rfl) rfl (lv_at hl 1 rfl) ?_
    refine va_getN (D := E.1) (ci := 4) (v := .ref a_o1_steps) (C := RX3) (T := TX3) (N := 11) hx hb hts i_f_X4_keep_X3 hown hK hP 3 rfl rfl 3 (by decide) (nx hN 5 rfl) (fun _ h9 => h9) rfl (dq_180 0 bcX4_keep_0 (j := 8) (i := 26) rfl rfl rfl) ?_
    refine lv_iconst (v := 0) hx hb (dq_3 0 bcX4_keep_0 (j := 11) rfl rfl) (by decide) ?_
    refine lv_aload_n hx hb (dq_42 0 bcX4_keep_0 (j := 12) rfl rfl) rfl (lv_at hl 0 rfl) ?_
    refine gt_X4_0 (v := .ref a_steps) hx hb hts i_f_X4_keep_X4 hown hK hP 0 rfl (hts (.fieldLink RX4 11 "HushWatch$Scripts" "steps" "[I") (List.mem_of_getElem? (i := 1) rfl)) rfl (dq_180 0 bcX4_keep_0 (j := 13) (i := 11) rfl rfl rfl) ?_
    refine lv_aload_n hx hb (dq_42 0 bcX4_keep_0 (j := 16) rfl rfl) rfl (lv_at hl 0 rfl) ?_
    refine gt_X4_2 (v := .int c_held) hx hb hts i_f_X4_keep_X4 hown hK hP 0 rfl (hts (.fieldLink RX4 18 "HushWatch$Scripts" "held" "I") (List.mem_of_getElem? (i := 2) rfl)) rfl (dq_180 0 bcX4_keep_0 (j := 17) (i := 18) rfl rfl rfl) ?_
    refine lv_bipush (v := 48) hx hb (dq_16 0 bcX4_keep_0 (j := 20) (i := 48) rfl rfl rfl) (by decide) ?_
    refine lv_imul hx hb (dq_104 0 bcX4_keep_0 (j := 22) rfl rfl) ?_
    refine lv_bipush (v := 48) hx hb (dq_16 0 bcX4_keep_0 (j := 23) (i := 48) rfl rfl rfl) (by decide) ?_
    replace hF := cp_s hF
    obtain ⟨hy_5, hF⟩ := hF
    refine va_copyi hx hb (hml.trans hl.1.symm) hown (hts (.methodLink RX4 29 arraycopyName) (List.mem_of_getElem? (i := 3) rfl)) (hts (.native arraycopyName) (List.mem_of_getElem? (i := 4) rfl)) (hts (.static arraycopyName) (List.mem_of_getElem? (i := 5) rfl)) (hts (.initialized "java/lang/System") (List.mem_of_getElem? (i := 6) rfl)) hK hP hD hS 4 1 0 0 rfl rfl rfl rfl rfl hy_5.1 hy_5.2.1 hy_5.2.2.1 hy_5.2.2.2.1 hy_5.2.2.2.2 (fun _ _ => rfl) (Nat.le_of_ble_eq_true rfl) (Nat.le_of_ble_eq_true rfl) (dq_184 0 bcX4_keep_0 (j := 25) (i := 29) rfl rfl rfl) (fun H locs hP hD hS => ?_)
    have h9 := fixPD (ws' := [k_X4 a_ a_steps a_counts c_held, k_I E a_steps 192 (va_cpy c_o1_steps c_steps (0 : Int32).toNatClampNeg (c_held * (48 : Int32)).toNatClampNeg (48 : Int32).toNatClampNeg), k_I E a_counts 4 c_counts, k_X3 a_o1 a_o1_tape a_o1_rules a_o1_places a_o1_steps c_o1_siteCount c_o1_stepCount c_o1_seenRules c_o1_at c_o1_wordStart c_o1_number c_o1_failed, k_I E a_o1_steps 48 c_o1_steps]) hP hD rfl
    clear hP hD
    obtain ⟨hP, hD⟩ := h9
    replace hF := nm_s hF
    obtain ⟨f_6, hf_6, hF⟩ := hF
    rw [← hf_6] at hP hD
    refine lv_aload_n hx hb (dq_42 0 bcX4_keep_0 (j := 28) rfl rfl) rfl (lv_at hl 0 rfl) ?_
    refine gt_X4_1 (v := .ref a_counts) hx hb hts i_f_X4_keep_X4 hown hK hP 0 rfl (hts (.fieldLink RX4 15 "HushWatch$Scripts" "counts" "[I") (List.mem_of_getElem? (i := 7) rfl)) rfl (dq_180 0 bcX4_keep_0 (j := 29) (i := 15) rfl rfl rfl) ?_
    refine lv_aload_n hx hb (dq_42 0 bcX4_keep_0 (j := 32) rfl rfl) rfl (lv_at hl 0 rfl) ?_
    refine gt_X4_2 (v := .int c_held) hx hb hts i_f_X4_keep_X4 hown hK hP 0 rfl (hts (.fieldLink RX4 18 "HushWatch$Scripts" "held" "I") (List.mem_of_getElem? (i := 2) rfl)) rfl (dq_180 0 bcX4_keep_0 (j := 33) (i := 18) rfl rfl rfl) ?_
    refine lv_aload_n hx hb (dq_43 0 bcX4_keep_0 (j := 36) rfl rfl) rfl (lv_at hl 1 rfl) ?_
    refine va_getN (D := E.1) (ci := 4) (v := .int c_o1_stepCount) (C := RX3) (T := TX3) (N := 11) hx hb hts i_f_X4_keep_X3 hown hK hP 3 rfl rfl 5 (by decide) (nx hN 7 rfl) (fun _ h9 => h9) rfl (dq_180 0 bcX4_keep_0 (j := 37) (i := 35) rfl rfl rfl) ?_
    replace hF := ix_s hF
    obtain ⟨hi_7, hF⟩ := hF
    refine va_iast hx hb hK hP hD hS 2 0 rfl rfl hi_7 (dq_79 0 bcX4_keep_0 (j := 40) rfl rfl) (fun H locs hP hD hS => ?_)
    have h9 := fixPD (ws' := [k_X4 a_ a_steps a_counts c_held, k_I E a_steps 192 f_6, k_I E a_counts 4 (upd c_counts c_held.toNatClampNeg c_o1_stepCount), k_X3 a_o1 a_o1_tape a_o1_rules a_o1_places a_o1_steps c_o1_siteCount c_o1_stepCount c_o1_seenRules c_o1_at c_o1_wordStart c_o1_number c_o1_failed, k_I E a_o1_steps 48 c_o1_steps]) hP hD rfl
    clear hP hD
    obtain ⟨hP, hD⟩ := h9
    replace hF := nm_s hF
    obtain ⟨f_8, hf_8, hF⟩ := hF
    rw [← hf_8] at hP hD
    refine lv_aload_n hx hb (dq_42 0 bcX4_keep_0 (j := 41) rfl rfl) rfl (lv_at hl 0 rfl) ?_
    refine lv_dup hx hb (dq_89 0 bcX4_keep_0 (j := 42) rfl rfl) rfl ?_
    refine gt_X4_2 (v := .int c_held) hx hb hts i_f_X4_keep_X4 hown hK hP 0 rfl (hts (.fieldLink RX4 18 "HushWatch$Scripts" "held" "I") (List.mem_of_getElem? (i := 2) rfl)) rfl (dq_180 0 bcX4_keep_0 (j := 43) (i := 18) rfl rfl rfl) ?_
    refine lv_iconst (v := 1) hx hb (dq_4 0 bcX4_keep_0 (j := 46) rfl rfl) (by decide) ?_
    refine lv_iadd hx hb (dq_96 0 bcX4_keep_0 (j := 47) rfl rfl) ?_
    refine pt_X4_2 (v := .int (c_held + (1 : Int32))) hx hb hts i_f_X4_keep_X4 hown hK hP hD hS 0 rfl (hts (.fieldLink RX4 18 "HushWatch$Scripts" "held" "I") (List.mem_of_getElem? (i := 2) rfl)) rfl rfl (Nat.le_of_ble_eq_true rfl) (dq_181 48 bcX4_keep_1 (j := 0) (i := 18) rfl rfl rfl) (fun H locs hP hD hS => ?_)
    have h9 := fixPD (ws' := [k_X4 a_ a_steps a_counts (c_held + (1 : Int32)), k_I E a_steps 192 f_6, k_I E a_counts 4 f_8, k_X3 a_o1 a_o1_tape a_o1_rules a_o1_places a_o1_steps c_o1_siteCount c_o1_stepCount c_o1_seenRules c_o1_at c_o1_wordStart c_o1_number c_o1_failed, k_I E a_o1_steps 48 c_o1_steps]) hP hD rfl
    clear hP hD
    obtain ⟨hP, hD⟩ := h9
    rw [hQ]
    have h9 := fin9 (P := fun u9 : (Nat → Int32) × (Nat → Int32) × Int32 => va_P E.1 vwCl (w_X4_keep E a_ a_steps a_counts a_o1 a_o1_tape a_o1_rules a_o1_places a_o1_steps u9.2.2 u9.1 u9.2.1 c_o1_siteCount c_o1_stepCount c_o1_seenRules c_o1_at c_o1_wordStart c_o1_number c_o1_failed c_o1_steps) H ∧ va_D A (w_X4_keep E a_ a_steps a_counts a_o1 a_o1_tape a_o1_rules a_o1_places a_o1_steps u9.2.2 u9.1 u9.2.1 c_o1_siteCount c_o1_stepCount c_o1_seenRules c_o1_at c_o1_wordStart c_o1_number c_o1_failed c_o1_steps)) hF ⟨hP, hD⟩
    obtain ⟨hP9, hD9⟩ := h9
    exact W.vret hx hb hr (fun tt ht hW => ⟨⟨(), rfl, trivial, ht ▸ hP9, hD9⟩, hS.F ht⟩) hS.2.2 (dq_177 48 bcX4_keep_1 (j := 3) rfl rfl)

def F_X4_stepsOf (p1 : Int32) (c_counts : Nat → Int32) (c_held : Int32) : Option (Int32) :=
  bd1 (F_X4_has p1 c_held) (fun r_1 => if r_1 = (0 : Int32) then some (0 : Int32) else ixF p1 4 (some (c_counts p1.toNatClampNeg)))
abbrev w_X4_stepsOf (E : EE) (a_ a_steps a_counts : Nat) (c_held : Int32) (c_counts : Nat → Int32) : va_W := [k_X4 a_ a_steps a_counts c_held, k_I E a_counts 4 c_counts]
def v_f_X4_stepsOf : List Cond := List.cons (.code yX4_stepsOf cX4_stepsOf 2 (some .int)) (HAppend.hAppend (α := List Cond) (β := List Cond) (γ := List Cond) [.fieldLink RX4 15 "HushWatch$Scripts" "counts" "[I", .methodLink RX4 38 yX4_has, .instanceMethod yX4_has, .selects RX4 yX4_has yX4_has, .initialized RX4] (HAppend.hAppend (α := List Cond) (β := List Cond) (γ := List Cond) v_f_X4_has (HAppend.hAppend (α := List Cond) (β := List Cond) (γ := List Cond) wsX40 [])))
theorem gw_f_X4_stepsOf : v_f_X4_stepsOf.all goodWord = true := gw_c2 (by decide +kernel) (gw_ap gw_f_X4_has (gw_ap gw_wsX40 gw_nil))
theorem i_f_X4_stepsOf_X4 : ∀ w ∈ wsX40, w ∈ v_f_X4_stepsOf := fun _ h => List.mem_cons_of_mem _ (List.mem_append_right _ (List.mem_append_right _ (List.mem_append_left _ h)))
theorem g_f_X4_stepsOf_f_X4_has_38 : GoodIn v_f_X4_stepsOf (wsV RX4 38 RX4 yX4_has v_f_X4_has) := goodIn_in gw_f_X4_stepsOf (in4 2 3 4 5 rfl rfl rfl rfl (fun _ h => List.mem_cons_of_mem _ (List.mem_append_right _ (List.mem_append_left _ h))))
theorem hd_X4_stepsOf : yX4_stepsOf.cls = RX4 ∧ yX4_stepsOf.cls ≠ "java/lang/invoke/MethodHandle" ∧ yX4_stepsOf.cls ≠ "java/lang/invoke/VarHandle" ∧ (parseMethodDescriptor yX4_stepsOf.desc).map (fun d => d.parameters.length) = some 1 := by decide +kernel
set_option maxHeartbeats 4000000 in
set_option maxRecDepth 100000 in
theorem f_X4_stepsOf (l : Launch) (E : EE) {a_ a_steps a_counts : Nat} {p1 : Int32} {c_held : Int32} {c_counts : Nat → Int32} {rr : Int32} (hF : F_X4_stepsOf p1 c_counts c_held = some rr) : Met l yX4_stepsOf v_f_X4_stepsOf (({ frames := 1, cells := 0, slots := 0, locals := 21 } : Room)) (va_Pc [.ref a_, .int p1] (pP E (w_X4_stepsOf E a_ a_steps a_counts c_held c_counts))) (vp_Si (fun q : Int32 => q = rr)) 0 0 (fun _ => False) := by
  refine Met.ofW (cc := cX4_stepsOf) (maxL := 2) (ret := (some .int)) (by decide) rfl ?_
  intro p e s m args below meth c s₁ B hml hv
  obtain ⟨rfl, ⟨hK, hN⟩, hP⟩ := hv
  have hx := B.exec
  have hb := B.bytes
  have hr := B.returns
  have hts := atoms_spec (ws := v_f_X4_stepsOf) B.pre
  have hown : s.vm.findClass RX4 = some m.cls := own_of hd_X4_stepsOf.1 (findClass_of_methodNamed B.named)
  have hlocks : meth.locks = false := B.notSynchronized
  replace hP : va_P E.1 vwCl [k_X4 a_ a_steps a_counts c_held, k_I E a_counts 4 c_counts] s.heap := hP
  have hl := lv_entry ([.ref a_, .int p1]) (n := 2) (Nat.le_of_ble_eq_true rfl)
  rw [lg_entry_eq]
  generalize (lg_sl ([.ref a_, .int p1]) ++ List.replicate (2 - (lg_sl ([.ref a_, .int p1])).length) Slot.unset).toArray = ls at hl ⊢
  have hl : lv_has ls 2 [(0, .ref a_), (1, .int p1)] := hl
  obtain ⟨Q, hQ⟩ : ∃ Q : State → Prop, Q = MQ below (vp_Si (fun q : Int32 => q = rr)) #[Value.ref a_, Value.int p1] s 0 0 (fun _ => False) := ⟨_, rfl⟩
  rw [← hQ]
  change W p l e ({ frames := 1, cells := 0, slots := 0, locals := 21 } : Room) s m #[Value.ref a_, Value.int p1] below meth c s.heap [] 0 0 Q (F0 m 0 ls [])
  unfold F_X4_stepsOf at hF
  refine lv_aload_n hx hb (dq_42 0 bcX4_stepsOf_0 (j := 0) rfl rfl) rfl (lv_at hl 0 rfl) ?_
  refine lv_iload_n hx hb (dq_27 0 bcX4_stepsOf_0 (j := 1) rfl rfl) rfl (lv_at hl 1 rfl) ?_
  replace hF := bd1_s hF
  obtain ⟨r_1, hc_2, hF⟩ := hF
  have hPc : va_P E.1 vwCl (w_X4_has E a_ a_steps a_counts c_held) s.heap := hP.sub (ws' := [k_X4 a_ a_steps a_counts c_held]) [0] rfl
  have hrc := va_recv hK hPc (ci := 5) (q0 := 0) rfl rfl
  refine pE_z (va_runV (As := [.int p1]) (rest := [])  ⟨hx, hb, hml, hown, hts⟩ (f_X4_has l E (a_ := a_) (a_steps := a_steps) (a_counts := a_counts) (p1 := p1) (c_held := c_held) hc_2) (cwV 1 hts g_f_X4_stepsOf_f_X4_has_38 rfl rfl rfl hd_X4_has ⟨Nat.le_of_ble_eq_true rfl, Nat.le_of_ble_eq_true rfl⟩) ⟨pP.blind, hrc, (pP.pre ⟨hK, hN⟩ hPc)⟩ rfl rfl hl.1 rfl (lv_room (Nat.le_of_ble_eq_true rfl)) (dq_182 0 bcX4_stepsOf_0 (j := 2) (i := 38) rfl rfl rfl) ⟨Nat.le_of_ble_eq_true rfl, Nat.le_of_ble_eq_true rfl⟩) (fun hb_3 => ?_)
  refine lv_if_eq (tgt := 17) hx hb (dq_153 0 bcX4_stepsOf_0 (j := 5) (i := 12) rfl rfl rfl) (by decide) (fun c_4 => ?_) (fun c_4 => ?_)
  ·
    replace hF := ip c_4 hF
    refine lv_iconst (v := 0) hx hb (dq_3 0 bcX4_stepsOf_0 (j := 17) rfl rfl) (by decide) ?_
    rw [hQ]
    obtain e9_0 := inj1 hF
    exact W.iret (v := (0 : Int32)) hx hb hr (fun tt ht hW => ⟨_, rfl, e9_0, ht⟩) (fun _ h => by cases h) (dq_172 0 bcX4_stepsOf_0 (j := 18) rfl rfl)
  ·
    replace hF := inn c_4 hF
    refine lv_aload_n hx hb (dq_42 0 bcX4_stepsOf_0 (j := 8) rfl rfl) rfl (lv_at hl 0 rfl) ?_
    refine gt_X4_1 (v := .ref a_counts) hx hb hts i_f_X4_stepsOf_X4 hown hK hP 0 rfl (hts (.fieldLink RX4 15 "HushWatch$Scripts" "counts" "[I") (List.mem_of_getElem? (i := 1) rfl)) rfl (dq_180 0 bcX4_stepsOf_0 (j := 9) (i := 15) rfl rfl rfl) ?_
    refine lv_iload_n hx hb (dq_27 0 bcX4_stepsOf_0 (j := 12) rfl rfl) rfl (lv_at hl 1 rfl) ?_
    replace hF := ix_s hF
    obtain ⟨hi_5, hF⟩ := hF
    refine va_iald hx hb hK hP 1 0 rfl rfl hi_5 (dq_46 0 bcX4_stepsOf_0 (j := 13) rfl rfl) ?_
    refine lv_goto (tgt := 18) hx hb (dq_167 0 bcX4_stepsOf_0 (j := 14) (i := 4) rfl rfl rfl) (by decide) ?_
    rw [hQ]
    obtain e9_0 := inj1 hF
    exact W.iret (v := c_counts p1.toNatClampNeg) hx hb hr (fun tt ht hW => ⟨_, rfl, e9_0, ht⟩) (fun _ h => by cases h) (dq_172 0 bcX4_stepsOf_0 (j := 18) rfl rfl)

def F_X4_read (p1 : Int32) (p2 : Int32) (p3 : Int32) (c_steps : Nat → Int32) (c_counts : Nat → Int32) (c_held : Int32) : Option (Int32) :=
  if p2 < (0 : Int32) then some (-100000000 : Int32) else bd1 (F_X4_stepsOf p1 c_counts c_held) (fun r_2 => if r_2 ≤ p2 then some (-100000000 : Int32) else if p3 < (0 : Int32) then some (-100000000 : Int32) else if p3 < (4 : Int32) then ixF (((p1 * (48 : Int32)) + (p2 * (4 : Int32))) + p3) 192 (some (c_steps (((p1 * (48 : Int32)) + (p2 * (4 : Int32))) + p3).toNatClampNeg)) else some (-100000000 : Int32))
abbrev w_X4_read (E : EE) (a_ a_steps a_counts : Nat) (c_held : Int32) (c_steps : Nat → Int32) (c_counts : Nat → Int32) : va_W := [k_X4 a_ a_steps a_counts c_held, k_I E a_steps 192 c_steps, k_I E a_counts 4 c_counts]
def v_f_X4_read : List Cond := List.cons (.code yX4_read cX4_read 4 (some .int)) (HAppend.hAppend (α := List Cond) (β := List Cond) (γ := List Cond) [.constant RX4 46 (-100000000), .fieldLink RX4 11 "HushWatch$Scripts" "steps" "[I", .methodLink RX4 42 yX4_stepsOf, .instanceMethod yX4_stepsOf, .selects RX4 yX4_stepsOf yX4_stepsOf, .initialized RX4] (HAppend.hAppend (α := List Cond) (β := List Cond) (γ := List Cond) v_f_X4_stepsOf (HAppend.hAppend (α := List Cond) (β := List Cond) (γ := List Cond) wsX40 [])))
theorem gw_f_X4_read : v_f_X4_read.all goodWord = true := gw_c2 (by decide +kernel) (gw_ap gw_f_X4_stepsOf (gw_ap gw_wsX40 gw_nil))
theorem i_f_X4_read_X4 : ∀ w ∈ wsX40, w ∈ v_f_X4_read := fun _ h => List.mem_cons_of_mem _ (List.mem_append_right _ (List.mem_append_right _ (List.mem_append_left _ h)))
theorem g_f_X4_read_f_X4_stepsOf_42 : GoodIn v_f_X4_read (wsV RX4 42 RX4 yX4_stepsOf v_f_X4_stepsOf) := goodIn_in gw_f_X4_read (in4 3 4 5 6 rfl rfl rfl rfl (fun _ h => List.mem_cons_of_mem _ (List.mem_append_right _ (List.mem_append_left _ h))))
theorem hd_X4_read : yX4_read.cls = RX4 ∧ yX4_read.cls ≠ "java/lang/invoke/MethodHandle" ∧ yX4_read.cls ≠ "java/lang/invoke/VarHandle" ∧ (parseMethodDescriptor yX4_read.desc).map (fun d => d.parameters.length) = some 3 := by decide +kernel
set_option maxHeartbeats 4000000 in
set_option maxRecDepth 100000 in
theorem f_X4_read (l : Launch) (E : EE) {a_ a_steps a_counts : Nat} {p1 : Int32} {p2 : Int32} {p3 : Int32} {c_held : Int32} {c_steps : Nat → Int32} {c_counts : Nat → Int32} {rr : Int32} (hF : F_X4_read p1 p2 p3 c_steps c_counts c_held = some rr) : Met l yX4_read v_f_X4_read (({ frames := 2, cells := 0, slots := 0, locals := 42 } : Room)) (va_Pc [.ref a_, .int p1, .int p2, .int p3] (pP E (w_X4_read E a_ a_steps a_counts c_held c_steps c_counts))) (vp_Si (fun q : Int32 => q = rr)) 0 0 (fun _ => False) := by
  refine Met.ofW (cc := cX4_read) (maxL := 4) (ret := (some .int)) (by decide) rfl ?_
  intro p e s m args below meth c s₁ B hml hv
  obtain ⟨rfl, ⟨hK, hN⟩, hP⟩ := hv
  have hx := B.exec
  have hb := B.bytes
  have hr := B.returns
  have hts := atoms_spec (ws := v_f_X4_read) B.pre
  have hown : s.vm.findClass RX4 = some m.cls := own_of hd_X4_read.1 (findClass_of_methodNamed B.named)
  have hlocks : meth.locks = false := B.notSynchronized
  replace hP : va_P E.1 vwCl [k_X4 a_ a_steps a_counts c_held, k_I E a_steps 192 c_steps, k_I E a_counts 4 c_counts] s.heap := hP
  have hl := lv_entry ([.ref a_, .int p1, .int p2, .int p3]) (n := 4) (Nat.le_of_ble_eq_true rfl)
  rw [lg_entry_eq]
  generalize (lg_sl ([.ref a_, .int p1, .int p2, .int p3]) ++ List.replicate (4 - (lg_sl ([.ref a_, .int p1, .int p2, .int p3])).length) Slot.unset).toArray = ls at hl ⊢
  have hl : lv_has ls 4 [(0, .ref a_), (1, .int p1), (2, .int p2), (3, .int p3)] := hl
  obtain ⟨Q, hQ⟩ : ∃ Q : State → Prop, Q = MQ below (vp_Si (fun q : Int32 => q = rr)) #[Value.ref a_, Value.int p1, Value.int p2, Value.int p3] s 0 0 (fun _ => False) := ⟨_, rfl⟩
  rw [← hQ]
  change W p l e ({ frames := 2, cells := 0, slots := 0, locals := 42 } : Room) s m #[Value.ref a_, Value.int p1, Value.int p2, Value.int p3] below meth c s.heap [] 0 0 Q (F0 m 0 ls [])
  unfold F_X4_read at hF
  refine lv_iload_n hx hb (dq_28 0 bcX4_read_0 (j := 0) rfl rfl) rfl (lv_at hl 2 rfl) ?_
  refine lv_if_lt (tgt := 22) hx hb (dq_155 0 bcX4_read_0 (j := 1) (i := 21) rfl rfl rfl) (by decide) (fun c_1 => ?_) (fun c_1 => ?_)
  ·
    replace hF := ip c_1 hF
    refine lv_ldc (v := -100000000) hx hb hown (hts (.constant RX4 46 (-100000000)) (List.mem_of_getElem? (i := 1) rfl)) (dq_18 0 bcX4_read_0 (j := 22) (i := 46) rfl rfl) ?_
    rw [hQ]
    obtain e9_0 := inj1 hF
    exact W.iret (v := (-100000000 : Int32)) hx hb hr (fun tt ht hW => ⟨_, rfl, e9_0, ht⟩) (fun _ h => by cases h) (dq_172 0 bcX4_read_0 (j := 24) rfl rfl)
  ·
    replace hF := inn c_1 hF
    refine lv_iload_n hx hb (dq_28 0 bcX4_read_0 (j := 4) rfl rfl) rfl (lv_at hl 2 rfl) ?_
    refine lv_aload_n hx hb (dq_42 0 bcX4_read_0 (j := 5) rfl rfl) rfl (lv_at hl 0 rfl) ?_
    refine lv_iload_n hx hb (dq_27 0 bcX4_read_0 (j := 6) rfl rfl) rfl (lv_at hl 1 rfl) ?_
    replace hF := bd1_s hF
    obtain ⟨r_2, hc_3, hF⟩ := hF
    have hPc : va_P E.1 vwCl (w_X4_stepsOf E a_ a_steps a_counts c_held c_counts) s.heap := hP.sub (ws' := [k_X4 a_ a_steps a_counts c_held, k_I E a_counts 4 c_counts]) [0, 2] rfl
    have hrc := va_recv hK hPc (ci := 5) (q0 := 0) rfl rfl
    refine pE_i (va_runV (As := [.int p1]) (rest := [.int p2])  ⟨hx, hb, hml, hown, hts⟩ (f_X4_stepsOf l E (a_ := a_) (a_steps := a_steps) (a_counts := a_counts) (p1 := p1) (c_held := c_held) (c_counts := c_counts) hc_3) (cwV 1 hts g_f_X4_read_f_X4_stepsOf_42 rfl rfl rfl hd_X4_stepsOf ⟨Nat.le_of_ble_eq_true rfl, Nat.le_of_ble_eq_true rfl⟩) ⟨pP.blind, hrc, (pP.pre ⟨hK, hN⟩ hPc)⟩ rfl rfl hl.1 rfl (lv_room (Nat.le_of_ble_eq_true rfl)) (dq_182 0 bcX4_read_0 (j := 7) (i := 42) rfl rfl rfl) ⟨Nat.le_of_ble_eq_true rfl, Nat.le_of_ble_eq_true rfl⟩) ?_
    refine lv_icmp_ge (tgt := 22) hx hb (dq_162 0 bcX4_read_0 (j := 10) (i := 12) rfl rfl rfl) (by decide) (fun c_4 => ?_) (fun c_4 => ?_)
    ·
      replace hF := ip c_4 hF
      refine lv_ldc (v := -100000000) hx hb hown (hts (.constant RX4 46 (-100000000)) (List.mem_of_getElem? (i := 1) rfl)) (dq_18 0 bcX4_read_0 (j := 22) (i := 46) rfl rfl) ?_
      rw [hQ]
      obtain e9_0 := inj1 hF
      exact W.iret (v := (-100000000 : Int32)) hx hb hr (fun tt ht hW => ⟨_, rfl, e9_0, ht⟩) (fun _ h => by cases h) (dq_172 0 bcX4_read_0 (j := 24) rfl rfl)
    ·
      replace hF := inn c_4 hF
      refine lv_iload_n hx hb (dq_29 0 bcX4_read_0 (j := 13) rfl rfl) rfl (lv_at hl 3 rfl) ?_
      refine lv_if_lt (tgt := 22) hx hb (dq_155 0 bcX4_read_0 (j := 14) (i := 8) rfl rfl rfl) (by decide) (fun c_5 => ?_) (fun c_5 => ?_)
      ·
        replace hF := ip c_5 hF
        refine lv_ldc (v := -100000000) hx hb hown (hts (.constant RX4 46 (-100000000)) (List.mem_of_getElem? (i := 1) rfl)) (dq_18 0 bcX4_read_0 (j := 22) (i := 46) rfl rfl) ?_
        rw [hQ]
        obtain e9_0 := inj1 hF
        exact W.iret (v := (-100000000 : Int32)) hx hb hr (fun tt ht hW => ⟨_, rfl, e9_0, ht⟩) (fun _ h => by cases h) (dq_172 0 bcX4_read_0 (j := 24) rfl rfl)
      ·
        replace hF := inn c_5 hF
        refine lv_iload_n hx hb (dq_29 0 bcX4_read_0 (j := 17) rfl rfl) rfl (lv_at hl 3 rfl) ?_
        refine lv_iconst (v := 4) hx hb (dq_7 0 bcX4_read_0 (j := 18) rfl rfl) (by decide) ?_
        refine lv_icmp_lt (tgt := 25) hx hb (dq_161 0 bcX4_read_0 (j := 19) (i := 6) rfl rfl rfl) (by decide) (fun c_6 => ?_) (fun c_6 => ?_)
        ·
          replace hF := ip c_6 hF
          refine lv_aload_n hx hb (dq_42 0 bcX4_read_0 (j := 25) rfl rfl) rfl (lv_at hl 0 rfl) ?_
          refine gt_X4_0 (v := .ref a_steps) hx hb hts i_f_X4_read_X4 hown hK hP 0 rfl (hts (.fieldLink RX4 11 "HushWatch$Scripts" "steps" "[I") (List.mem_of_getElem? (i := 2) rfl)) rfl (dq_180 0 bcX4_read_0 (j := 26) (i := 11) rfl rfl rfl) ?_
          refine lv_iload_n hx hb (dq_27 0 bcX4_read_0 (j := 29) rfl rfl) rfl (lv_at hl 1 rfl) ?_
          refine lv_bipush (v := 48) hx hb (dq_16 0 bcX4_read_0 (j := 30) (i := 48) rfl rfl rfl) (by decide) ?_
          refine lv_imul hx hb (dq_104 0 bcX4_read_0 (j := 32) rfl rfl) ?_
          refine lv_iload_n hx hb (dq_28 0 bcX4_read_0 (j := 33) rfl rfl) rfl (lv_at hl 2 rfl) ?_
          refine lv_iconst (v := 4) hx hb (dq_7 0 bcX4_read_0 (j := 34) rfl rfl) (by decide) ?_
          refine lv_imul hx hb (dq_104 0 bcX4_read_0 (j := 35) rfl rfl) ?_
          refine lv_iadd hx hb (dq_96 0 bcX4_read_0 (j := 36) rfl rfl) ?_
          refine lv_iload_n hx hb (dq_29 0 bcX4_read_0 (j := 37) rfl rfl) rfl (lv_at hl 3 rfl) ?_
          refine lv_iadd hx hb (dq_96 0 bcX4_read_0 (j := 38) rfl rfl) ?_
          replace hF := ix_s hF
          obtain ⟨hi_7, hF⟩ := hF
          refine va_iald hx hb hK hP 1 0 rfl rfl hi_7 (dq_46 0 bcX4_read_0 (j := 39) rfl rfl) ?_
          rw [hQ]
          obtain e9_0 := inj1 hF
          exact W.iret (v := c_steps (((p1 * (48 : Int32)) + (p2 * (4 : Int32))) + p3).toNatClampNeg) hx hb hr (fun tt ht hW => ⟨_, rfl, e9_0, ht⟩) (fun _ h => by cases h) (dq_172 0 bcX4_read_0 (j := 40) rfl rfl)
        ·
          replace hF := inn c_6 hF
          refine lv_ldc (v := -100000000) hx hb hown (hts (.constant RX4 46 (-100000000)) (List.mem_of_getElem? (i := 1) rfl)) (dq_18 0 bcX4_read_0 (j := 22) (i := 46) rfl rfl) ?_
          rw [hQ]
          obtain e9_0 := inj1 hF
          exact W.iret (v := (-100000000 : Int32)) hx hb hr (fun tt ht hW => ⟨_, rfl, e9_0, ht⟩) (fun _ h => by cases h) (dq_172 0 bcX4_read_0 (j := 24) rfl rfl)

def F_X4_sortOf (p1 : Int32) (p2 : Int32) (c_steps : Nat → Int32) (c_counts : Nat → Int32) (c_held : Int32) : Option (Int32) :=
  bd1 (F_X4_read p1 p2 (0 : Int32) c_steps c_counts c_held) (fun r_1 => if r_1 < (0 : Int32) then some (-1 : Int32) else if (7 : Int32) ≤ r_1 then some (-1 : Int32) else ixF r_1 7 (some (sosF r_1.toNatClampNeg)))
abbrev w_X4_sortOf (E : EE) (a_ a_steps a_counts : Nat) (c_held : Int32) (c_steps : Nat → Int32) (c_counts : Nat → Int32) : va_W := [k_X4 a_ a_steps a_counts c_held, k_I E a_steps 192 c_steps, k_I E a_counts 4 c_counts]
def v_f_X4_sortOf : List Cond := List.cons (.code yX4_sortOf cX4_sortOf 4 (some .int)) (HAppend.hAppend (α := List Cond) (β := List Cond) (γ := List Cond) [.methodLink RX4 47 yX4_read, .instanceMethod yX4_read, .selects RX4 yX4_read yX4_read, .initialized RX4] (HAppend.hAppend (α := List Cond) (β := List Cond) (γ := List Cond) v_f_X4_read []))
theorem gw_f_X4_sortOf : v_f_X4_sortOf.all goodWord = true := gw_c2 (by decide +kernel) (gw_ap gw_f_X4_read gw_nil)
theorem g_f_X4_sortOf_f_X4_read_47 : GoodIn v_f_X4_sortOf (wsV RX4 47 RX4 yX4_read v_f_X4_read) := goodIn_in gw_f_X4_sortOf (in4 1 2 3 4 rfl rfl rfl rfl (fun _ h => List.mem_cons_of_mem _ (List.mem_append_right _ (List.mem_append_left _ h))))
theorem hd_X4_sortOf : yX4_sortOf.cls = RX4 ∧ yX4_sortOf.cls ≠ "java/lang/invoke/MethodHandle" ∧ yX4_sortOf.cls ≠ "java/lang/invoke/VarHandle" ∧ (parseMethodDescriptor yX4_sortOf.desc).map (fun d => d.parameters.length) = some 2 := by decide +kernel
set_option maxHeartbeats 4000000 in
set_option maxRecDepth 100000 in
theorem f_X4_sortOf (l : Launch) (E : EE) (z9 : Nat → Nat) {a_ a_steps a_counts : Nat} {p1 : Int32} {p2 : Int32} {c_held : Int32} {c_steps : Nat → Int32} {c_counts : Nat → Int32} {rr : Int32} (hF : F_X4_sortOf p1 p2 c_steps c_counts c_held = some rr) : Met l yX4_sortOf v_f_X4_sortOf (({ frames := 3, cells := 0, slots := 0, locals := 65 } : Room)) (va_Pc [.ref a_, .int p1, .int p2] (qPZ E z9 (w_X4_sortOf E a_ a_steps a_counts c_held c_steps c_counts))) (vp_Si (fun q : Int32 => q = rr)) 0 0 (fun _ => False) := by
  refine Met.ofW (cc := cX4_sortOf) (maxL := 4) (ret := (some .int)) (by decide) rfl ?_
  intro p e s m args below meth c s₁ B hml hv
  obtain ⟨rfl, ⟨hK, hN⟩, hP, hZ⟩ := hv
  have hx := B.exec
  have hb := B.bytes
  have hr := B.returns
  have hts := atoms_spec (ws := v_f_X4_sortOf) B.pre
  have hown : s.vm.findClass RX4 = some m.cls := own_of hd_X4_sortOf.1 (findClass_of_methodNamed B.named)
  have hlocks : meth.locks = false := B.notSynchronized
  replace hP : va_P E.1 vwCl [k_X4 a_ a_steps a_counts c_held, k_I E a_steps 192 c_steps, k_I E a_counts 4 c_counts] s.heap := hP
  have hl := lv_entry ([.ref a_, .int p1, .int p2]) (n := 4) (Nat.le_of_ble_eq_true rfl)
  rw [lg_entry_eq]
  generalize (lg_sl ([.ref a_, .int p1, .int p2]) ++ List.replicate (4 - (lg_sl ([.ref a_, .int p1, .int p2])).length) Slot.unset).toArray = ls at hl ⊢
  have hl : lv_has ls 4 [(0, .ref a_), (1, .int p1), (2, .int p2)] := hl
  obtain ⟨Q, hQ⟩ : ∃ Q : State → Prop, Q = MQ below (vp_Si (fun q : Int32 => q = rr)) #[Value.ref a_, Value.int p1, Value.int p2] s 0 0 (fun _ => False) := ⟨_, rfl⟩
  rw [← hQ]
  change W p l e ({ frames := 3, cells := 0, slots := 0, locals := 65 } : Room) s m #[Value.ref a_, Value.int p1, Value.int p2] below meth c s.heap [] 0 0 Q (F0 m 0 ls [])
  unfold F_X4_sortOf at hF
  refine lv_aload_n hx hb (dq_42 0 bcX4_sortOf_0 (j := 0) rfl rfl) rfl (lv_at hl 0 rfl) ?_
  refine lv_iload_n hx hb (dq_27 0 bcX4_sortOf_0 (j := 1) rfl rfl) rfl (lv_at hl 1 rfl) ?_
  refine lv_iload_n hx hb (dq_28 0 bcX4_sortOf_0 (j := 2) rfl rfl) rfl (lv_at hl 2 rfl) ?_
  refine lv_iconst (v := 0) hx hb (dq_3 0 bcX4_sortOf_0 (j := 3) rfl rfl) (by decide) ?_
  replace hF := bd1_s hF
  obtain ⟨r_1, hc_2, hF⟩ := hF
  have hPc : va_P E.1 vwCl (w_X4_read E a_ a_steps a_counts c_held c_steps c_counts) s.heap := hP.sub (ws' := [k_X4 a_ a_steps a_counts c_held, k_I E a_steps 192 c_steps, k_I E a_counts 4 c_counts]) [0, 1, 2] rfl
  have hrc := va_recv hK hPc (ci := 5) (q0 := 0) rfl rfl
  refine pE_i (va_runV (As := [.int p1, .int p2, .int (0 : Int32)]) (rest := [])  ⟨hx, hb, hml, hown, hts⟩ (f_X4_read l E (a_ := a_) (a_steps := a_steps) (a_counts := a_counts) (p1 := p1) (p2 := p2) (p3 := (0 : Int32)) (c_held := c_held) (c_steps := c_steps) (c_counts := c_counts) hc_2) (cwV 3 hts g_f_X4_sortOf_f_X4_read_47 rfl rfl rfl hd_X4_read ⟨Nat.le_of_ble_eq_true rfl, Nat.le_of_ble_eq_true rfl⟩) ⟨pP.blind, hrc, (pP.pre ⟨hK, hN⟩ hPc)⟩ rfl rfl hl.1 rfl (lv_room (Nat.le_of_ble_eq_true rfl)) (dq_182 0 bcX4_sortOf_0 (j := 4) (i := 47) rfl rfl rfl) ⟨Nat.le_of_ble_eq_true rfl, Nat.le_of_ble_eq_true rfl⟩) ?_
  refine lv_istore_n (lv' := [(3, .int r_1), (0, .ref a_), (1, .int p1), (2, .int p2)]) hx hb (dq_62 0 bcX4_sortOf_0 (j := 7) rfl rfl) rfl hl (by decide) rfl (fun ls hl => ?_)
  refine lv_iload_n hx hb (dq_29 0 bcX4_sortOf_0 (j := 8) rfl rfl) rfl (lv_at hl 0 rfl) ?_
  refine lv_if_lt (tgt := 28) hx hb (dq_155 0 bcX4_sortOf_0 (j := 9) (i := 19) rfl rfl rfl) (by decide) (fun c_3 => ?_) (fun c_3 => ?_)
  ·
    replace hF := ip c_3 hF
    refine lv_iconst (v := -1) hx hb (dq_2 0 bcX4_sortOf_0 (j := 28) rfl rfl) (by decide) ?_
    rw [hQ]
    obtain e9_0 := inj1 hF
    exact W.iret (v := (-1 : Int32)) hx hb hr (fun tt ht hW => ⟨_, rfl, e9_0, ht⟩) (fun _ h => by cases h) (dq_172 0 bcX4_sortOf_0 (j := 29) rfl rfl)
  ·
    replace hF := inn c_3 hF
    refine lv_iload_n hx hb (dq_29 0 bcX4_sortOf_0 (j := 12) rfl rfl) rfl (lv_at hl 0 rfl) ?_
    refine va_getsN hx hb hZ.2.1.2.2.1 (va_S.rf) hown (nx hN 27 rfl) (fun _ h9 => h9) (dq_178 0 bcX4_sortOf_0 (j := 13) (i := 51) rfl rfl rfl) ?_
    refine va_tlen (v := 7) hx hb (hZ.2.1.2.2.2) (va_S.rf) (by decide) (dq_190 0 bcX4_sortOf_0 (j := 16) rfl rfl) ?_
    refine lv_icmp_ge (tgt := 28) hx hb (dq_162 0 bcX4_sortOf_0 (j := 17) (i := 11) rfl rfl rfl) (by decide) (fun c_4 => ?_) (fun c_4 => ?_)
    ·
      replace hF := ip c_4 hF
      refine lv_iconst (v := -1) hx hb (dq_2 0 bcX4_sortOf_0 (j := 28) rfl rfl) (by decide) ?_
      rw [hQ]
      obtain e9_0 := inj1 hF
      exact W.iret (v := (-1 : Int32)) hx hb hr (fun tt ht hW => ⟨_, rfl, e9_0, ht⟩) (fun _ h => by cases h) (dq_172 0 bcX4_sortOf_0 (j := 29) rfl rfl)
    ·
      replace hF := inn c_4 hF
      refine va_getsN hx hb hZ.2.1.2.2.1 (va_S.rf) hown (nx hN 27 rfl) (fun _ h9 => h9) (dq_178 0 bcX4_sortOf_0 (j := 20) (i := 51) rfl rfl rfl) ?_
      refine lv_iload_n hx hb (dq_29 0 bcX4_sortOf_0 (j := 23) rfl rfl) rfl (lv_at hl 0 rfl) ?_
      replace hF := ix_s hF
      obtain ⟨hi_5, hF⟩ := hF
      refine va_ti (v := .int (sosF r_1.toNatClampNeg)) hx hb (hZ.2.1.2.2.2) (va_S.rf) hi_5 rfl (dq_46 0 bcX4_sortOf_0 (j := 24) rfl rfl) ?_
      refine lv_goto (tgt := 29) hx hb (dq_167 0 bcX4_sortOf_0 (j := 25) (i := 4) rfl rfl rfl) (by decide) ?_
      rw [hQ]
      obtain e9_0 := inj1 hF
      exact W.iret (v := (sosF r_1.toNatClampNeg)) hx hb hr (fun tt ht hW => ⟨_, rfl, e9_0, ht⟩) (fun _ h => by cases h) (dq_172 0 bcX4_sortOf_0 (j := 29) rfl rfl)
