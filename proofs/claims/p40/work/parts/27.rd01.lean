noncomputable def blX3_readSign_0 : List Nat := [42, 182, 0, 140, 42, 180, 0, 43, 42, 180, 0, 31, 182, 0, 143, 27, 159, 0, 12, 42, 42, 180, 0, 31, 182, 0, 87, 172, 42, 89, 180, 0, 31, 4, 96, 181, 0, 31, 4, 172]
set_option maxRecDepth 100000 in
theorem bcX3_readSign_0 : ((cX3_readSign.data.toList.drop 0).take blX3_readSign_0.length).map UInt8.toNat = blX3_readSign_0 := by decide +kernel
noncomputable def blX3_readNumber_1 : List Nat := [180, 0, 31, 54, 5, 3, 54, 6, 42, 180, 0, 31, 42, 180, 0, 43, 180, 0, 59, 162, 0, 67, 42, 180, 0, 43, 42, 180, 0, 31, 182, 0, 143, 184, 0, 158, 153, 0, 50, 42, 180, 0, 31, 21, 5, 100, 16, 7, 162, 0, 25]
set_option maxRecDepth 100000 in
theorem bcX3_readNumber_1 : ((cX3_readNumber.data.toList.drop 48).take blX3_readNumber_1.length).map UInt8.toNat = blX3_readNumber_1 := by decide +kernel
noncomputable def blX3_readNumber_2 : List Nat := [162, 0, 25, 21, 6, 16, 10, 104, 42, 180, 0, 43, 42, 180, 0, 31, 182, 0, 143, 96, 16, 48, 100, 54, 6, 42, 89, 180, 0, 31, 4, 96, 181, 0, 31, 167, 255, 181, 42, 180, 0, 31, 21, 5, 100, 54, 7, 42, 21, 4, 153]
set_option maxRecDepth 100000 in
theorem bcX3_readNumber_2 : ((cX3_readNumber.data.toList.drop 96).take blX3_readNumber_2.length).map UInt8.toNat = blX3_readNumber_2 := by decide +kernel
noncomputable def blX3_readNumber_3 : List Nat := [21, 4, 153, 0, 9, 21, 6, 116, 167, 0, 5, 21, 6, 181, 0, 37, 21, 7, 4, 161, 0, 26, 21, 7, 16, 7, 163, 0, 19, 42, 180, 0, 37, 27, 161, 0, 11, 42, 180, 0, 37, 28, 164, 0, 9, 42, 29, 182, 0, 87, 172]
set_option maxRecDepth 100000 in
theorem bcX3_readNumber_3 : ((cX3_readNumber.data.toList.drop 144).take blX3_readNumber_3.length).map UInt8.toNat = blX3_readNumber_3 := by decide +kernel
noncomputable def blX3_readNumber_4 : List Nat := [0, 87, 172, 4, 172]
set_option maxRecDepth 100000 in
theorem bcX3_readNumber_4 : ((cX3_readNumber.data.toList.drop 192).take blX3_readNumber_4.length).map UInt8.toNat = blX3_readNumber_4 := by decide +kernel
noncomputable def blX3_readNumber_0 : List Nat := [42, 182, 0, 140, 42, 180, 0, 31, 62, 42, 180, 0, 43, 42, 180, 0, 31, 182, 0, 143, 16, 45, 160, 0, 7, 4, 167, 0, 4, 3, 54, 4, 21, 4, 153, 0, 13, 42, 89, 180, 0, 31, 4, 96, 181, 0, 31, 42, 180, 0, 31]
set_option maxRecDepth 100000 in
theorem bcX3_readNumber_0 : ((cX3_readNumber.data.toList.drop 0).take blX3_readNumber_0.length).map UInt8.toNat = blX3_readNumber_0 := by decide +kernel
noncomputable def blX3_readSite_0 : List Nat := [42, 180, 0, 21, 16, 8, 161, 0, 12, 42, 42, 180, 0, 34, 182, 0, 87, 172, 3, 60, 27, 5, 162, 0, 57, 27, 4, 160, 0, 14, 42, 16, 44, 182, 0, 62, 154, 0, 5, 3, 172, 42, 17, 252, 25, 17, 3, 231, 182, 0, 96]
set_option maxRecDepth 100000 in
theorem bcX3_readSite_0 : ((cX3_readSite.data.toList.drop 0).take blX3_readSite_0.length).map UInt8.toNat = blX3_readSite_0 := by decide +kernel
noncomputable def blX3_readSite_1 : List Nat := [182, 0, 96, 154, 0, 5, 3, 172, 42, 180, 0, 15, 5, 42, 180, 0, 21, 104, 27, 96, 42, 180, 0, 37, 79, 132, 1, 1, 167, 255, 200, 42, 89, 180, 0, 21, 4, 96, 181, 0, 21, 4, 172]
set_option maxRecDepth 100000 in
theorem bcX3_readSite_1 : ((cX3_readSite.data.toList.drop 48).take blX3_readSite_1.length).map UInt8.toNat = blX3_readSite_1 := by decide +kernel

def F_X3_readSign (K : Nat) (p1 : Int32) (c_tape_bytes : Nat → Int32) (c_tape_length : Int32) (c_at : Int32) (c_failed : Int32) : Option (Int32 × Int32 × Int32) :=
  bd1 (F_X3_skipBlanks K c_tape_bytes c_tape_length c_at) (fun w_1 => bd1 (F_X6_signAt w_1 c_tape_bytes c_tape_length) (fun r_3 => if r_3 = p1 then some ((1 : Int32), w_1 + (1 : Int32), c_failed) else bd2 (F_X3_failAt w_1 c_failed) (fun r_6 w_7 => some (r_6, w_1, w_7))))
abbrev w_X3_readSign (E : EE) (a_ a_tape a_rules a_places a_steps a_tape_bytes : Nat) (c_siteCount : Int32) (c_stepCount : Int32) (c_seenRules : Int32) (c_at : Int32) (c_wordStart : Int32) (c_number : Int32) (c_failed : Int32) (c_tape_length : Int32) (c_tape_bytes : Nat → Int32) : va_W := [k_X3 a_ a_tape a_rules a_places a_steps c_siteCount c_stepCount c_seenRules c_at c_wordStart c_number c_failed, k_X6 a_tape a_tape_bytes c_tape_length, k_B E a_tape_bytes 320 c_tape_bytes]
def v_f_X3_readSign : List Cond := List.cons (.code yX3_readSign cX3_readSign 2 (some .boolean)) (HAppend.hAppend (α := List Cond) (β := List Cond) (γ := List Cond) [.fieldLink RX3 43 "HushWatch$Reader" "tape" "LHushWatch$Tape;", .fieldLink RX3 31 "HushWatch$Reader" "at" "I", .methodLink RX3 140 yX3_skipBlanks, .instanceMethod yX3_skipBlanks, .selects RX3 yX3_skipBlanks yX3_skipBlanks, .initialized RX3, .methodLink RX3 143 yX6_signAt, .instanceMethod yX6_signAt, .selects RX6 yX6_signAt yX6_signAt, .initialized RX6, .methodLink RX3 87 yX3_failAt, .instanceMethod yX3_failAt, .selects RX3 yX3_failAt yX3_failAt] (HAppend.hAppend (α := List Cond) (β := List Cond) (γ := List Cond) v_f_X3_skipBlanks (HAppend.hAppend (α := List Cond) (β := List Cond) (γ := List Cond) wsX30 (HAppend.hAppend (α := List Cond) (β := List Cond) (γ := List Cond) v_f_X6_signAt (HAppend.hAppend (α := List Cond) (β := List Cond) (γ := List Cond) v_f_X3_failAt [])))))
theorem gw_f_X3_readSign : v_f_X3_readSign.all goodWord = true := gw_c2 (by decide +kernel) (gw_ap gw_f_X3_skipBlanks (gw_ap gw_wsX30 (gw_ap gw_f_X6_signAt (gw_ap gw_f_X3_failAt gw_nil))))
theorem i_f_X3_readSign_X3 : ∀ w ∈ wsX30, w ∈ v_f_X3_readSign := fun _ h => List.mem_cons_of_mem _ (List.mem_append_right _ (List.mem_append_right _ (List.mem_append_left _ h)))
theorem g_f_X3_readSign_f_X3_skipBlanks_140 : GoodIn v_f_X3_readSign (wsV RX3 140 RX3 yX3_skipBlanks v_f_X3_skipBlanks) := goodIn_in gw_f_X3_readSign (in4 3 4 5 6 rfl rfl rfl rfl (fun _ h => List.mem_cons_of_mem _ (List.mem_append_right _ (List.mem_append_left _ h))))
theorem g_f_X3_readSign_f_X6_signAt_143 : GoodIn v_f_X3_readSign (wsV RX3 143 RX6 yX6_signAt v_f_X6_signAt) := goodIn_in gw_f_X3_readSign (in4 7 8 9 10 rfl rfl rfl rfl (fun _ h => List.mem_cons_of_mem _ (List.mem_append_right _ (List.mem_append_right _ (List.mem_append_right _ (List.mem_append_left _ h))))))
theorem g_f_X3_readSign_f_X3_failAt_87 : GoodIn v_f_X3_readSign (wsV RX3 87 RX3 yX3_failAt v_f_X3_failAt) := goodIn_in gw_f_X3_readSign (in4 11 12 13 6 rfl rfl rfl rfl (fun _ h => List.mem_cons_of_mem _ (List.mem_append_right _ (List.mem_append_right _ (List.mem_append_right _ (List.mem_append_right _ (List.mem_append_left _ h)))))))
theorem hd_X3_readSign : yX3_readSign.cls = RX3 ∧ yX3_readSign.cls ≠ "java/lang/invoke/MethodHandle" ∧ yX3_readSign.cls ≠ "java/lang/invoke/VarHandle" ∧ (parseMethodDescriptor yX3_readSign.desc).map (fun d => d.parameters.length) = some 1 := by decide +kernel
set_option maxHeartbeats 4000000 in
set_option maxRecDepth 100000 in
theorem f_X3_readSign (l : Launch) (E : EE) (sz : Nat) (K : Nat) {a_ a_tape a_rules a_places a_steps a_tape_bytes : Nat} {p1 : Int32} {c_siteCount : Int32} {c_stepCount : Int32} {c_seenRules : Int32} {c_at : Int32} {c_wordStart : Int32} {c_number : Int32} {c_failed : Int32} {c_tape_length : Int32} {c_tape_bytes : Nat → Int32} {rr : Int32} {n_at : Int32} {n_failed : Int32} (hF : F_X3_readSign K p1 c_tape_bytes c_tape_length c_at c_failed = some (rr, n_at, n_failed)) : Met l yX3_readSign v_f_X3_readSign (({ frames := 2, cells := 0, slots := 0, locals := 41 } : Room)) (va_Pc [.ref a_, .int p1] (pW E sz (w_X3_readSign E a_ a_tape a_rules a_places a_steps a_tape_bytes c_siteCount c_stepCount c_seenRules c_at c_wordStart c_number c_failed c_tape_length c_tape_bytes))) (va_Qi (fun (q : Int32) (_u : Unit) => q = rr ∧ (q = 0 ∨ q = 1)) (fun (_u : Unit) tt => va_P E.1 vwCl (w_X3_readSign E a_ a_tape a_rules a_places a_steps a_tape_bytes c_siteCount c_stepCount c_seenRules n_at c_wordStart c_number n_failed c_tape_length c_tape_bytes) tt.heap ∧ va_D (va_A (w_X3_readSign E a_ a_tape a_rules a_places a_steps a_tape_bytes c_siteCount c_stepCount c_seenRules c_at c_wordStart c_number c_failed c_tape_length c_tape_bytes) sz) (w_X3_readSign E a_ a_tape a_rules a_places a_steps a_tape_bytes c_siteCount c_stepCount c_seenRules n_at c_wordStart c_number n_failed c_tape_length c_tape_bytes)) (va_A (w_X3_readSign E a_ a_tape a_rules a_places a_steps a_tape_bytes c_siteCount c_stepCount c_seenRules c_at c_wordStart c_number c_failed c_tape_length c_tape_bytes) sz)) 0 0 (va_A (w_X3_readSign E a_ a_tape a_rules a_places a_steps a_tape_bytes c_siteCount c_stepCount c_seenRules c_at c_wordStart c_number c_failed c_tape_length c_tape_bytes) sz) := by
  refine Met.ofW (cc := cX3_readSign) (maxL := 2) (ret := (some .boolean)) (by decide) rfl ?_
  intro p e s m args below meth c s₁ B hml hv
  obtain ⟨rfl, hsz, ⟨hK, hN⟩, hP, hD0⟩ := hv
  have hx := B.exec
  have hb := B.bytes
  have hr := B.returns
  have hts := atoms_spec (ws := v_f_X3_readSign) B.pre
  have hown : s.vm.findClass RX3 = some m.cls := own_of hd_X3_readSign.1 (findClass_of_methodNamed B.named)
  have hlocks : meth.locks = false := B.notSynchronized
  subst hsz
  have hD := hD0.self (sz := s.heap.size)
  generalize hAe : va_A (w_X3_readSign E a_ a_tape a_rules a_places a_steps a_tape_bytes c_siteCount c_stepCount c_seenRules c_at c_wordStart c_number c_failed c_tape_length c_tape_bytes) s.heap.size = A at hD ⊢
  have hA : ∀ q : Nat, s.heap.size ≤ q → A q := fun q h => by rw [← hAe]; exact Or.inr h
  have hS : va_S A s.heap s.heap [] := va_S.rf
  have hl := lv_entry ([.ref a_, .int p1]) (n := 2) (Nat.le_of_ble_eq_true rfl)
  rw [lg_entry_eq]
  generalize (lg_sl ([.ref a_, .int p1]) ++ List.replicate (2 - (lg_sl ([.ref a_, .int p1])).length) Slot.unset).toArray = ls at hl ⊢
  have hl : lv_has ls 2 [(0, .ref a_), (1, .int p1)] := hl
  obtain ⟨Q, hQ⟩ : ∃ Q : State → Prop, Q = MQ below (va_Qi (fun (q : Int32) (_u : Unit) => q = rr ∧ (q = 0 ∨ q = 1)) (fun (_u : Unit) tt => va_P E.1 vwCl (w_X3_readSign E a_ a_tape a_rules a_places a_steps a_tape_bytes c_siteCount c_stepCount c_seenRules n_at c_wordStart c_number n_failed c_tape_length c_tape_bytes) tt.heap ∧ va_D A (w_X3_readSign E a_ a_tape a_rules a_places a_steps a_tape_bytes c_siteCount c_stepCount c_seenRules n_at c_wordStart c_number n_failed c_tape_length c_tape_bytes)) A) #[Value.ref a_, Value.int p1] s 0 0 A := ⟨_, rfl⟩
  rw [← hQ]
  change W p l e ({ frames := 2, cells := 0, slots := 0, locals := 41 } : Room) s m #[Value.ref a_, Value.int p1] below meth c s.heap [] 0 0 Q (F0 m 0 ls [])
  suffices hh9 : ∀ (H : Heap) (locs : List Loc), va_P E.1 vwCl (w_X3_readSign E a_ a_tape a_rules a_places a_steps a_tape_bytes c_siteCount c_stepCount c_seenRules c_at c_wordStart c_number c_failed c_tape_length c_tape_bytes) H → va_D A (w_X3_readSign E a_ a_tape a_rules a_places a_steps a_tape_bytes c_siteCount c_stepCount c_seenRules c_at c_wordStart c_number c_failed c_tape_length c_tape_bytes) → va_S A s.heap H locs → W p l e ({ frames := 2, cells := 0, slots := 0, locals := 41 } : Room) s m #[Value.ref a_, Value.int p1] below meth c H locs 0 0 Q (F0 m 0 ls []) from hh9 s.heap [] hP hD hS
  clear hP hD hS
  intro H locs hP hD hS
  have h9 := fixPD (ws' := [k_X3 a_ a_tape a_rules a_places a_steps c_siteCount c_stepCount c_seenRules c_at c_wordStart c_number c_failed, k_X6 a_tape a_tape_bytes c_tape_length, k_B E a_tape_bytes 320 c_tape_bytes]) hP hD rfl
  clear hP hD
  obtain ⟨hP, hD⟩ := h9
  unfold F_X3_readSign at hF
  refine lv_aload_n hx hb (dq_42 0 bcX3_readSign_0 (j := 0) rfl rfl) rfl (lv_at hl 0 rfl) ?_
  replace hF := bd1_s hF
  obtain ⟨w_1, hc_2, hF⟩ := hF
  obtain ⟨hPc, hDc, hFc⟩ := wcut (wc := (w_X3_skipBlanks E a_ a_tape a_rules a_places a_steps a_tape_bytes c_siteCount c_stepCount c_seenRules c_at c_wordStart c_number c_failed c_tape_length c_tape_bytes)) hP hD hS hA [0, 1, 2] (by decide) rfl
  have hrc := va_recv hK hPc (ci := 4) (q0 := 0) rfl rfl
  refine cE_v (wc := (w_X3_skipBlanks E a_ a_tape a_rules a_places a_steps a_tape_bytes c_siteCount c_stepCount c_seenRules c_at c_wordStart c_number c_failed c_tape_length c_tape_bytes)) (wr := []) (w1 := (w_X3_skipBlanks E a_ a_tape a_rules a_places a_steps a_tape_bytes c_siteCount c_stepCount c_seenRules w_1 c_wordStart c_number c_failed c_tape_length c_tape_bytes)) (va_runV (As := []) (rest := [])  ⟨hx, hb, hml, hown, hts⟩ (f_X3_skipBlanks l E H.size K (a_ := a_) (a_tape := a_tape) (a_rules := a_rules) (a_places := a_places) (a_steps := a_steps) (a_tape_bytes := a_tape_bytes) (c_siteCount := c_siteCount) (c_stepCount := c_stepCount) (c_seenRules := c_seenRules) (c_at := c_at) (c_wordStart := c_wordStart) (c_number := c_number) (c_failed := c_failed) (c_tape_length := c_tape_length) (c_tape_bytes := c_tape_bytes) hc_2) (cwV 0 hts g_f_X3_readSign_f_X3_skipBlanks_140 rfl rfl rfl hd_X3_skipBlanks ⟨Nat.le_of_ble_eq_true rfl, Nat.le_of_ble_eq_true rfl⟩) ⟨pW.blind, hrc, (pW.pre ⟨hK, hN⟩ hPc hDc)⟩ rfl rfl hl.1 rfl (lv_room (Nat.le_of_ble_eq_true rfl)) (dq_182 0 bcX3_readSign_0 (j := 1) (i := 140) rfl rfl rfl) ⟨Nat.le_of_ble_eq_true rfl, Nat.le_of_ble_eq_true rfl⟩) hS hFc hP hD [0, 1, 2] [] rfl rfl (by decide) (by decide) (fun H locs hP hD hS => ?_)
  have h9 := fixPD (ws' := [k_X3 a_ a_tape a_rules a_places a_steps c_siteCount c_stepCount c_seenRules w_1 c_wordStart c_number c_failed, k_X6 a_tape a_tape_bytes c_tape_length, k_B E a_tape_bytes 320 c_tape_bytes]) hP hD rfl
  clear hP hD
  obtain ⟨hP, hD⟩ := h9
  refine lv_aload_n hx hb (dq_42 0 bcX3_readSign_0 (j := 4) rfl rfl) rfl (lv_at hl 0 rfl) ?_
  refine gt_X3_0 (v := .ref a_tape) hx hb hts i_f_X3_readSign_X3 hown hK hP 0 rfl (hts (.fieldLink RX3 43 "HushWatch$Reader" "tape" "LHushWatch$Tape;") (List.mem_of_getElem? (i := 1) rfl)) rfl (dq_180 0 bcX3_readSign_0 (j := 5) (i := 43) rfl rfl rfl) ?_
  refine lv_aload_n hx hb (dq_42 0 bcX3_readSign_0 (j := 8) rfl rfl) rfl (lv_at hl 0 rfl) ?_
  refine gt_X3_7 (v := .int w_1) hx hb hts i_f_X3_readSign_X3 hown hK hP 0 rfl (hts (.fieldLink RX3 31 "HushWatch$Reader" "at" "I") (List.mem_of_getElem? (i := 2) rfl)) rfl (dq_180 0 bcX3_readSign_0 (j := 9) (i := 31) rfl rfl rfl) ?_
  replace hF := bd1_s hF
  obtain ⟨r_3, hc_4, hF⟩ := hF
  have hPc : va_P E.1 vwCl (w_X6_signAt E a_tape a_tape_bytes c_tape_length c_tape_bytes) H := hP.sub (ws' := [k_X6 a_tape a_tape_bytes c_tape_length, k_B E a_tape_bytes 320 c_tape_bytes]) [1, 2] rfl
  have hrc := va_recv hK hPc (ci := 7) (q0 := 0) rfl rfl
  refine pE_i (va_runV (As := [.int w_1]) (rest := [])  ⟨hx, hb, hml, hown, hts⟩ (f_X6_signAt l E (a_ := a_tape) (a_bytes := a_tape_bytes) (p1 := w_1) (c_length := c_tape_length) (c_bytes := c_tape_bytes) hc_4) (cwV 1 hts g_f_X3_readSign_f_X6_signAt_143 rfl rfl rfl hd_X6_signAt ⟨Nat.le_of_ble_eq_true rfl, Nat.le_of_ble_eq_true rfl⟩) ⟨pP.blind, hrc, (pP.pre ⟨hK, hN⟩ hPc)⟩ rfl rfl hl.1 rfl (lv_room (Nat.le_of_ble_eq_true rfl)) (dq_182 0 bcX3_readSign_0 (j := 12) (i := 143) rfl rfl rfl) ⟨Nat.le_of_ble_eq_true rfl, Nat.le_of_ble_eq_true rfl⟩) ?_
  refine lv_iload_n hx hb (dq_27 0 bcX3_readSign_0 (j := 15) rfl rfl) rfl (lv_at hl 1 rfl) ?_
  refine lv_icmp_eq (tgt := 28) hx hb (dq_159 0 bcX3_readSign_0 (j := 16) (i := 12) rfl rfl rfl) (by decide) (fun c_5 => ?_) (fun c_5 => ?_)
  ·
    replace hF := ip c_5 hF
    refine lv_aload_n hx hb (dq_42 0 bcX3_readSign_0 (j := 28) rfl rfl) rfl (lv_at hl 0 rfl) ?_
    refine lv_dup hx hb (dq_89 0 bcX3_readSign_0 (j := 29) rfl rfl) rfl ?_
    refine gt_X3_7 (v := .int w_1) hx hb hts i_f_X3_readSign_X3 hown hK hP 0 rfl (hts (.fieldLink RX3 31 "HushWatch$Reader" "at" "I") (List.mem_of_getElem? (i := 2) rfl)) rfl (dq_180 0 bcX3_readSign_0 (j := 30) (i := 31) rfl rfl rfl) ?_
    refine lv_iconst (v := 1) hx hb (dq_4 0 bcX3_readSign_0 (j := 33) rfl rfl) (by decide) ?_
    refine lv_iadd hx hb (dq_96 0 bcX3_readSign_0 (j := 34) rfl rfl) ?_
    refine pt_X3_7 (v := .int (w_1 + (1 : Int32))) hx hb hts i_f_X3_readSign_X3 hown hK hP hD hS 0 rfl (hts (.fieldLink RX3 31 "HushWatch$Reader" "at" "I") (List.mem_of_getElem? (i := 2) rfl)) rfl rfl (Nat.le_of_ble_eq_true rfl) (dq_181 0 bcX3_readSign_0 (j := 35) (i := 31) rfl rfl rfl) (fun H locs hP hD hS => ?_)
    have h9 := fixPD (ws' := [k_X3 a_ a_tape a_rules a_places a_steps c_siteCount c_stepCount c_seenRules (w_1 + (1 : Int32)) c_wordStart c_number c_failed, k_X6 a_tape a_tape_bytes c_tape_length, k_B E a_tape_bytes 320 c_tape_bytes]) hP hD rfl
    clear hP hD
    obtain ⟨hP, hD⟩ := h9
    refine lv_iconst (v := 1) hx hb (dq_4 0 bcX3_readSign_0 (j := 38) rfl rfl) (by decide) ?_
    rw [hQ]
    have h9 := fin9 (P := fun u9 : Int32 × Int32 × Int32 => (1 : Int32) = u9.1 ∧ va_P E.1 vwCl (w_X3_readSign E a_ a_tape a_rules a_places a_steps a_tape_bytes c_siteCount c_stepCount c_seenRules u9.2.1 c_wordStart c_number u9.2.2 c_tape_length c_tape_bytes) H ∧ va_D A (w_X3_readSign E a_ a_tape a_rules a_places a_steps a_tape_bytes c_siteCount c_stepCount c_seenRules u9.2.1 c_wordStart c_number u9.2.2 c_tape_length c_tape_bytes)) hF ⟨rfl, hP, hD⟩
    obtain ⟨e9_0, hP9, hD9⟩ := h9
    exact W.zret (v := (1 : Int32)) hx hb hr rfl (fun tt ht hW => ⟨⟨_, (), rfl, ⟨e9_0, Or.inr rfl⟩, ht ▸ hP9, hD9⟩, hS.F ht⟩) hS.2.2 (dq_172 0 bcX3_readSign_0 (j := 39) rfl rfl)
  ·
    replace hF := inn c_5 hF
    refine lv_aload_n hx hb (dq_42 0 bcX3_readSign_0 (j := 19) rfl rfl) rfl (lv_at hl 0 rfl) ?_
    refine lv_aload_n hx hb (dq_42 0 bcX3_readSign_0 (j := 20) rfl rfl) rfl (lv_at hl 0 rfl) ?_
    refine gt_X3_7 (v := .int w_1) hx hb hts i_f_X3_readSign_X3 hown hK hP 0 rfl (hts (.fieldLink RX3 31 "HushWatch$Reader" "at" "I") (List.mem_of_getElem? (i := 2) rfl)) rfl (dq_180 0 bcX3_readSign_0 (j := 21) (i := 31) rfl rfl rfl) ?_
    replace hF := bd2_s hF
    obtain ⟨r_6, w_7, hc_8, hF⟩ := hF
    obtain ⟨hPc, hDc, hFc⟩ := wcut (wc := (w_X3_failAt E a_ a_tape a_rules a_places a_steps c_siteCount c_stepCount c_seenRules w_1 c_wordStart c_number c_failed)) hP hD hS hA [0] (by decide) rfl
    have hrc := va_recv hK hPc (ci := 4) (q0 := 0) rfl rfl
    refine cE_z (wc := (w_X3_failAt E a_ a_tape a_rules a_places a_steps c_siteCount c_stepCount c_seenRules w_1 c_wordStart c_number c_failed)) (wr := [k_X6 a_tape a_tape_bytes c_tape_length, k_B E a_tape_bytes 320 c_tape_bytes]) (w1 := (w_X3_failAt E a_ a_tape a_rules a_places a_steps c_siteCount c_stepCount c_seenRules w_1 c_wordStart c_number w_7)) (va_runV (As := [.int w_1]) (rest := [])  ⟨hx, hb, hml, hown, hts⟩ (f_X3_failAt l E H.size (a_ := a_) (a_tape := a_tape) (a_rules := a_rules) (a_places := a_places) (a_steps := a_steps) (p1 := w_1) (c_siteCount := c_siteCount) (c_stepCount := c_stepCount) (c_seenRules := c_seenRules) (c_at := w_1) (c_wordStart := c_wordStart) (c_number := c_number) (c_failed := c_failed) hc_8) (cwV 1 hts g_f_X3_readSign_f_X3_failAt_87 rfl rfl rfl hd_X3_failAt ⟨Nat.le_of_ble_eq_true rfl, Nat.le_of_ble_eq_true rfl⟩) ⟨pW.blind, hrc, (pW.pre ⟨hK, hN⟩ hPc hDc)⟩ rfl rfl hl.1 rfl (lv_room (Nat.le_of_ble_eq_true rfl)) (dq_182 0 bcX3_readSign_0 (j := 24) (i := 87) rfl rfl rfl) ⟨Nat.le_of_ble_eq_true rfl, Nat.le_of_ble_eq_true rfl⟩) hS hFc hP hD [0] [1, 2] rfl rfl (by decide) (by decide) (fun hb_9 H locs hP hD hS => ?_)
    have h9 := fixPD (ws' := [k_X6 a_tape a_tape_bytes c_tape_length, k_B E a_tape_bytes 320 c_tape_bytes, k_X3 a_ a_tape a_rules a_places a_steps c_siteCount c_stepCount c_seenRules w_1 c_wordStart c_number w_7]) hP hD rfl
    clear hP hD
    obtain ⟨hP, hD⟩ := h9
    rw [hQ]
    have h9 := fin9 (P := fun u9 : Int32 × Int32 × Int32 => r_6 = u9.1 ∧ va_P E.1 vwCl (w_X3_readSign E a_ a_tape a_rules a_places a_steps a_tape_bytes c_siteCount c_stepCount c_seenRules u9.2.1 c_wordStart c_number u9.2.2 c_tape_length c_tape_bytes) H ∧ va_D A (w_X3_readSign E a_ a_tape a_rules a_places a_steps a_tape_bytes c_siteCount c_stepCount c_seenRules u9.2.1 c_wordStart c_number u9.2.2 c_tape_length c_tape_bytes)) hF ⟨rfl, hP.sub [2, 0, 1] rfl, hD.sub [2, 0, 1] (by decide) rfl⟩
    obtain ⟨e9_0, hP9, hD9⟩ := h9
    exact W.zret (v := r_6) hx hb hr (nar_bool hb_9) (fun tt ht hW => ⟨⟨_, (), rfl, ⟨e9_0, hb_9⟩, ht ▸ hP9, hD9⟩, hS.F ht⟩) hS.2.2 (dq_172 0 bcX3_readSign_0 (j := 27) rfl rfl)

def B_X3_readNumber_56 (c_tape_length : Int32) (c_tape_bytes : Nat → Int32) (x5 : Int32) (x6 : Int32) (c_at : Int32) : Option ((Int32 × Int32) ⊕ (Int32 × Int32)) :=
  if c_tape_length ≤ c_at then some (.inr (x6, c_at)) else bd1 (F_X6_signAt c_at c_tape_bytes c_tape_length) (fun r_8 => bd1 (F_X3_isDigit r_8) (fun r_10 => if r_10 = (0 : Int32) then some (.inr (x6, c_at)) else if (7 : Int32) ≤ c_at - x5 then some (.inl (x6, c_at + (1 : Int32))) else bd1 (F_X6_signAt c_at c_tape_bytes c_tape_length) (fun r_15 => some (.inl (((x6 * (10 : Int32)) + r_15) - (48 : Int32), c_at + (1 : Int32))))))
def J_X3_readNumber_157 (p1 : Int32) (p2 : Int32) (k0 : Int32) (x3 : Int32) (x7 : Int32) (c_at : Int32) (c_failed : Int32) : Option (Int32 × Int32 × Int32 × Int32) :=
  if x7 < (1 : Int32) then bd2 (F_X3_failAt x3 c_failed) (fun r_22 w_23 => some (r_22, c_at, k0, w_23)) else if (7 : Int32) < x7 then bd2 (F_X3_failAt x3 c_failed) (fun r_27 w_28 => some (r_27, c_at, k0, w_28)) else if k0 < p1 then bd2 (F_X3_failAt x3 c_failed) (fun r_32 w_33 => some (r_32, c_at, k0, w_33)) else if k0 ≤ p2 then some ((1 : Int32), c_at, k0, c_failed) else bd2 (F_X3_failAt x3 c_failed) (fun r_37 w_38 => some (r_37, c_at, k0, w_38))
def J_X3_readNumber_134 (p1 : Int32) (p2 : Int32) (x3 : Int32) (x4 : Int32) (x5 : Int32) (x6 : Int32) (c_at : Int32) (c_failed : Int32) : Option (Int32 × Int32 × Int32 × Int32) :=
  if x4 = (0 : Int32) then J_X3_readNumber_157 p1 p2 x6 x3 (c_at - x5) c_at c_failed else J_X3_readNumber_157 p1 p2 (-x6) x3 (c_at - x5) c_at c_failed
def J_X3_readNumber_47 (K : Nat) (p1 : Int32) (p2 : Int32) (c_tape_length : Int32) (c_tape_bytes : Nat → Int32) (x3 : Int32) (x4 : Int32) (c_at : Int32) (c_failed : Int32) : Option (Int32 × Int32 × Int32 × Int32) :=
  bd2 (lpF (fun u9 : Int32 × Int32 => B_X3_readNumber_56 c_tape_length c_tape_bytes c_at u9.1 u9.2) K ((0 : Int32), c_at)) (fun x6_17 c_at_18 => J_X3_readNumber_134 p1 p2 x3 x4 c_at x6_17 c_at_18 c_failed)
def J_X3_readNumber_30 (K : Nat) (p1 : Int32) (p2 : Int32) (c_tape_length : Int32) (c_tape_bytes : Nat → Int32) (k0 : Int32) (x3 : Int32) (c_at : Int32) (c_failed : Int32) : Option (Int32 × Int32 × Int32 × Int32) :=
  if k0 = (0 : Int32) then J_X3_readNumber_47 K p1 p2 c_tape_length c_tape_bytes x3 k0 c_at c_failed else J_X3_readNumber_47 K p1 p2 c_tape_length c_tape_bytes x3 k0 (c_at + (1 : Int32)) c_failed
def F_X3_readNumber (K : Nat) (p1 : Int32) (p2 : Int32) (c_tape_bytes : Nat → Int32) (c_tape_length : Int32) (c_at : Int32) (c_number : Int32) (c_failed : Int32) : Option (Int32 × Int32 × Int32 × Int32) :=
  bd1 (F_X3_skipBlanks K c_tape_bytes c_tape_length c_at) (fun w_1 => bd1 (F_X6_signAt w_1 c_tape_bytes c_tape_length) (fun r_3 => if r_3 = (45 : Int32) then J_X3_readNumber_30 K p1 p2 c_tape_length c_tape_bytes (1 : Int32) w_1 w_1 c_failed else J_X3_readNumber_30 K p1 p2 c_tape_length c_tape_bytes (0 : Int32) w_1 w_1 c_failed))
abbrev w_X3_readNumber (E : EE) (a_ a_tape a_rules a_places a_steps a_tape_bytes : Nat) (c_siteCount : Int32) (c_stepCount : Int32) (c_seenRules : Int32) (c_at : Int32) (c_wordStart : Int32) (c_number : Int32) (c_failed : Int32) (c_tape_length : Int32) (c_tape_bytes : Nat → Int32) : va_W := [k_X3 a_ a_tape a_rules a_places a_steps c_siteCount c_stepCount c_seenRules c_at c_wordStart c_number c_failed, k_X6 a_tape a_tape_bytes c_tape_length, k_B E a_tape_bytes 320 c_tape_bytes]
def v_f_X3_readNumber : List Cond := List.cons (.code yX3_readNumber cX3_readNumber 8 (some .boolean)) (HAppend.hAppend (α := List Cond) (β := List Cond) (γ := List Cond) [.fieldLink RX3 31 "HushWatch$Reader" "at" "I", .fieldLink RX3 43 "HushWatch$Reader" "tape" "LHushWatch$Tape;", .fieldLink RX3 37 "HushWatch$Reader" "number" "I", .methodLink RX3 140 yX3_skipBlanks, .instanceMethod yX3_skipBlanks, .selects RX3 yX3_skipBlanks yX3_skipBlanks, .initialized RX3, .methodLink RX3 143 yX6_signAt, .instanceMethod yX6_signAt, .selects RX6 yX6_signAt yX6_signAt, .initialized RX6, .methodLink RX3 158 yX3_isDigit, .static yX3_isDigit, .methodLink RX3 87 yX3_failAt, .instanceMethod yX3_failAt, .selects RX3 yX3_failAt yX3_failAt] (HAppend.hAppend (α := List Cond) (β := List Cond) (γ := List Cond) v_f_X3_skipBlanks (HAppend.hAppend (α := List Cond) (β := List Cond) (γ := List Cond) wsX30 (HAppend.hAppend (α := List Cond) (β := List Cond) (γ := List Cond) v_f_X6_signAt (HAppend.hAppend (α := List Cond) (β := List Cond) (γ := List Cond) wsX60 (HAppend.hAppend (α := List Cond) (β := List Cond) (γ := List Cond) v_f_X3_isDigit (HAppend.hAppend (α := List Cond) (β := List Cond) (γ := List Cond) v_f_X3_failAt [])))))))
theorem gw_f_X3_readNumber : v_f_X3_readNumber.all goodWord = true := gw_c2 (by decide +kernel) (gw_ap gw_f_X3_skipBlanks (gw_ap gw_wsX30 (gw_ap gw_f_X6_signAt (gw_ap gw_wsX60 (gw_ap gw_f_X3_isDigit (gw_ap gw_f_X3_failAt gw_nil))))))
theorem i_f_X3_readNumber_X3 : ∀ w ∈ wsX30, w ∈ v_f_X3_readNumber := fun _ h => List.mem_cons_of_mem _ (List.mem_append_right _ (List.mem_append_right _ (List.mem_append_left _ h)))
theorem i_f_X3_readNumber_X6 : ∀ w ∈ wsX60, w ∈ v_f_X3_readNumber := fun _ h => List.mem_cons_of_mem _ (List.mem_append_right _ (List.mem_append_right _ (List.mem_append_right _ (List.mem_append_right _ (List.mem_append_left _ h)))))
theorem g_f_X3_readNumber_f_X3_skipBlanks_140 : GoodIn v_f_X3_readNumber (wsV RX3 140 RX3 yX3_skipBlanks v_f_X3_skipBlanks) := goodIn_in gw_f_X3_readNumber (in4 4 5 6 7 rfl rfl rfl rfl (fun _ h => List.mem_cons_of_mem _ (List.mem_append_right _ (List.mem_append_left _ h))))
theorem g_f_X3_readNumber_f_X6_signAt_143 : GoodIn v_f_X3_readNumber (wsV RX3 143 RX6 yX6_signAt v_f_X6_signAt) := goodIn_in gw_f_X3_readNumber (in4 8 9 10 11 rfl rfl rfl rfl (fun _ h => List.mem_cons_of_mem _ (List.mem_append_right _ (List.mem_append_right _ (List.mem_append_right _ (List.mem_append_left _ h))))))
theorem g_f_X3_readNumber_f_X3_isDigit_158 : GoodIn v_f_X3_readNumber (va_wsS RX3 158 yX3_isDigit v_f_X3_isDigit) := goodIn_in gw_f_X3_readNumber (in3 12 13 7 rfl rfl rfl (fun _ h => List.mem_cons_of_mem _ (List.mem_append_right _ (List.mem_append_right _ (List.mem_append_right _ (List.mem_append_right _ (List.mem_append_right _ (List.mem_append_left _ h))))))))
theorem g_f_X3_readNumber_f_X3_failAt_87 : GoodIn v_f_X3_readNumber (wsV RX3 87 RX3 yX3_failAt v_f_X3_failAt) := goodIn_in gw_f_X3_readNumber (in4 14 15 16 7 rfl rfl rfl rfl (fun _ h => List.mem_cons_of_mem _ (List.mem_append_right _ (List.mem_append_right _ (List.mem_append_right _ (List.mem_append_right _ (List.mem_append_right _ (List.mem_append_right _ (List.mem_append_left _ h)))))))))
theorem hd_X3_readNumber : yX3_readNumber.cls = RX3 ∧ yX3_readNumber.cls ≠ "java/lang/invoke/MethodHandle" ∧ yX3_readNumber.cls ≠ "java/lang/invoke/VarHandle" ∧ (parseMethodDescriptor yX3_readNumber.desc).map (fun d => d.parameters.length) = some 2 := by decide +kernel
set_option maxHeartbeats 4000000 in
set_option maxRecDepth 100000 in
theorem wb_X3_readNumber_56 {p : Program} (l : Launch) {e : Env} {s : State} {m : MethodId} {below : List Frame} {meth : Method} {c : Code} {Q : State → Prop} (E : EE) (K : Nat) {a_ a_tape a_rules a_places a_steps a_tape_bytes : Nat} {p1 : Int32} {p2 : Int32} {c_siteCount : Int32} {c_stepCount : Int32} {c_seenRules : Int32} {c_wordStart : Int32} {c_tape_length : Int32} {c_tape_bytes : Nat → Int32} {x3 : Int32} {x4 : Int32} {x5 : Int32} {x6 : Int32} {c_at : Int32} {c_number : Int32} {c_failed : Int32} (hx : p.tables.exec = Jvm.exec) (hb : c.code = cX3_readNumber) (hml : c.maxLocals = 8) (hown : s.vm.findClass RX3 = some m.cls) (hts : ∀ w ∈ v_f_X3_readNumber, w.before #[Value.ref a_, Value.int p1, Value.int p2] s = true) (hK : va_K E.1 vwCl (TY E) s) (hN : NX s) {A : Nat → Prop} (hA : ∀ q : Nat, s.heap.size ≤ q → A q) {xx : (Int32 × Int32) ⊕ (Int32 × Int32)} (hC : ∀ (x6 : Int32), ∀ (c_at : Int32), xx = .inl (x6, c_at) → ∀ (H : Heap) (locs : List Loc) (ls : Array Slot), va_P E.1 vwCl (w_X3_readNumber E a_ a_tape a_rules a_places a_steps a_tape_bytes c_siteCount c_stepCount c_seenRules c_at c_wordStart c_number c_failed c_tape_length c_tape_bytes) H → va_D A (w_X3_readNumber E a_ a_tape a_rules a_places a_steps a_tape_bytes c_siteCount c_stepCount c_seenRules c_at c_wordStart c_number c_failed c_tape_length c_tape_bytes) → va_S A s.heap H locs → lv_has ls 8 [(0, .ref a_), (1, .int p1), (2, .int p2), (3, .int x3), (4, .int x4), (5, .int x5), (6, .int x6)] → W p l e ({ frames := 2, cells := 0, slots := 0, locals := 41 } : Room) s m #[Value.ref a_, Value.int p1, Value.int p2] below meth c H locs 0 0 Q (F0 m 56 ls [])) (hE : ∀ (x6 : Int32), ∀ (c_at : Int32), xx = .inr (x6, c_at) → ((∀ (H : Heap) (locs : List Loc) (ls : Array Slot), va_P E.1 vwCl (w_X3_readNumber E a_ a_tape a_rules a_places a_steps a_tape_bytes c_siteCount c_stepCount c_seenRules c_at c_wordStart c_number c_failed c_tape_length c_tape_bytes) H → va_D A (w_X3_readNumber E a_ a_tape a_rules a_places a_steps a_tape_bytes c_siteCount c_stepCount c_seenRules c_at c_wordStart c_number c_failed c_tape_length c_tape_bytes) → va_S A s.heap H locs → lv_has ls 8 [(0, .ref a_), (1, .int p1), (2, .int p2), (3, .int x3), (4, .int x4), (5, .int x5), (6, .int x6)] → W p l e ({ frames := 2, cells := 0, slots := 0, locals := 41 } : Room) s m #[Value.ref a_, Value.int p1, Value.int p2] below meth c H locs 0 0 Q (F0 m 134 ls [])))) (hF : B_X3_readNumber_56 c_tape_length c_tape_bytes x5 x6 c_at = some xx) : ∀ (H : Heap) (locs : List Loc) (ls : Array Slot), va_P E.1 vwCl (w_X3_readNumber E a_ a_tape a_rules a_places a_steps a_tape_bytes c_siteCount c_stepCount c_seenRules c_at c_wordStart c_number c_failed c_tape_length c_tape_bytes) H → va_D A (w_X3_readNumber E a_ a_tape a_rules a_places a_steps a_tape_bytes c_siteCount c_stepCount c_seenRules c_at c_wordStart c_number c_failed c_tape_length c_tape_bytes) → va_S A s.heap H locs → lv_has ls 8 [(0, .ref a_), (1, .int p1), (2, .int p2), (3, .int x3), (4, .int x4), (5, .int x5), (6, .int x6)] → W p l e ({ frames := 2, cells := 0, slots := 0, locals := 41 } : Room) s m #[Value.ref a_, Value.int p1, Value.int p2] below meth c H locs 0 0 Q (F0 m 56 ls []) := by
  unfold B_X3_readNumber_56 at hF
  intro H locs ls hP hD hS hl
  have h9 := fixPD (ws' := [k_X3 a_ a_tape a_rules a_places a_steps c_siteCount c_stepCount c_seenRules c_at c_wordStart c_number c_failed, k_X6 a_tape a_tape_bytes c_tape_length, k_B E a_tape_bytes 320 c_tape_bytes]) hP hD rfl
  clear hP hD
  obtain ⟨hP, hD⟩ := h9
  refine lv_aload_n hx hb (dq_42 48 bcX3_readNumber_1 (j := 8) rfl rfl) rfl (lv_at hl 0 rfl) ?_
  refine gt_X3_7 (v := .int c_at) hx hb hts i_f_X3_readNumber_X3 hown hK hP 0 rfl (hts (.fieldLink RX3 31 "HushWatch$Reader" "at" "I") (List.mem_of_getElem? (i := 1) rfl)) rfl (dq_180 48 bcX3_readNumber_1 (j := 9) (i := 31) rfl rfl rfl) ?_
  refine lv_aload_n hx hb (dq_42 48 bcX3_readNumber_1 (j := 12) rfl rfl) rfl (lv_at hl 0 rfl) ?_
  refine gt_X3_0 (v := .ref a_tape) hx hb hts i_f_X3_readNumber_X3 hown hK hP 0 rfl (hts (.fieldLink RX3 43 "HushWatch$Reader" "tape" "LHushWatch$Tape;") (List.mem_of_getElem? (i := 2) rfl)) rfl (dq_180 48 bcX3_readNumber_1 (j := 13) (i := 43) rfl rfl rfl) ?_
  refine va_getN (D := E.1) (ci := 7) (v := .int c_tape_length) (C := RX6) (T := TX6) (N := 2) hx hb hts i_f_X3_readNumber_X6 hown hK hP 1 rfl rfl 1 (by decide) (nx hN 2 rfl) (fun _ h9 => h9) rfl (dq_180 48 bcX3_readNumber_1 (j := 16) (i := 59) rfl rfl rfl) ?_
  refine lv_icmp_ge (tgt := 134) hx hb (dq_162 48 bcX3_readNumber_1 (j := 19) (i := 67) rfl rfl rfl) (by decide) (fun c_7 => ?_) (fun c_7 => ?_)
  ·
    replace hF := ip c_7 hF
    cases hF
    exact hE x6 c_at rfl H locs ls (hP.sub [0, 1, 2] rfl) (hD.sub [0, 1, 2] (by decide) rfl) hS (lv_sub hl [0, 1, 2, 3, 4, 5, 6] rfl)
  ·
    replace hF := inn c_7 hF
    refine lv_aload_n hx hb (dq_42 48 bcX3_readNumber_1 (j := 22) rfl rfl) rfl (lv_at hl 0 rfl) ?_
    refine gt_X3_0 (v := .ref a_tape) hx hb hts i_f_X3_readNumber_X3 hown hK hP 0 rfl (hts (.fieldLink RX3 43 "HushWatch$Reader" "tape" "LHushWatch$Tape;") (List.mem_of_getElem? (i := 2) rfl)) rfl (dq_180 48 bcX3_readNumber_1 (j := 23) (i := 43) rfl rfl rfl) ?_
    refine lv_aload_n hx hb (dq_42 48 bcX3_readNumber_1 (j := 26) rfl rfl) rfl (lv_at hl 0 rfl) ?_
    refine gt_X3_7 (v := .int c_at) hx hb hts i_f_X3_readNumber_X3 hown hK hP 0 rfl (hts (.fieldLink RX3 31 "HushWatch$Reader" "at" "I") (List.mem_of_getElem? (i := 1) rfl)) rfl (dq_180 48 bcX3_readNumber_1 (j := 27) (i := 31) rfl rfl rfl) ?_
    replace hF := bd1_s hF
    obtain ⟨r_8, hc_9, hF⟩ := hF
    have hPc : va_P E.1 vwCl (w_X6_signAt E a_tape a_tape_bytes c_tape_length c_tape_bytes) H := hP.sub (ws' := [k_X6 a_tape a_tape_bytes c_tape_length, k_B E a_tape_bytes 320 c_tape_bytes]) [1, 2] rfl
    have hrc := va_recv hK hPc (ci := 7) (q0 := 0) rfl rfl
    refine pE_i (va_runV (As := [.int c_at]) (rest := [])  ⟨hx, hb, hml, hown, hts⟩ (f_X6_signAt l E (a_ := a_tape) (a_bytes := a_tape_bytes) (p1 := c_at) (c_length := c_tape_length) (c_bytes := c_tape_bytes) hc_9) (cwV 1 hts g_f_X3_readNumber_f_X6_signAt_143 rfl rfl rfl hd_X6_signAt ⟨Nat.le_of_ble_eq_true rfl, Nat.le_of_ble_eq_true rfl⟩) ⟨pP.blind, hrc, (pP.pre ⟨hK, hN⟩ hPc)⟩ rfl rfl hl.1 rfl (lv_room (Nat.le_of_ble_eq_true rfl)) (dq_182 48 bcX3_readNumber_1 (j := 30) (i := 143) rfl rfl rfl) ⟨Nat.le_of_ble_eq_true rfl, Nat.le_of_ble_eq_true rfl⟩) ?_
    replace hF := bd1_s hF
    obtain ⟨r_10, hc_11, hF⟩ := hF
    have hPc : va_P E.1 vwCl [] H := fun k q h => by simp at h
    refine pE_z (va_runS (As := [.int r_8]) (rest := [])  ⟨hx, hb, hml, hown, hts⟩ (f_X3_isDigit l E (p0 := r_8) hc_11) (va_cwS 1 hts g_f_X3_readNumber_f_X3_isDigit_158 rfl rfl rfl hd_X3_isDigit.2 ⟨Nat.le_of_ble_eq_true rfl, Nat.le_of_ble_eq_true rfl⟩) ⟨pP.blind, (pP.pre ⟨hK, hN⟩ hPc)⟩ rfl rfl hl.1 rfl (lv_room (Nat.le_of_ble_eq_true rfl)) (dq_184 48 bcX3_readNumber_1 (j := 33) (i := 158) rfl rfl rfl) ⟨Nat.le_of_ble_eq_true rfl, Nat.le_of_ble_eq_true rfl⟩) (fun hb_12 => ?_)
    refine lv_if_eq (tgt := 134) hx hb (dq_153 48 bcX3_readNumber_1 (j := 36) (i := 50) rfl rfl rfl) (by decide) (fun c_13 => ?_) (fun c_13 => ?_)
    ·
      replace hF := ip c_13 hF
      cases hF
      exact hE x6 c_at rfl H locs ls (hP.sub [0, 1, 2] rfl) (hD.sub [0, 1, 2] (by decide) rfl) hS (lv_sub hl [0, 1, 2, 3, 4, 5, 6] rfl)
    ·
      replace hF := inn c_13 hF
      refine lv_aload_n hx hb (dq_42 48 bcX3_readNumber_1 (j := 39) rfl rfl) rfl (lv_at hl 0 rfl) ?_
      refine gt_X3_7 (v := .int c_at) hx hb hts i_f_X3_readNumber_X3 hown hK hP 0 rfl (hts (.fieldLink RX3 31 "HushWatch$Reader" "at" "I") (List.mem_of_getElem? (i := 1) rfl)) rfl (dq_180 48 bcX3_readNumber_1 (j := 40) (i := 31) rfl rfl rfl) ?_
      refine lv_iload hx hb (dq_21 48 bcX3_readNumber_1 (j := 43) (i := 5) rfl rfl) (lv_at hl 5 rfl) ?_
      refine lv_isub hx hb (dq_100 48 bcX3_readNumber_1 (j := 45) rfl rfl) ?_
      refine lv_bipush (v := 7) hx hb (dq_16 48 bcX3_readNumber_1 (j := 46) (i := 7) rfl rfl rfl) (by decide) ?_
      refine lv_icmp_ge (tgt := 121) hx hb (dq_162 96 bcX3_readNumber_2 (j := 0) (i := 25) rfl rfl rfl) (by decide) (fun c_14 => ?_) (fun c_14 => ?_)
      ·
        replace hF := ip c_14 hF
        refine lv_aload_n hx hb (dq_42 96 bcX3_readNumber_2 (j := 25) rfl rfl) rfl (lv_at hl 0 rfl) ?_
        refine lv_dup hx hb (dq_89 96 bcX3_readNumber_2 (j := 26) rfl rfl) rfl ?_
        refine gt_X3_7 (v := .int c_at) hx hb hts i_f_X3_readNumber_X3 hown hK hP 0 rfl (hts (.fieldLink RX3 31 "HushWatch$Reader" "at" "I") (List.mem_of_getElem? (i := 1) rfl)) rfl (dq_180 96 bcX3_readNumber_2 (j := 27) (i := 31) rfl rfl rfl) ?_
        refine lv_iconst (v := 1) hx hb (dq_4 96 bcX3_readNumber_2 (j := 30) rfl rfl) (by decide) ?_
        refine lv_iadd hx hb (dq_96 96 bcX3_readNumber_2 (j := 31) rfl rfl) ?_
        refine pt_X3_7 (v := .int (c_at + (1 : Int32))) hx hb hts i_f_X3_readNumber_X3 hown hK hP hD hS 0 rfl (hts (.fieldLink RX3 31 "HushWatch$Reader" "at" "I") (List.mem_of_getElem? (i := 1) rfl)) rfl rfl (Nat.le_of_ble_eq_true rfl) (dq_181 96 bcX3_readNumber_2 (j := 32) (i := 31) rfl rfl rfl) (fun H locs hP hD hS => ?_)
        have h9 := fixPD (ws' := [k_X3 a_ a_tape a_rules a_places a_steps c_siteCount c_stepCount c_seenRules (c_at + (1 : Int32)) c_wordStart c_number c_failed, k_X6 a_tape a_tape_bytes c_tape_length, k_B E a_tape_bytes 320 c_tape_bytes]) hP hD rfl
        clear hP hD
        obtain ⟨hP, hD⟩ := h9
        refine lv_goto (tgt := 56) hx hb (dq_167 96 bcX3_readNumber_2 (j := 35) (i := -75) rfl rfl rfl) (by decide) ?_
        cases hF
        exact hC x6 (c_at + (1 : Int32)) rfl H locs ls (hP.sub [0, 1, 2] rfl) (hD.sub [0, 1, 2] (by decide) rfl) hS (lv_sub hl [0, 1, 2, 3, 4, 5, 6] rfl)
      ·
        replace hF := inn c_14 hF
        refine lv_iload hx hb (dq_21 96 bcX3_readNumber_2 (j := 3) (i := 6) rfl rfl) (lv_at hl 6 rfl) ?_
        refine lv_bipush (v := 10) hx hb (dq_16 96 bcX3_readNumber_2 (j := 5) (i := 10) rfl rfl rfl) (by decide) ?_
        refine lv_imul hx hb (dq_104 96 bcX3_readNumber_2 (j := 7) rfl rfl) ?_
        refine lv_aload_n hx hb (dq_42 96 bcX3_readNumber_2 (j := 8) rfl rfl) rfl (lv_at hl 0 rfl) ?_
        refine gt_X3_0 (v := .ref a_tape) hx hb hts i_f_X3_readNumber_X3 hown hK hP 0 rfl (hts (.fieldLink RX3 43 "HushWatch$Reader" "tape" "LHushWatch$Tape;") (List.mem_of_getElem? (i := 2) rfl)) rfl (dq_180 96 bcX3_readNumber_2 (j := 9) (i := 43) rfl rfl rfl) ?_
        refine lv_aload_n hx hb (dq_42 96 bcX3_readNumber_2 (j := 12) rfl rfl) rfl (lv_at hl 0 rfl) ?_
        refine gt_X3_7 (v := .int c_at) hx hb hts i_f_X3_readNumber_X3 hown hK hP 0 rfl (hts (.fieldLink RX3 31 "HushWatch$Reader" "at" "I") (List.mem_of_getElem? (i := 1) rfl)) rfl (dq_180 96 bcX3_readNumber_2 (j := 13) (i := 31) rfl rfl rfl) ?_
        replace hF := bd1_s hF
        obtain ⟨r_15, hc_16, hF⟩ := hF
        have hPc : va_P E.1 vwCl (w_X6_signAt E a_tape a_tape_bytes c_tape_length c_tape_bytes) H := hP.sub (ws' := [k_X6 a_tape a_tape_bytes c_tape_length, k_B E a_tape_bytes 320 c_tape_bytes]) [1, 2] rfl
        have hrc := va_recv hK hPc (ci := 7) (q0 := 0) rfl rfl
        refine pE_i (va_runV (As := [.int c_at]) (rest := [.int (x6 * (10 : Int32))])  ⟨hx, hb, hml, hown, hts⟩ (f_X6_signAt l E (a_ := a_tape) (a_bytes := a_tape_bytes) (p1 := c_at) (c_length := c_tape_length) (c_bytes := c_tape_bytes) hc_16) (cwV 1 hts g_f_X3_readNumber_f_X6_signAt_143 rfl rfl rfl hd_X6_signAt ⟨Nat.le_of_ble_eq_true rfl, Nat.le_of_ble_eq_true rfl⟩) ⟨pP.blind, hrc, (pP.pre ⟨hK, hN⟩ hPc)⟩ rfl rfl hl.1 rfl (lv_room (Nat.le_of_ble_eq_true rfl)) (dq_182 96 bcX3_readNumber_2 (j := 16) (i := 143) rfl rfl rfl) ⟨Nat.le_of_ble_eq_true rfl, Nat.le_of_ble_eq_true rfl⟩) ?_
        refine lv_iadd hx hb (dq_96 96 bcX3_readNumber_2 (j := 19) rfl rfl) ?_
        refine lv_bipush (v := 48) hx hb (dq_16 96 bcX3_readNumber_2 (j := 20) (i := 48) rfl rfl rfl) (by decide) ?_
        refine lv_isub hx hb (dq_100 96 bcX3_readNumber_2 (j := 22) rfl rfl) ?_
        refine lv_istore (lv' := [(6, .int (((x6 * (10 : Int32)) + r_15) - (48 : Int32))), (0, .ref a_), (1, .int p1), (2, .int p2), (3, .int x3), (4, .int x4), (5, .int x5)]) hx hb (dq_54 96 bcX3_readNumber_2 (j := 23) (i := 6) rfl rfl) hl (by decide) rfl (fun ls hl => ?_)
        refine lv_aload_n hx hb (dq_42 96 bcX3_readNumber_2 (j := 25) rfl rfl) rfl (lv_at hl 1 rfl) ?_
        refine lv_dup hx hb (dq_89 96 bcX3_readNumber_2 (j := 26) rfl rfl) rfl ?_
        refine gt_X3_7 (v := .int c_at) hx hb hts i_f_X3_readNumber_X3 hown hK hP 0 rfl (hts (.fieldLink RX3 31 "HushWatch$Reader" "at" "I") (List.mem_of_getElem? (i := 1) rfl)) rfl (dq_180 96 bcX3_readNumber_2 (j := 27) (i := 31) rfl rfl rfl) ?_
        refine lv_iconst (v := 1) hx hb (dq_4 96 bcX3_readNumber_2 (j := 30) rfl rfl) (by decide) ?_
        refine lv_iadd hx hb (dq_96 96 bcX3_readNumber_2 (j := 31) rfl rfl) ?_
        refine pt_X3_7 (v := .int (c_at + (1 : Int32))) hx hb hts i_f_X3_readNumber_X3 hown hK hP hD hS 0 rfl (hts (.fieldLink RX3 31 "HushWatch$Reader" "at" "I") (List.mem_of_getElem? (i := 1) rfl)) rfl rfl (Nat.le_of_ble_eq_true rfl) (dq_181 96 bcX3_readNumber_2 (j := 32) (i := 31) rfl rfl rfl) (fun H locs hP hD hS => ?_)
        have h9 := fixPD (ws' := [k_X3 a_ a_tape a_rules a_places a_steps c_siteCount c_stepCount c_seenRules (c_at + (1 : Int32)) c_wordStart c_number c_failed, k_X6 a_tape a_tape_bytes c_tape_length, k_B E a_tape_bytes 320 c_tape_bytes]) hP hD rfl
        clear hP hD
        obtain ⟨hP, hD⟩ := h9
        refine lv_goto (tgt := 56) hx hb (dq_167 96 bcX3_readNumber_2 (j := 35) (i := -75) rfl rfl rfl) (by decide) ?_
        cases hF
        exact hC (((x6 * (10 : Int32)) + r_15) - (48 : Int32)) (c_at + (1 : Int32)) rfl H locs ls (hP.sub [0, 1, 2] rfl) (hD.sub [0, 1, 2] (by decide) rfl) hS (lv_sub hl [1, 2, 3, 4, 5, 6, 0] rfl)

set_option maxHeartbeats 4000000 in
set_option maxRecDepth 100000 in
theorem lw_X3_readNumber_56 {p : Program} (l : Launch) {e : Env} {s : State} {m : MethodId} {below : List Frame} {meth : Method} {c : Code} {Q : State → Prop} (E : EE) (K : Nat) {a_ a_tape a_rules a_places a_steps a_tape_bytes : Nat} {p1 : Int32} {p2 : Int32} {c_siteCount : Int32} {c_stepCount : Int32} {c_seenRules : Int32} {c_wordStart : Int32} {c_tape_length : Int32} {c_tape_bytes : Nat → Int32} {x3 : Int32} {x4 : Int32} {x5 : Int32} {c_number : Int32} {c_failed : Int32} (hx : p.tables.exec = Jvm.exec) (hb : c.code = cX3_readNumber) (hml : c.maxLocals = 8) (hown : s.vm.findClass RX3 = some m.cls) (hts : ∀ w ∈ v_f_X3_readNumber, w.before #[Value.ref a_, Value.int p1, Value.int p2] s = true) (hK : va_K E.1 vwCl (TY E) s) (hN : NX s) {A : Nat → Prop} (hA : ∀ q : Nat, s.heap.size ≤ q → A q) (j9 : Nat) (x6 : Int32) (c_at : Int32) (x6' : Int32) (c_at' : Int32) (hL : lpF (fun u9 : Int32 × Int32 => B_X3_readNumber_56 c_tape_length c_tape_bytes x5 u9.1 u9.2) j9 (x6, c_at) = some (x6', c_at')) (hX : (∀ (H : Heap) (locs : List Loc) (ls : Array Slot), va_P E.1 vwCl (w_X3_readNumber E a_ a_tape a_rules a_places a_steps a_tape_bytes c_siteCount c_stepCount c_seenRules c_at' c_wordStart c_number c_failed c_tape_length c_tape_bytes) H → va_D A (w_X3_readNumber E a_ a_tape a_rules a_places a_steps a_tape_bytes c_siteCount c_stepCount c_seenRules c_at' c_wordStart c_number c_failed c_tape_length c_tape_bytes) → va_S A s.heap H locs → lv_has ls 8 [(0, .ref a_), (1, .int p1), (2, .int p2), (3, .int x3), (4, .int x4), (5, .int x5), (6, .int x6')] → W p l e ({ frames := 2, cells := 0, slots := 0, locals := 41 } : Room) s m #[Value.ref a_, Value.int p1, Value.int p2] below meth c H locs 0 0 Q (F0 m 134 ls []))) : ∀ (H : Heap) (locs : List Loc) (ls : Array Slot), va_P E.1 vwCl (w_X3_readNumber E a_ a_tape a_rules a_places a_steps a_tape_bytes c_siteCount c_stepCount c_seenRules c_at c_wordStart c_number c_failed c_tape_length c_tape_bytes) H → va_D A (w_X3_readNumber E a_ a_tape a_rules a_places a_steps a_tape_bytes c_siteCount c_stepCount c_seenRules c_at c_wordStart c_number c_failed c_tape_length c_tape_bytes) → va_S A s.heap H locs → lv_has ls 8 [(0, .ref a_), (1, .int p1), (2, .int p2), (3, .int x3), (4, .int x4), (5, .int x5), (6, .int x6)] → W p l e ({ frames := 2, cells := 0, slots := 0, locals := 41 } : Room) s m #[Value.ref a_, Value.int p1, Value.int p2] below meth c H locs 0 0 Q (F0 m 56 ls []) := by
  exact lp_rule (P := (fun u9 : Int32 × Int32 => ∀ (H : Heap) (locs : List Loc) (ls : Array Slot), va_P E.1 vwCl (w_X3_readNumber E a_ a_tape a_rules a_places a_steps a_tape_bytes c_siteCount c_stepCount c_seenRules u9.2 c_wordStart c_number c_failed c_tape_length c_tape_bytes) H → va_D A (w_X3_readNumber E a_ a_tape a_rules a_places a_steps a_tape_bytes c_siteCount c_stepCount c_seenRules u9.2 c_wordStart c_number c_failed c_tape_length c_tape_bytes) → va_S A s.heap H locs → lv_has ls 8 [(0, .ref a_), (1, .int p1), (2, .int p2), (3, .int x3), (4, .int x4), (5, .int x5), (6, .int u9.1)] → W p l e ({ frames := 2, cells := 0, slots := 0, locals := 41 } : Room) s m #[Value.ref a_, Value.int p1, Value.int p2] below meth c H locs 0 0 Q (F0 m 56 ls []))) (R := (fun r9 : Int32 × Int32 => (∀ (H : Heap) (locs : List Loc) (ls : Array Slot), va_P E.1 vwCl (w_X3_readNumber E a_ a_tape a_rules a_places a_steps a_tape_bytes c_siteCount c_stepCount c_seenRules r9.2 c_wordStart c_number c_failed c_tape_length c_tape_bytes) H → va_D A (w_X3_readNumber E a_ a_tape a_rules a_places a_steps a_tape_bytes c_siteCount c_stepCount c_seenRules r9.2 c_wordStart c_number c_failed c_tape_length c_tape_bytes) → va_S A s.heap H locs → lv_has ls 8 [(0, .ref a_), (1, .int p1), (2, .int p2), (3, .int x3), (4, .int x4), (5, .int x5), (6, .int r9.1)] → W p l e ({ frames := 2, cells := 0, slots := 0, locals := 41 } : Room) s m #[Value.ref a_, Value.int p1, Value.int p2] below meth c H locs 0 0 Q (F0 m 134 ls [])))) (fun u9 xx hF hC hE => wb_X3_readNumber_56 l E K (p1 := p1) (p2 := p2) (c_siteCount := c_siteCount) (c_stepCount := c_stepCount) (c_seenRules := c_seenRules) (c_wordStart := c_wordStart) (c_tape_length := c_tape_length) (c_tape_bytes := c_tape_bytes) (x3 := x3) (x4 := x4) (x5 := x5) (x6 := u9.1) (c_at := u9.2) (c_number := c_number) (c_failed := c_failed) hx hb hml hown hts hK hN hA (fun x6 c_at q9 => hC _ q9) (fun x6 c_at q9 => hE _ q9) hF) j9 (x6, c_at) (x6', c_at') hL hX

set_option maxHeartbeats 4000000 in
set_option maxRecDepth 100000 in
theorem j_X3_readNumber_157 {p : Program} (l : Launch) {e : Env} {s : State} {m : MethodId} {below : List Frame} {meth : Method} {c : Code} {Q : State → Prop} (E : EE) (K : Nat) {a_ a_tape a_rules a_places a_steps a_tape_bytes : Nat} {p1 : Int32} {p2 : Int32} {c_siteCount : Int32} {c_stepCount : Int32} {c_seenRules : Int32} {c_wordStart : Int32} {c_tape_length : Int32} {c_tape_bytes : Nat → Int32} {k0 : Int32} {x3 : Int32} {x7 : Int32} {c_at : Int32} {c_number : Int32} {c_failed : Int32} (hx : p.tables.exec = Jvm.exec) (hb : c.code = cX3_readNumber) (hml : c.maxLocals = 8) (hown : s.vm.findClass RX3 = some m.cls) (hts : ∀ w ∈ v_f_X3_readNumber, w.before #[Value.ref a_, Value.int p1, Value.int p2] s = true) (hK : va_K E.1 vwCl (TY E) s) (hN : NX s) {A : Nat → Prop} (hA : ∀ q : Nat, s.heap.size ≤ q → A q) {rr : Int32} {n_at : Int32} {n_number : Int32} {n_failed : Int32} (hr : meth.sig.returnType = (some .boolean)) (hlocks : meth.locks = false) (hQ : Q = MQ below (va_Qi (fun (q : Int32) (_u : Unit) => q = rr ∧ (q = 0 ∨ q = 1)) (fun (_u : Unit) tt => va_P E.1 vwCl (w_X3_readNumber E a_ a_tape a_rules a_places a_steps a_tape_bytes c_siteCount c_stepCount c_seenRules n_at c_wordStart n_number n_failed c_tape_length c_tape_bytes) tt.heap ∧ va_D A (w_X3_readNumber E a_ a_tape a_rules a_places a_steps a_tape_bytes c_siteCount c_stepCount c_seenRules n_at c_wordStart n_number n_failed c_tape_length c_tape_bytes)) A) #[Value.ref a_, Value.int p1, Value.int p2] s 0 0 A) (hF : J_X3_readNumber_157 p1 p2 k0 x3 x7 c_at c_failed = some (rr, n_at, n_number, n_failed)) : ∀ (H : Heap) (locs : List Loc) (ls : Array Slot), va_P E.1 vwCl (w_X3_readNumber E a_ a_tape a_rules a_places a_steps a_tape_bytes c_siteCount c_stepCount c_seenRules c_at c_wordStart c_number c_failed c_tape_length c_tape_bytes) H → va_D A (w_X3_readNumber E a_ a_tape a_rules a_places a_steps a_tape_bytes c_siteCount c_stepCount c_seenRules c_at c_wordStart c_number c_failed c_tape_length c_tape_bytes) → va_S A s.heap H locs → lv_has ls 8 [(0, .ref a_), (1, .int p1), (2, .int p2), (3, .int x3), (7, .int x7)] → W p l e ({ frames := 2, cells := 0, slots := 0, locals := 41 } : Room) s m #[Value.ref a_, Value.int p1, Value.int p2] below meth c H locs 0 0 Q (F0 m 157 ls [.int k0, .ref a_]) := by
  unfold J_X3_readNumber_157 at hF
  intro H locs ls hP hD hS hl
  have h9 := fixPD (ws' := [k_X3 a_ a_tape a_rules a_places a_steps c_siteCount c_stepCount c_seenRules c_at c_wordStart c_number c_failed, k_X6 a_tape a_tape_bytes c_tape_length, k_B E a_tape_bytes 320 c_tape_bytes]) hP hD rfl
  clear hP hD
  obtain ⟨hP, hD⟩ := h9
  refine pt_X3_9 (v := .int k0) hx hb hts i_f_X3_readNumber_X3 hown hK hP hD hS 0 rfl (hts (.fieldLink RX3 37 "HushWatch$Reader" "number" "I") (List.mem_of_getElem? (i := 3) rfl)) rfl rfl (Nat.le_of_ble_eq_true rfl) (dq_181 144 bcX3_readNumber_3 (j := 13) (i := 37) rfl rfl rfl) (fun H locs hP hD hS => ?_)
  have h9 := fixPD (ws' := [k_X3 a_ a_tape a_rules a_places a_steps c_siteCount c_stepCount c_seenRules c_at c_wordStart k0 c_failed, k_X6 a_tape a_tape_bytes c_tape_length, k_B E a_tape_bytes 320 c_tape_bytes]) hP hD rfl
  clear hP hD
  obtain ⟨hP, hD⟩ := h9
  refine lv_iload hx hb (dq_21 144 bcX3_readNumber_3 (j := 16) (i := 7) rfl rfl) (lv_at hl 4 rfl) ?_
  refine lv_iconst (v := 1) hx hb (dq_4 144 bcX3_readNumber_3 (j := 18) rfl rfl) (by decide) ?_
  refine lv_icmp_lt (tgt := 189) hx hb (dq_161 144 bcX3_readNumber_3 (j := 19) (i := 26) rfl rfl rfl) (by decide) (fun c_21 => ?_) (fun c_21 => ?_)
  ·
    replace hF := ip c_21 hF
    refine lv_aload_n hx hb (dq_42 144 bcX3_readNumber_3 (j := 45) rfl rfl) rfl (lv_at hl 0 rfl) ?_
    refine lv_iload_n hx hb (dq_29 144 bcX3_readNumber_3 (j := 46) rfl rfl) rfl (lv_at hl 3 rfl) ?_
    replace hF := bd2_s hF
    obtain ⟨r_22, w_23, hc_24, hF⟩ := hF
    obtain ⟨hPc, hDc, hFc⟩ := wcut (wc := (w_X3_failAt E a_ a_tape a_rules a_places a_steps c_siteCount c_stepCount c_seenRules c_at c_wordStart k0 c_failed)) hP hD hS hA [0] (by decide) rfl
    have hrc := va_recv hK hPc (ci := 4) (q0 := 0) rfl rfl
    refine cE_z (wc := (w_X3_failAt E a_ a_tape a_rules a_places a_steps c_siteCount c_stepCount c_seenRules c_at c_wordStart k0 c_failed)) (wr := [k_X6 a_tape a_tape_bytes c_tape_length, k_B E a_tape_bytes 320 c_tape_bytes]) (w1 := (w_X3_failAt E a_ a_tape a_rules a_places a_steps c_siteCount c_stepCount c_seenRules c_at c_wordStart k0 w_23)) (va_runV (As := [.int x3]) (rest := [])  ⟨hx, hb, hml, hown, hts⟩ (f_X3_failAt l E H.size (a_ := a_) (a_tape := a_tape) (a_rules := a_rules) (a_places := a_places) (a_steps := a_steps) (p1 := x3) (c_siteCount := c_siteCount) (c_stepCount := c_stepCount) (c_seenRules := c_seenRules) (c_at := c_at) (c_wordStart := c_wordStart) (c_number := k0) (c_failed := c_failed) hc_24) (cwV 1 hts g_f_X3_readNumber_f_X3_failAt_87 rfl rfl rfl hd_X3_failAt ⟨Nat.le_of_ble_eq_true rfl, Nat.le_of_ble_eq_true rfl⟩) ⟨pW.blind, hrc, (pW.pre ⟨hK, hN⟩ hPc hDc)⟩ rfl rfl hl.1 rfl (lv_room (Nat.le_of_ble_eq_true rfl)) (dq_182 144 bcX3_readNumber_3 (j := 47) (i := 87) rfl rfl rfl) ⟨Nat.le_of_ble_eq_true rfl, Nat.le_of_ble_eq_true rfl⟩) hS hFc hP hD [0] [1, 2] rfl rfl (by decide) (by decide) (fun hb_25 H locs hP hD hS => ?_)
    have h9 := fixPD (ws' := [k_X6 a_tape a_tape_bytes c_tape_length, k_B E a_tape_bytes 320 c_tape_bytes, k_X3 a_ a_tape a_rules a_places a_steps c_siteCount c_stepCount c_seenRules c_at c_wordStart k0 w_23]) hP hD rfl
    clear hP hD
    obtain ⟨hP, hD⟩ := h9
    rw [hQ]
    have h9 := fin9 (P := fun u9 : Int32 × Int32 × Int32 × Int32 => r_22 = u9.1 ∧ va_P E.1 vwCl (w_X3_readNumber E a_ a_tape a_rules a_places a_steps a_tape_bytes c_siteCount c_stepCount c_seenRules u9.2.1 c_wordStart u9.2.2.1 u9.2.2.2 c_tape_length c_tape_bytes) H ∧ va_D A (w_X3_readNumber E a_ a_tape a_rules a_places a_steps a_tape_bytes c_siteCount c_stepCount c_seenRules u9.2.1 c_wordStart u9.2.2.1 u9.2.2.2 c_tape_length c_tape_bytes)) hF ⟨rfl, hP.sub [2, 0, 1] rfl, hD.sub [2, 0, 1] (by decide) rfl⟩
    obtain ⟨e9_0, hP9, hD9⟩ := h9
    exact W.zret (v := r_22) hx hb hr (nar_bool hb_25) (fun tt ht hW => ⟨⟨_, (), rfl, ⟨e9_0, hb_25⟩, ht ▸ hP9, hD9⟩, hS.F ht⟩) hS.2.2 (dq_172 192 bcX3_readNumber_4 (j := 2) rfl rfl)
  ·
    replace hF := inn c_21 hF
    refine lv_iload hx hb (dq_21 144 bcX3_readNumber_3 (j := 22) (i := 7) rfl rfl) (lv_at hl 4 rfl) ?_
    refine lv_bipush (v := 7) hx hb (dq_16 144 bcX3_readNumber_3 (j := 24) (i := 7) rfl rfl rfl) (by decide) ?_
    refine lv_icmp_gt (tgt := 189) hx hb (dq_163 144 bcX3_readNumber_3 (j := 26) (i := 19) rfl rfl rfl) (by decide) (fun c_26 => ?_) (fun c_26 => ?_)
    ·
      replace hF := ip c_26 hF
      refine lv_aload_n hx hb (dq_42 144 bcX3_readNumber_3 (j := 45) rfl rfl) rfl (lv_at hl 0 rfl) ?_
      refine lv_iload_n hx hb (dq_29 144 bcX3_readNumber_3 (j := 46) rfl rfl) rfl (lv_at hl 3 rfl) ?_
      replace hF := bd2_s hF
      obtain ⟨r_27, w_28, hc_29, hF⟩ := hF
      obtain ⟨hPc, hDc, hFc⟩ := wcut (wc := (w_X3_failAt E a_ a_tape a_rules a_places a_steps c_siteCount c_stepCount c_seenRules c_at c_wordStart k0 c_failed)) hP hD hS hA [0] (by decide) rfl
      have hrc := va_recv hK hPc (ci := 4) (q0 := 0) rfl rfl
      refine cE_z (wc := (w_X3_failAt E a_ a_tape a_rules a_places a_steps c_siteCount c_stepCount c_seenRules c_at c_wordStart k0 c_failed)) (wr := [k_X6 a_tape a_tape_bytes c_tape_length, k_B E a_tape_bytes 320 c_tape_bytes]) (w1 := (w_X3_failAt E a_ a_tape a_rules a_places a_steps c_siteCount c_stepCount c_seenRules c_at c_wordStart k0 w_28)) (va_runV (As := [.int x3]) (rest := [])  ⟨hx, hb, hml, hown, hts⟩ (f_X3_failAt l E H.size (a_ := a_) (a_tape := a_tape) (a_rules := a_rules) (a_places := a_places) (a_steps := a_steps) (p1 := x3) (c_siteCount := c_siteCount) (c_stepCount := c_stepCount) (c_seenRules := c_seenRules) (c_at := c_at) (c_wordStart := c_wordStart) (c_number := k0) (c_failed := c_failed) hc_29) (cwV 1 hts g_f_X3_readNumber_f_X3_failAt_87 rfl rfl rfl hd_X3_failAt ⟨Nat.le_of_ble_eq_true rfl, Nat.le_of_ble_eq_true rfl⟩) ⟨pW.blind, hrc, (pW.pre ⟨hK, hN⟩ hPc hDc)⟩ rfl rfl hl.1 rfl (lv_room (Nat.le_of_ble_eq_true rfl)) (dq_182 144 bcX3_readNumber_3 (j := 47) (i := 87) rfl rfl rfl) ⟨Nat.le_of_ble_eq_true rfl, Nat.le_of_ble_eq_true rfl⟩) hS hFc hP hD [0] [1, 2] rfl rfl (by decide) (by decide) (fun hb_30 H locs hP hD hS => ?_)
      have h9 := fixPD (ws' := [k_X6 a_tape a_tape_bytes c_tape_length, k_B E a_tape_bytes 320 c_tape_bytes, k_X3 a_ a_tape a_rules a_places a_steps c_siteCount c_stepCount c_seenRules c_at c_wordStart k0 w_28]) hP hD rfl
      clear hP hD
      obtain ⟨hP, hD⟩ := h9
      rw [hQ]
      have h9 := fin9 (P := fun u9 : Int32 × Int32 × Int32 × Int32 => r_27 = u9.1 ∧ va_P E.1 vwCl (w_X3_readNumber E a_ a_tape a_rules a_places a_steps a_tape_bytes c_siteCount c_stepCount c_seenRules u9.2.1 c_wordStart u9.2.2.1 u9.2.2.2 c_tape_length c_tape_bytes) H ∧ va_D A (w_X3_readNumber E a_ a_tape a_rules a_places a_steps a_tape_bytes c_siteCount c_stepCount c_seenRules u9.2.1 c_wordStart u9.2.2.1 u9.2.2.2 c_tape_length c_tape_bytes)) hF ⟨rfl, hP.sub [2, 0, 1] rfl, hD.sub [2, 0, 1] (by decide) rfl⟩
      obtain ⟨e9_0, hP9, hD9⟩ := h9
      exact W.zret (v := r_27) hx hb hr (nar_bool hb_30) (fun tt ht hW => ⟨⟨_, (), rfl, ⟨e9_0, hb_30⟩, ht ▸ hP9, hD9⟩, hS.F ht⟩) hS.2.2 (dq_172 192 bcX3_readNumber_4 (j := 2) rfl rfl)
    ·
      replace hF := inn c_26 hF
      refine lv_aload_n hx hb (dq_42 144 bcX3_readNumber_3 (j := 29) rfl rfl) rfl (lv_at hl 0 rfl) ?_
      refine gt_X3_9 (v := .int k0) hx hb hts i_f_X3_readNumber_X3 hown hK hP 0 rfl (hts (.fieldLink RX3 37 "HushWatch$Reader" "number" "I") (List.mem_of_getElem? (i := 3) rfl)) rfl (dq_180 144 bcX3_readNumber_3 (j := 30) (i := 37) rfl rfl rfl) ?_
      refine lv_iload_n hx hb (dq_27 144 bcX3_readNumber_3 (j := 33) rfl rfl) rfl (lv_at hl 1 rfl) ?_
      refine lv_icmp_lt (tgt := 189) hx hb (dq_161 144 bcX3_readNumber_3 (j := 34) (i := 11) rfl rfl rfl) (by decide) (fun c_31 => ?_) (fun c_31 => ?_)
      ·
        replace hF := ip c_31 hF
        refine lv_aload_n hx hb (dq_42 144 bcX3_readNumber_3 (j := 45) rfl rfl) rfl (lv_at hl 0 rfl) ?_
        refine lv_iload_n hx hb (dq_29 144 bcX3_readNumber_3 (j := 46) rfl rfl) rfl (lv_at hl 3 rfl) ?_
        replace hF := bd2_s hF
        obtain ⟨r_32, w_33, hc_34, hF⟩ := hF
        obtain ⟨hPc, hDc, hFc⟩ := wcut (wc := (w_X3_failAt E a_ a_tape a_rules a_places a_steps c_siteCount c_stepCount c_seenRules c_at c_wordStart k0 c_failed)) hP hD hS hA [0] (by decide) rfl
        have hrc := va_recv hK hPc (ci := 4) (q0 := 0) rfl rfl
        refine cE_z (wc := (w_X3_failAt E a_ a_tape a_rules a_places a_steps c_siteCount c_stepCount c_seenRules c_at c_wordStart k0 c_failed)) (wr := [k_X6 a_tape a_tape_bytes c_tape_length, k_B E a_tape_bytes 320 c_tape_bytes]) (w1 := (w_X3_failAt E a_ a_tape a_rules a_places a_steps c_siteCount c_stepCount c_seenRules c_at c_wordStart k0 w_33)) (va_runV (As := [.int x3]) (rest := [])  ⟨hx, hb, hml, hown, hts⟩ (f_X3_failAt l E H.size (a_ := a_) (a_tape := a_tape) (a_rules := a_rules) (a_places := a_places) (a_steps := a_steps) (p1 := x3) (c_siteCount := c_siteCount) (c_stepCount := c_stepCount) (c_seenRules := c_seenRules) (c_at := c_at) (c_wordStart := c_wordStart) (c_number := k0) (c_failed := c_failed) hc_34) (cwV 1 hts g_f_X3_readNumber_f_X3_failAt_87 rfl rfl rfl hd_X3_failAt ⟨Nat.le_of_ble_eq_true rfl, Nat.le_of_ble_eq_true rfl⟩) ⟨pW.blind, hrc, (pW.pre ⟨hK, hN⟩ hPc hDc)⟩ rfl rfl hl.1 rfl (lv_room (Nat.le_of_ble_eq_true rfl)) (dq_182 144 bcX3_readNumber_3 (j := 47) (i := 87) rfl rfl rfl) ⟨Nat.le_of_ble_eq_true rfl, Nat.le_of_ble_eq_true rfl⟩) hS hFc hP hD [0] [1, 2] rfl rfl (by decide) (by decide) (fun hb_35 H locs hP hD hS => ?_)
        have h9 := fixPD (ws' := [k_X6 a_tape a_tape_bytes c_tape_length, k_B E a_tape_bytes 320 c_tape_bytes, k_X3 a_ a_tape a_rules a_places a_steps c_siteCount c_stepCount c_seenRules c_at c_wordStart k0 w_33]) hP hD rfl
        clear hP hD
        obtain ⟨hP, hD⟩ := h9
        rw [hQ]
        have h9 := fin9 (P := fun u9 : Int32 × Int32 × Int32 × Int32 => r_32 = u9.1 ∧ va_P E.1 vwCl (w_X3_readNumber E a_ a_tape a_rules a_places a_steps a_tape_bytes c_siteCount c_stepCount c_seenRules u9.2.1 c_wordStart u9.2.2.1 u9.2.2.2 c_tape_length c_tape_bytes) H ∧ va_D A (w_X3_readNumber E a_ a_tape a_rules a_places a_steps a_tape_bytes c_siteCount c_stepCount c_seenRules u9.2.1 c_wordStart u9.2.2.1 u9.2.2.2 c_tape_length c_tape_bytes)) hF ⟨rfl, hP.sub [2, 0, 1] rfl, hD.sub [2, 0, 1] (by decide) rfl⟩
        obtain ⟨e9_0, hP9, hD9⟩ := h9
        exact W.zret (v := r_32) hx hb hr (nar_bool hb_35) (fun tt ht hW => ⟨⟨_, (), rfl, ⟨e9_0, hb_35⟩, ht ▸ hP9, hD9⟩, hS.F ht⟩) hS.2.2 (dq_172 192 bcX3_readNumber_4 (j := 2) rfl rfl)
      ·
        replace hF := inn c_31 hF
        refine lv_aload_n hx hb (dq_42 144 bcX3_readNumber_3 (j := 37) rfl rfl) rfl (lv_at hl 0 rfl) ?_
        refine gt_X3_9 (v := .int k0) hx hb hts i_f_X3_readNumber_X3 hown hK hP 0 rfl (hts (.fieldLink RX3 37 "HushWatch$Reader" "number" "I") (List.mem_of_getElem? (i := 3) rfl)) rfl (dq_180 144 bcX3_readNumber_3 (j := 38) (i := 37) rfl rfl rfl) ?_
        refine lv_iload_n hx hb (dq_28 144 bcX3_readNumber_3 (j := 41) rfl rfl) rfl (lv_at hl 2 rfl) ?_
        refine lv_icmp_le (tgt := 195) hx hb (dq_164 144 bcX3_readNumber_3 (j := 42) (i := 9) rfl rfl rfl) (by decide) (fun c_36 => ?_) (fun c_36 => ?_)
        ·
          replace hF := ip c_36 hF
          refine lv_iconst (v := 1) hx hb (dq_4 192 bcX3_readNumber_4 (j := 3) rfl rfl) (by decide) ?_
          rw [hQ]
          have h9 := fin9 (P := fun u9 : Int32 × Int32 × Int32 × Int32 => (1 : Int32) = u9.1 ∧ va_P E.1 vwCl (w_X3_readNumber E a_ a_tape a_rules a_places a_steps a_tape_bytes c_siteCount c_stepCount c_seenRules u9.2.1 c_wordStart u9.2.2.1 u9.2.2.2 c_tape_length c_tape_bytes) H ∧ va_D A (w_X3_readNumber E a_ a_tape a_rules a_places a_steps a_tape_bytes c_siteCount c_stepCount c_seenRules u9.2.1 c_wordStart u9.2.2.1 u9.2.2.2 c_tape_length c_tape_bytes)) hF ⟨rfl, hP, hD⟩
          obtain ⟨e9_0, hP9, hD9⟩ := h9
          exact W.zret (v := (1 : Int32)) hx hb hr rfl (fun tt ht hW => ⟨⟨_, (), rfl, ⟨e9_0, Or.inr rfl⟩, ht ▸ hP9, hD9⟩, hS.F ht⟩) hS.2.2 (dq_172 192 bcX3_readNumber_4 (j := 4) rfl rfl)
        ·
          replace hF := inn c_36 hF
          refine lv_aload_n hx hb (dq_42 144 bcX3_readNumber_3 (j := 45) rfl rfl) rfl (lv_at hl 0 rfl) ?_
          refine lv_iload_n hx hb (dq_29 144 bcX3_readNumber_3 (j := 46) rfl rfl) rfl (lv_at hl 3 rfl) ?_
          replace hF := bd2_s hF
          obtain ⟨r_37, w_38, hc_39, hF⟩ := hF
          obtain ⟨hPc, hDc, hFc⟩ := wcut (wc := (w_X3_failAt E a_ a_tape a_rules a_places a_steps c_siteCount c_stepCount c_seenRules c_at c_wordStart k0 c_failed)) hP hD hS hA [0] (by decide) rfl
          have hrc := va_recv hK hPc (ci := 4) (q0 := 0) rfl rfl
          refine cE_z (wc := (w_X3_failAt E a_ a_tape a_rules a_places a_steps c_siteCount c_stepCount c_seenRules c_at c_wordStart k0 c_failed)) (wr := [k_X6 a_tape a_tape_bytes c_tape_length, k_B E a_tape_bytes 320 c_tape_bytes]) (w1 := (w_X3_failAt E a_ a_tape a_rules a_places a_steps c_siteCount c_stepCount c_seenRules c_at c_wordStart k0 w_38)) (va_runV (As := [.int x3]) (rest := [])  ⟨hx, hb, hml, hown, hts⟩ (f_X3_failAt l E H.size (a_ := a_) (a_tape := a_tape) (a_rules := a_rules) (a_places := a_places) (a_steps := a_steps) (p1 := x3) (c_siteCount := c_siteCount) (c_stepCount := c_stepCount) (c_seenRules := c_seenRules) (c_at := c_at) (c_wordStart := c_wordStart) (c_number := k0) (c_failed := c_failed) hc_39) (cwV 1 hts g_f_X3_readNumber_f_X3_failAt_87 rfl rfl rfl hd_X3_failAt ⟨Nat.le_of_ble_eq_true rfl, Nat.le_of_ble_eq_true rfl⟩) ⟨pW.blind, hrc, (pW.pre ⟨hK, hN⟩ hPc hDc)⟩ rfl rfl hl.1 rfl (lv_room (Nat.le_of_ble_eq_true rfl)) (dq_182 144 bcX3_readNumber_3 (j := 47) (i := 87) rfl rfl rfl) ⟨Nat.le_of_ble_eq_true rfl, Nat.le_of_ble_eq_true rfl⟩) hS hFc hP hD [0] [1, 2] rfl rfl (by decide) (by decide) (fun hb_40 H locs hP hD hS => ?_)
          have h9 := fixPD (ws' := [k_X6 a_tape a_tape_bytes c_tape_length, k_B E a_tape_bytes 320 c_tape_bytes, k_X3 a_ a_tape a_rules a_places a_steps c_siteCount c_stepCount c_seenRules c_at c_wordStart k0 w_38]) hP hD rfl
          clear hP hD
          obtain ⟨hP, hD⟩ := h9
          rw [hQ]
          have h9 := fin9 (P := fun u9 : Int32 × Int32 × Int32 × Int32 => r_37 = u9.1 ∧ va_P E.1 vwCl (w_X3_readNumber E a_ a_tape a_rules a_places a_steps a_tape_bytes c_siteCount c_stepCount c_seenRules u9.2.1 c_wordStart u9.2.2.1 u9.2.2.2 c_tape_length c_tape_bytes) H ∧ va_D A (w_X3_readNumber E a_ a_tape a_rules a_places a_steps a_tape_bytes c_siteCount c_stepCount c_seenRules u9.2.1 c_wordStart u9.2.2.1 u9.2.2.2 c_tape_length c_tape_bytes)) hF ⟨rfl, hP.sub [2, 0, 1] rfl, hD.sub [2, 0, 1] (by decide) rfl⟩
          obtain ⟨e9_0, hP9, hD9⟩ := h9
          exact W.zret (v := r_37) hx hb hr (nar_bool hb_40) (fun tt ht hW => ⟨⟨_, (), rfl, ⟨e9_0, hb_40⟩, ht ▸ hP9, hD9⟩, hS.F ht⟩) hS.2.2 (dq_172 192 bcX3_readNumber_4 (j := 2) rfl rfl)

set_option maxHeartbeats 4000000 in
set_option maxRecDepth 100000 in
theorem j_X3_readNumber_134 {p : Program} (l : Launch) {e : Env} {s : State} {m : MethodId} {below : List Frame} {meth : Method} {c : Code} {Q : State → Prop} (E : EE) (K : Nat) {a_ a_tape a_rules a_places a_steps a_tape_bytes : Nat} {p1 : Int32} {p2 : Int32} {c_siteCount : Int32} {c_stepCount : Int32} {c_seenRules : Int32} {c_wordStart : Int32} {c_tape_length : Int32} {c_tape_bytes : Nat → Int32} {x3 : Int32} {x4 : Int32} {x5 : Int32} {x6 : Int32} {c_at : Int32} {c_number : Int32} {c_failed : Int32} (hx : p.tables.exec = Jvm.exec) (hb : c.code = cX3_readNumber) (hml : c.maxLocals = 8) (hown : s.vm.findClass RX3 = some m.cls) (hts : ∀ w ∈ v_f_X3_readNumber, w.before #[Value.ref a_, Value.int p1, Value.int p2] s = true) (hK : va_K E.1 vwCl (TY E) s) (hN : NX s) {A : Nat → Prop} (hA : ∀ q : Nat, s.heap.size ≤ q → A q) {rr : Int32} {n_at : Int32} {n_number : Int32} {n_failed : Int32} (hr : meth.sig.returnType = (some .boolean)) (hlocks : meth.locks = false) (hQ : Q = MQ below (va_Qi (fun (q : Int32) (_u : Unit) => q = rr ∧ (q = 0 ∨ q = 1)) (fun (_u : Unit) tt => va_P E.1 vwCl (w_X3_readNumber E a_ a_tape a_rules a_places a_steps a_tape_bytes c_siteCount c_stepCount c_seenRules n_at c_wordStart n_number n_failed c_tape_length c_tape_bytes) tt.heap ∧ va_D A (w_X3_readNumber E a_ a_tape a_rules a_places a_steps a_tape_bytes c_siteCount c_stepCount c_seenRules n_at c_wordStart n_number n_failed c_tape_length c_tape_bytes)) A) #[Value.ref a_, Value.int p1, Value.int p2] s 0 0 A) (hF : J_X3_readNumber_134 p1 p2 x3 x4 x5 x6 c_at c_failed = some (rr, n_at, n_number, n_failed)) : ∀ (H : Heap) (locs : List Loc) (ls : Array Slot), va_P E.1 vwCl (w_X3_readNumber E a_ a_tape a_rules a_places a_steps a_tape_bytes c_siteCount c_stepCount c_seenRules c_at c_wordStart c_number c_failed c_tape_length c_tape_bytes) H → va_D A (w_X3_readNumber E a_ a_tape a_rules a_places a_steps a_tape_bytes c_siteCount c_stepCount c_seenRules c_at c_wordStart c_number c_failed c_tape_length c_tape_bytes) → va_S A s.heap H locs → lv_has ls 8 [(0, .ref a_), (1, .int p1), (2, .int p2), (3, .int x3), (4, .int x4), (5, .int x5), (6, .int x6)] → W p l e ({ frames := 2, cells := 0, slots := 0, locals := 41 } : Room) s m #[Value.ref a_, Value.int p1, Value.int p2] below meth c H locs 0 0 Q (F0 m 134 ls []) := by
  unfold J_X3_readNumber_134 at hF
  intro H locs ls hP hD hS hl
  have h9 := fixPD (ws' := [k_X3 a_ a_tape a_rules a_places a_steps c_siteCount c_stepCount c_seenRules c_at c_wordStart c_number c_failed, k_X6 a_tape a_tape_bytes c_tape_length, k_B E a_tape_bytes 320 c_tape_bytes]) hP hD rfl
  clear hP hD
  obtain ⟨hP, hD⟩ := h9
  refine lv_aload_n hx hb (dq_42 96 bcX3_readNumber_2 (j := 38) rfl rfl) rfl (lv_at hl 0 rfl) ?_
  refine gt_X3_7 (v := .int c_at) hx hb hts i_f_X3_readNumber_X3 hown hK hP 0 rfl (hts (.fieldLink RX3 31 "HushWatch$Reader" "at" "I") (List.mem_of_getElem? (i := 1) rfl)) rfl (dq_180 96 bcX3_readNumber_2 (j := 39) (i := 31) rfl rfl rfl) ?_
  refine lv_iload hx hb (dq_21 96 bcX3_readNumber_2 (j := 42) (i := 5) rfl rfl) (lv_at hl 5 rfl) ?_
  refine lv_isub hx hb (dq_100 96 bcX3_readNumber_2 (j := 44) rfl rfl) ?_
  refine lv_istore (lv' := [(7, .int (c_at - x5)), (0, .ref a_), (1, .int p1), (2, .int p2), (3, .int x3), (4, .int x4), (5, .int x5), (6, .int x6)]) hx hb (dq_54 96 bcX3_readNumber_2 (j := 45) (i := 7) rfl rfl) hl (by decide) rfl (fun ls hl => ?_)
  refine lv_aload_n hx hb (dq_42 96 bcX3_readNumber_2 (j := 47) rfl rfl) rfl (lv_at hl 1 rfl) ?_
  refine lv_iload hx hb (dq_21 144 bcX3_readNumber_3 (j := 0) (i := 4) rfl rfl) (lv_at hl 5 rfl) ?_
  refine lv_if_eq (tgt := 155) hx hb (dq_153 144 bcX3_readNumber_3 (j := 2) (i := 9) rfl rfl rfl) (by decide) (fun c_20 => ?_) (fun c_20 => ?_)
  ·
    replace hF := ip c_20 hF
    refine lv_iload hx hb (dq_21 144 bcX3_readNumber_3 (j := 11) (i := 6) rfl rfl) (lv_at hl 7 rfl) ?_
    exact j_X3_readNumber_157 l E K (p1 := p1) (p2 := p2) (c_siteCount := c_siteCount) (c_stepCount := c_stepCount) (c_seenRules := c_seenRules) (c_wordStart := c_wordStart) (c_tape_length := c_tape_length) (c_tape_bytes := c_tape_bytes) (k0 := x6) (x3 := x3) (x7 := c_at - x5) (c_at := c_at) (c_number := c_number) (c_failed := c_failed) hx hb hml hown hts hK hN hA hr hlocks hQ hF H locs ls (hP.sub [0, 1, 2] rfl) (hD.sub [0, 1, 2] (by decide) rfl) hS (lv_sub hl [1, 2, 3, 4, 0] rfl)
  ·
    replace hF := inn c_20 hF
    refine lv_iload hx hb (dq_21 144 bcX3_readNumber_3 (j := 5) (i := 6) rfl rfl) (lv_at hl 7 rfl) ?_
    refine lv_ineg hx hb (dq_116 144 bcX3_readNumber_3 (j := 7) rfl rfl) ?_
    refine lv_goto (tgt := 157) hx hb (dq_167 144 bcX3_readNumber_3 (j := 8) (i := 5) rfl rfl rfl) (by decide) ?_
    exact j_X3_readNumber_157 l E K (p1 := p1) (p2 := p2) (c_siteCount := c_siteCount) (c_stepCount := c_stepCount) (c_seenRules := c_seenRules) (c_wordStart := c_wordStart) (c_tape_length := c_tape_length) (c_tape_bytes := c_tape_bytes) (k0 := -x6) (x3 := x3) (x7 := c_at - x5) (c_at := c_at) (c_number := c_number) (c_failed := c_failed) hx hb hml hown hts hK hN hA hr hlocks hQ hF H locs ls (hP.sub [0, 1, 2] rfl) (hD.sub [0, 1, 2] (by decide) rfl) hS (lv_sub hl [1, 2, 3, 4, 0] rfl)

set_option maxHeartbeats 4000000 in
set_option maxRecDepth 100000 in
theorem j_X3_readNumber_47 {p : Program} (l : Launch) {e : Env} {s : State} {m : MethodId} {below : List Frame} {meth : Method} {c : Code} {Q : State → Prop} (E : EE) (K : Nat) {a_ a_tape a_rules a_places a_steps a_tape_bytes : Nat} {p1 : Int32} {p2 : Int32} {c_siteCount : Int32} {c_stepCount : Int32} {c_seenRules : Int32} {c_wordStart : Int32} {c_tape_length : Int32} {c_tape_bytes : Nat → Int32} {x3 : Int32} {x4 : Int32} {c_at : Int32} {c_number : Int32} {c_failed : Int32} (hx : p.tables.exec = Jvm.exec) (hb : c.code = cX3_readNumber) (hml : c.maxLocals = 8) (hown : s.vm.findClass RX3 = some m.cls) (hts : ∀ w ∈ v_f_X3_readNumber, w.before #[Value.ref a_, Value.int p1, Value.int p2] s = true) (hK : va_K E.1 vwCl (TY E) s) (hN : NX s) {A : Nat → Prop} (hA : ∀ q : Nat, s.heap.size ≤ q → A q) {rr : Int32} {n_at : Int32} {n_number : Int32} {n_failed : Int32} (hr : meth.sig.returnType = (some .boolean)) (hlocks : meth.locks = false) (hQ : Q = MQ below (va_Qi (fun (q : Int32) (_u : Unit) => q = rr ∧ (q = 0 ∨ q = 1)) (fun (_u : Unit) tt => va_P E.1 vwCl (w_X3_readNumber E a_ a_tape a_rules a_places a_steps a_tape_bytes c_siteCount c_stepCount c_seenRules n_at c_wordStart n_number n_failed c_tape_length c_tape_bytes) tt.heap ∧ va_D A (w_X3_readNumber E a_ a_tape a_rules a_places a_steps a_tape_bytes c_siteCount c_stepCount c_seenRules n_at c_wordStart n_number n_failed c_tape_length c_tape_bytes)) A) #[Value.ref a_, Value.int p1, Value.int p2] s 0 0 A) (hF : J_X3_readNumber_47 K p1 p2 c_tape_length c_tape_bytes x3 x4 c_at c_failed = some (rr, n_at, n_number, n_failed)) : ∀ (H : Heap) (locs : List Loc) (ls : Array Slot), va_P E.1 vwCl (w_X3_readNumber E a_ a_tape a_rules a_places a_steps a_tape_bytes c_siteCount c_stepCount c_seenRules c_at c_wordStart c_number c_failed c_tape_length c_tape_bytes) H → va_D A (w_X3_readNumber E a_ a_tape a_rules a_places a_steps a_tape_bytes c_siteCount c_stepCount c_seenRules c_at c_wordStart c_number c_failed c_tape_length c_tape_bytes) → va_S A s.heap H locs → lv_has ls 8 [(0, .ref a_), (1, .int p1), (2, .int p2), (3, .int x3), (4, .int x4)] → W p l e ({ frames := 2, cells := 0, slots := 0, locals := 41 } : Room) s m #[Value.ref a_, Value.int p1, Value.int p2] below meth c H locs 0 0 Q (F0 m 47 ls []) := by
  unfold J_X3_readNumber_47 at hF
  intro H locs ls hP hD hS hl
  have h9 := fixPD (ws' := [k_X3 a_ a_tape a_rules a_places a_steps c_siteCount c_stepCount c_seenRules c_at c_wordStart c_number c_failed, k_X6 a_tape a_tape_bytes c_tape_length, k_B E a_tape_bytes 320 c_tape_bytes]) hP hD rfl
  clear hP hD
  obtain ⟨hP, hD⟩ := h9
  refine lv_aload_n hx hb (dq_42 0 bcX3_readNumber_0 (j := 47) rfl rfl) rfl (lv_at hl 0 rfl) ?_
  refine gt_X3_7 (v := .int c_at) hx hb hts i_f_X3_readNumber_X3 hown hK hP 0 rfl (hts (.fieldLink RX3 31 "HushWatch$Reader" "at" "I") (List.mem_of_getElem? (i := 1) rfl)) rfl (dq_180 48 bcX3_readNumber_1 (j := 0) (i := 31) rfl rfl rfl) ?_
  refine lv_istore (lv' := [(5, .int c_at), (0, .ref a_), (1, .int p1), (2, .int p2), (3, .int x3), (4, .int x4)]) hx hb (dq_54 48 bcX3_readNumber_1 (j := 3) (i := 5) rfl rfl) hl (by decide) rfl (fun ls hl => ?_)
  refine lv_iconst (v := 0) hx hb (dq_3 48 bcX3_readNumber_1 (j := 5) rfl rfl) (by decide) ?_
  refine lv_istore (lv' := [(6, .int (0 : Int32)), (5, .int c_at), (0, .ref a_), (1, .int p1), (2, .int p2), (3, .int x3), (4, .int x4)]) hx hb (dq_54 48 bcX3_readNumber_1 (j := 6) (i := 6) rfl rfl) hl (by decide) rfl (fun ls hl => ?_)
  replace hF := bd2_s hF
  obtain ⟨x6_17, c_at_18, hL_19, hF⟩ := hF
  refine lw_X3_readNumber_56 l E K (p1 := p1) (p2 := p2) (c_siteCount := c_siteCount) (c_stepCount := c_stepCount) (c_seenRules := c_seenRules) (c_wordStart := c_wordStart) (c_tape_length := c_tape_length) (c_tape_bytes := c_tape_bytes) (x3 := x3) (x4 := x4) (x5 := c_at) (c_number := c_number) (c_failed := c_failed) hx hb hml hown hts hK hN hA K (0 : Int32) c_at x6_17 c_at_18 hL_19 ?_ H locs ls (hP.sub [0, 1, 2] rfl) (hD.sub [0, 1, 2] (by decide) rfl) hS (lv_sub hl [2, 3, 4, 5, 6, 1, 0] rfl)
  ·
    intro H locs ls hP hD hS hl
    have h9 := fixPD (ws' := [k_X3 a_ a_tape a_rules a_places a_steps c_siteCount c_stepCount c_seenRules c_at_18 c_wordStart c_number c_failed, k_X6 a_tape a_tape_bytes c_tape_length, k_B E a_tape_bytes 320 c_tape_bytes]) hP hD rfl
    clear hP hD
    obtain ⟨hP, hD⟩ := h9
    exact j_X3_readNumber_134 l E K (p1 := p1) (p2 := p2) (c_siteCount := c_siteCount) (c_stepCount := c_stepCount) (c_seenRules := c_seenRules) (c_wordStart := c_wordStart) (c_tape_length := c_tape_length) (c_tape_bytes := c_tape_bytes) (x3 := x3) (x4 := x4) (x5 := c_at) (x6 := x6_17) (c_at := c_at_18) (c_number := c_number) (c_failed := c_failed) hx hb hml hown hts hK hN hA hr hlocks hQ hF H locs ls (hP.sub [0, 1, 2] rfl) (hD.sub [0, 1, 2] (by decide) rfl) hS (lv_sub hl [0, 1, 2, 3, 4, 5, 6] rfl)

set_option maxHeartbeats 4000000 in
set_option maxRecDepth 100000 in
theorem j_X3_readNumber_30 {p : Program} (l : Launch) {e : Env} {s : State} {m : MethodId} {below : List Frame} {meth : Method} {c : Code} {Q : State → Prop} (E : EE) (K : Nat) {a_ a_tape a_rules a_places a_steps a_tape_bytes : Nat} {p1 : Int32} {p2 : Int32} {c_siteCount : Int32} {c_stepCount : Int32} {c_seenRules : Int32} {c_wordStart : Int32} {c_tape_length : Int32} {c_tape_bytes : Nat → Int32} {k0 : Int32} {x3 : Int32} {c_at : Int32} {c_number : Int32} {c_failed : Int32} (hx : p.tables.exec = Jvm.exec) (hb : c.code = cX3_readNumber) (hml : c.maxLocals = 8) (hown : s.vm.findClass RX3 = some m.cls) (hts : ∀ w ∈ v_f_X3_readNumber, w.before #[Value.ref a_, Value.int p1, Value.int p2] s = true) (hK : va_K E.1 vwCl (TY E) s) (hN : NX s) {A : Nat → Prop} (hA : ∀ q : Nat, s.heap.size ≤ q → A q) {rr : Int32} {n_at : Int32} {n_number : Int32} {n_failed : Int32} (hr : meth.sig.returnType = (some .boolean)) (hlocks : meth.locks = false) (hQ : Q = MQ below (va_Qi (fun (q : Int32) (_u : Unit) => q = rr ∧ (q = 0 ∨ q = 1)) (fun (_u : Unit) tt => va_P E.1 vwCl (w_X3_readNumber E a_ a_tape a_rules a_places a_steps a_tape_bytes c_siteCount c_stepCount c_seenRules n_at c_wordStart n_number n_failed c_tape_length c_tape_bytes) tt.heap ∧ va_D A (w_X3_readNumber E a_ a_tape a_rules a_places a_steps a_tape_bytes c_siteCount c_stepCount c_seenRules n_at c_wordStart n_number n_failed c_tape_length c_tape_bytes)) A) #[Value.ref a_, Value.int p1, Value.int p2] s 0 0 A) (hF : J_X3_readNumber_30 K p1 p2 c_tape_length c_tape_bytes k0 x3 c_at c_failed = some (rr, n_at, n_number, n_failed)) : ∀ (H : Heap) (locs : List Loc) (ls : Array Slot), va_P E.1 vwCl (w_X3_readNumber E a_ a_tape a_rules a_places a_steps a_tape_bytes c_siteCount c_stepCount c_seenRules c_at c_wordStart c_number c_failed c_tape_length c_tape_bytes) H → va_D A (w_X3_readNumber E a_ a_tape a_rules a_places a_steps a_tape_bytes c_siteCount c_stepCount c_seenRules c_at c_wordStart c_number c_failed c_tape_length c_tape_bytes) → va_S A s.heap H locs → lv_has ls 8 [(0, .ref a_), (1, .int p1), (2, .int p2), (3, .int x3)] → W p l e ({ frames := 2, cells := 0, slots := 0, locals := 41 } : Room) s m #[Value.ref a_, Value.int p1, Value.int p2] below meth c H locs 0 0 Q (F0 m 30 ls [.int k0]) := by
  unfold J_X3_readNumber_30 at hF
  intro H locs ls hP hD hS hl
  have h9 := fixPD (ws' := [k_X3 a_ a_tape a_rules a_places a_steps c_siteCount c_stepCount c_seenRules c_at c_wordStart c_number c_failed, k_X6 a_tape a_tape_bytes c_tape_length, k_B E a_tape_bytes 320 c_tape_bytes]) hP hD rfl
  clear hP hD
  obtain ⟨hP, hD⟩ := h9
  refine lv_istore (lv' := [(4, .int k0), (0, .ref a_), (1, .int p1), (2, .int p2), (3, .int x3)]) hx hb (dq_54 0 bcX3_readNumber_0 (j := 30) (i := 4) rfl rfl) hl (by decide) rfl (fun ls hl => ?_)
  refine lv_iload hx hb (dq_21 0 bcX3_readNumber_0 (j := 32) (i := 4) rfl rfl) (lv_at hl 0 rfl) ?_
  refine lv_if_eq (tgt := 47) hx hb (dq_153 0 bcX3_readNumber_0 (j := 34) (i := 13) rfl rfl rfl) (by decide) (fun c_6 => ?_) (fun c_6 => ?_)
  ·
    replace hF := ip c_6 hF
    exact j_X3_readNumber_47 l E K (p1 := p1) (p2 := p2) (c_siteCount := c_siteCount) (c_stepCount := c_stepCount) (c_seenRules := c_seenRules) (c_wordStart := c_wordStart) (c_tape_length := c_tape_length) (c_tape_bytes := c_tape_bytes) (x3 := x3) (x4 := k0) (c_at := c_at) (c_number := c_number) (c_failed := c_failed) hx hb hml hown hts hK hN hA hr hlocks hQ hF H locs ls (hP.sub [0, 1, 2] rfl) (hD.sub [0, 1, 2] (by decide) rfl) hS (lv_sub hl [1, 2, 3, 4, 0] rfl)
  ·
    replace hF := inn c_6 hF
    refine lv_aload_n hx hb (dq_42 0 bcX3_readNumber_0 (j := 37) rfl rfl) rfl (lv_at hl 1 rfl) ?_
    refine lv_dup hx hb (dq_89 0 bcX3_readNumber_0 (j := 38) rfl rfl) rfl ?_
    refine gt_X3_7 (v := .int c_at) hx hb hts i_f_X3_readNumber_X3 hown hK hP 0 rfl (hts (.fieldLink RX3 31 "HushWatch$Reader" "at" "I") (List.mem_of_getElem? (i := 1) rfl)) rfl (dq_180 0 bcX3_readNumber_0 (j := 39) (i := 31) rfl rfl rfl) ?_
    refine lv_iconst (v := 1) hx hb (dq_4 0 bcX3_readNumber_0 (j := 42) rfl rfl) (by decide) ?_
    refine lv_iadd hx hb (dq_96 0 bcX3_readNumber_0 (j := 43) rfl rfl) ?_
    refine pt_X3_7 (v := .int (c_at + (1 : Int32))) hx hb hts i_f_X3_readNumber_X3 hown hK hP hD hS 0 rfl (hts (.fieldLink RX3 31 "HushWatch$Reader" "at" "I") (List.mem_of_getElem? (i := 1) rfl)) rfl rfl (Nat.le_of_ble_eq_true rfl) (dq_181 0 bcX3_readNumber_0 (j := 44) (i := 31) rfl rfl rfl) (fun H locs hP hD hS => ?_)
    have h9 := fixPD (ws' := [k_X3 a_ a_tape a_rules a_places a_steps c_siteCount c_stepCount c_seenRules (c_at + (1 : Int32)) c_wordStart c_number c_failed, k_X6 a_tape a_tape_bytes c_tape_length, k_B E a_tape_bytes 320 c_tape_bytes]) hP hD rfl
    clear hP hD
    obtain ⟨hP, hD⟩ := h9
    exact j_X3_readNumber_47 l E K (p1 := p1) (p2 := p2) (c_siteCount := c_siteCount) (c_stepCount := c_stepCount) (c_seenRules := c_seenRules) (c_wordStart := c_wordStart) (c_tape_length := c_tape_length) (c_tape_bytes := c_tape_bytes) (x3 := x3) (x4 := k0) (c_at := c_at + (1 : Int32)) (c_number := c_number) (c_failed := c_failed) hx hb hml hown hts hK hN hA hr hlocks hQ hF H locs ls (hP.sub [0, 1, 2] rfl) (hD.sub [0, 1, 2] (by decide) rfl) hS (lv_sub hl [1, 2, 3, 4, 0] rfl)

set_option maxHeartbeats 4000000 in
set_option maxRecDepth 100000 in
theorem f_X3_readNumber (l : Launch) (E : EE) (sz : Nat) (K : Nat) {a_ a_tape a_rules a_places a_steps a_tape_bytes : Nat} {p1 : Int32} {p2 : Int32} {c_siteCount : Int32} {c_stepCount : Int32} {c_seenRules : Int32} {c_at : Int32} {c_wordStart : Int32} {c_number : Int32} {c_failed : Int32} {c_tape_length : Int32} {c_tape_bytes : Nat → Int32} {rr : Int32} {n_at : Int32} {n_number : Int32} {n_failed : Int32} (hF : F_X3_readNumber K p1 p2 c_tape_bytes c_tape_length c_at c_number c_failed = some (rr, n_at, n_number, n_failed)) : Met l yX3_readNumber v_f_X3_readNumber (({ frames := 2, cells := 0, slots := 0, locals := 41 } : Room)) (va_Pc [.ref a_, .int p1, .int p2] (pW E sz (w_X3_readNumber E a_ a_tape a_rules a_places a_steps a_tape_bytes c_siteCount c_stepCount c_seenRules c_at c_wordStart c_number c_failed c_tape_length c_tape_bytes))) (va_Qi (fun (q : Int32) (_u : Unit) => q = rr ∧ (q = 0 ∨ q = 1)) (fun (_u : Unit) tt => va_P E.1 vwCl (w_X3_readNumber E a_ a_tape a_rules a_places a_steps a_tape_bytes c_siteCount c_stepCount c_seenRules n_at c_wordStart n_number n_failed c_tape_length c_tape_bytes) tt.heap ∧ va_D (va_A (w_X3_readNumber E a_ a_tape a_rules a_places a_steps a_tape_bytes c_siteCount c_stepCount c_seenRules c_at c_wordStart c_number c_failed c_tape_length c_tape_bytes) sz) (w_X3_readNumber E a_ a_tape a_rules a_places a_steps a_tape_bytes c_siteCount c_stepCount c_seenRules n_at c_wordStart n_number n_failed c_tape_length c_tape_bytes)) (va_A (w_X3_readNumber E a_ a_tape a_rules a_places a_steps a_tape_bytes c_siteCount c_stepCount c_seenRules c_at c_wordStart c_number c_failed c_tape_length c_tape_bytes) sz)) 0 0 (va_A (w_X3_readNumber E a_ a_tape a_rules a_places a_steps a_tape_bytes c_siteCount c_stepCount c_seenRules c_at c_wordStart c_number c_failed c_tape_length c_tape_bytes) sz) := by
  refine Met.ofW (cc := cX3_readNumber) (maxL := 8) (ret := (some .boolean)) (by decide) rfl ?_
  intro p e s m args below meth c s₁ B hml hv
  obtain ⟨rfl, hsz, ⟨hK, hN⟩, hP, hD0⟩ := hv
  have hx := B.exec
  have hb := B.bytes
  have hr := B.returns
  have hts := atoms_spec (ws := v_f_X3_readNumber) B.pre
  have hown : s.vm.findClass RX3 = some m.cls := own_of hd_X3_readNumber.1 (findClass_of_methodNamed B.named)
  have hlocks : meth.locks = false := B.notSynchronized
  subst hsz
  have hD := hD0.self (sz := s.heap.size)
  generalize hAe : va_A (w_X3_readNumber E a_ a_tape a_rules a_places a_steps a_tape_bytes c_siteCount c_stepCount c_seenRules c_at c_wordStart c_number c_failed c_tape_length c_tape_bytes) s.heap.size = A at hD ⊢
  have hA : ∀ q : Nat, s.heap.size ≤ q → A q := fun q h => by rw [← hAe]; exact Or.inr h
  have hS : va_S A s.heap s.heap [] := va_S.rf
  have hl := lv_entry ([.ref a_, .int p1, .int p2]) (n := 8) (Nat.le_of_ble_eq_true rfl)
  rw [lg_entry_eq]
  generalize (lg_sl ([.ref a_, .int p1, .int p2]) ++ List.replicate (8 - (lg_sl ([.ref a_, .int p1, .int p2])).length) Slot.unset).toArray = ls at hl ⊢
  have hl : lv_has ls 8 [(0, .ref a_), (1, .int p1), (2, .int p2)] := hl
  obtain ⟨Q, hQ⟩ : ∃ Q : State → Prop, Q = MQ below (va_Qi (fun (q : Int32) (_u : Unit) => q = rr ∧ (q = 0 ∨ q = 1)) (fun (_u : Unit) tt => va_P E.1 vwCl (w_X3_readNumber E a_ a_tape a_rules a_places a_steps a_tape_bytes c_siteCount c_stepCount c_seenRules n_at c_wordStart n_number n_failed c_tape_length c_tape_bytes) tt.heap ∧ va_D A (w_X3_readNumber E a_ a_tape a_rules a_places a_steps a_tape_bytes c_siteCount c_stepCount c_seenRules n_at c_wordStart n_number n_failed c_tape_length c_tape_bytes)) A) #[Value.ref a_, Value.int p1, Value.int p2] s 0 0 A := ⟨_, rfl⟩
  rw [← hQ]
  change W p l e ({ frames := 2, cells := 0, slots := 0, locals := 41 } : Room) s m #[Value.ref a_, Value.int p1, Value.int p2] below meth c s.heap [] 0 0 Q (F0 m 0 ls [])
  suffices hh9 : ∀ (H : Heap) (locs : List Loc), va_P E.1 vwCl (w_X3_readNumber E a_ a_tape a_rules a_places a_steps a_tape_bytes c_siteCount c_stepCount c_seenRules c_at c_wordStart c_number c_failed c_tape_length c_tape_bytes) H → va_D A (w_X3_readNumber E a_ a_tape a_rules a_places a_steps a_tape_bytes c_siteCount c_stepCount c_seenRules c_at c_wordStart c_number c_failed c_tape_length c_tape_bytes) → va_S A s.heap H locs → W p l e ({ frames := 2, cells := 0, slots := 0, locals := 41 } : Room) s m #[Value.ref a_, Value.int p1, Value.int p2] below meth c H locs 0 0 Q (F0 m 0 ls []) from hh9 s.heap [] hP hD hS
  clear hP hD hS
  intro H locs hP hD hS
  have h9 := fixPD (ws' := [k_X3 a_ a_tape a_rules a_places a_steps c_siteCount c_stepCount c_seenRules c_at c_wordStart c_number c_failed, k_X6 a_tape a_tape_bytes c_tape_length, k_B E a_tape_bytes 320 c_tape_bytes]) hP hD rfl
  clear hP hD
  obtain ⟨hP, hD⟩ := h9
  unfold F_X3_readNumber at hF
  refine lv_aload_n hx hb (dq_42 0 bcX3_readNumber_0 (j := 0) rfl rfl) rfl (lv_at hl 0 rfl) ?_
  replace hF := bd1_s hF
  obtain ⟨w_1, hc_2, hF⟩ := hF
  obtain ⟨hPc, hDc, hFc⟩ := wcut (wc := (w_X3_skipBlanks E a_ a_tape a_rules a_places a_steps a_tape_bytes c_siteCount c_stepCount c_seenRules c_at c_wordStart c_number c_failed c_tape_length c_tape_bytes)) hP hD hS hA [0, 1, 2] (by decide) rfl
  have hrc := va_recv hK hPc (ci := 4) (q0 := 0) rfl rfl
  refine cE_v (wc := (w_X3_skipBlanks E a_ a_tape a_rules a_places a_steps a_tape_bytes c_siteCount c_stepCount c_seenRules c_at c_wordStart c_number c_failed c_tape_length c_tape_bytes)) (wr := []) (w1 := (w_X3_skipBlanks E a_ a_tape a_rules a_places a_steps a_tape_bytes c_siteCount c_stepCount c_seenRules w_1 c_wordStart c_number c_failed c_tape_length c_tape_bytes)) (va_runV (As := []) (rest := [])  ⟨hx, hb, hml, hown, hts⟩ (f_X3_skipBlanks l E H.size K (a_ := a_) (a_tape := a_tape) (a_rules := a_rules) (a_places := a_places) (a_steps := a_steps) (a_tape_bytes := a_tape_bytes) (c_siteCount := c_siteCount) (c_stepCount := c_stepCount) (c_seenRules := c_seenRules) (c_at := c_at) (c_wordStart := c_wordStart) (c_number := c_number) (c_failed := c_failed) (c_tape_length := c_tape_length) (c_tape_bytes := c_tape_bytes) hc_2) (cwV 0 hts g_f_X3_readNumber_f_X3_skipBlanks_140 rfl rfl rfl hd_X3_skipBlanks ⟨Nat.le_of_ble_eq_true rfl, Nat.le_of_ble_eq_true rfl⟩) ⟨pW.blind, hrc, (pW.pre ⟨hK, hN⟩ hPc hDc)⟩ rfl rfl hl.1 rfl (lv_room (Nat.le_of_ble_eq_true rfl)) (dq_182 0 bcX3_readNumber_0 (j := 1) (i := 140) rfl rfl rfl) ⟨Nat.le_of_ble_eq_true rfl, Nat.le_of_ble_eq_true rfl⟩) hS hFc hP hD [0, 1, 2] [] rfl rfl (by decide) (by decide) (fun H locs hP hD hS => ?_)
  have h9 := fixPD (ws' := [k_X3 a_ a_tape a_rules a_places a_steps c_siteCount c_stepCount c_seenRules w_1 c_wordStart c_number c_failed, k_X6 a_tape a_tape_bytes c_tape_length, k_B E a_tape_bytes 320 c_tape_bytes]) hP hD rfl
  clear hP hD
  obtain ⟨hP, hD⟩ := h9
  refine lv_aload_n hx hb (dq_42 0 bcX3_readNumber_0 (j := 4) rfl rfl) rfl (lv_at hl 0 rfl) ?_
  refine gt_X3_7 (v := .int w_1) hx hb hts i_f_X3_readNumber_X3 hown hK hP 0 rfl (hts (.fieldLink RX3 31 "HushWatch$Reader" "at" "I") (List.mem_of_getElem? (i := 1) rfl)) rfl (dq_180 0 bcX3_readNumber_0 (j := 5) (i := 31) rfl rfl rfl) ?_
  refine lv_istore_n (lv' := [(3, .int w_1), (0, .ref a_), (1, .int p1), (2, .int p2)]) hx hb (dq_62 0 bcX3_readNumber_0 (j := 8) rfl rfl) rfl hl (by decide) rfl (fun ls hl => ?_)
  refine lv_aload_n hx hb (dq_42 0 bcX3_readNumber_0 (j := 9) rfl rfl) rfl (lv_at hl 1 rfl) ?_
  refine gt_X3_0 (v := .ref a_tape) hx hb hts i_f_X3_readNumber_X3 hown hK hP 0 rfl (hts (.fieldLink RX3 43 "HushWatch$Reader" "tape" "LHushWatch$Tape;") (List.mem_of_getElem? (i := 2) rfl)) rfl (dq_180 0 bcX3_readNumber_0 (j := 10) (i := 43) rfl rfl rfl) ?_
  refine lv_aload_n hx hb (dq_42 0 bcX3_readNumber_0 (j := 13) rfl rfl) rfl (lv_at hl 1 rfl) ?_
  refine gt_X3_7 (v := .int w_1) hx hb hts i_f_X3_readNumber_X3 hown hK hP 0 rfl (hts (.fieldLink RX3 31 "HushWatch$Reader" "at" "I") (List.mem_of_getElem? (i := 1) rfl)) rfl (dq_180 0 bcX3_readNumber_0 (j := 14) (i := 31) rfl rfl rfl) ?_
  replace hF := bd1_s hF
  obtain ⟨r_3, hc_4, hF⟩ := hF
  have hPc : va_P E.1 vwCl (w_X6_signAt E a_tape a_tape_bytes c_tape_length c_tape_bytes) H := hP.sub (ws' := [k_X6 a_tape a_tape_bytes c_tape_length, k_B E a_tape_bytes 320 c_tape_bytes]) [1, 2] rfl
  have hrc := va_recv hK hPc (ci := 7) (q0 := 0) rfl rfl
  refine pE_i (va_runV (As := [.int w_1]) (rest := [])  ⟨hx, hb, hml, hown, hts⟩ (f_X6_signAt l E (a_ := a_tape) (a_bytes := a_tape_bytes) (p1 := w_1) (c_length := c_tape_length) (c_bytes := c_tape_bytes) hc_4) (cwV 1 hts g_f_X3_readNumber_f_X6_signAt_143 rfl rfl rfl hd_X6_signAt ⟨Nat.le_of_ble_eq_true rfl, Nat.le_of_ble_eq_true rfl⟩) ⟨pP.blind, hrc, (pP.pre ⟨hK, hN⟩ hPc)⟩ rfl rfl hl.1 rfl (lv_room (Nat.le_of_ble_eq_true rfl)) (dq_182 0 bcX3_readNumber_0 (j := 17) (i := 143) rfl rfl rfl) ⟨Nat.le_of_ble_eq_true rfl, Nat.le_of_ble_eq_true rfl⟩) ?_
  refine lv_bipush (v := 45) hx hb (dq_16 0 bcX3_readNumber_0 (j := 20) (i := 45) rfl rfl rfl) (by decide) ?_
  refine lv_icmp_ne (tgt := 29) hx hb (dq_160 0 bcX3_readNumber_0 (j := 22) (i := 7) rfl rfl rfl) (by decide) (fun c_5 => ?_) (fun c_5 => ?_)
  ·
    replace hF := inn c_5 hF
    refine lv_iconst (v := 0) hx hb (dq_3 0 bcX3_readNumber_0 (j := 29) rfl rfl) (by decide) ?_
    exact j_X3_readNumber_30 l E K (p1 := p1) (p2 := p2) (c_siteCount := c_siteCount) (c_stepCount := c_stepCount) (c_seenRules := c_seenRules) (c_wordStart := c_wordStart) (c_tape_length := c_tape_length) (c_tape_bytes := c_tape_bytes) (k0 := (0 : Int32)) (x3 := w_1) (c_at := w_1) (c_number := c_number) (c_failed := c_failed) hx hb hml hown hts hK hN hA hr hlocks hQ hF H locs ls (hP.sub [0, 1, 2] rfl) (hD.sub [0, 1, 2] (by decide) rfl) hS (lv_sub hl [1, 2, 3, 0] rfl)
  ·
    replace hF := ip c_5 hF
    refine lv_iconst (v := 1) hx hb (dq_4 0 bcX3_readNumber_0 (j := 25) rfl rfl) (by decide) ?_
    refine lv_goto (tgt := 30) hx hb (dq_167 0 bcX3_readNumber_0 (j := 26) (i := 4) rfl rfl rfl) (by decide) ?_
    exact j_X3_readNumber_30 l E K (p1 := p1) (p2 := p2) (c_siteCount := c_siteCount) (c_stepCount := c_stepCount) (c_seenRules := c_seenRules) (c_wordStart := c_wordStart) (c_tape_length := c_tape_length) (c_tape_bytes := c_tape_bytes) (k0 := (1 : Int32)) (x3 := w_1) (c_at := w_1) (c_number := c_number) (c_failed := c_failed) hx hb hml hown hts hK hN hA hr hlocks hQ hF H locs ls (hP.sub [0, 1, 2] rfl) (hD.sub [0, 1, 2] (by decide) rfl) hS (lv_sub hl [1, 2, 3, 0] rfl)

def J_X3_readSite_41_r21 (K : Nat) (c_tape_length : Int32) (c_tape_bytes : Nat → Int32) (x1 : Int32) (c_places : Nat → Int32) (c_siteCount : Int32) (c_at : Int32) (c_number : Int32) (c_failed : Int32) : Option ((Int32 × (Nat → Int32) × Int32 × Int32 × Int32) ⊕ (Nat × (Nat → Int32) × Int32 × Int32 × Int32)) :=
  bd4 (F_X3_readNumber K (-999 : Int32) (999 : Int32) c_tape_bytes c_tape_length c_at c_number c_failed) (fun r_4 w_5 w_6 w_7 => if r_4 = (0 : Int32) then some (.inr (1, c_places, w_5, w_6, w_7)) else ixF (((2 : Int32) * c_siteCount) + x1) 16 (nmF (upd c_places (((2 : Int32) * c_siteCount) + x1).toNatClampNeg w_6) (fun f_12 => some (.inl (x1 + (1 : Int32), f_12, w_5, w_6, w_7)))))
def B_X3_readSite_20 (K : Nat) (c_tape_length : Int32) (c_tape_bytes : Nat → Int32) (c_siteCount : Int32) (x1 : Int32) (c_places : Nat → Int32) (c_at : Int32) (c_number : Int32) (c_failed : Int32) : Option ((Int32 × (Nat → Int32) × Int32 × Int32 × Int32) ⊕ (Nat × (Nat → Int32) × Int32 × Int32 × Int32)) :=
  if (2 : Int32) ≤ x1 then some (.inr (2, c_places, c_at, c_number, c_failed)) else if x1 = (1 : Int32) then bd3 (F_X3_readSign K (44 : Int32) c_tape_bytes c_tape_length c_at c_failed) (fun r_13 w_14 w_15 => if r_13 = (0 : Int32) then some (.inr (0, c_places, w_14, c_number, w_15)) else J_X3_readSite_41_r21 K c_tape_length c_tape_bytes x1 c_places c_siteCount w_14 c_number w_15) else J_X3_readSite_41_r21 K c_tape_length c_tape_bytes x1 c_places c_siteCount c_at c_number c_failed
def F_X3_readSite (K : Nat) (c_tape_bytes : Nat → Int32) (c_tape_length : Int32) (c_places : Nat → Int32) (c_siteCount : Int32) (c_at : Int32) (c_wordStart : Int32) (c_number : Int32) (c_failed : Int32) : Option (Int32 × (Nat → Int32) × Int32 × Int32 × Int32 × Int32) :=
  if c_siteCount < (8 : Int32) then bd5 (lpF (fun u9 : Int32 × (Nat → Int32) × Int32 × Int32 × Int32 => B_X3_readSite_20 K c_tape_length c_tape_bytes c_siteCount u9.1 u9.2.1 u9.2.2.1 u9.2.2.2.1 u9.2.2.2.2) K ((0 : Int32), c_places, c_at, c_number, c_failed)) (fun t_19 c_places_20 c_at_21 c_number_22 c_failed_23 => if t_19 = 0 then some ((0 : Int32), c_places_20, c_siteCount, c_at_21, c_number_22, c_failed_23) else if t_19 = 1 then some ((0 : Int32), c_places_20, c_siteCount, c_at_21, c_number_22, c_failed_23) else if t_19 = 2 then some ((1 : Int32), c_places_20, c_siteCount + (1 : Int32), c_at_21, c_number_22, c_failed_23) else none) else bd2 (F_X3_failAt c_wordStart c_failed) (fun r_25 w_26 => some (r_25, c_places, c_siteCount, c_at, c_number, w_26))
abbrev w_X3_readSite (E : EE) (a_ a_tape a_rules a_places a_steps a_tape_bytes : Nat) (c_siteCount : Int32) (c_stepCount : Int32) (c_seenRules : Int32) (c_at : Int32) (c_wordStart : Int32) (c_number : Int32) (c_failed : Int32) (c_tape_length : Int32) (c_tape_bytes : Nat → Int32) (c_places : Nat → Int32) : va_W := [k_X3 a_ a_tape a_rules a_places a_steps c_siteCount c_stepCount c_seenRules c_at c_wordStart c_number c_failed, k_X6 a_tape a_tape_bytes c_tape_length, k_B E a_tape_bytes 320 c_tape_bytes, k_I E a_places 16 c_places]
def v_f_X3_readSite : List Cond := List.cons (.code yX3_readSite cX3_readSite 2 (some .boolean)) (HAppend.hAppend (α := List Cond) (β := List Cond) (γ := List Cond) [.fieldLink RX3 21 "HushWatch$Reader" "siteCount" "I", .fieldLink RX3 15 "HushWatch$Reader" "places" "[I", .fieldLink RX3 37 "HushWatch$Reader" "number" "I", .fieldLink RX3 34 "HushWatch$Reader" "wordStart" "I", .methodLink RX3 96 yX3_readNumber, .instanceMethod yX3_readNumber, .selects RX3 yX3_readNumber yX3_readNumber, .initialized RX3, .methodLink RX3 62 yX3_readSign, .instanceMethod yX3_readSign, .selects RX3 yX3_readSign yX3_readSign, .methodLink RX3 87 yX3_failAt, .instanceMethod yX3_failAt, .selects RX3 yX3_failAt yX3_failAt] (HAppend.hAppend (α := List Cond) (β := List Cond) (γ := List Cond) wsX30 (HAppend.hAppend (α := List Cond) (β := List Cond) (γ := List Cond) v_f_X3_readNumber (HAppend.hAppend (α := List Cond) (β := List Cond) (γ := List Cond) v_f_X3_readSign (HAppend.hAppend (α := List Cond) (β := List Cond) (γ := List Cond) v_f_X3_failAt [])))))
theorem gw_f_X3_readSite : v_f_X3_readSite.all goodWord = true := gw_c2 (by decide +kernel) (gw_ap gw_wsX30 (gw_ap gw_f_X3_readNumber (gw_ap gw_f_X3_readSign (gw_ap gw_f_X3_failAt gw_nil))))
theorem i_f_X3_readSite_X3 : ∀ w ∈ wsX30, w ∈ v_f_X3_readSite := fun _ h => List.mem_cons_of_mem _ (List.mem_append_right _ (List.mem_append_left _ h))
theorem g_f_X3_readSite_f_X3_readNumber_96 : GoodIn v_f_X3_readSite (wsV RX3 96 RX3 yX3_readNumber v_f_X3_readNumber) := goodIn_in gw_f_X3_readSite (in4 5 6 7 8 rfl rfl rfl rfl (fun _ h => List.mem_cons_of_mem _ (List.mem_append_right _ (List.mem_append_right _ (List.mem_append_left _ h)))))
theorem g_f_X3_readSite_f_X3_readSign_62 : GoodIn v_f_X3_readSite (wsV RX3 62 RX3 yX3_readSign v_f_X3_readSign) := goodIn_in gw_f_X3_readSite (in4 9 10 11 8 rfl rfl rfl rfl (fun _ h => List.mem_cons_of_mem _ (List.mem_append_right _ (List.mem_append_right _ (List.mem_append_right _ (List.mem_append_left _ h))))))
theorem g_f_X3_readSite_f_X3_failAt_87 : GoodIn v_f_X3_readSite (wsV RX3 87 RX3 yX3_failAt v_f_X3_failAt) := goodIn_in gw_f_X3_readSite (in4 12 13 14 8 rfl rfl rfl rfl (fun _ h => List.mem_cons_of_mem _ (List.mem_append_right _ (List.mem_append_right _ (List.mem_append_right _ (List.mem_append_right _ (List.mem_append_left _ h)))))))
theorem hd_X3_readSite : yX3_readSite.cls = RX3 ∧ yX3_readSite.cls ≠ "java/lang/invoke/MethodHandle" ∧ yX3_readSite.cls ≠ "java/lang/invoke/VarHandle" ∧ (parseMethodDescriptor yX3_readSite.desc).map (fun d => d.parameters.length) = some 0 := by decide +kernel
set_option maxHeartbeats 4000000 in
set_option maxRecDepth 100000 in
theorem j_X3_readSite_41_r21 {p : Program} (l : Launch) {e : Env} {s : State} {m : MethodId} {below : List Frame} {meth : Method} {c : Code} {Q : State → Prop} (E : EE) (K : Nat) {a_ a_tape a_rules a_places a_steps a_tape_bytes : Nat} {c_stepCount : Int32} {c_seenRules : Int32} {c_wordStart : Int32} {c_tape_length : Int32} {c_tape_bytes : Nat → Int32} {x1 : Int32} {c_places : Nat → Int32} {c_siteCount : Int32} {c_at : Int32} {c_number : Int32} {c_failed : Int32} (hx : p.tables.exec = Jvm.exec) (hb : c.code = cX3_readSite) (hml : c.maxLocals = 2) (hown : s.vm.findClass RX3 = some m.cls) (hts : ∀ w ∈ v_f_X3_readSite, w.before #[Value.ref a_] s = true) (hK : va_K E.1 vwCl (TY E) s) (hN : NX s) {A : Nat → Prop} (hA : ∀ q : Nat, s.heap.size ≤ q → A q) {xx : (Int32 × (Nat → Int32) × Int32 × Int32 × Int32) ⊕ (Nat × (Nat → Int32) × Int32 × Int32 × Int32)} (hC : ∀ (x1 : Int32), ∀ (c_places : Nat → Int32), ∀ (c_at : Int32), ∀ (c_number : Int32), ∀ (c_failed : Int32), xx = .inl (x1, c_places, c_at, c_number, c_failed) → ∀ (H : Heap) (locs : List Loc) (ls : Array Slot), va_P E.1 vwCl (w_X3_readSite E a_ a_tape a_rules a_places a_steps a_tape_bytes c_siteCount c_stepCount c_seenRules c_at c_wordStart c_number c_failed c_tape_length c_tape_bytes c_places) H → va_D A (w_X3_readSite E a_ a_tape a_rules a_places a_steps a_tape_bytes c_siteCount c_stepCount c_seenRules c_at c_wordStart c_number c_failed c_tape_length c_tape_bytes c_places) → va_S A s.heap H locs → lv_has ls 2 [(0, .ref a_), (1, .int x1)] → W p l e ({ frames := 3, cells := 0, slots := 0, locals := 68 } : Room) s m #[Value.ref a_] below meth c H locs 0 0 Q (F0 m 20 ls [])) (hE : ∀ (t9 : Nat), ∀ (c_places : Nat → Int32), ∀ (c_at : Int32), ∀ (c_number : Int32), ∀ (c_failed : Int32), xx = .inr (t9, c_places, c_at, c_number, c_failed) → ((t9 = 0 → ∀ (H : Heap) (locs : List Loc) (ls : Array Slot), va_P E.1 vwCl (w_X3_readSite E a_ a_tape a_rules a_places a_steps a_tape_bytes c_siteCount c_stepCount c_seenRules c_at c_wordStart c_number c_failed c_tape_length c_tape_bytes c_places) H → va_D A (w_X3_readSite E a_ a_tape a_rules a_places a_steps a_tape_bytes c_siteCount c_stepCount c_seenRules c_at c_wordStart c_number c_failed c_tape_length c_tape_bytes c_places) → va_S A s.heap H locs → lv_has ls 2 [] → W p l e ({ frames := 3, cells := 0, slots := 0, locals := 68 } : Room) s m #[Value.ref a_] below meth c H locs 0 0 Q (F0 m 39 ls [])) ∧ (t9 = 1 → ∀ (H : Heap) (locs : List Loc) (ls : Array Slot), va_P E.1 vwCl (w_X3_readSite E a_ a_tape a_rules a_places a_steps a_tape_bytes c_siteCount c_stepCount c_seenRules c_at c_wordStart c_number c_failed c_tape_length c_tape_bytes c_places) H → va_D A (w_X3_readSite E a_ a_tape a_rules a_places a_steps a_tape_bytes c_siteCount c_stepCount c_seenRules c_at c_wordStart c_number c_failed c_tape_length c_tape_bytes c_places) → va_S A s.heap H locs → lv_has ls 2 [] → W p l e ({ frames := 3, cells := 0, slots := 0, locals := 68 } : Room) s m #[Value.ref a_] below meth c H locs 0 0 Q (F0 m 54 ls [])) ∧ (t9 = 2 → ∀ (H : Heap) (locs : List Loc) (ls : Array Slot), va_P E.1 vwCl (w_X3_readSite E a_ a_tape a_rules a_places a_steps a_tape_bytes c_siteCount c_stepCount c_seenRules c_at c_wordStart c_number c_failed c_tape_length c_tape_bytes c_places) H → va_D A (w_X3_readSite E a_ a_tape a_rules a_places a_steps a_tape_bytes c_siteCount c_stepCount c_seenRules c_at c_wordStart c_number c_failed c_tape_length c_tape_bytes c_places) → va_S A s.heap H locs → lv_has ls 2 [(0, .ref a_)] → W p l e ({ frames := 3, cells := 0, slots := 0, locals := 68 } : Room) s m #[Value.ref a_] below meth c H locs 0 0 Q (F0 m 79 ls [])))) (hF : J_X3_readSite_41_r21 K c_tape_length c_tape_bytes x1 c_places c_siteCount c_at c_number c_failed = some xx) : ∀ (H : Heap) (locs : List Loc) (ls : Array Slot), va_P E.1 vwCl (w_X3_readSite E a_ a_tape a_rules a_places a_steps a_tape_bytes c_siteCount c_stepCount c_seenRules c_at c_wordStart c_number c_failed c_tape_length c_tape_bytes c_places) H → va_D A (w_X3_readSite E a_ a_tape a_rules a_places a_steps a_tape_bytes c_siteCount c_stepCount c_seenRules c_at c_wordStart c_number c_failed c_tape_length c_tape_bytes c_places) → va_S A s.heap H locs → lv_has ls 2 [(0, .ref a_), (1, .int x1)] → W p l e ({ frames := 3, cells := 0, slots := 0, locals := 68 } : Room) s m #[Value.ref a_] below meth c H locs 0 0 Q (F0 m 41 ls []) := by
  unfold J_X3_readSite_41_r21 at hF
  intro H locs ls hP hD hS hl
  have h9 := fixPD (ws' := [k_X3 a_ a_tape a_rules a_places a_steps c_siteCount c_stepCount c_seenRules c_at c_wordStart c_number c_failed, k_X6 a_tape a_tape_bytes c_tape_length, k_B E a_tape_bytes 320 c_tape_bytes, k_I E a_places 16 c_places]) hP hD rfl
  clear hP hD
  obtain ⟨hP, hD⟩ := h9
  refine lv_aload_n hx hb (dq_42 0 bcX3_readSite_0 (j := 41) rfl rfl) rfl (lv_at hl 0 rfl) ?_
  refine lv_sipush (v := -999) hx hb (dq_17 0 bcX3_readSite_0 (j := 42) (i := -999) rfl rfl rfl) (by decide) ?_
  refine lv_sipush (v := 999) hx hb (dq_17 0 bcX3_readSite_0 (j := 45) (i := 999) rfl rfl rfl) (by decide) ?_
  replace hF := bd4_s hF
  obtain ⟨r_4, w_5, w_6, w_7, hc_8, hF⟩ := hF
  obtain ⟨hPc, hDc, hFc⟩ := wcut (wc := (w_X3_readNumber E a_ a_tape a_rules a_places a_steps a_tape_bytes c_siteCount c_stepCount c_seenRules c_at c_wordStart c_number c_failed c_tape_length c_tape_bytes)) hP hD hS hA [0, 1, 2] (by decide) rfl
  have hrc := va_recv hK hPc (ci := 4) (q0 := 0) rfl rfl
  refine cE_z (wc := (w_X3_readNumber E a_ a_tape a_rules a_places a_steps a_tape_bytes c_siteCount c_stepCount c_seenRules c_at c_wordStart c_number c_failed c_tape_length c_tape_bytes)) (wr := [k_I E a_places 16 c_places]) (w1 := (w_X3_readNumber E a_ a_tape a_rules a_places a_steps a_tape_bytes c_siteCount c_stepCount c_seenRules w_5 c_wordStart w_6 w_7 c_tape_length c_tape_bytes)) (va_runV (As := [.int (-999 : Int32), .int (999 : Int32)]) (rest := [])  ⟨hx, hb, hml, hown, hts⟩ (f_X3_readNumber l E H.size K (a_ := a_) (a_tape := a_tape) (a_rules := a_rules) (a_places := a_places) (a_steps := a_steps) (a_tape_bytes := a_tape_bytes) (p1 := (-999 : Int32)) (p2 := (999 : Int32)) (c_siteCount := c_siteCount) (c_stepCount := c_stepCount) (c_seenRules := c_seenRules) (c_at := c_at) (c_wordStart := c_wordStart) (c_number := c_number) (c_failed := c_failed) (c_tape_length := c_tape_length) (c_tape_bytes := c_tape_bytes) hc_8) (cwV 2 hts g_f_X3_readSite_f_X3_readNumber_96 rfl rfl rfl hd_X3_readNumber ⟨Nat.le_of_ble_eq_true rfl, Nat.le_of_ble_eq_true rfl⟩) ⟨pW.blind, hrc, (pW.pre ⟨hK, hN⟩ hPc hDc)⟩ rfl rfl hl.1 rfl (lv_room (Nat.le_of_ble_eq_true rfl)) (dq_182 48 bcX3_readSite_1 (j := 0) (i := 96) rfl rfl rfl) ⟨Nat.le_of_ble_eq_true rfl, Nat.le_of_ble_eq_true rfl⟩) hS hFc hP hD [0, 1, 2] [3] rfl rfl (by decide) (by decide) (fun hb_9 H locs hP hD hS => ?_)
  have h9 := fixPD (ws' := [k_I E a_places 16 c_places, k_X3 a_ a_tape a_rules a_places a_steps c_siteCount c_stepCount c_seenRules w_5 c_wordStart w_6 w_7, k_X6 a_tape a_tape_bytes c_tape_length, k_B E a_tape_bytes 320 c_tape_bytes]) hP hD rfl
  clear hP hD
  obtain ⟨hP, hD⟩ := h9
  refine lv_if_ne (tgt := 56) hx hb (dq_154 48 bcX3_readSite_1 (j := 3) (i := 5) rfl rfl rfl) (by decide) (fun c_10 => ?_) (fun c_10 => ?_)
  ·
    replace hF := inn c_10 hF
    refine lv_aload_n hx hb (dq_42 48 bcX3_readSite_1 (j := 8) rfl rfl) rfl (lv_at hl 0 rfl) ?_
    refine gt_X3_2 (v := .ref a_places) hx hb hts i_f_X3_readSite_X3 hown hK hP 1 rfl (hts (.fieldLink RX3 15 "HushWatch$Reader" "places" "[I") (List.mem_of_getElem? (i := 2) rfl)) rfl (dq_180 48 bcX3_readSite_1 (j := 9) (i := 15) rfl rfl rfl) ?_
    refine lv_iconst (v := 2) hx hb (dq_5 48 bcX3_readSite_1 (j := 12) rfl rfl) (by decide) ?_
    refine lv_aload_n hx hb (dq_42 48 bcX3_readSite_1 (j := 13) rfl rfl) rfl (lv_at hl 0 rfl) ?_
    refine gt_X3_4 (v := .int c_siteCount) hx hb hts i_f_X3_readSite_X3 hown hK hP 1 rfl (hts (.fieldLink RX3 21 "HushWatch$Reader" "siteCount" "I") (List.mem_of_getElem? (i := 1) rfl)) rfl (dq_180 48 bcX3_readSite_1 (j := 14) (i := 21) rfl rfl rfl) ?_
    refine lv_imul hx hb (dq_104 48 bcX3_readSite_1 (j := 17) rfl rfl) ?_
    refine lv_iload_n hx hb (dq_27 48 bcX3_readSite_1 (j := 18) rfl rfl) rfl (lv_at hl 1 rfl) ?_
    refine lv_iadd hx hb (dq_96 48 bcX3_readSite_1 (j := 19) rfl rfl) ?_
    refine lv_aload_n hx hb (dq_42 48 bcX3_readSite_1 (j := 20) rfl rfl) rfl (lv_at hl 0 rfl) ?_
    refine gt_X3_9 (v := .int w_6) hx hb hts i_f_X3_readSite_X3 hown hK hP 1 rfl (hts (.fieldLink RX3 37 "HushWatch$Reader" "number" "I") (List.mem_of_getElem? (i := 3) rfl)) rfl (dq_180 48 bcX3_readSite_1 (j := 21) (i := 37) rfl rfl rfl) ?_
    replace hF := ix_s hF
    obtain ⟨hi_11, hF⟩ := hF
    refine va_iast hx hb hK hP hD hS 0 0 rfl rfl hi_11 (dq_79 48 bcX3_readSite_1 (j := 24) rfl rfl) (fun H locs hP hD hS => ?_)
    have h9 := fixPD (ws' := [k_I E a_places 16 (upd c_places (((2 : Int32) * c_siteCount) + x1).toNatClampNeg w_6), k_X3 a_ a_tape a_rules a_places a_steps c_siteCount c_stepCount c_seenRules w_5 c_wordStart w_6 w_7, k_X6 a_tape a_tape_bytes c_tape_length, k_B E a_tape_bytes 320 c_tape_bytes]) hP hD rfl
    clear hP hD
    obtain ⟨hP, hD⟩ := h9
    replace hF := nm_s hF
    obtain ⟨f_12, hf_12, hF⟩ := hF
    rw [← hf_12] at hP hD
    refine lv_iinc (v := x1 + (1 : Int32)) (lv' := [(1, .int (x1 + (1 : Int32))), (0, .ref a_)]) hx hb (dq_132 48 bcX3_readSite_1 (j := 25) (i := 1) rfl rfl rfl) hl (k := 1) rfl (rfl) (by decide) rfl (fun ls hl => ?_)
    refine lv_goto (tgt := 20) hx hb (dq_167 48 bcX3_readSite_1 (j := 28) (i := -56) rfl rfl rfl) (by decide) ?_
    cases hF
    exact hC (x1 + (1 : Int32)) f_12 w_5 w_6 w_7 rfl H locs ls (hP.sub [1, 2, 3, 0] rfl) (hD.sub [1, 2, 3, 0] (by decide) rfl) hS (lv_sub hl [1, 0] rfl)
  ·
    replace hF := ip c_10 hF
    cases hF
    exact (hE 1 c_places w_5 w_6 w_7 rfl).2.1 rfl H locs ls (hP.sub [1, 2, 3, 0] rfl) (hD.sub [1, 2, 3, 0] (by decide) rfl) hS (lv_sub hl [] rfl)

set_option maxHeartbeats 4000000 in
set_option maxRecDepth 100000 in
theorem wb_X3_readSite_20 {p : Program} (l : Launch) {e : Env} {s : State} {m : MethodId} {below : List Frame} {meth : Method} {c : Code} {Q : State → Prop} (E : EE) (K : Nat) {a_ a_tape a_rules a_places a_steps a_tape_bytes : Nat} {c_stepCount : Int32} {c_seenRules : Int32} {c_wordStart : Int32} {c_tape_length : Int32} {c_tape_bytes : Nat → Int32} {x1 : Int32} {c_places : Nat → Int32} {c_siteCount : Int32} {c_at : Int32} {c_number : Int32} {c_failed : Int32} (hx : p.tables.exec = Jvm.exec) (hb : c.code = cX3_readSite) (hml : c.maxLocals = 2) (hown : s.vm.findClass RX3 = some m.cls) (hts : ∀ w ∈ v_f_X3_readSite, w.before #[Value.ref a_] s = true) (hK : va_K E.1 vwCl (TY E) s) (hN : NX s) {A : Nat → Prop} (hA : ∀ q : Nat, s.heap.size ≤ q → A q) {xx : (Int32 × (Nat → Int32) × Int32 × Int32 × Int32) ⊕ (Nat × (Nat → Int32) × Int32 × Int32 × Int32)} (hC : ∀ (x1 : Int32), ∀ (c_places : Nat → Int32), ∀ (c_at : Int32), ∀ (c_number : Int32), ∀ (c_failed : Int32), xx = .inl (x1, c_places, c_at, c_number, c_failed) → ∀ (H : Heap) (locs : List Loc) (ls : Array Slot), va_P E.1 vwCl (w_X3_readSite E a_ a_tape a_rules a_places a_steps a_tape_bytes c_siteCount c_stepCount c_seenRules c_at c_wordStart c_number c_failed c_tape_length c_tape_bytes c_places) H → va_D A (w_X3_readSite E a_ a_tape a_rules a_places a_steps a_tape_bytes c_siteCount c_stepCount c_seenRules c_at c_wordStart c_number c_failed c_tape_length c_tape_bytes c_places) → va_S A s.heap H locs → lv_has ls 2 [(0, .ref a_), (1, .int x1)] → W p l e ({ frames := 3, cells := 0, slots := 0, locals := 68 } : Room) s m #[Value.ref a_] below meth c H locs 0 0 Q (F0 m 20 ls [])) (hE : ∀ (t9 : Nat), ∀ (c_places : Nat → Int32), ∀ (c_at : Int32), ∀ (c_number : Int32), ∀ (c_failed : Int32), xx = .inr (t9, c_places, c_at, c_number, c_failed) → ((t9 = 0 → ∀ (H : Heap) (locs : List Loc) (ls : Array Slot), va_P E.1 vwCl (w_X3_readSite E a_ a_tape a_rules a_places a_steps a_tape_bytes c_siteCount c_stepCount c_seenRules c_at c_wordStart c_number c_failed c_tape_length c_tape_bytes c_places) H → va_D A (w_X3_readSite E a_ a_tape a_rules a_places a_steps a_tape_bytes c_siteCount c_stepCount c_seenRules c_at c_wordStart c_number c_failed c_tape_length c_tape_bytes c_places) → va_S A s.heap H locs → lv_has ls 2 [] → W p l e ({ frames := 3, cells := 0, slots := 0, locals := 68 } : Room) s m #[Value.ref a_] below meth c H locs 0 0 Q (F0 m 39 ls [])) ∧ (t9 = 1 → ∀ (H : Heap) (locs : List Loc) (ls : Array Slot), va_P E.1 vwCl (w_X3_readSite E a_ a_tape a_rules a_places a_steps a_tape_bytes c_siteCount c_stepCount c_seenRules c_at c_wordStart c_number c_failed c_tape_length c_tape_bytes c_places) H → va_D A (w_X3_readSite E a_ a_tape a_rules a_places a_steps a_tape_bytes c_siteCount c_stepCount c_seenRules c_at c_wordStart c_number c_failed c_tape_length c_tape_bytes c_places) → va_S A s.heap H locs → lv_has ls 2 [] → W p l e ({ frames := 3, cells := 0, slots := 0, locals := 68 } : Room) s m #[Value.ref a_] below meth c H locs 0 0 Q (F0 m 54 ls [])) ∧ (t9 = 2 → ∀ (H : Heap) (locs : List Loc) (ls : Array Slot), va_P E.1 vwCl (w_X3_readSite E a_ a_tape a_rules a_places a_steps a_tape_bytes c_siteCount c_stepCount c_seenRules c_at c_wordStart c_number c_failed c_tape_length c_tape_bytes c_places) H → va_D A (w_X3_readSite E a_ a_tape a_rules a_places a_steps a_tape_bytes c_siteCount c_stepCount c_seenRules c_at c_wordStart c_number c_failed c_tape_length c_tape_bytes c_places) → va_S A s.heap H locs → lv_has ls 2 [(0, .ref a_)] → W p l e ({ frames := 3, cells := 0, slots := 0, locals := 68 } : Room) s m #[Value.ref a_] below meth c H locs 0 0 Q (F0 m 79 ls [])))) (hF : B_X3_readSite_20 K c_tape_length c_tape_bytes c_siteCount x1 c_places c_at c_number c_failed = some xx) : ∀ (H : Heap) (locs : List Loc) (ls : Array Slot), va_P E.1 vwCl (w_X3_readSite E a_ a_tape a_rules a_places a_steps a_tape_bytes c_siteCount c_stepCount c_seenRules c_at c_wordStart c_number c_failed c_tape_length c_tape_bytes c_places) H → va_D A (w_X3_readSite E a_ a_tape a_rules a_places a_steps a_tape_bytes c_siteCount c_stepCount c_seenRules c_at c_wordStart c_number c_failed c_tape_length c_tape_bytes c_places) → va_S A s.heap H locs → lv_has ls 2 [(0, .ref a_), (1, .int x1)] → W p l e ({ frames := 3, cells := 0, slots := 0, locals := 68 } : Room) s m #[Value.ref a_] below meth c H locs 0 0 Q (F0 m 20 ls []) := by
  unfold B_X3_readSite_20 at hF
  intro H locs ls hP hD hS hl
  have h9 := fixPD (ws' := [k_X3 a_ a_tape a_rules a_places a_steps c_siteCount c_stepCount c_seenRules c_at c_wordStart c_number c_failed, k_X6 a_tape a_tape_bytes c_tape_length, k_B E a_tape_bytes 320 c_tape_bytes, k_I E a_places 16 c_places]) hP hD rfl
  clear hP hD
  obtain ⟨hP, hD⟩ := h9
  refine lv_iload_n hx hb (dq_27 0 bcX3_readSite_0 (j := 20) rfl rfl) rfl (lv_at hl 1 rfl) ?_
  refine lv_iconst (v := 2) hx hb (dq_5 0 bcX3_readSite_0 (j := 21) rfl rfl) (by decide) ?_
  refine lv_icmp_ge (tgt := 79) hx hb (dq_162 0 bcX3_readSite_0 (j := 22) (i := 57) rfl rfl rfl) (by decide) (fun c_2 => ?_) (fun c_2 => ?_)
  ·
    replace hF := ip c_2 hF
    cases hF
    exact (hE 2 c_places c_at c_number c_failed rfl).2.2 rfl H locs ls (hP.sub [0, 1, 2, 3] rfl) (hD.sub [0, 1, 2, 3] (by decide) rfl) hS (lv_sub hl [0] rfl)
  ·
    replace hF := inn c_2 hF
    refine lv_iload_n hx hb (dq_27 0 bcX3_readSite_0 (j := 25) rfl rfl) rfl (lv_at hl 1 rfl) ?_
    refine lv_iconst (v := 1) hx hb (dq_4 0 bcX3_readSite_0 (j := 26) rfl rfl) (by decide) ?_
    refine lv_icmp_ne (tgt := 41) hx hb (dq_160 0 bcX3_readSite_0 (j := 27) (i := 14) rfl rfl rfl) (by decide) (fun c_3 => ?_) (fun c_3 => ?_)
    ·
      replace hF := inn c_3 hF
      exact j_X3_readSite_41_r21 l E K (c_stepCount := c_stepCount) (c_seenRules := c_seenRules) (c_wordStart := c_wordStart) (c_tape_length := c_tape_length) (c_tape_bytes := c_tape_bytes) (x1 := x1) (c_places := c_places) (c_siteCount := c_siteCount) (c_at := c_at) (c_number := c_number) (c_failed := c_failed) hx hb hml hown hts hK hN hA hC hE hF H locs ls (hP.sub [0, 1, 2, 3] rfl) (hD.sub [0, 1, 2, 3] (by decide) rfl) hS (lv_sub hl [0, 1] rfl)
    ·
      replace hF := ip c_3 hF
      refine lv_aload_n hx hb (dq_42 0 bcX3_readSite_0 (j := 30) rfl rfl) rfl (lv_at hl 0 rfl) ?_
      refine lv_bipush (v := 44) hx hb (dq_16 0 bcX3_readSite_0 (j := 31) (i := 44) rfl rfl rfl) (by decide) ?_
      replace hF := bd3_s hF
      obtain ⟨r_13, w_14, w_15, hc_16, hF⟩ := hF
      obtain ⟨hPc, hDc, hFc⟩ := wcut (wc := (w_X3_readSign E a_ a_tape a_rules a_places a_steps a_tape_bytes c_siteCount c_stepCount c_seenRules c_at c_wordStart c_number c_failed c_tape_length c_tape_bytes)) hP hD hS hA [0, 1, 2] (by decide) rfl
      have hrc := va_recv hK hPc (ci := 4) (q0 := 0) rfl rfl
      refine cE_z (wc := (w_X3_readSign E a_ a_tape a_rules a_places a_steps a_tape_bytes c_siteCount c_stepCount c_seenRules c_at c_wordStart c_number c_failed c_tape_length c_tape_bytes)) (wr := [k_I E a_places 16 c_places]) (w1 := (w_X3_readSign E a_ a_tape a_rules a_places a_steps a_tape_bytes c_siteCount c_stepCount c_seenRules w_14 c_wordStart c_number w_15 c_tape_length c_tape_bytes)) (va_runV (As := [.int (44 : Int32)]) (rest := [])  ⟨hx, hb, hml, hown, hts⟩ (f_X3_readSign l E H.size K (a_ := a_) (a_tape := a_tape) (a_rules := a_rules) (a_places := a_places) (a_steps := a_steps) (a_tape_bytes := a_tape_bytes) (p1 := (44 : Int32)) (c_siteCount := c_siteCount) (c_stepCount := c_stepCount) (c_seenRules := c_seenRules) (c_at := c_at) (c_wordStart := c_wordStart) (c_number := c_number) (c_failed := c_failed) (c_tape_length := c_tape_length) (c_tape_bytes := c_tape_bytes) hc_16) (cwV 1 hts g_f_X3_readSite_f_X3_readSign_62 rfl rfl rfl hd_X3_readSign ⟨Nat.le_of_ble_eq_true rfl, Nat.le_of_ble_eq_true rfl⟩) ⟨pW.blind, hrc, (pW.pre ⟨hK, hN⟩ hPc hDc)⟩ rfl rfl hl.1 rfl (lv_room (Nat.le_of_ble_eq_true rfl)) (dq_182 0 bcX3_readSite_0 (j := 33) (i := 62) rfl rfl rfl) ⟨Nat.le_of_ble_eq_true rfl, Nat.le_of_ble_eq_true rfl⟩) hS hFc hP hD [0, 1, 2] [3] rfl rfl (by decide) (by decide) (fun hb_17 H locs hP hD hS => ?_)
      have h9 := fixPD (ws' := [k_I E a_places 16 c_places, k_X3 a_ a_tape a_rules a_places a_steps c_siteCount c_stepCount c_seenRules w_14 c_wordStart c_number w_15, k_X6 a_tape a_tape_bytes c_tape_length, k_B E a_tape_bytes 320 c_tape_bytes]) hP hD rfl
      clear hP hD
      obtain ⟨hP, hD⟩ := h9
      refine lv_if_ne (tgt := 41) hx hb (dq_154 0 bcX3_readSite_0 (j := 36) (i := 5) rfl rfl rfl) (by decide) (fun c_18 => ?_) (fun c_18 => ?_)
      ·
        replace hF := inn c_18 hF
        exact j_X3_readSite_41_r21 l E K (c_stepCount := c_stepCount) (c_seenRules := c_seenRules) (c_wordStart := c_wordStart) (c_tape_length := c_tape_length) (c_tape_bytes := c_tape_bytes) (x1 := x1) (c_places := c_places) (c_siteCount := c_siteCount) (c_at := w_14) (c_number := c_number) (c_failed := w_15) hx hb hml hown hts hK hN hA hC hE hF H locs ls (hP.sub [1, 2, 3, 0] rfl) (hD.sub [1, 2, 3, 0] (by decide) rfl) hS (lv_sub hl [0, 1] rfl)
      ·
        replace hF := ip c_18 hF
        cases hF
        exact (hE 0 c_places w_14 c_number w_15 rfl).1 rfl H locs ls (hP.sub [1, 2, 3, 0] rfl) (hD.sub [1, 2, 3, 0] (by decide) rfl) hS (lv_sub hl [] rfl)

set_option maxHeartbeats 4000000 in
set_option maxRecDepth 100000 in
theorem lw_X3_readSite_20 {p : Program} (l : Launch) {e : Env} {s : State} {m : MethodId} {below : List Frame} {meth : Method} {c : Code} {Q : State → Prop} (E : EE) (K : Nat) {a_ a_tape a_rules a_places a_steps a_tape_bytes : Nat} {c_stepCount : Int32} {c_seenRules : Int32} {c_wordStart : Int32} {c_tape_length : Int32} {c_tape_bytes : Nat → Int32} {c_siteCount : Int32} (hx : p.tables.exec = Jvm.exec) (hb : c.code = cX3_readSite) (hml : c.maxLocals = 2) (hown : s.vm.findClass RX3 = some m.cls) (hts : ∀ w ∈ v_f_X3_readSite, w.before #[Value.ref a_] s = true) (hK : va_K E.1 vwCl (TY E) s) (hN : NX s) {A : Nat → Prop} (hA : ∀ q : Nat, s.heap.size ≤ q → A q) (j9 : Nat) (x1 : Int32) (c_places : Nat → Int32) (c_at : Int32) (c_number : Int32) (c_failed : Int32) (t9' : Nat) (c_places' : Nat → Int32) (c_at' : Int32) (c_number' : Int32) (c_failed' : Int32) (hL : lpF (fun u9 : Int32 × (Nat → Int32) × Int32 × Int32 × Int32 => B_X3_readSite_20 K c_tape_length c_tape_bytes c_siteCount u9.1 u9.2.1 u9.2.2.1 u9.2.2.2.1 u9.2.2.2.2) j9 (x1, c_places, c_at, c_number, c_failed) = some (t9', c_places', c_at', c_number', c_failed')) (hX : (t9' = 0 → ∀ (H : Heap) (locs : List Loc) (ls : Array Slot), va_P E.1 vwCl (w_X3_readSite E a_ a_tape a_rules a_places a_steps a_tape_bytes c_siteCount c_stepCount c_seenRules c_at' c_wordStart c_number' c_failed' c_tape_length c_tape_bytes c_places') H → va_D A (w_X3_readSite E a_ a_tape a_rules a_places a_steps a_tape_bytes c_siteCount c_stepCount c_seenRules c_at' c_wordStart c_number' c_failed' c_tape_length c_tape_bytes c_places') → va_S A s.heap H locs → lv_has ls 2 [] → W p l e ({ frames := 3, cells := 0, slots := 0, locals := 68 } : Room) s m #[Value.ref a_] below meth c H locs 0 0 Q (F0 m 39 ls [])) ∧ (t9' = 1 → ∀ (H : Heap) (locs : List Loc) (ls : Array Slot), va_P E.1 vwCl (w_X3_readSite E a_ a_tape a_rules a_places a_steps a_tape_bytes c_siteCount c_stepCount c_seenRules c_at' c_wordStart c_number' c_failed' c_tape_length c_tape_bytes c_places') H → va_D A (w_X3_readSite E a_ a_tape a_rules a_places a_steps a_tape_bytes c_siteCount c_stepCount c_seenRules c_at' c_wordStart c_number' c_failed' c_tape_length c_tape_bytes c_places') → va_S A s.heap H locs → lv_has ls 2 [] → W p l e ({ frames := 3, cells := 0, slots := 0, locals := 68 } : Room) s m #[Value.ref a_] below meth c H locs 0 0 Q (F0 m 54 ls [])) ∧ (t9' = 2 → ∀ (H : Heap) (locs : List Loc) (ls : Array Slot), va_P E.1 vwCl (w_X3_readSite E a_ a_tape a_rules a_places a_steps a_tape_bytes c_siteCount c_stepCount c_seenRules c_at' c_wordStart c_number' c_failed' c_tape_length c_tape_bytes c_places') H → va_D A (w_X3_readSite E a_ a_tape a_rules a_places a_steps a_tape_bytes c_siteCount c_stepCount c_seenRules c_at' c_wordStart c_number' c_failed' c_tape_length c_tape_bytes c_places') → va_S A s.heap H locs → lv_has ls 2 [(0, .ref a_)] → W p l e ({ frames := 3, cells := 0, slots := 0, locals := 68 } : Room) s m #[Value.ref a_] below meth c H locs 0 0 Q (F0 m 79 ls []))) : ∀ (H : Heap) (locs : List Loc) (ls : Array Slot), va_P E.1 vwCl (w_X3_readSite E a_ a_tape a_rules a_places a_steps a_tape_bytes c_siteCount c_stepCount c_seenRules c_at c_wordStart c_number c_failed c_tape_length c_tape_bytes c_places) H → va_D A (w_X3_readSite E a_ a_tape a_rules a_places a_steps a_tape_bytes c_siteCount c_stepCount c_seenRules c_at c_wordStart c_number c_failed c_tape_length c_tape_bytes c_places) → va_S A s.heap H locs → lv_has ls 2 [(0, .ref a_), (1, .int x1)] → W p l e ({ frames := 3, cells := 0, slots := 0, locals := 68 } : Room) s m #[Value.ref a_] below meth c H locs 0 0 Q (F0 m 20 ls []) := by
  exact lp_rule (P := (fun u9 : Int32 × (Nat → Int32) × Int32 × Int32 × Int32 => ∀ (H : Heap) (locs : List Loc) (ls : Array Slot), va_P E.1 vwCl (w_X3_readSite E a_ a_tape a_rules a_places a_steps a_tape_bytes c_siteCount c_stepCount c_seenRules u9.2.2.1 c_wordStart u9.2.2.2.1 u9.2.2.2.2 c_tape_length c_tape_bytes u9.2.1) H → va_D A (w_X3_readSite E a_ a_tape a_rules a_places a_steps a_tape_bytes c_siteCount c_stepCount c_seenRules u9.2.2.1 c_wordStart u9.2.2.2.1 u9.2.2.2.2 c_tape_length c_tape_bytes u9.2.1) → va_S A s.heap H locs → lv_has ls 2 [(0, .ref a_), (1, .int u9.1)] → W p l e ({ frames := 3, cells := 0, slots := 0, locals := 68 } : Room) s m #[Value.ref a_] below meth c H locs 0 0 Q (F0 m 20 ls []))) (R := (fun r9 : Nat × (Nat → Int32) × Int32 × Int32 × Int32 => (r9.1 = 0 → ∀ (H : Heap) (locs : List Loc) (ls : Array Slot), va_P E.1 vwCl (w_X3_readSite E a_ a_tape a_rules a_places a_steps a_tape_bytes c_siteCount c_stepCount c_seenRules r9.2.2.1 c_wordStart r9.2.2.2.1 r9.2.2.2.2 c_tape_length c_tape_bytes r9.2.1) H → va_D A (w_X3_readSite E a_ a_tape a_rules a_places a_steps a_tape_bytes c_siteCount c_stepCount c_seenRules r9.2.2.1 c_wordStart r9.2.2.2.1 r9.2.2.2.2 c_tape_length c_tape_bytes r9.2.1) → va_S A s.heap H locs → lv_has ls 2 [] → W p l e ({ frames := 3, cells := 0, slots := 0, locals := 68 } : Room) s m #[Value.ref a_] below meth c H locs 0 0 Q (F0 m 39 ls [])) ∧ (r9.1 = 1 → ∀ (H : Heap) (locs : List Loc) (ls : Array Slot), va_P E.1 vwCl (w_X3_readSite E a_ a_tape a_rules a_places a_steps a_tape_bytes c_siteCount c_stepCount c_seenRules r9.2.2.1 c_wordStart r9.2.2.2.1 r9.2.2.2.2 c_tape_length c_tape_bytes r9.2.1) H → va_D A (w_X3_readSite E a_ a_tape a_rules a_places a_steps a_tape_bytes c_siteCount c_stepCount c_seenRules r9.2.2.1 c_wordStart r9.2.2.2.1 r9.2.2.2.2 c_tape_length c_tape_bytes r9.2.1) → va_S A s.heap H locs → lv_has ls 2 [] → W p l e ({ frames := 3, cells := 0, slots := 0, locals := 68 } : Room) s m #[Value.ref a_] below meth c H locs 0 0 Q (F0 m 54 ls [])) ∧ (r9.1 = 2 → ∀ (H : Heap) (locs : List Loc) (ls : Array Slot), va_P E.1 vwCl (w_X3_readSite E a_ a_tape a_rules a_places a_steps a_tape_bytes c_siteCount c_stepCount c_seenRules r9.2.2.1 c_wordStart r9.2.2.2.1 r9.2.2.2.2 c_tape_length c_tape_bytes r9.2.1) H → va_D A (w_X3_readSite E a_ a_tape a_rules a_places a_steps a_tape_bytes c_siteCount c_stepCount c_seenRules r9.2.2.1 c_wordStart r9.2.2.2.1 r9.2.2.2.2 c_tape_length c_tape_bytes r9.2.1) → va_S A s.heap H locs → lv_has ls 2 [(0, .ref a_)] → W p l e ({ frames := 3, cells := 0, slots := 0, locals := 68 } : Room) s m #[Value.ref a_] below meth c H locs 0 0 Q (F0 m 79 ls [])))) (fun u9 xx hF hC hE => wb_X3_readSite_20 l E K (c_stepCount := c_stepCount) (c_seenRules := c_seenRules) (c_wordStart := c_wordStart) (c_tape_length := c_tape_length) (c_tape_bytes := c_tape_bytes) (x1 := u9.1) (c_places := u9.2.1) (c_siteCount := c_siteCount) (c_at := u9.2.2.1) (c_number := u9.2.2.2.1) (c_failed := u9.2.2.2.2) hx hb hml hown hts hK hN hA (fun x1 c_places c_at c_number c_failed q9 => hC _ q9) (fun t9 c_places c_at c_number c_failed q9 => hE _ q9) hF) j9 (x1, c_places, c_at, c_number, c_failed) (t9', c_places', c_at', c_number', c_failed') hL hX

set_option maxHeartbeats 4000000 in
set_option maxRecDepth 100000 in
theorem f_X3_readSite (l : Launch) (E : EE) (sz : Nat) (K : Nat) {a_ a_tape a_rules a_places a_steps a_tape_bytes : Nat} {c_siteCount : Int32} {c_stepCount : Int32} {c_seenRules : Int32} {c_at : Int32} {c_wordStart : Int32} {c_number : Int32} {c_failed : Int32} {c_tape_length : Int32} {c_tape_bytes : Nat → Int32} {c_places : Nat → Int32} {rr : Int32} {n_places : Nat → Int32} {n_siteCount : Int32} {n_at : Int32} {n_number : Int32} {n_failed : Int32} (hF : F_X3_readSite K c_tape_bytes c_tape_length c_places c_siteCount c_at c_wordStart c_number c_failed = some (rr, n_places, n_siteCount, n_at, n_number, n_failed)) : Met l yX3_readSite v_f_X3_readSite (({ frames := 3, cells := 0, slots := 0, locals := 68 } : Room)) (va_Pc [.ref a_] (pW E sz (w_X3_readSite E a_ a_tape a_rules a_places a_steps a_tape_bytes c_siteCount c_stepCount c_seenRules c_at c_wordStart c_number c_failed c_tape_length c_tape_bytes c_places))) (va_Qi (fun (q : Int32) (_u : Unit) => q = rr ∧ (q = 0 ∨ q = 1)) (fun (_u : Unit) tt => va_P E.1 vwCl (w_X3_readSite E a_ a_tape a_rules a_places a_steps a_tape_bytes n_siteCount c_stepCount c_seenRules n_at c_wordStart n_number n_failed c_tape_length c_tape_bytes n_places) tt.heap ∧ va_D (va_A (w_X3_readSite E a_ a_tape a_rules a_places a_steps a_tape_bytes c_siteCount c_stepCount c_seenRules c_at c_wordStart c_number c_failed c_tape_length c_tape_bytes c_places) sz) (w_X3_readSite E a_ a_tape a_rules a_places a_steps a_tape_bytes n_siteCount c_stepCount c_seenRules n_at c_wordStart n_number n_failed c_tape_length c_tape_bytes n_places)) (va_A (w_X3_readSite E a_ a_tape a_rules a_places a_steps a_tape_bytes c_siteCount c_stepCount c_seenRules c_at c_wordStart c_number c_failed c_tape_length c_tape_bytes c_places) sz)) 0 0 (va_A (w_X3_readSite E a_ a_tape a_rules a_places a_steps a_tape_bytes c_siteCount c_stepCount c_seenRules c_at c_wordStart c_number c_failed c_tape_length c_tape_bytes c_places) sz) := by
  refine Met.ofW (cc := cX3_readSite) (maxL := 2) (ret := (some .boolean)) (by decide) rfl ?_
  intro p e s m args below meth c s₁ B hml hv
  obtain ⟨rfl, hsz, ⟨hK, hN⟩, hP, hD0⟩ := hv
  have hx := B.exec
  have hb := B.bytes
  have hr := B.returns
  have hts := atoms_spec (ws := v_f_X3_readSite) B.pre
  have hown : s.vm.findClass RX3 = some m.cls := own_of hd_X3_readSite.1 (findClass_of_methodNamed B.named)
  have hlocks : meth.locks = false := B.notSynchronized
  subst hsz
  have hD := hD0.self (sz := s.heap.size)
  generalize hAe : va_A (w_X3_readSite E a_ a_tape a_rules a_places a_steps a_tape_bytes c_siteCount c_stepCount c_seenRules c_at c_wordStart c_number c_failed c_tape_length c_tape_bytes c_places) s.heap.size = A at hD ⊢
  have hA : ∀ q : Nat, s.heap.size ≤ q → A q := fun q h => by rw [← hAe]; exact Or.inr h
  have hS : va_S A s.heap s.heap [] := va_S.rf
  have hl := lv_entry ([.ref a_]) (n := 2) (Nat.le_of_ble_eq_true rfl)
  rw [lg_entry_eq]
  generalize (lg_sl ([.ref a_]) ++ List.replicate (2 - (lg_sl ([.ref a_])).length) Slot.unset).toArray = ls at hl ⊢
  have hl : lv_has ls 2 [(0, .ref a_)] := hl
  obtain ⟨Q, hQ⟩ : ∃ Q : State → Prop, Q = MQ below (va_Qi (fun (q : Int32) (_u : Unit) => q = rr ∧ (q = 0 ∨ q = 1)) (fun (_u : Unit) tt => va_P E.1 vwCl (w_X3_readSite E a_ a_tape a_rules a_places a_steps a_tape_bytes n_siteCount c_stepCount c_seenRules n_at c_wordStart n_number n_failed c_tape_length c_tape_bytes n_places) tt.heap ∧ va_D A (w_X3_readSite E a_ a_tape a_rules a_places a_steps a_tape_bytes n_siteCount c_stepCount c_seenRules n_at c_wordStart n_number n_failed c_tape_length c_tape_bytes n_places)) A) #[Value.ref a_] s 0 0 A := ⟨_, rfl⟩
  rw [← hQ]
  change W p l e ({ frames := 3, cells := 0, slots := 0, locals := 68 } : Room) s m #[Value.ref a_] below meth c s.heap [] 0 0 Q (F0 m 0 ls [])
  suffices hh9 : ∀ (H : Heap) (locs : List Loc), va_P E.1 vwCl (w_X3_readSite E a_ a_tape a_rules a_places a_steps a_tape_bytes c_siteCount c_stepCount c_seenRules c_at c_wordStart c_number c_failed c_tape_length c_tape_bytes c_places) H → va_D A (w_X3_readSite E a_ a_tape a_rules a_places a_steps a_tape_bytes c_siteCount c_stepCount c_seenRules c_at c_wordStart c_number c_failed c_tape_length c_tape_bytes c_places) → va_S A s.heap H locs → W p l e ({ frames := 3, cells := 0, slots := 0, locals := 68 } : Room) s m #[Value.ref a_] below meth c H locs 0 0 Q (F0 m 0 ls []) from hh9 s.heap [] hP hD hS
  clear hP hD hS
  intro H locs hP hD hS
  have h9 := fixPD (ws' := [k_X3 a_ a_tape a_rules a_places a_steps c_siteCount c_stepCount c_seenRules c_at c_wordStart c_number c_failed, k_X6 a_tape a_tape_bytes c_tape_length, k_B E a_tape_bytes 320 c_tape_bytes, k_I E a_places 16 c_places]) hP hD rfl
  clear hP hD
  obtain ⟨hP, hD⟩ := h9
  unfold F_X3_readSite at hF
  refine lv_aload_n hx hb (dq_42 0 bcX3_readSite_0 (j := 0) rfl rfl) rfl (lv_at hl 0 rfl) ?_
  refine gt_X3_4 (v := .int c_siteCount) hx hb hts i_f_X3_readSite_X3 hown hK hP 0 rfl (hts (.fieldLink RX3 21 "HushWatch$Reader" "siteCount" "I") (List.mem_of_getElem? (i := 1) rfl)) rfl (dq_180 0 bcX3_readSite_0 (j := 1) (i := 21) rfl rfl rfl) ?_
  refine lv_bipush (v := 8) hx hb (dq_16 0 bcX3_readSite_0 (j := 4) (i := 8) rfl rfl rfl) (by decide) ?_
  refine lv_icmp_lt (tgt := 18) hx hb (dq_161 0 bcX3_readSite_0 (j := 6) (i := 12) rfl rfl rfl) (by decide) (fun c_1 => ?_) (fun c_1 => ?_)
  ·
    replace hF := ip c_1 hF
    refine lv_iconst (v := 0) hx hb (dq_3 0 bcX3_readSite_0 (j := 18) rfl rfl) (by decide) ?_
    refine lv_istore_n (lv' := [(1, .int (0 : Int32)), (0, .ref a_)]) hx hb (dq_60 0 bcX3_readSite_0 (j := 19) rfl rfl) rfl hl (by decide) rfl (fun ls hl => ?_)
    replace hF := bd5_s hF
    obtain ⟨t_19, c_places_20, c_at_21, c_number_22, c_failed_23, hL_24, hF⟩ := hF
    refine lw_X3_readSite_20 l E K (c_stepCount := c_stepCount) (c_seenRules := c_seenRules) (c_wordStart := c_wordStart) (c_tape_length := c_tape_length) (c_tape_bytes := c_tape_bytes) (c_siteCount := c_siteCount) hx hb hml hown hts hK hN hA K (0 : Int32) c_places c_at c_number c_failed t_19 c_places_20 c_at_21 c_number_22 c_failed_23 hL_24 ⟨?_, ?_, ?_⟩ H locs ls (hP.sub [0, 1, 2, 3] rfl) (hD.sub [0, 1, 2, 3] (by decide) rfl) hS (lv_sub hl [1, 0] rfl)
    ·
      intro t9
      replace hF := ip t9 hF
      intro H locs ls hP hD hS hl
      have h9 := fixPD (ws' := [k_X3 a_ a_tape a_rules a_places a_steps c_siteCount c_stepCount c_seenRules c_at_21 c_wordStart c_number_22 c_failed_23, k_X6 a_tape a_tape_bytes c_tape_length, k_B E a_tape_bytes 320 c_tape_bytes, k_I E a_places 16 c_places_20]) hP hD rfl
      clear hP hD
      obtain ⟨hP, hD⟩ := h9
      refine lv_iconst (v := 0) hx hb (dq_3 0 bcX3_readSite_0 (j := 39) rfl rfl) (by decide) ?_
      rw [hQ]
      have h9 := fin9 (P := fun u9 : Int32 × (Nat → Int32) × Int32 × Int32 × Int32 × Int32 => (0 : Int32) = u9.1 ∧ va_P E.1 vwCl (w_X3_readSite E a_ a_tape a_rules a_places a_steps a_tape_bytes u9.2.2.1 c_stepCount c_seenRules u9.2.2.2.1 c_wordStart u9.2.2.2.2.1 u9.2.2.2.2.2 c_tape_length c_tape_bytes u9.2.1) H ∧ va_D A (w_X3_readSite E a_ a_tape a_rules a_places a_steps a_tape_bytes u9.2.2.1 c_stepCount c_seenRules u9.2.2.2.1 c_wordStart u9.2.2.2.2.1 u9.2.2.2.2.2 c_tape_length c_tape_bytes u9.2.1)) hF ⟨rfl, hP, hD⟩
      obtain ⟨e9_0, hP9, hD9⟩ := h9
      exact W.zret (v := (0 : Int32)) hx hb hr rfl (fun tt ht hW => ⟨⟨_, (), rfl, ⟨e9_0, Or.inl rfl⟩, ht ▸ hP9, hD9⟩, hS.F ht⟩) hS.2.2 (dq_172 0 bcX3_readSite_0 (j := 40) rfl rfl)
    ·
      intro t9
      replace hF := inn (show ¬ t_19 = 0 by omega) hF
      replace hF := ip t9 hF
      intro H locs ls hP hD hS hl
      have h9 := fixPD (ws' := [k_X3 a_ a_tape a_rules a_places a_steps c_siteCount c_stepCount c_seenRules c_at_21 c_wordStart c_number_22 c_failed_23, k_X6 a_tape a_tape_bytes c_tape_length, k_B E a_tape_bytes 320 c_tape_bytes, k_I E a_places 16 c_places_20]) hP hD rfl
      clear hP hD
      obtain ⟨hP, hD⟩ := h9
      refine lv_iconst (v := 0) hx hb (dq_3 48 bcX3_readSite_1 (j := 6) rfl rfl) (by decide) ?_
      rw [hQ]
      have h9 := fin9 (P := fun u9 : Int32 × (Nat → Int32) × Int32 × Int32 × Int32 × Int32 => (0 : Int32) = u9.1 ∧ va_P E.1 vwCl (w_X3_readSite E a_ a_tape a_rules a_places a_steps a_tape_bytes u9.2.2.1 c_stepCount c_seenRules u9.2.2.2.1 c_wordStart u9.2.2.2.2.1 u9.2.2.2.2.2 c_tape_length c_tape_bytes u9.2.1) H ∧ va_D A (w_X3_readSite E a_ a_tape a_rules a_places a_steps a_tape_bytes u9.2.2.1 c_stepCount c_seenRules u9.2.2.2.1 c_wordStart u9.2.2.2.2.1 u9.2.2.2.2.2 c_tape_length c_tape_bytes u9.2.1)) hF ⟨rfl, hP, hD⟩
      obtain ⟨e9_0, hP9, hD9⟩ := h9
      exact W.zret (v := (0 : Int32)) hx hb hr rfl (fun tt ht hW => ⟨⟨_, (), rfl, ⟨e9_0, Or.inl rfl⟩, ht ▸ hP9, hD9⟩, hS.F ht⟩) hS.2.2 (dq_172 48 bcX3_readSite_1 (j := 7) rfl rfl)
    ·
      intro t9
      replace hF := inn (show ¬ t_19 = 0 by omega) hF
      replace hF := inn (show ¬ t_19 = 1 by omega) hF
      replace hF := ip t9 hF
      intro H locs ls hP hD hS hl
      have h9 := fixPD (ws' := [k_X3 a_ a_tape a_rules a_places a_steps c_siteCount c_stepCount c_seenRules c_at_21 c_wordStart c_number_22 c_failed_23, k_X6 a_tape a_tape_bytes c_tape_length, k_B E a_tape_bytes 320 c_tape_bytes, k_I E a_places 16 c_places_20]) hP hD rfl
      clear hP hD
      obtain ⟨hP, hD⟩ := h9
      refine lv_aload_n hx hb (dq_42 48 bcX3_readSite_1 (j := 31) rfl rfl) rfl (lv_at hl 0 rfl) ?_
      refine lv_dup hx hb (dq_89 48 bcX3_readSite_1 (j := 32) rfl rfl) rfl ?_
      refine gt_X3_4 (v := .int c_siteCount) hx hb hts i_f_X3_readSite_X3 hown hK hP 0 rfl (hts (.fieldLink RX3 21 "HushWatch$Reader" "siteCount" "I") (List.mem_of_getElem? (i := 1) rfl)) rfl (dq_180 48 bcX3_readSite_1 (j := 33) (i := 21) rfl rfl rfl) ?_
      refine lv_iconst (v := 1) hx hb (dq_4 48 bcX3_readSite_1 (j := 36) rfl rfl) (by decide) ?_
      refine lv_iadd hx hb (dq_96 48 bcX3_readSite_1 (j := 37) rfl rfl) ?_
      refine pt_X3_4 (v := .int (c_siteCount + (1 : Int32))) hx hb hts i_f_X3_readSite_X3 hown hK hP hD hS 0 rfl (hts (.fieldLink RX3 21 "HushWatch$Reader" "siteCount" "I") (List.mem_of_getElem? (i := 1) rfl)) rfl rfl (Nat.le_of_ble_eq_true rfl) (dq_181 48 bcX3_readSite_1 (j := 38) (i := 21) rfl rfl rfl) (fun H locs hP hD hS => ?_)
      have h9 := fixPD (ws' := [k_X3 a_ a_tape a_rules a_places a_steps (c_siteCount + (1 : Int32)) c_stepCount c_seenRules c_at_21 c_wordStart c_number_22 c_failed_23, k_X6 a_tape a_tape_bytes c_tape_length, k_B E a_tape_bytes 320 c_tape_bytes, k_I E a_places 16 c_places_20]) hP hD rfl
      clear hP hD
      obtain ⟨hP, hD⟩ := h9
      refine lv_iconst (v := 1) hx hb (dq_4 48 bcX3_readSite_1 (j := 41) rfl rfl) (by decide) ?_
      rw [hQ]
      have h9 := fin9 (P := fun u9 : Int32 × (Nat → Int32) × Int32 × Int32 × Int32 × Int32 => (1 : Int32) = u9.1 ∧ va_P E.1 vwCl (w_X3_readSite E a_ a_tape a_rules a_places a_steps a_tape_bytes u9.2.2.1 c_stepCount c_seenRules u9.2.2.2.1 c_wordStart u9.2.2.2.2.1 u9.2.2.2.2.2 c_tape_length c_tape_bytes u9.2.1) H ∧ va_D A (w_X3_readSite E a_ a_tape a_rules a_places a_steps a_tape_bytes u9.2.2.1 c_stepCount c_seenRules u9.2.2.2.1 c_wordStart u9.2.2.2.2.1 u9.2.2.2.2.2 c_tape_length c_tape_bytes u9.2.1)) hF ⟨rfl, hP, hD⟩
      obtain ⟨e9_0, hP9, hD9⟩ := h9
      exact W.zret (v := (1 : Int32)) hx hb hr rfl (fun tt ht hW => ⟨⟨_, (), rfl, ⟨e9_0, Or.inr rfl⟩, ht ▸ hP9, hD9⟩, hS.F ht⟩) hS.2.2 (dq_172 48 bcX3_readSite_1 (j := 42) rfl rfl)
  ·
    replace hF := inn c_1 hF
    refine lv_aload_n hx hb (dq_42 0 bcX3_readSite_0 (j := 9) rfl rfl) rfl (lv_at hl 0 rfl) ?_
    refine lv_aload_n hx hb (dq_42 0 bcX3_readSite_0 (j := 10) rfl rfl) rfl (lv_at hl 0 rfl) ?_
    refine gt_X3_8 (v := .int c_wordStart) hx hb hts i_f_X3_readSite_X3 hown hK hP 0 rfl (hts (.fieldLink RX3 34 "HushWatch$Reader" "wordStart" "I") (List.mem_of_getElem? (i := 4) rfl)) rfl (dq_180 0 bcX3_readSite_0 (j := 11) (i := 34) rfl rfl rfl) ?_
    replace hF := bd2_s hF
    obtain ⟨r_25, w_26, hc_27, hF⟩ := hF
    obtain ⟨hPc, hDc, hFc⟩ := wcut (wc := (w_X3_failAt E a_ a_tape a_rules a_places a_steps c_siteCount c_stepCount c_seenRules c_at c_wordStart c_number c_failed)) hP hD hS hA [0] (by decide) rfl
    have hrc := va_recv hK hPc (ci := 4) (q0 := 0) rfl rfl
    refine cE_z (wc := (w_X3_failAt E a_ a_tape a_rules a_places a_steps c_siteCount c_stepCount c_seenRules c_at c_wordStart c_number c_failed)) (wr := [k_X6 a_tape a_tape_bytes c_tape_length, k_B E a_tape_bytes 320 c_tape_bytes, k_I E a_places 16 c_places]) (w1 := (w_X3_failAt E a_ a_tape a_rules a_places a_steps c_siteCount c_stepCount c_seenRules c_at c_wordStart c_number w_26)) (va_runV (As := [.int c_wordStart]) (rest := [])  ⟨hx, hb, hml, hown, hts⟩ (f_X3_failAt l E H.size (a_ := a_) (a_tape := a_tape) (a_rules := a_rules) (a_places := a_places) (a_steps := a_steps) (p1 := c_wordStart) (c_siteCount := c_siteCount) (c_stepCount := c_stepCount) (c_seenRules := c_seenRules) (c_at := c_at) (c_wordStart := c_wordStart) (c_number := c_number) (c_failed := c_failed) hc_27) (cwV 1 hts g_f_X3_readSite_f_X3_failAt_87 rfl rfl rfl hd_X3_failAt ⟨Nat.le_of_ble_eq_true rfl, Nat.le_of_ble_eq_true rfl⟩) ⟨pW.blind, hrc, (pW.pre ⟨hK, hN⟩ hPc hDc)⟩ rfl rfl hl.1 rfl (lv_room (Nat.le_of_ble_eq_true rfl)) (dq_182 0 bcX3_readSite_0 (j := 14) (i := 87) rfl rfl rfl) ⟨Nat.le_of_ble_eq_true rfl, Nat.le_of_ble_eq_true rfl⟩) hS hFc hP hD [0] [1, 2, 3] rfl rfl (by decide) (by decide) (fun hb_28 H locs hP hD hS => ?_)
    have h9 := fixPD (ws' := [k_X6 a_tape a_tape_bytes c_tape_length, k_B E a_tape_bytes 320 c_tape_bytes, k_I E a_places 16 c_places, k_X3 a_ a_tape a_rules a_places a_steps c_siteCount c_stepCount c_seenRules c_at c_wordStart c_number w_26]) hP hD rfl
    clear hP hD
    obtain ⟨hP, hD⟩ := h9
    rw [hQ]
    have h9 := fin9 (P := fun u9 : Int32 × (Nat → Int32) × Int32 × Int32 × Int32 × Int32 => r_25 = u9.1 ∧ va_P E.1 vwCl (w_X3_readSite E a_ a_tape a_rules a_places a_steps a_tape_bytes u9.2.2.1 c_stepCount c_seenRules u9.2.2.2.1 c_wordStart u9.2.2.2.2.1 u9.2.2.2.2.2 c_tape_length c_tape_bytes u9.2.1) H ∧ va_D A (w_X3_readSite E a_ a_tape a_rules a_places a_steps a_tape_bytes u9.2.2.1 c_stepCount c_seenRules u9.2.2.2.1 c_wordStart u9.2.2.2.2.1 u9.2.2.2.2.2 c_tape_length c_tape_bytes u9.2.1)) hF ⟨rfl, hP.sub [3, 0, 1, 2] rfl, hD.sub [3, 0, 1, 2] (by decide) rfl⟩
    obtain ⟨e9_0, hP9, hD9⟩ := h9
    exact W.zret (v := r_25) hx hb hr (nar_bool hb_28) (fun tt ht hW => ⟨⟨_, (), rfl, ⟨e9_0, hb_28⟩, ht ▸ hP9, hD9⟩, hS.F ht⟩) hS.2.2 (dq_172 0 bcX3_readSite_0 (j := 17) rfl rfl)
