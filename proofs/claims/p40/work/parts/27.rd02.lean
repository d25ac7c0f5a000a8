noncomputable def blX3_ruleOfWord_0 : List Nat := [42, 18, 100, 182, 0, 76, 153, 0, 5, 3, 172, 42, 18, 102, 182, 0, 76, 153, 0, 5, 4, 172, 42, 18, 104, 182, 0, 76, 153, 0, 7, 5, 167, 0, 4, 2, 172]
set_option maxRecDepth 100000 in
theorem bcX3_ruleOfWord_0 : ((cX3_ruleOfWord.data.toList.drop 0).take blX3_ruleOfWord_0.length).map UInt8.toNat = blX3_ruleOfWord_0 := by decide +kernel
noncomputable def blX3_readLaw_0 : List Nat := [42, 182, 0, 71, 154, 0, 5, 3, 172, 42, 42, 182, 0, 129, 181, 0, 37, 42, 180, 0, 37, 2, 160, 0, 14, 42, 42, 180, 0, 34, 182, 0, 87, 153, 0, 7, 4, 167, 0, 4, 3, 172]
set_option maxRecDepth 100000 in
theorem bcX3_readLaw_0 : ((cX3_readLaw.data.toList.drop 0).take blX3_readLaw_0.length).map UInt8.toNat = blX3_readLaw_0 := by decide +kernel
noncomputable def blX3_readClause_2 : List Nat := [96, 167, 0, 11, 42, 4, 17, 39, 15, 182, 0, 96, 61, 28, 153, 0, 13, 42, 180, 0, 9, 27, 42, 180, 0, 37, 79, 28, 172]
set_option maxRecDepth 100000 in
theorem bcX3_readClause_2 : ((cX3_readClause.data.toList.drop 96).take blX3_readClause_2.length).map UInt8.toNat = blX3_readClause_2 := by decide +kernel
noncomputable def blX3_readClause_0 : List Nat := [42, 182, 0, 71, 154, 0, 5, 3, 172, 42, 18, 74, 182, 0, 76, 153, 0, 8, 42, 182, 0, 80, 172, 42, 182, 0, 83, 60, 27, 155, 0, 23, 27, 42, 180, 0, 9, 190, 162, 0, 14, 42, 180, 0, 28, 27, 122, 4, 126, 153, 0]
set_option maxRecDepth 100000 in
theorem bcX3_readClause_0 : ((cX3_readClause.data.toList.drop 0).take blX3_readClause_0.length).map UInt8.toNat = blX3_readClause_0 := by decide +kernel
noncomputable def blX3_readClause_1 : List Nat := [126, 153, 0, 12, 42, 42, 180, 0, 34, 182, 0, 87, 172, 42, 89, 180, 0, 28, 4, 27, 120, 128, 181, 0, 28, 27, 154, 0, 10, 42, 182, 0, 91, 167, 0, 27, 27, 4, 160, 0, 14, 42, 18, 94, 18, 95, 182, 0, 96, 167, 0]
set_option maxRecDepth 100000 in
theorem bcX3_readClause_1 : ((cX3_readClause.data.toList.drop 48).take blX3_readClause_1.length).map UInt8.toNat = blX3_readClause_1 := by decide +kernel
noncomputable def blX3_start_0 : List Nat := [42, 180, 0, 9, 3, 3, 79, 42, 180, 0, 9, 4, 17, 3, 232, 79, 42, 180, 0, 9, 5, 16, 100, 79, 42, 3, 181, 0, 21, 42, 3, 181, 0, 25, 42, 3, 181, 0, 28, 42, 3, 181, 0, 31, 42, 2, 181, 0, 40, 177]
set_option maxRecDepth 100000 in
theorem bcX3_start_0 : ((cX3_start.data.toList.drop 0).take blX3_start_0.length).map UInt8.toNat = blX3_start_0 := by decide +kernel
noncomputable def blX3_start_1 : List Nat := [40, 177]
set_option maxRecDepth 100000 in
theorem bcX3_start_1 : ((cX3_start.data.toList.drop 48).take blX3_start_1.length).map UInt8.toNat = blX3_start_1 := by decide +kernel
noncomputable def blX3_stepOfWord_0 : List Nat := [42, 18, 121, 182, 0, 76, 153, 0, 5, 3, 172, 42, 18, 123, 182, 0, 76, 153, 0, 5, 4, 172, 42, 18, 102, 182, 0, 76, 153, 0, 5, 5, 172, 42, 18, 100, 182, 0, 76, 153, 0, 5, 6, 172, 42, 18, 125, 182, 0, 76, 153]
set_option maxRecDepth 100000 in
theorem bcX3_stepOfWord_0 : ((cX3_stepOfWord.data.toList.drop 0).take blX3_stepOfWord_0.length).map UInt8.toNat = blX3_stepOfWord_0 := by decide +kernel
noncomputable def blX3_stepOfWord_1 : List Nat := [0, 76, 153, 0, 5, 7, 172, 42, 18, 104, 182, 0, 76, 153, 0, 5, 8, 172, 42, 18, 127, 182, 0, 76, 153, 0, 8, 16, 6, 167, 0, 4, 2, 172]
set_option maxRecDepth 100000 in
theorem bcX3_stepOfWord_1 : ((cX3_stepOfWord.data.toList.drop 48).take blX3_stepOfWord_1.length).map UInt8.toNat = blX3_stepOfWord_1 := by decide +kernel
noncomputable def blX3_startStep_0 : List Nat := [42, 3, 27, 182, 0, 116, 4, 61, 28, 7, 162, 0, 16, 42, 28, 18, 120, 182, 0, 116, 132, 2, 1, 167, 255, 241, 177]
set_option maxRecDepth 100000 in
theorem bcX3_startStep_0 : ((cX3_startStep.data.toList.drop 0).take blX3_startStep_0.length).map UInt8.toNat = blX3_startStep_0 := by decide +kernel

def F_X3_ruleOfWord (K : Nat) (c_tape_bytes : Nat → Int32) (c_tape_length : Int32) (c_at : Int32) (c_wordStart : Int32) : Option (Int32) :=
  bd1 (F_X3_isWord K 1 c_tape_bytes c_tape_length c_at c_wordStart) (fun r_1 => if r_1 = (0 : Int32) then bd1 (F_X3_isWord K 2 c_tape_bytes c_tape_length c_at c_wordStart) (fun r_5 => if r_5 = (0 : Int32) then bd1 (F_X3_isWord K 3 c_tape_bytes c_tape_length c_at c_wordStart) (fun r_9 => if r_9 = (0 : Int32) then some (-1 : Int32) else some (2 : Int32)) else some (1 : Int32)) else some (0 : Int32))
abbrev w_X3_ruleOfWord (E : EE) (a_ a_tape a_rules a_places a_steps a_tape_bytes : Nat) (c_siteCount : Int32) (c_stepCount : Int32) (c_seenRules : Int32) (c_at : Int32) (c_wordStart : Int32) (c_number : Int32) (c_failed : Int32) (c_tape_length : Int32) (c_tape_bytes : Nat → Int32) : va_W := [k_X3 a_ a_tape a_rules a_places a_steps c_siteCount c_stepCount c_seenRules c_at c_wordStart c_number c_failed, k_X6 a_tape a_tape_bytes c_tape_length, k_B E a_tape_bytes 320 c_tape_bytes]
def v_f_X3_ruleOfWord : List Cond := List.cons (.code yX3_ruleOfWord cX3_ruleOfWord 1 (some .int)) (HAppend.hAppend (α := List Cond) (β := List Cond) (γ := List Cond) [.methodLink RX3 76 yX3_isWord, .instanceMethod yX3_isWord, .selects RX3 yX3_isWord yX3_isWord, .initialized RX3] (HAppend.hAppend (α := List Cond) (β := List Cond) (γ := List Cond) v_f_X3_isWord []))
theorem gw_f_X3_ruleOfWord : v_f_X3_ruleOfWord.all goodWord = true := gw_c2 (by decide +kernel) (gw_ap gw_f_X3_isWord gw_nil)
theorem g_f_X3_ruleOfWord_f_X3_isWord_76 : GoodIn v_f_X3_ruleOfWord (wsV RX3 76 RX3 yX3_isWord v_f_X3_isWord) := goodIn_in gw_f_X3_ruleOfWord (in4 1 2 3 4 rfl rfl rfl rfl (fun _ h => List.mem_cons_of_mem _ (List.mem_append_right _ (List.mem_append_left _ h))))
theorem hd_X3_ruleOfWord : yX3_ruleOfWord.cls = RX3 ∧ yX3_ruleOfWord.cls ≠ "java/lang/invoke/MethodHandle" ∧ yX3_ruleOfWord.cls ≠ "java/lang/invoke/VarHandle" ∧ (parseMethodDescriptor yX3_ruleOfWord.desc).map (fun d => d.parameters.length) = some 0 := by decide +kernel
set_option maxHeartbeats 4000000 in
set_option maxRecDepth 100000 in
theorem f_X3_ruleOfWord (l : Launch) (E : EE) (K : Nat) (z9 : Nat → Nat) {a_ a_tape a_rules a_places a_steps a_tape_bytes : Nat} {c_siteCount : Int32} {c_stepCount : Int32} {c_seenRules : Int32} {c_at : Int32} {c_wordStart : Int32} {c_number : Int32} {c_failed : Int32} {c_tape_length : Int32} {c_tape_bytes : Nat → Int32} {rr : Int32} (hF : F_X3_ruleOfWord K c_tape_bytes c_tape_length c_at c_wordStart = some rr) : Met l yX3_ruleOfWord v_f_X3_ruleOfWord (({ frames := 5, cells := 0, slots := 0, locals := 107 } : Room)) (va_Pc [.ref a_] (qPZ E z9 (w_X3_ruleOfWord E a_ a_tape a_rules a_places a_steps a_tape_bytes c_siteCount c_stepCount c_seenRules c_at c_wordStart c_number c_failed c_tape_length c_tape_bytes))) (vp_Si (fun q : Int32 => q = rr)) 0 0 (fun _ => False) := by
  refine Met.ofW (cc := cX3_ruleOfWord) (maxL := 1) (ret := (some .int)) (by decide) rfl ?_
  intro p e s m args below meth c s₁ B hml hv
  obtain ⟨rfl, ⟨hK, hN⟩, hP, hZ⟩ := hv
  have hx := B.exec
  have hb := B.bytes
  have hr := B.returns
  have hts := atoms_spec (ws := v_f_X3_ruleOfWord) B.pre
  have hown : s.vm.findClass RX3 = some m.cls := own_of hd_X3_ruleOfWord.1 (findClass_of_methodNamed B.named)
  have hlocks : meth.locks = false := B.notSynchronized
  replace hP : va_P E.1 vwCl [k_X3 a_ a_tape a_rules a_places a_steps c_siteCount c_stepCount c_seenRules c_at c_wordStart c_number c_failed, k_X6 a_tape a_tape_bytes c_tape_length, k_B E a_tape_bytes 320 c_tape_bytes] s.heap := hP
  have hl := lv_entry ([.ref a_]) (n := 1) (Nat.le_of_ble_eq_true rfl)
  rw [lg_entry_eq]
  generalize (lg_sl ([.ref a_]) ++ List.replicate (1 - (lg_sl ([.ref a_])).length) Slot.unset).toArray = ls at hl ⊢
  have hl : lv_has ls 1 [(0, .ref a_)] := hl
  obtain ⟨Q, hQ⟩ : ∃ Q : State → Prop, Q = MQ below (vp_Si (fun q : Int32 => q = rr)) #[Value.ref a_] s 0 0 (fun _ => False) := ⟨_, rfl⟩
  rw [← hQ]
  change W p l e ({ frames := 5, cells := 0, slots := 0, locals := 107 } : Room) s m #[Value.ref a_] below meth c s.heap [] 0 0 Q (F0 m 0 ls [])
  unfold F_X3_ruleOfWord at hF
  refine lv_aload_n hx hb (dq_42 0 bcX3_ruleOfWord_0 (j := 0) rfl rfl) rfl (lv_at hl 0 rfl) ?_
  refine va_ldcS hx hb hown (ZZ.s1 hZ) (dq_18 0 bcX3_ruleOfWord_0 (j := 1) (i := 100) rfl rfl) ?_
  replace hF := bd1_s hF
  obtain ⟨r_1, hc_2, hF⟩ := hF
  have hPc : va_P E.1 vwCl (w_X3_isWord E a_ a_tape a_rules a_places a_steps a_tape_bytes c_siteCount c_stepCount c_seenRules c_at c_wordStart c_number c_failed c_tape_length c_tape_bytes) s.heap := hP.sub (ws' := [k_X3 a_ a_tape a_rules a_places a_steps c_siteCount c_stepCount c_seenRules c_at c_wordStart c_number c_failed, k_X6 a_tape a_tape_bytes c_tape_length, k_B E a_tape_bytes 320 c_tape_bytes]) [0, 1, 2] rfl
  have hrc := va_recv hK hPc (ci := 4) (q0 := 0) rfl rfl
  refine pE_z (va_runV (As := [.ref (z9 (20 + 1))]) (rest := [])  ⟨hx, hb, hml, hown, hts⟩ (f_X3_isWord l E K z9 (a_ := a_) (a_tape := a_tape) (a_rules := a_rules) (a_places := a_places) (a_steps := a_steps) (a_tape_bytes := a_tape_bytes) (p1 := 1) (c_siteCount := c_siteCount) (c_stepCount := c_stepCount) (c_seenRules := c_seenRules) (c_at := c_at) (c_wordStart := c_wordStart) (c_number := c_number) (c_failed := c_failed) (c_tape_length := c_tape_length) (c_tape_bytes := c_tape_bytes) hc_2) (cwV 1 hts g_f_X3_ruleOfWord_f_X3_isWord_76 rfl rfl rfl hd_X3_isWord ⟨Nat.le_of_ble_eq_true rfl, Nat.le_of_ble_eq_true rfl⟩) ⟨qPZ.blind, hrc, (qPZ.pre0 ⟨hK, hN⟩ hPc hZ)⟩ rfl rfl hl.1 rfl (lv_room (Nat.le_of_ble_eq_true rfl)) (dq_182 0 bcX3_ruleOfWord_0 (j := 3) (i := 76) rfl rfl rfl) ⟨Nat.le_of_ble_eq_true rfl, Nat.le_of_ble_eq_true rfl⟩) (fun hb_3 => ?_)
  refine lv_if_eq (tgt := 11) hx hb (dq_153 0 bcX3_ruleOfWord_0 (j := 6) (i := 5) rfl rfl rfl) (by decide) (fun c_4 => ?_) (fun c_4 => ?_)
  ·
    replace hF := ip c_4 hF
    refine lv_aload_n hx hb (dq_42 0 bcX3_ruleOfWord_0 (j := 11) rfl rfl) rfl (lv_at hl 0 rfl) ?_
    refine va_ldcS hx hb hown (ZZ.s2 hZ) (dq_18 0 bcX3_ruleOfWord_0 (j := 12) (i := 102) rfl rfl) ?_
    replace hF := bd1_s hF
    obtain ⟨r_5, hc_6, hF⟩ := hF
    have hPc : va_P E.1 vwCl (w_X3_isWord E a_ a_tape a_rules a_places a_steps a_tape_bytes c_siteCount c_stepCount c_seenRules c_at c_wordStart c_number c_failed c_tape_length c_tape_bytes) s.heap := hP.sub (ws' := [k_X3 a_ a_tape a_rules a_places a_steps c_siteCount c_stepCount c_seenRules c_at c_wordStart c_number c_failed, k_X6 a_tape a_tape_bytes c_tape_length, k_B E a_tape_bytes 320 c_tape_bytes]) [0, 1, 2] rfl
    have hrc := va_recv hK hPc (ci := 4) (q0 := 0) rfl rfl
    refine pE_z (va_runV (As := [.ref (z9 (20 + 2))]) (rest := [])  ⟨hx, hb, hml, hown, hts⟩ (f_X3_isWord l E K z9 (a_ := a_) (a_tape := a_tape) (a_rules := a_rules) (a_places := a_places) (a_steps := a_steps) (a_tape_bytes := a_tape_bytes) (p1 := 2) (c_siteCount := c_siteCount) (c_stepCount := c_stepCount) (c_seenRules := c_seenRules) (c_at := c_at) (c_wordStart := c_wordStart) (c_number := c_number) (c_failed := c_failed) (c_tape_length := c_tape_length) (c_tape_bytes := c_tape_bytes) hc_6) (cwV 1 hts g_f_X3_ruleOfWord_f_X3_isWord_76 rfl rfl rfl hd_X3_isWord ⟨Nat.le_of_ble_eq_true rfl, Nat.le_of_ble_eq_true rfl⟩) ⟨qPZ.blind, hrc, (qPZ.pre0 ⟨hK, hN⟩ hPc hZ)⟩ rfl rfl hl.1 rfl (lv_room (Nat.le_of_ble_eq_true rfl)) (dq_182 0 bcX3_ruleOfWord_0 (j := 14) (i := 76) rfl rfl rfl) ⟨Nat.le_of_ble_eq_true rfl, Nat.le_of_ble_eq_true rfl⟩) (fun hb_7 => ?_)
    refine lv_if_eq (tgt := 22) hx hb (dq_153 0 bcX3_ruleOfWord_0 (j := 17) (i := 5) rfl rfl rfl) (by decide) (fun c_8 => ?_) (fun c_8 => ?_)
    ·
      replace hF := ip c_8 hF
      refine lv_aload_n hx hb (dq_42 0 bcX3_ruleOfWord_0 (j := 22) rfl rfl) rfl (lv_at hl 0 rfl) ?_
      refine va_ldcS hx hb hown (ZZ.s3 hZ) (dq_18 0 bcX3_ruleOfWord_0 (j := 23) (i := 104) rfl rfl) ?_
      replace hF := bd1_s hF
      obtain ⟨r_9, hc_10, hF⟩ := hF
      have hPc : va_P E.1 vwCl (w_X3_isWord E a_ a_tape a_rules a_places a_steps a_tape_bytes c_siteCount c_stepCount c_seenRules c_at c_wordStart c_number c_failed c_tape_length c_tape_bytes) s.heap := hP.sub (ws' := [k_X3 a_ a_tape a_rules a_places a_steps c_siteCount c_stepCount c_seenRules c_at c_wordStart c_number c_failed, k_X6 a_tape a_tape_bytes c_tape_length, k_B E a_tape_bytes 320 c_tape_bytes]) [0, 1, 2] rfl
      have hrc := va_recv hK hPc (ci := 4) (q0 := 0) rfl rfl
      refine pE_z (va_runV (As := [.ref (z9 (20 + 3))]) (rest := [])  ⟨hx, hb, hml, hown, hts⟩ (f_X3_isWord l E K z9 (a_ := a_) (a_tape := a_tape) (a_rules := a_rules) (a_places := a_places) (a_steps := a_steps) (a_tape_bytes := a_tape_bytes) (p1 := 3) (c_siteCount := c_siteCount) (c_stepCount := c_stepCount) (c_seenRules := c_seenRules) (c_at := c_at) (c_wordStart := c_wordStart) (c_number := c_number) (c_failed := c_failed) (c_tape_length := c_tape_length) (c_tape_bytes := c_tape_bytes) hc_10) (cwV 1 hts g_f_X3_ruleOfWord_f_X3_isWord_76 rfl rfl rfl hd_X3_isWord ⟨Nat.le_of_ble_eq_true rfl, Nat.le_of_ble_eq_true rfl⟩) ⟨qPZ.blind, hrc, (qPZ.pre0 ⟨hK, hN⟩ hPc hZ)⟩ rfl rfl hl.1 rfl (lv_room (Nat.le_of_ble_eq_true rfl)) (dq_182 0 bcX3_ruleOfWord_0 (j := 25) (i := 76) rfl rfl rfl) ⟨Nat.le_of_ble_eq_true rfl, Nat.le_of_ble_eq_true rfl⟩) (fun hb_11 => ?_)
      refine lv_if_eq (tgt := 35) hx hb (dq_153 0 bcX3_ruleOfWord_0 (j := 28) (i := 7) rfl rfl rfl) (by decide) (fun c_12 => ?_) (fun c_12 => ?_)
      ·
        replace hF := ip c_12 hF
        refine lv_iconst (v := -1) hx hb (dq_2 0 bcX3_ruleOfWord_0 (j := 35) rfl rfl) (by decide) ?_
        rw [hQ]
        obtain e9_0 := inj1 hF
        exact W.iret (v := (-1 : Int32)) hx hb hr (fun tt ht hW => ⟨_, rfl, e9_0, ht⟩) (fun _ h => by cases h) (dq_172 0 bcX3_ruleOfWord_0 (j := 36) rfl rfl)
      ·
        replace hF := inn c_12 hF
        refine lv_iconst (v := 2) hx hb (dq_5 0 bcX3_ruleOfWord_0 (j := 31) rfl rfl) (by decide) ?_
        refine lv_goto (tgt := 36) hx hb (dq_167 0 bcX3_ruleOfWord_0 (j := 32) (i := 4) rfl rfl rfl) (by decide) ?_
        rw [hQ]
        obtain e9_0 := inj1 hF
        exact W.iret (v := (2 : Int32)) hx hb hr (fun tt ht hW => ⟨_, rfl, e9_0, ht⟩) (fun _ h => by cases h) (dq_172 0 bcX3_ruleOfWord_0 (j := 36) rfl rfl)
    ·
      replace hF := inn c_8 hF
      refine lv_iconst (v := 1) hx hb (dq_4 0 bcX3_ruleOfWord_0 (j := 20) rfl rfl) (by decide) ?_
      rw [hQ]
      obtain e9_0 := inj1 hF
      exact W.iret (v := (1 : Int32)) hx hb hr (fun tt ht hW => ⟨_, rfl, e9_0, ht⟩) (fun _ h => by cases h) (dq_172 0 bcX3_ruleOfWord_0 (j := 21) rfl rfl)
  ·
    replace hF := inn c_4 hF
    refine lv_iconst (v := 0) hx hb (dq_3 0 bcX3_ruleOfWord_0 (j := 9) rfl rfl) (by decide) ?_
    rw [hQ]
    obtain e9_0 := inj1 hF
    exact W.iret (v := (0 : Int32)) hx hb hr (fun tt ht hW => ⟨_, rfl, e9_0, ht⟩) (fun _ h => by cases h) (dq_172 0 bcX3_ruleOfWord_0 (j := 10) rfl rfl)

def F_X3_readLaw (K : Nat) (c_tape_bytes : Nat → Int32) (c_tape_length : Int32) (c_at : Int32) (c_wordStart : Int32) (c_number : Int32) (c_failed : Int32) : Option (Int32 × Int32 × Int32 × Int32 × Int32) :=
  bd4 (F_X3_readWord K c_tape_bytes c_tape_length c_at c_wordStart c_failed) (fun r_1 w_2 w_3 w_4 => if r_1 = (0 : Int32) then some ((0 : Int32), w_2, w_3, c_number, w_4) else bd1 (F_X3_lawOfWord K c_tape_bytes c_tape_length w_2 w_3) (fun r_8 => if r_8 = (-1 : Int32) then bd2 (F_X3_failAt w_3 w_4) (fun r_11 w_12 => if r_11 = (0 : Int32) then some ((0 : Int32), w_2, w_3, r_8, w_12) else some ((1 : Int32), w_2, w_3, r_8, w_12)) else some ((1 : Int32), w_2, w_3, r_8, w_4)))
abbrev w_X3_readLaw (E : EE) (a_ a_tape a_rules a_places a_steps a_tape_bytes : Nat) (c_siteCount : Int32) (c_stepCount : Int32) (c_seenRules : Int32) (c_at : Int32) (c_wordStart : Int32) (c_number : Int32) (c_failed : Int32) (c_tape_length : Int32) (c_tape_bytes : Nat → Int32) : va_W := [k_X3 a_ a_tape a_rules a_places a_steps c_siteCount c_stepCount c_seenRules c_at c_wordStart c_number c_failed, k_X6 a_tape a_tape_bytes c_tape_length, k_B E a_tape_bytes 320 c_tape_bytes]
def v_f_X3_readLaw : List Cond := List.cons (.code yX3_readLaw cX3_readLaw 1 (some .boolean)) (HAppend.hAppend (α := List Cond) (β := List Cond) (γ := List Cond) [.fieldLink RX3 37 "HushWatch$Reader" "number" "I", .fieldLink RX3 34 "HushWatch$Reader" "wordStart" "I", .methodLink RX3 71 yX3_readWord, .instanceMethod yX3_readWord, .selects RX3 yX3_readWord yX3_readWord, .initialized RX3, .methodLink RX3 129 yX3_lawOfWord, .instanceMethod yX3_lawOfWord, .selects RX3 yX3_lawOfWord yX3_lawOfWord, .methodLink RX3 87 yX3_failAt, .instanceMethod yX3_failAt, .selects RX3 yX3_failAt yX3_failAt] (HAppend.hAppend (α := List Cond) (β := List Cond) (γ := List Cond) v_f_X3_readWord (HAppend.hAppend (α := List Cond) (β := List Cond) (γ := List Cond) v_f_X3_lawOfWord (HAppend.hAppend (α := List Cond) (β := List Cond) (γ := List Cond) wsX30 (HAppend.hAppend (α := List Cond) (β := List Cond) (γ := List Cond) v_f_X3_failAt [])))))
theorem gw_f_X3_readLaw : v_f_X3_readLaw.all goodWord = true := gw_c2 (by decide +kernel) (gw_ap gw_f_X3_readWord (gw_ap gw_f_X3_lawOfWord (gw_ap gw_wsX30 (gw_ap gw_f_X3_failAt gw_nil))))
theorem i_f_X3_readLaw_X3 : ∀ w ∈ wsX30, w ∈ v_f_X3_readLaw := fun _ h => List.mem_cons_of_mem _ (List.mem_append_right _ (List.mem_append_right _ (List.mem_append_right _ (List.mem_append_left _ h))))
theorem g_f_X3_readLaw_f_X3_readWord_71 : GoodIn v_f_X3_readLaw (wsV RX3 71 RX3 yX3_readWord v_f_X3_readWord) := goodIn_in gw_f_X3_readLaw (in4 3 4 5 6 rfl rfl rfl rfl (fun _ h => List.mem_cons_of_mem _ (List.mem_append_right _ (List.mem_append_left _ h))))
theorem g_f_X3_readLaw_f_X3_lawOfWord_129 : GoodIn v_f_X3_readLaw (wsV RX3 129 RX3 yX3_lawOfWord v_f_X3_lawOfWord) := goodIn_in gw_f_X3_readLaw (in4 7 8 9 6 rfl rfl rfl rfl (fun _ h => List.mem_cons_of_mem _ (List.mem_append_right _ (List.mem_append_right _ (List.mem_append_left _ h)))))
theorem g_f_X3_readLaw_f_X3_failAt_87 : GoodIn v_f_X3_readLaw (wsV RX3 87 RX3 yX3_failAt v_f_X3_failAt) := goodIn_in gw_f_X3_readLaw (in4 10 11 12 6 rfl rfl rfl rfl (fun _ h => List.mem_cons_of_mem _ (List.mem_append_right _ (List.mem_append_right _ (List.mem_append_right _ (List.mem_append_right _ (List.mem_append_left _ h)))))))
theorem hd_X3_readLaw : yX3_readLaw.cls = RX3 ∧ yX3_readLaw.cls ≠ "java/lang/invoke/MethodHandle" ∧ yX3_readLaw.cls ≠ "java/lang/invoke/VarHandle" ∧ (parseMethodDescriptor yX3_readLaw.desc).map (fun d => d.parameters.length) = some 0 := by decide +kernel
set_option maxHeartbeats 4000000 in
set_option maxRecDepth 100000 in
theorem f_X3_readLaw (l : Launch) (E : EE) (sz : Nat) (K : Nat) (z9 : Nat → Nat) {a_ a_tape a_rules a_places a_steps a_tape_bytes : Nat} {c_siteCount : Int32} {c_stepCount : Int32} {c_seenRules : Int32} {c_at : Int32} {c_wordStart : Int32} {c_number : Int32} {c_failed : Int32} {c_tape_length : Int32} {c_tape_bytes : Nat → Int32} {rr : Int32} {n_at : Int32} {n_wordStart : Int32} {n_number : Int32} {n_failed : Int32} (hF : F_X3_readLaw K c_tape_bytes c_tape_length c_at c_wordStart c_number c_failed = some (rr, n_at, n_wordStart, n_number, n_failed)) : Met l yX3_readLaw v_f_X3_readLaw (({ frames := 6, cells := 0, slots := 0, locals := 127 } : Room)) (va_Pc [.ref a_] (qWZ E z9 sz (w_X3_readLaw E a_ a_tape a_rules a_places a_steps a_tape_bytes c_siteCount c_stepCount c_seenRules c_at c_wordStart c_number c_failed c_tape_length c_tape_bytes))) (va_Qi (fun (q : Int32) (_u : Unit) => q = rr ∧ (q = 0 ∨ q = 1)) (fun (_u : Unit) tt => va_P E.1 vwCl (w_X3_readLaw E a_ a_tape a_rules a_places a_steps a_tape_bytes c_siteCount c_stepCount c_seenRules n_at n_wordStart n_number n_failed c_tape_length c_tape_bytes) tt.heap ∧ va_D (va_A (w_X3_readLaw E a_ a_tape a_rules a_places a_steps a_tape_bytes c_siteCount c_stepCount c_seenRules c_at c_wordStart c_number c_failed c_tape_length c_tape_bytes) sz) (w_X3_readLaw E a_ a_tape a_rules a_places a_steps a_tape_bytes c_siteCount c_stepCount c_seenRules n_at n_wordStart n_number n_failed c_tape_length c_tape_bytes)) (va_A (w_X3_readLaw E a_ a_tape a_rules a_places a_steps a_tape_bytes c_siteCount c_stepCount c_seenRules c_at c_wordStart c_number c_failed c_tape_length c_tape_bytes) sz)) 0 0 (va_A (w_X3_readLaw E a_ a_tape a_rules a_places a_steps a_tape_bytes c_siteCount c_stepCount c_seenRules c_at c_wordStart c_number c_failed c_tape_length c_tape_bytes) sz) := by
  refine Met.ofW (cc := cX3_readLaw) (maxL := 1) (ret := (some .boolean)) (by decide) rfl ?_
  intro p e s m args below meth c s₁ B hml hv
  obtain ⟨rfl, hsz, ⟨hK, hN⟩, hP, hD0, hZ⟩ := hv
  have hx := B.exec
  have hb := B.bytes
  have hr := B.returns
  have hts := atoms_spec (ws := v_f_X3_readLaw) B.pre
  have hown : s.vm.findClass RX3 = some m.cls := own_of hd_X3_readLaw.1 (findClass_of_methodNamed B.named)
  have hlocks : meth.locks = false := B.notSynchronized
  subst hsz
  have hD := hD0.self (sz := s.heap.size)
  generalize hAe : va_A (w_X3_readLaw E a_ a_tape a_rules a_places a_steps a_tape_bytes c_siteCount c_stepCount c_seenRules c_at c_wordStart c_number c_failed c_tape_length c_tape_bytes) s.heap.size = A at hD hZ ⊢
  have hA : ∀ q : Nat, s.heap.size ≤ q → A q := fun q h => by rw [← hAe]; exact Or.inr h
  have hS : va_S A s.heap s.heap [] := va_S.rf
  have hl := lv_entry ([.ref a_]) (n := 1) (Nat.le_of_ble_eq_true rfl)
  rw [lg_entry_eq]
  generalize (lg_sl ([.ref a_]) ++ List.replicate (1 - (lg_sl ([.ref a_])).length) Slot.unset).toArray = ls at hl ⊢
  have hl : lv_has ls 1 [(0, .ref a_)] := hl
  obtain ⟨Q, hQ⟩ : ∃ Q : State → Prop, Q = MQ below (va_Qi (fun (q : Int32) (_u : Unit) => q = rr ∧ (q = 0 ∨ q = 1)) (fun (_u : Unit) tt => va_P E.1 vwCl (w_X3_readLaw E a_ a_tape a_rules a_places a_steps a_tape_bytes c_siteCount c_stepCount c_seenRules n_at n_wordStart n_number n_failed c_tape_length c_tape_bytes) tt.heap ∧ va_D A (w_X3_readLaw E a_ a_tape a_rules a_places a_steps a_tape_bytes c_siteCount c_stepCount c_seenRules n_at n_wordStart n_number n_failed c_tape_length c_tape_bytes)) A) #[Value.ref a_] s 0 0 A := ⟨_, rfl⟩
  rw [← hQ]
  change W p l e ({ frames := 6, cells := 0, slots := 0, locals := 127 } : Room) s m #[Value.ref a_] below meth c s.heap [] 0 0 Q (F0 m 0 ls [])
  suffices hh9 : ∀ (H : Heap) (locs : List Loc), va_P E.1 vwCl (w_X3_readLaw E a_ a_tape a_rules a_places a_steps a_tape_bytes c_siteCount c_stepCount c_seenRules c_at c_wordStart c_number c_failed c_tape_length c_tape_bytes) H → va_D A (w_X3_readLaw E a_ a_tape a_rules a_places a_steps a_tape_bytes c_siteCount c_stepCount c_seenRules c_at c_wordStart c_number c_failed c_tape_length c_tape_bytes) → va_S A s.heap H locs → W p l e ({ frames := 6, cells := 0, slots := 0, locals := 127 } : Room) s m #[Value.ref a_] below meth c H locs 0 0 Q (F0 m 0 ls []) from hh9 s.heap [] hP hD hS
  clear hP hD hS
  intro H locs hP hD hS
  have h9 := fixPD (ws' := [k_X3 a_ a_tape a_rules a_places a_steps c_siteCount c_stepCount c_seenRules c_at c_wordStart c_number c_failed, k_X6 a_tape a_tape_bytes c_tape_length, k_B E a_tape_bytes 320 c_tape_bytes]) hP hD rfl
  clear hP hD
  obtain ⟨hP, hD⟩ := h9
  unfold F_X3_readLaw at hF
  refine lv_aload_n hx hb (dq_42 0 bcX3_readLaw_0 (j := 0) rfl rfl) rfl (lv_at hl 0 rfl) ?_
  replace hF := bd4_s hF
  obtain ⟨r_1, w_2, w_3, w_4, hc_5, hF⟩ := hF
  obtain ⟨hPc, hDc, hFc⟩ := wcut (wc := (w_X3_readWord E a_ a_tape a_rules a_places a_steps a_tape_bytes c_siteCount c_stepCount c_seenRules c_at c_wordStart c_number c_failed c_tape_length c_tape_bytes)) hP hD hS hA [0, 1, 2] (by decide) rfl
  have hrc := va_recv hK hPc (ci := 4) (q0 := 0) rfl rfl
  refine cE_z (wc := (w_X3_readWord E a_ a_tape a_rules a_places a_steps a_tape_bytes c_siteCount c_stepCount c_seenRules c_at c_wordStart c_number c_failed c_tape_length c_tape_bytes)) (wr := []) (w1 := (w_X3_readWord E a_ a_tape a_rules a_places a_steps a_tape_bytes c_siteCount c_stepCount c_seenRules w_2 w_3 c_number w_4 c_tape_length c_tape_bytes)) (va_runV (As := []) (rest := [])  ⟨hx, hb, hml, hown, hts⟩ (f_X3_readWord l E H.size K (a_ := a_) (a_tape := a_tape) (a_rules := a_rules) (a_places := a_places) (a_steps := a_steps) (a_tape_bytes := a_tape_bytes) (c_siteCount := c_siteCount) (c_stepCount := c_stepCount) (c_seenRules := c_seenRules) (c_at := c_at) (c_wordStart := c_wordStart) (c_number := c_number) (c_failed := c_failed) (c_tape_length := c_tape_length) (c_tape_bytes := c_tape_bytes) hc_5) (cwV 0 hts g_f_X3_readLaw_f_X3_readWord_71 rfl rfl rfl hd_X3_readWord ⟨Nat.le_of_ble_eq_true rfl, Nat.le_of_ble_eq_true rfl⟩) ⟨pW.blind, hrc, (pW.pre ⟨hK, hN⟩ hPc hDc)⟩ rfl rfl hl.1 rfl (lv_room (Nat.le_of_ble_eq_true rfl)) (dq_182 0 bcX3_readLaw_0 (j := 1) (i := 71) rfl rfl rfl) ⟨Nat.le_of_ble_eq_true rfl, Nat.le_of_ble_eq_true rfl⟩) hS hFc hP hD [0, 1, 2] [] rfl rfl (by decide) (by decide) (fun hb_6 H locs hP hD hS => ?_)
  have h9 := fixPD (ws' := [k_X3 a_ a_tape a_rules a_places a_steps c_siteCount c_stepCount c_seenRules w_2 w_3 c_number w_4, k_X6 a_tape a_tape_bytes c_tape_length, k_B E a_tape_bytes 320 c_tape_bytes]) hP hD rfl
  clear hP hD
  obtain ⟨hP, hD⟩ := h9
  refine lv_if_ne (tgt := 9) hx hb (dq_154 0 bcX3_readLaw_0 (j := 4) (i := 5) rfl rfl rfl) (by decide) (fun c_7 => ?_) (fun c_7 => ?_)
  ·
    replace hF := inn c_7 hF
    refine lv_aload_n hx hb (dq_42 0 bcX3_readLaw_0 (j := 9) rfl rfl) rfl (lv_at hl 0 rfl) ?_
    refine lv_aload_n hx hb (dq_42 0 bcX3_readLaw_0 (j := 10) rfl rfl) rfl (lv_at hl 0 rfl) ?_
    replace hF := bd1_s hF
    obtain ⟨r_8, hc_9, hF⟩ := hF
    have hPc : va_P E.1 vwCl (w_X3_lawOfWord E a_ a_tape a_rules a_places a_steps a_tape_bytes c_siteCount c_stepCount c_seenRules w_2 w_3 c_number w_4 c_tape_length c_tape_bytes) H := hP.sub (ws' := [k_X3 a_ a_tape a_rules a_places a_steps c_siteCount c_stepCount c_seenRules w_2 w_3 c_number w_4, k_X6 a_tape a_tape_bytes c_tape_length, k_B E a_tape_bytes 320 c_tape_bytes]) [0, 1, 2] rfl
    have hrc := va_recv hK hPc (ci := 4) (q0 := 0) rfl rfl
    refine pE_i (va_runV (As := []) (rest := [.ref a_])  ⟨hx, hb, hml, hown, hts⟩ (f_X3_lawOfWord l E K z9 (a_ := a_) (a_tape := a_tape) (a_rules := a_rules) (a_places := a_places) (a_steps := a_steps) (a_tape_bytes := a_tape_bytes) (c_siteCount := c_siteCount) (c_stepCount := c_stepCount) (c_seenRules := c_seenRules) (c_at := w_2) (c_wordStart := w_3) (c_number := c_number) (c_failed := w_4) (c_tape_length := c_tape_length) (c_tape_bytes := c_tape_bytes) hc_9) (cwV 0 hts g_f_X3_readLaw_f_X3_lawOfWord_129 rfl rfl rfl hd_X3_lawOfWord ⟨Nat.le_of_ble_eq_true rfl, Nat.le_of_ble_eq_true rfl⟩) ⟨qPZ.blind, hrc, (qPZ.pre ⟨hK, hN⟩ hPc hZ hS)⟩ rfl rfl hl.1 rfl (lv_room (Nat.le_of_ble_eq_true rfl)) (dq_182 0 bcX3_readLaw_0 (j := 11) (i := 129) rfl rfl rfl) ⟨Nat.le_of_ble_eq_true rfl, Nat.le_of_ble_eq_true rfl⟩) ?_
    refine pt_X3_9 (v := .int r_8) hx hb hts i_f_X3_readLaw_X3 hown hK hP hD hS 0 rfl (hts (.fieldLink RX3 37 "HushWatch$Reader" "number" "I") (List.mem_of_getElem? (i := 1) rfl)) rfl rfl (Nat.le_of_ble_eq_true rfl) (dq_181 0 bcX3_readLaw_0 (j := 14) (i := 37) rfl rfl rfl) (fun H locs hP hD hS => ?_)
    have h9 := fixPD (ws' := [k_X3 a_ a_tape a_rules a_places a_steps c_siteCount c_stepCount c_seenRules w_2 w_3 r_8 w_4, k_X6 a_tape a_tape_bytes c_tape_length, k_B E a_tape_bytes 320 c_tape_bytes]) hP hD rfl
    clear hP hD
    obtain ⟨hP, hD⟩ := h9
    refine lv_aload_n hx hb (dq_42 0 bcX3_readLaw_0 (j := 17) rfl rfl) rfl (lv_at hl 0 rfl) ?_
    refine gt_X3_9 (v := .int r_8) hx hb hts i_f_X3_readLaw_X3 hown hK hP 0 rfl (hts (.fieldLink RX3 37 "HushWatch$Reader" "number" "I") (List.mem_of_getElem? (i := 1) rfl)) rfl (dq_180 0 bcX3_readLaw_0 (j := 18) (i := 37) rfl rfl rfl) ?_
    refine lv_iconst (v := -1) hx hb (dq_2 0 bcX3_readLaw_0 (j := 21) rfl rfl) (by decide) ?_
    refine lv_icmp_ne (tgt := 36) hx hb (dq_160 0 bcX3_readLaw_0 (j := 22) (i := 14) rfl rfl rfl) (by decide) (fun c_10 => ?_) (fun c_10 => ?_)
    ·
      replace hF := inn c_10 hF
      refine lv_iconst (v := 1) hx hb (dq_4 0 bcX3_readLaw_0 (j := 36) rfl rfl) (by decide) ?_
      refine lv_goto (tgt := 41) hx hb (dq_167 0 bcX3_readLaw_0 (j := 37) (i := 4) rfl rfl rfl) (by decide) ?_
      rw [hQ]
      have h9 := fin9 (P := fun u9 : Int32 × Int32 × Int32 × Int32 × Int32 => (1 : Int32) = u9.1 ∧ va_P E.1 vwCl (w_X3_readLaw E a_ a_tape a_rules a_places a_steps a_tape_bytes c_siteCount c_stepCount c_seenRules u9.2.1 u9.2.2.1 u9.2.2.2.1 u9.2.2.2.2 c_tape_length c_tape_bytes) H ∧ va_D A (w_X3_readLaw E a_ a_tape a_rules a_places a_steps a_tape_bytes c_siteCount c_stepCount c_seenRules u9.2.1 u9.2.2.1 u9.2.2.2.1 u9.2.2.2.2 c_tape_length c_tape_bytes)) hF ⟨rfl, hP, hD⟩
      obtain ⟨e9_0, hP9, hD9⟩ := h9
      exact W.zret (v := (1 : Int32)) hx hb hr rfl (fun tt ht hW => ⟨⟨_, (), rfl, ⟨e9_0, Or.inr rfl⟩, ht ▸ hP9, hD9⟩, hS.F ht⟩) hS.2.2 (dq_172 0 bcX3_readLaw_0 (j := 41) rfl rfl)
    ·
      replace hF := ip c_10 hF
      refine lv_aload_n hx hb (dq_42 0 bcX3_readLaw_0 (j := 25) rfl rfl) rfl (lv_at hl 0 rfl) ?_
      refine lv_aload_n hx hb (dq_42 0 bcX3_readLaw_0 (j := 26) rfl rfl) rfl (lv_at hl 0 rfl) ?_
      refine gt_X3_8 (v := .int w_3) hx hb hts i_f_X3_readLaw_X3 hown hK hP 0 rfl (hts (.fieldLink RX3 34 "HushWatch$Reader" "wordStart" "I") (List.mem_of_getElem? (i := 2) rfl)) rfl (dq_180 0 bcX3_readLaw_0 (j := 27) (i := 34) rfl rfl rfl) ?_
      replace hF := bd2_s hF
      obtain ⟨r_11, w_12, hc_13, hF⟩ := hF
      obtain ⟨hPc, hDc, hFc⟩ := wcut (wc := (w_X3_failAt E a_ a_tape a_rules a_places a_steps c_siteCount c_stepCount c_seenRules w_2 w_3 r_8 w_4)) hP hD hS hA [0] (by decide) rfl
      have hrc := va_recv hK hPc (ci := 4) (q0 := 0) rfl rfl
      refine cE_z (wc := (w_X3_failAt E a_ a_tape a_rules a_places a_steps c_siteCount c_stepCount c_seenRules w_2 w_3 r_8 w_4)) (wr := [k_X6 a_tape a_tape_bytes c_tape_length, k_B E a_tape_bytes 320 c_tape_bytes]) (w1 := (w_X3_failAt E a_ a_tape a_rules a_places a_steps c_siteCount c_stepCount c_seenRules w_2 w_3 r_8 w_12)) (va_runV (As := [.int w_3]) (rest := [])  ⟨hx, hb, hml, hown, hts⟩ (f_X3_failAt l E H.size (a_ := a_) (a_tape := a_tape) (a_rules := a_rules) (a_places := a_places) (a_steps := a_steps) (p1 := w_3) (c_siteCount := c_siteCount) (c_stepCount := c_stepCount) (c_seenRules := c_seenRules) (c_at := w_2) (c_wordStart := w_3) (c_number := r_8) (c_failed := w_4) hc_13) (cwV 1 hts g_f_X3_readLaw_f_X3_failAt_87 rfl rfl rfl hd_X3_failAt ⟨Nat.le_of_ble_eq_true rfl, Nat.le_of_ble_eq_true rfl⟩) ⟨pW.blind, hrc, (pW.pre ⟨hK, hN⟩ hPc hDc)⟩ rfl rfl hl.1 rfl (lv_room (Nat.le_of_ble_eq_true rfl)) (dq_182 0 bcX3_readLaw_0 (j := 30) (i := 87) rfl rfl rfl) ⟨Nat.le_of_ble_eq_true rfl, Nat.le_of_ble_eq_true rfl⟩) hS hFc hP hD [0] [1, 2] rfl rfl (by decide) (by decide) (fun hb_14 H locs hP hD hS => ?_)
      have h9 := fixPD (ws' := [k_X6 a_tape a_tape_bytes c_tape_length, k_B E a_tape_bytes 320 c_tape_bytes, k_X3 a_ a_tape a_rules a_places a_steps c_siteCount c_stepCount c_seenRules w_2 w_3 r_8 w_12]) hP hD rfl
      clear hP hD
      obtain ⟨hP, hD⟩ := h9
      refine lv_if_eq (tgt := 40) hx hb (dq_153 0 bcX3_readLaw_0 (j := 33) (i := 7) rfl rfl rfl) (by decide) (fun c_15 => ?_) (fun c_15 => ?_)
      ·
        replace hF := ip c_15 hF
        refine lv_iconst (v := 0) hx hb (dq_3 0 bcX3_readLaw_0 (j := 40) rfl rfl) (by decide) ?_
        rw [hQ]
        have h9 := fin9 (P := fun u9 : Int32 × Int32 × Int32 × Int32 × Int32 => (0 : Int32) = u9.1 ∧ va_P E.1 vwCl (w_X3_readLaw E a_ a_tape a_rules a_places a_steps a_tape_bytes c_siteCount c_stepCount c_seenRules u9.2.1 u9.2.2.1 u9.2.2.2.1 u9.2.2.2.2 c_tape_length c_tape_bytes) H ∧ va_D A (w_X3_readLaw E a_ a_tape a_rules a_places a_steps a_tape_bytes c_siteCount c_stepCount c_seenRules u9.2.1 u9.2.2.1 u9.2.2.2.1 u9.2.2.2.2 c_tape_length c_tape_bytes)) hF ⟨rfl, hP.sub [2, 0, 1] rfl, hD.sub [2, 0, 1] (by decide) rfl⟩
        obtain ⟨e9_0, hP9, hD9⟩ := h9
        exact W.zret (v := (0 : Int32)) hx hb hr rfl (fun tt ht hW => ⟨⟨_, (), rfl, ⟨e9_0, Or.inl rfl⟩, ht ▸ hP9, hD9⟩, hS.F ht⟩) hS.2.2 (dq_172 0 bcX3_readLaw_0 (j := 41) rfl rfl)
      ·
        replace hF := inn c_15 hF
        refine lv_iconst (v := 1) hx hb (dq_4 0 bcX3_readLaw_0 (j := 36) rfl rfl) (by decide) ?_
        refine lv_goto (tgt := 41) hx hb (dq_167 0 bcX3_readLaw_0 (j := 37) (i := 4) rfl rfl rfl) (by decide) ?_
        rw [hQ]
        have h9 := fin9 (P := fun u9 : Int32 × Int32 × Int32 × Int32 × Int32 => (1 : Int32) = u9.1 ∧ va_P E.1 vwCl (w_X3_readLaw E a_ a_tape a_rules a_places a_steps a_tape_bytes c_siteCount c_stepCount c_seenRules u9.2.1 u9.2.2.1 u9.2.2.2.1 u9.2.2.2.2 c_tape_length c_tape_bytes) H ∧ va_D A (w_X3_readLaw E a_ a_tape a_rules a_places a_steps a_tape_bytes c_siteCount c_stepCount c_seenRules u9.2.1 u9.2.2.1 u9.2.2.2.1 u9.2.2.2.2 c_tape_length c_tape_bytes)) hF ⟨rfl, hP.sub [2, 0, 1] rfl, hD.sub [2, 0, 1] (by decide) rfl⟩
        obtain ⟨e9_0, hP9, hD9⟩ := h9
        exact W.zret (v := (1 : Int32)) hx hb hr rfl (fun tt ht hW => ⟨⟨_, (), rfl, ⟨e9_0, Or.inr rfl⟩, ht ▸ hP9, hD9⟩, hS.F ht⟩) hS.2.2 (dq_172 0 bcX3_readLaw_0 (j := 41) rfl rfl)
  ·
    replace hF := ip c_7 hF
    refine lv_iconst (v := 0) hx hb (dq_3 0 bcX3_readLaw_0 (j := 7) rfl rfl) (by decide) ?_
    rw [hQ]
    have h9 := fin9 (P := fun u9 : Int32 × Int32 × Int32 × Int32 × Int32 => (0 : Int32) = u9.1 ∧ va_P E.1 vwCl (w_X3_readLaw E a_ a_tape a_rules a_places a_steps a_tape_bytes c_siteCount c_stepCount c_seenRules u9.2.1 u9.2.2.1 u9.2.2.2.1 u9.2.2.2.2 c_tape_length c_tape_bytes) H ∧ va_D A (w_X3_readLaw E a_ a_tape a_rules a_places a_steps a_tape_bytes c_siteCount c_stepCount c_seenRules u9.2.1 u9.2.2.1 u9.2.2.2.1 u9.2.2.2.2 c_tape_length c_tape_bytes)) hF ⟨rfl, hP, hD⟩
    obtain ⟨e9_0, hP9, hD9⟩ := h9
    exact W.zret (v := (0 : Int32)) hx hb hr rfl (fun tt ht hW => ⟨⟨_, (), rfl, ⟨e9_0, Or.inl rfl⟩, ht ▸ hP9, hD9⟩, hS.F ht⟩) hS.2.2 (dq_172 0 bcX3_readLaw_0 (j := 8) rfl rfl)

def J_X3_readClause_108 (k0 : Int32) (x1 : Int32) (c_rules : Nat → Int32) (c_places : Nat → Int32) (c_siteCount : Int32) (c_seenRules : Int32) (c_at : Int32) (c_wordStart : Int32) (c_number : Int32) (c_failed : Int32) : Option (Int32 × (Nat → Int32) × (Nat → Int32) × Int32 × Int32 × Int32 × Int32 × Int32 × Int32) :=
  if k0 = (0 : Int32) then zbF k0 (some (k0, c_rules, c_places, c_siteCount, c_seenRules, c_at, c_wordStart, c_number, c_failed)) else ixF x1 3 (nmF (upd c_rules x1.toNatClampNeg c_number) (fun f_36 => zbF k0 (some (k0, f_36, c_places, c_siteCount, c_seenRules, c_at, c_wordStart, c_number, c_failed))))
def F_X3_readClause (K : Nat) (c_tape_bytes : Nat → Int32) (c_tape_length : Int32) (c_rules : Nat → Int32) (c_places : Nat → Int32) (c_siteCount : Int32) (c_seenRules : Int32) (c_at : Int32) (c_wordStart : Int32) (c_number : Int32) (c_failed : Int32) : Option (Int32 × (Nat → Int32) × (Nat → Int32) × Int32 × Int32 × Int32 × Int32 × Int32 × Int32) :=
  bd4 (F_X3_readWord K c_tape_bytes c_tape_length c_at c_wordStart c_failed) (fun r_1 w_2 w_3 w_4 => if r_1 = (0 : Int32) then some ((0 : Int32), c_rules, c_places, c_siteCount, c_seenRules, w_2, w_3, c_number, w_4) else bd1 (F_X3_isWord K 0 c_tape_bytes c_tape_length w_2 w_3) (fun r_8 => if r_8 = (0 : Int32) then bd1 (F_X3_ruleOfWord K c_tape_bytes c_tape_length w_2 w_3) (fun r_12 => if r_12 < (0 : Int32) then bd2 (F_X3_failAt w_3 w_4) (fun r_15 w_16 => some (r_15, c_rules, c_places, c_siteCount, c_seenRules, w_2, w_3, c_number, w_16)) else if (3 : Int32) ≤ r_12 then bd2 (F_X3_failAt w_3 w_4) (fun r_20 w_21 => some (r_20, c_rules, c_places, c_siteCount, c_seenRules, w_2, w_3, c_number, w_21)) else if (c_seenRules >>> (r_12 &&& (31 : Int32))) &&& (1 : Int32) = (0 : Int32) then if r_12 = (0 : Int32) then bd5 (F_X3_readLaw K c_tape_bytes c_tape_length w_2 w_3 c_number w_4) (fun r_44 w_45 w_46 w_47 w_48 => J_X3_readClause_108 r_44 r_12 c_rules c_places c_siteCount (c_seenRules ||| ((1 : Int32) <<< (r_12 &&& (31 : Int32)))) w_45 w_46 w_47 w_48) else if r_12 = (1 : Int32) then bd4 (F_X3_readNumber K (-9999999 : Int32) (9999999 : Int32) c_tape_bytes c_tape_length w_2 c_number w_4) (fun r_38 w_39 w_40 w_41 => J_X3_readClause_108 r_38 r_12 c_rules c_places c_siteCount (c_seenRules ||| ((1 : Int32) <<< (r_12 &&& (31 : Int32)))) w_39 w_3 w_40 w_41) else bd4 (F_X3_readNumber K (1 : Int32) (9999 : Int32) c_tape_bytes c_tape_length w_2 c_number w_4) (fun r_27 w_28 w_29 w_30 => J_X3_readClause_108 r_27 r_12 c_rules c_places c_siteCount (c_seenRules ||| ((1 : Int32) <<< (r_12 &&& (31 : Int32)))) w_28 w_3 w_29 w_30) else bd2 (F_X3_failAt w_3 w_4) (fun r_51 w_52 => some (r_51, c_rules, c_places, c_siteCount, c_seenRules, w_2, w_3, c_number, w_52))) else bd6 (F_X3_readSite K c_tape_bytes c_tape_length c_places c_siteCount w_2 w_3 c_number w_4) (fun r_55 w_56 w_57 w_58 w_59 w_60 => some (r_55, c_rules, w_56, w_57, c_seenRules, w_58, w_3, w_59, w_60))))
abbrev w_X3_readClause (E : EE) (a_ a_tape a_rules a_places a_steps a_tape_bytes : Nat) (c_siteCount : Int32) (c_stepCount : Int32) (c_seenRules : Int32) (c_at : Int32) (c_wordStart : Int32) (c_number : Int32) (c_failed : Int32) (c_tape_length : Int32) (c_tape_bytes : Nat → Int32) (c_rules : Nat → Int32) (c_places : Nat → Int32) : va_W := [k_X3 a_ a_tape a_rules a_places a_steps c_siteCount c_stepCount c_seenRules c_at c_wordStart c_number c_failed, k_X6 a_tape a_tape_bytes c_tape_length, k_B E a_tape_bytes 320 c_tape_bytes, k_I E a_rules 3 c_rules, k_I E a_places 16 c_places]
def v_f_X3_readClause : List Cond := List.cons (.code yX3_readClause cX3_readClause 3 (some .boolean)) (HAppend.hAppend (α := List Cond) (β := List Cond) (γ := List Cond) [.fieldLink RX3 34 "HushWatch$Reader" "wordStart" "I", .fieldLink RX3 9 "HushWatch$Reader" "rules" "[I", .fieldLink RX3 28 "HushWatch$Reader" "seenRules" "I", .fieldLink RX3 37 "HushWatch$Reader" "number" "I", .constant RX3 94 (-9999999), .constant RX3 95 (9999999), .methodLink RX3 71 yX3_readWord, .instanceMethod yX3_readWord, .selects RX3 yX3_readWord yX3_readWord, .initialized RX3, .methodLink RX3 76 yX3_isWord, .instanceMethod yX3_isWord, .selects RX3 yX3_isWord yX3_isWord, .methodLink RX3 83 yX3_ruleOfWord, .instanceMethod yX3_ruleOfWord, .selects RX3 yX3_ruleOfWord yX3_ruleOfWord, .methodLink RX3 87 yX3_failAt, .instanceMethod yX3_failAt, .selects RX3 yX3_failAt yX3_failAt, .methodLink RX3 96 yX3_readNumber, .instanceMethod yX3_readNumber, .selects RX3 yX3_readNumber yX3_readNumber, .methodLink RX3 91 yX3_readLaw, .instanceMethod yX3_readLaw, .selects RX3 yX3_readLaw yX3_readLaw, .methodLink RX3 80 yX3_readSite, .instanceMethod yX3_readSite, .selects RX3 yX3_readSite yX3_readSite] (HAppend.hAppend (α := List Cond) (β := List Cond) (γ := List Cond) v_f_X3_readWord (HAppend.hAppend (α := List Cond) (β := List Cond) (γ := List Cond) v_f_X3_isWord (HAppend.hAppend (α := List Cond) (β := List Cond) (γ := List Cond) v_f_X3_ruleOfWord (HAppend.hAppend (α := List Cond) (β := List Cond) (γ := List Cond) wsX30 (HAppend.hAppend (α := List Cond) (β := List Cond) (γ := List Cond) v_f_X3_failAt (HAppend.hAppend (α := List Cond) (β := List Cond) (γ := List Cond) v_f_X3_readNumber (HAppend.hAppend (α := List Cond) (β := List Cond) (γ := List Cond) v_f_X3_readLaw (HAppend.hAppend (α := List Cond) (β := List Cond) (γ := List Cond) v_f_X3_readSite [])))))))))
theorem gw_f_X3_readClause : v_f_X3_readClause.all goodWord = true := gw_c2 (by decide +kernel) (gw_ap gw_f_X3_readWord (gw_ap gw_f_X3_isWord (gw_ap gw_f_X3_ruleOfWord (gw_ap gw_wsX30 (gw_ap gw_f_X3_failAt (gw_ap gw_f_X3_readNumber (gw_ap gw_f_X3_readLaw (gw_ap gw_f_X3_readSite gw_nil))))))))
theorem i_f_X3_readClause_X3 : ∀ w ∈ wsX30, w ∈ v_f_X3_readClause := fun _ h => List.mem_cons_of_mem _ (List.mem_append_right _ (List.mem_append_right _ (List.mem_append_right _ (List.mem_append_right _ (List.mem_append_left _ h)))))
theorem g_f_X3_readClause_f_X3_readWord_71 : GoodIn v_f_X3_readClause (wsV RX3 71 RX3 yX3_readWord v_f_X3_readWord) := goodIn_in gw_f_X3_readClause (in4 7 8 9 10 rfl rfl rfl rfl (fun _ h => List.mem_cons_of_mem _ (List.mem_append_right _ (List.mem_append_left _ h))))
theorem g_f_X3_readClause_f_X3_isWord_76 : GoodIn v_f_X3_readClause (wsV RX3 76 RX3 yX3_isWord v_f_X3_isWord) := goodIn_in gw_f_X3_readClause (in4 11 12 13 10 rfl rfl rfl rfl (fun _ h => List.mem_cons_of_mem _ (List.mem_append_right _ (List.mem_append_right _ (List.mem_append_left _ h)))))
theorem g_f_X3_readClause_f_X3_ruleOfWord_83 : GoodIn v_f_X3_readClause (wsV RX3 83 RX3 yX3_ruleOfWord v_f_X3_ruleOfWord) := goodIn_in gw_f_X3_readClause (in4 14 15 16 10 rfl rfl rfl rfl (fun _ h => List.mem_cons_of_mem _ (List.mem_append_right _ (List.mem_append_right _ (List.mem_append_right _ (List.mem_append_left _ h))))))
theorem g_f_X3_readClause_f_X3_failAt_87 : GoodIn v_f_X3_readClause (wsV RX3 87 RX3 yX3_failAt v_f_X3_failAt) := goodIn_in gw_f_X3_readClause (in4 17 18 19 10 rfl rfl rfl rfl (fun _ h => List.mem_cons_of_mem _ (List.mem_append_right _ (List.mem_append_right _ (List.mem_append_right _ (List.mem_append_right _ (List.mem_append_right _ (List.mem_append_left _ h))))))))
theorem g_f_X3_readClause_f_X3_readNumber_96 : GoodIn v_f_X3_readClause (wsV RX3 96 RX3 yX3_readNumber v_f_X3_readNumber) := goodIn_in gw_f_X3_readClause (in4 20 21 22 10 rfl rfl rfl rfl (fun _ h => List.mem_cons_of_mem _ (List.mem_append_right _ (List.mem_append_right _ (List.mem_append_right _ (List.mem_append_right _ (List.mem_append_right _ (List.mem_append_right _ (List.mem_append_left _ h)))))))))
theorem g_f_X3_readClause_f_X3_readLaw_91 : GoodIn v_f_X3_readClause (wsV RX3 91 RX3 yX3_readLaw v_f_X3_readLaw) := goodIn_in gw_f_X3_readClause (in4 23 24 25 10 rfl rfl rfl rfl (fun _ h => List.mem_cons_of_mem _ (List.mem_append_right _ (List.mem_append_right _ (List.mem_append_right _ (List.mem_append_right _ (List.mem_append_right _ (List.mem_append_right _ (List.mem_append_right _ (List.mem_append_left _ h))))))))))
theorem g_f_X3_readClause_f_X3_readSite_80 : GoodIn v_f_X3_readClause (wsV RX3 80 RX3 yX3_readSite v_f_X3_readSite) := goodIn_in gw_f_X3_readClause (in4 26 27 28 10 rfl rfl rfl rfl (fun _ h => List.mem_cons_of_mem _ (List.mem_append_right _ (List.mem_append_right _ (List.mem_append_right _ (List.mem_append_right _ (List.mem_append_right _ (List.mem_append_right _ (List.mem_append_right _ (List.mem_append_right _ (List.mem_append_left _ h)))))))))))
theorem hd_X3_readClause : yX3_readClause.cls = RX3 ∧ yX3_readClause.cls ≠ "java/lang/invoke/MethodHandle" ∧ yX3_readClause.cls ≠ "java/lang/invoke/VarHandle" ∧ (parseMethodDescriptor yX3_readClause.desc).map (fun d => d.parameters.length) = some 0 := by decide +kernel
set_option maxHeartbeats 4000000 in
set_option maxRecDepth 100000 in
theorem j_X3_readClause_108 {p : Program} (l : Launch) {e : Env} {s : State} {m : MethodId} {below : List Frame} {meth : Method} {c : Code} {Q : State → Prop} (E : EE) (K : Nat) {z9 : Nat → Nat} {a_ a_tape a_rules a_places a_steps a_tape_bytes : Nat} {c_stepCount : Int32} {c_tape_length : Int32} {c_tape_bytes : Nat → Int32} {k0 : Int32} {x1 : Int32} {c_rules : Nat → Int32} {c_places : Nat → Int32} {c_siteCount : Int32} {c_seenRules : Int32} {c_at : Int32} {c_wordStart : Int32} {c_number : Int32} {c_failed : Int32} (hx : p.tables.exec = Jvm.exec) (hb : c.code = cX3_readClause) (hml : c.maxLocals = 3) (hown : s.vm.findClass RX3 = some m.cls) (hts : ∀ w ∈ v_f_X3_readClause, w.before #[Value.ref a_] s = true) (hK : va_K E.1 vwCl (TY E) s) (hN : NX s) {A : Nat → Prop} (hA : ∀ q : Nat, s.heap.size ≤ q → A q) (hZ : ZZ z9 A s s.heap) {rr : Int32} {n_rules : Nat → Int32} {n_places : Nat → Int32} {n_siteCount : Int32} {n_seenRules : Int32} {n_at : Int32} {n_wordStart : Int32} {n_number : Int32} {n_failed : Int32} (hr : meth.sig.returnType = (some .boolean)) (hlocks : meth.locks = false) (hQ : Q = MQ below (va_Qi (fun (q : Int32) (_u : Unit) => q = rr ∧ (q = 0 ∨ q = 1)) (fun (_u : Unit) tt => va_P E.1 vwCl (w_X3_readClause E a_ a_tape a_rules a_places a_steps a_tape_bytes n_siteCount c_stepCount n_seenRules n_at n_wordStart n_number n_failed c_tape_length c_tape_bytes n_rules n_places) tt.heap ∧ va_D A (w_X3_readClause E a_ a_tape a_rules a_places a_steps a_tape_bytes n_siteCount c_stepCount n_seenRules n_at n_wordStart n_number n_failed c_tape_length c_tape_bytes n_rules n_places)) A) #[Value.ref a_] s 0 0 A) (hF : J_X3_readClause_108 k0 x1 c_rules c_places c_siteCount c_seenRules c_at c_wordStart c_number c_failed = some (rr, n_rules, n_places, n_siteCount, n_seenRules, n_at, n_wordStart, n_number, n_failed)) : ∀ (H : Heap) (locs : List Loc) (ls : Array Slot), va_P E.1 vwCl (w_X3_readClause E a_ a_tape a_rules a_places a_steps a_tape_bytes c_siteCount c_stepCount c_seenRules c_at c_wordStart c_number c_failed c_tape_length c_tape_bytes c_rules c_places) H → va_D A (w_X3_readClause E a_ a_tape a_rules a_places a_steps a_tape_bytes c_siteCount c_stepCount c_seenRules c_at c_wordStart c_number c_failed c_tape_length c_tape_bytes c_rules c_places) → va_S A s.heap H locs → lv_has ls 3 [(0, .ref a_), (1, .int x1)] → W p l e ({ frames := 7, cells := 0, slots := 0, locals := 147 } : Room) s m #[Value.ref a_] below meth c H locs 0 0 Q (F0 m 108 ls [.int k0]) := by
  unfold J_X3_readClause_108 at hF
  intro H locs ls hP hD hS hl
  have h9 := fixPD (ws' := [k_X3 a_ a_tape a_rules a_places a_steps c_siteCount c_stepCount c_seenRules c_at c_wordStart c_number c_failed, k_X6 a_tape a_tape_bytes c_tape_length, k_B E a_tape_bytes 320 c_tape_bytes, k_I E a_rules 3 c_rules, k_I E a_places 16 c_places]) hP hD rfl
  clear hP hD
  obtain ⟨hP, hD⟩ := h9
  refine lv_istore_n (lv' := [(2, .int k0), (0, .ref a_), (1, .int x1)]) hx hb (dq_61 96 bcX3_readClause_2 (j := 12) rfl rfl) rfl hl (by decide) rfl (fun ls hl => ?_)
  refine lv_iload_n hx hb (dq_28 96 bcX3_readClause_2 (j := 13) rfl rfl) rfl (lv_at hl 0 rfl) ?_
  refine lv_if_eq (tgt := 123) hx hb (dq_153 96 bcX3_readClause_2 (j := 14) (i := 13) rfl rfl rfl) (by decide) (fun c_33 => ?_) (fun c_33 => ?_)
  ·
    replace hF := ip c_33 hF
    refine lv_iload_n hx hb (dq_28 96 bcX3_readClause_2 (j := 27) rfl rfl) rfl (lv_at hl 0 rfl) ?_
    rw [hQ]
    replace hF := zb_s hF
    obtain ⟨hz_34, hF⟩ := hF
    have h9 := fin9 (P := fun u9 : Int32 × (Nat → Int32) × (Nat → Int32) × Int32 × Int32 × Int32 × Int32 × Int32 × Int32 => k0 = u9.1 ∧ va_P E.1 vwCl (w_X3_readClause E a_ a_tape a_rules a_places a_steps a_tape_bytes u9.2.2.2.1 c_stepCount u9.2.2.2.2.1 u9.2.2.2.2.2.1 u9.2.2.2.2.2.2.1 u9.2.2.2.2.2.2.2.1 u9.2.2.2.2.2.2.2.2 c_tape_length c_tape_bytes u9.2.1 u9.2.2.1) H ∧ va_D A (w_X3_readClause E a_ a_tape a_rules a_places a_steps a_tape_bytes u9.2.2.2.1 c_stepCount u9.2.2.2.2.1 u9.2.2.2.2.2.1 u9.2.2.2.2.2.2.1 u9.2.2.2.2.2.2.2.1 u9.2.2.2.2.2.2.2.2 c_tape_length c_tape_bytes u9.2.1 u9.2.2.1)) hF ⟨rfl, hP, hD⟩
    obtain ⟨e9_0, hP9, hD9⟩ := h9
    exact W.zret (v := k0) hx hb hr (nar_bool hz_34) (fun tt ht hW => ⟨⟨_, (), rfl, ⟨e9_0, hz_34⟩, ht ▸ hP9, hD9⟩, hS.F ht⟩) hS.2.2 (dq_172 96 bcX3_readClause_2 (j := 28) rfl rfl)
  ·
    replace hF := inn c_33 hF
    refine lv_aload_n hx hb (dq_42 96 bcX3_readClause_2 (j := 17) rfl rfl) rfl (lv_at hl 1 rfl) ?_
    refine gt_X3_1 (v := .ref a_rules) hx hb hts i_f_X3_readClause_X3 hown hK hP 0 rfl (hts (.fieldLink RX3 9 "HushWatch$Reader" "rules" "[I") (List.mem_of_getElem? (i := 2) rfl)) rfl (dq_180 96 bcX3_readClause_2 (j := 18) (i := 9) rfl rfl rfl) ?_
    refine lv_iload_n hx hb (dq_27 96 bcX3_readClause_2 (j := 21) rfl rfl) rfl (lv_at hl 2 rfl) ?_
    refine lv_aload_n hx hb (dq_42 96 bcX3_readClause_2 (j := 22) rfl rfl) rfl (lv_at hl 1 rfl) ?_
    refine gt_X3_9 (v := .int c_number) hx hb hts i_f_X3_readClause_X3 hown hK hP 0 rfl (hts (.fieldLink RX3 37 "HushWatch$Reader" "number" "I") (List.mem_of_getElem? (i := 4) rfl)) rfl (dq_180 96 bcX3_readClause_2 (j := 23) (i := 37) rfl rfl rfl) ?_
    replace hF := ix_s hF
    obtain ⟨hi_35, hF⟩ := hF
    refine va_iast hx hb hK hP hD hS 3 0 rfl rfl hi_35 (dq_79 96 bcX3_readClause_2 (j := 26) rfl rfl) (fun H locs hP hD hS => ?_)
    have h9 := fixPD (ws' := [k_X3 a_ a_tape a_rules a_places a_steps c_siteCount c_stepCount c_seenRules c_at c_wordStart c_number c_failed, k_X6 a_tape a_tape_bytes c_tape_length, k_B E a_tape_bytes 320 c_tape_bytes, k_I E a_rules 3 (upd c_rules x1.toNatClampNeg c_number), k_I E a_places 16 c_places]) hP hD rfl
    clear hP hD
    obtain ⟨hP, hD⟩ := h9
    replace hF := nm_s hF
    obtain ⟨f_36, hf_36, hF⟩ := hF
    rw [← hf_36] at hP hD
    refine lv_iload_n hx hb (dq_28 96 bcX3_readClause_2 (j := 27) rfl rfl) rfl (lv_at hl 0 rfl) ?_
    rw [hQ]
    replace hF := zb_s hF
    obtain ⟨hz_37, hF⟩ := hF
    have h9 := fin9 (P := fun u9 : Int32 × (Nat → Int32) × (Nat → Int32) × Int32 × Int32 × Int32 × Int32 × Int32 × Int32 => k0 = u9.1 ∧ va_P E.1 vwCl (w_X3_readClause E a_ a_tape a_rules a_places a_steps a_tape_bytes u9.2.2.2.1 c_stepCount u9.2.2.2.2.1 u9.2.2.2.2.2.1 u9.2.2.2.2.2.2.1 u9.2.2.2.2.2.2.2.1 u9.2.2.2.2.2.2.2.2 c_tape_length c_tape_bytes u9.2.1 u9.2.2.1) H ∧ va_D A (w_X3_readClause E a_ a_tape a_rules a_places a_steps a_tape_bytes u9.2.2.2.1 c_stepCount u9.2.2.2.2.1 u9.2.2.2.2.2.1 u9.2.2.2.2.2.2.1 u9.2.2.2.2.2.2.2.1 u9.2.2.2.2.2.2.2.2 c_tape_length c_tape_bytes u9.2.1 u9.2.2.1)) hF ⟨rfl, hP, hD⟩
    obtain ⟨e9_0, hP9, hD9⟩ := h9
    exact W.zret (v := k0) hx hb hr (nar_bool hz_37) (fun tt ht hW => ⟨⟨_, (), rfl, ⟨e9_0, hz_37⟩, ht ▸ hP9, hD9⟩, hS.F ht⟩) hS.2.2 (dq_172 96 bcX3_readClause_2 (j := 28) rfl rfl)

set_option maxHeartbeats 4000000 in
set_option maxRecDepth 100000 in
theorem f_X3_readClause (l : Launch) (E : EE) (sz : Nat) (K : Nat) (z9 : Nat → Nat) {a_ a_tape a_rules a_places a_steps a_tape_bytes : Nat} {c_siteCount : Int32} {c_stepCount : Int32} {c_seenRules : Int32} {c_at : Int32} {c_wordStart : Int32} {c_number : Int32} {c_failed : Int32} {c_tape_length : Int32} {c_tape_bytes : Nat → Int32} {c_rules : Nat → Int32} {c_places : Nat → Int32} {rr : Int32} {n_rules : Nat → Int32} {n_places : Nat → Int32} {n_siteCount : Int32} {n_seenRules : Int32} {n_at : Int32} {n_wordStart : Int32} {n_number : Int32} {n_failed : Int32} (hF : F_X3_readClause K c_tape_bytes c_tape_length c_rules c_places c_siteCount c_seenRules c_at c_wordStart c_number c_failed = some (rr, n_rules, n_places, n_siteCount, n_seenRules, n_at, n_wordStart, n_number, n_failed)) : Met l yX3_readClause v_f_X3_readClause (({ frames := 7, cells := 0, slots := 0, locals := 147 } : Room)) (va_Pc [.ref a_] (qWZ E z9 sz (w_X3_readClause E a_ a_tape a_rules a_places a_steps a_tape_bytes c_siteCount c_stepCount c_seenRules c_at c_wordStart c_number c_failed c_tape_length c_tape_bytes c_rules c_places))) (va_Qi (fun (q : Int32) (_u : Unit) => q = rr ∧ (q = 0 ∨ q = 1)) (fun (_u : Unit) tt => va_P E.1 vwCl (w_X3_readClause E a_ a_tape a_rules a_places a_steps a_tape_bytes n_siteCount c_stepCount n_seenRules n_at n_wordStart n_number n_failed c_tape_length c_tape_bytes n_rules n_places) tt.heap ∧ va_D (va_A (w_X3_readClause E a_ a_tape a_rules a_places a_steps a_tape_bytes c_siteCount c_stepCount c_seenRules c_at c_wordStart c_number c_failed c_tape_length c_tape_bytes c_rules c_places) sz) (w_X3_readClause E a_ a_tape a_rules a_places a_steps a_tape_bytes n_siteCount c_stepCount n_seenRules n_at n_wordStart n_number n_failed c_tape_length c_tape_bytes n_rules n_places)) (va_A (w_X3_readClause E a_ a_tape a_rules a_places a_steps a_tape_bytes c_siteCount c_stepCount c_seenRules c_at c_wordStart c_number c_failed c_tape_length c_tape_bytes c_rules c_places) sz)) 0 0 (va_A (w_X3_readClause E a_ a_tape a_rules a_places a_steps a_tape_bytes c_siteCount c_stepCount c_seenRules c_at c_wordStart c_number c_failed c_tape_length c_tape_bytes c_rules c_places) sz) := by
  refine Met.ofW (cc := cX3_readClause) (maxL := 3) (ret := (some .boolean)) (by decide) rfl ?_
  intro p e s m args below meth c s₁ B hml hv
  obtain ⟨rfl, hsz, ⟨hK, hN⟩, hP, hD0, hZ⟩ := hv
  have hx := B.exec
  have hb := B.bytes
  have hr := B.returns
  have hts := atoms_spec (ws := v_f_X3_readClause) B.pre
  have hown : s.vm.findClass RX3 = some m.cls := own_of hd_X3_readClause.1 (findClass_of_methodNamed B.named)
  have hlocks : meth.locks = false := B.notSynchronized
  subst hsz
  have hD := hD0.self (sz := s.heap.size)
  generalize hAe : va_A (w_X3_readClause E a_ a_tape a_rules a_places a_steps a_tape_bytes c_siteCount c_stepCount c_seenRules c_at c_wordStart c_number c_failed c_tape_length c_tape_bytes c_rules c_places) s.heap.size = A at hD hZ ⊢
  have hA : ∀ q : Nat, s.heap.size ≤ q → A q := fun q h => by rw [← hAe]; exact Or.inr h
  have hS : va_S A s.heap s.heap [] := va_S.rf
  have hl := lv_entry ([.ref a_]) (n := 3) (Nat.le_of_ble_eq_true rfl)
  rw [lg_entry_eq]
  generalize (lg_sl ([.ref a_]) ++ List.replicate (3 - (lg_sl ([.ref a_])).length) Slot.unset).toArray = ls at hl ⊢
  have hl : lv_has ls 3 [(0, .ref a_)] := hl
  obtain ⟨Q, hQ⟩ : ∃ Q : State → Prop, Q = MQ below (va_Qi (fun (q : Int32) (_u : Unit) => q = rr ∧ (q = 0 ∨ q = 1)) (fun (_u : Unit) tt => va_P E.1 vwCl (w_X3_readClause E a_ a_tape a_rules a_places a_steps a_tape_bytes n_siteCount c_stepCount n_seenRules n_at n_wordStart n_number n_failed c_tape_length c_tape_bytes n_rules n_places) tt.heap ∧ va_D A (w_X3_readClause E a_ a_tape a_rules a_places a_steps a_tape_bytes n_siteCount c_stepCount n_seenRules n_at n_wordStart n_number n_failed c_tape_length c_tape_bytes n_rules n_places)) A) #[Value.ref a_] s 0 0 A := ⟨_, rfl⟩
  rw [← hQ]
  change W p l e ({ frames := 7, cells := 0, slots := 0, locals := 147 } : Room) s m #[Value.ref a_] below meth c s.heap [] 0 0 Q (F0 m 0 ls [])
  suffices hh9 : ∀ (H : Heap) (locs : List Loc), va_P E.1 vwCl (w_X3_readClause E a_ a_tape a_rules a_places a_steps a_tape_bytes c_siteCount c_stepCount c_seenRules c_at c_wordStart c_number c_failed c_tape_length c_tape_bytes c_rules c_places) H → va_D A (w_X3_readClause E a_ a_tape a_rules a_places a_steps a_tape_bytes c_siteCount c_stepCount c_seenRules c_at c_wordStart c_number c_failed c_tape_length c_tape_bytes c_rules c_places) → va_S A s.heap H locs → W p l e ({ frames := 7, cells := 0, slots := 0, locals := 147 } : Room) s m #[Value.ref a_] below meth c H locs 0 0 Q (F0 m 0 ls []) from hh9 s.heap [] hP hD hS
  clear hP hD hS
  intro H locs hP hD hS
  have h9 := fixPD (ws' := [k_X3 a_ a_tape a_rules a_places a_steps c_siteCount c_stepCount c_seenRules c_at c_wordStart c_number c_failed, k_X6 a_tape a_tape_bytes c_tape_length, k_B E a_tape_bytes 320 c_tape_bytes, k_I E a_rules 3 c_rules, k_I E a_places 16 c_places]) hP hD rfl
  clear hP hD
  obtain ⟨hP, hD⟩ := h9
  unfold F_X3_readClause at hF
  refine lv_aload_n hx hb (dq_42 0 bcX3_readClause_0 (j := 0) rfl rfl) rfl (lv_at hl 0 rfl) ?_
  replace hF := bd4_s hF
  obtain ⟨r_1, w_2, w_3, w_4, hc_5, hF⟩ := hF
  obtain ⟨hPc, hDc, hFc⟩ := wcut (wc := (w_X3_readWord E a_ a_tape a_rules a_places a_steps a_tape_bytes c_siteCount c_stepCount c_seenRules c_at c_wordStart c_number c_failed c_tape_length c_tape_bytes)) hP hD hS hA [0, 1, 2] (by decide) rfl
  have hrc := va_recv hK hPc (ci := 4) (q0 := 0) rfl rfl
  refine cE_z (wc := (w_X3_readWord E a_ a_tape a_rules a_places a_steps a_tape_bytes c_siteCount c_stepCount c_seenRules c_at c_wordStart c_number c_failed c_tape_length c_tape_bytes)) (wr := [k_I E a_rules 3 c_rules, k_I E a_places 16 c_places]) (w1 := (w_X3_readWord E a_ a_tape a_rules a_places a_steps a_tape_bytes c_siteCount c_stepCount c_seenRules w_2 w_3 c_number w_4 c_tape_length c_tape_bytes)) (va_runV (As := []) (rest := [])  ⟨hx, hb, hml, hown, hts⟩ (f_X3_readWord l E H.size K (a_ := a_) (a_tape := a_tape) (a_rules := a_rules) (a_places := a_places) (a_steps := a_steps) (a_tape_bytes := a_tape_bytes) (c_siteCount := c_siteCount) (c_stepCount := c_stepCount) (c_seenRules := c_seenRules) (c_at := c_at) (c_wordStart := c_wordStart) (c_number := c_number) (c_failed := c_failed) (c_tape_length := c_tape_length) (c_tape_bytes := c_tape_bytes) hc_5) (cwV 0 hts g_f_X3_readClause_f_X3_readWord_71 rfl rfl rfl hd_X3_readWord ⟨Nat.le_of_ble_eq_true rfl, Nat.le_of_ble_eq_true rfl⟩) ⟨pW.blind, hrc, (pW.pre ⟨hK, hN⟩ hPc hDc)⟩ rfl rfl hl.1 rfl (lv_room (Nat.le_of_ble_eq_true rfl)) (dq_182 0 bcX3_readClause_0 (j := 1) (i := 71) rfl rfl rfl) ⟨Nat.le_of_ble_eq_true rfl, Nat.le_of_ble_eq_true rfl⟩) hS hFc hP hD [0, 1, 2] [3, 4] rfl rfl (by decide) (by decide) (fun hb_6 H locs hP hD hS => ?_)
  have h9 := fixPD (ws' := [k_I E a_rules 3 c_rules, k_I E a_places 16 c_places, k_X3 a_ a_tape a_rules a_places a_steps c_siteCount c_stepCount c_seenRules w_2 w_3 c_number w_4, k_X6 a_tape a_tape_bytes c_tape_length, k_B E a_tape_bytes 320 c_tape_bytes]) hP hD rfl
  clear hP hD
  obtain ⟨hP, hD⟩ := h9
  refine lv_if_ne (tgt := 9) hx hb (dq_154 0 bcX3_readClause_0 (j := 4) (i := 5) rfl rfl rfl) (by decide) (fun c_7 => ?_) (fun c_7 => ?_)
  ·
    replace hF := inn c_7 hF
    refine lv_aload_n hx hb (dq_42 0 bcX3_readClause_0 (j := 9) rfl rfl) rfl (lv_at hl 0 rfl) ?_
    refine va_ldcS hx hb hown (ZZ.s0 hZ) (dq_18 0 bcX3_readClause_0 (j := 10) (i := 74) rfl rfl) ?_
    replace hF := bd1_s hF
    obtain ⟨r_8, hc_9, hF⟩ := hF
    have hPc : va_P E.1 vwCl (w_X3_isWord E a_ a_tape a_rules a_places a_steps a_tape_bytes c_siteCount c_stepCount c_seenRules w_2 w_3 c_number w_4 c_tape_length c_tape_bytes) H := hP.sub (ws' := [k_X3 a_ a_tape a_rules a_places a_steps c_siteCount c_stepCount c_seenRules w_2 w_3 c_number w_4, k_X6 a_tape a_tape_bytes c_tape_length, k_B E a_tape_bytes 320 c_tape_bytes]) [2, 3, 4] rfl
    have hrc := va_recv hK hPc (ci := 4) (q0 := 0) rfl rfl
    refine pE_z (va_runV (As := [.ref (z9 (20 + 0))]) (rest := [])  ⟨hx, hb, hml, hown, hts⟩ (f_X3_isWord l E K z9 (a_ := a_) (a_tape := a_tape) (a_rules := a_rules) (a_places := a_places) (a_steps := a_steps) (a_tape_bytes := a_tape_bytes) (p1 := 0) (c_siteCount := c_siteCount) (c_stepCount := c_stepCount) (c_seenRules := c_seenRules) (c_at := w_2) (c_wordStart := w_3) (c_number := c_number) (c_failed := w_4) (c_tape_length := c_tape_length) (c_tape_bytes := c_tape_bytes) hc_9) (cwV 1 hts g_f_X3_readClause_f_X3_isWord_76 rfl rfl rfl hd_X3_isWord ⟨Nat.le_of_ble_eq_true rfl, Nat.le_of_ble_eq_true rfl⟩) ⟨qPZ.blind, hrc, (qPZ.pre ⟨hK, hN⟩ hPc hZ hS)⟩ rfl rfl hl.1 rfl (lv_room (Nat.le_of_ble_eq_true rfl)) (dq_182 0 bcX3_readClause_0 (j := 12) (i := 76) rfl rfl rfl) ⟨Nat.le_of_ble_eq_true rfl, Nat.le_of_ble_eq_true rfl⟩) (fun hb_10 => ?_)
    refine lv_if_eq (tgt := 23) hx hb (dq_153 0 bcX3_readClause_0 (j := 15) (i := 8) rfl rfl rfl) (by decide) (fun c_11 => ?_) (fun c_11 => ?_)
    ·
      replace hF := ip c_11 hF
      refine lv_aload_n hx hb (dq_42 0 bcX3_readClause_0 (j := 23) rfl rfl) rfl (lv_at hl 0 rfl) ?_
      replace hF := bd1_s hF
      obtain ⟨r_12, hc_13, hF⟩ := hF
      have hPc : va_P E.1 vwCl (w_X3_ruleOfWord E a_ a_tape a_rules a_places a_steps a_tape_bytes c_siteCount c_stepCount c_seenRules w_2 w_3 c_number w_4 c_tape_length c_tape_bytes) H := hP.sub (ws' := [k_X3 a_ a_tape a_rules a_places a_steps c_siteCount c_stepCount c_seenRules w_2 w_3 c_number w_4, k_X6 a_tape a_tape_bytes c_tape_length, k_B E a_tape_bytes 320 c_tape_bytes]) [2, 3, 4] rfl
      have hrc := va_recv hK hPc (ci := 4) (q0 := 0) rfl rfl
      refine pE_i (va_runV (As := []) (rest := [])  ⟨hx, hb, hml, hown, hts⟩ (f_X3_ruleOfWord l E K z9 (a_ := a_) (a_tape := a_tape) (a_rules := a_rules) (a_places := a_places) (a_steps := a_steps) (a_tape_bytes := a_tape_bytes) (c_siteCount := c_siteCount) (c_stepCount := c_stepCount) (c_seenRules := c_seenRules) (c_at := w_2) (c_wordStart := w_3) (c_number := c_number) (c_failed := w_4) (c_tape_length := c_tape_length) (c_tape_bytes := c_tape_bytes) hc_13) (cwV 0 hts g_f_X3_readClause_f_X3_ruleOfWord_83 rfl rfl rfl hd_X3_ruleOfWord ⟨Nat.le_of_ble_eq_true rfl, Nat.le_of_ble_eq_true rfl⟩) ⟨qPZ.blind, hrc, (qPZ.pre ⟨hK, hN⟩ hPc hZ hS)⟩ rfl rfl hl.1 rfl (lv_room (Nat.le_of_ble_eq_true rfl)) (dq_182 0 bcX3_readClause_0 (j := 24) (i := 83) rfl rfl rfl) ⟨Nat.le_of_ble_eq_true rfl, Nat.le_of_ble_eq_true rfl⟩) ?_
      refine lv_istore_n (lv' := [(1, .int r_12), (0, .ref a_)]) hx hb (dq_60 0 bcX3_readClause_0 (j := 27) rfl rfl) rfl hl (by decide) rfl (fun ls hl => ?_)
      refine lv_iload_n hx hb (dq_27 0 bcX3_readClause_0 (j := 28) rfl rfl) rfl (lv_at hl 0 rfl) ?_
      refine lv_if_lt (tgt := 52) hx hb (dq_155 0 bcX3_readClause_0 (j := 29) (i := 23) rfl rfl rfl) (by decide) (fun c_14 => ?_) (fun c_14 => ?_)
      ·
        replace hF := ip c_14 hF
        refine lv_aload_n hx hb (dq_42 48 bcX3_readClause_1 (j := 4) rfl rfl) rfl (lv_at hl 1 rfl) ?_
        refine lv_aload_n hx hb (dq_42 48 bcX3_readClause_1 (j := 5) rfl rfl) rfl (lv_at hl 1 rfl) ?_
        refine gt_X3_8 (v := .int w_3) hx hb hts i_f_X3_readClause_X3 hown hK hP 2 rfl (hts (.fieldLink RX3 34 "HushWatch$Reader" "wordStart" "I") (List.mem_of_getElem? (i := 1) rfl)) rfl (dq_180 48 bcX3_readClause_1 (j := 6) (i := 34) rfl rfl rfl) ?_
        replace hF := bd2_s hF
        obtain ⟨r_15, w_16, hc_17, hF⟩ := hF
        obtain ⟨hPc, hDc, hFc⟩ := wcut (wc := (w_X3_failAt E a_ a_tape a_rules a_places a_steps c_siteCount c_stepCount c_seenRules w_2 w_3 c_number w_4)) hP hD hS hA [2] (by decide) rfl
        have hrc := va_recv hK hPc (ci := 4) (q0 := 0) rfl rfl
        refine cE_z (wc := (w_X3_failAt E a_ a_tape a_rules a_places a_steps c_siteCount c_stepCount c_seenRules w_2 w_3 c_number w_4)) (wr := [k_I E a_rules 3 c_rules, k_I E a_places 16 c_places, k_X6 a_tape a_tape_bytes c_tape_length, k_B E a_tape_bytes 320 c_tape_bytes]) (w1 := (w_X3_failAt E a_ a_tape a_rules a_places a_steps c_siteCount c_stepCount c_seenRules w_2 w_3 c_number w_16)) (va_runV (As := [.int w_3]) (rest := [])  ⟨hx, hb, hml, hown, hts⟩ (f_X3_failAt l E H.size (a_ := a_) (a_tape := a_tape) (a_rules := a_rules) (a_places := a_places) (a_steps := a_steps) (p1 := w_3) (c_siteCount := c_siteCount) (c_stepCount := c_stepCount) (c_seenRules := c_seenRules) (c_at := w_2) (c_wordStart := w_3) (c_number := c_number) (c_failed := w_4) hc_17) (cwV 1 hts g_f_X3_readClause_f_X3_failAt_87 rfl rfl rfl hd_X3_failAt ⟨Nat.le_of_ble_eq_true rfl, Nat.le_of_ble_eq_true rfl⟩) ⟨pW.blind, hrc, (pW.pre ⟨hK, hN⟩ hPc hDc)⟩ rfl rfl hl.1 rfl (lv_room (Nat.le_of_ble_eq_true rfl)) (dq_182 48 bcX3_readClause_1 (j := 9) (i := 87) rfl rfl rfl) ⟨Nat.le_of_ble_eq_true rfl, Nat.le_of_ble_eq_true rfl⟩) hS hFc hP hD [2] [0, 1, 3, 4] rfl rfl (by decide) (by decide) (fun hb_18 H locs hP hD hS => ?_)
        have h9 := fixPD (ws' := [k_I E a_rules 3 c_rules, k_I E a_places 16 c_places, k_X6 a_tape a_tape_bytes c_tape_length, k_B E a_tape_bytes 320 c_tape_bytes, k_X3 a_ a_tape a_rules a_places a_steps c_siteCount c_stepCount c_seenRules w_2 w_3 c_number w_16]) hP hD rfl
        clear hP hD
        obtain ⟨hP, hD⟩ := h9
        rw [hQ]
        have h9 := fin9 (P := fun u9 : Int32 × (Nat → Int32) × (Nat → Int32) × Int32 × Int32 × Int32 × Int32 × Int32 × Int32 => r_15 = u9.1 ∧ va_P E.1 vwCl (w_X3_readClause E a_ a_tape a_rules a_places a_steps a_tape_bytes u9.2.2.2.1 c_stepCount u9.2.2.2.2.1 u9.2.2.2.2.2.1 u9.2.2.2.2.2.2.1 u9.2.2.2.2.2.2.2.1 u9.2.2.2.2.2.2.2.2 c_tape_length c_tape_bytes u9.2.1 u9.2.2.1) H ∧ va_D A (w_X3_readClause E a_ a_tape a_rules a_places a_steps a_tape_bytes u9.2.2.2.1 c_stepCount u9.2.2.2.2.1 u9.2.2.2.2.2.1 u9.2.2.2.2.2.2.1 u9.2.2.2.2.2.2.2.1 u9.2.2.2.2.2.2.2.2 c_tape_length c_tape_bytes u9.2.1 u9.2.2.1)) hF ⟨rfl, hP.sub [4, 2, 3, 0, 1] rfl, hD.sub [4, 2, 3, 0, 1] (by decide) rfl⟩
        obtain ⟨e9_0, hP9, hD9⟩ := h9
        exact W.zret (v := r_15) hx hb hr (nar_bool hb_18) (fun tt ht hW => ⟨⟨_, (), rfl, ⟨e9_0, hb_18⟩, ht ▸ hP9, hD9⟩, hS.F ht⟩) hS.2.2 (dq_172 48 bcX3_readClause_1 (j := 12) rfl rfl)
      ·
        replace hF := inn c_14 hF
        refine lv_iload_n hx hb (dq_27 0 bcX3_readClause_0 (j := 32) rfl rfl) rfl (lv_at hl 0 rfl) ?_
        refine lv_aload_n hx hb (dq_42 0 bcX3_readClause_0 (j := 33) rfl rfl) rfl (lv_at hl 1 rfl) ?_
        refine gt_X3_1 (v := .ref a_rules) hx hb hts i_f_X3_readClause_X3 hown hK hP 2 rfl (hts (.fieldLink RX3 9 "HushWatch$Reader" "rules" "[I") (List.mem_of_getElem? (i := 2) rfl)) rfl (dq_180 0 bcX3_readClause_0 (j := 34) (i := 9) rfl rfl rfl) ?_
        refine va_alen (v := 3) hx hb hK hP 0 0 rfl rfl rfl (dq_190 0 bcX3_readClause_0 (j := 37) rfl rfl) ?_
        refine lv_icmp_ge (tgt := 52) hx hb (dq_162 0 bcX3_readClause_0 (j := 38) (i := 14) rfl rfl rfl) (by decide) (fun c_19 => ?_) (fun c_19 => ?_)
        ·
          replace hF := ip c_19 hF
          refine lv_aload_n hx hb (dq_42 48 bcX3_readClause_1 (j := 4) rfl rfl) rfl (lv_at hl 1 rfl) ?_
          refine lv_aload_n hx hb (dq_42 48 bcX3_readClause_1 (j := 5) rfl rfl) rfl (lv_at hl 1 rfl) ?_
          refine gt_X3_8 (v := .int w_3) hx hb hts i_f_X3_readClause_X3 hown hK hP 2 rfl (hts (.fieldLink RX3 34 "HushWatch$Reader" "wordStart" "I") (List.mem_of_getElem? (i := 1) rfl)) rfl (dq_180 48 bcX3_readClause_1 (j := 6) (i := 34) rfl rfl rfl) ?_
          replace hF := bd2_s hF
          obtain ⟨r_20, w_21, hc_22, hF⟩ := hF
          obtain ⟨hPc, hDc, hFc⟩ := wcut (wc := (w_X3_failAt E a_ a_tape a_rules a_places a_steps c_siteCount c_stepCount c_seenRules w_2 w_3 c_number w_4)) hP hD hS hA [2] (by decide) rfl
          have hrc := va_recv hK hPc (ci := 4) (q0 := 0) rfl rfl
          refine cE_z (wc := (w_X3_failAt E a_ a_tape a_rules a_places a_steps c_siteCount c_stepCount c_seenRules w_2 w_3 c_number w_4)) (wr := [k_I E a_rules 3 c_rules, k_I E a_places 16 c_places, k_X6 a_tape a_tape_bytes c_tape_length, k_B E a_tape_bytes 320 c_tape_bytes]) (w1 := (w_X3_failAt E a_ a_tape a_rules a_places a_steps c_siteCount c_stepCount c_seenRules w_2 w_3 c_number w_21)) (va_runV (As := [.int w_3]) (rest := [])  ⟨hx, hb, hml, hown, hts⟩ (f_X3_failAt l E H.size (a_ := a_) (a_tape := a_tape) (a_rules := a_rules) (a_places := a_places) (a_steps := a_steps) (p1 := w_3) (c_siteCount := c_siteCount) (c_stepCount := c_stepCount) (c_seenRules := c_seenRules) (c_at := w_2) (c_wordStart := w_3) (c_number := c_number) (c_failed := w_4) hc_22) (cwV 1 hts g_f_X3_readClause_f_X3_failAt_87 rfl rfl rfl hd_X3_failAt ⟨Nat.le_of_ble_eq_true rfl, Nat.le_of_ble_eq_true rfl⟩) ⟨pW.blind, hrc, (pW.pre ⟨hK, hN⟩ hPc hDc)⟩ rfl rfl hl.1 rfl (lv_room (Nat.le_of_ble_eq_true rfl)) (dq_182 48 bcX3_readClause_1 (j := 9) (i := 87) rfl rfl rfl) ⟨Nat.le_of_ble_eq_true rfl, Nat.le_of_ble_eq_true rfl⟩) hS hFc hP hD [2] [0, 1, 3, 4] rfl rfl (by decide) (by decide) (fun hb_23 H locs hP hD hS => ?_)
          have h9 := fixPD (ws' := [k_I E a_rules 3 c_rules, k_I E a_places 16 c_places, k_X6 a_tape a_tape_bytes c_tape_length, k_B E a_tape_bytes 320 c_tape_bytes, k_X3 a_ a_tape a_rules a_places a_steps c_siteCount c_stepCount c_seenRules w_2 w_3 c_number w_21]) hP hD rfl
          clear hP hD
          obtain ⟨hP, hD⟩ := h9
          rw [hQ]
          have h9 := fin9 (P := fun u9 : Int32 × (Nat → Int32) × (Nat → Int32) × Int32 × Int32 × Int32 × Int32 × Int32 × Int32 => r_20 = u9.1 ∧ va_P E.1 vwCl (w_X3_readClause E a_ a_tape a_rules a_places a_steps a_tape_bytes u9.2.2.2.1 c_stepCount u9.2.2.2.2.1 u9.2.2.2.2.2.1 u9.2.2.2.2.2.2.1 u9.2.2.2.2.2.2.2.1 u9.2.2.2.2.2.2.2.2 c_tape_length c_tape_bytes u9.2.1 u9.2.2.1) H ∧ va_D A (w_X3_readClause E a_ a_tape a_rules a_places a_steps a_tape_bytes u9.2.2.2.1 c_stepCount u9.2.2.2.2.1 u9.2.2.2.2.2.1 u9.2.2.2.2.2.2.1 u9.2.2.2.2.2.2.2.1 u9.2.2.2.2.2.2.2.2 c_tape_length c_tape_bytes u9.2.1 u9.2.2.1)) hF ⟨rfl, hP.sub [4, 2, 3, 0, 1] rfl, hD.sub [4, 2, 3, 0, 1] (by decide) rfl⟩
          obtain ⟨e9_0, hP9, hD9⟩ := h9
          exact W.zret (v := r_20) hx hb hr (nar_bool hb_23) (fun tt ht hW => ⟨⟨_, (), rfl, ⟨e9_0, hb_23⟩, ht ▸ hP9, hD9⟩, hS.F ht⟩) hS.2.2 (dq_172 48 bcX3_readClause_1 (j := 12) rfl rfl)
        ·
          replace hF := inn c_19 hF
          refine lv_aload_n hx hb (dq_42 0 bcX3_readClause_0 (j := 41) rfl rfl) rfl (lv_at hl 1 rfl) ?_
          refine gt_X3_6 (v := .int c_seenRules) hx hb hts i_f_X3_readClause_X3 hown hK hP 2 rfl (hts (.fieldLink RX3 28 "HushWatch$Reader" "seenRules" "I") (List.mem_of_getElem? (i := 3) rfl)) rfl (dq_180 0 bcX3_readClause_0 (j := 42) (i := 28) rfl rfl rfl) ?_
          refine lv_iload_n hx hb (dq_27 0 bcX3_readClause_0 (j := 45) rfl rfl) rfl (lv_at hl 0 rfl) ?_
          refine lv_ishr hx hb (dq_122 0 bcX3_readClause_0 (j := 46) rfl rfl) ?_
          refine lv_iconst (v := 1) hx hb (dq_4 0 bcX3_readClause_0 (j := 47) rfl rfl) (by decide) ?_
          refine lv_iand hx hb (dq_126 48 bcX3_readClause_1 (j := 0) rfl rfl) ?_
          refine lv_if_eq (tgt := 61) hx hb (dq_153 48 bcX3_readClause_1 (j := 1) (i := 12) rfl rfl rfl) (by decide) (fun c_24 => ?_) (fun c_24 => ?_)
          ·
            replace hF := ip c_24 hF
            refine lv_aload_n hx hb (dq_42 48 bcX3_readClause_1 (j := 13) rfl rfl) rfl (lv_at hl 1 rfl) ?_
            refine lv_dup hx hb (dq_89 48 bcX3_readClause_1 (j := 14) rfl rfl) rfl ?_
            refine gt_X3_6 (v := .int c_seenRules) hx hb hts i_f_X3_readClause_X3 hown hK hP 2 rfl (hts (.fieldLink RX3 28 "HushWatch$Reader" "seenRules" "I") (List.mem_of_getElem? (i := 3) rfl)) rfl (dq_180 48 bcX3_readClause_1 (j := 15) (i := 28) rfl rfl rfl) ?_
            refine lv_iconst (v := 1) hx hb (dq_4 48 bcX3_readClause_1 (j := 18) rfl rfl) (by decide) ?_
            refine lv_iload_n hx hb (dq_27 48 bcX3_readClause_1 (j := 19) rfl rfl) rfl (lv_at hl 0 rfl) ?_
            refine lv_ishl hx hb (dq_120 48 bcX3_readClause_1 (j := 20) rfl rfl) ?_
            refine lv_ior hx hb (dq_128 48 bcX3_readClause_1 (j := 21) rfl rfl) ?_
            refine pt_X3_6 (v := .int (c_seenRules ||| ((1 : Int32) <<< (r_12 &&& (31 : Int32))))) hx hb hts i_f_X3_readClause_X3 hown hK hP hD hS 2 rfl (hts (.fieldLink RX3 28 "HushWatch$Reader" "seenRules" "I") (List.mem_of_getElem? (i := 3) rfl)) rfl rfl (Nat.le_of_ble_eq_true rfl) (dq_181 48 bcX3_readClause_1 (j := 22) (i := 28) rfl rfl rfl) (fun H locs hP hD hS => ?_)
            have h9 := fixPD (ws' := [k_I E a_rules 3 c_rules, k_I E a_places 16 c_places, k_X3 a_ a_tape a_rules a_places a_steps c_siteCount c_stepCount (c_seenRules ||| ((1 : Int32) <<< (r_12 &&& (31 : Int32)))) w_2 w_3 c_number w_4, k_X6 a_tape a_tape_bytes c_tape_length, k_B E a_tape_bytes 320 c_tape_bytes]) hP hD rfl
            clear hP hD
            obtain ⟨hP, hD⟩ := h9
            refine lv_iload_n hx hb (dq_27 48 bcX3_readClause_1 (j := 25) rfl rfl) rfl (lv_at hl 0 rfl) ?_
            refine lv_if_ne (tgt := 84) hx hb (dq_154 48 bcX3_readClause_1 (j := 26) (i := 10) rfl rfl rfl) (by decide) (fun c_25 => ?_) (fun c_25 => ?_)
            ·
              replace hF := inn c_25 hF
              refine lv_iload_n hx hb (dq_27 48 bcX3_readClause_1 (j := 36) rfl rfl) rfl (lv_at hl 0 rfl) ?_
              refine lv_iconst (v := 1) hx hb (dq_4 48 bcX3_readClause_1 (j := 37) rfl rfl) (by decide) ?_
              refine lv_icmp_ne (tgt := 100) hx hb (dq_160 48 bcX3_readClause_1 (j := 38) (i := 14) rfl rfl rfl) (by decide) (fun c_26 => ?_) (fun c_26 => ?_)
              ·
                replace hF := inn c_26 hF
                refine lv_aload_n hx hb (dq_42 96 bcX3_readClause_2 (j := 4) rfl rfl) rfl (lv_at hl 1 rfl) ?_
                refine lv_iconst (v := 1) hx hb (dq_4 96 bcX3_readClause_2 (j := 5) rfl rfl) (by decide) ?_
                refine lv_sipush (v := 9999) hx hb (dq_17 96 bcX3_readClause_2 (j := 6) (i := 9999) rfl rfl rfl) (by decide) ?_
                replace hF := bd4_s hF
                obtain ⟨r_27, w_28, w_29, w_30, hc_31, hF⟩ := hF
                obtain ⟨hPc, hDc, hFc⟩ := wcut (wc := (w_X3_readNumber E a_ a_tape a_rules a_places a_steps a_tape_bytes c_siteCount c_stepCount (c_seenRules ||| ((1 : Int32) <<< (r_12 &&& (31 : Int32)))) w_2 w_3 c_number w_4 c_tape_length c_tape_bytes)) hP hD hS hA [2, 3, 4] (by decide) rfl
                have hrc := va_recv hK hPc (ci := 4) (q0 := 0) rfl rfl
                refine cE_z (wc := (w_X3_readNumber E a_ a_tape a_rules a_places a_steps a_tape_bytes c_siteCount c_stepCount (c_seenRules ||| ((1 : Int32) <<< (r_12 &&& (31 : Int32)))) w_2 w_3 c_number w_4 c_tape_length c_tape_bytes)) (wr := [k_I E a_rules 3 c_rules, k_I E a_places 16 c_places]) (w1 := (w_X3_readNumber E a_ a_tape a_rules a_places a_steps a_tape_bytes c_siteCount c_stepCount (c_seenRules ||| ((1 : Int32) <<< (r_12 &&& (31 : Int32)))) w_28 w_3 w_29 w_30 c_tape_length c_tape_bytes)) (va_runV (As := [.int (1 : Int32), .int (9999 : Int32)]) (rest := [])  ⟨hx, hb, hml, hown, hts⟩ (f_X3_readNumber l E H.size K (a_ := a_) (a_tape := a_tape) (a_rules := a_rules) (a_places := a_places) (a_steps := a_steps) (a_tape_bytes := a_tape_bytes) (p1 := (1 : Int32)) (p2 := (9999 : Int32)) (c_siteCount := c_siteCount) (c_stepCount := c_stepCount) (c_seenRules := c_seenRules ||| ((1 : Int32) <<< (r_12 &&& (31 : Int32)))) (c_at := w_2) (c_wordStart := w_3) (c_number := c_number) (c_failed := w_4) (c_tape_length := c_tape_length) (c_tape_bytes := c_tape_bytes) hc_31) (cwV 2 hts g_f_X3_readClause_f_X3_readNumber_96 rfl rfl rfl hd_X3_readNumber ⟨Nat.le_of_ble_eq_true rfl, Nat.le_of_ble_eq_true rfl⟩) ⟨pW.blind, hrc, (pW.pre ⟨hK, hN⟩ hPc hDc)⟩ rfl rfl hl.1 rfl (lv_room (Nat.le_of_ble_eq_true rfl)) (dq_182 96 bcX3_readClause_2 (j := 9) (i := 96) rfl rfl rfl) ⟨Nat.le_of_ble_eq_true rfl, Nat.le_of_ble_eq_true rfl⟩) hS hFc hP hD [2, 3, 4] [0, 1] rfl rfl (by decide) (by decide) (fun hb_32 H locs hP hD hS => ?_)
                have h9 := fixPD (ws' := [k_I E a_rules 3 c_rules, k_I E a_places 16 c_places, k_X3 a_ a_tape a_rules a_places a_steps c_siteCount c_stepCount (c_seenRules ||| ((1 : Int32) <<< (r_12 &&& (31 : Int32)))) w_28 w_3 w_29 w_30, k_X6 a_tape a_tape_bytes c_tape_length, k_B E a_tape_bytes 320 c_tape_bytes]) hP hD rfl
                clear hP hD
                obtain ⟨hP, hD⟩ := h9
                exact j_X3_readClause_108 l E K (c_stepCount := c_stepCount) (c_tape_length := c_tape_length) (c_tape_bytes := c_tape_bytes) (k0 := r_27) (x1 := r_12) (c_rules := c_rules) (c_places := c_places) (c_siteCount := c_siteCount) (c_seenRules := c_seenRules ||| ((1 : Int32) <<< (r_12 &&& (31 : Int32)))) (c_at := w_28) (c_wordStart := w_3) (c_number := w_29) (c_failed := w_30) hx hb hml hown hts hK hN hA hZ hr hlocks hQ hF H locs ls (hP.sub [2, 3, 4, 0, 1] rfl) (hD.sub [2, 3, 4, 0, 1] (by decide) rfl) hS (lv_sub hl [1, 0] rfl)
              ·
                replace hF := ip c_26 hF
                refine lv_aload_n hx hb (dq_42 48 bcX3_readClause_1 (j := 41) rfl rfl) rfl (lv_at hl 1 rfl) ?_
                refine lv_ldc (v := -9999999) hx hb hown (hts (.constant RX3 94 (-9999999)) (List.mem_of_getElem? (i := 5) rfl)) (dq_18 48 bcX3_readClause_1 (j := 42) (i := 94) rfl rfl) ?_
                refine lv_ldc (v := 9999999) hx hb hown (hts (.constant RX3 95 (9999999)) (List.mem_of_getElem? (i := 6) rfl)) (dq_18 48 bcX3_readClause_1 (j := 44) (i := 95) rfl rfl) ?_
                replace hF := bd4_s hF
                obtain ⟨r_38, w_39, w_40, w_41, hc_42, hF⟩ := hF
                obtain ⟨hPc, hDc, hFc⟩ := wcut (wc := (w_X3_readNumber E a_ a_tape a_rules a_places a_steps a_tape_bytes c_siteCount c_stepCount (c_seenRules ||| ((1 : Int32) <<< (r_12 &&& (31 : Int32)))) w_2 w_3 c_number w_4 c_tape_length c_tape_bytes)) hP hD hS hA [2, 3, 4] (by decide) rfl
                have hrc := va_recv hK hPc (ci := 4) (q0 := 0) rfl rfl
                refine cE_z (wc := (w_X3_readNumber E a_ a_tape a_rules a_places a_steps a_tape_bytes c_siteCount c_stepCount (c_seenRules ||| ((1 : Int32) <<< (r_12 &&& (31 : Int32)))) w_2 w_3 c_number w_4 c_tape_length c_tape_bytes)) (wr := [k_I E a_rules 3 c_rules, k_I E a_places 16 c_places]) (w1 := (w_X3_readNumber E a_ a_tape a_rules a_places a_steps a_tape_bytes c_siteCount c_stepCount (c_seenRules ||| ((1 : Int32) <<< (r_12 &&& (31 : Int32)))) w_39 w_3 w_40 w_41 c_tape_length c_tape_bytes)) (va_runV (As := [.int (-9999999 : Int32), .int (9999999 : Int32)]) (rest := [])  ⟨hx, hb, hml, hown, hts⟩ (f_X3_readNumber l E H.size K (a_ := a_) (a_tape := a_tape) (a_rules := a_rules) (a_places := a_places) (a_steps := a_steps) (a_tape_bytes := a_tape_bytes) (p1 := (-9999999 : Int32)) (p2 := (9999999 : Int32)) (c_siteCount := c_siteCount) (c_stepCount := c_stepCount) (c_seenRules := c_seenRules ||| ((1 : Int32) <<< (r_12 &&& (31 : Int32)))) (c_at := w_2) (c_wordStart := w_3) (c_number := c_number) (c_failed := w_4) (c_tape_length := c_tape_length) (c_tape_bytes := c_tape_bytes) hc_42) (cwV 2 hts g_f_X3_readClause_f_X3_readNumber_96 rfl rfl rfl hd_X3_readNumber ⟨Nat.le_of_ble_eq_true rfl, Nat.le_of_ble_eq_true rfl⟩) ⟨pW.blind, hrc, (pW.pre ⟨hK, hN⟩ hPc hDc)⟩ rfl rfl hl.1 rfl (lv_room (Nat.le_of_ble_eq_true rfl)) (dq_182 48 bcX3_readClause_1 (j := 46) (i := 96) rfl rfl rfl) ⟨Nat.le_of_ble_eq_true rfl, Nat.le_of_ble_eq_true rfl⟩) hS hFc hP hD [2, 3, 4] [0, 1] rfl rfl (by decide) (by decide) (fun hb_43 H locs hP hD hS => ?_)
                have h9 := fixPD (ws' := [k_I E a_rules 3 c_rules, k_I E a_places 16 c_places, k_X3 a_ a_tape a_rules a_places a_steps c_siteCount c_stepCount (c_seenRules ||| ((1 : Int32) <<< (r_12 &&& (31 : Int32)))) w_39 w_3 w_40 w_41, k_X6 a_tape a_tape_bytes c_tape_length, k_B E a_tape_bytes 320 c_tape_bytes]) hP hD rfl
                clear hP hD
                obtain ⟨hP, hD⟩ := h9
                refine lv_goto (tgt := 108) hx hb (dq_167 96 bcX3_readClause_2 (j := 1) (i := 11) rfl rfl rfl) (by decide) ?_
                exact j_X3_readClause_108 l E K (c_stepCount := c_stepCount) (c_tape_length := c_tape_length) (c_tape_bytes := c_tape_bytes) (k0 := r_38) (x1 := r_12) (c_rules := c_rules) (c_places := c_places) (c_siteCount := c_siteCount) (c_seenRules := c_seenRules ||| ((1 : Int32) <<< (r_12 &&& (31 : Int32)))) (c_at := w_39) (c_wordStart := w_3) (c_number := w_40) (c_failed := w_41) hx hb hml hown hts hK hN hA hZ hr hlocks hQ hF H locs ls (hP.sub [2, 3, 4, 0, 1] rfl) (hD.sub [2, 3, 4, 0, 1] (by decide) rfl) hS (lv_sub hl [1, 0] rfl)
            ·
              replace hF := ip c_25 hF
              refine lv_aload_n hx hb (dq_42 48 bcX3_readClause_1 (j := 29) rfl rfl) rfl (lv_at hl 1 rfl) ?_
              replace hF := bd5_s hF
              obtain ⟨r_44, w_45, w_46, w_47, w_48, hc_49, hF⟩ := hF
              obtain ⟨hPc, hDc, hFc⟩ := wcut (wc := (w_X3_readLaw E a_ a_tape a_rules a_places a_steps a_tape_bytes c_siteCount c_stepCount (c_seenRules ||| ((1 : Int32) <<< (r_12 &&& (31 : Int32)))) w_2 w_3 c_number w_4 c_tape_length c_tape_bytes)) hP hD hS hA [2, 3, 4] (by decide) rfl
              have hrc := va_recv hK hPc (ci := 4) (q0 := 0) rfl rfl
              refine cE_z (wc := (w_X3_readLaw E a_ a_tape a_rules a_places a_steps a_tape_bytes c_siteCount c_stepCount (c_seenRules ||| ((1 : Int32) <<< (r_12 &&& (31 : Int32)))) w_2 w_3 c_number w_4 c_tape_length c_tape_bytes)) (wr := [k_I E a_rules 3 c_rules, k_I E a_places 16 c_places]) (w1 := (w_X3_readLaw E a_ a_tape a_rules a_places a_steps a_tape_bytes c_siteCount c_stepCount (c_seenRules ||| ((1 : Int32) <<< (r_12 &&& (31 : Int32)))) w_45 w_46 w_47 w_48 c_tape_length c_tape_bytes)) (va_runV (As := []) (rest := [])  ⟨hx, hb, hml, hown, hts⟩ (f_X3_readLaw l E H.size K z9 (a_ := a_) (a_tape := a_tape) (a_rules := a_rules) (a_places := a_places) (a_steps := a_steps) (a_tape_bytes := a_tape_bytes) (c_siteCount := c_siteCount) (c_stepCount := c_stepCount) (c_seenRules := c_seenRules ||| ((1 : Int32) <<< (r_12 &&& (31 : Int32)))) (c_at := w_2) (c_wordStart := w_3) (c_number := c_number) (c_failed := w_4) (c_tape_length := c_tape_length) (c_tape_bytes := c_tape_bytes) hc_49) (cwV 0 hts g_f_X3_readClause_f_X3_readLaw_91 rfl rfl rfl hd_X3_readLaw ⟨Nat.le_of_ble_eq_true rfl, Nat.le_of_ble_eq_true rfl⟩) ⟨qWZ.blind, hrc, (qWZ.pre ⟨hK, hN⟩ hPc hDc hZ hS hFc)⟩ rfl rfl hl.1 rfl (lv_room (Nat.le_of_ble_eq_true rfl)) (dq_182 48 bcX3_readClause_1 (j := 30) (i := 91) rfl rfl rfl) ⟨Nat.le_of_ble_eq_true rfl, Nat.le_of_ble_eq_true rfl⟩) hS hFc hP hD [2, 3, 4] [0, 1] rfl rfl (by decide) (by decide) (fun hb_50 H locs hP hD hS => ?_)
              have h9 := fixPD (ws' := [k_I E a_rules 3 c_rules, k_I E a_places 16 c_places, k_X3 a_ a_tape a_rules a_places a_steps c_siteCount c_stepCount (c_seenRules ||| ((1 : Int32) <<< (r_12 &&& (31 : Int32)))) w_45 w_46 w_47 w_48, k_X6 a_tape a_tape_bytes c_tape_length, k_B E a_tape_bytes 320 c_tape_bytes]) hP hD rfl
              clear hP hD
              obtain ⟨hP, hD⟩ := h9
              refine lv_goto (tgt := 108) hx hb (dq_167 48 bcX3_readClause_1 (j := 33) (i := 27) rfl rfl rfl) (by decide) ?_
              exact j_X3_readClause_108 l E K (c_stepCount := c_stepCount) (c_tape_length := c_tape_length) (c_tape_bytes := c_tape_bytes) (k0 := r_44) (x1 := r_12) (c_rules := c_rules) (c_places := c_places) (c_siteCount := c_siteCount) (c_seenRules := c_seenRules ||| ((1 : Int32) <<< (r_12 &&& (31 : Int32)))) (c_at := w_45) (c_wordStart := w_46) (c_number := w_47) (c_failed := w_48) hx hb hml hown hts hK hN hA hZ hr hlocks hQ hF H locs ls (hP.sub [2, 3, 4, 0, 1] rfl) (hD.sub [2, 3, 4, 0, 1] (by decide) rfl) hS (lv_sub hl [1, 0] rfl)
          ·
            replace hF := inn c_24 hF
            refine lv_aload_n hx hb (dq_42 48 bcX3_readClause_1 (j := 4) rfl rfl) rfl (lv_at hl 1 rfl) ?_
            refine lv_aload_n hx hb (dq_42 48 bcX3_readClause_1 (j := 5) rfl rfl) rfl (lv_at hl 1 rfl) ?_
            refine gt_X3_8 (v := .int w_3) hx hb hts i_f_X3_readClause_X3 hown hK hP 2 rfl (hts (.fieldLink RX3 34 "HushWatch$Reader" "wordStart" "I") (List.mem_of_getElem? (i := 1) rfl)) rfl (dq_180 48 bcX3_readClause_1 (j := 6) (i := 34) rfl rfl rfl) ?_
            replace hF := bd2_s hF
            obtain ⟨r_51, w_52, hc_53, hF⟩ := hF
            obtain ⟨hPc, hDc, hFc⟩ := wcut (wc := (w_X3_failAt E a_ a_tape a_rules a_places a_steps c_siteCount c_stepCount c_seenRules w_2 w_3 c_number w_4)) hP hD hS hA [2] (by decide) rfl
            have hrc := va_recv hK hPc (ci := 4) (q0 := 0) rfl rfl
            refine cE_z (wc := (w_X3_failAt E a_ a_tape a_rules a_places a_steps c_siteCount c_stepCount c_seenRules w_2 w_3 c_number w_4)) (wr := [k_I E a_rules 3 c_rules, k_I E a_places 16 c_places, k_X6 a_tape a_tape_bytes c_tape_length, k_B E a_tape_bytes 320 c_tape_bytes]) (w1 := (w_X3_failAt E a_ a_tape a_rules a_places a_steps c_siteCount c_stepCount c_seenRules w_2 w_3 c_number w_52)) (va_runV (As := [.int w_3]) (rest := [])  ⟨hx, hb, hml, hown, hts⟩ (f_X3_failAt l E H.size (a_ := a_) (a_tape := a_tape) (a_rules := a_rules) (a_places := a_places) (a_steps := a_steps) (p1 := w_3) (c_siteCount := c_siteCount) (c_stepCount := c_stepCount) (c_seenRules := c_seenRules) (c_at := w_2) (c_wordStart := w_3) (c_number := c_number) (c_failed := w_4) hc_53) (cwV 1 hts g_f_X3_readClause_f_X3_failAt_87 rfl rfl rfl hd_X3_failAt ⟨Nat.le_of_ble_eq_true rfl, Nat.le_of_ble_eq_true rfl⟩) ⟨pW.blind, hrc, (pW.pre ⟨hK, hN⟩ hPc hDc)⟩ rfl rfl hl.1 rfl (lv_room (Nat.le_of_ble_eq_true rfl)) (dq_182 48 bcX3_readClause_1 (j := 9) (i := 87) rfl rfl rfl) ⟨Nat.le_of_ble_eq_true rfl, Nat.le_of_ble_eq_true rfl⟩) hS hFc hP hD [2] [0, 1, 3, 4] rfl rfl (by decide) (by decide) (fun hb_54 H locs hP hD hS => ?_)
            have h9 := fixPD (ws' := [k_I E a_rules 3 c_rules, k_I E a_places 16 c_places, k_X6 a_tape a_tape_bytes c_tape_length, k_B E a_tape_bytes 320 c_tape_bytes, k_X3 a_ a_tape a_rules a_places a_steps c_siteCount c_stepCount c_seenRules w_2 w_3 c_number w_52]) hP hD rfl
            clear hP hD
            obtain ⟨hP, hD⟩ := h9
            rw [hQ]
            have h9 := fin9 (P := fun u9 : Int32 × (Nat → Int32) × (Nat → Int32) × Int32 × Int32 × Int32 × Int32 × Int32 × Int32 => r_51 = u9.1 ∧ va_P E.1 vwCl (w_X3_readClause E a_ a_tape a_rules a_places a_steps a_tape_bytes u9.2.2.2.1 c_stepCount u9.2.2.2.2.1 u9.2.2.2.2.2.1 u9.2.2.2.2.2.2.1 u9.2.2.2.2.2.2.2.1 u9.2.2.2.2.2.2.2.2 c_tape_length c_tape_bytes u9.2.1 u9.2.2.1) H ∧ va_D A (w_X3_readClause E a_ a_tape a_rules a_places a_steps a_tape_bytes u9.2.2.2.1 c_stepCount u9.2.2.2.2.1 u9.2.2.2.2.2.1 u9.2.2.2.2.2.2.1 u9.2.2.2.2.2.2.2.1 u9.2.2.2.2.2.2.2.2 c_tape_length c_tape_bytes u9.2.1 u9.2.2.1)) hF ⟨rfl, hP.sub [4, 2, 3, 0, 1] rfl, hD.sub [4, 2, 3, 0, 1] (by decide) rfl⟩
            obtain ⟨e9_0, hP9, hD9⟩ := h9
            exact W.zret (v := r_51) hx hb hr (nar_bool hb_54) (fun tt ht hW => ⟨⟨_, (), rfl, ⟨e9_0, hb_54⟩, ht ▸ hP9, hD9⟩, hS.F ht⟩) hS.2.2 (dq_172 48 bcX3_readClause_1 (j := 12) rfl rfl)
    ·
      replace hF := inn c_11 hF
      refine lv_aload_n hx hb (dq_42 0 bcX3_readClause_0 (j := 18) rfl rfl) rfl (lv_at hl 0 rfl) ?_
      replace hF := bd6_s hF
      obtain ⟨r_55, w_56, w_57, w_58, w_59, w_60, hc_61, hF⟩ := hF
      obtain ⟨hPc, hDc, hFc⟩ := wcut (wc := (w_X3_readSite E a_ a_tape a_rules a_places a_steps a_tape_bytes c_siteCount c_stepCount c_seenRules w_2 w_3 c_number w_4 c_tape_length c_tape_bytes c_places)) hP hD hS hA [2, 3, 4, 1] (by decide) rfl
      have hrc := va_recv hK hPc (ci := 4) (q0 := 0) rfl rfl
      refine cE_z (wc := (w_X3_readSite E a_ a_tape a_rules a_places a_steps a_tape_bytes c_siteCount c_stepCount c_seenRules w_2 w_3 c_number w_4 c_tape_length c_tape_bytes c_places)) (wr := [k_I E a_rules 3 c_rules]) (w1 := (w_X3_readSite E a_ a_tape a_rules a_places a_steps a_tape_bytes w_57 c_stepCount c_seenRules w_58 w_3 w_59 w_60 c_tape_length c_tape_bytes w_56)) (va_runV (As := []) (rest := [])  ⟨hx, hb, hml, hown, hts⟩ (f_X3_readSite l E H.size K (a_ := a_) (a_tape := a_tape) (a_rules := a_rules) (a_places := a_places) (a_steps := a_steps) (a_tape_bytes := a_tape_bytes) (c_siteCount := c_siteCount) (c_stepCount := c_stepCount) (c_seenRules := c_seenRules) (c_at := w_2) (c_wordStart := w_3) (c_number := c_number) (c_failed := w_4) (c_tape_length := c_tape_length) (c_tape_bytes := c_tape_bytes) (c_places := c_places) hc_61) (cwV 0 hts g_f_X3_readClause_f_X3_readSite_80 rfl rfl rfl hd_X3_readSite ⟨Nat.le_of_ble_eq_true rfl, Nat.le_of_ble_eq_true rfl⟩) ⟨pW.blind, hrc, (pW.pre ⟨hK, hN⟩ hPc hDc)⟩ rfl rfl hl.1 rfl (lv_room (Nat.le_of_ble_eq_true rfl)) (dq_182 0 bcX3_readClause_0 (j := 19) (i := 80) rfl rfl rfl) ⟨Nat.le_of_ble_eq_true rfl, Nat.le_of_ble_eq_true rfl⟩) hS hFc hP hD [2, 3, 4, 1] [0] rfl rfl (by decide) (by decide) (fun hb_62 H locs hP hD hS => ?_)
      have h9 := fixPD (ws' := [k_I E a_rules 3 c_rules, k_X3 a_ a_tape a_rules a_places a_steps w_57 c_stepCount c_seenRules w_58 w_3 w_59 w_60, k_X6 a_tape a_tape_bytes c_tape_length, k_B E a_tape_bytes 320 c_tape_bytes, k_I E a_places 16 w_56]) hP hD rfl
      clear hP hD
      obtain ⟨hP, hD⟩ := h9
      rw [hQ]
      have h9 := fin9 (P := fun u9 : Int32 × (Nat → Int32) × (Nat → Int32) × Int32 × Int32 × Int32 × Int32 × Int32 × Int32 => r_55 = u9.1 ∧ va_P E.1 vwCl (w_X3_readClause E a_ a_tape a_rules a_places a_steps a_tape_bytes u9.2.2.2.1 c_stepCount u9.2.2.2.2.1 u9.2.2.2.2.2.1 u9.2.2.2.2.2.2.1 u9.2.2.2.2.2.2.2.1 u9.2.2.2.2.2.2.2.2 c_tape_length c_tape_bytes u9.2.1 u9.2.2.1) H ∧ va_D A (w_X3_readClause E a_ a_tape a_rules a_places a_steps a_tape_bytes u9.2.2.2.1 c_stepCount u9.2.2.2.2.1 u9.2.2.2.2.2.1 u9.2.2.2.2.2.2.1 u9.2.2.2.2.2.2.2.1 u9.2.2.2.2.2.2.2.2 c_tape_length c_tape_bytes u9.2.1 u9.2.2.1)) hF ⟨rfl, hP.sub [1, 2, 3, 0, 4] rfl, hD.sub [1, 2, 3, 0, 4] (by decide) rfl⟩
      obtain ⟨e9_0, hP9, hD9⟩ := h9
      exact W.zret (v := r_55) hx hb hr (nar_bool hb_62) (fun tt ht hW => ⟨⟨_, (), rfl, ⟨e9_0, hb_62⟩, ht ▸ hP9, hD9⟩, hS.F ht⟩) hS.2.2 (dq_172 0 bcX3_readClause_0 (j := 22) rfl rfl)
  ·
    replace hF := ip c_7 hF
    refine lv_iconst (v := 0) hx hb (dq_3 0 bcX3_readClause_0 (j := 7) rfl rfl) (by decide) ?_
    rw [hQ]
    have h9 := fin9 (P := fun u9 : Int32 × (Nat → Int32) × (Nat → Int32) × Int32 × Int32 × Int32 × Int32 × Int32 × Int32 => (0 : Int32) = u9.1 ∧ va_P E.1 vwCl (w_X3_readClause E a_ a_tape a_rules a_places a_steps a_tape_bytes u9.2.2.2.1 c_stepCount u9.2.2.2.2.1 u9.2.2.2.2.2.1 u9.2.2.2.2.2.2.1 u9.2.2.2.2.2.2.2.1 u9.2.2.2.2.2.2.2.2 c_tape_length c_tape_bytes u9.2.1 u9.2.2.1) H ∧ va_D A (w_X3_readClause E a_ a_tape a_rules a_places a_steps a_tape_bytes u9.2.2.2.1 c_stepCount u9.2.2.2.2.1 u9.2.2.2.2.2.1 u9.2.2.2.2.2.2.1 u9.2.2.2.2.2.2.2.1 u9.2.2.2.2.2.2.2.2 c_tape_length c_tape_bytes u9.2.1 u9.2.2.1)) hF ⟨rfl, hP.sub [2, 3, 4, 0, 1] rfl, hD.sub [2, 3, 4, 0, 1] (by decide) rfl⟩
    obtain ⟨e9_0, hP9, hD9⟩ := h9
    exact W.zret (v := (0 : Int32)) hx hb hr rfl (fun tt ht hW => ⟨⟨_, (), rfl, ⟨e9_0, Or.inl rfl⟩, ht ▸ hP9, hD9⟩, hS.F ht⟩) hS.2.2 (dq_172 0 bcX3_readClause_0 (j := 8) rfl rfl)

def F_X3_start (c_rules : Nat → Int32) (c_siteCount : Int32) (c_stepCount : Int32) (c_seenRules : Int32) (c_at : Int32) (c_failed : Int32) : Option ((Nat → Int32) × Int32 × Int32 × Int32 × Int32 × Int32) :=
  nmF (upd c_rules 0 (0 : Int32)) (fun f_1 => nmF (upd f_1 1 (1000 : Int32)) (fun f_2 => nmF (upd f_2 2 (100 : Int32)) (fun f_3 => some (f_3, (0 : Int32), (0 : Int32), (0 : Int32), (0 : Int32), (-1 : Int32)))))
abbrev w_X3_start (E : EE) (a_ a_tape a_rules a_places a_steps : Nat) (c_siteCount : Int32) (c_stepCount : Int32) (c_seenRules : Int32) (c_at : Int32) (c_wordStart : Int32) (c_number : Int32) (c_failed : Int32) (c_rules : Nat → Int32) : va_W := [k_X3 a_ a_tape a_rules a_places a_steps c_siteCount c_stepCount c_seenRules c_at c_wordStart c_number c_failed, k_I E a_rules 3 c_rules]
def v_f_X3_start : List Cond := List.cons (.code yX3_start cX3_start 1 none) (HAppend.hAppend (α := List Cond) (β := List Cond) (γ := List Cond) [.fieldLink RX3 9 "HushWatch$Reader" "rules" "[I", .fieldLink RX3 21 "HushWatch$Reader" "siteCount" "I", .fieldLink RX3 25 "HushWatch$Reader" "stepCount" "I", .fieldLink RX3 28 "HushWatch$Reader" "seenRules" "I", .fieldLink RX3 31 "HushWatch$Reader" "at" "I", .fieldLink RX3 40 "HushWatch$Reader" "failed" "I"] (HAppend.hAppend (α := List Cond) (β := List Cond) (γ := List Cond) wsX30 []))
theorem gw_f_X3_start : v_f_X3_start.all goodWord = true := gw_c2 (by decide +kernel) (gw_ap gw_wsX30 gw_nil)
theorem i_f_X3_start_X3 : ∀ w ∈ wsX30, w ∈ v_f_X3_start := fun _ h => List.mem_cons_of_mem _ (List.mem_append_right _ (List.mem_append_left _ h))
theorem hd_X3_start : yX3_start.cls = RX3 ∧ yX3_start.cls ≠ "java/lang/invoke/MethodHandle" ∧ yX3_start.cls ≠ "java/lang/invoke/VarHandle" ∧ (parseMethodDescriptor yX3_start.desc).map (fun d => d.parameters.length) = some 0 := by decide +kernel
set_option maxHeartbeats 4000000 in
set_option maxRecDepth 100000 in
theorem f_X3_start (l : Launch) (E : EE) (sz : Nat) {a_ a_tape a_rules a_places a_steps : Nat} {c_siteCount : Int32} {c_stepCount : Int32} {c_seenRules : Int32} {c_at : Int32} {c_wordStart : Int32} {c_number : Int32} {c_failed : Int32} {c_rules : Nat → Int32} {n_rules : Nat → Int32} {n_siteCount : Int32} {n_stepCount : Int32} {n_seenRules : Int32} {n_at : Int32} {n_failed : Int32} (hF : F_X3_start c_rules c_siteCount c_stepCount c_seenRules c_at c_failed = some (n_rules, n_siteCount, n_stepCount, n_seenRules, n_at, n_failed)) : Met l yX3_start v_f_X3_start (({ frames := 0, cells := 0, slots := 0, locals := 0 } : Room)) (va_Pc [.ref a_] (pW E sz (w_X3_start E a_ a_tape a_rules a_places a_steps c_siteCount c_stepCount c_seenRules c_at c_wordStart c_number c_failed c_rules))) (va_Qv (fun (_u : Unit) => True) (fun (_u : Unit) tt => va_P E.1 vwCl (w_X3_start E a_ a_tape a_rules a_places a_steps n_siteCount n_stepCount n_seenRules n_at c_wordStart c_number n_failed n_rules) tt.heap ∧ va_D (va_A (w_X3_start E a_ a_tape a_rules a_places a_steps c_siteCount c_stepCount c_seenRules c_at c_wordStart c_number c_failed c_rules) sz) (w_X3_start E a_ a_tape a_rules a_places a_steps n_siteCount n_stepCount n_seenRules n_at c_wordStart c_number n_failed n_rules)) (va_A (w_X3_start E a_ a_tape a_rules a_places a_steps c_siteCount c_stepCount c_seenRules c_at c_wordStart c_number c_failed c_rules) sz)) 0 0 (va_A (w_X3_start E a_ a_tape a_rules a_places a_steps c_siteCount c_stepCount c_seenRules c_at c_wordStart c_number c_failed c_rules) sz) := by
  refine Met.ofW (cc := cX3_start) (maxL := 1) (ret := none) (by decide) rfl ?_
  intro p e s m args below meth c s₁ B hml hv
  obtain ⟨rfl, hsz, ⟨hK, hN⟩, hP, hD0⟩ := hv
  have hx := B.exec
  have hb := B.bytes
  have hr := B.returns
  have hts := atoms_spec (ws := v_f_X3_start) B.pre
  have hown : s.vm.findClass RX3 = some m.cls := own_of hd_X3_start.1 (findClass_of_methodNamed B.named)
  have hlocks : meth.locks = false := B.notSynchronized
  subst hsz
  have hD := hD0.self (sz := s.heap.size)
  generalize hAe : va_A (w_X3_start E a_ a_tape a_rules a_places a_steps c_siteCount c_stepCount c_seenRules c_at c_wordStart c_number c_failed c_rules) s.heap.size = A at hD ⊢
  have hA : ∀ q : Nat, s.heap.size ≤ q → A q := fun q h => by rw [← hAe]; exact Or.inr h
  have hS : va_S A s.heap s.heap [] := va_S.rf
  have hl := lv_entry ([.ref a_]) (n := 1) (Nat.le_of_ble_eq_true rfl)
  rw [lg_entry_eq]
  generalize (lg_sl ([.ref a_]) ++ List.replicate (1 - (lg_sl ([.ref a_])).length) Slot.unset).toArray = ls at hl ⊢
  have hl : lv_has ls 1 [(0, .ref a_)] := hl
  obtain ⟨Q, hQ⟩ : ∃ Q : State → Prop, Q = MQ below (va_Qv (fun (_u : Unit) => True) (fun (_u : Unit) tt => va_P E.1 vwCl (w_X3_start E a_ a_tape a_rules a_places a_steps n_siteCount n_stepCount n_seenRules n_at c_wordStart c_number n_failed n_rules) tt.heap ∧ va_D A (w_X3_start E a_ a_tape a_rules a_places a_steps n_siteCount n_stepCount n_seenRules n_at c_wordStart c_number n_failed n_rules)) A) #[Value.ref a_] s 0 0 A := ⟨_, rfl⟩
  rw [← hQ]
  change W p l e ({ frames := 0, cells := 0, slots := 0, locals := 0 } : Room) s m #[Value.ref a_] below meth c s.heap [] 0 0 Q (F0 m 0 ls [])
  suffices hh9 : ∀ (H : Heap) (locs : List Loc), va_P E.1 vwCl (w_X3_start E a_ a_tape a_rules a_places a_steps c_siteCount c_stepCount c_seenRules c_at c_wordStart c_number c_failed c_rules) H → va_D A (w_X3_start E a_ a_tape a_rules a_places a_steps c_siteCount c_stepCount c_seenRules c_at c_wordStart c_number c_failed c_rules) → va_S A s.heap H locs → W p l e ({ frames := 0, cells := 0, slots := 0, locals := 0 } : Room) s m #[Value.ref a_] below meth c H locs 0 0 Q (F0 m 0 ls []) from hh9 s.heap [] hP hD hS
  clear hP hD hS
  intro H locs hP hD hS
  have h9 := fixPD (ws' := [k_X3 a_ a_tape a_rules a_places a_steps c_siteCount c_stepCount c_seenRules c_at c_wordStart c_number c_failed, k_I E a_rules 3 c_rules]) hP hD rfl
  clear hP hD
  obtain ⟨hP, hD⟩ := h9
  unfold F_X3_start at hF
  refine lv_aload_n hx hb (dq_42 0 bcX3_start_0 (j := 0) rfl rfl) rfl (lv_at hl 0 rfl) ?_
  refine gt_X3_1 (v := .ref a_rules) hx hb hts i_f_X3_start_X3 hown hK hP 0 rfl (hts (.fieldLink RX3 9 "HushWatch$Reader" "rules" "[I") (List.mem_of_getElem? (i := 1) rfl)) rfl (dq_180 0 bcX3_start_0 (j := 1) (i := 9) rfl rfl rfl) ?_
  refine lv_iconst (v := 0) hx hb (dq_3 0 bcX3_start_0 (j := 4) rfl rfl) (by decide) ?_
  refine lv_iconst (v := 0) hx hb (dq_3 0 bcX3_start_0 (j := 5) rfl rfl) (by decide) ?_
  refine va_iast hx hb hK hP hD hS 1 0 rfl rfl (vin rfl) (dq_79 0 bcX3_start_0 (j := 6) rfl rfl) (fun H locs hP hD hS => ?_)
  have h9 := fixPD (ws' := [k_X3 a_ a_tape a_rules a_places a_steps c_siteCount c_stepCount c_seenRules c_at c_wordStart c_number c_failed, k_I E a_rules 3 (upd c_rules 0 (0 : Int32))]) hP hD rfl
  clear hP hD
  obtain ⟨hP, hD⟩ := h9
  replace hF := nm_s hF
  obtain ⟨f_1, hf_1, hF⟩ := hF
  rw [← hf_1] at hP hD
  refine lv_aload_n hx hb (dq_42 0 bcX3_start_0 (j := 7) rfl rfl) rfl (lv_at hl 0 rfl) ?_
  refine gt_X3_1 (v := .ref a_rules) hx hb hts i_f_X3_start_X3 hown hK hP 0 rfl (hts (.fieldLink RX3 9 "HushWatch$Reader" "rules" "[I") (List.mem_of_getElem? (i := 1) rfl)) rfl (dq_180 0 bcX3_start_0 (j := 8) (i := 9) rfl rfl rfl) ?_
  refine lv_iconst (v := 1) hx hb (dq_4 0 bcX3_start_0 (j := 11) rfl rfl) (by decide) ?_
  refine lv_sipush (v := 1000) hx hb (dq_17 0 bcX3_start_0 (j := 12) (i := 1000) rfl rfl rfl) (by decide) ?_
  refine va_iast hx hb hK hP hD hS 1 0 rfl rfl (vin rfl) (dq_79 0 bcX3_start_0 (j := 15) rfl rfl) (fun H locs hP hD hS => ?_)
  have h9 := fixPD (ws' := [k_X3 a_ a_tape a_rules a_places a_steps c_siteCount c_stepCount c_seenRules c_at c_wordStart c_number c_failed, k_I E a_rules 3 (upd f_1 1 (1000 : Int32))]) hP hD rfl
  clear hP hD
  obtain ⟨hP, hD⟩ := h9
  replace hF := nm_s hF
  obtain ⟨f_2, hf_2, hF⟩ := hF
  rw [← hf_2] at hP hD
  refine lv_aload_n hx hb (dq_42 0 bcX3_start_0 (j := 16) rfl rfl) rfl (lv_at hl 0 rfl) ?_
  refine gt_X3_1 (v := .ref a_rules) hx hb hts i_f_X3_start_X3 hown hK hP 0 rfl (hts (.fieldLink RX3 9 "HushWatch$Reader" "rules" "[I") (List.mem_of_getElem? (i := 1) rfl)) rfl (dq_180 0 bcX3_start_0 (j := 17) (i := 9) rfl rfl rfl) ?_
  refine lv_iconst (v := 2) hx hb (dq_5 0 bcX3_start_0 (j := 20) rfl rfl) (by decide) ?_
  refine lv_bipush (v := 100) hx hb (dq_16 0 bcX3_start_0 (j := 21) (i := 100) rfl rfl rfl) (by decide) ?_
  refine va_iast hx hb hK hP hD hS 1 0 rfl rfl (vin rfl) (dq_79 0 bcX3_start_0 (j := 23) rfl rfl) (fun H locs hP hD hS => ?_)
  have h9 := fixPD (ws' := [k_X3 a_ a_tape a_rules a_places a_steps c_siteCount c_stepCount c_seenRules c_at c_wordStart c_number c_failed, k_I E a_rules 3 (upd f_2 2 (100 : Int32))]) hP hD rfl
  clear hP hD
  obtain ⟨hP, hD⟩ := h9
  replace hF := nm_s hF
  obtain ⟨f_3, hf_3, hF⟩ := hF
  rw [← hf_3] at hP hD
  refine lv_aload_n hx hb (dq_42 0 bcX3_start_0 (j := 24) rfl rfl) rfl (lv_at hl 0 rfl) ?_
  refine lv_iconst (v := 0) hx hb (dq_3 0 bcX3_start_0 (j := 25) rfl rfl) (by decide) ?_
  refine pt_X3_4 (v := .int (0 : Int32)) hx hb hts i_f_X3_start_X3 hown hK hP hD hS 0 rfl (hts (.fieldLink RX3 21 "HushWatch$Reader" "siteCount" "I") (List.mem_of_getElem? (i := 2) rfl)) rfl rfl (Nat.le_of_ble_eq_true rfl) (dq_181 0 bcX3_start_0 (j := 26) (i := 21) rfl rfl rfl) (fun H locs hP hD hS => ?_)
  have h9 := fixPD (ws' := [k_X3 a_ a_tape a_rules a_places a_steps (0 : Int32) c_stepCount c_seenRules c_at c_wordStart c_number c_failed, k_I E a_rules 3 f_3]) hP hD rfl
  clear hP hD
  obtain ⟨hP, hD⟩ := h9
  refine lv_aload_n hx hb (dq_42 0 bcX3_start_0 (j := 29) rfl rfl) rfl (lv_at hl 0 rfl) ?_
  refine lv_iconst (v := 0) hx hb (dq_3 0 bcX3_start_0 (j := 30) rfl rfl) (by decide) ?_
  refine pt_X3_5 (v := .int (0 : Int32)) hx hb hts i_f_X3_start_X3 hown hK hP hD hS 0 rfl (hts (.fieldLink RX3 25 "HushWatch$Reader" "stepCount" "I") (List.mem_of_getElem? (i := 3) rfl)) rfl rfl (Nat.le_of_ble_eq_true rfl) (dq_181 0 bcX3_start_0 (j := 31) (i := 25) rfl rfl rfl) (fun H locs hP hD hS => ?_)
  have h9 := fixPD (ws' := [k_X3 a_ a_tape a_rules a_places a_steps (0 : Int32) (0 : Int32) c_seenRules c_at c_wordStart c_number c_failed, k_I E a_rules 3 f_3]) hP hD rfl
  clear hP hD
  obtain ⟨hP, hD⟩ := h9
  refine lv_aload_n hx hb (dq_42 0 bcX3_start_0 (j := 34) rfl rfl) rfl (lv_at hl 0 rfl) ?_
  refine lv_iconst (v := 0) hx hb (dq_3 0 bcX3_start_0 (j := 35) rfl rfl) (by decide) ?_
  refine pt_X3_6 (v := .int (0 : Int32)) hx hb hts i_f_X3_start_X3 hown hK hP hD hS 0 rfl (hts (.fieldLink RX3 28 "HushWatch$Reader" "seenRules" "I") (List.mem_of_getElem? (i := 4) rfl)) rfl rfl (Nat.le_of_ble_eq_true rfl) (dq_181 0 bcX3_start_0 (j := 36) (i := 28) rfl rfl rfl) (fun H locs hP hD hS => ?_)
  have h9 := fixPD (ws' := [k_X3 a_ a_tape a_rules a_places a_steps (0 : Int32) (0 : Int32) (0 : Int32) c_at c_wordStart c_number c_failed, k_I E a_rules 3 f_3]) hP hD rfl
  clear hP hD
  obtain ⟨hP, hD⟩ := h9
  refine lv_aload_n hx hb (dq_42 0 bcX3_start_0 (j := 39) rfl rfl) rfl (lv_at hl 0 rfl) ?_
  refine lv_iconst (v := 0) hx hb (dq_3 0 bcX3_start_0 (j := 40) rfl rfl) (by decide) ?_
  refine pt_X3_7 (v := .int (0 : Int32)) hx hb hts i_f_X3_start_X3 hown hK hP hD hS 0 rfl (hts (.fieldLink RX3 31 "HushWatch$Reader" "at" "I") (List.mem_of_getElem? (i := 5) rfl)) rfl rfl (Nat.le_of_ble_eq_true rfl) (dq_181 0 bcX3_start_0 (j := 41) (i := 31) rfl rfl rfl) (fun H locs hP hD hS => ?_)
  have h9 := fixPD (ws' := [k_X3 a_ a_tape a_rules a_places a_steps (0 : Int32) (0 : Int32) (0 : Int32) (0 : Int32) c_wordStart c_number c_failed, k_I E a_rules 3 f_3]) hP hD rfl
  clear hP hD
  obtain ⟨hP, hD⟩ := h9
  refine lv_aload_n hx hb (dq_42 0 bcX3_start_0 (j := 44) rfl rfl) rfl (lv_at hl 0 rfl) ?_
  refine lv_iconst (v := -1) hx hb (dq_2 0 bcX3_start_0 (j := 45) rfl rfl) (by decide) ?_
  refine pt_X3_10 (v := .int (-1 : Int32)) hx hb hts i_f_X3_start_X3 hown hK hP hD hS 0 rfl (hts (.fieldLink RX3 40 "HushWatch$Reader" "failed" "I") (List.mem_of_getElem? (i := 6) rfl)) rfl rfl (Nat.le_of_ble_eq_true rfl) (dq_181 0 bcX3_start_0 (j := 46) (i := 40) rfl rfl rfl) (fun H locs hP hD hS => ?_)
  have h9 := fixPD (ws' := [k_X3 a_ a_tape a_rules a_places a_steps (0 : Int32) (0 : Int32) (0 : Int32) (0 : Int32) c_wordStart c_number (-1 : Int32), k_I E a_rules 3 f_3]) hP hD rfl
  clear hP hD
  obtain ⟨hP, hD⟩ := h9
  rw [hQ]
  have h9 := fin9 (P := fun u9 : (Nat → Int32) × Int32 × Int32 × Int32 × Int32 × Int32 => va_P E.1 vwCl (w_X3_start E a_ a_tape a_rules a_places a_steps u9.2.1 u9.2.2.1 u9.2.2.2.1 u9.2.2.2.2.1 c_wordStart c_number u9.2.2.2.2.2 u9.1) H ∧ va_D A (w_X3_start E a_ a_tape a_rules a_places a_steps u9.2.1 u9.2.2.1 u9.2.2.2.1 u9.2.2.2.2.1 c_wordStart c_number u9.2.2.2.2.2 u9.1)) hF ⟨hP, hD⟩
  obtain ⟨hP9, hD9⟩ := h9
  exact W.vret hx hb hr (fun tt ht hW => ⟨⟨(), rfl, trivial, ht ▸ hP9, hD9⟩, hS.F ht⟩) hS.2.2 (dq_177 48 bcX3_start_1 (j := 1) rfl rfl)

def F_X3_stepOfWord (K : Nat) (c_tape_bytes : Nat → Int32) (c_tape_length : Int32) (c_at : Int32) (c_wordStart : Int32) : Option (Int32) :=
  bd1 (F_X3_isWord K 8 c_tape_bytes c_tape_length c_at c_wordStart) (fun r_1 => if r_1 = (0 : Int32) then bd1 (F_X3_isWord K 9 c_tape_bytes c_tape_length c_at c_wordStart) (fun r_5 => if r_5 = (0 : Int32) then bd1 (F_X3_isWord K 2 c_tape_bytes c_tape_length c_at c_wordStart) (fun r_9 => if r_9 = (0 : Int32) then bd1 (F_X3_isWord K 1 c_tape_bytes c_tape_length c_at c_wordStart) (fun r_13 => if r_13 = (0 : Int32) then bd1 (F_X3_isWord K 10 c_tape_bytes c_tape_length c_at c_wordStart) (fun r_17 => if r_17 = (0 : Int32) then bd1 (F_X3_isWord K 3 c_tape_bytes c_tape_length c_at c_wordStart) (fun r_21 => if r_21 = (0 : Int32) then bd1 (F_X3_isWord K 11 c_tape_bytes c_tape_length c_at c_wordStart) (fun r_25 => if r_25 = (0 : Int32) then some (-1 : Int32) else some (6 : Int32)) else some (5 : Int32)) else some (4 : Int32)) else some (3 : Int32)) else some (2 : Int32)) else some (1 : Int32)) else some (0 : Int32))
abbrev w_X3_stepOfWord (E : EE) (a_ a_tape a_rules a_places a_steps a_tape_bytes : Nat) (c_siteCount : Int32) (c_stepCount : Int32) (c_seenRules : Int32) (c_at : Int32) (c_wordStart : Int32) (c_number : Int32) (c_failed : Int32) (c_tape_length : Int32) (c_tape_bytes : Nat → Int32) : va_W := [k_X3 a_ a_tape a_rules a_places a_steps c_siteCount c_stepCount c_seenRules c_at c_wordStart c_number c_failed, k_X6 a_tape a_tape_bytes c_tape_length, k_B E a_tape_bytes 320 c_tape_bytes]
def v_f_X3_stepOfWord : List Cond := List.cons (.code yX3_stepOfWord cX3_stepOfWord 1 (some .int)) (HAppend.hAppend (α := List Cond) (β := List Cond) (γ := List Cond) [.methodLink RX3 76 yX3_isWord, .instanceMethod yX3_isWord, .selects RX3 yX3_isWord yX3_isWord, .initialized RX3] (HAppend.hAppend (α := List Cond) (β := List Cond) (γ := List Cond) v_f_X3_isWord []))
theorem gw_f_X3_stepOfWord : v_f_X3_stepOfWord.all goodWord = true := gw_c2 (by decide +kernel) (gw_ap gw_f_X3_isWord gw_nil)
theorem g_f_X3_stepOfWord_f_X3_isWord_76 : GoodIn v_f_X3_stepOfWord (wsV RX3 76 RX3 yX3_isWord v_f_X3_isWord) := goodIn_in gw_f_X3_stepOfWord (in4 1 2 3 4 rfl rfl rfl rfl (fun _ h => List.mem_cons_of_mem _ (List.mem_append_right _ (List.mem_append_left _ h))))
theorem hd_X3_stepOfWord : yX3_stepOfWord.cls = RX3 ∧ yX3_stepOfWord.cls ≠ "java/lang/invoke/MethodHandle" ∧ yX3_stepOfWord.cls ≠ "java/lang/invoke/VarHandle" ∧ (parseMethodDescriptor yX3_stepOfWord.desc).map (fun d => d.parameters.length) = some 0 := by decide +kernel
set_option maxHeartbeats 4000000 in
set_option maxRecDepth 100000 in
theorem f_X3_stepOfWord (l : Launch) (E : EE) (K : Nat) (z9 : Nat → Nat) {a_ a_tape a_rules a_places a_steps a_tape_bytes : Nat} {c_siteCount : Int32} {c_stepCount : Int32} {c_seenRules : Int32} {c_at : Int32} {c_wordStart : Int32} {c_number : Int32} {c_failed : Int32} {c_tape_length : Int32} {c_tape_bytes : Nat → Int32} {rr : Int32} (hF : F_X3_stepOfWord K c_tape_bytes c_tape_length c_at c_wordStart = some rr) : Met l yX3_stepOfWord v_f_X3_stepOfWord (({ frames := 5, cells := 0, slots := 0, locals := 107 } : Room)) (va_Pc [.ref a_] (qPZ E z9 (w_X3_stepOfWord E a_ a_tape a_rules a_places a_steps a_tape_bytes c_siteCount c_stepCount c_seenRules c_at c_wordStart c_number c_failed c_tape_length c_tape_bytes))) (vp_Si (fun q : Int32 => q = rr)) 0 0 (fun _ => False) := by
  refine Met.ofW (cc := cX3_stepOfWord) (maxL := 1) (ret := (some .int)) (by decide) rfl ?_
  intro p e s m args below meth c s₁ B hml hv
  obtain ⟨rfl, ⟨hK, hN⟩, hP, hZ⟩ := hv
  have hx := B.exec
  have hb := B.bytes
  have hr := B.returns
  have hts := atoms_spec (ws := v_f_X3_stepOfWord) B.pre
  have hown : s.vm.findClass RX3 = some m.cls := own_of hd_X3_stepOfWord.1 (findClass_of_methodNamed B.named)
  have hlocks : meth.locks = false := B.notSynchronized
  replace hP : va_P E.1 vwCl [k_X3 a_ a_tape a_rules a_places a_steps c_siteCount c_stepCount c_seenRules c_at c_wordStart c_number c_failed, k_X6 a_tape a_tape_bytes c_tape_length, k_B E a_tape_bytes 320 c_tape_bytes] s.heap := hP
  have hl := lv_entry ([.ref a_]) (n := 1) (Nat.le_of_ble_eq_true rfl)
  rw [lg_entry_eq]
  generalize (lg_sl ([.ref a_]) ++ List.replicate (1 - (lg_sl ([.ref a_])).length) Slot.unset).toArray = ls at hl ⊢
  have hl : lv_has ls 1 [(0, .ref a_)] := hl
  obtain ⟨Q, hQ⟩ : ∃ Q : State → Prop, Q = MQ below (vp_Si (fun q : Int32 => q = rr)) #[Value.ref a_] s 0 0 (fun _ => False) := ⟨_, rfl⟩
  rw [← hQ]
  change W p l e ({ frames := 5, cells := 0, slots := 0, locals := 107 } : Room) s m #[Value.ref a_] below meth c s.heap [] 0 0 Q (F0 m 0 ls [])
  unfold F_X3_stepOfWord at hF
  refine lv_aload_n hx hb (dq_42 0 bcX3_stepOfWord_0 (j := 0) rfl rfl) rfl (lv_at hl 0 rfl) ?_
  refine va_ldcS hx hb hown (ZZ.s8 hZ) (dq_18 0 bcX3_stepOfWord_0 (j := 1) (i := 121) rfl rfl) ?_
  replace hF := bd1_s hF
  obtain ⟨r_1, hc_2, hF⟩ := hF
  have hPc : va_P E.1 vwCl (w_X3_isWord E a_ a_tape a_rules a_places a_steps a_tape_bytes c_siteCount c_stepCount c_seenRules c_at c_wordStart c_number c_failed c_tape_length c_tape_bytes) s.heap := hP.sub (ws' := [k_X3 a_ a_tape a_rules a_places a_steps c_siteCount c_stepCount c_seenRules c_at c_wordStart c_number c_failed, k_X6 a_tape a_tape_bytes c_tape_length, k_B E a_tape_bytes 320 c_tape_bytes]) [0, 1, 2] rfl
  have hrc := va_recv hK hPc (ci := 4) (q0 := 0) rfl rfl
  refine pE_z (va_runV (As := [.ref (z9 (20 + 8))]) (rest := [])  ⟨hx, hb, hml, hown, hts⟩ (f_X3_isWord l E K z9 (a_ := a_) (a_tape := a_tape) (a_rules := a_rules) (a_places := a_places) (a_steps := a_steps) (a_tape_bytes := a_tape_bytes) (p1 := 8) (c_siteCount := c_siteCount) (c_stepCount := c_stepCount) (c_seenRules := c_seenRules) (c_at := c_at) (c_wordStart := c_wordStart) (c_number := c_number) (c_failed := c_failed) (c_tape_length := c_tape_length) (c_tape_bytes := c_tape_bytes) hc_2) (cwV 1 hts g_f_X3_stepOfWord_f_X3_isWord_76 rfl rfl rfl hd_X3_isWord ⟨Nat.le_of_ble_eq_true rfl, Nat.le_of_ble_eq_true rfl⟩) ⟨qPZ.blind, hrc, (qPZ.pre0 ⟨hK, hN⟩ hPc hZ)⟩ rfl rfl hl.1 rfl (lv_room (Nat.le_of_ble_eq_true rfl)) (dq_182 0 bcX3_stepOfWord_0 (j := 3) (i := 76) rfl rfl rfl) ⟨Nat.le_of_ble_eq_true rfl, Nat.le_of_ble_eq_true rfl⟩) (fun hb_3 => ?_)
  refine lv_if_eq (tgt := 11) hx hb (dq_153 0 bcX3_stepOfWord_0 (j := 6) (i := 5) rfl rfl rfl) (by decide) (fun c_4 => ?_) (fun c_4 => ?_)
  ·
    replace hF := ip c_4 hF
    refine lv_aload_n hx hb (dq_42 0 bcX3_stepOfWord_0 (j := 11) rfl rfl) rfl (lv_at hl 0 rfl) ?_
    refine va_ldcS hx hb hown (ZZ.s9 hZ) (dq_18 0 bcX3_stepOfWord_0 (j := 12) (i := 123) rfl rfl) ?_
    replace hF := bd1_s hF
    obtain ⟨r_5, hc_6, hF⟩ := hF
    have hPc : va_P E.1 vwCl (w_X3_isWord E a_ a_tape a_rules a_places a_steps a_tape_bytes c_siteCount c_stepCount c_seenRules c_at c_wordStart c_number c_failed c_tape_length c_tape_bytes) s.heap := hP.sub (ws' := [k_X3 a_ a_tape a_rules a_places a_steps c_siteCount c_stepCount c_seenRules c_at c_wordStart c_number c_failed, k_X6 a_tape a_tape_bytes c_tape_length, k_B E a_tape_bytes 320 c_tape_bytes]) [0, 1, 2] rfl
    have hrc := va_recv hK hPc (ci := 4) (q0 := 0) rfl rfl
    refine pE_z (va_runV (As := [.ref (z9 (20 + 9))]) (rest := [])  ⟨hx, hb, hml, hown, hts⟩ (f_X3_isWord l E K z9 (a_ := a_) (a_tape := a_tape) (a_rules := a_rules) (a_places := a_places) (a_steps := a_steps) (a_tape_bytes := a_tape_bytes) (p1 := 9) (c_siteCount := c_siteCount) (c_stepCount := c_stepCount) (c_seenRules := c_seenRules) (c_at := c_at) (c_wordStart := c_wordStart) (c_number := c_number) (c_failed := c_failed) (c_tape_length := c_tape_length) (c_tape_bytes := c_tape_bytes) hc_6) (cwV 1 hts g_f_X3_stepOfWord_f_X3_isWord_76 rfl rfl rfl hd_X3_isWord ⟨Nat.le_of_ble_eq_true rfl, Nat.le_of_ble_eq_true rfl⟩) ⟨qPZ.blind, hrc, (qPZ.pre0 ⟨hK, hN⟩ hPc hZ)⟩ rfl rfl hl.1 rfl (lv_room (Nat.le_of_ble_eq_true rfl)) (dq_182 0 bcX3_stepOfWord_0 (j := 14) (i := 76) rfl rfl rfl) ⟨Nat.le_of_ble_eq_true rfl, Nat.le_of_ble_eq_true rfl⟩) (fun hb_7 => ?_)
    refine lv_if_eq (tgt := 22) hx hb (dq_153 0 bcX3_stepOfWord_0 (j := 17) (i := 5) rfl rfl rfl) (by decide) (fun c_8 => ?_) (fun c_8 => ?_)
    ·
      replace hF := ip c_8 hF
      refine lv_aload_n hx hb (dq_42 0 bcX3_stepOfWord_0 (j := 22) rfl rfl) rfl (lv_at hl 0 rfl) ?_
      refine va_ldcS hx hb hown (ZZ.s2 hZ) (dq_18 0 bcX3_stepOfWord_0 (j := 23) (i := 102) rfl rfl) ?_
      replace hF := bd1_s hF
      obtain ⟨r_9, hc_10, hF⟩ := hF
      have hPc : va_P E.1 vwCl (w_X3_isWord E a_ a_tape a_rules a_places a_steps a_tape_bytes c_siteCount c_stepCount c_seenRules c_at c_wordStart c_number c_failed c_tape_length c_tape_bytes) s.heap := hP.sub (ws' := [k_X3 a_ a_tape a_rules a_places a_steps c_siteCount c_stepCount c_seenRules c_at c_wordStart c_number c_failed, k_X6 a_tape a_tape_bytes c_tape_length, k_B E a_tape_bytes 320 c_tape_bytes]) [0, 1, 2] rfl
      have hrc := va_recv hK hPc (ci := 4) (q0 := 0) rfl rfl
      refine pE_z (va_runV (As := [.ref (z9 (20 + 2))]) (rest := [])  ⟨hx, hb, hml, hown, hts⟩ (f_X3_isWord l E K z9 (a_ := a_) (a_tape := a_tape) (a_rules := a_rules) (a_places := a_places) (a_steps := a_steps) (a_tape_bytes := a_tape_bytes) (p1 := 2) (c_siteCount := c_siteCount) (c_stepCount := c_stepCount) (c_seenRules := c_seenRules) (c_at := c_at) (c_wordStart := c_wordStart) (c_number := c_number) (c_failed := c_failed) (c_tape_length := c_tape_length) (c_tape_bytes := c_tape_bytes) hc_10) (cwV 1 hts g_f_X3_stepOfWord_f_X3_isWord_76 rfl rfl rfl hd_X3_isWord ⟨Nat.le_of_ble_eq_true rfl, Nat.le_of_ble_eq_true rfl⟩) ⟨qPZ.blind, hrc, (qPZ.pre0 ⟨hK, hN⟩ hPc hZ)⟩ rfl rfl hl.1 rfl (lv_room (Nat.le_of_ble_eq_true rfl)) (dq_182 0 bcX3_stepOfWord_0 (j := 25) (i := 76) rfl rfl rfl) ⟨Nat.le_of_ble_eq_true rfl, Nat.le_of_ble_eq_true rfl⟩) (fun hb_11 => ?_)
      refine lv_if_eq (tgt := 33) hx hb (dq_153 0 bcX3_stepOfWord_0 (j := 28) (i := 5) rfl rfl rfl) (by decide) (fun c_12 => ?_) (fun c_12 => ?_)
      ·
        replace hF := ip c_12 hF
        refine lv_aload_n hx hb (dq_42 0 bcX3_stepOfWord_0 (j := 33) rfl rfl) rfl (lv_at hl 0 rfl) ?_
        refine va_ldcS hx hb hown (ZZ.s1 hZ) (dq_18 0 bcX3_stepOfWord_0 (j := 34) (i := 100) rfl rfl) ?_
        replace hF := bd1_s hF
        obtain ⟨r_13, hc_14, hF⟩ := hF
        have hPc : va_P E.1 vwCl (w_X3_isWord E a_ a_tape a_rules a_places a_steps a_tape_bytes c_siteCount c_stepCount c_seenRules c_at c_wordStart c_number c_failed c_tape_length c_tape_bytes) s.heap := hP.sub (ws' := [k_X3 a_ a_tape a_rules a_places a_steps c_siteCount c_stepCount c_seenRules c_at c_wordStart c_number c_failed, k_X6 a_tape a_tape_bytes c_tape_length, k_B E a_tape_bytes 320 c_tape_bytes]) [0, 1, 2] rfl
        have hrc := va_recv hK hPc (ci := 4) (q0 := 0) rfl rfl
        refine pE_z (va_runV (As := [.ref (z9 (20 + 1))]) (rest := [])  ⟨hx, hb, hml, hown, hts⟩ (f_X3_isWord l E K z9 (a_ := a_) (a_tape := a_tape) (a_rules := a_rules) (a_places := a_places) (a_steps := a_steps) (a_tape_bytes := a_tape_bytes) (p1 := 1) (c_siteCount := c_siteCount) (c_stepCount := c_stepCount) (c_seenRules := c_seenRules) (c_at := c_at) (c_wordStart := c_wordStart) (c_number := c_number) (c_failed := c_failed) (c_tape_length := c_tape_length) (c_tape_bytes := c_tape_bytes) hc_14) (cwV 1 hts g_f_X3_stepOfWord_f_X3_isWord_76 rfl rfl rfl hd_X3_isWord ⟨Nat.le_of_ble_eq_true rfl, Nat.le_of_ble_eq_true rfl⟩) ⟨qPZ.blind, hrc, (qPZ.pre0 ⟨hK, hN⟩ hPc hZ)⟩ rfl rfl hl.1 rfl (lv_room (Nat.le_of_ble_eq_true rfl)) (dq_182 0 bcX3_stepOfWord_0 (j := 36) (i := 76) rfl rfl rfl) ⟨Nat.le_of_ble_eq_true rfl, Nat.le_of_ble_eq_true rfl⟩) (fun hb_15 => ?_)
        refine lv_if_eq (tgt := 44) hx hb (dq_153 0 bcX3_stepOfWord_0 (j := 39) (i := 5) rfl rfl rfl) (by decide) (fun c_16 => ?_) (fun c_16 => ?_)
        ·
          replace hF := ip c_16 hF
          refine lv_aload_n hx hb (dq_42 0 bcX3_stepOfWord_0 (j := 44) rfl rfl) rfl (lv_at hl 0 rfl) ?_
          refine va_ldcS hx hb hown (ZZ.s10 hZ) (dq_18 0 bcX3_stepOfWord_0 (j := 45) (i := 125) rfl rfl) ?_
          replace hF := bd1_s hF
          obtain ⟨r_17, hc_18, hF⟩ := hF
          have hPc : va_P E.1 vwCl (w_X3_isWord E a_ a_tape a_rules a_places a_steps a_tape_bytes c_siteCount c_stepCount c_seenRules c_at c_wordStart c_number c_failed c_tape_length c_tape_bytes) s.heap := hP.sub (ws' := [k_X3 a_ a_tape a_rules a_places a_steps c_siteCount c_stepCount c_seenRules c_at c_wordStart c_number c_failed, k_X6 a_tape a_tape_bytes c_tape_length, k_B E a_tape_bytes 320 c_tape_bytes]) [0, 1, 2] rfl
          have hrc := va_recv hK hPc (ci := 4) (q0 := 0) rfl rfl
          refine pE_z (va_runV (As := [.ref (z9 (20 + 10))]) (rest := [])  ⟨hx, hb, hml, hown, hts⟩ (f_X3_isWord l E K z9 (a_ := a_) (a_tape := a_tape) (a_rules := a_rules) (a_places := a_places) (a_steps := a_steps) (a_tape_bytes := a_tape_bytes) (p1 := 10) (c_siteCount := c_siteCount) (c_stepCount := c_stepCount) (c_seenRules := c_seenRules) (c_at := c_at) (c_wordStart := c_wordStart) (c_number := c_number) (c_failed := c_failed) (c_tape_length := c_tape_length) (c_tape_bytes := c_tape_bytes) hc_18) (cwV 1 hts g_f_X3_stepOfWord_f_X3_isWord_76 rfl rfl rfl hd_X3_isWord ⟨Nat.le_of_ble_eq_true rfl, Nat.le_of_ble_eq_true rfl⟩) ⟨qPZ.blind, hrc, (qPZ.pre0 ⟨hK, hN⟩ hPc hZ)⟩ rfl rfl hl.1 rfl (lv_room (Nat.le_of_ble_eq_true rfl)) (dq_182 0 bcX3_stepOfWord_0 (j := 47) (i := 76) rfl rfl rfl) ⟨Nat.le_of_ble_eq_true rfl, Nat.le_of_ble_eq_true rfl⟩) (fun hb_19 => ?_)
          refine lv_if_eq (tgt := 55) hx hb (dq_153 48 bcX3_stepOfWord_1 (j := 2) (i := 5) rfl rfl rfl) (by decide) (fun c_20 => ?_) (fun c_20 => ?_)
          ·
            replace hF := ip c_20 hF
            refine lv_aload_n hx hb (dq_42 48 bcX3_stepOfWord_1 (j := 7) rfl rfl) rfl (lv_at hl 0 rfl) ?_
            refine va_ldcS hx hb hown (ZZ.s3 hZ) (dq_18 48 bcX3_stepOfWord_1 (j := 8) (i := 104) rfl rfl) ?_
            replace hF := bd1_s hF
            obtain ⟨r_21, hc_22, hF⟩ := hF
            have hPc : va_P E.1 vwCl (w_X3_isWord E a_ a_tape a_rules a_places a_steps a_tape_bytes c_siteCount c_stepCount c_seenRules c_at c_wordStart c_number c_failed c_tape_length c_tape_bytes) s.heap := hP.sub (ws' := [k_X3 a_ a_tape a_rules a_places a_steps c_siteCount c_stepCount c_seenRules c_at c_wordStart c_number c_failed, k_X6 a_tape a_tape_bytes c_tape_length, k_B E a_tape_bytes 320 c_tape_bytes]) [0, 1, 2] rfl
            have hrc := va_recv hK hPc (ci := 4) (q0 := 0) rfl rfl
            refine pE_z (va_runV (As := [.ref (z9 (20 + 3))]) (rest := [])  ⟨hx, hb, hml, hown, hts⟩ (f_X3_isWord l E K z9 (a_ := a_) (a_tape := a_tape) (a_rules := a_rules) (a_places := a_places) (a_steps := a_steps) (a_tape_bytes := a_tape_bytes) (p1 := 3) (c_siteCount := c_siteCount) (c_stepCount := c_stepCount) (c_seenRules := c_seenRules) (c_at := c_at) (c_wordStart := c_wordStart) (c_number := c_number) (c_failed := c_failed) (c_tape_length := c_tape_length) (c_tape_bytes := c_tape_bytes) hc_22) (cwV 1 hts g_f_X3_stepOfWord_f_X3_isWord_76 rfl rfl rfl hd_X3_isWord ⟨Nat.le_of_ble_eq_true rfl, Nat.le_of_ble_eq_true rfl⟩) ⟨qPZ.blind, hrc, (qPZ.pre0 ⟨hK, hN⟩ hPc hZ)⟩ rfl rfl hl.1 rfl (lv_room (Nat.le_of_ble_eq_true rfl)) (dq_182 48 bcX3_stepOfWord_1 (j := 10) (i := 76) rfl rfl rfl) ⟨Nat.le_of_ble_eq_true rfl, Nat.le_of_ble_eq_true rfl⟩) (fun hb_23 => ?_)
            refine lv_if_eq (tgt := 66) hx hb (dq_153 48 bcX3_stepOfWord_1 (j := 13) (i := 5) rfl rfl rfl) (by decide) (fun c_24 => ?_) (fun c_24 => ?_)
            ·
              replace hF := ip c_24 hF
              refine lv_aload_n hx hb (dq_42 48 bcX3_stepOfWord_1 (j := 18) rfl rfl) rfl (lv_at hl 0 rfl) ?_
              refine va_ldcS hx hb hown (ZZ.s11 hZ) (dq_18 48 bcX3_stepOfWord_1 (j := 19) (i := 127) rfl rfl) ?_
              replace hF := bd1_s hF
              obtain ⟨r_25, hc_26, hF⟩ := hF
              have hPc : va_P E.1 vwCl (w_X3_isWord E a_ a_tape a_rules a_places a_steps a_tape_bytes c_siteCount c_stepCount c_seenRules c_at c_wordStart c_number c_failed c_tape_length c_tape_bytes) s.heap := hP.sub (ws' := [k_X3 a_ a_tape a_rules a_places a_steps c_siteCount c_stepCount c_seenRules c_at c_wordStart c_number c_failed, k_X6 a_tape a_tape_bytes c_tape_length, k_B E a_tape_bytes 320 c_tape_bytes]) [0, 1, 2] rfl
              have hrc := va_recv hK hPc (ci := 4) (q0 := 0) rfl rfl
              refine pE_z (va_runV (As := [.ref (z9 (20 + 11))]) (rest := [])  ⟨hx, hb, hml, hown, hts⟩ (f_X3_isWord l E K z9 (a_ := a_) (a_tape := a_tape) (a_rules := a_rules) (a_places := a_places) (a_steps := a_steps) (a_tape_bytes := a_tape_bytes) (p1 := 11) (c_siteCount := c_siteCount) (c_stepCount := c_stepCount) (c_seenRules := c_seenRules) (c_at := c_at) (c_wordStart := c_wordStart) (c_number := c_number) (c_failed := c_failed) (c_tape_length := c_tape_length) (c_tape_bytes := c_tape_bytes) hc_26) (cwV 1 hts g_f_X3_stepOfWord_f_X3_isWord_76 rfl rfl rfl hd_X3_isWord ⟨Nat.le_of_ble_eq_true rfl, Nat.le_of_ble_eq_true rfl⟩) ⟨qPZ.blind, hrc, (qPZ.pre0 ⟨hK, hN⟩ hPc hZ)⟩ rfl rfl hl.1 rfl (lv_room (Nat.le_of_ble_eq_true rfl)) (dq_182 48 bcX3_stepOfWord_1 (j := 21) (i := 76) rfl rfl rfl) ⟨Nat.le_of_ble_eq_true rfl, Nat.le_of_ble_eq_true rfl⟩) (fun hb_27 => ?_)
              refine lv_if_eq (tgt := 80) hx hb (dq_153 48 bcX3_stepOfWord_1 (j := 24) (i := 8) rfl rfl rfl) (by decide) (fun c_28 => ?_) (fun c_28 => ?_)
              ·
                replace hF := ip c_28 hF
                refine lv_iconst (v := -1) hx hb (dq_2 48 bcX3_stepOfWord_1 (j := 32) rfl rfl) (by decide) ?_
                rw [hQ]
                obtain e9_0 := inj1 hF
                exact W.iret (v := (-1 : Int32)) hx hb hr (fun tt ht hW => ⟨_, rfl, e9_0, ht⟩) (fun _ h => by cases h) (dq_172 48 bcX3_stepOfWord_1 (j := 33) rfl rfl)
              ·
                replace hF := inn c_28 hF
                refine lv_bipush (v := 6) hx hb (dq_16 48 bcX3_stepOfWord_1 (j := 27) (i := 6) rfl rfl rfl) (by decide) ?_
                refine lv_goto (tgt := 81) hx hb (dq_167 48 bcX3_stepOfWord_1 (j := 29) (i := 4) rfl rfl rfl) (by decide) ?_
                rw [hQ]
                obtain e9_0 := inj1 hF
                exact W.iret (v := (6 : Int32)) hx hb hr (fun tt ht hW => ⟨_, rfl, e9_0, ht⟩) (fun _ h => by cases h) (dq_172 48 bcX3_stepOfWord_1 (j := 33) rfl rfl)
            ·
              replace hF := inn c_24 hF
              refine lv_iconst (v := 5) hx hb (dq_8 48 bcX3_stepOfWord_1 (j := 16) rfl rfl) (by decide) ?_
              rw [hQ]
              obtain e9_0 := inj1 hF
              exact W.iret (v := (5 : Int32)) hx hb hr (fun tt ht hW => ⟨_, rfl, e9_0, ht⟩) (fun _ h => by cases h) (dq_172 48 bcX3_stepOfWord_1 (j := 17) rfl rfl)
          ·
            replace hF := inn c_20 hF
            refine lv_iconst (v := 4) hx hb (dq_7 48 bcX3_stepOfWord_1 (j := 5) rfl rfl) (by decide) ?_
            rw [hQ]
            obtain e9_0 := inj1 hF
            exact W.iret (v := (4 : Int32)) hx hb hr (fun tt ht hW => ⟨_, rfl, e9_0, ht⟩) (fun _ h => by cases h) (dq_172 48 bcX3_stepOfWord_1 (j := 6) rfl rfl)
        ·
          replace hF := inn c_16 hF
          refine lv_iconst (v := 3) hx hb (dq_6 0 bcX3_stepOfWord_0 (j := 42) rfl rfl) (by decide) ?_
          rw [hQ]
          obtain e9_0 := inj1 hF
          exact W.iret (v := (3 : Int32)) hx hb hr (fun tt ht hW => ⟨_, rfl, e9_0, ht⟩) (fun _ h => by cases h) (dq_172 0 bcX3_stepOfWord_0 (j := 43) rfl rfl)
      ·
        replace hF := inn c_12 hF
        refine lv_iconst (v := 2) hx hb (dq_5 0 bcX3_stepOfWord_0 (j := 31) rfl rfl) (by decide) ?_
        rw [hQ]
        obtain e9_0 := inj1 hF
        exact W.iret (v := (2 : Int32)) hx hb hr (fun tt ht hW => ⟨_, rfl, e9_0, ht⟩) (fun _ h => by cases h) (dq_172 0 bcX3_stepOfWord_0 (j := 32) rfl rfl)
    ·
      replace hF := inn c_8 hF
      refine lv_iconst (v := 1) hx hb (dq_4 0 bcX3_stepOfWord_0 (j := 20) rfl rfl) (by decide) ?_
      rw [hQ]
      obtain e9_0 := inj1 hF
      exact W.iret (v := (1 : Int32)) hx hb hr (fun tt ht hW => ⟨_, rfl, e9_0, ht⟩) (fun _ h => by cases h) (dq_172 0 bcX3_stepOfWord_0 (j := 21) rfl rfl)
  ·
    replace hF := inn c_4 hF
    refine lv_iconst (v := 0) hx hb (dq_3 0 bcX3_stepOfWord_0 (j := 9) rfl rfl) (by decide) ?_
    rw [hQ]
    obtain e9_0 := inj1 hF
    exact W.iret (v := (0 : Int32)) hx hb hr (fun tt ht hW => ⟨_, rfl, e9_0, ht⟩) (fun _ h => by cases h) (dq_172 0 bcX3_stepOfWord_0 (j := 10) rfl rfl)

def B_X3_startStep_8 (c_stepCount : Int32) (x2 : Int32) (c_steps : Nat → Int32) : Option ((Int32 × (Nat → Int32)) ⊕ ((Nat → Int32))) :=
  if (4 : Int32) ≤ x2 then some (.inr c_steps) else bd1 (F_X3_putInStep x2 (-100000000 : Int32) c_steps c_stepCount) (fun w_4 => some (.inl (x2 + (1 : Int32), w_4)))
def F_X3_startStep (K : Nat) (p1 : Int32) (c_steps : Nat → Int32) (c_stepCount : Int32) : Option ((Nat → Int32)) :=
  bd1 (F_X3_putInStep (0 : Int32) p1 c_steps c_stepCount) (fun w_1 => bd1 (lpF (fun u9 : Int32 × (Nat → Int32) => B_X3_startStep_8 c_stepCount u9.1 u9.2) K ((1 : Int32), w_1)) (fun c_steps_6 => some c_steps_6))
abbrev w_X3_startStep (E : EE) (a_ a_tape a_rules a_places a_steps : Nat) (c_siteCount : Int32) (c_stepCount : Int32) (c_seenRules : Int32) (c_at : Int32) (c_wordStart : Int32) (c_number : Int32) (c_failed : Int32) (c_steps : Nat → Int32) : va_W := [k_X3 a_ a_tape a_rules a_places a_steps c_siteCount c_stepCount c_seenRules c_at c_wordStart c_number c_failed, k_I E a_steps 48 c_steps]
def v_f_X3_startStep : List Cond := List.cons (.code yX3_startStep cX3_startStep 3 none) (HAppend.hAppend (α := List Cond) (β := List Cond) (γ := List Cond) [.constant RX3 120 (-100000000), .methodLink RX3 116 yX3_putInStep, .instanceMethod yX3_putInStep, .selects RX3 yX3_putInStep yX3_putInStep, .initialized RX3] (HAppend.hAppend (α := List Cond) (β := List Cond) (γ := List Cond) v_f_X3_putInStep []))
theorem gw_f_X3_startStep : v_f_X3_startStep.all goodWord = true := gw_c2 (by decide +kernel) (gw_ap gw_f_X3_putInStep gw_nil)
theorem g_f_X3_startStep_f_X3_putInStep_116 : GoodIn v_f_X3_startStep (wsV RX3 116 RX3 yX3_putInStep v_f_X3_putInStep) := goodIn_in gw_f_X3_startStep (in4 2 3 4 5 rfl rfl rfl rfl (fun _ h => List.mem_cons_of_mem _ (List.mem_append_right _ (List.mem_append_left _ h))))
theorem hd_X3_startStep : yX3_startStep.cls = RX3 ∧ yX3_startStep.cls ≠ "java/lang/invoke/MethodHandle" ∧ yX3_startStep.cls ≠ "java/lang/invoke/VarHandle" ∧ (parseMethodDescriptor yX3_startStep.desc).map (fun d => d.parameters.length) = some 1 := by decide +kernel
set_option maxHeartbeats 4000000 in
set_option maxRecDepth 100000 in
theorem wb_X3_startStep_8 {p : Program} (l : Launch) {e : Env} {s : State} {m : MethodId} {below : List Frame} {meth : Method} {c : Code} {Q : State → Prop} (E : EE) (K : Nat) {a_ a_tape a_rules a_places a_steps : Nat} {p1 : Int32} {c_siteCount : Int32} {c_stepCount : Int32} {c_seenRules : Int32} {c_at : Int32} {c_wordStart : Int32} {c_number : Int32} {c_failed : Int32} {x2 : Int32} {c_steps : Nat → Int32} (hx : p.tables.exec = Jvm.exec) (hb : c.code = cX3_startStep) (hml : c.maxLocals = 3) (hown : s.vm.findClass RX3 = some m.cls) (hts : ∀ w ∈ v_f_X3_startStep, w.before #[Value.ref a_, Value.int p1] s = true) (hK : va_K E.1 vwCl (TY E) s) (hN : NX s) {A : Nat → Prop} (hA : ∀ q : Nat, s.heap.size ≤ q → A q) {xx : (Int32 × (Nat → Int32)) ⊕ ((Nat → Int32))} (hC : ∀ (x2 : Int32), ∀ (c_steps : Nat → Int32), xx = .inl (x2, c_steps) → ∀ (H : Heap) (locs : List Loc) (ls : Array Slot), va_P E.1 vwCl (w_X3_startStep E a_ a_tape a_rules a_places a_steps c_siteCount c_stepCount c_seenRules c_at c_wordStart c_number c_failed c_steps) H → va_D A (w_X3_startStep E a_ a_tape a_rules a_places a_steps c_siteCount c_stepCount c_seenRules c_at c_wordStart c_number c_failed c_steps) → va_S A s.heap H locs → lv_has ls 3 [(0, .ref a_), (2, .int x2)] → W p l e ({ frames := 1, cells := 0, slots := 0, locals := 22 } : Room) s m #[Value.ref a_, Value.int p1] below meth c H locs 0 0 Q (F0 m 8 ls [])) (hE : ∀ (c_steps : Nat → Int32), xx = .inr c_steps → ((∀ (H : Heap) (locs : List Loc) (ls : Array Slot), va_P E.1 vwCl (w_X3_startStep E a_ a_tape a_rules a_places a_steps c_siteCount c_stepCount c_seenRules c_at c_wordStart c_number c_failed c_steps) H → va_D A (w_X3_startStep E a_ a_tape a_rules a_places a_steps c_siteCount c_stepCount c_seenRules c_at c_wordStart c_number c_failed c_steps) → va_S A s.heap H locs → lv_has ls 3 [] → W p l e ({ frames := 1, cells := 0, slots := 0, locals := 22 } : Room) s m #[Value.ref a_, Value.int p1] below meth c H locs 0 0 Q (F0 m 26 ls [])))) (hF : B_X3_startStep_8 c_stepCount x2 c_steps = some xx) : ∀ (H : Heap) (locs : List Loc) (ls : Array Slot), va_P E.1 vwCl (w_X3_startStep E a_ a_tape a_rules a_places a_steps c_siteCount c_stepCount c_seenRules c_at c_wordStart c_number c_failed c_steps) H → va_D A (w_X3_startStep E a_ a_tape a_rules a_places a_steps c_siteCount c_stepCount c_seenRules c_at c_wordStart c_number c_failed c_steps) → va_S A s.heap H locs → lv_has ls 3 [(0, .ref a_), (2, .int x2)] → W p l e ({ frames := 1, cells := 0, slots := 0, locals := 22 } : Room) s m #[Value.ref a_, Value.int p1] below meth c H locs 0 0 Q (F0 m 8 ls []) := by
  unfold B_X3_startStep_8 at hF
  intro H locs ls hP hD hS hl
  have h9 := fixPD (ws' := [k_X3 a_ a_tape a_rules a_places a_steps c_siteCount c_stepCount c_seenRules c_at c_wordStart c_number c_failed, k_I E a_steps 48 c_steps]) hP hD rfl
  clear hP hD
  obtain ⟨hP, hD⟩ := h9
  refine lv_iload_n hx hb (dq_28 0 bcX3_startStep_0 (j := 8) rfl rfl) rfl (lv_at hl 1 rfl) ?_
  refine lv_iconst (v := 4) hx hb (dq_7 0 bcX3_startStep_0 (j := 9) rfl rfl) (by decide) ?_
  refine lv_icmp_ge (tgt := 26) hx hb (dq_162 0 bcX3_startStep_0 (j := 10) (i := 16) rfl rfl rfl) (by decide) (fun c_3 => ?_) (fun c_3 => ?_)
  ·
    replace hF := ip c_3 hF
    cases hF
    exact hE c_steps rfl H locs ls (hP.sub [0, 1] rfl) (hD.sub [0, 1] (by decide) rfl) hS (lv_sub hl [] rfl)
  ·
    replace hF := inn c_3 hF
    refine lv_aload_n hx hb (dq_42 0 bcX3_startStep_0 (j := 13) rfl rfl) rfl (lv_at hl 0 rfl) ?_
    refine lv_iload_n hx hb (dq_28 0 bcX3_startStep_0 (j := 14) rfl rfl) rfl (lv_at hl 1 rfl) ?_
    refine lv_ldc (v := -100000000) hx hb hown (hts (.constant RX3 120 (-100000000)) (List.mem_of_getElem? (i := 1) rfl)) (dq_18 0 bcX3_startStep_0 (j := 15) (i := 120) rfl rfl) ?_
    replace hF := bd1_s hF
    obtain ⟨w_4, hc_5, hF⟩ := hF
    obtain ⟨hPc, hDc, hFc⟩ := wcut (wc := (w_X3_putInStep E a_ a_tape a_rules a_places a_steps c_siteCount c_stepCount c_seenRules c_at c_wordStart c_number c_failed c_steps)) hP hD hS hA [0, 1] (by decide) rfl
    have hrc := va_recv hK hPc (ci := 4) (q0 := 0) rfl rfl
    refine cE_v (wc := (w_X3_putInStep E a_ a_tape a_rules a_places a_steps c_siteCount c_stepCount c_seenRules c_at c_wordStart c_number c_failed c_steps)) (wr := []) (w1 := (w_X3_putInStep E a_ a_tape a_rules a_places a_steps c_siteCount c_stepCount c_seenRules c_at c_wordStart c_number c_failed w_4)) (va_runV (As := [.int x2, .int (-100000000 : Int32)]) (rest := [])  ⟨hx, hb, hml, hown, hts⟩ (f_X3_putInStep l E H.size (a_ := a_) (a_tape := a_tape) (a_rules := a_rules) (a_places := a_places) (a_steps := a_steps) (p1 := x2) (p2 := (-100000000 : Int32)) (c_siteCount := c_siteCount) (c_stepCount := c_stepCount) (c_seenRules := c_seenRules) (c_at := c_at) (c_wordStart := c_wordStart) (c_number := c_number) (c_failed := c_failed) (c_steps := c_steps) hc_5) (cwV 2 hts g_f_X3_startStep_f_X3_putInStep_116 rfl rfl rfl hd_X3_putInStep ⟨Nat.le_of_ble_eq_true rfl, Nat.le_of_ble_eq_true rfl⟩) ⟨pW.blind, hrc, (pW.pre ⟨hK, hN⟩ hPc hDc)⟩ rfl rfl hl.1 rfl (lv_room (Nat.le_of_ble_eq_true rfl)) (dq_182 0 bcX3_startStep_0 (j := 17) (i := 116) rfl rfl rfl) ⟨Nat.le_of_ble_eq_true rfl, Nat.le_of_ble_eq_true rfl⟩) hS hFc hP hD [0, 1] [] rfl rfl (by decide) (by decide) (fun H locs hP hD hS => ?_)
    have h9 := fixPD (ws' := [k_X3 a_ a_tape a_rules a_places a_steps c_siteCount c_stepCount c_seenRules c_at c_wordStart c_number c_failed, k_I E a_steps 48 w_4]) hP hD rfl
    clear hP hD
    obtain ⟨hP, hD⟩ := h9
    refine lv_iinc (v := x2 + (1 : Int32)) (lv' := [(2, .int (x2 + (1 : Int32))), (0, .ref a_)]) hx hb (dq_132 0 bcX3_startStep_0 (j := 20) (i := 1) rfl rfl rfl) hl (k := 1) rfl (rfl) (by decide) rfl (fun ls hl => ?_)
    refine lv_goto (tgt := 8) hx hb (dq_167 0 bcX3_startStep_0 (j := 23) (i := -15) rfl rfl rfl) (by decide) ?_
    cases hF
    exact hC (x2 + (1 : Int32)) w_4 rfl H locs ls (hP.sub [0, 1] rfl) (hD.sub [0, 1] (by decide) rfl) hS (lv_sub hl [1, 0] rfl)

set_option maxHeartbeats 4000000 in
set_option maxRecDepth 100000 in
theorem lw_X3_startStep_8 {p : Program} (l : Launch) {e : Env} {s : State} {m : MethodId} {below : List Frame} {meth : Method} {c : Code} {Q : State → Prop} (E : EE) (K : Nat) {a_ a_tape a_rules a_places a_steps : Nat} {p1 : Int32} {c_siteCount : Int32} {c_stepCount : Int32} {c_seenRules : Int32} {c_at : Int32} {c_wordStart : Int32} {c_number : Int32} {c_failed : Int32} (hx : p.tables.exec = Jvm.exec) (hb : c.code = cX3_startStep) (hml : c.maxLocals = 3) (hown : s.vm.findClass RX3 = some m.cls) (hts : ∀ w ∈ v_f_X3_startStep, w.before #[Value.ref a_, Value.int p1] s = true) (hK : va_K E.1 vwCl (TY E) s) (hN : NX s) {A : Nat → Prop} (hA : ∀ q : Nat, s.heap.size ≤ q → A q) (j9 : Nat) (x2 : Int32) (c_steps : Nat → Int32) (c_steps' : Nat → Int32) (hL : lpF (fun u9 : Int32 × (Nat → Int32) => B_X3_startStep_8 c_stepCount u9.1 u9.2) j9 (x2, c_steps) = some c_steps') (hX : (∀ (H : Heap) (locs : List Loc) (ls : Array Slot), va_P E.1 vwCl (w_X3_startStep E a_ a_tape a_rules a_places a_steps c_siteCount c_stepCount c_seenRules c_at c_wordStart c_number c_failed c_steps') H → va_D A (w_X3_startStep E a_ a_tape a_rules a_places a_steps c_siteCount c_stepCount c_seenRules c_at c_wordStart c_number c_failed c_steps') → va_S A s.heap H locs → lv_has ls 3 [] → W p l e ({ frames := 1, cells := 0, slots := 0, locals := 22 } : Room) s m #[Value.ref a_, Value.int p1] below meth c H locs 0 0 Q (F0 m 26 ls []))) : ∀ (H : Heap) (locs : List Loc) (ls : Array Slot), va_P E.1 vwCl (w_X3_startStep E a_ a_tape a_rules a_places a_steps c_siteCount c_stepCount c_seenRules c_at c_wordStart c_number c_failed c_steps) H → va_D A (w_X3_startStep E a_ a_tape a_rules a_places a_steps c_siteCount c_stepCount c_seenRules c_at c_wordStart c_number c_failed c_steps) → va_S A s.heap H locs → lv_has ls 3 [(0, .ref a_), (2, .int x2)] → W p l e ({ frames := 1, cells := 0, slots := 0, locals := 22 } : Room) s m #[Value.ref a_, Value.int p1] below meth c H locs 0 0 Q (F0 m 8 ls []) := by
  exact lp_rule (P := (fun u9 : Int32 × (Nat → Int32) => ∀ (H : Heap) (locs : List Loc) (ls : Array Slot), va_P E.1 vwCl (w_X3_startStep E a_ a_tape a_rules a_places a_steps c_siteCount c_stepCount c_seenRules c_at c_wordStart c_number c_failed u9.2) H → va_D A (w_X3_startStep E a_ a_tape a_rules a_places a_steps c_siteCount c_stepCount c_seenRules c_at c_wordStart c_number c_failed u9.2) → va_S A s.heap H locs → lv_has ls 3 [(0, .ref a_), (2, .int u9.1)] → W p l e ({ frames := 1, cells := 0, slots := 0, locals := 22 } : Room) s m #[Value.ref a_, Value.int p1] below meth c H locs 0 0 Q (F0 m 8 ls []))) (R := (fun r9 : (Nat → Int32) => (∀ (H : Heap) (locs : List Loc) (ls : Array Slot), va_P E.1 vwCl (w_X3_startStep E a_ a_tape a_rules a_places a_steps c_siteCount c_stepCount c_seenRules c_at c_wordStart c_number c_failed r9) H → va_D A (w_X3_startStep E a_ a_tape a_rules a_places a_steps c_siteCount c_stepCount c_seenRules c_at c_wordStart c_number c_failed r9) → va_S A s.heap H locs → lv_has ls 3 [] → W p l e ({ frames := 1, cells := 0, slots := 0, locals := 22 } : Room) s m #[Value.ref a_, Value.int p1] below meth c H locs 0 0 Q (F0 m 26 ls [])))) (fun u9 xx hF hC hE => wb_X3_startStep_8 l E K (p1 := p1) (c_siteCount := c_siteCount) (c_stepCount := c_stepCount) (c_seenRules := c_seenRules) (c_at := c_at) (c_wordStart := c_wordStart) (c_number := c_number) (c_failed := c_failed) (x2 := u9.1) (c_steps := u9.2) hx hb hml hown hts hK hN hA (fun x2 c_steps q9 => hC _ q9) (fun c_steps q9 => hE _ q9) hF) j9 (x2, c_steps) c_steps' hL hX

set_option maxHeartbeats 4000000 in
set_option maxRecDepth 100000 in
theorem f_X3_startStep (l : Launch) (E : EE) (sz : Nat) (K : Nat) {a_ a_tape a_rules a_places a_steps : Nat} {p1 : Int32} {c_siteCount : Int32} {c_stepCount : Int32} {c_seenRules : Int32} {c_at : Int32} {c_wordStart : Int32} {c_number : Int32} {c_failed : Int32} {c_steps : Nat → Int32} {n_steps : Nat → Int32} (hF : F_X3_startStep K p1 c_steps c_stepCount = some n_steps) : Met l yX3_startStep v_f_X3_startStep (({ frames := 1, cells := 0, slots := 0, locals := 22 } : Room)) (va_Pc [.ref a_, .int p1] (pW E sz (w_X3_startStep E a_ a_tape a_rules a_places a_steps c_siteCount c_stepCount c_seenRules c_at c_wordStart c_number c_failed c_steps))) (va_Qv (fun (_u : Unit) => True) (fun (_u : Unit) tt => va_P E.1 vwCl (w_X3_startStep E a_ a_tape a_rules a_places a_steps c_siteCount c_stepCount c_seenRules c_at c_wordStart c_number c_failed n_steps) tt.heap ∧ va_D (va_A (w_X3_startStep E a_ a_tape a_rules a_places a_steps c_siteCount c_stepCount c_seenRules c_at c_wordStart c_number c_failed c_steps) sz) (w_X3_startStep E a_ a_tape a_rules a_places a_steps c_siteCount c_stepCount c_seenRules c_at c_wordStart c_number c_failed n_steps)) (va_A (w_X3_startStep E a_ a_tape a_rules a_places a_steps c_siteCount c_stepCount c_seenRules c_at c_wordStart c_number c_failed c_steps) sz)) 0 0 (va_A (w_X3_startStep E a_ a_tape a_rules a_places a_steps c_siteCount c_stepCount c_seenRules c_at c_wordStart c_number c_failed c_steps) sz) := by
  refine Met.ofW (cc := cX3_startStep) (maxL := 3) (ret := none) (by decide) rfl ?_
  intro p e s m args below meth c s₁ B hml hv
  obtain ⟨rfl, hsz, ⟨hK, hN⟩, hP, hD0⟩ := hv
  have hx := B.exec
  have hb := B.bytes
  have hr := B.returns
  have hts := atoms_spec (ws := v_f_X3_startStep) B.pre
  have hown : s.vm.findClass RX3 = some m.cls := own_of hd_X3_startStep.1 (findClass_of_methodNamed B.named)
  have hlocks : meth.locks = false := B.notSynchronized
  subst hsz
  have hD := hD0.self (sz := s.heap.size)
  generalize hAe : va_A (w_X3_startStep E a_ a_tape a_rules a_places a_steps c_siteCount c_stepCount c_seenRules c_at c_wordStart c_number c_failed c_steps) s.heap.size = A at hD ⊢
  have hA : ∀ q : Nat, s.heap.size ≤ q → A q := fun q h => by rw [← hAe]; exact Or.inr h
  have hS : va_S A s.heap s.heap [] := va_S.rf
  have hl := lv_entry ([.ref a_, .int p1]) (n := 3) (Nat.le_of_ble_eq_true rfl)
  rw [lg_entry_eq]
  generalize (lg_sl ([.ref a_, .int p1]) ++ List.replicate (3 - (lg_sl ([.ref a_, .int p1])).length) Slot.unset).toArray = ls at hl ⊢
  have hl : lv_has ls 3 [(0, .ref a_), (1, .int p1)] := hl
  obtain ⟨Q, hQ⟩ : ∃ Q : State → Prop, Q = MQ below (va_Qv (fun (_u : Unit) => True) (fun (_u : Unit) tt => va_P E.1 vwCl (w_X3_startStep E a_ a_tape a_rules a_places a_steps c_siteCount c_stepCount c_seenRules c_at c_wordStart c_number c_failed n_steps) tt.heap ∧ va_D A (w_X3_startStep E a_ a_tape a_rules a_places a_steps c_siteCount c_stepCount c_seenRules c_at c_wordStart c_number c_failed n_steps)) A) #[Value.ref a_, Value.int p1] s 0 0 A := ⟨_, rfl⟩
  rw [← hQ]
  change W p l e ({ frames := 1, cells := 0, slots := 0, locals := 22 } : Room) s m #[Value.ref a_, Value.int p1] below meth c s.heap [] 0 0 Q (F0 m 0 ls [])
  suffices hh9 : ∀ (H : Heap) (locs : List Loc), va_P E.1 vwCl (w_X3_startStep E a_ a_tape a_rules a_places a_steps c_siteCount c_stepCount c_seenRules c_at c_wordStart c_number c_failed c_steps) H → va_D A (w_X3_startStep E a_ a_tape a_rules a_places a_steps c_siteCount c_stepCount c_seenRules c_at c_wordStart c_number c_failed c_steps) → va_S A s.heap H locs → W p l e ({ frames := 1, cells := 0, slots := 0, locals := 22 } : Room) s m #[Value.ref a_, Value.int p1] below meth c H locs 0 0 Q (F0 m 0 ls []) from hh9 s.heap [] hP hD hS
  clear hP hD hS
  intro H locs hP hD hS
  have h9 := fixPD (ws' := [k_X3 a_ a_tape a_rules a_places a_steps c_siteCount c_stepCount c_seenRules c_at c_wordStart c_number c_failed, k_I E a_steps 48 c_steps]) hP hD rfl
  clear hP hD
  obtain ⟨hP, hD⟩ := h9
  unfold F_X3_startStep at hF
  refine lv_aload_n hx hb (dq_42 0 bcX3_startStep_0 (j := 0) rfl rfl) rfl (lv_at hl 0 rfl) ?_
  refine lv_iconst (v := 0) hx hb (dq_3 0 bcX3_startStep_0 (j := 1) rfl rfl) (by decide) ?_
  refine lv_iload_n hx hb (dq_27 0 bcX3_startStep_0 (j := 2) rfl rfl) rfl (lv_at hl 1 rfl) ?_
  replace hF := bd1_s hF
  obtain ⟨w_1, hc_2, hF⟩ := hF
  obtain ⟨hPc, hDc, hFc⟩ := wcut (wc := (w_X3_putInStep E a_ a_tape a_rules a_places a_steps c_siteCount c_stepCount c_seenRules c_at c_wordStart c_number c_failed c_steps)) hP hD hS hA [0, 1] (by decide) rfl
  have hrc := va_recv hK hPc (ci := 4) (q0 := 0) rfl rfl
  refine cE_v (wc := (w_X3_putInStep E a_ a_tape a_rules a_places a_steps c_siteCount c_stepCount c_seenRules c_at c_wordStart c_number c_failed c_steps)) (wr := []) (w1 := (w_X3_putInStep E a_ a_tape a_rules a_places a_steps c_siteCount c_stepCount c_seenRules c_at c_wordStart c_number c_failed w_1)) (va_runV (As := [.int (0 : Int32), .int p1]) (rest := [])  ⟨hx, hb, hml, hown, hts⟩ (f_X3_putInStep l E H.size (a_ := a_) (a_tape := a_tape) (a_rules := a_rules) (a_places := a_places) (a_steps := a_steps) (p1 := (0 : Int32)) (p2 := p1) (c_siteCount := c_siteCount) (c_stepCount := c_stepCount) (c_seenRules := c_seenRules) (c_at := c_at) (c_wordStart := c_wordStart) (c_number := c_number) (c_failed := c_failed) (c_steps := c_steps) hc_2) (cwV 2 hts g_f_X3_startStep_f_X3_putInStep_116 rfl rfl rfl hd_X3_putInStep ⟨Nat.le_of_ble_eq_true rfl, Nat.le_of_ble_eq_true rfl⟩) ⟨pW.blind, hrc, (pW.pre ⟨hK, hN⟩ hPc hDc)⟩ rfl rfl hl.1 rfl (lv_room (Nat.le_of_ble_eq_true rfl)) (dq_182 0 bcX3_startStep_0 (j := 3) (i := 116) rfl rfl rfl) ⟨Nat.le_of_ble_eq_true rfl, Nat.le_of_ble_eq_true rfl⟩) hS hFc hP hD [0, 1] [] rfl rfl (by decide) (by decide) (fun H locs hP hD hS => ?_)
  have h9 := fixPD (ws' := [k_X3 a_ a_tape a_rules a_places a_steps c_siteCount c_stepCount c_seenRules c_at c_wordStart c_number c_failed, k_I E a_steps 48 w_1]) hP hD rfl
  clear hP hD
  obtain ⟨hP, hD⟩ := h9
  refine lv_iconst (v := 1) hx hb (dq_4 0 bcX3_startStep_0 (j := 6) rfl rfl) (by decide) ?_
  refine lv_istore_n (lv' := [(2, .int (1 : Int32)), (0, .ref a_), (1, .int p1)]) hx hb (dq_61 0 bcX3_startStep_0 (j := 7) rfl rfl) rfl hl (by decide) rfl (fun ls hl => ?_)
  replace hF := bd1_s hF
  obtain ⟨c_steps_6, hL_7, hF⟩ := hF
  refine lw_X3_startStep_8 l E K (p1 := p1) (c_siteCount := c_siteCount) (c_stepCount := c_stepCount) (c_seenRules := c_seenRules) (c_at := c_at) (c_wordStart := c_wordStart) (c_number := c_number) (c_failed := c_failed) hx hb hml hown hts hK hN hA K (1 : Int32) w_1 c_steps_6 hL_7 ?_ H locs ls (hP.sub [0, 1] rfl) (hD.sub [0, 1] (by decide) rfl) hS (lv_sub hl [1, 0] rfl)
  ·
    intro H locs ls hP hD hS hl
    have h9 := fixPD (ws' := [k_X3 a_ a_tape a_rules a_places a_steps c_siteCount c_stepCount c_seenRules c_at c_wordStart c_number c_failed, k_I E a_steps 48 c_steps_6]) hP hD rfl
    clear hP hD
    obtain ⟨hP, hD⟩ := h9
    rw [hQ]
    have h9 := fin9 (P := fun u9 : (Nat → Int32) => va_P E.1 vwCl (w_X3_startStep E a_ a_tape a_rules a_places a_steps c_siteCount c_stepCount c_seenRules c_at c_wordStart c_number c_failed u9) H ∧ va_D A (w_X3_startStep E a_ a_tape a_rules a_places a_steps c_siteCount c_stepCount c_seenRules c_at c_wordStart c_number c_failed u9)) hF ⟨hP, hD⟩
    obtain ⟨hP9, hD9⟩ := h9
    exact W.vret hx hb hr (fun tt ht hW => ⟨⟨(), rfl, trivial, ht ▸ hP9, hD9⟩, hS.F ht⟩) hS.2.2 (dq_177 0 bcX3_startStep_0 (j := 26) rfl rfl)
