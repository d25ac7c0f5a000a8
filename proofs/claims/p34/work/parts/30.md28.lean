theorem dX8_isWay_0 : decode cX8_isWay 0 = .ok (.iload_n 0, 1) := by decide +kernel
theorem dX8_isWay_1 : decode cX8_isWay 1 = .ok (.i2l, 1) := by decide +kernel
theorem dX8_isWay_2 : decode cX8_isWay 2 = .ok (.ldc2_w 281, 3) := by decide +kernel
theorem dX8_isWay_5 : decode cX8_isWay 5 = .ok (.ldc2_w 283, 3) := by decide +kernel
theorem dX8_isWay_8 : decode cX8_isWay 8 = .ok (.invokestatic 60, 3) := by decide +kernel
theorem dX8_isWay_11 : decode cX8_isWay 11 = .ok (.ifCond .eq 29, 3) := by decide +kernel
theorem dX8_isWay_40 : decode cX8_isWay 40 = .ok (.iconst 0, 1) := by decide +kernel
theorem dX8_isWay_41 : decode cX8_isWay 41 = .ok (.ireturn, 1) := by decide +kernel
theorem dX8_isWay_14 : decode cX8_isWay 14 = .ok (.iload_n 1, 1) := by decide +kernel
theorem dX8_isWay_15 : decode cX8_isWay 15 = .ok (.i2l, 1) := by decide +kernel
theorem dX8_isWay_16 : decode cX8_isWay 16 = .ok (.ldc2_w 281, 3) := by decide +kernel
theorem dX8_isWay_19 : decode cX8_isWay 19 = .ok (.ldc2_w 283, 3) := by decide +kernel
theorem dX8_isWay_22 : decode cX8_isWay 22 = .ok (.invokestatic 60, 3) := by decide +kernel
theorem dX8_isWay_25 : decode cX8_isWay 25 = .ok (.ifCond .eq 15, 3) := by decide +kernel
theorem dX8_isWay_28 : decode cX8_isWay 28 = .ok (.iload_n 0, 1) := by decide +kernel
theorem dX8_isWay_29 : decode cX8_isWay 29 = .ok (.ifCond .ne 7, 3) := by decide +kernel
theorem dX8_isWay_36 : decode cX8_isWay 36 = .ok (.iconst 1, 1) := by decide +kernel
theorem dX8_isWay_37 : decode cX8_isWay 37 = .ok (.goto 4, 3) := by decide +kernel
theorem dX8_isWay_32 : decode cX8_isWay 32 = .ok (.iload_n 1, 1) := by decide +kernel
theorem dX8_isWay_33 : decode cX8_isWay 33 = .ok (.ifCond .eq 7, 3) := by decide +kernel
theorem dX8_law_0 : decode cX8_law 0 = .ok (.aload_n 0, 1) := by decide +kernel
theorem dX8_law_1 : decode cX8_law 1 = .ok (.iconst (-1), 1) := by decide +kernel
theorem dX8_law_2 : decode cX8_law 2 = .ok (.iconst 3, 1) := by decide +kernel
theorem dX8_law_3 : decode cX8_law 3 = .ok (.iload_n 1, 1) := by decide +kernel
theorem dX8_law_4 : decode cX8_law 4 = .ok (.iconst 0, 1) := by decide +kernel
theorem dX8_law_5 : decode cX8_law 5 = .ok (.iconst 0, 1) := by decide +kernel
theorem dX8_law_6 : decode cX8_law 6 = .ok (.invokevirtual 350, 3) := by decide +kernel
theorem dX8_law_9 : decode cX8_law 9 = .ok (.ireturn, 1) := by decide +kernel
def F_X8_isWay (p0 : Int32) (p1 : Int32) : Option (Int32) :=
  bd1 (F_X8_in p0.toInt64 (-9999 : Int64) (9999 : Int64)) (fun r_1 => if r_1 = (0 : Int32) then some (0 : Int32) else bd1 (F_X8_in p1.toInt64 (-9999 : Int64) (9999 : Int64)) (fun r_5 => if r_5 = (0 : Int32) then some (0 : Int32) else if p0 = (0 : Int32) then if p1 = (0 : Int32) then some (0 : Int32) else some (1 : Int32) else some (1 : Int32)))

def v_f_X8_isWay : List Cond := .code yX8_isWay cX8_isWay 2 (some .boolean) :: ([.constantLong RX8 281 (-9999), .constantLong RX8 283 (9999), .methodLink RX8 60 yX8_in, .static yX8_in, .initialized RX8] ++ (v_f_X8_in ++ ([])))
theorem gw_f_X8_isWay : v_f_X8_isWay.all goodWord = true := by decide +kernel
theorem g_f_X8_isWay_f_X8_in_60 : GoodIn v_f_X8_isWay (va_wsS RX8 60 yX8_in v_f_X8_in) := goodIn_app (goodIn_of _ (by decide +kernel)) (goodIn_sub (fun _ h => List.mem_cons_of_mem _ (List.mem_append_right _ (List.mem_append_left _ h))) gw_f_X8_in)
set_option maxHeartbeats 4000000 in
set_option maxRecDepth 100000 in
theorem f_X8_isWay (l : Launch) (E : EE) {p0 : Int32} {p1 : Int32} {rr : Int32} (hF : F_X8_isWay p0 p1 = some rr) : Met l yX8_isWay v_f_X8_isWay (({ frames := 1, cells := 0, slots := 0, locals := 25 } : Room)) (va_Pc [.int p0, .int p1] (pP E [])) (vp_Si (fun q : Int32 => q = rr ∧ (q = 0 ∨ q = 1))) 0 0 (fun _ => False) := by
  refine Met.ofW (cc := cX8_isWay) (maxL := 2) (ret := (some .boolean)) (by decide) rfl ?_
  intro p e s m args below meth c s₁ B hml hv
  obtain ⟨rfl, ⟨hK, hN⟩, hP⟩ := hv
  have hx := B.exec
  have hb := B.bytes
  have hr := B.returns
  have hts := atoms_spec (ws := v_f_X8_isWay) B.pre
  have hown : s.vm.findClass RX8 = some m.cls := findClass_of_methodNamed B.named
  have hlocks : meth.locks = false := B.notSynchronized
  replace hP : va_P E.1 vwCl [] s.heap := hP
  have hl := lv_entry ([.int p0, .int p1]) (n := 2) (Nat.le_of_ble_eq_true rfl)
  rw [lg_entry_eq]
  generalize (lg_sl ([.int p0, .int p1]) ++ List.replicate (2 - (lg_sl ([.int p0, .int p1])).length) Slot.unset).toArray = ls at hl ⊢
  have hl : lv_has ls 2 [(0, .int p0), (1, .int p1)] := hl
  obtain ⟨Q, hQ⟩ : ∃ Q : State → Prop, Q = MQ below (vp_Si (fun q : Int32 => q = rr ∧ (q = 0 ∨ q = 1))) #[Value.int p0, Value.int p1] s 0 0 (fun _ => False) := ⟨_, rfl⟩
  rw [← hQ]
  change W p l e ({ frames := 1, cells := 0, slots := 0, locals := 25 } : Room) s m #[Value.int p0, Value.int p1] below meth c s.heap [] 0 0 Q (F0 m 0 ls [])
  unfold F_X8_isWay at hF
  refine lv_iload_n hx hb dX8_isWay_0 rfl (lv_at hl 0 rfl) ?_
  refine lv_i2l (v := p0.toInt64) hx hb dX8_isWay_1 rfl ?_
  refine lv_ldc2 (v := -9999) hx hb hown (hts (.constantLong RX8 281 (-9999)) (List.mem_of_getElem? (i := 1) rfl)) dX8_isWay_2 ?_
  refine lv_ldc2 (v := 9999) hx hb hown (hts (.constantLong RX8 283 (9999)) (List.mem_of_getElem? (i := 2) rfl)) dX8_isWay_5 ?_
  replace hF := bd1_s hF
  obtain ⟨r_1, hc_2, hF⟩ := hF
  have hPc : va_P E.1 vwCl [] s.heap := fun k q h => by simp at h
  refine pE_z (va_runS (As := [.long p0.toInt64, .long (-9999 : Int64), .long (9999 : Int64)]) (rest := [])  ⟨hx, hb, hml, hown, hts⟩ (f_X8_in l E (p0 := p0.toInt64) (p1 := (-9999 : Int64)) (p2 := (9999 : Int64)) hc_2) (va_cwS 3 hts g_f_X8_isWay_f_X8_in_60 rfl rfl rfl (by decide +kernel) ⟨Nat.le_of_ble_eq_true rfl, Nat.le_of_ble_eq_true rfl⟩) ⟨pP.blind, (pP.pre ⟨hK, hN⟩ hPc)⟩ rfl rfl hl.1 rfl (lv_room (Nat.le_of_ble_eq_true rfl)) dX8_isWay_8 ⟨Nat.le_of_ble_eq_true rfl, Nat.le_of_ble_eq_true rfl⟩) (fun hb_3 => ?_)
  refine lv_if_eq (tgt := 40) hx hb dX8_isWay_11 (by decide) (fun c_4 => ?_) (fun c_4 => ?_)
  ·
    replace hF := ip c_4 hF
    refine lv_iconst (v := 0) hx hb dX8_isWay_40 (by decide) ?_
    rw [hQ]
    obtain e9_0 := inj1 hF
    exact W.zret (v := (0 : Int32)) hx hb hr rfl (fun tt ht hW => ⟨_, rfl, ⟨e9_0, Or.inl rfl⟩, ht⟩) (fun _ h => by cases h) dX8_isWay_41
  ·
    replace hF := inn c_4 hF
    refine lv_iload_n hx hb dX8_isWay_14 rfl (lv_at hl 1 rfl) ?_
    refine lv_i2l (v := p1.toInt64) hx hb dX8_isWay_15 rfl ?_
    refine lv_ldc2 (v := -9999) hx hb hown (hts (.constantLong RX8 281 (-9999)) (List.mem_of_getElem? (i := 1) rfl)) dX8_isWay_16 ?_
    refine lv_ldc2 (v := 9999) hx hb hown (hts (.constantLong RX8 283 (9999)) (List.mem_of_getElem? (i := 2) rfl)) dX8_isWay_19 ?_
    replace hF := bd1_s hF
    obtain ⟨r_5, hc_6, hF⟩ := hF
    have hPc : va_P E.1 vwCl [] s.heap := fun k q h => by simp at h
    refine pE_z (va_runS (As := [.long p1.toInt64, .long (-9999 : Int64), .long (9999 : Int64)]) (rest := [])  ⟨hx, hb, hml, hown, hts⟩ (f_X8_in l E (p0 := p1.toInt64) (p1 := (-9999 : Int64)) (p2 := (9999 : Int64)) hc_6) (va_cwS 3 hts g_f_X8_isWay_f_X8_in_60 rfl rfl rfl (by decide +kernel) ⟨Nat.le_of_ble_eq_true rfl, Nat.le_of_ble_eq_true rfl⟩) ⟨pP.blind, (pP.pre ⟨hK, hN⟩ hPc)⟩ rfl rfl hl.1 rfl (lv_room (Nat.le_of_ble_eq_true rfl)) dX8_isWay_22 ⟨Nat.le_of_ble_eq_true rfl, Nat.le_of_ble_eq_true rfl⟩) (fun hb_7 => ?_)
    refine lv_if_eq (tgt := 40) hx hb dX8_isWay_25 (by decide) (fun c_8 => ?_) (fun c_8 => ?_)
    ·
      replace hF := ip c_8 hF
      refine lv_iconst (v := 0) hx hb dX8_isWay_40 (by decide) ?_
      rw [hQ]
      obtain e9_0 := inj1 hF
      exact W.zret (v := (0 : Int32)) hx hb hr rfl (fun tt ht hW => ⟨_, rfl, ⟨e9_0, Or.inl rfl⟩, ht⟩) (fun _ h => by cases h) dX8_isWay_41
    ·
      replace hF := inn c_8 hF
      refine lv_iload_n hx hb dX8_isWay_28 rfl (lv_at hl 0 rfl) ?_
      refine lv_if_ne (tgt := 36) hx hb dX8_isWay_29 (by decide) (fun c_9 => ?_) (fun c_9 => ?_)
      ·
        replace hF := inn c_9 hF
        refine lv_iconst (v := 1) hx hb dX8_isWay_36 (by decide) ?_
        refine lv_goto (tgt := 41) hx hb dX8_isWay_37 (by decide) ?_
        rw [hQ]
        obtain e9_0 := inj1 hF
        exact W.zret (v := (1 : Int32)) hx hb hr rfl (fun tt ht hW => ⟨_, rfl, ⟨e9_0, Or.inr rfl⟩, ht⟩) (fun _ h => by cases h) dX8_isWay_41
      ·
        replace hF := ip c_9 hF
        refine lv_iload_n hx hb dX8_isWay_32 rfl (lv_at hl 1 rfl) ?_
        refine lv_if_eq (tgt := 40) hx hb dX8_isWay_33 (by decide) (fun c_10 => ?_) (fun c_10 => ?_)
        ·
          replace hF := ip c_10 hF
          refine lv_iconst (v := 0) hx hb dX8_isWay_40 (by decide) ?_
          rw [hQ]
          obtain e9_0 := inj1 hF
          exact W.zret (v := (0 : Int32)) hx hb hr rfl (fun tt ht hW => ⟨_, rfl, ⟨e9_0, Or.inl rfl⟩, ht⟩) (fun _ h => by cases h) dX8_isWay_41
        ·
          replace hF := inn c_10 hF
          refine lv_iconst (v := 1) hx hb dX8_isWay_36 (by decide) ?_
          refine lv_goto (tgt := 41) hx hb dX8_isWay_37 (by decide) ?_
          rw [hQ]
          obtain e9_0 := inj1 hF
          exact W.zret (v := (1 : Int32)) hx hb hr rfl (fun tt ht hW => ⟨_, rfl, ⟨e9_0, Or.inr rfl⟩, ht⟩) (fun _ h => by cases h) dX8_isWay_41

def F_X8_law (K : Nat) (p1 : Int32) (c_now : Nat → Int32) (c_refused : Nat → Int32) (c_sites : Int32) (c_shareX : Nat → Int32) (c_shareY : Nat → Int32) (c_asked : Int32) (c_outcome : Int32) (c_askedRow : Nat → Int32) (c_took : Int32) (c_kept : Nat → Int32) (c_acts : Int32) : Option (Int32 × (Nat → Int32) × (Nat → Int32) × (Nat → Int32) × (Nat → Int32) × Int32 × Int32 × (Nat → Int32) × Int32 × (Nat → Int32) × Int32) :=
  bd11 (F_X8_hand K (-1 : Int32) (3 : Int32) p1 (0 : Int32) (0 : Int32) c_now c_refused c_sites c_shareX c_shareY c_asked c_outcome c_askedRow c_took c_kept c_acts) (fun r_1 w_2 w_3 w_4 w_5 w_6 w_7 w_8 w_9 w_10 w_11 => some (r_1, w_2, w_3, w_4, w_5, w_6, w_7, w_8, w_9, w_10, w_11))
abbrev w_X8_law (E : EE) (a_ a_tape a_readPlace a_script a_scriptLong a_now a_refused a_shareX a_shareY a_askedRow a_kept a_aside a_spelled a_image : Nat) (c_thrown : Int32) (c_taped : Int32) (c_at : Int32) (c_part : Int32) (c_partFrom : Int32) (c_partNumber : Int32) (c_wrong : Int32) (c_partWord : Int64) (c_readLaw : Int32) (c_readBound : Int32) (c_readGoal : Int32) (c_readSites : Int32) (c_scripts : Int32) (c_sites : Int32) (c_asked : Int32) (c_outcome : Int32) (c_took : Int32) (c_acts : Int32) (c_drawn : Int64) (c_racer : Int32) (c_raced : Int32) (c_spelledMany : Int32) (c_hasImage : Int32) (c_now : Nat → Int32) (c_refused : Nat → Int32) (c_shareX : Nat → Int32) (c_shareY : Nat → Int32) (c_askedRow : Nat → Int32) (c_kept : Nat → Int32) : va_W := [(a_, .inr (9, [.int c_thrown, .ref a_tape, .int c_taped, .int c_at, .int c_part, .int c_partFrom, .int c_partNumber, .int c_wrong, .long c_partWord, .int c_readLaw, .int c_readBound, .int c_readGoal, .int c_readSites, .ref a_readPlace, .ref a_script, .ref a_scriptLong, .int c_scripts, .ref a_now, .ref a_refused, .int c_sites, .ref a_shareX, .ref a_shareY, .int c_asked, .int c_outcome, .ref a_askedRow, .int c_took, .ref a_kept, .int c_acts, .long c_drawn, .ref a_aside, .int c_racer, .int c_raced, .ref a_spelled, .int c_spelledMany, .ref a_image, .int c_hasImage])), (a_now, .inl (E.2.1, 265, .inl c_now)), (a_refused, .inl (E.2.1, 3, .inl c_refused)), (a_shareX, .inl (E.2.1, 8, .inl c_shareX)), (a_shareY, .inl (E.2.1, 8, .inl c_shareY)), (a_askedRow, .inl (E.2.1, 8, .inl c_askedRow)), (a_kept, .inl (E.2.1, 10600, .inl c_kept))]
def v_f_X8_law : List Cond := .code yX8_law cX8_law 2 (some .int) :: ([.methodLink RX8 350 yX8_hand, .instanceMethod yX8_hand, .selects RX8 yX8_hand yX8_hand, .initialized RX8] ++ (v_f_X8_hand ++ ([])))
theorem gw_f_X8_law : v_f_X8_law.all goodWord = true := by decide +kernel
theorem g_f_X8_law_f_X8_hand_350 : GoodIn v_f_X8_law (wsV RX8 350 RX8 yX8_hand v_f_X8_hand) := goodIn_app (goodIn_of _ (by decide +kernel)) (goodIn_sub (fun _ h => List.mem_cons_of_mem _ (List.mem_append_right _ (List.mem_append_left _ h))) gw_f_X8_hand)
set_option maxHeartbeats 4000000 in
set_option maxRecDepth 100000 in
theorem f_X8_law (l : Launch) (E : EE) (sz : Nat) (K : Nat) {a_ a_tape a_readPlace a_script a_scriptLong a_now a_refused a_shareX a_shareY a_askedRow a_kept a_aside a_spelled a_image : Nat} {p1 : Int32} {c_thrown : Int32} {c_taped : Int32} {c_at : Int32} {c_part : Int32} {c_partFrom : Int32} {c_partNumber : Int32} {c_wrong : Int32} {c_partWord : Int64} {c_readLaw : Int32} {c_readBound : Int32} {c_readGoal : Int32} {c_readSites : Int32} {c_scripts : Int32} {c_sites : Int32} {c_asked : Int32} {c_outcome : Int32} {c_took : Int32} {c_acts : Int32} {c_drawn : Int64} {c_racer : Int32} {c_raced : Int32} {c_spelledMany : Int32} {c_hasImage : Int32} {c_now : Nat → Int32} {c_refused : Nat → Int32} {c_shareX : Nat → Int32} {c_shareY : Nat → Int32} {c_askedRow : Nat → Int32} {c_kept : Nat → Int32} {rr : Int32} {n_now : Nat → Int32} {n_refused : Nat → Int32} {n_shareX : Nat → Int32} {n_shareY : Nat → Int32} {n_asked : Int32} {n_outcome : Int32} {n_askedRow : Nat → Int32} {n_took : Int32} {n_kept : Nat → Int32} {n_acts : Int32} (hF : F_X8_law K p1 c_now c_refused c_sites c_shareX c_shareY c_asked c_outcome c_askedRow c_took c_kept c_acts = some (rr, n_now, n_refused, n_shareX, n_shareY, n_asked, n_outcome, n_askedRow, n_took, n_kept, n_acts)) : Met l yX8_law v_f_X8_law (({ frames := 10, cells := 0, slots := 0, locals := 241 } : Room)) (va_Pc [.ref a_, .int p1] (pW E sz (w_X8_law E a_ a_tape a_readPlace a_script a_scriptLong a_now a_refused a_shareX a_shareY a_askedRow a_kept a_aside a_spelled a_image c_thrown c_taped c_at c_part c_partFrom c_partNumber c_wrong c_partWord c_readLaw c_readBound c_readGoal c_readSites c_scripts c_sites c_asked c_outcome c_took c_acts c_drawn c_racer c_raced c_spelledMany c_hasImage c_now c_refused c_shareX c_shareY c_askedRow c_kept))) (va_Qi (fun (q : Int32) (_u : Unit) => q = rr) (fun (_u : Unit) tt => va_P E.1 vwCl (w_X8_law E a_ a_tape a_readPlace a_script a_scriptLong a_now a_refused a_shareX a_shareY a_askedRow a_kept a_aside a_spelled a_image c_thrown c_taped c_at c_part c_partFrom c_partNumber c_wrong c_partWord c_readLaw c_readBound c_readGoal c_readSites c_scripts c_sites n_asked n_outcome n_took n_acts c_drawn c_racer c_raced c_spelledMany c_hasImage n_now n_refused n_shareX n_shareY n_askedRow n_kept) tt.heap ∧ va_D (va_A (w_X8_law E a_ a_tape a_readPlace a_script a_scriptLong a_now a_refused a_shareX a_shareY a_askedRow a_kept a_aside a_spelled a_image c_thrown c_taped c_at c_part c_partFrom c_partNumber c_wrong c_partWord c_readLaw c_readBound c_readGoal c_readSites c_scripts c_sites c_asked c_outcome c_took c_acts c_drawn c_racer c_raced c_spelledMany c_hasImage c_now c_refused c_shareX c_shareY c_askedRow c_kept) sz) (w_X8_law E a_ a_tape a_readPlace a_script a_scriptLong a_now a_refused a_shareX a_shareY a_askedRow a_kept a_aside a_spelled a_image c_thrown c_taped c_at c_part c_partFrom c_partNumber c_wrong c_partWord c_readLaw c_readBound c_readGoal c_readSites c_scripts c_sites n_asked n_outcome n_took n_acts c_drawn c_racer c_raced c_spelledMany c_hasImage n_now n_refused n_shareX n_shareY n_askedRow n_kept)) (va_A (w_X8_law E a_ a_tape a_readPlace a_script a_scriptLong a_now a_refused a_shareX a_shareY a_askedRow a_kept a_aside a_spelled a_image c_thrown c_taped c_at c_part c_partFrom c_partNumber c_wrong c_partWord c_readLaw c_readBound c_readGoal c_readSites c_scripts c_sites c_asked c_outcome c_took c_acts c_drawn c_racer c_raced c_spelledMany c_hasImage c_now c_refused c_shareX c_shareY c_askedRow c_kept) sz)) 0 0 (va_A (w_X8_law E a_ a_tape a_readPlace a_script a_scriptLong a_now a_refused a_shareX a_shareY a_askedRow a_kept a_aside a_spelled a_image c_thrown c_taped c_at c_part c_partFrom c_partNumber c_wrong c_partWord c_readLaw c_readBound c_readGoal c_readSites c_scripts c_sites c_asked c_outcome c_took c_acts c_drawn c_racer c_raced c_spelledMany c_hasImage c_now c_refused c_shareX c_shareY c_askedRow c_kept) sz) := by
  refine Met.ofW (cc := cX8_law) (maxL := 2) (ret := (some .int)) (by decide) rfl ?_
  intro p e s m args below meth c s₁ B hml hv
  obtain ⟨rfl, hsz, ⟨hK, hN⟩, hP, hD0⟩ := hv
  have hx := B.exec
  have hb := B.bytes
  have hr := B.returns
  have hts := atoms_spec (ws := v_f_X8_law) B.pre
  have hown : s.vm.findClass RX8 = some m.cls := findClass_of_methodNamed B.named
  have hlocks : meth.locks = false := B.notSynchronized
  subst hsz
  have hD := hD0.self (sz := s.heap.size)
  generalize hAe : va_A (w_X8_law E a_ a_tape a_readPlace a_script a_scriptLong a_now a_refused a_shareX a_shareY a_askedRow a_kept a_aside a_spelled a_image c_thrown c_taped c_at c_part c_partFrom c_partNumber c_wrong c_partWord c_readLaw c_readBound c_readGoal c_readSites c_scripts c_sites c_asked c_outcome c_took c_acts c_drawn c_racer c_raced c_spelledMany c_hasImage c_now c_refused c_shareX c_shareY c_askedRow c_kept) s.heap.size = A at hD ⊢
  have hA : ∀ q : Nat, s.heap.size ≤ q → A q := fun q h => by rw [← hAe]; exact Or.inr h
  have hS : va_S A s.heap s.heap [] := va_S.rf
  have hl := lv_entry ([.ref a_, .int p1]) (n := 2) (Nat.le_of_ble_eq_true rfl)
  rw [lg_entry_eq]
  generalize (lg_sl ([.ref a_, .int p1]) ++ List.replicate (2 - (lg_sl ([.ref a_, .int p1])).length) Slot.unset).toArray = ls at hl ⊢
  have hl : lv_has ls 2 [(0, .ref a_), (1, .int p1)] := hl
  obtain ⟨Q, hQ⟩ : ∃ Q : State → Prop, Q = MQ below (va_Qi (fun (q : Int32) (_u : Unit) => q = rr) (fun (_u : Unit) tt => va_P E.1 vwCl (w_X8_law E a_ a_tape a_readPlace a_script a_scriptLong a_now a_refused a_shareX a_shareY a_askedRow a_kept a_aside a_spelled a_image c_thrown c_taped c_at c_part c_partFrom c_partNumber c_wrong c_partWord c_readLaw c_readBound c_readGoal c_readSites c_scripts c_sites n_asked n_outcome n_took n_acts c_drawn c_racer c_raced c_spelledMany c_hasImage n_now n_refused n_shareX n_shareY n_askedRow n_kept) tt.heap ∧ va_D A (w_X8_law E a_ a_tape a_readPlace a_script a_scriptLong a_now a_refused a_shareX a_shareY a_askedRow a_kept a_aside a_spelled a_image c_thrown c_taped c_at c_part c_partFrom c_partNumber c_wrong c_partWord c_readLaw c_readBound c_readGoal c_readSites c_scripts c_sites n_asked n_outcome n_took n_acts c_drawn c_racer c_raced c_spelledMany c_hasImage n_now n_refused n_shareX n_shareY n_askedRow n_kept)) A) #[Value.ref a_, Value.int p1] s 0 0 A := ⟨_, rfl⟩
  rw [← hQ]
  change W p l e ({ frames := 10, cells := 0, slots := 0, locals := 241 } : Room) s m #[Value.ref a_, Value.int p1] below meth c s.heap [] 0 0 Q (F0 m 0 ls [])
  suffices hh9 : ∀ (H : Heap) (locs : List Loc), va_P E.1 vwCl (w_X8_law E a_ a_tape a_readPlace a_script a_scriptLong a_now a_refused a_shareX a_shareY a_askedRow a_kept a_aside a_spelled a_image c_thrown c_taped c_at c_part c_partFrom c_partNumber c_wrong c_partWord c_readLaw c_readBound c_readGoal c_readSites c_scripts c_sites c_asked c_outcome c_took c_acts c_drawn c_racer c_raced c_spelledMany c_hasImage c_now c_refused c_shareX c_shareY c_askedRow c_kept) H → va_D A (w_X8_law E a_ a_tape a_readPlace a_script a_scriptLong a_now a_refused a_shareX a_shareY a_askedRow a_kept a_aside a_spelled a_image c_thrown c_taped c_at c_part c_partFrom c_partNumber c_wrong c_partWord c_readLaw c_readBound c_readGoal c_readSites c_scripts c_sites c_asked c_outcome c_took c_acts c_drawn c_racer c_raced c_spelledMany c_hasImage c_now c_refused c_shareX c_shareY c_askedRow c_kept) → va_S A s.heap H locs → W p l e ({ frames := 10, cells := 0, slots := 0, locals := 241 } : Room) s m #[Value.ref a_, Value.int p1] below meth c H locs 0 0 Q (F0 m 0 ls []) from hh9 s.heap [] hP hD hS
  clear hP hD hS
  intro H locs hP hD hS
  replace hP : va_P E.1 vwCl [(a_, .inr (9, [.int c_thrown, .ref a_tape, .int c_taped, .int c_at, .int c_part, .int c_partFrom, .int c_partNumber, .int c_wrong, .long c_partWord, .int c_readLaw, .int c_readBound, .int c_readGoal, .int c_readSites, .ref a_readPlace, .ref a_script, .ref a_scriptLong, .int c_scripts, .ref a_now, .ref a_refused, .int c_sites, .ref a_shareX, .ref a_shareY, .int c_asked, .int c_outcome, .ref a_askedRow, .int c_took, .ref a_kept, .int c_acts, .long c_drawn, .ref a_aside, .int c_racer, .int c_raced, .ref a_spelled, .int c_spelledMany, .ref a_image, .int c_hasImage])), (a_now, .inl (E.2.1, 265, .inl c_now)), (a_refused, .inl (E.2.1, 3, .inl c_refused)), (a_shareX, .inl (E.2.1, 8, .inl c_shareX)), (a_shareY, .inl (E.2.1, 8, .inl c_shareY)), (a_askedRow, .inl (E.2.1, 8, .inl c_askedRow)), (a_kept, .inl (E.2.1, 10600, .inl c_kept))] H := hP
  replace hD : va_D A [(a_, .inr (9, [.int c_thrown, .ref a_tape, .int c_taped, .int c_at, .int c_part, .int c_partFrom, .int c_partNumber, .int c_wrong, .long c_partWord, .int c_readLaw, .int c_readBound, .int c_readGoal, .int c_readSites, .ref a_readPlace, .ref a_script, .ref a_scriptLong, .int c_scripts, .ref a_now, .ref a_refused, .int c_sites, .ref a_shareX, .ref a_shareY, .int c_asked, .int c_outcome, .ref a_askedRow, .int c_took, .ref a_kept, .int c_acts, .long c_drawn, .ref a_aside, .int c_racer, .int c_raced, .ref a_spelled, .int c_spelledMany, .ref a_image, .int c_hasImage])), (a_now, .inl (E.2.1, 265, .inl c_now)), (a_refused, .inl (E.2.1, 3, .inl c_refused)), (a_shareX, .inl (E.2.1, 8, .inl c_shareX)), (a_shareY, .inl (E.2.1, 8, .inl c_shareY)), (a_askedRow, .inl (E.2.1, 8, .inl c_askedRow)), (a_kept, .inl (E.2.1, 10600, .inl c_kept))] := hD
  unfold F_X8_law at hF
  refine lv_aload_n hx hb dX8_law_0 rfl (lv_at hl 0 rfl) ?_
  refine lv_iconst (v := -1) hx hb dX8_law_1 (by decide) ?_
  refine lv_iconst (v := 3) hx hb dX8_law_2 (by decide) ?_
  refine lv_iload_n hx hb dX8_law_3 rfl (lv_at hl 1 rfl) ?_
  refine lv_iconst (v := 0) hx hb dX8_law_4 (by decide) ?_
  refine lv_iconst (v := 0) hx hb dX8_law_5 (by decide) ?_
  replace hF := bd11_s hF
  obtain ⟨r_1, w_2, w_3, w_4, w_5, w_6, w_7, w_8, w_9, w_10, w_11, hc_12, hF⟩ := hF
  have hPc : va_P E.1 vwCl (w_X8_hand E a_ a_tape a_readPlace a_script a_scriptLong a_now a_refused a_shareX a_shareY a_askedRow a_kept a_aside a_spelled a_image c_thrown c_taped c_at c_part c_partFrom c_partNumber c_wrong c_partWord c_readLaw c_readBound c_readGoal c_readSites c_scripts c_sites c_asked c_outcome c_took c_acts c_drawn c_racer c_raced c_spelledMany c_hasImage c_now c_refused c_shareX c_shareY c_askedRow c_kept) H := hP.sub (ws' := [(a_, .inr (9, [.int c_thrown, .ref a_tape, .int c_taped, .int c_at, .int c_part, .int c_partFrom, .int c_partNumber, .int c_wrong, .long c_partWord, .int c_readLaw, .int c_readBound, .int c_readGoal, .int c_readSites, .ref a_readPlace, .ref a_script, .ref a_scriptLong, .int c_scripts, .ref a_now, .ref a_refused, .int c_sites, .ref a_shareX, .ref a_shareY, .int c_asked, .int c_outcome, .ref a_askedRow, .int c_took, .ref a_kept, .int c_acts, .long c_drawn, .ref a_aside, .int c_racer, .int c_raced, .ref a_spelled, .int c_spelledMany, .ref a_image, .int c_hasImage])), (a_now, .inl (E.2.1, 265, .inl c_now)), (a_refused, .inl (E.2.1, 3, .inl c_refused)), (a_shareX, .inl (E.2.1, 8, .inl c_shareX)), (a_shareY, .inl (E.2.1, 8, .inl c_shareY)), (a_askedRow, .inl (E.2.1, 8, .inl c_askedRow)), (a_kept, .inl (E.2.1, 10600, .inl c_kept))]) [0, 1, 2, 3, 4, 5, 6] rfl
  have hDc : va_D A (w_X8_hand E a_ a_tape a_readPlace a_script a_scriptLong a_now a_refused a_shareX a_shareY a_askedRow a_kept a_aside a_spelled a_image c_thrown c_taped c_at c_part c_partFrom c_partNumber c_wrong c_partWord c_readLaw c_readBound c_readGoal c_readSites c_scripts c_sites c_asked c_outcome c_took c_acts c_drawn c_racer c_raced c_spelledMany c_hasImage c_now c_refused c_shareX c_shareY c_askedRow c_kept) := hD.sub (ws' := [(a_, .inr (9, [.int c_thrown, .ref a_tape, .int c_taped, .int c_at, .int c_part, .int c_partFrom, .int c_partNumber, .int c_wrong, .long c_partWord, .int c_readLaw, .int c_readBound, .int c_readGoal, .int c_readSites, .ref a_readPlace, .ref a_script, .ref a_scriptLong, .int c_scripts, .ref a_now, .ref a_refused, .int c_sites, .ref a_shareX, .ref a_shareY, .int c_asked, .int c_outcome, .ref a_askedRow, .int c_took, .ref a_kept, .int c_acts, .long c_drawn, .ref a_aside, .int c_racer, .int c_raced, .ref a_spelled, .int c_spelledMany, .ref a_image, .int c_hasImage])), (a_now, .inl (E.2.1, 265, .inl c_now)), (a_refused, .inl (E.2.1, 3, .inl c_refused)), (a_shareX, .inl (E.2.1, 8, .inl c_shareX)), (a_shareY, .inl (E.2.1, 8, .inl c_shareY)), (a_askedRow, .inl (E.2.1, 8, .inl c_askedRow)), (a_kept, .inl (E.2.1, 10600, .inl c_kept))]) [0, 1, 2, 3, 4, 5, 6] (by decide) rfl
  have hFc : ∀ q, va_A (w_X8_hand E a_ a_tape a_readPlace a_script a_scriptLong a_now a_refused a_shareX a_shareY a_askedRow a_kept a_aside a_spelled a_image c_thrown c_taped c_at c_part c_partFrom c_partNumber c_wrong c_partWord c_readLaw c_readBound c_readGoal c_readSites c_scripts c_sites c_asked c_outcome c_took c_acts c_drawn c_racer c_raced c_spelledMany c_hasImage c_now c_refused c_shareX c_shareY c_askedRow c_kept) H.size q → A q := va_free (wc := [(a_, .inr (9, [.int c_thrown, .ref a_tape, .int c_taped, .int c_at, .int c_part, .int c_partFrom, .int c_partNumber, .int c_wrong, .long c_partWord, .int c_readLaw, .int c_readBound, .int c_readGoal, .int c_readSites, .ref a_readPlace, .ref a_script, .ref a_scriptLong, .int c_scripts, .ref a_now, .ref a_refused, .int c_sites, .ref a_shareX, .ref a_shareY, .int c_asked, .int c_outcome, .ref a_askedRow, .int c_took, .ref a_kept, .int c_acts, .long c_drawn, .ref a_aside, .int c_racer, .int c_raced, .ref a_spelled, .int c_spelledMany, .ref a_image, .int c_hasImage])), (a_now, .inl (E.2.1, 265, .inl c_now)), (a_refused, .inl (E.2.1, 3, .inl c_refused)), (a_shareX, .inl (E.2.1, 8, .inl c_shareX)), (a_shareY, .inl (E.2.1, 8, .inl c_shareY)), (a_askedRow, .inl (E.2.1, 8, .inl c_askedRow)), (a_kept, .inl (E.2.1, 10600, .inl c_kept))]) hD hS hA [0, 1, 2, 3, 4, 5, 6] rfl
  refine cE_i (wc := (w_X8_hand E a_ a_tape a_readPlace a_script a_scriptLong a_now a_refused a_shareX a_shareY a_askedRow a_kept a_aside a_spelled a_image c_thrown c_taped c_at c_part c_partFrom c_partNumber c_wrong c_partWord c_readLaw c_readBound c_readGoal c_readSites c_scripts c_sites c_asked c_outcome c_took c_acts c_drawn c_racer c_raced c_spelledMany c_hasImage c_now c_refused c_shareX c_shareY c_askedRow c_kept)) (wr := []) (w1 := (w_X8_hand E a_ a_tape a_readPlace a_script a_scriptLong a_now a_refused a_shareX a_shareY a_askedRow a_kept a_aside a_spelled a_image c_thrown c_taped c_at c_part c_partFrom c_partNumber c_wrong c_partWord c_readLaw c_readBound c_readGoal c_readSites c_scripts c_sites w_6 w_7 w_9 w_11 c_drawn c_racer c_raced c_spelledMany c_hasImage w_2 w_3 w_4 w_5 w_8 w_10)) (va_runV (As := [.int (-1 : Int32), .int (3 : Int32), .int p1, .int (0 : Int32), .int (0 : Int32)]) (rest := [])  ⟨hx, hb, hml, hown, hts⟩ (f_X8_hand l E H.size K (a_ := a_) (a_tape := a_tape) (a_readPlace := a_readPlace) (a_script := a_script) (a_scriptLong := a_scriptLong) (a_now := a_now) (a_refused := a_refused) (a_shareX := a_shareX) (a_shareY := a_shareY) (a_askedRow := a_askedRow) (a_kept := a_kept) (a_aside := a_aside) (a_spelled := a_spelled) (a_image := a_image) (p1 := (-1 : Int32)) (p2 := (3 : Int32)) (p3 := p1) (p4 := (0 : Int32)) (p5 := (0 : Int32)) (c_thrown := c_thrown) (c_taped := c_taped) (c_at := c_at) (c_part := c_part) (c_partFrom := c_partFrom) (c_partNumber := c_partNumber) (c_wrong := c_wrong) (c_partWord := c_partWord) (c_readLaw := c_readLaw) (c_readBound := c_readBound) (c_readGoal := c_readGoal) (c_readSites := c_readSites) (c_scripts := c_scripts) (c_sites := c_sites) (c_asked := c_asked) (c_outcome := c_outcome) (c_took := c_took) (c_acts := c_acts) (c_drawn := c_drawn) (c_racer := c_racer) (c_raced := c_raced) (c_spelledMany := c_spelledMany) (c_hasImage := c_hasImage) (c_now := c_now) (c_refused := c_refused) (c_shareX := c_shareX) (c_shareY := c_shareY) (c_askedRow := c_askedRow) (c_kept := c_kept) hc_12) (cwV 5 hts g_f_X8_law_f_X8_hand_350 rfl rfl rfl (by decide +kernel) ⟨Nat.le_of_ble_eq_true rfl, Nat.le_of_ble_eq_true rfl⟩) ⟨pW.blind, va_recv hK hPc (ci := 9) (q0 := 0) rfl rfl, (pW.pre ⟨hK, hN⟩ hPc hDc)⟩ rfl rfl hl.1 rfl (lv_room (Nat.le_of_ble_eq_true rfl)) dX8_law_6 ⟨Nat.le_of_ble_eq_true rfl, Nat.le_of_ble_eq_true rfl⟩) hS hFc hP hD [0, 1, 2, 3, 4, 5, 6] [] rfl rfl (by decide) (by decide) (fun H locs hP hD hS => ?_)
  replace hP : va_P E.1 vwCl [(a_, .inr (9, [.int c_thrown, .ref a_tape, .int c_taped, .int c_at, .int c_part, .int c_partFrom, .int c_partNumber, .int c_wrong, .long c_partWord, .int c_readLaw, .int c_readBound, .int c_readGoal, .int c_readSites, .ref a_readPlace, .ref a_script, .ref a_scriptLong, .int c_scripts, .ref a_now, .ref a_refused, .int c_sites, .ref a_shareX, .ref a_shareY, .int w_6, .int w_7, .ref a_askedRow, .int w_9, .ref a_kept, .int w_11, .long c_drawn, .ref a_aside, .int c_racer, .int c_raced, .ref a_spelled, .int c_spelledMany, .ref a_image, .int c_hasImage])), (a_now, .inl (E.2.1, 265, .inl w_2)), (a_refused, .inl (E.2.1, 3, .inl w_3)), (a_shareX, .inl (E.2.1, 8, .inl w_4)), (a_shareY, .inl (E.2.1, 8, .inl w_5)), (a_askedRow, .inl (E.2.1, 8, .inl w_8)), (a_kept, .inl (E.2.1, 10600, .inl w_10))] H := hP
  replace hD : va_D A [(a_, .inr (9, [.int c_thrown, .ref a_tape, .int c_taped, .int c_at, .int c_part, .int c_partFrom, .int c_partNumber, .int c_wrong, .long c_partWord, .int c_readLaw, .int c_readBound, .int c_readGoal, .int c_readSites, .ref a_readPlace, .ref a_script, .ref a_scriptLong, .int c_scripts, .ref a_now, .ref a_refused, .int c_sites, .ref a_shareX, .ref a_shareY, .int w_6, .int w_7, .ref a_askedRow, .int w_9, .ref a_kept, .int w_11, .long c_drawn, .ref a_aside, .int c_racer, .int c_raced, .ref a_spelled, .int c_spelledMany, .ref a_image, .int c_hasImage])), (a_now, .inl (E.2.1, 265, .inl w_2)), (a_refused, .inl (E.2.1, 3, .inl w_3)), (a_shareX, .inl (E.2.1, 8, .inl w_4)), (a_shareY, .inl (E.2.1, 8, .inl w_5)), (a_askedRow, .inl (E.2.1, 8, .inl w_8)), (a_kept, .inl (E.2.1, 10600, .inl w_10))] := hD
  rw [hQ]
  obtain ⟨e9_0, e9_1, e9_2, e9_3, e9_4, e9_5, e9_6, e9_7, e9_8, e9_9, e9_10⟩ := inj11 hF
  have hP9 : va_P E.1 vwCl [(a_, .inr (9, [.int c_thrown, .ref a_tape, .int c_taped, .int c_at, .int c_part, .int c_partFrom, .int c_partNumber, .int c_wrong, .long c_partWord, .int c_readLaw, .int c_readBound, .int c_readGoal, .int c_readSites, .ref a_readPlace, .ref a_script, .ref a_scriptLong, .int c_scripts, .ref a_now, .ref a_refused, .int c_sites, .ref a_shareX, .ref a_shareY, .int n_asked, .int n_outcome, .ref a_askedRow, .int n_took, .ref a_kept, .int n_acts, .long c_drawn, .ref a_aside, .int c_racer, .int c_raced, .ref a_spelled, .int c_spelledMany, .ref a_image, .int c_hasImage])), (a_now, .inl (E.2.1, 265, .inl n_now)), (a_refused, .inl (E.2.1, 3, .inl n_refused)), (a_shareX, .inl (E.2.1, 8, .inl n_shareX)), (a_shareY, .inl (E.2.1, 8, .inl n_shareY)), (a_askedRow, .inl (E.2.1, 8, .inl n_askedRow)), (a_kept, .inl (E.2.1, 10600, .inl n_kept))] H := by rw [← e9_1, ← e9_2, ← e9_3, ← e9_4, ← e9_5, ← e9_6, ← e9_7, ← e9_8, ← e9_9, ← e9_10]; exact hP.sub (ws' := [(a_, .inr (9, [.int c_thrown, .ref a_tape, .int c_taped, .int c_at, .int c_part, .int c_partFrom, .int c_partNumber, .int c_wrong, .long c_partWord, .int c_readLaw, .int c_readBound, .int c_readGoal, .int c_readSites, .ref a_readPlace, .ref a_script, .ref a_scriptLong, .int c_scripts, .ref a_now, .ref a_refused, .int c_sites, .ref a_shareX, .ref a_shareY, .int w_6, .int w_7, .ref a_askedRow, .int w_9, .ref a_kept, .int w_11, .long c_drawn, .ref a_aside, .int c_racer, .int c_raced, .ref a_spelled, .int c_spelledMany, .ref a_image, .int c_hasImage])), (a_now, .inl (E.2.1, 265, .inl w_2)), (a_refused, .inl (E.2.1, 3, .inl w_3)), (a_shareX, .inl (E.2.1, 8, .inl w_4)), (a_shareY, .inl (E.2.1, 8, .inl w_5)), (a_askedRow, .inl (E.2.1, 8, .inl w_8)), (a_kept, .inl (E.2.1, 10600, .inl w_10))]) [0, 1, 2, 3, 4, 5, 6] rfl
  have hD9 : va_D A [(a_, .inr (9, [.int c_thrown, .ref a_tape, .int c_taped, .int c_at, .int c_part, .int c_partFrom, .int c_partNumber, .int c_wrong, .long c_partWord, .int c_readLaw, .int c_readBound, .int c_readGoal, .int c_readSites, .ref a_readPlace, .ref a_script, .ref a_scriptLong, .int c_scripts, .ref a_now, .ref a_refused, .int c_sites, .ref a_shareX, .ref a_shareY, .int n_asked, .int n_outcome, .ref a_askedRow, .int n_took, .ref a_kept, .int n_acts, .long c_drawn, .ref a_aside, .int c_racer, .int c_raced, .ref a_spelled, .int c_spelledMany, .ref a_image, .int c_hasImage])), (a_now, .inl (E.2.1, 265, .inl n_now)), (a_refused, .inl (E.2.1, 3, .inl n_refused)), (a_shareX, .inl (E.2.1, 8, .inl n_shareX)), (a_shareY, .inl (E.2.1, 8, .inl n_shareY)), (a_askedRow, .inl (E.2.1, 8, .inl n_askedRow)), (a_kept, .inl (E.2.1, 10600, .inl n_kept))] := by rw [← e9_1, ← e9_2, ← e9_3, ← e9_4, ← e9_5, ← e9_6, ← e9_7, ← e9_8, ← e9_9, ← e9_10]; exact hD.sub (ws' := [(a_, .inr (9, [.int c_thrown, .ref a_tape, .int c_taped, .int c_at, .int c_part, .int c_partFrom, .int c_partNumber, .int c_wrong, .long c_partWord, .int c_readLaw, .int c_readBound, .int c_readGoal, .int c_readSites, .ref a_readPlace, .ref a_script, .ref a_scriptLong, .int c_scripts, .ref a_now, .ref a_refused, .int c_sites, .ref a_shareX, .ref a_shareY, .int w_6, .int w_7, .ref a_askedRow, .int w_9, .ref a_kept, .int w_11, .long c_drawn, .ref a_aside, .int c_racer, .int c_raced, .ref a_spelled, .int c_spelledMany, .ref a_image, .int c_hasImage])), (a_now, .inl (E.2.1, 265, .inl w_2)), (a_refused, .inl (E.2.1, 3, .inl w_3)), (a_shareX, .inl (E.2.1, 8, .inl w_4)), (a_shareY, .inl (E.2.1, 8, .inl w_5)), (a_askedRow, .inl (E.2.1, 8, .inl w_8)), (a_kept, .inl (E.2.1, 10600, .inl w_10))]) [0, 1, 2, 3, 4, 5, 6] (by decide) rfl
  exact W.iret (v := r_1) hx hb hr (fun tt ht hW => ⟨⟨_, (), rfl, e9_0, by rw [ht]; exact hP9, hD9⟩, hS.F ht⟩) hS.2.2 dX8_law_9
