def dl_X8_status_30_md37_0 : List (Nat × Instr × Nat) := [(0, .iload_n 1, 1), (1, .i2l, 1), (2, .lconst 0, 1), (3, .ldc2_w 373, 3), (6, .invokestatic 60, 3), (9, .ifCond .eq 12, 3), (21, .iconst (-1), 1), (22, .ireturn, 1), (12, .aload_n 0, 1), (13, .getfield 25, 3), (16, .iload_n 1, 1), (17, .iaload, 1), (18, .goto 4, 3)]
set_option maxRecDepth 100000 in
theorem dall_X8_status_30_md37_0 : dchk cX8_status dl_X8_status_30_md37_0 = true := by decide +kernel
theorem dX8_status_0 : decode cX8_status 0 = .ok (.iload_n 1, 1) := dchk_at dall_X8_status_30_md37_0 (k := 0) rfl
theorem dX8_status_1 : decode cX8_status 1 = .ok (.i2l, 1) := dchk_at dall_X8_status_30_md37_0 (k := 1) rfl
theorem dX8_status_2 : decode cX8_status 2 = .ok (.lconst 0, 1) := dchk_at dall_X8_status_30_md37_0 (k := 2) rfl
theorem dX8_status_3 : decode cX8_status 3 = .ok (.ldc2_w 373, 3) := dchk_at dall_X8_status_30_md37_0 (k := 3) rfl
theorem dX8_status_6 : decode cX8_status 6 = .ok (.invokestatic 60, 3) := dchk_at dall_X8_status_30_md37_0 (k := 4) rfl
theorem dX8_status_9 : decode cX8_status 9 = .ok (.ifCond .eq 12, 3) := dchk_at dall_X8_status_30_md37_0 (k := 5) rfl
theorem dX8_status_21 : decode cX8_status 21 = .ok (.iconst (-1), 1) := dchk_at dall_X8_status_30_md37_0 (k := 6) rfl
theorem dX8_status_22 : decode cX8_status 22 = .ok (.ireturn, 1) := dchk_at dall_X8_status_30_md37_0 (k := 7) rfl
theorem dX8_status_12 : decode cX8_status 12 = .ok (.aload_n 0, 1) := dchk_at dall_X8_status_30_md37_0 (k := 8) rfl
theorem dX8_status_13 : decode cX8_status 13 = .ok (.getfield 25, 3) := dchk_at dall_X8_status_30_md37_0 (k := 9) rfl
theorem dX8_status_16 : decode cX8_status 16 = .ok (.iload_n 1, 1) := dchk_at dall_X8_status_30_md37_0 (k := 10) rfl
theorem dX8_status_17 : decode cX8_status 17 = .ok (.iaload, 1) := dchk_at dall_X8_status_30_md37_0 (k := 11) rfl
theorem dX8_status_18 : decode cX8_status 18 = .ok (.goto 4, 3) := dchk_at dall_X8_status_30_md37_0 (k := 12) rfl
def dl_X8_step__30_md37_0 : List (Nat × Instr × Nat) := [(0, .aload_n 0, 1), (1, .iload_n 1, 1), (2, .invokevirtual 432, 3), (5, .ifCond .eq 51, 3), (56, .ldc 182, 2), (58, .ireturn, 1), (8, .iload_n 2, 1), (9, .i2l, 1), (10, .lconst 0, 1), (11, .aload_n 0, 1), (12, .getfield 19, 3), (15, .iload_n 1, 1), (16, .iaload, 1), (17, .iconst 1, 1), (18, .isub, 1), (19, .i2l, 1), (20, .invokestatic 60, 3), (23, .ifCond .eq 33, 3), (26, .iload_n 3, 1), (27, .i2l, 1), (28, .lconst 0, 1), (29, .ldc2_w 375, 3), (32, .invokestatic 60, 3), (35, .ifCond .eq 21, 3), (38, .aload_n 0, 1), (39, .getfield 16, 3), (42, .iconst 4, 1), (43, .bipush 12, 2), (45, .iload_n 1, 1), (46, .imul, 1), (47, .iload_n 2, 1), (48, .iadd, 1), (49, .imul, 1), (50, .iload_n 3, 1), (51, .iadd, 1), (52, .iaload, 1), (53, .goto 5, 3)]
set_option maxRecDepth 100000 in
theorem dall_X8_step__30_md37_0 : dchk cX8_step_ dl_X8_step__30_md37_0 = true := by decide +kernel
theorem dX8_step__0 : decode cX8_step_ 0 = .ok (.aload_n 0, 1) := dchk_at dall_X8_step__30_md37_0 (k := 0) rfl
theorem dX8_step__1 : decode cX8_step_ 1 = .ok (.iload_n 1, 1) := dchk_at dall_X8_step__30_md37_0 (k := 1) rfl
theorem dX8_step__2 : decode cX8_step_ 2 = .ok (.invokevirtual 432, 3) := dchk_at dall_X8_step__30_md37_0 (k := 2) rfl
theorem dX8_step__5 : decode cX8_step_ 5 = .ok (.ifCond .eq 51, 3) := dchk_at dall_X8_step__30_md37_0 (k := 3) rfl
theorem dX8_step__56 : decode cX8_step_ 56 = .ok (.ldc 182, 2) := dchk_at dall_X8_step__30_md37_0 (k := 4) rfl
theorem dX8_step__58 : decode cX8_step_ 58 = .ok (.ireturn, 1) := dchk_at dall_X8_step__30_md37_0 (k := 5) rfl
theorem dX8_step__8 : decode cX8_step_ 8 = .ok (.iload_n 2, 1) := dchk_at dall_X8_step__30_md37_0 (k := 6) rfl
theorem dX8_step__9 : decode cX8_step_ 9 = .ok (.i2l, 1) := dchk_at dall_X8_step__30_md37_0 (k := 7) rfl
theorem dX8_step__10 : decode cX8_step_ 10 = .ok (.lconst 0, 1) := dchk_at dall_X8_step__30_md37_0 (k := 8) rfl
theorem dX8_step__11 : decode cX8_step_ 11 = .ok (.aload_n 0, 1) := dchk_at dall_X8_step__30_md37_0 (k := 9) rfl
theorem dX8_step__12 : decode cX8_step_ 12 = .ok (.getfield 19, 3) := dchk_at dall_X8_step__30_md37_0 (k := 10) rfl
theorem dX8_step__15 : decode cX8_step_ 15 = .ok (.iload_n 1, 1) := dchk_at dall_X8_step__30_md37_0 (k := 11) rfl
theorem dX8_step__16 : decode cX8_step_ 16 = .ok (.iaload, 1) := dchk_at dall_X8_step__30_md37_0 (k := 12) rfl
theorem dX8_step__17 : decode cX8_step_ 17 = .ok (.iconst 1, 1) := dchk_at dall_X8_step__30_md37_0 (k := 13) rfl
theorem dX8_step__18 : decode cX8_step_ 18 = .ok (.isub, 1) := dchk_at dall_X8_step__30_md37_0 (k := 14) rfl
theorem dX8_step__19 : decode cX8_step_ 19 = .ok (.i2l, 1) := dchk_at dall_X8_step__30_md37_0 (k := 15) rfl
theorem dX8_step__20 : decode cX8_step_ 20 = .ok (.invokestatic 60, 3) := dchk_at dall_X8_step__30_md37_0 (k := 16) rfl
theorem dX8_step__23 : decode cX8_step_ 23 = .ok (.ifCond .eq 33, 3) := dchk_at dall_X8_step__30_md37_0 (k := 17) rfl
theorem dX8_step__26 : decode cX8_step_ 26 = .ok (.iload_n 3, 1) := dchk_at dall_X8_step__30_md37_0 (k := 18) rfl
theorem dX8_step__27 : decode cX8_step_ 27 = .ok (.i2l, 1) := dchk_at dall_X8_step__30_md37_0 (k := 19) rfl
theorem dX8_step__28 : decode cX8_step_ 28 = .ok (.lconst 0, 1) := dchk_at dall_X8_step__30_md37_0 (k := 20) rfl
theorem dX8_step__29 : decode cX8_step_ 29 = .ok (.ldc2_w 375, 3) := dchk_at dall_X8_step__30_md37_0 (k := 21) rfl
theorem dX8_step__32 : decode cX8_step_ 32 = .ok (.invokestatic 60, 3) := dchk_at dall_X8_step__30_md37_0 (k := 22) rfl
theorem dX8_step__35 : decode cX8_step_ 35 = .ok (.ifCond .eq 21, 3) := dchk_at dall_X8_step__30_md37_0 (k := 23) rfl
theorem dX8_step__38 : decode cX8_step_ 38 = .ok (.aload_n 0, 1) := dchk_at dall_X8_step__30_md37_0 (k := 24) rfl
theorem dX8_step__39 : decode cX8_step_ 39 = .ok (.getfield 16, 3) := dchk_at dall_X8_step__30_md37_0 (k := 25) rfl
theorem dX8_step__42 : decode cX8_step_ 42 = .ok (.iconst 4, 1) := dchk_at dall_X8_step__30_md37_0 (k := 26) rfl
theorem dX8_step__43 : decode cX8_step_ 43 = .ok (.bipush 12, 2) := dchk_at dall_X8_step__30_md37_0 (k := 27) rfl
theorem dX8_step__45 : decode cX8_step_ 45 = .ok (.iload_n 1, 1) := dchk_at dall_X8_step__30_md37_0 (k := 28) rfl
theorem dX8_step__46 : decode cX8_step_ 46 = .ok (.imul, 1) := dchk_at dall_X8_step__30_md37_0 (k := 29) rfl
theorem dX8_step__47 : decode cX8_step_ 47 = .ok (.iload_n 2, 1) := dchk_at dall_X8_step__30_md37_0 (k := 30) rfl
theorem dX8_step__48 : decode cX8_step_ 48 = .ok (.iadd, 1) := dchk_at dall_X8_step__30_md37_0 (k := 31) rfl
theorem dX8_step__49 : decode cX8_step_ 49 = .ok (.imul, 1) := dchk_at dall_X8_step__30_md37_0 (k := 32) rfl
theorem dX8_step__50 : decode cX8_step_ 50 = .ok (.iload_n 3, 1) := dchk_at dall_X8_step__30_md37_0 (k := 33) rfl
theorem dX8_step__51 : decode cX8_step_ 51 = .ok (.iadd, 1) := dchk_at dall_X8_step__30_md37_0 (k := 34) rfl
theorem dX8_step__52 : decode cX8_step_ 52 = .ok (.iaload, 1) := dchk_at dall_X8_step__30_md37_0 (k := 35) rfl
theorem dX8_step__53 : decode cX8_step_ 53 = .ok (.goto 5, 3) := dchk_at dall_X8_step__30_md37_0 (k := 36) rfl
def dl_X8_sync_30_md37_0 : List (Nat × Instr × Nat) := [(0, .aload_n 0, 1), (1, .iconst (-1), 1), (2, .iconst 1, 1), (3, .iconst 0, 1), (4, .iconst 0, 1), (5, .iconst 0, 1), (6, .invokevirtual 350, 3), (9, .ireturn, 1)]
set_option maxRecDepth 100000 in
theorem dall_X8_sync_30_md37_0 : dchk cX8_sync dl_X8_sync_30_md37_0 = true := by decide +kernel
theorem dX8_sync_0 : decode cX8_sync 0 = .ok (.aload_n 0, 1) := dchk_at dall_X8_sync_30_md37_0 (k := 0) rfl
theorem dX8_sync_1 : decode cX8_sync 1 = .ok (.iconst (-1), 1) := dchk_at dall_X8_sync_30_md37_0 (k := 1) rfl
theorem dX8_sync_2 : decode cX8_sync 2 = .ok (.iconst 1, 1) := dchk_at dall_X8_sync_30_md37_0 (k := 2) rfl
theorem dX8_sync_3 : decode cX8_sync 3 = .ok (.iconst 0, 1) := dchk_at dall_X8_sync_30_md37_0 (k := 3) rfl
theorem dX8_sync_4 : decode cX8_sync 4 = .ok (.iconst 0, 1) := dchk_at dall_X8_sync_30_md37_0 (k := 4) rfl
theorem dX8_sync_5 : decode cX8_sync 5 = .ok (.iconst 0, 1) := dchk_at dall_X8_sync_30_md37_0 (k := 5) rfl
theorem dX8_sync_6 : decode cX8_sync 6 = .ok (.invokevirtual 350, 3) := dchk_at dall_X8_sync_30_md37_0 (k := 6) rfl
theorem dX8_sync_9 : decode cX8_sync 9 = .ok (.ireturn, 1) := dchk_at dall_X8_sync_30_md37_0 (k := 7) rfl
def F_X8_status (p1 : Int32) (c_refused : Nat → Int32) : Option (Int32) :=
  bd1 (F_X8_in p1.toInt64 (0 : Int64) (2 : Int64)) (fun r_1 => if r_1 = (0 : Int32) then some (-1 : Int32) else ixF p1 3 (some (c_refused p1.toNatClampNeg)))
abbrev w_X8_status (E : EE) (a_ a_tape a_readPlace a_script a_scriptLong a_now a_refused a_shareX a_shareY a_askedRow a_kept a_aside a_spelled a_image : Nat) (c_thrown : Int32) (c_taped : Int32) (c_at : Int32) (c_part : Int32) (c_partFrom : Int32) (c_partNumber : Int32) (c_wrong : Int32) (c_partWord : Int64) (c_readLaw : Int32) (c_readBound : Int32) (c_readGoal : Int32) (c_readSites : Int32) (c_scripts : Int32) (c_sites : Int32) (c_asked : Int32) (c_outcome : Int32) (c_took : Int32) (c_acts : Int32) (c_drawn : Int64) (c_racer : Int32) (c_raced : Int32) (c_spelledMany : Int32) (c_hasImage : Int32) (c_refused : Nat → Int32) : va_W := [(a_, .inr (9, [.int c_thrown, .ref a_tape, .int c_taped, .int c_at, .int c_part, .int c_partFrom, .int c_partNumber, .int c_wrong, .long c_partWord, .int c_readLaw, .int c_readBound, .int c_readGoal, .int c_readSites, .ref a_readPlace, .ref a_script, .ref a_scriptLong, .int c_scripts, .ref a_now, .ref a_refused, .int c_sites, .ref a_shareX, .ref a_shareY, .int c_asked, .int c_outcome, .ref a_askedRow, .int c_took, .ref a_kept, .int c_acts, .long c_drawn, .ref a_aside, .int c_racer, .int c_raced, .ref a_spelled, .int c_spelledMany, .ref a_image, .int c_hasImage])), (a_refused, .inl (E.2.1, 3, .inl c_refused))]
def v_f_X8_status : List Cond := .code yX8_status cX8_status 2 (some .int) :: ([.constantLong RX8 373 (2), .fieldLink RX8 25 "HushWatchModel" "refused" "[I", .methodLink RX8 60 yX8_in, .static yX8_in, .initialized RX8] ++ (v_f_X8_in ++ (wsX80 ++ ([]))))
theorem gw_f_X8_status : v_f_X8_status.all goodWord = true := by decide +kernel
theorem i_f_X8_status_X8 : ∀ w ∈ wsX80, w ∈ v_f_X8_status := fun _ h => List.mem_cons_of_mem _ (List.mem_append_right _ (List.mem_append_right _ (List.mem_append_left _ h)))
theorem g_f_X8_status_f_X8_in_60 : GoodIn v_f_X8_status (va_wsS RX8 60 yX8_in v_f_X8_in) := goodIn_app (goodIn_of _ (by decide +kernel)) (goodIn_sub (fun _ h => List.mem_cons_of_mem _ (List.mem_append_right _ (List.mem_append_left _ h))) gw_f_X8_in)
set_option maxHeartbeats 4000000 in
set_option maxRecDepth 100000 in
theorem f_X8_status (l : Launch) (E : EE) {a_ a_tape a_readPlace a_script a_scriptLong a_now a_refused a_shareX a_shareY a_askedRow a_kept a_aside a_spelled a_image : Nat} {p1 : Int32} {c_thrown : Int32} {c_taped : Int32} {c_at : Int32} {c_part : Int32} {c_partFrom : Int32} {c_partNumber : Int32} {c_wrong : Int32} {c_partWord : Int64} {c_readLaw : Int32} {c_readBound : Int32} {c_readGoal : Int32} {c_readSites : Int32} {c_scripts : Int32} {c_sites : Int32} {c_asked : Int32} {c_outcome : Int32} {c_took : Int32} {c_acts : Int32} {c_drawn : Int64} {c_racer : Int32} {c_raced : Int32} {c_spelledMany : Int32} {c_hasImage : Int32} {c_refused : Nat → Int32} {rr : Int32} (hF : F_X8_status p1 c_refused = some rr) : Met l yX8_status v_f_X8_status (({ frames := 1, cells := 0, slots := 0, locals := 25 } : Room)) (va_Pc [.ref a_, .int p1] (pP E (w_X8_status E a_ a_tape a_readPlace a_script a_scriptLong a_now a_refused a_shareX a_shareY a_askedRow a_kept a_aside a_spelled a_image c_thrown c_taped c_at c_part c_partFrom c_partNumber c_wrong c_partWord c_readLaw c_readBound c_readGoal c_readSites c_scripts c_sites c_asked c_outcome c_took c_acts c_drawn c_racer c_raced c_spelledMany c_hasImage c_refused))) (vp_Si (fun q : Int32 => q = rr)) 0 0 (fun _ => False) := by
  refine Met.ofW (cc := cX8_status) (maxL := 2) (ret := (some .int)) (by decide) rfl ?_
  intro p e s m args below meth c s₁ B hml hv
  obtain ⟨rfl, ⟨hK, hN⟩, hP⟩ := hv
  have hx := B.exec
  have hb := B.bytes
  have hr := B.returns
  have hts := atoms_spec (ws := v_f_X8_status) B.pre
  have hown : s.vm.findClass RX8 = some m.cls := findClass_of_methodNamed B.named
  have hlocks : meth.locks = false := B.notSynchronized
  replace hP : va_P E.1 vwCl [(a_, .inr (9, [.int c_thrown, .ref a_tape, .int c_taped, .int c_at, .int c_part, .int c_partFrom, .int c_partNumber, .int c_wrong, .long c_partWord, .int c_readLaw, .int c_readBound, .int c_readGoal, .int c_readSites, .ref a_readPlace, .ref a_script, .ref a_scriptLong, .int c_scripts, .ref a_now, .ref a_refused, .int c_sites, .ref a_shareX, .ref a_shareY, .int c_asked, .int c_outcome, .ref a_askedRow, .int c_took, .ref a_kept, .int c_acts, .long c_drawn, .ref a_aside, .int c_racer, .int c_raced, .ref a_spelled, .int c_spelledMany, .ref a_image, .int c_hasImage])), (a_refused, .inl (E.2.1, 3, .inl c_refused))] s.heap := hP
  have hl := lv_entry ([.ref a_, .int p1]) (n := 2) (Nat.le_of_ble_eq_true rfl)
  rw [lg_entry_eq]
  generalize (lg_sl ([.ref a_, .int p1]) ++ List.replicate (2 - (lg_sl ([.ref a_, .int p1])).length) Slot.unset).toArray = ls at hl ⊢
  have hl : lv_has ls 2 [(0, .ref a_), (1, .int p1)] := hl
  obtain ⟨Q, hQ⟩ : ∃ Q : State → Prop, Q = MQ below (vp_Si (fun q : Int32 => q = rr)) #[Value.ref a_, Value.int p1] s 0 0 (fun _ => False) := ⟨_, rfl⟩
  rw [← hQ]
  change W p l e ({ frames := 1, cells := 0, slots := 0, locals := 25 } : Room) s m #[Value.ref a_, Value.int p1] below meth c s.heap [] 0 0 Q (F0 m 0 ls [])
  unfold F_X8_status at hF
  refine lv_iload_n hx hb dX8_status_0 rfl (lv_at hl 1 rfl) ?_
  refine lv_i2l (v := p1.toInt64) hx hb dX8_status_1 rfl ?_
  refine lv_lconst (v := 0) hx hb dX8_status_2 (by decide) ?_
  refine lv_ldc2 (v := 2) hx hb hown (hts (.constantLong RX8 373 (2)) (List.mem_of_getElem? (i := 1) rfl)) dX8_status_3 ?_
  replace hF := bd1_s hF
  obtain ⟨r_1, hc_2, hF⟩ := hF
  have hPc : va_P E.1 vwCl [] s.heap := fun k q h => by simp at h
  refine pE_z (va_runS (As := [.long p1.toInt64, .long (0 : Int64), .long (2 : Int64)]) (rest := [])  ⟨hx, hb, hml, hown, hts⟩ (f_X8_in l E (p0 := p1.toInt64) (p1 := (0 : Int64)) (p2 := (2 : Int64)) hc_2) (va_cwS 3 hts g_f_X8_status_f_X8_in_60 rfl rfl rfl (by decide +kernel) ⟨Nat.le_of_ble_eq_true rfl, Nat.le_of_ble_eq_true rfl⟩) ⟨pP.blind, (pP.pre ⟨hK, hN⟩ hPc)⟩ rfl rfl hl.1 rfl (lv_room (Nat.le_of_ble_eq_true rfl)) dX8_status_6 ⟨Nat.le_of_ble_eq_true rfl, Nat.le_of_ble_eq_true rfl⟩) (fun hb_3 => ?_)
  refine lv_if_eq (tgt := 21) hx hb dX8_status_9 (by decide) (fun c_4 => ?_) (fun c_4 => ?_)
  ·
    replace hF := ip c_4 hF
    refine lv_iconst (v := -1) hx hb dX8_status_21 (by decide) ?_
    rw [hQ]
    obtain e9_0 := inj1 hF
    exact W.iret (v := (-1 : Int32)) hx hb hr (fun tt ht hW => ⟨_, rfl, e9_0, ht⟩) (fun _ h => by cases h) dX8_status_22
  ·
    replace hF := inn c_4 hF
    refine lv_aload_n hx hb dX8_status_12 rfl (lv_at hl 0 rfl) ?_
    refine va_get (D := E.1) (ci := 9) (v := .ref a_refused) (C := RX8) (T := TX8) (N := 36) hx hb hts i_f_X8_status_X8 hown hK hP 0 rfl rfl 18 (by decide) (hts (.fieldLink RX8 25 "HushWatchModel" "refused" "[I") (List.mem_of_getElem? (i := 2) rfl)) (fun _ h9 => h9) rfl dX8_status_13 ?_
    refine lv_iload_n hx hb dX8_status_16 rfl (lv_at hl 1 rfl) ?_
    replace hF := ix_s hF
    obtain ⟨hi_5, hF⟩ := hF
    refine va_iald hx hb hK hP 1 0 rfl rfl hi_5 dX8_status_17 ?_
    refine lv_goto (tgt := 22) hx hb dX8_status_18 (by decide) ?_
    rw [hQ]
    obtain e9_0 := inj1 hF
    exact W.iret (v := c_refused p1.toNatClampNeg) hx hb hr (fun tt ht hW => ⟨_, rfl, e9_0, ht⟩) (fun _ h => by cases h) dX8_status_22

def F_X8_step_ (p1 : Int32) (p2 : Int32) (p3 : Int32) (c_script : Nat → Int32) (c_scriptLong : Nat → Int32) (c_scripts : Int32) : Option (Int32) :=
  bd1 (F_X8_isScript p1 c_scripts) (fun r_1 => if r_1 = (0 : Int32) then some (-100000000 : Int32) else ixF p1 5 (bd1 (F_X8_in p2.toInt64 (0 : Int64) (((c_scriptLong p1.toNatClampNeg) - (1 : Int32)).toInt64)) (fun r_6 => if r_6 = (0 : Int32) then some (-100000000 : Int32) else bd1 (F_X8_in p3.toInt64 (0 : Int64) (3 : Int64)) (fun r_10 => if r_10 = (0 : Int32) then some (-100000000 : Int32) else ixF (((4 : Int32) * (((12 : Int32) * p1) + p2)) + p3) 240 (some (c_script (((4 : Int32) * (((12 : Int32) * p1) + p2)) + p3).toNatClampNeg))))))
abbrev w_X8_step_ (E : EE) (a_ a_tape a_readPlace a_script a_scriptLong a_now a_refused a_shareX a_shareY a_askedRow a_kept a_aside a_spelled a_image : Nat) (c_thrown : Int32) (c_taped : Int32) (c_at : Int32) (c_part : Int32) (c_partFrom : Int32) (c_partNumber : Int32) (c_wrong : Int32) (c_partWord : Int64) (c_readLaw : Int32) (c_readBound : Int32) (c_readGoal : Int32) (c_readSites : Int32) (c_scripts : Int32) (c_sites : Int32) (c_asked : Int32) (c_outcome : Int32) (c_took : Int32) (c_acts : Int32) (c_drawn : Int64) (c_racer : Int32) (c_raced : Int32) (c_spelledMany : Int32) (c_hasImage : Int32) (c_script : Nat → Int32) (c_scriptLong : Nat → Int32) : va_W := [(a_, .inr (9, [.int c_thrown, .ref a_tape, .int c_taped, .int c_at, .int c_part, .int c_partFrom, .int c_partNumber, .int c_wrong, .long c_partWord, .int c_readLaw, .int c_readBound, .int c_readGoal, .int c_readSites, .ref a_readPlace, .ref a_script, .ref a_scriptLong, .int c_scripts, .ref a_now, .ref a_refused, .int c_sites, .ref a_shareX, .ref a_shareY, .int c_asked, .int c_outcome, .ref a_askedRow, .int c_took, .ref a_kept, .int c_acts, .long c_drawn, .ref a_aside, .int c_racer, .int c_raced, .ref a_spelled, .int c_spelledMany, .ref a_image, .int c_hasImage])), (a_script, .inl (E.2.1, 240, .inl c_script)), (a_scriptLong, .inl (E.2.1, 5, .inl c_scriptLong))]
def v_f_X8_step_ : List Cond := .code yX8_step_ cX8_step_ 4 (some .int) :: ([.constant RX8 182 (-100000000), .fieldLink RX8 19 "HushWatchModel" "scriptLong" "[I", .constantLong RX8 375 (3), .fieldLink RX8 16 "HushWatchModel" "script" "[I", .methodLink RX8 432 yX8_isScript, .instanceMethod yX8_isScript, .selects RX8 yX8_isScript yX8_isScript, .initialized RX8, .methodLink RX8 60 yX8_in, .static yX8_in] ++ (v_f_X8_isScript ++ (wsX80 ++ (v_f_X8_in ++ ([])))))
theorem gw_f_X8_step_ : v_f_X8_step_.all goodWord = true := by decide +kernel
theorem i_f_X8_step__X8 : ∀ w ∈ wsX80, w ∈ v_f_X8_step_ := fun _ h => List.mem_cons_of_mem _ (List.mem_append_right _ (List.mem_append_right _ (List.mem_append_left _ h)))
theorem g_f_X8_step__f_X8_isScript_432 : GoodIn v_f_X8_step_ (wsV RX8 432 RX8 yX8_isScript v_f_X8_isScript) := goodIn_app (goodIn_of _ (by decide +kernel)) (goodIn_sub (fun _ h => List.mem_cons_of_mem _ (List.mem_append_right _ (List.mem_append_left _ h))) gw_f_X8_isScript)
theorem g_f_X8_step__f_X8_in_60 : GoodIn v_f_X8_step_ (va_wsS RX8 60 yX8_in v_f_X8_in) := goodIn_app (goodIn_of _ (by decide +kernel)) (goodIn_sub (fun _ h => List.mem_cons_of_mem _ (List.mem_append_right _ (List.mem_append_right _ (List.mem_append_right _ (List.mem_append_left _ h))))) gw_f_X8_in)
set_option maxHeartbeats 4000000 in
set_option maxRecDepth 100000 in
theorem f_X8_step_ (l : Launch) (E : EE) {a_ a_tape a_readPlace a_script a_scriptLong a_now a_refused a_shareX a_shareY a_askedRow a_kept a_aside a_spelled a_image : Nat} {p1 : Int32} {p2 : Int32} {p3 : Int32} {c_thrown : Int32} {c_taped : Int32} {c_at : Int32} {c_part : Int32} {c_partFrom : Int32} {c_partNumber : Int32} {c_wrong : Int32} {c_partWord : Int64} {c_readLaw : Int32} {c_readBound : Int32} {c_readGoal : Int32} {c_readSites : Int32} {c_scripts : Int32} {c_sites : Int32} {c_asked : Int32} {c_outcome : Int32} {c_took : Int32} {c_acts : Int32} {c_drawn : Int64} {c_racer : Int32} {c_raced : Int32} {c_spelledMany : Int32} {c_hasImage : Int32} {c_script : Nat → Int32} {c_scriptLong : Nat → Int32} {rr : Int32} (hF : F_X8_step_ p1 p2 p3 c_script c_scriptLong c_scripts = some rr) : Met l yX8_step_ v_f_X8_step_ (({ frames := 2, cells := 0, slots := 0, locals := 46 } : Room)) (va_Pc [.ref a_, .int p1, .int p2, .int p3] (pP E (w_X8_step_ E a_ a_tape a_readPlace a_script a_scriptLong a_now a_refused a_shareX a_shareY a_askedRow a_kept a_aside a_spelled a_image c_thrown c_taped c_at c_part c_partFrom c_partNumber c_wrong c_partWord c_readLaw c_readBound c_readGoal c_readSites c_scripts c_sites c_asked c_outcome c_took c_acts c_drawn c_racer c_raced c_spelledMany c_hasImage c_script c_scriptLong))) (vp_Si (fun q : Int32 => q = rr)) 0 0 (fun _ => False) := by
  refine Met.ofW (cc := cX8_step_) (maxL := 4) (ret := (some .int)) (by decide) rfl ?_
  intro p e s m args below meth c s₁ B hml hv
  obtain ⟨rfl, ⟨hK, hN⟩, hP⟩ := hv
  have hx := B.exec
  have hb := B.bytes
  have hr := B.returns
  have hts := atoms_spec (ws := v_f_X8_step_) B.pre
  have hown : s.vm.findClass RX8 = some m.cls := findClass_of_methodNamed B.named
  have hlocks : meth.locks = false := B.notSynchronized
  replace hP : va_P E.1 vwCl [(a_, .inr (9, [.int c_thrown, .ref a_tape, .int c_taped, .int c_at, .int c_part, .int c_partFrom, .int c_partNumber, .int c_wrong, .long c_partWord, .int c_readLaw, .int c_readBound, .int c_readGoal, .int c_readSites, .ref a_readPlace, .ref a_script, .ref a_scriptLong, .int c_scripts, .ref a_now, .ref a_refused, .int c_sites, .ref a_shareX, .ref a_shareY, .int c_asked, .int c_outcome, .ref a_askedRow, .int c_took, .ref a_kept, .int c_acts, .long c_drawn, .ref a_aside, .int c_racer, .int c_raced, .ref a_spelled, .int c_spelledMany, .ref a_image, .int c_hasImage])), (a_script, .inl (E.2.1, 240, .inl c_script)), (a_scriptLong, .inl (E.2.1, 5, .inl c_scriptLong))] s.heap := hP
  have hl := lv_entry ([.ref a_, .int p1, .int p2, .int p3]) (n := 4) (Nat.le_of_ble_eq_true rfl)
  rw [lg_entry_eq]
  generalize (lg_sl ([.ref a_, .int p1, .int p2, .int p3]) ++ List.replicate (4 - (lg_sl ([.ref a_, .int p1, .int p2, .int p3])).length) Slot.unset).toArray = ls at hl ⊢
  have hl : lv_has ls 4 [(0, .ref a_), (1, .int p1), (2, .int p2), (3, .int p3)] := hl
  obtain ⟨Q, hQ⟩ : ∃ Q : State → Prop, Q = MQ below (vp_Si (fun q : Int32 => q = rr)) #[Value.ref a_, Value.int p1, Value.int p2, Value.int p3] s 0 0 (fun _ => False) := ⟨_, rfl⟩
  rw [← hQ]
  change W p l e ({ frames := 2, cells := 0, slots := 0, locals := 46 } : Room) s m #[Value.ref a_, Value.int p1, Value.int p2, Value.int p3] below meth c s.heap [] 0 0 Q (F0 m 0 ls [])
  unfold F_X8_step_ at hF
  refine lv_aload_n hx hb dX8_step__0 rfl (lv_at hl 0 rfl) ?_
  refine lv_iload_n hx hb dX8_step__1 rfl (lv_at hl 1 rfl) ?_
  replace hF := bd1_s hF
  obtain ⟨r_1, hc_2, hF⟩ := hF
  have hPc : va_P E.1 vwCl (w_X8_isScript E a_ a_tape a_readPlace a_script a_scriptLong a_now a_refused a_shareX a_shareY a_askedRow a_kept a_aside a_spelled a_image c_thrown c_taped c_at c_part c_partFrom c_partNumber c_wrong c_partWord c_readLaw c_readBound c_readGoal c_readSites c_scripts c_sites c_asked c_outcome c_took c_acts c_drawn c_racer c_raced c_spelledMany c_hasImage) s.heap := hP.sub (ws' := [(a_, .inr (9, [.int c_thrown, .ref a_tape, .int c_taped, .int c_at, .int c_part, .int c_partFrom, .int c_partNumber, .int c_wrong, .long c_partWord, .int c_readLaw, .int c_readBound, .int c_readGoal, .int c_readSites, .ref a_readPlace, .ref a_script, .ref a_scriptLong, .int c_scripts, .ref a_now, .ref a_refused, .int c_sites, .ref a_shareX, .ref a_shareY, .int c_asked, .int c_outcome, .ref a_askedRow, .int c_took, .ref a_kept, .int c_acts, .long c_drawn, .ref a_aside, .int c_racer, .int c_raced, .ref a_spelled, .int c_spelledMany, .ref a_image, .int c_hasImage]))]) [0] rfl
  refine pE_z (va_runV (As := [.int p1]) (rest := [])  ⟨hx, hb, hml, hown, hts⟩ (f_X8_isScript l E (a_ := a_) (a_tape := a_tape) (a_readPlace := a_readPlace) (a_script := a_script) (a_scriptLong := a_scriptLong) (a_now := a_now) (a_refused := a_refused) (a_shareX := a_shareX) (a_shareY := a_shareY) (a_askedRow := a_askedRow) (a_kept := a_kept) (a_aside := a_aside) (a_spelled := a_spelled) (a_image := a_image) (p1 := p1) (c_thrown := c_thrown) (c_taped := c_taped) (c_at := c_at) (c_part := c_part) (c_partFrom := c_partFrom) (c_partNumber := c_partNumber) (c_wrong := c_wrong) (c_partWord := c_partWord) (c_readLaw := c_readLaw) (c_readBound := c_readBound) (c_readGoal := c_readGoal) (c_readSites := c_readSites) (c_scripts := c_scripts) (c_sites := c_sites) (c_asked := c_asked) (c_outcome := c_outcome) (c_took := c_took) (c_acts := c_acts) (c_drawn := c_drawn) (c_racer := c_racer) (c_raced := c_raced) (c_spelledMany := c_spelledMany) (c_hasImage := c_hasImage) hc_2) (cwV 1 hts g_f_X8_step__f_X8_isScript_432 rfl rfl rfl (by decide +kernel) ⟨Nat.le_of_ble_eq_true rfl, Nat.le_of_ble_eq_true rfl⟩) ⟨pP.blind, va_recv hK hPc (ci := 9) (q0 := 0) rfl rfl, (pP.pre ⟨hK, hN⟩ hPc)⟩ rfl rfl hl.1 rfl (lv_room (Nat.le_of_ble_eq_true rfl)) dX8_step__2 ⟨Nat.le_of_ble_eq_true rfl, Nat.le_of_ble_eq_true rfl⟩) (fun hb_3 => ?_)
  refine lv_if_eq (tgt := 56) hx hb dX8_step__5 (by decide) (fun c_4 => ?_) (fun c_4 => ?_)
  ·
    replace hF := ip c_4 hF
    refine lv_ldc (v := -100000000) hx hb hown (hts (.constant RX8 182 (-100000000)) (List.mem_of_getElem? (i := 1) rfl)) dX8_step__56 ?_
    rw [hQ]
    obtain e9_0 := inj1 hF
    exact W.iret (v := (-100000000 : Int32)) hx hb hr (fun tt ht hW => ⟨_, rfl, e9_0, ht⟩) (fun _ h => by cases h) dX8_step__58
  ·
    replace hF := inn c_4 hF
    refine lv_iload_n hx hb dX8_step__8 rfl (lv_at hl 2 rfl) ?_
    refine lv_i2l (v := p2.toInt64) hx hb dX8_step__9 rfl ?_
    refine lv_lconst (v := 0) hx hb dX8_step__10 (by decide) ?_
    refine lv_aload_n hx hb dX8_step__11 rfl (lv_at hl 0 rfl) ?_
    refine va_get (D := E.1) (ci := 9) (v := .ref a_scriptLong) (C := RX8) (T := TX8) (N := 36) hx hb hts i_f_X8_step__X8 hown hK hP 0 rfl rfl 15 (by decide) (hts (.fieldLink RX8 19 "HushWatchModel" "scriptLong" "[I") (List.mem_of_getElem? (i := 2) rfl)) (fun _ h9 => h9) rfl dX8_step__12 ?_
    refine lv_iload_n hx hb dX8_step__15 rfl (lv_at hl 1 rfl) ?_
    replace hF := ix_s hF
    obtain ⟨hi_5, hF⟩ := hF
    refine va_iald hx hb hK hP 2 0 rfl rfl hi_5 dX8_step__16 ?_
    refine lv_iconst (v := 1) hx hb dX8_step__17 (by decide) ?_
    refine lv_isub hx hb dX8_step__18 ?_
    refine lv_i2l (v := ((c_scriptLong p1.toNatClampNeg) - (1 : Int32)).toInt64) hx hb dX8_step__19 rfl ?_
    replace hF := bd1_s hF
    obtain ⟨r_6, hc_7, hF⟩ := hF
    have hPc : va_P E.1 vwCl [] s.heap := fun k q h => by simp at h
    refine pE_z (va_runS (As := [.long p2.toInt64, .long (0 : Int64), .long (((c_scriptLong p1.toNatClampNeg) - (1 : Int32)).toInt64)]) (rest := [])  ⟨hx, hb, hml, hown, hts⟩ (f_X8_in l E (p0 := p2.toInt64) (p1 := (0 : Int64)) (p2 := ((c_scriptLong p1.toNatClampNeg) - (1 : Int32)).toInt64) hc_7) (va_cwS 3 hts g_f_X8_step__f_X8_in_60 rfl rfl rfl (by decide +kernel) ⟨Nat.le_of_ble_eq_true rfl, Nat.le_of_ble_eq_true rfl⟩) ⟨pP.blind, (pP.pre ⟨hK, hN⟩ hPc)⟩ rfl rfl hl.1 rfl (lv_room (Nat.le_of_ble_eq_true rfl)) dX8_step__20 ⟨Nat.le_of_ble_eq_true rfl, Nat.le_of_ble_eq_true rfl⟩) (fun hb_8 => ?_)
    refine lv_if_eq (tgt := 56) hx hb dX8_step__23 (by decide) (fun c_9 => ?_) (fun c_9 => ?_)
    ·
      replace hF := ip c_9 hF
      refine lv_ldc (v := -100000000) hx hb hown (hts (.constant RX8 182 (-100000000)) (List.mem_of_getElem? (i := 1) rfl)) dX8_step__56 ?_
      rw [hQ]
      obtain e9_0 := inj1 hF
      exact W.iret (v := (-100000000 : Int32)) hx hb hr (fun tt ht hW => ⟨_, rfl, e9_0, ht⟩) (fun _ h => by cases h) dX8_step__58
    ·
      replace hF := inn c_9 hF
      refine lv_iload_n hx hb dX8_step__26 rfl (lv_at hl 3 rfl) ?_
      refine lv_i2l (v := p3.toInt64) hx hb dX8_step__27 rfl ?_
      refine lv_lconst (v := 0) hx hb dX8_step__28 (by decide) ?_
      refine lv_ldc2 (v := 3) hx hb hown (hts (.constantLong RX8 375 (3)) (List.mem_of_getElem? (i := 3) rfl)) dX8_step__29 ?_
      replace hF := bd1_s hF
      obtain ⟨r_10, hc_11, hF⟩ := hF
      have hPc : va_P E.1 vwCl [] s.heap := fun k q h => by simp at h
      refine pE_z (va_runS (As := [.long p3.toInt64, .long (0 : Int64), .long (3 : Int64)]) (rest := [])  ⟨hx, hb, hml, hown, hts⟩ (f_X8_in l E (p0 := p3.toInt64) (p1 := (0 : Int64)) (p2 := (3 : Int64)) hc_11) (va_cwS 3 hts g_f_X8_step__f_X8_in_60 rfl rfl rfl (by decide +kernel) ⟨Nat.le_of_ble_eq_true rfl, Nat.le_of_ble_eq_true rfl⟩) ⟨pP.blind, (pP.pre ⟨hK, hN⟩ hPc)⟩ rfl rfl hl.1 rfl (lv_room (Nat.le_of_ble_eq_true rfl)) dX8_step__32 ⟨Nat.le_of_ble_eq_true rfl, Nat.le_of_ble_eq_true rfl⟩) (fun hb_12 => ?_)
      refine lv_if_eq (tgt := 56) hx hb dX8_step__35 (by decide) (fun c_13 => ?_) (fun c_13 => ?_)
      ·
        replace hF := ip c_13 hF
        refine lv_ldc (v := -100000000) hx hb hown (hts (.constant RX8 182 (-100000000)) (List.mem_of_getElem? (i := 1) rfl)) dX8_step__56 ?_
        rw [hQ]
        obtain e9_0 := inj1 hF
        exact W.iret (v := (-100000000 : Int32)) hx hb hr (fun tt ht hW => ⟨_, rfl, e9_0, ht⟩) (fun _ h => by cases h) dX8_step__58
      ·
        replace hF := inn c_13 hF
        refine lv_aload_n hx hb dX8_step__38 rfl (lv_at hl 0 rfl) ?_
        refine va_get (D := E.1) (ci := 9) (v := .ref a_script) (C := RX8) (T := TX8) (N := 36) hx hb hts i_f_X8_step__X8 hown hK hP 0 rfl rfl 14 (by decide) (hts (.fieldLink RX8 16 "HushWatchModel" "script" "[I") (List.mem_of_getElem? (i := 4) rfl)) (fun _ h9 => h9) rfl dX8_step__39 ?_
        refine lv_iconst (v := 4) hx hb dX8_step__42 (by decide) ?_
        refine lv_bipush (v := 12) hx hb dX8_step__43 (by decide) ?_
        refine lv_iload_n hx hb dX8_step__45 rfl (lv_at hl 1 rfl) ?_
        refine lv_imul hx hb dX8_step__46 ?_
        refine lv_iload_n hx hb dX8_step__47 rfl (lv_at hl 2 rfl) ?_
        refine lv_iadd hx hb dX8_step__48 ?_
        refine lv_imul hx hb dX8_step__49 ?_
        refine lv_iload_n hx hb dX8_step__50 rfl (lv_at hl 3 rfl) ?_
        refine lv_iadd hx hb dX8_step__51 ?_
        replace hF := ix_s hF
        obtain ⟨hi_14, hF⟩ := hF
        refine va_iald hx hb hK hP 1 0 rfl rfl hi_14 dX8_step__52 ?_
        refine lv_goto (tgt := 58) hx hb dX8_step__53 (by decide) ?_
        rw [hQ]
        obtain e9_0 := inj1 hF
        exact W.iret (v := c_script (((4 : Int32) * (((12 : Int32) * p1) + p2)) + p3).toNatClampNeg) hx hb hr (fun tt ht hW => ⟨_, rfl, e9_0, ht⟩) (fun _ h => by cases h) dX8_step__58

def F_X8_sync (K : Nat) (c_now : Nat → Int32) (c_refused : Nat → Int32) (c_sites : Int32) (c_shareX : Nat → Int32) (c_shareY : Nat → Int32) (c_asked : Int32) (c_outcome : Int32) (c_askedRow : Nat → Int32) (c_took : Int32) (c_kept : Nat → Int32) (c_acts : Int32) : Option (Int32 × (Nat → Int32) × (Nat → Int32) × (Nat → Int32) × (Nat → Int32) × Int32 × Int32 × (Nat → Int32) × Int32 × (Nat → Int32) × Int32) :=
  bd11 (F_X8_hand K (-1 : Int32) (1 : Int32) (0 : Int32) (0 : Int32) (0 : Int32) c_now c_refused c_sites c_shareX c_shareY c_asked c_outcome c_askedRow c_took c_kept c_acts) (fun r_1 w_2 w_3 w_4 w_5 w_6 w_7 w_8 w_9 w_10 w_11 => some (r_1, w_2, w_3, w_4, w_5, w_6, w_7, w_8, w_9, w_10, w_11))
abbrev w_X8_sync (E : EE) (a_ a_tape a_readPlace a_script a_scriptLong a_now a_refused a_shareX a_shareY a_askedRow a_kept a_aside a_spelled a_image : Nat) (c_thrown : Int32) (c_taped : Int32) (c_at : Int32) (c_part : Int32) (c_partFrom : Int32) (c_partNumber : Int32) (c_wrong : Int32) (c_partWord : Int64) (c_readLaw : Int32) (c_readBound : Int32) (c_readGoal : Int32) (c_readSites : Int32) (c_scripts : Int32) (c_sites : Int32) (c_asked : Int32) (c_outcome : Int32) (c_took : Int32) (c_acts : Int32) (c_drawn : Int64) (c_racer : Int32) (c_raced : Int32) (c_spelledMany : Int32) (c_hasImage : Int32) (c_now : Nat → Int32) (c_refused : Nat → Int32) (c_shareX : Nat → Int32) (c_shareY : Nat → Int32) (c_askedRow : Nat → Int32) (c_kept : Nat → Int32) : va_W := [(a_, .inr (9, [.int c_thrown, .ref a_tape, .int c_taped, .int c_at, .int c_part, .int c_partFrom, .int c_partNumber, .int c_wrong, .long c_partWord, .int c_readLaw, .int c_readBound, .int c_readGoal, .int c_readSites, .ref a_readPlace, .ref a_script, .ref a_scriptLong, .int c_scripts, .ref a_now, .ref a_refused, .int c_sites, .ref a_shareX, .ref a_shareY, .int c_asked, .int c_outcome, .ref a_askedRow, .int c_took, .ref a_kept, .int c_acts, .long c_drawn, .ref a_aside, .int c_racer, .int c_raced, .ref a_spelled, .int c_spelledMany, .ref a_image, .int c_hasImage])), (a_now, .inl (E.2.1, 265, .inl c_now)), (a_refused, .inl (E.2.1, 3, .inl c_refused)), (a_shareX, .inl (E.2.1, 8, .inl c_shareX)), (a_shareY, .inl (E.2.1, 8, .inl c_shareY)), (a_askedRow, .inl (E.2.1, 8, .inl c_askedRow)), (a_kept, .inl (E.2.1, 10600, .inl c_kept))]
def v_f_X8_sync : List Cond := .code yX8_sync cX8_sync 1 (some .int) :: ([.methodLink RX8 350 yX8_hand, .instanceMethod yX8_hand, .selects RX8 yX8_hand yX8_hand, .initialized RX8] ++ (v_f_X8_hand ++ ([])))
theorem gw_f_X8_sync : v_f_X8_sync.all goodWord = true := by decide +kernel
theorem g_f_X8_sync_f_X8_hand_350 : GoodIn v_f_X8_sync (wsV RX8 350 RX8 yX8_hand v_f_X8_hand) := goodIn_app (goodIn_of _ (by decide +kernel)) (goodIn_sub (fun _ h => List.mem_cons_of_mem _ (List.mem_append_right _ (List.mem_append_left _ h))) gw_f_X8_hand)
set_option maxHeartbeats 4000000 in
set_option maxRecDepth 100000 in
theorem f_X8_sync (l : Launch) (E : EE) (sz : Nat) (K : Nat) {a_ a_tape a_readPlace a_script a_scriptLong a_now a_refused a_shareX a_shareY a_askedRow a_kept a_aside a_spelled a_image : Nat} {c_thrown : Int32} {c_taped : Int32} {c_at : Int32} {c_part : Int32} {c_partFrom : Int32} {c_partNumber : Int32} {c_wrong : Int32} {c_partWord : Int64} {c_readLaw : Int32} {c_readBound : Int32} {c_readGoal : Int32} {c_readSites : Int32} {c_scripts : Int32} {c_sites : Int32} {c_asked : Int32} {c_outcome : Int32} {c_took : Int32} {c_acts : Int32} {c_drawn : Int64} {c_racer : Int32} {c_raced : Int32} {c_spelledMany : Int32} {c_hasImage : Int32} {c_now : Nat → Int32} {c_refused : Nat → Int32} {c_shareX : Nat → Int32} {c_shareY : Nat → Int32} {c_askedRow : Nat → Int32} {c_kept : Nat → Int32} {rr : Int32} {n_now : Nat → Int32} {n_refused : Nat → Int32} {n_shareX : Nat → Int32} {n_shareY : Nat → Int32} {n_asked : Int32} {n_outcome : Int32} {n_askedRow : Nat → Int32} {n_took : Int32} {n_kept : Nat → Int32} {n_acts : Int32} (hF : F_X8_sync K c_now c_refused c_sites c_shareX c_shareY c_asked c_outcome c_askedRow c_took c_kept c_acts = some (rr, n_now, n_refused, n_shareX, n_shareY, n_asked, n_outcome, n_askedRow, n_took, n_kept, n_acts)) : Met l yX8_sync v_f_X8_sync (({ frames := 10, cells := 0, slots := 0, locals := 241 } : Room)) (va_Pc [.ref a_] (pW E sz (w_X8_sync E a_ a_tape a_readPlace a_script a_scriptLong a_now a_refused a_shareX a_shareY a_askedRow a_kept a_aside a_spelled a_image c_thrown c_taped c_at c_part c_partFrom c_partNumber c_wrong c_partWord c_readLaw c_readBound c_readGoal c_readSites c_scripts c_sites c_asked c_outcome c_took c_acts c_drawn c_racer c_raced c_spelledMany c_hasImage c_now c_refused c_shareX c_shareY c_askedRow c_kept))) (va_Qi (fun (q : Int32) (_u : Unit) => q = rr) (fun (_u : Unit) tt => va_P E.1 vwCl (w_X8_sync E a_ a_tape a_readPlace a_script a_scriptLong a_now a_refused a_shareX a_shareY a_askedRow a_kept a_aside a_spelled a_image c_thrown c_taped c_at c_part c_partFrom c_partNumber c_wrong c_partWord c_readLaw c_readBound c_readGoal c_readSites c_scripts c_sites n_asked n_outcome n_took n_acts c_drawn c_racer c_raced c_spelledMany c_hasImage n_now n_refused n_shareX n_shareY n_askedRow n_kept) tt.heap ∧ va_D (va_A (w_X8_sync E a_ a_tape a_readPlace a_script a_scriptLong a_now a_refused a_shareX a_shareY a_askedRow a_kept a_aside a_spelled a_image c_thrown c_taped c_at c_part c_partFrom c_partNumber c_wrong c_partWord c_readLaw c_readBound c_readGoal c_readSites c_scripts c_sites c_asked c_outcome c_took c_acts c_drawn c_racer c_raced c_spelledMany c_hasImage c_now c_refused c_shareX c_shareY c_askedRow c_kept) sz) (w_X8_sync E a_ a_tape a_readPlace a_script a_scriptLong a_now a_refused a_shareX a_shareY a_askedRow a_kept a_aside a_spelled a_image c_thrown c_taped c_at c_part c_partFrom c_partNumber c_wrong c_partWord c_readLaw c_readBound c_readGoal c_readSites c_scripts c_sites n_asked n_outcome n_took n_acts c_drawn c_racer c_raced c_spelledMany c_hasImage n_now n_refused n_shareX n_shareY n_askedRow n_kept)) (va_A (w_X8_sync E a_ a_tape a_readPlace a_script a_scriptLong a_now a_refused a_shareX a_shareY a_askedRow a_kept a_aside a_spelled a_image c_thrown c_taped c_at c_part c_partFrom c_partNumber c_wrong c_partWord c_readLaw c_readBound c_readGoal c_readSites c_scripts c_sites c_asked c_outcome c_took c_acts c_drawn c_racer c_raced c_spelledMany c_hasImage c_now c_refused c_shareX c_shareY c_askedRow c_kept) sz)) 0 0 (va_A (w_X8_sync E a_ a_tape a_readPlace a_script a_scriptLong a_now a_refused a_shareX a_shareY a_askedRow a_kept a_aside a_spelled a_image c_thrown c_taped c_at c_part c_partFrom c_partNumber c_wrong c_partWord c_readLaw c_readBound c_readGoal c_readSites c_scripts c_sites c_asked c_outcome c_took c_acts c_drawn c_racer c_raced c_spelledMany c_hasImage c_now c_refused c_shareX c_shareY c_askedRow c_kept) sz) := by
  refine Met.ofW (cc := cX8_sync) (maxL := 1) (ret := (some .int)) (by decide) rfl ?_
  intro p e s m args below meth c s₁ B hml hv
  obtain ⟨rfl, hsz, ⟨hK, hN⟩, hP, hD0⟩ := hv
  have hx := B.exec
  have hb := B.bytes
  have hr := B.returns
  have hts := atoms_spec (ws := v_f_X8_sync) B.pre
  have hown : s.vm.findClass RX8 = some m.cls := findClass_of_methodNamed B.named
  have hlocks : meth.locks = false := B.notSynchronized
  subst hsz
  have hD := hD0.self (sz := s.heap.size)
  generalize hAe : va_A (w_X8_sync E a_ a_tape a_readPlace a_script a_scriptLong a_now a_refused a_shareX a_shareY a_askedRow a_kept a_aside a_spelled a_image c_thrown c_taped c_at c_part c_partFrom c_partNumber c_wrong c_partWord c_readLaw c_readBound c_readGoal c_readSites c_scripts c_sites c_asked c_outcome c_took c_acts c_drawn c_racer c_raced c_spelledMany c_hasImage c_now c_refused c_shareX c_shareY c_askedRow c_kept) s.heap.size = A at hD ⊢
  have hA : ∀ q : Nat, s.heap.size ≤ q → A q := fun q h => by rw [← hAe]; exact Or.inr h
  have hS : va_S A s.heap s.heap [] := va_S.rf
  have hl := lv_entry ([.ref a_]) (n := 1) (Nat.le_of_ble_eq_true rfl)
  rw [lg_entry_eq]
  generalize (lg_sl ([.ref a_]) ++ List.replicate (1 - (lg_sl ([.ref a_])).length) Slot.unset).toArray = ls at hl ⊢
  have hl : lv_has ls 1 [(0, .ref a_)] := hl
  obtain ⟨Q, hQ⟩ : ∃ Q : State → Prop, Q = MQ below (va_Qi (fun (q : Int32) (_u : Unit) => q = rr) (fun (_u : Unit) tt => va_P E.1 vwCl (w_X8_sync E a_ a_tape a_readPlace a_script a_scriptLong a_now a_refused a_shareX a_shareY a_askedRow a_kept a_aside a_spelled a_image c_thrown c_taped c_at c_part c_partFrom c_partNumber c_wrong c_partWord c_readLaw c_readBound c_readGoal c_readSites c_scripts c_sites n_asked n_outcome n_took n_acts c_drawn c_racer c_raced c_spelledMany c_hasImage n_now n_refused n_shareX n_shareY n_askedRow n_kept) tt.heap ∧ va_D A (w_X8_sync E a_ a_tape a_readPlace a_script a_scriptLong a_now a_refused a_shareX a_shareY a_askedRow a_kept a_aside a_spelled a_image c_thrown c_taped c_at c_part c_partFrom c_partNumber c_wrong c_partWord c_readLaw c_readBound c_readGoal c_readSites c_scripts c_sites n_asked n_outcome n_took n_acts c_drawn c_racer c_raced c_spelledMany c_hasImage n_now n_refused n_shareX n_shareY n_askedRow n_kept)) A) #[Value.ref a_] s 0 0 A := ⟨_, rfl⟩
  rw [← hQ]
  change W p l e ({ frames := 10, cells := 0, slots := 0, locals := 241 } : Room) s m #[Value.ref a_] below meth c s.heap [] 0 0 Q (F0 m 0 ls [])
  suffices hh9 : ∀ (H : Heap) (locs : List Loc), va_P E.1 vwCl (w_X8_sync E a_ a_tape a_readPlace a_script a_scriptLong a_now a_refused a_shareX a_shareY a_askedRow a_kept a_aside a_spelled a_image c_thrown c_taped c_at c_part c_partFrom c_partNumber c_wrong c_partWord c_readLaw c_readBound c_readGoal c_readSites c_scripts c_sites c_asked c_outcome c_took c_acts c_drawn c_racer c_raced c_spelledMany c_hasImage c_now c_refused c_shareX c_shareY c_askedRow c_kept) H → va_D A (w_X8_sync E a_ a_tape a_readPlace a_script a_scriptLong a_now a_refused a_shareX a_shareY a_askedRow a_kept a_aside a_spelled a_image c_thrown c_taped c_at c_part c_partFrom c_partNumber c_wrong c_partWord c_readLaw c_readBound c_readGoal c_readSites c_scripts c_sites c_asked c_outcome c_took c_acts c_drawn c_racer c_raced c_spelledMany c_hasImage c_now c_refused c_shareX c_shareY c_askedRow c_kept) → va_S A s.heap H locs → W p l e ({ frames := 10, cells := 0, slots := 0, locals := 241 } : Room) s m #[Value.ref a_] below meth c H locs 0 0 Q (F0 m 0 ls []) from hh9 s.heap [] hP hD hS
  clear hP hD hS
  intro H locs hP hD hS
  replace hP : va_P E.1 vwCl [(a_, .inr (9, [.int c_thrown, .ref a_tape, .int c_taped, .int c_at, .int c_part, .int c_partFrom, .int c_partNumber, .int c_wrong, .long c_partWord, .int c_readLaw, .int c_readBound, .int c_readGoal, .int c_readSites, .ref a_readPlace, .ref a_script, .ref a_scriptLong, .int c_scripts, .ref a_now, .ref a_refused, .int c_sites, .ref a_shareX, .ref a_shareY, .int c_asked, .int c_outcome, .ref a_askedRow, .int c_took, .ref a_kept, .int c_acts, .long c_drawn, .ref a_aside, .int c_racer, .int c_raced, .ref a_spelled, .int c_spelledMany, .ref a_image, .int c_hasImage])), (a_now, .inl (E.2.1, 265, .inl c_now)), (a_refused, .inl (E.2.1, 3, .inl c_refused)), (a_shareX, .inl (E.2.1, 8, .inl c_shareX)), (a_shareY, .inl (E.2.1, 8, .inl c_shareY)), (a_askedRow, .inl (E.2.1, 8, .inl c_askedRow)), (a_kept, .inl (E.2.1, 10600, .inl c_kept))] H := hP
  replace hD : va_D A [(a_, .inr (9, [.int c_thrown, .ref a_tape, .int c_taped, .int c_at, .int c_part, .int c_partFrom, .int c_partNumber, .int c_wrong, .long c_partWord, .int c_readLaw, .int c_readBound, .int c_readGoal, .int c_readSites, .ref a_readPlace, .ref a_script, .ref a_scriptLong, .int c_scripts, .ref a_now, .ref a_refused, .int c_sites, .ref a_shareX, .ref a_shareY, .int c_asked, .int c_outcome, .ref a_askedRow, .int c_took, .ref a_kept, .int c_acts, .long c_drawn, .ref a_aside, .int c_racer, .int c_raced, .ref a_spelled, .int c_spelledMany, .ref a_image, .int c_hasImage])), (a_now, .inl (E.2.1, 265, .inl c_now)), (a_refused, .inl (E.2.1, 3, .inl c_refused)), (a_shareX, .inl (E.2.1, 8, .inl c_shareX)), (a_shareY, .inl (E.2.1, 8, .inl c_shareY)), (a_askedRow, .inl (E.2.1, 8, .inl c_askedRow)), (a_kept, .inl (E.2.1, 10600, .inl c_kept))] := hD
  unfold F_X8_sync at hF
  refine lv_aload_n hx hb dX8_sync_0 rfl (lv_at hl 0 rfl) ?_
  refine lv_iconst (v := -1) hx hb dX8_sync_1 (by decide) ?_
  refine lv_iconst (v := 1) hx hb dX8_sync_2 (by decide) ?_
  refine lv_iconst (v := 0) hx hb dX8_sync_3 (by decide) ?_
  refine lv_iconst (v := 0) hx hb dX8_sync_4 (by decide) ?_
  refine lv_iconst (v := 0) hx hb dX8_sync_5 (by decide) ?_
  replace hF := bd11_s hF
  obtain ⟨r_1, w_2, w_3, w_4, w_5, w_6, w_7, w_8, w_9, w_10, w_11, hc_12, hF⟩ := hF
  have hPc : va_P E.1 vwCl (w_X8_hand E a_ a_tape a_readPlace a_script a_scriptLong a_now a_refused a_shareX a_shareY a_askedRow a_kept a_aside a_spelled a_image c_thrown c_taped c_at c_part c_partFrom c_partNumber c_wrong c_partWord c_readLaw c_readBound c_readGoal c_readSites c_scripts c_sites c_asked c_outcome c_took c_acts c_drawn c_racer c_raced c_spelledMany c_hasImage c_now c_refused c_shareX c_shareY c_askedRow c_kept) H := hP.sub (ws' := [(a_, .inr (9, [.int c_thrown, .ref a_tape, .int c_taped, .int c_at, .int c_part, .int c_partFrom, .int c_partNumber, .int c_wrong, .long c_partWord, .int c_readLaw, .int c_readBound, .int c_readGoal, .int c_readSites, .ref a_readPlace, .ref a_script, .ref a_scriptLong, .int c_scripts, .ref a_now, .ref a_refused, .int c_sites, .ref a_shareX, .ref a_shareY, .int c_asked, .int c_outcome, .ref a_askedRow, .int c_took, .ref a_kept, .int c_acts, .long c_drawn, .ref a_aside, .int c_racer, .int c_raced, .ref a_spelled, .int c_spelledMany, .ref a_image, .int c_hasImage])), (a_now, .inl (E.2.1, 265, .inl c_now)), (a_refused, .inl (E.2.1, 3, .inl c_refused)), (a_shareX, .inl (E.2.1, 8, .inl c_shareX)), (a_shareY, .inl (E.2.1, 8, .inl c_shareY)), (a_askedRow, .inl (E.2.1, 8, .inl c_askedRow)), (a_kept, .inl (E.2.1, 10600, .inl c_kept))]) [0, 1, 2, 3, 4, 5, 6] rfl
  have hDc : va_D A (w_X8_hand E a_ a_tape a_readPlace a_script a_scriptLong a_now a_refused a_shareX a_shareY a_askedRow a_kept a_aside a_spelled a_image c_thrown c_taped c_at c_part c_partFrom c_partNumber c_wrong c_partWord c_readLaw c_readBound c_readGoal c_readSites c_scripts c_sites c_asked c_outcome c_took c_acts c_drawn c_racer c_raced c_spelledMany c_hasImage c_now c_refused c_shareX c_shareY c_askedRow c_kept) := hD.sub (ws' := [(a_, .inr (9, [.int c_thrown, .ref a_tape, .int c_taped, .int c_at, .int c_part, .int c_partFrom, .int c_partNumber, .int c_wrong, .long c_partWord, .int c_readLaw, .int c_readBound, .int c_readGoal, .int c_readSites, .ref a_readPlace, .ref a_script, .ref a_scriptLong, .int c_scripts, .ref a_now, .ref a_refused, .int c_sites, .ref a_shareX, .ref a_shareY, .int c_asked, .int c_outcome, .ref a_askedRow, .int c_took, .ref a_kept, .int c_acts, .long c_drawn, .ref a_aside, .int c_racer, .int c_raced, .ref a_spelled, .int c_spelledMany, .ref a_image, .int c_hasImage])), (a_now, .inl (E.2.1, 265, .inl c_now)), (a_refused, .inl (E.2.1, 3, .inl c_refused)), (a_shareX, .inl (E.2.1, 8, .inl c_shareX)), (a_shareY, .inl (E.2.1, 8, .inl c_shareY)), (a_askedRow, .inl (E.2.1, 8, .inl c_askedRow)), (a_kept, .inl (E.2.1, 10600, .inl c_kept))]) [0, 1, 2, 3, 4, 5, 6] (by decide) rfl
  have hFc : ∀ q, va_A (w_X8_hand E a_ a_tape a_readPlace a_script a_scriptLong a_now a_refused a_shareX a_shareY a_askedRow a_kept a_aside a_spelled a_image c_thrown c_taped c_at c_part c_partFrom c_partNumber c_wrong c_partWord c_readLaw c_readBound c_readGoal c_readSites c_scripts c_sites c_asked c_outcome c_took c_acts c_drawn c_racer c_raced c_spelledMany c_hasImage c_now c_refused c_shareX c_shareY c_askedRow c_kept) H.size q → A q := va_free (wc := [(a_, .inr (9, [.int c_thrown, .ref a_tape, .int c_taped, .int c_at, .int c_part, .int c_partFrom, .int c_partNumber, .int c_wrong, .long c_partWord, .int c_readLaw, .int c_readBound, .int c_readGoal, .int c_readSites, .ref a_readPlace, .ref a_script, .ref a_scriptLong, .int c_scripts, .ref a_now, .ref a_refused, .int c_sites, .ref a_shareX, .ref a_shareY, .int c_asked, .int c_outcome, .ref a_askedRow, .int c_took, .ref a_kept, .int c_acts, .long c_drawn, .ref a_aside, .int c_racer, .int c_raced, .ref a_spelled, .int c_spelledMany, .ref a_image, .int c_hasImage])), (a_now, .inl (E.2.1, 265, .inl c_now)), (a_refused, .inl (E.2.1, 3, .inl c_refused)), (a_shareX, .inl (E.2.1, 8, .inl c_shareX)), (a_shareY, .inl (E.2.1, 8, .inl c_shareY)), (a_askedRow, .inl (E.2.1, 8, .inl c_askedRow)), (a_kept, .inl (E.2.1, 10600, .inl c_kept))]) hD hS hA [0, 1, 2, 3, 4, 5, 6] rfl
  refine cE_i (wc := (w_X8_hand E a_ a_tape a_readPlace a_script a_scriptLong a_now a_refused a_shareX a_shareY a_askedRow a_kept a_aside a_spelled a_image c_thrown c_taped c_at c_part c_partFrom c_partNumber c_wrong c_partWord c_readLaw c_readBound c_readGoal c_readSites c_scripts c_sites c_asked c_outcome c_took c_acts c_drawn c_racer c_raced c_spelledMany c_hasImage c_now c_refused c_shareX c_shareY c_askedRow c_kept)) (wr := []) (w1 := (w_X8_hand E a_ a_tape a_readPlace a_script a_scriptLong a_now a_refused a_shareX a_shareY a_askedRow a_kept a_aside a_spelled a_image c_thrown c_taped c_at c_part c_partFrom c_partNumber c_wrong c_partWord c_readLaw c_readBound c_readGoal c_readSites c_scripts c_sites w_6 w_7 w_9 w_11 c_drawn c_racer c_raced c_spelledMany c_hasImage w_2 w_3 w_4 w_5 w_8 w_10)) (va_runV (As := [.int (-1 : Int32), .int (1 : Int32), .int (0 : Int32), .int (0 : Int32), .int (0 : Int32)]) (rest := [])  ⟨hx, hb, hml, hown, hts⟩ (f_X8_hand l E H.size K (a_ := a_) (a_tape := a_tape) (a_readPlace := a_readPlace) (a_script := a_script) (a_scriptLong := a_scriptLong) (a_now := a_now) (a_refused := a_refused) (a_shareX := a_shareX) (a_shareY := a_shareY) (a_askedRow := a_askedRow) (a_kept := a_kept) (a_aside := a_aside) (a_spelled := a_spelled) (a_image := a_image) (p1 := (-1 : Int32)) (p2 := (1 : Int32)) (p3 := (0 : Int32)) (p4 := (0 : Int32)) (p5 := (0 : Int32)) (c_thrown := c_thrown) (c_taped := c_taped) (c_at := c_at) (c_part := c_part) (c_partFrom := c_partFrom) (c_partNumber := c_partNumber) (c_wrong := c_wrong) (c_partWord := c_partWord) (c_readLaw := c_readLaw) (c_readBound := c_readBound) (c_readGoal := c_readGoal) (c_readSites := c_readSites) (c_scripts := c_scripts) (c_sites := c_sites) (c_asked := c_asked) (c_outcome := c_outcome) (c_took := c_took) (c_acts := c_acts) (c_drawn := c_drawn) (c_racer := c_racer) (c_raced := c_raced) (c_spelledMany := c_spelledMany) (c_hasImage := c_hasImage) (c_now := c_now) (c_refused := c_refused) (c_shareX := c_shareX) (c_shareY := c_shareY) (c_askedRow := c_askedRow) (c_kept := c_kept) hc_12) (cwV 5 hts g_f_X8_sync_f_X8_hand_350 rfl rfl rfl (by decide +kernel) ⟨Nat.le_of_ble_eq_true rfl, Nat.le_of_ble_eq_true rfl⟩) ⟨pW.blind, va_recv hK hPc (ci := 9) (q0 := 0) rfl rfl, (pW.pre ⟨hK, hN⟩ hPc hDc)⟩ rfl rfl hl.1 rfl (lv_room (Nat.le_of_ble_eq_true rfl)) dX8_sync_6 ⟨Nat.le_of_ble_eq_true rfl, Nat.le_of_ble_eq_true rfl⟩) hS hFc hP hD [0, 1, 2, 3, 4, 5, 6] [] rfl rfl (by decide) (by decide) (fun H locs hP hD hS => ?_)
  replace hP : va_P E.1 vwCl [(a_, .inr (9, [.int c_thrown, .ref a_tape, .int c_taped, .int c_at, .int c_part, .int c_partFrom, .int c_partNumber, .int c_wrong, .long c_partWord, .int c_readLaw, .int c_readBound, .int c_readGoal, .int c_readSites, .ref a_readPlace, .ref a_script, .ref a_scriptLong, .int c_scripts, .ref a_now, .ref a_refused, .int c_sites, .ref a_shareX, .ref a_shareY, .int w_6, .int w_7, .ref a_askedRow, .int w_9, .ref a_kept, .int w_11, .long c_drawn, .ref a_aside, .int c_racer, .int c_raced, .ref a_spelled, .int c_spelledMany, .ref a_image, .int c_hasImage])), (a_now, .inl (E.2.1, 265, .inl w_2)), (a_refused, .inl (E.2.1, 3, .inl w_3)), (a_shareX, .inl (E.2.1, 8, .inl w_4)), (a_shareY, .inl (E.2.1, 8, .inl w_5)), (a_askedRow, .inl (E.2.1, 8, .inl w_8)), (a_kept, .inl (E.2.1, 10600, .inl w_10))] H := hP
  replace hD : va_D A [(a_, .inr (9, [.int c_thrown, .ref a_tape, .int c_taped, .int c_at, .int c_part, .int c_partFrom, .int c_partNumber, .int c_wrong, .long c_partWord, .int c_readLaw, .int c_readBound, .int c_readGoal, .int c_readSites, .ref a_readPlace, .ref a_script, .ref a_scriptLong, .int c_scripts, .ref a_now, .ref a_refused, .int c_sites, .ref a_shareX, .ref a_shareY, .int w_6, .int w_7, .ref a_askedRow, .int w_9, .ref a_kept, .int w_11, .long c_drawn, .ref a_aside, .int c_racer, .int c_raced, .ref a_spelled, .int c_spelledMany, .ref a_image, .int c_hasImage])), (a_now, .inl (E.2.1, 265, .inl w_2)), (a_refused, .inl (E.2.1, 3, .inl w_3)), (a_shareX, .inl (E.2.1, 8, .inl w_4)), (a_shareY, .inl (E.2.1, 8, .inl w_5)), (a_askedRow, .inl (E.2.1, 8, .inl w_8)), (a_kept, .inl (E.2.1, 10600, .inl w_10))] := hD
  rw [hQ]
  obtain ⟨e9_0, e9_1, e9_2, e9_3, e9_4, e9_5, e9_6, e9_7, e9_8, e9_9, e9_10⟩ := inj11 hF
  have hP9 : va_P E.1 vwCl [(a_, .inr (9, [.int c_thrown, .ref a_tape, .int c_taped, .int c_at, .int c_part, .int c_partFrom, .int c_partNumber, .int c_wrong, .long c_partWord, .int c_readLaw, .int c_readBound, .int c_readGoal, .int c_readSites, .ref a_readPlace, .ref a_script, .ref a_scriptLong, .int c_scripts, .ref a_now, .ref a_refused, .int c_sites, .ref a_shareX, .ref a_shareY, .int n_asked, .int n_outcome, .ref a_askedRow, .int n_took, .ref a_kept, .int n_acts, .long c_drawn, .ref a_aside, .int c_racer, .int c_raced, .ref a_spelled, .int c_spelledMany, .ref a_image, .int c_hasImage])), (a_now, .inl (E.2.1, 265, .inl n_now)), (a_refused, .inl (E.2.1, 3, .inl n_refused)), (a_shareX, .inl (E.2.1, 8, .inl n_shareX)), (a_shareY, .inl (E.2.1, 8, .inl n_shareY)), (a_askedRow, .inl (E.2.1, 8, .inl n_askedRow)), (a_kept, .inl (E.2.1, 10600, .inl n_kept))] H := by rw [← e9_1, ← e9_2, ← e9_3, ← e9_4, ← e9_5, ← e9_6, ← e9_7, ← e9_8, ← e9_9, ← e9_10]; exact hP.sub (ws' := [(a_, .inr (9, [.int c_thrown, .ref a_tape, .int c_taped, .int c_at, .int c_part, .int c_partFrom, .int c_partNumber, .int c_wrong, .long c_partWord, .int c_readLaw, .int c_readBound, .int c_readGoal, .int c_readSites, .ref a_readPlace, .ref a_script, .ref a_scriptLong, .int c_scripts, .ref a_now, .ref a_refused, .int c_sites, .ref a_shareX, .ref a_shareY, .int w_6, .int w_7, .ref a_askedRow, .int w_9, .ref a_kept, .int w_11, .long c_drawn, .ref a_aside, .int c_racer, .int c_raced, .ref a_spelled, .int c_spelledMany, .ref a_image, .int c_hasImage])), (a_now, .inl (E.2.1, 265, .inl w_2)), (a_refused, .inl (E.2.1, 3, .inl w_3)), (a_shareX, .inl (E.2.1, 8, .inl w_4)), (a_shareY, .inl (E.2.1, 8, .inl w_5)), (a_askedRow, .inl (E.2.1, 8, .inl w_8)), (a_kept, .inl (E.2.1, 10600, .inl w_10))]) [0, 1, 2, 3, 4, 5, 6] rfl
  have hD9 : va_D A [(a_, .inr (9, [.int c_thrown, .ref a_tape, .int c_taped, .int c_at, .int c_part, .int c_partFrom, .int c_partNumber, .int c_wrong, .long c_partWord, .int c_readLaw, .int c_readBound, .int c_readGoal, .int c_readSites, .ref a_readPlace, .ref a_script, .ref a_scriptLong, .int c_scripts, .ref a_now, .ref a_refused, .int c_sites, .ref a_shareX, .ref a_shareY, .int n_asked, .int n_outcome, .ref a_askedRow, .int n_took, .ref a_kept, .int n_acts, .long c_drawn, .ref a_aside, .int c_racer, .int c_raced, .ref a_spelled, .int c_spelledMany, .ref a_image, .int c_hasImage])), (a_now, .inl (E.2.1, 265, .inl n_now)), (a_refused, .inl (E.2.1, 3, .inl n_refused)), (a_shareX, .inl (E.2.1, 8, .inl n_shareX)), (a_shareY, .inl (E.2.1, 8, .inl n_shareY)), (a_askedRow, .inl (E.2.1, 8, .inl n_askedRow)), (a_kept, .inl (E.2.1, 10600, .inl n_kept))] := by rw [← e9_1, ← e9_2, ← e9_3, ← e9_4, ← e9_5, ← e9_6, ← e9_7, ← e9_8, ← e9_9, ← e9_10]; exact hD.sub (ws' := [(a_, .inr (9, [.int c_thrown, .ref a_tape, .int c_taped, .int c_at, .int c_part, .int c_partFrom, .int c_partNumber, .int c_wrong, .long c_partWord, .int c_readLaw, .int c_readBound, .int c_readGoal, .int c_readSites, .ref a_readPlace, .ref a_script, .ref a_scriptLong, .int c_scripts, .ref a_now, .ref a_refused, .int c_sites, .ref a_shareX, .ref a_shareY, .int w_6, .int w_7, .ref a_askedRow, .int w_9, .ref a_kept, .int w_11, .long c_drawn, .ref a_aside, .int c_racer, .int c_raced, .ref a_spelled, .int c_spelledMany, .ref a_image, .int c_hasImage])), (a_now, .inl (E.2.1, 265, .inl w_2)), (a_refused, .inl (E.2.1, 3, .inl w_3)), (a_shareX, .inl (E.2.1, 8, .inl w_4)), (a_shareY, .inl (E.2.1, 8, .inl w_5)), (a_askedRow, .inl (E.2.1, 8, .inl w_8)), (a_kept, .inl (E.2.1, 10600, .inl w_10))]) [0, 1, 2, 3, 4, 5, 6] (by decide) rfl
  exact W.iret (v := r_1) hx hb hr (fun tt ht hW => ⟨⟨_, (), rfl, e9_0, by rw [ht]; exact hP9, hD9⟩, hS.F ht⟩) hS.2.2 dX8_sync_9
