theorem dX8_hand_0 : decode cX8_hand 0 = .ok (.aload_n 0, 1) := by decide +kernel
theorem dX8_hand_1 : decode cX8_hand 1 = .ok (.iload_n 2, 1) := by decide +kernel
theorem dX8_hand_2 : decode cX8_hand 2 = .ok (.iload_n 3, 1) := by decide +kernel
theorem dX8_hand_3 : decode cX8_hand 3 = .ok (.iload 4, 2) := by decide +kernel
theorem dX8_hand_5 : decode cX8_hand 5 = .ok (.iload 5, 2) := by decide +kernel
theorem dX8_hand_7 : decode cX8_hand 7 = .ok (.invokevirtual 344, 3) := by decide +kernel
theorem dX8_hand_10 : decode cX8_hand 10 = .ok (.istore 6, 2) := by decide +kernel
theorem dX8_hand_12 : decode cX8_hand 12 = .ok (.iload 6, 2) := by decide +kernel
theorem dX8_hand_14 : decode cX8_hand 14 = .ok (.iconst (-1), 1) := by decide +kernel
theorem dX8_hand_15 : decode cX8_hand 15 = .ok (.if_icmp .eq 16, 3) := by decide +kernel
theorem dX8_hand_18 : decode cX8_hand 18 = .ok (.aload_n 0, 1) := by decide +kernel
theorem dX8_hand_19 : decode cX8_hand 19 = .ok (.getfield 25, 3) := by decide +kernel
theorem dX8_hand_22 : decode cX8_hand 22 = .ok (.iload 6, 2) := by decide +kernel
theorem dX8_hand_24 : decode cX8_hand 24 = .ok (.dup2, 1) := by decide +kernel
theorem dX8_hand_25 : decode cX8_hand 25 = .ok (.iaload, 1) := by decide +kernel
theorem dX8_hand_26 : decode cX8_hand 26 = .ok (.iconst 1, 1) := by decide +kernel
theorem dX8_hand_27 : decode cX8_hand 27 = .ok (.iadd, 1) := by decide +kernel
theorem dX8_hand_28 : decode cX8_hand 28 = .ok (.iastore, 1) := by decide +kernel
theorem dX8_hand_29 : decode cX8_hand 29 = .ok (.iload_n 1, 1) := by decide +kernel
theorem dX8_hand_30 : decode cX8_hand 30 = .ok (.ireturn, 1) := by decide +kernel
theorem dX8_move_0 : decode cX8_move 0 = .ok (.aload_n 0, 1) := by decide +kernel
theorem dX8_move_1 : decode cX8_move 1 = .ok (.iconst (-1), 1) := by decide +kernel
theorem dX8_move_2 : decode cX8_move 2 = .ok (.iconst 0, 1) := by decide +kernel
theorem dX8_move_3 : decode cX8_move 3 = .ok (.iload_n 1, 1) := by decide +kernel
theorem dX8_move_4 : decode cX8_move 4 = .ok (.iload_n 2, 1) := by decide +kernel
theorem dX8_move_5 : decode cX8_move 5 = .ok (.iload_n 3, 1) := by decide +kernel
theorem dX8_move_6 : decode cX8_move 6 = .ok (.invokevirtual 350, 3) := by decide +kernel
theorem dX8_move_9 : decode cX8_move 9 = .ok (.ireturn, 1) := by decide +kernel
theorem dX8_freeze_0 : decode cX8_freeze 0 = .ok (.aload_n 0, 1) := by decide +kernel
theorem dX8_freeze_1 : decode cX8_freeze 1 = .ok (.iconst (-1), 1) := by decide +kernel
theorem dX8_freeze_2 : decode cX8_freeze 2 = .ok (.bipush 6, 2) := by decide +kernel
theorem dX8_freeze_4 : decode cX8_freeze 4 = .ok (.iload_n 1, 1) := by decide +kernel
theorem dX8_freeze_5 : decode cX8_freeze 5 = .ok (.iconst 0, 1) := by decide +kernel
theorem dX8_freeze_6 : decode cX8_freeze 6 = .ok (.iconst 0, 1) := by decide +kernel
theorem dX8_freeze_7 : decode cX8_freeze 7 = .ok (.invokevirtual 350, 3) := by decide +kernel
theorem dX8_freeze_10 : decode cX8_freeze 10 = .ok (.ireturn, 1) := by decide +kernel
theorem dX8_sync_0 : decode cX8_sync 0 = .ok (.aload_n 0, 1) := by decide +kernel
theorem dX8_sync_1 : decode cX8_sync 1 = .ok (.iconst (-1), 1) := by decide +kernel
theorem dX8_sync_2 : decode cX8_sync 2 = .ok (.iconst 1, 1) := by decide +kernel
theorem dX8_sync_3 : decode cX8_sync 3 = .ok (.iconst 0, 1) := by decide +kernel
theorem dX8_sync_4 : decode cX8_sync 4 = .ok (.iconst 0, 1) := by decide +kernel
theorem dX8_sync_5 : decode cX8_sync 5 = .ok (.iconst 0, 1) := by decide +kernel
theorem dX8_sync_6 : decode cX8_sync 6 = .ok (.invokevirtual 350, 3) := by decide +kernel
theorem dX8_sync_9 : decode cX8_sync 9 = .ok (.ireturn, 1) := by decide +kernel
theorem dX8_bound_0 : decode cX8_bound 0 = .ok (.aload_n 0, 1) := by decide +kernel
theorem dX8_bound_1 : decode cX8_bound 1 = .ok (.ldc 182, 2) := by decide +kernel
theorem dX8_bound_3 : decode cX8_bound 3 = .ok (.iconst 2, 1) := by decide +kernel
theorem dX8_bound_4 : decode cX8_bound 4 = .ok (.iload_n 1, 1) := by decide +kernel
theorem dX8_bound_5 : decode cX8_bound 5 = .ok (.iconst 0, 1) := by decide +kernel
theorem dX8_bound_6 : decode cX8_bound 6 = .ok (.iconst 0, 1) := by decide +kernel
theorem dX8_bound_7 : decode cX8_bound 7 = .ok (.invokevirtual 350, 3) := by decide +kernel
theorem dX8_bound_10 : decode cX8_bound 10 = .ok (.ireturn, 1) := by decide +kernel
theorem dX8_law_0 : decode cX8_law 0 = .ok (.aload_n 0, 1) := by decide +kernel
theorem dX8_law_1 : decode cX8_law 1 = .ok (.iconst (-1), 1) := by decide +kernel
theorem dX8_law_2 : decode cX8_law 2 = .ok (.iconst 3, 1) := by decide +kernel
theorem dX8_law_3 : decode cX8_law 3 = .ok (.iload_n 1, 1) := by decide +kernel
theorem dX8_law_4 : decode cX8_law 4 = .ok (.iconst 0, 1) := by decide +kernel
theorem dX8_law_5 : decode cX8_law 5 = .ok (.iconst 0, 1) := by decide +kernel
theorem dX8_law_6 : decode cX8_law 6 = .ok (.invokevirtual 350, 3) := by decide +kernel
theorem dX8_law_9 : decode cX8_law 9 = .ok (.ireturn, 1) := by decide +kernel
theorem dX8_add_0 : decode cX8_add 0 = .ok (.aload_n 0, 1) := by decide +kernel
theorem dX8_add_1 : decode cX8_add 1 = .ok (.iconst (-1), 1) := by decide +kernel
theorem dX8_add_2 : decode cX8_add 2 = .ok (.iconst 4, 1) := by decide +kernel
theorem dX8_add_3 : decode cX8_add 3 = .ok (.iload_n 1, 1) := by decide +kernel
theorem dX8_add_4 : decode cX8_add 4 = .ok (.iload_n 2, 1) := by decide +kernel
theorem dX8_add_5 : decode cX8_add 5 = .ok (.iconst 0, 1) := by decide +kernel
theorem dX8_add_6 : decode cX8_add 6 = .ok (.invokevirtual 350, 3) := by decide +kernel
theorem dX8_add_9 : decode cX8_add 9 = .ok (.ireturn, 1) := by decide +kernel
theorem dX8_goal_0 : decode cX8_goal 0 = .ok (.aload_n 0, 1) := by decide +kernel
theorem dX8_goal_1 : decode cX8_goal 1 = .ok (.iconst (-1), 1) := by decide +kernel
theorem dX8_goal_2 : decode cX8_goal 2 = .ok (.iconst 5, 1) := by decide +kernel
theorem dX8_goal_3 : decode cX8_goal 3 = .ok (.iload_n 1, 1) := by decide +kernel
theorem dX8_goal_4 : decode cX8_goal 4 = .ok (.iconst 0, 1) := by decide +kernel
theorem dX8_goal_5 : decode cX8_goal 5 = .ok (.iconst 0, 1) := by decide +kernel
theorem dX8_goal_6 : decode cX8_goal 6 = .ok (.invokevirtual 350, 3) := by decide +kernel
theorem dX8_goal_9 : decode cX8_goal 9 = .ok (.ireturn, 1) := by decide +kernel
def v_d_hand : List Cond := .code yX8_hand cX8_hand 7 (some .int) :: ([.fieldLink RX8 25 "HushWatchModel" "refused" "[I", .methodLink RX8 344 yX8_whyNot, .instanceMethod yX8_whyNot, .selects RX8 yX8_whyNot yX8_whyNot, .initialized RX8] ++ (v_d_whyNot ++ (wsX80 ++ ([]))))
theorem gw_d_hand : v_d_hand.all goodWord = true := by decide +kernel
theorem i_d_hand_X8 : ∀ w ∈ wsX80, w ∈ v_d_hand := fun _ h => List.mem_cons_of_mem _ (List.mem_append_right _ (List.mem_append_right _ (List.mem_append_left _ h)))
theorem g_d_hand_d_whyNot_344 : GoodIn v_d_hand (wsV RX8 344 RX8 yX8_whyNot v_d_whyNot) := goodIn_app (goodIn_of _ (by decide +kernel)) (goodIn_sub (fun _ h => List.mem_cons_of_mem _ (List.mem_append_right _ (List.mem_append_left _ h))) gw_d_whyNot)
set_option maxHeartbeats 4000000 in
set_option maxRecDepth 100000 in
theorem d_hand (l : Launch) (E : EE) (sz : Nat) (mo m_tape m_readPlace m_script m_scriptLong m_now m_refused m_shareX m_shareY m_askedRow m_kept m_aside m_spelled m_image : Nat) (p0 p1 p2 p3 p4 : Int32) : Met l yX8_hand v_d_hand ({ frames := 4, cells := 0, slots := 0, locals := 94 }) (va_Pc [.ref mo, .int p0, .int p1, .int p2, .int p3, .int p4] (pW E sz [(mo, .inr (9, [.int 0, .ref m_tape, .int 0, .int 0, .int 0, .int 0, .int 0, .int 0, .long 0, .int 0, .int 0, .int 0, .int 0, .ref m_readPlace, .ref m_script, .ref m_scriptLong, .int 0, .ref m_now, .ref m_refused, .int 0, .ref m_shareX, .ref m_shareY, .int 0, .int 0, .ref m_askedRow, .int 0, .ref m_kept, .int 0, .long 0, .ref m_aside, .int 0, .int 0, .ref m_spelled, .int 0, .ref m_image, .int 0])), (m_now, .inl (E.2.1, 265, .inl (fun _ => 0))), (m_refused, .inl (E.2.1, 3, .inl (fun _ => 0)))])) (va_Qi (fun r (_u : Unit) => r = p0) (fun (_u : Unit) tt => va_P E.1 vwCl [] tt.heap ∧ va_D (va_A [(mo, .inr (9, [.int 0, .ref m_tape, .int 0, .int 0, .int 0, .int 0, .int 0, .int 0, .long 0, .int 0, .int 0, .int 0, .int 0, .ref m_readPlace, .ref m_script, .ref m_scriptLong, .int 0, .ref m_now, .ref m_refused, .int 0, .ref m_shareX, .ref m_shareY, .int 0, .int 0, .ref m_askedRow, .int 0, .ref m_kept, .int 0, .long 0, .ref m_aside, .int 0, .int 0, .ref m_spelled, .int 0, .ref m_image, .int 0])), (m_now, .inl (E.2.1, 265, .inl (fun _ => 0))), (m_refused, .inl (E.2.1, 3, .inl (fun _ => 0)))] sz) []) (va_A [(mo, .inr (9, [.int 0, .ref m_tape, .int 0, .int 0, .int 0, .int 0, .int 0, .int 0, .long 0, .int 0, .int 0, .int 0, .int 0, .ref m_readPlace, .ref m_script, .ref m_scriptLong, .int 0, .ref m_now, .ref m_refused, .int 0, .ref m_shareX, .ref m_shareY, .int 0, .int 0, .ref m_askedRow, .int 0, .ref m_kept, .int 0, .long 0, .ref m_aside, .int 0, .int 0, .ref m_spelled, .int 0, .ref m_image, .int 0])), (m_now, .inl (E.2.1, 265, .inl (fun _ => 0))), (m_refused, .inl (E.2.1, 3, .inl (fun _ => 0)))] sz)) 0 0 (va_A [(mo, .inr (9, [.int 0, .ref m_tape, .int 0, .int 0, .int 0, .int 0, .int 0, .int 0, .long 0, .int 0, .int 0, .int 0, .int 0, .ref m_readPlace, .ref m_script, .ref m_scriptLong, .int 0, .ref m_now, .ref m_refused, .int 0, .ref m_shareX, .ref m_shareY, .int 0, .int 0, .ref m_askedRow, .int 0, .ref m_kept, .int 0, .long 0, .ref m_aside, .int 0, .int 0, .ref m_spelled, .int 0, .ref m_image, .int 0])), (m_now, .inl (E.2.1, 265, .inl (fun _ => 0))), (m_refused, .inl (E.2.1, 3, .inl (fun _ => 0)))] sz) := by
  refine Met.ofW (cc := cX8_hand) (maxL := 7) (ret := (some .int)) (by decide) rfl ?_
  intro p e s m args below meth c s₁ B hml hv
  obtain ⟨rfl, hsz, ⟨hK, hN⟩, hP, hD0⟩ := hv
  have hx := B.exec
  have hb := B.bytes
  have hr := B.returns
  have hts := atoms_spec (ws := v_d_hand) B.pre
  have hown : s.vm.findClass RX8 = some m.cls := findClass_of_methodNamed B.named
  have hlocks := B.notSynchronized
  subst hsz
  have hD := hD0.self (sz := s.heap.size)
  generalize hAe : va_A [(mo, .inr (9, [.int 0, .ref m_tape, .int 0, .int 0, .int 0, .int 0, .int 0, .int 0, .long 0, .int 0, .int 0, .int 0, .int 0, .ref m_readPlace, .ref m_script, .ref m_scriptLong, .int 0, .ref m_now, .ref m_refused, .int 0, .ref m_shareX, .ref m_shareY, .int 0, .int 0, .ref m_askedRow, .int 0, .ref m_kept, .int 0, .long 0, .ref m_aside, .int 0, .int 0, .ref m_spelled, .int 0, .ref m_image, .int 0])), (m_now, .inl (E.2.1, 265, .inl (fun _ => 0))), (m_refused, .inl (E.2.1, 3, .inl (fun _ => 0)))] s.heap.size = A at hD ⊢
  have hA : ∀ q : Nat, s.heap.size ≤ q → A q := fun q h => by rw [← hAe]; exact Or.inr h
  have hS : va_S A s.heap s.heap [] := va_S.rf
  have hP : va_P E.1 vwCl [(mo, .inr (9, [.int 0, .ref m_tape, .int 0, .int 0, .int 0, .int 0, .int 0, .int 0, .long 0, .int 0, .int 0, .int 0, .int 0, .ref m_readPlace, .ref m_script, .ref m_scriptLong, .int 0, .ref m_now, .ref m_refused, .int 0, .ref m_shareX, .ref m_shareY, .int 0, .int 0, .ref m_askedRow, .int 0, .ref m_kept, .int 0, .long 0, .ref m_aside, .int 0, .int 0, .ref m_spelled, .int 0, .ref m_image, .int 0])), (m_now, .inl (E.2.1, 265, .inl (fun _ => 0))), (m_refused, .inl (E.2.1, 3, .inl (fun _ => 0)))] s.heap := hP
  have hl := lv_entry ([.ref mo, .int p0, .int p1, .int p2, .int p3, .int p4]) (n := 7) (Nat.le_of_ble_eq_true rfl)
  rw [lg_entry_eq]
  generalize (lg_sl ([.ref mo, .int p0, .int p1, .int p2, .int p3, .int p4]) ++ List.replicate (7 - (lg_sl ([.ref mo, .int p0, .int p1, .int p2, .int p3, .int p4])).length) Slot.unset).toArray = ls at hl ⊢
  have hl : lv_has ls 7 [(0, .ref mo), (1, .int p0), (2, .int p1), (3, .int p2), (4, .int p3), (5, .int p4)] := hl
  refine lv_aload_n hx hb dX8_hand_0 rfl (lv_at hl 0 rfl) ?_
  refine lv_iload_n hx hb dX8_hand_1 rfl (lv_at hl 2 rfl) ?_
  refine lv_iload_n hx hb dX8_hand_2 rfl (lv_at hl 3 rfl) ?_
  refine lv_iload hx hb dX8_hand_3 (lv_at hl 4 rfl) ?_
  refine lv_iload hx hb dX8_hand_5 (lv_at hl 5 rfl) ?_
  have hPc := hP.sub (ws' := [(mo, .inr (9, [.int 0, .ref m_tape, .int 0, .int 0, .int 0, .int 0, .int 0, .int 0, .long 0, .int 0, .int 0, .int 0, .int 0, .ref m_readPlace, .ref m_script, .ref m_scriptLong, .int 0, .ref m_now, .ref m_refused, .int 0, .ref m_shareX, .ref m_shareY, .int 0, .int 0, .ref m_askedRow, .int 0, .ref m_kept, .int 0, .long 0, .ref m_aside, .int 0, .int 0, .ref m_spelled, .int 0, .ref m_image, .int 0])), (m_now, .inl (E.2.1, 265, .inl (fun _ => 0)))]) [0, 1] rfl
  refine pc_i (va_runV (As := [.int p1, .int p2, .int p3, .int p4]) (rest := []) ⟨hx, hb, hml, hown, hts⟩ (d_whyNot l E mo m_tape m_readPlace m_script m_scriptLong m_now m_refused m_shareX m_shareY m_askedRow m_kept m_aside m_spelled m_image p1 p2 p3 p4) (cwV 4 hts g_d_hand_d_whyNot_344 rfl rfl rfl (by decide +kernel) ⟨Nat.le_of_ble_eq_true rfl, Nat.le_of_ble_eq_true rfl⟩) ⟨pP.blind, va_recv hK hPc (ci := 9) (q0 := 0) rfl rfl, (pP.pre ⟨hK, hN⟩ hPc)⟩ rfl rfl hl.1 rfl (lv_room (Nat.le_of_ble_eq_true rfl)) dX8_hand_7 ⟨Nat.le_of_ble_eq_true rfl, Nat.le_of_ble_eq_true rfl⟩) (fun r_1 hr_1 => ?_)
  obtain rfl : r_1 = 0 := hr_1
  refine lv_istore (lv' := [(6, .int 0), (0, .ref mo), (1, .int p0), (2, .int p1), (3, .int p2), (4, .int p3), (5, .int p4)]) hx hb dX8_hand_10 hl (by decide) rfl (fun ls hl => ?_)
  refine lv_iload hx hb dX8_hand_12 (lv_at hl 0 rfl) ?_
  refine lv_iconst (v := -1) hx hb dX8_hand_14 (by decide) ?_
  refine lv_icmp_eq (tgt := 31) hx hb dX8_hand_15 (by decide) (fun q => absurd q (by decide)) (fun _ => ?_)
  refine lv_aload_n hx hb dX8_hand_18 rfl (lv_at hl 1 rfl) ?_
  refine va_get (D := E.1) (ci := 9) (v := .ref m_refused) (C := RX8) (T := TX8) (N := 36) hx hb hts i_d_hand_X8 hown hK hP 0 rfl rfl 18 (by decide) (hts (.fieldLink RX8 25 "HushWatchModel" "refused" "[I") (List.mem_of_getElem? (i := 1) rfl)) (fun _ h9 => h9) rfl dX8_hand_19 ?_
  refine lv_iload hx hb dX8_hand_22 (lv_at hl 0 rfl) ?_
  refine lv_dup2_11 hx hb dX8_hand_24 rfl rfl ?_
  refine va_iald hx hb hK hP 2 0 rfl rfl (vin rfl) dX8_hand_25 ?_
  refine W.eq (g2 := F0 m 26 ls [.int 0, .int 0, .ref m_refused]) rfl ?_
  refine lv_iconst (v := 1) hx hb dX8_hand_26 (by decide) ?_
  refine lv_iadd hx hb dX8_hand_27 ?_
  refine lv_topi (fun z_2 ez_2 => ?_)
  obtain rfl : z_2 = 1 := ez_2.trans (by decide)
  refine va_iast hx hb hK hP hD hS 2 0 rfl rfl (vin rfl) dX8_hand_28 (fun H locs hP hD hS => ?_)
  have hP : va_P E.1 vwCl [(mo, .inr (9, [.int 0, .ref m_tape, .int 0, .int 0, .int 0, .int 0, .int 0, .int 0, .long 0, .int 0, .int 0, .int 0, .int 0, .ref m_readPlace, .ref m_script, .ref m_scriptLong, .int 0, .ref m_now, .ref m_refused, .int 0, .ref m_shareX, .ref m_shareY, .int 0, .int 0, .ref m_askedRow, .int 0, .ref m_kept, .int 0, .long 0, .ref m_aside, .int 0, .int 0, .ref m_spelled, .int 0, .ref m_image, .int 0])), (m_now, .inl (E.2.1, 265, .inl (fun _ => 0))), (m_refused, .inl (E.2.1, 3, .inl (upd (fun _ => 0) (0 : Int32).toNatClampNeg 1)))] H := hP
  have hD : va_D A [(mo, .inr (9, [.int 0, .ref m_tape, .int 0, .int 0, .int 0, .int 0, .int 0, .int 0, .long 0, .int 0, .int 0, .int 0, .int 0, .ref m_readPlace, .ref m_script, .ref m_scriptLong, .int 0, .ref m_now, .ref m_refused, .int 0, .ref m_shareX, .ref m_shareY, .int 0, .int 0, .ref m_askedRow, .int 0, .ref m_kept, .int 0, .long 0, .ref m_aside, .int 0, .int 0, .ref m_spelled, .int 0, .ref m_image, .int 0])), (m_now, .inl (E.2.1, 265, .inl (fun _ => 0))), (m_refused, .inl (E.2.1, 3, .inl (upd (fun _ => 0) (0 : Int32).toNatClampNeg 1)))] := hD
  generalize upd (fun _ => 0) (0 : Int32).toNatClampNeg 1 = f_3 at hP hD
  refine lv_iload_n hx hb dX8_hand_29 rfl (lv_at hl 2 rfl) ?_
  have hP9 : va_P E.1 vwCl [] H := fun k q h => by simp at h
  have hD9 : va_D A [] := ⟨fun i j p q h => by simp at h, fun k q h => by simp at h⟩
  exact W.iret (v := p0) hx hb hr (fun tt ht hW => ⟨⟨_, (), rfl, rfl, by rw [ht]; exact hP9, hD9⟩, hS.F ht⟩) hS.2.2 dX8_hand_30

def v_d_move : List Cond := .code yX8_move cX8_move 4 (some .int) :: ([.methodLink RX8 350 yX8_hand, .instanceMethod yX8_hand, .selects RX8 yX8_hand yX8_hand, .initialized RX8] ++ (v_d_hand ++ ([])))
theorem gw_d_move : v_d_move.all goodWord = true := by decide +kernel
theorem g_d_move_d_hand_350 : GoodIn v_d_move (wsV RX8 350 RX8 yX8_hand v_d_hand) := goodIn_app (goodIn_of _ (by decide +kernel)) (goodIn_sub (fun _ h => List.mem_cons_of_mem _ (List.mem_append_right _ (List.mem_append_left _ h))) gw_d_hand)
set_option maxHeartbeats 4000000 in
set_option maxRecDepth 100000 in
theorem d_move (l : Launch) (E : EE) (sz : Nat) (mo m_tape m_readPlace m_script m_scriptLong m_now m_refused m_shareX m_shareY m_askedRow m_kept m_aside m_spelled m_image : Nat) (p0 p1 p2 : Int32) : Met l yX8_move v_d_move ({ frames := 5, cells := 0, slots := 0, locals := 120 }) (va_Pc [.ref mo, .int p0, .int p1, .int p2] (pW E sz [(mo, .inr (9, [.int 0, .ref m_tape, .int 0, .int 0, .int 0, .int 0, .int 0, .int 0, .long 0, .int 0, .int 0, .int 0, .int 0, .ref m_readPlace, .ref m_script, .ref m_scriptLong, .int 0, .ref m_now, .ref m_refused, .int 0, .ref m_shareX, .ref m_shareY, .int 0, .int 0, .ref m_askedRow, .int 0, .ref m_kept, .int 0, .long 0, .ref m_aside, .int 0, .int 0, .ref m_spelled, .int 0, .ref m_image, .int 0])), (m_now, .inl (E.2.1, 265, .inl (fun _ => 0))), (m_refused, .inl (E.2.1, 3, .inl (fun _ => 0)))])) (va_Qi (fun r (_u : Unit) => r = -1) (fun (_u : Unit) tt => va_P E.1 vwCl [] tt.heap ∧ va_D (va_A [(mo, .inr (9, [.int 0, .ref m_tape, .int 0, .int 0, .int 0, .int 0, .int 0, .int 0, .long 0, .int 0, .int 0, .int 0, .int 0, .ref m_readPlace, .ref m_script, .ref m_scriptLong, .int 0, .ref m_now, .ref m_refused, .int 0, .ref m_shareX, .ref m_shareY, .int 0, .int 0, .ref m_askedRow, .int 0, .ref m_kept, .int 0, .long 0, .ref m_aside, .int 0, .int 0, .ref m_spelled, .int 0, .ref m_image, .int 0])), (m_now, .inl (E.2.1, 265, .inl (fun _ => 0))), (m_refused, .inl (E.2.1, 3, .inl (fun _ => 0)))] sz) []) (va_A [(mo, .inr (9, [.int 0, .ref m_tape, .int 0, .int 0, .int 0, .int 0, .int 0, .int 0, .long 0, .int 0, .int 0, .int 0, .int 0, .ref m_readPlace, .ref m_script, .ref m_scriptLong, .int 0, .ref m_now, .ref m_refused, .int 0, .ref m_shareX, .ref m_shareY, .int 0, .int 0, .ref m_askedRow, .int 0, .ref m_kept, .int 0, .long 0, .ref m_aside, .int 0, .int 0, .ref m_spelled, .int 0, .ref m_image, .int 0])), (m_now, .inl (E.2.1, 265, .inl (fun _ => 0))), (m_refused, .inl (E.2.1, 3, .inl (fun _ => 0)))] sz)) 0 0 (va_A [(mo, .inr (9, [.int 0, .ref m_tape, .int 0, .int 0, .int 0, .int 0, .int 0, .int 0, .long 0, .int 0, .int 0, .int 0, .int 0, .ref m_readPlace, .ref m_script, .ref m_scriptLong, .int 0, .ref m_now, .ref m_refused, .int 0, .ref m_shareX, .ref m_shareY, .int 0, .int 0, .ref m_askedRow, .int 0, .ref m_kept, .int 0, .long 0, .ref m_aside, .int 0, .int 0, .ref m_spelled, .int 0, .ref m_image, .int 0])), (m_now, .inl (E.2.1, 265, .inl (fun _ => 0))), (m_refused, .inl (E.2.1, 3, .inl (fun _ => 0)))] sz) := by
  refine Met.ofW (cc := cX8_move) (maxL := 4) (ret := (some .int)) (by decide) rfl ?_
  intro p e s m args below meth c s₁ B hml hv
  obtain ⟨rfl, hsz, ⟨hK, hN⟩, hP, hD0⟩ := hv
  have hx := B.exec
  have hb := B.bytes
  have hr := B.returns
  have hts := atoms_spec (ws := v_d_move) B.pre
  have hown : s.vm.findClass RX8 = some m.cls := findClass_of_methodNamed B.named
  have hlocks := B.notSynchronized
  subst hsz
  have hD := hD0.self (sz := s.heap.size)
  generalize hAe : va_A [(mo, .inr (9, [.int 0, .ref m_tape, .int 0, .int 0, .int 0, .int 0, .int 0, .int 0, .long 0, .int 0, .int 0, .int 0, .int 0, .ref m_readPlace, .ref m_script, .ref m_scriptLong, .int 0, .ref m_now, .ref m_refused, .int 0, .ref m_shareX, .ref m_shareY, .int 0, .int 0, .ref m_askedRow, .int 0, .ref m_kept, .int 0, .long 0, .ref m_aside, .int 0, .int 0, .ref m_spelled, .int 0, .ref m_image, .int 0])), (m_now, .inl (E.2.1, 265, .inl (fun _ => 0))), (m_refused, .inl (E.2.1, 3, .inl (fun _ => 0)))] s.heap.size = A at hD ⊢
  have hA : ∀ q : Nat, s.heap.size ≤ q → A q := fun q h => by rw [← hAe]; exact Or.inr h
  have hS : va_S A s.heap s.heap [] := va_S.rf
  have hP : va_P E.1 vwCl [(mo, .inr (9, [.int 0, .ref m_tape, .int 0, .int 0, .int 0, .int 0, .int 0, .int 0, .long 0, .int 0, .int 0, .int 0, .int 0, .ref m_readPlace, .ref m_script, .ref m_scriptLong, .int 0, .ref m_now, .ref m_refused, .int 0, .ref m_shareX, .ref m_shareY, .int 0, .int 0, .ref m_askedRow, .int 0, .ref m_kept, .int 0, .long 0, .ref m_aside, .int 0, .int 0, .ref m_spelled, .int 0, .ref m_image, .int 0])), (m_now, .inl (E.2.1, 265, .inl (fun _ => 0))), (m_refused, .inl (E.2.1, 3, .inl (fun _ => 0)))] s.heap := hP
  have hl := lv_entry ([.ref mo, .int p0, .int p1, .int p2]) (n := 4) (Nat.le_of_ble_eq_true rfl)
  rw [lg_entry_eq]
  generalize (lg_sl ([.ref mo, .int p0, .int p1, .int p2]) ++ List.replicate (4 - (lg_sl ([.ref mo, .int p0, .int p1, .int p2])).length) Slot.unset).toArray = ls at hl ⊢
  have hl : lv_has ls 4 [(0, .ref mo), (1, .int p0), (2, .int p1), (3, .int p2)] := hl
  refine lv_aload_n hx hb dX8_move_0 rfl (lv_at hl 0 rfl) ?_
  refine lv_iconst (v := -1) hx hb dX8_move_1 (by decide) ?_
  refine lv_iconst (v := 0) hx hb dX8_move_2 (by decide) ?_
  refine lv_iload_n hx hb dX8_move_3 rfl (lv_at hl 1 rfl) ?_
  refine lv_iload_n hx hb dX8_move_4 rfl (lv_at hl 2 rfl) ?_
  refine lv_iload_n hx hb dX8_move_5 rfl (lv_at hl 3 rfl) ?_
  have hPc := hP.sub (ws' := [(mo, .inr (9, [.int 0, .ref m_tape, .int 0, .int 0, .int 0, .int 0, .int 0, .int 0, .long 0, .int 0, .int 0, .int 0, .int 0, .ref m_readPlace, .ref m_script, .ref m_scriptLong, .int 0, .ref m_now, .ref m_refused, .int 0, .ref m_shareX, .ref m_shareY, .int 0, .int 0, .ref m_askedRow, .int 0, .ref m_kept, .int 0, .long 0, .ref m_aside, .int 0, .int 0, .ref m_spelled, .int 0, .ref m_image, .int 0])), (m_now, .inl (E.2.1, 265, .inl (fun _ => 0))), (m_refused, .inl (E.2.1, 3, .inl (fun _ => 0)))]) [0, 1, 2] rfl
  have hDc := hD.sub (ws' := [(mo, .inr (9, [.int 0, .ref m_tape, .int 0, .int 0, .int 0, .int 0, .int 0, .int 0, .long 0, .int 0, .int 0, .int 0, .int 0, .ref m_readPlace, .ref m_script, .ref m_scriptLong, .int 0, .ref m_now, .ref m_refused, .int 0, .ref m_shareX, .ref m_shareY, .int 0, .int 0, .ref m_askedRow, .int 0, .ref m_kept, .int 0, .long 0, .ref m_aside, .int 0, .int 0, .ref m_spelled, .int 0, .ref m_image, .int 0])), (m_now, .inl (E.2.1, 265, .inl (fun _ => 0))), (m_refused, .inl (E.2.1, 3, .inl (fun _ => 0)))]) [0, 1, 2] (by decide) rfl
  have hFc := va_free (wc := [(mo, .inr (9, [.int 0, .ref m_tape, .int 0, .int 0, .int 0, .int 0, .int 0, .int 0, .long 0, .int 0, .int 0, .int 0, .int 0, .ref m_readPlace, .ref m_script, .ref m_scriptLong, .int 0, .ref m_now, .ref m_refused, .int 0, .ref m_shareX, .ref m_shareY, .int 0, .int 0, .ref m_askedRow, .int 0, .ref m_kept, .int 0, .long 0, .ref m_aside, .int 0, .int 0, .ref m_spelled, .int 0, .ref m_image, .int 0])), (m_now, .inl (E.2.1, 265, .inl (fun _ => 0))), (m_refused, .inl (E.2.1, 3, .inl (fun _ => 0)))]) hD hS hA [0, 1, 2] rfl
  refine va_calli (va_runV (As := [.int (-1), .int 0, .int p0, .int p1, .int p2]) (rest := []) ⟨hx, hb, hml, hown, hts⟩ (d_hand l E s.heap.size mo m_tape m_readPlace m_script m_scriptLong m_now m_refused m_shareX m_shareY m_askedRow m_kept m_aside m_spelled m_image (-1) 0 p0 p1 p2) (cwV 5 hts g_d_move_d_hand_350 rfl rfl rfl (by decide +kernel) ⟨Nat.le_of_ble_eq_true rfl, Nat.le_of_ble_eq_true rfl⟩) ⟨pW.blind, va_recv hK hPc (ci := 9) (q0 := 0) rfl rfl, (pW.pre ⟨hK, hN⟩ hPc hDc)⟩ rfl rfl hl.1 rfl (lv_room (Nat.le_of_ble_eq_true rfl)) dX8_move_6 ⟨Nat.le_of_ble_eq_true rfl, Nat.le_of_ble_eq_true rfl⟩) hS (fun q _ h => hFc q h) hFc (fun r_1 u tt H1 locs ht hvm hw hB hz1 hk1 hS => ?_)
  obtain ⟨hP1, hD1⟩ := hB
  rw [ht] at hP1
  obtain ⟨hP, hD⟩ := va_join (wr := []) (w1 := []) hP hD [0, 1, 2] [] rfl rfl (by decide) (by decide) hk1 hFc hP1 hD1
  generalize H1 = H at hP hS ⊢
  have hP : va_P E.1 vwCl [] H := hP
  have hD : va_D A [] := hD
  have hr_1 := hw
  obtain rfl : r_1 = -1 := hr_1
  have hP9 : va_P E.1 vwCl [] H := fun k q h => by simp at h
  have hD9 : va_D A [] := ⟨fun i j p q h => by simp at h, fun k q h => by simp at h⟩
  exact W.iret (v := -1) hx hb hr (fun tt ht hW => ⟨⟨_, (), rfl, rfl, by rw [ht]; exact hP9, hD9⟩, hS.F ht⟩) hS.2.2 dX8_move_9

def v_d_freeze : List Cond := .code yX8_freeze cX8_freeze 2 (some .int) :: ([.methodLink RX8 350 yX8_hand, .instanceMethod yX8_hand, .selects RX8 yX8_hand yX8_hand, .initialized RX8] ++ (v_d_hand ++ ([])))
theorem gw_d_freeze : v_d_freeze.all goodWord = true := by decide +kernel
theorem g_d_freeze_d_hand_350 : GoodIn v_d_freeze (wsV RX8 350 RX8 yX8_hand v_d_hand) := goodIn_app (goodIn_of _ (by decide +kernel)) (goodIn_sub (fun _ h => List.mem_cons_of_mem _ (List.mem_append_right _ (List.mem_append_left _ h))) gw_d_hand)
set_option maxHeartbeats 4000000 in
set_option maxRecDepth 100000 in
theorem d_freeze (l : Launch) (E : EE) (sz : Nat) (mo m_tape m_readPlace m_script m_scriptLong m_now m_refused m_shareX m_shareY m_askedRow m_kept m_aside m_spelled m_image : Nat) (p0 : Int32) : Met l yX8_freeze v_d_freeze ({ frames := 5, cells := 0, slots := 0, locals := 120 }) (va_Pc [.ref mo, .int p0] (pW E sz [(mo, .inr (9, [.int 0, .ref m_tape, .int 0, .int 0, .int 0, .int 0, .int 0, .int 0, .long 0, .int 0, .int 0, .int 0, .int 0, .ref m_readPlace, .ref m_script, .ref m_scriptLong, .int 0, .ref m_now, .ref m_refused, .int 0, .ref m_shareX, .ref m_shareY, .int 0, .int 0, .ref m_askedRow, .int 0, .ref m_kept, .int 0, .long 0, .ref m_aside, .int 0, .int 0, .ref m_spelled, .int 0, .ref m_image, .int 0])), (m_now, .inl (E.2.1, 265, .inl (fun _ => 0))), (m_refused, .inl (E.2.1, 3, .inl (fun _ => 0)))])) (va_Qi (fun r (_u : Unit) => r = -1) (fun (_u : Unit) tt => va_P E.1 vwCl [] tt.heap ∧ va_D (va_A [(mo, .inr (9, [.int 0, .ref m_tape, .int 0, .int 0, .int 0, .int 0, .int 0, .int 0, .long 0, .int 0, .int 0, .int 0, .int 0, .ref m_readPlace, .ref m_script, .ref m_scriptLong, .int 0, .ref m_now, .ref m_refused, .int 0, .ref m_shareX, .ref m_shareY, .int 0, .int 0, .ref m_askedRow, .int 0, .ref m_kept, .int 0, .long 0, .ref m_aside, .int 0, .int 0, .ref m_spelled, .int 0, .ref m_image, .int 0])), (m_now, .inl (E.2.1, 265, .inl (fun _ => 0))), (m_refused, .inl (E.2.1, 3, .inl (fun _ => 0)))] sz) []) (va_A [(mo, .inr (9, [.int 0, .ref m_tape, .int 0, .int 0, .int 0, .int 0, .int 0, .int 0, .long 0, .int 0, .int 0, .int 0, .int 0, .ref m_readPlace, .ref m_script, .ref m_scriptLong, .int 0, .ref m_now, .ref m_refused, .int 0, .ref m_shareX, .ref m_shareY, .int 0, .int 0, .ref m_askedRow, .int 0, .ref m_kept, .int 0, .long 0, .ref m_aside, .int 0, .int 0, .ref m_spelled, .int 0, .ref m_image, .int 0])), (m_now, .inl (E.2.1, 265, .inl (fun _ => 0))), (m_refused, .inl (E.2.1, 3, .inl (fun _ => 0)))] sz)) 0 0 (va_A [(mo, .inr (9, [.int 0, .ref m_tape, .int 0, .int 0, .int 0, .int 0, .int 0, .int 0, .long 0, .int 0, .int 0, .int 0, .int 0, .ref m_readPlace, .ref m_script, .ref m_scriptLong, .int 0, .ref m_now, .ref m_refused, .int 0, .ref m_shareX, .ref m_shareY, .int 0, .int 0, .ref m_askedRow, .int 0, .ref m_kept, .int 0, .long 0, .ref m_aside, .int 0, .int 0, .ref m_spelled, .int 0, .ref m_image, .int 0])), (m_now, .inl (E.2.1, 265, .inl (fun _ => 0))), (m_refused, .inl (E.2.1, 3, .inl (fun _ => 0)))] sz) := by
  refine Met.ofW (cc := cX8_freeze) (maxL := 2) (ret := (some .int)) (by decide) rfl ?_
  intro p e s m args below meth c s₁ B hml hv
  obtain ⟨rfl, hsz, ⟨hK, hN⟩, hP, hD0⟩ := hv
  have hx := B.exec
  have hb := B.bytes
  have hr := B.returns
  have hts := atoms_spec (ws := v_d_freeze) B.pre
  have hown : s.vm.findClass RX8 = some m.cls := findClass_of_methodNamed B.named
  have hlocks := B.notSynchronized
  subst hsz
  have hD := hD0.self (sz := s.heap.size)
  generalize hAe : va_A [(mo, .inr (9, [.int 0, .ref m_tape, .int 0, .int 0, .int 0, .int 0, .int 0, .int 0, .long 0, .int 0, .int 0, .int 0, .int 0, .ref m_readPlace, .ref m_script, .ref m_scriptLong, .int 0, .ref m_now, .ref m_refused, .int 0, .ref m_shareX, .ref m_shareY, .int 0, .int 0, .ref m_askedRow, .int 0, .ref m_kept, .int 0, .long 0, .ref m_aside, .int 0, .int 0, .ref m_spelled, .int 0, .ref m_image, .int 0])), (m_now, .inl (E.2.1, 265, .inl (fun _ => 0))), (m_refused, .inl (E.2.1, 3, .inl (fun _ => 0)))] s.heap.size = A at hD ⊢
  have hA : ∀ q : Nat, s.heap.size ≤ q → A q := fun q h => by rw [← hAe]; exact Or.inr h
  have hS : va_S A s.heap s.heap [] := va_S.rf
  have hP : va_P E.1 vwCl [(mo, .inr (9, [.int 0, .ref m_tape, .int 0, .int 0, .int 0, .int 0, .int 0, .int 0, .long 0, .int 0, .int 0, .int 0, .int 0, .ref m_readPlace, .ref m_script, .ref m_scriptLong, .int 0, .ref m_now, .ref m_refused, .int 0, .ref m_shareX, .ref m_shareY, .int 0, .int 0, .ref m_askedRow, .int 0, .ref m_kept, .int 0, .long 0, .ref m_aside, .int 0, .int 0, .ref m_spelled, .int 0, .ref m_image, .int 0])), (m_now, .inl (E.2.1, 265, .inl (fun _ => 0))), (m_refused, .inl (E.2.1, 3, .inl (fun _ => 0)))] s.heap := hP
  have hl := lv_entry ([.ref mo, .int p0]) (n := 2) (Nat.le_of_ble_eq_true rfl)
  rw [lg_entry_eq]
  generalize (lg_sl ([.ref mo, .int p0]) ++ List.replicate (2 - (lg_sl ([.ref mo, .int p0])).length) Slot.unset).toArray = ls at hl ⊢
  have hl : lv_has ls 2 [(0, .ref mo), (1, .int p0)] := hl
  refine lv_aload_n hx hb dX8_freeze_0 rfl (lv_at hl 0 rfl) ?_
  refine lv_iconst (v := -1) hx hb dX8_freeze_1 (by decide) ?_
  refine lv_bipush (v := 6) hx hb dX8_freeze_2 (by decide) ?_
  refine lv_iload_n hx hb dX8_freeze_4 rfl (lv_at hl 1 rfl) ?_
  refine lv_iconst (v := 0) hx hb dX8_freeze_5 (by decide) ?_
  refine lv_iconst (v := 0) hx hb dX8_freeze_6 (by decide) ?_
  have hPc := hP.sub (ws' := [(mo, .inr (9, [.int 0, .ref m_tape, .int 0, .int 0, .int 0, .int 0, .int 0, .int 0, .long 0, .int 0, .int 0, .int 0, .int 0, .ref m_readPlace, .ref m_script, .ref m_scriptLong, .int 0, .ref m_now, .ref m_refused, .int 0, .ref m_shareX, .ref m_shareY, .int 0, .int 0, .ref m_askedRow, .int 0, .ref m_kept, .int 0, .long 0, .ref m_aside, .int 0, .int 0, .ref m_spelled, .int 0, .ref m_image, .int 0])), (m_now, .inl (E.2.1, 265, .inl (fun _ => 0))), (m_refused, .inl (E.2.1, 3, .inl (fun _ => 0)))]) [0, 1, 2] rfl
  have hDc := hD.sub (ws' := [(mo, .inr (9, [.int 0, .ref m_tape, .int 0, .int 0, .int 0, .int 0, .int 0, .int 0, .long 0, .int 0, .int 0, .int 0, .int 0, .ref m_readPlace, .ref m_script, .ref m_scriptLong, .int 0, .ref m_now, .ref m_refused, .int 0, .ref m_shareX, .ref m_shareY, .int 0, .int 0, .ref m_askedRow, .int 0, .ref m_kept, .int 0, .long 0, .ref m_aside, .int 0, .int 0, .ref m_spelled, .int 0, .ref m_image, .int 0])), (m_now, .inl (E.2.1, 265, .inl (fun _ => 0))), (m_refused, .inl (E.2.1, 3, .inl (fun _ => 0)))]) [0, 1, 2] (by decide) rfl
  have hFc := va_free (wc := [(mo, .inr (9, [.int 0, .ref m_tape, .int 0, .int 0, .int 0, .int 0, .int 0, .int 0, .long 0, .int 0, .int 0, .int 0, .int 0, .ref m_readPlace, .ref m_script, .ref m_scriptLong, .int 0, .ref m_now, .ref m_refused, .int 0, .ref m_shareX, .ref m_shareY, .int 0, .int 0, .ref m_askedRow, .int 0, .ref m_kept, .int 0, .long 0, .ref m_aside, .int 0, .int 0, .ref m_spelled, .int 0, .ref m_image, .int 0])), (m_now, .inl (E.2.1, 265, .inl (fun _ => 0))), (m_refused, .inl (E.2.1, 3, .inl (fun _ => 0)))]) hD hS hA [0, 1, 2] rfl
  refine va_calli (va_runV (As := [.int (-1), .int 6, .int p0, .int 0, .int 0]) (rest := []) ⟨hx, hb, hml, hown, hts⟩ (d_hand l E s.heap.size mo m_tape m_readPlace m_script m_scriptLong m_now m_refused m_shareX m_shareY m_askedRow m_kept m_aside m_spelled m_image (-1) 6 p0 0 0) (cwV 5 hts g_d_freeze_d_hand_350 rfl rfl rfl (by decide +kernel) ⟨Nat.le_of_ble_eq_true rfl, Nat.le_of_ble_eq_true rfl⟩) ⟨pW.blind, va_recv hK hPc (ci := 9) (q0 := 0) rfl rfl, (pW.pre ⟨hK, hN⟩ hPc hDc)⟩ rfl rfl hl.1 rfl (lv_room (Nat.le_of_ble_eq_true rfl)) dX8_freeze_7 ⟨Nat.le_of_ble_eq_true rfl, Nat.le_of_ble_eq_true rfl⟩) hS (fun q _ h => hFc q h) hFc (fun r_1 u tt H1 locs ht hvm hw hB hz1 hk1 hS => ?_)
  obtain ⟨hP1, hD1⟩ := hB
  rw [ht] at hP1
  obtain ⟨hP, hD⟩ := va_join (wr := []) (w1 := []) hP hD [0, 1, 2] [] rfl rfl (by decide) (by decide) hk1 hFc hP1 hD1
  generalize H1 = H at hP hS ⊢
  have hP : va_P E.1 vwCl [] H := hP
  have hD : va_D A [] := hD
  have hr_1 := hw
  obtain rfl : r_1 = -1 := hr_1
  have hP9 : va_P E.1 vwCl [] H := fun k q h => by simp at h
  have hD9 : va_D A [] := ⟨fun i j p q h => by simp at h, fun k q h => by simp at h⟩
  exact W.iret (v := -1) hx hb hr (fun tt ht hW => ⟨⟨_, (), rfl, rfl, by rw [ht]; exact hP9, hD9⟩, hS.F ht⟩) hS.2.2 dX8_freeze_10

def v_d_sync : List Cond := .code yX8_sync cX8_sync 1 (some .int) :: ([.methodLink RX8 350 yX8_hand, .instanceMethod yX8_hand, .selects RX8 yX8_hand yX8_hand, .initialized RX8] ++ (v_d_hand ++ ([])))
theorem gw_d_sync : v_d_sync.all goodWord = true := by decide +kernel
theorem g_d_sync_d_hand_350 : GoodIn v_d_sync (wsV RX8 350 RX8 yX8_hand v_d_hand) := goodIn_app (goodIn_of _ (by decide +kernel)) (goodIn_sub (fun _ h => List.mem_cons_of_mem _ (List.mem_append_right _ (List.mem_append_left _ h))) gw_d_hand)
set_option maxHeartbeats 4000000 in
set_option maxRecDepth 100000 in
theorem d_sync (l : Launch) (E : EE) (sz : Nat) (mo m_tape m_readPlace m_script m_scriptLong m_now m_refused m_shareX m_shareY m_askedRow m_kept m_aside m_spelled m_image : Nat) : Met l yX8_sync v_d_sync ({ frames := 5, cells := 0, slots := 0, locals := 120 }) (va_Pc [.ref mo] (pW E sz [(mo, .inr (9, [.int 0, .ref m_tape, .int 0, .int 0, .int 0, .int 0, .int 0, .int 0, .long 0, .int 0, .int 0, .int 0, .int 0, .ref m_readPlace, .ref m_script, .ref m_scriptLong, .int 0, .ref m_now, .ref m_refused, .int 0, .ref m_shareX, .ref m_shareY, .int 0, .int 0, .ref m_askedRow, .int 0, .ref m_kept, .int 0, .long 0, .ref m_aside, .int 0, .int 0, .ref m_spelled, .int 0, .ref m_image, .int 0])), (m_now, .inl (E.2.1, 265, .inl (fun _ => 0))), (m_refused, .inl (E.2.1, 3, .inl (fun _ => 0)))])) (va_Qi (fun r (_u : Unit) => r = -1) (fun (_u : Unit) tt => va_P E.1 vwCl [] tt.heap ∧ va_D (va_A [(mo, .inr (9, [.int 0, .ref m_tape, .int 0, .int 0, .int 0, .int 0, .int 0, .int 0, .long 0, .int 0, .int 0, .int 0, .int 0, .ref m_readPlace, .ref m_script, .ref m_scriptLong, .int 0, .ref m_now, .ref m_refused, .int 0, .ref m_shareX, .ref m_shareY, .int 0, .int 0, .ref m_askedRow, .int 0, .ref m_kept, .int 0, .long 0, .ref m_aside, .int 0, .int 0, .ref m_spelled, .int 0, .ref m_image, .int 0])), (m_now, .inl (E.2.1, 265, .inl (fun _ => 0))), (m_refused, .inl (E.2.1, 3, .inl (fun _ => 0)))] sz) []) (va_A [(mo, .inr (9, [.int 0, .ref m_tape, .int 0, .int 0, .int 0, .int 0, .int 0, .int 0, .long 0, .int 0, .int 0, .int 0, .int 0, .ref m_readPlace, .ref m_script, .ref m_scriptLong, .int 0, .ref m_now, .ref m_refused, .int 0, .ref m_shareX, .ref m_shareY, .int 0, .int 0, .ref m_askedRow, .int 0, .ref m_kept, .int 0, .long 0, .ref m_aside, .int 0, .int 0, .ref m_spelled, .int 0, .ref m_image, .int 0])), (m_now, .inl (E.2.1, 265, .inl (fun _ => 0))), (m_refused, .inl (E.2.1, 3, .inl (fun _ => 0)))] sz)) 0 0 (va_A [(mo, .inr (9, [.int 0, .ref m_tape, .int 0, .int 0, .int 0, .int 0, .int 0, .int 0, .long 0, .int 0, .int 0, .int 0, .int 0, .ref m_readPlace, .ref m_script, .ref m_scriptLong, .int 0, .ref m_now, .ref m_refused, .int 0, .ref m_shareX, .ref m_shareY, .int 0, .int 0, .ref m_askedRow, .int 0, .ref m_kept, .int 0, .long 0, .ref m_aside, .int 0, .int 0, .ref m_spelled, .int 0, .ref m_image, .int 0])), (m_now, .inl (E.2.1, 265, .inl (fun _ => 0))), (m_refused, .inl (E.2.1, 3, .inl (fun _ => 0)))] sz) := by
  refine Met.ofW (cc := cX8_sync) (maxL := 1) (ret := (some .int)) (by decide) rfl ?_
  intro p e s m args below meth c s₁ B hml hv
  obtain ⟨rfl, hsz, ⟨hK, hN⟩, hP, hD0⟩ := hv
  have hx := B.exec
  have hb := B.bytes
  have hr := B.returns
  have hts := atoms_spec (ws := v_d_sync) B.pre
  have hown : s.vm.findClass RX8 = some m.cls := findClass_of_methodNamed B.named
  have hlocks := B.notSynchronized
  subst hsz
  have hD := hD0.self (sz := s.heap.size)
  generalize hAe : va_A [(mo, .inr (9, [.int 0, .ref m_tape, .int 0, .int 0, .int 0, .int 0, .int 0, .int 0, .long 0, .int 0, .int 0, .int 0, .int 0, .ref m_readPlace, .ref m_script, .ref m_scriptLong, .int 0, .ref m_now, .ref m_refused, .int 0, .ref m_shareX, .ref m_shareY, .int 0, .int 0, .ref m_askedRow, .int 0, .ref m_kept, .int 0, .long 0, .ref m_aside, .int 0, .int 0, .ref m_spelled, .int 0, .ref m_image, .int 0])), (m_now, .inl (E.2.1, 265, .inl (fun _ => 0))), (m_refused, .inl (E.2.1, 3, .inl (fun _ => 0)))] s.heap.size = A at hD ⊢
  have hA : ∀ q : Nat, s.heap.size ≤ q → A q := fun q h => by rw [← hAe]; exact Or.inr h
  have hS : va_S A s.heap s.heap [] := va_S.rf
  have hP : va_P E.1 vwCl [(mo, .inr (9, [.int 0, .ref m_tape, .int 0, .int 0, .int 0, .int 0, .int 0, .int 0, .long 0, .int 0, .int 0, .int 0, .int 0, .ref m_readPlace, .ref m_script, .ref m_scriptLong, .int 0, .ref m_now, .ref m_refused, .int 0, .ref m_shareX, .ref m_shareY, .int 0, .int 0, .ref m_askedRow, .int 0, .ref m_kept, .int 0, .long 0, .ref m_aside, .int 0, .int 0, .ref m_spelled, .int 0, .ref m_image, .int 0])), (m_now, .inl (E.2.1, 265, .inl (fun _ => 0))), (m_refused, .inl (E.2.1, 3, .inl (fun _ => 0)))] s.heap := hP
  have hl := lv_entry ([.ref mo]) (n := 1) (Nat.le_of_ble_eq_true rfl)
  rw [lg_entry_eq]
  generalize (lg_sl ([.ref mo]) ++ List.replicate (1 - (lg_sl ([.ref mo])).length) Slot.unset).toArray = ls at hl ⊢
  have hl : lv_has ls 1 [(0, .ref mo)] := hl
  refine lv_aload_n hx hb dX8_sync_0 rfl (lv_at hl 0 rfl) ?_
  refine lv_iconst (v := -1) hx hb dX8_sync_1 (by decide) ?_
  refine lv_iconst (v := 1) hx hb dX8_sync_2 (by decide) ?_
  refine lv_iconst (v := 0) hx hb dX8_sync_3 (by decide) ?_
  refine lv_iconst (v := 0) hx hb dX8_sync_4 (by decide) ?_
  refine lv_iconst (v := 0) hx hb dX8_sync_5 (by decide) ?_
  have hPc := hP.sub (ws' := [(mo, .inr (9, [.int 0, .ref m_tape, .int 0, .int 0, .int 0, .int 0, .int 0, .int 0, .long 0, .int 0, .int 0, .int 0, .int 0, .ref m_readPlace, .ref m_script, .ref m_scriptLong, .int 0, .ref m_now, .ref m_refused, .int 0, .ref m_shareX, .ref m_shareY, .int 0, .int 0, .ref m_askedRow, .int 0, .ref m_kept, .int 0, .long 0, .ref m_aside, .int 0, .int 0, .ref m_spelled, .int 0, .ref m_image, .int 0])), (m_now, .inl (E.2.1, 265, .inl (fun _ => 0))), (m_refused, .inl (E.2.1, 3, .inl (fun _ => 0)))]) [0, 1, 2] rfl
  have hDc := hD.sub (ws' := [(mo, .inr (9, [.int 0, .ref m_tape, .int 0, .int 0, .int 0, .int 0, .int 0, .int 0, .long 0, .int 0, .int 0, .int 0, .int 0, .ref m_readPlace, .ref m_script, .ref m_scriptLong, .int 0, .ref m_now, .ref m_refused, .int 0, .ref m_shareX, .ref m_shareY, .int 0, .int 0, .ref m_askedRow, .int 0, .ref m_kept, .int 0, .long 0, .ref m_aside, .int 0, .int 0, .ref m_spelled, .int 0, .ref m_image, .int 0])), (m_now, .inl (E.2.1, 265, .inl (fun _ => 0))), (m_refused, .inl (E.2.1, 3, .inl (fun _ => 0)))]) [0, 1, 2] (by decide) rfl
  have hFc := va_free (wc := [(mo, .inr (9, [.int 0, .ref m_tape, .int 0, .int 0, .int 0, .int 0, .int 0, .int 0, .long 0, .int 0, .int 0, .int 0, .int 0, .ref m_readPlace, .ref m_script, .ref m_scriptLong, .int 0, .ref m_now, .ref m_refused, .int 0, .ref m_shareX, .ref m_shareY, .int 0, .int 0, .ref m_askedRow, .int 0, .ref m_kept, .int 0, .long 0, .ref m_aside, .int 0, .int 0, .ref m_spelled, .int 0, .ref m_image, .int 0])), (m_now, .inl (E.2.1, 265, .inl (fun _ => 0))), (m_refused, .inl (E.2.1, 3, .inl (fun _ => 0)))]) hD hS hA [0, 1, 2] rfl
  refine va_calli (va_runV (As := [.int (-1), .int 1, .int 0, .int 0, .int 0]) (rest := []) ⟨hx, hb, hml, hown, hts⟩ (d_hand l E s.heap.size mo m_tape m_readPlace m_script m_scriptLong m_now m_refused m_shareX m_shareY m_askedRow m_kept m_aside m_spelled m_image (-1) 1 0 0 0) (cwV 5 hts g_d_sync_d_hand_350 rfl rfl rfl (by decide +kernel) ⟨Nat.le_of_ble_eq_true rfl, Nat.le_of_ble_eq_true rfl⟩) ⟨pW.blind, va_recv hK hPc (ci := 9) (q0 := 0) rfl rfl, (pW.pre ⟨hK, hN⟩ hPc hDc)⟩ rfl rfl hl.1 rfl (lv_room (Nat.le_of_ble_eq_true rfl)) dX8_sync_6 ⟨Nat.le_of_ble_eq_true rfl, Nat.le_of_ble_eq_true rfl⟩) hS (fun q _ h => hFc q h) hFc (fun r_1 u tt H1 locs ht hvm hw hB hz1 hk1 hS => ?_)
  obtain ⟨hP1, hD1⟩ := hB
  rw [ht] at hP1
  obtain ⟨hP, hD⟩ := va_join (wr := []) (w1 := []) hP hD [0, 1, 2] [] rfl rfl (by decide) (by decide) hk1 hFc hP1 hD1
  generalize H1 = H at hP hS ⊢
  have hP : va_P E.1 vwCl [] H := hP
  have hD : va_D A [] := hD
  have hr_1 := hw
  obtain rfl : r_1 = -1 := hr_1
  have hP9 : va_P E.1 vwCl [] H := fun k q h => by simp at h
  have hD9 : va_D A [] := ⟨fun i j p q h => by simp at h, fun k q h => by simp at h⟩
  exact W.iret (v := -1) hx hb hr (fun tt ht hW => ⟨⟨_, (), rfl, rfl, by rw [ht]; exact hP9, hD9⟩, hS.F ht⟩) hS.2.2 dX8_sync_9

def v_d_bound : List Cond := .code yX8_bound cX8_bound 2 (some .int) :: ([.constant RX8 182 (-100000000), .methodLink RX8 350 yX8_hand, .instanceMethod yX8_hand, .selects RX8 yX8_hand yX8_hand, .initialized RX8] ++ (v_d_hand ++ ([])))
theorem gw_d_bound : v_d_bound.all goodWord = true := by decide +kernel
theorem g_d_bound_d_hand_350 : GoodIn v_d_bound (wsV RX8 350 RX8 yX8_hand v_d_hand) := goodIn_app (goodIn_of _ (by decide +kernel)) (goodIn_sub (fun _ h => List.mem_cons_of_mem _ (List.mem_append_right _ (List.mem_append_left _ h))) gw_d_hand)
set_option maxHeartbeats 4000000 in
set_option maxRecDepth 100000 in
theorem d_bound (l : Launch) (E : EE) (sz : Nat) (mo m_tape m_readPlace m_script m_scriptLong m_now m_refused m_shareX m_shareY m_askedRow m_kept m_aside m_spelled m_image : Nat) (p0 : Int32) : Met l yX8_bound v_d_bound ({ frames := 5, cells := 0, slots := 0, locals := 120 }) (va_Pc [.ref mo, .int p0] (pW E sz [(mo, .inr (9, [.int 0, .ref m_tape, .int 0, .int 0, .int 0, .int 0, .int 0, .int 0, .long 0, .int 0, .int 0, .int 0, .int 0, .ref m_readPlace, .ref m_script, .ref m_scriptLong, .int 0, .ref m_now, .ref m_refused, .int 0, .ref m_shareX, .ref m_shareY, .int 0, .int 0, .ref m_askedRow, .int 0, .ref m_kept, .int 0, .long 0, .ref m_aside, .int 0, .int 0, .ref m_spelled, .int 0, .ref m_image, .int 0])), (m_now, .inl (E.2.1, 265, .inl (fun _ => 0))), (m_refused, .inl (E.2.1, 3, .inl (fun _ => 0)))])) (va_Qi (fun r (_u : Unit) => r = -100000000) (fun (_u : Unit) tt => va_P E.1 vwCl [] tt.heap ∧ va_D (va_A [(mo, .inr (9, [.int 0, .ref m_tape, .int 0, .int 0, .int 0, .int 0, .int 0, .int 0, .long 0, .int 0, .int 0, .int 0, .int 0, .ref m_readPlace, .ref m_script, .ref m_scriptLong, .int 0, .ref m_now, .ref m_refused, .int 0, .ref m_shareX, .ref m_shareY, .int 0, .int 0, .ref m_askedRow, .int 0, .ref m_kept, .int 0, .long 0, .ref m_aside, .int 0, .int 0, .ref m_spelled, .int 0, .ref m_image, .int 0])), (m_now, .inl (E.2.1, 265, .inl (fun _ => 0))), (m_refused, .inl (E.2.1, 3, .inl (fun _ => 0)))] sz) []) (va_A [(mo, .inr (9, [.int 0, .ref m_tape, .int 0, .int 0, .int 0, .int 0, .int 0, .int 0, .long 0, .int 0, .int 0, .int 0, .int 0, .ref m_readPlace, .ref m_script, .ref m_scriptLong, .int 0, .ref m_now, .ref m_refused, .int 0, .ref m_shareX, .ref m_shareY, .int 0, .int 0, .ref m_askedRow, .int 0, .ref m_kept, .int 0, .long 0, .ref m_aside, .int 0, .int 0, .ref m_spelled, .int 0, .ref m_image, .int 0])), (m_now, .inl (E.2.1, 265, .inl (fun _ => 0))), (m_refused, .inl (E.2.1, 3, .inl (fun _ => 0)))] sz)) 0 0 (va_A [(mo, .inr (9, [.int 0, .ref m_tape, .int 0, .int 0, .int 0, .int 0, .int 0, .int 0, .long 0, .int 0, .int 0, .int 0, .int 0, .ref m_readPlace, .ref m_script, .ref m_scriptLong, .int 0, .ref m_now, .ref m_refused, .int 0, .ref m_shareX, .ref m_shareY, .int 0, .int 0, .ref m_askedRow, .int 0, .ref m_kept, .int 0, .long 0, .ref m_aside, .int 0, .int 0, .ref m_spelled, .int 0, .ref m_image, .int 0])), (m_now, .inl (E.2.1, 265, .inl (fun _ => 0))), (m_refused, .inl (E.2.1, 3, .inl (fun _ => 0)))] sz) := by
  refine Met.ofW (cc := cX8_bound) (maxL := 2) (ret := (some .int)) (by decide) rfl ?_
  intro p e s m args below meth c s₁ B hml hv
  obtain ⟨rfl, hsz, ⟨hK, hN⟩, hP, hD0⟩ := hv
  have hx := B.exec
  have hb := B.bytes
  have hr := B.returns
  have hts := atoms_spec (ws := v_d_bound) B.pre
  have hown : s.vm.findClass RX8 = some m.cls := findClass_of_methodNamed B.named
  have hlocks := B.notSynchronized
  subst hsz
  have hD := hD0.self (sz := s.heap.size)
  generalize hAe : va_A [(mo, .inr (9, [.int 0, .ref m_tape, .int 0, .int 0, .int 0, .int 0, .int 0, .int 0, .long 0, .int 0, .int 0, .int 0, .int 0, .ref m_readPlace, .ref m_script, .ref m_scriptLong, .int 0, .ref m_now, .ref m_refused, .int 0, .ref m_shareX, .ref m_shareY, .int 0, .int 0, .ref m_askedRow, .int 0, .ref m_kept, .int 0, .long 0, .ref m_aside, .int 0, .int 0, .ref m_spelled, .int 0, .ref m_image, .int 0])), (m_now, .inl (E.2.1, 265, .inl (fun _ => 0))), (m_refused, .inl (E.2.1, 3, .inl (fun _ => 0)))] s.heap.size = A at hD ⊢
  have hA : ∀ q : Nat, s.heap.size ≤ q → A q := fun q h => by rw [← hAe]; exact Or.inr h
  have hS : va_S A s.heap s.heap [] := va_S.rf
  have hP : va_P E.1 vwCl [(mo, .inr (9, [.int 0, .ref m_tape, .int 0, .int 0, .int 0, .int 0, .int 0, .int 0, .long 0, .int 0, .int 0, .int 0, .int 0, .ref m_readPlace, .ref m_script, .ref m_scriptLong, .int 0, .ref m_now, .ref m_refused, .int 0, .ref m_shareX, .ref m_shareY, .int 0, .int 0, .ref m_askedRow, .int 0, .ref m_kept, .int 0, .long 0, .ref m_aside, .int 0, .int 0, .ref m_spelled, .int 0, .ref m_image, .int 0])), (m_now, .inl (E.2.1, 265, .inl (fun _ => 0))), (m_refused, .inl (E.2.1, 3, .inl (fun _ => 0)))] s.heap := hP
  have hl := lv_entry ([.ref mo, .int p0]) (n := 2) (Nat.le_of_ble_eq_true rfl)
  rw [lg_entry_eq]
  generalize (lg_sl ([.ref mo, .int p0]) ++ List.replicate (2 - (lg_sl ([.ref mo, .int p0])).length) Slot.unset).toArray = ls at hl ⊢
  have hl : lv_has ls 2 [(0, .ref mo), (1, .int p0)] := hl
  refine lv_aload_n hx hb dX8_bound_0 rfl (lv_at hl 0 rfl) ?_
  refine lv_ldc (v := -100000000) hx hb hown (hts (.constant RX8 182 (-100000000)) (List.mem_of_getElem? (i := 1) rfl)) dX8_bound_1 ?_
  refine lv_iconst (v := 2) hx hb dX8_bound_3 (by decide) ?_
  refine lv_iload_n hx hb dX8_bound_4 rfl (lv_at hl 1 rfl) ?_
  refine lv_iconst (v := 0) hx hb dX8_bound_5 (by decide) ?_
  refine lv_iconst (v := 0) hx hb dX8_bound_6 (by decide) ?_
  have hPc := hP.sub (ws' := [(mo, .inr (9, [.int 0, .ref m_tape, .int 0, .int 0, .int 0, .int 0, .int 0, .int 0, .long 0, .int 0, .int 0, .int 0, .int 0, .ref m_readPlace, .ref m_script, .ref m_scriptLong, .int 0, .ref m_now, .ref m_refused, .int 0, .ref m_shareX, .ref m_shareY, .int 0, .int 0, .ref m_askedRow, .int 0, .ref m_kept, .int 0, .long 0, .ref m_aside, .int 0, .int 0, .ref m_spelled, .int 0, .ref m_image, .int 0])), (m_now, .inl (E.2.1, 265, .inl (fun _ => 0))), (m_refused, .inl (E.2.1, 3, .inl (fun _ => 0)))]) [0, 1, 2] rfl
  have hDc := hD.sub (ws' := [(mo, .inr (9, [.int 0, .ref m_tape, .int 0, .int 0, .int 0, .int 0, .int 0, .int 0, .long 0, .int 0, .int 0, .int 0, .int 0, .ref m_readPlace, .ref m_script, .ref m_scriptLong, .int 0, .ref m_now, .ref m_refused, .int 0, .ref m_shareX, .ref m_shareY, .int 0, .int 0, .ref m_askedRow, .int 0, .ref m_kept, .int 0, .long 0, .ref m_aside, .int 0, .int 0, .ref m_spelled, .int 0, .ref m_image, .int 0])), (m_now, .inl (E.2.1, 265, .inl (fun _ => 0))), (m_refused, .inl (E.2.1, 3, .inl (fun _ => 0)))]) [0, 1, 2] (by decide) rfl
  have hFc := va_free (wc := [(mo, .inr (9, [.int 0, .ref m_tape, .int 0, .int 0, .int 0, .int 0, .int 0, .int 0, .long 0, .int 0, .int 0, .int 0, .int 0, .ref m_readPlace, .ref m_script, .ref m_scriptLong, .int 0, .ref m_now, .ref m_refused, .int 0, .ref m_shareX, .ref m_shareY, .int 0, .int 0, .ref m_askedRow, .int 0, .ref m_kept, .int 0, .long 0, .ref m_aside, .int 0, .int 0, .ref m_spelled, .int 0, .ref m_image, .int 0])), (m_now, .inl (E.2.1, 265, .inl (fun _ => 0))), (m_refused, .inl (E.2.1, 3, .inl (fun _ => 0)))]) hD hS hA [0, 1, 2] rfl
  refine va_calli (va_runV (As := [.int (-100000000), .int 2, .int p0, .int 0, .int 0]) (rest := []) ⟨hx, hb, hml, hown, hts⟩ (d_hand l E s.heap.size mo m_tape m_readPlace m_script m_scriptLong m_now m_refused m_shareX m_shareY m_askedRow m_kept m_aside m_spelled m_image (-100000000) 2 p0 0 0) (cwV 5 hts g_d_bound_d_hand_350 rfl rfl rfl (by decide +kernel) ⟨Nat.le_of_ble_eq_true rfl, Nat.le_of_ble_eq_true rfl⟩) ⟨pW.blind, va_recv hK hPc (ci := 9) (q0 := 0) rfl rfl, (pW.pre ⟨hK, hN⟩ hPc hDc)⟩ rfl rfl hl.1 rfl (lv_room (Nat.le_of_ble_eq_true rfl)) dX8_bound_7 ⟨Nat.le_of_ble_eq_true rfl, Nat.le_of_ble_eq_true rfl⟩) hS (fun q _ h => hFc q h) hFc (fun r_1 u tt H1 locs ht hvm hw hB hz1 hk1 hS => ?_)
  obtain ⟨hP1, hD1⟩ := hB
  rw [ht] at hP1
  obtain ⟨hP, hD⟩ := va_join (wr := []) (w1 := []) hP hD [0, 1, 2] [] rfl rfl (by decide) (by decide) hk1 hFc hP1 hD1
  generalize H1 = H at hP hS ⊢
  have hP : va_P E.1 vwCl [] H := hP
  have hD : va_D A [] := hD
  have hr_1 := hw
  obtain rfl : r_1 = -100000000 := hr_1
  have hP9 : va_P E.1 vwCl [] H := fun k q h => by simp at h
  have hD9 : va_D A [] := ⟨fun i j p q h => by simp at h, fun k q h => by simp at h⟩
  exact W.iret (v := -100000000) hx hb hr (fun tt ht hW => ⟨⟨_, (), rfl, rfl, by rw [ht]; exact hP9, hD9⟩, hS.F ht⟩) hS.2.2 dX8_bound_10

def v_d_law : List Cond := .code yX8_law cX8_law 2 (some .int) :: ([.methodLink RX8 350 yX8_hand, .instanceMethod yX8_hand, .selects RX8 yX8_hand yX8_hand, .initialized RX8] ++ (v_d_hand ++ ([])))
theorem gw_d_law : v_d_law.all goodWord = true := by decide +kernel
theorem g_d_law_d_hand_350 : GoodIn v_d_law (wsV RX8 350 RX8 yX8_hand v_d_hand) := goodIn_app (goodIn_of _ (by decide +kernel)) (goodIn_sub (fun _ h => List.mem_cons_of_mem _ (List.mem_append_right _ (List.mem_append_left _ h))) gw_d_hand)
set_option maxHeartbeats 4000000 in
set_option maxRecDepth 100000 in
theorem d_law (l : Launch) (E : EE) (sz : Nat) (mo m_tape m_readPlace m_script m_scriptLong m_now m_refused m_shareX m_shareY m_askedRow m_kept m_aside m_spelled m_image : Nat) (p0 : Int32) : Met l yX8_law v_d_law ({ frames := 5, cells := 0, slots := 0, locals := 120 }) (va_Pc [.ref mo, .int p0] (pW E sz [(mo, .inr (9, [.int 0, .ref m_tape, .int 0, .int 0, .int 0, .int 0, .int 0, .int 0, .long 0, .int 0, .int 0, .int 0, .int 0, .ref m_readPlace, .ref m_script, .ref m_scriptLong, .int 0, .ref m_now, .ref m_refused, .int 0, .ref m_shareX, .ref m_shareY, .int 0, .int 0, .ref m_askedRow, .int 0, .ref m_kept, .int 0, .long 0, .ref m_aside, .int 0, .int 0, .ref m_spelled, .int 0, .ref m_image, .int 0])), (m_now, .inl (E.2.1, 265, .inl (fun _ => 0))), (m_refused, .inl (E.2.1, 3, .inl (fun _ => 0)))])) (va_Qi (fun r (_u : Unit) => r = -1) (fun (_u : Unit) tt => va_P E.1 vwCl [] tt.heap ∧ va_D (va_A [(mo, .inr (9, [.int 0, .ref m_tape, .int 0, .int 0, .int 0, .int 0, .int 0, .int 0, .long 0, .int 0, .int 0, .int 0, .int 0, .ref m_readPlace, .ref m_script, .ref m_scriptLong, .int 0, .ref m_now, .ref m_refused, .int 0, .ref m_shareX, .ref m_shareY, .int 0, .int 0, .ref m_askedRow, .int 0, .ref m_kept, .int 0, .long 0, .ref m_aside, .int 0, .int 0, .ref m_spelled, .int 0, .ref m_image, .int 0])), (m_now, .inl (E.2.1, 265, .inl (fun _ => 0))), (m_refused, .inl (E.2.1, 3, .inl (fun _ => 0)))] sz) []) (va_A [(mo, .inr (9, [.int 0, .ref m_tape, .int 0, .int 0, .int 0, .int 0, .int 0, .int 0, .long 0, .int 0, .int 0, .int 0, .int 0, .ref m_readPlace, .ref m_script, .ref m_scriptLong, .int 0, .ref m_now, .ref m_refused, .int 0, .ref m_shareX, .ref m_shareY, .int 0, .int 0, .ref m_askedRow, .int 0, .ref m_kept, .int 0, .long 0, .ref m_aside, .int 0, .int 0, .ref m_spelled, .int 0, .ref m_image, .int 0])), (m_now, .inl (E.2.1, 265, .inl (fun _ => 0))), (m_refused, .inl (E.2.1, 3, .inl (fun _ => 0)))] sz)) 0 0 (va_A [(mo, .inr (9, [.int 0, .ref m_tape, .int 0, .int 0, .int 0, .int 0, .int 0, .int 0, .long 0, .int 0, .int 0, .int 0, .int 0, .ref m_readPlace, .ref m_script, .ref m_scriptLong, .int 0, .ref m_now, .ref m_refused, .int 0, .ref m_shareX, .ref m_shareY, .int 0, .int 0, .ref m_askedRow, .int 0, .ref m_kept, .int 0, .long 0, .ref m_aside, .int 0, .int 0, .ref m_spelled, .int 0, .ref m_image, .int 0])), (m_now, .inl (E.2.1, 265, .inl (fun _ => 0))), (m_refused, .inl (E.2.1, 3, .inl (fun _ => 0)))] sz) := by
  refine Met.ofW (cc := cX8_law) (maxL := 2) (ret := (some .int)) (by decide) rfl ?_
  intro p e s m args below meth c s₁ B hml hv
  obtain ⟨rfl, hsz, ⟨hK, hN⟩, hP, hD0⟩ := hv
  have hx := B.exec
  have hb := B.bytes
  have hr := B.returns
  have hts := atoms_spec (ws := v_d_law) B.pre
  have hown : s.vm.findClass RX8 = some m.cls := findClass_of_methodNamed B.named
  have hlocks := B.notSynchronized
  subst hsz
  have hD := hD0.self (sz := s.heap.size)
  generalize hAe : va_A [(mo, .inr (9, [.int 0, .ref m_tape, .int 0, .int 0, .int 0, .int 0, .int 0, .int 0, .long 0, .int 0, .int 0, .int 0, .int 0, .ref m_readPlace, .ref m_script, .ref m_scriptLong, .int 0, .ref m_now, .ref m_refused, .int 0, .ref m_shareX, .ref m_shareY, .int 0, .int 0, .ref m_askedRow, .int 0, .ref m_kept, .int 0, .long 0, .ref m_aside, .int 0, .int 0, .ref m_spelled, .int 0, .ref m_image, .int 0])), (m_now, .inl (E.2.1, 265, .inl (fun _ => 0))), (m_refused, .inl (E.2.1, 3, .inl (fun _ => 0)))] s.heap.size = A at hD ⊢
  have hA : ∀ q : Nat, s.heap.size ≤ q → A q := fun q h => by rw [← hAe]; exact Or.inr h
  have hS : va_S A s.heap s.heap [] := va_S.rf
  have hP : va_P E.1 vwCl [(mo, .inr (9, [.int 0, .ref m_tape, .int 0, .int 0, .int 0, .int 0, .int 0, .int 0, .long 0, .int 0, .int 0, .int 0, .int 0, .ref m_readPlace, .ref m_script, .ref m_scriptLong, .int 0, .ref m_now, .ref m_refused, .int 0, .ref m_shareX, .ref m_shareY, .int 0, .int 0, .ref m_askedRow, .int 0, .ref m_kept, .int 0, .long 0, .ref m_aside, .int 0, .int 0, .ref m_spelled, .int 0, .ref m_image, .int 0])), (m_now, .inl (E.2.1, 265, .inl (fun _ => 0))), (m_refused, .inl (E.2.1, 3, .inl (fun _ => 0)))] s.heap := hP
  have hl := lv_entry ([.ref mo, .int p0]) (n := 2) (Nat.le_of_ble_eq_true rfl)
  rw [lg_entry_eq]
  generalize (lg_sl ([.ref mo, .int p0]) ++ List.replicate (2 - (lg_sl ([.ref mo, .int p0])).length) Slot.unset).toArray = ls at hl ⊢
  have hl : lv_has ls 2 [(0, .ref mo), (1, .int p0)] := hl
  refine lv_aload_n hx hb dX8_law_0 rfl (lv_at hl 0 rfl) ?_
  refine lv_iconst (v := -1) hx hb dX8_law_1 (by decide) ?_
  refine lv_iconst (v := 3) hx hb dX8_law_2 (by decide) ?_
  refine lv_iload_n hx hb dX8_law_3 rfl (lv_at hl 1 rfl) ?_
  refine lv_iconst (v := 0) hx hb dX8_law_4 (by decide) ?_
  refine lv_iconst (v := 0) hx hb dX8_law_5 (by decide) ?_
  have hPc := hP.sub (ws' := [(mo, .inr (9, [.int 0, .ref m_tape, .int 0, .int 0, .int 0, .int 0, .int 0, .int 0, .long 0, .int 0, .int 0, .int 0, .int 0, .ref m_readPlace, .ref m_script, .ref m_scriptLong, .int 0, .ref m_now, .ref m_refused, .int 0, .ref m_shareX, .ref m_shareY, .int 0, .int 0, .ref m_askedRow, .int 0, .ref m_kept, .int 0, .long 0, .ref m_aside, .int 0, .int 0, .ref m_spelled, .int 0, .ref m_image, .int 0])), (m_now, .inl (E.2.1, 265, .inl (fun _ => 0))), (m_refused, .inl (E.2.1, 3, .inl (fun _ => 0)))]) [0, 1, 2] rfl
  have hDc := hD.sub (ws' := [(mo, .inr (9, [.int 0, .ref m_tape, .int 0, .int 0, .int 0, .int 0, .int 0, .int 0, .long 0, .int 0, .int 0, .int 0, .int 0, .ref m_readPlace, .ref m_script, .ref m_scriptLong, .int 0, .ref m_now, .ref m_refused, .int 0, .ref m_shareX, .ref m_shareY, .int 0, .int 0, .ref m_askedRow, .int 0, .ref m_kept, .int 0, .long 0, .ref m_aside, .int 0, .int 0, .ref m_spelled, .int 0, .ref m_image, .int 0])), (m_now, .inl (E.2.1, 265, .inl (fun _ => 0))), (m_refused, .inl (E.2.1, 3, .inl (fun _ => 0)))]) [0, 1, 2] (by decide) rfl
  have hFc := va_free (wc := [(mo, .inr (9, [.int 0, .ref m_tape, .int 0, .int 0, .int 0, .int 0, .int 0, .int 0, .long 0, .int 0, .int 0, .int 0, .int 0, .ref m_readPlace, .ref m_script, .ref m_scriptLong, .int 0, .ref m_now, .ref m_refused, .int 0, .ref m_shareX, .ref m_shareY, .int 0, .int 0, .ref m_askedRow, .int 0, .ref m_kept, .int 0, .long 0, .ref m_aside, .int 0, .int 0, .ref m_spelled, .int 0, .ref m_image, .int 0])), (m_now, .inl (E.2.1, 265, .inl (fun _ => 0))), (m_refused, .inl (E.2.1, 3, .inl (fun _ => 0)))]) hD hS hA [0, 1, 2] rfl
  refine va_calli (va_runV (As := [.int (-1), .int 3, .int p0, .int 0, .int 0]) (rest := []) ⟨hx, hb, hml, hown, hts⟩ (d_hand l E s.heap.size mo m_tape m_readPlace m_script m_scriptLong m_now m_refused m_shareX m_shareY m_askedRow m_kept m_aside m_spelled m_image (-1) 3 p0 0 0) (cwV 5 hts g_d_law_d_hand_350 rfl rfl rfl (by decide +kernel) ⟨Nat.le_of_ble_eq_true rfl, Nat.le_of_ble_eq_true rfl⟩) ⟨pW.blind, va_recv hK hPc (ci := 9) (q0 := 0) rfl rfl, (pW.pre ⟨hK, hN⟩ hPc hDc)⟩ rfl rfl hl.1 rfl (lv_room (Nat.le_of_ble_eq_true rfl)) dX8_law_6 ⟨Nat.le_of_ble_eq_true rfl, Nat.le_of_ble_eq_true rfl⟩) hS (fun q _ h => hFc q h) hFc (fun r_1 u tt H1 locs ht hvm hw hB hz1 hk1 hS => ?_)
  obtain ⟨hP1, hD1⟩ := hB
  rw [ht] at hP1
  obtain ⟨hP, hD⟩ := va_join (wr := []) (w1 := []) hP hD [0, 1, 2] [] rfl rfl (by decide) (by decide) hk1 hFc hP1 hD1
  generalize H1 = H at hP hS ⊢
  have hP : va_P E.1 vwCl [] H := hP
  have hD : va_D A [] := hD
  have hr_1 := hw
  obtain rfl : r_1 = -1 := hr_1
  have hP9 : va_P E.1 vwCl [] H := fun k q h => by simp at h
  have hD9 : va_D A [] := ⟨fun i j p q h => by simp at h, fun k q h => by simp at h⟩
  exact W.iret (v := -1) hx hb hr (fun tt ht hW => ⟨⟨_, (), rfl, rfl, by rw [ht]; exact hP9, hD9⟩, hS.F ht⟩) hS.2.2 dX8_law_9

def v_d_add : List Cond := .code yX8_add cX8_add 3 (some .int) :: ([.methodLink RX8 350 yX8_hand, .instanceMethod yX8_hand, .selects RX8 yX8_hand yX8_hand, .initialized RX8] ++ (v_d_hand ++ ([])))
theorem gw_d_add : v_d_add.all goodWord = true := by decide +kernel
theorem g_d_add_d_hand_350 : GoodIn v_d_add (wsV RX8 350 RX8 yX8_hand v_d_hand) := goodIn_app (goodIn_of _ (by decide +kernel)) (goodIn_sub (fun _ h => List.mem_cons_of_mem _ (List.mem_append_right _ (List.mem_append_left _ h))) gw_d_hand)
set_option maxHeartbeats 4000000 in
set_option maxRecDepth 100000 in
theorem d_add (l : Launch) (E : EE) (sz : Nat) (mo m_tape m_readPlace m_script m_scriptLong m_now m_refused m_shareX m_shareY m_askedRow m_kept m_aside m_spelled m_image : Nat) (p0 p1 : Int32) : Met l yX8_add v_d_add ({ frames := 5, cells := 0, slots := 0, locals := 120 }) (va_Pc [.ref mo, .int p0, .int p1] (pW E sz [(mo, .inr (9, [.int 0, .ref m_tape, .int 0, .int 0, .int 0, .int 0, .int 0, .int 0, .long 0, .int 0, .int 0, .int 0, .int 0, .ref m_readPlace, .ref m_script, .ref m_scriptLong, .int 0, .ref m_now, .ref m_refused, .int 0, .ref m_shareX, .ref m_shareY, .int 0, .int 0, .ref m_askedRow, .int 0, .ref m_kept, .int 0, .long 0, .ref m_aside, .int 0, .int 0, .ref m_spelled, .int 0, .ref m_image, .int 0])), (m_now, .inl (E.2.1, 265, .inl (fun _ => 0))), (m_refused, .inl (E.2.1, 3, .inl (fun _ => 0)))])) (va_Qi (fun r (_u : Unit) => r = -1) (fun (_u : Unit) tt => va_P E.1 vwCl [] tt.heap ∧ va_D (va_A [(mo, .inr (9, [.int 0, .ref m_tape, .int 0, .int 0, .int 0, .int 0, .int 0, .int 0, .long 0, .int 0, .int 0, .int 0, .int 0, .ref m_readPlace, .ref m_script, .ref m_scriptLong, .int 0, .ref m_now, .ref m_refused, .int 0, .ref m_shareX, .ref m_shareY, .int 0, .int 0, .ref m_askedRow, .int 0, .ref m_kept, .int 0, .long 0, .ref m_aside, .int 0, .int 0, .ref m_spelled, .int 0, .ref m_image, .int 0])), (m_now, .inl (E.2.1, 265, .inl (fun _ => 0))), (m_refused, .inl (E.2.1, 3, .inl (fun _ => 0)))] sz) []) (va_A [(mo, .inr (9, [.int 0, .ref m_tape, .int 0, .int 0, .int 0, .int 0, .int 0, .int 0, .long 0, .int 0, .int 0, .int 0, .int 0, .ref m_readPlace, .ref m_script, .ref m_scriptLong, .int 0, .ref m_now, .ref m_refused, .int 0, .ref m_shareX, .ref m_shareY, .int 0, .int 0, .ref m_askedRow, .int 0, .ref m_kept, .int 0, .long 0, .ref m_aside, .int 0, .int 0, .ref m_spelled, .int 0, .ref m_image, .int 0])), (m_now, .inl (E.2.1, 265, .inl (fun _ => 0))), (m_refused, .inl (E.2.1, 3, .inl (fun _ => 0)))] sz)) 0 0 (va_A [(mo, .inr (9, [.int 0, .ref m_tape, .int 0, .int 0, .int 0, .int 0, .int 0, .int 0, .long 0, .int 0, .int 0, .int 0, .int 0, .ref m_readPlace, .ref m_script, .ref m_scriptLong, .int 0, .ref m_now, .ref m_refused, .int 0, .ref m_shareX, .ref m_shareY, .int 0, .int 0, .ref m_askedRow, .int 0, .ref m_kept, .int 0, .long 0, .ref m_aside, .int 0, .int 0, .ref m_spelled, .int 0, .ref m_image, .int 0])), (m_now, .inl (E.2.1, 265, .inl (fun _ => 0))), (m_refused, .inl (E.2.1, 3, .inl (fun _ => 0)))] sz) := by
  refine Met.ofW (cc := cX8_add) (maxL := 3) (ret := (some .int)) (by decide) rfl ?_
  intro p e s m args below meth c s₁ B hml hv
  obtain ⟨rfl, hsz, ⟨hK, hN⟩, hP, hD0⟩ := hv
  have hx := B.exec
  have hb := B.bytes
  have hr := B.returns
  have hts := atoms_spec (ws := v_d_add) B.pre
  have hown : s.vm.findClass RX8 = some m.cls := findClass_of_methodNamed B.named
  have hlocks := B.notSynchronized
  subst hsz
  have hD := hD0.self (sz := s.heap.size)
  generalize hAe : va_A [(mo, .inr (9, [.int 0, .ref m_tape, .int 0, .int 0, .int 0, .int 0, .int 0, .int 0, .long 0, .int 0, .int 0, .int 0, .int 0, .ref m_readPlace, .ref m_script, .ref m_scriptLong, .int 0, .ref m_now, .ref m_refused, .int 0, .ref m_shareX, .ref m_shareY, .int 0, .int 0, .ref m_askedRow, .int 0, .ref m_kept, .int 0, .long 0, .ref m_aside, .int 0, .int 0, .ref m_spelled, .int 0, .ref m_image, .int 0])), (m_now, .inl (E.2.1, 265, .inl (fun _ => 0))), (m_refused, .inl (E.2.1, 3, .inl (fun _ => 0)))] s.heap.size = A at hD ⊢
  have hA : ∀ q : Nat, s.heap.size ≤ q → A q := fun q h => by rw [← hAe]; exact Or.inr h
  have hS : va_S A s.heap s.heap [] := va_S.rf
  have hP : va_P E.1 vwCl [(mo, .inr (9, [.int 0, .ref m_tape, .int 0, .int 0, .int 0, .int 0, .int 0, .int 0, .long 0, .int 0, .int 0, .int 0, .int 0, .ref m_readPlace, .ref m_script, .ref m_scriptLong, .int 0, .ref m_now, .ref m_refused, .int 0, .ref m_shareX, .ref m_shareY, .int 0, .int 0, .ref m_askedRow, .int 0, .ref m_kept, .int 0, .long 0, .ref m_aside, .int 0, .int 0, .ref m_spelled, .int 0, .ref m_image, .int 0])), (m_now, .inl (E.2.1, 265, .inl (fun _ => 0))), (m_refused, .inl (E.2.1, 3, .inl (fun _ => 0)))] s.heap := hP
  have hl := lv_entry ([.ref mo, .int p0, .int p1]) (n := 3) (Nat.le_of_ble_eq_true rfl)
  rw [lg_entry_eq]
  generalize (lg_sl ([.ref mo, .int p0, .int p1]) ++ List.replicate (3 - (lg_sl ([.ref mo, .int p0, .int p1])).length) Slot.unset).toArray = ls at hl ⊢
  have hl : lv_has ls 3 [(0, .ref mo), (1, .int p0), (2, .int p1)] := hl
  refine lv_aload_n hx hb dX8_add_0 rfl (lv_at hl 0 rfl) ?_
  refine lv_iconst (v := -1) hx hb dX8_add_1 (by decide) ?_
  refine lv_iconst (v := 4) hx hb dX8_add_2 (by decide) ?_
  refine lv_iload_n hx hb dX8_add_3 rfl (lv_at hl 1 rfl) ?_
  refine lv_iload_n hx hb dX8_add_4 rfl (lv_at hl 2 rfl) ?_
  refine lv_iconst (v := 0) hx hb dX8_add_5 (by decide) ?_
  have hPc := hP.sub (ws' := [(mo, .inr (9, [.int 0, .ref m_tape, .int 0, .int 0, .int 0, .int 0, .int 0, .int 0, .long 0, .int 0, .int 0, .int 0, .int 0, .ref m_readPlace, .ref m_script, .ref m_scriptLong, .int 0, .ref m_now, .ref m_refused, .int 0, .ref m_shareX, .ref m_shareY, .int 0, .int 0, .ref m_askedRow, .int 0, .ref m_kept, .int 0, .long 0, .ref m_aside, .int 0, .int 0, .ref m_spelled, .int 0, .ref m_image, .int 0])), (m_now, .inl (E.2.1, 265, .inl (fun _ => 0))), (m_refused, .inl (E.2.1, 3, .inl (fun _ => 0)))]) [0, 1, 2] rfl
  have hDc := hD.sub (ws' := [(mo, .inr (9, [.int 0, .ref m_tape, .int 0, .int 0, .int 0, .int 0, .int 0, .int 0, .long 0, .int 0, .int 0, .int 0, .int 0, .ref m_readPlace, .ref m_script, .ref m_scriptLong, .int 0, .ref m_now, .ref m_refused, .int 0, .ref m_shareX, .ref m_shareY, .int 0, .int 0, .ref m_askedRow, .int 0, .ref m_kept, .int 0, .long 0, .ref m_aside, .int 0, .int 0, .ref m_spelled, .int 0, .ref m_image, .int 0])), (m_now, .inl (E.2.1, 265, .inl (fun _ => 0))), (m_refused, .inl (E.2.1, 3, .inl (fun _ => 0)))]) [0, 1, 2] (by decide) rfl
  have hFc := va_free (wc := [(mo, .inr (9, [.int 0, .ref m_tape, .int 0, .int 0, .int 0, .int 0, .int 0, .int 0, .long 0, .int 0, .int 0, .int 0, .int 0, .ref m_readPlace, .ref m_script, .ref m_scriptLong, .int 0, .ref m_now, .ref m_refused, .int 0, .ref m_shareX, .ref m_shareY, .int 0, .int 0, .ref m_askedRow, .int 0, .ref m_kept, .int 0, .long 0, .ref m_aside, .int 0, .int 0, .ref m_spelled, .int 0, .ref m_image, .int 0])), (m_now, .inl (E.2.1, 265, .inl (fun _ => 0))), (m_refused, .inl (E.2.1, 3, .inl (fun _ => 0)))]) hD hS hA [0, 1, 2] rfl
  refine va_calli (va_runV (As := [.int (-1), .int 4, .int p0, .int p1, .int 0]) (rest := []) ⟨hx, hb, hml, hown, hts⟩ (d_hand l E s.heap.size mo m_tape m_readPlace m_script m_scriptLong m_now m_refused m_shareX m_shareY m_askedRow m_kept m_aside m_spelled m_image (-1) 4 p0 p1 0) (cwV 5 hts g_d_add_d_hand_350 rfl rfl rfl (by decide +kernel) ⟨Nat.le_of_ble_eq_true rfl, Nat.le_of_ble_eq_true rfl⟩) ⟨pW.blind, va_recv hK hPc (ci := 9) (q0 := 0) rfl rfl, (pW.pre ⟨hK, hN⟩ hPc hDc)⟩ rfl rfl hl.1 rfl (lv_room (Nat.le_of_ble_eq_true rfl)) dX8_add_6 ⟨Nat.le_of_ble_eq_true rfl, Nat.le_of_ble_eq_true rfl⟩) hS (fun q _ h => hFc q h) hFc (fun r_1 u tt H1 locs ht hvm hw hB hz1 hk1 hS => ?_)
  obtain ⟨hP1, hD1⟩ := hB
  rw [ht] at hP1
  obtain ⟨hP, hD⟩ := va_join (wr := []) (w1 := []) hP hD [0, 1, 2] [] rfl rfl (by decide) (by decide) hk1 hFc hP1 hD1
  generalize H1 = H at hP hS ⊢
  have hP : va_P E.1 vwCl [] H := hP
  have hD : va_D A [] := hD
  have hr_1 := hw
  obtain rfl : r_1 = -1 := hr_1
  have hP9 : va_P E.1 vwCl [] H := fun k q h => by simp at h
  have hD9 : va_D A [] := ⟨fun i j p q h => by simp at h, fun k q h => by simp at h⟩
  exact W.iret (v := -1) hx hb hr (fun tt ht hW => ⟨⟨_, (), rfl, rfl, by rw [ht]; exact hP9, hD9⟩, hS.F ht⟩) hS.2.2 dX8_add_9

def v_d_goal : List Cond := .code yX8_goal cX8_goal 2 (some .int) :: ([.methodLink RX8 350 yX8_hand, .instanceMethod yX8_hand, .selects RX8 yX8_hand yX8_hand, .initialized RX8] ++ (v_d_hand ++ ([])))
theorem gw_d_goal : v_d_goal.all goodWord = true := by decide +kernel
theorem g_d_goal_d_hand_350 : GoodIn v_d_goal (wsV RX8 350 RX8 yX8_hand v_d_hand) := goodIn_app (goodIn_of _ (by decide +kernel)) (goodIn_sub (fun _ h => List.mem_cons_of_mem _ (List.mem_append_right _ (List.mem_append_left _ h))) gw_d_hand)
set_option maxHeartbeats 4000000 in
set_option maxRecDepth 100000 in
theorem d_goal (l : Launch) (E : EE) (sz : Nat) (mo m_tape m_readPlace m_script m_scriptLong m_now m_refused m_shareX m_shareY m_askedRow m_kept m_aside m_spelled m_image : Nat) (p0 : Int32) : Met l yX8_goal v_d_goal ({ frames := 5, cells := 0, slots := 0, locals := 120 }) (va_Pc [.ref mo, .int p0] (pW E sz [(mo, .inr (9, [.int 0, .ref m_tape, .int 0, .int 0, .int 0, .int 0, .int 0, .int 0, .long 0, .int 0, .int 0, .int 0, .int 0, .ref m_readPlace, .ref m_script, .ref m_scriptLong, .int 0, .ref m_now, .ref m_refused, .int 0, .ref m_shareX, .ref m_shareY, .int 0, .int 0, .ref m_askedRow, .int 0, .ref m_kept, .int 0, .long 0, .ref m_aside, .int 0, .int 0, .ref m_spelled, .int 0, .ref m_image, .int 0])), (m_now, .inl (E.2.1, 265, .inl (fun _ => 0))), (m_refused, .inl (E.2.1, 3, .inl (fun _ => 0)))])) (va_Qi (fun r (_u : Unit) => r = -1) (fun (_u : Unit) tt => va_P E.1 vwCl [] tt.heap ∧ va_D (va_A [(mo, .inr (9, [.int 0, .ref m_tape, .int 0, .int 0, .int 0, .int 0, .int 0, .int 0, .long 0, .int 0, .int 0, .int 0, .int 0, .ref m_readPlace, .ref m_script, .ref m_scriptLong, .int 0, .ref m_now, .ref m_refused, .int 0, .ref m_shareX, .ref m_shareY, .int 0, .int 0, .ref m_askedRow, .int 0, .ref m_kept, .int 0, .long 0, .ref m_aside, .int 0, .int 0, .ref m_spelled, .int 0, .ref m_image, .int 0])), (m_now, .inl (E.2.1, 265, .inl (fun _ => 0))), (m_refused, .inl (E.2.1, 3, .inl (fun _ => 0)))] sz) []) (va_A [(mo, .inr (9, [.int 0, .ref m_tape, .int 0, .int 0, .int 0, .int 0, .int 0, .int 0, .long 0, .int 0, .int 0, .int 0, .int 0, .ref m_readPlace, .ref m_script, .ref m_scriptLong, .int 0, .ref m_now, .ref m_refused, .int 0, .ref m_shareX, .ref m_shareY, .int 0, .int 0, .ref m_askedRow, .int 0, .ref m_kept, .int 0, .long 0, .ref m_aside, .int 0, .int 0, .ref m_spelled, .int 0, .ref m_image, .int 0])), (m_now, .inl (E.2.1, 265, .inl (fun _ => 0))), (m_refused, .inl (E.2.1, 3, .inl (fun _ => 0)))] sz)) 0 0 (va_A [(mo, .inr (9, [.int 0, .ref m_tape, .int 0, .int 0, .int 0, .int 0, .int 0, .int 0, .long 0, .int 0, .int 0, .int 0, .int 0, .ref m_readPlace, .ref m_script, .ref m_scriptLong, .int 0, .ref m_now, .ref m_refused, .int 0, .ref m_shareX, .ref m_shareY, .int 0, .int 0, .ref m_askedRow, .int 0, .ref m_kept, .int 0, .long 0, .ref m_aside, .int 0, .int 0, .ref m_spelled, .int 0, .ref m_image, .int 0])), (m_now, .inl (E.2.1, 265, .inl (fun _ => 0))), (m_refused, .inl (E.2.1, 3, .inl (fun _ => 0)))] sz) := by
  refine Met.ofW (cc := cX8_goal) (maxL := 2) (ret := (some .int)) (by decide) rfl ?_
  intro p e s m args below meth c s₁ B hml hv
  obtain ⟨rfl, hsz, ⟨hK, hN⟩, hP, hD0⟩ := hv
  have hx := B.exec
  have hb := B.bytes
  have hr := B.returns
  have hts := atoms_spec (ws := v_d_goal) B.pre
  have hown : s.vm.findClass RX8 = some m.cls := findClass_of_methodNamed B.named
  have hlocks := B.notSynchronized
  subst hsz
  have hD := hD0.self (sz := s.heap.size)
  generalize hAe : va_A [(mo, .inr (9, [.int 0, .ref m_tape, .int 0, .int 0, .int 0, .int 0, .int 0, .int 0, .long 0, .int 0, .int 0, .int 0, .int 0, .ref m_readPlace, .ref m_script, .ref m_scriptLong, .int 0, .ref m_now, .ref m_refused, .int 0, .ref m_shareX, .ref m_shareY, .int 0, .int 0, .ref m_askedRow, .int 0, .ref m_kept, .int 0, .long 0, .ref m_aside, .int 0, .int 0, .ref m_spelled, .int 0, .ref m_image, .int 0])), (m_now, .inl (E.2.1, 265, .inl (fun _ => 0))), (m_refused, .inl (E.2.1, 3, .inl (fun _ => 0)))] s.heap.size = A at hD ⊢
  have hA : ∀ q : Nat, s.heap.size ≤ q → A q := fun q h => by rw [← hAe]; exact Or.inr h
  have hS : va_S A s.heap s.heap [] := va_S.rf
  have hP : va_P E.1 vwCl [(mo, .inr (9, [.int 0, .ref m_tape, .int 0, .int 0, .int 0, .int 0, .int 0, .int 0, .long 0, .int 0, .int 0, .int 0, .int 0, .ref m_readPlace, .ref m_script, .ref m_scriptLong, .int 0, .ref m_now, .ref m_refused, .int 0, .ref m_shareX, .ref m_shareY, .int 0, .int 0, .ref m_askedRow, .int 0, .ref m_kept, .int 0, .long 0, .ref m_aside, .int 0, .int 0, .ref m_spelled, .int 0, .ref m_image, .int 0])), (m_now, .inl (E.2.1, 265, .inl (fun _ => 0))), (m_refused, .inl (E.2.1, 3, .inl (fun _ => 0)))] s.heap := hP
  have hl := lv_entry ([.ref mo, .int p0]) (n := 2) (Nat.le_of_ble_eq_true rfl)
  rw [lg_entry_eq]
  generalize (lg_sl ([.ref mo, .int p0]) ++ List.replicate (2 - (lg_sl ([.ref mo, .int p0])).length) Slot.unset).toArray = ls at hl ⊢
  have hl : lv_has ls 2 [(0, .ref mo), (1, .int p0)] := hl
  refine lv_aload_n hx hb dX8_goal_0 rfl (lv_at hl 0 rfl) ?_
  refine lv_iconst (v := -1) hx hb dX8_goal_1 (by decide) ?_
  refine lv_iconst (v := 5) hx hb dX8_goal_2 (by decide) ?_
  refine lv_iload_n hx hb dX8_goal_3 rfl (lv_at hl 1 rfl) ?_
  refine lv_iconst (v := 0) hx hb dX8_goal_4 (by decide) ?_
  refine lv_iconst (v := 0) hx hb dX8_goal_5 (by decide) ?_
  have hPc := hP.sub (ws' := [(mo, .inr (9, [.int 0, .ref m_tape, .int 0, .int 0, .int 0, .int 0, .int 0, .int 0, .long 0, .int 0, .int 0, .int 0, .int 0, .ref m_readPlace, .ref m_script, .ref m_scriptLong, .int 0, .ref m_now, .ref m_refused, .int 0, .ref m_shareX, .ref m_shareY, .int 0, .int 0, .ref m_askedRow, .int 0, .ref m_kept, .int 0, .long 0, .ref m_aside, .int 0, .int 0, .ref m_spelled, .int 0, .ref m_image, .int 0])), (m_now, .inl (E.2.1, 265, .inl (fun _ => 0))), (m_refused, .inl (E.2.1, 3, .inl (fun _ => 0)))]) [0, 1, 2] rfl
  have hDc := hD.sub (ws' := [(mo, .inr (9, [.int 0, .ref m_tape, .int 0, .int 0, .int 0, .int 0, .int 0, .int 0, .long 0, .int 0, .int 0, .int 0, .int 0, .ref m_readPlace, .ref m_script, .ref m_scriptLong, .int 0, .ref m_now, .ref m_refused, .int 0, .ref m_shareX, .ref m_shareY, .int 0, .int 0, .ref m_askedRow, .int 0, .ref m_kept, .int 0, .long 0, .ref m_aside, .int 0, .int 0, .ref m_spelled, .int 0, .ref m_image, .int 0])), (m_now, .inl (E.2.1, 265, .inl (fun _ => 0))), (m_refused, .inl (E.2.1, 3, .inl (fun _ => 0)))]) [0, 1, 2] (by decide) rfl
  have hFc := va_free (wc := [(mo, .inr (9, [.int 0, .ref m_tape, .int 0, .int 0, .int 0, .int 0, .int 0, .int 0, .long 0, .int 0, .int 0, .int 0, .int 0, .ref m_readPlace, .ref m_script, .ref m_scriptLong, .int 0, .ref m_now, .ref m_refused, .int 0, .ref m_shareX, .ref m_shareY, .int 0, .int 0, .ref m_askedRow, .int 0, .ref m_kept, .int 0, .long 0, .ref m_aside, .int 0, .int 0, .ref m_spelled, .int 0, .ref m_image, .int 0])), (m_now, .inl (E.2.1, 265, .inl (fun _ => 0))), (m_refused, .inl (E.2.1, 3, .inl (fun _ => 0)))]) hD hS hA [0, 1, 2] rfl
  refine va_calli (va_runV (As := [.int (-1), .int 5, .int p0, .int 0, .int 0]) (rest := []) ⟨hx, hb, hml, hown, hts⟩ (d_hand l E s.heap.size mo m_tape m_readPlace m_script m_scriptLong m_now m_refused m_shareX m_shareY m_askedRow m_kept m_aside m_spelled m_image (-1) 5 p0 0 0) (cwV 5 hts g_d_goal_d_hand_350 rfl rfl rfl (by decide +kernel) ⟨Nat.le_of_ble_eq_true rfl, Nat.le_of_ble_eq_true rfl⟩) ⟨pW.blind, va_recv hK hPc (ci := 9) (q0 := 0) rfl rfl, (pW.pre ⟨hK, hN⟩ hPc hDc)⟩ rfl rfl hl.1 rfl (lv_room (Nat.le_of_ble_eq_true rfl)) dX8_goal_6 ⟨Nat.le_of_ble_eq_true rfl, Nat.le_of_ble_eq_true rfl⟩) hS (fun q _ h => hFc q h) hFc (fun r_1 u tt H1 locs ht hvm hw hB hz1 hk1 hS => ?_)
  obtain ⟨hP1, hD1⟩ := hB
  rw [ht] at hP1
  obtain ⟨hP, hD⟩ := va_join (wr := []) (w1 := []) hP hD [0, 1, 2] [] rfl rfl (by decide) (by decide) hk1 hFc hP1 hD1
  generalize H1 = H at hP hS ⊢
  have hP : va_P E.1 vwCl [] H := hP
  have hD : va_D A [] := hD
  have hr_1 := hw
  obtain rfl : r_1 = -1 := hr_1
  have hP9 : va_P E.1 vwCl [] H := fun k q h => by simp at h
  have hD9 : va_D A [] := ⟨fun i j p q h => by simp at h, fun k q h => by simp at h⟩
  exact W.iret (v := -1) hx hb hr (fun tt ht hW => ⟨⟨_, (), rfl, rfl, by rw [ht]; exact hP9, hD9⟩, hS.F ht⟩) hS.2.2 dX8_goal_9
