theorem dX6_cutTo_0 : decode cX6_cutTo 0 = .ok (.iload_n 1, 1) := by decide +kernel
theorem dX6_cutTo_1 : decode cX6_cutTo 1 = .ok (.ifCond .lt 11, 3) := by decide +kernel
theorem dX6_cutTo_12 : decode cX6_cutTo 12 = .ok (.iconst 0, 1) := by decide +kernel
theorem dX6_cutTo_13 : decode cX6_cutTo 13 = .ok (.ireturn, 1) := by decide +kernel
theorem dX6_cutTo_4 : decode cX6_cutTo 4 = .ok (.iload_n 1, 1) := by decide +kernel
theorem dX6_cutTo_5 : decode cX6_cutTo 5 = .ok (.aload_n 0, 1) := by decide +kernel
theorem dX6_cutTo_6 : decode cX6_cutTo 6 = .ok (.getfield 15, 3) := by decide +kernel
theorem dX6_cutTo_9 : decode cX6_cutTo 9 = .ok (.if_icmp .le 5, 3) := by decide +kernel
theorem dX6_cutTo_14 : decode cX6_cutTo 14 = .ok (.aload_n 0, 1) := by decide +kernel
theorem dX6_cutTo_15 : decode cX6_cutTo 15 = .ok (.iload_n 1, 1) := by decide +kernel
theorem dX6_cutTo_16 : decode cX6_cutTo 16 = .ok (.putfield 15, 3) := by decide +kernel
theorem dX6_cutTo_19 : decode cX6_cutTo 19 = .ok (.iconst 1, 1) := by decide +kernel
theorem dX6_cutTo_20 : decode cX6_cutTo 20 = .ok (.ireturn, 1) := by decide +kernel
theorem dX7_end_0 : decode cX7_end 0 = .ok (.aload_n 0, 1) := by decide +kernel
theorem dX7_end_1 : decode cX7_end 1 = .ok (.getfield 10, 3) := by decide +kernel
theorem dX7_end_4 : decode cX7_end 4 = .ok (.iload_n 1, 1) := by decide +kernel
theorem dX7_end_5 : decode cX7_end 5 = .ok (.invokevirtual 89, 3) := by decide +kernel
theorem dX7_end_8 : decode cX7_end 8 = .ok (.ireturn, 1) := by decide +kernel
theorem dX3_skipBlanks_0 : decode cX3_skipBlanks 0 = .ok (.aload_n 0, 1) := by decide +kernel
theorem dX3_skipBlanks_1 : decode cX3_skipBlanks 1 = .ok (.getfield 31, 3) := by decide +kernel
theorem dX3_skipBlanks_4 : decode cX3_skipBlanks 4 = .ok (.aload_n 0, 1) := by decide +kernel
theorem dX3_skipBlanks_5 : decode cX3_skipBlanks 5 = .ok (.getfield 43, 3) := by decide +kernel
theorem dX3_skipBlanks_8 : decode cX3_skipBlanks 8 = .ok (.getfield 59, 3) := by decide +kernel
theorem dX3_skipBlanks_11 : decode cX3_skipBlanks 11 = .ok (.if_icmp .ge 32, 3) := by decide +kernel
theorem dX3_skipBlanks_43 : decode cX3_skipBlanks 43 = .ok (.return_, 1) := by decide +kernel
theorem dX3_start_0 : decode cX3_start 0 = .ok (.aload_n 0, 1) := by decide +kernel
theorem dX3_start_1 : decode cX3_start 1 = .ok (.getfield 9, 3) := by decide +kernel
theorem dX3_start_4 : decode cX3_start 4 = .ok (.iconst 0, 1) := by decide +kernel
theorem dX3_start_5 : decode cX3_start 5 = .ok (.iconst 0, 1) := by decide +kernel
theorem dX3_start_6 : decode cX3_start 6 = .ok (.iastore, 1) := by decide +kernel
theorem dX3_start_7 : decode cX3_start 7 = .ok (.aload_n 0, 1) := by decide +kernel
theorem dX3_start_8 : decode cX3_start 8 = .ok (.getfield 9, 3) := by decide +kernel
theorem dX3_start_11 : decode cX3_start 11 = .ok (.iconst 1, 1) := by decide +kernel
theorem dX3_start_12 : decode cX3_start 12 = .ok (.sipush 1000, 3) := by decide +kernel
theorem dX3_start_15 : decode cX3_start 15 = .ok (.iastore, 1) := by decide +kernel
theorem dX3_start_16 : decode cX3_start 16 = .ok (.aload_n 0, 1) := by decide +kernel
theorem dX3_start_17 : decode cX3_start 17 = .ok (.getfield 9, 3) := by decide +kernel
theorem dX3_start_20 : decode cX3_start 20 = .ok (.iconst 2, 1) := by decide +kernel
theorem dX3_start_21 : decode cX3_start 21 = .ok (.bipush 100, 2) := by decide +kernel
theorem dX3_start_23 : decode cX3_start 23 = .ok (.iastore, 1) := by decide +kernel
theorem dX3_start_24 : decode cX3_start 24 = .ok (.aload_n 0, 1) := by decide +kernel
theorem dX3_start_25 : decode cX3_start 25 = .ok (.iconst 0, 1) := by decide +kernel
theorem dX3_start_26 : decode cX3_start 26 = .ok (.putfield 21, 3) := by decide +kernel
theorem dX3_start_29 : decode cX3_start 29 = .ok (.aload_n 0, 1) := by decide +kernel
theorem dX3_start_30 : decode cX3_start 30 = .ok (.iconst 0, 1) := by decide +kernel
theorem dX3_start_31 : decode cX3_start 31 = .ok (.putfield 25, 3) := by decide +kernel
theorem dX3_start_34 : decode cX3_start 34 = .ok (.aload_n 0, 1) := by decide +kernel
theorem dX3_start_35 : decode cX3_start 35 = .ok (.iconst 0, 1) := by decide +kernel
theorem dX3_start_36 : decode cX3_start 36 = .ok (.putfield 28, 3) := by decide +kernel
theorem dX3_start_39 : decode cX3_start 39 = .ok (.aload_n 0, 1) := by decide +kernel
theorem dX3_start_40 : decode cX3_start 40 = .ok (.iconst 0, 1) := by decide +kernel
theorem dX3_start_41 : decode cX3_start 41 = .ok (.putfield 31, 3) := by decide +kernel
theorem dX3_start_44 : decode cX3_start 44 = .ok (.aload_n 0, 1) := by decide +kernel
theorem dX3_start_45 : decode cX3_start 45 = .ok (.iconst (-1), 1) := by decide +kernel
theorem dX3_start_46 : decode cX3_start 46 = .ok (.putfield 40, 3) := by decide +kernel
theorem dX3_start_49 : decode cX3_start 49 = .ok (.return_, 1) := by decide +kernel
theorem dX3_failAt_0 : decode cX3_failAt 0 = .ok (.aload_n 0, 1) := by decide +kernel
theorem dX3_failAt_1 : decode cX3_failAt 1 = .ok (.iload_n 1, 1) := by decide +kernel
theorem dX3_failAt_2 : decode cX3_failAt 2 = .ok (.putfield 40, 3) := by decide +kernel
theorem dX3_failAt_5 : decode cX3_failAt 5 = .ok (.iconst 0, 1) := by decide +kernel
theorem dX3_failAt_6 : decode cX3_failAt 6 = .ok (.ireturn, 1) := by decide +kernel
theorem dX3_readWord_0 : decode cX3_readWord 0 = .ok (.aload_n 0, 1) := by decide +kernel
theorem dX3_readWord_1 : decode cX3_readWord 1 = .ok (.invokevirtual 140, 3) := by decide +kernel
theorem dX3_readWord_4 : decode cX3_readWord 4 = .ok (.aload_n 0, 1) := by decide +kernel
theorem dX3_readWord_5 : decode cX3_readWord 5 = .ok (.aload_n 0, 1) := by decide +kernel
theorem dX3_readWord_6 : decode cX3_readWord 6 = .ok (.getfield 31, 3) := by decide +kernel
theorem dX3_readWord_9 : decode cX3_readWord 9 = .ok (.putfield 34, 3) := by decide +kernel
theorem dX3_readWord_12 : decode cX3_readWord 12 = .ok (.aload_n 0, 1) := by decide +kernel
theorem dX3_readWord_13 : decode cX3_readWord 13 = .ok (.getfield 31, 3) := by decide +kernel
theorem dX3_readWord_16 : decode cX3_readWord 16 = .ok (.aload_n 0, 1) := by decide +kernel
theorem dX3_readWord_17 : decode cX3_readWord 17 = .ok (.getfield 43, 3) := by decide +kernel
theorem dX3_readWord_20 : decode cX3_readWord 20 = .ok (.getfield 59, 3) := by decide +kernel
theorem dX3_readWord_23 : decode cX3_readWord 23 = .ok (.if_icmp .ge 33, 3) := by decide +kernel
theorem dX3_readWord_56 : decode cX3_readWord 56 = .ok (.aload_n 0, 1) := by decide +kernel
theorem dX3_readWord_57 : decode cX3_readWord 57 = .ok (.getfield 31, 3) := by decide +kernel
theorem dX3_readWord_60 : decode cX3_readWord 60 = .ok (.aload_n 0, 1) := by decide +kernel
theorem dX3_readWord_61 : decode cX3_readWord 61 = .ok (.getfield 34, 3) := by decide +kernel
theorem dX3_readWord_64 : decode cX3_readWord 64 = .ok (.if_icmp .gt 14, 3) := by decide +kernel
theorem dX3_readWord_67 : decode cX3_readWord 67 = .ok (.aload_n 0, 1) := by decide +kernel
theorem dX3_readWord_68 : decode cX3_readWord 68 = .ok (.aload_n 0, 1) := by decide +kernel
theorem dX3_readWord_69 : decode cX3_readWord 69 = .ok (.getfield 31, 3) := by decide +kernel
theorem dX3_readWord_72 : decode cX3_readWord 72 = .ok (.invokevirtual 87, 3) := by decide +kernel
theorem dX3_readWord_75 : decode cX3_readWord 75 = .ok (.ifCond .eq 7, 3) := by decide +kernel
theorem dX3_readWord_82 : decode cX3_readWord 82 = .ok (.iconst 0, 1) := by decide +kernel
theorem dX3_readWord_83 : decode cX3_readWord 83 = .ok (.ireturn, 1) := by decide +kernel
theorem dX3_readClause_0 : decode cX3_readClause 0 = .ok (.aload_n 0, 1) := by decide +kernel
theorem dX3_readClause_1 : decode cX3_readClause 1 = .ok (.invokevirtual 71, 3) := by decide +kernel
theorem dX3_readClause_4 : decode cX3_readClause 4 = .ok (.ifCond .ne 5, 3) := by decide +kernel
theorem dX3_readClause_7 : decode cX3_readClause 7 = .ok (.iconst 0, 1) := by decide +kernel
theorem dX3_readClause_8 : decode cX3_readClause 8 = .ok (.ireturn, 1) := by decide +kernel
theorem dX3_readStep_0 : decode cX3_readStep 0 = .ok (.aload_n 0, 1) := by decide +kernel
theorem dX3_readStep_1 : decode cX3_readStep 1 = .ok (.invokevirtual 71, 3) := by decide +kernel
theorem dX3_readStep_4 : decode cX3_readStep 4 = .ok (.ifCond .ne 5, 3) := by decide +kernel
theorem dX3_readStep_7 : decode cX3_readStep 7 = .ok (.iconst 0, 1) := by decide +kernel
theorem dX3_readStep_8 : decode cX3_readStep 8 = .ok (.ireturn, 1) := by decide +kernel
theorem dX3_readWatch_0 : decode cX3_readWatch 0 = .ok (.aload_n 0, 1) := by decide +kernel
theorem dX3_readWatch_1 : decode cX3_readWatch 1 = .ok (.invokevirtual 47, 3) := by decide +kernel
theorem dX3_readWatch_4 : decode cX3_readWatch 4 = .ok (.iconst 0, 1) := by decide +kernel
theorem dX3_readWatch_5 : decode cX3_readWatch 5 = .ok (.istore_n 1, 1) := by decide +kernel
theorem dX3_readWatch_6 : decode cX3_readWatch 6 = .ok (.iload_n 1, 1) := by decide +kernel
theorem dX3_readWatch_7 : decode cX3_readWatch 7 = .ok (.sipush 320, 3) := by decide +kernel
theorem dX3_readWatch_10 : decode cX3_readWatch 10 = .ok (.if_icmp .ge 62, 3) := by decide +kernel
theorem dX3_readWatch_13 : decode cX3_readWatch 13 = .ok (.aload_n 0, 1) := by decide +kernel
theorem dX3_readWatch_14 : decode cX3_readWatch 14 = .ok (.invokevirtual 52, 3) := by decide +kernel
theorem dX3_readWatch_17 : decode cX3_readWatch 17 = .ok (.ifCond .ne 8, 3) := by decide +kernel
theorem dX3_readWatch_20 : decode cX3_readWatch 20 = .ok (.aload_n 0, 1) := by decide +kernel
theorem dX3_readWatch_21 : decode cX3_readWatch 21 = .ok (.getfield 40, 3) := by decide +kernel
theorem dX3_readWatch_24 : decode cX3_readWatch 24 = .ok (.ireturn, 1) := by decide +kernel
theorem dX3_readScript_0 : decode cX3_readScript 0 = .ok (.aload_n 0, 1) := by decide +kernel
theorem dX3_readScript_1 : decode cX3_readScript 1 = .ok (.invokevirtual 47, 3) := by decide +kernel
theorem dX3_readScript_4 : decode cX3_readScript 4 = .ok (.iconst 0, 1) := by decide +kernel
theorem dX3_readScript_5 : decode cX3_readScript 5 = .ok (.istore_n 1, 1) := by decide +kernel
theorem dX3_readScript_6 : decode cX3_readScript 6 = .ok (.iload_n 1, 1) := by decide +kernel
theorem dX3_readScript_7 : decode cX3_readScript 7 = .ok (.bipush 12, 2) := by decide +kernel
theorem dX3_readScript_9 : decode cX3_readScript 9 = .ok (.if_icmp .ge 63, 3) := by decide +kernel
theorem dX3_readScript_12 : decode cX3_readScript 12 = .ok (.aload_n 0, 1) := by decide +kernel
theorem dX3_readScript_13 : decode cX3_readScript 13 = .ok (.invokevirtual 66, 3) := by decide +kernel
theorem dX3_readScript_16 : decode cX3_readScript 16 = .ok (.ifCond .ne 8, 3) := by decide +kernel
theorem dX3_readScript_19 : decode cX3_readScript 19 = .ok (.aload_n 0, 1) := by decide +kernel
theorem dX3_readScript_20 : decode cX3_readScript 20 = .ok (.getfield 40, 3) := by decide +kernel
theorem dX3_readScript_23 : decode cX3_readScript 23 = .ok (.ireturn, 1) := by decide +kernel
theorem dX7_fault_0 : decode cX7_fault 0 = .ok (.iload_n 1, 1) := by decide +kernel
theorem dX7_fault_1 : decode cX7_fault 1 = .ok (.ifCond .ne 11, 3) := by decide +kernel
theorem dX7_fault_12 : decode cX7_fault 12 = .ok (.iload_n 1, 1) := by decide +kernel
theorem dX7_fault_13 : decode cX7_fault 13 = .ok (.iconst 1, 1) := by decide +kernel
theorem dX7_fault_14 : decode cX7_fault 14 = .ok (.if_icmp .ne 13, 3) := by decide +kernel
theorem dX7_fault_27 : decode cX7_fault 27 = .ok (.bipush (-2), 2) := by decide +kernel
theorem dX7_fault_29 : decode cX7_fault 29 = .ok (.ireturn, 1) := by decide +kernel
theorem dX7_fault_17 : decode cX7_fault 17 = .ok (.aload_n 0, 1) := by decide +kernel
theorem dX7_fault_18 : decode cX7_fault 18 = .ok (.getfield 21, 3) := by decide +kernel
theorem dX7_fault_21 : decode cX7_fault 21 = .ok (.invokevirtual 97, 3) := by decide +kernel
theorem dX7_fault_24 : decode cX7_fault 24 = .ok (.goto 5, 3) := by decide +kernel
theorem dX7_fault_4 : decode cX7_fault 4 = .ok (.aload_n 0, 1) := by decide +kernel
theorem dX7_fault_5 : decode cX7_fault 5 = .ok (.getfield 21, 3) := by decide +kernel
theorem dX7_fault_8 : decode cX7_fault 8 = .ok (.invokevirtual 93, 3) := by decide +kernel
theorem dX7_fault_11 : decode cX7_fault 11 = .ok (.ireturn, 1) := by decide +kernel
theorem dX7_text_0 : decode cX7_text 0 = .ok (.iload_n 1, 1) := by decide +kernel
theorem dX7_text_1 : decode cX7_text 1 = .ok (.ifCond .ne 19, 3) := by decide +kernel
theorem dX7_text_20 : decode cX7_text 20 = .ok (.iload_n 1, 1) := by decide +kernel
theorem dX7_text_21 : decode cX7_text 21 = .ok (.iconst 1, 1) := by decide +kernel
theorem dX7_text_22 : decode cX7_text 22 = .ok (.if_icmp .ne 29, 3) := by decide +kernel
theorem dX7_text_51 : decode cX7_text 51 = .ok (.iconst (-1), 1) := by decide +kernel
theorem dX7_text_52 : decode cX7_text 52 = .ok (.ireturn, 1) := by decide +kernel
theorem dX7_text_25 : decode cX7_text 25 = .ok (.aload_n 0, 1) := by decide +kernel
theorem dX7_text_26 : decode cX7_text 26 = .ok (.getfield 28, 3) := by decide +kernel
theorem dX7_text_29 : decode cX7_text 29 = .ok (.invokevirtual 103, 3) := by decide +kernel
theorem dX7_text_32 : decode cX7_text 32 = .ok (.ifCond .ne 19, 3) := by decide +kernel
theorem dX7_text_35 : decode cX7_text 35 = .ok (.aload_n 0, 1) := by decide +kernel
theorem dX7_text_36 : decode cX7_text 36 = .ok (.getfield 21, 3) := by decide +kernel
theorem dX7_text_39 : decode cX7_text 39 = .ok (.invokevirtual 97, 3) := by decide +kernel
theorem dX7_text_42 : decode cX7_text 42 = .ok (.iconst (-1), 1) := by decide +kernel
theorem dX7_text_43 : decode cX7_text 43 = .ok (.if_icmp .ne 8, 3) := by decide +kernel
theorem dX7_text_4 : decode cX7_text 4 = .ok (.aload_n 0, 1) := by decide +kernel
theorem dX7_text_5 : decode cX7_text 5 = .ok (.getfield 21, 3) := by decide +kernel
theorem dX7_text_8 : decode cX7_text 8 = .ok (.invokevirtual 93, 3) := by decide +kernel
theorem dX7_text_11 : decode cX7_text 11 = .ok (.iconst (-1), 1) := by decide +kernel
theorem dX7_text_12 : decode cX7_text 12 = .ok (.if_icmp .ne 8, 3) := by decide +kernel
def v_c_cutTo : List Cond := .code yX6_cutTo cX6_cutTo 2 (some .boolean) :: ([.fieldLink RX6 15 "HushWatch$Tape" "length" "I"] ++ (wsX60 ++ ([])))
theorem gw_c_cutTo : v_c_cutTo.all goodWord = true := by decide +kernel
theorem i_c_cutTo_X6 : ∀ w ∈ wsX60, w ∈ v_c_cutTo := fun _ h => List.mem_cons_of_mem _ (List.mem_append_right _ (List.mem_append_left _ h))
set_option maxHeartbeats 4000000 in
set_option maxRecDepth 100000 in
theorem c_cutTo (l : Launch) (E : EE) (sz : Nat) (t b1 : Nat) (p0 : Int32) : Met l yX6_cutTo v_c_cutTo ({ frames := 0, cells := 0, slots := 0, locals := 0 }) (va_Pc [.ref t, .int p0] (pW E sz [(t, .inr (7, [.ref b1, .int 0]))])) (va_Qi (fun r (_u : Unit) => r = endv p0) (fun (_u : Unit) tt => va_P E.1 vwCl [] tt.heap ∧ va_D (va_A [(t, .inr (7, [.ref b1, .int 0]))] sz) []) (va_A [(t, .inr (7, [.ref b1, .int 0]))] sz)) 0 0 (va_A [(t, .inr (7, [.ref b1, .int 0]))] sz) := by
  refine Met.ofW (cc := cX6_cutTo) (maxL := 2) (ret := (some .boolean)) (by decide) rfl ?_
  intro p e s m args below meth c s₁ B hml hv
  obtain ⟨rfl, hsz, ⟨hK, hN⟩, hP, hD0⟩ := hv
  have hx := B.exec
  have hb := B.bytes
  have hr := B.returns
  have hts := atoms_spec (ws := v_c_cutTo) B.pre
  have hown : s.vm.findClass RX6 = some m.cls := findClass_of_methodNamed B.named
  have hlocks := B.notSynchronized
  subst hsz
  have hD := hD0.self (sz := s.heap.size)
  generalize hAe : va_A [(t, .inr (7, [.ref b1, .int 0]))] s.heap.size = A at hD ⊢
  have hA : ∀ q : Nat, s.heap.size ≤ q → A q := fun q h => by rw [← hAe]; exact Or.inr h
  have hS : va_S A s.heap s.heap [] := va_S.rf
  have hP : va_P E.1 vwCl [(t, .inr (7, [.ref b1, .int 0]))] s.heap := hP
  have hl := lv_entry ([.ref t, .int p0]) (n := 2) (Nat.le_of_ble_eq_true rfl)
  rw [lg_entry_eq]
  generalize (lg_sl ([.ref t, .int p0]) ++ List.replicate (2 - (lg_sl ([.ref t, .int p0])).length) Slot.unset).toArray = ls at hl ⊢
  have hl : lv_has ls 2 [(0, .ref t), (1, .int p0)] := hl
  refine lv_iload_n hx hb dX6_cutTo_0 rfl (lv_at hl 1 rfl) ?_
  refine lv_if_lt (tgt := 12) hx hb dX6_cutTo_1 (by decide) (fun c_1 => ?_) (fun c_1 => ?_)
  ·
    refine lv_iconst (v := 0) hx hb dX6_cutTo_12 (by decide) ?_
    have hP9 : va_P E.1 vwCl [] s.heap := fun k q h => by simp at h
    have hD9 : va_D A [] := ⟨fun i j p q h => by simp at h, fun k q h => by simp at h⟩
    exact W.zret (v := 0) hx hb hr rfl (fun tt ht hW => ⟨⟨_, (), rfl, (by have t0 : (0 : Int32).toInt = 0 := (by decide); simp only [Int32.lt_iff_toInt_lt, Int32.le_iff_toInt_le, ge_iff_le, gt_iff_lt, ne_eq, ← Int32.toInt_inj, t0] at c_1; unfold endv; rw [if_neg (by omega)]), by rw [ht]; exact hP9, hD9⟩, hS.F ht⟩) hS.2.2 dX6_cutTo_13
  ·
    refine lv_iload_n hx hb dX6_cutTo_4 rfl (lv_at hl 1 rfl) ?_
    refine lv_aload_n hx hb dX6_cutTo_5 rfl (lv_at hl 0 rfl) ?_
    refine va_get (D := E.1) (ci := 7) (v := .int 0) (C := RX6) (T := TX6) (N := 2) hx hb hts i_c_cutTo_X6 hown hK hP 0 rfl rfl 1 (by decide) (hts (.fieldLink RX6 15 "HushWatch$Tape" "length" "I") (List.mem_of_getElem? (i := 1) rfl)) (fun _ h9 => h9) rfl dX6_cutTo_6 ?_
    refine lv_icmp_le (tgt := 14) hx hb dX6_cutTo_9 (by decide) (fun c_2 => ?_) (fun c_2 => ?_)
    ·
      refine lv_aload_n hx hb dX6_cutTo_14 rfl (lv_at hl 0 rfl) ?_
      refine lv_iload_n hx hb dX6_cutTo_15 rfl (lv_at hl 1 rfl) ?_
      refine va_put (D := E.1) (ci := 7) (v := .int p0) (ty := .int) (C := RX6) (T := TX6) (N := 2) hx hb hts i_c_cutTo_X6 tyX6 tyX6_ok nmX6 hown hK hP hD hS 0 rfl rfl 1 (by decide) (hts (.fieldLink RX6 15 "HushWatch$Tape" "length" "I") (List.mem_of_getElem? (i := 1) rfl)) (fun _ h9 => h9) rfl (by decide +kernel) rfl rfl (Nat.le_of_ble_eq_true rfl) dX6_cutTo_16 (fun H locs hP hD hS => ?_)
      have hP : va_P E.1 vwCl [(t, .inr (7, [.ref b1, .int p0]))] H := hP
      have hD : va_D A [(t, .inr (7, [.ref b1, .int p0]))] := hD
      refine lv_iconst (v := 1) hx hb dX6_cutTo_19 (by decide) ?_
      have hP9 : va_P E.1 vwCl [] H := fun k q h => by simp at h
      have hD9 : va_D A [] := ⟨fun i j p q h => by simp at h, fun k q h => by simp at h⟩
      exact W.zret (v := 1) hx hb hr rfl (fun tt ht hW => ⟨⟨_, (), rfl, (by have t0 : (0 : Int32).toInt = 0 := (by decide); simp only [Int32.lt_iff_toInt_lt, Int32.le_iff_toInt_le, ge_iff_le, gt_iff_lt, ne_eq, ← Int32.toInt_inj, t0] at c_1 c_2; unfold endv; rw [if_pos (by omega)]), by rw [ht]; exact hP9, hD9⟩, hS.F ht⟩) hS.2.2 dX6_cutTo_20
    ·
      refine lv_iconst (v := 0) hx hb dX6_cutTo_12 (by decide) ?_
      have hP9 : va_P E.1 vwCl [] s.heap := fun k q h => by simp at h
      have hD9 : va_D A [] := ⟨fun i j p q h => by simp at h, fun k q h => by simp at h⟩
      exact W.zret (v := 0) hx hb hr rfl (fun tt ht hW => ⟨⟨_, (), rfl, (by have t0 : (0 : Int32).toInt = 0 := (by decide); simp only [Int32.lt_iff_toInt_lt, Int32.le_iff_toInt_le, ge_iff_le, gt_iff_lt, ne_eq, ← Int32.toInt_inj, t0] at c_1 c_2; unfold endv; rw [if_neg (by omega)]), by rw [ht]; exact hP9, hD9⟩, hS.F ht⟩) hS.2.2 dX6_cutTo_13

def v_c_end : List Cond := .code yX7_end cX7_end 2 (some .boolean) :: ([.fieldLink RX7 10 "HushWatch" "tape" "LHushWatch$Tape;", .methodLink RX7 89 yX6_cutTo, .instanceMethod yX6_cutTo, .selects RX6 yX6_cutTo yX6_cutTo, .initialized RX6] ++ (wsX70 ++ (v_c_cutTo ++ ([]))))
theorem gw_c_end : v_c_end.all goodWord = true := by decide +kernel
theorem i_c_end_X7 : ∀ w ∈ wsX70, w ∈ v_c_end := fun _ h => List.mem_cons_of_mem _ (List.mem_append_right _ (List.mem_append_left _ h))
theorem g_c_end_c_cutTo_89 : GoodIn v_c_end (wsV RX7 89 RX6 yX6_cutTo v_c_cutTo) := goodIn_app (goodIn_of _ (by decide +kernel)) (goodIn_sub (fun _ h => List.mem_cons_of_mem _ (List.mem_append_right _ (List.mem_append_right _ (List.mem_append_left _ h)))) gw_c_cutTo)
set_option maxHeartbeats 4000000 in
set_option maxRecDepth 100000 in
theorem c_end (l : Launch) (E : EE) (sz : Nat) (x t rd sc n tr kp bk kb hi dr rf : Nat) (b1 : Nat) (p0 : Int32) : Met l yX7_end v_c_end ({ frames := 1, cells := 0, slots := 0, locals := 21 }) (va_Pc [.ref x, .int p0] (pW E sz [(x, .inr (8, [.ref t, .ref rd, .ref sc, .ref n, .ref tr, .ref kp, .ref bk, .ref kb, .ref hi, .ref dr, .ref rf, .int 0])), (t, .inr (7, [.ref b1, .int 0]))])) (va_Qi (fun r (_u : Unit) => r = endv p0) (fun (_u : Unit) tt => va_P E.1 vwCl [] tt.heap ∧ va_D (va_A [(x, .inr (8, [.ref t, .ref rd, .ref sc, .ref n, .ref tr, .ref kp, .ref bk, .ref kb, .ref hi, .ref dr, .ref rf, .int 0])), (t, .inr (7, [.ref b1, .int 0]))] sz) []) (va_A [(x, .inr (8, [.ref t, .ref rd, .ref sc, .ref n, .ref tr, .ref kp, .ref bk, .ref kb, .ref hi, .ref dr, .ref rf, .int 0])), (t, .inr (7, [.ref b1, .int 0]))] sz)) 0 0 (va_A [(x, .inr (8, [.ref t, .ref rd, .ref sc, .ref n, .ref tr, .ref kp, .ref bk, .ref kb, .ref hi, .ref dr, .ref rf, .int 0])), (t, .inr (7, [.ref b1, .int 0]))] sz) := by
  refine Met.ofW (cc := cX7_end) (maxL := 2) (ret := (some .boolean)) (by decide) rfl ?_
  intro p e s m args below meth c s₁ B hml hv
  obtain ⟨rfl, hsz, ⟨hK, hN⟩, hP, hD0⟩ := hv
  have hx := B.exec
  have hb := B.bytes
  have hr := B.returns
  have hts := atoms_spec (ws := v_c_end) B.pre
  have hown : s.vm.findClass RX7 = some m.cls := findClass_of_methodNamed B.named
  have hlocks := B.notSynchronized
  subst hsz
  have hD := hD0.self (sz := s.heap.size)
  generalize hAe : va_A [(x, .inr (8, [.ref t, .ref rd, .ref sc, .ref n, .ref tr, .ref kp, .ref bk, .ref kb, .ref hi, .ref dr, .ref rf, .int 0])), (t, .inr (7, [.ref b1, .int 0]))] s.heap.size = A at hD ⊢
  have hA : ∀ q : Nat, s.heap.size ≤ q → A q := fun q h => by rw [← hAe]; exact Or.inr h
  have hS : va_S A s.heap s.heap [] := va_S.rf
  have hP : va_P E.1 vwCl [(x, .inr (8, [.ref t, .ref rd, .ref sc, .ref n, .ref tr, .ref kp, .ref bk, .ref kb, .ref hi, .ref dr, .ref rf, .int 0])), (t, .inr (7, [.ref b1, .int 0]))] s.heap := hP
  have hl := lv_entry ([.ref x, .int p0]) (n := 2) (Nat.le_of_ble_eq_true rfl)
  rw [lg_entry_eq]
  generalize (lg_sl ([.ref x, .int p0]) ++ List.replicate (2 - (lg_sl ([.ref x, .int p0])).length) Slot.unset).toArray = ls at hl ⊢
  have hl : lv_has ls 2 [(0, .ref x), (1, .int p0)] := hl
  refine lv_aload_n hx hb dX7_end_0 rfl (lv_at hl 0 rfl) ?_
  refine va_get (D := E.1) (ci := 8) (v := .ref t) (C := RX7) (T := TX7) (N := 12) hx hb hts i_c_end_X7 hown hK hP 0 rfl rfl 0 (by decide) (hts (.fieldLink RX7 10 "HushWatch" "tape" "LHushWatch$Tape;") (List.mem_of_getElem? (i := 1) rfl)) (fun _ h9 => h9) rfl dX7_end_1 ?_
  refine lv_iload_n hx hb dX7_end_4 rfl (lv_at hl 1 rfl) ?_
  have hPc := hP.sub (ws' := [(t, .inr (7, [.ref b1, .int 0]))]) [1] rfl
  have hDc := hD.sub (ws' := [(t, .inr (7, [.ref b1, .int 0]))]) [1] (by decide) rfl
  have hFc := va_free (wc := [(t, .inr (7, [.ref b1, .int 0]))]) hD hS hA [1] rfl
  refine va_calli (va_runV (As := [.int p0]) (rest := []) ⟨hx, hb, hml, hown, hts⟩ (c_cutTo l E s.heap.size t b1 p0) (cwV 1 hts g_c_end_c_cutTo_89 rfl rfl rfl (by decide +kernel) ⟨Nat.le_of_ble_eq_true rfl, Nat.le_of_ble_eq_true rfl⟩) ⟨pW.blind, va_recv hK hPc (ci := 7) (q0 := 0) rfl rfl, (pW.pre ⟨hK, hN⟩ hPc hDc)⟩ rfl rfl hl.1 rfl (lv_room (Nat.le_of_ble_eq_true rfl)) dX7_end_5 ⟨Nat.le_of_ble_eq_true rfl, Nat.le_of_ble_eq_true rfl⟩) hS (fun q _ h => hFc q h) hFc (fun r_1 u tt H1 locs ht hvm hw hB hz1 hk1 hS => ?_)
  obtain ⟨hP1, hD1⟩ := hB
  rw [ht] at hP1
  obtain ⟨hP, hD⟩ := va_join (wr := [(x, .inr (8, [.ref t, .ref rd, .ref sc, .ref n, .ref tr, .ref kp, .ref bk, .ref kb, .ref hi, .ref dr, .ref rf, .int 0]))]) (w1 := []) hP hD [1] [0] rfl rfl (by decide) (by decide) hk1 hFc hP1 hD1
  generalize H1 = H at hP hS ⊢
  have hP : va_P E.1 vwCl [(x, .inr (8, [.ref t, .ref rd, .ref sc, .ref n, .ref tr, .ref kp, .ref bk, .ref kb, .ref hi, .ref dr, .ref rf, .int 0]))] H := hP
  have hD : va_D A [(x, .inr (8, [.ref t, .ref rd, .ref sc, .ref n, .ref tr, .ref kp, .ref bk, .ref kb, .ref hi, .ref dr, .ref rf, .int 0]))] := hD
  have hr_1 := hw
  have hP9 : va_P E.1 vwCl [] H := fun k q h => by simp at h
  have hD9 : va_D A [] := ⟨fun i j p q h => by simp at h, fun k q h => by simp at h⟩
  exact W.zret (v := r_1) hx hb hr (by rw [hr_1]; unfold endv; split <;> rfl) (fun tt ht hW => ⟨⟨_, (), rfl, hr_1, by rw [ht]; exact hP9, hD9⟩, hS.F ht⟩) hS.2.2 dX7_end_8

def v_c_skipBlanks : List Cond := .code yX3_skipBlanks cX3_skipBlanks 1 none :: ([.fieldLink RX3 31 "HushWatch$Reader" "at" "I", .fieldLink RX3 43 "HushWatch$Reader" "tape" "LHushWatch$Tape;"] ++ (wsX30 ++ (wsX60 ++ ([]))))
theorem gw_c_skipBlanks : v_c_skipBlanks.all goodWord = true := by decide +kernel
theorem i_c_skipBlanks_X3 : ∀ w ∈ wsX30, w ∈ v_c_skipBlanks := fun _ h => List.mem_cons_of_mem _ (List.mem_append_right _ (List.mem_append_left _ h))
theorem i_c_skipBlanks_X6 : ∀ w ∈ wsX60, w ∈ v_c_skipBlanks := fun _ h => List.mem_cons_of_mem _ (List.mem_append_right _ (List.mem_append_right _ (List.mem_append_left _ h)))
set_option maxHeartbeats 4000000 in
set_option maxRecDepth 100000 in
theorem c_skipBlanks (l : Launch) (E : EE) (rd t r1 r2 r3 b1 : Nat) : Met l yX3_skipBlanks v_c_skipBlanks ({ frames := 0, cells := 0, slots := 0, locals := 0 }) (va_Pc [.ref rd] (pP E [(rd, .inr (4, [.ref t, .ref r1, .ref r2, .ref r3, .int 0, .int 0, .int 0, .int 0, .int 0, .int 0, .int (-1)])), (t, .inr (7, [.ref b1, .int 0]))])) (va_Sv (fun _ => True)) 0 0 (fun _ => False) := by
  refine Met.ofW (cc := cX3_skipBlanks) (maxL := 1) (ret := none) (by decide) rfl ?_
  intro p e s m args below meth c s₁ B hml hv
  obtain ⟨rfl, ⟨hK, hN⟩, hP⟩ := hv
  have hx := B.exec
  have hb := B.bytes
  have hr := B.returns
  have hts := atoms_spec (ws := v_c_skipBlanks) B.pre
  have hown : s.vm.findClass RX3 = some m.cls := findClass_of_methodNamed B.named
  have hlocks := B.notSynchronized
  have hP : va_P E.1 vwCl [(rd, .inr (4, [.ref t, .ref r1, .ref r2, .ref r3, .int 0, .int 0, .int 0, .int 0, .int 0, .int 0, .int (-1)])), (t, .inr (7, [.ref b1, .int 0]))] s.heap := hP
  have hl := lv_entry ([.ref rd]) (n := 1) (Nat.le_of_ble_eq_true rfl)
  rw [lg_entry_eq]
  generalize (lg_sl ([.ref rd]) ++ List.replicate (1 - (lg_sl ([.ref rd])).length) Slot.unset).toArray = ls at hl ⊢
  have hl : lv_has ls 1 [(0, .ref rd)] := hl
  refine lv_aload_n hx hb dX3_skipBlanks_0 rfl (lv_at hl 0 rfl) ?_
  refine va_get (D := E.1) (ci := 4) (v := .int 0) (C := RX3) (T := TX3) (N := 11) hx hb hts i_c_skipBlanks_X3 hown hK hP 0 rfl rfl 7 (by decide) (hts (.fieldLink RX3 31 "HushWatch$Reader" "at" "I") (List.mem_of_getElem? (i := 1) rfl)) (fun _ h9 => h9) rfl dX3_skipBlanks_1 ?_
  refine lv_aload_n hx hb dX3_skipBlanks_4 rfl (lv_at hl 0 rfl) ?_
  refine va_get (D := E.1) (ci := 4) (v := .ref t) (C := RX3) (T := TX3) (N := 11) hx hb hts i_c_skipBlanks_X3 hown hK hP 0 rfl rfl 0 (by decide) (hts (.fieldLink RX3 43 "HushWatch$Reader" "tape" "LHushWatch$Tape;") (List.mem_of_getElem? (i := 2) rfl)) (fun _ h9 => h9) rfl dX3_skipBlanks_5 ?_
  refine va_getN (D := E.1) (ci := 7) (v := .int 0) (C := RX6) (T := TX6) (N := 2) hx hb hts i_c_skipBlanks_X6 hown hK hP 1 rfl rfl 1 (by decide) (nx hN 2 rfl) (fun _ h9 => h9) rfl dX3_skipBlanks_8 ?_
  refine lv_icmp_ge (tgt := 43) hx hb dX3_skipBlanks_11 (by decide) (fun _ => ?_) (fun q => absurd (by decide) q)
  exact W.vret hx hb hr (fun tt ht hW => ⟨rfl, trivial, ht⟩) (fun _ h => by cases h) dX3_skipBlanks_43

def v_c_start : List Cond := .code yX3_start cX3_start 1 none :: ([.fieldLink RX3 9 "HushWatch$Reader" "rules" "[I", .fieldLink RX3 21 "HushWatch$Reader" "siteCount" "I", .fieldLink RX3 25 "HushWatch$Reader" "stepCount" "I", .fieldLink RX3 28 "HushWatch$Reader" "seenRules" "I", .fieldLink RX3 31 "HushWatch$Reader" "at" "I", .fieldLink RX3 40 "HushWatch$Reader" "failed" "I"] ++ (wsX30 ++ ([])))
theorem gw_c_start : v_c_start.all goodWord = true := by decide +kernel
theorem i_c_start_X3 : ∀ w ∈ wsX30, w ∈ v_c_start := fun _ h => List.mem_cons_of_mem _ (List.mem_append_right _ (List.mem_append_left _ h))
set_option maxHeartbeats 4000000 in
set_option maxRecDepth 100000 in
theorem c_start (l : Launch) (E : EE) (sz : Nat) (rd t r1 r2 r3 : Nat) (f : Nat → Int32) : Met l yX3_start v_c_start ({ frames := 0, cells := 0, slots := 0, locals := 0 }) (va_Pc [.ref rd] (pW E sz [(rd, .inr (4, [.ref t, .ref r1, .ref r2, .ref r3, .int 0, .int 0, .int 0, .int 0, .int 0, .int 0, .int (-1)])), (r1, .inl (E.2.1, 3, .inl f))])) (va_Qv (fun (f1 : Nat → Int32) => True) (fun (f1 : Nat → Int32) tt => va_P E.1 vwCl [(rd, .inr (4, [.ref t, .ref r1, .ref r2, .ref r3, .int 0, .int 0, .int 0, .int 0, .int 0, .int 0, .int (-1)])), (r1, .inl (E.2.1, 3, .inl f1))] tt.heap ∧ va_D (va_A [(rd, .inr (4, [.ref t, .ref r1, .ref r2, .ref r3, .int 0, .int 0, .int 0, .int 0, .int 0, .int 0, .int (-1)])), (r1, .inl (E.2.1, 3, .inl f))] sz) [(rd, .inr (4, [.ref t, .ref r1, .ref r2, .ref r3, .int 0, .int 0, .int 0, .int 0, .int 0, .int 0, .int (-1)])), (r1, .inl (E.2.1, 3, .inl f1))]) (va_A [(rd, .inr (4, [.ref t, .ref r1, .ref r2, .ref r3, .int 0, .int 0, .int 0, .int 0, .int 0, .int 0, .int (-1)])), (r1, .inl (E.2.1, 3, .inl f))] sz)) 0 0 (va_A [(rd, .inr (4, [.ref t, .ref r1, .ref r2, .ref r3, .int 0, .int 0, .int 0, .int 0, .int 0, .int 0, .int (-1)])), (r1, .inl (E.2.1, 3, .inl f))] sz) := by
  refine Met.ofW (cc := cX3_start) (maxL := 1) (ret := none) (by decide) rfl ?_
  intro p e s m args below meth c s₁ B hml hv
  obtain ⟨rfl, hsz, ⟨hK, hN⟩, hP, hD0⟩ := hv
  have hx := B.exec
  have hb := B.bytes
  have hr := B.returns
  have hts := atoms_spec (ws := v_c_start) B.pre
  have hown : s.vm.findClass RX3 = some m.cls := findClass_of_methodNamed B.named
  have hlocks := B.notSynchronized
  subst hsz
  have hD := hD0.self (sz := s.heap.size)
  generalize hAe : va_A [(rd, .inr (4, [.ref t, .ref r1, .ref r2, .ref r3, .int 0, .int 0, .int 0, .int 0, .int 0, .int 0, .int (-1)])), (r1, .inl (E.2.1, 3, .inl f))] s.heap.size = A at hD ⊢
  have hA : ∀ q : Nat, s.heap.size ≤ q → A q := fun q h => by rw [← hAe]; exact Or.inr h
  have hS : va_S A s.heap s.heap [] := va_S.rf
  have hP : va_P E.1 vwCl [(rd, .inr (4, [.ref t, .ref r1, .ref r2, .ref r3, .int 0, .int 0, .int 0, .int 0, .int 0, .int 0, .int (-1)])), (r1, .inl (E.2.1, 3, .inl f))] s.heap := hP
  have hl := lv_entry ([.ref rd]) (n := 1) (Nat.le_of_ble_eq_true rfl)
  rw [lg_entry_eq]
  generalize (lg_sl ([.ref rd]) ++ List.replicate (1 - (lg_sl ([.ref rd])).length) Slot.unset).toArray = ls at hl ⊢
  have hl : lv_has ls 1 [(0, .ref rd)] := hl
  refine lv_aload_n hx hb dX3_start_0 rfl (lv_at hl 0 rfl) ?_
  refine va_get (D := E.1) (ci := 4) (v := .ref r1) (C := RX3) (T := TX3) (N := 11) hx hb hts i_c_start_X3 hown hK hP 0 rfl rfl 1 (by decide) (hts (.fieldLink RX3 9 "HushWatch$Reader" "rules" "[I") (List.mem_of_getElem? (i := 1) rfl)) (fun _ h9 => h9) rfl dX3_start_1 ?_
  refine lv_iconst (v := 0) hx hb dX3_start_4 (by decide) ?_
  refine lv_iconst (v := 0) hx hb dX3_start_5 (by decide) ?_
  refine va_iast hx hb hK hP hD hS 1 0 rfl rfl (vin rfl) dX3_start_6 (fun H locs hP hD hS => ?_)
  have hP : va_P E.1 vwCl [(rd, .inr (4, [.ref t, .ref r1, .ref r2, .ref r3, .int 0, .int 0, .int 0, .int 0, .int 0, .int 0, .int (-1)])), (r1, .inl (E.2.1, 3, .inl (upd f (0 : Int32).toNatClampNeg 0)))] H := hP
  have hD : va_D A [(rd, .inr (4, [.ref t, .ref r1, .ref r2, .ref r3, .int 0, .int 0, .int 0, .int 0, .int 0, .int 0, .int (-1)])), (r1, .inl (E.2.1, 3, .inl (upd f (0 : Int32).toNatClampNeg 0)))] := hD
  generalize upd f (0 : Int32).toNatClampNeg 0 = f_1 at hP hD
  refine lv_aload_n hx hb dX3_start_7 rfl (lv_at hl 0 rfl) ?_
  refine va_get (D := E.1) (ci := 4) (v := .ref r1) (C := RX3) (T := TX3) (N := 11) hx hb hts i_c_start_X3 hown hK hP 0 rfl rfl 1 (by decide) (hts (.fieldLink RX3 9 "HushWatch$Reader" "rules" "[I") (List.mem_of_getElem? (i := 1) rfl)) (fun _ h9 => h9) rfl dX3_start_8 ?_
  refine lv_iconst (v := 1) hx hb dX3_start_11 (by decide) ?_
  refine lv_sipush (v := 1000) hx hb dX3_start_12 (by decide) ?_
  refine va_iast hx hb hK hP hD hS 1 0 rfl rfl (vin rfl) dX3_start_15 (fun H locs hP hD hS => ?_)
  have hP : va_P E.1 vwCl [(rd, .inr (4, [.ref t, .ref r1, .ref r2, .ref r3, .int 0, .int 0, .int 0, .int 0, .int 0, .int 0, .int (-1)])), (r1, .inl (E.2.1, 3, .inl (upd f_1 (1 : Int32).toNatClampNeg 1000)))] H := hP
  have hD : va_D A [(rd, .inr (4, [.ref t, .ref r1, .ref r2, .ref r3, .int 0, .int 0, .int 0, .int 0, .int 0, .int 0, .int (-1)])), (r1, .inl (E.2.1, 3, .inl (upd f_1 (1 : Int32).toNatClampNeg 1000)))] := hD
  generalize upd f_1 (1 : Int32).toNatClampNeg 1000 = f_2 at hP hD
  refine lv_aload_n hx hb dX3_start_16 rfl (lv_at hl 0 rfl) ?_
  refine va_get (D := E.1) (ci := 4) (v := .ref r1) (C := RX3) (T := TX3) (N := 11) hx hb hts i_c_start_X3 hown hK hP 0 rfl rfl 1 (by decide) (hts (.fieldLink RX3 9 "HushWatch$Reader" "rules" "[I") (List.mem_of_getElem? (i := 1) rfl)) (fun _ h9 => h9) rfl dX3_start_17 ?_
  refine lv_iconst (v := 2) hx hb dX3_start_20 (by decide) ?_
  refine lv_bipush (v := 100) hx hb dX3_start_21 (by decide) ?_
  refine va_iast hx hb hK hP hD hS 1 0 rfl rfl (vin rfl) dX3_start_23 (fun H locs hP hD hS => ?_)
  have hP : va_P E.1 vwCl [(rd, .inr (4, [.ref t, .ref r1, .ref r2, .ref r3, .int 0, .int 0, .int 0, .int 0, .int 0, .int 0, .int (-1)])), (r1, .inl (E.2.1, 3, .inl (upd f_2 (2 : Int32).toNatClampNeg 100)))] H := hP
  have hD : va_D A [(rd, .inr (4, [.ref t, .ref r1, .ref r2, .ref r3, .int 0, .int 0, .int 0, .int 0, .int 0, .int 0, .int (-1)])), (r1, .inl (E.2.1, 3, .inl (upd f_2 (2 : Int32).toNatClampNeg 100)))] := hD
  generalize upd f_2 (2 : Int32).toNatClampNeg 100 = f_3 at hP hD
  refine lv_aload_n hx hb dX3_start_24 rfl (lv_at hl 0 rfl) ?_
  refine lv_iconst (v := 0) hx hb dX3_start_25 (by decide) ?_
  refine va_put (D := E.1) (ci := 4) (v := .int 0) (ty := .int) (C := RX3) (T := TX3) (N := 11) hx hb hts i_c_start_X3 tyX3 tyX3_ok nmX3 hown hK hP hD hS 0 rfl rfl 4 (by decide) (hts (.fieldLink RX3 21 "HushWatch$Reader" "siteCount" "I") (List.mem_of_getElem? (i := 2) rfl)) (fun _ h9 => h9) rfl (by decide +kernel) rfl rfl (Nat.le_of_ble_eq_true rfl) dX3_start_26 (fun H locs hP hD hS => ?_)
  have hP : va_P E.1 vwCl [(rd, .inr (4, [.ref t, .ref r1, .ref r2, .ref r3, .int 0, .int 0, .int 0, .int 0, .int 0, .int 0, .int (-1)])), (r1, .inl (E.2.1, 3, .inl f_3))] H := hP
  have hD : va_D A [(rd, .inr (4, [.ref t, .ref r1, .ref r2, .ref r3, .int 0, .int 0, .int 0, .int 0, .int 0, .int 0, .int (-1)])), (r1, .inl (E.2.1, 3, .inl f_3))] := hD
  refine lv_aload_n hx hb dX3_start_29 rfl (lv_at hl 0 rfl) ?_
  refine lv_iconst (v := 0) hx hb dX3_start_30 (by decide) ?_
  refine va_put (D := E.1) (ci := 4) (v := .int 0) (ty := .int) (C := RX3) (T := TX3) (N := 11) hx hb hts i_c_start_X3 tyX3 tyX3_ok nmX3 hown hK hP hD hS 0 rfl rfl 5 (by decide) (hts (.fieldLink RX3 25 "HushWatch$Reader" "stepCount" "I") (List.mem_of_getElem? (i := 3) rfl)) (fun _ h9 => h9) rfl (by decide +kernel) rfl rfl (Nat.le_of_ble_eq_true rfl) dX3_start_31 (fun H locs hP hD hS => ?_)
  have hP : va_P E.1 vwCl [(rd, .inr (4, [.ref t, .ref r1, .ref r2, .ref r3, .int 0, .int 0, .int 0, .int 0, .int 0, .int 0, .int (-1)])), (r1, .inl (E.2.1, 3, .inl f_3))] H := hP
  have hD : va_D A [(rd, .inr (4, [.ref t, .ref r1, .ref r2, .ref r3, .int 0, .int 0, .int 0, .int 0, .int 0, .int 0, .int (-1)])), (r1, .inl (E.2.1, 3, .inl f_3))] := hD
  refine lv_aload_n hx hb dX3_start_34 rfl (lv_at hl 0 rfl) ?_
  refine lv_iconst (v := 0) hx hb dX3_start_35 (by decide) ?_
  refine va_put (D := E.1) (ci := 4) (v := .int 0) (ty := .int) (C := RX3) (T := TX3) (N := 11) hx hb hts i_c_start_X3 tyX3 tyX3_ok nmX3 hown hK hP hD hS 0 rfl rfl 6 (by decide) (hts (.fieldLink RX3 28 "HushWatch$Reader" "seenRules" "I") (List.mem_of_getElem? (i := 4) rfl)) (fun _ h9 => h9) rfl (by decide +kernel) rfl rfl (Nat.le_of_ble_eq_true rfl) dX3_start_36 (fun H locs hP hD hS => ?_)
  have hP : va_P E.1 vwCl [(rd, .inr (4, [.ref t, .ref r1, .ref r2, .ref r3, .int 0, .int 0, .int 0, .int 0, .int 0, .int 0, .int (-1)])), (r1, .inl (E.2.1, 3, .inl f_3))] H := hP
  have hD : va_D A [(rd, .inr (4, [.ref t, .ref r1, .ref r2, .ref r3, .int 0, .int 0, .int 0, .int 0, .int 0, .int 0, .int (-1)])), (r1, .inl (E.2.1, 3, .inl f_3))] := hD
  refine lv_aload_n hx hb dX3_start_39 rfl (lv_at hl 0 rfl) ?_
  refine lv_iconst (v := 0) hx hb dX3_start_40 (by decide) ?_
  refine va_put (D := E.1) (ci := 4) (v := .int 0) (ty := .int) (C := RX3) (T := TX3) (N := 11) hx hb hts i_c_start_X3 tyX3 tyX3_ok nmX3 hown hK hP hD hS 0 rfl rfl 7 (by decide) (hts (.fieldLink RX3 31 "HushWatch$Reader" "at" "I") (List.mem_of_getElem? (i := 5) rfl)) (fun _ h9 => h9) rfl (by decide +kernel) rfl rfl (Nat.le_of_ble_eq_true rfl) dX3_start_41 (fun H locs hP hD hS => ?_)
  have hP : va_P E.1 vwCl [(rd, .inr (4, [.ref t, .ref r1, .ref r2, .ref r3, .int 0, .int 0, .int 0, .int 0, .int 0, .int 0, .int (-1)])), (r1, .inl (E.2.1, 3, .inl f_3))] H := hP
  have hD : va_D A [(rd, .inr (4, [.ref t, .ref r1, .ref r2, .ref r3, .int 0, .int 0, .int 0, .int 0, .int 0, .int 0, .int (-1)])), (r1, .inl (E.2.1, 3, .inl f_3))] := hD
  refine lv_aload_n hx hb dX3_start_44 rfl (lv_at hl 0 rfl) ?_
  refine lv_iconst (v := -1) hx hb dX3_start_45 (by decide) ?_
  refine va_put (D := E.1) (ci := 4) (v := .int (-1)) (ty := .int) (C := RX3) (T := TX3) (N := 11) hx hb hts i_c_start_X3 tyX3 tyX3_ok nmX3 hown hK hP hD hS 0 rfl rfl 10 (by decide) (hts (.fieldLink RX3 40 "HushWatch$Reader" "failed" "I") (List.mem_of_getElem? (i := 6) rfl)) (fun _ h9 => h9) rfl (by decide +kernel) rfl rfl (Nat.le_of_ble_eq_true rfl) dX3_start_46 (fun H locs hP hD hS => ?_)
  have hP : va_P E.1 vwCl [(rd, .inr (4, [.ref t, .ref r1, .ref r2, .ref r3, .int 0, .int 0, .int 0, .int 0, .int 0, .int 0, .int (-1)])), (r1, .inl (E.2.1, 3, .inl f_3))] H := hP
  have hD : va_D A [(rd, .inr (4, [.ref t, .ref r1, .ref r2, .ref r3, .int 0, .int 0, .int 0, .int 0, .int 0, .int 0, .int (-1)])), (r1, .inl (E.2.1, 3, .inl f_3))] := hD
  have hP9 := hP.sub (ws' := [(rd, .inr (4, [.ref t, .ref r1, .ref r2, .ref r3, .int 0, .int 0, .int 0, .int 0, .int 0, .int 0, .int (-1)])), (r1, .inl (E.2.1, 3, .inl f_3))]) [0, 1] rfl
  have hD9 := hD.sub (ws' := [(rd, .inr (4, [.ref t, .ref r1, .ref r2, .ref r3, .int 0, .int 0, .int 0, .int 0, .int 0, .int 0, .int (-1)])), (r1, .inl (E.2.1, 3, .inl f_3))]) [0, 1] (by decide) rfl
  exact W.vret hx hb hr (fun tt ht hW => ⟨⟨f_3, rfl, trivial, by rw [ht]; exact hP9, hD9⟩, hS.F ht⟩) hS.2.2 dX3_start_49

def v_c_failAt : List Cond := .code yX3_failAt cX3_failAt 2 (some .boolean) :: ([.fieldLink RX3 40 "HushWatch$Reader" "failed" "I"] ++ (wsX30 ++ ([])))
theorem gw_c_failAt : v_c_failAt.all goodWord = true := by decide +kernel
theorem i_c_failAt_X3 : ∀ w ∈ wsX30, w ∈ v_c_failAt := fun _ h => List.mem_cons_of_mem _ (List.mem_append_right _ (List.mem_append_left _ h))
set_option maxHeartbeats 4000000 in
set_option maxRecDepth 100000 in
theorem c_failAt (l : Launch) (E : EE) (sz : Nat) (rd t r1 r2 r3 : Nat) : Met l yX3_failAt v_c_failAt ({ frames := 0, cells := 0, slots := 0, locals := 0 }) (va_Pc [.ref rd, .int 0] (pW E sz [(rd, .inr (4, [.ref t, .ref r1, .ref r2, .ref r3, .int 0, .int 0, .int 0, .int 0, .int 0, .int 0, .int (-1)]))])) (va_Qi (fun r (_u : Unit) => r = 0) (fun (_u : Unit) tt => va_P E.1 vwCl [(rd, .inr (4, [.ref t, .ref r1, .ref r2, .ref r3, .int 0, .int 0, .int 0, .int 0, .int 0, .int 0, .int 0]))] tt.heap ∧ va_D (va_A [(rd, .inr (4, [.ref t, .ref r1, .ref r2, .ref r3, .int 0, .int 0, .int 0, .int 0, .int 0, .int 0, .int (-1)]))] sz) [(rd, .inr (4, [.ref t, .ref r1, .ref r2, .ref r3, .int 0, .int 0, .int 0, .int 0, .int 0, .int 0, .int 0]))]) (va_A [(rd, .inr (4, [.ref t, .ref r1, .ref r2, .ref r3, .int 0, .int 0, .int 0, .int 0, .int 0, .int 0, .int (-1)]))] sz)) 0 0 (va_A [(rd, .inr (4, [.ref t, .ref r1, .ref r2, .ref r3, .int 0, .int 0, .int 0, .int 0, .int 0, .int 0, .int (-1)]))] sz) := by
  refine Met.ofW (cc := cX3_failAt) (maxL := 2) (ret := (some .boolean)) (by decide) rfl ?_
  intro p e s m args below meth c s₁ B hml hv
  obtain ⟨rfl, hsz, ⟨hK, hN⟩, hP, hD0⟩ := hv
  have hx := B.exec
  have hb := B.bytes
  have hr := B.returns
  have hts := atoms_spec (ws := v_c_failAt) B.pre
  have hown : s.vm.findClass RX3 = some m.cls := findClass_of_methodNamed B.named
  have hlocks := B.notSynchronized
  subst hsz
  have hD := hD0.self (sz := s.heap.size)
  generalize hAe : va_A [(rd, .inr (4, [.ref t, .ref r1, .ref r2, .ref r3, .int 0, .int 0, .int 0, .int 0, .int 0, .int 0, .int (-1)]))] s.heap.size = A at hD ⊢
  have hA : ∀ q : Nat, s.heap.size ≤ q → A q := fun q h => by rw [← hAe]; exact Or.inr h
  have hS : va_S A s.heap s.heap [] := va_S.rf
  have hP : va_P E.1 vwCl [(rd, .inr (4, [.ref t, .ref r1, .ref r2, .ref r3, .int 0, .int 0, .int 0, .int 0, .int 0, .int 0, .int (-1)]))] s.heap := hP
  have hl := lv_entry ([.ref rd, .int 0]) (n := 2) (Nat.le_of_ble_eq_true rfl)
  rw [lg_entry_eq]
  generalize (lg_sl ([.ref rd, .int 0]) ++ List.replicate (2 - (lg_sl ([.ref rd, .int 0])).length) Slot.unset).toArray = ls at hl ⊢
  have hl : lv_has ls 2 [(0, .ref rd), (1, .int 0)] := hl
  refine lv_aload_n hx hb dX3_failAt_0 rfl (lv_at hl 0 rfl) ?_
  refine lv_iload_n hx hb dX3_failAt_1 rfl (lv_at hl 1 rfl) ?_
  refine va_put (D := E.1) (ci := 4) (v := .int 0) (ty := .int) (C := RX3) (T := TX3) (N := 11) hx hb hts i_c_failAt_X3 tyX3 tyX3_ok nmX3 hown hK hP hD hS 0 rfl rfl 10 (by decide) (hts (.fieldLink RX3 40 "HushWatch$Reader" "failed" "I") (List.mem_of_getElem? (i := 1) rfl)) (fun _ h9 => h9) rfl (by decide +kernel) rfl rfl (Nat.le_of_ble_eq_true rfl) dX3_failAt_2 (fun H locs hP hD hS => ?_)
  have hP : va_P E.1 vwCl [(rd, .inr (4, [.ref t, .ref r1, .ref r2, .ref r3, .int 0, .int 0, .int 0, .int 0, .int 0, .int 0, .int 0]))] H := hP
  have hD : va_D A [(rd, .inr (4, [.ref t, .ref r1, .ref r2, .ref r3, .int 0, .int 0, .int 0, .int 0, .int 0, .int 0, .int 0]))] := hD
  refine lv_iconst (v := 0) hx hb dX3_failAt_5 (by decide) ?_
  have hP9 := hP.sub (ws' := [(rd, .inr (4, [.ref t, .ref r1, .ref r2, .ref r3, .int 0, .int 0, .int 0, .int 0, .int 0, .int 0, .int 0]))]) [0] rfl
  have hD9 := hD.sub (ws' := [(rd, .inr (4, [.ref t, .ref r1, .ref r2, .ref r3, .int 0, .int 0, .int 0, .int 0, .int 0, .int 0, .int 0]))]) [0] (by decide) rfl
  exact W.zret (v := 0) hx hb hr rfl (fun tt ht hW => ⟨⟨_, (), rfl, rfl, by rw [ht]; exact hP9, hD9⟩, hS.F ht⟩) hS.2.2 dX3_failAt_6

def v_c_readWord : List Cond := .code yX3_readWord cX3_readWord 1 (some .boolean) :: ([.fieldLink RX3 31 "HushWatch$Reader" "at" "I", .fieldLink RX3 34 "HushWatch$Reader" "wordStart" "I", .fieldLink RX3 43 "HushWatch$Reader" "tape" "LHushWatch$Tape;", .methodLink RX3 140 yX3_skipBlanks, .instanceMethod yX3_skipBlanks, .selects RX3 yX3_skipBlanks yX3_skipBlanks, .initialized RX3, .methodLink RX3 87 yX3_failAt, .instanceMethod yX3_failAt, .selects RX3 yX3_failAt yX3_failAt] ++ (v_c_skipBlanks ++ (wsX30 ++ (wsX60 ++ (v_c_failAt ++ ([]))))))
theorem gw_c_readWord : v_c_readWord.all goodWord = true := by decide +kernel
theorem i_c_readWord_X3 : ∀ w ∈ wsX30, w ∈ v_c_readWord := fun _ h => List.mem_cons_of_mem _ (List.mem_append_right _ (List.mem_append_right _ (List.mem_append_left _ h)))
theorem i_c_readWord_X6 : ∀ w ∈ wsX60, w ∈ v_c_readWord := fun _ h => List.mem_cons_of_mem _ (List.mem_append_right _ (List.mem_append_right _ (List.mem_append_right _ (List.mem_append_left _ h))))
theorem g_c_readWord_c_skipBlanks_140 : GoodIn v_c_readWord (wsV RX3 140 RX3 yX3_skipBlanks v_c_skipBlanks) := goodIn_app (goodIn_of _ (by decide +kernel)) (goodIn_sub (fun _ h => List.mem_cons_of_mem _ (List.mem_append_right _ (List.mem_append_left _ h))) gw_c_skipBlanks)
theorem g_c_readWord_c_failAt_87 : GoodIn v_c_readWord (wsV RX3 87 RX3 yX3_failAt v_c_failAt) := goodIn_app (goodIn_of _ (by decide +kernel)) (goodIn_sub (fun _ h => List.mem_cons_of_mem _ (List.mem_append_right _ (List.mem_append_right _ (List.mem_append_right _ (List.mem_append_right _ (List.mem_append_left _ h)))))) gw_c_failAt)
set_option maxHeartbeats 4000000 in
set_option maxRecDepth 100000 in
theorem c_readWord (l : Launch) (E : EE) (sz : Nat) (rd t r1 r2 r3 b1 : Nat) : Met l yX3_readWord v_c_readWord ({ frames := 1, cells := 0, slots := 0, locals := 21 }) (va_Pc [.ref rd] (pW E sz [(rd, .inr (4, [.ref t, .ref r1, .ref r2, .ref r3, .int 0, .int 0, .int 0, .int 0, .int 0, .int 0, .int (-1)])), (t, .inr (7, [.ref b1, .int 0]))])) (va_Qi (fun r (_u : Unit) => r = 0) (fun (_u : Unit) tt => va_P E.1 vwCl [(rd, .inr (4, [.ref t, .ref r1, .ref r2, .ref r3, .int 0, .int 0, .int 0, .int 0, .int 0, .int 0, .int 0])), (t, .inr (7, [.ref b1, .int 0]))] tt.heap ∧ va_D (va_A [(rd, .inr (4, [.ref t, .ref r1, .ref r2, .ref r3, .int 0, .int 0, .int 0, .int 0, .int 0, .int 0, .int (-1)])), (t, .inr (7, [.ref b1, .int 0]))] sz) [(rd, .inr (4, [.ref t, .ref r1, .ref r2, .ref r3, .int 0, .int 0, .int 0, .int 0, .int 0, .int 0, .int 0])), (t, .inr (7, [.ref b1, .int 0]))]) (va_A [(rd, .inr (4, [.ref t, .ref r1, .ref r2, .ref r3, .int 0, .int 0, .int 0, .int 0, .int 0, .int 0, .int (-1)])), (t, .inr (7, [.ref b1, .int 0]))] sz)) 0 0 (va_A [(rd, .inr (4, [.ref t, .ref r1, .ref r2, .ref r3, .int 0, .int 0, .int 0, .int 0, .int 0, .int 0, .int (-1)])), (t, .inr (7, [.ref b1, .int 0]))] sz) := by
  refine Met.ofW (cc := cX3_readWord) (maxL := 1) (ret := (some .boolean)) (by decide) rfl ?_
  intro p e s m args below meth c s₁ B hml hv
  obtain ⟨rfl, hsz, ⟨hK, hN⟩, hP, hD0⟩ := hv
  have hx := B.exec
  have hb := B.bytes
  have hr := B.returns
  have hts := atoms_spec (ws := v_c_readWord) B.pre
  have hown : s.vm.findClass RX3 = some m.cls := findClass_of_methodNamed B.named
  have hlocks := B.notSynchronized
  subst hsz
  have hD := hD0.self (sz := s.heap.size)
  generalize hAe : va_A [(rd, .inr (4, [.ref t, .ref r1, .ref r2, .ref r3, .int 0, .int 0, .int 0, .int 0, .int 0, .int 0, .int (-1)])), (t, .inr (7, [.ref b1, .int 0]))] s.heap.size = A at hD ⊢
  have hA : ∀ q : Nat, s.heap.size ≤ q → A q := fun q h => by rw [← hAe]; exact Or.inr h
  have hS : va_S A s.heap s.heap [] := va_S.rf
  have hP : va_P E.1 vwCl [(rd, .inr (4, [.ref t, .ref r1, .ref r2, .ref r3, .int 0, .int 0, .int 0, .int 0, .int 0, .int 0, .int (-1)])), (t, .inr (7, [.ref b1, .int 0]))] s.heap := hP
  have hl := lv_entry ([.ref rd]) (n := 1) (Nat.le_of_ble_eq_true rfl)
  rw [lg_entry_eq]
  generalize (lg_sl ([.ref rd]) ++ List.replicate (1 - (lg_sl ([.ref rd])).length) Slot.unset).toArray = ls at hl ⊢
  have hl : lv_has ls 1 [(0, .ref rd)] := hl
  refine lv_aload_n hx hb dX3_readWord_0 rfl (lv_at hl 0 rfl) ?_
  have hPc := hP.sub (ws' := [(rd, .inr (4, [.ref t, .ref r1, .ref r2, .ref r3, .int 0, .int 0, .int 0, .int 0, .int 0, .int 0, .int (-1)])), (t, .inr (7, [.ref b1, .int 0]))]) [0, 1] rfl
  refine pc_v (va_runV (As := []) (rest := []) ⟨hx, hb, hml, hown, hts⟩ (c_skipBlanks l E rd t r1 r2 r3 b1) (cwV 0 hts g_c_readWord_c_skipBlanks_140 rfl rfl rfl (by decide +kernel) ⟨Nat.le_of_ble_eq_true rfl, Nat.le_of_ble_eq_true rfl⟩) ⟨pP.blind, va_recv hK hPc (ci := 4) (q0 := 0) rfl rfl, (pP.pre ⟨hK, hN⟩ hPc)⟩ rfl rfl hl.1 rfl (lv_room (Nat.le_of_ble_eq_true rfl)) dX3_readWord_1 ⟨Nat.le_of_ble_eq_true rfl, Nat.le_of_ble_eq_true rfl⟩) ?_
  refine lv_aload_n hx hb dX3_readWord_4 rfl (lv_at hl 0 rfl) ?_
  refine lv_aload_n hx hb dX3_readWord_5 rfl (lv_at hl 0 rfl) ?_
  refine va_get (D := E.1) (ci := 4) (v := .int 0) (C := RX3) (T := TX3) (N := 11) hx hb hts i_c_readWord_X3 hown hK hP 0 rfl rfl 7 (by decide) (hts (.fieldLink RX3 31 "HushWatch$Reader" "at" "I") (List.mem_of_getElem? (i := 1) rfl)) (fun _ h9 => h9) rfl dX3_readWord_6 ?_
  refine va_put (D := E.1) (ci := 4) (v := .int 0) (ty := .int) (C := RX3) (T := TX3) (N := 11) hx hb hts i_c_readWord_X3 tyX3 tyX3_ok nmX3 hown hK hP hD hS 0 rfl rfl 8 (by decide) (hts (.fieldLink RX3 34 "HushWatch$Reader" "wordStart" "I") (List.mem_of_getElem? (i := 2) rfl)) (fun _ h9 => h9) rfl (by decide +kernel) rfl rfl (Nat.le_of_ble_eq_true rfl) dX3_readWord_9 (fun H locs hP hD hS => ?_)
  have hP : va_P E.1 vwCl [(rd, .inr (4, [.ref t, .ref r1, .ref r2, .ref r3, .int 0, .int 0, .int 0, .int 0, .int 0, .int 0, .int (-1)])), (t, .inr (7, [.ref b1, .int 0]))] H := hP
  have hD : va_D A [(rd, .inr (4, [.ref t, .ref r1, .ref r2, .ref r3, .int 0, .int 0, .int 0, .int 0, .int 0, .int 0, .int (-1)])), (t, .inr (7, [.ref b1, .int 0]))] := hD
  refine lv_aload_n hx hb dX3_readWord_12 rfl (lv_at hl 0 rfl) ?_
  refine va_get (D := E.1) (ci := 4) (v := .int 0) (C := RX3) (T := TX3) (N := 11) hx hb hts i_c_readWord_X3 hown hK hP 0 rfl rfl 7 (by decide) (hts (.fieldLink RX3 31 "HushWatch$Reader" "at" "I") (List.mem_of_getElem? (i := 1) rfl)) (fun _ h9 => h9) rfl dX3_readWord_13 ?_
  refine lv_aload_n hx hb dX3_readWord_16 rfl (lv_at hl 0 rfl) ?_
  refine va_get (D := E.1) (ci := 4) (v := .ref t) (C := RX3) (T := TX3) (N := 11) hx hb hts i_c_readWord_X3 hown hK hP 0 rfl rfl 0 (by decide) (hts (.fieldLink RX3 43 "HushWatch$Reader" "tape" "LHushWatch$Tape;") (List.mem_of_getElem? (i := 3) rfl)) (fun _ h9 => h9) rfl dX3_readWord_17 ?_
  refine va_getN (D := E.1) (ci := 7) (v := .int 0) (C := RX6) (T := TX6) (N := 2) hx hb hts i_c_readWord_X6 hown hK hP 1 rfl rfl 1 (by decide) (nx hN 2 rfl) (fun _ h9 => h9) rfl dX3_readWord_20 ?_
  refine lv_icmp_ge (tgt := 56) hx hb dX3_readWord_23 (by decide) (fun _ => ?_) (fun q => absurd (by decide) q)
  refine lv_aload_n hx hb dX3_readWord_56 rfl (lv_at hl 0 rfl) ?_
  refine va_get (D := E.1) (ci := 4) (v := .int 0) (C := RX3) (T := TX3) (N := 11) hx hb hts i_c_readWord_X3 hown hK hP 0 rfl rfl 7 (by decide) (hts (.fieldLink RX3 31 "HushWatch$Reader" "at" "I") (List.mem_of_getElem? (i := 1) rfl)) (fun _ h9 => h9) rfl dX3_readWord_57 ?_
  refine lv_aload_n hx hb dX3_readWord_60 rfl (lv_at hl 0 rfl) ?_
  refine va_get (D := E.1) (ci := 4) (v := .int 0) (C := RX3) (T := TX3) (N := 11) hx hb hts i_c_readWord_X3 hown hK hP 0 rfl rfl 8 (by decide) (hts (.fieldLink RX3 34 "HushWatch$Reader" "wordStart" "I") (List.mem_of_getElem? (i := 2) rfl)) (fun _ h9 => h9) rfl dX3_readWord_61 ?_
  refine lv_icmp_gt (tgt := 78) hx hb dX3_readWord_64 (by decide) (fun q => absurd q (by decide)) (fun _ => ?_)
  refine lv_aload_n hx hb dX3_readWord_67 rfl (lv_at hl 0 rfl) ?_
  refine lv_aload_n hx hb dX3_readWord_68 rfl (lv_at hl 0 rfl) ?_
  refine va_get (D := E.1) (ci := 4) (v := .int 0) (C := RX3) (T := TX3) (N := 11) hx hb hts i_c_readWord_X3 hown hK hP 0 rfl rfl 7 (by decide) (hts (.fieldLink RX3 31 "HushWatch$Reader" "at" "I") (List.mem_of_getElem? (i := 1) rfl)) (fun _ h9 => h9) rfl dX3_readWord_69 ?_
  have hPc := hP.sub (ws' := [(rd, .inr (4, [.ref t, .ref r1, .ref r2, .ref r3, .int 0, .int 0, .int 0, .int 0, .int 0, .int 0, .int (-1)]))]) [0] rfl
  have hDc := hD.sub (ws' := [(rd, .inr (4, [.ref t, .ref r1, .ref r2, .ref r3, .int 0, .int 0, .int 0, .int 0, .int 0, .int 0, .int (-1)]))]) [0] (by decide) rfl
  have hFc := va_free (wc := [(rd, .inr (4, [.ref t, .ref r1, .ref r2, .ref r3, .int 0, .int 0, .int 0, .int 0, .int 0, .int 0, .int (-1)]))]) hD hS hA [0] rfl
  refine va_calli (va_runV (As := [.int 0]) (rest := []) ⟨hx, hb, hml, hown, hts⟩ (c_failAt l E H.size rd t r1 r2 r3) (cwV 1 hts g_c_readWord_c_failAt_87 rfl rfl rfl (by decide +kernel) ⟨Nat.le_of_ble_eq_true rfl, Nat.le_of_ble_eq_true rfl⟩) ⟨pW.blind, va_recv hK hPc (ci := 4) (q0 := 0) rfl rfl, (pW.pre ⟨hK, hN⟩ hPc hDc)⟩ rfl rfl hl.1 rfl (lv_room (Nat.le_of_ble_eq_true rfl)) dX3_readWord_72 ⟨Nat.le_of_ble_eq_true rfl, Nat.le_of_ble_eq_true rfl⟩) hS (fun q _ h => hFc q h) hFc (fun r_1 u tt H1 locs ht hvm hw hB hz1 hk1 hS => ?_)
  obtain ⟨hP1, hD1⟩ := hB
  rw [ht] at hP1
  obtain ⟨hP, hD⟩ := va_join (wr := [(t, .inr (7, [.ref b1, .int 0]))]) (w1 := [(rd, .inr (4, [.ref t, .ref r1, .ref r2, .ref r3, .int 0, .int 0, .int 0, .int 0, .int 0, .int 0, .int 0]))]) hP hD [0] [1] rfl rfl (by decide) (by decide) hk1 hFc hP1 hD1
  generalize H1 = H at hP hS ⊢
  have hP : va_P E.1 vwCl [(t, .inr (7, [.ref b1, .int 0])), (rd, .inr (4, [.ref t, .ref r1, .ref r2, .ref r3, .int 0, .int 0, .int 0, .int 0, .int 0, .int 0, .int 0]))] H := hP
  have hD : va_D A [(t, .inr (7, [.ref b1, .int 0])), (rd, .inr (4, [.ref t, .ref r1, .ref r2, .ref r3, .int 0, .int 0, .int 0, .int 0, .int 0, .int 0, .int 0]))] := hD
  have hr_1 := hw
  obtain rfl : r_1 = 0 := hr_1
  refine lv_if_eq (tgt := 82) hx hb dX3_readWord_75 (by decide) (fun _ => ?_) (fun q => absurd (by decide) q)
  refine lv_iconst (v := 0) hx hb dX3_readWord_82 (by decide) ?_
  have hP9 := hP.sub (ws' := [(rd, .inr (4, [.ref t, .ref r1, .ref r2, .ref r3, .int 0, .int 0, .int 0, .int 0, .int 0, .int 0, .int 0])), (t, .inr (7, [.ref b1, .int 0]))]) [1, 0] rfl
  have hD9 := hD.sub (ws' := [(rd, .inr (4, [.ref t, .ref r1, .ref r2, .ref r3, .int 0, .int 0, .int 0, .int 0, .int 0, .int 0, .int 0])), (t, .inr (7, [.ref b1, .int 0]))]) [1, 0] (by decide) rfl
  exact W.zret (v := 0) hx hb hr rfl (fun tt ht hW => ⟨⟨_, (), rfl, rfl, by rw [ht]; exact hP9, hD9⟩, hS.F ht⟩) hS.2.2 dX3_readWord_83

def v_c_readClause : List Cond := .code yX3_readClause cX3_readClause 3 (some .boolean) :: ([.methodLink RX3 71 yX3_readWord, .instanceMethod yX3_readWord, .selects RX3 yX3_readWord yX3_readWord, .initialized RX3] ++ (v_c_readWord ++ ([])))
theorem gw_c_readClause : v_c_readClause.all goodWord = true := by decide +kernel
theorem g_c_readClause_c_readWord_71 : GoodIn v_c_readClause (wsV RX3 71 RX3 yX3_readWord v_c_readWord) := goodIn_app (goodIn_of _ (by decide +kernel)) (goodIn_sub (fun _ h => List.mem_cons_of_mem _ (List.mem_append_right _ (List.mem_append_left _ h))) gw_c_readWord)
set_option maxHeartbeats 4000000 in
set_option maxRecDepth 100000 in
theorem c_readClause (l : Launch) (E : EE) (sz : Nat) (rd t r1 r2 r3 b1 : Nat) : Met l yX3_readClause v_c_readClause ({ frames := 2, cells := 0, slots := 0, locals := 41 }) (va_Pc [.ref rd] (pW E sz [(rd, .inr (4, [.ref t, .ref r1, .ref r2, .ref r3, .int 0, .int 0, .int 0, .int 0, .int 0, .int 0, .int (-1)])), (t, .inr (7, [.ref b1, .int 0]))])) (va_Qi (fun r (_u : Unit) => r = 0) (fun (_u : Unit) tt => va_P E.1 vwCl [(rd, .inr (4, [.ref t, .ref r1, .ref r2, .ref r3, .int 0, .int 0, .int 0, .int 0, .int 0, .int 0, .int 0])), (t, .inr (7, [.ref b1, .int 0]))] tt.heap ∧ va_D (va_A [(rd, .inr (4, [.ref t, .ref r1, .ref r2, .ref r3, .int 0, .int 0, .int 0, .int 0, .int 0, .int 0, .int (-1)])), (t, .inr (7, [.ref b1, .int 0]))] sz) [(rd, .inr (4, [.ref t, .ref r1, .ref r2, .ref r3, .int 0, .int 0, .int 0, .int 0, .int 0, .int 0, .int 0])), (t, .inr (7, [.ref b1, .int 0]))]) (va_A [(rd, .inr (4, [.ref t, .ref r1, .ref r2, .ref r3, .int 0, .int 0, .int 0, .int 0, .int 0, .int 0, .int (-1)])), (t, .inr (7, [.ref b1, .int 0]))] sz)) 0 0 (va_A [(rd, .inr (4, [.ref t, .ref r1, .ref r2, .ref r3, .int 0, .int 0, .int 0, .int 0, .int 0, .int 0, .int (-1)])), (t, .inr (7, [.ref b1, .int 0]))] sz) := by
  refine Met.ofW (cc := cX3_readClause) (maxL := 3) (ret := (some .boolean)) (by decide) rfl ?_
  intro p e s m args below meth c s₁ B hml hv
  obtain ⟨rfl, hsz, ⟨hK, hN⟩, hP, hD0⟩ := hv
  have hx := B.exec
  have hb := B.bytes
  have hr := B.returns
  have hts := atoms_spec (ws := v_c_readClause) B.pre
  have hown : s.vm.findClass RX3 = some m.cls := findClass_of_methodNamed B.named
  have hlocks := B.notSynchronized
  subst hsz
  have hD := hD0.self (sz := s.heap.size)
  generalize hAe : va_A [(rd, .inr (4, [.ref t, .ref r1, .ref r2, .ref r3, .int 0, .int 0, .int 0, .int 0, .int 0, .int 0, .int (-1)])), (t, .inr (7, [.ref b1, .int 0]))] s.heap.size = A at hD ⊢
  have hA : ∀ q : Nat, s.heap.size ≤ q → A q := fun q h => by rw [← hAe]; exact Or.inr h
  have hS : va_S A s.heap s.heap [] := va_S.rf
  have hP : va_P E.1 vwCl [(rd, .inr (4, [.ref t, .ref r1, .ref r2, .ref r3, .int 0, .int 0, .int 0, .int 0, .int 0, .int 0, .int (-1)])), (t, .inr (7, [.ref b1, .int 0]))] s.heap := hP
  have hl := lv_entry ([.ref rd]) (n := 3) (Nat.le_of_ble_eq_true rfl)
  rw [lg_entry_eq]
  generalize (lg_sl ([.ref rd]) ++ List.replicate (3 - (lg_sl ([.ref rd])).length) Slot.unset).toArray = ls at hl ⊢
  have hl : lv_has ls 3 [(0, .ref rd)] := hl
  refine lv_aload_n hx hb dX3_readClause_0 rfl (lv_at hl 0 rfl) ?_
  have hPc := hP.sub (ws' := [(rd, .inr (4, [.ref t, .ref r1, .ref r2, .ref r3, .int 0, .int 0, .int 0, .int 0, .int 0, .int 0, .int (-1)])), (t, .inr (7, [.ref b1, .int 0]))]) [0, 1] rfl
  have hDc := hD.sub (ws' := [(rd, .inr (4, [.ref t, .ref r1, .ref r2, .ref r3, .int 0, .int 0, .int 0, .int 0, .int 0, .int 0, .int (-1)])), (t, .inr (7, [.ref b1, .int 0]))]) [0, 1] (by decide) rfl
  have hFc := va_free (wc := [(rd, .inr (4, [.ref t, .ref r1, .ref r2, .ref r3, .int 0, .int 0, .int 0, .int 0, .int 0, .int 0, .int (-1)])), (t, .inr (7, [.ref b1, .int 0]))]) hD hS hA [0, 1] rfl
  refine va_calli (va_runV (As := []) (rest := []) ⟨hx, hb, hml, hown, hts⟩ (c_readWord l E s.heap.size rd t r1 r2 r3 b1) (cwV 0 hts g_c_readClause_c_readWord_71 rfl rfl rfl (by decide +kernel) ⟨Nat.le_of_ble_eq_true rfl, Nat.le_of_ble_eq_true rfl⟩) ⟨pW.blind, va_recv hK hPc (ci := 4) (q0 := 0) rfl rfl, (pW.pre ⟨hK, hN⟩ hPc hDc)⟩ rfl rfl hl.1 rfl (lv_room (Nat.le_of_ble_eq_true rfl)) dX3_readClause_1 ⟨Nat.le_of_ble_eq_true rfl, Nat.le_of_ble_eq_true rfl⟩) hS (fun q _ h => hFc q h) hFc (fun r_1 u tt H1 locs ht hvm hw hB hz1 hk1 hS => ?_)
  obtain ⟨hP1, hD1⟩ := hB
  rw [ht] at hP1
  obtain ⟨hP, hD⟩ := va_join (wr := []) (w1 := [(rd, .inr (4, [.ref t, .ref r1, .ref r2, .ref r3, .int 0, .int 0, .int 0, .int 0, .int 0, .int 0, .int 0])), (t, .inr (7, [.ref b1, .int 0]))]) hP hD [0, 1] [] rfl rfl (by decide) (by decide) hk1 hFc hP1 hD1
  generalize H1 = H at hP hS ⊢
  have hP : va_P E.1 vwCl [(rd, .inr (4, [.ref t, .ref r1, .ref r2, .ref r3, .int 0, .int 0, .int 0, .int 0, .int 0, .int 0, .int 0])), (t, .inr (7, [.ref b1, .int 0]))] H := hP
  have hD : va_D A [(rd, .inr (4, [.ref t, .ref r1, .ref r2, .ref r3, .int 0, .int 0, .int 0, .int 0, .int 0, .int 0, .int 0])), (t, .inr (7, [.ref b1, .int 0]))] := hD
  have hr_1 := hw
  obtain rfl : r_1 = 0 := hr_1
  refine lv_if_ne (tgt := 9) hx hb dX3_readClause_4 (by decide) (fun q => absurd (by decide) q) (fun _ => ?_)
  refine lv_iconst (v := 0) hx hb dX3_readClause_7 (by decide) ?_
  have hP9 := hP.sub (ws' := [(rd, .inr (4, [.ref t, .ref r1, .ref r2, .ref r3, .int 0, .int 0, .int 0, .int 0, .int 0, .int 0, .int 0])), (t, .inr (7, [.ref b1, .int 0]))]) [0, 1] rfl
  have hD9 := hD.sub (ws' := [(rd, .inr (4, [.ref t, .ref r1, .ref r2, .ref r3, .int 0, .int 0, .int 0, .int 0, .int 0, .int 0, .int 0])), (t, .inr (7, [.ref b1, .int 0]))]) [0, 1] (by decide) rfl
  exact W.zret (v := 0) hx hb hr rfl (fun tt ht hW => ⟨⟨_, (), rfl, rfl, by rw [ht]; exact hP9, hD9⟩, hS.F ht⟩) hS.2.2 dX3_readClause_8

def v_c_readStep : List Cond := .code yX3_readStep cX3_readStep 3 (some .boolean) :: ([.methodLink RX3 71 yX3_readWord, .instanceMethod yX3_readWord, .selects RX3 yX3_readWord yX3_readWord, .initialized RX3] ++ (v_c_readWord ++ ([])))
theorem gw_c_readStep : v_c_readStep.all goodWord = true := by decide +kernel
theorem g_c_readStep_c_readWord_71 : GoodIn v_c_readStep (wsV RX3 71 RX3 yX3_readWord v_c_readWord) := goodIn_app (goodIn_of _ (by decide +kernel)) (goodIn_sub (fun _ h => List.mem_cons_of_mem _ (List.mem_append_right _ (List.mem_append_left _ h))) gw_c_readWord)
set_option maxHeartbeats 4000000 in
set_option maxRecDepth 100000 in
theorem c_readStep (l : Launch) (E : EE) (sz : Nat) (rd t r1 r2 r3 b1 : Nat) : Met l yX3_readStep v_c_readStep ({ frames := 2, cells := 0, slots := 0, locals := 41 }) (va_Pc [.ref rd] (pW E sz [(rd, .inr (4, [.ref t, .ref r1, .ref r2, .ref r3, .int 0, .int 0, .int 0, .int 0, .int 0, .int 0, .int (-1)])), (t, .inr (7, [.ref b1, .int 0]))])) (va_Qi (fun r (_u : Unit) => r = 0) (fun (_u : Unit) tt => va_P E.1 vwCl [(rd, .inr (4, [.ref t, .ref r1, .ref r2, .ref r3, .int 0, .int 0, .int 0, .int 0, .int 0, .int 0, .int 0])), (t, .inr (7, [.ref b1, .int 0]))] tt.heap ∧ va_D (va_A [(rd, .inr (4, [.ref t, .ref r1, .ref r2, .ref r3, .int 0, .int 0, .int 0, .int 0, .int 0, .int 0, .int (-1)])), (t, .inr (7, [.ref b1, .int 0]))] sz) [(rd, .inr (4, [.ref t, .ref r1, .ref r2, .ref r3, .int 0, .int 0, .int 0, .int 0, .int 0, .int 0, .int 0])), (t, .inr (7, [.ref b1, .int 0]))]) (va_A [(rd, .inr (4, [.ref t, .ref r1, .ref r2, .ref r3, .int 0, .int 0, .int 0, .int 0, .int 0, .int 0, .int (-1)])), (t, .inr (7, [.ref b1, .int 0]))] sz)) 0 0 (va_A [(rd, .inr (4, [.ref t, .ref r1, .ref r2, .ref r3, .int 0, .int 0, .int 0, .int 0, .int 0, .int 0, .int (-1)])), (t, .inr (7, [.ref b1, .int 0]))] sz) := by
  refine Met.ofW (cc := cX3_readStep) (maxL := 3) (ret := (some .boolean)) (by decide) rfl ?_
  intro p e s m args below meth c s₁ B hml hv
  obtain ⟨rfl, hsz, ⟨hK, hN⟩, hP, hD0⟩ := hv
  have hx := B.exec
  have hb := B.bytes
  have hr := B.returns
  have hts := atoms_spec (ws := v_c_readStep) B.pre
  have hown : s.vm.findClass RX3 = some m.cls := findClass_of_methodNamed B.named
  have hlocks := B.notSynchronized
  subst hsz
  have hD := hD0.self (sz := s.heap.size)
  generalize hAe : va_A [(rd, .inr (4, [.ref t, .ref r1, .ref r2, .ref r3, .int 0, .int 0, .int 0, .int 0, .int 0, .int 0, .int (-1)])), (t, .inr (7, [.ref b1, .int 0]))] s.heap.size = A at hD ⊢
  have hA : ∀ q : Nat, s.heap.size ≤ q → A q := fun q h => by rw [← hAe]; exact Or.inr h
  have hS : va_S A s.heap s.heap [] := va_S.rf
  have hP : va_P E.1 vwCl [(rd, .inr (4, [.ref t, .ref r1, .ref r2, .ref r3, .int 0, .int 0, .int 0, .int 0, .int 0, .int 0, .int (-1)])), (t, .inr (7, [.ref b1, .int 0]))] s.heap := hP
  have hl := lv_entry ([.ref rd]) (n := 3) (Nat.le_of_ble_eq_true rfl)
  rw [lg_entry_eq]
  generalize (lg_sl ([.ref rd]) ++ List.replicate (3 - (lg_sl ([.ref rd])).length) Slot.unset).toArray = ls at hl ⊢
  have hl : lv_has ls 3 [(0, .ref rd)] := hl
  refine lv_aload_n hx hb dX3_readStep_0 rfl (lv_at hl 0 rfl) ?_
  have hPc := hP.sub (ws' := [(rd, .inr (4, [.ref t, .ref r1, .ref r2, .ref r3, .int 0, .int 0, .int 0, .int 0, .int 0, .int 0, .int (-1)])), (t, .inr (7, [.ref b1, .int 0]))]) [0, 1] rfl
  have hDc := hD.sub (ws' := [(rd, .inr (4, [.ref t, .ref r1, .ref r2, .ref r3, .int 0, .int 0, .int 0, .int 0, .int 0, .int 0, .int (-1)])), (t, .inr (7, [.ref b1, .int 0]))]) [0, 1] (by decide) rfl
  have hFc := va_free (wc := [(rd, .inr (4, [.ref t, .ref r1, .ref r2, .ref r3, .int 0, .int 0, .int 0, .int 0, .int 0, .int 0, .int (-1)])), (t, .inr (7, [.ref b1, .int 0]))]) hD hS hA [0, 1] rfl
  refine va_calli (va_runV (As := []) (rest := []) ⟨hx, hb, hml, hown, hts⟩ (c_readWord l E s.heap.size rd t r1 r2 r3 b1) (cwV 0 hts g_c_readStep_c_readWord_71 rfl rfl rfl (by decide +kernel) ⟨Nat.le_of_ble_eq_true rfl, Nat.le_of_ble_eq_true rfl⟩) ⟨pW.blind, va_recv hK hPc (ci := 4) (q0 := 0) rfl rfl, (pW.pre ⟨hK, hN⟩ hPc hDc)⟩ rfl rfl hl.1 rfl (lv_room (Nat.le_of_ble_eq_true rfl)) dX3_readStep_1 ⟨Nat.le_of_ble_eq_true rfl, Nat.le_of_ble_eq_true rfl⟩) hS (fun q _ h => hFc q h) hFc (fun r_1 u tt H1 locs ht hvm hw hB hz1 hk1 hS => ?_)
  obtain ⟨hP1, hD1⟩ := hB
  rw [ht] at hP1
  obtain ⟨hP, hD⟩ := va_join (wr := []) (w1 := [(rd, .inr (4, [.ref t, .ref r1, .ref r2, .ref r3, .int 0, .int 0, .int 0, .int 0, .int 0, .int 0, .int 0])), (t, .inr (7, [.ref b1, .int 0]))]) hP hD [0, 1] [] rfl rfl (by decide) (by decide) hk1 hFc hP1 hD1
  generalize H1 = H at hP hS ⊢
  have hP : va_P E.1 vwCl [(rd, .inr (4, [.ref t, .ref r1, .ref r2, .ref r3, .int 0, .int 0, .int 0, .int 0, .int 0, .int 0, .int 0])), (t, .inr (7, [.ref b1, .int 0]))] H := hP
  have hD : va_D A [(rd, .inr (4, [.ref t, .ref r1, .ref r2, .ref r3, .int 0, .int 0, .int 0, .int 0, .int 0, .int 0, .int 0])), (t, .inr (7, [.ref b1, .int 0]))] := hD
  have hr_1 := hw
  obtain rfl : r_1 = 0 := hr_1
  refine lv_if_ne (tgt := 9) hx hb dX3_readStep_4 (by decide) (fun q => absurd (by decide) q) (fun _ => ?_)
  refine lv_iconst (v := 0) hx hb dX3_readStep_7 (by decide) ?_
  have hP9 := hP.sub (ws' := [(rd, .inr (4, [.ref t, .ref r1, .ref r2, .ref r3, .int 0, .int 0, .int 0, .int 0, .int 0, .int 0, .int 0])), (t, .inr (7, [.ref b1, .int 0]))]) [0, 1] rfl
  have hD9 := hD.sub (ws' := [(rd, .inr (4, [.ref t, .ref r1, .ref r2, .ref r3, .int 0, .int 0, .int 0, .int 0, .int 0, .int 0, .int 0])), (t, .inr (7, [.ref b1, .int 0]))]) [0, 1] (by decide) rfl
  exact W.zret (v := 0) hx hb hr rfl (fun tt ht hW => ⟨⟨_, (), rfl, rfl, by rw [ht]; exact hP9, hD9⟩, hS.F ht⟩) hS.2.2 dX3_readStep_8

def v_c_readWatch : List Cond := .code yX3_readWatch cX3_readWatch 2 (some .int) :: ([.fieldLink RX3 40 "HushWatch$Reader" "failed" "I", .methodLink RX3 47 yX3_start, .instanceMethod yX3_start, .selects RX3 yX3_start yX3_start, .initialized RX3, .methodLink RX3 52 yX3_readClause, .instanceMethod yX3_readClause, .selects RX3 yX3_readClause yX3_readClause] ++ (v_c_start ++ (v_c_readClause ++ (wsX30 ++ ([])))))
theorem gw_c_readWatch : v_c_readWatch.all goodWord = true := by decide +kernel
theorem i_c_readWatch_X3 : ∀ w ∈ wsX30, w ∈ v_c_readWatch := fun _ h => List.mem_cons_of_mem _ (List.mem_append_right _ (List.mem_append_right _ (List.mem_append_right _ (List.mem_append_left _ h))))
theorem g_c_readWatch_c_start_47 : GoodIn v_c_readWatch (wsV RX3 47 RX3 yX3_start v_c_start) := goodIn_app (goodIn_of _ (by decide +kernel)) (goodIn_sub (fun _ h => List.mem_cons_of_mem _ (List.mem_append_right _ (List.mem_append_left _ h))) gw_c_start)
theorem g_c_readWatch_c_readClause_52 : GoodIn v_c_readWatch (wsV RX3 52 RX3 yX3_readClause v_c_readClause) := goodIn_app (goodIn_of _ (by decide +kernel)) (goodIn_sub (fun _ h => List.mem_cons_of_mem _ (List.mem_append_right _ (List.mem_append_right _ (List.mem_append_left _ h)))) gw_c_readClause)
set_option maxHeartbeats 4000000 in
set_option maxRecDepth 100000 in
theorem c_readWatch (l : Launch) (E : EE) (sz : Nat) (rd t r1 r2 r3 b1 : Nat) (f : Nat → Int32) : Met l yX3_readWatch v_c_readWatch ({ frames := 3, cells := 0, slots := 0, locals := 63 }) (va_Pc [.ref rd] (pW E sz [(rd, .inr (4, [.ref t, .ref r1, .ref r2, .ref r3, .int 0, .int 0, .int 0, .int 0, .int 0, .int 0, .int (-1)])), (r1, .inl (E.2.1, 3, .inl f)), (t, .inr (7, [.ref b1, .int 0]))])) (va_Qi (fun r (_u : Unit) => r = 0) (fun (_u : Unit) tt => va_P E.1 vwCl [] tt.heap ∧ va_D (va_A [(rd, .inr (4, [.ref t, .ref r1, .ref r2, .ref r3, .int 0, .int 0, .int 0, .int 0, .int 0, .int 0, .int (-1)])), (r1, .inl (E.2.1, 3, .inl f)), (t, .inr (7, [.ref b1, .int 0]))] sz) []) (va_A [(rd, .inr (4, [.ref t, .ref r1, .ref r2, .ref r3, .int 0, .int 0, .int 0, .int 0, .int 0, .int 0, .int (-1)])), (r1, .inl (E.2.1, 3, .inl f)), (t, .inr (7, [.ref b1, .int 0]))] sz)) 0 0 (va_A [(rd, .inr (4, [.ref t, .ref r1, .ref r2, .ref r3, .int 0, .int 0, .int 0, .int 0, .int 0, .int 0, .int (-1)])), (r1, .inl (E.2.1, 3, .inl f)), (t, .inr (7, [.ref b1, .int 0]))] sz) := by
  refine Met.ofW (cc := cX3_readWatch) (maxL := 2) (ret := (some .int)) (by decide) rfl ?_
  intro p e s m args below meth c s₁ B hml hv
  obtain ⟨rfl, hsz, ⟨hK, hN⟩, hP, hD0⟩ := hv
  have hx := B.exec
  have hb := B.bytes
  have hr := B.returns
  have hts := atoms_spec (ws := v_c_readWatch) B.pre
  have hown : s.vm.findClass RX3 = some m.cls := findClass_of_methodNamed B.named
  have hlocks := B.notSynchronized
  subst hsz
  have hD := hD0.self (sz := s.heap.size)
  generalize hAe : va_A [(rd, .inr (4, [.ref t, .ref r1, .ref r2, .ref r3, .int 0, .int 0, .int 0, .int 0, .int 0, .int 0, .int (-1)])), (r1, .inl (E.2.1, 3, .inl f)), (t, .inr (7, [.ref b1, .int 0]))] s.heap.size = A at hD ⊢
  have hA : ∀ q : Nat, s.heap.size ≤ q → A q := fun q h => by rw [← hAe]; exact Or.inr h
  have hS : va_S A s.heap s.heap [] := va_S.rf
  have hP : va_P E.1 vwCl [(rd, .inr (4, [.ref t, .ref r1, .ref r2, .ref r3, .int 0, .int 0, .int 0, .int 0, .int 0, .int 0, .int (-1)])), (r1, .inl (E.2.1, 3, .inl f)), (t, .inr (7, [.ref b1, .int 0]))] s.heap := hP
  have hl := lv_entry ([.ref rd]) (n := 2) (Nat.le_of_ble_eq_true rfl)
  rw [lg_entry_eq]
  generalize (lg_sl ([.ref rd]) ++ List.replicate (2 - (lg_sl ([.ref rd])).length) Slot.unset).toArray = ls at hl ⊢
  have hl : lv_has ls 2 [(0, .ref rd)] := hl
  refine lv_aload_n hx hb dX3_readWatch_0 rfl (lv_at hl 0 rfl) ?_
  have hPc := hP.sub (ws' := [(rd, .inr (4, [.ref t, .ref r1, .ref r2, .ref r3, .int 0, .int 0, .int 0, .int 0, .int 0, .int 0, .int (-1)])), (r1, .inl (E.2.1, 3, .inl f))]) [0, 1] rfl
  have hDc := hD.sub (ws' := [(rd, .inr (4, [.ref t, .ref r1, .ref r2, .ref r3, .int 0, .int 0, .int 0, .int 0, .int 0, .int 0, .int (-1)])), (r1, .inl (E.2.1, 3, .inl f))]) [0, 1] (by decide) rfl
  have hFc := va_free (wc := [(rd, .inr (4, [.ref t, .ref r1, .ref r2, .ref r3, .int 0, .int 0, .int 0, .int 0, .int 0, .int 0, .int (-1)])), (r1, .inl (E.2.1, 3, .inl f))]) hD hS hA [0, 1] rfl
  refine va_callv (va_runV (As := []) (rest := []) ⟨hx, hb, hml, hown, hts⟩ (c_start l E s.heap.size rd t r1 r2 r3 f) (cwV 0 hts g_c_readWatch_c_start_47 rfl rfl rfl (by decide +kernel) ⟨Nat.le_of_ble_eq_true rfl, Nat.le_of_ble_eq_true rfl⟩) ⟨pW.blind, va_recv hK hPc (ci := 4) (q0 := 0) rfl rfl, (pW.pre ⟨hK, hN⟩ hPc hDc)⟩ rfl rfl hl.1 rfl (lv_room (Nat.le_of_ble_eq_true rfl)) dX3_readWatch_1 ⟨Nat.le_of_ble_eq_true rfl, Nat.le_of_ble_eq_true rfl⟩) hS (fun q _ h => hFc q h) hFc (fun  u_1 tt H1 locs ht hvm hw hB hz1 hk1 hS => ?_)
  obtain ⟨hP1, hD1⟩ := hB
  rw [ht] at hP1
  obtain ⟨hP, hD⟩ := va_join (wr := [(t, .inr (7, [.ref b1, .int 0]))]) (w1 := [(rd, .inr (4, [.ref t, .ref r1, .ref r2, .ref r3, .int 0, .int 0, .int 0, .int 0, .int 0, .int 0, .int (-1)])), (r1, .inl (E.2.1, 3, .inl u_1))]) hP hD [0, 1] [2] rfl rfl (by decide) (by decide) hk1 hFc hP1 hD1
  generalize H1 = H at hP hS ⊢
  have hP : va_P E.1 vwCl [(t, .inr (7, [.ref b1, .int 0])), (rd, .inr (4, [.ref t, .ref r1, .ref r2, .ref r3, .int 0, .int 0, .int 0, .int 0, .int 0, .int 0, .int (-1)])), (r1, .inl (E.2.1, 3, .inl u_1))] H := hP
  have hD : va_D A [(t, .inr (7, [.ref b1, .int 0])), (rd, .inr (4, [.ref t, .ref r1, .ref r2, .ref r3, .int 0, .int 0, .int 0, .int 0, .int 0, .int 0, .int (-1)])), (r1, .inl (E.2.1, 3, .inl u_1))] := hD
  have hsw_2 := hw
  refine lv_iconst (v := 0) hx hb dX3_readWatch_4 (by decide) ?_
  refine lv_istore_n (lv' := [(1, .int 0), (0, .ref rd)]) hx hb dX3_readWatch_5 rfl hl (by decide) rfl (fun ls hl => ?_)
  refine lv_iload_n hx hb dX3_readWatch_6 rfl (lv_at hl 0 rfl) ?_
  refine lv_sipush (v := 320) hx hb dX3_readWatch_7 (by decide) ?_
  refine lv_icmp_ge (tgt := 72) hx hb dX3_readWatch_10 (by decide) (fun q => absurd q (by decide)) (fun _ => ?_)
  refine lv_aload_n hx hb dX3_readWatch_13 rfl (lv_at hl 1 rfl) ?_
  have hPc := hP.sub (ws' := [(rd, .inr (4, [.ref t, .ref r1, .ref r2, .ref r3, .int 0, .int 0, .int 0, .int 0, .int 0, .int 0, .int (-1)])), (t, .inr (7, [.ref b1, .int 0]))]) [1, 0] rfl
  have hDc := hD.sub (ws' := [(rd, .inr (4, [.ref t, .ref r1, .ref r2, .ref r3, .int 0, .int 0, .int 0, .int 0, .int 0, .int 0, .int (-1)])), (t, .inr (7, [.ref b1, .int 0]))]) [1, 0] (by decide) rfl
  have hFc := va_free (wc := [(rd, .inr (4, [.ref t, .ref r1, .ref r2, .ref r3, .int 0, .int 0, .int 0, .int 0, .int 0, .int 0, .int (-1)])), (t, .inr (7, [.ref b1, .int 0]))]) hD hS hA [1, 0] rfl
  refine va_calli (va_runV (As := []) (rest := []) ⟨hx, hb, hml, hown, hts⟩ (c_readClause l E H.size rd t r1 r2 r3 b1) (cwV 0 hts g_c_readWatch_c_readClause_52 rfl rfl rfl (by decide +kernel) ⟨Nat.le_of_ble_eq_true rfl, Nat.le_of_ble_eq_true rfl⟩) ⟨pW.blind, va_recv hK hPc (ci := 4) (q0 := 0) rfl rfl, (pW.pre ⟨hK, hN⟩ hPc hDc)⟩ rfl rfl hl.1 rfl (lv_room (Nat.le_of_ble_eq_true rfl)) dX3_readWatch_14 ⟨Nat.le_of_ble_eq_true rfl, Nat.le_of_ble_eq_true rfl⟩) hS (fun q _ h => hFc q h) hFc (fun r_3 u tt H1 locs ht hvm hw hB hz1 hk1 hS => ?_)
  obtain ⟨hP1, hD1⟩ := hB
  rw [ht] at hP1
  obtain ⟨hP, hD⟩ := va_join (wr := [(r1, .inl (E.2.1, 3, .inl u_1))]) (w1 := [(rd, .inr (4, [.ref t, .ref r1, .ref r2, .ref r3, .int 0, .int 0, .int 0, .int 0, .int 0, .int 0, .int 0])), (t, .inr (7, [.ref b1, .int 0]))]) hP hD [1, 0] [2] rfl rfl (by decide) (by decide) hk1 hFc hP1 hD1
  generalize H1 = H at hP hS ⊢
  have hP : va_P E.1 vwCl [(r1, .inl (E.2.1, 3, .inl u_1)), (rd, .inr (4, [.ref t, .ref r1, .ref r2, .ref r3, .int 0, .int 0, .int 0, .int 0, .int 0, .int 0, .int 0])), (t, .inr (7, [.ref b1, .int 0]))] H := hP
  have hD : va_D A [(r1, .inl (E.2.1, 3, .inl u_1)), (rd, .inr (4, [.ref t, .ref r1, .ref r2, .ref r3, .int 0, .int 0, .int 0, .int 0, .int 0, .int 0, .int 0])), (t, .inr (7, [.ref b1, .int 0]))] := hD
  have hr_3 := hw
  obtain rfl : r_3 = 0 := hr_3
  refine lv_if_ne (tgt := 25) hx hb dX3_readWatch_17 (by decide) (fun q => absurd (by decide) q) (fun _ => ?_)
  refine lv_aload_n hx hb dX3_readWatch_20 rfl (lv_at hl 1 rfl) ?_
  refine va_get (D := E.1) (ci := 4) (v := .int 0) (C := RX3) (T := TX3) (N := 11) hx hb hts i_c_readWatch_X3 hown hK hP 1 rfl rfl 10 (by decide) (hts (.fieldLink RX3 40 "HushWatch$Reader" "failed" "I") (List.mem_of_getElem? (i := 1) rfl)) (fun _ h9 => h9) rfl dX3_readWatch_21 ?_
  have hP9 : va_P E.1 vwCl [] H := fun k q h => by simp at h
  have hD9 : va_D A [] := ⟨fun i j p q h => by simp at h, fun k q h => by simp at h⟩
  exact W.iret (v := 0) hx hb hr (fun tt ht hW => ⟨⟨_, (), rfl, rfl, by rw [ht]; exact hP9, hD9⟩, hS.F ht⟩) hS.2.2 dX3_readWatch_24

def v_c_readScript : List Cond := .code yX3_readScript cX3_readScript 2 (some .int) :: ([.fieldLink RX3 40 "HushWatch$Reader" "failed" "I", .methodLink RX3 47 yX3_start, .instanceMethod yX3_start, .selects RX3 yX3_start yX3_start, .initialized RX3, .methodLink RX3 66 yX3_readStep, .instanceMethod yX3_readStep, .selects RX3 yX3_readStep yX3_readStep] ++ (v_c_start ++ (v_c_readStep ++ (wsX30 ++ ([])))))
theorem gw_c_readScript : v_c_readScript.all goodWord = true := by decide +kernel
theorem i_c_readScript_X3 : ∀ w ∈ wsX30, w ∈ v_c_readScript := fun _ h => List.mem_cons_of_mem _ (List.mem_append_right _ (List.mem_append_right _ (List.mem_append_right _ (List.mem_append_left _ h))))
theorem g_c_readScript_c_start_47 : GoodIn v_c_readScript (wsV RX3 47 RX3 yX3_start v_c_start) := goodIn_app (goodIn_of _ (by decide +kernel)) (goodIn_sub (fun _ h => List.mem_cons_of_mem _ (List.mem_append_right _ (List.mem_append_left _ h))) gw_c_start)
theorem g_c_readScript_c_readStep_66 : GoodIn v_c_readScript (wsV RX3 66 RX3 yX3_readStep v_c_readStep) := goodIn_app (goodIn_of _ (by decide +kernel)) (goodIn_sub (fun _ h => List.mem_cons_of_mem _ (List.mem_append_right _ (List.mem_append_right _ (List.mem_append_left _ h)))) gw_c_readStep)
set_option maxHeartbeats 4000000 in
set_option maxRecDepth 100000 in
theorem c_readScript (l : Launch) (E : EE) (sz : Nat) (rd t r1 r2 r3 b1 : Nat) (f : Nat → Int32) : Met l yX3_readScript v_c_readScript ({ frames := 3, cells := 0, slots := 0, locals := 63 }) (va_Pc [.ref rd] (pW E sz [(rd, .inr (4, [.ref t, .ref r1, .ref r2, .ref r3, .int 0, .int 0, .int 0, .int 0, .int 0, .int 0, .int (-1)])), (r1, .inl (E.2.1, 3, .inl f)), (t, .inr (7, [.ref b1, .int 0]))])) (va_Qi (fun r (_u : Unit) => r = 0) (fun (_u : Unit) tt => va_P E.1 vwCl [] tt.heap ∧ va_D (va_A [(rd, .inr (4, [.ref t, .ref r1, .ref r2, .ref r3, .int 0, .int 0, .int 0, .int 0, .int 0, .int 0, .int (-1)])), (r1, .inl (E.2.1, 3, .inl f)), (t, .inr (7, [.ref b1, .int 0]))] sz) []) (va_A [(rd, .inr (4, [.ref t, .ref r1, .ref r2, .ref r3, .int 0, .int 0, .int 0, .int 0, .int 0, .int 0, .int (-1)])), (r1, .inl (E.2.1, 3, .inl f)), (t, .inr (7, [.ref b1, .int 0]))] sz)) 0 0 (va_A [(rd, .inr (4, [.ref t, .ref r1, .ref r2, .ref r3, .int 0, .int 0, .int 0, .int 0, .int 0, .int 0, .int (-1)])), (r1, .inl (E.2.1, 3, .inl f)), (t, .inr (7, [.ref b1, .int 0]))] sz) := by
  refine Met.ofW (cc := cX3_readScript) (maxL := 2) (ret := (some .int)) (by decide) rfl ?_
  intro p e s m args below meth c s₁ B hml hv
  obtain ⟨rfl, hsz, ⟨hK, hN⟩, hP, hD0⟩ := hv
  have hx := B.exec
  have hb := B.bytes
  have hr := B.returns
  have hts := atoms_spec (ws := v_c_readScript) B.pre
  have hown : s.vm.findClass RX3 = some m.cls := findClass_of_methodNamed B.named
  have hlocks := B.notSynchronized
  subst hsz
  have hD := hD0.self (sz := s.heap.size)
  generalize hAe : va_A [(rd, .inr (4, [.ref t, .ref r1, .ref r2, .ref r3, .int 0, .int 0, .int 0, .int 0, .int 0, .int 0, .int (-1)])), (r1, .inl (E.2.1, 3, .inl f)), (t, .inr (7, [.ref b1, .int 0]))] s.heap.size = A at hD ⊢
  have hA : ∀ q : Nat, s.heap.size ≤ q → A q := fun q h => by rw [← hAe]; exact Or.inr h
  have hS : va_S A s.heap s.heap [] := va_S.rf
  have hP : va_P E.1 vwCl [(rd, .inr (4, [.ref t, .ref r1, .ref r2, .ref r3, .int 0, .int 0, .int 0, .int 0, .int 0, .int 0, .int (-1)])), (r1, .inl (E.2.1, 3, .inl f)), (t, .inr (7, [.ref b1, .int 0]))] s.heap := hP
  have hl := lv_entry ([.ref rd]) (n := 2) (Nat.le_of_ble_eq_true rfl)
  rw [lg_entry_eq]
  generalize (lg_sl ([.ref rd]) ++ List.replicate (2 - (lg_sl ([.ref rd])).length) Slot.unset).toArray = ls at hl ⊢
  have hl : lv_has ls 2 [(0, .ref rd)] := hl
  refine lv_aload_n hx hb dX3_readScript_0 rfl (lv_at hl 0 rfl) ?_
  have hPc := hP.sub (ws' := [(rd, .inr (4, [.ref t, .ref r1, .ref r2, .ref r3, .int 0, .int 0, .int 0, .int 0, .int 0, .int 0, .int (-1)])), (r1, .inl (E.2.1, 3, .inl f))]) [0, 1] rfl
  have hDc := hD.sub (ws' := [(rd, .inr (4, [.ref t, .ref r1, .ref r2, .ref r3, .int 0, .int 0, .int 0, .int 0, .int 0, .int 0, .int (-1)])), (r1, .inl (E.2.1, 3, .inl f))]) [0, 1] (by decide) rfl
  have hFc := va_free (wc := [(rd, .inr (4, [.ref t, .ref r1, .ref r2, .ref r3, .int 0, .int 0, .int 0, .int 0, .int 0, .int 0, .int (-1)])), (r1, .inl (E.2.1, 3, .inl f))]) hD hS hA [0, 1] rfl
  refine va_callv (va_runV (As := []) (rest := []) ⟨hx, hb, hml, hown, hts⟩ (c_start l E s.heap.size rd t r1 r2 r3 f) (cwV 0 hts g_c_readScript_c_start_47 rfl rfl rfl (by decide +kernel) ⟨Nat.le_of_ble_eq_true rfl, Nat.le_of_ble_eq_true rfl⟩) ⟨pW.blind, va_recv hK hPc (ci := 4) (q0 := 0) rfl rfl, (pW.pre ⟨hK, hN⟩ hPc hDc)⟩ rfl rfl hl.1 rfl (lv_room (Nat.le_of_ble_eq_true rfl)) dX3_readScript_1 ⟨Nat.le_of_ble_eq_true rfl, Nat.le_of_ble_eq_true rfl⟩) hS (fun q _ h => hFc q h) hFc (fun  u_1 tt H1 locs ht hvm hw hB hz1 hk1 hS => ?_)
  obtain ⟨hP1, hD1⟩ := hB
  rw [ht] at hP1
  obtain ⟨hP, hD⟩ := va_join (wr := [(t, .inr (7, [.ref b1, .int 0]))]) (w1 := [(rd, .inr (4, [.ref t, .ref r1, .ref r2, .ref r3, .int 0, .int 0, .int 0, .int 0, .int 0, .int 0, .int (-1)])), (r1, .inl (E.2.1, 3, .inl u_1))]) hP hD [0, 1] [2] rfl rfl (by decide) (by decide) hk1 hFc hP1 hD1
  generalize H1 = H at hP hS ⊢
  have hP : va_P E.1 vwCl [(t, .inr (7, [.ref b1, .int 0])), (rd, .inr (4, [.ref t, .ref r1, .ref r2, .ref r3, .int 0, .int 0, .int 0, .int 0, .int 0, .int 0, .int (-1)])), (r1, .inl (E.2.1, 3, .inl u_1))] H := hP
  have hD : va_D A [(t, .inr (7, [.ref b1, .int 0])), (rd, .inr (4, [.ref t, .ref r1, .ref r2, .ref r3, .int 0, .int 0, .int 0, .int 0, .int 0, .int 0, .int (-1)])), (r1, .inl (E.2.1, 3, .inl u_1))] := hD
  have hsw_2 := hw
  refine lv_iconst (v := 0) hx hb dX3_readScript_4 (by decide) ?_
  refine lv_istore_n (lv' := [(1, .int 0), (0, .ref rd)]) hx hb dX3_readScript_5 rfl hl (by decide) rfl (fun ls hl => ?_)
  refine lv_iload_n hx hb dX3_readScript_6 rfl (lv_at hl 0 rfl) ?_
  refine lv_bipush (v := 12) hx hb dX3_readScript_7 (by decide) ?_
  refine lv_icmp_ge (tgt := 72) hx hb dX3_readScript_9 (by decide) (fun q => absurd q (by decide)) (fun _ => ?_)
  refine lv_aload_n hx hb dX3_readScript_12 rfl (lv_at hl 1 rfl) ?_
  have hPc := hP.sub (ws' := [(rd, .inr (4, [.ref t, .ref r1, .ref r2, .ref r3, .int 0, .int 0, .int 0, .int 0, .int 0, .int 0, .int (-1)])), (t, .inr (7, [.ref b1, .int 0]))]) [1, 0] rfl
  have hDc := hD.sub (ws' := [(rd, .inr (4, [.ref t, .ref r1, .ref r2, .ref r3, .int 0, .int 0, .int 0, .int 0, .int 0, .int 0, .int (-1)])), (t, .inr (7, [.ref b1, .int 0]))]) [1, 0] (by decide) rfl
  have hFc := va_free (wc := [(rd, .inr (4, [.ref t, .ref r1, .ref r2, .ref r3, .int 0, .int 0, .int 0, .int 0, .int 0, .int 0, .int (-1)])), (t, .inr (7, [.ref b1, .int 0]))]) hD hS hA [1, 0] rfl
  refine va_calli (va_runV (As := []) (rest := []) ⟨hx, hb, hml, hown, hts⟩ (c_readStep l E H.size rd t r1 r2 r3 b1) (cwV 0 hts g_c_readScript_c_readStep_66 rfl rfl rfl (by decide +kernel) ⟨Nat.le_of_ble_eq_true rfl, Nat.le_of_ble_eq_true rfl⟩) ⟨pW.blind, va_recv hK hPc (ci := 4) (q0 := 0) rfl rfl, (pW.pre ⟨hK, hN⟩ hPc hDc)⟩ rfl rfl hl.1 rfl (lv_room (Nat.le_of_ble_eq_true rfl)) dX3_readScript_13 ⟨Nat.le_of_ble_eq_true rfl, Nat.le_of_ble_eq_true rfl⟩) hS (fun q _ h => hFc q h) hFc (fun r_3 u tt H1 locs ht hvm hw hB hz1 hk1 hS => ?_)
  obtain ⟨hP1, hD1⟩ := hB
  rw [ht] at hP1
  obtain ⟨hP, hD⟩ := va_join (wr := [(r1, .inl (E.2.1, 3, .inl u_1))]) (w1 := [(rd, .inr (4, [.ref t, .ref r1, .ref r2, .ref r3, .int 0, .int 0, .int 0, .int 0, .int 0, .int 0, .int 0])), (t, .inr (7, [.ref b1, .int 0]))]) hP hD [1, 0] [2] rfl rfl (by decide) (by decide) hk1 hFc hP1 hD1
  generalize H1 = H at hP hS ⊢
  have hP : va_P E.1 vwCl [(r1, .inl (E.2.1, 3, .inl u_1)), (rd, .inr (4, [.ref t, .ref r1, .ref r2, .ref r3, .int 0, .int 0, .int 0, .int 0, .int 0, .int 0, .int 0])), (t, .inr (7, [.ref b1, .int 0]))] H := hP
  have hD : va_D A [(r1, .inl (E.2.1, 3, .inl u_1)), (rd, .inr (4, [.ref t, .ref r1, .ref r2, .ref r3, .int 0, .int 0, .int 0, .int 0, .int 0, .int 0, .int 0])), (t, .inr (7, [.ref b1, .int 0]))] := hD
  have hr_3 := hw
  obtain rfl : r_3 = 0 := hr_3
  refine lv_if_ne (tgt := 24) hx hb dX3_readScript_16 (by decide) (fun q => absurd (by decide) q) (fun _ => ?_)
  refine lv_aload_n hx hb dX3_readScript_19 rfl (lv_at hl 1 rfl) ?_
  refine va_get (D := E.1) (ci := 4) (v := .int 0) (C := RX3) (T := TX3) (N := 11) hx hb hts i_c_readScript_X3 hown hK hP 1 rfl rfl 10 (by decide) (hts (.fieldLink RX3 40 "HushWatch$Reader" "failed" "I") (List.mem_of_getElem? (i := 1) rfl)) (fun _ h9 => h9) rfl dX3_readScript_20 ?_
  have hP9 : va_P E.1 vwCl [] H := fun k q h => by simp at h
  have hD9 : va_D A [] := ⟨fun i j p q h => by simp at h, fun k q h => by simp at h⟩
  exact W.iret (v := 0) hx hb hr (fun tt ht hW => ⟨⟨_, (), rfl, rfl, by rw [ht]; exact hP9, hD9⟩, hS.F ht⟩) hS.2.2 dX3_readScript_23

def v_c_fault : List Cond := .code yX7_fault cX7_fault 2 (some .int) :: ([.fieldLink RX7 21 "HushWatch" "reader" "LHushWatch$Reader;", .methodLink RX7 97 yX3_readScript, .instanceMethod yX3_readScript, .selects RX3 yX3_readScript yX3_readScript, .initialized RX3, .methodLink RX7 93 yX3_readWatch, .instanceMethod yX3_readWatch, .selects RX3 yX3_readWatch yX3_readWatch] ++ (wsX70 ++ (v_c_readScript ++ (v_c_readWatch ++ ([])))))
theorem gw_c_fault : v_c_fault.all goodWord = true := by decide +kernel
theorem i_c_fault_X7 : ∀ w ∈ wsX70, w ∈ v_c_fault := fun _ h => List.mem_cons_of_mem _ (List.mem_append_right _ (List.mem_append_left _ h))
theorem g_c_fault_c_readScript_97 : GoodIn v_c_fault (wsV RX7 97 RX3 yX3_readScript v_c_readScript) := goodIn_app (goodIn_of _ (by decide +kernel)) (goodIn_sub (fun _ h => List.mem_cons_of_mem _ (List.mem_append_right _ (List.mem_append_right _ (List.mem_append_left _ h)))) gw_c_readScript)
theorem g_c_fault_c_readWatch_93 : GoodIn v_c_fault (wsV RX7 93 RX3 yX3_readWatch v_c_readWatch) := goodIn_app (goodIn_of _ (by decide +kernel)) (goodIn_sub (fun _ h => List.mem_cons_of_mem _ (List.mem_append_right _ (List.mem_append_right _ (List.mem_append_right _ (List.mem_append_left _ h))))) gw_c_readWatch)
set_option maxHeartbeats 4000000 in
set_option maxRecDepth 100000 in
theorem c_fault (l : Launch) (E : EE) (sz : Nat) (x t rd sc n tr kp bk kb hi dr rf : Nat) (b1 : Nat) (r1 r2 r3 : Nat) (p0 : Int32) : Met l yX7_fault v_c_fault ({ frames := 4, cells := 0, slots := 0, locals := 84 }) (va_Pc [.ref x, .int p0] (pW E sz [(x, .inr (8, [.ref t, .ref rd, .ref sc, .ref n, .ref tr, .ref kp, .ref bk, .ref kb, .ref hi, .ref dr, .ref rf, .int 0])), (rd, .inr (4, [.ref t, .ref r1, .ref r2, .ref r3, .int 0, .int 0, .int 0, .int 0, .int 0, .int 0, .int (-1)])), (r1, .inl (E.2.1, 3, .inl (fun _ => 0))), (t, .inr (7, [.ref b1, .int 0]))])) (va_Qi (fun r (_u : Unit) => r = faultv p0) (fun (_u : Unit) tt => va_P E.1 vwCl [] tt.heap ∧ va_D (va_A [(x, .inr (8, [.ref t, .ref rd, .ref sc, .ref n, .ref tr, .ref kp, .ref bk, .ref kb, .ref hi, .ref dr, .ref rf, .int 0])), (rd, .inr (4, [.ref t, .ref r1, .ref r2, .ref r3, .int 0, .int 0, .int 0, .int 0, .int 0, .int 0, .int (-1)])), (r1, .inl (E.2.1, 3, .inl (fun _ => 0))), (t, .inr (7, [.ref b1, .int 0]))] sz) []) (va_A [(x, .inr (8, [.ref t, .ref rd, .ref sc, .ref n, .ref tr, .ref kp, .ref bk, .ref kb, .ref hi, .ref dr, .ref rf, .int 0])), (rd, .inr (4, [.ref t, .ref r1, .ref r2, .ref r3, .int 0, .int 0, .int 0, .int 0, .int 0, .int 0, .int (-1)])), (r1, .inl (E.2.1, 3, .inl (fun _ => 0))), (t, .inr (7, [.ref b1, .int 0]))] sz)) 0 0 (va_A [(x, .inr (8, [.ref t, .ref rd, .ref sc, .ref n, .ref tr, .ref kp, .ref bk, .ref kb, .ref hi, .ref dr, .ref rf, .int 0])), (rd, .inr (4, [.ref t, .ref r1, .ref r2, .ref r3, .int 0, .int 0, .int 0, .int 0, .int 0, .int 0, .int (-1)])), (r1, .inl (E.2.1, 3, .inl (fun _ => 0))), (t, .inr (7, [.ref b1, .int 0]))] sz) := by
  refine Met.ofW (cc := cX7_fault) (maxL := 2) (ret := (some .int)) (by decide) rfl ?_
  intro p e s m args below meth c s₁ B hml hv
  obtain ⟨rfl, hsz, ⟨hK, hN⟩, hP, hD0⟩ := hv
  have hx := B.exec
  have hb := B.bytes
  have hr := B.returns
  have hts := atoms_spec (ws := v_c_fault) B.pre
  have hown : s.vm.findClass RX7 = some m.cls := findClass_of_methodNamed B.named
  have hlocks := B.notSynchronized
  subst hsz
  have hD := hD0.self (sz := s.heap.size)
  generalize hAe : va_A [(x, .inr (8, [.ref t, .ref rd, .ref sc, .ref n, .ref tr, .ref kp, .ref bk, .ref kb, .ref hi, .ref dr, .ref rf, .int 0])), (rd, .inr (4, [.ref t, .ref r1, .ref r2, .ref r3, .int 0, .int 0, .int 0, .int 0, .int 0, .int 0, .int (-1)])), (r1, .inl (E.2.1, 3, .inl (fun _ => 0))), (t, .inr (7, [.ref b1, .int 0]))] s.heap.size = A at hD ⊢
  have hA : ∀ q : Nat, s.heap.size ≤ q → A q := fun q h => by rw [← hAe]; exact Or.inr h
  have hS : va_S A s.heap s.heap [] := va_S.rf
  have hP : va_P E.1 vwCl [(x, .inr (8, [.ref t, .ref rd, .ref sc, .ref n, .ref tr, .ref kp, .ref bk, .ref kb, .ref hi, .ref dr, .ref rf, .int 0])), (rd, .inr (4, [.ref t, .ref r1, .ref r2, .ref r3, .int 0, .int 0, .int 0, .int 0, .int 0, .int 0, .int (-1)])), (r1, .inl (E.2.1, 3, .inl (fun _ => 0))), (t, .inr (7, [.ref b1, .int 0]))] s.heap := hP
  have hl := lv_entry ([.ref x, .int p0]) (n := 2) (Nat.le_of_ble_eq_true rfl)
  rw [lg_entry_eq]
  generalize (lg_sl ([.ref x, .int p0]) ++ List.replicate (2 - (lg_sl ([.ref x, .int p0])).length) Slot.unset).toArray = ls at hl ⊢
  have hl : lv_has ls 2 [(0, .ref x), (1, .int p0)] := hl
  refine lv_iload_n hx hb dX7_fault_0 rfl (lv_at hl 1 rfl) ?_
  refine lv_if_ne (tgt := 12) hx hb dX7_fault_1 (by decide) (fun c_1 => ?_) (fun c_1 => ?_)
  ·
    refine lv_iload_n hx hb dX7_fault_12 rfl (lv_at hl 1 rfl) ?_
    refine lv_iconst (v := 1) hx hb dX7_fault_13 (by decide) ?_
    refine lv_icmp_ne (tgt := 27) hx hb dX7_fault_14 (by decide) (fun c_2 => ?_) (fun c_2 => ?_)
    ·
      refine lv_bipush (v := -2) hx hb dX7_fault_27 (by decide) ?_
      have hP9 : va_P E.1 vwCl [] s.heap := fun k q h => by simp at h
      have hD9 : va_D A [] := ⟨fun i j p q h => by simp at h, fun k q h => by simp at h⟩
      exact W.iret (v := -2) hx hb hr (fun tt ht hW => ⟨⟨_, (), rfl, (by have t0 : (0 : Int32).toInt = 0 := (by decide); have t1 : (1 : Int32).toInt = 1 := (by decide); simp only [Int32.lt_iff_toInt_lt, Int32.le_iff_toInt_le, ge_iff_le, gt_iff_lt, ne_eq, ← Int32.toInt_inj, t0, t1] at c_1 c_2; unfold faultv; rw [if_neg (by omega)]), by rw [ht]; exact hP9, hD9⟩, hS.F ht⟩) hS.2.2 dX7_fault_29
    ·
      refine lv_aload_n hx hb dX7_fault_17 rfl (lv_at hl 0 rfl) ?_
      refine va_get (D := E.1) (ci := 8) (v := .ref rd) (C := RX7) (T := TX7) (N := 12) hx hb hts i_c_fault_X7 hown hK hP 0 rfl rfl 1 (by decide) (hts (.fieldLink RX7 21 "HushWatch" "reader" "LHushWatch$Reader;") (List.mem_of_getElem? (i := 1) rfl)) (fun _ h9 => h9) rfl dX7_fault_18 ?_
      have hPc := hP.sub (ws' := [(rd, .inr (4, [.ref t, .ref r1, .ref r2, .ref r3, .int 0, .int 0, .int 0, .int 0, .int 0, .int 0, .int (-1)])), (r1, .inl (E.2.1, 3, .inl (fun _ => 0))), (t, .inr (7, [.ref b1, .int 0]))]) [1, 2, 3] rfl
      have hDc := hD.sub (ws' := [(rd, .inr (4, [.ref t, .ref r1, .ref r2, .ref r3, .int 0, .int 0, .int 0, .int 0, .int 0, .int 0, .int (-1)])), (r1, .inl (E.2.1, 3, .inl (fun _ => 0))), (t, .inr (7, [.ref b1, .int 0]))]) [1, 2, 3] (by decide) rfl
      have hFc := va_free (wc := [(rd, .inr (4, [.ref t, .ref r1, .ref r2, .ref r3, .int 0, .int 0, .int 0, .int 0, .int 0, .int 0, .int (-1)])), (r1, .inl (E.2.1, 3, .inl (fun _ => 0))), (t, .inr (7, [.ref b1, .int 0]))]) hD hS hA [1, 2, 3] rfl
      refine va_calli (va_runV (As := []) (rest := []) ⟨hx, hb, hml, hown, hts⟩ (c_readScript l E s.heap.size rd t r1 r2 r3 b1 (fun _ => 0)) (cwV 0 hts g_c_fault_c_readScript_97 rfl rfl rfl (by decide +kernel) ⟨Nat.le_of_ble_eq_true rfl, Nat.le_of_ble_eq_true rfl⟩) ⟨pW.blind, va_recv hK hPc (ci := 4) (q0 := 0) rfl rfl, (pW.pre ⟨hK, hN⟩ hPc hDc)⟩ rfl rfl hl.1 rfl (lv_room (Nat.le_of_ble_eq_true rfl)) dX7_fault_21 ⟨Nat.le_of_ble_eq_true rfl, Nat.le_of_ble_eq_true rfl⟩) hS (fun q _ h => hFc q h) hFc (fun r_3 u tt H1 locs ht hvm hw hB hz1 hk1 hS => ?_)
      obtain ⟨hP1, hD1⟩ := hB
      rw [ht] at hP1
      obtain ⟨hP, hD⟩ := va_join (wr := [(x, .inr (8, [.ref t, .ref rd, .ref sc, .ref n, .ref tr, .ref kp, .ref bk, .ref kb, .ref hi, .ref dr, .ref rf, .int 0]))]) (w1 := []) hP hD [1, 2, 3] [0] rfl rfl (by decide) (by decide) hk1 hFc hP1 hD1
      generalize H1 = H at hP hS ⊢
      have hP : va_P E.1 vwCl [(x, .inr (8, [.ref t, .ref rd, .ref sc, .ref n, .ref tr, .ref kp, .ref bk, .ref kb, .ref hi, .ref dr, .ref rf, .int 0]))] H := hP
      have hD : va_D A [(x, .inr (8, [.ref t, .ref rd, .ref sc, .ref n, .ref tr, .ref kp, .ref bk, .ref kb, .ref hi, .ref dr, .ref rf, .int 0]))] := hD
      have hr_3 := hw
      obtain rfl : r_3 = 0 := hr_3
      refine lv_goto (tgt := 29) hx hb dX7_fault_24 (by decide) ?_
      have hP9 : va_P E.1 vwCl [] H := fun k q h => by simp at h
      have hD9 : va_D A [] := ⟨fun i j p q h => by simp at h, fun k q h => by simp at h⟩
      exact W.iret (v := 0) hx hb hr (fun tt ht hW => ⟨⟨_, (), rfl, (by have t0 : (0 : Int32).toInt = 0 := (by decide); have t1 : (1 : Int32).toInt = 1 := (by decide); simp only [Int32.lt_iff_toInt_lt, Int32.le_iff_toInt_le, ge_iff_le, gt_iff_lt, ne_eq, ← Int32.toInt_inj, t0, t1] at c_1 c_2; unfold faultv; rw [if_pos (by omega)]), by rw [ht]; exact hP9, hD9⟩, hS.F ht⟩) hS.2.2 dX7_fault_29
  ·
    refine lv_aload_n hx hb dX7_fault_4 rfl (lv_at hl 0 rfl) ?_
    refine va_get (D := E.1) (ci := 8) (v := .ref rd) (C := RX7) (T := TX7) (N := 12) hx hb hts i_c_fault_X7 hown hK hP 0 rfl rfl 1 (by decide) (hts (.fieldLink RX7 21 "HushWatch" "reader" "LHushWatch$Reader;") (List.mem_of_getElem? (i := 1) rfl)) (fun _ h9 => h9) rfl dX7_fault_5 ?_
    have hPc := hP.sub (ws' := [(rd, .inr (4, [.ref t, .ref r1, .ref r2, .ref r3, .int 0, .int 0, .int 0, .int 0, .int 0, .int 0, .int (-1)])), (r1, .inl (E.2.1, 3, .inl (fun _ => 0))), (t, .inr (7, [.ref b1, .int 0]))]) [1, 2, 3] rfl
    have hDc := hD.sub (ws' := [(rd, .inr (4, [.ref t, .ref r1, .ref r2, .ref r3, .int 0, .int 0, .int 0, .int 0, .int 0, .int 0, .int (-1)])), (r1, .inl (E.2.1, 3, .inl (fun _ => 0))), (t, .inr (7, [.ref b1, .int 0]))]) [1, 2, 3] (by decide) rfl
    have hFc := va_free (wc := [(rd, .inr (4, [.ref t, .ref r1, .ref r2, .ref r3, .int 0, .int 0, .int 0, .int 0, .int 0, .int 0, .int (-1)])), (r1, .inl (E.2.1, 3, .inl (fun _ => 0))), (t, .inr (7, [.ref b1, .int 0]))]) hD hS hA [1, 2, 3] rfl
    refine va_calli (va_runV (As := []) (rest := []) ⟨hx, hb, hml, hown, hts⟩ (c_readWatch l E s.heap.size rd t r1 r2 r3 b1 (fun _ => 0)) (cwV 0 hts g_c_fault_c_readWatch_93 rfl rfl rfl (by decide +kernel) ⟨Nat.le_of_ble_eq_true rfl, Nat.le_of_ble_eq_true rfl⟩) ⟨pW.blind, va_recv hK hPc (ci := 4) (q0 := 0) rfl rfl, (pW.pre ⟨hK, hN⟩ hPc hDc)⟩ rfl rfl hl.1 rfl (lv_room (Nat.le_of_ble_eq_true rfl)) dX7_fault_8 ⟨Nat.le_of_ble_eq_true rfl, Nat.le_of_ble_eq_true rfl⟩) hS (fun q _ h => hFc q h) hFc (fun r_4 u tt H1 locs ht hvm hw hB hz1 hk1 hS => ?_)
    obtain ⟨hP1, hD1⟩ := hB
    rw [ht] at hP1
    obtain ⟨hP, hD⟩ := va_join (wr := [(x, .inr (8, [.ref t, .ref rd, .ref sc, .ref n, .ref tr, .ref kp, .ref bk, .ref kb, .ref hi, .ref dr, .ref rf, .int 0]))]) (w1 := []) hP hD [1, 2, 3] [0] rfl rfl (by decide) (by decide) hk1 hFc hP1 hD1
    generalize H1 = H at hP hS ⊢
    have hP : va_P E.1 vwCl [(x, .inr (8, [.ref t, .ref rd, .ref sc, .ref n, .ref tr, .ref kp, .ref bk, .ref kb, .ref hi, .ref dr, .ref rf, .int 0]))] H := hP
    have hD : va_D A [(x, .inr (8, [.ref t, .ref rd, .ref sc, .ref n, .ref tr, .ref kp, .ref bk, .ref kb, .ref hi, .ref dr, .ref rf, .int 0]))] := hD
    have hr_4 := hw
    obtain rfl : r_4 = 0 := hr_4
    have hP9 : va_P E.1 vwCl [] H := fun k q h => by simp at h
    have hD9 : va_D A [] := ⟨fun i j p q h => by simp at h, fun k q h => by simp at h⟩
    exact W.iret (v := 0) hx hb hr (fun tt ht hW => ⟨⟨_, (), rfl, (by have t0 : (0 : Int32).toInt = 0 := (by decide); simp only [Int32.lt_iff_toInt_lt, Int32.le_iff_toInt_le, ge_iff_le, gt_iff_lt, ne_eq, ← Int32.toInt_inj, t0] at c_1; unfold faultv; rw [if_pos (by omega)]), by rw [ht]; exact hP9, hD9⟩, hS.F ht⟩) hS.2.2 dX7_fault_11

def v_c_text : List Cond := .code yX7_text cX7_text 2 (some .int) :: ([.fieldLink RX7 28 "HushWatch" "scripts" "LHushWatch$Scripts;", .fieldLink RX7 21 "HushWatch" "reader" "LHushWatch$Reader;", .methodLink RX7 103 yX4_areFull, .instanceMethod yX4_areFull, .selects RX4 yX4_areFull yX4_areFull, .initialized RX4, .methodLink RX7 97 yX3_readScript, .instanceMethod yX3_readScript, .selects RX3 yX3_readScript yX3_readScript, .initialized RX3, .methodLink RX7 93 yX3_readWatch, .instanceMethod yX3_readWatch, .selects RX3 yX3_readWatch yX3_readWatch] ++ (wsX70 ++ (v_c_areFull ++ (v_c_readScript ++ (v_c_readWatch ++ ([]))))))
theorem gw_c_text : v_c_text.all goodWord = true := by decide +kernel
theorem i_c_text_X7 : ∀ w ∈ wsX70, w ∈ v_c_text := fun _ h => List.mem_cons_of_mem _ (List.mem_append_right _ (List.mem_append_left _ h))
theorem g_c_text_c_areFull_103 : GoodIn v_c_text (wsV RX7 103 RX4 yX4_areFull v_c_areFull) := goodIn_app (goodIn_of _ (by decide +kernel)) (goodIn_sub (fun _ h => List.mem_cons_of_mem _ (List.mem_append_right _ (List.mem_append_right _ (List.mem_append_left _ h)))) gw_c_areFull)
theorem g_c_text_c_readScript_97 : GoodIn v_c_text (wsV RX7 97 RX3 yX3_readScript v_c_readScript) := goodIn_app (goodIn_of _ (by decide +kernel)) (goodIn_sub (fun _ h => List.mem_cons_of_mem _ (List.mem_append_right _ (List.mem_append_right _ (List.mem_append_right _ (List.mem_append_left _ h))))) gw_c_readScript)
theorem g_c_text_c_readWatch_93 : GoodIn v_c_text (wsV RX7 93 RX3 yX3_readWatch v_c_readWatch) := goodIn_app (goodIn_of _ (by decide +kernel)) (goodIn_sub (fun _ h => List.mem_cons_of_mem _ (List.mem_append_right _ (List.mem_append_right _ (List.mem_append_right _ (List.mem_append_right _ (List.mem_append_left _ h)))))) gw_c_readWatch)
set_option maxHeartbeats 4000000 in
set_option maxRecDepth 100000 in
theorem c_text (l : Launch) (E : EE) (sz : Nat) (x t rd sc n tr kp bk kb hi dr rf : Nat) (b1 : Nat) (r1 r2 r3 : Nat) (s1 s2 : Nat) (p0 : Int32) : Met l yX7_text v_c_text ({ frames := 4, cells := 0, slots := 0, locals := 84 }) (va_Pc [.ref x, .int p0] (pW E sz [(x, .inr (8, [.ref t, .ref rd, .ref sc, .ref n, .ref tr, .ref kp, .ref bk, .ref kb, .ref hi, .ref dr, .ref rf, .int 0])), (rd, .inr (4, [.ref t, .ref r1, .ref r2, .ref r3, .int 0, .int 0, .int 0, .int 0, .int 0, .int 0, .int (-1)])), (r1, .inl (E.2.1, 3, .inl (fun _ => 0))), (t, .inr (7, [.ref b1, .int 0])), (sc, .inr (5, [.ref s1, .ref s2, .int 0]))])) (va_Qi (fun r (_u : Unit) => r = -1) (fun (_u : Unit) tt => va_P E.1 vwCl [] tt.heap ∧ va_D (va_A [(x, .inr (8, [.ref t, .ref rd, .ref sc, .ref n, .ref tr, .ref kp, .ref bk, .ref kb, .ref hi, .ref dr, .ref rf, .int 0])), (rd, .inr (4, [.ref t, .ref r1, .ref r2, .ref r3, .int 0, .int 0, .int 0, .int 0, .int 0, .int 0, .int (-1)])), (r1, .inl (E.2.1, 3, .inl (fun _ => 0))), (t, .inr (7, [.ref b1, .int 0])), (sc, .inr (5, [.ref s1, .ref s2, .int 0]))] sz) []) (va_A [(x, .inr (8, [.ref t, .ref rd, .ref sc, .ref n, .ref tr, .ref kp, .ref bk, .ref kb, .ref hi, .ref dr, .ref rf, .int 0])), (rd, .inr (4, [.ref t, .ref r1, .ref r2, .ref r3, .int 0, .int 0, .int 0, .int 0, .int 0, .int 0, .int (-1)])), (r1, .inl (E.2.1, 3, .inl (fun _ => 0))), (t, .inr (7, [.ref b1, .int 0])), (sc, .inr (5, [.ref s1, .ref s2, .int 0]))] sz)) 0 0 (va_A [(x, .inr (8, [.ref t, .ref rd, .ref sc, .ref n, .ref tr, .ref kp, .ref bk, .ref kb, .ref hi, .ref dr, .ref rf, .int 0])), (rd, .inr (4, [.ref t, .ref r1, .ref r2, .ref r3, .int 0, .int 0, .int 0, .int 0, .int 0, .int 0, .int (-1)])), (r1, .inl (E.2.1, 3, .inl (fun _ => 0))), (t, .inr (7, [.ref b1, .int 0])), (sc, .inr (5, [.ref s1, .ref s2, .int 0]))] sz) := by
  refine Met.ofW (cc := cX7_text) (maxL := 2) (ret := (some .int)) (by decide) rfl ?_
  intro p e s m args below meth c s₁ B hml hv
  obtain ⟨rfl, hsz, ⟨hK, hN⟩, hP, hD0⟩ := hv
  have hx := B.exec
  have hb := B.bytes
  have hr := B.returns
  have hts := atoms_spec (ws := v_c_text) B.pre
  have hown : s.vm.findClass RX7 = some m.cls := findClass_of_methodNamed B.named
  have hlocks := B.notSynchronized
  subst hsz
  have hD := hD0.self (sz := s.heap.size)
  generalize hAe : va_A [(x, .inr (8, [.ref t, .ref rd, .ref sc, .ref n, .ref tr, .ref kp, .ref bk, .ref kb, .ref hi, .ref dr, .ref rf, .int 0])), (rd, .inr (4, [.ref t, .ref r1, .ref r2, .ref r3, .int 0, .int 0, .int 0, .int 0, .int 0, .int 0, .int (-1)])), (r1, .inl (E.2.1, 3, .inl (fun _ => 0))), (t, .inr (7, [.ref b1, .int 0])), (sc, .inr (5, [.ref s1, .ref s2, .int 0]))] s.heap.size = A at hD ⊢
  have hA : ∀ q : Nat, s.heap.size ≤ q → A q := fun q h => by rw [← hAe]; exact Or.inr h
  have hS : va_S A s.heap s.heap [] := va_S.rf
  have hP : va_P E.1 vwCl [(x, .inr (8, [.ref t, .ref rd, .ref sc, .ref n, .ref tr, .ref kp, .ref bk, .ref kb, .ref hi, .ref dr, .ref rf, .int 0])), (rd, .inr (4, [.ref t, .ref r1, .ref r2, .ref r3, .int 0, .int 0, .int 0, .int 0, .int 0, .int 0, .int (-1)])), (r1, .inl (E.2.1, 3, .inl (fun _ => 0))), (t, .inr (7, [.ref b1, .int 0])), (sc, .inr (5, [.ref s1, .ref s2, .int 0]))] s.heap := hP
  have hl := lv_entry ([.ref x, .int p0]) (n := 2) (Nat.le_of_ble_eq_true rfl)
  rw [lg_entry_eq]
  generalize (lg_sl ([.ref x, .int p0]) ++ List.replicate (2 - (lg_sl ([.ref x, .int p0])).length) Slot.unset).toArray = ls at hl ⊢
  have hl : lv_has ls 2 [(0, .ref x), (1, .int p0)] := hl
  refine lv_iload_n hx hb dX7_text_0 rfl (lv_at hl 1 rfl) ?_
  refine lv_if_ne (tgt := 20) hx hb dX7_text_1 (by decide) (fun c_1 => ?_) (fun c_1 => ?_)
  ·
    refine lv_iload_n hx hb dX7_text_20 rfl (lv_at hl 1 rfl) ?_
    refine lv_iconst (v := 1) hx hb dX7_text_21 (by decide) ?_
    refine lv_icmp_ne (tgt := 51) hx hb dX7_text_22 (by decide) (fun c_2 => ?_) (fun c_2 => ?_)
    ·
      refine lv_iconst (v := -1) hx hb dX7_text_51 (by decide) ?_
      have hP9 : va_P E.1 vwCl [] s.heap := fun k q h => by simp at h
      have hD9 : va_D A [] := ⟨fun i j p q h => by simp at h, fun k q h => by simp at h⟩
      exact W.iret (v := -1) hx hb hr (fun tt ht hW => ⟨⟨_, (), rfl, rfl, by rw [ht]; exact hP9, hD9⟩, hS.F ht⟩) hS.2.2 dX7_text_52
    ·
      refine lv_aload_n hx hb dX7_text_25 rfl (lv_at hl 0 rfl) ?_
      refine va_get (D := E.1) (ci := 8) (v := .ref sc) (C := RX7) (T := TX7) (N := 12) hx hb hts i_c_text_X7 hown hK hP 0 rfl rfl 2 (by decide) (hts (.fieldLink RX7 28 "HushWatch" "scripts" "LHushWatch$Scripts;") (List.mem_of_getElem? (i := 1) rfl)) (fun _ h9 => h9) rfl dX7_text_26 ?_
      have hPc := hP.sub (ws' := [(sc, .inr (5, [.ref s1, .ref s2, .int 0]))]) [4] rfl
      refine pc_i (va_runV (As := []) (rest := []) ⟨hx, hb, hml, hown, hts⟩ (c_areFull l E sc s1 s2) (cwV 0 hts g_c_text_c_areFull_103 rfl rfl rfl (by decide +kernel) ⟨Nat.le_of_ble_eq_true rfl, Nat.le_of_ble_eq_true rfl⟩) ⟨pP.blind, va_recv hK hPc (ci := 5) (q0 := 0) rfl rfl, (pP.pre ⟨hK, hN⟩ hPc)⟩ rfl rfl hl.1 rfl (lv_room (Nat.le_of_ble_eq_true rfl)) dX7_text_29 ⟨Nat.le_of_ble_eq_true rfl, Nat.le_of_ble_eq_true rfl⟩) (fun r_3 hr_3 => ?_)
      obtain rfl : r_3 = 0 := hr_3
      refine lv_if_ne (tgt := 51) hx hb dX7_text_32 (by decide) (fun q => absurd (by decide) q) (fun _ => ?_)
      refine lv_aload_n hx hb dX7_text_35 rfl (lv_at hl 0 rfl) ?_
      refine va_get (D := E.1) (ci := 8) (v := .ref rd) (C := RX7) (T := TX7) (N := 12) hx hb hts i_c_text_X7 hown hK hP 0 rfl rfl 1 (by decide) (hts (.fieldLink RX7 21 "HushWatch" "reader" "LHushWatch$Reader;") (List.mem_of_getElem? (i := 2) rfl)) (fun _ h9 => h9) rfl dX7_text_36 ?_
      have hPc := hP.sub (ws' := [(rd, .inr (4, [.ref t, .ref r1, .ref r2, .ref r3, .int 0, .int 0, .int 0, .int 0, .int 0, .int 0, .int (-1)])), (r1, .inl (E.2.1, 3, .inl (fun _ => 0))), (t, .inr (7, [.ref b1, .int 0]))]) [1, 2, 3] rfl
      have hDc := hD.sub (ws' := [(rd, .inr (4, [.ref t, .ref r1, .ref r2, .ref r3, .int 0, .int 0, .int 0, .int 0, .int 0, .int 0, .int (-1)])), (r1, .inl (E.2.1, 3, .inl (fun _ => 0))), (t, .inr (7, [.ref b1, .int 0]))]) [1, 2, 3] (by decide) rfl
      have hFc := va_free (wc := [(rd, .inr (4, [.ref t, .ref r1, .ref r2, .ref r3, .int 0, .int 0, .int 0, .int 0, .int 0, .int 0, .int (-1)])), (r1, .inl (E.2.1, 3, .inl (fun _ => 0))), (t, .inr (7, [.ref b1, .int 0]))]) hD hS hA [1, 2, 3] rfl
      refine va_calli (va_runV (As := []) (rest := []) ⟨hx, hb, hml, hown, hts⟩ (c_readScript l E s.heap.size rd t r1 r2 r3 b1 (fun _ => 0)) (cwV 0 hts g_c_text_c_readScript_97 rfl rfl rfl (by decide +kernel) ⟨Nat.le_of_ble_eq_true rfl, Nat.le_of_ble_eq_true rfl⟩) ⟨pW.blind, va_recv hK hPc (ci := 4) (q0 := 0) rfl rfl, (pW.pre ⟨hK, hN⟩ hPc hDc)⟩ rfl rfl hl.1 rfl (lv_room (Nat.le_of_ble_eq_true rfl)) dX7_text_39 ⟨Nat.le_of_ble_eq_true rfl, Nat.le_of_ble_eq_true rfl⟩) hS (fun q _ h => hFc q h) hFc (fun r_4 u tt H1 locs ht hvm hw hB hz1 hk1 hS => ?_)
      obtain ⟨hP1, hD1⟩ := hB
      rw [ht] at hP1
      obtain ⟨hP, hD⟩ := va_join (wr := [(x, .inr (8, [.ref t, .ref rd, .ref sc, .ref n, .ref tr, .ref kp, .ref bk, .ref kb, .ref hi, .ref dr, .ref rf, .int 0])), (sc, .inr (5, [.ref s1, .ref s2, .int 0]))]) (w1 := []) hP hD [1, 2, 3] [0, 4] rfl rfl (by decide) (by decide) hk1 hFc hP1 hD1
      generalize H1 = H at hP hS ⊢
      have hP : va_P E.1 vwCl [(x, .inr (8, [.ref t, .ref rd, .ref sc, .ref n, .ref tr, .ref kp, .ref bk, .ref kb, .ref hi, .ref dr, .ref rf, .int 0])), (sc, .inr (5, [.ref s1, .ref s2, .int 0]))] H := hP
      have hD : va_D A [(x, .inr (8, [.ref t, .ref rd, .ref sc, .ref n, .ref tr, .ref kp, .ref bk, .ref kb, .ref hi, .ref dr, .ref rf, .int 0])), (sc, .inr (5, [.ref s1, .ref s2, .int 0]))] := hD
      have hr_4 := hw
      obtain rfl : r_4 = 0 := hr_4
      refine lv_iconst (v := -1) hx hb dX7_text_42 (by decide) ?_
      refine lv_icmp_ne (tgt := 51) hx hb dX7_text_43 (by decide) (fun _ => ?_) (fun q => absurd q (by decide))
      refine lv_iconst (v := -1) hx hb dX7_text_51 (by decide) ?_
      have hP9 : va_P E.1 vwCl [] H := fun k q h => by simp at h
      have hD9 : va_D A [] := ⟨fun i j p q h => by simp at h, fun k q h => by simp at h⟩
      exact W.iret (v := -1) hx hb hr (fun tt ht hW => ⟨⟨_, (), rfl, rfl, by rw [ht]; exact hP9, hD9⟩, hS.F ht⟩) hS.2.2 dX7_text_52
  ·
    refine lv_aload_n hx hb dX7_text_4 rfl (lv_at hl 0 rfl) ?_
    refine va_get (D := E.1) (ci := 8) (v := .ref rd) (C := RX7) (T := TX7) (N := 12) hx hb hts i_c_text_X7 hown hK hP 0 rfl rfl 1 (by decide) (hts (.fieldLink RX7 21 "HushWatch" "reader" "LHushWatch$Reader;") (List.mem_of_getElem? (i := 2) rfl)) (fun _ h9 => h9) rfl dX7_text_5 ?_
    have hPc := hP.sub (ws' := [(rd, .inr (4, [.ref t, .ref r1, .ref r2, .ref r3, .int 0, .int 0, .int 0, .int 0, .int 0, .int 0, .int (-1)])), (r1, .inl (E.2.1, 3, .inl (fun _ => 0))), (t, .inr (7, [.ref b1, .int 0]))]) [1, 2, 3] rfl
    have hDc := hD.sub (ws' := [(rd, .inr (4, [.ref t, .ref r1, .ref r2, .ref r3, .int 0, .int 0, .int 0, .int 0, .int 0, .int 0, .int (-1)])), (r1, .inl (E.2.1, 3, .inl (fun _ => 0))), (t, .inr (7, [.ref b1, .int 0]))]) [1, 2, 3] (by decide) rfl
    have hFc := va_free (wc := [(rd, .inr (4, [.ref t, .ref r1, .ref r2, .ref r3, .int 0, .int 0, .int 0, .int 0, .int 0, .int 0, .int (-1)])), (r1, .inl (E.2.1, 3, .inl (fun _ => 0))), (t, .inr (7, [.ref b1, .int 0]))]) hD hS hA [1, 2, 3] rfl
    refine va_calli (va_runV (As := []) (rest := []) ⟨hx, hb, hml, hown, hts⟩ (c_readWatch l E s.heap.size rd t r1 r2 r3 b1 (fun _ => 0)) (cwV 0 hts g_c_text_c_readWatch_93 rfl rfl rfl (by decide +kernel) ⟨Nat.le_of_ble_eq_true rfl, Nat.le_of_ble_eq_true rfl⟩) ⟨pW.blind, va_recv hK hPc (ci := 4) (q0 := 0) rfl rfl, (pW.pre ⟨hK, hN⟩ hPc hDc)⟩ rfl rfl hl.1 rfl (lv_room (Nat.le_of_ble_eq_true rfl)) dX7_text_8 ⟨Nat.le_of_ble_eq_true rfl, Nat.le_of_ble_eq_true rfl⟩) hS (fun q _ h => hFc q h) hFc (fun r_5 u tt H1 locs ht hvm hw hB hz1 hk1 hS => ?_)
    obtain ⟨hP1, hD1⟩ := hB
    rw [ht] at hP1
    obtain ⟨hP, hD⟩ := va_join (wr := [(x, .inr (8, [.ref t, .ref rd, .ref sc, .ref n, .ref tr, .ref kp, .ref bk, .ref kb, .ref hi, .ref dr, .ref rf, .int 0])), (sc, .inr (5, [.ref s1, .ref s2, .int 0]))]) (w1 := []) hP hD [1, 2, 3] [0, 4] rfl rfl (by decide) (by decide) hk1 hFc hP1 hD1
    generalize H1 = H at hP hS ⊢
    have hP : va_P E.1 vwCl [(x, .inr (8, [.ref t, .ref rd, .ref sc, .ref n, .ref tr, .ref kp, .ref bk, .ref kb, .ref hi, .ref dr, .ref rf, .int 0])), (sc, .inr (5, [.ref s1, .ref s2, .int 0]))] H := hP
    have hD : va_D A [(x, .inr (8, [.ref t, .ref rd, .ref sc, .ref n, .ref tr, .ref kp, .ref bk, .ref kb, .ref hi, .ref dr, .ref rf, .int 0])), (sc, .inr (5, [.ref s1, .ref s2, .int 0]))] := hD
    have hr_5 := hw
    obtain rfl : r_5 = 0 := hr_5
    refine lv_iconst (v := -1) hx hb dX7_text_11 (by decide) ?_
    refine lv_icmp_ne (tgt := 20) hx hb dX7_text_12 (by decide) (fun _ => ?_) (fun q => absurd q (by decide))
    refine lv_iload_n hx hb dX7_text_20 rfl (lv_at hl 1 rfl) ?_
    refine lv_iconst (v := 1) hx hb dX7_text_21 (by decide) ?_
    refine lv_icmp_ne (tgt := 51) hx hb dX7_text_22 (by decide) (fun c_6 => ?_) (fun c_6 => ?_)
    ·
      refine lv_iconst (v := -1) hx hb dX7_text_51 (by decide) ?_
      have hP9 : va_P E.1 vwCl [] H := fun k q h => by simp at h
      have hD9 : va_D A [] := ⟨fun i j p q h => by simp at h, fun k q h => by simp at h⟩
      exact W.iret (v := -1) hx hb hr (fun tt ht hW => ⟨⟨_, (), rfl, rfl, by rw [ht]; exact hP9, hD9⟩, hS.F ht⟩) hS.2.2 dX7_text_52
    ·
      exact absurd trivial (by exfalso; have t0 : (0 : Int32).toInt = 0 := (by decide); have t1 : (1 : Int32).toInt = 1 := (by decide); simp only [Int32.lt_iff_toInt_lt, Int32.le_iff_toInt_le, ge_iff_le, gt_iff_lt, ne_eq, ← Int32.toInt_inj, t0, t1] at c_1 c_6; omega)
