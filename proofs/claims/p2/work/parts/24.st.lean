theorem dX5_shareOf_0 : decode cX5_shareOf 0 = .ok (.iload_n 2, 1) := by decide +kernel
theorem dX5_shareOf_1 : decode cX5_shareOf 1 = .ok (.ifCond .lt 8, 3) := by decide +kernel
theorem dX5_shareOf_9 : decode cX5_shareOf 9 = .ok (.iconst 0, 1) := by decide +kernel
theorem dX5_shareOf_10 : decode cX5_shareOf 10 = .ok (.ireturn, 1) := by decide +kernel
theorem dX5_shareOf_4 : decode cX5_shareOf 4 = .ok (.iload_n 2, 1) := by decide +kernel
theorem dX5_shareOf_5 : decode cX5_shareOf 5 = .ok (.iconst 1, 1) := by decide +kernel
theorem dX5_shareOf_6 : decode cX5_shareOf 6 = .ok (.if_icmp .le 5, 3) := by decide +kernel
theorem dX5_shareOf_11 : decode cX5_shareOf 11 = .ok (.iload_n 1, 1) := by decide +kernel
theorem dX5_shareOf_12 : decode cX5_shareOf 12 = .ok (.aload_n 0, 1) := by decide +kernel
theorem dX5_shareOf_13 : decode cX5_shareOf 13 = .ok (.getfield 28, 3) := by decide +kernel
theorem dX5_shareOf_16 : decode cX5_shareOf 16 = .ok (.iload_n 2, 1) := by decide +kernel
theorem dX5_shareOf_17 : decode cX5_shareOf 17 = .ok (.iaload, 1) := by decide +kernel
theorem dX5_shareOf_38 : decode cX5_shareOf 38 = .ok (.ireturn, 1) := by decide +kernel
theorem dX5_shareOf_18 : decode cX5_shareOf 18 = .ok (.if_icmp .ge 14, 3) := by decide +kernel
theorem dX5_shareOf_32 : decode cX5_shareOf 32 = .ok (.aload_n 0, 1) := by decide +kernel
theorem dX5_shareOf_33 : decode cX5_shareOf 33 = .ok (.getfield 25, 3) := by decide +kernel
theorem dX5_shareOf_36 : decode cX5_shareOf 36 = .ok (.iload_n 2, 1) := by decide +kernel
theorem dX5_shareOf_37 : decode cX5_shareOf 37 = .ok (.iaload, 1) := by decide +kernel
theorem dX5_shareOf_21 : decode cX5_shareOf 21 = .ok (.aload_n 0, 1) := by decide +kernel
theorem dX5_shareOf_22 : decode cX5_shareOf 22 = .ok (.getfield 25, 3) := by decide +kernel
theorem dX5_shareOf_25 : decode cX5_shareOf 25 = .ok (.iload_n 2, 1) := by decide +kernel
theorem dX5_shareOf_26 : decode cX5_shareOf 26 = .ok (.iaload, 1) := by decide +kernel
theorem dX5_shareOf_27 : decode cX5_shareOf 27 = .ok (.iconst 1, 1) := by decide +kernel
theorem dX5_shareOf_28 : decode cX5_shareOf 28 = .ok (.iadd, 1) := by decide +kernel
theorem dX5_shareOf_29 : decode cX5_shareOf 29 = .ok (.goto 9, 3) := by decide +kernel
def v_s_shareOf : List Cond := .code yX5_shareOf cX5_shareOf 3 (some .int) :: ([.fieldLink RX5 28 "HushWatch$State" "leftOver" "[I", .fieldLink RX5 25 "HushWatch$State" "share" "[I"] ++ (wsX50 ++ ([])))
theorem gw_s_shareOf : v_s_shareOf.all goodWord = true := by decide +kernel
theorem i_s_shareOf_X5 : ∀ w ∈ wsX50, w ∈ v_s_shareOf := fun _ h => List.mem_cons_of_mem _ (List.mem_append_right _ (List.mem_append_left _ h))
set_option maxHeartbeats 4000000 in
set_option maxRecDepth 100000 in
theorem s_shareOf (l : Launch) (E : EE) (h g1 g2 g3 g4 : Nat) (ka ko : Int32) (fs fl : Nat → Int32) (p0 p1 : Int32) : Met l yX5_shareOf v_s_shareOf ({ frames := 0, cells := 0, slots := 0, locals := 0 }) (va_Pc [.ref h, .int p0, .int p1] (pP E [(h, .inr (6, [.ref g1, .ref g2, .int ka, .int ko, .ref g3, .ref g4])), (g3, .inl (E.2.1, 2, .inl fs)), (g4, .inl (E.2.1, 2, .inl fl))])) (vp_Si (fun r : Int32 => True)) 0 0 (fun _ => False) := by
  refine Met.ofW (cc := cX5_shareOf) (maxL := 3) (ret := (some .int)) (by decide) rfl ?_
  intro p e s m args below meth c s₁ B hml hv
  obtain ⟨rfl, ⟨hK, hN⟩, hP⟩ := hv
  have hx := B.exec
  have hb := B.bytes
  have hr := B.returns
  have hts := atoms_spec (ws := v_s_shareOf) B.pre
  have hown : s.vm.findClass RX5 = some m.cls := findClass_of_methodNamed B.named
  have hlocks := B.notSynchronized
  have hP : va_P E.1 vwCl [(h, .inr (6, [.ref g1, .ref g2, .int ka, .int ko, .ref g3, .ref g4])), (g3, .inl (E.2.1, 2, .inl fs)), (g4, .inl (E.2.1, 2, .inl fl))] s.heap := hP
  have hl := lv_entry ([.ref h, .int p0, .int p1]) (n := 3) (Nat.le_of_ble_eq_true rfl)
  rw [lg_entry_eq]
  generalize (lg_sl ([.ref h, .int p0, .int p1]) ++ List.replicate (3 - (lg_sl ([.ref h, .int p0, .int p1])).length) Slot.unset).toArray = ls at hl ⊢
  have hl : lv_has ls 3 [(0, .ref h), (1, .int p0), (2, .int p1)] := hl
  obtain ⟨Q, hQ⟩ : ∃ Q : State → Prop, Q = MQ below (vp_Si (fun r : Int32 => True)) #[Value.ref h, Value.int p0, Value.int p1] s 0 0 (fun _ => False) := ⟨_, rfl⟩
  rw [← hQ]
  change W p l e ({ frames := 0, cells := 0, slots := 0, locals := 0 } : Room) s m #[Value.ref h, Value.int p0, Value.int p1] below meth c s.heap [] 0 0 Q (F0 m 0 ls [])
  refine lv_iload_n hx hb dX5_shareOf_0 rfl (lv_at hl 2 rfl) ?_
  refine lv_if_lt (tgt := 9) hx hb dX5_shareOf_1 (by decide) (fun c_1 => ?_) (fun c_1 => ?_)
  ·
    refine lv_iconst (v := 0) hx hb dX5_shareOf_9 (by decide) ?_
    rw [hQ]
    exact W.iret (v := 0) hx hb hr (fun tt ht hW => ⟨_, rfl, trivial, ht⟩) (fun _ h => by cases h) dX5_shareOf_10
  ·
    refine lv_iload_n hx hb dX5_shareOf_4 rfl (lv_at hl 2 rfl) ?_
    refine lv_iconst (v := 1) hx hb dX5_shareOf_5 (by decide) ?_
    refine lv_icmp_le (tgt := 11) hx hb dX5_shareOf_6 (by decide) (fun c_2 => ?_) (fun c_2 => ?_)
    ·
      obtain ⟨j_3, hj_3, ej_3⟩ : ∃ j : Nat, j ≤ 1 ∧ p1 = nI j := nat_rng (by have t0 : (0 : Int32).toInt = 0 := (by decide); have t1 : (1 : Int32).toInt = 1 := (by decide); simp only [Int32.lt_iff_toInt_lt, Int32.le_iff_toInt_le, ge_iff_le, gt_iff_lt, ne_eq, ← Int32.toInt_inj, t0, t1] at c_1 c_2 ⊢; omega)
      refine lv_iload_n hx hb dX5_shareOf_11 rfl (lv_at hl 1 rfl) ?_
      refine lv_aload_n hx hb dX5_shareOf_12 rfl (lv_at hl 0 rfl) ?_
      refine va_get (D := E.1) (ci := 6) (v := .ref g4) (C := RX5) (T := TX5) (N := 6) hx hb hts i_s_shareOf_X5 hown hK hP 0 rfl rfl 5 (by decide) (hts (.fieldLink RX5 28 "HushWatch$State" "leftOver" "[I") (List.mem_of_getElem? (i := 1) rfl)) (fun _ h9 => h9) rfl dX5_shareOf_13 ?_
      refine lv_iload_n hx hb dX5_shareOf_16 rfl (lv_at hl 2 rfl) ?_
      refine W.eq (g2 := F0 m 17 ls [.int (nI j_3), .ref g4, .int p0]) (by rw [ej_3]) ?_
      refine va_iald hx hb hK hP 2 0 rfl rfl (vp_in_nI (by omega) (by decide)) dX5_shareOf_17 ?_
      refine lv_topi (fun z_4 ez_4 => ?_)
      have K_10 : ∀ (y_9 : Int32), ∀ (ls : Array Slot), lv_has ls 3 [(0, .ref h), (1, .int p0), (2, .int p1)] → W p l e ({ frames := 0, cells := 0, slots := 0, locals := 0 } : Room) s m #[Value.ref h, Value.int p0, Value.int p1] below meth c s.heap [] 0 0 Q (F0 m 38 ls [.int y_9]) := by
        intro y_9 ls hl
        rw [hQ]
        exact W.iret (v := y_9) hx hb hr (fun tt ht hW => ⟨_, rfl, trivial, ht⟩) (fun _ h => by cases h) dX5_shareOf_38
      refine lv_icmp_ge (tgt := 32) hx hb dX5_shareOf_18 (by decide) (fun c_5 => ?_) (fun c_5 => ?_)
      ·
        refine lv_aload_n hx hb dX5_shareOf_32 rfl (lv_at hl 0 rfl) ?_
        refine va_get (D := E.1) (ci := 6) (v := .ref g3) (C := RX5) (T := TX5) (N := 6) hx hb hts i_s_shareOf_X5 hown hK hP 0 rfl rfl 4 (by decide) (hts (.fieldLink RX5 25 "HushWatch$State" "share" "[I") (List.mem_of_getElem? (i := 2) rfl)) (fun _ h9 => h9) rfl dX5_shareOf_33 ?_
        refine lv_iload_n hx hb dX5_shareOf_36 rfl (lv_at hl 2 rfl) ?_
        refine W.eq (g2 := F0 m 37 ls [.int (nI j_3), .ref g3]) (by rw [ej_3]) ?_
        refine va_iald hx hb hK hP 1 0 rfl rfl (vp_in_nI (by omega) (by decide)) dX5_shareOf_37 ?_
        refine lv_topi (fun z_11 ez_11 => ?_)
        exact K_10 z_11 ls  (lv_sub hl [0, 1, 2] rfl)
      ·
        refine lv_aload_n hx hb dX5_shareOf_21 rfl (lv_at hl 0 rfl) ?_
        refine va_get (D := E.1) (ci := 6) (v := .ref g3) (C := RX5) (T := TX5) (N := 6) hx hb hts i_s_shareOf_X5 hown hK hP 0 rfl rfl 4 (by decide) (hts (.fieldLink RX5 25 "HushWatch$State" "share" "[I") (List.mem_of_getElem? (i := 2) rfl)) (fun _ h9 => h9) rfl dX5_shareOf_22 ?_
        refine lv_iload_n hx hb dX5_shareOf_25 rfl (lv_at hl 2 rfl) ?_
        refine W.eq (g2 := F0 m 26 ls [.int (nI j_3), .ref g3]) (by rw [ej_3]) ?_
        refine va_iald hx hb hK hP 1 0 rfl rfl (vp_in_nI (by omega) (by decide)) dX5_shareOf_26 ?_
        refine lv_topi (fun z_12 ez_12 => ?_)
        refine lv_iconst (v := 1) hx hb dX5_shareOf_27 (by decide) ?_
        refine lv_iadd hx hb dX5_shareOf_28 ?_
        refine lv_topi (fun z_13 ez_13 => ?_)
        refine lv_goto (tgt := 38) hx hb dX5_shareOf_29 (by decide) ?_
        exact K_10 z_13 ls  (lv_sub hl [0, 1, 2] rfl)
    ·
      refine lv_iconst (v := 0) hx hb dX5_shareOf_9 (by decide) ?_
      rw [hQ]
      exact W.iret (v := 0) hx hb hr (fun tt ht hW => ⟨_, rfl, trivial, ht⟩) (fun _ h => by cases h) dX5_shareOf_10
