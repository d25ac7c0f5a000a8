theorem dX3_start_0 : decode cX3_start 0 = .ok (.aload_n 0, 1) := by decide +kernel
theorem dX3_start_1 : decode cX3_start 1 = .ok (.getfield 9, 3) := by decide +kernel
theorem dX3_start_4 : decode cX3_start 4 = .ok (.iconst 0, 1) := by decide +kernel
theorem dX3_start_5 : decode cX3_start 5 = .ok (.iconst 0, 1) := by decide +kernel
theorem dX3_start_6 : decode cX3_start 6 = .ok (.iastore, 1) := by decide +kernel
theorem dX3_start_7 : decode cX3_start 7 = .ok (.aload_n 0, 1) := by decide +kernel
theorem dX3_start_8 : decode cX3_start 8 = .ok (.getfield 9, 3) := by decide +kernel
theorem dX3_start_11 : decode cX3_start 11 = .ok (.iconst 1, 1) := by decide +kernel
theorem dX3_start_12 : decode cX3_start 12 = .ok (.sipush 1000, 3) := by decide +kernel
theorem dX3_start_15 : decode cX3_start 15 = .ok (.iastore, 1) := by decide +kernel
theorem dX3_start_16 : decode cX3_start 16 = .ok (.aload_n 0, 1) := by decide +kernel
theorem dX3_start_17 : decode cX3_start 17 = .ok (.getfield 9, 3) := by decide +kernel
theorem dX3_start_20 : decode cX3_start 20 = .ok (.iconst 2, 1) := by decide +kernel
theorem dX3_start_21 : decode cX3_start 21 = .ok (.bipush 100, 2) := by decide +kernel
theorem dX3_start_23 : decode cX3_start 23 = .ok (.iastore, 1) := by decide +kernel
theorem dX3_start_24 : decode cX3_start 24 = .ok (.aload_n 0, 1) := by decide +kernel
theorem dX3_start_25 : decode cX3_start 25 = .ok (.iconst 0, 1) := by decide +kernel
theorem dX3_start_26 : decode cX3_start 26 = .ok (.putfield 21, 3) := by decide +kernel
theorem dX3_start_29 : decode cX3_start 29 = .ok (.aload_n 0, 1) := by decide +kernel
theorem dX3_start_30 : decode cX3_start 30 = .ok (.iconst 0, 1) := by decide +kernel
theorem dX3_start_31 : decode cX3_start 31 = .ok (.putfield 25, 3) := by decide +kernel
theorem dX3_start_34 : decode cX3_start 34 = .ok (.aload_n 0, 1) := by decide +kernel
theorem dX3_start_35 : decode cX3_start 35 = .ok (.iconst 0, 1) := by decide +kernel
theorem dX3_start_36 : decode cX3_start 36 = .ok (.putfield 28, 3) := by decide +kernel
theorem dX3_start_39 : decode cX3_start 39 = .ok (.aload_n 0, 1) := by decide +kernel
theorem dX3_start_40 : decode cX3_start 40 = .ok (.iconst 0, 1) := by decide +kernel
theorem dX3_start_41 : decode cX3_start 41 = .ok (.putfield 31, 3) := by decide +kernel
theorem dX3_start_44 : decode cX3_start 44 = .ok (.aload_n 0, 1) := by decide +kernel
theorem dX3_start_45 : decode cX3_start 45 = .ok (.iconst (-1), 1) := by decide +kernel
theorem dX3_start_46 : decode cX3_start 46 = .ok (.putfield 40, 3) := by decide +kernel
theorem dX3_start_49 : decode cX3_start 49 = .ok (.return_, 1) := by decide +kernel
theorem dX3_putInStep_0 : decode cX3_putInStep 0 = .ok (.aload_n 0, 1) := by decide +kernel
theorem dX3_putInStep_1 : decode cX3_putInStep 1 = .ok (.getfield 25, 3) := by decide +kernel
theorem dX3_putInStep_4 : decode cX3_putInStep 4 = .ok (.bipush 12, 2) := by decide +kernel
theorem dX3_putInStep_6 : decode cX3_putInStep 6 = .ok (.if_icmp .ge 26, 3) := by decide +kernel
theorem dX3_putInStep_32 : decode cX3_putInStep 32 = .ok (.return_, 1) := by decide +kernel
theorem dX3_putInStep_9 : decode cX3_putInStep 9 = .ok (.iload_n 1, 1) := by decide +kernel
theorem dX3_putInStep_10 : decode cX3_putInStep 10 = .ok (.ifCond .lt 22, 3) := by decide +kernel
theorem dX3_putInStep_13 : decode cX3_putInStep 13 = .ok (.iload_n 1, 1) := by decide +kernel
theorem dX3_putInStep_14 : decode cX3_putInStep 14 = .ok (.iconst 4, 1) := by decide +kernel
theorem dX3_putInStep_15 : decode cX3_putInStep 15 = .ok (.if_icmp .ge 17, 3) := by decide +kernel
theorem dX3_putInStep_18 : decode cX3_putInStep 18 = .ok (.aload_n 0, 1) := by decide +kernel
theorem dX3_putInStep_19 : decode cX3_putInStep 19 = .ok (.getfield 18, 3) := by decide +kernel
theorem dX3_putInStep_22 : decode cX3_putInStep 22 = .ok (.aload_n 0, 1) := by decide +kernel
theorem dX3_putInStep_23 : decode cX3_putInStep 23 = .ok (.getfield 25, 3) := by decide +kernel
theorem dX3_putInStep_26 : decode cX3_putInStep 26 = .ok (.iconst 4, 1) := by decide +kernel
theorem dX3_putInStep_27 : decode cX3_putInStep 27 = .ok (.imul, 1) := by decide +kernel
theorem dX3_putInStep_28 : decode cX3_putInStep 28 = .ok (.iload_n 1, 1) := by decide +kernel
theorem dX3_putInStep_29 : decode cX3_putInStep 29 = .ok (.iadd, 1) := by decide +kernel
theorem dX3_putInStep_30 : decode cX3_putInStep 30 = .ok (.iload_n 2, 1) := by decide +kernel
theorem dX3_putInStep_31 : decode cX3_putInStep 31 = .ok (.iastore, 1) := by decide +kernel
def v_r_start : List Cond := .code yX3_start cX3_start 1 none :: ([.fieldLink RX3 9 "HushWatch$Reader" "rules" "[I", .fieldLink RX3 21 "HushWatch$Reader" "siteCount" "I", .fieldLink RX3 25 "HushWatch$Reader" "stepCount" "I", .fieldLink RX3 28 "HushWatch$Reader" "seenRules" "I", .fieldLink RX3 31 "HushWatch$Reader" "at" "I", .fieldLink RX3 40 "HushWatch$Reader" "failed" "I"] ++ (wsX30 ++ ([])))
theorem gw_r_start : v_r_start.all goodWord = true := by decide +kernel
theorem i_r_start_X3 : ∀ w ∈ wsX30, w ∈ v_r_start := fun _ h => List.mem_cons_of_mem _ (List.mem_append_right _ (List.mem_append_left _ h))
set_option maxHeartbeats 4000000 in
set_option maxRecDepth 100000 in
theorem r_start (l : Launch) (E : EE) (sz : Nat) (h t r1 r2 r3 : Nat) (y4 y5 y6 y7 y8 y9 y10 : Int32) (fr : Nat → Int32) : Met l yX3_start v_r_start ({ frames := 0, cells := 0, slots := 0, locals := 0 }) (va_Pc [.ref h] (pW E sz [(h, .inr (4, [.ref t, .ref r1, .ref r2, .ref r3, .int y4, .int y5, .int y6, .int y7, .int y8, .int y9, .int y10])), (r1, .inl (E.2.1, 3, .inl fr))])) (va_Qv (fun (fr1 : Nat → Int32) => (fr1 0 = 0 ∧ fr1 1 = 1000 ∧ fr1 2 = 100)) (fun (fr1 : Nat → Int32) tt => va_P E.1 vwCl [(h, .inr (4, [.ref t, .ref r1, .ref r2, .ref r3, .int 0, .int 0, .int 0, .int 0, .int y8, .int y9, .int (-1)])), (r1, .inl (E.2.1, 3, .inl fr1))] tt.heap ∧ va_D (va_A [(h, .inr (4, [.ref t, .ref r1, .ref r2, .ref r3, .int y4, .int y5, .int y6, .int y7, .int y8, .int y9, .int y10])), (r1, .inl (E.2.1, 3, .inl fr))] sz) [(h, .inr (4, [.ref t, .ref r1, .ref r2, .ref r3, .int 0, .int 0, .int 0, .int 0, .int y8, .int y9, .int (-1)])), (r1, .inl (E.2.1, 3, .inl fr1))]) (va_A [(h, .inr (4, [.ref t, .ref r1, .ref r2, .ref r3, .int y4, .int y5, .int y6, .int y7, .int y8, .int y9, .int y10])), (r1, .inl (E.2.1, 3, .inl fr))] sz)) 0 0 (va_A [(h, .inr (4, [.ref t, .ref r1, .ref r2, .ref r3, .int y4, .int y5, .int y6, .int y7, .int y8, .int y9, .int y10])), (r1, .inl (E.2.1, 3, .inl fr))] sz) := by
  refine Met.ofW (cc := cX3_start) (maxL := 1) (ret := none) (by decide) rfl ?_
  intro p e s m args below meth c s₁ B hml hv
  obtain ⟨rfl, hsz, ⟨hK, hN⟩, hP, hD0⟩ := hv
  have hx := B.exec
  have hb := B.bytes
  have hr := B.returns
  have hts := atoms_spec (ws := v_r_start) B.pre
  have hown : s.vm.findClass RX3 = some m.cls := findClass_of_methodNamed B.named
  have hlocks := B.notSynchronized
  subst hsz
  have hD := hD0.self (sz := s.heap.size)
  generalize hAe : va_A [(h, .inr (4, [.ref t, .ref r1, .ref r2, .ref r3, .int y4, .int y5, .int y6, .int y7, .int y8, .int y9, .int y10])), (r1, .inl (E.2.1, 3, .inl fr))] s.heap.size = A at hD ⊢
  have hA : ∀ q : Nat, s.heap.size ≤ q → A q := fun q h => by rw [← hAe]; exact Or.inr h
  have hS : va_S A s.heap s.heap [] := va_S.rf
  have hP : va_P E.1 vwCl [(h, .inr (4, [.ref t, .ref r1, .ref r2, .ref r3, .int y4, .int y5, .int y6, .int y7, .int y8, .int y9, .int y10])), (r1, .inl (E.2.1, 3, .inl fr))] s.heap := hP
  have hl := lv_entry ([.ref h]) (n := 1) (Nat.le_of_ble_eq_true rfl)
  rw [lg_entry_eq]
  generalize (lg_sl ([.ref h]) ++ List.replicate (1 - (lg_sl ([.ref h])).length) Slot.unset).toArray = ls at hl ⊢
  have hl : lv_has ls 1 [(0, .ref h)] := hl
  obtain ⟨Q, hQ⟩ : ∃ Q : State → Prop, Q = MQ below (va_Qv (fun (fr1 : Nat → Int32) => (fr1 0 = 0 ∧ fr1 1 = 1000 ∧ fr1 2 = 100)) (fun (fr1 : Nat → Int32) tt => va_P E.1 vwCl [(h, .inr (4, [.ref t, .ref r1, .ref r2, .ref r3, .int 0, .int 0, .int 0, .int 0, .int y8, .int y9, .int (-1)])), (r1, .inl (E.2.1, 3, .inl fr1))] tt.heap ∧ va_D A [(h, .inr (4, [.ref t, .ref r1, .ref r2, .ref r3, .int 0, .int 0, .int 0, .int 0, .int y8, .int y9, .int (-1)])), (r1, .inl (E.2.1, 3, .inl fr1))]) A) #[Value.ref h] s 0 0 A := ⟨_, rfl⟩
  rw [← hQ]
  change W p l e ({ frames := 0, cells := 0, slots := 0, locals := 0 } : Room) s m #[Value.ref h] below meth c s.heap [] 0 0 Q (F0 m 0 ls [])
  refine lv_aload_n hx hb dX3_start_0 rfl (lv_at hl 0 rfl) ?_
  refine va_get (D := E.1) (ci := 4) (v := .ref r1) (C := RX3) (T := TX3) (N := 11) hx hb hts i_r_start_X3 hown hK hP 0 rfl rfl 1 (by decide) (hts (.fieldLink RX3 9 "HushWatch$Reader" "rules" "[I") (List.mem_of_getElem? (i := 1) rfl)) (fun _ h9 => h9) rfl dX3_start_1 ?_
  refine lv_iconst (v := 0) hx hb dX3_start_4 (by decide) ?_
  refine lv_iconst (v := 0) hx hb dX3_start_5 (by decide) ?_
  refine va_iast hx hb hK hP hD hS 1 0 rfl rfl (vin rfl) dX3_start_6 (fun H locs hP hD hS => ?_)
  have hP : va_P E.1 vwCl [(h, .inr (4, [.ref t, .ref r1, .ref r2, .ref r3, .int y4, .int y5, .int y6, .int y7, .int y8, .int y9, .int y10])), (r1, .inl (E.2.1, 3, .inl (upd fr (0 : Int32).toNatClampNeg 0)))] H := hP
  have hD : va_D A [(h, .inr (4, [.ref t, .ref r1, .ref r2, .ref r3, .int y4, .int y5, .int y6, .int y7, .int y8, .int y9, .int y10])), (r1, .inl (E.2.1, 3, .inl (upd fr (0 : Int32).toNatClampNeg 0)))] := hD
  obtain ⟨f_1, hf_1⟩ : ∃ g : Nat → Int32, g = upd fr (0 : Int32).toNatClampNeg 0 := ⟨_, rfl⟩
  rw [← hf_1] at hP hD
  refine lv_aload_n hx hb dX3_start_7 rfl (lv_at hl 0 rfl) ?_
  refine va_get (D := E.1) (ci := 4) (v := .ref r1) (C := RX3) (T := TX3) (N := 11) hx hb hts i_r_start_X3 hown hK hP 0 rfl rfl 1 (by decide) (hts (.fieldLink RX3 9 "HushWatch$Reader" "rules" "[I") (List.mem_of_getElem? (i := 1) rfl)) (fun _ h9 => h9) rfl dX3_start_8 ?_
  refine lv_iconst (v := 1) hx hb dX3_start_11 (by decide) ?_
  refine lv_sipush (v := 1000) hx hb dX3_start_12 (by decide) ?_
  refine va_iast hx hb hK hP hD hS 1 0 rfl rfl (vin rfl) dX3_start_15 (fun H locs hP hD hS => ?_)
  have hP : va_P E.1 vwCl [(h, .inr (4, [.ref t, .ref r1, .ref r2, .ref r3, .int y4, .int y5, .int y6, .int y7, .int y8, .int y9, .int y10])), (r1, .inl (E.2.1, 3, .inl (upd f_1 (1 : Int32).toNatClampNeg 1000)))] H := hP
  have hD : va_D A [(h, .inr (4, [.ref t, .ref r1, .ref r2, .ref r3, .int y4, .int y5, .int y6, .int y7, .int y8, .int y9, .int y10])), (r1, .inl (E.2.1, 3, .inl (upd f_1 (1 : Int32).toNatClampNeg 1000)))] := hD
  obtain ⟨f_2, hf_2⟩ : ∃ g : Nat → Int32, g = upd f_1 (1 : Int32).toNatClampNeg 1000 := ⟨_, rfl⟩
  rw [← hf_2] at hP hD
  refine lv_aload_n hx hb dX3_start_16 rfl (lv_at hl 0 rfl) ?_
  refine va_get (D := E.1) (ci := 4) (v := .ref r1) (C := RX3) (T := TX3) (N := 11) hx hb hts i_r_start_X3 hown hK hP 0 rfl rfl 1 (by decide) (hts (.fieldLink RX3 9 "HushWatch$Reader" "rules" "[I") (List.mem_of_getElem? (i := 1) rfl)) (fun _ h9 => h9) rfl dX3_start_17 ?_
  refine lv_iconst (v := 2) hx hb dX3_start_20 (by decide) ?_
  refine lv_bipush (v := 100) hx hb dX3_start_21 (by decide) ?_
  refine va_iast hx hb hK hP hD hS 1 0 rfl rfl (vin rfl) dX3_start_23 (fun H locs hP hD hS => ?_)
  have hP : va_P E.1 vwCl [(h, .inr (4, [.ref t, .ref r1, .ref r2, .ref r3, .int y4, .int y5, .int y6, .int y7, .int y8, .int y9, .int y10])), (r1, .inl (E.2.1, 3, .inl (upd f_2 (2 : Int32).toNatClampNeg 100)))] H := hP
  have hD : va_D A [(h, .inr (4, [.ref t, .ref r1, .ref r2, .ref r3, .int y4, .int y5, .int y6, .int y7, .int y8, .int y9, .int y10])), (r1, .inl (E.2.1, 3, .inl (upd f_2 (2 : Int32).toNatClampNeg 100)))] := hD
  obtain ⟨f_3, hf_3⟩ : ∃ g : Nat → Int32, g = upd f_2 (2 : Int32).toNatClampNeg 100 := ⟨_, rfl⟩
  rw [← hf_3] at hP hD
  refine lv_aload_n hx hb dX3_start_24 rfl (lv_at hl 0 rfl) ?_
  refine lv_iconst (v := 0) hx hb dX3_start_25 (by decide) ?_
  refine va_put (D := E.1) (ci := 4) (v := .int 0) (ty := .int) (C := RX3) (T := TX3) (N := 11) hx hb hts i_r_start_X3 tyX3 tyX3_ok nmX3 hown hK hP hD hS 0 rfl rfl 4 (by decide) (hts (.fieldLink RX3 21 "HushWatch$Reader" "siteCount" "I") (List.mem_of_getElem? (i := 2) rfl)) (fun _ h9 => h9) rfl (by decide +kernel) rfl rfl (Nat.le_of_ble_eq_true rfl) dX3_start_26 (fun H locs hP hD hS => ?_)
  have hP : va_P E.1 vwCl [(h, .inr (4, [.ref t, .ref r1, .ref r2, .ref r3, .int 0, .int y5, .int y6, .int y7, .int y8, .int y9, .int y10])), (r1, .inl (E.2.1, 3, .inl f_3))] H := hP
  have hD : va_D A [(h, .inr (4, [.ref t, .ref r1, .ref r2, .ref r3, .int 0, .int y5, .int y6, .int y7, .int y8, .int y9, .int y10])), (r1, .inl (E.2.1, 3, .inl f_3))] := hD
  refine lv_aload_n hx hb dX3_start_29 rfl (lv_at hl 0 rfl) ?_
  refine lv_iconst (v := 0) hx hb dX3_start_30 (by decide) ?_
  refine va_put (D := E.1) (ci := 4) (v := .int 0) (ty := .int) (C := RX3) (T := TX3) (N := 11) hx hb hts i_r_start_X3 tyX3 tyX3_ok nmX3 hown hK hP hD hS 0 rfl rfl 5 (by decide) (hts (.fieldLink RX3 25 "HushWatch$Reader" "stepCount" "I") (List.mem_of_getElem? (i := 3) rfl)) (fun _ h9 => h9) rfl (by decide +kernel) rfl rfl (Nat.le_of_ble_eq_true rfl) dX3_start_31 (fun H locs hP hD hS => ?_)
  have hP : va_P E.1 vwCl [(h, .inr (4, [.ref t, .ref r1, .ref r2, .ref r3, .int 0, .int 0, .int y6, .int y7, .int y8, .int y9, .int y10])), (r1, .inl (E.2.1, 3, .inl f_3))] H := hP
  have hD : va_D A [(h, .inr (4, [.ref t, .ref r1, .ref r2, .ref r3, .int 0, .int 0, .int y6, .int y7, .int y8, .int y9, .int y10])), (r1, .inl (E.2.1, 3, .inl f_3))] := hD
  refine lv_aload_n hx hb dX3_start_34 rfl (lv_at hl 0 rfl) ?_
  refine lv_iconst (v := 0) hx hb dX3_start_35 (by decide) ?_
  refine va_put (D := E.1) (ci := 4) (v := .int 0) (ty := .int) (C := RX3) (T := TX3) (N := 11) hx hb hts i_r_start_X3 tyX3 tyX3_ok nmX3 hown hK hP hD hS 0 rfl rfl 6 (by decide) (hts (.fieldLink RX3 28 "HushWatch$Reader" "seenRules" "I") (List.mem_of_getElem? (i := 4) rfl)) (fun _ h9 => h9) rfl (by decide +kernel) rfl rfl (Nat.le_of_ble_eq_true rfl) dX3_start_36 (fun H locs hP hD hS => ?_)
  have hP : va_P E.1 vwCl [(h, .inr (4, [.ref t, .ref r1, .ref r2, .ref r3, .int 0, .int 0, .int 0, .int y7, .int y8, .int y9, .int y10])), (r1, .inl (E.2.1, 3, .inl f_3))] H := hP
  have hD : va_D A [(h, .inr (4, [.ref t, .ref r1, .ref r2, .ref r3, .int 0, .int 0, .int 0, .int y7, .int y8, .int y9, .int y10])), (r1, .inl (E.2.1, 3, .inl f_3))] := hD
  refine lv_aload_n hx hb dX3_start_39 rfl (lv_at hl 0 rfl) ?_
  refine lv_iconst (v := 0) hx hb dX3_start_40 (by decide) ?_
  refine va_put (D := E.1) (ci := 4) (v := .int 0) (ty := .int) (C := RX3) (T := TX3) (N := 11) hx hb hts i_r_start_X3 tyX3 tyX3_ok nmX3 hown hK hP hD hS 0 rfl rfl 7 (by decide) (hts (.fieldLink RX3 31 "HushWatch$Reader" "at" "I") (List.mem_of_getElem? (i := 5) rfl)) (fun _ h9 => h9) rfl (by decide +kernel) rfl rfl (Nat.le_of_ble_eq_true rfl) dX3_start_41 (fun H locs hP hD hS => ?_)
  have hP : va_P E.1 vwCl [(h, .inr (4, [.ref t, .ref r1, .ref r2, .ref r3, .int 0, .int 0, .int 0, .int 0, .int y8, .int y9, .int y10])), (r1, .inl (E.2.1, 3, .inl f_3))] H := hP
  have hD : va_D A [(h, .inr (4, [.ref t, .ref r1, .ref r2, .ref r3, .int 0, .int 0, .int 0, .int 0, .int y8, .int y9, .int y10])), (r1, .inl (E.2.1, 3, .inl f_3))] := hD
  refine lv_aload_n hx hb dX3_start_44 rfl (lv_at hl 0 rfl) ?_
  refine lv_iconst (v := -1) hx hb dX3_start_45 (by decide) ?_
  refine va_put (D := E.1) (ci := 4) (v := .int (-1)) (ty := .int) (C := RX3) (T := TX3) (N := 11) hx hb hts i_r_start_X3 tyX3 tyX3_ok nmX3 hown hK hP hD hS 0 rfl rfl 10 (by decide) (hts (.fieldLink RX3 40 "HushWatch$Reader" "failed" "I") (List.mem_of_getElem? (i := 6) rfl)) (fun _ h9 => h9) rfl (by decide +kernel) rfl rfl (Nat.le_of_ble_eq_true rfl) dX3_start_46 (fun H locs hP hD hS => ?_)
  have hP : va_P E.1 vwCl [(h, .inr (4, [.ref t, .ref r1, .ref r2, .ref r3, .int 0, .int 0, .int 0, .int 0, .int y8, .int y9, .int (-1)])), (r1, .inl (E.2.1, 3, .inl f_3))] H := hP
  have hD : va_D A [(h, .inr (4, [.ref t, .ref r1, .ref r2, .ref r3, .int 0, .int 0, .int 0, .int 0, .int y8, .int y9, .int (-1)])), (r1, .inl (E.2.1, 3, .inl f_3))] := hD
  rw [hQ]
  have hP9 := hP.sub (ws' := [(h, .inr (4, [.ref t, .ref r1, .ref r2, .ref r3, .int 0, .int 0, .int 0, .int 0, .int y8, .int y9, .int (-1)])), (r1, .inl (E.2.1, 3, .inl f_3))]) [0, 1] rfl
  have hD9 := hD.sub (ws' := [(h, .inr (4, [.ref t, .ref r1, .ref r2, .ref r3, .int 0, .int 0, .int 0, .int 0, .int y8, .int y9, .int (-1)])), (r1, .inl (E.2.1, 3, .inl f_3))]) [0, 1] (by decide) rfl
  exact W.vret hx hb hr (fun tt ht hW => ⟨⟨f_3, rfl, (by rw [hf_3, hf_2, hf_1]; exact ⟨rfl, rfl, rfl⟩), by rw [ht]; exact hP9, hD9⟩, hS.F ht⟩) hS.2.2 dX3_start_49

def v_r_putInStep : List Cond := .code yX3_putInStep cX3_putInStep 3 none :: ([.fieldLink RX3 25 "HushWatch$Reader" "stepCount" "I", .fieldLink RX3 18 "HushWatch$Reader" "steps" "[I"] ++ (wsX30 ++ ([])))
theorem gw_r_putInStep : v_r_putInStep.all goodWord = true := by decide +kernel
theorem i_r_putInStep_X3 : ∀ w ∈ wsX30, w ∈ v_r_putInStep := fun _ h => List.mem_cons_of_mem _ (List.mem_append_right _ (List.mem_append_left _ h))
set_option maxHeartbeats 4000000 in
set_option maxRecDepth 100000 in
theorem r_putInStep (l : Launch) (E : EE) (sz : Nat) (h t r1 r2 r3 s0 i0 : Nat) (y4 y6 y7 y8 y9 y10 p1 : Int32) (ft : Nat → Int32) (hs0 : s0 ≤ 11) (hi0 : i0 ≤ 3) : Met l yX3_putInStep v_r_putInStep ({ frames := 0, cells := 0, slots := 0, locals := 0 }) (va_Pc [.ref h, .int (nI i0), .int p1] (pW E sz [(h, .inr (4, [.ref t, .ref r1, .ref r2, .ref r3, .int y4, .int (nI s0), .int y6, .int y7, .int y8, .int y9, .int y10])), (r3, .inl (E.2.1, 48, .inl ft))])) (va_Qv (fun (ft1 : Nat → Int32) => ft1 = upd ft (s0 * 4 + i0) p1) (fun (ft1 : Nat → Int32) tt => va_P E.1 vwCl [(h, .inr (4, [.ref t, .ref r1, .ref r2, .ref r3, .int y4, .int (nI s0), .int y6, .int y7, .int y8, .int y9, .int y10])), (r3, .inl (E.2.1, 48, .inl ft1))] tt.heap ∧ va_D (va_A [(h, .inr (4, [.ref t, .ref r1, .ref r2, .ref r3, .int y4, .int (nI s0), .int y6, .int y7, .int y8, .int y9, .int y10])), (r3, .inl (E.2.1, 48, .inl ft))] sz) [(h, .inr (4, [.ref t, .ref r1, .ref r2, .ref r3, .int y4, .int (nI s0), .int y6, .int y7, .int y8, .int y9, .int y10])), (r3, .inl (E.2.1, 48, .inl ft1))]) (va_A [(h, .inr (4, [.ref t, .ref r1, .ref r2, .ref r3, .int y4, .int (nI s0), .int y6, .int y7, .int y8, .int y9, .int y10])), (r3, .inl (E.2.1, 48, .inl ft))] sz)) 0 0 (va_A [(h, .inr (4, [.ref t, .ref r1, .ref r2, .ref r3, .int y4, .int (nI s0), .int y6, .int y7, .int y8, .int y9, .int y10])), (r3, .inl (E.2.1, 48, .inl ft))] sz) := by
  refine Met.ofW (cc := cX3_putInStep) (maxL := 3) (ret := none) (by decide) rfl ?_
  intro p e s m args below meth c s₁ B hml hv
  obtain ⟨rfl, hsz, ⟨hK, hN⟩, hP, hD0⟩ := hv
  have hx := B.exec
  have hb := B.bytes
  have hr := B.returns
  have hts := atoms_spec (ws := v_r_putInStep) B.pre
  have hown : s.vm.findClass RX3 = some m.cls := findClass_of_methodNamed B.named
  have hlocks := B.notSynchronized
  subst hsz
  have hD := hD0.self (sz := s.heap.size)
  generalize hAe : va_A [(h, .inr (4, [.ref t, .ref r1, .ref r2, .ref r3, .int y4, .int (nI s0), .int y6, .int y7, .int y8, .int y9, .int y10])), (r3, .inl (E.2.1, 48, .inl ft))] s.heap.size = A at hD ⊢
  have hA : ∀ q : Nat, s.heap.size ≤ q → A q := fun q h => by rw [← hAe]; exact Or.inr h
  have hS : va_S A s.heap s.heap [] := va_S.rf
  have hP : va_P E.1 vwCl [(h, .inr (4, [.ref t, .ref r1, .ref r2, .ref r3, .int y4, .int (nI s0), .int y6, .int y7, .int y8, .int y9, .int y10])), (r3, .inl (E.2.1, 48, .inl ft))] s.heap := hP
  have hl := lv_entry ([.ref h, .int (nI i0), .int p1]) (n := 3) (Nat.le_of_ble_eq_true rfl)
  rw [lg_entry_eq]
  generalize (lg_sl ([.ref h, .int (nI i0), .int p1]) ++ List.replicate (3 - (lg_sl ([.ref h, .int (nI i0), .int p1])).length) Slot.unset).toArray = ls at hl ⊢
  have hl : lv_has ls 3 [(0, .ref h), (1, .int (nI i0)), (2, .int p1)] := hl
  obtain ⟨Q, hQ⟩ : ∃ Q : State → Prop, Q = MQ below (va_Qv (fun (ft1 : Nat → Int32) => ft1 = upd ft (s0 * 4 + i0) p1) (fun (ft1 : Nat → Int32) tt => va_P E.1 vwCl [(h, .inr (4, [.ref t, .ref r1, .ref r2, .ref r3, .int y4, .int (nI s0), .int y6, .int y7, .int y8, .int y9, .int y10])), (r3, .inl (E.2.1, 48, .inl ft1))] tt.heap ∧ va_D A [(h, .inr (4, [.ref t, .ref r1, .ref r2, .ref r3, .int y4, .int (nI s0), .int y6, .int y7, .int y8, .int y9, .int y10])), (r3, .inl (E.2.1, 48, .inl ft1))]) A) #[Value.ref h, Value.int (nI i0), Value.int p1] s 0 0 A := ⟨_, rfl⟩
  rw [← hQ]
  change W p l e ({ frames := 0, cells := 0, slots := 0, locals := 0 } : Room) s m #[Value.ref h, Value.int (nI i0), Value.int p1] below meth c s.heap [] 0 0 Q (F0 m 0 ls [])
  refine lv_aload_n hx hb dX3_putInStep_0 rfl (lv_at hl 0 rfl) ?_
  refine va_get (D := E.1) (ci := 4) (v := .int (nI s0)) (C := RX3) (T := TX3) (N := 11) hx hb hts i_r_putInStep_X3 hown hK hP 0 rfl rfl 5 (by decide) (hts (.fieldLink RX3 25 "HushWatch$Reader" "stepCount" "I") (List.mem_of_getElem? (i := 1) rfl)) (fun _ h9 => h9) rfl dX3_putInStep_1 ?_
  refine lv_bipush (v := 12) hx hb dX3_putInStep_4 (by decide) ?_
  refine lv_icmp_ge (tgt := 32) hx hb dX3_putInStep_6 (by decide) (fun c_1 => ?_) (fun c_1 => ?_)
  ·
    have d_2 : 12 ≤ s0 := nc_ge (a := s0) (b := 12) (by omega) (by omega) c_1
    rw [hQ]
    have hP9 := hP.sub (ws' := [(h, .inr (4, [.ref t, .ref r1, .ref r2, .ref r3, .int y4, .int (nI s0), .int y6, .int y7, .int y8, .int y9, .int y10])), (r3, .inl (E.2.1, 48, .inl ft))]) [0, 1] rfl
    have hD9 := hD.sub (ws' := [(h, .inr (4, [.ref t, .ref r1, .ref r2, .ref r3, .int y4, .int (nI s0), .int y6, .int y7, .int y8, .int y9, .int y10])), (r3, .inl (E.2.1, 48, .inl ft))]) [0, 1] (by decide) rfl
    exact W.vret hx hb hr (fun tt ht hW => ⟨⟨ft, rfl, (by exfalso; omega), by rw [ht]; exact hP9, hD9⟩, hS.F ht⟩) hS.2.2 dX3_putInStep_32
  ·
    have d_3 : ¬ (12 ≤ s0) := nc_ge_n (a := s0) (b := 12) (by omega) (by omega) c_1
    refine lv_iload_n hx hb dX3_putInStep_9 rfl (lv_at hl 1 rfl) ?_
    refine lv_if_lt (tgt := 32) hx hb dX3_putInStep_10 (by decide) (fun c_4 => ?_) (fun c_4 => ?_)
    ·
      have d_5 : i0 < 0 := nc_lt (a := i0) (b := 0) (by omega) (by omega) c_4
      rw [hQ]
      have hP9 := hP.sub (ws' := [(h, .inr (4, [.ref t, .ref r1, .ref r2, .ref r3, .int y4, .int (nI s0), .int y6, .int y7, .int y8, .int y9, .int y10])), (r3, .inl (E.2.1, 48, .inl ft))]) [0, 1] rfl
      have hD9 := hD.sub (ws' := [(h, .inr (4, [.ref t, .ref r1, .ref r2, .ref r3, .int y4, .int (nI s0), .int y6, .int y7, .int y8, .int y9, .int y10])), (r3, .inl (E.2.1, 48, .inl ft))]) [0, 1] (by decide) rfl
      exact W.vret hx hb hr (fun tt ht hW => ⟨⟨ft, rfl, (by exfalso; omega), by rw [ht]; exact hP9, hD9⟩, hS.F ht⟩) hS.2.2 dX3_putInStep_32
    ·
      have d_6 : ¬ (i0 < 0) := nc_lt_n (a := i0) (b := 0) (by omega) (by omega) c_4
      refine lv_iload_n hx hb dX3_putInStep_13 rfl (lv_at hl 1 rfl) ?_
      refine lv_iconst (v := 4) hx hb dX3_putInStep_14 (by decide) ?_
      refine lv_icmp_ge (tgt := 32) hx hb dX3_putInStep_15 (by decide) (fun c_7 => ?_) (fun c_7 => ?_)
      ·
        have d_8 : 4 ≤ i0 := nc_ge (a := i0) (b := 4) (by omega) (by omega) c_7
        rw [hQ]
        have hP9 := hP.sub (ws' := [(h, .inr (4, [.ref t, .ref r1, .ref r2, .ref r3, .int y4, .int (nI s0), .int y6, .int y7, .int y8, .int y9, .int y10])), (r3, .inl (E.2.1, 48, .inl ft))]) [0, 1] rfl
        have hD9 := hD.sub (ws' := [(h, .inr (4, [.ref t, .ref r1, .ref r2, .ref r3, .int y4, .int (nI s0), .int y6, .int y7, .int y8, .int y9, .int y10])), (r3, .inl (E.2.1, 48, .inl ft))]) [0, 1] (by decide) rfl
        exact W.vret hx hb hr (fun tt ht hW => ⟨⟨ft, rfl, (by exfalso; omega), by rw [ht]; exact hP9, hD9⟩, hS.F ht⟩) hS.2.2 dX3_putInStep_32
      ·
        have d_9 : ¬ (4 ≤ i0) := nc_ge_n (a := i0) (b := 4) (by omega) (by omega) c_7
        refine lv_aload_n hx hb dX3_putInStep_18 rfl (lv_at hl 0 rfl) ?_
        refine va_get (D := E.1) (ci := 4) (v := .ref r3) (C := RX3) (T := TX3) (N := 11) hx hb hts i_r_putInStep_X3 hown hK hP 0 rfl rfl 3 (by decide) (hts (.fieldLink RX3 18 "HushWatch$Reader" "steps" "[I") (List.mem_of_getElem? (i := 2) rfl)) (fun _ h9 => h9) rfl dX3_putInStep_19 ?_
        refine lv_aload_n hx hb dX3_putInStep_22 rfl (lv_at hl 0 rfl) ?_
        refine va_get (D := E.1) (ci := 4) (v := .int (nI s0)) (C := RX3) (T := TX3) (N := 11) hx hb hts i_r_putInStep_X3 hown hK hP 0 rfl rfl 5 (by decide) (hts (.fieldLink RX3 25 "HushWatch$Reader" "stepCount" "I") (List.mem_of_getElem? (i := 1) rfl)) (fun _ h9 => h9) rfl dX3_putInStep_23 ?_
        refine lv_iconst (v := 4) hx hb dX3_putInStep_26 (by decide) ?_
        refine lv_imul hx hb dX3_putInStep_27 ?_
        refine lv_topi (fun z_10 ez_10 => ?_)
        obtain rfl : z_10 = nI (s0 * 4) := ez_10.trans (nI_mul _ 4)
        refine lv_iload_n hx hb dX3_putInStep_28 rfl (lv_at hl 1 rfl) ?_
        refine lv_iadd hx hb dX3_putInStep_29 ?_
        refine lv_topi (fun z_11 ez_11 => ?_)
        obtain rfl : z_11 = nI (s0 * 4 + i0) := ez_11.trans (nI_add _ _)
        refine lv_iload_n hx hb dX3_putInStep_30 rfl (lv_at hl 2 rfl) ?_
        refine va_iast hx hb hK hP hD hS 1 0 rfl rfl (vp_in_nI (by omega) (by decide)) dX3_putInStep_31 (fun H locs hP hD hS => ?_)
        have hP : va_P E.1 vwCl [(h, .inr (4, [.ref t, .ref r1, .ref r2, .ref r3, .int y4, .int (nI s0), .int y6, .int y7, .int y8, .int y9, .int y10])), (r3, .inl (E.2.1, 48, .inl (upd ft (nI (s0 * 4 + i0) : Int32).toNatClampNeg p1)))] H := hP
        have hD : va_D A [(h, .inr (4, [.ref t, .ref r1, .ref r2, .ref r3, .int y4, .int (nI s0), .int y6, .int y7, .int y8, .int y9, .int y10])), (r3, .inl (E.2.1, 48, .inl (upd ft (nI (s0 * 4 + i0) : Int32).toNatClampNeg p1)))] := hD
        obtain ⟨f_12, hf_12⟩ : ∃ g : Nat → Int32, g = upd ft (nI (s0 * 4 + i0) : Int32).toNatClampNeg p1 := ⟨_, rfl⟩
        rw [← hf_12] at hP hD
        rw [hQ]
        have hP9 := hP.sub (ws' := [(h, .inr (4, [.ref t, .ref r1, .ref r2, .ref r3, .int y4, .int (nI s0), .int y6, .int y7, .int y8, .int y9, .int y10])), (r3, .inl (E.2.1, 48, .inl f_12))]) [0, 1] rfl
        have hD9 := hD.sub (ws' := [(h, .inr (4, [.ref t, .ref r1, .ref r2, .ref r3, .int y4, .int (nI s0), .int y6, .int y7, .int y8, .int y9, .int y10])), (r3, .inl (E.2.1, 48, .inl f_12))]) [0, 1] (by decide) rfl
        exact W.vret hx hb hr (fun tt ht hW => ⟨⟨f_12, rfl, (by rw [hf_12, nI_clamp (by omega)]), by rw [ht]; exact hP9, hD9⟩, hS.F ht⟩) hS.2.2 dX3_putInStep_32
