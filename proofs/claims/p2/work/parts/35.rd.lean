theorem dX3_startStep_0 : decode cX3_startStep 0 = .ok (.aload_n 0, 1) := by decide +kernel
theorem dX3_startStep_1 : decode cX3_startStep 1 = .ok (.iconst 0, 1) := by decide +kernel
theorem dX3_startStep_2 : decode cX3_startStep 2 = .ok (.iload_n 1, 1) := by decide +kernel
theorem dX3_startStep_3 : decode cX3_startStep 3 = .ok (.invokevirtual 116, 3) := by decide +kernel
theorem dX3_startStep_6 : decode cX3_startStep 6 = .ok (.iconst 1, 1) := by decide +kernel
theorem dX3_startStep_7 : decode cX3_startStep 7 = .ok (.istore_n 2, 1) := by decide +kernel
theorem dX3_startStep_8 : decode cX3_startStep 8 = .ok (.iload_n 2, 1) := by decide +kernel
theorem dX3_startStep_9 : decode cX3_startStep 9 = .ok (.iconst 4, 1) := by decide +kernel
theorem dX3_startStep_10 : decode cX3_startStep 10 = .ok (.if_icmp .ge 16, 3) := by decide +kernel
theorem dX3_startStep_13 : decode cX3_startStep 13 = .ok (.aload_n 0, 1) := by decide +kernel
theorem dX3_startStep_14 : decode cX3_startStep 14 = .ok (.iload_n 2, 1) := by decide +kernel
theorem dX3_startStep_15 : decode cX3_startStep 15 = .ok (.ldc 120, 2) := by decide +kernel
theorem dX3_startStep_17 : decode cX3_startStep 17 = .ok (.invokevirtual 116, 3) := by decide +kernel
theorem dX3_startStep_20 : decode cX3_startStep 20 = .ok (.iinc 2 1, 3) := by decide +kernel
theorem dX3_startStep_23 : decode cX3_startStep 23 = .ok (.goto (-15), 3) := by decide +kernel
theorem dX3_startStep_26 : decode cX3_startStep 26 = .ok (.return_, 1) := by decide +kernel
def v_r_startStep : List Cond := .code yX3_startStep cX3_startStep 3 none :: ([.constant RX3 120 (-100000000), .methodLink RX3 116 yX3_putInStep, .instanceMethod yX3_putInStep, .selects RX3 yX3_putInStep yX3_putInStep, .initialized RX3] ++ (v_r_putInStep ++ ([])))
theorem gw_r_startStep : v_r_startStep.all goodWord = true := by decide +kernel
theorem g_r_startStep_r_putInStep_116 : GoodIn v_r_startStep (wsV RX3 116 RX3 yX3_putInStep v_r_putInStep) := goodIn_app (goodIn_of _ (by decide +kernel)) (goodIn_sub (fun _ h => List.mem_cons_of_mem _ (List.mem_append_right _ (List.mem_append_left _ h))) gw_r_putInStep)
set_option maxHeartbeats 4000000 in
set_option maxRecDepth 100000 in
theorem r_startStep (l : Launch) (E : EE) (sz : Nat) (h t r1 r2 r3 s0 : Nat) (y4 y6 y7 y8 y9 y10 p0 : Int32) (ft : Nat → Int32) (hs0 : s0 ≤ 11) : Met l yX3_startStep v_r_startStep ({ frames := 1, cells := 0, slots := 0, locals := 22 }) (va_Pc [.ref h, .int p0] (pW E sz [(h, .inr (4, [.ref t, .ref r1, .ref r2, .ref r3, .int y4, .int (nI s0), .int y6, .int y7, .int y8, .int y9, .int y10])), (r3, .inl (E.2.1, 48, .inl ft))])) (va_Qv (fun (ft1 : Nat → Int32) => ft1 = upd (upd (upd (upd ft (s0 * 4 + 0) p0) (s0 * 4 + 1) (-100000000)) (s0 * 4 + 2) (-100000000)) (s0 * 4 + 3) (-100000000)) (fun (ft1 : Nat → Int32) tt => va_P E.1 vwCl [(h, .inr (4, [.ref t, .ref r1, .ref r2, .ref r3, .int y4, .int (nI s0), .int y6, .int y7, .int y8, .int y9, .int y10])), (r3, .inl (E.2.1, 48, .inl ft1))] tt.heap ∧ va_D (va_A [(h, .inr (4, [.ref t, .ref r1, .ref r2, .ref r3, .int y4, .int (nI s0), .int y6, .int y7, .int y8, .int y9, .int y10])), (r3, .inl (E.2.1, 48, .inl ft))] sz) [(h, .inr (4, [.ref t, .ref r1, .ref r2, .ref r3, .int y4, .int (nI s0), .int y6, .int y7, .int y8, .int y9, .int y10])), (r3, .inl (E.2.1, 48, .inl ft1))]) (va_A [(h, .inr (4, [.ref t, .ref r1, .ref r2, .ref r3, .int y4, .int (nI s0), .int y6, .int y7, .int y8, .int y9, .int y10])), (r3, .inl (E.2.1, 48, .inl ft))] sz)) 0 0 (va_A [(h, .inr (4, [.ref t, .ref r1, .ref r2, .ref r3, .int y4, .int (nI s0), .int y6, .int y7, .int y8, .int y9, .int y10])), (r3, .inl (E.2.1, 48, .inl ft))] sz) := by
  refine Met.ofW (cc := cX3_startStep) (maxL := 3) (ret := none) (by decide) rfl ?_
  intro p e s m args below meth c s₁ B hml hv
  obtain ⟨rfl, hsz, ⟨hK, hN⟩, hP, hD0⟩ := hv
  have hx := B.exec
  have hb := B.bytes
  have hr := B.returns
  have hts := atoms_spec (ws := v_r_startStep) B.pre
  have hown : s.vm.findClass RX3 = some m.cls := findClass_of_methodNamed B.named
  have hlocks := B.notSynchronized
  subst hsz
  have hD := hD0.self (sz := s.heap.size)
  generalize hAe : va_A [(h, .inr (4, [.ref t, .ref r1, .ref r2, .ref r3, .int y4, .int (nI s0), .int y6, .int y7, .int y8, .int y9, .int y10])), (r3, .inl (E.2.1, 48, .inl ft))] s.heap.size = A at hD ⊢
  have hA : ∀ q : Nat, s.heap.size ≤ q → A q := fun q h => by rw [← hAe]; exact Or.inr h
  have hS : va_S A s.heap s.heap [] := va_S.rf
  have hP : va_P E.1 vwCl [(h, .inr (4, [.ref t, .ref r1, .ref r2, .ref r3, .int y4, .int (nI s0), .int y6, .int y7, .int y8, .int y9, .int y10])), (r3, .inl (E.2.1, 48, .inl ft))] s.heap := hP
  have hl := lv_entry ([.ref h, .int p0]) (n := 3) (Nat.le_of_ble_eq_true rfl)
  rw [lg_entry_eq]
  generalize (lg_sl ([.ref h, .int p0]) ++ List.replicate (3 - (lg_sl ([.ref h, .int p0])).length) Slot.unset).toArray = ls at hl ⊢
  have hl : lv_has ls 3 [(0, .ref h), (1, .int p0)] := hl
  obtain ⟨Q, hQ⟩ : ∃ Q : State → Prop, Q = MQ below (va_Qv (fun (ft1 : Nat → Int32) => ft1 = upd (upd (upd (upd ft (s0 * 4 + 0) p0) (s0 * 4 + 1) (-100000000)) (s0 * 4 + 2) (-100000000)) (s0 * 4 + 3) (-100000000)) (fun (ft1 : Nat → Int32) tt => va_P E.1 vwCl [(h, .inr (4, [.ref t, .ref r1, .ref r2, .ref r3, .int y4, .int (nI s0), .int y6, .int y7, .int y8, .int y9, .int y10])), (r3, .inl (E.2.1, 48, .inl ft1))] tt.heap ∧ va_D A [(h, .inr (4, [.ref t, .ref r1, .ref r2, .ref r3, .int y4, .int (nI s0), .int y6, .int y7, .int y8, .int y9, .int y10])), (r3, .inl (E.2.1, 48, .inl ft1))]) A) #[Value.ref h, Value.int p0] s 0 0 A := ⟨_, rfl⟩
  rw [← hQ]
  change W p l e ({ frames := 1, cells := 0, slots := 0, locals := 22 } : Room) s m #[Value.ref h, Value.int p0] below meth c s.heap [] 0 0 Q (F0 m 0 ls [])
  refine lv_aload_n hx hb dX3_startStep_0 rfl (lv_at hl 0 rfl) ?_
  refine lv_iconst (v := 0) hx hb dX3_startStep_1 (by decide) ?_
  refine lv_iload_n hx hb dX3_startStep_2 rfl (lv_at hl 1 rfl) ?_
  have hPc := hP.sub (ws' := [(h, .inr (4, [.ref t, .ref r1, .ref r2, .ref r3, .int y4, .int (nI s0), .int y6, .int y7, .int y8, .int y9, .int y10])), (r3, .inl (E.2.1, 48, .inl ft))]) [0, 1] rfl
  have hDc := hD.sub (ws' := [(h, .inr (4, [.ref t, .ref r1, .ref r2, .ref r3, .int y4, .int (nI s0), .int y6, .int y7, .int y8, .int y9, .int y10])), (r3, .inl (E.2.1, 48, .inl ft))]) [0, 1] (by decide) rfl
  have hFc := va_free (wc := [(h, .inr (4, [.ref t, .ref r1, .ref r2, .ref r3, .int y4, .int (nI s0), .int y6, .int y7, .int y8, .int y9, .int y10])), (r3, .inl (E.2.1, 48, .inl ft))]) hD hS hA [0, 1] rfl
  refine va_callv (va_runV (As := [.int 0, .int p0]) (rest := []) ⟨hx, hb, hml, hown, hts⟩ (r_putInStep l E s.heap.size h t r1 r2 r3 s0 0 y4 y6 y7 y8 y9 y10 p0 ft (by omega) (by omega)) (cwV 2 hts g_r_startStep_r_putInStep_116 rfl rfl rfl (by decide +kernel) ⟨Nat.le_of_ble_eq_true rfl, Nat.le_of_ble_eq_true rfl⟩) ⟨pW.blind, va_recv hK hPc (ci := 4) (q0 := 0) rfl rfl, (pW.pre ⟨hK, hN⟩ hPc hDc)⟩ rfl rfl hl.1 rfl (lv_room (Nat.le_of_ble_eq_true rfl)) dX3_startStep_3 ⟨Nat.le_of_ble_eq_true rfl, Nat.le_of_ble_eq_true rfl⟩) hS (fun q _ h => hFc q h) hFc (fun  u_1 tt H1 locs ht hvm hw hB hz1 hk1 hS => ?_)
  obtain ⟨hP1, hD1⟩ := hB
  rw [ht] at hP1
  obtain ⟨hP, hD⟩ := va_join (wr := []) (w1 := [(h, .inr (4, [.ref t, .ref r1, .ref r2, .ref r3, .int y4, .int (nI s0), .int y6, .int y7, .int y8, .int y9, .int y10])), (r3, .inl (E.2.1, 48, .inl u_1))]) hP hD [0, 1] [] rfl rfl (by decide) (by decide) hk1 hFc hP1 hD1
  generalize H1 = H at hP hS ⊢
  have hP : va_P E.1 vwCl [(h, .inr (4, [.ref t, .ref r1, .ref r2, .ref r3, .int y4, .int (nI s0), .int y6, .int y7, .int y8, .int y9, .int y10])), (r3, .inl (E.2.1, 48, .inl u_1))] H := hP
  have hD : va_D A [(h, .inr (4, [.ref t, .ref r1, .ref r2, .ref r3, .int y4, .int (nI s0), .int y6, .int y7, .int y8, .int y9, .int y10])), (r3, .inl (E.2.1, 48, .inl u_1))] := hD
  have hsw_2 := hw
  have kk_3 := hsw_2
  refine lv_iconst (v := 1) hx hb dX3_startStep_6 (by decide) ?_
  refine lv_istore_n (lv' := [(2, .int 1), (0, .ref h), (1, .int p0)]) hx hb dX3_startStep_7 rfl hl (by decide) rfl (fun ls hl => ?_)
  refine lv_iload_n hx hb dX3_startStep_8 rfl (lv_at hl 0 rfl) ?_
  refine lv_iconst (v := 4) hx hb dX3_startStep_9 (by decide) ?_
  refine lv_icmp_ge (tgt := 26) hx hb dX3_startStep_10 (by decide) (fun q => absurd q (by decide)) (fun _ => ?_)
  refine lv_aload_n hx hb dX3_startStep_13 rfl (lv_at hl 1 rfl) ?_
  refine lv_iload_n hx hb dX3_startStep_14 rfl (lv_at hl 0 rfl) ?_
  refine lv_ldc (v := -100000000) hx hb hown (hts (.constant RX3 120 (-100000000)) (List.mem_of_getElem? (i := 1) rfl)) dX3_startStep_15 ?_
  have hPc := hP.sub (ws' := [(h, .inr (4, [.ref t, .ref r1, .ref r2, .ref r3, .int y4, .int (nI s0), .int y6, .int y7, .int y8, .int y9, .int y10])), (r3, .inl (E.2.1, 48, .inl u_1))]) [0, 1] rfl
  have hDc := hD.sub (ws' := [(h, .inr (4, [.ref t, .ref r1, .ref r2, .ref r3, .int y4, .int (nI s0), .int y6, .int y7, .int y8, .int y9, .int y10])), (r3, .inl (E.2.1, 48, .inl u_1))]) [0, 1] (by decide) rfl
  have hFc := va_free (wc := [(h, .inr (4, [.ref t, .ref r1, .ref r2, .ref r3, .int y4, .int (nI s0), .int y6, .int y7, .int y8, .int y9, .int y10])), (r3, .inl (E.2.1, 48, .inl u_1))]) hD hS hA [0, 1] rfl
  refine va_callv (va_runV (As := [.int 1, .int (-100000000)]) (rest := []) ⟨hx, hb, hml, hown, hts⟩ (r_putInStep l E H.size h t r1 r2 r3 s0 1 y4 y6 y7 y8 y9 y10 (-100000000) u_1 (by omega) (by omega)) (cwV 2 hts g_r_startStep_r_putInStep_116 rfl rfl rfl (by decide +kernel) ⟨Nat.le_of_ble_eq_true rfl, Nat.le_of_ble_eq_true rfl⟩) ⟨pW.blind, va_recv hK hPc (ci := 4) (q0 := 0) rfl rfl, (pW.pre ⟨hK, hN⟩ hPc hDc)⟩ rfl rfl hl.1 rfl (lv_room (Nat.le_of_ble_eq_true rfl)) dX3_startStep_17 ⟨Nat.le_of_ble_eq_true rfl, Nat.le_of_ble_eq_true rfl⟩) hS (fun q _ h => hFc q h) hFc (fun  u_4 tt H1 locs ht hvm hw hB hz1 hk1 hS => ?_)
  obtain ⟨hP1, hD1⟩ := hB
  rw [ht] at hP1
  obtain ⟨hP, hD⟩ := va_join (wr := []) (w1 := [(h, .inr (4, [.ref t, .ref r1, .ref r2, .ref r3, .int y4, .int (nI s0), .int y6, .int y7, .int y8, .int y9, .int y10])), (r3, .inl (E.2.1, 48, .inl u_4))]) hP hD [0, 1] [] rfl rfl (by decide) (by decide) hk1 hFc hP1 hD1
  generalize H1 = H at hP hS ⊢
  have hP : va_P E.1 vwCl [(h, .inr (4, [.ref t, .ref r1, .ref r2, .ref r3, .int y4, .int (nI s0), .int y6, .int y7, .int y8, .int y9, .int y10])), (r3, .inl (E.2.1, 48, .inl u_4))] H := hP
  have hD : va_D A [(h, .inr (4, [.ref t, .ref r1, .ref r2, .ref r3, .int y4, .int (nI s0), .int y6, .int y7, .int y8, .int y9, .int y10])), (r3, .inl (E.2.1, 48, .inl u_4))] := hD
  have hsw_5 := hw
  have kk_6 := hsw_5
  refine lv_iinc (v := 2) (lv' := [(2, .int 2), (0, .ref h), (1, .int p0)]) hx hb dX3_startStep_20 hl (k := 0) rfl (by decide) (by decide) rfl (fun ls hl => ?_)
  refine lv_goto (tgt := 8) hx hb dX3_startStep_23 (by decide) ?_
  refine lv_iload_n hx hb dX3_startStep_8 rfl (lv_at hl 0 rfl) ?_
  refine lv_iconst (v := 4) hx hb dX3_startStep_9 (by decide) ?_
  refine lv_icmp_ge (tgt := 26) hx hb dX3_startStep_10 (by decide) (fun q => absurd q (by decide)) (fun _ => ?_)
  refine lv_aload_n hx hb dX3_startStep_13 rfl (lv_at hl 1 rfl) ?_
  refine lv_iload_n hx hb dX3_startStep_14 rfl (lv_at hl 0 rfl) ?_
  refine lv_ldc (v := -100000000) hx hb hown (hts (.constant RX3 120 (-100000000)) (List.mem_of_getElem? (i := 1) rfl)) dX3_startStep_15 ?_
  have hPc := hP.sub (ws' := [(h, .inr (4, [.ref t, .ref r1, .ref r2, .ref r3, .int y4, .int (nI s0), .int y6, .int y7, .int y8, .int y9, .int y10])), (r3, .inl (E.2.1, 48, .inl u_4))]) [0, 1] rfl
  have hDc := hD.sub (ws' := [(h, .inr (4, [.ref t, .ref r1, .ref r2, .ref r3, .int y4, .int (nI s0), .int y6, .int y7, .int y8, .int y9, .int y10])), (r3, .inl (E.2.1, 48, .inl u_4))]) [0, 1] (by decide) rfl
  have hFc := va_free (wc := [(h, .inr (4, [.ref t, .ref r1, .ref r2, .ref r3, .int y4, .int (nI s0), .int y6, .int y7, .int y8, .int y9, .int y10])), (r3, .inl (E.2.1, 48, .inl u_4))]) hD hS hA [0, 1] rfl
  refine va_callv (va_runV (As := [.int 2, .int (-100000000)]) (rest := []) ⟨hx, hb, hml, hown, hts⟩ (r_putInStep l E H.size h t r1 r2 r3 s0 2 y4 y6 y7 y8 y9 y10 (-100000000) u_4 (by omega) (by omega)) (cwV 2 hts g_r_startStep_r_putInStep_116 rfl rfl rfl (by decide +kernel) ⟨Nat.le_of_ble_eq_true rfl, Nat.le_of_ble_eq_true rfl⟩) ⟨pW.blind, va_recv hK hPc (ci := 4) (q0 := 0) rfl rfl, (pW.pre ⟨hK, hN⟩ hPc hDc)⟩ rfl rfl hl.1 rfl (lv_room (Nat.le_of_ble_eq_true rfl)) dX3_startStep_17 ⟨Nat.le_of_ble_eq_true rfl, Nat.le_of_ble_eq_true rfl⟩) hS (fun q _ h => hFc q h) hFc (fun  u_7 tt H1 locs ht hvm hw hB hz1 hk1 hS => ?_)
  obtain ⟨hP1, hD1⟩ := hB
  rw [ht] at hP1
  obtain ⟨hP, hD⟩ := va_join (wr := []) (w1 := [(h, .inr (4, [.ref t, .ref r1, .ref r2, .ref r3, .int y4, .int (nI s0), .int y6, .int y7, .int y8, .int y9, .int y10])), (r3, .inl (E.2.1, 48, .inl u_7))]) hP hD [0, 1] [] rfl rfl (by decide) (by decide) hk1 hFc hP1 hD1
  generalize H1 = H at hP hS ⊢
  have hP : va_P E.1 vwCl [(h, .inr (4, [.ref t, .ref r1, .ref r2, .ref r3, .int y4, .int (nI s0), .int y6, .int y7, .int y8, .int y9, .int y10])), (r3, .inl (E.2.1, 48, .inl u_7))] H := hP
  have hD : va_D A [(h, .inr (4, [.ref t, .ref r1, .ref r2, .ref r3, .int y4, .int (nI s0), .int y6, .int y7, .int y8, .int y9, .int y10])), (r3, .inl (E.2.1, 48, .inl u_7))] := hD
  have hsw_8 := hw
  have kk_9 := hsw_8
  refine lv_iinc (v := 3) (lv' := [(2, .int 3), (0, .ref h), (1, .int p0)]) hx hb dX3_startStep_20 hl (k := 0) rfl (by decide) (by decide) rfl (fun ls hl => ?_)
  refine lv_goto (tgt := 8) hx hb dX3_startStep_23 (by decide) ?_
  refine lv_iload_n hx hb dX3_startStep_8 rfl (lv_at hl 0 rfl) ?_
  refine lv_iconst (v := 4) hx hb dX3_startStep_9 (by decide) ?_
  refine lv_icmp_ge (tgt := 26) hx hb dX3_startStep_10 (by decide) (fun q => absurd q (by decide)) (fun _ => ?_)
  refine lv_aload_n hx hb dX3_startStep_13 rfl (lv_at hl 1 rfl) ?_
  refine lv_iload_n hx hb dX3_startStep_14 rfl (lv_at hl 0 rfl) ?_
  refine lv_ldc (v := -100000000) hx hb hown (hts (.constant RX3 120 (-100000000)) (List.mem_of_getElem? (i := 1) rfl)) dX3_startStep_15 ?_
  have hPc := hP.sub (ws' := [(h, .inr (4, [.ref t, .ref r1, .ref r2, .ref r3, .int y4, .int (nI s0), .int y6, .int y7, .int y8, .int y9, .int y10])), (r3, .inl (E.2.1, 48, .inl u_7))]) [0, 1] rfl
  have hDc := hD.sub (ws' := [(h, .inr (4, [.ref t, .ref r1, .ref r2, .ref r3, .int y4, .int (nI s0), .int y6, .int y7, .int y8, .int y9, .int y10])), (r3, .inl (E.2.1, 48, .inl u_7))]) [0, 1] (by decide) rfl
  have hFc := va_free (wc := [(h, .inr (4, [.ref t, .ref r1, .ref r2, .ref r3, .int y4, .int (nI s0), .int y6, .int y7, .int y8, .int y9, .int y10])), (r3, .inl (E.2.1, 48, .inl u_7))]) hD hS hA [0, 1] rfl
  refine va_callv (va_runV (As := [.int 3, .int (-100000000)]) (rest := []) ⟨hx, hb, hml, hown, hts⟩ (r_putInStep l E H.size h t r1 r2 r3 s0 3 y4 y6 y7 y8 y9 y10 (-100000000) u_7 (by omega) (by omega)) (cwV 2 hts g_r_startStep_r_putInStep_116 rfl rfl rfl (by decide +kernel) ⟨Nat.le_of_ble_eq_true rfl, Nat.le_of_ble_eq_true rfl⟩) ⟨pW.blind, va_recv hK hPc (ci := 4) (q0 := 0) rfl rfl, (pW.pre ⟨hK, hN⟩ hPc hDc)⟩ rfl rfl hl.1 rfl (lv_room (Nat.le_of_ble_eq_true rfl)) dX3_startStep_17 ⟨Nat.le_of_ble_eq_true rfl, Nat.le_of_ble_eq_true rfl⟩) hS (fun q _ h => hFc q h) hFc (fun  u_10 tt H1 locs ht hvm hw hB hz1 hk1 hS => ?_)
  obtain ⟨hP1, hD1⟩ := hB
  rw [ht] at hP1
  obtain ⟨hP, hD⟩ := va_join (wr := []) (w1 := [(h, .inr (4, [.ref t, .ref r1, .ref r2, .ref r3, .int y4, .int (nI s0), .int y6, .int y7, .int y8, .int y9, .int y10])), (r3, .inl (E.2.1, 48, .inl u_10))]) hP hD [0, 1] [] rfl rfl (by decide) (by decide) hk1 hFc hP1 hD1
  generalize H1 = H at hP hS ⊢
  have hP : va_P E.1 vwCl [(h, .inr (4, [.ref t, .ref r1, .ref r2, .ref r3, .int y4, .int (nI s0), .int y6, .int y7, .int y8, .int y9, .int y10])), (r3, .inl (E.2.1, 48, .inl u_10))] H := hP
  have hD : va_D A [(h, .inr (4, [.ref t, .ref r1, .ref r2, .ref r3, .int y4, .int (nI s0), .int y6, .int y7, .int y8, .int y9, .int y10])), (r3, .inl (E.2.1, 48, .inl u_10))] := hD
  have hsw_11 := hw
  have kk_12 := hsw_11
  refine lv_iinc (v := 4) (lv' := [(2, .int 4), (0, .ref h), (1, .int p0)]) hx hb dX3_startStep_20 hl (k := 0) rfl (by decide) (by decide) rfl (fun ls hl => ?_)
  refine lv_goto (tgt := 8) hx hb dX3_startStep_23 (by decide) ?_
  refine lv_iload_n hx hb dX3_startStep_8 rfl (lv_at hl 0 rfl) ?_
  refine lv_iconst (v := 4) hx hb dX3_startStep_9 (by decide) ?_
  refine lv_icmp_ge (tgt := 26) hx hb dX3_startStep_10 (by decide) (fun _ => ?_) (fun q => absurd (by decide) q)
  rw [hQ]
  have hP9 := hP.sub (ws' := [(h, .inr (4, [.ref t, .ref r1, .ref r2, .ref r3, .int y4, .int (nI s0), .int y6, .int y7, .int y8, .int y9, .int y10])), (r3, .inl (E.2.1, 48, .inl u_10))]) [0, 1] rfl
  have hD9 := hD.sub (ws' := [(h, .inr (4, [.ref t, .ref r1, .ref r2, .ref r3, .int y4, .int (nI s0), .int y6, .int y7, .int y8, .int y9, .int y10])), (r3, .inl (E.2.1, 48, .inl u_10))]) [0, 1] (by decide) rfl
  exact W.vret hx hb hr (fun tt ht hW => ⟨⟨u_10, rfl, (by rw [kk_12, kk_9, kk_6, kk_3]), by rw [ht]; exact hP9, hD9⟩, hS.F ht⟩) hS.2.2 dX3_startStep_26
