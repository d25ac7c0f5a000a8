theorem dL_law_0 : decode cL_law 0 = .ok (.new 8, 3) := by decide +kernel
theorem dL_law_3 : decode cL_law 3 = .ok (.dup, 1) := by decide +kernel
theorem dL_law_4 : decode cL_law 4 = .ok (.invokespecial 15, 3) := by decide +kernel
theorem dL_law_7 : decode cL_law 7 = .ok (.astore_n 1, 1) := by decide +kernel
theorem dL_law_8 : decode cL_law 8 = .ok (.new 16, 3) := by decide +kernel
theorem dL_law_11 : decode cL_law 11 = .ok (.dup, 1) := by decide +kernel
theorem dL_law_12 : decode cL_law 12 = .ok (.invokespecial 18, 3) := by decide +kernel
theorem dL_law_15 : decode cL_law 15 = .ok (.astore_n 2, 1) := by decide +kernel
theorem dL_law_16 : decode cL_law 16 = .ok (.iconst 1, 1) := by decide +kernel
theorem dL_law_17 : decode cL_law 17 = .ok (.newarray .long, 2) := by decide +kernel
theorem dL_law_19 : decode cL_law 19 = .ok (.astore_n 3, 1) := by decide +kernel
theorem dL_law_20 : decode cL_law 20 = .ok (.iconst 0, 1) := by decide +kernel
theorem dL_law_21 : decode cL_law 21 = .ok (.istore 4, 2) := by decide +kernel
theorem dL_law_33 : decode cL_law 33 = .ok (.aload_n 0, 1) := by decide +kernel
theorem dL_law_34 : decode cL_law 34 = .ok (.iload 4, 2) := by decide +kernel
theorem dL_law_36 : decode cL_law 36 = .ok (.iaload, 1) := by decide +kernel
theorem dL_law_37 : decode cL_law 37 = .ok (.bipush 63, 2) := by decide +kernel
theorem dL_law_39 : decode cL_law 39 = .ok (.iand, 1) := by decide +kernel
theorem dL_law_40 : decode cL_law 40 = .ok (.tableswitch 1625 0 38 #[172, 245, 270, 295, 320, 345, 413, 451, 488, 514, 563, 588, 601, 626, 651, 688, 713, 738, 807, 832, 845, 882, 931, 992, 1053, 1126, 1175, 1224, 1274, 1339, 1376, 1401, 1438, 1487, 1524, 1549, 1574, 1587, 1600], 172) := by decide +kernel
set_option maxHeartbeats 4000000 in
set_option maxRecDepth 100000 in
theorem whole_start {p : Program} {e : Env} {s : State} {m : MethodId} {below : List Frame} {meth : Method} {c : Code} (l : Launch) (hflags : l.flags = flags0) {b L : Nat} {xs : Nat → Int32} (hL : L ≤ 6) (C0 : lw_At p s m meth c b L xs) : W p l e room_1 s m #[Value.ref b] below meth c s.heap [] 0 0 (lw_Z below #[Value.ref b] s) (entryFrame m ([Value.ref b] : List Value).toArray 7) := by
  obtain ⟨hx, hb, hr, hml, hown, hts, hX, hbl, hlocks, hgv⟩ := id C0
  have hown : s.vm.findClass RL = some m.cls := hown
  obtain ⟨c0, i0, k0⟩ := u_known (C := RJ4) (T := TJ4) (N := 4) (n := 4) hts inJ4 (hts (.instantiable RJ4 4) (List.mem_of_getElem? (i := 920) (by decide +kernel)))
  obtain ⟨c1, i1, k1⟩ := u_known (C := RX0) (T := TX0) (N := 1) (n := 1) hts inX0 (hts (.instantiable RX0 1) (List.mem_of_getElem? (i := 254) (by decide +kernel)))
  obtain ⟨c2, i2, k2⟩ := u_known (C := RX1) (T := TX1) (N := 5) (n := 5) hts inX1 (hts (.instantiable RX1 5) (List.mem_of_getElem? (i := 281) (by decide +kernel)))
  obtain ⟨c3, i3, k3⟩ := u_known (C := RX2) (T := TX2) (N := 3) (n := 3) hts inX2 (hts (.instantiable RX2 3) (List.mem_of_getElem? (i := 264) (by decide +kernel)))
  obtain ⟨c4, i4, k4⟩ := u_known (C := RX3) (T := TX3) (N := 11) (n := 11) hts inX3 (hts (.instantiable RX3 11) (List.mem_of_getElem? (i := 161) (by decide +kernel)))
  obtain ⟨c5, i5, k5⟩ := u_known (C := RX4) (T := TX4) (N := 3) (n := 3) hts inX4 (hts (.instantiable RX4 3) (List.mem_of_getElem? (i := 207) (by decide +kernel)))
  obtain ⟨c6, i6, k6⟩ := u_known (C := RX5) (T := TX5) (N := 6) (n := 6) hts inX5 (hts (.instantiable RX5 6) (List.mem_of_getElem? (i := 224) (by decide +kernel)))
  obtain ⟨c7, i7, k7⟩ := u_known (C := RX6) (T := TX6) (N := 2) (n := 2) hts inX6 (hts (.instantiable RX6 2) (List.mem_of_getElem? (i := 145) (by decide +kernel)))
  obtain ⟨c8, i8, k8⟩ := u_known (C := RX7) (T := TX7) (N := 12) (n := 12) hts inX7 (hts (.instantiable RX7 12) (List.mem_of_getElem? (i := 137) (by decide +kernel)))
  obtain ⟨c9, i9, k9⟩ := u_known (C := RX8) (T := TX8) (N := 36) (n := 36) hts inX8 (hts (.instantiable RX8 36) (List.mem_of_getElem? (i := 1249) (by decide +kernel)))
  obtain ⟨dC, dI, hKc⟩ : ∃ (dC : Nat → ClassId) (dI : Nat → Nat → Nat), ∀ (k : Nat) (q : vw_C), vwCl[k]? = some q → u_Kn s q.1 q.2.1 q.2.2 (dC k) (dI k) := by
    refine ⟨fun k => [c0, c1, c2, c3, c4, c5, c6, c7, c8, c9].getD k c0, fun k => [i0, i1, i2, i3, i4, i5, i6, i7, i8, i9].getD k i0, ?_⟩
    intro k q hq
    match k, hq with
    | 0, hq => cases hq; exact k0
    | 1, hq => cases hq; exact k1
    | 2, hq => cases hq; exact k2
    | 3, hq => cases hq; exact k3
    | 4, hq => cases hq; exact k4
    | 5, hq => cases hq; exact k5
    | 6, hq => cases hq; exact k6
    | 7, hq => cases hq; exact k7
    | 8, hq => cases hq; exact k8
    | 9, hq => cases hq; exact k9
    | k + 10, hq => simp [vwCl] at hq
  obtain ⟨cI, kkI, cmI, fI1, fI2, fI3⟩ := Cond.arrayClass_spec (hts (.arrayClass .int) (List.mem_of_getElem? (i := 205) (by decide +kernel)))
  obtain ⟨cB, kkB, cmB, fB1, fB2, fB3⟩ := Cond.arrayClass_spec (hts (.arrayClass .byte) (List.mem_of_getElem? (i := 159) (by decide +kernel)))
  obtain ⟨cJ, kkJ, cmJ, fJ1, fJ2, fJ3⟩ := Cond.arrayClass_spec (hts (.arrayClass .long) (List.mem_of_getElem? (i := 1869) (by decide +kernel)))
  obtain ⟨E, hE⟩ : ∃ E : EE, E = ((dC, dI), cI, cB, cJ) := ⟨_, rfl⟩
  have hK : va_K E.1 vwCl (TY E) s := by
    subst hE
    refine ⟨hKc, fun k q hq => ?_⟩
    match k, hq with
    | 0, hq => cases hq; exact ⟨fun n z => ⟨fun k h => (by cases h), kkI, fI2, cmI, fI3⟩, fI1⟩
    | 1, hq => cases hq; exact ⟨fun n z => ⟨fun k h => (by cases h), kkB, fB2, cmB, fB3⟩, fB1⟩
    | 2, hq => cases hq; exact ⟨fun n z => ⟨fun k h => (by cases h), kkJ, fJ2, cmJ, fJ3⟩, fJ1⟩
    | k + 3, hq => simp [TY] at hq
  have hN : NX s := fun w hw => nx_of (nestL_ok w hw) (hts w (nest_in w hw))
  obtain ⟨A, hAe⟩ : ∃ A : Nat → Prop, (fun q : Nat => s.heap.size ≤ q) = A := ⟨_, rfl⟩
  have hA : ∀ q : Nat, s.heap.size ≤ q → A q := fun q h => by rw [← hAe]; exact h
  have hbA : ¬ A b := by rw [← hAe]; exact Nat.not_le.mpr hbl
  have hold : ∀ a : Nat, a < s.heap.size → ¬ A a := fun a h => by rw [← hAe]; exact Nat.not_le.mpr h
  have hgs := flat_of_before _ hgv
  have hZ : ZM A s s.heap := ⟨va_Zof (hts (.laysStatic "HushWatchModel" "LAW" "J") (List.mem_of_getElem? (i := 1423) (by decide +kernel))) (hts (.initialized "HushWatchModel") (List.mem_of_getElem? (i := 119) (by decide +kernel))) (va_eql (hgs (Cond.eq (.static "HushWatchModel" "LAW" "J") (.long 12343)) (by decide +kernel))) hold, va_Zof (hts (.laysStatic "HushWatchModel" "BOUND" "J") (List.mem_of_getElem? (i := 1429) (by decide +kernel))) (hts (.initialized "HushWatchModel") (List.mem_of_getElem? (i := 119) (by decide +kernel))) (va_eql (hgs (Cond.eq (.static "HushWatchModel" "BOUND" "J") (.long 2610628)) (by decide +kernel))) hold, va_Zof (hts (.laysStatic "HushWatchModel" "GOAL" "J") (List.mem_of_getElem? (i := 1431) (by decide +kernel))) (hts (.initialized "HushWatchModel") (List.mem_of_getElem? (i := 119) (by decide +kernel))) (va_eql (hgs (Cond.eq (.static "HushWatchModel" "GOAL" "J") (.long 244780)) (by decide +kernel))) hold, va_Zof (hts (.laysStatic "HushWatchModel" "SITE" "J") (List.mem_of_getElem? (i := 1433) (by decide +kernel))) (hts (.initialized "HushWatchModel") (List.mem_of_getElem? (i := 119) (by decide +kernel))) (va_eql (hgs (Cond.eq (.static "HushWatchModel" "SITE" "J") (.long 632453)) (by decide +kernel))) hold, va_Zof (hts (.laysStatic "HushWatchModel" "MOVE" "J") (List.mem_of_getElem? (i := 1471) (by decide +kernel))) (hts (.initialized "HushWatchModel") (List.mem_of_getElem? (i := 119) (by decide +kernel))) (va_eql (hgs (Cond.eq (.static "HushWatchModel" "MOVE" "J") (.long 442053)) (by decide +kernel))) hold, va_Zof (hts (.laysStatic "HushWatchModel" "ADD" "J") (List.mem_of_getElem? (i := 1473) (by decide +kernel))) (hts (.initialized "HushWatchModel") (List.mem_of_getElem? (i := 119) (by decide +kernel))) (va_eql (hgs (Cond.eq (.static "HushWatchModel" "ADD" "J") (.long 1156)) (by decide +kernel))) hold, va_Zof (hts (.laysStatic "HushWatchModel" "SYNC" "J") (List.mem_of_getElem? (i := 1475) (by decide +kernel))) (hts (.initialized "HushWatchModel") (List.mem_of_getElem? (i := 119) (by decide +kernel))) (va_eql (hgs (Cond.eq (.static "HushWatchModel" "SYNC" "J") (.long 648643)) (by decide +kernel))) hold, va_Zof (hts (.laysStatic "HushWatchModel" "FREEZE" "J") (List.mem_of_getElem? (i := 1477) (by decide +kernel))) (hts (.initialized "HushWatchModel") (List.mem_of_getElem? (i := 119) (by decide +kernel))) (va_eql (hgs (Cond.eq (.static "HushWatchModel" "FREEZE" "J") (.long 220370757)) (by decide +kernel))) hold⟩
  have hS : va_S A s.heap s.heap [] := va_S.rf
  have hP : va_P E.1 vwCl [] s.heap := fun k q h => by simp at h
  have hD : va_D A [] := ⟨fun i j p q h => by simp at h, fun k q h => by simp at h⟩
  have hl := lv_entry ([.ref b]) (n := 7) (Nat.le_of_ble_eq_true rfl)
  rw [lg_entry_eq]
  generalize (lg_sl ([.ref b]) ++ List.replicate (7 - (lg_sl ([.ref b])).length) Slot.unset).toArray = ls at hl ⊢
  have hl : lv_has ls 7 [(0, .ref b)] := hl
  refine va_new (ci := 8) (fs := [.null, .null, .null, .null, .null, .null, .null, .null, .null, .null, .null, .int 0]) (C := RX7) (T := TX7) (N := 12) hx hb hts inX7 tyX7 tyX7_ok hown (hts (.classLink RL 8 RX7) (List.mem_of_getElem? (i := 136) (by decide +kernel))) (hts (.instantiable RX7 12) (List.mem_of_getElem? (i := 137) (by decide +kernel))) (hts (.initialized RX7) (List.mem_of_getElem? (i := 111) (by decide +kernel))) hK hP hD hS hA rfl (fun j hj => by rcases (show j = 0 ∨ j = 1 ∨ j = 2 ∨ j = 3 ∨ j = 4 ∨ j = 5 ∨ j = 6 ∨ j = 7 ∨ j = 8 ∨ j = 9 ∨ j = 10 ∨ j = 11 by omega) with rfl | rfl | rfl | rfl | rfl | rfl | rfl | rfl | rfl | rfl | rfl | rfl <;> rfl) (Nat.le_of_ble_eq_true rfl) (Nat.le_of_ble_eq_true rfl) dL_law_0 (fun q_1 H hP hD hS => ?_)
  have hP : va_P E.1 vwCl [(q_1, .inr (8, [.null, .null, .null, .null, .null, .null, .null, .null, .null, .null, .null, .int 0]))] H := hP
  have hD : va_D A [(q_1, .inr (8, [.null, .null, .null, .null, .null, .null, .null, .null, .null, .null, .null, .int 0]))] := hD
  refine W.widen (k := 1) (n := 12) (Nat.le_of_ble_eq_true rfl) (Nat.le_of_ble_eq_true rfl) ?_
  refine lv_dup hx hb dL_law_3 rfl ?_
  have hPc := hP.sub (ws' := [(q_1, .inr (8, [.null, .null, .null, .null, .null, .null, .null, .null, .null, .null, .null, .int 0]))]) [0] rfl
  have hDc := hD.sub (ws' := [(q_1, .inr (8, [.null, .null, .null, .null, .null, .null, .null, .null, .null, .null, .null, .int 0]))]) [0] (by decide) rfl
  have hFc := va_free (wc := [(q_1, .inr (8, [.null, .null, .null, .null, .null, .null, .null, .null, .null, .null, .null, .int 0]))]) hD hS hA [0] rfl
  refine va_callv (va_runI (As := []) (rest := [.ref q_1]) ⟨hx, hb, hml, hown, hts⟩ (k_X l E H.size q_1) (cwI 0 hts gl_k_X_15 rfl rfl rfl (hts (.initialized RX7) (List.mem_of_getElem? (i := 111) (by decide +kernel))) (hts (.methodLink RL 15 yX7_init) (List.mem_of_getElem? (i := 138) (by decide +kernel))) (hts (.instanceMethod yX7_init) (List.mem_of_getElem? (i := 139) (by decide +kernel))) rfl (by decide +kernel) ⟨Nat.le_of_ble_eq_true rfl, Nat.le_of_ble_eq_true rfl⟩) ⟨pW.blind, (pW.pre ⟨hK, hN⟩ hPc hDc)⟩ rfl rfl hl.1 rfl (lv_room (Nat.le_of_ble_eq_true rfl)) dL_law_4 ⟨Nat.le_of_ble_eq_true rfl, Nat.le_of_ble_eq_true rfl⟩) hS (fun q _ h => hFc q h) hFc (fun  u_2 tt H1 locs ht hvm hw hB hz1 hk1 hS => ?_)
  obtain ⟨q_3, q_4, q_5, q_6, q_7, q_8, q_9, q_10, q_11, q_12, q_13, q_14, q_15, q_16, q_17, q_18, q_19, q_20, q_21, q_22, q_23, q_24⟩ := u_2
  obtain ⟨hP1, hD1⟩ := hB
  rw [ht] at hP1
  obtain ⟨hP, hD⟩ := va_join (wr := []) (w1 := [(q_1, .inr (8, [.ref q_3, .ref q_4, .ref q_5, .ref q_6, .ref q_7, .ref q_8, .ref q_9, .ref q_10, .ref q_11, .ref q_12, .ref q_13, .int 0])), (q_3, .inr (7, [.ref q_14, .int 0])), (q_14, .inl (E.2.2.1, 320, .inl (fun _ => 0))), (q_4, .inr (4, [.ref q_3, .ref q_15, .ref q_16, .ref q_17, .int 0, .int 0, .int 0, .int 0, .int 0, .int 0, .int (-1)])), (q_15, .inl (E.2.1, 3, .inl (fun _ => 0))), (q_5, .inr (5, [.ref q_18, .ref q_19, .int 0])), (q_6, .inr (6, [.ref q_20, .ref q_21, .int 0, .int 0, .ref q_22, .ref q_23])), (q_20, .inl (E.2.1, 81, .inl (fun _ => 0))), (q_11, .inr (3, [.ref q_24, .int 0, .int 0])), (q_13, .inl (E.2.1, 3, .inl (fun _ => 0)))]) hP hD [0] [] rfl rfl (by decide) (by decide) hk1 hFc hP1 hD1
  generalize H1 = H at hP hS ⊢
  have hP : va_P E.1 vwCl [(q_1, .inr (8, [.ref q_3, .ref q_4, .ref q_5, .ref q_6, .ref q_7, .ref q_8, .ref q_9, .ref q_10, .ref q_11, .ref q_12, .ref q_13, .int 0])), (q_3, .inr (7, [.ref q_14, .int 0])), (q_14, .inl (E.2.2.1, 320, .inl (fun _ => 0))), (q_4, .inr (4, [.ref q_3, .ref q_15, .ref q_16, .ref q_17, .int 0, .int 0, .int 0, .int 0, .int 0, .int 0, .int (-1)])), (q_15, .inl (E.2.1, 3, .inl (fun _ => 0))), (q_5, .inr (5, [.ref q_18, .ref q_19, .int 0])), (q_6, .inr (6, [.ref q_20, .ref q_21, .int 0, .int 0, .ref q_22, .ref q_23])), (q_20, .inl (E.2.1, 81, .inl (fun _ => 0))), (q_11, .inr (3, [.ref q_24, .int 0, .int 0])), (q_13, .inl (E.2.1, 3, .inl (fun _ => 0)))] H := hP
  have hD : va_D A [(q_1, .inr (8, [.ref q_3, .ref q_4, .ref q_5, .ref q_6, .ref q_7, .ref q_8, .ref q_9, .ref q_10, .ref q_11, .ref q_12, .ref q_13, .int 0])), (q_3, .inr (7, [.ref q_14, .int 0])), (q_14, .inl (E.2.2.1, 320, .inl (fun _ => 0))), (q_4, .inr (4, [.ref q_3, .ref q_15, .ref q_16, .ref q_17, .int 0, .int 0, .int 0, .int 0, .int 0, .int 0, .int (-1)])), (q_15, .inl (E.2.1, 3, .inl (fun _ => 0))), (q_5, .inr (5, [.ref q_18, .ref q_19, .int 0])), (q_6, .inr (6, [.ref q_20, .ref q_21, .int 0, .int 0, .ref q_22, .ref q_23])), (q_20, .inl (E.2.1, 81, .inl (fun _ => 0))), (q_11, .inr (3, [.ref q_24, .int 0, .int 0])), (q_13, .inl (E.2.1, 3, .inl (fun _ => 0)))] := hD
  refine W.widen (k := 33) (n := 4761) (Nat.le_of_ble_eq_true rfl) (Nat.le_of_ble_eq_true rfl) ?_
  have hsw_25 := hw
  refine lv_astore_n (lv' := [(1, .ref q_1), (0, .ref b)]) hx hb dL_law_7 rfl hl (by decide) rfl (fun ls hl => ?_)
  refine va_new (ci := 9) (fs := [.int 0, .null, .int 0, .int 0, .int 0, .int 0, .int 0, .int 0, .long 0, .int 0, .int 0, .int 0, .int 0, .null, .null, .null, .int 0, .null, .null, .int 0, .null, .null, .int 0, .int 0, .null, .int 0, .null, .int 0, .long 0, .null, .int 0, .int 0, .null, .int 0, .null, .int 0]) (C := RX8) (T := TX8) (N := 36) hx hb hts inX8 tyX8 tyX8_ok hown (hts (.classLink RL 16 RX8) (List.mem_of_getElem? (i := 1248) (by decide +kernel))) (hts (.instantiable RX8 36) (List.mem_of_getElem? (i := 1249) (by decide +kernel))) (hts (.initialized RX8) (List.mem_of_getElem? (i := 119) (by decide +kernel))) hK hP hD hS hA rfl (fun j hj => by rcases (show j = 0 ∨ j = 1 ∨ j = 2 ∨ j = 3 ∨ j = 4 ∨ j = 5 ∨ j = 6 ∨ j = 7 ∨ j = 8 ∨ j = 9 ∨ j = 10 ∨ j = 11 ∨ j = 12 ∨ j = 13 ∨ j = 14 ∨ j = 15 ∨ j = 16 ∨ j = 17 ∨ j = 18 ∨ j = 19 ∨ j = 20 ∨ j = 21 ∨ j = 22 ∨ j = 23 ∨ j = 24 ∨ j = 25 ∨ j = 26 ∨ j = 27 ∨ j = 28 ∨ j = 29 ∨ j = 30 ∨ j = 31 ∨ j = 32 ∨ j = 33 ∨ j = 34 ∨ j = 35 by omega) with rfl | rfl | rfl | rfl | rfl | rfl | rfl | rfl | rfl | rfl | rfl | rfl | rfl | rfl | rfl | rfl | rfl | rfl | rfl | rfl | rfl | rfl | rfl | rfl | rfl | rfl | rfl | rfl | rfl | rfl | rfl | rfl | rfl | rfl | rfl | rfl <;> rfl) (Nat.le_of_ble_eq_true rfl) (Nat.le_of_ble_eq_true rfl) dL_law_8 (fun q_26 H hP hD hS => ?_)
  have hP : va_P E.1 vwCl [(q_1, .inr (8, [.ref q_3, .ref q_4, .ref q_5, .ref q_6, .ref q_7, .ref q_8, .ref q_9, .ref q_10, .ref q_11, .ref q_12, .ref q_13, .int 0])), (q_3, .inr (7, [.ref q_14, .int 0])), (q_14, .inl (E.2.2.1, 320, .inl (fun _ => 0))), (q_4, .inr (4, [.ref q_3, .ref q_15, .ref q_16, .ref q_17, .int 0, .int 0, .int 0, .int 0, .int 0, .int 0, .int (-1)])), (q_15, .inl (E.2.1, 3, .inl (fun _ => 0))), (q_5, .inr (5, [.ref q_18, .ref q_19, .int 0])), (q_6, .inr (6, [.ref q_20, .ref q_21, .int 0, .int 0, .ref q_22, .ref q_23])), (q_20, .inl (E.2.1, 81, .inl (fun _ => 0))), (q_11, .inr (3, [.ref q_24, .int 0, .int 0])), (q_13, .inl (E.2.1, 3, .inl (fun _ => 0))), (q_26, .inr (9, [.int 0, .null, .int 0, .int 0, .int 0, .int 0, .int 0, .int 0, .long 0, .int 0, .int 0, .int 0, .int 0, .null, .null, .null, .int 0, .null, .null, .int 0, .null, .null, .int 0, .int 0, .null, .int 0, .null, .int 0, .long 0, .null, .int 0, .int 0, .null, .int 0, .null, .int 0]))] H := hP
  have hD : va_D A [(q_1, .inr (8, [.ref q_3, .ref q_4, .ref q_5, .ref q_6, .ref q_7, .ref q_8, .ref q_9, .ref q_10, .ref q_11, .ref q_12, .ref q_13, .int 0])), (q_3, .inr (7, [.ref q_14, .int 0])), (q_14, .inl (E.2.2.1, 320, .inl (fun _ => 0))), (q_4, .inr (4, [.ref q_3, .ref q_15, .ref q_16, .ref q_17, .int 0, .int 0, .int 0, .int 0, .int 0, .int 0, .int (-1)])), (q_15, .inl (E.2.1, 3, .inl (fun _ => 0))), (q_5, .inr (5, [.ref q_18, .ref q_19, .int 0])), (q_6, .inr (6, [.ref q_20, .ref q_21, .int 0, .int 0, .ref q_22, .ref q_23])), (q_20, .inl (E.2.1, 81, .inl (fun _ => 0))), (q_11, .inr (3, [.ref q_24, .int 0, .int 0])), (q_13, .inl (E.2.1, 3, .inl (fun _ => 0))), (q_26, .inr (9, [.int 0, .null, .int 0, .int 0, .int 0, .int 0, .int 0, .int 0, .long 0, .int 0, .int 0, .int 0, .int 0, .null, .null, .null, .int 0, .null, .null, .int 0, .null, .null, .int 0, .int 0, .null, .int 0, .null, .int 0, .long 0, .null, .int 0, .int 0, .null, .int 0, .null, .int 0]))] := hD
  refine W.widen (k := 34) (n := 4797) (Nat.le_of_ble_eq_true rfl) (Nat.le_of_ble_eq_true rfl) ?_
  refine lv_dup hx hb dL_law_11 rfl ?_
  have hPc := hP.sub (ws' := [(q_26, .inr (9, [.int 0, .null, .int 0, .int 0, .int 0, .int 0, .int 0, .int 0, .long 0, .int 0, .int 0, .int 0, .int 0, .null, .null, .null, .int 0, .null, .null, .int 0, .null, .null, .int 0, .int 0, .null, .int 0, .null, .int 0, .long 0, .null, .int 0, .int 0, .null, .int 0, .null, .int 0]))]) [10] rfl
  have hDc := hD.sub (ws' := [(q_26, .inr (9, [.int 0, .null, .int 0, .int 0, .int 0, .int 0, .int 0, .int 0, .long 0, .int 0, .int 0, .int 0, .int 0, .null, .null, .null, .int 0, .null, .null, .int 0, .null, .null, .int 0, .int 0, .null, .int 0, .null, .int 0, .long 0, .null, .int 0, .int 0, .null, .int 0, .null, .int 0]))]) [10] (by decide) rfl
  have hFc := va_free (wc := [(q_26, .inr (9, [.int 0, .null, .int 0, .int 0, .int 0, .int 0, .int 0, .int 0, .long 0, .int 0, .int 0, .int 0, .int 0, .null, .null, .null, .int 0, .null, .null, .int 0, .null, .null, .int 0, .int 0, .null, .int 0, .null, .int 0, .long 0, .null, .int 0, .int 0, .null, .int 0, .null, .int 0]))]) hD hS hA [10] rfl
  refine va_callv (va_runI (As := []) (rest := [.ref q_26]) ⟨hx, hb, hml, hown, hts⟩ (k_M l E H.size q_26) (cwI 0 hts gl_k_M_18 rfl rfl rfl (hts (.initialized RX8) (List.mem_of_getElem? (i := 119) (by decide +kernel))) (hts (.methodLink RL 18 yX8_init) (List.mem_of_getElem? (i := 1250) (by decide +kernel))) (hts (.instanceMethod yX8_init) (List.mem_of_getElem? (i := 1251) (by decide +kernel))) rfl (by decide +kernel) ⟨Nat.le_of_ble_eq_true rfl, Nat.le_of_ble_eq_true rfl⟩) ⟨pW.blind, (pW.pre ⟨hK, hN⟩ hPc hDc)⟩ rfl rfl hl.1 rfl (lv_room (Nat.le_of_ble_eq_true rfl)) dL_law_12 ⟨Nat.le_of_ble_eq_true rfl, Nat.le_of_ble_eq_true rfl⟩) hS (fun q _ h => hFc q h) hFc (fun  u_27 tt H1 locs ht hvm hw hB hz1 hk1 hS => ?_)
  obtain ⟨q_28, q_29, q_30, q_31, q_32, q_33, q_34, q_35, q_36, q_37, q_38, q_39, q_40⟩ := u_27
  obtain ⟨hP1, hD1⟩ := hB
  rw [ht] at hP1
  obtain ⟨hP, hD⟩ := va_join (wr := [(q_1, .inr (8, [.ref q_3, .ref q_4, .ref q_5, .ref q_6, .ref q_7, .ref q_8, .ref q_9, .ref q_10, .ref q_11, .ref q_12, .ref q_13, .int 0])), (q_3, .inr (7, [.ref q_14, .int 0])), (q_14, .inl (E.2.2.1, 320, .inl (fun _ => 0))), (q_4, .inr (4, [.ref q_3, .ref q_15, .ref q_16, .ref q_17, .int 0, .int 0, .int 0, .int 0, .int 0, .int 0, .int (-1)])), (q_15, .inl (E.2.1, 3, .inl (fun _ => 0))), (q_5, .inr (5, [.ref q_18, .ref q_19, .int 0])), (q_6, .inr (6, [.ref q_20, .ref q_21, .int 0, .int 0, .ref q_22, .ref q_23])), (q_20, .inl (E.2.1, 81, .inl (fun _ => 0))), (q_11, .inr (3, [.ref q_24, .int 0, .int 0])), (q_13, .inl (E.2.1, 3, .inl (fun _ => 0)))]) (w1 := [(q_26, .inr (9, [.int 0, .ref q_28, .int 0, .int 0, .int 0, .int 0, .int 0, .int 0, .long 0, .int 0, .int 0, .int 0, .int 0, .ref q_29, .ref q_30, .ref q_31, .int 0, .ref q_32, .ref q_33, .int 0, .ref q_34, .ref q_35, .int 0, .int 0, .ref q_36, .int 0, .ref q_37, .int 0, .long 0, .ref q_38, .int 0, .int 0, .ref q_39, .int 0, .ref q_40, .int 0])), (q_28, .inl (E.2.1, 320, .inl (fun _ => 0))), (q_31, .inl (E.2.1, 5, .inl (fun _ => 0))), (q_32, .inl (E.2.1, 265, .inl (fun _ => 0))), (q_33, .inl (E.2.1, 3, .inl (fun _ => 0)))]) hP hD [10] [0, 1, 2, 3, 4, 5, 6, 7, 8, 9] rfl rfl (by decide) (by decide) hk1 hFc hP1 hD1
  generalize H1 = H at hP hS ⊢
  have hP : va_P E.1 vwCl [(q_1, .inr (8, [.ref q_3, .ref q_4, .ref q_5, .ref q_6, .ref q_7, .ref q_8, .ref q_9, .ref q_10, .ref q_11, .ref q_12, .ref q_13, .int 0])), (q_3, .inr (7, [.ref q_14, .int 0])), (q_14, .inl (E.2.2.1, 320, .inl (fun _ => 0))), (q_4, .inr (4, [.ref q_3, .ref q_15, .ref q_16, .ref q_17, .int 0, .int 0, .int 0, .int 0, .int 0, .int 0, .int (-1)])), (q_15, .inl (E.2.1, 3, .inl (fun _ => 0))), (q_5, .inr (5, [.ref q_18, .ref q_19, .int 0])), (q_6, .inr (6, [.ref q_20, .ref q_21, .int 0, .int 0, .ref q_22, .ref q_23])), (q_20, .inl (E.2.1, 81, .inl (fun _ => 0))), (q_11, .inr (3, [.ref q_24, .int 0, .int 0])), (q_13, .inl (E.2.1, 3, .inl (fun _ => 0))), (q_26, .inr (9, [.int 0, .ref q_28, .int 0, .int 0, .int 0, .int 0, .int 0, .int 0, .long 0, .int 0, .int 0, .int 0, .int 0, .ref q_29, .ref q_30, .ref q_31, .int 0, .ref q_32, .ref q_33, .int 0, .ref q_34, .ref q_35, .int 0, .int 0, .ref q_36, .int 0, .ref q_37, .int 0, .long 0, .ref q_38, .int 0, .int 0, .ref q_39, .int 0, .ref q_40, .int 0])), (q_28, .inl (E.2.1, 320, .inl (fun _ => 0))), (q_31, .inl (E.2.1, 5, .inl (fun _ => 0))), (q_32, .inl (E.2.1, 265, .inl (fun _ => 0))), (q_33, .inl (E.2.1, 3, .inl (fun _ => 0)))] H := hP
  have hD : va_D A [(q_1, .inr (8, [.ref q_3, .ref q_4, .ref q_5, .ref q_6, .ref q_7, .ref q_8, .ref q_9, .ref q_10, .ref q_11, .ref q_12, .ref q_13, .int 0])), (q_3, .inr (7, [.ref q_14, .int 0])), (q_14, .inl (E.2.2.1, 320, .inl (fun _ => 0))), (q_4, .inr (4, [.ref q_3, .ref q_15, .ref q_16, .ref q_17, .int 0, .int 0, .int 0, .int 0, .int 0, .int 0, .int (-1)])), (q_15, .inl (E.2.1, 3, .inl (fun _ => 0))), (q_5, .inr (5, [.ref q_18, .ref q_19, .int 0])), (q_6, .inr (6, [.ref q_20, .ref q_21, .int 0, .int 0, .ref q_22, .ref q_23])), (q_20, .inl (E.2.1, 81, .inl (fun _ => 0))), (q_11, .inr (3, [.ref q_24, .int 0, .int 0])), (q_13, .inl (E.2.1, 3, .inl (fun _ => 0))), (q_26, .inr (9, [.int 0, .ref q_28, .int 0, .int 0, .int 0, .int 0, .int 0, .int 0, .long 0, .int 0, .int 0, .int 0, .int 0, .ref q_29, .ref q_30, .ref q_31, .int 0, .ref q_32, .ref q_33, .int 0, .ref q_34, .ref q_35, .int 0, .int 0, .ref q_36, .int 0, .ref q_37, .int 0, .long 0, .ref q_38, .int 0, .int 0, .ref q_39, .int 0, .ref q_40, .int 0])), (q_28, .inl (E.2.1, 320, .inl (fun _ => 0))), (q_31, .inl (E.2.1, 5, .inl (fun _ => 0))), (q_32, .inl (E.2.1, 265, .inl (fun _ => 0))), (q_33, .inl (E.2.1, 3, .inl (fun _ => 0)))] := hD
  refine W.widen (k := 47) (n := 16659) (Nat.le_of_ble_eq_true rfl) (Nat.le_of_ble_eq_true rfl) ?_
  have hsw_41 := hw
  refine lv_astore_n (lv' := [(2, .ref q_26), (1, .ref q_1), (0, .ref b)]) hx hb dL_law_15 rfl hl (by decide) rfl (fun ls hl => ?_)
  refine lv_iconst (v := 1) hx hb dL_law_16 (by decide) ?_
  refine nw_arr (atype := .long) (ty := .long) (a0 := (1, .inr (.inl (fun _ => 0)))) hx hb (hts (.arrayClass .long) (List.mem_of_getElem? (i := 1869) (by decide +kernel))) rfl hK hP hD hS hA 2 rfl (fun _ _ a b => Option.some.inj (a.symm.trans b)) (fun _ => rfl) (by decide) rfl (Nat.le_of_ble_eq_true rfl) (Nat.le_of_ble_eq_true rfl) (Nat.le_of_ble_eq_true rfl) dL_law_17 (fun q_42 H hP hD hS => ?_)
  have hP : va_P E.1 vwCl [(q_1, .inr (8, [.ref q_3, .ref q_4, .ref q_5, .ref q_6, .ref q_7, .ref q_8, .ref q_9, .ref q_10, .ref q_11, .ref q_12, .ref q_13, .int 0])), (q_3, .inr (7, [.ref q_14, .int 0])), (q_14, .inl (E.2.2.1, 320, .inl (fun _ => 0))), (q_4, .inr (4, [.ref q_3, .ref q_15, .ref q_16, .ref q_17, .int 0, .int 0, .int 0, .int 0, .int 0, .int 0, .int (-1)])), (q_15, .inl (E.2.1, 3, .inl (fun _ => 0))), (q_5, .inr (5, [.ref q_18, .ref q_19, .int 0])), (q_6, .inr (6, [.ref q_20, .ref q_21, .int 0, .int 0, .ref q_22, .ref q_23])), (q_20, .inl (E.2.1, 81, .inl (fun _ => 0))), (q_11, .inr (3, [.ref q_24, .int 0, .int 0])), (q_13, .inl (E.2.1, 3, .inl (fun _ => 0))), (q_26, .inr (9, [.int 0, .ref q_28, .int 0, .int 0, .int 0, .int 0, .int 0, .int 0, .long 0, .int 0, .int 0, .int 0, .int 0, .ref q_29, .ref q_30, .ref q_31, .int 0, .ref q_32, .ref q_33, .int 0, .ref q_34, .ref q_35, .int 0, .int 0, .ref q_36, .int 0, .ref q_37, .int 0, .long 0, .ref q_38, .int 0, .int 0, .ref q_39, .int 0, .ref q_40, .int 0])), (q_28, .inl (E.2.1, 320, .inl (fun _ => 0))), (q_31, .inl (E.2.1, 5, .inl (fun _ => 0))), (q_32, .inl (E.2.1, 265, .inl (fun _ => 0))), (q_33, .inl (E.2.1, 3, .inl (fun _ => 0))), (q_42, .inl (E.2.2.2, 1, .inr (.inl (fun _ => 0))))] H := hP
  have hD : va_D A [(q_1, .inr (8, [.ref q_3, .ref q_4, .ref q_5, .ref q_6, .ref q_7, .ref q_8, .ref q_9, .ref q_10, .ref q_11, .ref q_12, .ref q_13, .int 0])), (q_3, .inr (7, [.ref q_14, .int 0])), (q_14, .inl (E.2.2.1, 320, .inl (fun _ => 0))), (q_4, .inr (4, [.ref q_3, .ref q_15, .ref q_16, .ref q_17, .int 0, .int 0, .int 0, .int 0, .int 0, .int 0, .int (-1)])), (q_15, .inl (E.2.1, 3, .inl (fun _ => 0))), (q_5, .inr (5, [.ref q_18, .ref q_19, .int 0])), (q_6, .inr (6, [.ref q_20, .ref q_21, .int 0, .int 0, .ref q_22, .ref q_23])), (q_20, .inl (E.2.1, 81, .inl (fun _ => 0))), (q_11, .inr (3, [.ref q_24, .int 0, .int 0])), (q_13, .inl (E.2.1, 3, .inl (fun _ => 0))), (q_26, .inr (9, [.int 0, .ref q_28, .int 0, .int 0, .int 0, .int 0, .int 0, .int 0, .long 0, .int 0, .int 0, .int 0, .int 0, .ref q_29, .ref q_30, .ref q_31, .int 0, .ref q_32, .ref q_33, .int 0, .ref q_34, .ref q_35, .int 0, .int 0, .ref q_36, .int 0, .ref q_37, .int 0, .long 0, .ref q_38, .int 0, .int 0, .ref q_39, .int 0, .ref q_40, .int 0])), (q_28, .inl (E.2.1, 320, .inl (fun _ => 0))), (q_31, .inl (E.2.1, 5, .inl (fun _ => 0))), (q_32, .inl (E.2.1, 265, .inl (fun _ => 0))), (q_33, .inl (E.2.1, 3, .inl (fun _ => 0))), (q_42, .inl (E.2.2.2, 1, .inr (.inl (fun _ => 0))))] := hD
  refine W.widen (k := 48) (n := 16660) (Nat.le_of_ble_eq_true rfl) (Nat.le_of_ble_eq_true rfl) ?_
  refine lv_astore_n (lv' := [(3, .ref q_42), (2, .ref q_26), (1, .ref q_1), (0, .ref b)]) hx hb dL_law_19 rfl hl (by decide) rfl (fun ls hl => ?_)
  refine lv_iconst (v := 0) hx hb dL_law_20 (by decide) ?_
  refine lv_istore (lv' := [(4, .int 0), (3, .ref q_42), (2, .ref q_26), (1, .ref q_1), (0, .ref b)]) hx hb dL_law_21 hl (by decide) rfl (fun ls hl => ?_)
  refine W.widen (k := 1000) (n := 100000) (Nat.le_of_ble_eq_true rfl) (Nat.le_of_ble_eq_true rfl) ?_
  have hP := hP.sub (ws' := [(q_1, .inr (8, [.ref q_3, .ref q_4, .ref q_5, .ref q_6, .ref q_7, .ref q_8, .ref q_9, .ref q_10, .ref q_11, .ref q_12, .ref q_13, .int 0])), (q_3, .inr (7, [.ref q_14, .int 0])), (q_14, .inl (E.2.2.1, 320, .inl (fun _ => 0))), (q_4, .inr (4, [.ref q_3, .ref q_15, .ref q_16, .ref q_17, .int 0, .int 0, .int 0, .int 0, .int 0, .int 0, .int (-1)])), (q_15, .inl (E.2.1, 3, .inl (fun _ => 0))), (q_5, .inr (5, [.ref q_18, .ref q_19, .int 0])), (q_6, .inr (6, [.ref q_20, .ref q_21, .int 0, .int 0, .ref q_22, .ref q_23])), (q_20, .inl (E.2.1, 81, .inl (fun _ => 0))), (q_11, .inr (3, [.ref q_24, .int 0, .int 0])), (q_13, .inl (E.2.1, 3, .inl (fun _ => 0))), (q_26, .inr (9, [.int 0, .ref q_28, .int 0, .int 0, .int 0, .int 0, .int 0, .int 0, .long 0, .int 0, .int 0, .int 0, .int 0, .ref q_29, .ref q_30, .ref q_31, .int 0, .ref q_32, .ref q_33, .int 0, .ref q_34, .ref q_35, .int 0, .int 0, .ref q_36, .int 0, .ref q_37, .int 0, .long 0, .ref q_38, .int 0, .int 0, .ref q_39, .int 0, .ref q_40, .int 0])), (q_28, .inl (E.2.1, 320, .inl (fun _ => 0))), (q_31, .inl (E.2.1, 5, .inl (fun _ => 0))), (q_32, .inl (E.2.1, 265, .inl (fun _ => 0))), (q_33, .inl (E.2.1, 3, .inl (fun _ => 0))), (q_42, .inl (E.2.2.2, 1, .inr (.inl (fun _ => 0))))]) [0, 1, 2, 3, 4, 5, 6, 7, 8, 9, 10, 11, 12, 13, 14, 15] rfl
  have hD := hD.sub (ws' := [(q_1, .inr (8, [.ref q_3, .ref q_4, .ref q_5, .ref q_6, .ref q_7, .ref q_8, .ref q_9, .ref q_10, .ref q_11, .ref q_12, .ref q_13, .int 0])), (q_3, .inr (7, [.ref q_14, .int 0])), (q_14, .inl (E.2.2.1, 320, .inl (fun _ => 0))), (q_4, .inr (4, [.ref q_3, .ref q_15, .ref q_16, .ref q_17, .int 0, .int 0, .int 0, .int 0, .int 0, .int 0, .int (-1)])), (q_15, .inl (E.2.1, 3, .inl (fun _ => 0))), (q_5, .inr (5, [.ref q_18, .ref q_19, .int 0])), (q_6, .inr (6, [.ref q_20, .ref q_21, .int 0, .int 0, .ref q_22, .ref q_23])), (q_20, .inl (E.2.1, 81, .inl (fun _ => 0))), (q_11, .inr (3, [.ref q_24, .int 0, .int 0])), (q_13, .inl (E.2.1, 3, .inl (fun _ => 0))), (q_26, .inr (9, [.int 0, .ref q_28, .int 0, .int 0, .int 0, .int 0, .int 0, .int 0, .long 0, .int 0, .int 0, .int 0, .int 0, .ref q_29, .ref q_30, .ref q_31, .int 0, .ref q_32, .ref q_33, .int 0, .ref q_34, .ref q_35, .int 0, .int 0, .ref q_36, .int 0, .ref q_37, .int 0, .long 0, .ref q_38, .int 0, .int 0, .ref q_39, .int 0, .ref q_40, .int 0])), (q_28, .inl (E.2.1, 320, .inl (fun _ => 0))), (q_31, .inl (E.2.1, 5, .inl (fun _ => 0))), (q_32, .inl (E.2.1, 265, .inl (fun _ => 0))), (q_33, .inl (E.2.1, 3, .inl (fun _ => 0))), (q_42, .inl (E.2.2.2, 1, .inr (.inl (fun _ => 0))))]) [0, 1, 2, 3, 4, 5, 6, 7, 8, 9, 10, 11, 12, 13, 14, 15] (by decide) rfl
  have hl := lv_sub (l' := [(0, .ref b), (1, .ref q_1), (2, .ref q_26), (3, .ref q_42), (4, .int 0)]) hl [4, 3, 2, 1, 0] rfl
  refine lv_iload hx hb dL_law_23 (lv_at hl 4 rfl) ?_
  refine lv_aload_n hx hb dL_law_25 rfl (lv_at hl 0 rfl) ?_
  refine va_slen hx hb hX hbl hbA hS dL_law_26 ?_
  refine lv_bipush (v := 6) hx hb dL_law_27 (by decide) ?_
  refine lv_isub hx hb dL_law_29 ?_
  refine lv_icmp_gt (tgt := 1671) hx hb dL_law_30 (by decide) (fun _ => ?_) (fun q => ?_)
  · refine lv_iconst (v := 1) hx hb dL_law_1671 (by decide) ?_
    refine va_forget (fun q hq => by have h9 := hS.2.2 q hq; rw [← hAe] at h9; exact h9) ?_
    refine W.widen (k := 600002) (n := 7302232) (Nat.le_of_ble_eq_true rfl) (Nat.le_of_ble_eq_true rfl) ?_
    exact lw_ret hx hb hr hlocks dL_law_1672
  have hL6 : L = 6 := by
    rcases (show L = 0 ∨ L = 1 ∨ L = 2 ∨ L = 3 ∨ L = 4 ∨ L = 5 ∨ L = 6 by omega) with h9 | h9 | h9 | h9 | h9 | h9 | h9
    · rw [h9] at q; exact absurd (by decide) q
    · rw [h9] at q; exact absurd (by decide) q
    · rw [h9] at q; exact absurd (by decide) q
    · rw [h9] at q; exact absurd (by decide) q
    · rw [h9] at q; exact absurd (by decide) q
    · rw [h9] at q; exact absurd (by decide) q
    · exact h9
  subst hL6
  refine lv_aload_n hx hb dL_law_33 rfl (lv_at hl 0 rfl) ?_
  refine lv_iload hx hb dL_law_34 (lv_at hl 4 rfl) ?_
  refine va_sld hx hb hX hbl hbA hS (vin rfl) dL_law_36 ?_
  refine lv_bipush (v := 63) hx hb dL_law_37 (by decide) ?_
  refine lv_iand hx hb dL_law_39 ?_
  refine lv_topi (fun z ez => ?_)
  rcases Classical.em (z = 0) with c_0 | c_0
  · exact lv_tableIn (off := 172) (tgt := 212) hx hb dL_law_40 (by rw [c_0]; decide) (by rw [c_0]; decide) (by rw [c_0]; decide) (by decide) (lc_0 hflags C0 hK hN hAe hZ hP hD hS hl)
  rcases Classical.em (z = 1) with c_1 | c_1
  · exact lv_tableIn (off := 245) (tgt := 285) hx hb dL_law_40 (by rw [c_1]; decide) (by rw [c_1]; decide) (by rw [c_1]; decide) (by decide) (lc_1 hflags C0 hK hN hAe hZ hP hD hS hl)
  rcases Classical.em (z = 2) with c_2 | c_2
  · exact lv_tableIn (off := 270) (tgt := 310) hx hb dL_law_40 (by rw [c_2]; decide) (by rw [c_2]; decide) (by rw [c_2]; decide) (by decide) (lc_2 hflags C0 hK hN hAe hZ hP hD hS hl)
  rcases Classical.em (z = 3) with c_3 | c_3
  · exact lv_tableIn (off := 295) (tgt := 335) hx hb dL_law_40 (by rw [c_3]; decide) (by rw [c_3]; decide) (by rw [c_3]; decide) (by decide) (lc_3 hflags C0 hK hN hAe hZ hP hD hS hl)
  rcases Classical.em (z = 4) with c_4 | c_4
  · exact lv_tableIn (off := 320) (tgt := 360) hx hb dL_law_40 (by rw [c_4]; decide) (by rw [c_4]; decide) (by rw [c_4]; decide) (by decide) (lc_4 hflags C0 hK hN hAe hZ hP hD hS hl)
  rcases Classical.em (z = 5) with c_5 | c_5
  · exact lv_tableIn (off := 345) (tgt := 385) hx hb dL_law_40 (by rw [c_5]; decide) (by rw [c_5]; decide) (by rw [c_5]; decide) (by decide) (lc_5 hflags C0 hK hN hAe hZ hP hD hS hl)
  rcases Classical.em (z = 6) with c_6 | c_6
  · exact lv_tableIn (off := 413) (tgt := 453) hx hb dL_law_40 (by rw [c_6]; decide) (by rw [c_6]; decide) (by rw [c_6]; decide) (by decide) (lc_6 hflags C0 hK hN hAe hZ hP hD hS hl)
  rcases Classical.em (z = 7) with c_7 | c_7
  · exact lv_tableIn (off := 451) (tgt := 491) hx hb dL_law_40 (by rw [c_7]; decide) (by rw [c_7]; decide) (by rw [c_7]; decide) (by decide) (lc_7 hflags C0 hK hN hAe hZ hP hD hS hl)
  rcases Classical.em (z = 8) with c_8 | c_8
  · exact lv_tableIn (off := 488) (tgt := 528) hx hb dL_law_40 (by rw [c_8]; decide) (by rw [c_8]; decide) (by rw [c_8]; decide) (by decide) (lc_8 hflags C0 hK hN hAe hZ hP hD hS hl)
  rcases Classical.em (z = 9) with c_9 | c_9
  · exact lv_tableIn (off := 514) (tgt := 554) hx hb dL_law_40 (by rw [c_9]; decide) (by rw [c_9]; decide) (by rw [c_9]; decide) (by decide) (lc_9 hflags C0 hK hN hAe hZ hP hD hS hl)
  rcases Classical.em (z = 10) with c_10 | c_10
  · exact lv_tableIn (off := 563) (tgt := 603) hx hb dL_law_40 (by rw [c_10]; decide) (by rw [c_10]; decide) (by rw [c_10]; decide) (by decide) (lc_10 hflags C0 hK hN hAe hZ hP hD hS hl)
  rcases Classical.em (z = 11) with c_11 | c_11
  · exact lv_tableIn (off := 588) (tgt := 628) hx hb dL_law_40 (by rw [c_11]; decide) (by rw [c_11]; decide) (by rw [c_11]; decide) (by decide) (lc_11 hflags C0 hK hN hAe hZ hP hD hS hl)
  rcases Classical.em (z = 12) with c_12 | c_12
  · exact lv_tableIn (off := 601) (tgt := 641) hx hb dL_law_40 (by rw [c_12]; decide) (by rw [c_12]; decide) (by rw [c_12]; decide) (by decide) (lc_12 hflags C0 hK hN hAe hZ hP hD hS hl)
  rcases Classical.em (z = 13) with c_13 | c_13
  · exact lv_tableIn (off := 626) (tgt := 666) hx hb dL_law_40 (by rw [c_13]; decide) (by rw [c_13]; decide) (by rw [c_13]; decide) (by decide) (lc_13 hflags C0 hK hN hAe hZ hP hD hS hl)
  rcases Classical.em (z = 14) with c_14 | c_14
  · exact lv_tableIn (off := 651) (tgt := 691) hx hb dL_law_40 (by rw [c_14]; decide) (by rw [c_14]; decide) (by rw [c_14]; decide) (by decide) (lc_14 hflags C0 hK hN hAe hZ hP hD hS hl)
  rcases Classical.em (z = 15) with c_15 | c_15
  · exact lv_tableIn (off := 688) (tgt := 728) hx hb dL_law_40 (by rw [c_15]; decide) (by rw [c_15]; decide) (by rw [c_15]; decide) (by decide) (lc_15 hflags C0 hK hN hAe hZ hP hD hS hl)
  rcases Classical.em (z = 16) with c_16 | c_16
  · exact lv_tableIn (off := 713) (tgt := 753) hx hb dL_law_40 (by rw [c_16]; decide) (by rw [c_16]; decide) (by rw [c_16]; decide) (by decide) (lc_16 hflags C0 hK hN hAe hZ hP hD hS hl)
  rcases Classical.em (z = 17) with c_17 | c_17
  · exact lv_tableIn (off := 738) (tgt := 778) hx hb dL_law_40 (by rw [c_17]; decide) (by rw [c_17]; decide) (by rw [c_17]; decide) (by decide) (lc_17 hflags C0 hK hN hAe hZ hP hD hS hl)
  rcases Classical.em (z = 18) with c_18 | c_18
  · exact lv_tableIn (off := 807) (tgt := 847) hx hb dL_law_40 (by rw [c_18]; decide) (by rw [c_18]; decide) (by rw [c_18]; decide) (by decide) (lc_18 hflags C0 hK hN hAe hZ hP hD hS hl)
  rcases Classical.em (z = 19) with c_19 | c_19
  · exact lv_tableIn (off := 832) (tgt := 872) hx hb dL_law_40 (by rw [c_19]; decide) (by rw [c_19]; decide) (by rw [c_19]; decide) (by decide) (lc_19 hflags C0 hK hN hAe hZ hP hD hS hl)
  rcases Classical.em (z = 20) with c_20 | c_20
  · exact lv_tableIn (off := 845) (tgt := 885) hx hb dL_law_40 (by rw [c_20]; decide) (by rw [c_20]; decide) (by rw [c_20]; decide) (by decide) (lc_20 hflags C0 hK hN hAe hZ hP hD hS hl)
  rcases Classical.em (z = 21) with c_21 | c_21
  · exact lv_tableIn (off := 882) (tgt := 922) hx hb dL_law_40 (by rw [c_21]; decide) (by rw [c_21]; decide) (by rw [c_21]; decide) (by decide) (lc_21 hflags C0 hK hN hAe hZ hP hD hS hl)
  rcases Classical.em (z = 22) with c_22 | c_22
  · exact lv_tableIn (off := 931) (tgt := 971) hx hb dL_law_40 (by rw [c_22]; decide) (by rw [c_22]; decide) (by rw [c_22]; decide) (by decide) (lc_22 hflags C0 hK hN hAe hZ hP hD hS hl)
  rcases Classical.em (z = 23) with c_23 | c_23
  · exact lv_tableIn (off := 992) (tgt := 1032) hx hb dL_law_40 (by rw [c_23]; decide) (by rw [c_23]; decide) (by rw [c_23]; decide) (by decide) (lc_23 hflags C0 hK hN hAe hZ hP hD hS hl)
  rcases Classical.em (z = 24) with c_24 | c_24
  · exact lv_tableIn (off := 1053) (tgt := 1093) hx hb dL_law_40 (by rw [c_24]; decide) (by rw [c_24]; decide) (by rw [c_24]; decide) (by decide) (lc_24 hflags C0 hK hN hAe hZ hP hD hS hl)
  rcases Classical.em (z = 25) with c_25 | c_25
  · exact lv_tableIn (off := 1126) (tgt := 1166) hx hb dL_law_40 (by rw [c_25]; decide) (by rw [c_25]; decide) (by rw [c_25]; decide) (by decide) (lc_25 hflags C0 hK hN hAe hZ hP hD hS hl)
  rcases Classical.em (z = 26) with c_26 | c_26
  · exact lv_tableIn (off := 1175) (tgt := 1215) hx hb dL_law_40 (by rw [c_26]; decide) (by rw [c_26]; decide) (by rw [c_26]; decide) (by decide) (lc_26 hflags C0 hK hN hAe hZ hP hD hS hl)
  rcases Classical.em (z = 27) with c_27 | c_27
  · exact lv_tableIn (off := 1224) (tgt := 1264) hx hb dL_law_40 (by rw [c_27]; decide) (by rw [c_27]; decide) (by rw [c_27]; decide) (by decide) (lc_27 hflags C0 hK hN hAe hZ hP hD hS hl)
  rcases Classical.em (z = 28) with c_28 | c_28
  · exact lv_tableIn (off := 1274) (tgt := 1314) hx hb dL_law_40 (by rw [c_28]; decide) (by rw [c_28]; decide) (by rw [c_28]; decide) (by decide) (lc_28 hflags C0 hK hN hAe hZ hP hD hS hl)
  rcases Classical.em (z = 29) with c_29 | c_29
  · exact lv_tableIn (off := 1339) (tgt := 1379) hx hb dL_law_40 (by rw [c_29]; decide) (by rw [c_29]; decide) (by rw [c_29]; decide) (by decide) (lc_29 hflags C0 hK hN hAe hZ hP hD hS hl)
  rcases Classical.em (z = 30) with c_30 | c_30
  · exact lv_tableIn (off := 1376) (tgt := 1416) hx hb dL_law_40 (by rw [c_30]; decide) (by rw [c_30]; decide) (by rw [c_30]; decide) (by decide) (lc_30 hflags C0 hK hN hAe hZ hP hD hS hl)
  rcases Classical.em (z = 31) with c_31 | c_31
  · exact lv_tableIn (off := 1401) (tgt := 1441) hx hb dL_law_40 (by rw [c_31]; decide) (by rw [c_31]; decide) (by rw [c_31]; decide) (by decide) (lc_31 hflags C0 hK hN hAe hZ hP hD hS hl)
  rcases Classical.em (z = 32) with c_32 | c_32
  · exact lv_tableIn (off := 1438) (tgt := 1478) hx hb dL_law_40 (by rw [c_32]; decide) (by rw [c_32]; decide) (by rw [c_32]; decide) (by decide) (lc_32 hflags C0 hK hN hAe hZ hP hD hS hl)
  rcases Classical.em (z = 33) with c_33 | c_33
  · exact lv_tableIn (off := 1487) (tgt := 1527) hx hb dL_law_40 (by rw [c_33]; decide) (by rw [c_33]; decide) (by rw [c_33]; decide) (by decide) (lc_33 hflags C0 hK hN hAe hZ hP hD hS hl)
  rcases Classical.em (z = 34) with c_34 | c_34
  · exact lv_tableIn (off := 1524) (tgt := 1564) hx hb dL_law_40 (by rw [c_34]; decide) (by rw [c_34]; decide) (by rw [c_34]; decide) (by decide) (lc_34 hflags C0 hK hN hAe hZ hP hD hS hl)
  rcases Classical.em (z = 35) with c_35 | c_35
  · exact lv_tableIn (off := 1549) (tgt := 1589) hx hb dL_law_40 (by rw [c_35]; decide) (by rw [c_35]; decide) (by rw [c_35]; decide) (by decide) (lc_35 hflags C0 hK hN hAe hZ hP hD hS hl)
  rcases Classical.em (z = 36) with c_36 | c_36
  · exact lv_tableIn (off := 1574) (tgt := 1614) hx hb dL_law_40 (by rw [c_36]; decide) (by rw [c_36]; decide) (by rw [c_36]; decide) (by decide) (lc_36 hflags C0 hK hN hAe hZ hP hD hS hl)
  rcases Classical.em (z = 37) with c_37 | c_37
  · exact lv_tableIn (off := 1587) (tgt := 1627) hx hb dL_law_40 (by rw [c_37]; decide) (by rw [c_37]; decide) (by rw [c_37]; decide) (by decide) (lc_37 hflags C0 hK hN hAe hZ hP hD hS hl)
  rcases Classical.em (z = 38) with c_38 | c_38
  · exact lv_tableIn (off := 1600) (tgt := 1640) hx hb dL_law_40 (by rw [c_38]; decide) (by rw [c_38]; decide) (by rw [c_38]; decide) (by decide) (lc_38 hflags C0 hK hN hAe hZ hP hD hS hl)
  exact lv_tableOut (tgt := 1665) hx hb dL_law_40 (by have t0 : (0 : Int32).toInt = 0 := (by decide); have t1 : (1 : Int32).toInt = 1 := (by decide); have t2 : (2 : Int32).toInt = 2 := (by decide); have t3 : (3 : Int32).toInt = 3 := (by decide); have t4 : (4 : Int32).toInt = 4 := (by decide); have t5 : (5 : Int32).toInt = 5 := (by decide); have t6 : (6 : Int32).toInt = 6 := (by decide); have t7 : (7 : Int32).toInt = 7 := (by decide); have t8 : (8 : Int32).toInt = 8 := (by decide); have t9 : (9 : Int32).toInt = 9 := (by decide); have t10 : (10 : Int32).toInt = 10 := (by decide); have t11 : (11 : Int32).toInt = 11 := (by decide); have t12 : (12 : Int32).toInt = 12 := (by decide); have t13 : (13 : Int32).toInt = 13 := (by decide); have t14 : (14 : Int32).toInt = 14 := (by decide); have t15 : (15 : Int32).toInt = 15 := (by decide); have t16 : (16 : Int32).toInt = 16 := (by decide); have t17 : (17 : Int32).toInt = 17 := (by decide); have t18 : (18 : Int32).toInt = 18 := (by decide); have t19 : (19 : Int32).toInt = 19 := (by decide); have t20 : (20 : Int32).toInt = 20 := (by decide); have t21 : (21 : Int32).toInt = 21 := (by decide); have t22 : (22 : Int32).toInt = 22 := (by decide); have t23 : (23 : Int32).toInt = 23 := (by decide); have t24 : (24 : Int32).toInt = 24 := (by decide); have t25 : (25 : Int32).toInt = 25 := (by decide); have t26 : (26 : Int32).toInt = 26 := (by decide); have t27 : (27 : Int32).toInt = 27 := (by decide); have t28 : (28 : Int32).toInt = 28 := (by decide); have t29 : (29 : Int32).toInt = 29 := (by decide); have t30 : (30 : Int32).toInt = 30 := (by decide); have t31 : (31 : Int32).toInt = 31 := (by decide); have t32 : (32 : Int32).toInt = 32 := (by decide); have t33 : (33 : Int32).toInt = 33 := (by decide); have t34 : (34 : Int32).toInt = 34 := (by decide); have t35 : (35 : Int32).toInt = 35 := (by decide); have t36 : (36 : Int32).toInt = 36 := (by decide); have t37 : (37 : Int32).toInt = 37 := (by decide); have t38 : (38 : Int32).toInt = 38 := (by decide); simp only [← Int32.toInt_inj, t0, t1, t2, t3, t4, t5, t6, t7, t8, t9, t10, t11, t12, t13, t14, t15, t16, t17, t18, t19, t20, t21, t22, t23, t24, t25, t26, t27, t28, t29, t30, t31, t32, t33, t34, t35, t36, t37, t38] at c_0 c_1 c_2 c_3 c_4 c_5 c_6 c_7 c_8 c_9 c_10 c_11 c_12 c_13 c_14 c_15 c_16 c_17 c_18 c_19 c_20 c_21 c_22 c_23 c_24 c_25 c_26 c_27 c_28 c_29 c_30 c_31 c_32 c_33 c_34 c_35 c_36 c_37 c_38; omega) (by decide) (law_end hflags C0 hAe hS (lv_sub hl [0, 4] rfl))
