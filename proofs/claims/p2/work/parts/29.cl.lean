theorem dX4_keep_0 : decode cX4_keep 0 = .ok (.aload_n 0, 1) := by decide +kernel
theorem dX4_keep_1 : decode cX4_keep 1 = .ok (.invokevirtual 22, 3) := by decide +kernel
theorem dX4_keep_4 : decode cX4_keep 4 = .ok (.ifCond .ne 47, 3) := by decide +kernel
theorem dX4_keep_51 : decode cX4_keep 51 = .ok (.return_, 1) := by decide +kernel
theorem dX4_keep_7 : decode cX4_keep 7 = .ok (.aload_n 1, 1) := by decide +kernel
theorem dX4_keep_8 : decode cX4_keep 8 = .ok (.getfield 26, 3) := by decide +kernel
theorem dX4_keep_11 : decode cX4_keep 11 = .ok (.iconst 0, 1) := by decide +kernel
theorem dX4_keep_12 : decode cX4_keep 12 = .ok (.aload_n 0, 1) := by decide +kernel
theorem dX4_keep_13 : decode cX4_keep 13 = .ok (.getfield 11, 3) := by decide +kernel
theorem dX4_keep_16 : decode cX4_keep 16 = .ok (.aload_n 0, 1) := by decide +kernel
theorem dX4_keep_17 : decode cX4_keep 17 = .ok (.getfield 18, 3) := by decide +kernel
theorem dX4_keep_20 : decode cX4_keep 20 = .ok (.bipush 48, 2) := by decide +kernel
theorem dX4_keep_22 : decode cX4_keep 22 = .ok (.imul, 1) := by decide +kernel
theorem dX4_keep_23 : decode cX4_keep 23 = .ok (.bipush 48, 2) := by decide +kernel
theorem dX4_keep_25 : decode cX4_keep 25 = .ok (.invokestatic 29, 3) := by decide +kernel
theorem dX4_keep_28 : decode cX4_keep 28 = .ok (.aload_n 0, 1) := by decide +kernel
theorem dX4_keep_29 : decode cX4_keep 29 = .ok (.getfield 15, 3) := by decide +kernel
theorem dX4_keep_32 : decode cX4_keep 32 = .ok (.aload_n 0, 1) := by decide +kernel
theorem dX4_keep_33 : decode cX4_keep 33 = .ok (.getfield 18, 3) := by decide +kernel
theorem dX4_keep_36 : decode cX4_keep 36 = .ok (.aload_n 1, 1) := by decide +kernel
theorem dX4_keep_37 : decode cX4_keep 37 = .ok (.getfield 35, 3) := by decide +kernel
theorem dX4_keep_40 : decode cX4_keep 40 = .ok (.iastore, 1) := by decide +kernel
theorem dX4_keep_41 : decode cX4_keep 41 = .ok (.aload_n 0, 1) := by decide +kernel
theorem dX4_keep_42 : decode cX4_keep 42 = .ok (.dup, 1) := by decide +kernel
theorem dX4_keep_43 : decode cX4_keep 43 = .ok (.getfield 18, 3) := by decide +kernel
theorem dX4_keep_46 : decode cX4_keep 46 = .ok (.iconst 1, 1) := by decide +kernel
theorem dX4_keep_47 : decode cX4_keep 47 = .ok (.iadd, 1) := by decide +kernel
theorem dX4_keep_48 : decode cX4_keep 48 = .ok (.putfield 18, 3) := by decide +kernel
theorem dX6_signAt_0 : decode cX6_signAt 0 = .ok (.iload_n 1, 1) := by decide +kernel
theorem dX6_signAt_1 : decode cX6_signAt 1 = .ok (.ifCond .lt 31, 3) := by decide +kernel
theorem dX6_signAt_32 : decode cX6_signAt 32 = .ok (.iconst (-1), 1) := by decide +kernel
theorem dX6_signAt_33 : decode cX6_signAt 33 = .ok (.ireturn, 1) := by decide +kernel
theorem dX6_signAt_4 : decode cX6_signAt 4 = .ok (.iload_n 1, 1) := by decide +kernel
theorem dX6_signAt_5 : decode cX6_signAt 5 = .ok (.aload_n 0, 1) := by decide +kernel
theorem dX6_signAt_6 : decode cX6_signAt 6 = .ok (.getfield 15, 3) := by decide +kernel
theorem dX6_signAt_9 : decode cX6_signAt 9 = .ok (.if_icmp .ge 23, 3) := by decide +kernel
theorem dX6_signAt_12 : decode cX6_signAt 12 = .ok (.iload_n 1, 1) := by decide +kernel
theorem dX6_signAt_13 : decode cX6_signAt 13 = .ok (.sipush 320, 3) := by decide +kernel
theorem dX6_signAt_16 : decode cX6_signAt 16 = .ok (.if_icmp .ge 16, 3) := by decide +kernel
theorem dX6_signAt_19 : decode cX6_signAt 19 = .ok (.aload_n 0, 1) := by decide +kernel
theorem dX6_signAt_20 : decode cX6_signAt 20 = .ok (.getfield 11, 3) := by decide +kernel
theorem dX6_signAt_23 : decode cX6_signAt 23 = .ok (.iload_n 1, 1) := by decide +kernel
theorem dX6_signAt_24 : decode cX6_signAt 24 = .ok (.baload, 1) := by decide +kernel
theorem dX6_signAt_25 : decode cX6_signAt 25 = .ok (.sipush 255, 3) := by decide +kernel
theorem dX6_signAt_28 : decode cX6_signAt 28 = .ok (.iand, 1) := by decide +kernel
theorem dX6_signAt_29 : decode cX6_signAt 29 = .ok (.goto 4, 3) := by decide +kernel
theorem dX6_cutTo_0 : decode cX6_cutTo 0 = .ok (.iload_n 1, 1) := by decide +kernel
theorem dX6_cutTo_1 : decode cX6_cutTo 1 = .ok (.ifCond .lt 11, 3) := by decide +kernel
theorem dX6_cutTo_4 : decode cX6_cutTo 4 = .ok (.iload_n 1, 1) := by decide +kernel
theorem dX6_cutTo_5 : decode cX6_cutTo 5 = .ok (.aload_n 0, 1) := by decide +kernel
theorem dX6_cutTo_6 : decode cX6_cutTo 6 = .ok (.getfield 15, 3) := by decide +kernel
theorem dX6_cutTo_9 : decode cX6_cutTo 9 = .ok (.if_icmp .le 5, 3) := by decide +kernel
theorem dX6_cutTo_14 : decode cX6_cutTo 14 = .ok (.aload_n 0, 1) := by decide +kernel
theorem dX6_cutTo_15 : decode cX6_cutTo 15 = .ok (.iload_n 1, 1) := by decide +kernel
theorem dX6_cutTo_16 : decode cX6_cutTo 16 = .ok (.putfield 15, 3) := by decide +kernel
theorem dX6_cutTo_19 : decode cX6_cutTo 19 = .ok (.iconst 1, 1) := by decide +kernel
theorem dX6_cutTo_20 : decode cX6_cutTo 20 = .ok (.ireturn, 1) := by decide +kernel
theorem dX6_cutTo_12 : decode cX6_cutTo 12 = .ok (.iconst 0, 1) := by decide +kernel
theorem dX6_cutTo_13 : decode cX6_cutTo 13 = .ok (.ireturn, 1) := by decide +kernel
theorem sOK_put {fc : Nat → Int32} {n k : Nat} (h : sOK fc) (hk : k ≤ 12) : sOK (upd fc n (nI k)) := by
  intro j hj
  unfold upd
  by_cases q : j = n
  · exact ⟨k, hk, if_pos q⟩
  · rw [if_neg q]; exact h j hj
/-- the sign at p of a tape of n signs -/
def tpS (n : Nat) (fb : Nat → Int32) (p : Int32) : Int32 := if 0 ≤ p ∧ p < nI n then fb p.toNatClampNeg &&& 255 else -1

def v_c_keep : List Cond := .code yX4_keep cX4_keep 2 none :: ([.fieldLink RX4 11 "HushWatch$Scripts" "steps" "[I", .fieldLink RX4 18 "HushWatch$Scripts" "held" "I", .methodLink RX4 29 arraycopyName, .native arraycopyName, .static arraycopyName, .initialized "java/lang/System", .fieldLink RX4 15 "HushWatch$Scripts" "counts" "[I", .methodLink RX4 22 yX4_areFull, .instanceMethod yX4_areFull, .selects RX4 yX4_areFull yX4_areFull, .initialized RX4] ++ (v_c_areFull ++ (wsX30 ++ (wsX40 ++ ([])))))
theorem gw_c_keep : v_c_keep.all goodWord = true := by decide +kernel
theorem i_c_keep_X3 : ∀ w ∈ wsX30, w ∈ v_c_keep := fun _ h => List.mem_cons_of_mem _ (List.mem_append_right _ (List.mem_append_right _ (List.mem_append_left _ h)))
theorem i_c_keep_X4 : ∀ w ∈ wsX40, w ∈ v_c_keep := fun _ h => List.mem_cons_of_mem _ (List.mem_append_right _ (List.mem_append_right _ (List.mem_append_right _ (List.mem_append_left _ h))))
theorem g_c_keep_c_areFull_22 : GoodIn v_c_keep (wsV RX4 22 RX4 yX4_areFull v_c_areFull) := goodIn_app (goodIn_of _ (by decide +kernel)) (goodIn_sub (fun _ h => List.mem_cons_of_mem _ (List.mem_append_right _ (List.mem_append_left _ h))) gw_c_areFull)
set_option maxHeartbeats 4000000 in
set_option maxRecDepth 100000 in
theorem c_keep (l : Launch) (E : EE) (sz : Nat) (h c1 c2 n : Nat) (fs fc : Nat → Int32) (r t r1 r2 r3 s0 : Nat) (y4 y6 y7 y8 y9 y10 : Int32) (ft : Nat → Int32) (hn : n ≤ 4) (hs : sOK fc) (hs0 : s0 ≤ 12) : Met l yX4_keep v_c_keep ({ frames := 1, cells := 0, slots := 0, locals := 60 }) (va_Pc [.ref h, .ref r] (pW E sz [(h, .inr (5, [.ref c1, .ref c2, .int (nI n)])), (c1, .inl (E.2.1, 192, .inl fs)), (c2, .inl (E.2.1, 4, .inl fc)), (r, .inr (4, [.ref t, .ref r1, .ref r2, .ref r3, .int y4, .int (nI s0), .int y6, .int y7, .int y8, .int y9, .int y10])), (r3, .inl (E.2.1, 48, .inl ft))])) (va_Qv (fun (u_ : (Nat → Int32) × (Nat → Int32) × (Nat)) => u_.2.2 ≤ 4 ∧ sOK u_.2.1) (fun (u_ : (Nat → Int32) × (Nat → Int32) × (Nat)) tt => va_P E.1 vwCl [(h, .inr (5, [.ref c1, .ref c2, .int (nI u_.2.2)])), (c1, .inl (E.2.1, 192, .inl u_.1)), (c2, .inl (E.2.1, 4, .inl u_.2.1)), (r, .inr (4, [.ref t, .ref r1, .ref r2, .ref r3, .int y4, .int (nI s0), .int y6, .int y7, .int y8, .int y9, .int y10])), (r3, .inl (E.2.1, 48, .inl ft))] tt.heap ∧ va_D (va_A [(h, .inr (5, [.ref c1, .ref c2, .int (nI n)])), (c1, .inl (E.2.1, 192, .inl fs)), (c2, .inl (E.2.1, 4, .inl fc)), (r, .inr (4, [.ref t, .ref r1, .ref r2, .ref r3, .int y4, .int (nI s0), .int y6, .int y7, .int y8, .int y9, .int y10])), (r3, .inl (E.2.1, 48, .inl ft))] sz) [(h, .inr (5, [.ref c1, .ref c2, .int (nI u_.2.2)])), (c1, .inl (E.2.1, 192, .inl u_.1)), (c2, .inl (E.2.1, 4, .inl u_.2.1)), (r, .inr (4, [.ref t, .ref r1, .ref r2, .ref r3, .int y4, .int (nI s0), .int y6, .int y7, .int y8, .int y9, .int y10])), (r3, .inl (E.2.1, 48, .inl ft))]) (va_A [(h, .inr (5, [.ref c1, .ref c2, .int (nI n)])), (c1, .inl (E.2.1, 192, .inl fs)), (c2, .inl (E.2.1, 4, .inl fc)), (r, .inr (4, [.ref t, .ref r1, .ref r2, .ref r3, .int y4, .int (nI s0), .int y6, .int y7, .int y8, .int y9, .int y10])), (r3, .inl (E.2.1, 48, .inl ft))] sz)) 0 0 (va_A [(h, .inr (5, [.ref c1, .ref c2, .int (nI n)])), (c1, .inl (E.2.1, 192, .inl fs)), (c2, .inl (E.2.1, 4, .inl fc)), (r, .inr (4, [.ref t, .ref r1, .ref r2, .ref r3, .int y4, .int (nI s0), .int y6, .int y7, .int y8, .int y9, .int y10])), (r3, .inl (E.2.1, 48, .inl ft))] sz) := by
  refine Met.ofW (cc := cX4_keep) (maxL := 2) (ret := none) (by decide) rfl ?_
  intro p e s m args below meth c s₁ B hml hv
  obtain ⟨rfl, hsz, ⟨hK, hN⟩, hP, hD0⟩ := hv
  have hx := B.exec
  have hb := B.bytes
  have hr := B.returns
  have hts := atoms_spec (ws := v_c_keep) B.pre
  have hown : s.vm.findClass RX4 = some m.cls := findClass_of_methodNamed B.named
  have hlocks := B.notSynchronized
  subst hsz
  have hD := hD0.self (sz := s.heap.size)
  generalize hAe : va_A [(h, .inr (5, [.ref c1, .ref c2, .int (nI n)])), (c1, .inl (E.2.1, 192, .inl fs)), (c2, .inl (E.2.1, 4, .inl fc)), (r, .inr (4, [.ref t, .ref r1, .ref r2, .ref r3, .int y4, .int (nI s0), .int y6, .int y7, .int y8, .int y9, .int y10])), (r3, .inl (E.2.1, 48, .inl ft))] s.heap.size = A at hD ⊢
  have hA : ∀ q : Nat, s.heap.size ≤ q → A q := fun q h => by rw [← hAe]; exact Or.inr h
  have hS : va_S A s.heap s.heap [] := va_S.rf
  have hP : va_P E.1 vwCl [(h, .inr (5, [.ref c1, .ref c2, .int (nI n)])), (c1, .inl (E.2.1, 192, .inl fs)), (c2, .inl (E.2.1, 4, .inl fc)), (r, .inr (4, [.ref t, .ref r1, .ref r2, .ref r3, .int y4, .int (nI s0), .int y6, .int y7, .int y8, .int y9, .int y10])), (r3, .inl (E.2.1, 48, .inl ft))] s.heap := hP
  have hl := lv_entry ([.ref h, .ref r]) (n := 2) (Nat.le_of_ble_eq_true rfl)
  rw [lg_entry_eq]
  generalize (lg_sl ([.ref h, .ref r]) ++ List.replicate (2 - (lg_sl ([.ref h, .ref r])).length) Slot.unset).toArray = ls at hl ⊢
  have hl : lv_has ls 2 [(0, .ref h), (1, .ref r)] := hl
  obtain ⟨Q, hQ⟩ : ∃ Q : State → Prop, Q = MQ below (va_Qv (fun (u_ : (Nat → Int32) × (Nat → Int32) × (Nat)) => u_.2.2 ≤ 4 ∧ sOK u_.2.1) (fun (u_ : (Nat → Int32) × (Nat → Int32) × (Nat)) tt => va_P E.1 vwCl [(h, .inr (5, [.ref c1, .ref c2, .int (nI u_.2.2)])), (c1, .inl (E.2.1, 192, .inl u_.1)), (c2, .inl (E.2.1, 4, .inl u_.2.1)), (r, .inr (4, [.ref t, .ref r1, .ref r2, .ref r3, .int y4, .int (nI s0), .int y6, .int y7, .int y8, .int y9, .int y10])), (r3, .inl (E.2.1, 48, .inl ft))] tt.heap ∧ va_D A [(h, .inr (5, [.ref c1, .ref c2, .int (nI u_.2.2)])), (c1, .inl (E.2.1, 192, .inl u_.1)), (c2, .inl (E.2.1, 4, .inl u_.2.1)), (r, .inr (4, [.ref t, .ref r1, .ref r2, .ref r3, .int y4, .int (nI s0), .int y6, .int y7, .int y8, .int y9, .int y10])), (r3, .inl (E.2.1, 48, .inl ft))]) A) #[Value.ref h, Value.ref r] s 0 0 A := ⟨_, rfl⟩
  rw [← hQ]
  change W p l e ({ frames := 1, cells := 0, slots := 0, locals := 60 } : Room) s m #[Value.ref h, Value.ref r] below meth c s.heap [] 0 0 Q (F0 m 0 ls [])
  refine lv_aload_n hx hb dX4_keep_0 rfl (lv_at hl 0 rfl) ?_
  have hPc := hP.sub (ws' := [(h, .inr (5, [.ref c1, .ref c2, .int (nI n)]))]) [0] rfl
  refine pc_i (va_runV (As := []) (rest := []) ⟨hx, hb, hml, hown, hts⟩ (c_areFull l E h c1 c2 n (by omega)) (cwV 0 hts g_c_keep_c_areFull_22 rfl rfl rfl (by decide +kernel) ⟨Nat.le_of_ble_eq_true rfl, Nat.le_of_ble_eq_true rfl⟩) ⟨pP.blind, va_recv hK hPc (ci := 5) (q0 := 0) rfl rfl, (pP.pre ⟨hK, hN⟩ hPc)⟩ rfl rfl hl.1 rfl (lv_room (Nat.le_of_ble_eq_true rfl)) dX4_keep_1 ⟨Nat.le_of_ble_eq_true rfl, Nat.le_of_ble_eq_true rfl⟩) (fun r_1 hr_1 => ?_)
  refine lv_if_ne (tgt := 51) hx hb dX4_keep_4 (by decide) (fun c_2 => ?_) (fun c_2 => ?_)
  ·
    rw [hQ]
    have hP9 := hP.sub (ws' := [(h, .inr (5, [.ref c1, .ref c2, .int (nI n)])), (c1, .inl (E.2.1, 192, .inl fs)), (c2, .inl (E.2.1, 4, .inl fc)), (r, .inr (4, [.ref t, .ref r1, .ref r2, .ref r3, .int y4, .int (nI s0), .int y6, .int y7, .int y8, .int y9, .int y10])), (r3, .inl (E.2.1, 48, .inl ft))]) [0, 1, 2, 3, 4] rfl
    have hD9 := hD.sub (ws' := [(h, .inr (5, [.ref c1, .ref c2, .int (nI n)])), (c1, .inl (E.2.1, 192, .inl fs)), (c2, .inl (E.2.1, 4, .inl fc)), (r, .inr (4, [.ref t, .ref r1, .ref r2, .ref r3, .int y4, .int (nI s0), .int y6, .int y7, .int y8, .int y9, .int y10])), (r3, .inl (E.2.1, 48, .inl ft))]) [0, 1, 2, 3, 4] (by decide) rfl
    exact W.vret hx hb hr (fun tt ht hW => ⟨⟨(fs, fc, n), rfl, ⟨(by first | omega | (dsimp only; omega)), (hs)⟩, by rw [ht]; exact hP9, hD9⟩, hS.F ht⟩) hS.2.2 dX4_keep_51
  ·
    obtain ⟨j_3, hj_3, ej_3⟩ : ∃ j : Nat, j ≤ 0 ∧ r_1 = nI j := nat_rng (by have t0 : (0 : Int32).toInt = 0 := (by decide); simp only [Int32.lt_iff_toInt_lt, Int32.le_iff_toInt_le, ge_iff_le, gt_iff_lt, ne_eq, ← Int32.toInt_inj, t0] at c_2 ⊢; omega)
    have hn3 : n ≤ 3 := hr_1 c_2
    refine lv_aload_n hx hb dX4_keep_7 rfl (lv_at hl 1 rfl) ?_
    refine va_getN (D := E.1) (ci := 4) (v := .ref r3) (C := RX3) (T := TX3) (N := 11) hx hb hts i_c_keep_X3 hown hK hP 3 rfl rfl 3 (by decide) (nx hN 5 rfl) (fun _ h9 => h9) rfl dX4_keep_8 ?_
    refine lv_iconst (v := 0) hx hb dX4_keep_11 (by decide) ?_
    refine lv_aload_n hx hb dX4_keep_12 rfl (lv_at hl 0 rfl) ?_
    refine va_get (D := E.1) (ci := 5) (v := .ref c1) (C := RX4) (T := TX4) (N := 3) hx hb hts i_c_keep_X4 hown hK hP 0 rfl rfl 0 (by decide) (hts (.fieldLink RX4 11 "HushWatch$Scripts" "steps" "[I") (List.mem_of_getElem? (i := 1) rfl)) (fun _ h9 => h9) rfl dX4_keep_13 ?_
    refine lv_aload_n hx hb dX4_keep_16 rfl (lv_at hl 0 rfl) ?_
    refine va_get (D := E.1) (ci := 5) (v := .int (nI n)) (C := RX4) (T := TX4) (N := 3) hx hb hts i_c_keep_X4 hown hK hP 0 rfl rfl 2 (by decide) (hts (.fieldLink RX4 18 "HushWatch$Scripts" "held" "I") (List.mem_of_getElem? (i := 2) rfl)) (fun _ h9 => h9) rfl dX4_keep_17 ?_
    refine lv_bipush (v := 48) hx hb dX4_keep_20 (by decide) ?_
    refine lv_imul hx hb dX4_keep_22 ?_
    refine lv_topi (fun z_4 ez_4 => ?_)
    obtain rfl : z_4 = nI (n * 48) := ez_4.trans (nI_mul _ 48)
    refine lv_bipush (v := 48) hx hb dX4_keep_23 (by decide) ?_
    refine va_copyi hx hb (hml.trans hl.1.symm) hown (hts (.methodLink RX4 29 arraycopyName) (List.mem_of_getElem? (i := 3) rfl)) (hts (.native arraycopyName) (List.mem_of_getElem? (i := 4) rfl)) (hts (.static arraycopyName) (List.mem_of_getElem? (i := 5) rfl)) (hts (.initialized "java/lang/System") (List.mem_of_getElem? (i := 6) rfl)) hK hP hD hS 4 1 0 0 rfl rfl rfl rfl rfl (by decide) (nI_pos (by omega)) (by decide) (by decide) (by rw [nI_clamp (n := n * 48) (by omega)]; show (n * 48) + 48 ≤ 192; omega) (fun _ _ => rfl) (Nat.le_of_ble_eq_true rfl) (Nat.le_of_ble_eq_true rfl) dX4_keep_25 (fun H locs hP hD hS => ?_)
    have hP : va_P E.1 vwCl [(h, .inr (5, [.ref c1, .ref c2, .int (nI n)])), (c1, .inl (E.2.1, 192, .inl (va_cpy ft fs (0 : Int32).toNatClampNeg (nI (n * 48) : Int32).toNatClampNeg (48 : Int32).toNatClampNeg))), (c2, .inl (E.2.1, 4, .inl fc)), (r, .inr (4, [.ref t, .ref r1, .ref r2, .ref r3, .int y4, .int (nI s0), .int y6, .int y7, .int y8, .int y9, .int y10])), (r3, .inl (E.2.1, 48, .inl ft))] H := hP
    have hD : va_D A [(h, .inr (5, [.ref c1, .ref c2, .int (nI n)])), (c1, .inl (E.2.1, 192, .inl (va_cpy ft fs (0 : Int32).toNatClampNeg (nI (n * 48) : Int32).toNatClampNeg (48 : Int32).toNatClampNeg))), (c2, .inl (E.2.1, 4, .inl fc)), (r, .inr (4, [.ref t, .ref r1, .ref r2, .ref r3, .int y4, .int (nI s0), .int y6, .int y7, .int y8, .int y9, .int y10])), (r3, .inl (E.2.1, 48, .inl ft))] := hD
    obtain ⟨f_5, hf_5⟩ : ∃ g : Nat → Int32, g = va_cpy ft fs (0 : Int32).toNatClampNeg (nI (n * 48) : Int32).toNatClampNeg (48 : Int32).toNatClampNeg := ⟨_, rfl⟩
    rw [← hf_5] at hP hD
    refine lv_aload_n hx hb dX4_keep_28 rfl (lv_at hl 0 rfl) ?_
    refine va_get (D := E.1) (ci := 5) (v := .ref c2) (C := RX4) (T := TX4) (N := 3) hx hb hts i_c_keep_X4 hown hK hP 0 rfl rfl 1 (by decide) (hts (.fieldLink RX4 15 "HushWatch$Scripts" "counts" "[I") (List.mem_of_getElem? (i := 7) rfl)) (fun _ h9 => h9) rfl dX4_keep_29 ?_
    refine lv_aload_n hx hb dX4_keep_32 rfl (lv_at hl 0 rfl) ?_
    refine va_get (D := E.1) (ci := 5) (v := .int (nI n)) (C := RX4) (T := TX4) (N := 3) hx hb hts i_c_keep_X4 hown hK hP 0 rfl rfl 2 (by decide) (hts (.fieldLink RX4 18 "HushWatch$Scripts" "held" "I") (List.mem_of_getElem? (i := 2) rfl)) (fun _ h9 => h9) rfl dX4_keep_33 ?_
    refine lv_aload_n hx hb dX4_keep_36 rfl (lv_at hl 1 rfl) ?_
    refine va_getN (D := E.1) (ci := 4) (v := .int (nI s0)) (C := RX3) (T := TX3) (N := 11) hx hb hts i_c_keep_X3 hown hK hP 3 rfl rfl 5 (by decide) (nx hN 7 rfl) (fun _ h9 => h9) rfl dX4_keep_37 ?_
    refine va_iast hx hb hK hP hD hS 2 0 rfl rfl (vp_in_nI (by omega) (by decide)) dX4_keep_40 (fun H locs hP hD hS => ?_)
    have hP : va_P E.1 vwCl [(h, .inr (5, [.ref c1, .ref c2, .int (nI n)])), (c1, .inl (E.2.1, 192, .inl f_5)), (c2, .inl (E.2.1, 4, .inl (upd fc (nI n : Int32).toNatClampNeg (nI s0)))), (r, .inr (4, [.ref t, .ref r1, .ref r2, .ref r3, .int y4, .int (nI s0), .int y6, .int y7, .int y8, .int y9, .int y10])), (r3, .inl (E.2.1, 48, .inl ft))] H := hP
    have hD : va_D A [(h, .inr (5, [.ref c1, .ref c2, .int (nI n)])), (c1, .inl (E.2.1, 192, .inl f_5)), (c2, .inl (E.2.1, 4, .inl (upd fc (nI n : Int32).toNatClampNeg (nI s0)))), (r, .inr (4, [.ref t, .ref r1, .ref r2, .ref r3, .int y4, .int (nI s0), .int y6, .int y7, .int y8, .int y9, .int y10])), (r3, .inl (E.2.1, 48, .inl ft))] := hD
    obtain ⟨f_6, hf_6⟩ : ∃ g : Nat → Int32, g = upd fc (nI n : Int32).toNatClampNeg (nI s0) := ⟨_, rfl⟩
    rw [← hf_6] at hP hD
    refine lv_aload_n hx hb dX4_keep_41 rfl (lv_at hl 0 rfl) ?_
    refine lv_dup hx hb dX4_keep_42 rfl ?_
    refine va_get (D := E.1) (ci := 5) (v := .int (nI n)) (C := RX4) (T := TX4) (N := 3) hx hb hts i_c_keep_X4 hown hK hP 0 rfl rfl 2 (by decide) (hts (.fieldLink RX4 18 "HushWatch$Scripts" "held" "I") (List.mem_of_getElem? (i := 2) rfl)) (fun _ h9 => h9) rfl dX4_keep_43 ?_
    refine lv_iconst (v := 1) hx hb dX4_keep_46 (by decide) ?_
    refine lv_iadd hx hb dX4_keep_47 ?_
    refine lv_topi (fun z_7 ez_7 => ?_)
    obtain rfl : z_7 = nI (n + 1) := ez_7.trans (nI_add _ 1)
    refine va_put (D := E.1) (ci := 5) (v := .int (nI (n + 1))) (ty := .int) (C := RX4) (T := TX4) (N := 3) hx hb hts i_c_keep_X4 tyX4 tyX4_ok nmX4 hown hK hP hD hS 0 rfl rfl 2 (by decide) (hts (.fieldLink RX4 18 "HushWatch$Scripts" "held" "I") (List.mem_of_getElem? (i := 2) rfl)) (fun _ h9 => h9) rfl (by decide +kernel) rfl rfl (Nat.le_of_ble_eq_true rfl) dX4_keep_48 (fun H locs hP hD hS => ?_)
    have hP : va_P E.1 vwCl [(h, .inr (5, [.ref c1, .ref c2, .int (nI (n + 1))])), (c1, .inl (E.2.1, 192, .inl f_5)), (c2, .inl (E.2.1, 4, .inl f_6)), (r, .inr (4, [.ref t, .ref r1, .ref r2, .ref r3, .int y4, .int (nI s0), .int y6, .int y7, .int y8, .int y9, .int y10])), (r3, .inl (E.2.1, 48, .inl ft))] H := hP
    have hD : va_D A [(h, .inr (5, [.ref c1, .ref c2, .int (nI (n + 1))])), (c1, .inl (E.2.1, 192, .inl f_5)), (c2, .inl (E.2.1, 4, .inl f_6)), (r, .inr (4, [.ref t, .ref r1, .ref r2, .ref r3, .int y4, .int (nI s0), .int y6, .int y7, .int y8, .int y9, .int y10])), (r3, .inl (E.2.1, 48, .inl ft))] := hD
    rw [hQ]
    have hP9 := hP.sub (ws' := [(h, .inr (5, [.ref c1, .ref c2, .int (nI (n + 1))])), (c1, .inl (E.2.1, 192, .inl f_5)), (c2, .inl (E.2.1, 4, .inl f_6)), (r, .inr (4, [.ref t, .ref r1, .ref r2, .ref r3, .int y4, .int (nI s0), .int y6, .int y7, .int y8, .int y9, .int y10])), (r3, .inl (E.2.1, 48, .inl ft))]) [0, 1, 2, 3, 4] rfl
    have hD9 := hD.sub (ws' := [(h, .inr (5, [.ref c1, .ref c2, .int (nI (n + 1))])), (c1, .inl (E.2.1, 192, .inl f_5)), (c2, .inl (E.2.1, 4, .inl f_6)), (r, .inr (4, [.ref t, .ref r1, .ref r2, .ref r3, .int y4, .int (nI s0), .int y6, .int y7, .int y8, .int y9, .int y10])), (r3, .inl (E.2.1, 48, .inl ft))]) [0, 1, 2, 3, 4] (by decide) rfl
    exact W.vret hx hb hr (fun tt ht hW => ⟨⟨(f_5, f_6, (n + 1)), rfl, ⟨(by first | omega | (dsimp only; omega)), (by have q9 := sOK_put (n := (nI n : Int32).toNatClampNeg) (k := s0) hs hs0; rw [← hf_6] at q9; exact q9)⟩, by rw [ht]; exact hP9, hD9⟩, hS.F ht⟩) hS.2.2 dX4_keep_51

def v_t_signAt : List Cond := .code yX6_signAt cX6_signAt 2 (some .int) :: ([.fieldLink RX6 15 "HushWatch$Tape" "length" "I", .fieldLink RX6 11 "HushWatch$Tape" "bytes" "[B"] ++ (wsX60 ++ ([])))
theorem gw_t_signAt : v_t_signAt.all goodWord = true := by decide +kernel
theorem i_t_signAt_X6 : ∀ w ∈ wsX60, w ∈ v_t_signAt := fun _ h => List.mem_cons_of_mem _ (List.mem_append_right _ (List.mem_append_left _ h))
set_option maxHeartbeats 4000000 in
set_option maxRecDepth 100000 in
theorem t_signAt (l : Launch) (E : EE) (h b1 n : Nat) (fb : Nat → Int32) (p0 : Int32) (hn : n ≤ 320) : Met l yX6_signAt v_t_signAt ({ frames := 0, cells := 0, slots := 0, locals := 0 }) (va_Pc [.ref h, .int p0] (pP E [(h, .inr (7, [.ref b1, .int (nI n)])), (b1, .inl (E.2.2.1, 320, .inl fb))])) (vp_Si (fun r : Int32 => r = tpS n fb p0)) 0 0 (fun _ => False) := by
  refine Met.ofW (cc := cX6_signAt) (maxL := 2) (ret := (some .int)) (by decide) rfl ?_
  intro p e s m args below meth c s₁ B hml hv
  obtain ⟨rfl, ⟨hK, hN⟩, hP⟩ := hv
  have hx := B.exec
  have hb := B.bytes
  have hr := B.returns
  have hts := atoms_spec (ws := v_t_signAt) B.pre
  have hown : s.vm.findClass RX6 = some m.cls := findClass_of_methodNamed B.named
  have hlocks := B.notSynchronized
  have hP : va_P E.1 vwCl [(h, .inr (7, [.ref b1, .int (nI n)])), (b1, .inl (E.2.2.1, 320, .inl fb))] s.heap := hP
  have hl := lv_entry ([.ref h, .int p0]) (n := 2) (Nat.le_of_ble_eq_true rfl)
  rw [lg_entry_eq]
  generalize (lg_sl ([.ref h, .int p0]) ++ List.replicate (2 - (lg_sl ([.ref h, .int p0])).length) Slot.unset).toArray = ls at hl ⊢
  have hl : lv_has ls 2 [(0, .ref h), (1, .int p0)] := hl
  obtain ⟨Q, hQ⟩ : ∃ Q : State → Prop, Q = MQ below (vp_Si (fun r : Int32 => r = tpS n fb p0)) #[Value.ref h, Value.int p0] s 0 0 (fun _ => False) := ⟨_, rfl⟩
  rw [← hQ]
  change W p l e ({ frames := 0, cells := 0, slots := 0, locals := 0 } : Room) s m #[Value.ref h, Value.int p0] below meth c s.heap [] 0 0 Q (F0 m 0 ls [])
  refine lv_iload_n hx hb dX6_signAt_0 rfl (lv_at hl 1 rfl) ?_
  refine lv_if_lt (tgt := 32) hx hb dX6_signAt_1 (by decide) (fun c_1 => ?_) (fun c_1 => ?_)
  ·
    refine lv_iconst (v := -1) hx hb dX6_signAt_32 (by decide) ?_
    rw [hQ]
    exact W.iret (v := -1) hx hb hr (fun tt ht hW => ⟨_, rfl, by have t0 : (0 : Int32).toInt = 0 := (by decide); have t4 : (320 : Int32).toInt = 320 := (by decide); have tn := nI_toInt (n := n) (by omega); unfold tpS; split <;> first | rfl | (rename_i q9; exfalso; simp only [ge_iff_le, gt_iff_lt, Int32.lt_iff_toInt_lt, Int32.le_iff_toInt_le, t0, t4, tn] at q9 c_1; omega), ht⟩) (fun _ h => by cases h) dX6_signAt_33
  ·
    refine lv_iload_n hx hb dX6_signAt_4 rfl (lv_at hl 1 rfl) ?_
    refine lv_aload_n hx hb dX6_signAt_5 rfl (lv_at hl 0 rfl) ?_
    refine va_get (D := E.1) (ci := 7) (v := .int (nI n)) (C := RX6) (T := TX6) (N := 2) hx hb hts i_t_signAt_X6 hown hK hP 0 rfl rfl 1 (by decide) (hts (.fieldLink RX6 15 "HushWatch$Tape" "length" "I") (List.mem_of_getElem? (i := 1) rfl)) (fun _ h9 => h9) rfl dX6_signAt_6 ?_
    refine lv_icmp_ge (tgt := 32) hx hb dX6_signAt_9 (by decide) (fun c_2 => ?_) (fun c_2 => ?_)
    ·
      refine lv_iconst (v := -1) hx hb dX6_signAt_32 (by decide) ?_
      rw [hQ]
      exact W.iret (v := -1) hx hb hr (fun tt ht hW => ⟨_, rfl, by have t0 : (0 : Int32).toInt = 0 := (by decide); have t4 : (320 : Int32).toInt = 320 := (by decide); have tn := nI_toInt (n := n) (by omega); unfold tpS; split <;> first | rfl | (rename_i q9; exfalso; simp only [ge_iff_le, gt_iff_lt, Int32.lt_iff_toInt_lt, Int32.le_iff_toInt_le, t0, t4, tn] at q9 c_1 c_2; omega), ht⟩) (fun _ h => by cases h) dX6_signAt_33
    ·
      refine lv_iload_n hx hb dX6_signAt_12 rfl (lv_at hl 1 rfl) ?_
      refine lv_sipush (v := 320) hx hb dX6_signAt_13 (by decide) ?_
      refine lv_icmp_ge (tgt := 32) hx hb dX6_signAt_16 (by decide) (fun c_3 => ?_) (fun c_3 => ?_)
      ·
        refine lv_iconst (v := -1) hx hb dX6_signAt_32 (by decide) ?_
        rw [hQ]
        exact W.iret (v := -1) hx hb hr (fun tt ht hW => ⟨_, rfl, by have t0 : (0 : Int32).toInt = 0 := (by decide); have t4 : (320 : Int32).toInt = 320 := (by decide); have tn := nI_toInt (n := n) (by omega); unfold tpS; split <;> first | rfl | (rename_i q9; exfalso; simp only [ge_iff_le, gt_iff_lt, Int32.lt_iff_toInt_lt, Int32.le_iff_toInt_le, t0, t4, tn] at q9 c_1 c_2 c_3; omega), ht⟩) (fun _ h => by cases h) dX6_signAt_33
      ·
        obtain ⟨j_4, hj_4, ej_4⟩ : ∃ j : Nat, j ≤ 319 ∧ p0 = nI j := nat_rng (by have t0 : (0 : Int32).toInt = 0 := (by decide); have t1 : (319 : Int32).toInt = 319 := (by decide); have t2 : (320 : Int32).toInt = 320 := (by decide); simp only [Int32.lt_iff_toInt_lt, Int32.le_iff_toInt_le, ge_iff_le, gt_iff_lt, ne_eq, ← Int32.toInt_inj, t0, t1, t2] at c_1 c_3 ⊢; omega)
        refine lv_aload_n hx hb dX6_signAt_19 rfl (lv_at hl 0 rfl) ?_
        refine va_get (D := E.1) (ci := 7) (v := .ref b1) (C := RX6) (T := TX6) (N := 2) hx hb hts i_t_signAt_X6 hown hK hP 0 rfl rfl 0 (by decide) (hts (.fieldLink RX6 11 "HushWatch$Tape" "bytes" "[B") (List.mem_of_getElem? (i := 2) rfl)) (fun _ h9 => h9) rfl dX6_signAt_20 ?_
        refine lv_iload_n hx hb dX6_signAt_23 rfl (lv_at hl 1 rfl) ?_
        refine W.eq (g2 := F0 m 24 ls [.int (nI j_4), .ref b1]) (by rw [ej_4]) ?_
        refine va_bald hx hb hK hP 1 1 rfl rfl (vp_in_nI (by omega) (by decide)) dX6_signAt_24 ?_
        refine lv_topi (fun z_5 ez_5 => ?_)
        refine lv_sipush (v := 255) hx hb dX6_signAt_25 (by decide) ?_
        refine lv_iand hx hb dX6_signAt_28 ?_
        refine lv_topi (fun z_6 ez_6 => ?_)
        refine lv_goto (tgt := 33) hx hb dX6_signAt_29 (by decide) ?_
        rw [hQ]
        exact W.iret (v := z_6) hx hb hr (fun tt ht hW => ⟨_, rfl, by unfold tpS; rw [if_pos (by have t0 : (0 : Int32).toInt = 0 := (by decide); have tn := nI_toInt (n := n) (by omega); simp only [ge_iff_le, gt_iff_lt, Int32.lt_iff_toInt_lt, Int32.le_iff_toInt_le, t0, tn] at c_1 c_2 c_3 ⊢; omega)]; rw [ez_6, ez_5, ej_4], ht⟩) (fun _ h => by cases h) dX6_signAt_33

def v_t_cutYes : List Cond := .code yX6_cutTo cX6_cutTo 2 (some .boolean) :: ([.fieldLink RX6 15 "HushWatch$Tape" "length" "I"] ++ (wsX60 ++ ([])))
theorem gw_t_cutYes : v_t_cutYes.all goodWord = true := by decide +kernel
theorem i_t_cutYes_X6 : ∀ w ∈ wsX60, w ∈ v_t_cutYes := fun _ h => List.mem_cons_of_mem _ (List.mem_append_right _ (List.mem_append_left _ h))
set_option maxHeartbeats 4000000 in
set_option maxRecDepth 100000 in
theorem t_cutYes (l : Launch) (E : EE) (sz : Nat) (h b1 n : Nat) (j : Nat) (hj : j ≤ n) (hn : n ≤ 320) : Met l yX6_cutTo v_t_cutYes ({ frames := 0, cells := 0, slots := 0, locals := 0 }) (va_Pc [.ref h, .int (nI j)] (pW E sz [(h, .inr (7, [.ref b1, .int (nI n)]))])) (va_Qi (fun (r : Int32) (_u : Unit) => (r = 1)) (fun (_u : Unit) tt => va_P E.1 vwCl [(h, .inr (7, [.ref b1, .int (nI j)]))] tt.heap ∧ va_D (va_A [(h, .inr (7, [.ref b1, .int (nI n)]))] sz) [(h, .inr (7, [.ref b1, .int (nI j)]))]) (va_A [(h, .inr (7, [.ref b1, .int (nI n)]))] sz)) 0 0 (va_A [(h, .inr (7, [.ref b1, .int (nI n)]))] sz) := by
  refine Met.ofW (cc := cX6_cutTo) (maxL := 2) (ret := (some .boolean)) (by decide) rfl ?_
  intro p e s m args below meth c s₁ B hml hv
  obtain ⟨rfl, hsz, ⟨hK, hN⟩, hP, hD0⟩ := hv
  have hx := B.exec
  have hb := B.bytes
  have hr := B.returns
  have hts := atoms_spec (ws := v_t_cutYes) B.pre
  have hown : s.vm.findClass RX6 = some m.cls := findClass_of_methodNamed B.named
  have hlocks := B.notSynchronized
  subst hsz
  have hD := hD0.self (sz := s.heap.size)
  generalize hAe : va_A [(h, .inr (7, [.ref b1, .int (nI n)]))] s.heap.size = A at hD ⊢
  have hA : ∀ q : Nat, s.heap.size ≤ q → A q := fun q h => by rw [← hAe]; exact Or.inr h
  have hS : va_S A s.heap s.heap [] := va_S.rf
  have hP : va_P E.1 vwCl [(h, .inr (7, [.ref b1, .int (nI n)]))] s.heap := hP
  have hl := lv_entry ([.ref h, .int (nI j)]) (n := 2) (Nat.le_of_ble_eq_true rfl)
  rw [lg_entry_eq]
  generalize (lg_sl ([.ref h, .int (nI j)]) ++ List.replicate (2 - (lg_sl ([.ref h, .int (nI j)])).length) Slot.unset).toArray = ls at hl ⊢
  have hl : lv_has ls 2 [(0, .ref h), (1, .int (nI j))] := hl
  obtain ⟨Q, hQ⟩ : ∃ Q : State → Prop, Q = MQ below (va_Qi (fun (r : Int32) (_u : Unit) => (r = 1)) (fun (_u : Unit) tt => va_P E.1 vwCl [(h, .inr (7, [.ref b1, .int (nI j)]))] tt.heap ∧ va_D A [(h, .inr (7, [.ref b1, .int (nI j)]))]) A) #[Value.ref h, Value.int (nI j)] s 0 0 A := ⟨_, rfl⟩
  rw [← hQ]
  change W p l e ({ frames := 0, cells := 0, slots := 0, locals := 0 } : Room) s m #[Value.ref h, Value.int (nI j)] below meth c s.heap [] 0 0 Q (F0 m 0 ls [])
  refine lv_iload_n hx hb dX6_cutTo_0 rfl (lv_at hl 1 rfl) ?_
  refine lv_if_lt (tgt := 12) hx hb dX6_cutTo_1 (by decide) (fun c_1 => ?_) (fun c_1 => ?_)
  ·
    have d_2 : j < 0 := nc_lt (a := j) (b := 0) (by omega) (by omega) c_1
    exfalso; omega
  ·
    have d_3 : ¬ (j < 0) := nc_lt_n (a := j) (b := 0) (by omega) (by omega) c_1
    refine lv_iload_n hx hb dX6_cutTo_4 rfl (lv_at hl 1 rfl) ?_
    refine lv_aload_n hx hb dX6_cutTo_5 rfl (lv_at hl 0 rfl) ?_
    refine va_get (D := E.1) (ci := 7) (v := .int (nI n)) (C := RX6) (T := TX6) (N := 2) hx hb hts i_t_cutYes_X6 hown hK hP 0 rfl rfl 1 (by decide) (hts (.fieldLink RX6 15 "HushWatch$Tape" "length" "I") (List.mem_of_getElem? (i := 1) rfl)) (fun _ h9 => h9) rfl dX6_cutTo_6 ?_
    refine lv_icmp_le (tgt := 14) hx hb dX6_cutTo_9 (by decide) (fun c_4 => ?_) (fun c_4 => ?_)
    ·
      have d_5 : j ≤ n := nc_le (a := j) (b := n) (by omega) (by omega) c_4
      refine lv_aload_n hx hb dX6_cutTo_14 rfl (lv_at hl 0 rfl) ?_
      refine lv_iload_n hx hb dX6_cutTo_15 rfl (lv_at hl 1 rfl) ?_
      refine va_put (D := E.1) (ci := 7) (v := .int (nI j)) (ty := .int) (C := RX6) (T := TX6) (N := 2) hx hb hts i_t_cutYes_X6 tyX6 tyX6_ok nmX6 hown hK hP hD hS 0 rfl rfl 1 (by decide) (hts (.fieldLink RX6 15 "HushWatch$Tape" "length" "I") (List.mem_of_getElem? (i := 1) rfl)) (fun _ h9 => h9) rfl (by decide +kernel) rfl rfl (Nat.le_of_ble_eq_true rfl) dX6_cutTo_16 (fun H locs hP hD hS => ?_)
      have hP : va_P E.1 vwCl [(h, .inr (7, [.ref b1, .int (nI j)]))] H := hP
      have hD : va_D A [(h, .inr (7, [.ref b1, .int (nI j)]))] := hD
      refine lv_iconst (v := 1) hx hb dX6_cutTo_19 (by decide) ?_
      rw [hQ]
      have hP9 := hP.sub (ws' := [(h, .inr (7, [.ref b1, .int (nI j)]))]) [0] rfl
      have hD9 := hD.sub (ws' := [(h, .inr (7, [.ref b1, .int (nI j)]))]) [0] (by decide) rfl
      exact W.zret (v := 1) hx hb hr rfl (fun tt ht hW => ⟨⟨_, (), rfl, rfl, by rw [ht]; exact hP9, hD9⟩, hS.F ht⟩) hS.2.2 dX6_cutTo_20
    ·
      have d_6 : ¬ (j ≤ n) := nc_le_n (a := j) (b := n) (by omega) (by omega) c_4
      exfalso; omega

def v_t_cutNo : List Cond := .code yX6_cutTo cX6_cutTo 2 (some .boolean) :: ([.fieldLink RX6 15 "HushWatch$Tape" "length" "I"] ++ (wsX60 ++ ([])))
theorem gw_t_cutNo : v_t_cutNo.all goodWord = true := by decide +kernel
theorem i_t_cutNo_X6 : ∀ w ∈ wsX60, w ∈ v_t_cutNo := fun _ h => List.mem_cons_of_mem _ (List.mem_append_right _ (List.mem_append_left _ h))
set_option maxHeartbeats 4000000 in
set_option maxRecDepth 100000 in
theorem t_cutNo (l : Launch) (E : EE) (h b1 n : Nat) (p0 : Int32) (hno : ¬ (0 ≤ p0 ∧ p0 ≤ nI n)) (hn : n ≤ 320) : Met l yX6_cutTo v_t_cutNo ({ frames := 0, cells := 0, slots := 0, locals := 0 }) (va_Pc [.ref h, .int p0] (pP E [(h, .inr (7, [.ref b1, .int (nI n)]))])) (vp_Si (fun r : Int32 => r = 0)) 0 0 (fun _ => False) := by
  refine Met.ofW (cc := cX6_cutTo) (maxL := 2) (ret := (some .boolean)) (by decide) rfl ?_
  intro p e s m args below meth c s₁ B hml hv
  obtain ⟨rfl, ⟨hK, hN⟩, hP⟩ := hv
  have hx := B.exec
  have hb := B.bytes
  have hr := B.returns
  have hts := atoms_spec (ws := v_t_cutNo) B.pre
  have hown : s.vm.findClass RX6 = some m.cls := findClass_of_methodNamed B.named
  have hlocks := B.notSynchronized
  have hP : va_P E.1 vwCl [(h, .inr (7, [.ref b1, .int (nI n)]))] s.heap := hP
  have hl := lv_entry ([.ref h, .int p0]) (n := 2) (Nat.le_of_ble_eq_true rfl)
  rw [lg_entry_eq]
  generalize (lg_sl ([.ref h, .int p0]) ++ List.replicate (2 - (lg_sl ([.ref h, .int p0])).length) Slot.unset).toArray = ls at hl ⊢
  have hl : lv_has ls 2 [(0, .ref h), (1, .int p0)] := hl
  obtain ⟨Q, hQ⟩ : ∃ Q : State → Prop, Q = MQ below (vp_Si (fun r : Int32 => r = 0)) #[Value.ref h, Value.int p0] s 0 0 (fun _ => False) := ⟨_, rfl⟩
  rw [← hQ]
  change W p l e ({ frames := 0, cells := 0, slots := 0, locals := 0 } : Room) s m #[Value.ref h, Value.int p0] below meth c s.heap [] 0 0 Q (F0 m 0 ls [])
  refine lv_iload_n hx hb dX6_cutTo_0 rfl (lv_at hl 1 rfl) ?_
  refine lv_if_lt (tgt := 12) hx hb dX6_cutTo_1 (by decide) (fun c_1 => ?_) (fun c_1 => ?_)
  ·
    refine lv_iconst (v := 0) hx hb dX6_cutTo_12 (by decide) ?_
    rw [hQ]
    exact W.zret (v := 0) hx hb hr rfl (fun tt ht hW => ⟨_, rfl, rfl, ht⟩) (fun _ h => by cases h) dX6_cutTo_13
  ·
    refine lv_iload_n hx hb dX6_cutTo_4 rfl (lv_at hl 1 rfl) ?_
    refine lv_aload_n hx hb dX6_cutTo_5 rfl (lv_at hl 0 rfl) ?_
    refine va_get (D := E.1) (ci := 7) (v := .int (nI n)) (C := RX6) (T := TX6) (N := 2) hx hb hts i_t_cutNo_X6 hown hK hP 0 rfl rfl 1 (by decide) (hts (.fieldLink RX6 15 "HushWatch$Tape" "length" "I") (List.mem_of_getElem? (i := 1) rfl)) (fun _ h9 => h9) rfl dX6_cutTo_6 ?_
    refine lv_icmp_le (tgt := 14) hx hb dX6_cutTo_9 (by decide) (fun c_2 => ?_) (fun c_2 => ?_)
    ·
      exfalso; have t0 : (0 : Int32).toInt = 0 := (by decide); have tn := nI_toInt (n := n) (by omega); simp only [ge_iff_le, gt_iff_lt, Int32.lt_iff_toInt_lt, Int32.le_iff_toInt_le, t0, tn] at hno c_1 c_2; omega
    ·
      refine lv_iconst (v := 0) hx hb dX6_cutTo_12 (by decide) ?_
      rw [hQ]
      exact W.zret (v := 0) hx hb hr rfl (fun tt ht hW => ⟨_, rfl, rfl, ht⟩) (fun _ h => by cases h) dX6_cutTo_13
