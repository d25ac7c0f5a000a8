theorem dX3_isAtEnd_0 : decode cX3_isAtEnd 0 = .ok (.aload_n 0, 1) := by decide +kernel
theorem dX3_isAtEnd_1 : decode cX3_isAtEnd 1 = .ok (.invokevirtual 140, 3) := by decide +kernel
theorem dX3_isAtEnd_4 : decode cX3_isAtEnd 4 = .ok (.aload_n 0, 1) := by decide +kernel
theorem dX3_isAtEnd_5 : decode cX3_isAtEnd 5 = .ok (.getfield 31, 3) := by decide +kernel
theorem dX3_isAtEnd_8 : decode cX3_isAtEnd 8 = .ok (.aload_n 0, 1) := by decide +kernel
theorem dX3_isAtEnd_9 : decode cX3_isAtEnd 9 = .ok (.getfield 43, 3) := by decide +kernel
theorem dX3_isAtEnd_12 : decode cX3_isAtEnd 12 = .ok (.getfield 59, 3) := by decide +kernel
theorem dX3_isAtEnd_15 : decode cX3_isAtEnd 15 = .ok (.if_icmp .lt 7, 3) := by decide +kernel
theorem dX3_isAtEnd_22 : decode cX3_isAtEnd 22 = .ok (.iconst 0, 1) := by decide +kernel
theorem dX3_isAtEnd_23 : decode cX3_isAtEnd 23 = .ok (.ireturn, 1) := by decide +kernel
theorem dX3_isAtEnd_18 : decode cX3_isAtEnd 18 = .ok (.iconst 1, 1) := by decide +kernel
theorem dX3_isAtEnd_19 : decode cX3_isAtEnd 19 = .ok (.goto 4, 3) := by decide +kernel
theorem dX3_readSign_0 : decode cX3_readSign 0 = .ok (.aload_n 0, 1) := by decide +kernel
theorem dX3_readSign_1 : decode cX3_readSign 1 = .ok (.invokevirtual 140, 3) := by decide +kernel
theorem dX3_readSign_4 : decode cX3_readSign 4 = .ok (.aload_n 0, 1) := by decide +kernel
theorem dX3_readSign_5 : decode cX3_readSign 5 = .ok (.getfield 43, 3) := by decide +kernel
theorem dX3_readSign_8 : decode cX3_readSign 8 = .ok (.aload_n 0, 1) := by decide +kernel
theorem dX3_readSign_9 : decode cX3_readSign 9 = .ok (.getfield 31, 3) := by decide +kernel
theorem dX3_readSign_12 : decode cX3_readSign 12 = .ok (.invokevirtual 143, 3) := by decide +kernel
theorem dX3_readSign_15 : decode cX3_readSign 15 = .ok (.iload_n 1, 1) := by decide +kernel
theorem dX3_readSign_16 : decode cX3_readSign 16 = .ok (.if_icmp .eq 12, 3) := by decide +kernel
theorem dX3_readSign_28 : decode cX3_readSign 28 = .ok (.aload_n 0, 1) := by decide +kernel
theorem dX3_readSign_29 : decode cX3_readSign 29 = .ok (.dup, 1) := by decide +kernel
theorem dX3_readSign_30 : decode cX3_readSign 30 = .ok (.getfield 31, 3) := by decide +kernel
theorem dX3_readSign_33 : decode cX3_readSign 33 = .ok (.iconst 1, 1) := by decide +kernel
theorem dX3_readSign_34 : decode cX3_readSign 34 = .ok (.iadd, 1) := by decide +kernel
theorem dX3_readSign_35 : decode cX3_readSign 35 = .ok (.putfield 31, 3) := by decide +kernel
theorem dX3_readSign_38 : decode cX3_readSign 38 = .ok (.iconst 1, 1) := by decide +kernel
theorem dX3_readSign_39 : decode cX3_readSign 39 = .ok (.ireturn, 1) := by decide +kernel
theorem dX3_readSign_19 : decode cX3_readSign 19 = .ok (.aload_n 0, 1) := by decide +kernel
theorem dX3_readSign_20 : decode cX3_readSign 20 = .ok (.aload_n 0, 1) := by decide +kernel
theorem dX3_readSign_21 : decode cX3_readSign 21 = .ok (.getfield 31, 3) := by decide +kernel
theorem dX3_readSign_24 : decode cX3_readSign 24 = .ok (.invokevirtual 87, 3) := by decide +kernel
theorem dX3_readSign_27 : decode cX3_readSign 27 = .ok (.ireturn, 1) := by decide +kernel
theorem tpS_lt {n q : Nat} {fb : Nat → Int32} {p r : Int32} (h : r = tpS n fb (nI q)) (c : r = p) (hp : ¬ p = -1) (hq : q ≤ 320) (hn : n ≤ 320) : q < n := by
  unfold tpS at h
  split at h
  · rename_i z
    have a := z.2
    simp only [Int32.lt_iff_toInt_lt, nI_toInt (n := q) (by omega), nI_toInt (n := n) (by omega)] at a
    omega
  · exact absurd (c.symm.trans h) hp

def v_r_isAtEnd : List Cond := .code yX3_isAtEnd cX3_isAtEnd 1 (some .boolean) :: ([.fieldLink RX3 31 "HushWatch$Reader" "at" "I", .fieldLink RX3 43 "HushWatch$Reader" "tape" "LHushWatch$Tape;", .methodLink RX3 140 yX3_skipBlanks, .instanceMethod yX3_skipBlanks, .selects RX3 yX3_skipBlanks yX3_skipBlanks, .initialized RX3] ++ (v_r_skipBlanks ++ (wsX30 ++ (wsX60 ++ ([])))))
theorem gw_r_isAtEnd : v_r_isAtEnd.all goodWord = true := by decide +kernel
theorem i_r_isAtEnd_X3 : ∀ w ∈ wsX30, w ∈ v_r_isAtEnd := fun _ h => List.mem_cons_of_mem _ (List.mem_append_right _ (List.mem_append_right _ (List.mem_append_left _ h)))
theorem i_r_isAtEnd_X6 : ∀ w ∈ wsX60, w ∈ v_r_isAtEnd := fun _ h => List.mem_cons_of_mem _ (List.mem_append_right _ (List.mem_append_right _ (List.mem_append_right _ (List.mem_append_left _ h))))
theorem g_r_isAtEnd_r_skipBlanks_140 : GoodIn v_r_isAtEnd (wsV RX3 140 RX3 yX3_skipBlanks v_r_skipBlanks) := goodIn_app (goodIn_of _ (by decide +kernel)) (goodIn_sub (fun _ h => List.mem_cons_of_mem _ (List.mem_append_right _ (List.mem_append_left _ h))) gw_r_skipBlanks)
set_option maxHeartbeats 4000000 in
set_option maxRecDepth 100000 in
theorem r_isAtEnd (l : Launch) (E : EE) (sz : Nat) (h t r1 r2 r3 b1 n a0 : Nat) (y4 y5 y6 y8 y9 y10 : Int32) (fb : Nat → Int32) (hn : n ≤ 320) (ha0 : a0 ≤ 320) : Met l yX3_isAtEnd v_r_isAtEnd ({ frames := 2, cells := 0, slots := 0, locals := 41 }) (va_Pc [.ref h] (pW E sz [(h, .inr (4, [.ref t, .ref r1, .ref r2, .ref r3, .int y4, .int y5, .int y6, .int (nI a0), .int y8, .int y9, .int y10])), (t, .inr (7, [.ref b1, .int (nI n)])), (b1, .inl (E.2.2.1, 320, .inl fb))])) (va_Qi (fun (r : Int32) (a1 : Nat) => (r = if n ≤ sk n fb a0 then 1 else 0) ∧ a1 ≤ 320 ∧ a1 = sk n fb a0) (fun (a1 : Nat) tt => va_P E.1 vwCl [(h, .inr (4, [.ref t, .ref r1, .ref r2, .ref r3, .int y4, .int y5, .int y6, .int (nI a1), .int y8, .int y9, .int y10])), (t, .inr (7, [.ref b1, .int (nI n)])), (b1, .inl (E.2.2.1, 320, .inl fb))] tt.heap ∧ va_D (va_A [(h, .inr (4, [.ref t, .ref r1, .ref r2, .ref r3, .int y4, .int y5, .int y6, .int (nI a0), .int y8, .int y9, .int y10])), (t, .inr (7, [.ref b1, .int (nI n)])), (b1, .inl (E.2.2.1, 320, .inl fb))] sz) [(h, .inr (4, [.ref t, .ref r1, .ref r2, .ref r3, .int y4, .int y5, .int y6, .int (nI a1), .int y8, .int y9, .int y10])), (t, .inr (7, [.ref b1, .int (nI n)])), (b1, .inl (E.2.2.1, 320, .inl fb))]) (va_A [(h, .inr (4, [.ref t, .ref r1, .ref r2, .ref r3, .int y4, .int y5, .int y6, .int (nI a0), .int y8, .int y9, .int y10])), (t, .inr (7, [.ref b1, .int (nI n)])), (b1, .inl (E.2.2.1, 320, .inl fb))] sz)) 0 0 (va_A [(h, .inr (4, [.ref t, .ref r1, .ref r2, .ref r3, .int y4, .int y5, .int y6, .int (nI a0), .int y8, .int y9, .int y10])), (t, .inr (7, [.ref b1, .int (nI n)])), (b1, .inl (E.2.2.1, 320, .inl fb))] sz) := by
  refine Met.ofW (cc := cX3_isAtEnd) (maxL := 1) (ret := (some .boolean)) (by decide) rfl ?_
  intro p e s m args below meth c s₁ B hml hv
  obtain ⟨rfl, hsz, ⟨hK, hN⟩, hP, hD0⟩ := hv
  have hx := B.exec
  have hb := B.bytes
  have hr := B.returns
  have hts := atoms_spec (ws := v_r_isAtEnd) B.pre
  have hown : s.vm.findClass RX3 = some m.cls := findClass_of_methodNamed B.named
  have hlocks := B.notSynchronized
  subst hsz
  have hD := hD0.self (sz := s.heap.size)
  generalize hAe : va_A [(h, .inr (4, [.ref t, .ref r1, .ref r2, .ref r3, .int y4, .int y5, .int y6, .int (nI a0), .int y8, .int y9, .int y10])), (t, .inr (7, [.ref b1, .int (nI n)])), (b1, .inl (E.2.2.1, 320, .inl fb))] s.heap.size = A at hD ⊢
  have hA : ∀ q : Nat, s.heap.size ≤ q → A q := fun q h => by rw [← hAe]; exact Or.inr h
  have hS : va_S A s.heap s.heap [] := va_S.rf
  have hP : va_P E.1 vwCl [(h, .inr (4, [.ref t, .ref r1, .ref r2, .ref r3, .int y4, .int y5, .int y6, .int (nI a0), .int y8, .int y9, .int y10])), (t, .inr (7, [.ref b1, .int (nI n)])), (b1, .inl (E.2.2.1, 320, .inl fb))] s.heap := hP
  have hl := lv_entry ([.ref h]) (n := 1) (Nat.le_of_ble_eq_true rfl)
  rw [lg_entry_eq]
  generalize (lg_sl ([.ref h]) ++ List.replicate (1 - (lg_sl ([.ref h])).length) Slot.unset).toArray = ls at hl ⊢
  have hl : lv_has ls 1 [(0, .ref h)] := hl
  obtain ⟨Q, hQ⟩ : ∃ Q : State → Prop, Q = MQ below (va_Qi (fun (r : Int32) (a1 : Nat) => (r = if n ≤ sk n fb a0 then 1 else 0) ∧ a1 ≤ 320 ∧ a1 = sk n fb a0) (fun (a1 : Nat) tt => va_P E.1 vwCl [(h, .inr (4, [.ref t, .ref r1, .ref r2, .ref r3, .int y4, .int y5, .int y6, .int (nI a1), .int y8, .int y9, .int y10])), (t, .inr (7, [.ref b1, .int (nI n)])), (b1, .inl (E.2.2.1, 320, .inl fb))] tt.heap ∧ va_D A [(h, .inr (4, [.ref t, .ref r1, .ref r2, .ref r3, .int y4, .int y5, .int y6, .int (nI a1), .int y8, .int y9, .int y10])), (t, .inr (7, [.ref b1, .int (nI n)])), (b1, .inl (E.2.2.1, 320, .inl fb))]) A) #[Value.ref h] s 0 0 A := ⟨_, rfl⟩
  rw [← hQ]
  change W p l e ({ frames := 2, cells := 0, slots := 0, locals := 41 } : Room) s m #[Value.ref h] below meth c s.heap [] 0 0 Q (F0 m 0 ls [])
  refine lv_aload_n hx hb dX3_isAtEnd_0 rfl (lv_at hl 0 rfl) ?_
  have hPc := hP.sub (ws' := [(h, .inr (4, [.ref t, .ref r1, .ref r2, .ref r3, .int y4, .int y5, .int y6, .int (nI a0), .int y8, .int y9, .int y10])), (t, .inr (7, [.ref b1, .int (nI n)])), (b1, .inl (E.2.2.1, 320, .inl fb))]) [0, 1, 2] rfl
  have hDc := hD.sub (ws' := [(h, .inr (4, [.ref t, .ref r1, .ref r2, .ref r3, .int y4, .int y5, .int y6, .int (nI a0), .int y8, .int y9, .int y10])), (t, .inr (7, [.ref b1, .int (nI n)])), (b1, .inl (E.2.2.1, 320, .inl fb))]) [0, 1, 2] (by decide) rfl
  have hFc := va_free (wc := [(h, .inr (4, [.ref t, .ref r1, .ref r2, .ref r3, .int y4, .int y5, .int y6, .int (nI a0), .int y8, .int y9, .int y10])), (t, .inr (7, [.ref b1, .int (nI n)])), (b1, .inl (E.2.2.1, 320, .inl fb))]) hD hS hA [0, 1, 2] rfl
  refine va_callv (va_runV (As := []) (rest := []) ⟨hx, hb, hml, hown, hts⟩ (r_skipBlanks l E s.heap.size h t r1 r2 r3 b1 n a0 y4 y5 y6 y8 y9 y10 fb (by omega) (by omega)) (cwV 0 hts g_r_isAtEnd_r_skipBlanks_140 rfl rfl rfl (by decide +kernel) ⟨Nat.le_of_ble_eq_true rfl, Nat.le_of_ble_eq_true rfl⟩) ⟨pW.blind, va_recv hK hPc (ci := 4) (q0 := 0) rfl rfl, (pW.pre ⟨hK, hN⟩ hPc hDc)⟩ rfl rfl hl.1 rfl (lv_room (Nat.le_of_ble_eq_true rfl)) dX3_isAtEnd_1 ⟨Nat.le_of_ble_eq_true rfl, Nat.le_of_ble_eq_true rfl⟩) hS (fun q _ h => hFc q h) hFc (fun  u_1 tt H1 locs ht hvm hw hB hz1 hk1 hS => ?_)
  obtain ⟨hP1, hD1⟩ := hB
  rw [ht] at hP1
  obtain ⟨hP, hD⟩ := va_join (wr := []) (w1 := [(h, .inr (4, [.ref t, .ref r1, .ref r2, .ref r3, .int y4, .int y5, .int y6, .int (nI u_1), .int y8, .int y9, .int y10])), (t, .inr (7, [.ref b1, .int (nI n)])), (b1, .inl (E.2.2.1, 320, .inl fb))]) hP hD [0, 1, 2] [] rfl rfl (by decide) (by decide) hk1 hFc hP1 hD1
  generalize H1 = H at hP hS ⊢
  have hP : va_P E.1 vwCl [(h, .inr (4, [.ref t, .ref r1, .ref r2, .ref r3, .int y4, .int y5, .int y6, .int (nI u_1), .int y8, .int y9, .int y10])), (t, .inr (7, [.ref b1, .int (nI n)])), (b1, .inl (E.2.2.1, 320, .inl fb))] H := hP
  have hD : va_D A [(h, .inr (4, [.ref t, .ref r1, .ref r2, .ref r3, .int y4, .int y5, .int y6, .int (nI u_1), .int y8, .int y9, .int y10])), (t, .inr (7, [.ref b1, .int (nI n)])), (b1, .inl (E.2.2.1, 320, .inl fb))] := hD
  have hsw_2 := hw
  obtain ⟨kk_3, kk_4⟩ := hsw_2
  refine lv_aload_n hx hb dX3_isAtEnd_4 rfl (lv_at hl 0 rfl) ?_
  refine va_get (D := E.1) (ci := 4) (v := .int (nI u_1)) (C := RX3) (T := TX3) (N := 11) hx hb hts i_r_isAtEnd_X3 hown hK hP 0 rfl rfl 7 (by decide) (hts (.fieldLink RX3 31 "HushWatch$Reader" "at" "I") (List.mem_of_getElem? (i := 1) rfl)) (fun _ h9 => h9) rfl dX3_isAtEnd_5 ?_
  refine lv_aload_n hx hb dX3_isAtEnd_8 rfl (lv_at hl 0 rfl) ?_
  refine va_get (D := E.1) (ci := 4) (v := .ref t) (C := RX3) (T := TX3) (N := 11) hx hb hts i_r_isAtEnd_X3 hown hK hP 0 rfl rfl 0 (by decide) (hts (.fieldLink RX3 43 "HushWatch$Reader" "tape" "LHushWatch$Tape;") (List.mem_of_getElem? (i := 2) rfl)) (fun _ h9 => h9) rfl dX3_isAtEnd_9 ?_
  refine va_getN (D := E.1) (ci := 7) (v := .int (nI n)) (C := RX6) (T := TX6) (N := 2) hx hb hts i_r_isAtEnd_X6 hown hK hP 1 rfl rfl 1 (by decide) (nx hN 2 rfl) (fun _ h9 => h9) rfl dX3_isAtEnd_12 ?_
  refine lv_icmp_lt (tgt := 22) hx hb dX3_isAtEnd_15 (by decide) (fun c_5 => ?_) (fun c_5 => ?_)
  ·
    have d_6 : u_1 < n := nc_lt (a := u_1) (b := n) (by omega) (by omega) c_5
    refine lv_iconst (v := 0) hx hb dX3_isAtEnd_22 (by decide) ?_
    rw [hQ]
    have hP9 := hP.sub (ws' := [(h, .inr (4, [.ref t, .ref r1, .ref r2, .ref r3, .int y4, .int y5, .int y6, .int (nI u_1), .int y8, .int y9, .int y10])), (t, .inr (7, [.ref b1, .int (nI n)])), (b1, .inl (E.2.2.1, 320, .inl fb))]) [0, 1, 2] rfl
    have hD9 := hD.sub (ws' := [(h, .inr (4, [.ref t, .ref r1, .ref r2, .ref r3, .int y4, .int y5, .int y6, .int (nI u_1), .int y8, .int y9, .int y10])), (t, .inr (7, [.ref b1, .int (nI n)])), (b1, .inl (E.2.2.1, 320, .inl fb))]) [0, 1, 2] (by decide) rfl
    exact W.zret (v := 0) hx hb hr rfl (fun tt ht hW => ⟨⟨_, u_1, rfl, ⟨by rw [if_neg (by omega)], ⟨(by first | omega | (dsimp only; omega)), (by assumption)⟩⟩, by rw [ht]; exact hP9, hD9⟩, hS.F ht⟩) hS.2.2 dX3_isAtEnd_23
  ·
    have d_7 : ¬ (u_1 < n) := nc_lt_n (a := u_1) (b := n) (by omega) (by omega) c_5
    refine lv_iconst (v := 1) hx hb dX3_isAtEnd_18 (by decide) ?_
    refine lv_goto (tgt := 23) hx hb dX3_isAtEnd_19 (by decide) ?_
    rw [hQ]
    have hP9 := hP.sub (ws' := [(h, .inr (4, [.ref t, .ref r1, .ref r2, .ref r3, .int y4, .int y5, .int y6, .int (nI u_1), .int y8, .int y9, .int y10])), (t, .inr (7, [.ref b1, .int (nI n)])), (b1, .inl (E.2.2.1, 320, .inl fb))]) [0, 1, 2] rfl
    have hD9 := hD.sub (ws' := [(h, .inr (4, [.ref t, .ref r1, .ref r2, .ref r3, .int y4, .int y5, .int y6, .int (nI u_1), .int y8, .int y9, .int y10])), (t, .inr (7, [.ref b1, .int (nI n)])), (b1, .inl (E.2.2.1, 320, .inl fb))]) [0, 1, 2] (by decide) rfl
    exact W.zret (v := 1) hx hb hr rfl (fun tt ht hW => ⟨⟨_, u_1, rfl, ⟨by rw [if_pos (by omega)], ⟨(by first | omega | (dsimp only; omega)), (by assumption)⟩⟩, by rw [ht]; exact hP9, hD9⟩, hS.F ht⟩) hS.2.2 dX3_isAtEnd_23

def v_r_readSign : List Cond := .code yX3_readSign cX3_readSign 2 (some .boolean) :: ([.fieldLink RX3 43 "HushWatch$Reader" "tape" "LHushWatch$Tape;", .fieldLink RX3 31 "HushWatch$Reader" "at" "I", .methodLink RX3 140 yX3_skipBlanks, .instanceMethod yX3_skipBlanks, .selects RX3 yX3_skipBlanks yX3_skipBlanks, .initialized RX3, .methodLink RX3 143 yX6_signAt, .instanceMethod yX6_signAt, .selects RX6 yX6_signAt yX6_signAt, .initialized RX6, .methodLink RX3 87 yX3_failAt, .instanceMethod yX3_failAt, .selects RX3 yX3_failAt yX3_failAt] ++ (v_r_skipBlanks ++ (wsX30 ++ (v_t_signAt ++ (v_r_failAt ++ ([]))))))
theorem gw_r_readSign : v_r_readSign.all goodWord = true := by decide +kernel
theorem i_r_readSign_X3 : ∀ w ∈ wsX30, w ∈ v_r_readSign := fun _ h => List.mem_cons_of_mem _ (List.mem_append_right _ (List.mem_append_right _ (List.mem_append_left _ h)))
theorem g_r_readSign_r_skipBlanks_140 : GoodIn v_r_readSign (wsV RX3 140 RX3 yX3_skipBlanks v_r_skipBlanks) := goodIn_app (goodIn_of _ (by decide +kernel)) (goodIn_sub (fun _ h => List.mem_cons_of_mem _ (List.mem_append_right _ (List.mem_append_left _ h))) gw_r_skipBlanks)
theorem g_r_readSign_t_signAt_143 : GoodIn v_r_readSign (wsV RX3 143 RX6 yX6_signAt v_t_signAt) := goodIn_app (goodIn_of _ (by decide +kernel)) (goodIn_sub (fun _ h => List.mem_cons_of_mem _ (List.mem_append_right _ (List.mem_append_right _ (List.mem_append_right _ (List.mem_append_left _ h))))) gw_t_signAt)
theorem g_r_readSign_r_failAt_87 : GoodIn v_r_readSign (wsV RX3 87 RX3 yX3_failAt v_r_failAt) := goodIn_app (goodIn_of _ (by decide +kernel)) (goodIn_sub (fun _ h => List.mem_cons_of_mem _ (List.mem_append_right _ (List.mem_append_right _ (List.mem_append_right _ (List.mem_append_right _ (List.mem_append_left _ h)))))) gw_r_failAt)
set_option maxHeartbeats 4000000 in
set_option maxRecDepth 100000 in
theorem r_readSign (l : Launch) (E : EE) (sz : Nat) (h t r1 r2 r3 b1 n a0 : Nat) (y4 y5 y6 y8 y9 y10 : Int32) (fb : Nat → Int32) (p0 : Int32) (hn : n ≤ 320) (ha0 : a0 ≤ 320) (hp : ¬ p0 = -1) : Met l yX3_readSign v_r_readSign ({ frames := 2, cells := 0, slots := 0, locals := 41 }) (va_Pc [.ref h, .int p0] (pW E sz [(h, .inr (4, [.ref t, .ref r1, .ref r2, .ref r3, .int y4, .int y5, .int y6, .int (nI a0), .int y8, .int y9, .int y10])), (t, .inr (7, [.ref b1, .int (nI n)])), (b1, .inl (E.2.2.1, 320, .inl fb))])) (va_Qi (fun (r : Int32) (u_ : (Nat) × (Int32)) => (r = if tpS n fb (nI (sk n fb a0)) = p0 then 1 else 0) ∧ u_.1 ≤ 320 ∧ u_.1 = (if tpS n fb (nI (sk n fb a0)) = p0 then sk n fb a0 + 1 else sk n fb a0) ∧ u_.2 = (if tpS n fb (nI (sk n fb a0)) = p0 then y10 else nI (sk n fb a0))) (fun (u_ : (Nat) × (Int32)) tt => va_P E.1 vwCl [(h, .inr (4, [.ref t, .ref r1, .ref r2, .ref r3, .int y4, .int y5, .int y6, .int (nI u_.1), .int y8, .int y9, .int u_.2])), (t, .inr (7, [.ref b1, .int (nI n)])), (b1, .inl (E.2.2.1, 320, .inl fb))] tt.heap ∧ va_D (va_A [(h, .inr (4, [.ref t, .ref r1, .ref r2, .ref r3, .int y4, .int y5, .int y6, .int (nI a0), .int y8, .int y9, .int y10])), (t, .inr (7, [.ref b1, .int (nI n)])), (b1, .inl (E.2.2.1, 320, .inl fb))] sz) [(h, .inr (4, [.ref t, .ref r1, .ref r2, .ref r3, .int y4, .int y5, .int y6, .int (nI u_.1), .int y8, .int y9, .int u_.2])), (t, .inr (7, [.ref b1, .int (nI n)])), (b1, .inl (E.2.2.1, 320, .inl fb))]) (va_A [(h, .inr (4, [.ref t, .ref r1, .ref r2, .ref r3, .int y4, .int y5, .int y6, .int (nI a0), .int y8, .int y9, .int y10])), (t, .inr (7, [.ref b1, .int (nI n)])), (b1, .inl (E.2.2.1, 320, .inl fb))] sz)) 0 0 (va_A [(h, .inr (4, [.ref t, .ref r1, .ref r2, .ref r3, .int y4, .int y5, .int y6, .int (nI a0), .int y8, .int y9, .int y10])), (t, .inr (7, [.ref b1, .int (nI n)])), (b1, .inl (E.2.2.1, 320, .inl fb))] sz) := by
  refine Met.ofW (cc := cX3_readSign) (maxL := 2) (ret := (some .boolean)) (by decide) rfl ?_
  intro p e s m args below meth c s₁ B hml hv
  obtain ⟨rfl, hsz, ⟨hK, hN⟩, hP, hD0⟩ := hv
  have hx := B.exec
  have hb := B.bytes
  have hr := B.returns
  have hts := atoms_spec (ws := v_r_readSign) B.pre
  have hown : s.vm.findClass RX3 = some m.cls := findClass_of_methodNamed B.named
  have hlocks := B.notSynchronized
  subst hsz
  have hD := hD0.self (sz := s.heap.size)
  generalize hAe : va_A [(h, .inr (4, [.ref t, .ref r1, .ref r2, .ref r3, .int y4, .int y5, .int y6, .int (nI a0), .int y8, .int y9, .int y10])), (t, .inr (7, [.ref b1, .int (nI n)])), (b1, .inl (E.2.2.1, 320, .inl fb))] s.heap.size = A at hD ⊢
  have hA : ∀ q : Nat, s.heap.size ≤ q → A q := fun q h => by rw [← hAe]; exact Or.inr h
  have hS : va_S A s.heap s.heap [] := va_S.rf
  have hP : va_P E.1 vwCl [(h, .inr (4, [.ref t, .ref r1, .ref r2, .ref r3, .int y4, .int y5, .int y6, .int (nI a0), .int y8, .int y9, .int y10])), (t, .inr (7, [.ref b1, .int (nI n)])), (b1, .inl (E.2.2.1, 320, .inl fb))] s.heap := hP
  have hl := lv_entry ([.ref h, .int p0]) (n := 2) (Nat.le_of_ble_eq_true rfl)
  rw [lg_entry_eq]
  generalize (lg_sl ([.ref h, .int p0]) ++ List.replicate (2 - (lg_sl ([.ref h, .int p0])).length) Slot.unset).toArray = ls at hl ⊢
  have hl : lv_has ls 2 [(0, .ref h), (1, .int p0)] := hl
  obtain ⟨Q, hQ⟩ : ∃ Q : State → Prop, Q = MQ below (va_Qi (fun (r : Int32) (u_ : (Nat) × (Int32)) => (r = if tpS n fb (nI (sk n fb a0)) = p0 then 1 else 0) ∧ u_.1 ≤ 320 ∧ u_.1 = (if tpS n fb (nI (sk n fb a0)) = p0 then sk n fb a0 + 1 else sk n fb a0) ∧ u_.2 = (if tpS n fb (nI (sk n fb a0)) = p0 then y10 else nI (sk n fb a0))) (fun (u_ : (Nat) × (Int32)) tt => va_P E.1 vwCl [(h, .inr (4, [.ref t, .ref r1, .ref r2, .ref r3, .int y4, .int y5, .int y6, .int (nI u_.1), .int y8, .int y9, .int u_.2])), (t, .inr (7, [.ref b1, .int (nI n)])), (b1, .inl (E.2.2.1, 320, .inl fb))] tt.heap ∧ va_D A [(h, .inr (4, [.ref t, .ref r1, .ref r2, .ref r3, .int y4, .int y5, .int y6, .int (nI u_.1), .int y8, .int y9, .int u_.2])), (t, .inr (7, [.ref b1, .int (nI n)])), (b1, .inl (E.2.2.1, 320, .inl fb))]) A) #[Value.ref h, Value.int p0] s 0 0 A := ⟨_, rfl⟩
  rw [← hQ]
  change W p l e ({ frames := 2, cells := 0, slots := 0, locals := 41 } : Room) s m #[Value.ref h, Value.int p0] below meth c s.heap [] 0 0 Q (F0 m 0 ls [])
  refine lv_aload_n hx hb dX3_readSign_0 rfl (lv_at hl 0 rfl) ?_
  have hPc := hP.sub (ws' := [(h, .inr (4, [.ref t, .ref r1, .ref r2, .ref r3, .int y4, .int y5, .int y6, .int (nI a0), .int y8, .int y9, .int y10])), (t, .inr (7, [.ref b1, .int (nI n)])), (b1, .inl (E.2.2.1, 320, .inl fb))]) [0, 1, 2] rfl
  have hDc := hD.sub (ws' := [(h, .inr (4, [.ref t, .ref r1, .ref r2, .ref r3, .int y4, .int y5, .int y6, .int (nI a0), .int y8, .int y9, .int y10])), (t, .inr (7, [.ref b1, .int (nI n)])), (b1, .inl (E.2.2.1, 320, .inl fb))]) [0, 1, 2] (by decide) rfl
  have hFc := va_free (wc := [(h, .inr (4, [.ref t, .ref r1, .ref r2, .ref r3, .int y4, .int y5, .int y6, .int (nI a0), .int y8, .int y9, .int y10])), (t, .inr (7, [.ref b1, .int (nI n)])), (b1, .inl (E.2.2.1, 320, .inl fb))]) hD hS hA [0, 1, 2] rfl
  refine va_callv (va_runV (As := []) (rest := []) ⟨hx, hb, hml, hown, hts⟩ (r_skipBlanks l E s.heap.size h t r1 r2 r3 b1 n a0 y4 y5 y6 y8 y9 y10 fb (by omega) (by omega)) (cwV 0 hts g_r_readSign_r_skipBlanks_140 rfl rfl rfl (by decide +kernel) ⟨Nat.le_of_ble_eq_true rfl, Nat.le_of_ble_eq_true rfl⟩) ⟨pW.blind, va_recv hK hPc (ci := 4) (q0 := 0) rfl rfl, (pW.pre ⟨hK, hN⟩ hPc hDc)⟩ rfl rfl hl.1 rfl (lv_room (Nat.le_of_ble_eq_true rfl)) dX3_readSign_1 ⟨Nat.le_of_ble_eq_true rfl, Nat.le_of_ble_eq_true rfl⟩) hS (fun q _ h => hFc q h) hFc (fun  u_1 tt H1 locs ht hvm hw hB hz1 hk1 hS => ?_)
  obtain ⟨hP1, hD1⟩ := hB
  rw [ht] at hP1
  obtain ⟨hP, hD⟩ := va_join (wr := []) (w1 := [(h, .inr (4, [.ref t, .ref r1, .ref r2, .ref r3, .int y4, .int y5, .int y6, .int (nI u_1), .int y8, .int y9, .int y10])), (t, .inr (7, [.ref b1, .int (nI n)])), (b1, .inl (E.2.2.1, 320, .inl fb))]) hP hD [0, 1, 2] [] rfl rfl (by decide) (by decide) hk1 hFc hP1 hD1
  generalize H1 = H at hP hS ⊢
  have hP : va_P E.1 vwCl [(h, .inr (4, [.ref t, .ref r1, .ref r2, .ref r3, .int y4, .int y5, .int y6, .int (nI u_1), .int y8, .int y9, .int y10])), (t, .inr (7, [.ref b1, .int (nI n)])), (b1, .inl (E.2.2.1, 320, .inl fb))] H := hP
  have hD : va_D A [(h, .inr (4, [.ref t, .ref r1, .ref r2, .ref r3, .int y4, .int y5, .int y6, .int (nI u_1), .int y8, .int y9, .int y10])), (t, .inr (7, [.ref b1, .int (nI n)])), (b1, .inl (E.2.2.1, 320, .inl fb))] := hD
  have hsw_2 := hw
  obtain ⟨kk_3, kk_4⟩ := hsw_2
  refine lv_aload_n hx hb dX3_readSign_4 rfl (lv_at hl 0 rfl) ?_
  refine va_get (D := E.1) (ci := 4) (v := .ref t) (C := RX3) (T := TX3) (N := 11) hx hb hts i_r_readSign_X3 hown hK hP 0 rfl rfl 0 (by decide) (hts (.fieldLink RX3 43 "HushWatch$Reader" "tape" "LHushWatch$Tape;") (List.mem_of_getElem? (i := 1) rfl)) (fun _ h9 => h9) rfl dX3_readSign_5 ?_
  refine lv_aload_n hx hb dX3_readSign_8 rfl (lv_at hl 0 rfl) ?_
  refine va_get (D := E.1) (ci := 4) (v := .int (nI u_1)) (C := RX3) (T := TX3) (N := 11) hx hb hts i_r_readSign_X3 hown hK hP 0 rfl rfl 7 (by decide) (hts (.fieldLink RX3 31 "HushWatch$Reader" "at" "I") (List.mem_of_getElem? (i := 2) rfl)) (fun _ h9 => h9) rfl dX3_readSign_9 ?_
  have hPc := hP.sub (ws' := [(t, .inr (7, [.ref b1, .int (nI n)])), (b1, .inl (E.2.2.1, 320, .inl fb))]) [1, 2] rfl
  refine pc_i (va_runV (As := [.int (nI u_1)]) (rest := []) ⟨hx, hb, hml, hown, hts⟩ (t_signAt l E t b1 n fb (nI u_1) (by omega)) (cwV 1 hts g_r_readSign_t_signAt_143 rfl rfl rfl (by decide +kernel) ⟨Nat.le_of_ble_eq_true rfl, Nat.le_of_ble_eq_true rfl⟩) ⟨pP.blind, va_recv hK hPc (ci := 7) (q0 := 0) rfl rfl, (pP.pre ⟨hK, hN⟩ hPc)⟩ rfl rfl hl.1 rfl (lv_room (Nat.le_of_ble_eq_true rfl)) dX3_readSign_12 ⟨Nat.le_of_ble_eq_true rfl, Nat.le_of_ble_eq_true rfl⟩) (fun r_5 hr_5 => ?_)
  refine lv_iload_n hx hb dX3_readSign_15 rfl (lv_at hl 1 rfl) ?_
  refine lv_icmp_eq (tgt := 28) hx hb dX3_readSign_16 (by decide) (fun c_6 => ?_) (fun c_6 => ?_)
  ·
    have hlt : u_1 < n := tpS_lt hr_5 c_6 hp (by omega) hn
    refine lv_aload_n hx hb dX3_readSign_28 rfl (lv_at hl 0 rfl) ?_
    refine lv_dup hx hb dX3_readSign_29 rfl ?_
    refine va_get (D := E.1) (ci := 4) (v := .int (nI u_1)) (C := RX3) (T := TX3) (N := 11) hx hb hts i_r_readSign_X3 hown hK hP 0 rfl rfl 7 (by decide) (hts (.fieldLink RX3 31 "HushWatch$Reader" "at" "I") (List.mem_of_getElem? (i := 2) rfl)) (fun _ h9 => h9) rfl dX3_readSign_30 ?_
    refine lv_iconst (v := 1) hx hb dX3_readSign_33 (by decide) ?_
    refine lv_iadd hx hb dX3_readSign_34 ?_
    refine lv_topi (fun z_7 ez_7 => ?_)
    obtain rfl : z_7 = nI (u_1 + 1) := ez_7.trans (nI_add _ 1)
    refine va_put (D := E.1) (ci := 4) (v := .int (nI (u_1 + 1))) (ty := .int) (C := RX3) (T := TX3) (N := 11) hx hb hts i_r_readSign_X3 tyX3 tyX3_ok nmX3 hown hK hP hD hS 0 rfl rfl 7 (by decide) (hts (.fieldLink RX3 31 "HushWatch$Reader" "at" "I") (List.mem_of_getElem? (i := 2) rfl)) (fun _ h9 => h9) rfl (by decide +kernel) rfl rfl (Nat.le_of_ble_eq_true rfl) dX3_readSign_35 (fun H locs hP hD hS => ?_)
    have hP : va_P E.1 vwCl [(h, .inr (4, [.ref t, .ref r1, .ref r2, .ref r3, .int y4, .int y5, .int y6, .int (nI (u_1 + 1)), .int y8, .int y9, .int y10])), (t, .inr (7, [.ref b1, .int (nI n)])), (b1, .inl (E.2.2.1, 320, .inl fb))] H := hP
    have hD : va_D A [(h, .inr (4, [.ref t, .ref r1, .ref r2, .ref r3, .int y4, .int y5, .int y6, .int (nI (u_1 + 1)), .int y8, .int y9, .int y10])), (t, .inr (7, [.ref b1, .int (nI n)])), (b1, .inl (E.2.2.1, 320, .inl fb))] := hD
    refine lv_iconst (v := 1) hx hb dX3_readSign_38 (by decide) ?_
    rw [hQ]
    have hP9 := hP.sub (ws' := [(h, .inr (4, [.ref t, .ref r1, .ref r2, .ref r3, .int y4, .int y5, .int y6, .int (nI (u_1 + 1)), .int y8, .int y9, .int y10])), (t, .inr (7, [.ref b1, .int (nI n)])), (b1, .inl (E.2.2.1, 320, .inl fb))]) [0, 1, 2] rfl
    have hD9 := hD.sub (ws' := [(h, .inr (4, [.ref t, .ref r1, .ref r2, .ref r3, .int y4, .int y5, .int y6, .int (nI (u_1 + 1)), .int y8, .int y9, .int y10])), (t, .inr (7, [.ref b1, .int (nI n)])), (b1, .inl (E.2.2.1, 320, .inl fb))]) [0, 1, 2] (by decide) rfl
    exact W.zret (v := 1) hx hb hr rfl (fun tt ht hW => ⟨⟨_, ((u_1 + 1), y10), rfl, ⟨by rw [← (by assumption : u_1 = sk n fb a0), if_pos (hr_5.symm.trans c_6)], ⟨(by first | omega | (dsimp only; omega)), (by rw [← (by assumption : u_1 = sk n fb a0), if_pos (hr_5.symm.trans c_6)]), (by rw [← (by assumption : u_1 = sk n fb a0), if_pos (hr_5.symm.trans c_6)])⟩⟩, by rw [ht]; exact hP9, hD9⟩, hS.F ht⟩) hS.2.2 dX3_readSign_39
  ·
    refine lv_aload_n hx hb dX3_readSign_19 rfl (lv_at hl 0 rfl) ?_
    refine lv_aload_n hx hb dX3_readSign_20 rfl (lv_at hl 0 rfl) ?_
    refine va_get (D := E.1) (ci := 4) (v := .int (nI u_1)) (C := RX3) (T := TX3) (N := 11) hx hb hts i_r_readSign_X3 hown hK hP 0 rfl rfl 7 (by decide) (hts (.fieldLink RX3 31 "HushWatch$Reader" "at" "I") (List.mem_of_getElem? (i := 2) rfl)) (fun _ h9 => h9) rfl dX3_readSign_21 ?_
    have hPc := hP.sub (ws' := [(h, .inr (4, [.ref t, .ref r1, .ref r2, .ref r3, .int y4, .int y5, .int y6, .int (nI u_1), .int y8, .int y9, .int y10]))]) [0] rfl
    have hDc := hD.sub (ws' := [(h, .inr (4, [.ref t, .ref r1, .ref r2, .ref r3, .int y4, .int y5, .int y6, .int (nI u_1), .int y8, .int y9, .int y10]))]) [0] (by decide) rfl
    have hFc := va_free (wc := [(h, .inr (4, [.ref t, .ref r1, .ref r2, .ref r3, .int y4, .int y5, .int y6, .int (nI u_1), .int y8, .int y9, .int y10]))]) hD hS hA [0] rfl
    refine va_calli (va_runV (As := [.int (nI u_1)]) (rest := []) ⟨hx, hb, hml, hown, hts⟩ (r_failAt l E H.size h t r1 r2 r3 y4 y5 y6 (nI u_1) y8 y9 y10 (nI u_1)) (cwV 1 hts g_r_readSign_r_failAt_87 rfl rfl rfl (by decide +kernel) ⟨Nat.le_of_ble_eq_true rfl, Nat.le_of_ble_eq_true rfl⟩) ⟨pW.blind, va_recv hK hPc (ci := 4) (q0 := 0) rfl rfl, (pW.pre ⟨hK, hN⟩ hPc hDc)⟩ rfl rfl hl.1 rfl (lv_room (Nat.le_of_ble_eq_true rfl)) dX3_readSign_24 ⟨Nat.le_of_ble_eq_true rfl, Nat.le_of_ble_eq_true rfl⟩) hS (fun q _ h => hFc q h) hFc (fun r_8 u tt H1 locs ht hvm hw hB hz1 hk1 hS => ?_)
    obtain ⟨hP1, hD1⟩ := hB
    rw [ht] at hP1
    obtain ⟨hP, hD⟩ := va_join (wr := [(t, .inr (7, [.ref b1, .int (nI n)])), (b1, .inl (E.2.2.1, 320, .inl fb))]) (w1 := [(h, .inr (4, [.ref t, .ref r1, .ref r2, .ref r3, .int y4, .int y5, .int y6, .int (nI u_1), .int y8, .int y9, .int (nI u_1)]))]) hP hD [0] [1, 2] rfl rfl (by decide) (by decide) hk1 hFc hP1 hD1
    generalize H1 = H at hP hS ⊢
    have hP : va_P E.1 vwCl [(t, .inr (7, [.ref b1, .int (nI n)])), (b1, .inl (E.2.2.1, 320, .inl fb)), (h, .inr (4, [.ref t, .ref r1, .ref r2, .ref r3, .int y4, .int y5, .int y6, .int (nI u_1), .int y8, .int y9, .int (nI u_1)]))] H := hP
    have hD : va_D A [(t, .inr (7, [.ref b1, .int (nI n)])), (b1, .inl (E.2.2.1, 320, .inl fb)), (h, .inr (4, [.ref t, .ref r1, .ref r2, .ref r3, .int y4, .int y5, .int y6, .int (nI u_1), .int y8, .int y9, .int (nI u_1)]))] := hD
    have hr_8 := hw
    obtain rfl : r_8 = 0 := hr_8
    rw [hQ]
    have hP9 := hP.sub (ws' := [(h, .inr (4, [.ref t, .ref r1, .ref r2, .ref r3, .int y4, .int y5, .int y6, .int (nI u_1), .int y8, .int y9, .int (nI u_1)])), (t, .inr (7, [.ref b1, .int (nI n)])), (b1, .inl (E.2.2.1, 320, .inl fb))]) [2, 0, 1] rfl
    have hD9 := hD.sub (ws' := [(h, .inr (4, [.ref t, .ref r1, .ref r2, .ref r3, .int y4, .int y5, .int y6, .int (nI u_1), .int y8, .int y9, .int (nI u_1)])), (t, .inr (7, [.ref b1, .int (nI n)])), (b1, .inl (E.2.2.1, 320, .inl fb))]) [2, 0, 1] (by decide) rfl
    exact W.zret (v := 0) hx hb hr rfl (fun tt ht hW => ⟨⟨_, (u_1, (nI u_1)), rfl, ⟨by rw [← (by assumption : u_1 = sk n fb a0), if_neg (fun z => c_6 (hr_5.trans z))], ⟨(by first | omega | (dsimp only; omega)), (by rw [← (by assumption : u_1 = sk n fb a0), if_neg (fun z => c_6 (hr_5.trans z))]), (by rw [← (by assumption : u_1 = sk n fb a0), if_neg (fun z => c_6 (hr_5.trans z))])⟩⟩, by rw [ht]; exact hP9, hD9⟩, hS.F ht⟩) hS.2.2 dX3_readSign_27
