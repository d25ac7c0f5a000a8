theorem dX3_skipBlanks_0 : decode cX3_skipBlanks 0 = .ok (.aload_n 0, 1) := by decide +kernel
theorem dX3_skipBlanks_1 : decode cX3_skipBlanks 1 = .ok (.getfield 31, 3) := by decide +kernel
theorem dX3_skipBlanks_4 : decode cX3_skipBlanks 4 = .ok (.aload_n 0, 1) := by decide +kernel
theorem dX3_skipBlanks_5 : decode cX3_skipBlanks 5 = .ok (.getfield 43, 3) := by decide +kernel
theorem dX3_skipBlanks_8 : decode cX3_skipBlanks 8 = .ok (.getfield 59, 3) := by decide +kernel
theorem dX3_skipBlanks_11 : decode cX3_skipBlanks 11 = .ok (.if_icmp .ge 32, 3) := by decide +kernel
theorem dX3_skipBlanks_14 : decode cX3_skipBlanks 14 = .ok (.aload_n 0, 1) := by decide +kernel
theorem dX3_skipBlanks_15 : decode cX3_skipBlanks 15 = .ok (.getfield 43, 3) := by decide +kernel
theorem dX3_skipBlanks_18 : decode cX3_skipBlanks 18 = .ok (.aload_n 0, 1) := by decide +kernel
theorem dX3_skipBlanks_19 : decode cX3_skipBlanks 19 = .ok (.getfield 31, 3) := by decide +kernel
theorem dX3_skipBlanks_22 : decode cX3_skipBlanks 22 = .ok (.invokevirtual 143, 3) := by decide +kernel
theorem dX3_skipBlanks_25 : decode cX3_skipBlanks 25 = .ok (.bipush 32, 2) := by decide +kernel
theorem dX3_skipBlanks_27 : decode cX3_skipBlanks 27 = .ok (.if_icmp .ne 16, 3) := by decide +kernel
theorem dX3_skipBlanks_30 : decode cX3_skipBlanks 30 = .ok (.aload_n 0, 1) := by decide +kernel
theorem dX3_skipBlanks_31 : decode cX3_skipBlanks 31 = .ok (.dup, 1) := by decide +kernel
theorem dX3_skipBlanks_32 : decode cX3_skipBlanks 32 = .ok (.getfield 31, 3) := by decide +kernel
theorem dX3_skipBlanks_35 : decode cX3_skipBlanks 35 = .ok (.iconst 1, 1) := by decide +kernel
theorem dX3_skipBlanks_36 : decode cX3_skipBlanks 36 = .ok (.iadd, 1) := by decide +kernel
theorem dX3_skipBlanks_37 : decode cX3_skipBlanks 37 = .ok (.putfield 31, 3) := by decide +kernel
theorem dX3_skipBlanks_40 : decode cX3_skipBlanks 40 = .ok (.goto (-40), 3) := by decide +kernel
theorem dX3_skipBlanks_43 : decode cX3_skipBlanks 43 = .ok (.return_, 1) := by decide +kernel
/-- where the blanks from a on end, seen with k looks -/
def skB (n : Nat) (fb : Nat → Int32) : Nat → Nat → Nat
  | 0, a => a
  | k + 1, a => if a < n ∧ tpS n fb (nI a) = 32 then skB n fb k (a + 1) else a
def sk (n : Nat) (fb : Nat → Int32) (a : Nat) : Nat := skB n fb (n - a) a
theorem sk_step {n a A : Nat} {fb : Nat → Int32} (h : sk n fb a = A) (h1 : a < n) (h2 : tpS n fb (nI a) = 32) : sk n fb (a + 1) = A := by
  unfold sk at h ⊢
  rw [show n - a = (n - (a + 1)) + 1 by omega] at h
  unfold skB at h
  rw [if_pos ⟨h1, h2⟩] at h
  exact h
theorem sk_stop {n a A : Nat} {fb : Nat → Int32} (h : sk n fb a = A) (h1 : ¬ (a < n ∧ tpS n fb (nI a) = 32)) : a = A := by
  unfold sk at h
  cases e : n - a with
  | zero => rw [e] at h; exact h
  | succ k =>
    rw [e] at h
    unfold skB at h
    rw [if_neg h1] at h
    exact h
theorem sk_le {n : Nat} {fb : Nat → Int32} : ∀ {k a : Nat}, a ≤ n → skB n fb k a ≤ n
  | 0, a, h => h
  | k + 1, a, h => by
    unfold skB
    split
    · rename_i q; exact sk_le (by omega)
    · exact h

def v_r_skipBlanks : List Cond := .code yX3_skipBlanks cX3_skipBlanks 1 none :: ([.fieldLink RX3 31 "HushWatch$Reader" "at" "I", .fieldLink RX3 43 "HushWatch$Reader" "tape" "LHushWatch$Tape;", .methodLink RX3 143 yX6_signAt, .instanceMethod yX6_signAt, .selects RX6 yX6_signAt yX6_signAt, .initialized RX6] ++ (wsX30 ++ (wsX60 ++ (v_t_signAt ++ ([])))))
theorem gw_r_skipBlanks : v_r_skipBlanks.all goodWord = true := by decide +kernel
theorem i_r_skipBlanks_X3 : ∀ w ∈ wsX30, w ∈ v_r_skipBlanks := fun _ h => List.mem_cons_of_mem _ (List.mem_append_right _ (List.mem_append_left _ h))
theorem i_r_skipBlanks_X6 : ∀ w ∈ wsX60, w ∈ v_r_skipBlanks := fun _ h => List.mem_cons_of_mem _ (List.mem_append_right _ (List.mem_append_right _ (List.mem_append_left _ h)))
theorem g_r_skipBlanks_t_signAt_143 : GoodIn v_r_skipBlanks (wsV RX3 143 RX6 yX6_signAt v_t_signAt) := goodIn_app (goodIn_of _ (by decide +kernel)) (goodIn_sub (fun _ h => List.mem_cons_of_mem _ (List.mem_append_right _ (List.mem_append_right _ (List.mem_append_right _ (List.mem_append_left _ h))))) gw_t_signAt)
set_option maxHeartbeats 4000000 in
set_option maxRecDepth 100000 in
theorem lp_r_skipBlanks_0 {p : Program} (l : Launch) {e : Env} {s : State} {m : MethodId} {below : List Frame} {meth : Method} {c : Code} {Q : State → Prop} (E : EE) {h t r1 r2 r3 b1 n a0 : Nat} {y4 y5 y6 y8 y9 y10 : Int32} {fb : Nat → Int32} (hn : n ≤ 320) (ha0 : a0 ≤ 320) (hx : p.tables.exec = Jvm.exec) (hb : c.code = cX3_skipBlanks) (hml : c.maxLocals = 1) (hown : s.vm.findClass RX3 = some m.cls) (hts : ∀ w ∈ v_r_skipBlanks, w.before #[Value.ref h] s = true) (hK : va_K E.1 vwCl (TY E) s) (hN : NX s) {A : Nat → Prop} (hA : ∀ q : Nat, s.heap.size ≤ q → A q) (KX43 : ∀ (a : Nat), ∀ (H : Heap) (locs : List Loc) (ls : Array Slot), a ≤ 320 → sk n fb a = sk n fb a0 → a = sk n fb a0 → va_P E.1 vwCl [(h, .inr (4, [.ref t, .ref r1, .ref r2, .ref r3, .int y4, .int y5, .int y6, .int (nI a), .int y8, .int y9, .int y10])), (t, .inr (7, [.ref b1, .int (nI n)])), (b1, .inl (E.2.2.1, 320, .inl fb))] H → va_D A [(h, .inr (4, [.ref t, .ref r1, .ref r2, .ref r3, .int y4, .int y5, .int y6, .int (nI a), .int y8, .int y9, .int y10])), (t, .inr (7, [.ref b1, .int (nI n)])), (b1, .inl (E.2.2.1, 320, .inl fb))] → va_S A s.heap H locs → lv_has ls 1 [(0, .ref h)] → W p l e ({ frames := 1, cells := 0, slots := 0, locals := 21 } : Room) s m #[Value.ref h] below meth c H locs 0 0 Q (F0 m 43 ls [])) : ∀ fuel9 : Nat, ∀ (a : Nat), ∀ (H : Heap) (locs : List Loc) (ls : Array Slot), a ≤ 320 → (321 - a) < fuel9 → sk n fb a = sk n fb a0 → va_P E.1 vwCl [(h, .inr (4, [.ref t, .ref r1, .ref r2, .ref r3, .int y4, .int y5, .int y6, .int (nI a), .int y8, .int y9, .int y10])), (t, .inr (7, [.ref b1, .int (nI n)])), (b1, .inl (E.2.2.1, 320, .inl fb))] H → va_D A [(h, .inr (4, [.ref t, .ref r1, .ref r2, .ref r3, .int y4, .int y5, .int y6, .int (nI a), .int y8, .int y9, .int y10])), (t, .inr (7, [.ref b1, .int (nI n)])), (b1, .inl (E.2.2.1, 320, .inl fb))] → va_S A s.heap H locs → lv_has ls 1 [(0, .ref h)] → W p l e ({ frames := 1, cells := 0, slots := 0, locals := 21 } : Room) s m #[Value.ref h] below meth c H locs 0 0 Q (F0 m 0 ls []) := by
  intro fuel9
  induction fuel9 with
  | zero =>
    intro a H locs ls ha hms hf0 hP hD hS hl
    omega
  | succ fuel9 ih =>
    intro a H locs ls ha hms hf0 hP hD hS hl
    refine lv_aload_n hx hb dX3_skipBlanks_0 rfl (lv_at hl 0 rfl) ?_
    refine va_get (D := E.1) (ci := 4) (v := .int (nI a)) (C := RX3) (T := TX3) (N := 11) hx hb hts i_r_skipBlanks_X3 hown hK hP 0 rfl rfl 7 (by decide) (hts (.fieldLink RX3 31 "HushWatch$Reader" "at" "I") (List.mem_of_getElem? (i := 1) rfl)) (fun _ h9 => h9) rfl dX3_skipBlanks_1 ?_
    refine lv_aload_n hx hb dX3_skipBlanks_4 rfl (lv_at hl 0 rfl) ?_
    refine va_get (D := E.1) (ci := 4) (v := .ref t) (C := RX3) (T := TX3) (N := 11) hx hb hts i_r_skipBlanks_X3 hown hK hP 0 rfl rfl 0 (by decide) (hts (.fieldLink RX3 43 "HushWatch$Reader" "tape" "LHushWatch$Tape;") (List.mem_of_getElem? (i := 2) rfl)) (fun _ h9 => h9) rfl dX3_skipBlanks_5 ?_
    refine va_getN (D := E.1) (ci := 7) (v := .int (nI n)) (C := RX6) (T := TX6) (N := 2) hx hb hts i_r_skipBlanks_X6 hown hK hP 1 rfl rfl 1 (by decide) (nx hN 2 rfl) (fun _ h9 => h9) rfl dX3_skipBlanks_8 ?_
    refine lv_icmp_ge (tgt := 43) hx hb dX3_skipBlanks_11 (by decide) (fun c_1 => ?_) (fun c_1 => ?_)
    ·
      have d_2 : n ≤ a := nc_ge (a := a) (b := n) (by omega) (by omega) c_1
      exact KX43 a H locs ls (by omega) (hf0) (sk_stop hf0 (fun q => by omega)) (hP.sub [0, 1, 2] rfl) (hD.sub [0, 1, 2] (by decide) rfl) hS (lv_sub hl [0] rfl)
    ·
      have d_3 : ¬ (n ≤ a) := nc_ge_n (a := a) (b := n) (by omega) (by omega) c_1
      refine lv_aload_n hx hb dX3_skipBlanks_14 rfl (lv_at hl 0 rfl) ?_
      refine va_get (D := E.1) (ci := 4) (v := .ref t) (C := RX3) (T := TX3) (N := 11) hx hb hts i_r_skipBlanks_X3 hown hK hP 0 rfl rfl 0 (by decide) (hts (.fieldLink RX3 43 "HushWatch$Reader" "tape" "LHushWatch$Tape;") (List.mem_of_getElem? (i := 2) rfl)) (fun _ h9 => h9) rfl dX3_skipBlanks_15 ?_
      refine lv_aload_n hx hb dX3_skipBlanks_18 rfl (lv_at hl 0 rfl) ?_
      refine va_get (D := E.1) (ci := 4) (v := .int (nI a)) (C := RX3) (T := TX3) (N := 11) hx hb hts i_r_skipBlanks_X3 hown hK hP 0 rfl rfl 7 (by decide) (hts (.fieldLink RX3 31 "HushWatch$Reader" "at" "I") (List.mem_of_getElem? (i := 1) rfl)) (fun _ h9 => h9) rfl dX3_skipBlanks_19 ?_
      have hPc := hP.sub (ws' := [(t, .inr (7, [.ref b1, .int (nI n)])), (b1, .inl (E.2.2.1, 320, .inl fb))]) [1, 2] rfl
      refine pc_i (va_runV (As := [.int (nI a)]) (rest := []) ⟨hx, hb, hml, hown, hts⟩ (t_signAt l E t b1 n fb (nI a) (by omega)) (cwV 1 hts g_r_skipBlanks_t_signAt_143 rfl rfl rfl (by decide +kernel) ⟨Nat.le_of_ble_eq_true rfl, Nat.le_of_ble_eq_true rfl⟩) ⟨pP.blind, va_recv hK hPc (ci := 7) (q0 := 0) rfl rfl, (pP.pre ⟨hK, hN⟩ hPc)⟩ rfl rfl hl.1 rfl (lv_room (Nat.le_of_ble_eq_true rfl)) dX3_skipBlanks_22 ⟨Nat.le_of_ble_eq_true rfl, Nat.le_of_ble_eq_true rfl⟩) (fun r_4 hr_4 => ?_)
      refine lv_bipush (v := 32) hx hb dX3_skipBlanks_25 (by decide) ?_
      refine lv_icmp_ne (tgt := 43) hx hb dX3_skipBlanks_27 (by decide) (fun c_5 => ?_) (fun c_5 => ?_)
      ·
        exact KX43 a H locs ls (by omega) (hf0) (sk_stop hf0 (fun q => c_5 (hr_4.trans q.2))) (hP.sub [0, 1, 2] rfl) (hD.sub [0, 1, 2] (by decide) rfl) hS (lv_sub hl [0] rfl)
      ·
        obtain ⟨j_6, hj_6, ej_6⟩ : ∃ j : Nat, j ≤ 32 ∧ r_4 = nI j := nat_rng (by have t0 : (0 : Int32).toInt = 0 := (by decide); have t1 : (32 : Int32).toInt = 32 := (by decide); simp only [Int32.lt_iff_toInt_lt, Int32.le_iff_toInt_le, ge_iff_le, gt_iff_lt, ne_eq, ← Int32.toInt_inj, t0, t1] at c_5 ⊢; omega)
        refine lv_aload_n hx hb dX3_skipBlanks_30 rfl (lv_at hl 0 rfl) ?_
        refine lv_dup hx hb dX3_skipBlanks_31 rfl ?_
        refine va_get (D := E.1) (ci := 4) (v := .int (nI a)) (C := RX3) (T := TX3) (N := 11) hx hb hts i_r_skipBlanks_X3 hown hK hP 0 rfl rfl 7 (by decide) (hts (.fieldLink RX3 31 "HushWatch$Reader" "at" "I") (List.mem_of_getElem? (i := 1) rfl)) (fun _ h9 => h9) rfl dX3_skipBlanks_32 ?_
        refine lv_iconst (v := 1) hx hb dX3_skipBlanks_35 (by decide) ?_
        refine lv_iadd hx hb dX3_skipBlanks_36 ?_
        refine lv_topi (fun z_7 ez_7 => ?_)
        obtain rfl : z_7 = nI (a + 1) := ez_7.trans (nI_add _ 1)
        refine va_put (D := E.1) (ci := 4) (v := .int (nI (a + 1))) (ty := .int) (C := RX3) (T := TX3) (N := 11) hx hb hts i_r_skipBlanks_X3 tyX3 tyX3_ok nmX3 hown hK hP hD hS 0 rfl rfl 7 (by decide) (hts (.fieldLink RX3 31 "HushWatch$Reader" "at" "I") (List.mem_of_getElem? (i := 1) rfl)) (fun _ h9 => h9) rfl (by decide +kernel) rfl rfl (Nat.le_of_ble_eq_true rfl) dX3_skipBlanks_37 (fun H locs hP hD hS => ?_)
        have hP : va_P E.1 vwCl [(h, .inr (4, [.ref t, .ref r1, .ref r2, .ref r3, .int y4, .int y5, .int y6, .int (nI (a + 1)), .int y8, .int y9, .int y10])), (t, .inr (7, [.ref b1, .int (nI n)])), (b1, .inl (E.2.2.1, 320, .inl fb))] H := hP
        have hD : va_D A [(h, .inr (4, [.ref t, .ref r1, .ref r2, .ref r3, .int y4, .int y5, .int y6, .int (nI (a + 1)), .int y8, .int y9, .int y10])), (t, .inr (7, [.ref b1, .int (nI n)])), (b1, .inl (E.2.2.1, 320, .inl fb))] := hD
        refine lv_goto (tgt := 0) hx hb dX3_skipBlanks_40 (by decide) ?_
        exact ih (a + 1) H locs ls (by omega) (by omega) (sk_step hf0 (by omega) (hr_4.symm.trans c_5)) (hP.sub [0, 1, 2] rfl) (hD.sub [0, 1, 2] (by decide) rfl) hS (lv_sub hl [0] rfl)

set_option maxHeartbeats 4000000 in
set_option maxRecDepth 100000 in
theorem r_skipBlanks (l : Launch) (E : EE) (sz : Nat) (h t r1 r2 r3 b1 n a0 : Nat) (y4 y5 y6 y8 y9 y10 : Int32) (fb : Nat → Int32) (hn : n ≤ 320) (ha0 : a0 ≤ 320) : Met l yX3_skipBlanks v_r_skipBlanks ({ frames := 1, cells := 0, slots := 0, locals := 21 }) (va_Pc [.ref h] (pW E sz [(h, .inr (4, [.ref t, .ref r1, .ref r2, .ref r3, .int y4, .int y5, .int y6, .int (nI a0), .int y8, .int y9, .int y10])), (t, .inr (7, [.ref b1, .int (nI n)])), (b1, .inl (E.2.2.1, 320, .inl fb))])) (va_Qv (fun (a1 : Nat) => a1 ≤ 320 ∧ a1 = sk n fb a0) (fun (a1 : Nat) tt => va_P E.1 vwCl [(h, .inr (4, [.ref t, .ref r1, .ref r2, .ref r3, .int y4, .int y5, .int y6, .int (nI a1), .int y8, .int y9, .int y10])), (t, .inr (7, [.ref b1, .int (nI n)])), (b1, .inl (E.2.2.1, 320, .inl fb))] tt.heap ∧ va_D (va_A [(h, .inr (4, [.ref t, .ref r1, .ref r2, .ref r3, .int y4, .int y5, .int y6, .int (nI a0), .int y8, .int y9, .int y10])), (t, .inr (7, [.ref b1, .int (nI n)])), (b1, .inl (E.2.2.1, 320, .inl fb))] sz) [(h, .inr (4, [.ref t, .ref r1, .ref r2, .ref r3, .int y4, .int y5, .int y6, .int (nI a1), .int y8, .int y9, .int y10])), (t, .inr (7, [.ref b1, .int (nI n)])), (b1, .inl (E.2.2.1, 320, .inl fb))]) (va_A [(h, .inr (4, [.ref t, .ref r1, .ref r2, .ref r3, .int y4, .int y5, .int y6, .int (nI a0), .int y8, .int y9, .int y10])), (t, .inr (7, [.ref b1, .int (nI n)])), (b1, .inl (E.2.2.1, 320, .inl fb))] sz)) 0 0 (va_A [(h, .inr (4, [.ref t, .ref r1, .ref r2, .ref r3, .int y4, .int y5, .int y6, .int (nI a0), .int y8, .int y9, .int y10])), (t, .inr (7, [.ref b1, .int (nI n)])), (b1, .inl (E.2.2.1, 320, .inl fb))] sz) := by
  refine Met.ofW (cc := cX3_skipBlanks) (maxL := 1) (ret := none) (by decide) rfl ?_
  intro p e s m args below meth c s₁ B hml hv
  obtain ⟨rfl, hsz, ⟨hK, hN⟩, hP, hD0⟩ := hv
  have hx := B.exec
  have hb := B.bytes
  have hr := B.returns
  have hts := atoms_spec (ws := v_r_skipBlanks) B.pre
  have hown : s.vm.findClass RX3 = some m.cls := findClass_of_methodNamed B.named
  have hlocks := B.notSynchronized
  subst hsz
  have hD := hD0.self (sz := s.heap.size)
  generalize hAe : va_A [(h, .inr (4, [.ref t, .ref r1, .ref r2, .ref r3, .int y4, .int y5, .int y6, .int (nI a0), .int y8, .int y9, .int y10])), (t, .inr (7, [.ref b1, .int (nI n)])), (b1, .inl (E.2.2.1, 320, .inl fb))] s.heap.size = A at hD ⊢
  have hA : ∀ q : Nat, s.heap.size ≤ q → A q := fun q h => by rw [← hAe]; exact Or.inr h
  have hS : va_S A s.heap s.heap [] := va_S.rf
  have hP : va_P E.1 vwCl [(h, .inr (4, [.ref t, .ref r1, .ref r2, .ref r3, .int y4, .int y5, .int y6, .int (nI a0), .int y8, .int y9, .int y10])), (t, .inr (7, [.ref b1, .int (nI n)])), (b1, .inl (E.2.2.1, 320, .inl fb))] s.heap := hP
  have hl := lv_entry ([.ref h]) (n := 1) (Nat.le_of_ble_eq_true rfl)
  rw [lg_entry_eq]
  generalize (lg_sl ([.ref h]) ++ List.replicate (1 - (lg_sl ([.ref h])).length) Slot.unset).toArray = ls at hl ⊢
  have hl : lv_has ls 1 [(0, .ref h)] := hl
  obtain ⟨Q, hQ⟩ : ∃ Q : State → Prop, Q = MQ below (va_Qv (fun (a1 : Nat) => a1 ≤ 320 ∧ a1 = sk n fb a0) (fun (a1 : Nat) tt => va_P E.1 vwCl [(h, .inr (4, [.ref t, .ref r1, .ref r2, .ref r3, .int y4, .int y5, .int y6, .int (nI a1), .int y8, .int y9, .int y10])), (t, .inr (7, [.ref b1, .int (nI n)])), (b1, .inl (E.2.2.1, 320, .inl fb))] tt.heap ∧ va_D A [(h, .inr (4, [.ref t, .ref r1, .ref r2, .ref r3, .int y4, .int y5, .int y6, .int (nI a1), .int y8, .int y9, .int y10])), (t, .inr (7, [.ref b1, .int (nI n)])), (b1, .inl (E.2.2.1, 320, .inl fb))]) A) #[Value.ref h] s 0 0 A := ⟨_, rfl⟩
  rw [← hQ]
  change W p l e ({ frames := 1, cells := 0, slots := 0, locals := 21 } : Room) s m #[Value.ref h] below meth c s.heap [] 0 0 Q (F0 m 0 ls [])
  refine lp_r_skipBlanks_0 (h := h) (t := t) (r1 := r1) (r2 := r2) (r3 := r3) (b1 := b1) (n := n) (a0 := a0) (y4 := y4) (y5 := y5) (y6 := y6) (y8 := y8) (y9 := y9) (y10 := y10) (fb := fb) l E hn ha0 hx hb hml hown hts hK hN hA ?_ (322) a0 s.heap [] ls (by omega) (by omega) (rfl) (hP.sub [0, 1, 2] rfl) (hD.sub [0, 1, 2] (by decide) rfl) hS (lv_sub hl [0] rfl)
  ·
    intro a H locs ls ha hf0 hf1 hP hD hS hl
    rw [hQ]
    have hP9 := hP.sub (ws' := [(h, .inr (4, [.ref t, .ref r1, .ref r2, .ref r3, .int y4, .int y5, .int y6, .int (nI a), .int y8, .int y9, .int y10])), (t, .inr (7, [.ref b1, .int (nI n)])), (b1, .inl (E.2.2.1, 320, .inl fb))]) [0, 1, 2] rfl
    have hD9 := hD.sub (ws' := [(h, .inr (4, [.ref t, .ref r1, .ref r2, .ref r3, .int y4, .int y5, .int y6, .int (nI a), .int y8, .int y9, .int y10])), (t, .inr (7, [.ref b1, .int (nI n)])), (b1, .inl (E.2.2.1, 320, .inl fb))]) [0, 1, 2] (by decide) rfl
    exact W.vret hx hb hr (fun tt ht hW => ⟨⟨a, rfl, ⟨(by first | omega | (dsimp only; omega)), (hf1)⟩, by rw [ht]; exact hP9, hD9⟩, hS.F ht⟩) hS.2.2 dX3_skipBlanks_43
