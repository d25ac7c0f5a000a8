theorem dX5_total_4 : decode cX5_total 4 = .ok (.iload_n 3, 1) := by decide +kernel
theorem dX5_total_5 : decode cX5_total 5 = .ok (.aload_n 0, 1) := by decide +kernel
theorem dX5_total_6 : decode cX5_total 6 = .ok (.invokevirtual 45, 3) := by decide +kernel
theorem dX5_total_9 : decode cX5_total 9 = .ok (.if_icmp .ge 18, 3) := by decide +kernel
theorem dX5_total_12 : decode cX5_total 12 = .ok (.iload_n 2, 1) := by decide +kernel
theorem dX5_total_13 : decode cX5_total 13 = .ok (.aload_n 0, 1) := by decide +kernel
theorem dX5_total_14 : decode cX5_total 14 = .ok (.iload_n 3, 1) := by decide +kernel
theorem dX5_total_15 : decode cX5_total 15 = .ok (.iload_n 1, 1) := by decide +kernel
theorem dX5_total_16 : decode cX5_total 16 = .ok (.invokevirtual 69, 3) := by decide +kernel
theorem dX5_total_19 : decode cX5_total 19 = .ok (.iadd, 1) := by decide +kernel
theorem dX5_total_20 : decode cX5_total 20 = .ok (.istore_n 2, 1) := by decide +kernel
theorem dX5_total_21 : decode cX5_total 21 = .ok (.iinc 3 1, 3) := by decide +kernel
theorem dX5_total_24 : decode cX5_total 24 = .ok (.goto (-20), 3) := by decide +kernel
theorem dX5_total_0 : decode cX5_total 0 = .ok (.iconst 0, 1) := by decide +kernel
theorem dX5_total_1 : decode cX5_total 1 = .ok (.istore_n 2, 1) := by decide +kernel
theorem dX5_total_2 : decode cX5_total 2 = .ok (.iconst 0, 1) := by decide +kernel
theorem dX5_total_3 : decode cX5_total 3 = .ok (.istore_n 3, 1) := by decide +kernel
theorem dX5_total_27 : decode cX5_total 27 = .ok (.iload_n 2, 1) := by decide +kernel
theorem dX5_total_28 : decode cX5_total 28 = .ok (.ireturn, 1) := by decide +kernel
def v_s_total : List Cond := .code yX5_total cX5_total 4 (some .int) :: ([.methodLink RX5 45 yX5_sites, .instanceMethod yX5_sites, .selects RX5 yX5_sites yX5_sites, .initialized RX5, .methodLink RX5 69 yX5_of, .instanceMethod yX5_of, .selects RX5 yX5_of yX5_of] ++ (v_s_sites ++ (v_s_of ++ ([]))))
theorem gw_s_total : v_s_total.all goodWord = true := by decide +kernel
theorem g_s_total_s_sites_45 : GoodIn v_s_total (wsV RX5 45 RX5 yX5_sites v_s_sites) := goodIn_app (goodIn_of _ (by decide +kernel)) (goodIn_sub (fun _ h => List.mem_cons_of_mem _ (List.mem_append_right _ (List.mem_append_left _ h))) gw_s_sites)
theorem g_s_total_s_of_69 : GoodIn v_s_total (wsV RX5 69 RX5 yX5_of v_s_of) := goodIn_app (goodIn_of _ (by decide +kernel)) (goodIn_sub (fun _ h => List.mem_cons_of_mem _ (List.mem_append_right _ (List.mem_append_right _ (List.mem_append_left _ h)))) gw_s_of)
set_option maxHeartbeats 4000000 in
set_option maxRecDepth 100000 in
theorem lp_s_total_4 {p : Program} (l : Launch) {e : Env} {s : State} {m : MethodId} {below : List Frame} {meth : Method} {c : Code} {Q : State → Prop} (E : EE) {h g1 g2 g3 g4 k : Nat} {ka ko : Int32} {f : Nat → Int32} {p0 : Int32} (hk : f 3 = nI k) (hk8 : k ≤ 8) (hx : p.tables.exec = Jvm.exec) (hb : c.code = cX5_total) (hml : c.maxLocals = 4) (hown : s.vm.findClass RX5 = some m.cls) (hts : ∀ w ∈ v_s_total, w.before #[Value.ref h, Value.int p0] s = true) (hK : va_K E.1 vwCl (TY E) s) (hN : NX s) (hP : va_P E.1 vwCl [(h, .inr (6, [.ref g1, .ref g2, .int ka, .int ko, .ref g3, .ref g4])), (g1, .inl (E.2.1, 81, .inl f))] s.heap) (KX27 : ∀ (v2 : Int32), ∀ (i : Nat), ∀ (ls : Array Slot), i ≤ 8 → lv_has ls 4 [(0, .ref h), (1, .int p0), (2, .int v2), (3, .int (nI i))] → W p l e ({ frames := 1, cells := 0, slots := 0, locals := 22 } : Room) s m #[Value.ref h, Value.int p0] below meth c s.heap [] 0 0 Q (F0 m 27 ls [])) : ∀ fuel9 : Nat, ∀ (v2 : Int32), ∀ (i : Nat), ∀ (ls : Array Slot), i ≤ 8 → (9 - i) < fuel9 → lv_has ls 4 [(0, .ref h), (1, .int p0), (2, .int v2), (3, .int (nI i))] → W p l e ({ frames := 1, cells := 0, slots := 0, locals := 22 } : Room) s m #[Value.ref h, Value.int p0] below meth c s.heap [] 0 0 Q (F0 m 4 ls []) := by
  intro fuel9
  induction fuel9 with
  | zero =>
    intro v2 i ls hi hms hl
    omega
  | succ fuel9 ih =>
    intro v2 i ls hi hms hl
    refine lv_iload_n hx hb dX5_total_4 rfl (lv_at hl 3 rfl) ?_
    refine lv_aload_n hx hb dX5_total_5 rfl (lv_at hl 0 rfl) ?_
    have hPc := hP.sub (ws' := [(h, .inr (6, [.ref g1, .ref g2, .int ka, .int ko, .ref g3, .ref g4])), (g1, .inl (E.2.1, 81, .inl f))]) [0, 1] rfl
    refine pc_i (va_runV (As := []) (rest := [.int (nI i)]) ⟨hx, hb, hml, hown, hts⟩ (s_sites l E h g1 g2 g3 g4 k ka ko f hk (by omega)) (cwV 0 hts g_s_total_s_sites_45 rfl rfl rfl (by decide +kernel) ⟨Nat.le_of_ble_eq_true rfl, Nat.le_of_ble_eq_true rfl⟩) ⟨pP.blind, va_recv hK hPc (ci := 6) (q0 := 0) rfl rfl, (pP.pre ⟨hK, hN⟩ hPc)⟩ rfl rfl hl.1 rfl (lv_room (Nat.le_of_ble_eq_true rfl)) dX5_total_6 ⟨Nat.le_of_ble_eq_true rfl, Nat.le_of_ble_eq_true rfl⟩) (fun r_1 hr_1 => ?_)
    obtain rfl : r_1 = nI k := hr_1
    refine lv_icmp_ge (tgt := 27) hx hb dX5_total_9 (by decide) (fun c_2 => ?_) (fun c_2 => ?_)
    ·
      have d_5 : k ≤ i := nc_ge (a := i) (b := k) (by omega) (by omega) c_2
      exact KX27 v2 i ls (by omega) (lv_sub hl [0, 1, 2, 3] rfl)
    ·
      have d_6 : ¬ (k ≤ i) := nc_ge_n (a := i) (b := k) (by omega) (by omega) c_2
      refine lv_iload_n hx hb dX5_total_12 rfl (lv_at hl 2 rfl) ?_
      refine lv_aload_n hx hb dX5_total_13 rfl (lv_at hl 0 rfl) ?_
      refine lv_iload_n hx hb dX5_total_14 rfl (lv_at hl 3 rfl) ?_
      refine lv_iload_n hx hb dX5_total_15 rfl (lv_at hl 1 rfl) ?_
      have hPc := hP.sub (ws' := [(h, .inr (6, [.ref g1, .ref g2, .int ka, .int ko, .ref g3, .ref g4])), (g1, .inl (E.2.1, 81, .inl f))]) [0, 1] rfl
      refine pc_i (va_runV (As := [.int (nI i), .int p0]) (rest := [.int v2]) ⟨hx, hb, hml, hown, hts⟩ (s_of l E h g1 g2 g3 g4 k ka ko f (nI i) p0 hk (by omega)) (cwV 2 hts g_s_total_s_of_69 rfl rfl rfl (by decide +kernel) ⟨Nat.le_of_ble_eq_true rfl, Nat.le_of_ble_eq_true rfl⟩) ⟨pP.blind, va_recv hK hPc (ci := 6) (q0 := 0) rfl rfl, (pP.pre ⟨hK, hN⟩ hPc)⟩ rfl rfl hl.1 rfl (lv_room (Nat.le_of_ble_eq_true rfl)) dX5_total_16 ⟨Nat.le_of_ble_eq_true rfl, Nat.le_of_ble_eq_true rfl⟩) (fun r_7 hr_7 => ?_)
      refine lv_iadd hx hb dX5_total_19 ?_
      refine lv_topi (fun z_8 ez_8 => ?_)
      refine lv_istore_n (lv' := [(2, .int z_8), (0, .ref h), (1, .int p0), (3, .int (nI i))]) hx hb dX5_total_20 rfl hl (by decide) rfl (fun ls hl => ?_)
      refine lv_iinc (v := nI (i + 1)) (lv' := [(3, .int (nI (i + 1))), (2, .int z_8), (0, .ref h), (1, .int p0)]) hx hb dX5_total_21 hl (k := 3) rfl (show nI (i) + 1 = nI (i + 1) from nI_add _ 1) (by decide) rfl (fun ls hl => ?_)
      refine lv_goto (tgt := 4) hx hb dX5_total_24 (by decide) ?_
      exact ih z_8 (i + 1) ls (by omega) (by omega) (lv_sub hl [2, 3, 1, 0] rfl)

set_option maxHeartbeats 4000000 in
set_option maxRecDepth 100000 in
theorem s_total (l : Launch) (E : EE) (h g1 g2 g3 g4 k : Nat) (ka ko : Int32) (f : Nat → Int32) (p0 : Int32) (hk : f 3 = nI k) (hk8 : k ≤ 8) : Met l yX5_total v_s_total ({ frames := 1, cells := 0, slots := 0, locals := 22 }) (va_Pc [.ref h, .int p0] (pP E [(h, .inr (6, [.ref g1, .ref g2, .int ka, .int ko, .ref g3, .ref g4])), (g1, .inl (E.2.1, 81, .inl f))])) (vp_Si (fun r : Int32 => True)) 0 0 (fun _ => False) := by
  refine Met.ofW (cc := cX5_total) (maxL := 4) (ret := (some .int)) (by decide) rfl ?_
  intro p e s m args below meth c s₁ B hml hv
  obtain ⟨rfl, ⟨hK, hN⟩, hP⟩ := hv
  have hx := B.exec
  have hb := B.bytes
  have hr := B.returns
  have hts := atoms_spec (ws := v_s_total) B.pre
  have hown : s.vm.findClass RX5 = some m.cls := findClass_of_methodNamed B.named
  have hlocks := B.notSynchronized
  have hP : va_P E.1 vwCl [(h, .inr (6, [.ref g1, .ref g2, .int ka, .int ko, .ref g3, .ref g4])), (g1, .inl (E.2.1, 81, .inl f))] s.heap := hP
  have hl := lv_entry ([.ref h, .int p0]) (n := 4) (Nat.le_of_ble_eq_true rfl)
  rw [lg_entry_eq]
  generalize (lg_sl ([.ref h, .int p0]) ++ List.replicate (4 - (lg_sl ([.ref h, .int p0])).length) Slot.unset).toArray = ls at hl ⊢
  have hl : lv_has ls 4 [(0, .ref h), (1, .int p0)] := hl
  obtain ⟨Q, hQ⟩ : ∃ Q : State → Prop, Q = MQ below (vp_Si (fun r : Int32 => True)) #[Value.ref h, Value.int p0] s 0 0 (fun _ => False) := ⟨_, rfl⟩
  rw [← hQ]
  change W p l e ({ frames := 1, cells := 0, slots := 0, locals := 22 } : Room) s m #[Value.ref h, Value.int p0] below meth c s.heap [] 0 0 Q (F0 m 0 ls [])
  refine lv_iconst (v := 0) hx hb dX5_total_0 (by decide) ?_
  refine lv_istore_n (lv' := [(2, .int 0), (0, .ref h), (1, .int p0)]) hx hb dX5_total_1 rfl hl (by decide) rfl (fun ls hl => ?_)
  refine lv_iconst (v := 0) hx hb dX5_total_2 (by decide) ?_
  refine lv_istore_n (lv' := [(3, .int 0), (2, .int 0), (0, .ref h), (1, .int p0)]) hx hb dX5_total_3 rfl hl (by decide) rfl (fun ls hl => ?_)
  refine lp_s_total_4 l E hk hk8 hx hb hml hown hts hK hN hP ?_ (10) 0 0 ls (by omega) (by omega) (lv_sub hl [2, 3, 1, 0] rfl)
  ·
    intro v2 i ls hi hl
    refine lv_iload_n hx hb dX5_total_27 rfl (lv_at hl 2 rfl) ?_
    rw [hQ]
    exact W.iret (v := v2) hx hb hr (fun tt ht hW => ⟨_, rfl, trivial, ht⟩) (fun _ h => by cases h) dX5_total_28
