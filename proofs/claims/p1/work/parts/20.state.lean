theorem dX5_stands_0 : decode cX5_stands 0 = .ok (.aload_n 0, 1) := by decide +kernel
theorem dX5_stands_1 : decode cX5_stands 1 = .ok (.getfield 11, 3) := by decide +kernel
theorem dX5_stands_4 : decode cX5_stands 4 = .ok (.iconst 3, 1) := by decide +kernel
theorem dX5_stands_5 : decode cX5_stands 5 = .ok (.iaload, 1) := by decide +kernel
theorem dX5_stands_6 : decode cX5_stands 6 = .ok (.ifCond .le 7, 3) := by decide +kernel
theorem dX5_stands_13 : decode cX5_stands 13 = .ok (.iconst 0, 1) := by decide +kernel
theorem dX5_stands_14 : decode cX5_stands 14 = .ok (.ireturn, 1) := by decide +kernel
theorem dX5_sites_0 : decode cX5_sites 0 = .ok (.aload_n 0, 1) := by decide +kernel
theorem dX5_sites_1 : decode cX5_sites 1 = .ok (.getfield 11, 3) := by decide +kernel
theorem dX5_sites_4 : decode cX5_sites 4 = .ok (.iconst 3, 1) := by decide +kernel
theorem dX5_sites_5 : decode cX5_sites 5 = .ok (.iaload, 1) := by decide +kernel
theorem dX5_sites_6 : decode cX5_sites 6 = .ok (.ireturn, 1) := by decide +kernel
theorem dX5_hasSite_0 : decode cX5_hasSite 0 = .ok (.iload_n 1, 1) := by decide +kernel
theorem dX5_hasSite_1 : decode cX5_hasSite 1 = .ok (.ifCond .lt 23, 3) := by decide +kernel
theorem dX5_hasSite_24 : decode cX5_hasSite 24 = .ok (.iconst 0, 1) := by decide +kernel
theorem dX5_hasSite_25 : decode cX5_hasSite 25 = .ok (.ireturn, 1) := by decide +kernel
theorem dX5_hasSite_4 : decode cX5_hasSite 4 = .ok (.iload_n 1, 1) := by decide +kernel
theorem dX5_hasSite_5 : decode cX5_hasSite 5 = .ok (.aload_n 0, 1) := by decide +kernel
theorem dX5_hasSite_6 : decode cX5_hasSite 6 = .ok (.getfield 11, 3) := by decide +kernel
theorem dX5_hasSite_9 : decode cX5_hasSite 9 = .ok (.iconst 3, 1) := by decide +kernel
theorem dX5_hasSite_10 : decode cX5_hasSite 10 = .ok (.iaload, 1) := by decide +kernel
theorem dX5_hasSite_11 : decode cX5_hasSite 11 = .ok (.if_icmp .ge 13, 3) := by decide +kernel
theorem dX5_refusal_0 : decode cX5_refusal 0 = .ok (.aload_n 0, 1) := by decide +kernel
theorem dX5_refusal_1 : decode cX5_refusal 1 = .ok (.invokevirtual 105, 3) := by decide +kernel
theorem dX5_refusal_4 : decode cX5_refusal 4 = .ok (.ifCond .ne 5, 3) := by decide +kernel
theorem dX5_refusal_7 : decode cX5_refusal 7 = .ok (.iconst 0, 1) := by decide +kernel
theorem dX5_refusal_8 : decode cX5_refusal 8 = .ok (.ireturn, 1) := by decide +kernel
def v_c_stands : List Cond := .code yX5_stands cX5_stands 1 (some .boolean) :: ([.fieldLink RX5 11 "HushWatch$State" "row" "[I"] ++ (wsX50 ++ ([])))
theorem gw_c_stands : v_c_stands.all goodWord = true := by decide +kernel
theorem i_c_stands_X5 : ∀ w ∈ wsX50, w ∈ v_c_stands := fun _ h => List.mem_cons_of_mem _ (List.mem_append_right _ (List.mem_append_left _ h))
set_option maxHeartbeats 4000000 in
set_option maxRecDepth 100000 in
/-- State.stands(), fresh -/
theorem c_stands (l : Launch) (E : EE) (h g1 g2 g3 g4 : Nat) : Met l yX5_stands v_c_stands ({ frames := 0, cells := 0, slots := 0, locals := 0 }) (va_Pc [.ref h] (pP E [(h, .inr (6, [.ref g1, .ref g2, .int 0, .int 0, .ref g3, .ref g4])), (g1, .inl (E.2.1, 81, .inl (fun _ => 0)))])) (vp_Si (fun r => r = 0)) 0 0 (fun _ => False) := by
  refine Met.ofW (cc := cX5_stands) (maxL := 1) (ret := (some .boolean)) (by decide) rfl ?_
  intro p e s m args below meth c s₁ B hml hv
  obtain ⟨rfl, ⟨hK, hN⟩, hP⟩ := hv
  have hx := B.exec
  have hb := B.bytes
  have hr := B.returns
  have hts := atoms_spec (ws := v_c_stands) B.pre
  have hown : s.vm.findClass RX5 = some m.cls := findClass_of_methodNamed B.named
  have hlocks := B.notSynchronized
  have hP : va_P E.1 vwCl [(h, .inr (6, [.ref g1, .ref g2, .int 0, .int 0, .ref g3, .ref g4])), (g1, .inl (E.2.1, 81, .inl (fun _ => 0)))] s.heap := hP
  have hl := lv_entry ([.ref h]) (n := 1) (Nat.le_of_ble_eq_true rfl)
  rw [lg_entry_eq]
  generalize (lg_sl ([.ref h]) ++ List.replicate (1 - (lg_sl ([.ref h])).length) Slot.unset).toArray = ls at hl ⊢
  have hl : lv_has ls 1 [(0, .ref h)] := hl
  refine lv_aload_n hx hb dX5_stands_0 rfl (lv_at hl 0 rfl) ?_
  refine va_get (D := E.1) (ci := 6) (v := .ref g1) (C := RX5) (T := TX5) (N := 6) hx hb hts i_c_stands_X5 hown hK hP 0 rfl rfl 0 (by decide) (hts (.fieldLink RX5 11 "HushWatch$State" "row" "[I") (List.mem_of_getElem? (i := 1) rfl)) (fun _ h9 => h9) rfl dX5_stands_1 ?_
  refine lv_iconst (v := 3) hx hb dX5_stands_4 (by decide) ?_
  refine va_iald hx hb hK hP 1 0 rfl rfl (vin rfl) dX5_stands_5 ?_
  refine W.eq (g2 := F0 m 6 ls [.int 0]) rfl ?_
  refine lv_if_le (tgt := 13) hx hb dX5_stands_6 (by decide) (fun _ => ?_) (fun q => absurd (by decide) q)
  refine lv_iconst (v := 0) hx hb dX5_stands_13 (by decide) ?_
  exact W.zret (v := 0) hx hb hr rfl (fun tt ht hW => ⟨_, rfl, rfl, ht⟩) (fun _ h => by cases h) dX5_stands_14

def v_c_sites : List Cond := .code yX5_sites cX5_sites 1 (some .int) :: ([.fieldLink RX5 11 "HushWatch$State" "row" "[I"] ++ (wsX50 ++ ([])))
theorem gw_c_sites : v_c_sites.all goodWord = true := by decide +kernel
theorem i_c_sites_X5 : ∀ w ∈ wsX50, w ∈ v_c_sites := fun _ h => List.mem_cons_of_mem _ (List.mem_append_right _ (List.mem_append_left _ h))
set_option maxHeartbeats 4000000 in
set_option maxRecDepth 100000 in
theorem c_sites (l : Launch) (E : EE) (h g1 g2 g3 g4 : Nat) : Met l yX5_sites v_c_sites ({ frames := 0, cells := 0, slots := 0, locals := 0 }) (va_Pc [.ref h] (pP E [(h, .inr (6, [.ref g1, .ref g2, .int 0, .int 0, .ref g3, .ref g4])), (g1, .inl (E.2.1, 81, .inl (fun _ => 0)))])) (vp_Si (fun r => r = 0)) 0 0 (fun _ => False) := by
  refine Met.ofW (cc := cX5_sites) (maxL := 1) (ret := (some .int)) (by decide) rfl ?_
  intro p e s m args below meth c s₁ B hml hv
  obtain ⟨rfl, ⟨hK, hN⟩, hP⟩ := hv
  have hx := B.exec
  have hb := B.bytes
  have hr := B.returns
  have hts := atoms_spec (ws := v_c_sites) B.pre
  have hown : s.vm.findClass RX5 = some m.cls := findClass_of_methodNamed B.named
  have hlocks := B.notSynchronized
  have hP : va_P E.1 vwCl [(h, .inr (6, [.ref g1, .ref g2, .int 0, .int 0, .ref g3, .ref g4])), (g1, .inl (E.2.1, 81, .inl (fun _ => 0)))] s.heap := hP
  have hl := lv_entry ([.ref h]) (n := 1) (Nat.le_of_ble_eq_true rfl)
  rw [lg_entry_eq]
  generalize (lg_sl ([.ref h]) ++ List.replicate (1 - (lg_sl ([.ref h])).length) Slot.unset).toArray = ls at hl ⊢
  have hl : lv_has ls 1 [(0, .ref h)] := hl
  refine lv_aload_n hx hb dX5_sites_0 rfl (lv_at hl 0 rfl) ?_
  refine va_get (D := E.1) (ci := 6) (v := .ref g1) (C := RX5) (T := TX5) (N := 6) hx hb hts i_c_sites_X5 hown hK hP 0 rfl rfl 0 (by decide) (hts (.fieldLink RX5 11 "HushWatch$State" "row" "[I") (List.mem_of_getElem? (i := 1) rfl)) (fun _ h9 => h9) rfl dX5_sites_1 ?_
  refine lv_iconst (v := 3) hx hb dX5_sites_4 (by decide) ?_
  refine va_iald hx hb hK hP 1 0 rfl rfl (vin rfl) dX5_sites_5 ?_
  refine W.eq (g2 := F0 m 6 ls [.int 0]) rfl ?_
  exact W.iret (v := 0) hx hb hr (fun tt ht hW => ⟨_, rfl, rfl, ht⟩) (fun _ h => by cases h) dX5_sites_6

def v_c_hasSite : List Cond := .code yX5_hasSite cX5_hasSite 2 (some .boolean) :: ([.fieldLink RX5 11 "HushWatch$State" "row" "[I"] ++ (wsX50 ++ ([])))
theorem gw_c_hasSite : v_c_hasSite.all goodWord = true := by decide +kernel
theorem i_c_hasSite_X5 : ∀ w ∈ wsX50, w ∈ v_c_hasSite := fun _ h => List.mem_cons_of_mem _ (List.mem_append_right _ (List.mem_append_left _ h))
set_option maxHeartbeats 4000000 in
set_option maxRecDepth 100000 in
theorem c_hasSite (l : Launch) (E : EE) (h g1 g2 g3 g4 : Nat) (p0 : Int32) : Met l yX5_hasSite v_c_hasSite ({ frames := 0, cells := 0, slots := 0, locals := 0 }) (va_Pc [.ref h, .int p0] (pP E [(h, .inr (6, [.ref g1, .ref g2, .int 0, .int 0, .ref g3, .ref g4])), (g1, .inl (E.2.1, 81, .inl (fun _ => 0)))])) (vp_Si (fun r => r = 0)) 0 0 (fun _ => False) := by
  refine Met.ofW (cc := cX5_hasSite) (maxL := 2) (ret := (some .boolean)) (by decide) rfl ?_
  intro p e s m args below meth c s₁ B hml hv
  obtain ⟨rfl, ⟨hK, hN⟩, hP⟩ := hv
  have hx := B.exec
  have hb := B.bytes
  have hr := B.returns
  have hts := atoms_spec (ws := v_c_hasSite) B.pre
  have hown : s.vm.findClass RX5 = some m.cls := findClass_of_methodNamed B.named
  have hlocks := B.notSynchronized
  have hP : va_P E.1 vwCl [(h, .inr (6, [.ref g1, .ref g2, .int 0, .int 0, .ref g3, .ref g4])), (g1, .inl (E.2.1, 81, .inl (fun _ => 0)))] s.heap := hP
  have hl := lv_entry ([.ref h, .int p0]) (n := 2) (Nat.le_of_ble_eq_true rfl)
  rw [lg_entry_eq]
  generalize (lg_sl ([.ref h, .int p0]) ++ List.replicate (2 - (lg_sl ([.ref h, .int p0])).length) Slot.unset).toArray = ls at hl ⊢
  have hl : lv_has ls 2 [(0, .ref h), (1, .int p0)] := hl
  refine lv_iload_n hx hb dX5_hasSite_0 rfl (lv_at hl 1 rfl) ?_
  refine lv_if_lt (tgt := 24) hx hb dX5_hasSite_1 (by decide) (fun c_1 => ?_) (fun c_1 => ?_)
  ·
    refine lv_iconst (v := 0) hx hb dX5_hasSite_24 (by decide) ?_
    exact W.zret (v := 0) hx hb hr rfl (fun tt ht hW => ⟨_, rfl, rfl, ht⟩) (fun _ h => by cases h) dX5_hasSite_25
  ·
    refine lv_iload_n hx hb dX5_hasSite_4 rfl (lv_at hl 1 rfl) ?_
    refine lv_aload_n hx hb dX5_hasSite_5 rfl (lv_at hl 0 rfl) ?_
    refine va_get (D := E.1) (ci := 6) (v := .ref g1) (C := RX5) (T := TX5) (N := 6) hx hb hts i_c_hasSite_X5 hown hK hP 0 rfl rfl 0 (by decide) (hts (.fieldLink RX5 11 "HushWatch$State" "row" "[I") (List.mem_of_getElem? (i := 1) rfl)) (fun _ h9 => h9) rfl dX5_hasSite_6 ?_
    refine lv_iconst (v := 3) hx hb dX5_hasSite_9 (by decide) ?_
    refine va_iald hx hb hK hP 1 0 rfl rfl (vin rfl) dX5_hasSite_10 ?_
    refine W.eq (g2 := F0 m 11 ls [.int 0, .int p0]) rfl ?_
    refine lv_icmp_ge (tgt := 24) hx hb dX5_hasSite_11 (by decide) (fun c_2 => ?_) (fun c_2 => ?_)
    ·
      refine lv_iconst (v := 0) hx hb dX5_hasSite_24 (by decide) ?_
      exact W.zret (v := 0) hx hb hr rfl (fun tt ht hW => ⟨_, rfl, rfl, ht⟩) (fun _ h => by cases h) dX5_hasSite_25
    ·
      exact absurd trivial (by exfalso; have t0 : (0 : Int32).toInt = 0 := (by decide); simp only [Int32.lt_iff_toInt_lt, Int32.le_iff_toInt_le, ge_iff_le, gt_iff_lt, ne_eq, ← Int32.toInt_inj, t0] at c_1 c_2; omega)

def v_c_refusal : List Cond := .code yX5_refusal cX5_refusal 5 (some .int) :: ([.methodLink RX5 105 yX5_stands, .instanceMethod yX5_stands, .selects RX5 yX5_stands yX5_stands, .initialized RX5] ++ (v_c_stands ++ ([])))
theorem gw_c_refusal : v_c_refusal.all goodWord = true := by decide +kernel
theorem g_c_refusal_c_stands_105 : GoodIn v_c_refusal (wsV RX5 105 RX5 yX5_stands v_c_stands) := goodIn_app (goodIn_of _ (by decide +kernel)) (goodIn_sub (fun _ h => List.mem_cons_of_mem _ (List.mem_append_right _ (List.mem_append_left _ h))) gw_c_stands)
set_option maxHeartbeats 4000000 in
set_option maxRecDepth 100000 in
theorem c_refusal (l : Launch) (E : EE) (h g1 g2 g3 g4 : Nat) (p0 p1 p2 p3 : Int32) : Met l yX5_refusal v_c_refusal ({ frames := 1, cells := 0, slots := 0, locals := 20 }) (va_Pc [.ref h, .int p0, .int p1, .int p2, .int p3] (pP E [(h, .inr (6, [.ref g1, .ref g2, .int 0, .int 0, .ref g3, .ref g4])), (g1, .inl (E.2.1, 81, .inl (fun _ => 0)))])) (vp_Si (fun r => r = 0)) 0 0 (fun _ => False) := by
  refine Met.ofW (cc := cX5_refusal) (maxL := 5) (ret := (some .int)) (by decide) rfl ?_
  intro p e s m args below meth c s₁ B hml hv
  obtain ⟨rfl, ⟨hK, hN⟩, hP⟩ := hv
  have hx := B.exec
  have hb := B.bytes
  have hr := B.returns
  have hts := atoms_spec (ws := v_c_refusal) B.pre
  have hown : s.vm.findClass RX5 = some m.cls := findClass_of_methodNamed B.named
  have hlocks := B.notSynchronized
  have hP : va_P E.1 vwCl [(h, .inr (6, [.ref g1, .ref g2, .int 0, .int 0, .ref g3, .ref g4])), (g1, .inl (E.2.1, 81, .inl (fun _ => 0)))] s.heap := hP
  have hl := lv_entry ([.ref h, .int p0, .int p1, .int p2, .int p3]) (n := 5) (Nat.le_of_ble_eq_true rfl)
  rw [lg_entry_eq]
  generalize (lg_sl ([.ref h, .int p0, .int p1, .int p2, .int p3]) ++ List.replicate (5 - (lg_sl ([.ref h, .int p0, .int p1, .int p2, .int p3])).length) Slot.unset).toArray = ls at hl ⊢
  have hl : lv_has ls 5 [(0, .ref h), (1, .int p0), (2, .int p1), (3, .int p2), (4, .int p3)] := hl
  refine lv_aload_n hx hb dX5_refusal_0 rfl (lv_at hl 0 rfl) ?_
  have hPc := hP.sub (ws' := [(h, .inr (6, [.ref g1, .ref g2, .int 0, .int 0, .ref g3, .ref g4])), (g1, .inl (E.2.1, 81, .inl (fun _ => 0)))]) [0, 1] rfl
  refine pc_i (va_runV (As := []) (rest := []) ⟨hx, hb, hml, hown, hts⟩ (c_stands l E h g1 g2 g3 g4) (cwV 0 hts g_c_refusal_c_stands_105 rfl rfl rfl (by decide +kernel) ⟨Nat.le_of_ble_eq_true rfl, Nat.le_of_ble_eq_true rfl⟩) ⟨pP.blind, va_recv hK hPc (ci := 6) (q0 := 0) rfl rfl, (pP.pre ⟨hK, hN⟩ hPc)⟩ rfl rfl hl.1 rfl (lv_room (Nat.le_of_ble_eq_true rfl)) dX5_refusal_1 ⟨Nat.le_of_ble_eq_true rfl, Nat.le_of_ble_eq_true rfl⟩) (fun r_1 hr_1 => ?_)
  obtain rfl : r_1 = 0 := hr_1
  refine lv_if_ne (tgt := 9) hx hb dX5_refusal_4 (by decide) (fun q => absurd (by decide) q) (fun _ => ?_)
  refine lv_iconst (v := 0) hx hb dX5_refusal_7 (by decide) ?_
  exact W.iret (v := 0) hx hb hr (fun tt ht hW => ⟨_, rfl, rfl, ht⟩) (fun _ h => by cases h) dX5_refusal_8
