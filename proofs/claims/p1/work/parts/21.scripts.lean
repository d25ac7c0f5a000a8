theorem dX4_areFull_0 : decode cX4_areFull 0 = .ok (.aload_n 0, 1) := by decide +kernel
theorem dX4_areFull_1 : decode cX4_areFull 1 = .ok (.getfield 18, 3) := by decide +kernel
theorem dX4_areFull_4 : decode cX4_areFull 4 = .ok (.iconst 4, 1) := by decide +kernel
theorem dX4_areFull_5 : decode cX4_areFull 5 = .ok (.if_icmp .lt 7, 3) := by decide +kernel
theorem dX4_areFull_12 : decode cX4_areFull 12 = .ok (.iconst 0, 1) := by decide +kernel
theorem dX4_areFull_13 : decode cX4_areFull 13 = .ok (.ireturn, 1) := by decide +kernel
theorem dX4_has_0 : decode cX4_has 0 = .ok (.iload_n 1, 1) := by decide +kernel
theorem dX4_has_1 : decode cX4_has 1 = .ok (.ifCond .lt 20, 3) := by decide +kernel
theorem dX4_has_21 : decode cX4_has 21 = .ok (.iconst 0, 1) := by decide +kernel
theorem dX4_has_22 : decode cX4_has 22 = .ok (.ireturn, 1) := by decide +kernel
theorem dX4_has_4 : decode cX4_has 4 = .ok (.iload_n 1, 1) := by decide +kernel
theorem dX4_has_5 : decode cX4_has 5 = .ok (.aload_n 0, 1) := by decide +kernel
theorem dX4_has_6 : decode cX4_has 6 = .ok (.getfield 18, 3) := by decide +kernel
theorem dX4_has_9 : decode cX4_has 9 = .ok (.if_icmp .ge 12, 3) := by decide +kernel
theorem dX4_stepsOf_0 : decode cX4_stepsOf 0 = .ok (.aload_n 0, 1) := by decide +kernel
theorem dX4_stepsOf_1 : decode cX4_stepsOf 1 = .ok (.iload_n 1, 1) := by decide +kernel
theorem dX4_stepsOf_2 : decode cX4_stepsOf 2 = .ok (.invokevirtual 38, 3) := by decide +kernel
theorem dX4_stepsOf_5 : decode cX4_stepsOf 5 = .ok (.ifCond .eq 12, 3) := by decide +kernel
theorem dX4_stepsOf_17 : decode cX4_stepsOf 17 = .ok (.iconst 0, 1) := by decide +kernel
theorem dX4_stepsOf_18 : decode cX4_stepsOf 18 = .ok (.ireturn, 1) := by decide +kernel
theorem dX4_read_0 : decode cX4_read 0 = .ok (.iload_n 2, 1) := by decide +kernel
theorem dX4_read_1 : decode cX4_read 1 = .ok (.ifCond .lt 21, 3) := by decide +kernel
theorem dX4_read_22 : decode cX4_read 22 = .ok (.ldc 46, 2) := by decide +kernel
theorem dX4_read_24 : decode cX4_read 24 = .ok (.ireturn, 1) := by decide +kernel
theorem dX4_read_4 : decode cX4_read 4 = .ok (.iload_n 2, 1) := by decide +kernel
theorem dX4_read_5 : decode cX4_read 5 = .ok (.aload_n 0, 1) := by decide +kernel
theorem dX4_read_6 : decode cX4_read 6 = .ok (.iload_n 1, 1) := by decide +kernel
theorem dX4_read_7 : decode cX4_read 7 = .ok (.invokevirtual 42, 3) := by decide +kernel
theorem dX4_read_10 : decode cX4_read 10 = .ok (.if_icmp .ge 12, 3) := by decide +kernel
theorem dX2_bringBack_0 : decode cX2_bringBack 0 = .ok (.aload_n 0, 1) := by decide +kernel
theorem dX2_bringBack_1 : decode cX2_bringBack 1 = .ok (.getfield 21, 3) := by decide +kernel
theorem dX2_bringBack_4 : decode cX2_bringBack 4 = .ok (.ifCond .ne 5, 3) := by decide +kernel
theorem dX2_bringBack_7 : decode cX2_bringBack 7 = .ok (.iconst 0, 1) := by decide +kernel
theorem dX2_bringBack_8 : decode cX2_bringBack 8 = .ok (.ireturn, 1) := by decide +kernel
def v_c_areFull : List Cond := .code yX4_areFull cX4_areFull 1 (some .boolean) :: ([.fieldLink RX4 18 "HushWatch$Scripts" "held" "I"] ++ (wsX40 ++ ([])))
theorem gw_c_areFull : v_c_areFull.all goodWord = true := by decide +kernel
theorem i_c_areFull_X4 : ∀ w ∈ wsX40, w ∈ v_c_areFull := fun _ h => List.mem_cons_of_mem _ (List.mem_append_right _ (List.mem_append_left _ h))
set_option maxHeartbeats 4000000 in
set_option maxRecDepth 100000 in
theorem c_areFull (l : Launch) (E : EE) (h g1 g2 : Nat) : Met l yX4_areFull v_c_areFull ({ frames := 0, cells := 0, slots := 0, locals := 0 }) (va_Pc [.ref h] (pP E [(h, .inr (5, [.ref g1, .ref g2, .int 0]))])) (vp_Si (fun r => r = 0)) 0 0 (fun _ => False) := by
  refine Met.ofW (cc := cX4_areFull) (maxL := 1) (ret := (some .boolean)) (by decide) rfl ?_
  intro p e s m args below meth c s₁ B hml hv
  obtain ⟨rfl, ⟨hK, hN⟩, hP⟩ := hv
  have hx := B.exec
  have hb := B.bytes
  have hr := B.returns
  have hts := atoms_spec (ws := v_c_areFull) B.pre
  have hown : s.vm.findClass RX4 = some m.cls := findClass_of_methodNamed B.named
  have hlocks := B.notSynchronized
  have hP : va_P E.1 vwCl [(h, .inr (5, [.ref g1, .ref g2, .int 0]))] s.heap := hP
  have hl := lv_entry ([.ref h]) (n := 1) (Nat.le_of_ble_eq_true rfl)
  rw [lg_entry_eq]
  generalize (lg_sl ([.ref h]) ++ List.replicate (1 - (lg_sl ([.ref h])).length) Slot.unset).toArray = ls at hl ⊢
  have hl : lv_has ls 1 [(0, .ref h)] := hl
  refine lv_aload_n hx hb dX4_areFull_0 rfl (lv_at hl 0 rfl) ?_
  refine va_get (D := E.1) (ci := 5) (v := .int 0) (C := RX4) (T := TX4) (N := 3) hx hb hts i_c_areFull_X4 hown hK hP 0 rfl rfl 2 (by decide) (hts (.fieldLink RX4 18 "HushWatch$Scripts" "held" "I") (List.mem_of_getElem? (i := 1) rfl)) (fun _ h9 => h9) rfl dX4_areFull_1 ?_
  refine lv_iconst (v := 4) hx hb dX4_areFull_4 (by decide) ?_
  refine lv_icmp_lt (tgt := 12) hx hb dX4_areFull_5 (by decide) (fun _ => ?_) (fun q => absurd (by decide) q)
  refine lv_iconst (v := 0) hx hb dX4_areFull_12 (by decide) ?_
  exact W.zret (v := 0) hx hb hr rfl (fun tt ht hW => ⟨_, rfl, rfl, ht⟩) (fun _ h => by cases h) dX4_areFull_13

def v_c_has : List Cond := .code yX4_has cX4_has 2 (some .boolean) :: ([.fieldLink RX4 18 "HushWatch$Scripts" "held" "I"] ++ (wsX40 ++ ([])))
theorem gw_c_has : v_c_has.all goodWord = true := by decide +kernel
theorem i_c_has_X4 : ∀ w ∈ wsX40, w ∈ v_c_has := fun _ h => List.mem_cons_of_mem _ (List.mem_append_right _ (List.mem_append_left _ h))
set_option maxHeartbeats 4000000 in
set_option maxRecDepth 100000 in
theorem c_has (l : Launch) (E : EE) (h g1 g2 : Nat) (p0 : Int32) : Met l yX4_has v_c_has ({ frames := 0, cells := 0, slots := 0, locals := 0 }) (va_Pc [.ref h, .int p0] (pP E [(h, .inr (5, [.ref g1, .ref g2, .int 0]))])) (vp_Si (fun r => r = 0)) 0 0 (fun _ => False) := by
  refine Met.ofW (cc := cX4_has) (maxL := 2) (ret := (some .boolean)) (by decide) rfl ?_
  intro p e s m args below meth c s₁ B hml hv
  obtain ⟨rfl, ⟨hK, hN⟩, hP⟩ := hv
  have hx := B.exec
  have hb := B.bytes
  have hr := B.returns
  have hts := atoms_spec (ws := v_c_has) B.pre
  have hown : s.vm.findClass RX4 = some m.cls := findClass_of_methodNamed B.named
  have hlocks := B.notSynchronized
  have hP : va_P E.1 vwCl [(h, .inr (5, [.ref g1, .ref g2, .int 0]))] s.heap := hP
  have hl := lv_entry ([.ref h, .int p0]) (n := 2) (Nat.le_of_ble_eq_true rfl)
  rw [lg_entry_eq]
  generalize (lg_sl ([.ref h, .int p0]) ++ List.replicate (2 - (lg_sl ([.ref h, .int p0])).length) Slot.unset).toArray = ls at hl ⊢
  have hl : lv_has ls 2 [(0, .ref h), (1, .int p0)] := hl
  refine lv_iload_n hx hb dX4_has_0 rfl (lv_at hl 1 rfl) ?_
  refine lv_if_lt (tgt := 21) hx hb dX4_has_1 (by decide) (fun c_1 => ?_) (fun c_1 => ?_)
  ·
    refine lv_iconst (v := 0) hx hb dX4_has_21 (by decide) ?_
    exact W.zret (v := 0) hx hb hr rfl (fun tt ht hW => ⟨_, rfl, rfl, ht⟩) (fun _ h => by cases h) dX4_has_22
  ·
    refine lv_iload_n hx hb dX4_has_4 rfl (lv_at hl 1 rfl) ?_
    refine lv_aload_n hx hb dX4_has_5 rfl (lv_at hl 0 rfl) ?_
    refine va_get (D := E.1) (ci := 5) (v := .int 0) (C := RX4) (T := TX4) (N := 3) hx hb hts i_c_has_X4 hown hK hP 0 rfl rfl 2 (by decide) (hts (.fieldLink RX4 18 "HushWatch$Scripts" "held" "I") (List.mem_of_getElem? (i := 1) rfl)) (fun _ h9 => h9) rfl dX4_has_6 ?_
    refine lv_icmp_ge (tgt := 21) hx hb dX4_has_9 (by decide) (fun c_2 => ?_) (fun c_2 => ?_)
    ·
      refine lv_iconst (v := 0) hx hb dX4_has_21 (by decide) ?_
      exact W.zret (v := 0) hx hb hr rfl (fun tt ht hW => ⟨_, rfl, rfl, ht⟩) (fun _ h => by cases h) dX4_has_22
    ·
      exact absurd trivial (by exfalso; have t0 : (0 : Int32).toInt = 0 := (by decide); simp only [Int32.lt_iff_toInt_lt, Int32.le_iff_toInt_le, ge_iff_le, gt_iff_lt, ne_eq, ← Int32.toInt_inj, t0] at c_1 c_2; omega)

def v_c_stepsOf : List Cond := .code yX4_stepsOf cX4_stepsOf 2 (some .int) :: ([.methodLink RX4 38 yX4_has, .instanceMethod yX4_has, .selects RX4 yX4_has yX4_has, .initialized RX4] ++ (v_c_has ++ ([])))
theorem gw_c_stepsOf : v_c_stepsOf.all goodWord = true := by decide +kernel
theorem g_c_stepsOf_c_has_38 : GoodIn v_c_stepsOf (wsV RX4 38 RX4 yX4_has v_c_has) := goodIn_app (goodIn_of _ (by decide +kernel)) (goodIn_sub (fun _ h => List.mem_cons_of_mem _ (List.mem_append_right _ (List.mem_append_left _ h))) gw_c_has)
set_option maxHeartbeats 4000000 in
set_option maxRecDepth 100000 in
theorem c_stepsOf (l : Launch) (E : EE) (h g1 g2 : Nat) (p0 : Int32) : Met l yX4_stepsOf v_c_stepsOf ({ frames := 1, cells := 0, slots := 0, locals := 21 }) (va_Pc [.ref h, .int p0] (pP E [(h, .inr (5, [.ref g1, .ref g2, .int 0]))])) (vp_Si (fun r => r = 0)) 0 0 (fun _ => False) := by
  refine Met.ofW (cc := cX4_stepsOf) (maxL := 2) (ret := (some .int)) (by decide) rfl ?_
  intro p e s m args below meth c s₁ B hml hv
  obtain ⟨rfl, ⟨hK, hN⟩, hP⟩ := hv
  have hx := B.exec
  have hb := B.bytes
  have hr := B.returns
  have hts := atoms_spec (ws := v_c_stepsOf) B.pre
  have hown : s.vm.findClass RX4 = some m.cls := findClass_of_methodNamed B.named
  have hlocks := B.notSynchronized
  have hP : va_P E.1 vwCl [(h, .inr (5, [.ref g1, .ref g2, .int 0]))] s.heap := hP
  have hl := lv_entry ([.ref h, .int p0]) (n := 2) (Nat.le_of_ble_eq_true rfl)
  rw [lg_entry_eq]
  generalize (lg_sl ([.ref h, .int p0]) ++ List.replicate (2 - (lg_sl ([.ref h, .int p0])).length) Slot.unset).toArray = ls at hl ⊢
  have hl : lv_has ls 2 [(0, .ref h), (1, .int p0)] := hl
  refine lv_aload_n hx hb dX4_stepsOf_0 rfl (lv_at hl 0 rfl) ?_
  refine lv_iload_n hx hb dX4_stepsOf_1 rfl (lv_at hl 1 rfl) ?_
  have hPc := hP.sub (ws' := [(h, .inr (5, [.ref g1, .ref g2, .int 0]))]) [0] rfl
  refine pc_i (va_runV (As := [.int p0]) (rest := []) ⟨hx, hb, hml, hown, hts⟩ (c_has l E h g1 g2 p0) (cwV 1 hts g_c_stepsOf_c_has_38 rfl rfl rfl (by decide +kernel) ⟨Nat.le_of_ble_eq_true rfl, Nat.le_of_ble_eq_true rfl⟩) ⟨pP.blind, va_recv hK hPc (ci := 5) (q0 := 0) rfl rfl, (pP.pre ⟨hK, hN⟩ hPc)⟩ rfl rfl hl.1 rfl (lv_room (Nat.le_of_ble_eq_true rfl)) dX4_stepsOf_2 ⟨Nat.le_of_ble_eq_true rfl, Nat.le_of_ble_eq_true rfl⟩) (fun r_1 hr_1 => ?_)
  obtain rfl : r_1 = 0 := hr_1
  refine lv_if_eq (tgt := 17) hx hb dX4_stepsOf_5 (by decide) (fun _ => ?_) (fun q => absurd (by decide) q)
  refine lv_iconst (v := 0) hx hb dX4_stepsOf_17 (by decide) ?_
  exact W.iret (v := 0) hx hb hr (fun tt ht hW => ⟨_, rfl, rfl, ht⟩) (fun _ h => by cases h) dX4_stepsOf_18

def v_c_sread : List Cond := .code yX4_read cX4_read 4 (some .int) :: ([.constant RX4 46 (-100000000), .methodLink RX4 42 yX4_stepsOf, .instanceMethod yX4_stepsOf, .selects RX4 yX4_stepsOf yX4_stepsOf, .initialized RX4] ++ (v_c_stepsOf ++ ([])))
theorem gw_c_sread : v_c_sread.all goodWord = true := by decide +kernel
theorem g_c_sread_c_stepsOf_42 : GoodIn v_c_sread (wsV RX4 42 RX4 yX4_stepsOf v_c_stepsOf) := goodIn_app (goodIn_of _ (by decide +kernel)) (goodIn_sub (fun _ h => List.mem_cons_of_mem _ (List.mem_append_right _ (List.mem_append_left _ h))) gw_c_stepsOf)
set_option maxHeartbeats 4000000 in
set_option maxRecDepth 100000 in
theorem c_sread (l : Launch) (E : EE) (h g1 g2 : Nat) (p0 p1 p2 : Int32) : Met l yX4_read v_c_sread ({ frames := 2, cells := 0, slots := 0, locals := 42 }) (va_Pc [.ref h, .int p0, .int p1, .int p2] (pP E [(h, .inr (5, [.ref g1, .ref g2, .int 0]))])) (vp_Si (fun r => r = -100000000)) 0 0 (fun _ => False) := by
  refine Met.ofW (cc := cX4_read) (maxL := 4) (ret := (some .int)) (by decide) rfl ?_
  intro p e s m args below meth c s₁ B hml hv
  obtain ⟨rfl, ⟨hK, hN⟩, hP⟩ := hv
  have hx := B.exec
  have hb := B.bytes
  have hr := B.returns
  have hts := atoms_spec (ws := v_c_sread) B.pre
  have hown : s.vm.findClass RX4 = some m.cls := findClass_of_methodNamed B.named
  have hlocks := B.notSynchronized
  have hP : va_P E.1 vwCl [(h, .inr (5, [.ref g1, .ref g2, .int 0]))] s.heap := hP
  have hl := lv_entry ([.ref h, .int p0, .int p1, .int p2]) (n := 4) (Nat.le_of_ble_eq_true rfl)
  rw [lg_entry_eq]
  generalize (lg_sl ([.ref h, .int p0, .int p1, .int p2]) ++ List.replicate (4 - (lg_sl ([.ref h, .int p0, .int p1, .int p2])).length) Slot.unset).toArray = ls at hl ⊢
  have hl : lv_has ls 4 [(0, .ref h), (1, .int p0), (2, .int p1), (3, .int p2)] := hl
  refine lv_iload_n hx hb dX4_read_0 rfl (lv_at hl 2 rfl) ?_
  refine lv_if_lt (tgt := 22) hx hb dX4_read_1 (by decide) (fun c_1 => ?_) (fun c_1 => ?_)
  ·
    refine lv_ldc (v := -100000000) hx hb hown (hts (.constant RX4 46 (-100000000)) (List.mem_of_getElem? (i := 1) rfl)) dX4_read_22 ?_
    exact W.iret (v := -100000000) hx hb hr (fun tt ht hW => ⟨_, rfl, rfl, ht⟩) (fun _ h => by cases h) dX4_read_24
  ·
    refine lv_iload_n hx hb dX4_read_4 rfl (lv_at hl 2 rfl) ?_
    refine lv_aload_n hx hb dX4_read_5 rfl (lv_at hl 0 rfl) ?_
    refine lv_iload_n hx hb dX4_read_6 rfl (lv_at hl 1 rfl) ?_
    have hPc := hP.sub (ws' := [(h, .inr (5, [.ref g1, .ref g2, .int 0]))]) [0] rfl
    refine pc_i (va_runV (As := [.int p0]) (rest := [.int p1]) ⟨hx, hb, hml, hown, hts⟩ (c_stepsOf l E h g1 g2 p0) (cwV 1 hts g_c_sread_c_stepsOf_42 rfl rfl rfl (by decide +kernel) ⟨Nat.le_of_ble_eq_true rfl, Nat.le_of_ble_eq_true rfl⟩) ⟨pP.blind, va_recv hK hPc (ci := 5) (q0 := 0) rfl rfl, (pP.pre ⟨hK, hN⟩ hPc)⟩ rfl rfl hl.1 rfl (lv_room (Nat.le_of_ble_eq_true rfl)) dX4_read_7 ⟨Nat.le_of_ble_eq_true rfl, Nat.le_of_ble_eq_true rfl⟩) (fun r_2 hr_2 => ?_)
    obtain rfl : r_2 = 0 := hr_2
    refine lv_icmp_ge (tgt := 22) hx hb dX4_read_10 (by decide) (fun c_3 => ?_) (fun c_3 => ?_)
    ·
      refine lv_ldc (v := -100000000) hx hb hown (hts (.constant RX4 46 (-100000000)) (List.mem_of_getElem? (i := 1) rfl)) dX4_read_22 ?_
      exact W.iret (v := -100000000) hx hb hr (fun tt ht hW => ⟨_, rfl, rfl, ht⟩) (fun _ h => by cases h) dX4_read_24
    ·
      exact absurd trivial (by exfalso; have t0 : (0 : Int32).toInt = 0 := (by decide); simp only [Int32.lt_iff_toInt_lt, Int32.le_iff_toInt_le, ge_iff_le, gt_iff_lt, ne_eq, ← Int32.toInt_inj, t0] at c_1 c_3; omega)

def v_c_bringBack : List Cond := .code yX2_bringBack cX2_bringBack 2 (some .boolean) :: ([.fieldLink RX2 21 "HushWatch$History" "held" "I"] ++ (wsX20 ++ ([])))
theorem gw_c_bringBack : v_c_bringBack.all goodWord = true := by decide +kernel
theorem i_c_bringBack_X2 : ∀ w ∈ wsX20, w ∈ v_c_bringBack := fun _ h => List.mem_cons_of_mem _ (List.mem_append_right _ (List.mem_append_left _ h))
set_option maxHeartbeats 4000000 in
set_option maxRecDepth 100000 in
theorem c_bringBack (l : Launch) (E : EE) (h g1 h2 : Nat) : Met l yX2_bringBack v_c_bringBack ({ frames := 0, cells := 0, slots := 0, locals := 0 }) (va_Pc [.ref h, .ref h2] (pP E [(h, .inr (3, [.ref g1, .int 0, .int 0]))])) (vp_Si (fun r => r = 0)) 0 0 (fun _ => False) := by
  refine Met.ofW (cc := cX2_bringBack) (maxL := 2) (ret := (some .boolean)) (by decide) rfl ?_
  intro p e s m args below meth c s₁ B hml hv
  obtain ⟨rfl, ⟨hK, hN⟩, hP⟩ := hv
  have hx := B.exec
  have hb := B.bytes
  have hr := B.returns
  have hts := atoms_spec (ws := v_c_bringBack) B.pre
  have hown : s.vm.findClass RX2 = some m.cls := findClass_of_methodNamed B.named
  have hlocks := B.notSynchronized
  have hP : va_P E.1 vwCl [(h, .inr (3, [.ref g1, .int 0, .int 0]))] s.heap := hP
  have hl := lv_entry ([.ref h, .ref h2]) (n := 2) (Nat.le_of_ble_eq_true rfl)
  rw [lg_entry_eq]
  generalize (lg_sl ([.ref h, .ref h2]) ++ List.replicate (2 - (lg_sl ([.ref h, .ref h2])).length) Slot.unset).toArray = ls at hl ⊢
  have hl : lv_has ls 2 [(0, .ref h), (1, .ref h2)] := hl
  refine lv_aload_n hx hb dX2_bringBack_0 rfl (lv_at hl 0 rfl) ?_
  refine va_get (D := E.1) (ci := 3) (v := .int 0) (C := RX2) (T := TX2) (N := 3) hx hb hts i_c_bringBack_X2 hown hK hP 0 rfl rfl 2 (by decide) (hts (.fieldLink RX2 21 "HushWatch$History" "held" "I") (List.mem_of_getElem? (i := 1) rfl)) (fun _ h9 => h9) rfl dX2_bringBack_1 ?_
  refine lv_if_ne (tgt := 9) hx hb dX2_bringBack_4 (by decide) (fun q => absurd (by decide) q) (fun _ => ?_)
  refine lv_iconst (v := 0) hx hb dX2_bringBack_7 (by decide) ?_
  exact W.zret (v := 0) hx hb hr rfl (fun tt ht hW => ⟨_, rfl, rfl, ht⟩) (fun _ h => by cases h) dX2_bringBack_8
