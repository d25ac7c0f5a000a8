theorem dX4_areFull_0 : decode cX4_areFull 0 = .ok (.aload_n 0, 1) := by decide +kernel
theorem dX4_areFull_1 : decode cX4_areFull 1 = .ok (.getfield 18, 3) := by decide +kernel
theorem dX4_areFull_4 : decode cX4_areFull 4 = .ok (.iconst 4, 1) := by decide +kernel
theorem dX4_areFull_5 : decode cX4_areFull 5 = .ok (.if_icmp .lt 7, 3) := by decide +kernel
theorem dX4_areFull_12 : decode cX4_areFull 12 = .ok (.iconst 0, 1) := by decide +kernel
theorem dX4_areFull_13 : decode cX4_areFull 13 = .ok (.ireturn, 1) := by decide +kernel
theorem dX4_areFull_8 : decode cX4_areFull 8 = .ok (.iconst 1, 1) := by decide +kernel
theorem dX4_areFull_9 : decode cX4_areFull 9 = .ok (.goto 4, 3) := by decide +kernel
theorem dX4_has_0 : decode cX4_has 0 = .ok (.iload_n 1, 1) := by decide +kernel
theorem dX4_has_1 : decode cX4_has 1 = .ok (.ifCond .lt 20, 3) := by decide +kernel
theorem dX4_has_21 : decode cX4_has 21 = .ok (.iconst 0, 1) := by decide +kernel
theorem dX4_has_22 : decode cX4_has 22 = .ok (.ireturn, 1) := by decide +kernel
theorem dX4_has_4 : decode cX4_has 4 = .ok (.iload_n 1, 1) := by decide +kernel
theorem dX4_has_5 : decode cX4_has 5 = .ok (.aload_n 0, 1) := by decide +kernel
theorem dX4_has_6 : decode cX4_has 6 = .ok (.getfield 18, 3) := by decide +kernel
theorem dX4_has_9 : decode cX4_has 9 = .ok (.if_icmp .ge 12, 3) := by decide +kernel
theorem dX4_has_12 : decode cX4_has 12 = .ok (.iload_n 1, 1) := by decide +kernel
theorem dX4_has_13 : decode cX4_has 13 = .ok (.iconst 4, 1) := by decide +kernel
theorem dX4_has_14 : decode cX4_has 14 = .ok (.if_icmp .ge 7, 3) := by decide +kernel
theorem dX4_has_17 : decode cX4_has 17 = .ok (.iconst 1, 1) := by decide +kernel
theorem dX4_has_18 : decode cX4_has 18 = .ok (.goto 4, 3) := by decide +kernel
theorem dX4_stepsOf_0 : decode cX4_stepsOf 0 = .ok (.aload_n 0, 1) := by decide +kernel
theorem dX4_stepsOf_1 : decode cX4_stepsOf 1 = .ok (.iload_n 1, 1) := by decide +kernel
theorem dX4_stepsOf_2 : decode cX4_stepsOf 2 = .ok (.invokevirtual 38, 3) := by decide +kernel
theorem dX4_stepsOf_5 : decode cX4_stepsOf 5 = .ok (.ifCond .eq 12, 3) := by decide +kernel
theorem dX4_stepsOf_17 : decode cX4_stepsOf 17 = .ok (.iconst 0, 1) := by decide +kernel
theorem dX4_stepsOf_18 : decode cX4_stepsOf 18 = .ok (.ireturn, 1) := by decide +kernel
theorem dX4_stepsOf_8 : decode cX4_stepsOf 8 = .ok (.aload_n 0, 1) := by decide +kernel
theorem dX4_stepsOf_9 : decode cX4_stepsOf 9 = .ok (.getfield 15, 3) := by decide +kernel
theorem dX4_stepsOf_12 : decode cX4_stepsOf 12 = .ok (.iload_n 1, 1) := by decide +kernel
theorem dX4_stepsOf_13 : decode cX4_stepsOf 13 = .ok (.iaload, 1) := by decide +kernel
theorem dX4_stepsOf_14 : decode cX4_stepsOf 14 = .ok (.goto 4, 3) := by decide +kernel
theorem dX4_read_0 : decode cX4_read 0 = .ok (.iload_n 2, 1) := by decide +kernel
theorem dX4_read_1 : decode cX4_read 1 = .ok (.ifCond .lt 21, 3) := by decide +kernel
theorem dX4_read_22 : decode cX4_read 22 = .ok (.ldc 46, 2) := by decide +kernel
theorem dX4_read_24 : decode cX4_read 24 = .ok (.ireturn, 1) := by decide +kernel
theorem dX4_read_4 : decode cX4_read 4 = .ok (.iload_n 2, 1) := by decide +kernel
theorem dX4_read_5 : decode cX4_read 5 = .ok (.aload_n 0, 1) := by decide +kernel
theorem dX4_read_6 : decode cX4_read 6 = .ok (.iload_n 1, 1) := by decide +kernel
theorem dX4_read_7 : decode cX4_read 7 = .ok (.invokevirtual 42, 3) := by decide +kernel
theorem dX4_read_10 : decode cX4_read 10 = .ok (.if_icmp .ge 12, 3) := by decide +kernel
theorem dX4_read_13 : decode cX4_read 13 = .ok (.iload_n 3, 1) := by decide +kernel
theorem dX4_read_14 : decode cX4_read 14 = .ok (.ifCond .lt 8, 3) := by decide +kernel
theorem dX4_read_17 : decode cX4_read 17 = .ok (.iload_n 3, 1) := by decide +kernel
theorem dX4_read_18 : decode cX4_read 18 = .ok (.iconst 4, 1) := by decide +kernel
theorem dX4_read_19 : decode cX4_read 19 = .ok (.if_icmp .lt 6, 3) := by decide +kernel
theorem dX4_read_25 : decode cX4_read 25 = .ok (.aload_n 0, 1) := by decide +kernel
theorem dX4_read_26 : decode cX4_read 26 = .ok (.getfield 11, 3) := by decide +kernel
theorem dX4_read_29 : decode cX4_read 29 = .ok (.iload_n 1, 1) := by decide +kernel
theorem dX4_read_30 : decode cX4_read 30 = .ok (.bipush 48, 2) := by decide +kernel
theorem dX4_read_32 : decode cX4_read 32 = .ok (.imul, 1) := by decide +kernel
theorem dX4_read_33 : decode cX4_read 33 = .ok (.iload_n 2, 1) := by decide +kernel
theorem dX4_read_34 : decode cX4_read 34 = .ok (.iconst 4, 1) := by decide +kernel
theorem dX4_read_35 : decode cX4_read 35 = .ok (.imul, 1) := by decide +kernel
theorem dX4_read_36 : decode cX4_read 36 = .ok (.iadd, 1) := by decide +kernel
theorem dX4_read_37 : decode cX4_read 37 = .ok (.iload_n 3, 1) := by decide +kernel
theorem dX4_read_38 : decode cX4_read 38 = .ok (.iadd, 1) := by decide +kernel
theorem dX4_read_39 : decode cX4_read 39 = .ok (.iaload, 1) := by decide +kernel
theorem dX4_read_40 : decode cX4_read 40 = .ok (.ireturn, 1) := by decide +kernel
/-- is p one of n scripts -/
def scH (n : Nat) (p : Int32) : Int32 := if 0 ≤ p ∧ p < nI n then 1 else 0
theorem scH_b {n : Nat} {p r : Int32} (h : r = scH n p) : r = 0 ∨ r = 1 := by
  unfold scH at h
  split at h
  · exact Or.inr h
  · exact Or.inl h
theorem scH_1 {n : Nat} {p r : Int32} (hn : n ≤ 4) (h : r = scH n p) (c : ¬ r = 0) : ∃ j : Nat, j ≤ 3 ∧ p = nI j := by
  unfold scH at h
  have tn := nI_toInt (n := n) (by omega)
  have t0 : (0 : Int32).toInt = 0 := by decide
  split at h
  · rename_i q
    simp only [Int32.lt_iff_toInt_lt, Int32.le_iff_toInt_le, t0, tn] at q
    exact nat_rng (by omega)
  · exact absurd h c
/-- the number of steps of script p -/
def scL (n : Nat) (fc : Nat → Int32) (p : Int32) : Int32 := if 0 ≤ p ∧ p < nI n then fc p.toNatClampNeg else 0
theorem scL_0 {n : Nat} {fc : Nat → Int32} {p r : Int32} (h : r = scH n p) (c : r = 0) : 0 = scL n fc p := by
  unfold scH at h; unfold scL
  split
  · rename_i q; rw [if_pos q, c] at h; exact absurd h (by decide)
  · rfl
theorem scL_1 {n : Nat} {fc : Nat → Int32} {p r z : Int32} (h : r = scH n p) (c : ¬ r = 0) (ez : z = fc p.toNatClampNeg) : z = scL n fc p := by
  unfold scH at h; unfold scL
  split
  · exact ez
  · rename_i q; rw [if_neg q] at h; exact absurd h c
/-- every script has at most 12 steps -/
def sOK (fc : Nat → Int32) : Prop := ∀ j, j < 4 → ∃ c, c ≤ 12 ∧ fc j = nI c
theorem scR {n : Nat} {fc : Nat → Int32} {p i r : Int32} (hn : n ≤ 4) (hs : sOK fc) (h : r = scL n fc p) (a : ¬ i < 0) (b : ¬ i ≥ r) : ∃ j k : Nat, j ≤ 3 ∧ p = nI j ∧ k ≤ 11 ∧ i = nI k := by
  unfold scL at h
  have tn := nI_toInt (n := n) (by omega)
  have t0 : (0 : Int32).toInt = 0 := by decide
  split at h
  · rename_i q
    simp only [Int32.lt_iff_toInt_lt, Int32.le_iff_toInt_le, t0, tn] at q
    obtain ⟨j, hj, ej⟩ : ∃ j : Nat, j ≤ 3 ∧ p = nI j := nat_rng (by omega)
    rw [ej, nI_clamp (by omega)] at h
    obtain ⟨c, hc, ec⟩ := hs j (by omega)
    rw [h, ec] at b
    simp only [ge_iff_le, Int32.lt_iff_toInt_lt, Int32.le_iff_toInt_le, t0, nI_toInt (n := c) (by omega)] at a b
    obtain ⟨k, hk, ek⟩ : ∃ k : Nat, k ≤ 11 ∧ i = nI k := nat_rng (by omega)
    exact ⟨j, k, hj, ej, hk, ek⟩
  · rw [h] at b
    simp only [ge_iff_le, Int32.lt_iff_toInt_lt, Int32.le_iff_toInt_le, t0] at a b
    omega

def v_c_areFull : List Cond := .code yX4_areFull cX4_areFull 1 (some .boolean) :: ([.fieldLink RX4 18 "HushWatch$Scripts" "held" "I"] ++ (wsX40 ++ ([])))
theorem gw_c_areFull : v_c_areFull.all goodWord = true := by decide +kernel
theorem i_c_areFull_X4 : ∀ w ∈ wsX40, w ∈ v_c_areFull := fun _ h => List.mem_cons_of_mem _ (List.mem_append_right _ (List.mem_append_left _ h))
set_option maxHeartbeats 4000000 in
set_option maxRecDepth 100000 in
theorem c_areFull (l : Launch) (E : EE) (h c1 c2 n : Nat) (hn : n ≤ 4) : Met l yX4_areFull v_c_areFull ({ frames := 0, cells := 0, slots := 0, locals := 0 }) (va_Pc [.ref h] (pP E [(h, .inr (5, [.ref c1, .ref c2, .int (nI n)]))])) (vp_Si (fun r : Int32 => r = 0 → n ≤ 3)) 0 0 (fun _ => False) := by
  refine Met.ofW (cc := cX4_areFull) (maxL := 1) (ret := (some .boolean)) (by decide) rfl ?_
  intro p e s m args below meth c s₁ B hml hv
  obtain ⟨rfl, ⟨hK, hN⟩, hP⟩ := hv
  have hx := B.exec
  have hb := B.bytes
  have hr := B.returns
  have hts := atoms_spec (ws := v_c_areFull) B.pre
  have hown : s.vm.findClass RX4 = some m.cls := findClass_of_methodNamed B.named
  have hlocks := B.notSynchronized
  have hP : va_P E.1 vwCl [(h, .inr (5, [.ref c1, .ref c2, .int (nI n)]))] s.heap := hP
  have hl := lv_entry ([.ref h]) (n := 1) (Nat.le_of_ble_eq_true rfl)
  rw [lg_entry_eq]
  generalize (lg_sl ([.ref h]) ++ List.replicate (1 - (lg_sl ([.ref h])).length) Slot.unset).toArray = ls at hl ⊢
  have hl : lv_has ls 1 [(0, .ref h)] := hl
  obtain ⟨Q, hQ⟩ : ∃ Q : State → Prop, Q = MQ below (vp_Si (fun r : Int32 => r = 0 → n ≤ 3)) #[Value.ref h] s 0 0 (fun _ => False) := ⟨_, rfl⟩
  rw [← hQ]
  change W p l e ({ frames := 0, cells := 0, slots := 0, locals := 0 } : Room) s m #[Value.ref h] below meth c s.heap [] 0 0 Q (F0 m 0 ls [])
  refine lv_aload_n hx hb dX4_areFull_0 rfl (lv_at hl 0 rfl) ?_
  refine va_get (D := E.1) (ci := 5) (v := .int (nI n)) (C := RX4) (T := TX4) (N := 3) hx hb hts i_c_areFull_X4 hown hK hP 0 rfl rfl 2 (by decide) (hts (.fieldLink RX4 18 "HushWatch$Scripts" "held" "I") (List.mem_of_getElem? (i := 1) rfl)) (fun _ h9 => h9) rfl dX4_areFull_1 ?_
  refine lv_iconst (v := 4) hx hb dX4_areFull_4 (by decide) ?_
  refine lv_icmp_lt (tgt := 12) hx hb dX4_areFull_5 (by decide) (fun c_1 => ?_) (fun c_1 => ?_)
  ·
    have d_2 : n < 4 := nc_lt (a := n) (b := 4) (by omega) (by omega) c_1
    refine lv_iconst (v := 0) hx hb dX4_areFull_12 (by decide) ?_
    rw [hQ]
    exact W.zret (v := 0) hx hb hr rfl (fun tt ht hW => ⟨_, rfl, fun _ => by omega, ht⟩) (fun _ h => by cases h) dX4_areFull_13
  ·
    have d_3 : ¬ (n < 4) := nc_lt_n (a := n) (b := 4) (by omega) (by omega) c_1
    refine lv_iconst (v := 1) hx hb dX4_areFull_8 (by decide) ?_
    refine lv_goto (tgt := 13) hx hb dX4_areFull_9 (by decide) ?_
    rw [hQ]
    exact W.zret (v := 1) hx hb hr rfl (fun tt ht hW => ⟨_, rfl, fun q => absurd q (by decide), ht⟩) (fun _ h => by cases h) dX4_areFull_13

def v_c_has : List Cond := .code yX4_has cX4_has 2 (some .boolean) :: ([.fieldLink RX4 18 "HushWatch$Scripts" "held" "I"] ++ (wsX40 ++ ([])))
theorem gw_c_has : v_c_has.all goodWord = true := by decide +kernel
theorem i_c_has_X4 : ∀ w ∈ wsX40, w ∈ v_c_has := fun _ h => List.mem_cons_of_mem _ (List.mem_append_right _ (List.mem_append_left _ h))
set_option maxHeartbeats 4000000 in
set_option maxRecDepth 100000 in
theorem c_has (l : Launch) (E : EE) (h c1 c2 n : Nat) (p0 : Int32) (hn : n ≤ 4) : Met l yX4_has v_c_has ({ frames := 0, cells := 0, slots := 0, locals := 0 }) (va_Pc [.ref h, .int p0] (pP E [(h, .inr (5, [.ref c1, .ref c2, .int (nI n)]))])) (vp_Si (fun r : Int32 => r = scH n p0)) 0 0 (fun _ => False) := by
  refine Met.ofW (cc := cX4_has) (maxL := 2) (ret := (some .boolean)) (by decide) rfl ?_
  intro p e s m args below meth c s₁ B hml hv
  obtain ⟨rfl, ⟨hK, hN⟩, hP⟩ := hv
  have hx := B.exec
  have hb := B.bytes
  have hr := B.returns
  have hts := atoms_spec (ws := v_c_has) B.pre
  have hown : s.vm.findClass RX4 = some m.cls := findClass_of_methodNamed B.named
  have hlocks := B.notSynchronized
  have hP : va_P E.1 vwCl [(h, .inr (5, [.ref c1, .ref c2, .int (nI n)]))] s.heap := hP
  have hl := lv_entry ([.ref h, .int p0]) (n := 2) (Nat.le_of_ble_eq_true rfl)
  rw [lg_entry_eq]
  generalize (lg_sl ([.ref h, .int p0]) ++ List.replicate (2 - (lg_sl ([.ref h, .int p0])).length) Slot.unset).toArray = ls at hl ⊢
  have hl : lv_has ls 2 [(0, .ref h), (1, .int p0)] := hl
  obtain ⟨Q, hQ⟩ : ∃ Q : State → Prop, Q = MQ below (vp_Si (fun r : Int32 => r = scH n p0)) #[Value.ref h, Value.int p0] s 0 0 (fun _ => False) := ⟨_, rfl⟩
  rw [← hQ]
  change W p l e ({ frames := 0, cells := 0, slots := 0, locals := 0 } : Room) s m #[Value.ref h, Value.int p0] below meth c s.heap [] 0 0 Q (F0 m 0 ls [])
  refine lv_iload_n hx hb dX4_has_0 rfl (lv_at hl 1 rfl) ?_
  refine lv_if_lt (tgt := 21) hx hb dX4_has_1 (by decide) (fun c_1 => ?_) (fun c_1 => ?_)
  ·
    refine lv_iconst (v := 0) hx hb dX4_has_21 (by decide) ?_
    rw [hQ]
    exact W.zret (v := 0) hx hb hr rfl (fun tt ht hW => ⟨_, rfl, by have t0 : (0 : Int32).toInt = 0 := (by decide); have t4 : (4 : Int32).toInt = 4 := (by decide); have tn := nI_toInt (n := n) (by omega); unfold scH; split <;> first | rfl | (rename_i q9; exfalso; simp only [ge_iff_le, gt_iff_lt, Int32.lt_iff_toInt_lt, Int32.le_iff_toInt_le, t0, t4, tn] at q9 c_1; omega), ht⟩) (fun _ h => by cases h) dX4_has_22
  ·
    refine lv_iload_n hx hb dX4_has_4 rfl (lv_at hl 1 rfl) ?_
    refine lv_aload_n hx hb dX4_has_5 rfl (lv_at hl 0 rfl) ?_
    refine va_get (D := E.1) (ci := 5) (v := .int (nI n)) (C := RX4) (T := TX4) (N := 3) hx hb hts i_c_has_X4 hown hK hP 0 rfl rfl 2 (by decide) (hts (.fieldLink RX4 18 "HushWatch$Scripts" "held" "I") (List.mem_of_getElem? (i := 1) rfl)) (fun _ h9 => h9) rfl dX4_has_6 ?_
    refine lv_icmp_ge (tgt := 21) hx hb dX4_has_9 (by decide) (fun c_2 => ?_) (fun c_2 => ?_)
    ·
      refine lv_iconst (v := 0) hx hb dX4_has_21 (by decide) ?_
      rw [hQ]
      exact W.zret (v := 0) hx hb hr rfl (fun tt ht hW => ⟨_, rfl, by have t0 : (0 : Int32).toInt = 0 := (by decide); have t4 : (4 : Int32).toInt = 4 := (by decide); have tn := nI_toInt (n := n) (by omega); unfold scH; split <;> first | rfl | (rename_i q9; exfalso; simp only [ge_iff_le, gt_iff_lt, Int32.lt_iff_toInt_lt, Int32.le_iff_toInt_le, t0, t4, tn] at q9 c_1 c_2; omega), ht⟩) (fun _ h => by cases h) dX4_has_22
    ·
      refine lv_iload_n hx hb dX4_has_12 rfl (lv_at hl 1 rfl) ?_
      refine lv_iconst (v := 4) hx hb dX4_has_13 (by decide) ?_
      refine lv_icmp_ge (tgt := 21) hx hb dX4_has_14 (by decide) (fun c_3 => ?_) (fun c_3 => ?_)
      ·
        refine lv_iconst (v := 0) hx hb dX4_has_21 (by decide) ?_
        rw [hQ]
        exact W.zret (v := 0) hx hb hr rfl (fun tt ht hW => ⟨_, rfl, by have t0 : (0 : Int32).toInt = 0 := (by decide); have t4 : (4 : Int32).toInt = 4 := (by decide); have tn := nI_toInt (n := n) (by omega); unfold scH; split <;> first | rfl | (rename_i q9; exfalso; simp only [ge_iff_le, gt_iff_lt, Int32.lt_iff_toInt_lt, Int32.le_iff_toInt_le, t0, t4, tn] at q9 c_1 c_2 c_3; omega), ht⟩) (fun _ h => by cases h) dX4_has_22
      ·
        obtain ⟨j_4, hj_4, ej_4⟩ : ∃ j : Nat, j ≤ 3 ∧ p0 = nI j := nat_rng (by have t0 : (0 : Int32).toInt = 0 := (by decide); have t1 : (3 : Int32).toInt = 3 := (by decide); have t2 : (4 : Int32).toInt = 4 := (by decide); simp only [Int32.lt_iff_toInt_lt, Int32.le_iff_toInt_le, ge_iff_le, gt_iff_lt, ne_eq, ← Int32.toInt_inj, t0, t1, t2] at c_1 c_3 ⊢; omega)
        refine lv_iconst (v := 1) hx hb dX4_has_17 (by decide) ?_
        refine lv_goto (tgt := 22) hx hb dX4_has_18 (by decide) ?_
        rw [hQ]
        exact W.zret (v := 1) hx hb hr rfl (fun tt ht hW => ⟨_, rfl, by have t0 : (0 : Int32).toInt = 0 := (by decide); have t4 : (4 : Int32).toInt = 4 := (by decide); have tn := nI_toInt (n := n) (by omega); unfold scH; split <;> first | rfl | (rename_i q9; exfalso; simp only [ge_iff_le, gt_iff_lt, Int32.lt_iff_toInt_lt, Int32.le_iff_toInt_le, t0, t4, tn] at q9 c_1 c_2 c_3; omega), ht⟩) (fun _ h => by cases h) dX4_has_22

def v_c_stepsOf : List Cond := .code yX4_stepsOf cX4_stepsOf 2 (some .int) :: ([.fieldLink RX4 15 "HushWatch$Scripts" "counts" "[I", .methodLink RX4 38 yX4_has, .instanceMethod yX4_has, .selects RX4 yX4_has yX4_has, .initialized RX4] ++ (v_c_has ++ (wsX40 ++ ([]))))
theorem gw_c_stepsOf : v_c_stepsOf.all goodWord = true := by decide +kernel
theorem i_c_stepsOf_X4 : ∀ w ∈ wsX40, w ∈ v_c_stepsOf := fun _ h => List.mem_cons_of_mem _ (List.mem_append_right _ (List.mem_append_right _ (List.mem_append_left _ h)))
theorem g_c_stepsOf_c_has_38 : GoodIn v_c_stepsOf (wsV RX4 38 RX4 yX4_has v_c_has) := goodIn_app (goodIn_of _ (by decide +kernel)) (goodIn_sub (fun _ h => List.mem_cons_of_mem _ (List.mem_append_right _ (List.mem_append_left _ h))) gw_c_has)
set_option maxHeartbeats 4000000 in
set_option maxRecDepth 100000 in
theorem c_stepsOf (l : Launch) (E : EE) (h c1 c2 n : Nat) (fc : Nat → Int32) (p0 : Int32) (hn : n ≤ 4) : Met l yX4_stepsOf v_c_stepsOf ({ frames := 1, cells := 0, slots := 0, locals := 21 }) (va_Pc [.ref h, .int p0] (pP E [(h, .inr (5, [.ref c1, .ref c2, .int (nI n)])), (c2, .inl (E.2.1, 4, .inl fc))])) (vp_Si (fun r : Int32 => r = scL n fc p0)) 0 0 (fun _ => False) := by
  refine Met.ofW (cc := cX4_stepsOf) (maxL := 2) (ret := (some .int)) (by decide) rfl ?_
  intro p e s m args below meth c s₁ B hml hv
  obtain ⟨rfl, ⟨hK, hN⟩, hP⟩ := hv
  have hx := B.exec
  have hb := B.bytes
  have hr := B.returns
  have hts := atoms_spec (ws := v_c_stepsOf) B.pre
  have hown : s.vm.findClass RX4 = some m.cls := findClass_of_methodNamed B.named
  have hlocks := B.notSynchronized
  have hP : va_P E.1 vwCl [(h, .inr (5, [.ref c1, .ref c2, .int (nI n)])), (c2, .inl (E.2.1, 4, .inl fc))] s.heap := hP
  have hl := lv_entry ([.ref h, .int p0]) (n := 2) (Nat.le_of_ble_eq_true rfl)
  rw [lg_entry_eq]
  generalize (lg_sl ([.ref h, .int p0]) ++ List.replicate (2 - (lg_sl ([.ref h, .int p0])).length) Slot.unset).toArray = ls at hl ⊢
  have hl : lv_has ls 2 [(0, .ref h), (1, .int p0)] := hl
  obtain ⟨Q, hQ⟩ : ∃ Q : State → Prop, Q = MQ below (vp_Si (fun r : Int32 => r = scL n fc p0)) #[Value.ref h, Value.int p0] s 0 0 (fun _ => False) := ⟨_, rfl⟩
  rw [← hQ]
  change W p l e ({ frames := 1, cells := 0, slots := 0, locals := 21 } : Room) s m #[Value.ref h, Value.int p0] below meth c s.heap [] 0 0 Q (F0 m 0 ls [])
  refine lv_aload_n hx hb dX4_stepsOf_0 rfl (lv_at hl 0 rfl) ?_
  refine lv_iload_n hx hb dX4_stepsOf_1 rfl (lv_at hl 1 rfl) ?_
  have hPc := hP.sub (ws' := [(h, .inr (5, [.ref c1, .ref c2, .int (nI n)]))]) [0] rfl
  refine pc_i (va_runV (As := [.int p0]) (rest := []) ⟨hx, hb, hml, hown, hts⟩ (c_has l E h c1 c2 n p0 (by omega)) (cwV 1 hts g_c_stepsOf_c_has_38 rfl rfl rfl (by decide +kernel) ⟨Nat.le_of_ble_eq_true rfl, Nat.le_of_ble_eq_true rfl⟩) ⟨pP.blind, va_recv hK hPc (ci := 5) (q0 := 0) rfl rfl, (pP.pre ⟨hK, hN⟩ hPc)⟩ rfl rfl hl.1 rfl (lv_room (Nat.le_of_ble_eq_true rfl)) dX4_stepsOf_2 ⟨Nat.le_of_ble_eq_true rfl, Nat.le_of_ble_eq_true rfl⟩) (fun r_1 hr_1 => ?_)
  refine lv_if_eq (tgt := 17) hx hb dX4_stepsOf_5 (by decide) (fun c_2 => ?_) (fun c_2 => ?_)
  ·
    obtain ⟨j_3, hj_3, ej_3⟩ : ∃ j : Nat, j ≤ 0 ∧ r_1 = nI j := nat_rng (by have t0 : (0 : Int32).toInt = 0 := (by decide); simp only [Int32.lt_iff_toInt_lt, Int32.le_iff_toInt_le, ge_iff_le, gt_iff_lt, ne_eq, ← Int32.toInt_inj, t0] at c_2 ⊢; omega)
    refine lv_iconst (v := 0) hx hb dX4_stepsOf_17 (by decide) ?_
    rw [hQ]
    exact W.iret (v := 0) hx hb hr (fun tt ht hW => ⟨_, rfl, scL_0 hr_1 c_2, ht⟩) (fun _ h => by cases h) dX4_stepsOf_18
  ·
    obtain ⟨j_4, hj_4, ej_4⟩ := scH_1 hn hr_1 c_2
    refine lv_aload_n hx hb dX4_stepsOf_8 rfl (lv_at hl 0 rfl) ?_
    refine va_get (D := E.1) (ci := 5) (v := .ref c2) (C := RX4) (T := TX4) (N := 3) hx hb hts i_c_stepsOf_X4 hown hK hP 0 rfl rfl 1 (by decide) (hts (.fieldLink RX4 15 "HushWatch$Scripts" "counts" "[I") (List.mem_of_getElem? (i := 1) rfl)) (fun _ h9 => h9) rfl dX4_stepsOf_9 ?_
    refine lv_iload_n hx hb dX4_stepsOf_12 rfl (lv_at hl 1 rfl) ?_
    refine W.eq (g2 := F0 m 13 ls [.int (nI j_4), .ref c2]) (by rw [ej_4]) ?_
    refine va_iald hx hb hK hP 1 0 rfl rfl (vp_in_nI (by omega) (by decide)) dX4_stepsOf_13 ?_
    refine lv_topi (fun z_5 ez_5 => ?_)
    refine lv_goto (tgt := 18) hx hb dX4_stepsOf_14 (by decide) ?_
    rw [hQ]
    exact W.iret (v := z_5) hx hb hr (fun tt ht hW => ⟨_, rfl, scL_1 hr_1 c_2 (by rw [ez_5, ej_4]), ht⟩) (fun _ h => by cases h) dX4_stepsOf_18

def v_c_read : List Cond := .code yX4_read cX4_read 4 (some .int) :: ([.constant RX4 46 (-100000000), .fieldLink RX4 11 "HushWatch$Scripts" "steps" "[I", .methodLink RX4 42 yX4_stepsOf, .instanceMethod yX4_stepsOf, .selects RX4 yX4_stepsOf yX4_stepsOf, .initialized RX4] ++ (v_c_stepsOf ++ (wsX40 ++ ([]))))
theorem gw_c_read : v_c_read.all goodWord = true := by decide +kernel
theorem i_c_read_X4 : ∀ w ∈ wsX40, w ∈ v_c_read := fun _ h => List.mem_cons_of_mem _ (List.mem_append_right _ (List.mem_append_right _ (List.mem_append_left _ h)))
theorem g_c_read_c_stepsOf_42 : GoodIn v_c_read (wsV RX4 42 RX4 yX4_stepsOf v_c_stepsOf) := goodIn_app (goodIn_of _ (by decide +kernel)) (goodIn_sub (fun _ h => List.mem_cons_of_mem _ (List.mem_append_right _ (List.mem_append_left _ h))) gw_c_stepsOf)
set_option maxHeartbeats 4000000 in
set_option maxRecDepth 100000 in
theorem c_read (l : Launch) (E : EE) (h c1 c2 n : Nat) (fs fc : Nat → Int32) (p0 p1 p2 : Int32) (hn : n ≤ 4) (hs : sOK fc) : Met l yX4_read v_c_read ({ frames := 2, cells := 0, slots := 0, locals := 42 }) (va_Pc [.ref h, .int p0, .int p1, .int p2] (pP E [(h, .inr (5, [.ref c1, .ref c2, .int (nI n)])), (c1, .inl (E.2.1, 192, .inl fs)), (c2, .inl (E.2.1, 4, .inl fc))])) (vp_Si (fun r : Int32 => True)) 0 0 (fun _ => False) := by
  refine Met.ofW (cc := cX4_read) (maxL := 4) (ret := (some .int)) (by decide) rfl ?_
  intro p e s m args below meth c s₁ B hml hv
  obtain ⟨rfl, ⟨hK, hN⟩, hP⟩ := hv
  have hx := B.exec
  have hb := B.bytes
  have hr := B.returns
  have hts := atoms_spec (ws := v_c_read) B.pre
  have hown : s.vm.findClass RX4 = some m.cls := findClass_of_methodNamed B.named
  have hlocks := B.notSynchronized
  have hP : va_P E.1 vwCl [(h, .inr (5, [.ref c1, .ref c2, .int (nI n)])), (c1, .inl (E.2.1, 192, .inl fs)), (c2, .inl (E.2.1, 4, .inl fc))] s.heap := hP
  have hl := lv_entry ([.ref h, .int p0, .int p1, .int p2]) (n := 4) (Nat.le_of_ble_eq_true rfl)
  rw [lg_entry_eq]
  generalize (lg_sl ([.ref h, .int p0, .int p1, .int p2]) ++ List.replicate (4 - (lg_sl ([.ref h, .int p0, .int p1, .int p2])).length) Slot.unset).toArray = ls at hl ⊢
  have hl : lv_has ls 4 [(0, .ref h), (1, .int p0), (2, .int p1), (3, .int p2)] := hl
  obtain ⟨Q, hQ⟩ : ∃ Q : State → Prop, Q = MQ below (vp_Si (fun r : Int32 => True)) #[Value.ref h, Value.int p0, Value.int p1, Value.int p2] s 0 0 (fun _ => False) := ⟨_, rfl⟩
  rw [← hQ]
  change W p l e ({ frames := 2, cells := 0, slots := 0, locals := 42 } : Room) s m #[Value.ref h, Value.int p0, Value.int p1, Value.int p2] below meth c s.heap [] 0 0 Q (F0 m 0 ls [])
  refine lv_iload_n hx hb dX4_read_0 rfl (lv_at hl 2 rfl) ?_
  refine lv_if_lt (tgt := 22) hx hb dX4_read_1 (by decide) (fun c_1 => ?_) (fun c_1 => ?_)
  ·
    refine lv_ldc (v := -100000000) hx hb hown (hts (.constant RX4 46 (-100000000)) (List.mem_of_getElem? (i := 1) rfl)) dX4_read_22 ?_
    rw [hQ]
    exact W.iret (v := -100000000) hx hb hr (fun tt ht hW => ⟨_, rfl, trivial, ht⟩) (fun _ h => by cases h) dX4_read_24
  ·
    refine lv_iload_n hx hb dX4_read_4 rfl (lv_at hl 2 rfl) ?_
    refine lv_aload_n hx hb dX4_read_5 rfl (lv_at hl 0 rfl) ?_
    refine lv_iload_n hx hb dX4_read_6 rfl (lv_at hl 1 rfl) ?_
    have hPc := hP.sub (ws' := [(h, .inr (5, [.ref c1, .ref c2, .int (nI n)])), (c2, .inl (E.2.1, 4, .inl fc))]) [0, 2] rfl
    refine pc_i (va_runV (As := [.int p0]) (rest := [.int p1]) ⟨hx, hb, hml, hown, hts⟩ (c_stepsOf l E h c1 c2 n fc p0 (by omega)) (cwV 1 hts g_c_read_c_stepsOf_42 rfl rfl rfl (by decide +kernel) ⟨Nat.le_of_ble_eq_true rfl, Nat.le_of_ble_eq_true rfl⟩) ⟨pP.blind, va_recv hK hPc (ci := 5) (q0 := 0) rfl rfl, (pP.pre ⟨hK, hN⟩ hPc)⟩ rfl rfl hl.1 rfl (lv_room (Nat.le_of_ble_eq_true rfl)) dX4_read_7 ⟨Nat.le_of_ble_eq_true rfl, Nat.le_of_ble_eq_true rfl⟩) (fun r_2 hr_2 => ?_)
    refine lv_icmp_ge (tgt := 22) hx hb dX4_read_10 (by decide) (fun c_3 => ?_) (fun c_3 => ?_)
    ·
      refine lv_ldc (v := -100000000) hx hb hown (hts (.constant RX4 46 (-100000000)) (List.mem_of_getElem? (i := 1) rfl)) dX4_read_22 ?_
      rw [hQ]
      exact W.iret (v := -100000000) hx hb hr (fun tt ht hW => ⟨_, rfl, trivial, ht⟩) (fun _ h => by cases h) dX4_read_24
    ·
      refine lv_iload_n hx hb dX4_read_13 rfl (lv_at hl 3 rfl) ?_
      refine lv_if_lt (tgt := 22) hx hb dX4_read_14 (by decide) (fun c_4 => ?_) (fun c_4 => ?_)
      ·
        refine lv_ldc (v := -100000000) hx hb hown (hts (.constant RX4 46 (-100000000)) (List.mem_of_getElem? (i := 1) rfl)) dX4_read_22 ?_
        rw [hQ]
        exact W.iret (v := -100000000) hx hb hr (fun tt ht hW => ⟨_, rfl, trivial, ht⟩) (fun _ h => by cases h) dX4_read_24
      ·
        refine lv_iload_n hx hb dX4_read_17 rfl (lv_at hl 3 rfl) ?_
        refine lv_iconst (v := 4) hx hb dX4_read_18 (by decide) ?_
        refine lv_icmp_lt (tgt := 25) hx hb dX4_read_19 (by decide) (fun c_5 => ?_) (fun c_5 => ?_)
        ·
          obtain ⟨j_6, hj_6, ej_6⟩ : ∃ j : Nat, j ≤ 3 ∧ p2 = nI j := nat_rng (by have t0 : (0 : Int32).toInt = 0 := (by decide); have t1 : (3 : Int32).toInt = 3 := (by decide); have t2 : (4 : Int32).toInt = 4 := (by decide); simp only [Int32.lt_iff_toInt_lt, Int32.le_iff_toInt_le, ge_iff_le, gt_iff_lt, ne_eq, ← Int32.toInt_inj, t0, t1, t2] at c_4 c_5 ⊢; omega)
          obtain ⟨j_7, j_8, hj_7, ej_7, hj_8, ej_8⟩ := scR hn hs hr_2 c_1 c_3
          refine lv_aload_n hx hb dX4_read_25 rfl (lv_at hl 0 rfl) ?_
          refine va_get (D := E.1) (ci := 5) (v := .ref c1) (C := RX4) (T := TX4) (N := 3) hx hb hts i_c_read_X4 hown hK hP 0 rfl rfl 0 (by decide) (hts (.fieldLink RX4 11 "HushWatch$Scripts" "steps" "[I") (List.mem_of_getElem? (i := 2) rfl)) (fun _ h9 => h9) rfl dX4_read_26 ?_
          refine lv_iload_n hx hb dX4_read_29 rfl (lv_at hl 1 rfl) ?_
          refine W.eq (g2 := F0 m 30 ls [.int (nI j_7), .ref c1]) (by rw [ej_7]) ?_
          refine lv_bipush (v := 48) hx hb dX4_read_30 (by decide) ?_
          refine lv_imul hx hb dX4_read_32 ?_
          refine lv_topi (fun z_9 ez_9 => ?_)
          obtain rfl : z_9 = nI (j_7 * 48) := ez_9.trans (nI_mul _ 48)
          refine lv_iload_n hx hb dX4_read_33 rfl (lv_at hl 2 rfl) ?_
          refine W.eq (g2 := F0 m 34 ls [.int (nI j_8), .int (nI (j_7 * 48)), .ref c1]) (by rw [ej_8]) ?_
          refine lv_iconst (v := 4) hx hb dX4_read_34 (by decide) ?_
          refine lv_imul hx hb dX4_read_35 ?_
          refine lv_topi (fun z_10 ez_10 => ?_)
          obtain rfl : z_10 = nI (j_8 * 4) := ez_10.trans (nI_mul _ 4)
          refine lv_iadd hx hb dX4_read_36 ?_
          refine lv_topi (fun z_11 ez_11 => ?_)
          obtain rfl : z_11 = nI (j_7 * 48 + (j_8 * 4)) := ez_11.trans (nI_add _ _)
          refine lv_iload_n hx hb dX4_read_37 rfl (lv_at hl 3 rfl) ?_
          refine W.eq (g2 := F0 m 38 ls [.int (nI j_6), .int (nI (j_7 * 48 + (j_8 * 4))), .ref c1]) (by rw [ej_6]) ?_
          refine lv_iadd hx hb dX4_read_38 ?_
          refine lv_topi (fun z_12 ez_12 => ?_)
          obtain rfl : z_12 = nI (j_7 * 48 + (j_8 * 4) + j_6) := ez_12.trans (nI_add _ _)
          refine va_iald hx hb hK hP 1 0 rfl rfl (vp_in_nI (by omega) (by decide)) dX4_read_39 ?_
          refine lv_topi (fun z_13 ez_13 => ?_)
          rw [hQ]
          exact W.iret (v := z_13) hx hb hr (fun tt ht hW => ⟨_, rfl, trivial, ht⟩) (fun _ h => by cases h) dX4_read_40
        ·
          refine lv_ldc (v := -100000000) hx hb hown (hts (.constant RX4 46 (-100000000)) (List.mem_of_getElem? (i := 1) rfl)) dX4_read_22 ?_
          rw [hQ]
          exact W.iret (v := -100000000) hx hb hr (fun tt ht hW => ⟨_, rfl, trivial, ht⟩) (fun _ h => by cases h) dX4_read_24
