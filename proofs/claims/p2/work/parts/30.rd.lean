theorem dX3_isLetter_0 : decode cX3_isLetter 0 = .ok (.iload_n 0, 1) := by decide +kernel
theorem dX3_isLetter_1 : decode cX3_isLetter 1 = .ok (.bipush 97, 2) := by decide +kernel
theorem dX3_isLetter_3 : decode cX3_isLetter 3 = .ok (.if_icmp .lt 13, 3) := by decide +kernel
theorem dX3_isLetter_16 : decode cX3_isLetter 16 = .ok (.iconst 0, 1) := by decide +kernel
theorem dX3_isLetter_17 : decode cX3_isLetter 17 = .ok (.ireturn, 1) := by decide +kernel
theorem dX3_isLetter_6 : decode cX3_isLetter 6 = .ok (.iload_n 0, 1) := by decide +kernel
theorem dX3_isLetter_7 : decode cX3_isLetter 7 = .ok (.bipush 122, 2) := by decide +kernel
theorem dX3_isLetter_9 : decode cX3_isLetter 9 = .ok (.if_icmp .gt 7, 3) := by decide +kernel
theorem dX3_isLetter_12 : decode cX3_isLetter 12 = .ok (.iconst 1, 1) := by decide +kernel
theorem dX3_isLetter_13 : decode cX3_isLetter 13 = .ok (.goto 4, 3) := by decide +kernel
theorem dX3_isDigit_0 : decode cX3_isDigit 0 = .ok (.iload_n 0, 1) := by decide +kernel
theorem dX3_isDigit_1 : decode cX3_isDigit 1 = .ok (.bipush 48, 2) := by decide +kernel
theorem dX3_isDigit_3 : decode cX3_isDigit 3 = .ok (.if_icmp .lt 13, 3) := by decide +kernel
theorem dX3_isDigit_16 : decode cX3_isDigit 16 = .ok (.iconst 0, 1) := by decide +kernel
theorem dX3_isDigit_17 : decode cX3_isDigit 17 = .ok (.ireturn, 1) := by decide +kernel
theorem dX3_isDigit_6 : decode cX3_isDigit 6 = .ok (.iload_n 0, 1) := by decide +kernel
theorem dX3_isDigit_7 : decode cX3_isDigit 7 = .ok (.bipush 57, 2) := by decide +kernel
theorem dX3_isDigit_9 : decode cX3_isDigit 9 = .ok (.if_icmp .gt 7, 3) := by decide +kernel
theorem dX3_isDigit_12 : decode cX3_isDigit 12 = .ok (.iconst 1, 1) := by decide +kernel
theorem dX3_isDigit_13 : decode cX3_isDigit 13 = .ok (.goto 4, 3) := by decide +kernel
theorem dX3_failAt_0 : decode cX3_failAt 0 = .ok (.aload_n 0, 1) := by decide +kernel
theorem dX3_failAt_1 : decode cX3_failAt 1 = .ok (.iload_n 1, 1) := by decide +kernel
theorem dX3_failAt_2 : decode cX3_failAt 2 = .ok (.putfield 40, 3) := by decide +kernel
theorem dX3_failAt_5 : decode cX3_failAt 5 = .ok (.iconst 0, 1) := by decide +kernel
theorem dX3_failAt_6 : decode cX3_failAt 6 = .ok (.ireturn, 1) := by decide +kernel
theorem dX7_isWay_0 : decode cX7_isWay 0 = .ok (.iload_n 0, 1) := by decide +kernel
theorem dX7_isWay_1 : decode cX7_isWay 1 = .ok (.iload_n 1, 1) := by decide +kernel
theorem dX7_isWay_2 : decode cX7_isWay 2 = .ok (.invokestatic 336, 3) := by decide +kernel
theorem dX7_isWay_21 : decode cX7_isWay 21 = .ok (.ireturn, 1) := by decide +kernel
theorem dX7_isWay_5 : decode cX7_isWay 5 = .ok (.ifCond .eq 15, 3) := by decide +kernel
theorem dX7_isWay_20 : decode cX7_isWay 20 = .ok (.iconst 0, 1) := by decide +kernel
theorem dX7_isWay_8 : decode cX7_isWay 8 = .ok (.iload_n 0, 1) := by decide +kernel
theorem dX7_isWay_9 : decode cX7_isWay 9 = .ok (.ifCond .ne 7, 3) := by decide +kernel
theorem dX7_isWay_16 : decode cX7_isWay 16 = .ok (.iconst 1, 1) := by decide +kernel
theorem dX7_isWay_17 : decode cX7_isWay 17 = .ok (.goto 4, 3) := by decide +kernel
theorem dX7_isWay_12 : decode cX7_isWay 12 = .ok (.iload_n 1, 1) := by decide +kernel
theorem dX7_isWay_13 : decode cX7_isWay 13 = .ok (.ifCond .eq 7, 3) := by decide +kernel
def v_r_isLetter : List Cond := .code yX3_isLetter cX3_isLetter 1 (some .boolean) :: ([] ++ ([]))
theorem gw_r_isLetter : v_r_isLetter.all goodWord = true := by decide +kernel
set_option maxHeartbeats 4000000 in
set_option maxRecDepth 100000 in
theorem r_isLetter (l : Launch) (E : EE) (p0 : Int32) : Met l yX3_isLetter v_r_isLetter ({ frames := 0, cells := 0, slots := 0, locals := 0 }) (va_Pc [.int p0] (pP E [])) (vp_Si (fun r : Int32 => r = if 97 ≤ p0 ∧ p0 ≤ 122 then 1 else 0)) 0 0 (fun _ => False) := by
  refine Met.ofW (cc := cX3_isLetter) (maxL := 1) (ret := (some .boolean)) (by decide) rfl ?_
  intro p e s m args below meth c s₁ B hml hv
  obtain ⟨rfl, ⟨hK, hN⟩, hP⟩ := hv
  have hx := B.exec
  have hb := B.bytes
  have hr := B.returns
  have hts := atoms_spec (ws := v_r_isLetter) B.pre
  have hown : s.vm.findClass RX3 = some m.cls := findClass_of_methodNamed B.named
  have hlocks := B.notSynchronized
  have hP : va_P E.1 vwCl [] s.heap := hP
  have hl := lv_entry ([.int p0]) (n := 1) (Nat.le_of_ble_eq_true rfl)
  rw [lg_entry_eq]
  generalize (lg_sl ([.int p0]) ++ List.replicate (1 - (lg_sl ([.int p0])).length) Slot.unset).toArray = ls at hl ⊢
  have hl : lv_has ls 1 [(0, .int p0)] := hl
  obtain ⟨Q, hQ⟩ : ∃ Q : State → Prop, Q = MQ below (vp_Si (fun r : Int32 => r = if 97 ≤ p0 ∧ p0 ≤ 122 then 1 else 0)) #[Value.int p0] s 0 0 (fun _ => False) := ⟨_, rfl⟩
  rw [← hQ]
  change W p l e ({ frames := 0, cells := 0, slots := 0, locals := 0 } : Room) s m #[Value.int p0] below meth c s.heap [] 0 0 Q (F0 m 0 ls [])
  refine lv_iload_n hx hb dX3_isLetter_0 rfl (lv_at hl 0 rfl) ?_
  refine lv_bipush (v := 97) hx hb dX3_isLetter_1 (by decide) ?_
  refine lv_icmp_lt (tgt := 16) hx hb dX3_isLetter_3 (by decide) (fun c_1 => ?_) (fun c_1 => ?_)
  ·
    refine lv_iconst (v := 0) hx hb dX3_isLetter_16 (by decide) ?_
    rw [hQ]
    exact W.zret (v := 0) hx hb hr rfl (fun tt ht hW => ⟨_, rfl, by have t0 : (97 : Int32).toInt = 97 := (by decide); have t1 : (122 : Int32).toInt = 122 := (by decide); split <;> first | rfl | (rename_i q9; exfalso; simp only [ge_iff_le, gt_iff_lt, Int32.lt_iff_toInt_lt, Int32.le_iff_toInt_le, t0, t1] at q9 c_1; omega), ht⟩) (fun _ h => by cases h) dX3_isLetter_17
  ·
    refine lv_iload_n hx hb dX3_isLetter_6 rfl (lv_at hl 0 rfl) ?_
    refine lv_bipush (v := 122) hx hb dX3_isLetter_7 (by decide) ?_
    refine lv_icmp_gt (tgt := 16) hx hb dX3_isLetter_9 (by decide) (fun c_2 => ?_) (fun c_2 => ?_)
    ·
      refine lv_iconst (v := 0) hx hb dX3_isLetter_16 (by decide) ?_
      rw [hQ]
      exact W.zret (v := 0) hx hb hr rfl (fun tt ht hW => ⟨_, rfl, by have t0 : (97 : Int32).toInt = 97 := (by decide); have t1 : (122 : Int32).toInt = 122 := (by decide); split <;> first | rfl | (rename_i q9; exfalso; simp only [ge_iff_le, gt_iff_lt, Int32.lt_iff_toInt_lt, Int32.le_iff_toInt_le, t0, t1] at q9 c_1 c_2; omega), ht⟩) (fun _ h => by cases h) dX3_isLetter_17
    ·
      obtain ⟨j_3, hj_3, ej_3⟩ : ∃ j : Nat, j ≤ 122 ∧ p0 = nI j := nat_rng (by have t0 : (0 : Int32).toInt = 0 := (by decide); have t1 : (97 : Int32).toInt = 97 := (by decide); have t2 : (122 : Int32).toInt = 122 := (by decide); simp only [Int32.lt_iff_toInt_lt, Int32.le_iff_toInt_le, ge_iff_le, gt_iff_lt, ne_eq, ← Int32.toInt_inj, t0, t1, t2] at c_1 c_2 ⊢; omega)
      refine lv_iconst (v := 1) hx hb dX3_isLetter_12 (by decide) ?_
      refine lv_goto (tgt := 17) hx hb dX3_isLetter_13 (by decide) ?_
      rw [hQ]
      exact W.zret (v := 1) hx hb hr rfl (fun tt ht hW => ⟨_, rfl, by have t0 : (97 : Int32).toInt = 97 := (by decide); have t1 : (122 : Int32).toInt = 122 := (by decide); split <;> first | rfl | (rename_i q9; exfalso; simp only [ge_iff_le, gt_iff_lt, Int32.lt_iff_toInt_lt, Int32.le_iff_toInt_le, t0, t1] at q9 c_1 c_2; omega), ht⟩) (fun _ h => by cases h) dX3_isLetter_17

def v_r_isDigit : List Cond := .code yX3_isDigit cX3_isDigit 1 (some .boolean) :: ([] ++ ([]))
theorem gw_r_isDigit : v_r_isDigit.all goodWord = true := by decide +kernel
set_option maxHeartbeats 4000000 in
set_option maxRecDepth 100000 in
theorem r_isDigit (l : Launch) (E : EE) (p0 : Int32) : Met l yX3_isDigit v_r_isDigit ({ frames := 0, cells := 0, slots := 0, locals := 0 }) (va_Pc [.int p0] (pP E [])) (vp_Si (fun r : Int32 => r = if 48 ≤ p0 ∧ p0 ≤ 57 then 1 else 0)) 0 0 (fun _ => False) := by
  refine Met.ofW (cc := cX3_isDigit) (maxL := 1) (ret := (some .boolean)) (by decide) rfl ?_
  intro p e s m args below meth c s₁ B hml hv
  obtain ⟨rfl, ⟨hK, hN⟩, hP⟩ := hv
  have hx := B.exec
  have hb := B.bytes
  have hr := B.returns
  have hts := atoms_spec (ws := v_r_isDigit) B.pre
  have hown : s.vm.findClass RX3 = some m.cls := findClass_of_methodNamed B.named
  have hlocks := B.notSynchronized
  have hP : va_P E.1 vwCl [] s.heap := hP
  have hl := lv_entry ([.int p0]) (n := 1) (Nat.le_of_ble_eq_true rfl)
  rw [lg_entry_eq]
  generalize (lg_sl ([.int p0]) ++ List.replicate (1 - (lg_sl ([.int p0])).length) Slot.unset).toArray = ls at hl ⊢
  have hl : lv_has ls 1 [(0, .int p0)] := hl
  obtain ⟨Q, hQ⟩ : ∃ Q : State → Prop, Q = MQ below (vp_Si (fun r : Int32 => r = if 48 ≤ p0 ∧ p0 ≤ 57 then 1 else 0)) #[Value.int p0] s 0 0 (fun _ => False) := ⟨_, rfl⟩
  rw [← hQ]
  change W p l e ({ frames := 0, cells := 0, slots := 0, locals := 0 } : Room) s m #[Value.int p0] below meth c s.heap [] 0 0 Q (F0 m 0 ls [])
  refine lv_iload_n hx hb dX3_isDigit_0 rfl (lv_at hl 0 rfl) ?_
  refine lv_bipush (v := 48) hx hb dX3_isDigit_1 (by decide) ?_
  refine lv_icmp_lt (tgt := 16) hx hb dX3_isDigit_3 (by decide) (fun c_1 => ?_) (fun c_1 => ?_)
  ·
    refine lv_iconst (v := 0) hx hb dX3_isDigit_16 (by decide) ?_
    rw [hQ]
    exact W.zret (v := 0) hx hb hr rfl (fun tt ht hW => ⟨_, rfl, by have t0 : (48 : Int32).toInt = 48 := (by decide); have t1 : (57 : Int32).toInt = 57 := (by decide); split <;> first | rfl | (rename_i q9; exfalso; simp only [ge_iff_le, gt_iff_lt, Int32.lt_iff_toInt_lt, Int32.le_iff_toInt_le, t0, t1] at q9 c_1; omega), ht⟩) (fun _ h => by cases h) dX3_isDigit_17
  ·
    refine lv_iload_n hx hb dX3_isDigit_6 rfl (lv_at hl 0 rfl) ?_
    refine lv_bipush (v := 57) hx hb dX3_isDigit_7 (by decide) ?_
    refine lv_icmp_gt (tgt := 16) hx hb dX3_isDigit_9 (by decide) (fun c_2 => ?_) (fun c_2 => ?_)
    ·
      refine lv_iconst (v := 0) hx hb dX3_isDigit_16 (by decide) ?_
      rw [hQ]
      exact W.zret (v := 0) hx hb hr rfl (fun tt ht hW => ⟨_, rfl, by have t0 : (48 : Int32).toInt = 48 := (by decide); have t1 : (57 : Int32).toInt = 57 := (by decide); split <;> first | rfl | (rename_i q9; exfalso; simp only [ge_iff_le, gt_iff_lt, Int32.lt_iff_toInt_lt, Int32.le_iff_toInt_le, t0, t1] at q9 c_1 c_2; omega), ht⟩) (fun _ h => by cases h) dX3_isDigit_17
    ·
      obtain ⟨j_3, hj_3, ej_3⟩ : ∃ j : Nat, j ≤ 57 ∧ p0 = nI j := nat_rng (by have t0 : (0 : Int32).toInt = 0 := (by decide); have t1 : (48 : Int32).toInt = 48 := (by decide); have t2 : (57 : Int32).toInt = 57 := (by decide); simp only [Int32.lt_iff_toInt_lt, Int32.le_iff_toInt_le, ge_iff_le, gt_iff_lt, ne_eq, ← Int32.toInt_inj, t0, t1, t2] at c_1 c_2 ⊢; omega)
      refine lv_iconst (v := 1) hx hb dX3_isDigit_12 (by decide) ?_
      refine lv_goto (tgt := 17) hx hb dX3_isDigit_13 (by decide) ?_
      rw [hQ]
      exact W.zret (v := 1) hx hb hr rfl (fun tt ht hW => ⟨_, rfl, by have t0 : (48 : Int32).toInt = 48 := (by decide); have t1 : (57 : Int32).toInt = 57 := (by decide); split <;> first | rfl | (rename_i q9; exfalso; simp only [ge_iff_le, gt_iff_lt, Int32.lt_iff_toInt_lt, Int32.le_iff_toInt_le, t0, t1] at q9 c_1 c_2; omega), ht⟩) (fun _ h => by cases h) dX3_isDigit_17

def v_r_failAt : List Cond := .code yX3_failAt cX3_failAt 2 (some .boolean) :: ([.fieldLink RX3 40 "HushWatch$Reader" "failed" "I"] ++ (wsX30 ++ ([])))
theorem gw_r_failAt : v_r_failAt.all goodWord = true := by decide +kernel
theorem i_r_failAt_X3 : ∀ w ∈ wsX30, w ∈ v_r_failAt := fun _ h => List.mem_cons_of_mem _ (List.mem_append_right _ (List.mem_append_left _ h))
set_option maxHeartbeats 4000000 in
set_option maxRecDepth 100000 in
theorem r_failAt (l : Launch) (E : EE) (sz : Nat) (h t r1 r2 r3 : Nat) (y4 y5 y6 y7 y8 y9 y10 p0 : Int32) : Met l yX3_failAt v_r_failAt ({ frames := 0, cells := 0, slots := 0, locals := 0 }) (va_Pc [.ref h, .int p0] (pW E sz [(h, .inr (4, [.ref t, .ref r1, .ref r2, .ref r3, .int y4, .int y5, .int y6, .int y7, .int y8, .int y9, .int y10]))])) (va_Qi (fun (r : Int32) (_u : Unit) => (r = 0)) (fun (_u : Unit) tt => va_P E.1 vwCl [(h, .inr (4, [.ref t, .ref r1, .ref r2, .ref r3, .int y4, .int y5, .int y6, .int y7, .int y8, .int y9, .int p0]))] tt.heap ∧ va_D (va_A [(h, .inr (4, [.ref t, .ref r1, .ref r2, .ref r3, .int y4, .int y5, .int y6, .int y7, .int y8, .int y9, .int y10]))] sz) [(h, .inr (4, [.ref t, .ref r1, .ref r2, .ref r3, .int y4, .int y5, .int y6, .int y7, .int y8, .int y9, .int p0]))]) (va_A [(h, .inr (4, [.ref t, .ref r1, .ref r2, .ref r3, .int y4, .int y5, .int y6, .int y7, .int y8, .int y9, .int y10]))] sz)) 0 0 (va_A [(h, .inr (4, [.ref t, .ref r1, .ref r2, .ref r3, .int y4, .int y5, .int y6, .int y7, .int y8, .int y9, .int y10]))] sz) := by
  refine Met.ofW (cc := cX3_failAt) (maxL := 2) (ret := (some .boolean)) (by decide) rfl ?_
  intro p e s m args below meth c s₁ B hml hv
  obtain ⟨rfl, hsz, ⟨hK, hN⟩, hP, hD0⟩ := hv
  have hx := B.exec
  have hb := B.bytes
  have hr := B.returns
  have hts := atoms_spec (ws := v_r_failAt) B.pre
  have hown : s.vm.findClass RX3 = some m.cls := findClass_of_methodNamed B.named
  have hlocks := B.notSynchronized
  subst hsz
  have hD := hD0.self (sz := s.heap.size)
  generalize hAe : va_A [(h, .inr (4, [.ref t, .ref r1, .ref r2, .ref r3, .int y4, .int y5, .int y6, .int y7, .int y8, .int y9, .int y10]))] s.heap.size = A at hD ⊢
  have hA : ∀ q : Nat, s.heap.size ≤ q → A q := fun q h => by rw [← hAe]; exact Or.inr h
  have hS : va_S A s.heap s.heap [] := va_S.rf
  have hP : va_P E.1 vwCl [(h, .inr (4, [.ref t, .ref r1, .ref r2, .ref r3, .int y4, .int y5, .int y6, .int y7, .int y8, .int y9, .int y10]))] s.heap := hP
  have hl := lv_entry ([.ref h, .int p0]) (n := 2) (Nat.le_of_ble_eq_true rfl)
  rw [lg_entry_eq]
  generalize (lg_sl ([.ref h, .int p0]) ++ List.replicate (2 - (lg_sl ([.ref h, .int p0])).length) Slot.unset).toArray = ls at hl ⊢
  have hl : lv_has ls 2 [(0, .ref h), (1, .int p0)] := hl
  obtain ⟨Q, hQ⟩ : ∃ Q : State → Prop, Q = MQ below (va_Qi (fun (r : Int32) (_u : Unit) => (r = 0)) (fun (_u : Unit) tt => va_P E.1 vwCl [(h, .inr (4, [.ref t, .ref r1, .ref r2, .ref r3, .int y4, .int y5, .int y6, .int y7, .int y8, .int y9, .int p0]))] tt.heap ∧ va_D A [(h, .inr (4, [.ref t, .ref r1, .ref r2, .ref r3, .int y4, .int y5, .int y6, .int y7, .int y8, .int y9, .int p0]))]) A) #[Value.ref h, Value.int p0] s 0 0 A := ⟨_, rfl⟩
  rw [← hQ]
  change W p l e ({ frames := 0, cells := 0, slots := 0, locals := 0 } : Room) s m #[Value.ref h, Value.int p0] below meth c s.heap [] 0 0 Q (F0 m 0 ls [])
  refine lv_aload_n hx hb dX3_failAt_0 rfl (lv_at hl 0 rfl) ?_
  refine lv_iload_n hx hb dX3_failAt_1 rfl (lv_at hl 1 rfl) ?_
  refine va_put (D := E.1) (ci := 4) (v := .int p0) (ty := .int) (C := RX3) (T := TX3) (N := 11) hx hb hts i_r_failAt_X3 tyX3 tyX3_ok nmX3 hown hK hP hD hS 0 rfl rfl 10 (by decide) (hts (.fieldLink RX3 40 "HushWatch$Reader" "failed" "I") (List.mem_of_getElem? (i := 1) rfl)) (fun _ h9 => h9) rfl (by decide +kernel) rfl rfl (Nat.le_of_ble_eq_true rfl) dX3_failAt_2 (fun H locs hP hD hS => ?_)
  have hP : va_P E.1 vwCl [(h, .inr (4, [.ref t, .ref r1, .ref r2, .ref r3, .int y4, .int y5, .int y6, .int y7, .int y8, .int y9, .int p0]))] H := hP
  have hD : va_D A [(h, .inr (4, [.ref t, .ref r1, .ref r2, .ref r3, .int y4, .int y5, .int y6, .int y7, .int y8, .int y9, .int p0]))] := hD
  refine lv_iconst (v := 0) hx hb dX3_failAt_5 (by decide) ?_
  rw [hQ]
  have hP9 := hP.sub (ws' := [(h, .inr (4, [.ref t, .ref r1, .ref r2, .ref r3, .int y4, .int y5, .int y6, .int y7, .int y8, .int y9, .int p0]))]) [0] rfl
  have hD9 := hD.sub (ws' := [(h, .inr (4, [.ref t, .ref r1, .ref r2, .ref r3, .int y4, .int y5, .int y6, .int y7, .int y8, .int y9, .int p0]))]) [0] (by decide) rfl
  exact W.zret (v := 0) hx hb hr rfl (fun tt ht hW => ⟨⟨_, (), rfl, rfl, by rw [ht]; exact hP9, hD9⟩, hS.F ht⟩) hS.2.2 dX3_failAt_6

def v_x_isWay : List Cond := .code yX7_isWay cX7_isWay 2 (some .boolean) :: ([.methodLink RX7 336 yX7_isMovable, .static yX7_isMovable, .initialized RX7] ++ (v_x_isMovable ++ ([])))
theorem gw_x_isWay : v_x_isWay.all goodWord = true := by decide +kernel
theorem g_x_isWay_x_isMovable_336 : GoodIn v_x_isWay (va_wsS RX7 336 yX7_isMovable v_x_isMovable) := goodIn_app (goodIn_of _ (by decide +kernel)) (goodIn_sub (fun _ h => List.mem_cons_of_mem _ (List.mem_append_right _ (List.mem_append_left _ h))) gw_x_isMovable)
set_option maxHeartbeats 4000000 in
set_option maxRecDepth 100000 in
theorem x_isWay (l : Launch) (E : EE) (p0 p1 : Int32) : Met l yX7_isWay v_x_isWay ({ frames := 1, cells := 0, slots := 0, locals := 21 }) (va_Pc [.int p0, .int p1] (pP E [])) (vp_Si (fun r : Int32 => r = 0 ∨ r = 1)) 0 0 (fun _ => False) := by
  refine Met.ofW (cc := cX7_isWay) (maxL := 2) (ret := (some .boolean)) (by decide) rfl ?_
  intro p e s m args below meth c s₁ B hml hv
  obtain ⟨rfl, ⟨hK, hN⟩, hP⟩ := hv
  have hx := B.exec
  have hb := B.bytes
  have hr := B.returns
  have hts := atoms_spec (ws := v_x_isWay) B.pre
  have hown : s.vm.findClass RX7 = some m.cls := findClass_of_methodNamed B.named
  have hlocks := B.notSynchronized
  have hP : va_P E.1 vwCl [] s.heap := hP
  have hl := lv_entry ([.int p0, .int p1]) (n := 2) (Nat.le_of_ble_eq_true rfl)
  rw [lg_entry_eq]
  generalize (lg_sl ([.int p0, .int p1]) ++ List.replicate (2 - (lg_sl ([.int p0, .int p1])).length) Slot.unset).toArray = ls at hl ⊢
  have hl : lv_has ls 2 [(0, .int p0), (1, .int p1)] := hl
  obtain ⟨Q, hQ⟩ : ∃ Q : State → Prop, Q = MQ below (vp_Si (fun r : Int32 => r = 0 ∨ r = 1)) #[Value.int p0, Value.int p1] s 0 0 (fun _ => False) := ⟨_, rfl⟩
  rw [← hQ]
  change W p l e ({ frames := 1, cells := 0, slots := 0, locals := 21 } : Room) s m #[Value.int p0, Value.int p1] below meth c s.heap [] 0 0 Q (F0 m 0 ls [])
  refine lv_iload_n hx hb dX7_isWay_0 rfl (lv_at hl 0 rfl) ?_
  refine lv_iload_n hx hb dX7_isWay_1 rfl (lv_at hl 1 rfl) ?_
  have hPc : va_P E.1 vwCl [] s.heap := fun k q h => by simp at h
  refine pc_i (va_runS (As := [.int p0, .int p1]) (rest := []) ⟨hx, hb, hml, hown, hts⟩ (x_isMovable l E p0 p1) (va_cwS 2 hts g_x_isWay_x_isMovable_336 rfl rfl rfl (by decide +kernel) ⟨Nat.le_of_ble_eq_true rfl, Nat.le_of_ble_eq_true rfl⟩) ⟨pP.blind, (pP.pre ⟨hK, hN⟩ hPc)⟩ rfl rfl hl.1 rfl (lv_room (Nat.le_of_ble_eq_true rfl)) dX7_isWay_2 ⟨Nat.le_of_ble_eq_true rfl, Nat.le_of_ble_eq_true rfl⟩) (fun r_1 hr_1 => ?_)
  have K_20 : ∀ (y_19 : Nat), ∀ (ls : Array Slot), y_19 ≤ 1 → lv_has ls 2 [(0, .int p0), (1, .int p1)] → W p l e ({ frames := 1, cells := 0, slots := 0, locals := 21 } : Room) s m #[Value.int p0, Value.int p1] below meth c s.heap [] 0 0 Q (F0 m 21 ls [.int (nI y_19)]) := by
    intro y_19 ls hy_19 hl
    rw [hQ]
    exact W.zret (v := nI y_19) hx hb hr (nar_nat (by omega)) (fun tt ht hW => ⟨_, rfl, nat_bool (by omega), ht⟩) (fun _ h => by cases h) dX7_isWay_21
  refine lv_if_eq (tgt := 20) hx hb dX7_isWay_5 (by decide) (fun c_2 => ?_) (fun c_2 => ?_)
  ·
    obtain ⟨j_21, hj_21, ej_21⟩ : ∃ j : Nat, j ≤ 0 ∧ r_1 = nI j := nat_rng (by have t0 : (0 : Int32).toInt = 0 := (by decide); simp only [Int32.lt_iff_toInt_lt, Int32.le_iff_toInt_le, ge_iff_le, gt_iff_lt, ne_eq, ← Int32.toInt_inj, t0] at c_2 ⊢; omega)
    refine lv_iconst (v := 0) hx hb dX7_isWay_20 (by decide) ?_
    exact K_20 0 ls (by omega) (lv_sub hl [0, 1] rfl)
  ·
    refine lv_iload_n hx hb dX7_isWay_8 rfl (lv_at hl 0 rfl) ?_
    have K_30 : ∀ (y_29 : Nat), ∀ (ls : Array Slot), y_29 ≤ 1 → lv_has ls 2 [(0, .int p0), (1, .int p1)] → W p l e ({ frames := 1, cells := 0, slots := 0, locals := 21 } : Room) s m #[Value.int p0, Value.int p1] below meth c s.heap [] 0 0 Q (F0 m 21 ls [.int (nI y_29)]) := by
      intro y_29 ls hy_29 hl
      exact K_20 y_29 ls (by omega) (lv_sub hl [0, 1] rfl)
    refine lv_if_ne (tgt := 16) hx hb dX7_isWay_9 (by decide) (fun c_22 => ?_) (fun c_22 => ?_)
    ·
      refine lv_iconst (v := 1) hx hb dX7_isWay_16 (by decide) ?_
      refine lv_goto (tgt := 21) hx hb dX7_isWay_17 (by decide) ?_
      exact K_30 1 ls (by omega) (lv_sub hl [0, 1] rfl)
    ·
      obtain ⟨j_31, hj_31, ej_31⟩ : ∃ j : Nat, j ≤ 0 ∧ p0 = nI j := nat_rng (by have t0 : (0 : Int32).toInt = 0 := (by decide); simp only [Int32.lt_iff_toInt_lt, Int32.le_iff_toInt_le, ge_iff_le, gt_iff_lt, ne_eq, ← Int32.toInt_inj, t0] at c_22 ⊢; omega)
      refine lv_iload_n hx hb dX7_isWay_12 rfl (lv_at hl 1 rfl) ?_
      have K_35 : ∀ (y_34 : Nat), ∀ (ls : Array Slot), y_34 ≤ 1 → lv_has ls 2 [(0, .int p0), (1, .int p1)] → W p l e ({ frames := 1, cells := 0, slots := 0, locals := 21 } : Room) s m #[Value.int p0, Value.int p1] below meth c s.heap [] 0 0 Q (F0 m 21 ls [.int (nI y_34)]) := by
        intro y_34 ls hy_34 hl
        exact K_30 y_34 ls (by omega) (lv_sub hl [0, 1] rfl)
      refine lv_if_eq (tgt := 20) hx hb dX7_isWay_13 (by decide) (fun c_32 => ?_) (fun c_32 => ?_)
      ·
        obtain ⟨j_36, hj_36, ej_36⟩ : ∃ j : Nat, j ≤ 0 ∧ p1 = nI j := nat_rng (by have t0 : (0 : Int32).toInt = 0 := (by decide); simp only [Int32.lt_iff_toInt_lt, Int32.le_iff_toInt_le, ge_iff_le, gt_iff_lt, ne_eq, ← Int32.toInt_inj, t0] at c_32 ⊢; omega)
        refine lv_iconst (v := 0) hx hb dX7_isWay_20 (by decide) ?_
        exact K_35 0 ls (by omega) (lv_sub hl [0, 1] rfl)
      ·
        refine lv_iconst (v := 1) hx hb dX7_isWay_16 (by decide) ?_
        refine lv_goto (tgt := 21) hx hb dX7_isWay_17 (by decide) ?_
        exact K_35 1 ls (by omega) (lv_sub hl [0, 1] rfl)
