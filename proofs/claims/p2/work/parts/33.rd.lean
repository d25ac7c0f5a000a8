theorem dX3_readWord_12 : decode cX3_readWord 12 = .ok (.aload_n 0, 1) := by decide +kernel
theorem dX3_readWord_13 : decode cX3_readWord 13 = .ok (.getfield 31, 3) := by decide +kernel
theorem dX3_readWord_16 : decode cX3_readWord 16 = .ok (.aload_n 0, 1) := by decide +kernel
theorem dX3_readWord_17 : decode cX3_readWord 17 = .ok (.getfield 43, 3) := by decide +kernel
theorem dX3_readWord_20 : decode cX3_readWord 20 = .ok (.getfield 59, 3) := by decide +kernel
theorem dX3_readWord_23 : decode cX3_readWord 23 = .ok (.if_icmp .ge 33, 3) := by decide +kernel
theorem dX3_readWord_26 : decode cX3_readWord 26 = .ok (.aload_n 0, 1) := by decide +kernel
theorem dX3_readWord_27 : decode cX3_readWord 27 = .ok (.getfield 43, 3) := by decide +kernel
theorem dX3_readWord_30 : decode cX3_readWord 30 = .ok (.aload_n 0, 1) := by decide +kernel
theorem dX3_readWord_31 : decode cX3_readWord 31 = .ok (.getfield 31, 3) := by decide +kernel
theorem dX3_readWord_34 : decode cX3_readWord 34 = .ok (.invokevirtual 143, 3) := by decide +kernel
theorem dX3_readWord_37 : decode cX3_readWord 37 = .ok (.invokestatic 147, 3) := by decide +kernel
theorem dX3_readWord_40 : decode cX3_readWord 40 = .ok (.ifCond .eq 16, 3) := by decide +kernel
theorem dX3_readWord_43 : decode cX3_readWord 43 = .ok (.aload_n 0, 1) := by decide +kernel
theorem dX3_readWord_44 : decode cX3_readWord 44 = .ok (.dup, 1) := by decide +kernel
theorem dX3_readWord_45 : decode cX3_readWord 45 = .ok (.getfield 31, 3) := by decide +kernel
theorem dX3_readWord_48 : decode cX3_readWord 48 = .ok (.iconst 1, 1) := by decide +kernel
theorem dX3_readWord_49 : decode cX3_readWord 49 = .ok (.iadd, 1) := by decide +kernel
theorem dX3_readWord_50 : decode cX3_readWord 50 = .ok (.putfield 31, 3) := by decide +kernel
theorem dX3_readWord_53 : decode cX3_readWord 53 = .ok (.goto (-41), 3) := by decide +kernel
theorem dX3_readWord_0 : decode cX3_readWord 0 = .ok (.aload_n 0, 1) := by decide +kernel
theorem dX3_readWord_1 : decode cX3_readWord 1 = .ok (.invokevirtual 140, 3) := by decide +kernel
theorem dX3_readWord_4 : decode cX3_readWord 4 = .ok (.aload_n 0, 1) := by decide +kernel
theorem dX3_readWord_5 : decode cX3_readWord 5 = .ok (.aload_n 0, 1) := by decide +kernel
theorem dX3_readWord_6 : decode cX3_readWord 6 = .ok (.getfield 31, 3) := by decide +kernel
theorem dX3_readWord_9 : decode cX3_readWord 9 = .ok (.putfield 34, 3) := by decide +kernel
theorem dX3_readWord_56 : decode cX3_readWord 56 = .ok (.aload_n 0, 1) := by decide +kernel
theorem dX3_readWord_57 : decode cX3_readWord 57 = .ok (.getfield 31, 3) := by decide +kernel
theorem dX3_readWord_60 : decode cX3_readWord 60 = .ok (.aload_n 0, 1) := by decide +kernel
theorem dX3_readWord_61 : decode cX3_readWord 61 = .ok (.getfield 34, 3) := by decide +kernel
theorem dX3_readWord_64 : decode cX3_readWord 64 = .ok (.if_icmp .gt 14, 3) := by decide +kernel
theorem dX3_readWord_78 : decode cX3_readWord 78 = .ok (.iconst 1, 1) := by decide +kernel
theorem dX3_readWord_79 : decode cX3_readWord 79 = .ok (.goto 4, 3) := by decide +kernel
theorem dX3_readWord_83 : decode cX3_readWord 83 = .ok (.ireturn, 1) := by decide +kernel
theorem dX3_readWord_67 : decode cX3_readWord 67 = .ok (.aload_n 0, 1) := by decide +kernel
theorem dX3_readWord_68 : decode cX3_readWord 68 = .ok (.aload_n 0, 1) := by decide +kernel
theorem dX3_readWord_69 : decode cX3_readWord 69 = .ok (.getfield 31, 3) := by decide +kernel
theorem dX3_readWord_72 : decode cX3_readWord 72 = .ok (.invokevirtual 87, 3) := by decide +kernel
theorem dX3_readWord_75 : decode cX3_readWord 75 = .ok (.ifCond .eq 7, 3) := by decide +kernel
theorem dX3_readWord_82 : decode cX3_readWord 82 = .ok (.iconst 0, 1) := by decide +kernel
/-- where the signs between lo and hi from a on end, seen with k looks -/
def rnB (lo hi : Int32) (n : Nat) (fb : Nat → Int32) : Nat → Nat → Nat
  | 0, a => a
  | k + 1, a => if a < n ∧ lo ≤ tpS n fb (nI a) ∧ tpS n fb (nI a) ≤ hi then rnB lo hi n fb k (a + 1) else a
def rn (lo hi : Int32) (n : Nat) (fb : Nat → Int32) (a : Nat) : Nat := rnB lo hi n fb (n - a) a
theorem rn_step {lo hi : Int32} {n a A : Nat} {fb : Nat → Int32} {z r : Int32} (h : rn lo hi n fb a = A) (h1 : a < n) (hz : z = tpS n fb (nI a)) (hr : r = if lo ≤ z ∧ z ≤ hi then 1 else 0) (c : ¬ r = 0) : rn lo hi n fb (a + 1) = A := by
  have q : lo ≤ z ∧ z ≤ hi := Classical.byContradiction fun k => c (by rw [hr, if_neg k])
  rw [hz] at q
  unfold rn at h ⊢
  rw [show n - a = (n - (a + 1)) + 1 by omega] at h
  unfold rnB at h
  rw [if_pos ⟨h1, q⟩] at h
  exact h
theorem rn_stop0 {lo hi : Int32} {n a A : Nat} {fb : Nat → Int32} (h : rn lo hi n fb a = A) (h1 : ¬ (a < n ∧ lo ≤ tpS n fb (nI a) ∧ tpS n fb (nI a) ≤ hi)) : a = A := by
  unfold rn at h
  cases e : n - a with
  | zero => rw [e] at h; exact h
  | succ k =>
    rw [e] at h
    unfold rnB at h
    rw [if_neg h1] at h
    exact h
theorem rn_stop {lo hi : Int32} {n a A : Nat} {fb : Nat → Int32} {z r : Int32} (h : rn lo hi n fb a = A) (hz : z = tpS n fb (nI a)) (hr : r = if lo ≤ z ∧ z ≤ hi then 1 else 0) (c : r = 0) : a = A :=
  rn_stop0 h (fun q => by rw [if_pos (by rw [hz]; exact q.2), c] at hr; exact absurd hr (by decide))

def v_r_readWord : List Cond := .code yX3_readWord cX3_readWord 1 (some .boolean) :: ([.fieldLink RX3 31 "HushWatch$Reader" "at" "I", .fieldLink RX3 34 "HushWatch$Reader" "wordStart" "I", .fieldLink RX3 43 "HushWatch$Reader" "tape" "LHushWatch$Tape;", .methodLink RX3 140 yX3_skipBlanks, .instanceMethod yX3_skipBlanks, .selects RX3 yX3_skipBlanks yX3_skipBlanks, .initialized RX3, .methodLink RX3 143 yX6_signAt, .instanceMethod yX6_signAt, .selects RX6 yX6_signAt yX6_signAt, .initialized RX6, .methodLink RX3 147 yX3_isLetter, .static yX3_isLetter, .methodLink RX3 87 yX3_failAt, .instanceMethod yX3_failAt, .selects RX3 yX3_failAt yX3_failAt] ++ (v_r_skipBlanks ++ (wsX30 ++ (wsX60 ++ (v_t_signAt ++ (v_r_isLetter ++ (v_r_failAt ++ ([]))))))))
theorem gw_r_readWord : v_r_readWord.all goodWord = true := by decide +kernel
theorem i_r_readWord_X3 : ∀ w ∈ wsX30, w ∈ v_r_readWord := fun _ h => List.mem_cons_of_mem _ (List.mem_append_right _ (List.mem_append_right _ (List.mem_append_left _ h)))
theorem i_r_readWord_X6 : ∀ w ∈ wsX60, w ∈ v_r_readWord := fun _ h => List.mem_cons_of_mem _ (List.mem_append_right _ (List.mem_append_right _ (List.mem_append_right _ (List.mem_append_left _ h))))
theorem g_r_readWord_r_skipBlanks_140 : GoodIn v_r_readWord (wsV RX3 140 RX3 yX3_skipBlanks v_r_skipBlanks) := goodIn_app (goodIn_of _ (by decide +kernel)) (goodIn_sub (fun _ h => List.mem_cons_of_mem _ (List.mem_append_right _ (List.mem_append_left _ h))) gw_r_skipBlanks)
theorem g_r_readWord_t_signAt_143 : GoodIn v_r_readWord (wsV RX3 143 RX6 yX6_signAt v_t_signAt) := goodIn_app (goodIn_of _ (by decide +kernel)) (goodIn_sub (fun _ h => List.mem_cons_of_mem _ (List.mem_append_right _ (List.mem_append_right _ (List.mem_append_right _ (List.mem_append_right _ (List.mem_append_left _ h)))))) gw_t_signAt)
theorem g_r_readWord_r_isLetter_147 : GoodIn v_r_readWord (va_wsS RX3 147 yX3_isLetter v_r_isLetter) := goodIn_app (goodIn_of _ (by decide +kernel)) (goodIn_sub (fun _ h => List.mem_cons_of_mem _ (List.mem_append_right _ (List.mem_append_right _ (List.mem_append_right _ (List.mem_append_right _ (List.mem_append_right _ (List.mem_append_left _ h))))))) gw_r_isLetter)
theorem g_r_readWord_r_failAt_87 : GoodIn v_r_readWord (wsV RX3 87 RX3 yX3_failAt v_r_failAt) := goodIn_app (goodIn_of _ (by decide +kernel)) (goodIn_sub (fun _ h => List.mem_cons_of_mem _ (List.mem_append_right _ (List.mem_append_right _ (List.mem_append_right _ (List.mem_append_right _ (List.mem_append_right _ (List.mem_append_right _ (List.mem_append_left _ h)))))))) gw_r_failAt)
set_option maxHeartbeats 4000000 in
set_option maxRecDepth 100000 in
theorem lp_r_readWord_12 {p : Program} (l : Launch) {e : Env} {s : State} {m : MethodId} {below : List Frame} {meth : Method} {c : Code} {Q : State → Prop} (E : EE) {h t r1 r2 r3 b1 n a0 : Nat} {y4 y5 y6 y8 y9 y10 : Int32} {fb : Nat → Int32} (hn : n ≤ 320) (ha0 : a0 ≤ 320) (hx : p.tables.exec = Jvm.exec) (hb : c.code = cX3_readWord) (hml : c.maxLocals = 1) (hown : s.vm.findClass RX3 = some m.cls) (hts : ∀ w ∈ v_r_readWord, w.before #[Value.ref h] s = true) (hK : va_K E.1 vwCl (TY E) s) (hN : NX s) (u_1 : Nat) (hu_1 : u_1 ≤ 320) {A : Nat → Prop} (hA : ∀ q : Nat, s.heap.size ≤ q → A q) (KX56 : ∀ (a : Nat), ∀ (H : Heap) (locs : List Loc) (ls : Array Slot), a ≤ 320 → rn 97 122 n fb a = rn 97 122 n fb u_1 → a = rn 97 122 n fb u_1 → va_P E.1 vwCl [(h, .inr (4, [.ref t, .ref r1, .ref r2, .ref r3, .int y4, .int y5, .int y6, .int (nI a), .int (nI u_1), .int y9, .int y10])), (t, .inr (7, [.ref b1, .int (nI n)])), (b1, .inl (E.2.2.1, 320, .inl fb))] H → va_D A [(h, .inr (4, [.ref t, .ref r1, .ref r2, .ref r3, .int y4, .int y5, .int y6, .int (nI a), .int (nI u_1), .int y9, .int y10])), (t, .inr (7, [.ref b1, .int (nI n)])), (b1, .inl (E.2.2.1, 320, .inl fb))] → va_S A s.heap H locs → lv_has ls 1 [(0, .ref h)] → W p l e ({ frames := 2, cells := 0, slots := 0, locals := 41 } : Room) s m #[Value.ref h] below meth c H locs 0 0 Q (F0 m 56 ls [])) : ∀ fuel9 : Nat, ∀ (a : Nat), ∀ (H : Heap) (locs : List Loc) (ls : Array Slot), a ≤ 320 → (321 - a) < fuel9 → rn 97 122 n fb a = rn 97 122 n fb u_1 → va_P E.1 vwCl [(h, .inr (4, [.ref t, .ref r1, .ref r2, .ref r3, .int y4, .int y5, .int y6, .int (nI a), .int (nI u_1), .int y9, .int y10])), (t, .inr (7, [.ref b1, .int (nI n)])), (b1, .inl (E.2.2.1, 320, .inl fb))] H → va_D A [(h, .inr (4, [.ref t, .ref r1, .ref r2, .ref r3, .int y4, .int y5, .int y6, .int (nI a), .int (nI u_1), .int y9, .int y10])), (t, .inr (7, [.ref b1, .int (nI n)])), (b1, .inl (E.2.2.1, 320, .inl fb))] → va_S A s.heap H locs → lv_has ls 1 [(0, .ref h)] → W p l e ({ frames := 2, cells := 0, slots := 0, locals := 41 } : Room) s m #[Value.ref h] below meth c H locs 0 0 Q (F0 m 12 ls []) := by
  intro fuel9
  induction fuel9 with
  | zero =>
    intro a H locs ls ha hms hf0 hP hD hS hl
    omega
  | succ fuel9 ih =>
    intro a H locs ls ha hms hf0 hP hD hS hl
    refine lv_aload_n hx hb dX3_readWord_12 rfl (lv_at hl 0 rfl) ?_
    refine va_get (D := E.1) (ci := 4) (v := .int (nI a)) (C := RX3) (T := TX3) (N := 11) hx hb hts i_r_readWord_X3 hown hK hP 0 rfl rfl 7 (by decide) (hts (.fieldLink RX3 31 "HushWatch$Reader" "at" "I") (List.mem_of_getElem? (i := 1) rfl)) (fun _ h9 => h9) rfl dX3_readWord_13 ?_
    refine lv_aload_n hx hb dX3_readWord_16 rfl (lv_at hl 0 rfl) ?_
    refine va_get (D := E.1) (ci := 4) (v := .ref t) (C := RX3) (T := TX3) (N := 11) hx hb hts i_r_readWord_X3 hown hK hP 0 rfl rfl 0 (by decide) (hts (.fieldLink RX3 43 "HushWatch$Reader" "tape" "LHushWatch$Tape;") (List.mem_of_getElem? (i := 3) rfl)) (fun _ h9 => h9) rfl dX3_readWord_17 ?_
    refine va_getN (D := E.1) (ci := 7) (v := .int (nI n)) (C := RX6) (T := TX6) (N := 2) hx hb hts i_r_readWord_X6 hown hK hP 1 rfl rfl 1 (by decide) (nx hN 2 rfl) (fun _ h9 => h9) rfl dX3_readWord_20 ?_
    refine lv_icmp_ge (tgt := 56) hx hb dX3_readWord_23 (by decide) (fun c_5 => ?_) (fun c_5 => ?_)
    ·
      have d_6 : n ≤ a := nc_ge (a := a) (b := n) (by omega) (by omega) c_5
      exact KX56 a H locs ls (by omega) (hf0) (rn_stop0 hf0 (fun q => by omega)) (hP.sub [0, 1, 2] rfl) (hD.sub [0, 1, 2] (by decide) rfl) hS (lv_sub hl [0] rfl)
    ·
      have d_7 : ¬ (n ≤ a) := nc_ge_n (a := a) (b := n) (by omega) (by omega) c_5
      refine lv_aload_n hx hb dX3_readWord_26 rfl (lv_at hl 0 rfl) ?_
      refine va_get (D := E.1) (ci := 4) (v := .ref t) (C := RX3) (T := TX3) (N := 11) hx hb hts i_r_readWord_X3 hown hK hP 0 rfl rfl 0 (by decide) (hts (.fieldLink RX3 43 "HushWatch$Reader" "tape" "LHushWatch$Tape;") (List.mem_of_getElem? (i := 3) rfl)) (fun _ h9 => h9) rfl dX3_readWord_27 ?_
      refine lv_aload_n hx hb dX3_readWord_30 rfl (lv_at hl 0 rfl) ?_
      refine va_get (D := E.1) (ci := 4) (v := .int (nI a)) (C := RX3) (T := TX3) (N := 11) hx hb hts i_r_readWord_X3 hown hK hP 0 rfl rfl 7 (by decide) (hts (.fieldLink RX3 31 "HushWatch$Reader" "at" "I") (List.mem_of_getElem? (i := 1) rfl)) (fun _ h9 => h9) rfl dX3_readWord_31 ?_
      have hPc := hP.sub (ws' := [(t, .inr (7, [.ref b1, .int (nI n)])), (b1, .inl (E.2.2.1, 320, .inl fb))]) [1, 2] rfl
      refine pc_i (va_runV (As := [.int (nI a)]) (rest := []) ⟨hx, hb, hml, hown, hts⟩ (t_signAt l E t b1 n fb (nI a) (by omega)) (cwV 1 hts g_r_readWord_t_signAt_143 rfl rfl rfl (by decide +kernel) ⟨Nat.le_of_ble_eq_true rfl, Nat.le_of_ble_eq_true rfl⟩) ⟨pP.blind, va_recv hK hPc (ci := 7) (q0 := 0) rfl rfl, (pP.pre ⟨hK, hN⟩ hPc)⟩ rfl rfl hl.1 rfl (lv_room (Nat.le_of_ble_eq_true rfl)) dX3_readWord_34 ⟨Nat.le_of_ble_eq_true rfl, Nat.le_of_ble_eq_true rfl⟩) (fun r_8 hr_8 => ?_)
      have hPc : va_P E.1 vwCl [] H := fun k q h => by simp at h
      refine pc_i (va_runS (As := [.int r_8]) (rest := []) ⟨hx, hb, hml, hown, hts⟩ (r_isLetter l E r_8) (va_cwS 1 hts g_r_readWord_r_isLetter_147 rfl rfl rfl (by decide +kernel) ⟨Nat.le_of_ble_eq_true rfl, Nat.le_of_ble_eq_true rfl⟩) ⟨pP.blind, (pP.pre ⟨hK, hN⟩ hPc)⟩ rfl rfl hl.1 rfl (lv_room (Nat.le_of_ble_eq_true rfl)) dX3_readWord_37 ⟨Nat.le_of_ble_eq_true rfl, Nat.le_of_ble_eq_true rfl⟩) (fun r_9 hr_9 => ?_)
      refine lv_if_eq (tgt := 56) hx hb dX3_readWord_40 (by decide) (fun c_10 => ?_) (fun c_10 => ?_)
      ·
        obtain ⟨j_11, hj_11, ej_11⟩ : ∃ j : Nat, j ≤ 0 ∧ r_9 = nI j := nat_rng (by have t0 : (0 : Int32).toInt = 0 := (by decide); simp only [Int32.lt_iff_toInt_lt, Int32.le_iff_toInt_le, ge_iff_le, gt_iff_lt, ne_eq, ← Int32.toInt_inj, t0] at c_10 ⊢; omega)
        exact KX56 a H locs ls (by omega) (hf0) (rn_stop hf0 (by assumption) hr_9 c_10) (hP.sub [0, 1, 2] rfl) (hD.sub [0, 1, 2] (by decide) rfl) hS (lv_sub hl [0] rfl)
      ·
        refine lv_aload_n hx hb dX3_readWord_43 rfl (lv_at hl 0 rfl) ?_
        refine lv_dup hx hb dX3_readWord_44 rfl ?_
        refine va_get (D := E.1) (ci := 4) (v := .int (nI a)) (C := RX3) (T := TX3) (N := 11) hx hb hts i_r_readWord_X3 hown hK hP 0 rfl rfl 7 (by decide) (hts (.fieldLink RX3 31 "HushWatch$Reader" "at" "I") (List.mem_of_getElem? (i := 1) rfl)) (fun _ h9 => h9) rfl dX3_readWord_45 ?_
        refine lv_iconst (v := 1) hx hb dX3_readWord_48 (by decide) ?_
        refine lv_iadd hx hb dX3_readWord_49 ?_
        refine lv_topi (fun z_12 ez_12 => ?_)
        obtain rfl : z_12 = nI (a + 1) := ez_12.trans (nI_add _ 1)
        refine va_put (D := E.1) (ci := 4) (v := .int (nI (a + 1))) (ty := .int) (C := RX3) (T := TX3) (N := 11) hx hb hts i_r_readWord_X3 tyX3 tyX3_ok nmX3 hown hK hP hD hS 0 rfl rfl 7 (by decide) (hts (.fieldLink RX3 31 "HushWatch$Reader" "at" "I") (List.mem_of_getElem? (i := 1) rfl)) (fun _ h9 => h9) rfl (by decide +kernel) rfl rfl (Nat.le_of_ble_eq_true rfl) dX3_readWord_50 (fun H locs hP hD hS => ?_)
        have hP : va_P E.1 vwCl [(h, .inr (4, [.ref t, .ref r1, .ref r2, .ref r3, .int y4, .int y5, .int y6, .int (nI (a + 1)), .int (nI u_1), .int y9, .int y10])), (t, .inr (7, [.ref b1, .int (nI n)])), (b1, .inl (E.2.2.1, 320, .inl fb))] H := hP
        have hD : va_D A [(h, .inr (4, [.ref t, .ref r1, .ref r2, .ref r3, .int y4, .int y5, .int y6, .int (nI (a + 1)), .int (nI u_1), .int y9, .int y10])), (t, .inr (7, [.ref b1, .int (nI n)])), (b1, .inl (E.2.2.1, 320, .inl fb))] := hD
        refine lv_goto (tgt := 12) hx hb dX3_readWord_53 (by decide) ?_
        exact ih (a + 1) H locs ls (by omega) (by omega) (rn_step hf0 (by omega) (by assumption) hr_9 c_10) (hP.sub [0, 1, 2] rfl) (hD.sub [0, 1, 2] (by decide) rfl) hS (lv_sub hl [0] rfl)

set_option maxHeartbeats 4000000 in
set_option maxRecDepth 100000 in
theorem r_readWord (l : Launch) (E : EE) (sz : Nat) (h t r1 r2 r3 b1 n a0 : Nat) (y4 y5 y6 y8 y9 y10 : Int32) (fb : Nat → Int32) (hn : n ≤ 320) (ha0 : a0 ≤ 320) : Met l yX3_readWord v_r_readWord ({ frames := 2, cells := 0, slots := 0, locals := 41 }) (va_Pc [.ref h] (pW E sz [(h, .inr (4, [.ref t, .ref r1, .ref r2, .ref r3, .int y4, .int y5, .int y6, .int (nI a0), .int y8, .int y9, .int y10])), (t, .inr (7, [.ref b1, .int (nI n)])), (b1, .inl (E.2.2.1, 320, .inl fb))])) (va_Qi (fun (r : Int32) (u_ : (Nat) × (Nat) × (Int32)) => (r = if sk n fb a0 < rn 97 122 n fb (sk n fb a0) then 1 else 0) ∧ u_.1 ≤ 320 ∧ u_.2.1 ≤ 320 ∧ u_.2.1 = sk n fb a0 ∧ u_.1 = rn 97 122 n fb (sk n fb a0) ∧ u_.2.2 = (if sk n fb a0 < rn 97 122 n fb (sk n fb a0) then y10 else nI (rn 97 122 n fb (sk n fb a0)))) (fun (u_ : (Nat) × (Nat) × (Int32)) tt => va_P E.1 vwCl [(h, .inr (4, [.ref t, .ref r1, .ref r2, .ref r3, .int y4, .int y5, .int y6, .int (nI u_.1), .int (nI u_.2.1), .int y9, .int u_.2.2])), (t, .inr (7, [.ref b1, .int (nI n)])), (b1, .inl (E.2.2.1, 320, .inl fb))] tt.heap ∧ va_D (va_A [(h, .inr (4, [.ref t, .ref r1, .ref r2, .ref r3, .int y4, .int y5, .int y6, .int (nI a0), .int y8, .int y9, .int y10])), (t, .inr (7, [.ref b1, .int (nI n)])), (b1, .inl (E.2.2.1, 320, .inl fb))] sz) [(h, .inr (4, [.ref t, .ref r1, .ref r2, .ref r3, .int y4, .int y5, .int y6, .int (nI u_.1), .int (nI u_.2.1), .int y9, .int u_.2.2])), (t, .inr (7, [.ref b1, .int (nI n)])), (b1, .inl (E.2.2.1, 320, .inl fb))]) (va_A [(h, .inr (4, [.ref t, .ref r1, .ref r2, .ref r3, .int y4, .int y5, .int y6, .int (nI a0), .int y8, .int y9, .int y10])), (t, .inr (7, [.ref b1, .int (nI n)])), (b1, .inl (E.2.2.1, 320, .inl fb))] sz)) 0 0 (va_A [(h, .inr (4, [.ref t, .ref r1, .ref r2, .ref r3, .int y4, .int y5, .int y6, .int (nI a0), .int y8, .int y9, .int y10])), (t, .inr (7, [.ref b1, .int (nI n)])), (b1, .inl (E.2.2.1, 320, .inl fb))] sz) := by
  refine Met.ofW (cc := cX3_readWord) (maxL := 1) (ret := (some .boolean)) (by decide) rfl ?_
  intro p e s m args below meth c s₁ B hml hv
  obtain ⟨rfl, hsz, ⟨hK, hN⟩, hP, hD0⟩ := hv
  have hx := B.exec
  have hb := B.bytes
  have hr := B.returns
  have hts := atoms_spec (ws := v_r_readWord) B.pre
  have hown : s.vm.findClass RX3 = some m.cls := findClass_of_methodNamed B.named
  have hlocks := B.notSynchronized
  subst hsz
  have hD := hD0.self (sz := s.heap.size)
  generalize hAe : va_A [(h, .inr (4, [.ref t, .ref r1, .ref r2, .ref r3, .int y4, .int y5, .int y6, .int (nI a0), .int y8, .int y9, .int y10])), (t, .inr (7, [.ref b1, .int (nI n)])), (b1, .inl (E.2.2.1, 320, .inl fb))] s.heap.size = A at hD ⊢
  have hA : ∀ q : Nat, s.heap.size ≤ q → A q := fun q h => by rw [← hAe]; exact Or.inr h
  have hS : va_S A s.heap s.heap [] := va_S.rf
  have hP : va_P E.1 vwCl [(h, .inr (4, [.ref t, .ref r1, .ref r2, .ref r3, .int y4, .int y5, .int y6, .int (nI a0), .int y8, .int y9, .int y10])), (t, .inr (7, [.ref b1, .int (nI n)])), (b1, .inl (E.2.2.1, 320, .inl fb))] s.heap := hP
  have hl := lv_entry ([.ref h]) (n := 1) (Nat.le_of_ble_eq_true rfl)
  rw [lg_entry_eq]
  generalize (lg_sl ([.ref h]) ++ List.replicate (1 - (lg_sl ([.ref h])).length) Slot.unset).toArray = ls at hl ⊢
  have hl : lv_has ls 1 [(0, .ref h)] := hl
  obtain ⟨Q, hQ⟩ : ∃ Q : State → Prop, Q = MQ below (va_Qi (fun (r : Int32) (u_ : (Nat) × (Nat) × (Int32)) => (r = if sk n fb a0 < rn 97 122 n fb (sk n fb a0) then 1 else 0) ∧ u_.1 ≤ 320 ∧ u_.2.1 ≤ 320 ∧ u_.2.1 = sk n fb a0 ∧ u_.1 = rn 97 122 n fb (sk n fb a0) ∧ u_.2.2 = (if sk n fb a0 < rn 97 122 n fb (sk n fb a0) then y10 else nI (rn 97 122 n fb (sk n fb a0)))) (fun (u_ : (Nat) × (Nat) × (Int32)) tt => va_P E.1 vwCl [(h, .inr (4, [.ref t, .ref r1, .ref r2, .ref r3, .int y4, .int y5, .int y6, .int (nI u_.1), .int (nI u_.2.1), .int y9, .int u_.2.2])), (t, .inr (7, [.ref b1, .int (nI n)])), (b1, .inl (E.2.2.1, 320, .inl fb))] tt.heap ∧ va_D A [(h, .inr (4, [.ref t, .ref r1, .ref r2, .ref r3, .int y4, .int y5, .int y6, .int (nI u_.1), .int (nI u_.2.1), .int y9, .int u_.2.2])), (t, .inr (7, [.ref b1, .int (nI n)])), (b1, .inl (E.2.2.1, 320, .inl fb))]) A) #[Value.ref h] s 0 0 A := ⟨_, rfl⟩
  rw [← hQ]
  change W p l e ({ frames := 2, cells := 0, slots := 0, locals := 41 } : Room) s m #[Value.ref h] below meth c s.heap [] 0 0 Q (F0 m 0 ls [])
  refine lv_aload_n hx hb dX3_readWord_0 rfl (lv_at hl 0 rfl) ?_
  have hPc := hP.sub (ws' := [(h, .inr (4, [.ref t, .ref r1, .ref r2, .ref r3, .int y4, .int y5, .int y6, .int (nI a0), .int y8, .int y9, .int y10])), (t, .inr (7, [.ref b1, .int (nI n)])), (b1, .inl (E.2.2.1, 320, .inl fb))]) [0, 1, 2] rfl
  have hDc := hD.sub (ws' := [(h, .inr (4, [.ref t, .ref r1, .ref r2, .ref r3, .int y4, .int y5, .int y6, .int (nI a0), .int y8, .int y9, .int y10])), (t, .inr (7, [.ref b1, .int (nI n)])), (b1, .inl (E.2.2.1, 320, .inl fb))]) [0, 1, 2] (by decide) rfl
  have hFc := va_free (wc := [(h, .inr (4, [.ref t, .ref r1, .ref r2, .ref r3, .int y4, .int y5, .int y6, .int (nI a0), .int y8, .int y9, .int y10])), (t, .inr (7, [.ref b1, .int (nI n)])), (b1, .inl (E.2.2.1, 320, .inl fb))]) hD hS hA [0, 1, 2] rfl
  refine va_callv (va_runV (As := []) (rest := []) ⟨hx, hb, hml, hown, hts⟩ (r_skipBlanks l E s.heap.size h t r1 r2 r3 b1 n a0 y4 y5 y6 y8 y9 y10 fb (by omega) (by omega)) (cwV 0 hts g_r_readWord_r_skipBlanks_140 rfl rfl rfl (by decide +kernel) ⟨Nat.le_of_ble_eq_true rfl, Nat.le_of_ble_eq_true rfl⟩) ⟨pW.blind, va_recv hK hPc (ci := 4) (q0 := 0) rfl rfl, (pW.pre ⟨hK, hN⟩ hPc hDc)⟩ rfl rfl hl.1 rfl (lv_room (Nat.le_of_ble_eq_true rfl)) dX3_readWord_1 ⟨Nat.le_of_ble_eq_true rfl, Nat.le_of_ble_eq_true rfl⟩) hS (fun q _ h => hFc q h) hFc (fun  u_1 tt H1 locs ht hvm hw hB hz1 hk1 hS => ?_)
  obtain ⟨hP1, hD1⟩ := hB
  rw [ht] at hP1
  obtain ⟨hP, hD⟩ := va_join (wr := []) (w1 := [(h, .inr (4, [.ref t, .ref r1, .ref r2, .ref r3, .int y4, .int y5, .int y6, .int (nI u_1), .int y8, .int y9, .int y10])), (t, .inr (7, [.ref b1, .int (nI n)])), (b1, .inl (E.2.2.1, 320, .inl fb))]) hP hD [0, 1, 2] [] rfl rfl (by decide) (by decide) hk1 hFc hP1 hD1
  generalize H1 = H at hP hS ⊢
  have hP : va_P E.1 vwCl [(h, .inr (4, [.ref t, .ref r1, .ref r2, .ref r3, .int y4, .int y5, .int y6, .int (nI u_1), .int y8, .int y9, .int y10])), (t, .inr (7, [.ref b1, .int (nI n)])), (b1, .inl (E.2.2.1, 320, .inl fb))] H := hP
  have hD : va_D A [(h, .inr (4, [.ref t, .ref r1, .ref r2, .ref r3, .int y4, .int y5, .int y6, .int (nI u_1), .int y8, .int y9, .int y10])), (t, .inr (7, [.ref b1, .int (nI n)])), (b1, .inl (E.2.2.1, 320, .inl fb))] := hD
  have hsw_2 := hw
  obtain ⟨kk_3, kk_4⟩ := hsw_2
  refine lv_aload_n hx hb dX3_readWord_4 rfl (lv_at hl 0 rfl) ?_
  refine lv_aload_n hx hb dX3_readWord_5 rfl (lv_at hl 0 rfl) ?_
  refine va_get (D := E.1) (ci := 4) (v := .int (nI u_1)) (C := RX3) (T := TX3) (N := 11) hx hb hts i_r_readWord_X3 hown hK hP 0 rfl rfl 7 (by decide) (hts (.fieldLink RX3 31 "HushWatch$Reader" "at" "I") (List.mem_of_getElem? (i := 1) rfl)) (fun _ h9 => h9) rfl dX3_readWord_6 ?_
  refine va_put (D := E.1) (ci := 4) (v := .int (nI u_1)) (ty := .int) (C := RX3) (T := TX3) (N := 11) hx hb hts i_r_readWord_X3 tyX3 tyX3_ok nmX3 hown hK hP hD hS 0 rfl rfl 8 (by decide) (hts (.fieldLink RX3 34 "HushWatch$Reader" "wordStart" "I") (List.mem_of_getElem? (i := 2) rfl)) (fun _ h9 => h9) rfl (by decide +kernel) rfl rfl (Nat.le_of_ble_eq_true rfl) dX3_readWord_9 (fun H locs hP hD hS => ?_)
  have hP : va_P E.1 vwCl [(h, .inr (4, [.ref t, .ref r1, .ref r2, .ref r3, .int y4, .int y5, .int y6, .int (nI u_1), .int (nI u_1), .int y9, .int y10])), (t, .inr (7, [.ref b1, .int (nI n)])), (b1, .inl (E.2.2.1, 320, .inl fb))] H := hP
  have hD : va_D A [(h, .inr (4, [.ref t, .ref r1, .ref r2, .ref r3, .int y4, .int y5, .int y6, .int (nI u_1), .int (nI u_1), .int y9, .int y10])), (t, .inr (7, [.ref b1, .int (nI n)])), (b1, .inl (E.2.2.1, 320, .inl fb))] := hD
  refine lp_r_readWord_12 (h := h) (t := t) (r1 := r1) (r2 := r2) (r3 := r3) (b1 := b1) (n := n) (a0 := a0) (y4 := y4) (y5 := y5) (y6 := y6) (y8 := y8) (y9 := y9) (y10 := y10) (fb := fb) l E hn ha0 hx hb hml hown hts hK hN u_1 (by omega) hA ?_ (322) u_1 H locs ls (by omega) (by omega) (rfl) (hP.sub [0, 1, 2] rfl) (hD.sub [0, 1, 2] (by decide) rfl) hS (lv_sub hl [0] rfl)
  ·
    intro a H locs ls ha hf0 hf1 hP hD hS hl
    refine lv_aload_n hx hb dX3_readWord_56 rfl (lv_at hl 0 rfl) ?_
    refine va_get (D := E.1) (ci := 4) (v := .int (nI a)) (C := RX3) (T := TX3) (N := 11) hx hb hts i_r_readWord_X3 hown hK hP 0 rfl rfl 7 (by decide) (hts (.fieldLink RX3 31 "HushWatch$Reader" "at" "I") (List.mem_of_getElem? (i := 1) rfl)) (fun _ h9 => h9) rfl dX3_readWord_57 ?_
    refine lv_aload_n hx hb dX3_readWord_60 rfl (lv_at hl 0 rfl) ?_
    refine va_get (D := E.1) (ci := 4) (v := .int (nI u_1)) (C := RX3) (T := TX3) (N := 11) hx hb hts i_r_readWord_X3 hown hK hP 0 rfl rfl 8 (by decide) (hts (.fieldLink RX3 34 "HushWatch$Reader" "wordStart" "I") (List.mem_of_getElem? (i := 2) rfl)) (fun _ h9 => h9) rfl dX3_readWord_61 ?_
    refine lv_icmp_gt (tgt := 78) hx hb dX3_readWord_64 (by decide) (fun c_13 => ?_) (fun c_13 => ?_)
    ·
      have d_14 : u_1 < a := nc_gt (a := a) (b := u_1) (by omega) (by omega) c_13
      refine lv_iconst (v := 1) hx hb dX3_readWord_78 (by decide) ?_
      refine lv_goto (tgt := 83) hx hb dX3_readWord_79 (by decide) ?_
      rw [hQ]
      have hP9 := hP.sub (ws' := [(h, .inr (4, [.ref t, .ref r1, .ref r2, .ref r3, .int y4, .int y5, .int y6, .int (nI a), .int (nI u_1), .int y9, .int y10])), (t, .inr (7, [.ref b1, .int (nI n)])), (b1, .inl (E.2.2.1, 320, .inl fb))]) [0, 1, 2] rfl
      have hD9 := hD.sub (ws' := [(h, .inr (4, [.ref t, .ref r1, .ref r2, .ref r3, .int y4, .int y5, .int y6, .int (nI a), .int (nI u_1), .int y9, .int y10])), (t, .inr (7, [.ref b1, .int (nI n)])), (b1, .inl (E.2.2.1, 320, .inl fb))]) [0, 1, 2] (by decide) rfl
      exact W.zret (v := 1) hx hb hr rfl (fun tt ht hW => ⟨⟨_, (a, u_1, y10), rfl, ⟨by rw [← (by assumption : u_1 = sk n fb a0), ← (by assumption : a = rn 97 122 n fb u_1), if_pos (by omega)], ⟨(by first | omega | (dsimp only; omega)), (by first | omega | (dsimp only; omega)), ((by assumption : u_1 = sk n fb a0)), (by rw [← (by assumption : u_1 = sk n fb a0)]; exact hf1), (by rw [← (by assumption : u_1 = sk n fb a0), ← (by assumption : a = rn 97 122 n fb u_1), if_pos (by omega)])⟩⟩, by rw [ht]; exact hP9, hD9⟩, hS.F ht⟩) hS.2.2 dX3_readWord_83
    ·
      have d_15 : ¬ (u_1 < a) := nc_gt_n (a := a) (b := u_1) (by omega) (by omega) c_13
      refine lv_aload_n hx hb dX3_readWord_67 rfl (lv_at hl 0 rfl) ?_
      refine lv_aload_n hx hb dX3_readWord_68 rfl (lv_at hl 0 rfl) ?_
      refine va_get (D := E.1) (ci := 4) (v := .int (nI a)) (C := RX3) (T := TX3) (N := 11) hx hb hts i_r_readWord_X3 hown hK hP 0 rfl rfl 7 (by decide) (hts (.fieldLink RX3 31 "HushWatch$Reader" "at" "I") (List.mem_of_getElem? (i := 1) rfl)) (fun _ h9 => h9) rfl dX3_readWord_69 ?_
      have hPc := hP.sub (ws' := [(h, .inr (4, [.ref t, .ref r1, .ref r2, .ref r3, .int y4, .int y5, .int y6, .int (nI a), .int (nI u_1), .int y9, .int y10]))]) [0] rfl
      have hDc := hD.sub (ws' := [(h, .inr (4, [.ref t, .ref r1, .ref r2, .ref r3, .int y4, .int y5, .int y6, .int (nI a), .int (nI u_1), .int y9, .int y10]))]) [0] (by decide) rfl
      have hFc := va_free (wc := [(h, .inr (4, [.ref t, .ref r1, .ref r2, .ref r3, .int y4, .int y5, .int y6, .int (nI a), .int (nI u_1), .int y9, .int y10]))]) hD hS hA [0] rfl
      refine va_calli (va_runV (As := [.int (nI a)]) (rest := []) ⟨hx, hb, hml, hown, hts⟩ (r_failAt l E H.size h t r1 r2 r3 y4 y5 y6 (nI a) (nI u_1) y9 y10 (nI a)) (cwV 1 hts g_r_readWord_r_failAt_87 rfl rfl rfl (by decide +kernel) ⟨Nat.le_of_ble_eq_true rfl, Nat.le_of_ble_eq_true rfl⟩) ⟨pW.blind, va_recv hK hPc (ci := 4) (q0 := 0) rfl rfl, (pW.pre ⟨hK, hN⟩ hPc hDc)⟩ rfl rfl hl.1 rfl (lv_room (Nat.le_of_ble_eq_true rfl)) dX3_readWord_72 ⟨Nat.le_of_ble_eq_true rfl, Nat.le_of_ble_eq_true rfl⟩) hS (fun q _ h => hFc q h) hFc (fun r_16 u tt H1 locs ht hvm hw hB hz1 hk1 hS => ?_)
      obtain ⟨hP1, hD1⟩ := hB
      rw [ht] at hP1
      obtain ⟨hP, hD⟩ := va_join (wr := [(t, .inr (7, [.ref b1, .int (nI n)])), (b1, .inl (E.2.2.1, 320, .inl fb))]) (w1 := [(h, .inr (4, [.ref t, .ref r1, .ref r2, .ref r3, .int y4, .int y5, .int y6, .int (nI a), .int (nI u_1), .int y9, .int (nI a)]))]) hP hD [0] [1, 2] rfl rfl (by decide) (by decide) hk1 hFc hP1 hD1
      generalize H1 = H at hP hS ⊢
      have hP : va_P E.1 vwCl [(t, .inr (7, [.ref b1, .int (nI n)])), (b1, .inl (E.2.2.1, 320, .inl fb)), (h, .inr (4, [.ref t, .ref r1, .ref r2, .ref r3, .int y4, .int y5, .int y6, .int (nI a), .int (nI u_1), .int y9, .int (nI a)]))] H := hP
      have hD : va_D A [(t, .inr (7, [.ref b1, .int (nI n)])), (b1, .inl (E.2.2.1, 320, .inl fb)), (h, .inr (4, [.ref t, .ref r1, .ref r2, .ref r3, .int y4, .int y5, .int y6, .int (nI a), .int (nI u_1), .int y9, .int (nI a)]))] := hD
      have hr_16 := hw
      obtain rfl : r_16 = 0 := hr_16
      refine lv_if_eq (tgt := 82) hx hb dX3_readWord_75 (by decide) (fun _ => ?_) (fun q => absurd (by decide) q)
      refine lv_iconst (v := 0) hx hb dX3_readWord_82 (by decide) ?_
      rw [hQ]
      have hP9 := hP.sub (ws' := [(h, .inr (4, [.ref t, .ref r1, .ref r2, .ref r3, .int y4, .int y5, .int y6, .int (nI a), .int (nI u_1), .int y9, .int (nI a)])), (t, .inr (7, [.ref b1, .int (nI n)])), (b1, .inl (E.2.2.1, 320, .inl fb))]) [2, 0, 1] rfl
      have hD9 := hD.sub (ws' := [(h, .inr (4, [.ref t, .ref r1, .ref r2, .ref r3, .int y4, .int y5, .int y6, .int (nI a), .int (nI u_1), .int y9, .int (nI a)])), (t, .inr (7, [.ref b1, .int (nI n)])), (b1, .inl (E.2.2.1, 320, .inl fb))]) [2, 0, 1] (by decide) rfl
      exact W.zret (v := 0) hx hb hr rfl (fun tt ht hW => ⟨⟨_, (a, u_1, (nI a)), rfl, ⟨by rw [← (by assumption : u_1 = sk n fb a0), ← (by assumption : a = rn 97 122 n fb u_1), if_neg (by omega)], ⟨(by first | omega | (dsimp only; omega)), (by first | omega | (dsimp only; omega)), ((by assumption : u_1 = sk n fb a0)), (by rw [← (by assumption : u_1 = sk n fb a0)]; exact hf1), (by rw [← (by assumption : u_1 = sk n fb a0), ← (by assumption : a = rn 97 122 n fb u_1), if_neg (by omega)])⟩⟩, by rw [ht]; exact hP9, hD9⟩, hS.F ht⟩) hS.2.2 dX3_readWord_83
