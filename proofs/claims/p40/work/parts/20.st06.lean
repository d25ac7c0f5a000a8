noncomputable def blX5_unmovedSites_0 : List Nat := [3, 60, 3, 61, 28, 42, 182, 0, 45, 162, 0, 59, 42, 28, 3, 182, 0, 69, 42, 28, 5, 182, 0, 69, 160, 0, 22, 42, 28, 4, 182, 0, 69, 42, 28, 6, 182, 0, 69, 160, 0, 7, 4, 167, 0, 4, 3, 62, 27, 29, 153]
set_option maxRecDepth 100000 in
theorem bcX5_unmovedSites_0 : ((cX5_unmovedSites.data.toList.drop 0).take blX5_unmovedSites_0.length).map UInt8.toNat = blX5_unmovedSites_0 := by decide +kernel
noncomputable def blX5_unmovedSites_1 : List Nat := [27, 29, 153, 0, 9, 4, 28, 120, 167, 0, 4, 3, 128, 60, 132, 2, 1, 167, 255, 195, 27, 172]
set_option maxRecDepth 100000 in
theorem bcX5_unmovedSites_1 : ((cX5_unmovedSites.data.toList.drop 48).take blX5_unmovedSites_1.length).map UInt8.toNat = blX5_unmovedSites_1 := by decide +kernel

def J_X5_unmovedSites_47_r5 (k0 : Int32) (x1 : Int32) (x2 : Int32) : Option ((Int32 × Int32) ⊕ (Int32)) :=
  if k0 = (0 : Int32) then some (.inl (x1 ||| (0 : Int32), x2 + (1 : Int32))) else some (.inl (x1 ||| ((1 : Int32) <<< (x2 &&& (31 : Int32))), x2 + (1 : Int32)))
def J_X5_unmovedSites_46_r5 (x1 : Int32) (x2 : Int32) : Option ((Int32 × Int32) ⊕ (Int32)) :=
  J_X5_unmovedSites_47_r5 (0 : Int32) x1 x2
def B_X5_unmovedSites_4 (c_row : Nat → Int32) (x1 : Int32) (x2 : Int32) : Option ((Int32 × Int32) ⊕ (Int32)) :=
  bd1 (F_X5_sites c_row) (fun r_1 => if r_1 ≤ x2 then some (.inr x1) else bd1 (F_X5_of x2 (0 : Int32) c_row) (fun r_4 => bd1 (F_X5_of x2 (2 : Int32) c_row) (fun r_6 => if r_4 = r_6 then bd1 (F_X5_of x2 (1 : Int32) c_row) (fun r_10 => bd1 (F_X5_of x2 (3 : Int32) c_row) (fun r_12 => if r_10 = r_12 then J_X5_unmovedSites_47_r5 (1 : Int32) x1 x2 else J_X5_unmovedSites_46_r5 x1 x2)) else J_X5_unmovedSites_46_r5 x1 x2)))
def F_X5_unmovedSites (K : Nat) (c_row : Nat → Int32) : Option (Int32) :=
  bd1 (lpF (fun u9 : Int32 × Int32 => B_X5_unmovedSites_4 c_row u9.1 u9.2) K ((0 : Int32), (0 : Int32))) (fun x1_15 => some x1_15)
abbrev w_X5_unmovedSites (E : EE) (a_ a_row a_partners a_share a_leftOver : Nat) (c_askedCount : Int32) (c_outcome : Int32) (c_row : Nat → Int32) : va_W := [k_X5 a_ a_row a_partners c_askedCount c_outcome a_share a_leftOver, k_I E a_row 81 c_row]
def v_f_X5_unmovedSites : List Cond := List.cons (.code yX5_unmovedSites cX5_unmovedSites 4 (some .int)) (HAppend.hAppend (α := List Cond) (β := List Cond) (γ := List Cond) [.methodLink RX5 45 yX5_sites, .instanceMethod yX5_sites, .selects RX5 yX5_sites yX5_sites, .initialized RX5, .methodLink RX5 69 yX5_of, .instanceMethod yX5_of, .selects RX5 yX5_of yX5_of] (HAppend.hAppend (α := List Cond) (β := List Cond) (γ := List Cond) v_f_X5_sites (HAppend.hAppend (α := List Cond) (β := List Cond) (γ := List Cond) v_f_X5_of [])))
theorem gw_f_X5_unmovedSites : v_f_X5_unmovedSites.all goodWord = true := gw_c2 (by decide +kernel) (gw_ap gw_f_X5_sites (gw_ap gw_f_X5_of gw_nil))
theorem g_f_X5_unmovedSites_f_X5_sites_45 : GoodIn v_f_X5_unmovedSites (wsV RX5 45 RX5 yX5_sites v_f_X5_sites) := goodIn_in gw_f_X5_unmovedSites (in4 1 2 3 4 rfl rfl rfl rfl (fun _ h => List.mem_cons_of_mem _ (List.mem_append_right _ (List.mem_append_left _ h))))
theorem g_f_X5_unmovedSites_f_X5_of_69 : GoodIn v_f_X5_unmovedSites (wsV RX5 69 RX5 yX5_of v_f_X5_of) := goodIn_in gw_f_X5_unmovedSites (in4 5 6 7 4 rfl rfl rfl rfl (fun _ h => List.mem_cons_of_mem _ (List.mem_append_right _ (List.mem_append_right _ (List.mem_append_left _ h)))))
theorem hd_X5_unmovedSites : yX5_unmovedSites.cls = RX5 ∧ yX5_unmovedSites.cls ≠ "java/lang/invoke/MethodHandle" ∧ yX5_unmovedSites.cls ≠ "java/lang/invoke/VarHandle" ∧ (parseMethodDescriptor yX5_unmovedSites.desc).map (fun d => d.parameters.length) = some 0 := by decide +kernel
set_option maxHeartbeats 4000000 in
set_option maxRecDepth 100000 in
theorem j_X5_unmovedSites_47_r5 {p : Program} (l : Launch) {e : Env} {s : State} {m : MethodId} {below : List Frame} {meth : Method} {c : Code} {Q : State → Prop} (E : EE) (K : Nat) {a_ a_row a_partners a_share a_leftOver : Nat} {c_askedCount : Int32} {c_outcome : Int32} {c_row : Nat → Int32} {k0 : Int32} {x1 : Int32} {x2 : Int32} (hx : p.tables.exec = Jvm.exec) (hb : c.code = cX5_unmovedSites) (hml : c.maxLocals = 4) (hown : s.vm.findClass RX5 = some m.cls) (hts : ∀ w ∈ v_f_X5_unmovedSites, w.before #[Value.ref a_] s = true) (hK : va_K E.1 vwCl (TY E) s) (hN : NX s) {xx : (Int32 × Int32) ⊕ (Int32)} (hC : ∀ (x1 : Int32), ∀ (x2 : Int32), xx = .inl (x1, x2) → ∀ (ls : Array Slot), lv_has ls 4 [(0, .ref a_), (1, .int x1), (2, .int x2)] → W p l e ({ frames := 1, cells := 0, slots := 0, locals := 22 } : Room) s m #[Value.ref a_] below meth c s.heap [] 0 0 Q (F0 m 4 ls [])) (hE : ∀ (x1 : Int32), xx = .inr x1 → ((∀ (ls : Array Slot), lv_has ls 4 [(1, .int x1)] → W p l e ({ frames := 1, cells := 0, slots := 0, locals := 22 } : Room) s m #[Value.ref a_] below meth c s.heap [] 0 0 Q (F0 m 68 ls [])))) (hF : J_X5_unmovedSites_47_r5 k0 x1 x2 = some xx) (hP : va_P E.1 vwCl (w_X5_unmovedSites E a_ a_row a_partners a_share a_leftOver c_askedCount c_outcome c_row) s.heap) : ∀ (ls : Array Slot), lv_has ls 4 [(0, .ref a_), (1, .int x1), (2, .int x2)] → W p l e ({ frames := 1, cells := 0, slots := 0, locals := 22 } : Room) s m #[Value.ref a_] below meth c s.heap [] 0 0 Q (F0 m 47 ls [.int k0]) := by
  unfold J_X5_unmovedSites_47_r5 at hF
  replace hP : va_P E.1 vwCl [k_X5 a_ a_row a_partners c_askedCount c_outcome a_share a_leftOver, k_I E a_row 81 c_row] s.heap := hP
  intro ls hl
  refine lv_istore_n (lv' := [(3, .int k0), (0, .ref a_), (1, .int x1), (2, .int x2)]) hx hb (dq_62 0 bcX5_unmovedSites_0 (j := 47) rfl rfl) rfl hl (by decide) rfl (fun ls hl => ?_)
  refine lv_iload_n hx hb (dq_27 48 bcX5_unmovedSites_1 (j := 0) rfl rfl) rfl (lv_at hl 2 rfl) ?_
  refine lv_iload_n hx hb (dq_29 48 bcX5_unmovedSites_1 (j := 1) rfl rfl) rfl (lv_at hl 0 rfl) ?_
  refine lv_if_eq (tgt := 59) hx hb (dq_153 48 bcX5_unmovedSites_1 (j := 2) (i := 9) rfl rfl rfl) (by decide) (fun c_9 => ?_) (fun c_9 => ?_)
  ·
    replace hF := ip c_9 hF
    refine lv_iconst (v := 0) hx hb (dq_3 48 bcX5_unmovedSites_1 (j := 11) rfl rfl) (by decide) ?_
    refine lv_ior hx hb (dq_128 48 bcX5_unmovedSites_1 (j := 12) rfl rfl) ?_
    refine lv_istore_n (lv' := [(1, .int (x1 ||| (0 : Int32))), (3, .int k0), (0, .ref a_), (2, .int x2)]) hx hb (dq_60 48 bcX5_unmovedSites_1 (j := 13) rfl rfl) rfl hl (by decide) rfl (fun ls hl => ?_)
    refine lv_iinc (v := x2 + (1 : Int32)) (lv' := [(2, .int (x2 + (1 : Int32))), (1, .int (x1 ||| (0 : Int32))), (3, .int k0), (0, .ref a_)]) hx hb (dq_132 48 bcX5_unmovedSites_1 (j := 14) (i := 1) rfl rfl rfl) hl (k := 3) rfl (rfl) (by decide) rfl (fun ls hl => ?_)
    refine lv_goto (tgt := 4) hx hb (dq_167 48 bcX5_unmovedSites_1 (j := 17) (i := -61) rfl rfl rfl) (by decide) ?_
    cases hF
    exact hC (x1 ||| (0 : Int32)) (x2 + (1 : Int32)) rfl ls (lv_sub hl [3, 1, 0] rfl)
  ·
    replace hF := inn c_9 hF
    refine lv_iconst (v := 1) hx hb (dq_4 48 bcX5_unmovedSites_1 (j := 5) rfl rfl) (by decide) ?_
    refine lv_iload_n hx hb (dq_28 48 bcX5_unmovedSites_1 (j := 6) rfl rfl) rfl (lv_at hl 3 rfl) ?_
    refine lv_ishl hx hb (dq_120 48 bcX5_unmovedSites_1 (j := 7) rfl rfl) ?_
    refine lv_goto (tgt := 60) hx hb (dq_167 48 bcX5_unmovedSites_1 (j := 8) (i := 4) rfl rfl rfl) (by decide) ?_
    refine lv_ior hx hb (dq_128 48 bcX5_unmovedSites_1 (j := 12) rfl rfl) ?_
    refine lv_istore_n (lv' := [(1, .int (x1 ||| ((1 : Int32) <<< (x2 &&& (31 : Int32))))), (3, .int k0), (0, .ref a_), (2, .int x2)]) hx hb (dq_60 48 bcX5_unmovedSites_1 (j := 13) rfl rfl) rfl hl (by decide) rfl (fun ls hl => ?_)
    refine lv_iinc (v := x2 + (1 : Int32)) (lv' := [(2, .int (x2 + (1 : Int32))), (1, .int (x1 ||| ((1 : Int32) <<< (x2 &&& (31 : Int32))))), (3, .int k0), (0, .ref a_)]) hx hb (dq_132 48 bcX5_unmovedSites_1 (j := 14) (i := 1) rfl rfl rfl) hl (k := 3) rfl (rfl) (by decide) rfl (fun ls hl => ?_)
    refine lv_goto (tgt := 4) hx hb (dq_167 48 bcX5_unmovedSites_1 (j := 17) (i := -61) rfl rfl rfl) (by decide) ?_
    cases hF
    exact hC (x1 ||| ((1 : Int32) <<< (x2 &&& (31 : Int32)))) (x2 + (1 : Int32)) rfl ls (lv_sub hl [3, 1, 0] rfl)

set_option maxHeartbeats 4000000 in
set_option maxRecDepth 100000 in
theorem j_X5_unmovedSites_46_r5 {p : Program} (l : Launch) {e : Env} {s : State} {m : MethodId} {below : List Frame} {meth : Method} {c : Code} {Q : State → Prop} (E : EE) (K : Nat) {a_ a_row a_partners a_share a_leftOver : Nat} {c_askedCount : Int32} {c_outcome : Int32} {c_row : Nat → Int32} {x1 : Int32} {x2 : Int32} (hx : p.tables.exec = Jvm.exec) (hb : c.code = cX5_unmovedSites) (hml : c.maxLocals = 4) (hown : s.vm.findClass RX5 = some m.cls) (hts : ∀ w ∈ v_f_X5_unmovedSites, w.before #[Value.ref a_] s = true) (hK : va_K E.1 vwCl (TY E) s) (hN : NX s) {xx : (Int32 × Int32) ⊕ (Int32)} (hC : ∀ (x1 : Int32), ∀ (x2 : Int32), xx = .inl (x1, x2) → ∀ (ls : Array Slot), lv_has ls 4 [(0, .ref a_), (1, .int x1), (2, .int x2)] → W p l e ({ frames := 1, cells := 0, slots := 0, locals := 22 } : Room) s m #[Value.ref a_] below meth c s.heap [] 0 0 Q (F0 m 4 ls [])) (hE : ∀ (x1 : Int32), xx = .inr x1 → ((∀ (ls : Array Slot), lv_has ls 4 [(1, .int x1)] → W p l e ({ frames := 1, cells := 0, slots := 0, locals := 22 } : Room) s m #[Value.ref a_] below meth c s.heap [] 0 0 Q (F0 m 68 ls [])))) (hF : J_X5_unmovedSites_46_r5 x1 x2 = some xx) (hP : va_P E.1 vwCl (w_X5_unmovedSites E a_ a_row a_partners a_share a_leftOver c_askedCount c_outcome c_row) s.heap) : ∀ (ls : Array Slot), lv_has ls 4 [(0, .ref a_), (1, .int x1), (2, .int x2)] → W p l e ({ frames := 1, cells := 0, slots := 0, locals := 22 } : Room) s m #[Value.ref a_] below meth c s.heap [] 0 0 Q (F0 m 46 ls []) := by
  unfold J_X5_unmovedSites_46_r5 at hF
  replace hP : va_P E.1 vwCl [k_X5 a_ a_row a_partners c_askedCount c_outcome a_share a_leftOver, k_I E a_row 81 c_row] s.heap := hP
  intro ls hl
  refine lv_iconst (v := 0) hx hb (dq_3 0 bcX5_unmovedSites_0 (j := 46) rfl rfl) (by decide) ?_
  exact j_X5_unmovedSites_47_r5 l E K (c_askedCount := c_askedCount) (c_outcome := c_outcome) (c_row := c_row) (k0 := (0 : Int32)) (x1 := x1) (x2 := x2) hx hb hml hown hts hK hN hC hE hF hP ls (lv_sub hl [0, 1, 2] rfl)

set_option maxHeartbeats 4000000 in
set_option maxRecDepth 100000 in
theorem wb_X5_unmovedSites_4 {p : Program} (l : Launch) {e : Env} {s : State} {m : MethodId} {below : List Frame} {meth : Method} {c : Code} {Q : State → Prop} (E : EE) (K : Nat) {a_ a_row a_partners a_share a_leftOver : Nat} {c_askedCount : Int32} {c_outcome : Int32} {c_row : Nat → Int32} {x1 : Int32} {x2 : Int32} (hx : p.tables.exec = Jvm.exec) (hb : c.code = cX5_unmovedSites) (hml : c.maxLocals = 4) (hown : s.vm.findClass RX5 = some m.cls) (hts : ∀ w ∈ v_f_X5_unmovedSites, w.before #[Value.ref a_] s = true) (hK : va_K E.1 vwCl (TY E) s) (hN : NX s) {xx : (Int32 × Int32) ⊕ (Int32)} (hC : ∀ (x1 : Int32), ∀ (x2 : Int32), xx = .inl (x1, x2) → ∀ (ls : Array Slot), lv_has ls 4 [(0, .ref a_), (1, .int x1), (2, .int x2)] → W p l e ({ frames := 1, cells := 0, slots := 0, locals := 22 } : Room) s m #[Value.ref a_] below meth c s.heap [] 0 0 Q (F0 m 4 ls [])) (hE : ∀ (x1 : Int32), xx = .inr x1 → ((∀ (ls : Array Slot), lv_has ls 4 [(1, .int x1)] → W p l e ({ frames := 1, cells := 0, slots := 0, locals := 22 } : Room) s m #[Value.ref a_] below meth c s.heap [] 0 0 Q (F0 m 68 ls [])))) (hF : B_X5_unmovedSites_4 c_row x1 x2 = some xx) (hP : va_P E.1 vwCl (w_X5_unmovedSites E a_ a_row a_partners a_share a_leftOver c_askedCount c_outcome c_row) s.heap) : ∀ (ls : Array Slot), lv_has ls 4 [(0, .ref a_), (1, .int x1), (2, .int x2)] → W p l e ({ frames := 1, cells := 0, slots := 0, locals := 22 } : Room) s m #[Value.ref a_] below meth c s.heap [] 0 0 Q (F0 m 4 ls []) := by
  unfold B_X5_unmovedSites_4 at hF
  replace hP : va_P E.1 vwCl [k_X5 a_ a_row a_partners c_askedCount c_outcome a_share a_leftOver, k_I E a_row 81 c_row] s.heap := hP
  intro ls hl
  refine lv_iload_n hx hb (dq_28 0 bcX5_unmovedSites_0 (j := 4) rfl rfl) rfl (lv_at hl 2 rfl) ?_
  refine lv_aload_n hx hb (dq_42 0 bcX5_unmovedSites_0 (j := 5) rfl rfl) rfl (lv_at hl 0 rfl) ?_
  replace hF := bd1_s hF
  obtain ⟨r_1, hc_2, hF⟩ := hF
  have hPc : va_P E.1 vwCl (w_X5_sites E a_ a_row a_partners a_share a_leftOver c_askedCount c_outcome c_row) s.heap := hP.sub (ws' := [k_X5 a_ a_row a_partners c_askedCount c_outcome a_share a_leftOver, k_I E a_row 81 c_row]) [0, 1] rfl
  have hrc := va_recv hK hPc (ci := 6) (q0 := 0) rfl rfl
  refine pE_i (va_runV (As := []) (rest := [.int x2])  ⟨hx, hb, hml, hown, hts⟩ (f_X5_sites l E (a_ := a_) (a_row := a_row) (a_partners := a_partners) (a_share := a_share) (a_leftOver := a_leftOver) (c_askedCount := c_askedCount) (c_outcome := c_outcome) (c_row := c_row) hc_2) (cwV 0 hts g_f_X5_unmovedSites_f_X5_sites_45 rfl rfl rfl hd_X5_sites ⟨Nat.le_of_ble_eq_true rfl, Nat.le_of_ble_eq_true rfl⟩) ⟨pP.blind, hrc, (pP.pre ⟨hK, hN⟩ hPc)⟩ rfl rfl hl.1 rfl (lv_room (Nat.le_of_ble_eq_true rfl)) (dq_182 0 bcX5_unmovedSites_0 (j := 6) (i := 45) rfl rfl rfl) ⟨Nat.le_of_ble_eq_true rfl, Nat.le_of_ble_eq_true rfl⟩) ?_
  refine lv_icmp_ge (tgt := 68) hx hb (dq_162 0 bcX5_unmovedSites_0 (j := 9) (i := 59) rfl rfl rfl) (by decide) (fun c_3 => ?_) (fun c_3 => ?_)
  ·
    replace hF := ip c_3 hF
    cases hF
    exact hE x1 rfl ls (lv_sub hl [1] rfl)
  ·
    replace hF := inn c_3 hF
    refine lv_aload_n hx hb (dq_42 0 bcX5_unmovedSites_0 (j := 12) rfl rfl) rfl (lv_at hl 0 rfl) ?_
    refine lv_iload_n hx hb (dq_28 0 bcX5_unmovedSites_0 (j := 13) rfl rfl) rfl (lv_at hl 2 rfl) ?_
    refine lv_iconst (v := 0) hx hb (dq_3 0 bcX5_unmovedSites_0 (j := 14) rfl rfl) (by decide) ?_
    replace hF := bd1_s hF
    obtain ⟨r_4, hc_5, hF⟩ := hF
    have hPc : va_P E.1 vwCl (w_X5_of E a_ a_row a_partners a_share a_leftOver c_askedCount c_outcome c_row) s.heap := hP.sub (ws' := [k_X5 a_ a_row a_partners c_askedCount c_outcome a_share a_leftOver, k_I E a_row 81 c_row]) [0, 1] rfl
    have hrc := va_recv hK hPc (ci := 6) (q0 := 0) rfl rfl
    refine pE_i (va_runV (As := [.int x2, .int (0 : Int32)]) (rest := [])  ⟨hx, hb, hml, hown, hts⟩ (f_X5_of l E (a_ := a_) (a_row := a_row) (a_partners := a_partners) (a_share := a_share) (a_leftOver := a_leftOver) (p1 := x2) (p2 := (0 : Int32)) (c_askedCount := c_askedCount) (c_outcome := c_outcome) (c_row := c_row) hc_5) (cwV 2 hts g_f_X5_unmovedSites_f_X5_of_69 rfl rfl rfl hd_X5_of ⟨Nat.le_of_ble_eq_true rfl, Nat.le_of_ble_eq_true rfl⟩) ⟨pP.blind, hrc, (pP.pre ⟨hK, hN⟩ hPc)⟩ rfl rfl hl.1 rfl (lv_room (Nat.le_of_ble_eq_true rfl)) (dq_182 0 bcX5_unmovedSites_0 (j := 15) (i := 69) rfl rfl rfl) ⟨Nat.le_of_ble_eq_true rfl, Nat.le_of_ble_eq_true rfl⟩) ?_
    refine lv_aload_n hx hb (dq_42 0 bcX5_unmovedSites_0 (j := 18) rfl rfl) rfl (lv_at hl 0 rfl) ?_
    refine lv_iload_n hx hb (dq_28 0 bcX5_unmovedSites_0 (j := 19) rfl rfl) rfl (lv_at hl 2 rfl) ?_
    refine lv_iconst (v := 2) hx hb (dq_5 0 bcX5_unmovedSites_0 (j := 20) rfl rfl) (by decide) ?_
    replace hF := bd1_s hF
    obtain ⟨r_6, hc_7, hF⟩ := hF
    have hPc : va_P E.1 vwCl (w_X5_of E a_ a_row a_partners a_share a_leftOver c_askedCount c_outcome c_row) s.heap := hP.sub (ws' := [k_X5 a_ a_row a_partners c_askedCount c_outcome a_share a_leftOver, k_I E a_row 81 c_row]) [0, 1] rfl
    have hrc := va_recv hK hPc (ci := 6) (q0 := 0) rfl rfl
    refine pE_i (va_runV (As := [.int x2, .int (2 : Int32)]) (rest := [.int r_4])  ⟨hx, hb, hml, hown, hts⟩ (f_X5_of l E (a_ := a_) (a_row := a_row) (a_partners := a_partners) (a_share := a_share) (a_leftOver := a_leftOver) (p1 := x2) (p2 := (2 : Int32)) (c_askedCount := c_askedCount) (c_outcome := c_outcome) (c_row := c_row) hc_7) (cwV 2 hts g_f_X5_unmovedSites_f_X5_of_69 rfl rfl rfl hd_X5_of ⟨Nat.le_of_ble_eq_true rfl, Nat.le_of_ble_eq_true rfl⟩) ⟨pP.blind, hrc, (pP.pre ⟨hK, hN⟩ hPc)⟩ rfl rfl hl.1 rfl (lv_room (Nat.le_of_ble_eq_true rfl)) (dq_182 0 bcX5_unmovedSites_0 (j := 21) (i := 69) rfl rfl rfl) ⟨Nat.le_of_ble_eq_true rfl, Nat.le_of_ble_eq_true rfl⟩) ?_
    refine lv_icmp_ne (tgt := 46) hx hb (dq_160 0 bcX5_unmovedSites_0 (j := 24) (i := 22) rfl rfl rfl) (by decide) (fun c_8 => ?_) (fun c_8 => ?_)
    ·
      replace hF := inn c_8 hF
      exact j_X5_unmovedSites_46_r5 l E K (c_askedCount := c_askedCount) (c_outcome := c_outcome) (c_row := c_row) (x1 := x1) (x2 := x2) hx hb hml hown hts hK hN hC hE hF hP ls (lv_sub hl [0, 1, 2] rfl)
    ·
      replace hF := ip c_8 hF
      refine lv_aload_n hx hb (dq_42 0 bcX5_unmovedSites_0 (j := 27) rfl rfl) rfl (lv_at hl 0 rfl) ?_
      refine lv_iload_n hx hb (dq_28 0 bcX5_unmovedSites_0 (j := 28) rfl rfl) rfl (lv_at hl 2 rfl) ?_
      refine lv_iconst (v := 1) hx hb (dq_4 0 bcX5_unmovedSites_0 (j := 29) rfl rfl) (by decide) ?_
      replace hF := bd1_s hF
      obtain ⟨r_10, hc_11, hF⟩ := hF
      have hPc : va_P E.1 vwCl (w_X5_of E a_ a_row a_partners a_share a_leftOver c_askedCount c_outcome c_row) s.heap := hP.sub (ws' := [k_X5 a_ a_row a_partners c_askedCount c_outcome a_share a_leftOver, k_I E a_row 81 c_row]) [0, 1] rfl
      have hrc := va_recv hK hPc (ci := 6) (q0 := 0) rfl rfl
      refine pE_i (va_runV (As := [.int x2, .int (1 : Int32)]) (rest := [])  ⟨hx, hb, hml, hown, hts⟩ (f_X5_of l E (a_ := a_) (a_row := a_row) (a_partners := a_partners) (a_share := a_share) (a_leftOver := a_leftOver) (p1 := x2) (p2 := (1 : Int32)) (c_askedCount := c_askedCount) (c_outcome := c_outcome) (c_row := c_row) hc_11) (cwV 2 hts g_f_X5_unmovedSites_f_X5_of_69 rfl rfl rfl hd_X5_of ⟨Nat.le_of_ble_eq_true rfl, Nat.le_of_ble_eq_true rfl⟩) ⟨pP.blind, hrc, (pP.pre ⟨hK, hN⟩ hPc)⟩ rfl rfl hl.1 rfl (lv_room (Nat.le_of_ble_eq_true rfl)) (dq_182 0 bcX5_unmovedSites_0 (j := 30) (i := 69) rfl rfl rfl) ⟨Nat.le_of_ble_eq_true rfl, Nat.le_of_ble_eq_true rfl⟩) ?_
      refine lv_aload_n hx hb (dq_42 0 bcX5_unmovedSites_0 (j := 33) rfl rfl) rfl (lv_at hl 0 rfl) ?_
      refine lv_iload_n hx hb (dq_28 0 bcX5_unmovedSites_0 (j := 34) rfl rfl) rfl (lv_at hl 2 rfl) ?_
      refine lv_iconst (v := 3) hx hb (dq_6 0 bcX5_unmovedSites_0 (j := 35) rfl rfl) (by decide) ?_
      replace hF := bd1_s hF
      obtain ⟨r_12, hc_13, hF⟩ := hF
      have hPc : va_P E.1 vwCl (w_X5_of E a_ a_row a_partners a_share a_leftOver c_askedCount c_outcome c_row) s.heap := hP.sub (ws' := [k_X5 a_ a_row a_partners c_askedCount c_outcome a_share a_leftOver, k_I E a_row 81 c_row]) [0, 1] rfl
      have hrc := va_recv hK hPc (ci := 6) (q0 := 0) rfl rfl
      refine pE_i (va_runV (As := [.int x2, .int (3 : Int32)]) (rest := [.int r_10])  ⟨hx, hb, hml, hown, hts⟩ (f_X5_of l E (a_ := a_) (a_row := a_row) (a_partners := a_partners) (a_share := a_share) (a_leftOver := a_leftOver) (p1 := x2) (p2 := (3 : Int32)) (c_askedCount := c_askedCount) (c_outcome := c_outcome) (c_row := c_row) hc_13) (cwV 2 hts g_f_X5_unmovedSites_f_X5_of_69 rfl rfl rfl hd_X5_of ⟨Nat.le_of_ble_eq_true rfl, Nat.le_of_ble_eq_true rfl⟩) ⟨pP.blind, hrc, (pP.pre ⟨hK, hN⟩ hPc)⟩ rfl rfl hl.1 rfl (lv_room (Nat.le_of_ble_eq_true rfl)) (dq_182 0 bcX5_unmovedSites_0 (j := 36) (i := 69) rfl rfl rfl) ⟨Nat.le_of_ble_eq_true rfl, Nat.le_of_ble_eq_true rfl⟩) ?_
      refine lv_icmp_ne (tgt := 46) hx hb (dq_160 0 bcX5_unmovedSites_0 (j := 39) (i := 7) rfl rfl rfl) (by decide) (fun c_14 => ?_) (fun c_14 => ?_)
      ·
        replace hF := inn c_14 hF
        exact j_X5_unmovedSites_46_r5 l E K (c_askedCount := c_askedCount) (c_outcome := c_outcome) (c_row := c_row) (x1 := x1) (x2 := x2) hx hb hml hown hts hK hN hC hE hF hP ls (lv_sub hl [0, 1, 2] rfl)
      ·
        replace hF := ip c_14 hF
        refine lv_iconst (v := 1) hx hb (dq_4 0 bcX5_unmovedSites_0 (j := 42) rfl rfl) (by decide) ?_
        refine lv_goto (tgt := 47) hx hb (dq_167 0 bcX5_unmovedSites_0 (j := 43) (i := 4) rfl rfl rfl) (by decide) ?_
        exact j_X5_unmovedSites_47_r5 l E K (c_askedCount := c_askedCount) (c_outcome := c_outcome) (c_row := c_row) (k0 := (1 : Int32)) (x1 := x1) (x2 := x2) hx hb hml hown hts hK hN hC hE hF hP ls (lv_sub hl [0, 1, 2] rfl)

set_option maxHeartbeats 4000000 in
set_option maxRecDepth 100000 in
theorem lw_X5_unmovedSites_4 {p : Program} (l : Launch) {e : Env} {s : State} {m : MethodId} {below : List Frame} {meth : Method} {c : Code} {Q : State → Prop} (E : EE) (K : Nat) {a_ a_row a_partners a_share a_leftOver : Nat} {c_askedCount : Int32} {c_outcome : Int32} {c_row : Nat → Int32} (hx : p.tables.exec = Jvm.exec) (hb : c.code = cX5_unmovedSites) (hml : c.maxLocals = 4) (hown : s.vm.findClass RX5 = some m.cls) (hts : ∀ w ∈ v_f_X5_unmovedSites, w.before #[Value.ref a_] s = true) (hK : va_K E.1 vwCl (TY E) s) (hN : NX s) (hP : va_P E.1 vwCl (w_X5_unmovedSites E a_ a_row a_partners a_share a_leftOver c_askedCount c_outcome c_row) s.heap) (j9 : Nat) (x1 : Int32) (x2 : Int32) (x1' : Int32) (hL : lpF (fun u9 : Int32 × Int32 => B_X5_unmovedSites_4 c_row u9.1 u9.2) j9 (x1, x2) = some x1') (hX : (∀ (ls : Array Slot), lv_has ls 4 [(1, .int x1')] → W p l e ({ frames := 1, cells := 0, slots := 0, locals := 22 } : Room) s m #[Value.ref a_] below meth c s.heap [] 0 0 Q (F0 m 68 ls []))) : ∀ (ls : Array Slot), lv_has ls 4 [(0, .ref a_), (1, .int x1), (2, .int x2)] → W p l e ({ frames := 1, cells := 0, slots := 0, locals := 22 } : Room) s m #[Value.ref a_] below meth c s.heap [] 0 0 Q (F0 m 4 ls []) := by
  exact lp_rule (P := (fun u9 : Int32 × Int32 => ∀ (ls : Array Slot), lv_has ls 4 [(0, .ref a_), (1, .int u9.1), (2, .int u9.2)] → W p l e ({ frames := 1, cells := 0, slots := 0, locals := 22 } : Room) s m #[Value.ref a_] below meth c s.heap [] 0 0 Q (F0 m 4 ls []))) (R := (fun r9 : Int32 => (∀ (ls : Array Slot), lv_has ls 4 [(1, .int r9)] → W p l e ({ frames := 1, cells := 0, slots := 0, locals := 22 } : Room) s m #[Value.ref a_] below meth c s.heap [] 0 0 Q (F0 m 68 ls [])))) (fun u9 xx hF hC hE => wb_X5_unmovedSites_4 l E K (c_askedCount := c_askedCount) (c_outcome := c_outcome) (c_row := c_row) (x1 := u9.1) (x2 := u9.2) hx hb hml hown hts hK hN (fun x1 x2 q9 => hC _ q9) (fun x1 q9 => hE _ q9) hF hP) j9 (x1, x2) x1' hL hX

set_option maxHeartbeats 4000000 in
set_option maxRecDepth 100000 in
theorem f_X5_unmovedSites (l : Launch) (E : EE) (K : Nat) {a_ a_row a_partners a_share a_leftOver : Nat} {c_askedCount : Int32} {c_outcome : Int32} {c_row : Nat → Int32} {rr : Int32} (hF : F_X5_unmovedSites K c_row = some rr) : Met l yX5_unmovedSites v_f_X5_unmovedSites (({ frames := 1, cells := 0, slots := 0, locals := 22 } : Room)) (va_Pc [.ref a_] (pP E (w_X5_unmovedSites E a_ a_row a_partners a_share a_leftOver c_askedCount c_outcome c_row))) (vp_Si (fun q : Int32 => q = rr)) 0 0 (fun _ => False) := by
  refine Met.ofW (cc := cX5_unmovedSites) (maxL := 4) (ret := (some .int)) (by decide) rfl ?_
  intro p e s m args below meth c s₁ B hml hv
  obtain ⟨rfl, ⟨hK, hN⟩, hP⟩ := hv
  have hx := B.exec
  have hb := B.bytes
  have hr := B.returns
  have hts := atoms_spec (ws := v_f_X5_unmovedSites) B.pre
  have hown : s.vm.findClass RX5 = some m.cls := own_of hd_X5_unmovedSites.1 (findClass_of_methodNamed B.named)
  have hlocks : meth.locks = false := B.notSynchronized
  replace hP : va_P E.1 vwCl [k_X5 a_ a_row a_partners c_askedCount c_outcome a_share a_leftOver, k_I E a_row 81 c_row] s.heap := hP
  have hl := lv_entry ([.ref a_]) (n := 4) (Nat.le_of_ble_eq_true rfl)
  rw [lg_entry_eq]
  generalize (lg_sl ([.ref a_]) ++ List.replicate (4 - (lg_sl ([.ref a_])).length) Slot.unset).toArray = ls at hl ⊢
  have hl : lv_has ls 4 [(0, .ref a_)] := hl
  obtain ⟨Q, hQ⟩ : ∃ Q : State → Prop, Q = MQ below (vp_Si (fun q : Int32 => q = rr)) #[Value.ref a_] s 0 0 (fun _ => False) := ⟨_, rfl⟩
  rw [← hQ]
  change W p l e ({ frames := 1, cells := 0, slots := 0, locals := 22 } : Room) s m #[Value.ref a_] below meth c s.heap [] 0 0 Q (F0 m 0 ls [])
  unfold F_X5_unmovedSites at hF
  refine lv_iconst (v := 0) hx hb (dq_3 0 bcX5_unmovedSites_0 (j := 0) rfl rfl) (by decide) ?_
  refine lv_istore_n (lv' := [(1, .int (0 : Int32)), (0, .ref a_)]) hx hb (dq_60 0 bcX5_unmovedSites_0 (j := 1) rfl rfl) rfl hl (by decide) rfl (fun ls hl => ?_)
  refine lv_iconst (v := 0) hx hb (dq_3 0 bcX5_unmovedSites_0 (j := 2) rfl rfl) (by decide) ?_
  refine lv_istore_n (lv' := [(2, .int (0 : Int32)), (1, .int (0 : Int32)), (0, .ref a_)]) hx hb (dq_61 0 bcX5_unmovedSites_0 (j := 3) rfl rfl) rfl hl (by decide) rfl (fun ls hl => ?_)
  replace hF := bd1_s hF
  obtain ⟨x1_15, hL_16, hF⟩ := hF
  refine lw_X5_unmovedSites_4 l E K (c_askedCount := c_askedCount) (c_outcome := c_outcome) (c_row := c_row) hx hb hml hown hts hK hN hP K (0 : Int32) (0 : Int32) x1_15 hL_16 ?_ ls (lv_sub hl [2, 1, 0] rfl)
  ·
    intro ls hl
    refine lv_iload_n hx hb (dq_27 48 bcX5_unmovedSites_1 (j := 20) rfl rfl) rfl (lv_at hl 0 rfl) ?_
    rw [hQ]
    obtain e9_0 := inj1 hF
    exact W.iret (v := x1_15) hx hb hr (fun tt ht hW => ⟨_, rfl, e9_0, ht⟩) (fun _ h => by cases h) (dq_172 48 bcX5_unmovedSites_1 (j := 21) rfl rfl)
