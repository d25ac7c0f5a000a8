noncomputable def blX5_canShare_0 : List Nat := [42, 27, 182, 0, 165, 3, 61, 3, 62, 29, 42, 182, 0, 45, 162, 0, 44, 27, 29, 122, 4, 126, 154, 0, 6, 167, 0, 27, 42, 42, 28, 3, 182, 0, 168, 42, 28, 4, 182, 0, 168, 182, 0, 87, 154, 0, 5, 3, 172, 132, 2]
set_option maxRecDepth 100000 in
theorem bcX5_canShare_0 : ((cX5_canShare.data.toList.drop 0).take blX5_canShare_0.length).map UInt8.toNat = blX5_canShare_0 := by decide +kernel
noncomputable def blX5_canShare_1 : List Nat := [172, 132, 2, 1, 132, 3, 1, 167, 255, 210, 4, 172]
set_option maxRecDepth 100000 in
theorem bcX5_canShare_1 : ((cX5_canShare.data.toList.drop 48).take blX5_canShare_1.length).map UInt8.toNat = blX5_canShare_1 := by decide +kernel
noncomputable def blX5_copyFrom_0 : List Nat := [43, 180, 0, 11, 3, 42, 180, 0, 11, 3, 16, 81, 184, 0, 63, 177]
set_option maxRecDepth 100000 in
theorem bcX5_copyFrom_0 : ((cX5_copyFrom.data.toList.drop 0).take blX5_copyFrom_0.length).map UInt8.toNat = blX5_copyFrom_0 := by decide +kernel
noncomputable def blX5_shift_0 : List Nat := [42, 27, 3, 42, 27, 3, 182, 0, 69, 28, 96, 182, 0, 52, 42, 27, 4, 42, 27, 4, 182, 0, 69, 29, 96, 182, 0, 52, 177]
set_option maxRecDepth 100000 in
theorem bcX5_shift_0 : ((cX5_shift.data.toList.drop 0).take blX5_shift_0.length).map UInt8.toNat = blX5_shift_0 := by decide +kernel
noncomputable def blX5_isQuiet_0 : List Nat := [42, 42, 27, 3, 182, 0, 72, 42, 27, 4, 182, 0, 72, 182, 0, 87, 172]
set_option maxRecDepth 100000 in
theorem bcX5_isQuiet_0 : ((cX5_isQuiet.data.toList.drop 0).take blX5_isQuiet_0.length).map UInt8.toNat = blX5_isQuiet_0 := by decide +kernel
noncomputable def blX5_isFrozen_0 : List Nat := [42, 27, 182, 0, 79, 153, 0, 21, 42, 180, 0, 11, 16, 7, 46, 27, 122, 4, 126, 153, 0, 7, 4, 167, 0, 4, 3, 172]
set_option maxRecDepth 100000 in
theorem bcX5_isFrozen_0 : ((cX5_isFrozen.data.toList.drop 0).take blX5_isFrozen_0.length).map UInt8.toNat = blX5_isFrozen_0 := by decide +kernel
noncomputable def blX5_noteAsked_0 : List Nat := [42, 180, 0, 18, 16, 8, 162, 0, 23, 42, 180, 0, 15, 42, 180, 0, 18, 27, 79, 42, 89, 180, 0, 18, 4, 96, 181, 0, 18, 177]
set_option maxRecDepth 100000 in
theorem bcX5_noteAsked_0 : ((cX5_noteAsked.data.toList.drop 0).take blX5_noteAsked_0.length).map UInt8.toNat = blX5_noteAsked_0 := by decide +kernel
noncomputable def blX5_hearAll_0 : List Nat := [42, 182, 0, 56, 42, 180, 0, 11, 16, 14, 92, 46, 4, 96, 79, 42, 42, 180, 0, 11, 7, 46, 133, 42, 180, 0, 11, 8, 46, 133, 182, 0, 59, 153, 0, 7, 3, 167, 0, 4, 4, 60, 27, 42, 180, 0, 11, 16, 6, 46, 159]
set_option maxRecDepth 100000 in
theorem bcX5_hearAll_0 : ((cX5_hearAll.data.toList.drop 0).take blX5_hearAll_0.length).map UInt8.toNat = blX5_hearAll_0 := by decide +kernel
noncomputable def blX5_hearAll_1 : List Nat := [6, 46, 159, 0, 14, 42, 180, 0, 11, 16, 15, 92, 46, 4, 96, 79, 42, 180, 0, 11, 16, 6, 27, 79, 177]
set_option maxRecDepth 100000 in
theorem bcX5_hearAll_1 : ((cX5_hearAll.data.toList.drop 48).take blX5_hearAll_1.length).map UInt8.toNat = blX5_hearAll_1 := by decide +kernel

def B_X5_canShare_9 (p1 : Int32) (c_row : Nat → Int32) (c_share : Nat → Int32) (c_leftOver : Nat → Int32) (x2 : Int32) (x3 : Int32) : Option ((Int32 × Int32) ⊕ (Nat)) :=
  bd1 (F_X5_sites c_row) (fun r_4 => if r_4 ≤ x3 then some (.inr 1) else if (p1 >>> (x3 &&& (31 : Int32))) &&& (1 : Int32) = (0 : Int32) then some (.inl (x2, x3 + (1 : Int32))) else bd1 (F_X5_shareOf x2 (0 : Int32) c_share c_leftOver) (fun r_8 => bd1 (F_X5_shareOf x2 (1 : Int32) c_share c_leftOver) (fun r_10 => bd1 (F_X5_isQuietDrift r_8 r_10 c_row) (fun r_12 => if r_12 = (0 : Int32) then some (.inr 0) else some (.inl (x2 + (1 : Int32), x3 + (1 : Int32)))))))
def F_X5_canShare (K : Nat) (p1 : Int32) (c_row : Nat → Int32) (c_share : Nat → Int32) (c_leftOver : Nat → Int32) : Option (Int32 × (Nat → Int32) × (Nat → Int32)) :=
  bd2 (F_X5_measureShares K p1 c_row c_share c_leftOver) (fun w_1 w_2 => bd1 (lpF (fun u9 : Int32 × Int32 => B_X5_canShare_9 p1 c_row w_1 w_2 u9.1 u9.2) K ((0 : Int32), (0 : Int32))) (fun t_16 => if t_16 = 0 then some ((0 : Int32), w_1, w_2) else if t_16 = 1 then some ((1 : Int32), w_1, w_2) else none))
abbrev w_X5_canShare (E : EE) (a_ a_row a_partners a_share a_leftOver : Nat) (c_askedCount : Int32) (c_outcome : Int32) (c_row : Nat → Int32) (c_share : Nat → Int32) (c_leftOver : Nat → Int32) : va_W := [k_X5 a_ a_row a_partners c_askedCount c_outcome a_share a_leftOver, k_I E a_row 81 c_row, k_I E a_share 2 c_share, k_I E a_leftOver 2 c_leftOver]
def v_f_X5_canShare : List Cond := List.cons (.code yX5_canShare cX5_canShare 4 (some .boolean)) (HAppend.hAppend (α := List Cond) (β := List Cond) (γ := List Cond) [.methodLink RX5 165 yX5_measureShares, .instanceMethod yX5_measureShares, .selects RX5 yX5_measureShares yX5_measureShares, .initialized RX5, .methodLink RX5 45 yX5_sites, .instanceMethod yX5_sites, .selects RX5 yX5_sites yX5_sites, .methodLink RX5 168 yX5_shareOf, .instanceMethod yX5_shareOf, .selects RX5 yX5_shareOf yX5_shareOf, .methodLink RX5 87 yX5_isQuietDrift, .instanceMethod yX5_isQuietDrift, .selects RX5 yX5_isQuietDrift yX5_isQuietDrift] (HAppend.hAppend (α := List Cond) (β := List Cond) (γ := List Cond) v_f_X5_measureShares (HAppend.hAppend (α := List Cond) (β := List Cond) (γ := List Cond) v_f_X5_sites (HAppend.hAppend (α := List Cond) (β := List Cond) (γ := List Cond) v_f_X5_shareOf (HAppend.hAppend (α := List Cond) (β := List Cond) (γ := List Cond) v_f_X5_isQuietDrift [])))))
theorem gw_f_X5_canShare : v_f_X5_canShare.all goodWord = true := gw_c2 (by decide +kernel) (gw_ap gw_f_X5_measureShares (gw_ap gw_f_X5_sites (gw_ap gw_f_X5_shareOf (gw_ap gw_f_X5_isQuietDrift gw_nil))))
theorem g_f_X5_canShare_f_X5_measureShares_165 : GoodIn v_f_X5_canShare (wsV RX5 165 RX5 yX5_measureShares v_f_X5_measureShares) := goodIn_in gw_f_X5_canShare (in4 1 2 3 4 rfl rfl rfl rfl (fun _ h => List.mem_cons_of_mem _ (List.mem_append_right _ (List.mem_append_left _ h))))
theorem g_f_X5_canShare_f_X5_sites_45 : GoodIn v_f_X5_canShare (wsV RX5 45 RX5 yX5_sites v_f_X5_sites) := goodIn_in gw_f_X5_canShare (in4 5 6 7 4 rfl rfl rfl rfl (fun _ h => List.mem_cons_of_mem _ (List.mem_append_right _ (List.mem_append_right _ (List.mem_append_left _ h)))))
theorem g_f_X5_canShare_f_X5_shareOf_168 : GoodIn v_f_X5_canShare (wsV RX5 168 RX5 yX5_shareOf v_f_X5_shareOf) := goodIn_in gw_f_X5_canShare (in4 8 9 10 4 rfl rfl rfl rfl (fun _ h => List.mem_cons_of_mem _ (List.mem_append_right _ (List.mem_append_right _ (List.mem_append_right _ (List.mem_append_left _ h))))))
theorem g_f_X5_canShare_f_X5_isQuietDrift_87 : GoodIn v_f_X5_canShare (wsV RX5 87 RX5 yX5_isQuietDrift v_f_X5_isQuietDrift) := goodIn_in gw_f_X5_canShare (in4 11 12 13 4 rfl rfl rfl rfl (fun _ h => List.mem_cons_of_mem _ (List.mem_append_right _ (List.mem_append_right _ (List.mem_append_right _ (List.mem_append_right _ (List.mem_append_left _ h)))))))
theorem hd_X5_canShare : yX5_canShare.cls = RX5 ∧ yX5_canShare.cls ≠ "java/lang/invoke/MethodHandle" ∧ yX5_canShare.cls ≠ "java/lang/invoke/VarHandle" ∧ (parseMethodDescriptor yX5_canShare.desc).map (fun d => d.parameters.length) = some 1 := by decide +kernel
set_option maxHeartbeats 4000000 in
set_option maxRecDepth 100000 in
theorem wb_X5_canShare_9 {p : Program} (l : Launch) {e : Env} {s : State} {m : MethodId} {below : List Frame} {meth : Method} {c : Code} {Q : State → Prop} (E : EE) (K : Nat) {a_ a_row a_partners a_share a_leftOver : Nat} {p1 : Int32} {c_askedCount : Int32} {c_outcome : Int32} {c_row : Nat → Int32} {x2 : Int32} {x3 : Int32} {c_share : Nat → Int32} {c_leftOver : Nat → Int32} (hx : p.tables.exec = Jvm.exec) (hb : c.code = cX5_canShare) (hml : c.maxLocals = 4) (hown : s.vm.findClass RX5 = some m.cls) (hts : ∀ w ∈ v_f_X5_canShare, w.before #[Value.ref a_, Value.int p1] s = true) (hK : va_K E.1 vwCl (TY E) s) (hN : NX s) {A : Nat → Prop} (hA : ∀ q : Nat, s.heap.size ≤ q → A q) {xx : (Int32 × Int32) ⊕ (Nat)} (hC : ∀ (x2 : Int32), ∀ (x3 : Int32), xx = .inl (x2, x3) → ∀ (H : Heap) (locs : List Loc) (ls : Array Slot), va_P E.1 vwCl (w_X5_canShare E a_ a_row a_partners a_share a_leftOver c_askedCount c_outcome c_row c_share c_leftOver) H → va_D A (w_X5_canShare E a_ a_row a_partners a_share a_leftOver c_askedCount c_outcome c_row c_share c_leftOver) → va_S A s.heap H locs → lv_has ls 4 [(0, .ref a_), (1, .int p1), (2, .int x2), (3, .int x3)] → W p l e ({ frames := 2, cells := 0, slots := 0, locals := 50 } : Room) s m #[Value.ref a_, Value.int p1] below meth c H locs 0 0 Q (F0 m 9 ls [])) (hE : ∀ (t9 : Nat), xx = .inr t9 → ((t9 = 0 → ∀ (H : Heap) (locs : List Loc) (ls : Array Slot), va_P E.1 vwCl (w_X5_canShare E a_ a_row a_partners a_share a_leftOver c_askedCount c_outcome c_row c_share c_leftOver) H → va_D A (w_X5_canShare E a_ a_row a_partners a_share a_leftOver c_askedCount c_outcome c_row c_share c_leftOver) → va_S A s.heap H locs → lv_has ls 4 [] → W p l e ({ frames := 2, cells := 0, slots := 0, locals := 50 } : Room) s m #[Value.ref a_, Value.int p1] below meth c H locs 0 0 Q (F0 m 47 ls [])) ∧ (t9 = 1 → ∀ (H : Heap) (locs : List Loc) (ls : Array Slot), va_P E.1 vwCl (w_X5_canShare E a_ a_row a_partners a_share a_leftOver c_askedCount c_outcome c_row c_share c_leftOver) H → va_D A (w_X5_canShare E a_ a_row a_partners a_share a_leftOver c_askedCount c_outcome c_row c_share c_leftOver) → va_S A s.heap H locs → lv_has ls 4 [] → W p l e ({ frames := 2, cells := 0, slots := 0, locals := 50 } : Room) s m #[Value.ref a_, Value.int p1] below meth c H locs 0 0 Q (F0 m 58 ls [])))) (hF : B_X5_canShare_9 p1 c_row c_share c_leftOver x2 x3 = some xx) : ∀ (H : Heap) (locs : List Loc) (ls : Array Slot), va_P E.1 vwCl (w_X5_canShare E a_ a_row a_partners a_share a_leftOver c_askedCount c_outcome c_row c_share c_leftOver) H → va_D A (w_X5_canShare E a_ a_row a_partners a_share a_leftOver c_askedCount c_outcome c_row c_share c_leftOver) → va_S A s.heap H locs → lv_has ls 4 [(0, .ref a_), (1, .int p1), (2, .int x2), (3, .int x3)] → W p l e ({ frames := 2, cells := 0, slots := 0, locals := 50 } : Room) s m #[Value.ref a_, Value.int p1] below meth c H locs 0 0 Q (F0 m 9 ls []) := by
  unfold B_X5_canShare_9 at hF
  intro H locs ls hP hD hS hl
  have h9 := fixPD (ws' := [k_X5 a_ a_row a_partners c_askedCount c_outcome a_share a_leftOver, k_I E a_row 81 c_row, k_I E a_share 2 c_share, k_I E a_leftOver 2 c_leftOver]) hP hD rfl
  clear hP hD
  obtain ⟨hP, hD⟩ := h9
  refine lv_iload_n hx hb (dq_29 0 bcX5_canShare_0 (j := 9) rfl rfl) rfl (lv_at hl 3 rfl) ?_
  refine lv_aload_n hx hb (dq_42 0 bcX5_canShare_0 (j := 10) rfl rfl) rfl (lv_at hl 0 rfl) ?_
  replace hF := bd1_s hF
  obtain ⟨r_4, hc_5, hF⟩ := hF
  have hPc : va_P E.1 vwCl (w_X5_sites E a_ a_row a_partners a_share a_leftOver c_askedCount c_outcome c_row) H := hP.sub (ws' := [k_X5 a_ a_row a_partners c_askedCount c_outcome a_share a_leftOver, k_I E a_row 81 c_row]) [0, 1] rfl
  have hrc := va_recv hK hPc (ci := 6) (q0 := 0) rfl rfl
  refine pE_i (va_runV (As := []) (rest := [.int x3])  ⟨hx, hb, hml, hown, hts⟩ (f_X5_sites l E (a_ := a_) (a_row := a_row) (a_partners := a_partners) (a_share := a_share) (a_leftOver := a_leftOver) (c_askedCount := c_askedCount) (c_outcome := c_outcome) (c_row := c_row) hc_5) (cwV 0 hts g_f_X5_canShare_f_X5_sites_45 rfl rfl rfl hd_X5_sites ⟨Nat.le_of_ble_eq_true rfl, Nat.le_of_ble_eq_true rfl⟩) ⟨pP.blind, hrc, (pP.pre ⟨hK, hN⟩ hPc)⟩ rfl rfl hl.1 rfl (lv_room (Nat.le_of_ble_eq_true rfl)) (dq_182 0 bcX5_canShare_0 (j := 11) (i := 45) rfl rfl rfl) ⟨Nat.le_of_ble_eq_true rfl, Nat.le_of_ble_eq_true rfl⟩) ?_
  refine lv_icmp_ge (tgt := 58) hx hb (dq_162 0 bcX5_canShare_0 (j := 14) (i := 44) rfl rfl rfl) (by decide) (fun c_6 => ?_) (fun c_6 => ?_)
  ·
    replace hF := ip c_6 hF
    cases hF
    exact (hE 1  rfl).2 rfl H locs ls (hP.sub [0, 1, 2, 3] rfl) (hD.sub [0, 1, 2, 3] (by decide) rfl) hS (lv_sub hl [] rfl)
  ·
    replace hF := inn c_6 hF
    refine lv_iload_n hx hb (dq_27 0 bcX5_canShare_0 (j := 17) rfl rfl) rfl (lv_at hl 1 rfl) ?_
    refine lv_iload_n hx hb (dq_29 0 bcX5_canShare_0 (j := 18) rfl rfl) rfl (lv_at hl 3 rfl) ?_
    refine lv_ishr hx hb (dq_122 0 bcX5_canShare_0 (j := 19) rfl rfl) ?_
    refine lv_iconst (v := 1) hx hb (dq_4 0 bcX5_canShare_0 (j := 20) rfl rfl) (by decide) ?_
    refine lv_iand hx hb (dq_126 0 bcX5_canShare_0 (j := 21) rfl rfl) ?_
    refine lv_if_ne (tgt := 28) hx hb (dq_154 0 bcX5_canShare_0 (j := 22) (i := 6) rfl rfl rfl) (by decide) (fun c_7 => ?_) (fun c_7 => ?_)
    ·
      replace hF := inn c_7 hF
      refine lv_aload_n hx hb (dq_42 0 bcX5_canShare_0 (j := 28) rfl rfl) rfl (lv_at hl 0 rfl) ?_
      refine lv_aload_n hx hb (dq_42 0 bcX5_canShare_0 (j := 29) rfl rfl) rfl (lv_at hl 0 rfl) ?_
      refine lv_iload_n hx hb (dq_28 0 bcX5_canShare_0 (j := 30) rfl rfl) rfl (lv_at hl 2 rfl) ?_
      refine lv_iconst (v := 0) hx hb (dq_3 0 bcX5_canShare_0 (j := 31) rfl rfl) (by decide) ?_
      replace hF := bd1_s hF
      obtain ⟨r_8, hc_9, hF⟩ := hF
      have hPc : va_P E.1 vwCl (w_X5_shareOf E a_ a_row a_partners a_share a_leftOver c_askedCount c_outcome c_share c_leftOver) H := hP.sub (ws' := [k_X5 a_ a_row a_partners c_askedCount c_outcome a_share a_leftOver, k_I E a_share 2 c_share, k_I E a_leftOver 2 c_leftOver]) [0, 2, 3] rfl
      have hrc := va_recv hK hPc (ci := 6) (q0 := 0) rfl rfl
      refine pE_i (va_runV (As := [.int x2, .int (0 : Int32)]) (rest := [.ref a_])  ⟨hx, hb, hml, hown, hts⟩ (f_X5_shareOf l E (a_ := a_) (a_row := a_row) (a_partners := a_partners) (a_share := a_share) (a_leftOver := a_leftOver) (p1 := x2) (p2 := (0 : Int32)) (c_askedCount := c_askedCount) (c_outcome := c_outcome) (c_share := c_share) (c_leftOver := c_leftOver) hc_9) (cwV 2 hts g_f_X5_canShare_f_X5_shareOf_168 rfl rfl rfl hd_X5_shareOf ⟨Nat.le_of_ble_eq_true rfl, Nat.le_of_ble_eq_true rfl⟩) ⟨pP.blind, hrc, (pP.pre ⟨hK, hN⟩ hPc)⟩ rfl rfl hl.1 rfl (lv_room (Nat.le_of_ble_eq_true rfl)) (dq_182 0 bcX5_canShare_0 (j := 32) (i := 168) rfl rfl rfl) ⟨Nat.le_of_ble_eq_true rfl, Nat.le_of_ble_eq_true rfl⟩) ?_
      refine lv_aload_n hx hb (dq_42 0 bcX5_canShare_0 (j := 35) rfl rfl) rfl (lv_at hl 0 rfl) ?_
      refine lv_iload_n hx hb (dq_28 0 bcX5_canShare_0 (j := 36) rfl rfl) rfl (lv_at hl 2 rfl) ?_
      refine lv_iconst (v := 1) hx hb (dq_4 0 bcX5_canShare_0 (j := 37) rfl rfl) (by decide) ?_
      replace hF := bd1_s hF
      obtain ⟨r_10, hc_11, hF⟩ := hF
      have hPc : va_P E.1 vwCl (w_X5_shareOf E a_ a_row a_partners a_share a_leftOver c_askedCount c_outcome c_share c_leftOver) H := hP.sub (ws' := [k_X5 a_ a_row a_partners c_askedCount c_outcome a_share a_leftOver, k_I E a_share 2 c_share, k_I E a_leftOver 2 c_leftOver]) [0, 2, 3] rfl
      have hrc := va_recv hK hPc (ci := 6) (q0 := 0) rfl rfl
      refine pE_i (va_runV (As := [.int x2, .int (1 : Int32)]) (rest := [.int r_8, .ref a_])  ⟨hx, hb, hml, hown, hts⟩ (f_X5_shareOf l E (a_ := a_) (a_row := a_row) (a_partners := a_partners) (a_share := a_share) (a_leftOver := a_leftOver) (p1 := x2) (p2 := (1 : Int32)) (c_askedCount := c_askedCount) (c_outcome := c_outcome) (c_share := c_share) (c_leftOver := c_leftOver) hc_11) (cwV 2 hts g_f_X5_canShare_f_X5_shareOf_168 rfl rfl rfl hd_X5_shareOf ⟨Nat.le_of_ble_eq_true rfl, Nat.le_of_ble_eq_true rfl⟩) ⟨pP.blind, hrc, (pP.pre ⟨hK, hN⟩ hPc)⟩ rfl rfl hl.1 rfl (lv_room (Nat.le_of_ble_eq_true rfl)) (dq_182 0 bcX5_canShare_0 (j := 38) (i := 168) rfl rfl rfl) ⟨Nat.le_of_ble_eq_true rfl, Nat.le_of_ble_eq_true rfl⟩) ?_
      replace hF := bd1_s hF
      obtain ⟨r_12, hc_13, hF⟩ := hF
      have hPc : va_P E.1 vwCl (w_X5_isQuietDrift E a_ a_row a_partners a_share a_leftOver c_askedCount c_outcome c_row) H := hP.sub (ws' := [k_X5 a_ a_row a_partners c_askedCount c_outcome a_share a_leftOver, k_I E a_row 81 c_row]) [0, 1] rfl
      have hrc := va_recv hK hPc (ci := 6) (q0 := 0) rfl rfl
      refine pE_z (va_runV (As := [.int r_8, .int r_10]) (rest := [])  ⟨hx, hb, hml, hown, hts⟩ (f_X5_isQuietDrift l E (a_ := a_) (a_row := a_row) (a_partners := a_partners) (a_share := a_share) (a_leftOver := a_leftOver) (p1 := r_8) (p2 := r_10) (c_askedCount := c_askedCount) (c_outcome := c_outcome) (c_row := c_row) hc_13) (cwV 2 hts g_f_X5_canShare_f_X5_isQuietDrift_87 rfl rfl rfl hd_X5_isQuietDrift ⟨Nat.le_of_ble_eq_true rfl, Nat.le_of_ble_eq_true rfl⟩) ⟨pP.blind, hrc, (pP.pre ⟨hK, hN⟩ hPc)⟩ rfl rfl hl.1 rfl (lv_room (Nat.le_of_ble_eq_true rfl)) (dq_182 0 bcX5_canShare_0 (j := 41) (i := 87) rfl rfl rfl) ⟨Nat.le_of_ble_eq_true rfl, Nat.le_of_ble_eq_true rfl⟩) (fun hb_14 => ?_)
      refine lv_if_ne (tgt := 49) hx hb (dq_154 0 bcX5_canShare_0 (j := 44) (i := 5) rfl rfl rfl) (by decide) (fun c_15 => ?_) (fun c_15 => ?_)
      ·
        replace hF := inn c_15 hF
        refine lv_iinc (v := x2 + (1 : Int32)) (lv' := [(2, .int (x2 + (1 : Int32))), (0, .ref a_), (1, .int p1), (3, .int x3)]) hx hb (dq_132 48 bcX5_canShare_1 (j := 1) (i := 1) rfl rfl rfl) hl (k := 2) rfl (rfl) (by decide) rfl (fun ls hl => ?_)
        refine lv_iinc (v := x3 + (1 : Int32)) (lv' := [(3, .int (x3 + (1 : Int32))), (2, .int (x2 + (1 : Int32))), (0, .ref a_), (1, .int p1)]) hx hb (dq_132 48 bcX5_canShare_1 (j := 4) (i := 1) rfl rfl rfl) hl (k := 3) rfl (rfl) (by decide) rfl (fun ls hl => ?_)
        refine lv_goto (tgt := 9) hx hb (dq_167 48 bcX5_canShare_1 (j := 7) (i := -46) rfl rfl rfl) (by decide) ?_
        cases hF
        exact hC (x2 + (1 : Int32)) (x3 + (1 : Int32)) rfl H locs ls (hP.sub [0, 1, 2, 3] rfl) (hD.sub [0, 1, 2, 3] (by decide) rfl) hS (lv_sub hl [2, 3, 1, 0] rfl)
      ·
        replace hF := ip c_15 hF
        cases hF
        exact (hE 0  rfl).1 rfl H locs ls (hP.sub [0, 1, 2, 3] rfl) (hD.sub [0, 1, 2, 3] (by decide) rfl) hS (lv_sub hl [] rfl)
    ·
      replace hF := ip c_7 hF
      refine lv_goto (tgt := 52) hx hb (dq_167 0 bcX5_canShare_0 (j := 25) (i := 27) rfl rfl rfl) (by decide) ?_
      refine lv_iinc (v := x3 + (1 : Int32)) (lv' := [(3, .int (x3 + (1 : Int32))), (0, .ref a_), (1, .int p1), (2, .int x2)]) hx hb (dq_132 48 bcX5_canShare_1 (j := 4) (i := 1) rfl rfl rfl) hl (k := 3) rfl (rfl) (by decide) rfl (fun ls hl => ?_)
      refine lv_goto (tgt := 9) hx hb (dq_167 48 bcX5_canShare_1 (j := 7) (i := -46) rfl rfl rfl) (by decide) ?_
      cases hF
      exact hC x2 (x3 + (1 : Int32)) rfl H locs ls (hP.sub [0, 1, 2, 3] rfl) (hD.sub [0, 1, 2, 3] (by decide) rfl) hS (lv_sub hl [1, 2, 3, 0] rfl)

set_option maxHeartbeats 4000000 in
set_option maxRecDepth 100000 in
theorem lw_X5_canShare_9 {p : Program} (l : Launch) {e : Env} {s : State} {m : MethodId} {below : List Frame} {meth : Method} {c : Code} {Q : State → Prop} (E : EE) (K : Nat) {a_ a_row a_partners a_share a_leftOver : Nat} {p1 : Int32} {c_askedCount : Int32} {c_outcome : Int32} {c_row : Nat → Int32} {c_share : Nat → Int32} {c_leftOver : Nat → Int32} (hx : p.tables.exec = Jvm.exec) (hb : c.code = cX5_canShare) (hml : c.maxLocals = 4) (hown : s.vm.findClass RX5 = some m.cls) (hts : ∀ w ∈ v_f_X5_canShare, w.before #[Value.ref a_, Value.int p1] s = true) (hK : va_K E.1 vwCl (TY E) s) (hN : NX s) {A : Nat → Prop} (hA : ∀ q : Nat, s.heap.size ≤ q → A q) (j9 : Nat) (x2 : Int32) (x3 : Int32) (t9' : Nat) (hL : lpF (fun u9 : Int32 × Int32 => B_X5_canShare_9 p1 c_row c_share c_leftOver u9.1 u9.2) j9 (x2, x3) = some t9') (hX : (t9' = 0 → ∀ (H : Heap) (locs : List Loc) (ls : Array Slot), va_P E.1 vwCl (w_X5_canShare E a_ a_row a_partners a_share a_leftOver c_askedCount c_outcome c_row c_share c_leftOver) H → va_D A (w_X5_canShare E a_ a_row a_partners a_share a_leftOver c_askedCount c_outcome c_row c_share c_leftOver) → va_S A s.heap H locs → lv_has ls 4 [] → W p l e ({ frames := 2, cells := 0, slots := 0, locals := 50 } : Room) s m #[Value.ref a_, Value.int p1] below meth c H locs 0 0 Q (F0 m 47 ls [])) ∧ (t9' = 1 → ∀ (H : Heap) (locs : List Loc) (ls : Array Slot), va_P E.1 vwCl (w_X5_canShare E a_ a_row a_partners a_share a_leftOver c_askedCount c_outcome c_row c_share c_leftOver) H → va_D A (w_X5_canShare E a_ a_row a_partners a_share a_leftOver c_askedCount c_outcome c_row c_share c_leftOver) → va_S A s.heap H locs → lv_has ls 4 [] → W p l e ({ frames := 2, cells := 0, slots := 0, locals := 50 } : Room) s m #[Value.ref a_, Value.int p1] below meth c H locs 0 0 Q (F0 m 58 ls []))) : ∀ (H : Heap) (locs : List Loc) (ls : Array Slot), va_P E.1 vwCl (w_X5_canShare E a_ a_row a_partners a_share a_leftOver c_askedCount c_outcome c_row c_share c_leftOver) H → va_D A (w_X5_canShare E a_ a_row a_partners a_share a_leftOver c_askedCount c_outcome c_row c_share c_leftOver) → va_S A s.heap H locs → lv_has ls 4 [(0, .ref a_), (1, .int p1), (2, .int x2), (3, .int x3)] → W p l e ({ frames := 2, cells := 0, slots := 0, locals := 50 } : Room) s m #[Value.ref a_, Value.int p1] below meth c H locs 0 0 Q (F0 m 9 ls []) := by
  exact lp_rule (P := (fun u9 : Int32 × Int32 => ∀ (H : Heap) (locs : List Loc) (ls : Array Slot), va_P E.1 vwCl (w_X5_canShare E a_ a_row a_partners a_share a_leftOver c_askedCount c_outcome c_row c_share c_leftOver) H → va_D A (w_X5_canShare E a_ a_row a_partners a_share a_leftOver c_askedCount c_outcome c_row c_share c_leftOver) → va_S A s.heap H locs → lv_has ls 4 [(0, .ref a_), (1, .int p1), (2, .int u9.1), (3, .int u9.2)] → W p l e ({ frames := 2, cells := 0, slots := 0, locals := 50 } : Room) s m #[Value.ref a_, Value.int p1] below meth c H locs 0 0 Q (F0 m 9 ls []))) (R := (fun r9 : Nat => (r9 = 0 → ∀ (H : Heap) (locs : List Loc) (ls : Array Slot), va_P E.1 vwCl (w_X5_canShare E a_ a_row a_partners a_share a_leftOver c_askedCount c_outcome c_row c_share c_leftOver) H → va_D A (w_X5_canShare E a_ a_row a_partners a_share a_leftOver c_askedCount c_outcome c_row c_share c_leftOver) → va_S A s.heap H locs → lv_has ls 4 [] → W p l e ({ frames := 2, cells := 0, slots := 0, locals := 50 } : Room) s m #[Value.ref a_, Value.int p1] below meth c H locs 0 0 Q (F0 m 47 ls [])) ∧ (r9 = 1 → ∀ (H : Heap) (locs : List Loc) (ls : Array Slot), va_P E.1 vwCl (w_X5_canShare E a_ a_row a_partners a_share a_leftOver c_askedCount c_outcome c_row c_share c_leftOver) H → va_D A (w_X5_canShare E a_ a_row a_partners a_share a_leftOver c_askedCount c_outcome c_row c_share c_leftOver) → va_S A s.heap H locs → lv_has ls 4 [] → W p l e ({ frames := 2, cells := 0, slots := 0, locals := 50 } : Room) s m #[Value.ref a_, Value.int p1] below meth c H locs 0 0 Q (F0 m 58 ls [])))) (fun u9 xx hF hC hE => wb_X5_canShare_9 l E K (p1 := p1) (c_askedCount := c_askedCount) (c_outcome := c_outcome) (c_row := c_row) (x2 := u9.1) (x3 := u9.2) (c_share := c_share) (c_leftOver := c_leftOver) hx hb hml hown hts hK hN hA (fun x2 x3 q9 => hC _ q9) (fun t9 q9 => hE _ q9) hF) j9 (x2, x3) t9' hL hX

set_option maxHeartbeats 4000000 in
set_option maxRecDepth 100000 in
theorem f_X5_canShare (l : Launch) (E : EE) (sz : Nat) (K : Nat) {a_ a_row a_partners a_share a_leftOver : Nat} {p1 : Int32} {c_askedCount : Int32} {c_outcome : Int32} {c_row : Nat → Int32} {c_share : Nat → Int32} {c_leftOver : Nat → Int32} {rr : Int32} {n_share : Nat → Int32} {n_leftOver : Nat → Int32} (hF : F_X5_canShare K p1 c_row c_share c_leftOver = some (rr, n_share, n_leftOver)) : Met l yX5_canShare v_f_X5_canShare (({ frames := 2, cells := 0, slots := 0, locals := 50 } : Room)) (va_Pc [.ref a_, .int p1] (pW E sz (w_X5_canShare E a_ a_row a_partners a_share a_leftOver c_askedCount c_outcome c_row c_share c_leftOver))) (va_Qi (fun (q : Int32) (_u : Unit) => q = rr ∧ (q = 0 ∨ q = 1)) (fun (_u : Unit) tt => va_P E.1 vwCl (w_X5_canShare E a_ a_row a_partners a_share a_leftOver c_askedCount c_outcome c_row n_share n_leftOver) tt.heap ∧ va_D (va_A (w_X5_canShare E a_ a_row a_partners a_share a_leftOver c_askedCount c_outcome c_row c_share c_leftOver) sz) (w_X5_canShare E a_ a_row a_partners a_share a_leftOver c_askedCount c_outcome c_row n_share n_leftOver)) (va_A (w_X5_canShare E a_ a_row a_partners a_share a_leftOver c_askedCount c_outcome c_row c_share c_leftOver) sz)) 0 0 (va_A (w_X5_canShare E a_ a_row a_partners a_share a_leftOver c_askedCount c_outcome c_row c_share c_leftOver) sz) := by
  refine Met.ofW (cc := cX5_canShare) (maxL := 4) (ret := (some .boolean)) (by decide) rfl ?_
  intro p e s m args below meth c s₁ B hml hv
  obtain ⟨rfl, hsz, ⟨hK, hN⟩, hP, hD0⟩ := hv
  have hx := B.exec
  have hb := B.bytes
  have hr := B.returns
  have hts := atoms_spec (ws := v_f_X5_canShare) B.pre
  have hown : s.vm.findClass RX5 = some m.cls := own_of hd_X5_canShare.1 (findClass_of_methodNamed B.named)
  have hlocks : meth.locks = false := B.notSynchronized
  subst hsz
  have hD := hD0.self (sz := s.heap.size)
  generalize hAe : va_A (w_X5_canShare E a_ a_row a_partners a_share a_leftOver c_askedCount c_outcome c_row c_share c_leftOver) s.heap.size = A at hD ⊢
  have hA : ∀ q : Nat, s.heap.size ≤ q → A q := fun q h => by rw [← hAe]; exact Or.inr h
  have hS : va_S A s.heap s.heap [] := va_S.rf
  have hl := lv_entry ([.ref a_, .int p1]) (n := 4) (Nat.le_of_ble_eq_true rfl)
  rw [lg_entry_eq]
  generalize (lg_sl ([.ref a_, .int p1]) ++ List.replicate (4 - (lg_sl ([.ref a_, .int p1])).length) Slot.unset).toArray = ls at hl ⊢
  have hl : lv_has ls 4 [(0, .ref a_), (1, .int p1)] := hl
  obtain ⟨Q, hQ⟩ : ∃ Q : State → Prop, Q = MQ below (va_Qi (fun (q : Int32) (_u : Unit) => q = rr ∧ (q = 0 ∨ q = 1)) (fun (_u : Unit) tt => va_P E.1 vwCl (w_X5_canShare E a_ a_row a_partners a_share a_leftOver c_askedCount c_outcome c_row n_share n_leftOver) tt.heap ∧ va_D A (w_X5_canShare E a_ a_row a_partners a_share a_leftOver c_askedCount c_outcome c_row n_share n_leftOver)) A) #[Value.ref a_, Value.int p1] s 0 0 A := ⟨_, rfl⟩
  rw [← hQ]
  change W p l e ({ frames := 2, cells := 0, slots := 0, locals := 50 } : Room) s m #[Value.ref a_, Value.int p1] below meth c s.heap [] 0 0 Q (F0 m 0 ls [])
  suffices hh9 : ∀ (H : Heap) (locs : List Loc), va_P E.1 vwCl (w_X5_canShare E a_ a_row a_partners a_share a_leftOver c_askedCount c_outcome c_row c_share c_leftOver) H → va_D A (w_X5_canShare E a_ a_row a_partners a_share a_leftOver c_askedCount c_outcome c_row c_share c_leftOver) → va_S A s.heap H locs → W p l e ({ frames := 2, cells := 0, slots := 0, locals := 50 } : Room) s m #[Value.ref a_, Value.int p1] below meth c H locs 0 0 Q (F0 m 0 ls []) from hh9 s.heap [] hP hD hS
  clear hP hD hS
  intro H locs hP hD hS
  have h9 := fixPD (ws' := [k_X5 a_ a_row a_partners c_askedCount c_outcome a_share a_leftOver, k_I E a_row 81 c_row, k_I E a_share 2 c_share, k_I E a_leftOver 2 c_leftOver]) hP hD rfl
  clear hP hD
  obtain ⟨hP, hD⟩ := h9
  unfold F_X5_canShare at hF
  refine lv_aload_n hx hb (dq_42 0 bcX5_canShare_0 (j := 0) rfl rfl) rfl (lv_at hl 0 rfl) ?_
  refine lv_iload_n hx hb (dq_27 0 bcX5_canShare_0 (j := 1) rfl rfl) rfl (lv_at hl 1 rfl) ?_
  replace hF := bd2_s hF
  obtain ⟨w_1, w_2, hc_3, hF⟩ := hF
  obtain ⟨hPc, hDc, hFc⟩ := wcut (wc := (w_X5_measureShares E a_ a_row a_partners a_share a_leftOver c_askedCount c_outcome c_row c_share c_leftOver)) hP hD hS hA [0, 1, 2, 3] (by decide) rfl
  have hrc := va_recv hK hPc (ci := 6) (q0 := 0) rfl rfl
  refine cE_v (wc := (w_X5_measureShares E a_ a_row a_partners a_share a_leftOver c_askedCount c_outcome c_row c_share c_leftOver)) (wr := []) (w1 := (w_X5_measureShares E a_ a_row a_partners a_share a_leftOver c_askedCount c_outcome c_row w_1 w_2)) (va_runV (As := [.int p1]) (rest := [])  ⟨hx, hb, hml, hown, hts⟩ (f_X5_measureShares l E H.size K (a_ := a_) (a_row := a_row) (a_partners := a_partners) (a_share := a_share) (a_leftOver := a_leftOver) (p1 := p1) (c_askedCount := c_askedCount) (c_outcome := c_outcome) (c_row := c_row) (c_share := c_share) (c_leftOver := c_leftOver) hc_3) (cwV 1 hts g_f_X5_canShare_f_X5_measureShares_165 rfl rfl rfl hd_X5_measureShares ⟨Nat.le_of_ble_eq_true rfl, Nat.le_of_ble_eq_true rfl⟩) ⟨pW.blind, hrc, (pW.pre ⟨hK, hN⟩ hPc hDc)⟩ rfl rfl hl.1 rfl (lv_room (Nat.le_of_ble_eq_true rfl)) (dq_182 0 bcX5_canShare_0 (j := 2) (i := 165) rfl rfl rfl) ⟨Nat.le_of_ble_eq_true rfl, Nat.le_of_ble_eq_true rfl⟩) hS hFc hP hD [0, 1, 2, 3] [] rfl rfl (by decide) (by decide) (fun H locs hP hD hS => ?_)
  have h9 := fixPD (ws' := [k_X5 a_ a_row a_partners c_askedCount c_outcome a_share a_leftOver, k_I E a_row 81 c_row, k_I E a_share 2 w_1, k_I E a_leftOver 2 w_2]) hP hD rfl
  clear hP hD
  obtain ⟨hP, hD⟩ := h9
  refine lv_iconst (v := 0) hx hb (dq_3 0 bcX5_canShare_0 (j := 5) rfl rfl) (by decide) ?_
  refine lv_istore_n (lv' := [(2, .int (0 : Int32)), (0, .ref a_), (1, .int p1)]) hx hb (dq_61 0 bcX5_canShare_0 (j := 6) rfl rfl) rfl hl (by decide) rfl (fun ls hl => ?_)
  refine lv_iconst (v := 0) hx hb (dq_3 0 bcX5_canShare_0 (j := 7) rfl rfl) (by decide) ?_
  refine lv_istore_n (lv' := [(3, .int (0 : Int32)), (2, .int (0 : Int32)), (0, .ref a_), (1, .int p1)]) hx hb (dq_62 0 bcX5_canShare_0 (j := 8) rfl rfl) rfl hl (by decide) rfl (fun ls hl => ?_)
  replace hF := bd1_s hF
  obtain ⟨t_16, hL_17, hF⟩ := hF
  refine lw_X5_canShare_9 l E K (p1 := p1) (c_askedCount := c_askedCount) (c_outcome := c_outcome) (c_row := c_row) (c_share := w_1) (c_leftOver := w_2) hx hb hml hown hts hK hN hA K (0 : Int32) (0 : Int32) t_16 hL_17 ⟨?_, ?_⟩ H locs ls (hP.sub [0, 1, 2, 3] rfl) (hD.sub [0, 1, 2, 3] (by decide) rfl) hS (lv_sub hl [2, 3, 1, 0] rfl)
  ·
    intro t9
    replace hF := ip t9 hF
    intro H locs ls hP hD hS hl
    have h9 := fixPD (ws' := [k_X5 a_ a_row a_partners c_askedCount c_outcome a_share a_leftOver, k_I E a_row 81 c_row, k_I E a_share 2 w_1, k_I E a_leftOver 2 w_2]) hP hD rfl
    clear hP hD
    obtain ⟨hP, hD⟩ := h9
    refine lv_iconst (v := 0) hx hb (dq_3 0 bcX5_canShare_0 (j := 47) rfl rfl) (by decide) ?_
    rw [hQ]
    have h9 := fin9 (P := fun u9 : Int32 × (Nat → Int32) × (Nat → Int32) => (0 : Int32) = u9.1 ∧ va_P E.1 vwCl (w_X5_canShare E a_ a_row a_partners a_share a_leftOver c_askedCount c_outcome c_row u9.2.1 u9.2.2) H ∧ va_D A (w_X5_canShare E a_ a_row a_partners a_share a_leftOver c_askedCount c_outcome c_row u9.2.1 u9.2.2)) hF ⟨rfl, hP, hD⟩
    obtain ⟨e9_0, hP9, hD9⟩ := h9
    exact W.zret (v := (0 : Int32)) hx hb hr rfl (fun tt ht hW => ⟨⟨_, (), rfl, ⟨e9_0, Or.inl rfl⟩, ht ▸ hP9, hD9⟩, hS.F ht⟩) hS.2.2 (dq_172 48 bcX5_canShare_1 (j := 0) rfl rfl)
  ·
    intro t9
    replace hF := inn (show ¬ t_16 = 0 by omega) hF
    replace hF := ip t9 hF
    intro H locs ls hP hD hS hl
    have h9 := fixPD (ws' := [k_X5 a_ a_row a_partners c_askedCount c_outcome a_share a_leftOver, k_I E a_row 81 c_row, k_I E a_share 2 w_1, k_I E a_leftOver 2 w_2]) hP hD rfl
    clear hP hD
    obtain ⟨hP, hD⟩ := h9
    refine lv_iconst (v := 1) hx hb (dq_4 48 bcX5_canShare_1 (j := 10) rfl rfl) (by decide) ?_
    rw [hQ]
    have h9 := fin9 (P := fun u9 : Int32 × (Nat → Int32) × (Nat → Int32) => (1 : Int32) = u9.1 ∧ va_P E.1 vwCl (w_X5_canShare E a_ a_row a_partners a_share a_leftOver c_askedCount c_outcome c_row u9.2.1 u9.2.2) H ∧ va_D A (w_X5_canShare E a_ a_row a_partners a_share a_leftOver c_askedCount c_outcome c_row u9.2.1 u9.2.2)) hF ⟨rfl, hP, hD⟩
    obtain ⟨e9_0, hP9, hD9⟩ := h9
    exact W.zret (v := (1 : Int32)) hx hb hr rfl (fun tt ht hW => ⟨⟨_, (), rfl, ⟨e9_0, Or.inr rfl⟩, ht ▸ hP9, hD9⟩, hS.F ht⟩) hS.2.2 (dq_172 48 bcX5_canShare_1 (j := 11) rfl rfl)

def F_X5_copyFrom (c_row : Nat → Int32) (c_o1_row : Nat → Int32) : Option ((Nat → Int32)) :=
  cpF (0 : Int32) (0 : Int32) (81 : Int32) 81 81 (nmF (va_cpy c_o1_row c_row (0 : Int32).toNatClampNeg (0 : Int32).toNatClampNeg (81 : Int32).toNatClampNeg) (fun f_2 => some f_2))
abbrev w_X5_copyFrom (E : EE) (a_ a_row a_partners a_share a_leftOver a_o1 a_o1_row a_o1_partners a_o1_share a_o1_leftOver : Nat) (c_askedCount : Int32) (c_outcome : Int32) (c_row : Nat → Int32) (c_o1_askedCount : Int32) (c_o1_outcome : Int32) (c_o1_row : Nat → Int32) : va_W := [k_X5 a_ a_row a_partners c_askedCount c_outcome a_share a_leftOver, k_I E a_row 81 c_row, k_X5 a_o1 a_o1_row a_o1_partners c_o1_askedCount c_o1_outcome a_o1_share a_o1_leftOver, k_I E a_o1_row 81 c_o1_row]
def v_f_X5_copyFrom : List Cond := List.cons (.code yX5_copyFrom cX5_copyFrom 2 none) (HAppend.hAppend (α := List Cond) (β := List Cond) (γ := List Cond) [.fieldLink RX5 11 "HushWatch$State" "row" "[I", .methodLink RX5 63 arraycopyName, .native arraycopyName, .static arraycopyName, .initialized "java/lang/System"] (HAppend.hAppend (α := List Cond) (β := List Cond) (γ := List Cond) wsX50 []))
theorem gw_f_X5_copyFrom : v_f_X5_copyFrom.all goodWord = true := gw_c2 (by decide +kernel) (gw_ap gw_wsX50 gw_nil)
theorem i_f_X5_copyFrom_X5 : ∀ w ∈ wsX50, w ∈ v_f_X5_copyFrom := fun _ h => List.mem_cons_of_mem _ (List.mem_append_right _ (List.mem_append_left _ h))
theorem hd_X5_copyFrom : yX5_copyFrom.cls = RX5 ∧ yX5_copyFrom.cls ≠ "java/lang/invoke/MethodHandle" ∧ yX5_copyFrom.cls ≠ "java/lang/invoke/VarHandle" ∧ (parseMethodDescriptor yX5_copyFrom.desc).map (fun d => d.parameters.length) = some 1 := by decide +kernel
set_option maxHeartbeats 4000000 in
set_option maxRecDepth 100000 in
theorem f_X5_copyFrom (l : Launch) (E : EE) (sz : Nat) {a_ a_row a_partners a_share a_leftOver a_o1 a_o1_row a_o1_partners a_o1_share a_o1_leftOver : Nat} {c_askedCount : Int32} {c_outcome : Int32} {c_row : Nat → Int32} {c_o1_askedCount : Int32} {c_o1_outcome : Int32} {c_o1_row : Nat → Int32} {n_row : Nat → Int32} (hF : F_X5_copyFrom c_row c_o1_row = some n_row) : Met l yX5_copyFrom v_f_X5_copyFrom (({ frames := 1, cells := 0, slots := 0, locals := 60 } : Room)) (va_Pc [.ref a_, .ref a_o1] (pW E sz (w_X5_copyFrom E a_ a_row a_partners a_share a_leftOver a_o1 a_o1_row a_o1_partners a_o1_share a_o1_leftOver c_askedCount c_outcome c_row c_o1_askedCount c_o1_outcome c_o1_row))) (va_Qv (fun (_u : Unit) => True) (fun (_u : Unit) tt => va_P E.1 vwCl (w_X5_copyFrom E a_ a_row a_partners a_share a_leftOver a_o1 a_o1_row a_o1_partners a_o1_share a_o1_leftOver c_askedCount c_outcome n_row c_o1_askedCount c_o1_outcome c_o1_row) tt.heap ∧ va_D (va_A (w_X5_copyFrom E a_ a_row a_partners a_share a_leftOver a_o1 a_o1_row a_o1_partners a_o1_share a_o1_leftOver c_askedCount c_outcome c_row c_o1_askedCount c_o1_outcome c_o1_row) sz) (w_X5_copyFrom E a_ a_row a_partners a_share a_leftOver a_o1 a_o1_row a_o1_partners a_o1_share a_o1_leftOver c_askedCount c_outcome n_row c_o1_askedCount c_o1_outcome c_o1_row)) (va_A (w_X5_copyFrom E a_ a_row a_partners a_share a_leftOver a_o1 a_o1_row a_o1_partners a_o1_share a_o1_leftOver c_askedCount c_outcome c_row c_o1_askedCount c_o1_outcome c_o1_row) sz)) 0 0 (va_A (w_X5_copyFrom E a_ a_row a_partners a_share a_leftOver a_o1 a_o1_row a_o1_partners a_o1_share a_o1_leftOver c_askedCount c_outcome c_row c_o1_askedCount c_o1_outcome c_o1_row) sz) := by
  refine Met.ofW (cc := cX5_copyFrom) (maxL := 2) (ret := none) (by decide) rfl ?_
  intro p e s m args below meth c s₁ B hml hv
  obtain ⟨rfl, hsz, ⟨hK, hN⟩, hP, hD0⟩ := hv
  have hx := B.exec
  have hb := B.bytes
  have hr := B.returns
  have hts := atoms_spec (ws := v_f_X5_copyFrom) B.pre
  have hown : s.vm.findClass RX5 = some m.cls := own_of hd_X5_copyFrom.1 (findClass_of_methodNamed B.named)
  have hlocks : meth.locks = false := B.notSynchronized
  subst hsz
  have hD := hD0.self (sz := s.heap.size)
  generalize hAe : va_A (w_X5_copyFrom E a_ a_row a_partners a_share a_leftOver a_o1 a_o1_row a_o1_partners a_o1_share a_o1_leftOver c_askedCount c_outcome c_row c_o1_askedCount c_o1_outcome c_o1_row) s.heap.size = A at hD ⊢
  have hA : ∀ q : Nat, s.heap.size ≤ q → A q := fun q h => by rw [← hAe]; exact Or.inr h
  have hS : va_S A s.heap s.heap [] := va_S.rf
  have hl := lv_entry ([.ref a_, .ref a_o1]) (n := 2) (Nat.le_of_ble_eq_true rfl)
  rw [lg_entry_eq]
  generalize (lg_sl ([.ref a_, .ref a_o1]) ++ List.replicate (2 - (lg_sl ([.ref a_, .ref a_o1])).length) Slot.unset).toArray = ls at hl ⊢
  have hl : lv_has ls 2 [(0, .ref a_), (1, .ref a_o1)] := hl
  obtain ⟨Q, hQ⟩ : ∃ Q : State → Prop, Q = MQ below (va_Qv (fun (_u : Unit) => True) (fun (_u : Unit) tt => va_P E.1 vwCl (w_X5_copyFrom E a_ a_row a_partners a_share a_leftOver a_o1 a_o1_row a_o1_partners a_o1_share a_o1_leftOver c_askedCount c_outcome n_row c_o1_askedCount c_o1_outcome c_o1_row) tt.heap ∧ va_D A (w_X5_copyFrom E a_ a_row a_partners a_share a_leftOver a_o1 a_o1_row a_o1_partners a_o1_share a_o1_leftOver c_askedCount c_outcome n_row c_o1_askedCount c_o1_outcome c_o1_row)) A) #[Value.ref a_, Value.ref a_o1] s 0 0 A := ⟨_, rfl⟩
  rw [← hQ]
  change W p l e ({ frames := 1, cells := 0, slots := 0, locals := 60 } : Room) s m #[Value.ref a_, Value.ref a_o1] below meth c s.heap [] 0 0 Q (F0 m 0 ls [])
  suffices hh9 : ∀ (H : Heap) (locs : List Loc), va_P E.1 vwCl (w_X5_copyFrom E a_ a_row a_partners a_share a_leftOver a_o1 a_o1_row a_o1_partners a_o1_share a_o1_leftOver c_askedCount c_outcome c_row c_o1_askedCount c_o1_outcome c_o1_row) H → va_D A (w_X5_copyFrom E a_ a_row a_partners a_share a_leftOver a_o1 a_o1_row a_o1_partners a_o1_share a_o1_leftOver c_askedCount c_outcome c_row c_o1_askedCount c_o1_outcome c_o1_row) → va_S A s.heap H locs → W p l e ({ frames := 1, cells := 0, slots := 0, locals := 60 } : Room) s m #[Value.ref a_, Value.ref a_o1] below meth c H locs 0 0 Q (F0 m 0 ls []) from hh9 s.heap [] hP hD hS
  clear hP hD hS
  intro H locs hP hD hS
  have h9 := fixPD (ws' := [k_X5 a_ a_row a_partners c_askedCount c_outcome a_share a_leftOver, k_I E a_row 81 c_row, k_X5 a_o1 a_o1_row a_o1_partners c_o1_askedCount c_o1_outcome a_o1_share a_o1_leftOver, k_I E a_o1_row 81 c_o1_row]) hP hD rfl
  clear hP hD
  obtain ⟨hP, hD⟩ := h9
  unfold F_X5_copyFrom at hF
  refine lv_aload_n hx hb (dq_43 0 bcX5_copyFrom_0 (j := 0) rfl rfl) rfl (lv_at hl 1 rfl) ?_
  refine gt_X5_0 (v := .ref a_o1_row) hx hb hts i_f_X5_copyFrom_X5 hown hK hP 2 rfl (hts (.fieldLink RX5 11 "HushWatch$State" "row" "[I") (List.mem_of_getElem? (i := 1) rfl)) rfl (dq_180 0 bcX5_copyFrom_0 (j := 1) (i := 11) rfl rfl rfl) ?_
  refine lv_iconst (v := 0) hx hb (dq_3 0 bcX5_copyFrom_0 (j := 4) rfl rfl) (by decide) ?_
  refine lv_aload_n hx hb (dq_42 0 bcX5_copyFrom_0 (j := 5) rfl rfl) rfl (lv_at hl 0 rfl) ?_
  refine gt_X5_0 (v := .ref a_row) hx hb hts i_f_X5_copyFrom_X5 hown hK hP 0 rfl (hts (.fieldLink RX5 11 "HushWatch$State" "row" "[I") (List.mem_of_getElem? (i := 1) rfl)) rfl (dq_180 0 bcX5_copyFrom_0 (j := 6) (i := 11) rfl rfl rfl) ?_
  refine lv_iconst (v := 0) hx hb (dq_3 0 bcX5_copyFrom_0 (j := 9) rfl rfl) (by decide) ?_
  refine lv_bipush (v := 81) hx hb (dq_16 0 bcX5_copyFrom_0 (j := 10) (i := 81) rfl rfl rfl) (by decide) ?_
  replace hF := cp_s hF
  obtain ⟨hy_1, hF⟩ := hF
  refine va_copyi hx hb (hml.trans hl.1.symm) hown (hts (.methodLink RX5 63 arraycopyName) (List.mem_of_getElem? (i := 2) rfl)) (hts (.native arraycopyName) (List.mem_of_getElem? (i := 3) rfl)) (hts (.static arraycopyName) (List.mem_of_getElem? (i := 4) rfl)) (hts (.initialized "java/lang/System") (List.mem_of_getElem? (i := 5) rfl)) hK hP hD hS 3 1 0 0 rfl rfl rfl rfl rfl hy_1.1 hy_1.2.1 hy_1.2.2.1 hy_1.2.2.2.1 hy_1.2.2.2.2 (fun _ _ => rfl) (Nat.le_of_ble_eq_true rfl) (Nat.le_of_ble_eq_true rfl) (dq_184 0 bcX5_copyFrom_0 (j := 12) (i := 63) rfl rfl rfl) (fun H locs hP hD hS => ?_)
  have h9 := fixPD (ws' := [k_X5 a_ a_row a_partners c_askedCount c_outcome a_share a_leftOver, k_I E a_row 81 (va_cpy c_o1_row c_row (0 : Int32).toNatClampNeg (0 : Int32).toNatClampNeg (81 : Int32).toNatClampNeg), k_X5 a_o1 a_o1_row a_o1_partners c_o1_askedCount c_o1_outcome a_o1_share a_o1_leftOver, k_I E a_o1_row 81 c_o1_row]) hP hD rfl
  clear hP hD
  obtain ⟨hP, hD⟩ := h9
  replace hF := nm_s hF
  obtain ⟨f_2, hf_2, hF⟩ := hF
  rw [← hf_2] at hP hD
  rw [hQ]
  have h9 := fin9 (P := fun u9 : (Nat → Int32) => va_P E.1 vwCl (w_X5_copyFrom E a_ a_row a_partners a_share a_leftOver a_o1 a_o1_row a_o1_partners a_o1_share a_o1_leftOver c_askedCount c_outcome u9 c_o1_askedCount c_o1_outcome c_o1_row) H ∧ va_D A (w_X5_copyFrom E a_ a_row a_partners a_share a_leftOver a_o1 a_o1_row a_o1_partners a_o1_share a_o1_leftOver c_askedCount c_outcome u9 c_o1_askedCount c_o1_outcome c_o1_row)) hF ⟨hP, hD⟩
  obtain ⟨hP9, hD9⟩ := h9
  exact W.vret hx hb hr (fun tt ht hW => ⟨⟨(), rfl, trivial, ht ▸ hP9, hD9⟩, hS.F ht⟩) hS.2.2 (dq_177 0 bcX5_copyFrom_0 (j := 15) rfl rfl)

def F_X5_shift (p1 : Int32) (p2 : Int32) (p3 : Int32) (c_row : Nat → Int32) : Option ((Nat → Int32)) :=
  bd1 (F_X5_of p1 (0 : Int32) c_row) (fun r_1 => bd1 (F_X5_put p1 (0 : Int32) (r_1 + p2) c_row) (fun w_3 => bd1 (F_X5_of p1 (1 : Int32) w_3) (fun r_5 => bd1 (F_X5_put p1 (1 : Int32) (r_5 + p3) w_3) (fun w_7 => some w_7))))
abbrev w_X5_shift (E : EE) (a_ a_row a_partners a_share a_leftOver : Nat) (c_askedCount : Int32) (c_outcome : Int32) (c_row : Nat → Int32) : va_W := [k_X5 a_ a_row a_partners c_askedCount c_outcome a_share a_leftOver, k_I E a_row 81 c_row]
def v_f_X5_shift : List Cond := List.cons (.code yX5_shift cX5_shift 4 none) (HAppend.hAppend (α := List Cond) (β := List Cond) (γ := List Cond) [.methodLink RX5 69 yX5_of, .instanceMethod yX5_of, .selects RX5 yX5_of yX5_of, .initialized RX5, .methodLink RX5 52 yX5_put, .instanceMethod yX5_put, .selects RX5 yX5_put yX5_put] (HAppend.hAppend (α := List Cond) (β := List Cond) (γ := List Cond) v_f_X5_of (HAppend.hAppend (α := List Cond) (β := List Cond) (γ := List Cond) v_f_X5_put [])))
theorem gw_f_X5_shift : v_f_X5_shift.all goodWord = true := gw_c2 (by decide +kernel) (gw_ap gw_f_X5_of (gw_ap gw_f_X5_put gw_nil))
theorem g_f_X5_shift_f_X5_of_69 : GoodIn v_f_X5_shift (wsV RX5 69 RX5 yX5_of v_f_X5_of) := goodIn_in gw_f_X5_shift (in4 1 2 3 4 rfl rfl rfl rfl (fun _ h => List.mem_cons_of_mem _ (List.mem_append_right _ (List.mem_append_left _ h))))
theorem g_f_X5_shift_f_X5_put_52 : GoodIn v_f_X5_shift (wsV RX5 52 RX5 yX5_put v_f_X5_put) := goodIn_in gw_f_X5_shift (in4 5 6 7 4 rfl rfl rfl rfl (fun _ h => List.mem_cons_of_mem _ (List.mem_append_right _ (List.mem_append_right _ (List.mem_append_left _ h)))))
theorem hd_X5_shift : yX5_shift.cls = RX5 ∧ yX5_shift.cls ≠ "java/lang/invoke/MethodHandle" ∧ yX5_shift.cls ≠ "java/lang/invoke/VarHandle" ∧ (parseMethodDescriptor yX5_shift.desc).map (fun d => d.parameters.length) = some 3 := by decide +kernel
set_option maxHeartbeats 4000000 in
set_option maxRecDepth 100000 in
theorem f_X5_shift (l : Launch) (E : EE) (sz : Nat) {a_ a_row a_partners a_share a_leftOver : Nat} {p1 : Int32} {p2 : Int32} {p3 : Int32} {c_askedCount : Int32} {c_outcome : Int32} {c_row : Nat → Int32} {n_row : Nat → Int32} (hF : F_X5_shift p1 p2 p3 c_row = some n_row) : Met l yX5_shift v_f_X5_shift (({ frames := 1, cells := 0, slots := 0, locals := 23 } : Room)) (va_Pc [.ref a_, .int p1, .int p2, .int p3] (pW E sz (w_X5_shift E a_ a_row a_partners a_share a_leftOver c_askedCount c_outcome c_row))) (va_Qv (fun (_u : Unit) => True) (fun (_u : Unit) tt => va_P E.1 vwCl (w_X5_shift E a_ a_row a_partners a_share a_leftOver c_askedCount c_outcome n_row) tt.heap ∧ va_D (va_A (w_X5_shift E a_ a_row a_partners a_share a_leftOver c_askedCount c_outcome c_row) sz) (w_X5_shift E a_ a_row a_partners a_share a_leftOver c_askedCount c_outcome n_row)) (va_A (w_X5_shift E a_ a_row a_partners a_share a_leftOver c_askedCount c_outcome c_row) sz)) 0 0 (va_A (w_X5_shift E a_ a_row a_partners a_share a_leftOver c_askedCount c_outcome c_row) sz) := by
  refine Met.ofW (cc := cX5_shift) (maxL := 4) (ret := none) (by decide) rfl ?_
  intro p e s m args below meth c s₁ B hml hv
  obtain ⟨rfl, hsz, ⟨hK, hN⟩, hP, hD0⟩ := hv
  have hx := B.exec
  have hb := B.bytes
  have hr := B.returns
  have hts := atoms_spec (ws := v_f_X5_shift) B.pre
  have hown : s.vm.findClass RX5 = some m.cls := own_of hd_X5_shift.1 (findClass_of_methodNamed B.named)
  have hlocks : meth.locks = false := B.notSynchronized
  subst hsz
  have hD := hD0.self (sz := s.heap.size)
  generalize hAe : va_A (w_X5_shift E a_ a_row a_partners a_share a_leftOver c_askedCount c_outcome c_row) s.heap.size = A at hD ⊢
  have hA : ∀ q : Nat, s.heap.size ≤ q → A q := fun q h => by rw [← hAe]; exact Or.inr h
  have hS : va_S A s.heap s.heap [] := va_S.rf
  have hl := lv_entry ([.ref a_, .int p1, .int p2, .int p3]) (n := 4) (Nat.le_of_ble_eq_true rfl)
  rw [lg_entry_eq]
  generalize (lg_sl ([.ref a_, .int p1, .int p2, .int p3]) ++ List.replicate (4 - (lg_sl ([.ref a_, .int p1, .int p2, .int p3])).length) Slot.unset).toArray = ls at hl ⊢
  have hl : lv_has ls 4 [(0, .ref a_), (1, .int p1), (2, .int p2), (3, .int p3)] := hl
  obtain ⟨Q, hQ⟩ : ∃ Q : State → Prop, Q = MQ below (va_Qv (fun (_u : Unit) => True) (fun (_u : Unit) tt => va_P E.1 vwCl (w_X5_shift E a_ a_row a_partners a_share a_leftOver c_askedCount c_outcome n_row) tt.heap ∧ va_D A (w_X5_shift E a_ a_row a_partners a_share a_leftOver c_askedCount c_outcome n_row)) A) #[Value.ref a_, Value.int p1, Value.int p2, Value.int p3] s 0 0 A := ⟨_, rfl⟩
  rw [← hQ]
  change W p l e ({ frames := 1, cells := 0, slots := 0, locals := 23 } : Room) s m #[Value.ref a_, Value.int p1, Value.int p2, Value.int p3] below meth c s.heap [] 0 0 Q (F0 m 0 ls [])
  suffices hh9 : ∀ (H : Heap) (locs : List Loc), va_P E.1 vwCl (w_X5_shift E a_ a_row a_partners a_share a_leftOver c_askedCount c_outcome c_row) H → va_D A (w_X5_shift E a_ a_row a_partners a_share a_leftOver c_askedCount c_outcome c_row) → va_S A s.heap H locs → W p l e ({ frames := 1, cells := 0, slots := 0, locals := 23 } : Room) s m #[Value.ref a_, Value.int p1, Value.int p2, Value.int p3] below meth c H locs 0 0 Q (F0 m 0 ls []) from hh9 s.heap [] hP hD hS
  clear hP hD hS
  intro H locs hP hD hS
  have h9 := fixPD (ws' := [k_X5 a_ a_row a_partners c_askedCount c_outcome a_share a_leftOver, k_I E a_row 81 c_row]) hP hD rfl
  clear hP hD
  obtain ⟨hP, hD⟩ := h9
  unfold F_X5_shift at hF
  refine lv_aload_n hx hb (dq_42 0 bcX5_shift_0 (j := 0) rfl rfl) rfl (lv_at hl 0 rfl) ?_
  refine lv_iload_n hx hb (dq_27 0 bcX5_shift_0 (j := 1) rfl rfl) rfl (lv_at hl 1 rfl) ?_
  refine lv_iconst (v := 0) hx hb (dq_3 0 bcX5_shift_0 (j := 2) rfl rfl) (by decide) ?_
  refine lv_aload_n hx hb (dq_42 0 bcX5_shift_0 (j := 3) rfl rfl) rfl (lv_at hl 0 rfl) ?_
  refine lv_iload_n hx hb (dq_27 0 bcX5_shift_0 (j := 4) rfl rfl) rfl (lv_at hl 1 rfl) ?_
  refine lv_iconst (v := 0) hx hb (dq_3 0 bcX5_shift_0 (j := 5) rfl rfl) (by decide) ?_
  replace hF := bd1_s hF
  obtain ⟨r_1, hc_2, hF⟩ := hF
  have hPc : va_P E.1 vwCl (w_X5_of E a_ a_row a_partners a_share a_leftOver c_askedCount c_outcome c_row) H := hP.sub (ws' := [k_X5 a_ a_row a_partners c_askedCount c_outcome a_share a_leftOver, k_I E a_row 81 c_row]) [0, 1] rfl
  have hrc := va_recv hK hPc (ci := 6) (q0 := 0) rfl rfl
  refine pE_i (va_runV (As := [.int p1, .int (0 : Int32)]) (rest := [.int (0 : Int32), .int p1, .ref a_])  ⟨hx, hb, hml, hown, hts⟩ (f_X5_of l E (a_ := a_) (a_row := a_row) (a_partners := a_partners) (a_share := a_share) (a_leftOver := a_leftOver) (p1 := p1) (p2 := (0 : Int32)) (c_askedCount := c_askedCount) (c_outcome := c_outcome) (c_row := c_row) hc_2) (cwV 2 hts g_f_X5_shift_f_X5_of_69 rfl rfl rfl hd_X5_of ⟨Nat.le_of_ble_eq_true rfl, Nat.le_of_ble_eq_true rfl⟩) ⟨pP.blind, hrc, (pP.pre ⟨hK, hN⟩ hPc)⟩ rfl rfl hl.1 rfl (lv_room (Nat.le_of_ble_eq_true rfl)) (dq_182 0 bcX5_shift_0 (j := 6) (i := 69) rfl rfl rfl) ⟨Nat.le_of_ble_eq_true rfl, Nat.le_of_ble_eq_true rfl⟩) ?_
  refine lv_iload_n hx hb (dq_28 0 bcX5_shift_0 (j := 9) rfl rfl) rfl (lv_at hl 2 rfl) ?_
  refine lv_iadd hx hb (dq_96 0 bcX5_shift_0 (j := 10) rfl rfl) ?_
  replace hF := bd1_s hF
  obtain ⟨w_3, hc_4, hF⟩ := hF
  obtain ⟨hPc, hDc, hFc⟩ := wcut (wc := (w_X5_put E a_ a_row a_partners a_share a_leftOver c_askedCount c_outcome c_row)) hP hD hS hA [0, 1] (by decide) rfl
  have hrc := va_recv hK hPc (ci := 6) (q0 := 0) rfl rfl
  refine cE_v (wc := (w_X5_put E a_ a_row a_partners a_share a_leftOver c_askedCount c_outcome c_row)) (wr := []) (w1 := (w_X5_put E a_ a_row a_partners a_share a_leftOver c_askedCount c_outcome w_3)) (va_runV (As := [.int p1, .int (0 : Int32), .int (r_1 + p2)]) (rest := [])  ⟨hx, hb, hml, hown, hts⟩ (f_X5_put l E H.size (a_ := a_) (a_row := a_row) (a_partners := a_partners) (a_share := a_share) (a_leftOver := a_leftOver) (p1 := p1) (p2 := (0 : Int32)) (p3 := r_1 + p2) (c_askedCount := c_askedCount) (c_outcome := c_outcome) (c_row := c_row) hc_4) (cwV 3 hts g_f_X5_shift_f_X5_put_52 rfl rfl rfl hd_X5_put ⟨Nat.le_of_ble_eq_true rfl, Nat.le_of_ble_eq_true rfl⟩) ⟨pW.blind, hrc, (pW.pre ⟨hK, hN⟩ hPc hDc)⟩ rfl rfl hl.1 rfl (lv_room (Nat.le_of_ble_eq_true rfl)) (dq_182 0 bcX5_shift_0 (j := 11) (i := 52) rfl rfl rfl) ⟨Nat.le_of_ble_eq_true rfl, Nat.le_of_ble_eq_true rfl⟩) hS hFc hP hD [0, 1] [] rfl rfl (by decide) (by decide) (fun H locs hP hD hS => ?_)
  have h9 := fixPD (ws' := [k_X5 a_ a_row a_partners c_askedCount c_outcome a_share a_leftOver, k_I E a_row 81 w_3]) hP hD rfl
  clear hP hD
  obtain ⟨hP, hD⟩ := h9
  refine lv_aload_n hx hb (dq_42 0 bcX5_shift_0 (j := 14) rfl rfl) rfl (lv_at hl 0 rfl) ?_
  refine lv_iload_n hx hb (dq_27 0 bcX5_shift_0 (j := 15) rfl rfl) rfl (lv_at hl 1 rfl) ?_
  refine lv_iconst (v := 1) hx hb (dq_4 0 bcX5_shift_0 (j := 16) rfl rfl) (by decide) ?_
  refine lv_aload_n hx hb (dq_42 0 bcX5_shift_0 (j := 17) rfl rfl) rfl (lv_at hl 0 rfl) ?_
  refine lv_iload_n hx hb (dq_27 0 bcX5_shift_0 (j := 18) rfl rfl) rfl (lv_at hl 1 rfl) ?_
  refine lv_iconst (v := 1) hx hb (dq_4 0 bcX5_shift_0 (j := 19) rfl rfl) (by decide) ?_
  replace hF := bd1_s hF
  obtain ⟨r_5, hc_6, hF⟩ := hF
  have hPc : va_P E.1 vwCl (w_X5_of E a_ a_row a_partners a_share a_leftOver c_askedCount c_outcome w_3) H := hP.sub (ws' := [k_X5 a_ a_row a_partners c_askedCount c_outcome a_share a_leftOver, k_I E a_row 81 w_3]) [0, 1] rfl
  have hrc := va_recv hK hPc (ci := 6) (q0 := 0) rfl rfl
  refine pE_i (va_runV (As := [.int p1, .int (1 : Int32)]) (rest := [.int (1 : Int32), .int p1, .ref a_])  ⟨hx, hb, hml, hown, hts⟩ (f_X5_of l E (a_ := a_) (a_row := a_row) (a_partners := a_partners) (a_share := a_share) (a_leftOver := a_leftOver) (p1 := p1) (p2 := (1 : Int32)) (c_askedCount := c_askedCount) (c_outcome := c_outcome) (c_row := w_3) hc_6) (cwV 2 hts g_f_X5_shift_f_X5_of_69 rfl rfl rfl hd_X5_of ⟨Nat.le_of_ble_eq_true rfl, Nat.le_of_ble_eq_true rfl⟩) ⟨pP.blind, hrc, (pP.pre ⟨hK, hN⟩ hPc)⟩ rfl rfl hl.1 rfl (lv_room (Nat.le_of_ble_eq_true rfl)) (dq_182 0 bcX5_shift_0 (j := 20) (i := 69) rfl rfl rfl) ⟨Nat.le_of_ble_eq_true rfl, Nat.le_of_ble_eq_true rfl⟩) ?_
  refine lv_iload_n hx hb (dq_29 0 bcX5_shift_0 (j := 23) rfl rfl) rfl (lv_at hl 3 rfl) ?_
  refine lv_iadd hx hb (dq_96 0 bcX5_shift_0 (j := 24) rfl rfl) ?_
  replace hF := bd1_s hF
  obtain ⟨w_7, hc_8, hF⟩ := hF
  obtain ⟨hPc, hDc, hFc⟩ := wcut (wc := (w_X5_put E a_ a_row a_partners a_share a_leftOver c_askedCount c_outcome w_3)) hP hD hS hA [0, 1] (by decide) rfl
  have hrc := va_recv hK hPc (ci := 6) (q0 := 0) rfl rfl
  refine cE_v (wc := (w_X5_put E a_ a_row a_partners a_share a_leftOver c_askedCount c_outcome w_3)) (wr := []) (w1 := (w_X5_put E a_ a_row a_partners a_share a_leftOver c_askedCount c_outcome w_7)) (va_runV (As := [.int p1, .int (1 : Int32), .int (r_5 + p3)]) (rest := [])  ⟨hx, hb, hml, hown, hts⟩ (f_X5_put l E H.size (a_ := a_) (a_row := a_row) (a_partners := a_partners) (a_share := a_share) (a_leftOver := a_leftOver) (p1 := p1) (p2 := (1 : Int32)) (p3 := r_5 + p3) (c_askedCount := c_askedCount) (c_outcome := c_outcome) (c_row := w_3) hc_8) (cwV 3 hts g_f_X5_shift_f_X5_put_52 rfl rfl rfl hd_X5_put ⟨Nat.le_of_ble_eq_true rfl, Nat.le_of_ble_eq_true rfl⟩) ⟨pW.blind, hrc, (pW.pre ⟨hK, hN⟩ hPc hDc)⟩ rfl rfl hl.1 rfl (lv_room (Nat.le_of_ble_eq_true rfl)) (dq_182 0 bcX5_shift_0 (j := 25) (i := 52) rfl rfl rfl) ⟨Nat.le_of_ble_eq_true rfl, Nat.le_of_ble_eq_true rfl⟩) hS hFc hP hD [0, 1] [] rfl rfl (by decide) (by decide) (fun H locs hP hD hS => ?_)
  have h9 := fixPD (ws' := [k_X5 a_ a_row a_partners c_askedCount c_outcome a_share a_leftOver, k_I E a_row 81 w_7]) hP hD rfl
  clear hP hD
  obtain ⟨hP, hD⟩ := h9
  rw [hQ]
  have h9 := fin9 (P := fun u9 : (Nat → Int32) => va_P E.1 vwCl (w_X5_shift E a_ a_row a_partners a_share a_leftOver c_askedCount c_outcome u9) H ∧ va_D A (w_X5_shift E a_ a_row a_partners a_share a_leftOver c_askedCount c_outcome u9)) hF ⟨hP, hD⟩
  obtain ⟨hP9, hD9⟩ := h9
  exact W.vret hx hb hr (fun tt ht hW => ⟨⟨(), rfl, trivial, ht ▸ hP9, hD9⟩, hS.F ht⟩) hS.2.2 (dq_177 0 bcX5_shift_0 (j := 28) rfl rfl)

def F_X5_isQuiet (p1 : Int32) (c_row : Nat → Int32) : Option (Int32) :=
  bd1 (F_X5_drift p1 (0 : Int32) c_row) (fun r_1 => bd1 (F_X5_drift p1 (1 : Int32) c_row) (fun r_3 => bd1 (F_X5_isQuietDrift r_1 r_3 c_row) (fun r_5 => some r_5)))
abbrev w_X5_isQuiet (E : EE) (a_ a_row a_partners a_share a_leftOver : Nat) (c_askedCount : Int32) (c_outcome : Int32) (c_row : Nat → Int32) : va_W := [k_X5 a_ a_row a_partners c_askedCount c_outcome a_share a_leftOver, k_I E a_row 81 c_row]
def v_f_X5_isQuiet : List Cond := List.cons (.code yX5_isQuiet cX5_isQuiet 2 (some .boolean)) (HAppend.hAppend (α := List Cond) (β := List Cond) (γ := List Cond) [.methodLink RX5 72 yX5_drift, .instanceMethod yX5_drift, .selects RX5 yX5_drift yX5_drift, .initialized RX5, .methodLink RX5 87 yX5_isQuietDrift, .instanceMethod yX5_isQuietDrift, .selects RX5 yX5_isQuietDrift yX5_isQuietDrift] (HAppend.hAppend (α := List Cond) (β := List Cond) (γ := List Cond) v_f_X5_drift (HAppend.hAppend (α := List Cond) (β := List Cond) (γ := List Cond) v_f_X5_isQuietDrift [])))
theorem gw_f_X5_isQuiet : v_f_X5_isQuiet.all goodWord = true := gw_c2 (by decide +kernel) (gw_ap gw_f_X5_drift (gw_ap gw_f_X5_isQuietDrift gw_nil))
theorem g_f_X5_isQuiet_f_X5_drift_72 : GoodIn v_f_X5_isQuiet (wsV RX5 72 RX5 yX5_drift v_f_X5_drift) := goodIn_in gw_f_X5_isQuiet (in4 1 2 3 4 rfl rfl rfl rfl (fun _ h => List.mem_cons_of_mem _ (List.mem_append_right _ (List.mem_append_left _ h))))
theorem g_f_X5_isQuiet_f_X5_isQuietDrift_87 : GoodIn v_f_X5_isQuiet (wsV RX5 87 RX5 yX5_isQuietDrift v_f_X5_isQuietDrift) := goodIn_in gw_f_X5_isQuiet (in4 5 6 7 4 rfl rfl rfl rfl (fun _ h => List.mem_cons_of_mem _ (List.mem_append_right _ (List.mem_append_right _ (List.mem_append_left _ h)))))
theorem hd_X5_isQuiet : yX5_isQuiet.cls = RX5 ∧ yX5_isQuiet.cls ≠ "java/lang/invoke/MethodHandle" ∧ yX5_isQuiet.cls ≠ "java/lang/invoke/VarHandle" ∧ (parseMethodDescriptor yX5_isQuiet.desc).map (fun d => d.parameters.length) = some 1 := by decide +kernel
set_option maxHeartbeats 4000000 in
set_option maxRecDepth 100000 in
theorem f_X5_isQuiet (l : Launch) (E : EE) {a_ a_row a_partners a_share a_leftOver : Nat} {p1 : Int32} {c_askedCount : Int32} {c_outcome : Int32} {c_row : Nat → Int32} {rr : Int32} (hF : F_X5_isQuiet p1 c_row = some rr) : Met l yX5_isQuiet v_f_X5_isQuiet (({ frames := 2, cells := 0, slots := 0, locals := 50 } : Room)) (va_Pc [.ref a_, .int p1] (pP E (w_X5_isQuiet E a_ a_row a_partners a_share a_leftOver c_askedCount c_outcome c_row))) (vp_Si (fun q : Int32 => q = rr ∧ (q = 0 ∨ q = 1))) 0 0 (fun _ => False) := by
  refine Met.ofW (cc := cX5_isQuiet) (maxL := 2) (ret := (some .boolean)) (by decide) rfl ?_
  intro p e s m args below meth c s₁ B hml hv
  obtain ⟨rfl, ⟨hK, hN⟩, hP⟩ := hv
  have hx := B.exec
  have hb := B.bytes
  have hr := B.returns
  have hts := atoms_spec (ws := v_f_X5_isQuiet) B.pre
  have hown : s.vm.findClass RX5 = some m.cls := own_of hd_X5_isQuiet.1 (findClass_of_methodNamed B.named)
  have hlocks : meth.locks = false := B.notSynchronized
  replace hP : va_P E.1 vwCl [k_X5 a_ a_row a_partners c_askedCount c_outcome a_share a_leftOver, k_I E a_row 81 c_row] s.heap := hP
  have hl := lv_entry ([.ref a_, .int p1]) (n := 2) (Nat.le_of_ble_eq_true rfl)
  rw [lg_entry_eq]
  generalize (lg_sl ([.ref a_, .int p1]) ++ List.replicate (2 - (lg_sl ([.ref a_, .int p1])).length) Slot.unset).toArray = ls at hl ⊢
  have hl : lv_has ls 2 [(0, .ref a_), (1, .int p1)] := hl
  obtain ⟨Q, hQ⟩ : ∃ Q : State → Prop, Q = MQ below (vp_Si (fun q : Int32 => q = rr ∧ (q = 0 ∨ q = 1))) #[Value.ref a_, Value.int p1] s 0 0 (fun _ => False) := ⟨_, rfl⟩
  rw [← hQ]
  change W p l e ({ frames := 2, cells := 0, slots := 0, locals := 50 } : Room) s m #[Value.ref a_, Value.int p1] below meth c s.heap [] 0 0 Q (F0 m 0 ls [])
  unfold F_X5_isQuiet at hF
  refine lv_aload_n hx hb (dq_42 0 bcX5_isQuiet_0 (j := 0) rfl rfl) rfl (lv_at hl 0 rfl) ?_
  refine lv_aload_n hx hb (dq_42 0 bcX5_isQuiet_0 (j := 1) rfl rfl) rfl (lv_at hl 0 rfl) ?_
  refine lv_iload_n hx hb (dq_27 0 bcX5_isQuiet_0 (j := 2) rfl rfl) rfl (lv_at hl 1 rfl) ?_
  refine lv_iconst (v := 0) hx hb (dq_3 0 bcX5_isQuiet_0 (j := 3) rfl rfl) (by decide) ?_
  replace hF := bd1_s hF
  obtain ⟨r_1, hc_2, hF⟩ := hF
  have hPc : va_P E.1 vwCl (w_X5_drift E a_ a_row a_partners a_share a_leftOver c_askedCount c_outcome c_row) s.heap := hP.sub (ws' := [k_X5 a_ a_row a_partners c_askedCount c_outcome a_share a_leftOver, k_I E a_row 81 c_row]) [0, 1] rfl
  have hrc := va_recv hK hPc (ci := 6) (q0 := 0) rfl rfl
  refine pE_i (va_runV (As := [.int p1, .int (0 : Int32)]) (rest := [.ref a_])  ⟨hx, hb, hml, hown, hts⟩ (f_X5_drift l E (a_ := a_) (a_row := a_row) (a_partners := a_partners) (a_share := a_share) (a_leftOver := a_leftOver) (p1 := p1) (p2 := (0 : Int32)) (c_askedCount := c_askedCount) (c_outcome := c_outcome) (c_row := c_row) hc_2) (cwV 2 hts g_f_X5_isQuiet_f_X5_drift_72 rfl rfl rfl hd_X5_drift ⟨Nat.le_of_ble_eq_true rfl, Nat.le_of_ble_eq_true rfl⟩) ⟨pP.blind, hrc, (pP.pre ⟨hK, hN⟩ hPc)⟩ rfl rfl hl.1 rfl (lv_room (Nat.le_of_ble_eq_true rfl)) (dq_182 0 bcX5_isQuiet_0 (j := 4) (i := 72) rfl rfl rfl) ⟨Nat.le_of_ble_eq_true rfl, Nat.le_of_ble_eq_true rfl⟩) ?_
  refine lv_aload_n hx hb (dq_42 0 bcX5_isQuiet_0 (j := 7) rfl rfl) rfl (lv_at hl 0 rfl) ?_
  refine lv_iload_n hx hb (dq_27 0 bcX5_isQuiet_0 (j := 8) rfl rfl) rfl (lv_at hl 1 rfl) ?_
  refine lv_iconst (v := 1) hx hb (dq_4 0 bcX5_isQuiet_0 (j := 9) rfl rfl) (by decide) ?_
  replace hF := bd1_s hF
  obtain ⟨r_3, hc_4, hF⟩ := hF
  have hPc : va_P E.1 vwCl (w_X5_drift E a_ a_row a_partners a_share a_leftOver c_askedCount c_outcome c_row) s.heap := hP.sub (ws' := [k_X5 a_ a_row a_partners c_askedCount c_outcome a_share a_leftOver, k_I E a_row 81 c_row]) [0, 1] rfl
  have hrc := va_recv hK hPc (ci := 6) (q0 := 0) rfl rfl
  refine pE_i (va_runV (As := [.int p1, .int (1 : Int32)]) (rest := [.int r_1, .ref a_])  ⟨hx, hb, hml, hown, hts⟩ (f_X5_drift l E (a_ := a_) (a_row := a_row) (a_partners := a_partners) (a_share := a_share) (a_leftOver := a_leftOver) (p1 := p1) (p2 := (1 : Int32)) (c_askedCount := c_askedCount) (c_outcome := c_outcome) (c_row := c_row) hc_4) (cwV 2 hts g_f_X5_isQuiet_f_X5_drift_72 rfl rfl rfl hd_X5_drift ⟨Nat.le_of_ble_eq_true rfl, Nat.le_of_ble_eq_true rfl⟩) ⟨pP.blind, hrc, (pP.pre ⟨hK, hN⟩ hPc)⟩ rfl rfl hl.1 rfl (lv_room (Nat.le_of_ble_eq_true rfl)) (dq_182 0 bcX5_isQuiet_0 (j := 10) (i := 72) rfl rfl rfl) ⟨Nat.le_of_ble_eq_true rfl, Nat.le_of_ble_eq_true rfl⟩) ?_
  replace hF := bd1_s hF
  obtain ⟨r_5, hc_6, hF⟩ := hF
  have hPc : va_P E.1 vwCl (w_X5_isQuietDrift E a_ a_row a_partners a_share a_leftOver c_askedCount c_outcome c_row) s.heap := hP.sub (ws' := [k_X5 a_ a_row a_partners c_askedCount c_outcome a_share a_leftOver, k_I E a_row 81 c_row]) [0, 1] rfl
  have hrc := va_recv hK hPc (ci := 6) (q0 := 0) rfl rfl
  refine pE_z (va_runV (As := [.int r_1, .int r_3]) (rest := [])  ⟨hx, hb, hml, hown, hts⟩ (f_X5_isQuietDrift l E (a_ := a_) (a_row := a_row) (a_partners := a_partners) (a_share := a_share) (a_leftOver := a_leftOver) (p1 := r_1) (p2 := r_3) (c_askedCount := c_askedCount) (c_outcome := c_outcome) (c_row := c_row) hc_6) (cwV 2 hts g_f_X5_isQuiet_f_X5_isQuietDrift_87 rfl rfl rfl hd_X5_isQuietDrift ⟨Nat.le_of_ble_eq_true rfl, Nat.le_of_ble_eq_true rfl⟩) ⟨pP.blind, hrc, (pP.pre ⟨hK, hN⟩ hPc)⟩ rfl rfl hl.1 rfl (lv_room (Nat.le_of_ble_eq_true rfl)) (dq_182 0 bcX5_isQuiet_0 (j := 13) (i := 87) rfl rfl rfl) ⟨Nat.le_of_ble_eq_true rfl, Nat.le_of_ble_eq_true rfl⟩) (fun hb_7 => ?_)
  rw [hQ]
  obtain e9_0 := inj1 hF
  exact W.zret (v := r_5) hx hb hr (nar_bool hb_7) (fun tt ht hW => ⟨_, rfl, ⟨e9_0, hb_7⟩, ht⟩) (fun _ h => by cases h) (dq_172 0 bcX5_isQuiet_0 (j := 16) rfl rfl)

def F_X5_isFrozen (p1 : Int32) (c_row : Nat → Int32) : Option (Int32) :=
  bd1 (F_X5_hasSite p1 c_row) (fun r_1 => if r_1 = (0 : Int32) then some (0 : Int32) else if ((c_row 7) >>> (p1 &&& (31 : Int32))) &&& (1 : Int32) = (0 : Int32) then some (0 : Int32) else some (1 : Int32))
abbrev w_X5_isFrozen (E : EE) (a_ a_row a_partners a_share a_leftOver : Nat) (c_askedCount : Int32) (c_outcome : Int32) (c_row : Nat → Int32) : va_W := [k_X5 a_ a_row a_partners c_askedCount c_outcome a_share a_leftOver, k_I E a_row 81 c_row]
def v_f_X5_isFrozen : List Cond := List.cons (.code yX5_isFrozen cX5_isFrozen 2 (some .boolean)) (HAppend.hAppend (α := List Cond) (β := List Cond) (γ := List Cond) [.fieldLink RX5 11 "HushWatch$State" "row" "[I", .methodLink RX5 79 yX5_hasSite, .instanceMethod yX5_hasSite, .selects RX5 yX5_hasSite yX5_hasSite, .initialized RX5] (HAppend.hAppend (α := List Cond) (β := List Cond) (γ := List Cond) v_f_X5_hasSite (HAppend.hAppend (α := List Cond) (β := List Cond) (γ := List Cond) wsX50 [])))
theorem gw_f_X5_isFrozen : v_f_X5_isFrozen.all goodWord = true := gw_c2 (by decide +kernel) (gw_ap gw_f_X5_hasSite (gw_ap gw_wsX50 gw_nil))
theorem i_f_X5_isFrozen_X5 : ∀ w ∈ wsX50, w ∈ v_f_X5_isFrozen := fun _ h => List.mem_cons_of_mem _ (List.mem_append_right _ (List.mem_append_right _ (List.mem_append_left _ h)))
theorem g_f_X5_isFrozen_f_X5_hasSite_79 : GoodIn v_f_X5_isFrozen (wsV RX5 79 RX5 yX5_hasSite v_f_X5_hasSite) := goodIn_in gw_f_X5_isFrozen (in4 2 3 4 5 rfl rfl rfl rfl (fun _ h => List.mem_cons_of_mem _ (List.mem_append_right _ (List.mem_append_left _ h))))
theorem hd_X5_isFrozen : yX5_isFrozen.cls = RX5 ∧ yX5_isFrozen.cls ≠ "java/lang/invoke/MethodHandle" ∧ yX5_isFrozen.cls ≠ "java/lang/invoke/VarHandle" ∧ (parseMethodDescriptor yX5_isFrozen.desc).map (fun d => d.parameters.length) = some 1 := by decide +kernel
set_option maxHeartbeats 4000000 in
set_option maxRecDepth 100000 in
theorem f_X5_isFrozen (l : Launch) (E : EE) {a_ a_row a_partners a_share a_leftOver : Nat} {p1 : Int32} {c_askedCount : Int32} {c_outcome : Int32} {c_row : Nat → Int32} {rr : Int32} (hF : F_X5_isFrozen p1 c_row = some rr) : Met l yX5_isFrozen v_f_X5_isFrozen (({ frames := 1, cells := 0, slots := 0, locals := 21 } : Room)) (va_Pc [.ref a_, .int p1] (pP E (w_X5_isFrozen E a_ a_row a_partners a_share a_leftOver c_askedCount c_outcome c_row))) (vp_Si (fun q : Int32 => q = rr ∧ (q = 0 ∨ q = 1))) 0 0 (fun _ => False) := by
  refine Met.ofW (cc := cX5_isFrozen) (maxL := 2) (ret := (some .boolean)) (by decide) rfl ?_
  intro p e s m args below meth c s₁ B hml hv
  obtain ⟨rfl, ⟨hK, hN⟩, hP⟩ := hv
  have hx := B.exec
  have hb := B.bytes
  have hr := B.returns
  have hts := atoms_spec (ws := v_f_X5_isFrozen) B.pre
  have hown : s.vm.findClass RX5 = some m.cls := own_of hd_X5_isFrozen.1 (findClass_of_methodNamed B.named)
  have hlocks : meth.locks = false := B.notSynchronized
  replace hP : va_P E.1 vwCl [k_X5 a_ a_row a_partners c_askedCount c_outcome a_share a_leftOver, k_I E a_row 81 c_row] s.heap := hP
  have hl := lv_entry ([.ref a_, .int p1]) (n := 2) (Nat.le_of_ble_eq_true rfl)
  rw [lg_entry_eq]
  generalize (lg_sl ([.ref a_, .int p1]) ++ List.replicate (2 - (lg_sl ([.ref a_, .int p1])).length) Slot.unset).toArray = ls at hl ⊢
  have hl : lv_has ls 2 [(0, .ref a_), (1, .int p1)] := hl
  obtain ⟨Q, hQ⟩ : ∃ Q : State → Prop, Q = MQ below (vp_Si (fun q : Int32 => q = rr ∧ (q = 0 ∨ q = 1))) #[Value.ref a_, Value.int p1] s 0 0 (fun _ => False) := ⟨_, rfl⟩
  rw [← hQ]
  change W p l e ({ frames := 1, cells := 0, slots := 0, locals := 21 } : Room) s m #[Value.ref a_, Value.int p1] below meth c s.heap [] 0 0 Q (F0 m 0 ls [])
  unfold F_X5_isFrozen at hF
  refine lv_aload_n hx hb (dq_42 0 bcX5_isFrozen_0 (j := 0) rfl rfl) rfl (lv_at hl 0 rfl) ?_
  refine lv_iload_n hx hb (dq_27 0 bcX5_isFrozen_0 (j := 1) rfl rfl) rfl (lv_at hl 1 rfl) ?_
  replace hF := bd1_s hF
  obtain ⟨r_1, hc_2, hF⟩ := hF
  have hPc : va_P E.1 vwCl (w_X5_hasSite E a_ a_row a_partners a_share a_leftOver c_askedCount c_outcome c_row) s.heap := hP.sub (ws' := [k_X5 a_ a_row a_partners c_askedCount c_outcome a_share a_leftOver, k_I E a_row 81 c_row]) [0, 1] rfl
  have hrc := va_recv hK hPc (ci := 6) (q0 := 0) rfl rfl
  refine pE_z (va_runV (As := [.int p1]) (rest := [])  ⟨hx, hb, hml, hown, hts⟩ (f_X5_hasSite l E (a_ := a_) (a_row := a_row) (a_partners := a_partners) (a_share := a_share) (a_leftOver := a_leftOver) (p1 := p1) (c_askedCount := c_askedCount) (c_outcome := c_outcome) (c_row := c_row) hc_2) (cwV 1 hts g_f_X5_isFrozen_f_X5_hasSite_79 rfl rfl rfl hd_X5_hasSite ⟨Nat.le_of_ble_eq_true rfl, Nat.le_of_ble_eq_true rfl⟩) ⟨pP.blind, hrc, (pP.pre ⟨hK, hN⟩ hPc)⟩ rfl rfl hl.1 rfl (lv_room (Nat.le_of_ble_eq_true rfl)) (dq_182 0 bcX5_isFrozen_0 (j := 2) (i := 79) rfl rfl rfl) ⟨Nat.le_of_ble_eq_true rfl, Nat.le_of_ble_eq_true rfl⟩) (fun hb_3 => ?_)
  refine lv_if_eq (tgt := 26) hx hb (dq_153 0 bcX5_isFrozen_0 (j := 5) (i := 21) rfl rfl rfl) (by decide) (fun c_4 => ?_) (fun c_4 => ?_)
  ·
    replace hF := ip c_4 hF
    refine lv_iconst (v := 0) hx hb (dq_3 0 bcX5_isFrozen_0 (j := 26) rfl rfl) (by decide) ?_
    rw [hQ]
    obtain e9_0 := inj1 hF
    exact W.zret (v := (0 : Int32)) hx hb hr rfl (fun tt ht hW => ⟨_, rfl, ⟨e9_0, Or.inl rfl⟩, ht⟩) (fun _ h => by cases h) (dq_172 0 bcX5_isFrozen_0 (j := 27) rfl rfl)
  ·
    replace hF := inn c_4 hF
    refine lv_aload_n hx hb (dq_42 0 bcX5_isFrozen_0 (j := 8) rfl rfl) rfl (lv_at hl 0 rfl) ?_
    refine gt_X5_0 (v := .ref a_row) hx hb hts i_f_X5_isFrozen_X5 hown hK hP 0 rfl (hts (.fieldLink RX5 11 "HushWatch$State" "row" "[I") (List.mem_of_getElem? (i := 1) rfl)) rfl (dq_180 0 bcX5_isFrozen_0 (j := 9) (i := 11) rfl rfl rfl) ?_
    refine lv_bipush (v := 7) hx hb (dq_16 0 bcX5_isFrozen_0 (j := 12) (i := 7) rfl rfl rfl) (by decide) ?_
    refine va_iald hx hb hK hP 1 0 rfl rfl (vin rfl) (dq_46 0 bcX5_isFrozen_0 (j := 14) rfl rfl) ?_
    refine W.eq (g2 := F0 m 15 ls [.int (c_row 7)]) rfl ?_
    refine lv_iload_n hx hb (dq_27 0 bcX5_isFrozen_0 (j := 15) rfl rfl) rfl (lv_at hl 1 rfl) ?_
    refine lv_ishr hx hb (dq_122 0 bcX5_isFrozen_0 (j := 16) rfl rfl) ?_
    refine lv_iconst (v := 1) hx hb (dq_4 0 bcX5_isFrozen_0 (j := 17) rfl rfl) (by decide) ?_
    refine lv_iand hx hb (dq_126 0 bcX5_isFrozen_0 (j := 18) rfl rfl) ?_
    refine lv_if_eq (tgt := 26) hx hb (dq_153 0 bcX5_isFrozen_0 (j := 19) (i := 7) rfl rfl rfl) (by decide) (fun c_5 => ?_) (fun c_5 => ?_)
    ·
      replace hF := ip c_5 hF
      refine lv_iconst (v := 0) hx hb (dq_3 0 bcX5_isFrozen_0 (j := 26) rfl rfl) (by decide) ?_
      rw [hQ]
      obtain e9_0 := inj1 hF
      exact W.zret (v := (0 : Int32)) hx hb hr rfl (fun tt ht hW => ⟨_, rfl, ⟨e9_0, Or.inl rfl⟩, ht⟩) (fun _ h => by cases h) (dq_172 0 bcX5_isFrozen_0 (j := 27) rfl rfl)
    ·
      replace hF := inn c_5 hF
      refine lv_iconst (v := 1) hx hb (dq_4 0 bcX5_isFrozen_0 (j := 22) rfl rfl) (by decide) ?_
      refine lv_goto (tgt := 27) hx hb (dq_167 0 bcX5_isFrozen_0 (j := 23) (i := 4) rfl rfl rfl) (by decide) ?_
      rw [hQ]
      obtain e9_0 := inj1 hF
      exact W.zret (v := (1 : Int32)) hx hb hr rfl (fun tt ht hW => ⟨_, rfl, ⟨e9_0, Or.inr rfl⟩, ht⟩) (fun _ h => by cases h) (dq_172 0 bcX5_isFrozen_0 (j := 27) rfl rfl)

def F_X5_noteAsked (p1 : Int32) (c_partners : Nat → Int32) (c_askedCount : Int32) : Option ((Nat → Int32) × Int32) :=
  if (8 : Int32) ≤ c_askedCount then some (c_partners, c_askedCount) else ixF c_askedCount 8 (nmF (upd c_partners c_askedCount.toNatClampNeg p1) (fun f_3 => some (f_3, c_askedCount + (1 : Int32))))
abbrev w_X5_noteAsked (E : EE) (a_ a_row a_partners a_share a_leftOver : Nat) (c_askedCount : Int32) (c_outcome : Int32) (c_partners : Nat → Int32) : va_W := [k_X5 a_ a_row a_partners c_askedCount c_outcome a_share a_leftOver, k_I E a_partners 8 c_partners]
def v_f_X5_noteAsked : List Cond := List.cons (.code yX5_noteAsked cX5_noteAsked 2 none) (HAppend.hAppend (α := List Cond) (β := List Cond) (γ := List Cond) [.fieldLink RX5 18 "HushWatch$State" "askedCount" "I", .fieldLink RX5 15 "HushWatch$State" "partners" "[I"] (HAppend.hAppend (α := List Cond) (β := List Cond) (γ := List Cond) wsX50 []))
theorem gw_f_X5_noteAsked : v_f_X5_noteAsked.all goodWord = true := gw_c2 (by decide +kernel) (gw_ap gw_wsX50 gw_nil)
theorem i_f_X5_noteAsked_X5 : ∀ w ∈ wsX50, w ∈ v_f_X5_noteAsked := fun _ h => List.mem_cons_of_mem _ (List.mem_append_right _ (List.mem_append_left _ h))
theorem hd_X5_noteAsked : yX5_noteAsked.cls = RX5 ∧ yX5_noteAsked.cls ≠ "java/lang/invoke/MethodHandle" ∧ yX5_noteAsked.cls ≠ "java/lang/invoke/VarHandle" ∧ (parseMethodDescriptor yX5_noteAsked.desc).map (fun d => d.parameters.length) = some 1 := by decide +kernel
set_option maxHeartbeats 4000000 in
set_option maxRecDepth 100000 in
theorem f_X5_noteAsked (l : Launch) (E : EE) (sz : Nat) {a_ a_row a_partners a_share a_leftOver : Nat} {p1 : Int32} {c_askedCount : Int32} {c_outcome : Int32} {c_partners : Nat → Int32} {n_partners : Nat → Int32} {n_askedCount : Int32} (hF : F_X5_noteAsked p1 c_partners c_askedCount = some (n_partners, n_askedCount)) : Met l yX5_noteAsked v_f_X5_noteAsked (({ frames := 0, cells := 0, slots := 0, locals := 0 } : Room)) (va_Pc [.ref a_, .int p1] (pW E sz (w_X5_noteAsked E a_ a_row a_partners a_share a_leftOver c_askedCount c_outcome c_partners))) (va_Qv (fun (_u : Unit) => True) (fun (_u : Unit) tt => va_P E.1 vwCl (w_X5_noteAsked E a_ a_row a_partners a_share a_leftOver n_askedCount c_outcome n_partners) tt.heap ∧ va_D (va_A (w_X5_noteAsked E a_ a_row a_partners a_share a_leftOver c_askedCount c_outcome c_partners) sz) (w_X5_noteAsked E a_ a_row a_partners a_share a_leftOver n_askedCount c_outcome n_partners)) (va_A (w_X5_noteAsked E a_ a_row a_partners a_share a_leftOver c_askedCount c_outcome c_partners) sz)) 0 0 (va_A (w_X5_noteAsked E a_ a_row a_partners a_share a_leftOver c_askedCount c_outcome c_partners) sz) := by
  refine Met.ofW (cc := cX5_noteAsked) (maxL := 2) (ret := none) (by decide) rfl ?_
  intro p e s m args below meth c s₁ B hml hv
  obtain ⟨rfl, hsz, ⟨hK, hN⟩, hP, hD0⟩ := hv
  have hx := B.exec
  have hb := B.bytes
  have hr := B.returns
  have hts := atoms_spec (ws := v_f_X5_noteAsked) B.pre
  have hown : s.vm.findClass RX5 = some m.cls := own_of hd_X5_noteAsked.1 (findClass_of_methodNamed B.named)
  have hlocks : meth.locks = false := B.notSynchronized
  subst hsz
  have hD := hD0.self (sz := s.heap.size)
  generalize hAe : va_A (w_X5_noteAsked E a_ a_row a_partners a_share a_leftOver c_askedCount c_outcome c_partners) s.heap.size = A at hD ⊢
  have hA : ∀ q : Nat, s.heap.size ≤ q → A q := fun q h => by rw [← hAe]; exact Or.inr h
  have hS : va_S A s.heap s.heap [] := va_S.rf
  have hl := lv_entry ([.ref a_, .int p1]) (n := 2) (Nat.le_of_ble_eq_true rfl)
  rw [lg_entry_eq]
  generalize (lg_sl ([.ref a_, .int p1]) ++ List.replicate (2 - (lg_sl ([.ref a_, .int p1])).length) Slot.unset).toArray = ls at hl ⊢
  have hl : lv_has ls 2 [(0, .ref a_), (1, .int p1)] := hl
  obtain ⟨Q, hQ⟩ : ∃ Q : State → Prop, Q = MQ below (va_Qv (fun (_u : Unit) => True) (fun (_u : Unit) tt => va_P E.1 vwCl (w_X5_noteAsked E a_ a_row a_partners a_share a_leftOver n_askedCount c_outcome n_partners) tt.heap ∧ va_D A (w_X5_noteAsked E a_ a_row a_partners a_share a_leftOver n_askedCount c_outcome n_partners)) A) #[Value.ref a_, Value.int p1] s 0 0 A := ⟨_, rfl⟩
  rw [← hQ]
  change W p l e ({ frames := 0, cells := 0, slots := 0, locals := 0 } : Room) s m #[Value.ref a_, Value.int p1] below meth c s.heap [] 0 0 Q (F0 m 0 ls [])
  suffices hh9 : ∀ (H : Heap) (locs : List Loc), va_P E.1 vwCl (w_X5_noteAsked E a_ a_row a_partners a_share a_leftOver c_askedCount c_outcome c_partners) H → va_D A (w_X5_noteAsked E a_ a_row a_partners a_share a_leftOver c_askedCount c_outcome c_partners) → va_S A s.heap H locs → W p l e ({ frames := 0, cells := 0, slots := 0, locals := 0 } : Room) s m #[Value.ref a_, Value.int p1] below meth c H locs 0 0 Q (F0 m 0 ls []) from hh9 s.heap [] hP hD hS
  clear hP hD hS
  intro H locs hP hD hS
  have h9 := fixPD (ws' := [k_X5 a_ a_row a_partners c_askedCount c_outcome a_share a_leftOver, k_I E a_partners 8 c_partners]) hP hD rfl
  clear hP hD
  obtain ⟨hP, hD⟩ := h9
  unfold F_X5_noteAsked at hF
  refine lv_aload_n hx hb (dq_42 0 bcX5_noteAsked_0 (j := 0) rfl rfl) rfl (lv_at hl 0 rfl) ?_
  refine gt_X5_2 (v := .int c_askedCount) hx hb hts i_f_X5_noteAsked_X5 hown hK hP 0 rfl (hts (.fieldLink RX5 18 "HushWatch$State" "askedCount" "I") (List.mem_of_getElem? (i := 1) rfl)) rfl (dq_180 0 bcX5_noteAsked_0 (j := 1) (i := 18) rfl rfl rfl) ?_
  refine lv_bipush (v := 8) hx hb (dq_16 0 bcX5_noteAsked_0 (j := 4) (i := 8) rfl rfl rfl) (by decide) ?_
  refine lv_icmp_ge (tgt := 29) hx hb (dq_162 0 bcX5_noteAsked_0 (j := 6) (i := 23) rfl rfl rfl) (by decide) (fun c_1 => ?_) (fun c_1 => ?_)
  ·
    replace hF := ip c_1 hF
    rw [hQ]
    have h9 := fin9 (P := fun u9 : (Nat → Int32) × Int32 => va_P E.1 vwCl (w_X5_noteAsked E a_ a_row a_partners a_share a_leftOver u9.2 c_outcome u9.1) H ∧ va_D A (w_X5_noteAsked E a_ a_row a_partners a_share a_leftOver u9.2 c_outcome u9.1)) hF ⟨hP, hD⟩
    obtain ⟨hP9, hD9⟩ := h9
    exact W.vret hx hb hr (fun tt ht hW => ⟨⟨(), rfl, trivial, ht ▸ hP9, hD9⟩, hS.F ht⟩) hS.2.2 (dq_177 0 bcX5_noteAsked_0 (j := 29) rfl rfl)
  ·
    replace hF := inn c_1 hF
    refine lv_aload_n hx hb (dq_42 0 bcX5_noteAsked_0 (j := 9) rfl rfl) rfl (lv_at hl 0 rfl) ?_
    refine gt_X5_1 (v := .ref a_partners) hx hb hts i_f_X5_noteAsked_X5 hown hK hP 0 rfl (hts (.fieldLink RX5 15 "HushWatch$State" "partners" "[I") (List.mem_of_getElem? (i := 2) rfl)) rfl (dq_180 0 bcX5_noteAsked_0 (j := 10) (i := 15) rfl rfl rfl) ?_
    refine lv_aload_n hx hb (dq_42 0 bcX5_noteAsked_0 (j := 13) rfl rfl) rfl (lv_at hl 0 rfl) ?_
    refine gt_X5_2 (v := .int c_askedCount) hx hb hts i_f_X5_noteAsked_X5 hown hK hP 0 rfl (hts (.fieldLink RX5 18 "HushWatch$State" "askedCount" "I") (List.mem_of_getElem? (i := 1) rfl)) rfl (dq_180 0 bcX5_noteAsked_0 (j := 14) (i := 18) rfl rfl rfl) ?_
    refine lv_iload_n hx hb (dq_27 0 bcX5_noteAsked_0 (j := 17) rfl rfl) rfl (lv_at hl 1 rfl) ?_
    replace hF := ix_s hF
    obtain ⟨hi_2, hF⟩ := hF
    refine va_iast hx hb hK hP hD hS 1 0 rfl rfl hi_2 (dq_79 0 bcX5_noteAsked_0 (j := 18) rfl rfl) (fun H locs hP hD hS => ?_)
    have h9 := fixPD (ws' := [k_X5 a_ a_row a_partners c_askedCount c_outcome a_share a_leftOver, k_I E a_partners 8 (upd c_partners c_askedCount.toNatClampNeg p1)]) hP hD rfl
    clear hP hD
    obtain ⟨hP, hD⟩ := h9
    replace hF := nm_s hF
    obtain ⟨f_3, hf_3, hF⟩ := hF
    rw [← hf_3] at hP hD
    refine lv_aload_n hx hb (dq_42 0 bcX5_noteAsked_0 (j := 19) rfl rfl) rfl (lv_at hl 0 rfl) ?_
    refine lv_dup hx hb (dq_89 0 bcX5_noteAsked_0 (j := 20) rfl rfl) rfl ?_
    refine gt_X5_2 (v := .int c_askedCount) hx hb hts i_f_X5_noteAsked_X5 hown hK hP 0 rfl (hts (.fieldLink RX5 18 "HushWatch$State" "askedCount" "I") (List.mem_of_getElem? (i := 1) rfl)) rfl (dq_180 0 bcX5_noteAsked_0 (j := 21) (i := 18) rfl rfl rfl) ?_
    refine lv_iconst (v := 1) hx hb (dq_4 0 bcX5_noteAsked_0 (j := 24) rfl rfl) (by decide) ?_
    refine lv_iadd hx hb (dq_96 0 bcX5_noteAsked_0 (j := 25) rfl rfl) ?_
    refine pt_X5_2 (v := .int (c_askedCount + (1 : Int32))) hx hb hts i_f_X5_noteAsked_X5 hown hK hP hD hS 0 rfl (hts (.fieldLink RX5 18 "HushWatch$State" "askedCount" "I") (List.mem_of_getElem? (i := 1) rfl)) rfl rfl (Nat.le_of_ble_eq_true rfl) (dq_181 0 bcX5_noteAsked_0 (j := 26) (i := 18) rfl rfl rfl) (fun H locs hP hD hS => ?_)
    have h9 := fixPD (ws' := [k_X5 a_ a_row a_partners (c_askedCount + (1 : Int32)) c_outcome a_share a_leftOver, k_I E a_partners 8 f_3]) hP hD rfl
    clear hP hD
    obtain ⟨hP, hD⟩ := h9
    rw [hQ]
    have h9 := fin9 (P := fun u9 : (Nat → Int32) × Int32 => va_P E.1 vwCl (w_X5_noteAsked E a_ a_row a_partners a_share a_leftOver u9.2 c_outcome u9.1) H ∧ va_D A (w_X5_noteAsked E a_ a_row a_partners a_share a_leftOver u9.2 c_outcome u9.1)) hF ⟨hP, hD⟩
    obtain ⟨hP9, hD9⟩ := h9
    exact W.vret hx hb hr (fun tt ht hW => ⟨⟨(), rfl, trivial, ht ▸ hP9, hD9⟩, hS.F ht⟩) hS.2.2 (dq_177 0 bcX5_noteAsked_0 (j := 29) rfl rfl)

def J_X5_hearAll_41 (k0 : Int32) (c_row : Nat → Int32) : Option ((Nat → Int32)) :=
  if k0 = c_row 6 then nmF (upd c_row 6 k0) (fun f_9 => some f_9) else nmF (upd c_row 15 ((c_row 15) + (1 : Int32))) (fun f_10 => nmF (upd f_10 6 k0) (fun f_11 => some f_11))
def F_X5_hearAll (K : Nat) (c_row : Nat → Int32) : Option ((Nat → Int32)) :=
  bd1 (F_X5_hearPlaces K c_row) (fun w_1 => nmF (upd w_1 14 ((w_1 14) + (1 : Int32))) (fun f_3 => bd1 (F_X5_allows ((f_3 4).toInt64) ((f_3 5).toInt64) f_3) (fun r_4 => if r_4 = (0 : Int32) then J_X5_hearAll_41 (1 : Int32) f_3 else J_X5_hearAll_41 (0 : Int32) f_3)))
abbrev w_X5_hearAll (E : EE) (a_ a_row a_partners a_share a_leftOver : Nat) (c_askedCount : Int32) (c_outcome : Int32) (c_row : Nat → Int32) : va_W := [k_X5 a_ a_row a_partners c_askedCount c_outcome a_share a_leftOver, k_I E a_row 81 c_row]
def v_f_X5_hearAll : List Cond := List.cons (.code yX5_hearAll cX5_hearAll 2 none) (HAppend.hAppend (α := List Cond) (β := List Cond) (γ := List Cond) [.fieldLink RX5 11 "HushWatch$State" "row" "[I", .methodLink RX5 56 yX5_hearPlaces, .instanceMethod yX5_hearPlaces, .selects RX5 yX5_hearPlaces yX5_hearPlaces, .initialized RX5, .methodLink RX5 59 yX5_allows, .instanceMethod yX5_allows, .selects RX5 yX5_allows yX5_allows] (HAppend.hAppend (α := List Cond) (β := List Cond) (γ := List Cond) v_f_X5_hearPlaces (HAppend.hAppend (α := List Cond) (β := List Cond) (γ := List Cond) wsX50 (HAppend.hAppend (α := List Cond) (β := List Cond) (γ := List Cond) v_f_X5_allows []))))
theorem gw_f_X5_hearAll : v_f_X5_hearAll.all goodWord = true := gw_c2 (by decide +kernel) (gw_ap gw_f_X5_hearPlaces (gw_ap gw_wsX50 (gw_ap gw_f_X5_allows gw_nil)))
theorem i_f_X5_hearAll_X5 : ∀ w ∈ wsX50, w ∈ v_f_X5_hearAll := fun _ h => List.mem_cons_of_mem _ (List.mem_append_right _ (List.mem_append_right _ (List.mem_append_left _ h)))
theorem g_f_X5_hearAll_f_X5_hearPlaces_56 : GoodIn v_f_X5_hearAll (wsV RX5 56 RX5 yX5_hearPlaces v_f_X5_hearPlaces) := goodIn_in gw_f_X5_hearAll (in4 2 3 4 5 rfl rfl rfl rfl (fun _ h => List.mem_cons_of_mem _ (List.mem_append_right _ (List.mem_append_left _ h))))
theorem g_f_X5_hearAll_f_X5_allows_59 : GoodIn v_f_X5_hearAll (wsV RX5 59 RX5 yX5_allows v_f_X5_allows) := goodIn_in gw_f_X5_hearAll (in4 6 7 8 5 rfl rfl rfl rfl (fun _ h => List.mem_cons_of_mem _ (List.mem_append_right _ (List.mem_append_right _ (List.mem_append_right _ (List.mem_append_left _ h))))))
theorem hd_X5_hearAll : yX5_hearAll.cls = RX5 ∧ yX5_hearAll.cls ≠ "java/lang/invoke/MethodHandle" ∧ yX5_hearAll.cls ≠ "java/lang/invoke/VarHandle" ∧ (parseMethodDescriptor yX5_hearAll.desc).map (fun d => d.parameters.length) = some 0 := by decide +kernel
set_option maxHeartbeats 4000000 in
set_option maxRecDepth 100000 in
theorem j_X5_hearAll_41 {p : Program} (l : Launch) {e : Env} {s : State} {m : MethodId} {below : List Frame} {meth : Method} {c : Code} {Q : State → Prop} (E : EE) (K : Nat) {a_ a_row a_partners a_share a_leftOver : Nat} {c_askedCount : Int32} {c_outcome : Int32} {k0 : Int32} {c_row : Nat → Int32} (hx : p.tables.exec = Jvm.exec) (hb : c.code = cX5_hearAll) (hml : c.maxLocals = 2) (hown : s.vm.findClass RX5 = some m.cls) (hts : ∀ w ∈ v_f_X5_hearAll, w.before #[Value.ref a_] s = true) (hK : va_K E.1 vwCl (TY E) s) (hN : NX s) {A : Nat → Prop} (hA : ∀ q : Nat, s.heap.size ≤ q → A q) {n_row : Nat → Int32} (hr : meth.sig.returnType = none) (hlocks : meth.locks = false) (hQ : Q = MQ below (va_Qv (fun (_u : Unit) => True) (fun (_u : Unit) tt => va_P E.1 vwCl (w_X5_hearAll E a_ a_row a_partners a_share a_leftOver c_askedCount c_outcome n_row) tt.heap ∧ va_D A (w_X5_hearAll E a_ a_row a_partners a_share a_leftOver c_askedCount c_outcome n_row)) A) #[Value.ref a_] s 0 0 A) (hF : J_X5_hearAll_41 k0 c_row = some n_row) : ∀ (H : Heap) (locs : List Loc) (ls : Array Slot), va_P E.1 vwCl (w_X5_hearAll E a_ a_row a_partners a_share a_leftOver c_askedCount c_outcome c_row) H → va_D A (w_X5_hearAll E a_ a_row a_partners a_share a_leftOver c_askedCount c_outcome c_row) → va_S A s.heap H locs → lv_has ls 2 [(0, .ref a_)] → W p l e ({ frames := 2, cells := 0, slots := 0, locals := 52 } : Room) s m #[Value.ref a_] below meth c H locs 0 0 Q (F0 m 41 ls [.int k0]) := by
  unfold J_X5_hearAll_41 at hF
  intro H locs ls hP hD hS hl
  have h9 := fixPD (ws' := [k_X5 a_ a_row a_partners c_askedCount c_outcome a_share a_leftOver, k_I E a_row 81 c_row]) hP hD rfl
  clear hP hD
  obtain ⟨hP, hD⟩ := h9
  refine lv_istore_n (lv' := [(1, .int k0), (0, .ref a_)]) hx hb (dq_60 0 bcX5_hearAll_0 (j := 41) rfl rfl) rfl hl (by decide) rfl (fun ls hl => ?_)
  refine lv_iload_n hx hb (dq_27 0 bcX5_hearAll_0 (j := 42) rfl rfl) rfl (lv_at hl 0 rfl) ?_
  refine lv_aload_n hx hb (dq_42 0 bcX5_hearAll_0 (j := 43) rfl rfl) rfl (lv_at hl 1 rfl) ?_
  refine gt_X5_0 (v := .ref a_row) hx hb hts i_f_X5_hearAll_X5 hown hK hP 0 rfl (hts (.fieldLink RX5 11 "HushWatch$State" "row" "[I") (List.mem_of_getElem? (i := 1) rfl)) rfl (dq_180 0 bcX5_hearAll_0 (j := 44) (i := 11) rfl rfl rfl) ?_
  refine lv_bipush (v := 6) hx hb (dq_16 0 bcX5_hearAll_0 (j := 47) (i := 6) rfl rfl rfl) (by decide) ?_
  refine va_iald hx hb hK hP 1 0 rfl rfl (vin rfl) (dq_46 48 bcX5_hearAll_1 (j := 1) rfl rfl) ?_
  refine W.eq (g2 := F0 m 50 ls [.int (c_row 6), .int k0]) rfl ?_
  refine lv_icmp_eq (tgt := 64) hx hb (dq_159 48 bcX5_hearAll_1 (j := 2) (i := 14) rfl rfl rfl) (by decide) (fun c_8 => ?_) (fun c_8 => ?_)
  ·
    replace hF := ip c_8 hF
    refine lv_aload_n hx hb (dq_42 48 bcX5_hearAll_1 (j := 16) rfl rfl) rfl (lv_at hl 1 rfl) ?_
    refine gt_X5_0 (v := .ref a_row) hx hb hts i_f_X5_hearAll_X5 hown hK hP 0 rfl (hts (.fieldLink RX5 11 "HushWatch$State" "row" "[I") (List.mem_of_getElem? (i := 1) rfl)) rfl (dq_180 48 bcX5_hearAll_1 (j := 17) (i := 11) rfl rfl rfl) ?_
    refine lv_bipush (v := 6) hx hb (dq_16 48 bcX5_hearAll_1 (j := 20) (i := 6) rfl rfl rfl) (by decide) ?_
    refine lv_iload_n hx hb (dq_27 48 bcX5_hearAll_1 (j := 22) rfl rfl) rfl (lv_at hl 0 rfl) ?_
    refine va_iast hx hb hK hP hD hS 1 0 rfl rfl (vin rfl) (dq_79 48 bcX5_hearAll_1 (j := 23) rfl rfl) (fun H locs hP hD hS => ?_)
    have h9 := fixPD (ws' := [k_X5 a_ a_row a_partners c_askedCount c_outcome a_share a_leftOver, k_I E a_row 81 (upd c_row 6 k0)]) hP hD rfl
    clear hP hD
    obtain ⟨hP, hD⟩ := h9
    replace hF := nm_s hF
    obtain ⟨f_9, hf_9, hF⟩ := hF
    rw [← hf_9] at hP hD
    rw [hQ]
    have h9 := fin9 (P := fun u9 : (Nat → Int32) => va_P E.1 vwCl (w_X5_hearAll E a_ a_row a_partners a_share a_leftOver c_askedCount c_outcome u9) H ∧ va_D A (w_X5_hearAll E a_ a_row a_partners a_share a_leftOver c_askedCount c_outcome u9)) hF ⟨hP, hD⟩
    obtain ⟨hP9, hD9⟩ := h9
    exact W.vret hx hb hr (fun tt ht hW => ⟨⟨(), rfl, trivial, ht ▸ hP9, hD9⟩, hS.F ht⟩) hS.2.2 (dq_177 48 bcX5_hearAll_1 (j := 24) rfl rfl)
  ·
    replace hF := inn c_8 hF
    refine lv_aload_n hx hb (dq_42 48 bcX5_hearAll_1 (j := 5) rfl rfl) rfl (lv_at hl 1 rfl) ?_
    refine gt_X5_0 (v := .ref a_row) hx hb hts i_f_X5_hearAll_X5 hown hK hP 0 rfl (hts (.fieldLink RX5 11 "HushWatch$State" "row" "[I") (List.mem_of_getElem? (i := 1) rfl)) rfl (dq_180 48 bcX5_hearAll_1 (j := 6) (i := 11) rfl rfl rfl) ?_
    refine lv_bipush (v := 15) hx hb (dq_16 48 bcX5_hearAll_1 (j := 9) (i := 15) rfl rfl rfl) (by decide) ?_
    refine lv_dup2_11 hx hb (dq_92 48 bcX5_hearAll_1 (j := 11) rfl rfl) rfl rfl ?_
    refine va_iald hx hb hK hP 1 0 rfl rfl (vin rfl) (dq_46 48 bcX5_hearAll_1 (j := 12) rfl rfl) ?_
    refine W.eq (g2 := F0 m 61 ls [.int (c_row 15), .int (15 : Int32), .ref a_row]) rfl ?_
    refine lv_iconst (v := 1) hx hb (dq_4 48 bcX5_hearAll_1 (j := 13) rfl rfl) (by decide) ?_
    refine lv_iadd hx hb (dq_96 48 bcX5_hearAll_1 (j := 14) rfl rfl) ?_
    refine va_iast hx hb hK hP hD hS 1 0 rfl rfl (vin rfl) (dq_79 48 bcX5_hearAll_1 (j := 15) rfl rfl) (fun H locs hP hD hS => ?_)
    have h9 := fixPD (ws' := [k_X5 a_ a_row a_partners c_askedCount c_outcome a_share a_leftOver, k_I E a_row 81 (upd c_row 15 ((c_row 15) + (1 : Int32)))]) hP hD rfl
    clear hP hD
    obtain ⟨hP, hD⟩ := h9
    replace hF := nm_s hF
    obtain ⟨f_10, hf_10, hF⟩ := hF
    rw [← hf_10] at hP hD
    refine lv_aload_n hx hb (dq_42 48 bcX5_hearAll_1 (j := 16) rfl rfl) rfl (lv_at hl 1 rfl) ?_
    refine gt_X5_0 (v := .ref a_row) hx hb hts i_f_X5_hearAll_X5 hown hK hP 0 rfl (hts (.fieldLink RX5 11 "HushWatch$State" "row" "[I") (List.mem_of_getElem? (i := 1) rfl)) rfl (dq_180 48 bcX5_hearAll_1 (j := 17) (i := 11) rfl rfl rfl) ?_
    refine lv_bipush (v := 6) hx hb (dq_16 48 bcX5_hearAll_1 (j := 20) (i := 6) rfl rfl rfl) (by decide) ?_
    refine lv_iload_n hx hb (dq_27 48 bcX5_hearAll_1 (j := 22) rfl rfl) rfl (lv_at hl 0 rfl) ?_
    refine va_iast hx hb hK hP hD hS 1 0 rfl rfl (vin rfl) (dq_79 48 bcX5_hearAll_1 (j := 23) rfl rfl) (fun H locs hP hD hS => ?_)
    have h9 := fixPD (ws' := [k_X5 a_ a_row a_partners c_askedCount c_outcome a_share a_leftOver, k_I E a_row 81 (upd f_10 6 k0)]) hP hD rfl
    clear hP hD
    obtain ⟨hP, hD⟩ := h9
    replace hF := nm_s hF
    obtain ⟨f_11, hf_11, hF⟩ := hF
    rw [← hf_11] at hP hD
    rw [hQ]
    have h9 := fin9 (P := fun u9 : (Nat → Int32) => va_P E.1 vwCl (w_X5_hearAll E a_ a_row a_partners a_share a_leftOver c_askedCount c_outcome u9) H ∧ va_D A (w_X5_hearAll E a_ a_row a_partners a_share a_leftOver c_askedCount c_outcome u9)) hF ⟨hP, hD⟩
    obtain ⟨hP9, hD9⟩ := h9
    exact W.vret hx hb hr (fun tt ht hW => ⟨⟨(), rfl, trivial, ht ▸ hP9, hD9⟩, hS.F ht⟩) hS.2.2 (dq_177 48 bcX5_hearAll_1 (j := 24) rfl rfl)

set_option maxHeartbeats 4000000 in
set_option maxRecDepth 100000 in
theorem f_X5_hearAll (l : Launch) (E : EE) (sz : Nat) (K : Nat) {a_ a_row a_partners a_share a_leftOver : Nat} {c_askedCount : Int32} {c_outcome : Int32} {c_row : Nat → Int32} {n_row : Nat → Int32} (hF : F_X5_hearAll K c_row = some n_row) : Met l yX5_hearAll v_f_X5_hearAll (({ frames := 2, cells := 0, slots := 0, locals := 52 } : Room)) (va_Pc [.ref a_] (pW E sz (w_X5_hearAll E a_ a_row a_partners a_share a_leftOver c_askedCount c_outcome c_row))) (va_Qv (fun (_u : Unit) => True) (fun (_u : Unit) tt => va_P E.1 vwCl (w_X5_hearAll E a_ a_row a_partners a_share a_leftOver c_askedCount c_outcome n_row) tt.heap ∧ va_D (va_A (w_X5_hearAll E a_ a_row a_partners a_share a_leftOver c_askedCount c_outcome c_row) sz) (w_X5_hearAll E a_ a_row a_partners a_share a_leftOver c_askedCount c_outcome n_row)) (va_A (w_X5_hearAll E a_ a_row a_partners a_share a_leftOver c_askedCount c_outcome c_row) sz)) 0 0 (va_A (w_X5_hearAll E a_ a_row a_partners a_share a_leftOver c_askedCount c_outcome c_row) sz) := by
  refine Met.ofW (cc := cX5_hearAll) (maxL := 2) (ret := none) (by decide) rfl ?_
  intro p e s m args below meth c s₁ B hml hv
  obtain ⟨rfl, hsz, ⟨hK, hN⟩, hP, hD0⟩ := hv
  have hx := B.exec
  have hb := B.bytes
  have hr := B.returns
  have hts := atoms_spec (ws := v_f_X5_hearAll) B.pre
  have hown : s.vm.findClass RX5 = some m.cls := own_of hd_X5_hearAll.1 (findClass_of_methodNamed B.named)
  have hlocks : meth.locks = false := B.notSynchronized
  subst hsz
  have hD := hD0.self (sz := s.heap.size)
  generalize hAe : va_A (w_X5_hearAll E a_ a_row a_partners a_share a_leftOver c_askedCount c_outcome c_row) s.heap.size = A at hD ⊢
  have hA : ∀ q : Nat, s.heap.size ≤ q → A q := fun q h => by rw [← hAe]; exact Or.inr h
  have hS : va_S A s.heap s.heap [] := va_S.rf
  have hl := lv_entry ([.ref a_]) (n := 2) (Nat.le_of_ble_eq_true rfl)
  rw [lg_entry_eq]
  generalize (lg_sl ([.ref a_]) ++ List.replicate (2 - (lg_sl ([.ref a_])).length) Slot.unset).toArray = ls at hl ⊢
  have hl : lv_has ls 2 [(0, .ref a_)] := hl
  obtain ⟨Q, hQ⟩ : ∃ Q : State → Prop, Q = MQ below (va_Qv (fun (_u : Unit) => True) (fun (_u : Unit) tt => va_P E.1 vwCl (w_X5_hearAll E a_ a_row a_partners a_share a_leftOver c_askedCount c_outcome n_row) tt.heap ∧ va_D A (w_X5_hearAll E a_ a_row a_partners a_share a_leftOver c_askedCount c_outcome n_row)) A) #[Value.ref a_] s 0 0 A := ⟨_, rfl⟩
  rw [← hQ]
  change W p l e ({ frames := 2, cells := 0, slots := 0, locals := 52 } : Room) s m #[Value.ref a_] below meth c s.heap [] 0 0 Q (F0 m 0 ls [])
  suffices hh9 : ∀ (H : Heap) (locs : List Loc), va_P E.1 vwCl (w_X5_hearAll E a_ a_row a_partners a_share a_leftOver c_askedCount c_outcome c_row) H → va_D A (w_X5_hearAll E a_ a_row a_partners a_share a_leftOver c_askedCount c_outcome c_row) → va_S A s.heap H locs → W p l e ({ frames := 2, cells := 0, slots := 0, locals := 52 } : Room) s m #[Value.ref a_] below meth c H locs 0 0 Q (F0 m 0 ls []) from hh9 s.heap [] hP hD hS
  clear hP hD hS
  intro H locs hP hD hS
  have h9 := fixPD (ws' := [k_X5 a_ a_row a_partners c_askedCount c_outcome a_share a_leftOver, k_I E a_row 81 c_row]) hP hD rfl
  clear hP hD
  obtain ⟨hP, hD⟩ := h9
  unfold F_X5_hearAll at hF
  refine lv_aload_n hx hb (dq_42 0 bcX5_hearAll_0 (j := 0) rfl rfl) rfl (lv_at hl 0 rfl) ?_
  replace hF := bd1_s hF
  obtain ⟨w_1, hc_2, hF⟩ := hF
  obtain ⟨hPc, hDc, hFc⟩ := wcut (wc := (w_X5_hearPlaces E a_ a_row a_partners a_share a_leftOver c_askedCount c_outcome c_row)) hP hD hS hA [0, 1] (by decide) rfl
  have hrc := va_recv hK hPc (ci := 6) (q0 := 0) rfl rfl
  refine cE_v (wc := (w_X5_hearPlaces E a_ a_row a_partners a_share a_leftOver c_askedCount c_outcome c_row)) (wr := []) (w1 := (w_X5_hearPlaces E a_ a_row a_partners a_share a_leftOver c_askedCount c_outcome w_1)) (va_runV (As := []) (rest := [])  ⟨hx, hb, hml, hown, hts⟩ (f_X5_hearPlaces l E H.size K (a_ := a_) (a_row := a_row) (a_partners := a_partners) (a_share := a_share) (a_leftOver := a_leftOver) (c_askedCount := c_askedCount) (c_outcome := c_outcome) (c_row := c_row) hc_2) (cwV 0 hts g_f_X5_hearAll_f_X5_hearPlaces_56 rfl rfl rfl hd_X5_hearPlaces ⟨Nat.le_of_ble_eq_true rfl, Nat.le_of_ble_eq_true rfl⟩) ⟨pW.blind, hrc, (pW.pre ⟨hK, hN⟩ hPc hDc)⟩ rfl rfl hl.1 rfl (lv_room (Nat.le_of_ble_eq_true rfl)) (dq_182 0 bcX5_hearAll_0 (j := 1) (i := 56) rfl rfl rfl) ⟨Nat.le_of_ble_eq_true rfl, Nat.le_of_ble_eq_true rfl⟩) hS hFc hP hD [0, 1] [] rfl rfl (by decide) (by decide) (fun H locs hP hD hS => ?_)
  have h9 := fixPD (ws' := [k_X5 a_ a_row a_partners c_askedCount c_outcome a_share a_leftOver, k_I E a_row 81 w_1]) hP hD rfl
  clear hP hD
  obtain ⟨hP, hD⟩ := h9
  refine lv_aload_n hx hb (dq_42 0 bcX5_hearAll_0 (j := 4) rfl rfl) rfl (lv_at hl 0 rfl) ?_
  refine gt_X5_0 (v := .ref a_row) hx hb hts i_f_X5_hearAll_X5 hown hK hP 0 rfl (hts (.fieldLink RX5 11 "HushWatch$State" "row" "[I") (List.mem_of_getElem? (i := 1) rfl)) rfl (dq_180 0 bcX5_hearAll_0 (j := 5) (i := 11) rfl rfl rfl) ?_
  refine lv_bipush (v := 14) hx hb (dq_16 0 bcX5_hearAll_0 (j := 8) (i := 14) rfl rfl rfl) (by decide) ?_
  refine lv_dup2_11 hx hb (dq_92 0 bcX5_hearAll_0 (j := 10) rfl rfl) rfl rfl ?_
  refine va_iald hx hb hK hP 1 0 rfl rfl (vin rfl) (dq_46 0 bcX5_hearAll_0 (j := 11) rfl rfl) ?_
  refine W.eq (g2 := F0 m 12 ls [.int (w_1 14), .int (14 : Int32), .ref a_row]) rfl ?_
  refine lv_iconst (v := 1) hx hb (dq_4 0 bcX5_hearAll_0 (j := 12) rfl rfl) (by decide) ?_
  refine lv_iadd hx hb (dq_96 0 bcX5_hearAll_0 (j := 13) rfl rfl) ?_
  refine va_iast hx hb hK hP hD hS 1 0 rfl rfl (vin rfl) (dq_79 0 bcX5_hearAll_0 (j := 14) rfl rfl) (fun H locs hP hD hS => ?_)
  have h9 := fixPD (ws' := [k_X5 a_ a_row a_partners c_askedCount c_outcome a_share a_leftOver, k_I E a_row 81 (upd w_1 14 ((w_1 14) + (1 : Int32)))]) hP hD rfl
  clear hP hD
  obtain ⟨hP, hD⟩ := h9
  replace hF := nm_s hF
  obtain ⟨f_3, hf_3, hF⟩ := hF
  rw [← hf_3] at hP hD
  refine lv_aload_n hx hb (dq_42 0 bcX5_hearAll_0 (j := 15) rfl rfl) rfl (lv_at hl 0 rfl) ?_
  refine lv_aload_n hx hb (dq_42 0 bcX5_hearAll_0 (j := 16) rfl rfl) rfl (lv_at hl 0 rfl) ?_
  refine gt_X5_0 (v := .ref a_row) hx hb hts i_f_X5_hearAll_X5 hown hK hP 0 rfl (hts (.fieldLink RX5 11 "HushWatch$State" "row" "[I") (List.mem_of_getElem? (i := 1) rfl)) rfl (dq_180 0 bcX5_hearAll_0 (j := 17) (i := 11) rfl rfl rfl) ?_
  refine lv_iconst (v := 4) hx hb (dq_7 0 bcX5_hearAll_0 (j := 20) rfl rfl) (by decide) ?_
  refine va_iald hx hb hK hP 1 0 rfl rfl (vin rfl) (dq_46 0 bcX5_hearAll_0 (j := 21) rfl rfl) ?_
  refine W.eq (g2 := F0 m 22 ls [.int (f_3 4), .ref a_]) rfl ?_
  refine lv_i2l (v := (f_3 4).toInt64) hx hb (dq_133 0 bcX5_hearAll_0 (j := 22) rfl rfl) rfl ?_
  refine lv_aload_n hx hb (dq_42 0 bcX5_hearAll_0 (j := 23) rfl rfl) rfl (lv_at hl 0 rfl) ?_
  refine gt_X5_0 (v := .ref a_row) hx hb hts i_f_X5_hearAll_X5 hown hK hP 0 rfl (hts (.fieldLink RX5 11 "HushWatch$State" "row" "[I") (List.mem_of_getElem? (i := 1) rfl)) rfl (dq_180 0 bcX5_hearAll_0 (j := 24) (i := 11) rfl rfl rfl) ?_
  refine lv_iconst (v := 5) hx hb (dq_8 0 bcX5_hearAll_0 (j := 27) rfl rfl) (by decide) ?_
  refine va_iald hx hb hK hP 1 0 rfl rfl (vin rfl) (dq_46 0 bcX5_hearAll_0 (j := 28) rfl rfl) ?_
  refine W.eq (g2 := F0 m 29 ls [.int (f_3 5), .long ((f_3 4).toInt64), .ref a_]) rfl ?_
  refine lv_i2l (v := (f_3 5).toInt64) hx hb (dq_133 0 bcX5_hearAll_0 (j := 29) rfl rfl) rfl ?_
  replace hF := bd1_s hF
  obtain ⟨r_4, hc_5, hF⟩ := hF
  have hPc : va_P E.1 vwCl (w_X5_allows E a_ a_row a_partners a_share a_leftOver c_askedCount c_outcome f_3) H := hP.sub (ws' := [k_X5 a_ a_row a_partners c_askedCount c_outcome a_share a_leftOver, k_I E a_row 81 f_3]) [0, 1] rfl
  have hrc := va_recv hK hPc (ci := 6) (q0 := 0) rfl rfl
  refine pE_z (va_runV (As := [.long ((f_3 4).toInt64), .long ((f_3 5).toInt64)]) (rest := [])  ⟨hx, hb, hml, hown, hts⟩ (f_X5_allows l E (a_ := a_) (a_row := a_row) (a_partners := a_partners) (a_share := a_share) (a_leftOver := a_leftOver) (p1 := (f_3 4).toInt64) (p2 := (f_3 5).toInt64) (c_askedCount := c_askedCount) (c_outcome := c_outcome) (c_row := f_3) hc_5) (cwV 2 hts g_f_X5_hearAll_f_X5_allows_59 rfl rfl rfl hd_X5_allows ⟨Nat.le_of_ble_eq_true rfl, Nat.le_of_ble_eq_true rfl⟩) ⟨pP.blind, hrc, (pP.pre ⟨hK, hN⟩ hPc)⟩ rfl rfl hl.1 rfl (lv_room (Nat.le_of_ble_eq_true rfl)) (dq_182 0 bcX5_hearAll_0 (j := 30) (i := 59) rfl rfl rfl) ⟨Nat.le_of_ble_eq_true rfl, Nat.le_of_ble_eq_true rfl⟩) (fun hb_6 => ?_)
  refine lv_if_eq (tgt := 40) hx hb (dq_153 0 bcX5_hearAll_0 (j := 33) (i := 7) rfl rfl rfl) (by decide) (fun c_7 => ?_) (fun c_7 => ?_)
  ·
    replace hF := ip c_7 hF
    refine lv_iconst (v := 1) hx hb (dq_4 0 bcX5_hearAll_0 (j := 40) rfl rfl) (by decide) ?_
    exact j_X5_hearAll_41 l E K (c_askedCount := c_askedCount) (c_outcome := c_outcome) (k0 := (1 : Int32)) (c_row := f_3) hx hb hml hown hts hK hN hA hr hlocks hQ hF H locs ls (hP.sub [0, 1] rfl) (hD.sub [0, 1] (by decide) rfl) hS (lv_sub hl [0] rfl)
  ·
    replace hF := inn c_7 hF
    refine lv_iconst (v := 0) hx hb (dq_3 0 bcX5_hearAll_0 (j := 36) rfl rfl) (by decide) ?_
    refine lv_goto (tgt := 41) hx hb (dq_167 0 bcX5_hearAll_0 (j := 37) (i := 4) rfl rfl rfl) (by decide) ?_
    exact j_X5_hearAll_41 l E K (c_askedCount := c_askedCount) (c_outcome := c_outcome) (k0 := (0 : Int32)) (c_row := f_3) hx hb hml hown hts hK hN hA hr hlocks hQ hF H locs ls (hP.sub [0, 1] rfl) (hD.sub [0, 1] (by decide) rfl) hS (lv_sub hl [0] rfl)
