noncomputable def blX5_allows_0 : List Nat := [42, 31, 33, 182, 0, 75, 42, 180, 0, 11, 4, 46, 133, 148, 156, 0, 7, 4, 167, 0, 4, 3, 172]
set_option maxRecDepth 100000 in
theorem bcX5_allows_0 : ((cX5_allows.data.toList.drop 0).take blX5_allows_0.length).map UInt8.toNat = blX5_allows_0 := by decide +kernel
noncomputable def blX5_aloneToGoal_1 : List Nat := [54, 10, 21, 10, 17, 39, 15, 162, 0, 81, 21, 9, 158, 0, 76, 42, 180, 0, 11, 6, 46, 21, 6, 100, 54, 11, 21, 11, 21, 9, 104, 21, 5, 100, 54, 12, 21, 7, 21, 12, 96, 54, 7, 21, 4, 21, 12, 96, 54, 4, 21]
set_option maxRecDepth 100000 in
theorem bcX5_aloneToGoal_1 : ((cX5_aloneToGoal.data.toList.drop 48).take blX5_aloneToGoal_1.length).map UInt8.toNat = blX5_aloneToGoal_1 := by decide +kernel
noncomputable def blX5_aloneToGoal_2 : List Nat := [54, 4, 21, 8, 21, 11, 5, 42, 180, 0, 11, 6, 46, 104, 96, 96, 54, 8, 21, 4, 62, 3, 54, 5, 3, 54, 6, 42, 29, 182, 0, 182, 54, 9, 132, 10, 1, 167, 255, 173, 42, 180, 0, 11, 5, 46, 29, 100, 3, 184, 0]
set_option maxRecDepth 100000 in
theorem bcX5_aloneToGoal_2 : ((cX5_aloneToGoal.data.toList.drop 96).take blX5_aloneToGoal_2.length).map UInt8.toNat = blX5_aloneToGoal_2 := by decide +kernel
noncomputable def blX5_aloneToGoal_3 : List Nat := [3, 184, 0, 191, 54, 10, 28, 153, 0, 8, 21, 8, 167, 0, 5, 21, 7, 21, 10, 96, 172]
set_option maxRecDepth 100000 in
theorem bcX5_aloneToGoal_3 : ((cX5_aloneToGoal.data.toList.drop 144).take blX5_aloneToGoal_3.length).map UInt8.toNat = blX5_aloneToGoal_3 := by decide +kernel
noncomputable def blX5_aloneToGoal_0 : List Nat := [42, 180, 0, 11, 16, 8, 46, 62, 42, 16, 6, 182, 0, 188, 54, 4, 42, 27, 16, 7, 182, 0, 69, 54, 5, 42, 180, 0, 11, 16, 9, 46, 54, 6, 3, 54, 7, 3, 54, 8, 42, 29, 182, 0, 182, 54, 9, 3, 54, 10, 21]
set_option maxRecDepth 100000 in
theorem bcX5_aloneToGoal_0 : ((cX5_aloneToGoal.data.toList.drop 0).take blX5_aloneToGoal_0.length).map UInt8.toNat = blX5_aloneToGoal_0 := by decide +kernel
noncomputable def blX5_shareOf_0 : List Nat := [28, 155, 0, 8, 28, 4, 164, 0, 5, 3, 172, 27, 42, 180, 0, 28, 28, 46, 162, 0, 14, 42, 180, 0, 25, 28, 46, 4, 96, 167, 0, 9, 42, 180, 0, 25, 28, 46, 172]
set_option maxRecDepth 100000 in
theorem bcX5_shareOf_0 : ((cX5_shareOf.data.toList.drop 0).take blX5_shareOf_0.length).map UInt8.toNat = blX5_shareOf_0 := by decide +kernel
noncomputable def blX5_drift_0 : List Nat := [27, 155, 0, 18, 27, 16, 8, 162, 0, 12, 28, 155, 0, 8, 28, 4, 164, 0, 5, 3, 172, 16, 17, 27, 16, 8, 104, 96, 28, 96, 62, 42, 180, 0, 11, 29, 3, 96, 46, 42, 180, 0, 11, 29, 5, 96, 46, 100, 42, 180, 0]
set_option maxRecDepth 100000 in
theorem bcX5_drift_0 : ((cX5_drift.data.toList.drop 0).take blX5_drift_0.length).map UInt8.toNat = blX5_drift_0 := by decide +kernel
noncomputable def blX5_drift_1 : List Nat := [42, 180, 0, 11, 29, 7, 96, 46, 96, 172]
set_option maxRecDepth 100000 in
theorem bcX5_drift_1 : ((cX5_drift.data.toList.drop 48).take blX5_drift_1.length).map UInt8.toNat = blX5_drift_1 := by decide +kernel
noncomputable def blX5_balance_0 : List Nat := [42, 180, 0, 11, 16, 13, 92, 46, 4, 96, 79, 42, 4, 181, 0, 22, 3, 61, 3, 62, 29, 42, 182, 0, 45, 162, 0, 76, 27, 29, 122, 4, 126, 154, 0, 6, 167, 0, 59, 3, 54, 4, 21, 4, 5, 162, 0, 47, 42, 28, 21]
set_option maxRecDepth 100000 in
theorem bcX5_balance_0 : ((cX5_balance.data.toList.drop 0).take blX5_balance_0.length).map UInt8.toNat = blX5_balance_0 := by decide +kernel
noncomputable def blX5_balance_1 : List Nat := [42, 28, 21, 4, 182, 0, 168, 42, 29, 21, 4, 182, 0, 72, 100, 54, 5, 42, 29, 7, 21, 4, 96, 42, 29, 7, 21, 4, 96, 182, 0, 69, 21, 5, 96, 182, 0, 52, 132, 4, 1, 167, 255, 209, 132, 2, 1, 132, 3, 1, 167]
set_option maxRecDepth 100000 in
theorem bcX5_balance_1 : ((cX5_balance.data.toList.drop 48).take blX5_balance_1.length).map UInt8.toNat = blX5_balance_1 := by decide +kernel
noncomputable def blX5_balance_2 : List Nat := [3, 1, 167, 255, 178, 4, 5, 42, 180, 0, 18, 104, 96, 28, 96, 172]
set_option maxRecDepth 100000 in
theorem bcX5_balance_2 : ((cX5_balance.data.toList.drop 96).take blX5_balance_2.length).map UInt8.toNat = blX5_balance_2 := by decide +kernel
noncomputable def blX5_hearPlaces_0 : List Nat := [42, 180, 0, 11, 7, 3, 79, 42, 180, 0, 11, 8, 3, 79, 3, 60, 27, 42, 182, 0, 45, 162, 0, 77, 42, 27, 5, 42, 27, 3, 182, 0, 69, 182, 0, 52, 42, 27, 6, 42, 27, 4, 182, 0, 69, 182, 0, 52, 42, 27, 7]
set_option maxRecDepth 100000 in
theorem bcX5_hearPlaces_0 : ((cX5_hearPlaces.data.toList.drop 0).take blX5_hearPlaces_0.length).map UInt8.toNat = blX5_hearPlaces_0 := by decide +kernel
noncomputable def blX5_hearPlaces_1 : List Nat := [42, 27, 7, 3, 182, 0, 52, 42, 27, 8, 3, 182, 0, 52, 42, 180, 0, 11, 7, 92, 46, 42, 27, 3, 182, 0, 69, 96, 79, 42, 180, 0, 11, 8, 92, 46, 42, 27, 4, 182, 0, 69, 96, 79, 132, 1, 1, 167, 255, 177, 177]
set_option maxRecDepth 100000 in
theorem bcX5_hearPlaces_1 : ((cX5_hearPlaces.data.toList.drop 48).take blX5_hearPlaces_1.length).map UInt8.toNat = blX5_hearPlaces_1 := by decide +kernel
noncomputable def blX5_hearPlaces_2 : List Nat := [255, 177, 177]
set_option maxRecDepth 100000 in
theorem bcX5_hearPlaces_2 : ((cX5_hearPlaces.data.toList.drop 96).take blX5_hearPlaces_2.length).map UInt8.toNat = blX5_hearPlaces_2 := by decide +kernel

def F_X5_allows (p1 : Int64) (p2 : Int64) (c_row : Nat → Int32) : Option (Int32) :=
  bd1 (F_X5_valueOf p1 p2 c_row) (fun r_1 => if (0 : Int32) ≤ lg_cmp r_1 ((c_row 1).toInt64) then some (0 : Int32) else some (1 : Int32))
abbrev w_X5_allows (E : EE) (a_ a_row a_partners a_share a_leftOver : Nat) (c_askedCount : Int32) (c_outcome : Int32) (c_row : Nat → Int32) : va_W := [k_X5 a_ a_row a_partners c_askedCount c_outcome a_share a_leftOver, k_I E a_row 81 c_row]
def v_f_X5_allows : List Cond := List.cons (.code yX5_allows cX5_allows 5 (some .boolean)) (HAppend.hAppend (α := List Cond) (β := List Cond) (γ := List Cond) [.fieldLink RX5 11 "HushWatch$State" "row" "[I", .methodLink RX5 75 yX5_valueOf, .instanceMethod yX5_valueOf, .selects RX5 yX5_valueOf yX5_valueOf, .initialized RX5] (HAppend.hAppend (α := List Cond) (β := List Cond) (γ := List Cond) v_f_X5_valueOf (HAppend.hAppend (α := List Cond) (β := List Cond) (γ := List Cond) wsX50 [])))
theorem gw_f_X5_allows : v_f_X5_allows.all goodWord = true := gw_c2 (by decide +kernel) (gw_ap gw_f_X5_valueOf (gw_ap gw_wsX50 gw_nil))
theorem i_f_X5_allows_X5 : ∀ w ∈ wsX50, w ∈ v_f_X5_allows := fun _ h => List.mem_cons_of_mem _ (List.mem_append_right _ (List.mem_append_right _ (List.mem_append_left _ h)))
theorem g_f_X5_allows_f_X5_valueOf_75 : GoodIn v_f_X5_allows (wsV RX5 75 RX5 yX5_valueOf v_f_X5_valueOf) := goodIn_in gw_f_X5_allows (in4 2 3 4 5 rfl rfl rfl rfl (fun _ h => List.mem_cons_of_mem _ (List.mem_append_right _ (List.mem_append_left _ h))))
theorem hd_X5_allows : yX5_allows.cls = RX5 ∧ yX5_allows.cls ≠ "java/lang/invoke/MethodHandle" ∧ yX5_allows.cls ≠ "java/lang/invoke/VarHandle" ∧ (parseMethodDescriptor yX5_allows.desc).map (fun d => d.parameters.length) = some 2 := by decide +kernel
set_option maxHeartbeats 4000000 in
set_option maxRecDepth 100000 in
theorem f_X5_allows (l : Launch) (E : EE) {a_ a_row a_partners a_share a_leftOver : Nat} {p1 : Int64} {p2 : Int64} {c_askedCount : Int32} {c_outcome : Int32} {c_row : Nat → Int32} {rr : Int32} (hF : F_X5_allows p1 p2 c_row = some rr) : Met l yX5_allows v_f_X5_allows (({ frames := 1, cells := 0, slots := 0, locals := 28 } : Room)) (va_Pc [.ref a_, .long p1, .long p2] (pP E (w_X5_allows E a_ a_row a_partners a_share a_leftOver c_askedCount c_outcome c_row))) (vp_Si (fun q : Int32 => q = rr ∧ (q = 0 ∨ q = 1))) 0 0 (fun _ => False) := by
  refine Met.ofW (cc := cX5_allows) (maxL := 5) (ret := (some .boolean)) (by decide) rfl ?_
  intro p e s m args below meth c s₁ B hml hv
  obtain ⟨rfl, ⟨hK, hN⟩, hP⟩ := hv
  have hx := B.exec
  have hb := B.bytes
  have hr := B.returns
  have hts := atoms_spec (ws := v_f_X5_allows) B.pre
  have hown : s.vm.findClass RX5 = some m.cls := own_of hd_X5_allows.1 (findClass_of_methodNamed B.named)
  have hlocks : meth.locks = false := B.notSynchronized
  replace hP : va_P E.1 vwCl [k_X5 a_ a_row a_partners c_askedCount c_outcome a_share a_leftOver, k_I E a_row 81 c_row] s.heap := hP
  have hl := lv_entry ([.ref a_, .long p1, .long p2]) (n := 5) (Nat.le_of_ble_eq_true rfl)
  rw [lg_entry_eq]
  generalize (lg_sl ([.ref a_, .long p1, .long p2]) ++ List.replicate (5 - (lg_sl ([.ref a_, .long p1, .long p2])).length) Slot.unset).toArray = ls at hl ⊢
  have hl : lv_has ls 5 [(0, .ref a_), (1, .long p1), (3, .long p2)] := hl
  obtain ⟨Q, hQ⟩ : ∃ Q : State → Prop, Q = MQ below (vp_Si (fun q : Int32 => q = rr ∧ (q = 0 ∨ q = 1))) #[Value.ref a_, Value.long p1, Value.long p2] s 0 0 (fun _ => False) := ⟨_, rfl⟩
  rw [← hQ]
  change W p l e ({ frames := 1, cells := 0, slots := 0, locals := 28 } : Room) s m #[Value.ref a_, Value.long p1, Value.long p2] below meth c s.heap [] 0 0 Q (F0 m 0 ls [])
  unfold F_X5_allows at hF
  refine lv_aload_n hx hb (dq_42 0 bcX5_allows_0 (j := 0) rfl rfl) rfl (lv_at hl 0 rfl) ?_
  refine lv_lload_n hx hb (dq_31 0 bcX5_allows_0 (j := 1) rfl rfl) rfl (lv_at hl 1 rfl) ?_
  refine lv_lload_n hx hb (dq_33 0 bcX5_allows_0 (j := 2) rfl rfl) rfl (lv_at hl 2 rfl) ?_
  replace hF := bd1_s hF
  obtain ⟨r_1, hc_2, hF⟩ := hF
  have hPc : va_P E.1 vwCl (w_X5_valueOf E a_ a_row a_partners a_share a_leftOver c_askedCount c_outcome c_row) s.heap := hP.sub (ws' := [k_X5 a_ a_row a_partners c_askedCount c_outcome a_share a_leftOver, k_I E a_row 81 c_row]) [0, 1] rfl
  have hrc := va_recv hK hPc (ci := 6) (q0 := 0) rfl rfl
  refine pE_l (va_runV (As := [.long p1, .long p2]) (rest := [])  ⟨hx, hb, hml, hown, hts⟩ (f_X5_valueOf l E (a_ := a_) (a_row := a_row) (a_partners := a_partners) (a_share := a_share) (a_leftOver := a_leftOver) (p1 := p1) (p2 := p2) (c_askedCount := c_askedCount) (c_outcome := c_outcome) (c_row := c_row) hc_2) (cwV 2 hts g_f_X5_allows_f_X5_valueOf_75 rfl rfl rfl hd_X5_valueOf ⟨Nat.le_of_ble_eq_true rfl, Nat.le_of_ble_eq_true rfl⟩) ⟨pP.blind, hrc, (pP.pre ⟨hK, hN⟩ hPc)⟩ rfl rfl hl.1 rfl (lv_room (Nat.le_of_ble_eq_true rfl)) (dq_182 0 bcX5_allows_0 (j := 3) (i := 75) rfl rfl rfl) ⟨Nat.le_of_ble_eq_true rfl, Nat.le_of_ble_eq_true rfl⟩) ?_
  refine lv_aload_n hx hb (dq_42 0 bcX5_allows_0 (j := 6) rfl rfl) rfl (lv_at hl 0 rfl) ?_
  refine gt_X5_0 (v := .ref a_row) hx hb hts i_f_X5_allows_X5 hown hK hP 0 rfl (hts (.fieldLink RX5 11 "HushWatch$State" "row" "[I") (List.mem_of_getElem? (i := 1) rfl)) rfl (dq_180 0 bcX5_allows_0 (j := 7) (i := 11) rfl rfl rfl) ?_
  refine lv_iconst (v := 1) hx hb (dq_4 0 bcX5_allows_0 (j := 10) rfl rfl) (by decide) ?_
  refine va_iald hx hb hK hP 1 0 rfl rfl (vin rfl) (dq_46 0 bcX5_allows_0 (j := 11) rfl rfl) ?_
  refine W.eq (g2 := F0 m 12 ls [.int (c_row 1), .long r_1]) rfl ?_
  refine lv_i2l (v := (c_row 1).toInt64) hx hb (dq_133 0 bcX5_allows_0 (j := 12) rfl rfl) rfl ?_
  refine W.lcmp hx hb (dq_148 0 bcX5_allows_0 (j := 13) rfl rfl) ?_
  refine lv_if_ge (tgt := 21) hx hb (dq_156 0 bcX5_allows_0 (j := 14) (i := 7) rfl rfl rfl) (by decide) (fun c_3 => ?_) (fun c_3 => ?_)
  ·
    replace hF := ip c_3 hF
    refine lv_iconst (v := 0) hx hb (dq_3 0 bcX5_allows_0 (j := 21) rfl rfl) (by decide) ?_
    rw [hQ]
    obtain e9_0 := inj1 hF
    exact W.zret (v := (0 : Int32)) hx hb hr rfl (fun tt ht hW => ⟨_, rfl, ⟨e9_0, Or.inl rfl⟩, ht⟩) (fun _ h => by cases h) (dq_172 0 bcX5_allows_0 (j := 22) rfl rfl)
  ·
    replace hF := inn c_3 hF
    refine lv_iconst (v := 1) hx hb (dq_4 0 bcX5_allows_0 (j := 17) rfl rfl) (by decide) ?_
    refine lv_goto (tgt := 22) hx hb (dq_167 0 bcX5_allows_0 (j := 18) (i := 4) rfl rfl rfl) (by decide) ?_
    rw [hQ]
    obtain e9_0 := inj1 hF
    exact W.zret (v := (1 : Int32)) hx hb hr rfl (fun tt ht hW => ⟨_, rfl, ⟨e9_0, Or.inr rfl⟩, ht⟩) (fun _ h => by cases h) (dq_172 0 bcX5_allows_0 (j := 22) rfl rfl)

def B_X5_aloneToGoal_50 (c_row : Nat → Int32) (x3 : Int32) (x4 : Int32) (x5 : Int32) (x6 : Int32) (x7 : Int32) (x8 : Int32) (x9 : Int32) (x10 : Int32) : Option ((Int32 × Int32 × Int32 × Int32 × Int32 × Int32 × Int32 × Int32) ⊕ (Int32 × Int32 × Int32)) :=
  if (9999 : Int32) ≤ x10 then some (.inr (x3, x7, x8)) else if x9 ≤ (0 : Int32) then some (.inr (x3, x7, x8)) else bd1 (F_X5_stepFrom (x4 + ((((c_row 3) - x6) * x9) - x5)) c_row) (fun r_9 => some (.inl (x4 + ((((c_row 3) - x6) * x9) - x5), x4 + ((((c_row 3) - x6) * x9) - x5), (0 : Int32), (0 : Int32), x7 + ((((c_row 3) - x6) * x9) - x5), x8 + (((c_row 3) - x6) + ((2 : Int32) * (c_row 3))), r_9, x10 + (1 : Int32))))
def J_X5_aloneToGoal_136 (p2 : Int32) (c_row : Nat → Int32) (x3 : Int32) (x7 : Int32) (x8 : Int32) : Option (Int32) :=
  if p2 = (0 : Int32) then some (x7 + (maxF ((c_row 2) - x3) (0 : Int32))) else some (x8 + (maxF ((c_row 2) - x3) (0 : Int32)))
def F_X5_aloneToGoal (K : Nat) (p1 : Int32) (p2 : Int32) (c_row : Nat → Int32) : Option (Int32) :=
  bd1 (F_X5_total K (6 : Int32) c_row) (fun r_1 => bd1 (F_X5_of p1 (7 : Int32) c_row) (fun r_3 => bd1 (F_X5_stepFrom (c_row 8) c_row) (fun r_5 => bd3 (lpF (fun u9 : Int32 × Int32 × Int32 × Int32 × Int32 × Int32 × Int32 × Int32 => B_X5_aloneToGoal_50 c_row u9.1 u9.2.1 u9.2.2.1 u9.2.2.2.1 u9.2.2.2.2.1 u9.2.2.2.2.2.1 u9.2.2.2.2.2.2.1 u9.2.2.2.2.2.2.2) K (c_row 8, r_1, r_3, c_row 9, (0 : Int32), (0 : Int32), r_5, (0 : Int32))) (fun x3_11 x7_12 x8_13 => J_X5_aloneToGoal_136 p2 c_row x3_11 x7_12 x8_13))))
abbrev w_X5_aloneToGoal (E : EE) (a_ a_row a_partners a_share a_leftOver : Nat) (c_askedCount : Int32) (c_outcome : Int32) (c_row : Nat → Int32) : va_W := [k_X5 a_ a_row a_partners c_askedCount c_outcome a_share a_leftOver, k_I E a_row 81 c_row]
def v_f_X5_aloneToGoal : List Cond := List.cons (.code yX5_aloneToGoal cX5_aloneToGoal 13 (some .int)) (HAppend.hAppend (α := List Cond) (β := List Cond) (γ := List Cond) [.fieldLink RX5 11 "HushWatch$State" "row" "[I", .methodLink RX5 191 Lib.Math.max.name, .static Lib.Math.max.name, .initialized "java/lang/Math", .code Lib.Math.max.name Lib.Math.max.code 2 (some .int), .methodLink RX5 188 yX5_total, .instanceMethod yX5_total, .selects RX5 yX5_total yX5_total, .initialized RX5, .methodLink RX5 69 yX5_of, .instanceMethod yX5_of, .selects RX5 yX5_of yX5_of, .methodLink RX5 182 yX5_stepFrom, .instanceMethod yX5_stepFrom, .selects RX5 yX5_stepFrom yX5_stepFrom] (HAppend.hAppend (α := List Cond) (β := List Cond) (γ := List Cond) wsX50 (HAppend.hAppend (α := List Cond) (β := List Cond) (γ := List Cond) v_f_X5_total (HAppend.hAppend (α := List Cond) (β := List Cond) (γ := List Cond) v_f_X5_of (HAppend.hAppend (α := List Cond) (β := List Cond) (γ := List Cond) v_f_X5_stepFrom [])))))
theorem gw_f_X5_aloneToGoal : v_f_X5_aloneToGoal.all goodWord = true := gw_c2 (by decide +kernel) (gw_ap gw_wsX50 (gw_ap gw_f_X5_total (gw_ap gw_f_X5_of (gw_ap gw_f_X5_stepFrom gw_nil))))
theorem i_f_X5_aloneToGoal_X5 : ∀ w ∈ wsX50, w ∈ v_f_X5_aloneToGoal := fun _ h => List.mem_cons_of_mem _ (List.mem_append_right _ (List.mem_append_left _ h))
theorem g_f_X5_aloneToGoal_f_X5_total_188 : GoodIn v_f_X5_aloneToGoal (wsV RX5 188 RX5 yX5_total v_f_X5_total) := goodIn_in gw_f_X5_aloneToGoal (in4 6 7 8 9 rfl rfl rfl rfl (fun _ h => List.mem_cons_of_mem _ (List.mem_append_right _ (List.mem_append_right _ (List.mem_append_left _ h)))))
theorem g_f_X5_aloneToGoal_f_X5_of_69 : GoodIn v_f_X5_aloneToGoal (wsV RX5 69 RX5 yX5_of v_f_X5_of) := goodIn_in gw_f_X5_aloneToGoal (in4 10 11 12 9 rfl rfl rfl rfl (fun _ h => List.mem_cons_of_mem _ (List.mem_append_right _ (List.mem_append_right _ (List.mem_append_right _ (List.mem_append_left _ h))))))
theorem g_f_X5_aloneToGoal_f_X5_stepFrom_182 : GoodIn v_f_X5_aloneToGoal (wsV RX5 182 RX5 yX5_stepFrom v_f_X5_stepFrom) := goodIn_in gw_f_X5_aloneToGoal (in4 13 14 15 9 rfl rfl rfl rfl (fun _ h => List.mem_cons_of_mem _ (List.mem_append_right _ (List.mem_append_right _ (List.mem_append_right _ (List.mem_append_right _ (List.mem_append_left _ h)))))))
theorem hd_X5_aloneToGoal : yX5_aloneToGoal.cls = RX5 ∧ yX5_aloneToGoal.cls ≠ "java/lang/invoke/MethodHandle" ∧ yX5_aloneToGoal.cls ≠ "java/lang/invoke/VarHandle" ∧ (parseMethodDescriptor yX5_aloneToGoal.desc).map (fun d => d.parameters.length) = some 2 := by decide +kernel
set_option maxHeartbeats 4000000 in
set_option maxRecDepth 100000 in
theorem wb_X5_aloneToGoal_50 {p : Program} (l : Launch) {e : Env} {s : State} {m : MethodId} {below : List Frame} {meth : Method} {c : Code} {Q : State → Prop} (E : EE) (K : Nat) {a_ a_row a_partners a_share a_leftOver : Nat} {p1 : Int32} {p2 : Int32} {c_askedCount : Int32} {c_outcome : Int32} {c_row : Nat → Int32} {x3 : Int32} {x4 : Int32} {x5 : Int32} {x6 : Int32} {x7 : Int32} {x8 : Int32} {x9 : Int32} {x10 : Int32} (hx : p.tables.exec = Jvm.exec) (hb : c.code = cX5_aloneToGoal) (hml : c.maxLocals = 13) (hown : s.vm.findClass RX5 = some m.cls) (hts : ∀ w ∈ v_f_X5_aloneToGoal, w.before #[Value.ref a_, Value.int p1, Value.int p2] s = true) (hK : va_K E.1 vwCl (TY E) s) (hN : NX s) {xx : (Int32 × Int32 × Int32 × Int32 × Int32 × Int32 × Int32 × Int32) ⊕ (Int32 × Int32 × Int32)} (hC : ∀ (x3 : Int32), ∀ (x4 : Int32), ∀ (x5 : Int32), ∀ (x6 : Int32), ∀ (x7 : Int32), ∀ (x8 : Int32), ∀ (x9 : Int32), ∀ (x10 : Int32), xx = .inl (x3, x4, x5, x6, x7, x8, x9, x10) → ∀ (ls : Array Slot), lv_has ls 13 [(0, .ref a_), (2, .int p2), (3, .int x3), (4, .int x4), (5, .int x5), (6, .int x6), (7, .int x7), (8, .int x8), (9, .int x9), (10, .int x10)] → W p l e ({ frames := 2, cells := 0, slots := 0, locals := 45 } : Room) s m #[Value.ref a_, Value.int p1, Value.int p2] below meth c s.heap [] 0 0 Q (F0 m 50 ls [])) (hE : ∀ (x3 : Int32), ∀ (x7 : Int32), ∀ (x8 : Int32), xx = .inr (x3, x7, x8) → ((∀ (ls : Array Slot), lv_has ls 13 [(0, .ref a_), (2, .int p2), (3, .int x3), (7, .int x7), (8, .int x8)] → W p l e ({ frames := 2, cells := 0, slots := 0, locals := 45 } : Room) s m #[Value.ref a_, Value.int p1, Value.int p2] below meth c s.heap [] 0 0 Q (F0 m 136 ls [])))) (hF : B_X5_aloneToGoal_50 c_row x3 x4 x5 x6 x7 x8 x9 x10 = some xx) (hP : va_P E.1 vwCl (w_X5_aloneToGoal E a_ a_row a_partners a_share a_leftOver c_askedCount c_outcome c_row) s.heap) : ∀ (ls : Array Slot), lv_has ls 13 [(0, .ref a_), (2, .int p2), (3, .int x3), (4, .int x4), (5, .int x5), (6, .int x6), (7, .int x7), (8, .int x8), (9, .int x9), (10, .int x10)] → W p l e ({ frames := 2, cells := 0, slots := 0, locals := 45 } : Room) s m #[Value.ref a_, Value.int p1, Value.int p2] below meth c s.heap [] 0 0 Q (F0 m 50 ls []) := by
  unfold B_X5_aloneToGoal_50 at hF
  replace hP : va_P E.1 vwCl [k_X5 a_ a_row a_partners c_askedCount c_outcome a_share a_leftOver, k_I E a_row 81 c_row] s.heap := hP
  intro ls hl
  refine lv_iload hx hb (dq_21 48 bcX5_aloneToGoal_1 (j := 2) (i := 10) rfl rfl) (lv_at hl 9 rfl) ?_
  refine lv_sipush (v := 9999) hx hb (dq_17 48 bcX5_aloneToGoal_1 (j := 4) (i := 9999) rfl rfl rfl) (by decide) ?_
  refine lv_icmp_ge (tgt := 136) hx hb (dq_162 48 bcX5_aloneToGoal_1 (j := 7) (i := 81) rfl rfl rfl) (by decide) (fun c_7 => ?_) (fun c_7 => ?_)
  ·
    replace hF := ip c_7 hF
    cases hF
    exact hE x3 x7 x8 rfl ls (lv_sub hl [0, 1, 2, 6, 7] rfl)
  ·
    replace hF := inn c_7 hF
    refine lv_iload hx hb (dq_21 48 bcX5_aloneToGoal_1 (j := 10) (i := 9) rfl rfl) (lv_at hl 8 rfl) ?_
    refine lv_if_le (tgt := 136) hx hb (dq_158 48 bcX5_aloneToGoal_1 (j := 12) (i := 76) rfl rfl rfl) (by decide) (fun c_8 => ?_) (fun c_8 => ?_)
    ·
      replace hF := ip c_8 hF
      cases hF
      exact hE x3 x7 x8 rfl ls (lv_sub hl [0, 1, 2, 6, 7] rfl)
    ·
      replace hF := inn c_8 hF
      refine lv_aload_n hx hb (dq_42 48 bcX5_aloneToGoal_1 (j := 15) rfl rfl) rfl (lv_at hl 0 rfl) ?_
      refine gt_X5_0 (v := .ref a_row) hx hb hts i_f_X5_aloneToGoal_X5 hown hK hP 0 rfl (hts (.fieldLink RX5 11 "HushWatch$State" "row" "[I") (List.mem_of_getElem? (i := 1) rfl)) rfl (dq_180 48 bcX5_aloneToGoal_1 (j := 16) (i := 11) rfl rfl rfl) ?_
      refine lv_iconst (v := 3) hx hb (dq_6 48 bcX5_aloneToGoal_1 (j := 19) rfl rfl) (by decide) ?_
      refine va_iald hx hb hK hP 1 0 rfl rfl (vin rfl) (dq_46 48 bcX5_aloneToGoal_1 (j := 20) rfl rfl) ?_
      refine W.eq (g2 := F0 m 69 ls [.int (c_row 3)]) rfl ?_
      refine lv_iload hx hb (dq_21 48 bcX5_aloneToGoal_1 (j := 21) (i := 6) rfl rfl) (lv_at hl 5 rfl) ?_
      refine lv_isub hx hb (dq_100 48 bcX5_aloneToGoal_1 (j := 23) rfl rfl) ?_
      refine lv_istore (lv' := [(11, .int ((c_row 3) - x6)), (0, .ref a_), (2, .int p2), (3, .int x3), (4, .int x4), (5, .int x5), (6, .int x6), (7, .int x7), (8, .int x8), (9, .int x9), (10, .int x10)]) hx hb (dq_54 48 bcX5_aloneToGoal_1 (j := 24) (i := 11) rfl rfl) hl (by decide) rfl (fun ls hl => ?_)
      refine lv_iload hx hb (dq_21 48 bcX5_aloneToGoal_1 (j := 26) (i := 11) rfl rfl) (lv_at hl 0 rfl) ?_
      refine lv_iload hx hb (dq_21 48 bcX5_aloneToGoal_1 (j := 28) (i := 9) rfl rfl) (lv_at hl 9 rfl) ?_
      refine lv_imul hx hb (dq_104 48 bcX5_aloneToGoal_1 (j := 30) rfl rfl) ?_
      refine lv_iload hx hb (dq_21 48 bcX5_aloneToGoal_1 (j := 31) (i := 5) rfl rfl) (lv_at hl 5 rfl) ?_
      refine lv_isub hx hb (dq_100 48 bcX5_aloneToGoal_1 (j := 33) rfl rfl) ?_
      refine lv_istore (lv' := [(12, .int ((((c_row 3) - x6) * x9) - x5)), (11, .int ((c_row 3) - x6)), (0, .ref a_), (2, .int p2), (3, .int x3), (4, .int x4), (5, .int x5), (6, .int x6), (7, .int x7), (8, .int x8), (9, .int x9), (10, .int x10)]) hx hb (dq_54 48 bcX5_aloneToGoal_1 (j := 34) (i := 12) rfl rfl) hl (by decide) rfl (fun ls hl => ?_)
      refine lv_iload hx hb (dq_21 48 bcX5_aloneToGoal_1 (j := 36) (i := 7) rfl rfl) (lv_at hl 8 rfl) ?_
      refine lv_iload hx hb (dq_21 48 bcX5_aloneToGoal_1 (j := 38) (i := 12) rfl rfl) (lv_at hl 0 rfl) ?_
      refine lv_iadd hx hb (dq_96 48 bcX5_aloneToGoal_1 (j := 40) rfl rfl) ?_
      refine lv_istore (lv' := [(7, .int (x7 + ((((c_row 3) - x6) * x9) - x5))), (12, .int ((((c_row 3) - x6) * x9) - x5)), (11, .int ((c_row 3) - x6)), (0, .ref a_), (2, .int p2), (3, .int x3), (4, .int x4), (5, .int x5), (6, .int x6), (8, .int x8), (9, .int x9), (10, .int x10)]) hx hb (dq_54 48 bcX5_aloneToGoal_1 (j := 41) (i := 7) rfl rfl) hl (by decide) rfl (fun ls hl => ?_)
      refine lv_iload hx hb (dq_21 48 bcX5_aloneToGoal_1 (j := 43) (i := 4) rfl rfl) (lv_at hl 6 rfl) ?_
      refine lv_iload hx hb (dq_21 48 bcX5_aloneToGoal_1 (j := 45) (i := 12) rfl rfl) (lv_at hl 1 rfl) ?_
      refine lv_iadd hx hb (dq_96 48 bcX5_aloneToGoal_1 (j := 47) rfl rfl) ?_
      refine lv_istore (lv' := [(4, .int (x4 + ((((c_row 3) - x6) * x9) - x5))), (7, .int (x7 + ((((c_row 3) - x6) * x9) - x5))), (12, .int ((((c_row 3) - x6) * x9) - x5)), (11, .int ((c_row 3) - x6)), (0, .ref a_), (2, .int p2), (3, .int x3), (5, .int x5), (6, .int x6), (8, .int x8), (9, .int x9), (10, .int x10)]) hx hb (dq_54 96 bcX5_aloneToGoal_2 (j := 0) (i := 4) rfl rfl) hl (by decide) rfl (fun ls hl => ?_)
      refine lv_iload hx hb (dq_21 96 bcX5_aloneToGoal_2 (j := 2) (i := 8) rfl rfl) (lv_at hl 9 rfl) ?_
      refine lv_iload hx hb (dq_21 96 bcX5_aloneToGoal_2 (j := 4) (i := 11) rfl rfl) (lv_at hl 3 rfl) ?_
      refine lv_iconst (v := 2) hx hb (dq_5 96 bcX5_aloneToGoal_2 (j := 6) rfl rfl) (by decide) ?_
      refine lv_aload_n hx hb (dq_42 96 bcX5_aloneToGoal_2 (j := 7) rfl rfl) rfl (lv_at hl 4 rfl) ?_
      refine gt_X5_0 (v := .ref a_row) hx hb hts i_f_X5_aloneToGoal_X5 hown hK hP 0 rfl (hts (.fieldLink RX5 11 "HushWatch$State" "row" "[I") (List.mem_of_getElem? (i := 1) rfl)) rfl (dq_180 96 bcX5_aloneToGoal_2 (j := 8) (i := 11) rfl rfl rfl) ?_
      refine lv_iconst (v := 3) hx hb (dq_6 96 bcX5_aloneToGoal_2 (j := 11) rfl rfl) (by decide) ?_
      refine va_iald hx hb hK hP 1 0 rfl rfl (vin rfl) (dq_46 96 bcX5_aloneToGoal_2 (j := 12) rfl rfl) ?_
      refine W.eq (g2 := F0 m 109 ls [.int (c_row 3), .int (2 : Int32), .int ((c_row 3) - x6), .int x8]) rfl ?_
      refine lv_imul hx hb (dq_104 96 bcX5_aloneToGoal_2 (j := 13) rfl rfl) ?_
      refine lv_iadd hx hb (dq_96 96 bcX5_aloneToGoal_2 (j := 14) rfl rfl) ?_
      refine lv_iadd hx hb (dq_96 96 bcX5_aloneToGoal_2 (j := 15) rfl rfl) ?_
      refine lv_istore (lv' := [(8, .int (x8 + (((c_row 3) - x6) + ((2 : Int32) * (c_row 3))))), (4, .int (x4 + ((((c_row 3) - x6) * x9) - x5))), (7, .int (x7 + ((((c_row 3) - x6) * x9) - x5))), (12, .int ((((c_row 3) - x6) * x9) - x5)), (11, .int ((c_row 3) - x6)), (0, .ref a_), (2, .int p2), (3, .int x3), (5, .int x5), (6, .int x6), (9, .int x9), (10, .int x10)]) hx hb (dq_54 96 bcX5_aloneToGoal_2 (j := 16) (i := 8) rfl rfl) hl (by decide) rfl (fun ls hl => ?_)
      refine lv_iload hx hb (dq_21 96 bcX5_aloneToGoal_2 (j := 18) (i := 4) rfl rfl) (lv_at hl 1 rfl) ?_
      refine lv_istore_n (lv' := [(3, .int (x4 + ((((c_row 3) - x6) * x9) - x5))), (8, .int (x8 + (((c_row 3) - x6) + ((2 : Int32) * (c_row 3))))), (4, .int (x4 + ((((c_row 3) - x6) * x9) - x5))), (7, .int (x7 + ((((c_row 3) - x6) * x9) - x5))), (12, .int ((((c_row 3) - x6) * x9) - x5)), (11, .int ((c_row 3) - x6)), (0, .ref a_), (2, .int p2), (5, .int x5), (6, .int x6), (9, .int x9), (10, .int x10)]) hx hb (dq_62 96 bcX5_aloneToGoal_2 (j := 20) rfl rfl) rfl hl (by decide) rfl (fun ls hl => ?_)
      refine lv_iconst (v := 0) hx hb (dq_3 96 bcX5_aloneToGoal_2 (j := 21) rfl rfl) (by decide) ?_
      refine lv_istore (lv' := [(5, .int (0 : Int32)), (3, .int (x4 + ((((c_row 3) - x6) * x9) - x5))), (8, .int (x8 + (((c_row 3) - x6) + ((2 : Int32) * (c_row 3))))), (4, .int (x4 + ((((c_row 3) - x6) * x9) - x5))), (7, .int (x7 + ((((c_row 3) - x6) * x9) - x5))), (12, .int ((((c_row 3) - x6) * x9) - x5)), (11, .int ((c_row 3) - x6)), (0, .ref a_), (2, .int p2), (6, .int x6), (9, .int x9), (10, .int x10)]) hx hb (dq_54 96 bcX5_aloneToGoal_2 (j := 22) (i := 5) rfl rfl) hl (by decide) rfl (fun ls hl => ?_)
      refine lv_iconst (v := 0) hx hb (dq_3 96 bcX5_aloneToGoal_2 (j := 24) rfl rfl) (by decide) ?_
      refine lv_istore (lv' := [(6, .int (0 : Int32)), (5, .int (0 : Int32)), (3, .int (x4 + ((((c_row 3) - x6) * x9) - x5))), (8, .int (x8 + (((c_row 3) - x6) + ((2 : Int32) * (c_row 3))))), (4, .int (x4 + ((((c_row 3) - x6) * x9) - x5))), (7, .int (x7 + ((((c_row 3) - x6) * x9) - x5))), (12, .int ((((c_row 3) - x6) * x9) - x5)), (11, .int ((c_row 3) - x6)), (0, .ref a_), (2, .int p2), (9, .int x9), (10, .int x10)]) hx hb (dq_54 96 bcX5_aloneToGoal_2 (j := 25) (i := 6) rfl rfl) hl (by decide) rfl (fun ls hl => ?_)
      refine lv_aload_n hx hb (dq_42 96 bcX5_aloneToGoal_2 (j := 27) rfl rfl) rfl (lv_at hl 8 rfl) ?_
      refine lv_iload_n hx hb (dq_29 96 bcX5_aloneToGoal_2 (j := 28) rfl rfl) rfl (lv_at hl 2 rfl) ?_
      replace hF := bd1_s hF
      obtain ⟨r_9, hc_10, hF⟩ := hF
      have hPc : va_P E.1 vwCl (w_X5_stepFrom E a_ a_row a_partners a_share a_leftOver c_askedCount c_outcome c_row) s.heap := hP.sub (ws' := [k_X5 a_ a_row a_partners c_askedCount c_outcome a_share a_leftOver, k_I E a_row 81 c_row]) [0, 1] rfl
      have hrc := va_recv hK hPc (ci := 6) (q0 := 0) rfl rfl
      refine pE_i (va_runV (As := [.int (x4 + ((((c_row 3) - x6) * x9) - x5))]) (rest := [])  ⟨hx, hb, hml, hown, hts⟩ (f_X5_stepFrom l E (a_ := a_) (a_row := a_row) (a_partners := a_partners) (a_share := a_share) (a_leftOver := a_leftOver) (p1 := x4 + ((((c_row 3) - x6) * x9) - x5)) (c_askedCount := c_askedCount) (c_outcome := c_outcome) (c_row := c_row) hc_10) (cwV 1 hts g_f_X5_aloneToGoal_f_X5_stepFrom_182 rfl rfl rfl hd_X5_stepFrom ⟨Nat.le_of_ble_eq_true rfl, Nat.le_of_ble_eq_true rfl⟩) ⟨pP.blind, hrc, (pP.pre ⟨hK, hN⟩ hPc)⟩ rfl rfl hl.1 rfl (lv_room (Nat.le_of_ble_eq_true rfl)) (dq_182 96 bcX5_aloneToGoal_2 (j := 29) (i := 182) rfl rfl rfl) ⟨Nat.le_of_ble_eq_true rfl, Nat.le_of_ble_eq_true rfl⟩) ?_
      refine lv_istore (lv' := [(9, .int r_9), (6, .int (0 : Int32)), (5, .int (0 : Int32)), (3, .int (x4 + ((((c_row 3) - x6) * x9) - x5))), (8, .int (x8 + (((c_row 3) - x6) + ((2 : Int32) * (c_row 3))))), (4, .int (x4 + ((((c_row 3) - x6) * x9) - x5))), (7, .int (x7 + ((((c_row 3) - x6) * x9) - x5))), (12, .int ((((c_row 3) - x6) * x9) - x5)), (11, .int ((c_row 3) - x6)), (0, .ref a_), (2, .int p2), (10, .int x10)]) hx hb (dq_54 96 bcX5_aloneToGoal_2 (j := 32) (i := 9) rfl rfl) hl (by decide) rfl (fun ls hl => ?_)
      refine lv_iinc (v := x10 + (1 : Int32)) (lv' := [(10, .int (x10 + (1 : Int32))), (9, .int r_9), (6, .int (0 : Int32)), (5, .int (0 : Int32)), (3, .int (x4 + ((((c_row 3) - x6) * x9) - x5))), (8, .int (x8 + (((c_row 3) - x6) + ((2 : Int32) * (c_row 3))))), (4, .int (x4 + ((((c_row 3) - x6) * x9) - x5))), (7, .int (x7 + ((((c_row 3) - x6) * x9) - x5))), (12, .int ((((c_row 3) - x6) * x9) - x5)), (11, .int ((c_row 3) - x6)), (0, .ref a_), (2, .int p2)]) hx hb (dq_132 96 bcX5_aloneToGoal_2 (j := 34) (i := 1) rfl rfl rfl) hl (k := 11) rfl (rfl) (by decide) rfl (fun ls hl => ?_)
      refine lv_goto (tgt := 50) hx hb (dq_167 96 bcX5_aloneToGoal_2 (j := 37) (i := -83) rfl rfl rfl) (by decide) ?_
      cases hF
      exact hC (x4 + ((((c_row 3) - x6) * x9) - x5)) (x4 + ((((c_row 3) - x6) * x9) - x5)) (0 : Int32) (0 : Int32) (x7 + ((((c_row 3) - x6) * x9) - x5)) (x8 + (((c_row 3) - x6) + ((2 : Int32) * (c_row 3)))) r_9 (x10 + (1 : Int32)) rfl ls (lv_sub hl [10, 11, 4, 6, 3, 2, 7, 5, 1, 0] rfl)

set_option maxHeartbeats 4000000 in
set_option maxRecDepth 100000 in
theorem lw_X5_aloneToGoal_50 {p : Program} (l : Launch) {e : Env} {s : State} {m : MethodId} {below : List Frame} {meth : Method} {c : Code} {Q : State → Prop} (E : EE) (K : Nat) {a_ a_row a_partners a_share a_leftOver : Nat} {p1 : Int32} {p2 : Int32} {c_askedCount : Int32} {c_outcome : Int32} {c_row : Nat → Int32} (hx : p.tables.exec = Jvm.exec) (hb : c.code = cX5_aloneToGoal) (hml : c.maxLocals = 13) (hown : s.vm.findClass RX5 = some m.cls) (hts : ∀ w ∈ v_f_X5_aloneToGoal, w.before #[Value.ref a_, Value.int p1, Value.int p2] s = true) (hK : va_K E.1 vwCl (TY E) s) (hN : NX s) (hP : va_P E.1 vwCl (w_X5_aloneToGoal E a_ a_row a_partners a_share a_leftOver c_askedCount c_outcome c_row) s.heap) (j9 : Nat) (x3 : Int32) (x4 : Int32) (x5 : Int32) (x6 : Int32) (x7 : Int32) (x8 : Int32) (x9 : Int32) (x10 : Int32) (x3' : Int32) (x7' : Int32) (x8' : Int32) (hL : lpF (fun u9 : Int32 × Int32 × Int32 × Int32 × Int32 × Int32 × Int32 × Int32 => B_X5_aloneToGoal_50 c_row u9.1 u9.2.1 u9.2.2.1 u9.2.2.2.1 u9.2.2.2.2.1 u9.2.2.2.2.2.1 u9.2.2.2.2.2.2.1 u9.2.2.2.2.2.2.2) j9 (x3, x4, x5, x6, x7, x8, x9, x10) = some (x3', x7', x8')) (hX : (∀ (ls : Array Slot), lv_has ls 13 [(0, .ref a_), (2, .int p2), (3, .int x3'), (7, .int x7'), (8, .int x8')] → W p l e ({ frames := 2, cells := 0, slots := 0, locals := 45 } : Room) s m #[Value.ref a_, Value.int p1, Value.int p2] below meth c s.heap [] 0 0 Q (F0 m 136 ls []))) : ∀ (ls : Array Slot), lv_has ls 13 [(0, .ref a_), (2, .int p2), (3, .int x3), (4, .int x4), (5, .int x5), (6, .int x6), (7, .int x7), (8, .int x8), (9, .int x9), (10, .int x10)] → W p l e ({ frames := 2, cells := 0, slots := 0, locals := 45 } : Room) s m #[Value.ref a_, Value.int p1, Value.int p2] below meth c s.heap [] 0 0 Q (F0 m 50 ls []) := by
  exact lp_rule (P := (fun u9 : Int32 × Int32 × Int32 × Int32 × Int32 × Int32 × Int32 × Int32 => ∀ (ls : Array Slot), lv_has ls 13 [(0, .ref a_), (2, .int p2), (3, .int u9.1), (4, .int u9.2.1), (5, .int u9.2.2.1), (6, .int u9.2.2.2.1), (7, .int u9.2.2.2.2.1), (8, .int u9.2.2.2.2.2.1), (9, .int u9.2.2.2.2.2.2.1), (10, .int u9.2.2.2.2.2.2.2)] → W p l e ({ frames := 2, cells := 0, slots := 0, locals := 45 } : Room) s m #[Value.ref a_, Value.int p1, Value.int p2] below meth c s.heap [] 0 0 Q (F0 m 50 ls []))) (R := (fun r9 : Int32 × Int32 × Int32 => (∀ (ls : Array Slot), lv_has ls 13 [(0, .ref a_), (2, .int p2), (3, .int r9.1), (7, .int r9.2.1), (8, .int r9.2.2)] → W p l e ({ frames := 2, cells := 0, slots := 0, locals := 45 } : Room) s m #[Value.ref a_, Value.int p1, Value.int p2] below meth c s.heap [] 0 0 Q (F0 m 136 ls [])))) (fun u9 xx hF hC hE => wb_X5_aloneToGoal_50 l E K (p1 := p1) (p2 := p2) (c_askedCount := c_askedCount) (c_outcome := c_outcome) (c_row := c_row) (x3 := u9.1) (x4 := u9.2.1) (x5 := u9.2.2.1) (x6 := u9.2.2.2.1) (x7 := u9.2.2.2.2.1) (x8 := u9.2.2.2.2.2.1) (x9 := u9.2.2.2.2.2.2.1) (x10 := u9.2.2.2.2.2.2.2) hx hb hml hown hts hK hN (fun x3 x4 x5 x6 x7 x8 x9 x10 q9 => hC _ q9) (fun x3 x7 x8 q9 => hE _ q9) hF hP) j9 (x3, x4, x5, x6, x7, x8, x9, x10) (x3', x7', x8') hL hX

set_option maxHeartbeats 4000000 in
set_option maxRecDepth 100000 in
theorem j_X5_aloneToGoal_136 {p : Program} (l : Launch) {e : Env} {s : State} {m : MethodId} {below : List Frame} {meth : Method} {c : Code} {Q : State → Prop} (E : EE) (K : Nat) {a_ a_row a_partners a_share a_leftOver : Nat} {p1 : Int32} {p2 : Int32} {c_askedCount : Int32} {c_outcome : Int32} {c_row : Nat → Int32} {x3 : Int32} {x7 : Int32} {x8 : Int32} (hx : p.tables.exec = Jvm.exec) (hb : c.code = cX5_aloneToGoal) (hml : c.maxLocals = 13) (hown : s.vm.findClass RX5 = some m.cls) (hts : ∀ w ∈ v_f_X5_aloneToGoal, w.before #[Value.ref a_, Value.int p1, Value.int p2] s = true) (hK : va_K E.1 vwCl (TY E) s) (hN : NX s) {rr : Int32} (hr : meth.sig.returnType = (some .int)) (hlocks : meth.locks = false) (hQ : Q = MQ below (vp_Si (fun q : Int32 => q = rr)) #[Value.ref a_, Value.int p1, Value.int p2] s 0 0 (fun _ => False)) (hF : J_X5_aloneToGoal_136 p2 c_row x3 x7 x8 = some rr) (hP : va_P E.1 vwCl (w_X5_aloneToGoal E a_ a_row a_partners a_share a_leftOver c_askedCount c_outcome c_row) s.heap) : ∀ (ls : Array Slot), lv_has ls 13 [(0, .ref a_), (2, .int p2), (3, .int x3), (7, .int x7), (8, .int x8)] → W p l e ({ frames := 2, cells := 0, slots := 0, locals := 45 } : Room) s m #[Value.ref a_, Value.int p1, Value.int p2] below meth c s.heap [] 0 0 Q (F0 m 136 ls []) := by
  unfold J_X5_aloneToGoal_136 at hF
  replace hP : va_P E.1 vwCl [k_X5 a_ a_row a_partners c_askedCount c_outcome a_share a_leftOver, k_I E a_row 81 c_row] s.heap := hP
  intro ls hl
  refine lv_aload_n hx hb (dq_42 96 bcX5_aloneToGoal_2 (j := 40) rfl rfl) rfl (lv_at hl 0 rfl) ?_
  refine gt_X5_0 (v := .ref a_row) hx hb hts i_f_X5_aloneToGoal_X5 hown hK hP 0 rfl (hts (.fieldLink RX5 11 "HushWatch$State" "row" "[I") (List.mem_of_getElem? (i := 1) rfl)) rfl (dq_180 96 bcX5_aloneToGoal_2 (j := 41) (i := 11) rfl rfl rfl) ?_
  refine lv_iconst (v := 2) hx hb (dq_5 96 bcX5_aloneToGoal_2 (j := 44) rfl rfl) (by decide) ?_
  refine va_iald hx hb hK hP 1 0 rfl rfl (vin rfl) (dq_46 96 bcX5_aloneToGoal_2 (j := 45) rfl rfl) ?_
  refine W.eq (g2 := F0 m 142 ls [.int (c_row 2)]) rfl ?_
  refine lv_iload_n hx hb (dq_29 96 bcX5_aloneToGoal_2 (j := 46) rfl rfl) rfl (lv_at hl 2 rfl) ?_
  refine lv_isub hx hb (dq_100 96 bcX5_aloneToGoal_2 (j := 47) rfl rfl) ?_
  refine lv_iconst (v := 0) hx hb (dq_3 144 bcX5_aloneToGoal_3 (j := 0) rfl rfl) (by decide) ?_
  refine va_mmax hx hb (hml.trans hl.1.symm) hown (hts (.methodLink RX5 191 Lib.Math.max.name) (List.mem_of_getElem? (i := 2) rfl)) (hts (.static Lib.Math.max.name) (List.mem_of_getElem? (i := 3) rfl)) (hts (.initialized "java/lang/Math") (List.mem_of_getElem? (i := 4) rfl)) (hts (.code Lib.Math.max.name Lib.Math.max.code 2 (some .int)) (List.mem_of_getElem? (i := 5) rfl)) (Nat.le_of_ble_eq_true rfl) (Nat.le_of_ble_eq_true rfl) (Nat.le_of_ble_eq_true rfl) (Nat.le_of_ble_eq_true rfl) (dq_184 144 bcX5_aloneToGoal_3 (j := 1) (i := 191) rfl rfl rfl) ?_
  refine W.eq (g2 := F0 m 148 ls [.int (maxF ((c_row 2) - x3) (0 : Int32))]) rfl ?_
  refine lv_istore (lv' := [(10, .int (maxF ((c_row 2) - x3) (0 : Int32))), (0, .ref a_), (2, .int p2), (3, .int x3), (7, .int x7), (8, .int x8)]) hx hb (dq_54 144 bcX5_aloneToGoal_3 (j := 4) (i := 10) rfl rfl) hl (by decide) rfl (fun ls hl => ?_)
  refine lv_iload_n hx hb (dq_28 144 bcX5_aloneToGoal_3 (j := 6) rfl rfl) rfl (lv_at hl 2 rfl) ?_
  refine lv_if_eq (tgt := 159) hx hb (dq_153 144 bcX5_aloneToGoal_3 (j := 7) (i := 8) rfl rfl rfl) (by decide) (fun c_15 => ?_) (fun c_15 => ?_)
  ·
    replace hF := ip c_15 hF
    refine lv_iload hx hb (dq_21 144 bcX5_aloneToGoal_3 (j := 15) (i := 7) rfl rfl) (lv_at hl 4 rfl) ?_
    refine lv_iload hx hb (dq_21 144 bcX5_aloneToGoal_3 (j := 17) (i := 10) rfl rfl) (lv_at hl 0 rfl) ?_
    refine lv_iadd hx hb (dq_96 144 bcX5_aloneToGoal_3 (j := 19) rfl rfl) ?_
    rw [hQ]
    obtain e9_0 := inj1 hF
    exact W.iret (v := x7 + (maxF ((c_row 2) - x3) (0 : Int32))) hx hb hr (fun tt ht hW => ⟨_, rfl, e9_0, ht⟩) (fun _ h => by cases h) (dq_172 144 bcX5_aloneToGoal_3 (j := 20) rfl rfl)
  ·
    replace hF := inn c_15 hF
    refine lv_iload hx hb (dq_21 144 bcX5_aloneToGoal_3 (j := 10) (i := 8) rfl rfl) (lv_at hl 5 rfl) ?_
    refine lv_goto (tgt := 161) hx hb (dq_167 144 bcX5_aloneToGoal_3 (j := 12) (i := 5) rfl rfl rfl) (by decide) ?_
    refine lv_iload hx hb (dq_21 144 bcX5_aloneToGoal_3 (j := 17) (i := 10) rfl rfl) (lv_at hl 0 rfl) ?_
    refine lv_iadd hx hb (dq_96 144 bcX5_aloneToGoal_3 (j := 19) rfl rfl) ?_
    rw [hQ]
    obtain e9_0 := inj1 hF
    exact W.iret (v := x8 + (maxF ((c_row 2) - x3) (0 : Int32))) hx hb hr (fun tt ht hW => ⟨_, rfl, e9_0, ht⟩) (fun _ h => by cases h) (dq_172 144 bcX5_aloneToGoal_3 (j := 20) rfl rfl)

set_option maxHeartbeats 4000000 in
set_option maxRecDepth 100000 in
theorem f_X5_aloneToGoal (l : Launch) (E : EE) (K : Nat) {a_ a_row a_partners a_share a_leftOver : Nat} {p1 : Int32} {p2 : Int32} {c_askedCount : Int32} {c_outcome : Int32} {c_row : Nat → Int32} {rr : Int32} (hF : F_X5_aloneToGoal K p1 p2 c_row = some rr) : Met l yX5_aloneToGoal v_f_X5_aloneToGoal (({ frames := 2, cells := 0, slots := 0, locals := 45 } : Room)) (va_Pc [.ref a_, .int p1, .int p2] (pP E (w_X5_aloneToGoal E a_ a_row a_partners a_share a_leftOver c_askedCount c_outcome c_row))) (vp_Si (fun q : Int32 => q = rr)) 0 0 (fun _ => False) := by
  refine Met.ofW (cc := cX5_aloneToGoal) (maxL := 13) (ret := (some .int)) (by decide) rfl ?_
  intro p e s m args below meth c s₁ B hml hv
  obtain ⟨rfl, ⟨hK, hN⟩, hP⟩ := hv
  have hx := B.exec
  have hb := B.bytes
  have hr := B.returns
  have hts := atoms_spec (ws := v_f_X5_aloneToGoal) B.pre
  have hown : s.vm.findClass RX5 = some m.cls := own_of hd_X5_aloneToGoal.1 (findClass_of_methodNamed B.named)
  have hlocks : meth.locks = false := B.notSynchronized
  replace hP : va_P E.1 vwCl [k_X5 a_ a_row a_partners c_askedCount c_outcome a_share a_leftOver, k_I E a_row 81 c_row] s.heap := hP
  have hl := lv_entry ([.ref a_, .int p1, .int p2]) (n := 13) (Nat.le_of_ble_eq_true rfl)
  rw [lg_entry_eq]
  generalize (lg_sl ([.ref a_, .int p1, .int p2]) ++ List.replicate (13 - (lg_sl ([.ref a_, .int p1, .int p2])).length) Slot.unset).toArray = ls at hl ⊢
  have hl : lv_has ls 13 [(0, .ref a_), (1, .int p1), (2, .int p2)] := hl
  obtain ⟨Q, hQ⟩ : ∃ Q : State → Prop, Q = MQ below (vp_Si (fun q : Int32 => q = rr)) #[Value.ref a_, Value.int p1, Value.int p2] s 0 0 (fun _ => False) := ⟨_, rfl⟩
  rw [← hQ]
  change W p l e ({ frames := 2, cells := 0, slots := 0, locals := 45 } : Room) s m #[Value.ref a_, Value.int p1, Value.int p2] below meth c s.heap [] 0 0 Q (F0 m 0 ls [])
  unfold F_X5_aloneToGoal at hF
  refine lv_aload_n hx hb (dq_42 0 bcX5_aloneToGoal_0 (j := 0) rfl rfl) rfl (lv_at hl 0 rfl) ?_
  refine gt_X5_0 (v := .ref a_row) hx hb hts i_f_X5_aloneToGoal_X5 hown hK hP 0 rfl (hts (.fieldLink RX5 11 "HushWatch$State" "row" "[I") (List.mem_of_getElem? (i := 1) rfl)) rfl (dq_180 0 bcX5_aloneToGoal_0 (j := 1) (i := 11) rfl rfl rfl) ?_
  refine lv_bipush (v := 8) hx hb (dq_16 0 bcX5_aloneToGoal_0 (j := 4) (i := 8) rfl rfl rfl) (by decide) ?_
  refine va_iald hx hb hK hP 1 0 rfl rfl (vin rfl) (dq_46 0 bcX5_aloneToGoal_0 (j := 6) rfl rfl) ?_
  refine W.eq (g2 := F0 m 7 ls [.int (c_row 8)]) rfl ?_
  refine lv_istore_n (lv' := [(3, .int (c_row 8)), (0, .ref a_), (1, .int p1), (2, .int p2)]) hx hb (dq_62 0 bcX5_aloneToGoal_0 (j := 7) rfl rfl) rfl hl (by decide) rfl (fun ls hl => ?_)
  refine lv_aload_n hx hb (dq_42 0 bcX5_aloneToGoal_0 (j := 8) rfl rfl) rfl (lv_at hl 1 rfl) ?_
  refine lv_bipush (v := 6) hx hb (dq_16 0 bcX5_aloneToGoal_0 (j := 9) (i := 6) rfl rfl rfl) (by decide) ?_
  replace hF := bd1_s hF
  obtain ⟨r_1, hc_2, hF⟩ := hF
  have hPc : va_P E.1 vwCl (w_X5_total E a_ a_row a_partners a_share a_leftOver c_askedCount c_outcome c_row) s.heap := hP.sub (ws' := [k_X5 a_ a_row a_partners c_askedCount c_outcome a_share a_leftOver, k_I E a_row 81 c_row]) [0, 1] rfl
  have hrc := va_recv hK hPc (ci := 6) (q0 := 0) rfl rfl
  refine pE_i (va_runV (As := [.int (6 : Int32)]) (rest := [])  ⟨hx, hb, hml, hown, hts⟩ (f_X5_total l E K (a_ := a_) (a_row := a_row) (a_partners := a_partners) (a_share := a_share) (a_leftOver := a_leftOver) (p1 := (6 : Int32)) (c_askedCount := c_askedCount) (c_outcome := c_outcome) (c_row := c_row) hc_2) (cwV 1 hts g_f_X5_aloneToGoal_f_X5_total_188 rfl rfl rfl hd_X5_total ⟨Nat.le_of_ble_eq_true rfl, Nat.le_of_ble_eq_true rfl⟩) ⟨pP.blind, hrc, (pP.pre ⟨hK, hN⟩ hPc)⟩ rfl rfl hl.1 rfl (lv_room (Nat.le_of_ble_eq_true rfl)) (dq_182 0 bcX5_aloneToGoal_0 (j := 11) (i := 188) rfl rfl rfl) ⟨Nat.le_of_ble_eq_true rfl, Nat.le_of_ble_eq_true rfl⟩) ?_
  refine lv_istore (lv' := [(4, .int r_1), (3, .int (c_row 8)), (0, .ref a_), (1, .int p1), (2, .int p2)]) hx hb (dq_54 0 bcX5_aloneToGoal_0 (j := 14) (i := 4) rfl rfl) hl (by decide) rfl (fun ls hl => ?_)
  refine lv_aload_n hx hb (dq_42 0 bcX5_aloneToGoal_0 (j := 16) rfl rfl) rfl (lv_at hl 2 rfl) ?_
  refine lv_iload_n hx hb (dq_27 0 bcX5_aloneToGoal_0 (j := 17) rfl rfl) rfl (lv_at hl 3 rfl) ?_
  refine lv_bipush (v := 7) hx hb (dq_16 0 bcX5_aloneToGoal_0 (j := 18) (i := 7) rfl rfl rfl) (by decide) ?_
  replace hF := bd1_s hF
  obtain ⟨r_3, hc_4, hF⟩ := hF
  have hPc : va_P E.1 vwCl (w_X5_of E a_ a_row a_partners a_share a_leftOver c_askedCount c_outcome c_row) s.heap := hP.sub (ws' := [k_X5 a_ a_row a_partners c_askedCount c_outcome a_share a_leftOver, k_I E a_row 81 c_row]) [0, 1] rfl
  have hrc := va_recv hK hPc (ci := 6) (q0 := 0) rfl rfl
  refine pE_i (va_runV (As := [.int p1, .int (7 : Int32)]) (rest := [])  ⟨hx, hb, hml, hown, hts⟩ (f_X5_of l E (a_ := a_) (a_row := a_row) (a_partners := a_partners) (a_share := a_share) (a_leftOver := a_leftOver) (p1 := p1) (p2 := (7 : Int32)) (c_askedCount := c_askedCount) (c_outcome := c_outcome) (c_row := c_row) hc_4) (cwV 2 hts g_f_X5_aloneToGoal_f_X5_of_69 rfl rfl rfl hd_X5_of ⟨Nat.le_of_ble_eq_true rfl, Nat.le_of_ble_eq_true rfl⟩) ⟨pP.blind, hrc, (pP.pre ⟨hK, hN⟩ hPc)⟩ rfl rfl hl.1 rfl (lv_room (Nat.le_of_ble_eq_true rfl)) (dq_182 0 bcX5_aloneToGoal_0 (j := 20) (i := 69) rfl rfl rfl) ⟨Nat.le_of_ble_eq_true rfl, Nat.le_of_ble_eq_true rfl⟩) ?_
  refine lv_istore (lv' := [(5, .int r_3), (4, .int r_1), (3, .int (c_row 8)), (0, .ref a_), (1, .int p1), (2, .int p2)]) hx hb (dq_54 0 bcX5_aloneToGoal_0 (j := 23) (i := 5) rfl rfl) hl (by decide) rfl (fun ls hl => ?_)
  refine lv_aload_n hx hb (dq_42 0 bcX5_aloneToGoal_0 (j := 25) rfl rfl) rfl (lv_at hl 3 rfl) ?_
  refine gt_X5_0 (v := .ref a_row) hx hb hts i_f_X5_aloneToGoal_X5 hown hK hP 0 rfl (hts (.fieldLink RX5 11 "HushWatch$State" "row" "[I") (List.mem_of_getElem? (i := 1) rfl)) rfl (dq_180 0 bcX5_aloneToGoal_0 (j := 26) (i := 11) rfl rfl rfl) ?_
  refine lv_bipush (v := 9) hx hb (dq_16 0 bcX5_aloneToGoal_0 (j := 29) (i := 9) rfl rfl rfl) (by decide) ?_
  refine va_iald hx hb hK hP 1 0 rfl rfl (vin rfl) (dq_46 0 bcX5_aloneToGoal_0 (j := 31) rfl rfl) ?_
  refine W.eq (g2 := F0 m 32 ls [.int (c_row 9)]) rfl ?_
  refine lv_istore (lv' := [(6, .int (c_row 9)), (5, .int r_3), (4, .int r_1), (3, .int (c_row 8)), (0, .ref a_), (1, .int p1), (2, .int p2)]) hx hb (dq_54 0 bcX5_aloneToGoal_0 (j := 32) (i := 6) rfl rfl) hl (by decide) rfl (fun ls hl => ?_)
  refine lv_iconst (v := 0) hx hb (dq_3 0 bcX5_aloneToGoal_0 (j := 34) rfl rfl) (by decide) ?_
  refine lv_istore (lv' := [(7, .int (0 : Int32)), (6, .int (c_row 9)), (5, .int r_3), (4, .int r_1), (3, .int (c_row 8)), (0, .ref a_), (1, .int p1), (2, .int p2)]) hx hb (dq_54 0 bcX5_aloneToGoal_0 (j := 35) (i := 7) rfl rfl) hl (by decide) rfl (fun ls hl => ?_)
  refine lv_iconst (v := 0) hx hb (dq_3 0 bcX5_aloneToGoal_0 (j := 37) rfl rfl) (by decide) ?_
  refine lv_istore (lv' := [(8, .int (0 : Int32)), (7, .int (0 : Int32)), (6, .int (c_row 9)), (5, .int r_3), (4, .int r_1), (3, .int (c_row 8)), (0, .ref a_), (1, .int p1), (2, .int p2)]) hx hb (dq_54 0 bcX5_aloneToGoal_0 (j := 38) (i := 8) rfl rfl) hl (by decide) rfl (fun ls hl => ?_)
  refine lv_aload_n hx hb (dq_42 0 bcX5_aloneToGoal_0 (j := 40) rfl rfl) rfl (lv_at hl 6 rfl) ?_
  refine lv_iload_n hx hb (dq_29 0 bcX5_aloneToGoal_0 (j := 41) rfl rfl) rfl (lv_at hl 5 rfl) ?_
  replace hF := bd1_s hF
  obtain ⟨r_5, hc_6, hF⟩ := hF
  have hPc : va_P E.1 vwCl (w_X5_stepFrom E a_ a_row a_partners a_share a_leftOver c_askedCount c_outcome c_row) s.heap := hP.sub (ws' := [k_X5 a_ a_row a_partners c_askedCount c_outcome a_share a_leftOver, k_I E a_row 81 c_row]) [0, 1] rfl
  have hrc := va_recv hK hPc (ci := 6) (q0 := 0) rfl rfl
  refine pE_i (va_runV (As := [.int (c_row 8)]) (rest := [])  ⟨hx, hb, hml, hown, hts⟩ (f_X5_stepFrom l E (a_ := a_) (a_row := a_row) (a_partners := a_partners) (a_share := a_share) (a_leftOver := a_leftOver) (p1 := c_row 8) (c_askedCount := c_askedCount) (c_outcome := c_outcome) (c_row := c_row) hc_6) (cwV 1 hts g_f_X5_aloneToGoal_f_X5_stepFrom_182 rfl rfl rfl hd_X5_stepFrom ⟨Nat.le_of_ble_eq_true rfl, Nat.le_of_ble_eq_true rfl⟩) ⟨pP.blind, hrc, (pP.pre ⟨hK, hN⟩ hPc)⟩ rfl rfl hl.1 rfl (lv_room (Nat.le_of_ble_eq_true rfl)) (dq_182 0 bcX5_aloneToGoal_0 (j := 42) (i := 182) rfl rfl rfl) ⟨Nat.le_of_ble_eq_true rfl, Nat.le_of_ble_eq_true rfl⟩) ?_
  refine lv_istore (lv' := [(9, .int r_5), (8, .int (0 : Int32)), (7, .int (0 : Int32)), (6, .int (c_row 9)), (5, .int r_3), (4, .int r_1), (3, .int (c_row 8)), (0, .ref a_), (1, .int p1), (2, .int p2)]) hx hb (dq_54 0 bcX5_aloneToGoal_0 (j := 45) (i := 9) rfl rfl) hl (by decide) rfl (fun ls hl => ?_)
  refine lv_iconst (v := 0) hx hb (dq_3 0 bcX5_aloneToGoal_0 (j := 47) rfl rfl) (by decide) ?_
  refine lv_istore (lv' := [(10, .int (0 : Int32)), (9, .int r_5), (8, .int (0 : Int32)), (7, .int (0 : Int32)), (6, .int (c_row 9)), (5, .int r_3), (4, .int r_1), (3, .int (c_row 8)), (0, .ref a_), (1, .int p1), (2, .int p2)]) hx hb (dq_54 48 bcX5_aloneToGoal_1 (j := 0) (i := 10) rfl rfl) hl (by decide) rfl (fun ls hl => ?_)
  replace hF := bd3_s hF
  obtain ⟨x3_11, x7_12, x8_13, hL_14, hF⟩ := hF
  refine lw_X5_aloneToGoal_50 l E K (p1 := p1) (p2 := p2) (c_askedCount := c_askedCount) (c_outcome := c_outcome) (c_row := c_row) hx hb hml hown hts hK hN hP K (c_row 8) r_1 r_3 (c_row 9) (0 : Int32) (0 : Int32) r_5 (0 : Int32) x3_11 x7_12 x8_13 hL_14 ?_ ls (lv_sub hl [8, 10, 7, 6, 5, 4, 3, 2, 1, 0] rfl)
  ·
    intro ls hl
    exact j_X5_aloneToGoal_136 l E K (p1 := p1) (p2 := p2) (c_askedCount := c_askedCount) (c_outcome := c_outcome) (c_row := c_row) (x3 := x3_11) (x7 := x7_12) (x8 := x8_13) hx hb hml hown hts hK hN hr hlocks hQ hF hP ls (lv_sub hl [0, 1, 2, 3, 4] rfl)

def F_X5_shareOf (p1 : Int32) (p2 : Int32) (c_share : Nat → Int32) (c_leftOver : Nat → Int32) : Option (Int32) :=
  if p2 < (0 : Int32) then some (0 : Int32) else if p2 ≤ (1 : Int32) then ixF p2 2 (if c_leftOver p2.toNatClampNeg ≤ p1 then ixF p2 2 (some (c_share p2.toNatClampNeg)) else ixF p2 2 (some ((c_share p2.toNatClampNeg) + (1 : Int32)))) else some (0 : Int32)
abbrev w_X5_shareOf (E : EE) (a_ a_row a_partners a_share a_leftOver : Nat) (c_askedCount : Int32) (c_outcome : Int32) (c_share : Nat → Int32) (c_leftOver : Nat → Int32) : va_W := [k_X5 a_ a_row a_partners c_askedCount c_outcome a_share a_leftOver, k_I E a_share 2 c_share, k_I E a_leftOver 2 c_leftOver]
def v_f_X5_shareOf : List Cond := List.cons (.code yX5_shareOf cX5_shareOf 3 (some .int)) (HAppend.hAppend (α := List Cond) (β := List Cond) (γ := List Cond) [.fieldLink RX5 28 "HushWatch$State" "leftOver" "[I", .fieldLink RX5 25 "HushWatch$State" "share" "[I"] (HAppend.hAppend (α := List Cond) (β := List Cond) (γ := List Cond) wsX50 []))
theorem gw_f_X5_shareOf : v_f_X5_shareOf.all goodWord = true := gw_c2 (by decide +kernel) (gw_ap gw_wsX50 gw_nil)
theorem i_f_X5_shareOf_X5 : ∀ w ∈ wsX50, w ∈ v_f_X5_shareOf := fun _ h => List.mem_cons_of_mem _ (List.mem_append_right _ (List.mem_append_left _ h))
theorem hd_X5_shareOf : yX5_shareOf.cls = RX5 ∧ yX5_shareOf.cls ≠ "java/lang/invoke/MethodHandle" ∧ yX5_shareOf.cls ≠ "java/lang/invoke/VarHandle" ∧ (parseMethodDescriptor yX5_shareOf.desc).map (fun d => d.parameters.length) = some 2 := by decide +kernel
set_option maxHeartbeats 4000000 in
set_option maxRecDepth 100000 in
theorem f_X5_shareOf (l : Launch) (E : EE) {a_ a_row a_partners a_share a_leftOver : Nat} {p1 : Int32} {p2 : Int32} {c_askedCount : Int32} {c_outcome : Int32} {c_share : Nat → Int32} {c_leftOver : Nat → Int32} {rr : Int32} (hF : F_X5_shareOf p1 p2 c_share c_leftOver = some rr) : Met l yX5_shareOf v_f_X5_shareOf (({ frames := 0, cells := 0, slots := 0, locals := 0 } : Room)) (va_Pc [.ref a_, .int p1, .int p2] (pP E (w_X5_shareOf E a_ a_row a_partners a_share a_leftOver c_askedCount c_outcome c_share c_leftOver))) (vp_Si (fun q : Int32 => q = rr)) 0 0 (fun _ => False) := by
  refine Met.ofW (cc := cX5_shareOf) (maxL := 3) (ret := (some .int)) (by decide) rfl ?_
  intro p e s m args below meth c s₁ B hml hv
  obtain ⟨rfl, ⟨hK, hN⟩, hP⟩ := hv
  have hx := B.exec
  have hb := B.bytes
  have hr := B.returns
  have hts := atoms_spec (ws := v_f_X5_shareOf) B.pre
  have hown : s.vm.findClass RX5 = some m.cls := own_of hd_X5_shareOf.1 (findClass_of_methodNamed B.named)
  have hlocks : meth.locks = false := B.notSynchronized
  replace hP : va_P E.1 vwCl [k_X5 a_ a_row a_partners c_askedCount c_outcome a_share a_leftOver, k_I E a_share 2 c_share, k_I E a_leftOver 2 c_leftOver] s.heap := hP
  have hl := lv_entry ([.ref a_, .int p1, .int p2]) (n := 3) (Nat.le_of_ble_eq_true rfl)
  rw [lg_entry_eq]
  generalize (lg_sl ([.ref a_, .int p1, .int p2]) ++ List.replicate (3 - (lg_sl ([.ref a_, .int p1, .int p2])).length) Slot.unset).toArray = ls at hl ⊢
  have hl : lv_has ls 3 [(0, .ref a_), (1, .int p1), (2, .int p2)] := hl
  obtain ⟨Q, hQ⟩ : ∃ Q : State → Prop, Q = MQ below (vp_Si (fun q : Int32 => q = rr)) #[Value.ref a_, Value.int p1, Value.int p2] s 0 0 (fun _ => False) := ⟨_, rfl⟩
  rw [← hQ]
  change W p l e ({ frames := 0, cells := 0, slots := 0, locals := 0 } : Room) s m #[Value.ref a_, Value.int p1, Value.int p2] below meth c s.heap [] 0 0 Q (F0 m 0 ls [])
  unfold F_X5_shareOf at hF
  refine lv_iload_n hx hb (dq_28 0 bcX5_shareOf_0 (j := 0) rfl rfl) rfl (lv_at hl 2 rfl) ?_
  refine lv_if_lt (tgt := 9) hx hb (dq_155 0 bcX5_shareOf_0 (j := 1) (i := 8) rfl rfl rfl) (by decide) (fun c_1 => ?_) (fun c_1 => ?_)
  ·
    replace hF := ip c_1 hF
    refine lv_iconst (v := 0) hx hb (dq_3 0 bcX5_shareOf_0 (j := 9) rfl rfl) (by decide) ?_
    rw [hQ]
    obtain e9_0 := inj1 hF
    exact W.iret (v := (0 : Int32)) hx hb hr (fun tt ht hW => ⟨_, rfl, e9_0, ht⟩) (fun _ h => by cases h) (dq_172 0 bcX5_shareOf_0 (j := 10) rfl rfl)
  ·
    replace hF := inn c_1 hF
    refine lv_iload_n hx hb (dq_28 0 bcX5_shareOf_0 (j := 4) rfl rfl) rfl (lv_at hl 2 rfl) ?_
    refine lv_iconst (v := 1) hx hb (dq_4 0 bcX5_shareOf_0 (j := 5) rfl rfl) (by decide) ?_
    refine lv_icmp_le (tgt := 11) hx hb (dq_164 0 bcX5_shareOf_0 (j := 6) (i := 5) rfl rfl rfl) (by decide) (fun c_2 => ?_) (fun c_2 => ?_)
    ·
      replace hF := ip c_2 hF
      refine lv_iload_n hx hb (dq_27 0 bcX5_shareOf_0 (j := 11) rfl rfl) rfl (lv_at hl 1 rfl) ?_
      refine lv_aload_n hx hb (dq_42 0 bcX5_shareOf_0 (j := 12) rfl rfl) rfl (lv_at hl 0 rfl) ?_
      refine gt_X5_5 (v := .ref a_leftOver) hx hb hts i_f_X5_shareOf_X5 hown hK hP 0 rfl (hts (.fieldLink RX5 28 "HushWatch$State" "leftOver" "[I") (List.mem_of_getElem? (i := 1) rfl)) rfl (dq_180 0 bcX5_shareOf_0 (j := 13) (i := 28) rfl rfl rfl) ?_
      refine lv_iload_n hx hb (dq_28 0 bcX5_shareOf_0 (j := 16) rfl rfl) rfl (lv_at hl 2 rfl) ?_
      replace hF := ix_s hF
      obtain ⟨hi_3, hF⟩ := hF
      refine va_iald hx hb hK hP 2 0 rfl rfl hi_3 (dq_46 0 bcX5_shareOf_0 (j := 17) rfl rfl) ?_
      refine lv_icmp_ge (tgt := 32) hx hb (dq_162 0 bcX5_shareOf_0 (j := 18) (i := 14) rfl rfl rfl) (by decide) (fun c_4 => ?_) (fun c_4 => ?_)
      ·
        replace hF := ip c_4 hF
        refine lv_aload_n hx hb (dq_42 0 bcX5_shareOf_0 (j := 32) rfl rfl) rfl (lv_at hl 0 rfl) ?_
        refine gt_X5_4 (v := .ref a_share) hx hb hts i_f_X5_shareOf_X5 hown hK hP 0 rfl (hts (.fieldLink RX5 25 "HushWatch$State" "share" "[I") (List.mem_of_getElem? (i := 2) rfl)) rfl (dq_180 0 bcX5_shareOf_0 (j := 33) (i := 25) rfl rfl rfl) ?_
        refine lv_iload_n hx hb (dq_28 0 bcX5_shareOf_0 (j := 36) rfl rfl) rfl (lv_at hl 2 rfl) ?_
        replace hF := ix_s hF
        obtain ⟨hi_5, hF⟩ := hF
        refine va_iald hx hb hK hP 1 0 rfl rfl hi_5 (dq_46 0 bcX5_shareOf_0 (j := 37) rfl rfl) ?_
        rw [hQ]
        obtain e9_0 := inj1 hF
        exact W.iret (v := c_share p2.toNatClampNeg) hx hb hr (fun tt ht hW => ⟨_, rfl, e9_0, ht⟩) (fun _ h => by cases h) (dq_172 0 bcX5_shareOf_0 (j := 38) rfl rfl)
      ·
        replace hF := inn c_4 hF
        refine lv_aload_n hx hb (dq_42 0 bcX5_shareOf_0 (j := 21) rfl rfl) rfl (lv_at hl 0 rfl) ?_
        refine gt_X5_4 (v := .ref a_share) hx hb hts i_f_X5_shareOf_X5 hown hK hP 0 rfl (hts (.fieldLink RX5 25 "HushWatch$State" "share" "[I") (List.mem_of_getElem? (i := 2) rfl)) rfl (dq_180 0 bcX5_shareOf_0 (j := 22) (i := 25) rfl rfl rfl) ?_
        refine lv_iload_n hx hb (dq_28 0 bcX5_shareOf_0 (j := 25) rfl rfl) rfl (lv_at hl 2 rfl) ?_
        replace hF := ix_s hF
        obtain ⟨hi_6, hF⟩ := hF
        refine va_iald hx hb hK hP 1 0 rfl rfl hi_6 (dq_46 0 bcX5_shareOf_0 (j := 26) rfl rfl) ?_
        refine lv_iconst (v := 1) hx hb (dq_4 0 bcX5_shareOf_0 (j := 27) rfl rfl) (by decide) ?_
        refine lv_iadd hx hb (dq_96 0 bcX5_shareOf_0 (j := 28) rfl rfl) ?_
        refine lv_goto (tgt := 38) hx hb (dq_167 0 bcX5_shareOf_0 (j := 29) (i := 9) rfl rfl rfl) (by decide) ?_
        rw [hQ]
        obtain e9_0 := inj1 hF
        exact W.iret (v := (c_share p2.toNatClampNeg) + (1 : Int32)) hx hb hr (fun tt ht hW => ⟨_, rfl, e9_0, ht⟩) (fun _ h => by cases h) (dq_172 0 bcX5_shareOf_0 (j := 38) rfl rfl)
    ·
      replace hF := inn c_2 hF
      refine lv_iconst (v := 0) hx hb (dq_3 0 bcX5_shareOf_0 (j := 9) rfl rfl) (by decide) ?_
      rw [hQ]
      obtain e9_0 := inj1 hF
      exact W.iret (v := (0 : Int32)) hx hb hr (fun tt ht hW => ⟨_, rfl, e9_0, ht⟩) (fun _ h => by cases h) (dq_172 0 bcX5_shareOf_0 (j := 10) rfl rfl)

def F_X5_drift (p1 : Int32) (p2 : Int32) (c_row : Nat → Int32) : Option (Int32) :=
  if p1 < (0 : Int32) then some (0 : Int32) else if (8 : Int32) ≤ p1 then some (0 : Int32) else if p2 < (0 : Int32) then some (0 : Int32) else if p2 ≤ (1 : Int32) then ixF ((((17 : Int32) + (p1 * (8 : Int32))) + p2) + (0 : Int32)) 81 (ixF ((((17 : Int32) + (p1 * (8 : Int32))) + p2) + (2 : Int32)) 81 (ixF ((((17 : Int32) + (p1 * (8 : Int32))) + p2) + (4 : Int32)) 81 (some (((c_row ((((17 : Int32) + (p1 * (8 : Int32))) + p2) + (0 : Int32)).toNatClampNeg) - (c_row ((((17 : Int32) + (p1 * (8 : Int32))) + p2) + (2 : Int32)).toNatClampNeg)) + (c_row ((((17 : Int32) + (p1 * (8 : Int32))) + p2) + (4 : Int32)).toNatClampNeg))))) else some (0 : Int32)
abbrev w_X5_drift (E : EE) (a_ a_row a_partners a_share a_leftOver : Nat) (c_askedCount : Int32) (c_outcome : Int32) (c_row : Nat → Int32) : va_W := [k_X5 a_ a_row a_partners c_askedCount c_outcome a_share a_leftOver, k_I E a_row 81 c_row]
def v_f_X5_drift : List Cond := List.cons (.code yX5_drift cX5_drift 4 (some .int)) (HAppend.hAppend (α := List Cond) (β := List Cond) (γ := List Cond) [.fieldLink RX5 11 "HushWatch$State" "row" "[I"] (HAppend.hAppend (α := List Cond) (β := List Cond) (γ := List Cond) wsX50 []))
theorem gw_f_X5_drift : v_f_X5_drift.all goodWord = true := gw_c2 (by decide +kernel) (gw_ap gw_wsX50 gw_nil)
theorem i_f_X5_drift_X5 : ∀ w ∈ wsX50, w ∈ v_f_X5_drift := fun _ h => List.mem_cons_of_mem _ (List.mem_append_right _ (List.mem_append_left _ h))
theorem hd_X5_drift : yX5_drift.cls = RX5 ∧ yX5_drift.cls ≠ "java/lang/invoke/MethodHandle" ∧ yX5_drift.cls ≠ "java/lang/invoke/VarHandle" ∧ (parseMethodDescriptor yX5_drift.desc).map (fun d => d.parameters.length) = some 2 := by decide +kernel
set_option maxHeartbeats 4000000 in
set_option maxRecDepth 100000 in
theorem f_X5_drift (l : Launch) (E : EE) {a_ a_row a_partners a_share a_leftOver : Nat} {p1 : Int32} {p2 : Int32} {c_askedCount : Int32} {c_outcome : Int32} {c_row : Nat → Int32} {rr : Int32} (hF : F_X5_drift p1 p2 c_row = some rr) : Met l yX5_drift v_f_X5_drift (({ frames := 0, cells := 0, slots := 0, locals := 0 } : Room)) (va_Pc [.ref a_, .int p1, .int p2] (pP E (w_X5_drift E a_ a_row a_partners a_share a_leftOver c_askedCount c_outcome c_row))) (vp_Si (fun q : Int32 => q = rr)) 0 0 (fun _ => False) := by
  refine Met.ofW (cc := cX5_drift) (maxL := 4) (ret := (some .int)) (by decide) rfl ?_
  intro p e s m args below meth c s₁ B hml hv
  obtain ⟨rfl, ⟨hK, hN⟩, hP⟩ := hv
  have hx := B.exec
  have hb := B.bytes
  have hr := B.returns
  have hts := atoms_spec (ws := v_f_X5_drift) B.pre
  have hown : s.vm.findClass RX5 = some m.cls := own_of hd_X5_drift.1 (findClass_of_methodNamed B.named)
  have hlocks : meth.locks = false := B.notSynchronized
  replace hP : va_P E.1 vwCl [k_X5 a_ a_row a_partners c_askedCount c_outcome a_share a_leftOver, k_I E a_row 81 c_row] s.heap := hP
  have hl := lv_entry ([.ref a_, .int p1, .int p2]) (n := 4) (Nat.le_of_ble_eq_true rfl)
  rw [lg_entry_eq]
  generalize (lg_sl ([.ref a_, .int p1, .int p2]) ++ List.replicate (4 - (lg_sl ([.ref a_, .int p1, .int p2])).length) Slot.unset).toArray = ls at hl ⊢
  have hl : lv_has ls 4 [(0, .ref a_), (1, .int p1), (2, .int p2)] := hl
  obtain ⟨Q, hQ⟩ : ∃ Q : State → Prop, Q = MQ below (vp_Si (fun q : Int32 => q = rr)) #[Value.ref a_, Value.int p1, Value.int p2] s 0 0 (fun _ => False) := ⟨_, rfl⟩
  rw [← hQ]
  change W p l e ({ frames := 0, cells := 0, slots := 0, locals := 0 } : Room) s m #[Value.ref a_, Value.int p1, Value.int p2] below meth c s.heap [] 0 0 Q (F0 m 0 ls [])
  unfold F_X5_drift at hF
  refine lv_iload_n hx hb (dq_27 0 bcX5_drift_0 (j := 0) rfl rfl) rfl (lv_at hl 1 rfl) ?_
  refine lv_if_lt (tgt := 19) hx hb (dq_155 0 bcX5_drift_0 (j := 1) (i := 18) rfl rfl rfl) (by decide) (fun c_1 => ?_) (fun c_1 => ?_)
  ·
    replace hF := ip c_1 hF
    refine lv_iconst (v := 0) hx hb (dq_3 0 bcX5_drift_0 (j := 19) rfl rfl) (by decide) ?_
    rw [hQ]
    obtain e9_0 := inj1 hF
    exact W.iret (v := (0 : Int32)) hx hb hr (fun tt ht hW => ⟨_, rfl, e9_0, ht⟩) (fun _ h => by cases h) (dq_172 0 bcX5_drift_0 (j := 20) rfl rfl)
  ·
    replace hF := inn c_1 hF
    refine lv_iload_n hx hb (dq_27 0 bcX5_drift_0 (j := 4) rfl rfl) rfl (lv_at hl 1 rfl) ?_
    refine lv_bipush (v := 8) hx hb (dq_16 0 bcX5_drift_0 (j := 5) (i := 8) rfl rfl rfl) (by decide) ?_
    refine lv_icmp_ge (tgt := 19) hx hb (dq_162 0 bcX5_drift_0 (j := 7) (i := 12) rfl rfl rfl) (by decide) (fun c_2 => ?_) (fun c_2 => ?_)
    ·
      replace hF := ip c_2 hF
      refine lv_iconst (v := 0) hx hb (dq_3 0 bcX5_drift_0 (j := 19) rfl rfl) (by decide) ?_
      rw [hQ]
      obtain e9_0 := inj1 hF
      exact W.iret (v := (0 : Int32)) hx hb hr (fun tt ht hW => ⟨_, rfl, e9_0, ht⟩) (fun _ h => by cases h) (dq_172 0 bcX5_drift_0 (j := 20) rfl rfl)
    ·
      replace hF := inn c_2 hF
      refine lv_iload_n hx hb (dq_28 0 bcX5_drift_0 (j := 10) rfl rfl) rfl (lv_at hl 2 rfl) ?_
      refine lv_if_lt (tgt := 19) hx hb (dq_155 0 bcX5_drift_0 (j := 11) (i := 8) rfl rfl rfl) (by decide) (fun c_3 => ?_) (fun c_3 => ?_)
      ·
        replace hF := ip c_3 hF
        refine lv_iconst (v := 0) hx hb (dq_3 0 bcX5_drift_0 (j := 19) rfl rfl) (by decide) ?_
        rw [hQ]
        obtain e9_0 := inj1 hF
        exact W.iret (v := (0 : Int32)) hx hb hr (fun tt ht hW => ⟨_, rfl, e9_0, ht⟩) (fun _ h => by cases h) (dq_172 0 bcX5_drift_0 (j := 20) rfl rfl)
      ·
        replace hF := inn c_3 hF
        refine lv_iload_n hx hb (dq_28 0 bcX5_drift_0 (j := 14) rfl rfl) rfl (lv_at hl 2 rfl) ?_
        refine lv_iconst (v := 1) hx hb (dq_4 0 bcX5_drift_0 (j := 15) rfl rfl) (by decide) ?_
        refine lv_icmp_le (tgt := 21) hx hb (dq_164 0 bcX5_drift_0 (j := 16) (i := 5) rfl rfl rfl) (by decide) (fun c_4 => ?_) (fun c_4 => ?_)
        ·
          replace hF := ip c_4 hF
          refine lv_bipush (v := 17) hx hb (dq_16 0 bcX5_drift_0 (j := 21) (i := 17) rfl rfl rfl) (by decide) ?_
          refine lv_iload_n hx hb (dq_27 0 bcX5_drift_0 (j := 23) rfl rfl) rfl (lv_at hl 1 rfl) ?_
          refine lv_bipush (v := 8) hx hb (dq_16 0 bcX5_drift_0 (j := 24) (i := 8) rfl rfl rfl) (by decide) ?_
          refine lv_imul hx hb (dq_104 0 bcX5_drift_0 (j := 26) rfl rfl) ?_
          refine lv_iadd hx hb (dq_96 0 bcX5_drift_0 (j := 27) rfl rfl) ?_
          refine lv_iload_n hx hb (dq_28 0 bcX5_drift_0 (j := 28) rfl rfl) rfl (lv_at hl 2 rfl) ?_
          refine lv_iadd hx hb (dq_96 0 bcX5_drift_0 (j := 29) rfl rfl) ?_
          refine lv_istore_n (lv' := [(3, .int (((17 : Int32) + (p1 * (8 : Int32))) + p2)), (0, .ref a_), (1, .int p1), (2, .int p2)]) hx hb (dq_62 0 bcX5_drift_0 (j := 30) rfl rfl) rfl hl (by decide) rfl (fun ls hl => ?_)
          refine lv_aload_n hx hb (dq_42 0 bcX5_drift_0 (j := 31) rfl rfl) rfl (lv_at hl 1 rfl) ?_
          refine gt_X5_0 (v := .ref a_row) hx hb hts i_f_X5_drift_X5 hown hK hP 0 rfl (hts (.fieldLink RX5 11 "HushWatch$State" "row" "[I") (List.mem_of_getElem? (i := 1) rfl)) rfl (dq_180 0 bcX5_drift_0 (j := 32) (i := 11) rfl rfl rfl) ?_
          refine lv_iload_n hx hb (dq_29 0 bcX5_drift_0 (j := 35) rfl rfl) rfl (lv_at hl 0 rfl) ?_
          refine lv_iconst (v := 0) hx hb (dq_3 0 bcX5_drift_0 (j := 36) rfl rfl) (by decide) ?_
          refine lv_iadd hx hb (dq_96 0 bcX5_drift_0 (j := 37) rfl rfl) ?_
          replace hF := ix_s hF
          obtain ⟨hi_5, hF⟩ := hF
          refine va_iald hx hb hK hP 1 0 rfl rfl hi_5 (dq_46 0 bcX5_drift_0 (j := 38) rfl rfl) ?_
          refine lv_aload_n hx hb (dq_42 0 bcX5_drift_0 (j := 39) rfl rfl) rfl (lv_at hl 1 rfl) ?_
          refine gt_X5_0 (v := .ref a_row) hx hb hts i_f_X5_drift_X5 hown hK hP 0 rfl (hts (.fieldLink RX5 11 "HushWatch$State" "row" "[I") (List.mem_of_getElem? (i := 1) rfl)) rfl (dq_180 0 bcX5_drift_0 (j := 40) (i := 11) rfl rfl rfl) ?_
          refine lv_iload_n hx hb (dq_29 0 bcX5_drift_0 (j := 43) rfl rfl) rfl (lv_at hl 0 rfl) ?_
          refine lv_iconst (v := 2) hx hb (dq_5 0 bcX5_drift_0 (j := 44) rfl rfl) (by decide) ?_
          refine lv_iadd hx hb (dq_96 0 bcX5_drift_0 (j := 45) rfl rfl) ?_
          replace hF := ix_s hF
          obtain ⟨hi_6, hF⟩ := hF
          refine va_iald hx hb hK hP 1 0 rfl rfl hi_6 (dq_46 0 bcX5_drift_0 (j := 46) rfl rfl) ?_
          refine lv_isub hx hb (dq_100 0 bcX5_drift_0 (j := 47) rfl rfl) ?_
          refine lv_aload_n hx hb (dq_42 48 bcX5_drift_1 (j := 0) rfl rfl) rfl (lv_at hl 1 rfl) ?_
          refine gt_X5_0 (v := .ref a_row) hx hb hts i_f_X5_drift_X5 hown hK hP 0 rfl (hts (.fieldLink RX5 11 "HushWatch$State" "row" "[I") (List.mem_of_getElem? (i := 1) rfl)) rfl (dq_180 48 bcX5_drift_1 (j := 1) (i := 11) rfl rfl rfl) ?_
          refine lv_iload_n hx hb (dq_29 48 bcX5_drift_1 (j := 4) rfl rfl) rfl (lv_at hl 0 rfl) ?_
          refine lv_iconst (v := 4) hx hb (dq_7 48 bcX5_drift_1 (j := 5) rfl rfl) (by decide) ?_
          refine lv_iadd hx hb (dq_96 48 bcX5_drift_1 (j := 6) rfl rfl) ?_
          replace hF := ix_s hF
          obtain ⟨hi_7, hF⟩ := hF
          refine va_iald hx hb hK hP 1 0 rfl rfl hi_7 (dq_46 48 bcX5_drift_1 (j := 7) rfl rfl) ?_
          refine lv_iadd hx hb (dq_96 48 bcX5_drift_1 (j := 8) rfl rfl) ?_
          rw [hQ]
          obtain e9_0 := inj1 hF
          exact W.iret (v := ((c_row ((((17 : Int32) + (p1 * (8 : Int32))) + p2) + (0 : Int32)).toNatClampNeg) - (c_row ((((17 : Int32) + (p1 * (8 : Int32))) + p2) + (2 : Int32)).toNatClampNeg)) + (c_row ((((17 : Int32) + (p1 * (8 : Int32))) + p2) + (4 : Int32)).toNatClampNeg)) hx hb hr (fun tt ht hW => ⟨_, rfl, e9_0, ht⟩) (fun _ h => by cases h) (dq_172 48 bcX5_drift_1 (j := 9) rfl rfl)
        ·
          replace hF := inn c_4 hF
          refine lv_iconst (v := 0) hx hb (dq_3 0 bcX5_drift_0 (j := 19) rfl rfl) (by decide) ?_
          rw [hQ]
          obtain e9_0 := inj1 hF
          exact W.iret (v := (0 : Int32)) hx hb hr (fun tt ht hW => ⟨_, rfl, e9_0, ht⟩) (fun _ h => by cases h) (dq_172 0 bcX5_drift_0 (j := 20) rfl rfl)

def B_X5_balance_42 (c_share : Nat → Int32) (c_leftOver : Nat → Int32) (x2 : Int32) (x3 : Int32) (x4 : Int32) (c_row : Nat → Int32) : Option ((Int32 × (Nat → Int32)) ⊕ ((Nat → Int32))) :=
  if (2 : Int32) ≤ x4 then some (.inr c_row) else bd1 (F_X5_shareOf x2 x4 c_share c_leftOver) (fun r_7 => bd1 (F_X5_drift x3 x4 c_row) (fun r_9 => bd1 (F_X5_of x3 ((4 : Int32) + x4) c_row) (fun r_11 => bd1 (F_X5_put x3 ((4 : Int32) + x4) (r_11 + (r_7 - r_9)) c_row) (fun w_13 => some (.inl (x4 + (1 : Int32), w_13))))))
def B_X5_balance_20 (K : Nat) (p1 : Int32) (c_share : Nat → Int32) (c_leftOver : Nat → Int32) (x2 : Int32) (x3 : Int32) (c_row : Nat → Int32) : Option ((Int32 × Int32 × (Nat → Int32)) ⊕ (Int32 × (Nat → Int32))) :=
  bd1 (F_X5_sites c_row) (fun r_2 => if r_2 ≤ x3 then some (.inr (x2, c_row)) else if (p1 >>> (x3 &&& (31 : Int32))) &&& (1 : Int32) = (0 : Int32) then some (.inl (x2, x3 + (1 : Int32), c_row)) else bd1 (lpF (fun u9 : Int32 × (Nat → Int32) => B_X5_balance_42 c_share c_leftOver x2 x3 u9.1 u9.2) K ((0 : Int32), c_row)) (fun c_row_15 => some (.inl (x2 + (1 : Int32), x3 + (1 : Int32), c_row_15))))
def F_X5_balance (K : Nat) (p1 : Int32) (c_row : Nat → Int32) (c_askedCount : Int32) (c_outcome : Int32) (c_share : Nat → Int32) (c_leftOver : Nat → Int32) : Option (Int32 × (Nat → Int32) × Int32) :=
  nmF (upd c_row 13 ((c_row 13) + (1 : Int32))) (fun f_1 => bd2 (lpF (fun u9 : Int32 × Int32 × (Nat → Int32) => B_X5_balance_20 K p1 c_share c_leftOver u9.1 u9.2.1 u9.2.2) K ((0 : Int32), (0 : Int32), f_1)) (fun x2_17 c_row_18 => some (((1 : Int32) + ((2 : Int32) * c_askedCount)) + x2_17, c_row_18, (1 : Int32))))
abbrev w_X5_balance (E : EE) (a_ a_row a_partners a_share a_leftOver : Nat) (c_askedCount : Int32) (c_outcome : Int32) (c_row : Nat → Int32) (c_share : Nat → Int32) (c_leftOver : Nat → Int32) : va_W := [k_X5 a_ a_row a_partners c_askedCount c_outcome a_share a_leftOver, k_I E a_row 81 c_row, k_I E a_share 2 c_share, k_I E a_leftOver 2 c_leftOver]
def v_f_X5_balance : List Cond := List.cons (.code yX5_balance cX5_balance 6 (some .int)) (HAppend.hAppend (α := List Cond) (β := List Cond) (γ := List Cond) [.fieldLink RX5 11 "HushWatch$State" "row" "[I", .fieldLink RX5 22 "HushWatch$State" "outcome" "I", .fieldLink RX5 18 "HushWatch$State" "askedCount" "I", .methodLink RX5 45 yX5_sites, .instanceMethod yX5_sites, .selects RX5 yX5_sites yX5_sites, .initialized RX5, .methodLink RX5 168 yX5_shareOf, .instanceMethod yX5_shareOf, .selects RX5 yX5_shareOf yX5_shareOf, .methodLink RX5 72 yX5_drift, .instanceMethod yX5_drift, .selects RX5 yX5_drift yX5_drift, .methodLink RX5 69 yX5_of, .instanceMethod yX5_of, .selects RX5 yX5_of yX5_of, .methodLink RX5 52 yX5_put, .instanceMethod yX5_put, .selects RX5 yX5_put yX5_put] (HAppend.hAppend (α := List Cond) (β := List Cond) (γ := List Cond) wsX50 (HAppend.hAppend (α := List Cond) (β := List Cond) (γ := List Cond) v_f_X5_sites (HAppend.hAppend (α := List Cond) (β := List Cond) (γ := List Cond) v_f_X5_shareOf (HAppend.hAppend (α := List Cond) (β := List Cond) (γ := List Cond) v_f_X5_drift (HAppend.hAppend (α := List Cond) (β := List Cond) (γ := List Cond) v_f_X5_of (HAppend.hAppend (α := List Cond) (β := List Cond) (γ := List Cond) v_f_X5_put [])))))))
theorem gw_f_X5_balance : v_f_X5_balance.all goodWord = true := gw_c2 (by decide +kernel) (gw_ap gw_wsX50 (gw_ap gw_f_X5_sites (gw_ap gw_f_X5_shareOf (gw_ap gw_f_X5_drift (gw_ap gw_f_X5_of (gw_ap gw_f_X5_put gw_nil))))))
theorem i_f_X5_balance_X5 : ∀ w ∈ wsX50, w ∈ v_f_X5_balance := fun _ h => List.mem_cons_of_mem _ (List.mem_append_right _ (List.mem_append_left _ h))
theorem g_f_X5_balance_f_X5_sites_45 : GoodIn v_f_X5_balance (wsV RX5 45 RX5 yX5_sites v_f_X5_sites) := goodIn_in gw_f_X5_balance (in4 4 5 6 7 rfl rfl rfl rfl (fun _ h => List.mem_cons_of_mem _ (List.mem_append_right _ (List.mem_append_right _ (List.mem_append_left _ h)))))
theorem g_f_X5_balance_f_X5_shareOf_168 : GoodIn v_f_X5_balance (wsV RX5 168 RX5 yX5_shareOf v_f_X5_shareOf) := goodIn_in gw_f_X5_balance (in4 8 9 10 7 rfl rfl rfl rfl (fun _ h => List.mem_cons_of_mem _ (List.mem_append_right _ (List.mem_append_right _ (List.mem_append_right _ (List.mem_append_left _ h))))))
theorem g_f_X5_balance_f_X5_drift_72 : GoodIn v_f_X5_balance (wsV RX5 72 RX5 yX5_drift v_f_X5_drift) := goodIn_in gw_f_X5_balance (in4 11 12 13 7 rfl rfl rfl rfl (fun _ h => List.mem_cons_of_mem _ (List.mem_append_right _ (List.mem_append_right _ (List.mem_append_right _ (List.mem_append_right _ (List.mem_append_left _ h)))))))
theorem g_f_X5_balance_f_X5_of_69 : GoodIn v_f_X5_balance (wsV RX5 69 RX5 yX5_of v_f_X5_of) := goodIn_in gw_f_X5_balance (in4 14 15 16 7 rfl rfl rfl rfl (fun _ h => List.mem_cons_of_mem _ (List.mem_append_right _ (List.mem_append_right _ (List.mem_append_right _ (List.mem_append_right _ (List.mem_append_right _ (List.mem_append_left _ h))))))))
theorem g_f_X5_balance_f_X5_put_52 : GoodIn v_f_X5_balance (wsV RX5 52 RX5 yX5_put v_f_X5_put) := goodIn_in gw_f_X5_balance (in4 17 18 19 7 rfl rfl rfl rfl (fun _ h => List.mem_cons_of_mem _ (List.mem_append_right _ (List.mem_append_right _ (List.mem_append_right _ (List.mem_append_right _ (List.mem_append_right _ (List.mem_append_right _ (List.mem_append_left _ h)))))))))
theorem hd_X5_balance : yX5_balance.cls = RX5 ∧ yX5_balance.cls ≠ "java/lang/invoke/MethodHandle" ∧ yX5_balance.cls ≠ "java/lang/invoke/VarHandle" ∧ (parseMethodDescriptor yX5_balance.desc).map (fun d => d.parameters.length) = some 1 := by decide +kernel
set_option maxHeartbeats 4000000 in
set_option maxRecDepth 100000 in
theorem wb_X5_balance_42 {p : Program} (l : Launch) {e : Env} {s : State} {m : MethodId} {below : List Frame} {meth : Method} {c : Code} {Q : State → Prop} (E : EE) (K : Nat) {a_ a_row a_partners a_share a_leftOver : Nat} {p1 : Int32} {c_askedCount : Int32} {c_share : Nat → Int32} {c_leftOver : Nat → Int32} {x2 : Int32} {x3 : Int32} {x4 : Int32} {c_row : Nat → Int32} {c_outcome : Int32} (hx : p.tables.exec = Jvm.exec) (hb : c.code = cX5_balance) (hml : c.maxLocals = 6) (hown : s.vm.findClass RX5 = some m.cls) (hts : ∀ w ∈ v_f_X5_balance, w.before #[Value.ref a_, Value.int p1] s = true) (hK : va_K E.1 vwCl (TY E) s) (hN : NX s) {A : Nat → Prop} (hA : ∀ q : Nat, s.heap.size ≤ q → A q) {xx : (Int32 × (Nat → Int32)) ⊕ ((Nat → Int32))} (hC : ∀ (x4 : Int32), ∀ (c_row : Nat → Int32), xx = .inl (x4, c_row) → ∀ (H : Heap) (locs : List Loc) (ls : Array Slot), va_P E.1 vwCl (w_X5_balance E a_ a_row a_partners a_share a_leftOver c_askedCount c_outcome c_row c_share c_leftOver) H → va_D A (w_X5_balance E a_ a_row a_partners a_share a_leftOver c_askedCount c_outcome c_row c_share c_leftOver) → va_S A s.heap H locs → lv_has ls 6 [(0, .ref a_), (1, .int p1), (2, .int x2), (3, .int x3), (4, .int x4)] → W p l e ({ frames := 1, cells := 0, slots := 0, locals := 23 } : Room) s m #[Value.ref a_, Value.int p1] below meth c H locs 0 0 Q (F0 m 42 ls [])) (hE : ∀ (c_row : Nat → Int32), xx = .inr c_row → ((∀ (H : Heap) (locs : List Loc) (ls : Array Slot), va_P E.1 vwCl (w_X5_balance E a_ a_row a_partners a_share a_leftOver c_askedCount c_outcome c_row c_share c_leftOver) H → va_D A (w_X5_balance E a_ a_row a_partners a_share a_leftOver c_askedCount c_outcome c_row c_share c_leftOver) → va_S A s.heap H locs → lv_has ls 6 [(0, .ref a_), (1, .int p1), (2, .int x2), (3, .int x3)] → W p l e ({ frames := 1, cells := 0, slots := 0, locals := 23 } : Room) s m #[Value.ref a_, Value.int p1] below meth c H locs 0 0 Q (F0 m 92 ls [])))) (hF : B_X5_balance_42 c_share c_leftOver x2 x3 x4 c_row = some xx) : ∀ (H : Heap) (locs : List Loc) (ls : Array Slot), va_P E.1 vwCl (w_X5_balance E a_ a_row a_partners a_share a_leftOver c_askedCount c_outcome c_row c_share c_leftOver) H → va_D A (w_X5_balance E a_ a_row a_partners a_share a_leftOver c_askedCount c_outcome c_row c_share c_leftOver) → va_S A s.heap H locs → lv_has ls 6 [(0, .ref a_), (1, .int p1), (2, .int x2), (3, .int x3), (4, .int x4)] → W p l e ({ frames := 1, cells := 0, slots := 0, locals := 23 } : Room) s m #[Value.ref a_, Value.int p1] below meth c H locs 0 0 Q (F0 m 42 ls []) := by
  unfold B_X5_balance_42 at hF
  intro H locs ls hP hD hS hl
  have h9 := fixPD (ws' := [k_X5 a_ a_row a_partners c_askedCount c_outcome a_share a_leftOver, k_I E a_row 81 c_row, k_I E a_share 2 c_share, k_I E a_leftOver 2 c_leftOver]) hP hD rfl
  clear hP hD
  obtain ⟨hP, hD⟩ := h9
  refine lv_iload hx hb (dq_21 0 bcX5_balance_0 (j := 42) (i := 4) rfl rfl) (lv_at hl 4 rfl) ?_
  refine lv_iconst (v := 2) hx hb (dq_5 0 bcX5_balance_0 (j := 44) rfl rfl) (by decide) ?_
  refine lv_icmp_ge (tgt := 92) hx hb (dq_162 0 bcX5_balance_0 (j := 45) (i := 47) rfl rfl rfl) (by decide) (fun c_6 => ?_) (fun c_6 => ?_)
  ·
    replace hF := ip c_6 hF
    cases hF
    exact hE c_row rfl H locs ls (hP.sub [0, 1, 2, 3] rfl) (hD.sub [0, 1, 2, 3] (by decide) rfl) hS (lv_sub hl [0, 1, 2, 3] rfl)
  ·
    replace hF := inn c_6 hF
    refine lv_aload_n hx hb (dq_42 48 bcX5_balance_1 (j := 0) rfl rfl) rfl (lv_at hl 0 rfl) ?_
    refine lv_iload_n hx hb (dq_28 48 bcX5_balance_1 (j := 1) rfl rfl) rfl (lv_at hl 2 rfl) ?_
    refine lv_iload hx hb (dq_21 48 bcX5_balance_1 (j := 2) (i := 4) rfl rfl) (lv_at hl 4 rfl) ?_
    replace hF := bd1_s hF
    obtain ⟨r_7, hc_8, hF⟩ := hF
    have hPc : va_P E.1 vwCl (w_X5_shareOf E a_ a_row a_partners a_share a_leftOver c_askedCount c_outcome c_share c_leftOver) H := hP.sub (ws' := [k_X5 a_ a_row a_partners c_askedCount c_outcome a_share a_leftOver, k_I E a_share 2 c_share, k_I E a_leftOver 2 c_leftOver]) [0, 2, 3] rfl
    have hrc := va_recv hK hPc (ci := 6) (q0 := 0) rfl rfl
    refine pE_i (va_runV (As := [.int x2, .int x4]) (rest := [])  ⟨hx, hb, hml, hown, hts⟩ (f_X5_shareOf l E (a_ := a_) (a_row := a_row) (a_partners := a_partners) (a_share := a_share) (a_leftOver := a_leftOver) (p1 := x2) (p2 := x4) (c_askedCount := c_askedCount) (c_outcome := c_outcome) (c_share := c_share) (c_leftOver := c_leftOver) hc_8) (cwV 2 hts g_f_X5_balance_f_X5_shareOf_168 rfl rfl rfl hd_X5_shareOf ⟨Nat.le_of_ble_eq_true rfl, Nat.le_of_ble_eq_true rfl⟩) ⟨pP.blind, hrc, (pP.pre ⟨hK, hN⟩ hPc)⟩ rfl rfl hl.1 rfl (lv_room (Nat.le_of_ble_eq_true rfl)) (dq_182 48 bcX5_balance_1 (j := 4) (i := 168) rfl rfl rfl) ⟨Nat.le_of_ble_eq_true rfl, Nat.le_of_ble_eq_true rfl⟩) ?_
    refine lv_aload_n hx hb (dq_42 48 bcX5_balance_1 (j := 7) rfl rfl) rfl (lv_at hl 0 rfl) ?_
    refine lv_iload_n hx hb (dq_29 48 bcX5_balance_1 (j := 8) rfl rfl) rfl (lv_at hl 3 rfl) ?_
    refine lv_iload hx hb (dq_21 48 bcX5_balance_1 (j := 9) (i := 4) rfl rfl) (lv_at hl 4 rfl) ?_
    replace hF := bd1_s hF
    obtain ⟨r_9, hc_10, hF⟩ := hF
    have hPc : va_P E.1 vwCl (w_X5_drift E a_ a_row a_partners a_share a_leftOver c_askedCount c_outcome c_row) H := hP.sub (ws' := [k_X5 a_ a_row a_partners c_askedCount c_outcome a_share a_leftOver, k_I E a_row 81 c_row]) [0, 1] rfl
    have hrc := va_recv hK hPc (ci := 6) (q0 := 0) rfl rfl
    refine pE_i (va_runV (As := [.int x3, .int x4]) (rest := [.int r_7])  ⟨hx, hb, hml, hown, hts⟩ (f_X5_drift l E (a_ := a_) (a_row := a_row) (a_partners := a_partners) (a_share := a_share) (a_leftOver := a_leftOver) (p1 := x3) (p2 := x4) (c_askedCount := c_askedCount) (c_outcome := c_outcome) (c_row := c_row) hc_10) (cwV 2 hts g_f_X5_balance_f_X5_drift_72 rfl rfl rfl hd_X5_drift ⟨Nat.le_of_ble_eq_true rfl, Nat.le_of_ble_eq_true rfl⟩) ⟨pP.blind, hrc, (pP.pre ⟨hK, hN⟩ hPc)⟩ rfl rfl hl.1 rfl (lv_room (Nat.le_of_ble_eq_true rfl)) (dq_182 48 bcX5_balance_1 (j := 11) (i := 72) rfl rfl rfl) ⟨Nat.le_of_ble_eq_true rfl, Nat.le_of_ble_eq_true rfl⟩) ?_
    refine lv_isub hx hb (dq_100 48 bcX5_balance_1 (j := 14) rfl rfl) ?_
    refine lv_istore (lv' := [(5, .int (r_7 - r_9)), (0, .ref a_), (1, .int p1), (2, .int x2), (3, .int x3), (4, .int x4)]) hx hb (dq_54 48 bcX5_balance_1 (j := 15) (i := 5) rfl rfl) hl (by decide) rfl (fun ls hl => ?_)
    refine lv_aload_n hx hb (dq_42 48 bcX5_balance_1 (j := 17) rfl rfl) rfl (lv_at hl 1 rfl) ?_
    refine lv_iload_n hx hb (dq_29 48 bcX5_balance_1 (j := 18) rfl rfl) rfl (lv_at hl 4 rfl) ?_
    refine lv_iconst (v := 4) hx hb (dq_7 48 bcX5_balance_1 (j := 19) rfl rfl) (by decide) ?_
    refine lv_iload hx hb (dq_21 48 bcX5_balance_1 (j := 20) (i := 4) rfl rfl) (lv_at hl 5 rfl) ?_
    refine lv_iadd hx hb (dq_96 48 bcX5_balance_1 (j := 22) rfl rfl) ?_
    refine lv_aload_n hx hb (dq_42 48 bcX5_balance_1 (j := 23) rfl rfl) rfl (lv_at hl 1 rfl) ?_
    refine lv_iload_n hx hb (dq_29 48 bcX5_balance_1 (j := 24) rfl rfl) rfl (lv_at hl 4 rfl) ?_
    refine lv_iconst (v := 4) hx hb (dq_7 48 bcX5_balance_1 (j := 25) rfl rfl) (by decide) ?_
    refine lv_iload hx hb (dq_21 48 bcX5_balance_1 (j := 26) (i := 4) rfl rfl) (lv_at hl 5 rfl) ?_
    refine lv_iadd hx hb (dq_96 48 bcX5_balance_1 (j := 28) rfl rfl) ?_
    replace hF := bd1_s hF
    obtain ⟨r_11, hc_12, hF⟩ := hF
    have hPc : va_P E.1 vwCl (w_X5_of E a_ a_row a_partners a_share a_leftOver c_askedCount c_outcome c_row) H := hP.sub (ws' := [k_X5 a_ a_row a_partners c_askedCount c_outcome a_share a_leftOver, k_I E a_row 81 c_row]) [0, 1] rfl
    have hrc := va_recv hK hPc (ci := 6) (q0 := 0) rfl rfl
    refine pE_i (va_runV (As := [.int x3, .int ((4 : Int32) + x4)]) (rest := [.int ((4 : Int32) + x4), .int x3, .ref a_])  ⟨hx, hb, hml, hown, hts⟩ (f_X5_of l E (a_ := a_) (a_row := a_row) (a_partners := a_partners) (a_share := a_share) (a_leftOver := a_leftOver) (p1 := x3) (p2 := (4 : Int32) + x4) (c_askedCount := c_askedCount) (c_outcome := c_outcome) (c_row := c_row) hc_12) (cwV 2 hts g_f_X5_balance_f_X5_of_69 rfl rfl rfl hd_X5_of ⟨Nat.le_of_ble_eq_true rfl, Nat.le_of_ble_eq_true rfl⟩) ⟨pP.blind, hrc, (pP.pre ⟨hK, hN⟩ hPc)⟩ rfl rfl hl.1 rfl (lv_room (Nat.le_of_ble_eq_true rfl)) (dq_182 48 bcX5_balance_1 (j := 29) (i := 69) rfl rfl rfl) ⟨Nat.le_of_ble_eq_true rfl, Nat.le_of_ble_eq_true rfl⟩) ?_
    refine lv_iload hx hb (dq_21 48 bcX5_balance_1 (j := 32) (i := 5) rfl rfl) (lv_at hl 0 rfl) ?_
    refine lv_iadd hx hb (dq_96 48 bcX5_balance_1 (j := 34) rfl rfl) ?_
    replace hF := bd1_s hF
    obtain ⟨w_13, hc_14, hF⟩ := hF
    obtain ⟨hPc, hDc, hFc⟩ := wcut (wc := (w_X5_put E a_ a_row a_partners a_share a_leftOver c_askedCount c_outcome c_row)) hP hD hS hA [0, 1] (by decide) rfl
    have hrc := va_recv hK hPc (ci := 6) (q0 := 0) rfl rfl
    refine cE_v (wc := (w_X5_put E a_ a_row a_partners a_share a_leftOver c_askedCount c_outcome c_row)) (wr := [k_I E a_share 2 c_share, k_I E a_leftOver 2 c_leftOver]) (w1 := (w_X5_put E a_ a_row a_partners a_share a_leftOver c_askedCount c_outcome w_13)) (va_runV (As := [.int x3, .int ((4 : Int32) + x4), .int (r_11 + (r_7 - r_9))]) (rest := [])  ⟨hx, hb, hml, hown, hts⟩ (f_X5_put l E H.size (a_ := a_) (a_row := a_row) (a_partners := a_partners) (a_share := a_share) (a_leftOver := a_leftOver) (p1 := x3) (p2 := (4 : Int32) + x4) (p3 := r_11 + (r_7 - r_9)) (c_askedCount := c_askedCount) (c_outcome := c_outcome) (c_row := c_row) hc_14) (cwV 3 hts g_f_X5_balance_f_X5_put_52 rfl rfl rfl hd_X5_put ⟨Nat.le_of_ble_eq_true rfl, Nat.le_of_ble_eq_true rfl⟩) ⟨pW.blind, hrc, (pW.pre ⟨hK, hN⟩ hPc hDc)⟩ rfl rfl hl.1 rfl (lv_room (Nat.le_of_ble_eq_true rfl)) (dq_182 48 bcX5_balance_1 (j := 35) (i := 52) rfl rfl rfl) ⟨Nat.le_of_ble_eq_true rfl, Nat.le_of_ble_eq_true rfl⟩) hS hFc hP hD [0, 1] [2, 3] rfl rfl (by decide) (by decide) (fun H locs hP hD hS => ?_)
    have h9 := fixPD (ws' := [k_I E a_share 2 c_share, k_I E a_leftOver 2 c_leftOver, k_X5 a_ a_row a_partners c_askedCount c_outcome a_share a_leftOver, k_I E a_row 81 w_13]) hP hD rfl
    clear hP hD
    obtain ⟨hP, hD⟩ := h9
    refine lv_iinc (v := x4 + (1 : Int32)) (lv' := [(4, .int (x4 + (1 : Int32))), (5, .int (r_7 - r_9)), (0, .ref a_), (1, .int p1), (2, .int x2), (3, .int x3)]) hx hb (dq_132 48 bcX5_balance_1 (j := 38) (i := 1) rfl rfl rfl) hl (k := 5) rfl (rfl) (by decide) rfl (fun ls hl => ?_)
    refine lv_goto (tgt := 42) hx hb (dq_167 48 bcX5_balance_1 (j := 41) (i := -47) rfl rfl rfl) (by decide) ?_
    cases hF
    exact hC (x4 + (1 : Int32)) w_13 rfl H locs ls (hP.sub [2, 3, 0, 1] rfl) (hD.sub [2, 3, 0, 1] (by decide) rfl) hS (lv_sub hl [2, 3, 4, 5, 0] rfl)

set_option maxHeartbeats 4000000 in
set_option maxRecDepth 100000 in
theorem lw_X5_balance_42 {p : Program} (l : Launch) {e : Env} {s : State} {m : MethodId} {below : List Frame} {meth : Method} {c : Code} {Q : State → Prop} (E : EE) (K : Nat) {a_ a_row a_partners a_share a_leftOver : Nat} {p1 : Int32} {c_askedCount : Int32} {c_share : Nat → Int32} {c_leftOver : Nat → Int32} {x2 : Int32} {x3 : Int32} {c_outcome : Int32} (hx : p.tables.exec = Jvm.exec) (hb : c.code = cX5_balance) (hml : c.maxLocals = 6) (hown : s.vm.findClass RX5 = some m.cls) (hts : ∀ w ∈ v_f_X5_balance, w.before #[Value.ref a_, Value.int p1] s = true) (hK : va_K E.1 vwCl (TY E) s) (hN : NX s) {A : Nat → Prop} (hA : ∀ q : Nat, s.heap.size ≤ q → A q) (j9 : Nat) (x4 : Int32) (c_row : Nat → Int32) (c_row' : Nat → Int32) (hL : lpF (fun u9 : Int32 × (Nat → Int32) => B_X5_balance_42 c_share c_leftOver x2 x3 u9.1 u9.2) j9 (x4, c_row) = some c_row') (hX : (∀ (H : Heap) (locs : List Loc) (ls : Array Slot), va_P E.1 vwCl (w_X5_balance E a_ a_row a_partners a_share a_leftOver c_askedCount c_outcome c_row' c_share c_leftOver) H → va_D A (w_X5_balance E a_ a_row a_partners a_share a_leftOver c_askedCount c_outcome c_row' c_share c_leftOver) → va_S A s.heap H locs → lv_has ls 6 [(0, .ref a_), (1, .int p1), (2, .int x2), (3, .int x3)] → W p l e ({ frames := 1, cells := 0, slots := 0, locals := 23 } : Room) s m #[Value.ref a_, Value.int p1] below meth c H locs 0 0 Q (F0 m 92 ls []))) : ∀ (H : Heap) (locs : List Loc) (ls : Array Slot), va_P E.1 vwCl (w_X5_balance E a_ a_row a_partners a_share a_leftOver c_askedCount c_outcome c_row c_share c_leftOver) H → va_D A (w_X5_balance E a_ a_row a_partners a_share a_leftOver c_askedCount c_outcome c_row c_share c_leftOver) → va_S A s.heap H locs → lv_has ls 6 [(0, .ref a_), (1, .int p1), (2, .int x2), (3, .int x3), (4, .int x4)] → W p l e ({ frames := 1, cells := 0, slots := 0, locals := 23 } : Room) s m #[Value.ref a_, Value.int p1] below meth c H locs 0 0 Q (F0 m 42 ls []) := by
  exact lp_rule (P := (fun u9 : Int32 × (Nat → Int32) => ∀ (H : Heap) (locs : List Loc) (ls : Array Slot), va_P E.1 vwCl (w_X5_balance E a_ a_row a_partners a_share a_leftOver c_askedCount c_outcome u9.2 c_share c_leftOver) H → va_D A (w_X5_balance E a_ a_row a_partners a_share a_leftOver c_askedCount c_outcome u9.2 c_share c_leftOver) → va_S A s.heap H locs → lv_has ls 6 [(0, .ref a_), (1, .int p1), (2, .int x2), (3, .int x3), (4, .int u9.1)] → W p l e ({ frames := 1, cells := 0, slots := 0, locals := 23 } : Room) s m #[Value.ref a_, Value.int p1] below meth c H locs 0 0 Q (F0 m 42 ls []))) (R := (fun r9 : (Nat → Int32) => (∀ (H : Heap) (locs : List Loc) (ls : Array Slot), va_P E.1 vwCl (w_X5_balance E a_ a_row a_partners a_share a_leftOver c_askedCount c_outcome r9 c_share c_leftOver) H → va_D A (w_X5_balance E a_ a_row a_partners a_share a_leftOver c_askedCount c_outcome r9 c_share c_leftOver) → va_S A s.heap H locs → lv_has ls 6 [(0, .ref a_), (1, .int p1), (2, .int x2), (3, .int x3)] → W p l e ({ frames := 1, cells := 0, slots := 0, locals := 23 } : Room) s m #[Value.ref a_, Value.int p1] below meth c H locs 0 0 Q (F0 m 92 ls [])))) (fun u9 xx hF hC hE => wb_X5_balance_42 l E K (p1 := p1) (c_askedCount := c_askedCount) (c_share := c_share) (c_leftOver := c_leftOver) (x2 := x2) (x3 := x3) (x4 := u9.1) (c_row := u9.2) (c_outcome := c_outcome) hx hb hml hown hts hK hN hA (fun x4 c_row q9 => hC _ q9) (fun c_row q9 => hE _ q9) hF) j9 (x4, c_row) c_row' hL hX

set_option maxHeartbeats 4000000 in
set_option maxRecDepth 100000 in
theorem wb_X5_balance_20 {p : Program} (l : Launch) {e : Env} {s : State} {m : MethodId} {below : List Frame} {meth : Method} {c : Code} {Q : State → Prop} (E : EE) (K : Nat) {a_ a_row a_partners a_share a_leftOver : Nat} {p1 : Int32} {c_askedCount : Int32} {c_share : Nat → Int32} {c_leftOver : Nat → Int32} {x2 : Int32} {x3 : Int32} {c_row : Nat → Int32} {c_outcome : Int32} (hx : p.tables.exec = Jvm.exec) (hb : c.code = cX5_balance) (hml : c.maxLocals = 6) (hown : s.vm.findClass RX5 = some m.cls) (hts : ∀ w ∈ v_f_X5_balance, w.before #[Value.ref a_, Value.int p1] s = true) (hK : va_K E.1 vwCl (TY E) s) (hN : NX s) {A : Nat → Prop} (hA : ∀ q : Nat, s.heap.size ≤ q → A q) {xx : (Int32 × Int32 × (Nat → Int32)) ⊕ (Int32 × (Nat → Int32))} (hC : ∀ (x2 : Int32), ∀ (x3 : Int32), ∀ (c_row : Nat → Int32), xx = .inl (x2, x3, c_row) → ∀ (H : Heap) (locs : List Loc) (ls : Array Slot), va_P E.1 vwCl (w_X5_balance E a_ a_row a_partners a_share a_leftOver c_askedCount c_outcome c_row c_share c_leftOver) H → va_D A (w_X5_balance E a_ a_row a_partners a_share a_leftOver c_askedCount c_outcome c_row c_share c_leftOver) → va_S A s.heap H locs → lv_has ls 6 [(0, .ref a_), (1, .int p1), (2, .int x2), (3, .int x3)] → W p l e ({ frames := 1, cells := 0, slots := 0, locals := 23 } : Room) s m #[Value.ref a_, Value.int p1] below meth c H locs 0 0 Q (F0 m 20 ls [])) (hE : ∀ (x2 : Int32), ∀ (c_row : Nat → Int32), xx = .inr (x2, c_row) → ((∀ (H : Heap) (locs : List Loc) (ls : Array Slot), va_P E.1 vwCl (w_X5_balance E a_ a_row a_partners a_share a_leftOver c_askedCount c_outcome c_row c_share c_leftOver) H → va_D A (w_X5_balance E a_ a_row a_partners a_share a_leftOver c_askedCount c_outcome c_row c_share c_leftOver) → va_S A s.heap H locs → lv_has ls 6 [(0, .ref a_), (2, .int x2)] → W p l e ({ frames := 1, cells := 0, slots := 0, locals := 23 } : Room) s m #[Value.ref a_, Value.int p1] below meth c H locs 0 0 Q (F0 m 101 ls [])))) (hF : B_X5_balance_20 K p1 c_share c_leftOver x2 x3 c_row = some xx) : ∀ (H : Heap) (locs : List Loc) (ls : Array Slot), va_P E.1 vwCl (w_X5_balance E a_ a_row a_partners a_share a_leftOver c_askedCount c_outcome c_row c_share c_leftOver) H → va_D A (w_X5_balance E a_ a_row a_partners a_share a_leftOver c_askedCount c_outcome c_row c_share c_leftOver) → va_S A s.heap H locs → lv_has ls 6 [(0, .ref a_), (1, .int p1), (2, .int x2), (3, .int x3)] → W p l e ({ frames := 1, cells := 0, slots := 0, locals := 23 } : Room) s m #[Value.ref a_, Value.int p1] below meth c H locs 0 0 Q (F0 m 20 ls []) := by
  unfold B_X5_balance_20 at hF
  intro H locs ls hP hD hS hl
  have h9 := fixPD (ws' := [k_X5 a_ a_row a_partners c_askedCount c_outcome a_share a_leftOver, k_I E a_row 81 c_row, k_I E a_share 2 c_share, k_I E a_leftOver 2 c_leftOver]) hP hD rfl
  clear hP hD
  obtain ⟨hP, hD⟩ := h9
  refine lv_iload_n hx hb (dq_29 0 bcX5_balance_0 (j := 20) rfl rfl) rfl (lv_at hl 3 rfl) ?_
  refine lv_aload_n hx hb (dq_42 0 bcX5_balance_0 (j := 21) rfl rfl) rfl (lv_at hl 0 rfl) ?_
  replace hF := bd1_s hF
  obtain ⟨r_2, hc_3, hF⟩ := hF
  have hPc : va_P E.1 vwCl (w_X5_sites E a_ a_row a_partners a_share a_leftOver c_askedCount c_outcome c_row) H := hP.sub (ws' := [k_X5 a_ a_row a_partners c_askedCount c_outcome a_share a_leftOver, k_I E a_row 81 c_row]) [0, 1] rfl
  have hrc := va_recv hK hPc (ci := 6) (q0 := 0) rfl rfl
  refine pE_i (va_runV (As := []) (rest := [.int x3])  ⟨hx, hb, hml, hown, hts⟩ (f_X5_sites l E (a_ := a_) (a_row := a_row) (a_partners := a_partners) (a_share := a_share) (a_leftOver := a_leftOver) (c_askedCount := c_askedCount) (c_outcome := c_outcome) (c_row := c_row) hc_3) (cwV 0 hts g_f_X5_balance_f_X5_sites_45 rfl rfl rfl hd_X5_sites ⟨Nat.le_of_ble_eq_true rfl, Nat.le_of_ble_eq_true rfl⟩) ⟨pP.blind, hrc, (pP.pre ⟨hK, hN⟩ hPc)⟩ rfl rfl hl.1 rfl (lv_room (Nat.le_of_ble_eq_true rfl)) (dq_182 0 bcX5_balance_0 (j := 22) (i := 45) rfl rfl rfl) ⟨Nat.le_of_ble_eq_true rfl, Nat.le_of_ble_eq_true rfl⟩) ?_
  refine lv_icmp_ge (tgt := 101) hx hb (dq_162 0 bcX5_balance_0 (j := 25) (i := 76) rfl rfl rfl) (by decide) (fun c_4 => ?_) (fun c_4 => ?_)
  ·
    replace hF := ip c_4 hF
    cases hF
    exact hE x2 c_row rfl H locs ls (hP.sub [0, 1, 2, 3] rfl) (hD.sub [0, 1, 2, 3] (by decide) rfl) hS (lv_sub hl [0, 2] rfl)
  ·
    replace hF := inn c_4 hF
    refine lv_iload_n hx hb (dq_27 0 bcX5_balance_0 (j := 28) rfl rfl) rfl (lv_at hl 1 rfl) ?_
    refine lv_iload_n hx hb (dq_29 0 bcX5_balance_0 (j := 29) rfl rfl) rfl (lv_at hl 3 rfl) ?_
    refine lv_ishr hx hb (dq_122 0 bcX5_balance_0 (j := 30) rfl rfl) ?_
    refine lv_iconst (v := 1) hx hb (dq_4 0 bcX5_balance_0 (j := 31) rfl rfl) (by decide) ?_
    refine lv_iand hx hb (dq_126 0 bcX5_balance_0 (j := 32) rfl rfl) ?_
    refine lv_if_ne (tgt := 39) hx hb (dq_154 0 bcX5_balance_0 (j := 33) (i := 6) rfl rfl rfl) (by decide) (fun c_5 => ?_) (fun c_5 => ?_)
    ·
      replace hF := inn c_5 hF
      refine lv_iconst (v := 0) hx hb (dq_3 0 bcX5_balance_0 (j := 39) rfl rfl) (by decide) ?_
      refine lv_istore (lv' := [(4, .int (0 : Int32)), (0, .ref a_), (1, .int p1), (2, .int x2), (3, .int x3)]) hx hb (dq_54 0 bcX5_balance_0 (j := 40) (i := 4) rfl rfl) hl (by decide) rfl (fun ls hl => ?_)
      replace hF := bd1_s hF
      obtain ⟨c_row_15, hL_16, hF⟩ := hF
      refine lw_X5_balance_42 l E K (p1 := p1) (c_askedCount := c_askedCount) (c_share := c_share) (c_leftOver := c_leftOver) (x2 := x2) (x3 := x3) (c_outcome := c_outcome) hx hb hml hown hts hK hN hA K (0 : Int32) c_row c_row_15 hL_16 ?_ H locs ls (hP.sub [0, 1, 2, 3] rfl) (hD.sub [0, 1, 2, 3] (by decide) rfl) hS (lv_sub hl [1, 2, 3, 4, 0] rfl)
      ·
        intro H locs ls hP hD hS hl
        have h9 := fixPD (ws' := [k_X5 a_ a_row a_partners c_askedCount c_outcome a_share a_leftOver, k_I E a_row 81 c_row_15, k_I E a_share 2 c_share, k_I E a_leftOver 2 c_leftOver]) hP hD rfl
        clear hP hD
        obtain ⟨hP, hD⟩ := h9
        refine lv_iinc (v := x2 + (1 : Int32)) (lv' := [(2, .int (x2 + (1 : Int32))), (0, .ref a_), (1, .int p1), (3, .int x3)]) hx hb (dq_132 48 bcX5_balance_1 (j := 44) (i := 1) rfl rfl rfl) hl (k := 2) rfl (rfl) (by decide) rfl (fun ls hl => ?_)
        refine lv_iinc (v := x3 + (1 : Int32)) (lv' := [(3, .int (x3 + (1 : Int32))), (2, .int (x2 + (1 : Int32))), (0, .ref a_), (1, .int p1)]) hx hb (dq_132 48 bcX5_balance_1 (j := 47) (i := 1) rfl rfl rfl) hl (k := 3) rfl (rfl) (by decide) rfl (fun ls hl => ?_)
        refine lv_goto (tgt := 20) hx hb (dq_167 96 bcX5_balance_2 (j := 2) (i := -78) rfl rfl rfl) (by decide) ?_
        cases hF
        exact hC (x2 + (1 : Int32)) (x3 + (1 : Int32)) c_row_15 rfl H locs ls (hP.sub [0, 1, 2, 3] rfl) (hD.sub [0, 1, 2, 3] (by decide) rfl) hS (lv_sub hl [2, 3, 1, 0] rfl)
    ·
      replace hF := ip c_5 hF
      refine lv_goto (tgt := 95) hx hb (dq_167 0 bcX5_balance_0 (j := 36) (i := 59) rfl rfl rfl) (by decide) ?_
      refine lv_iinc (v := x3 + (1 : Int32)) (lv' := [(3, .int (x3 + (1 : Int32))), (0, .ref a_), (1, .int p1), (2, .int x2)]) hx hb (dq_132 48 bcX5_balance_1 (j := 47) (i := 1) rfl rfl rfl) hl (k := 3) rfl (rfl) (by decide) rfl (fun ls hl => ?_)
      refine lv_goto (tgt := 20) hx hb (dq_167 96 bcX5_balance_2 (j := 2) (i := -78) rfl rfl rfl) (by decide) ?_
      cases hF
      exact hC x2 (x3 + (1 : Int32)) c_row rfl H locs ls (hP.sub [0, 1, 2, 3] rfl) (hD.sub [0, 1, 2, 3] (by decide) rfl) hS (lv_sub hl [1, 2, 3, 0] rfl)

set_option maxHeartbeats 4000000 in
set_option maxRecDepth 100000 in
theorem lw_X5_balance_20 {p : Program} (l : Launch) {e : Env} {s : State} {m : MethodId} {below : List Frame} {meth : Method} {c : Code} {Q : State → Prop} (E : EE) (K : Nat) {a_ a_row a_partners a_share a_leftOver : Nat} {p1 : Int32} {c_askedCount : Int32} {c_share : Nat → Int32} {c_leftOver : Nat → Int32} {c_outcome : Int32} (hx : p.tables.exec = Jvm.exec) (hb : c.code = cX5_balance) (hml : c.maxLocals = 6) (hown : s.vm.findClass RX5 = some m.cls) (hts : ∀ w ∈ v_f_X5_balance, w.before #[Value.ref a_, Value.int p1] s = true) (hK : va_K E.1 vwCl (TY E) s) (hN : NX s) {A : Nat → Prop} (hA : ∀ q : Nat, s.heap.size ≤ q → A q) (j9 : Nat) (x2 : Int32) (x3 : Int32) (c_row : Nat → Int32) (x2' : Int32) (c_row' : Nat → Int32) (hL : lpF (fun u9 : Int32 × Int32 × (Nat → Int32) => B_X5_balance_20 K p1 c_share c_leftOver u9.1 u9.2.1 u9.2.2) j9 (x2, x3, c_row) = some (x2', c_row')) (hX : (∀ (H : Heap) (locs : List Loc) (ls : Array Slot), va_P E.1 vwCl (w_X5_balance E a_ a_row a_partners a_share a_leftOver c_askedCount c_outcome c_row' c_share c_leftOver) H → va_D A (w_X5_balance E a_ a_row a_partners a_share a_leftOver c_askedCount c_outcome c_row' c_share c_leftOver) → va_S A s.heap H locs → lv_has ls 6 [(0, .ref a_), (2, .int x2')] → W p l e ({ frames := 1, cells := 0, slots := 0, locals := 23 } : Room) s m #[Value.ref a_, Value.int p1] below meth c H locs 0 0 Q (F0 m 101 ls []))) : ∀ (H : Heap) (locs : List Loc) (ls : Array Slot), va_P E.1 vwCl (w_X5_balance E a_ a_row a_partners a_share a_leftOver c_askedCount c_outcome c_row c_share c_leftOver) H → va_D A (w_X5_balance E a_ a_row a_partners a_share a_leftOver c_askedCount c_outcome c_row c_share c_leftOver) → va_S A s.heap H locs → lv_has ls 6 [(0, .ref a_), (1, .int p1), (2, .int x2), (3, .int x3)] → W p l e ({ frames := 1, cells := 0, slots := 0, locals := 23 } : Room) s m #[Value.ref a_, Value.int p1] below meth c H locs 0 0 Q (F0 m 20 ls []) := by
  exact lp_rule (P := (fun u9 : Int32 × Int32 × (Nat → Int32) => ∀ (H : Heap) (locs : List Loc) (ls : Array Slot), va_P E.1 vwCl (w_X5_balance E a_ a_row a_partners a_share a_leftOver c_askedCount c_outcome u9.2.2 c_share c_leftOver) H → va_D A (w_X5_balance E a_ a_row a_partners a_share a_leftOver c_askedCount c_outcome u9.2.2 c_share c_leftOver) → va_S A s.heap H locs → lv_has ls 6 [(0, .ref a_), (1, .int p1), (2, .int u9.1), (3, .int u9.2.1)] → W p l e ({ frames := 1, cells := 0, slots := 0, locals := 23 } : Room) s m #[Value.ref a_, Value.int p1] below meth c H locs 0 0 Q (F0 m 20 ls []))) (R := (fun r9 : Int32 × (Nat → Int32) => (∀ (H : Heap) (locs : List Loc) (ls : Array Slot), va_P E.1 vwCl (w_X5_balance E a_ a_row a_partners a_share a_leftOver c_askedCount c_outcome r9.2 c_share c_leftOver) H → va_D A (w_X5_balance E a_ a_row a_partners a_share a_leftOver c_askedCount c_outcome r9.2 c_share c_leftOver) → va_S A s.heap H locs → lv_has ls 6 [(0, .ref a_), (2, .int r9.1)] → W p l e ({ frames := 1, cells := 0, slots := 0, locals := 23 } : Room) s m #[Value.ref a_, Value.int p1] below meth c H locs 0 0 Q (F0 m 101 ls [])))) (fun u9 xx hF hC hE => wb_X5_balance_20 l E K (p1 := p1) (c_askedCount := c_askedCount) (c_share := c_share) (c_leftOver := c_leftOver) (x2 := u9.1) (x3 := u9.2.1) (c_row := u9.2.2) (c_outcome := c_outcome) hx hb hml hown hts hK hN hA (fun x2 x3 c_row q9 => hC _ q9) (fun x2 c_row q9 => hE _ q9) hF) j9 (x2, x3, c_row) (x2', c_row') hL hX

set_option maxHeartbeats 4000000 in
set_option maxRecDepth 100000 in
theorem f_X5_balance (l : Launch) (E : EE) (sz : Nat) (K : Nat) {a_ a_row a_partners a_share a_leftOver : Nat} {p1 : Int32} {c_askedCount : Int32} {c_outcome : Int32} {c_row : Nat → Int32} {c_share : Nat → Int32} {c_leftOver : Nat → Int32} {rr : Int32} {n_row : Nat → Int32} {n_outcome : Int32} (hF : F_X5_balance K p1 c_row c_askedCount c_outcome c_share c_leftOver = some (rr, n_row, n_outcome)) : Met l yX5_balance v_f_X5_balance (({ frames := 1, cells := 0, slots := 0, locals := 23 } : Room)) (va_Pc [.ref a_, .int p1] (pW E sz (w_X5_balance E a_ a_row a_partners a_share a_leftOver c_askedCount c_outcome c_row c_share c_leftOver))) (va_Qi (fun (q : Int32) (_u : Unit) => q = rr) (fun (_u : Unit) tt => va_P E.1 vwCl (w_X5_balance E a_ a_row a_partners a_share a_leftOver c_askedCount n_outcome n_row c_share c_leftOver) tt.heap ∧ va_D (va_A (w_X5_balance E a_ a_row a_partners a_share a_leftOver c_askedCount c_outcome c_row c_share c_leftOver) sz) (w_X5_balance E a_ a_row a_partners a_share a_leftOver c_askedCount n_outcome n_row c_share c_leftOver)) (va_A (w_X5_balance E a_ a_row a_partners a_share a_leftOver c_askedCount c_outcome c_row c_share c_leftOver) sz)) 0 0 (va_A (w_X5_balance E a_ a_row a_partners a_share a_leftOver c_askedCount c_outcome c_row c_share c_leftOver) sz) := by
  refine Met.ofW (cc := cX5_balance) (maxL := 6) (ret := (some .int)) (by decide) rfl ?_
  intro p e s m args below meth c s₁ B hml hv
  obtain ⟨rfl, hsz, ⟨hK, hN⟩, hP, hD0⟩ := hv
  have hx := B.exec
  have hb := B.bytes
  have hr := B.returns
  have hts := atoms_spec (ws := v_f_X5_balance) B.pre
  have hown : s.vm.findClass RX5 = some m.cls := own_of hd_X5_balance.1 (findClass_of_methodNamed B.named)
  have hlocks : meth.locks = false := B.notSynchronized
  subst hsz
  have hD := hD0.self (sz := s.heap.size)
  generalize hAe : va_A (w_X5_balance E a_ a_row a_partners a_share a_leftOver c_askedCount c_outcome c_row c_share c_leftOver) s.heap.size = A at hD ⊢
  have hA : ∀ q : Nat, s.heap.size ≤ q → A q := fun q h => by rw [← hAe]; exact Or.inr h
  have hS : va_S A s.heap s.heap [] := va_S.rf
  have hl := lv_entry ([.ref a_, .int p1]) (n := 6) (Nat.le_of_ble_eq_true rfl)
  rw [lg_entry_eq]
  generalize (lg_sl ([.ref a_, .int p1]) ++ List.replicate (6 - (lg_sl ([.ref a_, .int p1])).length) Slot.unset).toArray = ls at hl ⊢
  have hl : lv_has ls 6 [(0, .ref a_), (1, .int p1)] := hl
  obtain ⟨Q, hQ⟩ : ∃ Q : State → Prop, Q = MQ below (va_Qi (fun (q : Int32) (_u : Unit) => q = rr) (fun (_u : Unit) tt => va_P E.1 vwCl (w_X5_balance E a_ a_row a_partners a_share a_leftOver c_askedCount n_outcome n_row c_share c_leftOver) tt.heap ∧ va_D A (w_X5_balance E a_ a_row a_partners a_share a_leftOver c_askedCount n_outcome n_row c_share c_leftOver)) A) #[Value.ref a_, Value.int p1] s 0 0 A := ⟨_, rfl⟩
  rw [← hQ]
  change W p l e ({ frames := 1, cells := 0, slots := 0, locals := 23 } : Room) s m #[Value.ref a_, Value.int p1] below meth c s.heap [] 0 0 Q (F0 m 0 ls [])
  suffices hh9 : ∀ (H : Heap) (locs : List Loc), va_P E.1 vwCl (w_X5_balance E a_ a_row a_partners a_share a_leftOver c_askedCount c_outcome c_row c_share c_leftOver) H → va_D A (w_X5_balance E a_ a_row a_partners a_share a_leftOver c_askedCount c_outcome c_row c_share c_leftOver) → va_S A s.heap H locs → W p l e ({ frames := 1, cells := 0, slots := 0, locals := 23 } : Room) s m #[Value.ref a_, Value.int p1] below meth c H locs 0 0 Q (F0 m 0 ls []) from hh9 s.heap [] hP hD hS
  clear hP hD hS
  intro H locs hP hD hS
  have h9 := fixPD (ws' := [k_X5 a_ a_row a_partners c_askedCount c_outcome a_share a_leftOver, k_I E a_row 81 c_row, k_I E a_share 2 c_share, k_I E a_leftOver 2 c_leftOver]) hP hD rfl
  clear hP hD
  obtain ⟨hP, hD⟩ := h9
  unfold F_X5_balance at hF
  refine lv_aload_n hx hb (dq_42 0 bcX5_balance_0 (j := 0) rfl rfl) rfl (lv_at hl 0 rfl) ?_
  refine gt_X5_0 (v := .ref a_row) hx hb hts i_f_X5_balance_X5 hown hK hP 0 rfl (hts (.fieldLink RX5 11 "HushWatch$State" "row" "[I") (List.mem_of_getElem? (i := 1) rfl)) rfl (dq_180 0 bcX5_balance_0 (j := 1) (i := 11) rfl rfl rfl) ?_
  refine lv_bipush (v := 13) hx hb (dq_16 0 bcX5_balance_0 (j := 4) (i := 13) rfl rfl rfl) (by decide) ?_
  refine lv_dup2_11 hx hb (dq_92 0 bcX5_balance_0 (j := 6) rfl rfl) rfl rfl ?_
  refine va_iald hx hb hK hP 1 0 rfl rfl (vin rfl) (dq_46 0 bcX5_balance_0 (j := 7) rfl rfl) ?_
  refine W.eq (g2 := F0 m 8 ls [.int (c_row 13), .int (13 : Int32), .ref a_row]) rfl ?_
  refine lv_iconst (v := 1) hx hb (dq_4 0 bcX5_balance_0 (j := 8) rfl rfl) (by decide) ?_
  refine lv_iadd hx hb (dq_96 0 bcX5_balance_0 (j := 9) rfl rfl) ?_
  refine va_iast hx hb hK hP hD hS 1 0 rfl rfl (vin rfl) (dq_79 0 bcX5_balance_0 (j := 10) rfl rfl) (fun H locs hP hD hS => ?_)
  have h9 := fixPD (ws' := [k_X5 a_ a_row a_partners c_askedCount c_outcome a_share a_leftOver, k_I E a_row 81 (upd c_row 13 ((c_row 13) + (1 : Int32))), k_I E a_share 2 c_share, k_I E a_leftOver 2 c_leftOver]) hP hD rfl
  clear hP hD
  obtain ⟨hP, hD⟩ := h9
  replace hF := nm_s hF
  obtain ⟨f_1, hf_1, hF⟩ := hF
  rw [← hf_1] at hP hD
  refine lv_aload_n hx hb (dq_42 0 bcX5_balance_0 (j := 11) rfl rfl) rfl (lv_at hl 0 rfl) ?_
  refine lv_iconst (v := 1) hx hb (dq_4 0 bcX5_balance_0 (j := 12) rfl rfl) (by decide) ?_
  refine pt_X5_3 (v := .int (1 : Int32)) hx hb hts i_f_X5_balance_X5 hown hK hP hD hS 0 rfl (hts (.fieldLink RX5 22 "HushWatch$State" "outcome" "I") (List.mem_of_getElem? (i := 2) rfl)) rfl rfl (Nat.le_of_ble_eq_true rfl) (dq_181 0 bcX5_balance_0 (j := 13) (i := 22) rfl rfl rfl) (fun H locs hP hD hS => ?_)
  have h9 := fixPD (ws' := [k_X5 a_ a_row a_partners c_askedCount (1 : Int32) a_share a_leftOver, k_I E a_row 81 f_1, k_I E a_share 2 c_share, k_I E a_leftOver 2 c_leftOver]) hP hD rfl
  clear hP hD
  obtain ⟨hP, hD⟩ := h9
  refine lv_iconst (v := 0) hx hb (dq_3 0 bcX5_balance_0 (j := 16) rfl rfl) (by decide) ?_
  refine lv_istore_n (lv' := [(2, .int (0 : Int32)), (0, .ref a_), (1, .int p1)]) hx hb (dq_61 0 bcX5_balance_0 (j := 17) rfl rfl) rfl hl (by decide) rfl (fun ls hl => ?_)
  refine lv_iconst (v := 0) hx hb (dq_3 0 bcX5_balance_0 (j := 18) rfl rfl) (by decide) ?_
  refine lv_istore_n (lv' := [(3, .int (0 : Int32)), (2, .int (0 : Int32)), (0, .ref a_), (1, .int p1)]) hx hb (dq_62 0 bcX5_balance_0 (j := 19) rfl rfl) rfl hl (by decide) rfl (fun ls hl => ?_)
  replace hF := bd2_s hF
  obtain ⟨x2_17, c_row_18, hL_19, hF⟩ := hF
  refine lw_X5_balance_20 l E K (p1 := p1) (c_askedCount := c_askedCount) (c_share := c_share) (c_leftOver := c_leftOver) (c_outcome := (1 : Int32)) hx hb hml hown hts hK hN hA K (0 : Int32) (0 : Int32) f_1 x2_17 c_row_18 hL_19 ?_ H locs ls (hP.sub [0, 1, 2, 3] rfl) (hD.sub [0, 1, 2, 3] (by decide) rfl) hS (lv_sub hl [2, 3, 1, 0] rfl)
  ·
    intro H locs ls hP hD hS hl
    have h9 := fixPD (ws' := [k_X5 a_ a_row a_partners c_askedCount (1 : Int32) a_share a_leftOver, k_I E a_row 81 c_row_18, k_I E a_share 2 c_share, k_I E a_leftOver 2 c_leftOver]) hP hD rfl
    clear hP hD
    obtain ⟨hP, hD⟩ := h9
    refine lv_iconst (v := 1) hx hb (dq_4 96 bcX5_balance_2 (j := 5) rfl rfl) (by decide) ?_
    refine lv_iconst (v := 2) hx hb (dq_5 96 bcX5_balance_2 (j := 6) rfl rfl) (by decide) ?_
    refine lv_aload_n hx hb (dq_42 96 bcX5_balance_2 (j := 7) rfl rfl) rfl (lv_at hl 0 rfl) ?_
    refine gt_X5_2 (v := .int c_askedCount) hx hb hts i_f_X5_balance_X5 hown hK hP 0 rfl (hts (.fieldLink RX5 18 "HushWatch$State" "askedCount" "I") (List.mem_of_getElem? (i := 3) rfl)) rfl (dq_180 96 bcX5_balance_2 (j := 8) (i := 18) rfl rfl rfl) ?_
    refine lv_imul hx hb (dq_104 96 bcX5_balance_2 (j := 11) rfl rfl) ?_
    refine lv_iadd hx hb (dq_96 96 bcX5_balance_2 (j := 12) rfl rfl) ?_
    refine lv_iload_n hx hb (dq_28 96 bcX5_balance_2 (j := 13) rfl rfl) rfl (lv_at hl 1 rfl) ?_
    refine lv_iadd hx hb (dq_96 96 bcX5_balance_2 (j := 14) rfl rfl) ?_
    rw [hQ]
    have h9 := fin9 (P := fun u9 : Int32 × (Nat → Int32) × Int32 => (((1 : Int32) + ((2 : Int32) * c_askedCount)) + x2_17) = u9.1 ∧ va_P E.1 vwCl (w_X5_balance E a_ a_row a_partners a_share a_leftOver c_askedCount u9.2.2 u9.2.1 c_share c_leftOver) H ∧ va_D A (w_X5_balance E a_ a_row a_partners a_share a_leftOver c_askedCount u9.2.2 u9.2.1 c_share c_leftOver)) hF ⟨rfl, hP, hD⟩
    obtain ⟨e9_0, hP9, hD9⟩ := h9
    exact W.iret (v := ((1 : Int32) + ((2 : Int32) * c_askedCount)) + x2_17) hx hb hr (fun tt ht hW => ⟨⟨_, (), rfl, e9_0, ht ▸ hP9, hD9⟩, hS.F ht⟩) hS.2.2 (dq_172 96 bcX5_balance_2 (j := 15) rfl rfl)

def B_X5_hearPlaces_16 (x1 : Int32) (c_row : Nat → Int32) : Option ((Int32 × (Nat → Int32)) ⊕ ((Nat → Int32))) :=
  bd1 (F_X5_sites c_row) (fun r_3 => if r_3 ≤ x1 then some (.inr c_row) else bd1 (F_X5_of x1 (0 : Int32) c_row) (fun r_6 => bd1 (F_X5_put x1 (2 : Int32) r_6 c_row) (fun w_8 => bd1 (F_X5_of x1 (1 : Int32) w_8) (fun r_10 => bd1 (F_X5_put x1 (3 : Int32) r_10 w_8) (fun w_12 => bd1 (F_X5_put x1 (4 : Int32) (0 : Int32) w_12) (fun w_14 => bd1 (F_X5_put x1 (5 : Int32) (0 : Int32) w_14) (fun w_16 => bd1 (F_X5_of x1 (0 : Int32) w_16) (fun r_18 => nmF (upd w_16 4 ((w_16 4) + r_18)) (fun f_20 => bd1 (F_X5_of x1 (1 : Int32) f_20) (fun r_21 => nmF (upd f_20 5 ((f_20 5) + r_21)) (fun f_23 => some (.inl (x1 + (1 : Int32), f_23)))))))))))))
def F_X5_hearPlaces (K : Nat) (c_row : Nat → Int32) : Option ((Nat → Int32)) :=
  nmF (upd c_row 4 (0 : Int32)) (fun f_1 => nmF (upd f_1 5 (0 : Int32)) (fun f_2 => bd1 (lpF (fun u9 : Int32 × (Nat → Int32) => B_X5_hearPlaces_16  u9.1 u9.2) K ((0 : Int32), f_2)) (fun c_row_24 => some c_row_24)))
abbrev w_X5_hearPlaces (E : EE) (a_ a_row a_partners a_share a_leftOver : Nat) (c_askedCount : Int32) (c_outcome : Int32) (c_row : Nat → Int32) : va_W := [k_X5 a_ a_row a_partners c_askedCount c_outcome a_share a_leftOver, k_I E a_row 81 c_row]
def v_f_X5_hearPlaces : List Cond := List.cons (.code yX5_hearPlaces cX5_hearPlaces 2 none) (HAppend.hAppend (α := List Cond) (β := List Cond) (γ := List Cond) [.fieldLink RX5 11 "HushWatch$State" "row" "[I", .methodLink RX5 45 yX5_sites, .instanceMethod yX5_sites, .selects RX5 yX5_sites yX5_sites, .initialized RX5, .methodLink RX5 69 yX5_of, .instanceMethod yX5_of, .selects RX5 yX5_of yX5_of, .methodLink RX5 52 yX5_put, .instanceMethod yX5_put, .selects RX5 yX5_put yX5_put] (HAppend.hAppend (α := List Cond) (β := List Cond) (γ := List Cond) wsX50 (HAppend.hAppend (α := List Cond) (β := List Cond) (γ := List Cond) v_f_X5_sites (HAppend.hAppend (α := List Cond) (β := List Cond) (γ := List Cond) v_f_X5_of (HAppend.hAppend (α := List Cond) (β := List Cond) (γ := List Cond) v_f_X5_put [])))))
theorem gw_f_X5_hearPlaces : v_f_X5_hearPlaces.all goodWord = true := gw_c2 (by decide +kernel) (gw_ap gw_wsX50 (gw_ap gw_f_X5_sites (gw_ap gw_f_X5_of (gw_ap gw_f_X5_put gw_nil))))
theorem i_f_X5_hearPlaces_X5 : ∀ w ∈ wsX50, w ∈ v_f_X5_hearPlaces := fun _ h => List.mem_cons_of_mem _ (List.mem_append_right _ (List.mem_append_left _ h))
theorem g_f_X5_hearPlaces_f_X5_sites_45 : GoodIn v_f_X5_hearPlaces (wsV RX5 45 RX5 yX5_sites v_f_X5_sites) := goodIn_in gw_f_X5_hearPlaces (in4 2 3 4 5 rfl rfl rfl rfl (fun _ h => List.mem_cons_of_mem _ (List.mem_append_right _ (List.mem_append_right _ (List.mem_append_left _ h)))))
theorem g_f_X5_hearPlaces_f_X5_of_69 : GoodIn v_f_X5_hearPlaces (wsV RX5 69 RX5 yX5_of v_f_X5_of) := goodIn_in gw_f_X5_hearPlaces (in4 6 7 8 5 rfl rfl rfl rfl (fun _ h => List.mem_cons_of_mem _ (List.mem_append_right _ (List.mem_append_right _ (List.mem_append_right _ (List.mem_append_left _ h))))))
theorem g_f_X5_hearPlaces_f_X5_put_52 : GoodIn v_f_X5_hearPlaces (wsV RX5 52 RX5 yX5_put v_f_X5_put) := goodIn_in gw_f_X5_hearPlaces (in4 9 10 11 5 rfl rfl rfl rfl (fun _ h => List.mem_cons_of_mem _ (List.mem_append_right _ (List.mem_append_right _ (List.mem_append_right _ (List.mem_append_right _ (List.mem_append_left _ h)))))))
theorem hd_X5_hearPlaces : yX5_hearPlaces.cls = RX5 ∧ yX5_hearPlaces.cls ≠ "java/lang/invoke/MethodHandle" ∧ yX5_hearPlaces.cls ≠ "java/lang/invoke/VarHandle" ∧ (parseMethodDescriptor yX5_hearPlaces.desc).map (fun d => d.parameters.length) = some 0 := by decide +kernel
set_option maxHeartbeats 4000000 in
set_option maxRecDepth 100000 in
theorem wb_X5_hearPlaces_16 {p : Program} (l : Launch) {e : Env} {s : State} {m : MethodId} {below : List Frame} {meth : Method} {c : Code} {Q : State → Prop} (E : EE) (K : Nat) {a_ a_row a_partners a_share a_leftOver : Nat} {c_askedCount : Int32} {c_outcome : Int32} {x1 : Int32} {c_row : Nat → Int32} (hx : p.tables.exec = Jvm.exec) (hb : c.code = cX5_hearPlaces) (hml : c.maxLocals = 2) (hown : s.vm.findClass RX5 = some m.cls) (hts : ∀ w ∈ v_f_X5_hearPlaces, w.before #[Value.ref a_] s = true) (hK : va_K E.1 vwCl (TY E) s) (hN : NX s) {A : Nat → Prop} (hA : ∀ q : Nat, s.heap.size ≤ q → A q) {xx : (Int32 × (Nat → Int32)) ⊕ ((Nat → Int32))} (hC : ∀ (x1 : Int32), ∀ (c_row : Nat → Int32), xx = .inl (x1, c_row) → ∀ (H : Heap) (locs : List Loc) (ls : Array Slot), va_P E.1 vwCl (w_X5_hearPlaces E a_ a_row a_partners a_share a_leftOver c_askedCount c_outcome c_row) H → va_D A (w_X5_hearPlaces E a_ a_row a_partners a_share a_leftOver c_askedCount c_outcome c_row) → va_S A s.heap H locs → lv_has ls 2 [(0, .ref a_), (1, .int x1)] → W p l e ({ frames := 1, cells := 0, slots := 0, locals := 23 } : Room) s m #[Value.ref a_] below meth c H locs 0 0 Q (F0 m 16 ls [])) (hE : ∀ (c_row : Nat → Int32), xx = .inr c_row → ((∀ (H : Heap) (locs : List Loc) (ls : Array Slot), va_P E.1 vwCl (w_X5_hearPlaces E a_ a_row a_partners a_share a_leftOver c_askedCount c_outcome c_row) H → va_D A (w_X5_hearPlaces E a_ a_row a_partners a_share a_leftOver c_askedCount c_outcome c_row) → va_S A s.heap H locs → lv_has ls 2 [] → W p l e ({ frames := 1, cells := 0, slots := 0, locals := 23 } : Room) s m #[Value.ref a_] below meth c H locs 0 0 Q (F0 m 98 ls [])))) (hF : B_X5_hearPlaces_16  x1 c_row = some xx) : ∀ (H : Heap) (locs : List Loc) (ls : Array Slot), va_P E.1 vwCl (w_X5_hearPlaces E a_ a_row a_partners a_share a_leftOver c_askedCount c_outcome c_row) H → va_D A (w_X5_hearPlaces E a_ a_row a_partners a_share a_leftOver c_askedCount c_outcome c_row) → va_S A s.heap H locs → lv_has ls 2 [(0, .ref a_), (1, .int x1)] → W p l e ({ frames := 1, cells := 0, slots := 0, locals := 23 } : Room) s m #[Value.ref a_] below meth c H locs 0 0 Q (F0 m 16 ls []) := by
  unfold B_X5_hearPlaces_16 at hF
  intro H locs ls hP hD hS hl
  have h9 := fixPD (ws' := [k_X5 a_ a_row a_partners c_askedCount c_outcome a_share a_leftOver, k_I E a_row 81 c_row]) hP hD rfl
  clear hP hD
  obtain ⟨hP, hD⟩ := h9
  refine lv_iload_n hx hb (dq_27 0 bcX5_hearPlaces_0 (j := 16) rfl rfl) rfl (lv_at hl 1 rfl) ?_
  refine lv_aload_n hx hb (dq_42 0 bcX5_hearPlaces_0 (j := 17) rfl rfl) rfl (lv_at hl 0 rfl) ?_
  replace hF := bd1_s hF
  obtain ⟨r_3, hc_4, hF⟩ := hF
  have hPc : va_P E.1 vwCl (w_X5_sites E a_ a_row a_partners a_share a_leftOver c_askedCount c_outcome c_row) H := hP.sub (ws' := [k_X5 a_ a_row a_partners c_askedCount c_outcome a_share a_leftOver, k_I E a_row 81 c_row]) [0, 1] rfl
  have hrc := va_recv hK hPc (ci := 6) (q0 := 0) rfl rfl
  refine pE_i (va_runV (As := []) (rest := [.int x1])  ⟨hx, hb, hml, hown, hts⟩ (f_X5_sites l E (a_ := a_) (a_row := a_row) (a_partners := a_partners) (a_share := a_share) (a_leftOver := a_leftOver) (c_askedCount := c_askedCount) (c_outcome := c_outcome) (c_row := c_row) hc_4) (cwV 0 hts g_f_X5_hearPlaces_f_X5_sites_45 rfl rfl rfl hd_X5_sites ⟨Nat.le_of_ble_eq_true rfl, Nat.le_of_ble_eq_true rfl⟩) ⟨pP.blind, hrc, (pP.pre ⟨hK, hN⟩ hPc)⟩ rfl rfl hl.1 rfl (lv_room (Nat.le_of_ble_eq_true rfl)) (dq_182 0 bcX5_hearPlaces_0 (j := 18) (i := 45) rfl rfl rfl) ⟨Nat.le_of_ble_eq_true rfl, Nat.le_of_ble_eq_true rfl⟩) ?_
  refine lv_icmp_ge (tgt := 98) hx hb (dq_162 0 bcX5_hearPlaces_0 (j := 21) (i := 77) rfl rfl rfl) (by decide) (fun c_5 => ?_) (fun c_5 => ?_)
  ·
    replace hF := ip c_5 hF
    cases hF
    exact hE c_row rfl H locs ls (hP.sub [0, 1] rfl) (hD.sub [0, 1] (by decide) rfl) hS (lv_sub hl [] rfl)
  ·
    replace hF := inn c_5 hF
    refine lv_aload_n hx hb (dq_42 0 bcX5_hearPlaces_0 (j := 24) rfl rfl) rfl (lv_at hl 0 rfl) ?_
    refine lv_iload_n hx hb (dq_27 0 bcX5_hearPlaces_0 (j := 25) rfl rfl) rfl (lv_at hl 1 rfl) ?_
    refine lv_iconst (v := 2) hx hb (dq_5 0 bcX5_hearPlaces_0 (j := 26) rfl rfl) (by decide) ?_
    refine lv_aload_n hx hb (dq_42 0 bcX5_hearPlaces_0 (j := 27) rfl rfl) rfl (lv_at hl 0 rfl) ?_
    refine lv_iload_n hx hb (dq_27 0 bcX5_hearPlaces_0 (j := 28) rfl rfl) rfl (lv_at hl 1 rfl) ?_
    refine lv_iconst (v := 0) hx hb (dq_3 0 bcX5_hearPlaces_0 (j := 29) rfl rfl) (by decide) ?_
    replace hF := bd1_s hF
    obtain ⟨r_6, hc_7, hF⟩ := hF
    have hPc : va_P E.1 vwCl (w_X5_of E a_ a_row a_partners a_share a_leftOver c_askedCount c_outcome c_row) H := hP.sub (ws' := [k_X5 a_ a_row a_partners c_askedCount c_outcome a_share a_leftOver, k_I E a_row 81 c_row]) [0, 1] rfl
    have hrc := va_recv hK hPc (ci := 6) (q0 := 0) rfl rfl
    refine pE_i (va_runV (As := [.int x1, .int (0 : Int32)]) (rest := [.int (2 : Int32), .int x1, .ref a_])  ⟨hx, hb, hml, hown, hts⟩ (f_X5_of l E (a_ := a_) (a_row := a_row) (a_partners := a_partners) (a_share := a_share) (a_leftOver := a_leftOver) (p1 := x1) (p2 := (0 : Int32)) (c_askedCount := c_askedCount) (c_outcome := c_outcome) (c_row := c_row) hc_7) (cwV 2 hts g_f_X5_hearPlaces_f_X5_of_69 rfl rfl rfl hd_X5_of ⟨Nat.le_of_ble_eq_true rfl, Nat.le_of_ble_eq_true rfl⟩) ⟨pP.blind, hrc, (pP.pre ⟨hK, hN⟩ hPc)⟩ rfl rfl hl.1 rfl (lv_room (Nat.le_of_ble_eq_true rfl)) (dq_182 0 bcX5_hearPlaces_0 (j := 30) (i := 69) rfl rfl rfl) ⟨Nat.le_of_ble_eq_true rfl, Nat.le_of_ble_eq_true rfl⟩) ?_
    replace hF := bd1_s hF
    obtain ⟨w_8, hc_9, hF⟩ := hF
    obtain ⟨hPc, hDc, hFc⟩ := wcut (wc := (w_X5_put E a_ a_row a_partners a_share a_leftOver c_askedCount c_outcome c_row)) hP hD hS hA [0, 1] (by decide) rfl
    have hrc := va_recv hK hPc (ci := 6) (q0 := 0) rfl rfl
    refine cE_v (wc := (w_X5_put E a_ a_row a_partners a_share a_leftOver c_askedCount c_outcome c_row)) (wr := []) (w1 := (w_X5_put E a_ a_row a_partners a_share a_leftOver c_askedCount c_outcome w_8)) (va_runV (As := [.int x1, .int (2 : Int32), .int r_6]) (rest := [])  ⟨hx, hb, hml, hown, hts⟩ (f_X5_put l E H.size (a_ := a_) (a_row := a_row) (a_partners := a_partners) (a_share := a_share) (a_leftOver := a_leftOver) (p1 := x1) (p2 := (2 : Int32)) (p3 := r_6) (c_askedCount := c_askedCount) (c_outcome := c_outcome) (c_row := c_row) hc_9) (cwV 3 hts g_f_X5_hearPlaces_f_X5_put_52 rfl rfl rfl hd_X5_put ⟨Nat.le_of_ble_eq_true rfl, Nat.le_of_ble_eq_true rfl⟩) ⟨pW.blind, hrc, (pW.pre ⟨hK, hN⟩ hPc hDc)⟩ rfl rfl hl.1 rfl (lv_room (Nat.le_of_ble_eq_true rfl)) (dq_182 0 bcX5_hearPlaces_0 (j := 33) (i := 52) rfl rfl rfl) ⟨Nat.le_of_ble_eq_true rfl, Nat.le_of_ble_eq_true rfl⟩) hS hFc hP hD [0, 1] [] rfl rfl (by decide) (by decide) (fun H locs hP hD hS => ?_)
    have h9 := fixPD (ws' := [k_X5 a_ a_row a_partners c_askedCount c_outcome a_share a_leftOver, k_I E a_row 81 w_8]) hP hD rfl
    clear hP hD
    obtain ⟨hP, hD⟩ := h9
    refine lv_aload_n hx hb (dq_42 0 bcX5_hearPlaces_0 (j := 36) rfl rfl) rfl (lv_at hl 0 rfl) ?_
    refine lv_iload_n hx hb (dq_27 0 bcX5_hearPlaces_0 (j := 37) rfl rfl) rfl (lv_at hl 1 rfl) ?_
    refine lv_iconst (v := 3) hx hb (dq_6 0 bcX5_hearPlaces_0 (j := 38) rfl rfl) (by decide) ?_
    refine lv_aload_n hx hb (dq_42 0 bcX5_hearPlaces_0 (j := 39) rfl rfl) rfl (lv_at hl 0 rfl) ?_
    refine lv_iload_n hx hb (dq_27 0 bcX5_hearPlaces_0 (j := 40) rfl rfl) rfl (lv_at hl 1 rfl) ?_
    refine lv_iconst (v := 1) hx hb (dq_4 0 bcX5_hearPlaces_0 (j := 41) rfl rfl) (by decide) ?_
    replace hF := bd1_s hF
    obtain ⟨r_10, hc_11, hF⟩ := hF
    have hPc : va_P E.1 vwCl (w_X5_of E a_ a_row a_partners a_share a_leftOver c_askedCount c_outcome w_8) H := hP.sub (ws' := [k_X5 a_ a_row a_partners c_askedCount c_outcome a_share a_leftOver, k_I E a_row 81 w_8]) [0, 1] rfl
    have hrc := va_recv hK hPc (ci := 6) (q0 := 0) rfl rfl
    refine pE_i (va_runV (As := [.int x1, .int (1 : Int32)]) (rest := [.int (3 : Int32), .int x1, .ref a_])  ⟨hx, hb, hml, hown, hts⟩ (f_X5_of l E (a_ := a_) (a_row := a_row) (a_partners := a_partners) (a_share := a_share) (a_leftOver := a_leftOver) (p1 := x1) (p2 := (1 : Int32)) (c_askedCount := c_askedCount) (c_outcome := c_outcome) (c_row := w_8) hc_11) (cwV 2 hts g_f_X5_hearPlaces_f_X5_of_69 rfl rfl rfl hd_X5_of ⟨Nat.le_of_ble_eq_true rfl, Nat.le_of_ble_eq_true rfl⟩) ⟨pP.blind, hrc, (pP.pre ⟨hK, hN⟩ hPc)⟩ rfl rfl hl.1 rfl (lv_room (Nat.le_of_ble_eq_true rfl)) (dq_182 0 bcX5_hearPlaces_0 (j := 42) (i := 69) rfl rfl rfl) ⟨Nat.le_of_ble_eq_true rfl, Nat.le_of_ble_eq_true rfl⟩) ?_
    replace hF := bd1_s hF
    obtain ⟨w_12, hc_13, hF⟩ := hF
    obtain ⟨hPc, hDc, hFc⟩ := wcut (wc := (w_X5_put E a_ a_row a_partners a_share a_leftOver c_askedCount c_outcome w_8)) hP hD hS hA [0, 1] (by decide) rfl
    have hrc := va_recv hK hPc (ci := 6) (q0 := 0) rfl rfl
    refine cE_v (wc := (w_X5_put E a_ a_row a_partners a_share a_leftOver c_askedCount c_outcome w_8)) (wr := []) (w1 := (w_X5_put E a_ a_row a_partners a_share a_leftOver c_askedCount c_outcome w_12)) (va_runV (As := [.int x1, .int (3 : Int32), .int r_10]) (rest := [])  ⟨hx, hb, hml, hown, hts⟩ (f_X5_put l E H.size (a_ := a_) (a_row := a_row) (a_partners := a_partners) (a_share := a_share) (a_leftOver := a_leftOver) (p1 := x1) (p2 := (3 : Int32)) (p3 := r_10) (c_askedCount := c_askedCount) (c_outcome := c_outcome) (c_row := w_8) hc_13) (cwV 3 hts g_f_X5_hearPlaces_f_X5_put_52 rfl rfl rfl hd_X5_put ⟨Nat.le_of_ble_eq_true rfl, Nat.le_of_ble_eq_true rfl⟩) ⟨pW.blind, hrc, (pW.pre ⟨hK, hN⟩ hPc hDc)⟩ rfl rfl hl.1 rfl (lv_room (Nat.le_of_ble_eq_true rfl)) (dq_182 0 bcX5_hearPlaces_0 (j := 45) (i := 52) rfl rfl rfl) ⟨Nat.le_of_ble_eq_true rfl, Nat.le_of_ble_eq_true rfl⟩) hS hFc hP hD [0, 1] [] rfl rfl (by decide) (by decide) (fun H locs hP hD hS => ?_)
    have h9 := fixPD (ws' := [k_X5 a_ a_row a_partners c_askedCount c_outcome a_share a_leftOver, k_I E a_row 81 w_12]) hP hD rfl
    clear hP hD
    obtain ⟨hP, hD⟩ := h9
    refine lv_aload_n hx hb (dq_42 48 bcX5_hearPlaces_1 (j := 0) rfl rfl) rfl (lv_at hl 0 rfl) ?_
    refine lv_iload_n hx hb (dq_27 48 bcX5_hearPlaces_1 (j := 1) rfl rfl) rfl (lv_at hl 1 rfl) ?_
    refine lv_iconst (v := 4) hx hb (dq_7 48 bcX5_hearPlaces_1 (j := 2) rfl rfl) (by decide) ?_
    refine lv_iconst (v := 0) hx hb (dq_3 48 bcX5_hearPlaces_1 (j := 3) rfl rfl) (by decide) ?_
    replace hF := bd1_s hF
    obtain ⟨w_14, hc_15, hF⟩ := hF
    obtain ⟨hPc, hDc, hFc⟩ := wcut (wc := (w_X5_put E a_ a_row a_partners a_share a_leftOver c_askedCount c_outcome w_12)) hP hD hS hA [0, 1] (by decide) rfl
    have hrc := va_recv hK hPc (ci := 6) (q0 := 0) rfl rfl
    refine cE_v (wc := (w_X5_put E a_ a_row a_partners a_share a_leftOver c_askedCount c_outcome w_12)) (wr := []) (w1 := (w_X5_put E a_ a_row a_partners a_share a_leftOver c_askedCount c_outcome w_14)) (va_runV (As := [.int x1, .int (4 : Int32), .int (0 : Int32)]) (rest := [])  ⟨hx, hb, hml, hown, hts⟩ (f_X5_put l E H.size (a_ := a_) (a_row := a_row) (a_partners := a_partners) (a_share := a_share) (a_leftOver := a_leftOver) (p1 := x1) (p2 := (4 : Int32)) (p3 := (0 : Int32)) (c_askedCount := c_askedCount) (c_outcome := c_outcome) (c_row := w_12) hc_15) (cwV 3 hts g_f_X5_hearPlaces_f_X5_put_52 rfl rfl rfl hd_X5_put ⟨Nat.le_of_ble_eq_true rfl, Nat.le_of_ble_eq_true rfl⟩) ⟨pW.blind, hrc, (pW.pre ⟨hK, hN⟩ hPc hDc)⟩ rfl rfl hl.1 rfl (lv_room (Nat.le_of_ble_eq_true rfl)) (dq_182 48 bcX5_hearPlaces_1 (j := 4) (i := 52) rfl rfl rfl) ⟨Nat.le_of_ble_eq_true rfl, Nat.le_of_ble_eq_true rfl⟩) hS hFc hP hD [0, 1] [] rfl rfl (by decide) (by decide) (fun H locs hP hD hS => ?_)
    have h9 := fixPD (ws' := [k_X5 a_ a_row a_partners c_askedCount c_outcome a_share a_leftOver, k_I E a_row 81 w_14]) hP hD rfl
    clear hP hD
    obtain ⟨hP, hD⟩ := h9
    refine lv_aload_n hx hb (dq_42 48 bcX5_hearPlaces_1 (j := 7) rfl rfl) rfl (lv_at hl 0 rfl) ?_
    refine lv_iload_n hx hb (dq_27 48 bcX5_hearPlaces_1 (j := 8) rfl rfl) rfl (lv_at hl 1 rfl) ?_
    refine lv_iconst (v := 5) hx hb (dq_8 48 bcX5_hearPlaces_1 (j := 9) rfl rfl) (by decide) ?_
    refine lv_iconst (v := 0) hx hb (dq_3 48 bcX5_hearPlaces_1 (j := 10) rfl rfl) (by decide) ?_
    replace hF := bd1_s hF
    obtain ⟨w_16, hc_17, hF⟩ := hF
    obtain ⟨hPc, hDc, hFc⟩ := wcut (wc := (w_X5_put E a_ a_row a_partners a_share a_leftOver c_askedCount c_outcome w_14)) hP hD hS hA [0, 1] (by decide) rfl
    have hrc := va_recv hK hPc (ci := 6) (q0 := 0) rfl rfl
    refine cE_v (wc := (w_X5_put E a_ a_row a_partners a_share a_leftOver c_askedCount c_outcome w_14)) (wr := []) (w1 := (w_X5_put E a_ a_row a_partners a_share a_leftOver c_askedCount c_outcome w_16)) (va_runV (As := [.int x1, .int (5 : Int32), .int (0 : Int32)]) (rest := [])  ⟨hx, hb, hml, hown, hts⟩ (f_X5_put l E H.size (a_ := a_) (a_row := a_row) (a_partners := a_partners) (a_share := a_share) (a_leftOver := a_leftOver) (p1 := x1) (p2 := (5 : Int32)) (p3 := (0 : Int32)) (c_askedCount := c_askedCount) (c_outcome := c_outcome) (c_row := w_14) hc_17) (cwV 3 hts g_f_X5_hearPlaces_f_X5_put_52 rfl rfl rfl hd_X5_put ⟨Nat.le_of_ble_eq_true rfl, Nat.le_of_ble_eq_true rfl⟩) ⟨pW.blind, hrc, (pW.pre ⟨hK, hN⟩ hPc hDc)⟩ rfl rfl hl.1 rfl (lv_room (Nat.le_of_ble_eq_true rfl)) (dq_182 48 bcX5_hearPlaces_1 (j := 11) (i := 52) rfl rfl rfl) ⟨Nat.le_of_ble_eq_true rfl, Nat.le_of_ble_eq_true rfl⟩) hS hFc hP hD [0, 1] [] rfl rfl (by decide) (by decide) (fun H locs hP hD hS => ?_)
    have h9 := fixPD (ws' := [k_X5 a_ a_row a_partners c_askedCount c_outcome a_share a_leftOver, k_I E a_row 81 w_16]) hP hD rfl
    clear hP hD
    obtain ⟨hP, hD⟩ := h9
    refine lv_aload_n hx hb (dq_42 48 bcX5_hearPlaces_1 (j := 14) rfl rfl) rfl (lv_at hl 0 rfl) ?_
    refine gt_X5_0 (v := .ref a_row) hx hb hts i_f_X5_hearPlaces_X5 hown hK hP 0 rfl (hts (.fieldLink RX5 11 "HushWatch$State" "row" "[I") (List.mem_of_getElem? (i := 1) rfl)) rfl (dq_180 48 bcX5_hearPlaces_1 (j := 15) (i := 11) rfl rfl rfl) ?_
    refine lv_iconst (v := 4) hx hb (dq_7 48 bcX5_hearPlaces_1 (j := 18) rfl rfl) (by decide) ?_
    refine lv_dup2_11 hx hb (dq_92 48 bcX5_hearPlaces_1 (j := 19) rfl rfl) rfl rfl ?_
    refine va_iald hx hb hK hP 1 0 rfl rfl (vin rfl) (dq_46 48 bcX5_hearPlaces_1 (j := 20) rfl rfl) ?_
    refine W.eq (g2 := F0 m 69 ls [.int (w_16 4), .int (4 : Int32), .ref a_row]) rfl ?_
    refine lv_aload_n hx hb (dq_42 48 bcX5_hearPlaces_1 (j := 21) rfl rfl) rfl (lv_at hl 0 rfl) ?_
    refine lv_iload_n hx hb (dq_27 48 bcX5_hearPlaces_1 (j := 22) rfl rfl) rfl (lv_at hl 1 rfl) ?_
    refine lv_iconst (v := 0) hx hb (dq_3 48 bcX5_hearPlaces_1 (j := 23) rfl rfl) (by decide) ?_
    replace hF := bd1_s hF
    obtain ⟨r_18, hc_19, hF⟩ := hF
    have hPc : va_P E.1 vwCl (w_X5_of E a_ a_row a_partners a_share a_leftOver c_askedCount c_outcome w_16) H := hP.sub (ws' := [k_X5 a_ a_row a_partners c_askedCount c_outcome a_share a_leftOver, k_I E a_row 81 w_16]) [0, 1] rfl
    have hrc := va_recv hK hPc (ci := 6) (q0 := 0) rfl rfl
    refine pE_i (va_runV (As := [.int x1, .int (0 : Int32)]) (rest := [.int (w_16 4), .int (4 : Int32), .ref a_row])  ⟨hx, hb, hml, hown, hts⟩ (f_X5_of l E (a_ := a_) (a_row := a_row) (a_partners := a_partners) (a_share := a_share) (a_leftOver := a_leftOver) (p1 := x1) (p2 := (0 : Int32)) (c_askedCount := c_askedCount) (c_outcome := c_outcome) (c_row := w_16) hc_19) (cwV 2 hts g_f_X5_hearPlaces_f_X5_of_69 rfl rfl rfl hd_X5_of ⟨Nat.le_of_ble_eq_true rfl, Nat.le_of_ble_eq_true rfl⟩) ⟨pP.blind, hrc, (pP.pre ⟨hK, hN⟩ hPc)⟩ rfl rfl hl.1 rfl (lv_room (Nat.le_of_ble_eq_true rfl)) (dq_182 48 bcX5_hearPlaces_1 (j := 24) (i := 69) rfl rfl rfl) ⟨Nat.le_of_ble_eq_true rfl, Nat.le_of_ble_eq_true rfl⟩) ?_
    refine lv_iadd hx hb (dq_96 48 bcX5_hearPlaces_1 (j := 27) rfl rfl) ?_
    refine va_iast hx hb hK hP hD hS 1 0 rfl rfl (vin rfl) (dq_79 48 bcX5_hearPlaces_1 (j := 28) rfl rfl) (fun H locs hP hD hS => ?_)
    have h9 := fixPD (ws' := [k_X5 a_ a_row a_partners c_askedCount c_outcome a_share a_leftOver, k_I E a_row 81 (upd w_16 4 ((w_16 4) + r_18))]) hP hD rfl
    clear hP hD
    obtain ⟨hP, hD⟩ := h9
    replace hF := nm_s hF
    obtain ⟨f_20, hf_20, hF⟩ := hF
    rw [← hf_20] at hP hD
    refine lv_aload_n hx hb (dq_42 48 bcX5_hearPlaces_1 (j := 29) rfl rfl) rfl (lv_at hl 0 rfl) ?_
    refine gt_X5_0 (v := .ref a_row) hx hb hts i_f_X5_hearPlaces_X5 hown hK hP 0 rfl (hts (.fieldLink RX5 11 "HushWatch$State" "row" "[I") (List.mem_of_getElem? (i := 1) rfl)) rfl (dq_180 48 bcX5_hearPlaces_1 (j := 30) (i := 11) rfl rfl rfl) ?_
    refine lv_iconst (v := 5) hx hb (dq_8 48 bcX5_hearPlaces_1 (j := 33) rfl rfl) (by decide) ?_
    refine lv_dup2_11 hx hb (dq_92 48 bcX5_hearPlaces_1 (j := 34) rfl rfl) rfl rfl ?_
    refine va_iald hx hb hK hP 1 0 rfl rfl (vin rfl) (dq_46 48 bcX5_hearPlaces_1 (j := 35) rfl rfl) ?_
    refine W.eq (g2 := F0 m 84 ls [.int (f_20 5), .int (5 : Int32), .ref a_row]) rfl ?_
    refine lv_aload_n hx hb (dq_42 48 bcX5_hearPlaces_1 (j := 36) rfl rfl) rfl (lv_at hl 0 rfl) ?_
    refine lv_iload_n hx hb (dq_27 48 bcX5_hearPlaces_1 (j := 37) rfl rfl) rfl (lv_at hl 1 rfl) ?_
    refine lv_iconst (v := 1) hx hb (dq_4 48 bcX5_hearPlaces_1 (j := 38) rfl rfl) (by decide) ?_
    replace hF := bd1_s hF
    obtain ⟨r_21, hc_22, hF⟩ := hF
    have hPc : va_P E.1 vwCl (w_X5_of E a_ a_row a_partners a_share a_leftOver c_askedCount c_outcome f_20) H := hP.sub (ws' := [k_X5 a_ a_row a_partners c_askedCount c_outcome a_share a_leftOver, k_I E a_row 81 f_20]) [0, 1] rfl
    have hrc := va_recv hK hPc (ci := 6) (q0 := 0) rfl rfl
    refine pE_i (va_runV (As := [.int x1, .int (1 : Int32)]) (rest := [.int (f_20 5), .int (5 : Int32), .ref a_row])  ⟨hx, hb, hml, hown, hts⟩ (f_X5_of l E (a_ := a_) (a_row := a_row) (a_partners := a_partners) (a_share := a_share) (a_leftOver := a_leftOver) (p1 := x1) (p2 := (1 : Int32)) (c_askedCount := c_askedCount) (c_outcome := c_outcome) (c_row := f_20) hc_22) (cwV 2 hts g_f_X5_hearPlaces_f_X5_of_69 rfl rfl rfl hd_X5_of ⟨Nat.le_of_ble_eq_true rfl, Nat.le_of_ble_eq_true rfl⟩) ⟨pP.blind, hrc, (pP.pre ⟨hK, hN⟩ hPc)⟩ rfl rfl hl.1 rfl (lv_room (Nat.le_of_ble_eq_true rfl)) (dq_182 48 bcX5_hearPlaces_1 (j := 39) (i := 69) rfl rfl rfl) ⟨Nat.le_of_ble_eq_true rfl, Nat.le_of_ble_eq_true rfl⟩) ?_
    refine lv_iadd hx hb (dq_96 48 bcX5_hearPlaces_1 (j := 42) rfl rfl) ?_
    refine va_iast hx hb hK hP hD hS 1 0 rfl rfl (vin rfl) (dq_79 48 bcX5_hearPlaces_1 (j := 43) rfl rfl) (fun H locs hP hD hS => ?_)
    have h9 := fixPD (ws' := [k_X5 a_ a_row a_partners c_askedCount c_outcome a_share a_leftOver, k_I E a_row 81 (upd f_20 5 ((f_20 5) + r_21))]) hP hD rfl
    clear hP hD
    obtain ⟨hP, hD⟩ := h9
    replace hF := nm_s hF
    obtain ⟨f_23, hf_23, hF⟩ := hF
    rw [← hf_23] at hP hD
    refine lv_iinc (v := x1 + (1 : Int32)) (lv' := [(1, .int (x1 + (1 : Int32))), (0, .ref a_)]) hx hb (dq_132 48 bcX5_hearPlaces_1 (j := 44) (i := 1) rfl rfl rfl) hl (k := 1) rfl (rfl) (by decide) rfl (fun ls hl => ?_)
    refine lv_goto (tgt := 16) hx hb (dq_167 48 bcX5_hearPlaces_1 (j := 47) (i := -79) rfl rfl rfl) (by decide) ?_
    cases hF
    exact hC (x1 + (1 : Int32)) f_23 rfl H locs ls (hP.sub [0, 1] rfl) (hD.sub [0, 1] (by decide) rfl) hS (lv_sub hl [1, 0] rfl)

set_option maxHeartbeats 4000000 in
set_option maxRecDepth 100000 in
theorem lw_X5_hearPlaces_16 {p : Program} (l : Launch) {e : Env} {s : State} {m : MethodId} {below : List Frame} {meth : Method} {c : Code} {Q : State → Prop} (E : EE) (K : Nat) {a_ a_row a_partners a_share a_leftOver : Nat} {c_askedCount : Int32} {c_outcome : Int32} (hx : p.tables.exec = Jvm.exec) (hb : c.code = cX5_hearPlaces) (hml : c.maxLocals = 2) (hown : s.vm.findClass RX5 = some m.cls) (hts : ∀ w ∈ v_f_X5_hearPlaces, w.before #[Value.ref a_] s = true) (hK : va_K E.1 vwCl (TY E) s) (hN : NX s) {A : Nat → Prop} (hA : ∀ q : Nat, s.heap.size ≤ q → A q) (j9 : Nat) (x1 : Int32) (c_row : Nat → Int32) (c_row' : Nat → Int32) (hL : lpF (fun u9 : Int32 × (Nat → Int32) => B_X5_hearPlaces_16  u9.1 u9.2) j9 (x1, c_row) = some c_row') (hX : (∀ (H : Heap) (locs : List Loc) (ls : Array Slot), va_P E.1 vwCl (w_X5_hearPlaces E a_ a_row a_partners a_share a_leftOver c_askedCount c_outcome c_row') H → va_D A (w_X5_hearPlaces E a_ a_row a_partners a_share a_leftOver c_askedCount c_outcome c_row') → va_S A s.heap H locs → lv_has ls 2 [] → W p l e ({ frames := 1, cells := 0, slots := 0, locals := 23 } : Room) s m #[Value.ref a_] below meth c H locs 0 0 Q (F0 m 98 ls []))) : ∀ (H : Heap) (locs : List Loc) (ls : Array Slot), va_P E.1 vwCl (w_X5_hearPlaces E a_ a_row a_partners a_share a_leftOver c_askedCount c_outcome c_row) H → va_D A (w_X5_hearPlaces E a_ a_row a_partners a_share a_leftOver c_askedCount c_outcome c_row) → va_S A s.heap H locs → lv_has ls 2 [(0, .ref a_), (1, .int x1)] → W p l e ({ frames := 1, cells := 0, slots := 0, locals := 23 } : Room) s m #[Value.ref a_] below meth c H locs 0 0 Q (F0 m 16 ls []) := by
  exact lp_rule (P := (fun u9 : Int32 × (Nat → Int32) => ∀ (H : Heap) (locs : List Loc) (ls : Array Slot), va_P E.1 vwCl (w_X5_hearPlaces E a_ a_row a_partners a_share a_leftOver c_askedCount c_outcome u9.2) H → va_D A (w_X5_hearPlaces E a_ a_row a_partners a_share a_leftOver c_askedCount c_outcome u9.2) → va_S A s.heap H locs → lv_has ls 2 [(0, .ref a_), (1, .int u9.1)] → W p l e ({ frames := 1, cells := 0, slots := 0, locals := 23 } : Room) s m #[Value.ref a_] below meth c H locs 0 0 Q (F0 m 16 ls []))) (R := (fun r9 : (Nat → Int32) => (∀ (H : Heap) (locs : List Loc) (ls : Array Slot), va_P E.1 vwCl (w_X5_hearPlaces E a_ a_row a_partners a_share a_leftOver c_askedCount c_outcome r9) H → va_D A (w_X5_hearPlaces E a_ a_row a_partners a_share a_leftOver c_askedCount c_outcome r9) → va_S A s.heap H locs → lv_has ls 2 [] → W p l e ({ frames := 1, cells := 0, slots := 0, locals := 23 } : Room) s m #[Value.ref a_] below meth c H locs 0 0 Q (F0 m 98 ls [])))) (fun u9 xx hF hC hE => wb_X5_hearPlaces_16 l E K (c_askedCount := c_askedCount) (c_outcome := c_outcome) (x1 := u9.1) (c_row := u9.2) hx hb hml hown hts hK hN hA (fun x1 c_row q9 => hC _ q9) (fun c_row q9 => hE _ q9) hF) j9 (x1, c_row) c_row' hL hX

set_option maxHeartbeats 4000000 in
set_option maxRecDepth 100000 in
theorem f_X5_hearPlaces (l : Launch) (E : EE) (sz : Nat) (K : Nat) {a_ a_row a_partners a_share a_leftOver : Nat} {c_askedCount : Int32} {c_outcome : Int32} {c_row : Nat → Int32} {n_row : Nat → Int32} (hF : F_X5_hearPlaces K c_row = some n_row) : Met l yX5_hearPlaces v_f_X5_hearPlaces (({ frames := 1, cells := 0, slots := 0, locals := 23 } : Room)) (va_Pc [.ref a_] (pW E sz (w_X5_hearPlaces E a_ a_row a_partners a_share a_leftOver c_askedCount c_outcome c_row))) (va_Qv (fun (_u : Unit) => True) (fun (_u : Unit) tt => va_P E.1 vwCl (w_X5_hearPlaces E a_ a_row a_partners a_share a_leftOver c_askedCount c_outcome n_row) tt.heap ∧ va_D (va_A (w_X5_hearPlaces E a_ a_row a_partners a_share a_leftOver c_askedCount c_outcome c_row) sz) (w_X5_hearPlaces E a_ a_row a_partners a_share a_leftOver c_askedCount c_outcome n_row)) (va_A (w_X5_hearPlaces E a_ a_row a_partners a_share a_leftOver c_askedCount c_outcome c_row) sz)) 0 0 (va_A (w_X5_hearPlaces E a_ a_row a_partners a_share a_leftOver c_askedCount c_outcome c_row) sz) := by
  refine Met.ofW (cc := cX5_hearPlaces) (maxL := 2) (ret := none) (by decide) rfl ?_
  intro p e s m args below meth c s₁ B hml hv
  obtain ⟨rfl, hsz, ⟨hK, hN⟩, hP, hD0⟩ := hv
  have hx := B.exec
  have hb := B.bytes
  have hr := B.returns
  have hts := atoms_spec (ws := v_f_X5_hearPlaces) B.pre
  have hown : s.vm.findClass RX5 = some m.cls := own_of hd_X5_hearPlaces.1 (findClass_of_methodNamed B.named)
  have hlocks : meth.locks = false := B.notSynchronized
  subst hsz
  have hD := hD0.self (sz := s.heap.size)
  generalize hAe : va_A (w_X5_hearPlaces E a_ a_row a_partners a_share a_leftOver c_askedCount c_outcome c_row) s.heap.size = A at hD ⊢
  have hA : ∀ q : Nat, s.heap.size ≤ q → A q := fun q h => by rw [← hAe]; exact Or.inr h
  have hS : va_S A s.heap s.heap [] := va_S.rf
  have hl := lv_entry ([.ref a_]) (n := 2) (Nat.le_of_ble_eq_true rfl)
  rw [lg_entry_eq]
  generalize (lg_sl ([.ref a_]) ++ List.replicate (2 - (lg_sl ([.ref a_])).length) Slot.unset).toArray = ls at hl ⊢
  have hl : lv_has ls 2 [(0, .ref a_)] := hl
  obtain ⟨Q, hQ⟩ : ∃ Q : State → Prop, Q = MQ below (va_Qv (fun (_u : Unit) => True) (fun (_u : Unit) tt => va_P E.1 vwCl (w_X5_hearPlaces E a_ a_row a_partners a_share a_leftOver c_askedCount c_outcome n_row) tt.heap ∧ va_D A (w_X5_hearPlaces E a_ a_row a_partners a_share a_leftOver c_askedCount c_outcome n_row)) A) #[Value.ref a_] s 0 0 A := ⟨_, rfl⟩
  rw [← hQ]
  change W p l e ({ frames := 1, cells := 0, slots := 0, locals := 23 } : Room) s m #[Value.ref a_] below meth c s.heap [] 0 0 Q (F0 m 0 ls [])
  suffices hh9 : ∀ (H : Heap) (locs : List Loc), va_P E.1 vwCl (w_X5_hearPlaces E a_ a_row a_partners a_share a_leftOver c_askedCount c_outcome c_row) H → va_D A (w_X5_hearPlaces E a_ a_row a_partners a_share a_leftOver c_askedCount c_outcome c_row) → va_S A s.heap H locs → W p l e ({ frames := 1, cells := 0, slots := 0, locals := 23 } : Room) s m #[Value.ref a_] below meth c H locs 0 0 Q (F0 m 0 ls []) from hh9 s.heap [] hP hD hS
  clear hP hD hS
  intro H locs hP hD hS
  have h9 := fixPD (ws' := [k_X5 a_ a_row a_partners c_askedCount c_outcome a_share a_leftOver, k_I E a_row 81 c_row]) hP hD rfl
  clear hP hD
  obtain ⟨hP, hD⟩ := h9
  unfold F_X5_hearPlaces at hF
  refine lv_aload_n hx hb (dq_42 0 bcX5_hearPlaces_0 (j := 0) rfl rfl) rfl (lv_at hl 0 rfl) ?_
  refine gt_X5_0 (v := .ref a_row) hx hb hts i_f_X5_hearPlaces_X5 hown hK hP 0 rfl (hts (.fieldLink RX5 11 "HushWatch$State" "row" "[I") (List.mem_of_getElem? (i := 1) rfl)) rfl (dq_180 0 bcX5_hearPlaces_0 (j := 1) (i := 11) rfl rfl rfl) ?_
  refine lv_iconst (v := 4) hx hb (dq_7 0 bcX5_hearPlaces_0 (j := 4) rfl rfl) (by decide) ?_
  refine lv_iconst (v := 0) hx hb (dq_3 0 bcX5_hearPlaces_0 (j := 5) rfl rfl) (by decide) ?_
  refine va_iast hx hb hK hP hD hS 1 0 rfl rfl (vin rfl) (dq_79 0 bcX5_hearPlaces_0 (j := 6) rfl rfl) (fun H locs hP hD hS => ?_)
  have h9 := fixPD (ws' := [k_X5 a_ a_row a_partners c_askedCount c_outcome a_share a_leftOver, k_I E a_row 81 (upd c_row 4 (0 : Int32))]) hP hD rfl
  clear hP hD
  obtain ⟨hP, hD⟩ := h9
  replace hF := nm_s hF
  obtain ⟨f_1, hf_1, hF⟩ := hF
  rw [← hf_1] at hP hD
  refine lv_aload_n hx hb (dq_42 0 bcX5_hearPlaces_0 (j := 7) rfl rfl) rfl (lv_at hl 0 rfl) ?_
  refine gt_X5_0 (v := .ref a_row) hx hb hts i_f_X5_hearPlaces_X5 hown hK hP 0 rfl (hts (.fieldLink RX5 11 "HushWatch$State" "row" "[I") (List.mem_of_getElem? (i := 1) rfl)) rfl (dq_180 0 bcX5_hearPlaces_0 (j := 8) (i := 11) rfl rfl rfl) ?_
  refine lv_iconst (v := 5) hx hb (dq_8 0 bcX5_hearPlaces_0 (j := 11) rfl rfl) (by decide) ?_
  refine lv_iconst (v := 0) hx hb (dq_3 0 bcX5_hearPlaces_0 (j := 12) rfl rfl) (by decide) ?_
  refine va_iast hx hb hK hP hD hS 1 0 rfl rfl (vin rfl) (dq_79 0 bcX5_hearPlaces_0 (j := 13) rfl rfl) (fun H locs hP hD hS => ?_)
  have h9 := fixPD (ws' := [k_X5 a_ a_row a_partners c_askedCount c_outcome a_share a_leftOver, k_I E a_row 81 (upd f_1 5 (0 : Int32))]) hP hD rfl
  clear hP hD
  obtain ⟨hP, hD⟩ := h9
  replace hF := nm_s hF
  obtain ⟨f_2, hf_2, hF⟩ := hF
  rw [← hf_2] at hP hD
  refine lv_iconst (v := 0) hx hb (dq_3 0 bcX5_hearPlaces_0 (j := 14) rfl rfl) (by decide) ?_
  refine lv_istore_n (lv' := [(1, .int (0 : Int32)), (0, .ref a_)]) hx hb (dq_60 0 bcX5_hearPlaces_0 (j := 15) rfl rfl) rfl hl (by decide) rfl (fun ls hl => ?_)
  replace hF := bd1_s hF
  obtain ⟨c_row_24, hL_25, hF⟩ := hF
  refine lw_X5_hearPlaces_16 l E K (c_askedCount := c_askedCount) (c_outcome := c_outcome) hx hb hml hown hts hK hN hA K (0 : Int32) f_2 c_row_24 hL_25 ?_ H locs ls (hP.sub [0, 1] rfl) (hD.sub [0, 1] (by decide) rfl) hS (lv_sub hl [1, 0] rfl)
  ·
    intro H locs ls hP hD hS hl
    have h9 := fixPD (ws' := [k_X5 a_ a_row a_partners c_askedCount c_outcome a_share a_leftOver, k_I E a_row 81 c_row_24]) hP hD rfl
    clear hP hD
    obtain ⟨hP, hD⟩ := h9
    rw [hQ]
    have h9 := fin9 (P := fun u9 : (Nat → Int32) => va_P E.1 vwCl (w_X5_hearPlaces E a_ a_row a_partners a_share a_leftOver c_askedCount c_outcome u9) H ∧ va_D A (w_X5_hearPlaces E a_ a_row a_partners a_share a_leftOver c_askedCount c_outcome u9)) hF ⟨hP, hD⟩
    obtain ⟨hP9, hD9⟩ := h9
    exact W.vret hx hb hr (fun tt ht hW => ⟨⟨(), rfl, trivial, ht ▸ hP9, hD9⟩, hS.F ht⟩) hS.2.2 (dq_177 96 bcX5_hearPlaces_2 (j := 2) rfl rfl)
