noncomputable def blX5_moveSite_2 : List Nat := [180, 0, 11, 6, 46, 100, 54, 6, 42, 21, 6, 182, 0, 131, 153, 0, 6, 167, 0, 34, 42, 21, 6, 182, 0, 153, 21, 4, 4, 21, 6, 120, 128, 54, 4, 42, 21, 4, 182, 0, 156, 153, 0, 10, 42, 21, 4, 182, 0, 159, 172]
set_option maxRecDepth 100000 in
theorem bcX5_moveSite_2 : ((cX5_moveSite.data.toList.drop 96).take blX5_moveSite_2.length).map UInt8.toNat = blX5_moveSite_2 := by decide +kernel
noncomputable def blX5_moveSite_3 : List Nat := [0, 159, 172, 132, 5, 1, 167, 255, 152, 42, 182, 0, 162, 42, 5, 181, 0, 22, 42, 180, 0, 11, 6, 46, 4, 100, 42, 180, 0, 18, 100, 54, 5, 4, 5, 42, 180, 0, 18, 104, 96, 21, 5, 96, 42, 180, 0, 11, 6, 46, 96]
set_option maxRecDepth 100000 in
theorem bcX5_moveSite_3 : ((cX5_moveSite.data.toList.drop 144).take blX5_moveSite_3.length).map UInt8.toNat = blX5_moveSite_3 := by decide +kernel
noncomputable def blX5_moveSite_0 : List Nat := [42, 3, 181, 0, 18, 42, 3, 181, 0, 22, 42, 27, 28, 29, 182, 0, 150, 42, 27, 182, 0, 99, 153, 0, 5, 3, 172, 42, 180, 0, 11, 16, 12, 92, 46, 4, 96, 79, 4, 27, 120, 54, 4, 4, 54, 5, 21, 5, 42, 180, 0]
set_option maxRecDepth 100000 in
theorem bcX5_moveSite_0 : ((cX5_moveSite.data.toList.drop 0).take blX5_moveSite_0.length).map UInt8.toNat = blX5_moveSite_0 := by decide +kernel
noncomputable def blX5_moveSite_1 : List Nat := [42, 180, 0, 11, 6, 46, 162, 0, 99, 21, 5, 16, 8, 162, 0, 92, 42, 182, 0, 83, 154, 0, 85, 27, 21, 5, 96, 42, 180, 0, 11, 6, 46, 162, 0, 10, 27, 21, 5, 96, 167, 0, 14, 27, 21, 5, 96, 42, 180, 0, 11]
set_option maxRecDepth 100000 in
theorem bcX5_moveSite_1 : ((cX5_moveSite.data.toList.drop 48).take blX5_moveSite_1.length).map UInt8.toNat = blX5_moveSite_1 := by decide +kernel
noncomputable def blX5_moveSite_4 : List Nat := [6, 46, 96, 172]
set_option maxRecDepth 100000 in
theorem bcX5_moveSite_4 : ((cX5_moveSite.data.toList.drop 192).take blX5_moveSite_4.length).map UInt8.toNat = blX5_moveSite_4 := by decide +kernel
noncomputable def blX5_hearByHand_0 : List Nat := [42, 182, 0, 162, 5, 42, 180, 0, 11, 6, 46, 104, 172]
set_option maxRecDepth 100000 in
theorem bcX5_hearByHand_0 : ((cX5_hearByHand.data.toList.drop 0).take blX5_hearByHand_0.length).map UInt8.toNat = blX5_hearByHand_0 := by decide +kernel
noncomputable def blX5_startCounts_0 : List Nat := [42, 180, 0, 11, 5, 27, 79, 42, 180, 0, 11, 16, 8, 3, 79, 42, 180, 0, 11, 16, 9, 3, 79, 42, 180, 0, 11, 16, 10, 3, 79, 3, 61, 28, 42, 182, 0, 45, 162, 0, 25, 42, 28, 16, 6, 3, 182, 0, 52, 42, 28]
set_option maxRecDepth 100000 in
theorem bcX5_startCounts_0 : ((cX5_startCounts.data.toList.drop 0).take blX5_startCounts_0.length).map UInt8.toNat = blX5_startCounts_0 := by decide +kernel
noncomputable def blX5_startCounts_1 : List Nat := [52, 42, 28, 16, 7, 3, 182, 0, 52, 132, 2, 1, 167, 255, 229, 177]
set_option maxRecDepth 100000 in
theorem bcX5_startCounts_1 : ((cX5_startCounts.data.toList.drop 48).take blX5_startCounts_1.length).map UInt8.toNat = blX5_startCounts_1 := by decide +kernel
noncomputable def blX5_doAct_0 : List Nat := [3, 54, 5, 27, 170, 0, 0, 0, 0, 0, 0, 133, 0, 0, 0, 0, 0, 0, 0, 6, 0, 0, 0, 44, 0, 0, 0, 57, 0, 0, 0, 66, 0, 0, 0, 82, 0, 0, 0, 98, 0, 0, 0, 109, 0, 0, 0, 117, 42, 28, 29]
set_option maxRecDepth 100000 in
theorem bcX5_doAct_0 : ((cX5_doAct.data.toList.drop 0).take blX5_doAct_0.length).map UInt8.toNat = blX5_doAct_0 := by decide +kernel
noncomputable def blX5_doAct_1 : List Nat := [42, 28, 29, 21, 4, 182, 0, 137, 54, 5, 167, 0, 79, 42, 182, 0, 140, 54, 5, 167, 0, 70, 42, 180, 0, 11, 4, 28, 79, 42, 182, 0, 140, 54, 5, 167, 0, 54, 42, 180, 0, 11, 3, 28, 79, 42, 182, 0, 140, 54, 5]
set_option maxRecDepth 100000 in
theorem bcX5_doAct_1 : ((cX5_doAct.data.toList.drop 48).take blX5_doAct_1.length).map UInt8.toNat = blX5_doAct_1 := by decide +kernel
noncomputable def blX5_doAct_2 : List Nat := [140, 54, 5, 167, 0, 38, 42, 28, 29, 182, 0, 143, 54, 5, 167, 0, 27, 42, 28, 182, 0, 146, 167, 0, 19, 42, 180, 0, 11, 16, 7, 92, 46, 4, 28, 120, 130, 79, 167, 0, 3, 42, 180, 0, 11, 16, 11, 92, 46, 21, 5]
set_option maxRecDepth 100000 in
theorem bcX5_doAct_2 : ((cX5_doAct.data.toList.drop 96).take blX5_doAct_2.length).map UInt8.toNat = blX5_doAct_2 := by decide +kernel
noncomputable def blX5_doAct_3 : List Nat := [46, 21, 5, 96, 79, 21, 5, 172]
set_option maxRecDepth 100000 in
theorem bcX5_doAct_3 : ((cX5_doAct.data.toList.drop 144).take blX5_doAct_3.length).map UInt8.toNat = blX5_doAct_3 := by decide +kernel
def dl_X5_doAct_20_st04_0 : List (Nat × Instr × Nat) := [(4, .tableswitch 133 0 6 #[44, 57, 66, 82, 98, 109, 117], 44)]
set_option maxRecDepth 100000 in
theorem dall_X5_doAct_20_st04_0 : dchk cX5_doAct dl_X5_doAct_20_st04_0 = true := by decide +kernel
theorem dX5_doAct_4 : decode cX5_doAct 4 = .ok (.tableswitch 133 0 6 #[44, 57, 66, 82, 98, 109, 117], 44) := dchk_at dall_X5_doAct_20_st04_0 (k := 0) rfl
def J_X5_moveSite_102_r47 (K : Nat) (k0 : Int32) (x4 : Int32) (x5 : Int32) (c_row : Nat → Int32) (c_partners : Nat → Int32) (c_askedCount : Int32) (c_share : Nat → Int32) (c_leftOver : Nat → Int32) : Option ((Int32 × Int32 × (Nat → Int32) × Int32 × (Nat → Int32) × (Nat → Int32)) ⊕ (Nat × Int32 × (Nat → Int32) × Int32 × (Nat → Int32) × (Nat → Int32))) :=
  bd1 (F_X5_isFrozen k0 c_row) (fun r_15 => if r_15 = (0 : Int32) then bd2 (F_X5_noteAsked k0 c_partners c_askedCount) (fun w_19 w_20 => bd3 (F_X5_canShare K (x4 ||| ((1 : Int32) <<< (k0 &&& (31 : Int32)))) c_row c_share c_leftOver) (fun r_22 w_23 w_24 => if r_22 = (0 : Int32) then some (.inl (x4 ||| ((1 : Int32) <<< (k0 &&& (31 : Int32))), x5 + (1 : Int32), w_19, w_20, w_23, w_24)) else some (.inr (0, x4 ||| ((1 : Int32) <<< (k0 &&& (31 : Int32))), w_19, w_20, w_23, w_24)))) else some (.inl (x4, x5 + (1 : Int32), c_partners, c_askedCount, c_share, c_leftOver)))
def B_X5_moveSite_46 (K : Nat) (p1 : Int32) (c_row : Nat → Int32) (x4 : Int32) (x5 : Int32) (c_partners : Nat → Int32) (c_askedCount : Int32) (c_share : Nat → Int32) (c_leftOver : Nat → Int32) : Option ((Int32 × Int32 × (Nat → Int32) × Int32 × (Nat → Int32) × (Nat → Int32)) ⊕ (Nat × Int32 × (Nat → Int32) × Int32 × (Nat → Int32) × (Nat → Int32))) :=
  if c_row 3 ≤ x5 then some (.inr (1, x4, c_partners, c_askedCount, c_share, c_leftOver)) else if (8 : Int32) ≤ x5 then some (.inr (1, x4, c_partners, c_askedCount, c_share, c_leftOver)) else bd1 (F_X5_isAbove c_row) (fun r_10 => if r_10 = (0 : Int32) then if c_row 3 ≤ p1 + x5 then J_X5_moveSite_102_r47 K ((p1 + x5) - (c_row 3)) x4 x5 c_row c_partners c_askedCount c_share c_leftOver else J_X5_moveSite_102_r47 K (p1 + x5) x4 x5 c_row c_partners c_askedCount c_share c_leftOver else some (.inr (1, x4, c_partners, c_askedCount, c_share, c_leftOver)))
def J_X5_moveSite_153 (K : Nat) (c_row : Nat → Int32) (c_partners : Nat → Int32) (c_askedCount : Int32) (c_share : Nat → Int32) (c_leftOver : Nat → Int32) : Option (Int32 × (Nat → Int32) × (Nat → Int32) × Int32 × Int32 × (Nat → Int32) × (Nat → Int32)) :=
  bd1 (F_X5_hearAll K c_row) (fun w_39 => some ((((1 : Int32) + ((2 : Int32) * c_askedCount)) + (((w_39 3) - (1 : Int32)) - c_askedCount)) + (w_39 3), w_39, c_partners, c_askedCount, (2 : Int32), c_share, c_leftOver))
def F_X5_moveSite (K : Nat) (p1 : Int32) (p2 : Int32) (p3 : Int32) (c_row : Nat → Int32) (c_partners : Nat → Int32) (c_askedCount : Int32) (c_outcome : Int32) (c_share : Nat → Int32) (c_leftOver : Nat → Int32) : Option (Int32 × (Nat → Int32) × (Nat → Int32) × Int32 × Int32 × (Nat → Int32) × (Nat → Int32)) :=
  bd1 (F_X5_shift p1 p2 p3 c_row) (fun w_1 => bd1 (F_X5_isQuiet p1 w_1) (fun r_3 => if r_3 = (0 : Int32) then nmF (upd w_1 12 ((w_1 12) + (1 : Int32))) (fun f_7 => bd6 (lpF (fun u9 : Int32 × Int32 × (Nat → Int32) × Int32 × (Nat → Int32) × (Nat → Int32) => B_X5_moveSite_46 K p1 f_7 u9.1 u9.2.1 u9.2.2.1 u9.2.2.2.1 u9.2.2.2.2.1 u9.2.2.2.2.2) K ((1 : Int32) <<< (p1 &&& (31 : Int32)), (1 : Int32), c_partners, (0 : Int32), c_share, c_leftOver)) (fun t_28 x4_29 c_partners_30 c_askedCount_31 c_share_32 c_leftOver_33 => if t_28 = 0 then bd3 (F_X5_balance K x4_29 f_7 c_askedCount_31 (0 : Int32) c_share_32 c_leftOver_33) (fun r_35 w_36 w_37 => some (r_35, w_36, c_partners_30, c_askedCount_31, w_37, c_share_32, c_leftOver_33)) else if t_28 = 1 then J_X5_moveSite_153 K f_7 c_partners_30 c_askedCount_31 c_share_32 c_leftOver_33 else none)) else some ((0 : Int32), w_1, c_partners, (0 : Int32), (0 : Int32), c_share, c_leftOver)))
abbrev w_X5_moveSite (E : EE) (a_ a_row a_partners a_share a_leftOver : Nat) (c_askedCount : Int32) (c_outcome : Int32) (c_row : Nat → Int32) (c_partners : Nat → Int32) (c_share : Nat → Int32) (c_leftOver : Nat → Int32) : va_W := [k_X5 a_ a_row a_partners c_askedCount c_outcome a_share a_leftOver, k_I E a_row 81 c_row, k_I E a_partners 8 c_partners, k_I E a_share 2 c_share, k_I E a_leftOver 2 c_leftOver]
def v_f_X5_moveSite : List Cond := List.cons (.code yX5_moveSite cX5_moveSite 7 (some .int)) (HAppend.hAppend (α := List Cond) (β := List Cond) (γ := List Cond) [.fieldLink RX5 18 "HushWatch$State" "askedCount" "I", .fieldLink RX5 22 "HushWatch$State" "outcome" "I", .fieldLink RX5 11 "HushWatch$State" "row" "[I", .methodLink RX5 150 yX5_shift, .instanceMethod yX5_shift, .selects RX5 yX5_shift yX5_shift, .initialized RX5, .methodLink RX5 99 yX5_isQuiet, .instanceMethod yX5_isQuiet, .selects RX5 yX5_isQuiet yX5_isQuiet, .methodLink RX5 83 yX5_isAbove, .instanceMethod yX5_isAbove, .selects RX5 yX5_isAbove yX5_isAbove, .methodLink RX5 131 yX5_isFrozen, .instanceMethod yX5_isFrozen, .selects RX5 yX5_isFrozen yX5_isFrozen, .methodLink RX5 153 yX5_noteAsked, .instanceMethod yX5_noteAsked, .selects RX5 yX5_noteAsked yX5_noteAsked, .methodLink RX5 156 yX5_canShare, .instanceMethod yX5_canShare, .selects RX5 yX5_canShare yX5_canShare, .methodLink RX5 159 yX5_balance, .instanceMethod yX5_balance, .selects RX5 yX5_balance yX5_balance, .methodLink RX5 162 yX5_hearAll, .instanceMethod yX5_hearAll, .selects RX5 yX5_hearAll yX5_hearAll] (HAppend.hAppend (α := List Cond) (β := List Cond) (γ := List Cond) wsX50 (HAppend.hAppend (α := List Cond) (β := List Cond) (γ := List Cond) v_f_X5_shift (HAppend.hAppend (α := List Cond) (β := List Cond) (γ := List Cond) v_f_X5_isQuiet (HAppend.hAppend (α := List Cond) (β := List Cond) (γ := List Cond) v_f_X5_isAbove (HAppend.hAppend (α := List Cond) (β := List Cond) (γ := List Cond) v_f_X5_isFrozen (HAppend.hAppend (α := List Cond) (β := List Cond) (γ := List Cond) v_f_X5_noteAsked (HAppend.hAppend (α := List Cond) (β := List Cond) (γ := List Cond) v_f_X5_canShare (HAppend.hAppend (α := List Cond) (β := List Cond) (γ := List Cond) v_f_X5_balance (HAppend.hAppend (α := List Cond) (β := List Cond) (γ := List Cond) v_f_X5_hearAll []))))))))))
theorem gw_f_X5_moveSite : v_f_X5_moveSite.all goodWord = true := gw_c2 (by decide +kernel) (gw_ap gw_wsX50 (gw_ap gw_f_X5_shift (gw_ap gw_f_X5_isQuiet (gw_ap gw_f_X5_isAbove (gw_ap gw_f_X5_isFrozen (gw_ap gw_f_X5_noteAsked (gw_ap gw_f_X5_canShare (gw_ap gw_f_X5_balance (gw_ap gw_f_X5_hearAll gw_nil)))))))))
theorem i_f_X5_moveSite_X5 : ∀ w ∈ wsX50, w ∈ v_f_X5_moveSite := fun _ h => List.mem_cons_of_mem _ (List.mem_append_right _ (List.mem_append_left _ h))
theorem g_f_X5_moveSite_f_X5_shift_150 : GoodIn v_f_X5_moveSite (wsV RX5 150 RX5 yX5_shift v_f_X5_shift) := goodIn_in gw_f_X5_moveSite (in4 4 5 6 7 rfl rfl rfl rfl (fun _ h => List.mem_cons_of_mem _ (List.mem_append_right _ (List.mem_append_right _ (List.mem_append_left _ h)))))
theorem g_f_X5_moveSite_f_X5_isQuiet_99 : GoodIn v_f_X5_moveSite (wsV RX5 99 RX5 yX5_isQuiet v_f_X5_isQuiet) := goodIn_in gw_f_X5_moveSite (in4 8 9 10 7 rfl rfl rfl rfl (fun _ h => List.mem_cons_of_mem _ (List.mem_append_right _ (List.mem_append_right _ (List.mem_append_right _ (List.mem_append_left _ h))))))
theorem g_f_X5_moveSite_f_X5_isAbove_83 : GoodIn v_f_X5_moveSite (wsV RX5 83 RX5 yX5_isAbove v_f_X5_isAbove) := goodIn_in gw_f_X5_moveSite (in4 11 12 13 7 rfl rfl rfl rfl (fun _ h => List.mem_cons_of_mem _ (List.mem_append_right _ (List.mem_append_right _ (List.mem_append_right _ (List.mem_append_right _ (List.mem_append_left _ h)))))))
theorem g_f_X5_moveSite_f_X5_isFrozen_131 : GoodIn v_f_X5_moveSite (wsV RX5 131 RX5 yX5_isFrozen v_f_X5_isFrozen) := goodIn_in gw_f_X5_moveSite (in4 14 15 16 7 rfl rfl rfl rfl (fun _ h => List.mem_cons_of_mem _ (List.mem_append_right _ (List.mem_append_right _ (List.mem_append_right _ (List.mem_append_right _ (List.mem_append_right _ (List.mem_append_left _ h))))))))
theorem g_f_X5_moveSite_f_X5_noteAsked_153 : GoodIn v_f_X5_moveSite (wsV RX5 153 RX5 yX5_noteAsked v_f_X5_noteAsked) := goodIn_in gw_f_X5_moveSite (in4 17 18 19 7 rfl rfl rfl rfl (fun _ h => List.mem_cons_of_mem _ (List.mem_append_right _ (List.mem_append_right _ (List.mem_append_right _ (List.mem_append_right _ (List.mem_append_right _ (List.mem_append_right _ (List.mem_append_left _ h)))))))))
theorem g_f_X5_moveSite_f_X5_canShare_156 : GoodIn v_f_X5_moveSite (wsV RX5 156 RX5 yX5_canShare v_f_X5_canShare) := goodIn_in gw_f_X5_moveSite (in4 20 21 22 7 rfl rfl rfl rfl (fun _ h => List.mem_cons_of_mem _ (List.mem_append_right _ (List.mem_append_right _ (List.mem_append_right _ (List.mem_append_right _ (List.mem_append_right _ (List.mem_append_right _ (List.mem_append_right _ (List.mem_append_left _ h))))))))))
theorem g_f_X5_moveSite_f_X5_balance_159 : GoodIn v_f_X5_moveSite (wsV RX5 159 RX5 yX5_balance v_f_X5_balance) := goodIn_in gw_f_X5_moveSite (in4 23 24 25 7 rfl rfl rfl rfl (fun _ h => List.mem_cons_of_mem _ (List.mem_append_right _ (List.mem_append_right _ (List.mem_append_right _ (List.mem_append_right _ (List.mem_append_right _ (List.mem_append_right _ (List.mem_append_right _ (List.mem_append_right _ (List.mem_append_left _ h)))))))))))
theorem g_f_X5_moveSite_f_X5_hearAll_162 : GoodIn v_f_X5_moveSite (wsV RX5 162 RX5 yX5_hearAll v_f_X5_hearAll) := goodIn_in gw_f_X5_moveSite (in4 26 27 28 7 rfl rfl rfl rfl (fun _ h => List.mem_cons_of_mem _ (List.mem_append_right _ (List.mem_append_right _ (List.mem_append_right _ (List.mem_append_right _ (List.mem_append_right _ (List.mem_append_right _ (List.mem_append_right _ (List.mem_append_right _ (List.mem_append_right _ (List.mem_append_left _ h))))))))))))
theorem hd_X5_moveSite : yX5_moveSite.cls = RX5 ∧ yX5_moveSite.cls ≠ "java/lang/invoke/MethodHandle" ∧ yX5_moveSite.cls ≠ "java/lang/invoke/VarHandle" ∧ (parseMethodDescriptor yX5_moveSite.desc).map (fun d => d.parameters.length) = some 3 := by decide +kernel
set_option maxHeartbeats 4000000 in
set_option maxRecDepth 100000 in
theorem j_X5_moveSite_102_r47 {p : Program} (l : Launch) {e : Env} {s : State} {m : MethodId} {below : List Frame} {meth : Method} {c : Code} {Q : State → Prop} (E : EE) (K : Nat) {a_ a_row a_partners a_share a_leftOver : Nat} {p1 : Int32} {p2 : Int32} {p3 : Int32} {k0 : Int32} {x4 : Int32} {x5 : Int32} {c_row : Nat → Int32} {c_partners : Nat → Int32} {c_askedCount : Int32} {c_outcome : Int32} {c_share : Nat → Int32} {c_leftOver : Nat → Int32} (hx : p.tables.exec = Jvm.exec) (hb : c.code = cX5_moveSite) (hml : c.maxLocals = 7) (hown : s.vm.findClass RX5 = some m.cls) (hts : ∀ w ∈ v_f_X5_moveSite, w.before #[Value.ref a_, Value.int p1, Value.int p2, Value.int p3] s = true) (hK : va_K E.1 vwCl (TY E) s) (hN : NX s) {A : Nat → Prop} (hA : ∀ q : Nat, s.heap.size ≤ q → A q) {xx : (Int32 × Int32 × (Nat → Int32) × Int32 × (Nat → Int32) × (Nat → Int32)) ⊕ (Nat × Int32 × (Nat → Int32) × Int32 × (Nat → Int32) × (Nat → Int32))} (hC : ∀ (x4 : Int32), ∀ (x5 : Int32), ∀ (c_partners : Nat → Int32), ∀ (c_askedCount : Int32), ∀ (c_share : Nat → Int32), ∀ (c_leftOver : Nat → Int32), xx = .inl (x4, x5, c_partners, c_askedCount, c_share, c_leftOver) → ∀ (H : Heap) (locs : List Loc) (ls : Array Slot), va_P E.1 vwCl (w_X5_moveSite E a_ a_row a_partners a_share a_leftOver c_askedCount c_outcome c_row c_partners c_share c_leftOver) H → va_D A (w_X5_moveSite E a_ a_row a_partners a_share a_leftOver c_askedCount c_outcome c_row c_partners c_share c_leftOver) → va_S A s.heap H locs → lv_has ls 7 [(0, .ref a_), (1, .int p1), (4, .int x4), (5, .int x5)] → W p l e ({ frames := 3, cells := 0, slots := 0, locals := 73 } : Room) s m #[Value.ref a_, Value.int p1, Value.int p2, Value.int p3] below meth c H locs 0 0 Q (F0 m 46 ls [])) (hE : ∀ (t9 : Nat), ∀ (x4 : Int32), ∀ (c_partners : Nat → Int32), ∀ (c_askedCount : Int32), ∀ (c_share : Nat → Int32), ∀ (c_leftOver : Nat → Int32), xx = .inr (t9, x4, c_partners, c_askedCount, c_share, c_leftOver) → ((t9 = 0 → ∀ (H : Heap) (locs : List Loc) (ls : Array Slot), va_P E.1 vwCl (w_X5_moveSite E a_ a_row a_partners a_share a_leftOver c_askedCount c_outcome c_row c_partners c_share c_leftOver) H → va_D A (w_X5_moveSite E a_ a_row a_partners a_share a_leftOver c_askedCount c_outcome c_row c_partners c_share c_leftOver) → va_S A s.heap H locs → lv_has ls 7 [(0, .ref a_), (4, .int x4)] → W p l e ({ frames := 3, cells := 0, slots := 0, locals := 73 } : Room) s m #[Value.ref a_, Value.int p1, Value.int p2, Value.int p3] below meth c H locs 0 0 Q (F0 m 140 ls [])) ∧ (t9 = 1 → ∀ (H : Heap) (locs : List Loc) (ls : Array Slot), va_P E.1 vwCl (w_X5_moveSite E a_ a_row a_partners a_share a_leftOver c_askedCount c_outcome c_row c_partners c_share c_leftOver) H → va_D A (w_X5_moveSite E a_ a_row a_partners a_share a_leftOver c_askedCount c_outcome c_row c_partners c_share c_leftOver) → va_S A s.heap H locs → lv_has ls 7 [(0, .ref a_)] → W p l e ({ frames := 3, cells := 0, slots := 0, locals := 73 } : Room) s m #[Value.ref a_, Value.int p1, Value.int p2, Value.int p3] below meth c H locs 0 0 Q (F0 m 153 ls [])))) (hF : J_X5_moveSite_102_r47 K k0 x4 x5 c_row c_partners c_askedCount c_share c_leftOver = some xx) : ∀ (H : Heap) (locs : List Loc) (ls : Array Slot), va_P E.1 vwCl (w_X5_moveSite E a_ a_row a_partners a_share a_leftOver c_askedCount c_outcome c_row c_partners c_share c_leftOver) H → va_D A (w_X5_moveSite E a_ a_row a_partners a_share a_leftOver c_askedCount c_outcome c_row c_partners c_share c_leftOver) → va_S A s.heap H locs → lv_has ls 7 [(0, .ref a_), (1, .int p1), (4, .int x4), (5, .int x5)] → W p l e ({ frames := 3, cells := 0, slots := 0, locals := 73 } : Room) s m #[Value.ref a_, Value.int p1, Value.int p2, Value.int p3] below meth c H locs 0 0 Q (F0 m 102 ls [.int k0]) := by
  unfold J_X5_moveSite_102_r47 at hF
  intro H locs ls hP hD hS hl
  have h9 := fixPD (ws' := [k_X5 a_ a_row a_partners c_askedCount c_outcome a_share a_leftOver, k_I E a_row 81 c_row, k_I E a_partners 8 c_partners, k_I E a_share 2 c_share, k_I E a_leftOver 2 c_leftOver]) hP hD rfl
  clear hP hD
  obtain ⟨hP, hD⟩ := h9
  refine lv_istore (lv' := [(6, .int k0), (0, .ref a_), (1, .int p1), (4, .int x4), (5, .int x5)]) hx hb (dq_54 96 bcX5_moveSite_2 (j := 6) (i := 6) rfl rfl) hl (by decide) rfl (fun ls hl => ?_)
  refine lv_aload_n hx hb (dq_42 96 bcX5_moveSite_2 (j := 8) rfl rfl) rfl (lv_at hl 1 rfl) ?_
  refine lv_iload hx hb (dq_21 96 bcX5_moveSite_2 (j := 9) (i := 6) rfl rfl) (lv_at hl 0 rfl) ?_
  replace hF := bd1_s hF
  obtain ⟨r_15, hc_16, hF⟩ := hF
  have hPc : va_P E.1 vwCl (w_X5_isFrozen E a_ a_row a_partners a_share a_leftOver c_askedCount c_outcome c_row) H := hP.sub (ws' := [k_X5 a_ a_row a_partners c_askedCount c_outcome a_share a_leftOver, k_I E a_row 81 c_row]) [0, 1] rfl
  have hrc := va_recv hK hPc (ci := 6) (q0 := 0) rfl rfl
  refine pE_z (va_runV (As := [.int k0]) (rest := [])  ⟨hx, hb, hml, hown, hts⟩ (f_X5_isFrozen l E (a_ := a_) (a_row := a_row) (a_partners := a_partners) (a_share := a_share) (a_leftOver := a_leftOver) (p1 := k0) (c_askedCount := c_askedCount) (c_outcome := c_outcome) (c_row := c_row) hc_16) (cwV 1 hts g_f_X5_moveSite_f_X5_isFrozen_131 rfl rfl rfl hd_X5_isFrozen ⟨Nat.le_of_ble_eq_true rfl, Nat.le_of_ble_eq_true rfl⟩) ⟨pP.blind, hrc, (pP.pre ⟨hK, hN⟩ hPc)⟩ rfl rfl hl.1 rfl (lv_room (Nat.le_of_ble_eq_true rfl)) (dq_182 96 bcX5_moveSite_2 (j := 11) (i := 131) rfl rfl rfl) ⟨Nat.le_of_ble_eq_true rfl, Nat.le_of_ble_eq_true rfl⟩) (fun hb_17 => ?_)
  refine lv_if_eq (tgt := 116) hx hb (dq_153 96 bcX5_moveSite_2 (j := 14) (i := 6) rfl rfl rfl) (by decide) (fun c_18 => ?_) (fun c_18 => ?_)
  ·
    replace hF := ip c_18 hF
    refine lv_aload_n hx hb (dq_42 96 bcX5_moveSite_2 (j := 20) rfl rfl) rfl (lv_at hl 1 rfl) ?_
    refine lv_iload hx hb (dq_21 96 bcX5_moveSite_2 (j := 21) (i := 6) rfl rfl) (lv_at hl 0 rfl) ?_
    replace hF := bd2_s hF
    obtain ⟨w_19, w_20, hc_21, hF⟩ := hF
    obtain ⟨hPc, hDc, hFc⟩ := wcut (wc := (w_X5_noteAsked E a_ a_row a_partners a_share a_leftOver c_askedCount c_outcome c_partners)) hP hD hS hA [0, 2] (by decide) rfl
    have hrc := va_recv hK hPc (ci := 6) (q0 := 0) rfl rfl
    refine cE_v (wc := (w_X5_noteAsked E a_ a_row a_partners a_share a_leftOver c_askedCount c_outcome c_partners)) (wr := [k_I E a_row 81 c_row, k_I E a_share 2 c_share, k_I E a_leftOver 2 c_leftOver]) (w1 := (w_X5_noteAsked E a_ a_row a_partners a_share a_leftOver w_20 c_outcome w_19)) (va_runV (As := [.int k0]) (rest := [])  ⟨hx, hb, hml, hown, hts⟩ (f_X5_noteAsked l E H.size (a_ := a_) (a_row := a_row) (a_partners := a_partners) (a_share := a_share) (a_leftOver := a_leftOver) (p1 := k0) (c_askedCount := c_askedCount) (c_outcome := c_outcome) (c_partners := c_partners) hc_21) (cwV 1 hts g_f_X5_moveSite_f_X5_noteAsked_153 rfl rfl rfl hd_X5_noteAsked ⟨Nat.le_of_ble_eq_true rfl, Nat.le_of_ble_eq_true rfl⟩) ⟨pW.blind, hrc, (pW.pre ⟨hK, hN⟩ hPc hDc)⟩ rfl rfl hl.1 rfl (lv_room (Nat.le_of_ble_eq_true rfl)) (dq_182 96 bcX5_moveSite_2 (j := 23) (i := 153) rfl rfl rfl) ⟨Nat.le_of_ble_eq_true rfl, Nat.le_of_ble_eq_true rfl⟩) hS hFc hP hD [0, 2] [1, 3, 4] rfl rfl (by decide) (by decide) (fun H locs hP hD hS => ?_)
    have h9 := fixPD (ws' := [k_I E a_row 81 c_row, k_I E a_share 2 c_share, k_I E a_leftOver 2 c_leftOver, k_X5 a_ a_row a_partners w_20 c_outcome a_share a_leftOver, k_I E a_partners 8 w_19]) hP hD rfl
    clear hP hD
    obtain ⟨hP, hD⟩ := h9
    refine lv_iload hx hb (dq_21 96 bcX5_moveSite_2 (j := 26) (i := 4) rfl rfl) (lv_at hl 3 rfl) ?_
    refine lv_iconst (v := 1) hx hb (dq_4 96 bcX5_moveSite_2 (j := 28) rfl rfl) (by decide) ?_
    refine lv_iload hx hb (dq_21 96 bcX5_moveSite_2 (j := 29) (i := 6) rfl rfl) (lv_at hl 0 rfl) ?_
    refine lv_ishl hx hb (dq_120 96 bcX5_moveSite_2 (j := 31) rfl rfl) ?_
    refine lv_ior hx hb (dq_128 96 bcX5_moveSite_2 (j := 32) rfl rfl) ?_
    refine lv_istore (lv' := [(4, .int (x4 ||| ((1 : Int32) <<< (k0 &&& (31 : Int32))))), (6, .int k0), (0, .ref a_), (1, .int p1), (5, .int x5)]) hx hb (dq_54 96 bcX5_moveSite_2 (j := 33) (i := 4) rfl rfl) hl (by decide) rfl (fun ls hl => ?_)
    refine lv_aload_n hx hb (dq_42 96 bcX5_moveSite_2 (j := 35) rfl rfl) rfl (lv_at hl 2 rfl) ?_
    refine lv_iload hx hb (dq_21 96 bcX5_moveSite_2 (j := 36) (i := 4) rfl rfl) (lv_at hl 0 rfl) ?_
    replace hF := bd3_s hF
    obtain ⟨r_22, w_23, w_24, hc_25, hF⟩ := hF
    obtain ⟨hPc, hDc, hFc⟩ := wcut (wc := (w_X5_canShare E a_ a_row a_partners a_share a_leftOver w_20 c_outcome c_row c_share c_leftOver)) hP hD hS hA [3, 0, 1, 2] (by decide) rfl
    have hrc := va_recv hK hPc (ci := 6) (q0 := 0) rfl rfl
    refine cE_z (wc := (w_X5_canShare E a_ a_row a_partners a_share a_leftOver w_20 c_outcome c_row c_share c_leftOver)) (wr := [k_I E a_partners 8 w_19]) (w1 := (w_X5_canShare E a_ a_row a_partners a_share a_leftOver w_20 c_outcome c_row w_23 w_24)) (va_runV (As := [.int (x4 ||| ((1 : Int32) <<< (k0 &&& (31 : Int32))))]) (rest := [])  ⟨hx, hb, hml, hown, hts⟩ (f_X5_canShare l E H.size K (a_ := a_) (a_row := a_row) (a_partners := a_partners) (a_share := a_share) (a_leftOver := a_leftOver) (p1 := x4 ||| ((1 : Int32) <<< (k0 &&& (31 : Int32)))) (c_askedCount := w_20) (c_outcome := c_outcome) (c_row := c_row) (c_share := c_share) (c_leftOver := c_leftOver) hc_25) (cwV 1 hts g_f_X5_moveSite_f_X5_canShare_156 rfl rfl rfl hd_X5_canShare ⟨Nat.le_of_ble_eq_true rfl, Nat.le_of_ble_eq_true rfl⟩) ⟨pW.blind, hrc, (pW.pre ⟨hK, hN⟩ hPc hDc)⟩ rfl rfl hl.1 rfl (lv_room (Nat.le_of_ble_eq_true rfl)) (dq_182 96 bcX5_moveSite_2 (j := 38) (i := 156) rfl rfl rfl) ⟨Nat.le_of_ble_eq_true rfl, Nat.le_of_ble_eq_true rfl⟩) hS hFc hP hD [3, 0, 1, 2] [4] rfl rfl (by decide) (by decide) (fun hb_26 H locs hP hD hS => ?_)
    have h9 := fixPD (ws' := [k_I E a_partners 8 w_19, k_X5 a_ a_row a_partners w_20 c_outcome a_share a_leftOver, k_I E a_row 81 c_row, k_I E a_share 2 w_23, k_I E a_leftOver 2 w_24]) hP hD rfl
    clear hP hD
    obtain ⟨hP, hD⟩ := h9
    refine lv_if_eq (tgt := 147) hx hb (dq_153 96 bcX5_moveSite_2 (j := 41) (i := 10) rfl rfl rfl) (by decide) (fun c_27 => ?_) (fun c_27 => ?_)
    ·
      replace hF := ip c_27 hF
      refine lv_iinc (v := x5 + (1 : Int32)) (lv' := [(5, .int (x5 + (1 : Int32))), (4, .int (x4 ||| ((1 : Int32) <<< (k0 &&& (31 : Int32))))), (6, .int k0), (0, .ref a_), (1, .int p1)]) hx hb (dq_132 144 bcX5_moveSite_3 (j := 3) (i := 1) rfl rfl rfl) hl (k := 4) rfl (rfl) (by decide) rfl (fun ls hl => ?_)
      refine lv_goto (tgt := 46) hx hb (dq_167 144 bcX5_moveSite_3 (j := 6) (i := -104) rfl rfl rfl) (by decide) ?_
      cases hF
      exact hC (x4 ||| ((1 : Int32) <<< (k0 &&& (31 : Int32)))) (x5 + (1 : Int32)) w_19 w_20 w_23 w_24 rfl H locs ls (hP.sub [1, 2, 0, 3, 4] rfl) (hD.sub [1, 2, 0, 3, 4] (by decide) rfl) hS (lv_sub hl [3, 4, 1, 0] rfl)
    ·
      replace hF := inn c_27 hF
      cases hF
      exact (hE 0 (x4 ||| ((1 : Int32) <<< (k0 &&& (31 : Int32)))) w_19 w_20 w_23 w_24 rfl).1 rfl H locs ls (hP.sub [1, 2, 0, 3, 4] rfl) (hD.sub [1, 2, 0, 3, 4] (by decide) rfl) hS (lv_sub hl [2, 0] rfl)
  ·
    replace hF := inn c_18 hF
    refine lv_goto (tgt := 147) hx hb (dq_167 96 bcX5_moveSite_2 (j := 17) (i := 34) rfl rfl rfl) (by decide) ?_
    refine lv_iinc (v := x5 + (1 : Int32)) (lv' := [(5, .int (x5 + (1 : Int32))), (6, .int k0), (0, .ref a_), (1, .int p1), (4, .int x4)]) hx hb (dq_132 144 bcX5_moveSite_3 (j := 3) (i := 1) rfl rfl rfl) hl (k := 4) rfl (rfl) (by decide) rfl (fun ls hl => ?_)
    refine lv_goto (tgt := 46) hx hb (dq_167 144 bcX5_moveSite_3 (j := 6) (i := -104) rfl rfl rfl) (by decide) ?_
    cases hF
    exact hC x4 (x5 + (1 : Int32)) c_partners c_askedCount c_share c_leftOver rfl H locs ls (hP.sub [0, 1, 2, 3, 4] rfl) (hD.sub [0, 1, 2, 3, 4] (by decide) rfl) hS (lv_sub hl [2, 3, 4, 0] rfl)

set_option maxHeartbeats 4000000 in
set_option maxRecDepth 100000 in
theorem wb_X5_moveSite_46 {p : Program} (l : Launch) {e : Env} {s : State} {m : MethodId} {below : List Frame} {meth : Method} {c : Code} {Q : State → Prop} (E : EE) (K : Nat) {a_ a_row a_partners a_share a_leftOver : Nat} {p1 : Int32} {p2 : Int32} {p3 : Int32} {x4 : Int32} {x5 : Int32} {c_row : Nat → Int32} {c_partners : Nat → Int32} {c_askedCount : Int32} {c_outcome : Int32} {c_share : Nat → Int32} {c_leftOver : Nat → Int32} (hx : p.tables.exec = Jvm.exec) (hb : c.code = cX5_moveSite) (hml : c.maxLocals = 7) (hown : s.vm.findClass RX5 = some m.cls) (hts : ∀ w ∈ v_f_X5_moveSite, w.before #[Value.ref a_, Value.int p1, Value.int p2, Value.int p3] s = true) (hK : va_K E.1 vwCl (TY E) s) (hN : NX s) {A : Nat → Prop} (hA : ∀ q : Nat, s.heap.size ≤ q → A q) {xx : (Int32 × Int32 × (Nat → Int32) × Int32 × (Nat → Int32) × (Nat → Int32)) ⊕ (Nat × Int32 × (Nat → Int32) × Int32 × (Nat → Int32) × (Nat → Int32))} (hC : ∀ (x4 : Int32), ∀ (x5 : Int32), ∀ (c_partners : Nat → Int32), ∀ (c_askedCount : Int32), ∀ (c_share : Nat → Int32), ∀ (c_leftOver : Nat → Int32), xx = .inl (x4, x5, c_partners, c_askedCount, c_share, c_leftOver) → ∀ (H : Heap) (locs : List Loc) (ls : Array Slot), va_P E.1 vwCl (w_X5_moveSite E a_ a_row a_partners a_share a_leftOver c_askedCount c_outcome c_row c_partners c_share c_leftOver) H → va_D A (w_X5_moveSite E a_ a_row a_partners a_share a_leftOver c_askedCount c_outcome c_row c_partners c_share c_leftOver) → va_S A s.heap H locs → lv_has ls 7 [(0, .ref a_), (1, .int p1), (4, .int x4), (5, .int x5)] → W p l e ({ frames := 3, cells := 0, slots := 0, locals := 73 } : Room) s m #[Value.ref a_, Value.int p1, Value.int p2, Value.int p3] below meth c H locs 0 0 Q (F0 m 46 ls [])) (hE : ∀ (t9 : Nat), ∀ (x4 : Int32), ∀ (c_partners : Nat → Int32), ∀ (c_askedCount : Int32), ∀ (c_share : Nat → Int32), ∀ (c_leftOver : Nat → Int32), xx = .inr (t9, x4, c_partners, c_askedCount, c_share, c_leftOver) → ((t9 = 0 → ∀ (H : Heap) (locs : List Loc) (ls : Array Slot), va_P E.1 vwCl (w_X5_moveSite E a_ a_row a_partners a_share a_leftOver c_askedCount c_outcome c_row c_partners c_share c_leftOver) H → va_D A (w_X5_moveSite E a_ a_row a_partners a_share a_leftOver c_askedCount c_outcome c_row c_partners c_share c_leftOver) → va_S A s.heap H locs → lv_has ls 7 [(0, .ref a_), (4, .int x4)] → W p l e ({ frames := 3, cells := 0, slots := 0, locals := 73 } : Room) s m #[Value.ref a_, Value.int p1, Value.int p2, Value.int p3] below meth c H locs 0 0 Q (F0 m 140 ls [])) ∧ (t9 = 1 → ∀ (H : Heap) (locs : List Loc) (ls : Array Slot), va_P E.1 vwCl (w_X5_moveSite E a_ a_row a_partners a_share a_leftOver c_askedCount c_outcome c_row c_partners c_share c_leftOver) H → va_D A (w_X5_moveSite E a_ a_row a_partners a_share a_leftOver c_askedCount c_outcome c_row c_partners c_share c_leftOver) → va_S A s.heap H locs → lv_has ls 7 [(0, .ref a_)] → W p l e ({ frames := 3, cells := 0, slots := 0, locals := 73 } : Room) s m #[Value.ref a_, Value.int p1, Value.int p2, Value.int p3] below meth c H locs 0 0 Q (F0 m 153 ls [])))) (hF : B_X5_moveSite_46 K p1 c_row x4 x5 c_partners c_askedCount c_share c_leftOver = some xx) : ∀ (H : Heap) (locs : List Loc) (ls : Array Slot), va_P E.1 vwCl (w_X5_moveSite E a_ a_row a_partners a_share a_leftOver c_askedCount c_outcome c_row c_partners c_share c_leftOver) H → va_D A (w_X5_moveSite E a_ a_row a_partners a_share a_leftOver c_askedCount c_outcome c_row c_partners c_share c_leftOver) → va_S A s.heap H locs → lv_has ls 7 [(0, .ref a_), (1, .int p1), (4, .int x4), (5, .int x5)] → W p l e ({ frames := 3, cells := 0, slots := 0, locals := 73 } : Room) s m #[Value.ref a_, Value.int p1, Value.int p2, Value.int p3] below meth c H locs 0 0 Q (F0 m 46 ls []) := by
  unfold B_X5_moveSite_46 at hF
  intro H locs ls hP hD hS hl
  have h9 := fixPD (ws' := [k_X5 a_ a_row a_partners c_askedCount c_outcome a_share a_leftOver, k_I E a_row 81 c_row, k_I E a_partners 8 c_partners, k_I E a_share 2 c_share, k_I E a_leftOver 2 c_leftOver]) hP hD rfl
  clear hP hD
  obtain ⟨hP, hD⟩ := h9
  refine lv_iload hx hb (dq_21 0 bcX5_moveSite_0 (j := 46) (i := 5) rfl rfl) (lv_at hl 3 rfl) ?_
  refine lv_aload_n hx hb (dq_42 48 bcX5_moveSite_1 (j := 0) rfl rfl) rfl (lv_at hl 0 rfl) ?_
  refine gt_X5_0 (v := .ref a_row) hx hb hts i_f_X5_moveSite_X5 hown hK hP 0 rfl (hts (.fieldLink RX5 11 "HushWatch$State" "row" "[I") (List.mem_of_getElem? (i := 3) rfl)) rfl (dq_180 48 bcX5_moveSite_1 (j := 1) (i := 11) rfl rfl rfl) ?_
  refine lv_iconst (v := 3) hx hb (dq_6 48 bcX5_moveSite_1 (j := 4) rfl rfl) (by decide) ?_
  refine va_iald hx hb hK hP 1 0 rfl rfl (vin rfl) (dq_46 48 bcX5_moveSite_1 (j := 5) rfl rfl) ?_
  refine W.eq (g2 := F0 m 54 ls [.int (c_row 3), .int x5]) rfl ?_
  refine lv_icmp_ge (tgt := 153) hx hb (dq_162 48 bcX5_moveSite_1 (j := 6) (i := 99) rfl rfl rfl) (by decide) (fun c_8 => ?_) (fun c_8 => ?_)
  ·
    replace hF := ip c_8 hF
    cases hF
    exact (hE 1 x4 c_partners c_askedCount c_share c_leftOver rfl).2 rfl H locs ls (hP.sub [0, 1, 2, 3, 4] rfl) (hD.sub [0, 1, 2, 3, 4] (by decide) rfl) hS (lv_sub hl [0] rfl)
  ·
    replace hF := inn c_8 hF
    refine lv_iload hx hb (dq_21 48 bcX5_moveSite_1 (j := 9) (i := 5) rfl rfl) (lv_at hl 3 rfl) ?_
    refine lv_bipush (v := 8) hx hb (dq_16 48 bcX5_moveSite_1 (j := 11) (i := 8) rfl rfl rfl) (by decide) ?_
    refine lv_icmp_ge (tgt := 153) hx hb (dq_162 48 bcX5_moveSite_1 (j := 13) (i := 92) rfl rfl rfl) (by decide) (fun c_9 => ?_) (fun c_9 => ?_)
    ·
      replace hF := ip c_9 hF
      cases hF
      exact (hE 1 x4 c_partners c_askedCount c_share c_leftOver rfl).2 rfl H locs ls (hP.sub [0, 1, 2, 3, 4] rfl) (hD.sub [0, 1, 2, 3, 4] (by decide) rfl) hS (lv_sub hl [0] rfl)
    ·
      replace hF := inn c_9 hF
      refine lv_aload_n hx hb (dq_42 48 bcX5_moveSite_1 (j := 16) rfl rfl) rfl (lv_at hl 0 rfl) ?_
      replace hF := bd1_s hF
      obtain ⟨r_10, hc_11, hF⟩ := hF
      have hPc : va_P E.1 vwCl (w_X5_isAbove E a_ a_row a_partners a_share a_leftOver c_askedCount c_outcome c_row) H := hP.sub (ws' := [k_X5 a_ a_row a_partners c_askedCount c_outcome a_share a_leftOver, k_I E a_row 81 c_row]) [0, 1] rfl
      have hrc := va_recv hK hPc (ci := 6) (q0 := 0) rfl rfl
      refine pE_z (va_runV (As := []) (rest := [])  ⟨hx, hb, hml, hown, hts⟩ (f_X5_isAbove l E (a_ := a_) (a_row := a_row) (a_partners := a_partners) (a_share := a_share) (a_leftOver := a_leftOver) (c_askedCount := c_askedCount) (c_outcome := c_outcome) (c_row := c_row) hc_11) (cwV 0 hts g_f_X5_moveSite_f_X5_isAbove_83 rfl rfl rfl hd_X5_isAbove ⟨Nat.le_of_ble_eq_true rfl, Nat.le_of_ble_eq_true rfl⟩) ⟨pP.blind, hrc, (pP.pre ⟨hK, hN⟩ hPc)⟩ rfl rfl hl.1 rfl (lv_room (Nat.le_of_ble_eq_true rfl)) (dq_182 48 bcX5_moveSite_1 (j := 17) (i := 83) rfl rfl rfl) ⟨Nat.le_of_ble_eq_true rfl, Nat.le_of_ble_eq_true rfl⟩) (fun hb_12 => ?_)
      refine lv_if_ne (tgt := 153) hx hb (dq_154 48 bcX5_moveSite_1 (j := 20) (i := 85) rfl rfl rfl) (by decide) (fun c_13 => ?_) (fun c_13 => ?_)
      ·
        replace hF := inn c_13 hF
        cases hF
        exact (hE 1 x4 c_partners c_askedCount c_share c_leftOver rfl).2 rfl H locs ls (hP.sub [0, 1, 2, 3, 4] rfl) (hD.sub [0, 1, 2, 3, 4] (by decide) rfl) hS (lv_sub hl [0] rfl)
      ·
        replace hF := ip c_13 hF
        refine lv_iload_n hx hb (dq_27 48 bcX5_moveSite_1 (j := 23) rfl rfl) rfl (lv_at hl 1 rfl) ?_
        refine lv_iload hx hb (dq_21 48 bcX5_moveSite_1 (j := 24) (i := 5) rfl rfl) (lv_at hl 3 rfl) ?_
        refine lv_iadd hx hb (dq_96 48 bcX5_moveSite_1 (j := 26) rfl rfl) ?_
        refine lv_aload_n hx hb (dq_42 48 bcX5_moveSite_1 (j := 27) rfl rfl) rfl (lv_at hl 0 rfl) ?_
        refine gt_X5_0 (v := .ref a_row) hx hb hts i_f_X5_moveSite_X5 hown hK hP 0 rfl (hts (.fieldLink RX5 11 "HushWatch$State" "row" "[I") (List.mem_of_getElem? (i := 3) rfl)) rfl (dq_180 48 bcX5_moveSite_1 (j := 28) (i := 11) rfl rfl rfl) ?_
        refine lv_iconst (v := 3) hx hb (dq_6 48 bcX5_moveSite_1 (j := 31) rfl rfl) (by decide) ?_
        refine va_iald hx hb hK hP 1 0 rfl rfl (vin rfl) (dq_46 48 bcX5_moveSite_1 (j := 32) rfl rfl) ?_
        refine W.eq (g2 := F0 m 81 ls [.int (c_row 3), .int (p1 + x5)]) rfl ?_
        refine lv_icmp_ge (tgt := 91) hx hb (dq_162 48 bcX5_moveSite_1 (j := 33) (i := 10) rfl rfl rfl) (by decide) (fun c_14 => ?_) (fun c_14 => ?_)
        ·
          replace hF := ip c_14 hF
          refine lv_iload_n hx hb (dq_27 48 bcX5_moveSite_1 (j := 43) rfl rfl) rfl (lv_at hl 1 rfl) ?_
          refine lv_iload hx hb (dq_21 48 bcX5_moveSite_1 (j := 44) (i := 5) rfl rfl) (lv_at hl 3 rfl) ?_
          refine lv_iadd hx hb (dq_96 48 bcX5_moveSite_1 (j := 46) rfl rfl) ?_
          refine lv_aload_n hx hb (dq_42 48 bcX5_moveSite_1 (j := 47) rfl rfl) rfl (lv_at hl 0 rfl) ?_
          refine gt_X5_0 (v := .ref a_row) hx hb hts i_f_X5_moveSite_X5 hown hK hP 0 rfl (hts (.fieldLink RX5 11 "HushWatch$State" "row" "[I") (List.mem_of_getElem? (i := 3) rfl)) rfl (dq_180 96 bcX5_moveSite_2 (j := 0) (i := 11) rfl rfl rfl) ?_
          refine lv_iconst (v := 3) hx hb (dq_6 96 bcX5_moveSite_2 (j := 3) rfl rfl) (by decide) ?_
          refine va_iald hx hb hK hP 1 0 rfl rfl (vin rfl) (dq_46 96 bcX5_moveSite_2 (j := 4) rfl rfl) ?_
          refine W.eq (g2 := F0 m 101 ls [.int (c_row 3), .int (p1 + x5)]) rfl ?_
          refine lv_isub hx hb (dq_100 96 bcX5_moveSite_2 (j := 5) rfl rfl) ?_
          exact j_X5_moveSite_102_r47 l E K (p1 := p1) (p2 := p2) (p3 := p3) (k0 := (p1 + x5) - (c_row 3)) (x4 := x4) (x5 := x5) (c_row := c_row) (c_partners := c_partners) (c_askedCount := c_askedCount) (c_outcome := c_outcome) (c_share := c_share) (c_leftOver := c_leftOver) hx hb hml hown hts hK hN hA hC hE hF H locs ls (hP.sub [0, 1, 2, 3, 4] rfl) (hD.sub [0, 1, 2, 3, 4] (by decide) rfl) hS (lv_sub hl [0, 1, 2, 3] rfl)
        ·
          replace hF := inn c_14 hF
          refine lv_iload_n hx hb (dq_27 48 bcX5_moveSite_1 (j := 36) rfl rfl) rfl (lv_at hl 1 rfl) ?_
          refine lv_iload hx hb (dq_21 48 bcX5_moveSite_1 (j := 37) (i := 5) rfl rfl) (lv_at hl 3 rfl) ?_
          refine lv_iadd hx hb (dq_96 48 bcX5_moveSite_1 (j := 39) rfl rfl) ?_
          refine lv_goto (tgt := 102) hx hb (dq_167 48 bcX5_moveSite_1 (j := 40) (i := 14) rfl rfl rfl) (by decide) ?_
          exact j_X5_moveSite_102_r47 l E K (p1 := p1) (p2 := p2) (p3 := p3) (k0 := p1 + x5) (x4 := x4) (x5 := x5) (c_row := c_row) (c_partners := c_partners) (c_askedCount := c_askedCount) (c_outcome := c_outcome) (c_share := c_share) (c_leftOver := c_leftOver) hx hb hml hown hts hK hN hA hC hE hF H locs ls (hP.sub [0, 1, 2, 3, 4] rfl) (hD.sub [0, 1, 2, 3, 4] (by decide) rfl) hS (lv_sub hl [0, 1, 2, 3] rfl)

set_option maxHeartbeats 4000000 in
set_option maxRecDepth 100000 in
theorem lw_X5_moveSite_46 {p : Program} (l : Launch) {e : Env} {s : State} {m : MethodId} {below : List Frame} {meth : Method} {c : Code} {Q : State → Prop} (E : EE) (K : Nat) {a_ a_row a_partners a_share a_leftOver : Nat} {p1 : Int32} {p2 : Int32} {p3 : Int32} {c_row : Nat → Int32} {c_outcome : Int32} (hx : p.tables.exec = Jvm.exec) (hb : c.code = cX5_moveSite) (hml : c.maxLocals = 7) (hown : s.vm.findClass RX5 = some m.cls) (hts : ∀ w ∈ v_f_X5_moveSite, w.before #[Value.ref a_, Value.int p1, Value.int p2, Value.int p3] s = true) (hK : va_K E.1 vwCl (TY E) s) (hN : NX s) {A : Nat → Prop} (hA : ∀ q : Nat, s.heap.size ≤ q → A q) (j9 : Nat) (x4 : Int32) (x5 : Int32) (c_partners : Nat → Int32) (c_askedCount : Int32) (c_share : Nat → Int32) (c_leftOver : Nat → Int32) (t9' : Nat) (x4' : Int32) (c_partners' : Nat → Int32) (c_askedCount' : Int32) (c_share' : Nat → Int32) (c_leftOver' : Nat → Int32) (hL : lpF (fun u9 : Int32 × Int32 × (Nat → Int32) × Int32 × (Nat → Int32) × (Nat → Int32) => B_X5_moveSite_46 K p1 c_row u9.1 u9.2.1 u9.2.2.1 u9.2.2.2.1 u9.2.2.2.2.1 u9.2.2.2.2.2) j9 (x4, x5, c_partners, c_askedCount, c_share, c_leftOver) = some (t9', x4', c_partners', c_askedCount', c_share', c_leftOver')) (hX : (t9' = 0 → ∀ (H : Heap) (locs : List Loc) (ls : Array Slot), va_P E.1 vwCl (w_X5_moveSite E a_ a_row a_partners a_share a_leftOver c_askedCount' c_outcome c_row c_partners' c_share' c_leftOver') H → va_D A (w_X5_moveSite E a_ a_row a_partners a_share a_leftOver c_askedCount' c_outcome c_row c_partners' c_share' c_leftOver') → va_S A s.heap H locs → lv_has ls 7 [(0, .ref a_), (4, .int x4')] → W p l e ({ frames := 3, cells := 0, slots := 0, locals := 73 } : Room) s m #[Value.ref a_, Value.int p1, Value.int p2, Value.int p3] below meth c H locs 0 0 Q (F0 m 140 ls [])) ∧ (t9' = 1 → ∀ (H : Heap) (locs : List Loc) (ls : Array Slot), va_P E.1 vwCl (w_X5_moveSite E a_ a_row a_partners a_share a_leftOver c_askedCount' c_outcome c_row c_partners' c_share' c_leftOver') H → va_D A (w_X5_moveSite E a_ a_row a_partners a_share a_leftOver c_askedCount' c_outcome c_row c_partners' c_share' c_leftOver') → va_S A s.heap H locs → lv_has ls 7 [(0, .ref a_)] → W p l e ({ frames := 3, cells := 0, slots := 0, locals := 73 } : Room) s m #[Value.ref a_, Value.int p1, Value.int p2, Value.int p3] below meth c H locs 0 0 Q (F0 m 153 ls []))) : ∀ (H : Heap) (locs : List Loc) (ls : Array Slot), va_P E.1 vwCl (w_X5_moveSite E a_ a_row a_partners a_share a_leftOver c_askedCount c_outcome c_row c_partners c_share c_leftOver) H → va_D A (w_X5_moveSite E a_ a_row a_partners a_share a_leftOver c_askedCount c_outcome c_row c_partners c_share c_leftOver) → va_S A s.heap H locs → lv_has ls 7 [(0, .ref a_), (1, .int p1), (4, .int x4), (5, .int x5)] → W p l e ({ frames := 3, cells := 0, slots := 0, locals := 73 } : Room) s m #[Value.ref a_, Value.int p1, Value.int p2, Value.int p3] below meth c H locs 0 0 Q (F0 m 46 ls []) := by
  exact lp_rule (P := (fun u9 : Int32 × Int32 × (Nat → Int32) × Int32 × (Nat → Int32) × (Nat → Int32) => ∀ (H : Heap) (locs : List Loc) (ls : Array Slot), va_P E.1 vwCl (w_X5_moveSite E a_ a_row a_partners a_share a_leftOver u9.2.2.2.1 c_outcome c_row u9.2.2.1 u9.2.2.2.2.1 u9.2.2.2.2.2) H → va_D A (w_X5_moveSite E a_ a_row a_partners a_share a_leftOver u9.2.2.2.1 c_outcome c_row u9.2.2.1 u9.2.2.2.2.1 u9.2.2.2.2.2) → va_S A s.heap H locs → lv_has ls 7 [(0, .ref a_), (1, .int p1), (4, .int u9.1), (5, .int u9.2.1)] → W p l e ({ frames := 3, cells := 0, slots := 0, locals := 73 } : Room) s m #[Value.ref a_, Value.int p1, Value.int p2, Value.int p3] below meth c H locs 0 0 Q (F0 m 46 ls []))) (R := (fun r9 : Nat × Int32 × (Nat → Int32) × Int32 × (Nat → Int32) × (Nat → Int32) => (r9.1 = 0 → ∀ (H : Heap) (locs : List Loc) (ls : Array Slot), va_P E.1 vwCl (w_X5_moveSite E a_ a_row a_partners a_share a_leftOver r9.2.2.2.1 c_outcome c_row r9.2.2.1 r9.2.2.2.2.1 r9.2.2.2.2.2) H → va_D A (w_X5_moveSite E a_ a_row a_partners a_share a_leftOver r9.2.2.2.1 c_outcome c_row r9.2.2.1 r9.2.2.2.2.1 r9.2.2.2.2.2) → va_S A s.heap H locs → lv_has ls 7 [(0, .ref a_), (4, .int r9.2.1)] → W p l e ({ frames := 3, cells := 0, slots := 0, locals := 73 } : Room) s m #[Value.ref a_, Value.int p1, Value.int p2, Value.int p3] below meth c H locs 0 0 Q (F0 m 140 ls [])) ∧ (r9.1 = 1 → ∀ (H : Heap) (locs : List Loc) (ls : Array Slot), va_P E.1 vwCl (w_X5_moveSite E a_ a_row a_partners a_share a_leftOver r9.2.2.2.1 c_outcome c_row r9.2.2.1 r9.2.2.2.2.1 r9.2.2.2.2.2) H → va_D A (w_X5_moveSite E a_ a_row a_partners a_share a_leftOver r9.2.2.2.1 c_outcome c_row r9.2.2.1 r9.2.2.2.2.1 r9.2.2.2.2.2) → va_S A s.heap H locs → lv_has ls 7 [(0, .ref a_)] → W p l e ({ frames := 3, cells := 0, slots := 0, locals := 73 } : Room) s m #[Value.ref a_, Value.int p1, Value.int p2, Value.int p3] below meth c H locs 0 0 Q (F0 m 153 ls [])))) (fun u9 xx hF hC hE => wb_X5_moveSite_46 l E K (p1 := p1) (p2 := p2) (p3 := p3) (x4 := u9.1) (x5 := u9.2.1) (c_row := c_row) (c_partners := u9.2.2.1) (c_askedCount := u9.2.2.2.1) (c_outcome := c_outcome) (c_share := u9.2.2.2.2.1) (c_leftOver := u9.2.2.2.2.2) hx hb hml hown hts hK hN hA (fun x4 x5 c_partners c_askedCount c_share c_leftOver q9 => hC _ q9) (fun t9 x4 c_partners c_askedCount c_share c_leftOver q9 => hE _ q9) hF) j9 (x4, x5, c_partners, c_askedCount, c_share, c_leftOver) (t9', x4', c_partners', c_askedCount', c_share', c_leftOver') hL hX

set_option maxHeartbeats 4000000 in
set_option maxRecDepth 100000 in
theorem j_X5_moveSite_153 {p : Program} (l : Launch) {e : Env} {s : State} {m : MethodId} {below : List Frame} {meth : Method} {c : Code} {Q : State → Prop} (E : EE) (K : Nat) {a_ a_row a_partners a_share a_leftOver : Nat} {p1 : Int32} {p2 : Int32} {p3 : Int32} {c_row : Nat → Int32} {c_partners : Nat → Int32} {c_askedCount : Int32} {c_outcome : Int32} {c_share : Nat → Int32} {c_leftOver : Nat → Int32} (hx : p.tables.exec = Jvm.exec) (hb : c.code = cX5_moveSite) (hml : c.maxLocals = 7) (hown : s.vm.findClass RX5 = some m.cls) (hts : ∀ w ∈ v_f_X5_moveSite, w.before #[Value.ref a_, Value.int p1, Value.int p2, Value.int p3] s = true) (hK : va_K E.1 vwCl (TY E) s) (hN : NX s) {A : Nat → Prop} (hA : ∀ q : Nat, s.heap.size ≤ q → A q) {rr : Int32} {n_row : Nat → Int32} {n_partners : Nat → Int32} {n_askedCount : Int32} {n_outcome : Int32} {n_share : Nat → Int32} {n_leftOver : Nat → Int32} (hr : meth.sig.returnType = (some .int)) (hlocks : meth.locks = false) (hQ : Q = MQ below (va_Qi (fun (q : Int32) (_u : Unit) => q = rr) (fun (_u : Unit) tt => va_P E.1 vwCl (w_X5_moveSite E a_ a_row a_partners a_share a_leftOver n_askedCount n_outcome n_row n_partners n_share n_leftOver) tt.heap ∧ va_D A (w_X5_moveSite E a_ a_row a_partners a_share a_leftOver n_askedCount n_outcome n_row n_partners n_share n_leftOver)) A) #[Value.ref a_, Value.int p1, Value.int p2, Value.int p3] s 0 0 A) (hF : J_X5_moveSite_153 K c_row c_partners c_askedCount c_share c_leftOver = some (rr, n_row, n_partners, n_askedCount, n_outcome, n_share, n_leftOver)) : ∀ (H : Heap) (locs : List Loc) (ls : Array Slot), va_P E.1 vwCl (w_X5_moveSite E a_ a_row a_partners a_share a_leftOver c_askedCount c_outcome c_row c_partners c_share c_leftOver) H → va_D A (w_X5_moveSite E a_ a_row a_partners a_share a_leftOver c_askedCount c_outcome c_row c_partners c_share c_leftOver) → va_S A s.heap H locs → lv_has ls 7 [(0, .ref a_)] → W p l e ({ frames := 3, cells := 0, slots := 0, locals := 73 } : Room) s m #[Value.ref a_, Value.int p1, Value.int p2, Value.int p3] below meth c H locs 0 0 Q (F0 m 153 ls []) := by
  unfold J_X5_moveSite_153 at hF
  intro H locs ls hP hD hS hl
  have h9 := fixPD (ws' := [k_X5 a_ a_row a_partners c_askedCount c_outcome a_share a_leftOver, k_I E a_row 81 c_row, k_I E a_partners 8 c_partners, k_I E a_share 2 c_share, k_I E a_leftOver 2 c_leftOver]) hP hD rfl
  clear hP hD
  obtain ⟨hP, hD⟩ := h9
  refine lv_aload_n hx hb (dq_42 144 bcX5_moveSite_3 (j := 9) rfl rfl) rfl (lv_at hl 0 rfl) ?_
  replace hF := bd1_s hF
  obtain ⟨w_39, hc_40, hF⟩ := hF
  obtain ⟨hPc, hDc, hFc⟩ := wcut (wc := (w_X5_hearAll E a_ a_row a_partners a_share a_leftOver c_askedCount c_outcome c_row)) hP hD hS hA [0, 1] (by decide) rfl
  have hrc := va_recv hK hPc (ci := 6) (q0 := 0) rfl rfl
  refine cE_v (wc := (w_X5_hearAll E a_ a_row a_partners a_share a_leftOver c_askedCount c_outcome c_row)) (wr := [k_I E a_partners 8 c_partners, k_I E a_share 2 c_share, k_I E a_leftOver 2 c_leftOver]) (w1 := (w_X5_hearAll E a_ a_row a_partners a_share a_leftOver c_askedCount c_outcome w_39)) (va_runV (As := []) (rest := [])  ⟨hx, hb, hml, hown, hts⟩ (f_X5_hearAll l E H.size K (a_ := a_) (a_row := a_row) (a_partners := a_partners) (a_share := a_share) (a_leftOver := a_leftOver) (c_askedCount := c_askedCount) (c_outcome := c_outcome) (c_row := c_row) hc_40) (cwV 0 hts g_f_X5_moveSite_f_X5_hearAll_162 rfl rfl rfl hd_X5_hearAll ⟨Nat.le_of_ble_eq_true rfl, Nat.le_of_ble_eq_true rfl⟩) ⟨pW.blind, hrc, (pW.pre ⟨hK, hN⟩ hPc hDc)⟩ rfl rfl hl.1 rfl (lv_room (Nat.le_of_ble_eq_true rfl)) (dq_182 144 bcX5_moveSite_3 (j := 10) (i := 162) rfl rfl rfl) ⟨Nat.le_of_ble_eq_true rfl, Nat.le_of_ble_eq_true rfl⟩) hS hFc hP hD [0, 1] [2, 3, 4] rfl rfl (by decide) (by decide) (fun H locs hP hD hS => ?_)
  have h9 := fixPD (ws' := [k_I E a_partners 8 c_partners, k_I E a_share 2 c_share, k_I E a_leftOver 2 c_leftOver, k_X5 a_ a_row a_partners c_askedCount c_outcome a_share a_leftOver, k_I E a_row 81 w_39]) hP hD rfl
  clear hP hD
  obtain ⟨hP, hD⟩ := h9
  refine lv_aload_n hx hb (dq_42 144 bcX5_moveSite_3 (j := 13) rfl rfl) rfl (lv_at hl 0 rfl) ?_
  refine lv_iconst (v := 2) hx hb (dq_5 144 bcX5_moveSite_3 (j := 14) rfl rfl) (by decide) ?_
  refine pt_X5_3 (v := .int (2 : Int32)) hx hb hts i_f_X5_moveSite_X5 hown hK hP hD hS 3 rfl (hts (.fieldLink RX5 22 "HushWatch$State" "outcome" "I") (List.mem_of_getElem? (i := 2) rfl)) rfl rfl (Nat.le_of_ble_eq_true rfl) (dq_181 144 bcX5_moveSite_3 (j := 15) (i := 22) rfl rfl rfl) (fun H locs hP hD hS => ?_)
  have h9 := fixPD (ws' := [k_I E a_partners 8 c_partners, k_I E a_share 2 c_share, k_I E a_leftOver 2 c_leftOver, k_X5 a_ a_row a_partners c_askedCount (2 : Int32) a_share a_leftOver, k_I E a_row 81 w_39]) hP hD rfl
  clear hP hD
  obtain ⟨hP, hD⟩ := h9
  refine lv_aload_n hx hb (dq_42 144 bcX5_moveSite_3 (j := 18) rfl rfl) rfl (lv_at hl 0 rfl) ?_
  refine gt_X5_0 (v := .ref a_row) hx hb hts i_f_X5_moveSite_X5 hown hK hP 3 rfl (hts (.fieldLink RX5 11 "HushWatch$State" "row" "[I") (List.mem_of_getElem? (i := 3) rfl)) rfl (dq_180 144 bcX5_moveSite_3 (j := 19) (i := 11) rfl rfl rfl) ?_
  refine lv_iconst (v := 3) hx hb (dq_6 144 bcX5_moveSite_3 (j := 22) rfl rfl) (by decide) ?_
  refine va_iald hx hb hK hP 4 0 rfl rfl (vin rfl) (dq_46 144 bcX5_moveSite_3 (j := 23) rfl rfl) ?_
  refine W.eq (g2 := F0 m 168 ls [.int (w_39 3)]) rfl ?_
  refine lv_iconst (v := 1) hx hb (dq_4 144 bcX5_moveSite_3 (j := 24) rfl rfl) (by decide) ?_
  refine lv_isub hx hb (dq_100 144 bcX5_moveSite_3 (j := 25) rfl rfl) ?_
  refine lv_aload_n hx hb (dq_42 144 bcX5_moveSite_3 (j := 26) rfl rfl) rfl (lv_at hl 0 rfl) ?_
  refine gt_X5_2 (v := .int c_askedCount) hx hb hts i_f_X5_moveSite_X5 hown hK hP 3 rfl (hts (.fieldLink RX5 18 "HushWatch$State" "askedCount" "I") (List.mem_of_getElem? (i := 1) rfl)) rfl (dq_180 144 bcX5_moveSite_3 (j := 27) (i := 18) rfl rfl rfl) ?_
  refine lv_isub hx hb (dq_100 144 bcX5_moveSite_3 (j := 30) rfl rfl) ?_
  refine lv_istore (lv' := [(5, .int (((w_39 3) - (1 : Int32)) - c_askedCount)), (0, .ref a_)]) hx hb (dq_54 144 bcX5_moveSite_3 (j := 31) (i := 5) rfl rfl) hl (by decide) rfl (fun ls hl => ?_)
  refine lv_iconst (v := 1) hx hb (dq_4 144 bcX5_moveSite_3 (j := 33) rfl rfl) (by decide) ?_
  refine lv_iconst (v := 2) hx hb (dq_5 144 bcX5_moveSite_3 (j := 34) rfl rfl) (by decide) ?_
  refine lv_aload_n hx hb (dq_42 144 bcX5_moveSite_3 (j := 35) rfl rfl) rfl (lv_at hl 1 rfl) ?_
  refine gt_X5_2 (v := .int c_askedCount) hx hb hts i_f_X5_moveSite_X5 hown hK hP 3 rfl (hts (.fieldLink RX5 18 "HushWatch$State" "askedCount" "I") (List.mem_of_getElem? (i := 1) rfl)) rfl (dq_180 144 bcX5_moveSite_3 (j := 36) (i := 18) rfl rfl rfl) ?_
  refine lv_imul hx hb (dq_104 144 bcX5_moveSite_3 (j := 39) rfl rfl) ?_
  refine lv_iadd hx hb (dq_96 144 bcX5_moveSite_3 (j := 40) rfl rfl) ?_
  refine lv_iload hx hb (dq_21 144 bcX5_moveSite_3 (j := 41) (i := 5) rfl rfl) (lv_at hl 0 rfl) ?_
  refine lv_iadd hx hb (dq_96 144 bcX5_moveSite_3 (j := 43) rfl rfl) ?_
  refine lv_aload_n hx hb (dq_42 144 bcX5_moveSite_3 (j := 44) rfl rfl) rfl (lv_at hl 1 rfl) ?_
  refine gt_X5_0 (v := .ref a_row) hx hb hts i_f_X5_moveSite_X5 hown hK hP 3 rfl (hts (.fieldLink RX5 11 "HushWatch$State" "row" "[I") (List.mem_of_getElem? (i := 3) rfl)) rfl (dq_180 144 bcX5_moveSite_3 (j := 45) (i := 11) rfl rfl rfl) ?_
  refine lv_iconst (v := 3) hx hb (dq_6 192 bcX5_moveSite_4 (j := 0) rfl rfl) (by decide) ?_
  refine va_iald hx hb hK hP 4 0 rfl rfl (vin rfl) (dq_46 192 bcX5_moveSite_4 (j := 1) rfl rfl) ?_
  refine W.eq (g2 := F0 m 194 ls [.int (w_39 3), .int (((1 : Int32) + ((2 : Int32) * c_askedCount)) + (((w_39 3) - (1 : Int32)) - c_askedCount))]) rfl ?_
  refine lv_iadd hx hb (dq_96 192 bcX5_moveSite_4 (j := 2) rfl rfl) ?_
  rw [hQ]
  have h9 := fin9 (P := fun u9 : Int32 × (Nat → Int32) × (Nat → Int32) × Int32 × Int32 × (Nat → Int32) × (Nat → Int32) => ((((1 : Int32) + ((2 : Int32) * c_askedCount)) + (((w_39 3) - (1 : Int32)) - c_askedCount)) + (w_39 3)) = u9.1 ∧ va_P E.1 vwCl (w_X5_moveSite E a_ a_row a_partners a_share a_leftOver u9.2.2.2.1 u9.2.2.2.2.1 u9.2.1 u9.2.2.1 u9.2.2.2.2.2.1 u9.2.2.2.2.2.2) H ∧ va_D A (w_X5_moveSite E a_ a_row a_partners a_share a_leftOver u9.2.2.2.1 u9.2.2.2.2.1 u9.2.1 u9.2.2.1 u9.2.2.2.2.2.1 u9.2.2.2.2.2.2)) hF ⟨rfl, hP.sub [3, 4, 0, 1, 2] rfl, hD.sub [3, 4, 0, 1, 2] (by decide) rfl⟩
  obtain ⟨e9_0, hP9, hD9⟩ := h9
  exact W.iret (v := (((1 : Int32) + ((2 : Int32) * c_askedCount)) + (((w_39 3) - (1 : Int32)) - c_askedCount)) + (w_39 3)) hx hb hr (fun tt ht hW => ⟨⟨_, (), rfl, e9_0, ht ▸ hP9, hD9⟩, hS.F ht⟩) hS.2.2 (dq_172 192 bcX5_moveSite_4 (j := 3) rfl rfl)

set_option maxHeartbeats 4000000 in
set_option maxRecDepth 100000 in
theorem f_X5_moveSite (l : Launch) (E : EE) (sz : Nat) (K : Nat) {a_ a_row a_partners a_share a_leftOver : Nat} {p1 : Int32} {p2 : Int32} {p3 : Int32} {c_askedCount : Int32} {c_outcome : Int32} {c_row : Nat → Int32} {c_partners : Nat → Int32} {c_share : Nat → Int32} {c_leftOver : Nat → Int32} {rr : Int32} {n_row : Nat → Int32} {n_partners : Nat → Int32} {n_askedCount : Int32} {n_outcome : Int32} {n_share : Nat → Int32} {n_leftOver : Nat → Int32} (hF : F_X5_moveSite K p1 p2 p3 c_row c_partners c_askedCount c_outcome c_share c_leftOver = some (rr, n_row, n_partners, n_askedCount, n_outcome, n_share, n_leftOver)) : Met l yX5_moveSite v_f_X5_moveSite (({ frames := 3, cells := 0, slots := 0, locals := 73 } : Room)) (va_Pc [.ref a_, .int p1, .int p2, .int p3] (pW E sz (w_X5_moveSite E a_ a_row a_partners a_share a_leftOver c_askedCount c_outcome c_row c_partners c_share c_leftOver))) (va_Qi (fun (q : Int32) (_u : Unit) => q = rr) (fun (_u : Unit) tt => va_P E.1 vwCl (w_X5_moveSite E a_ a_row a_partners a_share a_leftOver n_askedCount n_outcome n_row n_partners n_share n_leftOver) tt.heap ∧ va_D (va_A (w_X5_moveSite E a_ a_row a_partners a_share a_leftOver c_askedCount c_outcome c_row c_partners c_share c_leftOver) sz) (w_X5_moveSite E a_ a_row a_partners a_share a_leftOver n_askedCount n_outcome n_row n_partners n_share n_leftOver)) (va_A (w_X5_moveSite E a_ a_row a_partners a_share a_leftOver c_askedCount c_outcome c_row c_partners c_share c_leftOver) sz)) 0 0 (va_A (w_X5_moveSite E a_ a_row a_partners a_share a_leftOver c_askedCount c_outcome c_row c_partners c_share c_leftOver) sz) := by
  refine Met.ofW (cc := cX5_moveSite) (maxL := 7) (ret := (some .int)) (by decide) rfl ?_
  intro p e s m args below meth c s₁ B hml hv
  obtain ⟨rfl, hsz, ⟨hK, hN⟩, hP, hD0⟩ := hv
  have hx := B.exec
  have hb := B.bytes
  have hr := B.returns
  have hts := atoms_spec (ws := v_f_X5_moveSite) B.pre
  have hown : s.vm.findClass RX5 = some m.cls := own_of hd_X5_moveSite.1 (findClass_of_methodNamed B.named)
  have hlocks : meth.locks = false := B.notSynchronized
  subst hsz
  have hD := hD0.self (sz := s.heap.size)
  generalize hAe : va_A (w_X5_moveSite E a_ a_row a_partners a_share a_leftOver c_askedCount c_outcome c_row c_partners c_share c_leftOver) s.heap.size = A at hD ⊢
  have hA : ∀ q : Nat, s.heap.size ≤ q → A q := fun q h => by rw [← hAe]; exact Or.inr h
  have hS : va_S A s.heap s.heap [] := va_S.rf
  have hl := lv_entry ([.ref a_, .int p1, .int p2, .int p3]) (n := 7) (Nat.le_of_ble_eq_true rfl)
  rw [lg_entry_eq]
  generalize (lg_sl ([.ref a_, .int p1, .int p2, .int p3]) ++ List.replicate (7 - (lg_sl ([.ref a_, .int p1, .int p2, .int p3])).length) Slot.unset).toArray = ls at hl ⊢
  have hl : lv_has ls 7 [(0, .ref a_), (1, .int p1), (2, .int p2), (3, .int p3)] := hl
  obtain ⟨Q, hQ⟩ : ∃ Q : State → Prop, Q = MQ below (va_Qi (fun (q : Int32) (_u : Unit) => q = rr) (fun (_u : Unit) tt => va_P E.1 vwCl (w_X5_moveSite E a_ a_row a_partners a_share a_leftOver n_askedCount n_outcome n_row n_partners n_share n_leftOver) tt.heap ∧ va_D A (w_X5_moveSite E a_ a_row a_partners a_share a_leftOver n_askedCount n_outcome n_row n_partners n_share n_leftOver)) A) #[Value.ref a_, Value.int p1, Value.int p2, Value.int p3] s 0 0 A := ⟨_, rfl⟩
  rw [← hQ]
  change W p l e ({ frames := 3, cells := 0, slots := 0, locals := 73 } : Room) s m #[Value.ref a_, Value.int p1, Value.int p2, Value.int p3] below meth c s.heap [] 0 0 Q (F0 m 0 ls [])
  suffices hh9 : ∀ (H : Heap) (locs : List Loc), va_P E.1 vwCl (w_X5_moveSite E a_ a_row a_partners a_share a_leftOver c_askedCount c_outcome c_row c_partners c_share c_leftOver) H → va_D A (w_X5_moveSite E a_ a_row a_partners a_share a_leftOver c_askedCount c_outcome c_row c_partners c_share c_leftOver) → va_S A s.heap H locs → W p l e ({ frames := 3, cells := 0, slots := 0, locals := 73 } : Room) s m #[Value.ref a_, Value.int p1, Value.int p2, Value.int p3] below meth c H locs 0 0 Q (F0 m 0 ls []) from hh9 s.heap [] hP hD hS
  clear hP hD hS
  intro H locs hP hD hS
  have h9 := fixPD (ws' := [k_X5 a_ a_row a_partners c_askedCount c_outcome a_share a_leftOver, k_I E a_row 81 c_row, k_I E a_partners 8 c_partners, k_I E a_share 2 c_share, k_I E a_leftOver 2 c_leftOver]) hP hD rfl
  clear hP hD
  obtain ⟨hP, hD⟩ := h9
  unfold F_X5_moveSite at hF
  refine lv_aload_n hx hb (dq_42 0 bcX5_moveSite_0 (j := 0) rfl rfl) rfl (lv_at hl 0 rfl) ?_
  refine lv_iconst (v := 0) hx hb (dq_3 0 bcX5_moveSite_0 (j := 1) rfl rfl) (by decide) ?_
  refine pt_X5_2 (v := .int (0 : Int32)) hx hb hts i_f_X5_moveSite_X5 hown hK hP hD hS 0 rfl (hts (.fieldLink RX5 18 "HushWatch$State" "askedCount" "I") (List.mem_of_getElem? (i := 1) rfl)) rfl rfl (Nat.le_of_ble_eq_true rfl) (dq_181 0 bcX5_moveSite_0 (j := 2) (i := 18) rfl rfl rfl) (fun H locs hP hD hS => ?_)
  have h9 := fixPD (ws' := [k_X5 a_ a_row a_partners (0 : Int32) c_outcome a_share a_leftOver, k_I E a_row 81 c_row, k_I E a_partners 8 c_partners, k_I E a_share 2 c_share, k_I E a_leftOver 2 c_leftOver]) hP hD rfl
  clear hP hD
  obtain ⟨hP, hD⟩ := h9
  refine lv_aload_n hx hb (dq_42 0 bcX5_moveSite_0 (j := 5) rfl rfl) rfl (lv_at hl 0 rfl) ?_
  refine lv_iconst (v := 0) hx hb (dq_3 0 bcX5_moveSite_0 (j := 6) rfl rfl) (by decide) ?_
  refine pt_X5_3 (v := .int (0 : Int32)) hx hb hts i_f_X5_moveSite_X5 hown hK hP hD hS 0 rfl (hts (.fieldLink RX5 22 "HushWatch$State" "outcome" "I") (List.mem_of_getElem? (i := 2) rfl)) rfl rfl (Nat.le_of_ble_eq_true rfl) (dq_181 0 bcX5_moveSite_0 (j := 7) (i := 22) rfl rfl rfl) (fun H locs hP hD hS => ?_)
  have h9 := fixPD (ws' := [k_X5 a_ a_row a_partners (0 : Int32) (0 : Int32) a_share a_leftOver, k_I E a_row 81 c_row, k_I E a_partners 8 c_partners, k_I E a_share 2 c_share, k_I E a_leftOver 2 c_leftOver]) hP hD rfl
  clear hP hD
  obtain ⟨hP, hD⟩ := h9
  refine lv_aload_n hx hb (dq_42 0 bcX5_moveSite_0 (j := 10) rfl rfl) rfl (lv_at hl 0 rfl) ?_
  refine lv_iload_n hx hb (dq_27 0 bcX5_moveSite_0 (j := 11) rfl rfl) rfl (lv_at hl 1 rfl) ?_
  refine lv_iload_n hx hb (dq_28 0 bcX5_moveSite_0 (j := 12) rfl rfl) rfl (lv_at hl 2 rfl) ?_
  refine lv_iload_n hx hb (dq_29 0 bcX5_moveSite_0 (j := 13) rfl rfl) rfl (lv_at hl 3 rfl) ?_
  replace hF := bd1_s hF
  obtain ⟨w_1, hc_2, hF⟩ := hF
  obtain ⟨hPc, hDc, hFc⟩ := wcut (wc := (w_X5_shift E a_ a_row a_partners a_share a_leftOver (0 : Int32) (0 : Int32) c_row)) hP hD hS hA [0, 1] (by decide) rfl
  have hrc := va_recv hK hPc (ci := 6) (q0 := 0) rfl rfl
  refine cE_v (wc := (w_X5_shift E a_ a_row a_partners a_share a_leftOver (0 : Int32) (0 : Int32) c_row)) (wr := [k_I E a_partners 8 c_partners, k_I E a_share 2 c_share, k_I E a_leftOver 2 c_leftOver]) (w1 := (w_X5_shift E a_ a_row a_partners a_share a_leftOver (0 : Int32) (0 : Int32) w_1)) (va_runV (As := [.int p1, .int p2, .int p3]) (rest := [])  ⟨hx, hb, hml, hown, hts⟩ (f_X5_shift l E H.size (a_ := a_) (a_row := a_row) (a_partners := a_partners) (a_share := a_share) (a_leftOver := a_leftOver) (p1 := p1) (p2 := p2) (p3 := p3) (c_askedCount := (0 : Int32)) (c_outcome := (0 : Int32)) (c_row := c_row) hc_2) (cwV 3 hts g_f_X5_moveSite_f_X5_shift_150 rfl rfl rfl hd_X5_shift ⟨Nat.le_of_ble_eq_true rfl, Nat.le_of_ble_eq_true rfl⟩) ⟨pW.blind, hrc, (pW.pre ⟨hK, hN⟩ hPc hDc)⟩ rfl rfl hl.1 rfl (lv_room (Nat.le_of_ble_eq_true rfl)) (dq_182 0 bcX5_moveSite_0 (j := 14) (i := 150) rfl rfl rfl) ⟨Nat.le_of_ble_eq_true rfl, Nat.le_of_ble_eq_true rfl⟩) hS hFc hP hD [0, 1] [2, 3, 4] rfl rfl (by decide) (by decide) (fun H locs hP hD hS => ?_)
  have h9 := fixPD (ws' := [k_I E a_partners 8 c_partners, k_I E a_share 2 c_share, k_I E a_leftOver 2 c_leftOver, k_X5 a_ a_row a_partners (0 : Int32) (0 : Int32) a_share a_leftOver, k_I E a_row 81 w_1]) hP hD rfl
  clear hP hD
  obtain ⟨hP, hD⟩ := h9
  refine lv_aload_n hx hb (dq_42 0 bcX5_moveSite_0 (j := 17) rfl rfl) rfl (lv_at hl 0 rfl) ?_
  refine lv_iload_n hx hb (dq_27 0 bcX5_moveSite_0 (j := 18) rfl rfl) rfl (lv_at hl 1 rfl) ?_
  replace hF := bd1_s hF
  obtain ⟨r_3, hc_4, hF⟩ := hF
  have hPc : va_P E.1 vwCl (w_X5_isQuiet E a_ a_row a_partners a_share a_leftOver (0 : Int32) (0 : Int32) w_1) H := hP.sub (ws' := [k_X5 a_ a_row a_partners (0 : Int32) (0 : Int32) a_share a_leftOver, k_I E a_row 81 w_1]) [3, 4] rfl
  have hrc := va_recv hK hPc (ci := 6) (q0 := 0) rfl rfl
  refine pE_z (va_runV (As := [.int p1]) (rest := [])  ⟨hx, hb, hml, hown, hts⟩ (f_X5_isQuiet l E (a_ := a_) (a_row := a_row) (a_partners := a_partners) (a_share := a_share) (a_leftOver := a_leftOver) (p1 := p1) (c_askedCount := (0 : Int32)) (c_outcome := (0 : Int32)) (c_row := w_1) hc_4) (cwV 1 hts g_f_X5_moveSite_f_X5_isQuiet_99 rfl rfl rfl hd_X5_isQuiet ⟨Nat.le_of_ble_eq_true rfl, Nat.le_of_ble_eq_true rfl⟩) ⟨pP.blind, hrc, (pP.pre ⟨hK, hN⟩ hPc)⟩ rfl rfl hl.1 rfl (lv_room (Nat.le_of_ble_eq_true rfl)) (dq_182 0 bcX5_moveSite_0 (j := 19) (i := 99) rfl rfl rfl) ⟨Nat.le_of_ble_eq_true rfl, Nat.le_of_ble_eq_true rfl⟩) (fun hb_5 => ?_)
  refine lv_if_eq (tgt := 27) hx hb (dq_153 0 bcX5_moveSite_0 (j := 22) (i := 5) rfl rfl rfl) (by decide) (fun c_6 => ?_) (fun c_6 => ?_)
  ·
    replace hF := ip c_6 hF
    refine lv_aload_n hx hb (dq_42 0 bcX5_moveSite_0 (j := 27) rfl rfl) rfl (lv_at hl 0 rfl) ?_
    refine gt_X5_0 (v := .ref a_row) hx hb hts i_f_X5_moveSite_X5 hown hK hP 3 rfl (hts (.fieldLink RX5 11 "HushWatch$State" "row" "[I") (List.mem_of_getElem? (i := 3) rfl)) rfl (dq_180 0 bcX5_moveSite_0 (j := 28) (i := 11) rfl rfl rfl) ?_
    refine lv_bipush (v := 12) hx hb (dq_16 0 bcX5_moveSite_0 (j := 31) (i := 12) rfl rfl rfl) (by decide) ?_
    refine lv_dup2_11 hx hb (dq_92 0 bcX5_moveSite_0 (j := 33) rfl rfl) rfl rfl ?_
    refine va_iald hx hb hK hP 4 0 rfl rfl (vin rfl) (dq_46 0 bcX5_moveSite_0 (j := 34) rfl rfl) ?_
    refine W.eq (g2 := F0 m 35 ls [.int (w_1 12), .int (12 : Int32), .ref a_row]) rfl ?_
    refine lv_iconst (v := 1) hx hb (dq_4 0 bcX5_moveSite_0 (j := 35) rfl rfl) (by decide) ?_
    refine lv_iadd hx hb (dq_96 0 bcX5_moveSite_0 (j := 36) rfl rfl) ?_
    refine va_iast hx hb hK hP hD hS 4 0 rfl rfl (vin rfl) (dq_79 0 bcX5_moveSite_0 (j := 37) rfl rfl) (fun H locs hP hD hS => ?_)
    have h9 := fixPD (ws' := [k_I E a_partners 8 c_partners, k_I E a_share 2 c_share, k_I E a_leftOver 2 c_leftOver, k_X5 a_ a_row a_partners (0 : Int32) (0 : Int32) a_share a_leftOver, k_I E a_row 81 (upd w_1 12 ((w_1 12) + (1 : Int32)))]) hP hD rfl
    clear hP hD
    obtain ⟨hP, hD⟩ := h9
    replace hF := nm_s hF
    obtain ⟨f_7, hf_7, hF⟩ := hF
    rw [← hf_7] at hP hD
    refine lv_iconst (v := 1) hx hb (dq_4 0 bcX5_moveSite_0 (j := 38) rfl rfl) (by decide) ?_
    refine lv_iload_n hx hb (dq_27 0 bcX5_moveSite_0 (j := 39) rfl rfl) rfl (lv_at hl 1 rfl) ?_
    refine lv_ishl hx hb (dq_120 0 bcX5_moveSite_0 (j := 40) rfl rfl) ?_
    refine lv_istore (lv' := [(4, .int ((1 : Int32) <<< (p1 &&& (31 : Int32)))), (0, .ref a_), (1, .int p1), (2, .int p2), (3, .int p3)]) hx hb (dq_54 0 bcX5_moveSite_0 (j := 41) (i := 4) rfl rfl) hl (by decide) rfl (fun ls hl => ?_)
    refine lv_iconst (v := 1) hx hb (dq_4 0 bcX5_moveSite_0 (j := 43) rfl rfl) (by decide) ?_
    refine lv_istore (lv' := [(5, .int (1 : Int32)), (4, .int ((1 : Int32) <<< (p1 &&& (31 : Int32)))), (0, .ref a_), (1, .int p1), (2, .int p2), (3, .int p3)]) hx hb (dq_54 0 bcX5_moveSite_0 (j := 44) (i := 5) rfl rfl) hl (by decide) rfl (fun ls hl => ?_)
    replace hF := bd6_s hF
    obtain ⟨t_28, x4_29, c_partners_30, c_askedCount_31, c_share_32, c_leftOver_33, hL_34, hF⟩ := hF
    refine lw_X5_moveSite_46 l E K (p1 := p1) (p2 := p2) (p3 := p3) (c_row := f_7) (c_outcome := (0 : Int32)) hx hb hml hown hts hK hN hA K ((1 : Int32) <<< (p1 &&& (31 : Int32))) (1 : Int32) c_partners (0 : Int32) c_share c_leftOver t_28 x4_29 c_partners_30 c_askedCount_31 c_share_32 c_leftOver_33 hL_34 ⟨?_, ?_⟩ H locs ls (hP.sub [3, 4, 0, 1, 2] rfl) (hD.sub [3, 4, 0, 1, 2] (by decide) rfl) hS (lv_sub hl [2, 3, 1, 0] rfl)
    ·
      intro t9
      replace hF := ip t9 hF
      intro H locs ls hP hD hS hl
      have h9 := fixPD (ws' := [k_X5 a_ a_row a_partners c_askedCount_31 (0 : Int32) a_share a_leftOver, k_I E a_row 81 f_7, k_I E a_partners 8 c_partners_30, k_I E a_share 2 c_share_32, k_I E a_leftOver 2 c_leftOver_33]) hP hD rfl
      clear hP hD
      obtain ⟨hP, hD⟩ := h9
      refine lv_aload_n hx hb (dq_42 96 bcX5_moveSite_2 (j := 44) rfl rfl) rfl (lv_at hl 0 rfl) ?_
      refine lv_iload hx hb (dq_21 96 bcX5_moveSite_2 (j := 45) (i := 4) rfl rfl) (lv_at hl 1 rfl) ?_
      replace hF := bd3_s hF
      obtain ⟨r_35, w_36, w_37, hc_38, hF⟩ := hF
      obtain ⟨hPc, hDc, hFc⟩ := wcut (wc := (w_X5_balance E a_ a_row a_partners a_share a_leftOver c_askedCount_31 (0 : Int32) f_7 c_share_32 c_leftOver_33)) hP hD hS hA [0, 1, 3, 4] (by decide) rfl
      have hrc := va_recv hK hPc (ci := 6) (q0 := 0) rfl rfl
      refine cE_i (wc := (w_X5_balance E a_ a_row a_partners a_share a_leftOver c_askedCount_31 (0 : Int32) f_7 c_share_32 c_leftOver_33)) (wr := [k_I E a_partners 8 c_partners_30]) (w1 := (w_X5_balance E a_ a_row a_partners a_share a_leftOver c_askedCount_31 w_37 w_36 c_share_32 c_leftOver_33)) (va_runV (As := [.int x4_29]) (rest := [])  ⟨hx, hb, hml, hown, hts⟩ (f_X5_balance l E H.size K (a_ := a_) (a_row := a_row) (a_partners := a_partners) (a_share := a_share) (a_leftOver := a_leftOver) (p1 := x4_29) (c_askedCount := c_askedCount_31) (c_outcome := (0 : Int32)) (c_row := f_7) (c_share := c_share_32) (c_leftOver := c_leftOver_33) hc_38) (cwV 1 hts g_f_X5_moveSite_f_X5_balance_159 rfl rfl rfl hd_X5_balance ⟨Nat.le_of_ble_eq_true rfl, Nat.le_of_ble_eq_true rfl⟩) ⟨pW.blind, hrc, (pW.pre ⟨hK, hN⟩ hPc hDc)⟩ rfl rfl hl.1 rfl (lv_room (Nat.le_of_ble_eq_true rfl)) (dq_182 96 bcX5_moveSite_2 (j := 47) (i := 159) rfl rfl rfl) ⟨Nat.le_of_ble_eq_true rfl, Nat.le_of_ble_eq_true rfl⟩) hS hFc hP hD [0, 1, 3, 4] [2] rfl rfl (by decide) (by decide) (fun H locs hP hD hS => ?_)
      have h9 := fixPD (ws' := [k_I E a_partners 8 c_partners_30, k_X5 a_ a_row a_partners c_askedCount_31 w_37 a_share a_leftOver, k_I E a_row 81 w_36, k_I E a_share 2 c_share_32, k_I E a_leftOver 2 c_leftOver_33]) hP hD rfl
      clear hP hD
      obtain ⟨hP, hD⟩ := h9
      rw [hQ]
      have h9 := fin9 (P := fun u9 : Int32 × (Nat → Int32) × (Nat → Int32) × Int32 × Int32 × (Nat → Int32) × (Nat → Int32) => r_35 = u9.1 ∧ va_P E.1 vwCl (w_X5_moveSite E a_ a_row a_partners a_share a_leftOver u9.2.2.2.1 u9.2.2.2.2.1 u9.2.1 u9.2.2.1 u9.2.2.2.2.2.1 u9.2.2.2.2.2.2) H ∧ va_D A (w_X5_moveSite E a_ a_row a_partners a_share a_leftOver u9.2.2.2.1 u9.2.2.2.2.1 u9.2.1 u9.2.2.1 u9.2.2.2.2.2.1 u9.2.2.2.2.2.2)) hF ⟨rfl, hP.sub [1, 2, 0, 3, 4] rfl, hD.sub [1, 2, 0, 3, 4] (by decide) rfl⟩
      obtain ⟨e9_0, hP9, hD9⟩ := h9
      exact W.iret (v := r_35) hx hb hr (fun tt ht hW => ⟨⟨_, (), rfl, e9_0, ht ▸ hP9, hD9⟩, hS.F ht⟩) hS.2.2 (dq_172 144 bcX5_moveSite_3 (j := 2) rfl rfl)
    ·
      intro t9
      replace hF := inn (show ¬ t_28 = 0 by omega) hF
      replace hF := ip t9 hF
      intro H locs ls hP hD hS hl
      have h9 := fixPD (ws' := [k_X5 a_ a_row a_partners c_askedCount_31 (0 : Int32) a_share a_leftOver, k_I E a_row 81 f_7, k_I E a_partners 8 c_partners_30, k_I E a_share 2 c_share_32, k_I E a_leftOver 2 c_leftOver_33]) hP hD rfl
      clear hP hD
      obtain ⟨hP, hD⟩ := h9
      exact j_X5_moveSite_153 l E K (p1 := p1) (p2 := p2) (p3 := p3) (c_row := f_7) (c_partners := c_partners_30) (c_askedCount := c_askedCount_31) (c_outcome := (0 : Int32)) (c_share := c_share_32) (c_leftOver := c_leftOver_33) hx hb hml hown hts hK hN hA hr hlocks hQ hF H locs ls (hP.sub [0, 1, 2, 3, 4] rfl) (hD.sub [0, 1, 2, 3, 4] (by decide) rfl) hS (lv_sub hl [0] rfl)
  ·
    replace hF := inn c_6 hF
    refine lv_iconst (v := 0) hx hb (dq_3 0 bcX5_moveSite_0 (j := 25) rfl rfl) (by decide) ?_
    rw [hQ]
    have h9 := fin9 (P := fun u9 : Int32 × (Nat → Int32) × (Nat → Int32) × Int32 × Int32 × (Nat → Int32) × (Nat → Int32) => (0 : Int32) = u9.1 ∧ va_P E.1 vwCl (w_X5_moveSite E a_ a_row a_partners a_share a_leftOver u9.2.2.2.1 u9.2.2.2.2.1 u9.2.1 u9.2.2.1 u9.2.2.2.2.2.1 u9.2.2.2.2.2.2) H ∧ va_D A (w_X5_moveSite E a_ a_row a_partners a_share a_leftOver u9.2.2.2.1 u9.2.2.2.2.1 u9.2.1 u9.2.2.1 u9.2.2.2.2.2.1 u9.2.2.2.2.2.2)) hF ⟨rfl, hP.sub [3, 4, 0, 1, 2] rfl, hD.sub [3, 4, 0, 1, 2] (by decide) rfl⟩
    obtain ⟨e9_0, hP9, hD9⟩ := h9
    exact W.iret (v := (0 : Int32)) hx hb hr (fun tt ht hW => ⟨⟨_, (), rfl, e9_0, ht ▸ hP9, hD9⟩, hS.F ht⟩) hS.2.2 (dq_172 0 bcX5_moveSite_0 (j := 26) rfl rfl)

def F_X5_hearByHand (K : Nat) (c_row : Nat → Int32) : Option (Int32 × (Nat → Int32)) :=
  bd1 (F_X5_hearAll K c_row) (fun w_1 => some ((2 : Int32) * (w_1 3), w_1))
abbrev w_X5_hearByHand (E : EE) (a_ a_row a_partners a_share a_leftOver : Nat) (c_askedCount : Int32) (c_outcome : Int32) (c_row : Nat → Int32) : va_W := [k_X5 a_ a_row a_partners c_askedCount c_outcome a_share a_leftOver, k_I E a_row 81 c_row]
def v_f_X5_hearByHand : List Cond := List.cons (.code yX5_hearByHand cX5_hearByHand 1 (some .int)) (HAppend.hAppend (α := List Cond) (β := List Cond) (γ := List Cond) [.fieldLink RX5 11 "HushWatch$State" "row" "[I", .methodLink RX5 162 yX5_hearAll, .instanceMethod yX5_hearAll, .selects RX5 yX5_hearAll yX5_hearAll, .initialized RX5] (HAppend.hAppend (α := List Cond) (β := List Cond) (γ := List Cond) v_f_X5_hearAll (HAppend.hAppend (α := List Cond) (β := List Cond) (γ := List Cond) wsX50 [])))
theorem gw_f_X5_hearByHand : v_f_X5_hearByHand.all goodWord = true := gw_c2 (by decide +kernel) (gw_ap gw_f_X5_hearAll (gw_ap gw_wsX50 gw_nil))
theorem i_f_X5_hearByHand_X5 : ∀ w ∈ wsX50, w ∈ v_f_X5_hearByHand := fun _ h => List.mem_cons_of_mem _ (List.mem_append_right _ (List.mem_append_right _ (List.mem_append_left _ h)))
theorem g_f_X5_hearByHand_f_X5_hearAll_162 : GoodIn v_f_X5_hearByHand (wsV RX5 162 RX5 yX5_hearAll v_f_X5_hearAll) := goodIn_in gw_f_X5_hearByHand (in4 2 3 4 5 rfl rfl rfl rfl (fun _ h => List.mem_cons_of_mem _ (List.mem_append_right _ (List.mem_append_left _ h))))
theorem hd_X5_hearByHand : yX5_hearByHand.cls = RX5 ∧ yX5_hearByHand.cls ≠ "java/lang/invoke/MethodHandle" ∧ yX5_hearByHand.cls ≠ "java/lang/invoke/VarHandle" ∧ (parseMethodDescriptor yX5_hearByHand.desc).map (fun d => d.parameters.length) = some 0 := by decide +kernel
set_option maxHeartbeats 4000000 in
set_option maxRecDepth 100000 in
theorem f_X5_hearByHand (l : Launch) (E : EE) (sz : Nat) (K : Nat) {a_ a_row a_partners a_share a_leftOver : Nat} {c_askedCount : Int32} {c_outcome : Int32} {c_row : Nat → Int32} {rr : Int32} {n_row : Nat → Int32} (hF : F_X5_hearByHand K c_row = some (rr, n_row)) : Met l yX5_hearByHand v_f_X5_hearByHand (({ frames := 3, cells := 0, slots := 0, locals := 73 } : Room)) (va_Pc [.ref a_] (pW E sz (w_X5_hearByHand E a_ a_row a_partners a_share a_leftOver c_askedCount c_outcome c_row))) (va_Qi (fun (q : Int32) (_u : Unit) => q = rr) (fun (_u : Unit) tt => va_P E.1 vwCl (w_X5_hearByHand E a_ a_row a_partners a_share a_leftOver c_askedCount c_outcome n_row) tt.heap ∧ va_D (va_A (w_X5_hearByHand E a_ a_row a_partners a_share a_leftOver c_askedCount c_outcome c_row) sz) (w_X5_hearByHand E a_ a_row a_partners a_share a_leftOver c_askedCount c_outcome n_row)) (va_A (w_X5_hearByHand E a_ a_row a_partners a_share a_leftOver c_askedCount c_outcome c_row) sz)) 0 0 (va_A (w_X5_hearByHand E a_ a_row a_partners a_share a_leftOver c_askedCount c_outcome c_row) sz) := by
  refine Met.ofW (cc := cX5_hearByHand) (maxL := 1) (ret := (some .int)) (by decide) rfl ?_
  intro p e s m args below meth c s₁ B hml hv
  obtain ⟨rfl, hsz, ⟨hK, hN⟩, hP, hD0⟩ := hv
  have hx := B.exec
  have hb := B.bytes
  have hr := B.returns
  have hts := atoms_spec (ws := v_f_X5_hearByHand) B.pre
  have hown : s.vm.findClass RX5 = some m.cls := own_of hd_X5_hearByHand.1 (findClass_of_methodNamed B.named)
  have hlocks : meth.locks = false := B.notSynchronized
  subst hsz
  have hD := hD0.self (sz := s.heap.size)
  generalize hAe : va_A (w_X5_hearByHand E a_ a_row a_partners a_share a_leftOver c_askedCount c_outcome c_row) s.heap.size = A at hD ⊢
  have hA : ∀ q : Nat, s.heap.size ≤ q → A q := fun q h => by rw [← hAe]; exact Or.inr h
  have hS : va_S A s.heap s.heap [] := va_S.rf
  have hl := lv_entry ([.ref a_]) (n := 1) (Nat.le_of_ble_eq_true rfl)
  rw [lg_entry_eq]
  generalize (lg_sl ([.ref a_]) ++ List.replicate (1 - (lg_sl ([.ref a_])).length) Slot.unset).toArray = ls at hl ⊢
  have hl : lv_has ls 1 [(0, .ref a_)] := hl
  obtain ⟨Q, hQ⟩ : ∃ Q : State → Prop, Q = MQ below (va_Qi (fun (q : Int32) (_u : Unit) => q = rr) (fun (_u : Unit) tt => va_P E.1 vwCl (w_X5_hearByHand E a_ a_row a_partners a_share a_leftOver c_askedCount c_outcome n_row) tt.heap ∧ va_D A (w_X5_hearByHand E a_ a_row a_partners a_share a_leftOver c_askedCount c_outcome n_row)) A) #[Value.ref a_] s 0 0 A := ⟨_, rfl⟩
  rw [← hQ]
  change W p l e ({ frames := 3, cells := 0, slots := 0, locals := 73 } : Room) s m #[Value.ref a_] below meth c s.heap [] 0 0 Q (F0 m 0 ls [])
  suffices hh9 : ∀ (H : Heap) (locs : List Loc), va_P E.1 vwCl (w_X5_hearByHand E a_ a_row a_partners a_share a_leftOver c_askedCount c_outcome c_row) H → va_D A (w_X5_hearByHand E a_ a_row a_partners a_share a_leftOver c_askedCount c_outcome c_row) → va_S A s.heap H locs → W p l e ({ frames := 3, cells := 0, slots := 0, locals := 73 } : Room) s m #[Value.ref a_] below meth c H locs 0 0 Q (F0 m 0 ls []) from hh9 s.heap [] hP hD hS
  clear hP hD hS
  intro H locs hP hD hS
  have h9 := fixPD (ws' := [k_X5 a_ a_row a_partners c_askedCount c_outcome a_share a_leftOver, k_I E a_row 81 c_row]) hP hD rfl
  clear hP hD
  obtain ⟨hP, hD⟩ := h9
  unfold F_X5_hearByHand at hF
  refine lv_aload_n hx hb (dq_42 0 bcX5_hearByHand_0 (j := 0) rfl rfl) rfl (lv_at hl 0 rfl) ?_
  replace hF := bd1_s hF
  obtain ⟨w_1, hc_2, hF⟩ := hF
  obtain ⟨hPc, hDc, hFc⟩ := wcut (wc := (w_X5_hearAll E a_ a_row a_partners a_share a_leftOver c_askedCount c_outcome c_row)) hP hD hS hA [0, 1] (by decide) rfl
  have hrc := va_recv hK hPc (ci := 6) (q0 := 0) rfl rfl
  refine cE_v (wc := (w_X5_hearAll E a_ a_row a_partners a_share a_leftOver c_askedCount c_outcome c_row)) (wr := []) (w1 := (w_X5_hearAll E a_ a_row a_partners a_share a_leftOver c_askedCount c_outcome w_1)) (va_runV (As := []) (rest := [])  ⟨hx, hb, hml, hown, hts⟩ (f_X5_hearAll l E H.size K (a_ := a_) (a_row := a_row) (a_partners := a_partners) (a_share := a_share) (a_leftOver := a_leftOver) (c_askedCount := c_askedCount) (c_outcome := c_outcome) (c_row := c_row) hc_2) (cwV 0 hts g_f_X5_hearByHand_f_X5_hearAll_162 rfl rfl rfl hd_X5_hearAll ⟨Nat.le_of_ble_eq_true rfl, Nat.le_of_ble_eq_true rfl⟩) ⟨pW.blind, hrc, (pW.pre ⟨hK, hN⟩ hPc hDc)⟩ rfl rfl hl.1 rfl (lv_room (Nat.le_of_ble_eq_true rfl)) (dq_182 0 bcX5_hearByHand_0 (j := 1) (i := 162) rfl rfl rfl) ⟨Nat.le_of_ble_eq_true rfl, Nat.le_of_ble_eq_true rfl⟩) hS hFc hP hD [0, 1] [] rfl rfl (by decide) (by decide) (fun H locs hP hD hS => ?_)
  have h9 := fixPD (ws' := [k_X5 a_ a_row a_partners c_askedCount c_outcome a_share a_leftOver, k_I E a_row 81 w_1]) hP hD rfl
  clear hP hD
  obtain ⟨hP, hD⟩ := h9
  refine lv_iconst (v := 2) hx hb (dq_5 0 bcX5_hearByHand_0 (j := 4) rfl rfl) (by decide) ?_
  refine lv_aload_n hx hb (dq_42 0 bcX5_hearByHand_0 (j := 5) rfl rfl) rfl (lv_at hl 0 rfl) ?_
  refine gt_X5_0 (v := .ref a_row) hx hb hts i_f_X5_hearByHand_X5 hown hK hP 0 rfl (hts (.fieldLink RX5 11 "HushWatch$State" "row" "[I") (List.mem_of_getElem? (i := 1) rfl)) rfl (dq_180 0 bcX5_hearByHand_0 (j := 6) (i := 11) rfl rfl rfl) ?_
  refine lv_iconst (v := 3) hx hb (dq_6 0 bcX5_hearByHand_0 (j := 9) rfl rfl) (by decide) ?_
  refine va_iald hx hb hK hP 1 0 rfl rfl (vin rfl) (dq_46 0 bcX5_hearByHand_0 (j := 10) rfl rfl) ?_
  refine W.eq (g2 := F0 m 11 ls [.int (w_1 3), .int (2 : Int32)]) rfl ?_
  refine lv_imul hx hb (dq_104 0 bcX5_hearByHand_0 (j := 11) rfl rfl) ?_
  rw [hQ]
  have h9 := fin9 (P := fun u9 : Int32 × (Nat → Int32) => ((2 : Int32) * (w_1 3)) = u9.1 ∧ va_P E.1 vwCl (w_X5_hearByHand E a_ a_row a_partners a_share a_leftOver c_askedCount c_outcome u9.2) H ∧ va_D A (w_X5_hearByHand E a_ a_row a_partners a_share a_leftOver c_askedCount c_outcome u9.2)) hF ⟨rfl, hP, hD⟩
  obtain ⟨e9_0, hP9, hD9⟩ := h9
  exact W.iret (v := (2 : Int32) * (w_1 3)) hx hb hr (fun tt ht hW => ⟨⟨_, (), rfl, e9_0, ht ▸ hP9, hD9⟩, hS.F ht⟩) hS.2.2 (dq_172 0 bcX5_hearByHand_0 (j := 12) rfl rfl)

def B_X5_startCounts_33 (x2 : Int32) (c_row : Nat → Int32) : Option ((Int32 × (Nat → Int32)) ⊕ ((Nat → Int32))) :=
  bd1 (F_X5_sites c_row) (fun r_5 => if r_5 ≤ x2 then some (.inr c_row) else bd1 (F_X5_put x2 (6 : Int32) (0 : Int32) c_row) (fun w_8 => bd1 (F_X5_put x2 (7 : Int32) (0 : Int32) w_8) (fun w_10 => some (.inl (x2 + (1 : Int32), w_10)))))
def F_X5_startCounts (K : Nat) (p1 : Int32) (c_row : Nat → Int32) : Option ((Nat → Int32)) :=
  nmF (upd c_row 2 p1) (fun f_1 => nmF (upd f_1 8 (0 : Int32)) (fun f_2 => nmF (upd f_2 9 (0 : Int32)) (fun f_3 => nmF (upd f_3 10 (0 : Int32)) (fun f_4 => bd1 (lpF (fun u9 : Int32 × (Nat → Int32) => B_X5_startCounts_33  u9.1 u9.2) K ((0 : Int32), f_4)) (fun c_row_12 => some c_row_12)))))
abbrev w_X5_startCounts (E : EE) (a_ a_row a_partners a_share a_leftOver : Nat) (c_askedCount : Int32) (c_outcome : Int32) (c_row : Nat → Int32) : va_W := [k_X5 a_ a_row a_partners c_askedCount c_outcome a_share a_leftOver, k_I E a_row 81 c_row]
def v_f_X5_startCounts : List Cond := List.cons (.code yX5_startCounts cX5_startCounts 3 none) (HAppend.hAppend (α := List Cond) (β := List Cond) (γ := List Cond) [.fieldLink RX5 11 "HushWatch$State" "row" "[I", .methodLink RX5 45 yX5_sites, .instanceMethod yX5_sites, .selects RX5 yX5_sites yX5_sites, .initialized RX5, .methodLink RX5 52 yX5_put, .instanceMethod yX5_put, .selects RX5 yX5_put yX5_put] (HAppend.hAppend (α := List Cond) (β := List Cond) (γ := List Cond) wsX50 (HAppend.hAppend (α := List Cond) (β := List Cond) (γ := List Cond) v_f_X5_sites (HAppend.hAppend (α := List Cond) (β := List Cond) (γ := List Cond) v_f_X5_put []))))
theorem gw_f_X5_startCounts : v_f_X5_startCounts.all goodWord = true := gw_c2 (by decide +kernel) (gw_ap gw_wsX50 (gw_ap gw_f_X5_sites (gw_ap gw_f_X5_put gw_nil)))
theorem i_f_X5_startCounts_X5 : ∀ w ∈ wsX50, w ∈ v_f_X5_startCounts := fun _ h => List.mem_cons_of_mem _ (List.mem_append_right _ (List.mem_append_left _ h))
theorem g_f_X5_startCounts_f_X5_sites_45 : GoodIn v_f_X5_startCounts (wsV RX5 45 RX5 yX5_sites v_f_X5_sites) := goodIn_in gw_f_X5_startCounts (in4 2 3 4 5 rfl rfl rfl rfl (fun _ h => List.mem_cons_of_mem _ (List.mem_append_right _ (List.mem_append_right _ (List.mem_append_left _ h)))))
theorem g_f_X5_startCounts_f_X5_put_52 : GoodIn v_f_X5_startCounts (wsV RX5 52 RX5 yX5_put v_f_X5_put) := goodIn_in gw_f_X5_startCounts (in4 6 7 8 5 rfl rfl rfl rfl (fun _ h => List.mem_cons_of_mem _ (List.mem_append_right _ (List.mem_append_right _ (List.mem_append_right _ (List.mem_append_left _ h))))))
theorem hd_X5_startCounts : yX5_startCounts.cls = RX5 ∧ yX5_startCounts.cls ≠ "java/lang/invoke/MethodHandle" ∧ yX5_startCounts.cls ≠ "java/lang/invoke/VarHandle" ∧ (parseMethodDescriptor yX5_startCounts.desc).map (fun d => d.parameters.length) = some 1 := by decide +kernel
set_option maxHeartbeats 4000000 in
set_option maxRecDepth 100000 in
theorem wb_X5_startCounts_33 {p : Program} (l : Launch) {e : Env} {s : State} {m : MethodId} {below : List Frame} {meth : Method} {c : Code} {Q : State → Prop} (E : EE) (K : Nat) {a_ a_row a_partners a_share a_leftOver : Nat} {p1 : Int32} {c_askedCount : Int32} {c_outcome : Int32} {x2 : Int32} {c_row : Nat → Int32} (hx : p.tables.exec = Jvm.exec) (hb : c.code = cX5_startCounts) (hml : c.maxLocals = 3) (hown : s.vm.findClass RX5 = some m.cls) (hts : ∀ w ∈ v_f_X5_startCounts, w.before #[Value.ref a_, Value.int p1] s = true) (hK : va_K E.1 vwCl (TY E) s) (hN : NX s) {A : Nat → Prop} (hA : ∀ q : Nat, s.heap.size ≤ q → A q) {xx : (Int32 × (Nat → Int32)) ⊕ ((Nat → Int32))} (hC : ∀ (x2 : Int32), ∀ (c_row : Nat → Int32), xx = .inl (x2, c_row) → ∀ (H : Heap) (locs : List Loc) (ls : Array Slot), va_P E.1 vwCl (w_X5_startCounts E a_ a_row a_partners a_share a_leftOver c_askedCount c_outcome c_row) H → va_D A (w_X5_startCounts E a_ a_row a_partners a_share a_leftOver c_askedCount c_outcome c_row) → va_S A s.heap H locs → lv_has ls 3 [(0, .ref a_), (2, .int x2)] → W p l e ({ frames := 1, cells := 0, slots := 0, locals := 23 } : Room) s m #[Value.ref a_, Value.int p1] below meth c H locs 0 0 Q (F0 m 33 ls [])) (hE : ∀ (c_row : Nat → Int32), xx = .inr c_row → ((∀ (H : Heap) (locs : List Loc) (ls : Array Slot), va_P E.1 vwCl (w_X5_startCounts E a_ a_row a_partners a_share a_leftOver c_askedCount c_outcome c_row) H → va_D A (w_X5_startCounts E a_ a_row a_partners a_share a_leftOver c_askedCount c_outcome c_row) → va_S A s.heap H locs → lv_has ls 3 [] → W p l e ({ frames := 1, cells := 0, slots := 0, locals := 23 } : Room) s m #[Value.ref a_, Value.int p1] below meth c H locs 0 0 Q (F0 m 63 ls [])))) (hF : B_X5_startCounts_33  x2 c_row = some xx) : ∀ (H : Heap) (locs : List Loc) (ls : Array Slot), va_P E.1 vwCl (w_X5_startCounts E a_ a_row a_partners a_share a_leftOver c_askedCount c_outcome c_row) H → va_D A (w_X5_startCounts E a_ a_row a_partners a_share a_leftOver c_askedCount c_outcome c_row) → va_S A s.heap H locs → lv_has ls 3 [(0, .ref a_), (2, .int x2)] → W p l e ({ frames := 1, cells := 0, slots := 0, locals := 23 } : Room) s m #[Value.ref a_, Value.int p1] below meth c H locs 0 0 Q (F0 m 33 ls []) := by
  unfold B_X5_startCounts_33 at hF
  intro H locs ls hP hD hS hl
  have h9 := fixPD (ws' := [k_X5 a_ a_row a_partners c_askedCount c_outcome a_share a_leftOver, k_I E a_row 81 c_row]) hP hD rfl
  clear hP hD
  obtain ⟨hP, hD⟩ := h9
  refine lv_iload_n hx hb (dq_28 0 bcX5_startCounts_0 (j := 33) rfl rfl) rfl (lv_at hl 1 rfl) ?_
  refine lv_aload_n hx hb (dq_42 0 bcX5_startCounts_0 (j := 34) rfl rfl) rfl (lv_at hl 0 rfl) ?_
  replace hF := bd1_s hF
  obtain ⟨r_5, hc_6, hF⟩ := hF
  have hPc : va_P E.1 vwCl (w_X5_sites E a_ a_row a_partners a_share a_leftOver c_askedCount c_outcome c_row) H := hP.sub (ws' := [k_X5 a_ a_row a_partners c_askedCount c_outcome a_share a_leftOver, k_I E a_row 81 c_row]) [0, 1] rfl
  have hrc := va_recv hK hPc (ci := 6) (q0 := 0) rfl rfl
  refine pE_i (va_runV (As := []) (rest := [.int x2])  ⟨hx, hb, hml, hown, hts⟩ (f_X5_sites l E (a_ := a_) (a_row := a_row) (a_partners := a_partners) (a_share := a_share) (a_leftOver := a_leftOver) (c_askedCount := c_askedCount) (c_outcome := c_outcome) (c_row := c_row) hc_6) (cwV 0 hts g_f_X5_startCounts_f_X5_sites_45 rfl rfl rfl hd_X5_sites ⟨Nat.le_of_ble_eq_true rfl, Nat.le_of_ble_eq_true rfl⟩) ⟨pP.blind, hrc, (pP.pre ⟨hK, hN⟩ hPc)⟩ rfl rfl hl.1 rfl (lv_room (Nat.le_of_ble_eq_true rfl)) (dq_182 0 bcX5_startCounts_0 (j := 35) (i := 45) rfl rfl rfl) ⟨Nat.le_of_ble_eq_true rfl, Nat.le_of_ble_eq_true rfl⟩) ?_
  refine lv_icmp_ge (tgt := 63) hx hb (dq_162 0 bcX5_startCounts_0 (j := 38) (i := 25) rfl rfl rfl) (by decide) (fun c_7 => ?_) (fun c_7 => ?_)
  ·
    replace hF := ip c_7 hF
    cases hF
    exact hE c_row rfl H locs ls (hP.sub [0, 1] rfl) (hD.sub [0, 1] (by decide) rfl) hS (lv_sub hl [] rfl)
  ·
    replace hF := inn c_7 hF
    refine lv_aload_n hx hb (dq_42 0 bcX5_startCounts_0 (j := 41) rfl rfl) rfl (lv_at hl 0 rfl) ?_
    refine lv_iload_n hx hb (dq_28 0 bcX5_startCounts_0 (j := 42) rfl rfl) rfl (lv_at hl 1 rfl) ?_
    refine lv_bipush (v := 6) hx hb (dq_16 0 bcX5_startCounts_0 (j := 43) (i := 6) rfl rfl rfl) (by decide) ?_
    refine lv_iconst (v := 0) hx hb (dq_3 0 bcX5_startCounts_0 (j := 45) rfl rfl) (by decide) ?_
    replace hF := bd1_s hF
    obtain ⟨w_8, hc_9, hF⟩ := hF
    obtain ⟨hPc, hDc, hFc⟩ := wcut (wc := (w_X5_put E a_ a_row a_partners a_share a_leftOver c_askedCount c_outcome c_row)) hP hD hS hA [0, 1] (by decide) rfl
    have hrc := va_recv hK hPc (ci := 6) (q0 := 0) rfl rfl
    refine cE_v (wc := (w_X5_put E a_ a_row a_partners a_share a_leftOver c_askedCount c_outcome c_row)) (wr := []) (w1 := (w_X5_put E a_ a_row a_partners a_share a_leftOver c_askedCount c_outcome w_8)) (va_runV (As := [.int x2, .int (6 : Int32), .int (0 : Int32)]) (rest := [])  ⟨hx, hb, hml, hown, hts⟩ (f_X5_put l E H.size (a_ := a_) (a_row := a_row) (a_partners := a_partners) (a_share := a_share) (a_leftOver := a_leftOver) (p1 := x2) (p2 := (6 : Int32)) (p3 := (0 : Int32)) (c_askedCount := c_askedCount) (c_outcome := c_outcome) (c_row := c_row) hc_9) (cwV 3 hts g_f_X5_startCounts_f_X5_put_52 rfl rfl rfl hd_X5_put ⟨Nat.le_of_ble_eq_true rfl, Nat.le_of_ble_eq_true rfl⟩) ⟨pW.blind, hrc, (pW.pre ⟨hK, hN⟩ hPc hDc)⟩ rfl rfl hl.1 rfl (lv_room (Nat.le_of_ble_eq_true rfl)) (dq_182 0 bcX5_startCounts_0 (j := 46) (i := 52) rfl rfl rfl) ⟨Nat.le_of_ble_eq_true rfl, Nat.le_of_ble_eq_true rfl⟩) hS hFc hP hD [0, 1] [] rfl rfl (by decide) (by decide) (fun H locs hP hD hS => ?_)
    have h9 := fixPD (ws' := [k_X5 a_ a_row a_partners c_askedCount c_outcome a_share a_leftOver, k_I E a_row 81 w_8]) hP hD rfl
    clear hP hD
    obtain ⟨hP, hD⟩ := h9
    refine lv_aload_n hx hb (dq_42 48 bcX5_startCounts_1 (j := 1) rfl rfl) rfl (lv_at hl 0 rfl) ?_
    refine lv_iload_n hx hb (dq_28 48 bcX5_startCounts_1 (j := 2) rfl rfl) rfl (lv_at hl 1 rfl) ?_
    refine lv_bipush (v := 7) hx hb (dq_16 48 bcX5_startCounts_1 (j := 3) (i := 7) rfl rfl rfl) (by decide) ?_
    refine lv_iconst (v := 0) hx hb (dq_3 48 bcX5_startCounts_1 (j := 5) rfl rfl) (by decide) ?_
    replace hF := bd1_s hF
    obtain ⟨w_10, hc_11, hF⟩ := hF
    obtain ⟨hPc, hDc, hFc⟩ := wcut (wc := (w_X5_put E a_ a_row a_partners a_share a_leftOver c_askedCount c_outcome w_8)) hP hD hS hA [0, 1] (by decide) rfl
    have hrc := va_recv hK hPc (ci := 6) (q0 := 0) rfl rfl
    refine cE_v (wc := (w_X5_put E a_ a_row a_partners a_share a_leftOver c_askedCount c_outcome w_8)) (wr := []) (w1 := (w_X5_put E a_ a_row a_partners a_share a_leftOver c_askedCount c_outcome w_10)) (va_runV (As := [.int x2, .int (7 : Int32), .int (0 : Int32)]) (rest := [])  ⟨hx, hb, hml, hown, hts⟩ (f_X5_put l E H.size (a_ := a_) (a_row := a_row) (a_partners := a_partners) (a_share := a_share) (a_leftOver := a_leftOver) (p1 := x2) (p2 := (7 : Int32)) (p3 := (0 : Int32)) (c_askedCount := c_askedCount) (c_outcome := c_outcome) (c_row := w_8) hc_11) (cwV 3 hts g_f_X5_startCounts_f_X5_put_52 rfl rfl rfl hd_X5_put ⟨Nat.le_of_ble_eq_true rfl, Nat.le_of_ble_eq_true rfl⟩) ⟨pW.blind, hrc, (pW.pre ⟨hK, hN⟩ hPc hDc)⟩ rfl rfl hl.1 rfl (lv_room (Nat.le_of_ble_eq_true rfl)) (dq_182 48 bcX5_startCounts_1 (j := 6) (i := 52) rfl rfl rfl) ⟨Nat.le_of_ble_eq_true rfl, Nat.le_of_ble_eq_true rfl⟩) hS hFc hP hD [0, 1] [] rfl rfl (by decide) (by decide) (fun H locs hP hD hS => ?_)
    have h9 := fixPD (ws' := [k_X5 a_ a_row a_partners c_askedCount c_outcome a_share a_leftOver, k_I E a_row 81 w_10]) hP hD rfl
    clear hP hD
    obtain ⟨hP, hD⟩ := h9
    refine lv_iinc (v := x2 + (1 : Int32)) (lv' := [(2, .int (x2 + (1 : Int32))), (0, .ref a_)]) hx hb (dq_132 48 bcX5_startCounts_1 (j := 9) (i := 1) rfl rfl rfl) hl (k := 1) rfl (rfl) (by decide) rfl (fun ls hl => ?_)
    refine lv_goto (tgt := 33) hx hb (dq_167 48 bcX5_startCounts_1 (j := 12) (i := -27) rfl rfl rfl) (by decide) ?_
    cases hF
    exact hC (x2 + (1 : Int32)) w_10 rfl H locs ls (hP.sub [0, 1] rfl) (hD.sub [0, 1] (by decide) rfl) hS (lv_sub hl [1, 0] rfl)

set_option maxHeartbeats 4000000 in
set_option maxRecDepth 100000 in
theorem lw_X5_startCounts_33 {p : Program} (l : Launch) {e : Env} {s : State} {m : MethodId} {below : List Frame} {meth : Method} {c : Code} {Q : State → Prop} (E : EE) (K : Nat) {a_ a_row a_partners a_share a_leftOver : Nat} {p1 : Int32} {c_askedCount : Int32} {c_outcome : Int32} (hx : p.tables.exec = Jvm.exec) (hb : c.code = cX5_startCounts) (hml : c.maxLocals = 3) (hown : s.vm.findClass RX5 = some m.cls) (hts : ∀ w ∈ v_f_X5_startCounts, w.before #[Value.ref a_, Value.int p1] s = true) (hK : va_K E.1 vwCl (TY E) s) (hN : NX s) {A : Nat → Prop} (hA : ∀ q : Nat, s.heap.size ≤ q → A q) (j9 : Nat) (x2 : Int32) (c_row : Nat → Int32) (c_row' : Nat → Int32) (hL : lpF (fun u9 : Int32 × (Nat → Int32) => B_X5_startCounts_33  u9.1 u9.2) j9 (x2, c_row) = some c_row') (hX : (∀ (H : Heap) (locs : List Loc) (ls : Array Slot), va_P E.1 vwCl (w_X5_startCounts E a_ a_row a_partners a_share a_leftOver c_askedCount c_outcome c_row') H → va_D A (w_X5_startCounts E a_ a_row a_partners a_share a_leftOver c_askedCount c_outcome c_row') → va_S A s.heap H locs → lv_has ls 3 [] → W p l e ({ frames := 1, cells := 0, slots := 0, locals := 23 } : Room) s m #[Value.ref a_, Value.int p1] below meth c H locs 0 0 Q (F0 m 63 ls []))) : ∀ (H : Heap) (locs : List Loc) (ls : Array Slot), va_P E.1 vwCl (w_X5_startCounts E a_ a_row a_partners a_share a_leftOver c_askedCount c_outcome c_row) H → va_D A (w_X5_startCounts E a_ a_row a_partners a_share a_leftOver c_askedCount c_outcome c_row) → va_S A s.heap H locs → lv_has ls 3 [(0, .ref a_), (2, .int x2)] → W p l e ({ frames := 1, cells := 0, slots := 0, locals := 23 } : Room) s m #[Value.ref a_, Value.int p1] below meth c H locs 0 0 Q (F0 m 33 ls []) := by
  exact lp_rule (P := (fun u9 : Int32 × (Nat → Int32) => ∀ (H : Heap) (locs : List Loc) (ls : Array Slot), va_P E.1 vwCl (w_X5_startCounts E a_ a_row a_partners a_share a_leftOver c_askedCount c_outcome u9.2) H → va_D A (w_X5_startCounts E a_ a_row a_partners a_share a_leftOver c_askedCount c_outcome u9.2) → va_S A s.heap H locs → lv_has ls 3 [(0, .ref a_), (2, .int u9.1)] → W p l e ({ frames := 1, cells := 0, slots := 0, locals := 23 } : Room) s m #[Value.ref a_, Value.int p1] below meth c H locs 0 0 Q (F0 m 33 ls []))) (R := (fun r9 : (Nat → Int32) => (∀ (H : Heap) (locs : List Loc) (ls : Array Slot), va_P E.1 vwCl (w_X5_startCounts E a_ a_row a_partners a_share a_leftOver c_askedCount c_outcome r9) H → va_D A (w_X5_startCounts E a_ a_row a_partners a_share a_leftOver c_askedCount c_outcome r9) → va_S A s.heap H locs → lv_has ls 3 [] → W p l e ({ frames := 1, cells := 0, slots := 0, locals := 23 } : Room) s m #[Value.ref a_, Value.int p1] below meth c H locs 0 0 Q (F0 m 63 ls [])))) (fun u9 xx hF hC hE => wb_X5_startCounts_33 l E K (p1 := p1) (c_askedCount := c_askedCount) (c_outcome := c_outcome) (x2 := u9.1) (c_row := u9.2) hx hb hml hown hts hK hN hA (fun x2 c_row q9 => hC _ q9) (fun c_row q9 => hE _ q9) hF) j9 (x2, c_row) c_row' hL hX

set_option maxHeartbeats 4000000 in
set_option maxRecDepth 100000 in
theorem f_X5_startCounts (l : Launch) (E : EE) (sz : Nat) (K : Nat) {a_ a_row a_partners a_share a_leftOver : Nat} {p1 : Int32} {c_askedCount : Int32} {c_outcome : Int32} {c_row : Nat → Int32} {n_row : Nat → Int32} (hF : F_X5_startCounts K p1 c_row = some n_row) : Met l yX5_startCounts v_f_X5_startCounts (({ frames := 1, cells := 0, slots := 0, locals := 23 } : Room)) (va_Pc [.ref a_, .int p1] (pW E sz (w_X5_startCounts E a_ a_row a_partners a_share a_leftOver c_askedCount c_outcome c_row))) (va_Qv (fun (_u : Unit) => True) (fun (_u : Unit) tt => va_P E.1 vwCl (w_X5_startCounts E a_ a_row a_partners a_share a_leftOver c_askedCount c_outcome n_row) tt.heap ∧ va_D (va_A (w_X5_startCounts E a_ a_row a_partners a_share a_leftOver c_askedCount c_outcome c_row) sz) (w_X5_startCounts E a_ a_row a_partners a_share a_leftOver c_askedCount c_outcome n_row)) (va_A (w_X5_startCounts E a_ a_row a_partners a_share a_leftOver c_askedCount c_outcome c_row) sz)) 0 0 (va_A (w_X5_startCounts E a_ a_row a_partners a_share a_leftOver c_askedCount c_outcome c_row) sz) := by
  refine Met.ofW (cc := cX5_startCounts) (maxL := 3) (ret := none) (by decide) rfl ?_
  intro p e s m args below meth c s₁ B hml hv
  obtain ⟨rfl, hsz, ⟨hK, hN⟩, hP, hD0⟩ := hv
  have hx := B.exec
  have hb := B.bytes
  have hr := B.returns
  have hts := atoms_spec (ws := v_f_X5_startCounts) B.pre
  have hown : s.vm.findClass RX5 = some m.cls := own_of hd_X5_startCounts.1 (findClass_of_methodNamed B.named)
  have hlocks : meth.locks = false := B.notSynchronized
  subst hsz
  have hD := hD0.self (sz := s.heap.size)
  generalize hAe : va_A (w_X5_startCounts E a_ a_row a_partners a_share a_leftOver c_askedCount c_outcome c_row) s.heap.size = A at hD ⊢
  have hA : ∀ q : Nat, s.heap.size ≤ q → A q := fun q h => by rw [← hAe]; exact Or.inr h
  have hS : va_S A s.heap s.heap [] := va_S.rf
  have hl := lv_entry ([.ref a_, .int p1]) (n := 3) (Nat.le_of_ble_eq_true rfl)
  rw [lg_entry_eq]
  generalize (lg_sl ([.ref a_, .int p1]) ++ List.replicate (3 - (lg_sl ([.ref a_, .int p1])).length) Slot.unset).toArray = ls at hl ⊢
  have hl : lv_has ls 3 [(0, .ref a_), (1, .int p1)] := hl
  obtain ⟨Q, hQ⟩ : ∃ Q : State → Prop, Q = MQ below (va_Qv (fun (_u : Unit) => True) (fun (_u : Unit) tt => va_P E.1 vwCl (w_X5_startCounts E a_ a_row a_partners a_share a_leftOver c_askedCount c_outcome n_row) tt.heap ∧ va_D A (w_X5_startCounts E a_ a_row a_partners a_share a_leftOver c_askedCount c_outcome n_row)) A) #[Value.ref a_, Value.int p1] s 0 0 A := ⟨_, rfl⟩
  rw [← hQ]
  change W p l e ({ frames := 1, cells := 0, slots := 0, locals := 23 } : Room) s m #[Value.ref a_, Value.int p1] below meth c s.heap [] 0 0 Q (F0 m 0 ls [])
  suffices hh9 : ∀ (H : Heap) (locs : List Loc), va_P E.1 vwCl (w_X5_startCounts E a_ a_row a_partners a_share a_leftOver c_askedCount c_outcome c_row) H → va_D A (w_X5_startCounts E a_ a_row a_partners a_share a_leftOver c_askedCount c_outcome c_row) → va_S A s.heap H locs → W p l e ({ frames := 1, cells := 0, slots := 0, locals := 23 } : Room) s m #[Value.ref a_, Value.int p1] below meth c H locs 0 0 Q (F0 m 0 ls []) from hh9 s.heap [] hP hD hS
  clear hP hD hS
  intro H locs hP hD hS
  have h9 := fixPD (ws' := [k_X5 a_ a_row a_partners c_askedCount c_outcome a_share a_leftOver, k_I E a_row 81 c_row]) hP hD rfl
  clear hP hD
  obtain ⟨hP, hD⟩ := h9
  unfold F_X5_startCounts at hF
  refine lv_aload_n hx hb (dq_42 0 bcX5_startCounts_0 (j := 0) rfl rfl) rfl (lv_at hl 0 rfl) ?_
  refine gt_X5_0 (v := .ref a_row) hx hb hts i_f_X5_startCounts_X5 hown hK hP 0 rfl (hts (.fieldLink RX5 11 "HushWatch$State" "row" "[I") (List.mem_of_getElem? (i := 1) rfl)) rfl (dq_180 0 bcX5_startCounts_0 (j := 1) (i := 11) rfl rfl rfl) ?_
  refine lv_iconst (v := 2) hx hb (dq_5 0 bcX5_startCounts_0 (j := 4) rfl rfl) (by decide) ?_
  refine lv_iload_n hx hb (dq_27 0 bcX5_startCounts_0 (j := 5) rfl rfl) rfl (lv_at hl 1 rfl) ?_
  refine va_iast hx hb hK hP hD hS 1 0 rfl rfl (vin rfl) (dq_79 0 bcX5_startCounts_0 (j := 6) rfl rfl) (fun H locs hP hD hS => ?_)
  have h9 := fixPD (ws' := [k_X5 a_ a_row a_partners c_askedCount c_outcome a_share a_leftOver, k_I E a_row 81 (upd c_row 2 p1)]) hP hD rfl
  clear hP hD
  obtain ⟨hP, hD⟩ := h9
  replace hF := nm_s hF
  obtain ⟨f_1, hf_1, hF⟩ := hF
  rw [← hf_1] at hP hD
  refine lv_aload_n hx hb (dq_42 0 bcX5_startCounts_0 (j := 7) rfl rfl) rfl (lv_at hl 0 rfl) ?_
  refine gt_X5_0 (v := .ref a_row) hx hb hts i_f_X5_startCounts_X5 hown hK hP 0 rfl (hts (.fieldLink RX5 11 "HushWatch$State" "row" "[I") (List.mem_of_getElem? (i := 1) rfl)) rfl (dq_180 0 bcX5_startCounts_0 (j := 8) (i := 11) rfl rfl rfl) ?_
  refine lv_bipush (v := 8) hx hb (dq_16 0 bcX5_startCounts_0 (j := 11) (i := 8) rfl rfl rfl) (by decide) ?_
  refine lv_iconst (v := 0) hx hb (dq_3 0 bcX5_startCounts_0 (j := 13) rfl rfl) (by decide) ?_
  refine va_iast hx hb hK hP hD hS 1 0 rfl rfl (vin rfl) (dq_79 0 bcX5_startCounts_0 (j := 14) rfl rfl) (fun H locs hP hD hS => ?_)
  have h9 := fixPD (ws' := [k_X5 a_ a_row a_partners c_askedCount c_outcome a_share a_leftOver, k_I E a_row 81 (upd f_1 8 (0 : Int32))]) hP hD rfl
  clear hP hD
  obtain ⟨hP, hD⟩ := h9
  replace hF := nm_s hF
  obtain ⟨f_2, hf_2, hF⟩ := hF
  rw [← hf_2] at hP hD
  refine lv_aload_n hx hb (dq_42 0 bcX5_startCounts_0 (j := 15) rfl rfl) rfl (lv_at hl 0 rfl) ?_
  refine gt_X5_0 (v := .ref a_row) hx hb hts i_f_X5_startCounts_X5 hown hK hP 0 rfl (hts (.fieldLink RX5 11 "HushWatch$State" "row" "[I") (List.mem_of_getElem? (i := 1) rfl)) rfl (dq_180 0 bcX5_startCounts_0 (j := 16) (i := 11) rfl rfl rfl) ?_
  refine lv_bipush (v := 9) hx hb (dq_16 0 bcX5_startCounts_0 (j := 19) (i := 9) rfl rfl rfl) (by decide) ?_
  refine lv_iconst (v := 0) hx hb (dq_3 0 bcX5_startCounts_0 (j := 21) rfl rfl) (by decide) ?_
  refine va_iast hx hb hK hP hD hS 1 0 rfl rfl (vin rfl) (dq_79 0 bcX5_startCounts_0 (j := 22) rfl rfl) (fun H locs hP hD hS => ?_)
  have h9 := fixPD (ws' := [k_X5 a_ a_row a_partners c_askedCount c_outcome a_share a_leftOver, k_I E a_row 81 (upd f_2 9 (0 : Int32))]) hP hD rfl
  clear hP hD
  obtain ⟨hP, hD⟩ := h9
  replace hF := nm_s hF
  obtain ⟨f_3, hf_3, hF⟩ := hF
  rw [← hf_3] at hP hD
  refine lv_aload_n hx hb (dq_42 0 bcX5_startCounts_0 (j := 23) rfl rfl) rfl (lv_at hl 0 rfl) ?_
  refine gt_X5_0 (v := .ref a_row) hx hb hts i_f_X5_startCounts_X5 hown hK hP 0 rfl (hts (.fieldLink RX5 11 "HushWatch$State" "row" "[I") (List.mem_of_getElem? (i := 1) rfl)) rfl (dq_180 0 bcX5_startCounts_0 (j := 24) (i := 11) rfl rfl rfl) ?_
  refine lv_bipush (v := 10) hx hb (dq_16 0 bcX5_startCounts_0 (j := 27) (i := 10) rfl rfl rfl) (by decide) ?_
  refine lv_iconst (v := 0) hx hb (dq_3 0 bcX5_startCounts_0 (j := 29) rfl rfl) (by decide) ?_
  refine va_iast hx hb hK hP hD hS 1 0 rfl rfl (vin rfl) (dq_79 0 bcX5_startCounts_0 (j := 30) rfl rfl) (fun H locs hP hD hS => ?_)
  have h9 := fixPD (ws' := [k_X5 a_ a_row a_partners c_askedCount c_outcome a_share a_leftOver, k_I E a_row 81 (upd f_3 10 (0 : Int32))]) hP hD rfl
  clear hP hD
  obtain ⟨hP, hD⟩ := h9
  replace hF := nm_s hF
  obtain ⟨f_4, hf_4, hF⟩ := hF
  rw [← hf_4] at hP hD
  refine lv_iconst (v := 0) hx hb (dq_3 0 bcX5_startCounts_0 (j := 31) rfl rfl) (by decide) ?_
  refine lv_istore_n (lv' := [(2, .int (0 : Int32)), (0, .ref a_), (1, .int p1)]) hx hb (dq_61 0 bcX5_startCounts_0 (j := 32) rfl rfl) rfl hl (by decide) rfl (fun ls hl => ?_)
  replace hF := bd1_s hF
  obtain ⟨c_row_12, hL_13, hF⟩ := hF
  refine lw_X5_startCounts_33 l E K (p1 := p1) (c_askedCount := c_askedCount) (c_outcome := c_outcome) hx hb hml hown hts hK hN hA K (0 : Int32) f_4 c_row_12 hL_13 ?_ H locs ls (hP.sub [0, 1] rfl) (hD.sub [0, 1] (by decide) rfl) hS (lv_sub hl [1, 0] rfl)
  ·
    intro H locs ls hP hD hS hl
    have h9 := fixPD (ws' := [k_X5 a_ a_row a_partners c_askedCount c_outcome a_share a_leftOver, k_I E a_row 81 c_row_12]) hP hD rfl
    clear hP hD
    obtain ⟨hP, hD⟩ := h9
    rw [hQ]
    have h9 := fin9 (P := fun u9 : (Nat → Int32) => va_P E.1 vwCl (w_X5_startCounts E a_ a_row a_partners a_share a_leftOver c_askedCount c_outcome u9) H ∧ va_D A (w_X5_startCounts E a_ a_row a_partners a_share a_leftOver c_askedCount c_outcome u9)) hF ⟨hP, hD⟩
    obtain ⟨hP9, hD9⟩ := h9
    exact W.vret hx hb hr (fun tt ht hW => ⟨⟨(), rfl, trivial, ht ▸ hP9, hD9⟩, hS.F ht⟩) hS.2.2 (dq_177 48 bcX5_startCounts_1 (j := 15) rfl rfl)

def F_X5_doAct (K : Nat) (p1 : Int32) (p2 : Int32) (p3 : Int32) (p4 : Int32) (c_row : Nat → Int32) (c_partners : Nat → Int32) (c_askedCount : Int32) (c_outcome : Int32) (c_share : Nat → Int32) (c_leftOver : Nat → Int32) : Option (Int32 × (Nat → Int32) × (Nat → Int32) × Int32 × Int32 × (Nat → Int32) × (Nat → Int32)) :=
  if p1 = (0 : Int32) then bd7 (F_X5_moveSite K p2 p3 p4 c_row c_partners c_askedCount c_outcome c_share c_leftOver) (fun r_2 w_3 w_4 w_5 w_6 w_7 w_8 => nmF (upd w_3 11 ((w_3 11) + r_2)) (fun f_10 => some (r_2, f_10, w_4, w_5, w_6, w_7, w_8))) else if p1 = (1 : Int32) then bd2 (F_X5_hearByHand K c_row) (fun r_11 w_12 => nmF (upd w_12 11 ((w_12 11) + r_11)) (fun f_14 => some (r_11, f_14, c_partners, c_askedCount, c_outcome, c_share, c_leftOver))) else if p1 = (2 : Int32) then nmF (upd c_row 1 p2) (fun f_15 => bd2 (F_X5_hearByHand K f_15) (fun r_16 w_17 => nmF (upd w_17 11 ((w_17 11) + r_16)) (fun f_19 => some (r_16, f_19, c_partners, c_askedCount, c_outcome, c_share, c_leftOver)))) else if p1 = (3 : Int32) then nmF (upd c_row 0 p2) (fun f_20 => bd2 (F_X5_hearByHand K f_20) (fun r_21 w_22 => nmF (upd w_22 11 ((w_22 11) + r_21)) (fun f_24 => some (r_21, f_24, c_partners, c_askedCount, c_outcome, c_share, c_leftOver)))) else if p1 = (4 : Int32) then bd2 (F_X5_addTo K p2 p3 c_row) (fun r_25 w_26 => nmF (upd w_26 11 ((w_26 11) + r_25)) (fun f_28 => some (r_25, f_28, c_partners, c_askedCount, c_outcome, c_share, c_leftOver))) else if p1 = (5 : Int32) then bd1 (F_X5_startCounts K p2 c_row) (fun w_29 => nmF (upd w_29 11 ((w_29 11) + (0 : Int32))) (fun f_31 => some ((0 : Int32), f_31, c_partners, c_askedCount, c_outcome, c_share, c_leftOver))) else if p1 = (6 : Int32) then nmF (upd c_row 7 ((c_row 7) ^^^ ((1 : Int32) <<< (p2 &&& (31 : Int32))))) (fun f_32 => nmF (upd f_32 11 ((f_32 11) + (0 : Int32))) (fun f_33 => some ((0 : Int32), f_33, c_partners, c_askedCount, c_outcome, c_share, c_leftOver))) else nmF (upd c_row 11 ((c_row 11) + (0 : Int32))) (fun f_34 => some ((0 : Int32), f_34, c_partners, c_askedCount, c_outcome, c_share, c_leftOver))
abbrev w_X5_doAct (E : EE) (a_ a_row a_partners a_share a_leftOver : Nat) (c_askedCount : Int32) (c_outcome : Int32) (c_row : Nat → Int32) (c_partners : Nat → Int32) (c_share : Nat → Int32) (c_leftOver : Nat → Int32) : va_W := [k_X5 a_ a_row a_partners c_askedCount c_outcome a_share a_leftOver, k_I E a_row 81 c_row, k_I E a_partners 8 c_partners, k_I E a_share 2 c_share, k_I E a_leftOver 2 c_leftOver]
def v_f_X5_doAct : List Cond := List.cons (.code yX5_doAct cX5_doAct 6 (some .int)) (HAppend.hAppend (α := List Cond) (β := List Cond) (γ := List Cond) [.fieldLink RX5 11 "HushWatch$State" "row" "[I", .methodLink RX5 137 yX5_moveSite, .instanceMethod yX5_moveSite, .selects RX5 yX5_moveSite yX5_moveSite, .initialized RX5, .methodLink RX5 140 yX5_hearByHand, .instanceMethod yX5_hearByHand, .selects RX5 yX5_hearByHand yX5_hearByHand, .methodLink RX5 143 yX5_addTo, .instanceMethod yX5_addTo, .selects RX5 yX5_addTo yX5_addTo, .methodLink RX5 146 yX5_startCounts, .instanceMethod yX5_startCounts, .selects RX5 yX5_startCounts yX5_startCounts] (HAppend.hAppend (α := List Cond) (β := List Cond) (γ := List Cond) v_f_X5_moveSite (HAppend.hAppend (α := List Cond) (β := List Cond) (γ := List Cond) wsX50 (HAppend.hAppend (α := List Cond) (β := List Cond) (γ := List Cond) v_f_X5_hearByHand (HAppend.hAppend (α := List Cond) (β := List Cond) (γ := List Cond) v_f_X5_addTo (HAppend.hAppend (α := List Cond) (β := List Cond) (γ := List Cond) v_f_X5_startCounts []))))))
theorem gw_f_X5_doAct : v_f_X5_doAct.all goodWord = true := gw_c2 (by decide +kernel) (gw_ap gw_f_X5_moveSite (gw_ap gw_wsX50 (gw_ap gw_f_X5_hearByHand (gw_ap gw_f_X5_addTo (gw_ap gw_f_X5_startCounts gw_nil)))))
theorem i_f_X5_doAct_X5 : ∀ w ∈ wsX50, w ∈ v_f_X5_doAct := fun _ h => List.mem_cons_of_mem _ (List.mem_append_right _ (List.mem_append_right _ (List.mem_append_left _ h)))
theorem g_f_X5_doAct_f_X5_moveSite_137 : GoodIn v_f_X5_doAct (wsV RX5 137 RX5 yX5_moveSite v_f_X5_moveSite) := goodIn_in gw_f_X5_doAct (in4 2 3 4 5 rfl rfl rfl rfl (fun _ h => List.mem_cons_of_mem _ (List.mem_append_right _ (List.mem_append_left _ h))))
theorem g_f_X5_doAct_f_X5_hearByHand_140 : GoodIn v_f_X5_doAct (wsV RX5 140 RX5 yX5_hearByHand v_f_X5_hearByHand) := goodIn_in gw_f_X5_doAct (in4 6 7 8 5 rfl rfl rfl rfl (fun _ h => List.mem_cons_of_mem _ (List.mem_append_right _ (List.mem_append_right _ (List.mem_append_right _ (List.mem_append_left _ h))))))
theorem g_f_X5_doAct_f_X5_addTo_143 : GoodIn v_f_X5_doAct (wsV RX5 143 RX5 yX5_addTo v_f_X5_addTo) := goodIn_in gw_f_X5_doAct (in4 9 10 11 5 rfl rfl rfl rfl (fun _ h => List.mem_cons_of_mem _ (List.mem_append_right _ (List.mem_append_right _ (List.mem_append_right _ (List.mem_append_right _ (List.mem_append_left _ h)))))))
theorem g_f_X5_doAct_f_X5_startCounts_146 : GoodIn v_f_X5_doAct (wsV RX5 146 RX5 yX5_startCounts v_f_X5_startCounts) := goodIn_in gw_f_X5_doAct (in4 12 13 14 5 rfl rfl rfl rfl (fun _ h => List.mem_cons_of_mem _ (List.mem_append_right _ (List.mem_append_right _ (List.mem_append_right _ (List.mem_append_right _ (List.mem_append_right _ (List.mem_append_left _ h))))))))
theorem hd_X5_doAct : yX5_doAct.cls = RX5 ∧ yX5_doAct.cls ≠ "java/lang/invoke/MethodHandle" ∧ yX5_doAct.cls ≠ "java/lang/invoke/VarHandle" ∧ (parseMethodDescriptor yX5_doAct.desc).map (fun d => d.parameters.length) = some 4 := by decide +kernel
set_option maxHeartbeats 4000000 in
set_option maxRecDepth 100000 in
theorem f_X5_doAct (l : Launch) (E : EE) (sz : Nat) (K : Nat) {a_ a_row a_partners a_share a_leftOver : Nat} {p1 : Int32} {p2 : Int32} {p3 : Int32} {p4 : Int32} {c_askedCount : Int32} {c_outcome : Int32} {c_row : Nat → Int32} {c_partners : Nat → Int32} {c_share : Nat → Int32} {c_leftOver : Nat → Int32} {rr : Int32} {n_row : Nat → Int32} {n_partners : Nat → Int32} {n_askedCount : Int32} {n_outcome : Int32} {n_share : Nat → Int32} {n_leftOver : Nat → Int32} (hF : F_X5_doAct K p1 p2 p3 p4 c_row c_partners c_askedCount c_outcome c_share c_leftOver = some (rr, n_row, n_partners, n_askedCount, n_outcome, n_share, n_leftOver)) : Met l yX5_doAct v_f_X5_doAct (({ frames := 4, cells := 0, slots := 0, locals := 99 } : Room)) (va_Pc [.ref a_, .int p1, .int p2, .int p3, .int p4] (pW E sz (w_X5_doAct E a_ a_row a_partners a_share a_leftOver c_askedCount c_outcome c_row c_partners c_share c_leftOver))) (va_Qi (fun (q : Int32) (_u : Unit) => q = rr) (fun (_u : Unit) tt => va_P E.1 vwCl (w_X5_doAct E a_ a_row a_partners a_share a_leftOver n_askedCount n_outcome n_row n_partners n_share n_leftOver) tt.heap ∧ va_D (va_A (w_X5_doAct E a_ a_row a_partners a_share a_leftOver c_askedCount c_outcome c_row c_partners c_share c_leftOver) sz) (w_X5_doAct E a_ a_row a_partners a_share a_leftOver n_askedCount n_outcome n_row n_partners n_share n_leftOver)) (va_A (w_X5_doAct E a_ a_row a_partners a_share a_leftOver c_askedCount c_outcome c_row c_partners c_share c_leftOver) sz)) 0 0 (va_A (w_X5_doAct E a_ a_row a_partners a_share a_leftOver c_askedCount c_outcome c_row c_partners c_share c_leftOver) sz) := by
  refine Met.ofW (cc := cX5_doAct) (maxL := 6) (ret := (some .int)) (by decide) rfl ?_
  intro p e s m args below meth c s₁ B hml hv
  obtain ⟨rfl, hsz, ⟨hK, hN⟩, hP, hD0⟩ := hv
  have hx := B.exec
  have hb := B.bytes
  have hr := B.returns
  have hts := atoms_spec (ws := v_f_X5_doAct) B.pre
  have hown : s.vm.findClass RX5 = some m.cls := own_of hd_X5_doAct.1 (findClass_of_methodNamed B.named)
  have hlocks : meth.locks = false := B.notSynchronized
  subst hsz
  have hD := hD0.self (sz := s.heap.size)
  generalize hAe : va_A (w_X5_doAct E a_ a_row a_partners a_share a_leftOver c_askedCount c_outcome c_row c_partners c_share c_leftOver) s.heap.size = A at hD ⊢
  have hA : ∀ q : Nat, s.heap.size ≤ q → A q := fun q h => by rw [← hAe]; exact Or.inr h
  have hS : va_S A s.heap s.heap [] := va_S.rf
  have hl := lv_entry ([.ref a_, .int p1, .int p2, .int p3, .int p4]) (n := 6) (Nat.le_of_ble_eq_true rfl)
  rw [lg_entry_eq]
  generalize (lg_sl ([.ref a_, .int p1, .int p2, .int p3, .int p4]) ++ List.replicate (6 - (lg_sl ([.ref a_, .int p1, .int p2, .int p3, .int p4])).length) Slot.unset).toArray = ls at hl ⊢
  have hl : lv_has ls 6 [(0, .ref a_), (1, .int p1), (2, .int p2), (3, .int p3), (4, .int p4)] := hl
  obtain ⟨Q, hQ⟩ : ∃ Q : State → Prop, Q = MQ below (va_Qi (fun (q : Int32) (_u : Unit) => q = rr) (fun (_u : Unit) tt => va_P E.1 vwCl (w_X5_doAct E a_ a_row a_partners a_share a_leftOver n_askedCount n_outcome n_row n_partners n_share n_leftOver) tt.heap ∧ va_D A (w_X5_doAct E a_ a_row a_partners a_share a_leftOver n_askedCount n_outcome n_row n_partners n_share n_leftOver)) A) #[Value.ref a_, Value.int p1, Value.int p2, Value.int p3, Value.int p4] s 0 0 A := ⟨_, rfl⟩
  rw [← hQ]
  change W p l e ({ frames := 4, cells := 0, slots := 0, locals := 99 } : Room) s m #[Value.ref a_, Value.int p1, Value.int p2, Value.int p3, Value.int p4] below meth c s.heap [] 0 0 Q (F0 m 0 ls [])
  suffices hh9 : ∀ (H : Heap) (locs : List Loc), va_P E.1 vwCl (w_X5_doAct E a_ a_row a_partners a_share a_leftOver c_askedCount c_outcome c_row c_partners c_share c_leftOver) H → va_D A (w_X5_doAct E a_ a_row a_partners a_share a_leftOver c_askedCount c_outcome c_row c_partners c_share c_leftOver) → va_S A s.heap H locs → W p l e ({ frames := 4, cells := 0, slots := 0, locals := 99 } : Room) s m #[Value.ref a_, Value.int p1, Value.int p2, Value.int p3, Value.int p4] below meth c H locs 0 0 Q (F0 m 0 ls []) from hh9 s.heap [] hP hD hS
  clear hP hD hS
  intro H locs hP hD hS
  have h9 := fixPD (ws' := [k_X5 a_ a_row a_partners c_askedCount c_outcome a_share a_leftOver, k_I E a_row 81 c_row, k_I E a_partners 8 c_partners, k_I E a_share 2 c_share, k_I E a_leftOver 2 c_leftOver]) hP hD rfl
  clear hP hD
  obtain ⟨hP, hD⟩ := h9
  unfold F_X5_doAct at hF
  refine lv_iconst (v := 0) hx hb (dq_3 0 bcX5_doAct_0 (j := 0) rfl rfl) (by decide) ?_
  refine lv_istore (lv' := [(5, .int (0 : Int32)), (0, .ref a_), (1, .int p1), (2, .int p2), (3, .int p3), (4, .int p4)]) hx hb (dq_54 0 bcX5_doAct_0 (j := 1) (i := 5) rfl rfl) hl (by decide) rfl (fun ls hl => ?_)
  refine lv_iload_n hx hb (dq_27 0 bcX5_doAct_0 (j := 3) rfl rfl) rfl (lv_at hl 2 rfl) ?_
  rcases Classical.em (p1 = (0 : Int32)) with c_1_0 | c_1_0
  ·
    replace hF := ip c_1_0 hF
    refine lv_tableIn (off := 44) (tgt := 48) hx hb dX5_doAct_4 (by rw [c_1_0]; decide) (by rw [c_1_0]; decide) (by rw [c_1_0]; decide) (by decide) ?_
    refine lv_aload_n hx hb (dq_42 48 bcX5_doAct_1 (j := 0) rfl rfl) rfl (lv_at hl 1 rfl) ?_
    refine lv_iload_n hx hb (dq_28 48 bcX5_doAct_1 (j := 1) rfl rfl) rfl (lv_at hl 3 rfl) ?_
    refine lv_iload_n hx hb (dq_29 48 bcX5_doAct_1 (j := 2) rfl rfl) rfl (lv_at hl 4 rfl) ?_
    refine lv_iload hx hb (dq_21 48 bcX5_doAct_1 (j := 3) (i := 4) rfl rfl) (lv_at hl 5 rfl) ?_
    replace hF := bd7_s hF
    obtain ⟨r_2, w_3, w_4, w_5, w_6, w_7, w_8, hc_9, hF⟩ := hF
    obtain ⟨hPc, hDc, hFc⟩ := wcut (wc := (w_X5_moveSite E a_ a_row a_partners a_share a_leftOver c_askedCount c_outcome c_row c_partners c_share c_leftOver)) hP hD hS hA [0, 1, 2, 3, 4] (by decide) rfl
    have hrc := va_recv hK hPc (ci := 6) (q0 := 0) rfl rfl
    refine cE_i (wc := (w_X5_moveSite E a_ a_row a_partners a_share a_leftOver c_askedCount c_outcome c_row c_partners c_share c_leftOver)) (wr := []) (w1 := (w_X5_moveSite E a_ a_row a_partners a_share a_leftOver w_5 w_6 w_3 w_4 w_7 w_8)) (va_runV (As := [.int p2, .int p3, .int p4]) (rest := [])  ⟨hx, hb, hml, hown, hts⟩ (f_X5_moveSite l E H.size K (a_ := a_) (a_row := a_row) (a_partners := a_partners) (a_share := a_share) (a_leftOver := a_leftOver) (p1 := p2) (p2 := p3) (p3 := p4) (c_askedCount := c_askedCount) (c_outcome := c_outcome) (c_row := c_row) (c_partners := c_partners) (c_share := c_share) (c_leftOver := c_leftOver) hc_9) (cwV 3 hts g_f_X5_doAct_f_X5_moveSite_137 rfl rfl rfl hd_X5_moveSite ⟨Nat.le_of_ble_eq_true rfl, Nat.le_of_ble_eq_true rfl⟩) ⟨pW.blind, hrc, (pW.pre ⟨hK, hN⟩ hPc hDc)⟩ rfl rfl hl.1 rfl (lv_room (Nat.le_of_ble_eq_true rfl)) (dq_182 48 bcX5_doAct_1 (j := 5) (i := 137) rfl rfl rfl) ⟨Nat.le_of_ble_eq_true rfl, Nat.le_of_ble_eq_true rfl⟩) hS hFc hP hD [0, 1, 2, 3, 4] [] rfl rfl (by decide) (by decide) (fun H locs hP hD hS => ?_)
    have h9 := fixPD (ws' := [k_X5 a_ a_row a_partners w_5 w_6 a_share a_leftOver, k_I E a_row 81 w_3, k_I E a_partners 8 w_4, k_I E a_share 2 w_7, k_I E a_leftOver 2 w_8]) hP hD rfl
    clear hP hD
    obtain ⟨hP, hD⟩ := h9
    refine lv_istore (lv' := [(5, .int r_2), (0, .ref a_), (1, .int p1), (2, .int p2), (3, .int p3), (4, .int p4)]) hx hb (dq_54 48 bcX5_doAct_1 (j := 8) (i := 5) rfl rfl) hl (by decide) rfl (fun ls hl => ?_)
    refine lv_goto (tgt := 137) hx hb (dq_167 48 bcX5_doAct_1 (j := 10) (i := 79) rfl rfl rfl) (by decide) ?_
    refine lv_aload_n hx hb (dq_42 96 bcX5_doAct_2 (j := 41) rfl rfl) rfl (lv_at hl 1 rfl) ?_
    refine gt_X5_0 (v := .ref a_row) hx hb hts i_f_X5_doAct_X5 hown hK hP 0 rfl (hts (.fieldLink RX5 11 "HushWatch$State" "row" "[I") (List.mem_of_getElem? (i := 1) rfl)) rfl (dq_180 96 bcX5_doAct_2 (j := 42) (i := 11) rfl rfl rfl) ?_
    refine lv_bipush (v := 11) hx hb (dq_16 96 bcX5_doAct_2 (j := 45) (i := 11) rfl rfl rfl) (by decide) ?_
    refine lv_dup2_11 hx hb (dq_92 96 bcX5_doAct_2 (j := 47) rfl rfl) rfl rfl ?_
    refine va_iald hx hb hK hP 1 0 rfl rfl (vin rfl) (dq_46 144 bcX5_doAct_3 (j := 0) rfl rfl) ?_
    refine W.eq (g2 := F0 m 145 ls [.int (w_3 11), .int (11 : Int32), .ref a_row]) rfl ?_
    refine lv_iload hx hb (dq_21 144 bcX5_doAct_3 (j := 1) (i := 5) rfl rfl) (lv_at hl 0 rfl) ?_
    refine lv_iadd hx hb (dq_96 144 bcX5_doAct_3 (j := 3) rfl rfl) ?_
    refine va_iast hx hb hK hP hD hS 1 0 rfl rfl (vin rfl) (dq_79 144 bcX5_doAct_3 (j := 4) rfl rfl) (fun H locs hP hD hS => ?_)
    have h9 := fixPD (ws' := [k_X5 a_ a_row a_partners w_5 w_6 a_share a_leftOver, k_I E a_row 81 (upd w_3 11 ((w_3 11) + r_2)), k_I E a_partners 8 w_4, k_I E a_share 2 w_7, k_I E a_leftOver 2 w_8]) hP hD rfl
    clear hP hD
    obtain ⟨hP, hD⟩ := h9
    replace hF := nm_s hF
    obtain ⟨f_10, hf_10, hF⟩ := hF
    rw [← hf_10] at hP hD
    refine lv_iload hx hb (dq_21 144 bcX5_doAct_3 (j := 5) (i := 5) rfl rfl) (lv_at hl 0 rfl) ?_
    rw [hQ]
    have h9 := fin9 (P := fun u9 : Int32 × (Nat → Int32) × (Nat → Int32) × Int32 × Int32 × (Nat → Int32) × (Nat → Int32) => r_2 = u9.1 ∧ va_P E.1 vwCl (w_X5_doAct E a_ a_row a_partners a_share a_leftOver u9.2.2.2.1 u9.2.2.2.2.1 u9.2.1 u9.2.2.1 u9.2.2.2.2.2.1 u9.2.2.2.2.2.2) H ∧ va_D A (w_X5_doAct E a_ a_row a_partners a_share a_leftOver u9.2.2.2.1 u9.2.2.2.2.1 u9.2.1 u9.2.2.1 u9.2.2.2.2.2.1 u9.2.2.2.2.2.2)) hF ⟨rfl, hP, hD⟩
    obtain ⟨e9_0, hP9, hD9⟩ := h9
    exact W.iret (v := r_2) hx hb hr (fun tt ht hW => ⟨⟨_, (), rfl, e9_0, ht ▸ hP9, hD9⟩, hS.F ht⟩) hS.2.2 (dq_172 144 bcX5_doAct_3 (j := 7) rfl rfl)
  replace hF := inn c_1_0 hF
  rcases Classical.em (p1 = (1 : Int32)) with c_1_1 | c_1_1
  ·
    replace hF := ip c_1_1 hF
    refine lv_tableIn (off := 57) (tgt := 61) hx hb dX5_doAct_4 (by rw [c_1_1]; decide) (by rw [c_1_1]; decide) (by rw [c_1_1]; decide) (by decide) ?_
    refine lv_aload_n hx hb (dq_42 48 bcX5_doAct_1 (j := 13) rfl rfl) rfl (lv_at hl 1 rfl) ?_
    replace hF := bd2_s hF
    obtain ⟨r_11, w_12, hc_13, hF⟩ := hF
    obtain ⟨hPc, hDc, hFc⟩ := wcut (wc := (w_X5_hearByHand E a_ a_row a_partners a_share a_leftOver c_askedCount c_outcome c_row)) hP hD hS hA [0, 1] (by decide) rfl
    have hrc := va_recv hK hPc (ci := 6) (q0 := 0) rfl rfl
    refine cE_i (wc := (w_X5_hearByHand E a_ a_row a_partners a_share a_leftOver c_askedCount c_outcome c_row)) (wr := [k_I E a_partners 8 c_partners, k_I E a_share 2 c_share, k_I E a_leftOver 2 c_leftOver]) (w1 := (w_X5_hearByHand E a_ a_row a_partners a_share a_leftOver c_askedCount c_outcome w_12)) (va_runV (As := []) (rest := [])  ⟨hx, hb, hml, hown, hts⟩ (f_X5_hearByHand l E H.size K (a_ := a_) (a_row := a_row) (a_partners := a_partners) (a_share := a_share) (a_leftOver := a_leftOver) (c_askedCount := c_askedCount) (c_outcome := c_outcome) (c_row := c_row) hc_13) (cwV 0 hts g_f_X5_doAct_f_X5_hearByHand_140 rfl rfl rfl hd_X5_hearByHand ⟨Nat.le_of_ble_eq_true rfl, Nat.le_of_ble_eq_true rfl⟩) ⟨pW.blind, hrc, (pW.pre ⟨hK, hN⟩ hPc hDc)⟩ rfl rfl hl.1 rfl (lv_room (Nat.le_of_ble_eq_true rfl)) (dq_182 48 bcX5_doAct_1 (j := 14) (i := 140) rfl rfl rfl) ⟨Nat.le_of_ble_eq_true rfl, Nat.le_of_ble_eq_true rfl⟩) hS hFc hP hD [0, 1] [2, 3, 4] rfl rfl (by decide) (by decide) (fun H locs hP hD hS => ?_)
    have h9 := fixPD (ws' := [k_I E a_partners 8 c_partners, k_I E a_share 2 c_share, k_I E a_leftOver 2 c_leftOver, k_X5 a_ a_row a_partners c_askedCount c_outcome a_share a_leftOver, k_I E a_row 81 w_12]) hP hD rfl
    clear hP hD
    obtain ⟨hP, hD⟩ := h9
    refine lv_istore (lv' := [(5, .int r_11), (0, .ref a_), (1, .int p1), (2, .int p2), (3, .int p3), (4, .int p4)]) hx hb (dq_54 48 bcX5_doAct_1 (j := 17) (i := 5) rfl rfl) hl (by decide) rfl (fun ls hl => ?_)
    refine lv_goto (tgt := 137) hx hb (dq_167 48 bcX5_doAct_1 (j := 19) (i := 70) rfl rfl rfl) (by decide) ?_
    refine lv_aload_n hx hb (dq_42 96 bcX5_doAct_2 (j := 41) rfl rfl) rfl (lv_at hl 1 rfl) ?_
    refine gt_X5_0 (v := .ref a_row) hx hb hts i_f_X5_doAct_X5 hown hK hP 3 rfl (hts (.fieldLink RX5 11 "HushWatch$State" "row" "[I") (List.mem_of_getElem? (i := 1) rfl)) rfl (dq_180 96 bcX5_doAct_2 (j := 42) (i := 11) rfl rfl rfl) ?_
    refine lv_bipush (v := 11) hx hb (dq_16 96 bcX5_doAct_2 (j := 45) (i := 11) rfl rfl rfl) (by decide) ?_
    refine lv_dup2_11 hx hb (dq_92 96 bcX5_doAct_2 (j := 47) rfl rfl) rfl rfl ?_
    refine va_iald hx hb hK hP 4 0 rfl rfl (vin rfl) (dq_46 144 bcX5_doAct_3 (j := 0) rfl rfl) ?_
    refine W.eq (g2 := F0 m 145 ls [.int (w_12 11), .int (11 : Int32), .ref a_row]) rfl ?_
    refine lv_iload hx hb (dq_21 144 bcX5_doAct_3 (j := 1) (i := 5) rfl rfl) (lv_at hl 0 rfl) ?_
    refine lv_iadd hx hb (dq_96 144 bcX5_doAct_3 (j := 3) rfl rfl) ?_
    refine va_iast hx hb hK hP hD hS 4 0 rfl rfl (vin rfl) (dq_79 144 bcX5_doAct_3 (j := 4) rfl rfl) (fun H locs hP hD hS => ?_)
    have h9 := fixPD (ws' := [k_I E a_partners 8 c_partners, k_I E a_share 2 c_share, k_I E a_leftOver 2 c_leftOver, k_X5 a_ a_row a_partners c_askedCount c_outcome a_share a_leftOver, k_I E a_row 81 (upd w_12 11 ((w_12 11) + r_11))]) hP hD rfl
    clear hP hD
    obtain ⟨hP, hD⟩ := h9
    replace hF := nm_s hF
    obtain ⟨f_14, hf_14, hF⟩ := hF
    rw [← hf_14] at hP hD
    refine lv_iload hx hb (dq_21 144 bcX5_doAct_3 (j := 5) (i := 5) rfl rfl) (lv_at hl 0 rfl) ?_
    rw [hQ]
    have h9 := fin9 (P := fun u9 : Int32 × (Nat → Int32) × (Nat → Int32) × Int32 × Int32 × (Nat → Int32) × (Nat → Int32) => r_11 = u9.1 ∧ va_P E.1 vwCl (w_X5_doAct E a_ a_row a_partners a_share a_leftOver u9.2.2.2.1 u9.2.2.2.2.1 u9.2.1 u9.2.2.1 u9.2.2.2.2.2.1 u9.2.2.2.2.2.2) H ∧ va_D A (w_X5_doAct E a_ a_row a_partners a_share a_leftOver u9.2.2.2.1 u9.2.2.2.2.1 u9.2.1 u9.2.2.1 u9.2.2.2.2.2.1 u9.2.2.2.2.2.2)) hF ⟨rfl, hP.sub [3, 4, 0, 1, 2] rfl, hD.sub [3, 4, 0, 1, 2] (by decide) rfl⟩
    obtain ⟨e9_0, hP9, hD9⟩ := h9
    exact W.iret (v := r_11) hx hb hr (fun tt ht hW => ⟨⟨_, (), rfl, e9_0, ht ▸ hP9, hD9⟩, hS.F ht⟩) hS.2.2 (dq_172 144 bcX5_doAct_3 (j := 7) rfl rfl)
  replace hF := inn c_1_1 hF
  rcases Classical.em (p1 = (2 : Int32)) with c_1_2 | c_1_2
  ·
    replace hF := ip c_1_2 hF
    refine lv_tableIn (off := 66) (tgt := 70) hx hb dX5_doAct_4 (by rw [c_1_2]; decide) (by rw [c_1_2]; decide) (by rw [c_1_2]; decide) (by decide) ?_
    refine lv_aload_n hx hb (dq_42 48 bcX5_doAct_1 (j := 22) rfl rfl) rfl (lv_at hl 1 rfl) ?_
    refine gt_X5_0 (v := .ref a_row) hx hb hts i_f_X5_doAct_X5 hown hK hP 0 rfl (hts (.fieldLink RX5 11 "HushWatch$State" "row" "[I") (List.mem_of_getElem? (i := 1) rfl)) rfl (dq_180 48 bcX5_doAct_1 (j := 23) (i := 11) rfl rfl rfl) ?_
    refine lv_iconst (v := 1) hx hb (dq_4 48 bcX5_doAct_1 (j := 26) rfl rfl) (by decide) ?_
    refine lv_iload_n hx hb (dq_28 48 bcX5_doAct_1 (j := 27) rfl rfl) rfl (lv_at hl 3 rfl) ?_
    refine va_iast hx hb hK hP hD hS 1 0 rfl rfl (vin rfl) (dq_79 48 bcX5_doAct_1 (j := 28) rfl rfl) (fun H locs hP hD hS => ?_)
    have h9 := fixPD (ws' := [k_X5 a_ a_row a_partners c_askedCount c_outcome a_share a_leftOver, k_I E a_row 81 (upd c_row 1 p2), k_I E a_partners 8 c_partners, k_I E a_share 2 c_share, k_I E a_leftOver 2 c_leftOver]) hP hD rfl
    clear hP hD
    obtain ⟨hP, hD⟩ := h9
    replace hF := nm_s hF
    obtain ⟨f_15, hf_15, hF⟩ := hF
    rw [← hf_15] at hP hD
    refine lv_aload_n hx hb (dq_42 48 bcX5_doAct_1 (j := 29) rfl rfl) rfl (lv_at hl 1 rfl) ?_
    replace hF := bd2_s hF
    obtain ⟨r_16, w_17, hc_18, hF⟩ := hF
    obtain ⟨hPc, hDc, hFc⟩ := wcut (wc := (w_X5_hearByHand E a_ a_row a_partners a_share a_leftOver c_askedCount c_outcome f_15)) hP hD hS hA [0, 1] (by decide) rfl
    have hrc := va_recv hK hPc (ci := 6) (q0 := 0) rfl rfl
    refine cE_i (wc := (w_X5_hearByHand E a_ a_row a_partners a_share a_leftOver c_askedCount c_outcome f_15)) (wr := [k_I E a_partners 8 c_partners, k_I E a_share 2 c_share, k_I E a_leftOver 2 c_leftOver]) (w1 := (w_X5_hearByHand E a_ a_row a_partners a_share a_leftOver c_askedCount c_outcome w_17)) (va_runV (As := []) (rest := [])  ⟨hx, hb, hml, hown, hts⟩ (f_X5_hearByHand l E H.size K (a_ := a_) (a_row := a_row) (a_partners := a_partners) (a_share := a_share) (a_leftOver := a_leftOver) (c_askedCount := c_askedCount) (c_outcome := c_outcome) (c_row := f_15) hc_18) (cwV 0 hts g_f_X5_doAct_f_X5_hearByHand_140 rfl rfl rfl hd_X5_hearByHand ⟨Nat.le_of_ble_eq_true rfl, Nat.le_of_ble_eq_true rfl⟩) ⟨pW.blind, hrc, (pW.pre ⟨hK, hN⟩ hPc hDc)⟩ rfl rfl hl.1 rfl (lv_room (Nat.le_of_ble_eq_true rfl)) (dq_182 48 bcX5_doAct_1 (j := 30) (i := 140) rfl rfl rfl) ⟨Nat.le_of_ble_eq_true rfl, Nat.le_of_ble_eq_true rfl⟩) hS hFc hP hD [0, 1] [2, 3, 4] rfl rfl (by decide) (by decide) (fun H locs hP hD hS => ?_)
    have h9 := fixPD (ws' := [k_I E a_partners 8 c_partners, k_I E a_share 2 c_share, k_I E a_leftOver 2 c_leftOver, k_X5 a_ a_row a_partners c_askedCount c_outcome a_share a_leftOver, k_I E a_row 81 w_17]) hP hD rfl
    clear hP hD
    obtain ⟨hP, hD⟩ := h9
    refine lv_istore (lv' := [(5, .int r_16), (0, .ref a_), (1, .int p1), (2, .int p2), (3, .int p3), (4, .int p4)]) hx hb (dq_54 48 bcX5_doAct_1 (j := 33) (i := 5) rfl rfl) hl (by decide) rfl (fun ls hl => ?_)
    refine lv_goto (tgt := 137) hx hb (dq_167 48 bcX5_doAct_1 (j := 35) (i := 54) rfl rfl rfl) (by decide) ?_
    refine lv_aload_n hx hb (dq_42 96 bcX5_doAct_2 (j := 41) rfl rfl) rfl (lv_at hl 1 rfl) ?_
    refine gt_X5_0 (v := .ref a_row) hx hb hts i_f_X5_doAct_X5 hown hK hP 3 rfl (hts (.fieldLink RX5 11 "HushWatch$State" "row" "[I") (List.mem_of_getElem? (i := 1) rfl)) rfl (dq_180 96 bcX5_doAct_2 (j := 42) (i := 11) rfl rfl rfl) ?_
    refine lv_bipush (v := 11) hx hb (dq_16 96 bcX5_doAct_2 (j := 45) (i := 11) rfl rfl rfl) (by decide) ?_
    refine lv_dup2_11 hx hb (dq_92 96 bcX5_doAct_2 (j := 47) rfl rfl) rfl rfl ?_
    refine va_iald hx hb hK hP 4 0 rfl rfl (vin rfl) (dq_46 144 bcX5_doAct_3 (j := 0) rfl rfl) ?_
    refine W.eq (g2 := F0 m 145 ls [.int (w_17 11), .int (11 : Int32), .ref a_row]) rfl ?_
    refine lv_iload hx hb (dq_21 144 bcX5_doAct_3 (j := 1) (i := 5) rfl rfl) (lv_at hl 0 rfl) ?_
    refine lv_iadd hx hb (dq_96 144 bcX5_doAct_3 (j := 3) rfl rfl) ?_
    refine va_iast hx hb hK hP hD hS 4 0 rfl rfl (vin rfl) (dq_79 144 bcX5_doAct_3 (j := 4) rfl rfl) (fun H locs hP hD hS => ?_)
    have h9 := fixPD (ws' := [k_I E a_partners 8 c_partners, k_I E a_share 2 c_share, k_I E a_leftOver 2 c_leftOver, k_X5 a_ a_row a_partners c_askedCount c_outcome a_share a_leftOver, k_I E a_row 81 (upd w_17 11 ((w_17 11) + r_16))]) hP hD rfl
    clear hP hD
    obtain ⟨hP, hD⟩ := h9
    replace hF := nm_s hF
    obtain ⟨f_19, hf_19, hF⟩ := hF
    rw [← hf_19] at hP hD
    refine lv_iload hx hb (dq_21 144 bcX5_doAct_3 (j := 5) (i := 5) rfl rfl) (lv_at hl 0 rfl) ?_
    rw [hQ]
    have h9 := fin9 (P := fun u9 : Int32 × (Nat → Int32) × (Nat → Int32) × Int32 × Int32 × (Nat → Int32) × (Nat → Int32) => r_16 = u9.1 ∧ va_P E.1 vwCl (w_X5_doAct E a_ a_row a_partners a_share a_leftOver u9.2.2.2.1 u9.2.2.2.2.1 u9.2.1 u9.2.2.1 u9.2.2.2.2.2.1 u9.2.2.2.2.2.2) H ∧ va_D A (w_X5_doAct E a_ a_row a_partners a_share a_leftOver u9.2.2.2.1 u9.2.2.2.2.1 u9.2.1 u9.2.2.1 u9.2.2.2.2.2.1 u9.2.2.2.2.2.2)) hF ⟨rfl, hP.sub [3, 4, 0, 1, 2] rfl, hD.sub [3, 4, 0, 1, 2] (by decide) rfl⟩
    obtain ⟨e9_0, hP9, hD9⟩ := h9
    exact W.iret (v := r_16) hx hb hr (fun tt ht hW => ⟨⟨_, (), rfl, e9_0, ht ▸ hP9, hD9⟩, hS.F ht⟩) hS.2.2 (dq_172 144 bcX5_doAct_3 (j := 7) rfl rfl)
  replace hF := inn c_1_2 hF
  rcases Classical.em (p1 = (3 : Int32)) with c_1_3 | c_1_3
  ·
    replace hF := ip c_1_3 hF
    refine lv_tableIn (off := 82) (tgt := 86) hx hb dX5_doAct_4 (by rw [c_1_3]; decide) (by rw [c_1_3]; decide) (by rw [c_1_3]; decide) (by decide) ?_
    refine lv_aload_n hx hb (dq_42 48 bcX5_doAct_1 (j := 38) rfl rfl) rfl (lv_at hl 1 rfl) ?_
    refine gt_X5_0 (v := .ref a_row) hx hb hts i_f_X5_doAct_X5 hown hK hP 0 rfl (hts (.fieldLink RX5 11 "HushWatch$State" "row" "[I") (List.mem_of_getElem? (i := 1) rfl)) rfl (dq_180 48 bcX5_doAct_1 (j := 39) (i := 11) rfl rfl rfl) ?_
    refine lv_iconst (v := 0) hx hb (dq_3 48 bcX5_doAct_1 (j := 42) rfl rfl) (by decide) ?_
    refine lv_iload_n hx hb (dq_28 48 bcX5_doAct_1 (j := 43) rfl rfl) rfl (lv_at hl 3 rfl) ?_
    refine va_iast hx hb hK hP hD hS 1 0 rfl rfl (vin rfl) (dq_79 48 bcX5_doAct_1 (j := 44) rfl rfl) (fun H locs hP hD hS => ?_)
    have h9 := fixPD (ws' := [k_X5 a_ a_row a_partners c_askedCount c_outcome a_share a_leftOver, k_I E a_row 81 (upd c_row 0 p2), k_I E a_partners 8 c_partners, k_I E a_share 2 c_share, k_I E a_leftOver 2 c_leftOver]) hP hD rfl
    clear hP hD
    obtain ⟨hP, hD⟩ := h9
    replace hF := nm_s hF
    obtain ⟨f_20, hf_20, hF⟩ := hF
    rw [← hf_20] at hP hD
    refine lv_aload_n hx hb (dq_42 48 bcX5_doAct_1 (j := 45) rfl rfl) rfl (lv_at hl 1 rfl) ?_
    replace hF := bd2_s hF
    obtain ⟨r_21, w_22, hc_23, hF⟩ := hF
    obtain ⟨hPc, hDc, hFc⟩ := wcut (wc := (w_X5_hearByHand E a_ a_row a_partners a_share a_leftOver c_askedCount c_outcome f_20)) hP hD hS hA [0, 1] (by decide) rfl
    have hrc := va_recv hK hPc (ci := 6) (q0 := 0) rfl rfl
    refine cE_i (wc := (w_X5_hearByHand E a_ a_row a_partners a_share a_leftOver c_askedCount c_outcome f_20)) (wr := [k_I E a_partners 8 c_partners, k_I E a_share 2 c_share, k_I E a_leftOver 2 c_leftOver]) (w1 := (w_X5_hearByHand E a_ a_row a_partners a_share a_leftOver c_askedCount c_outcome w_22)) (va_runV (As := []) (rest := [])  ⟨hx, hb, hml, hown, hts⟩ (f_X5_hearByHand l E H.size K (a_ := a_) (a_row := a_row) (a_partners := a_partners) (a_share := a_share) (a_leftOver := a_leftOver) (c_askedCount := c_askedCount) (c_outcome := c_outcome) (c_row := f_20) hc_23) (cwV 0 hts g_f_X5_doAct_f_X5_hearByHand_140 rfl rfl rfl hd_X5_hearByHand ⟨Nat.le_of_ble_eq_true rfl, Nat.le_of_ble_eq_true rfl⟩) ⟨pW.blind, hrc, (pW.pre ⟨hK, hN⟩ hPc hDc)⟩ rfl rfl hl.1 rfl (lv_room (Nat.le_of_ble_eq_true rfl)) (dq_182 48 bcX5_doAct_1 (j := 46) (i := 140) rfl rfl rfl) ⟨Nat.le_of_ble_eq_true rfl, Nat.le_of_ble_eq_true rfl⟩) hS hFc hP hD [0, 1] [2, 3, 4] rfl rfl (by decide) (by decide) (fun H locs hP hD hS => ?_)
    have h9 := fixPD (ws' := [k_I E a_partners 8 c_partners, k_I E a_share 2 c_share, k_I E a_leftOver 2 c_leftOver, k_X5 a_ a_row a_partners c_askedCount c_outcome a_share a_leftOver, k_I E a_row 81 w_22]) hP hD rfl
    clear hP hD
    obtain ⟨hP, hD⟩ := h9
    refine lv_istore (lv' := [(5, .int r_21), (0, .ref a_), (1, .int p1), (2, .int p2), (3, .int p3), (4, .int p4)]) hx hb (dq_54 96 bcX5_doAct_2 (j := 1) (i := 5) rfl rfl) hl (by decide) rfl (fun ls hl => ?_)
    refine lv_goto (tgt := 137) hx hb (dq_167 96 bcX5_doAct_2 (j := 3) (i := 38) rfl rfl rfl) (by decide) ?_
    refine lv_aload_n hx hb (dq_42 96 bcX5_doAct_2 (j := 41) rfl rfl) rfl (lv_at hl 1 rfl) ?_
    refine gt_X5_0 (v := .ref a_row) hx hb hts i_f_X5_doAct_X5 hown hK hP 3 rfl (hts (.fieldLink RX5 11 "HushWatch$State" "row" "[I") (List.mem_of_getElem? (i := 1) rfl)) rfl (dq_180 96 bcX5_doAct_2 (j := 42) (i := 11) rfl rfl rfl) ?_
    refine lv_bipush (v := 11) hx hb (dq_16 96 bcX5_doAct_2 (j := 45) (i := 11) rfl rfl rfl) (by decide) ?_
    refine lv_dup2_11 hx hb (dq_92 96 bcX5_doAct_2 (j := 47) rfl rfl) rfl rfl ?_
    refine va_iald hx hb hK hP 4 0 rfl rfl (vin rfl) (dq_46 144 bcX5_doAct_3 (j := 0) rfl rfl) ?_
    refine W.eq (g2 := F0 m 145 ls [.int (w_22 11), .int (11 : Int32), .ref a_row]) rfl ?_
    refine lv_iload hx hb (dq_21 144 bcX5_doAct_3 (j := 1) (i := 5) rfl rfl) (lv_at hl 0 rfl) ?_
    refine lv_iadd hx hb (dq_96 144 bcX5_doAct_3 (j := 3) rfl rfl) ?_
    refine va_iast hx hb hK hP hD hS 4 0 rfl rfl (vin rfl) (dq_79 144 bcX5_doAct_3 (j := 4) rfl rfl) (fun H locs hP hD hS => ?_)
    have h9 := fixPD (ws' := [k_I E a_partners 8 c_partners, k_I E a_share 2 c_share, k_I E a_leftOver 2 c_leftOver, k_X5 a_ a_row a_partners c_askedCount c_outcome a_share a_leftOver, k_I E a_row 81 (upd w_22 11 ((w_22 11) + r_21))]) hP hD rfl
    clear hP hD
    obtain ⟨hP, hD⟩ := h9
    replace hF := nm_s hF
    obtain ⟨f_24, hf_24, hF⟩ := hF
    rw [← hf_24] at hP hD
    refine lv_iload hx hb (dq_21 144 bcX5_doAct_3 (j := 5) (i := 5) rfl rfl) (lv_at hl 0 rfl) ?_
    rw [hQ]
    have h9 := fin9 (P := fun u9 : Int32 × (Nat → Int32) × (Nat → Int32) × Int32 × Int32 × (Nat → Int32) × (Nat → Int32) => r_21 = u9.1 ∧ va_P E.1 vwCl (w_X5_doAct E a_ a_row a_partners a_share a_leftOver u9.2.2.2.1 u9.2.2.2.2.1 u9.2.1 u9.2.2.1 u9.2.2.2.2.2.1 u9.2.2.2.2.2.2) H ∧ va_D A (w_X5_doAct E a_ a_row a_partners a_share a_leftOver u9.2.2.2.1 u9.2.2.2.2.1 u9.2.1 u9.2.2.1 u9.2.2.2.2.2.1 u9.2.2.2.2.2.2)) hF ⟨rfl, hP.sub [3, 4, 0, 1, 2] rfl, hD.sub [3, 4, 0, 1, 2] (by decide) rfl⟩
    obtain ⟨e9_0, hP9, hD9⟩ := h9
    exact W.iret (v := r_21) hx hb hr (fun tt ht hW => ⟨⟨_, (), rfl, e9_0, ht ▸ hP9, hD9⟩, hS.F ht⟩) hS.2.2 (dq_172 144 bcX5_doAct_3 (j := 7) rfl rfl)
  replace hF := inn c_1_3 hF
  rcases Classical.em (p1 = (4 : Int32)) with c_1_4 | c_1_4
  ·
    replace hF := ip c_1_4 hF
    refine lv_tableIn (off := 98) (tgt := 102) hx hb dX5_doAct_4 (by rw [c_1_4]; decide) (by rw [c_1_4]; decide) (by rw [c_1_4]; decide) (by decide) ?_
    refine lv_aload_n hx hb (dq_42 96 bcX5_doAct_2 (j := 6) rfl rfl) rfl (lv_at hl 1 rfl) ?_
    refine lv_iload_n hx hb (dq_28 96 bcX5_doAct_2 (j := 7) rfl rfl) rfl (lv_at hl 3 rfl) ?_
    refine lv_iload_n hx hb (dq_29 96 bcX5_doAct_2 (j := 8) rfl rfl) rfl (lv_at hl 4 rfl) ?_
    replace hF := bd2_s hF
    obtain ⟨r_25, w_26, hc_27, hF⟩ := hF
    obtain ⟨hPc, hDc, hFc⟩ := wcut (wc := (w_X5_addTo E a_ a_row a_partners a_share a_leftOver c_askedCount c_outcome c_row)) hP hD hS hA [0, 1] (by decide) rfl
    have hrc := va_recv hK hPc (ci := 6) (q0 := 0) rfl rfl
    refine cE_i (wc := (w_X5_addTo E a_ a_row a_partners a_share a_leftOver c_askedCount c_outcome c_row)) (wr := [k_I E a_partners 8 c_partners, k_I E a_share 2 c_share, k_I E a_leftOver 2 c_leftOver]) (w1 := (w_X5_addTo E a_ a_row a_partners a_share a_leftOver c_askedCount c_outcome w_26)) (va_runV (As := [.int p2, .int p3]) (rest := [])  ⟨hx, hb, hml, hown, hts⟩ (f_X5_addTo l E H.size K (a_ := a_) (a_row := a_row) (a_partners := a_partners) (a_share := a_share) (a_leftOver := a_leftOver) (p1 := p2) (p2 := p3) (c_askedCount := c_askedCount) (c_outcome := c_outcome) (c_row := c_row) hc_27) (cwV 2 hts g_f_X5_doAct_f_X5_addTo_143 rfl rfl rfl hd_X5_addTo ⟨Nat.le_of_ble_eq_true rfl, Nat.le_of_ble_eq_true rfl⟩) ⟨pW.blind, hrc, (pW.pre ⟨hK, hN⟩ hPc hDc)⟩ rfl rfl hl.1 rfl (lv_room (Nat.le_of_ble_eq_true rfl)) (dq_182 96 bcX5_doAct_2 (j := 9) (i := 143) rfl rfl rfl) ⟨Nat.le_of_ble_eq_true rfl, Nat.le_of_ble_eq_true rfl⟩) hS hFc hP hD [0, 1] [2, 3, 4] rfl rfl (by decide) (by decide) (fun H locs hP hD hS => ?_)
    have h9 := fixPD (ws' := [k_I E a_partners 8 c_partners, k_I E a_share 2 c_share, k_I E a_leftOver 2 c_leftOver, k_X5 a_ a_row a_partners c_askedCount c_outcome a_share a_leftOver, k_I E a_row 81 w_26]) hP hD rfl
    clear hP hD
    obtain ⟨hP, hD⟩ := h9
    refine lv_istore (lv' := [(5, .int r_25), (0, .ref a_), (1, .int p1), (2, .int p2), (3, .int p3), (4, .int p4)]) hx hb (dq_54 96 bcX5_doAct_2 (j := 12) (i := 5) rfl rfl) hl (by decide) rfl (fun ls hl => ?_)
    refine lv_goto (tgt := 137) hx hb (dq_167 96 bcX5_doAct_2 (j := 14) (i := 27) rfl rfl rfl) (by decide) ?_
    refine lv_aload_n hx hb (dq_42 96 bcX5_doAct_2 (j := 41) rfl rfl) rfl (lv_at hl 1 rfl) ?_
    refine gt_X5_0 (v := .ref a_row) hx hb hts i_f_X5_doAct_X5 hown hK hP 3 rfl (hts (.fieldLink RX5 11 "HushWatch$State" "row" "[I") (List.mem_of_getElem? (i := 1) rfl)) rfl (dq_180 96 bcX5_doAct_2 (j := 42) (i := 11) rfl rfl rfl) ?_
    refine lv_bipush (v := 11) hx hb (dq_16 96 bcX5_doAct_2 (j := 45) (i := 11) rfl rfl rfl) (by decide) ?_
    refine lv_dup2_11 hx hb (dq_92 96 bcX5_doAct_2 (j := 47) rfl rfl) rfl rfl ?_
    refine va_iald hx hb hK hP 4 0 rfl rfl (vin rfl) (dq_46 144 bcX5_doAct_3 (j := 0) rfl rfl) ?_
    refine W.eq (g2 := F0 m 145 ls [.int (w_26 11), .int (11 : Int32), .ref a_row]) rfl ?_
    refine lv_iload hx hb (dq_21 144 bcX5_doAct_3 (j := 1) (i := 5) rfl rfl) (lv_at hl 0 rfl) ?_
    refine lv_iadd hx hb (dq_96 144 bcX5_doAct_3 (j := 3) rfl rfl) ?_
    refine va_iast hx hb hK hP hD hS 4 0 rfl rfl (vin rfl) (dq_79 144 bcX5_doAct_3 (j := 4) rfl rfl) (fun H locs hP hD hS => ?_)
    have h9 := fixPD (ws' := [k_I E a_partners 8 c_partners, k_I E a_share 2 c_share, k_I E a_leftOver 2 c_leftOver, k_X5 a_ a_row a_partners c_askedCount c_outcome a_share a_leftOver, k_I E a_row 81 (upd w_26 11 ((w_26 11) + r_25))]) hP hD rfl
    clear hP hD
    obtain ⟨hP, hD⟩ := h9
    replace hF := nm_s hF
    obtain ⟨f_28, hf_28, hF⟩ := hF
    rw [← hf_28] at hP hD
    refine lv_iload hx hb (dq_21 144 bcX5_doAct_3 (j := 5) (i := 5) rfl rfl) (lv_at hl 0 rfl) ?_
    rw [hQ]
    have h9 := fin9 (P := fun u9 : Int32 × (Nat → Int32) × (Nat → Int32) × Int32 × Int32 × (Nat → Int32) × (Nat → Int32) => r_25 = u9.1 ∧ va_P E.1 vwCl (w_X5_doAct E a_ a_row a_partners a_share a_leftOver u9.2.2.2.1 u9.2.2.2.2.1 u9.2.1 u9.2.2.1 u9.2.2.2.2.2.1 u9.2.2.2.2.2.2) H ∧ va_D A (w_X5_doAct E a_ a_row a_partners a_share a_leftOver u9.2.2.2.1 u9.2.2.2.2.1 u9.2.1 u9.2.2.1 u9.2.2.2.2.2.1 u9.2.2.2.2.2.2)) hF ⟨rfl, hP.sub [3, 4, 0, 1, 2] rfl, hD.sub [3, 4, 0, 1, 2] (by decide) rfl⟩
    obtain ⟨e9_0, hP9, hD9⟩ := h9
    exact W.iret (v := r_25) hx hb hr (fun tt ht hW => ⟨⟨_, (), rfl, e9_0, ht ▸ hP9, hD9⟩, hS.F ht⟩) hS.2.2 (dq_172 144 bcX5_doAct_3 (j := 7) rfl rfl)
  replace hF := inn c_1_4 hF
  rcases Classical.em (p1 = (5 : Int32)) with c_1_5 | c_1_5
  ·
    replace hF := ip c_1_5 hF
    refine lv_tableIn (off := 109) (tgt := 113) hx hb dX5_doAct_4 (by rw [c_1_5]; decide) (by rw [c_1_5]; decide) (by rw [c_1_5]; decide) (by decide) ?_
    refine lv_aload_n hx hb (dq_42 96 bcX5_doAct_2 (j := 17) rfl rfl) rfl (lv_at hl 1 rfl) ?_
    refine lv_iload_n hx hb (dq_28 96 bcX5_doAct_2 (j := 18) rfl rfl) rfl (lv_at hl 3 rfl) ?_
    replace hF := bd1_s hF
    obtain ⟨w_29, hc_30, hF⟩ := hF
    obtain ⟨hPc, hDc, hFc⟩ := wcut (wc := (w_X5_startCounts E a_ a_row a_partners a_share a_leftOver c_askedCount c_outcome c_row)) hP hD hS hA [0, 1] (by decide) rfl
    have hrc := va_recv hK hPc (ci := 6) (q0 := 0) rfl rfl
    refine cE_v (wc := (w_X5_startCounts E a_ a_row a_partners a_share a_leftOver c_askedCount c_outcome c_row)) (wr := [k_I E a_partners 8 c_partners, k_I E a_share 2 c_share, k_I E a_leftOver 2 c_leftOver]) (w1 := (w_X5_startCounts E a_ a_row a_partners a_share a_leftOver c_askedCount c_outcome w_29)) (va_runV (As := [.int p2]) (rest := [])  ⟨hx, hb, hml, hown, hts⟩ (f_X5_startCounts l E H.size K (a_ := a_) (a_row := a_row) (a_partners := a_partners) (a_share := a_share) (a_leftOver := a_leftOver) (p1 := p2) (c_askedCount := c_askedCount) (c_outcome := c_outcome) (c_row := c_row) hc_30) (cwV 1 hts g_f_X5_doAct_f_X5_startCounts_146 rfl rfl rfl hd_X5_startCounts ⟨Nat.le_of_ble_eq_true rfl, Nat.le_of_ble_eq_true rfl⟩) ⟨pW.blind, hrc, (pW.pre ⟨hK, hN⟩ hPc hDc)⟩ rfl rfl hl.1 rfl (lv_room (Nat.le_of_ble_eq_true rfl)) (dq_182 96 bcX5_doAct_2 (j := 19) (i := 146) rfl rfl rfl) ⟨Nat.le_of_ble_eq_true rfl, Nat.le_of_ble_eq_true rfl⟩) hS hFc hP hD [0, 1] [2, 3, 4] rfl rfl (by decide) (by decide) (fun H locs hP hD hS => ?_)
    have h9 := fixPD (ws' := [k_I E a_partners 8 c_partners, k_I E a_share 2 c_share, k_I E a_leftOver 2 c_leftOver, k_X5 a_ a_row a_partners c_askedCount c_outcome a_share a_leftOver, k_I E a_row 81 w_29]) hP hD rfl
    clear hP hD
    obtain ⟨hP, hD⟩ := h9
    refine lv_goto (tgt := 137) hx hb (dq_167 96 bcX5_doAct_2 (j := 22) (i := 19) rfl rfl rfl) (by decide) ?_
    refine lv_aload_n hx hb (dq_42 96 bcX5_doAct_2 (j := 41) rfl rfl) rfl (lv_at hl 1 rfl) ?_
    refine gt_X5_0 (v := .ref a_row) hx hb hts i_f_X5_doAct_X5 hown hK hP 3 rfl (hts (.fieldLink RX5 11 "HushWatch$State" "row" "[I") (List.mem_of_getElem? (i := 1) rfl)) rfl (dq_180 96 bcX5_doAct_2 (j := 42) (i := 11) rfl rfl rfl) ?_
    refine lv_bipush (v := 11) hx hb (dq_16 96 bcX5_doAct_2 (j := 45) (i := 11) rfl rfl rfl) (by decide) ?_
    refine lv_dup2_11 hx hb (dq_92 96 bcX5_doAct_2 (j := 47) rfl rfl) rfl rfl ?_
    refine va_iald hx hb hK hP 4 0 rfl rfl (vin rfl) (dq_46 144 bcX5_doAct_3 (j := 0) rfl rfl) ?_
    refine W.eq (g2 := F0 m 145 ls [.int (w_29 11), .int (11 : Int32), .ref a_row]) rfl ?_
    refine lv_iload hx hb (dq_21 144 bcX5_doAct_3 (j := 1) (i := 5) rfl rfl) (lv_at hl 0 rfl) ?_
    refine lv_iadd hx hb (dq_96 144 bcX5_doAct_3 (j := 3) rfl rfl) ?_
    refine va_iast hx hb hK hP hD hS 4 0 rfl rfl (vin rfl) (dq_79 144 bcX5_doAct_3 (j := 4) rfl rfl) (fun H locs hP hD hS => ?_)
    have h9 := fixPD (ws' := [k_I E a_partners 8 c_partners, k_I E a_share 2 c_share, k_I E a_leftOver 2 c_leftOver, k_X5 a_ a_row a_partners c_askedCount c_outcome a_share a_leftOver, k_I E a_row 81 (upd w_29 11 ((w_29 11) + (0 : Int32)))]) hP hD rfl
    clear hP hD
    obtain ⟨hP, hD⟩ := h9
    replace hF := nm_s hF
    obtain ⟨f_31, hf_31, hF⟩ := hF
    rw [← hf_31] at hP hD
    refine lv_iload hx hb (dq_21 144 bcX5_doAct_3 (j := 5) (i := 5) rfl rfl) (lv_at hl 0 rfl) ?_
    rw [hQ]
    have h9 := fin9 (P := fun u9 : Int32 × (Nat → Int32) × (Nat → Int32) × Int32 × Int32 × (Nat → Int32) × (Nat → Int32) => (0 : Int32) = u9.1 ∧ va_P E.1 vwCl (w_X5_doAct E a_ a_row a_partners a_share a_leftOver u9.2.2.2.1 u9.2.2.2.2.1 u9.2.1 u9.2.2.1 u9.2.2.2.2.2.1 u9.2.2.2.2.2.2) H ∧ va_D A (w_X5_doAct E a_ a_row a_partners a_share a_leftOver u9.2.2.2.1 u9.2.2.2.2.1 u9.2.1 u9.2.2.1 u9.2.2.2.2.2.1 u9.2.2.2.2.2.2)) hF ⟨rfl, hP.sub [3, 4, 0, 1, 2] rfl, hD.sub [3, 4, 0, 1, 2] (by decide) rfl⟩
    obtain ⟨e9_0, hP9, hD9⟩ := h9
    exact W.iret (v := (0 : Int32)) hx hb hr (fun tt ht hW => ⟨⟨_, (), rfl, e9_0, ht ▸ hP9, hD9⟩, hS.F ht⟩) hS.2.2 (dq_172 144 bcX5_doAct_3 (j := 7) rfl rfl)
  replace hF := inn c_1_5 hF
  rcases Classical.em (p1 = (6 : Int32)) with c_1_6 | c_1_6
  ·
    replace hF := ip c_1_6 hF
    refine lv_tableIn (off := 117) (tgt := 121) hx hb dX5_doAct_4 (by rw [c_1_6]; decide) (by rw [c_1_6]; decide) (by rw [c_1_6]; decide) (by decide) ?_
    refine lv_aload_n hx hb (dq_42 96 bcX5_doAct_2 (j := 25) rfl rfl) rfl (lv_at hl 1 rfl) ?_
    refine gt_X5_0 (v := .ref a_row) hx hb hts i_f_X5_doAct_X5 hown hK hP 0 rfl (hts (.fieldLink RX5 11 "HushWatch$State" "row" "[I") (List.mem_of_getElem? (i := 1) rfl)) rfl (dq_180 96 bcX5_doAct_2 (j := 26) (i := 11) rfl rfl rfl) ?_
    refine lv_bipush (v := 7) hx hb (dq_16 96 bcX5_doAct_2 (j := 29) (i := 7) rfl rfl rfl) (by decide) ?_
    refine lv_dup2_11 hx hb (dq_92 96 bcX5_doAct_2 (j := 31) rfl rfl) rfl rfl ?_
    refine va_iald hx hb hK hP 1 0 rfl rfl (vin rfl) (dq_46 96 bcX5_doAct_2 (j := 32) rfl rfl) ?_
    refine W.eq (g2 := F0 m 129 ls [.int (c_row 7), .int (7 : Int32), .ref a_row]) rfl ?_
    refine lv_iconst (v := 1) hx hb (dq_4 96 bcX5_doAct_2 (j := 33) rfl rfl) (by decide) ?_
    refine lv_iload_n hx hb (dq_28 96 bcX5_doAct_2 (j := 34) rfl rfl) rfl (lv_at hl 3 rfl) ?_
    refine lv_ishl hx hb (dq_120 96 bcX5_doAct_2 (j := 35) rfl rfl) ?_
    refine lv_ixor hx hb (dq_130 96 bcX5_doAct_2 (j := 36) rfl rfl) ?_
    refine va_iast hx hb hK hP hD hS 1 0 rfl rfl (vin rfl) (dq_79 96 bcX5_doAct_2 (j := 37) rfl rfl) (fun H locs hP hD hS => ?_)
    have h9 := fixPD (ws' := [k_X5 a_ a_row a_partners c_askedCount c_outcome a_share a_leftOver, k_I E a_row 81 (upd c_row 7 ((c_row 7) ^^^ ((1 : Int32) <<< (p2 &&& (31 : Int32))))), k_I E a_partners 8 c_partners, k_I E a_share 2 c_share, k_I E a_leftOver 2 c_leftOver]) hP hD rfl
    clear hP hD
    obtain ⟨hP, hD⟩ := h9
    replace hF := nm_s hF
    obtain ⟨f_32, hf_32, hF⟩ := hF
    rw [← hf_32] at hP hD
    refine lv_goto (tgt := 137) hx hb (dq_167 96 bcX5_doAct_2 (j := 38) (i := 3) rfl rfl rfl) (by decide) ?_
    refine lv_aload_n hx hb (dq_42 96 bcX5_doAct_2 (j := 41) rfl rfl) rfl (lv_at hl 1 rfl) ?_
    refine gt_X5_0 (v := .ref a_row) hx hb hts i_f_X5_doAct_X5 hown hK hP 0 rfl (hts (.fieldLink RX5 11 "HushWatch$State" "row" "[I") (List.mem_of_getElem? (i := 1) rfl)) rfl (dq_180 96 bcX5_doAct_2 (j := 42) (i := 11) rfl rfl rfl) ?_
    refine lv_bipush (v := 11) hx hb (dq_16 96 bcX5_doAct_2 (j := 45) (i := 11) rfl rfl rfl) (by decide) ?_
    refine lv_dup2_11 hx hb (dq_92 96 bcX5_doAct_2 (j := 47) rfl rfl) rfl rfl ?_
    refine va_iald hx hb hK hP 1 0 rfl rfl (vin rfl) (dq_46 144 bcX5_doAct_3 (j := 0) rfl rfl) ?_
    refine W.eq (g2 := F0 m 145 ls [.int (f_32 11), .int (11 : Int32), .ref a_row]) rfl ?_
    refine lv_iload hx hb (dq_21 144 bcX5_doAct_3 (j := 1) (i := 5) rfl rfl) (lv_at hl 0 rfl) ?_
    refine lv_iadd hx hb (dq_96 144 bcX5_doAct_3 (j := 3) rfl rfl) ?_
    refine va_iast hx hb hK hP hD hS 1 0 rfl rfl (vin rfl) (dq_79 144 bcX5_doAct_3 (j := 4) rfl rfl) (fun H locs hP hD hS => ?_)
    have h9 := fixPD (ws' := [k_X5 a_ a_row a_partners c_askedCount c_outcome a_share a_leftOver, k_I E a_row 81 (upd f_32 11 ((f_32 11) + (0 : Int32))), k_I E a_partners 8 c_partners, k_I E a_share 2 c_share, k_I E a_leftOver 2 c_leftOver]) hP hD rfl
    clear hP hD
    obtain ⟨hP, hD⟩ := h9
    replace hF := nm_s hF
    obtain ⟨f_33, hf_33, hF⟩ := hF
    rw [← hf_33] at hP hD
    refine lv_iload hx hb (dq_21 144 bcX5_doAct_3 (j := 5) (i := 5) rfl rfl) (lv_at hl 0 rfl) ?_
    rw [hQ]
    have h9 := fin9 (P := fun u9 : Int32 × (Nat → Int32) × (Nat → Int32) × Int32 × Int32 × (Nat → Int32) × (Nat → Int32) => (0 : Int32) = u9.1 ∧ va_P E.1 vwCl (w_X5_doAct E a_ a_row a_partners a_share a_leftOver u9.2.2.2.1 u9.2.2.2.2.1 u9.2.1 u9.2.2.1 u9.2.2.2.2.2.1 u9.2.2.2.2.2.2) H ∧ va_D A (w_X5_doAct E a_ a_row a_partners a_share a_leftOver u9.2.2.2.1 u9.2.2.2.2.1 u9.2.1 u9.2.2.1 u9.2.2.2.2.2.1 u9.2.2.2.2.2.2)) hF ⟨rfl, hP, hD⟩
    obtain ⟨e9_0, hP9, hD9⟩ := h9
    exact W.iret (v := (0 : Int32)) hx hb hr (fun tt ht hW => ⟨⟨_, (), rfl, e9_0, ht ▸ hP9, hD9⟩, hS.F ht⟩) hS.2.2 (dq_172 144 bcX5_doAct_3 (j := 7) rfl rfl)
  replace hF := inn c_1_6 hF
  refine lv_tableOut (tgt := 137) hx hb dX5_doAct_4 (by have t0 : (0 : Int32).toInt = 0 := (by decide); have t1 : (1 : Int32).toInt = 1 := (by decide); have t2 : (2 : Int32).toInt = 2 := (by decide); have t3 : (3 : Int32).toInt = 3 := (by decide); have t4 : (4 : Int32).toInt = 4 := (by decide); have t5 : (5 : Int32).toInt = 5 := (by decide); have t6 : (6 : Int32).toInt = 6 := (by decide); simp only [← Int32.toInt_inj, t0, t1, t2, t3, t4, t5, t6] at c_1_0 c_1_1 c_1_2 c_1_3 c_1_4 c_1_5 c_1_6; omega) (by decide) ?_
  refine lv_aload_n hx hb (dq_42 96 bcX5_doAct_2 (j := 41) rfl rfl) rfl (lv_at hl 1 rfl) ?_
  refine gt_X5_0 (v := .ref a_row) hx hb hts i_f_X5_doAct_X5 hown hK hP 0 rfl (hts (.fieldLink RX5 11 "HushWatch$State" "row" "[I") (List.mem_of_getElem? (i := 1) rfl)) rfl (dq_180 96 bcX5_doAct_2 (j := 42) (i := 11) rfl rfl rfl) ?_
  refine lv_bipush (v := 11) hx hb (dq_16 96 bcX5_doAct_2 (j := 45) (i := 11) rfl rfl rfl) (by decide) ?_
  refine lv_dup2_11 hx hb (dq_92 96 bcX5_doAct_2 (j := 47) rfl rfl) rfl rfl ?_
  refine va_iald hx hb hK hP 1 0 rfl rfl (vin rfl) (dq_46 144 bcX5_doAct_3 (j := 0) rfl rfl) ?_
  refine W.eq (g2 := F0 m 145 ls [.int (c_row 11), .int (11 : Int32), .ref a_row]) rfl ?_
  refine lv_iload hx hb (dq_21 144 bcX5_doAct_3 (j := 1) (i := 5) rfl rfl) (lv_at hl 0 rfl) ?_
  refine lv_iadd hx hb (dq_96 144 bcX5_doAct_3 (j := 3) rfl rfl) ?_
  refine va_iast hx hb hK hP hD hS 1 0 rfl rfl (vin rfl) (dq_79 144 bcX5_doAct_3 (j := 4) rfl rfl) (fun H locs hP hD hS => ?_)
  have h9 := fixPD (ws' := [k_X5 a_ a_row a_partners c_askedCount c_outcome a_share a_leftOver, k_I E a_row 81 (upd c_row 11 ((c_row 11) + (0 : Int32))), k_I E a_partners 8 c_partners, k_I E a_share 2 c_share, k_I E a_leftOver 2 c_leftOver]) hP hD rfl
  clear hP hD
  obtain ⟨hP, hD⟩ := h9
  replace hF := nm_s hF
  obtain ⟨f_34, hf_34, hF⟩ := hF
  rw [← hf_34] at hP hD
  refine lv_iload hx hb (dq_21 144 bcX5_doAct_3 (j := 5) (i := 5) rfl rfl) (lv_at hl 0 rfl) ?_
  rw [hQ]
  have h9 := fin9 (P := fun u9 : Int32 × (Nat → Int32) × (Nat → Int32) × Int32 × Int32 × (Nat → Int32) × (Nat → Int32) => (0 : Int32) = u9.1 ∧ va_P E.1 vwCl (w_X5_doAct E a_ a_row a_partners a_share a_leftOver u9.2.2.2.1 u9.2.2.2.2.1 u9.2.1 u9.2.2.1 u9.2.2.2.2.2.1 u9.2.2.2.2.2.2) H ∧ va_D A (w_X5_doAct E a_ a_row a_partners a_share a_leftOver u9.2.2.2.1 u9.2.2.2.2.1 u9.2.1 u9.2.2.1 u9.2.2.2.2.2.1 u9.2.2.2.2.2.2)) hF ⟨rfl, hP, hD⟩
  obtain ⟨e9_0, hP9, hD9⟩ := h9
  exact W.iret (v := (0 : Int32)) hx hb hr (fun tt ht hW => ⟨⟨_, (), rfl, e9_0, ht ▸ hP9, hD9⟩, hS.F ht⟩) hS.2.2 (dq_172 144 bcX5_doAct_3 (j := 7) rfl rfl)
