-- 20.st04
section
noncomputable def blX5_moveSite_2 : List Nat := [180, 0, 11, 6, 46, 100, 54, 6, 42, 21, 6, 182, 0, 131, 153, 0, 6, 167, 0, 34, 42, 21, 6, 182, 0, 153, 21, 4, 4, 21, 6, 120, 128, 54, 4, 42, 21, 4, 182, 0, 156, 153, 0, 10, 42, 21, 4, 182, 0, 159, 172]
set_option maxRecDepth 100000 in
theorem bcX5_moveSite_2 : ((cX5_moveSite.data.toList.drop 96).take blX5_moveSite_2.length).map UInt8.toNat = blX5_moveSite_2 := by decide +kernel
noncomputable def blX5_moveSite_3 : List Nat := [0, 159, 172, 132, 5, 1, 167, 255, 152, 42, 182, 0, 162, 42, 5, 181, 0, 22, 42, 180, 0, 11, 6, 46, 4, 100, 42, 180, 0, 18, 100, 54, 5, 4, 5, 42, 180, 0, 18, 104, 96, 21, 5, 96, 42, 180, 0, 11, 6, 46, 96]
set_option maxRecDepth 100000 in
theorem bcX5_moveSite_3 : ((cX5_moveSite.data.toList.drop 144).take blX5_moveSite_3.length).map UInt8.toNat = blX5_moveSite_3 := by decide +kernel
noncomputable def blX5_moveSite_0 : List Nat := [42, 3, 181, 0, 18, 42, 3, 181, 0, 22, 42, 27, 28, 29, 182, 0, 150, 42, 27, 182, 0, 99, 153, 0, 5, 3, 172, 42, 180, 0, 11, 16, 12, 92, 46, 4, 96, 79, 4, 27, 120, 54, 4, 4, 54, 5, 21, 5, 42, 180, 0]
set_option maxRecDepth 100000 in
theorem bcX5_moveSite_0 : ((cX5_moveSite.data.toList.drop 0).take blX5_moveSite_0.length).map UInt8.toNat = blX5_moveSite_0 := by decide +kernel
noncomputable def blX5_moveSite_1 : List Nat := [42, 180, 0, 11, 6, 46, 162, 0, 99, 21, 5, 16, 8, 162, 0, 92, 42, 182, 0, 83, 154, 0, 85, 27, 21, 5, 96, 42, 180, 0, 11, 6, 46, 162, 0, 10, 27, 21, 5, 96, 167, 0, 14, 27, 21, 5, 96, 42, 180, 0, 11]
set_option maxRecDepth 100000 in
theorem bcX5_moveSite_1 : ((cX5_moveSite.data.toList.drop 48).take blX5_moveSite_1.length).map UInt8.toNat = blX5_moveSite_1 := by decide +kernel
noncomputable def blX5_moveSite_4 : List Nat := [6, 46, 96, 172]
set_option maxRecDepth 100000 in
theorem bcX5_moveSite_4 : ((cX5_moveSite.data.toList.drop 192).take blX5_moveSite_4.length).map UInt8.toNat = blX5_moveSite_4 := by decide +kernel
noncomputable def blX5_hearByHand_0 : List Nat := [42, 182, 0, 162, 5, 42, 180, 0, 11, 6, 46, 104, 172]
set_option maxRecDepth 100000 in
theorem bcX5_hearByHand_0 : ((cX5_hearByHand.data.toList.drop 0).take blX5_hearByHand_0.length).map UInt8.toNat = blX5_hearByHand_0 := by decide +kernel
noncomputable def blX5_startCounts_0 : List Nat := [42, 180, 0, 11, 5, 27, 79, 42, 180, 0, 11, 16, 8, 3, 79, 42, 180, 0, 11, 16, 9, 3, 79, 42, 180, 0, 11, 16, 10, 3, 79, 3, 61, 28, 42, 182, 0, 45, 162, 0, 25, 42, 28, 16, 6, 3, 182, 0, 52, 42, 28]
set_option maxRecDepth 100000 in
theorem bcX5_startCounts_0 : ((cX5_startCounts.data.toList.drop 0).take blX5_startCounts_0.length).map UInt8.toNat = blX5_startCounts_0 := by decide +kernel
noncomputable def blX5_startCounts_1 : List Nat := [52, 42, 28, 16, 7, 3, 182, 0, 52, 132, 2, 1, 167, 255, 229, 177]
set_option maxRecDepth 100000 in
theorem bcX5_startCounts_1 : ((cX5_startCounts.data.toList.drop 48).take blX5_startCounts_1.length).map UInt8.toNat = blX5_startCounts_1 := by decide +kernel
noncomputable def blX5_doAct_0 : List Nat := [3, 54, 5, 27, 170, 0, 0, 0, 0, 0, 0, 133, 0, 0, 0, 0, 0, 0, 0, 6, 0, 0, 0, 44, 0, 0, 0, 57, 0, 0, 0, 66, 0, 0, 0, 82, 0, 0, 0, 98, 0, 0, 0, 109, 0, 0, 0, 117, 42, 28, 29]
set_option maxRecDepth 100000 in
theorem bcX5_doAct_0 : ((cX5_doAct.data.toList.drop 0).take blX5_doAct_0.length).map UInt8.toNat = blX5_doAct_0 := by decide +kernel
noncomputable def blX5_doAct_1 : List Nat := [42, 28, 29, 21, 4, 182, 0, 137, 54, 5, 167, 0, 79, 42, 182, 0, 140, 54, 5, 167, 0, 70, 42, 180, 0, 11, 4, 28, 79, 42, 182, 0, 140, 54, 5, 167, 0, 54, 42, 180, 0, 11, 3, 28, 79, 42, 182, 0, 140, 54, 5]
set_option maxRecDepth 100000 in
theorem bcX5_doAct_1 : ((cX5_doAct.data.toList.drop 48).take blX5_doAct_1.length).map UInt8.toNat = blX5_doAct_1 := by decide +kernel
noncomputable def blX5_doAct_2 : List Nat := [140, 54, 5, 167, 0, 38, 42, 28, 29, 182, 0, 143, 54, 5, 167, 0, 27, 42, 28, 182, 0, 146, 167, 0, 19, 42, 180, 0, 11, 16, 7, 92, 46, 4, 28, 120, 130, 79, 167, 0, 3, 42, 180, 0, 11, 16, 11, 92, 46, 21, 5]
set_option maxRecDepth 100000 in
theorem bcX5_doAct_2 : ((cX5_doAct.data.toList.drop 96).take blX5_doAct_2.length).map UInt8.toNat = blX5_doAct_2 := by decide +kernel
noncomputable def blX5_doAct_3 : List Nat := [46, 21, 5, 96, 79, 21, 5, 172]
set_option maxRecDepth 100000 in
theorem bcX5_doAct_3 : ((cX5_doAct.data.toList.drop 144).take blX5_doAct_3.length).map UInt8.toNat = blX5_doAct_3 := by decide +kernel
def dl_X5_doAct_20_st04_0 : List (Nat × Instr × Nat) := [(4, .tableswitch 133 0 6 #[44, 57, 66, 82, 98, 109, 117], 44)]
set_option maxRecDepth 100000 in
theorem dall_X5_doAct_20_st04_0 : dchk cX5_doAct dl_X5_doAct_20_st04_0 = true := by decide +kernel
theorem dX5_doAct_4 : decode cX5_doAct 4 = .ok (.tableswitch 133 0 6 #[44, 57, 66, 82, 98, 109, 117], 44) := dchk_at dall_X5_doAct_20_st04_0 (k := 0) rfl
def J_X5_moveSite_102_r47 (K : Nat) (k0 : Int32) (x4 : Int32) (x5 : Int32) (c_row : Nat → Int32) (c_partners : Nat → Int32) (c_askedCount : Int32) (c_share : Nat → Int32) (c_leftOver : Nat → Int32) : Option ((Int32 × Int32 × (Nat → Int32) × Int32 × (Nat → Int32) × (Nat → Int32)) ⊕ (Nat × Int32 × (Nat → Int32) × Int32 × (Nat → Int32) × (Nat → Int32))) :=
  bd1 (F_X5_isFrozen k0 c_row) (fun r_15 => if r_15 = (0 : Int32) then bd2 (F_X5_noteAsked k0 c_partners c_askedCount) (fun w_19 w_20 => bd3 (F_X5_canShare K (x4 ||| ((1 : Int32) <<< (k0 &&& (31 : Int32)))) c_row c_share c_leftOver) (fun r_22 w_23 w_24 => if r_22 = (0 : Int32) then some (.inl (x4 ||| ((1 : Int32) <<< (k0 &&& (31 : Int32))), x5 + (1 : Int32), w_19, w_20, w_23, w_24)) else some (.inr (0, x4 ||| ((1 : Int32) <<< (k0 &&& (31 : Int32))), w_19, w_20, w_23, w_24)))) else some (.inl (x4, x5 + (1 : Int32), c_partners, c_askedCount, c_share, c_leftOver)))
def B_X5_moveSite_46 (K : Nat) (p1 : Int32) (c_row : Nat → Int32) (x4 : Int32) (x5 : Int32) (c_partners : Nat → Int32) (c_askedCount : Int32) (c_share : Nat → Int32) (c_leftOver : Nat → Int32) : Option ((Int32 × Int32 × (Nat → Int32) × Int32 × (Nat → Int32) × (Nat → Int32)) ⊕ (Nat × Int32 × (Nat → Int32) × Int32 × (Nat → Int32) × (Nat → Int32))) :=
  if c_row 3 ≤ x5 then some (.inr (1, x4, c_partners, c_askedCount, c_share, c_leftOver)) else if (8 : Int32) ≤ x5 then some (.inr (1, x4, c_partners, c_askedCount, c_share, c_leftOver)) else bd1 (F_X5_isAbove c_row) (fun r_10 => if r_10 = (0 : Int32) then if c_row 3 ≤ p1 + x5 then J_X5_moveSite_102_r47 K ((p1 + x5) - (c_row 3)) x4 x5 c_row c_partners c_askedCount c_share c_leftOver else J_X5_moveSite_102_r47 K (p1 + x5) x4 x5 c_row c_partners c_askedCount c_share c_leftOver else some (.inr (1, x4, c_partners, c_askedCount, c_share, c_leftOver)))
def J_X5_moveSite_153 (K : Nat) (c_row : Nat → Int32) (c_partners : Nat → Int32) (c_askedCount : Int32) (c_share : Nat → Int32) (c_leftOver : Nat → Int32) : Option (Int32 × (Nat → Int32) × (Nat → Int32) × Int32 × Int32 × (Nat → Int32) × (Nat → Int32)) :=
  bd1 (F_X5_hearAll K c_row) (fun w_39 => some ((((1 : Int32) + ((2 : Int32) * c_askedCount)) + (((w_39 3) - (1 : Int32)) - c_askedCount)) + (w_39 3), w_39, c_partners, c_askedCount, (2 : Int32), c_share, c_leftOver))
def F_X5_moveSite (K : Nat) (p1 : Int32) (p2 : Int32) (p3 : Int32) (c_row : Nat → Int32) (c_partners : Nat → Int32) (c_askedCount : Int32) (c_outcome : Int32) (c_share : Nat → Int32) (c_leftOver : Nat → Int32) : Option (Int32 × (Nat → Int32) × (Nat → Int32) × Int32 × Int32 × (Nat → Int32) × (Nat → Int32)) :=
  bd1 (F_X5_shift p1 p2 p3 c_row) (fun w_1 => bd1 (F_X5_isQuiet p1 w_1) (fun r_3 => if r_3 = (0 : Int32) then nmF (upd w_1 12 ((w_1 12) + (1 : Int32))) (fun f_7 => bd6 (lpF (fun u9 : Int32 × Int32 × (Nat → Int32) × Int32 × (Nat → Int32) × (Nat → Int32) => B_X5_moveSite_46 K p1 f_7 u9.1 u9.2.1 u9.2.2.1 u9.2.2.2.1 u9.2.2.2.2.1 u9.2.2.2.2.2) K ((1 : Int32) <<< (p1 &&& (31 : Int32)), (1 : Int32), c_partners, (0 : Int32), c_share, c_leftOver)) (fun t_28 x4_29 c_partners_30 c_askedCount_31 c_share_32 c_leftOver_33 => if t_28 = 0 then bd3 (F_X5_balance K x4_29 f_7 c_askedCount_31 (0 : Int32) c_share_32 c_leftOver_33) (fun r_35 w_36 w_37 => some (r_35, w_36, c_partners_30, c_askedCount_31, w_37, c_share_32, c_leftOver_33)) else if t_28 = 1 then J_X5_moveSite_153 K f_7 c_partners_30 c_askedCount_31 c_share_32 c_leftOver_33 else none)) else some ((0 : Int32), w_1, c_partners, (0 : Int32), (0 : Int32), c_share, c_leftOver)))
abbrev w_X5_moveSite (E : EE) (a_ a_row a_partners a_share a_leftOver : Nat) (c_askedCount : Int32) (c_outcome : Int32) (c_row : Nat → Int32) (c_partners : Nat → Int32) (c_share : Nat → Int32) (c_leftOver : Nat → Int32) : va_W := [k_X5 a_ a_row a_partners c_askedCount c_outcome a_share a_leftOver, k_I E a_row 81 c_row, k_I E a_partners 8 c_partners, k_I E a_share 2 c_share, k_I E a_leftOver 2 c_leftOver]
def v_f_X5_moveSite : List Cond := List.cons (.code yX5_moveSite cX5_moveSite 7 (some .int)) (HAppend.hAppend (α := List Cond) (β := List Cond) (γ := List Cond) [.fieldLink RX5 18 "HushWatch$State" "askedCount" "I", .fieldLink RX5 22 "HushWatch$State" "outcome" "I", .fieldLink RX5 11 "HushWatch$State" "row" "[I", .methodLink RX5 150 yX5_shift, .instanceMethod yX5_shift, .selects RX5 yX5_shift yX5_shift, .initialized RX5, .methodLink RX5 99 yX5_isQuiet, .instanceMethod yX5_isQuiet, .selects RX5 yX5_isQuiet yX5_isQuiet, .methodLink RX5 83 yX5_isAbove, .instanceMethod yX5_isAbove, .selects RX5 yX5_isAbove yX5_isAbove, .methodLink RX5 131 yX5_isFrozen, .instanceMethod yX5_isFrozen, .selects RX5 yX5_isFrozen yX5_isFrozen, .methodLink RX5 153 yX5_noteAsked, .instanceMethod yX5_noteAsked, .selects RX5 yX5_noteAsked yX5_noteAsked, .methodLink RX5 156 yX5_canShare, .instanceMethod yX5_canShare, .selects RX5 yX5_canShare yX5_canShare, .methodLink RX5 159 yX5_balance, .instanceMethod yX5_balance, .selects RX5 yX5_balance yX5_balance, .methodLink RX5 162 yX5_hearAll, .instanceMethod yX5_hearAll, .selects RX5 yX5_hearAll yX5_hearAll] (HAppend.hAppend (α := List Cond) (β := List Cond) (γ := List Cond) wsX50 (HAppend.hAppend (α := List Cond) (β := List Cond) (γ := List Cond) v_f_X5_shift (HAppend.hAppend (α := List Cond) (β := List Cond) (γ := List Cond) v_f_X5_isQuiet (HAppend.hAppend (α := List Cond) (β := List Cond) (γ := List Cond) v_f_X5_isAbove (HAppend.hAppend (α := List Cond) (β := List Cond) (γ := List Cond) v_f_X5_isFrozen (HAppend.hAppend (α := List Cond) (β := List Cond) (γ := List Cond) v_f_X5_noteAsked (HAppend.hAppend (α := List Cond) (β := List Cond) (γ := List Cond) v_f_X5_canShare (HAppend.hAppend (α := List Cond) (β := List Cond) (γ := List Cond) v_f_X5_balance (HAppend.hAppend (α := List Cond) (β := List Cond) (γ := List Cond) v_f_X5_hearAll []))))))))))
theorem gw_f_X5_moveSite : v_f_X5_moveSite.all goodWord = true := gw_c2 (by decide +kernel) (gw_ap gw_wsX50 (gw_ap gw_f_X5_shift (gw_ap gw_f_X5_isQuiet (gw_ap gw_f_X5_isAbove (gw_ap gw_f_X5_isFrozen (gw_ap gw_f_X5_noteAsked (gw_ap gw_f_X5_canShare (gw_ap gw_f_X5_balance (gw_ap gw_f_X5_hearAll gw_nil)))))))))
theorem i_f_X5_moveSite_X5 : ∀ w ∈ wsX50, w ∈ v_f_X5_moveSite := fun _ h => List.mem_cons_of_mem _ (List.mem_append_right _ (List.mem_append_left _ h))
theorem g_f_X5_moveSite_f_X5_shift_150 : GoodIn v_f_X5_moveSite (wsV RX5 150 RX5 yX5_shift v_f_X5_shift) := goodIn_in gw_f_X5_moveSite (in4 4 5 6 7 rfl rfl rfl rfl (fun _ h => List.mem_cons_of_mem _ (List.mem_append_right _ (List.mem_append_right _ (List.mem_append_left _ h)))))
theorem g_f_X5_moveSite_f_X5_isQuiet_99 : GoodIn v_f_X5_moveSite (wsV RX5 99 RX5 yX5_isQuiet v_f_X5_isQuiet) := goodIn_in gw_f_X5_moveSite (in4 8 9 10 7 rfl rfl rfl rfl (fun _ h => List.mem_cons_of_mem _ (List.mem_append_right _ (List.mem_append_right _ (List.mem_append_right _ (List.mem_append_left _ h))))))
theorem g_f_X5_moveSite_f_X5_isAbove_83 : GoodIn v_f_X5_moveSite (wsV RX5 83 RX5 yX5_isAbove v_f_X5_isAbove) := goodIn_in gw_f_X5_moveSite (in4 11 12 13 7 rfl rfl rfl rfl (fun _ h => List.mem_cons_of_mem _ (List.mem_append_right _ (List.mem_append_right _ (List.mem_append_right _ (List.mem_append_right _ (List.mem_append_left _ h)))))))
theorem g_f_X5_moveSite_f_X5_isFrozen_131 : GoodIn v_f_X5_moveSite (wsV RX5 131 RX5 yX5_isFrozen v_f_X5_isFrozen) := goodIn_in gw_f_X5_moveSite (in4 14 15 16 7 rfl rfl rfl rfl (fun _ h => List.mem_cons_of_mem _ (List.mem_append_right _ (List.mem_append_right _ (List.mem_append_right _ (List.mem_append_right _ (List.mem_append_right _ (List.mem_append_left _ h))))))))
theorem g_f_X5_moveSite_f_X5_noteAsked_153 : GoodIn v_f_X5_moveSite (wsV RX5 153 RX5 yX5_noteAsked v_f_X5_noteAsked) := goodIn_in gw_f_X5_moveSite (in4 17 18 19 7 rfl rfl rfl rfl (fun _ h => List.mem_cons_of_mem _ (List.mem_append_right _ (List.mem_append_right _ (List.mem_append_right _ (List.mem_append_right _ (List.mem_append_right _ (List.mem_append_right _ (List.mem_append_left _ h)))))))))
theorem g_f_X5_moveSite_f_X5_canShare_156 : GoodIn v_f_X5_moveSite (wsV RX5 156 RX5 yX5_canShare v_f_X5_canShare) := goodIn_in gw_f_X5_moveSite (in4 20 21 22 7 rfl rfl rfl rfl (fun _ h => List.mem_cons_of_mem _ (List.mem_append_right _ (List.mem_append_right _ (List.mem_append_right _ (List.mem_append_right _ (List.mem_append_right _ (List.mem_append_right _ (List.mem_append_right _ (List.mem_append_left _ h))))))))))
theorem g_f_X5_moveSite_f_X5_balance_159 : GoodIn v_f_X5_moveSite (wsV RX5 159 RX5 yX5_balance v_f_X5_balance) := goodIn_in gw_f_X5_moveSite (in4 23 24 25 7 rfl rfl rfl rfl (fun _ h => List.mem_cons_of_mem _ (List.mem_append_right _ (List.mem_append_right _ (List.mem_append_right _ (List.mem_append_right _ (List.mem_append_right _ (List.mem_append_right _ (List.mem_append_right _ (List.mem_append_right _ (List.mem_append_left _ h)))))))))))
theorem g_f_X5_moveSite_f_X5_hearAll_162 : GoodIn v_f_X5_moveSite (wsV RX5 162 RX5 yX5_hearAll v_f_X5_hearAll) := goodIn_in gw_f_X5_moveSite (in4 26 27 28 7 rfl rfl rfl rfl (fun _ h => List.mem_cons_of_mem _ (List.mem_append_right _ (List.mem_append_right _ (List.mem_append_right _ (List.mem_append_right _ (List.mem_append_right _ (List.mem_append_right _ (List.mem_append_right _ (List.mem_append_right _ (List.mem_append_right _ (List.mem_append_left _ h))))))))))))
theorem hd_X5_moveSite : yX5_moveSite.cls = RX5 ∧ yX5_moveSite.cls ≠ "java/lang/invoke/MethodHandle" ∧ yX5_moveSite.cls ≠ "java/lang/invoke/VarHandle" ∧ (parseMethodDescriptor yX5_moveSite.desc).map (fun d => d.parameters.length) = some 3 := by decide +kernel
set_option maxHeartbeats 4000000 in
set_option maxRecDepth 100000 in
theorem j_X5_moveSite_102_r47 {p : Program} (l : Launch) {e : Env} {s : State} {m : MethodId} {below : List Frame} {meth : Method} {c : Code} {Q : State → Prop} (E : EE) (K : Nat) {a_ a_row a_partners a_share a_leftOver : Nat} {p1 : Int32} {p2 : Int32} {p3 : Int32} {k0 : Int32} {x4 : Int32} {x5 : Int32} {c_row : Nat → Int32} {c_partners : Nat → Int32} {c_askedCount : Int32} {c_outcome : Int32} {c_share : Nat → Int32} {c_leftOver : Nat → Int32} (hx : p.tables.exec = Jvm.exec) (hb : c.code = cX5_moveSite) (hml : c.maxLocals = 7) (hown : s.vm.findClass RX5 = some m.cls) (hts : ∀ w ∈ v_f_X5_moveSite, w.before #[Value.ref a_, Value.int p1, Value.int p2, Value.int p3] s = true) (hK : va_K E.1 vwCl (TY E) s) (hN : NX s) {A : Nat → Prop} (hA : ∀ q : Nat, s.heap.size ≤ q → A q) {xx : (Int32 × Int32 × (Nat → Int32) × Int32 × (Nat → Int32) × (Nat → Int32)) ⊕ (Nat × Int32 × (Nat → Int32) × Int32 × (Nat → Int32) × (Nat → Int32))} (hC : ∀ (x4 : Int32), ∀ (x5 : Int32), ∀ (c_partners : Nat → Int32), ∀ (c_askedCount : Int32), ∀ (c_share : Nat → Int32), ∀ (c_leftOver : Nat → Int32), xx = .inl (x4, x5, c_partners, c_askedCount, c_share, c_leftOver) → ∀ (H : Heap) (locs : List Loc) (ls : Array Slot), va_P E.1 vwCl (w_X5_moveSite E a_ a_row a_partners a_share a_leftOver c_askedCount c_outcome c_row c_partners c_share c_leftOver) H → va_D A (w_X5_moveSite E a_ a_row a_partners a_share a_leftOver c_askedCount c_outcome c_row c_partners c_share c_leftOver) → va_S A s.heap H locs → lv_has ls 7 [(0, .ref a_), (1, .int p1), (4, .int x4), (5, .int x5)] → W p l e ({ frames := 3, cells := 0, slots := 0, locals := 73 } : Room) s m #[Value.ref a_, Value.int p1, Value.int p2, Value.int p3] below meth c H locs 0 0 Q (F0 m 46 ls [])) (hE : ∀ (t9 : Nat), ∀ (x4 : Int32), ∀ (c_partners : Nat → Int32), ∀ (c_askedCount : Int32), ∀ (c_share : Nat → Int32), ∀ (c_leftOver : Nat → Int32), xx = .inr (t9, x4, c_partners, c_askedCount, c_share, c_leftOver) → ((t9 = 0 → ∀ (H : Heap) (locs : List Loc) (ls : Array Slot), va_P E.1 vwCl (w_X5_moveSite E a_ a_row a_partners a_share a_leftOver c_askedCount c_outcome c_row c_partners c_share c_leftOver) H → va_D A (w_X5_moveSite E a_ a_row a_partners a_share a_leftOver c_askedCount c_outcome c_row c_partners c_share c_leftOver) → va_S A s.heap H locs → lv_has ls 7 [(0, .ref a_), (4, .int x4)] → W p l e ({ frames := 3, cells := 0, slots := 0, locals := 73 } : Room) s m #[Value.ref a_, Value.int p1, Value.int p2, Value.int p3] below meth c H locs 0 0 Q (F0 m 140 ls [])) ∧ (t9 = 1 → ∀ (H : Heap) (locs : List Loc) (ls : Array Slot), va_P E.1 vwCl (w_X5_moveSite E a_ a_row a_partners a_share a_leftOver c_askedCount c_outcome c_row c_partners c_share c_leftOver) H → va_D A (w_X5_moveSite E a_ a_row a_partners a_share a_leftOver c_askedCount c_outcome c_row c_partners c_share c_leftOver) → va_S A s.heap H locs → lv_has ls 7 [(0, .ref a_)] → W p l e ({ frames := 3, cells := 0, slots := 0, locals := 73 } : Room) s m #[Value.ref a_, Value.int p1, Value.int p2, Value.int p3] below meth c H locs 0 0 Q (F0 m 153 ls [])))) (hF : J_X5_moveSite_102_r47 K k0 x4 x5 c_row c_partners c_askedCount c_share c_leftOver = some xx) : ∀ (H : Heap) (locs : List Loc) (ls : Array Slot), va_P E.1 vwCl (w_X5_moveSite E a_ a_row a_partners a_share a_leftOver c_askedCount c_outcome c_row c_partners c_share c_leftOver) H → va_D A (w_X5_moveSite E a_ a_row a_partners a_share a_leftOver c_askedCount c_outcome c_row c_partners c_share c_leftOver) → va_S A s.heap H locs → lv_has ls 7 [(0, .ref a_), (1, .int p1), (4, .int x4), (5, .int x5)] → W p l e ({ frames := 3, cells := 0, slots := 0, locals := 73 } : Room) s m #[Value.ref a_, Value.int p1, Value.int p2, Value.int p3] below meth c H locs 0 0 Q (F0 m 102 ls [.int k0]) := by
  unfold J_X5_moveSite_102_r47 at hF
  intro H locs ls hP hD hS hl
  have h9 := fixPD (ws' := [k_X5 a_ a_row a_partners c_askedCount c_outcome a_share a_leftOver, k_I E a_row 81 c_row, k_I E a_partners 8 c_partners, k_I E a_share 2 c_share, k_I E a_leftOver 2 c_leftOver]) hP hD rfl
  clear hP hD
  obtain ⟨hP, hD⟩ := h9
  refine lv_istore (lv' := [(6, .int k0), (0, .ref a_), (1, .int p1), (4, .int x4), (5, .int x5)]) hx hb (dq_54 96 bcX5_moveSite_2 (j := 6) (i := 6) rfl rfl) hl (by decide) rfl (fun ls hl => ?_)
  refine lv_aload_n hx hb (dq_42 96 bcX5_moveSite_2 (j := 8) rfl rfl) rfl (lv_at hl 1 rfl) ?_
  refine lv_iload hx hb (dq_21 96 bcX5_moveSite_2 (j := 9) (i := 6) rfl rfl) (lv_at hl 0 rfl) ?_
  replace hF := bd1_s hF
  obtain ⟨r_15, hc_16, hF⟩ := hF
  have hPc : va_P E.1 vwCl (w_X5_isFrozen E a_ a_row a_partners a_share a_leftOver c_askedCount c_outcome c_row) H := hP.sub (ws' := [k_X5 a_ a_row a_partners c_askedCount c_outcome a_share a_leftOver, k_I E a_row 81 c_row]) [0, 1] rfl
  have hrc := va_recv hK hPc (ci := 6) (q0 := 0) rfl rfl
  refine pE_z (va_runV (As := [.int k0]) (rest := [])  ⟨hx, hb, hml, hown, hts⟩ (f_X5_isFrozen l E (a_ := a_) (a_row := a_row) (a_partners := a_partners) (a_share := a_share) (a_leftOver := a_leftOver) (p1 := k0) (c_askedCount := c_askedCount) (c_outcome := c_outcome) (c_row := c_row) hc_16) (cwV 1 hts g_f_X5_moveSite_f_X5_isFrozen_131 rfl rfl rfl hd_X5_isFrozen ⟨Nat.le_of_ble_eq_true rfl, Nat.le_of_ble_eq_true rfl⟩) ⟨pP.blind, hrc, (pP.pre ⟨hK, hN⟩ hPc)⟩ rfl rfl hl.1 rfl (lv_room (Nat.le_of_ble_eq_true rfl)) (dq_182 96 bcX5_moveSite_2 (j := 11) (i := 131) rfl rfl rfl) ⟨Nat.le_of_ble_eq_true rfl, Nat.le_of_ble_eq_true rfl⟩) (fun hb_17 => ?_)
  refine lv_if_eq (tgt := 116) hx hb (dq_153 96 bcX5_moveSite_2 (j := 14) (i := 6) rfl rfl rfl) (by decide) (fun c_18 => ?_) (fun c_18 => ?_)
  ·
    replace hF := ip c_18 hF
    refine lv_aload_n hx hb (dq_42 96 bcX5_moveSite_2 (j := 20) rfl rfl) rfl (lv_at hl 1 rfl) ?_
    refine lv_iload hx hb (dq_21 96 bcX5_moveSite_2 (j := 21) (i := 6) rfl rfl) (lv_at hl 0 rfl) ?_
    replace hF := bd2_s hF
    obtain ⟨w_19, w_20, hc_21, hF⟩ := hF
    obtain ⟨hPc, hDc, hFc⟩ := wcut (wc := (w_X5_noteAsked E a_ a_row a_partners a_share a_leftOver c_askedCount c_outcome c_partners)) hP hD hS hA [0, 2] (by decide) rfl
    have hrc := va_recv hK hPc (ci := 6) (q0 := 0) rfl rfl
    refine cE_v (wc := (w_X5_noteAsked E a_ a_row a_partners a_share a_leftOver c_askedCount c_outcome c_partners)) (wr := [k_I E a_row 81 c_row, k_I E a_share 2 c_share, k_I E a_leftOver 2 c_leftOver]) (w1 := (w_X5_noteAsked E a_ a_row a_partners a_share a_leftOver w_20 c_outcome w_19)) (va_runV (As := [.int k0]) (rest := [])  ⟨hx, hb, hml, hown, hts⟩ (f_X5_noteAsked l E H.size (a_ := a_) (a_row := a_row) (a_partners := a_partners) (a_share := a_share) (a_leftOver := a_leftOver) (p1 := k0) (c_askedCount := c_askedCount) (c_outcome := c_outcome) (c_partners := c_partners) hc_21) (cwV 1 hts g_f_X5_moveSite_f_X5_noteAsked_153 rfl rfl rfl hd_X5_noteAsked ⟨Nat.le_of_ble_eq_true rfl, Nat.le_of_ble_eq_true rfl⟩) ⟨pW.blind, hrc, (pW.pre ⟨hK, hN⟩ hPc hDc)⟩ rfl rfl hl.1 rfl (lv_room (Nat.le_of_ble_eq_true rfl)) (dq_182 96 bcX5_moveSite_2 (j := 23) (i := 153) rfl rfl rfl) ⟨Nat.le_of_ble_eq_true rfl, Nat.le_of_ble_eq_true rfl⟩) hS hFc hP hD [0, 2] [1, 3, 4] rfl rfl (by decide) (by decide) (fun H locs hP hD hS => ?_)
    have h9 := fixPD (ws' := [k_I E a_row 81 c_row, k_I E a_share 2 c_share, k_I E a_leftOver 2 c_leftOver, k_X5 a_ a_row a_partners w_20 c_outcome a_share a_leftOver, k_I E a_partners 8 w_19]) hP hD rfl
    clear hP hD
    obtain ⟨hP, hD⟩ := h9
    refine lv_iload hx hb (dq_21 96 bcX5_moveSite_2 (j := 26) (i := 4) rfl rfl) (lv_at hl 3 rfl) ?_
    refine lv_iconst (v := 1) hx hb (dq_4 96 bcX5_moveSite_2 (j := 28) rfl rfl) (by decide) ?_
    refine lv_iload hx hb (dq_21 96 bcX5_moveSite_2 (j := 29) (i := 6) rfl rfl) (lv_at hl 0 rfl) ?_
    refine lv_ishl hx hb (dq_120 96 bcX5_moveSite_2 (j := 31) rfl rfl) ?_
    refine lv_ior hx hb (dq_128 96 bcX5_moveSite_2 (j := 32) rfl rfl) ?_
    refine lv_istore (lv' := [(4, .int (x4 ||| ((1 : Int32) <<< (k0 &&& (31 : Int32))))), (6, .int k0), (0, .ref a_), (1, .int p1), (5, .int x5)]) hx hb (dq_54 96 bcX5_moveSite_2 (j := 33) (i := 4) rfl rfl) hl (by decide) rfl (fun ls hl => ?_)
    refine lv_aload_n hx hb (dq_42 96 bcX5_moveSite_2 (j := 35) rfl rfl) rfl (lv_at hl 2 rfl) ?_
    refine lv_iload hx hb (dq_21 96 bcX5_moveSite_2 (j := 36) (i := 4) rfl rfl) (lv_at hl 0 rfl) ?_
    replace hF := bd3_s hF
    obtain ⟨r_22, w_23, w_24, hc_25, hF⟩ := hF
    obtain ⟨hPc, hDc, hFc⟩ := wcut (wc := (w_X5_canShare E a_ a_row a_partners a_share a_leftOver w_20 c_outcome c_row c_share c_leftOver)) hP hD hS hA [3, 0, 1, 2] (by decide) rfl
    have hrc := va_recv hK hPc (ci := 6) (q0 := 0) rfl rfl
    refine cE_z (wc := (w_X5_canShare E a_ a_row a_partners a_share a_leftOver w_20 c_outcome c_row c_share c_leftOver)) (wr := [k_I E a_partners 8 w_19]) (w1 := (w_X5_canShare E a_ a_row a_partners a_share a_leftOver w_20 c_outcome c_row w_23 w_24)) (va_runV (As := [.int (x4 ||| ((1 : Int32) <<< (k0 &&& (31 : Int32))))]) (rest := [])  ⟨hx, hb, hml, hown, hts⟩ (f_X5_canShare l E H.size K (a_ := a_) (a_row := a_row) (a_partners := a_partners) (a_share := a_share) (a_leftOver := a_leftOver) (p1 := x4 ||| ((1 : Int32) <<< (k0 &&& (31 : Int32)))) (c_askedCount := w_20) (c_outcome := c_outcome) (c_row := c_row) (c_share := c_share) (c_leftOver := c_leftOver) hc_25) (cwV 1 hts g_f_X5_moveSite_f_X5_canShare_156 rfl rfl rfl hd_X5_canShare ⟨Nat.le_of_ble_eq_true rfl, Nat.le_of_ble_eq_true rfl⟩) ⟨pW.blind, hrc, (pW.pre ⟨hK, hN⟩ hPc hDc)⟩ rfl rfl hl.1 rfl (lv_room (Nat.le_of_ble_eq_true rfl)) (dq_182 96 bcX5_moveSite_2 (j := 38) (i := 156) rfl rfl rfl) ⟨Nat.le_of_ble_eq_true rfl, Nat.le_of_ble_eq_true rfl⟩) hS hFc hP hD [3, 0, 1, 2] [4] rfl rfl (by decide) (by decide) (fun hb_26 H locs hP hD hS => ?_)
    have h9 := fixPD (ws' := [k_I E a_partners 8 w_19, k_X5 a_ a_row a_partners w_20 c_outcome a_share a_leftOver, k_I E a_row 81 c_row, k_I E a_share 2 w_23, k_I E a_leftOver 2 w_24]) hP hD rfl
    clear hP hD
    obtain ⟨hP, hD⟩ := h9
    refine lv_if_eq (tgt := 147) hx hb (dq_153 96 bcX5_moveSite_2 (j := 41) (i := 10) rfl rfl rfl) (by decide) (fun c_27 => ?_) (fun c_27 => ?_)
    ·
      replace hF := ip c_27 hF
      refine lv_iinc (v := x5 + (1 : Int32)) (lv' := [(5, .int (x5 + (1 : Int32))), (4, .int (x4 ||| ((1 : Int32) <<< (k0 &&& (31 : Int32))))), (6, .int k0), (0, .ref a_), (1, .int p1)]) hx hb (dq_132 144 bcX5_moveSite_3 (j := 3) (i := 1) rfl rfl rfl) hl (k := 4) rfl (rfl) (by decide) rfl (fun ls hl => ?_)
      refine lv_goto (tgt := 46) hx hb (dq_167 144 bcX5_moveSite_3 (j := 6) (i := -104) rfl rfl rfl) (by decide) ?_
      cases hF
      exact hC (x4 ||| ((1 : Int32) <<< (k0 &&& (31 : Int32)))) (x5 + (1 : Int32)) w_19 w_20 w_23 w_24 rfl H locs ls (hP.sub [1, 2, 0, 3, 4] rfl) (hD.sub [1, 2, 0, 3, 4] (by decide) rfl) hS (lv_sub hl [3, 4, 1, 0] rfl)
    ·
      replace hF := inn c_27 hF
      cases hF
      exact (hE 0 (x4 ||| ((1 : Int32) <<< (k0 &&& (31 : Int32)))) w_19 w_20 w_23 w_24 rfl).1 rfl H locs ls (hP.sub [1, 2, 0, 3, 4] rfl) (hD.sub [1, 2, 0, 3, 4] (by decide) rfl) hS (lv_sub hl [2, 0] rfl)
  ·
    replace hF := inn c_18 hF
    refine lv_goto (tgt := 147) hx hb (dq_167 96 bcX5_moveSite_2 (j := 17) (i := 34) rfl rfl rfl) (by decide) ?_
    refine lv_iinc (v := x5 + (1 : Int32)) (lv' := [(5, .int (x5 + (1 : Int32))), (6, .int k0), (0, .ref a_), (1, .int p1), (4, .int x4)]) hx hb (dq_132 144 bcX5_moveSite_3 (j := 3) (i := 1) rfl rfl rfl) hl (k := 4) rfl (rfl) (by decide) rfl (fun ls hl => ?_)
    refine lv_goto (tgt := 46) hx hb (dq_167 144 bcX5_moveSite_3 (j := 6) (i := -104) rfl rfl rfl) (by decide) ?_
    cases hF
    exact hC x4 (x5 + (1 : Int32)) c_partners c_askedCount c_share c_leftOver rfl H locs ls (hP.sub [0, 1, 2, 3, 4] rfl) (hD.sub [0, 1, 2, 3, 4] (by decide) rfl) hS (lv_sub hl [2, 3, 4, 0] rfl)

set_option maxHeartbeats 4000000 in
set_option maxRecDepth 100000 in
theorem wb_X5_moveSite_46 {p : Program} (l : Launch) {e : Env} {s : State} {m : MethodId} {below : List Frame} {meth : Method} {c : Code} {Q : State → Prop} (E : EE) (K : Nat) {a_ a_row a_partners a_share a_leftOver : Nat} {p1 : Int32} {p2 : Int32} {p3 : Int32} {x4 : Int32} {x5 : Int32} {c_row : Nat → Int32} {c_partners : Nat → Int32} {c_askedCount : Int32} {c_outcome : Int32} {c_share : Nat → Int32} {c_leftOver : Nat → Int32} (hx : p.tables.exec = Jvm.exec) (hb : c.code = cX5_moveSite) (hml : c.maxLocals = 7) (hown : s.vm.findClass RX5 = some m.cls) (hts : ∀ w ∈ v_f_X5_moveSite, w.before #[Value.ref a_, Value.int p1, Value.int p2, Value.int p3] s = true) (hK : va_K E.1 vwCl (TY E) s) (hN : NX s) {A : Nat → Prop} (hA : ∀ q : Nat, s.heap.size ≤ q → A q) {xx : (Int32 × Int32 × (Nat → Int32) × Int32 × (Nat → Int32) × (Nat → Int32)) ⊕ (Nat × Int32 × (Nat → Int32) × Int32 × (Nat → Int32) × (Nat → Int32))} (hC : ∀ (x4 : Int32), ∀ (x5 : Int32), ∀ (c_partners : Nat → Int32), ∀ (c_askedCount : Int32), ∀ (c_share : Nat → Int32), ∀ (c_leftOver : Nat → Int32), xx = .inl (x4, x5, c_partners, c_askedCount, c_share, c_leftOver) → ∀ (H : Heap) (locs : List Loc) (ls : Array Slot), va_P E.1 vwCl (w_X5_moveSite E a_ a_row a_partners a_share a_leftOver c_askedCount c_outcome c_row c_partners c_share c_leftOver) H → va_D A (w_X5_moveSite E a_ a_row a_partners a_share a_leftOver c_askedCount c_outcome c_row c_partners c_share c_leftOver) → va_S A s.heap H locs → lv_has ls 7 [(0, .ref a_), (1, .int p1), (4, .int x4), (5, .int x5)] → W p l e ({ frames := 3, cells := 0, slots := 0, locals := 73 } : Room) s m #[Value.ref a_, Value.int p1, Value.int p2, Value.int p3] below meth c H locs 0 0 Q (F0 m 46 ls [])) (hE : ∀ (t9 : Nat), ∀ (x4 : Int32), ∀ (c_partners : Nat → Int32), ∀ (c_askedCount : Int32), ∀ (c_share : Nat → Int32), ∀ (c_leftOver : Nat → Int32), xx = .inr (t9, x4, c_partners, c_askedCount, c_share, c_leftOver) → ((t9 = 0 → ∀ (H : Heap) (locs : List Loc) (ls : Array Slot), va_P E.1 vwCl (w_X5_moveSite E a_ a_row a_partners a_share a_leftOver c_askedCount c_outcome c_row c_partners c_share c_leftOver) H → va_D A (w_X5_moveSite E a_ a_row a_partners a_share a_leftOver c_askedCount c_outcome c_row c_partners c_share c_leftOver) → va_S A s.heap H locs → lv_has ls 7 [(0, .ref a_), (4, .int x4)] → W p l e ({ frames := 3, cells := 0, slots := 0, locals := 73 } : Room) s m #[Value.ref a_, Value.int p1, Value.int p2, Value.int p3] below meth c H locs 0 0 Q (F0 m 140 ls [])) ∧ (t9 = 1 → ∀ (H : Heap) (locs : List Loc) (ls : Array Slot), va_P E.1 vwCl (w_X5_moveSite E a_ a_row a_partners a_share a_leftOver c_askedCount c_outcome c_row c_partners c_share c_leftOver) H → va_D A (w_X5_moveSite E a_ a_row a_partners a_share a_leftOver c_askedCount c_outcome c_row c_partners c_share c_leftOver) → va_S A s.heap H locs → lv_has ls 7 [(0, .ref a_)] → W p l e ({ frames := 3, cells := 0, slots := 0, locals := 73 } : Room) s m #[Value.ref a_, Value.int p1, Value.int p2, Value.int p3] below meth c H locs 0 0 Q (F0 m 153 ls [])))) (hF : B_X5_moveSite_46 K p1 c_row x4 x5 c_partners c_askedCount c_share c_leftOver = some xx) : ∀ (H : Heap) (locs : List Loc) (ls : Array Slot), va_P E.1 vwCl (w_X5_moveSite E a_ a_row a_partners a_share a_leftOver c_askedCount c_outcome c_row c_partners c_share c_leftOver) H → va_D A (w_X5_moveSite E a_ a_row a_partners a_share a_leftOver c_askedCount c_outcome c_row c_partners c_share c_leftOver) → va_S A s.heap H locs → lv_has ls 7 [(0, .ref a_), (1, .int p1), (4, .int x4), (5, .int x5)] → W p l e ({ frames := 3, cells := 0, slots := 0, locals := 73 } : Room) s m #[Value.ref a_, Value.int p1, Value.int p2, Value.int p3] below meth c H locs 0 0 Q (F0 m 46 ls []) := by
  unfold B_X5_moveSite_46 at hF
  intro H locs ls hP hD hS hl
  have h9 := fixPD (ws' := [k_X5 a_ a_row a_partners c_askedCount c_outcome a_share a_leftOver, k_I E a_row 81 c_row, k_I E a_partners 8 c_partners, k_I E a_share 2 c_share, k_I E a_leftOver 2 c_leftOver]) hP hD rfl
  clear hP hD
  obtain ⟨hP, hD⟩ := h9
  refine lv_iload hx hb (dq_21 0 bcX5_moveSite_0 (j := 46) (i := 5) rfl rfl) (lv_at hl 3 rfl) ?_
  refine lv_aload_n hx hb (dq_42 48 bcX5_moveSite_1 (j := 0) rfl rfl) rfl (lv_at hl 0 rfl) ?_
  refine gt_X5_0 (v := .ref a_row) hx hb hts i_f_X5_moveSite_X5 hown hK hP 0 rfl (hts (.fieldLink RX5 11 "HushWatch$State" "row" "[I") (List.mem_of_getElem? (i := 3) rfl)) rfl (dq_180 48 bcX5_moveSite_1 (j := 1) (i := 11) rfl rfl rfl) ?_
  refine lv_iconst (v := 3) hx hb (dq_6 48 bcX5_moveSite_1 (j := 4) rfl rfl) (by decide) ?_
  refine va_iald hx hb hK hP 1 0 rfl rfl (vin rfl) (dq_46 48 bcX5_moveSite_1 (j := 5) rfl rfl) ?_
  refine W.eq (g2 := F0 m 54 ls [.int (c_row 3), .int x5]) rfl ?_
  refine lv_icmp_ge (tgt := 153) hx hb (dq_162 48 bcX5_moveSite_1 (j := 6) (i := 99) rfl rfl rfl) (by decide) (fun c_8 => ?_) (fun c_8 => ?_)
  ·
    replace hF := ip c_8 hF
    cases hF
    exact (hE 1 x4 c_partners c_askedCount c_share c_leftOver rfl).2 rfl H locs ls (hP.sub [0, 1, 2, 3, 4] rfl) (hD.sub [0, 1, 2, 3, 4] (by decide) rfl) hS (lv_sub hl [0] rfl)
  ·
    replace hF := inn c_8 hF
    refine lv_iload hx hb (dq_21 48 bcX5_moveSite_1 (j := 9) (i := 5) rfl rfl) (lv_at hl 3 rfl) ?_
    refine lv_bipush (v := 8) hx hb (dq_16 48 bcX5_moveSite_1 (j := 11) (i := 8) rfl rfl rfl) (by decide) ?_
    refine lv_icmp_ge (tgt := 153) hx hb (dq_162 48 bcX5_moveSite_1 (j := 13) (i := 92) rfl rfl rfl) (by decide) (fun c_9 => ?_) (fun c_9 => ?_)
    ·
      replace hF := ip c_9 hF
      cases hF
      exact (hE 1 x4 c_partners c_askedCount c_share c_leftOver rfl).2 rfl H locs ls (hP.sub [0, 1, 2, 3, 4] rfl) (hD.sub [0, 1, 2, 3, 4] (by decide) rfl) hS (lv_sub hl [0] rfl)
    ·
      replace hF := inn c_9 hF
      refine lv_aload_n hx hb (dq_42 48 bcX5_moveSite_1 (j := 16) rfl rfl) rfl (lv_at hl 0 rfl) ?_
      replace hF := bd1_s hF
      obtain ⟨r_10, hc_11, hF⟩ := hF
      have hPc : va_P E.1 vwCl (w_X5_isAbove E a_ a_row a_partners a_share a_leftOver c_askedCount c_outcome c_row) H := hP.sub (ws' := [k_X5 a_ a_row a_partners c_askedCount c_outcome a_share a_leftOver, k_I E a_row 81 c_row]) [0, 1] rfl
      have hrc := va_recv hK hPc (ci := 6) (q0 := 0) rfl rfl
      refine pE_z (va_runV (As := []) (rest := [])  ⟨hx, hb, hml, hown, hts⟩ (f_X5_isAbove l E (a_ := a_) (a_row := a_row) (a_partners := a_partners) (a_share := a_share) (a_leftOver := a_leftOver) (c_askedCount := c_askedCount) (c_outcome := c_outcome) (c_row := c_row) hc_11) (cwV 0 hts g_f_X5_moveSite_f_X5_isAbove_83 rfl rfl rfl hd_X5_isAbove ⟨Nat.le_of_ble_eq_true rfl, Nat.le_of_ble_eq_true rfl⟩) ⟨pP.blind, hrc, (pP.pre ⟨hK, hN⟩ hPc)⟩ rfl rfl hl.1 rfl (lv_room (Nat.le_of_ble_eq_true rfl)) (dq_182 48 bcX5_moveSite_1 (j := 17) (i := 83) rfl rfl rfl) ⟨Nat.le_of_ble_eq_true rfl, Nat.le_of_ble_eq_true rfl⟩) (fun hb_12 => ?_)
      refine lv_if_ne (tgt := 153) hx hb (dq_154 48 bcX5_moveSite_1 (j := 20) (i := 85) rfl rfl rfl) (by decide) (fun c_13 => ?_) (fun c_13 => ?_)
      ·
        replace hF := inn c_13 hF
        cases hF
        exact (hE 1 x4 c_partners c_askedCount c_share c_leftOver rfl).2 rfl H locs ls (hP.sub [0, 1, 2, 3, 4] rfl) (hD.sub [0, 1, 2, 3, 4] (by decide) rfl) hS (lv_sub hl [0] rfl)
      ·
        replace hF := ip c_13 hF
        refine lv_iload_n hx hb (dq_27 48 bcX5_moveSite_1 (j := 23) rfl rfl) rfl (lv_at hl 1 rfl) ?_
        refine lv_iload hx hb (dq_21 48 bcX5_moveSite_1 (j := 24) (i := 5) rfl rfl) (lv_at hl 3 rfl) ?_
        refine lv_iadd hx hb (dq_96 48 bcX5_moveSite_1 (j := 26) rfl rfl) ?_
        refine lv_aload_n hx hb (dq_42 48 bcX5_moveSite_1 (j := 27) rfl rfl) rfl (lv_at hl 0 rfl) ?_
        refine gt_X5_0 (v := .ref a_row) hx hb hts i_f_X5_moveSite_X5 hown hK hP 0 rfl (hts (.fieldLink RX5 11 "HushWatch$State" "row" "[I") (List.mem_of_getElem? (i := 3) rfl)) rfl (dq_180 48 bcX5_moveSite_1 (j := 28) (i := 11) rfl rfl rfl) ?_
        refine lv_iconst (v := 3) hx hb (dq_6 48 bcX5_moveSite_1 (j := 31) rfl rfl) (by decide) ?_
        refine va_iald hx hb hK hP 1 0 rfl rfl (vin rfl) (dq_46 48 bcX5_moveSite_1 (j := 32) rfl rfl) ?_
        refine W.eq (g2 := F0 m 81 ls [.int (c_row 3), .int (p1 + x5)]) rfl ?_
        refine lv_icmp_ge (tgt := 91) hx hb (dq_162 48 bcX5_moveSite_1 (j := 33) (i := 10) rfl rfl rfl) (by decide) (fun c_14 => ?_) (fun c_14 => ?_)
        ·
          replace hF := ip c_14 hF
          refine lv_iload_n hx hb (dq_27 48 bcX5_moveSite_1 (j := 43) rfl rfl) rfl (lv_at hl 1 rfl) ?_
          refine lv_iload hx hb (dq_21 48 bcX5_moveSite_1 (j := 44) (i := 5) rfl rfl) (lv_at hl 3 rfl) ?_
          refine lv_iadd hx hb (dq_96 48 bcX5_moveSite_1 (j := 46) rfl rfl) ?_
          refine lv_aload_n hx hb (dq_42 48 bcX5_moveSite_1 (j := 47) rfl rfl) rfl (lv_at hl 0 rfl) ?_
          refine gt_X5_0 (v := .ref a_row) hx hb hts i_f_X5_moveSite_X5 hown hK hP 0 rfl (hts (.fieldLink RX5 11 "HushWatch$State" "row" "[I") (List.mem_of_getElem? (i := 3) rfl)) rfl (dq_180 96 bcX5_moveSite_2 (j := 0) (i := 11) rfl rfl rfl) ?_
          refine lv_iconst (v := 3) hx hb (dq_6 96 bcX5_moveSite_2 (j := 3) rfl rfl) (by decide) ?_
          refine va_iald hx hb hK hP 1 0 rfl rfl (vin rfl) (dq_46 96 bcX5_moveSite_2 (j := 4) rfl rfl) ?_
          refine W.eq (g2 := F0 m 101 ls [.int (c_row 3), .int (p1 + x5)]) rfl ?_
          refine lv_isub hx hb (dq_100 96 bcX5_moveSite_2 (j := 5) rfl rfl) ?_
          exact j_X5_moveSite_102_r47 l E K (p1 := p1) (p2 := p2) (p3 := p3) (k0 := (p1 + x5) - (c_row 3)) (x4 := x4) (x5 := x5) (c_row := c_row) (c_partners := c_partners) (c_askedCount := c_askedCount) (c_outcome := c_outcome) (c_share := c_share) (c_leftOver := c_leftOver) hx hb hml hown hts hK hN hA hC hE hF H locs ls (hP.sub [0, 1, 2, 3, 4] rfl) (hD.sub [0, 1, 2, 3, 4] (by decide) rfl) hS (lv_sub hl [0, 1, 2, 3] rfl)
        ·
          replace hF := inn c_14 hF
          refine lv_iload_n hx hb (dq_27 48 bcX5_moveSite_1 (j := 36) rfl rfl) rfl (lv_at hl 1 rfl) ?_
          refine lv_iload hx hb (dq_21 48 bcX5_moveSite_1 (j := 37) (i := 5) rfl rfl) (lv_at hl 3 rfl) ?_
          refine lv_iadd hx hb (dq_96 48 bcX5_moveSite_1 (j := 39) rfl rfl) ?_
          refine lv_goto (tgt := 102) hx hb (dq_167 48 bcX5_moveSite_1 (j := 40) (i := 14) rfl rfl rfl) (by decide) ?_
          exact j_X5_moveSite_102_r47 l E K (p1 := p1) (p2 := p2) (p3 := p3) (k0 := p1 + x5) (x4 := x4) (x5 := x5) (c_row := c_row) (c_partners := c_partners) (c_askedCount := c_askedCount) (c_outcome := c_outcome) (c_share := c_share) (c_leftOver := c_leftOver) hx hb hml hown hts hK hN hA hC hE hF H locs ls (hP.sub [0, 1, 2, 3, 4] rfl) (hD.sub [0, 1, 2, 3, 4] (by decide) rfl) hS (lv_sub hl [0, 1, 2, 3] rfl)

set_option maxHeartbeats 4000000 in
set_option maxRecDepth 100000 in
theorem lw_X5_moveSite_46 {p : Program} (l : Launch) {e : Env} {s : State} {m : MethodId} {below : List Frame} {meth : Method} {c : Code} {Q : State → Prop} (E : EE) (K : Nat) {a_ a_row a_partners a_share a_leftOver : Nat} {p1 : Int32} {p2 : Int32} {p3 : Int32} {c_row : Nat → Int32} {c_outcome : Int32} (hx : p.tables.exec = Jvm.exec) (hb : c.code = cX5_moveSite) (hml : c.maxLocals = 7) (hown : s.vm.findClass RX5 = some m.cls) (hts : ∀ w ∈ v_f_X5_moveSite, w.before #[Value.ref a_, Value.int p1, Value.int p2, Value.int p3] s = true) (hK : va_K E.1 vwCl (TY E) s) (hN : NX s) {A : Nat → Prop} (hA : ∀ q : Nat, s.heap.size ≤ q → A q) (j9 : Nat) (x4 : Int32) (x5 : Int32) (c_partners : Nat → Int32) (c_askedCount : Int32) (c_share : Nat → Int32) (c_leftOver : Nat → Int32) (t9' : Nat) (x4' : Int32) (c_partners' : Nat → Int32) (c_askedCount' : Int32) (c_share' : Nat → Int32) (c_leftOver' : Nat → Int32) (hL : lpF (fun u9 : Int32 × Int32 × (Nat → Int32) × Int32 × (Nat → Int32) × (Nat → Int32) => B_X5_moveSite_46 K p1 c_row u9.1 u9.2.1 u9.2.2.1 u9.2.2.2.1 u9.2.2.2.2.1 u9.2.2.2.2.2) j9 (x4, x5, c_partners, c_askedCount, c_share, c_leftOver) = some (t9', x4', c_partners', c_askedCount', c_share', c_leftOver')) (hX : (t9' = 0 → ∀ (H : Heap) (locs : List Loc) (ls : Array Slot), va_P E.1 vwCl (w_X5_moveSite E a_ a_row a_partners a_share a_leftOver c_askedCount' c_outcome c_row c_partners' c_share' c_leftOver') H → va_D A (w_X5_moveSite E a_ a_row a_partners a_share a_leftOver c_askedCount' c_outcome c_row c_partners' c_share' c_leftOver') → va_S A s.heap H locs → lv_has ls 7 [(0, .ref a_), (4, .int x4')] → W p l e ({ frames := 3, cells := 0, slots := 0, locals := 73 } : Room) s m #[Value.ref a_, Value.int p1, Value.int p2, Value.int p3] below meth c H locs 0 0 Q (F0 m 140 ls [])) ∧ (t9' = 1 → ∀ (H : Heap) (locs : List Loc) (ls : Array Slot), va_P E.1 vwCl (w_X5_moveSite E a_ a_row a_partners a_share a_leftOver c_askedCount' c_outcome c_row c_partners' c_share' c_leftOver') H → va_D A (w_X5_moveSite E a_ a_row a_partners a_share a_leftOver c_askedCount' c_outcome c_row c_partners' c_share' c_leftOver') → va_S A s.heap H locs → lv_has ls 7 [(0, .ref a_)] → W p l e ({ frames := 3, cells := 0, slots := 0, locals := 73 } : Room) s m #[Value.ref a_, Value.int p1, Value.int p2, Value.int p3] below meth c H locs 0 0 Q (F0 m 153 ls []))) : ∀ (H : Heap) (locs : List Loc) (ls : Array Slot), va_P E.1 vwCl (w_X5_moveSite E a_ a_row a_partners a_share a_leftOver c_askedCount c_outcome c_row c_partners c_share c_leftOver) H → va_D A (w_X5_moveSite E a_ a_row a_partners a_share a_leftOver c_askedCount c_outcome c_row c_partners c_share c_leftOver) → va_S A s.heap H locs → lv_has ls 7 [(0, .ref a_), (1, .int p1), (4, .int x4), (5, .int x5)] → W p l e ({ frames := 3, cells := 0, slots := 0, locals := 73 } : Room) s m #[Value.ref a_, Value.int p1, Value.int p2, Value.int p3] below meth c H locs 0 0 Q (F0 m 46 ls []) := by
  exact lp_rule (P := (fun u9 : Int32 × Int32 × (Nat → Int32) × Int32 × (Nat → Int32) × (Nat → Int32) => ∀ (H : Heap) (locs : List Loc) (ls : Array Slot), va_P E.1 vwCl (w_X5_moveSite E a_ a_row a_partners a_share a_leftOver u9.2.2.2.1 c_outcome c_row u9.2.2.1 u9.2.2.2.2.1 u9.2.2.2.2.2) H → va_D A (w_X5_moveSite E a_ a_row a_partners a_share a_leftOver u9.2.2.2.1 c_outcome c_row u9.2.2.1 u9.2.2.2.2.1 u9.2.2.2.2.2) → va_S A s.heap H locs → lv_has ls 7 [(0, .ref a_), (1, .int p1), (4, .int u9.1), (5, .int u9.2.1)] → W p l e ({ frames := 3, cells := 0, slots := 0, locals := 73 } : Room) s m #[Value.ref a_, Value.int p1, Value.int p2, Value.int p3] below meth c H locs 0 0 Q (F0 m 46 ls []))) (R := (fun r9 : Nat × Int32 × (Nat → Int32) × Int32 × (Nat → Int32) × (Nat → Int32) => (r9.1 = 0 → ∀ (H : Heap) (locs : List Loc) (ls : Array Slot), va_P E.1 vwCl (w_X5_moveSite E a_ a_row a_partners a_share a_leftOver r9.2.2.2.1 c_outcome c_row r9.2.2.1 r9.2.2.2.2.1 r9.2.2.2.2.2) H → va_D A (w_X5_moveSite E a_ a_row a_partners a_share a_leftOver r9.2.2.2.1 c_outcome c_row r9.2.2.1 r9.2.2.2.2.1 r9.2.2.2.2.2) → va_S A s.heap H locs → lv_has ls 7 [(0, .ref a_), (4, .int r9.2.1)] → W p l e ({ frames := 3, cells := 0, slots := 0, locals := 73 } : Room) s m #[Value.ref a_, Value.int p1, Value.int p2, Value.int p3] below meth c H locs 0 0 Q (F0 m 140 ls [])) ∧ (r9.1 = 1 → ∀ (H : Heap) (locs : List Loc) (ls : Array Slot), va_P E.1 vwCl (w_X5_moveSite E a_ a_row a_partners a_share a_leftOver r9.2.2.2.1 c_outcome c_row r9.2.2.1 r9.2.2.2.2.1 r9.2.2.2.2.2) H → va_D A (w_X5_moveSite E a_ a_row a_partners a_share a_leftOver r9.2.2.2.1 c_outcome c_row r9.2.2.1 r9.2.2.2.2.1 r9.2.2.2.2.2) → va_S A s.heap H locs → lv_has ls 7 [(0, .ref a_)] → W p l e ({ frames := 3, cells := 0, slots := 0, locals := 73 } : Room) s m #[Value.ref a_, Value.int p1, Value.int p2, Value.int p3] below meth c H locs 0 0 Q (F0 m 153 ls [])))) (fun u9 xx hF hC hE => wb_X5_moveSite_46 l E K (p1 := p1) (p2 := p2) (p3 := p3) (x4 := u9.1) (x5 := u9.2.1) (c_row := c_row) (c_partners := u9.2.2.1) (c_askedCount := u9.2.2.2.1) (c_outcome := c_outcome) (c_share := u9.2.2.2.2.1) (c_leftOver := u9.2.2.2.2.2) hx hb hml hown hts hK hN hA (fun x4 x5 c_partners c_askedCount c_share c_leftOver q9 => hC _ q9) (fun t9 x4 c_partners c_askedCount c_share c_leftOver q9 => hE _ q9) hF) j9 (x4, x5, c_partners, c_askedCount, c_share, c_leftOver) (t9', x4', c_partners', c_askedCount', c_share', c_leftOver') hL hX

set_option maxHeartbeats 4000000 in
set_option maxRecDepth 100000 in
theorem j_X5_moveSite_153 {p : Program} (l : Launch) {e : Env} {s : State} {m : MethodId} {below : List Frame} {meth : Method} {c : Code} {Q : State → Prop} (E : EE) (K : Nat) {a_ a_row a_partners a_share a_leftOver : Nat} {p1 : Int32} {p2 : Int32} {p3 : Int32} {c_row : Nat → Int32} {c_partners : Nat → Int32} {c_askedCount : Int32} {c_outcome : Int32} {c_share : Nat → Int32} {c_leftOver : Nat → Int32} (hx : p.tables.exec = Jvm.exec) (hb : c.code = cX5_moveSite) (hml : c.maxLocals = 7) (hown : s.vm.findClass RX5 = some m.cls) (hts : ∀ w ∈ v_f_X5_moveSite, w.before #[Value.ref a_, Value.int p1, Value.int p2, Value.int p3] s = true) (hK : va_K E.1 vwCl (TY E) s) (hN : NX s) {A : Nat → Prop} (hA : ∀ q : Nat, s.heap.size ≤ q → A q) {rr : Int32} {n_row : Nat → Int32} {n_partners : Nat → Int32} {n_askedCount : Int32} {n_outcome : Int32} {n_share : Nat → Int32} {n_leftOver : Nat → Int32} (hr : meth.sig.returnType = (some .int)) (hlocks : meth.locks = false) (hQ : Q = MQ below (va_Qi (fun (q : Int32) (_u : Unit) => q = rr) (fun (_u : Unit) tt => va_P E.1 vwCl (w_X5_moveSite E a_ a_row a_partners a_share a_leftOver n_askedCount n_outcome n_row n_partners n_share n_leftOver) tt.heap ∧ va_D A (w_X5_moveSite E a_ a_row a_partners a_share a_leftOver n_askedCount n_outcome n_row n_partners n_share n_leftOver)) A) #[Value.ref a_, Value.int p1, Value.int p2, Value.int p3] s 0 0 A) (hF : J_X5_moveSite_153 K c_row c_partners c_askedCount c_share c_leftOver = some (rr, n_row, n_partners, n_askedCount, n_outcome, n_share, n_leftOver)) : ∀ (H : Heap) (locs : List Loc) (ls : Array Slot), va_P E.1 vwCl (w_X5_moveSite E a_ a_row a_partners a_share a_leftOver c_askedCount c_outcome c_row c_partners c_share c_leftOver) H → va_D A (w_X5_moveSite E a_ a_row a_partners a_share a_leftOver c_askedCount c_outcome c_row c_partners c_share c_leftOver) → va_S A s.heap H locs → lv_has ls 7 [(0, .ref a_)] → W p l e ({ frames := 3, cells := 0, slots := 0, locals := 73 } : Room) s m #[Value.ref a_, Value.int p1, Value.int p2, Value.int p3] below meth c H locs 0 0 Q (F0 m 153 ls []) := by
  unfold J_X5_moveSite_153 at hF
  intro H locs ls hP hD hS hl
  have h9 := fixPD (ws' := [k_X5 a_ a_row a_partners c_askedCount c_outcome a_share a_leftOver, k_I E a_row 81 c_row, k_I E a_partners 8 c_partners, k_I E a_share 2 c_share, k_I E a_leftOver 2 c_leftOver]) hP hD rfl
  clear hP hD
  obtain ⟨hP, hD⟩ := h9
  refine lv_aload_n hx hb (dq_42 144 bcX5_moveSite_3 (j := 9) rfl rfl) rfl (lv_at hl 0 rfl) ?_
  replace hF := bd1_s hF
  obtain ⟨w_39, hc_40, hF⟩ := hF
  obtain ⟨hPc, hDc, hFc⟩ := wcut (wc := (w_X5_hearAll E a_ a_row a_partners a_share a_leftOver c_askedCount c_outcome c_row)) hP hD hS hA [0, 1] (by decide) rfl
  have hrc := va_recv hK hPc (ci := 6) (q0 := 0) rfl rfl
  refine cE_v (wc := (w_X5_hearAll E a_ a_row a_partners a_share a_leftOver c_askedCount c_outcome c_row)) (wr := [k_I E a_partners 8 c_partners, k_I E a_share 2 c_share, k_I E a_leftOver 2 c_leftOver]) (w1 := (w_X5_hearAll E a_ a_row a_partners a_share a_leftOver c_askedCount c_outcome w_39)) (va_runV (As := []) (rest := [])  ⟨hx, hb, hml, hown, hts⟩ (f_X5_hearAll l E H.size K (a_ := a_) (a_row := a_row) (a_partners := a_partners) (a_share := a_share) (a_leftOver := a_leftOver) (c_askedCount := c_askedCount) (c_outcome := c_outcome) (c_row := c_row) hc_40) (cwV 0 hts g_f_X5_moveSite_f_X5_hearAll_162 rfl rfl rfl hd_X5_hearAll ⟨Nat.le_of_ble_eq_true rfl, Nat.le_of_ble_eq_true rfl⟩) ⟨pW.blind, hrc, (pW.pre ⟨hK, hN⟩ hPc hDc)⟩ rfl rfl hl.1 rfl (lv_room (Nat.le_of_ble_eq_true rfl)) (dq_182 144 bcX5_moveSite_3 (j := 10) (i := 162) rfl rfl rfl) ⟨Nat.le_of_ble_eq_true rfl, Nat.le_of_ble_eq_true rfl⟩) hS hFc hP hD [0, 1] [2, 3, 4] rfl rfl (by decide) (by decide) (fun H locs hP hD hS => ?_)
  have h9 := fixPD (ws' := [k_I E a_partners 8 c_partners, k_I E a_share 2 c_share, k_I E a_leftOver 2 c_leftOver, k_X5 a_ a_row a_partners c_askedCount c_outcome a_share a_leftOver, k_I E a_row 81 w_39]) hP hD rfl
  clear hP hD
  obtain ⟨hP, hD⟩ := h9
  refine lv_aload_n hx hb (dq_42 144 bcX5_moveSite_3 (j := 13) rfl rfl) rfl (lv_at hl 0 rfl) ?_
  refine lv_iconst (v := 2) hx hb (dq_5 144 bcX5_moveSite_3 (j := 14) rfl rfl) (by decide) ?_
  refine pt_X5_3 (v := .int (2 : Int32)) hx hb hts i_f_X5_moveSite_X5 hown hK hP hD hS 3 rfl (hts (.fieldLink RX5 22 "HushWatch$State" "outcome" "I") (List.mem_of_getElem? (i := 2) rfl)) rfl rfl (Nat.le_of_ble_eq_true rfl) (dq_181 144 bcX5_moveSite_3 (j := 15) (i := 22) rfl rfl rfl) (fun H locs hP hD hS => ?_)
  have h9 := fixPD (ws' := [k_I E a_partners 8 c_partners, k_I E a_share 2 c_share, k_I E a_leftOver 2 c_leftOver, k_X5 a_ a_row a_partners c_askedCount (2 : Int32) a_share a_leftOver, k_I E a_row 81 w_39]) hP hD rfl
  clear hP hD
  obtain ⟨hP, hD⟩ := h9
  refine lv_aload_n hx hb (dq_42 144 bcX5_moveSite_3 (j := 18) rfl rfl) rfl (lv_at hl 0 rfl) ?_
  refine gt_X5_0 (v := .ref a_row) hx hb hts i_f_X5_moveSite_X5 hown hK hP 3 rfl (hts (.fieldLink RX5 11 "HushWatch$State" "row" "[I") (List.mem_of_getElem? (i := 3) rfl)) rfl (dq_180 144 bcX5_moveSite_3 (j := 19) (i := 11) rfl rfl rfl) ?_
  refine lv_iconst (v := 3) hx hb (dq_6 144 bcX5_moveSite_3 (j := 22) rfl rfl) (by decide) ?_
  refine va_iald hx hb hK hP 4 0 rfl rfl (vin rfl) (dq_46 144 bcX5_moveSite_3 (j := 23) rfl rfl) ?_
  refine W.eq (g2 := F0 m 168 ls [.int (w_39 3)]) rfl ?_
  refine lv_iconst (v := 1) hx hb (dq_4 144 bcX5_moveSite_3 (j := 24) rfl rfl) (by decide) ?_
  refine lv_isub hx hb (dq_100 144 bcX5_moveSite_3 (j := 25) rfl rfl) ?_
  refine lv_aload_n hx hb (dq_42 144 bcX5_moveSite_3 (j := 26) rfl rfl) rfl (lv_at hl 0 rfl) ?_
  refine gt_X5_2 (v := .int c_askedCount) hx hb hts i_f_X5_moveSite_X5 hown hK hP 3 rfl (hts (.fieldLink RX5 18 "HushWatch$State" "askedCount" "I") (List.mem_of_getElem? (i := 1) rfl)) rfl (dq_180 144 bcX5_moveSite_3 (j := 27) (i := 18) rfl rfl rfl) ?_
  refine lv_isub hx hb (dq_100 144 bcX5_moveSite_3 (j := 30) rfl rfl) ?_
  refine lv_istore (lv' := [(5, .int (((w_39 3) - (1 : Int32)) - c_askedCount)), (0, .ref a_)]) hx hb (dq_54 144 bcX5_moveSite_3 (j := 31) (i := 5) rfl rfl) hl (by decide) rfl (fun ls hl => ?_)
  refine lv_iconst (v := 1) hx hb (dq_4 144 bcX5_moveSite_3 (j := 33) rfl rfl) (by decide) ?_
  refine lv_iconst (v := 2) hx hb (dq_5 144 bcX5_moveSite_3 (j := 34) rfl rfl) (by decide) ?_
  refine lv_aload_n hx hb (dq_42 144 bcX5_moveSite_3 (j := 35) rfl rfl) rfl (lv_at hl 1 rfl) ?_
  refine gt_X5_2 (v := .int c_askedCount) hx hb hts i_f_X5_moveSite_X5 hown hK hP 3 rfl (hts (.fieldLink RX5 18 "HushWatch$State" "askedCount" "I") (List.mem_of_getElem? (i := 1) rfl)) rfl (dq_180 144 bcX5_moveSite_3 (j := 36) (i := 18) rfl rfl rfl) ?_
  refine lv_imul hx hb (dq_104 144 bcX5_moveSite_3 (j := 39) rfl rfl) ?_
  refine lv_iadd hx hb (dq_96 144 bcX5_moveSite_3 (j := 40) rfl rfl) ?_
  refine lv_iload hx hb (dq_21 144 bcX5_moveSite_3 (j := 41) (i := 5) rfl rfl) (lv_at hl 0 rfl) ?_
  refine lv_iadd hx hb (dq_96 144 bcX5_moveSite_3 (j := 43) rfl rfl) ?_
  refine lv_aload_n hx hb (dq_42 144 bcX5_moveSite_3 (j := 44) rfl rfl) rfl (lv_at hl 1 rfl) ?_
  refine gt_X5_0 (v := .ref a_row) hx hb hts i_f_X5_moveSite_X5 hown hK hP 3 rfl (hts (.fieldLink RX5 11 "HushWatch$State" "row" "[I") (List.mem_of_getElem? (i := 3) rfl)) rfl (dq_180 144 bcX5_moveSite_3 (j := 45) (i := 11) rfl rfl rfl) ?_
  refine lv_iconst (v := 3) hx hb (dq_6 192 bcX5_moveSite_4 (j := 0) rfl rfl) (by decide) ?_
  refine va_iald hx hb hK hP 4 0 rfl rfl (vin rfl) (dq_46 192 bcX5_moveSite_4 (j := 1) rfl rfl) ?_
  refine W.eq (g2 := F0 m 194 ls [.int (w_39 3), .int (((1 : Int32) + ((2 : Int32) * c_askedCount)) + (((w_39 3) - (1 : Int32)) - c_askedCount))]) rfl ?_
  refine lv_iadd hx hb (dq_96 192 bcX5_moveSite_4 (j := 2) rfl rfl) ?_
  rw [hQ]
  have h9 := fin9 (P := fun u9 : Int32 × (Nat → Int32) × (Nat → Int32) × Int32 × Int32 × (Nat → Int32) × (Nat → Int32) => ((((1 : Int32) + ((2 : Int32) * c_askedCount)) + (((w_39 3) - (1 : Int32)) - c_askedCount)) + (w_39 3)) = u9.1 ∧ va_P E.1 vwCl (w_X5_moveSite E a_ a_row a_partners a_share a_leftOver u9.2.2.2.1 u9.2.2.2.2.1 u9.2.1 u9.2.2.1 u9.2.2.2.2.2.1 u9.2.2.2.2.2.2) H ∧ va_D A (w_X5_moveSite E a_ a_row a_partners a_share a_leftOver u9.2.2.2.1 u9.2.2.2.2.1 u9.2.1 u9.2.2.1 u9.2.2.2.2.2.1 u9.2.2.2.2.2.2)) hF ⟨rfl, hP.sub [3, 4, 0, 1, 2] rfl, hD.sub [3, 4, 0, 1, 2] (by decide) rfl⟩
  obtain ⟨e9_0, hP9, hD9⟩ := h9
  exact W.iret (v := (((1 : Int32) + ((2 : Int32) * c_askedCount)) + (((w_39 3) - (1 : Int32)) - c_askedCount)) + (w_39 3)) hx hb hr (fun tt ht hW => ⟨⟨_, (), rfl, e9_0, ht ▸ hP9, hD9⟩, hS.F ht⟩) hS.2.2 (dq_172 192 bcX5_moveSite_4 (j := 3) rfl rfl)

set_option maxHeartbeats 4000000 in
set_option maxRecDepth 100000 in
theorem f_X5_moveSite (l : Launch) (E : EE) (sz : Nat) (K : Nat) {a_ a_row a_partners a_share a_leftOver : Nat} {p1 : Int32} {p2 : Int32} {p3 : Int32} {c_askedCount : Int32} {c_outcome : Int32} {c_row : Nat → Int32} {c_partners : Nat → Int32} {c_share : Nat → Int32} {c_leftOver : Nat → Int32} {rr : Int32} {n_row : Nat → Int32} {n_partners : Nat → Int32} {n_askedCount : Int32} {n_outcome : Int32} {n_share : Nat → Int32} {n_leftOver : Nat → Int32} (hF : F_X5_moveSite K p1 p2 p3 c_row c_partners c_askedCount c_outcome c_share c_leftOver = some (rr, n_row, n_partners, n_askedCount, n_outcome, n_share, n_leftOver)) : Met l yX5_moveSite v_f_X5_moveSite (({ frames := 3, cells := 0, slots := 0, locals := 73 } : Room)) (va_Pc [.ref a_, .int p1, .int p2, .int p3] (pW E sz (w_X5_moveSite E a_ a_row a_partners a_share a_leftOver c_askedCount c_outcome c_row c_partners c_share c_leftOver))) (va_Qi (fun (q : Int32) (_u : Unit) => q = rr) (fun (_u : Unit) tt => va_P E.1 vwCl (w_X5_moveSite E a_ a_row a_partners a_share a_leftOver n_askedCount n_outcome n_row n_partners n_share n_leftOver) tt.heap ∧ va_D (va_A (w_X5_moveSite E a_ a_row a_partners a_share a_leftOver c_askedCount c_outcome c_row c_partners c_share c_leftOver) sz) (w_X5_moveSite E a_ a_row a_partners a_share a_leftOver n_askedCount n_outcome n_row n_partners n_share n_leftOver)) (va_A (w_X5_moveSite E a_ a_row a_partners a_share a_leftOver c_askedCount c_outcome c_row c_partners c_share c_leftOver) sz)) 0 0 (va_A (w_X5_moveSite E a_ a_row a_partners a_share a_leftOver c_askedCount c_outcome c_row c_partners c_share c_leftOver) sz) := by
  refine Met.ofW (cc := cX5_moveSite) (maxL := 7) (ret := (some .int)) (by decide) rfl ?_
  intro p e s m args below meth c s₁ B hml hv
  obtain ⟨rfl, hsz, ⟨hK, hN⟩, hP, hD0⟩ := hv
  have hx := B.exec
  have hb := B.bytes
  have hr := B.returns
  have hts := atoms_spec (ws := v_f_X5_moveSite) B.pre
  have hown : s.vm.findClass RX5 = some m.cls := own_of hd_X5_moveSite.1 (findClass_of_methodNamed B.named)
  have hlocks : meth.locks = false := B.notSynchronized
  subst hsz
  have hD := hD0.self (sz := s.heap.size)
  generalize hAe : va_A (w_X5_moveSite E a_ a_row a_partners a_share a_leftOver c_askedCount c_outcome c_row c_partners c_share c_leftOver) s.heap.size = A at hD ⊢
  have hA : ∀ q : Nat, s.heap.size ≤ q → A q := fun q h => by rw [← hAe]; exact Or.inr h
  have hS : va_S A s.heap s.heap [] := va_S.rf
  have hl := lv_entry ([.ref a_, .int p1, .int p2, .int p3]) (n := 7) (Nat.le_of_ble_eq_true rfl)
  rw [lg_entry_eq]
  generalize (lg_sl ([.ref a_, .int p1, .int p2, .int p3]) ++ List.replicate (7 - (lg_sl ([.ref a_, .int p1, .int p2, .int p3])).length) Slot.unset).toArray = ls at hl ⊢
  have hl : lv_has ls 7 [(0, .ref a_), (1, .int p1), (2, .int p2), (3, .int p3)] := hl
  obtain ⟨Q, hQ⟩ : ∃ Q : State → Prop, Q = MQ below (va_Qi (fun (q : Int32) (_u : Unit) => q = rr) (fun (_u : Unit) tt => va_P E.1 vwCl (w_X5_moveSite E a_ a_row a_partners a_share a_leftOver n_askedCount n_outcome n_row n_partners n_share n_leftOver) tt.heap ∧ va_D A (w_X5_moveSite E a_ a_row a_partners a_share a_leftOver n_askedCount n_outcome n_row n_partners n_share n_leftOver)) A) #[Value.ref a_, Value.int p1, Value.int p2, Value.int p3] s 0 0 A := ⟨_, rfl⟩
  rw [← hQ]
  change W p l e ({ frames := 3, cells := 0, slots := 0, locals := 73 } : Room) s m #[Value.ref a_, Value.int p1, Value.int p2, Value.int p3] below meth c s.heap [] 0 0 Q (F0 m 0 ls [])
  suffices hh9 : ∀ (H : Heap) (locs : List Loc), va_P E.1 vwCl (w_X5_moveSite E a_ a_row a_partners a_share a_leftOver c_askedCount c_outcome c_row c_partners c_share c_leftOver) H → va_D A (w_X5_moveSite E a_ a_row a_partners a_share a_leftOver c_askedCount c_outcome c_row c_partners c_share c_leftOver) → va_S A s.heap H locs → W p l e ({ frames := 3, cells := 0, slots := 0, locals := 73 } : Room) s m #[Value.ref a_, Value.int p1, Value.int p2, Value.int p3] below meth c H locs 0 0 Q (F0 m 0 ls []) from hh9 s.heap [] hP hD hS
  clear hP hD hS
  intro H locs hP hD hS
  have h9 := fixPD (ws' := [k_X5 a_ a_row a_partners c_askedCount c_outcome a_share a_leftOver, k_I E a_row 81 c_row, k_I E a_partners 8 c_partners, k_I E a_share 2 c_share, k_I E a_leftOver 2 c_leftOver]) hP hD rfl
  clear hP hD
  obtain ⟨hP, hD⟩ := h9
  unfold F_X5_moveSite at hF
  refine lv_aload_n hx hb (dq_42 0 bcX5_moveSite_0 (j := 0) rfl rfl) rfl (lv_at hl 0 rfl) ?_
  refine lv_iconst (v := 0) hx hb (dq_3 0 bcX5_moveSite_0 (j := 1) rfl rfl) (by decide) ?_
  refine pt_X5_2 (v := .int (0 : Int32)) hx hb hts i_f_X5_moveSite_X5 hown hK hP hD hS 0 rfl (hts (.fieldLink RX5 18 "HushWatch$State" "askedCount" "I") (List.mem_of_getElem? (i := 1) rfl)) rfl rfl (Nat.le_of_ble_eq_true rfl) (dq_181 0 bcX5_moveSite_0 (j := 2) (i := 18) rfl rfl rfl) (fun H locs hP hD hS => ?_)
  have h9 := fixPD (ws' := [k_X5 a_ a_row a_partners (0 : Int32) c_outcome a_share a_leftOver, k_I E a_row 81 c_row, k_I E a_partners 8 c_partners, k_I E a_share 2 c_share, k_I E a_leftOver 2 c_leftOver]) hP hD rfl
  clear hP hD
  obtain ⟨hP, hD⟩ := h9
  refine lv_aload_n hx hb (dq_42 0 bcX5_moveSite_0 (j := 5) rfl rfl) rfl (lv_at hl 0 rfl) ?_
  refine lv_iconst (v := 0) hx hb (dq_3 0 bcX5_moveSite_0 (j := 6) rfl rfl) (by decide) ?_
  refine pt_X5_3 (v := .int (0 : Int32)) hx hb hts i_f_X5_moveSite_X5 hown hK hP hD hS 0 rfl (hts (.fieldLink RX5 22 "HushWatch$State" "outcome" "I") (List.mem_of_getElem? (i := 2) rfl)) rfl rfl (Nat.le_of_ble_eq_true rfl) (dq_181 0 bcX5_moveSite_0 (j := 7) (i := 22) rfl rfl rfl) (fun H locs hP hD hS => ?_)
  have h9 := fixPD (ws' := [k_X5 a_ a_row a_partners (0 : Int32) (0 : Int32) a_share a_leftOver, k_I E a_row 81 c_row, k_I E a_partners 8 c_partners, k_I E a_share 2 c_share, k_I E a_leftOver 2 c_leftOver]) hP hD rfl
  clear hP hD
  obtain ⟨hP, hD⟩ := h9
  refine lv_aload_n hx hb (dq_42 0 bcX5_moveSite_0 (j := 10) rfl rfl) rfl (lv_at hl 0 rfl) ?_
  refine lv_iload_n hx hb (dq_27 0 bcX5_moveSite_0 (j := 11) rfl rfl) rfl (lv_at hl 1 rfl) ?_
  refine lv_iload_n hx hb (dq_28 0 bcX5_moveSite_0 (j := 12) rfl rfl) rfl (lv_at hl 2 rfl) ?_
  refine lv_iload_n hx hb (dq_29 0 bcX5_moveSite_0 (j := 13) rfl rfl) rfl (lv_at hl 3 rfl) ?_
  replace hF := bd1_s hF
  obtain ⟨w_1, hc_2, hF⟩ := hF
  obtain ⟨hPc, hDc, hFc⟩ := wcut (wc := (w_X5_shift E a_ a_row a_partners a_share a_leftOver (0 : Int32) (0 : Int32) c_row)) hP hD hS hA [0, 1] (by decide) rfl
  have hrc := va_recv hK hPc (ci := 6) (q0 := 0) rfl rfl
  refine cE_v (wc := (w_X5_shift E a_ a_row a_partners a_share a_leftOver (0 : Int32) (0 : Int32) c_row)) (wr := [k_I E a_partners 8 c_partners, k_I E a_share 2 c_share, k_I E a_leftOver 2 c_leftOver]) (w1 := (w_X5_shift E a_ a_row a_partners a_share a_leftOver (0 : Int32) (0 : Int32) w_1)) (va_runV (As := [.int p1, .int p2, .int p3]) (rest := [])  ⟨hx, hb, hml, hown, hts⟩ (f_X5_shift l E H.size (a_ := a_) (a_row := a_row) (a_partners := a_partners) (a_share := a_share) (a_leftOver := a_leftOver) (p1 := p1) (p2 := p2) (p3 := p3) (c_askedCount := (0 : Int32)) (c_outcome := (0 : Int32)) (c_row := c_row) hc_2) (cwV 3 hts g_f_X5_moveSite_f_X5_shift_150 rfl rfl rfl hd_X5_shift ⟨Nat.le_of_ble_eq_true rfl, Nat.le_of_ble_eq_true rfl⟩) ⟨pW.blind, hrc, (pW.pre ⟨hK, hN⟩ hPc hDc)⟩ rfl rfl hl.1 rfl (lv_room (Nat.le_of_ble_eq_true rfl)) (dq_182 0 bcX5_moveSite_0 (j := 14) (i := 150) rfl rfl rfl) ⟨Nat.le_of_ble_eq_true rfl, Nat.le_of_ble_eq_true rfl⟩) hS hFc hP hD [0, 1] [2, 3, 4] rfl rfl (by decide) (by decide) (fun H locs hP hD hS => ?_)
  have h9 := fixPD (ws' := [k_I E a_partners 8 c_partners, k_I E a_share 2 c_share, k_I E a_leftOver 2 c_leftOver, k_X5 a_ a_row a_partners (0 : Int32) (0 : Int32) a_share a_leftOver, k_I E a_row 81 w_1]) hP hD rfl
  clear hP hD
  obtain ⟨hP, hD⟩ := h9
  refine lv_aload_n hx hb (dq_42 0 bcX5_moveSite_0 (j := 17) rfl rfl) rfl (lv_at hl 0 rfl) ?_
  refine lv_iload_n hx hb (dq_27 0 bcX5_moveSite_0 (j := 18) rfl rfl) rfl (lv_at hl 1 rfl) ?_
  replace hF := bd1_s hF
  obtain ⟨r_3, hc_4, hF⟩ := hF
  have hPc : va_P E.1 vwCl (w_X5_isQuiet E a_ a_row a_partners a_share a_leftOver (0 : Int32) (0 : Int32) w_1) H := hP.sub (ws' := [k_X5 a_ a_row a_partners (0 : Int32) (0 : Int32) a_share a_leftOver, k_I E a_row 81 w_1]) [3, 4] rfl
  have hrc := va_recv hK hPc (ci := 6) (q0 := 0) rfl rfl
  refine pE_z (va_runV (As := [.int p1]) (rest := [])  ⟨hx, hb, hml, hown, hts⟩ (f_X5_isQuiet l E (a_ := a_) (a_row := a_row) (a_partners := a_partners) (a_share := a_share) (a_leftOver := a_leftOver) (p1 := p1) (c_askedCount := (0 : Int32)) (c_outcome := (0 : Int32)) (c_row := w_1) hc_4) (cwV 1 hts g_f_X5_moveSite_f_X5_isQuiet_99 rfl rfl rfl hd_X5_isQuiet ⟨Nat.le_of_ble_eq_true rfl, Nat.le_of_ble_eq_true rfl⟩) ⟨pP.blind, hrc, (pP.pre ⟨hK, hN⟩ hPc)⟩ rfl rfl hl.1 rfl (lv_room (Nat.le_of_ble_eq_true rfl)) (dq_182 0 bcX5_moveSite_0 (j := 19) (i := 99) rfl rfl rfl) ⟨Nat.le_of_ble_eq_true rfl, Nat.le_of_ble_eq_true rfl⟩) (fun hb_5 => ?_)
  refine lv_if_eq (tgt := 27) hx hb (dq_153 0 bcX5_moveSite_0 (j := 22) (i := 5) rfl rfl rfl) (by decide) (fun c_6 => ?_) (fun c_6 => ?_)
  ·
    replace hF := ip c_6 hF
    refine lv_aload_n hx hb (dq_42 0 bcX5_moveSite_0 (j := 27) rfl rfl) rfl (lv_at hl 0 rfl) ?_
    refine gt_X5_0 (v := .ref a_row) hx hb hts i_f_X5_moveSite_X5 hown hK hP 3 rfl (hts (.fieldLink RX5 11 "HushWatch$State" "row" "[I") (List.mem_of_getElem? (i := 3) rfl)) rfl (dq_180 0 bcX5_moveSite_0 (j := 28) (i := 11) rfl rfl rfl) ?_
    refine lv_bipush (v := 12) hx hb (dq_16 0 bcX5_moveSite_0 (j := 31) (i := 12) rfl rfl rfl) (by decide) ?_
    refine lv_dup2_11 hx hb (dq_92 0 bcX5_moveSite_0 (j := 33) rfl rfl) rfl rfl ?_
    refine va_iald hx hb hK hP 4 0 rfl rfl (vin rfl) (dq_46 0 bcX5_moveSite_0 (j := 34) rfl rfl) ?_
    refine W.eq (g2 := F0 m 35 ls [.int (w_1 12), .int (12 : Int32), .ref a_row]) rfl ?_
    refine lv_iconst (v := 1) hx hb (dq_4 0 bcX5_moveSite_0 (j := 35) rfl rfl) (by decide) ?_
    refine lv_iadd hx hb (dq_96 0 bcX5_moveSite_0 (j := 36) rfl rfl) ?_
    refine va_iast hx hb hK hP hD hS 4 0 rfl rfl (vin rfl) (dq_79 0 bcX5_moveSite_0 (j := 37) rfl rfl) (fun H locs hP hD hS => ?_)
    have h9 := fixPD (ws' := [k_I E a_partners 8 c_partners, k_I E a_share 2 c_share, k_I E a_leftOver 2 c_leftOver, k_X5 a_ a_row a_partners (0 : Int32) (0 : Int32) a_share a_leftOver, k_I E a_row 81 (upd w_1 12 ((w_1 12) + (1 : Int32)))]) hP hD rfl
    clear hP hD
    obtain ⟨hP, hD⟩ := h9
    replace hF := nm_s hF
    obtain ⟨f_7, hf_7, hF⟩ := hF
    rw [← hf_7] at hP hD
    refine lv_iconst (v := 1) hx hb (dq_4 0 bcX5_moveSite_0 (j := 38) rfl rfl) (by decide) ?_
    refine lv_iload_n hx hb (dq_27 0 bcX5_moveSite_0 (j := 39) rfl rfl) rfl (lv_at hl 1 rfl) ?_
    refine lv_ishl hx hb (dq_120 0 bcX5_moveSite_0 (j := 40) rfl rfl) ?_
    refine lv_istore (lv' := [(4, .int ((1 : Int32) <<< (p1 &&& (31 : Int32)))), (0, .ref a_), (1, .int p1), (2, .int p2), (3, .int p3)]) hx hb (dq_54 0 bcX5_moveSite_0 (j := 41) (i := 4) rfl rfl) hl (by decide) rfl (fun ls hl => ?_)
    refine lv_iconst (v := 1) hx hb (dq_4 0 bcX5_moveSite_0 (j := 43) rfl rfl) (by decide) ?_
    refine lv_istore (lv' := [(5, .int (1 : Int32)), (4, .int ((1 : Int32) <<< (p1 &&& (31 : Int32)))), (0, .ref a_), (1, .int p1), (2, .int p2), (3, .int p3)]) hx hb (dq_54 0 bcX5_moveSite_0 (j := 44) (i := 5) rfl rfl) hl (by decide) rfl (fun ls hl => ?_)
    replace hF := bd6_s hF
    obtain ⟨t_28, x4_29, c_partners_30, c_askedCount_31, c_share_32, c_leftOver_33, hL_34, hF⟩ := hF
    refine lw_X5_moveSite_46 l E K (p1 := p1) (p2 := p2) (p3 := p3) (c_row := f_7) (c_outcome := (0 : Int32)) hx hb hml hown hts hK hN hA K ((1 : Int32) <<< (p1 &&& (31 : Int32))) (1 : Int32) c_partners (0 : Int32) c_share c_leftOver t_28 x4_29 c_partners_30 c_askedCount_31 c_share_32 c_leftOver_33 hL_34 ⟨?_, ?_⟩ H locs ls (hP.sub [3, 4, 0, 1, 2] rfl) (hD.sub [3, 4, 0, 1, 2] (by decide) rfl) hS (lv_sub hl [2, 3, 1, 0] rfl)
    ·
      intro t9
      replace hF := ip t9 hF
      intro H locs ls hP hD hS hl
      have h9 := fixPD (ws' := [k_X5 a_ a_row a_partners c_askedCount_31 (0 : Int32) a_share a_leftOver, k_I E a_row 81 f_7, k_I E a_partners 8 c_partners_30, k_I E a_share 2 c_share_32, k_I E a_leftOver 2 c_leftOver_33]) hP hD rfl
      clear hP hD
      obtain ⟨hP, hD⟩ := h9
      refine lv_aload_n hx hb (dq_42 96 bcX5_moveSite_2 (j := 44) rfl rfl) rfl (lv_at hl 0 rfl) ?_
      refine lv_iload hx hb (dq_21 96 bcX5_moveSite_2 (j := 45) (i := 4) rfl rfl) (lv_at hl 1 rfl) ?_
      replace hF := bd3_s hF
      obtain ⟨r_35, w_36, w_37, hc_38, hF⟩ := hF
      obtain ⟨hPc, hDc, hFc⟩ := wcut (wc := (w_X5_balance E a_ a_row a_partners a_share a_leftOver c_askedCount_31 (0 : Int32) f_7 c_share_32 c_leftOver_33)) hP hD hS hA [0, 1, 3, 4] (by decide) rfl
      have hrc := va_recv hK hPc (ci := 6) (q0 := 0) rfl rfl
      refine cE_i (wc := (w_X5_balance E a_ a_row a_partners a_share a_leftOver c_askedCount_31 (0 : Int32) f_7 c_share_32 c_leftOver_33)) (wr := [k_I E a_partners 8 c_partners_30]) (w1 := (w_X5_balance E a_ a_row a_partners a_share a_leftOver c_askedCount_31 w_37 w_36 c_share_32 c_leftOver_33)) (va_runV (As := [.int x4_29]) (rest := [])  ⟨hx, hb, hml, hown, hts⟩ (f_X5_balance l E H.size K (a_ := a_) (a_row := a_row) (a_partners := a_partners) (a_share := a_share) (a_leftOver := a_leftOver) (p1 := x4_29) (c_askedCount := c_askedCount_31) (c_outcome := (0 : Int32)) (c_row := f_7) (c_share := c_share_32) (c_leftOver := c_leftOver_33) hc_38) (cwV 1 hts g_f_X5_moveSite_f_X5_balance_159 rfl rfl rfl hd_X5_balance ⟨Nat.le_of_ble_eq_true rfl, Nat.le_of_ble_eq_true rfl⟩) ⟨pW.blind, hrc, (pW.pre ⟨hK, hN⟩ hPc hDc)⟩ rfl rfl hl.1 rfl (lv_room (Nat.le_of_ble_eq_true rfl)) (dq_182 96 bcX5_moveSite_2 (j := 47) (i := 159) rfl rfl rfl) ⟨Nat.le_of_ble_eq_true rfl, Nat.le_of_ble_eq_true rfl⟩) hS hFc hP hD [0, 1, 3, 4] [2] rfl rfl (by decide) (by decide) (fun H locs hP hD hS => ?_)
      have h9 := fixPD (ws' := [k_I E a_partners 8 c_partners_30, k_X5 a_ a_row a_partners c_askedCount_31 w_37 a_share a_leftOver, k_I E a_row 81 w_36, k_I E a_share 2 c_share_32, k_I E a_leftOver 2 c_leftOver_33]) hP hD rfl
      clear hP hD
      obtain ⟨hP, hD⟩ := h9
      rw [hQ]
      have h9 := fin9 (P := fun u9 : Int32 × (Nat → Int32) × (Nat → Int32) × Int32 × Int32 × (Nat → Int32) × (Nat → Int32) => r_35 = u9.1 ∧ va_P E.1 vwCl (w_X5_moveSite E a_ a_row a_partners a_share a_leftOver u9.2.2.2.1 u9.2.2.2.2.1 u9.2.1 u9.2.2.1 u9.2.2.2.2.2.1 u9.2.2.2.2.2.2) H ∧ va_D A (w_X5_moveSite E a_ a_row a_partners a_share a_leftOver u9.2.2.2.1 u9.2.2.2.2.1 u9.2.1 u9.2.2.1 u9.2.2.2.2.2.1 u9.2.2.2.2.2.2)) hF ⟨rfl, hP.sub [1, 2, 0, 3, 4] rfl, hD.sub [1, 2, 0, 3, 4] (by decide) rfl⟩
      obtain ⟨e9_0, hP9, hD9⟩ := h9
      exact W.iret (v := r_35) hx hb hr (fun tt ht hW => ⟨⟨_, (), rfl, e9_0, ht ▸ hP9, hD9⟩, hS.F ht⟩) hS.2.2 (dq_172 144 bcX5_moveSite_3 (j := 2) rfl rfl)
    ·
      intro t9
      replace hF := inn (show ¬ t_28 = 0 by omega) hF
      replace hF := ip t9 hF
      intro H locs ls hP hD hS hl
      have h9 := fixPD (ws' := [k_X5 a_ a_row a_partners c_askedCount_31 (0 : Int32) a_share a_leftOver, k_I E a_row 81 f_7, k_I E a_partners 8 c_partners_30, k_I E a_share 2 c_share_32, k_I E a_leftOver 2 c_leftOver_33]) hP hD rfl
      clear hP hD
      obtain ⟨hP, hD⟩ := h9
      exact j_X5_moveSite_153 l E K (p1 := p1) (p2 := p2) (p3 := p3) (c_row := f_7) (c_partners := c_partners_30) (c_askedCount := c_askedCount_31) (c_outcome := (0 : Int32)) (c_share := c_share_32) (c_leftOver := c_leftOver_33) hx hb hml hown hts hK hN hA hr hlocks hQ hF H locs ls (hP.sub [0, 1, 2, 3, 4] rfl) (hD.sub [0, 1, 2, 3, 4] (by decide) rfl) hS (lv_sub hl [0] rfl)
  ·
    replace hF := inn c_6 hF
    refine lv_iconst (v := 0) hx hb (dq_3 0 bcX5_moveSite_0 (j := 25) rfl rfl) (by decide) ?_
    rw [hQ]
    have h9 := fin9 (P := fun u9 : Int32 × (Nat → Int32) × (Nat → Int32) × Int32 × Int32 × (Nat → Int32) × (Nat → Int32) => (0 : Int32) = u9.1 ∧ va_P E.1 vwCl (w_X5_moveSite E a_ a_row a_partners a_share a_leftOver u9.2.2.2.1 u9.2.2.2.2.1 u9.2.1 u9.2.2.1 u9.2.2.2.2.2.1 u9.2.2.2.2.2.2) H ∧ va_D A (w_X5_moveSite E a_ a_row a_partners a_share a_leftOver u9.2.2.2.1 u9.2.2.2.2.1 u9.2.1 u9.2.2.1 u9.2.2.2.2.2.1 u9.2.2.2.2.2.2)) hF ⟨rfl, hP.sub [3, 4, 0, 1, 2] rfl, hD.sub [3, 4, 0, 1, 2] (by decide) rfl⟩
    obtain ⟨e9_0, hP9, hD9⟩ := h9
    exact W.iret (v := (0 : Int32)) hx hb hr (fun tt ht hW => ⟨⟨_, (), rfl, e9_0, ht ▸ hP9, hD9⟩, hS.F ht⟩) hS.2.2 (dq_172 0 bcX5_moveSite_0 (j := 26) rfl rfl)

def F_X5_hearByHand (K : Nat) (c_row : Nat → Int32) : Option (Int32 × (Nat → Int32)) :=
  bd1 (F_X5_hearAll K c_row) (fun w_1 => some ((2 : Int32) * (w_1 3), w_1))
abbrev w_X5_hearByHand (E : EE) (a_ a_row a_partners a_share a_leftOver : Nat) (c_askedCount : Int32) (c_outcome : Int32) (c_row : Nat → Int32) : va_W := [k_X5 a_ a_row a_partners c_askedCount c_outcome a_share a_leftOver, k_I E a_row 81 c_row]
def v_f_X5_hearByHand : List Cond := List.cons (.code yX5_hearByHand cX5_hearByHand 1 (some .int)) (HAppend.hAppend (α := List Cond) (β := List Cond) (γ := List Cond) [.fieldLink RX5 11 "HushWatch$State" "row" "[I", .methodLink RX5 162 yX5_hearAll, .instanceMethod yX5_hearAll, .selects RX5 yX5_hearAll yX5_hearAll, .initialized RX5] (HAppend.hAppend (α := List Cond) (β := List Cond) (γ := List Cond) v_f_X5_hearAll (HAppend.hAppend (α := List Cond) (β := List Cond) (γ := List Cond) wsX50 [])))
theorem gw_f_X5_hearByHand : v_f_X5_hearByHand.all goodWord = true := gw_c2 (by decide +kernel) (gw_ap gw_f_X5_hearAll (gw_ap gw_wsX50 gw_nil))
theorem i_f_X5_hearByHand_X5 : ∀ w ∈ wsX50, w ∈ v_f_X5_hearByHand := fun _ h => List.mem_cons_of_mem _ (List.mem_append_right _ (List.mem_append_right _ (List.mem_append_left _ h)))
theorem g_f_X5_hearByHand_f_X5_hearAll_162 : GoodIn v_f_X5_hearByHand (wsV RX5 162 RX5 yX5_hearAll v_f_X5_hearAll) := goodIn_in gw_f_X5_hearByHand (in4 2 3 4 5 rfl rfl rfl rfl (fun _ h => List.mem_cons_of_mem _ (List.mem_append_right _ (List.mem_append_left _ h))))
theorem hd_X5_hearByHand : yX5_hearByHand.cls = RX5 ∧ yX5_hearByHand.cls ≠ "java/lang/invoke/MethodHandle" ∧ yX5_hearByHand.cls ≠ "java/lang/invoke/VarHandle" ∧ (parseMethodDescriptor yX5_hearByHand.desc).map (fun d => d.parameters.length) = some 0 := by decide +kernel
set_option maxHeartbeats 4000000 in
set_option maxRecDepth 100000 in
theorem f_X5_hearByHand (l : Launch) (E : EE) (sz : Nat) (K : Nat) {a_ a_row a_partners a_share a_leftOver : Nat} {c_askedCount : Int32} {c_outcome : Int32} {c_row : Nat → Int32} {rr : Int32} {n_row : Nat → Int32} (hF : F_X5_hearByHand K c_row = some (rr, n_row)) : Met l yX5_hearByHand v_f_X5_hearByHand (({ frames := 3, cells := 0, slots := 0, locals := 73 } : Room)) (va_Pc [.ref a_] (pW E sz (w_X5_hearByHand E a_ a_row a_partners a_share a_leftOver c_askedCount c_outcome c_row))) (va_Qi (fun (q : Int32) (_u : Unit) => q = rr) (fun (_u : Unit) tt => va_P E.1 vwCl (w_X5_hearByHand E a_ a_row a_partners a_share a_leftOver c_askedCount c_outcome n_row) tt.heap ∧ va_D (va_A (w_X5_hearByHand E a_ a_row a_partners a_share a_leftOver c_askedCount c_outcome c_row) sz) (w_X5_hearByHand E a_ a_row a_partners a_share a_leftOver c_askedCount c_outcome n_row)) (va_A (w_X5_hearByHand E a_ a_row a_partners a_share a_leftOver c_askedCount c_outcome c_row) sz)) 0 0 (va_A (w_X5_hearByHand E a_ a_row a_partners a_share a_leftOver c_askedCount c_outcome c_row) sz) := by
  refine Met.ofW (cc := cX5_hearByHand) (maxL := 1) (ret := (some .int)) (by decide) rfl ?_
  intro p e s m args below meth c s₁ B hml hv
  obtain ⟨rfl, hsz, ⟨hK, hN⟩, hP, hD0⟩ := hv
  have hx := B.exec
  have hb := B.bytes
  have hr := B.returns
  have hts := atoms_spec (ws := v_f_X5_hearByHand) B.pre
  have hown : s.vm.findClass RX5 = some m.cls := own_of hd_X5_hearByHand.1 (findClass_of_methodNamed B.named)
  have hlocks : meth.locks = false := B.notSynchronized
  subst hsz
  have hD := hD0.self (sz := s.heap.size)
  generalize hAe : va_A (w_X5_hearByHand E a_ a_row a_partners a_share a_leftOver c_askedCount c_outcome c_row) s.heap.size = A at hD ⊢
  have hA : ∀ q : Nat, s.heap.size ≤ q → A q := fun q h => by rw [← hAe]; exact Or.inr h
  have hS : va_S A s.heap s.heap [] := va_S.rf
  have hl := lv_entry ([.ref a_]) (n := 1) (Nat.le_of_ble_eq_true rfl)
  rw [lg_entry_eq]
  generalize (lg_sl ([.ref a_]) ++ List.replicate (1 - (lg_sl ([.ref a_])).length) Slot.unset).toArray = ls at hl ⊢
  have hl : lv_has ls 1 [(0, .ref a_)] := hl
  obtain ⟨Q, hQ⟩ : ∃ Q : State → Prop, Q = MQ below (va_Qi (fun (q : Int32) (_u : Unit) => q = rr) (fun (_u : Unit) tt => va_P E.1 vwCl (w_X5_hearByHand E a_ a_row a_partners a_share a_leftOver c_askedCount c_outcome n_row) tt.heap ∧ va_D A (w_X5_hearByHand E a_ a_row a_partners a_share a_leftOver c_askedCount c_outcome n_row)) A) #[Value.ref a_] s 0 0 A := ⟨_, rfl⟩
  rw [← hQ]
  change W p l e ({ frames := 3, cells := 0, slots := 0, locals := 73 } : Room) s m #[Value.ref a_] below meth c s.heap [] 0 0 Q (F0 m 0 ls [])
  suffices hh9 : ∀ (H : Heap) (locs : List Loc), va_P E.1 vwCl (w_X5_hearByHand E a_ a_row a_partners a_share a_leftOver c_askedCount c_outcome c_row) H → va_D A (w_X5_hearByHand E a_ a_row a_partners a_share a_leftOver c_askedCount c_outcome c_row) → va_S A s.heap H locs → W p l e ({ frames := 3, cells := 0, slots := 0, locals := 73 } : Room) s m #[Value.ref a_] below meth c H locs 0 0 Q (F0 m 0 ls []) from hh9 s.heap [] hP hD hS
  clear hP hD hS
  intro H locs hP hD hS
  have h9 := fixPD (ws' := [k_X5 a_ a_row a_partners c_askedCount c_outcome a_share a_leftOver, k_I E a_row 81 c_row]) hP hD rfl
  clear hP hD
  obtain ⟨hP, hD⟩ := h9
  unfold F_X5_hearByHand at hF
  refine lv_aload_n hx hb (dq_42 0 bcX5_hearByHand_0 (j := 0) rfl rfl) rfl (lv_at hl 0 rfl) ?_
  replace hF := bd1_s hF
  obtain ⟨w_1, hc_2, hF⟩ := hF
  obtain ⟨hPc, hDc, hFc⟩ := wcut (wc := (w_X5_hearAll E a_ a_row a_partners a_share a_leftOver c_askedCount c_outcome c_row)) hP hD hS hA [0, 1] (by decide) rfl
  have hrc := va_recv hK hPc (ci := 6) (q0 := 0) rfl rfl
  refine cE_v (wc := (w_X5_hearAll E a_ a_row a_partners a_share a_leftOver c_askedCount c_outcome c_row)) (wr := []) (w1 := (w_X5_hearAll E a_ a_row a_partners a_share a_leftOver c_askedCount c_outcome w_1)) (va_runV (As := []) (rest := [])  ⟨hx, hb, hml, hown, hts⟩ (f_X5_hearAll l E H.size K (a_ := a_) (a_row := a_row) (a_partners := a_partners) (a_share := a_share) (a_leftOver := a_leftOver) (c_askedCount := c_askedCount) (c_outcome := c_outcome) (c_row := c_row) hc_2) (cwV 0 hts g_f_X5_hearByHand_f_X5_hearAll_162 rfl rfl rfl hd_X5_hearAll ⟨Nat.le_of_ble_eq_true rfl, Nat.le_of_ble_eq_true rfl⟩) ⟨pW.blind, hrc, (pW.pre ⟨hK, hN⟩ hPc hDc)⟩ rfl rfl hl.1 rfl (lv_room (Nat.le_of_ble_eq_true rfl)) (dq_182 0 bcX5_hearByHand_0 (j := 1) (i := 162) rfl rfl rfl) ⟨Nat.le_of_ble_eq_true rfl, Nat.le_of_ble_eq_true rfl⟩) hS hFc hP hD [0, 1] [] rfl rfl (by decide) (by decide) (fun H locs hP hD hS => ?_)
  have h9 := fixPD (ws' := [k_X5 a_ a_row a_partners c_askedCount c_outcome a_share a_leftOver, k_I E a_row 81 w_1]) hP hD rfl
  clear hP hD
  obtain ⟨hP, hD⟩ := h9
  refine lv_iconst (v := 2) hx hb (dq_5 0 bcX5_hearByHand_0 (j := 4) rfl rfl) (by decide) ?_
  refine lv_aload_n hx hb (dq_42 0 bcX5_hearByHand_0 (j := 5) rfl rfl) rfl (lv_at hl 0 rfl) ?_
  refine gt_X5_0 (v := .ref a_row) hx hb hts i_f_X5_hearByHand_X5 hown hK hP 0 rfl (hts (.fieldLink RX5 11 "HushWatch$State" "row" "[I") (List.mem_of_getElem? (i := 1) rfl)) rfl (dq_180 0 bcX5_hearByHand_0 (j := 6) (i := 11) rfl rfl rfl) ?_
  refine lv_iconst (v := 3) hx hb (dq_6 0 bcX5_hearByHand_0 (j := 9) rfl rfl) (by decide) ?_
  refine va_iald hx hb hK hP 1 0 rfl rfl (vin rfl) (dq_46 0 bcX5_hearByHand_0 (j := 10) rfl rfl) ?_
  refine W.eq (g2 := F0 m 11 ls [.int (w_1 3), .int (2 : Int32)]) rfl ?_
  refine lv_imul hx hb (dq_104 0 bcX5_hearByHand_0 (j := 11) rfl rfl) ?_
  rw [hQ]
  have h9 := fin9 (P := fun u9 : Int32 × (Nat → Int32) => ((2 : Int32) * (w_1 3)) = u9.1 ∧ va_P E.1 vwCl (w_X5_hearByHand E a_ a_row a_partners a_share a_leftOver c_askedCount c_outcome u9.2) H ∧ va_D A (w_X5_hearByHand E a_ a_row a_partners a_share a_leftOver c_askedCount c_outcome u9.2)) hF ⟨rfl, hP, hD⟩
  obtain ⟨e9_0, hP9, hD9⟩ := h9
  exact W.iret (v := (2 : Int32) * (w_1 3)) hx hb hr (fun tt ht hW => ⟨⟨_, (), rfl, e9_0, ht ▸ hP9, hD9⟩, hS.F ht⟩) hS.2.2 (dq_172 0 bcX5_hearByHand_0 (j := 12) rfl rfl)

def B_X5_startCounts_33 (x2 : Int32) (c_row : Nat → Int32) : Option ((Int32 × (Nat → Int32)) ⊕ ((Nat → Int32))) :=
  bd1 (F_X5_sites c_row) (fun r_5 => if r_5 ≤ x2 then some (.inr c_row) else bd1 (F_X5_put x2 (6 : Int32) (0 : Int32) c_row) (fun w_8 => bd1 (F_X5_put x2 (7 : Int32) (0 : Int32) w_8) (fun w_10 => some (.inl (x2 + (1 : Int32), w_10)))))
def F_X5_startCounts (K : Nat) (p1 : Int32) (c_row : Nat → Int32) : Option ((Nat → Int32)) :=
  nmF (upd c_row 2 p1) (fun f_1 => nmF (upd f_1 8 (0 : Int32)) (fun f_2 => nmF (upd f_2 9 (0 : Int32)) (fun f_3 => nmF (upd f_3 10 (0 : Int32)) (fun f_4 => bd1 (lpF (fun u9 : Int32 × (Nat → Int32) => B_X5_startCounts_33  u9.1 u9.2) K ((0 : Int32), f_4)) (fun c_row_12 => some c_row_12)))))
abbrev w_X5_startCounts (E : EE) (a_ a_row a_partners a_share a_leftOver : Nat) (c_askedCount : Int32) (c_outcome : Int32) (c_row : Nat → Int32) : va_W := [k_X5 a_ a_row a_partners c_askedCount c_outcome a_share a_leftOver, k_I E a_row 81 c_row]
def v_f_X5_startCounts : List Cond := List.cons (.code yX5_startCounts cX5_startCounts 3 none) (HAppend.hAppend (α := List Cond) (β := List Cond) (γ := List Cond) [.fieldLink RX5 11 "HushWatch$State" "row" "[I", .methodLink RX5 45 yX5_sites, .instanceMethod yX5_sites, .selects RX5 yX5_sites yX5_sites, .initialized RX5, .methodLink RX5 52 yX5_put, .instanceMethod yX5_put, .selects RX5 yX5_put yX5_put] (HAppend.hAppend (α := List Cond) (β := List Cond) (γ := List Cond) wsX50 (HAppend.hAppend (α := List Cond) (β := List Cond) (γ := List Cond) v_f_X5_sites (HAppend.hAppend (α := List Cond) (β := List Cond) (γ := List Cond) v_f_X5_put []))))
theorem gw_f_X5_startCounts : v_f_X5_startCounts.all goodWord = true := gw_c2 (by decide +kernel) (gw_ap gw_wsX50 (gw_ap gw_f_X5_sites (gw_ap gw_f_X5_put gw_nil)))
theorem i_f_X5_startCounts_X5 : ∀ w ∈ wsX50, w ∈ v_f_X5_startCounts := fun _ h => List.mem_cons_of_mem _ (List.mem_append_right _ (List.mem_append_left _ h))
theorem g_f_X5_startCounts_f_X5_sites_45 : GoodIn v_f_X5_startCounts (wsV RX5 45 RX5 yX5_sites v_f_X5_sites) := goodIn_in gw_f_X5_startCounts (in4 2 3 4 5 rfl rfl rfl rfl (fun _ h => List.mem_cons_of_mem _ (List.mem_append_right _ (List.mem_append_right _ (List.mem_append_left _ h)))))
theorem g_f_X5_startCounts_f_X5_put_52 : GoodIn v_f_X5_startCounts (wsV RX5 52 RX5 yX5_put v_f_X5_put) := goodIn_in gw_f_X5_startCounts (in4 6 7 8 5 rfl rfl rfl rfl (fun _ h => List.mem_cons_of_mem _ (List.mem_append_right _ (List.mem_append_right _ (List.mem_append_right _ (List.mem_append_left _ h))))))
theorem hd_X5_startCounts : yX5_startCounts.cls = RX5 ∧ yX5_startCounts.cls ≠ "java/lang/invoke/MethodHandle" ∧ yX5_startCounts.cls ≠ "java/lang/invoke/VarHandle" ∧ (parseMethodDescriptor yX5_startCounts.desc).map (fun d => d.parameters.length) = some 1 := by decide +kernel
set_option maxHeartbeats 4000000 in
set_option maxRecDepth 100000 in
theorem wb_X5_startCounts_33 {p : Program} (l : Launch) {e : Env} {s : State} {m : MethodId} {below : List Frame} {meth : Method} {c : Code} {Q : State → Prop} (E : EE) (K : Nat) {a_ a_row a_partners a_share a_leftOver : Nat} {p1 : Int32} {c_askedCount : Int32} {c_outcome : Int32} {x2 : Int32} {c_row : Nat → Int32} (hx : p.tables.exec = Jvm.exec) (hb : c.code = cX5_startCounts) (hml : c.maxLocals = 3) (hown : s.vm.findClass RX5 = some m.cls) (hts : ∀ w ∈ v_f_X5_startCounts, w.before #[Value.ref a_, Value.int p1] s = true) (hK : va_K E.1 vwCl (TY E) s) (hN : NX s) {A : Nat → Prop} (hA : ∀ q : Nat, s.heap.size ≤ q → A q) {xx : (Int32 × (Nat → Int32)) ⊕ ((Nat → Int32))} (hC : ∀ (x2 : Int32), ∀ (c_row : Nat → Int32), xx = .inl (x2, c_row) → ∀ (H : Heap) (locs : List Loc) (ls : Array Slot), va_P E.1 vwCl (w_X5_startCounts E a_ a_row a_partners a_share a_leftOver c_askedCount c_outcome c_row) H → va_D A (w_X5_startCounts E a_ a_row a_partners a_share a_leftOver c_askedCount c_outcome c_row) → va_S A s.heap H locs → lv_has ls 3 [(0, .ref a_), (2, .int x2)] → W p l e ({ frames := 1, cells := 0, slots := 0, locals := 23 } : Room) s m #[Value.ref a_, Value.int p1] below meth c H locs 0 0 Q (F0 m 33 ls [])) (hE : ∀ (c_row : Nat → Int32), xx = .inr c_row → ((∀ (H : Heap) (locs : List Loc) (ls : Array Slot), va_P E.1 vwCl (w_X5_startCounts E a_ a_row a_partners a_share a_leftOver c_askedCount c_outcome c_row) H → va_D A (w_X5_startCounts E a_ a_row a_partners a_share a_leftOver c_askedCount c_outcome c_row) → va_S A s.heap H locs → lv_has ls 3 [] → W p l e ({ frames := 1, cells := 0, slots := 0, locals := 23 } : Room) s m #[Value.ref a_, Value.int p1] below meth c H locs 0 0 Q (F0 m 63 ls [])))) (hF : B_X5_startCounts_33  x2 c_row = some xx) : ∀ (H : Heap) (locs : List Loc) (ls : Array Slot), va_P E.1 vwCl (w_X5_startCounts E a_ a_row a_partners a_share a_leftOver c_askedCount c_outcome c_row) H → va_D A (w_X5_startCounts E a_ a_row a_partners a_share a_leftOver c_askedCount c_outcome c_row) → va_S A s.heap H locs → lv_has ls 3 [(0, .ref a_), (2, .int x2)] → W p l e ({ frames := 1, cells := 0, slots := 0, locals := 23 } : Room) s m #[Value.ref a_, Value.int p1] below meth c H locs 0 0 Q (F0 m 33 ls []) := by
  unfold B_X5_startCounts_33 at hF
  intro H locs ls hP hD hS hl
  have h9 := fixPD (ws' := [k_X5 a_ a_row a_partners c_askedCount c_outcome a_share a_leftOver, k_I E a_row 81 c_row]) hP hD rfl
  clear hP hD
  obtain ⟨hP, hD⟩ := h9
  refine lv_iload_n hx hb (dq_28 0 bcX5_startCounts_0 (j := 33) rfl rfl) rfl (lv_at hl 1 rfl) ?_
  refine lv_aload_n hx hb (dq_42 0 bcX5_startCounts_0 (j := 34) rfl rfl) rfl (lv_at hl 0 rfl) ?_
  replace hF := bd1_s hF
  obtain ⟨r_5, hc_6, hF⟩ := hF
  have hPc : va_P E.1 vwCl (w_X5_sites E a_ a_row a_partners a_share a_leftOver c_askedCount c_outcome c_row) H := hP.sub (ws' := [k_X5 a_ a_row a_partners c_askedCount c_outcome a_share a_leftOver, k_I E a_row 81 c_row]) [0, 1] rfl
  have hrc := va_recv hK hPc (ci := 6) (q0 := 0) rfl rfl
  refine pE_i (va_runV (As := []) (rest := [.int x2])  ⟨hx, hb, hml, hown, hts⟩ (f_X5_sites l E (a_ := a_) (a_row := a_row) (a_partners := a_partners) (a_share := a_share) (a_leftOver := a_leftOver) (c_askedCount := c_askedCount) (c_outcome := c_outcome) (c_row := c_row) hc_6) (cwV 0 hts g_f_X5_startCounts_f_X5_sites_45 rfl rfl rfl hd_X5_sites ⟨Nat.le_of_ble_eq_true rfl, Nat.le_of_ble_eq_true rfl⟩) ⟨pP.blind, hrc, (pP.pre ⟨hK, hN⟩ hPc)⟩ rfl rfl hl.1 rfl (lv_room (Nat.le_of_ble_eq_true rfl)) (dq_182 0 bcX5_startCounts_0 (j := 35) (i := 45) rfl rfl rfl) ⟨Nat.le_of_ble_eq_true rfl, Nat.le_of_ble_eq_true rfl⟩) ?_
  refine lv_icmp_ge (tgt := 63) hx hb (dq_162 0 bcX5_startCounts_0 (j := 38) (i := 25) rfl rfl rfl) (by decide) (fun c_7 => ?_) (fun c_7 => ?_)
  ·
    replace hF := ip c_7 hF
    cases hF
    exact hE c_row rfl H locs ls (hP.sub [0, 1] rfl) (hD.sub [0, 1] (by decide) rfl) hS (lv_sub hl [] rfl)
  ·
    replace hF := inn c_7 hF
    refine lv_aload_n hx hb (dq_42 0 bcX5_startCounts_0 (j := 41) rfl rfl) rfl (lv_at hl 0 rfl) ?_
    refine lv_iload_n hx hb (dq_28 0 bcX5_startCounts_0 (j := 42) rfl rfl) rfl (lv_at hl 1 rfl) ?_
    refine lv_bipush (v := 6) hx hb (dq_16 0 bcX5_startCounts_0 (j := 43) (i := 6) rfl rfl rfl) (by decide) ?_
    refine lv_iconst (v := 0) hx hb (dq_3 0 bcX5_startCounts_0 (j := 45) rfl rfl) (by decide) ?_
    replace hF := bd1_s hF
    obtain ⟨w_8, hc_9, hF⟩ := hF
    obtain ⟨hPc, hDc, hFc⟩ := wcut (wc := (w_X5_put E a_ a_row a_partners a_share a_leftOver c_askedCount c_outcome c_row)) hP hD hS hA [0, 1] (by decide) rfl
    have hrc := va_recv hK hPc (ci := 6) (q0 := 0) rfl rfl
    refine cE_v (wc := (w_X5_put E a_ a_row a_partners a_share a_leftOver c_askedCount c_outcome c_row)) (wr := []) (w1 := (w_X5_put E a_ a_row a_partners a_share a_leftOver c_askedCount c_outcome w_8)) (va_runV (As := [.int x2, .int (6 : Int32), .int (0 : Int32)]) (rest := [])  ⟨hx, hb, hml, hown, hts⟩ (f_X5_put l E H.size (a_ := a_) (a_row := a_row) (a_partners := a_partners) (a_share := a_share) (a_leftOver := a_leftOver) (p1 := x2) (p2 := (6 : Int32)) (p3 := (0 : Int32)) (c_askedCount := c_askedCount) (c_outcome := c_outcome) (c_row := c_row) hc_9) (cwV 3 hts g_f_X5_startCounts_f_X5_put_52 rfl rfl rfl hd_X5_put ⟨Nat.le_of_ble_eq_true rfl, Nat.le_of_ble_eq_true rfl⟩) ⟨pW.blind, hrc, (pW.pre ⟨hK, hN⟩ hPc hDc)⟩ rfl rfl hl.1 rfl (lv_room (Nat.le_of_ble_eq_true rfl)) (dq_182 0 bcX5_startCounts_0 (j := 46) (i := 52) rfl rfl rfl) ⟨Nat.le_of_ble_eq_true rfl, Nat.le_of_ble_eq_true rfl⟩) hS hFc hP hD [0, 1] [] rfl rfl (by decide) (by decide) (fun H locs hP hD hS => ?_)
    have h9 := fixPD (ws' := [k_X5 a_ a_row a_partners c_askedCount c_outcome a_share a_leftOver, k_I E a_row 81 w_8]) hP hD rfl
    clear hP hD
    obtain ⟨hP, hD⟩ := h9
    refine lv_aload_n hx hb (dq_42 48 bcX5_startCounts_1 (j := 1) rfl rfl) rfl (lv_at hl 0 rfl) ?_
    refine lv_iload_n hx hb (dq_28 48 bcX5_startCounts_1 (j := 2) rfl rfl) rfl (lv_at hl 1 rfl) ?_
    refine lv_bipush (v := 7) hx hb (dq_16 48 bcX5_startCounts_1 (j := 3) (i := 7) rfl rfl rfl) (by decide) ?_
    refine lv_iconst (v := 0) hx hb (dq_3 48 bcX5_startCounts_1 (j := 5) rfl rfl) (by decide) ?_
    replace hF := bd1_s hF
    obtain ⟨w_10, hc_11, hF⟩ := hF
    obtain ⟨hPc, hDc, hFc⟩ := wcut (wc := (w_X5_put E a_ a_row a_partners a_share a_leftOver c_askedCount c_outcome w_8)) hP hD hS hA [0, 1] (by decide) rfl
    have hrc := va_recv hK hPc (ci := 6) (q0 := 0) rfl rfl
    refine cE_v (wc := (w_X5_put E a_ a_row a_partners a_share a_leftOver c_askedCount c_outcome w_8)) (wr := []) (w1 := (w_X5_put E a_ a_row a_partners a_share a_leftOver c_askedCount c_outcome w_10)) (va_runV (As := [.int x2, .int (7 : Int32), .int (0 : Int32)]) (rest := [])  ⟨hx, hb, hml, hown, hts⟩ (f_X5_put l E H.size (a_ := a_) (a_row := a_row) (a_partners := a_partners) (a_share := a_share) (a_leftOver := a_leftOver) (p1 := x2) (p2 := (7 : Int32)) (p3 := (0 : Int32)) (c_askedCount := c_askedCount) (c_outcome := c_outcome) (c_row := w_8) hc_11) (cwV 3 hts g_f_X5_startCounts_f_X5_put_52 rfl rfl rfl hd_X5_put ⟨Nat.le_of_ble_eq_true rfl, Nat.le_of_ble_eq_true rfl⟩) ⟨pW.blind, hrc, (pW.pre ⟨hK, hN⟩ hPc hDc)⟩ rfl rfl hl.1 rfl (lv_room (Nat.le_of_ble_eq_true rfl)) (dq_182 48 bcX5_startCounts_1 (j := 6) (i := 52) rfl rfl rfl) ⟨Nat.le_of_ble_eq_true rfl, Nat.le_of_ble_eq_true rfl⟩) hS hFc hP hD [0, 1] [] rfl rfl (by decide) (by decide) (fun H locs hP hD hS => ?_)
    have h9 := fixPD (ws' := [k_X5 a_ a_row a_partners c_askedCount c_outcome a_share a_leftOver, k_I E a_row 81 w_10]) hP hD rfl
    clear hP hD
    obtain ⟨hP, hD⟩ := h9
    refine lv_iinc (v := x2 + (1 : Int32)) (lv' := [(2, .int (x2 + (1 : Int32))), (0, .ref a_)]) hx hb (dq_132 48 bcX5_startCounts_1 (j := 9) (i := 1) rfl rfl rfl) hl (k := 1) rfl (rfl) (by decide) rfl (fun ls hl => ?_)
    refine lv_goto (tgt := 33) hx hb (dq_167 48 bcX5_startCounts_1 (j := 12) (i := -27) rfl rfl rfl) (by decide) ?_
    cases hF
    exact hC (x2 + (1 : Int32)) w_10 rfl H locs ls (hP.sub [0, 1] rfl) (hD.sub [0, 1] (by decide) rfl) hS (lv_sub hl [1, 0] rfl)

set_option maxHeartbeats 4000000 in
set_option maxRecDepth 100000 in
theorem lw_X5_startCounts_33 {p : Program} (l : Launch) {e : Env} {s : State} {m : MethodId} {below : List Frame} {meth : Method} {c : Code} {Q : State → Prop} (E : EE) (K : Nat) {a_ a_row a_partners a_share a_leftOver : Nat} {p1 : Int32} {c_askedCount : Int32} {c_outcome : Int32} (hx : p.tables.exec = Jvm.exec) (hb : c.code = cX5_startCounts) (hml : c.maxLocals = 3) (hown : s.vm.findClass RX5 = some m.cls) (hts : ∀ w ∈ v_f_X5_startCounts, w.before #[Value.ref a_, Value.int p1] s = true) (hK : va_K E.1 vwCl (TY E) s) (hN : NX s) {A : Nat → Prop} (hA : ∀ q : Nat, s.heap.size ≤ q → A q) (j9 : Nat) (x2 : Int32) (c_row : Nat → Int32) (c_row' : Nat → Int32) (hL : lpF (fun u9 : Int32 × (Nat → Int32) => B_X5_startCounts_33  u9.1 u9.2) j9 (x2, c_row) = some c_row') (hX : (∀ (H : Heap) (locs : List Loc) (ls : Array Slot), va_P E.1 vwCl (w_X5_startCounts E a_ a_row a_partners a_share a_leftOver c_askedCount c_outcome c_row') H → va_D A (w_X5_startCounts E a_ a_row a_partners a_share a_leftOver c_askedCount c_outcome c_row') → va_S A s.heap H locs → lv_has ls 3 [] → W p l e ({ frames := 1, cells := 0, slots := 0, locals := 23 } : Room) s m #[Value.ref a_, Value.int p1] below meth c H locs 0 0 Q (F0 m 63 ls []))) : ∀ (H : Heap) (locs : List Loc) (ls : Array Slot), va_P E.1 vwCl (w_X5_startCounts E a_ a_row a_partners a_share a_leftOver c_askedCount c_outcome c_row) H → va_D A (w_X5_startCounts E a_ a_row a_partners a_share a_leftOver c_askedCount c_outcome c_row) → va_S A s.heap H locs → lv_has ls 3 [(0, .ref a_), (2, .int x2)] → W p l e ({ frames := 1, cells := 0, slots := 0, locals := 23 } : Room) s m #[Value.ref a_, Value.int p1] below meth c H locs 0 0 Q (F0 m 33 ls []) := by
  exact lp_rule (P := (fun u9 : Int32 × (Nat → Int32) => ∀ (H : Heap) (locs : List Loc) (ls : Array Slot), va_P E.1 vwCl (w_X5_startCounts E a_ a_row a_partners a_share a_leftOver c_askedCount c_outcome u9.2) H → va_D A (w_X5_startCounts E a_ a_row a_partners a_share a_leftOver c_askedCount c_outcome u9.2) → va_S A s.heap H locs → lv_has ls 3 [(0, .ref a_), (2, .int u9.1)] → W p l e ({ frames := 1, cells := 0, slots := 0, locals := 23 } : Room) s m #[Value.ref a_, Value.int p1] below meth c H locs 0 0 Q (F0 m 33 ls []))) (R := (fun r9 : (Nat → Int32) => (∀ (H : Heap) (locs : List Loc) (ls : Array Slot), va_P E.1 vwCl (w_X5_startCounts E a_ a_row a_partners a_share a_leftOver c_askedCount c_outcome r9) H → va_D A (w_X5_startCounts E a_ a_row a_partners a_share a_leftOver c_askedCount c_outcome r9) → va_S A s.heap H locs → lv_has ls 3 [] → W p l e ({ frames := 1, cells := 0, slots := 0, locals := 23 } : Room) s m #[Value.ref a_, Value.int p1] below meth c H locs 0 0 Q (F0 m 63 ls [])))) (fun u9 xx hF hC hE => wb_X5_startCounts_33 l E K (p1 := p1) (c_askedCount := c_askedCount) (c_outcome := c_outcome) (x2 := u9.1) (c_row := u9.2) hx hb hml hown hts hK hN hA (fun x2 c_row q9 => hC _ q9) (fun c_row q9 => hE _ q9) hF) j9 (x2, c_row) c_row' hL hX

set_option maxHeartbeats 4000000 in
set_option maxRecDepth 100000 in
theorem f_X5_startCounts (l : Launch) (E : EE) (sz : Nat) (K : Nat) {a_ a_row a_partners a_share a_leftOver : Nat} {p1 : Int32} {c_askedCount : Int32} {c_outcome : Int32} {c_row : Nat → Int32} {n_row : Nat → Int32} (hF : F_X5_startCounts K p1 c_row = some n_row) : Met l yX5_startCounts v_f_X5_startCounts (({ frames := 1, cells := 0, slots := 0, locals := 23 } : Room)) (va_Pc [.ref a_, .int p1] (pW E sz (w_X5_startCounts E a_ a_row a_partners a_share a_leftOver c_askedCount c_outcome c_row))) (va_Qv (fun (_u : Unit) => True) (fun (_u : Unit) tt => va_P E.1 vwCl (w_X5_startCounts E a_ a_row a_partners a_share a_leftOver c_askedCount c_outcome n_row) tt.heap ∧ va_D (va_A (w_X5_startCounts E a_ a_row a_partners a_share a_leftOver c_askedCount c_outcome c_row) sz) (w_X5_startCounts E a_ a_row a_partners a_share a_leftOver c_askedCount c_outcome n_row)) (va_A (w_X5_startCounts E a_ a_row a_partners a_share a_leftOver c_askedCount c_outcome c_row) sz)) 0 0 (va_A (w_X5_startCounts E a_ a_row a_partners a_share a_leftOver c_askedCount c_outcome c_row) sz) := by
  refine Met.ofW (cc := cX5_startCounts) (maxL := 3) (ret := none) (by decide) rfl ?_
  intro p e s m args below meth c s₁ B hml hv
  obtain ⟨rfl, hsz, ⟨hK, hN⟩, hP, hD0⟩ := hv
  have hx := B.exec
  have hb := B.bytes
  have hr := B.returns
  have hts := atoms_spec (ws := v_f_X5_startCounts) B.pre
  have hown : s.vm.findClass RX5 = some m.cls := own_of hd_X5_startCounts.1 (findClass_of_methodNamed B.named)
  have hlocks : meth.locks = false := B.notSynchronized
  subst hsz
  have hD := hD0.self (sz := s.heap.size)
  generalize hAe : va_A (w_X5_startCounts E a_ a_row a_partners a_share a_leftOver c_askedCount c_outcome c_row) s.heap.size = A at hD ⊢
  have hA : ∀ q : Nat, s.heap.size ≤ q → A q := fun q h => by rw [← hAe]; exact Or.inr h
  have hS : va_S A s.heap s.heap [] := va_S.rf
  have hl := lv_entry ([.ref a_, .int p1]) (n := 3) (Nat.le_of_ble_eq_true rfl)
  rw [lg_entry_eq]
  generalize (lg_sl ([.ref a_, .int p1]) ++ List.replicate (3 - (lg_sl ([.ref a_, .int p1])).length) Slot.unset).toArray = ls at hl ⊢
  have hl : lv_has ls 3 [(0, .ref a_), (1, .int p1)] := hl
  obtain ⟨Q, hQ⟩ : ∃ Q : State → Prop, Q = MQ below (va_Qv (fun (_u : Unit) => True) (fun (_u : Unit) tt => va_P E.1 vwCl (w_X5_startCounts E a_ a_row a_partners a_share a_leftOver c_askedCount c_outcome n_row) tt.heap ∧ va_D A (w_X5_startCounts E a_ a_row a_partners a_share a_leftOver c_askedCount c_outcome n_row)) A) #[Value.ref a_, Value.int p1] s 0 0 A := ⟨_, rfl⟩
  rw [← hQ]
  change W p l e ({ frames := 1, cells := 0, slots := 0, locals := 23 } : Room) s m #[Value.ref a_, Value.int p1] below meth c s.heap [] 0 0 Q (F0 m 0 ls [])
  suffices hh9 : ∀ (H : Heap) (locs : List Loc), va_P E.1 vwCl (w_X5_startCounts E a_ a_row a_partners a_share a_leftOver c_askedCount c_outcome c_row) H → va_D A (w_X5_startCounts E a_ a_row a_partners a_share a_leftOver c_askedCount c_outcome c_row) → va_S A s.heap H locs → W p l e ({ frames := 1, cells := 0, slots := 0, locals := 23 } : Room) s m #[Value.ref a_, Value.int p1] below meth c H locs 0 0 Q (F0 m 0 ls []) from hh9 s.heap [] hP hD hS
  clear hP hD hS
  intro H locs hP hD hS
  have h9 := fixPD (ws' := [k_X5 a_ a_row a_partners c_askedCount c_outcome a_share a_leftOver, k_I E a_row 81 c_row]) hP hD rfl
  clear hP hD
  obtain ⟨hP, hD⟩ := h9
  unfold F_X5_startCounts at hF
  refine lv_aload_n hx hb (dq_42 0 bcX5_startCounts_0 (j := 0) rfl rfl) rfl (lv_at hl 0 rfl) ?_
  refine gt_X5_0 (v := .ref a_row) hx hb hts i_f_X5_startCounts_X5 hown hK hP 0 rfl (hts (.fieldLink RX5 11 "HushWatch$State" "row" "[I") (List.mem_of_getElem? (i := 1) rfl)) rfl (dq_180 0 bcX5_startCounts_0 (j := 1) (i := 11) rfl rfl rfl) ?_
  refine lv_iconst (v := 2) hx hb (dq_5 0 bcX5_startCounts_0 (j := 4) rfl rfl) (by decide) ?_
  refine lv_iload_n hx hb (dq_27 0 bcX5_startCounts_0 (j := 5) rfl rfl) rfl (lv_at hl 1 rfl) ?_
  refine va_iast hx hb hK hP hD hS 1 0 rfl rfl (vin rfl) (dq_79 0 bcX5_startCounts_0 (j := 6) rfl rfl) (fun H locs hP hD hS => ?_)
  have h9 := fixPD (ws' := [k_X5 a_ a_row a_partners c_askedCount c_outcome a_share a_leftOver, k_I E a_row 81 (upd c_row 2 p1)]) hP hD rfl
  clear hP hD
  obtain ⟨hP, hD⟩ := h9
  replace hF := nm_s hF
  obtain ⟨f_1, hf_1, hF⟩ := hF
  rw [← hf_1] at hP hD
  refine lv_aload_n hx hb (dq_42 0 bcX5_startCounts_0 (j := 7) rfl rfl) rfl (lv_at hl 0 rfl) ?_
  refine gt_X5_0 (v := .ref a_row) hx hb hts i_f_X5_startCounts_X5 hown hK hP 0 rfl (hts (.fieldLink RX5 11 "HushWatch$State" "row" "[I") (List.mem_of_getElem? (i := 1) rfl)) rfl (dq_180 0 bcX5_startCounts_0 (j := 8) (i := 11) rfl rfl rfl) ?_
  refine lv_bipush (v := 8) hx hb (dq_16 0 bcX5_startCounts_0 (j := 11) (i := 8) rfl rfl rfl) (by decide) ?_
  refine lv_iconst (v := 0) hx hb (dq_3 0 bcX5_startCounts_0 (j := 13) rfl rfl) (by decide) ?_
  refine va_iast hx hb hK hP hD hS 1 0 rfl rfl (vin rfl) (dq_79 0 bcX5_startCounts_0 (j := 14) rfl rfl) (fun H locs hP hD hS => ?_)
  have h9 := fixPD (ws' := [k_X5 a_ a_row a_partners c_askedCount c_outcome a_share a_leftOver, k_I E a_row 81 (upd f_1 8 (0 : Int32))]) hP hD rfl
  clear hP hD
  obtain ⟨hP, hD⟩ := h9
  replace hF := nm_s hF
  obtain ⟨f_2, hf_2, hF⟩ := hF
  rw [← hf_2] at hP hD
  refine lv_aload_n hx hb (dq_42 0 bcX5_startCounts_0 (j := 15) rfl rfl) rfl (lv_at hl 0 rfl) ?_
  refine gt_X5_0 (v := .ref a_row) hx hb hts i_f_X5_startCounts_X5 hown hK hP 0 rfl (hts (.fieldLink RX5 11 "HushWatch$State" "row" "[I") (List.mem_of_getElem? (i := 1) rfl)) rfl (dq_180 0 bcX5_startCounts_0 (j := 16) (i := 11) rfl rfl rfl) ?_
  refine lv_bipush (v := 9) hx hb (dq_16 0 bcX5_startCounts_0 (j := 19) (i := 9) rfl rfl rfl) (by decide) ?_
  refine lv_iconst (v := 0) hx hb (dq_3 0 bcX5_startCounts_0 (j := 21) rfl rfl) (by decide) ?_
  refine va_iast hx hb hK hP hD hS 1 0 rfl rfl (vin rfl) (dq_79 0 bcX5_startCounts_0 (j := 22) rfl rfl) (fun H locs hP hD hS => ?_)
  have h9 := fixPD (ws' := [k_X5 a_ a_row a_partners c_askedCount c_outcome a_share a_leftOver, k_I E a_row 81 (upd f_2 9 (0 : Int32))]) hP hD rfl
  clear hP hD
  obtain ⟨hP, hD⟩ := h9
  replace hF := nm_s hF
  obtain ⟨f_3, hf_3, hF⟩ := hF
  rw [← hf_3] at hP hD
  refine lv_aload_n hx hb (dq_42 0 bcX5_startCounts_0 (j := 23) rfl rfl) rfl (lv_at hl 0 rfl) ?_
  refine gt_X5_0 (v := .ref a_row) hx hb hts i_f_X5_startCounts_X5 hown hK hP 0 rfl (hts (.fieldLink RX5 11 "HushWatch$State" "row" "[I") (List.mem_of_getElem? (i := 1) rfl)) rfl (dq_180 0 bcX5_startCounts_0 (j := 24) (i := 11) rfl rfl rfl) ?_
  refine lv_bipush (v := 10) hx hb (dq_16 0 bcX5_startCounts_0 (j := 27) (i := 10) rfl rfl rfl) (by decide) ?_
  refine lv_iconst (v := 0) hx hb (dq_3 0 bcX5_startCounts_0 (j := 29) rfl rfl) (by decide) ?_
  refine va_iast hx hb hK hP hD hS 1 0 rfl rfl (vin rfl) (dq_79 0 bcX5_startCounts_0 (j := 30) rfl rfl) (fun H locs hP hD hS => ?_)
  have h9 := fixPD (ws' := [k_X5 a_ a_row a_partners c_askedCount c_outcome a_share a_leftOver, k_I E a_row 81 (upd f_3 10 (0 : Int32))]) hP hD rfl
  clear hP hD
  obtain ⟨hP, hD⟩ := h9
  replace hF := nm_s hF
  obtain ⟨f_4, hf_4, hF⟩ := hF
  rw [← hf_4] at hP hD
  refine lv_iconst (v := 0) hx hb (dq_3 0 bcX5_startCounts_0 (j := 31) rfl rfl) (by decide) ?_
  refine lv_istore_n (lv' := [(2, .int (0 : Int32)), (0, .ref a_), (1, .int p1)]) hx hb (dq_61 0 bcX5_startCounts_0 (j := 32) rfl rfl) rfl hl (by decide) rfl (fun ls hl => ?_)
  replace hF := bd1_s hF
  obtain ⟨c_row_12, hL_13, hF⟩ := hF
  refine lw_X5_startCounts_33 l E K (p1 := p1) (c_askedCount := c_askedCount) (c_outcome := c_outcome) hx hb hml hown hts hK hN hA K (0 : Int32) f_4 c_row_12 hL_13 ?_ H locs ls (hP.sub [0, 1] rfl) (hD.sub [0, 1] (by decide) rfl) hS (lv_sub hl [1, 0] rfl)
  ·
    intro H locs ls hP hD hS hl
    have h9 := fixPD (ws' := [k_X5 a_ a_row a_partners c_askedCount c_outcome a_share a_leftOver, k_I E a_row 81 c_row_12]) hP hD rfl
    clear hP hD
    obtain ⟨hP, hD⟩ := h9
    rw [hQ]
    have h9 := fin9 (P := fun u9 : (Nat → Int32) => va_P E.1 vwCl (w_X5_startCounts E a_ a_row a_partners a_share a_leftOver c_askedCount c_outcome u9) H ∧ va_D A (w_X5_startCounts E a_ a_row a_partners a_share a_leftOver c_askedCount c_outcome u9)) hF ⟨hP, hD⟩
    obtain ⟨hP9, hD9⟩ := h9
    exact W.vret hx hb hr (fun tt ht hW => ⟨⟨(), rfl, trivial, ht ▸ hP9, hD9⟩, hS.F ht⟩) hS.2.2 (dq_177 48 bcX5_startCounts_1 (j := 15) rfl rfl)

def F_X5_doAct (K : Nat) (p1 : Int32) (p2 : Int32) (p3 : Int32) (p4 : Int32) (c_row : Nat → Int32) (c_partners : Nat → Int32) (c_askedCount : Int32) (c_outcome : Int32) (c_share : Nat → Int32) (c_leftOver : Nat → Int32) : Option (Int32 × (Nat → Int32) × (Nat → Int32) × Int32 × Int32 × (Nat → Int32) × (Nat → Int32)) :=
  if p1 = (0 : Int32) then bd7 (F_X5_moveSite K p2 p3 p4 c_row c_partners c_askedCount c_outcome c_share c_leftOver) (fun r_2 w_3 w_4 w_5 w_6 w_7 w_8 => nmF (upd w_3 11 ((w_3 11) + r_2)) (fun f_10 => some (r_2, f_10, w_4, w_5, w_6, w_7, w_8))) else if p1 = (1 : Int32) then bd2 (F_X5_hearByHand K c_row) (fun r_11 w_12 => nmF (upd w_12 11 ((w_12 11) + r_11)) (fun f_14 => some (r_11, f_14, c_partners, c_askedCount, c_outcome, c_share, c_leftOver))) else if p1 = (2 : Int32) then nmF (upd c_row 1 p2) (fun f_15 => bd2 (F_X5_hearByHand K f_15) (fun r_16 w_17 => nmF (upd w_17 11 ((w_17 11) + r_16)) (fun f_19 => some (r_16, f_19, c_partners, c_askedCount, c_outcome, c_share, c_leftOver)))) else if p1 = (3 : Int32) then nmF (upd c_row 0 p2) (fun f_20 => bd2 (F_X5_hearByHand K f_20) (fun r_21 w_22 => nmF (upd w_22 11 ((w_22 11) + r_21)) (fun f_24 => some (r_21, f_24, c_partners, c_askedCount, c_outcome, c_share, c_leftOver)))) else if p1 = (4 : Int32) then bd2 (F_X5_addTo K p2 p3 c_row) (fun r_25 w_26 => nmF (upd w_26 11 ((w_26 11) + r_25)) (fun f_28 => some (r_25, f_28, c_partners, c_askedCount, c_outcome, c_share, c_leftOver))) else if p1 = (5 : Int32) then bd1 (F_X5_startCounts K p2 c_row) (fun w_29 => nmF (upd w_29 11 ((w_29 11) + (0 : Int32))) (fun f_31 => some ((0 : Int32), f_31, c_partners, c_askedCount, c_outcome, c_share, c_leftOver))) else if p1 = (6 : Int32) then nmF (upd c_row 7 ((c_row 7) ^^^ ((1 : Int32) <<< (p2 &&& (31 : Int32))))) (fun f_32 => nmF (upd f_32 11 ((f_32 11) + (0 : Int32))) (fun f_33 => some ((0 : Int32), f_33, c_partners, c_askedCount, c_outcome, c_share, c_leftOver))) else nmF (upd c_row 11 ((c_row 11) + (0 : Int32))) (fun f_34 => some ((0 : Int32), f_34, c_partners, c_askedCount, c_outcome, c_share, c_leftOver))
abbrev w_X5_doAct (E : EE) (a_ a_row a_partners a_share a_leftOver : Nat) (c_askedCount : Int32) (c_outcome : Int32) (c_row : Nat → Int32) (c_partners : Nat → Int32) (c_share : Nat → Int32) (c_leftOver : Nat → Int32) : va_W := [k_X5 a_ a_row a_partners c_askedCount c_outcome a_share a_leftOver, k_I E a_row 81 c_row, k_I E a_partners 8 c_partners, k_I E a_share 2 c_share, k_I E a_leftOver 2 c_leftOver]
def v_f_X5_doAct : List Cond := List.cons (.code yX5_doAct cX5_doAct 6 (some .int)) (HAppend.hAppend (α := List Cond) (β := List Cond) (γ := List Cond) [.fieldLink RX5 11 "HushWatch$State" "row" "[I", .methodLink RX5 137 yX5_moveSite, .instanceMethod yX5_moveSite, .selects RX5 yX5_moveSite yX5_moveSite, .initialized RX5, .methodLink RX5 140 yX5_hearByHand, .instanceMethod yX5_hearByHand, .selects RX5 yX5_hearByHand yX5_hearByHand, .methodLink RX5 143 yX5_addTo, .instanceMethod yX5_addTo, .selects RX5 yX5_addTo yX5_addTo, .methodLink RX5 146 yX5_startCounts, .instanceMethod yX5_startCounts, .selects RX5 yX5_startCounts yX5_startCounts] (HAppend.hAppend (α := List Cond) (β := List Cond) (γ := List Cond) v_f_X5_moveSite (HAppend.hAppend (α := List Cond) (β := List Cond) (γ := List Cond) wsX50 (HAppend.hAppend (α := List Cond) (β := List Cond) (γ := List Cond) v_f_X5_hearByHand (HAppend.hAppend (α := List Cond) (β := List Cond) (γ := List Cond) v_f_X5_addTo (HAppend.hAppend (α := List Cond) (β := List Cond) (γ := List Cond) v_f_X5_startCounts []))))))
theorem gw_f_X5_doAct : v_f_X5_doAct.all goodWord = true := gw_c2 (by decide +kernel) (gw_ap gw_f_X5_moveSite (gw_ap gw_wsX50 (gw_ap gw_f_X5_hearByHand (gw_ap gw_f_X5_addTo (gw_ap gw_f_X5_startCounts gw_nil)))))
theorem i_f_X5_doAct_X5 : ∀ w ∈ wsX50, w ∈ v_f_X5_doAct := fun _ h => List.mem_cons_of_mem _ (List.mem_append_right _ (List.mem_append_right _ (List.mem_append_left _ h)))
theorem g_f_X5_doAct_f_X5_moveSite_137 : GoodIn v_f_X5_doAct (wsV RX5 137 RX5 yX5_moveSite v_f_X5_moveSite) := goodIn_in gw_f_X5_doAct (in4 2 3 4 5 rfl rfl rfl rfl (fun _ h => List.mem_cons_of_mem _ (List.mem_append_right _ (List.mem_append_left _ h))))
theorem g_f_X5_doAct_f_X5_hearByHand_140 : GoodIn v_f_X5_doAct (wsV RX5 140 RX5 yX5_hearByHand v_f_X5_hearByHand) := goodIn_in gw_f_X5_doAct (in4 6 7 8 5 rfl rfl rfl rfl (fun _ h => List.mem_cons_of_mem _ (List.mem_append_right _ (List.mem_append_right _ (List.mem_append_right _ (List.mem_append_left _ h))))))
theorem g_f_X5_doAct_f_X5_addTo_143 : GoodIn v_f_X5_doAct (wsV RX5 143 RX5 yX5_addTo v_f_X5_addTo) := goodIn_in gw_f_X5_doAct (in4 9 10 11 5 rfl rfl rfl rfl (fun _ h => List.mem_cons_of_mem _ (List.mem_append_right _ (List.mem_append_right _ (List.mem_append_right _ (List.mem_append_right _ (List.mem_append_left _ h)))))))
theorem g_f_X5_doAct_f_X5_startCounts_146 : GoodIn v_f_X5_doAct (wsV RX5 146 RX5 yX5_startCounts v_f_X5_startCounts) := goodIn_in gw_f_X5_doAct (in4 12 13 14 5 rfl rfl rfl rfl (fun _ h => List.mem_cons_of_mem _ (List.mem_append_right _ (List.mem_append_right _ (List.mem_append_right _ (List.mem_append_right _ (List.mem_append_right _ (List.mem_append_left _ h))))))))
theorem hd_X5_doAct : yX5_doAct.cls = RX5 ∧ yX5_doAct.cls ≠ "java/lang/invoke/MethodHandle" ∧ yX5_doAct.cls ≠ "java/lang/invoke/VarHandle" ∧ (parseMethodDescriptor yX5_doAct.desc).map (fun d => d.parameters.length) = some 4 := by decide +kernel
set_option maxHeartbeats 4000000 in
set_option maxRecDepth 100000 in
theorem f_X5_doAct (l : Launch) (E : EE) (sz : Nat) (K : Nat) {a_ a_row a_partners a_share a_leftOver : Nat} {p1 : Int32} {p2 : Int32} {p3 : Int32} {p4 : Int32} {c_askedCount : Int32} {c_outcome : Int32} {c_row : Nat → Int32} {c_partners : Nat → Int32} {c_share : Nat → Int32} {c_leftOver : Nat → Int32} {rr : Int32} {n_row : Nat → Int32} {n_partners : Nat → Int32} {n_askedCount : Int32} {n_outcome : Int32} {n_share : Nat → Int32} {n_leftOver : Nat → Int32} (hF : F_X5_doAct K p1 p2 p3 p4 c_row c_partners c_askedCount c_outcome c_share c_leftOver = some (rr, n_row, n_partners, n_askedCount, n_outcome, n_share, n_leftOver)) : Met l yX5_doAct v_f_X5_doAct (({ frames := 4, cells := 0, slots := 0, locals := 99 } : Room)) (va_Pc [.ref a_, .int p1, .int p2, .int p3, .int p4] (pW E sz (w_X5_doAct E a_ a_row a_partners a_share a_leftOver c_askedCount c_outcome c_row c_partners c_share c_leftOver))) (va_Qi (fun (q : Int32) (_u : Unit) => q = rr) (fun (_u : Unit) tt => va_P E.1 vwCl (w_X5_doAct E a_ a_row a_partners a_share a_leftOver n_askedCount n_outcome n_row n_partners n_share n_leftOver) tt.heap ∧ va_D (va_A (w_X5_doAct E a_ a_row a_partners a_share a_leftOver c_askedCount c_outcome c_row c_partners c_share c_leftOver) sz) (w_X5_doAct E a_ a_row a_partners a_share a_leftOver n_askedCount n_outcome n_row n_partners n_share n_leftOver)) (va_A (w_X5_doAct E a_ a_row a_partners a_share a_leftOver c_askedCount c_outcome c_row c_partners c_share c_leftOver) sz)) 0 0 (va_A (w_X5_doAct E a_ a_row a_partners a_share a_leftOver c_askedCount c_outcome c_row c_partners c_share c_leftOver) sz) := by
  refine Met.ofW (cc := cX5_doAct) (maxL := 6) (ret := (some .int)) (by decide) rfl ?_
  intro p e s m args below meth c s₁ B hml hv
  obtain ⟨rfl, hsz, ⟨hK, hN⟩, hP, hD0⟩ := hv
  have hx := B.exec
  have hb := B.bytes
  have hr := B.returns
  have hts := atoms_spec (ws := v_f_X5_doAct) B.pre
  have hown : s.vm.findClass RX5 = some m.cls := own_of hd_X5_doAct.1 (findClass_of_methodNamed B.named)
  have hlocks : meth.locks = false := B.notSynchronized
  subst hsz
  have hD := hD0.self (sz := s.heap.size)
  generalize hAe : va_A (w_X5_doAct E a_ a_row a_partners a_share a_leftOver c_askedCount c_outcome c_row c_partners c_share c_leftOver) s.heap.size = A at hD ⊢
  have hA : ∀ q : Nat, s.heap.size ≤ q → A q := fun q h => by rw [← hAe]; exact Or.inr h
  have hS : va_S A s.heap s.heap [] := va_S.rf
  have hl := lv_entry ([.ref a_, .int p1, .int p2, .int p3, .int p4]) (n := 6) (Nat.le_of_ble_eq_true rfl)
  rw [lg_entry_eq]
  generalize (lg_sl ([.ref a_, .int p1, .int p2, .int p3, .int p4]) ++ List.replicate (6 - (lg_sl ([.ref a_, .int p1, .int p2, .int p3, .int p4])).length) Slot.unset).toArray = ls at hl ⊢
  have hl : lv_has ls 6 [(0, .ref a_), (1, .int p1), (2, .int p2), (3, .int p3), (4, .int p4)] := hl
  obtain ⟨Q, hQ⟩ : ∃ Q : State → Prop, Q = MQ below (va_Qi (fun (q : Int32) (_u : Unit) => q = rr) (fun (_u : Unit) tt => va_P E.1 vwCl (w_X5_doAct E a_ a_row a_partners a_share a_leftOver n_askedCount n_outcome n_row n_partners n_share n_leftOver) tt.heap ∧ va_D A (w_X5_doAct E a_ a_row a_partners a_share a_leftOver n_askedCount n_outcome n_row n_partners n_share n_leftOver)) A) #[Value.ref a_, Value.int p1, Value.int p2, Value.int p3, Value.int p4] s 0 0 A := ⟨_, rfl⟩
  rw [← hQ]
  change W p l e ({ frames := 4, cells := 0, slots := 0, locals := 99 } : Room) s m #[Value.ref a_, Value.int p1, Value.int p2, Value.int p3, Value.int p4] below meth c s.heap [] 0 0 Q (F0 m 0 ls [])
  suffices hh9 : ∀ (H : Heap) (locs : List Loc), va_P E.1 vwCl (w_X5_doAct E a_ a_row a_partners a_share a_leftOver c_askedCount c_outcome c_row c_partners c_share c_leftOver) H → va_D A (w_X5_doAct E a_ a_row a_partners a_share a_leftOver c_askedCount c_outcome c_row c_partners c_share c_leftOver) → va_S A s.heap H locs → W p l e ({ frames := 4, cells := 0, slots := 0, locals := 99 } : Room) s m #[Value.ref a_, Value.int p1, Value.int p2, Value.int p3, Value.int p4] below meth c H locs 0 0 Q (F0 m 0 ls []) from hh9 s.heap [] hP hD hS
  clear hP hD hS
  intro H locs hP hD hS
  have h9 := fixPD (ws' := [k_X5 a_ a_row a_partners c_askedCount c_outcome a_share a_leftOver, k_I E a_row 81 c_row, k_I E a_partners 8 c_partners, k_I E a_share 2 c_share, k_I E a_leftOver 2 c_leftOver]) hP hD rfl
  clear hP hD
  obtain ⟨hP, hD⟩ := h9
  unfold F_X5_doAct at hF
  refine lv_iconst (v := 0) hx hb (dq_3 0 bcX5_doAct_0 (j := 0) rfl rfl) (by decide) ?_
  refine lv_istore (lv' := [(5, .int (0 : Int32)), (0, .ref a_), (1, .int p1), (2, .int p2), (3, .int p3), (4, .int p4)]) hx hb (dq_54 0 bcX5_doAct_0 (j := 1) (i := 5) rfl rfl) hl (by decide) rfl (fun ls hl => ?_)
  refine lv_iload_n hx hb (dq_27 0 bcX5_doAct_0 (j := 3) rfl rfl) rfl (lv_at hl 2 rfl) ?_
  rcases Classical.em (p1 = (0 : Int32)) with c_1_0 | c_1_0
  ·
    replace hF := ip c_1_0 hF
    refine lv_tableIn (off := 44) (tgt := 48) hx hb dX5_doAct_4 (by rw [c_1_0]; decide) (by rw [c_1_0]; decide) (by rw [c_1_0]; decide) (by decide) ?_
    refine lv_aload_n hx hb (dq_42 48 bcX5_doAct_1 (j := 0) rfl rfl) rfl (lv_at hl 1 rfl) ?_
    refine lv_iload_n hx hb (dq_28 48 bcX5_doAct_1 (j := 1) rfl rfl) rfl (lv_at hl 3 rfl) ?_
    refine lv_iload_n hx hb (dq_29 48 bcX5_doAct_1 (j := 2) rfl rfl) rfl (lv_at hl 4 rfl) ?_
    refine lv_iload hx hb (dq_21 48 bcX5_doAct_1 (j := 3) (i := 4) rfl rfl) (lv_at hl 5 rfl) ?_
    replace hF := bd7_s hF
    obtain ⟨r_2, w_3, w_4, w_5, w_6, w_7, w_8, hc_9, hF⟩ := hF
    obtain ⟨hPc, hDc, hFc⟩ := wcut (wc := (w_X5_moveSite E a_ a_row a_partners a_share a_leftOver c_askedCount c_outcome c_row c_partners c_share c_leftOver)) hP hD hS hA [0, 1, 2, 3, 4] (by decide) rfl
    have hrc := va_recv hK hPc (ci := 6) (q0 := 0) rfl rfl
    refine cE_i (wc := (w_X5_moveSite E a_ a_row a_partners a_share a_leftOver c_askedCount c_outcome c_row c_partners c_share c_leftOver)) (wr := []) (w1 := (w_X5_moveSite E a_ a_row a_partners a_share a_leftOver w_5 w_6 w_3 w_4 w_7 w_8)) (va_runV (As := [.int p2, .int p3, .int p4]) (rest := [])  ⟨hx, hb, hml, hown, hts⟩ (f_X5_moveSite l E H.size K (a_ := a_) (a_row := a_row) (a_partners := a_partners) (a_share := a_share) (a_leftOver := a_leftOver) (p1 := p2) (p2 := p3) (p3 := p4) (c_askedCount := c_askedCount) (c_outcome := c_outcome) (c_row := c_row) (c_partners := c_partners) (c_share := c_share) (c_leftOver := c_leftOver) hc_9) (cwV 3 hts g_f_X5_doAct_f_X5_moveSite_137 rfl rfl rfl hd_X5_moveSite ⟨Nat.le_of_ble_eq_true rfl, Nat.le_of_ble_eq_true rfl⟩) ⟨pW.blind, hrc, (pW.pre ⟨hK, hN⟩ hPc hDc)⟩ rfl rfl hl.1 rfl (lv_room (Nat.le_of_ble_eq_true rfl)) (dq_182 48 bcX5_doAct_1 (j := 5) (i := 137) rfl rfl rfl) ⟨Nat.le_of_ble_eq_true rfl, Nat.le_of_ble_eq_true rfl⟩) hS hFc hP hD [0, 1, 2, 3, 4] [] rfl rfl (by decide) (by decide) (fun H locs hP hD hS => ?_)
    have h9 := fixPD (ws' := [k_X5 a_ a_row a_partners w_5 w_6 a_share a_leftOver, k_I E a_row 81 w_3, k_I E a_partners 8 w_4, k_I E a_share 2 w_7, k_I E a_leftOver 2 w_8]) hP hD rfl
    clear hP hD
    obtain ⟨hP, hD⟩ := h9
    refine lv_istore (lv' := [(5, .int r_2), (0, .ref a_), (1, .int p1), (2, .int p2), (3, .int p3), (4, .int p4)]) hx hb (dq_54 48 bcX5_doAct_1 (j := 8) (i := 5) rfl rfl) hl (by decide) rfl (fun ls hl => ?_)
    refine lv_goto (tgt := 137) hx hb (dq_167 48 bcX5_doAct_1 (j := 10) (i := 79) rfl rfl rfl) (by decide) ?_
    refine lv_aload_n hx hb (dq_42 96 bcX5_doAct_2 (j := 41) rfl rfl) rfl (lv_at hl 1 rfl) ?_
    refine gt_X5_0 (v := .ref a_row) hx hb hts i_f_X5_doAct_X5 hown hK hP 0 rfl (hts (.fieldLink RX5 11 "HushWatch$State" "row" "[I") (List.mem_of_getElem? (i := 1) rfl)) rfl (dq_180 96 bcX5_doAct_2 (j := 42) (i := 11) rfl rfl rfl) ?_
    refine lv_bipush (v := 11) hx hb (dq_16 96 bcX5_doAct_2 (j := 45) (i := 11) rfl rfl rfl) (by decide) ?_
    refine lv_dup2_11 hx hb (dq_92 96 bcX5_doAct_2 (j := 47) rfl rfl) rfl rfl ?_
    refine va_iald hx hb hK hP 1 0 rfl rfl (vin rfl) (dq_46 144 bcX5_doAct_3 (j := 0) rfl rfl) ?_
    refine W.eq (g2 := F0 m 145 ls [.int (w_3 11), .int (11 : Int32), .ref a_row]) rfl ?_
    refine lv_iload hx hb (dq_21 144 bcX5_doAct_3 (j := 1) (i := 5) rfl rfl) (lv_at hl 0 rfl) ?_
    refine lv_iadd hx hb (dq_96 144 bcX5_doAct_3 (j := 3) rfl rfl) ?_
    refine va_iast hx hb hK hP hD hS 1 0 rfl rfl (vin rfl) (dq_79 144 bcX5_doAct_3 (j := 4) rfl rfl) (fun H locs hP hD hS => ?_)
    have h9 := fixPD (ws' := [k_X5 a_ a_row a_partners w_5 w_6 a_share a_leftOver, k_I E a_row 81 (upd w_3 11 ((w_3 11) + r_2)), k_I E a_partners 8 w_4, k_I E a_share 2 w_7, k_I E a_leftOver 2 w_8]) hP hD rfl
    clear hP hD
    obtain ⟨hP, hD⟩ := h9
    replace hF := nm_s hF
    obtain ⟨f_10, hf_10, hF⟩ := hF
    rw [← hf_10] at hP hD
    refine lv_iload hx hb (dq_21 144 bcX5_doAct_3 (j := 5) (i := 5) rfl rfl) (lv_at hl 0 rfl) ?_
    rw [hQ]
    have h9 := fin9 (P := fun u9 : Int32 × (Nat → Int32) × (Nat → Int32) × Int32 × Int32 × (Nat → Int32) × (Nat → Int32) => r_2 = u9.1 ∧ va_P E.1 vwCl (w_X5_doAct E a_ a_row a_partners a_share a_leftOver u9.2.2.2.1 u9.2.2.2.2.1 u9.2.1 u9.2.2.1 u9.2.2.2.2.2.1 u9.2.2.2.2.2.2) H ∧ va_D A (w_X5_doAct E a_ a_row a_partners a_share a_leftOver u9.2.2.2.1 u9.2.2.2.2.1 u9.2.1 u9.2.2.1 u9.2.2.2.2.2.1 u9.2.2.2.2.2.2)) hF ⟨rfl, hP, hD⟩
    obtain ⟨e9_0, hP9, hD9⟩ := h9
    exact W.iret (v := r_2) hx hb hr (fun tt ht hW => ⟨⟨_, (), rfl, e9_0, ht ▸ hP9, hD9⟩, hS.F ht⟩) hS.2.2 (dq_172 144 bcX5_doAct_3 (j := 7) rfl rfl)
  replace hF := inn c_1_0 hF
  rcases Classical.em (p1 = (1 : Int32)) with c_1_1 | c_1_1
  ·
    replace hF := ip c_1_1 hF
    refine lv_tableIn (off := 57) (tgt := 61) hx hb dX5_doAct_4 (by rw [c_1_1]; decide) (by rw [c_1_1]; decide) (by rw [c_1_1]; decide) (by decide) ?_
    refine lv_aload_n hx hb (dq_42 48 bcX5_doAct_1 (j := 13) rfl rfl) rfl (lv_at hl 1 rfl) ?_
    replace hF := bd2_s hF
    obtain ⟨r_11, w_12, hc_13, hF⟩ := hF
    obtain ⟨hPc, hDc, hFc⟩ := wcut (wc := (w_X5_hearByHand E a_ a_row a_partners a_share a_leftOver c_askedCount c_outcome c_row)) hP hD hS hA [0, 1] (by decide) rfl
    have hrc := va_recv hK hPc (ci := 6) (q0 := 0) rfl rfl
    refine cE_i (wc := (w_X5_hearByHand E a_ a_row a_partners a_share a_leftOver c_askedCount c_outcome c_row)) (wr := [k_I E a_partners 8 c_partners, k_I E a_share 2 c_share, k_I E a_leftOver 2 c_leftOver]) (w1 := (w_X5_hearByHand E a_ a_row a_partners a_share a_leftOver c_askedCount c_outcome w_12)) (va_runV (As := []) (rest := [])  ⟨hx, hb, hml, hown, hts⟩ (f_X5_hearByHand l E H.size K (a_ := a_) (a_row := a_row) (a_partners := a_partners) (a_share := a_share) (a_leftOver := a_leftOver) (c_askedCount := c_askedCount) (c_outcome := c_outcome) (c_row := c_row) hc_13) (cwV 0 hts g_f_X5_doAct_f_X5_hearByHand_140 rfl rfl rfl hd_X5_hearByHand ⟨Nat.le_of_ble_eq_true rfl, Nat.le_of_ble_eq_true rfl⟩) ⟨pW.blind, hrc, (pW.pre ⟨hK, hN⟩ hPc hDc)⟩ rfl rfl hl.1 rfl (lv_room (Nat.le_of_ble_eq_true rfl)) (dq_182 48 bcX5_doAct_1 (j := 14) (i := 140) rfl rfl rfl) ⟨Nat.le_of_ble_eq_true rfl, Nat.le_of_ble_eq_true rfl⟩) hS hFc hP hD [0, 1] [2, 3, 4] rfl rfl (by decide) (by decide) (fun H locs hP hD hS => ?_)
    have h9 := fixPD (ws' := [k_I E a_partners 8 c_partners, k_I E a_share 2 c_share, k_I E a_leftOver 2 c_leftOver, k_X5 a_ a_row a_partners c_askedCount c_outcome a_share a_leftOver, k_I E a_row 81 w_12]) hP hD rfl
    clear hP hD
    obtain ⟨hP, hD⟩ := h9
    refine lv_istore (lv' := [(5, .int r_11), (0, .ref a_), (1, .int p1), (2, .int p2), (3, .int p3), (4, .int p4)]) hx hb (dq_54 48 bcX5_doAct_1 (j := 17) (i := 5) rfl rfl) hl (by decide) rfl (fun ls hl => ?_)
    refine lv_goto (tgt := 137) hx hb (dq_167 48 bcX5_doAct_1 (j := 19) (i := 70) rfl rfl rfl) (by decide) ?_
    refine lv_aload_n hx hb (dq_42 96 bcX5_doAct_2 (j := 41) rfl rfl) rfl (lv_at hl 1 rfl) ?_
    refine gt_X5_0 (v := .ref a_row) hx hb hts i_f_X5_doAct_X5 hown hK hP 3 rfl (hts (.fieldLink RX5 11 "HushWatch$State" "row" "[I") (List.mem_of_getElem? (i := 1) rfl)) rfl (dq_180 96 bcX5_doAct_2 (j := 42) (i := 11) rfl rfl rfl) ?_
    refine lv_bipush (v := 11) hx hb (dq_16 96 bcX5_doAct_2 (j := 45) (i := 11) rfl rfl rfl) (by decide) ?_
    refine lv_dup2_11 hx hb (dq_92 96 bcX5_doAct_2 (j := 47) rfl rfl) rfl rfl ?_
    refine va_iald hx hb hK hP 4 0 rfl rfl (vin rfl) (dq_46 144 bcX5_doAct_3 (j := 0) rfl rfl) ?_
    refine W.eq (g2 := F0 m 145 ls [.int (w_12 11), .int (11 : Int32), .ref a_row]) rfl ?_
    refine lv_iload hx hb (dq_21 144 bcX5_doAct_3 (j := 1) (i := 5) rfl rfl) (lv_at hl 0 rfl) ?_
    refine lv_iadd hx hb (dq_96 144 bcX5_doAct_3 (j := 3) rfl rfl) ?_
    refine va_iast hx hb hK hP hD hS 4 0 rfl rfl (vin rfl) (dq_79 144 bcX5_doAct_3 (j := 4) rfl rfl) (fun H locs hP hD hS => ?_)
    have h9 := fixPD (ws' := [k_I E a_partners 8 c_partners, k_I E a_share 2 c_share, k_I E a_leftOver 2 c_leftOver, k_X5 a_ a_row a_partners c_askedCount c_outcome a_share a_leftOver, k_I E a_row 81 (upd w_12 11 ((w_12 11) + r_11))]) hP hD rfl
    clear hP hD
    obtain ⟨hP, hD⟩ := h9
    replace hF := nm_s hF
    obtain ⟨f_14, hf_14, hF⟩ := hF
    rw [← hf_14] at hP hD
    refine lv_iload hx hb (dq_21 144 bcX5_doAct_3 (j := 5) (i := 5) rfl rfl) (lv_at hl 0 rfl) ?_
    rw [hQ]
    have h9 := fin9 (P := fun u9 : Int32 × (Nat → Int32) × (Nat → Int32) × Int32 × Int32 × (Nat → Int32) × (Nat → Int32) => r_11 = u9.1 ∧ va_P E.1 vwCl (w_X5_doAct E a_ a_row a_partners a_share a_leftOver u9.2.2.2.1 u9.2.2.2.2.1 u9.2.1 u9.2.2.1 u9.2.2.2.2.2.1 u9.2.2.2.2.2.2) H ∧ va_D A (w_X5_doAct E a_ a_row a_partners a_share a_leftOver u9.2.2.2.1 u9.2.2.2.2.1 u9.2.1 u9.2.2.1 u9.2.2.2.2.2.1 u9.2.2.2.2.2.2)) hF ⟨rfl, hP.sub [3, 4, 0, 1, 2] rfl, hD.sub [3, 4, 0, 1, 2] (by decide) rfl⟩
    obtain ⟨e9_0, hP9, hD9⟩ := h9
    exact W.iret (v := r_11) hx hb hr (fun tt ht hW => ⟨⟨_, (), rfl, e9_0, ht ▸ hP9, hD9⟩, hS.F ht⟩) hS.2.2 (dq_172 144 bcX5_doAct_3 (j := 7) rfl rfl)
  replace hF := inn c_1_1 hF
  rcases Classical.em (p1 = (2 : Int32)) with c_1_2 | c_1_2
  ·
    replace hF := ip c_1_2 hF
    refine lv_tableIn (off := 66) (tgt := 70) hx hb dX5_doAct_4 (by rw [c_1_2]; decide) (by rw [c_1_2]; decide) (by rw [c_1_2]; decide) (by decide) ?_
    refine lv_aload_n hx hb (dq_42 48 bcX5_doAct_1 (j := 22) rfl rfl) rfl (lv_at hl 1 rfl) ?_
    refine gt_X5_0 (v := .ref a_row) hx hb hts i_f_X5_doAct_X5 hown hK hP 0 rfl (hts (.fieldLink RX5 11 "HushWatch$State" "row" "[I") (List.mem_of_getElem? (i := 1) rfl)) rfl (dq_180 48 bcX5_doAct_1 (j := 23) (i := 11) rfl rfl rfl) ?_
    refine lv_iconst (v := 1) hx hb (dq_4 48 bcX5_doAct_1 (j := 26) rfl rfl) (by decide) ?_
    refine lv_iload_n hx hb (dq_28 48 bcX5_doAct_1 (j := 27) rfl rfl) rfl (lv_at hl 3 rfl) ?_
    refine va_iast hx hb hK hP hD hS 1 0 rfl rfl (vin rfl) (dq_79 48 bcX5_doAct_1 (j := 28) rfl rfl) (fun H locs hP hD hS => ?_)
    have h9 := fixPD (ws' := [k_X5 a_ a_row a_partners c_askedCount c_outcome a_share a_leftOver, k_I E a_row 81 (upd c_row 1 p2), k_I E a_partners 8 c_partners, k_I E a_share 2 c_share, k_I E a_leftOver 2 c_leftOver]) hP hD rfl
    clear hP hD
    obtain ⟨hP, hD⟩ := h9
    replace hF := nm_s hF
    obtain ⟨f_15, hf_15, hF⟩ := hF
    rw [← hf_15] at hP hD
    refine lv_aload_n hx hb (dq_42 48 bcX5_doAct_1 (j := 29) rfl rfl) rfl (lv_at hl 1 rfl) ?_
    replace hF := bd2_s hF
    obtain ⟨r_16, w_17, hc_18, hF⟩ := hF
    obtain ⟨hPc, hDc, hFc⟩ := wcut (wc := (w_X5_hearByHand E a_ a_row a_partners a_share a_leftOver c_askedCount c_outcome f_15)) hP hD hS hA [0, 1] (by decide) rfl
    have hrc := va_recv hK hPc (ci := 6) (q0 := 0) rfl rfl
    refine cE_i (wc := (w_X5_hearByHand E a_ a_row a_partners a_share a_leftOver c_askedCount c_outcome f_15)) (wr := [k_I E a_partners 8 c_partners, k_I E a_share 2 c_share, k_I E a_leftOver 2 c_leftOver]) (w1 := (w_X5_hearByHand E a_ a_row a_partners a_share a_leftOver c_askedCount c_outcome w_17)) (va_runV (As := []) (rest := [])  ⟨hx, hb, hml, hown, hts⟩ (f_X5_hearByHand l E H.size K (a_ := a_) (a_row := a_row) (a_partners := a_partners) (a_share := a_share) (a_leftOver := a_leftOver) (c_askedCount := c_askedCount) (c_outcome := c_outcome) (c_row := f_15) hc_18) (cwV 0 hts g_f_X5_doAct_f_X5_hearByHand_140 rfl rfl rfl hd_X5_hearByHand ⟨Nat.le_of_ble_eq_true rfl, Nat.le_of_ble_eq_true rfl⟩) ⟨pW.blind, hrc, (pW.pre ⟨hK, hN⟩ hPc hDc)⟩ rfl rfl hl.1 rfl (lv_room (Nat.le_of_ble_eq_true rfl)) (dq_182 48 bcX5_doAct_1 (j := 30) (i := 140) rfl rfl rfl) ⟨Nat.le_of_ble_eq_true rfl, Nat.le_of_ble_eq_true rfl⟩) hS hFc hP hD [0, 1] [2, 3, 4] rfl rfl (by decide) (by decide) (fun H locs hP hD hS => ?_)
    have h9 := fixPD (ws' := [k_I E a_partners 8 c_partners, k_I E a_share 2 c_share, k_I E a_leftOver 2 c_leftOver, k_X5 a_ a_row a_partners c_askedCount c_outcome a_share a_leftOver, k_I E a_row 81 w_17]) hP hD rfl
    clear hP hD
    obtain ⟨hP, hD⟩ := h9
    refine lv_istore (lv' := [(5, .int r_16), (0, .ref a_), (1, .int p1), (2, .int p2), (3, .int p3), (4, .int p4)]) hx hb (dq_54 48 bcX5_doAct_1 (j := 33) (i := 5) rfl rfl) hl (by decide) rfl (fun ls hl => ?_)
    refine lv_goto (tgt := 137) hx hb (dq_167 48 bcX5_doAct_1 (j := 35) (i := 54) rfl rfl rfl) (by decide) ?_
    refine lv_aload_n hx hb (dq_42 96 bcX5_doAct_2 (j := 41) rfl rfl) rfl (lv_at hl 1 rfl) ?_
    refine gt_X5_0 (v := .ref a_row) hx hb hts i_f_X5_doAct_X5 hown hK hP 3 rfl (hts (.fieldLink RX5 11 "HushWatch$State" "row" "[I") (List.mem_of_getElem? (i := 1) rfl)) rfl (dq_180 96 bcX5_doAct_2 (j := 42) (i := 11) rfl rfl rfl) ?_
    refine lv_bipush (v := 11) hx hb (dq_16 96 bcX5_doAct_2 (j := 45) (i := 11) rfl rfl rfl) (by decide) ?_
    refine lv_dup2_11 hx hb (dq_92 96 bcX5_doAct_2 (j := 47) rfl rfl) rfl rfl ?_
    refine va_iald hx hb hK hP 4 0 rfl rfl (vin rfl) (dq_46 144 bcX5_doAct_3 (j := 0) rfl rfl) ?_
    refine W.eq (g2 := F0 m 145 ls [.int (w_17 11), .int (11 : Int32), .ref a_row]) rfl ?_
    refine lv_iload hx hb (dq_21 144 bcX5_doAct_3 (j := 1) (i := 5) rfl rfl) (lv_at hl 0 rfl) ?_
    refine lv_iadd hx hb (dq_96 144 bcX5_doAct_3 (j := 3) rfl rfl) ?_
    refine va_iast hx hb hK hP hD hS 4 0 rfl rfl (vin rfl) (dq_79 144 bcX5_doAct_3 (j := 4) rfl rfl) (fun H locs hP hD hS => ?_)
    have h9 := fixPD (ws' := [k_I E a_partners 8 c_partners, k_I E a_share 2 c_share, k_I E a_leftOver 2 c_leftOver, k_X5 a_ a_row a_partners c_askedCount c_outcome a_share a_leftOver, k_I E a_row 81 (upd w_17 11 ((w_17 11) + r_16))]) hP hD rfl
    clear hP hD
    obtain ⟨hP, hD⟩ := h9
    replace hF := nm_s hF
    obtain ⟨f_19, hf_19, hF⟩ := hF
    rw [← hf_19] at hP hD
    refine lv_iload hx hb (dq_21 144 bcX5_doAct_3 (j := 5) (i := 5) rfl rfl) (lv_at hl 0 rfl) ?_
    rw [hQ]
    have h9 := fin9 (P := fun u9 : Int32 × (Nat → Int32) × (Nat → Int32) × Int32 × Int32 × (Nat → Int32) × (Nat → Int32) => r_16 = u9.1 ∧ va_P E.1 vwCl (w_X5_doAct E a_ a_row a_partners a_share a_leftOver u9.2.2.2.1 u9.2.2.2.2.1 u9.2.1 u9.2.2.1 u9.2.2.2.2.2.1 u9.2.2.2.2.2.2) H ∧ va_D A (w_X5_doAct E a_ a_row a_partners a_share a_leftOver u9.2.2.2.1 u9.2.2.2.2.1 u9.2.1 u9.2.2.1 u9.2.2.2.2.2.1 u9.2.2.2.2.2.2)) hF ⟨rfl, hP.sub [3, 4, 0, 1, 2] rfl, hD.sub [3, 4, 0, 1, 2] (by decide) rfl⟩
    obtain ⟨e9_0, hP9, hD9⟩ := h9
    exact W.iret (v := r_16) hx hb hr (fun tt ht hW => ⟨⟨_, (), rfl, e9_0, ht ▸ hP9, hD9⟩, hS.F ht⟩) hS.2.2 (dq_172 144 bcX5_doAct_3 (j := 7) rfl rfl)
  replace hF := inn c_1_2 hF
  rcases Classical.em (p1 = (3 : Int32)) with c_1_3 | c_1_3
  ·
    replace hF := ip c_1_3 hF
    refine lv_tableIn (off := 82) (tgt := 86) hx hb dX5_doAct_4 (by rw [c_1_3]; decide) (by rw [c_1_3]; decide) (by rw [c_1_3]; decide) (by decide) ?_
    refine lv_aload_n hx hb (dq_42 48 bcX5_doAct_1 (j := 38) rfl rfl) rfl (lv_at hl 1 rfl) ?_
    refine gt_X5_0 (v := .ref a_row) hx hb hts i_f_X5_doAct_X5 hown hK hP 0 rfl (hts (.fieldLink RX5 11 "HushWatch$State" "row" "[I") (List.mem_of_getElem? (i := 1) rfl)) rfl (dq_180 48 bcX5_doAct_1 (j := 39) (i := 11) rfl rfl rfl) ?_
    refine lv_iconst (v := 0) hx hb (dq_3 48 bcX5_doAct_1 (j := 42) rfl rfl) (by decide) ?_
    refine lv_iload_n hx hb (dq_28 48 bcX5_doAct_1 (j := 43) rfl rfl) rfl (lv_at hl 3 rfl) ?_
    refine va_iast hx hb hK hP hD hS 1 0 rfl rfl (vin rfl) (dq_79 48 bcX5_doAct_1 (j := 44) rfl rfl) (fun H locs hP hD hS => ?_)
    have h9 := fixPD (ws' := [k_X5 a_ a_row a_partners c_askedCount c_outcome a_share a_leftOver, k_I E a_row 81 (upd c_row 0 p2), k_I E a_partners 8 c_partners, k_I E a_share 2 c_share, k_I E a_leftOver 2 c_leftOver]) hP hD rfl
    clear hP hD
    obtain ⟨hP, hD⟩ := h9
    replace hF := nm_s hF
    obtain ⟨f_20, hf_20, hF⟩ := hF
    rw [← hf_20] at hP hD
    refine lv_aload_n hx hb (dq_42 48 bcX5_doAct_1 (j := 45) rfl rfl) rfl (lv_at hl 1 rfl) ?_
    replace hF := bd2_s hF
    obtain ⟨r_21, w_22, hc_23, hF⟩ := hF
    obtain ⟨hPc, hDc, hFc⟩ := wcut (wc := (w_X5_hearByHand E a_ a_row a_partners a_share a_leftOver c_askedCount c_outcome f_20)) hP hD hS hA [0, 1] (by decide) rfl
    have hrc := va_recv hK hPc (ci := 6) (q0 := 0) rfl rfl
    refine cE_i (wc := (w_X5_hearByHand E a_ a_row a_partners a_share a_leftOver c_askedCount c_outcome f_20)) (wr := [k_I E a_partners 8 c_partners, k_I E a_share 2 c_share, k_I E a_leftOver 2 c_leftOver]) (w1 := (w_X5_hearByHand E a_ a_row a_partners a_share a_leftOver c_askedCount c_outcome w_22)) (va_runV (As := []) (rest := [])  ⟨hx, hb, hml, hown, hts⟩ (f_X5_hearByHand l E H.size K (a_ := a_) (a_row := a_row) (a_partners := a_partners) (a_share := a_share) (a_leftOver := a_leftOver) (c_askedCount := c_askedCount) (c_outcome := c_outcome) (c_row := f_20) hc_23) (cwV 0 hts g_f_X5_doAct_f_X5_hearByHand_140 rfl rfl rfl hd_X5_hearByHand ⟨Nat.le_of_ble_eq_true rfl, Nat.le_of_ble_eq_true rfl⟩) ⟨pW.blind, hrc, (pW.pre ⟨hK, hN⟩ hPc hDc)⟩ rfl rfl hl.1 rfl (lv_room (Nat.le_of_ble_eq_true rfl)) (dq_182 48 bcX5_doAct_1 (j := 46) (i := 140) rfl rfl rfl) ⟨Nat.le_of_ble_eq_true rfl, Nat.le_of_ble_eq_true rfl⟩) hS hFc hP hD [0, 1] [2, 3, 4] rfl rfl (by decide) (by decide) (fun H locs hP hD hS => ?_)
    have h9 := fixPD (ws' := [k_I E a_partners 8 c_partners, k_I E a_share 2 c_share, k_I E a_leftOver 2 c_leftOver, k_X5 a_ a_row a_partners c_askedCount c_outcome a_share a_leftOver, k_I E a_row 81 w_22]) hP hD rfl
    clear hP hD
    obtain ⟨hP, hD⟩ := h9
    refine lv_istore (lv' := [(5, .int r_21), (0, .ref a_), (1, .int p1), (2, .int p2), (3, .int p3), (4, .int p4)]) hx hb (dq_54 96 bcX5_doAct_2 (j := 1) (i := 5) rfl rfl) hl (by decide) rfl (fun ls hl => ?_)
    refine lv_goto (tgt := 137) hx hb (dq_167 96 bcX5_doAct_2 (j := 3) (i := 38) rfl rfl rfl) (by decide) ?_
    refine lv_aload_n hx hb (dq_42 96 bcX5_doAct_2 (j := 41) rfl rfl) rfl (lv_at hl 1 rfl) ?_
    refine gt_X5_0 (v := .ref a_row) hx hb hts i_f_X5_doAct_X5 hown hK hP 3 rfl (hts (.fieldLink RX5 11 "HushWatch$State" "row" "[I") (List.mem_of_getElem? (i := 1) rfl)) rfl (dq_180 96 bcX5_doAct_2 (j := 42) (i := 11) rfl rfl rfl) ?_
    refine lv_bipush (v := 11) hx hb (dq_16 96 bcX5_doAct_2 (j := 45) (i := 11) rfl rfl rfl) (by decide) ?_
    refine lv_dup2_11 hx hb (dq_92 96 bcX5_doAct_2 (j := 47) rfl rfl) rfl rfl ?_
    refine va_iald hx hb hK hP 4 0 rfl rfl (vin rfl) (dq_46 144 bcX5_doAct_3 (j := 0) rfl rfl) ?_
    refine W.eq (g2 := F0 m 145 ls [.int (w_22 11), .int (11 : Int32), .ref a_row]) rfl ?_
    refine lv_iload hx hb (dq_21 144 bcX5_doAct_3 (j := 1) (i := 5) rfl rfl) (lv_at hl 0 rfl) ?_
    refine lv_iadd hx hb (dq_96 144 bcX5_doAct_3 (j := 3) rfl rfl) ?_
    refine va_iast hx hb hK hP hD hS 4 0 rfl rfl (vin rfl) (dq_79 144 bcX5_doAct_3 (j := 4) rfl rfl) (fun H locs hP hD hS => ?_)
    have h9 := fixPD (ws' := [k_I E a_partners 8 c_partners, k_I E a_share 2 c_share, k_I E a_leftOver 2 c_leftOver, k_X5 a_ a_row a_partners c_askedCount c_outcome a_share a_leftOver, k_I E a_row 81 (upd w_22 11 ((w_22 11) + r_21))]) hP hD rfl
    clear hP hD
    obtain ⟨hP, hD⟩ := h9
    replace hF := nm_s hF
    obtain ⟨f_24, hf_24, hF⟩ := hF
    rw [← hf_24] at hP hD
    refine lv_iload hx hb (dq_21 144 bcX5_doAct_3 (j := 5) (i := 5) rfl rfl) (lv_at hl 0 rfl) ?_
    rw [hQ]
    have h9 := fin9 (P := fun u9 : Int32 × (Nat → Int32) × (Nat → Int32) × Int32 × Int32 × (Nat → Int32) × (Nat → Int32) => r_21 = u9.1 ∧ va_P E.1 vwCl (w_X5_doAct E a_ a_row a_partners a_share a_leftOver u9.2.2.2.1 u9.2.2.2.2.1 u9.2.1 u9.2.2.1 u9.2.2.2.2.2.1 u9.2.2.2.2.2.2) H ∧ va_D A (w_X5_doAct E a_ a_row a_partners a_share a_leftOver u9.2.2.2.1 u9.2.2.2.2.1 u9.2.1 u9.2.2.1 u9.2.2.2.2.2.1 u9.2.2.2.2.2.2)) hF ⟨rfl, hP.sub [3, 4, 0, 1, 2] rfl, hD.sub [3, 4, 0, 1, 2] (by decide) rfl⟩
    obtain ⟨e9_0, hP9, hD9⟩ := h9
    exact W.iret (v := r_21) hx hb hr (fun tt ht hW => ⟨⟨_, (), rfl, e9_0, ht ▸ hP9, hD9⟩, hS.F ht⟩) hS.2.2 (dq_172 144 bcX5_doAct_3 (j := 7) rfl rfl)
  replace hF := inn c_1_3 hF
  rcases Classical.em (p1 = (4 : Int32)) with c_1_4 | c_1_4
  ·
    replace hF := ip c_1_4 hF
    refine lv_tableIn (off := 98) (tgt := 102) hx hb dX5_doAct_4 (by rw [c_1_4]; decide) (by rw [c_1_4]; decide) (by rw [c_1_4]; decide) (by decide) ?_
    refine lv_aload_n hx hb (dq_42 96 bcX5_doAct_2 (j := 6) rfl rfl) rfl (lv_at hl 1 rfl) ?_
    refine lv_iload_n hx hb (dq_28 96 bcX5_doAct_2 (j := 7) rfl rfl) rfl (lv_at hl 3 rfl) ?_
    refine lv_iload_n hx hb (dq_29 96 bcX5_doAct_2 (j := 8) rfl rfl) rfl (lv_at hl 4 rfl) ?_
    replace hF := bd2_s hF
    obtain ⟨r_25, w_26, hc_27, hF⟩ := hF
    obtain ⟨hPc, hDc, hFc⟩ := wcut (wc := (w_X5_addTo E a_ a_row a_partners a_share a_leftOver c_askedCount c_outcome c_row)) hP hD hS hA [0, 1] (by decide) rfl
    have hrc := va_recv hK hPc (ci := 6) (q0 := 0) rfl rfl
    refine cE_i (wc := (w_X5_addTo E a_ a_row a_partners a_share a_leftOver c_askedCount c_outcome c_row)) (wr := [k_I E a_partners 8 c_partners, k_I E a_share 2 c_share, k_I E a_leftOver 2 c_leftOver]) (w1 := (w_X5_addTo E a_ a_row a_partners a_share a_leftOver c_askedCount c_outcome w_26)) (va_runV (As := [.int p2, .int p3]) (rest := [])  ⟨hx, hb, hml, hown, hts⟩ (f_X5_addTo l E H.size K (a_ := a_) (a_row := a_row) (a_partners := a_partners) (a_share := a_share) (a_leftOver := a_leftOver) (p1 := p2) (p2 := p3) (c_askedCount := c_askedCount) (c_outcome := c_outcome) (c_row := c_row) hc_27) (cwV 2 hts g_f_X5_doAct_f_X5_addTo_143 rfl rfl rfl hd_X5_addTo ⟨Nat.le_of_ble_eq_true rfl, Nat.le_of_ble_eq_true rfl⟩) ⟨pW.blind, hrc, (pW.pre ⟨hK, hN⟩ hPc hDc)⟩ rfl rfl hl.1 rfl (lv_room (Nat.le_of_ble_eq_true rfl)) (dq_182 96 bcX5_doAct_2 (j := 9) (i := 143) rfl rfl rfl) ⟨Nat.le_of_ble_eq_true rfl, Nat.le_of_ble_eq_true rfl⟩) hS hFc hP hD [0, 1] [2, 3, 4] rfl rfl (by decide) (by decide) (fun H locs hP hD hS => ?_)
    have h9 := fixPD (ws' := [k_I E a_partners 8 c_partners, k_I E a_share 2 c_share, k_I E a_leftOver 2 c_leftOver, k_X5 a_ a_row a_partners c_askedCount c_outcome a_share a_leftOver, k_I E a_row 81 w_26]) hP hD rfl
    clear hP hD
    obtain ⟨hP, hD⟩ := h9
    refine lv_istore (lv' := [(5, .int r_25), (0, .ref a_), (1, .int p1), (2, .int p2), (3, .int p3), (4, .int p4)]) hx hb (dq_54 96 bcX5_doAct_2 (j := 12) (i := 5) rfl rfl) hl (by decide) rfl (fun ls hl => ?_)
    refine lv_goto (tgt := 137) hx hb (dq_167 96 bcX5_doAct_2 (j := 14) (i := 27) rfl rfl rfl) (by decide) ?_
    refine lv_aload_n hx hb (dq_42 96 bcX5_doAct_2 (j := 41) rfl rfl) rfl (lv_at hl 1 rfl) ?_
    refine gt_X5_0 (v := .ref a_row) hx hb hts i_f_X5_doAct_X5 hown hK hP 3 rfl (hts (.fieldLink RX5 11 "HushWatch$State" "row" "[I") (List.mem_of_getElem? (i := 1) rfl)) rfl (dq_180 96 bcX5_doAct_2 (j := 42) (i := 11) rfl rfl rfl) ?_
    refine lv_bipush (v := 11) hx hb (dq_16 96 bcX5_doAct_2 (j := 45) (i := 11) rfl rfl rfl) (by decide) ?_
    refine lv_dup2_11 hx hb (dq_92 96 bcX5_doAct_2 (j := 47) rfl rfl) rfl rfl ?_
    refine va_iald hx hb hK hP 4 0 rfl rfl (vin rfl) (dq_46 144 bcX5_doAct_3 (j := 0) rfl rfl) ?_
    refine W.eq (g2 := F0 m 145 ls [.int (w_26 11), .int (11 : Int32), .ref a_row]) rfl ?_
    refine lv_iload hx hb (dq_21 144 bcX5_doAct_3 (j := 1) (i := 5) rfl rfl) (lv_at hl 0 rfl) ?_
    refine lv_iadd hx hb (dq_96 144 bcX5_doAct_3 (j := 3) rfl rfl) ?_
    refine va_iast hx hb hK hP hD hS 4 0 rfl rfl (vin rfl) (dq_79 144 bcX5_doAct_3 (j := 4) rfl rfl) (fun H locs hP hD hS => ?_)
    have h9 := fixPD (ws' := [k_I E a_partners 8 c_partners, k_I E a_share 2 c_share, k_I E a_leftOver 2 c_leftOver, k_X5 a_ a_row a_partners c_askedCount c_outcome a_share a_leftOver, k_I E a_row 81 (upd w_26 11 ((w_26 11) + r_25))]) hP hD rfl
    clear hP hD
    obtain ⟨hP, hD⟩ := h9
    replace hF := nm_s hF
    obtain ⟨f_28, hf_28, hF⟩ := hF
    rw [← hf_28] at hP hD
    refine lv_iload hx hb (dq_21 144 bcX5_doAct_3 (j := 5) (i := 5) rfl rfl) (lv_at hl 0 rfl) ?_
    rw [hQ]
    have h9 := fin9 (P := fun u9 : Int32 × (Nat → Int32) × (Nat → Int32) × Int32 × Int32 × (Nat → Int32) × (Nat → Int32) => r_25 = u9.1 ∧ va_P E.1 vwCl (w_X5_doAct E a_ a_row a_partners a_share a_leftOver u9.2.2.2.1 u9.2.2.2.2.1 u9.2.1 u9.2.2.1 u9.2.2.2.2.2.1 u9.2.2.2.2.2.2) H ∧ va_D A (w_X5_doAct E a_ a_row a_partners a_share a_leftOver u9.2.2.2.1 u9.2.2.2.2.1 u9.2.1 u9.2.2.1 u9.2.2.2.2.2.1 u9.2.2.2.2.2.2)) hF ⟨rfl, hP.sub [3, 4, 0, 1, 2] rfl, hD.sub [3, 4, 0, 1, 2] (by decide) rfl⟩
    obtain ⟨e9_0, hP9, hD9⟩ := h9
    exact W.iret (v := r_25) hx hb hr (fun tt ht hW => ⟨⟨_, (), rfl, e9_0, ht ▸ hP9, hD9⟩, hS.F ht⟩) hS.2.2 (dq_172 144 bcX5_doAct_3 (j := 7) rfl rfl)
  replace hF := inn c_1_4 hF
  rcases Classical.em (p1 = (5 : Int32)) with c_1_5 | c_1_5
  ·
    replace hF := ip c_1_5 hF
    refine lv_tableIn (off := 109) (tgt := 113) hx hb dX5_doAct_4 (by rw [c_1_5]; decide) (by rw [c_1_5]; decide) (by rw [c_1_5]; decide) (by decide) ?_
    refine lv_aload_n hx hb (dq_42 96 bcX5_doAct_2 (j := 17) rfl rfl) rfl (lv_at hl 1 rfl) ?_
    refine lv_iload_n hx hb (dq_28 96 bcX5_doAct_2 (j := 18) rfl rfl) rfl (lv_at hl 3 rfl) ?_
    replace hF := bd1_s hF
    obtain ⟨w_29, hc_30, hF⟩ := hF
    obtain ⟨hPc, hDc, hFc⟩ := wcut (wc := (w_X5_startCounts E a_ a_row a_partners a_share a_leftOver c_askedCount c_outcome c_row)) hP hD hS hA [0, 1] (by decide) rfl
    have hrc := va_recv hK hPc (ci := 6) (q0 := 0) rfl rfl
    refine cE_v (wc := (w_X5_startCounts E a_ a_row a_partners a_share a_leftOver c_askedCount c_outcome c_row)) (wr := [k_I E a_partners 8 c_partners, k_I E a_share 2 c_share, k_I E a_leftOver 2 c_leftOver]) (w1 := (w_X5_startCounts E a_ a_row a_partners a_share a_leftOver c_askedCount c_outcome w_29)) (va_runV (As := [.int p2]) (rest := [])  ⟨hx, hb, hml, hown, hts⟩ (f_X5_startCounts l E H.size K (a_ := a_) (a_row := a_row) (a_partners := a_partners) (a_share := a_share) (a_leftOver := a_leftOver) (p1 := p2) (c_askedCount := c_askedCount) (c_outcome := c_outcome) (c_row := c_row) hc_30) (cwV 1 hts g_f_X5_doAct_f_X5_startCounts_146 rfl rfl rfl hd_X5_startCounts ⟨Nat.le_of_ble_eq_true rfl, Nat.le_of_ble_eq_true rfl⟩) ⟨pW.blind, hrc, (pW.pre ⟨hK, hN⟩ hPc hDc)⟩ rfl rfl hl.1 rfl (lv_room (Nat.le_of_ble_eq_true rfl)) (dq_182 96 bcX5_doAct_2 (j := 19) (i := 146) rfl rfl rfl) ⟨Nat.le_of_ble_eq_true rfl, Nat.le_of_ble_eq_true rfl⟩) hS hFc hP hD [0, 1] [2, 3, 4] rfl rfl (by decide) (by decide) (fun H locs hP hD hS => ?_)
    have h9 := fixPD (ws' := [k_I E a_partners 8 c_partners, k_I E a_share 2 c_share, k_I E a_leftOver 2 c_leftOver, k_X5 a_ a_row a_partners c_askedCount c_outcome a_share a_leftOver, k_I E a_row 81 w_29]) hP hD rfl
    clear hP hD
    obtain ⟨hP, hD⟩ := h9
    refine lv_goto (tgt := 137) hx hb (dq_167 96 bcX5_doAct_2 (j := 22) (i := 19) rfl rfl rfl) (by decide) ?_
    refine lv_aload_n hx hb (dq_42 96 bcX5_doAct_2 (j := 41) rfl rfl) rfl (lv_at hl 1 rfl) ?_
    refine gt_X5_0 (v := .ref a_row) hx hb hts i_f_X5_doAct_X5 hown hK hP 3 rfl (hts (.fieldLink RX5 11 "HushWatch$State" "row" "[I") (List.mem_of_getElem? (i := 1) rfl)) rfl (dq_180 96 bcX5_doAct_2 (j := 42) (i := 11) rfl rfl rfl) ?_
    refine lv_bipush (v := 11) hx hb (dq_16 96 bcX5_doAct_2 (j := 45) (i := 11) rfl rfl rfl) (by decide) ?_
    refine lv_dup2_11 hx hb (dq_92 96 bcX5_doAct_2 (j := 47) rfl rfl) rfl rfl ?_
    refine va_iald hx hb hK hP 4 0 rfl rfl (vin rfl) (dq_46 144 bcX5_doAct_3 (j := 0) rfl rfl) ?_
    refine W.eq (g2 := F0 m 145 ls [.int (w_29 11), .int (11 : Int32), .ref a_row]) rfl ?_
    refine lv_iload hx hb (dq_21 144 bcX5_doAct_3 (j := 1) (i := 5) rfl rfl) (lv_at hl 0 rfl) ?_
    refine lv_iadd hx hb (dq_96 144 bcX5_doAct_3 (j := 3) rfl rfl) ?_
    refine va_iast hx hb hK hP hD hS 4 0 rfl rfl (vin rfl) (dq_79 144 bcX5_doAct_3 (j := 4) rfl rfl) (fun H locs hP hD hS => ?_)
    have h9 := fixPD (ws' := [k_I E a_partners 8 c_partners, k_I E a_share 2 c_share, k_I E a_leftOver 2 c_leftOver, k_X5 a_ a_row a_partners c_askedCount c_outcome a_share a_leftOver, k_I E a_row 81 (upd w_29 11 ((w_29 11) + (0 : Int32)))]) hP hD rfl
    clear hP hD
    obtain ⟨hP, hD⟩ := h9
    replace hF := nm_s hF
    obtain ⟨f_31, hf_31, hF⟩ := hF
    rw [← hf_31] at hP hD
    refine lv_iload hx hb (dq_21 144 bcX5_doAct_3 (j := 5) (i := 5) rfl rfl) (lv_at hl 0 rfl) ?_
    rw [hQ]
    have h9 := fin9 (P := fun u9 : Int32 × (Nat → Int32) × (Nat → Int32) × Int32 × Int32 × (Nat → Int32) × (Nat → Int32) => (0 : Int32) = u9.1 ∧ va_P E.1 vwCl (w_X5_doAct E a_ a_row a_partners a_share a_leftOver u9.2.2.2.1 u9.2.2.2.2.1 u9.2.1 u9.2.2.1 u9.2.2.2.2.2.1 u9.2.2.2.2.2.2) H ∧ va_D A (w_X5_doAct E a_ a_row a_partners a_share a_leftOver u9.2.2.2.1 u9.2.2.2.2.1 u9.2.1 u9.2.2.1 u9.2.2.2.2.2.1 u9.2.2.2.2.2.2)) hF ⟨rfl, hP.sub [3, 4, 0, 1, 2] rfl, hD.sub [3, 4, 0, 1, 2] (by decide) rfl⟩
    obtain ⟨e9_0, hP9, hD9⟩ := h9
    exact W.iret (v := (0 : Int32)) hx hb hr (fun tt ht hW => ⟨⟨_, (), rfl, e9_0, ht ▸ hP9, hD9⟩, hS.F ht⟩) hS.2.2 (dq_172 144 bcX5_doAct_3 (j := 7) rfl rfl)
  replace hF := inn c_1_5 hF
  rcases Classical.em (p1 = (6 : Int32)) with c_1_6 | c_1_6
  ·
    replace hF := ip c_1_6 hF
    refine lv_tableIn (off := 117) (tgt := 121) hx hb dX5_doAct_4 (by rw [c_1_6]; decide) (by rw [c_1_6]; decide) (by rw [c_1_6]; decide) (by decide) ?_
    refine lv_aload_n hx hb (dq_42 96 bcX5_doAct_2 (j := 25) rfl rfl) rfl (lv_at hl 1 rfl) ?_
    refine gt_X5_0 (v := .ref a_row) hx hb hts i_f_X5_doAct_X5 hown hK hP 0 rfl (hts (.fieldLink RX5 11 "HushWatch$State" "row" "[I") (List.mem_of_getElem? (i := 1) rfl)) rfl (dq_180 96 bcX5_doAct_2 (j := 26) (i := 11) rfl rfl rfl) ?_
    refine lv_bipush (v := 7) hx hb (dq_16 96 bcX5_doAct_2 (j := 29) (i := 7) rfl rfl rfl) (by decide) ?_
    refine lv_dup2_11 hx hb (dq_92 96 bcX5_doAct_2 (j := 31) rfl rfl) rfl rfl ?_
    refine va_iald hx hb hK hP 1 0 rfl rfl (vin rfl) (dq_46 96 bcX5_doAct_2 (j := 32) rfl rfl) ?_
    refine W.eq (g2 := F0 m 129 ls [.int (c_row 7), .int (7 : Int32), .ref a_row]) rfl ?_
    refine lv_iconst (v := 1) hx hb (dq_4 96 bcX5_doAct_2 (j := 33) rfl rfl) (by decide) ?_
    refine lv_iload_n hx hb (dq_28 96 bcX5_doAct_2 (j := 34) rfl rfl) rfl (lv_at hl 3 rfl) ?_
    refine lv_ishl hx hb (dq_120 96 bcX5_doAct_2 (j := 35) rfl rfl) ?_
    refine lv_ixor hx hb (dq_130 96 bcX5_doAct_2 (j := 36) rfl rfl) ?_
    refine va_iast hx hb hK hP hD hS 1 0 rfl rfl (vin rfl) (dq_79 96 bcX5_doAct_2 (j := 37) rfl rfl) (fun H locs hP hD hS => ?_)
    have h9 := fixPD (ws' := [k_X5 a_ a_row a_partners c_askedCount c_outcome a_share a_leftOver, k_I E a_row 81 (upd c_row 7 ((c_row 7) ^^^ ((1 : Int32) <<< (p2 &&& (31 : Int32))))), k_I E a_partners 8 c_partners, k_I E a_share 2 c_share, k_I E a_leftOver 2 c_leftOver]) hP hD rfl
    clear hP hD
    obtain ⟨hP, hD⟩ := h9
    replace hF := nm_s hF
    obtain ⟨f_32, hf_32, hF⟩ := hF
    rw [← hf_32] at hP hD
    refine lv_goto (tgt := 137) hx hb (dq_167 96 bcX5_doAct_2 (j := 38) (i := 3) rfl rfl rfl) (by decide) ?_
    refine lv_aload_n hx hb (dq_42 96 bcX5_doAct_2 (j := 41) rfl rfl) rfl (lv_at hl 1 rfl) ?_
    refine gt_X5_0 (v := .ref a_row) hx hb hts i_f_X5_doAct_X5 hown hK hP 0 rfl (hts (.fieldLink RX5 11 "HushWatch$State" "row" "[I") (List.mem_of_getElem? (i := 1) rfl)) rfl (dq_180 96 bcX5_doAct_2 (j := 42) (i := 11) rfl rfl rfl) ?_
    refine lv_bipush (v := 11) hx hb (dq_16 96 bcX5_doAct_2 (j := 45) (i := 11) rfl rfl rfl) (by decide) ?_
    refine lv_dup2_11 hx hb (dq_92 96 bcX5_doAct_2 (j := 47) rfl rfl) rfl rfl ?_
    refine va_iald hx hb hK hP 1 0 rfl rfl (vin rfl) (dq_46 144 bcX5_doAct_3 (j := 0) rfl rfl) ?_
    refine W.eq (g2 := F0 m 145 ls [.int (f_32 11), .int (11 : Int32), .ref a_row]) rfl ?_
    refine lv_iload hx hb (dq_21 144 bcX5_doAct_3 (j := 1) (i := 5) rfl rfl) (lv_at hl 0 rfl) ?_
    refine lv_iadd hx hb (dq_96 144 bcX5_doAct_3 (j := 3) rfl rfl) ?_
    refine va_iast hx hb hK hP hD hS 1 0 rfl rfl (vin rfl) (dq_79 144 bcX5_doAct_3 (j := 4) rfl rfl) (fun H locs hP hD hS => ?_)
    have h9 := fixPD (ws' := [k_X5 a_ a_row a_partners c_askedCount c_outcome a_share a_leftOver, k_I E a_row 81 (upd f_32 11 ((f_32 11) + (0 : Int32))), k_I E a_partners 8 c_partners, k_I E a_share 2 c_share, k_I E a_leftOver 2 c_leftOver]) hP hD rfl
    clear hP hD
    obtain ⟨hP, hD⟩ := h9
    replace hF := nm_s hF
    obtain ⟨f_33, hf_33, hF⟩ := hF
    rw [← hf_33] at hP hD
    refine lv_iload hx hb (dq_21 144 bcX5_doAct_3 (j := 5) (i := 5) rfl rfl) (lv_at hl 0 rfl) ?_
    rw [hQ]
    have h9 := fin9 (P := fun u9 : Int32 × (Nat → Int32) × (Nat → Int32) × Int32 × Int32 × (Nat → Int32) × (Nat → Int32) => (0 : Int32) = u9.1 ∧ va_P E.1 vwCl (w_X5_doAct E a_ a_row a_partners a_share a_leftOver u9.2.2.2.1 u9.2.2.2.2.1 u9.2.1 u9.2.2.1 u9.2.2.2.2.2.1 u9.2.2.2.2.2.2) H ∧ va_D A (w_X5_doAct E a_ a_row a_partners a_share a_leftOver u9.2.2.2.1 u9.2.2.2.2.1 u9.2.1 u9.2.2.1 u9.2.2.2.2.2.1 u9.2.2.2.2.2.2)) hF ⟨rfl, hP, hD⟩
    obtain ⟨e9_0, hP9, hD9⟩ := h9
    exact W.iret (v := (0 : Int32)) hx hb hr (fun tt ht hW => ⟨⟨_, (), rfl, e9_0, ht ▸ hP9, hD9⟩, hS.F ht⟩) hS.2.2 (dq_172 144 bcX5_doAct_3 (j := 7) rfl rfl)
  replace hF := inn c_1_6 hF
  refine lv_tableOut (tgt := 137) hx hb dX5_doAct_4 (by have t0 : (0 : Int32).toInt = 0 := (by decide); have t1 : (1 : Int32).toInt = 1 := (by decide); have t2 : (2 : Int32).toInt = 2 := (by decide); have t3 : (3 : Int32).toInt = 3 := (by decide); have t4 : (4 : Int32).toInt = 4 := (by decide); have t5 : (5 : Int32).toInt = 5 := (by decide); have t6 : (6 : Int32).toInt = 6 := (by decide); simp only [← Int32.toInt_inj, t0, t1, t2, t3, t4, t5, t6] at c_1_0 c_1_1 c_1_2 c_1_3 c_1_4 c_1_5 c_1_6; omega) (by decide) ?_
  refine lv_aload_n hx hb (dq_42 96 bcX5_doAct_2 (j := 41) rfl rfl) rfl (lv_at hl 1 rfl) ?_
  refine gt_X5_0 (v := .ref a_row) hx hb hts i_f_X5_doAct_X5 hown hK hP 0 rfl (hts (.fieldLink RX5 11 "HushWatch$State" "row" "[I") (List.mem_of_getElem? (i := 1) rfl)) rfl (dq_180 96 bcX5_doAct_2 (j := 42) (i := 11) rfl rfl rfl) ?_
  refine lv_bipush (v := 11) hx hb (dq_16 96 bcX5_doAct_2 (j := 45) (i := 11) rfl rfl rfl) (by decide) ?_
  refine lv_dup2_11 hx hb (dq_92 96 bcX5_doAct_2 (j := 47) rfl rfl) rfl rfl ?_
  refine va_iald hx hb hK hP 1 0 rfl rfl (vin rfl) (dq_46 144 bcX5_doAct_3 (j := 0) rfl rfl) ?_
  refine W.eq (g2 := F0 m 145 ls [.int (c_row 11), .int (11 : Int32), .ref a_row]) rfl ?_
  refine lv_iload hx hb (dq_21 144 bcX5_doAct_3 (j := 1) (i := 5) rfl rfl) (lv_at hl 0 rfl) ?_
  refine lv_iadd hx hb (dq_96 144 bcX5_doAct_3 (j := 3) rfl rfl) ?_
  refine va_iast hx hb hK hP hD hS 1 0 rfl rfl (vin rfl) (dq_79 144 bcX5_doAct_3 (j := 4) rfl rfl) (fun H locs hP hD hS => ?_)
  have h9 := fixPD (ws' := [k_X5 a_ a_row a_partners c_askedCount c_outcome a_share a_leftOver, k_I E a_row 81 (upd c_row 11 ((c_row 11) + (0 : Int32))), k_I E a_partners 8 c_partners, k_I E a_share 2 c_share, k_I E a_leftOver 2 c_leftOver]) hP hD rfl
  clear hP hD
  obtain ⟨hP, hD⟩ := h9
  replace hF := nm_s hF
  obtain ⟨f_34, hf_34, hF⟩ := hF
  rw [← hf_34] at hP hD
  refine lv_iload hx hb (dq_21 144 bcX5_doAct_3 (j := 5) (i := 5) rfl rfl) (lv_at hl 0 rfl) ?_
  rw [hQ]
  have h9 := fin9 (P := fun u9 : Int32 × (Nat → Int32) × (Nat → Int32) × Int32 × Int32 × (Nat → Int32) × (Nat → Int32) => (0 : Int32) = u9.1 ∧ va_P E.1 vwCl (w_X5_doAct E a_ a_row a_partners a_share a_leftOver u9.2.2.2.1 u9.2.2.2.2.1 u9.2.1 u9.2.2.1 u9.2.2.2.2.2.1 u9.2.2.2.2.2.2) H ∧ va_D A (w_X5_doAct E a_ a_row a_partners a_share a_leftOver u9.2.2.2.1 u9.2.2.2.2.1 u9.2.1 u9.2.2.1 u9.2.2.2.2.2.1 u9.2.2.2.2.2.2)) hF ⟨rfl, hP, hD⟩
  obtain ⟨e9_0, hP9, hD9⟩ := h9
  exact W.iret (v := (0 : Int32)) hx hb hr (fun tt ht hW => ⟨⟨_, (), rfl, e9_0, ht ▸ hP9, hD9⟩, hS.F ht⟩) hS.2.2 (dq_172 144 bcX5_doAct_3 (j := 7) rfl rfl)
end
-- 20.st05
section
noncomputable def blX5_freezeRefusal_0 : List Nat := [42, 27, 182, 0, 79, 154, 0, 5, 3, 172, 4, 42, 180, 0, 11, 6, 46, 120, 4, 100, 61, 42, 180, 0, 11, 16, 7, 46, 4, 27, 120, 128, 28, 160, 0, 15, 42, 27, 182, 0, 131, 154, 0, 7, 5, 167, 0, 4, 2, 172]
set_option maxRecDepth 100000 in
theorem bcX5_freezeRefusal_0 : ((cX5_freezeRefusal.data.toList.drop 0).take blX5_freezeRefusal_0.length).map UInt8.toNat = blX5_freezeRefusal_0 := by decide +kernel
noncomputable def blX5_freezeRefusal_1 : List Nat := [2, 172]
set_option maxRecDepth 100000 in
theorem bcX5_freezeRefusal_1 : ((cX5_freezeRefusal.data.toList.drop 48).take blX5_freezeRefusal_1.length).map UInt8.toNat = blX5_freezeRefusal_1 := by decide +kernel
noncomputable def blX5_hasRoom_0 : List Nat := [42, 27, 3, 182, 0, 69, 28, 96, 184, 0, 94, 18, 98, 163, 0, 23, 42, 27, 4, 182, 0, 69, 29, 96, 184, 0, 94, 18, 98, 163, 0, 7, 4, 167, 0, 4, 3, 172]
set_option maxRecDepth 100000 in
theorem bcX5_hasRoom_0 : ((cX5_hasRoom.data.toList.drop 0).take blX5_hasRoom_0.length).map UInt8.toNat = blX5_hasRoom_0 := by decide +kernel
noncomputable def blX5_isQuietWith_0 : List Nat := [42, 42, 27, 3, 182, 0, 72, 28, 96, 42, 27, 4, 182, 0, 72, 29, 96, 182, 0, 87, 172]
set_option maxRecDepth 100000 in
theorem bcX5_isQuietWith_0 : ((cX5_isQuietWith.data.toList.drop 0).take blX5_isQuietWith_0.length).map UInt8.toNat = blX5_isQuietWith_0 := by decide +kernel
noncomputable def blX7_isMovable_0 : List Nat := [26, 17, 216, 241, 161, 0, 28, 26, 17, 39, 15, 163, 0, 21, 27, 17, 216, 241, 161, 0, 14, 27, 17, 39, 15, 163, 0, 7, 4, 167, 0, 4, 3, 172]
set_option maxRecDepth 100000 in
theorem bcX7_isMovable_0 : ((cX7_isMovable.data.toList.drop 0).take blX7_isMovable_0.length).map UInt8.toNat = blX7_isMovable_0 := by decide +kernel
noncomputable def blX5_moveRefusal_0 : List Nat := [42, 27, 182, 0, 79, 154, 0, 5, 3, 172, 28, 29, 184, 0, 124, 153, 0, 13, 42, 27, 28, 29, 182, 0, 127, 154, 0, 5, 4, 172, 28, 154, 0, 7, 29, 153, 0, 11, 42, 27, 182, 0, 131, 153, 0, 7, 5, 167, 0, 4, 2]
set_option maxRecDepth 100000 in
theorem bcX5_moveRefusal_0 : ((cX5_moveRefusal.data.toList.drop 0).take blX5_moveRefusal_0.length).map UInt8.toNat = blX5_moveRefusal_0 := by decide +kernel
noncomputable def blX5_moveRefusal_1 : List Nat := [0, 4, 2, 172]
set_option maxRecDepth 100000 in
theorem bcX5_moveRefusal_1 : ((cX5_moveRefusal.data.toList.drop 48).take blX5_moveRefusal_1.length).map UInt8.toNat = blX5_moveRefusal_1 := by decide +kernel
noncomputable def blX5_point_0 : List Nat := [28, 154, 0, 12, 42, 180, 0, 11, 7, 46, 167, 0, 9, 42, 180, 0, 11, 8, 46, 42, 180, 0, 11, 6, 46, 42, 27, 28, 182, 0, 72, 104, 96, 172]
set_option maxRecDepth 100000 in
theorem bcX5_point_0 : ((cX5_point.data.toList.drop 0).take blX5_point_0.length).map UInt8.toNat = blX5_point_0 := by decide +kernel
noncomputable def blX5_pointValue_0 : List Nat := [42, 42, 27, 3, 182, 0, 91, 42, 180, 0, 11, 6, 46, 28, 104, 96, 133, 42, 27, 4, 182, 0, 91, 42, 180, 0, 11, 6, 46, 29, 104, 96, 133, 182, 0, 75, 173]
set_option maxRecDepth 100000 in
theorem bcX5_pointValue_0 : ((cX5_pointValue.data.toList.drop 0).take blX5_pointValue_0.length).map UInt8.toNat = blX5_pointValue_0 := by decide +kernel
noncomputable def blX5_quietSites_0 : List Nat := [3, 60, 3, 61, 28, 42, 182, 0, 45, 162, 0, 27, 27, 42, 28, 182, 0, 99, 153, 0, 9, 4, 28, 120, 167, 0, 4, 3, 128, 60, 132, 2, 1, 167, 255, 227, 27, 172]
set_option maxRecDepth 100000 in
theorem bcX5_quietSites_0 : ((cX5_quietSites.data.toList.drop 0).take blX5_quietSites_0.length).map UInt8.toNat = blX5_quietSites_0 := by decide +kernel
noncomputable def blX5_stands_0 : List Nat := [42, 180, 0, 11, 6, 46, 158, 0, 7, 4, 167, 0, 4, 3, 172]
set_option maxRecDepth 100000 in
theorem bcX5_stands_0 : ((cX5_stands.data.toList.drop 0).take blX5_stands_0.length).map UInt8.toNat = blX5_stands_0 := by decide +kernel
noncomputable def blX5_setRefusal_0 : List Nat := [26, 27, 161, 0, 8, 26, 28, 164, 0, 5, 4, 172, 26, 29, 160, 0, 7, 5, 167, 0, 4, 2, 172]
set_option maxRecDepth 100000 in
theorem bcX5_setRefusal_0 : ((cX5_setRefusal.data.toList.drop 0).take blX5_setRefusal_0.length).map UInt8.toNat = blX5_setRefusal_0 := by decide +kernel
noncomputable def blX5_refusal_0 : List Nat := [42, 182, 0, 105, 154, 0, 5, 3, 172, 27, 170, 0, 0, 0, 0, 110, 0, 0, 0, 0, 0, 0, 0, 6, 0, 0, 0, 42, 0, 0, 0, 110, 0, 0, 0, 51, 0, 0, 0, 66, 0, 0, 0, 79, 0, 0, 0, 86, 0, 0, 0]
set_option maxRecDepth 100000 in
theorem bcX5_refusal_0 : ((cX5_refusal.data.toList.drop 0).take blX5_refusal_0.length).map UInt8.toNat = blX5_refusal_0 := by decide +kernel
noncomputable def blX5_refusal_1 : List Nat := [0, 0, 0, 104, 42, 28, 29, 21, 4, 182, 0, 108, 172, 28, 18, 112, 18, 113, 42, 180, 0, 11, 4, 46, 184, 0, 114, 172, 28, 3, 6, 42, 180, 0, 11, 3, 46, 184, 0, 114, 172, 42, 28, 29, 182, 0, 118, 172, 28, 4, 161]
set_option maxRecDepth 100000 in
theorem bcX5_refusal_1 : ((cX5_refusal.data.toList.drop 48).take blX5_refusal_1.length).map UInt8.toNat = blX5_refusal_1 := by decide +kernel
noncomputable def blX5_refusal_2 : List Nat := [28, 4, 161, 0, 10, 28, 17, 39, 15, 164, 0, 7, 4, 167, 0, 4, 2, 172, 42, 28, 182, 0, 121, 172, 2, 172]
set_option maxRecDepth 100000 in
theorem bcX5_refusal_2 : ((cX5_refusal.data.toList.drop 96).take blX5_refusal_2.length).map UInt8.toNat = blX5_refusal_2 := by decide +kernel
noncomputable def blX5_slackLength_0 : List Nat := [42, 27, 7, 182, 0, 69, 184, 0, 94, 42, 27, 8, 182, 0, 69, 184, 0, 94, 96, 172]
set_option maxRecDepth 100000 in
theorem bcX5_slackLength_0 : ((cX5_slackLength.data.toList.drop 0).take blX5_slackLength_0.length).map UInt8.toNat = blX5_slackLength_0 := by decide +kernel
noncomputable def blX5_slackSites_0 : List Nat := [3, 60, 3, 61, 28, 42, 182, 0, 45, 162, 0, 27, 27, 42, 28, 182, 0, 102, 153, 0, 9, 4, 28, 120, 167, 0, 4, 3, 128, 60, 132, 2, 1, 167, 255, 227, 27, 172]
set_option maxRecDepth 100000 in
theorem bcX5_slackSites_0 : ((cX5_slackSites.data.toList.drop 0).take blX5_slackSites_0.length).map UInt8.toNat = blX5_slackSites_0 := by decide +kernel
def dl_X5_refusal_20_st05_0 : List (Nat × Instr × Nat) := [(10, .tableswitch 110 0 6 #[42, 110, 51, 66, 79, 86, 104], 42)]
set_option maxRecDepth 100000 in
theorem dall_X5_refusal_20_st05_0 : dchk cX5_refusal dl_X5_refusal_20_st05_0 = true := by decide +kernel
theorem dX5_refusal_10 : decode cX5_refusal 10 = .ok (.tableswitch 110 0 6 #[42, 110, 51, 66, 79, 86, 104], 42) := dchk_at dall_X5_refusal_20_st05_0 (k := 0) rfl
def F_X5_freezeRefusal (p1 : Int32) (c_row : Nat → Int32) : Option (Int32) :=
  bd1 (F_X5_hasSite p1 c_row) (fun r_1 => if r_1 = (0 : Int32) then some (0 : Int32) else if (c_row 7) ||| ((1 : Int32) <<< (p1 &&& (31 : Int32))) = ((1 : Int32) <<< ((c_row 3) &&& (31 : Int32))) - (1 : Int32) then bd1 (F_X5_isFrozen p1 c_row) (fun r_6 => if r_6 = (0 : Int32) then some (2 : Int32) else some (-1 : Int32)) else some (-1 : Int32))
abbrev w_X5_freezeRefusal (E : EE) (a_ a_row a_partners a_share a_leftOver : Nat) (c_askedCount : Int32) (c_outcome : Int32) (c_row : Nat → Int32) : va_W := [k_X5 a_ a_row a_partners c_askedCount c_outcome a_share a_leftOver, k_I E a_row 81 c_row]
def v_f_X5_freezeRefusal : List Cond := List.cons (.code yX5_freezeRefusal cX5_freezeRefusal 3 (some .int)) (HAppend.hAppend (α := List Cond) (β := List Cond) (γ := List Cond) [.fieldLink RX5 11 "HushWatch$State" "row" "[I", .methodLink RX5 79 yX5_hasSite, .instanceMethod yX5_hasSite, .selects RX5 yX5_hasSite yX5_hasSite, .initialized RX5, .methodLink RX5 131 yX5_isFrozen, .instanceMethod yX5_isFrozen, .selects RX5 yX5_isFrozen yX5_isFrozen] (HAppend.hAppend (α := List Cond) (β := List Cond) (γ := List Cond) v_f_X5_hasSite (HAppend.hAppend (α := List Cond) (β := List Cond) (γ := List Cond) wsX50 (HAppend.hAppend (α := List Cond) (β := List Cond) (γ := List Cond) v_f_X5_isFrozen []))))
theorem gw_f_X5_freezeRefusal : v_f_X5_freezeRefusal.all goodWord = true := gw_c2 (by decide +kernel) (gw_ap gw_f_X5_hasSite (gw_ap gw_wsX50 (gw_ap gw_f_X5_isFrozen gw_nil)))
theorem i_f_X5_freezeRefusal_X5 : ∀ w ∈ wsX50, w ∈ v_f_X5_freezeRefusal := fun _ h => List.mem_cons_of_mem _ (List.mem_append_right _ (List.mem_append_right _ (List.mem_append_left _ h)))
theorem g_f_X5_freezeRefusal_f_X5_hasSite_79 : GoodIn v_f_X5_freezeRefusal (wsV RX5 79 RX5 yX5_hasSite v_f_X5_hasSite) := goodIn_in gw_f_X5_freezeRefusal (in4 2 3 4 5 rfl rfl rfl rfl (fun _ h => List.mem_cons_of_mem _ (List.mem_append_right _ (List.mem_append_left _ h))))
theorem g_f_X5_freezeRefusal_f_X5_isFrozen_131 : GoodIn v_f_X5_freezeRefusal (wsV RX5 131 RX5 yX5_isFrozen v_f_X5_isFrozen) := goodIn_in gw_f_X5_freezeRefusal (in4 6 7 8 5 rfl rfl rfl rfl (fun _ h => List.mem_cons_of_mem _ (List.mem_append_right _ (List.mem_append_right _ (List.mem_append_right _ (List.mem_append_left _ h))))))
theorem hd_X5_freezeRefusal : yX5_freezeRefusal.cls = RX5 ∧ yX5_freezeRefusal.cls ≠ "java/lang/invoke/MethodHandle" ∧ yX5_freezeRefusal.cls ≠ "java/lang/invoke/VarHandle" ∧ (parseMethodDescriptor yX5_freezeRefusal.desc).map (fun d => d.parameters.length) = some 1 := by decide +kernel
set_option maxHeartbeats 4000000 in
set_option maxRecDepth 100000 in
theorem f_X5_freezeRefusal (l : Launch) (E : EE) {a_ a_row a_partners a_share a_leftOver : Nat} {p1 : Int32} {c_askedCount : Int32} {c_outcome : Int32} {c_row : Nat → Int32} {rr : Int32} (hF : F_X5_freezeRefusal p1 c_row = some rr) : Met l yX5_freezeRefusal v_f_X5_freezeRefusal (({ frames := 2, cells := 0, slots := 0, locals := 42 } : Room)) (va_Pc [.ref a_, .int p1] (pP E (w_X5_freezeRefusal E a_ a_row a_partners a_share a_leftOver c_askedCount c_outcome c_row))) (vp_Si (fun q : Int32 => q = rr)) 0 0 (fun _ => False) := by
  refine Met.ofW (cc := cX5_freezeRefusal) (maxL := 3) (ret := (some .int)) (by decide) rfl ?_
  intro p e s m args below meth c s₁ B hml hv
  obtain ⟨rfl, ⟨hK, hN⟩, hP⟩ := hv
  have hx := B.exec
  have hb := B.bytes
  have hr := B.returns
  have hts := atoms_spec (ws := v_f_X5_freezeRefusal) B.pre
  have hown : s.vm.findClass RX5 = some m.cls := own_of hd_X5_freezeRefusal.1 (findClass_of_methodNamed B.named)
  have hlocks : meth.locks = false := B.notSynchronized
  replace hP : va_P E.1 vwCl [k_X5 a_ a_row a_partners c_askedCount c_outcome a_share a_leftOver, k_I E a_row 81 c_row] s.heap := hP
  have hl := lv_entry ([.ref a_, .int p1]) (n := 3) (Nat.le_of_ble_eq_true rfl)
  rw [lg_entry_eq]
  generalize (lg_sl ([.ref a_, .int p1]) ++ List.replicate (3 - (lg_sl ([.ref a_, .int p1])).length) Slot.unset).toArray = ls at hl ⊢
  have hl : lv_has ls 3 [(0, .ref a_), (1, .int p1)] := hl
  obtain ⟨Q, hQ⟩ : ∃ Q : State → Prop, Q = MQ below (vp_Si (fun q : Int32 => q = rr)) #[Value.ref a_, Value.int p1] s 0 0 (fun _ => False) := ⟨_, rfl⟩
  rw [← hQ]
  change W p l e ({ frames := 2, cells := 0, slots := 0, locals := 42 } : Room) s m #[Value.ref a_, Value.int p1] below meth c s.heap [] 0 0 Q (F0 m 0 ls [])
  unfold F_X5_freezeRefusal at hF
  refine lv_aload_n hx hb (dq_42 0 bcX5_freezeRefusal_0 (j := 0) rfl rfl) rfl (lv_at hl 0 rfl) ?_
  refine lv_iload_n hx hb (dq_27 0 bcX5_freezeRefusal_0 (j := 1) rfl rfl) rfl (lv_at hl 1 rfl) ?_
  replace hF := bd1_s hF
  obtain ⟨r_1, hc_2, hF⟩ := hF
  have hPc : va_P E.1 vwCl (w_X5_hasSite E a_ a_row a_partners a_share a_leftOver c_askedCount c_outcome c_row) s.heap := hP.sub (ws' := [k_X5 a_ a_row a_partners c_askedCount c_outcome a_share a_leftOver, k_I E a_row 81 c_row]) [0, 1] rfl
  have hrc := va_recv hK hPc (ci := 6) (q0 := 0) rfl rfl
  refine pE_z (va_runV (As := [.int p1]) (rest := [])  ⟨hx, hb, hml, hown, hts⟩ (f_X5_hasSite l E (a_ := a_) (a_row := a_row) (a_partners := a_partners) (a_share := a_share) (a_leftOver := a_leftOver) (p1 := p1) (c_askedCount := c_askedCount) (c_outcome := c_outcome) (c_row := c_row) hc_2) (cwV 1 hts g_f_X5_freezeRefusal_f_X5_hasSite_79 rfl rfl rfl hd_X5_hasSite ⟨Nat.le_of_ble_eq_true rfl, Nat.le_of_ble_eq_true rfl⟩) ⟨pP.blind, hrc, (pP.pre ⟨hK, hN⟩ hPc)⟩ rfl rfl hl.1 rfl (lv_room (Nat.le_of_ble_eq_true rfl)) (dq_182 0 bcX5_freezeRefusal_0 (j := 2) (i := 79) rfl rfl rfl) ⟨Nat.le_of_ble_eq_true rfl, Nat.le_of_ble_eq_true rfl⟩) (fun hb_3 => ?_)
  refine lv_if_ne (tgt := 10) hx hb (dq_154 0 bcX5_freezeRefusal_0 (j := 5) (i := 5) rfl rfl rfl) (by decide) (fun c_4 => ?_) (fun c_4 => ?_)
  ·
    replace hF := inn c_4 hF
    refine lv_iconst (v := 1) hx hb (dq_4 0 bcX5_freezeRefusal_0 (j := 10) rfl rfl) (by decide) ?_
    refine lv_aload_n hx hb (dq_42 0 bcX5_freezeRefusal_0 (j := 11) rfl rfl) rfl (lv_at hl 0 rfl) ?_
    refine gt_X5_0 (v := .ref a_row) hx hb hts i_f_X5_freezeRefusal_X5 hown hK hP 0 rfl (hts (.fieldLink RX5 11 "HushWatch$State" "row" "[I") (List.mem_of_getElem? (i := 1) rfl)) rfl (dq_180 0 bcX5_freezeRefusal_0 (j := 12) (i := 11) rfl rfl rfl) ?_
    refine lv_iconst (v := 3) hx hb (dq_6 0 bcX5_freezeRefusal_0 (j := 15) rfl rfl) (by decide) ?_
    refine va_iald hx hb hK hP 1 0 rfl rfl (vin rfl) (dq_46 0 bcX5_freezeRefusal_0 (j := 16) rfl rfl) ?_
    refine W.eq (g2 := F0 m 17 ls [.int (c_row 3), .int (1 : Int32)]) rfl ?_
    refine lv_ishl hx hb (dq_120 0 bcX5_freezeRefusal_0 (j := 17) rfl rfl) ?_
    refine lv_iconst (v := 1) hx hb (dq_4 0 bcX5_freezeRefusal_0 (j := 18) rfl rfl) (by decide) ?_
    refine lv_isub hx hb (dq_100 0 bcX5_freezeRefusal_0 (j := 19) rfl rfl) ?_
    refine lv_istore_n (lv' := [(2, .int (((1 : Int32) <<< ((c_row 3) &&& (31 : Int32))) - (1 : Int32))), (0, .ref a_), (1, .int p1)]) hx hb (dq_61 0 bcX5_freezeRefusal_0 (j := 20) rfl rfl) rfl hl (by decide) rfl (fun ls hl => ?_)
    refine lv_aload_n hx hb (dq_42 0 bcX5_freezeRefusal_0 (j := 21) rfl rfl) rfl (lv_at hl 1 rfl) ?_
    refine gt_X5_0 (v := .ref a_row) hx hb hts i_f_X5_freezeRefusal_X5 hown hK hP 0 rfl (hts (.fieldLink RX5 11 "HushWatch$State" "row" "[I") (List.mem_of_getElem? (i := 1) rfl)) rfl (dq_180 0 bcX5_freezeRefusal_0 (j := 22) (i := 11) rfl rfl rfl) ?_
    refine lv_bipush (v := 7) hx hb (dq_16 0 bcX5_freezeRefusal_0 (j := 25) (i := 7) rfl rfl rfl) (by decide) ?_
    refine va_iald hx hb hK hP 1 0 rfl rfl (vin rfl) (dq_46 0 bcX5_freezeRefusal_0 (j := 27) rfl rfl) ?_
    refine W.eq (g2 := F0 m 28 ls [.int (c_row 7)]) rfl ?_
    refine lv_iconst (v := 1) hx hb (dq_4 0 bcX5_freezeRefusal_0 (j := 28) rfl rfl) (by decide) ?_
    refine lv_iload_n hx hb (dq_27 0 bcX5_freezeRefusal_0 (j := 29) rfl rfl) rfl (lv_at hl 2 rfl) ?_
    refine lv_ishl hx hb (dq_120 0 bcX5_freezeRefusal_0 (j := 30) rfl rfl) ?_
    refine lv_ior hx hb (dq_128 0 bcX5_freezeRefusal_0 (j := 31) rfl rfl) ?_
    refine lv_iload_n hx hb (dq_28 0 bcX5_freezeRefusal_0 (j := 32) rfl rfl) rfl (lv_at hl 0 rfl) ?_
    refine lv_icmp_ne (tgt := 48) hx hb (dq_160 0 bcX5_freezeRefusal_0 (j := 33) (i := 15) rfl rfl rfl) (by decide) (fun c_5 => ?_) (fun c_5 => ?_)
    ·
      replace hF := inn c_5 hF
      refine lv_iconst (v := -1) hx hb (dq_2 48 bcX5_freezeRefusal_1 (j := 0) rfl rfl) (by decide) ?_
      rw [hQ]
      obtain e9_0 := inj1 hF
      exact W.iret (v := (-1 : Int32)) hx hb hr (fun tt ht hW => ⟨_, rfl, e9_0, ht⟩) (fun _ h => by cases h) (dq_172 48 bcX5_freezeRefusal_1 (j := 1) rfl rfl)
    ·
      replace hF := ip c_5 hF
      refine lv_aload_n hx hb (dq_42 0 bcX5_freezeRefusal_0 (j := 36) rfl rfl) rfl (lv_at hl 1 rfl) ?_
      refine lv_iload_n hx hb (dq_27 0 bcX5_freezeRefusal_0 (j := 37) rfl rfl) rfl (lv_at hl 2 rfl) ?_
      replace hF := bd1_s hF
      obtain ⟨r_6, hc_7, hF⟩ := hF
      have hPc : va_P E.1 vwCl (w_X5_isFrozen E a_ a_row a_partners a_share a_leftOver c_askedCount c_outcome c_row) s.heap := hP.sub (ws' := [k_X5 a_ a_row a_partners c_askedCount c_outcome a_share a_leftOver, k_I E a_row 81 c_row]) [0, 1] rfl
      have hrc := va_recv hK hPc (ci := 6) (q0 := 0) rfl rfl
      refine pE_z (va_runV (As := [.int p1]) (rest := [])  ⟨hx, hb, hml, hown, hts⟩ (f_X5_isFrozen l E (a_ := a_) (a_row := a_row) (a_partners := a_partners) (a_share := a_share) (a_leftOver := a_leftOver) (p1 := p1) (c_askedCount := c_askedCount) (c_outcome := c_outcome) (c_row := c_row) hc_7) (cwV 1 hts g_f_X5_freezeRefusal_f_X5_isFrozen_131 rfl rfl rfl hd_X5_isFrozen ⟨Nat.le_of_ble_eq_true rfl, Nat.le_of_ble_eq_true rfl⟩) ⟨pP.blind, hrc, (pP.pre ⟨hK, hN⟩ hPc)⟩ rfl rfl hl.1 rfl (lv_room (Nat.le_of_ble_eq_true rfl)) (dq_182 0 bcX5_freezeRefusal_0 (j := 38) (i := 131) rfl rfl rfl) ⟨Nat.le_of_ble_eq_true rfl, Nat.le_of_ble_eq_true rfl⟩) (fun hb_8 => ?_)
      refine lv_if_ne (tgt := 48) hx hb (dq_154 0 bcX5_freezeRefusal_0 (j := 41) (i := 7) rfl rfl rfl) (by decide) (fun c_9 => ?_) (fun c_9 => ?_)
      ·
        replace hF := inn c_9 hF
        refine lv_iconst (v := -1) hx hb (dq_2 48 bcX5_freezeRefusal_1 (j := 0) rfl rfl) (by decide) ?_
        rw [hQ]
        obtain e9_0 := inj1 hF
        exact W.iret (v := (-1 : Int32)) hx hb hr (fun tt ht hW => ⟨_, rfl, e9_0, ht⟩) (fun _ h => by cases h) (dq_172 48 bcX5_freezeRefusal_1 (j := 1) rfl rfl)
      ·
        replace hF := ip c_9 hF
        refine lv_iconst (v := 2) hx hb (dq_5 0 bcX5_freezeRefusal_0 (j := 44) rfl rfl) (by decide) ?_
        refine lv_goto (tgt := 49) hx hb (dq_167 0 bcX5_freezeRefusal_0 (j := 45) (i := 4) rfl rfl rfl) (by decide) ?_
        rw [hQ]
        obtain e9_0 := inj1 hF
        exact W.iret (v := (2 : Int32)) hx hb hr (fun tt ht hW => ⟨_, rfl, e9_0, ht⟩) (fun _ h => by cases h) (dq_172 48 bcX5_freezeRefusal_1 (j := 1) rfl rfl)
  ·
    replace hF := ip c_4 hF
    refine lv_iconst (v := 0) hx hb (dq_3 0 bcX5_freezeRefusal_0 (j := 8) rfl rfl) (by decide) ?_
    rw [hQ]
    obtain e9_0 := inj1 hF
    exact W.iret (v := (0 : Int32)) hx hb hr (fun tt ht hW => ⟨_, rfl, e9_0, ht⟩) (fun _ h => by cases h) (dq_172 0 bcX5_freezeRefusal_0 (j := 9) rfl rfl)

def F_X5_hasRoom (p1 : Int32) (p2 : Int32) (p3 : Int32) (c_row : Nat → Int32) : Option (Int32) :=
  bd1 (F_X5_of p1 (0 : Int32) c_row) (fun r_1 => if (99999 : Int32) < (absF (r_1 + p2)) then some (0 : Int32) else bd1 (F_X5_of p1 (1 : Int32) c_row) (fun r_4 => if (99999 : Int32) < (absF (r_4 + p3)) then some (0 : Int32) else some (1 : Int32)))
abbrev w_X5_hasRoom (E : EE) (a_ a_row a_partners a_share a_leftOver : Nat) (c_askedCount : Int32) (c_outcome : Int32) (c_row : Nat → Int32) : va_W := [k_X5 a_ a_row a_partners c_askedCount c_outcome a_share a_leftOver, k_I E a_row 81 c_row]
def v_f_X5_hasRoom : List Cond := List.cons (.code yX5_hasRoom cX5_hasRoom 4 (some .boolean)) (HAppend.hAppend (α := List Cond) (β := List Cond) (γ := List Cond) [.methodLink RX5 94 Lib.Math.abs.name, .static Lib.Math.abs.name, .initialized "java/lang/Math", .code Lib.Math.abs.name Lib.Math.abs.code 1 (some .int), .constant RX5 98 (99999), .methodLink RX5 69 yX5_of, .instanceMethod yX5_of, .selects RX5 yX5_of yX5_of, .initialized RX5] (HAppend.hAppend (α := List Cond) (β := List Cond) (γ := List Cond) v_f_X5_of []))
theorem gw_f_X5_hasRoom : v_f_X5_hasRoom.all goodWord = true := gw_c2 (by decide +kernel) (gw_ap gw_f_X5_of gw_nil)
theorem g_f_X5_hasRoom_f_X5_of_69 : GoodIn v_f_X5_hasRoom (wsV RX5 69 RX5 yX5_of v_f_X5_of) := goodIn_in gw_f_X5_hasRoom (in4 6 7 8 9 rfl rfl rfl rfl (fun _ h => List.mem_cons_of_mem _ (List.mem_append_right _ (List.mem_append_left _ h))))
theorem hd_X5_hasRoom : yX5_hasRoom.cls = RX5 ∧ yX5_hasRoom.cls ≠ "java/lang/invoke/MethodHandle" ∧ yX5_hasRoom.cls ≠ "java/lang/invoke/VarHandle" ∧ (parseMethodDescriptor yX5_hasRoom.desc).map (fun d => d.parameters.length) = some 3 := by decide +kernel
set_option maxHeartbeats 4000000 in
set_option maxRecDepth 100000 in
theorem f_X5_hasRoom (l : Launch) (E : EE) {a_ a_row a_partners a_share a_leftOver : Nat} {p1 : Int32} {p2 : Int32} {p3 : Int32} {c_askedCount : Int32} {c_outcome : Int32} {c_row : Nat → Int32} {rr : Int32} (hF : F_X5_hasRoom p1 p2 p3 c_row = some rr) : Met l yX5_hasRoom v_f_X5_hasRoom (({ frames := 1, cells := 0, slots := 0, locals := 22 } : Room)) (va_Pc [.ref a_, .int p1, .int p2, .int p3] (pP E (w_X5_hasRoom E a_ a_row a_partners a_share a_leftOver c_askedCount c_outcome c_row))) (vp_Si (fun q : Int32 => q = rr ∧ (q = 0 ∨ q = 1))) 0 0 (fun _ => False) := by
  refine Met.ofW (cc := cX5_hasRoom) (maxL := 4) (ret := (some .boolean)) (by decide) rfl ?_
  intro p e s m args below meth c s₁ B hml hv
  obtain ⟨rfl, ⟨hK, hN⟩, hP⟩ := hv
  have hx := B.exec
  have hb := B.bytes
  have hr := B.returns
  have hts := atoms_spec (ws := v_f_X5_hasRoom) B.pre
  have hown : s.vm.findClass RX5 = some m.cls := own_of hd_X5_hasRoom.1 (findClass_of_methodNamed B.named)
  have hlocks : meth.locks = false := B.notSynchronized
  replace hP : va_P E.1 vwCl [k_X5 a_ a_row a_partners c_askedCount c_outcome a_share a_leftOver, k_I E a_row 81 c_row] s.heap := hP
  have hl := lv_entry ([.ref a_, .int p1, .int p2, .int p3]) (n := 4) (Nat.le_of_ble_eq_true rfl)
  rw [lg_entry_eq]
  generalize (lg_sl ([.ref a_, .int p1, .int p2, .int p3]) ++ List.replicate (4 - (lg_sl ([.ref a_, .int p1, .int p2, .int p3])).length) Slot.unset).toArray = ls at hl ⊢
  have hl : lv_has ls 4 [(0, .ref a_), (1, .int p1), (2, .int p2), (3, .int p3)] := hl
  obtain ⟨Q, hQ⟩ : ∃ Q : State → Prop, Q = MQ below (vp_Si (fun q : Int32 => q = rr ∧ (q = 0 ∨ q = 1))) #[Value.ref a_, Value.int p1, Value.int p2, Value.int p3] s 0 0 (fun _ => False) := ⟨_, rfl⟩
  rw [← hQ]
  change W p l e ({ frames := 1, cells := 0, slots := 0, locals := 22 } : Room) s m #[Value.ref a_, Value.int p1, Value.int p2, Value.int p3] below meth c s.heap [] 0 0 Q (F0 m 0 ls [])
  unfold F_X5_hasRoom at hF
  refine lv_aload_n hx hb (dq_42 0 bcX5_hasRoom_0 (j := 0) rfl rfl) rfl (lv_at hl 0 rfl) ?_
  refine lv_iload_n hx hb (dq_27 0 bcX5_hasRoom_0 (j := 1) rfl rfl) rfl (lv_at hl 1 rfl) ?_
  refine lv_iconst (v := 0) hx hb (dq_3 0 bcX5_hasRoom_0 (j := 2) rfl rfl) (by decide) ?_
  replace hF := bd1_s hF
  obtain ⟨r_1, hc_2, hF⟩ := hF
  have hPc : va_P E.1 vwCl (w_X5_of E a_ a_row a_partners a_share a_leftOver c_askedCount c_outcome c_row) s.heap := hP.sub (ws' := [k_X5 a_ a_row a_partners c_askedCount c_outcome a_share a_leftOver, k_I E a_row 81 c_row]) [0, 1] rfl
  have hrc := va_recv hK hPc (ci := 6) (q0 := 0) rfl rfl
  refine pE_i (va_runV (As := [.int p1, .int (0 : Int32)]) (rest := [])  ⟨hx, hb, hml, hown, hts⟩ (f_X5_of l E (a_ := a_) (a_row := a_row) (a_partners := a_partners) (a_share := a_share) (a_leftOver := a_leftOver) (p1 := p1) (p2 := (0 : Int32)) (c_askedCount := c_askedCount) (c_outcome := c_outcome) (c_row := c_row) hc_2) (cwV 2 hts g_f_X5_hasRoom_f_X5_of_69 rfl rfl rfl hd_X5_of ⟨Nat.le_of_ble_eq_true rfl, Nat.le_of_ble_eq_true rfl⟩) ⟨pP.blind, hrc, (pP.pre ⟨hK, hN⟩ hPc)⟩ rfl rfl hl.1 rfl (lv_room (Nat.le_of_ble_eq_true rfl)) (dq_182 0 bcX5_hasRoom_0 (j := 3) (i := 69) rfl rfl rfl) ⟨Nat.le_of_ble_eq_true rfl, Nat.le_of_ble_eq_true rfl⟩) ?_
  refine lv_iload_n hx hb (dq_28 0 bcX5_hasRoom_0 (j := 6) rfl rfl) rfl (lv_at hl 2 rfl) ?_
  refine lv_iadd hx hb (dq_96 0 bcX5_hasRoom_0 (j := 7) rfl rfl) ?_
  refine va_mabs hx hb (hml.trans hl.1.symm) hown (hts (.methodLink RX5 94 Lib.Math.abs.name) (List.mem_of_getElem? (i := 1) rfl)) (hts (.static Lib.Math.abs.name) (List.mem_of_getElem? (i := 2) rfl)) (hts (.initialized "java/lang/Math") (List.mem_of_getElem? (i := 3) rfl)) (hts (.code Lib.Math.abs.name Lib.Math.abs.code 1 (some .int)) (List.mem_of_getElem? (i := 4) rfl)) (Nat.le_of_ble_eq_true rfl) (Nat.le_of_ble_eq_true rfl) (Nat.le_of_ble_eq_true rfl) (Nat.le_of_ble_eq_true rfl) (dq_184 0 bcX5_hasRoom_0 (j := 8) (i := 94) rfl rfl rfl) ?_
  refine W.eq (g2 := F0 m 11 ls [.int (absF (r_1 + p2))]) rfl ?_
  refine lv_ldc (v := 99999) hx hb hown (hts (.constant RX5 98 (99999)) (List.mem_of_getElem? (i := 5) rfl)) (dq_18 0 bcX5_hasRoom_0 (j := 11) (i := 98) rfl rfl) ?_
  refine lv_icmp_gt (tgt := 36) hx hb (dq_163 0 bcX5_hasRoom_0 (j := 13) (i := 23) rfl rfl rfl) (by decide) (fun c_3 => ?_) (fun c_3 => ?_)
  ·
    replace hF := ip c_3 hF
    refine lv_iconst (v := 0) hx hb (dq_3 0 bcX5_hasRoom_0 (j := 36) rfl rfl) (by decide) ?_
    rw [hQ]
    obtain e9_0 := inj1 hF
    exact W.zret (v := (0 : Int32)) hx hb hr rfl (fun tt ht hW => ⟨_, rfl, ⟨e9_0, Or.inl rfl⟩, ht⟩) (fun _ h => by cases h) (dq_172 0 bcX5_hasRoom_0 (j := 37) rfl rfl)
  ·
    replace hF := inn c_3 hF
    refine lv_aload_n hx hb (dq_42 0 bcX5_hasRoom_0 (j := 16) rfl rfl) rfl (lv_at hl 0 rfl) ?_
    refine lv_iload_n hx hb (dq_27 0 bcX5_hasRoom_0 (j := 17) rfl rfl) rfl (lv_at hl 1 rfl) ?_
    refine lv_iconst (v := 1) hx hb (dq_4 0 bcX5_hasRoom_0 (j := 18) rfl rfl) (by decide) ?_
    replace hF := bd1_s hF
    obtain ⟨r_4, hc_5, hF⟩ := hF
    have hPc : va_P E.1 vwCl (w_X5_of E a_ a_row a_partners a_share a_leftOver c_askedCount c_outcome c_row) s.heap := hP.sub (ws' := [k_X5 a_ a_row a_partners c_askedCount c_outcome a_share a_leftOver, k_I E a_row 81 c_row]) [0, 1] rfl
    have hrc := va_recv hK hPc (ci := 6) (q0 := 0) rfl rfl
    refine pE_i (va_runV (As := [.int p1, .int (1 : Int32)]) (rest := [])  ⟨hx, hb, hml, hown, hts⟩ (f_X5_of l E (a_ := a_) (a_row := a_row) (a_partners := a_partners) (a_share := a_share) (a_leftOver := a_leftOver) (p1 := p1) (p2 := (1 : Int32)) (c_askedCount := c_askedCount) (c_outcome := c_outcome) (c_row := c_row) hc_5) (cwV 2 hts g_f_X5_hasRoom_f_X5_of_69 rfl rfl rfl hd_X5_of ⟨Nat.le_of_ble_eq_true rfl, Nat.le_of_ble_eq_true rfl⟩) ⟨pP.blind, hrc, (pP.pre ⟨hK, hN⟩ hPc)⟩ rfl rfl hl.1 rfl (lv_room (Nat.le_of_ble_eq_true rfl)) (dq_182 0 bcX5_hasRoom_0 (j := 19) (i := 69) rfl rfl rfl) ⟨Nat.le_of_ble_eq_true rfl, Nat.le_of_ble_eq_true rfl⟩) ?_
    refine lv_iload_n hx hb (dq_29 0 bcX5_hasRoom_0 (j := 22) rfl rfl) rfl (lv_at hl 3 rfl) ?_
    refine lv_iadd hx hb (dq_96 0 bcX5_hasRoom_0 (j := 23) rfl rfl) ?_
    refine va_mabs hx hb (hml.trans hl.1.symm) hown (hts (.methodLink RX5 94 Lib.Math.abs.name) (List.mem_of_getElem? (i := 1) rfl)) (hts (.static Lib.Math.abs.name) (List.mem_of_getElem? (i := 2) rfl)) (hts (.initialized "java/lang/Math") (List.mem_of_getElem? (i := 3) rfl)) (hts (.code Lib.Math.abs.name Lib.Math.abs.code 1 (some .int)) (List.mem_of_getElem? (i := 4) rfl)) (Nat.le_of_ble_eq_true rfl) (Nat.le_of_ble_eq_true rfl) (Nat.le_of_ble_eq_true rfl) (Nat.le_of_ble_eq_true rfl) (dq_184 0 bcX5_hasRoom_0 (j := 24) (i := 94) rfl rfl rfl) ?_
    refine W.eq (g2 := F0 m 27 ls [.int (absF (r_4 + p3))]) rfl ?_
    refine lv_ldc (v := 99999) hx hb hown (hts (.constant RX5 98 (99999)) (List.mem_of_getElem? (i := 5) rfl)) (dq_18 0 bcX5_hasRoom_0 (j := 27) (i := 98) rfl rfl) ?_
    refine lv_icmp_gt (tgt := 36) hx hb (dq_163 0 bcX5_hasRoom_0 (j := 29) (i := 7) rfl rfl rfl) (by decide) (fun c_6 => ?_) (fun c_6 => ?_)
    ·
      replace hF := ip c_6 hF
      refine lv_iconst (v := 0) hx hb (dq_3 0 bcX5_hasRoom_0 (j := 36) rfl rfl) (by decide) ?_
      rw [hQ]
      obtain e9_0 := inj1 hF
      exact W.zret (v := (0 : Int32)) hx hb hr rfl (fun tt ht hW => ⟨_, rfl, ⟨e9_0, Or.inl rfl⟩, ht⟩) (fun _ h => by cases h) (dq_172 0 bcX5_hasRoom_0 (j := 37) rfl rfl)
    ·
      replace hF := inn c_6 hF
      refine lv_iconst (v := 1) hx hb (dq_4 0 bcX5_hasRoom_0 (j := 32) rfl rfl) (by decide) ?_
      refine lv_goto (tgt := 37) hx hb (dq_167 0 bcX5_hasRoom_0 (j := 33) (i := 4) rfl rfl rfl) (by decide) ?_
      rw [hQ]
      obtain e9_0 := inj1 hF
      exact W.zret (v := (1 : Int32)) hx hb hr rfl (fun tt ht hW => ⟨_, rfl, ⟨e9_0, Or.inr rfl⟩, ht⟩) (fun _ h => by cases h) (dq_172 0 bcX5_hasRoom_0 (j := 37) rfl rfl)

def F_X5_isQuietWith (p1 : Int32) (p2 : Int32) (p3 : Int32) (c_row : Nat → Int32) : Option (Int32) :=
  bd1 (F_X5_drift p1 (0 : Int32) c_row) (fun r_1 => bd1 (F_X5_drift p1 (1 : Int32) c_row) (fun r_3 => bd1 (F_X5_isQuietDrift (r_1 + p2) (r_3 + p3) c_row) (fun r_5 => some r_5)))
abbrev w_X5_isQuietWith (E : EE) (a_ a_row a_partners a_share a_leftOver : Nat) (c_askedCount : Int32) (c_outcome : Int32) (c_row : Nat → Int32) : va_W := [k_X5 a_ a_row a_partners c_askedCount c_outcome a_share a_leftOver, k_I E a_row 81 c_row]
def v_f_X5_isQuietWith : List Cond := List.cons (.code yX5_isQuietWith cX5_isQuietWith 4 (some .boolean)) (HAppend.hAppend (α := List Cond) (β := List Cond) (γ := List Cond) [.methodLink RX5 72 yX5_drift, .instanceMethod yX5_drift, .selects RX5 yX5_drift yX5_drift, .initialized RX5, .methodLink RX5 87 yX5_isQuietDrift, .instanceMethod yX5_isQuietDrift, .selects RX5 yX5_isQuietDrift yX5_isQuietDrift] (HAppend.hAppend (α := List Cond) (β := List Cond) (γ := List Cond) v_f_X5_drift (HAppend.hAppend (α := List Cond) (β := List Cond) (γ := List Cond) v_f_X5_isQuietDrift [])))
theorem gw_f_X5_isQuietWith : v_f_X5_isQuietWith.all goodWord = true := gw_c2 (by decide +kernel) (gw_ap gw_f_X5_drift (gw_ap gw_f_X5_isQuietDrift gw_nil))
theorem g_f_X5_isQuietWith_f_X5_drift_72 : GoodIn v_f_X5_isQuietWith (wsV RX5 72 RX5 yX5_drift v_f_X5_drift) := goodIn_in gw_f_X5_isQuietWith (in4 1 2 3 4 rfl rfl rfl rfl (fun _ h => List.mem_cons_of_mem _ (List.mem_append_right _ (List.mem_append_left _ h))))
theorem g_f_X5_isQuietWith_f_X5_isQuietDrift_87 : GoodIn v_f_X5_isQuietWith (wsV RX5 87 RX5 yX5_isQuietDrift v_f_X5_isQuietDrift) := goodIn_in gw_f_X5_isQuietWith (in4 5 6 7 4 rfl rfl rfl rfl (fun _ h => List.mem_cons_of_mem _ (List.mem_append_right _ (List.mem_append_right _ (List.mem_append_left _ h)))))
theorem hd_X5_isQuietWith : yX5_isQuietWith.cls = RX5 ∧ yX5_isQuietWith.cls ≠ "java/lang/invoke/MethodHandle" ∧ yX5_isQuietWith.cls ≠ "java/lang/invoke/VarHandle" ∧ (parseMethodDescriptor yX5_isQuietWith.desc).map (fun d => d.parameters.length) = some 3 := by decide +kernel
set_option maxHeartbeats 4000000 in
set_option maxRecDepth 100000 in
theorem f_X5_isQuietWith (l : Launch) (E : EE) {a_ a_row a_partners a_share a_leftOver : Nat} {p1 : Int32} {p2 : Int32} {p3 : Int32} {c_askedCount : Int32} {c_outcome : Int32} {c_row : Nat → Int32} {rr : Int32} (hF : F_X5_isQuietWith p1 p2 p3 c_row = some rr) : Met l yX5_isQuietWith v_f_X5_isQuietWith (({ frames := 2, cells := 0, slots := 0, locals := 50 } : Room)) (va_Pc [.ref a_, .int p1, .int p2, .int p3] (pP E (w_X5_isQuietWith E a_ a_row a_partners a_share a_leftOver c_askedCount c_outcome c_row))) (vp_Si (fun q : Int32 => q = rr ∧ (q = 0 ∨ q = 1))) 0 0 (fun _ => False) := by
  refine Met.ofW (cc := cX5_isQuietWith) (maxL := 4) (ret := (some .boolean)) (by decide) rfl ?_
  intro p e s m args below meth c s₁ B hml hv
  obtain ⟨rfl, ⟨hK, hN⟩, hP⟩ := hv
  have hx := B.exec
  have hb := B.bytes
  have hr := B.returns
  have hts := atoms_spec (ws := v_f_X5_isQuietWith) B.pre
  have hown : s.vm.findClass RX5 = some m.cls := own_of hd_X5_isQuietWith.1 (findClass_of_methodNamed B.named)
  have hlocks : meth.locks = false := B.notSynchronized
  replace hP : va_P E.1 vwCl [k_X5 a_ a_row a_partners c_askedCount c_outcome a_share a_leftOver, k_I E a_row 81 c_row] s.heap := hP
  have hl := lv_entry ([.ref a_, .int p1, .int p2, .int p3]) (n := 4) (Nat.le_of_ble_eq_true rfl)
  rw [lg_entry_eq]
  generalize (lg_sl ([.ref a_, .int p1, .int p2, .int p3]) ++ List.replicate (4 - (lg_sl ([.ref a_, .int p1, .int p2, .int p3])).length) Slot.unset).toArray = ls at hl ⊢
  have hl : lv_has ls 4 [(0, .ref a_), (1, .int p1), (2, .int p2), (3, .int p3)] := hl
  obtain ⟨Q, hQ⟩ : ∃ Q : State → Prop, Q = MQ below (vp_Si (fun q : Int32 => q = rr ∧ (q = 0 ∨ q = 1))) #[Value.ref a_, Value.int p1, Value.int p2, Value.int p3] s 0 0 (fun _ => False) := ⟨_, rfl⟩
  rw [← hQ]
  change W p l e ({ frames := 2, cells := 0, slots := 0, locals := 50 } : Room) s m #[Value.ref a_, Value.int p1, Value.int p2, Value.int p3] below meth c s.heap [] 0 0 Q (F0 m 0 ls [])
  unfold F_X5_isQuietWith at hF
  refine lv_aload_n hx hb (dq_42 0 bcX5_isQuietWith_0 (j := 0) rfl rfl) rfl (lv_at hl 0 rfl) ?_
  refine lv_aload_n hx hb (dq_42 0 bcX5_isQuietWith_0 (j := 1) rfl rfl) rfl (lv_at hl 0 rfl) ?_
  refine lv_iload_n hx hb (dq_27 0 bcX5_isQuietWith_0 (j := 2) rfl rfl) rfl (lv_at hl 1 rfl) ?_
  refine lv_iconst (v := 0) hx hb (dq_3 0 bcX5_isQuietWith_0 (j := 3) rfl rfl) (by decide) ?_
  replace hF := bd1_s hF
  obtain ⟨r_1, hc_2, hF⟩ := hF
  have hPc : va_P E.1 vwCl (w_X5_drift E a_ a_row a_partners a_share a_leftOver c_askedCount c_outcome c_row) s.heap := hP.sub (ws' := [k_X5 a_ a_row a_partners c_askedCount c_outcome a_share a_leftOver, k_I E a_row 81 c_row]) [0, 1] rfl
  have hrc := va_recv hK hPc (ci := 6) (q0 := 0) rfl rfl
  refine pE_i (va_runV (As := [.int p1, .int (0 : Int32)]) (rest := [.ref a_])  ⟨hx, hb, hml, hown, hts⟩ (f_X5_drift l E (a_ := a_) (a_row := a_row) (a_partners := a_partners) (a_share := a_share) (a_leftOver := a_leftOver) (p1 := p1) (p2 := (0 : Int32)) (c_askedCount := c_askedCount) (c_outcome := c_outcome) (c_row := c_row) hc_2) (cwV 2 hts g_f_X5_isQuietWith_f_X5_drift_72 rfl rfl rfl hd_X5_drift ⟨Nat.le_of_ble_eq_true rfl, Nat.le_of_ble_eq_true rfl⟩) ⟨pP.blind, hrc, (pP.pre ⟨hK, hN⟩ hPc)⟩ rfl rfl hl.1 rfl (lv_room (Nat.le_of_ble_eq_true rfl)) (dq_182 0 bcX5_isQuietWith_0 (j := 4) (i := 72) rfl rfl rfl) ⟨Nat.le_of_ble_eq_true rfl, Nat.le_of_ble_eq_true rfl⟩) ?_
  refine lv_iload_n hx hb (dq_28 0 bcX5_isQuietWith_0 (j := 7) rfl rfl) rfl (lv_at hl 2 rfl) ?_
  refine lv_iadd hx hb (dq_96 0 bcX5_isQuietWith_0 (j := 8) rfl rfl) ?_
  refine lv_aload_n hx hb (dq_42 0 bcX5_isQuietWith_0 (j := 9) rfl rfl) rfl (lv_at hl 0 rfl) ?_
  refine lv_iload_n hx hb (dq_27 0 bcX5_isQuietWith_0 (j := 10) rfl rfl) rfl (lv_at hl 1 rfl) ?_
  refine lv_iconst (v := 1) hx hb (dq_4 0 bcX5_isQuietWith_0 (j := 11) rfl rfl) (by decide) ?_
  replace hF := bd1_s hF
  obtain ⟨r_3, hc_4, hF⟩ := hF
  have hPc : va_P E.1 vwCl (w_X5_drift E a_ a_row a_partners a_share a_leftOver c_askedCount c_outcome c_row) s.heap := hP.sub (ws' := [k_X5 a_ a_row a_partners c_askedCount c_outcome a_share a_leftOver, k_I E a_row 81 c_row]) [0, 1] rfl
  have hrc := va_recv hK hPc (ci := 6) (q0 := 0) rfl rfl
  refine pE_i (va_runV (As := [.int p1, .int (1 : Int32)]) (rest := [.int (r_1 + p2), .ref a_])  ⟨hx, hb, hml, hown, hts⟩ (f_X5_drift l E (a_ := a_) (a_row := a_row) (a_partners := a_partners) (a_share := a_share) (a_leftOver := a_leftOver) (p1 := p1) (p2 := (1 : Int32)) (c_askedCount := c_askedCount) (c_outcome := c_outcome) (c_row := c_row) hc_4) (cwV 2 hts g_f_X5_isQuietWith_f_X5_drift_72 rfl rfl rfl hd_X5_drift ⟨Nat.le_of_ble_eq_true rfl, Nat.le_of_ble_eq_true rfl⟩) ⟨pP.blind, hrc, (pP.pre ⟨hK, hN⟩ hPc)⟩ rfl rfl hl.1 rfl (lv_room (Nat.le_of_ble_eq_true rfl)) (dq_182 0 bcX5_isQuietWith_0 (j := 12) (i := 72) rfl rfl rfl) ⟨Nat.le_of_ble_eq_true rfl, Nat.le_of_ble_eq_true rfl⟩) ?_
  refine lv_iload_n hx hb (dq_29 0 bcX5_isQuietWith_0 (j := 15) rfl rfl) rfl (lv_at hl 3 rfl) ?_
  refine lv_iadd hx hb (dq_96 0 bcX5_isQuietWith_0 (j := 16) rfl rfl) ?_
  replace hF := bd1_s hF
  obtain ⟨r_5, hc_6, hF⟩ := hF
  have hPc : va_P E.1 vwCl (w_X5_isQuietDrift E a_ a_row a_partners a_share a_leftOver c_askedCount c_outcome c_row) s.heap := hP.sub (ws' := [k_X5 a_ a_row a_partners c_askedCount c_outcome a_share a_leftOver, k_I E a_row 81 c_row]) [0, 1] rfl
  have hrc := va_recv hK hPc (ci := 6) (q0 := 0) rfl rfl
  refine pE_z (va_runV (As := [.int (r_1 + p2), .int (r_3 + p3)]) (rest := [])  ⟨hx, hb, hml, hown, hts⟩ (f_X5_isQuietDrift l E (a_ := a_) (a_row := a_row) (a_partners := a_partners) (a_share := a_share) (a_leftOver := a_leftOver) (p1 := r_1 + p2) (p2 := r_3 + p3) (c_askedCount := c_askedCount) (c_outcome := c_outcome) (c_row := c_row) hc_6) (cwV 2 hts g_f_X5_isQuietWith_f_X5_isQuietDrift_87 rfl rfl rfl hd_X5_isQuietDrift ⟨Nat.le_of_ble_eq_true rfl, Nat.le_of_ble_eq_true rfl⟩) ⟨pP.blind, hrc, (pP.pre ⟨hK, hN⟩ hPc)⟩ rfl rfl hl.1 rfl (lv_room (Nat.le_of_ble_eq_true rfl)) (dq_182 0 bcX5_isQuietWith_0 (j := 17) (i := 87) rfl rfl rfl) ⟨Nat.le_of_ble_eq_true rfl, Nat.le_of_ble_eq_true rfl⟩) (fun hb_7 => ?_)
  rw [hQ]
  obtain e9_0 := inj1 hF
  exact W.zret (v := r_5) hx hb hr (nar_bool hb_7) (fun tt ht hW => ⟨_, rfl, ⟨e9_0, hb_7⟩, ht⟩) (fun _ h => by cases h) (dq_172 0 bcX5_isQuietWith_0 (j := 20) rfl rfl)

def F_X7_isMovable (p0 : Int32) (p1 : Int32) : Option (Int32) :=
  if p0 < (-9999 : Int32) then some (0 : Int32) else if (9999 : Int32) < p0 then some (0 : Int32) else if p1 < (-9999 : Int32) then some (0 : Int32) else if (9999 : Int32) < p1 then some (0 : Int32) else some (1 : Int32)

def v_f_X7_isMovable : List Cond := List.cons (.code yX7_isMovable cX7_isMovable 2 (some .boolean)) (HAppend.hAppend (α := List Cond) (β := List Cond) (γ := List Cond) [] [])
theorem gw_f_X7_isMovable : v_f_X7_isMovable.all goodWord = true := gw_c2 (by decide +kernel) gw_nil
theorem hd_X7_isMovable : yX7_isMovable.cls = RX7 ∧ yX7_isMovable.cls ≠ "java/lang/invoke/MethodHandle" ∧ yX7_isMovable.cls ≠ "java/lang/invoke/VarHandle" ∧ (parseMethodDescriptor yX7_isMovable.desc).map (fun d => d.parameters.length) = some 2 := by decide +kernel
set_option maxHeartbeats 4000000 in
set_option maxRecDepth 100000 in
theorem f_X7_isMovable (l : Launch) (E : EE) {p0 : Int32} {p1 : Int32} {rr : Int32} (hF : F_X7_isMovable p0 p1 = some rr) : Met l yX7_isMovable v_f_X7_isMovable (({ frames := 0, cells := 0, slots := 0, locals := 0 } : Room)) (va_Pc [.int p0, .int p1] (pP E [])) (vp_Si (fun q : Int32 => q = rr ∧ (q = 0 ∨ q = 1))) 0 0 (fun _ => False) := by
  refine Met.ofW (cc := cX7_isMovable) (maxL := 2) (ret := (some .boolean)) (by decide) rfl ?_
  intro p e s m args below meth c s₁ B hml hv
  obtain ⟨rfl, ⟨hK, hN⟩, hP⟩ := hv
  have hx := B.exec
  have hb := B.bytes
  have hr := B.returns
  have hts := atoms_spec (ws := v_f_X7_isMovable) B.pre
  have hown : s.vm.findClass RX7 = some m.cls := own_of hd_X7_isMovable.1 (findClass_of_methodNamed B.named)
  have hlocks : meth.locks = false := B.notSynchronized
  replace hP : va_P E.1 vwCl [] s.heap := hP
  have hl := lv_entry ([.int p0, .int p1]) (n := 2) (Nat.le_of_ble_eq_true rfl)
  rw [lg_entry_eq]
  generalize (lg_sl ([.int p0, .int p1]) ++ List.replicate (2 - (lg_sl ([.int p0, .int p1])).length) Slot.unset).toArray = ls at hl ⊢
  have hl : lv_has ls 2 [(0, .int p0), (1, .int p1)] := hl
  obtain ⟨Q, hQ⟩ : ∃ Q : State → Prop, Q = MQ below (vp_Si (fun q : Int32 => q = rr ∧ (q = 0 ∨ q = 1))) #[Value.int p0, Value.int p1] s 0 0 (fun _ => False) := ⟨_, rfl⟩
  rw [← hQ]
  change W p l e ({ frames := 0, cells := 0, slots := 0, locals := 0 } : Room) s m #[Value.int p0, Value.int p1] below meth c s.heap [] 0 0 Q (F0 m 0 ls [])
  unfold F_X7_isMovable at hF
  refine lv_iload_n hx hb (dq_26 0 bcX7_isMovable_0 (j := 0) rfl rfl) rfl (lv_at hl 0 rfl) ?_
  refine lv_sipush (v := -9999) hx hb (dq_17 0 bcX7_isMovable_0 (j := 1) (i := -9999) rfl rfl rfl) (by decide) ?_
  refine lv_icmp_lt (tgt := 32) hx hb (dq_161 0 bcX7_isMovable_0 (j := 4) (i := 28) rfl rfl rfl) (by decide) (fun c_1 => ?_) (fun c_1 => ?_)
  ·
    replace hF := ip c_1 hF
    refine lv_iconst (v := 0) hx hb (dq_3 0 bcX7_isMovable_0 (j := 32) rfl rfl) (by decide) ?_
    rw [hQ]
    obtain e9_0 := inj1 hF
    exact W.zret (v := (0 : Int32)) hx hb hr rfl (fun tt ht hW => ⟨_, rfl, ⟨e9_0, Or.inl rfl⟩, ht⟩) (fun _ h => by cases h) (dq_172 0 bcX7_isMovable_0 (j := 33) rfl rfl)
  ·
    replace hF := inn c_1 hF
    refine lv_iload_n hx hb (dq_26 0 bcX7_isMovable_0 (j := 7) rfl rfl) rfl (lv_at hl 0 rfl) ?_
    refine lv_sipush (v := 9999) hx hb (dq_17 0 bcX7_isMovable_0 (j := 8) (i := 9999) rfl rfl rfl) (by decide) ?_
    refine lv_icmp_gt (tgt := 32) hx hb (dq_163 0 bcX7_isMovable_0 (j := 11) (i := 21) rfl rfl rfl) (by decide) (fun c_2 => ?_) (fun c_2 => ?_)
    ·
      replace hF := ip c_2 hF
      refine lv_iconst (v := 0) hx hb (dq_3 0 bcX7_isMovable_0 (j := 32) rfl rfl) (by decide) ?_
      rw [hQ]
      obtain e9_0 := inj1 hF
      exact W.zret (v := (0 : Int32)) hx hb hr rfl (fun tt ht hW => ⟨_, rfl, ⟨e9_0, Or.inl rfl⟩, ht⟩) (fun _ h => by cases h) (dq_172 0 bcX7_isMovable_0 (j := 33) rfl rfl)
    ·
      replace hF := inn c_2 hF
      refine lv_iload_n hx hb (dq_27 0 bcX7_isMovable_0 (j := 14) rfl rfl) rfl (lv_at hl 1 rfl) ?_
      refine lv_sipush (v := -9999) hx hb (dq_17 0 bcX7_isMovable_0 (j := 15) (i := -9999) rfl rfl rfl) (by decide) ?_
      refine lv_icmp_lt (tgt := 32) hx hb (dq_161 0 bcX7_isMovable_0 (j := 18) (i := 14) rfl rfl rfl) (by decide) (fun c_3 => ?_) (fun c_3 => ?_)
      ·
        replace hF := ip c_3 hF
        refine lv_iconst (v := 0) hx hb (dq_3 0 bcX7_isMovable_0 (j := 32) rfl rfl) (by decide) ?_
        rw [hQ]
        obtain e9_0 := inj1 hF
        exact W.zret (v := (0 : Int32)) hx hb hr rfl (fun tt ht hW => ⟨_, rfl, ⟨e9_0, Or.inl rfl⟩, ht⟩) (fun _ h => by cases h) (dq_172 0 bcX7_isMovable_0 (j := 33) rfl rfl)
      ·
        replace hF := inn c_3 hF
        refine lv_iload_n hx hb (dq_27 0 bcX7_isMovable_0 (j := 21) rfl rfl) rfl (lv_at hl 1 rfl) ?_
        refine lv_sipush (v := 9999) hx hb (dq_17 0 bcX7_isMovable_0 (j := 22) (i := 9999) rfl rfl rfl) (by decide) ?_
        refine lv_icmp_gt (tgt := 32) hx hb (dq_163 0 bcX7_isMovable_0 (j := 25) (i := 7) rfl rfl rfl) (by decide) (fun c_4 => ?_) (fun c_4 => ?_)
        ·
          replace hF := ip c_4 hF
          refine lv_iconst (v := 0) hx hb (dq_3 0 bcX7_isMovable_0 (j := 32) rfl rfl) (by decide) ?_
          rw [hQ]
          obtain e9_0 := inj1 hF
          exact W.zret (v := (0 : Int32)) hx hb hr rfl (fun tt ht hW => ⟨_, rfl, ⟨e9_0, Or.inl rfl⟩, ht⟩) (fun _ h => by cases h) (dq_172 0 bcX7_isMovable_0 (j := 33) rfl rfl)
        ·
          replace hF := inn c_4 hF
          refine lv_iconst (v := 1) hx hb (dq_4 0 bcX7_isMovable_0 (j := 28) rfl rfl) (by decide) ?_
          refine lv_goto (tgt := 33) hx hb (dq_167 0 bcX7_isMovable_0 (j := 29) (i := 4) rfl rfl rfl) (by decide) ?_
          rw [hQ]
          obtain e9_0 := inj1 hF
          exact W.zret (v := (1 : Int32)) hx hb hr rfl (fun tt ht hW => ⟨_, rfl, ⟨e9_0, Or.inr rfl⟩, ht⟩) (fun _ h => by cases h) (dq_172 0 bcX7_isMovable_0 (j := 33) rfl rfl)

def F_X5_moveRefusal (p1 : Int32) (p2 : Int32) (p3 : Int32) (c_row : Nat → Int32) : Option (Int32) :=
  bd1 (F_X5_hasSite p1 c_row) (fun r_1 => if r_1 = (0 : Int32) then some (0 : Int32) else bd1 (F_X7_isMovable p2 p3) (fun r_5 => if r_5 = (0 : Int32) then some (1 : Int32) else bd1 (F_X5_hasRoom p1 p2 p3 c_row) (fun r_9 => if r_9 = (0 : Int32) then some (1 : Int32) else if p2 = (0 : Int32) then if p3 = (0 : Int32) then some (2 : Int32) else bd1 (F_X5_isFrozen p1 c_row) (fun r_19 => if r_19 = (0 : Int32) then some (-1 : Int32) else some (2 : Int32)) else bd1 (F_X5_isFrozen p1 c_row) (fun r_14 => if r_14 = (0 : Int32) then some (-1 : Int32) else some (2 : Int32)))))
abbrev w_X5_moveRefusal (E : EE) (a_ a_row a_partners a_share a_leftOver : Nat) (c_askedCount : Int32) (c_outcome : Int32) (c_row : Nat → Int32) : va_W := [k_X5 a_ a_row a_partners c_askedCount c_outcome a_share a_leftOver, k_I E a_row 81 c_row]
def v_f_X5_moveRefusal : List Cond := List.cons (.code yX5_moveRefusal cX5_moveRefusal 4 (some .int)) (HAppend.hAppend (α := List Cond) (β := List Cond) (γ := List Cond) [.initialized RX7, .static yX7_isMovable, .methodLink RX5 79 yX5_hasSite, .instanceMethod yX5_hasSite, .selects RX5 yX5_hasSite yX5_hasSite, .initialized RX5, .methodLink RX5 127 yX5_hasRoom, .instanceMethod yX5_hasRoom, .selects RX5 yX5_hasRoom yX5_hasRoom, .methodLink RX5 131 yX5_isFrozen, .instanceMethod yX5_isFrozen, .selects RX5 yX5_isFrozen yX5_isFrozen] (HAppend.hAppend (α := List Cond) (β := List Cond) (γ := List Cond) v_f_X5_hasSite (HAppend.hAppend (α := List Cond) (β := List Cond) (γ := List Cond) v_f_X7_isMovable (HAppend.hAppend (α := List Cond) (β := List Cond) (γ := List Cond) v_f_X5_hasRoom (HAppend.hAppend (α := List Cond) (β := List Cond) (γ := List Cond) v_f_X5_isFrozen [])))))
theorem gw_f_X5_moveRefusal : v_f_X5_moveRefusal.all goodWord = true := gw_c2 (by decide +kernel) (gw_ap gw_f_X5_hasSite (gw_ap gw_f_X7_isMovable (gw_ap gw_f_X5_hasRoom (gw_ap gw_f_X5_isFrozen gw_nil))))
theorem g_f_X5_moveRefusal_f_X5_hasSite_79 : GoodIn v_f_X5_moveRefusal (wsV RX5 79 RX5 yX5_hasSite v_f_X5_hasSite) := goodIn_in gw_f_X5_moveRefusal (in4 3 4 5 6 rfl rfl rfl rfl (fun _ h => List.mem_cons_of_mem _ (List.mem_append_right _ (List.mem_append_left _ h))))
theorem g_f_X5_moveRefusal_f_X7_isMovable_124 : GoodIn v_f_X5_moveRefusal v_f_X7_isMovable := goodIn_sub (fun _ h => List.mem_cons_of_mem _ (List.mem_append_right _ (List.mem_append_right _ (List.mem_append_left _ h)))) gw_f_X7_isMovable
theorem g_f_X5_moveRefusal_f_X5_hasRoom_127 : GoodIn v_f_X5_moveRefusal (wsV RX5 127 RX5 yX5_hasRoom v_f_X5_hasRoom) := goodIn_in gw_f_X5_moveRefusal (in4 7 8 9 6 rfl rfl rfl rfl (fun _ h => List.mem_cons_of_mem _ (List.mem_append_right _ (List.mem_append_right _ (List.mem_append_right _ (List.mem_append_left _ h))))))
theorem g_f_X5_moveRefusal_f_X5_isFrozen_131 : GoodIn v_f_X5_moveRefusal (wsV RX5 131 RX5 yX5_isFrozen v_f_X5_isFrozen) := goodIn_in gw_f_X5_moveRefusal (in4 10 11 12 6 rfl rfl rfl rfl (fun _ h => List.mem_cons_of_mem _ (List.mem_append_right _ (List.mem_append_right _ (List.mem_append_right _ (List.mem_append_right _ (List.mem_append_left _ h)))))))
theorem hd_X5_moveRefusal : yX5_moveRefusal.cls = RX5 ∧ yX5_moveRefusal.cls ≠ "java/lang/invoke/MethodHandle" ∧ yX5_moveRefusal.cls ≠ "java/lang/invoke/VarHandle" ∧ (parseMethodDescriptor yX5_moveRefusal.desc).map (fun d => d.parameters.length) = some 3 := by decide +kernel
set_option maxHeartbeats 4000000 in
set_option maxRecDepth 100000 in
theorem f_X5_moveRefusal (l : Launch) (E : EE) {a_ a_row a_partners a_share a_leftOver : Nat} {p1 : Int32} {p2 : Int32} {p3 : Int32} {c_askedCount : Int32} {c_outcome : Int32} {c_row : Nat → Int32} {rr : Int32} (hF : F_X5_moveRefusal p1 p2 p3 c_row = some rr) : Met l yX5_moveRefusal v_f_X5_moveRefusal (({ frames := 2, cells := 0, slots := 0, locals := 45 } : Room)) (va_Pc [.ref a_, .int p1, .int p2, .int p3] (pP E (w_X5_moveRefusal E a_ a_row a_partners a_share a_leftOver c_askedCount c_outcome c_row))) (vp_Si (fun q : Int32 => q = rr)) 0 0 (fun _ => False) := by
  refine Met.ofW (cc := cX5_moveRefusal) (maxL := 4) (ret := (some .int)) (by decide) rfl ?_
  intro p e s m args below meth c s₁ B hml hv
  obtain ⟨rfl, ⟨hK, hN⟩, hP⟩ := hv
  have hx := B.exec
  have hb := B.bytes
  have hr := B.returns
  have hts := atoms_spec (ws := v_f_X5_moveRefusal) B.pre
  have hown : s.vm.findClass RX5 = some m.cls := own_of hd_X5_moveRefusal.1 (findClass_of_methodNamed B.named)
  have hlocks : meth.locks = false := B.notSynchronized
  replace hP : va_P E.1 vwCl [k_X5 a_ a_row a_partners c_askedCount c_outcome a_share a_leftOver, k_I E a_row 81 c_row] s.heap := hP
  have hl := lv_entry ([.ref a_, .int p1, .int p2, .int p3]) (n := 4) (Nat.le_of_ble_eq_true rfl)
  rw [lg_entry_eq]
  generalize (lg_sl ([.ref a_, .int p1, .int p2, .int p3]) ++ List.replicate (4 - (lg_sl ([.ref a_, .int p1, .int p2, .int p3])).length) Slot.unset).toArray = ls at hl ⊢
  have hl : lv_has ls 4 [(0, .ref a_), (1, .int p1), (2, .int p2), (3, .int p3)] := hl
  obtain ⟨Q, hQ⟩ : ∃ Q : State → Prop, Q = MQ below (vp_Si (fun q : Int32 => q = rr)) #[Value.ref a_, Value.int p1, Value.int p2, Value.int p3] s 0 0 (fun _ => False) := ⟨_, rfl⟩
  rw [← hQ]
  change W p l e ({ frames := 2, cells := 0, slots := 0, locals := 45 } : Room) s m #[Value.ref a_, Value.int p1, Value.int p2, Value.int p3] below meth c s.heap [] 0 0 Q (F0 m 0 ls [])
  unfold F_X5_moveRefusal at hF
  refine lv_aload_n hx hb (dq_42 0 bcX5_moveRefusal_0 (j := 0) rfl rfl) rfl (lv_at hl 0 rfl) ?_
  refine lv_iload_n hx hb (dq_27 0 bcX5_moveRefusal_0 (j := 1) rfl rfl) rfl (lv_at hl 1 rfl) ?_
  replace hF := bd1_s hF
  obtain ⟨r_1, hc_2, hF⟩ := hF
  have hPc : va_P E.1 vwCl (w_X5_hasSite E a_ a_row a_partners a_share a_leftOver c_askedCount c_outcome c_row) s.heap := hP.sub (ws' := [k_X5 a_ a_row a_partners c_askedCount c_outcome a_share a_leftOver, k_I E a_row 81 c_row]) [0, 1] rfl
  have hrc := va_recv hK hPc (ci := 6) (q0 := 0) rfl rfl
  refine pE_z (va_runV (As := [.int p1]) (rest := [])  ⟨hx, hb, hml, hown, hts⟩ (f_X5_hasSite l E (a_ := a_) (a_row := a_row) (a_partners := a_partners) (a_share := a_share) (a_leftOver := a_leftOver) (p1 := p1) (c_askedCount := c_askedCount) (c_outcome := c_outcome) (c_row := c_row) hc_2) (cwV 1 hts g_f_X5_moveRefusal_f_X5_hasSite_79 rfl rfl rfl hd_X5_hasSite ⟨Nat.le_of_ble_eq_true rfl, Nat.le_of_ble_eq_true rfl⟩) ⟨pP.blind, hrc, (pP.pre ⟨hK, hN⟩ hPc)⟩ rfl rfl hl.1 rfl (lv_room (Nat.le_of_ble_eq_true rfl)) (dq_182 0 bcX5_moveRefusal_0 (j := 2) (i := 79) rfl rfl rfl) ⟨Nat.le_of_ble_eq_true rfl, Nat.le_of_ble_eq_true rfl⟩) (fun hb_3 => ?_)
  refine lv_if_ne (tgt := 10) hx hb (dq_154 0 bcX5_moveRefusal_0 (j := 5) (i := 5) rfl rfl rfl) (by decide) (fun c_4 => ?_) (fun c_4 => ?_)
  ·
    replace hF := inn c_4 hF
    refine lv_iload_n hx hb (dq_28 0 bcX5_moveRefusal_0 (j := 10) rfl rfl) rfl (lv_at hl 2 rfl) ?_
    refine lv_iload_n hx hb (dq_29 0 bcX5_moveRefusal_0 (j := 11) rfl rfl) rfl (lv_at hl 3 rfl) ?_
    replace hF := bd1_s hF
    obtain ⟨r_5, hc_6, hF⟩ := hF
    have hPc : va_P E.1 vwCl [] s.heap := fun k q h => by simp at h
    refine pE_z (va_runSN (As := [.int p2, .int p3]) (rest := [])  ⟨hx, hb, hml, hown, hts⟩ (f_X7_isMovable l E (p0 := p2) (p1 := p3) hc_6) ⟨va_cnB 2 hts g_f_X5_moveRefusal_f_X7_isMovable_124 rfl rfl rfl (hN _ (List.mem_of_getElem? (i := 26) rfl)) (hts (.initialized RX7) (List.mem_of_getElem? (i := 1) rfl)) hd_X7_isMovable.2 ⟨Nat.le_of_ble_eq_true rfl, Nat.le_of_ble_eq_true rfl⟩, (hts (.static yX7_isMovable) (List.mem_of_getElem? (i := 2) rfl)), trivial⟩ ⟨pP.blind, (pP.pre ⟨hK, hN⟩ hPc)⟩ rfl rfl hl.1 rfl (lv_room (Nat.le_of_ble_eq_true rfl)) (dq_184 0 bcX5_moveRefusal_0 (j := 12) (i := 124) rfl rfl rfl) ⟨Nat.le_of_ble_eq_true rfl, Nat.le_of_ble_eq_true rfl⟩) (fun hb_7 => ?_)
    refine lv_if_eq (tgt := 28) hx hb (dq_153 0 bcX5_moveRefusal_0 (j := 15) (i := 13) rfl rfl rfl) (by decide) (fun c_8 => ?_) (fun c_8 => ?_)
    ·
      replace hF := ip c_8 hF
      refine lv_iconst (v := 1) hx hb (dq_4 0 bcX5_moveRefusal_0 (j := 28) rfl rfl) (by decide) ?_
      rw [hQ]
      obtain e9_0 := inj1 hF
      exact W.iret (v := (1 : Int32)) hx hb hr (fun tt ht hW => ⟨_, rfl, e9_0, ht⟩) (fun _ h => by cases h) (dq_172 0 bcX5_moveRefusal_0 (j := 29) rfl rfl)
    ·
      replace hF := inn c_8 hF
      refine lv_aload_n hx hb (dq_42 0 bcX5_moveRefusal_0 (j := 18) rfl rfl) rfl (lv_at hl 0 rfl) ?_
      refine lv_iload_n hx hb (dq_27 0 bcX5_moveRefusal_0 (j := 19) rfl rfl) rfl (lv_at hl 1 rfl) ?_
      refine lv_iload_n hx hb (dq_28 0 bcX5_moveRefusal_0 (j := 20) rfl rfl) rfl (lv_at hl 2 rfl) ?_
      refine lv_iload_n hx hb (dq_29 0 bcX5_moveRefusal_0 (j := 21) rfl rfl) rfl (lv_at hl 3 rfl) ?_
      replace hF := bd1_s hF
      obtain ⟨r_9, hc_10, hF⟩ := hF
      have hPc : va_P E.1 vwCl (w_X5_hasRoom E a_ a_row a_partners a_share a_leftOver c_askedCount c_outcome c_row) s.heap := hP.sub (ws' := [k_X5 a_ a_row a_partners c_askedCount c_outcome a_share a_leftOver, k_I E a_row 81 c_row]) [0, 1] rfl
      have hrc := va_recv hK hPc (ci := 6) (q0 := 0) rfl rfl
      refine pE_z (va_runV (As := [.int p1, .int p2, .int p3]) (rest := [])  ⟨hx, hb, hml, hown, hts⟩ (f_X5_hasRoom l E (a_ := a_) (a_row := a_row) (a_partners := a_partners) (a_share := a_share) (a_leftOver := a_leftOver) (p1 := p1) (p2 := p2) (p3 := p3) (c_askedCount := c_askedCount) (c_outcome := c_outcome) (c_row := c_row) hc_10) (cwV 3 hts g_f_X5_moveRefusal_f_X5_hasRoom_127 rfl rfl rfl hd_X5_hasRoom ⟨Nat.le_of_ble_eq_true rfl, Nat.le_of_ble_eq_true rfl⟩) ⟨pP.blind, hrc, (pP.pre ⟨hK, hN⟩ hPc)⟩ rfl rfl hl.1 rfl (lv_room (Nat.le_of_ble_eq_true rfl)) (dq_182 0 bcX5_moveRefusal_0 (j := 22) (i := 127) rfl rfl rfl) ⟨Nat.le_of_ble_eq_true rfl, Nat.le_of_ble_eq_true rfl⟩) (fun hb_11 => ?_)
      refine lv_if_ne (tgt := 30) hx hb (dq_154 0 bcX5_moveRefusal_0 (j := 25) (i := 5) rfl rfl rfl) (by decide) (fun c_12 => ?_) (fun c_12 => ?_)
      ·
        replace hF := inn c_12 hF
        refine lv_iload_n hx hb (dq_28 0 bcX5_moveRefusal_0 (j := 30) rfl rfl) rfl (lv_at hl 2 rfl) ?_
        refine lv_if_ne (tgt := 38) hx hb (dq_154 0 bcX5_moveRefusal_0 (j := 31) (i := 7) rfl rfl rfl) (by decide) (fun c_13 => ?_) (fun c_13 => ?_)
        ·
          replace hF := inn c_13 hF
          refine lv_aload_n hx hb (dq_42 0 bcX5_moveRefusal_0 (j := 38) rfl rfl) rfl (lv_at hl 0 rfl) ?_
          refine lv_iload_n hx hb (dq_27 0 bcX5_moveRefusal_0 (j := 39) rfl rfl) rfl (lv_at hl 1 rfl) ?_
          replace hF := bd1_s hF
          obtain ⟨r_14, hc_15, hF⟩ := hF
          have hPc : va_P E.1 vwCl (w_X5_isFrozen E a_ a_row a_partners a_share a_leftOver c_askedCount c_outcome c_row) s.heap := hP.sub (ws' := [k_X5 a_ a_row a_partners c_askedCount c_outcome a_share a_leftOver, k_I E a_row 81 c_row]) [0, 1] rfl
          have hrc := va_recv hK hPc (ci := 6) (q0 := 0) rfl rfl
          refine pE_z (va_runV (As := [.int p1]) (rest := [])  ⟨hx, hb, hml, hown, hts⟩ (f_X5_isFrozen l E (a_ := a_) (a_row := a_row) (a_partners := a_partners) (a_share := a_share) (a_leftOver := a_leftOver) (p1 := p1) (c_askedCount := c_askedCount) (c_outcome := c_outcome) (c_row := c_row) hc_15) (cwV 1 hts g_f_X5_moveRefusal_f_X5_isFrozen_131 rfl rfl rfl hd_X5_isFrozen ⟨Nat.le_of_ble_eq_true rfl, Nat.le_of_ble_eq_true rfl⟩) ⟨pP.blind, hrc, (pP.pre ⟨hK, hN⟩ hPc)⟩ rfl rfl hl.1 rfl (lv_room (Nat.le_of_ble_eq_true rfl)) (dq_182 0 bcX5_moveRefusal_0 (j := 40) (i := 131) rfl rfl rfl) ⟨Nat.le_of_ble_eq_true rfl, Nat.le_of_ble_eq_true rfl⟩) (fun hb_16 => ?_)
          refine lv_if_eq (tgt := 50) hx hb (dq_153 0 bcX5_moveRefusal_0 (j := 43) (i := 7) rfl rfl rfl) (by decide) (fun c_17 => ?_) (fun c_17 => ?_)
          ·
            replace hF := ip c_17 hF
            refine lv_iconst (v := -1) hx hb (dq_2 48 bcX5_moveRefusal_1 (j := 2) rfl rfl) (by decide) ?_
            rw [hQ]
            obtain e9_0 := inj1 hF
            exact W.iret (v := (-1 : Int32)) hx hb hr (fun tt ht hW => ⟨_, rfl, e9_0, ht⟩) (fun _ h => by cases h) (dq_172 48 bcX5_moveRefusal_1 (j := 3) rfl rfl)
          ·
            replace hF := inn c_17 hF
            refine lv_iconst (v := 2) hx hb (dq_5 0 bcX5_moveRefusal_0 (j := 46) rfl rfl) (by decide) ?_
            refine lv_goto (tgt := 51) hx hb (dq_167 0 bcX5_moveRefusal_0 (j := 47) (i := 4) rfl rfl rfl) (by decide) ?_
            rw [hQ]
            obtain e9_0 := inj1 hF
            exact W.iret (v := (2 : Int32)) hx hb hr (fun tt ht hW => ⟨_, rfl, e9_0, ht⟩) (fun _ h => by cases h) (dq_172 48 bcX5_moveRefusal_1 (j := 3) rfl rfl)
        ·
          replace hF := ip c_13 hF
          refine lv_iload_n hx hb (dq_29 0 bcX5_moveRefusal_0 (j := 34) rfl rfl) rfl (lv_at hl 3 rfl) ?_
          refine lv_if_eq (tgt := 46) hx hb (dq_153 0 bcX5_moveRefusal_0 (j := 35) (i := 11) rfl rfl rfl) (by decide) (fun c_18 => ?_) (fun c_18 => ?_)
          ·
            replace hF := ip c_18 hF
            refine lv_iconst (v := 2) hx hb (dq_5 0 bcX5_moveRefusal_0 (j := 46) rfl rfl) (by decide) ?_
            refine lv_goto (tgt := 51) hx hb (dq_167 0 bcX5_moveRefusal_0 (j := 47) (i := 4) rfl rfl rfl) (by decide) ?_
            rw [hQ]
            obtain e9_0 := inj1 hF
            exact W.iret (v := (2 : Int32)) hx hb hr (fun tt ht hW => ⟨_, rfl, e9_0, ht⟩) (fun _ h => by cases h) (dq_172 48 bcX5_moveRefusal_1 (j := 3) rfl rfl)
          ·
            replace hF := inn c_18 hF
            refine lv_aload_n hx hb (dq_42 0 bcX5_moveRefusal_0 (j := 38) rfl rfl) rfl (lv_at hl 0 rfl) ?_
            refine lv_iload_n hx hb (dq_27 0 bcX5_moveRefusal_0 (j := 39) rfl rfl) rfl (lv_at hl 1 rfl) ?_
            replace hF := bd1_s hF
            obtain ⟨r_19, hc_20, hF⟩ := hF
            have hPc : va_P E.1 vwCl (w_X5_isFrozen E a_ a_row a_partners a_share a_leftOver c_askedCount c_outcome c_row) s.heap := hP.sub (ws' := [k_X5 a_ a_row a_partners c_askedCount c_outcome a_share a_leftOver, k_I E a_row 81 c_row]) [0, 1] rfl
            have hrc := va_recv hK hPc (ci := 6) (q0 := 0) rfl rfl
            refine pE_z (va_runV (As := [.int p1]) (rest := [])  ⟨hx, hb, hml, hown, hts⟩ (f_X5_isFrozen l E (a_ := a_) (a_row := a_row) (a_partners := a_partners) (a_share := a_share) (a_leftOver := a_leftOver) (p1 := p1) (c_askedCount := c_askedCount) (c_outcome := c_outcome) (c_row := c_row) hc_20) (cwV 1 hts g_f_X5_moveRefusal_f_X5_isFrozen_131 rfl rfl rfl hd_X5_isFrozen ⟨Nat.le_of_ble_eq_true rfl, Nat.le_of_ble_eq_true rfl⟩) ⟨pP.blind, hrc, (pP.pre ⟨hK, hN⟩ hPc)⟩ rfl rfl hl.1 rfl (lv_room (Nat.le_of_ble_eq_true rfl)) (dq_182 0 bcX5_moveRefusal_0 (j := 40) (i := 131) rfl rfl rfl) ⟨Nat.le_of_ble_eq_true rfl, Nat.le_of_ble_eq_true rfl⟩) (fun hb_21 => ?_)
            refine lv_if_eq (tgt := 50) hx hb (dq_153 0 bcX5_moveRefusal_0 (j := 43) (i := 7) rfl rfl rfl) (by decide) (fun c_22 => ?_) (fun c_22 => ?_)
            ·
              replace hF := ip c_22 hF
              refine lv_iconst (v := -1) hx hb (dq_2 48 bcX5_moveRefusal_1 (j := 2) rfl rfl) (by decide) ?_
              rw [hQ]
              obtain e9_0 := inj1 hF
              exact W.iret (v := (-1 : Int32)) hx hb hr (fun tt ht hW => ⟨_, rfl, e9_0, ht⟩) (fun _ h => by cases h) (dq_172 48 bcX5_moveRefusal_1 (j := 3) rfl rfl)
            ·
              replace hF := inn c_22 hF
              refine lv_iconst (v := 2) hx hb (dq_5 0 bcX5_moveRefusal_0 (j := 46) rfl rfl) (by decide) ?_
              refine lv_goto (tgt := 51) hx hb (dq_167 0 bcX5_moveRefusal_0 (j := 47) (i := 4) rfl rfl rfl) (by decide) ?_
              rw [hQ]
              obtain e9_0 := inj1 hF
              exact W.iret (v := (2 : Int32)) hx hb hr (fun tt ht hW => ⟨_, rfl, e9_0, ht⟩) (fun _ h => by cases h) (dq_172 48 bcX5_moveRefusal_1 (j := 3) rfl rfl)
      ·
        replace hF := ip c_12 hF
        refine lv_iconst (v := 1) hx hb (dq_4 0 bcX5_moveRefusal_0 (j := 28) rfl rfl) (by decide) ?_
        rw [hQ]
        obtain e9_0 := inj1 hF
        exact W.iret (v := (1 : Int32)) hx hb hr (fun tt ht hW => ⟨_, rfl, e9_0, ht⟩) (fun _ h => by cases h) (dq_172 0 bcX5_moveRefusal_0 (j := 29) rfl rfl)
  ·
    replace hF := ip c_4 hF
    refine lv_iconst (v := 0) hx hb (dq_3 0 bcX5_moveRefusal_0 (j := 8) rfl rfl) (by decide) ?_
    rw [hQ]
    obtain e9_0 := inj1 hF
    exact W.iret (v := (0 : Int32)) hx hb hr (fun tt ht hW => ⟨_, rfl, e9_0, ht⟩) (fun _ h => by cases h) (dq_172 0 bcX5_moveRefusal_0 (j := 9) rfl rfl)

def J_X5_point_19 (p1 : Int32) (p2 : Int32) (c_row : Nat → Int32) (k0 : Int32) : Option (Int32) :=
  bd1 (F_X5_drift p1 p2 c_row) (fun r_2 => some (k0 + ((c_row 3) * r_2)))
def F_X5_point (p1 : Int32) (p2 : Int32) (c_row : Nat → Int32) : Option (Int32) :=
  if p2 = (0 : Int32) then J_X5_point_19 p1 p2 c_row (c_row 4) else J_X5_point_19 p1 p2 c_row (c_row 5)
abbrev w_X5_point (E : EE) (a_ a_row a_partners a_share a_leftOver : Nat) (c_askedCount : Int32) (c_outcome : Int32) (c_row : Nat → Int32) : va_W := [k_X5 a_ a_row a_partners c_askedCount c_outcome a_share a_leftOver, k_I E a_row 81 c_row]
def v_f_X5_point : List Cond := List.cons (.code yX5_point cX5_point 3 (some .int)) (HAppend.hAppend (α := List Cond) (β := List Cond) (γ := List Cond) [.fieldLink RX5 11 "HushWatch$State" "row" "[I", .methodLink RX5 72 yX5_drift, .instanceMethod yX5_drift, .selects RX5 yX5_drift yX5_drift, .initialized RX5] (HAppend.hAppend (α := List Cond) (β := List Cond) (γ := List Cond) wsX50 (HAppend.hAppend (α := List Cond) (β := List Cond) (γ := List Cond) v_f_X5_drift [])))
theorem gw_f_X5_point : v_f_X5_point.all goodWord = true := gw_c2 (by decide +kernel) (gw_ap gw_wsX50 (gw_ap gw_f_X5_drift gw_nil))
theorem i_f_X5_point_X5 : ∀ w ∈ wsX50, w ∈ v_f_X5_point := fun _ h => List.mem_cons_of_mem _ (List.mem_append_right _ (List.mem_append_left _ h))
theorem g_f_X5_point_f_X5_drift_72 : GoodIn v_f_X5_point (wsV RX5 72 RX5 yX5_drift v_f_X5_drift) := goodIn_in gw_f_X5_point (in4 2 3 4 5 rfl rfl rfl rfl (fun _ h => List.mem_cons_of_mem _ (List.mem_append_right _ (List.mem_append_right _ (List.mem_append_left _ h)))))
theorem hd_X5_point : yX5_point.cls = RX5 ∧ yX5_point.cls ≠ "java/lang/invoke/MethodHandle" ∧ yX5_point.cls ≠ "java/lang/invoke/VarHandle" ∧ (parseMethodDescriptor yX5_point.desc).map (fun d => d.parameters.length) = some 2 := by decide +kernel
set_option maxHeartbeats 4000000 in
set_option maxRecDepth 100000 in
theorem j_X5_point_19 {p : Program} (l : Launch) {e : Env} {s : State} {m : MethodId} {below : List Frame} {meth : Method} {c : Code} {Q : State → Prop} (E : EE) {a_ a_row a_partners a_share a_leftOver : Nat} {p1 : Int32} {p2 : Int32} {c_askedCount : Int32} {c_outcome : Int32} {c_row : Nat → Int32} {k0 : Int32} (hx : p.tables.exec = Jvm.exec) (hb : c.code = cX5_point) (hml : c.maxLocals = 3) (hown : s.vm.findClass RX5 = some m.cls) (hts : ∀ w ∈ v_f_X5_point, w.before #[Value.ref a_, Value.int p1, Value.int p2] s = true) (hK : va_K E.1 vwCl (TY E) s) (hN : NX s) {rr : Int32} (hr : meth.sig.returnType = (some .int)) (hlocks : meth.locks = false) (hQ : Q = MQ below (vp_Si (fun q : Int32 => q = rr)) #[Value.ref a_, Value.int p1, Value.int p2] s 0 0 (fun _ => False)) (hF : J_X5_point_19 p1 p2 c_row k0 = some rr) (hP : va_P E.1 vwCl (w_X5_point E a_ a_row a_partners a_share a_leftOver c_askedCount c_outcome c_row) s.heap) : ∀ (ls : Array Slot), lv_has ls 3 [(0, .ref a_), (1, .int p1), (2, .int p2)] → W p l e ({ frames := 1, cells := 0, slots := 0, locals := 23 } : Room) s m #[Value.ref a_, Value.int p1, Value.int p2] below meth c s.heap [] 0 0 Q (F0 m 19 ls [.int k0]) := by
  unfold J_X5_point_19 at hF
  replace hP : va_P E.1 vwCl [k_X5 a_ a_row a_partners c_askedCount c_outcome a_share a_leftOver, k_I E a_row 81 c_row] s.heap := hP
  intro ls hl
  refine lv_aload_n hx hb (dq_42 0 bcX5_point_0 (j := 19) rfl rfl) rfl (lv_at hl 0 rfl) ?_
  refine gt_X5_0 (v := .ref a_row) hx hb hts i_f_X5_point_X5 hown hK hP 0 rfl (hts (.fieldLink RX5 11 "HushWatch$State" "row" "[I") (List.mem_of_getElem? (i := 1) rfl)) rfl (dq_180 0 bcX5_point_0 (j := 20) (i := 11) rfl rfl rfl) ?_
  refine lv_iconst (v := 3) hx hb (dq_6 0 bcX5_point_0 (j := 23) rfl rfl) (by decide) ?_
  refine va_iald hx hb hK hP 1 0 rfl rfl (vin rfl) (dq_46 0 bcX5_point_0 (j := 24) rfl rfl) ?_
  refine W.eq (g2 := F0 m 25 ls [.int (c_row 3), .int k0]) rfl ?_
  refine lv_aload_n hx hb (dq_42 0 bcX5_point_0 (j := 25) rfl rfl) rfl (lv_at hl 0 rfl) ?_
  refine lv_iload_n hx hb (dq_27 0 bcX5_point_0 (j := 26) rfl rfl) rfl (lv_at hl 1 rfl) ?_
  refine lv_iload_n hx hb (dq_28 0 bcX5_point_0 (j := 27) rfl rfl) rfl (lv_at hl 2 rfl) ?_
  replace hF := bd1_s hF
  obtain ⟨r_2, hc_3, hF⟩ := hF
  have hPc : va_P E.1 vwCl (w_X5_drift E a_ a_row a_partners a_share a_leftOver c_askedCount c_outcome c_row) s.heap := hP.sub (ws' := [k_X5 a_ a_row a_partners c_askedCount c_outcome a_share a_leftOver, k_I E a_row 81 c_row]) [0, 1] rfl
  have hrc := va_recv hK hPc (ci := 6) (q0 := 0) rfl rfl
  refine pE_i (va_runV (As := [.int p1, .int p2]) (rest := [.int (c_row 3), .int k0])  ⟨hx, hb, hml, hown, hts⟩ (f_X5_drift l E (a_ := a_) (a_row := a_row) (a_partners := a_partners) (a_share := a_share) (a_leftOver := a_leftOver) (p1 := p1) (p2 := p2) (c_askedCount := c_askedCount) (c_outcome := c_outcome) (c_row := c_row) hc_3) (cwV 2 hts g_f_X5_point_f_X5_drift_72 rfl rfl rfl hd_X5_drift ⟨Nat.le_of_ble_eq_true rfl, Nat.le_of_ble_eq_true rfl⟩) ⟨pP.blind, hrc, (pP.pre ⟨hK, hN⟩ hPc)⟩ rfl rfl hl.1 rfl (lv_room (Nat.le_of_ble_eq_true rfl)) (dq_182 0 bcX5_point_0 (j := 28) (i := 72) rfl rfl rfl) ⟨Nat.le_of_ble_eq_true rfl, Nat.le_of_ble_eq_true rfl⟩) ?_
  refine lv_imul hx hb (dq_104 0 bcX5_point_0 (j := 31) rfl rfl) ?_
  refine lv_iadd hx hb (dq_96 0 bcX5_point_0 (j := 32) rfl rfl) ?_
  rw [hQ]
  obtain e9_0 := inj1 hF
  exact W.iret (v := k0 + ((c_row 3) * r_2)) hx hb hr (fun tt ht hW => ⟨_, rfl, e9_0, ht⟩) (fun _ h => by cases h) (dq_172 0 bcX5_point_0 (j := 33) rfl rfl)

set_option maxHeartbeats 4000000 in
set_option maxRecDepth 100000 in
theorem f_X5_point (l : Launch) (E : EE) {a_ a_row a_partners a_share a_leftOver : Nat} {p1 : Int32} {p2 : Int32} {c_askedCount : Int32} {c_outcome : Int32} {c_row : Nat → Int32} {rr : Int32} (hF : F_X5_point p1 p2 c_row = some rr) : Met l yX5_point v_f_X5_point (({ frames := 1, cells := 0, slots := 0, locals := 23 } : Room)) (va_Pc [.ref a_, .int p1, .int p2] (pP E (w_X5_point E a_ a_row a_partners a_share a_leftOver c_askedCount c_outcome c_row))) (vp_Si (fun q : Int32 => q = rr)) 0 0 (fun _ => False) := by
  refine Met.ofW (cc := cX5_point) (maxL := 3) (ret := (some .int)) (by decide) rfl ?_
  intro p e s m args below meth c s₁ B hml hv
  obtain ⟨rfl, ⟨hK, hN⟩, hP⟩ := hv
  have hx := B.exec
  have hb := B.bytes
  have hr := B.returns
  have hts := atoms_spec (ws := v_f_X5_point) B.pre
  have hown : s.vm.findClass RX5 = some m.cls := own_of hd_X5_point.1 (findClass_of_methodNamed B.named)
  have hlocks : meth.locks = false := B.notSynchronized
  replace hP : va_P E.1 vwCl [k_X5 a_ a_row a_partners c_askedCount c_outcome a_share a_leftOver, k_I E a_row 81 c_row] s.heap := hP
  have hl := lv_entry ([.ref a_, .int p1, .int p2]) (n := 3) (Nat.le_of_ble_eq_true rfl)
  rw [lg_entry_eq]
  generalize (lg_sl ([.ref a_, .int p1, .int p2]) ++ List.replicate (3 - (lg_sl ([.ref a_, .int p1, .int p2])).length) Slot.unset).toArray = ls at hl ⊢
  have hl : lv_has ls 3 [(0, .ref a_), (1, .int p1), (2, .int p2)] := hl
  obtain ⟨Q, hQ⟩ : ∃ Q : State → Prop, Q = MQ below (vp_Si (fun q : Int32 => q = rr)) #[Value.ref a_, Value.int p1, Value.int p2] s 0 0 (fun _ => False) := ⟨_, rfl⟩
  rw [← hQ]
  change W p l e ({ frames := 1, cells := 0, slots := 0, locals := 23 } : Room) s m #[Value.ref a_, Value.int p1, Value.int p2] below meth c s.heap [] 0 0 Q (F0 m 0 ls [])
  unfold F_X5_point at hF
  refine lv_iload_n hx hb (dq_28 0 bcX5_point_0 (j := 0) rfl rfl) rfl (lv_at hl 2 rfl) ?_
  refine lv_if_ne (tgt := 13) hx hb (dq_154 0 bcX5_point_0 (j := 1) (i := 12) rfl rfl rfl) (by decide) (fun c_1 => ?_) (fun c_1 => ?_)
  ·
    replace hF := inn c_1 hF
    refine lv_aload_n hx hb (dq_42 0 bcX5_point_0 (j := 13) rfl rfl) rfl (lv_at hl 0 rfl) ?_
    refine gt_X5_0 (v := .ref a_row) hx hb hts i_f_X5_point_X5 hown hK hP 0 rfl (hts (.fieldLink RX5 11 "HushWatch$State" "row" "[I") (List.mem_of_getElem? (i := 1) rfl)) rfl (dq_180 0 bcX5_point_0 (j := 14) (i := 11) rfl rfl rfl) ?_
    refine lv_iconst (v := 5) hx hb (dq_8 0 bcX5_point_0 (j := 17) rfl rfl) (by decide) ?_
    refine va_iald hx hb hK hP 1 0 rfl rfl (vin rfl) (dq_46 0 bcX5_point_0 (j := 18) rfl rfl) ?_
    refine W.eq (g2 := F0 m 19 ls [.int (c_row 5)]) rfl ?_
    exact j_X5_point_19 l E (p1 := p1) (p2 := p2) (c_askedCount := c_askedCount) (c_outcome := c_outcome) (c_row := c_row) (k0 := c_row 5) hx hb hml hown hts hK hN hr hlocks hQ hF hP ls (lv_sub hl [0, 1, 2] rfl)
  ·
    replace hF := ip c_1 hF
    refine lv_aload_n hx hb (dq_42 0 bcX5_point_0 (j := 4) rfl rfl) rfl (lv_at hl 0 rfl) ?_
    refine gt_X5_0 (v := .ref a_row) hx hb hts i_f_X5_point_X5 hown hK hP 0 rfl (hts (.fieldLink RX5 11 "HushWatch$State" "row" "[I") (List.mem_of_getElem? (i := 1) rfl)) rfl (dq_180 0 bcX5_point_0 (j := 5) (i := 11) rfl rfl rfl) ?_
    refine lv_iconst (v := 4) hx hb (dq_7 0 bcX5_point_0 (j := 8) rfl rfl) (by decide) ?_
    refine va_iald hx hb hK hP 1 0 rfl rfl (vin rfl) (dq_46 0 bcX5_point_0 (j := 9) rfl rfl) ?_
    refine W.eq (g2 := F0 m 10 ls [.int (c_row 4)]) rfl ?_
    refine lv_goto (tgt := 19) hx hb (dq_167 0 bcX5_point_0 (j := 10) (i := 9) rfl rfl rfl) (by decide) ?_
    exact j_X5_point_19 l E (p1 := p1) (p2 := p2) (c_askedCount := c_askedCount) (c_outcome := c_outcome) (c_row := c_row) (k0 := c_row 4) hx hb hml hown hts hK hN hr hlocks hQ hF hP ls (lv_sub hl [0, 1, 2] rfl)

def F_X5_pointValue (p1 : Int32) (p2 : Int32) (p3 : Int32) (c_row : Nat → Int32) : Option (Int64) :=
  bd1 (F_X5_point p1 (0 : Int32) c_row) (fun r_1 => bd1 (F_X5_point p1 (1 : Int32) c_row) (fun r_3 => bd1 (F_X5_valueOf ((r_1 + ((c_row 3) * p2)).toInt64) ((r_3 + ((c_row 3) * p3)).toInt64) c_row) (fun r_5 => some r_5)))
abbrev w_X5_pointValue (E : EE) (a_ a_row a_partners a_share a_leftOver : Nat) (c_askedCount : Int32) (c_outcome : Int32) (c_row : Nat → Int32) : va_W := [k_X5 a_ a_row a_partners c_askedCount c_outcome a_share a_leftOver, k_I E a_row 81 c_row]
def v_f_X5_pointValue : List Cond := List.cons (.code yX5_pointValue cX5_pointValue 4 (some .long)) (HAppend.hAppend (α := List Cond) (β := List Cond) (γ := List Cond) [.fieldLink RX5 11 "HushWatch$State" "row" "[I", .methodLink RX5 91 yX5_point, .instanceMethod yX5_point, .selects RX5 yX5_point yX5_point, .initialized RX5, .methodLink RX5 75 yX5_valueOf, .instanceMethod yX5_valueOf, .selects RX5 yX5_valueOf yX5_valueOf] (HAppend.hAppend (α := List Cond) (β := List Cond) (γ := List Cond) v_f_X5_point (HAppend.hAppend (α := List Cond) (β := List Cond) (γ := List Cond) wsX50 (HAppend.hAppend (α := List Cond) (β := List Cond) (γ := List Cond) v_f_X5_valueOf []))))
theorem gw_f_X5_pointValue : v_f_X5_pointValue.all goodWord = true := gw_c2 (by decide +kernel) (gw_ap gw_f_X5_point (gw_ap gw_wsX50 (gw_ap gw_f_X5_valueOf gw_nil)))
theorem i_f_X5_pointValue_X5 : ∀ w ∈ wsX50, w ∈ v_f_X5_pointValue := fun _ h => List.mem_cons_of_mem _ (List.mem_append_right _ (List.mem_append_right _ (List.mem_append_left _ h)))
theorem g_f_X5_pointValue_f_X5_point_91 : GoodIn v_f_X5_pointValue (wsV RX5 91 RX5 yX5_point v_f_X5_point) := goodIn_in gw_f_X5_pointValue (in4 2 3 4 5 rfl rfl rfl rfl (fun _ h => List.mem_cons_of_mem _ (List.mem_append_right _ (List.mem_append_left _ h))))
theorem g_f_X5_pointValue_f_X5_valueOf_75 : GoodIn v_f_X5_pointValue (wsV RX5 75 RX5 yX5_valueOf v_f_X5_valueOf) := goodIn_in gw_f_X5_pointValue (in4 6 7 8 5 rfl rfl rfl rfl (fun _ h => List.mem_cons_of_mem _ (List.mem_append_right _ (List.mem_append_right _ (List.mem_append_right _ (List.mem_append_left _ h))))))
theorem hd_X5_pointValue : yX5_pointValue.cls = RX5 ∧ yX5_pointValue.cls ≠ "java/lang/invoke/MethodHandle" ∧ yX5_pointValue.cls ≠ "java/lang/invoke/VarHandle" ∧ (parseMethodDescriptor yX5_pointValue.desc).map (fun d => d.parameters.length) = some 3 := by decide +kernel
set_option maxHeartbeats 4000000 in
set_option maxRecDepth 100000 in
theorem f_X5_pointValue (l : Launch) (E : EE) {a_ a_row a_partners a_share a_leftOver : Nat} {p1 : Int32} {p2 : Int32} {p3 : Int32} {c_askedCount : Int32} {c_outcome : Int32} {c_row : Nat → Int32} {rr : Int64} (hF : F_X5_pointValue p1 p2 p3 c_row = some rr) : Met l yX5_pointValue v_f_X5_pointValue (({ frames := 2, cells := 0, slots := 0, locals := 45 } : Room)) (va_Pc [.ref a_, .int p1, .int p2, .int p3] (pP E (w_X5_pointValue E a_ a_row a_partners a_share a_leftOver c_askedCount c_outcome c_row))) (vp_Sl (fun q : Int64 => q = rr)) 0 0 (fun _ => False) := by
  refine Met.ofW (cc := cX5_pointValue) (maxL := 4) (ret := (some .long)) (by decide) rfl ?_
  intro p e s m args below meth c s₁ B hml hv
  obtain ⟨rfl, ⟨hK, hN⟩, hP⟩ := hv
  have hx := B.exec
  have hb := B.bytes
  have hr := B.returns
  have hts := atoms_spec (ws := v_f_X5_pointValue) B.pre
  have hown : s.vm.findClass RX5 = some m.cls := own_of hd_X5_pointValue.1 (findClass_of_methodNamed B.named)
  have hlocks : meth.locks = false := B.notSynchronized
  replace hP : va_P E.1 vwCl [k_X5 a_ a_row a_partners c_askedCount c_outcome a_share a_leftOver, k_I E a_row 81 c_row] s.heap := hP
  have hl := lv_entry ([.ref a_, .int p1, .int p2, .int p3]) (n := 4) (Nat.le_of_ble_eq_true rfl)
  rw [lg_entry_eq]
  generalize (lg_sl ([.ref a_, .int p1, .int p2, .int p3]) ++ List.replicate (4 - (lg_sl ([.ref a_, .int p1, .int p2, .int p3])).length) Slot.unset).toArray = ls at hl ⊢
  have hl : lv_has ls 4 [(0, .ref a_), (1, .int p1), (2, .int p2), (3, .int p3)] := hl
  obtain ⟨Q, hQ⟩ : ∃ Q : State → Prop, Q = MQ below (vp_Sl (fun q : Int64 => q = rr)) #[Value.ref a_, Value.int p1, Value.int p2, Value.int p3] s 0 0 (fun _ => False) := ⟨_, rfl⟩
  rw [← hQ]
  change W p l e ({ frames := 2, cells := 0, slots := 0, locals := 45 } : Room) s m #[Value.ref a_, Value.int p1, Value.int p2, Value.int p3] below meth c s.heap [] 0 0 Q (F0 m 0 ls [])
  unfold F_X5_pointValue at hF
  refine lv_aload_n hx hb (dq_42 0 bcX5_pointValue_0 (j := 0) rfl rfl) rfl (lv_at hl 0 rfl) ?_
  refine lv_aload_n hx hb (dq_42 0 bcX5_pointValue_0 (j := 1) rfl rfl) rfl (lv_at hl 0 rfl) ?_
  refine lv_iload_n hx hb (dq_27 0 bcX5_pointValue_0 (j := 2) rfl rfl) rfl (lv_at hl 1 rfl) ?_
  refine lv_iconst (v := 0) hx hb (dq_3 0 bcX5_pointValue_0 (j := 3) rfl rfl) (by decide) ?_
  replace hF := bd1_s hF
  obtain ⟨r_1, hc_2, hF⟩ := hF
  have hPc : va_P E.1 vwCl (w_X5_point E a_ a_row a_partners a_share a_leftOver c_askedCount c_outcome c_row) s.heap := hP.sub (ws' := [k_X5 a_ a_row a_partners c_askedCount c_outcome a_share a_leftOver, k_I E a_row 81 c_row]) [0, 1] rfl
  have hrc := va_recv hK hPc (ci := 6) (q0 := 0) rfl rfl
  refine pE_i (va_runV (As := [.int p1, .int (0 : Int32)]) (rest := [.ref a_])  ⟨hx, hb, hml, hown, hts⟩ (f_X5_point l E (a_ := a_) (a_row := a_row) (a_partners := a_partners) (a_share := a_share) (a_leftOver := a_leftOver) (p1 := p1) (p2 := (0 : Int32)) (c_askedCount := c_askedCount) (c_outcome := c_outcome) (c_row := c_row) hc_2) (cwV 2 hts g_f_X5_pointValue_f_X5_point_91 rfl rfl rfl hd_X5_point ⟨Nat.le_of_ble_eq_true rfl, Nat.le_of_ble_eq_true rfl⟩) ⟨pP.blind, hrc, (pP.pre ⟨hK, hN⟩ hPc)⟩ rfl rfl hl.1 rfl (lv_room (Nat.le_of_ble_eq_true rfl)) (dq_182 0 bcX5_pointValue_0 (j := 4) (i := 91) rfl rfl rfl) ⟨Nat.le_of_ble_eq_true rfl, Nat.le_of_ble_eq_true rfl⟩) ?_
  refine lv_aload_n hx hb (dq_42 0 bcX5_pointValue_0 (j := 7) rfl rfl) rfl (lv_at hl 0 rfl) ?_
  refine gt_X5_0 (v := .ref a_row) hx hb hts i_f_X5_pointValue_X5 hown hK hP 0 rfl (hts (.fieldLink RX5 11 "HushWatch$State" "row" "[I") (List.mem_of_getElem? (i := 1) rfl)) rfl (dq_180 0 bcX5_pointValue_0 (j := 8) (i := 11) rfl rfl rfl) ?_
  refine lv_iconst (v := 3) hx hb (dq_6 0 bcX5_pointValue_0 (j := 11) rfl rfl) (by decide) ?_
  refine va_iald hx hb hK hP 1 0 rfl rfl (vin rfl) (dq_46 0 bcX5_pointValue_0 (j := 12) rfl rfl) ?_
  refine W.eq (g2 := F0 m 13 ls [.int (c_row 3), .int r_1, .ref a_]) rfl ?_
  refine lv_iload_n hx hb (dq_28 0 bcX5_pointValue_0 (j := 13) rfl rfl) rfl (lv_at hl 2 rfl) ?_
  refine lv_imul hx hb (dq_104 0 bcX5_pointValue_0 (j := 14) rfl rfl) ?_
  refine lv_iadd hx hb (dq_96 0 bcX5_pointValue_0 (j := 15) rfl rfl) ?_
  refine lv_i2l (v := (r_1 + ((c_row 3) * p2)).toInt64) hx hb (dq_133 0 bcX5_pointValue_0 (j := 16) rfl rfl) rfl ?_
  refine lv_aload_n hx hb (dq_42 0 bcX5_pointValue_0 (j := 17) rfl rfl) rfl (lv_at hl 0 rfl) ?_
  refine lv_iload_n hx hb (dq_27 0 bcX5_pointValue_0 (j := 18) rfl rfl) rfl (lv_at hl 1 rfl) ?_
  refine lv_iconst (v := 1) hx hb (dq_4 0 bcX5_pointValue_0 (j := 19) rfl rfl) (by decide) ?_
  replace hF := bd1_s hF
  obtain ⟨r_3, hc_4, hF⟩ := hF
  have hPc : va_P E.1 vwCl (w_X5_point E a_ a_row a_partners a_share a_leftOver c_askedCount c_outcome c_row) s.heap := hP.sub (ws' := [k_X5 a_ a_row a_partners c_askedCount c_outcome a_share a_leftOver, k_I E a_row 81 c_row]) [0, 1] rfl
  have hrc := va_recv hK hPc (ci := 6) (q0 := 0) rfl rfl
  refine pE_i (va_runV (As := [.int p1, .int (1 : Int32)]) (rest := [.long ((r_1 + ((c_row 3) * p2)).toInt64), .ref a_])  ⟨hx, hb, hml, hown, hts⟩ (f_X5_point l E (a_ := a_) (a_row := a_row) (a_partners := a_partners) (a_share := a_share) (a_leftOver := a_leftOver) (p1 := p1) (p2 := (1 : Int32)) (c_askedCount := c_askedCount) (c_outcome := c_outcome) (c_row := c_row) hc_4) (cwV 2 hts g_f_X5_pointValue_f_X5_point_91 rfl rfl rfl hd_X5_point ⟨Nat.le_of_ble_eq_true rfl, Nat.le_of_ble_eq_true rfl⟩) ⟨pP.blind, hrc, (pP.pre ⟨hK, hN⟩ hPc)⟩ rfl rfl hl.1 rfl (lv_room (Nat.le_of_ble_eq_true rfl)) (dq_182 0 bcX5_pointValue_0 (j := 20) (i := 91) rfl rfl rfl) ⟨Nat.le_of_ble_eq_true rfl, Nat.le_of_ble_eq_true rfl⟩) ?_
  refine lv_aload_n hx hb (dq_42 0 bcX5_pointValue_0 (j := 23) rfl rfl) rfl (lv_at hl 0 rfl) ?_
  refine gt_X5_0 (v := .ref a_row) hx hb hts i_f_X5_pointValue_X5 hown hK hP 0 rfl (hts (.fieldLink RX5 11 "HushWatch$State" "row" "[I") (List.mem_of_getElem? (i := 1) rfl)) rfl (dq_180 0 bcX5_pointValue_0 (j := 24) (i := 11) rfl rfl rfl) ?_
  refine lv_iconst (v := 3) hx hb (dq_6 0 bcX5_pointValue_0 (j := 27) rfl rfl) (by decide) ?_
  refine va_iald hx hb hK hP 1 0 rfl rfl (vin rfl) (dq_46 0 bcX5_pointValue_0 (j := 28) rfl rfl) ?_
  refine W.eq (g2 := F0 m 29 ls [.int (c_row 3), .int r_3, .long ((r_1 + ((c_row 3) * p2)).toInt64), .ref a_]) rfl ?_
  refine lv_iload_n hx hb (dq_29 0 bcX5_pointValue_0 (j := 29) rfl rfl) rfl (lv_at hl 3 rfl) ?_
  refine lv_imul hx hb (dq_104 0 bcX5_pointValue_0 (j := 30) rfl rfl) ?_
  refine lv_iadd hx hb (dq_96 0 bcX5_pointValue_0 (j := 31) rfl rfl) ?_
  refine lv_i2l (v := (r_3 + ((c_row 3) * p3)).toInt64) hx hb (dq_133 0 bcX5_pointValue_0 (j := 32) rfl rfl) rfl ?_
  replace hF := bd1_s hF
  obtain ⟨r_5, hc_6, hF⟩ := hF
  have hPc : va_P E.1 vwCl (w_X5_valueOf E a_ a_row a_partners a_share a_leftOver c_askedCount c_outcome c_row) s.heap := hP.sub (ws' := [k_X5 a_ a_row a_partners c_askedCount c_outcome a_share a_leftOver, k_I E a_row 81 c_row]) [0, 1] rfl
  have hrc := va_recv hK hPc (ci := 6) (q0 := 0) rfl rfl
  refine pE_l (va_runV (As := [.long ((r_1 + ((c_row 3) * p2)).toInt64), .long ((r_3 + ((c_row 3) * p3)).toInt64)]) (rest := [])  ⟨hx, hb, hml, hown, hts⟩ (f_X5_valueOf l E (a_ := a_) (a_row := a_row) (a_partners := a_partners) (a_share := a_share) (a_leftOver := a_leftOver) (p1 := (r_1 + ((c_row 3) * p2)).toInt64) (p2 := (r_3 + ((c_row 3) * p3)).toInt64) (c_askedCount := c_askedCount) (c_outcome := c_outcome) (c_row := c_row) hc_6) (cwV 2 hts g_f_X5_pointValue_f_X5_valueOf_75 rfl rfl rfl hd_X5_valueOf ⟨Nat.le_of_ble_eq_true rfl, Nat.le_of_ble_eq_true rfl⟩) ⟨pP.blind, hrc, (pP.pre ⟨hK, hN⟩ hPc)⟩ rfl rfl hl.1 rfl (lv_room (Nat.le_of_ble_eq_true rfl)) (dq_182 0 bcX5_pointValue_0 (j := 33) (i := 75) rfl rfl rfl) ⟨Nat.le_of_ble_eq_true rfl, Nat.le_of_ble_eq_true rfl⟩) ?_
  rw [hQ]
  obtain e9_0 := inj1 hF
  exact W.lret (v := r_5) hx hb hr (fun tt ht hW => ⟨_, rfl, e9_0, ht⟩) (fun _ h => by cases h) (dq_173 0 bcX5_pointValue_0 (j := 36) rfl rfl)

def B_X5_quietSites_4 (c_row : Nat → Int32) (x1 : Int32) (x2 : Int32) : Option ((Int32 × Int32) ⊕ (Int32)) :=
  bd1 (F_X5_sites c_row) (fun r_1 => if r_1 ≤ x2 then some (.inr x1) else bd1 (F_X5_isQuiet x2 c_row) (fun r_4 => if r_4 = (0 : Int32) then some (.inl (x1 ||| (0 : Int32), x2 + (1 : Int32))) else some (.inl (x1 ||| ((1 : Int32) <<< (x2 &&& (31 : Int32))), x2 + (1 : Int32)))))
def F_X5_quietSites (K : Nat) (c_row : Nat → Int32) : Option (Int32) :=
  bd1 (lpF (fun u9 : Int32 × Int32 => B_X5_quietSites_4 c_row u9.1 u9.2) K ((0 : Int32), (0 : Int32))) (fun x1_8 => some x1_8)
abbrev w_X5_quietSites (E : EE) (a_ a_row a_partners a_share a_leftOver : Nat) (c_askedCount : Int32) (c_outcome : Int32) (c_row : Nat → Int32) : va_W := [k_X5 a_ a_row a_partners c_askedCount c_outcome a_share a_leftOver, k_I E a_row 81 c_row]
def v_f_X5_quietSites : List Cond := List.cons (.code yX5_quietSites cX5_quietSites 3 (some .int)) (HAppend.hAppend (α := List Cond) (β := List Cond) (γ := List Cond) [.methodLink RX5 45 yX5_sites, .instanceMethod yX5_sites, .selects RX5 yX5_sites yX5_sites, .initialized RX5, .methodLink RX5 99 yX5_isQuiet, .instanceMethod yX5_isQuiet, .selects RX5 yX5_isQuiet yX5_isQuiet] (HAppend.hAppend (α := List Cond) (β := List Cond) (γ := List Cond) v_f_X5_sites (HAppend.hAppend (α := List Cond) (β := List Cond) (γ := List Cond) v_f_X5_isQuiet [])))
theorem gw_f_X5_quietSites : v_f_X5_quietSites.all goodWord = true := gw_c2 (by decide +kernel) (gw_ap gw_f_X5_sites (gw_ap gw_f_X5_isQuiet gw_nil))
theorem g_f_X5_quietSites_f_X5_sites_45 : GoodIn v_f_X5_quietSites (wsV RX5 45 RX5 yX5_sites v_f_X5_sites) := goodIn_in gw_f_X5_quietSites (in4 1 2 3 4 rfl rfl rfl rfl (fun _ h => List.mem_cons_of_mem _ (List.mem_append_right _ (List.mem_append_left _ h))))
theorem g_f_X5_quietSites_f_X5_isQuiet_99 : GoodIn v_f_X5_quietSites (wsV RX5 99 RX5 yX5_isQuiet v_f_X5_isQuiet) := goodIn_in gw_f_X5_quietSites (in4 5 6 7 4 rfl rfl rfl rfl (fun _ h => List.mem_cons_of_mem _ (List.mem_append_right _ (List.mem_append_right _ (List.mem_append_left _ h)))))
theorem hd_X5_quietSites : yX5_quietSites.cls = RX5 ∧ yX5_quietSites.cls ≠ "java/lang/invoke/MethodHandle" ∧ yX5_quietSites.cls ≠ "java/lang/invoke/VarHandle" ∧ (parseMethodDescriptor yX5_quietSites.desc).map (fun d => d.parameters.length) = some 0 := by decide +kernel
set_option maxHeartbeats 4000000 in
set_option maxRecDepth 100000 in
theorem wb_X5_quietSites_4 {p : Program} (l : Launch) {e : Env} {s : State} {m : MethodId} {below : List Frame} {meth : Method} {c : Code} {Q : State → Prop} (E : EE) (K : Nat) {a_ a_row a_partners a_share a_leftOver : Nat} {c_askedCount : Int32} {c_outcome : Int32} {c_row : Nat → Int32} {x1 : Int32} {x2 : Int32} (hx : p.tables.exec = Jvm.exec) (hb : c.code = cX5_quietSites) (hml : c.maxLocals = 3) (hown : s.vm.findClass RX5 = some m.cls) (hts : ∀ w ∈ v_f_X5_quietSites, w.before #[Value.ref a_] s = true) (hK : va_K E.1 vwCl (TY E) s) (hN : NX s) {xx : (Int32 × Int32) ⊕ (Int32)} (hC : ∀ (x1 : Int32), ∀ (x2 : Int32), xx = .inl (x1, x2) → ∀ (ls : Array Slot), lv_has ls 3 [(0, .ref a_), (1, .int x1), (2, .int x2)] → W p l e ({ frames := 3, cells := 0, slots := 0, locals := 71 } : Room) s m #[Value.ref a_] below meth c s.heap [] 0 0 Q (F0 m 4 ls [])) (hE : ∀ (x1 : Int32), xx = .inr x1 → ((∀ (ls : Array Slot), lv_has ls 3 [(1, .int x1)] → W p l e ({ frames := 3, cells := 0, slots := 0, locals := 71 } : Room) s m #[Value.ref a_] below meth c s.heap [] 0 0 Q (F0 m 36 ls [])))) (hF : B_X5_quietSites_4 c_row x1 x2 = some xx) (hP : va_P E.1 vwCl (w_X5_quietSites E a_ a_row a_partners a_share a_leftOver c_askedCount c_outcome c_row) s.heap) : ∀ (ls : Array Slot), lv_has ls 3 [(0, .ref a_), (1, .int x1), (2, .int x2)] → W p l e ({ frames := 3, cells := 0, slots := 0, locals := 71 } : Room) s m #[Value.ref a_] below meth c s.heap [] 0 0 Q (F0 m 4 ls []) := by
  unfold B_X5_quietSites_4 at hF
  replace hP : va_P E.1 vwCl [k_X5 a_ a_row a_partners c_askedCount c_outcome a_share a_leftOver, k_I E a_row 81 c_row] s.heap := hP
  intro ls hl
  refine lv_iload_n hx hb (dq_28 0 bcX5_quietSites_0 (j := 4) rfl rfl) rfl (lv_at hl 2 rfl) ?_
  refine lv_aload_n hx hb (dq_42 0 bcX5_quietSites_0 (j := 5) rfl rfl) rfl (lv_at hl 0 rfl) ?_
  replace hF := bd1_s hF
  obtain ⟨r_1, hc_2, hF⟩ := hF
  have hPc : va_P E.1 vwCl (w_X5_sites E a_ a_row a_partners a_share a_leftOver c_askedCount c_outcome c_row) s.heap := hP.sub (ws' := [k_X5 a_ a_row a_partners c_askedCount c_outcome a_share a_leftOver, k_I E a_row 81 c_row]) [0, 1] rfl
  have hrc := va_recv hK hPc (ci := 6) (q0 := 0) rfl rfl
  refine pE_i (va_runV (As := []) (rest := [.int x2])  ⟨hx, hb, hml, hown, hts⟩ (f_X5_sites l E (a_ := a_) (a_row := a_row) (a_partners := a_partners) (a_share := a_share) (a_leftOver := a_leftOver) (c_askedCount := c_askedCount) (c_outcome := c_outcome) (c_row := c_row) hc_2) (cwV 0 hts g_f_X5_quietSites_f_X5_sites_45 rfl rfl rfl hd_X5_sites ⟨Nat.le_of_ble_eq_true rfl, Nat.le_of_ble_eq_true rfl⟩) ⟨pP.blind, hrc, (pP.pre ⟨hK, hN⟩ hPc)⟩ rfl rfl hl.1 rfl (lv_room (Nat.le_of_ble_eq_true rfl)) (dq_182 0 bcX5_quietSites_0 (j := 6) (i := 45) rfl rfl rfl) ⟨Nat.le_of_ble_eq_true rfl, Nat.le_of_ble_eq_true rfl⟩) ?_
  refine lv_icmp_ge (tgt := 36) hx hb (dq_162 0 bcX5_quietSites_0 (j := 9) (i := 27) rfl rfl rfl) (by decide) (fun c_3 => ?_) (fun c_3 => ?_)
  ·
    replace hF := ip c_3 hF
    cases hF
    exact hE x1 rfl ls (lv_sub hl [1] rfl)
  ·
    replace hF := inn c_3 hF
    refine lv_iload_n hx hb (dq_27 0 bcX5_quietSites_0 (j := 12) rfl rfl) rfl (lv_at hl 1 rfl) ?_
    refine lv_aload_n hx hb (dq_42 0 bcX5_quietSites_0 (j := 13) rfl rfl) rfl (lv_at hl 0 rfl) ?_
    refine lv_iload_n hx hb (dq_28 0 bcX5_quietSites_0 (j := 14) rfl rfl) rfl (lv_at hl 2 rfl) ?_
    replace hF := bd1_s hF
    obtain ⟨r_4, hc_5, hF⟩ := hF
    have hPc : va_P E.1 vwCl (w_X5_isQuiet E a_ a_row a_partners a_share a_leftOver c_askedCount c_outcome c_row) s.heap := hP.sub (ws' := [k_X5 a_ a_row a_partners c_askedCount c_outcome a_share a_leftOver, k_I E a_row 81 c_row]) [0, 1] rfl
    have hrc := va_recv hK hPc (ci := 6) (q0 := 0) rfl rfl
    refine pE_z (va_runV (As := [.int x2]) (rest := [.int x1])  ⟨hx, hb, hml, hown, hts⟩ (f_X5_isQuiet l E (a_ := a_) (a_row := a_row) (a_partners := a_partners) (a_share := a_share) (a_leftOver := a_leftOver) (p1 := x2) (c_askedCount := c_askedCount) (c_outcome := c_outcome) (c_row := c_row) hc_5) (cwV 1 hts g_f_X5_quietSites_f_X5_isQuiet_99 rfl rfl rfl hd_X5_isQuiet ⟨Nat.le_of_ble_eq_true rfl, Nat.le_of_ble_eq_true rfl⟩) ⟨pP.blind, hrc, (pP.pre ⟨hK, hN⟩ hPc)⟩ rfl rfl hl.1 rfl (lv_room (Nat.le_of_ble_eq_true rfl)) (dq_182 0 bcX5_quietSites_0 (j := 15) (i := 99) rfl rfl rfl) ⟨Nat.le_of_ble_eq_true rfl, Nat.le_of_ble_eq_true rfl⟩) (fun hb_6 => ?_)
    refine lv_if_eq (tgt := 27) hx hb (dq_153 0 bcX5_quietSites_0 (j := 18) (i := 9) rfl rfl rfl) (by decide) (fun c_7 => ?_) (fun c_7 => ?_)
    ·
      replace hF := ip c_7 hF
      refine lv_iconst (v := 0) hx hb (dq_3 0 bcX5_quietSites_0 (j := 27) rfl rfl) (by decide) ?_
      refine lv_ior hx hb (dq_128 0 bcX5_quietSites_0 (j := 28) rfl rfl) ?_
      refine lv_istore_n (lv' := [(1, .int (x1 ||| (0 : Int32))), (0, .ref a_), (2, .int x2)]) hx hb (dq_60 0 bcX5_quietSites_0 (j := 29) rfl rfl) rfl hl (by decide) rfl (fun ls hl => ?_)
      refine lv_iinc (v := x2 + (1 : Int32)) (lv' := [(2, .int (x2 + (1 : Int32))), (1, .int (x1 ||| (0 : Int32))), (0, .ref a_)]) hx hb (dq_132 0 bcX5_quietSites_0 (j := 30) (i := 1) rfl rfl rfl) hl (k := 2) rfl (rfl) (by decide) rfl (fun ls hl => ?_)
      refine lv_goto (tgt := 4) hx hb (dq_167 0 bcX5_quietSites_0 (j := 33) (i := -29) rfl rfl rfl) (by decide) ?_
      cases hF
      exact hC (x1 ||| (0 : Int32)) (x2 + (1 : Int32)) rfl ls (lv_sub hl [2, 1, 0] rfl)
    ·
      replace hF := inn c_7 hF
      refine lv_iconst (v := 1) hx hb (dq_4 0 bcX5_quietSites_0 (j := 21) rfl rfl) (by decide) ?_
      refine lv_iload_n hx hb (dq_28 0 bcX5_quietSites_0 (j := 22) rfl rfl) rfl (lv_at hl 2 rfl) ?_
      refine lv_ishl hx hb (dq_120 0 bcX5_quietSites_0 (j := 23) rfl rfl) ?_
      refine lv_goto (tgt := 28) hx hb (dq_167 0 bcX5_quietSites_0 (j := 24) (i := 4) rfl rfl rfl) (by decide) ?_
      refine lv_ior hx hb (dq_128 0 bcX5_quietSites_0 (j := 28) rfl rfl) ?_
      refine lv_istore_n (lv' := [(1, .int (x1 ||| ((1 : Int32) <<< (x2 &&& (31 : Int32))))), (0, .ref a_), (2, .int x2)]) hx hb (dq_60 0 bcX5_quietSites_0 (j := 29) rfl rfl) rfl hl (by decide) rfl (fun ls hl => ?_)
      refine lv_iinc (v := x2 + (1 : Int32)) (lv' := [(2, .int (x2 + (1 : Int32))), (1, .int (x1 ||| ((1 : Int32) <<< (x2 &&& (31 : Int32))))), (0, .ref a_)]) hx hb (dq_132 0 bcX5_quietSites_0 (j := 30) (i := 1) rfl rfl rfl) hl (k := 2) rfl (rfl) (by decide) rfl (fun ls hl => ?_)
      refine lv_goto (tgt := 4) hx hb (dq_167 0 bcX5_quietSites_0 (j := 33) (i := -29) rfl rfl rfl) (by decide) ?_
      cases hF
      exact hC (x1 ||| ((1 : Int32) <<< (x2 &&& (31 : Int32)))) (x2 + (1 : Int32)) rfl ls (lv_sub hl [2, 1, 0] rfl)

set_option maxHeartbeats 4000000 in
set_option maxRecDepth 100000 in
theorem lw_X5_quietSites_4 {p : Program} (l : Launch) {e : Env} {s : State} {m : MethodId} {below : List Frame} {meth : Method} {c : Code} {Q : State → Prop} (E : EE) (K : Nat) {a_ a_row a_partners a_share a_leftOver : Nat} {c_askedCount : Int32} {c_outcome : Int32} {c_row : Nat → Int32} (hx : p.tables.exec = Jvm.exec) (hb : c.code = cX5_quietSites) (hml : c.maxLocals = 3) (hown : s.vm.findClass RX5 = some m.cls) (hts : ∀ w ∈ v_f_X5_quietSites, w.before #[Value.ref a_] s = true) (hK : va_K E.1 vwCl (TY E) s) (hN : NX s) (hP : va_P E.1 vwCl (w_X5_quietSites E a_ a_row a_partners a_share a_leftOver c_askedCount c_outcome c_row) s.heap) (j9 : Nat) (x1 : Int32) (x2 : Int32) (x1' : Int32) (hL : lpF (fun u9 : Int32 × Int32 => B_X5_quietSites_4 c_row u9.1 u9.2) j9 (x1, x2) = some x1') (hX : (∀ (ls : Array Slot), lv_has ls 3 [(1, .int x1')] → W p l e ({ frames := 3, cells := 0, slots := 0, locals := 71 } : Room) s m #[Value.ref a_] below meth c s.heap [] 0 0 Q (F0 m 36 ls []))) : ∀ (ls : Array Slot), lv_has ls 3 [(0, .ref a_), (1, .int x1), (2, .int x2)] → W p l e ({ frames := 3, cells := 0, slots := 0, locals := 71 } : Room) s m #[Value.ref a_] below meth c s.heap [] 0 0 Q (F0 m 4 ls []) := by
  exact lp_rule (P := (fun u9 : Int32 × Int32 => ∀ (ls : Array Slot), lv_has ls 3 [(0, .ref a_), (1, .int u9.1), (2, .int u9.2)] → W p l e ({ frames := 3, cells := 0, slots := 0, locals := 71 } : Room) s m #[Value.ref a_] below meth c s.heap [] 0 0 Q (F0 m 4 ls []))) (R := (fun r9 : Int32 => (∀ (ls : Array Slot), lv_has ls 3 [(1, .int r9)] → W p l e ({ frames := 3, cells := 0, slots := 0, locals := 71 } : Room) s m #[Value.ref a_] below meth c s.heap [] 0 0 Q (F0 m 36 ls [])))) (fun u9 xx hF hC hE => wb_X5_quietSites_4 l E K (c_askedCount := c_askedCount) (c_outcome := c_outcome) (c_row := c_row) (x1 := u9.1) (x2 := u9.2) hx hb hml hown hts hK hN (fun x1 x2 q9 => hC _ q9) (fun x1 q9 => hE _ q9) hF hP) j9 (x1, x2) x1' hL hX

set_option maxHeartbeats 4000000 in
set_option maxRecDepth 100000 in
theorem f_X5_quietSites (l : Launch) (E : EE) (K : Nat) {a_ a_row a_partners a_share a_leftOver : Nat} {c_askedCount : Int32} {c_outcome : Int32} {c_row : Nat → Int32} {rr : Int32} (hF : F_X5_quietSites K c_row = some rr) : Met l yX5_quietSites v_f_X5_quietSites (({ frames := 3, cells := 0, slots := 0, locals := 71 } : Room)) (va_Pc [.ref a_] (pP E (w_X5_quietSites E a_ a_row a_partners a_share a_leftOver c_askedCount c_outcome c_row))) (vp_Si (fun q : Int32 => q = rr)) 0 0 (fun _ => False) := by
  refine Met.ofW (cc := cX5_quietSites) (maxL := 3) (ret := (some .int)) (by decide) rfl ?_
  intro p e s m args below meth c s₁ B hml hv
  obtain ⟨rfl, ⟨hK, hN⟩, hP⟩ := hv
  have hx := B.exec
  have hb := B.bytes
  have hr := B.returns
  have hts := atoms_spec (ws := v_f_X5_quietSites) B.pre
  have hown : s.vm.findClass RX5 = some m.cls := own_of hd_X5_quietSites.1 (findClass_of_methodNamed B.named)
  have hlocks : meth.locks = false := B.notSynchronized
  replace hP : va_P E.1 vwCl [k_X5 a_ a_row a_partners c_askedCount c_outcome a_share a_leftOver, k_I E a_row 81 c_row] s.heap := hP
  have hl := lv_entry ([.ref a_]) (n := 3) (Nat.le_of_ble_eq_true rfl)
  rw [lg_entry_eq]
  generalize (lg_sl ([.ref a_]) ++ List.replicate (3 - (lg_sl ([.ref a_])).length) Slot.unset).toArray = ls at hl ⊢
  have hl : lv_has ls 3 [(0, .ref a_)] := hl
  obtain ⟨Q, hQ⟩ : ∃ Q : State → Prop, Q = MQ below (vp_Si (fun q : Int32 => q = rr)) #[Value.ref a_] s 0 0 (fun _ => False) := ⟨_, rfl⟩
  rw [← hQ]
  change W p l e ({ frames := 3, cells := 0, slots := 0, locals := 71 } : Room) s m #[Value.ref a_] below meth c s.heap [] 0 0 Q (F0 m 0 ls [])
  unfold F_X5_quietSites at hF
  refine lv_iconst (v := 0) hx hb (dq_3 0 bcX5_quietSites_0 (j := 0) rfl rfl) (by decide) ?_
  refine lv_istore_n (lv' := [(1, .int (0 : Int32)), (0, .ref a_)]) hx hb (dq_60 0 bcX5_quietSites_0 (j := 1) rfl rfl) rfl hl (by decide) rfl (fun ls hl => ?_)
  refine lv_iconst (v := 0) hx hb (dq_3 0 bcX5_quietSites_0 (j := 2) rfl rfl) (by decide) ?_
  refine lv_istore_n (lv' := [(2, .int (0 : Int32)), (1, .int (0 : Int32)), (0, .ref a_)]) hx hb (dq_61 0 bcX5_quietSites_0 (j := 3) rfl rfl) rfl hl (by decide) rfl (fun ls hl => ?_)
  replace hF := bd1_s hF
  obtain ⟨x1_8, hL_9, hF⟩ := hF
  refine lw_X5_quietSites_4 l E K (c_askedCount := c_askedCount) (c_outcome := c_outcome) (c_row := c_row) hx hb hml hown hts hK hN hP K (0 : Int32) (0 : Int32) x1_8 hL_9 ?_ ls (lv_sub hl [2, 1, 0] rfl)
  ·
    intro ls hl
    refine lv_iload_n hx hb (dq_27 0 bcX5_quietSites_0 (j := 36) rfl rfl) rfl (lv_at hl 0 rfl) ?_
    rw [hQ]
    obtain e9_0 := inj1 hF
    exact W.iret (v := x1_8) hx hb hr (fun tt ht hW => ⟨_, rfl, e9_0, ht⟩) (fun _ h => by cases h) (dq_172 0 bcX5_quietSites_0 (j := 37) rfl rfl)

def F_X5_stands (c_row : Nat → Int32) : Option (Int32) :=
  if c_row 3 ≤ (0 : Int32) then some (0 : Int32) else some (1 : Int32)
abbrev w_X5_stands (E : EE) (a_ a_row a_partners a_share a_leftOver : Nat) (c_askedCount : Int32) (c_outcome : Int32) (c_row : Nat → Int32) : va_W := [k_X5 a_ a_row a_partners c_askedCount c_outcome a_share a_leftOver, k_I E a_row 81 c_row]
def v_f_X5_stands : List Cond := List.cons (.code yX5_stands cX5_stands 1 (some .boolean)) (HAppend.hAppend (α := List Cond) (β := List Cond) (γ := List Cond) [.fieldLink RX5 11 "HushWatch$State" "row" "[I"] (HAppend.hAppend (α := List Cond) (β := List Cond) (γ := List Cond) wsX50 []))
theorem gw_f_X5_stands : v_f_X5_stands.all goodWord = true := gw_c2 (by decide +kernel) (gw_ap gw_wsX50 gw_nil)
theorem i_f_X5_stands_X5 : ∀ w ∈ wsX50, w ∈ v_f_X5_stands := fun _ h => List.mem_cons_of_mem _ (List.mem_append_right _ (List.mem_append_left _ h))
theorem hd_X5_stands : yX5_stands.cls = RX5 ∧ yX5_stands.cls ≠ "java/lang/invoke/MethodHandle" ∧ yX5_stands.cls ≠ "java/lang/invoke/VarHandle" ∧ (parseMethodDescriptor yX5_stands.desc).map (fun d => d.parameters.length) = some 0 := by decide +kernel
set_option maxHeartbeats 4000000 in
set_option maxRecDepth 100000 in
theorem f_X5_stands (l : Launch) (E : EE) {a_ a_row a_partners a_share a_leftOver : Nat} {c_askedCount : Int32} {c_outcome : Int32} {c_row : Nat → Int32} {rr : Int32} (hF : F_X5_stands c_row = some rr) : Met l yX5_stands v_f_X5_stands (({ frames := 0, cells := 0, slots := 0, locals := 0 } : Room)) (va_Pc [.ref a_] (pP E (w_X5_stands E a_ a_row a_partners a_share a_leftOver c_askedCount c_outcome c_row))) (vp_Si (fun q : Int32 => q = rr ∧ (q = 0 ∨ q = 1))) 0 0 (fun _ => False) := by
  refine Met.ofW (cc := cX5_stands) (maxL := 1) (ret := (some .boolean)) (by decide) rfl ?_
  intro p e s m args below meth c s₁ B hml hv
  obtain ⟨rfl, ⟨hK, hN⟩, hP⟩ := hv
  have hx := B.exec
  have hb := B.bytes
  have hr := B.returns
  have hts := atoms_spec (ws := v_f_X5_stands) B.pre
  have hown : s.vm.findClass RX5 = some m.cls := own_of hd_X5_stands.1 (findClass_of_methodNamed B.named)
  have hlocks : meth.locks = false := B.notSynchronized
  replace hP : va_P E.1 vwCl [k_X5 a_ a_row a_partners c_askedCount c_outcome a_share a_leftOver, k_I E a_row 81 c_row] s.heap := hP
  have hl := lv_entry ([.ref a_]) (n := 1) (Nat.le_of_ble_eq_true rfl)
  rw [lg_entry_eq]
  generalize (lg_sl ([.ref a_]) ++ List.replicate (1 - (lg_sl ([.ref a_])).length) Slot.unset).toArray = ls at hl ⊢
  have hl : lv_has ls 1 [(0, .ref a_)] := hl
  obtain ⟨Q, hQ⟩ : ∃ Q : State → Prop, Q = MQ below (vp_Si (fun q : Int32 => q = rr ∧ (q = 0 ∨ q = 1))) #[Value.ref a_] s 0 0 (fun _ => False) := ⟨_, rfl⟩
  rw [← hQ]
  change W p l e ({ frames := 0, cells := 0, slots := 0, locals := 0 } : Room) s m #[Value.ref a_] below meth c s.heap [] 0 0 Q (F0 m 0 ls [])
  unfold F_X5_stands at hF
  refine lv_aload_n hx hb (dq_42 0 bcX5_stands_0 (j := 0) rfl rfl) rfl (lv_at hl 0 rfl) ?_
  refine gt_X5_0 (v := .ref a_row) hx hb hts i_f_X5_stands_X5 hown hK hP 0 rfl (hts (.fieldLink RX5 11 "HushWatch$State" "row" "[I") (List.mem_of_getElem? (i := 1) rfl)) rfl (dq_180 0 bcX5_stands_0 (j := 1) (i := 11) rfl rfl rfl) ?_
  refine lv_iconst (v := 3) hx hb (dq_6 0 bcX5_stands_0 (j := 4) rfl rfl) (by decide) ?_
  refine va_iald hx hb hK hP 1 0 rfl rfl (vin rfl) (dq_46 0 bcX5_stands_0 (j := 5) rfl rfl) ?_
  refine W.eq (g2 := F0 m 6 ls [.int (c_row 3)]) rfl ?_
  refine lv_if_le (tgt := 13) hx hb (dq_158 0 bcX5_stands_0 (j := 6) (i := 7) rfl rfl rfl) (by decide) (fun c_1 => ?_) (fun c_1 => ?_)
  ·
    replace hF := ip c_1 hF
    refine lv_iconst (v := 0) hx hb (dq_3 0 bcX5_stands_0 (j := 13) rfl rfl) (by decide) ?_
    rw [hQ]
    obtain e9_0 := inj1 hF
    exact W.zret (v := (0 : Int32)) hx hb hr rfl (fun tt ht hW => ⟨_, rfl, ⟨e9_0, Or.inl rfl⟩, ht⟩) (fun _ h => by cases h) (dq_172 0 bcX5_stands_0 (j := 14) rfl rfl)
  ·
    replace hF := inn c_1 hF
    refine lv_iconst (v := 1) hx hb (dq_4 0 bcX5_stands_0 (j := 9) rfl rfl) (by decide) ?_
    refine lv_goto (tgt := 14) hx hb (dq_167 0 bcX5_stands_0 (j := 10) (i := 4) rfl rfl rfl) (by decide) ?_
    rw [hQ]
    obtain e9_0 := inj1 hF
    exact W.zret (v := (1 : Int32)) hx hb hr rfl (fun tt ht hW => ⟨_, rfl, ⟨e9_0, Or.inr rfl⟩, ht⟩) (fun _ h => by cases h) (dq_172 0 bcX5_stands_0 (j := 14) rfl rfl)

def F_X5_setRefusal (p0 : Int32) (p1 : Int32) (p2 : Int32) (p3 : Int32) : Option (Int32) :=
  if p0 < p1 then some (1 : Int32) else if p0 ≤ p2 then if p0 = p3 then some (2 : Int32) else some (-1 : Int32) else some (1 : Int32)

def v_f_X5_setRefusal : List Cond := List.cons (.code yX5_setRefusal cX5_setRefusal 4 (some .int)) (HAppend.hAppend (α := List Cond) (β := List Cond) (γ := List Cond) [] [])
theorem gw_f_X5_setRefusal : v_f_X5_setRefusal.all goodWord = true := gw_c2 (by decide +kernel) gw_nil
theorem hd_X5_setRefusal : yX5_setRefusal.cls = RX5 ∧ yX5_setRefusal.cls ≠ "java/lang/invoke/MethodHandle" ∧ yX5_setRefusal.cls ≠ "java/lang/invoke/VarHandle" ∧ (parseMethodDescriptor yX5_setRefusal.desc).map (fun d => d.parameters.length) = some 4 := by decide +kernel
set_option maxHeartbeats 4000000 in
set_option maxRecDepth 100000 in
theorem f_X5_setRefusal (l : Launch) (E : EE) {p0 : Int32} {p1 : Int32} {p2 : Int32} {p3 : Int32} {rr : Int32} (hF : F_X5_setRefusal p0 p1 p2 p3 = some rr) : Met l yX5_setRefusal v_f_X5_setRefusal (({ frames := 0, cells := 0, slots := 0, locals := 0 } : Room)) (va_Pc [.int p0, .int p1, .int p2, .int p3] (pP E [])) (vp_Si (fun q : Int32 => q = rr)) 0 0 (fun _ => False) := by
  refine Met.ofW (cc := cX5_setRefusal) (maxL := 4) (ret := (some .int)) (by decide) rfl ?_
  intro p e s m args below meth c s₁ B hml hv
  obtain ⟨rfl, ⟨hK, hN⟩, hP⟩ := hv
  have hx := B.exec
  have hb := B.bytes
  have hr := B.returns
  have hts := atoms_spec (ws := v_f_X5_setRefusal) B.pre
  have hown : s.vm.findClass RX5 = some m.cls := own_of hd_X5_setRefusal.1 (findClass_of_methodNamed B.named)
  have hlocks : meth.locks = false := B.notSynchronized
  replace hP : va_P E.1 vwCl [] s.heap := hP
  have hl := lv_entry ([.int p0, .int p1, .int p2, .int p3]) (n := 4) (Nat.le_of_ble_eq_true rfl)
  rw [lg_entry_eq]
  generalize (lg_sl ([.int p0, .int p1, .int p2, .int p3]) ++ List.replicate (4 - (lg_sl ([.int p0, .int p1, .int p2, .int p3])).length) Slot.unset).toArray = ls at hl ⊢
  have hl : lv_has ls 4 [(0, .int p0), (1, .int p1), (2, .int p2), (3, .int p3)] := hl
  obtain ⟨Q, hQ⟩ : ∃ Q : State → Prop, Q = MQ below (vp_Si (fun q : Int32 => q = rr)) #[Value.int p0, Value.int p1, Value.int p2, Value.int p3] s 0 0 (fun _ => False) := ⟨_, rfl⟩
  rw [← hQ]
  change W p l e ({ frames := 0, cells := 0, slots := 0, locals := 0 } : Room) s m #[Value.int p0, Value.int p1, Value.int p2, Value.int p3] below meth c s.heap [] 0 0 Q (F0 m 0 ls [])
  unfold F_X5_setRefusal at hF
  refine lv_iload_n hx hb (dq_26 0 bcX5_setRefusal_0 (j := 0) rfl rfl) rfl (lv_at hl 0 rfl) ?_
  refine lv_iload_n hx hb (dq_27 0 bcX5_setRefusal_0 (j := 1) rfl rfl) rfl (lv_at hl 1 rfl) ?_
  refine lv_icmp_lt (tgt := 10) hx hb (dq_161 0 bcX5_setRefusal_0 (j := 2) (i := 8) rfl rfl rfl) (by decide) (fun c_1 => ?_) (fun c_1 => ?_)
  ·
    replace hF := ip c_1 hF
    refine lv_iconst (v := 1) hx hb (dq_4 0 bcX5_setRefusal_0 (j := 10) rfl rfl) (by decide) ?_
    rw [hQ]
    obtain e9_0 := inj1 hF
    exact W.iret (v := (1 : Int32)) hx hb hr (fun tt ht hW => ⟨_, rfl, e9_0, ht⟩) (fun _ h => by cases h) (dq_172 0 bcX5_setRefusal_0 (j := 11) rfl rfl)
  ·
    replace hF := inn c_1 hF
    refine lv_iload_n hx hb (dq_26 0 bcX5_setRefusal_0 (j := 5) rfl rfl) rfl (lv_at hl 0 rfl) ?_
    refine lv_iload_n hx hb (dq_28 0 bcX5_setRefusal_0 (j := 6) rfl rfl) rfl (lv_at hl 2 rfl) ?_
    refine lv_icmp_le (tgt := 12) hx hb (dq_164 0 bcX5_setRefusal_0 (j := 7) (i := 5) rfl rfl rfl) (by decide) (fun c_2 => ?_) (fun c_2 => ?_)
    ·
      replace hF := ip c_2 hF
      refine lv_iload_n hx hb (dq_26 0 bcX5_setRefusal_0 (j := 12) rfl rfl) rfl (lv_at hl 0 rfl) ?_
      refine lv_iload_n hx hb (dq_29 0 bcX5_setRefusal_0 (j := 13) rfl rfl) rfl (lv_at hl 3 rfl) ?_
      refine lv_icmp_ne (tgt := 21) hx hb (dq_160 0 bcX5_setRefusal_0 (j := 14) (i := 7) rfl rfl rfl) (by decide) (fun c_3 => ?_) (fun c_3 => ?_)
      ·
        replace hF := inn c_3 hF
        refine lv_iconst (v := -1) hx hb (dq_2 0 bcX5_setRefusal_0 (j := 21) rfl rfl) (by decide) ?_
        rw [hQ]
        obtain e9_0 := inj1 hF
        exact W.iret (v := (-1 : Int32)) hx hb hr (fun tt ht hW => ⟨_, rfl, e9_0, ht⟩) (fun _ h => by cases h) (dq_172 0 bcX5_setRefusal_0 (j := 22) rfl rfl)
      ·
        replace hF := ip c_3 hF
        refine lv_iconst (v := 2) hx hb (dq_5 0 bcX5_setRefusal_0 (j := 17) rfl rfl) (by decide) ?_
        refine lv_goto (tgt := 22) hx hb (dq_167 0 bcX5_setRefusal_0 (j := 18) (i := 4) rfl rfl rfl) (by decide) ?_
        rw [hQ]
        obtain e9_0 := inj1 hF
        exact W.iret (v := (2 : Int32)) hx hb hr (fun tt ht hW => ⟨_, rfl, e9_0, ht⟩) (fun _ h => by cases h) (dq_172 0 bcX5_setRefusal_0 (j := 22) rfl rfl)
    ·
      replace hF := inn c_2 hF
      refine lv_iconst (v := 1) hx hb (dq_4 0 bcX5_setRefusal_0 (j := 10) rfl rfl) (by decide) ?_
      rw [hQ]
      obtain e9_0 := inj1 hF
      exact W.iret (v := (1 : Int32)) hx hb hr (fun tt ht hW => ⟨_, rfl, e9_0, ht⟩) (fun _ h => by cases h) (dq_172 0 bcX5_setRefusal_0 (j := 11) rfl rfl)

def F_X5_refusal (p1 : Int32) (p2 : Int32) (p3 : Int32) (p4 : Int32) (c_row : Nat → Int32) : Option (Int32) :=
  bd1 (F_X5_stands c_row) (fun r_1 => if r_1 = (0 : Int32) then some (0 : Int32) else if p1 = (0 : Int32) then bd1 (F_X5_moveRefusal p2 p3 p4 c_row) (fun r_6 => some r_6) else if p1 = (1 : Int32) then some (-1 : Int32) else if p1 = (2 : Int32) then bd1 (F_X5_setRefusal p2 (-9999999 : Int32) (9999999 : Int32) (c_row 1)) (fun r_8 => some r_8) else if p1 = (3 : Int32) then bd1 (F_X5_setRefusal p2 (0 : Int32) (3 : Int32) (c_row 0)) (fun r_10 => some r_10) else if p1 = (4 : Int32) then bd1 (F_X5_addRefusal p2 p3 c_row) (fun r_12 => some r_12) else if p1 = (5 : Int32) then if p2 < (1 : Int32) then some (1 : Int32) else if p2 ≤ (9999 : Int32) then some (-1 : Int32) else some (1 : Int32) else if p1 = (6 : Int32) then bd1 (F_X5_freezeRefusal p2 c_row) (fun r_16 => some r_16) else some (-1 : Int32))
abbrev w_X5_refusal (E : EE) (a_ a_row a_partners a_share a_leftOver : Nat) (c_askedCount : Int32) (c_outcome : Int32) (c_row : Nat → Int32) : va_W := [k_X5 a_ a_row a_partners c_askedCount c_outcome a_share a_leftOver, k_I E a_row 81 c_row]
def v_f_X5_refusal : List Cond := List.cons (.code yX5_refusal cX5_refusal 5 (some .int)) (HAppend.hAppend (α := List Cond) (β := List Cond) (γ := List Cond) [.constant RX5 112 (-9999999), .constant RX5 113 (9999999), .fieldLink RX5 11 "HushWatch$State" "row" "[I", .methodLink RX5 105 yX5_stands, .instanceMethod yX5_stands, .selects RX5 yX5_stands yX5_stands, .initialized RX5, .methodLink RX5 108 yX5_moveRefusal, .instanceMethod yX5_moveRefusal, .selects RX5 yX5_moveRefusal yX5_moveRefusal, .methodLink RX5 114 yX5_setRefusal, .static yX5_setRefusal, .methodLink RX5 118 yX5_addRefusal, .instanceMethod yX5_addRefusal, .selects RX5 yX5_addRefusal yX5_addRefusal, .methodLink RX5 121 yX5_freezeRefusal, .instanceMethod yX5_freezeRefusal, .selects RX5 yX5_freezeRefusal yX5_freezeRefusal] (HAppend.hAppend (α := List Cond) (β := List Cond) (γ := List Cond) v_f_X5_stands (HAppend.hAppend (α := List Cond) (β := List Cond) (γ := List Cond) v_f_X5_moveRefusal (HAppend.hAppend (α := List Cond) (β := List Cond) (γ := List Cond) wsX50 (HAppend.hAppend (α := List Cond) (β := List Cond) (γ := List Cond) v_f_X5_setRefusal (HAppend.hAppend (α := List Cond) (β := List Cond) (γ := List Cond) v_f_X5_addRefusal (HAppend.hAppend (α := List Cond) (β := List Cond) (γ := List Cond) v_f_X5_freezeRefusal [])))))))
theorem gw_f_X5_refusal : v_f_X5_refusal.all goodWord = true := gw_c2 (by decide +kernel) (gw_ap gw_f_X5_stands (gw_ap gw_f_X5_moveRefusal (gw_ap gw_wsX50 (gw_ap gw_f_X5_setRefusal (gw_ap gw_f_X5_addRefusal (gw_ap gw_f_X5_freezeRefusal gw_nil))))))
theorem i_f_X5_refusal_X5 : ∀ w ∈ wsX50, w ∈ v_f_X5_refusal := fun _ h => List.mem_cons_of_mem _ (List.mem_append_right _ (List.mem_append_right _ (List.mem_append_right _ (List.mem_append_left _ h))))
theorem g_f_X5_refusal_f_X5_stands_105 : GoodIn v_f_X5_refusal (wsV RX5 105 RX5 yX5_stands v_f_X5_stands) := goodIn_in gw_f_X5_refusal (in4 4 5 6 7 rfl rfl rfl rfl (fun _ h => List.mem_cons_of_mem _ (List.mem_append_right _ (List.mem_append_left _ h))))
theorem g_f_X5_refusal_f_X5_moveRefusal_108 : GoodIn v_f_X5_refusal (wsV RX5 108 RX5 yX5_moveRefusal v_f_X5_moveRefusal) := goodIn_in gw_f_X5_refusal (in4 8 9 10 7 rfl rfl rfl rfl (fun _ h => List.mem_cons_of_mem _ (List.mem_append_right _ (List.mem_append_right _ (List.mem_append_left _ h)))))
theorem g_f_X5_refusal_f_X5_setRefusal_114 : GoodIn v_f_X5_refusal (va_wsS RX5 114 yX5_setRefusal v_f_X5_setRefusal) := goodIn_in gw_f_X5_refusal (in3 11 12 7 rfl rfl rfl (fun _ h => List.mem_cons_of_mem _ (List.mem_append_right _ (List.mem_append_right _ (List.mem_append_right _ (List.mem_append_right _ (List.mem_append_left _ h)))))))
theorem g_f_X5_refusal_f_X5_addRefusal_118 : GoodIn v_f_X5_refusal (wsV RX5 118 RX5 yX5_addRefusal v_f_X5_addRefusal) := goodIn_in gw_f_X5_refusal (in4 13 14 15 7 rfl rfl rfl rfl (fun _ h => List.mem_cons_of_mem _ (List.mem_append_right _ (List.mem_append_right _ (List.mem_append_right _ (List.mem_append_right _ (List.mem_append_right _ (List.mem_append_left _ h))))))))
theorem g_f_X5_refusal_f_X5_freezeRefusal_121 : GoodIn v_f_X5_refusal (wsV RX5 121 RX5 yX5_freezeRefusal v_f_X5_freezeRefusal) := goodIn_in gw_f_X5_refusal (in4 16 17 18 7 rfl rfl rfl rfl (fun _ h => List.mem_cons_of_mem _ (List.mem_append_right _ (List.mem_append_right _ (List.mem_append_right _ (List.mem_append_right _ (List.mem_append_right _ (List.mem_append_right _ (List.mem_append_left _ h)))))))))
theorem hd_X5_refusal : yX5_refusal.cls = RX5 ∧ yX5_refusal.cls ≠ "java/lang/invoke/MethodHandle" ∧ yX5_refusal.cls ≠ "java/lang/invoke/VarHandle" ∧ (parseMethodDescriptor yX5_refusal.desc).map (fun d => d.parameters.length) = some 4 := by decide +kernel
set_option maxHeartbeats 4000000 in
set_option maxRecDepth 100000 in
theorem f_X5_refusal (l : Launch) (E : EE) {a_ a_row a_partners a_share a_leftOver : Nat} {p1 : Int32} {p2 : Int32} {p3 : Int32} {p4 : Int32} {c_askedCount : Int32} {c_outcome : Int32} {c_row : Nat → Int32} {rr : Int32} (hF : F_X5_refusal p1 p2 p3 p4 c_row = some rr) : Met l yX5_refusal v_f_X5_refusal (({ frames := 3, cells := 0, slots := 0, locals := 68 } : Room)) (va_Pc [.ref a_, .int p1, .int p2, .int p3, .int p4] (pP E (w_X5_refusal E a_ a_row a_partners a_share a_leftOver c_askedCount c_outcome c_row))) (vp_Si (fun q : Int32 => q = rr)) 0 0 (fun _ => False) := by
  refine Met.ofW (cc := cX5_refusal) (maxL := 5) (ret := (some .int)) (by decide) rfl ?_
  intro p e s m args below meth c s₁ B hml hv
  obtain ⟨rfl, ⟨hK, hN⟩, hP⟩ := hv
  have hx := B.exec
  have hb := B.bytes
  have hr := B.returns
  have hts := atoms_spec (ws := v_f_X5_refusal) B.pre
  have hown : s.vm.findClass RX5 = some m.cls := own_of hd_X5_refusal.1 (findClass_of_methodNamed B.named)
  have hlocks : meth.locks = false := B.notSynchronized
  replace hP : va_P E.1 vwCl [k_X5 a_ a_row a_partners c_askedCount c_outcome a_share a_leftOver, k_I E a_row 81 c_row] s.heap := hP
  have hl := lv_entry ([.ref a_, .int p1, .int p2, .int p3, .int p4]) (n := 5) (Nat.le_of_ble_eq_true rfl)
  rw [lg_entry_eq]
  generalize (lg_sl ([.ref a_, .int p1, .int p2, .int p3, .int p4]) ++ List.replicate (5 - (lg_sl ([.ref a_, .int p1, .int p2, .int p3, .int p4])).length) Slot.unset).toArray = ls at hl ⊢
  have hl : lv_has ls 5 [(0, .ref a_), (1, .int p1), (2, .int p2), (3, .int p3), (4, .int p4)] := hl
  obtain ⟨Q, hQ⟩ : ∃ Q : State → Prop, Q = MQ below (vp_Si (fun q : Int32 => q = rr)) #[Value.ref a_, Value.int p1, Value.int p2, Value.int p3, Value.int p4] s 0 0 (fun _ => False) := ⟨_, rfl⟩
  rw [← hQ]
  change W p l e ({ frames := 3, cells := 0, slots := 0, locals := 68 } : Room) s m #[Value.ref a_, Value.int p1, Value.int p2, Value.int p3, Value.int p4] below meth c s.heap [] 0 0 Q (F0 m 0 ls [])
  unfold F_X5_refusal at hF
  refine lv_aload_n hx hb (dq_42 0 bcX5_refusal_0 (j := 0) rfl rfl) rfl (lv_at hl 0 rfl) ?_
  replace hF := bd1_s hF
  obtain ⟨r_1, hc_2, hF⟩ := hF
  have hPc : va_P E.1 vwCl (w_X5_stands E a_ a_row a_partners a_share a_leftOver c_askedCount c_outcome c_row) s.heap := hP.sub (ws' := [k_X5 a_ a_row a_partners c_askedCount c_outcome a_share a_leftOver, k_I E a_row 81 c_row]) [0, 1] rfl
  have hrc := va_recv hK hPc (ci := 6) (q0 := 0) rfl rfl
  refine pE_z (va_runV (As := []) (rest := [])  ⟨hx, hb, hml, hown, hts⟩ (f_X5_stands l E (a_ := a_) (a_row := a_row) (a_partners := a_partners) (a_share := a_share) (a_leftOver := a_leftOver) (c_askedCount := c_askedCount) (c_outcome := c_outcome) (c_row := c_row) hc_2) (cwV 0 hts g_f_X5_refusal_f_X5_stands_105 rfl rfl rfl hd_X5_stands ⟨Nat.le_of_ble_eq_true rfl, Nat.le_of_ble_eq_true rfl⟩) ⟨pP.blind, hrc, (pP.pre ⟨hK, hN⟩ hPc)⟩ rfl rfl hl.1 rfl (lv_room (Nat.le_of_ble_eq_true rfl)) (dq_182 0 bcX5_refusal_0 (j := 1) (i := 105) rfl rfl rfl) ⟨Nat.le_of_ble_eq_true rfl, Nat.le_of_ble_eq_true rfl⟩) (fun hb_3 => ?_)
  refine lv_if_ne (tgt := 9) hx hb (dq_154 0 bcX5_refusal_0 (j := 4) (i := 5) rfl rfl rfl) (by decide) (fun c_4 => ?_) (fun c_4 => ?_)
  ·
    replace hF := inn c_4 hF
    refine lv_iload_n hx hb (dq_27 0 bcX5_refusal_0 (j := 9) rfl rfl) rfl (lv_at hl 1 rfl) ?_
    rcases Classical.em (p1 = (0 : Int32)) with c_5_0 | c_5_0
    ·
      replace hF := ip c_5_0 hF
      refine lv_tableIn (off := 42) (tgt := 52) hx hb dX5_refusal_10 (by rw [c_5_0]; decide) (by rw [c_5_0]; decide) (by rw [c_5_0]; decide) (by decide) ?_
      refine lv_aload_n hx hb (dq_42 48 bcX5_refusal_1 (j := 4) rfl rfl) rfl (lv_at hl 0 rfl) ?_
      refine lv_iload_n hx hb (dq_28 48 bcX5_refusal_1 (j := 5) rfl rfl) rfl (lv_at hl 2 rfl) ?_
      refine lv_iload_n hx hb (dq_29 48 bcX5_refusal_1 (j := 6) rfl rfl) rfl (lv_at hl 3 rfl) ?_
      refine lv_iload hx hb (dq_21 48 bcX5_refusal_1 (j := 7) (i := 4) rfl rfl) (lv_at hl 4 rfl) ?_
      replace hF := bd1_s hF
      obtain ⟨r_6, hc_7, hF⟩ := hF
      have hPc : va_P E.1 vwCl (w_X5_moveRefusal E a_ a_row a_partners a_share a_leftOver c_askedCount c_outcome c_row) s.heap := hP.sub (ws' := [k_X5 a_ a_row a_partners c_askedCount c_outcome a_share a_leftOver, k_I E a_row 81 c_row]) [0, 1] rfl
      have hrc := va_recv hK hPc (ci := 6) (q0 := 0) rfl rfl
      refine pE_i (va_runV (As := [.int p2, .int p3, .int p4]) (rest := [])  ⟨hx, hb, hml, hown, hts⟩ (f_X5_moveRefusal l E (a_ := a_) (a_row := a_row) (a_partners := a_partners) (a_share := a_share) (a_leftOver := a_leftOver) (p1 := p2) (p2 := p3) (p3 := p4) (c_askedCount := c_askedCount) (c_outcome := c_outcome) (c_row := c_row) hc_7) (cwV 3 hts g_f_X5_refusal_f_X5_moveRefusal_108 rfl rfl rfl hd_X5_moveRefusal ⟨Nat.le_of_ble_eq_true rfl, Nat.le_of_ble_eq_true rfl⟩) ⟨pP.blind, hrc, (pP.pre ⟨hK, hN⟩ hPc)⟩ rfl rfl hl.1 rfl (lv_room (Nat.le_of_ble_eq_true rfl)) (dq_182 48 bcX5_refusal_1 (j := 9) (i := 108) rfl rfl rfl) ⟨Nat.le_of_ble_eq_true rfl, Nat.le_of_ble_eq_true rfl⟩) ?_
      rw [hQ]
      obtain e9_0 := inj1 hF
      exact W.iret (v := r_6) hx hb hr (fun tt ht hW => ⟨_, rfl, e9_0, ht⟩) (fun _ h => by cases h) (dq_172 48 bcX5_refusal_1 (j := 12) rfl rfl)
    replace hF := inn c_5_0 hF
    rcases Classical.em (p1 = (1 : Int32)) with c_5_1 | c_5_1
    ·
      replace hF := ip c_5_1 hF
      refine lv_tableIn (off := 110) (tgt := 120) hx hb dX5_refusal_10 (by rw [c_5_1]; decide) (by rw [c_5_1]; decide) (by rw [c_5_1]; decide) (by decide) ?_
      refine lv_iconst (v := -1) hx hb (dq_2 96 bcX5_refusal_2 (j := 24) rfl rfl) (by decide) ?_
      rw [hQ]
      obtain e9_0 := inj1 hF
      exact W.iret (v := (-1 : Int32)) hx hb hr (fun tt ht hW => ⟨_, rfl, e9_0, ht⟩) (fun _ h => by cases h) (dq_172 96 bcX5_refusal_2 (j := 25) rfl rfl)
    replace hF := inn c_5_1 hF
    rcases Classical.em (p1 = (2 : Int32)) with c_5_2 | c_5_2
    ·
      replace hF := ip c_5_2 hF
      refine lv_tableIn (off := 51) (tgt := 61) hx hb dX5_refusal_10 (by rw [c_5_2]; decide) (by rw [c_5_2]; decide) (by rw [c_5_2]; decide) (by decide) ?_
      refine lv_iload_n hx hb (dq_28 48 bcX5_refusal_1 (j := 13) rfl rfl) rfl (lv_at hl 2 rfl) ?_
      refine lv_ldc (v := -9999999) hx hb hown (hts (.constant RX5 112 (-9999999)) (List.mem_of_getElem? (i := 1) rfl)) (dq_18 48 bcX5_refusal_1 (j := 14) (i := 112) rfl rfl) ?_
      refine lv_ldc (v := 9999999) hx hb hown (hts (.constant RX5 113 (9999999)) (List.mem_of_getElem? (i := 2) rfl)) (dq_18 48 bcX5_refusal_1 (j := 16) (i := 113) rfl rfl) ?_
      refine lv_aload_n hx hb (dq_42 48 bcX5_refusal_1 (j := 18) rfl rfl) rfl (lv_at hl 0 rfl) ?_
      refine gt_X5_0 (v := .ref a_row) hx hb hts i_f_X5_refusal_X5 hown hK hP 0 rfl (hts (.fieldLink RX5 11 "HushWatch$State" "row" "[I") (List.mem_of_getElem? (i := 3) rfl)) rfl (dq_180 48 bcX5_refusal_1 (j := 19) (i := 11) rfl rfl rfl) ?_
      refine lv_iconst (v := 1) hx hb (dq_4 48 bcX5_refusal_1 (j := 22) rfl rfl) (by decide) ?_
      refine va_iald hx hb hK hP 1 0 rfl rfl (vin rfl) (dq_46 48 bcX5_refusal_1 (j := 23) rfl rfl) ?_
      refine W.eq (g2 := F0 m 72 ls [.int (c_row 1), .int (9999999 : Int32), .int (-9999999 : Int32), .int p2]) rfl ?_
      replace hF := bd1_s hF
      obtain ⟨r_8, hc_9, hF⟩ := hF
      have hPc : va_P E.1 vwCl [] s.heap := fun k q h => by simp at h
      refine pE_i (va_runS (As := [.int p2, .int (-9999999 : Int32), .int (9999999 : Int32), .int (c_row 1)]) (rest := [])  ⟨hx, hb, hml, hown, hts⟩ (f_X5_setRefusal l E (p0 := p2) (p1 := (-9999999 : Int32)) (p2 := (9999999 : Int32)) (p3 := c_row 1) hc_9) (va_cwS 4 hts g_f_X5_refusal_f_X5_setRefusal_114 rfl rfl rfl hd_X5_setRefusal.2 ⟨Nat.le_of_ble_eq_true rfl, Nat.le_of_ble_eq_true rfl⟩) ⟨pP.blind, (pP.pre ⟨hK, hN⟩ hPc)⟩ rfl rfl hl.1 rfl (lv_room (Nat.le_of_ble_eq_true rfl)) (dq_184 48 bcX5_refusal_1 (j := 24) (i := 114) rfl rfl rfl) ⟨Nat.le_of_ble_eq_true rfl, Nat.le_of_ble_eq_true rfl⟩) ?_
      rw [hQ]
      obtain e9_0 := inj1 hF
      exact W.iret (v := r_8) hx hb hr (fun tt ht hW => ⟨_, rfl, e9_0, ht⟩) (fun _ h => by cases h) (dq_172 48 bcX5_refusal_1 (j := 27) rfl rfl)
    replace hF := inn c_5_2 hF
    rcases Classical.em (p1 = (3 : Int32)) with c_5_3 | c_5_3
    ·
      replace hF := ip c_5_3 hF
      refine lv_tableIn (off := 66) (tgt := 76) hx hb dX5_refusal_10 (by rw [c_5_3]; decide) (by rw [c_5_3]; decide) (by rw [c_5_3]; decide) (by decide) ?_
      refine lv_iload_n hx hb (dq_28 48 bcX5_refusal_1 (j := 28) rfl rfl) rfl (lv_at hl 2 rfl) ?_
      refine lv_iconst (v := 0) hx hb (dq_3 48 bcX5_refusal_1 (j := 29) rfl rfl) (by decide) ?_
      refine lv_iconst (v := 3) hx hb (dq_6 48 bcX5_refusal_1 (j := 30) rfl rfl) (by decide) ?_
      refine lv_aload_n hx hb (dq_42 48 bcX5_refusal_1 (j := 31) rfl rfl) rfl (lv_at hl 0 rfl) ?_
      refine gt_X5_0 (v := .ref a_row) hx hb hts i_f_X5_refusal_X5 hown hK hP 0 rfl (hts (.fieldLink RX5 11 "HushWatch$State" "row" "[I") (List.mem_of_getElem? (i := 3) rfl)) rfl (dq_180 48 bcX5_refusal_1 (j := 32) (i := 11) rfl rfl rfl) ?_
      refine lv_iconst (v := 0) hx hb (dq_3 48 bcX5_refusal_1 (j := 35) rfl rfl) (by decide) ?_
      refine va_iald hx hb hK hP 1 0 rfl rfl (vin rfl) (dq_46 48 bcX5_refusal_1 (j := 36) rfl rfl) ?_
      refine W.eq (g2 := F0 m 85 ls [.int (c_row 0), .int (3 : Int32), .int (0 : Int32), .int p2]) rfl ?_
      replace hF := bd1_s hF
      obtain ⟨r_10, hc_11, hF⟩ := hF
      have hPc : va_P E.1 vwCl [] s.heap := fun k q h => by simp at h
      refine pE_i (va_runS (As := [.int p2, .int (0 : Int32), .int (3 : Int32), .int (c_row 0)]) (rest := [])  ⟨hx, hb, hml, hown, hts⟩ (f_X5_setRefusal l E (p0 := p2) (p1 := (0 : Int32)) (p2 := (3 : Int32)) (p3 := c_row 0) hc_11) (va_cwS 4 hts g_f_X5_refusal_f_X5_setRefusal_114 rfl rfl rfl hd_X5_setRefusal.2 ⟨Nat.le_of_ble_eq_true rfl, Nat.le_of_ble_eq_true rfl⟩) ⟨pP.blind, (pP.pre ⟨hK, hN⟩ hPc)⟩ rfl rfl hl.1 rfl (lv_room (Nat.le_of_ble_eq_true rfl)) (dq_184 48 bcX5_refusal_1 (j := 37) (i := 114) rfl rfl rfl) ⟨Nat.le_of_ble_eq_true rfl, Nat.le_of_ble_eq_true rfl⟩) ?_
      rw [hQ]
      obtain e9_0 := inj1 hF
      exact W.iret (v := r_10) hx hb hr (fun tt ht hW => ⟨_, rfl, e9_0, ht⟩) (fun _ h => by cases h) (dq_172 48 bcX5_refusal_1 (j := 40) rfl rfl)
    replace hF := inn c_5_3 hF
    rcases Classical.em (p1 = (4 : Int32)) with c_5_4 | c_5_4
    ·
      replace hF := ip c_5_4 hF
      refine lv_tableIn (off := 79) (tgt := 89) hx hb dX5_refusal_10 (by rw [c_5_4]; decide) (by rw [c_5_4]; decide) (by rw [c_5_4]; decide) (by decide) ?_
      refine lv_aload_n hx hb (dq_42 48 bcX5_refusal_1 (j := 41) rfl rfl) rfl (lv_at hl 0 rfl) ?_
      refine lv_iload_n hx hb (dq_28 48 bcX5_refusal_1 (j := 42) rfl rfl) rfl (lv_at hl 2 rfl) ?_
      refine lv_iload_n hx hb (dq_29 48 bcX5_refusal_1 (j := 43) rfl rfl) rfl (lv_at hl 3 rfl) ?_
      replace hF := bd1_s hF
      obtain ⟨r_12, hc_13, hF⟩ := hF
      have hPc : va_P E.1 vwCl (w_X5_addRefusal E a_ a_row a_partners a_share a_leftOver c_askedCount c_outcome c_row) s.heap := hP.sub (ws' := [k_X5 a_ a_row a_partners c_askedCount c_outcome a_share a_leftOver, k_I E a_row 81 c_row]) [0, 1] rfl
      have hrc := va_recv hK hPc (ci := 6) (q0 := 0) rfl rfl
      refine pE_i (va_runV (As := [.int p2, .int p3]) (rest := [])  ⟨hx, hb, hml, hown, hts⟩ (f_X5_addRefusal l E (a_ := a_) (a_row := a_row) (a_partners := a_partners) (a_share := a_share) (a_leftOver := a_leftOver) (p1 := p2) (p2 := p3) (c_askedCount := c_askedCount) (c_outcome := c_outcome) (c_row := c_row) hc_13) (cwV 2 hts g_f_X5_refusal_f_X5_addRefusal_118 rfl rfl rfl hd_X5_addRefusal ⟨Nat.le_of_ble_eq_true rfl, Nat.le_of_ble_eq_true rfl⟩) ⟨pP.blind, hrc, (pP.pre ⟨hK, hN⟩ hPc)⟩ rfl rfl hl.1 rfl (lv_room (Nat.le_of_ble_eq_true rfl)) (dq_182 48 bcX5_refusal_1 (j := 44) (i := 118) rfl rfl rfl) ⟨Nat.le_of_ble_eq_true rfl, Nat.le_of_ble_eq_true rfl⟩) ?_
      rw [hQ]
      obtain e9_0 := inj1 hF
      exact W.iret (v := r_12) hx hb hr (fun tt ht hW => ⟨_, rfl, e9_0, ht⟩) (fun _ h => by cases h) (dq_172 48 bcX5_refusal_1 (j := 47) rfl rfl)
    replace hF := inn c_5_4 hF
    rcases Classical.em (p1 = (5 : Int32)) with c_5_5 | c_5_5
    ·
      replace hF := ip c_5_5 hF
      refine lv_tableIn (off := 86) (tgt := 96) hx hb dX5_refusal_10 (by rw [c_5_5]; decide) (by rw [c_5_5]; decide) (by rw [c_5_5]; decide) (by decide) ?_
      refine lv_iload_n hx hb (dq_28 96 bcX5_refusal_2 (j := 0) rfl rfl) rfl (lv_at hl 2 rfl) ?_
      refine lv_iconst (v := 1) hx hb (dq_4 96 bcX5_refusal_2 (j := 1) rfl rfl) (by decide) ?_
      refine lv_icmp_lt (tgt := 108) hx hb (dq_161 96 bcX5_refusal_2 (j := 2) (i := 10) rfl rfl rfl) (by decide) (fun c_14 => ?_) (fun c_14 => ?_)
      ·
        replace hF := ip c_14 hF
        refine lv_iconst (v := 1) hx hb (dq_4 96 bcX5_refusal_2 (j := 12) rfl rfl) (by decide) ?_
        refine lv_goto (tgt := 113) hx hb (dq_167 96 bcX5_refusal_2 (j := 13) (i := 4) rfl rfl rfl) (by decide) ?_
        rw [hQ]
        obtain e9_0 := inj1 hF
        exact W.iret (v := (1 : Int32)) hx hb hr (fun tt ht hW => ⟨_, rfl, e9_0, ht⟩) (fun _ h => by cases h) (dq_172 96 bcX5_refusal_2 (j := 17) rfl rfl)
      ·
        replace hF := inn c_14 hF
        refine lv_iload_n hx hb (dq_28 96 bcX5_refusal_2 (j := 5) rfl rfl) rfl (lv_at hl 2 rfl) ?_
        refine lv_sipush (v := 9999) hx hb (dq_17 96 bcX5_refusal_2 (j := 6) (i := 9999) rfl rfl rfl) (by decide) ?_
        refine lv_icmp_le (tgt := 112) hx hb (dq_164 96 bcX5_refusal_2 (j := 9) (i := 7) rfl rfl rfl) (by decide) (fun c_15 => ?_) (fun c_15 => ?_)
        ·
          replace hF := ip c_15 hF
          refine lv_iconst (v := -1) hx hb (dq_2 96 bcX5_refusal_2 (j := 16) rfl rfl) (by decide) ?_
          rw [hQ]
          obtain e9_0 := inj1 hF
          exact W.iret (v := (-1 : Int32)) hx hb hr (fun tt ht hW => ⟨_, rfl, e9_0, ht⟩) (fun _ h => by cases h) (dq_172 96 bcX5_refusal_2 (j := 17) rfl rfl)
        ·
          replace hF := inn c_15 hF
          refine lv_iconst (v := 1) hx hb (dq_4 96 bcX5_refusal_2 (j := 12) rfl rfl) (by decide) ?_
          refine lv_goto (tgt := 113) hx hb (dq_167 96 bcX5_refusal_2 (j := 13) (i := 4) rfl rfl rfl) (by decide) ?_
          rw [hQ]
          obtain e9_0 := inj1 hF
          exact W.iret (v := (1 : Int32)) hx hb hr (fun tt ht hW => ⟨_, rfl, e9_0, ht⟩) (fun _ h => by cases h) (dq_172 96 bcX5_refusal_2 (j := 17) rfl rfl)
    replace hF := inn c_5_5 hF
    rcases Classical.em (p1 = (6 : Int32)) with c_5_6 | c_5_6
    ·
      replace hF := ip c_5_6 hF
      refine lv_tableIn (off := 104) (tgt := 114) hx hb dX5_refusal_10 (by rw [c_5_6]; decide) (by rw [c_5_6]; decide) (by rw [c_5_6]; decide) (by decide) ?_
      refine lv_aload_n hx hb (dq_42 96 bcX5_refusal_2 (j := 18) rfl rfl) rfl (lv_at hl 0 rfl) ?_
      refine lv_iload_n hx hb (dq_28 96 bcX5_refusal_2 (j := 19) rfl rfl) rfl (lv_at hl 2 rfl) ?_
      replace hF := bd1_s hF
      obtain ⟨r_16, hc_17, hF⟩ := hF
      have hPc : va_P E.1 vwCl (w_X5_freezeRefusal E a_ a_row a_partners a_share a_leftOver c_askedCount c_outcome c_row) s.heap := hP.sub (ws' := [k_X5 a_ a_row a_partners c_askedCount c_outcome a_share a_leftOver, k_I E a_row 81 c_row]) [0, 1] rfl
      have hrc := va_recv hK hPc (ci := 6) (q0 := 0) rfl rfl
      refine pE_i (va_runV (As := [.int p2]) (rest := [])  ⟨hx, hb, hml, hown, hts⟩ (f_X5_freezeRefusal l E (a_ := a_) (a_row := a_row) (a_partners := a_partners) (a_share := a_share) (a_leftOver := a_leftOver) (p1 := p2) (c_askedCount := c_askedCount) (c_outcome := c_outcome) (c_row := c_row) hc_17) (cwV 1 hts g_f_X5_refusal_f_X5_freezeRefusal_121 rfl rfl rfl hd_X5_freezeRefusal ⟨Nat.le_of_ble_eq_true rfl, Nat.le_of_ble_eq_true rfl⟩) ⟨pP.blind, hrc, (pP.pre ⟨hK, hN⟩ hPc)⟩ rfl rfl hl.1 rfl (lv_room (Nat.le_of_ble_eq_true rfl)) (dq_182 96 bcX5_refusal_2 (j := 20) (i := 121) rfl rfl rfl) ⟨Nat.le_of_ble_eq_true rfl, Nat.le_of_ble_eq_true rfl⟩) ?_
      rw [hQ]
      obtain e9_0 := inj1 hF
      exact W.iret (v := r_16) hx hb hr (fun tt ht hW => ⟨_, rfl, e9_0, ht⟩) (fun _ h => by cases h) (dq_172 96 bcX5_refusal_2 (j := 23) rfl rfl)
    replace hF := inn c_5_6 hF
    refine lv_tableOut (tgt := 120) hx hb dX5_refusal_10 (by have t0 : (0 : Int32).toInt = 0 := (by decide); have t1 : (1 : Int32).toInt = 1 := (by decide); have t2 : (2 : Int32).toInt = 2 := (by decide); have t3 : (3 : Int32).toInt = 3 := (by decide); have t4 : (4 : Int32).toInt = 4 := (by decide); have t5 : (5 : Int32).toInt = 5 := (by decide); have t6 : (6 : Int32).toInt = 6 := (by decide); simp only [← Int32.toInt_inj, t0, t1, t2, t3, t4, t5, t6] at c_5_0 c_5_1 c_5_2 c_5_3 c_5_4 c_5_5 c_5_6; omega) (by decide) ?_
    refine lv_iconst (v := -1) hx hb (dq_2 96 bcX5_refusal_2 (j := 24) rfl rfl) (by decide) ?_
    rw [hQ]
    obtain e9_0 := inj1 hF
    exact W.iret (v := (-1 : Int32)) hx hb hr (fun tt ht hW => ⟨_, rfl, e9_0, ht⟩) (fun _ h => by cases h) (dq_172 96 bcX5_refusal_2 (j := 25) rfl rfl)
  ·
    replace hF := ip c_4 hF
    refine lv_iconst (v := 0) hx hb (dq_3 0 bcX5_refusal_0 (j := 7) rfl rfl) (by decide) ?_
    rw [hQ]
    obtain e9_0 := inj1 hF
    exact W.iret (v := (0 : Int32)) hx hb hr (fun tt ht hW => ⟨_, rfl, e9_0, ht⟩) (fun _ h => by cases h) (dq_172 0 bcX5_refusal_0 (j := 8) rfl rfl)

def F_X5_slackLength (p1 : Int32) (c_row : Nat → Int32) : Option (Int32) :=
  bd1 (F_X5_of p1 (4 : Int32) c_row) (fun r_1 => bd1 (F_X5_of p1 (5 : Int32) c_row) (fun r_3 => some ((absF r_1) + (absF r_3))))
abbrev w_X5_slackLength (E : EE) (a_ a_row a_partners a_share a_leftOver : Nat) (c_askedCount : Int32) (c_outcome : Int32) (c_row : Nat → Int32) : va_W := [k_X5 a_ a_row a_partners c_askedCount c_outcome a_share a_leftOver, k_I E a_row 81 c_row]
def v_f_X5_slackLength : List Cond := List.cons (.code yX5_slackLength cX5_slackLength 2 (some .int)) (HAppend.hAppend (α := List Cond) (β := List Cond) (γ := List Cond) [.methodLink RX5 94 Lib.Math.abs.name, .static Lib.Math.abs.name, .initialized "java/lang/Math", .code Lib.Math.abs.name Lib.Math.abs.code 1 (some .int), .methodLink RX5 69 yX5_of, .instanceMethod yX5_of, .selects RX5 yX5_of yX5_of, .initialized RX5] (HAppend.hAppend (α := List Cond) (β := List Cond) (γ := List Cond) v_f_X5_of []))
theorem gw_f_X5_slackLength : v_f_X5_slackLength.all goodWord = true := gw_c2 (by decide +kernel) (gw_ap gw_f_X5_of gw_nil)
theorem g_f_X5_slackLength_f_X5_of_69 : GoodIn v_f_X5_slackLength (wsV RX5 69 RX5 yX5_of v_f_X5_of) := goodIn_in gw_f_X5_slackLength (in4 5 6 7 8 rfl rfl rfl rfl (fun _ h => List.mem_cons_of_mem _ (List.mem_append_right _ (List.mem_append_left _ h))))
theorem hd_X5_slackLength : yX5_slackLength.cls = RX5 ∧ yX5_slackLength.cls ≠ "java/lang/invoke/MethodHandle" ∧ yX5_slackLength.cls ≠ "java/lang/invoke/VarHandle" ∧ (parseMethodDescriptor yX5_slackLength.desc).map (fun d => d.parameters.length) = some 1 := by decide +kernel
set_option maxHeartbeats 4000000 in
set_option maxRecDepth 100000 in
theorem f_X5_slackLength (l : Launch) (E : EE) {a_ a_row a_partners a_share a_leftOver : Nat} {p1 : Int32} {c_askedCount : Int32} {c_outcome : Int32} {c_row : Nat → Int32} {rr : Int32} (hF : F_X5_slackLength p1 c_row = some rr) : Met l yX5_slackLength v_f_X5_slackLength (({ frames := 1, cells := 0, slots := 0, locals := 22 } : Room)) (va_Pc [.ref a_, .int p1] (pP E (w_X5_slackLength E a_ a_row a_partners a_share a_leftOver c_askedCount c_outcome c_row))) (vp_Si (fun q : Int32 => q = rr)) 0 0 (fun _ => False) := by
  refine Met.ofW (cc := cX5_slackLength) (maxL := 2) (ret := (some .int)) (by decide) rfl ?_
  intro p e s m args below meth c s₁ B hml hv
  obtain ⟨rfl, ⟨hK, hN⟩, hP⟩ := hv
  have hx := B.exec
  have hb := B.bytes
  have hr := B.returns
  have hts := atoms_spec (ws := v_f_X5_slackLength) B.pre
  have hown : s.vm.findClass RX5 = some m.cls := own_of hd_X5_slackLength.1 (findClass_of_methodNamed B.named)
  have hlocks : meth.locks = false := B.notSynchronized
  replace hP : va_P E.1 vwCl [k_X5 a_ a_row a_partners c_askedCount c_outcome a_share a_leftOver, k_I E a_row 81 c_row] s.heap := hP
  have hl := lv_entry ([.ref a_, .int p1]) (n := 2) (Nat.le_of_ble_eq_true rfl)
  rw [lg_entry_eq]
  generalize (lg_sl ([.ref a_, .int p1]) ++ List.replicate (2 - (lg_sl ([.ref a_, .int p1])).length) Slot.unset).toArray = ls at hl ⊢
  have hl : lv_has ls 2 [(0, .ref a_), (1, .int p1)] := hl
  obtain ⟨Q, hQ⟩ : ∃ Q : State → Prop, Q = MQ below (vp_Si (fun q : Int32 => q = rr)) #[Value.ref a_, Value.int p1] s 0 0 (fun _ => False) := ⟨_, rfl⟩
  rw [← hQ]
  change W p l e ({ frames := 1, cells := 0, slots := 0, locals := 22 } : Room) s m #[Value.ref a_, Value.int p1] below meth c s.heap [] 0 0 Q (F0 m 0 ls [])
  unfold F_X5_slackLength at hF
  refine lv_aload_n hx hb (dq_42 0 bcX5_slackLength_0 (j := 0) rfl rfl) rfl (lv_at hl 0 rfl) ?_
  refine lv_iload_n hx hb (dq_27 0 bcX5_slackLength_0 (j := 1) rfl rfl) rfl (lv_at hl 1 rfl) ?_
  refine lv_iconst (v := 4) hx hb (dq_7 0 bcX5_slackLength_0 (j := 2) rfl rfl) (by decide) ?_
  replace hF := bd1_s hF
  obtain ⟨r_1, hc_2, hF⟩ := hF
  have hPc : va_P E.1 vwCl (w_X5_of E a_ a_row a_partners a_share a_leftOver c_askedCount c_outcome c_row) s.heap := hP.sub (ws' := [k_X5 a_ a_row a_partners c_askedCount c_outcome a_share a_leftOver, k_I E a_row 81 c_row]) [0, 1] rfl
  have hrc := va_recv hK hPc (ci := 6) (q0 := 0) rfl rfl
  refine pE_i (va_runV (As := [.int p1, .int (4 : Int32)]) (rest := [])  ⟨hx, hb, hml, hown, hts⟩ (f_X5_of l E (a_ := a_) (a_row := a_row) (a_partners := a_partners) (a_share := a_share) (a_leftOver := a_leftOver) (p1 := p1) (p2 := (4 : Int32)) (c_askedCount := c_askedCount) (c_outcome := c_outcome) (c_row := c_row) hc_2) (cwV 2 hts g_f_X5_slackLength_f_X5_of_69 rfl rfl rfl hd_X5_of ⟨Nat.le_of_ble_eq_true rfl, Nat.le_of_ble_eq_true rfl⟩) ⟨pP.blind, hrc, (pP.pre ⟨hK, hN⟩ hPc)⟩ rfl rfl hl.1 rfl (lv_room (Nat.le_of_ble_eq_true rfl)) (dq_182 0 bcX5_slackLength_0 (j := 3) (i := 69) rfl rfl rfl) ⟨Nat.le_of_ble_eq_true rfl, Nat.le_of_ble_eq_true rfl⟩) ?_
  refine va_mabs hx hb (hml.trans hl.1.symm) hown (hts (.methodLink RX5 94 Lib.Math.abs.name) (List.mem_of_getElem? (i := 1) rfl)) (hts (.static Lib.Math.abs.name) (List.mem_of_getElem? (i := 2) rfl)) (hts (.initialized "java/lang/Math") (List.mem_of_getElem? (i := 3) rfl)) (hts (.code Lib.Math.abs.name Lib.Math.abs.code 1 (some .int)) (List.mem_of_getElem? (i := 4) rfl)) (Nat.le_of_ble_eq_true rfl) (Nat.le_of_ble_eq_true rfl) (Nat.le_of_ble_eq_true rfl) (Nat.le_of_ble_eq_true rfl) (dq_184 0 bcX5_slackLength_0 (j := 6) (i := 94) rfl rfl rfl) ?_
  refine W.eq (g2 := F0 m 9 ls [.int (absF r_1)]) rfl ?_
  refine lv_aload_n hx hb (dq_42 0 bcX5_slackLength_0 (j := 9) rfl rfl) rfl (lv_at hl 0 rfl) ?_
  refine lv_iload_n hx hb (dq_27 0 bcX5_slackLength_0 (j := 10) rfl rfl) rfl (lv_at hl 1 rfl) ?_
  refine lv_iconst (v := 5) hx hb (dq_8 0 bcX5_slackLength_0 (j := 11) rfl rfl) (by decide) ?_
  replace hF := bd1_s hF
  obtain ⟨r_3, hc_4, hF⟩ := hF
  have hPc : va_P E.1 vwCl (w_X5_of E a_ a_row a_partners a_share a_leftOver c_askedCount c_outcome c_row) s.heap := hP.sub (ws' := [k_X5 a_ a_row a_partners c_askedCount c_outcome a_share a_leftOver, k_I E a_row 81 c_row]) [0, 1] rfl
  have hrc := va_recv hK hPc (ci := 6) (q0 := 0) rfl rfl
  refine pE_i (va_runV (As := [.int p1, .int (5 : Int32)]) (rest := [.int (absF r_1)])  ⟨hx, hb, hml, hown, hts⟩ (f_X5_of l E (a_ := a_) (a_row := a_row) (a_partners := a_partners) (a_share := a_share) (a_leftOver := a_leftOver) (p1 := p1) (p2 := (5 : Int32)) (c_askedCount := c_askedCount) (c_outcome := c_outcome) (c_row := c_row) hc_4) (cwV 2 hts g_f_X5_slackLength_f_X5_of_69 rfl rfl rfl hd_X5_of ⟨Nat.le_of_ble_eq_true rfl, Nat.le_of_ble_eq_true rfl⟩) ⟨pP.blind, hrc, (pP.pre ⟨hK, hN⟩ hPc)⟩ rfl rfl hl.1 rfl (lv_room (Nat.le_of_ble_eq_true rfl)) (dq_182 0 bcX5_slackLength_0 (j := 12) (i := 69) rfl rfl rfl) ⟨Nat.le_of_ble_eq_true rfl, Nat.le_of_ble_eq_true rfl⟩) ?_
  refine va_mabs hx hb (hml.trans hl.1.symm) hown (hts (.methodLink RX5 94 Lib.Math.abs.name) (List.mem_of_getElem? (i := 1) rfl)) (hts (.static Lib.Math.abs.name) (List.mem_of_getElem? (i := 2) rfl)) (hts (.initialized "java/lang/Math") (List.mem_of_getElem? (i := 3) rfl)) (hts (.code Lib.Math.abs.name Lib.Math.abs.code 1 (some .int)) (List.mem_of_getElem? (i := 4) rfl)) (Nat.le_of_ble_eq_true rfl) (Nat.le_of_ble_eq_true rfl) (Nat.le_of_ble_eq_true rfl) (Nat.le_of_ble_eq_true rfl) (dq_184 0 bcX5_slackLength_0 (j := 15) (i := 94) rfl rfl rfl) ?_
  refine W.eq (g2 := F0 m 18 ls [.int (absF r_3), .int (absF r_1)]) rfl ?_
  refine lv_iadd hx hb (dq_96 0 bcX5_slackLength_0 (j := 18) rfl rfl) ?_
  rw [hQ]
  obtain e9_0 := inj1 hF
  exact W.iret (v := (absF r_1) + (absF r_3)) hx hb hr (fun tt ht hW => ⟨_, rfl, e9_0, ht⟩) (fun _ h => by cases h) (dq_172 0 bcX5_slackLength_0 (j := 19) rfl rfl)

def B_X5_slackSites_4 (c_row : Nat → Int32) (x1 : Int32) (x2 : Int32) : Option ((Int32 × Int32) ⊕ (Int32)) :=
  bd1 (F_X5_sites c_row) (fun r_1 => if r_1 ≤ x2 then some (.inr x1) else bd1 (F_X5_slackLength x2 c_row) (fun r_4 => if r_4 = (0 : Int32) then some (.inl (x1 ||| (0 : Int32), x2 + (1 : Int32))) else some (.inl (x1 ||| ((1 : Int32) <<< (x2 &&& (31 : Int32))), x2 + (1 : Int32)))))
def F_X5_slackSites (K : Nat) (c_row : Nat → Int32) : Option (Int32) :=
  bd1 (lpF (fun u9 : Int32 × Int32 => B_X5_slackSites_4 c_row u9.1 u9.2) K ((0 : Int32), (0 : Int32))) (fun x1_7 => some x1_7)
abbrev w_X5_slackSites (E : EE) (a_ a_row a_partners a_share a_leftOver : Nat) (c_askedCount : Int32) (c_outcome : Int32) (c_row : Nat → Int32) : va_W := [k_X5 a_ a_row a_partners c_askedCount c_outcome a_share a_leftOver, k_I E a_row 81 c_row]
def v_f_X5_slackSites : List Cond := List.cons (.code yX5_slackSites cX5_slackSites 3 (some .int)) (HAppend.hAppend (α := List Cond) (β := List Cond) (γ := List Cond) [.methodLink RX5 45 yX5_sites, .instanceMethod yX5_sites, .selects RX5 yX5_sites yX5_sites, .initialized RX5, .methodLink RX5 102 yX5_slackLength, .instanceMethod yX5_slackLength, .selects RX5 yX5_slackLength yX5_slackLength] (HAppend.hAppend (α := List Cond) (β := List Cond) (γ := List Cond) v_f_X5_sites (HAppend.hAppend (α := List Cond) (β := List Cond) (γ := List Cond) v_f_X5_slackLength [])))
theorem gw_f_X5_slackSites : v_f_X5_slackSites.all goodWord = true := gw_c2 (by decide +kernel) (gw_ap gw_f_X5_sites (gw_ap gw_f_X5_slackLength gw_nil))
theorem g_f_X5_slackSites_f_X5_sites_45 : GoodIn v_f_X5_slackSites (wsV RX5 45 RX5 yX5_sites v_f_X5_sites) := goodIn_in gw_f_X5_slackSites (in4 1 2 3 4 rfl rfl rfl rfl (fun _ h => List.mem_cons_of_mem _ (List.mem_append_right _ (List.mem_append_left _ h))))
theorem g_f_X5_slackSites_f_X5_slackLength_102 : GoodIn v_f_X5_slackSites (wsV RX5 102 RX5 yX5_slackLength v_f_X5_slackLength) := goodIn_in gw_f_X5_slackSites (in4 5 6 7 4 rfl rfl rfl rfl (fun _ h => List.mem_cons_of_mem _ (List.mem_append_right _ (List.mem_append_right _ (List.mem_append_left _ h)))))
theorem hd_X5_slackSites : yX5_slackSites.cls = RX5 ∧ yX5_slackSites.cls ≠ "java/lang/invoke/MethodHandle" ∧ yX5_slackSites.cls ≠ "java/lang/invoke/VarHandle" ∧ (parseMethodDescriptor yX5_slackSites.desc).map (fun d => d.parameters.length) = some 0 := by decide +kernel
set_option maxHeartbeats 4000000 in
set_option maxRecDepth 100000 in
theorem wb_X5_slackSites_4 {p : Program} (l : Launch) {e : Env} {s : State} {m : MethodId} {below : List Frame} {meth : Method} {c : Code} {Q : State → Prop} (E : EE) (K : Nat) {a_ a_row a_partners a_share a_leftOver : Nat} {c_askedCount : Int32} {c_outcome : Int32} {c_row : Nat → Int32} {x1 : Int32} {x2 : Int32} (hx : p.tables.exec = Jvm.exec) (hb : c.code = cX5_slackSites) (hml : c.maxLocals = 3) (hown : s.vm.findClass RX5 = some m.cls) (hts : ∀ w ∈ v_f_X5_slackSites, w.before #[Value.ref a_] s = true) (hK : va_K E.1 vwCl (TY E) s) (hN : NX s) {xx : (Int32 × Int32) ⊕ (Int32)} (hC : ∀ (x1 : Int32), ∀ (x2 : Int32), xx = .inl (x1, x2) → ∀ (ls : Array Slot), lv_has ls 3 [(0, .ref a_), (1, .int x1), (2, .int x2)] → W p l e ({ frames := 2, cells := 0, slots := 0, locals := 43 } : Room) s m #[Value.ref a_] below meth c s.heap [] 0 0 Q (F0 m 4 ls [])) (hE : ∀ (x1 : Int32), xx = .inr x1 → ((∀ (ls : Array Slot), lv_has ls 3 [(1, .int x1)] → W p l e ({ frames := 2, cells := 0, slots := 0, locals := 43 } : Room) s m #[Value.ref a_] below meth c s.heap [] 0 0 Q (F0 m 36 ls [])))) (hF : B_X5_slackSites_4 c_row x1 x2 = some xx) (hP : va_P E.1 vwCl (w_X5_slackSites E a_ a_row a_partners a_share a_leftOver c_askedCount c_outcome c_row) s.heap) : ∀ (ls : Array Slot), lv_has ls 3 [(0, .ref a_), (1, .int x1), (2, .int x2)] → W p l e ({ frames := 2, cells := 0, slots := 0, locals := 43 } : Room) s m #[Value.ref a_] below meth c s.heap [] 0 0 Q (F0 m 4 ls []) := by
  unfold B_X5_slackSites_4 at hF
  replace hP : va_P E.1 vwCl [k_X5 a_ a_row a_partners c_askedCount c_outcome a_share a_leftOver, k_I E a_row 81 c_row] s.heap := hP
  intro ls hl
  refine lv_iload_n hx hb (dq_28 0 bcX5_slackSites_0 (j := 4) rfl rfl) rfl (lv_at hl 2 rfl) ?_
  refine lv_aload_n hx hb (dq_42 0 bcX5_slackSites_0 (j := 5) rfl rfl) rfl (lv_at hl 0 rfl) ?_
  replace hF := bd1_s hF
  obtain ⟨r_1, hc_2, hF⟩ := hF
  have hPc : va_P E.1 vwCl (w_X5_sites E a_ a_row a_partners a_share a_leftOver c_askedCount c_outcome c_row) s.heap := hP.sub (ws' := [k_X5 a_ a_row a_partners c_askedCount c_outcome a_share a_leftOver, k_I E a_row 81 c_row]) [0, 1] rfl
  have hrc := va_recv hK hPc (ci := 6) (q0 := 0) rfl rfl
  refine pE_i (va_runV (As := []) (rest := [.int x2])  ⟨hx, hb, hml, hown, hts⟩ (f_X5_sites l E (a_ := a_) (a_row := a_row) (a_partners := a_partners) (a_share := a_share) (a_leftOver := a_leftOver) (c_askedCount := c_askedCount) (c_outcome := c_outcome) (c_row := c_row) hc_2) (cwV 0 hts g_f_X5_slackSites_f_X5_sites_45 rfl rfl rfl hd_X5_sites ⟨Nat.le_of_ble_eq_true rfl, Nat.le_of_ble_eq_true rfl⟩) ⟨pP.blind, hrc, (pP.pre ⟨hK, hN⟩ hPc)⟩ rfl rfl hl.1 rfl (lv_room (Nat.le_of_ble_eq_true rfl)) (dq_182 0 bcX5_slackSites_0 (j := 6) (i := 45) rfl rfl rfl) ⟨Nat.le_of_ble_eq_true rfl, Nat.le_of_ble_eq_true rfl⟩) ?_
  refine lv_icmp_ge (tgt := 36) hx hb (dq_162 0 bcX5_slackSites_0 (j := 9) (i := 27) rfl rfl rfl) (by decide) (fun c_3 => ?_) (fun c_3 => ?_)
  ·
    replace hF := ip c_3 hF
    cases hF
    exact hE x1 rfl ls (lv_sub hl [1] rfl)
  ·
    replace hF := inn c_3 hF
    refine lv_iload_n hx hb (dq_27 0 bcX5_slackSites_0 (j := 12) rfl rfl) rfl (lv_at hl 1 rfl) ?_
    refine lv_aload_n hx hb (dq_42 0 bcX5_slackSites_0 (j := 13) rfl rfl) rfl (lv_at hl 0 rfl) ?_
    refine lv_iload_n hx hb (dq_28 0 bcX5_slackSites_0 (j := 14) rfl rfl) rfl (lv_at hl 2 rfl) ?_
    replace hF := bd1_s hF
    obtain ⟨r_4, hc_5, hF⟩ := hF
    have hPc : va_P E.1 vwCl (w_X5_slackLength E a_ a_row a_partners a_share a_leftOver c_askedCount c_outcome c_row) s.heap := hP.sub (ws' := [k_X5 a_ a_row a_partners c_askedCount c_outcome a_share a_leftOver, k_I E a_row 81 c_row]) [0, 1] rfl
    have hrc := va_recv hK hPc (ci := 6) (q0 := 0) rfl rfl
    refine pE_i (va_runV (As := [.int x2]) (rest := [.int x1])  ⟨hx, hb, hml, hown, hts⟩ (f_X5_slackLength l E (a_ := a_) (a_row := a_row) (a_partners := a_partners) (a_share := a_share) (a_leftOver := a_leftOver) (p1 := x2) (c_askedCount := c_askedCount) (c_outcome := c_outcome) (c_row := c_row) hc_5) (cwV 1 hts g_f_X5_slackSites_f_X5_slackLength_102 rfl rfl rfl hd_X5_slackLength ⟨Nat.le_of_ble_eq_true rfl, Nat.le_of_ble_eq_true rfl⟩) ⟨pP.blind, hrc, (pP.pre ⟨hK, hN⟩ hPc)⟩ rfl rfl hl.1 rfl (lv_room (Nat.le_of_ble_eq_true rfl)) (dq_182 0 bcX5_slackSites_0 (j := 15) (i := 102) rfl rfl rfl) ⟨Nat.le_of_ble_eq_true rfl, Nat.le_of_ble_eq_true rfl⟩) ?_
    refine lv_if_eq (tgt := 27) hx hb (dq_153 0 bcX5_slackSites_0 (j := 18) (i := 9) rfl rfl rfl) (by decide) (fun c_6 => ?_) (fun c_6 => ?_)
    ·
      replace hF := ip c_6 hF
      refine lv_iconst (v := 0) hx hb (dq_3 0 bcX5_slackSites_0 (j := 27) rfl rfl) (by decide) ?_
      refine lv_ior hx hb (dq_128 0 bcX5_slackSites_0 (j := 28) rfl rfl) ?_
      refine lv_istore_n (lv' := [(1, .int (x1 ||| (0 : Int32))), (0, .ref a_), (2, .int x2)]) hx hb (dq_60 0 bcX5_slackSites_0 (j := 29) rfl rfl) rfl hl (by decide) rfl (fun ls hl => ?_)
      refine lv_iinc (v := x2 + (1 : Int32)) (lv' := [(2, .int (x2 + (1 : Int32))), (1, .int (x1 ||| (0 : Int32))), (0, .ref a_)]) hx hb (dq_132 0 bcX5_slackSites_0 (j := 30) (i := 1) rfl rfl rfl) hl (k := 2) rfl (rfl) (by decide) rfl (fun ls hl => ?_)
      refine lv_goto (tgt := 4) hx hb (dq_167 0 bcX5_slackSites_0 (j := 33) (i := -29) rfl rfl rfl) (by decide) ?_
      cases hF
      exact hC (x1 ||| (0 : Int32)) (x2 + (1 : Int32)) rfl ls (lv_sub hl [2, 1, 0] rfl)
    ·
      replace hF := inn c_6 hF
      refine lv_iconst (v := 1) hx hb (dq_4 0 bcX5_slackSites_0 (j := 21) rfl rfl) (by decide) ?_
      refine lv_iload_n hx hb (dq_28 0 bcX5_slackSites_0 (j := 22) rfl rfl) rfl (lv_at hl 2 rfl) ?_
      refine lv_ishl hx hb (dq_120 0 bcX5_slackSites_0 (j := 23) rfl rfl) ?_
      refine lv_goto (tgt := 28) hx hb (dq_167 0 bcX5_slackSites_0 (j := 24) (i := 4) rfl rfl rfl) (by decide) ?_
      refine lv_ior hx hb (dq_128 0 bcX5_slackSites_0 (j := 28) rfl rfl) ?_
      refine lv_istore_n (lv' := [(1, .int (x1 ||| ((1 : Int32) <<< (x2 &&& (31 : Int32))))), (0, .ref a_), (2, .int x2)]) hx hb (dq_60 0 bcX5_slackSites_0 (j := 29) rfl rfl) rfl hl (by decide) rfl (fun ls hl => ?_)
      refine lv_iinc (v := x2 + (1 : Int32)) (lv' := [(2, .int (x2 + (1 : Int32))), (1, .int (x1 ||| ((1 : Int32) <<< (x2 &&& (31 : Int32))))), (0, .ref a_)]) hx hb (dq_132 0 bcX5_slackSites_0 (j := 30) (i := 1) rfl rfl rfl) hl (k := 2) rfl (rfl) (by decide) rfl (fun ls hl => ?_)
      refine lv_goto (tgt := 4) hx hb (dq_167 0 bcX5_slackSites_0 (j := 33) (i := -29) rfl rfl rfl) (by decide) ?_
      cases hF
      exact hC (x1 ||| ((1 : Int32) <<< (x2 &&& (31 : Int32)))) (x2 + (1 : Int32)) rfl ls (lv_sub hl [2, 1, 0] rfl)

set_option maxHeartbeats 4000000 in
set_option maxRecDepth 100000 in
theorem lw_X5_slackSites_4 {p : Program} (l : Launch) {e : Env} {s : State} {m : MethodId} {below : List Frame} {meth : Method} {c : Code} {Q : State → Prop} (E : EE) (K : Nat) {a_ a_row a_partners a_share a_leftOver : Nat} {c_askedCount : Int32} {c_outcome : Int32} {c_row : Nat → Int32} (hx : p.tables.exec = Jvm.exec) (hb : c.code = cX5_slackSites) (hml : c.maxLocals = 3) (hown : s.vm.findClass RX5 = some m.cls) (hts : ∀ w ∈ v_f_X5_slackSites, w.before #[Value.ref a_] s = true) (hK : va_K E.1 vwCl (TY E) s) (hN : NX s) (hP : va_P E.1 vwCl (w_X5_slackSites E a_ a_row a_partners a_share a_leftOver c_askedCount c_outcome c_row) s.heap) (j9 : Nat) (x1 : Int32) (x2 : Int32) (x1' : Int32) (hL : lpF (fun u9 : Int32 × Int32 => B_X5_slackSites_4 c_row u9.1 u9.2) j9 (x1, x2) = some x1') (hX : (∀ (ls : Array Slot), lv_has ls 3 [(1, .int x1')] → W p l e ({ frames := 2, cells := 0, slots := 0, locals := 43 } : Room) s m #[Value.ref a_] below meth c s.heap [] 0 0 Q (F0 m 36 ls []))) : ∀ (ls : Array Slot), lv_has ls 3 [(0, .ref a_), (1, .int x1), (2, .int x2)] → W p l e ({ frames := 2, cells := 0, slots := 0, locals := 43 } : Room) s m #[Value.ref a_] below meth c s.heap [] 0 0 Q (F0 m 4 ls []) := by
  exact lp_rule (P := (fun u9 : Int32 × Int32 => ∀ (ls : Array Slot), lv_has ls 3 [(0, .ref a_), (1, .int u9.1), (2, .int u9.2)] → W p l e ({ frames := 2, cells := 0, slots := 0, locals := 43 } : Room) s m #[Value.ref a_] below meth c s.heap [] 0 0 Q (F0 m 4 ls []))) (R := (fun r9 : Int32 => (∀ (ls : Array Slot), lv_has ls 3 [(1, .int r9)] → W p l e ({ frames := 2, cells := 0, slots := 0, locals := 43 } : Room) s m #[Value.ref a_] below meth c s.heap [] 0 0 Q (F0 m 36 ls [])))) (fun u9 xx hF hC hE => wb_X5_slackSites_4 l E K (c_askedCount := c_askedCount) (c_outcome := c_outcome) (c_row := c_row) (x1 := u9.1) (x2 := u9.2) hx hb hml hown hts hK hN (fun x1 x2 q9 => hC _ q9) (fun x1 q9 => hE _ q9) hF hP) j9 (x1, x2) x1' hL hX

set_option maxHeartbeats 4000000 in
set_option maxRecDepth 100000 in
theorem f_X5_slackSites (l : Launch) (E : EE) (K : Nat) {a_ a_row a_partners a_share a_leftOver : Nat} {c_askedCount : Int32} {c_outcome : Int32} {c_row : Nat → Int32} {rr : Int32} (hF : F_X5_slackSites K c_row = some rr) : Met l yX5_slackSites v_f_X5_slackSites (({ frames := 2, cells := 0, slots := 0, locals := 43 } : Room)) (va_Pc [.ref a_] (pP E (w_X5_slackSites E a_ a_row a_partners a_share a_leftOver c_askedCount c_outcome c_row))) (vp_Si (fun q : Int32 => q = rr)) 0 0 (fun _ => False) := by
  refine Met.ofW (cc := cX5_slackSites) (maxL := 3) (ret := (some .int)) (by decide) rfl ?_
  intro p e s m args below meth c s₁ B hml hv
  obtain ⟨rfl, ⟨hK, hN⟩, hP⟩ := hv
  have hx := B.exec
  have hb := B.bytes
  have hr := B.returns
  have hts := atoms_spec (ws := v_f_X5_slackSites) B.pre
  have hown : s.vm.findClass RX5 = some m.cls := own_of hd_X5_slackSites.1 (findClass_of_methodNamed B.named)
  have hlocks : meth.locks = false := B.notSynchronized
  replace hP : va_P E.1 vwCl [k_X5 a_ a_row a_partners c_askedCount c_outcome a_share a_leftOver, k_I E a_row 81 c_row] s.heap := hP
  have hl := lv_entry ([.ref a_]) (n := 3) (Nat.le_of_ble_eq_true rfl)
  rw [lg_entry_eq]
  generalize (lg_sl ([.ref a_]) ++ List.replicate (3 - (lg_sl ([.ref a_])).length) Slot.unset).toArray = ls at hl ⊢
  have hl : lv_has ls 3 [(0, .ref a_)] := hl
  obtain ⟨Q, hQ⟩ : ∃ Q : State → Prop, Q = MQ below (vp_Si (fun q : Int32 => q = rr)) #[Value.ref a_] s 0 0 (fun _ => False) := ⟨_, rfl⟩
  rw [← hQ]
  change W p l e ({ frames := 2, cells := 0, slots := 0, locals := 43 } : Room) s m #[Value.ref a_] below meth c s.heap [] 0 0 Q (F0 m 0 ls [])
  unfold F_X5_slackSites at hF
  refine lv_iconst (v := 0) hx hb (dq_3 0 bcX5_slackSites_0 (j := 0) rfl rfl) (by decide) ?_
  refine lv_istore_n (lv' := [(1, .int (0 : Int32)), (0, .ref a_)]) hx hb (dq_60 0 bcX5_slackSites_0 (j := 1) rfl rfl) rfl hl (by decide) rfl (fun ls hl => ?_)
  refine lv_iconst (v := 0) hx hb (dq_3 0 bcX5_slackSites_0 (j := 2) rfl rfl) (by decide) ?_
  refine lv_istore_n (lv' := [(2, .int (0 : Int32)), (1, .int (0 : Int32)), (0, .ref a_)]) hx hb (dq_61 0 bcX5_slackSites_0 (j := 3) rfl rfl) rfl hl (by decide) rfl (fun ls hl => ?_)
  replace hF := bd1_s hF
  obtain ⟨x1_7, hL_8, hF⟩ := hF
  refine lw_X5_slackSites_4 l E K (c_askedCount := c_askedCount) (c_outcome := c_outcome) (c_row := c_row) hx hb hml hown hts hK hN hP K (0 : Int32) (0 : Int32) x1_7 hL_8 ?_ ls (lv_sub hl [2, 1, 0] rfl)
  ·
    intro ls hl
    refine lv_iload_n hx hb (dq_27 0 bcX5_slackSites_0 (j := 36) rfl rfl) rfl (lv_at hl 0 rfl) ?_
    rw [hQ]
    obtain e9_0 := inj1 hF
    exact W.iret (v := x1_7) hx hb hr (fun tt ht hW => ⟨_, rfl, e9_0, ht⟩) (fun _ h => by cases h) (dq_172 0 bcX5_slackSites_0 (j := 37) rfl rfl)
end
