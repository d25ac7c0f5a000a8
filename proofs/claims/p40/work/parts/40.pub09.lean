-- 40.pub09
section
noncomputable def blX7_years_0 : List Nat := [42, 180, 0, 35, 182, 0, 110, 153, 0, 14, 27, 4, 161, 0, 9, 27, 16, 40, 164, 0, 5, 2, 172, 42, 180, 0, 65, 32, 181, 0, 173, 3, 54, 4, 3, 54, 5, 21, 5, 27, 162, 0, 65, 42, 180, 0, 65, 42, 180, 0, 35]
set_option maxRecDepth 100000 in
theorem bcX7_years_0 : ((cX7_years.data.toList.drop 0).take blX7_years_0.length).map UInt8.toNat = blX7_years_0 := by decide +kernel
noncomputable def blX7_years_1 : List Nat := [180, 0, 35, 182, 0, 117, 182, 0, 177, 21, 4, 42, 42, 180, 0, 65, 180, 0, 180, 42, 180, 0, 65, 180, 0, 183, 42, 180, 0, 65, 180, 0, 186, 42, 180, 0, 65, 180, 0, 189, 3, 182, 0, 163, 3, 184, 0, 192, 96, 54, 4]
set_option maxRecDepth 100000 in
theorem bcX7_years_1 : ((cX7_years.data.toList.drop 48).take blX7_years_1.length).map UInt8.toNat = blX7_years_1 := by decide +kernel
noncomputable def blX7_years_2 : List Nat := [96, 54, 4, 132, 5, 1, 167, 255, 191, 21, 4, 172]
set_option maxRecDepth 100000 in
theorem bcX7_years_2 : ((cX7_years.data.toList.drop 96).take blX7_years_2.length).map UInt8.toNat = blX7_years_2 := by decide +kernel

def B_X7_years_37 (K : Nat) (p1 : Int32) (x4 : Int32) (x5 : Int32) (c_now_row : Nat → Int32) (c_now_partners : Nat → Int32) (c_now_askedCount : Int32) (c_now_outcome : Int32) (c_now_share : Nat → Int32) (c_now_leftOver : Nat → Int32) (c_book_lines : Nat → Int32) (c_history_rows : Nat → Int32) (c_history_next : Int32) (c_history_held : Int32) (c_draws_x : Int64) (c_draws_sort : Int32) (c_draws_a : Int32) (c_draws_b : Int32) (c_draws_c : Int32) (c_refused : Nat → Int32) : Option ((Int32 × Int32 × (Nat → Int32) × (Nat → Int32) × Int32 × Int32 × (Nat → Int32) × (Nat → Int32) × (Nat → Int32) × (Nat → Int32) × Int32 × Int32 × Int64 × Int32 × Int32 × Int32 × Int32 × (Nat → Int32)) ⊕ (Int32 × (Nat → Int32) × (Nat → Int32) × Int32 × Int32 × (Nat → Int32) × (Nat → Int32) × (Nat → Int32) × (Nat → Int32) × Int32 × Int32 × Int64 × Int32 × Int32 × Int32 × Int32 × (Nat → Int32))) :=
  if p1 ≤ x5 then some (.inr (x4, c_now_row, c_now_partners, c_now_askedCount, c_now_outcome, c_now_share, c_now_leftOver, c_book_lines, c_history_rows, c_history_next, c_history_held, c_draws_x, c_draws_sort, c_draws_a, c_draws_b, c_draws_c, c_refused)) else bd1 (F_X5_sites c_now_row) (fun r_8 => bd5 (F_X1_pickAct r_8 c_draws_x c_draws_sort c_draws_a c_draws_b c_draws_c) (fun w_10 w_11 w_12 w_13 w_14 => bd12 (F_X7_act K w_11 w_12 w_13 w_14 (0 : Int32) c_now_row c_now_partners c_now_askedCount c_now_outcome c_now_share c_now_leftOver c_book_lines c_history_rows c_history_next c_history_held c_refused) (fun r_16 w_17 w_18 w_19 w_20 w_21 w_22 w_23 w_24 w_25 w_26 w_27 => some (.inl (x4 + (maxF r_16 (0 : Int32)), x5 + (1 : Int32), w_17, w_18, w_19, w_20, w_21, w_22, w_23, w_24, w_25, w_26, w_10, w_11, w_12, w_13, w_14, w_27)))))
def F_X7_years (K : Nat) (p1 : Int32) (p2 : Int64) (c_now_row : Nat → Int32) (c_now_partners : Nat → Int32) (c_now_askedCount : Int32) (c_now_outcome : Int32) (c_now_share : Nat → Int32) (c_now_leftOver : Nat → Int32) (c_book_lines : Nat → Int32) (c_history_rows : Nat → Int32) (c_history_next : Int32) (c_history_held : Int32) (c_draws_x : Int64) (c_draws_sort : Int32) (c_draws_a : Int32) (c_draws_b : Int32) (c_draws_c : Int32) (c_refused : Nat → Int32) : Option (Int32 × (Nat → Int32) × (Nat → Int32) × Int32 × Int32 × (Nat → Int32) × (Nat → Int32) × (Nat → Int32) × (Nat → Int32) × Int32 × Int32 × Int64 × Int32 × Int32 × Int32 × Int32 × (Nat → Int32)) :=
  bd1 (F_X5_stands c_now_row) (fun r_1 => if r_1 = (0 : Int32) then some ((-1 : Int32), c_now_row, c_now_partners, c_now_askedCount, c_now_outcome, c_now_share, c_now_leftOver, c_book_lines, c_history_rows, c_history_next, c_history_held, c_draws_x, c_draws_sort, c_draws_a, c_draws_b, c_draws_c, c_refused) else if p1 < (1 : Int32) then some ((-1 : Int32), c_now_row, c_now_partners, c_now_askedCount, c_now_outcome, c_now_share, c_now_leftOver, c_book_lines, c_history_rows, c_history_next, c_history_held, c_draws_x, c_draws_sort, c_draws_a, c_draws_b, c_draws_c, c_refused) else if p1 ≤ (40 : Int32) then bd17 (lpF (fun u9 : Int32 × Int32 × (Nat → Int32) × (Nat → Int32) × Int32 × Int32 × (Nat → Int32) × (Nat → Int32) × (Nat → Int32) × (Nat → Int32) × Int32 × Int32 × Int64 × Int32 × Int32 × Int32 × Int32 × (Nat → Int32) => B_X7_years_37 K p1 u9.1 u9.2.1 u9.2.2.1 u9.2.2.2.1 u9.2.2.2.2.1 u9.2.2.2.2.2.1 u9.2.2.2.2.2.2.1 u9.2.2.2.2.2.2.2.1 u9.2.2.2.2.2.2.2.2.1 u9.2.2.2.2.2.2.2.2.2.1 u9.2.2.2.2.2.2.2.2.2.2.1 u9.2.2.2.2.2.2.2.2.2.2.2.1 u9.2.2.2.2.2.2.2.2.2.2.2.2.1 u9.2.2.2.2.2.2.2.2.2.2.2.2.2.1 u9.2.2.2.2.2.2.2.2.2.2.2.2.2.2.1 u9.2.2.2.2.2.2.2.2.2.2.2.2.2.2.2.1 u9.2.2.2.2.2.2.2.2.2.2.2.2.2.2.2.2.1 u9.2.2.2.2.2.2.2.2.2.2.2.2.2.2.2.2.2) K ((0 : Int32), (0 : Int32), c_now_row, c_now_partners, c_now_askedCount, c_now_outcome, c_now_share, c_now_leftOver, c_book_lines, c_history_rows, c_history_next, c_history_held, p2, c_draws_sort, c_draws_a, c_draws_b, c_draws_c, c_refused)) (fun x4_29 c_now_row_30 c_now_partners_31 c_now_askedCount_32 c_now_outcome_33 c_now_share_34 c_now_leftOver_35 c_book_lines_36 c_history_rows_37 c_history_next_38 c_history_held_39 c_draws_x_40 c_draws_sort_41 c_draws_a_42 c_draws_b_43 c_draws_c_44 c_refused_45 => some (x4_29, c_now_row_30, c_now_partners_31, c_now_askedCount_32, c_now_outcome_33, c_now_share_34, c_now_leftOver_35, c_book_lines_36, c_history_rows_37, c_history_next_38, c_history_held_39, c_draws_x_40, c_draws_sort_41, c_draws_a_42, c_draws_b_43, c_draws_c_44, c_refused_45)) else some ((-1 : Int32), c_now_row, c_now_partners, c_now_askedCount, c_now_outcome, c_now_share, c_now_leftOver, c_book_lines, c_history_rows, c_history_next, c_history_held, c_draws_x, c_draws_sort, c_draws_a, c_draws_b, c_draws_c, c_refused))
abbrev w_X7_years (E : EE) (a_ a_tape a_reader a_scripts a_now a_trial a_kept a_book a_keptBook a_history a_draws a_refused a_now_row a_now_partners a_now_share a_now_leftOver a_book_lines a_history_rows : Nat) (c_hasImage : Int32) (c_now_askedCount : Int32) (c_now_outcome : Int32) (c_now_row : Nat → Int32) (c_now_partners : Nat → Int32) (c_now_share : Nat → Int32) (c_now_leftOver : Nat → Int32) (c_book_lines : Nat → Int32) (c_history_next : Int32) (c_history_held : Int32) (c_history_rows : Nat → Int32) (c_draws_x : Int64) (c_draws_sort : Int32) (c_draws_a : Int32) (c_draws_b : Int32) (c_draws_c : Int32) (c_refused : Nat → Int32) : va_W := [k_X7 a_ a_tape a_reader a_scripts a_now a_trial a_kept a_book a_keptBook a_history a_draws a_refused c_hasImage, k_X5 a_now a_now_row a_now_partners c_now_askedCount c_now_outcome a_now_share a_now_leftOver, k_I E a_now_row 81 c_now_row, k_I E a_now_partners 8 c_now_partners, k_I E a_now_share 2 c_now_share, k_I E a_now_leftOver 2 c_now_leftOver, k_X0 a_book a_book_lines, k_I E a_book_lines 300 c_book_lines, k_X2 a_history a_history_rows c_history_next c_history_held, k_I E a_history_rows 3240 c_history_rows, k_X1 a_draws c_draws_x c_draws_sort c_draws_a c_draws_b c_draws_c, k_I E a_refused 3 c_refused]
def v_f_X7_years : List Cond := List.cons (.code yX7_years cX7_years 6 (some .int)) (HAppend.hAppend (α := List Cond) (β := List Cond) (γ := List Cond) [.fieldLink RX7 35 "HushWatch" "now" "LHushWatch$State;", .fieldLink RX7 65 "HushWatch" "draws" "LHushWatch$Draws;", .methodLink RX7 192 Lib.Math.max.name, .static Lib.Math.max.name, .initialized "java/lang/Math", .code Lib.Math.max.name Lib.Math.max.code 2 (some .int), .methodLink RX7 110 yX5_stands, .instanceMethod yX5_stands, .selects RX5 yX5_stands yX5_stands, .initialized RX5, .methodLink RX7 117 yX5_sites, .instanceMethod yX5_sites, .selects RX5 yX5_sites yX5_sites, .methodLink RX7 177 yX1_pickAct, .instanceMethod yX1_pickAct, .selects RX1 yX1_pickAct yX1_pickAct, .initialized RX1, .methodLink RX7 163 yX7_act, .instanceMethod yX7_act, .selects RX7 yX7_act yX7_act, .initialized RX7] (HAppend.hAppend (α := List Cond) (β := List Cond) (γ := List Cond) wsX70 (HAppend.hAppend (α := List Cond) (β := List Cond) (γ := List Cond) v_f_X5_stands (HAppend.hAppend (α := List Cond) (β := List Cond) (γ := List Cond) wsX10 (HAppend.hAppend (α := List Cond) (β := List Cond) (γ := List Cond) v_f_X5_sites (HAppend.hAppend (α := List Cond) (β := List Cond) (γ := List Cond) v_f_X1_pickAct (HAppend.hAppend (α := List Cond) (β := List Cond) (γ := List Cond) v_f_X7_act [])))))))
theorem gw_f_X7_years : v_f_X7_years.all goodWord = true := gw_c2 (by decide +kernel) (gw_ap gw_wsX70 (gw_ap gw_f_X5_stands (gw_ap gw_wsX10 (gw_ap gw_f_X5_sites (gw_ap gw_f_X1_pickAct (gw_ap gw_f_X7_act gw_nil))))))
theorem i_f_X7_years_X7 : ∀ w ∈ wsX70, w ∈ v_f_X7_years := fun _ h => List.mem_cons_of_mem _ (List.mem_append_right _ (List.mem_append_left _ h))
theorem i_f_X7_years_X1 : ∀ w ∈ wsX10, w ∈ v_f_X7_years := fun _ h => List.mem_cons_of_mem _ (List.mem_append_right _ (List.mem_append_right _ (List.mem_append_right _ (List.mem_append_left _ h))))
theorem g_f_X7_years_f_X5_stands_110 : GoodIn v_f_X7_years (wsV RX7 110 RX5 yX5_stands v_f_X5_stands) := goodIn_in gw_f_X7_years (in4 7 8 9 10 rfl rfl rfl rfl (fun _ h => List.mem_cons_of_mem _ (List.mem_append_right _ (List.mem_append_right _ (List.mem_append_left _ h)))))
theorem g_f_X7_years_f_X5_sites_117 : GoodIn v_f_X7_years (wsV RX7 117 RX5 yX5_sites v_f_X5_sites) := goodIn_in gw_f_X7_years (in4 11 12 13 10 rfl rfl rfl rfl (fun _ h => List.mem_cons_of_mem _ (List.mem_append_right _ (List.mem_append_right _ (List.mem_append_right _ (List.mem_append_right _ (List.mem_append_left _ h)))))))
theorem g_f_X7_years_f_X1_pickAct_177 : GoodIn v_f_X7_years (wsV RX7 177 RX1 yX1_pickAct v_f_X1_pickAct) := goodIn_in gw_f_X7_years (in4 14 15 16 17 rfl rfl rfl rfl (fun _ h => List.mem_cons_of_mem _ (List.mem_append_right _ (List.mem_append_right _ (List.mem_append_right _ (List.mem_append_right _ (List.mem_append_right _ (List.mem_append_left _ h))))))))
theorem g_f_X7_years_f_X7_act_163 : GoodIn v_f_X7_years (wsV RX7 163 RX7 yX7_act v_f_X7_act) := goodIn_in gw_f_X7_years (in4 18 19 20 21 rfl rfl rfl rfl (fun _ h => List.mem_cons_of_mem _ (List.mem_append_right _ (List.mem_append_right _ (List.mem_append_right _ (List.mem_append_right _ (List.mem_append_right _ (List.mem_append_right _ (List.mem_append_left _ h)))))))))
theorem hd_X7_years : yX7_years.cls = RX7 ∧ yX7_years.cls ≠ "java/lang/invoke/MethodHandle" ∧ yX7_years.cls ≠ "java/lang/invoke/VarHandle" ∧ (parseMethodDescriptor yX7_years.desc).map (fun d => d.parameters.length) = some 2 := by decide +kernel
set_option maxHeartbeats 4000000 in
set_option maxRecDepth 100000 in
theorem wb_X7_years_37 {p : Program} (l : Launch) {e : Env} {s : State} {m : MethodId} {below : List Frame} {meth : Method} {c : Code} {Q : State → Prop} (E : EE) (K : Nat) {a_ a_tape a_reader a_scripts a_now a_trial a_kept a_book a_keptBook a_history a_draws a_refused a_now_row a_now_partners a_now_share a_now_leftOver a_book_lines a_history_rows : Nat} {p1 : Int32} {p2 : Int64} {c_hasImage : Int32} {x4 : Int32} {x5 : Int32} {c_now_row : Nat → Int32} {c_now_partners : Nat → Int32} {c_now_askedCount : Int32} {c_now_outcome : Int32} {c_now_share : Nat → Int32} {c_now_leftOver : Nat → Int32} {c_book_lines : Nat → Int32} {c_history_rows : Nat → Int32} {c_history_next : Int32} {c_history_held : Int32} {c_draws_x : Int64} {c_draws_sort : Int32} {c_draws_a : Int32} {c_draws_b : Int32} {c_draws_c : Int32} {c_refused : Nat → Int32} (hx : p.tables.exec = Jvm.exec) (hb : c.code = cX7_years) (hml : c.maxLocals = 6) (hown : s.vm.findClass RX7 = some m.cls) (hts : ∀ w ∈ v_f_X7_years, w.before #[Value.ref a_, Value.int p1, Value.long p2] s = true) (hK : va_K E.1 vwCl (TY E) s) (hN : NX s) {A : Nat → Prop} (hA : ∀ q : Nat, s.heap.size ≤ q → A q) {xx : (Int32 × Int32 × (Nat → Int32) × (Nat → Int32) × Int32 × Int32 × (Nat → Int32) × (Nat → Int32) × (Nat → Int32) × (Nat → Int32) × Int32 × Int32 × Int64 × Int32 × Int32 × Int32 × Int32 × (Nat → Int32)) ⊕ (Int32 × (Nat → Int32) × (Nat → Int32) × Int32 × Int32 × (Nat → Int32) × (Nat → Int32) × (Nat → Int32) × (Nat → Int32) × Int32 × Int32 × Int64 × Int32 × Int32 × Int32 × Int32 × (Nat → Int32))} (hC : ∀ (x4 : Int32), ∀ (x5 : Int32), ∀ (c_now_row : Nat → Int32), ∀ (c_now_partners : Nat → Int32), ∀ (c_now_askedCount : Int32), ∀ (c_now_outcome : Int32), ∀ (c_now_share : Nat → Int32), ∀ (c_now_leftOver : Nat → Int32), ∀ (c_book_lines : Nat → Int32), ∀ (c_history_rows : Nat → Int32), ∀ (c_history_next : Int32), ∀ (c_history_held : Int32), ∀ (c_draws_x : Int64), ∀ (c_draws_sort : Int32), ∀ (c_draws_a : Int32), ∀ (c_draws_b : Int32), ∀ (c_draws_c : Int32), ∀ (c_refused : Nat → Int32), xx = .inl (x4, x5, c_now_row, c_now_partners, c_now_askedCount, c_now_outcome, c_now_share, c_now_leftOver, c_book_lines, c_history_rows, c_history_next, c_history_held, c_draws_x, c_draws_sort, c_draws_a, c_draws_b, c_draws_c, c_refused) → ∀ (H : Heap) (locs : List Loc) (ls : Array Slot), va_P E.1 vwCl (w_X7_years E a_ a_tape a_reader a_scripts a_now a_trial a_kept a_book a_keptBook a_history a_draws a_refused a_now_row a_now_partners a_now_share a_now_leftOver a_book_lines a_history_rows c_hasImage c_now_askedCount c_now_outcome c_now_row c_now_partners c_now_share c_now_leftOver c_book_lines c_history_next c_history_held c_history_rows c_draws_x c_draws_sort c_draws_a c_draws_b c_draws_c c_refused) H → va_D A (w_X7_years E a_ a_tape a_reader a_scripts a_now a_trial a_kept a_book a_keptBook a_history a_draws a_refused a_now_row a_now_partners a_now_share a_now_leftOver a_book_lines a_history_rows c_hasImage c_now_askedCount c_now_outcome c_now_row c_now_partners c_now_share c_now_leftOver c_book_lines c_history_next c_history_held c_history_rows c_draws_x c_draws_sort c_draws_a c_draws_b c_draws_c c_refused) → va_S A s.heap H locs → lv_has ls 6 [(0, .ref a_), (1, .int p1), (4, .int x4), (5, .int x5)] → W p l e ({ frames := 6, cells := 0, slots := 0, locals := 151 } : Room) s m #[Value.ref a_, Value.int p1, Value.long p2] below meth c H locs 0 0 Q (F0 m 37 ls [])) (hE : ∀ (x4 : Int32), ∀ (c_now_row : Nat → Int32), ∀ (c_now_partners : Nat → Int32), ∀ (c_now_askedCount : Int32), ∀ (c_now_outcome : Int32), ∀ (c_now_share : Nat → Int32), ∀ (c_now_leftOver : Nat → Int32), ∀ (c_book_lines : Nat → Int32), ∀ (c_history_rows : Nat → Int32), ∀ (c_history_next : Int32), ∀ (c_history_held : Int32), ∀ (c_draws_x : Int64), ∀ (c_draws_sort : Int32), ∀ (c_draws_a : Int32), ∀ (c_draws_b : Int32), ∀ (c_draws_c : Int32), ∀ (c_refused : Nat → Int32), xx = .inr (x4, c_now_row, c_now_partners, c_now_askedCount, c_now_outcome, c_now_share, c_now_leftOver, c_book_lines, c_history_rows, c_history_next, c_history_held, c_draws_x, c_draws_sort, c_draws_a, c_draws_b, c_draws_c, c_refused) → ((∀ (H : Heap) (locs : List Loc) (ls : Array Slot), va_P E.1 vwCl (w_X7_years E a_ a_tape a_reader a_scripts a_now a_trial a_kept a_book a_keptBook a_history a_draws a_refused a_now_row a_now_partners a_now_share a_now_leftOver a_book_lines a_history_rows c_hasImage c_now_askedCount c_now_outcome c_now_row c_now_partners c_now_share c_now_leftOver c_book_lines c_history_next c_history_held c_history_rows c_draws_x c_draws_sort c_draws_a c_draws_b c_draws_c c_refused) H → va_D A (w_X7_years E a_ a_tape a_reader a_scripts a_now a_trial a_kept a_book a_keptBook a_history a_draws a_refused a_now_row a_now_partners a_now_share a_now_leftOver a_book_lines a_history_rows c_hasImage c_now_askedCount c_now_outcome c_now_row c_now_partners c_now_share c_now_leftOver c_book_lines c_history_next c_history_held c_history_rows c_draws_x c_draws_sort c_draws_a c_draws_b c_draws_c c_refused) → va_S A s.heap H locs → lv_has ls 6 [(4, .int x4)] → W p l e ({ frames := 6, cells := 0, slots := 0, locals := 151 } : Room) s m #[Value.ref a_, Value.int p1, Value.long p2] below meth c H locs 0 0 Q (F0 m 105 ls [])))) (hF : B_X7_years_37 K p1 x4 x5 c_now_row c_now_partners c_now_askedCount c_now_outcome c_now_share c_now_leftOver c_book_lines c_history_rows c_history_next c_history_held c_draws_x c_draws_sort c_draws_a c_draws_b c_draws_c c_refused = some xx) : ∀ (H : Heap) (locs : List Loc) (ls : Array Slot), va_P E.1 vwCl (w_X7_years E a_ a_tape a_reader a_scripts a_now a_trial a_kept a_book a_keptBook a_history a_draws a_refused a_now_row a_now_partners a_now_share a_now_leftOver a_book_lines a_history_rows c_hasImage c_now_askedCount c_now_outcome c_now_row c_now_partners c_now_share c_now_leftOver c_book_lines c_history_next c_history_held c_history_rows c_draws_x c_draws_sort c_draws_a c_draws_b c_draws_c c_refused) H → va_D A (w_X7_years E a_ a_tape a_reader a_scripts a_now a_trial a_kept a_book a_keptBook a_history a_draws a_refused a_now_row a_now_partners a_now_share a_now_leftOver a_book_lines a_history_rows c_hasImage c_now_askedCount c_now_outcome c_now_row c_now_partners c_now_share c_now_leftOver c_book_lines c_history_next c_history_held c_history_rows c_draws_x c_draws_sort c_draws_a c_draws_b c_draws_c c_refused) → va_S A s.heap H locs → lv_has ls 6 [(0, .ref a_), (1, .int p1), (4, .int x4), (5, .int x5)] → W p l e ({ frames := 6, cells := 0, slots := 0, locals := 151 } : Room) s m #[Value.ref a_, Value.int p1, Value.long p2] below meth c H locs 0 0 Q (F0 m 37 ls []) := by
  unfold B_X7_years_37 at hF
  intro H locs ls hP hD hS hl
  have h9 := fixPD (ws' := [k_X7 a_ a_tape a_reader a_scripts a_now a_trial a_kept a_book a_keptBook a_history a_draws a_refused c_hasImage, k_X5 a_now a_now_row a_now_partners c_now_askedCount c_now_outcome a_now_share a_now_leftOver, k_I E a_now_row 81 c_now_row, k_I E a_now_partners 8 c_now_partners, k_I E a_now_share 2 c_now_share, k_I E a_now_leftOver 2 c_now_leftOver, k_X0 a_book a_book_lines, k_I E a_book_lines 300 c_book_lines, k_X2 a_history a_history_rows c_history_next c_history_held, k_I E a_history_rows 3240 c_history_rows, k_X1 a_draws c_draws_x c_draws_sort c_draws_a c_draws_b c_draws_c, k_I E a_refused 3 c_refused]) hP hD rfl
  clear hP hD
  obtain ⟨hP, hD⟩ := h9
  refine lv_iload hx hb (dq_21 0 bcX7_years_0 (j := 37) (i := 5) rfl rfl) (lv_at hl 3 rfl) ?_
  refine lv_iload_n hx hb (dq_27 0 bcX7_years_0 (j := 39) rfl rfl) rfl (lv_at hl 1 rfl) ?_
  refine lv_icmp_ge (tgt := 105) hx hb (dq_162 0 bcX7_years_0 (j := 40) (i := 65) rfl rfl rfl) (by decide) (fun c_7 => ?_) (fun c_7 => ?_)
  ·
    replace hF := ip c_7 hF
    cases hF
    exact hE x4 c_now_row c_now_partners c_now_askedCount c_now_outcome c_now_share c_now_leftOver c_book_lines c_history_rows c_history_next c_history_held c_draws_x c_draws_sort c_draws_a c_draws_b c_draws_c c_refused rfl H locs ls (hP.sub [0, 1, 2, 3, 4, 5, 6, 7, 8, 9, 10, 11] rfl) (hD.sub [0, 1, 2, 3, 4, 5, 6, 7, 8, 9, 10, 11] (by decide) rfl) hS (lv_sub hl [2] rfl)
  ·
    replace hF := inn c_7 hF
    refine lv_aload_n hx hb (dq_42 0 bcX7_years_0 (j := 43) rfl rfl) rfl (lv_at hl 0 rfl) ?_
    refine gt_X7_9 (v := .ref a_draws) hx hb hts i_f_X7_years_X7 hown hK hP 0 rfl (hts (.fieldLink RX7 65 "HushWatch" "draws" "LHushWatch$Draws;") (List.mem_of_getElem? (i := 2) rfl)) rfl (dq_180 0 bcX7_years_0 (j := 44) (i := 65) rfl rfl rfl) ?_
    refine lv_aload_n hx hb (dq_42 0 bcX7_years_0 (j := 47) rfl rfl) rfl (lv_at hl 0 rfl) ?_
    refine gt_X7_3 (v := .ref a_now) hx hb hts i_f_X7_years_X7 hown hK hP 0 rfl (hts (.fieldLink RX7 35 "HushWatch" "now" "LHushWatch$State;") (List.mem_of_getElem? (i := 1) rfl)) rfl (dq_180 48 bcX7_years_1 (j := 0) (i := 35) rfl rfl rfl) ?_
    replace hF := bd1_s hF
    obtain ⟨r_8, hc_9, hF⟩ := hF
    have hPc : va_P E.1 vwCl (w_X5_sites E a_now a_now_row a_now_partners a_now_share a_now_leftOver c_now_askedCount c_now_outcome c_now_row) H := hP.sub (ws' := [k_X5 a_now a_now_row a_now_partners c_now_askedCount c_now_outcome a_now_share a_now_leftOver, k_I E a_now_row 81 c_now_row]) [1, 2] rfl
    have hrc := va_recv hK hPc (ci := 6) (q0 := 0) rfl rfl
    refine pE_i (va_runV (As := []) (rest := [.ref a_draws])  ⟨hx, hb, hml, hown, hts⟩ (f_X5_sites l E (a_ := a_now) (a_row := a_now_row) (a_partners := a_now_partners) (a_share := a_now_share) (a_leftOver := a_now_leftOver) (c_askedCount := c_now_askedCount) (c_outcome := c_now_outcome) (c_row := c_now_row) hc_9) (cwV 0 hts g_f_X7_years_f_X5_sites_117 rfl rfl rfl hd_X5_sites ⟨Nat.le_of_ble_eq_true rfl, Nat.le_of_ble_eq_true rfl⟩) ⟨pP.blind, hrc, (pP.pre ⟨hK, hN⟩ hPc)⟩ rfl rfl hl.1 rfl (lv_room (Nat.le_of_ble_eq_true rfl)) (dq_182 48 bcX7_years_1 (j := 3) (i := 117) rfl rfl rfl) ⟨Nat.le_of_ble_eq_true rfl, Nat.le_of_ble_eq_true rfl⟩) ?_
    replace hF := bd5_s hF
    obtain ⟨w_10, w_11, w_12, w_13, w_14, hc_15, hF⟩ := hF
    obtain ⟨hPc, hDc, hFc⟩ := wcut (wc := (w_X1_pickAct E a_draws c_draws_x c_draws_sort c_draws_a c_draws_b c_draws_c)) hP hD hS hA [10] (by decide) rfl
    have hrc := va_recv hK hPc (ci := 2) (q0 := 0) rfl rfl
    refine cE_v (wc := (w_X1_pickAct E a_draws c_draws_x c_draws_sort c_draws_a c_draws_b c_draws_c)) (wr := [k_X7 a_ a_tape a_reader a_scripts a_now a_trial a_kept a_book a_keptBook a_history a_draws a_refused c_hasImage, k_X5 a_now a_now_row a_now_partners c_now_askedCount c_now_outcome a_now_share a_now_leftOver, k_I E a_now_row 81 c_now_row, k_I E a_now_partners 8 c_now_partners, k_I E a_now_share 2 c_now_share, k_I E a_now_leftOver 2 c_now_leftOver, k_X0 a_book a_book_lines, k_I E a_book_lines 300 c_book_lines, k_X2 a_history a_history_rows c_history_next c_history_held, k_I E a_history_rows 3240 c_history_rows, k_I E a_refused 3 c_refused]) (w1 := (w_X1_pickAct E a_draws w_10 w_11 w_12 w_13 w_14)) (va_runV (As := [.int r_8]) (rest := [])  ⟨hx, hb, hml, hown, hts⟩ (f_X1_pickAct l E H.size (a_ := a_draws) (p1 := r_8) (c_x := c_draws_x) (c_sort := c_draws_sort) (c_a := c_draws_a) (c_b := c_draws_b) (c_c := c_draws_c) hc_15) (cwV 1 hts g_f_X7_years_f_X1_pickAct_177 rfl rfl rfl hd_X1_pickAct ⟨Nat.le_of_ble_eq_true rfl, Nat.le_of_ble_eq_true rfl⟩) ⟨pW.blind, hrc, (pW.pre ⟨hK, hN⟩ hPc hDc)⟩ rfl rfl hl.1 rfl (lv_room (Nat.le_of_ble_eq_true rfl)) (dq_182 48 bcX7_years_1 (j := 6) (i := 177) rfl rfl rfl) ⟨Nat.le_of_ble_eq_true rfl, Nat.le_of_ble_eq_true rfl⟩) hS hFc hP hD [10] [0, 1, 2, 3, 4, 5, 6, 7, 8, 9, 11] rfl rfl (by decide) (by decide) (fun H locs hP hD hS => ?_)
    have h9 := fixPD (ws' := [k_X7 a_ a_tape a_reader a_scripts a_now a_trial a_kept a_book a_keptBook a_history a_draws a_refused c_hasImage, k_X5 a_now a_now_row a_now_partners c_now_askedCount c_now_outcome a_now_share a_now_leftOver, k_I E a_now_row 81 c_now_row, k_I E a_now_partners 8 c_now_partners, k_I E a_now_share 2 c_now_share, k_I E a_now_leftOver 2 c_now_leftOver, k_X0 a_book a_book_lines, k_I E a_book_lines 300 c_book_lines, k_X2 a_history a_history_rows c_history_next c_history_held, k_I E a_history_rows 3240 c_history_rows, k_I E a_refused 3 c_refused, k_X1 a_draws w_10 w_11 w_12 w_13 w_14]) hP hD rfl
    clear hP hD
    obtain ⟨hP, hD⟩ := h9
    refine lv_iload hx hb (dq_21 48 bcX7_years_1 (j := 9) (i := 4) rfl rfl) (lv_at hl 2 rfl) ?_
    refine lv_aload_n hx hb (dq_42 48 bcX7_years_1 (j := 11) rfl rfl) rfl (lv_at hl 0 rfl) ?_
    refine lv_aload_n hx hb (dq_42 48 bcX7_years_1 (j := 12) rfl rfl) rfl (lv_at hl 0 rfl) ?_
    refine gt_X7_9 (v := .ref a_draws) hx hb hts i_f_X7_years_X7 hown hK hP 0 rfl (hts (.fieldLink RX7 65 "HushWatch" "draws" "LHushWatch$Draws;") (List.mem_of_getElem? (i := 2) rfl)) rfl (dq_180 48 bcX7_years_1 (j := 13) (i := 65) rfl rfl rfl) ?_
    refine va_getN (D := E.1) (ci := 2) (v := .int w_11) (C := RX1) (T := TX1) (N := 5) hx hb hts i_f_X7_years_X1 hown hK hP 11 rfl rfl 1 (by decide) (nx hN 21 rfl) (fun _ h9 => h9) rfl (dq_180 48 bcX7_years_1 (j := 16) (i := 180) rfl rfl rfl) ?_
    refine lv_aload_n hx hb (dq_42 48 bcX7_years_1 (j := 19) rfl rfl) rfl (lv_at hl 0 rfl) ?_
    refine gt_X7_9 (v := .ref a_draws) hx hb hts i_f_X7_years_X7 hown hK hP 0 rfl (hts (.fieldLink RX7 65 "HushWatch" "draws" "LHushWatch$Draws;") (List.mem_of_getElem? (i := 2) rfl)) rfl (dq_180 48 bcX7_years_1 (j := 20) (i := 65) rfl rfl rfl) ?_
    refine va_getN (D := E.1) (ci := 2) (v := .int w_12) (C := RX1) (T := TX1) (N := 5) hx hb hts i_f_X7_years_X1 hown hK hP 11 rfl rfl 2 (by decide) (nx hN 22 rfl) (fun _ h9 => h9) rfl (dq_180 48 bcX7_years_1 (j := 23) (i := 183) rfl rfl rfl) ?_
    refine lv_aload_n hx hb (dq_42 48 bcX7_years_1 (j := 26) rfl rfl) rfl (lv_at hl 0 rfl) ?_
    refine gt_X7_9 (v := .ref a_draws) hx hb hts i_f_X7_years_X7 hown hK hP 0 rfl (hts (.fieldLink RX7 65 "HushWatch" "draws" "LHushWatch$Draws;") (List.mem_of_getElem? (i := 2) rfl)) rfl (dq_180 48 bcX7_years_1 (j := 27) (i := 65) rfl rfl rfl) ?_
    refine va_getN (D := E.1) (ci := 2) (v := .int w_13) (C := RX1) (T := TX1) (N := 5) hx hb hts i_f_X7_years_X1 hown hK hP 11 rfl rfl 3 (by decide) (nx hN 23 rfl) (fun _ h9 => h9) rfl (dq_180 48 bcX7_years_1 (j := 30) (i := 186) rfl rfl rfl) ?_
    refine lv_aload_n hx hb (dq_42 48 bcX7_years_1 (j := 33) rfl rfl) rfl (lv_at hl 0 rfl) ?_
    refine gt_X7_9 (v := .ref a_draws) hx hb hts i_f_X7_years_X7 hown hK hP 0 rfl (hts (.fieldLink RX7 65 "HushWatch" "draws" "LHushWatch$Draws;") (List.mem_of_getElem? (i := 2) rfl)) rfl (dq_180 48 bcX7_years_1 (j := 34) (i := 65) rfl rfl rfl) ?_
    refine va_getN (D := E.1) (ci := 2) (v := .int w_14) (C := RX1) (T := TX1) (N := 5) hx hb hts i_f_X7_years_X1 hown hK hP 11 rfl rfl 4 (by decide) (nx hN 24 rfl) (fun _ h9 => h9) rfl (dq_180 48 bcX7_years_1 (j := 37) (i := 189) rfl rfl rfl) ?_
    refine lv_iconst (v := 0) hx hb (dq_3 48 bcX7_years_1 (j := 40) rfl rfl) (by decide) ?_
    replace hF := bd12_s hF
    obtain ⟨r_16, w_17, w_18, w_19, w_20, w_21, w_22, w_23, w_24, w_25, w_26, w_27, hc_28, hF⟩ := hF
    obtain ⟨hPc, hDc, hFc⟩ := wcut (wc := (w_X7_act E a_ a_tape a_reader a_scripts a_now a_trial a_kept a_book a_keptBook a_history a_draws a_refused a_now_row a_now_partners a_now_share a_now_leftOver a_book_lines a_history_rows c_hasImage c_now_askedCount c_now_outcome c_now_row c_now_partners c_now_share c_now_leftOver c_book_lines c_history_next c_history_held c_history_rows c_refused)) hP hD hS hA [0, 1, 2, 3, 4, 5, 6, 7, 8, 9, 10] (by decide) rfl
    have hrc := va_recv hK hPc (ci := 8) (q0 := 0) rfl rfl
    refine cE_i (wc := (w_X7_act E a_ a_tape a_reader a_scripts a_now a_trial a_kept a_book a_keptBook a_history a_draws a_refused a_now_row a_now_partners a_now_share a_now_leftOver a_book_lines a_history_rows c_hasImage c_now_askedCount c_now_outcome c_now_row c_now_partners c_now_share c_now_leftOver c_book_lines c_history_next c_history_held c_history_rows c_refused)) (wr := [k_X1 a_draws w_10 w_11 w_12 w_13 w_14]) (w1 := (w_X7_act E a_ a_tape a_reader a_scripts a_now a_trial a_kept a_book a_keptBook a_history a_draws a_refused a_now_row a_now_partners a_now_share a_now_leftOver a_book_lines a_history_rows c_hasImage w_19 w_20 w_17 w_18 w_21 w_22 w_23 w_25 w_26 w_24 w_27)) (va_runV (As := [.int w_11, .int w_12, .int w_13, .int w_14, .int (0 : Int32)]) (rest := [.int x4])  ⟨hx, hb, hml, hown, hts⟩ (f_X7_act l E H.size K (a_ := a_) (a_tape := a_tape) (a_reader := a_reader) (a_scripts := a_scripts) (a_now := a_now) (a_trial := a_trial) (a_kept := a_kept) (a_book := a_book) (a_keptBook := a_keptBook) (a_history := a_history) (a_draws := a_draws) (a_refused := a_refused) (a_now_row := a_now_row) (a_now_partners := a_now_partners) (a_now_share := a_now_share) (a_now_leftOver := a_now_leftOver) (a_book_lines := a_book_lines) (a_history_rows := a_history_rows) (p1 := w_11) (p2 := w_12) (p3 := w_13) (p4 := w_14) (p5 := (0 : Int32)) (c_hasImage := c_hasImage) (c_now_askedCount := c_now_askedCount) (c_now_outcome := c_now_outcome) (c_now_row := c_now_row) (c_now_partners := c_now_partners) (c_now_share := c_now_share) (c_now_leftOver := c_now_leftOver) (c_book_lines := c_book_lines) (c_history_next := c_history_next) (c_history_held := c_history_held) (c_history_rows := c_history_rows) (c_refused := c_refused) hc_28) (cwV 5 hts g_f_X7_years_f_X7_act_163 rfl rfl rfl hd_X7_act ⟨Nat.le_of_ble_eq_true rfl, Nat.le_of_ble_eq_true rfl⟩) ⟨pW.blind, hrc, (pW.pre ⟨hK, hN⟩ hPc hDc)⟩ rfl rfl hl.1 rfl (lv_room (Nat.le_of_ble_eq_true rfl)) (dq_182 48 bcX7_years_1 (j := 41) (i := 163) rfl rfl rfl) ⟨Nat.le_of_ble_eq_true rfl, Nat.le_of_ble_eq_true rfl⟩) hS hFc hP hD [0, 1, 2, 3, 4, 5, 6, 7, 8, 9, 10] [11] rfl rfl (by decide) (by decide) (fun H locs hP hD hS => ?_)
    have h9 := fixPD (ws' := [k_X1 a_draws w_10 w_11 w_12 w_13 w_14, k_X7 a_ a_tape a_reader a_scripts a_now a_trial a_kept a_book a_keptBook a_history a_draws a_refused c_hasImage, k_X5 a_now a_now_row a_now_partners w_19 w_20 a_now_share a_now_leftOver, k_I E a_now_row 81 w_17, k_I E a_now_partners 8 w_18, k_I E a_now_share 2 w_21, k_I E a_now_leftOver 2 w_22, k_X0 a_book a_book_lines, k_I E a_book_lines 300 w_23, k_X2 a_history a_history_rows w_25 w_26, k_I E a_history_rows 3240 w_24, k_I E a_refused 3 w_27]) hP hD rfl
    clear hP hD
    obtain ⟨hP, hD⟩ := h9
    refine lv_iconst (v := 0) hx hb (dq_3 48 bcX7_years_1 (j := 44) rfl rfl) (by decide) ?_
    refine va_mmax hx hb (hml.trans hl.1.symm) hown (hts (.methodLink RX7 192 Lib.Math.max.name) (List.mem_of_getElem? (i := 3) rfl)) (hts (.static Lib.Math.max.name) (List.mem_of_getElem? (i := 4) rfl)) (hts (.initialized "java/lang/Math") (List.mem_of_getElem? (i := 5) rfl)) (hts (.code Lib.Math.max.name Lib.Math.max.code 2 (some .int)) (List.mem_of_getElem? (i := 6) rfl)) (Nat.le_of_ble_eq_true rfl) (Nat.le_of_ble_eq_true rfl) (Nat.le_of_ble_eq_true rfl) (Nat.le_of_ble_eq_true rfl) (dq_184 48 bcX7_years_1 (j := 45) (i := 192) rfl rfl rfl) ?_
    refine W.eq (g2 := F0 m 96 ls [.int (maxF r_16 (0 : Int32)), .int x4]) rfl ?_
    refine lv_iadd hx hb (dq_96 96 bcX7_years_2 (j := 0) rfl rfl) ?_
    refine lv_istore (lv' := [(4, .int (x4 + (maxF r_16 (0 : Int32)))), (0, .ref a_), (1, .int p1), (5, .int x5)]) hx hb (dq_54 96 bcX7_years_2 (j := 1) (i := 4) rfl rfl) hl (by decide) rfl (fun ls hl => ?_)
    refine lv_iinc (v := x5 + (1 : Int32)) (lv' := [(5, .int (x5 + (1 : Int32))), (4, .int (x4 + (maxF r_16 (0 : Int32)))), (0, .ref a_), (1, .int p1)]) hx hb (dq_132 96 bcX7_years_2 (j := 3) (i := 1) rfl rfl rfl) hl (k := 3) rfl (rfl) (by decide) rfl (fun ls hl => ?_)
    refine lv_goto (tgt := 37) hx hb (dq_167 96 bcX7_years_2 (j := 6) (i := -65) rfl rfl rfl) (by decide) ?_
    cases hF
    exact hC (x4 + (maxF r_16 (0 : Int32))) (x5 + (1 : Int32)) w_17 w_18 w_19 w_20 w_21 w_22 w_23 w_24 w_25 w_26 w_10 w_11 w_12 w_13 w_14 w_27 rfl H locs ls (hP.sub [1, 2, 3, 4, 5, 6, 7, 8, 9, 10, 0, 11] rfl) (hD.sub [1, 2, 3, 4, 5, 6, 7, 8, 9, 10, 0, 11] (by decide) rfl) hS (lv_sub hl [2, 3, 1, 0] rfl)

set_option maxHeartbeats 4000000 in
set_option maxRecDepth 100000 in
theorem lw_X7_years_37 {p : Program} (l : Launch) {e : Env} {s : State} {m : MethodId} {below : List Frame} {meth : Method} {c : Code} {Q : State → Prop} (E : EE) (K : Nat) {a_ a_tape a_reader a_scripts a_now a_trial a_kept a_book a_keptBook a_history a_draws a_refused a_now_row a_now_partners a_now_share a_now_leftOver a_book_lines a_history_rows : Nat} {p1 : Int32} {p2 : Int64} {c_hasImage : Int32} (hx : p.tables.exec = Jvm.exec) (hb : c.code = cX7_years) (hml : c.maxLocals = 6) (hown : s.vm.findClass RX7 = some m.cls) (hts : ∀ w ∈ v_f_X7_years, w.before #[Value.ref a_, Value.int p1, Value.long p2] s = true) (hK : va_K E.1 vwCl (TY E) s) (hN : NX s) {A : Nat → Prop} (hA : ∀ q : Nat, s.heap.size ≤ q → A q) (j9 : Nat) (x4 : Int32) (x5 : Int32) (c_now_row : Nat → Int32) (c_now_partners : Nat → Int32) (c_now_askedCount : Int32) (c_now_outcome : Int32) (c_now_share : Nat → Int32) (c_now_leftOver : Nat → Int32) (c_book_lines : Nat → Int32) (c_history_rows : Nat → Int32) (c_history_next : Int32) (c_history_held : Int32) (c_draws_x : Int64) (c_draws_sort : Int32) (c_draws_a : Int32) (c_draws_b : Int32) (c_draws_c : Int32) (c_refused : Nat → Int32) (x4' : Int32) (c_now_row' : Nat → Int32) (c_now_partners' : Nat → Int32) (c_now_askedCount' : Int32) (c_now_outcome' : Int32) (c_now_share' : Nat → Int32) (c_now_leftOver' : Nat → Int32) (c_book_lines' : Nat → Int32) (c_history_rows' : Nat → Int32) (c_history_next' : Int32) (c_history_held' : Int32) (c_draws_x' : Int64) (c_draws_sort' : Int32) (c_draws_a' : Int32) (c_draws_b' : Int32) (c_draws_c' : Int32) (c_refused' : Nat → Int32) (hL : lpF (fun u9 : Int32 × Int32 × (Nat → Int32) × (Nat → Int32) × Int32 × Int32 × (Nat → Int32) × (Nat → Int32) × (Nat → Int32) × (Nat → Int32) × Int32 × Int32 × Int64 × Int32 × Int32 × Int32 × Int32 × (Nat → Int32) => B_X7_years_37 K p1 u9.1 u9.2.1 u9.2.2.1 u9.2.2.2.1 u9.2.2.2.2.1 u9.2.2.2.2.2.1 u9.2.2.2.2.2.2.1 u9.2.2.2.2.2.2.2.1 u9.2.2.2.2.2.2.2.2.1 u9.2.2.2.2.2.2.2.2.2.1 u9.2.2.2.2.2.2.2.2.2.2.1 u9.2.2.2.2.2.2.2.2.2.2.2.1 u9.2.2.2.2.2.2.2.2.2.2.2.2.1 u9.2.2.2.2.2.2.2.2.2.2.2.2.2.1 u9.2.2.2.2.2.2.2.2.2.2.2.2.2.2.1 u9.2.2.2.2.2.2.2.2.2.2.2.2.2.2.2.1 u9.2.2.2.2.2.2.2.2.2.2.2.2.2.2.2.2.1 u9.2.2.2.2.2.2.2.2.2.2.2.2.2.2.2.2.2) j9 (x4, x5, c_now_row, c_now_partners, c_now_askedCount, c_now_outcome, c_now_share, c_now_leftOver, c_book_lines, c_history_rows, c_history_next, c_history_held, c_draws_x, c_draws_sort, c_draws_a, c_draws_b, c_draws_c, c_refused) = some (x4', c_now_row', c_now_partners', c_now_askedCount', c_now_outcome', c_now_share', c_now_leftOver', c_book_lines', c_history_rows', c_history_next', c_history_held', c_draws_x', c_draws_sort', c_draws_a', c_draws_b', c_draws_c', c_refused')) (hX : (∀ (H : Heap) (locs : List Loc) (ls : Array Slot), va_P E.1 vwCl (w_X7_years E a_ a_tape a_reader a_scripts a_now a_trial a_kept a_book a_keptBook a_history a_draws a_refused a_now_row a_now_partners a_now_share a_now_leftOver a_book_lines a_history_rows c_hasImage c_now_askedCount' c_now_outcome' c_now_row' c_now_partners' c_now_share' c_now_leftOver' c_book_lines' c_history_next' c_history_held' c_history_rows' c_draws_x' c_draws_sort' c_draws_a' c_draws_b' c_draws_c' c_refused') H → va_D A (w_X7_years E a_ a_tape a_reader a_scripts a_now a_trial a_kept a_book a_keptBook a_history a_draws a_refused a_now_row a_now_partners a_now_share a_now_leftOver a_book_lines a_history_rows c_hasImage c_now_askedCount' c_now_outcome' c_now_row' c_now_partners' c_now_share' c_now_leftOver' c_book_lines' c_history_next' c_history_held' c_history_rows' c_draws_x' c_draws_sort' c_draws_a' c_draws_b' c_draws_c' c_refused') → va_S A s.heap H locs → lv_has ls 6 [(4, .int x4')] → W p l e ({ frames := 6, cells := 0, slots := 0, locals := 151 } : Room) s m #[Value.ref a_, Value.int p1, Value.long p2] below meth c H locs 0 0 Q (F0 m 105 ls []))) : ∀ (H : Heap) (locs : List Loc) (ls : Array Slot), va_P E.1 vwCl (w_X7_years E a_ a_tape a_reader a_scripts a_now a_trial a_kept a_book a_keptBook a_history a_draws a_refused a_now_row a_now_partners a_now_share a_now_leftOver a_book_lines a_history_rows c_hasImage c_now_askedCount c_now_outcome c_now_row c_now_partners c_now_share c_now_leftOver c_book_lines c_history_next c_history_held c_history_rows c_draws_x c_draws_sort c_draws_a c_draws_b c_draws_c c_refused) H → va_D A (w_X7_years E a_ a_tape a_reader a_scripts a_now a_trial a_kept a_book a_keptBook a_history a_draws a_refused a_now_row a_now_partners a_now_share a_now_leftOver a_book_lines a_history_rows c_hasImage c_now_askedCount c_now_outcome c_now_row c_now_partners c_now_share c_now_leftOver c_book_lines c_history_next c_history_held c_history_rows c_draws_x c_draws_sort c_draws_a c_draws_b c_draws_c c_refused) → va_S A s.heap H locs → lv_has ls 6 [(0, .ref a_), (1, .int p1), (4, .int x4), (5, .int x5)] → W p l e ({ frames := 6, cells := 0, slots := 0, locals := 151 } : Room) s m #[Value.ref a_, Value.int p1, Value.long p2] below meth c H locs 0 0 Q (F0 m 37 ls []) := by
  exact lp_rule (P := (fun u9 : Int32 × Int32 × (Nat → Int32) × (Nat → Int32) × Int32 × Int32 × (Nat → Int32) × (Nat → Int32) × (Nat → Int32) × (Nat → Int32) × Int32 × Int32 × Int64 × Int32 × Int32 × Int32 × Int32 × (Nat → Int32) => ∀ (H : Heap) (locs : List Loc) (ls : Array Slot), va_P E.1 vwCl (w_X7_years E a_ a_tape a_reader a_scripts a_now a_trial a_kept a_book a_keptBook a_history a_draws a_refused a_now_row a_now_partners a_now_share a_now_leftOver a_book_lines a_history_rows c_hasImage u9.2.2.2.2.1 u9.2.2.2.2.2.1 u9.2.2.1 u9.2.2.2.1 u9.2.2.2.2.2.2.1 u9.2.2.2.2.2.2.2.1 u9.2.2.2.2.2.2.2.2.1 u9.2.2.2.2.2.2.2.2.2.2.1 u9.2.2.2.2.2.2.2.2.2.2.2.1 u9.2.2.2.2.2.2.2.2.2.1 u9.2.2.2.2.2.2.2.2.2.2.2.2.1 u9.2.2.2.2.2.2.2.2.2.2.2.2.2.1 u9.2.2.2.2.2.2.2.2.2.2.2.2.2.2.1 u9.2.2.2.2.2.2.2.2.2.2.2.2.2.2.2.1 u9.2.2.2.2.2.2.2.2.2.2.2.2.2.2.2.2.1 u9.2.2.2.2.2.2.2.2.2.2.2.2.2.2.2.2.2) H → va_D A (w_X7_years E a_ a_tape a_reader a_scripts a_now a_trial a_kept a_book a_keptBook a_history a_draws a_refused a_now_row a_now_partners a_now_share a_now_leftOver a_book_lines a_history_rows c_hasImage u9.2.2.2.2.1 u9.2.2.2.2.2.1 u9.2.2.1 u9.2.2.2.1 u9.2.2.2.2.2.2.1 u9.2.2.2.2.2.2.2.1 u9.2.2.2.2.2.2.2.2.1 u9.2.2.2.2.2.2.2.2.2.2.1 u9.2.2.2.2.2.2.2.2.2.2.2.1 u9.2.2.2.2.2.2.2.2.2.1 u9.2.2.2.2.2.2.2.2.2.2.2.2.1 u9.2.2.2.2.2.2.2.2.2.2.2.2.2.1 u9.2.2.2.2.2.2.2.2.2.2.2.2.2.2.1 u9.2.2.2.2.2.2.2.2.2.2.2.2.2.2.2.1 u9.2.2.2.2.2.2.2.2.2.2.2.2.2.2.2.2.1 u9.2.2.2.2.2.2.2.2.2.2.2.2.2.2.2.2.2) → va_S A s.heap H locs → lv_has ls 6 [(0, .ref a_), (1, .int p1), (4, .int u9.1), (5, .int u9.2.1)] → W p l e ({ frames := 6, cells := 0, slots := 0, locals := 151 } : Room) s m #[Value.ref a_, Value.int p1, Value.long p2] below meth c H locs 0 0 Q (F0 m 37 ls []))) (R := (fun r9 : Int32 × (Nat → Int32) × (Nat → Int32) × Int32 × Int32 × (Nat → Int32) × (Nat → Int32) × (Nat → Int32) × (Nat → Int32) × Int32 × Int32 × Int64 × Int32 × Int32 × Int32 × Int32 × (Nat → Int32) => (∀ (H : Heap) (locs : List Loc) (ls : Array Slot), va_P E.1 vwCl (w_X7_years E a_ a_tape a_reader a_scripts a_now a_trial a_kept a_book a_keptBook a_history a_draws a_refused a_now_row a_now_partners a_now_share a_now_leftOver a_book_lines a_history_rows c_hasImage r9.2.2.2.1 r9.2.2.2.2.1 r9.2.1 r9.2.2.1 r9.2.2.2.2.2.1 r9.2.2.2.2.2.2.1 r9.2.2.2.2.2.2.2.1 r9.2.2.2.2.2.2.2.2.2.1 r9.2.2.2.2.2.2.2.2.2.2.1 r9.2.2.2.2.2.2.2.2.1 r9.2.2.2.2.2.2.2.2.2.2.2.1 r9.2.2.2.2.2.2.2.2.2.2.2.2.1 r9.2.2.2.2.2.2.2.2.2.2.2.2.2.1 r9.2.2.2.2.2.2.2.2.2.2.2.2.2.2.1 r9.2.2.2.2.2.2.2.2.2.2.2.2.2.2.2.1 r9.2.2.2.2.2.2.2.2.2.2.2.2.2.2.2.2) H → va_D A (w_X7_years E a_ a_tape a_reader a_scripts a_now a_trial a_kept a_book a_keptBook a_history a_draws a_refused a_now_row a_now_partners a_now_share a_now_leftOver a_book_lines a_history_rows c_hasImage r9.2.2.2.1 r9.2.2.2.2.1 r9.2.1 r9.2.2.1 r9.2.2.2.2.2.1 r9.2.2.2.2.2.2.1 r9.2.2.2.2.2.2.2.1 r9.2.2.2.2.2.2.2.2.2.1 r9.2.2.2.2.2.2.2.2.2.2.1 r9.2.2.2.2.2.2.2.2.1 r9.2.2.2.2.2.2.2.2.2.2.2.1 r9.2.2.2.2.2.2.2.2.2.2.2.2.1 r9.2.2.2.2.2.2.2.2.2.2.2.2.2.1 r9.2.2.2.2.2.2.2.2.2.2.2.2.2.2.1 r9.2.2.2.2.2.2.2.2.2.2.2.2.2.2.2.1 r9.2.2.2.2.2.2.2.2.2.2.2.2.2.2.2.2) → va_S A s.heap H locs → lv_has ls 6 [(4, .int r9.1)] → W p l e ({ frames := 6, cells := 0, slots := 0, locals := 151 } : Room) s m #[Value.ref a_, Value.int p1, Value.long p2] below meth c H locs 0 0 Q (F0 m 105 ls [])))) (fun u9 xx hF hC hE => wb_X7_years_37 l E K (p1 := p1) (p2 := p2) (c_hasImage := c_hasImage) (x4 := u9.1) (x5 := u9.2.1) (c_now_row := u9.2.2.1) (c_now_partners := u9.2.2.2.1) (c_now_askedCount := u9.2.2.2.2.1) (c_now_outcome := u9.2.2.2.2.2.1) (c_now_share := u9.2.2.2.2.2.2.1) (c_now_leftOver := u9.2.2.2.2.2.2.2.1) (c_book_lines := u9.2.2.2.2.2.2.2.2.1) (c_history_rows := u9.2.2.2.2.2.2.2.2.2.1) (c_history_next := u9.2.2.2.2.2.2.2.2.2.2.1) (c_history_held := u9.2.2.2.2.2.2.2.2.2.2.2.1) (c_draws_x := u9.2.2.2.2.2.2.2.2.2.2.2.2.1) (c_draws_sort := u9.2.2.2.2.2.2.2.2.2.2.2.2.2.1) (c_draws_a := u9.2.2.2.2.2.2.2.2.2.2.2.2.2.2.1) (c_draws_b := u9.2.2.2.2.2.2.2.2.2.2.2.2.2.2.2.1) (c_draws_c := u9.2.2.2.2.2.2.2.2.2.2.2.2.2.2.2.2.1) (c_refused := u9.2.2.2.2.2.2.2.2.2.2.2.2.2.2.2.2.2) hx hb hml hown hts hK hN hA (fun x4 x5 c_now_row c_now_partners c_now_askedCount c_now_outcome c_now_share c_now_leftOver c_book_lines c_history_rows c_history_next c_history_held c_draws_x c_draws_sort c_draws_a c_draws_b c_draws_c c_refused q9 => hC _ q9) (fun x4 c_now_row c_now_partners c_now_askedCount c_now_outcome c_now_share c_now_leftOver c_book_lines c_history_rows c_history_next c_history_held c_draws_x c_draws_sort c_draws_a c_draws_b c_draws_c c_refused q9 => hE _ q9) hF) j9 (x4, x5, c_now_row, c_now_partners, c_now_askedCount, c_now_outcome, c_now_share, c_now_leftOver, c_book_lines, c_history_rows, c_history_next, c_history_held, c_draws_x, c_draws_sort, c_draws_a, c_draws_b, c_draws_c, c_refused) (x4', c_now_row', c_now_partners', c_now_askedCount', c_now_outcome', c_now_share', c_now_leftOver', c_book_lines', c_history_rows', c_history_next', c_history_held', c_draws_x', c_draws_sort', c_draws_a', c_draws_b', c_draws_c', c_refused') hL hX

set_option maxHeartbeats 4000000 in
set_option maxRecDepth 100000 in
theorem f_X7_years (l : Launch) (E : EE) (sz : Nat) (K : Nat) {a_ a_tape a_reader a_scripts a_now a_trial a_kept a_book a_keptBook a_history a_draws a_refused a_now_row a_now_partners a_now_share a_now_leftOver a_book_lines a_history_rows : Nat} {p1 : Int32} {p2 : Int64} {c_hasImage : Int32} {c_now_askedCount : Int32} {c_now_outcome : Int32} {c_now_row : Nat → Int32} {c_now_partners : Nat → Int32} {c_now_share : Nat → Int32} {c_now_leftOver : Nat → Int32} {c_book_lines : Nat → Int32} {c_history_next : Int32} {c_history_held : Int32} {c_history_rows : Nat → Int32} {c_draws_x : Int64} {c_draws_sort : Int32} {c_draws_a : Int32} {c_draws_b : Int32} {c_draws_c : Int32} {c_refused : Nat → Int32} {rr : Int32} {n_now_row : Nat → Int32} {n_now_partners : Nat → Int32} {n_now_askedCount : Int32} {n_now_outcome : Int32} {n_now_share : Nat → Int32} {n_now_leftOver : Nat → Int32} {n_book_lines : Nat → Int32} {n_history_rows : Nat → Int32} {n_history_next : Int32} {n_history_held : Int32} {n_draws_x : Int64} {n_draws_sort : Int32} {n_draws_a : Int32} {n_draws_b : Int32} {n_draws_c : Int32} {n_refused : Nat → Int32} (hF : F_X7_years K p1 p2 c_now_row c_now_partners c_now_askedCount c_now_outcome c_now_share c_now_leftOver c_book_lines c_history_rows c_history_next c_history_held c_draws_x c_draws_sort c_draws_a c_draws_b c_draws_c c_refused = some (rr, n_now_row, n_now_partners, n_now_askedCount, n_now_outcome, n_now_share, n_now_leftOver, n_book_lines, n_history_rows, n_history_next, n_history_held, n_draws_x, n_draws_sort, n_draws_a, n_draws_b, n_draws_c, n_refused)) : Met l yX7_years v_f_X7_years (({ frames := 6, cells := 0, slots := 0, locals := 151 } : Room)) (va_Pc [.ref a_, .int p1, .long p2] (pW E sz (w_X7_years E a_ a_tape a_reader a_scripts a_now a_trial a_kept a_book a_keptBook a_history a_draws a_refused a_now_row a_now_partners a_now_share a_now_leftOver a_book_lines a_history_rows c_hasImage c_now_askedCount c_now_outcome c_now_row c_now_partners c_now_share c_now_leftOver c_book_lines c_history_next c_history_held c_history_rows c_draws_x c_draws_sort c_draws_a c_draws_b c_draws_c c_refused))) (va_Qi (fun (q : Int32) (_u : Unit) => q = rr) (fun (_u : Unit) tt => va_P E.1 vwCl (w_X7_years E a_ a_tape a_reader a_scripts a_now a_trial a_kept a_book a_keptBook a_history a_draws a_refused a_now_row a_now_partners a_now_share a_now_leftOver a_book_lines a_history_rows c_hasImage n_now_askedCount n_now_outcome n_now_row n_now_partners n_now_share n_now_leftOver n_book_lines n_history_next n_history_held n_history_rows n_draws_x n_draws_sort n_draws_a n_draws_b n_draws_c n_refused) tt.heap ∧ va_D (va_A (w_X7_years E a_ a_tape a_reader a_scripts a_now a_trial a_kept a_book a_keptBook a_history a_draws a_refused a_now_row a_now_partners a_now_share a_now_leftOver a_book_lines a_history_rows c_hasImage c_now_askedCount c_now_outcome c_now_row c_now_partners c_now_share c_now_leftOver c_book_lines c_history_next c_history_held c_history_rows c_draws_x c_draws_sort c_draws_a c_draws_b c_draws_c c_refused) sz) (w_X7_years E a_ a_tape a_reader a_scripts a_now a_trial a_kept a_book a_keptBook a_history a_draws a_refused a_now_row a_now_partners a_now_share a_now_leftOver a_book_lines a_history_rows c_hasImage n_now_askedCount n_now_outcome n_now_row n_now_partners n_now_share n_now_leftOver n_book_lines n_history_next n_history_held n_history_rows n_draws_x n_draws_sort n_draws_a n_draws_b n_draws_c n_refused)) (va_A (w_X7_years E a_ a_tape a_reader a_scripts a_now a_trial a_kept a_book a_keptBook a_history a_draws a_refused a_now_row a_now_partners a_now_share a_now_leftOver a_book_lines a_history_rows c_hasImage c_now_askedCount c_now_outcome c_now_row c_now_partners c_now_share c_now_leftOver c_book_lines c_history_next c_history_held c_history_rows c_draws_x c_draws_sort c_draws_a c_draws_b c_draws_c c_refused) sz)) 0 0 (va_A (w_X7_years E a_ a_tape a_reader a_scripts a_now a_trial a_kept a_book a_keptBook a_history a_draws a_refused a_now_row a_now_partners a_now_share a_now_leftOver a_book_lines a_history_rows c_hasImage c_now_askedCount c_now_outcome c_now_row c_now_partners c_now_share c_now_leftOver c_book_lines c_history_next c_history_held c_history_rows c_draws_x c_draws_sort c_draws_a c_draws_b c_draws_c c_refused) sz) := by
  refine Met.ofW (cc := cX7_years) (maxL := 6) (ret := (some .int)) (by decide) rfl ?_
  intro p e s m args below meth c s₁ B hml hv
  obtain ⟨rfl, hsz, ⟨hK, hN⟩, hP, hD0⟩ := hv
  have hx := B.exec
  have hb := B.bytes
  have hr := B.returns
  have hts := atoms_spec (ws := v_f_X7_years) B.pre
  have hown : s.vm.findClass RX7 = some m.cls := own_of hd_X7_years.1 (findClass_of_methodNamed B.named)
  have hlocks : meth.locks = false := B.notSynchronized
  subst hsz
  have hD := hD0.self (sz := s.heap.size)
  generalize hAe : va_A (w_X7_years E a_ a_tape a_reader a_scripts a_now a_trial a_kept a_book a_keptBook a_history a_draws a_refused a_now_row a_now_partners a_now_share a_now_leftOver a_book_lines a_history_rows c_hasImage c_now_askedCount c_now_outcome c_now_row c_now_partners c_now_share c_now_leftOver c_book_lines c_history_next c_history_held c_history_rows c_draws_x c_draws_sort c_draws_a c_draws_b c_draws_c c_refused) s.heap.size = A at hD ⊢
  have hA : ∀ q : Nat, s.heap.size ≤ q → A q := fun q h => by rw [← hAe]; exact Or.inr h
  have hS : va_S A s.heap s.heap [] := va_S.rf
  have hl := lv_entry ([.ref a_, .int p1, .long p2]) (n := 6) (Nat.le_of_ble_eq_true rfl)
  rw [lg_entry_eq]
  generalize (lg_sl ([.ref a_, .int p1, .long p2]) ++ List.replicate (6 - (lg_sl ([.ref a_, .int p1, .long p2])).length) Slot.unset).toArray = ls at hl ⊢
  have hl : lv_has ls 6 [(0, .ref a_), (1, .int p1), (2, .long p2)] := hl
  obtain ⟨Q, hQ⟩ : ∃ Q : State → Prop, Q = MQ below (va_Qi (fun (q : Int32) (_u : Unit) => q = rr) (fun (_u : Unit) tt => va_P E.1 vwCl (w_X7_years E a_ a_tape a_reader a_scripts a_now a_trial a_kept a_book a_keptBook a_history a_draws a_refused a_now_row a_now_partners a_now_share a_now_leftOver a_book_lines a_history_rows c_hasImage n_now_askedCount n_now_outcome n_now_row n_now_partners n_now_share n_now_leftOver n_book_lines n_history_next n_history_held n_history_rows n_draws_x n_draws_sort n_draws_a n_draws_b n_draws_c n_refused) tt.heap ∧ va_D A (w_X7_years E a_ a_tape a_reader a_scripts a_now a_trial a_kept a_book a_keptBook a_history a_draws a_refused a_now_row a_now_partners a_now_share a_now_leftOver a_book_lines a_history_rows c_hasImage n_now_askedCount n_now_outcome n_now_row n_now_partners n_now_share n_now_leftOver n_book_lines n_history_next n_history_held n_history_rows n_draws_x n_draws_sort n_draws_a n_draws_b n_draws_c n_refused)) A) #[Value.ref a_, Value.int p1, Value.long p2] s 0 0 A := ⟨_, rfl⟩
  rw [← hQ]
  change W p l e ({ frames := 6, cells := 0, slots := 0, locals := 151 } : Room) s m #[Value.ref a_, Value.int p1, Value.long p2] below meth c s.heap [] 0 0 Q (F0 m 0 ls [])
  suffices hh9 : ∀ (H : Heap) (locs : List Loc), va_P E.1 vwCl (w_X7_years E a_ a_tape a_reader a_scripts a_now a_trial a_kept a_book a_keptBook a_history a_draws a_refused a_now_row a_now_partners a_now_share a_now_leftOver a_book_lines a_history_rows c_hasImage c_now_askedCount c_now_outcome c_now_row c_now_partners c_now_share c_now_leftOver c_book_lines c_history_next c_history_held c_history_rows c_draws_x c_draws_sort c_draws_a c_draws_b c_draws_c c_refused) H → va_D A (w_X7_years E a_ a_tape a_reader a_scripts a_now a_trial a_kept a_book a_keptBook a_history a_draws a_refused a_now_row a_now_partners a_now_share a_now_leftOver a_book_lines a_history_rows c_hasImage c_now_askedCount c_now_outcome c_now_row c_now_partners c_now_share c_now_leftOver c_book_lines c_history_next c_history_held c_history_rows c_draws_x c_draws_sort c_draws_a c_draws_b c_draws_c c_refused) → va_S A s.heap H locs → W p l e ({ frames := 6, cells := 0, slots := 0, locals := 151 } : Room) s m #[Value.ref a_, Value.int p1, Value.long p2] below meth c H locs 0 0 Q (F0 m 0 ls []) from hh9 s.heap [] hP hD hS
  clear hP hD hS
  intro H locs hP hD hS
  have h9 := fixPD (ws' := [k_X7 a_ a_tape a_reader a_scripts a_now a_trial a_kept a_book a_keptBook a_history a_draws a_refused c_hasImage, k_X5 a_now a_now_row a_now_partners c_now_askedCount c_now_outcome a_now_share a_now_leftOver, k_I E a_now_row 81 c_now_row, k_I E a_now_partners 8 c_now_partners, k_I E a_now_share 2 c_now_share, k_I E a_now_leftOver 2 c_now_leftOver, k_X0 a_book a_book_lines, k_I E a_book_lines 300 c_book_lines, k_X2 a_history a_history_rows c_history_next c_history_held, k_I E a_history_rows 3240 c_history_rows, k_X1 a_draws c_draws_x c_draws_sort c_draws_a c_draws_b c_draws_c, k_I E a_refused 3 c_refused]) hP hD rfl
  clear hP hD
  obtain ⟨hP, hD⟩ := h9
  unfold F_X7_years at hF
  refine lv_aload_n hx hb (dq_42 0 bcX7_years_0 (j := 0) rfl rfl) rfl (lv_at hl 0 rfl) ?_
  refine gt_X7_3 (v := .ref a_now) hx hb hts i_f_X7_years_X7 hown hK hP 0 rfl (hts (.fieldLink RX7 35 "HushWatch" "now" "LHushWatch$State;") (List.mem_of_getElem? (i := 1) rfl)) rfl (dq_180 0 bcX7_years_0 (j := 1) (i := 35) rfl rfl rfl) ?_
  replace hF := bd1_s hF
  obtain ⟨r_1, hc_2, hF⟩ := hF
  have hPc : va_P E.1 vwCl (w_X5_stands E a_now a_now_row a_now_partners a_now_share a_now_leftOver c_now_askedCount c_now_outcome c_now_row) H := hP.sub (ws' := [k_X5 a_now a_now_row a_now_partners c_now_askedCount c_now_outcome a_now_share a_now_leftOver, k_I E a_now_row 81 c_now_row]) [1, 2] rfl
  have hrc := va_recv hK hPc (ci := 6) (q0 := 0) rfl rfl
  refine pE_z (va_runV (As := []) (rest := [])  ⟨hx, hb, hml, hown, hts⟩ (f_X5_stands l E (a_ := a_now) (a_row := a_now_row) (a_partners := a_now_partners) (a_share := a_now_share) (a_leftOver := a_now_leftOver) (c_askedCount := c_now_askedCount) (c_outcome := c_now_outcome) (c_row := c_now_row) hc_2) (cwV 0 hts g_f_X7_years_f_X5_stands_110 rfl rfl rfl hd_X5_stands ⟨Nat.le_of_ble_eq_true rfl, Nat.le_of_ble_eq_true rfl⟩) ⟨pP.blind, hrc, (pP.pre ⟨hK, hN⟩ hPc)⟩ rfl rfl hl.1 rfl (lv_room (Nat.le_of_ble_eq_true rfl)) (dq_182 0 bcX7_years_0 (j := 4) (i := 110) rfl rfl rfl) ⟨Nat.le_of_ble_eq_true rfl, Nat.le_of_ble_eq_true rfl⟩) (fun hb_3 => ?_)
  refine lv_if_eq (tgt := 21) hx hb (dq_153 0 bcX7_years_0 (j := 7) (i := 14) rfl rfl rfl) (by decide) (fun c_4 => ?_) (fun c_4 => ?_)
  ·
    replace hF := ip c_4 hF
    refine lv_iconst (v := -1) hx hb (dq_2 0 bcX7_years_0 (j := 21) rfl rfl) (by decide) ?_
    rw [hQ]
    have h9 := fin9 (P := fun u9 : Int32 × (Nat → Int32) × (Nat → Int32) × Int32 × Int32 × (Nat → Int32) × (Nat → Int32) × (Nat → Int32) × (Nat → Int32) × Int32 × Int32 × Int64 × Int32 × Int32 × Int32 × Int32 × (Nat → Int32) => (-1 : Int32) = u9.1 ∧ va_P E.1 vwCl (w_X7_years E a_ a_tape a_reader a_scripts a_now a_trial a_kept a_book a_keptBook a_history a_draws a_refused a_now_row a_now_partners a_now_share a_now_leftOver a_book_lines a_history_rows c_hasImage u9.2.2.2.1 u9.2.2.2.2.1 u9.2.1 u9.2.2.1 u9.2.2.2.2.2.1 u9.2.2.2.2.2.2.1 u9.2.2.2.2.2.2.2.1 u9.2.2.2.2.2.2.2.2.2.1 u9.2.2.2.2.2.2.2.2.2.2.1 u9.2.2.2.2.2.2.2.2.1 u9.2.2.2.2.2.2.2.2.2.2.2.1 u9.2.2.2.2.2.2.2.2.2.2.2.2.1 u9.2.2.2.2.2.2.2.2.2.2.2.2.2.1 u9.2.2.2.2.2.2.2.2.2.2.2.2.2.2.1 u9.2.2.2.2.2.2.2.2.2.2.2.2.2.2.2.1 u9.2.2.2.2.2.2.2.2.2.2.2.2.2.2.2.2) H ∧ va_D A (w_X7_years E a_ a_tape a_reader a_scripts a_now a_trial a_kept a_book a_keptBook a_history a_draws a_refused a_now_row a_now_partners a_now_share a_now_leftOver a_book_lines a_history_rows c_hasImage u9.2.2.2.1 u9.2.2.2.2.1 u9.2.1 u9.2.2.1 u9.2.2.2.2.2.1 u9.2.2.2.2.2.2.1 u9.2.2.2.2.2.2.2.1 u9.2.2.2.2.2.2.2.2.2.1 u9.2.2.2.2.2.2.2.2.2.2.1 u9.2.2.2.2.2.2.2.2.1 u9.2.2.2.2.2.2.2.2.2.2.2.1 u9.2.2.2.2.2.2.2.2.2.2.2.2.1 u9.2.2.2.2.2.2.2.2.2.2.2.2.2.1 u9.2.2.2.2.2.2.2.2.2.2.2.2.2.2.1 u9.2.2.2.2.2.2.2.2.2.2.2.2.2.2.2.1 u9.2.2.2.2.2.2.2.2.2.2.2.2.2.2.2.2)) hF ⟨rfl, hP, hD⟩
    obtain ⟨e9_0, hP9, hD9⟩ := h9
    exact W.iret (v := (-1 : Int32)) hx hb hr (fun tt ht hW => ⟨⟨_, (), rfl, e9_0, ht ▸ hP9, hD9⟩, hS.F ht⟩) hS.2.2 (dq_172 0 bcX7_years_0 (j := 22) rfl rfl)
  ·
    replace hF := inn c_4 hF
    refine lv_iload_n hx hb (dq_27 0 bcX7_years_0 (j := 10) rfl rfl) rfl (lv_at hl 1 rfl) ?_
    refine lv_iconst (v := 1) hx hb (dq_4 0 bcX7_years_0 (j := 11) rfl rfl) (by decide) ?_
    refine lv_icmp_lt (tgt := 21) hx hb (dq_161 0 bcX7_years_0 (j := 12) (i := 9) rfl rfl rfl) (by decide) (fun c_5 => ?_) (fun c_5 => ?_)
    ·
      replace hF := ip c_5 hF
      refine lv_iconst (v := -1) hx hb (dq_2 0 bcX7_years_0 (j := 21) rfl rfl) (by decide) ?_
      rw [hQ]
      have h9 := fin9 (P := fun u9 : Int32 × (Nat → Int32) × (Nat → Int32) × Int32 × Int32 × (Nat → Int32) × (Nat → Int32) × (Nat → Int32) × (Nat → Int32) × Int32 × Int32 × Int64 × Int32 × Int32 × Int32 × Int32 × (Nat → Int32) => (-1 : Int32) = u9.1 ∧ va_P E.1 vwCl (w_X7_years E a_ a_tape a_reader a_scripts a_now a_trial a_kept a_book a_keptBook a_history a_draws a_refused a_now_row a_now_partners a_now_share a_now_leftOver a_book_lines a_history_rows c_hasImage u9.2.2.2.1 u9.2.2.2.2.1 u9.2.1 u9.2.2.1 u9.2.2.2.2.2.1 u9.2.2.2.2.2.2.1 u9.2.2.2.2.2.2.2.1 u9.2.2.2.2.2.2.2.2.2.1 u9.2.2.2.2.2.2.2.2.2.2.1 u9.2.2.2.2.2.2.2.2.1 u9.2.2.2.2.2.2.2.2.2.2.2.1 u9.2.2.2.2.2.2.2.2.2.2.2.2.1 u9.2.2.2.2.2.2.2.2.2.2.2.2.2.1 u9.2.2.2.2.2.2.2.2.2.2.2.2.2.2.1 u9.2.2.2.2.2.2.2.2.2.2.2.2.2.2.2.1 u9.2.2.2.2.2.2.2.2.2.2.2.2.2.2.2.2) H ∧ va_D A (w_X7_years E a_ a_tape a_reader a_scripts a_now a_trial a_kept a_book a_keptBook a_history a_draws a_refused a_now_row a_now_partners a_now_share a_now_leftOver a_book_lines a_history_rows c_hasImage u9.2.2.2.1 u9.2.2.2.2.1 u9.2.1 u9.2.2.1 u9.2.2.2.2.2.1 u9.2.2.2.2.2.2.1 u9.2.2.2.2.2.2.2.1 u9.2.2.2.2.2.2.2.2.2.1 u9.2.2.2.2.2.2.2.2.2.2.1 u9.2.2.2.2.2.2.2.2.1 u9.2.2.2.2.2.2.2.2.2.2.2.1 u9.2.2.2.2.2.2.2.2.2.2.2.2.1 u9.2.2.2.2.2.2.2.2.2.2.2.2.2.1 u9.2.2.2.2.2.2.2.2.2.2.2.2.2.2.1 u9.2.2.2.2.2.2.2.2.2.2.2.2.2.2.2.1 u9.2.2.2.2.2.2.2.2.2.2.2.2.2.2.2.2)) hF ⟨rfl, hP, hD⟩
      obtain ⟨e9_0, hP9, hD9⟩ := h9
      exact W.iret (v := (-1 : Int32)) hx hb hr (fun tt ht hW => ⟨⟨_, (), rfl, e9_0, ht ▸ hP9, hD9⟩, hS.F ht⟩) hS.2.2 (dq_172 0 bcX7_years_0 (j := 22) rfl rfl)
    ·
      replace hF := inn c_5 hF
      refine lv_iload_n hx hb (dq_27 0 bcX7_years_0 (j := 15) rfl rfl) rfl (lv_at hl 1 rfl) ?_
      refine lv_bipush (v := 40) hx hb (dq_16 0 bcX7_years_0 (j := 16) (i := 40) rfl rfl rfl) (by decide) ?_
      refine lv_icmp_le (tgt := 23) hx hb (dq_164 0 bcX7_years_0 (j := 18) (i := 5) rfl rfl rfl) (by decide) (fun c_6 => ?_) (fun c_6 => ?_)
      ·
        replace hF := ip c_6 hF
        refine lv_aload_n hx hb (dq_42 0 bcX7_years_0 (j := 23) rfl rfl) rfl (lv_at hl 0 rfl) ?_
        refine gt_X7_9 (v := .ref a_draws) hx hb hts i_f_X7_years_X7 hown hK hP 0 rfl (hts (.fieldLink RX7 65 "HushWatch" "draws" "LHushWatch$Draws;") (List.mem_of_getElem? (i := 2) rfl)) rfl (dq_180 0 bcX7_years_0 (j := 24) (i := 65) rfl rfl rfl) ?_
        refine lv_lload_n hx hb (dq_32 0 bcX7_years_0 (j := 27) rfl rfl) rfl (lv_at hl 2 rfl) ?_
        refine va_putN (D := E.1) (ci := 2) (v := .long p2) (ty := .long) (C := RX1) (T := TX1) (N := 5) hx hb hts i_f_X7_years_X1 tyX1 tyX1_ok nmX1 hown hK hP hD hS 10 rfl rfl 0 (by decide) (nx hN 20 rfl) (fun _ h9 => h9) rfl (by decide +kernel) rfl rfl (Nat.le_of_ble_eq_true rfl) (dq_181 0 bcX7_years_0 (j := 28) (i := 173) rfl rfl rfl) (fun H locs hP hD hS => ?_)
        have h9 := fixPD (ws' := [k_X7 a_ a_tape a_reader a_scripts a_now a_trial a_kept a_book a_keptBook a_history a_draws a_refused c_hasImage, k_X5 a_now a_now_row a_now_partners c_now_askedCount c_now_outcome a_now_share a_now_leftOver, k_I E a_now_row 81 c_now_row, k_I E a_now_partners 8 c_now_partners, k_I E a_now_share 2 c_now_share, k_I E a_now_leftOver 2 c_now_leftOver, k_X0 a_book a_book_lines, k_I E a_book_lines 300 c_book_lines, k_X2 a_history a_history_rows c_history_next c_history_held, k_I E a_history_rows 3240 c_history_rows, k_X1 a_draws p2 c_draws_sort c_draws_a c_draws_b c_draws_c, k_I E a_refused 3 c_refused]) hP hD rfl
        clear hP hD
        obtain ⟨hP, hD⟩ := h9
        refine lv_iconst (v := 0) hx hb (dq_3 0 bcX7_years_0 (j := 31) rfl rfl) (by decide) ?_
        refine lv_istore (lv' := [(4, .int (0 : Int32)), (0, .ref a_), (1, .int p1), (2, .long p2)]) hx hb (dq_54 0 bcX7_years_0 (j := 32) (i := 4) rfl rfl) hl (by decide) rfl (fun ls hl => ?_)
        refine lv_iconst (v := 0) hx hb (dq_3 0 bcX7_years_0 (j := 34) rfl rfl) (by decide) ?_
        refine lv_istore (lv' := [(5, .int (0 : Int32)), (4, .int (0 : Int32)), (0, .ref a_), (1, .int p1), (2, .long p2)]) hx hb (dq_54 0 bcX7_years_0 (j := 35) (i := 5) rfl rfl) hl (by decide) rfl (fun ls hl => ?_)
        replace hF := bd17_s hF
        obtain ⟨x4_29, c_now_row_30, c_now_partners_31, c_now_askedCount_32, c_now_outcome_33, c_now_share_34, c_now_leftOver_35, c_book_lines_36, c_history_rows_37, c_history_next_38, c_history_held_39, c_draws_x_40, c_draws_sort_41, c_draws_a_42, c_draws_b_43, c_draws_c_44, c_refused_45, hL_46, hF⟩ := hF
        refine lw_X7_years_37 l E K (p1 := p1) (p2 := p2) (c_hasImage := c_hasImage) hx hb hml hown hts hK hN hA K (0 : Int32) (0 : Int32) c_now_row c_now_partners c_now_askedCount c_now_outcome c_now_share c_now_leftOver c_book_lines c_history_rows c_history_next c_history_held p2 c_draws_sort c_draws_a c_draws_b c_draws_c c_refused x4_29 c_now_row_30 c_now_partners_31 c_now_askedCount_32 c_now_outcome_33 c_now_share_34 c_now_leftOver_35 c_book_lines_36 c_history_rows_37 c_history_next_38 c_history_held_39 c_draws_x_40 c_draws_sort_41 c_draws_a_42 c_draws_b_43 c_draws_c_44 c_refused_45 hL_46 ?_ H locs ls (hP.sub [0, 1, 2, 3, 4, 5, 6, 7, 8, 9, 10, 11] rfl) (hD.sub [0, 1, 2, 3, 4, 5, 6, 7, 8, 9, 10, 11] (by decide) rfl) hS (lv_sub hl [2, 3, 1, 0] rfl)
        ·
          intro H locs ls hP hD hS hl
          have h9 := fixPD (ws' := [k_X7 a_ a_tape a_reader a_scripts a_now a_trial a_kept a_book a_keptBook a_history a_draws a_refused c_hasImage, k_X5 a_now a_now_row a_now_partners c_now_askedCount_32 c_now_outcome_33 a_now_share a_now_leftOver, k_I E a_now_row 81 c_now_row_30, k_I E a_now_partners 8 c_now_partners_31, k_I E a_now_share 2 c_now_share_34, k_I E a_now_leftOver 2 c_now_leftOver_35, k_X0 a_book a_book_lines, k_I E a_book_lines 300 c_book_lines_36, k_X2 a_history a_history_rows c_history_next_38 c_history_held_39, k_I E a_history_rows 3240 c_history_rows_37, k_X1 a_draws c_draws_x_40 c_draws_sort_41 c_draws_a_42 c_draws_b_43 c_draws_c_44, k_I E a_refused 3 c_refused_45]) hP hD rfl
          clear hP hD
          obtain ⟨hP, hD⟩ := h9
          refine lv_iload hx hb (dq_21 96 bcX7_years_2 (j := 9) (i := 4) rfl rfl) (lv_at hl 0 rfl) ?_
          rw [hQ]
          have h9 := fin9 (P := fun u9 : Int32 × (Nat → Int32) × (Nat → Int32) × Int32 × Int32 × (Nat → Int32) × (Nat → Int32) × (Nat → Int32) × (Nat → Int32) × Int32 × Int32 × Int64 × Int32 × Int32 × Int32 × Int32 × (Nat → Int32) => x4_29 = u9.1 ∧ va_P E.1 vwCl (w_X7_years E a_ a_tape a_reader a_scripts a_now a_trial a_kept a_book a_keptBook a_history a_draws a_refused a_now_row a_now_partners a_now_share a_now_leftOver a_book_lines a_history_rows c_hasImage u9.2.2.2.1 u9.2.2.2.2.1 u9.2.1 u9.2.2.1 u9.2.2.2.2.2.1 u9.2.2.2.2.2.2.1 u9.2.2.2.2.2.2.2.1 u9.2.2.2.2.2.2.2.2.2.1 u9.2.2.2.2.2.2.2.2.2.2.1 u9.2.2.2.2.2.2.2.2.1 u9.2.2.2.2.2.2.2.2.2.2.2.1 u9.2.2.2.2.2.2.2.2.2.2.2.2.1 u9.2.2.2.2.2.2.2.2.2.2.2.2.2.1 u9.2.2.2.2.2.2.2.2.2.2.2.2.2.2.1 u9.2.2.2.2.2.2.2.2.2.2.2.2.2.2.2.1 u9.2.2.2.2.2.2.2.2.2.2.2.2.2.2.2.2) H ∧ va_D A (w_X7_years E a_ a_tape a_reader a_scripts a_now a_trial a_kept a_book a_keptBook a_history a_draws a_refused a_now_row a_now_partners a_now_share a_now_leftOver a_book_lines a_history_rows c_hasImage u9.2.2.2.1 u9.2.2.2.2.1 u9.2.1 u9.2.2.1 u9.2.2.2.2.2.1 u9.2.2.2.2.2.2.1 u9.2.2.2.2.2.2.2.1 u9.2.2.2.2.2.2.2.2.2.1 u9.2.2.2.2.2.2.2.2.2.2.1 u9.2.2.2.2.2.2.2.2.1 u9.2.2.2.2.2.2.2.2.2.2.2.1 u9.2.2.2.2.2.2.2.2.2.2.2.2.1 u9.2.2.2.2.2.2.2.2.2.2.2.2.2.1 u9.2.2.2.2.2.2.2.2.2.2.2.2.2.2.1 u9.2.2.2.2.2.2.2.2.2.2.2.2.2.2.2.1 u9.2.2.2.2.2.2.2.2.2.2.2.2.2.2.2.2)) hF ⟨rfl, hP, hD⟩
          obtain ⟨e9_0, hP9, hD9⟩ := h9
          exact W.iret (v := x4_29) hx hb hr (fun tt ht hW => ⟨⟨_, (), rfl, e9_0, ht ▸ hP9, hD9⟩, hS.F ht⟩) hS.2.2 (dq_172 96 bcX7_years_2 (j := 11) rfl rfl)
      ·
        replace hF := inn c_6 hF
        refine lv_iconst (v := -1) hx hb (dq_2 0 bcX7_years_0 (j := 21) rfl rfl) (by decide) ?_
        rw [hQ]
        have h9 := fin9 (P := fun u9 : Int32 × (Nat → Int32) × (Nat → Int32) × Int32 × Int32 × (Nat → Int32) × (Nat → Int32) × (Nat → Int32) × (Nat → Int32) × Int32 × Int32 × Int64 × Int32 × Int32 × Int32 × Int32 × (Nat → Int32) => (-1 : Int32) = u9.1 ∧ va_P E.1 vwCl (w_X7_years E a_ a_tape a_reader a_scripts a_now a_trial a_kept a_book a_keptBook a_history a_draws a_refused a_now_row a_now_partners a_now_share a_now_leftOver a_book_lines a_history_rows c_hasImage u9.2.2.2.1 u9.2.2.2.2.1 u9.2.1 u9.2.2.1 u9.2.2.2.2.2.1 u9.2.2.2.2.2.2.1 u9.2.2.2.2.2.2.2.1 u9.2.2.2.2.2.2.2.2.2.1 u9.2.2.2.2.2.2.2.2.2.2.1 u9.2.2.2.2.2.2.2.2.1 u9.2.2.2.2.2.2.2.2.2.2.2.1 u9.2.2.2.2.2.2.2.2.2.2.2.2.1 u9.2.2.2.2.2.2.2.2.2.2.2.2.2.1 u9.2.2.2.2.2.2.2.2.2.2.2.2.2.2.1 u9.2.2.2.2.2.2.2.2.2.2.2.2.2.2.2.1 u9.2.2.2.2.2.2.2.2.2.2.2.2.2.2.2.2) H ∧ va_D A (w_X7_years E a_ a_tape a_reader a_scripts a_now a_trial a_kept a_book a_keptBook a_history a_draws a_refused a_now_row a_now_partners a_now_share a_now_leftOver a_book_lines a_history_rows c_hasImage u9.2.2.2.1 u9.2.2.2.2.1 u9.2.1 u9.2.2.1 u9.2.2.2.2.2.1 u9.2.2.2.2.2.2.1 u9.2.2.2.2.2.2.2.1 u9.2.2.2.2.2.2.2.2.2.1 u9.2.2.2.2.2.2.2.2.2.2.1 u9.2.2.2.2.2.2.2.2.1 u9.2.2.2.2.2.2.2.2.2.2.2.1 u9.2.2.2.2.2.2.2.2.2.2.2.2.1 u9.2.2.2.2.2.2.2.2.2.2.2.2.2.1 u9.2.2.2.2.2.2.2.2.2.2.2.2.2.2.1 u9.2.2.2.2.2.2.2.2.2.2.2.2.2.2.2.1 u9.2.2.2.2.2.2.2.2.2.2.2.2.2.2.2.2)) hF ⟨rfl, hP, hD⟩
        obtain ⟨e9_0, hP9, hD9⟩ := h9
        exact W.iret (v := (-1 : Int32)) hx hb hr (fun tt ht hW => ⟨⟨_, (), rfl, e9_0, ht ▸ hP9, hD9⟩, hS.F ht⟩) hS.2.2 (dq_172 0 bcX7_years_0 (j := 22) rfl rfl)
end
-- 50.px
section
/-! the functions' own arithmetic: what the combinators are at known values, loops by their steps -/
theorem xb1 {t0 β : Type} {a0 : t0} {f : t0 → Option β} : bd1 (some a0) f = f a0 := rfl
theorem xb2 {t0 t1 β : Type} {a0 : t0} {a1 : t1} {f : t0 → t1 → Option β} : bd2 (some (a0, a1)) f = f a0 a1 := rfl
theorem xb3 {t0 t1 t2 β : Type} {a0 : t0} {a1 : t1} {a2 : t2} {f : t0 → t1 → t2 → Option β} : bd3 (some (a0, a1, a2)) f = f a0 a1 a2 := rfl
theorem xb4 {t0 t1 t2 t3 β : Type} {a0 : t0} {a1 : t1} {a2 : t2} {a3 : t3} {f : t0 → t1 → t2 → t3 → Option β} : bd4 (some (a0, a1, a2, a3)) f = f a0 a1 a2 a3 := rfl
theorem xb5 {t0 t1 t2 t3 t4 β : Type} {a0 : t0} {a1 : t1} {a2 : t2} {a3 : t3} {a4 : t4} {f : t0 → t1 → t2 → t3 → t4 → Option β} : bd5 (some (a0, a1, a2, a3, a4)) f = f a0 a1 a2 a3 a4 := rfl
theorem xb6 {t0 t1 t2 t3 t4 t5 β : Type} {a0 : t0} {a1 : t1} {a2 : t2} {a3 : t3} {a4 : t4} {a5 : t5} {f : t0 → t1 → t2 → t3 → t4 → t5 → Option β} : bd6 (some (a0, a1, a2, a3, a4, a5)) f = f a0 a1 a2 a3 a4 a5 := rfl
theorem xb7 {t0 t1 t2 t3 t4 t5 t6 β : Type} {a0 : t0} {a1 : t1} {a2 : t2} {a3 : t3} {a4 : t4} {a5 : t5} {a6 : t6} {f : t0 → t1 → t2 → t3 → t4 → t5 → t6 → Option β} : bd7 (some (a0, a1, a2, a3, a4, a5, a6)) f = f a0 a1 a2 a3 a4 a5 a6 := rfl
theorem xb8 {t0 t1 t2 t3 t4 t5 t6 t7 β : Type} {a0 : t0} {a1 : t1} {a2 : t2} {a3 : t3} {a4 : t4} {a5 : t5} {a6 : t6} {a7 : t7} {f : t0 → t1 → t2 → t3 → t4 → t5 → t6 → t7 → Option β} : bd8 (some (a0, a1, a2, a3, a4, a5, a6, a7)) f = f a0 a1 a2 a3 a4 a5 a6 a7 := rfl
theorem xb9 {t0 t1 t2 t3 t4 t5 t6 t7 t8 β : Type} {a0 : t0} {a1 : t1} {a2 : t2} {a3 : t3} {a4 : t4} {a5 : t5} {a6 : t6} {a7 : t7} {a8 : t8} {f : t0 → t1 → t2 → t3 → t4 → t5 → t6 → t7 → t8 → Option β} : bd9 (some (a0, a1, a2, a3, a4, a5, a6, a7, a8)) f = f a0 a1 a2 a3 a4 a5 a6 a7 a8 := rfl
theorem xnm {α β : Type} {x : α} {g : α → Option β} : nmF x g = g x := rfl
theorem xix {α : Type} {i : Int32} {n : Nat} {g : Option α} (h : vp_in i n) : ixF i n g = g := by unfold ixF; exact if_neg h
theorem xixn {α : Type} {i n : Nat} {g : Option α} (hi : i < n) (hn : n < 2 ^ 31) : ixF (nI i) n g = g := xix (nI_in hi hn)
theorem xlt {α : Type} {i n : Nat} {g : Option α} (hi : i < n) : ltF i n g = g := by unfold ltF; exact if_pos hi
theorem lp_one {σ ρ : Type} {b : σ → Option (σ ⊕ ρ)} {u u' : σ} {j : Nat} (h : b u = some (.inl u')) : lpF b (j + 1) u = lpF b j u' := by
  show (match b u with | none => none | some (.inl u') => lpF b j u' | some (.inr r) => some r) = _
  rw [h]
theorem lp_end {σ ρ : Type} {b : σ → Option (σ ⊕ ρ)} {u : σ} {r : ρ} {j : Nat} (h : b u = some (.inr r)) : lpF b (j + 1) u = some r := by
  show (match b u with | none => none | some (.inl u') => lpF b j u' | some (.inr r) => some r) = _
  rw [h]
theorem lp_forA {σ ρ : Type} {b : σ → Option (σ ⊕ ρ)} {S : Nat → σ} {n : Nat} {r : ρ} (hs : ∀ i, i < n → b (S i) = some (.inl (S (i + 1)))) (he : b (S n) = some (.inr r)) : ∀ (k i K : Nat), i + k = n → k < K → lpF b K (S i) = some r := by
  intro k
  induction k with
  | zero =>
    intro i K h1 h2
    obtain ⟨K', rfl⟩ : ∃ K', K = K' + 1 := ⟨K - 1, by omega⟩
    obtain rfl : i = n := by omega
    exact lp_end he
  | succ k ih =>
    intro i K h1 h2
    obtain ⟨K', rfl⟩ : ∃ K', K = K' + 1 := ⟨K - 1, by omega⟩
    rw [lp_one (hs i (by omega))]
    exact ih (i + 1) K' (by omega) (by omega)
theorem lp_for {σ ρ : Type} {b : σ → Option (σ ⊕ ρ)} (S : Nat → σ) {n : Nat} {r : ρ} {K : Nat} (hK : n < K) (hs : ∀ i, i < n → b (S i) = some (.inl (S (i + 1)))) (he : b (S n) = some (.inr r)) : lpF b K (S 0) = some r := lp_forA hs he n 0 K (by omega) hK
/-- a loop that keeps something and whose measure falls ends, and what it keeps holds at its end -/
theorem lp_tot {σ ρ : Type} {b : σ → Option (σ ⊕ ρ)} (I : Nat → σ → Prop) (R : ρ → Prop) (h : ∀ k u, I k u → ∃ x, b u = some x ∧ (∀ u', x = .inl u' → ∃ k', k' < k ∧ I k' u') ∧ (∀ r, x = .inr r → R r)) : ∀ (K k : Nat) (u : σ), k < K → I k u → ∃ r, lpF b K u = some r ∧ R r := by
  intro K
  induction K with
  | zero => intro k u h1; omega
  | succ K ih =>
    intro k u h1 h2
    obtain ⟨x, hx, ha, hb⟩ := h k u h2
    cases x with
    | inl u' =>
      obtain ⟨k', hk', hI⟩ := ha u' rfl
      rw [lp_one hx]
      exact ih k' u' (by omega) hI
    | inr r =>
      rw [lp_end hx]
      exact ⟨r, rfl, hb r rfl⟩
/-- numbers of the program that are naturals -/
theorem ple {a b : Nat} (ha : a < 2 ^ 31) (hb : b < 2 ^ 31) : (nI a ≤ nI b) = (a ≤ b) := propext (nI_leI ha hb)
theorem plt {a b : Nat} (ha : a < 2 ^ 31) (hb : b < 2 ^ 31) : (nI a < nI b) = (a < b) := propext (nI_ltI ha hb)
theorem peq {a b : Nat} (ha : a < 2 ^ 31) (hb : b < 2 ^ 31) : (nI a = nI b) = (a = b) := propext (nI_eq ha hb)
theorem xle {α : Type} {a b : Nat} {x y : α} {d : Decidable (nI a ≤ nI b)} (ha : a < 2 ^ 31) (hb : b < 2 ^ 31) : (@ite α (nI a ≤ nI b) d x y) = (if a ≤ b then x else y) := by
  by_cases q : a ≤ b
  · rw [if_pos q, if_pos ((nI_leI ha hb).mpr q)]
  · rw [if_neg q, if_neg (fun z => q ((nI_leI ha hb).mp z))]
theorem xltn {α : Type} {a b : Nat} {x y : α} {d : Decidable (nI a < nI b)} (ha : a < 2 ^ 31) (hb : b < 2 ^ 31) : (@ite α (nI a < nI b) d x y) = (if a < b then x else y) := by
  by_cases q : a < b
  · rw [if_pos q, if_pos ((nI_ltI ha hb).mpr q)]
  · rw [if_neg q, if_neg (fun z => q ((nI_ltI ha hb).mp z))]
theorem xeq {α : Type} {a b : Nat} {x y : α} {d : Decidable (nI a = nI b)} (ha : a < 2 ^ 31) (hb : b < 2 ^ 31) : (@ite α (nI a = nI b) d x y) = (if a = b then x else y) := by
  by_cases q : a = b
  · rw [if_pos q, if_pos ((nI_eq ha hb).mpr q)]
  · rw [if_neg q, if_neg (fun z => q ((nI_eq ha hb).mp z))]
theorem xsub {a b : Nat} (h : b ≤ a) : nI a - nI b = nI (a - b) := by
  have e : nI a = nI (a - b) + nI b := by rw [nI_add]; congr 1; omega
  rw [e]
  exact Int32.add_sub_cancel _ _
theorem upd_at {f : Nat → Int32} {i : Nat} {x : Int32} : upd f i x i = x := by unfold upd; exact if_pos rfl
/-- where p ends, from a on, seen with k looks -/
def scF (p : Nat → Bool) : Nat → Nat → Nat
  | 0, a => a
  | k + 1, a => if p a = true then scF p k (a + 1) else a
def sc (p : Nat → Bool) (n a : Nat) : Nat := scF p (n - a) a
theorem sc_no {p : Nat → Bool} {n a : Nat} (h : p a = false) : sc p n a = a := by
  unfold sc
  cases n - a with
  | zero => rfl
  | succ k => show (if p a = true then scF p k (a + 1) else a) = a; rw [h]; rfl
theorem sc_yes {p : Nat → Bool} {n a : Nat} (ha : a < n) (h : p a = true) : sc p n a = sc p n (a + 1) := by
  unfold sc
  rw [show n - a = (n - (a + 1)) + 1 by omega]
  show (if p a = true then scF p (n - (a + 1)) (a + 1) else a) = _
  rw [if_pos h]
theorem sc_spec {p : Nat → Bool} {n : Nat} (hp : ∀ i, n ≤ i → p i = false) : ∀ (k a : Nat), n - a ≤ k → a ≤ n → a ≤ sc p n a ∧ sc p n a ≤ n ∧ p (sc p n a) = false ∧ ∀ i, a ≤ i → i < sc p n a → p i = true := by
  intro k
  induction k with
  | zero =>
    intro a h1 h2
    have e : sc p n a = a := sc_no (hp a (by omega))
    rw [e]
    exact ⟨Nat.le_refl _, h2, hp a (by omega), fun i h3 h4 => by omega⟩
  | succ k ih =>
    intro a h1 h2
    cases hq : p a with
    | false =>
      rw [sc_no hq]
      exact ⟨Nat.le_refl _, h2, hq, fun i h3 h4 => by omega⟩
    | true =>
      have hlt : a < n := Nat.lt_of_not_le (fun h => by rw [hp a h] at hq; cases hq)
      rw [sc_yes hlt hq]
      obtain ⟨i1, i2, i3, i4⟩ := ih (a + 1) (by omega) (by omega)
      exact ⟨by omega, i2, i3, fun i h3 h4 => by
        by_cases e : i = a
        · rw [e]; exact hq
        · exact i4 i (by omega) h4⟩
theorem sc_ge {p : Nat → Bool} {n a : Nat} (hp : ∀ i, n ≤ i → p i = false) (h : a ≤ n) : a ≤ sc p n a := (sc_spec hp _ a (Nat.le_refl _) h).1
theorem sc_le {p : Nat → Bool} {n a : Nat} (hp : ∀ i, n ≤ i → p i = false) (h : a ≤ n) : sc p n a ≤ n := (sc_spec hp _ a (Nat.le_refl _) h).2.1
theorem sc_end {p : Nat → Bool} {n a : Nat} (hp : ∀ i, n ≤ i → p i = false) (h : a ≤ n) : p (sc p n a) = false := (sc_spec hp _ a (Nat.le_refl _) h).2.2.1
theorem sc_in {p : Nat → Bool} {n a i : Nat} (hp : ∀ i, n ≤ i → p i = false) (h : a ≤ n) (h1 : a ≤ i) (h2 : i < sc p n a) : p i = true := (sc_spec hp _ a (Nat.le_refl _) h).2.2.2 i h1 h2
theorem sc_idem {p : Nat → Bool} {n a : Nat} (hp : ∀ i, n ≤ i → p i = false) (h : a ≤ n) : sc p n (sc p n a) = sc p n a := sc_no (sc_end hp h)
/-- a loop that looks for the end of p -/
theorem lp_sc {b : Int32 → Option (Int32 ⊕ Int32)} {p : Nat → Bool} {n a K : Nat} (hp : ∀ i, n ≤ i → p i = false) (ha : a ≤ n) (hK : n < K) (h1 : ∀ i, i < n → p i = true → b (nI i) = some (.inl (nI (i + 1)))) (h2 : ∀ i, i ≤ n → p i = false → b (nI i) = some (.inr (nI i))) : lpF b K (nI a) = some (nI (sc p n a)) := by
  have q1 := sc_ge hp ha
  have q2 := sc_le hp ha
  refine lp_for (fun i => nI (a + i)) (n := sc p n a - a) (by omega) (fun i hi => ?_) ?_
  · exact h1 (a + i) (by omega) (sc_in hp ha (by omega) (by omega))
  · show b (nI (a + (sc p n a - a))) = _
    rw [show a + (sc p n a - a) = sc p n a by omega]
    exact h2 _ q2 (sc_end hp ha)
end
-- 51.lx
section
/-! the tape's signs, tokens: what both readers see -/
/-- n signs sg (1 .. 255), -1 beyond -/
def Sg (n : Nat) (sg : Nat → Int32) : Prop := n ≤ 320 ∧ (∀ i, n ≤ i → sg i = -1) ∧ (∀ i, i < n → ¬ sg i = -1)
def TpC (n : Nat) (sg bytes : Nat → Int32) : Prop := ∀ i, i < n → bytes i &&& 255 = sg i
def TpM (n : Nat) (sg tape : Nat → Int32) : Prop := ∀ i, i < n → tape i = sg i
theorem Sg.n {n : Nat} {sg : Nat → Int32} (h : Sg n sg) : n ≤ 320 := h.1
theorem x320 : (320 : Int32) = nI 320 := by decide
theorem x0 : (0 : Int32) = nI 0 := by decide
theorem x1 : (1 : Int32) = nI 1 := by decide
theorem x7 : (7 : Int32) = nI 7 := by decide
theorem x8 : (8 : Int32) = nI 8 := by decide
theorem x12 : (12 : Int32) = nI 12 := by decide
theorem c_sign {n i : Nat} {sg bytes : Nat → Int32} (h : Sg n sg) (hb : TpC n sg bytes) (hi : i ≤ 400) : F_X6_signAt (nI i) bytes (nI n) = some (sg i) := by
  have h1 := h.1
  unfold F_X6_signAt
  rw [if_neg (nI_pos (by omega)), x320, xle (by omega) (by omega), xle (by omega) (by omega)]
  by_cases q : n ≤ i
  · rw [if_pos q, h.2.1 i q]
  · rw [if_neg q, if_neg (by omega), xixn (by omega) (by omega), nI_clamp (by omega), hb i (by omega)]
theorem m_here {n i : Nat} {sg tape : Nat → Int32} (h : Sg n sg) (hb : TpM n sg tape) (hi : i ≤ 400) : F_X8_here tape (nI n) (nI i) = some (sg i) := by
  have h1 := h.1
  unfold F_X8_here
  rw [xle (by omega) (by omega)]
  by_cases q : n ≤ i
  · rw [if_pos q, h.2.1 i q]
  · rw [if_neg q, xixn (by omega) (by omega), nI_clamp (by omega), hb i (by omega)]
def isB (sg : Nat → Int32) (i : Nat) : Bool := decide (sg i = 32)
def isL (sg : Nat → Int32) (i : Nat) : Bool := decide (97 ≤ sg i ∧ sg i ≤ 122)
def isD (sg : Nat → Int32) (i : Nat) : Bool := decide (48 ≤ sg i ∧ sg i ≤ 57)
theorem isB_n {n : Nat} {sg : Nat → Int32} (h : Sg n sg) : ∀ i, n ≤ i → isB sg i = false := fun i hi => by unfold isB; rw [h.2.1 i hi]; decide
theorem isL_n {n : Nat} {sg : Nat → Int32} (h : Sg n sg) : ∀ i, n ≤ i → isL sg i = false := fun i hi => by unfold isL; rw [h.2.1 i hi]; decide
theorem isD_n {n : Nat} {sg : Nat → Int32} (h : Sg n sg) : ∀ i, n ≤ i → isD sg i = false := fun i hi => by unfold isD; rw [h.2.1 i hi]; decide
theorem lt_not {x y : Int32} : x < y ↔ ¬ y ≤ x := by
  rw [Int32.lt_iff_toInt_lt, Int32.le_iff_toInt_le]
  omega
theorem rng3 {x lo hi : Int32} : (if x < lo then some (0 : Int32) else if hi < x then some 0 else some 1) = some (if lo ≤ x ∧ x ≤ hi then 1 else 0) := by
  by_cases h1 : lo ≤ x
  · rw [if_neg (fun q => lt_not.mp q h1)]
    by_cases h2 : x ≤ hi
    · rw [if_neg (fun q => lt_not.mp q h2), if_pos ⟨h1, h2⟩]
    · rw [if_pos (lt_not.mpr h2), if_neg (fun q => h2 q.2)]
  · rw [if_pos (lt_not.mpr h1), if_neg (fun q => h1 q.1)]
theorem c_isLetter {x : Int32} : F_X3_isLetter x = some (if 97 ≤ x ∧ x ≤ 122 then 1 else 0) := rng3
theorem c_isDigit {x : Int32} : F_X3_isDigit x = some (if 48 ≤ x ∧ x ≤ 57 then 1 else 0) := rng3
theorem m_isLetter {x : Int32} : F_X8_isLetter x = some (if 97 ≤ x ∧ x ≤ 122 then 1 else 0) := rng3
theorem m_isDigit {x : Int32} : F_X8_isDigit x = some (if 48 ≤ x ∧ x ≤ 57 then 1 else 0) := rng3
theorem ite01 {c : Prop} {d : Decidable c} (h : c) : (@ite Int32 c d 1 0) = 1 := if_pos h
/-- where blanks end -/
def skp (n : Nat) (sg : Nat → Int32) (a : Nat) : Nat := sc (isB sg) n a
theorem skp_ge {n a : Nat} {sg : Nat → Int32} (h : Sg n sg) (ha : a ≤ n) : a ≤ skp n sg a := sc_ge (isB_n h) ha
theorem skp_le {n a : Nat} {sg : Nat → Int32} (h : Sg n sg) (ha : a ≤ n) : skp n sg a ≤ n := sc_le (isB_n h) ha
theorem skp_idem {n a : Nat} {sg : Nat → Int32} (h : Sg n sg) (ha : a ≤ n) : skp n sg (skp n sg a) = skp n sg a := sc_idem (isB_n h) ha
theorem skp_nb {n a : Nat} {sg : Nat → Int32} (h : Sg n sg) (ha : a ≤ n) : ¬ sg (skp n sg a) = 32 := fun q => by
  have e := sc_end (isB_n h) ha
  unfold isB at e
  exact absurd q (of_decide_eq_false e)
theorem c_skip {K n a : Nat} {sg bytes : Nat → Int32} (h : Sg n sg) (hb : TpC n sg bytes) (hK : 400 ≤ K) (ha : a ≤ n) : F_X3_skipBlanks K bytes (nI n) (nI a) = some (nI (skp n sg a)) := by
  have h1 := h.1
  unfold F_X3_skipBlanks
  rw [show lpF (fun u9 : Int32 => B_X3_skipBlanks_0 (nI n) bytes u9) K (nI a) = some (nI (skp n sg a)) from lp_sc (isB_n h) ha (by omega) (fun i hi hp => ?_) (fun i hi hp => ?_)]
  · rfl
  · unfold isB at hp
    show B_X3_skipBlanks_0 (nI n) bytes (nI i) = _
    unfold B_X3_skipBlanks_0
    rw [xle (by omega) (by omega), if_neg (by omega), c_sign h hb (by omega), xb1, if_pos (of_decide_eq_true hp), nI_1]
  · unfold isB at hp
    show B_X3_skipBlanks_0 (nI n) bytes (nI i) = _
    unfold B_X3_skipBlanks_0
    rw [c_sign h hb (by omega), xb1, if_neg (of_decide_eq_false hp)]
    split <;> rfl
theorem m_skip {K n a : Nat} {sg tape : Nat → Int32} (h : Sg n sg) (hb : TpM n sg tape) (hK : 400 ≤ K) (ha : a ≤ n) : lpF (fun u9 : Int32 => B_X8_next_0 (nI n) tape u9) K (nI a) = some (nI (skp n sg a)) := by
  have h1 := h.1
  refine lp_sc (isB_n h) ha (by omega) (fun i hi hp => ?_) (fun i hi hp => ?_)
  · unfold isB at hp
    show B_X8_next_0 (nI n) tape (nI i) = _
    unfold B_X8_next_0
    rw [m_here h hb (by omega), xb1, if_pos (of_decide_eq_true hp), nI_1]
  · unfold isB at hp
    show B_X8_next_0 (nI n) tape (nI i) = _
    unfold B_X8_next_0
    rw [m_here h hb (by omega), xb1, if_neg (of_decide_eq_false hp)]
/-- where letters end -/
def wE (n : Nat) (sg : Nat → Int32) (b : Nat) : Nat := sc (isL sg) n b
theorem wE_ge {n a : Nat} {sg : Nat → Int32} (h : Sg n sg) (ha : a ≤ n) : a ≤ wE n sg a := sc_ge (isL_n h) ha
theorem wE_le {n a : Nat} {sg : Nat → Int32} (h : Sg n sg) (ha : a ≤ n) : wE n sg a ≤ n := sc_le (isL_n h) ha
theorem wE_in {n a i : Nat} {sg : Nat → Int32} (h : Sg n sg) (ha : a ≤ n) (h1 : a ≤ i) (h2 : i < wE n sg a) : 97 ≤ sg i ∧ sg i ≤ 122 := of_decide_eq_true (sc_in (isL_n h) ha h1 h2)
theorem wE_end {n a : Nat} {sg : Nat → Int32} (h : Sg n sg) (ha : a ≤ n) : ¬ (97 ≤ sg (wE n sg a) ∧ sg (wE n sg a) ≤ 122) := of_decide_eq_false (sc_end (isL_n h) ha)
theorem wE_lt {n b : Nat} {sg : Nat → Int32} (h : Sg n sg) (hb : b ≤ n) : b < wE n sg b ↔ (97 ≤ sg b ∧ sg b ≤ 122) := by
  constructor
  · intro q; exact wE_in h hb (Nat.le_refl _) q
  · intro q
    have hlt : b < n := Nat.lt_of_not_le (fun z => by rw [h.2.1 b z] at q; exact absurd q (by decide))
    have e : wE n sg b = wE n sg (b + 1) := sc_yes hlt (by unfold isL; exact decide_eq_true q)
    have := wE_ge h (a := b + 1) (by omega)
    omega
theorem c_letters {K n b : Nat} {sg bytes : Nat → Int32} (h : Sg n sg) (hb : TpC n sg bytes) (hK : 400 ≤ K) (ha : b ≤ n) : lpF (fun u9 : Int32 => B_X3_readWord_12 (nI n) bytes u9) K (nI b) = some (nI (wE n sg b)) := by
  have h1 := h.1
  refine lp_sc (isL_n h) ha (by omega) (fun i hi hp => ?_) (fun i hi hp => ?_)
  · unfold isL at hp
    show B_X3_readWord_12 (nI n) bytes (nI i) = _
    unfold B_X3_readWord_12
    rw [xle (by omega) (by omega), if_neg (by omega), c_sign h hb (by omega), xb1, c_isLetter, xb1, if_pos (of_decide_eq_true hp), if_neg (by decide), nI_1]
  · unfold isL at hp
    show B_X3_readWord_12 (nI n) bytes (nI i) = _
    unfold B_X3_readWord_12
    rw [c_sign h hb (by omega), xb1, c_isLetter, xb1, if_neg (of_decide_eq_false hp), if_pos rfl]
    split <;> rfl
/-- readWord of the class: it stands at a, blanks end at b -/
theorem c_readWord {K n a : Nat} {sg bytes : Nat → Int32} {w f : Int32} (h : Sg n sg) (hb : TpC n sg bytes) (hK : 400 ≤ K) (ha : a ≤ n) : F_X3_readWord K bytes (nI n) (nI a) w f = some (if skp n sg a < wE n sg (skp n sg a) then (1, nI (wE n sg (skp n sg a)), nI (skp n sg a), f) else (0, nI (wE n sg (skp n sg a)), nI (skp n sg a), nI (skp n sg a))) := by
  have h1 := h.1
  have h2 := skp_le h ha
  have h3 := wE_le h h2
  have h4 := wE_ge h h2
  unfold F_X3_readWord
  rw [c_skip h hb hK ha, xb1, c_letters h hb hK h2, xb1]
  unfold J_X3_readWord_56
  rw [xltn (by omega) (by omega)]
  by_cases q : skp n sg a < wE n sg (skp n sg a)
  · rw [if_pos q, if_pos q]
  · rw [if_neg q, if_neg q]
    unfold F_X3_failAt
    rw [xb2, if_pos rfl, show wE n sg (skp n sg a) = skp n sg a by omega]
theorem c_readSign {K n a : Nat} {sg bytes : Nat → Int32} {p f : Int32} (h : Sg n sg) (hb : TpC n sg bytes) (hK : 400 ≤ K) (ha : a ≤ n) : F_X3_readSign K p bytes (nI n) (nI a) f = some (if sg (skp n sg a) = p then (1, nI (skp n sg a + 1), f) else (0, nI (skp n sg a), nI (skp n sg a))) := by
  have h1 := h.1
  have h2 := skp_le h ha
  unfold F_X3_readSign
  rw [c_skip h hb hK ha, xb1, c_sign h hb (by omega), xb1]
  by_cases q : sg (skp n sg a) = p
  · rw [if_pos q, if_pos q, nI_1]
  · rw [if_neg q, if_neg q]
    rfl
theorem c_isAtEnd {K n a : Nat} {sg bytes : Nat → Int32} (h : Sg n sg) (hb : TpC n sg bytes) (hK : 400 ≤ K) (ha : a ≤ n) : F_X3_isAtEnd K bytes (nI n) (nI a) = some (if sg (skp n sg a) = -1 then 1 else 0, nI (skp n sg a)) := by
  have h1 := h.1
  have h2 := skp_le h ha
  unfold F_X3_isAtEnd
  rw [c_skip h hb hK ha, xb1, xltn (by omega) (by omega)]
  by_cases q : skp n sg a < n
  · rw [if_pos q, if_neg (h.2.2 _ q)]
  · rw [if_neg q, if_pos (h.2.1 _ (by omega))]
end
-- 52.tk
section
/-! tokens -/
theorem i64le {x y : Int32} : x.toInt64 ≤ y.toInt64 ↔ x ≤ y := by rw [Int64.le_iff_toInt_le, Int32.toInt_toInt64, Int32.toInt_toInt64, Int32.le_iff_toInt_le]
theorem i64lt {x y : Int32} : x.toInt64 < y.toInt64 ↔ x < y := by rw [Int64.lt_iff_toInt_lt, Int32.toInt_toInt64, Int32.toInt_toInt64, Int32.lt_iff_toInt_lt]
theorem lt_not64 {x y : Int64} : x < y ↔ ¬ y ≤ x := by
  rw [Int64.lt_iff_toInt_lt, Int64.le_iff_toInt_le]
  omega
theorem m_in {x lo hi : Int64} : F_X8_in x lo hi = some (if lo ≤ x ∧ x ≤ hi then 1 else 0) := by
  unfold F_X8_in
  by_cases h1 : lo ≤ x
  · rw [if_neg (fun q => lt_not64.mp ((lg_cmp_lt x lo).mp q) h1)]
    by_cases h2 : x ≤ hi
    · rw [if_neg (fun q => lt_not64.mp ((lg_cmp_gt x hi).mp q) h2), if_pos ⟨h1, h2⟩]
    · rw [if_pos ((lg_cmp_gt x hi).mpr (lt_not64.mpr h2)), if_neg (fun q => h2 q.2)]
  · rw [if_pos ((lg_cmp_lt x lo).mpr (lt_not64.mpr h1)), if_neg (fun q => h1 q.1)]
theorem m_inI {x lo hi : Int32} : F_X8_in x.toInt64 lo.toInt64 hi.toInt64 = some (if lo ≤ x ∧ x ≤ hi then 1 else 0) := by
  rw [m_in]
  by_cases h : lo ≤ x ∧ x ≤ hi
  · rw [if_pos h, if_pos ⟨i64le.mpr h.1, i64le.mpr h.2⟩]
  · rw [if_neg h, if_neg (fun q => h ⟨i64le.mp q.1, i64le.mp q.2⟩)]
def d0 (sg : Nat → Int32) (b : Nat) : Nat := if sg b = 45 then b + 1 else b
def dE (n : Nat) (sg : Nat → Int32) (b : Nat) : Nat := sc (isD sg) n (d0 sg b)
def nD (n : Nat) (sg : Nat → Int32) (b : Nat) : Nat := dE n sg b - d0 sg b
def nv (sg : Nat → Int32) (d : Nat) : Nat → Int32
  | 0 => 0
  | i + 1 => nv sg d i * 10 + sg (d + i) - 48
def nN (n : Nat) (sg : Nat → Int32) (b : Nat) : Int32 := if sg b = 45 then -(nv sg (d0 sg b) (nD n sg b)) else nv sg (d0 sg b) (nD n sg b)
theorem d0_le {n b : Nat} {sg : Nat → Int32} (h : Sg n sg) (hb : b ≤ n) : d0 sg b ≤ n := by
  unfold d0
  split
  · rename_i q
    have : b < n := Nat.lt_of_not_le (fun z => by rw [h.2.1 b z] at q; exact absurd q (by decide))
    omega
  · exact hb
theorem d0_ge {b : Nat} {sg : Nat → Int32} : b ≤ d0 sg b := by unfold d0; split <;> omega
theorem dE_le {n b : Nat} {sg : Nat → Int32} (h : Sg n sg) (hb : b ≤ n) : dE n sg b ≤ n := sc_le (isD_n h) (d0_le h hb)
theorem dE_ge {n b : Nat} {sg : Nat → Int32} (h : Sg n sg) (hb : b ≤ n) : d0 sg b ≤ dE n sg b := sc_ge (isD_n h) (d0_le h hb)
theorem dE_in {n b i : Nat} {sg : Nat → Int32} (h : Sg n sg) (hb : b ≤ n) (h1 : d0 sg b ≤ i) (h2 : i < dE n sg b) : 48 ≤ sg i ∧ sg i ≤ 57 := of_decide_eq_true (sc_in (isD_n h) (d0_le h hb) h1 h2)
theorem dE_end {n b : Nat} {sg : Nat → Int32} (h : Sg n sg) (hb : b ≤ n) : ¬ (48 ≤ sg (dE n sg b) ∧ sg (dE n sg b) ≤ 57) := of_decide_eq_false (sc_end (isD_n h) (d0_le h hb))
/-- the digits' value as the class reckons it: seven of them at most -/
theorem c_digits {K n b : Nat} {sg bytes : Nat → Int32} (h : Sg n sg) (hb : TpC n sg bytes) (hK : 400 ≤ K) (hbn : b ≤ n) : lpF (fun u9 : Int32 × Int32 => B_X3_readNumber_56 (nI n) bytes (nI (d0 sg b)) u9.1 u9.2) K ((0 : Int32), nI (d0 sg b)) = some (nv sg (d0 sg b) (if nD n sg b ≤ 7 then nD n sg b else 7), nI (dE n sg b)) := by
  have h1 := h.1
  have h2 := d0_le h hbn
  have h3 := dE_le h hbn
  have h4 := dE_ge h hbn
  refine lp_for (fun i => ((nv sg (d0 sg b) (if i ≤ 7 then i else 7), nI (d0 sg b + i)) : Int32 × Int32)) (n := nD n sg b) (by unfold nD; omega) (fun i hi => ?_) ?_
  · show B_X3_readNumber_56 (nI n) bytes (nI (d0 sg b)) (nv sg (d0 sg b) (if i ≤ 7 then i else 7)) (nI (d0 sg b + i)) = _
    unfold nD at hi
    unfold B_X3_readNumber_56
    rw [xle (by omega) (by omega), if_neg (by omega), c_sign h hb (by omega), xb1, c_isDigit, xb1, if_pos (dE_in h hbn (i := d0 sg b + i) (by omega) (by omega)), if_neg (by decide), xsub (by omega), x7, xle (by decide) (by omega)]
    by_cases q : 7 ≤ d0 sg b + i - d0 sg b
    · rw [if_pos q, nI_1]
      show some (Sum.inl (_, _)) = some (Sum.inl (_, _))
      rw [show (if i ≤ 7 then i else 7) = 7 by split <;> omega, show (if i + 1 ≤ 7 then i + 1 else 7) = 7 by split <;> omega, Nat.add_assoc]
    · rw [if_neg q, xb1, nI_1]
      show some (Sum.inl (_, _)) = some (Sum.inl (_, _))
      rw [if_pos (show i ≤ 7 by omega), if_pos (show i + 1 ≤ 7 by omega), Nat.add_assoc]
      rfl
  · show B_X3_readNumber_56 (nI n) bytes (nI (d0 sg b)) (nv sg (d0 sg b) (if nD n sg b ≤ 7 then nD n sg b else 7)) (nI (d0 sg b + nD n sg b)) = _
    rw [show d0 sg b + nD n sg b = dE n sg b by unfold nD; omega]
    unfold B_X3_readNumber_56
    rw [c_sign h hb (by omega), xb1, c_isDigit, xb1, if_neg (dE_end h hbn), if_pos rfl]
    split <;> rfl
abbrev okN (n : Nat) (sg : Nat → Int32) (lo hi : Int32) (b : Nat) : Prop := 1 ≤ nD n sg b ∧ nD n sg b ≤ 7 ∧ lo ≤ nN n sg b ∧ nN n sg b ≤ hi
theorem c_readNumber {K n a : Nat} {sg bytes : Nat → Int32} {lo hi nu f : Int32} (h : Sg n sg) (hb : TpC n sg bytes) (hK : 400 ≤ K) (ha : a ≤ n) : ∃ at' nu', F_X3_readNumber K lo hi bytes (nI n) (nI a) nu f = some (if okN n sg lo hi (skp n sg a) then 1 else 0, at', nu', if okN n sg lo hi (skp n sg a) then f else nI (skp n sg a)) ∧ (okN n sg lo hi (skp n sg a) → at' = nI (dE n sg (skp n sg a)) ∧ nu' = nN n sg (skp n sg a)) := by
  have h1 := h.1
  have h2 := skp_le h ha
  generalize hbe : skp n sg a = b at h2 ⊢
  have h3 := dE_le h h2
  have h4 := dE_ge h h2
  have h5 := d0_le h h2
  have fin : ∀ k0 : Int32, (nD n sg b ≤ 7 → k0 = nN n sg b) → ∃ at' nu', J_X3_readNumber_157 lo hi k0 (nI b) (nI (nD n sg b)) (nI (dE n sg b)) f = some (if okN n sg lo hi b then 1 else 0, at', nu', if okN n sg lo hi b then f else nI b) ∧ (okN n sg lo hi b → at' = nI (dE n sg b) ∧ nu' = nN n sg b) := by
    intro k0 hk
    refine ⟨nI (dE n sg b), k0, ?_, fun q => ⟨rfl, hk q.2.1⟩⟩
    unfold J_X3_readNumber_157
    rw [x1, xltn (by unfold nD; omega) (by decide), x7, xltn (by decide) (by unfold nD; omega)]
    by_cases q1 : nD n sg b < 1
    · rw [if_pos q1, if_neg (fun z => by have := z.1; omega), if_neg (fun z => by have := z.1; omega)]; rfl
    · rw [if_neg q1]
      by_cases q2 : 7 < nD n sg b
      · rw [if_pos q2, if_neg (fun z => by have := z.2.1; omega), if_neg (fun z => by have := z.2.1; omega)]; rfl
      · rw [if_neg q2]
        have e := hk (by omega)
        subst e
        by_cases q3 : lo ≤ nN n sg b
        · rw [if_neg (fun z => lt_not.mp z q3)]
          by_cases q4 : nN n sg b ≤ hi
          · rw [if_pos q4, if_pos ⟨by omega, by omega, q3, q4⟩, if_pos ⟨by omega, by omega, q3, q4⟩]
          · rw [if_neg q4, if_neg (fun z => q4 z.2.2.2), if_neg (fun z => q4 z.2.2.2)]; rfl
        · rw [if_pos (lt_not.mpr q3), if_neg (fun z => q3 z.2.2.1), if_neg (fun z => q3 z.2.2.1)]; rfl
  unfold F_X3_readNumber
  rw [c_skip h hb hK ha, xb1, hbe, c_sign h hb (by omega), xb1]
  have go : ∀ (k0 : Int32) (c : Int32), (c = nI (d0 sg b)) → ((k0 = 0) ↔ ¬ sg b = 45) → J_X3_readNumber_47 K lo hi (nI n) bytes (nI b) k0 c f = J_X3_readNumber_157 lo hi (if sg b = 45 then -(nv sg (d0 sg b) (if nD n sg b ≤ 7 then nD n sg b else 7)) else nv sg (d0 sg b) (if nD n sg b ≤ 7 then nD n sg b else 7)) (nI b) (nI (nD n sg b)) (nI (dE n sg b)) f := by
    intro k0 c hc hk
    subst hc
    unfold J_X3_readNumber_47
    rw [c_digits h hb hK h2, xb2]
    unfold J_X3_readNumber_134
    rw [xsub (by omega), show dE n sg b - d0 sg b = nD n sg b from rfl]
    by_cases q : sg b = 45
    · rw [if_neg (fun z => (hk.mp z) q), if_pos q]
    · rw [if_pos (hk.mpr q), if_neg q]
  have hfin := fin (if sg b = 45 then -(nv sg (d0 sg b) (if nD n sg b ≤ 7 then nD n sg b else 7)) else nv sg (d0 sg b) (if nD n sg b ≤ 7 then nD n sg b else 7)) (fun q => by rw [if_pos q]; rfl)
  by_cases q : sg b = 45
  · rw [if_pos q]
    unfold J_X3_readNumber_30
    rw [if_neg (by decide), go 1 _ (by rw [nI_1]; unfold d0; rw [if_pos q]) ⟨fun z => absurd z (by decide), fun z => absurd q z⟩]
    exact hfin
  · rw [if_neg q]
    unfold J_X3_readNumber_30
    rw [if_pos rfl, go 0 _ (by unfold d0; rw [if_neg q]) ⟨fun _ => q, fun _ => rfl⟩]
    exact hfin
theorem m_digits {K n b : Nat} {sg tape : Nat → Int32} (h : Sg n sg) (hb : TpM n sg tape) (hK : 400 ≤ K) (hbn : b ≤ n) : lpF (fun u9 : Int32 × Int32 × Int32 => B_X8_readNumber_40 (nI n) tape u9.1 u9.2.1 u9.2.2) K ((0 : Int32), nI (d0 sg b), (0 : Int32)) = some (nI (nD n sg b), nI (dE n sg b), if nD n sg b ≤ 7 then nv sg (d0 sg b) (nD n sg b) else 0) := by
  have h1 := h.1
  have h2 := d0_le h hbn
  have h3 := dE_le h hbn
  have h4 := dE_ge h hbn
  refine lp_for (fun i => ((nI i, nI (d0 sg b + i), if i ≤ 7 then nv sg (d0 sg b) i else 0) : Int32 × Int32 × Int32)) (n := nD n sg b) (by unfold nD; omega) (fun i hi => ?_) ?_
  · show B_X8_readNumber_40 (nI n) tape (nI i) (nI (d0 sg b + i)) (if i ≤ 7 then nv sg (d0 sg b) i else 0) = _
    unfold nD at hi
    unfold B_X8_readNumber_40
    rw [m_here h hb (by omega), xb1, m_isDigit, xb1, if_pos (dE_in h hbn (i := d0 sg b + i) (by omega) (by omega)), if_neg (by decide), x7, xle (by decide) (by omega)]
    by_cases q : 7 ≤ i
    · rw [if_pos q, nI_1, nI_1]
      show some (Sum.inl (_, _, _)) = some (Sum.inl (_, _, _))
      rw [if_neg (show ¬ i + 1 ≤ 7 by omega), Nat.add_assoc]
    · rw [if_neg q, xb1, nI_1, nI_1]
      show some (Sum.inl (_, _, _)) = some (Sum.inl (_, _, _))
      rw [if_pos (show i ≤ 7 by omega), if_pos (show i + 1 ≤ 7 by omega), Nat.add_assoc, Int32.mul_comm 10]
      rfl
  · show B_X8_readNumber_40 (nI n) tape (nI (nD n sg b)) (nI (d0 sg b + nD n sg b)) (if nD n sg b ≤ 7 then nv sg (d0 sg b) (nD n sg b) else 0) = _
    rw [show d0 sg b + nD n sg b = dE n sg b by unfold nD; omega]
    unfold B_X8_readNumber_40
    rw [m_here h hb (by omega), xb1, m_isDigit, xb1, if_neg (dE_end h hbn), if_pos rfl]
theorem m_readNumber {K n b : Nat} {sg tape : Nat → Int32} {pa pn : Int32} (h : Sg n sg) (hb : TpM n sg tape) (hK : 400 ≤ K) (hbn : b ≤ n) : ∃ X, F_X8_readNumber K tape (nI n) (nI b) pa pn = some (nI (dE n sg b), if 1 ≤ nD n sg b ∧ nD n sg b ≤ 7 then 2 else 5, X) ∧ (nD n sg b ≤ 7 → X = nN n sg b) := by
  have h1 := h.1
  have h3 := dE_le h hbn
  have fin : ∀ k0 : Int32, J_X8_readNumber_112 k0 (nI (nD n sg b)) (nI (dE n sg b)) = some (nI (dE n sg b), if 1 ≤ nD n sg b ∧ nD n sg b ≤ 7 then 2 else 5, k0) := by
    intro k0
    unfold J_X8_readNumber_112
    rw [show (1 : Int64) = (1 : Int32).toInt64 by decide, show (7 : Int64) = (7 : Int32).toInt64 by decide, m_inI, xb1]
    have e : (1 ≤ nI (nD n sg b) ∧ nI (nD n sg b) ≤ 7) ↔ (1 ≤ nD n sg b ∧ nD n sg b ≤ 7) := by rw [x1, x7, ple (by decide) (by unfold nD; omega), ple (by unfold nD; omega) (by decide)]
    by_cases q : 1 ≤ nD n sg b ∧ nD n sg b ≤ 7
    · rw [if_pos (e.mpr q), if_pos q, if_neg (by decide)]
    · rw [if_neg (fun z => q (e.mp z)), if_neg q, if_pos rfl]
  unfold F_X8_readNumber
  rw [m_here h hb (by omega), xb1]
  have go : ∀ (k0 k1 : Int32), (nI b + k1 = nI (d0 sg b)) → ((k0 = 0) ↔ ¬ sg b = 45) → J_X8_readNumber_29 K (nI n) tape k1 (nI b) k0 = some (nI (dE n sg b), if 1 ≤ nD n sg b ∧ nD n sg b ≤ 7 then 2 else 5, if sg b = 45 then -(if nD n sg b ≤ 7 then nv sg (d0 sg b) (nD n sg b) else 0) else (if nD n sg b ≤ 7 then nv sg (d0 sg b) (nD n sg b) else 0)) := by
    intro k0 k1 hc hk
    unfold J_X8_readNumber_29
    rw [hc, m_digits h hb hK hbn, xb3]
    by_cases q : sg b = 45
    · rw [if_neg (fun z => (hk.mp z) q), if_pos q]; exact fin _
    · rw [if_pos (hk.mpr q), if_neg q]; exact fin _
  refine ⟨if sg b = 45 then -(if nD n sg b ≤ 7 then nv sg (d0 sg b) (nD n sg b) else 0) else (if nD n sg b ≤ 7 then nv sg (d0 sg b) (nD n sg b) else 0), ?_, fun q => ?_⟩
  rotate_left
  · exact (show (if sg b = 45 then -(if nD n sg b ≤ 7 then nv sg (d0 sg b) (nD n sg b) else 0) else (if nD n sg b ≤ 7 then nv sg (d0 sg b) (nD n sg b) else 0)) = nN n sg b by rw [if_pos q]; rfl)
  · by_cases q : sg b = 45
    · rw [if_pos q]
      unfold J_X8_readNumber_14
      rw [if_neg (by decide)]
      exact go 1 1 (by rw [nI_1]; unfold d0; rw [if_pos q]) ⟨fun z => absurd z (by decide), fun z => absurd q z⟩
    · rw [if_neg q]
      unfold J_X8_readNumber_14
      rw [if_pos rfl]
      exact go 0 0 (by rw [x0, nI_add]; unfold d0; rw [if_neg q]; rfl) ⟨fun _ => q, fun _ => rfl⟩
def wc (sg : Nat → Int32) (b : Nat) : Nat → Int64
  | 0 => 0
  | i + 1 => if i < 8 then 32 * wc sg b i + (sg (b + i)).toInt64 - 97 + 1 else 0
theorem m_readWord {K n b : Nat} {sg tape : Nat → Int32} {pa : Int32} {pw : Int64} (h : Sg n sg) (hb : TpM n sg tape) (hK : 400 ≤ K) (hbn : b ≤ n) : F_X8_readWord K tape (nI n) (nI b) pa pw = some (nI (wE n sg b), 1, wc sg b (wE n sg b - b)) := by
  have h1 := h.1
  have h3 := wE_le h hbn
  have h4 := wE_ge h hbn
  unfold F_X8_readWord
  rw [show lpF (fun u9 : Int32 × Int32 × Int64 => B_X8_readWord_7 (nI n) tape u9.1 u9.2.1 u9.2.2) K ((0 : Int32), nI b, (0 : Int64)) = some (nI (wE n sg b), wc sg b (wE n sg b - b)) from ?_]
  · rfl
  refine lp_for (fun i => ((nI i, nI (b + i), wc sg b i) : Int32 × Int32 × Int64)) (n := wE n sg b - b) (by omega) (fun i hi => ?_) ?_
  · show B_X8_readWord_7 (nI n) tape (nI i) (nI (b + i)) (wc sg b i) = _
    unfold B_X8_readWord_7
    rw [m_here h hb (by omega), xb1, m_isLetter, xb1, if_pos (wE_in h hbn (i := b + i) (by omega) (by omega)), if_neg (by decide), x8, xle (by decide) (by omega)]
    by_cases q : 8 ≤ i
    · rw [if_pos q, nI_1, nI_1]
      show some (Sum.inl (_, _, _)) = some (Sum.inl (_, _, (if i < 8 then _ else _)))
      rw [if_neg (show ¬ i < 8 by omega), Nat.add_assoc]
    · rw [if_neg q, xb1, nI_1, nI_1]
      show some (Sum.inl (_, _, _)) = some (Sum.inl (_, _, (if i < 8 then _ else _)))
      rw [if_pos (show i < 8 by omega), Nat.add_assoc]
  · show B_X8_readWord_7 (nI n) tape (nI (wE n sg b - b)) (nI (b + (wE n sg b - b))) (wc sg b (wE n sg b - b)) = _
    rw [show b + (wE n sg b - b) = wE n sg b by omega]
    unfold B_X8_readWord_7
    rw [m_here h hb (by omega), xb1, m_isLetter, xb1, if_neg (wE_end h hbn), if_pos rfl]
end
-- 53.wd
section
/-! words, and the token that comes next -/
def tk (n : Nat) (sg : Nat → Int32) (b : Nat) : Int32 := if sg b = -1 then 0 else if 97 ≤ sg b ∧ sg b ≤ 122 then 1 else if (48 ≤ sg b ∧ sg b ≤ 57) ∨ sg b = 45 then (if 1 ≤ nD n sg b ∧ nD n sg b ≤ 7 then 2 else 5) else if sg b = 44 then 3 else if sg b = 59 then 4 else 5
def te (n : Nat) (sg : Nat → Int32) (b : Nat) : Nat := if sg b = -1 then b else if 97 ≤ sg b ∧ sg b ≤ 122 then wE n sg b else if (48 ≤ sg b ∧ sg b ≤ 57) ∨ sg b = 45 then dE n sg b else b + 1
/-- the reference has looked at the token at b -/
def LA (n : Nat) (sg : Nat → Int32) (b : Nat) (at' part frm pn : Int32) (pw : Int64) : Prop := at' = nI (te n sg b) ∧ part = tk n sg b ∧ frm = nI b ∧ (tk n sg b = 2 → pn = nN n sg b) ∧ (tk n sg b = 1 → pw = wc sg b (wE n sg b - b))
theorem m_next {K n a : Nat} {sg tape : Nat → Int32} {pa fr pn : Int32} {pw : Int64} (h : Sg n sg) (hb : TpM n sg tape) (hK : 400 ≤ K) (ha : a ≤ n) : ∃ at' pa' fr' pn' pw', F_X8_next K tape (nI n) (nI a) pa fr pn pw = some (at', pa', fr', pn', pw') ∧ LA n sg (skp n sg a) at' pa' fr' pn' pw' := by
  have h1 := h.1
  have h2 := skp_le h ha
  unfold F_X8_next
  rw [m_skip h hb hK ha, xb1]
  generalize skp n sg a = b at h2 ⊢
  rw [m_here h hb (by omega), xb1]
  unfold LA tk te
  by_cases q0 : sg b = -1
  · rw [if_pos q0, if_pos q0, if_pos q0]
    exact ⟨_, _, _, _, _, rfl, rfl, rfl, rfl, fun z => absurd z (by decide), fun z => absurd z (by decide)⟩
  · rw [if_neg q0, if_neg q0, if_neg q0, m_isLetter, xb1]
    by_cases q1 : 97 ≤ sg b ∧ sg b ≤ 122
    · rw [if_pos q1, if_pos q1, if_pos q1, if_neg (by decide), m_readWord h hb hK h2, xb3]
      exact ⟨_, _, _, _, _, rfl, rfl, rfl, rfl, fun z => absurd z (by decide), fun _ => rfl⟩
    · rw [if_neg q1, if_neg q1, if_neg q1, if_pos rfl, m_isDigit, xb1]
      obtain ⟨X, hX, hX2⟩ := m_readNumber (pa := pa) (pn := pn) h hb hK h2
      by_cases q2 : 48 ≤ sg b ∧ sg b ≤ 57
      · rw [if_pos q2, if_neg (by decide), if_pos (Or.inl q2), if_pos (Or.inl q2), hX, xb3]
        refine ⟨_, _, _, _, _, rfl, rfl, rfl, rfl, fun z => hX2 ?_, fun z => ?_⟩
        · by_cases q3 : 1 ≤ nD n sg b ∧ nD n sg b ≤ 7
          · exact q3.2
          · rw [if_neg q3] at z; exact absurd z (by decide)
        · by_cases q3 : 1 ≤ nD n sg b ∧ nD n sg b ≤ 7
          · rw [if_pos q3] at z; exact absurd z (by decide)
          · rw [if_neg q3] at z; exact absurd z (by decide)
      · rw [if_neg q2, if_pos rfl]
        by_cases q3 : sg b = 45
        · rw [if_pos q3, if_pos (Or.inr q3), if_pos (Or.inr q3), hX, xb3]
          refine ⟨_, _, _, _, _, rfl, rfl, rfl, rfl, fun z => hX2 ?_, fun z => ?_⟩
          · by_cases q3 : 1 ≤ nD n sg b ∧ nD n sg b ≤ 7
            · exact q3.2
            · rw [if_neg q3] at z; exact absurd z (by decide)
          · by_cases q3 : 1 ≤ nD n sg b ∧ nD n sg b ≤ 7
            · rw [if_pos q3] at z; exact absurd z (by decide)
            · rw [if_neg q3] at z; exact absurd z (by decide)
        · have e9 : ¬ ((48 ≤ sg b ∧ sg b ≤ 57) ∨ sg b = 45) := fun z => z.elim q2 q3
          rw [if_neg q3, if_neg e9, if_neg e9, nI_1]
          by_cases q4 : sg b = 44
          · rw [if_pos q4, if_pos q4]
            exact ⟨_, _, _, _, _, rfl, rfl, rfl, rfl, fun z => absurd z (by decide), fun z => absurd z (by decide)⟩
          · rw [if_neg q4, if_neg q4]
            by_cases q5 : sg b = 59
            · rw [if_pos q5, if_pos q5]
              exact ⟨_, _, _, _, _, rfl, rfl, rfl, rfl, fun z => absurd z (by decide), fun z => absurd z (by decide)⟩
            · rw [if_neg q5, if_neg q5]
              exact ⟨_, _, _, _, _, rfl, rfl, rfl, rfl, fun z => absurd z (by decide), fun z => absurd z (by decide)⟩
theorem nD_0 {n b : Nat} {sg : Nat → Int32} (q2 : ¬ (48 ≤ sg b ∧ sg b ≤ 57)) (q3 : ¬ sg b = 45) : nD n sg b = 0 := by
  have e : d0 sg b = b := by unfold d0; exact if_neg q3
  have e2 : dE n sg b = b := by
    unfold dE
    rw [e]
    exact sc_no (by unfold isD; exact decide_eq_false q2)
  unfold nD
  rw [e, e2]
  omega
/-- a number's token -/
theorem tk2 {n b : Nat} {sg : Nat → Int32} : tk n sg b = 2 ↔ (1 ≤ nD n sg b ∧ nD n sg b ≤ 7) := by
  unfold tk
  by_cases q2 : 48 ≤ sg b ∧ sg b ≤ 57
  · have e0 : ¬ sg b = -1 := fun z => by rw [z] at q2; exact absurd q2 (by decide)
    have e1 : ¬ (97 ≤ sg b ∧ sg b ≤ 122) := fun z => by
      have a := z.1; have c := q2.2
      rw [Int32.le_iff_toInt_le] at a c
      rw [show (97 : Int32).toInt = 97 by decide] at a
      rw [show (57 : Int32).toInt = 57 by decide] at c
      omega
    rw [if_neg e0, if_neg e1, if_pos (Or.inl q2)]
    by_cases q : 1 ≤ nD n sg b ∧ nD n sg b ≤ 7
    · rw [if_pos q]; exact ⟨fun _ => q, fun _ => rfl⟩
    · rw [if_neg q]; exact ⟨fun z => absurd z (by decide), fun z => absurd z q⟩
  · by_cases q3 : sg b = 45
    · rw [if_neg (by rw [q3]; decide), if_neg (by rw [q3]; decide), if_pos (Or.inr q3)]
      by_cases q : 1 ≤ nD n sg b ∧ nD n sg b ≤ 7
      · rw [if_pos q]; exact ⟨fun _ => q, fun _ => rfl⟩
      · rw [if_neg q]; exact ⟨fun z => absurd z (by decide), fun z => absurd z q⟩
    · have e := nD_0 (n := n) q2 q3
      have e9 : ¬ (1 ≤ nD n sg b ∧ nD n sg b ≤ 7) := fun z => by have := z.1; omega
      rw [if_neg (show ¬ ((48 ≤ sg b ∧ sg b ≤ 57) ∨ sg b = 45) from fun z => z.elim q2 q3)]
      refine ⟨fun z => ?_, fun z => absurd z e9⟩
      exfalso
      revert z
      split
      · exact (by decide)
      · split
        · exact (by decide)
        · split
          · exact (by decide)
          · split <;> exact (by decide)
theorem tk1 {n b : Nat} {sg : Nat → Int32} : tk n sg b = 1 ↔ (97 ≤ sg b ∧ sg b ≤ 122) := by
  unfold tk
  by_cases q1 : 97 ≤ sg b ∧ sg b ≤ 122
  · have e0 : ¬ sg b = -1 := fun z => by rw [z] at q1; exact absurd q1 (by decide)
    rw [if_neg e0, if_pos q1]
    exact ⟨fun _ => q1, fun _ => rfl⟩
  · rw [if_neg q1]
    refine ⟨fun z => ?_, fun z => absurd z q1⟩
    exfalso
    revert z
    split
    · exact (by decide)
    · split
      · split <;> exact (by decide)
      · split
        · exact (by decide)
        · split <;> exact (by decide)
theorem tk0 {n b : Nat} {sg : Nat → Int32} : tk n sg b = 0 ↔ sg b = -1 := by
  unfold tk
  by_cases q1 : sg b = -1
  · rw [if_pos q1]; exact ⟨fun _ => q1, fun _ => rfl⟩
  · rw [if_neg q1]
    refine ⟨fun z => ?_, fun z => absurd z q1⟩
    exfalso
    revert z
    split
    · exact (by decide)
    · split
      · split <;> exact (by decide)
      · split
        · exact (by decide)
        · split <;> exact (by decide)
theorem tk3 {n b : Nat} {sg : Nat → Int32} : tk n sg b = 3 ↔ sg b = 44 := by
  unfold tk
  by_cases q1 : sg b = 44
  · rw [if_neg (by rw [q1]; decide), if_neg (by rw [q1]; decide), if_neg (by rw [q1]; decide), if_pos q1]
    exact ⟨fun _ => q1, fun _ => rfl⟩
  · rw [if_neg q1]
    refine ⟨fun z => ?_, fun z => absurd z q1⟩
    exfalso
    revert z
    split
    · exact (by decide)
    · split
      · exact (by decide)
      · split
        · split <;> exact (by decide)
        · split <;> exact (by decide)
theorem tk4 {n b : Nat} {sg : Nat → Int32} : tk n sg b = 4 ↔ sg b = 59 := by
  unfold tk
  by_cases q1 : sg b = 59
  · rw [if_neg (by rw [q1]; decide), if_neg (by rw [q1]; decide), if_neg (by rw [q1]; decide), if_neg (by rw [q1]; decide), if_pos q1]
    exact ⟨fun _ => q1, fun _ => rfl⟩
  · rw [if_neg q1]
    refine ⟨fun z => ?_, fun z => absurd z q1⟩
    exfalso
    revert z
    split
    · exact (by decide)
    · split
      · exact (by decide)
      · split
        · split <;> exact (by decide)
        · split <;> exact (by decide)
theorem te_le {n b : Nat} {sg : Nat → Int32} (h : Sg n sg) (hb : b ≤ n) : te n sg b ≤ n := by
  unfold te
  split
  · exact hb
  · rename_i q0
    have : b < n := Nat.lt_of_not_le (fun z => q0 (h.2.1 b z))
    split
    · exact wE_le h hb
    · split
      · exact dE_le h hb
      · omega
theorem te_w {n b : Nat} {sg : Nat → Int32} (q : 97 ≤ sg b ∧ sg b ≤ 122) : te n sg b = wE n sg b := by
  unfold te
  rw [if_neg (fun z => by rw [z] at q; exact absurd q (by decide)), if_pos q]
theorem te_n {n b : Nat} {sg : Nat → Int32} (q : 1 ≤ nD n sg b) : te n sg b = dE n sg b := by
  have q9 : (48 ≤ sg b ∧ sg b ≤ 57) ∨ sg b = 45 := by
    refine Classical.byContradiction (fun z => ?_)
    have := nD_0 (n := n) (fun a => z (Or.inl a)) (fun a => z (Or.inr a))
    omega
  unfold te
  rw [if_neg (fun z => by rw [z] at q9; exact absurd q9 (by decide)), if_neg (fun z => ?_), if_pos q9]
  rcases q9 with q9 | q9
  · have a := z.1; have c := q9.2
    rw [Int32.le_iff_toInt_le] at a c
    rw [show (97 : Int32).toInt = 97 by decide] at a
    rw [show (57 : Int32).toInt = 57 by decide] at c
    omega
  · rw [q9] at z; exact absurd z (by decide)
theorem te_s {n b : Nat} {sg : Nat → Int32} {p : Int32} (q : sg b = p) (hp : p = 44 ∨ p = 59) : te n sg b = b + 1 := by
  unfold te
  rcases hp with rfl | rfl
  · rw [if_neg (by rw [q]; decide), if_neg (by rw [q]; decide), if_neg (by rw [q]; decide)]
  · rw [if_neg (by rw [q]; decide), if_neg (by rw [q]; decide), if_neg (by rw [q]; decide)]
/-- the word at b is string i -/
def wd (n : Nat) (sg : Nat → Int32) (i b : Nat) : Bool := decide (wE n sg b - b = strL.getD i 0 ∧ ∀ j, j < strL.getD i 0 → sg (b + j) = (strB.getD i []).getD j 0)
theorem j_length : ∀ i, i < 12 → F_J0_length_8abf5 i = some (nI (strL.getD i 0)) := by decide +kernel
theorem j_charAt : ∀ i, i < 12 → ∀ j, j < strL.getD i 0 → F_J0_charAt_5068e i (nI j) = some ((strB.getD i []).getD j 0) := by decide +kernel
theorem strL_le : ∀ i, i < 12 → strL.getD i 0 ≤ 6 := by decide +kernel
theorem c_wloop {n b i : Nat} {sg bytes : Nat → Int32} (h : Sg n sg) (hb : TpC n sg bytes) (hbn : b ≤ n) (hi : i < 12) : ∀ (d j K : Nat), j + d = strL.getD i 0 → d < K → lpF (fun u9 : Int32 => B_X3_isWord_20 i (nI b) (nI n) bytes u9) K (nI j) = some (if ∀ k, k < strL.getD i 0 → j ≤ k → sg (b + k) = (strB.getD i []).getD k 0 then 1 else 0) := by
  have hl := strL_le i hi
  have h1 := h.1
  intro d
  induction d with
  | zero =>
    intro j K h2 h3
    obtain ⟨K', rfl⟩ : ∃ K', K = K' + 1 := ⟨K - 1, by omega⟩
    rw [if_pos (fun k h4 h5 => by omega)]
    refine lp_end ?_
    show B_X3_isWord_20 i (nI b) (nI n) bytes (nI j) = _
    unfold B_X3_isWord_20
    rw [xlt (by omega), j_length i hi, xb1, xle (by omega) (by omega), if_pos (by omega)]
  | succ d ih =>
    intro j K h2 h3
    obtain ⟨K', rfl⟩ : ∃ K', K = K' + 1 := ⟨K - 1, by omega⟩
    by_cases q : sg (b + j) = (strB.getD i []).getD j 0
    · have e : (∀ k, k < strL.getD i 0 → j + 1 ≤ k → sg (b + k) = (strB.getD i []).getD k 0) ↔ (∀ k, k < strL.getD i 0 → j ≤ k → sg (b + k) = (strB.getD i []).getD k 0) := by
        constructor
        · intro z k h4 h5
          by_cases e : k = j
          · rw [e]; exact q
          · exact z k h4 (by omega)
        · intro z k h4 h5; exact z k h4 (by omega)
      have := ih (j + 1) K' (by omega) (by omega)
      rw [lp_one (u' := nI (j + 1))]
      · rw [this]
        by_cases z : ∀ k, k < strL.getD i 0 → j ≤ k → sg (b + k) = (strB.getD i []).getD k 0
        · rw [if_pos z, if_pos (e.mpr z)]
        · rw [if_neg z, if_neg (fun y => z (e.mp y))]
      · show B_X3_isWord_20 i (nI b) (nI n) bytes (nI j) = _
        unfold B_X3_isWord_20
        rw [xlt (by omega), j_length i hi, xb1, xle (by omega) (by omega), if_neg (by omega), nI_add, c_sign h hb (by omega), xb1, xlt (by omega), j_charAt i hi j (by omega), xb1, if_pos q, nI_1]
    · rw [if_neg (fun z => q (z j (by omega) (Nat.le_refl _)))]
      refine lp_end ?_
      show B_X3_isWord_20 i (nI b) (nI n) bytes (nI j) = _
      unfold B_X3_isWord_20
      rw [xlt (by omega), j_length i hi, xb1, xle (by omega) (by omega), if_neg (by omega), nI_add, c_sign h hb (by omega), xb1, xlt (by omega), j_charAt i hi j (by omega), xb1, if_neg q]
theorem c_isWord {K n b i : Nat} {sg bytes : Nat → Int32} (h : Sg n sg) (hb : TpC n sg bytes) (hK : 400 ≤ K) (hbn : b ≤ n) (hi : i < 12) : F_X3_isWord K i bytes (nI n) (nI (wE n sg b)) (nI b) = some (if wd n sg i b = true then 1 else 0) := by
  have hl := strL_le i hi
  have h1 := h.1
  have h2 := wE_le h hbn
  have h3 := wE_ge h hbn
  unfold F_X3_isWord
  rw [xlt (by omega), j_length i hi, xb1, xsub h3, xeq (by omega) (by omega)]
  unfold wd
  by_cases q : wE n sg b - b = strL.getD i 0
  · rw [if_pos q, show lpF (fun u9 : Int32 => B_X3_isWord_20 i (nI b) (nI n) bytes u9) K (0 : Int32) = _ from c_wloop h hb hbn hi (strL.getD i 0) 0 K (by omega) (by omega), xb1]
    by_cases z : ∀ j, j < strL.getD i 0 → sg (b + j) = (strB.getD i []).getD j 0
    · rw [if_pos (fun k h4 _ => z k h4), if_pos (decide_eq_true ⟨q, z⟩)]; rfl
    · rw [if_neg (show ¬ (∀ k, k < strL.getD i 0 → 0 ≤ k → sg (b + k) = (strB.getD i []).getD k 0) from fun y => z (fun j h4 => y j h4 (by omega))), if_neg (show ¬ (decide (wE n sg b - b = strL.getD i 0 ∧ ∀ j, j < strL.getD i 0 → sg (b + j) = (strB.getD i []).getD j 0) = true) from fun y => z (of_decide_eq_true y).2)]; rfl
  · rw [if_neg q, if_neg (fun y => q (of_decide_eq_true y).1)]
theorem m_isWord {c pw : Int64} {pa : Int32} : F_X8_isWord c pa pw = some (if pa = 1 ∧ pw = c then 1 else 0) := by
  unfold F_X8_isWord
  by_cases q : pa = 1
  · rw [if_pos q]
    by_cases z : pw = c
    · rw [if_pos ((lg_cmp_eq pw c).mpr z), if_pos ⟨q, z⟩]
    · rw [if_neg (fun y => z ((lg_cmp_eq pw c).mp y)), if_neg (fun y => z y.2)]
  · rw [if_neg q, if_neg (fun y => q y.1)]
def cdF (i : Nat) : Int64 := ([632453, 12343, 2610628, 244780, 20141, 656049733, 441972, 657161, 442053, 1156, 648643, 220370757] : List Int64).getD i 0
def vN (dg : Nat → Nat) : Nat → Nat
  | 0 => 0
  | i + 1 => 32 * vN dg i + dg i
def encR : List Nat → Nat
  | [] => 0
  | d :: ds => 32 * encR ds + d
theorem vN_inj {dg : Nat → Nat} : ∀ (ds : List Nat) (L : Nat), (∀ d ∈ ds, 1 ≤ d ∧ d ≤ 26) → (∀ k, k < L → 1 ≤ dg k ∧ dg k ≤ 26) → vN dg L = encR ds → L = ds.length ∧ ∀ k, k < L → dg k = ds.getD (L - 1 - k) 0 := by
  intro ds
  induction ds with
  | nil =>
    intro L _ h2 h3
    cases L with
    | zero => exact ⟨rfl, fun k h => by omega⟩
    | succ L =>
      exfalso
      have a := h2 L (by omega)
      have e : 32 * vN dg L + dg L = 0 := h3
      omega
  | cons d ds ih =>
    intro L h1 h2 h3
    have hd := h1 d List.mem_cons_self
    cases L with
    | zero =>
      exfalso
      have e : 0 = 32 * encR ds + d := h3
      omega
    | succ L =>
      have a := h2 L (by omega)
      have e : 32 * vN dg L + dg L = 32 * encR ds + d := h3
      obtain ⟨e1, e2⟩ := ih L (fun x hx => h1 x (List.mem_cons_of_mem _ hx)) (fun k hk => h2 k (by omega)) (by omega)
      refine ⟨by rw [List.length_cons]; omega, fun k hk => ?_⟩
      by_cases q : k = L
      · subst q
        rw [show k + 1 - 1 - k = 0 by omega]
        show dg k = d
        omega
      · rw [e2 k (by omega), show L + 1 - 1 - k = (L - 1 - k) + 1 by omega]
        rfl
theorem vN_eq {dg : Nat → Nat} : ∀ (ds : List Nat), (∀ k, k < ds.length → dg k = ds.getD (ds.length - 1 - k) 0) → vN dg ds.length = encR ds := by
  intro ds
  induction ds with
  | nil => intro _; rfl
  | cons d ds ih =>
    intro h
    show 32 * vN dg ds.length + dg ds.length = 32 * encR ds + d
    have a := h ds.length (by rw [List.length_cons]; omega)
    rw [show (d :: ds).length - 1 - ds.length = 0 by rw [List.length_cons]; omega] at a
    rw [ih (fun k hk => ?_), a]
    · rfl
    · have c := h k (by rw [List.length_cons]; omega)
      rw [show (d :: ds).length - 1 - k = (ds.length - 1 - k) + 1 by rw [List.length_cons]; omega] at c
      exact c
theorem vN_lt {dg : Nat → Nat} : ∀ L, (∀ k, k < L → dg k ≤ 26) → vN dg L < 32 ^ L := by
  intro L
  induction L with
  | zero => intro _; exact Nat.one_pos
  | succ L ih =>
    intro h
    have a := ih (fun k hk => h k (by omega))
    have c := h L (by omega)
    show 32 * vN dg L + dg L < 32 ^ (L + 1)
    rw [Nat.pow_succ]
    omega
theorem w64 {x : Int64} {y : Int32} {v : Nat} (hx : x.toInt = (v : Int)) (hv : v < 2 ^ 40) (h1 : 97 ≤ y.toInt) (h2 : y.toInt ≤ 122) : (32 * x + y.toInt64 - 97 + 1).toInt = ((32 * v + (y.toInt.toNat - 96) : Nat) : Int) := by
  have t32 : (32 : Int64).toInt = 32 := by decide
  have t97 : (97 : Int64).toInt = 97 := by decide
  have t1 : (1 : Int64).toInt = 1 := by decide
  rw [Int64.toInt_add, Int64.toInt_sub, Int64.toInt_add, Int64.toInt_mul, t32, t97, t1, hx, Int32.toInt_toInt64]
  rw [Int.bmod_eq_of_le (n := 32 * (v : Int)) (by omega) (by omega), Int.bmod_eq_of_le (n := 32 * (v : Int) + y.toInt) (by omega) (by omega), Int.bmod_eq_of_le (n := 32 * (v : Int) + y.toInt - 97) (by omega) (by omega), Int.bmod_eq_of_le (by omega) (by omega)]
  omega
def dgF (sg : Nat → Int32) (b k : Nat) : Nat := (sg (b + k)).toInt.toNat - 96
theorem wc_vN {sg : Nat → Int32} {b : Nat} : ∀ L, L ≤ 8 → (∀ k, k < L → 97 ≤ sg (b + k) ∧ sg (b + k) ≤ 122) → (wc sg b L).toInt = ((vN (dgF sg b) L : Nat) : Int) := by
  have a97 : (97 : Int32).toInt = 97 := by decide
  have a122 : (122 : Int32).toInt = 122 := by decide
  intro L
  induction L with
  | zero => intro _ _; rfl
  | succ L ih =>
    intro h1 h2
    have e := ih (by omega) (fun k hk => h2 k (by omega))
    obtain ⟨c1, c2⟩ := h2 L (by omega)
    rw [Int32.le_iff_toInt_le, a97] at c1
    rw [Int32.le_iff_toInt_le, a122] at c2
    have hv : vN (dgF sg b) L < 32 ^ L := vN_lt L (fun k hk => by
      obtain ⟨d1, d2⟩ := h2 k (by omega)
      rw [Int32.le_iff_toInt_le, a122] at d2
      unfold dgF
      omega)
    have hp : 32 ^ L ≤ 32 ^ 8 := Nat.pow_le_pow_right (by decide) (by omega)
    have hp8 : 32 ^ 8 = 2 ^ 40 := by decide
    show (if L < 8 then 32 * wc sg b L + (sg (b + L)).toInt64 - 97 + 1 else 0 : Int64).toInt = _
    rw [if_pos (by omega), w64 e (by omega) c1 c2]
    rfl
def dsF (i : Nat) : List Nat := ((strB.getD i []).map (fun z => z.toInt.toNat - 96)).reverse
theorem ds_len : ∀ i, i < 12 → (dsF i).length = strL.getD i 0 := by decide +kernel
theorem ds_rng : ∀ i, i < 12 → ∀ d ∈ dsF i, 1 ≤ d ∧ d ≤ 26 := by decide +kernel
theorem ds_cd : ∀ i, i < 12 → (cdF i).toInt = ((encR (dsF i) : Nat) : Int) := by decide +kernel
theorem ds_at : ∀ i, i < 12 → ∀ j, j < strL.getD i 0 → (strB.getD i []).getD j 0 = nI ((dsF i).getD (strL.getD i 0 - 1 - j) 0 + 96) := by decide +kernel
theorem cd_pos : ∀ i, i < 12 → ¬ cdF i = 0 := by decide +kernel
theorem wc_long {sg : Nat → Int32} {b L : Nat} (h : 9 ≤ L) : wc sg b L = 0 := by
  obtain ⟨L', rfl⟩ : ∃ L', L = L' + 1 := ⟨L - 1, by omega⟩
  show (if L' < 8 then _ else 0 : Int64) = 0
  exact if_neg (by omega)
/-- the reference's number of a word says which string it is -/
theorem wEq {n b i : Nat} {sg : Nat → Int32} (h : Sg n sg) (hbn : b ≤ n) (hi : i < 12) : wc sg b (wE n sg b - b) = cdF i ↔ wd n sg i b = true := by
  have a97 : (97 : Int32).toInt = 97 := by decide
  have a122 : (122 : Int32).toInt = 122 := by decide
  have h3 := wE_ge h hbn
  have hl := strL_le i hi
  have hin : ∀ k, k < wE n sg b - b → 97 ≤ sg (b + k) ∧ sg (b + k) ≤ 122 := fun k hk => wE_in h hbn (by omega) (by omega)
  have hsg : ∀ k, k < wE n sg b - b → sg (b + k) = nI (dgF sg b k + 96) ∧ 1 ≤ dgF sg b k ∧ dgF sg b k ≤ 26 := fun k hk => by
    obtain ⟨c1, c2⟩ := hin k hk
    rw [Int32.le_iff_toInt_le, a97] at c1
    rw [Int32.le_iff_toInt_le, a122] at c2
    unfold dgF
    refine ⟨Int32.toInt_inj.mp ?_, by omega, by omega⟩
    rw [nI_toInt (by omega)]
    omega
  constructor
  · intro q
    have hL : wE n sg b - b ≤ 8 := Nat.le_of_not_lt (fun z => cd_pos i hi (q.symm.trans (wc_long (by omega))))
    have e := congrArg Int64.toInt q
    rw [wc_vN _ hL hin, ds_cd i hi] at e
    obtain ⟨e1, e2⟩ := vN_inj (dsF i) _ (ds_rng i hi) (fun k hk => (hsg k hk).2) (Int.ofNat_inj.mp e)
    rw [ds_len i hi] at e1
    unfold wd
    refine decide_eq_true ⟨e1, fun j hj => ?_⟩
    rw [(hsg j (by omega)).1, e2 j (by omega), ds_at i hi j hj, e1]
  · intro q
    obtain ⟨e1, e2⟩ := of_decide_eq_true (show decide _ = true from q)
    refine Int64.toInt_inj.mp ?_
    rw [wc_vN _ (by omega) hin, ds_cd i hi, e1, ← ds_len i hi]
    refine Int.ofNat_inj.mpr (vN_eq (dsF i) (fun k hk => ?_))
    rw [ds_len i hi] at hk ⊢
    have e3 := e2 k hk
    have b1 : (dsF i).getD (strL.getD i 0 - 1 - k) 0 ≤ 26 := by
      by_cases z : strL.getD i 0 - 1 - k < (dsF i).length
      · have := ds_rng i hi ((dsF i).getD (strL.getD i 0 - 1 - k) 0) (by
          rw [List.getD_eq_getElem?_getD, List.getElem?_eq_getElem z]
          exact List.getElem_mem z)
        exact this.2
      · rw [List.getD_eq_getElem?_getD, List.getElem?_eq_none (by omega)]; decide
    have b2 := (hsg k (by omega)).2.2
    rw [(hsg k (by omega)).1, ds_at i hi k hk, nI_eq (by omega) (by omega)] at e3
    omega
/-- the reference's question for a word, asked where the token at b lies ahead -/
theorem m_isW {n b i : Nat} {sg : Nat → Int32} {at' pa fr pn : Int32} {pw : Int64} (h : Sg n sg) (hbn : b ≤ n) (hi : i < 12) (hl : LA n sg b at' pa fr pn pw) : F_X8_isWord (cdF i) pa pw = some (if (97 ≤ sg b ∧ sg b ≤ 122) ∧ wd n sg i b = true then 1 else 0) := by
  obtain ⟨-, e2, -, -, e5⟩ := hl
  rw [m_isWord, e2]
  by_cases q : 97 ≤ sg b ∧ sg b ≤ 122
  · have e6 := e5 (tk1.mpr q)
    rw [e6]
    by_cases z : wd n sg i b = true
    · rw [if_pos ⟨tk1.mpr q, (wEq h hbn hi).mpr z⟩, if_pos ⟨q, z⟩]
    · rw [if_neg (fun y => z ((wEq h hbn hi).mp y.2)), if_neg (fun y => z y.2)]
  · rw [if_neg (fun y => q (tk1.mp y.1)), if_neg (fun y => q y.1)]
end
-- 54.ps
section
/-! both readers, number by number, word by word -/
theorem strL_ge : ∀ i, i < 12 → 3 ≤ strL.getD i 0 := by decide +kernel
theorem cd_inj : ∀ i, i < 12 → ∀ j, j < 12 → cdF i = cdF j → i = j := by decide +kernel
theorem wd_letter {n b i : Nat} {sg : Nat → Int32} (h : Sg n sg) (hbn : b ≤ n) (hi : i < 12) (q : wd n sg i b = true) : 97 ≤ sg b ∧ sg b ≤ 122 := by
  obtain ⟨e1, -⟩ := of_decide_eq_true (show decide _ = true from q)
  have := strL_ge i hi
  exact (wE_lt h hbn).mp (by omega)
theorem wd_excl {n b i j : Nat} {sg : Nat → Int32} (h : Sg n sg) (hbn : b ≤ n) (hi : i < 12) (hj : j < 12) (q1 : wd n sg i b = true) (q2 : wd n sg j b = true) : i = j := cd_inj i hi j hj (((wEq h hbn hi).mpr q1).symm.trans ((wEq h hbn hj).mpr q2))
theorem m_isX {n b i : Nat} {sg : Nat → Int32} {at' pa fr pn : Int32} {pw : Int64} (h : Sg n sg) (hbn : b ≤ n) (hi : i < 12) (hl : LA n sg b at' pa fr pn pw) : F_X8_isWord (cdF i) pa pw = some (if wd n sg i b = true then 1 else 0) := by
  rw [m_isW h hbn hi hl]
  by_cases z : wd n sg i b = true
  · rw [if_pos ⟨wd_letter h hbn hi z, z⟩, if_pos z]
  · rw [if_neg (fun y => z y.2), if_neg z]
/-- which law the word at b names -/
def lw (n : Nat) (sg : Nat → Int32) (b : Nat) : Int32 := if wd n sg 4 b = true then 0 else if wd n sg 5 b = true then 1 else if wd n sg 6 b = true then 2 else if wd n sg 7 b = true then 3 else -1
theorem lw_letter {n b : Nat} {sg : Nat → Int32} (h : Sg n sg) (hbn : b ≤ n) (q : ¬ lw n sg b = -1) : 97 ≤ sg b ∧ sg b ≤ 122 := by
  unfold lw at q
  by_cases z4 : wd n sg 4 b = true
  · exact wd_letter h hbn (by decide) z4
  · rw [if_neg z4] at q
    by_cases z5 : wd n sg 5 b = true
    · exact wd_letter h hbn (by decide) z5
    · rw [if_neg z5] at q
      by_cases z6 : wd n sg 6 b = true
      · exact wd_letter h hbn (by decide) z6
      · rw [if_neg z6] at q
        by_cases z7 : wd n sg 7 b = true
        · exact wd_letter h hbn (by decide) z7
        · rw [if_neg z7] at q
          exact absurd rfl q
theorem c_lawOfWord {K n b : Nat} {sg bytes : Nat → Int32} (h : Sg n sg) (hb : TpC n sg bytes) (hK : 400 ≤ K) (hbn : b ≤ n) : F_X3_lawOfWord K bytes (nI n) (nI (wE n sg b)) (nI b) = some (lw n sg b) := by
  unfold F_X3_lawOfWord lw
  rw [c_isWord h hb hK hbn (by decide), xb1, c_isWord h hb hK hbn (by decide), xb1, c_isWord h hb hK hbn (by decide), xb1, c_isWord h hb hK hbn (by decide), xb1]
  by_cases z4 : wd n sg 4 b = true
  · rw [if_pos z4, if_pos z4]; rfl
  · rw [if_neg z4, if_neg z4, if_pos rfl]
    by_cases z5 : wd n sg 5 b = true
    · rw [if_pos z5, if_pos z5]; rfl
    · rw [if_neg z5, if_neg z5, if_pos rfl]
      by_cases z6 : wd n sg 6 b = true
      · rw [if_pos z6, if_pos z6]; rfl
      · rw [if_neg z6, if_neg z6, if_pos rfl]
        by_cases z7 : wd n sg 7 b = true
        · rw [if_pos z7, if_pos z7]; rfl
        · rw [if_neg z7, if_neg z7]; rfl
theorem c_readLaw {K n a : Nat} {sg bytes : Nat → Int32} {w nu f : Int32} (h : Sg n sg) (hb : TpC n sg bytes) (hK : 400 ≤ K) (ha : a ≤ n) : ∃ at' w' nu', F_X3_readLaw K bytes (nI n) (nI a) w nu f = some (if lw n sg (skp n sg a) = -1 then 0 else 1, at', w', nu', if lw n sg (skp n sg a) = -1 then nI (skp n sg a) else f) ∧ (¬ lw n sg (skp n sg a) = -1 → at' = nI (wE n sg (skp n sg a)) ∧ nu' = lw n sg (skp n sg a)) := by
  have h2 := skp_le h ha
  unfold F_X3_readLaw
  rw [c_readWord h hb hK ha]
  generalize skp n sg a = b at h2 ⊢
  by_cases q : b < wE n sg b
  · rw [if_pos q, xb4, if_neg (by decide), c_lawOfWord h hb hK h2, xb1]
    by_cases z : lw n sg b = -1
    · rw [if_pos z, if_pos z, if_pos z]
      exact ⟨_, _, _, rfl, fun y => absurd z y⟩
    · rw [if_neg z, if_neg z, if_neg z]
      exact ⟨_, _, _, rfl, fun _ => ⟨rfl, rfl⟩⟩
  · rw [if_neg q, xb4, if_pos rfl]
    have z : lw n sg b = -1 := Classical.byContradiction (fun y => q ((wE_lt h h2).mpr (lw_letter h h2 y)))
    rw [if_pos z, if_pos z]
    exact ⟨_, _, _, rfl, fun y => absurd z y⟩
theorem m_word4 {K : Nat} (hK : 400 ≤ K) : F_X8_word K 115 117 109 0 0 0 = some (cdF 4) := by
  obtain ⟨k, rfl⟩ : ∃ k, K = k + 10 := ⟨K - 10, by omega⟩
  rfl
theorem m_word5 {K : Nat} (hK : 400 ≤ K) : F_X8_word K 115 113 117 97 114 101 = some (cdF 5) := by
  obtain ⟨k, rfl⟩ : ∃ k, K = k + 10 := ⟨K - 10, by omega⟩
  rfl
theorem m_word6 {K : Nat} (hK : 400 ≤ K) : F_X8_word K 109 111 115 116 0 0 = some (cdF 6) := by
  obtain ⟨k, rfl⟩ : ∃ k, K = k + 10 := ⟨K - 10, by omega⟩
  rfl
theorem m_word7 {K : Nat} (hK : 400 ≤ K) : F_X8_word K 116 97 120 105 0 0 = some (cdF 7) := by
  obtain ⟨k, rfl⟩ : ∃ k, K = k + 10 := ⟨K - 10, by omega⟩
  rfl
theorem m_bad {fr wr : Int32} : F_X8_bad fr wr = some (if wr = -1 then fr else wr) := by
  unfold F_X8_bad
  by_cases q : wr = -1
  · rw [if_pos q, if_pos q]
  · rw [if_neg q, if_neg q]
theorem m_adv {K n b : Nat} {sg tape : Nat → Int32} {at' pa fr pn : Int32} {pw : Int64} (h : Sg n sg) (hb : TpM n sg tape) (hK : 400 ≤ K) (hbn : b ≤ n) (hl : LA n sg b at' pa fr pn pw) : ∃ a2 p2 f2 n2 w2, F_X8_next K tape (nI n) at' pa fr pn pw = some (a2, p2, f2, n2, w2) ∧ LA n sg (skp n sg (te n sg b)) a2 p2 f2 n2 w2 := by
  rw [hl.1]
  exact m_next h hb hK (te_le h hbn)
theorem m_number {K n b : Nat} {sg tape : Nat → Int32} {lo hi at' pa fr pn : Int32} {pw : Int64} (h : Sg n sg) (hb : TpM n sg tape) (hK : 400 ≤ K) (hbn : b ≤ n) (hl : LA n sg b at' pa fr pn pw) : (¬ okN n sg lo hi b → F_X8_number K lo hi tape (nI n) at' pa fr pn (-1) pw = some (lo, at', pa, fr, pn, nI b, pw)) ∧ (okN n sg lo hi b → ∃ a2 p2 f2 n2 w2, F_X8_number K lo hi tape (nI n) at' pa fr pn (-1) pw = some (nN n sg b, a2, p2, f2, n2, -1, w2) ∧ LA n sg (skp n sg (dE n sg b)) a2 p2 f2 n2 w2) := by
  unfold F_X8_number
  rw [if_pos rfl, m_bad, if_pos rfl, xb1, m_inI, xb1]
  obtain ⟨e1, e2, e3, e4, e5⟩ := id hl
  by_cases q : tk n sg b = 2
  · have q2 := tk2.mp q
    rw [e2, if_pos q, e4 q]
    by_cases z : lo ≤ nN n sg b ∧ nN n sg b ≤ hi
    · have ok : okN n sg lo hi b := ⟨q2.1, q2.2, z.1, z.2⟩
      refine ⟨fun y => absurd ok y, fun _ => ?_⟩
      rw [if_pos z, if_neg (by decide)]
      obtain ⟨a2, p2, f2, n2, w2, x1, x2⟩ := m_adv h hb hK hbn (show LA n sg b at' (tk n sg b) fr (nN n sg b) pw from ⟨e1, rfl, e3, fun _ => rfl, e5⟩)
      rw [x1, xb5]
      rw [te_n q2.1] at x2
      exact ⟨a2, p2, f2, n2, w2, rfl, x2⟩
    · refine ⟨fun _ => ?_, fun y => absurd ⟨y.2.2.1, y.2.2.2⟩ z⟩
      rw [if_neg z, if_pos rfl, e3]
  · refine ⟨fun _ => ?_, fun y => absurd (tk2.mpr ⟨y.1, y.2.1⟩) q⟩
    rw [e2, if_neg q, e3]
theorem m_numberW {K : Nat} {tape : Nat → Int32} {lo hi td at' pa fr pn wr : Int32} {pw : Int64} (hw : ¬ wr = -1) : F_X8_number K lo hi tape td at' pa fr pn wr pw = some (lo, at', pa, fr, pn, wr, pw) := by
  unfold F_X8_number
  rw [if_neg hw, m_bad, if_neg hw, xb1]
theorem m_comma {K n b : Nat} {sg tape : Nat → Int32} {at' pa fr pn : Int32} {pw : Int64} (h : Sg n sg) (hb : TpM n sg tape) (hK : 400 ≤ K) (hbn : b ≤ n) (hl : LA n sg b at' pa fr pn pw) : (¬ sg b = 44 → F_X8_comma K tape (nI n) at' pa fr pn (-1) pw = some (at', pa, fr, pn, nI b, pw)) ∧ (sg b = 44 → ∃ a2 p2 f2 n2 w2, F_X8_comma K tape (nI n) at' pa fr pn (-1) pw = some (a2, p2, f2, n2, -1, w2) ∧ LA n sg (skp n sg (b + 1)) a2 p2 f2 n2 w2) := by
  unfold F_X8_comma
  rw [if_pos rfl, m_bad, if_pos rfl, xb1]
  obtain ⟨e1, e2, e3, e4, e5⟩ := id hl
  by_cases q : sg b = 44
  · refine ⟨fun y => absurd q y, fun _ => ?_⟩
    rw [if_pos (e2.trans (tk3.mpr q))]
    obtain ⟨a2, p2, f2, n2, w2, x1, x2⟩ := m_adv h hb hK hbn hl
    rw [x1, xb5]
    rw [te_s q (Or.inl rfl)] at x2
    exact ⟨a2, p2, f2, n2, w2, rfl, x2⟩
  · refine ⟨fun _ => ?_, fun y => absurd y q⟩
    rw [if_neg (fun y => q (tk3.mp (e2.symm.trans y))), e3]
theorem m_commaW {K : Nat} {tape : Nat → Int32} {td at' pa fr pn wr : Int32} {pw : Int64} (hw : ¬ wr = -1) : F_X8_comma K tape td at' pa fr pn wr pw = some (at', pa, fr, pn, wr, pw) := by
  unfold F_X8_comma
  rw [if_neg hw, m_bad, if_neg hw, xb1]
theorem m_lawWord {K n b : Nat} {sg tape : Nat → Int32} {at' pa fr pn : Int32} {pw : Int64} (h : Sg n sg) (hb : TpM n sg tape) (hK : 400 ≤ K) (hbn : b ≤ n) (hl : LA n sg b at' pa fr pn pw) : (lw n sg b = -1 → F_X8_lawWord K tape (nI n) at' pa fr pn (-1) pw = some (0, at', pa, fr, pn, nI b, pw)) ∧ (¬ lw n sg b = -1 → ∃ a2 p2 f2 n2 w2, F_X8_lawWord K tape (nI n) at' pa fr pn (-1) pw = some (lw n sg b, a2, p2, f2, n2, -1, w2) ∧ LA n sg (skp n sg (wE n sg b)) a2 p2 f2 n2 w2) := by
  obtain ⟨e1, e2, e3, e4, e5⟩ := id hl
  have J : ∀ k0 : Int32, (k0 = -1 → J_X8_lawWord_98 K (nI n) tape k0 at' pa fr pn (-1) pw = some (0, at', pa, fr, pn, nI b, pw)) ∧ (¬ k0 = -1 → (97 ≤ sg b ∧ sg b ≤ 122) → ∃ a2 p2 f2 n2 w2, J_X8_lawWord_98 K (nI n) tape k0 at' pa fr pn (-1) pw = some (k0, a2, p2, f2, n2, -1, w2) ∧ LA n sg (skp n sg (wE n sg b)) a2 p2 f2 n2 w2) := by
    intro k0
    unfold J_X8_lawWord_98
    rw [if_pos rfl, m_bad, if_pos rfl, xb1]
    refine ⟨fun q => by rw [if_pos q, e3], fun q z => ?_⟩
    rw [if_neg q]
    obtain ⟨a2, p2, f2, n2, w2, x1, x2⟩ := m_adv h hb hK hbn hl
    rw [x1, xb5]
    rw [te_w z] at x2
    exact ⟨a2, p2, f2, n2, w2, rfl, x2⟩
  have E : F_X8_lawWord K tape (nI n) at' pa fr pn (-1) pw = J_X8_lawWord_98 K (nI n) tape (lw n sg b) at' pa fr pn (-1) pw := by
    unfold F_X8_lawWord lw
    rw [m_word4 hK, xb1, m_isX h hbn (by decide) hl, xb1, m_word5 hK, xb1, m_isX h hbn (by decide) hl, xb1, m_word6 hK, xb1, m_isX h hbn (by decide) hl, xb1, m_word7 hK, xb1, m_isX h hbn (by decide) hl, xb1]
    by_cases z4 : wd n sg 4 b = true
    · rw [if_pos z4, if_pos z4, if_neg (by decide)]
    · rw [if_neg z4, if_neg z4, if_pos rfl]
      by_cases z5 : wd n sg 5 b = true
      · rw [if_pos z5, if_pos z5, if_neg (by decide)]
      · rw [if_neg z5, if_neg z5, if_pos rfl]
        by_cases z6 : wd n sg 6 b = true
        · rw [if_pos z6, if_pos z6, if_neg (by decide)]
        · rw [if_neg z6, if_neg z6, if_pos rfl]
          by_cases z7 : wd n sg 7 b = true
          · rw [if_pos z7, if_pos z7, if_neg (by decide)]
          · rw [if_neg z7, if_neg z7, if_pos rfl]
  rw [E]
  exact ⟨fun q => (J _).1 q, fun q => (J _).2 q (lw_letter h hbn q)⟩
/-- two numbers with a comma, from b on: where it fails, or its end and the numbers -/
def siS (n : Nat) (sg : Nat → Int32) (b : Nat) : Nat ⊕ (Nat × Int32 × Int32) := if okN n sg (-999) 999 b then (if sg (skp n sg (dE n sg b)) = 44 then (if okN n sg (-999) 999 (skp n sg (skp n sg (dE n sg b) + 1)) then .inr (dE n sg (skp n sg (skp n sg (dE n sg b) + 1)), nN n sg b, nN n sg (skp n sg (skp n sg (dE n sg b) + 1))) else .inl (skp n sg (skp n sg (dE n sg b) + 1))) else .inl (skp n sg (dE n sg b))) else .inl b
theorem sg44_lt {n b : Nat} {sg : Nat → Int32} (h : Sg n sg) {p : Int32} (hp : ¬ p = -1) (q : sg b = p) : b < n := Nat.lt_of_not_le (fun z => hp (q.symm.trans (h.2.1 b z)))
theorem nI_mulc (k : Nat) (a : Nat) : nI k * nI a = nI (k * a) := nI_mul k a
theorem x2c : (2 : Int32) = nI 2 := by decide
theorem c_readSite {K n a s : Nat} {sg bytes pl : Nat → Int32} {ws nu f : Int32} (h : Sg n sg) (hb : TpC n sg bytes) (hK : 400 ≤ K) (ha : a ≤ n) (hs : s < 8) : ∃ pl' at' nu' f' r s', F_X3_readSite K bytes (nI n) pl (nI s) (nI a) ws nu f = some (r, pl', s', at', nu', f') ∧ (∀ p, siS n sg (skp n sg a) = .inl p → r = 0 ∧ f' = nI p) ∧ (∀ e v1 v2, siS n sg (skp n sg a) = .inr (e, v1, v2) → r = 1 ∧ f' = f ∧ s' = nI (s + 1) ∧ at' = nI e ∧ pl' = upd (upd pl (2 * s) v1) (2 * s + 1) v2) := by
  have h1 := h.1
  have h2 := skp_le h ha
  obtain ⟨k, rfl⟩ : ∃ k, K = k + 400 := ⟨K - 400, by omega⟩
  unfold F_X3_readSite
  rw [x8, xltn (by omega) (by decide), if_pos hs]
  obtain ⟨at1, nu1, R1, R1o⟩ := c_readNumber (lo := -999) (hi := 999) (nu := nu) (f := f) h hb hK ha
  generalize hbe : skp n sg a = b at h2 R1 R1o ⊢
  have i0 : (2 : Int32) * nI s + 0 = nI (2 * s) := by rw [x2c, nI_mulc, x0, nI_add]; rfl
  have i1 : (2 : Int32) * nI s + 1 = nI (2 * s + 1) := by rw [x2c, nI_mulc, nI_1]
  have b0 : B_X3_readSite_20 (k + 400) (nI n) bytes (nI s) 0 pl (nI a) nu f = J_X3_readSite_41_r21 (k + 400) (nI n) bytes 0 pl (nI s) (nI a) nu f := by
    unfold B_X3_readSite_20
    rw [if_neg (by decide), if_neg (by decide)]
  by_cases q1 : okN n sg (-999) 999 b
  · obtain ⟨rfl, rfl⟩ := R1o q1
    rw [if_pos q1, if_pos q1] at R1
    have h3 := dE_le h h2
    have e0 : B_X3_readSite_20 (k + 400) (nI n) bytes (nI s) 0 pl (nI a) nu f = some (.inl (0 + 1, upd pl (2 * s) (nN n sg b), nI (dE n sg b), nN n sg b, f)) := by
      rw [b0]
      unfold J_X3_readSite_41_r21
      rw [R1, xb4, if_neg (by decide), i0, xixn (by omega) (by decide), xnm, nI_clamp (by omega)]
    have h4 := skp_le h h3
    have b1 : B_X3_readSite_20 (k + 400) (nI n) bytes (nI s) (0 + 1) (upd pl (2 * s) (nN n sg b)) (nI (dE n sg b)) (nN n sg b) f = bd3 (F_X3_readSign (k + 400) 44 bytes (nI n) (nI (dE n sg b)) f) (fun r_13 w_14 w_15 => if r_13 = (0 : Int32) then some (.inr (0, upd pl (2 * s) (nN n sg b), w_14, nN n sg b, w_15)) else J_X3_readSite_41_r21 (k + 400) (nI n) bytes (0 + 1) (upd pl (2 * s) (nN n sg b)) (nI s) w_14 (nN n sg b) w_15) := by
      unfold B_X3_readSite_20
      rw [if_neg (by decide), if_pos (by decide)]
    rw [c_readSign h hb hK h3] at b1
    by_cases q2 : sg (skp n sg (dE n sg b)) = 44
    · rw [if_pos q2, xb3, if_neg (by decide)] at b1
      have h5 := sg44_lt h (by decide) q2
      obtain ⟨at2, nu2, R2, R2o⟩ := c_readNumber (lo := -999) (hi := 999) (nu := nN n sg b) (f := f) h hb hK (show skp n sg (dE n sg b) + 1 ≤ n by omega)
      have h6 := skp_le h (show skp n sg (dE n sg b) + 1 ≤ n by omega)
      by_cases q3 : okN n sg (-999) 999 (skp n sg (skp n sg (dE n sg b) + 1))
      · obtain ⟨rfl, rfl⟩ := R2o q3
        rw [if_pos q3, if_pos q3] at R2
        have e1 : B_X3_readSite_20 (k + 400) (nI n) bytes (nI s) (0 + 1) (upd pl (2 * s) (nN n sg b)) (nI (dE n sg b)) (nN n sg b) f = some (.inl (0 + 1 + 1, upd (upd pl (2 * s) (nN n sg b)) (2 * s + 1) (nN n sg (skp n sg (skp n sg (dE n sg b) + 1))), nI (dE n sg (skp n sg (skp n sg (dE n sg b) + 1))), nN n sg (skp n sg (skp n sg (dE n sg b) + 1)), f)) := by
          rw [b1]
          unfold J_X3_readSite_41_r21
          rw [R2, xb4, if_neg (by decide), show (2 : Int32) * nI s + (0 + 1) = nI (2 * s + 1) from i1, xixn (by omega) (by decide), xnm, nI_clamp (by omega)]
        rw [lp_one (u' := ((0 + 1, upd pl (2 * s) (nN n sg b), nI (dE n sg b), nN n sg b, f) : Int32 × (Nat → Int32) × Int32 × Int32 × Int32)) e0]
        rw [lp_one (u' := ((0 + 1 + 1, upd (upd pl (2 * s) (nN n sg b)) (2 * s + 1) (nN n sg (skp n sg (skp n sg (dE n sg b) + 1))), nI (dE n sg (skp n sg (skp n sg (dE n sg b) + 1))), nN n sg (skp n sg (skp n sg (dE n sg b) + 1)), f) : Int32 × (Nat → Int32) × Int32 × Int32 × Int32)) e1]
        rw [lp_end (r := ((2, upd (upd pl (2 * s) (nN n sg b)) (2 * s + 1) (nN n sg (skp n sg (skp n sg (dE n sg b) + 1))), nI (dE n sg (skp n sg (skp n sg (dE n sg b) + 1))), nN n sg (skp n sg (skp n sg (dE n sg b) + 1)), f) : Nat × (Nat → Int32) × Int32 × Int32 × Int32)) (by show B_X3_readSite_20 (k + 400) (nI n) bytes (nI s) (0 + 1 + 1) _ _ _ _ = _; unfold B_X3_readSite_20; rw [if_pos (show (2 : Int32) ≤ 0 + 1 + 1 by decide)])]
        refine ⟨_, _, _, _, _, _, rfl, fun p e => ?_, fun e v1 v2 hq => ?_⟩
        · unfold siS at e
          rw [if_pos q1, if_pos q2, if_pos q3] at e
          cases e
        · unfold siS at hq
          rw [if_pos q1, if_pos q2, if_pos q3] at hq
          cases hq
          exact ⟨rfl, rfl, by rw [nI_1], rfl, rfl⟩
      · rw [if_neg q3, if_neg q3] at R2
        have e1 : B_X3_readSite_20 (k + 400) (nI n) bytes (nI s) (0 + 1) (upd pl (2 * s) (nN n sg b)) (nI (dE n sg b)) (nN n sg b) f = some (.inr (1, upd pl (2 * s) (nN n sg b), at2, nu2, nI (skp n sg (skp n sg (dE n sg b) + 1)))) := by
          rw [b1]
          unfold J_X3_readSite_41_r21
          rw [R2, xb4, if_pos rfl]
        rw [lp_one (u' := ((0 + 1, upd pl (2 * s) (nN n sg b), nI (dE n sg b), nN n sg b, f) : Int32 × (Nat → Int32) × Int32 × Int32 × Int32)) e0, lp_end (r := ((1, upd pl (2 * s) (nN n sg b), at2, nu2, nI (skp n sg (skp n sg (dE n sg b) + 1))) : Nat × (Nat → Int32) × Int32 × Int32 × Int32)) e1]
        refine ⟨_, _, _, _, _, _, rfl, fun p e => ?_, fun e v1 v2 hq => ?_⟩
        · unfold siS at e
          rw [if_pos q1, if_pos q2, if_neg q3] at e
          cases e
          exact ⟨rfl, rfl⟩
        · unfold siS at hq
          rw [if_pos q1, if_pos q2, if_neg q3] at hq
          cases hq
    · rw [if_neg q2, xb3, if_pos rfl] at b1
      rw [lp_one (u' := ((0 + 1, upd pl (2 * s) (nN n sg b), nI (dE n sg b), nN n sg b, f) : Int32 × (Nat → Int32) × Int32 × Int32 × Int32)) e0, lp_end (r := ((0, upd pl (2 * s) (nN n sg b), nI (skp n sg (dE n sg b)), nN n sg b, nI (skp n sg (dE n sg b))) : Nat × (Nat → Int32) × Int32 × Int32 × Int32)) b1]
      refine ⟨_, _, _, _, _, _, rfl, fun p e => ?_, fun e v1 v2 hq => ?_⟩
      · unfold siS at e
        rw [if_pos q1, if_neg q2] at e
        cases e
        exact ⟨rfl, rfl⟩
      · unfold siS at hq
        rw [if_pos q1, if_neg q2] at hq
        cases hq
  · rw [if_neg q1, if_neg q1] at R1
    have e0 : B_X3_readSite_20 (k + 400) (nI n) bytes (nI s) 0 pl (nI a) nu f = some (.inr (1, pl, at1, nu1, nI b)) := by
      rw [b0]
      unfold J_X3_readSite_41_r21
      rw [R1, xb4, if_pos rfl]
    rw [lp_end (r := ((1, pl, at1, nu1, nI b) : Nat × (Nat → Int32) × Int32 × Int32 × Int32)) e0]
    refine ⟨_, _, _, _, _, _, rfl, fun p e => ?_, fun e v1 v2 hq => ?_⟩
    · unfold siS at e
      rw [if_neg q1] at e
      cases e
      exact ⟨rfl, rfl⟩
    · unfold siS at hq
      rw [if_neg q1] at hq
      cases hq
end
-- 55.cl
section
/-! a clause in both readers -/
theorem nI_ne_m1 {p : Nat} (h : p < 2 ^ 31) : ¬ nI p = -1 := fun q => by
  have e := congrArg Int32.toInt q
  rw [nI_toInt h, show (-1 : Int32).toInt = -1 by decide] at e
  omega
theorem m_readSite {K n b s : Nat} {sg tape rp : Nat → Int32} {at' pa fr pn : Int32} {pw : Int64} (h : Sg n sg) (hb : TpM n sg tape) (hK : 400 ≤ K) (hbn : b ≤ n) (hs : s < 8) (hl : LA n sg b at' pa fr pn pw) : ∃ a2 p2 f2 n2 wr w2 rp2, F_X8_readSite K tape (nI n) at' pa fr pn (-1) pw (nI s) rp = some (a2, p2, f2, n2, wr, w2, nI (s + 1), rp2) ∧ (∀ p, siS n sg b = .inl p → wr = nI p) ∧ (∀ e v1 v2, siS n sg b = .inr (e, v1, v2) → wr = -1 ∧ LA n sg (skp n sg e) a2 p2 f2 n2 w2 ∧ rp2 = upd (upd rp (2 * s) v1) (2 * s + 1) v2) := by
  have h1 := h.1
  have i0 : (2 : Int32) * nI s = nI (2 * s) := by rw [x2c, nI_mulc]
  unfold F_X8_readSite
  rw [i0, nI_1, nI_clamp (by omega), nI_clamp (by omega), nI_1]
  unfold siS
  by_cases q1 : okN n sg (-999) 999 b
  · obtain ⟨a2, p2, f2, n2, w2, E1, L1⟩ := (m_number (lo := -999) (hi := 999) h hb hK hbn hl).2 q1
    rw [E1, xb7, xixn (by omega) (by decide), xnm, if_pos q1]
    have h3 := dE_le h hbn
    have h4 := skp_le h h3
    by_cases q2 : sg (skp n sg (dE n sg b)) = 44
    · obtain ⟨a3, p3, f3, n3, w3, E2, L2⟩ := (m_comma h hb hK h4 L1).2 q2
      have h5 := sg44_lt h (by decide) q2
      have h6 := skp_le h (show skp n sg (dE n sg b) + 1 ≤ n by omega)
      rw [E2, xb6, if_pos q2]
      by_cases q3 : okN n sg (-999) 999 (skp n sg (skp n sg (dE n sg b) + 1))
      · obtain ⟨a4, p4, f4, n4, w4, E3, L3⟩ := (m_number (lo := -999) (hi := 999) h hb hK h6 L2).2 q3
        rw [E3, xb7, xixn (by omega) (by decide), xnm, if_pos q3]
        refine ⟨_, _, _, _, _, _, _, rfl, fun p e => (by cases e), fun e v1 v2 hq => ?_⟩
        cases hq
        exact ⟨rfl, L3, rfl⟩
      · rw [(m_number (lo := -999) (hi := 999) h hb hK h6 L2).1 q3, xb7, xixn (by omega) (by decide), xnm, if_neg q3]
        refine ⟨_, _, _, _, _, _, _, rfl, fun p e => ?_, fun e v1 v2 hq => by cases hq⟩
        cases e
        rfl
    · rw [(m_comma h hb hK h4 L1).1 q2, xb6, m_numberW (nI_ne_m1 (by omega)), xb7, xixn (by omega) (by decide), xnm, if_neg q2]
      refine ⟨_, _, _, _, _, _, _, rfl, fun p e => ?_, fun e v1 v2 hq => by cases hq⟩
      cases e
      rfl
  · rw [(m_number (lo := -999) (hi := 999) h hb hK hbn hl).1 q1, xb7, xixn (by omega) (by decide), xnm, m_commaW (nI_ne_m1 (by omega)), xb6, m_numberW (nI_ne_m1 (by omega)), xb7, xixn (by omega) (by decide), xnm, if_neg q1]
    refine ⟨_, _, _, _, _, _, _, rfl, fun p e => ?_, fun e v1 v2 hq => by cases hq⟩
    cases e
    rfl
/-- a clause at b, with the rules m seen and s sites: where it fails, or its end, its sort, its numbers -/
def clS (n : Nat) (sg : Nat → Int32) (b m s : Nat) : Nat ⊕ (Nat × Nat × Int32 × Int32) :=
  if wd n sg 0 b = true then (if 8 ≤ s then .inl b else match siS n sg (skp n sg (wE n sg b)) with | .inl p => .inl p | .inr (e, v1, v2) => .inr (e, 3, v1, v2))
  else if wd n sg 1 b = true then (if m.testBit 0 = true then .inl b else if lw n sg (skp n sg (wE n sg b)) = -1 then .inl (skp n sg (wE n sg b)) else .inr (wE n sg (skp n sg (wE n sg b)), 0, lw n sg (skp n sg (wE n sg b)), 0))
  else if wd n sg 2 b = true then (if m.testBit 1 = true then .inl b else if okN n sg (-9999999) 9999999 (skp n sg (wE n sg b)) then .inr (dE n sg (skp n sg (wE n sg b)), 1, nN n sg (skp n sg (wE n sg b)), 0) else .inl (skp n sg (wE n sg b)))
  else if wd n sg 3 b = true then (if m.testBit 2 = true then .inl b else if okN n sg 1 9999 (skp n sg (wE n sg b)) then .inr (dE n sg (skp n sg (wE n sg b)), 2, nN n sg (skp n sg (wE n sg b)), 0) else .inl (skp n sg (wE n sg b)))
  else .inl b
/-- what a clause of sort k leaves -/
def mS (m k : Nat) : Nat := if k < 3 then m ||| (1 <<< k) else m
def sS (s k : Nat) : Nat := if k = 3 then s + 1 else s
def ruS (ru : Nat → Int32) (k : Nat) (v : Int32) : Nat → Int32 := if k < 3 then upd ru k v else ru
def plS (pl : Nat → Int32) (s k : Nat) (v1 v2 : Int32) : Nat → Int32 := if k = 3 then upd (upd pl (2 * s) v1) (2 * s + 1) v2 else pl
theorem bit_c : ∀ m, m < 8 → ∀ k, k < 3 → (((nI m >>> (nI k &&& 31)) &&& 1 = 0) ↔ ¬ m.testBit k = true) ∧ nI m ||| (1 <<< (nI k &&& 31)) = nI (m ||| (1 <<< k)) := by decide +kernel
theorem bit_m : ∀ m, m < 16 → ∀ k, k < 3 → (((nI m >>> (nI k &&& 31)) &&& 1 = 1) ↔ (m % 8).testBit k = true) ∧ nI m ||| (1 <<< (nI k &&& 31)) = nI (m ||| (1 <<< k)) := by decide +kernel
theorem c_ruleOfWord {K n b : Nat} {sg bytes : Nat → Int32} (h : Sg n sg) (hb : TpC n sg bytes) (hK : 400 ≤ K) (hbn : b ≤ n) : F_X3_ruleOfWord K bytes (nI n) (nI (wE n sg b)) (nI b) = some (if wd n sg 1 b = true then 0 else if wd n sg 2 b = true then 1 else if wd n sg 3 b = true then 2 else -1) := by
  unfold F_X3_ruleOfWord
  rw [c_isWord h hb hK hbn (by decide), xb1, c_isWord h hb hK hbn (by decide), xb1, c_isWord h hb hK hbn (by decide), xb1]
  by_cases z4 : wd n sg 1 b = true
  · rw [if_pos z4, if_pos z4]; rfl
  · rw [if_neg z4, if_neg z4, if_pos rfl]
    by_cases z5 : wd n sg 2 b = true
    · rw [if_pos z5, if_pos z5]; rfl
    · rw [if_neg z5, if_neg z5, if_pos rfl]
      by_cases z6 : wd n sg 3 b = true
      · rw [if_pos z6, if_pos z6]; rfl
      · rw [if_neg z6, if_neg z6]; rfl
theorem c_clause {K n a m s : Nat} {sg bytes ru pl : Nat → Int32} {ws nu f : Int32} (h : Sg n sg) (hb : TpC n sg bytes) (hK : 400 ≤ K) (ha : a ≤ n) (hm : m < 8) (hs : s ≤ 8) : ∃ r ru' pl' s' m' at' ws' nu' f', F_X3_readClause K bytes (nI n) ru pl (nI s) (nI m) (nI a) ws nu f = some (r, ru', pl', s', m', at', ws', nu', f') ∧ (∀ p, clS n sg (skp n sg a) m s = .inl p → r = 0 ∧ f' = nI p) ∧ (∀ e k v1 v2, clS n sg (skp n sg a) m s = .inr (e, k, v1, v2) → r = 1 ∧ f' = f ∧ at' = nI e ∧ s' = nI (sS s k) ∧ m' = nI (mS m k) ∧ ru' = ruS ru k v1 ∧ pl' = plS pl s k v1 v2) := by
  have h1 := h.1
  have h2 := skp_le h ha
  unfold F_X3_readClause
  rw [c_readWord h hb hK ha]
  generalize skp n sg a = b at h2 ⊢
  have h3 := wE_le h h2
  have h4 := skp_le h h3
  by_cases q : b < wE n sg b
  · rw [if_pos q, xb4, if_neg (by decide), c_isWord h hb hK h2 (by decide), xb1]
    unfold clS
    by_cases z0 : wd n sg 0 b = true
    · rw [if_pos z0, if_neg (by decide), if_pos z0]
      by_cases hs8 : 8 ≤ s
      · rw [if_pos hs8]
        have E : F_X3_readSite K bytes (nI n) pl (nI s) (nI (wE n sg b)) (nI b) nu f = some (0, pl, nI s, nI (wE n sg b), nu, nI b) := by
          unfold F_X3_readSite
          rw [x8, xltn (by omega) (by decide), if_neg (by omega)]
          rfl
        rw [E, xb6]
        refine ⟨_, _, _, _, _, _, _, _, _, rfl, fun p e => ?_, fun e k v1 v2 hq => by cases hq⟩
        cases e
        exact ⟨rfl, rfl⟩
      · rw [if_neg hs8]
        obtain ⟨pl', at', nu', f', r, s', E, A, B⟩ := c_readSite (pl := pl) (ws := nI b) (nu := nu) (f := f) (s := s) h hb hK h3 (by omega)
        rw [E, xb6]
        refine ⟨_, _, _, _, _, _, _, _, _, rfl, fun p e => ?_, fun e k v1 v2 hq => ?_⟩
        · cases hsi : siS n sg (skp n sg (wE n sg b)) with
          | inl p' => rw [hsi] at e; cases e; exact A _ hsi
          | inr x => obtain ⟨e1, v1, v2⟩ := x; rw [hsi] at e; cases e
        · cases hsi : siS n sg (skp n sg (wE n sg b)) with
          | inl p' => rw [hsi] at hq; cases hq
          | inr x =>
            obtain ⟨e1, u1, u2⟩ := x
            rw [hsi] at hq
            cases hq
            obtain ⟨c1, c2, c3, c4, c5⟩ := B _ _ _ hsi
            exact ⟨c1, c2, c4, c3, rfl, rfl, c5⟩
    · rw [if_neg z0, if_pos rfl, if_neg z0, c_ruleOfWord h hb hK h2, xb1]
      by_cases z1 : wd n sg 1 b = true
      · rw [if_pos z1, if_pos z1, if_neg (by decide), if_neg (by decide)]
        have bc : (((nI m >>> ((0 : Int32) &&& 31)) &&& 1 = 0) ↔ ¬ m.testBit 0 = true) ∧ nI m ||| (1 <<< ((0 : Int32) &&& 31)) = nI (m ||| (1 <<< 0)) := bit_c m hm 0 (by decide)
        by_cases t : m.testBit 0 = true
        · rw [if_neg (fun y => bc.1.mp y t), if_pos t]
          refine ⟨_, _, _, _, _, _, _, _, _, rfl, fun p e => ?_, fun e k v1 v2 hq => by cases hq⟩
          cases e
          exact ⟨rfl, rfl⟩
        · rw [if_pos (bc.1.mpr t), if_neg t, if_pos rfl]
          obtain ⟨at', w', nu', E, A⟩ := c_readLaw (w := nI b) (nu := nu) (f := f) h hb hK h3
          rw [E, xb5]
          unfold J_X3_readClause_108
          by_cases y : lw n sg (skp n sg (wE n sg b)) = -1
          · rw [if_pos y, if_pos rfl, if_pos y, if_pos y]
            refine ⟨_, _, _, _, _, _, _, _, _, rfl, fun p e => ?_, fun e k v1 v2 hq => by cases hq⟩
            cases e
            exact ⟨rfl, rfl⟩
          · obtain ⟨rfl, rfl⟩ := A y
            rw [if_neg y, if_neg (by decide), if_neg y, if_neg y]
            refine ⟨_, _, _, _, _, _, _, _, _, rfl, fun p e => (by cases e), fun e k v1 v2 hq => ?_⟩
            cases hq
            exact ⟨rfl, rfl, rfl, rfl, bc.2, rfl, rfl⟩
      · rw [if_neg z1, if_neg z1]
        by_cases z2 : wd n sg 2 b = true
        · rw [if_pos z2, if_pos z2, if_neg (by decide), if_neg (by decide)]
          have bc : (((nI m >>> ((1 : Int32) &&& 31)) &&& 1 = 0) ↔ ¬ m.testBit 1 = true) ∧ nI m ||| (1 <<< ((1 : Int32) &&& 31)) = nI (m ||| (1 <<< 1)) := bit_c m hm 1 (by decide)
          by_cases t : m.testBit 1 = true
          · rw [if_neg (fun y => bc.1.mp y t), if_pos t]
            refine ⟨_, _, _, _, _, _, _, _, _, rfl, fun p e => ?_, fun e k v1 v2 hq => by cases hq⟩
            cases e
            exact ⟨rfl, rfl⟩
          · rw [if_pos (bc.1.mpr t), if_neg t, if_neg (by decide), if_pos rfl]
            obtain ⟨at', nu', E, A⟩ := c_readNumber (lo := -9999999) (hi := 9999999) (nu := nu) (f := f) h hb hK h3
            rw [E, xb4]
            unfold J_X3_readClause_108
            by_cases y : okN n sg (-9999999) 9999999 (skp n sg (wE n sg b))
            · obtain ⟨rfl, rfl⟩ := A y
              rw [if_pos y, if_neg (by decide), if_pos y, if_pos y]
              refine ⟨_, _, _, _, _, _, _, _, _, rfl, fun p e => (by cases e), fun e k v1 v2 hq => ?_⟩
              cases hq
              exact ⟨rfl, rfl, rfl, rfl, bc.2, rfl, rfl⟩
            · rw [if_neg y, if_pos rfl, if_neg y, if_neg y]
              refine ⟨_, _, _, _, _, _, _, _, _, rfl, fun p e => ?_, fun e k v1 v2 hq => by cases hq⟩
              cases e
              exact ⟨rfl, rfl⟩
        · rw [if_neg z2, if_neg z2]
          by_cases z3 : wd n sg 3 b = true
          · rw [if_pos z3, if_pos z3, if_neg (by decide), if_neg (by decide)]
            have bc : (((nI m >>> ((2 : Int32) &&& 31)) &&& 1 = 0) ↔ ¬ m.testBit 2 = true) ∧ nI m ||| (1 <<< ((2 : Int32) &&& 31)) = nI (m ||| (1 <<< 2)) := bit_c m hm 2 (by decide)
            by_cases t : m.testBit 2 = true
            · rw [if_neg (fun y => bc.1.mp y t), if_pos t]
              refine ⟨_, _, _, _, _, _, _, _, _, rfl, fun p e => ?_, fun e k v1 v2 hq => by cases hq⟩
              cases e
              exact ⟨rfl, rfl⟩
            · rw [if_pos (bc.1.mpr t), if_neg t, if_neg (by decide), if_neg (by decide)]
              obtain ⟨at', nu', E, A⟩ := c_readNumber (lo := 1) (hi := 9999) (nu := nu) (f := f) h hb hK h3
              rw [E, xb4]
              unfold J_X3_readClause_108
              by_cases y : okN n sg 1 9999 (skp n sg (wE n sg b))
              · obtain ⟨rfl, rfl⟩ := A y
                rw [if_pos y, if_neg (by decide), if_pos y, if_pos y]
                refine ⟨_, _, _, _, _, _, _, _, _, rfl, fun p e => (by cases e), fun e k v1 v2 hq => ?_⟩
                cases hq
                exact ⟨rfl, rfl, rfl, rfl, bc.2, rfl, rfl⟩
              · rw [if_neg y, if_pos rfl, if_neg y, if_neg y]
                refine ⟨_, _, _, _, _, _, _, _, _, rfl, fun p e => ?_, fun e k v1 v2 hq => by cases hq⟩
                cases e
                exact ⟨rfl, rfl⟩
          · rw [if_neg z3, if_neg z3, if_pos (by decide)]
            refine ⟨_, _, _, _, _, _, _, _, _, rfl, fun p e => ?_, fun e k v1 v2 hq => by cases hq⟩
            cases e
            exact ⟨rfl, rfl⟩
  · rw [if_neg q, xb4, if_pos rfl]
    have nz : ∀ i, i < 12 → ¬ wd n sg i b = true := fun i hi z => q ((wE_lt h h2).mpr (wd_letter h h2 hi z))
    unfold clS
    rw [if_neg (nz 0 (by decide)), if_neg (nz 1 (by decide)), if_neg (nz 2 (by decide)), if_neg (nz 3 (by decide))]
    refine ⟨_, _, _, _, _, _, _, _, _, rfl, fun p e => ?_, fun e k v1 v2 hq => by cases hq⟩
    cases e
    exact ⟨rfl, rfl⟩
end
