noncomputable def blX7_back_0 : List Nat := [42, 180, 0, 73, 154, 0, 5, 2, 172, 42, 180, 0, 35, 42, 180, 0, 42, 182, 0, 237, 42, 180, 0, 48, 42, 180, 0, 52, 182, 1, 55, 42, 180, 0, 58, 182, 1, 58, 42, 180, 0, 35, 180, 0, 114, 16, 11, 46, 172]
set_option maxRecDepth 100000 in
theorem bcX7_back_0 : ((cX7_back.data.toList.drop 0).take blX7_back_0.length).map UInt8.toNat = blX7_back_0 := by decide +kernel
noncomputable def blX7_back_1 : List Nat := [172]
set_option maxRecDepth 100000 in
theorem bcX7_back_1 : ((cX7_back.data.toList.drop 48).take blX7_back_1.length).map UInt8.toNat = blX7_back_1 := by decide +kernel
noncomputable def blX7_beginWatch_0 : List Nat := [42, 180, 0, 35, 42, 180, 0, 21, 182, 1, 62, 42, 180, 0, 58, 182, 1, 58, 42, 3, 181, 0, 73, 42, 180, 0, 10, 3, 182, 0, 89, 87, 42, 180, 0, 35, 182, 0, 117, 172]
set_option maxRecDepth 100000 in
theorem bcX7_beginWatch_0 : ((cX7_beginWatch.data.toList.drop 0).take blX7_beginWatch_0.length).map UInt8.toNat = blX7_beginWatch_0 := by decide +kernel
noncomputable def blX7_bound_0 : List Nat := [42, 180, 0, 35, 180, 0, 114, 4, 46, 61, 42, 5, 27, 3, 3, 4, 182, 0, 163, 156, 0, 8, 18, 113, 167, 0, 4, 28, 172]
set_option maxRecDepth 100000 in
theorem bcX7_bound_0 : ((cX7_bound.data.toList.drop 0).take blX7_bound_0.length).map UInt8.toNat = blX7_bound_0 := by decide +kernel
noncomputable def blX7_canBeAsked_0 : List Nat := [42, 180, 0, 35, 182, 0, 110, 153, 0, 35, 27, 19, 1, 69, 161, 0, 28, 27, 19, 1, 70, 163, 0, 21, 28, 19, 1, 69, 161, 0, 14, 28, 19, 1, 70, 163, 0, 7, 4, 167, 0, 4, 3, 172]
set_option maxRecDepth 100000 in
theorem bcX7_canBeAsked_0 : ((cX7_canBeAsked.data.toList.drop 0).take blX7_canBeAsked_0.length).map UInt8.toNat = blX7_canBeAsked_0 := by decide +kernel
noncomputable def blX7_count_0 : List Nat := [42, 180, 0, 35, 182, 0, 110, 154, 0, 5, 2, 172, 27, 170, 0, 0, 0, 0, 0, 116, 0, 0, 0, 0, 0, 0, 0, 5, 0, 0, 0, 39, 0, 0, 0, 50, 0, 0, 0, 68, 0, 0, 0, 79, 0, 0, 0, 90, 0, 0, 0]
set_option maxRecDepth 100000 in
theorem bcX7_count_0 : ((cX7_count.data.toList.drop 0).take blX7_count_0.length).map UInt8.toNat = blX7_count_0 := by decide +kernel
noncomputable def blX7_count_1 : List Nat := [0, 0, 0, 106, 42, 180, 0, 35, 180, 0, 114, 16, 8, 46, 172, 42, 180, 0, 35, 42, 180, 0, 35, 180, 0, 114, 16, 8, 46, 182, 0, 167, 172, 42, 180, 0, 35, 180, 0, 114, 16, 9, 46, 172, 42, 180, 0, 35, 180, 0, 114]
set_option maxRecDepth 100000 in
theorem bcX7_count_1 : ((cX7_count.data.toList.drop 48).take blX7_count_1.length).map UInt8.toNat = blX7_count_1 := by decide +kernel
noncomputable def blX7_count_2 : List Nat := [180, 0, 114, 16, 10, 46, 172, 42, 180, 0, 35, 182, 0, 170, 153, 0, 7, 4, 167, 0, 4, 3, 172, 42, 180, 0, 35, 16, 6, 182, 0, 160, 172, 2, 172]
set_option maxRecDepth 100000 in
theorem bcX7_count_2 : ((cX7_count.data.toList.drop 96).take blX7_count_2.length).map UInt8.toNat = blX7_count_2 := by decide +kernel
noncomputable def blX7_end_0 : List Nat := [42, 180, 0, 10, 27, 182, 0, 89, 172]
set_option maxRecDepth 100000 in
theorem bcX7_end_0 : ((cX7_end.data.toList.drop 0).take blX7_end_0.length).map UInt8.toNat = blX7_end_0 := by decide +kernel
def dl_X7_count_40_pub01_0 : List (Nat × Instr × Nat) := [(13, .tableswitch 116 0 5 #[39, 50, 68, 79, 90, 106], 39)]
set_option maxRecDepth 100000 in
theorem dall_X7_count_40_pub01_0 : dchk cX7_count dl_X7_count_40_pub01_0 = true := by decide +kernel
theorem dX7_count_13 : decode cX7_count 13 = .ok (.tableswitch 116 0 5 #[39, 50, 68, 79, 90, 106], 39) := dchk_at dall_X7_count_40_pub01_0 (k := 0) rfl
def F_X7_back (c_now_row : Nat → Int32) (c_kept_row : Nat → Int32) (c_book_lines : Nat → Int32) (c_keptBook_lines : Nat → Int32) (c_history_held : Int32) (c_hasImage : Int32) : Option (Int32 × (Nat → Int32) × (Nat → Int32) × Int32) :=
  if c_hasImage = (0 : Int32) then some ((-1 : Int32), c_now_row, c_book_lines, c_history_held) else bd1 (F_X5_copyFrom c_now_row c_kept_row) (fun w_2 => bd1 (F_X0_copyFrom c_book_lines c_keptBook_lines) (fun w_4 => bd1 (F_X2_forget c_history_held) (fun w_6 => some (w_2 11, w_2, w_4, w_6))))
abbrev w_X7_back (E : EE) (a_ a_tape a_reader a_scripts a_now a_trial a_kept a_book a_keptBook a_history a_draws a_refused a_now_row a_now_partners a_now_share a_now_leftOver a_kept_row a_kept_partners a_kept_share a_kept_leftOver a_book_lines a_keptBook_lines a_history_rows : Nat) (c_hasImage : Int32) (c_now_askedCount : Int32) (c_now_outcome : Int32) (c_now_row : Nat → Int32) (c_kept_askedCount : Int32) (c_kept_outcome : Int32) (c_kept_row : Nat → Int32) (c_book_lines : Nat → Int32) (c_keptBook_lines : Nat → Int32) (c_history_next : Int32) (c_history_held : Int32) : va_W := [k_X7 a_ a_tape a_reader a_scripts a_now a_trial a_kept a_book a_keptBook a_history a_draws a_refused c_hasImage, k_X5 a_now a_now_row a_now_partners c_now_askedCount c_now_outcome a_now_share a_now_leftOver, k_I E a_now_row 81 c_now_row, k_X5 a_kept a_kept_row a_kept_partners c_kept_askedCount c_kept_outcome a_kept_share a_kept_leftOver, k_I E a_kept_row 81 c_kept_row, k_X0 a_book a_book_lines, k_I E a_book_lines 300 c_book_lines, k_X0 a_keptBook a_keptBook_lines, k_I E a_keptBook_lines 300 c_keptBook_lines, k_X2 a_history a_history_rows c_history_next c_history_held]
def v_f_X7_back : List Cond := List.cons (.code yX7_back cX7_back 1 (some .int)) (HAppend.hAppend (α := List Cond) (β := List Cond) (γ := List Cond) [.fieldLink RX7 73 "HushWatch" "hasImage" "Z", .fieldLink RX7 35 "HushWatch" "now" "LHushWatch$State;", .fieldLink RX7 42 "HushWatch" "kept" "LHushWatch$State;", .fieldLink RX7 48 "HushWatch" "book" "LHushWatch$Book;", .fieldLink RX7 52 "HushWatch" "keptBook" "LHushWatch$Book;", .fieldLink RX7 58 "HushWatch" "history" "LHushWatch$History;", .methodLink RX7 237 yX5_copyFrom, .instanceMethod yX5_copyFrom, .selects RX5 yX5_copyFrom yX5_copyFrom, .initialized RX5, .methodLink RX7 311 yX0_copyFrom, .instanceMethod yX0_copyFrom, .selects RX0 yX0_copyFrom yX0_copyFrom, .initialized RX0, .methodLink RX7 314 yX2_forget, .instanceMethod yX2_forget, .selects RX2 yX2_forget yX2_forget, .initialized RX2] (HAppend.hAppend (α := List Cond) (β := List Cond) (γ := List Cond) wsX70 (HAppend.hAppend (α := List Cond) (β := List Cond) (γ := List Cond) v_f_X5_copyFrom (HAppend.hAppend (α := List Cond) (β := List Cond) (γ := List Cond) v_f_X0_copyFrom (HAppend.hAppend (α := List Cond) (β := List Cond) (γ := List Cond) v_f_X2_forget (HAppend.hAppend (α := List Cond) (β := List Cond) (γ := List Cond) wsX50 []))))))
theorem gw_f_X7_back : v_f_X7_back.all goodWord = true := gw_c2 (by decide +kernel) (gw_ap gw_wsX70 (gw_ap gw_f_X5_copyFrom (gw_ap gw_f_X0_copyFrom (gw_ap gw_f_X2_forget (gw_ap gw_wsX50 gw_nil)))))
theorem i_f_X7_back_X7 : ∀ w ∈ wsX70, w ∈ v_f_X7_back := fun _ h => List.mem_cons_of_mem _ (List.mem_append_right _ (List.mem_append_left _ h))
theorem i_f_X7_back_X5 : ∀ w ∈ wsX50, w ∈ v_f_X7_back := fun _ h => List.mem_cons_of_mem _ (List.mem_append_right _ (List.mem_append_right _ (List.mem_append_right _ (List.mem_append_right _ (List.mem_append_right _ (List.mem_append_left _ h))))))
theorem g_f_X7_back_f_X5_copyFrom_237 : GoodIn v_f_X7_back (wsV RX7 237 RX5 yX5_copyFrom v_f_X5_copyFrom) := goodIn_in gw_f_X7_back (in4 7 8 9 10 rfl rfl rfl rfl (fun _ h => List.mem_cons_of_mem _ (List.mem_append_right _ (List.mem_append_right _ (List.mem_append_left _ h)))))
theorem g_f_X7_back_f_X0_copyFrom_311 : GoodIn v_f_X7_back (wsV RX7 311 RX0 yX0_copyFrom v_f_X0_copyFrom) := goodIn_in gw_f_X7_back (in4 11 12 13 14 rfl rfl rfl rfl (fun _ h => List.mem_cons_of_mem _ (List.mem_append_right _ (List.mem_append_right _ (List.mem_append_right _ (List.mem_append_left _ h))))))
theorem g_f_X7_back_f_X2_forget_314 : GoodIn v_f_X7_back (wsV RX7 314 RX2 yX2_forget v_f_X2_forget) := goodIn_in gw_f_X7_back (in4 15 16 17 18 rfl rfl rfl rfl (fun _ h => List.mem_cons_of_mem _ (List.mem_append_right _ (List.mem_append_right _ (List.mem_append_right _ (List.mem_append_right _ (List.mem_append_left _ h)))))))
theorem hd_X7_back : yX7_back.cls = RX7 ∧ yX7_back.cls ≠ "java/lang/invoke/MethodHandle" ∧ yX7_back.cls ≠ "java/lang/invoke/VarHandle" ∧ (parseMethodDescriptor yX7_back.desc).map (fun d => d.parameters.length) = some 0 := by decide +kernel
set_option maxHeartbeats 4000000 in
set_option maxRecDepth 100000 in
theorem f_X7_back (l : Launch) (E : EE) (sz : Nat) {a_ a_tape a_reader a_scripts a_now a_trial a_kept a_book a_keptBook a_history a_draws a_refused a_now_row a_now_partners a_now_share a_now_leftOver a_kept_row a_kept_partners a_kept_share a_kept_leftOver a_book_lines a_keptBook_lines a_history_rows : Nat} {c_hasImage : Int32} {c_now_askedCount : Int32} {c_now_outcome : Int32} {c_now_row : Nat → Int32} {c_kept_askedCount : Int32} {c_kept_outcome : Int32} {c_kept_row : Nat → Int32} {c_book_lines : Nat → Int32} {c_keptBook_lines : Nat → Int32} {c_history_next : Int32} {c_history_held : Int32} {rr : Int32} {n_now_row : Nat → Int32} {n_book_lines : Nat → Int32} {n_history_held : Int32} (hF : F_X7_back c_now_row c_kept_row c_book_lines c_keptBook_lines c_history_held c_hasImage = some (rr, n_now_row, n_book_lines, n_history_held)) : Met l yX7_back v_f_X7_back (({ frames := 2, cells := 0, slots := 0, locals := 81 } : Room)) (va_Pc [.ref a_] (pW E sz (w_X7_back E a_ a_tape a_reader a_scripts a_now a_trial a_kept a_book a_keptBook a_history a_draws a_refused a_now_row a_now_partners a_now_share a_now_leftOver a_kept_row a_kept_partners a_kept_share a_kept_leftOver a_book_lines a_keptBook_lines a_history_rows c_hasImage c_now_askedCount c_now_outcome c_now_row c_kept_askedCount c_kept_outcome c_kept_row c_book_lines c_keptBook_lines c_history_next c_history_held))) (va_Qi (fun (q : Int32) (_u : Unit) => q = rr) (fun (_u : Unit) tt => va_P E.1 vwCl (w_X7_back E a_ a_tape a_reader a_scripts a_now a_trial a_kept a_book a_keptBook a_history a_draws a_refused a_now_row a_now_partners a_now_share a_now_leftOver a_kept_row a_kept_partners a_kept_share a_kept_leftOver a_book_lines a_keptBook_lines a_history_rows c_hasImage c_now_askedCount c_now_outcome n_now_row c_kept_askedCount c_kept_outcome c_kept_row n_book_lines c_keptBook_lines c_history_next n_history_held) tt.heap ∧ va_D (va_A (w_X7_back E a_ a_tape a_reader a_scripts a_now a_trial a_kept a_book a_keptBook a_history a_draws a_refused a_now_row a_now_partners a_now_share a_now_leftOver a_kept_row a_kept_partners a_kept_share a_kept_leftOver a_book_lines a_keptBook_lines a_history_rows c_hasImage c_now_askedCount c_now_outcome c_now_row c_kept_askedCount c_kept_outcome c_kept_row c_book_lines c_keptBook_lines c_history_next c_history_held) sz) (w_X7_back E a_ a_tape a_reader a_scripts a_now a_trial a_kept a_book a_keptBook a_history a_draws a_refused a_now_row a_now_partners a_now_share a_now_leftOver a_kept_row a_kept_partners a_kept_share a_kept_leftOver a_book_lines a_keptBook_lines a_history_rows c_hasImage c_now_askedCount c_now_outcome n_now_row c_kept_askedCount c_kept_outcome c_kept_row n_book_lines c_keptBook_lines c_history_next n_history_held)) (va_A (w_X7_back E a_ a_tape a_reader a_scripts a_now a_trial a_kept a_book a_keptBook a_history a_draws a_refused a_now_row a_now_partners a_now_share a_now_leftOver a_kept_row a_kept_partners a_kept_share a_kept_leftOver a_book_lines a_keptBook_lines a_history_rows c_hasImage c_now_askedCount c_now_outcome c_now_row c_kept_askedCount c_kept_outcome c_kept_row c_book_lines c_keptBook_lines c_history_next c_history_held) sz)) 0 0 (va_A (w_X7_back E a_ a_tape a_reader a_scripts a_now a_trial a_kept a_book a_keptBook a_history a_draws a_refused a_now_row a_now_partners a_now_share a_now_leftOver a_kept_row a_kept_partners a_kept_share a_kept_leftOver a_book_lines a_keptBook_lines a_history_rows c_hasImage c_now_askedCount c_now_outcome c_now_row c_kept_askedCount c_kept_outcome c_kept_row c_book_lines c_keptBook_lines c_history_next c_history_held) sz) := by
  refine Met.ofW (cc := cX7_back) (maxL := 1) (ret := (some .int)) (by decide) rfl ?_
  intro p e s m args below meth c s₁ B hml hv
  obtain ⟨rfl, hsz, ⟨hK, hN⟩, hP, hD0⟩ := hv
  have hx := B.exec
  have hb := B.bytes
  have hr := B.returns
  have hts := atoms_spec (ws := v_f_X7_back) B.pre
  have hown : s.vm.findClass RX7 = some m.cls := own_of hd_X7_back.1 (findClass_of_methodNamed B.named)
  have hlocks : meth.locks = false := B.notSynchronized
  subst hsz
  have hD := hD0.self (sz := s.heap.size)
  generalize hAe : va_A (w_X7_back E a_ a_tape a_reader a_scripts a_now a_trial a_kept a_book a_keptBook a_history a_draws a_refused a_now_row a_now_partners a_now_share a_now_leftOver a_kept_row a_kept_partners a_kept_share a_kept_leftOver a_book_lines a_keptBook_lines a_history_rows c_hasImage c_now_askedCount c_now_outcome c_now_row c_kept_askedCount c_kept_outcome c_kept_row c_book_lines c_keptBook_lines c_history_next c_history_held) s.heap.size = A at hD ⊢
  have hA : ∀ q : Nat, s.heap.size ≤ q → A q := fun q h => by rw [← hAe]; exact Or.inr h
  have hS : va_S A s.heap s.heap [] := va_S.rf
  have hl := lv_entry ([.ref a_]) (n := 1) (Nat.le_of_ble_eq_true rfl)
  rw [lg_entry_eq]
  generalize (lg_sl ([.ref a_]) ++ List.replicate (1 - (lg_sl ([.ref a_])).length) Slot.unset).toArray = ls at hl ⊢
  have hl : lv_has ls 1 [(0, .ref a_)] := hl
  obtain ⟨Q, hQ⟩ : ∃ Q : State → Prop, Q = MQ below (va_Qi (fun (q : Int32) (_u : Unit) => q = rr) (fun (_u : Unit) tt => va_P E.1 vwCl (w_X7_back E a_ a_tape a_reader a_scripts a_now a_trial a_kept a_book a_keptBook a_history a_draws a_refused a_now_row a_now_partners a_now_share a_now_leftOver a_kept_row a_kept_partners a_kept_share a_kept_leftOver a_book_lines a_keptBook_lines a_history_rows c_hasImage c_now_askedCount c_now_outcome n_now_row c_kept_askedCount c_kept_outcome c_kept_row n_book_lines c_keptBook_lines c_history_next n_history_held) tt.heap ∧ va_D A (w_X7_back E a_ a_tape a_reader a_scripts a_now a_trial a_kept a_book a_keptBook a_history a_draws a_refused a_now_row a_now_partners a_now_share a_now_leftOver a_kept_row a_kept_partners a_kept_share a_kept_leftOver a_book_lines a_keptBook_lines a_history_rows c_hasImage c_now_askedCount c_now_outcome n_now_row c_kept_askedCount c_kept_outcome c_kept_row n_book_lines c_keptBook_lines c_history_next n_history_held)) A) #[Value.ref a_] s 0 0 A := ⟨_, rfl⟩
  rw [← hQ]
  change W p l e ({ frames := 2, cells := 0, slots := 0, locals := 81 } : Room) s m #[Value.ref a_] below meth c s.heap [] 0 0 Q (F0 m 0 ls [])
  suffices hh9 : ∀ (H : Heap) (locs : List Loc), va_P E.1 vwCl (w_X7_back E a_ a_tape a_reader a_scripts a_now a_trial a_kept a_book a_keptBook a_history a_draws a_refused a_now_row a_now_partners a_now_share a_now_leftOver a_kept_row a_kept_partners a_kept_share a_kept_leftOver a_book_lines a_keptBook_lines a_history_rows c_hasImage c_now_askedCount c_now_outcome c_now_row c_kept_askedCount c_kept_outcome c_kept_row c_book_lines c_keptBook_lines c_history_next c_history_held) H → va_D A (w_X7_back E a_ a_tape a_reader a_scripts a_now a_trial a_kept a_book a_keptBook a_history a_draws a_refused a_now_row a_now_partners a_now_share a_now_leftOver a_kept_row a_kept_partners a_kept_share a_kept_leftOver a_book_lines a_keptBook_lines a_history_rows c_hasImage c_now_askedCount c_now_outcome c_now_row c_kept_askedCount c_kept_outcome c_kept_row c_book_lines c_keptBook_lines c_history_next c_history_held) → va_S A s.heap H locs → W p l e ({ frames := 2, cells := 0, slots := 0, locals := 81 } : Room) s m #[Value.ref a_] below meth c H locs 0 0 Q (F0 m 0 ls []) from hh9 s.heap [] hP hD hS
  clear hP hD hS
  intro H locs hP hD hS
  have h9 := fixPD (ws' := [k_X7 a_ a_tape a_reader a_scripts a_now a_trial a_kept a_book a_keptBook a_history a_draws a_refused c_hasImage, k_X5 a_now a_now_row a_now_partners c_now_askedCount c_now_outcome a_now_share a_now_leftOver, k_I E a_now_row 81 c_now_row, k_X5 a_kept a_kept_row a_kept_partners c_kept_askedCount c_kept_outcome a_kept_share a_kept_leftOver, k_I E a_kept_row 81 c_kept_row, k_X0 a_book a_book_lines, k_I E a_book_lines 300 c_book_lines, k_X0 a_keptBook a_keptBook_lines, k_I E a_keptBook_lines 300 c_keptBook_lines, k_X2 a_history a_history_rows c_history_next c_history_held]) hP hD rfl
  clear hP hD
  obtain ⟨hP, hD⟩ := h9
  unfold F_X7_back at hF
  refine lv_aload_n hx hb (dq_42 0 bcX7_back_0 (j := 0) rfl rfl) rfl (lv_at hl 0 rfl) ?_
  refine gt_X7_11 (v := .int c_hasImage) hx hb hts i_f_X7_back_X7 hown hK hP 0 rfl (hts (.fieldLink RX7 73 "HushWatch" "hasImage" "Z") (List.mem_of_getElem? (i := 1) rfl)) rfl (dq_180 0 bcX7_back_0 (j := 1) (i := 73) rfl rfl rfl) ?_
  refine lv_if_ne (tgt := 9) hx hb (dq_154 0 bcX7_back_0 (j := 4) (i := 5) rfl rfl rfl) (by decide) (fun c_1 => ?_) (fun c_1 => ?_)
  ·
    replace hF := inn c_1 hF
    refine lv_aload_n hx hb (dq_42 0 bcX7_back_0 (j := 9) rfl rfl) rfl (lv_at hl 0 rfl) ?_
    refine gt_X7_3 (v := .ref a_now) hx hb hts i_f_X7_back_X7 hown hK hP 0 rfl (hts (.fieldLink RX7 35 "HushWatch" "now" "LHushWatch$State;") (List.mem_of_getElem? (i := 2) rfl)) rfl (dq_180 0 bcX7_back_0 (j := 10) (i := 35) rfl rfl rfl) ?_
    refine lv_aload_n hx hb (dq_42 0 bcX7_back_0 (j := 13) rfl rfl) rfl (lv_at hl 0 rfl) ?_
    refine gt_X7_5 (v := .ref a_kept) hx hb hts i_f_X7_back_X7 hown hK hP 0 rfl (hts (.fieldLink RX7 42 "HushWatch" "kept" "LHushWatch$State;") (List.mem_of_getElem? (i := 3) rfl)) rfl (dq_180 0 bcX7_back_0 (j := 14) (i := 42) rfl rfl rfl) ?_
    replace hF := bd1_s hF
    obtain ⟨w_2, hc_3, hF⟩ := hF
    obtain ⟨hPc, hDc, hFc⟩ := wcut (wc := (w_X5_copyFrom E a_now a_now_row a_now_partners a_now_share a_now_leftOver a_kept a_kept_row a_kept_partners a_kept_share a_kept_leftOver c_now_askedCount c_now_outcome c_now_row c_kept_askedCount c_kept_outcome c_kept_row)) hP hD hS hA [1, 2, 3, 4] (by decide) rfl
    have hrc := va_recv hK hPc (ci := 6) (q0 := 0) rfl rfl
    refine cE_v (wc := (w_X5_copyFrom E a_now a_now_row a_now_partners a_now_share a_now_leftOver a_kept a_kept_row a_kept_partners a_kept_share a_kept_leftOver c_now_askedCount c_now_outcome c_now_row c_kept_askedCount c_kept_outcome c_kept_row)) (wr := [k_X7 a_ a_tape a_reader a_scripts a_now a_trial a_kept a_book a_keptBook a_history a_draws a_refused c_hasImage, k_X0 a_book a_book_lines, k_I E a_book_lines 300 c_book_lines, k_X0 a_keptBook a_keptBook_lines, k_I E a_keptBook_lines 300 c_keptBook_lines, k_X2 a_history a_history_rows c_history_next c_history_held]) (w1 := (w_X5_copyFrom E a_now a_now_row a_now_partners a_now_share a_now_leftOver a_kept a_kept_row a_kept_partners a_kept_share a_kept_leftOver c_now_askedCount c_now_outcome w_2 c_kept_askedCount c_kept_outcome c_kept_row)) (va_runV (As := [.ref a_kept]) (rest := [])  ⟨hx, hb, hml, hown, hts⟩ (f_X5_copyFrom l E H.size (a_ := a_now) (a_row := a_now_row) (a_partners := a_now_partners) (a_share := a_now_share) (a_leftOver := a_now_leftOver) (a_o1 := a_kept) (a_o1_row := a_kept_row) (a_o1_partners := a_kept_partners) (a_o1_share := a_kept_share) (a_o1_leftOver := a_kept_leftOver) (c_askedCount := c_now_askedCount) (c_outcome := c_now_outcome) (c_row := c_now_row) (c_o1_askedCount := c_kept_askedCount) (c_o1_outcome := c_kept_outcome) (c_o1_row := c_kept_row) hc_3) (cwV 1 hts g_f_X7_back_f_X5_copyFrom_237 rfl rfl rfl hd_X5_copyFrom ⟨Nat.le_of_ble_eq_true rfl, Nat.le_of_ble_eq_true rfl⟩) ⟨pW.blind, hrc, (pW.pre ⟨hK, hN⟩ hPc hDc)⟩ rfl rfl hl.1 rfl (lv_room (Nat.le_of_ble_eq_true rfl)) (dq_182 0 bcX7_back_0 (j := 17) (i := 237) rfl rfl rfl) ⟨Nat.le_of_ble_eq_true rfl, Nat.le_of_ble_eq_true rfl⟩) hS hFc hP hD [1, 2, 3, 4] [0, 5, 6, 7, 8, 9] rfl rfl (by decide) (by decide) (fun H locs hP hD hS => ?_)
    have h9 := fixPD (ws' := [k_X7 a_ a_tape a_reader a_scripts a_now a_trial a_kept a_book a_keptBook a_history a_draws a_refused c_hasImage, k_X0 a_book a_book_lines, k_I E a_book_lines 300 c_book_lines, k_X0 a_keptBook a_keptBook_lines, k_I E a_keptBook_lines 300 c_keptBook_lines, k_X2 a_history a_history_rows c_history_next c_history_held, k_X5 a_now a_now_row a_now_partners c_now_askedCount c_now_outcome a_now_share a_now_leftOver, k_I E a_now_row 81 w_2, k_X5 a_kept a_kept_row a_kept_partners c_kept_askedCount c_kept_outcome a_kept_share a_kept_leftOver, k_I E a_kept_row 81 c_kept_row]) hP hD rfl
    clear hP hD
    obtain ⟨hP, hD⟩ := h9
    refine lv_aload_n hx hb (dq_42 0 bcX7_back_0 (j := 20) rfl rfl) rfl (lv_at hl 0 rfl) ?_
    refine gt_X7_6 (v := .ref a_book) hx hb hts i_f_X7_back_X7 hown hK hP 0 rfl (hts (.fieldLink RX7 48 "HushWatch" "book" "LHushWatch$Book;") (List.mem_of_getElem? (i := 4) rfl)) rfl (dq_180 0 bcX7_back_0 (j := 21) (i := 48) rfl rfl rfl) ?_
    refine lv_aload_n hx hb (dq_42 0 bcX7_back_0 (j := 24) rfl rfl) rfl (lv_at hl 0 rfl) ?_
    refine gt_X7_7 (v := .ref a_keptBook) hx hb hts i_f_X7_back_X7 hown hK hP 0 rfl (hts (.fieldLink RX7 52 "HushWatch" "keptBook" "LHushWatch$Book;") (List.mem_of_getElem? (i := 5) rfl)) rfl (dq_180 0 bcX7_back_0 (j := 25) (i := 52) rfl rfl rfl) ?_
    replace hF := bd1_s hF
    obtain ⟨w_4, hc_5, hF⟩ := hF
    obtain ⟨hPc, hDc, hFc⟩ := wcut (wc := (w_X0_copyFrom E a_book a_book_lines a_keptBook a_keptBook_lines c_book_lines c_keptBook_lines)) hP hD hS hA [1, 2, 3, 4] (by decide) rfl
    have hrc := va_recv hK hPc (ci := 1) (q0 := 0) rfl rfl
    refine cE_v (wc := (w_X0_copyFrom E a_book a_book_lines a_keptBook a_keptBook_lines c_book_lines c_keptBook_lines)) (wr := [k_X7 a_ a_tape a_reader a_scripts a_now a_trial a_kept a_book a_keptBook a_history a_draws a_refused c_hasImage, k_X2 a_history a_history_rows c_history_next c_history_held, k_X5 a_now a_now_row a_now_partners c_now_askedCount c_now_outcome a_now_share a_now_leftOver, k_I E a_now_row 81 w_2, k_X5 a_kept a_kept_row a_kept_partners c_kept_askedCount c_kept_outcome a_kept_share a_kept_leftOver, k_I E a_kept_row 81 c_kept_row]) (w1 := (w_X0_copyFrom E a_book a_book_lines a_keptBook a_keptBook_lines w_4 c_keptBook_lines)) (va_runV (As := [.ref a_keptBook]) (rest := [])  ⟨hx, hb, hml, hown, hts⟩ (f_X0_copyFrom l E H.size (a_ := a_book) (a_lines := a_book_lines) (a_o1 := a_keptBook) (a_o1_lines := a_keptBook_lines) (c_lines := c_book_lines) (c_o1_lines := c_keptBook_lines) hc_5) (cwV 1 hts g_f_X7_back_f_X0_copyFrom_311 rfl rfl rfl hd_X0_copyFrom ⟨Nat.le_of_ble_eq_true rfl, Nat.le_of_ble_eq_true rfl⟩) ⟨pW.blind, hrc, (pW.pre ⟨hK, hN⟩ hPc hDc)⟩ rfl rfl hl.1 rfl (lv_room (Nat.le_of_ble_eq_true rfl)) (dq_182 0 bcX7_back_0 (j := 28) (i := 311) rfl rfl rfl) ⟨Nat.le_of_ble_eq_true rfl, Nat.le_of_ble_eq_true rfl⟩) hS hFc hP hD [1, 2, 3, 4] [0, 5, 6, 7, 8, 9] rfl rfl (by decide) (by decide) (fun H locs hP hD hS => ?_)
    have h9 := fixPD (ws' := [k_X7 a_ a_tape a_reader a_scripts a_now a_trial a_kept a_book a_keptBook a_history a_draws a_refused c_hasImage, k_X2 a_history a_history_rows c_history_next c_history_held, k_X5 a_now a_now_row a_now_partners c_now_askedCount c_now_outcome a_now_share a_now_leftOver, k_I E a_now_row 81 w_2, k_X5 a_kept a_kept_row a_kept_partners c_kept_askedCount c_kept_outcome a_kept_share a_kept_leftOver, k_I E a_kept_row 81 c_kept_row, k_X0 a_book a_book_lines, k_I E a_book_lines 300 w_4, k_X0 a_keptBook a_keptBook_lines, k_I E a_keptBook_lines 300 c_keptBook_lines]) hP hD rfl
    clear hP hD
    obtain ⟨hP, hD⟩ := h9
    refine lv_aload_n hx hb (dq_42 0 bcX7_back_0 (j := 31) rfl rfl) rfl (lv_at hl 0 rfl) ?_
    refine gt_X7_8 (v := .ref a_history) hx hb hts i_f_X7_back_X7 hown hK hP 0 rfl (hts (.fieldLink RX7 58 "HushWatch" "history" "LHushWatch$History;") (List.mem_of_getElem? (i := 6) rfl)) rfl (dq_180 0 bcX7_back_0 (j := 32) (i := 58) rfl rfl rfl) ?_
    replace hF := bd1_s hF
    obtain ⟨w_6, hc_7, hF⟩ := hF
    obtain ⟨hPc, hDc, hFc⟩ := wcut (wc := (w_X2_forget E a_history a_history_rows c_history_next c_history_held)) hP hD hS hA [1] (by decide) rfl
    have hrc := va_recv hK hPc (ci := 3) (q0 := 0) rfl rfl
    refine cE_v (wc := (w_X2_forget E a_history a_history_rows c_history_next c_history_held)) (wr := [k_X7 a_ a_tape a_reader a_scripts a_now a_trial a_kept a_book a_keptBook a_history a_draws a_refused c_hasImage, k_X5 a_now a_now_row a_now_partners c_now_askedCount c_now_outcome a_now_share a_now_leftOver, k_I E a_now_row 81 w_2, k_X5 a_kept a_kept_row a_kept_partners c_kept_askedCount c_kept_outcome a_kept_share a_kept_leftOver, k_I E a_kept_row 81 c_kept_row, k_X0 a_book a_book_lines, k_I E a_book_lines 300 w_4, k_X0 a_keptBook a_keptBook_lines, k_I E a_keptBook_lines 300 c_keptBook_lines]) (w1 := (w_X2_forget E a_history a_history_rows c_history_next w_6)) (va_runV (As := []) (rest := [])  ⟨hx, hb, hml, hown, hts⟩ (f_X2_forget l E H.size (a_ := a_history) (a_rows := a_history_rows) (c_next := c_history_next) (c_held := c_history_held) hc_7) (cwV 0 hts g_f_X7_back_f_X2_forget_314 rfl rfl rfl hd_X2_forget ⟨Nat.le_of_ble_eq_true rfl, Nat.le_of_ble_eq_true rfl⟩) ⟨pW.blind, hrc, (pW.pre ⟨hK, hN⟩ hPc hDc)⟩ rfl rfl hl.1 rfl (lv_room (Nat.le_of_ble_eq_true rfl)) (dq_182 0 bcX7_back_0 (j := 35) (i := 314) rfl rfl rfl) ⟨Nat.le_of_ble_eq_true rfl, Nat.le_of_ble_eq_true rfl⟩) hS hFc hP hD [1] [0, 2, 3, 4, 5, 6, 7, 8, 9] rfl rfl (by decide) (by decide) (fun H locs hP hD hS => ?_)
    have h9 := fixPD (ws' := [k_X7 a_ a_tape a_reader a_scripts a_now a_trial a_kept a_book a_keptBook a_history a_draws a_refused c_hasImage, k_X5 a_now a_now_row a_now_partners c_now_askedCount c_now_outcome a_now_share a_now_leftOver, k_I E a_now_row 81 w_2, k_X5 a_kept a_kept_row a_kept_partners c_kept_askedCount c_kept_outcome a_kept_share a_kept_leftOver, k_I E a_kept_row 81 c_kept_row, k_X0 a_book a_book_lines, k_I E a_book_lines 300 w_4, k_X0 a_keptBook a_keptBook_lines, k_I E a_keptBook_lines 300 c_keptBook_lines, k_X2 a_history a_history_rows c_history_next w_6]) hP hD rfl
    clear hP hD
    obtain ⟨hP, hD⟩ := h9
    refine lv_aload_n hx hb (dq_42 0 bcX7_back_0 (j := 38) rfl rfl) rfl (lv_at hl 0 rfl) ?_
    refine gt_X7_3 (v := .ref a_now) hx hb hts i_f_X7_back_X7 hown hK hP 0 rfl (hts (.fieldLink RX7 35 "HushWatch" "now" "LHushWatch$State;") (List.mem_of_getElem? (i := 2) rfl)) rfl (dq_180 0 bcX7_back_0 (j := 39) (i := 35) rfl rfl rfl) ?_
    refine va_getN (D := E.1) (ci := 6) (v := .ref a_now_row) (C := RX5) (T := TX5) (N := 6) hx hb hts i_f_X7_back_X5 hown hK hP 1 rfl rfl 0 (by decide) (nx hN 12 rfl) (fun _ h9 => h9) rfl (dq_180 0 bcX7_back_0 (j := 42) (i := 114) rfl rfl rfl) ?_
    refine lv_bipush (v := 11) hx hb (dq_16 0 bcX7_back_0 (j := 45) (i := 11) rfl rfl rfl) (by decide) ?_
    refine va_iald hx hb hK hP 2 0 rfl rfl (vin rfl) (dq_46 0 bcX7_back_0 (j := 47) rfl rfl) ?_
    refine W.eq (g2 := F0 m 48 ls [.int (w_2 11)]) rfl ?_
    rw [hQ]
    have h9 := fin9 (P := fun u9 : Int32 × (Nat → Int32) × (Nat → Int32) × Int32 => (w_2 11) = u9.1 ∧ va_P E.1 vwCl (w_X7_back E a_ a_tape a_reader a_scripts a_now a_trial a_kept a_book a_keptBook a_history a_draws a_refused a_now_row a_now_partners a_now_share a_now_leftOver a_kept_row a_kept_partners a_kept_share a_kept_leftOver a_book_lines a_keptBook_lines a_history_rows c_hasImage c_now_askedCount c_now_outcome u9.2.1 c_kept_askedCount c_kept_outcome c_kept_row u9.2.2.1 c_keptBook_lines c_history_next u9.2.2.2) H ∧ va_D A (w_X7_back E a_ a_tape a_reader a_scripts a_now a_trial a_kept a_book a_keptBook a_history a_draws a_refused a_now_row a_now_partners a_now_share a_now_leftOver a_kept_row a_kept_partners a_kept_share a_kept_leftOver a_book_lines a_keptBook_lines a_history_rows c_hasImage c_now_askedCount c_now_outcome u9.2.1 c_kept_askedCount c_kept_outcome c_kept_row u9.2.2.1 c_keptBook_lines c_history_next u9.2.2.2)) hF ⟨rfl, hP, hD⟩
    obtain ⟨e9_0, hP9, hD9⟩ := h9
    exact W.iret (v := w_2 11) hx hb hr (fun tt ht hW => ⟨⟨_, (), rfl, e9_0, ht ▸ hP9, hD9⟩, hS.F ht⟩) hS.2.2 (dq_172 48 bcX7_back_1 (j := 0) rfl rfl)
  ·
    replace hF := ip c_1 hF
    refine lv_iconst (v := -1) hx hb (dq_2 0 bcX7_back_0 (j := 7) rfl rfl) (by decide) ?_
    rw [hQ]
    have h9 := fin9 (P := fun u9 : Int32 × (Nat → Int32) × (Nat → Int32) × Int32 => (-1 : Int32) = u9.1 ∧ va_P E.1 vwCl (w_X7_back E a_ a_tape a_reader a_scripts a_now a_trial a_kept a_book a_keptBook a_history a_draws a_refused a_now_row a_now_partners a_now_share a_now_leftOver a_kept_row a_kept_partners a_kept_share a_kept_leftOver a_book_lines a_keptBook_lines a_history_rows c_hasImage c_now_askedCount c_now_outcome u9.2.1 c_kept_askedCount c_kept_outcome c_kept_row u9.2.2.1 c_keptBook_lines c_history_next u9.2.2.2) H ∧ va_D A (w_X7_back E a_ a_tape a_reader a_scripts a_now a_trial a_kept a_book a_keptBook a_history a_draws a_refused a_now_row a_now_partners a_now_share a_now_leftOver a_kept_row a_kept_partners a_kept_share a_kept_leftOver a_book_lines a_keptBook_lines a_history_rows c_hasImage c_now_askedCount c_now_outcome u9.2.1 c_kept_askedCount c_kept_outcome c_kept_row u9.2.2.1 c_keptBook_lines c_history_next u9.2.2.2)) hF ⟨rfl, hP, hD⟩
    obtain ⟨e9_0, hP9, hD9⟩ := h9
    exact W.iret (v := (-1 : Int32)) hx hb hr (fun tt ht hW => ⟨⟨_, (), rfl, e9_0, ht ▸ hP9, hD9⟩, hS.F ht⟩) hS.2.2 (dq_172 0 bcX7_back_0 (j := 8) rfl rfl)

def F_X7_beginWatch (K : Nat) (c_tape_length : Int32) (c_reader_rules : Nat → Int32) (c_reader_places : Nat → Int32) (c_reader_siteCount : Int32) (c_now_row : Nat → Int32) (c_history_held : Int32) (c_hasImage : Int32) : Option (Int32 × Int32 × (Nat → Int32) × Int32 × Int32) :=
  bd1 (F_X5_begin K c_now_row c_reader_rules c_reader_places c_reader_siteCount) (fun w_1 => bd1 (F_X2_forget c_history_held) (fun w_3 => bd2 (F_X6_cutTo (0 : Int32) c_tape_length) (fun r_5 w_6 => bd1 (F_X5_sites w_1) (fun r_9 => some (r_9, w_6, w_1, w_3, (0 : Int32))))))
abbrev w_X7_beginWatch (E : EE) (a_ a_tape a_reader a_scripts a_now a_trial a_kept a_book a_keptBook a_history a_draws a_refused a_tape_bytes a_reader_rules a_reader_places a_reader_steps a_now_row a_now_partners a_now_share a_now_leftOver a_history_rows : Nat) (c_hasImage : Int32) (c_tape_length : Int32) (c_reader_siteCount : Int32) (c_reader_stepCount : Int32) (c_reader_seenRules : Int32) (c_reader_at : Int32) (c_reader_wordStart : Int32) (c_reader_number : Int32) (c_reader_failed : Int32) (c_reader_rules : Nat → Int32) (c_reader_places : Nat → Int32) (c_now_askedCount : Int32) (c_now_outcome : Int32) (c_now_row : Nat → Int32) (c_history_next : Int32) (c_history_held : Int32) : va_W := [k_X7 a_ a_tape a_reader a_scripts a_now a_trial a_kept a_book a_keptBook a_history a_draws a_refused c_hasImage, k_X6 a_tape a_tape_bytes c_tape_length, k_X3 a_reader a_tape a_reader_rules a_reader_places a_reader_steps c_reader_siteCount c_reader_stepCount c_reader_seenRules c_reader_at c_reader_wordStart c_reader_number c_reader_failed, k_I E a_reader_rules 3 c_reader_rules, k_I E a_reader_places 16 c_reader_places, k_X5 a_now a_now_row a_now_partners c_now_askedCount c_now_outcome a_now_share a_now_leftOver, k_I E a_now_row 81 c_now_row, k_X2 a_history a_history_rows c_history_next c_history_held]
def v_f_X7_beginWatch : List Cond := List.cons (.code yX7_beginWatch cX7_beginWatch 1 (some .int)) (HAppend.hAppend (α := List Cond) (β := List Cond) (γ := List Cond) [.fieldLink RX7 35 "HushWatch" "now" "LHushWatch$State;", .fieldLink RX7 21 "HushWatch" "reader" "LHushWatch$Reader;", .fieldLink RX7 58 "HushWatch" "history" "LHushWatch$History;", .fieldLink RX7 73 "HushWatch" "hasImage" "Z", .fieldLink RX7 10 "HushWatch" "tape" "LHushWatch$Tape;", .methodLink RX7 318 yX5_begin, .instanceMethod yX5_begin, .selects RX5 yX5_begin yX5_begin, .initialized RX5, .methodLink RX7 314 yX2_forget, .instanceMethod yX2_forget, .selects RX2 yX2_forget yX2_forget, .initialized RX2, .methodLink RX7 89 yX6_cutTo, .instanceMethod yX6_cutTo, .selects RX6 yX6_cutTo yX6_cutTo, .initialized RX6, .methodLink RX7 117 yX5_sites, .instanceMethod yX5_sites, .selects RX5 yX5_sites yX5_sites] (HAppend.hAppend (α := List Cond) (β := List Cond) (γ := List Cond) wsX70 (HAppend.hAppend (α := List Cond) (β := List Cond) (γ := List Cond) v_f_X5_begin (HAppend.hAppend (α := List Cond) (β := List Cond) (γ := List Cond) v_f_X2_forget (HAppend.hAppend (α := List Cond) (β := List Cond) (γ := List Cond) v_f_X6_cutTo (HAppend.hAppend (α := List Cond) (β := List Cond) (γ := List Cond) v_f_X5_sites []))))))
theorem gw_f_X7_beginWatch : v_f_X7_beginWatch.all goodWord = true := gw_c2 (by decide +kernel) (gw_ap gw_wsX70 (gw_ap gw_f_X5_begin (gw_ap gw_f_X2_forget (gw_ap gw_f_X6_cutTo (gw_ap gw_f_X5_sites gw_nil)))))
theorem i_f_X7_beginWatch_X7 : ∀ w ∈ wsX70, w ∈ v_f_X7_beginWatch := fun _ h => List.mem_cons_of_mem _ (List.mem_append_right _ (List.mem_append_left _ h))
theorem g_f_X7_beginWatch_f_X5_begin_318 : GoodIn v_f_X7_beginWatch (wsV RX7 318 RX5 yX5_begin v_f_X5_begin) := goodIn_in gw_f_X7_beginWatch (in4 6 7 8 9 rfl rfl rfl rfl (fun _ h => List.mem_cons_of_mem _ (List.mem_append_right _ (List.mem_append_right _ (List.mem_append_left _ h)))))
theorem g_f_X7_beginWatch_f_X2_forget_314 : GoodIn v_f_X7_beginWatch (wsV RX7 314 RX2 yX2_forget v_f_X2_forget) := goodIn_in gw_f_X7_beginWatch (in4 10 11 12 13 rfl rfl rfl rfl (fun _ h => List.mem_cons_of_mem _ (List.mem_append_right _ (List.mem_append_right _ (List.mem_append_right _ (List.mem_append_left _ h))))))
theorem g_f_X7_beginWatch_f_X6_cutTo_89 : GoodIn v_f_X7_beginWatch (wsV RX7 89 RX6 yX6_cutTo v_f_X6_cutTo) := goodIn_in gw_f_X7_beginWatch (in4 14 15 16 17 rfl rfl rfl rfl (fun _ h => List.mem_cons_of_mem _ (List.mem_append_right _ (List.mem_append_right _ (List.mem_append_right _ (List.mem_append_right _ (List.mem_append_left _ h)))))))
theorem g_f_X7_beginWatch_f_X5_sites_117 : GoodIn v_f_X7_beginWatch (wsV RX7 117 RX5 yX5_sites v_f_X5_sites) := goodIn_in gw_f_X7_beginWatch (in4 18 19 20 9 rfl rfl rfl rfl (fun _ h => List.mem_cons_of_mem _ (List.mem_append_right _ (List.mem_append_right _ (List.mem_append_right _ (List.mem_append_right _ (List.mem_append_right _ (List.mem_append_left _ h))))))))
theorem hd_X7_beginWatch : yX7_beginWatch.cls = RX7 ∧ yX7_beginWatch.cls ≠ "java/lang/invoke/MethodHandle" ∧ yX7_beginWatch.cls ≠ "java/lang/invoke/VarHandle" ∧ (parseMethodDescriptor yX7_beginWatch.desc).map (fun d => d.parameters.length) = some 0 := by decide +kernel
set_option maxHeartbeats 4000000 in
set_option maxRecDepth 100000 in
theorem f_X7_beginWatch (l : Launch) (E : EE) (sz : Nat) (K : Nat) {a_ a_tape a_reader a_scripts a_now a_trial a_kept a_book a_keptBook a_history a_draws a_refused a_tape_bytes a_reader_rules a_reader_places a_reader_steps a_now_row a_now_partners a_now_share a_now_leftOver a_history_rows : Nat} {c_hasImage : Int32} {c_tape_length : Int32} {c_reader_siteCount : Int32} {c_reader_stepCount : Int32} {c_reader_seenRules : Int32} {c_reader_at : Int32} {c_reader_wordStart : Int32} {c_reader_number : Int32} {c_reader_failed : Int32} {c_reader_rules : Nat → Int32} {c_reader_places : Nat → Int32} {c_now_askedCount : Int32} {c_now_outcome : Int32} {c_now_row : Nat → Int32} {c_history_next : Int32} {c_history_held : Int32} {rr : Int32} {n_tape_length : Int32} {n_now_row : Nat → Int32} {n_history_held : Int32} {n_hasImage : Int32} (hF : F_X7_beginWatch K c_tape_length c_reader_rules c_reader_places c_reader_siteCount c_now_row c_history_held c_hasImage = some (rr, n_tape_length, n_now_row, n_history_held, n_hasImage)) : Met l yX7_beginWatch v_f_X7_beginWatch (({ frames := 3, cells := 0, slots := 0, locals := 74 } : Room)) (va_Pc [.ref a_] (pW E sz (w_X7_beginWatch E a_ a_tape a_reader a_scripts a_now a_trial a_kept a_book a_keptBook a_history a_draws a_refused a_tape_bytes a_reader_rules a_reader_places a_reader_steps a_now_row a_now_partners a_now_share a_now_leftOver a_history_rows c_hasImage c_tape_length c_reader_siteCount c_reader_stepCount c_reader_seenRules c_reader_at c_reader_wordStart c_reader_number c_reader_failed c_reader_rules c_reader_places c_now_askedCount c_now_outcome c_now_row c_history_next c_history_held))) (va_Qi (fun (q : Int32) (_u : Unit) => q = rr) (fun (_u : Unit) tt => va_P E.1 vwCl (w_X7_beginWatch E a_ a_tape a_reader a_scripts a_now a_trial a_kept a_book a_keptBook a_history a_draws a_refused a_tape_bytes a_reader_rules a_reader_places a_reader_steps a_now_row a_now_partners a_now_share a_now_leftOver a_history_rows n_hasImage n_tape_length c_reader_siteCount c_reader_stepCount c_reader_seenRules c_reader_at c_reader_wordStart c_reader_number c_reader_failed c_reader_rules c_reader_places c_now_askedCount c_now_outcome n_now_row c_history_next n_history_held) tt.heap ∧ va_D (va_A (w_X7_beginWatch E a_ a_tape a_reader a_scripts a_now a_trial a_kept a_book a_keptBook a_history a_draws a_refused a_tape_bytes a_reader_rules a_reader_places a_reader_steps a_now_row a_now_partners a_now_share a_now_leftOver a_history_rows c_hasImage c_tape_length c_reader_siteCount c_reader_stepCount c_reader_seenRules c_reader_at c_reader_wordStart c_reader_number c_reader_failed c_reader_rules c_reader_places c_now_askedCount c_now_outcome c_now_row c_history_next c_history_held) sz) (w_X7_beginWatch E a_ a_tape a_reader a_scripts a_now a_trial a_kept a_book a_keptBook a_history a_draws a_refused a_tape_bytes a_reader_rules a_reader_places a_reader_steps a_now_row a_now_partners a_now_share a_now_leftOver a_history_rows n_hasImage n_tape_length c_reader_siteCount c_reader_stepCount c_reader_seenRules c_reader_at c_reader_wordStart c_reader_number c_reader_failed c_reader_rules c_reader_places c_now_askedCount c_now_outcome n_now_row c_history_next n_history_held)) (va_A (w_X7_beginWatch E a_ a_tape a_reader a_scripts a_now a_trial a_kept a_book a_keptBook a_history a_draws a_refused a_tape_bytes a_reader_rules a_reader_places a_reader_steps a_now_row a_now_partners a_now_share a_now_leftOver a_history_rows c_hasImage c_tape_length c_reader_siteCount c_reader_stepCount c_reader_seenRules c_reader_at c_reader_wordStart c_reader_number c_reader_failed c_reader_rules c_reader_places c_now_askedCount c_now_outcome c_now_row c_history_next c_history_held) sz)) 0 0 (va_A (w_X7_beginWatch E a_ a_tape a_reader a_scripts a_now a_trial a_kept a_book a_keptBook a_history a_draws a_refused a_tape_bytes a_reader_rules a_reader_places a_reader_steps a_now_row a_now_partners a_now_share a_now_leftOver a_history_rows c_hasImage c_tape_length c_reader_siteCount c_reader_stepCount c_reader_seenRules c_reader_at c_reader_wordStart c_reader_number c_reader_failed c_reader_rules c_reader_places c_now_askedCount c_now_outcome c_now_row c_history_next c_history_held) sz) := by
  refine Met.ofW (cc := cX7_beginWatch) (maxL := 1) (ret := (some .int)) (by decide) rfl ?_
  intro p e s m args below meth c s₁ B hml hv
  obtain ⟨rfl, hsz, ⟨hK, hN⟩, hP, hD0⟩ := hv
  have hx := B.exec
  have hb := B.bytes
  have hr := B.returns
  have hts := atoms_spec (ws := v_f_X7_beginWatch) B.pre
  have hown : s.vm.findClass RX7 = some m.cls := own_of hd_X7_beginWatch.1 (findClass_of_methodNamed B.named)
  have hlocks : meth.locks = false := B.notSynchronized
  subst hsz
  have hD := hD0.self (sz := s.heap.size)
  generalize hAe : va_A (w_X7_beginWatch E a_ a_tape a_reader a_scripts a_now a_trial a_kept a_book a_keptBook a_history a_draws a_refused a_tape_bytes a_reader_rules a_reader_places a_reader_steps a_now_row a_now_partners a_now_share a_now_leftOver a_history_rows c_hasImage c_tape_length c_reader_siteCount c_reader_stepCount c_reader_seenRules c_reader_at c_reader_wordStart c_reader_number c_reader_failed c_reader_rules c_reader_places c_now_askedCount c_now_outcome c_now_row c_history_next c_history_held) s.heap.size = A at hD ⊢
  have hA : ∀ q : Nat, s.heap.size ≤ q → A q := fun q h => by rw [← hAe]; exact Or.inr h
  have hS : va_S A s.heap s.heap [] := va_S.rf
  have hl := lv_entry ([.ref a_]) (n := 1) (Nat.le_of_ble_eq_true rfl)
  rw [lg_entry_eq]
  generalize (lg_sl ([.ref a_]) ++ List.replicate (1 - (lg_sl ([.ref a_])).length) Slot.unset).toArray = ls at hl ⊢
  have hl : lv_has ls 1 [(0, .ref a_)] := hl
  obtain ⟨Q, hQ⟩ : ∃ Q : State → Prop, Q = MQ below (va_Qi (fun (q : Int32) (_u : Unit) => q = rr) (fun (_u : Unit) tt => va_P E.1 vwCl (w_X7_beginWatch E a_ a_tape a_reader a_scripts a_now a_trial a_kept a_book a_keptBook a_history a_draws a_refused a_tape_bytes a_reader_rules a_reader_places a_reader_steps a_now_row a_now_partners a_now_share a_now_leftOver a_history_rows n_hasImage n_tape_length c_reader_siteCount c_reader_stepCount c_reader_seenRules c_reader_at c_reader_wordStart c_reader_number c_reader_failed c_reader_rules c_reader_places c_now_askedCount c_now_outcome n_now_row c_history_next n_history_held) tt.heap ∧ va_D A (w_X7_beginWatch E a_ a_tape a_reader a_scripts a_now a_trial a_kept a_book a_keptBook a_history a_draws a_refused a_tape_bytes a_reader_rules a_reader_places a_reader_steps a_now_row a_now_partners a_now_share a_now_leftOver a_history_rows n_hasImage n_tape_length c_reader_siteCount c_reader_stepCount c_reader_seenRules c_reader_at c_reader_wordStart c_reader_number c_reader_failed c_reader_rules c_reader_places c_now_askedCount c_now_outcome n_now_row c_history_next n_history_held)) A) #[Value.ref a_] s 0 0 A := ⟨_, rfl⟩
  rw [← hQ]
  change W p l e ({ frames := 3, cells := 0, slots := 0, locals := 74 } : Room) s m #[Value.ref a_] below meth c s.heap [] 0 0 Q (F0 m 0 ls [])
  suffices hh9 : ∀ (H : Heap) (locs : List Loc), va_P E.1 vwCl (w_X7_beginWatch E a_ a_tape a_reader a_scripts a_now a_trial a_kept a_book a_keptBook a_history a_draws a_refused a_tape_bytes a_reader_rules a_reader_places a_reader_steps a_now_row a_now_partners a_now_share a_now_leftOver a_history_rows c_hasImage c_tape_length c_reader_siteCount c_reader_stepCount c_reader_seenRules c_reader_at c_reader_wordStart c_reader_number c_reader_failed c_reader_rules c_reader_places c_now_askedCount c_now_outcome c_now_row c_history_next c_history_held) H → va_D A (w_X7_beginWatch E a_ a_tape a_reader a_scripts a_now a_trial a_kept a_book a_keptBook a_history a_draws a_refused a_tape_bytes a_reader_rules a_reader_places a_reader_steps a_now_row a_now_partners a_now_share a_now_leftOver a_history_rows c_hasImage c_tape_length c_reader_siteCount c_reader_stepCount c_reader_seenRules c_reader_at c_reader_wordStart c_reader_number c_reader_failed c_reader_rules c_reader_places c_now_askedCount c_now_outcome c_now_row c_history_next c_history_held) → va_S A s.heap H locs → W p l e ({ frames := 3, cells := 0, slots := 0, locals := 74 } : Room) s m #[Value.ref a_] below meth c H locs 0 0 Q (F0 m 0 ls []) from hh9 s.heap [] hP hD hS
  clear hP hD hS
  intro H locs hP hD hS
  have h9 := fixPD (ws' := [k_X7 a_ a_tape a_reader a_scripts a_now a_trial a_kept a_book a_keptBook a_history a_draws a_refused c_hasImage, k_X6 a_tape a_tape_bytes c_tape_length, k_X3 a_reader a_tape a_reader_rules a_reader_places a_reader_steps c_reader_siteCount c_reader_stepCount c_reader_seenRules c_reader_at c_reader_wordStart c_reader_number c_reader_failed, k_I E a_reader_rules 3 c_reader_rules, k_I E a_reader_places 16 c_reader_places, k_X5 a_now a_now_row a_now_partners c_now_askedCount c_now_outcome a_now_share a_now_leftOver, k_I E a_now_row 81 c_now_row, k_X2 a_history a_history_rows c_history_next c_history_held]) hP hD rfl
  clear hP hD
  obtain ⟨hP, hD⟩ := h9
  unfold F_X7_beginWatch at hF
  refine lv_aload_n hx hb (dq_42 0 bcX7_beginWatch_0 (j := 0) rfl rfl) rfl (lv_at hl 0 rfl) ?_
  refine gt_X7_3 (v := .ref a_now) hx hb hts i_f_X7_beginWatch_X7 hown hK hP 0 rfl (hts (.fieldLink RX7 35 "HushWatch" "now" "LHushWatch$State;") (List.mem_of_getElem? (i := 1) rfl)) rfl (dq_180 0 bcX7_beginWatch_0 (j := 1) (i := 35) rfl rfl rfl) ?_
  refine lv_aload_n hx hb (dq_42 0 bcX7_beginWatch_0 (j := 4) rfl rfl) rfl (lv_at hl 0 rfl) ?_
  refine gt_X7_1 (v := .ref a_reader) hx hb hts i_f_X7_beginWatch_X7 hown hK hP 0 rfl (hts (.fieldLink RX7 21 "HushWatch" "reader" "LHushWatch$Reader;") (List.mem_of_getElem? (i := 2) rfl)) rfl (dq_180 0 bcX7_beginWatch_0 (j := 5) (i := 21) rfl rfl rfl) ?_
  replace hF := bd1_s hF
  obtain ⟨w_1, hc_2, hF⟩ := hF
  obtain ⟨hPc, hDc, hFc⟩ := wcut (wc := (w_X5_begin E a_now a_now_row a_now_partners a_now_share a_now_leftOver a_reader a_tape a_reader_rules a_reader_places a_reader_steps c_now_askedCount c_now_outcome c_now_row c_reader_siteCount c_reader_stepCount c_reader_seenRules c_reader_at c_reader_wordStart c_reader_number c_reader_failed c_reader_rules c_reader_places)) hP hD hS hA [5, 6, 2, 3, 4] (by decide) rfl
  have hrc := va_recv hK hPc (ci := 6) (q0 := 0) rfl rfl
  refine cE_v (wc := (w_X5_begin E a_now a_now_row a_now_partners a_now_share a_now_leftOver a_reader a_tape a_reader_rules a_reader_places a_reader_steps c_now_askedCount c_now_outcome c_now_row c_reader_siteCount c_reader_stepCount c_reader_seenRules c_reader_at c_reader_wordStart c_reader_number c_reader_failed c_reader_rules c_reader_places)) (wr := [k_X7 a_ a_tape a_reader a_scripts a_now a_trial a_kept a_book a_keptBook a_history a_draws a_refused c_hasImage, k_X6 a_tape a_tape_bytes c_tape_length, k_X2 a_history a_history_rows c_history_next c_history_held]) (w1 := (w_X5_begin E a_now a_now_row a_now_partners a_now_share a_now_leftOver a_reader a_tape a_reader_rules a_reader_places a_reader_steps c_now_askedCount c_now_outcome w_1 c_reader_siteCount c_reader_stepCount c_reader_seenRules c_reader_at c_reader_wordStart c_reader_number c_reader_failed c_reader_rules c_reader_places)) (va_runV (As := [.ref a_reader]) (rest := [])  ⟨hx, hb, hml, hown, hts⟩ (f_X5_begin l E H.size K (a_ := a_now) (a_row := a_now_row) (a_partners := a_now_partners) (a_share := a_now_share) (a_leftOver := a_now_leftOver) (a_o1 := a_reader) (a_o1_tape := a_tape) (a_o1_rules := a_reader_rules) (a_o1_places := a_reader_places) (a_o1_steps := a_reader_steps) (c_askedCount := c_now_askedCount) (c_outcome := c_now_outcome) (c_row := c_now_row) (c_o1_siteCount := c_reader_siteCount) (c_o1_stepCount := c_reader_stepCount) (c_o1_seenRules := c_reader_seenRules) (c_o1_at := c_reader_at) (c_o1_wordStart := c_reader_wordStart) (c_o1_number := c_reader_number) (c_o1_failed := c_reader_failed) (c_o1_rules := c_reader_rules) (c_o1_places := c_reader_places) hc_2) (cwV 1 hts g_f_X7_beginWatch_f_X5_begin_318 rfl rfl rfl hd_X5_begin ⟨Nat.le_of_ble_eq_true rfl, Nat.le_of_ble_eq_true rfl⟩) ⟨pW.blind, hrc, (pW.pre ⟨hK, hN⟩ hPc hDc)⟩ rfl rfl hl.1 rfl (lv_room (Nat.le_of_ble_eq_true rfl)) (dq_182 0 bcX7_beginWatch_0 (j := 8) (i := 318) rfl rfl rfl) ⟨Nat.le_of_ble_eq_true rfl, Nat.le_of_ble_eq_true rfl⟩) hS hFc hP hD [5, 6, 2, 3, 4] [0, 1, 7] rfl rfl (by decide) (by decide) (fun H locs hP hD hS => ?_)
  have h9 := fixPD (ws' := [k_X7 a_ a_tape a_reader a_scripts a_now a_trial a_kept a_book a_keptBook a_history a_draws a_refused c_hasImage, k_X6 a_tape a_tape_bytes c_tape_length, k_X2 a_history a_history_rows c_history_next c_history_held, k_X5 a_now a_now_row a_now_partners c_now_askedCount c_now_outcome a_now_share a_now_leftOver, k_I E a_now_row 81 w_1, k_X3 a_reader a_tape a_reader_rules a_reader_places a_reader_steps c_reader_siteCount c_reader_stepCount c_reader_seenRules c_reader_at c_reader_wordStart c_reader_number c_reader_failed, k_I E a_reader_rules 3 c_reader_rules, k_I E a_reader_places 16 c_reader_places]) hP hD rfl
  clear hP hD
  obtain ⟨hP, hD⟩ := h9
  refine lv_aload_n hx hb (dq_42 0 bcX7_beginWatch_0 (j := 11) rfl rfl) rfl (lv_at hl 0 rfl) ?_
  refine gt_X7_8 (v := .ref a_history) hx hb hts i_f_X7_beginWatch_X7 hown hK hP 0 rfl (hts (.fieldLink RX7 58 "HushWatch" "history" "LHushWatch$History;") (List.mem_of_getElem? (i := 3) rfl)) rfl (dq_180 0 bcX7_beginWatch_0 (j := 12) (i := 58) rfl rfl rfl) ?_
  replace hF := bd1_s hF
  obtain ⟨w_3, hc_4, hF⟩ := hF
  obtain ⟨hPc, hDc, hFc⟩ := wcut (wc := (w_X2_forget E a_history a_history_rows c_history_next c_history_held)) hP hD hS hA [2] (by decide) rfl
  have hrc := va_recv hK hPc (ci := 3) (q0 := 0) rfl rfl
  refine cE_v (wc := (w_X2_forget E a_history a_history_rows c_history_next c_history_held)) (wr := [k_X7 a_ a_tape a_reader a_scripts a_now a_trial a_kept a_book a_keptBook a_history a_draws a_refused c_hasImage, k_X6 a_tape a_tape_bytes c_tape_length, k_X5 a_now a_now_row a_now_partners c_now_askedCount c_now_outcome a_now_share a_now_leftOver, k_I E a_now_row 81 w_1, k_X3 a_reader a_tape a_reader_rules a_reader_places a_reader_steps c_reader_siteCount c_reader_stepCount c_reader_seenRules c_reader_at c_reader_wordStart c_reader_number c_reader_failed, k_I E a_reader_rules 3 c_reader_rules, k_I E a_reader_places 16 c_reader_places]) (w1 := (w_X2_forget E a_history a_history_rows c_history_next w_3)) (va_runV (As := []) (rest := [])  ⟨hx, hb, hml, hown, hts⟩ (f_X2_forget l E H.size (a_ := a_history) (a_rows := a_history_rows) (c_next := c_history_next) (c_held := c_history_held) hc_4) (cwV 0 hts g_f_X7_beginWatch_f_X2_forget_314 rfl rfl rfl hd_X2_forget ⟨Nat.le_of_ble_eq_true rfl, Nat.le_of_ble_eq_true rfl⟩) ⟨pW.blind, hrc, (pW.pre ⟨hK, hN⟩ hPc hDc)⟩ rfl rfl hl.1 rfl (lv_room (Nat.le_of_ble_eq_true rfl)) (dq_182 0 bcX7_beginWatch_0 (j := 15) (i := 314) rfl rfl rfl) ⟨Nat.le_of_ble_eq_true rfl, Nat.le_of_ble_eq_true rfl⟩) hS hFc hP hD [2] [0, 1, 3, 4, 5, 6, 7] rfl rfl (by decide) (by decide) (fun H locs hP hD hS => ?_)
  have h9 := fixPD (ws' := [k_X7 a_ a_tape a_reader a_scripts a_now a_trial a_kept a_book a_keptBook a_history a_draws a_refused c_hasImage, k_X6 a_tape a_tape_bytes c_tape_length, k_X5 a_now a_now_row a_now_partners c_now_askedCount c_now_outcome a_now_share a_now_leftOver, k_I E a_now_row 81 w_1, k_X3 a_reader a_tape a_reader_rules a_reader_places a_reader_steps c_reader_siteCount c_reader_stepCount c_reader_seenRules c_reader_at c_reader_wordStart c_reader_number c_reader_failed, k_I E a_reader_rules 3 c_reader_rules, k_I E a_reader_places 16 c_reader_places, k_X2 a_history a_history_rows c_history_next w_3]) hP hD rfl
  clear hP hD
  obtain ⟨hP, hD⟩ := h9
  refine lv_aload_n hx hb (dq_42 0 bcX7_beginWatch_0 (j := 18) rfl rfl) rfl (lv_at hl 0 rfl) ?_
  refine lv_iconst (v := 0) hx hb (dq_3 0 bcX7_beginWatch_0 (j := 19) rfl rfl) (by decide) ?_
  refine pt_X7_11 (v := .int (0 : Int32)) hx hb hts i_f_X7_beginWatch_X7 hown hK hP hD hS 0 rfl (hts (.fieldLink RX7 73 "HushWatch" "hasImage" "Z") (List.mem_of_getElem? (i := 4) rfl)) rfl rfl (Nat.le_of_ble_eq_true rfl) (dq_181 0 bcX7_beginWatch_0 (j := 20) (i := 73) rfl rfl rfl) (fun H locs hP hD hS => ?_)
  have h9 := fixPD (ws' := [k_X7 a_ a_tape a_reader a_scripts a_now a_trial a_kept a_book a_keptBook a_history a_draws a_refused (0 : Int32), k_X6 a_tape a_tape_bytes c_tape_length, k_X5 a_now a_now_row a_now_partners c_now_askedCount c_now_outcome a_now_share a_now_leftOver, k_I E a_now_row 81 w_1, k_X3 a_reader a_tape a_reader_rules a_reader_places a_reader_steps c_reader_siteCount c_reader_stepCount c_reader_seenRules c_reader_at c_reader_wordStart c_reader_number c_reader_failed, k_I E a_reader_rules 3 c_reader_rules, k_I E a_reader_places 16 c_reader_places, k_X2 a_history a_history_rows c_history_next w_3]) hP hD rfl
  clear hP hD
  obtain ⟨hP, hD⟩ := h9
  refine lv_aload_n hx hb (dq_42 0 bcX7_beginWatch_0 (j := 23) rfl rfl) rfl (lv_at hl 0 rfl) ?_
  refine gt_X7_0 (v := .ref a_tape) hx hb hts i_f_X7_beginWatch_X7 hown hK hP 0 rfl (hts (.fieldLink RX7 10 "HushWatch" "tape" "LHushWatch$Tape;") (List.mem_of_getElem? (i := 5) rfl)) rfl (dq_180 0 bcX7_beginWatch_0 (j := 24) (i := 10) rfl rfl rfl) ?_
  refine lv_iconst (v := 0) hx hb (dq_3 0 bcX7_beginWatch_0 (j := 27) rfl rfl) (by decide) ?_
  replace hF := bd2_s hF
  obtain ⟨r_5, w_6, hc_7, hF⟩ := hF
  obtain ⟨hPc, hDc, hFc⟩ := wcut (wc := (w_X6_cutTo E a_tape a_tape_bytes c_tape_length)) hP hD hS hA [1] (by decide) rfl
  have hrc := va_recv hK hPc (ci := 7) (q0 := 0) rfl rfl
  refine cE_z (wc := (w_X6_cutTo E a_tape a_tape_bytes c_tape_length)) (wr := [k_X7 a_ a_tape a_reader a_scripts a_now a_trial a_kept a_book a_keptBook a_history a_draws a_refused (0 : Int32), k_X5 a_now a_now_row a_now_partners c_now_askedCount c_now_outcome a_now_share a_now_leftOver, k_I E a_now_row 81 w_1, k_X3 a_reader a_tape a_reader_rules a_reader_places a_reader_steps c_reader_siteCount c_reader_stepCount c_reader_seenRules c_reader_at c_reader_wordStart c_reader_number c_reader_failed, k_I E a_reader_rules 3 c_reader_rules, k_I E a_reader_places 16 c_reader_places, k_X2 a_history a_history_rows c_history_next w_3]) (w1 := (w_X6_cutTo E a_tape a_tape_bytes w_6)) (va_runV (As := [.int (0 : Int32)]) (rest := [])  ⟨hx, hb, hml, hown, hts⟩ (f_X6_cutTo l E H.size (a_ := a_tape) (a_bytes := a_tape_bytes) (p1 := (0 : Int32)) (c_length := c_tape_length) hc_7) (cwV 1 hts g_f_X7_beginWatch_f_X6_cutTo_89 rfl rfl rfl hd_X6_cutTo ⟨Nat.le_of_ble_eq_true rfl, Nat.le_of_ble_eq_true rfl⟩) ⟨pW.blind, hrc, (pW.pre ⟨hK, hN⟩ hPc hDc)⟩ rfl rfl hl.1 rfl (lv_room (Nat.le_of_ble_eq_true rfl)) (dq_182 0 bcX7_beginWatch_0 (j := 28) (i := 89) rfl rfl rfl) ⟨Nat.le_of_ble_eq_true rfl, Nat.le_of_ble_eq_true rfl⟩) hS hFc hP hD [1] [0, 2, 3, 4, 5, 6, 7] rfl rfl (by decide) (by decide) (fun hb_8 H locs hP hD hS => ?_)
  have h9 := fixPD (ws' := [k_X7 a_ a_tape a_reader a_scripts a_now a_trial a_kept a_book a_keptBook a_history a_draws a_refused (0 : Int32), k_X5 a_now a_now_row a_now_partners c_now_askedCount c_now_outcome a_now_share a_now_leftOver, k_I E a_now_row 81 w_1, k_X3 a_reader a_tape a_reader_rules a_reader_places a_reader_steps c_reader_siteCount c_reader_stepCount c_reader_seenRules c_reader_at c_reader_wordStart c_reader_number c_reader_failed, k_I E a_reader_rules 3 c_reader_rules, k_I E a_reader_places 16 c_reader_places, k_X2 a_history a_history_rows c_history_next w_3, k_X6 a_tape a_tape_bytes w_6]) hP hD rfl
  clear hP hD
  obtain ⟨hP, hD⟩ := h9
  refine lv_pop hx hb (dq_87 0 bcX7_beginWatch_0 (j := 31) rfl rfl) rfl ?_
  refine lv_aload_n hx hb (dq_42 0 bcX7_beginWatch_0 (j := 32) rfl rfl) rfl (lv_at hl 0 rfl) ?_
  refine gt_X7_3 (v := .ref a_now) hx hb hts i_f_X7_beginWatch_X7 hown hK hP 0 rfl (hts (.fieldLink RX7 35 "HushWatch" "now" "LHushWatch$State;") (List.mem_of_getElem? (i := 1) rfl)) rfl (dq_180 0 bcX7_beginWatch_0 (j := 33) (i := 35) rfl rfl rfl) ?_
  replace hF := bd1_s hF
  obtain ⟨r_9, hc_10, hF⟩ := hF
  have hPc : va_P E.1 vwCl (w_X5_sites E a_now a_now_row a_now_partners a_now_share a_now_leftOver c_now_askedCount c_now_outcome w_1) H := hP.sub (ws' := [k_X5 a_now a_now_row a_now_partners c_now_askedCount c_now_outcome a_now_share a_now_leftOver, k_I E a_now_row 81 w_1]) [1, 2] rfl
  have hrc := va_recv hK hPc (ci := 6) (q0 := 0) rfl rfl
  refine pE_i (va_runV (As := []) (rest := [])  ⟨hx, hb, hml, hown, hts⟩ (f_X5_sites l E (a_ := a_now) (a_row := a_now_row) (a_partners := a_now_partners) (a_share := a_now_share) (a_leftOver := a_now_leftOver) (c_askedCount := c_now_askedCount) (c_outcome := c_now_outcome) (c_row := w_1) hc_10) (cwV 0 hts g_f_X7_beginWatch_f_X5_sites_117 rfl rfl rfl hd_X5_sites ⟨Nat.le_of_ble_eq_true rfl, Nat.le_of_ble_eq_true rfl⟩) ⟨pP.blind, hrc, (pP.pre ⟨hK, hN⟩ hPc)⟩ rfl rfl hl.1 rfl (lv_room (Nat.le_of_ble_eq_true rfl)) (dq_182 0 bcX7_beginWatch_0 (j := 36) (i := 117) rfl rfl rfl) ⟨Nat.le_of_ble_eq_true rfl, Nat.le_of_ble_eq_true rfl⟩) ?_
  rw [hQ]
  have h9 := fin9 (P := fun u9 : Int32 × Int32 × (Nat → Int32) × Int32 × Int32 => r_9 = u9.1 ∧ va_P E.1 vwCl (w_X7_beginWatch E a_ a_tape a_reader a_scripts a_now a_trial a_kept a_book a_keptBook a_history a_draws a_refused a_tape_bytes a_reader_rules a_reader_places a_reader_steps a_now_row a_now_partners a_now_share a_now_leftOver a_history_rows u9.2.2.2.2 u9.2.1 c_reader_siteCount c_reader_stepCount c_reader_seenRules c_reader_at c_reader_wordStart c_reader_number c_reader_failed c_reader_rules c_reader_places c_now_askedCount c_now_outcome u9.2.2.1 c_history_next u9.2.2.2.1) H ∧ va_D A (w_X7_beginWatch E a_ a_tape a_reader a_scripts a_now a_trial a_kept a_book a_keptBook a_history a_draws a_refused a_tape_bytes a_reader_rules a_reader_places a_reader_steps a_now_row a_now_partners a_now_share a_now_leftOver a_history_rows u9.2.2.2.2 u9.2.1 c_reader_siteCount c_reader_stepCount c_reader_seenRules c_reader_at c_reader_wordStart c_reader_number c_reader_failed c_reader_rules c_reader_places c_now_askedCount c_now_outcome u9.2.2.1 c_history_next u9.2.2.2.1)) hF ⟨rfl, hP.sub [0, 7, 3, 4, 5, 1, 2, 6] rfl, hD.sub [0, 7, 3, 4, 5, 1, 2, 6] (by decide) rfl⟩
  obtain ⟨e9_0, hP9, hD9⟩ := h9
  exact W.iret (v := r_9) hx hb hr (fun tt ht hW => ⟨⟨_, (), rfl, e9_0, ht ▸ hP9, hD9⟩, hS.F ht⟩) hS.2.2 (dq_172 0 bcX7_beginWatch_0 (j := 39) rfl rfl)

def F_X7_bound (K : Nat) (p1 : Int32) (c_now_row : Nat → Int32) (c_now_partners : Nat → Int32) (c_now_askedCount : Int32) (c_now_outcome : Int32) (c_now_share : Nat → Int32) (c_now_leftOver : Nat → Int32) (c_book_lines : Nat → Int32) (c_history_rows : Nat → Int32) (c_history_next : Int32) (c_history_held : Int32) (c_refused : Nat → Int32) : Option (Int32 × (Nat → Int32) × (Nat → Int32) × Int32 × Int32 × (Nat → Int32) × (Nat → Int32) × (Nat → Int32) × (Nat → Int32) × Int32 × Int32 × (Nat → Int32)) :=
  bd12 (F_X7_act K (2 : Int32) p1 (0 : Int32) (0 : Int32) (1 : Int32) c_now_row c_now_partners c_now_askedCount c_now_outcome c_now_share c_now_leftOver c_book_lines c_history_rows c_history_next c_history_held c_refused) (fun r_1 w_2 w_3 w_4 w_5 w_6 w_7 w_8 w_9 w_10 w_11 w_12 => if (0 : Int32) ≤ r_1 then some (c_now_row 1, w_2, w_3, w_4, w_5, w_6, w_7, w_8, w_9, w_10, w_11, w_12) else some ((-100000000 : Int32), w_2, w_3, w_4, w_5, w_6, w_7, w_8, w_9, w_10, w_11, w_12))
abbrev w_X7_bound (E : EE) (a_ a_tape a_reader a_scripts a_now a_trial a_kept a_book a_keptBook a_history a_draws a_refused a_now_row a_now_partners a_now_share a_now_leftOver a_book_lines a_history_rows : Nat) (c_hasImage : Int32) (c_now_askedCount : Int32) (c_now_outcome : Int32) (c_now_row : Nat → Int32) (c_now_partners : Nat → Int32) (c_now_share : Nat → Int32) (c_now_leftOver : Nat → Int32) (c_book_lines : Nat → Int32) (c_history_next : Int32) (c_history_held : Int32) (c_history_rows : Nat → Int32) (c_refused : Nat → Int32) : va_W := [k_X7 a_ a_tape a_reader a_scripts a_now a_trial a_kept a_book a_keptBook a_history a_draws a_refused c_hasImage, k_X5 a_now a_now_row a_now_partners c_now_askedCount c_now_outcome a_now_share a_now_leftOver, k_I E a_now_row 81 c_now_row, k_I E a_now_partners 8 c_now_partners, k_I E a_now_share 2 c_now_share, k_I E a_now_leftOver 2 c_now_leftOver, k_X0 a_book a_book_lines, k_I E a_book_lines 300 c_book_lines, k_X2 a_history a_history_rows c_history_next c_history_held, k_I E a_history_rows 3240 c_history_rows, k_I E a_refused 3 c_refused]
def v_f_X7_bound : List Cond := List.cons (.code yX7_bound cX7_bound 3 (some .int)) (HAppend.hAppend (α := List Cond) (β := List Cond) (γ := List Cond) [.fieldLink RX7 35 "HushWatch" "now" "LHushWatch$State;", .constant RX7 113 (-100000000), .methodLink RX7 163 yX7_act, .instanceMethod yX7_act, .selects RX7 yX7_act yX7_act, .initialized RX7] (HAppend.hAppend (α := List Cond) (β := List Cond) (γ := List Cond) wsX70 (HAppend.hAppend (α := List Cond) (β := List Cond) (γ := List Cond) wsX50 (HAppend.hAppend (α := List Cond) (β := List Cond) (γ := List Cond) v_f_X7_act []))))
theorem gw_f_X7_bound : v_f_X7_bound.all goodWord = true := gw_c2 (by decide +kernel) (gw_ap gw_wsX70 (gw_ap gw_wsX50 (gw_ap gw_f_X7_act gw_nil)))
theorem i_f_X7_bound_X7 : ∀ w ∈ wsX70, w ∈ v_f_X7_bound := fun _ h => List.mem_cons_of_mem _ (List.mem_append_right _ (List.mem_append_left _ h))
theorem i_f_X7_bound_X5 : ∀ w ∈ wsX50, w ∈ v_f_X7_bound := fun _ h => List.mem_cons_of_mem _ (List.mem_append_right _ (List.mem_append_right _ (List.mem_append_left _ h)))
theorem g_f_X7_bound_f_X7_act_163 : GoodIn v_f_X7_bound (wsV RX7 163 RX7 yX7_act v_f_X7_act) := goodIn_in gw_f_X7_bound (in4 3 4 5 6 rfl rfl rfl rfl (fun _ h => List.mem_cons_of_mem _ (List.mem_append_right _ (List.mem_append_right _ (List.mem_append_right _ (List.mem_append_left _ h))))))
theorem hd_X7_bound : yX7_bound.cls = RX7 ∧ yX7_bound.cls ≠ "java/lang/invoke/MethodHandle" ∧ yX7_bound.cls ≠ "java/lang/invoke/VarHandle" ∧ (parseMethodDescriptor yX7_bound.desc).map (fun d => d.parameters.length) = some 1 := by decide +kernel
set_option maxHeartbeats 4000000 in
set_option maxRecDepth 100000 in
theorem f_X7_bound (l : Launch) (E : EE) (sz : Nat) (K : Nat) {a_ a_tape a_reader a_scripts a_now a_trial a_kept a_book a_keptBook a_history a_draws a_refused a_now_row a_now_partners a_now_share a_now_leftOver a_book_lines a_history_rows : Nat} {p1 : Int32} {c_hasImage : Int32} {c_now_askedCount : Int32} {c_now_outcome : Int32} {c_now_row : Nat → Int32} {c_now_partners : Nat → Int32} {c_now_share : Nat → Int32} {c_now_leftOver : Nat → Int32} {c_book_lines : Nat → Int32} {c_history_next : Int32} {c_history_held : Int32} {c_history_rows : Nat → Int32} {c_refused : Nat → Int32} {rr : Int32} {n_now_row : Nat → Int32} {n_now_partners : Nat → Int32} {n_now_askedCount : Int32} {n_now_outcome : Int32} {n_now_share : Nat → Int32} {n_now_leftOver : Nat → Int32} {n_book_lines : Nat → Int32} {n_history_rows : Nat → Int32} {n_history_next : Int32} {n_history_held : Int32} {n_refused : Nat → Int32} (hF : F_X7_bound K p1 c_now_row c_now_partners c_now_askedCount c_now_outcome c_now_share c_now_leftOver c_book_lines c_history_rows c_history_next c_history_held c_refused = some (rr, n_now_row, n_now_partners, n_now_askedCount, n_now_outcome, n_now_share, n_now_leftOver, n_book_lines, n_history_rows, n_history_next, n_history_held, n_refused)) : Met l yX7_bound v_f_X7_bound (({ frames := 6, cells := 0, slots := 0, locals := 151 } : Room)) (va_Pc [.ref a_, .int p1] (pW E sz (w_X7_bound E a_ a_tape a_reader a_scripts a_now a_trial a_kept a_book a_keptBook a_history a_draws a_refused a_now_row a_now_partners a_now_share a_now_leftOver a_book_lines a_history_rows c_hasImage c_now_askedCount c_now_outcome c_now_row c_now_partners c_now_share c_now_leftOver c_book_lines c_history_next c_history_held c_history_rows c_refused))) (va_Qi (fun (q : Int32) (_u : Unit) => q = rr) (fun (_u : Unit) tt => va_P E.1 vwCl (w_X7_bound E a_ a_tape a_reader a_scripts a_now a_trial a_kept a_book a_keptBook a_history a_draws a_refused a_now_row a_now_partners a_now_share a_now_leftOver a_book_lines a_history_rows c_hasImage n_now_askedCount n_now_outcome n_now_row n_now_partners n_now_share n_now_leftOver n_book_lines n_history_next n_history_held n_history_rows n_refused) tt.heap ∧ va_D (va_A (w_X7_bound E a_ a_tape a_reader a_scripts a_now a_trial a_kept a_book a_keptBook a_history a_draws a_refused a_now_row a_now_partners a_now_share a_now_leftOver a_book_lines a_history_rows c_hasImage c_now_askedCount c_now_outcome c_now_row c_now_partners c_now_share c_now_leftOver c_book_lines c_history_next c_history_held c_history_rows c_refused) sz) (w_X7_bound E a_ a_tape a_reader a_scripts a_now a_trial a_kept a_book a_keptBook a_history a_draws a_refused a_now_row a_now_partners a_now_share a_now_leftOver a_book_lines a_history_rows c_hasImage n_now_askedCount n_now_outcome n_now_row n_now_partners n_now_share n_now_leftOver n_book_lines n_history_next n_history_held n_history_rows n_refused)) (va_A (w_X7_bound E a_ a_tape a_reader a_scripts a_now a_trial a_kept a_book a_keptBook a_history a_draws a_refused a_now_row a_now_partners a_now_share a_now_leftOver a_book_lines a_history_rows c_hasImage c_now_askedCount c_now_outcome c_now_row c_now_partners c_now_share c_now_leftOver c_book_lines c_history_next c_history_held c_history_rows c_refused) sz)) 0 0 (va_A (w_X7_bound E a_ a_tape a_reader a_scripts a_now a_trial a_kept a_book a_keptBook a_history a_draws a_refused a_now_row a_now_partners a_now_share a_now_leftOver a_book_lines a_history_rows c_hasImage c_now_askedCount c_now_outcome c_now_row c_now_partners c_now_share c_now_leftOver c_book_lines c_history_next c_history_held c_history_rows c_refused) sz) := by
  refine Met.ofW (cc := cX7_bound) (maxL := 3) (ret := (some .int)) (by decide) rfl ?_
  intro p e s m args below meth c s₁ B hml hv
  obtain ⟨rfl, hsz, ⟨hK, hN⟩, hP, hD0⟩ := hv
  have hx := B.exec
  have hb := B.bytes
  have hr := B.returns
  have hts := atoms_spec (ws := v_f_X7_bound) B.pre
  have hown : s.vm.findClass RX7 = some m.cls := own_of hd_X7_bound.1 (findClass_of_methodNamed B.named)
  have hlocks : meth.locks = false := B.notSynchronized
  subst hsz
  have hD := hD0.self (sz := s.heap.size)
  generalize hAe : va_A (w_X7_bound E a_ a_tape a_reader a_scripts a_now a_trial a_kept a_book a_keptBook a_history a_draws a_refused a_now_row a_now_partners a_now_share a_now_leftOver a_book_lines a_history_rows c_hasImage c_now_askedCount c_now_outcome c_now_row c_now_partners c_now_share c_now_leftOver c_book_lines c_history_next c_history_held c_history_rows c_refused) s.heap.size = A at hD ⊢
  have hA : ∀ q : Nat, s.heap.size ≤ q → A q := fun q h => by rw [← hAe]; exact Or.inr h
  have hS : va_S A s.heap s.heap [] := va_S.rf
  have hl := lv_entry ([.ref a_, .int p1]) (n := 3) (Nat.le_of_ble_eq_true rfl)
  rw [lg_entry_eq]
  generalize (lg_sl ([.ref a_, .int p1]) ++ List.replicate (3 - (lg_sl ([.ref a_, .int p1])).length) Slot.unset).toArray = ls at hl ⊢
  have hl : lv_has ls 3 [(0, .ref a_), (1, .int p1)] := hl
  obtain ⟨Q, hQ⟩ : ∃ Q : State → Prop, Q = MQ below (va_Qi (fun (q : Int32) (_u : Unit) => q = rr) (fun (_u : Unit) tt => va_P E.1 vwCl (w_X7_bound E a_ a_tape a_reader a_scripts a_now a_trial a_kept a_book a_keptBook a_history a_draws a_refused a_now_row a_now_partners a_now_share a_now_leftOver a_book_lines a_history_rows c_hasImage n_now_askedCount n_now_outcome n_now_row n_now_partners n_now_share n_now_leftOver n_book_lines n_history_next n_history_held n_history_rows n_refused) tt.heap ∧ va_D A (w_X7_bound E a_ a_tape a_reader a_scripts a_now a_trial a_kept a_book a_keptBook a_history a_draws a_refused a_now_row a_now_partners a_now_share a_now_leftOver a_book_lines a_history_rows c_hasImage n_now_askedCount n_now_outcome n_now_row n_now_partners n_now_share n_now_leftOver n_book_lines n_history_next n_history_held n_history_rows n_refused)) A) #[Value.ref a_, Value.int p1] s 0 0 A := ⟨_, rfl⟩
  rw [← hQ]
  change W p l e ({ frames := 6, cells := 0, slots := 0, locals := 151 } : Room) s m #[Value.ref a_, Value.int p1] below meth c s.heap [] 0 0 Q (F0 m 0 ls [])
  suffices hh9 : ∀ (H : Heap) (locs : List Loc), va_P E.1 vwCl (w_X7_bound E a_ a_tape a_reader a_scripts a_now a_trial a_kept a_book a_keptBook a_history a_draws a_refused a_now_row a_now_partners a_now_share a_now_leftOver a_book_lines a_history_rows c_hasImage c_now_askedCount c_now_outcome c_now_row c_now_partners c_now_share c_now_leftOver c_book_lines c_history_next c_history_held c_history_rows c_refused) H → va_D A (w_X7_bound E a_ a_tape a_reader a_scripts a_now a_trial a_kept a_book a_keptBook a_history a_draws a_refused a_now_row a_now_partners a_now_share a_now_leftOver a_book_lines a_history_rows c_hasImage c_now_askedCount c_now_outcome c_now_row c_now_partners c_now_share c_now_leftOver c_book_lines c_history_next c_history_held c_history_rows c_refused) → va_S A s.heap H locs → W p l e ({ frames := 6, cells := 0, slots := 0, locals := 151 } : Room) s m #[Value.ref a_, Value.int p1] below meth c H locs 0 0 Q (F0 m 0 ls []) from hh9 s.heap [] hP hD hS
  clear hP hD hS
  intro H locs hP hD hS
  have h9 := fixPD (ws' := [k_X7 a_ a_tape a_reader a_scripts a_now a_trial a_kept a_book a_keptBook a_history a_draws a_refused c_hasImage, k_X5 a_now a_now_row a_now_partners c_now_askedCount c_now_outcome a_now_share a_now_leftOver, k_I E a_now_row 81 c_now_row, k_I E a_now_partners 8 c_now_partners, k_I E a_now_share 2 c_now_share, k_I E a_now_leftOver 2 c_now_leftOver, k_X0 a_book a_book_lines, k_I E a_book_lines 300 c_book_lines, k_X2 a_history a_history_rows c_history_next c_history_held, k_I E a_history_rows 3240 c_history_rows, k_I E a_refused 3 c_refused]) hP hD rfl
  clear hP hD
  obtain ⟨hP, hD⟩ := h9
  unfold F_X7_bound at hF
  refine lv_aload_n hx hb (dq_42 0 bcX7_bound_0 (j := 0) rfl rfl) rfl (lv_at hl 0 rfl) ?_
  refine gt_X7_3 (v := .ref a_now) hx hb hts i_f_X7_bound_X7 hown hK hP 0 rfl (hts (.fieldLink RX7 35 "HushWatch" "now" "LHushWatch$State;") (List.mem_of_getElem? (i := 1) rfl)) rfl (dq_180 0 bcX7_bound_0 (j := 1) (i := 35) rfl rfl rfl) ?_
  refine va_getN (D := E.1) (ci := 6) (v := .ref a_now_row) (C := RX5) (T := TX5) (N := 6) hx hb hts i_f_X7_bound_X5 hown hK hP 1 rfl rfl 0 (by decide) (nx hN 12 rfl) (fun _ h9 => h9) rfl (dq_180 0 bcX7_bound_0 (j := 4) (i := 114) rfl rfl rfl) ?_
  refine lv_iconst (v := 1) hx hb (dq_4 0 bcX7_bound_0 (j := 7) rfl rfl) (by decide) ?_
  refine va_iald hx hb hK hP 2 0 rfl rfl (vin rfl) (dq_46 0 bcX7_bound_0 (j := 8) rfl rfl) ?_
  refine W.eq (g2 := F0 m 9 ls [.int (c_now_row 1)]) rfl ?_
  refine lv_istore_n (lv' := [(2, .int (c_now_row 1)), (0, .ref a_), (1, .int p1)]) hx hb (dq_61 0 bcX7_bound_0 (j := 9) rfl rfl) rfl hl (by decide) rfl (fun ls hl => ?_)
  refine lv_aload_n hx hb (dq_42 0 bcX7_bound_0 (j := 10) rfl rfl) rfl (lv_at hl 1 rfl) ?_
  refine lv_iconst (v := 2) hx hb (dq_5 0 bcX7_bound_0 (j := 11) rfl rfl) (by decide) ?_
  refine lv_iload_n hx hb (dq_27 0 bcX7_bound_0 (j := 12) rfl rfl) rfl (lv_at hl 2 rfl) ?_
  refine lv_iconst (v := 0) hx hb (dq_3 0 bcX7_bound_0 (j := 13) rfl rfl) (by decide) ?_
  refine lv_iconst (v := 0) hx hb (dq_3 0 bcX7_bound_0 (j := 14) rfl rfl) (by decide) ?_
  refine lv_iconst (v := 1) hx hb (dq_4 0 bcX7_bound_0 (j := 15) rfl rfl) (by decide) ?_
  replace hF := bd12_s hF
  obtain ⟨r_1, w_2, w_3, w_4, w_5, w_6, w_7, w_8, w_9, w_10, w_11, w_12, hc_13, hF⟩ := hF
  obtain ⟨hPc, hDc, hFc⟩ := wcut (wc := (w_X7_act E a_ a_tape a_reader a_scripts a_now a_trial a_kept a_book a_keptBook a_history a_draws a_refused a_now_row a_now_partners a_now_share a_now_leftOver a_book_lines a_history_rows c_hasImage c_now_askedCount c_now_outcome c_now_row c_now_partners c_now_share c_now_leftOver c_book_lines c_history_next c_history_held c_history_rows c_refused)) hP hD hS hA [0, 1, 2, 3, 4, 5, 6, 7, 8, 9, 10] (by decide) rfl
  have hrc := va_recv hK hPc (ci := 8) (q0 := 0) rfl rfl
  refine cE_i (wc := (w_X7_act E a_ a_tape a_reader a_scripts a_now a_trial a_kept a_book a_keptBook a_history a_draws a_refused a_now_row a_now_partners a_now_share a_now_leftOver a_book_lines a_history_rows c_hasImage c_now_askedCount c_now_outcome c_now_row c_now_partners c_now_share c_now_leftOver c_book_lines c_history_next c_history_held c_history_rows c_refused)) (wr := []) (w1 := (w_X7_act E a_ a_tape a_reader a_scripts a_now a_trial a_kept a_book a_keptBook a_history a_draws a_refused a_now_row a_now_partners a_now_share a_now_leftOver a_book_lines a_history_rows c_hasImage w_4 w_5 w_2 w_3 w_6 w_7 w_8 w_10 w_11 w_9 w_12)) (va_runV (As := [.int (2 : Int32), .int p1, .int (0 : Int32), .int (0 : Int32), .int (1 : Int32)]) (rest := [])  ⟨hx, hb, hml, hown, hts⟩ (f_X7_act l E H.size K (a_ := a_) (a_tape := a_tape) (a_reader := a_reader) (a_scripts := a_scripts) (a_now := a_now) (a_trial := a_trial) (a_kept := a_kept) (a_book := a_book) (a_keptBook := a_keptBook) (a_history := a_history) (a_draws := a_draws) (a_refused := a_refused) (a_now_row := a_now_row) (a_now_partners := a_now_partners) (a_now_share := a_now_share) (a_now_leftOver := a_now_leftOver) (a_book_lines := a_book_lines) (a_history_rows := a_history_rows) (p1 := (2 : Int32)) (p2 := p1) (p3 := (0 : Int32)) (p4 := (0 : Int32)) (p5 := (1 : Int32)) (c_hasImage := c_hasImage) (c_now_askedCount := c_now_askedCount) (c_now_outcome := c_now_outcome) (c_now_row := c_now_row) (c_now_partners := c_now_partners) (c_now_share := c_now_share) (c_now_leftOver := c_now_leftOver) (c_book_lines := c_book_lines) (c_history_next := c_history_next) (c_history_held := c_history_held) (c_history_rows := c_history_rows) (c_refused := c_refused) hc_13) (cwV 5 hts g_f_X7_bound_f_X7_act_163 rfl rfl rfl hd_X7_act ⟨Nat.le_of_ble_eq_true rfl, Nat.le_of_ble_eq_true rfl⟩) ⟨pW.blind, hrc, (pW.pre ⟨hK, hN⟩ hPc hDc)⟩ rfl rfl hl.1 rfl (lv_room (Nat.le_of_ble_eq_true rfl)) (dq_182 0 bcX7_bound_0 (j := 16) (i := 163) rfl rfl rfl) ⟨Nat.le_of_ble_eq_true rfl, Nat.le_of_ble_eq_true rfl⟩) hS hFc hP hD [0, 1, 2, 3, 4, 5, 6, 7, 8, 9, 10] [] rfl rfl (by decide) (by decide) (fun H locs hP hD hS => ?_)
  have h9 := fixPD (ws' := [k_X7 a_ a_tape a_reader a_scripts a_now a_trial a_kept a_book a_keptBook a_history a_draws a_refused c_hasImage, k_X5 a_now a_now_row a_now_partners w_4 w_5 a_now_share a_now_leftOver, k_I E a_now_row 81 w_2, k_I E a_now_partners 8 w_3, k_I E a_now_share 2 w_6, k_I E a_now_leftOver 2 w_7, k_X0 a_book a_book_lines, k_I E a_book_lines 300 w_8, k_X2 a_history a_history_rows w_10 w_11, k_I E a_history_rows 3240 w_9, k_I E a_refused 3 w_12]) hP hD rfl
  clear hP hD
  obtain ⟨hP, hD⟩ := h9
  refine lv_if_ge (tgt := 27) hx hb (dq_156 0 bcX7_bound_0 (j := 19) (i := 8) rfl rfl rfl) (by decide) (fun c_14 => ?_) (fun c_14 => ?_)
  ·
    replace hF := ip c_14 hF
    refine lv_iload_n hx hb (dq_28 0 bcX7_bound_0 (j := 27) rfl rfl) rfl (lv_at hl 0 rfl) ?_
    rw [hQ]
    have h9 := fin9 (P := fun u9 : Int32 × (Nat → Int32) × (Nat → Int32) × Int32 × Int32 × (Nat → Int32) × (Nat → Int32) × (Nat → Int32) × (Nat → Int32) × Int32 × Int32 × (Nat → Int32) => (c_now_row 1) = u9.1 ∧ va_P E.1 vwCl (w_X7_bound E a_ a_tape a_reader a_scripts a_now a_trial a_kept a_book a_keptBook a_history a_draws a_refused a_now_row a_now_partners a_now_share a_now_leftOver a_book_lines a_history_rows c_hasImage u9.2.2.2.1 u9.2.2.2.2.1 u9.2.1 u9.2.2.1 u9.2.2.2.2.2.1 u9.2.2.2.2.2.2.1 u9.2.2.2.2.2.2.2.1 u9.2.2.2.2.2.2.2.2.2.1 u9.2.2.2.2.2.2.2.2.2.2.1 u9.2.2.2.2.2.2.2.2.1 u9.2.2.2.2.2.2.2.2.2.2.2) H ∧ va_D A (w_X7_bound E a_ a_tape a_reader a_scripts a_now a_trial a_kept a_book a_keptBook a_history a_draws a_refused a_now_row a_now_partners a_now_share a_now_leftOver a_book_lines a_history_rows c_hasImage u9.2.2.2.1 u9.2.2.2.2.1 u9.2.1 u9.2.2.1 u9.2.2.2.2.2.1 u9.2.2.2.2.2.2.1 u9.2.2.2.2.2.2.2.1 u9.2.2.2.2.2.2.2.2.2.1 u9.2.2.2.2.2.2.2.2.2.2.1 u9.2.2.2.2.2.2.2.2.1 u9.2.2.2.2.2.2.2.2.2.2.2)) hF ⟨rfl, hP, hD⟩
    obtain ⟨e9_0, hP9, hD9⟩ := h9
    exact W.iret (v := c_now_row 1) hx hb hr (fun tt ht hW => ⟨⟨_, (), rfl, e9_0, ht ▸ hP9, hD9⟩, hS.F ht⟩) hS.2.2 (dq_172 0 bcX7_bound_0 (j := 28) rfl rfl)
  ·
    replace hF := inn c_14 hF
    refine lv_ldc (v := -100000000) hx hb hown (hts (.constant RX7 113 (-100000000)) (List.mem_of_getElem? (i := 2) rfl)) (dq_18 0 bcX7_bound_0 (j := 22) (i := 113) rfl rfl) ?_
    refine lv_goto (tgt := 28) hx hb (dq_167 0 bcX7_bound_0 (j := 24) (i := 4) rfl rfl rfl) (by decide) ?_
    rw [hQ]
    have h9 := fin9 (P := fun u9 : Int32 × (Nat → Int32) × (Nat → Int32) × Int32 × Int32 × (Nat → Int32) × (Nat → Int32) × (Nat → Int32) × (Nat → Int32) × Int32 × Int32 × (Nat → Int32) => (-100000000 : Int32) = u9.1 ∧ va_P E.1 vwCl (w_X7_bound E a_ a_tape a_reader a_scripts a_now a_trial a_kept a_book a_keptBook a_history a_draws a_refused a_now_row a_now_partners a_now_share a_now_leftOver a_book_lines a_history_rows c_hasImage u9.2.2.2.1 u9.2.2.2.2.1 u9.2.1 u9.2.2.1 u9.2.2.2.2.2.1 u9.2.2.2.2.2.2.1 u9.2.2.2.2.2.2.2.1 u9.2.2.2.2.2.2.2.2.2.1 u9.2.2.2.2.2.2.2.2.2.2.1 u9.2.2.2.2.2.2.2.2.1 u9.2.2.2.2.2.2.2.2.2.2.2) H ∧ va_D A (w_X7_bound E a_ a_tape a_reader a_scripts a_now a_trial a_kept a_book a_keptBook a_history a_draws a_refused a_now_row a_now_partners a_now_share a_now_leftOver a_book_lines a_history_rows c_hasImage u9.2.2.2.1 u9.2.2.2.2.1 u9.2.1 u9.2.2.1 u9.2.2.2.2.2.1 u9.2.2.2.2.2.2.1 u9.2.2.2.2.2.2.2.1 u9.2.2.2.2.2.2.2.2.2.1 u9.2.2.2.2.2.2.2.2.2.2.1 u9.2.2.2.2.2.2.2.2.1 u9.2.2.2.2.2.2.2.2.2.2.2)) hF ⟨rfl, hP, hD⟩
    obtain ⟨e9_0, hP9, hD9⟩ := h9
    exact W.iret (v := (-100000000 : Int32)) hx hb hr (fun tt ht hW => ⟨⟨_, (), rfl, e9_0, ht ▸ hP9, hD9⟩, hS.F ht⟩) hS.2.2 (dq_172 0 bcX7_bound_0 (j := 28) rfl rfl)

def F_X7_canBeAsked (p1 : Int32) (p2 : Int32) (c_now_row : Nat → Int32) : Option (Int32) :=
  bd1 (F_X5_stands c_now_row) (fun r_1 => if r_1 = (0 : Int32) then some (0 : Int32) else if p1 < (-1000000 : Int32) then some (0 : Int32) else if (1000000 : Int32) < p1 then some (0 : Int32) else if p2 < (-1000000 : Int32) then some (0 : Int32) else if (1000000 : Int32) < p2 then some (0 : Int32) else some (1 : Int32))
abbrev w_X7_canBeAsked (E : EE) (a_ a_tape a_reader a_scripts a_now a_trial a_kept a_book a_keptBook a_history a_draws a_refused a_now_row a_now_partners a_now_share a_now_leftOver : Nat) (c_hasImage : Int32) (c_now_askedCount : Int32) (c_now_outcome : Int32) (c_now_row : Nat → Int32) : va_W := [k_X7 a_ a_tape a_reader a_scripts a_now a_trial a_kept a_book a_keptBook a_history a_draws a_refused c_hasImage, k_X5 a_now a_now_row a_now_partners c_now_askedCount c_now_outcome a_now_share a_now_leftOver, k_I E a_now_row 81 c_now_row]
def v_f_X7_canBeAsked : List Cond := List.cons (.code yX7_canBeAsked cX7_canBeAsked 3 (some .boolean)) (HAppend.hAppend (α := List Cond) (β := List Cond) (γ := List Cond) [.fieldLink RX7 35 "HushWatch" "now" "LHushWatch$State;", .constant RX7 325 (-1000000), .constant RX7 326 (1000000), .methodLink RX7 110 yX5_stands, .instanceMethod yX5_stands, .selects RX5 yX5_stands yX5_stands, .initialized RX5] (HAppend.hAppend (α := List Cond) (β := List Cond) (γ := List Cond) wsX70 (HAppend.hAppend (α := List Cond) (β := List Cond) (γ := List Cond) v_f_X5_stands [])))
theorem gw_f_X7_canBeAsked : v_f_X7_canBeAsked.all goodWord = true := gw_c2 (by decide +kernel) (gw_ap gw_wsX70 (gw_ap gw_f_X5_stands gw_nil))
theorem i_f_X7_canBeAsked_X7 : ∀ w ∈ wsX70, w ∈ v_f_X7_canBeAsked := fun _ h => List.mem_cons_of_mem _ (List.mem_append_right _ (List.mem_append_left _ h))
theorem g_f_X7_canBeAsked_f_X5_stands_110 : GoodIn v_f_X7_canBeAsked (wsV RX7 110 RX5 yX5_stands v_f_X5_stands) := goodIn_in gw_f_X7_canBeAsked (in4 4 5 6 7 rfl rfl rfl rfl (fun _ h => List.mem_cons_of_mem _ (List.mem_append_right _ (List.mem_append_right _ (List.mem_append_left _ h)))))
theorem hd_X7_canBeAsked : yX7_canBeAsked.cls = RX7 ∧ yX7_canBeAsked.cls ≠ "java/lang/invoke/MethodHandle" ∧ yX7_canBeAsked.cls ≠ "java/lang/invoke/VarHandle" ∧ (parseMethodDescriptor yX7_canBeAsked.desc).map (fun d => d.parameters.length) = some 2 := by decide +kernel
set_option maxHeartbeats 4000000 in
set_option maxRecDepth 100000 in
theorem f_X7_canBeAsked (l : Launch) (E : EE) {a_ a_tape a_reader a_scripts a_now a_trial a_kept a_book a_keptBook a_history a_draws a_refused a_now_row a_now_partners a_now_share a_now_leftOver : Nat} {p1 : Int32} {p2 : Int32} {c_hasImage : Int32} {c_now_askedCount : Int32} {c_now_outcome : Int32} {c_now_row : Nat → Int32} {rr : Int32} (hF : F_X7_canBeAsked p1 p2 c_now_row = some rr) : Met l yX7_canBeAsked v_f_X7_canBeAsked (({ frames := 1, cells := 0, slots := 0, locals := 20 } : Room)) (va_Pc [.ref a_, .int p1, .int p2] (pP E (w_X7_canBeAsked E a_ a_tape a_reader a_scripts a_now a_trial a_kept a_book a_keptBook a_history a_draws a_refused a_now_row a_now_partners a_now_share a_now_leftOver c_hasImage c_now_askedCount c_now_outcome c_now_row))) (vp_Si (fun q : Int32 => q = rr ∧ (q = 0 ∨ q = 1))) 0 0 (fun _ => False) := by
  refine Met.ofW (cc := cX7_canBeAsked) (maxL := 3) (ret := (some .boolean)) (by decide) rfl ?_
  intro p e s m args below meth c s₁ B hml hv
  obtain ⟨rfl, ⟨hK, hN⟩, hP⟩ := hv
  have hx := B.exec
  have hb := B.bytes
  have hr := B.returns
  have hts := atoms_spec (ws := v_f_X7_canBeAsked) B.pre
  have hown : s.vm.findClass RX7 = some m.cls := own_of hd_X7_canBeAsked.1 (findClass_of_methodNamed B.named)
  have hlocks : meth.locks = false := B.notSynchronized
  replace hP : va_P E.1 vwCl [k_X7 a_ a_tape a_reader a_scripts a_now a_trial a_kept a_book a_keptBook a_history a_draws a_refused c_hasImage, k_X5 a_now a_now_row a_now_partners c_now_askedCount c_now_outcome a_now_share a_now_leftOver, k_I E a_now_row 81 c_now_row] s.heap := hP
  have hl := lv_entry ([.ref a_, .int p1, .int p2]) (n := 3) (Nat.le_of_ble_eq_true rfl)
  rw [lg_entry_eq]
  generalize (lg_sl ([.ref a_, .int p1, .int p2]) ++ List.replicate (3 - (lg_sl ([.ref a_, .int p1, .int p2])).length) Slot.unset).toArray = ls at hl ⊢
  have hl : lv_has ls 3 [(0, .ref a_), (1, .int p1), (2, .int p2)] := hl
  obtain ⟨Q, hQ⟩ : ∃ Q : State → Prop, Q = MQ below (vp_Si (fun q : Int32 => q = rr ∧ (q = 0 ∨ q = 1))) #[Value.ref a_, Value.int p1, Value.int p2] s 0 0 (fun _ => False) := ⟨_, rfl⟩
  rw [← hQ]
  change W p l e ({ frames := 1, cells := 0, slots := 0, locals := 20 } : Room) s m #[Value.ref a_, Value.int p1, Value.int p2] below meth c s.heap [] 0 0 Q (F0 m 0 ls [])
  unfold F_X7_canBeAsked at hF
  refine lv_aload_n hx hb (dq_42 0 bcX7_canBeAsked_0 (j := 0) rfl rfl) rfl (lv_at hl 0 rfl) ?_
  refine gt_X7_3 (v := .ref a_now) hx hb hts i_f_X7_canBeAsked_X7 hown hK hP 0 rfl (hts (.fieldLink RX7 35 "HushWatch" "now" "LHushWatch$State;") (List.mem_of_getElem? (i := 1) rfl)) rfl (dq_180 0 bcX7_canBeAsked_0 (j := 1) (i := 35) rfl rfl rfl) ?_
  replace hF := bd1_s hF
  obtain ⟨r_1, hc_2, hF⟩ := hF
  have hPc : va_P E.1 vwCl (w_X5_stands E a_now a_now_row a_now_partners a_now_share a_now_leftOver c_now_askedCount c_now_outcome c_now_row) s.heap := hP.sub (ws' := [k_X5 a_now a_now_row a_now_partners c_now_askedCount c_now_outcome a_now_share a_now_leftOver, k_I E a_now_row 81 c_now_row]) [1, 2] rfl
  have hrc := va_recv hK hPc (ci := 6) (q0 := 0) rfl rfl
  refine pE_z (va_runV (As := []) (rest := [])  ⟨hx, hb, hml, hown, hts⟩ (f_X5_stands l E (a_ := a_now) (a_row := a_now_row) (a_partners := a_now_partners) (a_share := a_now_share) (a_leftOver := a_now_leftOver) (c_askedCount := c_now_askedCount) (c_outcome := c_now_outcome) (c_row := c_now_row) hc_2) (cwV 0 hts g_f_X7_canBeAsked_f_X5_stands_110 rfl rfl rfl hd_X5_stands ⟨Nat.le_of_ble_eq_true rfl, Nat.le_of_ble_eq_true rfl⟩) ⟨pP.blind, hrc, (pP.pre ⟨hK, hN⟩ hPc)⟩ rfl rfl hl.1 rfl (lv_room (Nat.le_of_ble_eq_true rfl)) (dq_182 0 bcX7_canBeAsked_0 (j := 4) (i := 110) rfl rfl rfl) ⟨Nat.le_of_ble_eq_true rfl, Nat.le_of_ble_eq_true rfl⟩) (fun hb_3 => ?_)
  refine lv_if_eq (tgt := 42) hx hb (dq_153 0 bcX7_canBeAsked_0 (j := 7) (i := 35) rfl rfl rfl) (by decide) (fun c_4 => ?_) (fun c_4 => ?_)
  ·
    replace hF := ip c_4 hF
    refine lv_iconst (v := 0) hx hb (dq_3 0 bcX7_canBeAsked_0 (j := 42) rfl rfl) (by decide) ?_
    rw [hQ]
    obtain e9_0 := inj1 hF
    exact W.zret (v := (0 : Int32)) hx hb hr rfl (fun tt ht hW => ⟨_, rfl, ⟨e9_0, Or.inl rfl⟩, ht⟩) (fun _ h => by cases h) (dq_172 0 bcX7_canBeAsked_0 (j := 43) rfl rfl)
  ·
    replace hF := inn c_4 hF
    refine lv_iload_n hx hb (dq_27 0 bcX7_canBeAsked_0 (j := 10) rfl rfl) rfl (lv_at hl 1 rfl) ?_
    refine lv_ldcw (v := -1000000) hx hb hown (hts (.constant RX7 325 (-1000000)) (List.mem_of_getElem? (i := 2) rfl)) (dq_19 0 bcX7_canBeAsked_0 (j := 11) (i := 325) rfl rfl rfl) ?_
    refine lv_icmp_lt (tgt := 42) hx hb (dq_161 0 bcX7_canBeAsked_0 (j := 14) (i := 28) rfl rfl rfl) (by decide) (fun c_5 => ?_) (fun c_5 => ?_)
    ·
      replace hF := ip c_5 hF
      refine lv_iconst (v := 0) hx hb (dq_3 0 bcX7_canBeAsked_0 (j := 42) rfl rfl) (by decide) ?_
      rw [hQ]
      obtain e9_0 := inj1 hF
      exact W.zret (v := (0 : Int32)) hx hb hr rfl (fun tt ht hW => ⟨_, rfl, ⟨e9_0, Or.inl rfl⟩, ht⟩) (fun _ h => by cases h) (dq_172 0 bcX7_canBeAsked_0 (j := 43) rfl rfl)
    ·
      replace hF := inn c_5 hF
      refine lv_iload_n hx hb (dq_27 0 bcX7_canBeAsked_0 (j := 17) rfl rfl) rfl (lv_at hl 1 rfl) ?_
      refine lv_ldcw (v := 1000000) hx hb hown (hts (.constant RX7 326 (1000000)) (List.mem_of_getElem? (i := 3) rfl)) (dq_19 0 bcX7_canBeAsked_0 (j := 18) (i := 326) rfl rfl rfl) ?_
      refine lv_icmp_gt (tgt := 42) hx hb (dq_163 0 bcX7_canBeAsked_0 (j := 21) (i := 21) rfl rfl rfl) (by decide) (fun c_6 => ?_) (fun c_6 => ?_)
      ·
        replace hF := ip c_6 hF
        refine lv_iconst (v := 0) hx hb (dq_3 0 bcX7_canBeAsked_0 (j := 42) rfl rfl) (by decide) ?_
        rw [hQ]
        obtain e9_0 := inj1 hF
        exact W.zret (v := (0 : Int32)) hx hb hr rfl (fun tt ht hW => ⟨_, rfl, ⟨e9_0, Or.inl rfl⟩, ht⟩) (fun _ h => by cases h) (dq_172 0 bcX7_canBeAsked_0 (j := 43) rfl rfl)
      ·
        replace hF := inn c_6 hF
        refine lv_iload_n hx hb (dq_28 0 bcX7_canBeAsked_0 (j := 24) rfl rfl) rfl (lv_at hl 2 rfl) ?_
        refine lv_ldcw (v := -1000000) hx hb hown (hts (.constant RX7 325 (-1000000)) (List.mem_of_getElem? (i := 2) rfl)) (dq_19 0 bcX7_canBeAsked_0 (j := 25) (i := 325) rfl rfl rfl) ?_
        refine lv_icmp_lt (tgt := 42) hx hb (dq_161 0 bcX7_canBeAsked_0 (j := 28) (i := 14) rfl rfl rfl) (by decide) (fun c_7 => ?_) (fun c_7 => ?_)
        ·
          replace hF := ip c_7 hF
          refine lv_iconst (v := 0) hx hb (dq_3 0 bcX7_canBeAsked_0 (j := 42) rfl rfl) (by decide) ?_
          rw [hQ]
          obtain e9_0 := inj1 hF
          exact W.zret (v := (0 : Int32)) hx hb hr rfl (fun tt ht hW => ⟨_, rfl, ⟨e9_0, Or.inl rfl⟩, ht⟩) (fun _ h => by cases h) (dq_172 0 bcX7_canBeAsked_0 (j := 43) rfl rfl)
        ·
          replace hF := inn c_7 hF
          refine lv_iload_n hx hb (dq_28 0 bcX7_canBeAsked_0 (j := 31) rfl rfl) rfl (lv_at hl 2 rfl) ?_
          refine lv_ldcw (v := 1000000) hx hb hown (hts (.constant RX7 326 (1000000)) (List.mem_of_getElem? (i := 3) rfl)) (dq_19 0 bcX7_canBeAsked_0 (j := 32) (i := 326) rfl rfl rfl) ?_
          refine lv_icmp_gt (tgt := 42) hx hb (dq_163 0 bcX7_canBeAsked_0 (j := 35) (i := 7) rfl rfl rfl) (by decide) (fun c_8 => ?_) (fun c_8 => ?_)
          ·
            replace hF := ip c_8 hF
            refine lv_iconst (v := 0) hx hb (dq_3 0 bcX7_canBeAsked_0 (j := 42) rfl rfl) (by decide) ?_
            rw [hQ]
            obtain e9_0 := inj1 hF
            exact W.zret (v := (0 : Int32)) hx hb hr rfl (fun tt ht hW => ⟨_, rfl, ⟨e9_0, Or.inl rfl⟩, ht⟩) (fun _ h => by cases h) (dq_172 0 bcX7_canBeAsked_0 (j := 43) rfl rfl)
          ·
            replace hF := inn c_8 hF
            refine lv_iconst (v := 1) hx hb (dq_4 0 bcX7_canBeAsked_0 (j := 38) rfl rfl) (by decide) ?_
            refine lv_goto (tgt := 43) hx hb (dq_167 0 bcX7_canBeAsked_0 (j := 39) (i := 4) rfl rfl rfl) (by decide) ?_
            rw [hQ]
            obtain e9_0 := inj1 hF
            exact W.zret (v := (1 : Int32)) hx hb hr rfl (fun tt ht hW => ⟨_, rfl, ⟨e9_0, Or.inr rfl⟩, ht⟩) (fun _ h => by cases h) (dq_172 0 bcX7_canBeAsked_0 (j := 43) rfl rfl)

def F_X7_count (K : Nat) (p1 : Int32) (c_now_row : Nat → Int32) : Option (Int32) :=
  bd1 (F_X5_stands c_now_row) (fun r_1 => if r_1 = (0 : Int32) then some (-1 : Int32) else if p1 = (0 : Int32) then some (c_now_row 8) else if p1 = (1 : Int32) then bd1 (F_X5_stepFrom (c_now_row 8) c_now_row) (fun r_6 => some r_6) else if p1 = (2 : Int32) then some (c_now_row 9) else if p1 = (3 : Int32) then some (c_now_row 10) else if p1 = (4 : Int32) then bd1 (F_X5_isReached c_now_row) (fun r_8 => if r_8 = (0 : Int32) then some (0 : Int32) else some (1 : Int32)) else if p1 = (5 : Int32) then bd1 (F_X5_total K (6 : Int32) c_now_row) (fun r_12 => some r_12) else some (-1 : Int32))
abbrev w_X7_count (E : EE) (a_ a_tape a_reader a_scripts a_now a_trial a_kept a_book a_keptBook a_history a_draws a_refused a_now_row a_now_partners a_now_share a_now_leftOver : Nat) (c_hasImage : Int32) (c_now_askedCount : Int32) (c_now_outcome : Int32) (c_now_row : Nat → Int32) : va_W := [k_X7 a_ a_tape a_reader a_scripts a_now a_trial a_kept a_book a_keptBook a_history a_draws a_refused c_hasImage, k_X5 a_now a_now_row a_now_partners c_now_askedCount c_now_outcome a_now_share a_now_leftOver, k_I E a_now_row 81 c_now_row]
def v_f_X7_count : List Cond := List.cons (.code yX7_count cX7_count 2 (some .int)) (HAppend.hAppend (α := List Cond) (β := List Cond) (γ := List Cond) [.fieldLink RX7 35 "HushWatch" "now" "LHushWatch$State;", .methodLink RX7 110 yX5_stands, .instanceMethod yX5_stands, .selects RX5 yX5_stands yX5_stands, .initialized RX5, .methodLink RX7 167 yX5_stepFrom, .instanceMethod yX5_stepFrom, .selects RX5 yX5_stepFrom yX5_stepFrom, .methodLink RX7 170 yX5_isReached, .instanceMethod yX5_isReached, .selects RX5 yX5_isReached yX5_isReached, .methodLink RX7 160 yX5_total, .instanceMethod yX5_total, .selects RX5 yX5_total yX5_total] (HAppend.hAppend (α := List Cond) (β := List Cond) (γ := List Cond) wsX70 (HAppend.hAppend (α := List Cond) (β := List Cond) (γ := List Cond) v_f_X5_stands (HAppend.hAppend (α := List Cond) (β := List Cond) (γ := List Cond) wsX50 (HAppend.hAppend (α := List Cond) (β := List Cond) (γ := List Cond) v_f_X5_stepFrom (HAppend.hAppend (α := List Cond) (β := List Cond) (γ := List Cond) v_f_X5_isReached (HAppend.hAppend (α := List Cond) (β := List Cond) (γ := List Cond) v_f_X5_total [])))))))
theorem gw_f_X7_count : v_f_X7_count.all goodWord = true := gw_c2 (by decide +kernel) (gw_ap gw_wsX70 (gw_ap gw_f_X5_stands (gw_ap gw_wsX50 (gw_ap gw_f_X5_stepFrom (gw_ap gw_f_X5_isReached (gw_ap gw_f_X5_total gw_nil))))))
theorem i_f_X7_count_X7 : ∀ w ∈ wsX70, w ∈ v_f_X7_count := fun _ h => List.mem_cons_of_mem _ (List.mem_append_right _ (List.mem_append_left _ h))
theorem i_f_X7_count_X5 : ∀ w ∈ wsX50, w ∈ v_f_X7_count := fun _ h => List.mem_cons_of_mem _ (List.mem_append_right _ (List.mem_append_right _ (List.mem_append_right _ (List.mem_append_left _ h))))
theorem g_f_X7_count_f_X5_stands_110 : GoodIn v_f_X7_count (wsV RX7 110 RX5 yX5_stands v_f_X5_stands) := goodIn_in gw_f_X7_count (in4 2 3 4 5 rfl rfl rfl rfl (fun _ h => List.mem_cons_of_mem _ (List.mem_append_right _ (List.mem_append_right _ (List.mem_append_left _ h)))))
theorem g_f_X7_count_f_X5_stepFrom_167 : GoodIn v_f_X7_count (wsV RX7 167 RX5 yX5_stepFrom v_f_X5_stepFrom) := goodIn_in gw_f_X7_count (in4 6 7 8 5 rfl rfl rfl rfl (fun _ h => List.mem_cons_of_mem _ (List.mem_append_right _ (List.mem_append_right _ (List.mem_append_right _ (List.mem_append_right _ (List.mem_append_left _ h)))))))
theorem g_f_X7_count_f_X5_isReached_170 : GoodIn v_f_X7_count (wsV RX7 170 RX5 yX5_isReached v_f_X5_isReached) := goodIn_in gw_f_X7_count (in4 9 10 11 5 rfl rfl rfl rfl (fun _ h => List.mem_cons_of_mem _ (List.mem_append_right _ (List.mem_append_right _ (List.mem_append_right _ (List.mem_append_right _ (List.mem_append_right _ (List.mem_append_left _ h))))))))
theorem g_f_X7_count_f_X5_total_160 : GoodIn v_f_X7_count (wsV RX7 160 RX5 yX5_total v_f_X5_total) := goodIn_in gw_f_X7_count (in4 12 13 14 5 rfl rfl rfl rfl (fun _ h => List.mem_cons_of_mem _ (List.mem_append_right _ (List.mem_append_right _ (List.mem_append_right _ (List.mem_append_right _ (List.mem_append_right _ (List.mem_append_right _ (List.mem_append_left _ h)))))))))
theorem hd_X7_count : yX7_count.cls = RX7 ∧ yX7_count.cls ≠ "java/lang/invoke/MethodHandle" ∧ yX7_count.cls ≠ "java/lang/invoke/VarHandle" ∧ (parseMethodDescriptor yX7_count.desc).map (fun d => d.parameters.length) = some 1 := by decide +kernel
set_option maxHeartbeats 4000000 in
set_option maxRecDepth 100000 in
theorem f_X7_count (l : Launch) (E : EE) (K : Nat) {a_ a_tape a_reader a_scripts a_now a_trial a_kept a_book a_keptBook a_history a_draws a_refused a_now_row a_now_partners a_now_share a_now_leftOver : Nat} {p1 : Int32} {c_hasImage : Int32} {c_now_askedCount : Int32} {c_now_outcome : Int32} {c_now_row : Nat → Int32} {rr : Int32} (hF : F_X7_count K p1 c_now_row = some rr) : Met l yX7_count v_f_X7_count (({ frames := 2, cells := 0, slots := 0, locals := 45 } : Room)) (va_Pc [.ref a_, .int p1] (pP E (w_X7_count E a_ a_tape a_reader a_scripts a_now a_trial a_kept a_book a_keptBook a_history a_draws a_refused a_now_row a_now_partners a_now_share a_now_leftOver c_hasImage c_now_askedCount c_now_outcome c_now_row))) (vp_Si (fun q : Int32 => q = rr)) 0 0 (fun _ => False) := by
  refine Met.ofW (cc := cX7_count) (maxL := 2) (ret := (some .int)) (by decide) rfl ?_
  intro p e s m args below meth c s₁ B hml hv
  obtain ⟨rfl, ⟨hK, hN⟩, hP⟩ := hv
  have hx := B.exec
  have hb := B.bytes
  have hr := B.returns
  have hts := atoms_spec (ws := v_f_X7_count) B.pre
  have hown : s.vm.findClass RX7 = some m.cls := own_of hd_X7_count.1 (findClass_of_methodNamed B.named)
  have hlocks : meth.locks = false := B.notSynchronized
  replace hP : va_P E.1 vwCl [k_X7 a_ a_tape a_reader a_scripts a_now a_trial a_kept a_book a_keptBook a_history a_draws a_refused c_hasImage, k_X5 a_now a_now_row a_now_partners c_now_askedCount c_now_outcome a_now_share a_now_leftOver, k_I E a_now_row 81 c_now_row] s.heap := hP
  have hl := lv_entry ([.ref a_, .int p1]) (n := 2) (Nat.le_of_ble_eq_true rfl)
  rw [lg_entry_eq]
  generalize (lg_sl ([.ref a_, .int p1]) ++ List.replicate (2 - (lg_sl ([.ref a_, .int p1])).length) Slot.unset).toArray = ls at hl ⊢
  have hl : lv_has ls 2 [(0, .ref a_), (1, .int p1)] := hl
  obtain ⟨Q, hQ⟩ : ∃ Q : State → Prop, Q = MQ below (vp_Si (fun q : Int32 => q = rr)) #[Value.ref a_, Value.int p1] s 0 0 (fun _ => False) := ⟨_, rfl⟩
  rw [← hQ]
  change W p l e ({ frames := 2, cells := 0, slots := 0, locals := 45 } : Room) s m #[Value.ref a_, Value.int p1] below meth c s.heap [] 0 0 Q (F0 m 0 ls [])
  unfold F_X7_count at hF
  refine lv_aload_n hx hb (dq_42 0 bcX7_count_0 (j := 0) rfl rfl) rfl (lv_at hl 0 rfl) ?_
  refine gt_X7_3 (v := .ref a_now) hx hb hts i_f_X7_count_X7 hown hK hP 0 rfl (hts (.fieldLink RX7 35 "HushWatch" "now" "LHushWatch$State;") (List.mem_of_getElem? (i := 1) rfl)) rfl (dq_180 0 bcX7_count_0 (j := 1) (i := 35) rfl rfl rfl) ?_
  replace hF := bd1_s hF
  obtain ⟨r_1, hc_2, hF⟩ := hF
  have hPc : va_P E.1 vwCl (w_X5_stands E a_now a_now_row a_now_partners a_now_share a_now_leftOver c_now_askedCount c_now_outcome c_now_row) s.heap := hP.sub (ws' := [k_X5 a_now a_now_row a_now_partners c_now_askedCount c_now_outcome a_now_share a_now_leftOver, k_I E a_now_row 81 c_now_row]) [1, 2] rfl
  have hrc := va_recv hK hPc (ci := 6) (q0 := 0) rfl rfl
  refine pE_z (va_runV (As := []) (rest := [])  ⟨hx, hb, hml, hown, hts⟩ (f_X5_stands l E (a_ := a_now) (a_row := a_now_row) (a_partners := a_now_partners) (a_share := a_now_share) (a_leftOver := a_now_leftOver) (c_askedCount := c_now_askedCount) (c_outcome := c_now_outcome) (c_row := c_now_row) hc_2) (cwV 0 hts g_f_X7_count_f_X5_stands_110 rfl rfl rfl hd_X5_stands ⟨Nat.le_of_ble_eq_true rfl, Nat.le_of_ble_eq_true rfl⟩) ⟨pP.blind, hrc, (pP.pre ⟨hK, hN⟩ hPc)⟩ rfl rfl hl.1 rfl (lv_room (Nat.le_of_ble_eq_true rfl)) (dq_182 0 bcX7_count_0 (j := 4) (i := 110) rfl rfl rfl) ⟨Nat.le_of_ble_eq_true rfl, Nat.le_of_ble_eq_true rfl⟩) (fun hb_3 => ?_)
  refine lv_if_ne (tgt := 12) hx hb (dq_154 0 bcX7_count_0 (j := 7) (i := 5) rfl rfl rfl) (by decide) (fun c_4 => ?_) (fun c_4 => ?_)
  ·
    replace hF := inn c_4 hF
    refine lv_iload_n hx hb (dq_27 0 bcX7_count_0 (j := 12) rfl rfl) rfl (lv_at hl 1 rfl) ?_
    rcases Classical.em (p1 = (0 : Int32)) with c_5_0 | c_5_0
    ·
      replace hF := ip c_5_0 hF
      refine lv_tableIn (off := 39) (tgt := 52) hx hb dX7_count_13 (by rw [c_5_0]; decide) (by rw [c_5_0]; decide) (by rw [c_5_0]; decide) (by decide) ?_
      refine lv_aload_n hx hb (dq_42 48 bcX7_count_1 (j := 4) rfl rfl) rfl (lv_at hl 0 rfl) ?_
      refine gt_X7_3 (v := .ref a_now) hx hb hts i_f_X7_count_X7 hown hK hP 0 rfl (hts (.fieldLink RX7 35 "HushWatch" "now" "LHushWatch$State;") (List.mem_of_getElem? (i := 1) rfl)) rfl (dq_180 48 bcX7_count_1 (j := 5) (i := 35) rfl rfl rfl) ?_
      refine va_getN (D := E.1) (ci := 6) (v := .ref a_now_row) (C := RX5) (T := TX5) (N := 6) hx hb hts i_f_X7_count_X5 hown hK hP 1 rfl rfl 0 (by decide) (nx hN 12 rfl) (fun _ h9 => h9) rfl (dq_180 48 bcX7_count_1 (j := 8) (i := 114) rfl rfl rfl) ?_
      refine lv_bipush (v := 8) hx hb (dq_16 48 bcX7_count_1 (j := 11) (i := 8) rfl rfl rfl) (by decide) ?_
      refine va_iald hx hb hK hP 2 0 rfl rfl (vin rfl) (dq_46 48 bcX7_count_1 (j := 13) rfl rfl) ?_
      refine W.eq (g2 := F0 m 62 ls [.int (c_now_row 8)]) rfl ?_
      rw [hQ]
      obtain e9_0 := inj1 hF
      exact W.iret (v := c_now_row 8) hx hb hr (fun tt ht hW => ⟨_, rfl, e9_0, ht⟩) (fun _ h => by cases h) (dq_172 48 bcX7_count_1 (j := 14) rfl rfl)
    replace hF := inn c_5_0 hF
    rcases Classical.em (p1 = (1 : Int32)) with c_5_1 | c_5_1
    ·
      replace hF := ip c_5_1 hF
      refine lv_tableIn (off := 50) (tgt := 63) hx hb dX7_count_13 (by rw [c_5_1]; decide) (by rw [c_5_1]; decide) (by rw [c_5_1]; decide) (by decide) ?_
      refine lv_aload_n hx hb (dq_42 48 bcX7_count_1 (j := 15) rfl rfl) rfl (lv_at hl 0 rfl) ?_
      refine gt_X7_3 (v := .ref a_now) hx hb hts i_f_X7_count_X7 hown hK hP 0 rfl (hts (.fieldLink RX7 35 "HushWatch" "now" "LHushWatch$State;") (List.mem_of_getElem? (i := 1) rfl)) rfl (dq_180 48 bcX7_count_1 (j := 16) (i := 35) rfl rfl rfl) ?_
      refine lv_aload_n hx hb (dq_42 48 bcX7_count_1 (j := 19) rfl rfl) rfl (lv_at hl 0 rfl) ?_
      refine gt_X7_3 (v := .ref a_now) hx hb hts i_f_X7_count_X7 hown hK hP 0 rfl (hts (.fieldLink RX7 35 "HushWatch" "now" "LHushWatch$State;") (List.mem_of_getElem? (i := 1) rfl)) rfl (dq_180 48 bcX7_count_1 (j := 20) (i := 35) rfl rfl rfl) ?_
      refine va_getN (D := E.1) (ci := 6) (v := .ref a_now_row) (C := RX5) (T := TX5) (N := 6) hx hb hts i_f_X7_count_X5 hown hK hP 1 rfl rfl 0 (by decide) (nx hN 12 rfl) (fun _ h9 => h9) rfl (dq_180 48 bcX7_count_1 (j := 23) (i := 114) rfl rfl rfl) ?_
      refine lv_bipush (v := 8) hx hb (dq_16 48 bcX7_count_1 (j := 26) (i := 8) rfl rfl rfl) (by decide) ?_
      refine va_iald hx hb hK hP 2 0 rfl rfl (vin rfl) (dq_46 48 bcX7_count_1 (j := 28) rfl rfl) ?_
      refine W.eq (g2 := F0 m 77 ls [.int (c_now_row 8), .ref a_now]) rfl ?_
      replace hF := bd1_s hF
      obtain ⟨r_6, hc_7, hF⟩ := hF
      have hPc : va_P E.1 vwCl (w_X5_stepFrom E a_now a_now_row a_now_partners a_now_share a_now_leftOver c_now_askedCount c_now_outcome c_now_row) s.heap := hP.sub (ws' := [k_X5 a_now a_now_row a_now_partners c_now_askedCount c_now_outcome a_now_share a_now_leftOver, k_I E a_now_row 81 c_now_row]) [1, 2] rfl
      have hrc := va_recv hK hPc (ci := 6) (q0 := 0) rfl rfl
      refine pE_i (va_runV (As := [.int (c_now_row 8)]) (rest := [])  ⟨hx, hb, hml, hown, hts⟩ (f_X5_stepFrom l E (a_ := a_now) (a_row := a_now_row) (a_partners := a_now_partners) (a_share := a_now_share) (a_leftOver := a_now_leftOver) (p1 := c_now_row 8) (c_askedCount := c_now_askedCount) (c_outcome := c_now_outcome) (c_row := c_now_row) hc_7) (cwV 1 hts g_f_X7_count_f_X5_stepFrom_167 rfl rfl rfl hd_X5_stepFrom ⟨Nat.le_of_ble_eq_true rfl, Nat.le_of_ble_eq_true rfl⟩) ⟨pP.blind, hrc, (pP.pre ⟨hK, hN⟩ hPc)⟩ rfl rfl hl.1 rfl (lv_room (Nat.le_of_ble_eq_true rfl)) (dq_182 48 bcX7_count_1 (j := 29) (i := 167) rfl rfl rfl) ⟨Nat.le_of_ble_eq_true rfl, Nat.le_of_ble_eq_true rfl⟩) ?_
      rw [hQ]
      obtain e9_0 := inj1 hF
      exact W.iret (v := r_6) hx hb hr (fun tt ht hW => ⟨_, rfl, e9_0, ht⟩) (fun _ h => by cases h) (dq_172 48 bcX7_count_1 (j := 32) rfl rfl)
    replace hF := inn c_5_1 hF
    rcases Classical.em (p1 = (2 : Int32)) with c_5_2 | c_5_2
    ·
      replace hF := ip c_5_2 hF
      refine lv_tableIn (off := 68) (tgt := 81) hx hb dX7_count_13 (by rw [c_5_2]; decide) (by rw [c_5_2]; decide) (by rw [c_5_2]; decide) (by decide) ?_
      refine lv_aload_n hx hb (dq_42 48 bcX7_count_1 (j := 33) rfl rfl) rfl (lv_at hl 0 rfl) ?_
      refine gt_X7_3 (v := .ref a_now) hx hb hts i_f_X7_count_X7 hown hK hP 0 rfl (hts (.fieldLink RX7 35 "HushWatch" "now" "LHushWatch$State;") (List.mem_of_getElem? (i := 1) rfl)) rfl (dq_180 48 bcX7_count_1 (j := 34) (i := 35) rfl rfl rfl) ?_
      refine va_getN (D := E.1) (ci := 6) (v := .ref a_now_row) (C := RX5) (T := TX5) (N := 6) hx hb hts i_f_X7_count_X5 hown hK hP 1 rfl rfl 0 (by decide) (nx hN 12 rfl) (fun _ h9 => h9) rfl (dq_180 48 bcX7_count_1 (j := 37) (i := 114) rfl rfl rfl) ?_
      refine lv_bipush (v := 9) hx hb (dq_16 48 bcX7_count_1 (j := 40) (i := 9) rfl rfl rfl) (by decide) ?_
      refine va_iald hx hb hK hP 2 0 rfl rfl (vin rfl) (dq_46 48 bcX7_count_1 (j := 42) rfl rfl) ?_
      refine W.eq (g2 := F0 m 91 ls [.int (c_now_row 9)]) rfl ?_
      rw [hQ]
      obtain e9_0 := inj1 hF
      exact W.iret (v := c_now_row 9) hx hb hr (fun tt ht hW => ⟨_, rfl, e9_0, ht⟩) (fun _ h => by cases h) (dq_172 48 bcX7_count_1 (j := 43) rfl rfl)
    replace hF := inn c_5_2 hF
    rcases Classical.em (p1 = (3 : Int32)) with c_5_3 | c_5_3
    ·
      replace hF := ip c_5_3 hF
      refine lv_tableIn (off := 79) (tgt := 92) hx hb dX7_count_13 (by rw [c_5_3]; decide) (by rw [c_5_3]; decide) (by rw [c_5_3]; decide) (by decide) ?_
      refine lv_aload_n hx hb (dq_42 48 bcX7_count_1 (j := 44) rfl rfl) rfl (lv_at hl 0 rfl) ?_
      refine gt_X7_3 (v := .ref a_now) hx hb hts i_f_X7_count_X7 hown hK hP 0 rfl (hts (.fieldLink RX7 35 "HushWatch" "now" "LHushWatch$State;") (List.mem_of_getElem? (i := 1) rfl)) rfl (dq_180 48 bcX7_count_1 (j := 45) (i := 35) rfl rfl rfl) ?_
      refine va_getN (D := E.1) (ci := 6) (v := .ref a_now_row) (C := RX5) (T := TX5) (N := 6) hx hb hts i_f_X7_count_X5 hown hK hP 1 rfl rfl 0 (by decide) (nx hN 12 rfl) (fun _ h9 => h9) rfl (dq_180 96 bcX7_count_2 (j := 0) (i := 114) rfl rfl rfl) ?_
      refine lv_bipush (v := 10) hx hb (dq_16 96 bcX7_count_2 (j := 3) (i := 10) rfl rfl rfl) (by decide) ?_
      refine va_iald hx hb hK hP 2 0 rfl rfl (vin rfl) (dq_46 96 bcX7_count_2 (j := 5) rfl rfl) ?_
      refine W.eq (g2 := F0 m 102 ls [.int (c_now_row 10)]) rfl ?_
      rw [hQ]
      obtain e9_0 := inj1 hF
      exact W.iret (v := c_now_row 10) hx hb hr (fun tt ht hW => ⟨_, rfl, e9_0, ht⟩) (fun _ h => by cases h) (dq_172 96 bcX7_count_2 (j := 6) rfl rfl)
    replace hF := inn c_5_3 hF
    rcases Classical.em (p1 = (4 : Int32)) with c_5_4 | c_5_4
    ·
      replace hF := ip c_5_4 hF
      refine lv_tableIn (off := 90) (tgt := 103) hx hb dX7_count_13 (by rw [c_5_4]; decide) (by rw [c_5_4]; decide) (by rw [c_5_4]; decide) (by decide) ?_
      refine lv_aload_n hx hb (dq_42 96 bcX7_count_2 (j := 7) rfl rfl) rfl (lv_at hl 0 rfl) ?_
      refine gt_X7_3 (v := .ref a_now) hx hb hts i_f_X7_count_X7 hown hK hP 0 rfl (hts (.fieldLink RX7 35 "HushWatch" "now" "LHushWatch$State;") (List.mem_of_getElem? (i := 1) rfl)) rfl (dq_180 96 bcX7_count_2 (j := 8) (i := 35) rfl rfl rfl) ?_
      replace hF := bd1_s hF
      obtain ⟨r_8, hc_9, hF⟩ := hF
      have hPc : va_P E.1 vwCl (w_X5_isReached E a_now a_now_row a_now_partners a_now_share a_now_leftOver c_now_askedCount c_now_outcome c_now_row) s.heap := hP.sub (ws' := [k_X5 a_now a_now_row a_now_partners c_now_askedCount c_now_outcome a_now_share a_now_leftOver, k_I E a_now_row 81 c_now_row]) [1, 2] rfl
      have hrc := va_recv hK hPc (ci := 6) (q0 := 0) rfl rfl
      refine pE_z (va_runV (As := []) (rest := [])  ⟨hx, hb, hml, hown, hts⟩ (f_X5_isReached l E (a_ := a_now) (a_row := a_now_row) (a_partners := a_now_partners) (a_share := a_now_share) (a_leftOver := a_now_leftOver) (c_askedCount := c_now_askedCount) (c_outcome := c_now_outcome) (c_row := c_now_row) hc_9) (cwV 0 hts g_f_X7_count_f_X5_isReached_170 rfl rfl rfl hd_X5_isReached ⟨Nat.le_of_ble_eq_true rfl, Nat.le_of_ble_eq_true rfl⟩) ⟨pP.blind, hrc, (pP.pre ⟨hK, hN⟩ hPc)⟩ rfl rfl hl.1 rfl (lv_room (Nat.le_of_ble_eq_true rfl)) (dq_182 96 bcX7_count_2 (j := 11) (i := 170) rfl rfl rfl) ⟨Nat.le_of_ble_eq_true rfl, Nat.le_of_ble_eq_true rfl⟩) (fun hb_10 => ?_)
      refine lv_if_eq (tgt := 117) hx hb (dq_153 96 bcX7_count_2 (j := 14) (i := 7) rfl rfl rfl) (by decide) (fun c_11 => ?_) (fun c_11 => ?_)
      ·
        replace hF := ip c_11 hF
        refine lv_iconst (v := 0) hx hb (dq_3 96 bcX7_count_2 (j := 21) rfl rfl) (by decide) ?_
        rw [hQ]
        obtain e9_0 := inj1 hF
        exact W.iret (v := (0 : Int32)) hx hb hr (fun tt ht hW => ⟨_, rfl, e9_0, ht⟩) (fun _ h => by cases h) (dq_172 96 bcX7_count_2 (j := 22) rfl rfl)
      ·
        replace hF := inn c_11 hF
        refine lv_iconst (v := 1) hx hb (dq_4 96 bcX7_count_2 (j := 17) rfl rfl) (by decide) ?_
        refine lv_goto (tgt := 118) hx hb (dq_167 96 bcX7_count_2 (j := 18) (i := 4) rfl rfl rfl) (by decide) ?_
        rw [hQ]
        obtain e9_0 := inj1 hF
        exact W.iret (v := (1 : Int32)) hx hb hr (fun tt ht hW => ⟨_, rfl, e9_0, ht⟩) (fun _ h => by cases h) (dq_172 96 bcX7_count_2 (j := 22) rfl rfl)
    replace hF := inn c_5_4 hF
    rcases Classical.em (p1 = (5 : Int32)) with c_5_5 | c_5_5
    ·
      replace hF := ip c_5_5 hF
      refine lv_tableIn (off := 106) (tgt := 119) hx hb dX7_count_13 (by rw [c_5_5]; decide) (by rw [c_5_5]; decide) (by rw [c_5_5]; decide) (by decide) ?_
      refine lv_aload_n hx hb (dq_42 96 bcX7_count_2 (j := 23) rfl rfl) rfl (lv_at hl 0 rfl) ?_
      refine gt_X7_3 (v := .ref a_now) hx hb hts i_f_X7_count_X7 hown hK hP 0 rfl (hts (.fieldLink RX7 35 "HushWatch" "now" "LHushWatch$State;") (List.mem_of_getElem? (i := 1) rfl)) rfl (dq_180 96 bcX7_count_2 (j := 24) (i := 35) rfl rfl rfl) ?_
      refine lv_bipush (v := 6) hx hb (dq_16 96 bcX7_count_2 (j := 27) (i := 6) rfl rfl rfl) (by decide) ?_
      replace hF := bd1_s hF
      obtain ⟨r_12, hc_13, hF⟩ := hF
      have hPc : va_P E.1 vwCl (w_X5_total E a_now a_now_row a_now_partners a_now_share a_now_leftOver c_now_askedCount c_now_outcome c_now_row) s.heap := hP.sub (ws' := [k_X5 a_now a_now_row a_now_partners c_now_askedCount c_now_outcome a_now_share a_now_leftOver, k_I E a_now_row 81 c_now_row]) [1, 2] rfl
      have hrc := va_recv hK hPc (ci := 6) (q0 := 0) rfl rfl
      refine pE_i (va_runV (As := [.int (6 : Int32)]) (rest := [])  ⟨hx, hb, hml, hown, hts⟩ (f_X5_total l E K (a_ := a_now) (a_row := a_now_row) (a_partners := a_now_partners) (a_share := a_now_share) (a_leftOver := a_now_leftOver) (p1 := (6 : Int32)) (c_askedCount := c_now_askedCount) (c_outcome := c_now_outcome) (c_row := c_now_row) hc_13) (cwV 1 hts g_f_X7_count_f_X5_total_160 rfl rfl rfl hd_X5_total ⟨Nat.le_of_ble_eq_true rfl, Nat.le_of_ble_eq_true rfl⟩) ⟨pP.blind, hrc, (pP.pre ⟨hK, hN⟩ hPc)⟩ rfl rfl hl.1 rfl (lv_room (Nat.le_of_ble_eq_true rfl)) (dq_182 96 bcX7_count_2 (j := 29) (i := 160) rfl rfl rfl) ⟨Nat.le_of_ble_eq_true rfl, Nat.le_of_ble_eq_true rfl⟩) ?_
      rw [hQ]
      obtain e9_0 := inj1 hF
      exact W.iret (v := r_12) hx hb hr (fun tt ht hW => ⟨_, rfl, e9_0, ht⟩) (fun _ h => by cases h) (dq_172 96 bcX7_count_2 (j := 32) rfl rfl)
    replace hF := inn c_5_5 hF
    refine lv_tableOut (tgt := 129) hx hb dX7_count_13 (by have t0 : (0 : Int32).toInt = 0 := (by decide); have t1 : (1 : Int32).toInt = 1 := (by decide); have t2 : (2 : Int32).toInt = 2 := (by decide); have t3 : (3 : Int32).toInt = 3 := (by decide); have t4 : (4 : Int32).toInt = 4 := (by decide); have t5 : (5 : Int32).toInt = 5 := (by decide); simp only [← Int32.toInt_inj, t0, t1, t2, t3, t4, t5] at c_5_0 c_5_1 c_5_2 c_5_3 c_5_4 c_5_5; omega) (by decide) ?_
    refine lv_iconst (v := -1) hx hb (dq_2 96 bcX7_count_2 (j := 33) rfl rfl) (by decide) ?_
    rw [hQ]
    obtain e9_0 := inj1 hF
    exact W.iret (v := (-1 : Int32)) hx hb hr (fun tt ht hW => ⟨_, rfl, e9_0, ht⟩) (fun _ h => by cases h) (dq_172 96 bcX7_count_2 (j := 34) rfl rfl)
  ·
    replace hF := ip c_4 hF
    refine lv_iconst (v := -1) hx hb (dq_2 0 bcX7_count_0 (j := 10) rfl rfl) (by decide) ?_
    rw [hQ]
    obtain e9_0 := inj1 hF
    exact W.iret (v := (-1 : Int32)) hx hb hr (fun tt ht hW => ⟨_, rfl, e9_0, ht⟩) (fun _ h => by cases h) (dq_172 0 bcX7_count_0 (j := 11) rfl rfl)

def F_X7_end (p1 : Int32) (c_tape_length : Int32) : Option (Int32 × Int32) :=
  bd2 (F_X6_cutTo p1 c_tape_length) (fun r_1 w_2 => some (r_1, w_2))
abbrev w_X7_end (E : EE) (a_ a_tape a_reader a_scripts a_now a_trial a_kept a_book a_keptBook a_history a_draws a_refused a_tape_bytes : Nat) (c_hasImage : Int32) (c_tape_length : Int32) : va_W := [k_X7 a_ a_tape a_reader a_scripts a_now a_trial a_kept a_book a_keptBook a_history a_draws a_refused c_hasImage, k_X6 a_tape a_tape_bytes c_tape_length]
def v_f_X7_end : List Cond := List.cons (.code yX7_end cX7_end 2 (some .boolean)) (HAppend.hAppend (α := List Cond) (β := List Cond) (γ := List Cond) [.fieldLink RX7 10 "HushWatch" "tape" "LHushWatch$Tape;", .methodLink RX7 89 yX6_cutTo, .instanceMethod yX6_cutTo, .selects RX6 yX6_cutTo yX6_cutTo, .initialized RX6] (HAppend.hAppend (α := List Cond) (β := List Cond) (γ := List Cond) wsX70 (HAppend.hAppend (α := List Cond) (β := List Cond) (γ := List Cond) v_f_X6_cutTo [])))
theorem gw_f_X7_end : v_f_X7_end.all goodWord = true := gw_c2 (by decide +kernel) (gw_ap gw_wsX70 (gw_ap gw_f_X6_cutTo gw_nil))
theorem i_f_X7_end_X7 : ∀ w ∈ wsX70, w ∈ v_f_X7_end := fun _ h => List.mem_cons_of_mem _ (List.mem_append_right _ (List.mem_append_left _ h))
theorem g_f_X7_end_f_X6_cutTo_89 : GoodIn v_f_X7_end (wsV RX7 89 RX6 yX6_cutTo v_f_X6_cutTo) := goodIn_in gw_f_X7_end (in4 2 3 4 5 rfl rfl rfl rfl (fun _ h => List.mem_cons_of_mem _ (List.mem_append_right _ (List.mem_append_right _ (List.mem_append_left _ h)))))
theorem hd_X7_end : yX7_end.cls = RX7 ∧ yX7_end.cls ≠ "java/lang/invoke/MethodHandle" ∧ yX7_end.cls ≠ "java/lang/invoke/VarHandle" ∧ (parseMethodDescriptor yX7_end.desc).map (fun d => d.parameters.length) = some 1 := by decide +kernel
set_option maxHeartbeats 4000000 in
set_option maxRecDepth 100000 in
theorem f_X7_end (l : Launch) (E : EE) (sz : Nat) {a_ a_tape a_reader a_scripts a_now a_trial a_kept a_book a_keptBook a_history a_draws a_refused a_tape_bytes : Nat} {p1 : Int32} {c_hasImage : Int32} {c_tape_length : Int32} {rr : Int32} {n_tape_length : Int32} (hF : F_X7_end p1 c_tape_length = some (rr, n_tape_length)) : Met l yX7_end v_f_X7_end (({ frames := 1, cells := 0, slots := 0, locals := 21 } : Room)) (va_Pc [.ref a_, .int p1] (pW E sz (w_X7_end E a_ a_tape a_reader a_scripts a_now a_trial a_kept a_book a_keptBook a_history a_draws a_refused a_tape_bytes c_hasImage c_tape_length))) (va_Qi (fun (q : Int32) (_u : Unit) => q = rr ∧ (q = 0 ∨ q = 1)) (fun (_u : Unit) tt => va_P E.1 vwCl (w_X7_end E a_ a_tape a_reader a_scripts a_now a_trial a_kept a_book a_keptBook a_history a_draws a_refused a_tape_bytes c_hasImage n_tape_length) tt.heap ∧ va_D (va_A (w_X7_end E a_ a_tape a_reader a_scripts a_now a_trial a_kept a_book a_keptBook a_history a_draws a_refused a_tape_bytes c_hasImage c_tape_length) sz) (w_X7_end E a_ a_tape a_reader a_scripts a_now a_trial a_kept a_book a_keptBook a_history a_draws a_refused a_tape_bytes c_hasImage n_tape_length)) (va_A (w_X7_end E a_ a_tape a_reader a_scripts a_now a_trial a_kept a_book a_keptBook a_history a_draws a_refused a_tape_bytes c_hasImage c_tape_length) sz)) 0 0 (va_A (w_X7_end E a_ a_tape a_reader a_scripts a_now a_trial a_kept a_book a_keptBook a_history a_draws a_refused a_tape_bytes c_hasImage c_tape_length) sz) := by
  refine Met.ofW (cc := cX7_end) (maxL := 2) (ret := (some .boolean)) (by decide) rfl ?_
  intro p e s m args below meth c s₁ B hml hv
  obtain ⟨rfl, hsz, ⟨hK, hN⟩, hP, hD0⟩ := hv
  have hx := B.exec
  have hb := B.bytes
  have hr := B.returns
  have hts := atoms_spec (ws := v_f_X7_end) B.pre
  have hown : s.vm.findClass RX7 = some m.cls := own_of hd_X7_end.1 (findClass_of_methodNamed B.named)
  have hlocks : meth.locks = false := B.notSynchronized
  subst hsz
  have hD := hD0.self (sz := s.heap.size)
  generalize hAe : va_A (w_X7_end E a_ a_tape a_reader a_scripts a_now a_trial a_kept a_book a_keptBook a_history a_draws a_refused a_tape_bytes c_hasImage c_tape_length) s.heap.size = A at hD ⊢
  have hA : ∀ q : Nat, s.heap.size ≤ q → A q := fun q h => by rw [← hAe]; exact Or.inr h
  have hS : va_S A s.heap s.heap [] := va_S.rf
  have hl := lv_entry ([.ref a_, .int p1]) (n := 2) (Nat.le_of_ble_eq_true rfl)
  rw [lg_entry_eq]
  generalize (lg_sl ([.ref a_, .int p1]) ++ List.replicate (2 - (lg_sl ([.ref a_, .int p1])).length) Slot.unset).toArray = ls at hl ⊢
  have hl : lv_has ls 2 [(0, .ref a_), (1, .int p1)] := hl
  obtain ⟨Q, hQ⟩ : ∃ Q : State → Prop, Q = MQ below (va_Qi (fun (q : Int32) (_u : Unit) => q = rr ∧ (q = 0 ∨ q = 1)) (fun (_u : Unit) tt => va_P E.1 vwCl (w_X7_end E a_ a_tape a_reader a_scripts a_now a_trial a_kept a_book a_keptBook a_history a_draws a_refused a_tape_bytes c_hasImage n_tape_length) tt.heap ∧ va_D A (w_X7_end E a_ a_tape a_reader a_scripts a_now a_trial a_kept a_book a_keptBook a_history a_draws a_refused a_tape_bytes c_hasImage n_tape_length)) A) #[Value.ref a_, Value.int p1] s 0 0 A := ⟨_, rfl⟩
  rw [← hQ]
  change W p l e ({ frames := 1, cells := 0, slots := 0, locals := 21 } : Room) s m #[Value.ref a_, Value.int p1] below meth c s.heap [] 0 0 Q (F0 m 0 ls [])
  suffices hh9 : ∀ (H : Heap) (locs : List Loc), va_P E.1 vwCl (w_X7_end E a_ a_tape a_reader a_scripts a_now a_trial a_kept a_book a_keptBook a_history a_draws a_refused a_tape_bytes c_hasImage c_tape_length) H → va_D A (w_X7_end E a_ a_tape a_reader a_scripts a_now a_trial a_kept a_book a_keptBook a_history a_draws a_refused a_tape_bytes c_hasImage c_tape_length) → va_S A s.heap H locs → W p l e ({ frames := 1, cells := 0, slots := 0, locals := 21 } : Room) s m #[Value.ref a_, Value.int p1] below meth c H locs 0 0 Q (F0 m 0 ls []) from hh9 s.heap [] hP hD hS
  clear hP hD hS
  intro H locs hP hD hS
  have h9 := fixPD (ws' := [k_X7 a_ a_tape a_reader a_scripts a_now a_trial a_kept a_book a_keptBook a_history a_draws a_refused c_hasImage, k_X6 a_tape a_tape_bytes c_tape_length]) hP hD rfl
  clear hP hD
  obtain ⟨hP, hD⟩ := h9
  unfold F_X7_end at hF
  refine lv_aload_n hx hb (dq_42 0 bcX7_end_0 (j := 0) rfl rfl) rfl (lv_at hl 0 rfl) ?_
  refine gt_X7_0 (v := .ref a_tape) hx hb hts i_f_X7_end_X7 hown hK hP 0 rfl (hts (.fieldLink RX7 10 "HushWatch" "tape" "LHushWatch$Tape;") (List.mem_of_getElem? (i := 1) rfl)) rfl (dq_180 0 bcX7_end_0 (j := 1) (i := 10) rfl rfl rfl) ?_
  refine lv_iload_n hx hb (dq_27 0 bcX7_end_0 (j := 4) rfl rfl) rfl (lv_at hl 1 rfl) ?_
  replace hF := bd2_s hF
  obtain ⟨r_1, w_2, hc_3, hF⟩ := hF
  obtain ⟨hPc, hDc, hFc⟩ := wcut (wc := (w_X6_cutTo E a_tape a_tape_bytes c_tape_length)) hP hD hS hA [1] (by decide) rfl
  have hrc := va_recv hK hPc (ci := 7) (q0 := 0) rfl rfl
  refine cE_z (wc := (w_X6_cutTo E a_tape a_tape_bytes c_tape_length)) (wr := [k_X7 a_ a_tape a_reader a_scripts a_now a_trial a_kept a_book a_keptBook a_history a_draws a_refused c_hasImage]) (w1 := (w_X6_cutTo E a_tape a_tape_bytes w_2)) (va_runV (As := [.int p1]) (rest := [])  ⟨hx, hb, hml, hown, hts⟩ (f_X6_cutTo l E H.size (a_ := a_tape) (a_bytes := a_tape_bytes) (p1 := p1) (c_length := c_tape_length) hc_3) (cwV 1 hts g_f_X7_end_f_X6_cutTo_89 rfl rfl rfl hd_X6_cutTo ⟨Nat.le_of_ble_eq_true rfl, Nat.le_of_ble_eq_true rfl⟩) ⟨pW.blind, hrc, (pW.pre ⟨hK, hN⟩ hPc hDc)⟩ rfl rfl hl.1 rfl (lv_room (Nat.le_of_ble_eq_true rfl)) (dq_182 0 bcX7_end_0 (j := 5) (i := 89) rfl rfl rfl) ⟨Nat.le_of_ble_eq_true rfl, Nat.le_of_ble_eq_true rfl⟩) hS hFc hP hD [1] [0] rfl rfl (by decide) (by decide) (fun hb_4 H locs hP hD hS => ?_)
  have h9 := fixPD (ws' := [k_X7 a_ a_tape a_reader a_scripts a_now a_trial a_kept a_book a_keptBook a_history a_draws a_refused c_hasImage, k_X6 a_tape a_tape_bytes w_2]) hP hD rfl
  clear hP hD
  obtain ⟨hP, hD⟩ := h9
  rw [hQ]
  have h9 := fin9 (P := fun u9 : Int32 × Int32 => r_1 = u9.1 ∧ va_P E.1 vwCl (w_X7_end E a_ a_tape a_reader a_scripts a_now a_trial a_kept a_book a_keptBook a_history a_draws a_refused a_tape_bytes c_hasImage u9.2) H ∧ va_D A (w_X7_end E a_ a_tape a_reader a_scripts a_now a_trial a_kept a_book a_keptBook a_history a_draws a_refused a_tape_bytes c_hasImage u9.2)) hF ⟨rfl, hP, hD⟩
  obtain ⟨e9_0, hP9, hD9⟩ := h9
  exact W.zret (v := r_1) hx hb hr (nar_bool hb_4) (fun tt ht hW => ⟨⟨_, (), rfl, ⟨e9_0, hb_4⟩, ht ▸ hP9, hD9⟩, hS.F ht⟩) hS.2.2 (dq_172 0 bcX7_end_0 (j := 8) rfl rfl)
