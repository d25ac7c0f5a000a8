noncomputable def blX5_begin_0 : List Nat := [3, 61, 28, 16, 81, 162, 0, 16, 42, 180, 0, 11, 28, 3, 79, 132, 2, 1, 167, 255, 240, 42, 180, 0, 11, 3, 43, 180, 0, 31, 3, 46, 79, 42, 180, 0, 11, 4, 43, 180, 0, 31, 4, 46, 79, 42, 180, 0, 11, 5, 43]
set_option maxRecDepth 100000 in
theorem bcX5_begin_0 : ((cX5_begin.data.toList.drop 0).take blX5_begin_0.length).map UInt8.toNat = blX5_begin_0 := by decide +kernel
noncomputable def blX5_begin_1 : List Nat := [11, 5, 43, 180, 0, 31, 5, 46, 79, 42, 180, 0, 11, 6, 43, 180, 0, 36, 16, 8, 184, 0, 39, 79, 3, 61, 28, 42, 182, 0, 45, 162, 0, 39, 42, 28, 3, 43, 180, 0, 49, 5, 28, 104, 46, 182, 0, 52, 42, 28, 4]
set_option maxRecDepth 100000 in
theorem bcX5_begin_1 : ((cX5_begin.data.toList.drop 48).take blX5_begin_1.length).map UInt8.toNat = blX5_begin_1 := by decide +kernel
noncomputable def blX5_begin_2 : List Nat := [42, 28, 4, 43, 180, 0, 49, 5, 28, 104, 4, 96, 46, 182, 0, 52, 132, 2, 1, 167, 255, 215, 42, 182, 0, 56, 42, 180, 0, 11, 16, 6, 42, 42, 180, 0, 11, 7, 46, 133, 42, 180, 0, 11, 8, 46, 133, 182, 0, 59, 153]
set_option maxRecDepth 100000 in
theorem bcX5_begin_2 : ((cX5_begin.data.toList.drop 96).take blX5_begin_2.length).map UInt8.toNat = blX5_begin_2 := by decide +kernel
noncomputable def blX5_begin_3 : List Nat := [0, 59, 153, 0, 7, 3, 167, 0, 4, 4, 79, 177]
set_option maxRecDepth 100000 in
theorem bcX5_begin_3 : ((cX5_begin.data.toList.drop 144).take blX5_begin_3.length).map UInt8.toNat = blX5_begin_3 := by decide +kernel
noncomputable def blX5_measureShares_0 : List Nat := [27, 184, 0, 171, 61, 28, 154, 0, 4, 177, 3, 62, 29, 5, 162, 0, 79, 3, 54, 4, 3, 54, 5, 21, 5, 42, 182, 0, 45, 162, 0, 34, 21, 4, 27, 21, 5, 122, 4, 126, 153, 0, 13, 42, 21, 5, 29, 182, 0, 72, 167]
set_option maxRecDepth 100000 in
theorem bcX5_measureShares_0 : ((cX5_measureShares.data.toList.drop 0).take blX5_measureShares_0.length).map UInt8.toNat = blX5_measureShares_0 := by decide +kernel
noncomputable def blX5_measureShares_1 : List Nat := [0, 72, 167, 0, 4, 3, 96, 54, 4, 132, 5, 1, 167, 255, 219, 42, 180, 0, 25, 29, 21, 4, 28, 184, 0, 176, 79, 42, 180, 0, 28, 29, 21, 4, 28, 184, 0, 179, 79, 132, 3, 1, 167, 255, 178, 177]
set_option maxRecDepth 100000 in
theorem bcX5_measureShares_1 : ((cX5_measureShares.data.toList.drop 48).take blX5_measureShares_1.length).map UInt8.toNat = blX5_measureShares_1 := by decide +kernel
noncomputable def blX5_isAbove_0 : List Nat := [42, 180, 0, 11, 16, 6, 46, 153, 0, 7, 4, 167, 0, 4, 3, 172]
set_option maxRecDepth 100000 in
theorem bcX5_isAbove_0 : ((cX5_isAbove.data.toList.drop 0).take blX5_isAbove_0.length).map UInt8.toNat = blX5_isAbove_0 := by decide +kernel
noncomputable def blX5_isQuietDrift_0 : List Nat := [42, 182, 0, 83, 153, 0, 17, 27, 154, 0, 11, 28, 154, 0, 7, 4, 167, 0, 4, 3, 172, 42, 42, 180, 0, 11, 7, 46, 42, 180, 0, 11, 6, 46, 27, 104, 96, 133, 42, 180, 0, 11, 8, 46, 42, 180, 0, 11, 6, 46, 28]
set_option maxRecDepth 100000 in
theorem bcX5_isQuietDrift_0 : ((cX5_isQuietDrift.data.toList.drop 0).take blX5_isQuietDrift_0.length).map UInt8.toNat = blX5_isQuietDrift_0 := by decide +kernel
noncomputable def blX5_isQuietDrift_1 : List Nat := [6, 46, 28, 104, 96, 133, 182, 0, 75, 42, 180, 0, 11, 4, 46, 133, 148, 156, 0, 7, 4, 167, 0, 4, 3, 172]
set_option maxRecDepth 100000 in
theorem bcX5_isQuietDrift_1 : ((cX5_isQuietDrift.data.toList.drop 48).take blX5_isQuietDrift_1.length).map UInt8.toNat = blX5_isQuietDrift_1 := by decide +kernel

def B_X5_begin_2 (x2 : Int32) (c_row : Nat → Int32) : Option ((Int32 × (Nat → Int32)) ⊕ ((Nat → Int32))) :=
  if (81 : Int32) ≤ x2 then some (.inr c_row) else ixF x2 81 (nmF (upd c_row x2.toNatClampNeg (0 : Int32)) (fun f_3 => some (.inl (x2 + (1 : Int32), f_3))))
def B_X5_begin_74 (c_o1_places : Nat → Int32) (x2 : Int32) (c_row : Nat → Int32) : Option ((Int32 × (Nat → Int32)) ⊕ ((Nat → Int32))) :=
  bd1 (F_X5_sites c_row) (fun r_10 => if r_10 ≤ x2 then some (.inr c_row) else ixF ((2 : Int32) * x2) 16 (bd1 (F_X5_put x2 (0 : Int32) (c_o1_places ((2 : Int32) * x2).toNatClampNeg) c_row) (fun w_14 => ixF (((2 : Int32) * x2) + (1 : Int32)) 16 (bd1 (F_X5_put x2 (1 : Int32) (c_o1_places (((2 : Int32) * x2) + (1 : Int32)).toNatClampNeg) w_14) (fun w_17 => some (.inl (x2 + (1 : Int32), w_17)))))))
def F_X5_begin (K : Nat) (c_row : Nat → Int32) (c_o1_rules : Nat → Int32) (c_o1_places : Nat → Int32) (c_o1_siteCount : Int32) : Option ((Nat → Int32)) :=
  bd1 (lpF (fun u9 : Int32 × (Nat → Int32) => B_X5_begin_2  u9.1 u9.2) K ((0 : Int32), c_row)) (fun c_row_4 => nmF (upd c_row_4 0 (c_o1_rules 0)) (fun f_6 => nmF (upd f_6 1 (c_o1_rules 1)) (fun f_7 => nmF (upd f_7 2 (c_o1_rules 2)) (fun f_8 => nmF (upd f_8 3 (minF c_o1_siteCount (8 : Int32))) (fun f_9 => bd1 (lpF (fun u9 : Int32 × (Nat → Int32) => B_X5_begin_74 c_o1_places u9.1 u9.2) K ((0 : Int32), f_9)) (fun c_row_19 => bd1 (F_X5_hearPlaces K c_row_19) (fun w_21 => bd1 (F_X5_allows ((w_21 4).toInt64) ((w_21 5).toInt64) w_21) (fun r_23 => if r_23 = (0 : Int32) then nmF (upd w_21 6 (1 : Int32)) (fun f_27 => some f_27) else nmF (upd w_21 6 (0 : Int32)) (fun f_28 => some f_28)))))))))
theorem gw_wsX30 : wsX30.all goodWord = true := by decide +kernel
abbrev w_X5_begin (E : EE) (a_ a_row a_partners a_share a_leftOver a_o1 a_o1_tape a_o1_rules a_o1_places a_o1_steps : Nat) (c_askedCount : Int32) (c_outcome : Int32) (c_row : Nat → Int32) (c_o1_siteCount : Int32) (c_o1_stepCount : Int32) (c_o1_seenRules : Int32) (c_o1_at : Int32) (c_o1_wordStart : Int32) (c_o1_number : Int32) (c_o1_failed : Int32) (c_o1_rules : Nat → Int32) (c_o1_places : Nat → Int32) : va_W := [k_X5 a_ a_row a_partners c_askedCount c_outcome a_share a_leftOver, k_I E a_row 81 c_row, k_X3 a_o1 a_o1_tape a_o1_rules a_o1_places a_o1_steps c_o1_siteCount c_o1_stepCount c_o1_seenRules c_o1_at c_o1_wordStart c_o1_number c_o1_failed, k_I E a_o1_rules 3 c_o1_rules, k_I E a_o1_places 16 c_o1_places]
def v_f_X5_begin : List Cond := List.cons (.code yX5_begin cX5_begin 3 none) (HAppend.hAppend (α := List Cond) (β := List Cond) (γ := List Cond) [.fieldLink RX5 11 "HushWatch$State" "row" "[I", .methodLink RX5 39 Lib.Math.min.name, .static Lib.Math.min.name, .initialized "java/lang/Math", .code Lib.Math.min.name Lib.Math.min.code 2 (some .int), .methodLink RX5 45 yX5_sites, .instanceMethod yX5_sites, .selects RX5 yX5_sites yX5_sites, .initialized RX5, .methodLink RX5 52 yX5_put, .instanceMethod yX5_put, .selects RX5 yX5_put yX5_put, .methodLink RX5 56 yX5_hearPlaces, .instanceMethod yX5_hearPlaces, .selects RX5 yX5_hearPlaces yX5_hearPlaces, .methodLink RX5 59 yX5_allows, .instanceMethod yX5_allows, .selects RX5 yX5_allows yX5_allows] (HAppend.hAppend (α := List Cond) (β := List Cond) (γ := List Cond) wsX50 (HAppend.hAppend (α := List Cond) (β := List Cond) (γ := List Cond) wsX30 (HAppend.hAppend (α := List Cond) (β := List Cond) (γ := List Cond) v_f_X5_sites (HAppend.hAppend (α := List Cond) (β := List Cond) (γ := List Cond) v_f_X5_put (HAppend.hAppend (α := List Cond) (β := List Cond) (γ := List Cond) v_f_X5_hearPlaces (HAppend.hAppend (α := List Cond) (β := List Cond) (γ := List Cond) v_f_X5_allows [])))))))
theorem gw_f_X5_begin : v_f_X5_begin.all goodWord = true := gw_c2 (by decide +kernel) (gw_ap gw_wsX50 (gw_ap gw_wsX30 (gw_ap gw_f_X5_sites (gw_ap gw_f_X5_put (gw_ap gw_f_X5_hearPlaces (gw_ap gw_f_X5_allows gw_nil))))))
theorem i_f_X5_begin_X5 : ∀ w ∈ wsX50, w ∈ v_f_X5_begin := fun _ h => List.mem_cons_of_mem _ (List.mem_append_right _ (List.mem_append_left _ h))
theorem i_f_X5_begin_X3 : ∀ w ∈ wsX30, w ∈ v_f_X5_begin := fun _ h => List.mem_cons_of_mem _ (List.mem_append_right _ (List.mem_append_right _ (List.mem_append_left _ h)))
theorem g_f_X5_begin_f_X5_sites_45 : GoodIn v_f_X5_begin (wsV RX5 45 RX5 yX5_sites v_f_X5_sites) := goodIn_in gw_f_X5_begin (in4 6 7 8 9 rfl rfl rfl rfl (fun _ h => List.mem_cons_of_mem _ (List.mem_append_right _ (List.mem_append_right _ (List.mem_append_right _ (List.mem_append_left _ h))))))
theorem g_f_X5_begin_f_X5_put_52 : GoodIn v_f_X5_begin (wsV RX5 52 RX5 yX5_put v_f_X5_put) := goodIn_in gw_f_X5_begin (in4 10 11 12 9 rfl rfl rfl rfl (fun _ h => List.mem_cons_of_mem _ (List.mem_append_right _ (List.mem_append_right _ (List.mem_append_right _ (List.mem_append_right _ (List.mem_append_left _ h)))))))
theorem g_f_X5_begin_f_X5_hearPlaces_56 : GoodIn v_f_X5_begin (wsV RX5 56 RX5 yX5_hearPlaces v_f_X5_hearPlaces) := goodIn_in gw_f_X5_begin (in4 13 14 15 9 rfl rfl rfl rfl (fun _ h => List.mem_cons_of_mem _ (List.mem_append_right _ (List.mem_append_right _ (List.mem_append_right _ (List.mem_append_right _ (List.mem_append_right _ (List.mem_append_left _ h))))))))
theorem g_f_X5_begin_f_X5_allows_59 : GoodIn v_f_X5_begin (wsV RX5 59 RX5 yX5_allows v_f_X5_allows) := goodIn_in gw_f_X5_begin (in4 16 17 18 9 rfl rfl rfl rfl (fun _ h => List.mem_cons_of_mem _ (List.mem_append_right _ (List.mem_append_right _ (List.mem_append_right _ (List.mem_append_right _ (List.mem_append_right _ (List.mem_append_right _ (List.mem_append_left _ h)))))))))
theorem hd_X5_begin : yX5_begin.cls = RX5 ∧ yX5_begin.cls ≠ "java/lang/invoke/MethodHandle" ∧ yX5_begin.cls ≠ "java/lang/invoke/VarHandle" ∧ (parseMethodDescriptor yX5_begin.desc).map (fun d => d.parameters.length) = some 1 := by decide +kernel
set_option maxHeartbeats 4000000 in
set_option maxRecDepth 100000 in
theorem wb_X5_begin_2 {p : Program} (l : Launch) {e : Env} {s : State} {m : MethodId} {below : List Frame} {meth : Method} {c : Code} {Q : State → Prop} (E : EE) (K : Nat) {a_ a_row a_partners a_share a_leftOver a_o1 a_o1_tape a_o1_rules a_o1_places a_o1_steps : Nat} {c_askedCount : Int32} {c_outcome : Int32} {c_o1_siteCount : Int32} {c_o1_stepCount : Int32} {c_o1_seenRules : Int32} {c_o1_at : Int32} {c_o1_wordStart : Int32} {c_o1_number : Int32} {c_o1_failed : Int32} {c_o1_rules : Nat → Int32} {c_o1_places : Nat → Int32} {x2 : Int32} {c_row : Nat → Int32} (hx : p.tables.exec = Jvm.exec) (hb : c.code = cX5_begin) (hml : c.maxLocals = 3) (hown : s.vm.findClass RX5 = some m.cls) (hts : ∀ w ∈ v_f_X5_begin, w.before #[Value.ref a_, Value.ref a_o1] s = true) (hK : va_K E.1 vwCl (TY E) s) (hN : NX s) {A : Nat → Prop} (hA : ∀ q : Nat, s.heap.size ≤ q → A q) {xx : (Int32 × (Nat → Int32)) ⊕ ((Nat → Int32))} (hC : ∀ (x2 : Int32), ∀ (c_row : Nat → Int32), xx = .inl (x2, c_row) → ∀ (H : Heap) (locs : List Loc) (ls : Array Slot), va_P E.1 vwCl (w_X5_begin E a_ a_row a_partners a_share a_leftOver a_o1 a_o1_tape a_o1_rules a_o1_places a_o1_steps c_askedCount c_outcome c_row c_o1_siteCount c_o1_stepCount c_o1_seenRules c_o1_at c_o1_wordStart c_o1_number c_o1_failed c_o1_rules c_o1_places) H → va_D A (w_X5_begin E a_ a_row a_partners a_share a_leftOver a_o1 a_o1_tape a_o1_rules a_o1_places a_o1_steps c_askedCount c_outcome c_row c_o1_siteCount c_o1_stepCount c_o1_seenRules c_o1_at c_o1_wordStart c_o1_number c_o1_failed c_o1_rules c_o1_places) → va_S A s.heap H locs → lv_has ls 3 [(0, .ref a_), (1, .ref a_o1), (2, .int x2)] → W p l e ({ frames := 2, cells := 0, slots := 0, locals := 52 } : Room) s m #[Value.ref a_, Value.ref a_o1] below meth c H locs 0 0 Q (F0 m 2 ls [])) (hE : ∀ (c_row : Nat → Int32), xx = .inr c_row → ((∀ (H : Heap) (locs : List Loc) (ls : Array Slot), va_P E.1 vwCl (w_X5_begin E a_ a_row a_partners a_share a_leftOver a_o1 a_o1_tape a_o1_rules a_o1_places a_o1_steps c_askedCount c_outcome c_row c_o1_siteCount c_o1_stepCount c_o1_seenRules c_o1_at c_o1_wordStart c_o1_number c_o1_failed c_o1_rules c_o1_places) H → va_D A (w_X5_begin E a_ a_row a_partners a_share a_leftOver a_o1 a_o1_tape a_o1_rules a_o1_places a_o1_steps c_askedCount c_outcome c_row c_o1_siteCount c_o1_stepCount c_o1_seenRules c_o1_at c_o1_wordStart c_o1_number c_o1_failed c_o1_rules c_o1_places) → va_S A s.heap H locs → lv_has ls 3 [(0, .ref a_), (1, .ref a_o1)] → W p l e ({ frames := 2, cells := 0, slots := 0, locals := 52 } : Room) s m #[Value.ref a_, Value.ref a_o1] below meth c H locs 0 0 Q (F0 m 21 ls [])))) (hF : B_X5_begin_2  x2 c_row = some xx) : ∀ (H : Heap) (locs : List Loc) (ls : Array Slot), va_P E.1 vwCl (w_X5_begin E a_ a_row a_partners a_share a_leftOver a_o1 a_o1_tape a_o1_rules a_o1_places a_o1_steps c_askedCount c_outcome c_row c_o1_siteCount c_o1_stepCount c_o1_seenRules c_o1_at c_o1_wordStart c_o1_number c_o1_failed c_o1_rules c_o1_places) H → va_D A (w_X5_begin E a_ a_row a_partners a_share a_leftOver a_o1 a_o1_tape a_o1_rules a_o1_places a_o1_steps c_askedCount c_outcome c_row c_o1_siteCount c_o1_stepCount c_o1_seenRules c_o1_at c_o1_wordStart c_o1_number c_o1_failed c_o1_rules c_o1_places) → va_S A s.heap H locs → lv_has ls 3 [(0, .ref a_), (1, .ref a_o1), (2, .int x2)] → W p l e ({ frames := 2, cells := 0, slots := 0, locals := 52 } : Room) s m #[Value.ref a_, Value.ref a_o1] below meth c H locs 0 0 Q (F0 m 2 ls []) := by
  unfold B_X5_begin_2 at hF
  intro H locs ls hP hD hS hl
  have h9 := fixPD (ws' := [k_X5 a_ a_row a_partners c_askedCount c_outcome a_share a_leftOver, k_I E a_row 81 c_row, k_X3 a_o1 a_o1_tape a_o1_rules a_o1_places a_o1_steps c_o1_siteCount c_o1_stepCount c_o1_seenRules c_o1_at c_o1_wordStart c_o1_number c_o1_failed, k_I E a_o1_rules 3 c_o1_rules, k_I E a_o1_places 16 c_o1_places]) hP hD rfl
  clear hP hD
  obtain ⟨hP, hD⟩ := h9
  refine lv_iload_n hx hb (dq_28 0 bcX5_begin_0 (j := 2) rfl rfl) rfl (lv_at hl 2 rfl) ?_
  refine lv_bipush (v := 81) hx hb (dq_16 0 bcX5_begin_0 (j := 3) (i := 81) rfl rfl rfl) (by decide) ?_
  refine lv_icmp_ge (tgt := 21) hx hb (dq_162 0 bcX5_begin_0 (j := 5) (i := 16) rfl rfl rfl) (by decide) (fun c_1 => ?_) (fun c_1 => ?_)
  ·
    replace hF := ip c_1 hF
    cases hF
    exact hE c_row rfl H locs ls (hP.sub [0, 1, 2, 3, 4] rfl) (hD.sub [0, 1, 2, 3, 4] (by decide) rfl) hS (lv_sub hl [0, 1] rfl)
  ·
    replace hF := inn c_1 hF
    refine lv_aload_n hx hb (dq_42 0 bcX5_begin_0 (j := 8) rfl rfl) rfl (lv_at hl 0 rfl) ?_
    refine gt_X5_0 (v := .ref a_row) hx hb hts i_f_X5_begin_X5 hown hK hP 0 rfl (hts (.fieldLink RX5 11 "HushWatch$State" "row" "[I") (List.mem_of_getElem? (i := 1) rfl)) rfl (dq_180 0 bcX5_begin_0 (j := 9) (i := 11) rfl rfl rfl) ?_
    refine lv_iload_n hx hb (dq_28 0 bcX5_begin_0 (j := 12) rfl rfl) rfl (lv_at hl 2 rfl) ?_
    refine lv_iconst (v := 0) hx hb (dq_3 0 bcX5_begin_0 (j := 13) rfl rfl) (by decide) ?_
    replace hF := ix_s hF
    obtain ⟨hi_2, hF⟩ := hF
    refine va_iast hx hb hK hP hD hS 1 0 rfl rfl hi_2 (dq_79 0 bcX5_begin_0 (j := 14) rfl rfl) (fun H locs hP hD hS => ?_)
    have h9 := fixPD (ws' := [k_X5 a_ a_row a_partners c_askedCount c_outcome a_share a_leftOver, k_I E a_row 81 (upd c_row x2.toNatClampNeg (0 : Int32)), k_X3 a_o1 a_o1_tape a_o1_rules a_o1_places a_o1_steps c_o1_siteCount c_o1_stepCount c_o1_seenRules c_o1_at c_o1_wordStart c_o1_number c_o1_failed, k_I E a_o1_rules 3 c_o1_rules, k_I E a_o1_places 16 c_o1_places]) hP hD rfl
    clear hP hD
    obtain ⟨hP, hD⟩ := h9
    replace hF := nm_s hF
    obtain ⟨f_3, hf_3, hF⟩ := hF
    rw [← hf_3] at hP hD
    refine lv_iinc (v := x2 + (1 : Int32)) (lv' := [(2, .int (x2 + (1 : Int32))), (0, .ref a_), (1, .ref a_o1)]) hx hb (dq_132 0 bcX5_begin_0 (j := 15) (i := 1) rfl rfl rfl) hl (k := 2) rfl (rfl) (by decide) rfl (fun ls hl => ?_)
    refine lv_goto (tgt := 2) hx hb (dq_167 0 bcX5_begin_0 (j := 18) (i := -16) rfl rfl rfl) (by decide) ?_
    cases hF
    exact hC (x2 + (1 : Int32)) f_3 rfl H locs ls (hP.sub [0, 1, 2, 3, 4] rfl) (hD.sub [0, 1, 2, 3, 4] (by decide) rfl) hS (lv_sub hl [1, 2, 0] rfl)

set_option maxHeartbeats 4000000 in
set_option maxRecDepth 100000 in
theorem lw_X5_begin_2 {p : Program} (l : Launch) {e : Env} {s : State} {m : MethodId} {below : List Frame} {meth : Method} {c : Code} {Q : State → Prop} (E : EE) (K : Nat) {a_ a_row a_partners a_share a_leftOver a_o1 a_o1_tape a_o1_rules a_o1_places a_o1_steps : Nat} {c_askedCount : Int32} {c_outcome : Int32} {c_o1_siteCount : Int32} {c_o1_stepCount : Int32} {c_o1_seenRules : Int32} {c_o1_at : Int32} {c_o1_wordStart : Int32} {c_o1_number : Int32} {c_o1_failed : Int32} {c_o1_rules : Nat → Int32} {c_o1_places : Nat → Int32} (hx : p.tables.exec = Jvm.exec) (hb : c.code = cX5_begin) (hml : c.maxLocals = 3) (hown : s.vm.findClass RX5 = some m.cls) (hts : ∀ w ∈ v_f_X5_begin, w.before #[Value.ref a_, Value.ref a_o1] s = true) (hK : va_K E.1 vwCl (TY E) s) (hN : NX s) {A : Nat → Prop} (hA : ∀ q : Nat, s.heap.size ≤ q → A q) (j9 : Nat) (x2 : Int32) (c_row : Nat → Int32) (c_row' : Nat → Int32) (hL : lpF (fun u9 : Int32 × (Nat → Int32) => B_X5_begin_2  u9.1 u9.2) j9 (x2, c_row) = some c_row') (hX : (∀ (H : Heap) (locs : List Loc) (ls : Array Slot), va_P E.1 vwCl (w_X5_begin E a_ a_row a_partners a_share a_leftOver a_o1 a_o1_tape a_o1_rules a_o1_places a_o1_steps c_askedCount c_outcome c_row' c_o1_siteCount c_o1_stepCount c_o1_seenRules c_o1_at c_o1_wordStart c_o1_number c_o1_failed c_o1_rules c_o1_places) H → va_D A (w_X5_begin E a_ a_row a_partners a_share a_leftOver a_o1 a_o1_tape a_o1_rules a_o1_places a_o1_steps c_askedCount c_outcome c_row' c_o1_siteCount c_o1_stepCount c_o1_seenRules c_o1_at c_o1_wordStart c_o1_number c_o1_failed c_o1_rules c_o1_places) → va_S A s.heap H locs → lv_has ls 3 [(0, .ref a_), (1, .ref a_o1)] → W p l e ({ frames := 2, cells := 0, slots := 0, locals := 52 } : Room) s m #[Value.ref a_, Value.ref a_o1] below meth c H locs 0 0 Q (F0 m 21 ls []))) : ∀ (H : Heap) (locs : List Loc) (ls : Array Slot), va_P E.1 vwCl (w_X5_begin E a_ a_row a_partners a_share a_leftOver a_o1 a_o1_tape a_o1_rules a_o1_places a_o1_steps c_askedCount c_outcome c_row c_o1_siteCount c_o1_stepCount c_o1_seenRules c_o1_at c_o1_wordStart c_o1_number c_o1_failed c_o1_rules c_o1_places) H → va_D A (w_X5_begin E a_ a_row a_partners a_share a_leftOver a_o1 a_o1_tape a_o1_rules a_o1_places a_o1_steps c_askedCount c_outcome c_row c_o1_siteCount c_o1_stepCount c_o1_seenRules c_o1_at c_o1_wordStart c_o1_number c_o1_failed c_o1_rules c_o1_places) → va_S A s.heap H locs → lv_has ls 3 [(0, .ref a_), (1, .ref a_o1), (2, .int x2)] → W p l e ({ frames := 2, cells := 0, slots := 0, locals := 52 } : Room) s m #[Value.ref a_, Value.ref a_o1] below meth c H locs 0 0 Q (F0 m 2 ls []) := by
  exact lp_rule (P := (fun u9 : Int32 × (Nat → Int32) => ∀ (H : Heap) (locs : List Loc) (ls : Array Slot), va_P E.1 vwCl (w_X5_begin E a_ a_row a_partners a_share a_leftOver a_o1 a_o1_tape a_o1_rules a_o1_places a_o1_steps c_askedCount c_outcome u9.2 c_o1_siteCount c_o1_stepCount c_o1_seenRules c_o1_at c_o1_wordStart c_o1_number c_o1_failed c_o1_rules c_o1_places) H → va_D A (w_X5_begin E a_ a_row a_partners a_share a_leftOver a_o1 a_o1_tape a_o1_rules a_o1_places a_o1_steps c_askedCount c_outcome u9.2 c_o1_siteCount c_o1_stepCount c_o1_seenRules c_o1_at c_o1_wordStart c_o1_number c_o1_failed c_o1_rules c_o1_places) → va_S A s.heap H locs → lv_has ls 3 [(0, .ref a_), (1, .ref a_o1), (2, .int u9.1)] → W p l e ({ frames := 2, cells := 0, slots := 0, locals := 52 } : Room) s m #[Value.ref a_, Value.ref a_o1] below meth c H locs 0 0 Q (F0 m 2 ls []))) (R := (fun r9 : (Nat → Int32) => (∀ (H : Heap) (locs : List Loc) (ls : Array Slot), va_P E.1 vwCl (w_X5_begin E a_ a_row a_partners a_share a_leftOver a_o1 a_o1_tape a_o1_rules a_o1_places a_o1_steps c_askedCount c_outcome r9 c_o1_siteCount c_o1_stepCount c_o1_seenRules c_o1_at c_o1_wordStart c_o1_number c_o1_failed c_o1_rules c_o1_places) H → va_D A (w_X5_begin E a_ a_row a_partners a_share a_leftOver a_o1 a_o1_tape a_o1_rules a_o1_places a_o1_steps c_askedCount c_outcome r9 c_o1_siteCount c_o1_stepCount c_o1_seenRules c_o1_at c_o1_wordStart c_o1_number c_o1_failed c_o1_rules c_o1_places) → va_S A s.heap H locs → lv_has ls 3 [(0, .ref a_), (1, .ref a_o1)] → W p l e ({ frames := 2, cells := 0, slots := 0, locals := 52 } : Room) s m #[Value.ref a_, Value.ref a_o1] below meth c H locs 0 0 Q (F0 m 21 ls [])))) (fun u9 xx hF hC hE => wb_X5_begin_2 l E K (c_askedCount := c_askedCount) (c_outcome := c_outcome) (c_o1_siteCount := c_o1_siteCount) (c_o1_stepCount := c_o1_stepCount) (c_o1_seenRules := c_o1_seenRules) (c_o1_at := c_o1_at) (c_o1_wordStart := c_o1_wordStart) (c_o1_number := c_o1_number) (c_o1_failed := c_o1_failed) (c_o1_rules := c_o1_rules) (c_o1_places := c_o1_places) (x2 := u9.1) (c_row := u9.2) hx hb hml hown hts hK hN hA (fun x2 c_row q9 => hC _ q9) (fun c_row q9 => hE _ q9) hF) j9 (x2, c_row) c_row' hL hX

set_option maxHeartbeats 4000000 in
set_option maxRecDepth 100000 in
theorem wb_X5_begin_74 {p : Program} (l : Launch) {e : Env} {s : State} {m : MethodId} {below : List Frame} {meth : Method} {c : Code} {Q : State → Prop} (E : EE) (K : Nat) {a_ a_row a_partners a_share a_leftOver a_o1 a_o1_tape a_o1_rules a_o1_places a_o1_steps : Nat} {c_askedCount : Int32} {c_outcome : Int32} {c_o1_siteCount : Int32} {c_o1_stepCount : Int32} {c_o1_seenRules : Int32} {c_o1_at : Int32} {c_o1_wordStart : Int32} {c_o1_number : Int32} {c_o1_failed : Int32} {c_o1_rules : Nat → Int32} {c_o1_places : Nat → Int32} {x2 : Int32} {c_row : Nat → Int32} (hx : p.tables.exec = Jvm.exec) (hb : c.code = cX5_begin) (hml : c.maxLocals = 3) (hown : s.vm.findClass RX5 = some m.cls) (hts : ∀ w ∈ v_f_X5_begin, w.before #[Value.ref a_, Value.ref a_o1] s = true) (hK : va_K E.1 vwCl (TY E) s) (hN : NX s) {A : Nat → Prop} (hA : ∀ q : Nat, s.heap.size ≤ q → A q) {xx : (Int32 × (Nat → Int32)) ⊕ ((Nat → Int32))} (hC : ∀ (x2 : Int32), ∀ (c_row : Nat → Int32), xx = .inl (x2, c_row) → ∀ (H : Heap) (locs : List Loc) (ls : Array Slot), va_P E.1 vwCl (w_X5_begin E a_ a_row a_partners a_share a_leftOver a_o1 a_o1_tape a_o1_rules a_o1_places a_o1_steps c_askedCount c_outcome c_row c_o1_siteCount c_o1_stepCount c_o1_seenRules c_o1_at c_o1_wordStart c_o1_number c_o1_failed c_o1_rules c_o1_places) H → va_D A (w_X5_begin E a_ a_row a_partners a_share a_leftOver a_o1 a_o1_tape a_o1_rules a_o1_places a_o1_steps c_askedCount c_outcome c_row c_o1_siteCount c_o1_stepCount c_o1_seenRules c_o1_at c_o1_wordStart c_o1_number c_o1_failed c_o1_rules c_o1_places) → va_S A s.heap H locs → lv_has ls 3 [(0, .ref a_), (1, .ref a_o1), (2, .int x2)] → W p l e ({ frames := 2, cells := 0, slots := 0, locals := 52 } : Room) s m #[Value.ref a_, Value.ref a_o1] below meth c H locs 0 0 Q (F0 m 74 ls [])) (hE : ∀ (c_row : Nat → Int32), xx = .inr c_row → ((∀ (H : Heap) (locs : List Loc) (ls : Array Slot), va_P E.1 vwCl (w_X5_begin E a_ a_row a_partners a_share a_leftOver a_o1 a_o1_tape a_o1_rules a_o1_places a_o1_steps c_askedCount c_outcome c_row c_o1_siteCount c_o1_stepCount c_o1_seenRules c_o1_at c_o1_wordStart c_o1_number c_o1_failed c_o1_rules c_o1_places) H → va_D A (w_X5_begin E a_ a_row a_partners a_share a_leftOver a_o1 a_o1_tape a_o1_rules a_o1_places a_o1_steps c_askedCount c_outcome c_row c_o1_siteCount c_o1_stepCount c_o1_seenRules c_o1_at c_o1_wordStart c_o1_number c_o1_failed c_o1_rules c_o1_places) → va_S A s.heap H locs → lv_has ls 3 [(0, .ref a_)] → W p l e ({ frames := 2, cells := 0, slots := 0, locals := 52 } : Room) s m #[Value.ref a_, Value.ref a_o1] below meth c H locs 0 0 Q (F0 m 118 ls [])))) (hF : B_X5_begin_74 c_o1_places x2 c_row = some xx) : ∀ (H : Heap) (locs : List Loc) (ls : Array Slot), va_P E.1 vwCl (w_X5_begin E a_ a_row a_partners a_share a_leftOver a_o1 a_o1_tape a_o1_rules a_o1_places a_o1_steps c_askedCount c_outcome c_row c_o1_siteCount c_o1_stepCount c_o1_seenRules c_o1_at c_o1_wordStart c_o1_number c_o1_failed c_o1_rules c_o1_places) H → va_D A (w_X5_begin E a_ a_row a_partners a_share a_leftOver a_o1 a_o1_tape a_o1_rules a_o1_places a_o1_steps c_askedCount c_outcome c_row c_o1_siteCount c_o1_stepCount c_o1_seenRules c_o1_at c_o1_wordStart c_o1_number c_o1_failed c_o1_rules c_o1_places) → va_S A s.heap H locs → lv_has ls 3 [(0, .ref a_), (1, .ref a_o1), (2, .int x2)] → W p l e ({ frames := 2, cells := 0, slots := 0, locals := 52 } : Room) s m #[Value.ref a_, Value.ref a_o1] below meth c H locs 0 0 Q (F0 m 74 ls []) := by
  unfold B_X5_begin_74 at hF
  intro H locs ls hP hD hS hl
  have h9 := fixPD (ws' := [k_X5 a_ a_row a_partners c_askedCount c_outcome a_share a_leftOver, k_I E a_row 81 c_row, k_X3 a_o1 a_o1_tape a_o1_rules a_o1_places a_o1_steps c_o1_siteCount c_o1_stepCount c_o1_seenRules c_o1_at c_o1_wordStart c_o1_number c_o1_failed, k_I E a_o1_rules 3 c_o1_rules, k_I E a_o1_places 16 c_o1_places]) hP hD rfl
  clear hP hD
  obtain ⟨hP, hD⟩ := h9
  refine lv_iload_n hx hb (dq_28 48 bcX5_begin_1 (j := 26) rfl rfl) rfl (lv_at hl 2 rfl) ?_
  refine lv_aload_n hx hb (dq_42 48 bcX5_begin_1 (j := 27) rfl rfl) rfl (lv_at hl 0 rfl) ?_
  replace hF := bd1_s hF
  obtain ⟨r_10, hc_11, hF⟩ := hF
  have hPc : va_P E.1 vwCl (w_X5_sites E a_ a_row a_partners a_share a_leftOver c_askedCount c_outcome c_row) H := hP.sub (ws' := [k_X5 a_ a_row a_partners c_askedCount c_outcome a_share a_leftOver, k_I E a_row 81 c_row]) [0, 1] rfl
  have hrc := va_recv hK hPc (ci := 6) (q0 := 0) rfl rfl
  refine pE_i (va_runV (As := []) (rest := [.int x2])  ⟨hx, hb, hml, hown, hts⟩ (f_X5_sites l E (a_ := a_) (a_row := a_row) (a_partners := a_partners) (a_share := a_share) (a_leftOver := a_leftOver) (c_askedCount := c_askedCount) (c_outcome := c_outcome) (c_row := c_row) hc_11) (cwV 0 hts g_f_X5_begin_f_X5_sites_45 rfl rfl rfl hd_X5_sites ⟨Nat.le_of_ble_eq_true rfl, Nat.le_of_ble_eq_true rfl⟩) ⟨pP.blind, hrc, (pP.pre ⟨hK, hN⟩ hPc)⟩ rfl rfl hl.1 rfl (lv_room (Nat.le_of_ble_eq_true rfl)) (dq_182 48 bcX5_begin_1 (j := 28) (i := 45) rfl rfl rfl) ⟨Nat.le_of_ble_eq_true rfl, Nat.le_of_ble_eq_true rfl⟩) ?_
  refine lv_icmp_ge (tgt := 118) hx hb (dq_162 48 bcX5_begin_1 (j := 31) (i := 39) rfl rfl rfl) (by decide) (fun c_12 => ?_) (fun c_12 => ?_)
  ·
    replace hF := ip c_12 hF
    cases hF
    exact hE c_row rfl H locs ls (hP.sub [0, 1, 2, 3, 4] rfl) (hD.sub [0, 1, 2, 3, 4] (by decide) rfl) hS (lv_sub hl [0] rfl)
  ·
    replace hF := inn c_12 hF
    refine lv_aload_n hx hb (dq_42 48 bcX5_begin_1 (j := 34) rfl rfl) rfl (lv_at hl 0 rfl) ?_
    refine lv_iload_n hx hb (dq_28 48 bcX5_begin_1 (j := 35) rfl rfl) rfl (lv_at hl 2 rfl) ?_
    refine lv_iconst (v := 0) hx hb (dq_3 48 bcX5_begin_1 (j := 36) rfl rfl) (by decide) ?_
    refine lv_aload_n hx hb (dq_43 48 bcX5_begin_1 (j := 37) rfl rfl) rfl (lv_at hl 1 rfl) ?_
    refine va_getN (D := E.1) (ci := 4) (v := .ref a_o1_places) (C := RX3) (T := TX3) (N := 11) hx hb hts i_f_X5_begin_X3 hown hK hP 2 rfl rfl 2 (by decide) (nx hN 4 rfl) (fun _ h9 => h9) rfl (dq_180 48 bcX5_begin_1 (j := 38) (i := 49) rfl rfl rfl) ?_
    refine lv_iconst (v := 2) hx hb (dq_5 48 bcX5_begin_1 (j := 41) rfl rfl) (by decide) ?_
    refine lv_iload_n hx hb (dq_28 48 bcX5_begin_1 (j := 42) rfl rfl) rfl (lv_at hl 2 rfl) ?_
    refine lv_imul hx hb (dq_104 48 bcX5_begin_1 (j := 43) rfl rfl) ?_
    replace hF := ix_s hF
    obtain ⟨hi_13, hF⟩ := hF
    refine va_iald hx hb hK hP 4 0 rfl rfl hi_13 (dq_46 48 bcX5_begin_1 (j := 44) rfl rfl) ?_
    replace hF := bd1_s hF
    obtain ⟨w_14, hc_15, hF⟩ := hF
    obtain ⟨hPc, hDc, hFc⟩ := wcut (wc := (w_X5_put E a_ a_row a_partners a_share a_leftOver c_askedCount c_outcome c_row)) hP hD hS hA [0, 1] (by decide) rfl
    have hrc := va_recv hK hPc (ci := 6) (q0 := 0) rfl rfl
    refine cE_v (wc := (w_X5_put E a_ a_row a_partners a_share a_leftOver c_askedCount c_outcome c_row)) (wr := [k_X3 a_o1 a_o1_tape a_o1_rules a_o1_places a_o1_steps c_o1_siteCount c_o1_stepCount c_o1_seenRules c_o1_at c_o1_wordStart c_o1_number c_o1_failed, k_I E a_o1_rules 3 c_o1_rules, k_I E a_o1_places 16 c_o1_places]) (w1 := (w_X5_put E a_ a_row a_partners a_share a_leftOver c_askedCount c_outcome w_14)) (va_runV (As := [.int x2, .int (0 : Int32), .int (c_o1_places ((2 : Int32) * x2).toNatClampNeg)]) (rest := [])  ⟨hx, hb, hml, hown, hts⟩ (f_X5_put l E H.size (a_ := a_) (a_row := a_row) (a_partners := a_partners) (a_share := a_share) (a_leftOver := a_leftOver) (p1 := x2) (p2 := (0 : Int32)) (p3 := c_o1_places ((2 : Int32) * x2).toNatClampNeg) (c_askedCount := c_askedCount) (c_outcome := c_outcome) (c_row := c_row) hc_15) (cwV 3 hts g_f_X5_begin_f_X5_put_52 rfl rfl rfl hd_X5_put ⟨Nat.le_of_ble_eq_true rfl, Nat.le_of_ble_eq_true rfl⟩) ⟨pW.blind, hrc, (pW.pre ⟨hK, hN⟩ hPc hDc)⟩ rfl rfl hl.1 rfl (lv_room (Nat.le_of_ble_eq_true rfl)) (dq_182 48 bcX5_begin_1 (j := 45) (i := 52) rfl rfl rfl) ⟨Nat.le_of_ble_eq_true rfl, Nat.le_of_ble_eq_true rfl⟩) hS hFc hP hD [0, 1] [2, 3, 4] rfl rfl (by decide) (by decide) (fun H locs hP hD hS => ?_)
    have h9 := fixPD (ws' := [k_X3 a_o1 a_o1_tape a_o1_rules a_o1_places a_o1_steps c_o1_siteCount c_o1_stepCount c_o1_seenRules c_o1_at c_o1_wordStart c_o1_number c_o1_failed, k_I E a_o1_rules 3 c_o1_rules, k_I E a_o1_places 16 c_o1_places, k_X5 a_ a_row a_partners c_askedCount c_outcome a_share a_leftOver, k_I E a_row 81 w_14]) hP hD rfl
    clear hP hD
    obtain ⟨hP, hD⟩ := h9
    refine lv_aload_n hx hb (dq_42 96 bcX5_begin_2 (j := 0) rfl rfl) rfl (lv_at hl 0 rfl) ?_
    refine lv_iload_n hx hb (dq_28 96 bcX5_begin_2 (j := 1) rfl rfl) rfl (lv_at hl 2 rfl) ?_
    refine lv_iconst (v := 1) hx hb (dq_4 96 bcX5_begin_2 (j := 2) rfl rfl) (by decide) ?_
    refine lv_aload_n hx hb (dq_43 96 bcX5_begin_2 (j := 3) rfl rfl) rfl (lv_at hl 1 rfl) ?_
    refine va_getN (D := E.1) (ci := 4) (v := .ref a_o1_places) (C := RX3) (T := TX3) (N := 11) hx hb hts i_f_X5_begin_X3 hown hK hP 0 rfl rfl 2 (by decide) (nx hN 4 rfl) (fun _ h9 => h9) rfl (dq_180 96 bcX5_begin_2 (j := 4) (i := 49) rfl rfl rfl) ?_
    refine lv_iconst (v := 2) hx hb (dq_5 96 bcX5_begin_2 (j := 7) rfl rfl) (by decide) ?_
    refine lv_iload_n hx hb (dq_28 96 bcX5_begin_2 (j := 8) rfl rfl) rfl (lv_at hl 2 rfl) ?_
    refine lv_imul hx hb (dq_104 96 bcX5_begin_2 (j := 9) rfl rfl) ?_
    refine lv_iconst (v := 1) hx hb (dq_4 96 bcX5_begin_2 (j := 10) rfl rfl) (by decide) ?_
    refine lv_iadd hx hb (dq_96 96 bcX5_begin_2 (j := 11) rfl rfl) ?_
    replace hF := ix_s hF
    obtain ⟨hi_16, hF⟩ := hF
    refine va_iald hx hb hK hP 2 0 rfl rfl hi_16 (dq_46 96 bcX5_begin_2 (j := 12) rfl rfl) ?_
    replace hF := bd1_s hF
    obtain ⟨w_17, hc_18, hF⟩ := hF
    obtain ⟨hPc, hDc, hFc⟩ := wcut (wc := (w_X5_put E a_ a_row a_partners a_share a_leftOver c_askedCount c_outcome w_14)) hP hD hS hA [3, 4] (by decide) rfl
    have hrc := va_recv hK hPc (ci := 6) (q0 := 0) rfl rfl
    refine cE_v (wc := (w_X5_put E a_ a_row a_partners a_share a_leftOver c_askedCount c_outcome w_14)) (wr := [k_X3 a_o1 a_o1_tape a_o1_rules a_o1_places a_o1_steps c_o1_siteCount c_o1_stepCount c_o1_seenRules c_o1_at c_o1_wordStart c_o1_number c_o1_failed, k_I E a_o1_rules 3 c_o1_rules, k_I E a_o1_places 16 c_o1_places]) (w1 := (w_X5_put E a_ a_row a_partners a_share a_leftOver c_askedCount c_outcome w_17)) (va_runV (As := [.int x2, .int (1 : Int32), .int (c_o1_places (((2 : Int32) * x2) + (1 : Int32)).toNatClampNeg)]) (rest := [])  ⟨hx, hb, hml, hown, hts⟩ (f_X5_put l E H.size (a_ := a_) (a_row := a_row) (a_partners := a_partners) (a_share := a_share) (a_leftOver := a_leftOver) (p1 := x2) (p2 := (1 : Int32)) (p3 := c_o1_places (((2 : Int32) * x2) + (1 : Int32)).toNatClampNeg) (c_askedCount := c_askedCount) (c_outcome := c_outcome) (c_row := w_14) hc_18) (cwV 3 hts g_f_X5_begin_f_X5_put_52 rfl rfl rfl hd_X5_put ⟨Nat.le_of_ble_eq_true rfl, Nat.le_of_ble_eq_true rfl⟩) ⟨pW.blind, hrc, (pW.pre ⟨hK, hN⟩ hPc hDc)⟩ rfl rfl hl.1 rfl (lv_room (Nat.le_of_ble_eq_true rfl)) (dq_182 96 bcX5_begin_2 (j := 13) (i := 52) rfl rfl rfl) ⟨Nat.le_of_ble_eq_true rfl, Nat.le_of_ble_eq_true rfl⟩) hS hFc hP hD [3, 4] [0, 1, 2] rfl rfl (by decide) (by decide) (fun H locs hP hD hS => ?_)
    have h9 := fixPD (ws' := [k_X3 a_o1 a_o1_tape a_o1_rules a_o1_places a_o1_steps c_o1_siteCount c_o1_stepCount c_o1_seenRules c_o1_at c_o1_wordStart c_o1_number c_o1_failed, k_I E a_o1_rules 3 c_o1_rules, k_I E a_o1_places 16 c_o1_places, k_X5 a_ a_row a_partners c_askedCount c_outcome a_share a_leftOver, k_I E a_row 81 w_17]) hP hD rfl
    clear hP hD
    obtain ⟨hP, hD⟩ := h9
    refine lv_iinc (v := x2 + (1 : Int32)) (lv' := [(2, .int (x2 + (1 : Int32))), (0, .ref a_), (1, .ref a_o1)]) hx hb (dq_132 96 bcX5_begin_2 (j := 16) (i := 1) rfl rfl rfl) hl (k := 2) rfl (rfl) (by decide) rfl (fun ls hl => ?_)
    refine lv_goto (tgt := 74) hx hb (dq_167 96 bcX5_begin_2 (j := 19) (i := -41) rfl rfl rfl) (by decide) ?_
    cases hF
    exact hC (x2 + (1 : Int32)) w_17 rfl H locs ls (hP.sub [3, 4, 0, 1, 2] rfl) (hD.sub [3, 4, 0, 1, 2] (by decide) rfl) hS (lv_sub hl [1, 2, 0] rfl)

set_option maxHeartbeats 4000000 in
set_option maxRecDepth 100000 in
theorem lw_X5_begin_74 {p : Program} (l : Launch) {e : Env} {s : State} {m : MethodId} {below : List Frame} {meth : Method} {c : Code} {Q : State → Prop} (E : EE) (K : Nat) {a_ a_row a_partners a_share a_leftOver a_o1 a_o1_tape a_o1_rules a_o1_places a_o1_steps : Nat} {c_askedCount : Int32} {c_outcome : Int32} {c_o1_siteCount : Int32} {c_o1_stepCount : Int32} {c_o1_seenRules : Int32} {c_o1_at : Int32} {c_o1_wordStart : Int32} {c_o1_number : Int32} {c_o1_failed : Int32} {c_o1_rules : Nat → Int32} {c_o1_places : Nat → Int32} (hx : p.tables.exec = Jvm.exec) (hb : c.code = cX5_begin) (hml : c.maxLocals = 3) (hown : s.vm.findClass RX5 = some m.cls) (hts : ∀ w ∈ v_f_X5_begin, w.before #[Value.ref a_, Value.ref a_o1] s = true) (hK : va_K E.1 vwCl (TY E) s) (hN : NX s) {A : Nat → Prop} (hA : ∀ q : Nat, s.heap.size ≤ q → A q) (j9 : Nat) (x2 : Int32) (c_row : Nat → Int32) (c_row' : Nat → Int32) (hL : lpF (fun u9 : Int32 × (Nat → Int32) => B_X5_begin_74 c_o1_places u9.1 u9.2) j9 (x2, c_row) = some c_row') (hX : (∀ (H : Heap) (locs : List Loc) (ls : Array Slot), va_P E.1 vwCl (w_X5_begin E a_ a_row a_partners a_share a_leftOver a_o1 a_o1_tape a_o1_rules a_o1_places a_o1_steps c_askedCount c_outcome c_row' c_o1_siteCount c_o1_stepCount c_o1_seenRules c_o1_at c_o1_wordStart c_o1_number c_o1_failed c_o1_rules c_o1_places) H → va_D A (w_X5_begin E a_ a_row a_partners a_share a_leftOver a_o1 a_o1_tape a_o1_rules a_o1_places a_o1_steps c_askedCount c_outcome c_row' c_o1_siteCount c_o1_stepCount c_o1_seenRules c_o1_at c_o1_wordStart c_o1_number c_o1_failed c_o1_rules c_o1_places) → va_S A s.heap H locs → lv_has ls 3 [(0, .ref a_)] → W p l e ({ frames := 2, cells := 0, slots := 0, locals := 52 } : Room) s m #[Value.ref a_, Value.ref a_o1] below meth c H locs 0 0 Q (F0 m 118 ls []))) : ∀ (H : Heap) (locs : List Loc) (ls : Array Slot), va_P E.1 vwCl (w_X5_begin E a_ a_row a_partners a_share a_leftOver a_o1 a_o1_tape a_o1_rules a_o1_places a_o1_steps c_askedCount c_outcome c_row c_o1_siteCount c_o1_stepCount c_o1_seenRules c_o1_at c_o1_wordStart c_o1_number c_o1_failed c_o1_rules c_o1_places) H → va_D A (w_X5_begin E a_ a_row a_partners a_share a_leftOver a_o1 a_o1_tape a_o1_rules a_o1_places a_o1_steps c_askedCount c_outcome c_row c_o1_siteCount c_o1_stepCount c_o1_seenRules c_o1_at c_o1_wordStart c_o1_number c_o1_failed c_o1_rules c_o1_places) → va_S A s.heap H locs → lv_has ls 3 [(0, .ref a_), (1, .ref a_o1), (2, .int x2)] → W p l e ({ frames := 2, cells := 0, slots := 0, locals := 52 } : Room) s m #[Value.ref a_, Value.ref a_o1] below meth c H locs 0 0 Q (F0 m 74 ls []) := by
  exact lp_rule (P := (fun u9 : Int32 × (Nat → Int32) => ∀ (H : Heap) (locs : List Loc) (ls : Array Slot), va_P E.1 vwCl (w_X5_begin E a_ a_row a_partners a_share a_leftOver a_o1 a_o1_tape a_o1_rules a_o1_places a_o1_steps c_askedCount c_outcome u9.2 c_o1_siteCount c_o1_stepCount c_o1_seenRules c_o1_at c_o1_wordStart c_o1_number c_o1_failed c_o1_rules c_o1_places) H → va_D A (w_X5_begin E a_ a_row a_partners a_share a_leftOver a_o1 a_o1_tape a_o1_rules a_o1_places a_o1_steps c_askedCount c_outcome u9.2 c_o1_siteCount c_o1_stepCount c_o1_seenRules c_o1_at c_o1_wordStart c_o1_number c_o1_failed c_o1_rules c_o1_places) → va_S A s.heap H locs → lv_has ls 3 [(0, .ref a_), (1, .ref a_o1), (2, .int u9.1)] → W p l e ({ frames := 2, cells := 0, slots := 0, locals := 52 } : Room) s m #[Value.ref a_, Value.ref a_o1] below meth c H locs 0 0 Q (F0 m 74 ls []))) (R := (fun r9 : (Nat → Int32) => (∀ (H : Heap) (locs : List Loc) (ls : Array Slot), va_P E.1 vwCl (w_X5_begin E a_ a_row a_partners a_share a_leftOver a_o1 a_o1_tape a_o1_rules a_o1_places a_o1_steps c_askedCount c_outcome r9 c_o1_siteCount c_o1_stepCount c_o1_seenRules c_o1_at c_o1_wordStart c_o1_number c_o1_failed c_o1_rules c_o1_places) H → va_D A (w_X5_begin E a_ a_row a_partners a_share a_leftOver a_o1 a_o1_tape a_o1_rules a_o1_places a_o1_steps c_askedCount c_outcome r9 c_o1_siteCount c_o1_stepCount c_o1_seenRules c_o1_at c_o1_wordStart c_o1_number c_o1_failed c_o1_rules c_o1_places) → va_S A s.heap H locs → lv_has ls 3 [(0, .ref a_)] → W p l e ({ frames := 2, cells := 0, slots := 0, locals := 52 } : Room) s m #[Value.ref a_, Value.ref a_o1] below meth c H locs 0 0 Q (F0 m 118 ls [])))) (fun u9 xx hF hC hE => wb_X5_begin_74 l E K (c_askedCount := c_askedCount) (c_outcome := c_outcome) (c_o1_siteCount := c_o1_siteCount) (c_o1_stepCount := c_o1_stepCount) (c_o1_seenRules := c_o1_seenRules) (c_o1_at := c_o1_at) (c_o1_wordStart := c_o1_wordStart) (c_o1_number := c_o1_number) (c_o1_failed := c_o1_failed) (c_o1_rules := c_o1_rules) (c_o1_places := c_o1_places) (x2 := u9.1) (c_row := u9.2) hx hb hml hown hts hK hN hA (fun x2 c_row q9 => hC _ q9) (fun c_row q9 => hE _ q9) hF) j9 (x2, c_row) c_row' hL hX

set_option maxHeartbeats 4000000 in
set_option maxRecDepth 100000 in
theorem f_X5_begin (l : Launch) (E : EE) (sz : Nat) (K : Nat) {a_ a_row a_partners a_share a_leftOver a_o1 a_o1_tape a_o1_rules a_o1_places a_o1_steps : Nat} {c_askedCount : Int32} {c_outcome : Int32} {c_row : Nat → Int32} {c_o1_siteCount : Int32} {c_o1_stepCount : Int32} {c_o1_seenRules : Int32} {c_o1_at : Int32} {c_o1_wordStart : Int32} {c_o1_number : Int32} {c_o1_failed : Int32} {c_o1_rules : Nat → Int32} {c_o1_places : Nat → Int32} {n_row : Nat → Int32} (hF : F_X5_begin K c_row c_o1_rules c_o1_places c_o1_siteCount = some n_row) : Met l yX5_begin v_f_X5_begin (({ frames := 2, cells := 0, slots := 0, locals := 52 } : Room)) (va_Pc [.ref a_, .ref a_o1] (pW E sz (w_X5_begin E a_ a_row a_partners a_share a_leftOver a_o1 a_o1_tape a_o1_rules a_o1_places a_o1_steps c_askedCount c_outcome c_row c_o1_siteCount c_o1_stepCount c_o1_seenRules c_o1_at c_o1_wordStart c_o1_number c_o1_failed c_o1_rules c_o1_places))) (va_Qv (fun (_u : Unit) => True) (fun (_u : Unit) tt => va_P E.1 vwCl (w_X5_begin E a_ a_row a_partners a_share a_leftOver a_o1 a_o1_tape a_o1_rules a_o1_places a_o1_steps c_askedCount c_outcome n_row c_o1_siteCount c_o1_stepCount c_o1_seenRules c_o1_at c_o1_wordStart c_o1_number c_o1_failed c_o1_rules c_o1_places) tt.heap ∧ va_D (va_A (w_X5_begin E a_ a_row a_partners a_share a_leftOver a_o1 a_o1_tape a_o1_rules a_o1_places a_o1_steps c_askedCount c_outcome c_row c_o1_siteCount c_o1_stepCount c_o1_seenRules c_o1_at c_o1_wordStart c_o1_number c_o1_failed c_o1_rules c_o1_places) sz) (w_X5_begin E a_ a_row a_partners a_share a_leftOver a_o1 a_o1_tape a_o1_rules a_o1_places a_o1_steps c_askedCount c_outcome n_row c_o1_siteCount c_o1_stepCount c_o1_seenRules c_o1_at c_o1_wordStart c_o1_number c_o1_failed c_o1_rules c_o1_places)) (va_A (w_X5_begin E a_ a_row a_partners a_share a_leftOver a_o1 a_o1_tape a_o1_rules a_o1_places a_o1_steps c_askedCount c_outcome c_row c_o1_siteCount c_o1_stepCount c_o1_seenRules c_o1_at c_o1_wordStart c_o1_number c_o1_failed c_o1_rules c_o1_places) sz)) 0 0 (va_A (w_X5_begin E a_ a_row a_partners a_share a_leftOver a_o1 a_o1_tape a_o1_rules a_o1_places a_o1_steps c_askedCount c_outcome c_row c_o1_siteCount c_o1_stepCount c_o1_seenRules c_o1_at c_o1_wordStart c_o1_number c_o1_failed c_o1_rules c_o1_places) sz) := by
  refine Met.ofW (cc := cX5_begin) (maxL := 3) (ret := none) (by decide) rfl ?_
  intro p e s m args below meth c s₁ B hml hv
  obtain ⟨rfl, hsz, ⟨hK, hN⟩, hP, hD0⟩ := hv
  have hx := B.exec
  have hb := B.bytes
  have hr := B.returns
  have hts := atoms_spec (ws := v_f_X5_begin) B.pre
  have hown : s.vm.findClass RX5 = some m.cls := own_of hd_X5_begin.1 (findClass_of_methodNamed B.named)
  have hlocks : meth.locks = false := B.notSynchronized
  subst hsz
  have hD := hD0.self (sz := s.heap.size)
  generalize hAe : va_A (w_X5_begin E a_ a_row a_partners a_share a_leftOver a_o1 a_o1_tape a_o1_rules a_o1_places a_o1_steps c_askedCount c_outcome c_row c_o1_siteCount c_o1_stepCount c_o1_seenRules c_o1_at c_o1_wordStart c_o1_number c_o1_failed c_o1_rules c_o1_places) s.heap.size = A at hD ⊢
  have hA : ∀ q : Nat, s.heap.size ≤ q → A q := fun q h => by rw [← hAe]; exact Or.inr h
  have hS : va_S A s.heap s.heap [] := va_S.rf
  have hl := lv_entry ([.ref a_, .ref a_o1]) (n := 3) (Nat.le_of_ble_eq_true rfl)
  rw [lg_entry_eq]
  generalize (lg_sl ([.ref a_, .ref a_o1]) ++ List.replicate (3 - (lg_sl ([.ref a_, .ref a_o1])).length) Slot.unset).toArray = ls at hl ⊢
  have hl : lv_has ls 3 [(0, .ref a_), (1, .ref a_o1)] := hl
  obtain ⟨Q, hQ⟩ : ∃ Q : State → Prop, Q = MQ below (va_Qv (fun (_u : Unit) => True) (fun (_u : Unit) tt => va_P E.1 vwCl (w_X5_begin E a_ a_row a_partners a_share a_leftOver a_o1 a_o1_tape a_o1_rules a_o1_places a_o1_steps c_askedCount c_outcome n_row c_o1_siteCount c_o1_stepCount c_o1_seenRules c_o1_at c_o1_wordStart c_o1_number c_o1_failed c_o1_rules c_o1_places) tt.heap ∧ va_D A (w_X5_begin E a_ a_row a_partners a_share a_leftOver a_o1 a_o1_tape a_o1_rules a_o1_places a_o1_steps c_askedCount c_outcome n_row c_o1_siteCount c_o1_stepCount c_o1_seenRules c_o1_at c_o1_wordStart c_o1_number c_o1_failed c_o1_rules c_o1_places)) A) #[Value.ref a_, Value.ref a_o1] s 0 0 A := ⟨_, rfl⟩
  rw [← hQ]
  change W p l e ({ frames := 2, cells := 0, slots := 0, locals := 52 } : Room) s m #[Value.ref a_, Value.ref a_o1] below meth c s.heap [] 0 0 Q (F0 m 0 ls [])
  suffices hh9 : ∀ (H : Heap) (locs : List Loc), va_P E.1 vwCl (w_X5_begin E a_ a_row a_partners a_share a_leftOver a_o1 a_o1_tape a_o1_rules a_o1_places a_o1_steps c_askedCount c_outcome c_row c_o1_siteCount c_o1_stepCount c_o1_seenRules c_o1_at c_o1_wordStart c_o1_number c_o1_failed c_o1_rules c_o1_places) H → va_D A (w_X5_begin E a_ a_row a_partners a_share a_leftOver a_o1 a_o1_tape a_o1_rules a_o1_places a_o1_steps c_askedCount c_outcome c_row c_o1_siteCount c_o1_stepCount c_o1_seenRules c_o1_at c_o1_wordStart c_o1_number c_o1_failed c_o1_rules c_o1_places) → va_S A s.heap H locs → W p l e ({ frames := 2, cells := 0, slots := 0, locals := 52 } : Room) s m #[Value.ref a_, Value.ref a_o1] below meth c H locs 0 0 Q (F0 m 0 ls []) from hh9 s.heap [] hP hD hS
  clear hP hD hS
  intro H locs hP hD hS
  have h9 := fixPD (ws' := [k_X5 a_ a_row a_partners c_askedCount c_outcome a_share a_leftOver, k_I E a_row 81 c_row, k_X3 a_o1 a_o1_tape a_o1_rules a_o1_places a_o1_steps c_o1_siteCount c_o1_stepCount c_o1_seenRules c_o1_at c_o1_wordStart c_o1_number c_o1_failed, k_I E a_o1_rules 3 c_o1_rules, k_I E a_o1_places 16 c_o1_places]) hP hD rfl
  clear hP hD
  obtain ⟨hP, hD⟩ := h9
  unfold F_X5_begin at hF
  refine lv_iconst (v := 0) hx hb (dq_3 0 bcX5_begin_0 (j := 0) rfl rfl) (by decide) ?_
  refine lv_istore_n (lv' := [(2, .int (0 : Int32)), (0, .ref a_), (1, .ref a_o1)]) hx hb (dq_61 0 bcX5_begin_0 (j := 1) rfl rfl) rfl hl (by decide) rfl (fun ls hl => ?_)
  replace hF := bd1_s hF
  obtain ⟨c_row_4, hL_5, hF⟩ := hF
  refine lw_X5_begin_2 l E K (c_askedCount := c_askedCount) (c_outcome := c_outcome) (c_o1_siteCount := c_o1_siteCount) (c_o1_stepCount := c_o1_stepCount) (c_o1_seenRules := c_o1_seenRules) (c_o1_at := c_o1_at) (c_o1_wordStart := c_o1_wordStart) (c_o1_number := c_o1_number) (c_o1_failed := c_o1_failed) (c_o1_rules := c_o1_rules) (c_o1_places := c_o1_places) hx hb hml hown hts hK hN hA K (0 : Int32) c_row c_row_4 hL_5 ?_ H locs ls (hP.sub [0, 1, 2, 3, 4] rfl) (hD.sub [0, 1, 2, 3, 4] (by decide) rfl) hS (lv_sub hl [1, 2, 0] rfl)
  ·
    intro H locs ls hP hD hS hl
    have h9 := fixPD (ws' := [k_X5 a_ a_row a_partners c_askedCount c_outcome a_share a_leftOver, k_I E a_row 81 c_row_4, k_X3 a_o1 a_o1_tape a_o1_rules a_o1_places a_o1_steps c_o1_siteCount c_o1_stepCount c_o1_seenRules c_o1_at c_o1_wordStart c_o1_number c_o1_failed, k_I E a_o1_rules 3 c_o1_rules, k_I E a_o1_places 16 c_o1_places]) hP hD rfl
    clear hP hD
    obtain ⟨hP, hD⟩ := h9
    refine lv_aload_n hx hb (dq_42 0 bcX5_begin_0 (j := 21) rfl rfl) rfl (lv_at hl 0 rfl) ?_
    refine gt_X5_0 (v := .ref a_row) hx hb hts i_f_X5_begin_X5 hown hK hP 0 rfl (hts (.fieldLink RX5 11 "HushWatch$State" "row" "[I") (List.mem_of_getElem? (i := 1) rfl)) rfl (dq_180 0 bcX5_begin_0 (j := 22) (i := 11) rfl rfl rfl) ?_
    refine lv_iconst (v := 0) hx hb (dq_3 0 bcX5_begin_0 (j := 25) rfl rfl) (by decide) ?_
    refine lv_aload_n hx hb (dq_43 0 bcX5_begin_0 (j := 26) rfl rfl) rfl (lv_at hl 1 rfl) ?_
    refine va_getN (D := E.1) (ci := 4) (v := .ref a_o1_rules) (C := RX3) (T := TX3) (N := 11) hx hb hts i_f_X5_begin_X3 hown hK hP 2 rfl rfl 1 (by decide) (nx hN 3 rfl) (fun _ h9 => h9) rfl (dq_180 0 bcX5_begin_0 (j := 27) (i := 31) rfl rfl rfl) ?_
    refine lv_iconst (v := 0) hx hb (dq_3 0 bcX5_begin_0 (j := 30) rfl rfl) (by decide) ?_
    refine va_iald hx hb hK hP 3 0 rfl rfl (vin rfl) (dq_46 0 bcX5_begin_0 (j := 31) rfl rfl) ?_
    refine W.eq (g2 := F0 m 32 ls [.int (c_o1_rules 0), .int (0 : Int32), .ref a_row]) rfl ?_
    refine va_iast hx hb hK hP hD hS 1 0 rfl rfl (vin rfl) (dq_79 0 bcX5_begin_0 (j := 32) rfl rfl) (fun H locs hP hD hS => ?_)
    have h9 := fixPD (ws' := [k_X5 a_ a_row a_partners c_askedCount c_outcome a_share a_leftOver, k_I E a_row 81 (upd c_row_4 0 (c_o1_rules 0)), k_X3 a_o1 a_o1_tape a_o1_rules a_o1_places a_o1_steps c_o1_siteCount c_o1_stepCount c_o1_seenRules c_o1_at c_o1_wordStart c_o1_number c_o1_failed, k_I E a_o1_rules 3 c_o1_rules, k_I E a_o1_places 16 c_o1_places]) hP hD rfl
    clear hP hD
    obtain ⟨hP, hD⟩ := h9
    replace hF := nm_s hF
    obtain ⟨f_6, hf_6, hF⟩ := hF
    rw [← hf_6] at hP hD
    refine lv_aload_n hx hb (dq_42 0 bcX5_begin_0 (j := 33) rfl rfl) rfl (lv_at hl 0 rfl) ?_
    refine gt_X5_0 (v := .ref a_row) hx hb hts i_f_X5_begin_X5 hown hK hP 0 rfl (hts (.fieldLink RX5 11 "HushWatch$State" "row" "[I") (List.mem_of_getElem? (i := 1) rfl)) rfl (dq_180 0 bcX5_begin_0 (j := 34) (i := 11) rfl rfl rfl) ?_
    refine lv_iconst (v := 1) hx hb (dq_4 0 bcX5_begin_0 (j := 37) rfl rfl) (by decide) ?_
    refine lv_aload_n hx hb (dq_43 0 bcX5_begin_0 (j := 38) rfl rfl) rfl (lv_at hl 1 rfl) ?_
    refine va_getN (D := E.1) (ci := 4) (v := .ref a_o1_rules) (C := RX3) (T := TX3) (N := 11) hx hb hts i_f_X5_begin_X3 hown hK hP 2 rfl rfl 1 (by decide) (nx hN 3 rfl) (fun _ h9 => h9) rfl (dq_180 0 bcX5_begin_0 (j := 39) (i := 31) rfl rfl rfl) ?_
    refine lv_iconst (v := 1) hx hb (dq_4 0 bcX5_begin_0 (j := 42) rfl rfl) (by decide) ?_
    refine va_iald hx hb hK hP 3 0 rfl rfl (vin rfl) (dq_46 0 bcX5_begin_0 (j := 43) rfl rfl) ?_
    refine W.eq (g2 := F0 m 44 ls [.int (c_o1_rules 1), .int (1 : Int32), .ref a_row]) rfl ?_
    refine va_iast hx hb hK hP hD hS 1 0 rfl rfl (vin rfl) (dq_79 0 bcX5_begin_0 (j := 44) rfl rfl) (fun H locs hP hD hS => ?_)
    have h9 := fixPD (ws' := [k_X5 a_ a_row a_partners c_askedCount c_outcome a_share a_leftOver, k_I E a_row 81 (upd f_6 1 (c_o1_rules 1)), k_X3 a_o1 a_o1_tape a_o1_rules a_o1_places a_o1_steps c_o1_siteCount c_o1_stepCount c_o1_seenRules c_o1_at c_o1_wordStart c_o1_number c_o1_failed, k_I E a_o1_rules 3 c_o1_rules, k_I E a_o1_places 16 c_o1_places]) hP hD rfl
    clear hP hD
    obtain ⟨hP, hD⟩ := h9
    replace hF := nm_s hF
    obtain ⟨f_7, hf_7, hF⟩ := hF
    rw [← hf_7] at hP hD
    refine lv_aload_n hx hb (dq_42 0 bcX5_begin_0 (j := 45) rfl rfl) rfl (lv_at hl 0 rfl) ?_
    refine gt_X5_0 (v := .ref a_row) hx hb hts i_f_X5_begin_X5 hown hK hP 0 rfl (hts (.fieldLink RX5 11 "HushWatch$State" "row" "[I") (List.mem_of_getElem? (i := 1) rfl)) rfl (dq_180 0 bcX5_begin_0 (j := 46) (i := 11) rfl rfl rfl) ?_
    refine lv_iconst (v := 2) hx hb (dq_5 48 bcX5_begin_1 (j := 1) rfl rfl) (by decide) ?_
    refine lv_aload_n hx hb (dq_43 48 bcX5_begin_1 (j := 2) rfl rfl) rfl (lv_at hl 1 rfl) ?_
    refine va_getN (D := E.1) (ci := 4) (v := .ref a_o1_rules) (C := RX3) (T := TX3) (N := 11) hx hb hts i_f_X5_begin_X3 hown hK hP 2 rfl rfl 1 (by decide) (nx hN 3 rfl) (fun _ h9 => h9) rfl (dq_180 48 bcX5_begin_1 (j := 3) (i := 31) rfl rfl rfl) ?_
    refine lv_iconst (v := 2) hx hb (dq_5 48 bcX5_begin_1 (j := 6) rfl rfl) (by decide) ?_
    refine va_iald hx hb hK hP 3 0 rfl rfl (vin rfl) (dq_46 48 bcX5_begin_1 (j := 7) rfl rfl) ?_
    refine W.eq (g2 := F0 m 56 ls [.int (c_o1_rules 2), .int (2 : Int32), .ref a_row]) rfl ?_
    refine va_iast hx hb hK hP hD hS 1 0 rfl rfl (vin rfl) (dq_79 48 bcX5_begin_1 (j := 8) rfl rfl) (fun H locs hP hD hS => ?_)
    have h9 := fixPD (ws' := [k_X5 a_ a_row a_partners c_askedCount c_outcome a_share a_leftOver, k_I E a_row 81 (upd f_7 2 (c_o1_rules 2)), k_X3 a_o1 a_o1_tape a_o1_rules a_o1_places a_o1_steps c_o1_siteCount c_o1_stepCount c_o1_seenRules c_o1_at c_o1_wordStart c_o1_number c_o1_failed, k_I E a_o1_rules 3 c_o1_rules, k_I E a_o1_places 16 c_o1_places]) hP hD rfl
    clear hP hD
    obtain ⟨hP, hD⟩ := h9
    replace hF := nm_s hF
    obtain ⟨f_8, hf_8, hF⟩ := hF
    rw [← hf_8] at hP hD
    refine lv_aload_n hx hb (dq_42 48 bcX5_begin_1 (j := 9) rfl rfl) rfl (lv_at hl 0 rfl) ?_
    refine gt_X5_0 (v := .ref a_row) hx hb hts i_f_X5_begin_X5 hown hK hP 0 rfl (hts (.fieldLink RX5 11 "HushWatch$State" "row" "[I") (List.mem_of_getElem? (i := 1) rfl)) rfl (dq_180 48 bcX5_begin_1 (j := 10) (i := 11) rfl rfl rfl) ?_
    refine lv_iconst (v := 3) hx hb (dq_6 48 bcX5_begin_1 (j := 13) rfl rfl) (by decide) ?_
    refine lv_aload_n hx hb (dq_43 48 bcX5_begin_1 (j := 14) rfl rfl) rfl (lv_at hl 1 rfl) ?_
    refine va_getN (D := E.1) (ci := 4) (v := .int c_o1_siteCount) (C := RX3) (T := TX3) (N := 11) hx hb hts i_f_X5_begin_X3 hown hK hP 2 rfl rfl 4 (by decide) (nx hN 6 rfl) (fun _ h9 => h9) rfl (dq_180 48 bcX5_begin_1 (j := 15) (i := 36) rfl rfl rfl) ?_
    refine lv_bipush (v := 8) hx hb (dq_16 48 bcX5_begin_1 (j := 18) (i := 8) rfl rfl rfl) (by decide) ?_
    refine va_mmin hx hb (hml.trans hl.1.symm) hown (hts (.methodLink RX5 39 Lib.Math.min.name) (List.mem_of_getElem? (i := 2) rfl)) (hts (.static Lib.Math.min.name) (List.mem_of_getElem? (i := 3) rfl)) (hts (.initialized "java/lang/Math") (List.mem_of_getElem? (i := 4) rfl)) (hts (.code Lib.Math.min.name Lib.Math.min.code 2 (some .int)) (List.mem_of_getElem? (i := 5) rfl)) (Nat.le_of_ble_eq_true rfl) (Nat.le_of_ble_eq_true rfl) (Nat.le_of_ble_eq_true rfl) (Nat.le_of_ble_eq_true rfl) (dq_184 48 bcX5_begin_1 (j := 20) (i := 39) rfl rfl rfl) ?_
    refine W.eq (g2 := F0 m 71 ls [.int (minF c_o1_siteCount (8 : Int32)), .int (3 : Int32), .ref a_row]) rfl ?_
    refine va_iast hx hb hK hP hD hS 1 0 rfl rfl (vin rfl) (dq_79 48 bcX5_begin_1 (j := 23) rfl rfl) (fun H locs hP hD hS => ?_)
    have h9 := fixPD (ws' := [k_X5 a_ a_row a_partners c_askedCount c_outcome a_share a_leftOver, k_I E a_row 81 (upd f_8 3 (minF c_o1_siteCount (8 : Int32))), k_X3 a_o1 a_o1_tape a_o1_rules a_o1_places a_o1_steps c_o1_siteCount c_o1_stepCount c_o1_seenRules c_o1_at c_o1_wordStart c_o1_number c_o1_failed, k_I E a_o1_rules 3 c_o1_rules, k_I E a_o1_places 16 c_o1_places]) hP hD rfl
    clear hP hD
    obtain ⟨hP, hD⟩ := h9
    replace hF := nm_s hF
    obtain ⟨f_9, hf_9, hF⟩ := hF
    rw [← hf_9] at hP hD
    refine lv_iconst (v := 0) hx hb (dq_3 48 bcX5_begin_1 (j := 24) rfl rfl) (by decide) ?_
    refine lv_istore_n (lv' := [(2, .int (0 : Int32)), (0, .ref a_), (1, .ref a_o1)]) hx hb (dq_61 48 bcX5_begin_1 (j := 25) rfl rfl) rfl hl (by decide) rfl (fun ls hl => ?_)
    replace hF := bd1_s hF
    obtain ⟨c_row_19, hL_20, hF⟩ := hF
    refine lw_X5_begin_74 l E K (c_askedCount := c_askedCount) (c_outcome := c_outcome) (c_o1_siteCount := c_o1_siteCount) (c_o1_stepCount := c_o1_stepCount) (c_o1_seenRules := c_o1_seenRules) (c_o1_at := c_o1_at) (c_o1_wordStart := c_o1_wordStart) (c_o1_number := c_o1_number) (c_o1_failed := c_o1_failed) (c_o1_rules := c_o1_rules) (c_o1_places := c_o1_places) hx hb hml hown hts hK hN hA K (0 : Int32) f_9 c_row_19 hL_20 ?_ H locs ls (hP.sub [0, 1, 2, 3, 4] rfl) (hD.sub [0, 1, 2, 3, 4] (by decide) rfl) hS (lv_sub hl [1, 2, 0] rfl)
    ·
      intro H locs ls hP hD hS hl
      have h9 := fixPD (ws' := [k_X5 a_ a_row a_partners c_askedCount c_outcome a_share a_leftOver, k_I E a_row 81 c_row_19, k_X3 a_o1 a_o1_tape a_o1_rules a_o1_places a_o1_steps c_o1_siteCount c_o1_stepCount c_o1_seenRules c_o1_at c_o1_wordStart c_o1_number c_o1_failed, k_I E a_o1_rules 3 c_o1_rules, k_I E a_o1_places 16 c_o1_places]) hP hD rfl
      clear hP hD
      obtain ⟨hP, hD⟩ := h9
      refine lv_aload_n hx hb (dq_42 96 bcX5_begin_2 (j := 22) rfl rfl) rfl (lv_at hl 0 rfl) ?_
      replace hF := bd1_s hF
      obtain ⟨w_21, hc_22, hF⟩ := hF
      obtain ⟨hPc, hDc, hFc⟩ := wcut (wc := (w_X5_hearPlaces E a_ a_row a_partners a_share a_leftOver c_askedCount c_outcome c_row_19)) hP hD hS hA [0, 1] (by decide) rfl
      have hrc := va_recv hK hPc (ci := 6) (q0 := 0) rfl rfl
      refine cE_v (wc := (w_X5_hearPlaces E a_ a_row a_partners a_share a_leftOver c_askedCount c_outcome c_row_19)) (wr := [k_X3 a_o1 a_o1_tape a_o1_rules a_o1_places a_o1_steps c_o1_siteCount c_o1_stepCount c_o1_seenRules c_o1_at c_o1_wordStart c_o1_number c_o1_failed, k_I E a_o1_rules 3 c_o1_rules, k_I E a_o1_places 16 c_o1_places]) (w1 := (w_X5_hearPlaces E a_ a_row a_partners a_share a_leftOver c_askedCount c_outcome w_21)) (va_runV (As := []) (rest := [])  ⟨hx, hb, hml, hown, hts⟩ (f_X5_hearPlaces l E H.size K (a_ := a_) (a_row := a_row) (a_partners := a_partners) (a_share := a_share) (a_leftOver := a_leftOver) (c_askedCount := c_askedCount) (c_outcome := c_outcome) (c_row := c_row_19) hc_22) (cwV 0 hts g_f_X5_begin_f_X5_hearPlaces_56 rfl rfl rfl hd_X5_hearPlaces ⟨Nat.le_of_ble_eq_true rfl, Nat.le_of_ble_eq_true rfl⟩) ⟨pW.blind, hrc, (pW.pre ⟨hK, hN⟩ hPc hDc)⟩ rfl rfl hl.1 rfl (lv_room (Nat.le_of_ble_eq_true rfl)) (dq_182 96 bcX5_begin_2 (j := 23) (i := 56) rfl rfl rfl) ⟨Nat.le_of_ble_eq_true rfl, Nat.le_of_ble_eq_true rfl⟩) hS hFc hP hD [0, 1] [2, 3, 4] rfl rfl (by decide) (by decide) (fun H locs hP hD hS => ?_)
      have h9 := fixPD (ws' := [k_X3 a_o1 a_o1_tape a_o1_rules a_o1_places a_o1_steps c_o1_siteCount c_o1_stepCount c_o1_seenRules c_o1_at c_o1_wordStart c_o1_number c_o1_failed, k_I E a_o1_rules 3 c_o1_rules, k_I E a_o1_places 16 c_o1_places, k_X5 a_ a_row a_partners c_askedCount c_outcome a_share a_leftOver, k_I E a_row 81 w_21]) hP hD rfl
      clear hP hD
      obtain ⟨hP, hD⟩ := h9
      refine lv_aload_n hx hb (dq_42 96 bcX5_begin_2 (j := 26) rfl rfl) rfl (lv_at hl 0 rfl) ?_
      refine gt_X5_0 (v := .ref a_row) hx hb hts i_f_X5_begin_X5 hown hK hP 3 rfl (hts (.fieldLink RX5 11 "HushWatch$State" "row" "[I") (List.mem_of_getElem? (i := 1) rfl)) rfl (dq_180 96 bcX5_begin_2 (j := 27) (i := 11) rfl rfl rfl) ?_
      refine lv_bipush (v := 6) hx hb (dq_16 96 bcX5_begin_2 (j := 30) (i := 6) rfl rfl rfl) (by decide) ?_
      refine lv_aload_n hx hb (dq_42 96 bcX5_begin_2 (j := 32) rfl rfl) rfl (lv_at hl 0 rfl) ?_
      refine lv_aload_n hx hb (dq_42 96 bcX5_begin_2 (j := 33) rfl rfl) rfl (lv_at hl 0 rfl) ?_
      refine gt_X5_0 (v := .ref a_row) hx hb hts i_f_X5_begin_X5 hown hK hP 3 rfl (hts (.fieldLink RX5 11 "HushWatch$State" "row" "[I") (List.mem_of_getElem? (i := 1) rfl)) rfl (dq_180 96 bcX5_begin_2 (j := 34) (i := 11) rfl rfl rfl) ?_
      refine lv_iconst (v := 4) hx hb (dq_7 96 bcX5_begin_2 (j := 37) rfl rfl) (by decide) ?_
      refine va_iald hx hb hK hP 4 0 rfl rfl (vin rfl) (dq_46 96 bcX5_begin_2 (j := 38) rfl rfl) ?_
      refine W.eq (g2 := F0 m 135 ls [.int (w_21 4), .ref a_, .int (6 : Int32), .ref a_row]) rfl ?_
      refine lv_i2l (v := (w_21 4).toInt64) hx hb (dq_133 96 bcX5_begin_2 (j := 39) rfl rfl) rfl ?_
      refine lv_aload_n hx hb (dq_42 96 bcX5_begin_2 (j := 40) rfl rfl) rfl (lv_at hl 0 rfl) ?_
      refine gt_X5_0 (v := .ref a_row) hx hb hts i_f_X5_begin_X5 hown hK hP 3 rfl (hts (.fieldLink RX5 11 "HushWatch$State" "row" "[I") (List.mem_of_getElem? (i := 1) rfl)) rfl (dq_180 96 bcX5_begin_2 (j := 41) (i := 11) rfl rfl rfl) ?_
      refine lv_iconst (v := 5) hx hb (dq_8 96 bcX5_begin_2 (j := 44) rfl rfl) (by decide) ?_
      refine va_iald hx hb hK hP 4 0 rfl rfl (vin rfl) (dq_46 96 bcX5_begin_2 (j := 45) rfl rfl) ?_
      refine W.eq (g2 := F0 m 142 ls [.int (w_21 5), .long ((w_21 4).toInt64), .ref a_, .int (6 : Int32), .ref a_row]) rfl ?_
      refine lv_i2l (v := (w_21 5).toInt64) hx hb (dq_133 96 bcX5_begin_2 (j := 46) rfl rfl) rfl ?_
      replace hF := bd1_s hF
      obtain ⟨r_23, hc_24, hF⟩ := hF
      have hPc : va_P E.1 vwCl (w_X5_allows E a_ a_row a_partners a_share a_leftOver c_askedCount c_outcome w_21) H := hP.sub (ws' := [k_X5 a_ a_row a_partners c_askedCount c_outcome a_share a_leftOver, k_I E a_row 81 w_21]) [3, 4] rfl
      have hrc := va_recv hK hPc (ci := 6) (q0 := 0) rfl rfl
      refine pE_z (va_runV (As := [.long ((w_21 4).toInt64), .long ((w_21 5).toInt64)]) (rest := [.int (6 : Int32), .ref a_row])  ⟨hx, hb, hml, hown, hts⟩ (f_X5_allows l E (a_ := a_) (a_row := a_row) (a_partners := a_partners) (a_share := a_share) (a_leftOver := a_leftOver) (p1 := (w_21 4).toInt64) (p2 := (w_21 5).toInt64) (c_askedCount := c_askedCount) (c_outcome := c_outcome) (c_row := w_21) hc_24) (cwV 2 hts g_f_X5_begin_f_X5_allows_59 rfl rfl rfl hd_X5_allows ⟨Nat.le_of_ble_eq_true rfl, Nat.le_of_ble_eq_true rfl⟩) ⟨pP.blind, hrc, (pP.pre ⟨hK, hN⟩ hPc)⟩ rfl rfl hl.1 rfl (lv_room (Nat.le_of_ble_eq_true rfl)) (dq_182 96 bcX5_begin_2 (j := 47) (i := 59) rfl rfl rfl) ⟨Nat.le_of_ble_eq_true rfl, Nat.le_of_ble_eq_true rfl⟩) (fun hb_25 => ?_)
      refine lv_if_eq (tgt := 153) hx hb (dq_153 144 bcX5_begin_3 (j := 2) (i := 7) rfl rfl rfl) (by decide) (fun c_26 => ?_) (fun c_26 => ?_)
      ·
        replace hF := ip c_26 hF
        refine lv_iconst (v := 1) hx hb (dq_4 144 bcX5_begin_3 (j := 9) rfl rfl) (by decide) ?_
        refine va_iast hx hb hK hP hD hS 4 0 rfl rfl (vin rfl) (dq_79 144 bcX5_begin_3 (j := 10) rfl rfl) (fun H locs hP hD hS => ?_)
        have h9 := fixPD (ws' := [k_X3 a_o1 a_o1_tape a_o1_rules a_o1_places a_o1_steps c_o1_siteCount c_o1_stepCount c_o1_seenRules c_o1_at c_o1_wordStart c_o1_number c_o1_failed, k_I E a_o1_rules 3 c_o1_rules, k_I E a_o1_places 16 c_o1_places, k_X5 a_ a_row a_partners c_askedCount c_outcome a_share a_leftOver, k_I E a_row 81 (upd w_21 6 (1 : Int32))]) hP hD rfl
        clear hP hD
        obtain ⟨hP, hD⟩ := h9
        replace hF := nm_s hF
        obtain ⟨f_27, hf_27, hF⟩ := hF
        rw [← hf_27] at hP hD
        rw [hQ]
        have h9 := fin9 (P := fun u9 : (Nat → Int32) => va_P E.1 vwCl (w_X5_begin E a_ a_row a_partners a_share a_leftOver a_o1 a_o1_tape a_o1_rules a_o1_places a_o1_steps c_askedCount c_outcome u9 c_o1_siteCount c_o1_stepCount c_o1_seenRules c_o1_at c_o1_wordStart c_o1_number c_o1_failed c_o1_rules c_o1_places) H ∧ va_D A (w_X5_begin E a_ a_row a_partners a_share a_leftOver a_o1 a_o1_tape a_o1_rules a_o1_places a_o1_steps c_askedCount c_outcome u9 c_o1_siteCount c_o1_stepCount c_o1_seenRules c_o1_at c_o1_wordStart c_o1_number c_o1_failed c_o1_rules c_o1_places)) hF ⟨hP.sub [3, 4, 0, 1, 2] rfl, hD.sub [3, 4, 0, 1, 2] (by decide) rfl⟩
        obtain ⟨hP9, hD9⟩ := h9
        exact W.vret hx hb hr (fun tt ht hW => ⟨⟨(), rfl, trivial, ht ▸ hP9, hD9⟩, hS.F ht⟩) hS.2.2 (dq_177 144 bcX5_begin_3 (j := 11) rfl rfl)
      ·
        replace hF := inn c_26 hF
        refine lv_iconst (v := 0) hx hb (dq_3 144 bcX5_begin_3 (j := 5) rfl rfl) (by decide) ?_
        refine lv_goto (tgt := 154) hx hb (dq_167 144 bcX5_begin_3 (j := 6) (i := 4) rfl rfl rfl) (by decide) ?_
        refine va_iast hx hb hK hP hD hS 4 0 rfl rfl (vin rfl) (dq_79 144 bcX5_begin_3 (j := 10) rfl rfl) (fun H locs hP hD hS => ?_)
        have h9 := fixPD (ws' := [k_X3 a_o1 a_o1_tape a_o1_rules a_o1_places a_o1_steps c_o1_siteCount c_o1_stepCount c_o1_seenRules c_o1_at c_o1_wordStart c_o1_number c_o1_failed, k_I E a_o1_rules 3 c_o1_rules, k_I E a_o1_places 16 c_o1_places, k_X5 a_ a_row a_partners c_askedCount c_outcome a_share a_leftOver, k_I E a_row 81 (upd w_21 6 (0 : Int32))]) hP hD rfl
        clear hP hD
        obtain ⟨hP, hD⟩ := h9
        replace hF := nm_s hF
        obtain ⟨f_28, hf_28, hF⟩ := hF
        rw [← hf_28] at hP hD
        rw [hQ]
        have h9 := fin9 (P := fun u9 : (Nat → Int32) => va_P E.1 vwCl (w_X5_begin E a_ a_row a_partners a_share a_leftOver a_o1 a_o1_tape a_o1_rules a_o1_places a_o1_steps c_askedCount c_outcome u9 c_o1_siteCount c_o1_stepCount c_o1_seenRules c_o1_at c_o1_wordStart c_o1_number c_o1_failed c_o1_rules c_o1_places) H ∧ va_D A (w_X5_begin E a_ a_row a_partners a_share a_leftOver a_o1 a_o1_tape a_o1_rules a_o1_places a_o1_steps c_askedCount c_outcome u9 c_o1_siteCount c_o1_stepCount c_o1_seenRules c_o1_at c_o1_wordStart c_o1_number c_o1_failed c_o1_rules c_o1_places)) hF ⟨hP.sub [3, 4, 0, 1, 2] rfl, hD.sub [3, 4, 0, 1, 2] (by decide) rfl⟩
        obtain ⟨hP9, hD9⟩ := h9
        exact W.vret hx hb hr (fun tt ht hW => ⟨⟨(), rfl, trivial, ht ▸ hP9, hD9⟩, hS.F ht⟩) hS.2.2 (dq_177 144 bcX5_begin_3 (j := 11) rfl rfl)

def B_X5_measureShares_23 (p1 : Int32) (c_row : Nat → Int32) (x3 : Int32) (x4 : Int32) (x5 : Int32) : Option ((Int32 × Int32) ⊕ (Int32)) :=
  bd1 (F_X5_sites c_row) (fun r_5 => if r_5 ≤ x5 then some (.inr x4) else if (p1 >>> (x5 &&& (31 : Int32))) &&& (1 : Int32) = (0 : Int32) then some (.inl (x4 + (0 : Int32), x5 + (1 : Int32))) else bd1 (F_X5_drift x5 x3 c_row) (fun r_9 => some (.inl (x4 + r_9, x5 + (1 : Int32)))))
def B_X5_measureShares_12 (K : Nat) (p1 : Int32) (c_row : Nat → Int32) (x2 : Int32) (x3 : Int32) (c_share : Nat → Int32) (c_leftOver : Nat → Int32) : Option ((Int32 × (Nat → Int32) × (Nat → Int32)) ⊕ ((Nat → Int32) × (Nat → Int32))) :=
  if (2 : Int32) ≤ x3 then some (.inr (c_share, c_leftOver)) else bd1 (lpF (fun u9 : Int32 × Int32 => B_X5_measureShares_23 p1 c_row x3 u9.1 u9.2) K ((0 : Int32), (0 : Int32))) (fun x4_11 => bd1 (F_J9_floorDiv_7cf53 x4_11 x2) (fun r_13 => ixF x3 2 (nmF (upd c_share x3.toNatClampNeg r_13) (fun f_16 => bd1 (F_J9_floorMod_7cf53 x4_11 x2) (fun r_17 => ixF x3 2 (nmF (upd c_leftOver x3.toNatClampNeg r_17) (fun f_20 => some (.inl (x3 + (1 : Int32), f_16, f_20)))))))))
def F_X5_measureShares (K : Nat) (p1 : Int32) (c_row : Nat → Int32) (c_share : Nat → Int32) (c_leftOver : Nat → Int32) : Option ((Nat → Int32) × (Nat → Int32)) :=
  bd1 (F_J6_bitCount_0f7a4 p1) (fun r_1 => if r_1 = (0 : Int32) then some (c_share, c_leftOver) else bd2 (lpF (fun u9 : Int32 × (Nat → Int32) × (Nat → Int32) => B_X5_measureShares_12 K p1 c_row r_1 u9.1 u9.2.1 u9.2.2) K ((0 : Int32), c_share, c_leftOver)) (fun c_share_21 c_leftOver_22 => some (c_share_21, c_leftOver_22)))
abbrev w_X5_measureShares (E : EE) (a_ a_row a_partners a_share a_leftOver : Nat) (c_askedCount : Int32) (c_outcome : Int32) (c_row : Nat → Int32) (c_share : Nat → Int32) (c_leftOver : Nat → Int32) : va_W := [k_X5 a_ a_row a_partners c_askedCount c_outcome a_share a_leftOver, k_I E a_row 81 c_row, k_I E a_share 2 c_share, k_I E a_leftOver 2 c_leftOver]
def v_f_X5_measureShares : List Cond := List.cons (.code yX5_measureShares cX5_measureShares 6 none) (HAppend.hAppend (α := List Cond) (β := List Cond) (γ := List Cond) [.fieldLink RX5 25 "HushWatch$State" "share" "[I", .fieldLink RX5 28 "HushWatch$State" "leftOver" "[I", .methodLink RX5 171 yJ6_bitCount_0f7a4, .static yJ6_bitCount_0f7a4, .initialized RJ6, .methodLink RX5 45 yX5_sites, .instanceMethod yX5_sites, .selects RX5 yX5_sites yX5_sites, .initialized RX5, .methodLink RX5 72 yX5_drift, .instanceMethod yX5_drift, .selects RX5 yX5_drift yX5_drift, .methodLink RX5 176 yJ9_floorDiv_7cf53, .static yJ9_floorDiv_7cf53, .initialized RJ9, .methodLink RX5 179 yJ9_floorMod_7cf53, .static yJ9_floorMod_7cf53] (HAppend.hAppend (α := List Cond) (β := List Cond) (γ := List Cond) v_f_J6_bitCount_0f7a4 (HAppend.hAppend (α := List Cond) (β := List Cond) (γ := List Cond) v_f_X5_sites (HAppend.hAppend (α := List Cond) (β := List Cond) (γ := List Cond) v_f_X5_drift (HAppend.hAppend (α := List Cond) (β := List Cond) (γ := List Cond) wsX50 (HAppend.hAppend (α := List Cond) (β := List Cond) (γ := List Cond) v_f_J9_floorDiv_7cf53 (HAppend.hAppend (α := List Cond) (β := List Cond) (γ := List Cond) v_f_J9_floorMod_7cf53 [])))))))
theorem gw_f_X5_measureShares : v_f_X5_measureShares.all goodWord = true := gw_c2 (by decide +kernel) (gw_ap gw_f_J6_bitCount_0f7a4 (gw_ap gw_f_X5_sites (gw_ap gw_f_X5_drift (gw_ap gw_wsX50 (gw_ap gw_f_J9_floorDiv_7cf53 (gw_ap gw_f_J9_floorMod_7cf53 gw_nil))))))
theorem i_f_X5_measureShares_X5 : ∀ w ∈ wsX50, w ∈ v_f_X5_measureShares := fun _ h => List.mem_cons_of_mem _ (List.mem_append_right _ (List.mem_append_right _ (List.mem_append_right _ (List.mem_append_right _ (List.mem_append_left _ h)))))
theorem g_f_X5_measureShares_f_J6_bitCount_0f7a4_171 : GoodIn v_f_X5_measureShares (va_wsS RX5 171 yJ6_bitCount_0f7a4 v_f_J6_bitCount_0f7a4) := goodIn_in gw_f_X5_measureShares (in3 3 4 5 rfl rfl rfl (fun _ h => List.mem_cons_of_mem _ (List.mem_append_right _ (List.mem_append_left _ h))))
theorem g_f_X5_measureShares_f_X5_sites_45 : GoodIn v_f_X5_measureShares (wsV RX5 45 RX5 yX5_sites v_f_X5_sites) := goodIn_in gw_f_X5_measureShares (in4 6 7 8 9 rfl rfl rfl rfl (fun _ h => List.mem_cons_of_mem _ (List.mem_append_right _ (List.mem_append_right _ (List.mem_append_left _ h)))))
theorem g_f_X5_measureShares_f_X5_drift_72 : GoodIn v_f_X5_measureShares (wsV RX5 72 RX5 yX5_drift v_f_X5_drift) := goodIn_in gw_f_X5_measureShares (in4 10 11 12 9 rfl rfl rfl rfl (fun _ h => List.mem_cons_of_mem _ (List.mem_append_right _ (List.mem_append_right _ (List.mem_append_right _ (List.mem_append_left _ h))))))
theorem g_f_X5_measureShares_f_J9_floorDiv_7cf53_176 : GoodIn v_f_X5_measureShares (va_wsS RX5 176 yJ9_floorDiv_7cf53 v_f_J9_floorDiv_7cf53) := goodIn_in gw_f_X5_measureShares (in3 13 14 15 rfl rfl rfl (fun _ h => List.mem_cons_of_mem _ (List.mem_append_right _ (List.mem_append_right _ (List.mem_append_right _ (List.mem_append_right _ (List.mem_append_right _ (List.mem_append_left _ h))))))))
theorem g_f_X5_measureShares_f_J9_floorMod_7cf53_179 : GoodIn v_f_X5_measureShares (va_wsS RX5 179 yJ9_floorMod_7cf53 v_f_J9_floorMod_7cf53) := goodIn_in gw_f_X5_measureShares (in3 16 17 15 rfl rfl rfl (fun _ h => List.mem_cons_of_mem _ (List.mem_append_right _ (List.mem_append_right _ (List.mem_append_right _ (List.mem_append_right _ (List.mem_append_right _ (List.mem_append_right _ (List.mem_append_left _ h)))))))))
theorem hd_X5_measureShares : yX5_measureShares.cls = RX5 ∧ yX5_measureShares.cls ≠ "java/lang/invoke/MethodHandle" ∧ yX5_measureShares.cls ≠ "java/lang/invoke/VarHandle" ∧ (parseMethodDescriptor yX5_measureShares.desc).map (fun d => d.parameters.length) = some 1 := by decide +kernel
set_option maxHeartbeats 4000000 in
set_option maxRecDepth 100000 in
theorem wb_X5_measureShares_23 {p : Program} (l : Launch) {e : Env} {s : State} {m : MethodId} {below : List Frame} {meth : Method} {c : Code} {Q : State → Prop} (E : EE) (K : Nat) {a_ a_row a_partners a_share a_leftOver : Nat} {p1 : Int32} {c_askedCount : Int32} {c_outcome : Int32} {c_row : Nat → Int32} {x2 : Int32} {x3 : Int32} {x4 : Int32} {x5 : Int32} {c_share : Nat → Int32} {c_leftOver : Nat → Int32} (hx : p.tables.exec = Jvm.exec) (hb : c.code = cX5_measureShares) (hml : c.maxLocals = 6) (hown : s.vm.findClass RX5 = some m.cls) (hts : ∀ w ∈ v_f_X5_measureShares, w.before #[Value.ref a_, Value.int p1] s = true) (hK : va_K E.1 vwCl (TY E) s) (hN : NX s) {A : Nat → Prop} (hA : ∀ q : Nat, s.heap.size ≤ q → A q) {xx : (Int32 × Int32) ⊕ (Int32)} (hC : ∀ (x4 : Int32), ∀ (x5 : Int32), xx = .inl (x4, x5) → ∀ (H : Heap) (locs : List Loc) (ls : Array Slot), va_P E.1 vwCl (w_X5_measureShares E a_ a_row a_partners a_share a_leftOver c_askedCount c_outcome c_row c_share c_leftOver) H → va_D A (w_X5_measureShares E a_ a_row a_partners a_share a_leftOver c_askedCount c_outcome c_row c_share c_leftOver) → va_S A s.heap H locs → lv_has ls 6 [(0, .ref a_), (1, .int p1), (2, .int x2), (3, .int x3), (4, .int x4), (5, .int x5)] → W p l e ({ frames := 1, cells := 0, slots := 0, locals := 23 } : Room) s m #[Value.ref a_, Value.int p1] below meth c H locs 0 0 Q (F0 m 23 ls [])) (hE : ∀ (x4 : Int32), xx = .inr x4 → ((∀ (H : Heap) (locs : List Loc) (ls : Array Slot), va_P E.1 vwCl (w_X5_measureShares E a_ a_row a_partners a_share a_leftOver c_askedCount c_outcome c_row c_share c_leftOver) H → va_D A (w_X5_measureShares E a_ a_row a_partners a_share a_leftOver c_askedCount c_outcome c_row c_share c_leftOver) → va_S A s.heap H locs → lv_has ls 6 [(0, .ref a_), (1, .int p1), (2, .int x2), (3, .int x3), (4, .int x4)] → W p l e ({ frames := 1, cells := 0, slots := 0, locals := 23 } : Room) s m #[Value.ref a_, Value.int p1] below meth c H locs 0 0 Q (F0 m 63 ls [])))) (hF : B_X5_measureShares_23 p1 c_row x3 x4 x5 = some xx) : ∀ (H : Heap) (locs : List Loc) (ls : Array Slot), va_P E.1 vwCl (w_X5_measureShares E a_ a_row a_partners a_share a_leftOver c_askedCount c_outcome c_row c_share c_leftOver) H → va_D A (w_X5_measureShares E a_ a_row a_partners a_share a_leftOver c_askedCount c_outcome c_row c_share c_leftOver) → va_S A s.heap H locs → lv_has ls 6 [(0, .ref a_), (1, .int p1), (2, .int x2), (3, .int x3), (4, .int x4), (5, .int x5)] → W p l e ({ frames := 1, cells := 0, slots := 0, locals := 23 } : Room) s m #[Value.ref a_, Value.int p1] below meth c H locs 0 0 Q (F0 m 23 ls []) := by
  unfold B_X5_measureShares_23 at hF
  intro H locs ls hP hD hS hl
  have h9 := fixPD (ws' := [k_X5 a_ a_row a_partners c_askedCount c_outcome a_share a_leftOver, k_I E a_row 81 c_row, k_I E a_share 2 c_share, k_I E a_leftOver 2 c_leftOver]) hP hD rfl
  clear hP hD
  obtain ⟨hP, hD⟩ := h9
  refine lv_iload hx hb (dq_21 0 bcX5_measureShares_0 (j := 23) (i := 5) rfl rfl) (lv_at hl 5 rfl) ?_
  refine lv_aload_n hx hb (dq_42 0 bcX5_measureShares_0 (j := 25) rfl rfl) rfl (lv_at hl 0 rfl) ?_
  replace hF := bd1_s hF
  obtain ⟨r_5, hc_6, hF⟩ := hF
  have hPc : va_P E.1 vwCl (w_X5_sites E a_ a_row a_partners a_share a_leftOver c_askedCount c_outcome c_row) H := hP.sub (ws' := [k_X5 a_ a_row a_partners c_askedCount c_outcome a_share a_leftOver, k_I E a_row 81 c_row]) [0, 1] rfl
  have hrc := va_recv hK hPc (ci := 6) (q0 := 0) rfl rfl
  refine pE_i (va_runV (As := []) (rest := [.int x5])  ⟨hx, hb, hml, hown, hts⟩ (f_X5_sites l E (a_ := a_) (a_row := a_row) (a_partners := a_partners) (a_share := a_share) (a_leftOver := a_leftOver) (c_askedCount := c_askedCount) (c_outcome := c_outcome) (c_row := c_row) hc_6) (cwV 0 hts g_f_X5_measureShares_f_X5_sites_45 rfl rfl rfl hd_X5_sites ⟨Nat.le_of_ble_eq_true rfl, Nat.le_of_ble_eq_true rfl⟩) ⟨pP.blind, hrc, (pP.pre ⟨hK, hN⟩ hPc)⟩ rfl rfl hl.1 rfl (lv_room (Nat.le_of_ble_eq_true rfl)) (dq_182 0 bcX5_measureShares_0 (j := 26) (i := 45) rfl rfl rfl) ⟨Nat.le_of_ble_eq_true rfl, Nat.le_of_ble_eq_true rfl⟩) ?_
  refine lv_icmp_ge (tgt := 63) hx hb (dq_162 0 bcX5_measureShares_0 (j := 29) (i := 34) rfl rfl rfl) (by decide) (fun c_7 => ?_) (fun c_7 => ?_)
  ·
    replace hF := ip c_7 hF
    cases hF
    exact hE x4 rfl H locs ls (hP.sub [0, 1, 2, 3] rfl) (hD.sub [0, 1, 2, 3] (by decide) rfl) hS (lv_sub hl [0, 1, 2, 3, 4] rfl)
  ·
    replace hF := inn c_7 hF
    refine lv_iload hx hb (dq_21 0 bcX5_measureShares_0 (j := 32) (i := 4) rfl rfl) (lv_at hl 4 rfl) ?_
    refine lv_iload_n hx hb (dq_27 0 bcX5_measureShares_0 (j := 34) rfl rfl) rfl (lv_at hl 1 rfl) ?_
    refine lv_iload hx hb (dq_21 0 bcX5_measureShares_0 (j := 35) (i := 5) rfl rfl) (lv_at hl 5 rfl) ?_
    refine lv_ishr hx hb (dq_122 0 bcX5_measureShares_0 (j := 37) rfl rfl) ?_
    refine lv_iconst (v := 1) hx hb (dq_4 0 bcX5_measureShares_0 (j := 38) rfl rfl) (by decide) ?_
    refine lv_iand hx hb (dq_126 0 bcX5_measureShares_0 (j := 39) rfl rfl) ?_
    refine lv_if_eq (tgt := 53) hx hb (dq_153 0 bcX5_measureShares_0 (j := 40) (i := 13) rfl rfl rfl) (by decide) (fun c_8 => ?_) (fun c_8 => ?_)
    ·
      replace hF := ip c_8 hF
      refine lv_iconst (v := 0) hx hb (dq_3 48 bcX5_measureShares_1 (j := 5) rfl rfl) (by decide) ?_
      refine lv_iadd hx hb (dq_96 48 bcX5_measureShares_1 (j := 6) rfl rfl) ?_
      refine lv_istore (lv' := [(4, .int (x4 + (0 : Int32))), (0, .ref a_), (1, .int p1), (2, .int x2), (3, .int x3), (5, .int x5)]) hx hb (dq_54 48 bcX5_measureShares_1 (j := 7) (i := 4) rfl rfl) hl (by decide) rfl (fun ls hl => ?_)
      refine lv_iinc (v := x5 + (1 : Int32)) (lv' := [(5, .int (x5 + (1 : Int32))), (4, .int (x4 + (0 : Int32))), (0, .ref a_), (1, .int p1), (2, .int x2), (3, .int x3)]) hx hb (dq_132 48 bcX5_measureShares_1 (j := 9) (i := 1) rfl rfl rfl) hl (k := 5) rfl (rfl) (by decide) rfl (fun ls hl => ?_)
      refine lv_goto (tgt := 23) hx hb (dq_167 48 bcX5_measureShares_1 (j := 12) (i := -37) rfl rfl rfl) (by decide) ?_
      cases hF
      exact hC (x4 + (0 : Int32)) (x5 + (1 : Int32)) rfl H locs ls (hP.sub [0, 1, 2, 3] rfl) (hD.sub [0, 1, 2, 3] (by decide) rfl) hS (lv_sub hl [2, 3, 4, 5, 1, 0] rfl)
    ·
      replace hF := inn c_8 hF
      refine lv_aload_n hx hb (dq_42 0 bcX5_measureShares_0 (j := 43) rfl rfl) rfl (lv_at hl 0 rfl) ?_
      refine lv_iload hx hb (dq_21 0 bcX5_measureShares_0 (j := 44) (i := 5) rfl rfl) (lv_at hl 5 rfl) ?_
      refine lv_iload_n hx hb (dq_29 0 bcX5_measureShares_0 (j := 46) rfl rfl) rfl (lv_at hl 3 rfl) ?_
      replace hF := bd1_s hF
      obtain ⟨r_9, hc_10, hF⟩ := hF
      have hPc : va_P E.1 vwCl (w_X5_drift E a_ a_row a_partners a_share a_leftOver c_askedCount c_outcome c_row) H := hP.sub (ws' := [k_X5 a_ a_row a_partners c_askedCount c_outcome a_share a_leftOver, k_I E a_row 81 c_row]) [0, 1] rfl
      have hrc := va_recv hK hPc (ci := 6) (q0 := 0) rfl rfl
      refine pE_i (va_runV (As := [.int x5, .int x3]) (rest := [.int x4])  ⟨hx, hb, hml, hown, hts⟩ (f_X5_drift l E (a_ := a_) (a_row := a_row) (a_partners := a_partners) (a_share := a_share) (a_leftOver := a_leftOver) (p1 := x5) (p2 := x3) (c_askedCount := c_askedCount) (c_outcome := c_outcome) (c_row := c_row) hc_10) (cwV 2 hts g_f_X5_measureShares_f_X5_drift_72 rfl rfl rfl hd_X5_drift ⟨Nat.le_of_ble_eq_true rfl, Nat.le_of_ble_eq_true rfl⟩) ⟨pP.blind, hrc, (pP.pre ⟨hK, hN⟩ hPc)⟩ rfl rfl hl.1 rfl (lv_room (Nat.le_of_ble_eq_true rfl)) (dq_182 0 bcX5_measureShares_0 (j := 47) (i := 72) rfl rfl rfl) ⟨Nat.le_of_ble_eq_true rfl, Nat.le_of_ble_eq_true rfl⟩) ?_
      refine lv_goto (tgt := 54) hx hb (dq_167 48 bcX5_measureShares_1 (j := 2) (i := 4) rfl rfl rfl) (by decide) ?_
      refine lv_iadd hx hb (dq_96 48 bcX5_measureShares_1 (j := 6) rfl rfl) ?_
      refine lv_istore (lv' := [(4, .int (x4 + r_9)), (0, .ref a_), (1, .int p1), (2, .int x2), (3, .int x3), (5, .int x5)]) hx hb (dq_54 48 bcX5_measureShares_1 (j := 7) (i := 4) rfl rfl) hl (by decide) rfl (fun ls hl => ?_)
      refine lv_iinc (v := x5 + (1 : Int32)) (lv' := [(5, .int (x5 + (1 : Int32))), (4, .int (x4 + r_9)), (0, .ref a_), (1, .int p1), (2, .int x2), (3, .int x3)]) hx hb (dq_132 48 bcX5_measureShares_1 (j := 9) (i := 1) rfl rfl rfl) hl (k := 5) rfl (rfl) (by decide) rfl (fun ls hl => ?_)
      refine lv_goto (tgt := 23) hx hb (dq_167 48 bcX5_measureShares_1 (j := 12) (i := -37) rfl rfl rfl) (by decide) ?_
      cases hF
      exact hC (x4 + r_9) (x5 + (1 : Int32)) rfl H locs ls (hP.sub [0, 1, 2, 3] rfl) (hD.sub [0, 1, 2, 3] (by decide) rfl) hS (lv_sub hl [2, 3, 4, 5, 1, 0] rfl)

set_option maxHeartbeats 4000000 in
set_option maxRecDepth 100000 in
theorem lw_X5_measureShares_23 {p : Program} (l : Launch) {e : Env} {s : State} {m : MethodId} {below : List Frame} {meth : Method} {c : Code} {Q : State → Prop} (E : EE) (K : Nat) {a_ a_row a_partners a_share a_leftOver : Nat} {p1 : Int32} {c_askedCount : Int32} {c_outcome : Int32} {c_row : Nat → Int32} {x2 : Int32} {x3 : Int32} {c_share : Nat → Int32} {c_leftOver : Nat → Int32} (hx : p.tables.exec = Jvm.exec) (hb : c.code = cX5_measureShares) (hml : c.maxLocals = 6) (hown : s.vm.findClass RX5 = some m.cls) (hts : ∀ w ∈ v_f_X5_measureShares, w.before #[Value.ref a_, Value.int p1] s = true) (hK : va_K E.1 vwCl (TY E) s) (hN : NX s) {A : Nat → Prop} (hA : ∀ q : Nat, s.heap.size ≤ q → A q) (j9 : Nat) (x4 : Int32) (x5 : Int32) (x4' : Int32) (hL : lpF (fun u9 : Int32 × Int32 => B_X5_measureShares_23 p1 c_row x3 u9.1 u9.2) j9 (x4, x5) = some x4') (hX : (∀ (H : Heap) (locs : List Loc) (ls : Array Slot), va_P E.1 vwCl (w_X5_measureShares E a_ a_row a_partners a_share a_leftOver c_askedCount c_outcome c_row c_share c_leftOver) H → va_D A (w_X5_measureShares E a_ a_row a_partners a_share a_leftOver c_askedCount c_outcome c_row c_share c_leftOver) → va_S A s.heap H locs → lv_has ls 6 [(0, .ref a_), (1, .int p1), (2, .int x2), (3, .int x3), (4, .int x4')] → W p l e ({ frames := 1, cells := 0, slots := 0, locals := 23 } : Room) s m #[Value.ref a_, Value.int p1] below meth c H locs 0 0 Q (F0 m 63 ls []))) : ∀ (H : Heap) (locs : List Loc) (ls : Array Slot), va_P E.1 vwCl (w_X5_measureShares E a_ a_row a_partners a_share a_leftOver c_askedCount c_outcome c_row c_share c_leftOver) H → va_D A (w_X5_measureShares E a_ a_row a_partners a_share a_leftOver c_askedCount c_outcome c_row c_share c_leftOver) → va_S A s.heap H locs → lv_has ls 6 [(0, .ref a_), (1, .int p1), (2, .int x2), (3, .int x3), (4, .int x4), (5, .int x5)] → W p l e ({ frames := 1, cells := 0, slots := 0, locals := 23 } : Room) s m #[Value.ref a_, Value.int p1] below meth c H locs 0 0 Q (F0 m 23 ls []) := by
  exact lp_rule (P := (fun u9 : Int32 × Int32 => ∀ (H : Heap) (locs : List Loc) (ls : Array Slot), va_P E.1 vwCl (w_X5_measureShares E a_ a_row a_partners a_share a_leftOver c_askedCount c_outcome c_row c_share c_leftOver) H → va_D A (w_X5_measureShares E a_ a_row a_partners a_share a_leftOver c_askedCount c_outcome c_row c_share c_leftOver) → va_S A s.heap H locs → lv_has ls 6 [(0, .ref a_), (1, .int p1), (2, .int x2), (3, .int x3), (4, .int u9.1), (5, .int u9.2)] → W p l e ({ frames := 1, cells := 0, slots := 0, locals := 23 } : Room) s m #[Value.ref a_, Value.int p1] below meth c H locs 0 0 Q (F0 m 23 ls []))) (R := (fun r9 : Int32 => (∀ (H : Heap) (locs : List Loc) (ls : Array Slot), va_P E.1 vwCl (w_X5_measureShares E a_ a_row a_partners a_share a_leftOver c_askedCount c_outcome c_row c_share c_leftOver) H → va_D A (w_X5_measureShares E a_ a_row a_partners a_share a_leftOver c_askedCount c_outcome c_row c_share c_leftOver) → va_S A s.heap H locs → lv_has ls 6 [(0, .ref a_), (1, .int p1), (2, .int x2), (3, .int x3), (4, .int r9)] → W p l e ({ frames := 1, cells := 0, slots := 0, locals := 23 } : Room) s m #[Value.ref a_, Value.int p1] below meth c H locs 0 0 Q (F0 m 63 ls [])))) (fun u9 xx hF hC hE => wb_X5_measureShares_23 l E K (p1 := p1) (c_askedCount := c_askedCount) (c_outcome := c_outcome) (c_row := c_row) (x2 := x2) (x3 := x3) (x4 := u9.1) (x5 := u9.2) (c_share := c_share) (c_leftOver := c_leftOver) hx hb hml hown hts hK hN hA (fun x4 x5 q9 => hC _ q9) (fun x4 q9 => hE _ q9) hF) j9 (x4, x5) x4' hL hX

set_option maxHeartbeats 4000000 in
set_option maxRecDepth 100000 in
theorem wb_X5_measureShares_12 {p : Program} (l : Launch) {e : Env} {s : State} {m : MethodId} {below : List Frame} {meth : Method} {c : Code} {Q : State → Prop} (E : EE) (K : Nat) {a_ a_row a_partners a_share a_leftOver : Nat} {p1 : Int32} {c_askedCount : Int32} {c_outcome : Int32} {c_row : Nat → Int32} {x2 : Int32} {x3 : Int32} {c_share : Nat → Int32} {c_leftOver : Nat → Int32} (hx : p.tables.exec = Jvm.exec) (hb : c.code = cX5_measureShares) (hml : c.maxLocals = 6) (hown : s.vm.findClass RX5 = some m.cls) (hts : ∀ w ∈ v_f_X5_measureShares, w.before #[Value.ref a_, Value.int p1] s = true) (hK : va_K E.1 vwCl (TY E) s) (hN : NX s) {A : Nat → Prop} (hA : ∀ q : Nat, s.heap.size ≤ q → A q) {xx : (Int32 × (Nat → Int32) × (Nat → Int32)) ⊕ ((Nat → Int32) × (Nat → Int32))} (hC : ∀ (x3 : Int32), ∀ (c_share : Nat → Int32), ∀ (c_leftOver : Nat → Int32), xx = .inl (x3, c_share, c_leftOver) → ∀ (H : Heap) (locs : List Loc) (ls : Array Slot), va_P E.1 vwCl (w_X5_measureShares E a_ a_row a_partners a_share a_leftOver c_askedCount c_outcome c_row c_share c_leftOver) H → va_D A (w_X5_measureShares E a_ a_row a_partners a_share a_leftOver c_askedCount c_outcome c_row c_share c_leftOver) → va_S A s.heap H locs → lv_has ls 6 [(0, .ref a_), (1, .int p1), (2, .int x2), (3, .int x3)] → W p l e ({ frames := 1, cells := 0, slots := 0, locals := 23 } : Room) s m #[Value.ref a_, Value.int p1] below meth c H locs 0 0 Q (F0 m 12 ls [])) (hE : ∀ (c_share : Nat → Int32), ∀ (c_leftOver : Nat → Int32), xx = .inr (c_share, c_leftOver) → ((∀ (H : Heap) (locs : List Loc) (ls : Array Slot), va_P E.1 vwCl (w_X5_measureShares E a_ a_row a_partners a_share a_leftOver c_askedCount c_outcome c_row c_share c_leftOver) H → va_D A (w_X5_measureShares E a_ a_row a_partners a_share a_leftOver c_askedCount c_outcome c_row c_share c_leftOver) → va_S A s.heap H locs → lv_has ls 6 [] → W p l e ({ frames := 1, cells := 0, slots := 0, locals := 23 } : Room) s m #[Value.ref a_, Value.int p1] below meth c H locs 0 0 Q (F0 m 93 ls [])))) (hF : B_X5_measureShares_12 K p1 c_row x2 x3 c_share c_leftOver = some xx) : ∀ (H : Heap) (locs : List Loc) (ls : Array Slot), va_P E.1 vwCl (w_X5_measureShares E a_ a_row a_partners a_share a_leftOver c_askedCount c_outcome c_row c_share c_leftOver) H → va_D A (w_X5_measureShares E a_ a_row a_partners a_share a_leftOver c_askedCount c_outcome c_row c_share c_leftOver) → va_S A s.heap H locs → lv_has ls 6 [(0, .ref a_), (1, .int p1), (2, .int x2), (3, .int x3)] → W p l e ({ frames := 1, cells := 0, slots := 0, locals := 23 } : Room) s m #[Value.ref a_, Value.int p1] below meth c H locs 0 0 Q (F0 m 12 ls []) := by
  unfold B_X5_measureShares_12 at hF
  intro H locs ls hP hD hS hl
  have h9 := fixPD (ws' := [k_X5 a_ a_row a_partners c_askedCount c_outcome a_share a_leftOver, k_I E a_row 81 c_row, k_I E a_share 2 c_share, k_I E a_leftOver 2 c_leftOver]) hP hD rfl
  clear hP hD
  obtain ⟨hP, hD⟩ := h9
  refine lv_iload_n hx hb (dq_29 0 bcX5_measureShares_0 (j := 12) rfl rfl) rfl (lv_at hl 3 rfl) ?_
  refine lv_iconst (v := 2) hx hb (dq_5 0 bcX5_measureShares_0 (j := 13) rfl rfl) (by decide) ?_
  refine lv_icmp_ge (tgt := 93) hx hb (dq_162 0 bcX5_measureShares_0 (j := 14) (i := 79) rfl rfl rfl) (by decide) (fun c_4 => ?_) (fun c_4 => ?_)
  ·
    replace hF := ip c_4 hF
    cases hF
    exact hE c_share c_leftOver rfl H locs ls (hP.sub [0, 1, 2, 3] rfl) (hD.sub [0, 1, 2, 3] (by decide) rfl) hS (lv_sub hl [] rfl)
  ·
    replace hF := inn c_4 hF
    refine lv_iconst (v := 0) hx hb (dq_3 0 bcX5_measureShares_0 (j := 17) rfl rfl) (by decide) ?_
    refine lv_istore (lv' := [(4, .int (0 : Int32)), (0, .ref a_), (1, .int p1), (2, .int x2), (3, .int x3)]) hx hb (dq_54 0 bcX5_measureShares_0 (j := 18) (i := 4) rfl rfl) hl (by decide) rfl (fun ls hl => ?_)
    refine lv_iconst (v := 0) hx hb (dq_3 0 bcX5_measureShares_0 (j := 20) rfl rfl) (by decide) ?_
    refine lv_istore (lv' := [(5, .int (0 : Int32)), (4, .int (0 : Int32)), (0, .ref a_), (1, .int p1), (2, .int x2), (3, .int x3)]) hx hb (dq_54 0 bcX5_measureShares_0 (j := 21) (i := 5) rfl rfl) hl (by decide) rfl (fun ls hl => ?_)
    replace hF := bd1_s hF
    obtain ⟨x4_11, hL_12, hF⟩ := hF
    refine lw_X5_measureShares_23 l E K (p1 := p1) (c_askedCount := c_askedCount) (c_outcome := c_outcome) (c_row := c_row) (x2 := x2) (x3 := x3) (c_share := c_share) (c_leftOver := c_leftOver) hx hb hml hown hts hK hN hA K (0 : Int32) (0 : Int32) x4_11 hL_12 ?_ H locs ls (hP.sub [0, 1, 2, 3] rfl) (hD.sub [0, 1, 2, 3] (by decide) rfl) hS (lv_sub hl [2, 3, 4, 5, 1, 0] rfl)
    ·
      intro H locs ls hP hD hS hl
      have h9 := fixPD (ws' := [k_X5 a_ a_row a_partners c_askedCount c_outcome a_share a_leftOver, k_I E a_row 81 c_row, k_I E a_share 2 c_share, k_I E a_leftOver 2 c_leftOver]) hP hD rfl
      clear hP hD
      obtain ⟨hP, hD⟩ := h9
      refine lv_aload_n hx hb (dq_42 48 bcX5_measureShares_1 (j := 15) rfl rfl) rfl (lv_at hl 0 rfl) ?_
      refine gt_X5_4 (v := .ref a_share) hx hb hts i_f_X5_measureShares_X5 hown hK hP 0 rfl (hts (.fieldLink RX5 25 "HushWatch$State" "share" "[I") (List.mem_of_getElem? (i := 1) rfl)) rfl (dq_180 48 bcX5_measureShares_1 (j := 16) (i := 25) rfl rfl rfl) ?_
      refine lv_iload_n hx hb (dq_29 48 bcX5_measureShares_1 (j := 19) rfl rfl) rfl (lv_at hl 3 rfl) ?_
      refine lv_iload hx hb (dq_21 48 bcX5_measureShares_1 (j := 20) (i := 4) rfl rfl) (lv_at hl 4 rfl) ?_
      refine lv_iload_n hx hb (dq_28 48 bcX5_measureShares_1 (j := 22) rfl rfl) rfl (lv_at hl 2 rfl) ?_
      replace hF := bd1_s hF
      obtain ⟨r_13, hc_14, hF⟩ := hF
      have hPc : va_P E.1 vwCl [] H := fun k q h => by simp at h
      refine pE_i (va_runS (As := [.int x4_11, .int x2]) (rest := [.int x3, .ref a_share])  ⟨hx, hb, hml, hown, hts⟩ (f_J9_floorDiv_7cf53 l E (p0 := x4_11) (p1 := x2) hc_14) (va_cwS 2 hts g_f_X5_measureShares_f_J9_floorDiv_7cf53_176 rfl rfl rfl hd_J9_floorDiv_7cf53.2 ⟨Nat.le_of_ble_eq_true rfl, Nat.le_of_ble_eq_true rfl⟩) ⟨pP.blind, (pP.pre ⟨hK, hN⟩ hPc)⟩ rfl rfl hl.1 rfl (lv_room (Nat.le_of_ble_eq_true rfl)) (dq_184 48 bcX5_measureShares_1 (j := 23) (i := 176) rfl rfl rfl) ⟨Nat.le_of_ble_eq_true rfl, Nat.le_of_ble_eq_true rfl⟩) ?_
      replace hF := ix_s hF
      obtain ⟨hi_15, hF⟩ := hF
      refine va_iast hx hb hK hP hD hS 2 0 rfl rfl hi_15 (dq_79 48 bcX5_measureShares_1 (j := 26) rfl rfl) (fun H locs hP hD hS => ?_)
      have h9 := fixPD (ws' := [k_X5 a_ a_row a_partners c_askedCount c_outcome a_share a_leftOver, k_I E a_row 81 c_row, k_I E a_share 2 (upd c_share x3.toNatClampNeg r_13), k_I E a_leftOver 2 c_leftOver]) hP hD rfl
      clear hP hD
      obtain ⟨hP, hD⟩ := h9
      replace hF := nm_s hF
      obtain ⟨f_16, hf_16, hF⟩ := hF
      rw [← hf_16] at hP hD
      refine lv_aload_n hx hb (dq_42 48 bcX5_measureShares_1 (j := 27) rfl rfl) rfl (lv_at hl 0 rfl) ?_
      refine gt_X5_5 (v := .ref a_leftOver) hx hb hts i_f_X5_measureShares_X5 hown hK hP 0 rfl (hts (.fieldLink RX5 28 "HushWatch$State" "leftOver" "[I") (List.mem_of_getElem? (i := 2) rfl)) rfl (dq_180 48 bcX5_measureShares_1 (j := 28) (i := 28) rfl rfl rfl) ?_
      refine lv_iload_n hx hb (dq_29 48 bcX5_measureShares_1 (j := 31) rfl rfl) rfl (lv_at hl 3 rfl) ?_
      refine lv_iload hx hb (dq_21 48 bcX5_measureShares_1 (j := 32) (i := 4) rfl rfl) (lv_at hl 4 rfl) ?_
      refine lv_iload_n hx hb (dq_28 48 bcX5_measureShares_1 (j := 34) rfl rfl) rfl (lv_at hl 2 rfl) ?_
      replace hF := bd1_s hF
      obtain ⟨r_17, hc_18, hF⟩ := hF
      have hPc : va_P E.1 vwCl [] H := fun k q h => by simp at h
      refine pE_i (va_runS (As := [.int x4_11, .int x2]) (rest := [.int x3, .ref a_leftOver])  ⟨hx, hb, hml, hown, hts⟩ (f_J9_floorMod_7cf53 l E (p0 := x4_11) (p1 := x2) hc_18) (va_cwS 2 hts g_f_X5_measureShares_f_J9_floorMod_7cf53_179 rfl rfl rfl hd_J9_floorMod_7cf53.2 ⟨Nat.le_of_ble_eq_true rfl, Nat.le_of_ble_eq_true rfl⟩) ⟨pP.blind, (pP.pre ⟨hK, hN⟩ hPc)⟩ rfl rfl hl.1 rfl (lv_room (Nat.le_of_ble_eq_true rfl)) (dq_184 48 bcX5_measureShares_1 (j := 35) (i := 179) rfl rfl rfl) ⟨Nat.le_of_ble_eq_true rfl, Nat.le_of_ble_eq_true rfl⟩) ?_
      replace hF := ix_s hF
      obtain ⟨hi_19, hF⟩ := hF
      refine va_iast hx hb hK hP hD hS 3 0 rfl rfl hi_19 (dq_79 48 bcX5_measureShares_1 (j := 38) rfl rfl) (fun H locs hP hD hS => ?_)
      have h9 := fixPD (ws' := [k_X5 a_ a_row a_partners c_askedCount c_outcome a_share a_leftOver, k_I E a_row 81 c_row, k_I E a_share 2 f_16, k_I E a_leftOver 2 (upd c_leftOver x3.toNatClampNeg r_17)]) hP hD rfl
      clear hP hD
      obtain ⟨hP, hD⟩ := h9
      replace hF := nm_s hF
      obtain ⟨f_20, hf_20, hF⟩ := hF
      rw [← hf_20] at hP hD
      refine lv_iinc (v := x3 + (1 : Int32)) (lv' := [(3, .int (x3 + (1 : Int32))), (0, .ref a_), (1, .int p1), (2, .int x2), (4, .int x4_11)]) hx hb (dq_132 48 bcX5_measureShares_1 (j := 39) (i := 1) rfl rfl rfl) hl (k := 3) rfl (rfl) (by decide) rfl (fun ls hl => ?_)
      refine lv_goto (tgt := 12) hx hb (dq_167 48 bcX5_measureShares_1 (j := 42) (i := -78) rfl rfl rfl) (by decide) ?_
      cases hF
      exact hC (x3 + (1 : Int32)) f_16 f_20 rfl H locs ls (hP.sub [0, 1, 2, 3] rfl) (hD.sub [0, 1, 2, 3] (by decide) rfl) hS (lv_sub hl [1, 2, 3, 0] rfl)

set_option maxHeartbeats 4000000 in
set_option maxRecDepth 100000 in
theorem lw_X5_measureShares_12 {p : Program} (l : Launch) {e : Env} {s : State} {m : MethodId} {below : List Frame} {meth : Method} {c : Code} {Q : State → Prop} (E : EE) (K : Nat) {a_ a_row a_partners a_share a_leftOver : Nat} {p1 : Int32} {c_askedCount : Int32} {c_outcome : Int32} {c_row : Nat → Int32} {x2 : Int32} (hx : p.tables.exec = Jvm.exec) (hb : c.code = cX5_measureShares) (hml : c.maxLocals = 6) (hown : s.vm.findClass RX5 = some m.cls) (hts : ∀ w ∈ v_f_X5_measureShares, w.before #[Value.ref a_, Value.int p1] s = true) (hK : va_K E.1 vwCl (TY E) s) (hN : NX s) {A : Nat → Prop} (hA : ∀ q : Nat, s.heap.size ≤ q → A q) (j9 : Nat) (x3 : Int32) (c_share : Nat → Int32) (c_leftOver : Nat → Int32) (c_share' : Nat → Int32) (c_leftOver' : Nat → Int32) (hL : lpF (fun u9 : Int32 × (Nat → Int32) × (Nat → Int32) => B_X5_measureShares_12 K p1 c_row x2 u9.1 u9.2.1 u9.2.2) j9 (x3, c_share, c_leftOver) = some (c_share', c_leftOver')) (hX : (∀ (H : Heap) (locs : List Loc) (ls : Array Slot), va_P E.1 vwCl (w_X5_measureShares E a_ a_row a_partners a_share a_leftOver c_askedCount c_outcome c_row c_share' c_leftOver') H → va_D A (w_X5_measureShares E a_ a_row a_partners a_share a_leftOver c_askedCount c_outcome c_row c_share' c_leftOver') → va_S A s.heap H locs → lv_has ls 6 [] → W p l e ({ frames := 1, cells := 0, slots := 0, locals := 23 } : Room) s m #[Value.ref a_, Value.int p1] below meth c H locs 0 0 Q (F0 m 93 ls []))) : ∀ (H : Heap) (locs : List Loc) (ls : Array Slot), va_P E.1 vwCl (w_X5_measureShares E a_ a_row a_partners a_share a_leftOver c_askedCount c_outcome c_row c_share c_leftOver) H → va_D A (w_X5_measureShares E a_ a_row a_partners a_share a_leftOver c_askedCount c_outcome c_row c_share c_leftOver) → va_S A s.heap H locs → lv_has ls 6 [(0, .ref a_), (1, .int p1), (2, .int x2), (3, .int x3)] → W p l e ({ frames := 1, cells := 0, slots := 0, locals := 23 } : Room) s m #[Value.ref a_, Value.int p1] below meth c H locs 0 0 Q (F0 m 12 ls []) := by
  exact lp_rule (P := (fun u9 : Int32 × (Nat → Int32) × (Nat → Int32) => ∀ (H : Heap) (locs : List Loc) (ls : Array Slot), va_P E.1 vwCl (w_X5_measureShares E a_ a_row a_partners a_share a_leftOver c_askedCount c_outcome c_row u9.2.1 u9.2.2) H → va_D A (w_X5_measureShares E a_ a_row a_partners a_share a_leftOver c_askedCount c_outcome c_row u9.2.1 u9.2.2) → va_S A s.heap H locs → lv_has ls 6 [(0, .ref a_), (1, .int p1), (2, .int x2), (3, .int u9.1)] → W p l e ({ frames := 1, cells := 0, slots := 0, locals := 23 } : Room) s m #[Value.ref a_, Value.int p1] below meth c H locs 0 0 Q (F0 m 12 ls []))) (R := (fun r9 : (Nat → Int32) × (Nat → Int32) => (∀ (H : Heap) (locs : List Loc) (ls : Array Slot), va_P E.1 vwCl (w_X5_measureShares E a_ a_row a_partners a_share a_leftOver c_askedCount c_outcome c_row r9.1 r9.2) H → va_D A (w_X5_measureShares E a_ a_row a_partners a_share a_leftOver c_askedCount c_outcome c_row r9.1 r9.2) → va_S A s.heap H locs → lv_has ls 6 [] → W p l e ({ frames := 1, cells := 0, slots := 0, locals := 23 } : Room) s m #[Value.ref a_, Value.int p1] below meth c H locs 0 0 Q (F0 m 93 ls [])))) (fun u9 xx hF hC hE => wb_X5_measureShares_12 l E K (p1 := p1) (c_askedCount := c_askedCount) (c_outcome := c_outcome) (c_row := c_row) (x2 := x2) (x3 := u9.1) (c_share := u9.2.1) (c_leftOver := u9.2.2) hx hb hml hown hts hK hN hA (fun x3 c_share c_leftOver q9 => hC _ q9) (fun c_share c_leftOver q9 => hE _ q9) hF) j9 (x3, c_share, c_leftOver) (c_share', c_leftOver') hL hX

set_option maxHeartbeats 4000000 in
set_option maxRecDepth 100000 in
theorem f_X5_measureShares (l : Launch) (E : EE) (sz : Nat) (K : Nat) {a_ a_row a_partners a_share a_leftOver : Nat} {p1 : Int32} {c_askedCount : Int32} {c_outcome : Int32} {c_row : Nat → Int32} {c_share : Nat → Int32} {c_leftOver : Nat → Int32} {n_share : Nat → Int32} {n_leftOver : Nat → Int32} (hF : F_X5_measureShares K p1 c_row c_share c_leftOver = some (n_share, n_leftOver)) : Met l yX5_measureShares v_f_X5_measureShares (({ frames := 1, cells := 0, slots := 0, locals := 23 } : Room)) (va_Pc [.ref a_, .int p1] (pW E sz (w_X5_measureShares E a_ a_row a_partners a_share a_leftOver c_askedCount c_outcome c_row c_share c_leftOver))) (va_Qv (fun (_u : Unit) => True) (fun (_u : Unit) tt => va_P E.1 vwCl (w_X5_measureShares E a_ a_row a_partners a_share a_leftOver c_askedCount c_outcome c_row n_share n_leftOver) tt.heap ∧ va_D (va_A (w_X5_measureShares E a_ a_row a_partners a_share a_leftOver c_askedCount c_outcome c_row c_share c_leftOver) sz) (w_X5_measureShares E a_ a_row a_partners a_share a_leftOver c_askedCount c_outcome c_row n_share n_leftOver)) (va_A (w_X5_measureShares E a_ a_row a_partners a_share a_leftOver c_askedCount c_outcome c_row c_share c_leftOver) sz)) 0 0 (va_A (w_X5_measureShares E a_ a_row a_partners a_share a_leftOver c_askedCount c_outcome c_row c_share c_leftOver) sz) := by
  refine Met.ofW (cc := cX5_measureShares) (maxL := 6) (ret := none) (by decide) rfl ?_
  intro p e s m args below meth c s₁ B hml hv
  obtain ⟨rfl, hsz, ⟨hK, hN⟩, hP, hD0⟩ := hv
  have hx := B.exec
  have hb := B.bytes
  have hr := B.returns
  have hts := atoms_spec (ws := v_f_X5_measureShares) B.pre
  have hown : s.vm.findClass RX5 = some m.cls := own_of hd_X5_measureShares.1 (findClass_of_methodNamed B.named)
  have hlocks : meth.locks = false := B.notSynchronized
  subst hsz
  have hD := hD0.self (sz := s.heap.size)
  generalize hAe : va_A (w_X5_measureShares E a_ a_row a_partners a_share a_leftOver c_askedCount c_outcome c_row c_share c_leftOver) s.heap.size = A at hD ⊢
  have hA : ∀ q : Nat, s.heap.size ≤ q → A q := fun q h => by rw [← hAe]; exact Or.inr h
  have hS : va_S A s.heap s.heap [] := va_S.rf
  have hl := lv_entry ([.ref a_, .int p1]) (n := 6) (Nat.le_of_ble_eq_true rfl)
  rw [lg_entry_eq]
  generalize (lg_sl ([.ref a_, .int p1]) ++ List.replicate (6 - (lg_sl ([.ref a_, .int p1])).length) Slot.unset).toArray = ls at hl ⊢
  have hl : lv_has ls 6 [(0, .ref a_), (1, .int p1)] := hl
  obtain ⟨Q, hQ⟩ : ∃ Q : State → Prop, Q = MQ below (va_Qv (fun (_u : Unit) => True) (fun (_u : Unit) tt => va_P E.1 vwCl (w_X5_measureShares E a_ a_row a_partners a_share a_leftOver c_askedCount c_outcome c_row n_share n_leftOver) tt.heap ∧ va_D A (w_X5_measureShares E a_ a_row a_partners a_share a_leftOver c_askedCount c_outcome c_row n_share n_leftOver)) A) #[Value.ref a_, Value.int p1] s 0 0 A := ⟨_, rfl⟩
  rw [← hQ]
  change W p l e ({ frames := 1, cells := 0, slots := 0, locals := 23 } : Room) s m #[Value.ref a_, Value.int p1] below meth c s.heap [] 0 0 Q (F0 m 0 ls [])
  suffices hh9 : ∀ (H : Heap) (locs : List Loc), va_P E.1 vwCl (w_X5_measureShares E a_ a_row a_partners a_share a_leftOver c_askedCount c_outcome c_row c_share c_leftOver) H → va_D A (w_X5_measureShares E a_ a_row a_partners a_share a_leftOver c_askedCount c_outcome c_row c_share c_leftOver) → va_S A s.heap H locs → W p l e ({ frames := 1, cells := 0, slots := 0, locals := 23 } : Room) s m #[Value.ref a_, Value.int p1] below meth c H locs 0 0 Q (F0 m 0 ls []) from hh9 s.heap [] hP hD hS
  clear hP hD hS
  intro H locs hP hD hS
  have h9 := fixPD (ws' := [k_X5 a_ a_row a_partners c_askedCount c_outcome a_share a_leftOver, k_I E a_row 81 c_row, k_I E a_share 2 c_share, k_I E a_leftOver 2 c_leftOver]) hP hD rfl
  clear hP hD
  obtain ⟨hP, hD⟩ := h9
  unfold F_X5_measureShares at hF
  refine lv_iload_n hx hb (dq_27 0 bcX5_measureShares_0 (j := 0) rfl rfl) rfl (lv_at hl 1 rfl) ?_
  replace hF := bd1_s hF
  obtain ⟨r_1, hc_2, hF⟩ := hF
  have hPc : va_P E.1 vwCl [] H := fun k q h => by simp at h
  refine pE_i (va_runS (As := [.int p1]) (rest := [])  ⟨hx, hb, hml, hown, hts⟩ (f_J6_bitCount_0f7a4 l E (p0 := p1) hc_2) (va_cwS 1 hts g_f_X5_measureShares_f_J6_bitCount_0f7a4_171 rfl rfl rfl hd_J6_bitCount_0f7a4.2 ⟨Nat.le_of_ble_eq_true rfl, Nat.le_of_ble_eq_true rfl⟩) ⟨pP.blind, (pP.pre ⟨hK, hN⟩ hPc)⟩ rfl rfl hl.1 rfl (lv_room (Nat.le_of_ble_eq_true rfl)) (dq_184 0 bcX5_measureShares_0 (j := 1) (i := 171) rfl rfl rfl) ⟨Nat.le_of_ble_eq_true rfl, Nat.le_of_ble_eq_true rfl⟩) ?_
  refine lv_istore_n (lv' := [(2, .int r_1), (0, .ref a_), (1, .int p1)]) hx hb (dq_61 0 bcX5_measureShares_0 (j := 4) rfl rfl) rfl hl (by decide) rfl (fun ls hl => ?_)
  refine lv_iload_n hx hb (dq_28 0 bcX5_measureShares_0 (j := 5) rfl rfl) rfl (lv_at hl 0 rfl) ?_
  refine lv_if_ne (tgt := 10) hx hb (dq_154 0 bcX5_measureShares_0 (j := 6) (i := 4) rfl rfl rfl) (by decide) (fun c_3 => ?_) (fun c_3 => ?_)
  ·
    replace hF := inn c_3 hF
    refine lv_iconst (v := 0) hx hb (dq_3 0 bcX5_measureShares_0 (j := 10) rfl rfl) (by decide) ?_
    refine lv_istore_n (lv' := [(3, .int (0 : Int32)), (2, .int r_1), (0, .ref a_), (1, .int p1)]) hx hb (dq_62 0 bcX5_measureShares_0 (j := 11) rfl rfl) rfl hl (by decide) rfl (fun ls hl => ?_)
    replace hF := bd2_s hF
    obtain ⟨c_share_21, c_leftOver_22, hL_23, hF⟩ := hF
    refine lw_X5_measureShares_12 l E K (p1 := p1) (c_askedCount := c_askedCount) (c_outcome := c_outcome) (c_row := c_row) (x2 := r_1) hx hb hml hown hts hK hN hA K (0 : Int32) c_share c_leftOver c_share_21 c_leftOver_22 hL_23 ?_ H locs ls (hP.sub [0, 1, 2, 3] rfl) (hD.sub [0, 1, 2, 3] (by decide) rfl) hS (lv_sub hl [2, 3, 1, 0] rfl)
    ·
      intro H locs ls hP hD hS hl
      have h9 := fixPD (ws' := [k_X5 a_ a_row a_partners c_askedCount c_outcome a_share a_leftOver, k_I E a_row 81 c_row, k_I E a_share 2 c_share_21, k_I E a_leftOver 2 c_leftOver_22]) hP hD rfl
      clear hP hD
      obtain ⟨hP, hD⟩ := h9
      rw [hQ]
      have h9 := fin9 (P := fun u9 : (Nat → Int32) × (Nat → Int32) => va_P E.1 vwCl (w_X5_measureShares E a_ a_row a_partners a_share a_leftOver c_askedCount c_outcome c_row u9.1 u9.2) H ∧ va_D A (w_X5_measureShares E a_ a_row a_partners a_share a_leftOver c_askedCount c_outcome c_row u9.1 u9.2)) hF ⟨hP, hD⟩
      obtain ⟨hP9, hD9⟩ := h9
      exact W.vret hx hb hr (fun tt ht hW => ⟨⟨(), rfl, trivial, ht ▸ hP9, hD9⟩, hS.F ht⟩) hS.2.2 (dq_177 48 bcX5_measureShares_1 (j := 45) rfl rfl)
  ·
    replace hF := ip c_3 hF
    rw [hQ]
    have h9 := fin9 (P := fun u9 : (Nat → Int32) × (Nat → Int32) => va_P E.1 vwCl (w_X5_measureShares E a_ a_row a_partners a_share a_leftOver c_askedCount c_outcome c_row u9.1 u9.2) H ∧ va_D A (w_X5_measureShares E a_ a_row a_partners a_share a_leftOver c_askedCount c_outcome c_row u9.1 u9.2)) hF ⟨hP, hD⟩
    obtain ⟨hP9, hD9⟩ := h9
    exact W.vret hx hb hr (fun tt ht hW => ⟨⟨(), rfl, trivial, ht ▸ hP9, hD9⟩, hS.F ht⟩) hS.2.2 (dq_177 0 bcX5_measureShares_0 (j := 9) rfl rfl)

def F_X5_isAbove (c_row : Nat → Int32) : Option (Int32) :=
  if c_row 6 = (0 : Int32) then some (0 : Int32) else some (1 : Int32)
abbrev w_X5_isAbove (E : EE) (a_ a_row a_partners a_share a_leftOver : Nat) (c_askedCount : Int32) (c_outcome : Int32) (c_row : Nat → Int32) : va_W := [k_X5 a_ a_row a_partners c_askedCount c_outcome a_share a_leftOver, k_I E a_row 81 c_row]
def v_f_X5_isAbove : List Cond := List.cons (.code yX5_isAbove cX5_isAbove 1 (some .boolean)) (HAppend.hAppend (α := List Cond) (β := List Cond) (γ := List Cond) [.fieldLink RX5 11 "HushWatch$State" "row" "[I"] (HAppend.hAppend (α := List Cond) (β := List Cond) (γ := List Cond) wsX50 []))
theorem gw_f_X5_isAbove : v_f_X5_isAbove.all goodWord = true := gw_c2 (by decide +kernel) (gw_ap gw_wsX50 gw_nil)
theorem i_f_X5_isAbove_X5 : ∀ w ∈ wsX50, w ∈ v_f_X5_isAbove := fun _ h => List.mem_cons_of_mem _ (List.mem_append_right _ (List.mem_append_left _ h))
theorem hd_X5_isAbove : yX5_isAbove.cls = RX5 ∧ yX5_isAbove.cls ≠ "java/lang/invoke/MethodHandle" ∧ yX5_isAbove.cls ≠ "java/lang/invoke/VarHandle" ∧ (parseMethodDescriptor yX5_isAbove.desc).map (fun d => d.parameters.length) = some 0 := by decide +kernel
set_option maxHeartbeats 4000000 in
set_option maxRecDepth 100000 in
theorem f_X5_isAbove (l : Launch) (E : EE) {a_ a_row a_partners a_share a_leftOver : Nat} {c_askedCount : Int32} {c_outcome : Int32} {c_row : Nat → Int32} {rr : Int32} (hF : F_X5_isAbove c_row = some rr) : Met l yX5_isAbove v_f_X5_isAbove (({ frames := 0, cells := 0, slots := 0, locals := 0 } : Room)) (va_Pc [.ref a_] (pP E (w_X5_isAbove E a_ a_row a_partners a_share a_leftOver c_askedCount c_outcome c_row))) (vp_Si (fun q : Int32 => q = rr ∧ (q = 0 ∨ q = 1))) 0 0 (fun _ => False) := by
  refine Met.ofW (cc := cX5_isAbove) (maxL := 1) (ret := (some .boolean)) (by decide) rfl ?_
  intro p e s m args below meth c s₁ B hml hv
  obtain ⟨rfl, ⟨hK, hN⟩, hP⟩ := hv
  have hx := B.exec
  have hb := B.bytes
  have hr := B.returns
  have hts := atoms_spec (ws := v_f_X5_isAbove) B.pre
  have hown : s.vm.findClass RX5 = some m.cls := own_of hd_X5_isAbove.1 (findClass_of_methodNamed B.named)
  have hlocks : meth.locks = false := B.notSynchronized
  replace hP : va_P E.1 vwCl [k_X5 a_ a_row a_partners c_askedCount c_outcome a_share a_leftOver, k_I E a_row 81 c_row] s.heap := hP
  have hl := lv_entry ([.ref a_]) (n := 1) (Nat.le_of_ble_eq_true rfl)
  rw [lg_entry_eq]
  generalize (lg_sl ([.ref a_]) ++ List.replicate (1 - (lg_sl ([.ref a_])).length) Slot.unset).toArray = ls at hl ⊢
  have hl : lv_has ls 1 [(0, .ref a_)] := hl
  obtain ⟨Q, hQ⟩ : ∃ Q : State → Prop, Q = MQ below (vp_Si (fun q : Int32 => q = rr ∧ (q = 0 ∨ q = 1))) #[Value.ref a_] s 0 0 (fun _ => False) := ⟨_, rfl⟩
  rw [← hQ]
  change W p l e ({ frames := 0, cells := 0, slots := 0, locals := 0 } : Room) s m #[Value.ref a_] below meth c s.heap [] 0 0 Q (F0 m 0 ls [])
  unfold F_X5_isAbove at hF
  refine lv_aload_n hx hb (dq_42 0 bcX5_isAbove_0 (j := 0) rfl rfl) rfl (lv_at hl 0 rfl) ?_
  refine gt_X5_0 (v := .ref a_row) hx hb hts i_f_X5_isAbove_X5 hown hK hP 0 rfl (hts (.fieldLink RX5 11 "HushWatch$State" "row" "[I") (List.mem_of_getElem? (i := 1) rfl)) rfl (dq_180 0 bcX5_isAbove_0 (j := 1) (i := 11) rfl rfl rfl) ?_
  refine lv_bipush (v := 6) hx hb (dq_16 0 bcX5_isAbove_0 (j := 4) (i := 6) rfl rfl rfl) (by decide) ?_
  refine va_iald hx hb hK hP 1 0 rfl rfl (vin rfl) (dq_46 0 bcX5_isAbove_0 (j := 6) rfl rfl) ?_
  refine W.eq (g2 := F0 m 7 ls [.int (c_row 6)]) rfl ?_
  refine lv_if_eq (tgt := 14) hx hb (dq_153 0 bcX5_isAbove_0 (j := 7) (i := 7) rfl rfl rfl) (by decide) (fun c_1 => ?_) (fun c_1 => ?_)
  ·
    replace hF := ip c_1 hF
    refine lv_iconst (v := 0) hx hb (dq_3 0 bcX5_isAbove_0 (j := 14) rfl rfl) (by decide) ?_
    rw [hQ]
    obtain e9_0 := inj1 hF
    exact W.zret (v := (0 : Int32)) hx hb hr rfl (fun tt ht hW => ⟨_, rfl, ⟨e9_0, Or.inl rfl⟩, ht⟩) (fun _ h => by cases h) (dq_172 0 bcX5_isAbove_0 (j := 15) rfl rfl)
  ·
    replace hF := inn c_1 hF
    refine lv_iconst (v := 1) hx hb (dq_4 0 bcX5_isAbove_0 (j := 10) rfl rfl) (by decide) ?_
    refine lv_goto (tgt := 15) hx hb (dq_167 0 bcX5_isAbove_0 (j := 11) (i := 4) rfl rfl rfl) (by decide) ?_
    rw [hQ]
    obtain e9_0 := inj1 hF
    exact W.zret (v := (1 : Int32)) hx hb hr rfl (fun tt ht hW => ⟨_, rfl, ⟨e9_0, Or.inr rfl⟩, ht⟩) (fun _ h => by cases h) (dq_172 0 bcX5_isAbove_0 (j := 15) rfl rfl)

def F_X5_isQuietDrift (p1 : Int32) (p2 : Int32) (c_row : Nat → Int32) : Option (Int32) :=
  bd1 (F_X5_isAbove c_row) (fun r_1 => if r_1 = (0 : Int32) then bd1 (F_X5_valueOf (((c_row 4) + ((c_row 3) * p1)).toInt64) (((c_row 5) + ((c_row 3) * p2)).toInt64) c_row) (fun r_5 => if (0 : Int32) ≤ lg_cmp r_5 ((c_row 1).toInt64) then some (0 : Int32) else some (1 : Int32)) else if p1 = (0 : Int32) then if p2 = (0 : Int32) then some (1 : Int32) else some (0 : Int32) else some (0 : Int32))
abbrev w_X5_isQuietDrift (E : EE) (a_ a_row a_partners a_share a_leftOver : Nat) (c_askedCount : Int32) (c_outcome : Int32) (c_row : Nat → Int32) : va_W := [k_X5 a_ a_row a_partners c_askedCount c_outcome a_share a_leftOver, k_I E a_row 81 c_row]
def v_f_X5_isQuietDrift : List Cond := List.cons (.code yX5_isQuietDrift cX5_isQuietDrift 3 (some .boolean)) (HAppend.hAppend (α := List Cond) (β := List Cond) (γ := List Cond) [.fieldLink RX5 11 "HushWatch$State" "row" "[I", .methodLink RX5 83 yX5_isAbove, .instanceMethod yX5_isAbove, .selects RX5 yX5_isAbove yX5_isAbove, .initialized RX5, .methodLink RX5 75 yX5_valueOf, .instanceMethod yX5_valueOf, .selects RX5 yX5_valueOf yX5_valueOf] (HAppend.hAppend (α := List Cond) (β := List Cond) (γ := List Cond) v_f_X5_isAbove (HAppend.hAppend (α := List Cond) (β := List Cond) (γ := List Cond) wsX50 (HAppend.hAppend (α := List Cond) (β := List Cond) (γ := List Cond) v_f_X5_valueOf []))))
theorem gw_f_X5_isQuietDrift : v_f_X5_isQuietDrift.all goodWord = true := gw_c2 (by decide +kernel) (gw_ap gw_f_X5_isAbove (gw_ap gw_wsX50 (gw_ap gw_f_X5_valueOf gw_nil)))
theorem i_f_X5_isQuietDrift_X5 : ∀ w ∈ wsX50, w ∈ v_f_X5_isQuietDrift := fun _ h => List.mem_cons_of_mem _ (List.mem_append_right _ (List.mem_append_right _ (List.mem_append_left _ h)))
theorem g_f_X5_isQuietDrift_f_X5_isAbove_83 : GoodIn v_f_X5_isQuietDrift (wsV RX5 83 RX5 yX5_isAbove v_f_X5_isAbove) := goodIn_in gw_f_X5_isQuietDrift (in4 2 3 4 5 rfl rfl rfl rfl (fun _ h => List.mem_cons_of_mem _ (List.mem_append_right _ (List.mem_append_left _ h))))
theorem g_f_X5_isQuietDrift_f_X5_valueOf_75 : GoodIn v_f_X5_isQuietDrift (wsV RX5 75 RX5 yX5_valueOf v_f_X5_valueOf) := goodIn_in gw_f_X5_isQuietDrift (in4 6 7 8 5 rfl rfl rfl rfl (fun _ h => List.mem_cons_of_mem _ (List.mem_append_right _ (List.mem_append_right _ (List.mem_append_right _ (List.mem_append_left _ h))))))
theorem hd_X5_isQuietDrift : yX5_isQuietDrift.cls = RX5 ∧ yX5_isQuietDrift.cls ≠ "java/lang/invoke/MethodHandle" ∧ yX5_isQuietDrift.cls ≠ "java/lang/invoke/VarHandle" ∧ (parseMethodDescriptor yX5_isQuietDrift.desc).map (fun d => d.parameters.length) = some 2 := by decide +kernel
set_option maxHeartbeats 4000000 in
set_option maxRecDepth 100000 in
theorem f_X5_isQuietDrift (l : Launch) (E : EE) {a_ a_row a_partners a_share a_leftOver : Nat} {p1 : Int32} {p2 : Int32} {c_askedCount : Int32} {c_outcome : Int32} {c_row : Nat → Int32} {rr : Int32} (hF : F_X5_isQuietDrift p1 p2 c_row = some rr) : Met l yX5_isQuietDrift v_f_X5_isQuietDrift (({ frames := 1, cells := 0, slots := 0, locals := 28 } : Room)) (va_Pc [.ref a_, .int p1, .int p2] (pP E (w_X5_isQuietDrift E a_ a_row a_partners a_share a_leftOver c_askedCount c_outcome c_row))) (vp_Si (fun q : Int32 => q = rr ∧ (q = 0 ∨ q = 1))) 0 0 (fun _ => False) := by
  refine Met.ofW (cc := cX5_isQuietDrift) (maxL := 3) (ret := (some .boolean)) (by decide) rfl ?_
  intro p e s m args below meth c s₁ B hml hv
  obtain ⟨rfl, ⟨hK, hN⟩, hP⟩ := hv
  have hx := B.exec
  have hb := B.bytes
  have hr := B.returns
  have hts := atoms_spec (ws := v_f_X5_isQuietDrift) B.pre
  have hown : s.vm.findClass RX5 = some m.cls := own_of hd_X5_isQuietDrift.1 (findClass_of_methodNamed B.named)
  have hlocks : meth.locks = false := B.notSynchronized
  replace hP : va_P E.1 vwCl [k_X5 a_ a_row a_partners c_askedCount c_outcome a_share a_leftOver, k_I E a_row 81 c_row] s.heap := hP
  have hl := lv_entry ([.ref a_, .int p1, .int p2]) (n := 3) (Nat.le_of_ble_eq_true rfl)
  rw [lg_entry_eq]
  generalize (lg_sl ([.ref a_, .int p1, .int p2]) ++ List.replicate (3 - (lg_sl ([.ref a_, .int p1, .int p2])).length) Slot.unset).toArray = ls at hl ⊢
  have hl : lv_has ls 3 [(0, .ref a_), (1, .int p1), (2, .int p2)] := hl
  obtain ⟨Q, hQ⟩ : ∃ Q : State → Prop, Q = MQ below (vp_Si (fun q : Int32 => q = rr ∧ (q = 0 ∨ q = 1))) #[Value.ref a_, Value.int p1, Value.int p2] s 0 0 (fun _ => False) := ⟨_, rfl⟩
  rw [← hQ]
  change W p l e ({ frames := 1, cells := 0, slots := 0, locals := 28 } : Room) s m #[Value.ref a_, Value.int p1, Value.int p2] below meth c s.heap [] 0 0 Q (F0 m 0 ls [])
  unfold F_X5_isQuietDrift at hF
  refine lv_aload_n hx hb (dq_42 0 bcX5_isQuietDrift_0 (j := 0) rfl rfl) rfl (lv_at hl 0 rfl) ?_
  replace hF := bd1_s hF
  obtain ⟨r_1, hc_2, hF⟩ := hF
  have hPc : va_P E.1 vwCl (w_X5_isAbove E a_ a_row a_partners a_share a_leftOver c_askedCount c_outcome c_row) s.heap := hP.sub (ws' := [k_X5 a_ a_row a_partners c_askedCount c_outcome a_share a_leftOver, k_I E a_row 81 c_row]) [0, 1] rfl
  have hrc := va_recv hK hPc (ci := 6) (q0 := 0) rfl rfl
  refine pE_z (va_runV (As := []) (rest := [])  ⟨hx, hb, hml, hown, hts⟩ (f_X5_isAbove l E (a_ := a_) (a_row := a_row) (a_partners := a_partners) (a_share := a_share) (a_leftOver := a_leftOver) (c_askedCount := c_askedCount) (c_outcome := c_outcome) (c_row := c_row) hc_2) (cwV 0 hts g_f_X5_isQuietDrift_f_X5_isAbove_83 rfl rfl rfl hd_X5_isAbove ⟨Nat.le_of_ble_eq_true rfl, Nat.le_of_ble_eq_true rfl⟩) ⟨pP.blind, hrc, (pP.pre ⟨hK, hN⟩ hPc)⟩ rfl rfl hl.1 rfl (lv_room (Nat.le_of_ble_eq_true rfl)) (dq_182 0 bcX5_isQuietDrift_0 (j := 1) (i := 83) rfl rfl rfl) ⟨Nat.le_of_ble_eq_true rfl, Nat.le_of_ble_eq_true rfl⟩) (fun hb_3 => ?_)
  refine lv_if_eq (tgt := 21) hx hb (dq_153 0 bcX5_isQuietDrift_0 (j := 4) (i := 17) rfl rfl rfl) (by decide) (fun c_4 => ?_) (fun c_4 => ?_)
  ·
    replace hF := ip c_4 hF
    refine lv_aload_n hx hb (dq_42 0 bcX5_isQuietDrift_0 (j := 21) rfl rfl) rfl (lv_at hl 0 rfl) ?_
    refine lv_aload_n hx hb (dq_42 0 bcX5_isQuietDrift_0 (j := 22) rfl rfl) rfl (lv_at hl 0 rfl) ?_
    refine gt_X5_0 (v := .ref a_row) hx hb hts i_f_X5_isQuietDrift_X5 hown hK hP 0 rfl (hts (.fieldLink RX5 11 "HushWatch$State" "row" "[I") (List.mem_of_getElem? (i := 1) rfl)) rfl (dq_180 0 bcX5_isQuietDrift_0 (j := 23) (i := 11) rfl rfl rfl) ?_
    refine lv_iconst (v := 4) hx hb (dq_7 0 bcX5_isQuietDrift_0 (j := 26) rfl rfl) (by decide) ?_
    refine va_iald hx hb hK hP 1 0 rfl rfl (vin rfl) (dq_46 0 bcX5_isQuietDrift_0 (j := 27) rfl rfl) ?_
    refine W.eq (g2 := F0 m 28 ls [.int (c_row 4), .ref a_]) rfl ?_
    refine lv_aload_n hx hb (dq_42 0 bcX5_isQuietDrift_0 (j := 28) rfl rfl) rfl (lv_at hl 0 rfl) ?_
    refine gt_X5_0 (v := .ref a_row) hx hb hts i_f_X5_isQuietDrift_X5 hown hK hP 0 rfl (hts (.fieldLink RX5 11 "HushWatch$State" "row" "[I") (List.mem_of_getElem? (i := 1) rfl)) rfl (dq_180 0 bcX5_isQuietDrift_0 (j := 29) (i := 11) rfl rfl rfl) ?_
    refine lv_iconst (v := 3) hx hb (dq_6 0 bcX5_isQuietDrift_0 (j := 32) rfl rfl) (by decide) ?_
    refine va_iald hx hb hK hP 1 0 rfl rfl (vin rfl) (dq_46 0 bcX5_isQuietDrift_0 (j := 33) rfl rfl) ?_
    refine W.eq (g2 := F0 m 34 ls [.int (c_row 3), .int (c_row 4), .ref a_]) rfl ?_
    refine lv_iload_n hx hb (dq_27 0 bcX5_isQuietDrift_0 (j := 34) rfl rfl) rfl (lv_at hl 1 rfl) ?_
    refine lv_imul hx hb (dq_104 0 bcX5_isQuietDrift_0 (j := 35) rfl rfl) ?_
    refine lv_iadd hx hb (dq_96 0 bcX5_isQuietDrift_0 (j := 36) rfl rfl) ?_
    refine lv_i2l (v := ((c_row 4) + ((c_row 3) * p1)).toInt64) hx hb (dq_133 0 bcX5_isQuietDrift_0 (j := 37) rfl rfl) rfl ?_
    refine lv_aload_n hx hb (dq_42 0 bcX5_isQuietDrift_0 (j := 38) rfl rfl) rfl (lv_at hl 0 rfl) ?_
    refine gt_X5_0 (v := .ref a_row) hx hb hts i_f_X5_isQuietDrift_X5 hown hK hP 0 rfl (hts (.fieldLink RX5 11 "HushWatch$State" "row" "[I") (List.mem_of_getElem? (i := 1) rfl)) rfl (dq_180 0 bcX5_isQuietDrift_0 (j := 39) (i := 11) rfl rfl rfl) ?_
    refine lv_iconst (v := 5) hx hb (dq_8 0 bcX5_isQuietDrift_0 (j := 42) rfl rfl) (by decide) ?_
    refine va_iald hx hb hK hP 1 0 rfl rfl (vin rfl) (dq_46 0 bcX5_isQuietDrift_0 (j := 43) rfl rfl) ?_
    refine W.eq (g2 := F0 m 44 ls [.int (c_row 5), .long (((c_row 4) + ((c_row 3) * p1)).toInt64), .ref a_]) rfl ?_
    refine lv_aload_n hx hb (dq_42 0 bcX5_isQuietDrift_0 (j := 44) rfl rfl) rfl (lv_at hl 0 rfl) ?_
    refine gt_X5_0 (v := .ref a_row) hx hb hts i_f_X5_isQuietDrift_X5 hown hK hP 0 rfl (hts (.fieldLink RX5 11 "HushWatch$State" "row" "[I") (List.mem_of_getElem? (i := 1) rfl)) rfl (dq_180 0 bcX5_isQuietDrift_0 (j := 45) (i := 11) rfl rfl rfl) ?_
    refine lv_iconst (v := 3) hx hb (dq_6 48 bcX5_isQuietDrift_1 (j := 0) rfl rfl) (by decide) ?_
    refine va_iald hx hb hK hP 1 0 rfl rfl (vin rfl) (dq_46 48 bcX5_isQuietDrift_1 (j := 1) rfl rfl) ?_
    refine W.eq (g2 := F0 m 50 ls [.int (c_row 3), .int (c_row 5), .long (((c_row 4) + ((c_row 3) * p1)).toInt64), .ref a_]) rfl ?_
    refine lv_iload_n hx hb (dq_28 48 bcX5_isQuietDrift_1 (j := 2) rfl rfl) rfl (lv_at hl 2 rfl) ?_
    refine lv_imul hx hb (dq_104 48 bcX5_isQuietDrift_1 (j := 3) rfl rfl) ?_
    refine lv_iadd hx hb (dq_96 48 bcX5_isQuietDrift_1 (j := 4) rfl rfl) ?_
    refine lv_i2l (v := ((c_row 5) + ((c_row 3) * p2)).toInt64) hx hb (dq_133 48 bcX5_isQuietDrift_1 (j := 5) rfl rfl) rfl ?_
    replace hF := bd1_s hF
    obtain ⟨r_5, hc_6, hF⟩ := hF
    have hPc : va_P E.1 vwCl (w_X5_valueOf E a_ a_row a_partners a_share a_leftOver c_askedCount c_outcome c_row) s.heap := hP.sub (ws' := [k_X5 a_ a_row a_partners c_askedCount c_outcome a_share a_leftOver, k_I E a_row 81 c_row]) [0, 1] rfl
    have hrc := va_recv hK hPc (ci := 6) (q0 := 0) rfl rfl
    refine pE_l (va_runV (As := [.long (((c_row 4) + ((c_row 3) * p1)).toInt64), .long (((c_row 5) + ((c_row 3) * p2)).toInt64)]) (rest := [])  ⟨hx, hb, hml, hown, hts⟩ (f_X5_valueOf l E (a_ := a_) (a_row := a_row) (a_partners := a_partners) (a_share := a_share) (a_leftOver := a_leftOver) (p1 := ((c_row 4) + ((c_row 3) * p1)).toInt64) (p2 := ((c_row 5) + ((c_row 3) * p2)).toInt64) (c_askedCount := c_askedCount) (c_outcome := c_outcome) (c_row := c_row) hc_6) (cwV 2 hts g_f_X5_isQuietDrift_f_X5_valueOf_75 rfl rfl rfl hd_X5_valueOf ⟨Nat.le_of_ble_eq_true rfl, Nat.le_of_ble_eq_true rfl⟩) ⟨pP.blind, hrc, (pP.pre ⟨hK, hN⟩ hPc)⟩ rfl rfl hl.1 rfl (lv_room (Nat.le_of_ble_eq_true rfl)) (dq_182 48 bcX5_isQuietDrift_1 (j := 6) (i := 75) rfl rfl rfl) ⟨Nat.le_of_ble_eq_true rfl, Nat.le_of_ble_eq_true rfl⟩) ?_
    refine lv_aload_n hx hb (dq_42 48 bcX5_isQuietDrift_1 (j := 9) rfl rfl) rfl (lv_at hl 0 rfl) ?_
    refine gt_X5_0 (v := .ref a_row) hx hb hts i_f_X5_isQuietDrift_X5 hown hK hP 0 rfl (hts (.fieldLink RX5 11 "HushWatch$State" "row" "[I") (List.mem_of_getElem? (i := 1) rfl)) rfl (dq_180 48 bcX5_isQuietDrift_1 (j := 10) (i := 11) rfl rfl rfl) ?_
    refine lv_iconst (v := 1) hx hb (dq_4 48 bcX5_isQuietDrift_1 (j := 13) rfl rfl) (by decide) ?_
    refine va_iald hx hb hK hP 1 0 rfl rfl (vin rfl) (dq_46 48 bcX5_isQuietDrift_1 (j := 14) rfl rfl) ?_
    refine W.eq (g2 := F0 m 63 ls [.int (c_row 1), .long r_5]) rfl ?_
    refine lv_i2l (v := (c_row 1).toInt64) hx hb (dq_133 48 bcX5_isQuietDrift_1 (j := 15) rfl rfl) rfl ?_
    refine W.lcmp hx hb (dq_148 48 bcX5_isQuietDrift_1 (j := 16) rfl rfl) ?_
    refine lv_if_ge (tgt := 72) hx hb (dq_156 48 bcX5_isQuietDrift_1 (j := 17) (i := 7) rfl rfl rfl) (by decide) (fun c_7 => ?_) (fun c_7 => ?_)
    ·
      replace hF := ip c_7 hF
      refine lv_iconst (v := 0) hx hb (dq_3 48 bcX5_isQuietDrift_1 (j := 24) rfl rfl) (by decide) ?_
      rw [hQ]
      obtain e9_0 := inj1 hF
      exact W.zret (v := (0 : Int32)) hx hb hr rfl (fun tt ht hW => ⟨_, rfl, ⟨e9_0, Or.inl rfl⟩, ht⟩) (fun _ h => by cases h) (dq_172 48 bcX5_isQuietDrift_1 (j := 25) rfl rfl)
    ·
      replace hF := inn c_7 hF
      refine lv_iconst (v := 1) hx hb (dq_4 48 bcX5_isQuietDrift_1 (j := 20) rfl rfl) (by decide) ?_
      refine lv_goto (tgt := 73) hx hb (dq_167 48 bcX5_isQuietDrift_1 (j := 21) (i := 4) rfl rfl rfl) (by decide) ?_
      rw [hQ]
      obtain e9_0 := inj1 hF
      exact W.zret (v := (1 : Int32)) hx hb hr rfl (fun tt ht hW => ⟨_, rfl, ⟨e9_0, Or.inr rfl⟩, ht⟩) (fun _ h => by cases h) (dq_172 48 bcX5_isQuietDrift_1 (j := 25) rfl rfl)
  ·
    replace hF := inn c_4 hF
    refine lv_iload_n hx hb (dq_27 0 bcX5_isQuietDrift_0 (j := 7) rfl rfl) rfl (lv_at hl 1 rfl) ?_
    refine lv_if_ne (tgt := 19) hx hb (dq_154 0 bcX5_isQuietDrift_0 (j := 8) (i := 11) rfl rfl rfl) (by decide) (fun c_8 => ?_) (fun c_8 => ?_)
    ·
      replace hF := inn c_8 hF
      refine lv_iconst (v := 0) hx hb (dq_3 0 bcX5_isQuietDrift_0 (j := 19) rfl rfl) (by decide) ?_
      rw [hQ]
      obtain e9_0 := inj1 hF
      exact W.zret (v := (0 : Int32)) hx hb hr rfl (fun tt ht hW => ⟨_, rfl, ⟨e9_0, Or.inl rfl⟩, ht⟩) (fun _ h => by cases h) (dq_172 0 bcX5_isQuietDrift_0 (j := 20) rfl rfl)
    ·
      replace hF := ip c_8 hF
      refine lv_iload_n hx hb (dq_28 0 bcX5_isQuietDrift_0 (j := 11) rfl rfl) rfl (lv_at hl 2 rfl) ?_
      refine lv_if_ne (tgt := 19) hx hb (dq_154 0 bcX5_isQuietDrift_0 (j := 12) (i := 7) rfl rfl rfl) (by decide) (fun c_9 => ?_) (fun c_9 => ?_)
      ·
        replace hF := inn c_9 hF
        refine lv_iconst (v := 0) hx hb (dq_3 0 bcX5_isQuietDrift_0 (j := 19) rfl rfl) (by decide) ?_
        rw [hQ]
        obtain e9_0 := inj1 hF
        exact W.zret (v := (0 : Int32)) hx hb hr rfl (fun tt ht hW => ⟨_, rfl, ⟨e9_0, Or.inl rfl⟩, ht⟩) (fun _ h => by cases h) (dq_172 0 bcX5_isQuietDrift_0 (j := 20) rfl rfl)
      ·
        replace hF := ip c_9 hF
        refine lv_iconst (v := 1) hx hb (dq_4 0 bcX5_isQuietDrift_0 (j := 15) rfl rfl) (by decide) ?_
        refine lv_goto (tgt := 20) hx hb (dq_167 0 bcX5_isQuietDrift_0 (j := 16) (i := 4) rfl rfl rfl) (by decide) ?_
        rw [hQ]
        obtain e9_0 := inj1 hF
        exact W.zret (v := (1 : Int32)) hx hb hr rfl (fun tt ht hW => ⟨_, rfl, ⟨e9_0, Or.inr rfl⟩, ht⟩) (fun _ h => by cases h) (dq_172 0 bcX5_isQuietDrift_0 (j := 20) rfl rfl)
