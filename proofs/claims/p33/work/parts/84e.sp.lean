-- 84e.sp
section
noncomputable def blX7_spell_0 : List Nat := [42, 180, 0, 35, 27, 182, 0, 120, 154, 0, 5, 2, 172, 187, 1, 9, 89, 183, 1, 11, 78, 45, 19, 1, 12, 182, 1, 14, 87, 45, 27, 182, 1, 18, 87, 45, 19, 1, 21, 182, 1, 14, 87, 45, 42, 180, 0, 35, 27, 3, 182]
set_option maxRecDepth 100000 in
theorem bcX7_spell_0 : ((cX7_spell.data.toList.drop 0).take blX7_spell_0.length).map UInt8.toNat = blX7_spell_0 := by decide +kernel
noncomputable def blX7_spell_1 : List Nat := [27, 3, 182, 0, 140, 182, 1, 18, 87, 45, 16, 44, 182, 1, 23, 87, 45, 42, 180, 0, 35, 27, 4, 182, 0, 140, 182, 1, 18, 87, 42, 180, 0, 35, 27, 182, 0, 137, 154, 0, 10, 45, 16, 33, 182, 1, 23, 87, 28, 2, 160]
set_option maxRecDepth 100000 in
theorem bcX7_spell_1 : ((cX7_spell.data.toList.drop 48).take blX7_spell_1.length).map UInt8.toNat = blX7_spell_1 := by decide +kernel
noncomputable def blX7_spell_2 : List Nat := [28, 2, 160, 0, 8, 45, 182, 1, 26, 172, 28, 155, 0, 11, 28, 45, 182, 1, 26, 161, 0, 5, 2, 172, 45, 28, 182, 1, 28, 172]
set_option maxRecDepth 100000 in
theorem bcX7_spell_2 : ((cX7_spell.data.toList.drop 96).take blX7_spell_2.length).map UInt8.toNat = blX7_spell_2 := by decide +kernel

section LDCW
variable {p : Program} {l : Launch} {e : Env} {R : Room} {s : State} {m : MethodId} {args : Array Value} {below : List Frame} {meth : Method} {c : Code} {H : Heap} {locs : List Loc} {cells slots : Nat} {Q : State → Prop}
variable {pc : Nat} {ls : Array Slot} {rest : List Value}
/-- a wide ldc of a text -/
theorem my_ldcwS {cc : ByteArray} (hexec : p.tables.exec = Jvm.exec) (hb : c.code = cc) {own tx : String} {index q : Nat} (hown : s.vm.findClass own = some m.cls) (hZ : vk_R own index tx q s) (hdg : decode cc pc = .ok (.ldc_w index, 3)) (k : W p l e R s m args below meth c H locs cells slots Q (F0 m (pc + 3) ls (.ref q :: rest))) : W p l e R s m args below meth c H locs cells slots Q (F0 m pc ls rest) := by
  intro T hT X
  obtain ⟨t, a1, b1⟩ := k T hT X
  have hdg' : decode c.code (F0 m pc ls rest).pc = .ok (.ldc_w index, 3) := by rw [hb]; exact hdg
  obtain ⟨kk, cf, i, a', hk, hcf, hcp, -, hr, hev'⟩ := Cond.stringRef_spec hown hZ.1
  have ea : q = a' := by
    have z := hZ.2.symm.trans hev'
    cases z
    rfl
  subst ea
  obtain ⟨k', hk', he⟩ := X.warmed.alike.2.2 _ _ hk
  have hr' : k'.resolved[index]? = some (some (.string q)) := by
    rcases X.warmed.entry hk hk' index with h | ⟨h, -⟩
    · rw [h]; exact hr
    · rw [hr] at h; cases h
  refine ⟨t, ?_, b1⟩
  jvm_step X.here [hexec, hdg', ldc_w.wp_string (e := e) (s := T) (f := F0 m pc ls rest) X.here.top hk' (by rw [he]; exact hcf) hcp hr']
  exact a1
end LDCW
theorem hs_ok {p1 : Int32} {f : Nat → Int32} : Tt (F_X5_hasSite p1 f) (fun r => ¬ r = 0 → ∃ i, i < 8 ∧ p1 = nI i) := by
  unfold F_X5_hasSite
  exact tt_ite (fun _ => tt_some (fun z => absurd rfl z)) (fun a => tt_ite (fun _ => tt_some (fun z => absurd rfl z)) (fun _ => tt_ite (fun _ => tt_some (fun z => absurd rfl z)) (fun b => tt_some (fun _ => nnI (n := 8) (by decide) a b))))
theorem gc_of {K k s : Nat} {i : Int32} (hK : 200000 ≤ K) (h : 11 ≤ k + s) : ∀ (m1 : Nat) (c1 : Nat → Int32), m1 ≤ 34 → k + s ≤ m1 → sb_Fit c1 → ∃ r c2, F_J6_getChars_ba4f3 K i (nI (k + s)) c1 m1 = some (r, c2) ∧ sb_Fit c2 := by
  intro m1 c1 h1 h2 h3
  obtain ⟨⟨r, c2⟩, e, f⟩ := gc_tot (i := i) hK h1 h3 h h2
  exact ⟨r, c2, e, f⟩
theorem gc_ofd {K k i : Nat} (hK : 200000 ≤ K) (hi : i < 8) : ∀ (m1 : Nat) (c1 : Nat → Int32), m1 ≤ 34 → k + 1 ≤ m1 → sb_Fit c1 → ∃ r c2, F_J6_getChars_ba4f3 K (nI i) (nI (k + 1)) c1 m1 = some (r, c2) ∧ sb_Fit c2 := by
  intro m1 c1 h1 h2 h3
  obtain ⟨⟨r, c2⟩, e, f⟩ := gc_dig hK hi h1 h3 (show 1 ≤ k + 1 by omega) h2
  exact ⟨r, c2, e, f⟩
theorem ca4_ok {n mz i : Nat} {c : Nat → Int32} (hi : i < n) (hn : n ≤ mz) (hm : mz ≤ 34) : ∃ r, F_J4_charAt_5068e (nI i) c 0 (nI n) mz = some r := by
  obtain ⟨r, e, -⟩ := ca_ok (c := c) hi hn hm
  refine ⟨r, ?_⟩
  unfold F_J4_charAt_5068e
  rw [e, xb1]
def v_h_spell : List Cond := List.cons (.code yX7_spell cX7_spell 4 (some .int)) (HAppend.hAppend (α := List Cond) (β := List Cond) (γ := List Cond) [.fieldLink RX7 35 "HushWatch" "now" "LHushWatch$State;", .classLink RX7 265 RJ4, .instantiable RJ4 4, .initialized RJ4, .methodLink RX7 267 yJ4_init_da8c8, .instanceMethod yJ4_init_da8c8, .methodLink RX7 120 yX5_hasSite, .instanceMethod yX5_hasSite, .selects RX5 yX5_hasSite yX5_hasSite, .initialized RX5, .methodLink RX7 270 yJ4_append_15ec4, .instanceMethod yJ4_append_15ec4, .selects RJ4 yJ4_append_15ec4 yJ4_append_15ec4, .methodLink RX7 274 yJ4_append_bf812, .instanceMethod yJ4_append_bf812, .selects RJ4 yJ4_append_bf812 yJ4_append_bf812, .methodLink RX7 140 yX5_of, .instanceMethod yX5_of, .selects RX5 yX5_of yX5_of, .methodLink RX7 279 yJ4_append_cf468, .instanceMethod yJ4_append_cf468, .selects RJ4 yJ4_append_cf468 yJ4_append_cf468, .methodLink RX7 137 yX5_isQuiet, .instanceMethod yX5_isQuiet, .selects RX5 yX5_isQuiet yX5_isQuiet, .methodLink RX7 282 yJ4_length_8abf5, .instanceMethod yJ4_length_8abf5, .selects RJ4 yJ4_length_8abf5 yJ4_length_8abf5, .methodLink RX7 284 yJ4_charAt_5068e, .instanceMethod yJ4_charAt_5068e, .selects RJ4 yJ4_charAt_5068e yJ4_charAt_5068e] (HAppend.hAppend (α := List Cond) (β := List Cond) (γ := List Cond) wsX70 (HAppend.hAppend (α := List Cond) (β := List Cond) (γ := List Cond) v_f_X5_hasSite (HAppend.hAppend (α := List Cond) (β := List Cond) (γ := List Cond) wsJ40 (HAppend.hAppend (α := List Cond) (β := List Cond) (γ := List Cond) v_h_init4 (HAppend.hAppend (α := List Cond) (β := List Cond) (γ := List Cond) v_h_appS (HAppend.hAppend (α := List Cond) (β := List Cond) (γ := List Cond) v_h_appI (HAppend.hAppend (α := List Cond) (β := List Cond) (γ := List Cond) v_f_X5_of (HAppend.hAppend (α := List Cond) (β := List Cond) (γ := List Cond) v_h_appC (HAppend.hAppend (α := List Cond) (β := List Cond) (γ := List Cond) v_f_X5_isQuiet (HAppend.hAppend (α := List Cond) (β := List Cond) (γ := List Cond) v_f_J4_length_8abf5 (HAppend.hAppend (α := List Cond) (β := List Cond) (γ := List Cond) v_f_J4_charAt_5068e []))))))))))))
theorem gw_h_spell : v_h_spell.all goodWord = true := gw_c2 (by decide +kernel) (gw_ap gw_wsX70 (gw_ap gw_f_X5_hasSite (gw_ap gw_wsJ40 (gw_ap gw_h_init4 (gw_ap gw_h_appS (gw_ap gw_h_appI (gw_ap gw_f_X5_of (gw_ap gw_h_appC (gw_ap gw_f_X5_isQuiet (gw_ap gw_f_J4_length_8abf5 (gw_ap gw_f_J4_charAt_5068e gw_nil)))))))))))
theorem i_h_spell_X7 : ∀ w ∈ wsX70, w ∈ v_h_spell := fun _ h => List.mem_cons_of_mem _ (List.mem_append_right _ (List.mem_append_left _ h))
theorem i_h_spell_J4 : ∀ w ∈ wsJ40, w ∈ v_h_spell := fun _ h => List.mem_cons_of_mem _ (List.mem_append_right _ (List.mem_append_right _ (List.mem_append_right _ (List.mem_append_left _ h))))
theorem g_h_spell_f_X5_hasSite_120 : GoodIn v_h_spell (wsV RX7 120 RX5 yX5_hasSite v_f_X5_hasSite) := goodIn_in gw_h_spell (in4 7 8 9 10 rfl rfl rfl rfl (fun _ h => List.mem_cons_of_mem _ (List.mem_append_right _ (List.mem_append_right _ (List.mem_append_left _ h)))))
theorem g_h_spell_h_init4_267 : GoodIn v_h_spell v_h_init4 := goodIn_sub (fun _ h => List.mem_cons_of_mem _ (List.mem_append_right _ (List.mem_append_right _ (List.mem_append_right _ (List.mem_append_right _ (List.mem_append_left _ h)))))) gw_h_init4
theorem g_h_spell_h_appS_270 : GoodIn v_h_spell (wsV RX7 270 RJ4 yJ4_append_15ec4 v_h_appS) := goodIn_in gw_h_spell (in4 11 12 13 4 rfl rfl rfl rfl (fun _ h => List.mem_cons_of_mem _ (List.mem_append_right _ (List.mem_append_right _ (List.mem_append_right _ (List.mem_append_right _ (List.mem_append_right _ (List.mem_append_left _ h))))))))
theorem g_h_spell_h_appI_274 : GoodIn v_h_spell (wsV RX7 274 RJ4 yJ4_append_bf812 v_h_appI) := goodIn_in gw_h_spell (in4 14 15 16 4 rfl rfl rfl rfl (fun _ h => List.mem_cons_of_mem _ (List.mem_append_right _ (List.mem_append_right _ (List.mem_append_right _ (List.mem_append_right _ (List.mem_append_right _ (List.mem_append_right _ (List.mem_append_left _ h)))))))))
theorem g_h_spell_f_X5_of_140 : GoodIn v_h_spell (wsV RX7 140 RX5 yX5_of v_f_X5_of) := goodIn_in gw_h_spell (in4 17 18 19 10 rfl rfl rfl rfl (fun _ h => List.mem_cons_of_mem _ (List.mem_append_right _ (List.mem_append_right _ (List.mem_append_right _ (List.mem_append_right _ (List.mem_append_right _ (List.mem_append_right _ (List.mem_append_right _ (List.mem_append_left _ h))))))))))
theorem g_h_spell_h_appC_279 : GoodIn v_h_spell (wsV RX7 279 RJ4 yJ4_append_cf468 v_h_appC) := goodIn_in gw_h_spell (in4 20 21 22 4 rfl rfl rfl rfl (fun _ h => List.mem_cons_of_mem _ (List.mem_append_right _ (List.mem_append_right _ (List.mem_append_right _ (List.mem_append_right _ (List.mem_append_right _ (List.mem_append_right _ (List.mem_append_right _ (List.mem_append_right _ (List.mem_append_left _ h)))))))))))
theorem g_h_spell_f_X5_isQuiet_137 : GoodIn v_h_spell (wsV RX7 137 RX5 yX5_isQuiet v_f_X5_isQuiet) := goodIn_in gw_h_spell (in4 23 24 25 10 rfl rfl rfl rfl (fun _ h => List.mem_cons_of_mem _ (List.mem_append_right _ (List.mem_append_right _ (List.mem_append_right _ (List.mem_append_right _ (List.mem_append_right _ (List.mem_append_right _ (List.mem_append_right _ (List.mem_append_right _ (List.mem_append_right _ (List.mem_append_left _ h))))))))))))
theorem g_h_spell_f_J4_length_8abf5_282 : GoodIn v_h_spell (wsV RX7 282 RJ4 yJ4_length_8abf5 v_f_J4_length_8abf5) := goodIn_in gw_h_spell (in4 26 27 28 4 rfl rfl rfl rfl (fun _ h => List.mem_cons_of_mem _ (List.mem_append_right _ (List.mem_append_right _ (List.mem_append_right _ (List.mem_append_right _ (List.mem_append_right _ (List.mem_append_right _ (List.mem_append_right _ (List.mem_append_right _ (List.mem_append_right _ (List.mem_append_right _ (List.mem_append_left _ h)))))))))))))
theorem g_h_spell_f_J4_charAt_5068e_284 : GoodIn v_h_spell (wsV RX7 284 RJ4 yJ4_charAt_5068e v_f_J4_charAt_5068e) := goodIn_in gw_h_spell (in4 29 30 31 4 rfl rfl rfl rfl (fun _ h => List.mem_cons_of_mem _ (List.mem_append_right _ (List.mem_append_right _ (List.mem_append_right _ (List.mem_append_right _ (List.mem_append_right _ (List.mem_append_right _ (List.mem_append_right _ (List.mem_append_right _ (List.mem_append_right _ (List.mem_append_right _ (List.mem_append_right _ (List.mem_append_left _ h))))))))))))))
set_option maxHeartbeats 4000000 in
set_option maxRecDepth 100000 in
theorem h_spell (l : Launch) (E : EE) (sz : Nat) (K : Nat) (z9 : Nat → Nat) {a_ a_tape a_reader a_scripts a_now a_trial a_kept a_book a_keptBook a_history a_draws a_refused a_now_row a_now_partners a_now_share a_now_leftOver : Nat} {p1 p2 : Int32} {c_hasImage : Int32} {c_now_askedCount : Int32} {c_now_outcome : Int32} {c_now_row : Nat → Int32} (hK9 : 200000 ≤ K) (hxy : ∀ (i9 : Nat) (v9 : Int32), i9 < 8 → p1 = nI i9 → ∀ h0, F_X5_hasSite p1 c_now_row = some h0 → ¬ h0 = 0 → (F_X5_of (nI i9) 0 c_now_row = some v9 ∨ F_X5_of (nI i9) 1 c_now_row = some v9) → -99999 ≤ v9.toInt ∧ v9.toInt ≤ 99999) : Met l yX7_spell v_h_spell (({ frames := 6, cells := 9, slots := 258, locals := 148 } : Room)) (va_Pc [.ref a_, .int p1, .int p2] (qWZ E z9 sz (w_X7_goes E a_ a_tape a_reader a_scripts a_now a_trial a_kept a_book a_keptBook a_history a_draws a_refused a_now_row a_now_partners a_now_share a_now_leftOver c_hasImage c_now_askedCount c_now_outcome c_now_row))) (va_Qi (fun (r : Int32) (_u : Unit) => SpA p1 p2 c_now_row r) (fun (_u : Unit) tt => va_P E.1 vwCl (w_X7_goes E a_ a_tape a_reader a_scripts a_now a_trial a_kept a_book a_keptBook a_history a_draws a_refused a_now_row a_now_partners a_now_share a_now_leftOver c_hasImage c_now_askedCount c_now_outcome c_now_row) tt.heap ∧ va_D (va_A (w_X7_goes E a_ a_tape a_reader a_scripts a_now a_trial a_kept a_book a_keptBook a_history a_draws a_refused a_now_row a_now_partners a_now_share a_now_leftOver c_hasImage c_now_askedCount c_now_outcome c_now_row) sz) (w_X7_goes E a_ a_tape a_reader a_scripts a_now a_trial a_kept a_book a_keptBook a_history a_draws a_refused a_now_row a_now_partners a_now_share a_now_leftOver c_hasImage c_now_askedCount c_now_outcome c_now_row)) (va_A (w_X7_goes E a_ a_tape a_reader a_scripts a_now a_trial a_kept a_book a_keptBook a_history a_draws a_refused a_now_row a_now_partners a_now_share a_now_leftOver c_hasImage c_now_askedCount c_now_outcome c_now_row) sz)) 9 258 (va_A (w_X7_goes E a_ a_tape a_reader a_scripts a_now a_trial a_kept a_book a_keptBook a_history a_draws a_refused a_now_row a_now_partners a_now_share a_now_leftOver c_hasImage c_now_askedCount c_now_outcome c_now_row) sz) := by
  refine Met.ofW (cc := cX7_spell) (maxL := 4) (ret := (some .int)) (by decide) rfl ?_
  intro p e s m args below meth c s₁ B hml hv
  obtain ⟨rfl, hsz, ⟨hK, hN⟩, hP, hD0, hZ⟩ := hv
  have hx := B.exec
  have hb := B.bytes
  have hr := B.returns
  have hts := atoms_spec (ws := v_h_spell) B.pre
  have hown : s.vm.findClass RX7 = some m.cls := own_of (by decide +kernel) (findClass_of_methodNamed B.named)
  have hlocks : meth.locks = false := B.notSynchronized
  subst hsz
  have hD := hD0.self (sz := s.heap.size)
  generalize hAe : va_A (w_X7_goes E a_ a_tape a_reader a_scripts a_now a_trial a_kept a_book a_keptBook a_history a_draws a_refused a_now_row a_now_partners a_now_share a_now_leftOver c_hasImage c_now_askedCount c_now_outcome c_now_row) s.heap.size = A at hD hZ ⊢
  have hA : ∀ q : Nat, s.heap.size ≤ q → A q := fun q h => by rw [← hAe]; exact Or.inr h
  have hS : va_S A s.heap s.heap [] := va_S.rf
  have hl := lv_entry ([.ref a_, .int p1, .int p2]) (n := 4) (Nat.le_of_ble_eq_true rfl)
  rw [lg_entry_eq]
  generalize (lg_sl ([.ref a_, .int p1, .int p2]) ++ List.replicate (4 - (lg_sl ([.ref a_, .int p1, .int p2])).length) Slot.unset).toArray = ls at hl ⊢
  have hl : lv_has ls 4 [(0, .ref a_), (1, .int p1), (2, .int p2)] := hl
  obtain ⟨Q, hQ⟩ : ∃ Q : State → Prop, Q = MQ below (va_Qi (fun (r : Int32) (_u : Unit) => SpA p1 p2 c_now_row r) (fun (_u : Unit) tt => va_P E.1 vwCl (w_X7_goes E a_ a_tape a_reader a_scripts a_now a_trial a_kept a_book a_keptBook a_history a_draws a_refused a_now_row a_now_partners a_now_share a_now_leftOver c_hasImage c_now_askedCount c_now_outcome c_now_row) tt.heap ∧ va_D A (w_X7_goes E a_ a_tape a_reader a_scripts a_now a_trial a_kept a_book a_keptBook a_history a_draws a_refused a_now_row a_now_partners a_now_share a_now_leftOver c_hasImage c_now_askedCount c_now_outcome c_now_row)) A) #[Value.ref a_, Value.int p1, Value.int p2] s 9 258 A := ⟨_, rfl⟩
  rw [← hQ]
  change W p l e ({ frames := 6, cells := 9, slots := 258, locals := 148 } : Room) s m #[Value.ref a_, Value.int p1, Value.int p2] below meth c s.heap [] 0 0 Q (F0 m 0 ls [])
  suffices hh9 : ∀ (H : Heap) (locs : List Loc), va_P E.1 vwCl (w_X7_goes E a_ a_tape a_reader a_scripts a_now a_trial a_kept a_book a_keptBook a_history a_draws a_refused a_now_row a_now_partners a_now_share a_now_leftOver c_hasImage c_now_askedCount c_now_outcome c_now_row) H → va_D A (w_X7_goes E a_ a_tape a_reader a_scripts a_now a_trial a_kept a_book a_keptBook a_history a_draws a_refused a_now_row a_now_partners a_now_share a_now_leftOver c_hasImage c_now_askedCount c_now_outcome c_now_row) → va_S A s.heap H locs → W p l e ({ frames := 6, cells := 9, slots := 258, locals := 148 } : Room) s m #[Value.ref a_, Value.int p1, Value.int p2] below meth c H locs 0 0 Q (F0 m 0 ls []) from hh9 s.heap [] hP hD hS
  clear hP hD hS
  intro H locs hP hD hS
  have h9 := fixPD (ws' := [k_X7 a_ a_tape a_reader a_scripts a_now a_trial a_kept a_book a_keptBook a_history a_draws a_refused c_hasImage, k_X5 a_now a_now_row a_now_partners c_now_askedCount c_now_outcome a_now_share a_now_leftOver, k_I E a_now_row 81 c_now_row]) hP hD rfl
  clear hP hD
  obtain ⟨hP, hD⟩ := h9
  obtain ⟨h0, hh0, hh1⟩ := hs_ok (p1 := p1) (f := c_now_row)
  refine lv_aload_n hx hb (dq_42 0 bcX7_spell_0 (j := 0) rfl rfl) rfl (lv_at hl 0 rfl) ?_
  refine va_get (D := E.1) (ci := 8) (v := .ref a_now) (C := RX7) (T := TX7) (N := 12) hx hb hts i_h_spell_X7 hown hK hP 0 rfl rfl 3 (by decide) (hts (.fieldLink RX7 35 "HushWatch" "now" "LHushWatch$State;") (List.mem_of_getElem? (i := 1) rfl)) (fun _ h9 => h9) rfl (dq_180 0 bcX7_spell_0 (j := 1) (i := 35) rfl rfl rfl) ?_
  refine lv_iload_n hx hb (dq_27 0 bcX7_spell_0 (j := 4) rfl rfl) rfl (lv_at hl 1 rfl) ?_
  have hPc : va_P E.1 vwCl (w_X5_hasSite E a_now a_now_row a_now_partners a_now_share a_now_leftOver c_now_askedCount c_now_outcome c_now_row) H := hP.sub (ws' := [k_X5 a_now a_now_row a_now_partners c_now_askedCount c_now_outcome a_now_share a_now_leftOver, k_I E a_now_row 81 c_now_row]) [1, 2] rfl
  have hrc := va_recv hK hPc (ci := 6) (q0 := 0) rfl rfl
  refine pE_z (va_runV (As := [.int p1]) (rest := []) ⟨hx, hb, hml, hown, hts⟩ (f_X5_hasSite l E (a_ := a_now) (a_row := a_now_row) (a_partners := a_now_partners) (a_share := a_now_share) (a_leftOver := a_now_leftOver) (p1 := p1) (c_askedCount := c_now_askedCount) (c_outcome := c_now_outcome) (c_row := c_now_row) hh0) (cwV 1 hts g_h_spell_f_X5_hasSite_120 rfl rfl rfl (by decide +kernel) ⟨Nat.le_of_ble_eq_true rfl, Nat.le_of_ble_eq_true rfl⟩) ⟨pP.blind, hrc, (pP.pre ⟨hK, hN⟩ hPc)⟩ rfl rfl hl.1 rfl (lv_room (Nat.le_of_ble_eq_true rfl)) (dq_182 0 bcX7_spell_0 (j := 5) (i := 120) rfl rfl rfl) ⟨Nat.le_of_ble_eq_true rfl, Nat.le_of_ble_eq_true rfl⟩) (fun hb_1 => ?_)
  refine lv_if_ne (tgt := 13) hx hb (dq_154 0 bcX7_spell_0 (j := 8) (i := 5) rfl rfl rfl) (by decide) (fun q => ?_) (fun q => ?_)
  rotate_left 1
  ·
    refine lv_iconst (v := -1) hx hb (dq_2 0 bcX7_spell_0 (j := 11) rfl rfl) (by decide) ?_
    refine W.widen (k := 9) (n := 258) (Nat.le_of_ble_eq_true rfl) (Nat.le_of_ble_eq_true rfl) ?_
    have hP9 := hP.sub (ws' := [k_X7 a_ a_tape a_reader a_scripts a_now a_trial a_kept a_book a_keptBook a_history a_draws a_refused c_hasImage, k_X5 a_now a_now_row a_now_partners c_now_askedCount c_now_outcome a_now_share a_now_leftOver, k_I E a_now_row 81 c_now_row]) [0, 1, 2] rfl
    have hD9 := hD.sub (ws' := [k_X7 a_ a_tape a_reader a_scripts a_now a_trial a_kept a_book a_keptBook a_history a_draws a_refused c_hasImage, k_X5 a_now a_now_row a_now_partners c_now_askedCount c_now_outcome a_now_share a_now_leftOver, k_I E a_now_row 81 c_now_row]) [0, 1, 2] (by decide) rfl
    rw [hQ]
    exact W.iret (v := -1) hx hb hr (fun tt ht hW => ⟨⟨_, (), rfl, SpA.no hh0 q, by rw [ht]; exact hP9, hD9⟩, hS.F ht⟩) hS.2.2 (dq_172 0 bcX7_spell_0 (j := 12) rfl rfl)
  obtain ⟨i9, hi9, rfl⟩ := hh1 q
  refine va_new (ci := 0) (fs := [.null, .int (0 : Int32), .int (0 : Int32), .int (0 : Int32)]) (C := RJ4) (T := TJ4) (N := 4) hx hb hts i_h_spell_J4 tyJ4 tyJ4_ok hown (hts (.classLink RX7 265 RJ4) (List.mem_of_getElem? (i := 2) rfl)) (hts (.instantiable RJ4 4) (List.mem_of_getElem? (i := 3) rfl)) (hts (.initialized RJ4) (List.mem_of_getElem? (i := 4) rfl)) hK hP hD hS hA rfl (fun j hj => by rcases (show j = 0 ∨ j = 1 ∨ j = 2 ∨ j = 3 by omega) with rfl | rfl | rfl | rfl <;> rfl) (Nat.le_of_ble_eq_true rfl) (Nat.le_of_ble_eq_true rfl) (dq_187 0 bcX7_spell_0 (j := 13) (i := 265) rfl rfl rfl) (fun q_2 H hP hD hS => ?_)
  have h9 := fixPD (ws' := [k_X7 a_ a_tape a_reader a_scripts a_now a_trial a_kept a_book a_keptBook a_history a_draws a_refused c_hasImage, k_X5 a_now a_now_row a_now_partners c_now_askedCount c_now_outcome a_now_share a_now_leftOver, k_I E a_now_row 81 c_now_row, (q_2, .inr (0, [.null, .int (0 : Int32), .int (0 : Int32), .int (0 : Int32)]))]) hP hD rfl
  clear hP hD
  obtain ⟨hP, hD⟩ := h9
  refine W.widen (k := 1) (n := 4) (Nat.le_of_ble_eq_true rfl) (Nat.le_of_ble_eq_true rfl) ?_
  refine lv_dup hx hb (dq_89 0 bcX7_spell_0 (j := 16) rfl rfl) rfl ?_
  obtain ⟨hPc, hDc, hFc⟩ := wcut (wc := [(q_2, .inr (0, [.null, .int 0, .int 0, .int 0]))]) hP hD hS hA [3] (by decide) rfl
  refine va_callv (va_runI (As := []) (rest := [.ref q_2]) ⟨hx, hb, hml, hown, hts⟩ (h_init4 l E H.size z9 (av := q_2)) (cwI 0 hts g_h_spell_h_init4_267 rfl rfl rfl (hts (.initialized RJ4) (List.mem_of_getElem? (i := 4) rfl)) (hts (.methodLink RX7 267 yJ4_init_da8c8) (List.mem_of_getElem? (i := 5) rfl)) (hts (.instanceMethod yJ4_init_da8c8) (List.mem_of_getElem? (i := 6) rfl)) rfl (by decide +kernel) ⟨Nat.le_of_ble_eq_true rfl, Nat.le_of_ble_eq_true rfl⟩) ⟨qWZ.blind, (qWZ.pre ⟨hK, hN⟩ hPc hDc hZ hS hFc)⟩ rfl rfl hl.1 rfl (lv_room (Nat.le_of_ble_eq_true rfl)) (dq_183 0 bcX7_spell_0 (j := 17) (i := 267) rfl rfl rfl) ⟨Nat.le_of_ble_eq_true rfl, Nat.le_of_ble_eq_true rfl⟩) hS (fun q _ h => hFc q h) hFc (fun u9  tt H1 locs ht hvm hw hB hz1 hk1 hS => ?_)
  obtain ⟨hP1, hD1⟩ := hB
  rw [ht] at hP1
  obtain ⟨hP, hD⟩ := va_join (wr := [k_X7 a_ a_tape a_reader a_scripts a_now a_trial a_kept a_book a_keptBook a_history a_draws a_refused c_hasImage, k_X5 a_now a_now_row a_now_partners c_now_askedCount c_now_outcome a_now_share a_now_leftOver, k_I E a_now_row 81 c_now_row]) (w1 := [k_J4 q_2 u9 (0 : Int32) 0 0, k_B E u9 16 (fun _ => 0)]) hP hD [3] [0, 1, 2] rfl rfl (by decide) (by decide) hk1 hFc hP1 hD1
  generalize H1 = H at hP hS ⊢
  have h9 := fixPD (ws' := [k_X7 a_ a_tape a_reader a_scripts a_now a_trial a_kept a_book a_keptBook a_history a_draws a_refused c_hasImage, k_X5 a_now a_now_row a_now_partners c_now_askedCount c_now_outcome a_now_share a_now_leftOver, k_I E a_now_row 81 c_now_row, k_J4 q_2 u9 (0 : Int32) 0 0, k_B E u9 16 (fun _ => 0)]) hP hD rfl
  clear hP hD
  obtain ⟨hP, hD⟩ := h9
  refine W.widen (k := 2) (n := 20) (Nat.le_of_ble_eq_true rfl) (Nat.le_of_ble_eq_true rfl) ?_
  generalize u9 = v0 at hP hD
  have h9 := fixPD (ws' := [k_X7 a_ a_tape a_reader a_scripts a_now a_trial a_kept a_book a_keptBook a_history a_draws a_refused c_hasImage, k_X5 a_now a_now_row a_now_partners c_now_askedCount c_now_outcome a_now_share a_now_leftOver, k_I E a_now_row 81 c_now_row, k_J4 q_2 v0 (0 : Int32) 0 0, k_B E v0 16 (fun _ => 0)]) hP hD rfl
  clear hP hD
  obtain ⟨hP, hD⟩ := h9
  have T0 : Tx [] (fun _ => 0) := fun j h => absurd h (Nat.not_lt_zero _)
  have l0 : ([] : List Int32).length = 0 := rfl
  have ib9 := i8_b hi9
  have in9_ := num_len ib9.1 ib9.2
  refine lv_astore_n (lv' := [(3, .ref q_2), (0, .ref a_), (1, .int (nI i9)), (2, .int p2)]) hx hb (dq_78 0 bcX7_spell_0 (j := 20) rfl rfl) rfl hl (by decide) rfl (fun ls hl => ?_)
  refine lv_aload_n hx hb (dq_45 0 bcX7_spell_0 (j := 21) rfl rfl) rfl (lv_at hl 0 rfl) ?_
  refine my_ldcwS hx hb hown (ZZ.s12 hZ) (dq_19 0 bcX7_spell_0 (j := 22) (i := 268) rfl rfl rfl) ?_
  obtain ⟨hPc, hDc, hFc⟩ := wcut (wc := (wSB E q_2 v0 16 0 (nI (0)) (fun _ => 0))) hP hD hS hA [3, 4] (by decide) rfl
  have hrc := va_recv hK hPc (ci := 0) (q0 := 0) rfl rfl
  refine va_callr (va_runV (As := [.ref (z9 (20 + 12))]) (rest := []) ⟨hx, hb, hml, hown, hts⟩ (h_appS l E H.size z9 (av := q_2) (vv := v0) (mz := 16) (kk := 0) (ml := 0) (fc := (fun _ => 0)) (L := ([] : List Int32)) (M := (strB.getD 12 [])) (pp := 12) (w9 := 5) (Or.inl rfl) (by decide) sb_fit0 (Or.inl ⟨rfl, rfl⟩) T0 l0 (Nat.zero_le _) rfl) (cwV 1 hts g_h_spell_h_appS_270 rfl rfl rfl (by decide +kernel) ⟨Nat.le_of_ble_eq_true rfl, Nat.le_of_ble_eq_true rfl⟩) ⟨qWZ.blind, hrc, (qWZ.pre ⟨hK, hN⟩ hPc hDc hZ hS hFc)⟩ rfl rfl hl.1 rfl (lv_room (Nat.le_of_ble_eq_true rfl)) (dq_182 0 bcX7_spell_0 (j := 25) (i := 270) rfl rfl rfl) ⟨Nat.le_of_ble_eq_true rfl, Nat.le_of_ble_eq_true rfl⟩) hS (fun q _ h => hFc q h) hFc (fun u9 ra_3 tt H1 locs ht hvm hw hB hz1 hk1 hS => ?_)
  obtain ⟨v1, m1, c1⟩ := u9
  obtain ⟨e11, e12, e14, e15⟩ := hw
  obtain ⟨hra, hP1, hD1⟩ := hB
  rw [hra]
  rw [ht] at hP1
  obtain ⟨hP, hD⟩ := va_join (wr := [k_X7 a_ a_tape a_reader a_scripts a_now a_trial a_kept a_book a_keptBook a_history a_draws a_refused c_hasImage, k_X5 a_now a_now_row a_now_partners c_now_askedCount c_now_outcome a_now_share a_now_leftOver, k_I E a_now_row 81 c_now_row]) (w1 := [k_J4 q_2 v1 (0 : Int32) 0 (nI (0 + 5)), k_B E v1 m1 c1]) hP hD [3, 4] [0, 1, 2] rfl rfl (by decide) (by decide) hk1 hFc hP1 hD1
  generalize H1 = H at hP hS ⊢
  have h9 := fixPD (ws' := [k_X7 a_ a_tape a_reader a_scripts a_now a_trial a_kept a_book a_keptBook a_history a_draws a_refused c_hasImage, k_X5 a_now a_now_row a_now_partners c_now_askedCount c_now_outcome a_now_share a_now_leftOver, k_I E a_now_row 81 c_now_row, k_J4 q_2 v1 (0 : Int32) 0 (nI (0 + 5)), k_B E v1 m1 c1]) hP hD rfl
  clear hP hD
  obtain ⟨hP, hD⟩ := h9
  refine W.widen (k := 3) (n := 54) (Nat.le_of_ble_eq_true rfl) (Nat.le_of_ble_eq_true rfl) ?_
  have e11 : OKm m1 := e11
  have e12 : 0 + 5 ≤ m1 := e12
  have e14 : sb_Fit c1 := e14
  have e15 : Tx (([] : List Int32) ++ (strB.getD 12 [])) c1 := e15
  have l1 : (([] : List Int32) ++ (strB.getD 12 [])).length = 0 + 5 := List.length_append.trans (congrArg (fun z => z + 5) l0)
  refine lv_pop hx hb (dq_87 0 bcX7_spell_0 (j := 28) rfl rfl) rfl ?_
  refine lv_aload_n hx hb (dq_45 0 bcX7_spell_0 (j := 29) rfl rfl) rfl (lv_at hl 0 rfl) ?_
  refine lv_iload_n hx hb (dq_27 0 bcX7_spell_0 (j := 30) rfl rfl) rfl (lv_at hl 2 rfl) ?_
  obtain ⟨hPc, hDc, hFc⟩ := wcut (wc := (wSB E q_2 v1 m1 0 (nI (0 + 5)) c1)) hP hD hS hA [3, 4] (by decide) rfl
  have hrc := va_recv hK hPc (ci := 0) (q0 := 0) rfl rfl
  refine va_callr (va_runV (As := [.int (nI i9)]) (rest := []) ⟨hx, hb, hml, hown, hts⟩ (h_appI l E H.size K z9 (av := q_2) (vv := v1) (mz := m1) (kk := 0 + 5) (ml := 0) (fc := c1) (L := (([] : List Int32) ++ (strB.getD 12 []))) (M := (numL (nI i9))) (iv := nI i9) (s9 := (numL (nI i9)).length) e11 (show 0 + 5 + (numL (nI i9)).length ≤ 34 by omega) e14 (ss_num hK9 ib9.1 ib9.2) (gc_ofD hK9 hi9 l1) e15 l1 e12) (cwV 1 hts g_h_spell_h_appI_274 rfl rfl rfl (by decide +kernel) ⟨Nat.le_of_ble_eq_true rfl, Nat.le_of_ble_eq_true rfl⟩) ⟨qWZ.blind, hrc, (qWZ.pre ⟨hK, hN⟩ hPc hDc hZ hS hFc)⟩ rfl rfl hl.1 rfl (lv_room (Nat.le_of_ble_eq_true rfl)) (dq_182 0 bcX7_spell_0 (j := 31) (i := 274) rfl rfl rfl) ⟨Nat.le_of_ble_eq_true rfl, Nat.le_of_ble_eq_true rfl⟩) hS (fun q _ h => hFc q h) hFc (fun u9 ra_4 tt H1 locs ht hvm hw hB hz1 hk1 hS => ?_)
  obtain ⟨v2, m2, c2⟩ := u9
  obtain ⟨e21, e22, e24, e25⟩ := hw
  obtain ⟨hra, hP1, hD1⟩ := hB
  rw [hra]
  rw [ht] at hP1
  obtain ⟨hP, hD⟩ := va_join (wr := [k_X7 a_ a_tape a_reader a_scripts a_now a_trial a_kept a_book a_keptBook a_history a_draws a_refused c_hasImage, k_X5 a_now a_now_row a_now_partners c_now_askedCount c_now_outcome a_now_share a_now_leftOver, k_I E a_now_row 81 c_now_row]) (w1 := [k_J4 q_2 v2 (0 : Int32) 0 (nI (0 + 5 + (numL (nI i9)).length)), k_B E v2 m2 c2]) hP hD [3, 4] [0, 1, 2] rfl rfl (by decide) (by decide) hk1 hFc hP1 hD1
  generalize H1 = H at hP hS ⊢
  have h9 := fixPD (ws' := [k_X7 a_ a_tape a_reader a_scripts a_now a_trial a_kept a_book a_keptBook a_history a_draws a_refused c_hasImage, k_X5 a_now a_now_row a_now_partners c_now_askedCount c_now_outcome a_now_share a_now_leftOver, k_I E a_now_row 81 c_now_row, k_J4 q_2 v2 (0 : Int32) 0 (nI (0 + 5 + (numL (nI i9)).length)), k_B E v2 m2 c2]) hP hD rfl
  clear hP hD
  obtain ⟨hP, hD⟩ := h9
  refine W.widen (k := 4) (n := 88) (Nat.le_of_ble_eq_true rfl) (Nat.le_of_ble_eq_true rfl) ?_
  have e21 : OKm m2 := e21
  have e22 : 0 + 5 + (numL (nI i9)).length ≤ m2 := e22
  have e24 : sb_Fit c2 := e24
  have e25 : Tx ((([] : List Int32) ++ (strB.getD 12 [])) ++ (numL (nI i9))) c2 := e25
  have l2 : ((([] : List Int32) ++ (strB.getD 12 [])) ++ (numL (nI i9))).length = 0 + 5 + (numL (nI i9)).length := List.length_append.trans (congrArg (fun z => z + (numL (nI i9)).length) l1)
  refine lv_pop hx hb (dq_87 0 bcX7_spell_0 (j := 34) rfl rfl) rfl ?_
  refine lv_aload_n hx hb (dq_45 0 bcX7_spell_0 (j := 35) rfl rfl) rfl (lv_at hl 0 rfl) ?_
  refine my_ldcwS hx hb hown (ZZ.s13 hZ) (dq_19 0 bcX7_spell_0 (j := 36) (i := 277) rfl rfl rfl) ?_
  obtain ⟨hPc, hDc, hFc⟩ := wcut (wc := (wSB E q_2 v2 m2 0 (nI (0 + 5 + (numL (nI i9)).length)) c2)) hP hD hS hA [3, 4] (by decide) rfl
  have hrc := va_recv hK hPc (ci := 0) (q0 := 0) rfl rfl
  refine va_callr (va_runV (As := [.ref (z9 (20 + 13))]) (rest := []) ⟨hx, hb, hml, hown, hts⟩ (h_appS l E H.size z9 (av := q_2) (vv := v2) (mz := m2) (kk := 0 + 5 + (numL (nI i9)).length) (ml := 0) (fc := c2) (L := ((([] : List Int32) ++ (strB.getD 12 [])) ++ (numL (nI i9)))) (M := (strB.getD 13 [])) (pp := 13) (w9 := 4) e21 (show 0 + 5 + (numL (nI i9)).length + 4 ≤ 34 by omega) e24 (Or.inr ⟨rfl, rfl⟩) e25 l2 e22 rfl) (cwV 1 hts g_h_spell_h_appS_270 rfl rfl rfl (by decide +kernel) ⟨Nat.le_of_ble_eq_true rfl, Nat.le_of_ble_eq_true rfl⟩) ⟨qWZ.blind, hrc, (qWZ.pre ⟨hK, hN⟩ hPc hDc hZ hS hFc)⟩ rfl rfl hl.1 rfl (lv_room (Nat.le_of_ble_eq_true rfl)) (dq_182 0 bcX7_spell_0 (j := 39) (i := 270) rfl rfl rfl) ⟨Nat.le_of_ble_eq_true rfl, Nat.le_of_ble_eq_true rfl⟩) hS (fun q _ h => hFc q h) hFc (fun u9 ra_5 tt H1 locs ht hvm hw hB hz1 hk1 hS => ?_)
  obtain ⟨v3, m3, c3⟩ := u9
  obtain ⟨e31, e32, e34, e35⟩ := hw
  obtain ⟨hra, hP1, hD1⟩ := hB
  rw [hra]
  rw [ht] at hP1
  obtain ⟨hP, hD⟩ := va_join (wr := [k_X7 a_ a_tape a_reader a_scripts a_now a_trial a_kept a_book a_keptBook a_history a_draws a_refused c_hasImage, k_X5 a_now a_now_row a_now_partners c_now_askedCount c_now_outcome a_now_share a_now_leftOver, k_I E a_now_row 81 c_now_row]) (w1 := [k_J4 q_2 v3 (0 : Int32) 0 (nI (0 + 5 + (numL (nI i9)).length + 4)), k_B E v3 m3 c3]) hP hD [3, 4] [0, 1, 2] rfl rfl (by decide) (by decide) hk1 hFc hP1 hD1
  generalize H1 = H at hP hS ⊢
  have h9 := fixPD (ws' := [k_X7 a_ a_tape a_reader a_scripts a_now a_trial a_kept a_book a_keptBook a_history a_draws a_refused c_hasImage, k_X5 a_now a_now_row a_now_partners c_now_askedCount c_now_outcome a_now_share a_now_leftOver, k_I E a_now_row 81 c_now_row, k_J4 q_2 v3 (0 : Int32) 0 (nI (0 + 5 + (numL (nI i9)).length + 4)), k_B E v3 m3 c3]) hP hD rfl
  clear hP hD
  obtain ⟨hP, hD⟩ := h9
  refine W.widen (k := 5) (n := 122) (Nat.le_of_ble_eq_true rfl) (Nat.le_of_ble_eq_true rfl) ?_
  have e31 : OKm m3 := e31
  have e32 : 0 + 5 + (numL (nI i9)).length + 4 ≤ m3 := e32
  have e34 : sb_Fit c3 := e34
  have e35 : Tx (((([] : List Int32) ++ (strB.getD 12 [])) ++ (numL (nI i9))) ++ (strB.getD 13 [])) c3 := e35
  have l3 : (((([] : List Int32) ++ (strB.getD 12 [])) ++ (numL (nI i9))) ++ (strB.getD 13 [])).length = 0 + 5 + (numL (nI i9)).length + 4 := List.length_append.trans (congrArg (fun z => z + 4) l2)
  refine lv_pop hx hb (dq_87 0 bcX7_spell_0 (j := 42) rfl rfl) rfl ?_
  refine lv_aload_n hx hb (dq_45 0 bcX7_spell_0 (j := 43) rfl rfl) rfl (lv_at hl 0 rfl) ?_
  refine lv_aload_n hx hb (dq_42 0 bcX7_spell_0 (j := 44) rfl rfl) rfl (lv_at hl 1 rfl) ?_
  refine va_get (D := E.1) (ci := 8) (v := .ref a_now) (C := RX7) (T := TX7) (N := 12) hx hb hts i_h_spell_X7 hown hK hP 0 rfl rfl 3 (by decide) (hts (.fieldLink RX7 35 "HushWatch" "now" "LHushWatch$State;") (List.mem_of_getElem? (i := 1) rfl)) (fun _ h9 => h9) rfl (dq_180 0 bcX7_spell_0 (j := 45) (i := 35) rfl rfl rfl) ?_
  refine lv_iload_n hx hb (dq_27 48 bcX7_spell_1 (j := 0) rfl rfl) rfl (lv_at hl 2 rfl) ?_
  refine lv_iconst (v := 0) hx hb (dq_3 48 bcX7_spell_1 (j := 1) rfl rfl) (by decide) ?_
  obtain ⟨x9, hx9, -⟩ := t_of (p1 := nI i9) (p2 := 0) (f := c_now_row)
  have hPc : va_P E.1 vwCl (w_X5_of E a_now a_now_row a_now_partners a_now_share a_now_leftOver c_now_askedCount c_now_outcome c_now_row) H := hP.sub (ws' := [k_X5 a_now a_now_row a_now_partners c_now_askedCount c_now_outcome a_now_share a_now_leftOver, k_I E a_now_row 81 c_now_row]) [1, 2] rfl
  have hrc := va_recv hK hPc (ci := 6) (q0 := 0) rfl rfl
  refine pE_i (va_runV (As := [.int (nI i9), .int (0 : Int32)]) (rest := [.ref q_2]) ⟨hx, hb, hml, hown, hts⟩ (f_X5_of l E (a_ := a_now) (a_row := a_now_row) (a_partners := a_now_partners) (a_share := a_now_share) (a_leftOver := a_now_leftOver) (p1 := nI i9) (p2 := (0 : Int32)) (c_askedCount := c_now_askedCount) (c_outcome := c_now_outcome) (c_row := c_now_row) hx9) (cwV 2 hts g_h_spell_f_X5_of_140 rfl rfl rfl (by decide +kernel) ⟨Nat.le_of_ble_eq_true rfl, Nat.le_of_ble_eq_true rfl⟩) ⟨pP.blind, hrc, (pP.pre ⟨hK, hN⟩ hPc)⟩ rfl rfl hl.1 rfl (lv_room (Nat.le_of_ble_eq_true rfl)) (dq_182 48 bcX7_spell_1 (j := 2) (i := 140) rfl rfl rfl) ⟨Nat.le_of_ble_eq_true rfl, Nat.le_of_ble_eq_true rfl⟩) ?_
  have bx := hxy i9 x9 hi9 rfl h0 hh0 q (Or.inl hx9)
  have nx9_ := num_len bx.1 bx.2
  obtain ⟨hPc, hDc, hFc⟩ := wcut (wc := (wSB E q_2 v3 m3 0 (nI (0 + 5 + (numL (nI i9)).length + 4)) c3)) hP hD hS hA [3, 4] (by decide) rfl
  have hrc := va_recv hK hPc (ci := 0) (q0 := 0) rfl rfl
  refine va_callr (va_runV (As := [.int x9]) (rest := []) ⟨hx, hb, hml, hown, hts⟩ (h_appI l E H.size K z9 (av := q_2) (vv := v3) (mz := m3) (kk := 0 + 5 + (numL (nI i9)).length + 4) (ml := 0) (fc := c3) (L := (((([] : List Int32) ++ (strB.getD 12 [])) ++ (numL (nI i9))) ++ (strB.getD 13 []))) (M := (numL x9)) (iv := x9) (s9 := (numL x9).length) e31 (show 0 + 5 + (numL (nI i9)).length + 4 + (numL x9).length ≤ 34 by omega) e34 (ss_num hK9 bx.1 bx.2) (gc_ofN hK9 bx.1 bx.2 l3 (show 11 ≤ 0 + 5 + (numL (nI i9)).length + 4 + (numL x9).length by omega)) e35 l3 e32) (cwV 1 hts g_h_spell_h_appI_274 rfl rfl rfl (by decide +kernel) ⟨Nat.le_of_ble_eq_true rfl, Nat.le_of_ble_eq_true rfl⟩) ⟨qWZ.blind, hrc, (qWZ.pre ⟨hK, hN⟩ hPc hDc hZ hS hFc)⟩ rfl rfl hl.1 rfl (lv_room (Nat.le_of_ble_eq_true rfl)) (dq_182 48 bcX7_spell_1 (j := 5) (i := 274) rfl rfl rfl) ⟨Nat.le_of_ble_eq_true rfl, Nat.le_of_ble_eq_true rfl⟩) hS (fun q _ h => hFc q h) hFc (fun u9 ra_6 tt H1 locs ht hvm hw hB hz1 hk1 hS => ?_)
  obtain ⟨v4, m4, c4⟩ := u9
  obtain ⟨e41, e42, e44, e45⟩ := hw
  obtain ⟨hra, hP1, hD1⟩ := hB
  rw [hra]
  rw [ht] at hP1
  obtain ⟨hP, hD⟩ := va_join (wr := [k_X7 a_ a_tape a_reader a_scripts a_now a_trial a_kept a_book a_keptBook a_history a_draws a_refused c_hasImage, k_X5 a_now a_now_row a_now_partners c_now_askedCount c_now_outcome a_now_share a_now_leftOver, k_I E a_now_row 81 c_now_row]) (w1 := [k_J4 q_2 v4 (0 : Int32) 0 (nI (0 + 5 + (numL (nI i9)).length + 4 + (numL x9).length)), k_B E v4 m4 c4]) hP hD [3, 4] [0, 1, 2] rfl rfl (by decide) (by decide) hk1 hFc hP1 hD1
  generalize H1 = H at hP hS ⊢
  have h9 := fixPD (ws' := [k_X7 a_ a_tape a_reader a_scripts a_now a_trial a_kept a_book a_keptBook a_history a_draws a_refused c_hasImage, k_X5 a_now a_now_row a_now_partners c_now_askedCount c_now_outcome a_now_share a_now_leftOver, k_I E a_now_row 81 c_now_row, k_J4 q_2 v4 (0 : Int32) 0 (nI (0 + 5 + (numL (nI i9)).length + 4 + (numL x9).length)), k_B E v4 m4 c4]) hP hD rfl
  clear hP hD
  obtain ⟨hP, hD⟩ := h9
  refine W.widen (k := 6) (n := 156) (Nat.le_of_ble_eq_true rfl) (Nat.le_of_ble_eq_true rfl) ?_
  have e41 : OKm m4 := e41
  have e42 : 0 + 5 + (numL (nI i9)).length + 4 + (numL x9).length ≤ m4 := e42
  have e44 : sb_Fit c4 := e44
  have e45 : Tx ((((([] : List Int32) ++ (strB.getD 12 [])) ++ (numL (nI i9))) ++ (strB.getD 13 [])) ++ (numL x9)) c4 := e45
  have l4 : ((((([] : List Int32) ++ (strB.getD 12 [])) ++ (numL (nI i9))) ++ (strB.getD 13 [])) ++ (numL x9)).length = 0 + 5 + (numL (nI i9)).length + 4 + (numL x9).length := List.length_append.trans (congrArg (fun z => z + (numL x9).length) l3)
  refine lv_pop hx hb (dq_87 48 bcX7_spell_1 (j := 8) rfl rfl) rfl ?_
  refine lv_aload_n hx hb (dq_45 48 bcX7_spell_1 (j := 9) rfl rfl) rfl (lv_at hl 0 rfl) ?_
  refine lv_bipush (v := 44) hx hb (dq_16 48 bcX7_spell_1 (j := 10) (i := 44) rfl rfl rfl) (by decide) ?_
  obtain ⟨hPc, hDc, hFc⟩ := wcut (wc := (wSB E q_2 v4 m4 0 (nI (0 + 5 + (numL (nI i9)).length + 4 + (numL x9).length)) c4)) hP hD hS hA [3, 4] (by decide) rfl
  have hrc := va_recv hK hPc (ci := 0) (q0 := 0) rfl rfl
  refine va_callr (va_runV (As := [.int (44 : Int32)]) (rest := []) ⟨hx, hb, hml, hown, hts⟩ (h_appC l E H.size z9 (av := q_2) (vv := v4) (mz := m4) (kk := 0 + 5 + (numL (nI i9)).length + 4 + (numL x9).length) (ml := 0) (fc := c4) (L := ((((([] : List Int32) ++ (strB.getD 12 [])) ++ (numL (nI i9))) ++ (strB.getD 13 [])) ++ (numL x9))) (M := [44]) (ch := 44) e41 (show 0 + 5 + (numL (nI i9)).length + 4 + (numL x9).length + 1 ≤ 34 by omega) e44 rfl e45 l4 e42 (by decide +kernel) rfl) (cwV 1 hts g_h_spell_h_appC_279 rfl rfl rfl (by decide +kernel) ⟨Nat.le_of_ble_eq_true rfl, Nat.le_of_ble_eq_true rfl⟩) ⟨qWZ.blind, hrc, (qWZ.pre ⟨hK, hN⟩ hPc hDc hZ hS hFc)⟩ rfl rfl hl.1 rfl (lv_room (Nat.le_of_ble_eq_true rfl)) (dq_182 48 bcX7_spell_1 (j := 12) (i := 279) rfl rfl rfl) ⟨Nat.le_of_ble_eq_true rfl, Nat.le_of_ble_eq_true rfl⟩) hS (fun q _ h => hFc q h) hFc (fun u9 ra_7 tt H1 locs ht hvm hw hB hz1 hk1 hS => ?_)
  obtain ⟨v5, m5, c5⟩ := u9
  obtain ⟨e51, e52, e54, e55⟩ := hw
  obtain ⟨hra, hP1, hD1⟩ := hB
  rw [hra]
  rw [ht] at hP1
  obtain ⟨hP, hD⟩ := va_join (wr := [k_X7 a_ a_tape a_reader a_scripts a_now a_trial a_kept a_book a_keptBook a_history a_draws a_refused c_hasImage, k_X5 a_now a_now_row a_now_partners c_now_askedCount c_now_outcome a_now_share a_now_leftOver, k_I E a_now_row 81 c_now_row]) (w1 := [k_J4 q_2 v5 (0 : Int32) 0 (nI (0 + 5 + (numL (nI i9)).length + 4 + (numL x9).length + 1)), k_B E v5 m5 c5]) hP hD [3, 4] [0, 1, 2] rfl rfl (by decide) (by decide) hk1 hFc hP1 hD1
  generalize H1 = H at hP hS ⊢
  have h9 := fixPD (ws' := [k_X7 a_ a_tape a_reader a_scripts a_now a_trial a_kept a_book a_keptBook a_history a_draws a_refused c_hasImage, k_X5 a_now a_now_row a_now_partners c_now_askedCount c_now_outcome a_now_share a_now_leftOver, k_I E a_now_row 81 c_now_row, k_J4 q_2 v5 (0 : Int32) 0 (nI (0 + 5 + (numL (nI i9)).length + 4 + (numL x9).length + 1)), k_B E v5 m5 c5]) hP hD rfl
  clear hP hD
  obtain ⟨hP, hD⟩ := h9
  refine W.widen (k := 7) (n := 190) (Nat.le_of_ble_eq_true rfl) (Nat.le_of_ble_eq_true rfl) ?_
  have e51 : OKm m5 := e51
  have e52 : 0 + 5 + (numL (nI i9)).length + 4 + (numL x9).length + 1 ≤ m5 := e52
  have e54 : sb_Fit c5 := e54
  have e55 : Tx (((((([] : List Int32) ++ (strB.getD 12 [])) ++ (numL (nI i9))) ++ (strB.getD 13 [])) ++ (numL x9)) ++ [44]) c5 := e55
  have l5 : (((((([] : List Int32) ++ (strB.getD 12 [])) ++ (numL (nI i9))) ++ (strB.getD 13 [])) ++ (numL x9)) ++ [44]).length = 0 + 5 + (numL (nI i9)).length + 4 + (numL x9).length + 1 := List.length_append.trans (congrArg (fun z => z + 1) l4)
  refine lv_pop hx hb (dq_87 48 bcX7_spell_1 (j := 15) rfl rfl) rfl ?_
  refine lv_aload_n hx hb (dq_45 48 bcX7_spell_1 (j := 16) rfl rfl) rfl (lv_at hl 0 rfl) ?_
  refine lv_aload_n hx hb (dq_42 48 bcX7_spell_1 (j := 17) rfl rfl) rfl (lv_at hl 1 rfl) ?_
  refine va_get (D := E.1) (ci := 8) (v := .ref a_now) (C := RX7) (T := TX7) (N := 12) hx hb hts i_h_spell_X7 hown hK hP 0 rfl rfl 3 (by decide) (hts (.fieldLink RX7 35 "HushWatch" "now" "LHushWatch$State;") (List.mem_of_getElem? (i := 1) rfl)) (fun _ h9 => h9) rfl (dq_180 48 bcX7_spell_1 (j := 18) (i := 35) rfl rfl rfl) ?_
  refine lv_iload_n hx hb (dq_27 48 bcX7_spell_1 (j := 21) rfl rfl) rfl (lv_at hl 2 rfl) ?_
  refine lv_iconst (v := 1) hx hb (dq_4 48 bcX7_spell_1 (j := 22) rfl rfl) (by decide) ?_
  obtain ⟨y9, hy9, -⟩ := t_of (p1 := nI i9) (p2 := 1) (f := c_now_row)
  have hPc : va_P E.1 vwCl (w_X5_of E a_now a_now_row a_now_partners a_now_share a_now_leftOver c_now_askedCount c_now_outcome c_now_row) H := hP.sub (ws' := [k_X5 a_now a_now_row a_now_partners c_now_askedCount c_now_outcome a_now_share a_now_leftOver, k_I E a_now_row 81 c_now_row]) [1, 2] rfl
  have hrc := va_recv hK hPc (ci := 6) (q0 := 0) rfl rfl
  refine pE_i (va_runV (As := [.int (nI i9), .int (1 : Int32)]) (rest := [.ref q_2]) ⟨hx, hb, hml, hown, hts⟩ (f_X5_of l E (a_ := a_now) (a_row := a_now_row) (a_partners := a_now_partners) (a_share := a_now_share) (a_leftOver := a_now_leftOver) (p1 := nI i9) (p2 := (1 : Int32)) (c_askedCount := c_now_askedCount) (c_outcome := c_now_outcome) (c_row := c_now_row) hy9) (cwV 2 hts g_h_spell_f_X5_of_140 rfl rfl rfl (by decide +kernel) ⟨Nat.le_of_ble_eq_true rfl, Nat.le_of_ble_eq_true rfl⟩) ⟨pP.blind, hrc, (pP.pre ⟨hK, hN⟩ hPc)⟩ rfl rfl hl.1 rfl (lv_room (Nat.le_of_ble_eq_true rfl)) (dq_182 48 bcX7_spell_1 (j := 23) (i := 140) rfl rfl rfl) ⟨Nat.le_of_ble_eq_true rfl, Nat.le_of_ble_eq_true rfl⟩) ?_
  have b_y := hxy i9 y9 hi9 rfl h0 hh0 q (Or.inr hy9)
  have ny9_ := num_len b_y.1 b_y.2
  obtain ⟨hPc, hDc, hFc⟩ := wcut (wc := (wSB E q_2 v5 m5 0 (nI (0 + 5 + (numL (nI i9)).length + 4 + (numL x9).length + 1)) c5)) hP hD hS hA [3, 4] (by decide) rfl
  have hrc := va_recv hK hPc (ci := 0) (q0 := 0) rfl rfl
  refine va_callr (va_runV (As := [.int y9]) (rest := []) ⟨hx, hb, hml, hown, hts⟩ (h_appI l E H.size K z9 (av := q_2) (vv := v5) (mz := m5) (kk := 0 + 5 + (numL (nI i9)).length + 4 + (numL x9).length + 1) (ml := 0) (fc := c5) (L := (((((([] : List Int32) ++ (strB.getD 12 [])) ++ (numL (nI i9))) ++ (strB.getD 13 [])) ++ (numL x9)) ++ [44])) (M := (numL y9)) (iv := y9) (s9 := (numL y9).length) e51 (show 0 + 5 + (numL (nI i9)).length + 4 + (numL x9).length + 1 + (numL y9).length ≤ 34 by omega) e54 (ss_num hK9 b_y.1 b_y.2) (gc_ofN hK9 b_y.1 b_y.2 l5 (show 11 ≤ 0 + 5 + (numL (nI i9)).length + 4 + (numL x9).length + 1 + (numL y9).length by omega)) e55 l5 e52) (cwV 1 hts g_h_spell_h_appI_274 rfl rfl rfl (by decide +kernel) ⟨Nat.le_of_ble_eq_true rfl, Nat.le_of_ble_eq_true rfl⟩) ⟨qWZ.blind, hrc, (qWZ.pre ⟨hK, hN⟩ hPc hDc hZ hS hFc)⟩ rfl rfl hl.1 rfl (lv_room (Nat.le_of_ble_eq_true rfl)) (dq_182 48 bcX7_spell_1 (j := 26) (i := 274) rfl rfl rfl) ⟨Nat.le_of_ble_eq_true rfl, Nat.le_of_ble_eq_true rfl⟩) hS (fun q _ h => hFc q h) hFc (fun u9 ra_8 tt H1 locs ht hvm hw hB hz1 hk1 hS => ?_)
  obtain ⟨v6, m6, c6⟩ := u9
  obtain ⟨e61, e62, e64, e65⟩ := hw
  obtain ⟨hra, hP1, hD1⟩ := hB
  rw [hra]
  rw [ht] at hP1
  obtain ⟨hP, hD⟩ := va_join (wr := [k_X7 a_ a_tape a_reader a_scripts a_now a_trial a_kept a_book a_keptBook a_history a_draws a_refused c_hasImage, k_X5 a_now a_now_row a_now_partners c_now_askedCount c_now_outcome a_now_share a_now_leftOver, k_I E a_now_row 81 c_now_row]) (w1 := [k_J4 q_2 v6 (0 : Int32) 0 (nI (0 + 5 + (numL (nI i9)).length + 4 + (numL x9).length + 1 + (numL y9).length)), k_B E v6 m6 c6]) hP hD [3, 4] [0, 1, 2] rfl rfl (by decide) (by decide) hk1 hFc hP1 hD1
  generalize H1 = H at hP hS ⊢
  have h9 := fixPD (ws' := [k_X7 a_ a_tape a_reader a_scripts a_now a_trial a_kept a_book a_keptBook a_history a_draws a_refused c_hasImage, k_X5 a_now a_now_row a_now_partners c_now_askedCount c_now_outcome a_now_share a_now_leftOver, k_I E a_now_row 81 c_now_row, k_J4 q_2 v6 (0 : Int32) 0 (nI (0 + 5 + (numL (nI i9)).length + 4 + (numL x9).length + 1 + (numL y9).length)), k_B E v6 m6 c6]) hP hD rfl
  clear hP hD
  obtain ⟨hP, hD⟩ := h9
  refine W.widen (k := 8) (n := 224) (Nat.le_of_ble_eq_true rfl) (Nat.le_of_ble_eq_true rfl) ?_
  have e61 : OKm m6 := e61
  have e62 : 0 + 5 + (numL (nI i9)).length + 4 + (numL x9).length + 1 + (numL y9).length ≤ m6 := e62
  have e64 : sb_Fit c6 := e64
  have e65 : Tx ((((((([] : List Int32) ++ (strB.getD 12 [])) ++ (numL (nI i9))) ++ (strB.getD 13 [])) ++ (numL x9)) ++ [44]) ++ (numL y9)) c6 := e65
  have l6 : ((((((([] : List Int32) ++ (strB.getD 12 [])) ++ (numL (nI i9))) ++ (strB.getD 13 [])) ++ (numL x9)) ++ [44]) ++ (numL y9)).length = 0 + 5 + (numL (nI i9)).length + 4 + (numL x9).length + 1 + (numL y9).length := List.length_append.trans (congrArg (fun z => z + (numL y9).length) l5)
  refine lv_pop hx hb (dq_87 48 bcX7_spell_1 (j := 29) rfl rfl) rfl ?_
  refine lv_aload_n hx hb (dq_42 48 bcX7_spell_1 (j := 30) rfl rfl) rfl (lv_at hl 1 rfl) ?_
  refine va_get (D := E.1) (ci := 8) (v := .ref a_now) (C := RX7) (T := TX7) (N := 12) hx hb hts i_h_spell_X7 hown hK hP 0 rfl rfl 3 (by decide) (hts (.fieldLink RX7 35 "HushWatch" "now" "LHushWatch$State;") (List.mem_of_getElem? (i := 1) rfl)) (fun _ h9 => h9) rfl (dq_180 48 bcX7_spell_1 (j := 31) (i := 35) rfl rfl rfl) ?_
  refine lv_iload_n hx hb (dq_27 48 bcX7_spell_1 (j := 34) rfl rfl) rfl (lv_at hl 2 rfl) ?_
  obtain ⟨u8, hu8, -⟩ := t_isQuiet (p1 := nI i9) (f := c_now_row)
  have hPc : va_P E.1 vwCl (w_X5_isQuiet E a_now a_now_row a_now_partners a_now_share a_now_leftOver c_now_askedCount c_now_outcome c_now_row) H := hP.sub (ws' := [k_X5 a_now a_now_row a_now_partners c_now_askedCount c_now_outcome a_now_share a_now_leftOver, k_I E a_now_row 81 c_now_row]) [1, 2] rfl
  have hrc := va_recv hK hPc (ci := 6) (q0 := 0) rfl rfl
  refine pE_z (va_runV (As := [.int (nI i9)]) (rest := []) ⟨hx, hb, hml, hown, hts⟩ (f_X5_isQuiet l E (a_ := a_now) (a_row := a_now_row) (a_partners := a_now_partners) (a_share := a_now_share) (a_leftOver := a_now_leftOver) (p1 := nI i9) (c_askedCount := c_now_askedCount) (c_outcome := c_now_outcome) (c_row := c_now_row) hu8) (cwV 1 hts g_h_spell_f_X5_isQuiet_137 rfl rfl rfl (by decide +kernel) ⟨Nat.le_of_ble_eq_true rfl, Nat.le_of_ble_eq_true rfl⟩) ⟨pP.blind, hrc, (pP.pre ⟨hK, hN⟩ hPc)⟩ rfl rfl hl.1 rfl (lv_room (Nat.le_of_ble_eq_true rfl)) (dq_182 48 bcX7_spell_1 (j := 35) (i := 137) rfl rfl rfl) ⟨Nat.le_of_ble_eq_true rfl, Nat.le_of_ble_eq_true rfl⟩) (fun hb_9 => ?_)
  refine lv_if_ne (tgt := 96) hx hb (dq_154 48 bcX7_spell_1 (j := 38) (i := 10) rfl rfl rfl) (by decide) (fun q8 => ?_) (fun q8 => ?_)
  ·
    have ln9 : ((((((([] : List Int32) ++ (strB.getD 12 [])) ++ (numL (nI i9))) ++ (strB.getD 13 [])) ++ (numL x9)) ++ [44]) ++ (numL y9)).length < 2 ^ 30 := by rw [l6]; omega
    have ok9 : OkL ((((((([] : List Int32) ++ (strB.getD 12 [])) ++ (numL (nI i9))) ++ (strB.getD 13 [])) ++ (numL x9)) ++ [44]) ++ (numL y9)) := ((((((ok_nil.app ok_s12).app ok_num).app ok_s13).app ok_num).app (ok_1 ok_44)).app ok_num)
    refine lv_iload_n hx hb (dq_28 96 bcX7_spell_2 (j := 0) rfl rfl) rfl (lv_at hl 3 rfl) ?_
    refine lv_iconst (v := -1) hx hb (dq_2 96 bcX7_spell_2 (j := 1) rfl rfl) (by decide) ?_
    refine lv_icmp_ne (tgt := 106) hx hb (dq_160 96 bcX7_spell_2 (j := 2) (i := 8) rfl rfl rfl) (by decide) (fun q7 => ?_) (fun q7 => ?_)
    ·
      refine lv_iload_n hx hb (dq_28 96 bcX7_spell_2 (j := 10) rfl rfl) rfl (lv_at hl 3 rfl) ?_
      refine lv_if_lt (tgt := 118) hx hb (dq_155 96 bcX7_spell_2 (j := 11) (i := 11) rfl rfl rfl) (by decide) (fun q6 => ?_) (fun q6 => ?_)
      ·
        refine lv_iconst (v := -1) hx hb (dq_2 96 bcX7_spell_2 (j := 22) rfl rfl) (by decide) ?_
        refine W.widen (k := 9) (n := 258) (Nat.le_of_ble_eq_true rfl) (Nat.le_of_ble_eq_true rfl) ?_
        have hP9 := hP.sub (ws' := [k_X7 a_ a_tape a_reader a_scripts a_now a_trial a_kept a_book a_keptBook a_history a_draws a_refused c_hasImage, k_X5 a_now a_now_row a_now_partners c_now_askedCount c_now_outcome a_now_share a_now_leftOver, k_I E a_now_row 81 c_now_row]) [0, 1, 2] rfl
        have hD9 := hD.sub (ws' := [k_X7 a_ a_tape a_reader a_scripts a_now a_trial a_kept a_book a_keptBook a_history a_draws a_refused c_hasImage, k_X5 a_now a_now_row a_now_partners c_now_askedCount c_now_outcome a_now_share a_now_leftOver, k_I E a_now_row 81 c_now_row]) [0, 1, 2] (by decide) rfl
        rw [hQ]
        exact W.iret (v := -1) hx hb hr (fun tt ht hW => ⟨⟨_, (), rfl, SpA.yes hh0 q hx9 hy9 hu8 (by rw [(show spL (nI i9) x9 y9 u8 = ((((((([] : List Int32) ++ (strB.getD 12 [])) ++ (numL (nI i9))) ++ (strB.getD 13 [])) ++ (numL x9)) ++ [44]) ++ (numL y9)) from if_neg q8)]; exact chL.no ln9 q7 (Or.inl q6)), by rw [ht]; exact hP9, hD9⟩, hS.F ht⟩) hS.2.2 (dq_172 96 bcX7_spell_2 (j := 23) rfl rfl)
      ·
        refine lv_iload_n hx hb (dq_28 96 bcX7_spell_2 (j := 14) rfl rfl) rfl (lv_at hl 3 rfl) ?_
        refine lv_aload_n hx hb (dq_45 96 bcX7_spell_2 (j := 15) rfl rfl) rfl (lv_at hl 0 rfl) ?_
        have hPc : va_P E.1 vwCl (w_J4_length_8abf5 E q_2 v6 (0 : Int32) 0 (nI (0 + 5 + (numL (nI i9)).length + 4 + (numL x9).length + 1 + (numL y9).length))) H := hP.sub (ws' := [k_J4 q_2 v6 (0 : Int32) 0 (nI (0 + 5 + (numL (nI i9)).length + 4 + (numL x9).length + 1 + (numL y9).length))]) [3] rfl
        have hrc := va_recv hK hPc (ci := 0) (q0 := 0) rfl rfl
        refine pE_i (va_runV (As := []) (rest := [.int p2]) ⟨hx, hb, hml, hown, hts⟩ (f_J4_length_8abf5 l E (a_ := q_2) (a_value := v6) (c_coder := (0 : Int32)) (c_maybeLatin1 := 0) (c_count := nI (0 + 5 + (numL (nI i9)).length + 4 + (numL x9).length + 1 + (numL y9).length)) (show F_J4_length_8abf5 (nI (0 + 5 + (numL (nI i9)).length + 4 + (numL x9).length + 1 + (numL y9).length)) = some (nI (0 + 5 + (numL (nI i9)).length + 4 + (numL x9).length + 1 + (numL y9).length)) from rfl)) (cwV 0 hts g_h_spell_f_J4_length_8abf5_282 rfl rfl rfl (by decide +kernel) ⟨Nat.le_of_ble_eq_true rfl, Nat.le_of_ble_eq_true rfl⟩) ⟨pP.blind, hrc, (pP.pre ⟨hK, hN⟩ hPc)⟩ rfl rfl hl.1 rfl (lv_room (Nat.le_of_ble_eq_true rfl)) (dq_182 96 bcX7_spell_2 (j := 16) (i := 282) rfl rfl rfl) ⟨Nat.le_of_ble_eq_true rfl, Nat.le_of_ble_eq_true rfl⟩) ?_
        refine lv_icmp_lt (tgt := 120) hx hb (dq_161 96 bcX7_spell_2 (j := 19) (i := 5) rfl rfl rfl) (by decide) (fun q5 => ?_) (fun q5 => ?_)
        ·
          obtain ⟨j9, hj9, rfl⟩ := nnI (n := 0 + 5 + (numL (nI i9)).length + 4 + (numL x9).length + 1 + (numL y9).length) (by omega) q6 (lt_not.mp q5)
          refine lv_aload_n hx hb (dq_45 96 bcX7_spell_2 (j := 24) rfl rfl) rfl (lv_at hl 0 rfl) ?_
          refine lv_iload_n hx hb (dq_28 96 bcX7_spell_2 (j := 25) rfl rfl) rfl (lv_at hl 3 rfl) ?_
          obtain ⟨r9, hr9⟩ := ca4_ok (c := c6) hj9 e62 e61.le
          have hPc : va_P E.1 vwCl (w_J4_charAt_5068e E q_2 v6 (0 : Int32) 0 (nI (0 + 5 + (numL (nI i9)).length + 4 + (numL x9).length + 1 + (numL y9).length)) c6 m6) H := hP.sub (ws' := [k_J4 q_2 v6 (0 : Int32) 0 (nI (0 + 5 + (numL (nI i9)).length + 4 + (numL x9).length + 1 + (numL y9).length)), k_B E v6 m6 c6]) [3, 4] rfl
          have hrc := va_recv hK hPc (ci := 0) (q0 := 0) rfl rfl
          refine pE_c (va_runV (As := [.int (nI j9)]) (rest := []) ⟨hx, hb, hml, hown, hts⟩ (f_J4_charAt_5068e l E z9 (a_ := q_2) (a_value := v6) (p1 := nI j9) (c_coder := (0 : Int32)) (c_maybeLatin1 := 0) (c_count := nI (0 + 5 + (numL (nI i9)).length + 4 + (numL x9).length + 1 + (numL y9).length)) (c_value := c6) (m9 := m6) hr9) (cwV 1 hts g_h_spell_f_J4_charAt_5068e_284 rfl rfl rfl (by decide +kernel) ⟨Nat.le_of_ble_eq_true rfl, Nat.le_of_ble_eq_true rfl⟩) ⟨qPZ.blind, hrc, (qPZ.pre ⟨hK, hN⟩ hPc hZ hS)⟩ rfl rfl hl.1 rfl (lv_room (Nat.le_of_ble_eq_true rfl)) (dq_182 96 bcX7_spell_2 (j := 26) (i := 284) rfl rfl rfl) ⟨Nat.le_of_ble_eq_true rfl, Nat.le_of_ble_eq_true rfl⟩) (fun hb_10 => ?_)
          refine W.widen (k := 9) (n := 258) (Nat.le_of_ble_eq_true rfl) (Nat.le_of_ble_eq_true rfl) ?_
          have hP9 := hP.sub (ws' := [k_X7 a_ a_tape a_reader a_scripts a_now a_trial a_kept a_book a_keptBook a_history a_draws a_refused c_hasImage, k_X5 a_now a_now_row a_now_partners c_now_askedCount c_now_outcome a_now_share a_now_leftOver, k_I E a_now_row 81 c_now_row]) [0, 1, 2] rfl
          have hD9 := hD.sub (ws' := [k_X7 a_ a_tape a_reader a_scripts a_now a_trial a_kept a_book a_keptBook a_history a_draws a_refused c_hasImage, k_X5 a_now a_now_row a_now_partners c_now_askedCount c_now_outcome a_now_share a_now_leftOver, k_I E a_now_row 81 c_now_row]) [0, 1, 2] (by decide) rfl
          rw [hQ]
          exact W.iret (v := r9) hx hb hr (fun tt ht hW => ⟨⟨_, (), rfl, SpA.yes hh0 q hx9 hy9 hu8 (by rw [(show spL (nI i9) x9 y9 u8 = ((((((([] : List Int32) ++ (strB.getD 12 [])) ++ (numL (nI i9))) ++ (strB.getD 13 [])) ++ (numL x9)) ++ [44]) ++ (numL y9)) from if_neg q8)]; exact chL.is ln9 (by rw [l6]; exact hj9) (ca_val hj9 e62 e61.le e65 l6 ok9 hr9)), by rw [ht]; exact hP9, hD9⟩, hS.F ht⟩) hS.2.2 (dq_172 96 bcX7_spell_2 (j := 29) rfl rfl)
        ·
          refine lv_iconst (v := -1) hx hb (dq_2 96 bcX7_spell_2 (j := 22) rfl rfl) (by decide) ?_
          refine W.widen (k := 9) (n := 258) (Nat.le_of_ble_eq_true rfl) (Nat.le_of_ble_eq_true rfl) ?_
          have hP9 := hP.sub (ws' := [k_X7 a_ a_tape a_reader a_scripts a_now a_trial a_kept a_book a_keptBook a_history a_draws a_refused c_hasImage, k_X5 a_now a_now_row a_now_partners c_now_askedCount c_now_outcome a_now_share a_now_leftOver, k_I E a_now_row 81 c_now_row]) [0, 1, 2] rfl
          have hD9 := hD.sub (ws' := [k_X7 a_ a_tape a_reader a_scripts a_now a_trial a_kept a_book a_keptBook a_history a_draws a_refused c_hasImage, k_X5 a_now a_now_row a_now_partners c_now_askedCount c_now_outcome a_now_share a_now_leftOver, k_I E a_now_row 81 c_now_row]) [0, 1, 2] (by decide) rfl
          rw [hQ]
          exact W.iret (v := -1) hx hb hr (fun tt ht hW => ⟨⟨_, (), rfl, SpA.yes hh0 q hx9 hy9 hu8 (by rw [(show spL (nI i9) x9 y9 u8 = ((((((([] : List Int32) ++ (strB.getD 12 [])) ++ (numL (nI i9))) ++ (strB.getD 13 [])) ++ (numL x9)) ++ [44]) ++ (numL y9)) from if_neg q8)]; exact chL.no ln9 q7 (Or.inr (by rw [l6]; exact q5))), by rw [ht]; exact hP9, hD9⟩, hS.F ht⟩) hS.2.2 (dq_172 96 bcX7_spell_2 (j := 23) rfl rfl)
    ·
      refine lv_aload_n hx hb (dq_45 96 bcX7_spell_2 (j := 5) rfl rfl) rfl (lv_at hl 0 rfl) ?_
      have hPc : va_P E.1 vwCl (w_J4_length_8abf5 E q_2 v6 (0 : Int32) 0 (nI (0 + 5 + (numL (nI i9)).length + 4 + (numL x9).length + 1 + (numL y9).length))) H := hP.sub (ws' := [k_J4 q_2 v6 (0 : Int32) 0 (nI (0 + 5 + (numL (nI i9)).length + 4 + (numL x9).length + 1 + (numL y9).length))]) [3] rfl
      have hrc := va_recv hK hPc (ci := 0) (q0 := 0) rfl rfl
      refine pE_i (va_runV (As := []) (rest := []) ⟨hx, hb, hml, hown, hts⟩ (f_J4_length_8abf5 l E (a_ := q_2) (a_value := v6) (c_coder := (0 : Int32)) (c_maybeLatin1 := 0) (c_count := nI (0 + 5 + (numL (nI i9)).length + 4 + (numL x9).length + 1 + (numL y9).length)) (show F_J4_length_8abf5 (nI (0 + 5 + (numL (nI i9)).length + 4 + (numL x9).length + 1 + (numL y9).length)) = some (nI (0 + 5 + (numL (nI i9)).length + 4 + (numL x9).length + 1 + (numL y9).length)) from rfl)) (cwV 0 hts g_h_spell_f_J4_length_8abf5_282 rfl rfl rfl (by decide +kernel) ⟨Nat.le_of_ble_eq_true rfl, Nat.le_of_ble_eq_true rfl⟩) ⟨pP.blind, hrc, (pP.pre ⟨hK, hN⟩ hPc)⟩ rfl rfl hl.1 rfl (lv_room (Nat.le_of_ble_eq_true rfl)) (dq_182 96 bcX7_spell_2 (j := 6) (i := 282) rfl rfl rfl) ⟨Nat.le_of_ble_eq_true rfl, Nat.le_of_ble_eq_true rfl⟩) ?_
      refine W.widen (k := 9) (n := 258) (Nat.le_of_ble_eq_true rfl) (Nat.le_of_ble_eq_true rfl) ?_
      have hP9 := hP.sub (ws' := [k_X7 a_ a_tape a_reader a_scripts a_now a_trial a_kept a_book a_keptBook a_history a_draws a_refused c_hasImage, k_X5 a_now a_now_row a_now_partners c_now_askedCount c_now_outcome a_now_share a_now_leftOver, k_I E a_now_row 81 c_now_row]) [0, 1, 2] rfl
      have hD9 := hD.sub (ws' := [k_X7 a_ a_tape a_reader a_scripts a_now a_trial a_kept a_book a_keptBook a_history a_draws a_refused c_hasImage, k_X5 a_now a_now_row a_now_partners c_now_askedCount c_now_outcome a_now_share a_now_leftOver, k_I E a_now_row 81 c_now_row]) [0, 1, 2] (by decide) rfl
      rw [hQ]
      exact W.iret (v := nI (0 + 5 + (numL (nI i9)).length + 4 + (numL x9).length + 1 + (numL y9).length)) hx hb hr (fun tt ht hW => ⟨⟨_, (), rfl, SpA.yes hh0 q hx9 hy9 hu8 (by rw [(show spL (nI i9) x9 y9 u8 = ((((((([] : List Int32) ++ (strB.getD 12 [])) ++ (numL (nI i9))) ++ (strB.getD 13 [])) ++ (numL x9)) ++ [44]) ++ (numL y9)) from if_neg q8)]; exact (by have z := chL.all (p := p2) ln9 q7; rw [l6] at z; exact z)), by rw [ht]; exact hP9, hD9⟩, hS.F ht⟩) hS.2.2 (dq_172 96 bcX7_spell_2 (j := 9) rfl rfl)
  ·
    refine lv_aload_n hx hb (dq_45 48 bcX7_spell_1 (j := 41) rfl rfl) rfl (lv_at hl 0 rfl) ?_
    refine lv_bipush (v := 33) hx hb (dq_16 48 bcX7_spell_1 (j := 42) (i := 33) rfl rfl rfl) (by decide) ?_
    obtain ⟨hPc, hDc, hFc⟩ := wcut (wc := (wSB E q_2 v6 m6 0 (nI (0 + 5 + (numL (nI i9)).length + 4 + (numL x9).length + 1 + (numL y9).length)) c6)) hP hD hS hA [3, 4] (by decide) rfl
    have hrc := va_recv hK hPc (ci := 0) (q0 := 0) rfl rfl
    refine va_callr (va_runV (As := [.int (33 : Int32)]) (rest := []) ⟨hx, hb, hml, hown, hts⟩ (h_appC l E H.size z9 (av := q_2) (vv := v6) (mz := m6) (kk := 0 + 5 + (numL (nI i9)).length + 4 + (numL x9).length + 1 + (numL y9).length) (ml := 0) (fc := c6) (L := ((((((([] : List Int32) ++ (strB.getD 12 [])) ++ (numL (nI i9))) ++ (strB.getD 13 [])) ++ (numL x9)) ++ [44]) ++ (numL y9))) (M := [33]) (ch := 33) e61 (show 0 + 5 + (numL (nI i9)).length + 4 + (numL x9).length + 1 + (numL y9).length + 1 ≤ 34 by omega) e64 rfl e65 l6 e62 (by decide +kernel) rfl) (cwV 1 hts g_h_spell_h_appC_279 rfl rfl rfl (by decide +kernel) ⟨Nat.le_of_ble_eq_true rfl, Nat.le_of_ble_eq_true rfl⟩) ⟨qWZ.blind, hrc, (qWZ.pre ⟨hK, hN⟩ hPc hDc hZ hS hFc)⟩ rfl rfl hl.1 rfl (lv_room (Nat.le_of_ble_eq_true rfl)) (dq_182 48 bcX7_spell_1 (j := 44) (i := 279) rfl rfl rfl) ⟨Nat.le_of_ble_eq_true rfl, Nat.le_of_ble_eq_true rfl⟩) hS (fun q _ h => hFc q h) hFc (fun u9 ra_11 tt H1 locs ht hvm hw hB hz1 hk1 hS => ?_)
    obtain ⟨v7, m7, c7⟩ := u9
    obtain ⟨e71, e72, e74, e75⟩ := hw
    obtain ⟨hra, hP1, hD1⟩ := hB
    rw [hra]
    rw [ht] at hP1
    obtain ⟨hP, hD⟩ := va_join (wr := [k_X7 a_ a_tape a_reader a_scripts a_now a_trial a_kept a_book a_keptBook a_history a_draws a_refused c_hasImage, k_X5 a_now a_now_row a_now_partners c_now_askedCount c_now_outcome a_now_share a_now_leftOver, k_I E a_now_row 81 c_now_row]) (w1 := [k_J4 q_2 v7 (0 : Int32) 0 (nI (0 + 5 + (numL (nI i9)).length + 4 + (numL x9).length + 1 + (numL y9).length + 1)), k_B E v7 m7 c7]) hP hD [3, 4] [0, 1, 2] rfl rfl (by decide) (by decide) hk1 hFc hP1 hD1
    generalize H1 = H at hP hS ⊢
    have h9 := fixPD (ws' := [k_X7 a_ a_tape a_reader a_scripts a_now a_trial a_kept a_book a_keptBook a_history a_draws a_refused c_hasImage, k_X5 a_now a_now_row a_now_partners c_now_askedCount c_now_outcome a_now_share a_now_leftOver, k_I E a_now_row 81 c_now_row, k_J4 q_2 v7 (0 : Int32) 0 (nI (0 + 5 + (numL (nI i9)).length + 4 + (numL x9).length + 1 + (numL y9).length + 1)), k_B E v7 m7 c7]) hP hD rfl
    clear hP hD
    obtain ⟨hP, hD⟩ := h9
    refine W.widen (k := 9) (n := 258) (Nat.le_of_ble_eq_true rfl) (Nat.le_of_ble_eq_true rfl) ?_
    have e71 : OKm m7 := e71
    have e72 : 0 + 5 + (numL (nI i9)).length + 4 + (numL x9).length + 1 + (numL y9).length + 1 ≤ m7 := e72
    have e74 : sb_Fit c7 := e74
    have e75 : Tx (((((((([] : List Int32) ++ (strB.getD 12 [])) ++ (numL (nI i9))) ++ (strB.getD 13 [])) ++ (numL x9)) ++ [44]) ++ (numL y9)) ++ [33]) c7 := e75
    have l7 : (((((((([] : List Int32) ++ (strB.getD 12 [])) ++ (numL (nI i9))) ++ (strB.getD 13 [])) ++ (numL x9)) ++ [44]) ++ (numL y9)) ++ [33]).length = 0 + 5 + (numL (nI i9)).length + 4 + (numL x9).length + 1 + (numL y9).length + 1 := List.length_append.trans (congrArg (fun z => z + 1) l6)
    refine lv_pop hx hb (dq_87 48 bcX7_spell_1 (j := 47) rfl rfl) rfl ?_
    have ln9 : (((((((([] : List Int32) ++ (strB.getD 12 [])) ++ (numL (nI i9))) ++ (strB.getD 13 [])) ++ (numL x9)) ++ [44]) ++ (numL y9)) ++ [33]).length < 2 ^ 30 := by rw [l7]; omega
    have ok9 : OkL (((((((([] : List Int32) ++ (strB.getD 12 [])) ++ (numL (nI i9))) ++ (strB.getD 13 [])) ++ (numL x9)) ++ [44]) ++ (numL y9)) ++ [33]) := ((((((ok_nil.app ok_s12).app ok_num).app ok_s13).app ok_num).app (ok_1 ok_44)).app ok_num).app (ok_1 ok_33)
    refine lv_iload_n hx hb (dq_28 96 bcX7_spell_2 (j := 0) rfl rfl) rfl (lv_at hl 3 rfl) ?_
    refine lv_iconst (v := -1) hx hb (dq_2 96 bcX7_spell_2 (j := 1) rfl rfl) (by decide) ?_
    refine lv_icmp_ne (tgt := 106) hx hb (dq_160 96 bcX7_spell_2 (j := 2) (i := 8) rfl rfl rfl) (by decide) (fun q7 => ?_) (fun q7 => ?_)
    ·
      refine lv_iload_n hx hb (dq_28 96 bcX7_spell_2 (j := 10) rfl rfl) rfl (lv_at hl 3 rfl) ?_
      refine lv_if_lt (tgt := 118) hx hb (dq_155 96 bcX7_spell_2 (j := 11) (i := 11) rfl rfl rfl) (by decide) (fun q6 => ?_) (fun q6 => ?_)
      ·
        refine lv_iconst (v := -1) hx hb (dq_2 96 bcX7_spell_2 (j := 22) rfl rfl) (by decide) ?_
        refine W.widen (k := 9) (n := 258) (Nat.le_of_ble_eq_true rfl) (Nat.le_of_ble_eq_true rfl) ?_
        have hP9 := hP.sub (ws' := [k_X7 a_ a_tape a_reader a_scripts a_now a_trial a_kept a_book a_keptBook a_history a_draws a_refused c_hasImage, k_X5 a_now a_now_row a_now_partners c_now_askedCount c_now_outcome a_now_share a_now_leftOver, k_I E a_now_row 81 c_now_row]) [0, 1, 2] rfl
        have hD9 := hD.sub (ws' := [k_X7 a_ a_tape a_reader a_scripts a_now a_trial a_kept a_book a_keptBook a_history a_draws a_refused c_hasImage, k_X5 a_now a_now_row a_now_partners c_now_askedCount c_now_outcome a_now_share a_now_leftOver, k_I E a_now_row 81 c_now_row]) [0, 1, 2] (by decide) rfl
        rw [hQ]
        exact W.iret (v := -1) hx hb hr (fun tt ht hW => ⟨⟨_, (), rfl, SpA.yes hh0 q hx9 hy9 hu8 (by rw [(show spL (nI i9) x9 y9 u8 = (((((((([] : List Int32) ++ (strB.getD 12 [])) ++ (numL (nI i9))) ++ (strB.getD 13 [])) ++ (numL x9)) ++ [44]) ++ (numL y9)) ++ [33]) from if_pos q8)]; exact chL.no ln9 q7 (Or.inl q6)), by rw [ht]; exact hP9, hD9⟩, hS.F ht⟩) hS.2.2 (dq_172 96 bcX7_spell_2 (j := 23) rfl rfl)
      ·
        refine lv_iload_n hx hb (dq_28 96 bcX7_spell_2 (j := 14) rfl rfl) rfl (lv_at hl 3 rfl) ?_
        refine lv_aload_n hx hb (dq_45 96 bcX7_spell_2 (j := 15) rfl rfl) rfl (lv_at hl 0 rfl) ?_
        have hPc : va_P E.1 vwCl (w_J4_length_8abf5 E q_2 v7 (0 : Int32) 0 (nI (0 + 5 + (numL (nI i9)).length + 4 + (numL x9).length + 1 + (numL y9).length + 1))) H := hP.sub (ws' := [k_J4 q_2 v7 (0 : Int32) 0 (nI (0 + 5 + (numL (nI i9)).length + 4 + (numL x9).length + 1 + (numL y9).length + 1))]) [3] rfl
        have hrc := va_recv hK hPc (ci := 0) (q0 := 0) rfl rfl
        refine pE_i (va_runV (As := []) (rest := [.int p2]) ⟨hx, hb, hml, hown, hts⟩ (f_J4_length_8abf5 l E (a_ := q_2) (a_value := v7) (c_coder := (0 : Int32)) (c_maybeLatin1 := 0) (c_count := nI (0 + 5 + (numL (nI i9)).length + 4 + (numL x9).length + 1 + (numL y9).length + 1)) (show F_J4_length_8abf5 (nI (0 + 5 + (numL (nI i9)).length + 4 + (numL x9).length + 1 + (numL y9).length + 1)) = some (nI (0 + 5 + (numL (nI i9)).length + 4 + (numL x9).length + 1 + (numL y9).length + 1)) from rfl)) (cwV 0 hts g_h_spell_f_J4_length_8abf5_282 rfl rfl rfl (by decide +kernel) ⟨Nat.le_of_ble_eq_true rfl, Nat.le_of_ble_eq_true rfl⟩) ⟨pP.blind, hrc, (pP.pre ⟨hK, hN⟩ hPc)⟩ rfl rfl hl.1 rfl (lv_room (Nat.le_of_ble_eq_true rfl)) (dq_182 96 bcX7_spell_2 (j := 16) (i := 282) rfl rfl rfl) ⟨Nat.le_of_ble_eq_true rfl, Nat.le_of_ble_eq_true rfl⟩) ?_
        refine lv_icmp_lt (tgt := 120) hx hb (dq_161 96 bcX7_spell_2 (j := 19) (i := 5) rfl rfl rfl) (by decide) (fun q5 => ?_) (fun q5 => ?_)
        ·
          obtain ⟨j9, hj9, rfl⟩ := nnI (n := 0 + 5 + (numL (nI i9)).length + 4 + (numL x9).length + 1 + (numL y9).length + 1) (by omega) q6 (lt_not.mp q5)
          refine lv_aload_n hx hb (dq_45 96 bcX7_spell_2 (j := 24) rfl rfl) rfl (lv_at hl 0 rfl) ?_
          refine lv_iload_n hx hb (dq_28 96 bcX7_spell_2 (j := 25) rfl rfl) rfl (lv_at hl 3 rfl) ?_
          obtain ⟨r9, hr9⟩ := ca4_ok (c := c7) hj9 e72 e71.le
          have hPc : va_P E.1 vwCl (w_J4_charAt_5068e E q_2 v7 (0 : Int32) 0 (nI (0 + 5 + (numL (nI i9)).length + 4 + (numL x9).length + 1 + (numL y9).length + 1)) c7 m7) H := hP.sub (ws' := [k_J4 q_2 v7 (0 : Int32) 0 (nI (0 + 5 + (numL (nI i9)).length + 4 + (numL x9).length + 1 + (numL y9).length + 1)), k_B E v7 m7 c7]) [3, 4] rfl
          have hrc := va_recv hK hPc (ci := 0) (q0 := 0) rfl rfl
          refine pE_c (va_runV (As := [.int (nI j9)]) (rest := []) ⟨hx, hb, hml, hown, hts⟩ (f_J4_charAt_5068e l E z9 (a_ := q_2) (a_value := v7) (p1 := nI j9) (c_coder := (0 : Int32)) (c_maybeLatin1 := 0) (c_count := nI (0 + 5 + (numL (nI i9)).length + 4 + (numL x9).length + 1 + (numL y9).length + 1)) (c_value := c7) (m9 := m7) hr9) (cwV 1 hts g_h_spell_f_J4_charAt_5068e_284 rfl rfl rfl (by decide +kernel) ⟨Nat.le_of_ble_eq_true rfl, Nat.le_of_ble_eq_true rfl⟩) ⟨qPZ.blind, hrc, (qPZ.pre ⟨hK, hN⟩ hPc hZ hS)⟩ rfl rfl hl.1 rfl (lv_room (Nat.le_of_ble_eq_true rfl)) (dq_182 96 bcX7_spell_2 (j := 26) (i := 284) rfl rfl rfl) ⟨Nat.le_of_ble_eq_true rfl, Nat.le_of_ble_eq_true rfl⟩) (fun hb_12 => ?_)
          refine W.widen (k := 9) (n := 258) (Nat.le_of_ble_eq_true rfl) (Nat.le_of_ble_eq_true rfl) ?_
          have hP9 := hP.sub (ws' := [k_X7 a_ a_tape a_reader a_scripts a_now a_trial a_kept a_book a_keptBook a_history a_draws a_refused c_hasImage, k_X5 a_now a_now_row a_now_partners c_now_askedCount c_now_outcome a_now_share a_now_leftOver, k_I E a_now_row 81 c_now_row]) [0, 1, 2] rfl
          have hD9 := hD.sub (ws' := [k_X7 a_ a_tape a_reader a_scripts a_now a_trial a_kept a_book a_keptBook a_history a_draws a_refused c_hasImage, k_X5 a_now a_now_row a_now_partners c_now_askedCount c_now_outcome a_now_share a_now_leftOver, k_I E a_now_row 81 c_now_row]) [0, 1, 2] (by decide) rfl
          rw [hQ]
          exact W.iret (v := r9) hx hb hr (fun tt ht hW => ⟨⟨_, (), rfl, SpA.yes hh0 q hx9 hy9 hu8 (by rw [(show spL (nI i9) x9 y9 u8 = (((((((([] : List Int32) ++ (strB.getD 12 [])) ++ (numL (nI i9))) ++ (strB.getD 13 [])) ++ (numL x9)) ++ [44]) ++ (numL y9)) ++ [33]) from if_pos q8)]; exact chL.is ln9 (by rw [l7]; exact hj9) (ca_val hj9 e72 e71.le e75 l7 ok9 hr9)), by rw [ht]; exact hP9, hD9⟩, hS.F ht⟩) hS.2.2 (dq_172 96 bcX7_spell_2 (j := 29) rfl rfl)
        ·
          refine lv_iconst (v := -1) hx hb (dq_2 96 bcX7_spell_2 (j := 22) rfl rfl) (by decide) ?_
          refine W.widen (k := 9) (n := 258) (Nat.le_of_ble_eq_true rfl) (Nat.le_of_ble_eq_true rfl) ?_
          have hP9 := hP.sub (ws' := [k_X7 a_ a_tape a_reader a_scripts a_now a_trial a_kept a_book a_keptBook a_history a_draws a_refused c_hasImage, k_X5 a_now a_now_row a_now_partners c_now_askedCount c_now_outcome a_now_share a_now_leftOver, k_I E a_now_row 81 c_now_row]) [0, 1, 2] rfl
          have hD9 := hD.sub (ws' := [k_X7 a_ a_tape a_reader a_scripts a_now a_trial a_kept a_book a_keptBook a_history a_draws a_refused c_hasImage, k_X5 a_now a_now_row a_now_partners c_now_askedCount c_now_outcome a_now_share a_now_leftOver, k_I E a_now_row 81 c_now_row]) [0, 1, 2] (by decide) rfl
          rw [hQ]
          exact W.iret (v := -1) hx hb hr (fun tt ht hW => ⟨⟨_, (), rfl, SpA.yes hh0 q hx9 hy9 hu8 (by rw [(show spL (nI i9) x9 y9 u8 = (((((((([] : List Int32) ++ (strB.getD 12 [])) ++ (numL (nI i9))) ++ (strB.getD 13 [])) ++ (numL x9)) ++ [44]) ++ (numL y9)) ++ [33]) from if_pos q8)]; exact chL.no ln9 q7 (Or.inr (by rw [l7]; exact q5))), by rw [ht]; exact hP9, hD9⟩, hS.F ht⟩) hS.2.2 (dq_172 96 bcX7_spell_2 (j := 23) rfl rfl)
    ·
      refine lv_aload_n hx hb (dq_45 96 bcX7_spell_2 (j := 5) rfl rfl) rfl (lv_at hl 0 rfl) ?_
      have hPc : va_P E.1 vwCl (w_J4_length_8abf5 E q_2 v7 (0 : Int32) 0 (nI (0 + 5 + (numL (nI i9)).length + 4 + (numL x9).length + 1 + (numL y9).length + 1))) H := hP.sub (ws' := [k_J4 q_2 v7 (0 : Int32) 0 (nI (0 + 5 + (numL (nI i9)).length + 4 + (numL x9).length + 1 + (numL y9).length + 1))]) [3] rfl
      have hrc := va_recv hK hPc (ci := 0) (q0 := 0) rfl rfl
      refine pE_i (va_runV (As := []) (rest := []) ⟨hx, hb, hml, hown, hts⟩ (f_J4_length_8abf5 l E (a_ := q_2) (a_value := v7) (c_coder := (0 : Int32)) (c_maybeLatin1 := 0) (c_count := nI (0 + 5 + (numL (nI i9)).length + 4 + (numL x9).length + 1 + (numL y9).length + 1)) (show F_J4_length_8abf5 (nI (0 + 5 + (numL (nI i9)).length + 4 + (numL x9).length + 1 + (numL y9).length + 1)) = some (nI (0 + 5 + (numL (nI i9)).length + 4 + (numL x9).length + 1 + (numL y9).length + 1)) from rfl)) (cwV 0 hts g_h_spell_f_J4_length_8abf5_282 rfl rfl rfl (by decide +kernel) ⟨Nat.le_of_ble_eq_true rfl, Nat.le_of_ble_eq_true rfl⟩) ⟨pP.blind, hrc, (pP.pre ⟨hK, hN⟩ hPc)⟩ rfl rfl hl.1 rfl (lv_room (Nat.le_of_ble_eq_true rfl)) (dq_182 96 bcX7_spell_2 (j := 6) (i := 282) rfl rfl rfl) ⟨Nat.le_of_ble_eq_true rfl, Nat.le_of_ble_eq_true rfl⟩) ?_
      refine W.widen (k := 9) (n := 258) (Nat.le_of_ble_eq_true rfl) (Nat.le_of_ble_eq_true rfl) ?_
      have hP9 := hP.sub (ws' := [k_X7 a_ a_tape a_reader a_scripts a_now a_trial a_kept a_book a_keptBook a_history a_draws a_refused c_hasImage, k_X5 a_now a_now_row a_now_partners c_now_askedCount c_now_outcome a_now_share a_now_leftOver, k_I E a_now_row 81 c_now_row]) [0, 1, 2] rfl
      have hD9 := hD.sub (ws' := [k_X7 a_ a_tape a_reader a_scripts a_now a_trial a_kept a_book a_keptBook a_history a_draws a_refused c_hasImage, k_X5 a_now a_now_row a_now_partners c_now_askedCount c_now_outcome a_now_share a_now_leftOver, k_I E a_now_row 81 c_now_row]) [0, 1, 2] (by decide) rfl
      rw [hQ]
      exact W.iret (v := nI (0 + 5 + (numL (nI i9)).length + 4 + (numL x9).length + 1 + (numL y9).length + 1)) hx hb hr (fun tt ht hW => ⟨⟨_, (), rfl, SpA.yes hh0 q hx9 hy9 hu8 (by rw [(show spL (nI i9) x9 y9 u8 = (((((((([] : List Int32) ++ (strB.getD 12 [])) ++ (numL (nI i9))) ++ (strB.getD 13 [])) ++ (numL x9)) ++ [44]) ++ (numL y9)) ++ [33]) from if_pos q8)]; exact (by have z := chL.all (p := p2) ln9 q7; rw [l7] at z; exact z)), by rw [ht]; exact hP9, hD9⟩, hS.F ht⟩) hS.2.2 (dq_172 96 bcX7_spell_2 (j := 9) rfl rfl)
end
-- 85a.throw
section

/-! ===== 'throw new NoSuchElementException(text)' in a launch without stack traces. Its own constructor hands on by entry 13 of its pool, not 7 as the kit's row vx_throwS has it; composed of the library's laws (ThrowableC.of_atoms, Init0T.ofS_atoms, PassC.ofS_atoms, Bundle.chainS, Steps.initColdS, Stand.ctorMessageOffV, Stand.athrowLeaves) ===== -/
def nsX : String := "java/util/NoSuchElementException"
def nsRun : String := "java/lang/RuntimeException"
abbrev nsCode : ByteArray := prog_31_method_4_code
theorem ns_d0 : decode nsCode 0 = .ok (.aload_n 0, 1) := by decide +kernel
theorem ns_d1 : decode nsCode 1 = .ok (.aload_n 1, 1) := by decide +kernel
theorem ns_d2 : decode nsCode 2 = .ok (.invokespecial 13, 3) := by decide +kernel
theorem ns_d5 : decode nsCode 5 = .ok (.return_, 1) := by decide +kernel
def nsOwn (own : String) (ic : Nat) : List Cond := [.methodLink own ic (Bundle.initS nsX), .instantiable nsX 6, .castable nsX nsX, .selects nsX Bundle.tFill0 Bundle.tFill0, .selects nsX Bundle.tFill Bundle.tFill,
   .lays nsX Bundle.tN "cause" "Ljava/lang/Throwable;", .lays nsX Bundle.tN "stackTrace" Bundle.steD, .lays nsX Bundle.tN "suppressedExceptions" Bundle.listD, .lays nsX Bundle.tN "detailMessage" "Ljava/lang/String;",
   .isRef (.static Bundle.tN "UNASSIGNED_STACK" Bundle.steD), .isRef (.static Bundle.tN "SUPPRESSED_SENTINEL" Bundle.listD),
   .fieldLink Bundle.tN 198 Bundle.tN "backtrace" "Ljava/lang/Object;", .lays Bundle.tN Bundle.tN "backtrace" "Ljava/lang/Object;", .lays nsX Bundle.tN "backtrace" "Ljava/lang/Object;"]
def nsAll (own : String) (ic : Nat) : List Cond := Bundle.throwableAtoms ++ (Bundle.throwableSAtoms ++ (Bundle.passSAtoms nsX nsRun 13 nsCode ++ (Bundle.chainSAtoms nsRun ["java/lang/Exception"] ++ nsOwn own ic)))
def nsAt (own : String) (ic : Nat) : List Cond := (nsAll own ic).filter vx_no
section NSC
variable {p : Program} {l : Launch} {e : Env} {R : Room} {s : State} {m₀ : MethodId} {args : Array Value} {below : List Frame} {meth : Method} {c : Code} {V : State} {locs : List Loc} {cells slots : Nat}
set_option maxHeartbeats 4000000 in
theorem ns_ctor (X : Stand p l e R s m₀ args below meth c V locs cells slots) (hexec : p.tables.exec = Jvm.exec) (htr : e.platform.stackTraces = false) {own : String} {ic : Nat}
    (hown : s.vm.findClass own = some m₀.cls) (h : ∀ a ∈ nsAll own ic, a.before args s = true)
    (hlocs : ∀ x ∈ locs, ∀ cell, s.heap[x.base]? = some cell → cell.vm.isStatics = false)
    {a : Addr} {cX : ClassId} {kX : Class} (hfoundX : s.vm.findClass nsX = some cX) (hkX : s.vm.classes[cX]? = some kX) (hcell : V.heap[a]? = some (freshCell cX kX)) (hnew : s.heap.size ≤ a)
    {msg : Value} (hmsg : msg.isRef = true)
    {g : JFrame} (hg : g.method = m₀) (hsize : g.locals.size = c.maxLocals) (hlocked : g.locked = none) (hentered : g.entered = []) {rest : List Value} (hstack : g.stack = msg :: .ref a :: .ref a :: rest)
    (hd6 : decode c.code g.pc = .ok (.invokespecial ic, 3)) (hd9 : decode c.code (g.pc + 3) = .ok (.athrow, 1)) (hout : ∀ x ∈ c.exceptionTable.toList, covers x (g.pc + 3) = false)
    (hRframes : 5 < R.frames) (hRlocals : 2 * g.monitorRoom + ((Value.ref a :: rest).map fun v => v.category).sum + 81 ≤ R.locals) (hlocks : meth.locks = false) :
    ∃ U : State, Steps p.tables e below (V.setTop g) U ∧ U.status = .running ∧ Ended U below (.threw a) ∧ s.WarmedH U.vm ∧ s.sameButNew ({ U with vm := s.vm } : State) locs cells slots ∧
      ∃ ce : Cell, U.heap[a]? = some ce ∧ ce.vm = .none ∧ s.vm.findClass nsX = some ce.cls := by
  have howns : e.platform.frameOwnsMonitors = true := by rw [X.admits.platform]
  have hfin : e.platform.finalization = false := by rw [X.admits.platform]
  have hpl : e.platform.magicAccessors = ({} : Platform).magicAccessors := by rw [X.admits.platform]
  have ho : ∀ x ∈ nsOwn own ic, x.before args s = true := fun x hx => h x (List.mem_append_right _ (List.mem_append_right _ (List.mem_append_right _ (List.mem_append_right _ hx))))
  have hpa : ∀ x ∈ Bundle.passSAtoms nsX nsRun 13 nsCode, x.before args s = true := fun x hx => h x (List.mem_append_right _ (List.mem_append_right _ (List.mem_append_left _ hx)))
  obtain ⟨T, Z0, L, -, Y⟩ := ThrowableC.of_atoms (args := args) howns hfin hpl (fun x hx => h x (List.mem_append_left _ hx))
  obtain ⟨Z, M, LZ, LM, hnZ⟩ := Init0T.ofS_atoms (args := args) hpl L Y (fun x hx => h x (List.mem_append_right _ (List.mem_append_left _ hx)))
  obtain ⟨P2, Ps, hlen, L2, hL, hP2m, hlink2, hlink⟩ := Bundle.chainS (args := args) hpl hnZ ["java/lang/Exception"] nsRun (by decide +kernel) (by decide +kernel) (fun x hx => h x (List.mem_append_right _ (List.mem_append_right _ (List.mem_append_right _ (List.mem_append_left _ hx)))))
  obtain ⟨P1, L1, hP1m, hs1⟩ := PassC.ofS_atoms (args := args) (s := s) hpl (X := nsX) (Y := nsRun) (by decide +kernel) (by decide +kernel) ns_d0 ns_d1 ns_d2 ns_d5 hpa
  have hsup : P1.sup = P2.m := Option.some.inj (hs1.symm.trans hP2m)
  have hfound : s.vm.findClass nsX = some P1.m.cls := findClass_of_methodNamed hP1m
  cases Option.some.inj (hfoundX.symm.trans hfound)
  obtain ⟨c1, kX', hc1, hk, hord, -, -, hn6⟩ := Cond.instantiable_spec (show (Cond.instantiable nsX 6).holds args s none s [] = true from ho (.instantiable nsX 6) (List.mem_of_getElem? (i := 1) rfl))
  cases Option.some.inj (hc1.symm.trans hfound)
  cases Option.some.inj (hkX.symm.trans hk)
  have hsel : ∀ (y : MethodName) (id : MethodId), (Cond.selects nsX y y).before args s = true → s.methodNamed? y = some id → s.methodFound? y.cls y.name y.desc = some id → selectMethod e.platform s.vm P1.m.cls id = .method id := by
    intro y id hy hid hfd
    obtain ⟨c2, r2, m2, q1, q2, q3, q4, -⟩ := Cond.selects_spec hy
    cases Option.some.inj (q1.symm.trans hfound)
    cases Option.some.inj (q2.symm.trans hfd)
    cases Option.some.inj (q3.symm.trans hid)
    rw [Launch.admits_selectMethod X.admits]; exact q4
  have hsel0 := hsel Bundle.tFill0 T.fill0 (ho (.selects nsX Bundle.tFill0 Bundle.tFill0) (List.mem_of_getElem? (i := 3) rfl)) Y.fill0 (State.methodFound?_of_named Y.fill0 (by decide +kernel))
  have hselF := hsel Bundle.tFill T.fill (ho (.selects nsX Bundle.tFill Bundle.tFill) (List.mem_of_getElem? (i := 4) rfl)) Y.fill (State.methodFound?_of_named Y.fill (by decide +kernel))
  obtain ⟨cellS0, hcS0, hiss⟩ := Y.statics
  obtain ⟨u0, hu0⟩ := Cond.staticRefV Y.unassigned L.unassignedStatic L.statics hcS0 hiss (ho (.isRef (.static Bundle.tN "UNASSIGNED_STACK" Bundle.steD)) (List.mem_of_getElem? (i := 9) rfl))
  obtain ⟨sen, hsen⟩ := Cond.staticRefV Y.sentinel L.sentinelStatic L.statics hcS0 hiss (ho (.isRef (.static Bundle.tN "SUPPRESSED_SENTINEL" Bundle.listD)) (List.mem_of_getElem? (i := 10) rfl))
  obtain ⟨ci198, i198, fB, hk198, hg198, ha198, hsB, -, hnB, htB, hffB⟩ := Cond.ownField (t := .object "java/lang/Object") Y.found L.cls (by decide +kernel) (ho (.fieldLink Bundle.tN 198 Bundle.tN "backtrace" "Ljava/lang/Object;") (List.mem_of_getElem? (i := 11) rfl)) (ho (.lays Bundle.tN Bundle.tN "backtrace" "Ljava/lang/Object;") (List.mem_of_getElem? (i := 12) rfl)) e.platform hpl
  obtain ⟨cellS, hcS', heS, -, hkeep⟩ := X.same.2.2.2.2.2 T.aS cellS0 hcS0
  have hcellS : V.heap[T.aS]? = some cellS := hcS'
  have hout' : ∀ i, (⟨T.aS, i⟩ : Loc) ∉ locs := fun i hmem => by
    have h9 := hlocs _ hmem cellS0 hcS0
    rw [hiss] at h9; cases h9
  have hknownS : cellS.vm ≠ .unknown := fun hu => by
    rw [heS] at hu
    rw [show cellS0.vm = .unknown from hu] at hiss
    cases hiss
  have hneS : T.aS ≠ a := Nat.ne_of_lt (Nat.lt_of_lt_of_le (Array.getElem?_eq_some_iff.mp hcS0).1 hnew)
  obtain ⟨iM, hffM⟩ := Y.msg
  obtain ⟨tyC, dC, hdC, hdnC⟩ := Cond.laysAt hfound hk Y.cause (ho (.lays nsX Bundle.tN "cause" "Ljava/lang/Throwable;") (List.mem_of_getElem? (i := 5) rfl))
  obtain ⟨tyS, dS, hdS, hdnS⟩ := Cond.laysAt hfound hk Y.stack (ho (.lays nsX Bundle.tN "stackTrace" Bundle.steD) (List.mem_of_getElem? (i := 6) rfl))
  obtain ⟨tyP, dP, hdP, hdnP⟩ := Cond.laysAt hfound hk Y.supp (ho (.lays nsX Bundle.tN "suppressedExceptions" Bundle.listD) (List.mem_of_getElem? (i := 7) rfl))
  obtain ⟨tyM, dM, hdM, hdnM⟩ := Cond.laysAt hfound hk hffM (ho (.lays nsX Bundle.tN "detailMessage" "Ljava/lang/String;") (List.mem_of_getElem? (i := 8) rfl))
  obtain ⟨tyB, dB, hdB, hdnB⟩ := Cond.laysAt hfound hk hffB (ho (.lays nsX Bundle.tN "backtrace" "Ljava/lang/Object;") (List.mem_of_getElem? (i := 13) rfl))
  have bC := Cond.laysApart hdB hdC hdnB hdnC (by rw [hnB, Y.causeName]; decide +kernel)
  have bS := Cond.laysApart hdB hdS hdnB hdnS (by rw [hnB, Y.stackName]; decide +kernel)
  have bP := Cond.laysApart hdB hdP hdnB hdnP (by rw [hnB, Y.suppName]; decide +kernel)
  have hskip : SkipFacts T e.platform s (fun u => u) u0 ((preparedCellV T.toThrowableT (freshCell P1.m.cls kX) a u0 sen).withEntry V.cur) :=
    ⟨{ ci198 := ci198, i198 := i198, fBack := fB }, ⟨hk198, hg198, ha198, hsB⟩, by
      have h9 := fresh_default (c := P1.m.cls) tyB
      rw [htB] at h9
      simpa [preparedCellV, Cell.setSlot, Cell.withEntry, Array.getElem?_setIfInBounds, bC, bS, bP, bC.symm, bS.symm, bP.symm, defaultValue] using h9, fun _ _ => rfl⟩
  obtain ⟨tm, methC, cdC, kC, vm₁, hnC, -, -, -, -, -, -, -, hW₁, st1⟩ := Steps.initColdS (tb := p.tables) (e := e) (below := below) (s := s) (U := V) X.here hexec X.warmed hpl hown (t := Bundle.initS nsX) rfl rfl (by decide +kernel)
    (ho (.methodLink own ic (Bundle.initS nsX)) (List.mem_of_getElem? (i := 0) rfl)) (hpa (.instanceMethod (Bundle.initS nsX)) (List.mem_of_getElem? (i := 0) rfl)) (bytes := nsCode) (maxL := 2) (hpa (.code (Bundle.initS nsX) nsCode 2 none) (List.mem_of_getElem? (i := 1) rfl))
    (f := g) hg (a := a) (msg := msg) (rest := .ref a :: rest) hstack hd6
  cases Option.some.inj (hnC.symm.trans hP1m)
  have X₁ := X.noted hW₁
  have hlen2 : (P1 :: P2 :: Ps).length = 3 := by simp [hlen]
  obtain ⟨vm₂, X₂, st2⟩ := X₁.ctorMessageOffV hexec (g := { g with stack := .ref a :: rest }) hg hsize T L Z LZ M LM (P1 :: P2 :: Ps)
    (fun P hP => by
      rcases List.mem_cons.mp hP with rfl | hP
      · exact L1
      · rcases List.mem_cons.mp hP with rfl | hP
        · exact L2
        · exact hL P hP) ⟨hsup, hlink2, hlink⟩ (u0 := u0) (sen := sen) (self := a) hmsg (cell := freshCell P1.m.cls kX) (cellS := cellS)
    hcell (fun _ => by simp) (by simp) rfl rfl hsel0 hselF hcellS hneS hknownS (by rw [hkeep _ (hout' _)]; exact hu0) (by rw [hkeep _ (hout' _)]; exact hsen)
    (Takes.of_laid hk hord tyC (by rw [Y.causeType]; rfl)) (Takes.of_laid hk hord tyS (by rw [Y.stackType]; exact fits_refV_array _ u0)) (Takes.of_laid hk hord tyP (by rw [Y.suppType]; exact fits_refV_object _ sen))
    (Takes.of_laid hk hord tyM (by rw [Y.msgType]; exact fits_refV_object _ ⟨msg, hmsg⟩)) Y.objLocals hskip htr [] hd6
    (by rw [hlen2]; omega) (by rw [hlen2]; omega)
  obtain ⟨hwalk, hrun, hended, hWU, hsame⟩ := X₂.athrowLeaves hexec (g := { g with stack := .ref a :: rest, pc := g.pc + 3 }) hg hlocked hentered hout (a := a) (rest := rest) rfl hd9
  have hlt : a < ((V.setVm vm₁).setVm vm₂).heap.size := (Array.getElem?_eq_some_iff.mp hcell).1
  have hU := heapAt_setCell_self (s := (V.setVm vm₁).setVm vm₂) (plainBareV T.toThrowableT (freshCell P1.m.cls kX) a u0 sen msg) hlt
  refine ⟨_, st1 _ (fun acts => ?_), hrun, hended, hWU, hsame.weaken (fun y hy hlt' => ?_) (Nat.le_refl _) (Nat.le_refl _), _, hU, rfl, hfound⟩
  · rw [doInvoke_state]
    exact st2 _ hwalk
  · rcases List.mem_append.mp hy with h1 | h1
    · exact h1
    · exfalso
      have hb : y.base = a := by
        simp only [List.mem_cons, List.not_mem_nil, or_false] at h1
        rcases h1 with rfl | rfl | rfl | rfl | rfl <;> rfl
      rw [hb] at hlt'
      exact Nat.not_lt.mpr hnew hlt'
end NSC
/-- what else a throw takes as given: words that the tables say and that no list of good words bears -/
def nsB : List Cond := [.castable nsX nsX, .declares (Bundle.initS nsRun), .declares (Bundle.initS "java/lang/Exception"), .declares (Bundle.initS Bundle.tN)]
def nsOkB : Cond → Bool
  | .castable .. => true
  | .declares .. => true
  | _ => false
theorem nsB_ok : ∀ w ∈ nsB, nsOkB w = true := by decide +kernel
theorem nsB_warm {w : Cond} (h2 : nsOkB w = true) {s U : State} (hW : s.WarmedH U.vm) (h1 : va_Nw w s) : va_Nw w U := by
  cases w with
  | castable a b => exact va_Nw.warmC hW h1
  | declares x => exact va_Nw.warmD hW h1
  | _ => simp [nsOkB] at h2
theorem nsB_same {w : Cond} (h2 : nsOkB w = true) {u U : State} (h : u.vm = U.vm) (h1 : va_Nw w u) : va_Nw w U := by
  cases w with
  | castable a b => exact va_Nw.same rfl h h1
  | declares x => exact va_Nw.same rfl h h1
  | _ => simp [nsOkB] at h2
theorem nsB_use {w : Cond} (h2 : nsOkB w = true) {A : Array Value} {U : State} (h1 : va_Nw w U) : w.before A U = true := by
  cases w with
  | castable a b => exact va_Nw.use rfl h1
  | declares x => exact va_Nw.use rfl h1
  | _ => simp [nsOkB] at h2
theorem nsB_of {w : Cond} (h2 : nsOkB w = true) {A : Array Value} {U : State} (h : w.before A U = true) : va_Nw w U := by
  cases w with
  | castable a b => exact va_Nw.of rfl h
  | declares x => exact va_Nw.of rfl h
  | _ => simp [nsOkB] at h2
def nsG : List Cond := (nsAt "HushWatch" 127).filter goodWord
set_option maxRecDepth 100000 in
theorem nsG_good : nsG.all goodWord = true := by decide +kernel
set_option maxRecDepth 100000 in
theorem nsG_rest : ∀ w ∈ (nsAt "HushWatch" 127).filter (fun w => !goodWord w), w ∈ nsB := by decide +kernel
set_option maxRecDepth 100000 in
theorem nsG_ot : ∀ w ∈ Cond.classLink "HushWatch" 123 nsX :: Cond.initialized nsX :: nsAt "HushWatch" 127, vx_ot w = true := by decide +kernel
section NST
variable {p : Program} {l : Launch} {e : Env} {R : Room} {s : State} {m : MethodId} {args : Array Value} {below : List Frame} {meth : Method} {c : Code} {H : Heap} {locs : List Loc} {cells slots : Nat} {ls : Array Slot} {rest : List Value}
variable {Qc : Array Value → State → Outcome → State → Prop} {XC : String → State → State → Prop} {free : Addr → Prop}
set_option maxHeartbeats 4000000 in
theorem ns_throw {cc : ByteArray} {pc : Nat} (hexec : p.tables.exec = Jvm.exec) (hb : c.code = cc) (hl : l.stackTraces = false) {own text : String} {ik is ic mc ms sa : Nat} {A : Nat → Prop}
    (hown : s.vm.findClass own = some m.cls)
    (hk : (Cond.classLink own ik nsX).before args s = true) (hini : (Cond.initialized nsX).before args s = true) (hstr : vk_R own is text sa s) (hat : ∀ w ∈ nsAt own ic, w.before args s = true)
    (hgood : ∀ w ∈ Cond.classLink own ik nsX :: Cond.initialized nsX :: nsAt own ic, vx_ot w = true)
    (hU : vx_Zq Bundle.tN "UNASSIGNED_STACK" Bundle.steD A s s.heap) (hN : vx_Zq Bundle.tN "SUPPRESSED_SENTINEL" Bundle.listD A s s.heap) (hS : va_S A s.heap H locs) (hsize : ls.size = c.maxLocals)
    (d0 : decode cc pc = .ok (.new ik, 3)) (d3 : decode cc (pc + 3) = .ok (.dup, 1)) (d4 : decode cc (pc + 4) = .ok (.ldc is, 2)) (d6 : decode cc (pc + 6) = .ok (.invokespecial ic, 3)) (d9 : decode cc (pc + 9) = .ok (.athrow, 1))
    (hout : ∀ x ∈ c.exceptionTable.toList, covers x (pc + 9) = false)
    (hRframes : 5 < R.frames) (hRlocals : (rest.map fun v => v.category).sum + 82 ≤ R.locals) (hRcells : cells + 1 ≤ R.cells) (hRslots : slots + 6 ≤ R.slots) (hlocks : meth.locks = false)
    (hx : ∀ t : State, s.vm.Alike t.vm → H.size ≤ t.heap.size → (∀ q : Nat, q < H.size → t.heap[q]? = H[q]?) → XC nsX s t)
    (hf : ∀ z ∈ locs, free z.base) (hc : cells + 1 ≤ mc) (hs : slots + 6 ≤ ms) :
    W p l e R s m args below meth c H locs cells slots (vx_MQ below Qc XC args s mc ms free) (F0 m pc ls rest) := by
  intro T hT X
  have htr : e.platform.stackTraces = false := (show e.platform.stackTraces = l.stackTraces by rw [X.admits.platform]).trans hl
  have Y := vx_rebase X (R' := { frames := R.frames, locals := R.locals, cells := 1, slots := 6 }) (Nat.le_refl _) (Nat.le_refl _) hRcells hRslots
  obtain ⟨s', hA⟩ : ∃ z, z = (T.setVm s.vm).setFrames (.invoking m args :: below) := ⟨_, rfl⟩
  rw [← hA] at Y
  have hvm : s'.vm = s.vm := by rw [hA]; rfl
  have hhp : s'.heap = H := by rw [hA]; exact hT
  have hW0 : s.WarmedH s'.vm := by rw [hvm]; exact State.WarmedH.refl s
  have hat' : ∀ w ∈ nsAt own ic, w.before args s' = true := fun w hw => vx_ot_at hW0 hvm.symm (hgood w (List.mem_cons_of_mem _ (List.mem_cons_of_mem _ hw))) (hat w hw)
  have hk' : (Cond.classLink own ik nsX).before args s' = true := vx_ot_at hW0 hvm.symm (hgood _ List.mem_cons_self) hk
  have hini' : (Cond.initialized nsX).before args s' = true := vx_ot_at hW0 hvm.symm (hgood _ (List.mem_cons_of_mem _ List.mem_cons_self)) hini
  have hU' : vx_Zq Bundle.tN "UNASSIGNED_STACK" Bundle.steD A s' s'.heap := by rw [hhp]; exact vx_Zq.moved hW0.alike (hU.kept hS.2.1)
  have hN' : vx_Zq Bundle.tN "SUPPRESSED_SENTINEL" Bundle.listD A s' s'.heap := by rw [hhp]; exact vx_Zq.moved hW0.alike (hN.kept hS.2.1)
  have h : ∀ w ∈ nsAll own ic, w.before args s' = true := vx_own hat' (vx_isRefq hU'.1) (vx_isRefq hN'.1) hU'.2.word hN'.2.word
  have hown' : s'.vm.findClass own = some m.cls := by rw [hvm]; exact hown
  have hins : (Cond.instantiable nsX 6).before args s' = true := h (.instantiable nsX 6) (List.mem_append_right _ (List.mem_append_right _ (List.mem_append_right _ (List.mem_append_right _ (List.mem_of_getElem? (l := nsOwn own ic) (i := 1) rfl)))))
  obtain ⟨vm₁, cX, kX, hfX, hkX, -, -, X₁, st1⟩ := Y.newCold hexec (own := own) (C := nsX) (index := ik) (n := 6) hown' hk' hins hini'
    (g := F0 m pc ls rest) rfl (by rw [hb]; exact d0) (Nat.le_refl _) (Nat.le_refl _)
  generalize hT1 : (T.setVm vm₁).pushCell { cls := cX, slots := kX.instanceTypes.map defaultValue, vm := .none } = T1 at X₁ st1
  have hcat : (Value.ref T.heap.size).category = 1 := rfl
  have hcellA : T1.heap[T.heap.size]? = some (freshCell cX kX) := by rw [← hT1]; exact State.heap_pushCell_size _ _
  have d3' : decode c.code (pc + 3) = .ok (.dup, 1) := by rw [hb]; exact d3
  have d4' : decode c.code (pc + 4) = .ok (.ldc is, 2) := by rw [hb]; exact d4
  have hstr' : vk_R own is text sa s' := vk_R.warm hW0 hstr
  obtain ⟨U, hsteps, hrun, hend, hW, hsame, ce, hce, hcv, hcc⟩ := ns_ctor X₁ hexec htr (own := own) (ic := ic) hown' h (fun x hx => nomatch hx) hfX hkX hcellA (by rw [hhp, hT]; exact Nat.le_refl _) (msg := .ref sa) rfl
    (g := { method := m, pc := pc + 6, locals := ls, stack := .ref sa :: .ref T.heap.size :: .ref T.heap.size :: rest, locked := none }) rfl hsize rfl rfl (rest := rest) rfl
    (by rw [hb]; exact d6) (by rw [hb]; exact d9) hout hRframes (by
      show 2 * 0 + _ + 81 ≤ R.locals
      simp only [List.map_cons, List.sum_cons, hcat]; omega) hlocks
  obtain ⟨f1, f2⟩ := vx_frame hsame
  rw [hhp] at f1 f2
  have hWs : s.WarmedH U.vm := State.WarmedH.trans hW0 hW
  have hcl : s.vm.findClass nsX = some ce.cls := by
    rw [hvm] at hcc
    exact hcc
  have hall : s.sameButNew ({ U with vm := s.vm } : State) locs mc ms := by
    subst hA
    obtain ⟨e1, e2⟩ := hsame
    rw [State.setFrames_setFrames] at e1
    have h2 : (T.setVm s.vm).sameButNew ({ U with vm := s.vm } : State) [] (0 + 1) (0 + 6) := ⟨e1, e2⟩
    have h3 := X.same.trans h2
    rw [List.append_nil] at h3
    exact h3.mono hc hs
  refine ⟨U, ?_, .threw T.heap.size, hrun, hend, Or.inr ⟨T.heap.size, rfl, nsX, ce, locs, hx U hWs.alike f1 (fun q hq => f2 q hq (fun z hz => nomatch hz)), hce, hcv, hcl, hWs, hall, hf⟩⟩
  refine st1 _ ?_
  show Steps p.tables e below (T1.setTop { method := m, pc := pc + 3, locals := ls, stack := .ref T.heap.size :: rest, locked := none }) _
  jvm_step X₁.here [X₁.here.top, hexec, d3', Value.category]
  exact X₁.ldcString hexec (own := own) (text := text) (index := is) (a := sa) hown' hstr'.1 hstr'.2
    (g := { method := m, pc := pc + 4, locals := ls, stack := .ref T.heap.size :: .ref T.heap.size :: rest, locked := none }) rfl d4' _ hsteps
end NST
end
