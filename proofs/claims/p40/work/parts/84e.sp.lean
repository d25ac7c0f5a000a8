-- 84e.sp
section
noncomputable def blX7_spell_0 : List Nat := [42, 180, 0, 35, 27, 182, 0, 120, 154, 0, 5, 2, 172, 187, 1, 9, 89, 183, 1, 11, 78, 45, 19, 1, 12, 182, 1, 14, 87, 45, 27, 182, 1, 18, 87, 45, 19, 1, 21, 182, 1, 14, 87, 45, 42, 180, 0, 35, 27, 3, 182]
set_option maxRecDepth 100000 in
theorem bcX7_spell_0 : ((cX7_spell.data.toList.drop 0).take blX7_spell_0.length).map UInt8.toNat = blX7_spell_0 := by decide +kernel
noncomputable def blX7_spell_1 : List Nat := [27, 3, 182, 0, 140, 182, 1, 18, 87, 45, 16, 44, 182, 1, 23, 87, 45, 42, 180, 0, 35, 27, 4, 182, 0, 140, 182, 1, 18, 87, 42, 180, 0, 35, 27, 182, 0, 137, 154, 0, 10, 45, 16, 33, 182, 1, 23, 87, 28, 2, 160]
set_option maxRecDepth 100000 in
theorem bcX7_spell_1 : ((cX7_spell.data.toList.drop 48).take blX7_spell_1.length).map UInt8.toNat = blX7_spell_1 := by decide +kernel
noncomputable def blX7_spell_2 : List Nat := [28, 2, 160, 0, 8, 45, 182, 1, 26, 172, 28, 155, 0, 11, 28, 45, 182, 1, 26, 161, 0, 5, 2, 172, 45, 28, 182, 1, 28, 172]
set_option maxRecDepth 100000 in
theorem bcX7_spell_2 : ((cX7_spell.data.toList.drop 96).take blX7_spell_2.length).map UInt8.toNat = blX7_spell_2 := by decide +kernel

section LDCW
variable {p : Program} {l : Launch} {e : Env} {R : Room} {s : State} {m : MethodId} {args : Array Value} {below : List Frame} {meth : Method} {c : Code} {H : Heap} {locs : List Loc} {cells slots : Nat} {Q : State → Prop}
variable {pc : Nat} {ls : Array Slot} {rest : List Value}
/-- a wide ldc of a text -/
theorem my_ldcwS {cc : ByteArray} (hexec : p.tables.exec = Jvm.exec) (hb : c.code = cc) {own tx : String} {index q : Nat} (hown : s.vm.findClass own = some m.cls) (hZ : vk_R own index tx q s) (hdg : decode cc pc = .ok (.ldc_w index, 3)) (k : W p l e R s m args below meth c H locs cells slots Q (F0 m (pc + 3) ls (.ref q :: rest))) : W p l e R s m args below meth c H locs cells slots Q (F0 m pc ls rest) := by
  intro T hT X
  obtain ⟨t, a1, b1⟩ := k T hT X
  have hdg' : decode c.code (F0 m pc ls rest).pc = .ok (.ldc_w index, 3) := by rw [hb]; exact hdg
  obtain ⟨kk, cf, i, a', hk, hcf, hcp, -, hr, hev'⟩ := Cond.stringRef_spec hown hZ.1
  have ea : q = a' := by
    have z := hZ.2.symm.trans hev'
    cases z
    rfl
  subst ea
  obtain ⟨k', hk', he⟩ := X.warmed.alike.2.2 _ _ hk
  have hr' : k'.resolved[index]? = some (some (.string q)) := by
    rcases X.warmed.entry hk hk' index with h | ⟨h, -⟩
    · rw [h]; exact hr
    · rw [hr] at h; cases h
  refine ⟨t, ?_, b1⟩
  jvm_step X.here [hexec, hdg', ldc_w.wp_string (e := e) (s := T) (f := F0 m pc ls rest) X.here.top hk' (by rw [he]; exact hcf) hcp hr']
  exact a1
end LDCW
theorem hs_ok {p1 : Int32} {f : Nat → Int32} : Tt (F_X5_hasSite p1 f) (fun r => ¬ r = 0 → ∃ i, i < 8 ∧ p1 = nI i) := by
  unfold F_X5_hasSite
  exact tt_ite (fun _ => tt_some (fun z => absurd rfl z)) (fun a => tt_ite (fun _ => tt_some (fun z => absurd rfl z)) (fun _ => tt_ite (fun _ => tt_some (fun z => absurd rfl z)) (fun b => tt_some (fun _ => nnI (n := 8) (by decide) a b))))
theorem gc_of {K k s : Nat} {i : Int32} (hK : 200000 ≤ K) (h : 11 ≤ k + s) : ∀ (m1 : Nat) (c1 : Nat → Int32), m1 ≤ 34 → k + s ≤ m1 → sb_Fit c1 → ∃ r c2, F_J6_getChars_ba4f3 K i (nI (k + s)) c1 m1 = some (r, c2) ∧ sb_Fit c2 := by
  intro m1 c1 h1 h2 h3
  obtain ⟨⟨r, c2⟩, e, f⟩ := gc_tot (i := i) hK h1 h3 h h2
  exact ⟨r, c2, e, f⟩
theorem gc_ofd {K k i : Nat} (hK : 200000 ≤ K) (hi : i < 8) : ∀ (m1 : Nat) (c1 : Nat → Int32), m1 ≤ 34 → k + 1 ≤ m1 → sb_Fit c1 → ∃ r c2, F_J6_getChars_ba4f3 K (nI i) (nI (k + 1)) c1 m1 = some (r, c2) ∧ sb_Fit c2 := by
  intro m1 c1 h1 h2 h3
  obtain ⟨⟨r, c2⟩, e, f⟩ := gc_dig hK hi h1 h3 (show 1 ≤ k + 1 by omega) h2
  exact ⟨r, c2, e, f⟩
theorem ca4_ok {n mz i : Nat} {c : Nat → Int32} (hi : i < n) (hn : n ≤ mz) (hm : mz ≤ 34) : ∃ r, F_J4_charAt_5068e (nI i) c 0 (nI n) mz = some r := by
  obtain ⟨r, e, -⟩ := ca_ok (c := c) hi hn hm
  refine ⟨r, ?_⟩
  unfold F_J4_charAt_5068e
  rw [e, xb1]
def v_h_spell : List Cond := List.cons (.code yX7_spell cX7_spell 4 (some .int)) (HAppend.hAppend (α := List Cond) (β := List Cond) (γ := List Cond) [.fieldLink RX7 35 "HushWatch" "now" "LHushWatch$State;", .classLink RX7 265 RJ4, .instantiable RJ4 4, .initialized RJ4, .methodLink RX7 267 yJ4_init_da8c8, .instanceMethod yJ4_init_da8c8, .methodLink RX7 120 yX5_hasSite, .instanceMethod yX5_hasSite, .selects RX5 yX5_hasSite yX5_hasSite, .initialized RX5, .methodLink RX7 270 yJ4_append_15ec4, .instanceMethod yJ4_append_15ec4, .selects RJ4 yJ4_append_15ec4 yJ4_append_15ec4, .methodLink RX7 274 yJ4_append_bf812, .instanceMethod yJ4_append_bf812, .selects RJ4 yJ4_append_bf812 yJ4_append_bf812, .methodLink RX7 140 yX5_of, .instanceMethod yX5_of, .selects RX5 yX5_of yX5_of, .methodLink RX7 279 yJ4_append_cf468, .instanceMethod yJ4_append_cf468, .selects RJ4 yJ4_append_cf468 yJ4_append_cf468, .methodLink RX7 137 yX5_isQuiet, .instanceMethod yX5_isQuiet, .selects RX5 yX5_isQuiet yX5_isQuiet, .methodLink RX7 282 yJ4_length_8abf5, .instanceMethod yJ4_length_8abf5, .selects RJ4 yJ4_length_8abf5 yJ4_length_8abf5, .methodLink RX7 284 yJ4_charAt_5068e, .instanceMethod yJ4_charAt_5068e, .selects RJ4 yJ4_charAt_5068e yJ4_charAt_5068e] (HAppend.hAppend (α := List Cond) (β := List Cond) (γ := List Cond) wsX70 (HAppend.hAppend (α := List Cond) (β := List Cond) (γ := List Cond) v_f_X5_hasSite (HAppend.hAppend (α := List Cond) (β := List Cond) (γ := List Cond) wsJ40 (HAppend.hAppend (α := List Cond) (β := List Cond) (γ := List Cond) v_h_init4 (HAppend.hAppend (α := List Cond) (β := List Cond) (γ := List Cond) v_h_appS (HAppend.hAppend (α := List Cond) (β := List Cond) (γ := List Cond) v_h_appI (HAppend.hAppend (α := List Cond) (β := List Cond) (γ := List Cond) v_f_X5_of (HAppend.hAppend (α := List Cond) (β := List Cond) (γ := List Cond) v_h_appC (HAppend.hAppend (α := List Cond) (β := List Cond) (γ := List Cond) v_f_X5_isQuiet (HAppend.hAppend (α := List Cond) (β := List Cond) (γ := List Cond) v_f_J4_length_8abf5 (HAppend.hAppend (α := List Cond) (β := List Cond) (γ := List Cond) v_f_J4_charAt_5068e []))))))))))))
theorem gw_h_spell : v_h_spell.all goodWord = true := gw_c2 (by decide +kernel) (gw_ap gw_wsX70 (gw_ap gw_f_X5_hasSite (gw_ap gw_wsJ40 (gw_ap gw_h_init4 (gw_ap gw_h_appS (gw_ap gw_h_appI (gw_ap gw_f_X5_of (gw_ap gw_h_appC (gw_ap gw_f_X5_isQuiet (gw_ap gw_f_J4_length_8abf5 (gw_ap gw_f_J4_charAt_5068e gw_nil)))))))))))
theorem i_h_spell_X7 : ∀ w ∈ wsX70, w ∈ v_h_spell := fun _ h => List.mem_cons_of_mem _ (List.mem_append_right _ (List.mem_append_left _ h))
theorem i_h_spell_J4 : ∀ w ∈ wsJ40, w ∈ v_h_spell := fun _ h => List.mem_cons_of_mem _ (List.mem_append_right _ (List.mem_append_right _ (List.mem_append_right _ (List.mem_append_left _ h))))
theorem g_h_spell_f_X5_hasSite_120 : GoodIn v_h_spell (wsV RX7 120 RX5 yX5_hasSite v_f_X5_hasSite) := goodIn_in gw_h_spell (in4 7 8 9 10 rfl rfl rfl rfl (fun _ h => List.mem_cons_of_mem _ (List.mem_append_right _ (List.mem_append_right _ (List.mem_append_left _ h)))))
theorem g_h_spell_h_init4_267 : GoodIn v_h_spell v_h_init4 := goodIn_sub (fun _ h => List.mem_cons_of_mem _ (List.mem_append_right _ (List.mem_append_right _ (List.mem_append_right _ (List.mem_append_right _ (List.mem_append_left _ h)))))) gw_h_init4
theorem g_h_spell_h_appS_270 : GoodIn v_h_spell (wsV RX7 270 RJ4 yJ4_append_15ec4 v_h_appS) := goodIn_in gw_h_spell (in4 11 12 13 4 rfl rfl rfl rfl (fun _ h => List.mem_cons_of_mem _ (List.mem_append_right _ (List.mem_append_right _ (List.mem_append_right _ (List.mem_append_right _ (List.mem_append_right _ (List.mem_append_left _ h))))))))
theorem g_h_spell_h_appI_274 : GoodIn v_h_spell (wsV RX7 274 RJ4 yJ4_append_bf812 v_h_appI) := goodIn_in gw_h_spell (in4 14 15 16 4 rfl rfl rfl rfl (fun _ h => List.mem_cons_of_mem _ (List.mem_append_right _ (List.mem_append_right _ (List.mem_append_right _ (List.mem_append_right _ (List.mem_append_right _ (List.mem_append_right _ (List.mem_append_left _ h)))))))))
theorem g_h_spell_f_X5_of_140 : GoodIn v_h_spell (wsV RX7 140 RX5 yX5_of v_f_X5_of) := goodIn_in gw_h_spell (in4 17 18 19 10 rfl rfl rfl rfl (fun _ h => List.mem_cons_of_mem _ (List.mem_append_right _ (List.mem_append_right _ (List.mem_append_right _ (List.mem_append_right _ (List.mem_append_right _ (List.mem_append_right _ (List.mem_append_right _ (List.mem_append_left _ h))))))))))
theorem g_h_spell_h_appC_279 : GoodIn v_h_spell (wsV RX7 279 RJ4 yJ4_append_cf468 v_h_appC) := goodIn_in gw_h_spell (in4 20 21 22 4 rfl rfl rfl rfl (fun _ h => List.mem_cons_of_mem _ (List.mem_append_right _ (List.mem_append_right _ (List.mem_append_right _ (List.mem_append_right _ (List.mem_append_right _ (List.mem_append_right _ (List.mem_append_right _ (List.mem_append_right _ (List.mem_append_left _ h)))))))))))
theorem g_h_spell_f_X5_isQuiet_137 : GoodIn v_h_spell (wsV RX7 137 RX5 yX5_isQuiet v_f_X5_isQuiet) := goodIn_in gw_h_spell (in4 23 24 25 10 rfl rfl rfl rfl (fun _ h => List.mem_cons_of_mem _ (List.mem_append_right _ (List.mem_append_right _ (List.mem_append_right _ (List.mem_append_right _ (List.mem_append_right _ (List.mem_append_right _ (List.mem_append_right _ (List.mem_append_right _ (List.mem_append_right _ (List.mem_append_left _ h))))))))))))
theorem g_h_spell_f_J4_length_8abf5_282 : GoodIn v_h_spell (wsV RX7 282 RJ4 yJ4_length_8abf5 v_f_J4_length_8abf5) := goodIn_in gw_h_spell (in4 26 27 28 4 rfl rfl rfl rfl (fun _ h => List.mem_cons_of_mem _ (List.mem_append_right _ (List.mem_append_right _ (List.mem_append_right _ (List.mem_append_right _ (List.mem_append_right _ (List.mem_append_right _ (List.mem_append_right _ (List.mem_append_right _ (List.mem_append_right _ (List.mem_append_right _ (List.mem_append_left _ h)))))))))))))
theorem g_h_spell_f_J4_charAt_5068e_284 : GoodIn v_h_spell (wsV RX7 284 RJ4 yJ4_charAt_5068e v_f_J4_charAt_5068e) := goodIn_in gw_h_spell (in4 29 30 31 4 rfl rfl rfl rfl (fun _ h => List.mem_cons_of_mem _ (List.mem_append_right _ (List.mem_append_right _ (List.mem_append_right _ (List.mem_append_right _ (List.mem_append_right _ (List.mem_append_right _ (List.mem_append_right _ (List.mem_append_right _ (List.mem_append_right _ (List.mem_append_right _ (List.mem_append_right _ (List.mem_append_left _ h))))))))))))))
set_option maxHeartbeats 4000000 in
set_option maxRecDepth 100000 in
theorem h_spell (l : Launch) (E : EE) (sz : Nat) (K : Nat) (z9 : Nat → Nat) {a_ a_tape a_reader a_scripts a_now a_trial a_kept a_book a_keptBook a_history a_draws a_refused a_now_row a_now_partners a_now_share a_now_leftOver : Nat} {p1 p2 : Int32} {c_hasImage : Int32} {c_now_askedCount : Int32} {c_now_outcome : Int32} {c_now_row : Nat → Int32} (hK9 : 200000 ≤ K) : Met l yX7_spell v_h_spell (({ frames := 6, cells := 9, slots := 258, locals := 148 } : Room)) (va_Pc [.ref a_, .int p1, .int p2] (qWZ E z9 sz (w_X7_goes E a_ a_tape a_reader a_scripts a_now a_trial a_kept a_book a_keptBook a_history a_draws a_refused a_now_row a_now_partners a_now_share a_now_leftOver c_hasImage c_now_askedCount c_now_outcome c_now_row))) (va_Qi (fun (r : Int32) (_u : Unit) => True) (fun (_u : Unit) tt => va_P E.1 vwCl (w_X7_goes E a_ a_tape a_reader a_scripts a_now a_trial a_kept a_book a_keptBook a_history a_draws a_refused a_now_row a_now_partners a_now_share a_now_leftOver c_hasImage c_now_askedCount c_now_outcome c_now_row) tt.heap ∧ va_D (va_A (w_X7_goes E a_ a_tape a_reader a_scripts a_now a_trial a_kept a_book a_keptBook a_history a_draws a_refused a_now_row a_now_partners a_now_share a_now_leftOver c_hasImage c_now_askedCount c_now_outcome c_now_row) sz) (w_X7_goes E a_ a_tape a_reader a_scripts a_now a_trial a_kept a_book a_keptBook a_history a_draws a_refused a_now_row a_now_partners a_now_share a_now_leftOver c_hasImage c_now_askedCount c_now_outcome c_now_row)) (va_A (w_X7_goes E a_ a_tape a_reader a_scripts a_now a_trial a_kept a_book a_keptBook a_history a_draws a_refused a_now_row a_now_partners a_now_share a_now_leftOver c_hasImage c_now_askedCount c_now_outcome c_now_row) sz)) 9 258 (va_A (w_X7_goes E a_ a_tape a_reader a_scripts a_now a_trial a_kept a_book a_keptBook a_history a_draws a_refused a_now_row a_now_partners a_now_share a_now_leftOver c_hasImage c_now_askedCount c_now_outcome c_now_row) sz) := by
  refine Met.ofW (cc := cX7_spell) (maxL := 4) (ret := (some .int)) (by decide) rfl ?_
  intro p e s m args below meth c s₁ B hml hv
  obtain ⟨rfl, hsz, ⟨hK, hN⟩, hP, hD0, hZ⟩ := hv
  have hx := B.exec
  have hb := B.bytes
  have hr := B.returns
  have hts := atoms_spec (ws := v_h_spell) B.pre
  have hown : s.vm.findClass RX7 = some m.cls := own_of (by decide +kernel) (findClass_of_methodNamed B.named)
  have hlocks : meth.locks = false := B.notSynchronized
  subst hsz
  have hD := hD0.self (sz := s.heap.size)
  generalize hAe : va_A (w_X7_goes E a_ a_tape a_reader a_scripts a_now a_trial a_kept a_book a_keptBook a_history a_draws a_refused a_now_row a_now_partners a_now_share a_now_leftOver c_hasImage c_now_askedCount c_now_outcome c_now_row) s.heap.size = A at hD hZ ⊢
  have hA : ∀ q : Nat, s.heap.size ≤ q → A q := fun q h => by rw [← hAe]; exact Or.inr h
  have hS : va_S A s.heap s.heap [] := va_S.rf
  have hl := lv_entry ([.ref a_, .int p1, .int p2]) (n := 4) (Nat.le_of_ble_eq_true rfl)
  rw [lg_entry_eq]
  generalize (lg_sl ([.ref a_, .int p1, .int p2]) ++ List.replicate (4 - (lg_sl ([.ref a_, .int p1, .int p2])).length) Slot.unset).toArray = ls at hl ⊢
  have hl : lv_has ls 4 [(0, .ref a_), (1, .int p1), (2, .int p2)] := hl
  obtain ⟨Q, hQ⟩ : ∃ Q : State → Prop, Q = MQ below (va_Qi (fun (r : Int32) (_u : Unit) => True) (fun (_u : Unit) tt => va_P E.1 vwCl (w_X7_goes E a_ a_tape a_reader a_scripts a_now a_trial a_kept a_book a_keptBook a_history a_draws a_refused a_now_row a_now_partners a_now_share a_now_leftOver c_hasImage c_now_askedCount c_now_outcome c_now_row) tt.heap ∧ va_D A (w_X7_goes E a_ a_tape a_reader a_scripts a_now a_trial a_kept a_book a_keptBook a_history a_draws a_refused a_now_row a_now_partners a_now_share a_now_leftOver c_hasImage c_now_askedCount c_now_outcome c_now_row)) A) #[Value.ref a_, Value.int p1, Value.int p2] s 9 258 A := ⟨_, rfl⟩
  rw [← hQ]
  change W p l e ({ frames := 6, cells := 9, slots := 258, locals := 148 } : Room) s m #[Value.ref a_, Value.int p1, Value.int p2] below meth c s.heap [] 0 0 Q (F0 m 0 ls [])
  suffices hh9 : ∀ (H : Heap) (locs : List Loc), va_P E.1 vwCl (w_X7_goes E a_ a_tape a_reader a_scripts a_now a_trial a_kept a_book a_keptBook a_history a_draws a_refused a_now_row a_now_partners a_now_share a_now_leftOver c_hasImage c_now_askedCount c_now_outcome c_now_row) H → va_D A (w_X7_goes E a_ a_tape a_reader a_scripts a_now a_trial a_kept a_book a_keptBook a_history a_draws a_refused a_now_row a_now_partners a_now_share a_now_leftOver c_hasImage c_now_askedCount c_now_outcome c_now_row) → va_S A s.heap H locs → W p l e ({ frames := 6, cells := 9, slots := 258, locals := 148 } : Room) s m #[Value.ref a_, Value.int p1, Value.int p2] below meth c H locs 0 0 Q (F0 m 0 ls []) from hh9 s.heap [] hP hD hS
  clear hP hD hS
  intro H locs hP hD hS
  have h9 := fixPD (ws' := [k_X7 a_ a_tape a_reader a_scripts a_now a_trial a_kept a_book a_keptBook a_history a_draws a_refused c_hasImage, k_X5 a_now a_now_row a_now_partners c_now_askedCount c_now_outcome a_now_share a_now_leftOver, k_I E a_now_row 81 c_now_row]) hP hD rfl
  clear hP hD
  obtain ⟨hP, hD⟩ := h9
  obtain ⟨h0, hh0, hh1⟩ := hs_ok (p1 := p1) (f := c_now_row)
  refine lv_aload_n hx hb (dq_42 0 bcX7_spell_0 (j := 0) rfl rfl) rfl (lv_at hl 0 rfl) ?_
  refine va_get (D := E.1) (ci := 8) (v := .ref a_now) (C := RX7) (T := TX7) (N := 12) hx hb hts i_h_spell_X7 hown hK hP 0 rfl rfl 3 (by decide) (hts (.fieldLink RX7 35 "HushWatch" "now" "LHushWatch$State;") (List.mem_of_getElem? (i := 1) rfl)) (fun _ h9 => h9) rfl (dq_180 0 bcX7_spell_0 (j := 1) (i := 35) rfl rfl rfl) ?_
  refine lv_iload_n hx hb (dq_27 0 bcX7_spell_0 (j := 4) rfl rfl) rfl (lv_at hl 1 rfl) ?_
  have hPc : va_P E.1 vwCl (w_X5_hasSite E a_now a_now_row a_now_partners a_now_share a_now_leftOver c_now_askedCount c_now_outcome c_now_row) H := hP.sub (ws' := [k_X5 a_now a_now_row a_now_partners c_now_askedCount c_now_outcome a_now_share a_now_leftOver, k_I E a_now_row 81 c_now_row]) [1, 2] rfl
  have hrc := va_recv hK hPc (ci := 6) (q0 := 0) rfl rfl
  refine pE_z (va_runV (As := [.int p1]) (rest := []) ⟨hx, hb, hml, hown, hts⟩ (f_X5_hasSite l E (a_ := a_now) (a_row := a_now_row) (a_partners := a_now_partners) (a_share := a_now_share) (a_leftOver := a_now_leftOver) (p1 := p1) (c_askedCount := c_now_askedCount) (c_outcome := c_now_outcome) (c_row := c_now_row) hh0) (cwV 1 hts g_h_spell_f_X5_hasSite_120 rfl rfl rfl (by decide +kernel) ⟨Nat.le_of_ble_eq_true rfl, Nat.le_of_ble_eq_true rfl⟩) ⟨pP.blind, hrc, (pP.pre ⟨hK, hN⟩ hPc)⟩ rfl rfl hl.1 rfl (lv_room (Nat.le_of_ble_eq_true rfl)) (dq_182 0 bcX7_spell_0 (j := 5) (i := 120) rfl rfl rfl) ⟨Nat.le_of_ble_eq_true rfl, Nat.le_of_ble_eq_true rfl⟩) (fun hb_1 => ?_)
  refine lv_if_ne (tgt := 13) hx hb (dq_154 0 bcX7_spell_0 (j := 8) (i := 5) rfl rfl rfl) (by decide) (fun q => ?_) (fun q => ?_)
  rotate_left 1
  ·
    refine lv_iconst (v := -1) hx hb (dq_2 0 bcX7_spell_0 (j := 11) rfl rfl) (by decide) ?_
    refine W.widen (k := 9) (n := 258) (Nat.le_of_ble_eq_true rfl) (Nat.le_of_ble_eq_true rfl) ?_
    have hP9 := hP.sub (ws' := [k_X7 a_ a_tape a_reader a_scripts a_now a_trial a_kept a_book a_keptBook a_history a_draws a_refused c_hasImage, k_X5 a_now a_now_row a_now_partners c_now_askedCount c_now_outcome a_now_share a_now_leftOver, k_I E a_now_row 81 c_now_row]) [0, 1, 2] rfl
    have hD9 := hD.sub (ws' := [k_X7 a_ a_tape a_reader a_scripts a_now a_trial a_kept a_book a_keptBook a_history a_draws a_refused c_hasImage, k_X5 a_now a_now_row a_now_partners c_now_askedCount c_now_outcome a_now_share a_now_leftOver, k_I E a_now_row 81 c_now_row]) [0, 1, 2] (by decide) rfl
    rw [hQ]
    exact W.iret (v := -1) hx hb hr (fun tt ht hW => ⟨⟨_, (), rfl, trivial, by rw [ht]; exact hP9, hD9⟩, hS.F ht⟩) hS.2.2 (dq_172 0 bcX7_spell_0 (j := 12) rfl rfl)
  obtain ⟨i9, hi9, rfl⟩ := hh1 q
  refine va_new (ci := 0) (fs := [.null, .int (0 : Int32), .int (0 : Int32), .int (0 : Int32)]) (C := RJ4) (T := TJ4) (N := 4) hx hb hts i_h_spell_J4 tyJ4 tyJ4_ok hown (hts (.classLink RX7 265 RJ4) (List.mem_of_getElem? (i := 2) rfl)) (hts (.instantiable RJ4 4) (List.mem_of_getElem? (i := 3) rfl)) (hts (.initialized RJ4) (List.mem_of_getElem? (i := 4) rfl)) hK hP hD hS hA rfl (fun j hj => by rcases (show j = 0 ∨ j = 1 ∨ j = 2 ∨ j = 3 by omega) with rfl | rfl | rfl | rfl <;> rfl) (Nat.le_of_ble_eq_true rfl) (Nat.le_of_ble_eq_true rfl) (dq_187 0 bcX7_spell_0 (j := 13) (i := 265) rfl rfl rfl) (fun q_2 H hP hD hS => ?_)
  have h9 := fixPD (ws' := [k_X7 a_ a_tape a_reader a_scripts a_now a_trial a_kept a_book a_keptBook a_history a_draws a_refused c_hasImage, k_X5 a_now a_now_row a_now_partners c_now_askedCount c_now_outcome a_now_share a_now_leftOver, k_I E a_now_row 81 c_now_row, (q_2, .inr (0, [.null, .int (0 : Int32), .int (0 : Int32), .int (0 : Int32)]))]) hP hD rfl
  clear hP hD
  obtain ⟨hP, hD⟩ := h9
  refine W.widen (k := 1) (n := 4) (Nat.le_of_ble_eq_true rfl) (Nat.le_of_ble_eq_true rfl) ?_
  refine lv_dup hx hb (dq_89 0 bcX7_spell_0 (j := 16) rfl rfl) rfl ?_
  obtain ⟨hPc, hDc, hFc⟩ := wcut (wc := [(q_2, .inr (0, [.null, .int 0, .int 0, .int 0]))]) hP hD hS hA [3] (by decide) rfl
  refine va_callv (va_runI (As := []) (rest := [.ref q_2]) ⟨hx, hb, hml, hown, hts⟩ (h_init4 l E H.size z9 (av := q_2)) (cwI 0 hts g_h_spell_h_init4_267 rfl rfl rfl (hts (.initialized RJ4) (List.mem_of_getElem? (i := 4) rfl)) (hts (.methodLink RX7 267 yJ4_init_da8c8) (List.mem_of_getElem? (i := 5) rfl)) (hts (.instanceMethod yJ4_init_da8c8) (List.mem_of_getElem? (i := 6) rfl)) rfl (by decide +kernel) ⟨Nat.le_of_ble_eq_true rfl, Nat.le_of_ble_eq_true rfl⟩) ⟨qWZ.blind, (qWZ.pre ⟨hK, hN⟩ hPc hDc hZ hS hFc)⟩ rfl rfl hl.1 rfl (lv_room (Nat.le_of_ble_eq_true rfl)) (dq_183 0 bcX7_spell_0 (j := 17) (i := 267) rfl rfl rfl) ⟨Nat.le_of_ble_eq_true rfl, Nat.le_of_ble_eq_true rfl⟩) hS (fun q _ h => hFc q h) hFc (fun u9  tt H1 locs ht hvm hw hB hz1 hk1 hS => ?_)
  obtain ⟨hP1, hD1⟩ := hB
  rw [ht] at hP1
  obtain ⟨hP, hD⟩ := va_join (wr := [k_X7 a_ a_tape a_reader a_scripts a_now a_trial a_kept a_book a_keptBook a_history a_draws a_refused c_hasImage, k_X5 a_now a_now_row a_now_partners c_now_askedCount c_now_outcome a_now_share a_now_leftOver, k_I E a_now_row 81 c_now_row]) (w1 := [k_J4 q_2 u9 (0 : Int32) 0 0, k_B E u9 16 (fun _ => 0)]) hP hD [3] [0, 1, 2] rfl rfl (by decide) (by decide) hk1 hFc hP1 hD1
  generalize H1 = H at hP hS ⊢
  have h9 := fixPD (ws' := [k_X7 a_ a_tape a_reader a_scripts a_now a_trial a_kept a_book a_keptBook a_history a_draws a_refused c_hasImage, k_X5 a_now a_now_row a_now_partners c_now_askedCount c_now_outcome a_now_share a_now_leftOver, k_I E a_now_row 81 c_now_row, k_J4 q_2 u9 (0 : Int32) 0 0, k_B E u9 16 (fun _ => 0)]) hP hD rfl
  clear hP hD
  obtain ⟨hP, hD⟩ := h9
  refine W.widen (k := 2) (n := 20) (Nat.le_of_ble_eq_true rfl) (Nat.le_of_ble_eq_true rfl) ?_
  generalize u9 = v0 at hP hD
  have h9 := fixPD (ws' := [k_X7 a_ a_tape a_reader a_scripts a_now a_trial a_kept a_book a_keptBook a_history a_draws a_refused c_hasImage, k_X5 a_now a_now_row a_now_partners c_now_askedCount c_now_outcome a_now_share a_now_leftOver, k_I E a_now_row 81 c_now_row, k_J4 q_2 v0 (0 : Int32) 0 0, k_B E v0 16 (fun _ => 0)]) hP hD rfl
  clear hP hD
  obtain ⟨hP, hD⟩ := h9
  refine lv_astore_n (lv' := [(3, .ref q_2), (0, .ref a_), (1, .int (nI i9)), (2, .int p2)]) hx hb (dq_78 0 bcX7_spell_0 (j := 20) rfl rfl) rfl hl (by decide) rfl (fun ls hl => ?_)
  refine lv_aload_n hx hb (dq_45 0 bcX7_spell_0 (j := 21) rfl rfl) rfl (lv_at hl 0 rfl) ?_
  refine my_ldcwS hx hb hown (ZZ.s12 hZ) (dq_19 0 bcX7_spell_0 (j := 22) (i := 268) rfl rfl rfl) ?_
  obtain ⟨hPc, hDc, hFc⟩ := wcut (wc := (wSB E q_2 v0 16 0 (nI (0)) (fun _ => 0))) hP hD hS hA [3, 4] (by decide) rfl
  have hrc := va_recv hK hPc (ci := 0) (q0 := 0) rfl rfl
  refine va_callr (va_runV (As := [.ref (z9 (20 + 12))]) (rest := []) ⟨hx, hb, hml, hown, hts⟩ (h_appS l E H.size z9 (av := q_2) (vv := v0) (mz := 16) (kk := 0) (ml := 0) (fc := (fun _ => 0)) (pp := 12) (w9 := 5) (Or.inl rfl) (by decide) sb_fit0 (Or.inl ⟨rfl, rfl⟩)) (cwV 1 hts g_h_spell_h_appS_270 rfl rfl rfl (by decide +kernel) ⟨Nat.le_of_ble_eq_true rfl, Nat.le_of_ble_eq_true rfl⟩) ⟨qWZ.blind, hrc, (qWZ.pre ⟨hK, hN⟩ hPc hDc hZ hS hFc)⟩ rfl rfl hl.1 rfl (lv_room (Nat.le_of_ble_eq_true rfl)) (dq_182 0 bcX7_spell_0 (j := 25) (i := 270) rfl rfl rfl) ⟨Nat.le_of_ble_eq_true rfl, Nat.le_of_ble_eq_true rfl⟩) hS (fun q _ h => hFc q h) hFc (fun u9 ra_3 tt H1 locs ht hvm hw hB hz1 hk1 hS => ?_)
  obtain ⟨v1, m1, c1⟩ := u9
  obtain ⟨e11, e12, e14⟩ := hw
  obtain ⟨hra, hP1, hD1⟩ := hB
  rw [hra]
  rw [ht] at hP1
  obtain ⟨hP, hD⟩ := va_join (wr := [k_X7 a_ a_tape a_reader a_scripts a_now a_trial a_kept a_book a_keptBook a_history a_draws a_refused c_hasImage, k_X5 a_now a_now_row a_now_partners c_now_askedCount c_now_outcome a_now_share a_now_leftOver, k_I E a_now_row 81 c_now_row]) (w1 := [k_J4 q_2 v1 (0 : Int32) 0 (nI (0 + 5)), k_B E v1 m1 c1]) hP hD [3, 4] [0, 1, 2] rfl rfl (by decide) (by decide) hk1 hFc hP1 hD1
  generalize H1 = H at hP hS ⊢
  have h9 := fixPD (ws' := [k_X7 a_ a_tape a_reader a_scripts a_now a_trial a_kept a_book a_keptBook a_history a_draws a_refused c_hasImage, k_X5 a_now a_now_row a_now_partners c_now_askedCount c_now_outcome a_now_share a_now_leftOver, k_I E a_now_row 81 c_now_row, k_J4 q_2 v1 (0 : Int32) 0 (nI (0 + 5)), k_B E v1 m1 c1]) hP hD rfl
  clear hP hD
  obtain ⟨hP, hD⟩ := h9
  refine W.widen (k := 3) (n := 54) (Nat.le_of_ble_eq_true rfl) (Nat.le_of_ble_eq_true rfl) ?_
  have e11 : OKm m1 := e11
  have e12 : 0 + 5 ≤ m1 := e12
  have e14 : sb_Fit c1 := e14
  refine lv_pop hx hb (dq_87 0 bcX7_spell_0 (j := 28) rfl rfl) rfl ?_
  refine lv_aload_n hx hb (dq_45 0 bcX7_spell_0 (j := 29) rfl rfl) rfl (lv_at hl 0 rfl) ?_
  refine lv_iload_n hx hb (dq_27 0 bcX7_spell_0 (j := 30) rfl rfl) rfl (lv_at hl 2 rfl) ?_
  obtain ⟨hPc, hDc, hFc⟩ := wcut (wc := (wSB E q_2 v1 m1 0 (nI (0 + 5)) c1)) hP hD hS hA [3, 4] (by decide) rfl
  have hrc := va_recv hK hPc (ci := 0) (q0 := 0) rfl rfl
  refine va_callr (va_runV (As := [.int (nI i9)]) (rest := []) ⟨hx, hb, hml, hown, hts⟩ (h_appI l E H.size K z9 (av := q_2) (vv := v1) (mz := m1) (kk := 0 + 5) (ml := 0) (fc := c1) (iv := nI i9) (s9 := 1) e11 (by decide) e14 (ss_dig hK9 hi9) (gc_ofd hK9 hi9)) (cwV 1 hts g_h_spell_h_appI_274 rfl rfl rfl (by decide +kernel) ⟨Nat.le_of_ble_eq_true rfl, Nat.le_of_ble_eq_true rfl⟩) ⟨qWZ.blind, hrc, (qWZ.pre ⟨hK, hN⟩ hPc hDc hZ hS hFc)⟩ rfl rfl hl.1 rfl (lv_room (Nat.le_of_ble_eq_true rfl)) (dq_182 0 bcX7_spell_0 (j := 31) (i := 274) rfl rfl rfl) ⟨Nat.le_of_ble_eq_true rfl, Nat.le_of_ble_eq_true rfl⟩) hS (fun q _ h => hFc q h) hFc (fun u9 ra_4 tt H1 locs ht hvm hw hB hz1 hk1 hS => ?_)
  obtain ⟨v2, m2, c2⟩ := u9
  obtain ⟨e21, e22, e24⟩ := hw
  obtain ⟨hra, hP1, hD1⟩ := hB
  rw [hra]
  rw [ht] at hP1
  obtain ⟨hP, hD⟩ := va_join (wr := [k_X7 a_ a_tape a_reader a_scripts a_now a_trial a_kept a_book a_keptBook a_history a_draws a_refused c_hasImage, k_X5 a_now a_now_row a_now_partners c_now_askedCount c_now_outcome a_now_share a_now_leftOver, k_I E a_now_row 81 c_now_row]) (w1 := [k_J4 q_2 v2 (0 : Int32) 0 (nI (0 + 5 + 1)), k_B E v2 m2 c2]) hP hD [3, 4] [0, 1, 2] rfl rfl (by decide) (by decide) hk1 hFc hP1 hD1
  generalize H1 = H at hP hS ⊢
  have h9 := fixPD (ws' := [k_X7 a_ a_tape a_reader a_scripts a_now a_trial a_kept a_book a_keptBook a_history a_draws a_refused c_hasImage, k_X5 a_now a_now_row a_now_partners c_now_askedCount c_now_outcome a_now_share a_now_leftOver, k_I E a_now_row 81 c_now_row, k_J4 q_2 v2 (0 : Int32) 0 (nI (0 + 5 + 1)), k_B E v2 m2 c2]) hP hD rfl
  clear hP hD
  obtain ⟨hP, hD⟩ := h9
  refine W.widen (k := 4) (n := 88) (Nat.le_of_ble_eq_true rfl) (Nat.le_of_ble_eq_true rfl) ?_
  have e21 : OKm m2 := e21
  have e22 : 0 + 5 + 1 ≤ m2 := e22
  have e24 : sb_Fit c2 := e24
  refine lv_pop hx hb (dq_87 0 bcX7_spell_0 (j := 34) rfl rfl) rfl ?_
  refine lv_aload_n hx hb (dq_45 0 bcX7_spell_0 (j := 35) rfl rfl) rfl (lv_at hl 0 rfl) ?_
  refine my_ldcwS hx hb hown (ZZ.s13 hZ) (dq_19 0 bcX7_spell_0 (j := 36) (i := 277) rfl rfl rfl) ?_
  obtain ⟨hPc, hDc, hFc⟩ := wcut (wc := (wSB E q_2 v2 m2 0 (nI (0 + 5 + 1)) c2)) hP hD hS hA [3, 4] (by decide) rfl
  have hrc := va_recv hK hPc (ci := 0) (q0 := 0) rfl rfl
  refine va_callr (va_runV (As := [.ref (z9 (20 + 13))]) (rest := []) ⟨hx, hb, hml, hown, hts⟩ (h_appS l E H.size z9 (av := q_2) (vv := v2) (mz := m2) (kk := 0 + 5 + 1) (ml := 0) (fc := c2) (pp := 13) (w9 := 4) e21 (by decide) e24 (Or.inr ⟨rfl, rfl⟩)) (cwV 1 hts g_h_spell_h_appS_270 rfl rfl rfl (by decide +kernel) ⟨Nat.le_of_ble_eq_true rfl, Nat.le_of_ble_eq_true rfl⟩) ⟨qWZ.blind, hrc, (qWZ.pre ⟨hK, hN⟩ hPc hDc hZ hS hFc)⟩ rfl rfl hl.1 rfl (lv_room (Nat.le_of_ble_eq_true rfl)) (dq_182 0 bcX7_spell_0 (j := 39) (i := 270) rfl rfl rfl) ⟨Nat.le_of_ble_eq_true rfl, Nat.le_of_ble_eq_true rfl⟩) hS (fun q _ h => hFc q h) hFc (fun u9 ra_5 tt H1 locs ht hvm hw hB hz1 hk1 hS => ?_)
  obtain ⟨v3, m3, c3⟩ := u9
  obtain ⟨e31, e32, e34⟩ := hw
  obtain ⟨hra, hP1, hD1⟩ := hB
  rw [hra]
  rw [ht] at hP1
  obtain ⟨hP, hD⟩ := va_join (wr := [k_X7 a_ a_tape a_reader a_scripts a_now a_trial a_kept a_book a_keptBook a_history a_draws a_refused c_hasImage, k_X5 a_now a_now_row a_now_partners c_now_askedCount c_now_outcome a_now_share a_now_leftOver, k_I E a_now_row 81 c_now_row]) (w1 := [k_J4 q_2 v3 (0 : Int32) 0 (nI (0 + 5 + 1 + 4)), k_B E v3 m3 c3]) hP hD [3, 4] [0, 1, 2] rfl rfl (by decide) (by decide) hk1 hFc hP1 hD1
  generalize H1 = H at hP hS ⊢
  have h9 := fixPD (ws' := [k_X7 a_ a_tape a_reader a_scripts a_now a_trial a_kept a_book a_keptBook a_history a_draws a_refused c_hasImage, k_X5 a_now a_now_row a_now_partners c_now_askedCount c_now_outcome a_now_share a_now_leftOver, k_I E a_now_row 81 c_now_row, k_J4 q_2 v3 (0 : Int32) 0 (nI (0 + 5 + 1 + 4)), k_B E v3 m3 c3]) hP hD rfl
  clear hP hD
  obtain ⟨hP, hD⟩ := h9
  refine W.widen (k := 5) (n := 122) (Nat.le_of_ble_eq_true rfl) (Nat.le_of_ble_eq_true rfl) ?_
  have e31 : OKm m3 := e31
  have e32 : 0 + 5 + 1 + 4 ≤ m3 := e32
  have e34 : sb_Fit c3 := e34
  refine lv_pop hx hb (dq_87 0 bcX7_spell_0 (j := 42) rfl rfl) rfl ?_
  refine lv_aload_n hx hb (dq_45 0 bcX7_spell_0 (j := 43) rfl rfl) rfl (lv_at hl 0 rfl) ?_
  refine lv_aload_n hx hb (dq_42 0 bcX7_spell_0 (j := 44) rfl rfl) rfl (lv_at hl 1 rfl) ?_
  refine va_get (D := E.1) (ci := 8) (v := .ref a_now) (C := RX7) (T := TX7) (N := 12) hx hb hts i_h_spell_X7 hown hK hP 0 rfl rfl 3 (by decide) (hts (.fieldLink RX7 35 "HushWatch" "now" "LHushWatch$State;") (List.mem_of_getElem? (i := 1) rfl)) (fun _ h9 => h9) rfl (dq_180 0 bcX7_spell_0 (j := 45) (i := 35) rfl rfl rfl) ?_
  refine lv_iload_n hx hb (dq_27 48 bcX7_spell_1 (j := 0) rfl rfl) rfl (lv_at hl 2 rfl) ?_
  refine lv_iconst (v := 0) hx hb (dq_3 48 bcX7_spell_1 (j := 1) rfl rfl) (by decide) ?_
  obtain ⟨x9, hx9, -⟩ := t_of (p1 := nI i9) (p2 := 0) (f := c_now_row)
  have hPc : va_P E.1 vwCl (w_X5_of E a_now a_now_row a_now_partners a_now_share a_now_leftOver c_now_askedCount c_now_outcome c_now_row) H := hP.sub (ws' := [k_X5 a_now a_now_row a_now_partners c_now_askedCount c_now_outcome a_now_share a_now_leftOver, k_I E a_now_row 81 c_now_row]) [1, 2] rfl
  have hrc := va_recv hK hPc (ci := 6) (q0 := 0) rfl rfl
  refine pE_i (va_runV (As := [.int (nI i9), .int (0 : Int32)]) (rest := [.ref q_2]) ⟨hx, hb, hml, hown, hts⟩ (f_X5_of l E (a_ := a_now) (a_row := a_now_row) (a_partners := a_now_partners) (a_share := a_now_share) (a_leftOver := a_now_leftOver) (p1 := nI i9) (p2 := (0 : Int32)) (c_askedCount := c_now_askedCount) (c_outcome := c_now_outcome) (c_row := c_now_row) hx9) (cwV 2 hts g_h_spell_f_X5_of_140 rfl rfl rfl (by decide +kernel) ⟨Nat.le_of_ble_eq_true rfl, Nat.le_of_ble_eq_true rfl⟩) ⟨pP.blind, hrc, (pP.pre ⟨hK, hN⟩ hPc)⟩ rfl rfl hl.1 rfl (lv_room (Nat.le_of_ble_eq_true rfl)) (dq_182 48 bcX7_spell_1 (j := 2) (i := 140) rfl rfl rfl) ⟨Nat.le_of_ble_eq_true rfl, Nat.le_of_ble_eq_true rfl⟩) ?_
  obtain ⟨rx, hrx, sx, sx1, sx2, rfl⟩ := ss_tot (i := x9) hK9
  obtain ⟨hPc, hDc, hFc⟩ := wcut (wc := (wSB E q_2 v3 m3 0 (nI (0 + 5 + 1 + 4)) c3)) hP hD hS hA [3, 4] (by decide) rfl
  have hrc := va_recv hK hPc (ci := 0) (q0 := 0) rfl rfl
  refine va_callr (va_runV (As := [.int x9]) (rest := []) ⟨hx, hb, hml, hown, hts⟩ (h_appI l E H.size K z9 (av := q_2) (vv := v3) (mz := m3) (kk := 0 + 5 + 1 + 4) (ml := 0) (fc := c3) (iv := x9) (s9 := sx) e31 (show 0 + 5 + 1 + 4 + sx ≤ 34 by omega) e34 hrx (gc_of hK9 (show 11 ≤ 0 + 5 + 1 + 4 + sx by omega))) (cwV 1 hts g_h_spell_h_appI_274 rfl rfl rfl (by decide +kernel) ⟨Nat.le_of_ble_eq_true rfl, Nat.le_of_ble_eq_true rfl⟩) ⟨qWZ.blind, hrc, (qWZ.pre ⟨hK, hN⟩ hPc hDc hZ hS hFc)⟩ rfl rfl hl.1 rfl (lv_room (Nat.le_of_ble_eq_true rfl)) (dq_182 48 bcX7_spell_1 (j := 5) (i := 274) rfl rfl rfl) ⟨Nat.le_of_ble_eq_true rfl, Nat.le_of_ble_eq_true rfl⟩) hS (fun q _ h => hFc q h) hFc (fun u9 ra_6 tt H1 locs ht hvm hw hB hz1 hk1 hS => ?_)
  obtain ⟨v4, m4, c4⟩ := u9
  obtain ⟨e41, e42, e44⟩ := hw
  obtain ⟨hra, hP1, hD1⟩ := hB
  rw [hra]
  rw [ht] at hP1
  obtain ⟨hP, hD⟩ := va_join (wr := [k_X7 a_ a_tape a_reader a_scripts a_now a_trial a_kept a_book a_keptBook a_history a_draws a_refused c_hasImage, k_X5 a_now a_now_row a_now_partners c_now_askedCount c_now_outcome a_now_share a_now_leftOver, k_I E a_now_row 81 c_now_row]) (w1 := [k_J4 q_2 v4 (0 : Int32) 0 (nI (0 + 5 + 1 + 4 + sx)), k_B E v4 m4 c4]) hP hD [3, 4] [0, 1, 2] rfl rfl (by decide) (by decide) hk1 hFc hP1 hD1
  generalize H1 = H at hP hS ⊢
  have h9 := fixPD (ws' := [k_X7 a_ a_tape a_reader a_scripts a_now a_trial a_kept a_book a_keptBook a_history a_draws a_refused c_hasImage, k_X5 a_now a_now_row a_now_partners c_now_askedCount c_now_outcome a_now_share a_now_leftOver, k_I E a_now_row 81 c_now_row, k_J4 q_2 v4 (0 : Int32) 0 (nI (0 + 5 + 1 + 4 + sx)), k_B E v4 m4 c4]) hP hD rfl
  clear hP hD
  obtain ⟨hP, hD⟩ := h9
  refine W.widen (k := 6) (n := 156) (Nat.le_of_ble_eq_true rfl) (Nat.le_of_ble_eq_true rfl) ?_
  have e41 : OKm m4 := e41
  have e42 : 0 + 5 + 1 + 4 + sx ≤ m4 := e42
  have e44 : sb_Fit c4 := e44
  refine lv_pop hx hb (dq_87 48 bcX7_spell_1 (j := 8) rfl rfl) rfl ?_
  refine lv_aload_n hx hb (dq_45 48 bcX7_spell_1 (j := 9) rfl rfl) rfl (lv_at hl 0 rfl) ?_
  refine lv_bipush (v := 44) hx hb (dq_16 48 bcX7_spell_1 (j := 10) (i := 44) rfl rfl rfl) (by decide) ?_
  obtain ⟨hPc, hDc, hFc⟩ := wcut (wc := (wSB E q_2 v4 m4 0 (nI (0 + 5 + 1 + 4 + sx)) c4)) hP hD hS hA [3, 4] (by decide) rfl
  have hrc := va_recv hK hPc (ci := 0) (q0 := 0) rfl rfl
  refine va_callr (va_runV (As := [.int (44 : Int32)]) (rest := []) ⟨hx, hb, hml, hown, hts⟩ (h_appC l E H.size z9 (av := q_2) (vv := v4) (mz := m4) (kk := 0 + 5 + 1 + 4 + sx) (ml := 0) (fc := c4) (ch := 44) e41 (show 0 + 5 + 1 + 4 + sx + 1 ≤ 34 by omega) e44 rfl) (cwV 1 hts g_h_spell_h_appC_279 rfl rfl rfl (by decide +kernel) ⟨Nat.le_of_ble_eq_true rfl, Nat.le_of_ble_eq_true rfl⟩) ⟨qWZ.blind, hrc, (qWZ.pre ⟨hK, hN⟩ hPc hDc hZ hS hFc)⟩ rfl rfl hl.1 rfl (lv_room (Nat.le_of_ble_eq_true rfl)) (dq_182 48 bcX7_spell_1 (j := 12) (i := 279) rfl rfl rfl) ⟨Nat.le_of_ble_eq_true rfl, Nat.le_of_ble_eq_true rfl⟩) hS (fun q _ h => hFc q h) hFc (fun u9 ra_7 tt H1 locs ht hvm hw hB hz1 hk1 hS => ?_)
  obtain ⟨v5, m5, c5⟩ := u9
  obtain ⟨e51, e52, e54⟩ := hw
  obtain ⟨hra, hP1, hD1⟩ := hB
  rw [hra]
  rw [ht] at hP1
  obtain ⟨hP, hD⟩ := va_join (wr := [k_X7 a_ a_tape a_reader a_scripts a_now a_trial a_kept a_book a_keptBook a_history a_draws a_refused c_hasImage, k_X5 a_now a_now_row a_now_partners c_now_askedCount c_now_outcome a_now_share a_now_leftOver, k_I E a_now_row 81 c_now_row]) (w1 := [k_J4 q_2 v5 (0 : Int32) 0 (nI (0 + 5 + 1 + 4 + sx + 1)), k_B E v5 m5 c5]) hP hD [3, 4] [0, 1, 2] rfl rfl (by decide) (by decide) hk1 hFc hP1 hD1
  generalize H1 = H at hP hS ⊢
  have h9 := fixPD (ws' := [k_X7 a_ a_tape a_reader a_scripts a_now a_trial a_kept a_book a_keptBook a_history a_draws a_refused c_hasImage, k_X5 a_now a_now_row a_now_partners c_now_askedCount c_now_outcome a_now_share a_now_leftOver, k_I E a_now_row 81 c_now_row, k_J4 q_2 v5 (0 : Int32) 0 (nI (0 + 5 + 1 + 4 + sx + 1)), k_B E v5 m5 c5]) hP hD rfl
  clear hP hD
  obtain ⟨hP, hD⟩ := h9
  refine W.widen (k := 7) (n := 190) (Nat.le_of_ble_eq_true rfl) (Nat.le_of_ble_eq_true rfl) ?_
  have e51 : OKm m5 := e51
  have e52 : 0 + 5 + 1 + 4 + sx + 1 ≤ m5 := e52
  have e54 : sb_Fit c5 := e54
  refine lv_pop hx hb (dq_87 48 bcX7_spell_1 (j := 15) rfl rfl) rfl ?_
  refine lv_aload_n hx hb (dq_45 48 bcX7_spell_1 (j := 16) rfl rfl) rfl (lv_at hl 0 rfl) ?_
  refine lv_aload_n hx hb (dq_42 48 bcX7_spell_1 (j := 17) rfl rfl) rfl (lv_at hl 1 rfl) ?_
  refine va_get (D := E.1) (ci := 8) (v := .ref a_now) (C := RX7) (T := TX7) (N := 12) hx hb hts i_h_spell_X7 hown hK hP 0 rfl rfl 3 (by decide) (hts (.fieldLink RX7 35 "HushWatch" "now" "LHushWatch$State;") (List.mem_of_getElem? (i := 1) rfl)) (fun _ h9 => h9) rfl (dq_180 48 bcX7_spell_1 (j := 18) (i := 35) rfl rfl rfl) ?_
  refine lv_iload_n hx hb (dq_27 48 bcX7_spell_1 (j := 21) rfl rfl) rfl (lv_at hl 2 rfl) ?_
  refine lv_iconst (v := 1) hx hb (dq_4 48 bcX7_spell_1 (j := 22) rfl rfl) (by decide) ?_
  obtain ⟨y9, hy9, -⟩ := t_of (p1 := nI i9) (p2 := 1) (f := c_now_row)
  have hPc : va_P E.1 vwCl (w_X5_of E a_now a_now_row a_now_partners a_now_share a_now_leftOver c_now_askedCount c_now_outcome c_now_row) H := hP.sub (ws' := [k_X5 a_now a_now_row a_now_partners c_now_askedCount c_now_outcome a_now_share a_now_leftOver, k_I E a_now_row 81 c_now_row]) [1, 2] rfl
  have hrc := va_recv hK hPc (ci := 6) (q0 := 0) rfl rfl
  refine pE_i (va_runV (As := [.int (nI i9), .int (1 : Int32)]) (rest := [.ref q_2]) ⟨hx, hb, hml, hown, hts⟩ (f_X5_of l E (a_ := a_now) (a_row := a_now_row) (a_partners := a_now_partners) (a_share := a_now_share) (a_leftOver := a_now_leftOver) (p1 := nI i9) (p2 := (1 : Int32)) (c_askedCount := c_now_askedCount) (c_outcome := c_now_outcome) (c_row := c_now_row) hy9) (cwV 2 hts g_h_spell_f_X5_of_140 rfl rfl rfl (by decide +kernel) ⟨Nat.le_of_ble_eq_true rfl, Nat.le_of_ble_eq_true rfl⟩) ⟨pP.blind, hrc, (pP.pre ⟨hK, hN⟩ hPc)⟩ rfl rfl hl.1 rfl (lv_room (Nat.le_of_ble_eq_true rfl)) (dq_182 48 bcX7_spell_1 (j := 23) (i := 140) rfl rfl rfl) ⟨Nat.le_of_ble_eq_true rfl, Nat.le_of_ble_eq_true rfl⟩) ?_
  obtain ⟨ry, hry, sy, sy1, sy2, rfl⟩ := ss_tot (i := y9) hK9
  obtain ⟨hPc, hDc, hFc⟩ := wcut (wc := (wSB E q_2 v5 m5 0 (nI (0 + 5 + 1 + 4 + sx + 1)) c5)) hP hD hS hA [3, 4] (by decide) rfl
  have hrc := va_recv hK hPc (ci := 0) (q0 := 0) rfl rfl
  refine va_callr (va_runV (As := [.int y9]) (rest := []) ⟨hx, hb, hml, hown, hts⟩ (h_appI l E H.size K z9 (av := q_2) (vv := v5) (mz := m5) (kk := 0 + 5 + 1 + 4 + sx + 1) (ml := 0) (fc := c5) (iv := y9) (s9 := sy) e51 (show 0 + 5 + 1 + 4 + sx + 1 + sy ≤ 34 by omega) e54 hry (gc_of hK9 (show 11 ≤ 0 + 5 + 1 + 4 + sx + 1 + sy by omega))) (cwV 1 hts g_h_spell_h_appI_274 rfl rfl rfl (by decide +kernel) ⟨Nat.le_of_ble_eq_true rfl, Nat.le_of_ble_eq_true rfl⟩) ⟨qWZ.blind, hrc, (qWZ.pre ⟨hK, hN⟩ hPc hDc hZ hS hFc)⟩ rfl rfl hl.1 rfl (lv_room (Nat.le_of_ble_eq_true rfl)) (dq_182 48 bcX7_spell_1 (j := 26) (i := 274) rfl rfl rfl) ⟨Nat.le_of_ble_eq_true rfl, Nat.le_of_ble_eq_true rfl⟩) hS (fun q _ h => hFc q h) hFc (fun u9 ra_8 tt H1 locs ht hvm hw hB hz1 hk1 hS => ?_)
  obtain ⟨v6, m6, c6⟩ := u9
  obtain ⟨e61, e62, e64⟩ := hw
  obtain ⟨hra, hP1, hD1⟩ := hB
  rw [hra]
  rw [ht] at hP1
  obtain ⟨hP, hD⟩ := va_join (wr := [k_X7 a_ a_tape a_reader a_scripts a_now a_trial a_kept a_book a_keptBook a_history a_draws a_refused c_hasImage, k_X5 a_now a_now_row a_now_partners c_now_askedCount c_now_outcome a_now_share a_now_leftOver, k_I E a_now_row 81 c_now_row]) (w1 := [k_J4 q_2 v6 (0 : Int32) 0 (nI (0 + 5 + 1 + 4 + sx + 1 + sy)), k_B E v6 m6 c6]) hP hD [3, 4] [0, 1, 2] rfl rfl (by decide) (by decide) hk1 hFc hP1 hD1
  generalize H1 = H at hP hS ⊢
  have h9 := fixPD (ws' := [k_X7 a_ a_tape a_reader a_scripts a_now a_trial a_kept a_book a_keptBook a_history a_draws a_refused c_hasImage, k_X5 a_now a_now_row a_now_partners c_now_askedCount c_now_outcome a_now_share a_now_leftOver, k_I E a_now_row 81 c_now_row, k_J4 q_2 v6 (0 : Int32) 0 (nI (0 + 5 + 1 + 4 + sx + 1 + sy)), k_B E v6 m6 c6]) hP hD rfl
  clear hP hD
  obtain ⟨hP, hD⟩ := h9
  refine W.widen (k := 8) (n := 224) (Nat.le_of_ble_eq_true rfl) (Nat.le_of_ble_eq_true rfl) ?_
  have e61 : OKm m6 := e61
  have e62 : 0 + 5 + 1 + 4 + sx + 1 + sy ≤ m6 := e62
  have e64 : sb_Fit c6 := e64
  refine lv_pop hx hb (dq_87 48 bcX7_spell_1 (j := 29) rfl rfl) rfl ?_
  refine lv_aload_n hx hb (dq_42 48 bcX7_spell_1 (j := 30) rfl rfl) rfl (lv_at hl 1 rfl) ?_
  refine va_get (D := E.1) (ci := 8) (v := .ref a_now) (C := RX7) (T := TX7) (N := 12) hx hb hts i_h_spell_X7 hown hK hP 0 rfl rfl 3 (by decide) (hts (.fieldLink RX7 35 "HushWatch" "now" "LHushWatch$State;") (List.mem_of_getElem? (i := 1) rfl)) (fun _ h9 => h9) rfl (dq_180 48 bcX7_spell_1 (j := 31) (i := 35) rfl rfl rfl) ?_
  refine lv_iload_n hx hb (dq_27 48 bcX7_spell_1 (j := 34) rfl rfl) rfl (lv_at hl 2 rfl) ?_
  obtain ⟨u8, hu8, -⟩ := t_isQuiet (p1 := nI i9) (f := c_now_row)
  have hPc : va_P E.1 vwCl (w_X5_isQuiet E a_now a_now_row a_now_partners a_now_share a_now_leftOver c_now_askedCount c_now_outcome c_now_row) H := hP.sub (ws' := [k_X5 a_now a_now_row a_now_partners c_now_askedCount c_now_outcome a_now_share a_now_leftOver, k_I E a_now_row 81 c_now_row]) [1, 2] rfl
  have hrc := va_recv hK hPc (ci := 6) (q0 := 0) rfl rfl
  refine pE_z (va_runV (As := [.int (nI i9)]) (rest := []) ⟨hx, hb, hml, hown, hts⟩ (f_X5_isQuiet l E (a_ := a_now) (a_row := a_now_row) (a_partners := a_now_partners) (a_share := a_now_share) (a_leftOver := a_now_leftOver) (p1 := nI i9) (c_askedCount := c_now_askedCount) (c_outcome := c_now_outcome) (c_row := c_now_row) hu8) (cwV 1 hts g_h_spell_f_X5_isQuiet_137 rfl rfl rfl (by decide +kernel) ⟨Nat.le_of_ble_eq_true rfl, Nat.le_of_ble_eq_true rfl⟩) ⟨pP.blind, hrc, (pP.pre ⟨hK, hN⟩ hPc)⟩ rfl rfl hl.1 rfl (lv_room (Nat.le_of_ble_eq_true rfl)) (dq_182 48 bcX7_spell_1 (j := 35) (i := 137) rfl rfl rfl) ⟨Nat.le_of_ble_eq_true rfl, Nat.le_of_ble_eq_true rfl⟩) (fun hb_9 => ?_)
  refine lv_if_ne (tgt := 96) hx hb (dq_154 48 bcX7_spell_1 (j := 38) (i := 10) rfl rfl rfl) (by decide) (fun q8 => ?_) (fun q8 => ?_)
  ·
    refine lv_iload_n hx hb (dq_28 96 bcX7_spell_2 (j := 0) rfl rfl) rfl (lv_at hl 3 rfl) ?_
    refine lv_iconst (v := -1) hx hb (dq_2 96 bcX7_spell_2 (j := 1) rfl rfl) (by decide) ?_
    refine lv_icmp_ne (tgt := 106) hx hb (dq_160 96 bcX7_spell_2 (j := 2) (i := 8) rfl rfl rfl) (by decide) (fun q7 => ?_) (fun q7 => ?_)
    ·
      refine lv_iload_n hx hb (dq_28 96 bcX7_spell_2 (j := 10) rfl rfl) rfl (lv_at hl 3 rfl) ?_
      refine lv_if_lt (tgt := 118) hx hb (dq_155 96 bcX7_spell_2 (j := 11) (i := 11) rfl rfl rfl) (by decide) (fun q6 => ?_) (fun q6 => ?_)
      ·
        refine lv_iconst (v := -1) hx hb (dq_2 96 bcX7_spell_2 (j := 22) rfl rfl) (by decide) ?_
        refine W.widen (k := 9) (n := 258) (Nat.le_of_ble_eq_true rfl) (Nat.le_of_ble_eq_true rfl) ?_
        have hP9 := hP.sub (ws' := [k_X7 a_ a_tape a_reader a_scripts a_now a_trial a_kept a_book a_keptBook a_history a_draws a_refused c_hasImage, k_X5 a_now a_now_row a_now_partners c_now_askedCount c_now_outcome a_now_share a_now_leftOver, k_I E a_now_row 81 c_now_row]) [0, 1, 2] rfl
        have hD9 := hD.sub (ws' := [k_X7 a_ a_tape a_reader a_scripts a_now a_trial a_kept a_book a_keptBook a_history a_draws a_refused c_hasImage, k_X5 a_now a_now_row a_now_partners c_now_askedCount c_now_outcome a_now_share a_now_leftOver, k_I E a_now_row 81 c_now_row]) [0, 1, 2] (by decide) rfl
        rw [hQ]
        exact W.iret (v := -1) hx hb hr (fun tt ht hW => ⟨⟨_, (), rfl, trivial, by rw [ht]; exact hP9, hD9⟩, hS.F ht⟩) hS.2.2 (dq_172 96 bcX7_spell_2 (j := 23) rfl rfl)
      ·
        refine lv_iload_n hx hb (dq_28 96 bcX7_spell_2 (j := 14) rfl rfl) rfl (lv_at hl 3 rfl) ?_
        refine lv_aload_n hx hb (dq_45 96 bcX7_spell_2 (j := 15) rfl rfl) rfl (lv_at hl 0 rfl) ?_
        have hPc : va_P E.1 vwCl (w_J4_length_8abf5 E q_2 v6 (0 : Int32) 0 (nI (0 + 5 + 1 + 4 + sx + 1 + sy))) H := hP.sub (ws' := [k_J4 q_2 v6 (0 : Int32) 0 (nI (0 + 5 + 1 + 4 + sx + 1 + sy))]) [3] rfl
        have hrc := va_recv hK hPc (ci := 0) (q0 := 0) rfl rfl
        refine pE_i (va_runV (As := []) (rest := [.int p2]) ⟨hx, hb, hml, hown, hts⟩ (f_J4_length_8abf5 l E (a_ := q_2) (a_value := v6) (c_coder := (0 : Int32)) (c_maybeLatin1 := 0) (c_count := nI (0 + 5 + 1 + 4 + sx + 1 + sy)) (show F_J4_length_8abf5 (nI (0 + 5 + 1 + 4 + sx + 1 + sy)) = some (nI (0 + 5 + 1 + 4 + sx + 1 + sy)) from rfl)) (cwV 0 hts g_h_spell_f_J4_length_8abf5_282 rfl rfl rfl (by decide +kernel) ⟨Nat.le_of_ble_eq_true rfl, Nat.le_of_ble_eq_true rfl⟩) ⟨pP.blind, hrc, (pP.pre ⟨hK, hN⟩ hPc)⟩ rfl rfl hl.1 rfl (lv_room (Nat.le_of_ble_eq_true rfl)) (dq_182 96 bcX7_spell_2 (j := 16) (i := 282) rfl rfl rfl) ⟨Nat.le_of_ble_eq_true rfl, Nat.le_of_ble_eq_true rfl⟩) ?_
        refine lv_icmp_lt (tgt := 120) hx hb (dq_161 96 bcX7_spell_2 (j := 19) (i := 5) rfl rfl rfl) (by decide) (fun q5 => ?_) (fun q5 => ?_)
        ·
          obtain ⟨j9, hj9, rfl⟩ := nnI (n := 0 + 5 + 1 + 4 + sx + 1 + sy) (by omega) q6 (lt_not.mp q5)
          refine lv_aload_n hx hb (dq_45 96 bcX7_spell_2 (j := 24) rfl rfl) rfl (lv_at hl 0 rfl) ?_
          refine lv_iload_n hx hb (dq_28 96 bcX7_spell_2 (j := 25) rfl rfl) rfl (lv_at hl 3 rfl) ?_
          obtain ⟨r9, hr9⟩ := ca4_ok (c := c6) hj9 e62 e61.le
          have hPc : va_P E.1 vwCl (w_J4_charAt_5068e E q_2 v6 (0 : Int32) 0 (nI (0 + 5 + 1 + 4 + sx + 1 + sy)) c6 m6) H := hP.sub (ws' := [k_J4 q_2 v6 (0 : Int32) 0 (nI (0 + 5 + 1 + 4 + sx + 1 + sy)), k_B E v6 m6 c6]) [3, 4] rfl
          have hrc := va_recv hK hPc (ci := 0) (q0 := 0) rfl rfl
          refine pE_c (va_runV (As := [.int (nI j9)]) (rest := []) ⟨hx, hb, hml, hown, hts⟩ (f_J4_charAt_5068e l E z9 (a_ := q_2) (a_value := v6) (p1 := nI j9) (c_coder := (0 : Int32)) (c_maybeLatin1 := 0) (c_count := nI (0 + 5 + 1 + 4 + sx + 1 + sy)) (c_value := c6) (m9 := m6) hr9) (cwV 1 hts g_h_spell_f_J4_charAt_5068e_284 rfl rfl rfl (by decide +kernel) ⟨Nat.le_of_ble_eq_true rfl, Nat.le_of_ble_eq_true rfl⟩) ⟨qPZ.blind, hrc, (qPZ.pre ⟨hK, hN⟩ hPc hZ hS)⟩ rfl rfl hl.1 rfl (lv_room (Nat.le_of_ble_eq_true rfl)) (dq_182 96 bcX7_spell_2 (j := 26) (i := 284) rfl rfl rfl) ⟨Nat.le_of_ble_eq_true rfl, Nat.le_of_ble_eq_true rfl⟩) (fun hb_10 => ?_)
          refine W.widen (k := 9) (n := 258) (Nat.le_of_ble_eq_true rfl) (Nat.le_of_ble_eq_true rfl) ?_
          have hP9 := hP.sub (ws' := [k_X7 a_ a_tape a_reader a_scripts a_now a_trial a_kept a_book a_keptBook a_history a_draws a_refused c_hasImage, k_X5 a_now a_now_row a_now_partners c_now_askedCount c_now_outcome a_now_share a_now_leftOver, k_I E a_now_row 81 c_now_row]) [0, 1, 2] rfl
          have hD9 := hD.sub (ws' := [k_X7 a_ a_tape a_reader a_scripts a_now a_trial a_kept a_book a_keptBook a_history a_draws a_refused c_hasImage, k_X5 a_now a_now_row a_now_partners c_now_askedCount c_now_outcome a_now_share a_now_leftOver, k_I E a_now_row 81 c_now_row]) [0, 1, 2] (by decide) rfl
          rw [hQ]
          exact W.iret (v := r9) hx hb hr (fun tt ht hW => ⟨⟨_, (), rfl, trivial, by rw [ht]; exact hP9, hD9⟩, hS.F ht⟩) hS.2.2 (dq_172 96 bcX7_spell_2 (j := 29) rfl rfl)
        ·
          refine lv_iconst (v := -1) hx hb (dq_2 96 bcX7_spell_2 (j := 22) rfl rfl) (by decide) ?_
          refine W.widen (k := 9) (n := 258) (Nat.le_of_ble_eq_true rfl) (Nat.le_of_ble_eq_true rfl) ?_
          have hP9 := hP.sub (ws' := [k_X7 a_ a_tape a_reader a_scripts a_now a_trial a_kept a_book a_keptBook a_history a_draws a_refused c_hasImage, k_X5 a_now a_now_row a_now_partners c_now_askedCount c_now_outcome a_now_share a_now_leftOver, k_I E a_now_row 81 c_now_row]) [0, 1, 2] rfl
          have hD9 := hD.sub (ws' := [k_X7 a_ a_tape a_reader a_scripts a_now a_trial a_kept a_book a_keptBook a_history a_draws a_refused c_hasImage, k_X5 a_now a_now_row a_now_partners c_now_askedCount c_now_outcome a_now_share a_now_leftOver, k_I E a_now_row 81 c_now_row]) [0, 1, 2] (by decide) rfl
          rw [hQ]
          exact W.iret (v := -1) hx hb hr (fun tt ht hW => ⟨⟨_, (), rfl, trivial, by rw [ht]; exact hP9, hD9⟩, hS.F ht⟩) hS.2.2 (dq_172 96 bcX7_spell_2 (j := 23) rfl rfl)
    ·
      refine lv_aload_n hx hb (dq_45 96 bcX7_spell_2 (j := 5) rfl rfl) rfl (lv_at hl 0 rfl) ?_
      have hPc : va_P E.1 vwCl (w_J4_length_8abf5 E q_2 v6 (0 : Int32) 0 (nI (0 + 5 + 1 + 4 + sx + 1 + sy))) H := hP.sub (ws' := [k_J4 q_2 v6 (0 : Int32) 0 (nI (0 + 5 + 1 + 4 + sx + 1 + sy))]) [3] rfl
      have hrc := va_recv hK hPc (ci := 0) (q0 := 0) rfl rfl
      refine pE_i (va_runV (As := []) (rest := []) ⟨hx, hb, hml, hown, hts⟩ (f_J4_length_8abf5 l E (a_ := q_2) (a_value := v6) (c_coder := (0 : Int32)) (c_maybeLatin1 := 0) (c_count := nI (0 + 5 + 1 + 4 + sx + 1 + sy)) (show F_J4_length_8abf5 (nI (0 + 5 + 1 + 4 + sx + 1 + sy)) = some (nI (0 + 5 + 1 + 4 + sx + 1 + sy)) from rfl)) (cwV 0 hts g_h_spell_f_J4_length_8abf5_282 rfl rfl rfl (by decide +kernel) ⟨Nat.le_of_ble_eq_true rfl, Nat.le_of_ble_eq_true rfl⟩) ⟨pP.blind, hrc, (pP.pre ⟨hK, hN⟩ hPc)⟩ rfl rfl hl.1 rfl (lv_room (Nat.le_of_ble_eq_true rfl)) (dq_182 96 bcX7_spell_2 (j := 6) (i := 282) rfl rfl rfl) ⟨Nat.le_of_ble_eq_true rfl, Nat.le_of_ble_eq_true rfl⟩) ?_
      refine W.widen (k := 9) (n := 258) (Nat.le_of_ble_eq_true rfl) (Nat.le_of_ble_eq_true rfl) ?_
      have hP9 := hP.sub (ws' := [k_X7 a_ a_tape a_reader a_scripts a_now a_trial a_kept a_book a_keptBook a_history a_draws a_refused c_hasImage, k_X5 a_now a_now_row a_now_partners c_now_askedCount c_now_outcome a_now_share a_now_leftOver, k_I E a_now_row 81 c_now_row]) [0, 1, 2] rfl
      have hD9 := hD.sub (ws' := [k_X7 a_ a_tape a_reader a_scripts a_now a_trial a_kept a_book a_keptBook a_history a_draws a_refused c_hasImage, k_X5 a_now a_now_row a_now_partners c_now_askedCount c_now_outcome a_now_share a_now_leftOver, k_I E a_now_row 81 c_now_row]) [0, 1, 2] (by decide) rfl
      rw [hQ]
      exact W.iret (v := nI (0 + 5 + 1 + 4 + sx + 1 + sy)) hx hb hr (fun tt ht hW => ⟨⟨_, (), rfl, trivial, by rw [ht]; exact hP9, hD9⟩, hS.F ht⟩) hS.2.2 (dq_172 96 bcX7_spell_2 (j := 9) rfl rfl)
  ·
    refine lv_aload_n hx hb (dq_45 48 bcX7_spell_1 (j := 41) rfl rfl) rfl (lv_at hl 0 rfl) ?_
    refine lv_bipush (v := 33) hx hb (dq_16 48 bcX7_spell_1 (j := 42) (i := 33) rfl rfl rfl) (by decide) ?_
    obtain ⟨hPc, hDc, hFc⟩ := wcut (wc := (wSB E q_2 v6 m6 0 (nI (0 + 5 + 1 + 4 + sx + 1 + sy)) c6)) hP hD hS hA [3, 4] (by decide) rfl
    have hrc := va_recv hK hPc (ci := 0) (q0 := 0) rfl rfl
    refine va_callr (va_runV (As := [.int (33 : Int32)]) (rest := []) ⟨hx, hb, hml, hown, hts⟩ (h_appC l E H.size z9 (av := q_2) (vv := v6) (mz := m6) (kk := 0 + 5 + 1 + 4 + sx + 1 + sy) (ml := 0) (fc := c6) (ch := 33) e61 (show 0 + 5 + 1 + 4 + sx + 1 + sy + 1 ≤ 34 by omega) e64 rfl) (cwV 1 hts g_h_spell_h_appC_279 rfl rfl rfl (by decide +kernel) ⟨Nat.le_of_ble_eq_true rfl, Nat.le_of_ble_eq_true rfl⟩) ⟨qWZ.blind, hrc, (qWZ.pre ⟨hK, hN⟩ hPc hDc hZ hS hFc)⟩ rfl rfl hl.1 rfl (lv_room (Nat.le_of_ble_eq_true rfl)) (dq_182 48 bcX7_spell_1 (j := 44) (i := 279) rfl rfl rfl) ⟨Nat.le_of_ble_eq_true rfl, Nat.le_of_ble_eq_true rfl⟩) hS (fun q _ h => hFc q h) hFc (fun u9 ra_11 tt H1 locs ht hvm hw hB hz1 hk1 hS => ?_)
    obtain ⟨v7, m7, c7⟩ := u9
    obtain ⟨e71, e72, e74⟩ := hw
    obtain ⟨hra, hP1, hD1⟩ := hB
    rw [hra]
    rw [ht] at hP1
    obtain ⟨hP, hD⟩ := va_join (wr := [k_X7 a_ a_tape a_reader a_scripts a_now a_trial a_kept a_book a_keptBook a_history a_draws a_refused c_hasImage, k_X5 a_now a_now_row a_now_partners c_now_askedCount c_now_outcome a_now_share a_now_leftOver, k_I E a_now_row 81 c_now_row]) (w1 := [k_J4 q_2 v7 (0 : Int32) 0 (nI (0 + 5 + 1 + 4 + sx + 1 + sy + 1)), k_B E v7 m7 c7]) hP hD [3, 4] [0, 1, 2] rfl rfl (by decide) (by decide) hk1 hFc hP1 hD1
    generalize H1 = H at hP hS ⊢
    have h9 := fixPD (ws' := [k_X7 a_ a_tape a_reader a_scripts a_now a_trial a_kept a_book a_keptBook a_history a_draws a_refused c_hasImage, k_X5 a_now a_now_row a_now_partners c_now_askedCount c_now_outcome a_now_share a_now_leftOver, k_I E a_now_row 81 c_now_row, k_J4 q_2 v7 (0 : Int32) 0 (nI (0 + 5 + 1 + 4 + sx + 1 + sy + 1)), k_B E v7 m7 c7]) hP hD rfl
    clear hP hD
    obtain ⟨hP, hD⟩ := h9
    refine W.widen (k := 9) (n := 258) (Nat.le_of_ble_eq_true rfl) (Nat.le_of_ble_eq_true rfl) ?_
    have e71 : OKm m7 := e71
    have e72 : 0 + 5 + 1 + 4 + sx + 1 + sy + 1 ≤ m7 := e72
    have e74 : sb_Fit c7 := e74
    refine lv_pop hx hb (dq_87 48 bcX7_spell_1 (j := 47) rfl rfl) rfl ?_
    refine lv_iload_n hx hb (dq_28 96 bcX7_spell_2 (j := 0) rfl rfl) rfl (lv_at hl 3 rfl) ?_
    refine lv_iconst (v := -1) hx hb (dq_2 96 bcX7_spell_2 (j := 1) rfl rfl) (by decide) ?_
    refine lv_icmp_ne (tgt := 106) hx hb (dq_160 96 bcX7_spell_2 (j := 2) (i := 8) rfl rfl rfl) (by decide) (fun q7 => ?_) (fun q7 => ?_)
    ·
      refine lv_iload_n hx hb (dq_28 96 bcX7_spell_2 (j := 10) rfl rfl) rfl (lv_at hl 3 rfl) ?_
      refine lv_if_lt (tgt := 118) hx hb (dq_155 96 bcX7_spell_2 (j := 11) (i := 11) rfl rfl rfl) (by decide) (fun q6 => ?_) (fun q6 => ?_)
      ·
        refine lv_iconst (v := -1) hx hb (dq_2 96 bcX7_spell_2 (j := 22) rfl rfl) (by decide) ?_
        refine W.widen (k := 9) (n := 258) (Nat.le_of_ble_eq_true rfl) (Nat.le_of_ble_eq_true rfl) ?_
        have hP9 := hP.sub (ws' := [k_X7 a_ a_tape a_reader a_scripts a_now a_trial a_kept a_book a_keptBook a_history a_draws a_refused c_hasImage, k_X5 a_now a_now_row a_now_partners c_now_askedCount c_now_outcome a_now_share a_now_leftOver, k_I E a_now_row 81 c_now_row]) [0, 1, 2] rfl
        have hD9 := hD.sub (ws' := [k_X7 a_ a_tape a_reader a_scripts a_now a_trial a_kept a_book a_keptBook a_history a_draws a_refused c_hasImage, k_X5 a_now a_now_row a_now_partners c_now_askedCount c_now_outcome a_now_share a_now_leftOver, k_I E a_now_row 81 c_now_row]) [0, 1, 2] (by decide) rfl
        rw [hQ]
        exact W.iret (v := -1) hx hb hr (fun tt ht hW => ⟨⟨_, (), rfl, trivial, by rw [ht]; exact hP9, hD9⟩, hS.F ht⟩) hS.2.2 (dq_172 96 bcX7_spell_2 (j := 23) rfl rfl)
      ·
        refine lv_iload_n hx hb (dq_28 96 bcX7_spell_2 (j := 14) rfl rfl) rfl (lv_at hl 3 rfl) ?_
        refine lv_aload_n hx hb (dq_45 96 bcX7_spell_2 (j := 15) rfl rfl) rfl (lv_at hl 0 rfl) ?_
        have hPc : va_P E.1 vwCl (w_J4_length_8abf5 E q_2 v7 (0 : Int32) 0 (nI (0 + 5 + 1 + 4 + sx + 1 + sy + 1))) H := hP.sub (ws' := [k_J4 q_2 v7 (0 : Int32) 0 (nI (0 + 5 + 1 + 4 + sx + 1 + sy + 1))]) [3] rfl
        have hrc := va_recv hK hPc (ci := 0) (q0 := 0) rfl rfl
        refine pE_i (va_runV (As := []) (rest := [.int p2]) ⟨hx, hb, hml, hown, hts⟩ (f_J4_length_8abf5 l E (a_ := q_2) (a_value := v7) (c_coder := (0 : Int32)) (c_maybeLatin1 := 0) (c_count := nI (0 + 5 + 1 + 4 + sx + 1 + sy + 1)) (show F_J4_length_8abf5 (nI (0 + 5 + 1 + 4 + sx + 1 + sy + 1)) = some (nI (0 + 5 + 1 + 4 + sx + 1 + sy + 1)) from rfl)) (cwV 0 hts g_h_spell_f_J4_length_8abf5_282 rfl rfl rfl (by decide +kernel) ⟨Nat.le_of_ble_eq_true rfl, Nat.le_of_ble_eq_true rfl⟩) ⟨pP.blind, hrc, (pP.pre ⟨hK, hN⟩ hPc)⟩ rfl rfl hl.1 rfl (lv_room (Nat.le_of_ble_eq_true rfl)) (dq_182 96 bcX7_spell_2 (j := 16) (i := 282) rfl rfl rfl) ⟨Nat.le_of_ble_eq_true rfl, Nat.le_of_ble_eq_true rfl⟩) ?_
        refine lv_icmp_lt (tgt := 120) hx hb (dq_161 96 bcX7_spell_2 (j := 19) (i := 5) rfl rfl rfl) (by decide) (fun q5 => ?_) (fun q5 => ?_)
        ·
          obtain ⟨j9, hj9, rfl⟩ := nnI (n := 0 + 5 + 1 + 4 + sx + 1 + sy + 1) (by omega) q6 (lt_not.mp q5)
          refine lv_aload_n hx hb (dq_45 96 bcX7_spell_2 (j := 24) rfl rfl) rfl (lv_at hl 0 rfl) ?_
          refine lv_iload_n hx hb (dq_28 96 bcX7_spell_2 (j := 25) rfl rfl) rfl (lv_at hl 3 rfl) ?_
          obtain ⟨r9, hr9⟩ := ca4_ok (c := c7) hj9 e72 e71.le
          have hPc : va_P E.1 vwCl (w_J4_charAt_5068e E q_2 v7 (0 : Int32) 0 (nI (0 + 5 + 1 + 4 + sx + 1 + sy + 1)) c7 m7) H := hP.sub (ws' := [k_J4 q_2 v7 (0 : Int32) 0 (nI (0 + 5 + 1 + 4 + sx + 1 + sy + 1)), k_B E v7 m7 c7]) [3, 4] rfl
          have hrc := va_recv hK hPc (ci := 0) (q0 := 0) rfl rfl
          refine pE_c (va_runV (As := [.int (nI j9)]) (rest := []) ⟨hx, hb, hml, hown, hts⟩ (f_J4_charAt_5068e l E z9 (a_ := q_2) (a_value := v7) (p1 := nI j9) (c_coder := (0 : Int32)) (c_maybeLatin1 := 0) (c_count := nI (0 + 5 + 1 + 4 + sx + 1 + sy + 1)) (c_value := c7) (m9 := m7) hr9) (cwV 1 hts g_h_spell_f_J4_charAt_5068e_284 rfl rfl rfl (by decide +kernel) ⟨Nat.le_of_ble_eq_true rfl, Nat.le_of_ble_eq_true rfl⟩) ⟨qPZ.blind, hrc, (qPZ.pre ⟨hK, hN⟩ hPc hZ hS)⟩ rfl rfl hl.1 rfl (lv_room (Nat.le_of_ble_eq_true rfl)) (dq_182 96 bcX7_spell_2 (j := 26) (i := 284) rfl rfl rfl) ⟨Nat.le_of_ble_eq_true rfl, Nat.le_of_ble_eq_true rfl⟩) (fun hb_12 => ?_)
          refine W.widen (k := 9) (n := 258) (Nat.le_of_ble_eq_true rfl) (Nat.le_of_ble_eq_true rfl) ?_
          have hP9 := hP.sub (ws' := [k_X7 a_ a_tape a_reader a_scripts a_now a_trial a_kept a_book a_keptBook a_history a_draws a_refused c_hasImage, k_X5 a_now a_now_row a_now_partners c_now_askedCount c_now_outcome a_now_share a_now_leftOver, k_I E a_now_row 81 c_now_row]) [0, 1, 2] rfl
          have hD9 := hD.sub (ws' := [k_X7 a_ a_tape a_reader a_scripts a_now a_trial a_kept a_book a_keptBook a_history a_draws a_refused c_hasImage, k_X5 a_now a_now_row a_now_partners c_now_askedCount c_now_outcome a_now_share a_now_leftOver, k_I E a_now_row 81 c_now_row]) [0, 1, 2] (by decide) rfl
          rw [hQ]
          exact W.iret (v := r9) hx hb hr (fun tt ht hW => ⟨⟨_, (), rfl, trivial, by rw [ht]; exact hP9, hD9⟩, hS.F ht⟩) hS.2.2 (dq_172 96 bcX7_spell_2 (j := 29) rfl rfl)
        ·
          refine lv_iconst (v := -1) hx hb (dq_2 96 bcX7_spell_2 (j := 22) rfl rfl) (by decide) ?_
          refine W.widen (k := 9) (n := 258) (Nat.le_of_ble_eq_true rfl) (Nat.le_of_ble_eq_true rfl) ?_
          have hP9 := hP.sub (ws' := [k_X7 a_ a_tape a_reader a_scripts a_now a_trial a_kept a_book a_keptBook a_history a_draws a_refused c_hasImage, k_X5 a_now a_now_row a_now_partners c_now_askedCount c_now_outcome a_now_share a_now_leftOver, k_I E a_now_row 81 c_now_row]) [0, 1, 2] rfl
          have hD9 := hD.sub (ws' := [k_X7 a_ a_tape a_reader a_scripts a_now a_trial a_kept a_book a_keptBook a_history a_draws a_refused c_hasImage, k_X5 a_now a_now_row a_now_partners c_now_askedCount c_now_outcome a_now_share a_now_leftOver, k_I E a_now_row 81 c_now_row]) [0, 1, 2] (by decide) rfl
          rw [hQ]
          exact W.iret (v := -1) hx hb hr (fun tt ht hW => ⟨⟨_, (), rfl, trivial, by rw [ht]; exact hP9, hD9⟩, hS.F ht⟩) hS.2.2 (dq_172 96 bcX7_spell_2 (j := 23) rfl rfl)
    ·
      refine lv_aload_n hx hb (dq_45 96 bcX7_spell_2 (j := 5) rfl rfl) rfl (lv_at hl 0 rfl) ?_
      have hPc : va_P E.1 vwCl (w_J4_length_8abf5 E q_2 v7 (0 : Int32) 0 (nI (0 + 5 + 1 + 4 + sx + 1 + sy + 1))) H := hP.sub (ws' := [k_J4 q_2 v7 (0 : Int32) 0 (nI (0 + 5 + 1 + 4 + sx + 1 + sy + 1))]) [3] rfl
      have hrc := va_recv hK hPc (ci := 0) (q0 := 0) rfl rfl
      refine pE_i (va_runV (As := []) (rest := []) ⟨hx, hb, hml, hown, hts⟩ (f_J4_length_8abf5 l E (a_ := q_2) (a_value := v7) (c_coder := (0 : Int32)) (c_maybeLatin1 := 0) (c_count := nI (0 + 5 + 1 + 4 + sx + 1 + sy + 1)) (show F_J4_length_8abf5 (nI (0 + 5 + 1 + 4 + sx + 1 + sy + 1)) = some (nI (0 + 5 + 1 + 4 + sx + 1 + sy + 1)) from rfl)) (cwV 0 hts g_h_spell_f_J4_length_8abf5_282 rfl rfl rfl (by decide +kernel) ⟨Nat.le_of_ble_eq_true rfl, Nat.le_of_ble_eq_true rfl⟩) ⟨pP.blind, hrc, (pP.pre ⟨hK, hN⟩ hPc)⟩ rfl rfl hl.1 rfl (lv_room (Nat.le_of_ble_eq_true rfl)) (dq_182 96 bcX7_spell_2 (j := 6) (i := 282) rfl rfl rfl) ⟨Nat.le_of_ble_eq_true rfl, Nat.le_of_ble_eq_true rfl⟩) ?_
      refine W.widen (k := 9) (n := 258) (Nat.le_of_ble_eq_true rfl) (Nat.le_of_ble_eq_true rfl) ?_
      have hP9 := hP.sub (ws' := [k_X7 a_ a_tape a_reader a_scripts a_now a_trial a_kept a_book a_keptBook a_history a_draws a_refused c_hasImage, k_X5 a_now a_now_row a_now_partners c_now_askedCount c_now_outcome a_now_share a_now_leftOver, k_I E a_now_row 81 c_now_row]) [0, 1, 2] rfl
      have hD9 := hD.sub (ws' := [k_X7 a_ a_tape a_reader a_scripts a_now a_trial a_kept a_book a_keptBook a_history a_draws a_refused c_hasImage, k_X5 a_now a_now_row a_now_partners c_now_askedCount c_now_outcome a_now_share a_now_leftOver, k_I E a_now_row 81 c_now_row]) [0, 1, 2] (by decide) rfl
      rw [hQ]
      exact W.iret (v := nI (0 + 5 + 1 + 4 + sx + 1 + sy + 1)) hx hb hr (fun tt ht hW => ⟨⟨_, (), rfl, trivial, by rw [ht]; exact hP9, hD9⟩, hS.F ht⟩) hS.2.2 (dq_172 96 bcX7_spell_2 (j := 9) rfl rfl)
end
-- 85a.throw
section

/-! ===== 'throw new NoSuchElementException(text)' in a launch without stack traces. Its own constructor hands on by entry 13 of its pool, not 7 as the kit's row vx_throwS has it; composed of the library's laws (ThrowableC.of_atoms, Init0T.ofS_atoms, PassC.ofS_atoms, Bundle.chainS, Steps.initColdS, Stand.ctorMessageOffV, Stand.athrowLeaves) ===== -/
def nsX : String := "java/util/NoSuchElementException"
def nsRun : String := "java/lang/RuntimeException"
abbrev nsCode : ByteArray := prog_31_method_4_code
theorem ns_d0 : decode nsCode 0 = .ok (.aload_n 0, 1) := by decide +kernel
theorem ns_d1 : decode nsCode 1 = .ok (.aload_n 1, 1) := by decide +kernel
theorem ns_d2 : decode nsCode 2 = .ok (.invokespecial 13, 3) := by decide +kernel
theorem ns_d5 : decode nsCode 5 = .ok (.return_, 1) := by decide +kernel
def nsOwn (own : String) (ic : Nat) : List Cond := [.methodLink own ic (Bundle.initS nsX), .instantiable nsX 6, .castable nsX nsX, .selects nsX Bundle.tFill0 Bundle.tFill0, .selects nsX Bundle.tFill Bundle.tFill,
   .lays nsX Bundle.tN "cause" "Ljava/lang/Throwable;", .lays nsX Bundle.tN "stackTrace" Bundle.steD, .lays nsX Bundle.tN "suppressedExceptions" Bundle.listD, .lays nsX Bundle.tN "detailMessage" "Ljava/lang/String;",
   .isRef (.static Bundle.tN "UNASSIGNED_STACK" Bundle.steD), .isRef (.static Bundle.tN "SUPPRESSED_SENTINEL" Bundle.listD),
   .fieldLink Bundle.tN 198 Bundle.tN "backtrace" "Ljava/lang/Object;", .lays Bundle.tN Bundle.tN "backtrace" "Ljava/lang/Object;", .lays nsX Bundle.tN "backtrace" "Ljava/lang/Object;"]
def nsAll (own : String) (ic : Nat) : List Cond := Bundle.throwableAtoms ++ (Bundle.throwableSAtoms ++ (Bundle.passSAtoms nsX nsRun 13 nsCode ++ (Bundle.chainSAtoms nsRun ["java/lang/Exception"] ++ nsOwn own ic)))
def nsAt (own : String) (ic : Nat) : List Cond := (nsAll own ic).filter vx_no
section NSC
variable {p : Program} {l : Launch} {e : Env} {R : Room} {s : State} {m₀ : MethodId} {args : Array Value} {below : List Frame} {meth : Method} {c : Code} {V : State} {locs : List Loc} {cells slots : Nat}
set_option maxHeartbeats 4000000 in
theorem ns_ctor (X : Stand p l e R s m₀ args below meth c V locs cells slots) (hexec : p.tables.exec = Jvm.exec) (htr : e.platform.stackTraces = false) {own : String} {ic : Nat}
    (hown : s.vm.findClass own = some m₀.cls) (h : ∀ a ∈ nsAll own ic, a.before args s = true)
    (hlocs : ∀ x ∈ locs, ∀ cell, s.heap[x.base]? = some cell → cell.vm.isStatics = false)
    {a : Addr} {cX : ClassId} {kX : Class} (hfoundX : s.vm.findClass nsX = some cX) (hkX : s.vm.classes[cX]? = some kX) (hcell : V.heap[a]? = some (freshCell cX kX)) (hnew : s.heap.size ≤ a)
    {msg : Value} (hmsg : msg.isRef = true)
    {g : JFrame} (hg : g.method = m₀) (hsize : g.locals.size = c.maxLocals) (hlocked : g.locked = none) (hentered : g.entered = []) {rest : List Value} (hstack : g.stack = msg :: .ref a :: .ref a :: rest)
    (hd6 : decode c.code g.pc = .ok (.invokespecial ic, 3)) (hd9 : decode c.code (g.pc + 3) = .ok (.athrow, 1)) (hout : ∀ x ∈ c.exceptionTable.toList, covers x (g.pc + 3) = false)
    (hRframes : 5 < R.frames) (hRlocals : 2 * g.monitorRoom + ((Value.ref a :: rest).map fun v => v.category).sum + 81 ≤ R.locals) (hlocks : meth.locks = false) :
    ∃ U : State, Steps p.tables e below (V.setTop g) U ∧ U.status = .running ∧ Ended U below (.threw a) ∧ s.WarmedH U.vm ∧ s.sameButNew ({ U with vm := s.vm } : State) locs cells slots ∧
      ∃ ce : Cell, U.heap[a]? = some ce ∧ ce.vm = .none ∧ s.vm.findClass nsX = some ce.cls := by
  have howns : e.platform.frameOwnsMonitors = true := by rw [X.admits.platform]
  have hfin : e.platform.finalization = false := by rw [X.admits.platform]
  have hpl : e.platform.magicAccessors = ({} : Platform).magicAccessors := by rw [X.admits.platform]
  have ho : ∀ x ∈ nsOwn own ic, x.before args s = true := fun x hx => h x (List.mem_append_right _ (List.mem_append_right _ (List.mem_append_right _ (List.mem_append_right _ hx))))
  have hpa : ∀ x ∈ Bundle.passSAtoms nsX nsRun 13 nsCode, x.before args s = true := fun x hx => h x (List.mem_append_right _ (List.mem_append_right _ (List.mem_append_left _ hx)))
  obtain ⟨T, Z0, L, -, Y⟩ := ThrowableC.of_atoms (args := args) howns hfin hpl (fun x hx => h x (List.mem_append_left _ hx))
  obtain ⟨Z, M, LZ, LM, hnZ⟩ := Init0T.ofS_atoms (args := args) hpl L Y (fun x hx => h x (List.mem_append_right _ (List.mem_append_left _ hx)))
  obtain ⟨P2, Ps, hlen, L2, hL, hP2m, hlink2, hlink⟩ := Bundle.chainS (args := args) hpl hnZ ["java/lang/Exception"] nsRun (by decide +kernel) (by decide +kernel) (fun x hx => h x (List.mem_append_right _ (List.mem_append_right _ (List.mem_append_right _ (List.mem_append_left _ hx)))))
  obtain ⟨P1, L1, hP1m, hs1⟩ := PassC.ofS_atoms (args := args) (s := s) hpl (X := nsX) (Y := nsRun) (by decide +kernel) (by decide +kernel) ns_d0 ns_d1 ns_d2 ns_d5 hpa
  have hsup : P1.sup = P2.m := Option.some.inj (hs1.symm.trans hP2m)
  have hfound : s.vm.findClass nsX = some P1.m.cls := findClass_of_methodNamed hP1m
  cases Option.some.inj (hfoundX.symm.trans hfound)
  obtain ⟨c1, kX', hc1, hk, hord, -, -, hn6⟩ := Cond.instantiable_spec (show (Cond.instantiable nsX 6).holds args s none s [] = true from ho (.instantiable nsX 6) (List.mem_of_getElem? (i := 1) rfl))
  cases Option.some.inj (hc1.symm.trans hfound)
  cases Option.some.inj (hkX.symm.trans hk)
  have hsel : ∀ (y : MethodName) (id : MethodId), (Cond.selects nsX y y).before args s = true → s.methodNamed? y = some id → s.methodFound? y.cls y.name y.desc = some id → selectMethod e.platform s.vm P1.m.cls id = .method id := by
    intro y id hy hid hfd
    obtain ⟨c2, r2, m2, q1, q2, q3, q4, -⟩ := Cond.selects_spec hy
    cases Option.some.inj (q1.symm.trans hfound)
    cases Option.some.inj (q2.symm.trans hfd)
    cases Option.some.inj (q3.symm.trans hid)
    rw [Launch.admits_selectMethod X.admits]; exact q4
  have hsel0 := hsel Bundle.tFill0 T.fill0 (ho (.selects nsX Bundle.tFill0 Bundle.tFill0) (List.mem_of_getElem? (i := 3) rfl)) Y.fill0 (State.methodFound?_of_named Y.fill0 (by decide +kernel))
  have hselF := hsel Bundle.tFill T.fill (ho (.selects nsX Bundle.tFill Bundle.tFill) (List.mem_of_getElem? (i := 4) rfl)) Y.fill (State.methodFound?_of_named Y.fill (by decide +kernel))
  obtain ⟨cellS0, hcS0, hiss⟩ := Y.statics
  obtain ⟨u0, hu0⟩ := Cond.staticRefV Y.unassigned L.unassignedStatic L.statics hcS0 hiss (ho (.isRef (.static Bundle.tN "UNASSIGNED_STACK" Bundle.steD)) (List.mem_of_getElem? (i := 9) rfl))
  obtain ⟨sen, hsen⟩ := Cond.staticRefV Y.sentinel L.sentinelStatic L.statics hcS0 hiss (ho (.isRef (.static Bundle.tN "SUPPRESSED_SENTINEL" Bundle.listD)) (List.mem_of_getElem? (i := 10) rfl))
  obtain ⟨ci198, i198, fB, hk198, hg198, ha198, hsB, -, hnB, htB, hffB⟩ := Cond.ownField (t := .object "java/lang/Object") Y.found L.cls (by decide +kernel) (ho (.fieldLink Bundle.tN 198 Bundle.tN "backtrace" "Ljava/lang/Object;") (List.mem_of_getElem? (i := 11) rfl)) (ho (.lays Bundle.tN Bundle.tN "backtrace" "Ljava/lang/Object;") (List.mem_of_getElem? (i := 12) rfl)) e.platform hpl
  obtain ⟨cellS, hcS', heS, -, hkeep⟩ := X.same.2.2.2.2.2 T.aS cellS0 hcS0
  have hcellS : V.heap[T.aS]? = some cellS := hcS'
  have hout' : ∀ i, (⟨T.aS, i⟩ : Loc) ∉ locs := fun i hmem => by
    have h9 := hlocs _ hmem cellS0 hcS0
    rw [hiss] at h9; cases h9
  have hknownS : cellS.vm ≠ .unknown := fun hu => by
    rw [heS] at hu
    rw [show cellS0.vm = .unknown from hu] at hiss
    cases hiss
  have hneS : T.aS ≠ a := Nat.ne_of_lt (Nat.lt_of_lt_of_le (Array.getElem?_eq_some_iff.mp hcS0).1 hnew)
  obtain ⟨iM, hffM⟩ := Y.msg
  obtain ⟨tyC, dC, hdC, hdnC⟩ := Cond.laysAt hfound hk Y.cause (ho (.lays nsX Bundle.tN "cause" "Ljava/lang/Throwable;") (List.mem_of_getElem? (i := 5) rfl))
  obtain ⟨tyS, dS, hdS, hdnS⟩ := Cond.laysAt hfound hk Y.stack (ho (.lays nsX Bundle.tN "stackTrace" Bundle.steD) (List.mem_of_getElem? (i := 6) rfl))
  obtain ⟨tyP, dP, hdP, hdnP⟩ := Cond.laysAt hfound hk Y.supp (ho (.lays nsX Bundle.tN "suppressedExceptions" Bundle.listD) (List.mem_of_getElem? (i := 7) rfl))
  obtain ⟨tyM, dM, hdM, hdnM⟩ := Cond.laysAt hfound hk hffM (ho (.lays nsX Bundle.tN "detailMessage" "Ljava/lang/String;") (List.mem_of_getElem? (i := 8) rfl))
  obtain ⟨tyB, dB, hdB, hdnB⟩ := Cond.laysAt hfound hk hffB (ho (.lays nsX Bundle.tN "backtrace" "Ljava/lang/Object;") (List.mem_of_getElem? (i := 13) rfl))
  have bC := Cond.laysApart hdB hdC hdnB hdnC (by rw [hnB, Y.causeName]; decide +kernel)
  have bS := Cond.laysApart hdB hdS hdnB hdnS (by rw [hnB, Y.stackName]; decide +kernel)
  have bP := Cond.laysApart hdB hdP hdnB hdnP (by rw [hnB, Y.suppName]; decide +kernel)
  have hskip : SkipFacts T e.platform s (fun u => u) u0 ((preparedCellV T.toThrowableT (freshCell P1.m.cls kX) a u0 sen).withEntry V.cur) :=
    ⟨{ ci198 := ci198, i198 := i198, fBack := fB }, ⟨hk198, hg198, ha198, hsB⟩, by
      have h9 := fresh_default (c := P1.m.cls) tyB
      rw [htB] at h9
      simpa [preparedCellV, Cell.setSlot, Cell.withEntry, Array.getElem?_setIfInBounds, bC, bS, bP, bC.symm, bS.symm, bP.symm, defaultValue] using h9, fun _ _ => rfl⟩
  obtain ⟨tm, methC, cdC, kC, vm₁, hnC, -, -, -, -, -, -, -, hW₁, st1⟩ := Steps.initColdS (tb := p.tables) (e := e) (below := below) (s := s) (U := V) X.here hexec X.warmed hpl hown (t := Bundle.initS nsX) rfl rfl (by decide +kernel)
    (ho (.methodLink own ic (Bundle.initS nsX)) (List.mem_of_getElem? (i := 0) rfl)) (hpa (.instanceMethod (Bundle.initS nsX)) (List.mem_of_getElem? (i := 0) rfl)) (bytes := nsCode) (maxL := 2) (hpa (.code (Bundle.initS nsX) nsCode 2 none) (List.mem_of_getElem? (i := 1) rfl))
    (f := g) hg (a := a) (msg := msg) (rest := .ref a :: rest) hstack hd6
  cases Option.some.inj (hnC.symm.trans hP1m)
  have X₁ := X.noted hW₁
  have hlen2 : (P1 :: P2 :: Ps).length = 3 := by simp [hlen]
  obtain ⟨vm₂, X₂, st2⟩ := X₁.ctorMessageOffV hexec (g := { g with stack := .ref a :: rest }) hg hsize T L Z LZ M LM (P1 :: P2 :: Ps)
    (fun P hP => by
      rcases List.mem_cons.mp hP with rfl | hP
      · exact L1
      · rcases List.mem_cons.mp hP with rfl | hP
        · exact L2
        · exact hL P hP) ⟨hsup, hlink2, hlink⟩ (u0 := u0) (sen := sen) (self := a) hmsg (cell := freshCell P1.m.cls kX) (cellS := cellS)
    hcell (fun _ => by simp) (by simp) rfl rfl hsel0 hselF hcellS hneS hknownS (by rw [hkeep _ (hout' _)]; exact hu0) (by rw [hkeep _ (hout' _)]; exact hsen)
    (Takes.of_laid hk hord tyC (by rw [Y.causeType]; rfl)) (Takes.of_laid hk hord tyS (by rw [Y.stackType]; exact fits_refV_array _ u0)) (Takes.of_laid hk hord tyP (by rw [Y.suppType]; exact fits_refV_object _ sen))
    (Takes.of_laid hk hord tyM (by rw [Y.msgType]; exact fits_refV_object _ ⟨msg, hmsg⟩)) Y.objLocals hskip htr [] hd6
    (by rw [hlen2]; omega) (by rw [hlen2]; omega)
  obtain ⟨hwalk, hrun, hended, hWU, hsame⟩ := X₂.athrowLeaves hexec (g := { g with stack := .ref a :: rest, pc := g.pc + 3 }) hg hlocked hentered hout (a := a) (rest := rest) rfl hd9
  have hlt : a < ((V.setVm vm₁).setVm vm₂).heap.size := (Array.getElem?_eq_some_iff.mp hcell).1
  have hU := heapAt_setCell_self (s := (V.setVm vm₁).setVm vm₂) (plainBareV T.toThrowableT (freshCell P1.m.cls kX) a u0 sen msg) hlt
  refine ⟨_, st1 _ (fun acts => ?_), hrun, hended, hWU, hsame.weaken (fun y hy hlt' => ?_) (Nat.le_refl _) (Nat.le_refl _), _, hU, rfl, hfound⟩
  · rw [doInvoke_state]
    exact st2 _ hwalk
  · rcases List.mem_append.mp hy with h1 | h1
    · exact h1
    · exfalso
      have hb : y.base = a := by
        simp only [List.mem_cons, List.not_mem_nil, or_false] at h1
        rcases h1 with rfl | rfl | rfl | rfl | rfl <;> rfl
      rw [hb] at hlt'
      exact Nat.not_lt.mpr hnew hlt'
end NSC
/-- what else a throw takes as given: words that the tables say and that no list of good words bears -/
def nsB : List Cond := [.castable nsX nsX, .declares (Bundle.initS nsRun), .declares (Bundle.initS "java/lang/Exception"), .declares (Bundle.initS Bundle.tN)]
def nsOkB : Cond → Bool
  | .castable .. => true
  | .declares .. => true
  | _ => false
theorem nsB_ok : ∀ w ∈ nsB, nsOkB w = true := by decide +kernel
theorem nsB_warm {w : Cond} (h2 : nsOkB w = true) {s U : State} (hW : s.WarmedH U.vm) (h1 : va_Nw w s) : va_Nw w U := by
  cases w with
  | castable a b => exact va_Nw.warmC hW h1
  | declares x => exact va_Nw.warmD hW h1
  | _ => simp [nsOkB] at h2
theorem nsB_same {w : Cond} (h2 : nsOkB w = true) {u U : State} (h : u.vm = U.vm) (h1 : va_Nw w u) : va_Nw w U := by
  cases w with
  | castable a b => exact va_Nw.same rfl h h1
  | declares x => exact va_Nw.same rfl h h1
  | _ => simp [nsOkB] at h2
theorem nsB_use {w : Cond} (h2 : nsOkB w = true) {A : Array Value} {U : State} (h1 : va_Nw w U) : w.before A U = true := by
  cases w with
  | castable a b => exact va_Nw.use rfl h1
  | declares x => exact va_Nw.use rfl h1
  | _ => simp [nsOkB] at h2
theorem nsB_of {w : Cond} (h2 : nsOkB w = true) {A : Array Value} {U : State} (h : w.before A U = true) : va_Nw w U := by
  cases w with
  | castable a b => exact va_Nw.of rfl h
  | declares x => exact va_Nw.of rfl h
  | _ => simp [nsOkB] at h2
def nsG : List Cond := (nsAt "HushWatch" 127).filter goodWord
set_option maxRecDepth 100000 in
theorem nsG_good : nsG.all goodWord = true := by decide +kernel
set_option maxRecDepth 100000 in
theorem nsG_rest : ∀ w ∈ (nsAt "HushWatch" 127).filter (fun w => !goodWord w), w ∈ nsB := by decide +kernel
set_option maxRecDepth 100000 in
theorem nsG_ot : ∀ w ∈ Cond.classLink "HushWatch" 123 nsX :: Cond.initialized nsX :: nsAt "HushWatch" 127, vx_ot w = true := by decide +kernel
section NST
variable {p : Program} {l : Launch} {e : Env} {R : Room} {s : State} {m : MethodId} {args : Array Value} {below : List Frame} {meth : Method} {c : Code} {H : Heap} {locs : List Loc} {cells slots : Nat} {ls : Array Slot} {rest : List Value}
variable {Qc : Array Value → State → Outcome → State → Prop} {XC : String → State → State → Prop} {free : Addr → Prop}
set_option maxHeartbeats 4000000 in
theorem ns_throw {cc : ByteArray} {pc : Nat} (hexec : p.tables.exec = Jvm.exec) (hb : c.code = cc) (hl : l.stackTraces = false) {own text : String} {ik is ic mc ms sa : Nat} {A : Nat → Prop}
    (hown : s.vm.findClass own = some m.cls)
    (hk : (Cond.classLink own ik nsX).before args s = true) (hini : (Cond.initialized nsX).before args s = true) (hstr : vk_R own is text sa s) (hat : ∀ w ∈ nsAt own ic, w.before args s = true)
    (hgood : ∀ w ∈ Cond.classLink own ik nsX :: Cond.initialized nsX :: nsAt own ic, vx_ot w = true)
    (hU : vx_Zq Bundle.tN "UNASSIGNED_STACK" Bundle.steD A s s.heap) (hN : vx_Zq Bundle.tN "SUPPRESSED_SENTINEL" Bundle.listD A s s.heap) (hS : va_S A s.heap H locs) (hsize : ls.size = c.maxLocals)
    (d0 : decode cc pc = .ok (.new ik, 3)) (d3 : decode cc (pc + 3) = .ok (.dup, 1)) (d4 : decode cc (pc + 4) = .ok (.ldc is, 2)) (d6 : decode cc (pc + 6) = .ok (.invokespecial ic, 3)) (d9 : decode cc (pc + 9) = .ok (.athrow, 1))
    (hout : ∀ x ∈ c.exceptionTable.toList, covers x (pc + 9) = false)
    (hRframes : 5 < R.frames) (hRlocals : (rest.map fun v => v.category).sum + 82 ≤ R.locals) (hRcells : cells + 1 ≤ R.cells) (hRslots : slots + 6 ≤ R.slots) (hlocks : meth.locks = false)
    (hx : ∀ t : State, s.vm.Alike t.vm → H.size ≤ t.heap.size → (∀ q : Nat, q < H.size → t.heap[q]? = H[q]?) → XC nsX s t)
    (hf : ∀ z ∈ locs, free z.base) (hc : cells + 1 ≤ mc) (hs : slots + 6 ≤ ms) :
    W p l e R s m args below meth c H locs cells slots (vx_MQ below Qc XC args s mc ms free) (F0 m pc ls rest) := by
  intro T hT X
  have htr : e.platform.stackTraces = false := (show e.platform.stackTraces = l.stackTraces by rw [X.admits.platform]).trans hl
  have Y := vx_rebase X (R' := { frames := R.frames, locals := R.locals, cells := 1, slots := 6 }) (Nat.le_refl _) (Nat.le_refl _) hRcells hRslots
  obtain ⟨s', hA⟩ : ∃ z, z = (T.setVm s.vm).setFrames (.invoking m args :: below) := ⟨_, rfl⟩
  rw [← hA] at Y
  have hvm : s'.vm = s.vm := by rw [hA]; rfl
  have hhp : s'.heap = H := by rw [hA]; exact hT
  have hW0 : s.WarmedH s'.vm := by rw [hvm]; exact State.WarmedH.refl s
  have hat' : ∀ w ∈ nsAt own ic, w.before args s' = true := fun w hw => vx_ot_at hW0 hvm.symm (hgood w (List.mem_cons_of_mem _ (List.mem_cons_of_mem _ hw))) (hat w hw)
  have hk' : (Cond.classLink own ik nsX).before args s' = true := vx_ot_at hW0 hvm.symm (hgood _ List.mem_cons_self) hk
  have hini' : (Cond.initialized nsX).before args s' = true := vx_ot_at hW0 hvm.symm (hgood _ (List.mem_cons_of_mem _ List.mem_cons_self)) hini
  have hU' : vx_Zq Bundle.tN "UNASSIGNED_STACK" Bundle.steD A s' s'.heap := by rw [hhp]; exact vx_Zq.moved hW0.alike (hU.kept hS.2.1)
  have hN' : vx_Zq Bundle.tN "SUPPRESSED_SENTINEL" Bundle.listD A s' s'.heap := by rw [hhp]; exact vx_Zq.moved hW0.alike (hN.kept hS.2.1)
  have h : ∀ w ∈ nsAll own ic, w.before args s' = true := vx_own hat' (vx_isRefq hU'.1) (vx_isRefq hN'.1) hU'.2.word hN'.2.word
  have hown' : s'.vm.findClass own = some m.cls := by rw [hvm]; exact hown
  have hins : (Cond.instantiable nsX 6).before args s' = true := h (.instantiable nsX 6) (List.mem_append_right _ (List.mem_append_right _ (List.mem_append_right _ (List.mem_append_right _ (List.mem_of_getElem? (l := nsOwn own ic) (i := 1) rfl)))))
  obtain ⟨vm₁, cX, kX, hfX, hkX, -, -, X₁, st1⟩ := Y.newCold hexec (own := own) (C := nsX) (index := ik) (n := 6) hown' hk' hins hini'
    (g := F0 m pc ls rest) rfl (by rw [hb]; exact d0) (Nat.le_refl _) (Nat.le_refl _)
  generalize hT1 : (T.setVm vm₁).pushCell { cls := cX, slots := kX.instanceTypes.map defaultValue, vm := .none } = T1 at X₁ st1
  have hcat : (Value.ref T.heap.size).category = 1 := rfl
  have hcellA : T1.heap[T.heap.size]? = some (freshCell cX kX) := by rw [← hT1]; exact State.heap_pushCell_size _ _
  have d3' : decode c.code (pc + 3) = .ok (.dup, 1) := by rw [hb]; exact d3
  have d4' : decode c.code (pc + 4) = .ok (.ldc is, 2) := by rw [hb]; exact d4
  have hstr' : vk_R own is text sa s' := vk_R.warm hW0 hstr
  obtain ⟨U, hsteps, hrun, hend, hW, hsame, ce, hce, hcv, hcc⟩ := ns_ctor X₁ hexec htr (own := own) (ic := ic) hown' h (fun x hx => nomatch hx) hfX hkX hcellA (by rw [hhp, hT]; exact Nat.le_refl _) (msg := .ref sa) rfl
    (g := { method := m, pc := pc + 6, locals := ls, stack := .ref sa :: .ref T.heap.size :: .ref T.heap.size :: rest, locked := none }) rfl hsize rfl rfl (rest := rest) rfl
    (by rw [hb]; exact d6) (by rw [hb]; exact d9) hout hRframes (by
      show 2 * 0 + _ + 81 ≤ R.locals
      simp only [List.map_cons, List.sum_cons, hcat]; omega) hlocks
  obtain ⟨f1, f2⟩ := vx_frame hsame
  rw [hhp] at f1 f2
  have hWs : s.WarmedH U.vm := State.WarmedH.trans hW0 hW
  have hcl : s.vm.findClass nsX = some ce.cls := by
    rw [hvm] at hcc
    exact hcc
  have hall : s.sameButNew ({ U with vm := s.vm } : State) locs mc ms := by
    subst hA
    obtain ⟨e1, e2⟩ := hsame
    rw [State.setFrames_setFrames] at e1
    have h2 : (T.setVm s.vm).sameButNew ({ U with vm := s.vm } : State) [] (0 + 1) (0 + 6) := ⟨e1, e2⟩
    have h3 := X.same.trans h2
    rw [List.append_nil] at h3
    exact h3.mono hc hs
  refine ⟨U, ?_, .threw T.heap.size, hrun, hend, Or.inr ⟨T.heap.size, rfl, nsX, ce, locs, hx U hWs.alike f1 (fun q hq => f2 q hq (fun z hz => nomatch hz)), hce, hcv, hcl, hWs, hall, hf⟩⟩
  refine st1 _ ?_
  show Steps p.tables e below (T1.setTop { method := m, pc := pc + 3, locals := ls, stack := .ref T.heap.size :: rest, locked := none }) _
  jvm_step X₁.here [X₁.here.top, hexec, d3', Value.category]
  exact X₁.ldcString hexec (own := own) (text := text) (index := is) (a := sa) hown' hstr'.1 hstr'.2
    (g := { method := m, pc := pc + 4, locals := ls, stack := .ref T.heap.size :: .ref T.heap.size :: rest, locked := none }) rfl d4' _ hsteps
end NST
end
-- 85b.site
section
noncomputable def blX7_site_0 : List Nat := [42, 180, 0, 35, 27, 182, 0, 120, 153, 0, 13, 28, 155, 0, 9, 28, 16, 13, 164, 0, 13, 187, 0, 123, 89, 18, 125, 183, 0, 127, 191, 28, 170, 0, 0, 0, 0, 0, 0, 130, 0, 0, 0, 6, 0, 0, 0, 13, 0, 0, 0]
set_option maxRecDepth 100000 in
theorem bcX7_site_0 : ((cX7_site.data.toList.drop 0).take blX7_site_0.length).map UInt8.toNat = blX7_site_0 := by decide +kernel
noncomputable def blX7_site_1 : List Nat := [0, 0, 0, 48, 0, 0, 0, 48, 0, 0, 0, 61, 0, 0, 0, 61, 0, 0, 0, 74, 0, 0, 0, 91, 0, 0, 0, 102, 0, 0, 0, 113, 42, 180, 0, 35, 27, 28, 16, 6, 100, 182, 0, 130, 172, 42, 180, 0, 35, 27, 28]
set_option maxRecDepth 100000 in
theorem bcX7_site_1 : ((cX7_site.data.toList.drop 48).take blX7_site_1.length).map UInt8.toNat = blX7_site_1 := by decide +kernel
noncomputable def blX7_site_2 : List Nat := [35, 27, 28, 16, 8, 100, 182, 0, 134, 172, 42, 180, 0, 35, 27, 182, 0, 137, 153, 0, 7, 4, 167, 0, 4, 3, 172, 42, 180, 0, 35, 27, 16, 6, 182, 0, 140, 172, 42, 180, 0, 35, 27, 16, 7, 182, 0, 140, 172, 42, 180]
set_option maxRecDepth 100000 in
theorem bcX7_site_2 : ((cX7_site.data.toList.drop 96).take blX7_site_2.length).map UInt8.toNat = blX7_site_2 := by decide +kernel
noncomputable def blX7_site_3 : List Nat := [172, 42, 180, 0, 35, 27, 182, 0, 143, 153, 0, 7, 4, 167, 0, 4, 3, 172, 42, 180, 0, 35, 27, 3, 28, 96, 182, 0, 140, 172]
set_option maxRecDepth 100000 in
theorem bcX7_site_3 : ((cX7_site.data.toList.drop 144).take blX7_site_3.length).map UInt8.toNat = blX7_site_3 := by decide +kernel
def dl_X7_site_85b_site_0 : List (Nat × Instr × Nat) := [(32, .tableswitch 130 6 13 #[48, 48, 61, 61, 74, 91, 102, 113], 48), (0, .aload_n 0, 1), (1, .getfield 35, 3), (4, .iload_n 1, 1), (5, .invokevirtual 120, 3), (8, .ifCond .eq 13, 3), (21, .new 123, 3), (24, .dup, 1), (25, .ldc 125, 2), (27, .invokespecial 127, 3), (30, .athrow, 1), (11, .iload_n 2, 1), (12, .ifCond .lt 9, 3), (15, .iload_n 2, 1), (16, .bipush 13, 2), (18, .if_icmp .le 13, 3)]
set_option maxRecDepth 100000 in
theorem dall_X7_site_85b_site_0 : dchk cX7_site dl_X7_site_85b_site_0 = true := by decide +kernel
theorem dX7_site_32 : decode cX7_site 32 = .ok (.tableswitch 130 6 13 #[48, 48, 61, 61, 74, 91, 102, 113], 48) := dchk_at dall_X7_site_85b_site_0 (k := 0) rfl
theorem dX7_site_0 : decode cX7_site 0 = .ok (.aload_n 0, 1) := dchk_at dall_X7_site_85b_site_0 (k := 1) rfl
theorem dX7_site_1 : decode cX7_site 1 = .ok (.getfield 35, 3) := dchk_at dall_X7_site_85b_site_0 (k := 2) rfl
theorem dX7_site_4 : decode cX7_site 4 = .ok (.iload_n 1, 1) := dchk_at dall_X7_site_85b_site_0 (k := 3) rfl
theorem dX7_site_5 : decode cX7_site 5 = .ok (.invokevirtual 120, 3) := dchk_at dall_X7_site_85b_site_0 (k := 4) rfl
theorem dX7_site_8 : decode cX7_site 8 = .ok (.ifCond .eq 13, 3) := dchk_at dall_X7_site_85b_site_0 (k := 5) rfl
theorem dX7_site_21 : decode cX7_site 21 = .ok (.new 123, 3) := dchk_at dall_X7_site_85b_site_0 (k := 6) rfl
theorem dX7_site_24 : decode cX7_site 24 = .ok (.dup, 1) := dchk_at dall_X7_site_85b_site_0 (k := 7) rfl
theorem dX7_site_25 : decode cX7_site 25 = .ok (.ldc 125, 2) := dchk_at dall_X7_site_85b_site_0 (k := 8) rfl
theorem dX7_site_27 : decode cX7_site 27 = .ok (.invokespecial 127, 3) := dchk_at dall_X7_site_85b_site_0 (k := 9) rfl
theorem dX7_site_30 : decode cX7_site 30 = .ok (.athrow, 1) := dchk_at dall_X7_site_85b_site_0 (k := 10) rfl
theorem dX7_site_11 : decode cX7_site 11 = .ok (.iload_n 2, 1) := dchk_at dall_X7_site_85b_site_0 (k := 11) rfl
theorem dX7_site_12 : decode cX7_site 12 = .ok (.ifCond .lt 9, 3) := dchk_at dall_X7_site_85b_site_0 (k := 12) rfl
theorem dX7_site_15 : decode cX7_site 15 = .ok (.iload_n 2, 1) := dchk_at dall_X7_site_85b_site_0 (k := 13) rfl
theorem dX7_site_16 : decode cX7_site 16 = .ok (.bipush 13, 2) := dchk_at dall_X7_site_85b_site_0 (k := 14) rfl
theorem dX7_site_18 : decode cX7_site 18 = .ok (.if_icmp .le 13, 3) := dchk_at dall_X7_site_85b_site_0 (k := 15) rfl
def dl_L_site_85b_site_0 : List (Nat × Instr × Nat) := [(0, .aload_n 3, 1), (1, .iconst 0, 1), (2, .aload_n 0, 1), (3, .iload_n 1, 1), (4, .iload_n 2, 1), (5, .invokevirtual 7, 3), (13, .astore 4, 2), (15, .iconst 1, 1), (16, .ireturn, 1), (8, .i2l, 1), (9, .lastore, 1), (10, .goto 7, 3), (17, .iconst 0, 1), (18, .ireturn, 1)]
set_option maxRecDepth 100000 in
theorem dall_L_site_85b_site_0 : dchk cL_site dl_L_site_85b_site_0 = true := by decide +kernel
theorem dL_site_0 : decode cL_site 0 = .ok (.aload_n 3, 1) := dchk_at dall_L_site_85b_site_0 (k := 0) rfl
theorem dL_site_1 : decode cL_site 1 = .ok (.iconst 0, 1) := dchk_at dall_L_site_85b_site_0 (k := 1) rfl
theorem dL_site_2 : decode cL_site 2 = .ok (.aload_n 0, 1) := dchk_at dall_L_site_85b_site_0 (k := 2) rfl
theorem dL_site_3 : decode cL_site 3 = .ok (.iload_n 1, 1) := dchk_at dall_L_site_85b_site_0 (k := 3) rfl
theorem dL_site_4 : decode cL_site 4 = .ok (.iload_n 2, 1) := dchk_at dall_L_site_85b_site_0 (k := 4) rfl
theorem dL_site_5 : decode cL_site 5 = .ok (.invokevirtual 7, 3) := dchk_at dall_L_site_85b_site_0 (k := 5) rfl
theorem dL_site_13 : decode cL_site 13 = .ok (.astore 4, 2) := dchk_at dall_L_site_85b_site_0 (k := 6) rfl
theorem dL_site_15 : decode cL_site 15 = .ok (.iconst 1, 1) := dchk_at dall_L_site_85b_site_0 (k := 7) rfl
theorem dL_site_16 : decode cL_site 16 = .ok (.ireturn, 1) := dchk_at dall_L_site_85b_site_0 (k := 8) rfl
theorem dL_site_8 : decode cL_site 8 = .ok (.i2l, 1) := dchk_at dall_L_site_85b_site_0 (k := 9) rfl
theorem dL_site_9 : decode cL_site 9 = .ok (.lastore, 1) := dchk_at dall_L_site_85b_site_0 (k := 10) rfl
theorem dL_site_10 : decode cL_site 10 = .ok (.goto 7, 3) := dchk_at dall_L_site_85b_site_0 (k := 11) rfl
theorem dL_site_17 : decode cL_site 17 = .ok (.iconst 0, 1) := dchk_at dall_L_site_85b_site_0 (k := 12) rfl
theorem dL_site_18 : decode cL_site 18 = .ok (.ireturn, 1) := dchk_at dall_L_site_85b_site_0 (k := 13) rfl
def F_X7_site (p1 : Int32) (p2 : Int32) (c_now_row : Nat → Int32) : Option (Int32) :=
  bd1 (F_X5_hasSite p1 c_now_row) (fun r_1 => if r_1 = (0 : Int32) then none else if p2 < (0 : Int32) then none else if p2 ≤ (13 : Int32) then if p2 = (6 : Int32) then bd1 (F_X5_drift p1 (p2 - (6 : Int32)) c_now_row) (fun r_8 => some r_8) else if p2 = (7 : Int32) then bd1 (F_X5_drift p1 (p2 - (6 : Int32)) c_now_row) (fun r_10 => some r_10) else if p2 = (8 : Int32) then bd1 (F_X5_point p1 (p2 - (8 : Int32)) c_now_row) (fun r_12 => some r_12) else if p2 = (9 : Int32) then bd1 (F_X5_point p1 (p2 - (8 : Int32)) c_now_row) (fun r_14 => some r_14) else if p2 = (10 : Int32) then bd1 (F_X5_isQuiet p1 c_now_row) (fun r_16 => if r_16 = (0 : Int32) then some (0 : Int32) else some (1 : Int32)) else if p2 = (11 : Int32) then bd1 (F_X5_of p1 (6 : Int32) c_now_row) (fun r_20 => some r_20) else if p2 = (12 : Int32) then bd1 (F_X5_of p1 (7 : Int32) c_now_row) (fun r_22 => some r_22) else if p2 = (13 : Int32) then bd1 (F_X5_isFrozen p1 c_now_row) (fun r_24 => if r_24 = (0 : Int32) then some (0 : Int32) else some (1 : Int32)) else bd1 (F_X5_of p1 ((0 : Int32) + p2) c_now_row) (fun r_28 => some r_28) else none)
abbrev w_X7_site (E : EE) (a_ a_tape a_reader a_scripts a_now a_trial a_kept a_book a_keptBook a_history a_draws a_refused a_now_row a_now_partners a_now_share a_now_leftOver : Nat) (c_hasImage : Int32) (c_now_askedCount : Int32) (c_now_outcome : Int32) (c_now_row : Nat → Int32) : va_W := [k_X7 a_ a_tape a_reader a_scripts a_now a_trial a_kept a_book a_keptBook a_history a_draws a_refused c_hasImage, k_X5 a_now a_now_row a_now_partners c_now_askedCount c_now_outcome a_now_share a_now_leftOver, k_I E a_now_row 81 c_now_row]
def v_f_X7_site : List Cond := List.cons (.code yX7_site cX7_site 3 (some .int)) (HAppend.hAppend (α := List Cond) (β := List Cond) (γ := List Cond) [.fieldLink RX7 35 "HushWatch" "now" "LHushWatch$State;", .methodLink RX7 120 yX5_hasSite, .instanceMethod yX5_hasSite, .selects RX5 yX5_hasSite yX5_hasSite, .initialized RX5, .methodLink RX7 130 yX5_drift, .instanceMethod yX5_drift, .selects RX5 yX5_drift yX5_drift, .methodLink RX7 134 yX5_point, .instanceMethod yX5_point, .selects RX5 yX5_point yX5_point, .methodLink RX7 137 yX5_isQuiet, .instanceMethod yX5_isQuiet, .selects RX5 yX5_isQuiet yX5_isQuiet, .methodLink RX7 140 yX5_of, .instanceMethod yX5_of, .selects RX5 yX5_of yX5_of, .methodLink RX7 143 yX5_isFrozen, .instanceMethod yX5_isFrozen, .selects RX5 yX5_isFrozen yX5_isFrozen] (HAppend.hAppend (α := List Cond) (β := List Cond) (γ := List Cond) wsX70 (HAppend.hAppend (α := List Cond) (β := List Cond) (γ := List Cond) v_f_X5_hasSite (HAppend.hAppend (α := List Cond) (β := List Cond) (γ := List Cond) v_f_X5_drift (HAppend.hAppend (α := List Cond) (β := List Cond) (γ := List Cond) v_f_X5_point (HAppend.hAppend (α := List Cond) (β := List Cond) (γ := List Cond) v_f_X5_isQuiet (HAppend.hAppend (α := List Cond) (β := List Cond) (γ := List Cond) v_f_X5_of (HAppend.hAppend (α := List Cond) (β := List Cond) (γ := List Cond) v_f_X5_isFrozen []))))))))
theorem gw_f_X7_site : v_f_X7_site.all goodWord = true := gw_c2 (by decide +kernel) (gw_ap gw_wsX70 (gw_ap gw_f_X5_hasSite (gw_ap gw_f_X5_drift (gw_ap gw_f_X5_point (gw_ap gw_f_X5_isQuiet (gw_ap gw_f_X5_of (gw_ap gw_f_X5_isFrozen gw_nil)))))))
theorem i_f_X7_site_X7 : ∀ w ∈ wsX70, w ∈ v_f_X7_site := fun _ h => List.mem_cons_of_mem _ (List.mem_append_right _ (List.mem_append_left _ h))
theorem g_f_X7_site_f_X5_hasSite_120 : GoodIn v_f_X7_site (wsV RX7 120 RX5 yX5_hasSite v_f_X5_hasSite) := goodIn_in gw_f_X7_site (in4 2 3 4 5 rfl rfl rfl rfl (fun _ h => List.mem_cons_of_mem _ (List.mem_append_right _ (List.mem_append_right _ (List.mem_append_left _ h)))))
theorem g_f_X7_site_f_X5_drift_130 : GoodIn v_f_X7_site (wsV RX7 130 RX5 yX5_drift v_f_X5_drift) := goodIn_in gw_f_X7_site (in4 6 7 8 5 rfl rfl rfl rfl (fun _ h => List.mem_cons_of_mem _ (List.mem_append_right _ (List.mem_append_right _ (List.mem_append_right _ (List.mem_append_left _ h))))))
theorem g_f_X7_site_f_X5_point_134 : GoodIn v_f_X7_site (wsV RX7 134 RX5 yX5_point v_f_X5_point) := goodIn_in gw_f_X7_site (in4 9 10 11 5 rfl rfl rfl rfl (fun _ h => List.mem_cons_of_mem _ (List.mem_append_right _ (List.mem_append_right _ (List.mem_append_right _ (List.mem_append_right _ (List.mem_append_left _ h)))))))
theorem g_f_X7_site_f_X5_isQuiet_137 : GoodIn v_f_X7_site (wsV RX7 137 RX5 yX5_isQuiet v_f_X5_isQuiet) := goodIn_in gw_f_X7_site (in4 12 13 14 5 rfl rfl rfl rfl (fun _ h => List.mem_cons_of_mem _ (List.mem_append_right _ (List.mem_append_right _ (List.mem_append_right _ (List.mem_append_right _ (List.mem_append_right _ (List.mem_append_left _ h))))))))
theorem g_f_X7_site_f_X5_of_140 : GoodIn v_f_X7_site (wsV RX7 140 RX5 yX5_of v_f_X5_of) := goodIn_in gw_f_X7_site (in4 15 16 17 5 rfl rfl rfl rfl (fun _ h => List.mem_cons_of_mem _ (List.mem_append_right _ (List.mem_append_right _ (List.mem_append_right _ (List.mem_append_right _ (List.mem_append_right _ (List.mem_append_right _ (List.mem_append_left _ h)))))))))
theorem g_f_X7_site_f_X5_isFrozen_143 : GoodIn v_f_X7_site (wsV RX7 143 RX5 yX5_isFrozen v_f_X5_isFrozen) := goodIn_in gw_f_X7_site (in4 18 19 20 5 rfl rfl rfl rfl (fun _ h => List.mem_cons_of_mem _ (List.mem_append_right _ (List.mem_append_right _ (List.mem_append_right _ (List.mem_append_right _ (List.mem_append_right _ (List.mem_append_right _ (List.mem_append_right _ (List.mem_append_left _ h))))))))))
theorem hd_X7_site : yX7_site.cls = RX7 ∧ yX7_site.cls ≠ "java/lang/invoke/MethodHandle" ∧ yX7_site.cls ≠ "java/lang/invoke/VarHandle" ∧ (parseMethodDescriptor yX7_site.desc).map (fun d => d.parameters.length) = some 2 := by decide +kernel
set_option maxHeartbeats 4000000 in
set_option maxRecDepth 100000 in
theorem f_X7_site (l : Launch) (E : EE) {a_ a_tape a_reader a_scripts a_now a_trial a_kept a_book a_keptBook a_history a_draws a_refused a_now_row a_now_partners a_now_share a_now_leftOver : Nat} {p1 : Int32} {p2 : Int32} {c_hasImage : Int32} {c_now_askedCount : Int32} {c_now_outcome : Int32} {c_now_row : Nat → Int32} {rr : Int32} (hF : F_X7_site p1 p2 c_now_row = some rr) : Met l yX7_site v_f_X7_site (({ frames := 3, cells := 0, slots := 0, locals := 71 } : Room)) (va_Pc [.ref a_, .int p1, .int p2] (pP E (w_X7_site E a_ a_tape a_reader a_scripts a_now a_trial a_kept a_book a_keptBook a_history a_draws a_refused a_now_row a_now_partners a_now_share a_now_leftOver c_hasImage c_now_askedCount c_now_outcome c_now_row))) (vp_Si (fun q : Int32 => q = rr)) 0 0 (fun _ => False) := by
  refine Met.ofW (cc := cX7_site) (maxL := 3) (ret := (some .int)) (by decide) rfl ?_
  intro p e s m args below meth c s₁ B hml hv
  obtain ⟨rfl, ⟨hK, hN⟩, hP⟩ := hv
  have hx := B.exec
  have hb := B.bytes
  have hr := B.returns
  have hts := atoms_spec (ws := v_f_X7_site) B.pre
  have hown : s.vm.findClass RX7 = some m.cls := own_of hd_X7_site.1 (findClass_of_methodNamed B.named)
  have hlocks : meth.locks = false := B.notSynchronized
  replace hP : va_P E.1 vwCl [k_X7 a_ a_tape a_reader a_scripts a_now a_trial a_kept a_book a_keptBook a_history a_draws a_refused c_hasImage, k_X5 a_now a_now_row a_now_partners c_now_askedCount c_now_outcome a_now_share a_now_leftOver, k_I E a_now_row 81 c_now_row] s.heap := hP
  have hl := lv_entry ([.ref a_, .int p1, .int p2]) (n := 3) (Nat.le_of_ble_eq_true rfl)
  rw [lg_entry_eq]
  generalize (lg_sl ([.ref a_, .int p1, .int p2]) ++ List.replicate (3 - (lg_sl ([.ref a_, .int p1, .int p2])).length) Slot.unset).toArray = ls at hl ⊢
  have hl : lv_has ls 3 [(0, .ref a_), (1, .int p1), (2, .int p2)] := hl
  obtain ⟨Q, hQ⟩ : ∃ Q : State → Prop, Q = MQ below (vp_Si (fun q : Int32 => q = rr)) #[Value.ref a_, Value.int p1, Value.int p2] s 0 0 (fun _ => False) := ⟨_, rfl⟩
  rw [← hQ]
  change W p l e ({ frames := 3, cells := 0, slots := 0, locals := 71 } : Room) s m #[Value.ref a_, Value.int p1, Value.int p2] below meth c s.heap [] 0 0 Q (F0 m 0 ls [])
  unfold F_X7_site at hF
  refine lv_aload_n hx hb (dq_42 0 bcX7_site_0 (j := 0) rfl rfl) rfl (lv_at hl 0 rfl) ?_
  refine gt_X7_3 (v := .ref a_now) hx hb hts i_f_X7_site_X7 hown hK hP 0 rfl (hts (.fieldLink RX7 35 "HushWatch" "now" "LHushWatch$State;") (List.mem_of_getElem? (i := 1) rfl)) rfl (dq_180 0 bcX7_site_0 (j := 1) (i := 35) rfl rfl rfl) ?_
  refine lv_iload_n hx hb (dq_27 0 bcX7_site_0 (j := 4) rfl rfl) rfl (lv_at hl 1 rfl) ?_
  replace hF := bd1_s hF
  obtain ⟨r_1, hc_2, hF⟩ := hF
  have hPc : va_P E.1 vwCl (w_X5_hasSite E a_now a_now_row a_now_partners a_now_share a_now_leftOver c_now_askedCount c_now_outcome c_now_row) s.heap := hP.sub (ws' := [k_X5 a_now a_now_row a_now_partners c_now_askedCount c_now_outcome a_now_share a_now_leftOver, k_I E a_now_row 81 c_now_row]) [1, 2] rfl
  have hrc := va_recv hK hPc (ci := 6) (q0 := 0) rfl rfl
  refine pE_z (va_runV (As := [.int p1]) (rest := [])  ⟨hx, hb, hml, hown, hts⟩ (f_X5_hasSite l E (a_ := a_now) (a_row := a_now_row) (a_partners := a_now_partners) (a_share := a_now_share) (a_leftOver := a_now_leftOver) (p1 := p1) (c_askedCount := c_now_askedCount) (c_outcome := c_now_outcome) (c_row := c_now_row) hc_2) (cwV 1 hts g_f_X7_site_f_X5_hasSite_120 rfl rfl rfl hd_X5_hasSite ⟨Nat.le_of_ble_eq_true rfl, Nat.le_of_ble_eq_true rfl⟩) ⟨pP.blind, hrc, (pP.pre ⟨hK, hN⟩ hPc)⟩ rfl rfl hl.1 rfl (lv_room (Nat.le_of_ble_eq_true rfl)) (dq_182 0 bcX7_site_0 (j := 5) (i := 120) rfl rfl rfl) ⟨Nat.le_of_ble_eq_true rfl, Nat.le_of_ble_eq_true rfl⟩) (fun hb_3 => ?_)
  refine lv_if_eq (tgt := 21) hx hb (dq_153 0 bcX7_site_0 (j := 8) (i := 13) rfl rfl rfl) (by decide) (fun c_4 => ?_) (fun c_4 => ?_)
  ·
    replace hF := ip c_4 hF
    cases hF
  ·
    replace hF := inn c_4 hF
    refine lv_iload_n hx hb (dq_28 0 bcX7_site_0 (j := 11) rfl rfl) rfl (lv_at hl 2 rfl) ?_
    refine lv_if_lt (tgt := 21) hx hb (dq_155 0 bcX7_site_0 (j := 12) (i := 9) rfl rfl rfl) (by decide) (fun c_5 => ?_) (fun c_5 => ?_)
    ·
      replace hF := ip c_5 hF
      cases hF
    ·
      replace hF := inn c_5 hF
      refine lv_iload_n hx hb (dq_28 0 bcX7_site_0 (j := 15) rfl rfl) rfl (lv_at hl 2 rfl) ?_
      refine lv_bipush (v := 13) hx hb (dq_16 0 bcX7_site_0 (j := 16) (i := 13) rfl rfl rfl) (by decide) ?_
      refine lv_icmp_le (tgt := 31) hx hb (dq_164 0 bcX7_site_0 (j := 18) (i := 13) rfl rfl rfl) (by decide) (fun c_6 => ?_) (fun c_6 => ?_)
      ·
        replace hF := ip c_6 hF
        refine lv_iload_n hx hb (dq_28 0 bcX7_site_0 (j := 31) rfl rfl) rfl (lv_at hl 2 rfl) ?_
        rcases Classical.em (p2 = (6 : Int32)) with c_7_6 | c_7_6
        ·
          replace hF := ip c_7_6 hF
          refine lv_tableIn (off := 48) (tgt := 80) hx hb dX7_site_32 (by rw [c_7_6]; decide) (by rw [c_7_6]; decide) (by rw [c_7_6]; decide) (by decide) ?_
          refine lv_aload_n hx hb (dq_42 48 bcX7_site_1 (j := 32) rfl rfl) rfl (lv_at hl 0 rfl) ?_
          refine gt_X7_3 (v := .ref a_now) hx hb hts i_f_X7_site_X7 hown hK hP 0 rfl (hts (.fieldLink RX7 35 "HushWatch" "now" "LHushWatch$State;") (List.mem_of_getElem? (i := 1) rfl)) rfl (dq_180 48 bcX7_site_1 (j := 33) (i := 35) rfl rfl rfl) ?_
          refine lv_iload_n hx hb (dq_27 48 bcX7_site_1 (j := 36) rfl rfl) rfl (lv_at hl 1 rfl) ?_
          refine lv_iload_n hx hb (dq_28 48 bcX7_site_1 (j := 37) rfl rfl) rfl (lv_at hl 2 rfl) ?_
          refine lv_bipush (v := 6) hx hb (dq_16 48 bcX7_site_1 (j := 38) (i := 6) rfl rfl rfl) (by decide) ?_
          refine lv_isub hx hb (dq_100 48 bcX7_site_1 (j := 40) rfl rfl) ?_
          replace hF := bd1_s hF
          obtain ⟨r_8, hc_9, hF⟩ := hF
          have hPc : va_P E.1 vwCl (w_X5_drift E a_now a_now_row a_now_partners a_now_share a_now_leftOver c_now_askedCount c_now_outcome c_now_row) s.heap := hP.sub (ws' := [k_X5 a_now a_now_row a_now_partners c_now_askedCount c_now_outcome a_now_share a_now_leftOver, k_I E a_now_row 81 c_now_row]) [1, 2] rfl
          have hrc := va_recv hK hPc (ci := 6) (q0 := 0) rfl rfl
          refine pE_i (va_runV (As := [.int p1, .int (p2 - (6 : Int32))]) (rest := [])  ⟨hx, hb, hml, hown, hts⟩ (f_X5_drift l E (a_ := a_now) (a_row := a_now_row) (a_partners := a_now_partners) (a_share := a_now_share) (a_leftOver := a_now_leftOver) (p1 := p1) (p2 := p2 - (6 : Int32)) (c_askedCount := c_now_askedCount) (c_outcome := c_now_outcome) (c_row := c_now_row) hc_9) (cwV 2 hts g_f_X7_site_f_X5_drift_130 rfl rfl rfl hd_X5_drift ⟨Nat.le_of_ble_eq_true rfl, Nat.le_of_ble_eq_true rfl⟩) ⟨pP.blind, hrc, (pP.pre ⟨hK, hN⟩ hPc)⟩ rfl rfl hl.1 rfl (lv_room (Nat.le_of_ble_eq_true rfl)) (dq_182 48 bcX7_site_1 (j := 41) (i := 130) rfl rfl rfl) ⟨Nat.le_of_ble_eq_true rfl, Nat.le_of_ble_eq_true rfl⟩) ?_
          rw [hQ]
          obtain e9_0 := inj1 hF
          exact W.iret (v := r_8) hx hb hr (fun tt ht hW => ⟨_, rfl, e9_0, ht⟩) (fun _ h => by cases h) (dq_172 48 bcX7_site_1 (j := 44) rfl rfl)
        replace hF := inn c_7_6 hF
        rcases Classical.em (p2 = (7 : Int32)) with c_7_7 | c_7_7
        ·
          replace hF := ip c_7_7 hF
          refine lv_tableIn (off := 48) (tgt := 80) hx hb dX7_site_32 (by rw [c_7_7]; decide) (by rw [c_7_7]; decide) (by rw [c_7_7]; decide) (by decide) ?_
          refine lv_aload_n hx hb (dq_42 48 bcX7_site_1 (j := 32) rfl rfl) rfl (lv_at hl 0 rfl) ?_
          refine gt_X7_3 (v := .ref a_now) hx hb hts i_f_X7_site_X7 hown hK hP 0 rfl (hts (.fieldLink RX7 35 "HushWatch" "now" "LHushWatch$State;") (List.mem_of_getElem? (i := 1) rfl)) rfl (dq_180 48 bcX7_site_1 (j := 33) (i := 35) rfl rfl rfl) ?_
          refine lv_iload_n hx hb (dq_27 48 bcX7_site_1 (j := 36) rfl rfl) rfl (lv_at hl 1 rfl) ?_
          refine lv_iload_n hx hb (dq_28 48 bcX7_site_1 (j := 37) rfl rfl) rfl (lv_at hl 2 rfl) ?_
          refine lv_bipush (v := 6) hx hb (dq_16 48 bcX7_site_1 (j := 38) (i := 6) rfl rfl rfl) (by decide) ?_
          refine lv_isub hx hb (dq_100 48 bcX7_site_1 (j := 40) rfl rfl) ?_
          replace hF := bd1_s hF
          obtain ⟨r_10, hc_11, hF⟩ := hF
          have hPc : va_P E.1 vwCl (w_X5_drift E a_now a_now_row a_now_partners a_now_share a_now_leftOver c_now_askedCount c_now_outcome c_now_row) s.heap := hP.sub (ws' := [k_X5 a_now a_now_row a_now_partners c_now_askedCount c_now_outcome a_now_share a_now_leftOver, k_I E a_now_row 81 c_now_row]) [1, 2] rfl
          have hrc := va_recv hK hPc (ci := 6) (q0 := 0) rfl rfl
          refine pE_i (va_runV (As := [.int p1, .int (p2 - (6 : Int32))]) (rest := [])  ⟨hx, hb, hml, hown, hts⟩ (f_X5_drift l E (a_ := a_now) (a_row := a_now_row) (a_partners := a_now_partners) (a_share := a_now_share) (a_leftOver := a_now_leftOver) (p1 := p1) (p2 := p2 - (6 : Int32)) (c_askedCount := c_now_askedCount) (c_outcome := c_now_outcome) (c_row := c_now_row) hc_11) (cwV 2 hts g_f_X7_site_f_X5_drift_130 rfl rfl rfl hd_X5_drift ⟨Nat.le_of_ble_eq_true rfl, Nat.le_of_ble_eq_true rfl⟩) ⟨pP.blind, hrc, (pP.pre ⟨hK, hN⟩ hPc)⟩ rfl rfl hl.1 rfl (lv_room (Nat.le_of_ble_eq_true rfl)) (dq_182 48 bcX7_site_1 (j := 41) (i := 130) rfl rfl rfl) ⟨Nat.le_of_ble_eq_true rfl, Nat.le_of_ble_eq_true rfl⟩) ?_
          rw [hQ]
          obtain e9_0 := inj1 hF
          exact W.iret (v := r_10) hx hb hr (fun tt ht hW => ⟨_, rfl, e9_0, ht⟩) (fun _ h => by cases h) (dq_172 48 bcX7_site_1 (j := 44) rfl rfl)
        replace hF := inn c_7_7 hF
        rcases Classical.em (p2 = (8 : Int32)) with c_7_8 | c_7_8
        ·
          replace hF := ip c_7_8 hF
          refine lv_tableIn (off := 61) (tgt := 93) hx hb dX7_site_32 (by rw [c_7_8]; decide) (by rw [c_7_8]; decide) (by rw [c_7_8]; decide) (by decide) ?_
          refine lv_aload_n hx hb (dq_42 48 bcX7_site_1 (j := 45) rfl rfl) rfl (lv_at hl 0 rfl) ?_
          refine gt_X7_3 (v := .ref a_now) hx hb hts i_f_X7_site_X7 hown hK hP 0 rfl (hts (.fieldLink RX7 35 "HushWatch" "now" "LHushWatch$State;") (List.mem_of_getElem? (i := 1) rfl)) rfl (dq_180 48 bcX7_site_1 (j := 46) (i := 35) rfl rfl rfl) ?_
          refine lv_iload_n hx hb (dq_27 96 bcX7_site_2 (j := 1) rfl rfl) rfl (lv_at hl 1 rfl) ?_
          refine lv_iload_n hx hb (dq_28 96 bcX7_site_2 (j := 2) rfl rfl) rfl (lv_at hl 2 rfl) ?_
          refine lv_bipush (v := 8) hx hb (dq_16 96 bcX7_site_2 (j := 3) (i := 8) rfl rfl rfl) (by decide) ?_
          refine lv_isub hx hb (dq_100 96 bcX7_site_2 (j := 5) rfl rfl) ?_
          replace hF := bd1_s hF
          obtain ⟨r_12, hc_13, hF⟩ := hF
          have hPc : va_P E.1 vwCl (w_X5_point E a_now a_now_row a_now_partners a_now_share a_now_leftOver c_now_askedCount c_now_outcome c_now_row) s.heap := hP.sub (ws' := [k_X5 a_now a_now_row a_now_partners c_now_askedCount c_now_outcome a_now_share a_now_leftOver, k_I E a_now_row 81 c_now_row]) [1, 2] rfl
          have hrc := va_recv hK hPc (ci := 6) (q0 := 0) rfl rfl
          refine pE_i (va_runV (As := [.int p1, .int (p2 - (8 : Int32))]) (rest := [])  ⟨hx, hb, hml, hown, hts⟩ (f_X5_point l E (a_ := a_now) (a_row := a_now_row) (a_partners := a_now_partners) (a_share := a_now_share) (a_leftOver := a_now_leftOver) (p1 := p1) (p2 := p2 - (8 : Int32)) (c_askedCount := c_now_askedCount) (c_outcome := c_now_outcome) (c_row := c_now_row) hc_13) (cwV 2 hts g_f_X7_site_f_X5_point_134 rfl rfl rfl hd_X5_point ⟨Nat.le_of_ble_eq_true rfl, Nat.le_of_ble_eq_true rfl⟩) ⟨pP.blind, hrc, (pP.pre ⟨hK, hN⟩ hPc)⟩ rfl rfl hl.1 rfl (lv_room (Nat.le_of_ble_eq_true rfl)) (dq_182 96 bcX7_site_2 (j := 6) (i := 134) rfl rfl rfl) ⟨Nat.le_of_ble_eq_true rfl, Nat.le_of_ble_eq_true rfl⟩) ?_
          rw [hQ]
          obtain e9_0 := inj1 hF
          exact W.iret (v := r_12) hx hb hr (fun tt ht hW => ⟨_, rfl, e9_0, ht⟩) (fun _ h => by cases h) (dq_172 96 bcX7_site_2 (j := 9) rfl rfl)
        replace hF := inn c_7_8 hF
        rcases Classical.em (p2 = (9 : Int32)) with c_7_9 | c_7_9
        ·
          replace hF := ip c_7_9 hF
          refine lv_tableIn (off := 61) (tgt := 93) hx hb dX7_site_32 (by rw [c_7_9]; decide) (by rw [c_7_9]; decide) (by rw [c_7_9]; decide) (by decide) ?_
          refine lv_aload_n hx hb (dq_42 48 bcX7_site_1 (j := 45) rfl rfl) rfl (lv_at hl 0 rfl) ?_
          refine gt_X7_3 (v := .ref a_now) hx hb hts i_f_X7_site_X7 hown hK hP 0 rfl (hts (.fieldLink RX7 35 "HushWatch" "now" "LHushWatch$State;") (List.mem_of_getElem? (i := 1) rfl)) rfl (dq_180 48 bcX7_site_1 (j := 46) (i := 35) rfl rfl rfl) ?_
          refine lv_iload_n hx hb (dq_27 96 bcX7_site_2 (j := 1) rfl rfl) rfl (lv_at hl 1 rfl) ?_
          refine lv_iload_n hx hb (dq_28 96 bcX7_site_2 (j := 2) rfl rfl) rfl (lv_at hl 2 rfl) ?_
          refine lv_bipush (v := 8) hx hb (dq_16 96 bcX7_site_2 (j := 3) (i := 8) rfl rfl rfl) (by decide) ?_
          refine lv_isub hx hb (dq_100 96 bcX7_site_2 (j := 5) rfl rfl) ?_
          replace hF := bd1_s hF
          obtain ⟨r_14, hc_15, hF⟩ := hF
          have hPc : va_P E.1 vwCl (w_X5_point E a_now a_now_row a_now_partners a_now_share a_now_leftOver c_now_askedCount c_now_outcome c_now_row) s.heap := hP.sub (ws' := [k_X5 a_now a_now_row a_now_partners c_now_askedCount c_now_outcome a_now_share a_now_leftOver, k_I E a_now_row 81 c_now_row]) [1, 2] rfl
          have hrc := va_recv hK hPc (ci := 6) (q0 := 0) rfl rfl
          refine pE_i (va_runV (As := [.int p1, .int (p2 - (8 : Int32))]) (rest := [])  ⟨hx, hb, hml, hown, hts⟩ (f_X5_point l E (a_ := a_now) (a_row := a_now_row) (a_partners := a_now_partners) (a_share := a_now_share) (a_leftOver := a_now_leftOver) (p1 := p1) (p2 := p2 - (8 : Int32)) (c_askedCount := c_now_askedCount) (c_outcome := c_now_outcome) (c_row := c_now_row) hc_15) (cwV 2 hts g_f_X7_site_f_X5_point_134 rfl rfl rfl hd_X5_point ⟨Nat.le_of_ble_eq_true rfl, Nat.le_of_ble_eq_true rfl⟩) ⟨pP.blind, hrc, (pP.pre ⟨hK, hN⟩ hPc)⟩ rfl rfl hl.1 rfl (lv_room (Nat.le_of_ble_eq_true rfl)) (dq_182 96 bcX7_site_2 (j := 6) (i := 134) rfl rfl rfl) ⟨Nat.le_of_ble_eq_true rfl, Nat.le_of_ble_eq_true rfl⟩) ?_
          rw [hQ]
          obtain e9_0 := inj1 hF
          exact W.iret (v := r_14) hx hb hr (fun tt ht hW => ⟨_, rfl, e9_0, ht⟩) (fun _ h => by cases h) (dq_172 96 bcX7_site_2 (j := 9) rfl rfl)
        replace hF := inn c_7_9 hF
        rcases Classical.em (p2 = (10 : Int32)) with c_7_10 | c_7_10
        ·
          replace hF := ip c_7_10 hF
          refine lv_tableIn (off := 74) (tgt := 106) hx hb dX7_site_32 (by rw [c_7_10]; decide) (by rw [c_7_10]; decide) (by rw [c_7_10]; decide) (by decide) ?_
          refine lv_aload_n hx hb (dq_42 96 bcX7_site_2 (j := 10) rfl rfl) rfl (lv_at hl 0 rfl) ?_
          refine gt_X7_3 (v := .ref a_now) hx hb hts i_f_X7_site_X7 hown hK hP 0 rfl (hts (.fieldLink RX7 35 "HushWatch" "now" "LHushWatch$State;") (List.mem_of_getElem? (i := 1) rfl)) rfl (dq_180 96 bcX7_site_2 (j := 11) (i := 35) rfl rfl rfl) ?_
          refine lv_iload_n hx hb (dq_27 96 bcX7_site_2 (j := 14) rfl rfl) rfl (lv_at hl 1 rfl) ?_
          replace hF := bd1_s hF
          obtain ⟨r_16, hc_17, hF⟩ := hF
          have hPc : va_P E.1 vwCl (w_X5_isQuiet E a_now a_now_row a_now_partners a_now_share a_now_leftOver c_now_askedCount c_now_outcome c_now_row) s.heap := hP.sub (ws' := [k_X5 a_now a_now_row a_now_partners c_now_askedCount c_now_outcome a_now_share a_now_leftOver, k_I E a_now_row 81 c_now_row]) [1, 2] rfl
          have hrc := va_recv hK hPc (ci := 6) (q0 := 0) rfl rfl
          refine pE_z (va_runV (As := [.int p1]) (rest := [])  ⟨hx, hb, hml, hown, hts⟩ (f_X5_isQuiet l E (a_ := a_now) (a_row := a_now_row) (a_partners := a_now_partners) (a_share := a_now_share) (a_leftOver := a_now_leftOver) (p1 := p1) (c_askedCount := c_now_askedCount) (c_outcome := c_now_outcome) (c_row := c_now_row) hc_17) (cwV 1 hts g_f_X7_site_f_X5_isQuiet_137 rfl rfl rfl hd_X5_isQuiet ⟨Nat.le_of_ble_eq_true rfl, Nat.le_of_ble_eq_true rfl⟩) ⟨pP.blind, hrc, (pP.pre ⟨hK, hN⟩ hPc)⟩ rfl rfl hl.1 rfl (lv_room (Nat.le_of_ble_eq_true rfl)) (dq_182 96 bcX7_site_2 (j := 15) (i := 137) rfl rfl rfl) ⟨Nat.le_of_ble_eq_true rfl, Nat.le_of_ble_eq_true rfl⟩) (fun hb_18 => ?_)
          refine lv_if_eq (tgt := 121) hx hb (dq_153 96 bcX7_site_2 (j := 18) (i := 7) rfl rfl rfl) (by decide) (fun c_19 => ?_) (fun c_19 => ?_)
          ·
            replace hF := ip c_19 hF
            refine lv_iconst (v := 0) hx hb (dq_3 96 bcX7_site_2 (j := 25) rfl rfl) (by decide) ?_
            rw [hQ]
            obtain e9_0 := inj1 hF
            exact W.iret (v := (0 : Int32)) hx hb hr (fun tt ht hW => ⟨_, rfl, e9_0, ht⟩) (fun _ h => by cases h) (dq_172 96 bcX7_site_2 (j := 26) rfl rfl)
          ·
            replace hF := inn c_19 hF
            refine lv_iconst (v := 1) hx hb (dq_4 96 bcX7_site_2 (j := 21) rfl rfl) (by decide) ?_
            refine lv_goto (tgt := 122) hx hb (dq_167 96 bcX7_site_2 (j := 22) (i := 4) rfl rfl rfl) (by decide) ?_
            rw [hQ]
            obtain e9_0 := inj1 hF
            exact W.iret (v := (1 : Int32)) hx hb hr (fun tt ht hW => ⟨_, rfl, e9_0, ht⟩) (fun _ h => by cases h) (dq_172 96 bcX7_site_2 (j := 26) rfl rfl)
        replace hF := inn c_7_10 hF
        rcases Classical.em (p2 = (11 : Int32)) with c_7_11 | c_7_11
        ·
          replace hF := ip c_7_11 hF
          refine lv_tableIn (off := 91) (tgt := 123) hx hb dX7_site_32 (by rw [c_7_11]; decide) (by rw [c_7_11]; decide) (by rw [c_7_11]; decide) (by decide) ?_
          refine lv_aload_n hx hb (dq_42 96 bcX7_site_2 (j := 27) rfl rfl) rfl (lv_at hl 0 rfl) ?_
          refine gt_X7_3 (v := .ref a_now) hx hb hts i_f_X7_site_X7 hown hK hP 0 rfl (hts (.fieldLink RX7 35 "HushWatch" "now" "LHushWatch$State;") (List.mem_of_getElem? (i := 1) rfl)) rfl (dq_180 96 bcX7_site_2 (j := 28) (i := 35) rfl rfl rfl) ?_
          refine lv_iload_n hx hb (dq_27 96 bcX7_site_2 (j := 31) rfl rfl) rfl (lv_at hl 1 rfl) ?_
          refine lv_bipush (v := 6) hx hb (dq_16 96 bcX7_site_2 (j := 32) (i := 6) rfl rfl rfl) (by decide) ?_
          replace hF := bd1_s hF
          obtain ⟨r_20, hc_21, hF⟩ := hF
          have hPc : va_P E.1 vwCl (w_X5_of E a_now a_now_row a_now_partners a_now_share a_now_leftOver c_now_askedCount c_now_outcome c_now_row) s.heap := hP.sub (ws' := [k_X5 a_now a_now_row a_now_partners c_now_askedCount c_now_outcome a_now_share a_now_leftOver, k_I E a_now_row 81 c_now_row]) [1, 2] rfl
          have hrc := va_recv hK hPc (ci := 6) (q0 := 0) rfl rfl
          refine pE_i (va_runV (As := [.int p1, .int (6 : Int32)]) (rest := [])  ⟨hx, hb, hml, hown, hts⟩ (f_X5_of l E (a_ := a_now) (a_row := a_now_row) (a_partners := a_now_partners) (a_share := a_now_share) (a_leftOver := a_now_leftOver) (p1 := p1) (p2 := (6 : Int32)) (c_askedCount := c_now_askedCount) (c_outcome := c_now_outcome) (c_row := c_now_row) hc_21) (cwV 2 hts g_f_X7_site_f_X5_of_140 rfl rfl rfl hd_X5_of ⟨Nat.le_of_ble_eq_true rfl, Nat.le_of_ble_eq_true rfl⟩) ⟨pP.blind, hrc, (pP.pre ⟨hK, hN⟩ hPc)⟩ rfl rfl hl.1 rfl (lv_room (Nat.le_of_ble_eq_true rfl)) (dq_182 96 bcX7_site_2 (j := 34) (i := 140) rfl rfl rfl) ⟨Nat.le_of_ble_eq_true rfl, Nat.le_of_ble_eq_true rfl⟩) ?_
          rw [hQ]
          obtain e9_0 := inj1 hF
          exact W.iret (v := r_20) hx hb hr (fun tt ht hW => ⟨_, rfl, e9_0, ht⟩) (fun _ h => by cases h) (dq_172 96 bcX7_site_2 (j := 37) rfl rfl)
        replace hF := inn c_7_11 hF
        rcases Classical.em (p2 = (12 : Int32)) with c_7_12 | c_7_12
        ·
          replace hF := ip c_7_12 hF
          refine lv_tableIn (off := 102) (tgt := 134) hx hb dX7_site_32 (by rw [c_7_12]; decide) (by rw [c_7_12]; decide) (by rw [c_7_12]; decide) (by decide) ?_
          refine lv_aload_n hx hb (dq_42 96 bcX7_site_2 (j := 38) rfl rfl) rfl (lv_at hl 0 rfl) ?_
          refine gt_X7_3 (v := .ref a_now) hx hb hts i_f_X7_site_X7 hown hK hP 0 rfl (hts (.fieldLink RX7 35 "HushWatch" "now" "LHushWatch$State;") (List.mem_of_getElem? (i := 1) rfl)) rfl (dq_180 96 bcX7_site_2 (j := 39) (i := 35) rfl rfl rfl) ?_
          refine lv_iload_n hx hb (dq_27 96 bcX7_site_2 (j := 42) rfl rfl) rfl (lv_at hl 1 rfl) ?_
          refine lv_bipush (v := 7) hx hb (dq_16 96 bcX7_site_2 (j := 43) (i := 7) rfl rfl rfl) (by decide) ?_
          replace hF := bd1_s hF
          obtain ⟨r_22, hc_23, hF⟩ := hF
          have hPc : va_P E.1 vwCl (w_X5_of E a_now a_now_row a_now_partners a_now_share a_now_leftOver c_now_askedCount c_now_outcome c_now_row) s.heap := hP.sub (ws' := [k_X5 a_now a_now_row a_now_partners c_now_askedCount c_now_outcome a_now_share a_now_leftOver, k_I E a_now_row 81 c_now_row]) [1, 2] rfl
          have hrc := va_recv hK hPc (ci := 6) (q0 := 0) rfl rfl
          refine pE_i (va_runV (As := [.int p1, .int (7 : Int32)]) (rest := [])  ⟨hx, hb, hml, hown, hts⟩ (f_X5_of l E (a_ := a_now) (a_row := a_now_row) (a_partners := a_now_partners) (a_share := a_now_share) (a_leftOver := a_now_leftOver) (p1 := p1) (p2 := (7 : Int32)) (c_askedCount := c_now_askedCount) (c_outcome := c_now_outcome) (c_row := c_now_row) hc_23) (cwV 2 hts g_f_X7_site_f_X5_of_140 rfl rfl rfl hd_X5_of ⟨Nat.le_of_ble_eq_true rfl, Nat.le_of_ble_eq_true rfl⟩) ⟨pP.blind, hrc, (pP.pre ⟨hK, hN⟩ hPc)⟩ rfl rfl hl.1 rfl (lv_room (Nat.le_of_ble_eq_true rfl)) (dq_182 96 bcX7_site_2 (j := 45) (i := 140) rfl rfl rfl) ⟨Nat.le_of_ble_eq_true rfl, Nat.le_of_ble_eq_true rfl⟩) ?_
          rw [hQ]
          obtain e9_0 := inj1 hF
          exact W.iret (v := r_22) hx hb hr (fun tt ht hW => ⟨_, rfl, e9_0, ht⟩) (fun _ h => by cases h) (dq_172 144 bcX7_site_3 (j := 0) rfl rfl)
        replace hF := inn c_7_12 hF
        rcases Classical.em (p2 = (13 : Int32)) with c_7_13 | c_7_13
        ·
          replace hF := ip c_7_13 hF
          refine lv_tableIn (off := 113) (tgt := 145) hx hb dX7_site_32 (by rw [c_7_13]; decide) (by rw [c_7_13]; decide) (by rw [c_7_13]; decide) (by decide) ?_
          refine lv_aload_n hx hb (dq_42 144 bcX7_site_3 (j := 1) rfl rfl) rfl (lv_at hl 0 rfl) ?_
          refine gt_X7_3 (v := .ref a_now) hx hb hts i_f_X7_site_X7 hown hK hP 0 rfl (hts (.fieldLink RX7 35 "HushWatch" "now" "LHushWatch$State;") (List.mem_of_getElem? (i := 1) rfl)) rfl (dq_180 144 bcX7_site_3 (j := 2) (i := 35) rfl rfl rfl) ?_
          refine lv_iload_n hx hb (dq_27 144 bcX7_site_3 (j := 5) rfl rfl) rfl (lv_at hl 1 rfl) ?_
          replace hF := bd1_s hF
          obtain ⟨r_24, hc_25, hF⟩ := hF
          have hPc : va_P E.1 vwCl (w_X5_isFrozen E a_now a_now_row a_now_partners a_now_share a_now_leftOver c_now_askedCount c_now_outcome c_now_row) s.heap := hP.sub (ws' := [k_X5 a_now a_now_row a_now_partners c_now_askedCount c_now_outcome a_now_share a_now_leftOver, k_I E a_now_row 81 c_now_row]) [1, 2] rfl
          have hrc := va_recv hK hPc (ci := 6) (q0 := 0) rfl rfl
          refine pE_z (va_runV (As := [.int p1]) (rest := [])  ⟨hx, hb, hml, hown, hts⟩ (f_X5_isFrozen l E (a_ := a_now) (a_row := a_now_row) (a_partners := a_now_partners) (a_share := a_now_share) (a_leftOver := a_now_leftOver) (p1 := p1) (c_askedCount := c_now_askedCount) (c_outcome := c_now_outcome) (c_row := c_now_row) hc_25) (cwV 1 hts g_f_X7_site_f_X5_isFrozen_143 rfl rfl rfl hd_X5_isFrozen ⟨Nat.le_of_ble_eq_true rfl, Nat.le_of_ble_eq_true rfl⟩) ⟨pP.blind, hrc, (pP.pre ⟨hK, hN⟩ hPc)⟩ rfl rfl hl.1 rfl (lv_room (Nat.le_of_ble_eq_true rfl)) (dq_182 144 bcX7_site_3 (j := 6) (i := 143) rfl rfl rfl) ⟨Nat.le_of_ble_eq_true rfl, Nat.le_of_ble_eq_true rfl⟩) (fun hb_26 => ?_)
          refine lv_if_eq (tgt := 160) hx hb (dq_153 144 bcX7_site_3 (j := 9) (i := 7) rfl rfl rfl) (by decide) (fun c_27 => ?_) (fun c_27 => ?_)
          ·
            replace hF := ip c_27 hF
            refine lv_iconst (v := 0) hx hb (dq_3 144 bcX7_site_3 (j := 16) rfl rfl) (by decide) ?_
            rw [hQ]
            obtain e9_0 := inj1 hF
            exact W.iret (v := (0 : Int32)) hx hb hr (fun tt ht hW => ⟨_, rfl, e9_0, ht⟩) (fun _ h => by cases h) (dq_172 144 bcX7_site_3 (j := 17) rfl rfl)
          ·
            replace hF := inn c_27 hF
            refine lv_iconst (v := 1) hx hb (dq_4 144 bcX7_site_3 (j := 12) rfl rfl) (by decide) ?_
            refine lv_goto (tgt := 161) hx hb (dq_167 144 bcX7_site_3 (j := 13) (i := 4) rfl rfl rfl) (by decide) ?_
            rw [hQ]
            obtain e9_0 := inj1 hF
            exact W.iret (v := (1 : Int32)) hx hb hr (fun tt ht hW => ⟨_, rfl, e9_0, ht⟩) (fun _ h => by cases h) (dq_172 144 bcX7_site_3 (j := 17) rfl rfl)
        replace hF := inn c_7_13 hF
        refine lv_tableOut (tgt := 162) hx hb dX7_site_32 (by have t0 : (6 : Int32).toInt = 6 := (by decide); have t1 : (7 : Int32).toInt = 7 := (by decide); have t2 : (8 : Int32).toInt = 8 := (by decide); have t3 : (9 : Int32).toInt = 9 := (by decide); have t4 : (10 : Int32).toInt = 10 := (by decide); have t5 : (11 : Int32).toInt = 11 := (by decide); have t6 : (12 : Int32).toInt = 12 := (by decide); have t7 : (13 : Int32).toInt = 13 := (by decide); simp only [← Int32.toInt_inj, t0, t1, t2, t3, t4, t5, t6, t7] at c_7_6 c_7_7 c_7_8 c_7_9 c_7_10 c_7_11 c_7_12 c_7_13; omega) (by decide) ?_
        refine lv_aload_n hx hb (dq_42 144 bcX7_site_3 (j := 18) rfl rfl) rfl (lv_at hl 0 rfl) ?_
        refine gt_X7_3 (v := .ref a_now) hx hb hts i_f_X7_site_X7 hown hK hP 0 rfl (hts (.fieldLink RX7 35 "HushWatch" "now" "LHushWatch$State;") (List.mem_of_getElem? (i := 1) rfl)) rfl (dq_180 144 bcX7_site_3 (j := 19) (i := 35) rfl rfl rfl) ?_
        refine lv_iload_n hx hb (dq_27 144 bcX7_site_3 (j := 22) rfl rfl) rfl (lv_at hl 1 rfl) ?_
        refine lv_iconst (v := 0) hx hb (dq_3 144 bcX7_site_3 (j := 23) rfl rfl) (by decide) ?_
        refine lv_iload_n hx hb (dq_28 144 bcX7_site_3 (j := 24) rfl rfl) rfl (lv_at hl 2 rfl) ?_
        refine lv_iadd hx hb (dq_96 144 bcX7_site_3 (j := 25) rfl rfl) ?_
        replace hF := bd1_s hF
        obtain ⟨r_28, hc_29, hF⟩ := hF
        have hPc : va_P E.1 vwCl (w_X5_of E a_now a_now_row a_now_partners a_now_share a_now_leftOver c_now_askedCount c_now_outcome c_now_row) s.heap := hP.sub (ws' := [k_X5 a_now a_now_row a_now_partners c_now_askedCount c_now_outcome a_now_share a_now_leftOver, k_I E a_now_row 81 c_now_row]) [1, 2] rfl
        have hrc := va_recv hK hPc (ci := 6) (q0 := 0) rfl rfl
        refine pE_i (va_runV (As := [.int p1, .int ((0 : Int32) + p2)]) (rest := [])  ⟨hx, hb, hml, hown, hts⟩ (f_X5_of l E (a_ := a_now) (a_row := a_now_row) (a_partners := a_now_partners) (a_share := a_now_share) (a_leftOver := a_now_leftOver) (p1 := p1) (p2 := (0 : Int32) + p2) (c_askedCount := c_now_askedCount) (c_outcome := c_now_outcome) (c_row := c_now_row) hc_29) (cwV 2 hts g_f_X7_site_f_X5_of_140 rfl rfl rfl hd_X5_of ⟨Nat.le_of_ble_eq_true rfl, Nat.le_of_ble_eq_true rfl⟩) ⟨pP.blind, hrc, (pP.pre ⟨hK, hN⟩ hPc)⟩ rfl rfl hl.1 rfl (lv_room (Nat.le_of_ble_eq_true rfl)) (dq_182 144 bcX7_site_3 (j := 26) (i := 140) rfl rfl rfl) ⟨Nat.le_of_ble_eq_true rfl, Nat.le_of_ble_eq_true rfl⟩) ?_
        rw [hQ]
        obtain e9_0 := inj1 hF
        exact W.iret (v := r_28) hx hb hr (fun tt ht hW => ⟨_, rfl, e9_0, ht⟩) (fun _ h => by cases h) (dq_172 144 bcX7_site_3 (j := 29) rfl rfl)
      ·
        replace hF := inn c_6 hF
        cases hF

def nsT : String := "no such site, or nothing such to tell of it"
/-- site's start: cells, the text, the statics of Throwable, the words beside the good ones -/
def pS (E : EE) (W : va_W) (sa : Nat) (U : State) : Prop := kw E U ∧ va_P E.1 vwCl W U.heap ∧ vk_R RX7 125 nsT sa U ∧ vx_Zq Bundle.tN "UNASSIGNED_STACK" Bundle.steD (fun _ => False) U U.heap ∧ vx_Zq Bundle.tN "SUPPRESSED_SENTINEL" Bundle.listD (fun _ => False) U U.heap ∧ ∀ w ∈ nsB, va_Nw w U
theorem pS.blind {E : EE} {W : va_W} {sa : Nat} {av : List Value} : FrameBlind (va_Pc av (pS E W sa)) := fun _ U _ _ q => ⟨q.1, q.2.1.calling, q.2.2.1, vk_R.same (u := U) rfl q.2.2.2.1, q.2.2.2.2.1.moved (Vm.Alike.refl U.vm), q.2.2.2.2.2.1.moved (Vm.Alike.refl U.vm), fun w hw => nsB_same (u := U) (nsB_ok w hw) rfl (q.2.2.2.2.2.2 w hw)⟩
theorem pS.pre {E : EE} {W : va_W} {sa : Nat} {av : List Value} {s : State} {H : Heap} {A : Nat → Prop} {locs : List Loc} (hk : kw E s) (hP : va_P E.1 vwCl W H) (hstr : vk_R RX7 125 nsT sa s) (hS : va_S A s.heap H locs) (hU : vx_Zq Bundle.tN "UNASSIGNED_STACK" Bundle.steD A s s.heap) (hN : vx_Zq Bundle.tN "SUPPRESSED_SENTINEL" Bundle.listD A s s.heap) (hB : ∀ w ∈ nsB, va_Nw w s) : ∀ U : State, U.heap = H → s.WarmedH U.vm → va_Pc av (pS E W sa) av.toArray U := fun U hU1 hW => ⟨rfl, hk.warm hW, by rw [hU1]; exact hP, hstr.warm hW, by rw [hU1]; exact ((hU.kept hS.2.1).narrow (fun _ h => h.elim)).moved hW.alike, by rw [hU1]; exact ((hN.kept hS.2.1).narrow (fun _ h => h.elim)).moved hW.alike, fun w hw => nsB_warm (nsB_ok w hw) hW (hB w hw)⟩
def v_t1 : List Cond := .code yX7_site cX7_site 3 (some .int) :: ([.fieldLink RX7 35 "HushWatch" "now" "LHushWatch$State;", .classLink RX7 123 nsX, .initialized nsX, .methodLink RX7 120 yX5_hasSite, .instanceMethod yX5_hasSite, .selects RX5 yX5_hasSite yX5_hasSite, .initialized RX5] ++ (wsX70 ++ (v_f_X5_hasSite ++ [])))
def v_t_site : List Cond := v_t1 ++ nsG
theorem gw_t1 : v_t1.all goodWord = true := by decide +kernel
theorem in_t1 {w : Cond} (h : w ∈ v_t1) : w ∈ v_t_site := List.mem_append_left _ h
theorem i_t_X7 : ∀ w ∈ wsX70, w ∈ v_t_site := fun _ h => in_t1 (List.mem_cons_of_mem _ (List.mem_append_right _ (List.mem_append_left _ h)))
theorem g_t_has : GoodIn v_t_site (wsV RX7 120 RX5 yX5_hasSite v_f_X5_hasSite) := goodIn_app (fun w h => (fun q : w ∈ v_t1 ∧ _ => ⟨in_t1 q.1, q.2⟩) (goodIn_of (big := v_t1) _ (by decide +kernel) w h)) (goodIn_sub (fun _ h => in_t1 (List.mem_cons_of_mem _ (List.mem_append_right _ (List.mem_append_right _ (List.mem_append_left _ h))))) gw_f_X5_hasSite)
set_option maxHeartbeats 4000000 in
set_option maxRecDepth 100000 in
/-- HushWatch.site where it throws -/
theorem t_site (l : Launch) (hfl : l.stackTraces = false) (E : EE) {a_ a_tape a_reader a_scripts a_now a_trial a_kept a_book a_keptBook a_history a_draws a_refused a_now_row a_now_partners a_now_share a_now_leftOver : Nat} {c_hasImage : Int32} {c_now_askedCount : Int32} {c_now_outcome : Int32} {c_now_row : Nat → Int32} (sa : Nat) {p1 p2 h0 : Int32} (hh0 : F_X5_hasSite p1 c_now_row = some h0) (hT : h0 = 0 ∨ p2 < 0 ∨ ¬ p2 ≤ 13) : vx_Met l yX7_site v_t_site ({ frames := 6, cells := 1, slots := 6, locals := 82 }) (va_Pc [.ref a_, .int p1, .int p2] (pS E (w_X7_goes E a_ a_tape a_reader a_scripts a_now a_trial a_kept a_book a_keptBook a_history a_draws a_refused a_now_row a_now_partners a_now_share a_now_leftOver c_hasImage c_now_askedCount c_now_outcome c_now_row) sa)) (va_Qi (fun _ (_u : Unit) => False) (fun (_u : Unit) _ => True) (fun _ => False)) (vx_X (fun _u : Unit => True) (fun E9 (_u : Unit) _ => E9 = nsX) (fun _ => False)) 1 6 (fun _ => False) := by
  refine vx_ofW (cc := cX7_site) (maxL := 3) (ret := some .int) (by decide) rfl ?_
  intro p e s m args below meth c s₁ B hml hnox hv
  obtain ⟨rfl, ⟨hK, hN⟩, hP, hstr, hU9, hN9, hB9⟩ := hv
  have hx := B.exec
  have hb := B.bytes
  have hr := B.returns
  have hts := atoms_spec (ws := v_t_site) B.pre
  have hown : s.vm.findClass RX7 = some m.cls := findClass_of_methodNamed B.named
  have hlocks := B.notSynchronized
  have hP : va_P E.1 vwCl [k_X7 a_ a_tape a_reader a_scripts a_now a_trial a_kept a_book a_keptBook a_history a_draws a_refused c_hasImage, k_X5 a_now a_now_row a_now_partners c_now_askedCount c_now_outcome a_now_share a_now_leftOver, k_I E a_now_row 81 c_now_row] s.heap := hP
  have hl := lv_entry ([.ref a_, .int p1, .int p2]) (n := 3) (Nat.le_of_ble_eq_true rfl)
  rw [lg_entry_eq]
  generalize (lg_sl ([.ref a_, .int p1, .int p2]) ++ List.replicate (3 - (lg_sl ([.ref a_, .int p1, .int p2])).length) Slot.unset).toArray = ls at hl ⊢
  have hl : lv_has ls 3 [(0, .ref a_), (1, .int p1), (2, .int p2)] := hl
  refine lv_aload_n hx hb dX7_site_0 rfl (lv_at hl 0 rfl) ?_
  refine va_get (D := E.1) (ci := 8) (v := .ref a_now) (C := RX7) (T := TX7) (N := 12) hx hb hts i_t_X7 hown hK hP 0 rfl rfl 3 (by decide) (hts (.fieldLink RX7 35 "HushWatch" "now" "LHushWatch$State;") (in_t1 (List.mem_of_getElem? (i := 1) rfl))) (fun _ h9 => h9) rfl dX7_site_1 ?_
  refine lv_iload_n hx hb dX7_site_4 rfl (lv_at hl 1 rfl) ?_
  have hPc : va_P E.1 vwCl (w_X5_hasSite E a_now a_now_row a_now_partners a_now_share a_now_leftOver c_now_askedCount c_now_outcome c_now_row) s.heap := hP.sub (ws' := [k_X5 a_now a_now_row a_now_partners c_now_askedCount c_now_outcome a_now_share a_now_leftOver, k_I E a_now_row 81 c_now_row]) [1, 2] rfl
  refine pE_z (va_runV (As := [.int p1]) (rest := []) ⟨hx, hb, hml, hown, hts⟩ (f_X5_hasSite l E (a_ := a_now) (a_row := a_now_row) (a_partners := a_now_partners) (a_share := a_now_share) (a_leftOver := a_now_leftOver) (p1 := p1) (c_askedCount := c_now_askedCount) (c_outcome := c_now_outcome) (c_row := c_now_row) hh0) (cwV 1 hts g_t_has rfl rfl rfl (by decide +kernel) ⟨Nat.le_of_ble_eq_true rfl, Nat.le_of_ble_eq_true rfl⟩) ⟨pP.blind, va_recv hK hPc (ci := 6) (q0 := 0) rfl rfl, (pP.pre ⟨hK, hN⟩ hPc)⟩ rfl rfl hl.1 rfl (lv_room (Nat.le_of_ble_eq_true rfl)) dX7_site_5 ⟨Nat.le_of_ble_eq_true rfl, Nat.le_of_ble_eq_true rfl⟩) (fun hb1 => ?_)
  refine lv_if_eq (tgt := 21) hx hb dX7_site_8 (by decide) (fun _ => ?_) (fun q => ?_)
  · exact ns_throw (A := fun _ => False) (own := RX7) (text := nsT) (sa := sa) hx hb hfl hown (hts (.classLink RX7 123 nsX) (in_t1 (List.mem_of_getElem? (i := 2) rfl))) (hts (.initialized nsX) (in_t1 (List.mem_of_getElem? (i := 3) rfl))) hstr (vx_hat (fun w hw => hts w (List.mem_append_right _ hw)) nsG_rest (fun w hw => nsB_use (nsB_ok w hw) (hB9 w hw))) nsG_ot hU9 hN9 va_S.rf (by rw [hml]; exact hl.1) dX7_site_21 dX7_site_24 dX7_site_25 dX7_site_27 dX7_site_30 (fun x hx => (hnox x hx).elim) (Nat.le_of_ble_eq_true rfl) (Nat.le_of_ble_eq_true rfl) (Nat.le_of_ble_eq_true rfl) (Nat.le_of_ble_eq_true rfl) hlocks (fun t hal hz hq => ⟨(), trivial, rfl, hz, fun q h1 _ => hq q h1⟩) (fun z hz => nomatch hz) (Nat.le_refl _) (Nat.le_refl _)
  refine lv_iload_n hx hb dX7_site_11 rfl (lv_at hl 2 rfl) ?_
  refine lv_if_lt (tgt := 21) hx hb dX7_site_12 (by decide) (fun _ => ?_) (fun q2 => ?_)
  · exact ns_throw (A := fun _ => False) (own := RX7) (text := nsT) (sa := sa) hx hb hfl hown (hts (.classLink RX7 123 nsX) (in_t1 (List.mem_of_getElem? (i := 2) rfl))) (hts (.initialized nsX) (in_t1 (List.mem_of_getElem? (i := 3) rfl))) hstr (vx_hat (fun w hw => hts w (List.mem_append_right _ hw)) nsG_rest (fun w hw => nsB_use (nsB_ok w hw) (hB9 w hw))) nsG_ot hU9 hN9 va_S.rf (by rw [hml]; exact hl.1) dX7_site_21 dX7_site_24 dX7_site_25 dX7_site_27 dX7_site_30 (fun x hx => (hnox x hx).elim) (Nat.le_of_ble_eq_true rfl) (Nat.le_of_ble_eq_true rfl) (Nat.le_of_ble_eq_true rfl) (Nat.le_of_ble_eq_true rfl) hlocks (fun t hal hz hq => ⟨(), trivial, rfl, hz, fun q h1 _ => hq q h1⟩) (fun z hz => nomatch hz) (Nat.le_refl _) (Nat.le_refl _)
  refine lv_iload_n hx hb dX7_site_15 rfl (lv_at hl 2 rfl) ?_
  refine lv_bipush (v := 13) hx hb dX7_site_16 (by decide) ?_
  refine lv_icmp_le (tgt := 31) hx hb dX7_site_18 (by decide) (fun q3 => ?_) (fun _ => ?_)
  · exfalso
    rcases hT with z | z | z
    · exact q z
    · exact q2 z
    · exact z q3
  · exact ns_throw (A := fun _ => False) (own := RX7) (text := nsT) (sa := sa) hx hb hfl hown (hts (.classLink RX7 123 nsX) (in_t1 (List.mem_of_getElem? (i := 2) rfl))) (hts (.initialized nsX) (in_t1 (List.mem_of_getElem? (i := 3) rfl))) hstr (vx_hat (fun w hw => hts w (List.mem_append_right _ hw)) nsG_rest (fun w hw => nsB_use (nsB_ok w hw) (hB9 w hw))) nsG_ot hU9 hN9 va_S.rf (by rw [hml]; exact hl.1) dX7_site_21 dX7_site_24 dX7_site_25 dX7_site_27 dX7_site_30 (fun x hx => (hnox x hx).elim) (Nat.le_of_ble_eq_true rfl) (Nat.le_of_ble_eq_true rfl) (Nat.le_of_ble_eq_true rfl) (Nat.le_of_ble_eq_true rfl) hlocks (fun t hal hz hq => ⟨(), trivial, rfl, hz, fun q h1 _ => hq q h1⟩) (fun z hz => nomatch hz) (Nat.le_refl _) (Nat.le_refl _)
def v_m_site : List Cond := .codeWith yL_site cL_site 5 (some .int) [(0, 10, 13, 13)] :: ([.methodLink RL 7 yX7_site, .instanceMethod yX7_site, .selects RX7 yX7_site yX7_site, .initialized RX7, .classLink RL 13 nsX] ++ (v_t_site ++ []))
theorem g_m_t : GoodIn v_m_site (wsV RL 7 RX7 yX7_site v_t_site) := goodIn_app (goodIn_of _ (by decide +kernel)) (goodIn_app (goodIn_sub (fun _ h => List.mem_cons_of_mem _ (List.mem_append_right _ (List.mem_append_left _ (List.mem_append_left _ h)))) gw_t1) (goodIn_sub (fun _ h => List.mem_cons_of_mem _ (List.mem_append_right _ (List.mem_append_left _ (List.mem_append_right _ h)))) nsG_good))
set_option maxHeartbeats 4000000 in
set_option maxRecDepth 100000 in
/-- the law's own site where the class throws: it answers 1, nothing old is changed -/
theorem m_site0 (l : Launch) (hfl : l.stackTraces = false) (E : EE) {a_ a_tape a_reader a_scripts a_now a_trial a_kept a_book a_keptBook a_history a_draws a_refused a_now_row a_now_partners a_now_share a_now_leftOver : Nat} {c_hasImage : Int32} {c_now_askedCount : Int32} {c_now_outcome : Int32} {c_now_row : Nat → Int32} (ao sa : Nat) {p1 p2 h0 : Int32} (hh0 : F_X5_hasSite p1 c_now_row = some h0) (hT : h0 = 0 ∨ p2 < 0 ∨ ¬ p2 ≤ 13) : vx_Met l yL_site v_m_site ({ frames := 7, cells := 1, slots := 6, locals := 104 }) (va_Pc [.ref a_, .int p1, .int p2, .ref ao] (pS E (w_X7_goes E a_ a_tape a_reader a_scripts a_now a_trial a_kept a_book a_keptBook a_history a_draws a_refused a_now_row a_now_partners a_now_share a_now_leftOver c_hasImage c_now_askedCount c_now_outcome c_now_row) sa)) (va_Qi (fun r (_u : Unit) => r = 1) (fun (_u : Unit) _ => True) (fun _ => False)) (fun _ _ _ => False) 1 6 (fun _ => False) := by
  refine vx_ofWH (cc := cL_site) (maxL := 5) (ret := some .int) (hh := [(0, 10, 13, 13)]) (by decide) rfl ?_
  intro p e s m args below meth c s₁ B hml hv
  obtain ⟨rfl, ⟨hK, hN⟩, hP, hstr, hU9, hN9, hB9⟩ := hv
  have hx := B.exec
  have hb := B.bytes
  have hr := B.returns
  have hts := atoms_spec (ws := v_m_site) B.pre
  have hown : s.vm.findClass RL = some m.cls := findClass_of_methodNamed B.named
  have hlocks := B.notSynchronized
  have htab : c.exceptionTable.toList = tableOf [(0, 10, 13, 13)] := vx_table (x := yL_site) B (hts _ List.mem_cons_self)
  have hS : va_S (fun _ : Nat => False) s.heap s.heap [] := va_S.rf
  have hl := lv_entry ([.ref a_, .int p1, .int p2, .ref ao]) (n := 5) (Nat.le_of_ble_eq_true rfl)
  rw [lg_entry_eq]
  generalize (lg_sl ([.ref a_, .int p1, .int p2, .ref ao]) ++ List.replicate (5 - (lg_sl ([.ref a_, .int p1, .int p2, .ref ao])).length) Slot.unset).toArray = ls at hl ⊢
  have hl : lv_has ls 5 [(0, .ref a_), (1, .int p1), (2, .int p2), (3, .ref ao)] := hl
  refine lv_aload_n hx hb dL_site_0 rfl (lv_at hl 3 rfl) ?_
  refine lv_iconst (v := 0) hx hb dL_site_1 (by decide) ?_
  refine lv_aload_n hx hb dL_site_2 rfl (lv_at hl 0 rfl) ?_
  refine lv_iload_n hx hb dL_site_3 rfl (lv_at hl 1 rfl) ?_
  refine lv_iload_n hx hb dL_site_4 rfl (lv_at hl 2 rfl) ?_
  refine vx_calli (vx_runV (As := [.int p1, .int p2]) (rest := [.int 0, .ref ao]) ⟨hx, hb, hml, hown, hts⟩ (t_site l hfl E (a_ := a_) (a_tape := a_tape) (a_reader := a_reader) (a_scripts := a_scripts) (a_now := a_now) (a_trial := a_trial) (a_kept := a_kept) (a_book := a_book) (a_keptBook := a_keptBook) (a_history := a_history) (a_draws := a_draws) (a_refused := a_refused) (a_now_row := a_now_row) (a_now_partners := a_now_partners) (a_now_share := a_now_share) (a_now_leftOver := a_now_leftOver) (c_hasImage := c_hasImage) (c_now_askedCount := c_now_askedCount) (c_now_outcome := c_now_outcome) (c_now_row := c_now_row) sa hh0 hT) (cwV 2 hts g_m_t rfl rfl rfl (by decide +kernel) ⟨Nat.le_of_ble_eq_true rfl, Nat.le_of_ble_eq_true rfl⟩) ⟨pS.blind, va_recv hK hP (ci := 8) (q0 := 0) rfl rfl, pS.pre ⟨hK, hN⟩ hP hstr hS hU9 hN9 hB9⟩ rfl rfl hl.1 rfl (lv_room (Nat.le_of_ble_eq_true rfl)) dL_site_5 ⟨Nat.le_of_ble_eq_true rfl, Nat.le_of_ble_eq_true rfl⟩) hS (fun _ _ h => h) (fun _ h => h) (fun _ _ h => h) (fun E9 ce q9 u tt H1 locs1 ht hvm hpx hBX hz hk1 hS1 hcell hcv hcl => ?_) (fun r u tt H1 locs1 ht hvm hw hB hz hk1 hS1 => hw.elim)
  have hBX : E9 = nsX := hBX
  subst hBX
  refine vx_catch (own := RL) (name := nsX) (E := nsX) hown [] ⟨0, 10, 13, 13⟩ [] (by rw [htab]; rfl) (fun z hz => nomatch hz) (by decide) (by decide) (hts (.classLink RL 13 nsX) (List.mem_of_getElem? (i := 5) rfl)) (nsB_use (nsB_ok _ (List.mem_of_getElem? (i := 0) rfl)) (hB9 _ (List.mem_of_getElem? (i := 0) rfl))) hcell hcv hcl ?_
  refine W.eq (g2 := F0 m 13 ls [.ref q9]) rfl ?_
  refine lv_astore (lv' := [(4, .ref q9), (0, .ref a_), (1, .int p1), (2, .int p2), (3, .ref ao)]) hx hb dL_site_13 hl (by decide) rfl (fun ls hl => ?_)
  refine lv_iconst (v := 1) hx hb dL_site_15 (by decide) ?_
  refine W.widen (k := 1) (n := 6) (Nat.le_of_ble_eq_true rfl) (Nat.le_of_ble_eq_true rfl) ?_
  exact vx_ret (W.iret (v := 1) hx hb hr (fun tt ht hW => ⟨⟨1, (), rfl, rfl, trivial⟩, hS1.F ht⟩) hS1.2.2 dL_site_16)
theorem m_site (l : Launch) (hfl : l.stackTraces = false) (E : EE) {a_ a_tape a_reader a_scripts a_now a_trial a_kept a_book a_keptBook a_history a_draws a_refused a_now_row a_now_partners a_now_share a_now_leftOver : Nat} {c_hasImage : Int32} {c_now_askedCount : Int32} {c_now_outcome : Int32} {c_now_row : Nat → Int32} (ao sa : Nat) {p1 p2 h0 : Int32} (hh0 : F_X5_hasSite p1 c_now_row = some h0) (hT : h0 = 0 ∨ p2 < 0 ∨ ¬ p2 ≤ 13) : Met l yL_site v_m_site ({ frames := 7, cells := 1, slots := 6, locals := 104 }) (va_Pc [.ref a_, .int p1, .int p2, .ref ao] (pS E (w_X7_goes E a_ a_tape a_reader a_scripts a_now a_trial a_kept a_book a_keptBook a_history a_draws a_refused a_now_row a_now_partners a_now_share a_now_leftOver c_hasImage c_now_askedCount c_now_outcome c_now_row) sa)) (va_Qi (fun r (_u : Unit) => r = 1) (fun (_u : Unit) _ => True) (fun _ => False)) 1 6 (fun _ => False) :=
  MetFree.mono (m_site0 l hfl E (a_ := a_) (a_tape := a_tape) (a_reader := a_reader) (a_scripts := a_scripts) (a_now := a_now) (a_trial := a_trial) (a_kept := a_kept) (a_book := a_book) (a_keptBook := a_keptBook) (a_history := a_history) (a_draws := a_draws) (a_refused := a_refused) (a_now_row := a_now_row) (a_now_partners := a_now_partners) (a_now_share := a_now_share) (a_now_leftOver := a_now_leftOver) (c_hasImage := c_hasImage) (c_now_askedCount := c_now_askedCount) (c_now_outcome := c_now_outcome) (c_now_row := c_now_row) ao sa hh0 hT) (fun _ _ h => h) (fun _ _ _ _ _ _ => trivial) (fun a st oc t _ h => by
    rcases h with h | ⟨q, -, E9, ce, L, hX, -⟩
    · exact h
    · exact hX.elim)
def v_n_site : List Cond := .codeWith yL_site cL_site 5 (some .int) [(0, 10, 13, 13)] :: ([.methodLink RL 7 yX7_site, .instanceMethod yX7_site, .selects RX7 yX7_site yX7_site, .initialized RX7] ++ (v_f_X7_site ++ []))
theorem g_n_t : GoodIn v_n_site (wsV RL 7 RX7 yX7_site v_f_X7_site) := goodIn_app (goodIn_of _ (by decide +kernel)) (goodIn_sub (fun _ h => List.mem_cons_of_mem _ (List.mem_append_right _ (List.mem_append_left _ h))) gw_f_X7_site)
set_option maxHeartbeats 4000000 in
set_option maxRecDepth 100000 in
/-- the law's own site where the class answers -/
theorem n_site0 (l : Launch) (E : EE) (sz : Nat) {a_ a_tape a_reader a_scripts a_now a_trial a_kept a_book a_keptBook a_history a_draws a_refused a_now_row a_now_partners a_now_share a_now_leftOver : Nat} {c_hasImage : Int32} {c_now_askedCount : Int32} {c_now_outcome : Int32} {c_now_row : Nat → Int32} {ao : Nat} {fo : Nat → Int64} {p1 p2 rr : Int32} (hF : F_X7_site p1 p2 c_now_row = some rr) : vx_Met l yL_site v_n_site ({ frames := 4, cells := 0, slots := 0, locals := 93 } : Room) (va_Pc [.ref a_, .int p1, .int p2, .ref ao] (pW E sz ((w_X7_goes E a_ a_tape a_reader a_scripts a_now a_trial a_kept a_book a_keptBook a_history a_draws a_refused a_now_row a_now_partners a_now_share a_now_leftOver c_hasImage c_now_askedCount c_now_outcome c_now_row) ++ [(ao, .inl (E.2.2.2, 1, .inr (.inl fo)))]))) (va_Qi (fun r9 (u9 : Nat → Int64) => r9 = 0 ∧ u9 = vp_updL fo 0 rr.toInt64) (fun (u : Nat → Int64) tt => va_P E.1 vwCl ((w_X7_goes E a_ a_tape a_reader a_scripts a_now a_trial a_kept a_book a_keptBook a_history a_draws a_refused a_now_row a_now_partners a_now_share a_now_leftOver c_hasImage c_now_askedCount c_now_outcome c_now_row) ++ [(ao, .inl (E.2.2.2, 1, .inr (.inl u)))]) tt.heap ∧ va_D (va_A ((w_X7_goes E a_ a_tape a_reader a_scripts a_now a_trial a_kept a_book a_keptBook a_history a_draws a_refused a_now_row a_now_partners a_now_share a_now_leftOver c_hasImage c_now_askedCount c_now_outcome c_now_row) ++ [(ao, .inl (E.2.2.2, 1, .inr (.inl fo)))]) sz) ((w_X7_goes E a_ a_tape a_reader a_scripts a_now a_trial a_kept a_book a_keptBook a_history a_draws a_refused a_now_row a_now_partners a_now_share a_now_leftOver c_hasImage c_now_askedCount c_now_outcome c_now_row) ++ [(ao, .inl (E.2.2.2, 1, .inr (.inl u)))])) (va_A ((w_X7_goes E a_ a_tape a_reader a_scripts a_now a_trial a_kept a_book a_keptBook a_history a_draws a_refused a_now_row a_now_partners a_now_share a_now_leftOver c_hasImage c_now_askedCount c_now_outcome c_now_row) ++ [(ao, .inl (E.2.2.2, 1, .inr (.inl fo)))]) sz)) (fun _ _ _ => False) 0 0 (va_A ((w_X7_goes E a_ a_tape a_reader a_scripts a_now a_trial a_kept a_book a_keptBook a_history a_draws a_refused a_now_row a_now_partners a_now_share a_now_leftOver c_hasImage c_now_askedCount c_now_outcome c_now_row) ++ [(ao, .inl (E.2.2.2, 1, .inr (.inl fo)))]) sz) := by
  refine vx_ofWH (cc := cL_site) (maxL := 5) (ret := some .int) (hh := [(0, 10, 13, 13)]) (by decide) rfl ?_
  intro p e s m args below meth c s₁ B hml hv
  obtain ⟨rfl, hsz, ⟨hK, hN⟩, hP, hD0⟩ := hv
  have hx := B.exec
  have hb := B.bytes
  have hr := B.returns
  have hts := atoms_spec (ws := v_n_site) B.pre
  have hown : s.vm.findClass RL = some m.cls := findClass_of_methodNamed B.named
  have hlocks := B.notSynchronized
  subst hsz
  have hD := hD0.self (sz := s.heap.size)
  generalize hAe : va_A ((w_X7_goes E a_ a_tape a_reader a_scripts a_now a_trial a_kept a_book a_keptBook a_history a_draws a_refused a_now_row a_now_partners a_now_share a_now_leftOver c_hasImage c_now_askedCount c_now_outcome c_now_row) ++ [(ao, .inl (E.2.2.2, 1, .inr (.inl fo)))]) s.heap.size = A at hD ⊢
  have hA : ∀ q : Nat, s.heap.size ≤ q → A q := fun q h => by rw [← hAe]; exact Or.inr h
  have hS : va_S A s.heap s.heap [] := va_S.rf
  have hP : va_P E.1 vwCl [k_X7 a_ a_tape a_reader a_scripts a_now a_trial a_kept a_book a_keptBook a_history a_draws a_refused c_hasImage, k_X5 a_now a_now_row a_now_partners c_now_askedCount c_now_outcome a_now_share a_now_leftOver, k_I E a_now_row 81 c_now_row, (ao, .inl (E.2.2.2, 1, .inr (.inl fo)))] s.heap := hP
  have hD : va_D A [k_X7 a_ a_tape a_reader a_scripts a_now a_trial a_kept a_book a_keptBook a_history a_draws a_refused c_hasImage, k_X5 a_now a_now_row a_now_partners c_now_askedCount c_now_outcome a_now_share a_now_leftOver, k_I E a_now_row 81 c_now_row, (ao, .inl (E.2.2.2, 1, .inr (.inl fo)))] := hD
  have hl := lv_entry ([.ref a_, .int p1, .int p2, .ref ao]) (n := 5) (Nat.le_of_ble_eq_true rfl)
  rw [lg_entry_eq]
  generalize (lg_sl ([.ref a_, .int p1, .int p2, .ref ao]) ++ List.replicate (5 - (lg_sl ([.ref a_, .int p1, .int p2, .ref ao])).length) Slot.unset).toArray = ls at hl ⊢
  have hl : lv_has ls 5 [(0, .ref a_), (1, .int p1), (2, .int p2), (3, .ref ao)] := hl
  refine lv_aload_n hx hb dL_site_0 rfl (lv_at hl 3 rfl) ?_
  refine lv_iconst (v := 0) hx hb dL_site_1 (by decide) ?_
  refine lv_aload_n hx hb dL_site_2 rfl (lv_at hl 0 rfl) ?_
  refine lv_iload_n hx hb dL_site_3 rfl (lv_at hl 1 rfl) ?_
  refine lv_iload_n hx hb dL_site_4 rfl (lv_at hl 2 rfl) ?_
  have hPc : va_P E.1 vwCl (w_X7_site E a_ a_tape a_reader a_scripts a_now a_trial a_kept a_book a_keptBook a_history a_draws a_refused a_now_row a_now_partners a_now_share a_now_leftOver c_hasImage c_now_askedCount c_now_outcome c_now_row) s.heap := hP.sub (ws' := [k_X7 a_ a_tape a_reader a_scripts a_now a_trial a_kept a_book a_keptBook a_history a_draws a_refused c_hasImage, k_X5 a_now a_now_row a_now_partners c_now_askedCount c_now_outcome a_now_share a_now_leftOver, k_I E a_now_row 81 c_now_row]) [0, 1, 2] rfl
  refine pE_i (va_runV (As := [.int p1, .int p2]) (rest := [.int 0, .ref ao]) ⟨hx, hb, hml, hown, hts⟩ (f_X7_site l E (a_ := a_) (a_tape := a_tape) (a_reader := a_reader) (a_scripts := a_scripts) (a_now := a_now) (a_trial := a_trial) (a_kept := a_kept) (a_book := a_book) (a_keptBook := a_keptBook) (a_history := a_history) (a_draws := a_draws) (a_refused := a_refused) (a_now_row := a_now_row) (a_now_partners := a_now_partners) (a_now_share := a_now_share) (a_now_leftOver := a_now_leftOver) (c_hasImage := c_hasImage) (c_now_askedCount := c_now_askedCount) (c_now_outcome := c_now_outcome) (c_now_row := c_now_row) hF) (cwV 2 hts g_n_t rfl rfl rfl (by decide +kernel) ⟨Nat.le_of_ble_eq_true rfl, Nat.le_of_ble_eq_true rfl⟩) ⟨pP.blind, va_recv hK hPc (ci := 8) (q0 := 0) rfl rfl, pP.pre ⟨hK, hN⟩ hPc⟩ rfl rfl hl.1 rfl (lv_room (Nat.le_of_ble_eq_true rfl)) dL_site_5 ⟨Nat.le_of_ble_eq_true rfl, Nat.le_of_ble_eq_true rfl⟩) ?_
  refine lv_i2l (v := rr.toInt64) hx hb dL_site_8 rfl ?_
  refine va_last hx hb hK hP hD hS 3 2 rfl rfl (vin rfl) dL_site_9 (fun H locs hP hD hS => ?_)
  have h9 := fixPD (ws' := [k_X7 a_ a_tape a_reader a_scripts a_now a_trial a_kept a_book a_keptBook a_history a_draws a_refused c_hasImage, k_X5 a_now a_now_row a_now_partners c_now_askedCount c_now_outcome a_now_share a_now_leftOver, k_I E a_now_row 81 c_now_row, (ao, .inl (E.2.2.2, 1, .inr (.inl (vp_updL fo 0 rr.toInt64))))]) hP hD rfl
  clear hP hD
  obtain ⟨hP, hD⟩ := h9
  refine lv_goto (tgt := 17) hx hb dL_site_10 (by decide) ?_
  refine lv_iconst (v := 0) hx hb dL_site_17 (by decide) ?_
  exact vx_ret (W.iret (v := 0) hx hb hr (fun tt ht hW => ⟨⟨0, vp_updL fo 0 rr.toInt64, rfl, ⟨rfl, rfl⟩, by rw [ht]; exact hP, hD⟩, hS.F ht⟩) hS.2.2 dL_site_18)
theorem n_site (l : Launch) (E : EE) (sz : Nat) {a_ a_tape a_reader a_scripts a_now a_trial a_kept a_book a_keptBook a_history a_draws a_refused a_now_row a_now_partners a_now_share a_now_leftOver : Nat} {c_hasImage : Int32} {c_now_askedCount : Int32} {c_now_outcome : Int32} {c_now_row : Nat → Int32} {ao : Nat} {fo : Nat → Int64} {p1 p2 rr : Int32} (hF : F_X7_site p1 p2 c_now_row = some rr) : Met l yL_site v_n_site ({ frames := 4, cells := 0, slots := 0, locals := 93 } : Room) (va_Pc [.ref a_, .int p1, .int p2, .ref ao] (pW E sz ((w_X7_goes E a_ a_tape a_reader a_scripts a_now a_trial a_kept a_book a_keptBook a_history a_draws a_refused a_now_row a_now_partners a_now_share a_now_leftOver c_hasImage c_now_askedCount c_now_outcome c_now_row) ++ [(ao, .inl (E.2.2.2, 1, .inr (.inl fo)))]))) (va_Qi (fun r9 (u9 : Nat → Int64) => r9 = 0 ∧ u9 = vp_updL fo 0 rr.toInt64) (fun (u : Nat → Int64) tt => va_P E.1 vwCl ((w_X7_goes E a_ a_tape a_reader a_scripts a_now a_trial a_kept a_book a_keptBook a_history a_draws a_refused a_now_row a_now_partners a_now_share a_now_leftOver c_hasImage c_now_askedCount c_now_outcome c_now_row) ++ [(ao, .inl (E.2.2.2, 1, .inr (.inl u)))]) tt.heap ∧ va_D (va_A ((w_X7_goes E a_ a_tape a_reader a_scripts a_now a_trial a_kept a_book a_keptBook a_history a_draws a_refused a_now_row a_now_partners a_now_share a_now_leftOver c_hasImage c_now_askedCount c_now_outcome c_now_row) ++ [(ao, .inl (E.2.2.2, 1, .inr (.inl fo)))]) sz) ((w_X7_goes E a_ a_tape a_reader a_scripts a_now a_trial a_kept a_book a_keptBook a_history a_draws a_refused a_now_row a_now_partners a_now_share a_now_leftOver c_hasImage c_now_askedCount c_now_outcome c_now_row) ++ [(ao, .inl (E.2.2.2, 1, .inr (.inl u)))])) (va_A ((w_X7_goes E a_ a_tape a_reader a_scripts a_now a_trial a_kept a_book a_keptBook a_history a_draws a_refused a_now_row a_now_partners a_now_share a_now_leftOver c_hasImage c_now_askedCount c_now_outcome c_now_row) ++ [(ao, .inl (E.2.2.2, 1, .inr (.inl fo)))]) sz)) 0 0 (va_A ((w_X7_goes E a_ a_tape a_reader a_scripts a_now a_trial a_kept a_book a_keptBook a_history a_draws a_refused a_now_row a_now_partners a_now_share a_now_leftOver c_hasImage c_now_askedCount c_now_outcome c_now_row) ++ [(ao, .inl (E.2.2.2, 1, .inr (.inl fo)))]) sz) :=
  MetFree.mono (n_site0 l E sz (a_ := a_) (a_tape := a_tape) (a_reader := a_reader) (a_scripts := a_scripts) (a_now := a_now) (a_trial := a_trial) (a_kept := a_kept) (a_book := a_book) (a_keptBook := a_keptBook) (a_history := a_history) (a_draws := a_draws) (a_refused := a_refused) (a_now_row := a_now_row) (a_now_partners := a_now_partners) (a_now_share := a_now_share) (a_now_leftOver := a_now_leftOver) (c_hasImage := c_hasImage) (c_now_askedCount := c_now_askedCount) (c_now_outcome := c_now_outcome) (c_now_row := c_now_row) hF) (fun _ _ h => h) (fun _ _ _ _ _ _ => trivial) (fun a st oc t _ h => by
    rcases h with h | ⟨q, -, E9, ce, L, hX, -⟩
    · exact h
    · exact hX.elim)
theorem site_or {p1 p2 : Int32} {f : Nat → Int32} : (∃ r, F_X7_site p1 p2 f = some r) ∨ ∃ h0, F_X5_hasSite p1 f = some h0 ∧ (h0 = 0 ∨ p2 < 0 ∨ ¬ p2 ≤ 13) := by
  obtain ⟨h0, e, -⟩ := hs_ok (p1 := p1) (f := f)
  by_cases q : h0 = 0 ∨ p2 < 0 ∨ ¬ p2 ≤ 13
  · exact Or.inr ⟨h0, e, q⟩
  · have q1 : ¬ h0 = 0 := fun z => q (Or.inl z)
    have q2 : ¬ p2 < 0 := fun z => q (Or.inr (Or.inl z))
    have q3 : p2 ≤ 13 := Classical.byContradiction (fun z => q (Or.inr (Or.inr z)))
    have h : Tt (F_X7_site p1 p2 f) (fun _ => True) := by
      unfold F_X7_site
      rw [e, xb1, if_neg q1, if_neg q2, if_pos q3]
      refine tt_ite (fun _ => tt_bd1 t_drift (fun _ _ => tt_some trivial)) (fun _ => tt_ite (fun _ => tt_bd1 t_drift (fun _ _ => tt_some trivial)) (fun _ => tt_ite (fun _ => tt_bd1 t_point (fun _ _ => tt_some trivial)) (fun _ => tt_ite (fun _ => tt_bd1 t_point (fun _ _ => tt_some trivial)) (fun _ => tt_ite (fun _ => tt_bd1 t_isQuiet (fun _ _ => tt_ite (fun _ => tt_some trivial) (fun _ => tt_some trivial))) (fun _ => tt_ite (fun _ => tt_bd1 t_of (fun _ _ => tt_some trivial)) (fun _ => tt_ite (fun _ => tt_bd1 t_of (fun _ _ => tt_some trivial)) (fun _ => tt_ite (fun _ => tt_bd1 t_isFrozen (fun _ _ => tt_ite (fun _ => tt_some trivial) (fun _ => tt_some trivial))) (fun _ => tt_bd1 t_of (fun _ _ => tt_some trivial)))))))))
    obtain ⟨r, hr, -⟩ := h
    exact Or.inl ⟨r, hr⟩
end
