noncomputable def blX3_failAt_0 : List Nat := [42, 27, 181, 0, 40, 3, 172]
set_option maxRecDepth 100000 in
theorem bcX3_failAt_0 : ((cX3_failAt.data.toList.drop 0).take blX3_failAt_0.length).map UInt8.toNat = blX3_failAt_0 := by decide +kernel
noncomputable def blX3_skipBlanks_0 : List Nat := [42, 180, 0, 31, 42, 180, 0, 43, 180, 0, 59, 162, 0, 32, 42, 180, 0, 43, 42, 180, 0, 31, 182, 0, 143, 16, 32, 160, 0, 16, 42, 89, 180, 0, 31, 4, 96, 181, 0, 31, 167, 255, 216, 177]
set_option maxRecDepth 100000 in
theorem bcX3_skipBlanks_0 : ((cX3_skipBlanks.data.toList.drop 0).take blX3_skipBlanks_0.length).map UInt8.toNat = blX3_skipBlanks_0 := by decide +kernel
noncomputable def blX3_isAtEnd_0 : List Nat := [42, 182, 0, 140, 42, 180, 0, 31, 42, 180, 0, 43, 180, 0, 59, 161, 0, 7, 4, 167, 0, 4, 3, 172]
set_option maxRecDepth 100000 in
theorem bcX3_isAtEnd_0 : ((cX3_isAtEnd.data.toList.drop 0).take blX3_isAtEnd_0.length).map UInt8.toNat = blX3_isAtEnd_0 := by decide +kernel
noncomputable def blX3_isDigit_0 : List Nat := [26, 16, 48, 161, 0, 13, 26, 16, 57, 163, 0, 7, 4, 167, 0, 4, 3, 172]
set_option maxRecDepth 100000 in
theorem bcX3_isDigit_0 : ((cX3_isDigit.data.toList.drop 0).take blX3_isDigit_0.length).map UInt8.toNat = blX3_isDigit_0 := by decide +kernel
noncomputable def blX3_isLetter_0 : List Nat := [26, 16, 97, 161, 0, 13, 26, 16, 122, 163, 0, 7, 4, 167, 0, 4, 3, 172]
set_option maxRecDepth 100000 in
theorem bcX3_isLetter_0 : ((cX3_isLetter.data.toList.drop 0).take blX3_isLetter_0.length).map UInt8.toNat = blX3_isLetter_0 := by decide +kernel
noncomputable def blX3_isWord_0 : List Nat := [42, 180, 0, 31, 42, 180, 0, 34, 100, 43, 182, 0, 150, 159, 0, 5, 3, 172, 3, 61, 28, 43, 182, 0, 150, 162, 0, 32, 42, 180, 0, 43, 42, 180, 0, 34, 28, 96, 182, 0, 143, 43, 28, 182, 0, 154, 159, 0, 5, 3, 172]
set_option maxRecDepth 100000 in
theorem bcX3_isWord_0 : ((cX3_isWord.data.toList.drop 0).take blX3_isWord_0.length).map UInt8.toNat = blX3_isWord_0 := by decide +kernel
noncomputable def blX3_isWord_1 : List Nat := [5, 3, 172, 132, 2, 1, 167, 255, 222, 4, 172]
set_option maxRecDepth 100000 in
theorem bcX3_isWord_1 : ((cX3_isWord.data.toList.drop 48).take blX3_isWord_1.length).map UInt8.toNat = blX3_isWord_1 := by decide +kernel
noncomputable def blX3_lawOfWord_0 : List Nat := [42, 18, 132, 182, 0, 76, 153, 0, 5, 3, 172, 42, 18, 134, 182, 0, 76, 153, 0, 5, 4, 172, 42, 18, 136, 182, 0, 76, 153, 0, 5, 5, 172, 42, 18, 138, 182, 0, 76, 153, 0, 7, 6, 167, 0, 4, 2, 172]
set_option maxRecDepth 100000 in
theorem bcX3_lawOfWord_0 : ((cX3_lawOfWord.data.toList.drop 0).take blX3_lawOfWord_0.length).map UInt8.toNat = blX3_lawOfWord_0 := by decide +kernel
noncomputable def blX3_putInStep_0 : List Nat := [42, 180, 0, 25, 16, 12, 162, 0, 26, 27, 155, 0, 22, 27, 7, 162, 0, 17, 42, 180, 0, 18, 42, 180, 0, 25, 7, 104, 27, 96, 28, 79, 177]
set_option maxRecDepth 100000 in
theorem bcX3_putInStep_0 : ((cX3_putInStep.data.toList.drop 0).take blX3_putInStep_0.length).map UInt8.toNat = blX3_putInStep_0 := by decide +kernel
noncomputable def blX3_readWord_0 : List Nat := [42, 182, 0, 140, 42, 42, 180, 0, 31, 181, 0, 34, 42, 180, 0, 31, 42, 180, 0, 43, 180, 0, 59, 162, 0, 33, 42, 180, 0, 43, 42, 180, 0, 31, 182, 0, 143, 184, 0, 147, 153, 0, 16, 42, 89, 180, 0, 31, 4, 96, 181]
set_option maxRecDepth 100000 in
theorem bcX3_readWord_0 : ((cX3_readWord.data.toList.drop 0).take blX3_readWord_0.length).map UInt8.toNat = blX3_readWord_0 := by decide +kernel
noncomputable def blX3_readWord_1 : List Nat := [4, 96, 181, 0, 31, 167, 255, 215, 42, 180, 0, 31, 42, 180, 0, 34, 163, 0, 14, 42, 42, 180, 0, 31, 182, 0, 87, 153, 0, 7, 4, 167, 0, 4, 3, 172]
set_option maxRecDepth 100000 in
theorem bcX3_readWord_1 : ((cX3_readWord.data.toList.drop 48).take blX3_readWord_1.length).map UInt8.toNat = blX3_readWord_1 := by decide +kernel

def F_X3_failAt (p1 : Int32) (c_failed : Int32) : Option (Int32 × Int32) :=
  some ((0 : Int32), p1)
abbrev w_X3_failAt (E : EE) (a_ a_tape a_rules a_places a_steps : Nat) (c_siteCount : Int32) (c_stepCount : Int32) (c_seenRules : Int32) (c_at : Int32) (c_wordStart : Int32) (c_number : Int32) (c_failed : Int32) : va_W := [k_X3 a_ a_tape a_rules a_places a_steps c_siteCount c_stepCount c_seenRules c_at c_wordStart c_number c_failed]
def v_f_X3_failAt : List Cond := List.cons (.code yX3_failAt cX3_failAt 2 (some .boolean)) (HAppend.hAppend (α := List Cond) (β := List Cond) (γ := List Cond) [.fieldLink RX3 40 "HushWatch$Reader" "failed" "I"] (HAppend.hAppend (α := List Cond) (β := List Cond) (γ := List Cond) wsX30 []))
theorem gw_f_X3_failAt : v_f_X3_failAt.all goodWord = true := gw_c2 (by decide +kernel) (gw_ap gw_wsX30 gw_nil)
theorem i_f_X3_failAt_X3 : ∀ w ∈ wsX30, w ∈ v_f_X3_failAt := fun _ h => List.mem_cons_of_mem _ (List.mem_append_right _ (List.mem_append_left _ h))
theorem hd_X3_failAt : yX3_failAt.cls = RX3 ∧ yX3_failAt.cls ≠ "java/lang/invoke/MethodHandle" ∧ yX3_failAt.cls ≠ "java/lang/invoke/VarHandle" ∧ (parseMethodDescriptor yX3_failAt.desc).map (fun d => d.parameters.length) = some 1 := by decide +kernel
set_option maxHeartbeats 4000000 in
set_option maxRecDepth 100000 in
theorem f_X3_failAt (l : Launch) (E : EE) (sz : Nat) {a_ a_tape a_rules a_places a_steps : Nat} {p1 : Int32} {c_siteCount : Int32} {c_stepCount : Int32} {c_seenRules : Int32} {c_at : Int32} {c_wordStart : Int32} {c_number : Int32} {c_failed : Int32} {rr : Int32} {n_failed : Int32} (hF : F_X3_failAt p1 c_failed = some (rr, n_failed)) : Met l yX3_failAt v_f_X3_failAt (({ frames := 0, cells := 0, slots := 0, locals := 0 } : Room)) (va_Pc [.ref a_, .int p1] (pW E sz (w_X3_failAt E a_ a_tape a_rules a_places a_steps c_siteCount c_stepCount c_seenRules c_at c_wordStart c_number c_failed))) (va_Qi (fun (q : Int32) (_u : Unit) => q = rr ∧ (q = 0 ∨ q = 1)) (fun (_u : Unit) tt => va_P E.1 vwCl (w_X3_failAt E a_ a_tape a_rules a_places a_steps c_siteCount c_stepCount c_seenRules c_at c_wordStart c_number n_failed) tt.heap ∧ va_D (va_A (w_X3_failAt E a_ a_tape a_rules a_places a_steps c_siteCount c_stepCount c_seenRules c_at c_wordStart c_number c_failed) sz) (w_X3_failAt E a_ a_tape a_rules a_places a_steps c_siteCount c_stepCount c_seenRules c_at c_wordStart c_number n_failed)) (va_A (w_X3_failAt E a_ a_tape a_rules a_places a_steps c_siteCount c_stepCount c_seenRules c_at c_wordStart c_number c_failed) sz)) 0 0 (va_A (w_X3_failAt E a_ a_tape a_rules a_places a_steps c_siteCount c_stepCount c_seenRules c_at c_wordStart c_number c_failed) sz) := by
  refine Met.ofW (cc := cX3_failAt) (maxL := 2) (ret := (some .boolean)) (by decide) rfl ?_
  intro p e s m args below meth c s₁ B hml hv
  obtain ⟨rfl, hsz, ⟨hK, hN⟩, hP, hD0⟩ := hv
  have hx := B.exec
  have hb := B.bytes
  have hr := B.returns
  have hts := atoms_spec (ws := v_f_X3_failAt) B.pre
  have hown : s.vm.findClass RX3 = some m.cls := own_of hd_X3_failAt.1 (findClass_of_methodNamed B.named)
  have hlocks : meth.locks = false := B.notSynchronized
  subst hsz
  have hD := hD0.self (sz := s.heap.size)
  generalize hAe : va_A (w_X3_failAt E a_ a_tape a_rules a_places a_steps c_siteCount c_stepCount c_seenRules c_at c_wordStart c_number c_failed) s.heap.size = A at hD ⊢
  have hA : ∀ q : Nat, s.heap.size ≤ q → A q := fun q h => by rw [← hAe]; exact Or.inr h
  have hS : va_S A s.heap s.heap [] := va_S.rf
  have hl := lv_entry ([.ref a_, .int p1]) (n := 2) (Nat.le_of_ble_eq_true rfl)
  rw [lg_entry_eq]
  generalize (lg_sl ([.ref a_, .int p1]) ++ List.replicate (2 - (lg_sl ([.ref a_, .int p1])).length) Slot.unset).toArray = ls at hl ⊢
  have hl : lv_has ls 2 [(0, .ref a_), (1, .int p1)] := hl
  obtain ⟨Q, hQ⟩ : ∃ Q : State → Prop, Q = MQ below (va_Qi (fun (q : Int32) (_u : Unit) => q = rr ∧ (q = 0 ∨ q = 1)) (fun (_u : Unit) tt => va_P E.1 vwCl (w_X3_failAt E a_ a_tape a_rules a_places a_steps c_siteCount c_stepCount c_seenRules c_at c_wordStart c_number n_failed) tt.heap ∧ va_D A (w_X3_failAt E a_ a_tape a_rules a_places a_steps c_siteCount c_stepCount c_seenRules c_at c_wordStart c_number n_failed)) A) #[Value.ref a_, Value.int p1] s 0 0 A := ⟨_, rfl⟩
  rw [← hQ]
  change W p l e ({ frames := 0, cells := 0, slots := 0, locals := 0 } : Room) s m #[Value.ref a_, Value.int p1] below meth c s.heap [] 0 0 Q (F0 m 0 ls [])
  suffices hh9 : ∀ (H : Heap) (locs : List Loc), va_P E.1 vwCl (w_X3_failAt E a_ a_tape a_rules a_places a_steps c_siteCount c_stepCount c_seenRules c_at c_wordStart c_number c_failed) H → va_D A (w_X3_failAt E a_ a_tape a_rules a_places a_steps c_siteCount c_stepCount c_seenRules c_at c_wordStart c_number c_failed) → va_S A s.heap H locs → W p l e ({ frames := 0, cells := 0, slots := 0, locals := 0 } : Room) s m #[Value.ref a_, Value.int p1] below meth c H locs 0 0 Q (F0 m 0 ls []) from hh9 s.heap [] hP hD hS
  clear hP hD hS
  intro H locs hP hD hS
  have h9 := fixPD (ws' := [k_X3 a_ a_tape a_rules a_places a_steps c_siteCount c_stepCount c_seenRules c_at c_wordStart c_number c_failed]) hP hD rfl
  clear hP hD
  obtain ⟨hP, hD⟩ := h9
  unfold F_X3_failAt at hF
  refine lv_aload_n hx hb (dq_42 0 bcX3_failAt_0 (j := 0) rfl rfl) rfl (lv_at hl 0 rfl) ?_
  refine lv_iload_n hx hb (dq_27 0 bcX3_failAt_0 (j := 1) rfl rfl) rfl (lv_at hl 1 rfl) ?_
  refine pt_X3_10 (v := .int p1) hx hb hts i_f_X3_failAt_X3 hown hK hP hD hS 0 rfl (hts (.fieldLink RX3 40 "HushWatch$Reader" "failed" "I") (List.mem_of_getElem? (i := 1) rfl)) rfl rfl (Nat.le_of_ble_eq_true rfl) (dq_181 0 bcX3_failAt_0 (j := 2) (i := 40) rfl rfl rfl) (fun H locs hP hD hS => ?_)
  have h9 := fixPD (ws' := [k_X3 a_ a_tape a_rules a_places a_steps c_siteCount c_stepCount c_seenRules c_at c_wordStart c_number p1]) hP hD rfl
  clear hP hD
  obtain ⟨hP, hD⟩ := h9
  refine lv_iconst (v := 0) hx hb (dq_3 0 bcX3_failAt_0 (j := 5) rfl rfl) (by decide) ?_
  rw [hQ]
  have h9 := fin9 (P := fun u9 : Int32 × Int32 => (0 : Int32) = u9.1 ∧ va_P E.1 vwCl (w_X3_failAt E a_ a_tape a_rules a_places a_steps c_siteCount c_stepCount c_seenRules c_at c_wordStart c_number u9.2) H ∧ va_D A (w_X3_failAt E a_ a_tape a_rules a_places a_steps c_siteCount c_stepCount c_seenRules c_at c_wordStart c_number u9.2)) hF ⟨rfl, hP, hD⟩
  obtain ⟨e9_0, hP9, hD9⟩ := h9
  exact W.zret (v := (0 : Int32)) hx hb hr rfl (fun tt ht hW => ⟨⟨_, (), rfl, ⟨e9_0, Or.inl rfl⟩, ht ▸ hP9, hD9⟩, hS.F ht⟩) hS.2.2 (dq_172 0 bcX3_failAt_0 (j := 6) rfl rfl)

def B_X3_skipBlanks_0 (c_tape_length : Int32) (c_tape_bytes : Nat → Int32) (c_at : Int32) : Option ((Int32) ⊕ (Int32)) :=
  if c_tape_length ≤ c_at then some (.inr c_at) else bd1 (F_X6_signAt c_at c_tape_bytes c_tape_length) (fun r_2 => if r_2 = (32 : Int32) then some (.inl (c_at + (1 : Int32))) else some (.inr c_at))
def F_X3_skipBlanks (K : Nat) (c_tape_bytes : Nat → Int32) (c_tape_length : Int32) (c_at : Int32) : Option (Int32) :=
  bd1 (lpF (fun u9 : Int32 => B_X3_skipBlanks_0 c_tape_length c_tape_bytes u9) K c_at) (fun c_at_5 => some c_at_5)
abbrev w_X3_skipBlanks (E : EE) (a_ a_tape a_rules a_places a_steps a_tape_bytes : Nat) (c_siteCount : Int32) (c_stepCount : Int32) (c_seenRules : Int32) (c_at : Int32) (c_wordStart : Int32) (c_number : Int32) (c_failed : Int32) (c_tape_length : Int32) (c_tape_bytes : Nat → Int32) : va_W := [k_X3 a_ a_tape a_rules a_places a_steps c_siteCount c_stepCount c_seenRules c_at c_wordStart c_number c_failed, k_X6 a_tape a_tape_bytes c_tape_length, k_B E a_tape_bytes 320 c_tape_bytes]
def v_f_X3_skipBlanks : List Cond := List.cons (.code yX3_skipBlanks cX3_skipBlanks 1 none) (HAppend.hAppend (α := List Cond) (β := List Cond) (γ := List Cond) [.fieldLink RX3 31 "HushWatch$Reader" "at" "I", .fieldLink RX3 43 "HushWatch$Reader" "tape" "LHushWatch$Tape;", .methodLink RX3 143 yX6_signAt, .instanceMethod yX6_signAt, .selects RX6 yX6_signAt yX6_signAt, .initialized RX6] (HAppend.hAppend (α := List Cond) (β := List Cond) (γ := List Cond) wsX30 (HAppend.hAppend (α := List Cond) (β := List Cond) (γ := List Cond) wsX60 (HAppend.hAppend (α := List Cond) (β := List Cond) (γ := List Cond) v_f_X6_signAt []))))
theorem gw_f_X3_skipBlanks : v_f_X3_skipBlanks.all goodWord = true := gw_c2 (by decide +kernel) (gw_ap gw_wsX30 (gw_ap gw_wsX60 (gw_ap gw_f_X6_signAt gw_nil)))
theorem i_f_X3_skipBlanks_X3 : ∀ w ∈ wsX30, w ∈ v_f_X3_skipBlanks := fun _ h => List.mem_cons_of_mem _ (List.mem_append_right _ (List.mem_append_left _ h))
theorem i_f_X3_skipBlanks_X6 : ∀ w ∈ wsX60, w ∈ v_f_X3_skipBlanks := fun _ h => List.mem_cons_of_mem _ (List.mem_append_right _ (List.mem_append_right _ (List.mem_append_left _ h)))
theorem g_f_X3_skipBlanks_f_X6_signAt_143 : GoodIn v_f_X3_skipBlanks (wsV RX3 143 RX6 yX6_signAt v_f_X6_signAt) := goodIn_in gw_f_X3_skipBlanks (in4 3 4 5 6 rfl rfl rfl rfl (fun _ h => List.mem_cons_of_mem _ (List.mem_append_right _ (List.mem_append_right _ (List.mem_append_right _ (List.mem_append_left _ h))))))
theorem hd_X3_skipBlanks : yX3_skipBlanks.cls = RX3 ∧ yX3_skipBlanks.cls ≠ "java/lang/invoke/MethodHandle" ∧ yX3_skipBlanks.cls ≠ "java/lang/invoke/VarHandle" ∧ (parseMethodDescriptor yX3_skipBlanks.desc).map (fun d => d.parameters.length) = some 0 := by decide +kernel
set_option maxHeartbeats 4000000 in
set_option maxRecDepth 100000 in
theorem wb_X3_skipBlanks_0 {p : Program} (l : Launch) {e : Env} {s : State} {m : MethodId} {below : List Frame} {meth : Method} {c : Code} {Q : State → Prop} (E : EE) (K : Nat) {a_ a_tape a_rules a_places a_steps a_tape_bytes : Nat} {c_siteCount : Int32} {c_stepCount : Int32} {c_seenRules : Int32} {c_wordStart : Int32} {c_number : Int32} {c_failed : Int32} {c_tape_length : Int32} {c_tape_bytes : Nat → Int32} {c_at : Int32} (hx : p.tables.exec = Jvm.exec) (hb : c.code = cX3_skipBlanks) (hml : c.maxLocals = 1) (hown : s.vm.findClass RX3 = some m.cls) (hts : ∀ w ∈ v_f_X3_skipBlanks, w.before #[Value.ref a_] s = true) (hK : va_K E.1 vwCl (TY E) s) (hN : NX s) {A : Nat → Prop} (hA : ∀ q : Nat, s.heap.size ≤ q → A q) {xx : (Int32) ⊕ (Int32)} (hC : ∀ (c_at : Int32), xx = .inl c_at → ∀ (H : Heap) (locs : List Loc) (ls : Array Slot), va_P E.1 vwCl (w_X3_skipBlanks E a_ a_tape a_rules a_places a_steps a_tape_bytes c_siteCount c_stepCount c_seenRules c_at c_wordStart c_number c_failed c_tape_length c_tape_bytes) H → va_D A (w_X3_skipBlanks E a_ a_tape a_rules a_places a_steps a_tape_bytes c_siteCount c_stepCount c_seenRules c_at c_wordStart c_number c_failed c_tape_length c_tape_bytes) → va_S A s.heap H locs → lv_has ls 1 [(0, .ref a_)] → W p l e ({ frames := 1, cells := 0, slots := 0, locals := 21 } : Room) s m #[Value.ref a_] below meth c H locs 0 0 Q (F0 m 0 ls [])) (hE : ∀ (c_at : Int32), xx = .inr c_at → ((∀ (H : Heap) (locs : List Loc) (ls : Array Slot), va_P E.1 vwCl (w_X3_skipBlanks E a_ a_tape a_rules a_places a_steps a_tape_bytes c_siteCount c_stepCount c_seenRules c_at c_wordStart c_number c_failed c_tape_length c_tape_bytes) H → va_D A (w_X3_skipBlanks E a_ a_tape a_rules a_places a_steps a_tape_bytes c_siteCount c_stepCount c_seenRules c_at c_wordStart c_number c_failed c_tape_length c_tape_bytes) → va_S A s.heap H locs → lv_has ls 1 [] → W p l e ({ frames := 1, cells := 0, slots := 0, locals := 21 } : Room) s m #[Value.ref a_] below meth c H locs 0 0 Q (F0 m 43 ls [])))) (hF : B_X3_skipBlanks_0 c_tape_length c_tape_bytes c_at = some xx) : ∀ (H : Heap) (locs : List Loc) (ls : Array Slot), va_P E.1 vwCl (w_X3_skipBlanks E a_ a_tape a_rules a_places a_steps a_tape_bytes c_siteCount c_stepCount c_seenRules c_at c_wordStart c_number c_failed c_tape_length c_tape_bytes) H → va_D A (w_X3_skipBlanks E a_ a_tape a_rules a_places a_steps a_tape_bytes c_siteCount c_stepCount c_seenRules c_at c_wordStart c_number c_failed c_tape_length c_tape_bytes) → va_S A s.heap H locs → lv_has ls 1 [(0, .ref a_)] → W p l e ({ frames := 1, cells := 0, slots := 0, locals := 21 } : Room) s m #[Value.ref a_] below meth c H locs 0 0 Q (F0 m 0 ls []) := by
  unfold B_X3_skipBlanks_0 at hF
  intro H locs ls hP hD hS hl
  have h9 := fixPD (ws' := [k_X3 a_ a_tape a_rules a_places a_steps c_siteCount c_stepCount c_seenRules c_at c_wordStart c_number c_failed, k_X6 a_tape a_tape_bytes c_tape_length, k_B E a_tape_bytes 320 c_tape_bytes]) hP hD rfl
  clear hP hD
  obtain ⟨hP, hD⟩ := h9
  refine lv_aload_n hx hb (dq_42 0 bcX3_skipBlanks_0 (j := 0) rfl rfl) rfl (lv_at hl 0 rfl) ?_
  refine gt_X3_7 (v := .int c_at) hx hb hts i_f_X3_skipBlanks_X3 hown hK hP 0 rfl (hts (.fieldLink RX3 31 "HushWatch$Reader" "at" "I") (List.mem_of_getElem? (i := 1) rfl)) rfl (dq_180 0 bcX3_skipBlanks_0 (j := 1) (i := 31) rfl rfl rfl) ?_
  refine lv_aload_n hx hb (dq_42 0 bcX3_skipBlanks_0 (j := 4) rfl rfl) rfl (lv_at hl 0 rfl) ?_
  refine gt_X3_0 (v := .ref a_tape) hx hb hts i_f_X3_skipBlanks_X3 hown hK hP 0 rfl (hts (.fieldLink RX3 43 "HushWatch$Reader" "tape" "LHushWatch$Tape;") (List.mem_of_getElem? (i := 2) rfl)) rfl (dq_180 0 bcX3_skipBlanks_0 (j := 5) (i := 43) rfl rfl rfl) ?_
  refine va_getN (D := E.1) (ci := 7) (v := .int c_tape_length) (C := RX6) (T := TX6) (N := 2) hx hb hts i_f_X3_skipBlanks_X6 hown hK hP 1 rfl rfl 1 (by decide) (nx hN 2 rfl) (fun _ h9 => h9) rfl (dq_180 0 bcX3_skipBlanks_0 (j := 8) (i := 59) rfl rfl rfl) ?_
  refine lv_icmp_ge (tgt := 43) hx hb (dq_162 0 bcX3_skipBlanks_0 (j := 11) (i := 32) rfl rfl rfl) (by decide) (fun c_1 => ?_) (fun c_1 => ?_)
  ·
    replace hF := ip c_1 hF
    cases hF
    exact hE c_at rfl H locs ls (hP.sub [0, 1, 2] rfl) (hD.sub [0, 1, 2] (by decide) rfl) hS (lv_sub hl [] rfl)
  ·
    replace hF := inn c_1 hF
    refine lv_aload_n hx hb (dq_42 0 bcX3_skipBlanks_0 (j := 14) rfl rfl) rfl (lv_at hl 0 rfl) ?_
    refine gt_X3_0 (v := .ref a_tape) hx hb hts i_f_X3_skipBlanks_X3 hown hK hP 0 rfl (hts (.fieldLink RX3 43 "HushWatch$Reader" "tape" "LHushWatch$Tape;") (List.mem_of_getElem? (i := 2) rfl)) rfl (dq_180 0 bcX3_skipBlanks_0 (j := 15) (i := 43) rfl rfl rfl) ?_
    refine lv_aload_n hx hb (dq_42 0 bcX3_skipBlanks_0 (j := 18) rfl rfl) rfl (lv_at hl 0 rfl) ?_
    refine gt_X3_7 (v := .int c_at) hx hb hts i_f_X3_skipBlanks_X3 hown hK hP 0 rfl (hts (.fieldLink RX3 31 "HushWatch$Reader" "at" "I") (List.mem_of_getElem? (i := 1) rfl)) rfl (dq_180 0 bcX3_skipBlanks_0 (j := 19) (i := 31) rfl rfl rfl) ?_
    replace hF := bd1_s hF
    obtain ⟨r_2, hc_3, hF⟩ := hF
    have hPc : va_P E.1 vwCl (w_X6_signAt E a_tape a_tape_bytes c_tape_length c_tape_bytes) H := hP.sub (ws' := [k_X6 a_tape a_tape_bytes c_tape_length, k_B E a_tape_bytes 320 c_tape_bytes]) [1, 2] rfl
    have hrc := va_recv hK hPc (ci := 7) (q0 := 0) rfl rfl
    refine pE_i (va_runV (As := [.int c_at]) (rest := [])  ⟨hx, hb, hml, hown, hts⟩ (f_X6_signAt l E (a_ := a_tape) (a_bytes := a_tape_bytes) (p1 := c_at) (c_length := c_tape_length) (c_bytes := c_tape_bytes) hc_3) (cwV 1 hts g_f_X3_skipBlanks_f_X6_signAt_143 rfl rfl rfl hd_X6_signAt ⟨Nat.le_of_ble_eq_true rfl, Nat.le_of_ble_eq_true rfl⟩) ⟨pP.blind, hrc, (pP.pre ⟨hK, hN⟩ hPc)⟩ rfl rfl hl.1 rfl (lv_room (Nat.le_of_ble_eq_true rfl)) (dq_182 0 bcX3_skipBlanks_0 (j := 22) (i := 143) rfl rfl rfl) ⟨Nat.le_of_ble_eq_true rfl, Nat.le_of_ble_eq_true rfl⟩) ?_
    refine lv_bipush (v := 32) hx hb (dq_16 0 bcX3_skipBlanks_0 (j := 25) (i := 32) rfl rfl rfl) (by decide) ?_
    refine lv_icmp_ne (tgt := 43) hx hb (dq_160 0 bcX3_skipBlanks_0 (j := 27) (i := 16) rfl rfl rfl) (by decide) (fun c_4 => ?_) (fun c_4 => ?_)
    ·
      replace hF := inn c_4 hF
      cases hF
      exact hE c_at rfl H locs ls (hP.sub [0, 1, 2] rfl) (hD.sub [0, 1, 2] (by decide) rfl) hS (lv_sub hl [] rfl)
    ·
      replace hF := ip c_4 hF
      refine lv_aload_n hx hb (dq_42 0 bcX3_skipBlanks_0 (j := 30) rfl rfl) rfl (lv_at hl 0 rfl) ?_
      refine lv_dup hx hb (dq_89 0 bcX3_skipBlanks_0 (j := 31) rfl rfl) rfl ?_
      refine gt_X3_7 (v := .int c_at) hx hb hts i_f_X3_skipBlanks_X3 hown hK hP 0 rfl (hts (.fieldLink RX3 31 "HushWatch$Reader" "at" "I") (List.mem_of_getElem? (i := 1) rfl)) rfl (dq_180 0 bcX3_skipBlanks_0 (j := 32) (i := 31) rfl rfl rfl) ?_
      refine lv_iconst (v := 1) hx hb (dq_4 0 bcX3_skipBlanks_0 (j := 35) rfl rfl) (by decide) ?_
      refine lv_iadd hx hb (dq_96 0 bcX3_skipBlanks_0 (j := 36) rfl rfl) ?_
      refine pt_X3_7 (v := .int (c_at + (1 : Int32))) hx hb hts i_f_X3_skipBlanks_X3 hown hK hP hD hS 0 rfl (hts (.fieldLink RX3 31 "HushWatch$Reader" "at" "I") (List.mem_of_getElem? (i := 1) rfl)) rfl rfl (Nat.le_of_ble_eq_true rfl) (dq_181 0 bcX3_skipBlanks_0 (j := 37) (i := 31) rfl rfl rfl) (fun H locs hP hD hS => ?_)
      have h9 := fixPD (ws' := [k_X3 a_ a_tape a_rules a_places a_steps c_siteCount c_stepCount c_seenRules (c_at + (1 : Int32)) c_wordStart c_number c_failed, k_X6 a_tape a_tape_bytes c_tape_length, k_B E a_tape_bytes 320 c_tape_bytes]) hP hD rfl
      clear hP hD
      obtain ⟨hP, hD⟩ := h9
      refine lv_goto (tgt := 0) hx hb (dq_167 0 bcX3_skipBlanks_0 (j := 40) (i := -40) rfl rfl rfl) (by decide) ?_
      cases hF
      exact hC (c_at + (1 : Int32)) rfl H locs ls (hP.sub [0, 1, 2] rfl) (hD.sub [0, 1, 2] (by decide) rfl) hS (lv_sub hl [0] rfl)

set_option maxHeartbeats 4000000 in
set_option maxRecDepth 100000 in
theorem lw_X3_skipBlanks_0 {p : Program} (l : Launch) {e : Env} {s : State} {m : MethodId} {below : List Frame} {meth : Method} {c : Code} {Q : State → Prop} (E : EE) (K : Nat) {a_ a_tape a_rules a_places a_steps a_tape_bytes : Nat} {c_siteCount : Int32} {c_stepCount : Int32} {c_seenRules : Int32} {c_wordStart : Int32} {c_number : Int32} {c_failed : Int32} {c_tape_length : Int32} {c_tape_bytes : Nat → Int32} (hx : p.tables.exec = Jvm.exec) (hb : c.code = cX3_skipBlanks) (hml : c.maxLocals = 1) (hown : s.vm.findClass RX3 = some m.cls) (hts : ∀ w ∈ v_f_X3_skipBlanks, w.before #[Value.ref a_] s = true) (hK : va_K E.1 vwCl (TY E) s) (hN : NX s) {A : Nat → Prop} (hA : ∀ q : Nat, s.heap.size ≤ q → A q) (j9 : Nat) (c_at : Int32) (c_at' : Int32) (hL : lpF (fun u9 : Int32 => B_X3_skipBlanks_0 c_tape_length c_tape_bytes u9) j9 c_at = some c_at') (hX : (∀ (H : Heap) (locs : List Loc) (ls : Array Slot), va_P E.1 vwCl (w_X3_skipBlanks E a_ a_tape a_rules a_places a_steps a_tape_bytes c_siteCount c_stepCount c_seenRules c_at' c_wordStart c_number c_failed c_tape_length c_tape_bytes) H → va_D A (w_X3_skipBlanks E a_ a_tape a_rules a_places a_steps a_tape_bytes c_siteCount c_stepCount c_seenRules c_at' c_wordStart c_number c_failed c_tape_length c_tape_bytes) → va_S A s.heap H locs → lv_has ls 1 [] → W p l e ({ frames := 1, cells := 0, slots := 0, locals := 21 } : Room) s m #[Value.ref a_] below meth c H locs 0 0 Q (F0 m 43 ls []))) : ∀ (H : Heap) (locs : List Loc) (ls : Array Slot), va_P E.1 vwCl (w_X3_skipBlanks E a_ a_tape a_rules a_places a_steps a_tape_bytes c_siteCount c_stepCount c_seenRules c_at c_wordStart c_number c_failed c_tape_length c_tape_bytes) H → va_D A (w_X3_skipBlanks E a_ a_tape a_rules a_places a_steps a_tape_bytes c_siteCount c_stepCount c_seenRules c_at c_wordStart c_number c_failed c_tape_length c_tape_bytes) → va_S A s.heap H locs → lv_has ls 1 [(0, .ref a_)] → W p l e ({ frames := 1, cells := 0, slots := 0, locals := 21 } : Room) s m #[Value.ref a_] below meth c H locs 0 0 Q (F0 m 0 ls []) := by
  exact lp_rule (P := (fun u9 : Int32 => ∀ (H : Heap) (locs : List Loc) (ls : Array Slot), va_P E.1 vwCl (w_X3_skipBlanks E a_ a_tape a_rules a_places a_steps a_tape_bytes c_siteCount c_stepCount c_seenRules u9 c_wordStart c_number c_failed c_tape_length c_tape_bytes) H → va_D A (w_X3_skipBlanks E a_ a_tape a_rules a_places a_steps a_tape_bytes c_siteCount c_stepCount c_seenRules u9 c_wordStart c_number c_failed c_tape_length c_tape_bytes) → va_S A s.heap H locs → lv_has ls 1 [(0, .ref a_)] → W p l e ({ frames := 1, cells := 0, slots := 0, locals := 21 } : Room) s m #[Value.ref a_] below meth c H locs 0 0 Q (F0 m 0 ls []))) (R := (fun r9 : Int32 => (∀ (H : Heap) (locs : List Loc) (ls : Array Slot), va_P E.1 vwCl (w_X3_skipBlanks E a_ a_tape a_rules a_places a_steps a_tape_bytes c_siteCount c_stepCount c_seenRules r9 c_wordStart c_number c_failed c_tape_length c_tape_bytes) H → va_D A (w_X3_skipBlanks E a_ a_tape a_rules a_places a_steps a_tape_bytes c_siteCount c_stepCount c_seenRules r9 c_wordStart c_number c_failed c_tape_length c_tape_bytes) → va_S A s.heap H locs → lv_has ls 1 [] → W p l e ({ frames := 1, cells := 0, slots := 0, locals := 21 } : Room) s m #[Value.ref a_] below meth c H locs 0 0 Q (F0 m 43 ls [])))) (fun u9 xx hF hC hE => wb_X3_skipBlanks_0 l E K (c_siteCount := c_siteCount) (c_stepCount := c_stepCount) (c_seenRules := c_seenRules) (c_wordStart := c_wordStart) (c_number := c_number) (c_failed := c_failed) (c_tape_length := c_tape_length) (c_tape_bytes := c_tape_bytes) (c_at := u9) hx hb hml hown hts hK hN hA (fun c_at q9 => hC _ q9) (fun c_at q9 => hE _ q9) hF) j9 c_at c_at' hL hX

set_option maxHeartbeats 4000000 in
set_option maxRecDepth 100000 in
theorem f_X3_skipBlanks (l : Launch) (E : EE) (sz : Nat) (K : Nat) {a_ a_tape a_rules a_places a_steps a_tape_bytes : Nat} {c_siteCount : Int32} {c_stepCount : Int32} {c_seenRules : Int32} {c_at : Int32} {c_wordStart : Int32} {c_number : Int32} {c_failed : Int32} {c_tape_length : Int32} {c_tape_bytes : Nat → Int32} {n_at : Int32} (hF : F_X3_skipBlanks K c_tape_bytes c_tape_length c_at = some n_at) : Met l yX3_skipBlanks v_f_X3_skipBlanks (({ frames := 1, cells := 0, slots := 0, locals := 21 } : Room)) (va_Pc [.ref a_] (pW E sz (w_X3_skipBlanks E a_ a_tape a_rules a_places a_steps a_tape_bytes c_siteCount c_stepCount c_seenRules c_at c_wordStart c_number c_failed c_tape_length c_tape_bytes))) (va_Qv (fun (_u : Unit) => True) (fun (_u : Unit) tt => va_P E.1 vwCl (w_X3_skipBlanks E a_ a_tape a_rules a_places a_steps a_tape_bytes c_siteCount c_stepCount c_seenRules n_at c_wordStart c_number c_failed c_tape_length c_tape_bytes) tt.heap ∧ va_D (va_A (w_X3_skipBlanks E a_ a_tape a_rules a_places a_steps a_tape_bytes c_siteCount c_stepCount c_seenRules c_at c_wordStart c_number c_failed c_tape_length c_tape_bytes) sz) (w_X3_skipBlanks E a_ a_tape a_rules a_places a_steps a_tape_bytes c_siteCount c_stepCount c_seenRules n_at c_wordStart c_number c_failed c_tape_length c_tape_bytes)) (va_A (w_X3_skipBlanks E a_ a_tape a_rules a_places a_steps a_tape_bytes c_siteCount c_stepCount c_seenRules c_at c_wordStart c_number c_failed c_tape_length c_tape_bytes) sz)) 0 0 (va_A (w_X3_skipBlanks E a_ a_tape a_rules a_places a_steps a_tape_bytes c_siteCount c_stepCount c_seenRules c_at c_wordStart c_number c_failed c_tape_length c_tape_bytes) sz) := by
  refine Met.ofW (cc := cX3_skipBlanks) (maxL := 1) (ret := none) (by decide) rfl ?_
  intro p e s m args below meth c s₁ B hml hv
  obtain ⟨rfl, hsz, ⟨hK, hN⟩, hP, hD0⟩ := hv
  have hx := B.exec
  have hb := B.bytes
  have hr := B.returns
  have hts := atoms_spec (ws := v_f_X3_skipBlanks) B.pre
  have hown : s.vm.findClass RX3 = some m.cls := own_of hd_X3_skipBlanks.1 (findClass_of_methodNamed B.named)
  have hlocks : meth.locks = false := B.notSynchronized
  subst hsz
  have hD := hD0.self (sz := s.heap.size)
  generalize hAe : va_A (w_X3_skipBlanks E a_ a_tape a_rules a_places a_steps a_tape_bytes c_siteCount c_stepCount c_seenRules c_at c_wordStart c_number c_failed c_tape_length c_tape_bytes) s.heap.size = A at hD ⊢
  have hA : ∀ q : Nat, s.heap.size ≤ q → A q := fun q h => by rw [← hAe]; exact Or.inr h
  have hS : va_S A s.heap s.heap [] := va_S.rf
  have hl := lv_entry ([.ref a_]) (n := 1) (Nat.le_of_ble_eq_true rfl)
  rw [lg_entry_eq]
  generalize (lg_sl ([.ref a_]) ++ List.replicate (1 - (lg_sl ([.ref a_])).length) Slot.unset).toArray = ls at hl ⊢
  have hl : lv_has ls 1 [(0, .ref a_)] := hl
  obtain ⟨Q, hQ⟩ : ∃ Q : State → Prop, Q = MQ below (va_Qv (fun (_u : Unit) => True) (fun (_u : Unit) tt => va_P E.1 vwCl (w_X3_skipBlanks E a_ a_tape a_rules a_places a_steps a_tape_bytes c_siteCount c_stepCount c_seenRules n_at c_wordStart c_number c_failed c_tape_length c_tape_bytes) tt.heap ∧ va_D A (w_X3_skipBlanks E a_ a_tape a_rules a_places a_steps a_tape_bytes c_siteCount c_stepCount c_seenRules n_at c_wordStart c_number c_failed c_tape_length c_tape_bytes)) A) #[Value.ref a_] s 0 0 A := ⟨_, rfl⟩
  rw [← hQ]
  change W p l e ({ frames := 1, cells := 0, slots := 0, locals := 21 } : Room) s m #[Value.ref a_] below meth c s.heap [] 0 0 Q (F0 m 0 ls [])
  suffices hh9 : ∀ (H : Heap) (locs : List Loc), va_P E.1 vwCl (w_X3_skipBlanks E a_ a_tape a_rules a_places a_steps a_tape_bytes c_siteCount c_stepCount c_seenRules c_at c_wordStart c_number c_failed c_tape_length c_tape_bytes) H → va_D A (w_X3_skipBlanks E a_ a_tape a_rules a_places a_steps a_tape_bytes c_siteCount c_stepCount c_seenRules c_at c_wordStart c_number c_failed c_tape_length c_tape_bytes) → va_S A s.heap H locs → W p l e ({ frames := 1, cells := 0, slots := 0, locals := 21 } : Room) s m #[Value.ref a_] below meth c H locs 0 0 Q (F0 m 0 ls []) from hh9 s.heap [] hP hD hS
  clear hP hD hS
  intro H locs hP hD hS
  have h9 := fixPD (ws' := [k_X3 a_ a_tape a_rules a_places a_steps c_siteCount c_stepCount c_seenRules c_at c_wordStart c_number c_failed, k_X6 a_tape a_tape_bytes c_tape_length, k_B E a_tape_bytes 320 c_tape_bytes]) hP hD rfl
  clear hP hD
  obtain ⟨hP, hD⟩ := h9
  unfold F_X3_skipBlanks at hF
  replace hF := bd1_s hF
  obtain ⟨c_at_5, hL_6, hF⟩ := hF
  refine lw_X3_skipBlanks_0 l E K (c_siteCount := c_siteCount) (c_stepCount := c_stepCount) (c_seenRules := c_seenRules) (c_wordStart := c_wordStart) (c_number := c_number) (c_failed := c_failed) (c_tape_length := c_tape_length) (c_tape_bytes := c_tape_bytes) hx hb hml hown hts hK hN hA K c_at c_at_5 hL_6 ?_ H locs ls (hP.sub [0, 1, 2] rfl) (hD.sub [0, 1, 2] (by decide) rfl) hS (lv_sub hl [0] rfl)
  ·
    intro H locs ls hP hD hS hl
    have h9 := fixPD (ws' := [k_X3 a_ a_tape a_rules a_places a_steps c_siteCount c_stepCount c_seenRules c_at_5 c_wordStart c_number c_failed, k_X6 a_tape a_tape_bytes c_tape_length, k_B E a_tape_bytes 320 c_tape_bytes]) hP hD rfl
    clear hP hD
    obtain ⟨hP, hD⟩ := h9
    rw [hQ]
    have h9 := fin9 (P := fun u9 : Int32 => va_P E.1 vwCl (w_X3_skipBlanks E a_ a_tape a_rules a_places a_steps a_tape_bytes c_siteCount c_stepCount c_seenRules u9 c_wordStart c_number c_failed c_tape_length c_tape_bytes) H ∧ va_D A (w_X3_skipBlanks E a_ a_tape a_rules a_places a_steps a_tape_bytes c_siteCount c_stepCount c_seenRules u9 c_wordStart c_number c_failed c_tape_length c_tape_bytes)) hF ⟨hP, hD⟩
    obtain ⟨hP9, hD9⟩ := h9
    exact W.vret hx hb hr (fun tt ht hW => ⟨⟨(), rfl, trivial, ht ▸ hP9, hD9⟩, hS.F ht⟩) hS.2.2 (dq_177 0 bcX3_skipBlanks_0 (j := 43) rfl rfl)

def F_X3_isAtEnd (K : Nat) (c_tape_bytes : Nat → Int32) (c_tape_length : Int32) (c_at : Int32) : Option (Int32 × Int32) :=
  bd1 (F_X3_skipBlanks K c_tape_bytes c_tape_length c_at) (fun w_1 => if w_1 < c_tape_length then some ((0 : Int32), w_1) else some ((1 : Int32), w_1))
abbrev w_X3_isAtEnd (E : EE) (a_ a_tape a_rules a_places a_steps a_tape_bytes : Nat) (c_siteCount : Int32) (c_stepCount : Int32) (c_seenRules : Int32) (c_at : Int32) (c_wordStart : Int32) (c_number : Int32) (c_failed : Int32) (c_tape_length : Int32) (c_tape_bytes : Nat → Int32) : va_W := [k_X3 a_ a_tape a_rules a_places a_steps c_siteCount c_stepCount c_seenRules c_at c_wordStart c_number c_failed, k_X6 a_tape a_tape_bytes c_tape_length, k_B E a_tape_bytes 320 c_tape_bytes]
def v_f_X3_isAtEnd : List Cond := List.cons (.code yX3_isAtEnd cX3_isAtEnd 1 (some .boolean)) (HAppend.hAppend (α := List Cond) (β := List Cond) (γ := List Cond) [.fieldLink RX3 31 "HushWatch$Reader" "at" "I", .fieldLink RX3 43 "HushWatch$Reader" "tape" "LHushWatch$Tape;", .methodLink RX3 140 yX3_skipBlanks, .instanceMethod yX3_skipBlanks, .selects RX3 yX3_skipBlanks yX3_skipBlanks, .initialized RX3] (HAppend.hAppend (α := List Cond) (β := List Cond) (γ := List Cond) v_f_X3_skipBlanks (HAppend.hAppend (α := List Cond) (β := List Cond) (γ := List Cond) wsX30 (HAppend.hAppend (α := List Cond) (β := List Cond) (γ := List Cond) wsX60 []))))
theorem gw_f_X3_isAtEnd : v_f_X3_isAtEnd.all goodWord = true := gw_c2 (by decide +kernel) (gw_ap gw_f_X3_skipBlanks (gw_ap gw_wsX30 (gw_ap gw_wsX60 gw_nil)))
theorem i_f_X3_isAtEnd_X3 : ∀ w ∈ wsX30, w ∈ v_f_X3_isAtEnd := fun _ h => List.mem_cons_of_mem _ (List.mem_append_right _ (List.mem_append_right _ (List.mem_append_left _ h)))
theorem i_f_X3_isAtEnd_X6 : ∀ w ∈ wsX60, w ∈ v_f_X3_isAtEnd := fun _ h => List.mem_cons_of_mem _ (List.mem_append_right _ (List.mem_append_right _ (List.mem_append_right _ (List.mem_append_left _ h))))
theorem g_f_X3_isAtEnd_f_X3_skipBlanks_140 : GoodIn v_f_X3_isAtEnd (wsV RX3 140 RX3 yX3_skipBlanks v_f_X3_skipBlanks) := goodIn_in gw_f_X3_isAtEnd (in4 3 4 5 6 rfl rfl rfl rfl (fun _ h => List.mem_cons_of_mem _ (List.mem_append_right _ (List.mem_append_left _ h))))
theorem hd_X3_isAtEnd : yX3_isAtEnd.cls = RX3 ∧ yX3_isAtEnd.cls ≠ "java/lang/invoke/MethodHandle" ∧ yX3_isAtEnd.cls ≠ "java/lang/invoke/VarHandle" ∧ (parseMethodDescriptor yX3_isAtEnd.desc).map (fun d => d.parameters.length) = some 0 := by decide +kernel
set_option maxHeartbeats 4000000 in
set_option maxRecDepth 100000 in
theorem f_X3_isAtEnd (l : Launch) (E : EE) (sz : Nat) (K : Nat) {a_ a_tape a_rules a_places a_steps a_tape_bytes : Nat} {c_siteCount : Int32} {c_stepCount : Int32} {c_seenRules : Int32} {c_at : Int32} {c_wordStart : Int32} {c_number : Int32} {c_failed : Int32} {c_tape_length : Int32} {c_tape_bytes : Nat → Int32} {rr : Int32} {n_at : Int32} (hF : F_X3_isAtEnd K c_tape_bytes c_tape_length c_at = some (rr, n_at)) : Met l yX3_isAtEnd v_f_X3_isAtEnd (({ frames := 2, cells := 0, slots := 0, locals := 41 } : Room)) (va_Pc [.ref a_] (pW E sz (w_X3_isAtEnd E a_ a_tape a_rules a_places a_steps a_tape_bytes c_siteCount c_stepCount c_seenRules c_at c_wordStart c_number c_failed c_tape_length c_tape_bytes))) (va_Qi (fun (q : Int32) (_u : Unit) => q = rr ∧ (q = 0 ∨ q = 1)) (fun (_u : Unit) tt => va_P E.1 vwCl (w_X3_isAtEnd E a_ a_tape a_rules a_places a_steps a_tape_bytes c_siteCount c_stepCount c_seenRules n_at c_wordStart c_number c_failed c_tape_length c_tape_bytes) tt.heap ∧ va_D (va_A (w_X3_isAtEnd E a_ a_tape a_rules a_places a_steps a_tape_bytes c_siteCount c_stepCount c_seenRules c_at c_wordStart c_number c_failed c_tape_length c_tape_bytes) sz) (w_X3_isAtEnd E a_ a_tape a_rules a_places a_steps a_tape_bytes c_siteCount c_stepCount c_seenRules n_at c_wordStart c_number c_failed c_tape_length c_tape_bytes)) (va_A (w_X3_isAtEnd E a_ a_tape a_rules a_places a_steps a_tape_bytes c_siteCount c_stepCount c_seenRules c_at c_wordStart c_number c_failed c_tape_length c_tape_bytes) sz)) 0 0 (va_A (w_X3_isAtEnd E a_ a_tape a_rules a_places a_steps a_tape_bytes c_siteCount c_stepCount c_seenRules c_at c_wordStart c_number c_failed c_tape_length c_tape_bytes) sz) := by
  refine Met.ofW (cc := cX3_isAtEnd) (maxL := 1) (ret := (some .boolean)) (by decide) rfl ?_
  intro p e s m args below meth c s₁ B hml hv
  obtain ⟨rfl, hsz, ⟨hK, hN⟩, hP, hD0⟩ := hv
  have hx := B.exec
  have hb := B.bytes
  have hr := B.returns
  have hts := atoms_spec (ws := v_f_X3_isAtEnd) B.pre
  have hown : s.vm.findClass RX3 = some m.cls := own_of hd_X3_isAtEnd.1 (findClass_of_methodNamed B.named)
  have hlocks : meth.locks = false := B.notSynchronized
  subst hsz
  have hD := hD0.self (sz := s.heap.size)
  generalize hAe : va_A (w_X3_isAtEnd E a_ a_tape a_rules a_places a_steps a_tape_bytes c_siteCount c_stepCount c_seenRules c_at c_wordStart c_number c_failed c_tape_length c_tape_bytes) s.heap.size = A at hD ⊢
  have hA : ∀ q : Nat, s.heap.size ≤ q → A q := fun q h => by rw [← hAe]; exact Or.inr h
  have hS : va_S A s.heap s.heap [] := va_S.rf
  have hl := lv_entry ([.ref a_]) (n := 1) (Nat.le_of_ble_eq_true rfl)
  rw [lg_entry_eq]
  generalize (lg_sl ([.ref a_]) ++ List.replicate (1 - (lg_sl ([.ref a_])).length) Slot.unset).toArray = ls at hl ⊢
  have hl : lv_has ls 1 [(0, .ref a_)] := hl
  obtain ⟨Q, hQ⟩ : ∃ Q : State → Prop, Q = MQ below (va_Qi (fun (q : Int32) (_u : Unit) => q = rr ∧ (q = 0 ∨ q = 1)) (fun (_u : Unit) tt => va_P E.1 vwCl (w_X3_isAtEnd E a_ a_tape a_rules a_places a_steps a_tape_bytes c_siteCount c_stepCount c_seenRules n_at c_wordStart c_number c_failed c_tape_length c_tape_bytes) tt.heap ∧ va_D A (w_X3_isAtEnd E a_ a_tape a_rules a_places a_steps a_tape_bytes c_siteCount c_stepCount c_seenRules n_at c_wordStart c_number c_failed c_tape_length c_tape_bytes)) A) #[Value.ref a_] s 0 0 A := ⟨_, rfl⟩
  rw [← hQ]
  change W p l e ({ frames := 2, cells := 0, slots := 0, locals := 41 } : Room) s m #[Value.ref a_] below meth c s.heap [] 0 0 Q (F0 m 0 ls [])
  suffices hh9 : ∀ (H : Heap) (locs : List Loc), va_P E.1 vwCl (w_X3_isAtEnd E a_ a_tape a_rules a_places a_steps a_tape_bytes c_siteCount c_stepCount c_seenRules c_at c_wordStart c_number c_failed c_tape_length c_tape_bytes) H → va_D A (w_X3_isAtEnd E a_ a_tape a_rules a_places a_steps a_tape_bytes c_siteCount c_stepCount c_seenRules c_at c_wordStart c_number c_failed c_tape_length c_tape_bytes) → va_S A s.heap H locs → W p l e ({ frames := 2, cells := 0, slots := 0, locals := 41 } : Room) s m #[Value.ref a_] below meth c H locs 0 0 Q (F0 m 0 ls []) from hh9 s.heap [] hP hD hS
  clear hP hD hS
  intro H locs hP hD hS
  have h9 := fixPD (ws' := [k_X3 a_ a_tape a_rules a_places a_steps c_siteCount c_stepCount c_seenRules c_at c_wordStart c_number c_failed, k_X6 a_tape a_tape_bytes c_tape_length, k_B E a_tape_bytes 320 c_tape_bytes]) hP hD rfl
  clear hP hD
  obtain ⟨hP, hD⟩ := h9
  unfold F_X3_isAtEnd at hF
  refine lv_aload_n hx hb (dq_42 0 bcX3_isAtEnd_0 (j := 0) rfl rfl) rfl (lv_at hl 0 rfl) ?_
  replace hF := bd1_s hF
  obtain ⟨w_1, hc_2, hF⟩ := hF
  obtain ⟨hPc, hDc, hFc⟩ := wcut (wc := (w_X3_skipBlanks E a_ a_tape a_rules a_places a_steps a_tape_bytes c_siteCount c_stepCount c_seenRules c_at c_wordStart c_number c_failed c_tape_length c_tape_bytes)) hP hD hS hA [0, 1, 2] (by decide) rfl
  have hrc := va_recv hK hPc (ci := 4) (q0 := 0) rfl rfl
  refine cE_v (wc := (w_X3_skipBlanks E a_ a_tape a_rules a_places a_steps a_tape_bytes c_siteCount c_stepCount c_seenRules c_at c_wordStart c_number c_failed c_tape_length c_tape_bytes)) (wr := []) (w1 := (w_X3_skipBlanks E a_ a_tape a_rules a_places a_steps a_tape_bytes c_siteCount c_stepCount c_seenRules w_1 c_wordStart c_number c_failed c_tape_length c_tape_bytes)) (va_runV (As := []) (rest := [])  ⟨hx, hb, hml, hown, hts⟩ (f_X3_skipBlanks l E H.size K (a_ := a_) (a_tape := a_tape) (a_rules := a_rules) (a_places := a_places) (a_steps := a_steps) (a_tape_bytes := a_tape_bytes) (c_siteCount := c_siteCount) (c_stepCount := c_stepCount) (c_seenRules := c_seenRules) (c_at := c_at) (c_wordStart := c_wordStart) (c_number := c_number) (c_failed := c_failed) (c_tape_length := c_tape_length) (c_tape_bytes := c_tape_bytes) hc_2) (cwV 0 hts g_f_X3_isAtEnd_f_X3_skipBlanks_140 rfl rfl rfl hd_X3_skipBlanks ⟨Nat.le_of_ble_eq_true rfl, Nat.le_of_ble_eq_true rfl⟩) ⟨pW.blind, hrc, (pW.pre ⟨hK, hN⟩ hPc hDc)⟩ rfl rfl hl.1 rfl (lv_room (Nat.le_of_ble_eq_true rfl)) (dq_182 0 bcX3_isAtEnd_0 (j := 1) (i := 140) rfl rfl rfl) ⟨Nat.le_of_ble_eq_true rfl, Nat.le_of_ble_eq_true rfl⟩) hS hFc hP hD [0, 1, 2] [] rfl rfl (by decide) (by decide) (fun H locs hP hD hS => ?_)
  have h9 := fixPD (ws' := [k_X3 a_ a_tape a_rules a_places a_steps c_siteCount c_stepCount c_seenRules w_1 c_wordStart c_number c_failed, k_X6 a_tape a_tape_bytes c_tape_length, k_B E a_tape_bytes 320 c_tape_bytes]) hP hD rfl
  clear hP hD
  obtain ⟨hP, hD⟩ := h9
  refine lv_aload_n hx hb (dq_42 0 bcX3_isAtEnd_0 (j := 4) rfl rfl) rfl (lv_at hl 0 rfl) ?_
  refine gt_X3_7 (v := .int w_1) hx hb hts i_f_X3_isAtEnd_X3 hown hK hP 0 rfl (hts (.fieldLink RX3 31 "HushWatch$Reader" "at" "I") (List.mem_of_getElem? (i := 1) rfl)) rfl (dq_180 0 bcX3_isAtEnd_0 (j := 5) (i := 31) rfl rfl rfl) ?_
  refine lv_aload_n hx hb (dq_42 0 bcX3_isAtEnd_0 (j := 8) rfl rfl) rfl (lv_at hl 0 rfl) ?_
  refine gt_X3_0 (v := .ref a_tape) hx hb hts i_f_X3_isAtEnd_X3 hown hK hP 0 rfl (hts (.fieldLink RX3 43 "HushWatch$Reader" "tape" "LHushWatch$Tape;") (List.mem_of_getElem? (i := 2) rfl)) rfl (dq_180 0 bcX3_isAtEnd_0 (j := 9) (i := 43) rfl rfl rfl) ?_
  refine va_getN (D := E.1) (ci := 7) (v := .int c_tape_length) (C := RX6) (T := TX6) (N := 2) hx hb hts i_f_X3_isAtEnd_X6 hown hK hP 1 rfl rfl 1 (by decide) (nx hN 2 rfl) (fun _ h9 => h9) rfl (dq_180 0 bcX3_isAtEnd_0 (j := 12) (i := 59) rfl rfl rfl) ?_
  refine lv_icmp_lt (tgt := 22) hx hb (dq_161 0 bcX3_isAtEnd_0 (j := 15) (i := 7) rfl rfl rfl) (by decide) (fun c_3 => ?_) (fun c_3 => ?_)
  ·
    replace hF := ip c_3 hF
    refine lv_iconst (v := 0) hx hb (dq_3 0 bcX3_isAtEnd_0 (j := 22) rfl rfl) (by decide) ?_
    rw [hQ]
    have h9 := fin9 (P := fun u9 : Int32 × Int32 => (0 : Int32) = u9.1 ∧ va_P E.1 vwCl (w_X3_isAtEnd E a_ a_tape a_rules a_places a_steps a_tape_bytes c_siteCount c_stepCount c_seenRules u9.2 c_wordStart c_number c_failed c_tape_length c_tape_bytes) H ∧ va_D A (w_X3_isAtEnd E a_ a_tape a_rules a_places a_steps a_tape_bytes c_siteCount c_stepCount c_seenRules u9.2 c_wordStart c_number c_failed c_tape_length c_tape_bytes)) hF ⟨rfl, hP, hD⟩
    obtain ⟨e9_0, hP9, hD9⟩ := h9
    exact W.zret (v := (0 : Int32)) hx hb hr rfl (fun tt ht hW => ⟨⟨_, (), rfl, ⟨e9_0, Or.inl rfl⟩, ht ▸ hP9, hD9⟩, hS.F ht⟩) hS.2.2 (dq_172 0 bcX3_isAtEnd_0 (j := 23) rfl rfl)
  ·
    replace hF := inn c_3 hF
    refine lv_iconst (v := 1) hx hb (dq_4 0 bcX3_isAtEnd_0 (j := 18) rfl rfl) (by decide) ?_
    refine lv_goto (tgt := 23) hx hb (dq_167 0 bcX3_isAtEnd_0 (j := 19) (i := 4) rfl rfl rfl) (by decide) ?_
    rw [hQ]
    have h9 := fin9 (P := fun u9 : Int32 × Int32 => (1 : Int32) = u9.1 ∧ va_P E.1 vwCl (w_X3_isAtEnd E a_ a_tape a_rules a_places a_steps a_tape_bytes c_siteCount c_stepCount c_seenRules u9.2 c_wordStart c_number c_failed c_tape_length c_tape_bytes) H ∧ va_D A (w_X3_isAtEnd E a_ a_tape a_rules a_places a_steps a_tape_bytes c_siteCount c_stepCount c_seenRules u9.2 c_wordStart c_number c_failed c_tape_length c_tape_bytes)) hF ⟨rfl, hP, hD⟩
    obtain ⟨e9_0, hP9, hD9⟩ := h9
    exact W.zret (v := (1 : Int32)) hx hb hr rfl (fun tt ht hW => ⟨⟨_, (), rfl, ⟨e9_0, Or.inr rfl⟩, ht ▸ hP9, hD9⟩, hS.F ht⟩) hS.2.2 (dq_172 0 bcX3_isAtEnd_0 (j := 23) rfl rfl)

def F_X3_isDigit (p0 : Int32) : Option (Int32) :=
  if p0 < (48 : Int32) then some (0 : Int32) else if (57 : Int32) < p0 then some (0 : Int32) else some (1 : Int32)

def v_f_X3_isDigit : List Cond := List.cons (.code yX3_isDigit cX3_isDigit 1 (some .boolean)) (HAppend.hAppend (α := List Cond) (β := List Cond) (γ := List Cond) [] [])
theorem gw_f_X3_isDigit : v_f_X3_isDigit.all goodWord = true := gw_c2 (by decide +kernel) gw_nil
theorem hd_X3_isDigit : yX3_isDigit.cls = RX3 ∧ yX3_isDigit.cls ≠ "java/lang/invoke/MethodHandle" ∧ yX3_isDigit.cls ≠ "java/lang/invoke/VarHandle" ∧ (parseMethodDescriptor yX3_isDigit.desc).map (fun d => d.parameters.length) = some 1 := by decide +kernel
set_option maxHeartbeats 4000000 in
set_option maxRecDepth 100000 in
theorem f_X3_isDigit (l : Launch) (E : EE) {p0 : Int32} {rr : Int32} (hF : F_X3_isDigit p0 = some rr) : Met l yX3_isDigit v_f_X3_isDigit (({ frames := 0, cells := 0, slots := 0, locals := 0 } : Room)) (va_Pc [.int p0] (pP E [])) (vp_Si (fun q : Int32 => q = rr ∧ (q = 0 ∨ q = 1))) 0 0 (fun _ => False) := by
  refine Met.ofW (cc := cX3_isDigit) (maxL := 1) (ret := (some .boolean)) (by decide) rfl ?_
  intro p e s m args below meth c s₁ B hml hv
  obtain ⟨rfl, ⟨hK, hN⟩, hP⟩ := hv
  have hx := B.exec
  have hb := B.bytes
  have hr := B.returns
  have hts := atoms_spec (ws := v_f_X3_isDigit) B.pre
  have hown : s.vm.findClass RX3 = some m.cls := own_of hd_X3_isDigit.1 (findClass_of_methodNamed B.named)
  have hlocks : meth.locks = false := B.notSynchronized
  replace hP : va_P E.1 vwCl [] s.heap := hP
  have hl := lv_entry ([.int p0]) (n := 1) (Nat.le_of_ble_eq_true rfl)
  rw [lg_entry_eq]
  generalize (lg_sl ([.int p0]) ++ List.replicate (1 - (lg_sl ([.int p0])).length) Slot.unset).toArray = ls at hl ⊢
  have hl : lv_has ls 1 [(0, .int p0)] := hl
  obtain ⟨Q, hQ⟩ : ∃ Q : State → Prop, Q = MQ below (vp_Si (fun q : Int32 => q = rr ∧ (q = 0 ∨ q = 1))) #[Value.int p0] s 0 0 (fun _ => False) := ⟨_, rfl⟩
  rw [← hQ]
  change W p l e ({ frames := 0, cells := 0, slots := 0, locals := 0 } : Room) s m #[Value.int p0] below meth c s.heap [] 0 0 Q (F0 m 0 ls [])
  unfold F_X3_isDigit at hF
  refine lv_iload_n hx hb (dq_26 0 bcX3_isDigit_0 (j := 0) rfl rfl) rfl (lv_at hl 0 rfl) ?_
  refine lv_bipush (v := 48) hx hb (dq_16 0 bcX3_isDigit_0 (j := 1) (i := 48) rfl rfl rfl) (by decide) ?_
  refine lv_icmp_lt (tgt := 16) hx hb (dq_161 0 bcX3_isDigit_0 (j := 3) (i := 13) rfl rfl rfl) (by decide) (fun c_1 => ?_) (fun c_1 => ?_)
  ·
    replace hF := ip c_1 hF
    refine lv_iconst (v := 0) hx hb (dq_3 0 bcX3_isDigit_0 (j := 16) rfl rfl) (by decide) ?_
    rw [hQ]
    obtain e9_0 := inj1 hF
    exact W.zret (v := (0 : Int32)) hx hb hr rfl (fun tt ht hW => ⟨_, rfl, ⟨e9_0, Or.inl rfl⟩, ht⟩) (fun _ h => by cases h) (dq_172 0 bcX3_isDigit_0 (j := 17) rfl rfl)
  ·
    replace hF := inn c_1 hF
    refine lv_iload_n hx hb (dq_26 0 bcX3_isDigit_0 (j := 6) rfl rfl) rfl (lv_at hl 0 rfl) ?_
    refine lv_bipush (v := 57) hx hb (dq_16 0 bcX3_isDigit_0 (j := 7) (i := 57) rfl rfl rfl) (by decide) ?_
    refine lv_icmp_gt (tgt := 16) hx hb (dq_163 0 bcX3_isDigit_0 (j := 9) (i := 7) rfl rfl rfl) (by decide) (fun c_2 => ?_) (fun c_2 => ?_)
    ·
      replace hF := ip c_2 hF
      refine lv_iconst (v := 0) hx hb (dq_3 0 bcX3_isDigit_0 (j := 16) rfl rfl) (by decide) ?_
      rw [hQ]
      obtain e9_0 := inj1 hF
      exact W.zret (v := (0 : Int32)) hx hb hr rfl (fun tt ht hW => ⟨_, rfl, ⟨e9_0, Or.inl rfl⟩, ht⟩) (fun _ h => by cases h) (dq_172 0 bcX3_isDigit_0 (j := 17) rfl rfl)
    ·
      replace hF := inn c_2 hF
      refine lv_iconst (v := 1) hx hb (dq_4 0 bcX3_isDigit_0 (j := 12) rfl rfl) (by decide) ?_
      refine lv_goto (tgt := 17) hx hb (dq_167 0 bcX3_isDigit_0 (j := 13) (i := 4) rfl rfl rfl) (by decide) ?_
      rw [hQ]
      obtain e9_0 := inj1 hF
      exact W.zret (v := (1 : Int32)) hx hb hr rfl (fun tt ht hW => ⟨_, rfl, ⟨e9_0, Or.inr rfl⟩, ht⟩) (fun _ h => by cases h) (dq_172 0 bcX3_isDigit_0 (j := 17) rfl rfl)

def F_X3_isLetter (p0 : Int32) : Option (Int32) :=
  if p0 < (97 : Int32) then some (0 : Int32) else if (122 : Int32) < p0 then some (0 : Int32) else some (1 : Int32)

def v_f_X3_isLetter : List Cond := List.cons (.code yX3_isLetter cX3_isLetter 1 (some .boolean)) (HAppend.hAppend (α := List Cond) (β := List Cond) (γ := List Cond) [] [])
theorem gw_f_X3_isLetter : v_f_X3_isLetter.all goodWord = true := gw_c2 (by decide +kernel) gw_nil
theorem hd_X3_isLetter : yX3_isLetter.cls = RX3 ∧ yX3_isLetter.cls ≠ "java/lang/invoke/MethodHandle" ∧ yX3_isLetter.cls ≠ "java/lang/invoke/VarHandle" ∧ (parseMethodDescriptor yX3_isLetter.desc).map (fun d => d.parameters.length) = some 1 := by decide +kernel
set_option maxHeartbeats 4000000 in
set_option maxRecDepth 100000 in
theorem f_X3_isLetter (l : Launch) (E : EE) {p0 : Int32} {rr : Int32} (hF : F_X3_isLetter p0 = some rr) : Met l yX3_isLetter v_f_X3_isLetter (({ frames := 0, cells := 0, slots := 0, locals := 0 } : Room)) (va_Pc [.int p0] (pP E [])) (vp_Si (fun q : Int32 => q = rr ∧ (q = 0 ∨ q = 1))) 0 0 (fun _ => False) := by
  refine Met.ofW (cc := cX3_isLetter) (maxL := 1) (ret := (some .boolean)) (by decide) rfl ?_
  intro p e s m args below meth c s₁ B hml hv
  obtain ⟨rfl, ⟨hK, hN⟩, hP⟩ := hv
  have hx := B.exec
  have hb := B.bytes
  have hr := B.returns
  have hts := atoms_spec (ws := v_f_X3_isLetter) B.pre
  have hown : s.vm.findClass RX3 = some m.cls := own_of hd_X3_isLetter.1 (findClass_of_methodNamed B.named)
  have hlocks : meth.locks = false := B.notSynchronized
  replace hP : va_P E.1 vwCl [] s.heap := hP
  have hl := lv_entry ([.int p0]) (n := 1) (Nat.le_of_ble_eq_true rfl)
  rw [lg_entry_eq]
  generalize (lg_sl ([.int p0]) ++ List.replicate (1 - (lg_sl ([.int p0])).length) Slot.unset).toArray = ls at hl ⊢
  have hl : lv_has ls 1 [(0, .int p0)] := hl
  obtain ⟨Q, hQ⟩ : ∃ Q : State → Prop, Q = MQ below (vp_Si (fun q : Int32 => q = rr ∧ (q = 0 ∨ q = 1))) #[Value.int p0] s 0 0 (fun _ => False) := ⟨_, rfl⟩
  rw [← hQ]
  change W p l e ({ frames := 0, cells := 0, slots := 0, locals := 0 } : Room) s m #[Value.int p0] below meth c s.heap [] 0 0 Q (F0 m 0 ls [])
  unfold F_X3_isLetter at hF
  refine lv_iload_n hx hb (dq_26 0 bcX3_isLetter_0 (j := 0) rfl rfl) rfl (lv_at hl 0 rfl) ?_
  refine lv_bipush (v := 97) hx hb (dq_16 0 bcX3_isLetter_0 (j := 1) (i := 97) rfl rfl rfl) (by decide) ?_
  refine lv_icmp_lt (tgt := 16) hx hb (dq_161 0 bcX3_isLetter_0 (j := 3) (i := 13) rfl rfl rfl) (by decide) (fun c_1 => ?_) (fun c_1 => ?_)
  ·
    replace hF := ip c_1 hF
    refine lv_iconst (v := 0) hx hb (dq_3 0 bcX3_isLetter_0 (j := 16) rfl rfl) (by decide) ?_
    rw [hQ]
    obtain e9_0 := inj1 hF
    exact W.zret (v := (0 : Int32)) hx hb hr rfl (fun tt ht hW => ⟨_, rfl, ⟨e9_0, Or.inl rfl⟩, ht⟩) (fun _ h => by cases h) (dq_172 0 bcX3_isLetter_0 (j := 17) rfl rfl)
  ·
    replace hF := inn c_1 hF
    refine lv_iload_n hx hb (dq_26 0 bcX3_isLetter_0 (j := 6) rfl rfl) rfl (lv_at hl 0 rfl) ?_
    refine lv_bipush (v := 122) hx hb (dq_16 0 bcX3_isLetter_0 (j := 7) (i := 122) rfl rfl rfl) (by decide) ?_
    refine lv_icmp_gt (tgt := 16) hx hb (dq_163 0 bcX3_isLetter_0 (j := 9) (i := 7) rfl rfl rfl) (by decide) (fun c_2 => ?_) (fun c_2 => ?_)
    ·
      replace hF := ip c_2 hF
      refine lv_iconst (v := 0) hx hb (dq_3 0 bcX3_isLetter_0 (j := 16) rfl rfl) (by decide) ?_
      rw [hQ]
      obtain e9_0 := inj1 hF
      exact W.zret (v := (0 : Int32)) hx hb hr rfl (fun tt ht hW => ⟨_, rfl, ⟨e9_0, Or.inl rfl⟩, ht⟩) (fun _ h => by cases h) (dq_172 0 bcX3_isLetter_0 (j := 17) rfl rfl)
    ·
      replace hF := inn c_2 hF
      refine lv_iconst (v := 1) hx hb (dq_4 0 bcX3_isLetter_0 (j := 12) rfl rfl) (by decide) ?_
      refine lv_goto (tgt := 17) hx hb (dq_167 0 bcX3_isLetter_0 (j := 13) (i := 4) rfl rfl rfl) (by decide) ?_
      rw [hQ]
      obtain e9_0 := inj1 hF
      exact W.zret (v := (1 : Int32)) hx hb hr rfl (fun tt ht hW => ⟨_, rfl, ⟨e9_0, Or.inr rfl⟩, ht⟩) (fun _ h => by cases h) (dq_172 0 bcX3_isLetter_0 (j := 17) rfl rfl)

def B_X3_isWord_20 (p1 : Nat) (c_wordStart : Int32) (c_tape_length : Int32) (c_tape_bytes : Nat → Int32) (x2 : Int32) : Option ((Int32) ⊕ (Nat)) :=
  ltF p1 15 (bd1 (F_J0_length_8abf5 p1) (fun r_5 => if r_5 ≤ x2 then some (.inr 1) else bd1 (F_X6_signAt (c_wordStart + x2) c_tape_bytes c_tape_length) (fun r_9 => ltF p1 15 (bd1 (F_J0_charAt_5068e p1 x2) (fun r_11 => if r_9 = r_11 then some (.inl (x2 + (1 : Int32))) else some (.inr 0))))))
def F_X3_isWord (K : Nat) (p1 : Nat) (c_tape_bytes : Nat → Int32) (c_tape_length : Int32) (c_at : Int32) (c_wordStart : Int32) : Option (Int32) :=
  ltF p1 15 (bd1 (F_J0_length_8abf5 p1) (fun r_1 => if c_at - c_wordStart = r_1 then bd1 (lpF (fun u9 : Int32 => B_X3_isWord_20 p1 c_wordStart c_tape_length c_tape_bytes u9) K (0 : Int32)) (fun t_16 => if t_16 = 0 then some (0 : Int32) else if t_16 = 1 then some (1 : Int32) else none) else some (0 : Int32)))
abbrev w_X3_isWord (E : EE) (a_ a_tape a_rules a_places a_steps a_tape_bytes : Nat) (c_siteCount : Int32) (c_stepCount : Int32) (c_seenRules : Int32) (c_at : Int32) (c_wordStart : Int32) (c_number : Int32) (c_failed : Int32) (c_tape_length : Int32) (c_tape_bytes : Nat → Int32) : va_W := [k_X3 a_ a_tape a_rules a_places a_steps c_siteCount c_stepCount c_seenRules c_at c_wordStart c_number c_failed, k_X6 a_tape a_tape_bytes c_tape_length, k_B E a_tape_bytes 320 c_tape_bytes]
def v_f_X3_isWord : List Cond := List.cons (.code yX3_isWord cX3_isWord 3 (some .boolean)) (HAppend.hAppend (α := List Cond) (β := List Cond) (γ := List Cond) [.fieldLink RX3 31 "HushWatch$Reader" "at" "I", .fieldLink RX3 34 "HushWatch$Reader" "wordStart" "I", .fieldLink RX3 43 "HushWatch$Reader" "tape" "LHushWatch$Tape;", .methodLink RX3 150 yJ0_length_8abf5, .instanceMethod yJ0_length_8abf5, .selects RJ0 yJ0_length_8abf5 yJ0_length_8abf5, .initialized RJ0, .methodLink RX3 143 yX6_signAt, .instanceMethod yX6_signAt, .selects RX6 yX6_signAt yX6_signAt, .initialized RX6, .methodLink RX3 154 yJ0_charAt_5068e, .instanceMethod yJ0_charAt_5068e, .selects RJ0 yJ0_charAt_5068e yJ0_charAt_5068e] (HAppend.hAppend (α := List Cond) (β := List Cond) (γ := List Cond) wsX30 (HAppend.hAppend (α := List Cond) (β := List Cond) (γ := List Cond) v_f_J0_length_8abf5 (HAppend.hAppend (α := List Cond) (β := List Cond) (γ := List Cond) v_f_X6_signAt (HAppend.hAppend (α := List Cond) (β := List Cond) (γ := List Cond) v_f_J0_charAt_5068e [])))))
theorem gw_f_X3_isWord : v_f_X3_isWord.all goodWord = true := gw_c2 (by decide +kernel) (gw_ap gw_wsX30 (gw_ap gw_f_J0_length_8abf5 (gw_ap gw_f_X6_signAt (gw_ap gw_f_J0_charAt_5068e gw_nil))))
theorem i_f_X3_isWord_X3 : ∀ w ∈ wsX30, w ∈ v_f_X3_isWord := fun _ h => List.mem_cons_of_mem _ (List.mem_append_right _ (List.mem_append_left _ h))
theorem g_f_X3_isWord_f_J0_length_8abf5_150 : GoodIn v_f_X3_isWord (wsV RX3 150 RJ0 yJ0_length_8abf5 v_f_J0_length_8abf5) := goodIn_in gw_f_X3_isWord (in4 4 5 6 7 rfl rfl rfl rfl (fun _ h => List.mem_cons_of_mem _ (List.mem_append_right _ (List.mem_append_right _ (List.mem_append_left _ h)))))
theorem g_f_X3_isWord_f_X6_signAt_143 : GoodIn v_f_X3_isWord (wsV RX3 143 RX6 yX6_signAt v_f_X6_signAt) := goodIn_in gw_f_X3_isWord (in4 8 9 10 11 rfl rfl rfl rfl (fun _ h => List.mem_cons_of_mem _ (List.mem_append_right _ (List.mem_append_right _ (List.mem_append_right _ (List.mem_append_left _ h))))))
theorem g_f_X3_isWord_f_J0_charAt_5068e_154 : GoodIn v_f_X3_isWord (wsV RX3 154 RJ0 yJ0_charAt_5068e v_f_J0_charAt_5068e) := goodIn_in gw_f_X3_isWord (in4 12 13 14 7 rfl rfl rfl rfl (fun _ h => List.mem_cons_of_mem _ (List.mem_append_right _ (List.mem_append_right _ (List.mem_append_right _ (List.mem_append_right _ (List.mem_append_left _ h)))))))
theorem hd_X3_isWord : yX3_isWord.cls = RX3 ∧ yX3_isWord.cls ≠ "java/lang/invoke/MethodHandle" ∧ yX3_isWord.cls ≠ "java/lang/invoke/VarHandle" ∧ (parseMethodDescriptor yX3_isWord.desc).map (fun d => d.parameters.length) = some 1 := by decide +kernel
set_option maxHeartbeats 4000000 in
set_option maxRecDepth 100000 in
theorem wb_X3_isWord_20 {p : Program} (l : Launch) {e : Env} {s : State} {m : MethodId} {below : List Frame} {meth : Method} {c : Code} {Q : State → Prop} (E : EE) (K : Nat) {z9 : Nat → Nat} {a_ a_tape a_rules a_places a_steps a_tape_bytes : Nat} {p1 : Nat} {c_siteCount : Int32} {c_stepCount : Int32} {c_seenRules : Int32} {c_at : Int32} {c_wordStart : Int32} {c_number : Int32} {c_failed : Int32} {c_tape_length : Int32} {c_tape_bytes : Nat → Int32} {x2 : Int32} (hx : p.tables.exec = Jvm.exec) (hb : c.code = cX3_isWord) (hml : c.maxLocals = 3) (hown : s.vm.findClass RX3 = some m.cls) (hts : ∀ w ∈ v_f_X3_isWord, w.before #[Value.ref a_, Value.ref (z9 (20 + p1))] s = true) (hK : va_K E.1 vwCl (TY E) s) (hN : NX s) (hZ : ZZ z9 (fun _ => False) s s.heap) {xx : (Int32) ⊕ (Nat)} (hC : ∀ (x2 : Int32), xx = .inl x2 → ∀ (ls : Array Slot), lv_has ls 3 [(0, .ref a_), (1, .ref (z9 (20 + p1))), (2, .int x2)] → W p l e ({ frames := 4, cells := 0, slots := 0, locals := 85 } : Room) s m #[Value.ref a_, Value.ref (z9 (20 + p1))] below meth c s.heap [] 0 0 Q (F0 m 20 ls [])) (hE : ∀ (t9 : Nat), xx = .inr t9 → ((t9 = 0 → ∀ (ls : Array Slot), lv_has ls 3 [] → W p l e ({ frames := 4, cells := 0, slots := 0, locals := 85 } : Room) s m #[Value.ref a_, Value.ref (z9 (20 + p1))] below meth c s.heap [] 0 0 Q (F0 m 49 ls [])) ∧ (t9 = 1 → ∀ (ls : Array Slot), lv_has ls 3 [] → W p l e ({ frames := 4, cells := 0, slots := 0, locals := 85 } : Room) s m #[Value.ref a_, Value.ref (z9 (20 + p1))] below meth c s.heap [] 0 0 Q (F0 m 57 ls [])))) (hF : B_X3_isWord_20 p1 c_wordStart c_tape_length c_tape_bytes x2 = some xx) (hP : va_P E.1 vwCl (w_X3_isWord E a_ a_tape a_rules a_places a_steps a_tape_bytes c_siteCount c_stepCount c_seenRules c_at c_wordStart c_number c_failed c_tape_length c_tape_bytes) s.heap) : ∀ (ls : Array Slot), lv_has ls 3 [(0, .ref a_), (1, .ref (z9 (20 + p1))), (2, .int x2)] → W p l e ({ frames := 4, cells := 0, slots := 0, locals := 85 } : Room) s m #[Value.ref a_, Value.ref (z9 (20 + p1))] below meth c s.heap [] 0 0 Q (F0 m 20 ls []) := by
  unfold B_X3_isWord_20 at hF
  replace hP : va_P E.1 vwCl [k_X3 a_ a_tape a_rules a_places a_steps c_siteCount c_stepCount c_seenRules c_at c_wordStart c_number c_failed, k_X6 a_tape a_tape_bytes c_tape_length, k_B E a_tape_bytes 320 c_tape_bytes] s.heap := hP
  intro ls hl
  refine lv_iload_n hx hb (dq_28 0 bcX3_isWord_0 (j := 20) rfl rfl) rfl (lv_at hl 2 rfl) ?_
  refine lv_aload_n hx hb (dq_43 0 bcX3_isWord_0 (j := 21) rfl rfl) rfl (lv_at hl 1 rfl) ?_
  replace hF := ltF_s hF
  obtain ⟨hs_6, hF⟩ := hF
  replace hF := bd1_s hF
  obtain ⟨r_5, hc_7, hF⟩ := hF
  have hPc : va_P E.1 vwCl [] s.heap := fun k q h => by simp at h
  refine pE_i (va_runV (As := []) (rest := [.int x2])  ⟨hx, hb, hml, hown, hts⟩ (f_J0_length_8abf5 l E z9 (p0 := p1) hc_7) (cwV 0 hts g_f_X3_isWord_f_J0_length_8abf5_150 rfl rfl rfl hd_J0_length_8abf5 ⟨Nat.le_of_ble_eq_true rfl, Nat.le_of_ble_eq_true rfl⟩) ⟨qPZ.blind, vk_recv hZ.2.2.2.1 hs_6 (va_S.rf), (qPZ.pre0 ⟨hK, hN⟩ hPc hZ)⟩ rfl rfl hl.1 rfl (lv_room (Nat.le_of_ble_eq_true rfl)) (dq_182 0 bcX3_isWord_0 (j := 22) (i := 150) rfl rfl rfl) ⟨Nat.le_of_ble_eq_true rfl, Nat.le_of_ble_eq_true rfl⟩) ?_
  refine lv_icmp_ge (tgt := 57) hx hb (dq_162 0 bcX3_isWord_0 (j := 25) (i := 32) rfl rfl rfl) (by decide) (fun c_8 => ?_) (fun c_8 => ?_)
  ·
    replace hF := ip c_8 hF
    cases hF
    exact (hE 1  rfl).2 rfl ls (lv_sub hl [] rfl)
  ·
    replace hF := inn c_8 hF
    refine lv_aload_n hx hb (dq_42 0 bcX3_isWord_0 (j := 28) rfl rfl) rfl (lv_at hl 0 rfl) ?_
    refine gt_X3_0 (v := .ref a_tape) hx hb hts i_f_X3_isWord_X3 hown hK hP 0 rfl (hts (.fieldLink RX3 43 "HushWatch$Reader" "tape" "LHushWatch$Tape;") (List.mem_of_getElem? (i := 3) rfl)) rfl (dq_180 0 bcX3_isWord_0 (j := 29) (i := 43) rfl rfl rfl) ?_
    refine lv_aload_n hx hb (dq_42 0 bcX3_isWord_0 (j := 32) rfl rfl) rfl (lv_at hl 0 rfl) ?_
    refine gt_X3_8 (v := .int c_wordStart) hx hb hts i_f_X3_isWord_X3 hown hK hP 0 rfl (hts (.fieldLink RX3 34 "HushWatch$Reader" "wordStart" "I") (List.mem_of_getElem? (i := 2) rfl)) rfl (dq_180 0 bcX3_isWord_0 (j := 33) (i := 34) rfl rfl rfl) ?_
    refine lv_iload_n hx hb (dq_28 0 bcX3_isWord_0 (j := 36) rfl rfl) rfl (lv_at hl 2 rfl) ?_
    refine lv_iadd hx hb (dq_96 0 bcX3_isWord_0 (j := 37) rfl rfl) ?_
    replace hF := bd1_s hF
    obtain ⟨r_9, hc_10, hF⟩ := hF
    have hPc : va_P E.1 vwCl (w_X6_signAt E a_tape a_tape_bytes c_tape_length c_tape_bytes) s.heap := hP.sub (ws' := [k_X6 a_tape a_tape_bytes c_tape_length, k_B E a_tape_bytes 320 c_tape_bytes]) [1, 2] rfl
    have hrc := va_recv hK hPc (ci := 7) (q0 := 0) rfl rfl
    refine pE_i (va_runV (As := [.int (c_wordStart + x2)]) (rest := [])  ⟨hx, hb, hml, hown, hts⟩ (f_X6_signAt l E (a_ := a_tape) (a_bytes := a_tape_bytes) (p1 := c_wordStart + x2) (c_length := c_tape_length) (c_bytes := c_tape_bytes) hc_10) (cwV 1 hts g_f_X3_isWord_f_X6_signAt_143 rfl rfl rfl hd_X6_signAt ⟨Nat.le_of_ble_eq_true rfl, Nat.le_of_ble_eq_true rfl⟩) ⟨pP.blind, hrc, (pP.pre ⟨hK, hN⟩ hPc)⟩ rfl rfl hl.1 rfl (lv_room (Nat.le_of_ble_eq_true rfl)) (dq_182 0 bcX3_isWord_0 (j := 38) (i := 143) rfl rfl rfl) ⟨Nat.le_of_ble_eq_true rfl, Nat.le_of_ble_eq_true rfl⟩) ?_
    refine lv_aload_n hx hb (dq_43 0 bcX3_isWord_0 (j := 41) rfl rfl) rfl (lv_at hl 1 rfl) ?_
    refine lv_iload_n hx hb (dq_28 0 bcX3_isWord_0 (j := 42) rfl rfl) rfl (lv_at hl 2 rfl) ?_
    replace hF := ltF_s hF
    obtain ⟨hs_12, hF⟩ := hF
    replace hF := bd1_s hF
    obtain ⟨r_11, hc_13, hF⟩ := hF
    have hPc : va_P E.1 vwCl [] s.heap := fun k q h => by simp at h
    refine pE_c (va_runV (As := [.int x2]) (rest := [.int r_9])  ⟨hx, hb, hml, hown, hts⟩ (f_J0_charAt_5068e l E z9 (p0 := p1) (p1 := x2) hc_13) (cwV 1 hts g_f_X3_isWord_f_J0_charAt_5068e_154 rfl rfl rfl hd_J0_charAt_5068e ⟨Nat.le_of_ble_eq_true rfl, Nat.le_of_ble_eq_true rfl⟩) ⟨qPZ.blind, vk_recv hZ.2.2.2.1 hs_12 (va_S.rf), (qPZ.pre0 ⟨hK, hN⟩ hPc hZ)⟩ rfl rfl hl.1 rfl (lv_room (Nat.le_of_ble_eq_true rfl)) (dq_182 0 bcX3_isWord_0 (j := 43) (i := 154) rfl rfl rfl) ⟨Nat.le_of_ble_eq_true rfl, Nat.le_of_ble_eq_true rfl⟩) (fun hb_14 => ?_)
    refine lv_icmp_eq (tgt := 51) hx hb (dq_159 0 bcX3_isWord_0 (j := 46) (i := 5) rfl rfl rfl) (by decide) (fun c_15 => ?_) (fun c_15 => ?_)
    ·
      replace hF := ip c_15 hF
      refine lv_iinc (v := x2 + (1 : Int32)) (lv' := [(2, .int (x2 + (1 : Int32))), (0, .ref a_), (1, .ref (z9 (20 + p1)))]) hx hb (dq_132 48 bcX3_isWord_1 (j := 3) (i := 1) rfl rfl rfl) hl (k := 2) rfl (rfl) (by decide) rfl (fun ls hl => ?_)
      refine lv_goto (tgt := 20) hx hb (dq_167 48 bcX3_isWord_1 (j := 6) (i := -34) rfl rfl rfl) (by decide) ?_
      cases hF
      exact hC (x2 + (1 : Int32)) rfl ls (lv_sub hl [1, 2, 0] rfl)
    ·
      replace hF := inn c_15 hF
      cases hF
      exact (hE 0  rfl).1 rfl ls (lv_sub hl [] rfl)

set_option maxHeartbeats 4000000 in
set_option maxRecDepth 100000 in
theorem lw_X3_isWord_20 {p : Program} (l : Launch) {e : Env} {s : State} {m : MethodId} {below : List Frame} {meth : Method} {c : Code} {Q : State → Prop} (E : EE) (K : Nat) {z9 : Nat → Nat} {a_ a_tape a_rules a_places a_steps a_tape_bytes : Nat} {p1 : Nat} {c_siteCount : Int32} {c_stepCount : Int32} {c_seenRules : Int32} {c_at : Int32} {c_wordStart : Int32} {c_number : Int32} {c_failed : Int32} {c_tape_length : Int32} {c_tape_bytes : Nat → Int32} (hx : p.tables.exec = Jvm.exec) (hb : c.code = cX3_isWord) (hml : c.maxLocals = 3) (hown : s.vm.findClass RX3 = some m.cls) (hts : ∀ w ∈ v_f_X3_isWord, w.before #[Value.ref a_, Value.ref (z9 (20 + p1))] s = true) (hK : va_K E.1 vwCl (TY E) s) (hN : NX s) (hZ : ZZ z9 (fun _ => False) s s.heap) (hP : va_P E.1 vwCl (w_X3_isWord E a_ a_tape a_rules a_places a_steps a_tape_bytes c_siteCount c_stepCount c_seenRules c_at c_wordStart c_number c_failed c_tape_length c_tape_bytes) s.heap) (j9 : Nat) (x2 : Int32) (t9' : Nat) (hL : lpF (fun u9 : Int32 => B_X3_isWord_20 p1 c_wordStart c_tape_length c_tape_bytes u9) j9 x2 = some t9') (hX : (t9' = 0 → ∀ (ls : Array Slot), lv_has ls 3 [] → W p l e ({ frames := 4, cells := 0, slots := 0, locals := 85 } : Room) s m #[Value.ref a_, Value.ref (z9 (20 + p1))] below meth c s.heap [] 0 0 Q (F0 m 49 ls [])) ∧ (t9' = 1 → ∀ (ls : Array Slot), lv_has ls 3 [] → W p l e ({ frames := 4, cells := 0, slots := 0, locals := 85 } : Room) s m #[Value.ref a_, Value.ref (z9 (20 + p1))] below meth c s.heap [] 0 0 Q (F0 m 57 ls []))) : ∀ (ls : Array Slot), lv_has ls 3 [(0, .ref a_), (1, .ref (z9 (20 + p1))), (2, .int x2)] → W p l e ({ frames := 4, cells := 0, slots := 0, locals := 85 } : Room) s m #[Value.ref a_, Value.ref (z9 (20 + p1))] below meth c s.heap [] 0 0 Q (F0 m 20 ls []) := by
  exact lp_rule (P := (fun u9 : Int32 => ∀ (ls : Array Slot), lv_has ls 3 [(0, .ref a_), (1, .ref (z9 (20 + p1))), (2, .int u9)] → W p l e ({ frames := 4, cells := 0, slots := 0, locals := 85 } : Room) s m #[Value.ref a_, Value.ref (z9 (20 + p1))] below meth c s.heap [] 0 0 Q (F0 m 20 ls []))) (R := (fun r9 : Nat => (r9 = 0 → ∀ (ls : Array Slot), lv_has ls 3 [] → W p l e ({ frames := 4, cells := 0, slots := 0, locals := 85 } : Room) s m #[Value.ref a_, Value.ref (z9 (20 + p1))] below meth c s.heap [] 0 0 Q (F0 m 49 ls [])) ∧ (r9 = 1 → ∀ (ls : Array Slot), lv_has ls 3 [] → W p l e ({ frames := 4, cells := 0, slots := 0, locals := 85 } : Room) s m #[Value.ref a_, Value.ref (z9 (20 + p1))] below meth c s.heap [] 0 0 Q (F0 m 57 ls [])))) (fun u9 xx hF hC hE => wb_X3_isWord_20 l E K (p1 := p1) (c_siteCount := c_siteCount) (c_stepCount := c_stepCount) (c_seenRules := c_seenRules) (c_at := c_at) (c_wordStart := c_wordStart) (c_number := c_number) (c_failed := c_failed) (c_tape_length := c_tape_length) (c_tape_bytes := c_tape_bytes) (x2 := u9) hx hb hml hown hts hK hN hZ (fun x2 q9 => hC _ q9) (fun t9 q9 => hE _ q9) hF hP) j9 x2 t9' hL hX

set_option maxHeartbeats 4000000 in
set_option maxRecDepth 100000 in
theorem f_X3_isWord (l : Launch) (E : EE) (K : Nat) (z9 : Nat → Nat) {a_ a_tape a_rules a_places a_steps a_tape_bytes : Nat} {p1 : Nat} {c_siteCount : Int32} {c_stepCount : Int32} {c_seenRules : Int32} {c_at : Int32} {c_wordStart : Int32} {c_number : Int32} {c_failed : Int32} {c_tape_length : Int32} {c_tape_bytes : Nat → Int32} {rr : Int32} (hF : F_X3_isWord K p1 c_tape_bytes c_tape_length c_at c_wordStart = some rr) : Met l yX3_isWord v_f_X3_isWord (({ frames := 4, cells := 0, slots := 0, locals := 85 } : Room)) (va_Pc [.ref a_, .ref (z9 (20 + p1))] (qPZ E z9 (w_X3_isWord E a_ a_tape a_rules a_places a_steps a_tape_bytes c_siteCount c_stepCount c_seenRules c_at c_wordStart c_number c_failed c_tape_length c_tape_bytes))) (vp_Si (fun q : Int32 => q = rr ∧ (q = 0 ∨ q = 1))) 0 0 (fun _ => False) := by
  refine Met.ofW (cc := cX3_isWord) (maxL := 3) (ret := (some .boolean)) (by decide) rfl ?_
  intro p e s m args below meth c s₁ B hml hv
  obtain ⟨rfl, ⟨hK, hN⟩, hP, hZ⟩ := hv
  have hx := B.exec
  have hb := B.bytes
  have hr := B.returns
  have hts := atoms_spec (ws := v_f_X3_isWord) B.pre
  have hown : s.vm.findClass RX3 = some m.cls := own_of hd_X3_isWord.1 (findClass_of_methodNamed B.named)
  have hlocks : meth.locks = false := B.notSynchronized
  replace hP : va_P E.1 vwCl [k_X3 a_ a_tape a_rules a_places a_steps c_siteCount c_stepCount c_seenRules c_at c_wordStart c_number c_failed, k_X6 a_tape a_tape_bytes c_tape_length, k_B E a_tape_bytes 320 c_tape_bytes] s.heap := hP
  have hl := lv_entry ([.ref a_, .ref (z9 (20 + p1))]) (n := 3) (Nat.le_of_ble_eq_true rfl)
  rw [lg_entry_eq]
  generalize (lg_sl ([.ref a_, .ref (z9 (20 + p1))]) ++ List.replicate (3 - (lg_sl ([.ref a_, .ref (z9 (20 + p1))])).length) Slot.unset).toArray = ls at hl ⊢
  have hl : lv_has ls 3 [(0, .ref a_), (1, .ref (z9 (20 + p1)))] := hl
  obtain ⟨Q, hQ⟩ : ∃ Q : State → Prop, Q = MQ below (vp_Si (fun q : Int32 => q = rr ∧ (q = 0 ∨ q = 1))) #[Value.ref a_, Value.ref (z9 (20 + p1))] s 0 0 (fun _ => False) := ⟨_, rfl⟩
  rw [← hQ]
  change W p l e ({ frames := 4, cells := 0, slots := 0, locals := 85 } : Room) s m #[Value.ref a_, Value.ref (z9 (20 + p1))] below meth c s.heap [] 0 0 Q (F0 m 0 ls [])
  unfold F_X3_isWord at hF
  refine lv_aload_n hx hb (dq_42 0 bcX3_isWord_0 (j := 0) rfl rfl) rfl (lv_at hl 0 rfl) ?_
  refine gt_X3_7 (v := .int c_at) hx hb hts i_f_X3_isWord_X3 hown hK hP 0 rfl (hts (.fieldLink RX3 31 "HushWatch$Reader" "at" "I") (List.mem_of_getElem? (i := 1) rfl)) rfl (dq_180 0 bcX3_isWord_0 (j := 1) (i := 31) rfl rfl rfl) ?_
  refine lv_aload_n hx hb (dq_42 0 bcX3_isWord_0 (j := 4) rfl rfl) rfl (lv_at hl 0 rfl) ?_
  refine gt_X3_8 (v := .int c_wordStart) hx hb hts i_f_X3_isWord_X3 hown hK hP 0 rfl (hts (.fieldLink RX3 34 "HushWatch$Reader" "wordStart" "I") (List.mem_of_getElem? (i := 2) rfl)) rfl (dq_180 0 bcX3_isWord_0 (j := 5) (i := 34) rfl rfl rfl) ?_
  refine lv_isub hx hb (dq_100 0 bcX3_isWord_0 (j := 8) rfl rfl) ?_
  refine lv_aload_n hx hb (dq_43 0 bcX3_isWord_0 (j := 9) rfl rfl) rfl (lv_at hl 1 rfl) ?_
  replace hF := ltF_s hF
  obtain ⟨hs_2, hF⟩ := hF
  replace hF := bd1_s hF
  obtain ⟨r_1, hc_3, hF⟩ := hF
  have hPc : va_P E.1 vwCl [] s.heap := fun k q h => by simp at h
  refine pE_i (va_runV (As := []) (rest := [.int (c_at - c_wordStart)])  ⟨hx, hb, hml, hown, hts⟩ (f_J0_length_8abf5 l E z9 (p0 := p1) hc_3) (cwV 0 hts g_f_X3_isWord_f_J0_length_8abf5_150 rfl rfl rfl hd_J0_length_8abf5 ⟨Nat.le_of_ble_eq_true rfl, Nat.le_of_ble_eq_true rfl⟩) ⟨qPZ.blind, vk_recv hZ.2.2.2.1 hs_2 (va_S.rf), (qPZ.pre0 ⟨hK, hN⟩ hPc hZ)⟩ rfl rfl hl.1 rfl (lv_room (Nat.le_of_ble_eq_true rfl)) (dq_182 0 bcX3_isWord_0 (j := 10) (i := 150) rfl rfl rfl) ⟨Nat.le_of_ble_eq_true rfl, Nat.le_of_ble_eq_true rfl⟩) ?_
  refine lv_icmp_eq (tgt := 18) hx hb (dq_159 0 bcX3_isWord_0 (j := 13) (i := 5) rfl rfl rfl) (by decide) (fun c_4 => ?_) (fun c_4 => ?_)
  ·
    replace hF := ip c_4 hF
    refine lv_iconst (v := 0) hx hb (dq_3 0 bcX3_isWord_0 (j := 18) rfl rfl) (by decide) ?_
    refine lv_istore_n (lv' := [(2, .int (0 : Int32)), (0, .ref a_), (1, .ref (z9 (20 + p1)))]) hx hb (dq_61 0 bcX3_isWord_0 (j := 19) rfl rfl) rfl hl (by decide) rfl (fun ls hl => ?_)
    replace hF := bd1_s hF
    obtain ⟨t_16, hL_17, hF⟩ := hF
    refine lw_X3_isWord_20 l E K (p1 := p1) (c_siteCount := c_siteCount) (c_stepCount := c_stepCount) (c_seenRules := c_seenRules) (c_at := c_at) (c_wordStart := c_wordStart) (c_number := c_number) (c_failed := c_failed) (c_tape_length := c_tape_length) (c_tape_bytes := c_tape_bytes) hx hb hml hown hts hK hN hZ hP K (0 : Int32) t_16 hL_17 ⟨?_, ?_⟩ ls (lv_sub hl [1, 2, 0] rfl)
    ·
      intro t9
      replace hF := ip t9 hF
      intro ls hl
      refine lv_iconst (v := 0) hx hb (dq_3 48 bcX3_isWord_1 (j := 1) rfl rfl) (by decide) ?_
      rw [hQ]
      obtain e9_0 := inj1 hF
      exact W.zret (v := (0 : Int32)) hx hb hr rfl (fun tt ht hW => ⟨_, rfl, ⟨e9_0, Or.inl rfl⟩, ht⟩) (fun _ h => by cases h) (dq_172 48 bcX3_isWord_1 (j := 2) rfl rfl)
    ·
      intro t9
      replace hF := inn (show ¬ t_16 = 0 by omega) hF
      replace hF := ip t9 hF
      intro ls hl
      refine lv_iconst (v := 1) hx hb (dq_4 48 bcX3_isWord_1 (j := 9) rfl rfl) (by decide) ?_
      rw [hQ]
      obtain e9_0 := inj1 hF
      exact W.zret (v := (1 : Int32)) hx hb hr rfl (fun tt ht hW => ⟨_, rfl, ⟨e9_0, Or.inr rfl⟩, ht⟩) (fun _ h => by cases h) (dq_172 48 bcX3_isWord_1 (j := 10) rfl rfl)
  ·
    replace hF := inn c_4 hF
    refine lv_iconst (v := 0) hx hb (dq_3 0 bcX3_isWord_0 (j := 16) rfl rfl) (by decide) ?_
    rw [hQ]
    obtain e9_0 := inj1 hF
    exact W.zret (v := (0 : Int32)) hx hb hr rfl (fun tt ht hW => ⟨_, rfl, ⟨e9_0, Or.inl rfl⟩, ht⟩) (fun _ h => by cases h) (dq_172 0 bcX3_isWord_0 (j := 17) rfl rfl)

def F_X3_lawOfWord (K : Nat) (c_tape_bytes : Nat → Int32) (c_tape_length : Int32) (c_at : Int32) (c_wordStart : Int32) : Option (Int32) :=
  bd1 (F_X3_isWord K 4 c_tape_bytes c_tape_length c_at c_wordStart) (fun r_1 => if r_1 = (0 : Int32) then bd1 (F_X3_isWord K 5 c_tape_bytes c_tape_length c_at c_wordStart) (fun r_5 => if r_5 = (0 : Int32) then bd1 (F_X3_isWord K 6 c_tape_bytes c_tape_length c_at c_wordStart) (fun r_9 => if r_9 = (0 : Int32) then bd1 (F_X3_isWord K 7 c_tape_bytes c_tape_length c_at c_wordStart) (fun r_13 => if r_13 = (0 : Int32) then some (-1 : Int32) else some (3 : Int32)) else some (2 : Int32)) else some (1 : Int32)) else some (0 : Int32))
abbrev w_X3_lawOfWord (E : EE) (a_ a_tape a_rules a_places a_steps a_tape_bytes : Nat) (c_siteCount : Int32) (c_stepCount : Int32) (c_seenRules : Int32) (c_at : Int32) (c_wordStart : Int32) (c_number : Int32) (c_failed : Int32) (c_tape_length : Int32) (c_tape_bytes : Nat → Int32) : va_W := [k_X3 a_ a_tape a_rules a_places a_steps c_siteCount c_stepCount c_seenRules c_at c_wordStart c_number c_failed, k_X6 a_tape a_tape_bytes c_tape_length, k_B E a_tape_bytes 320 c_tape_bytes]
def v_f_X3_lawOfWord : List Cond := List.cons (.code yX3_lawOfWord cX3_lawOfWord 1 (some .int)) (HAppend.hAppend (α := List Cond) (β := List Cond) (γ := List Cond) [.methodLink RX3 76 yX3_isWord, .instanceMethod yX3_isWord, .selects RX3 yX3_isWord yX3_isWord, .initialized RX3] (HAppend.hAppend (α := List Cond) (β := List Cond) (γ := List Cond) v_f_X3_isWord []))
theorem gw_f_X3_lawOfWord : v_f_X3_lawOfWord.all goodWord = true := gw_c2 (by decide +kernel) (gw_ap gw_f_X3_isWord gw_nil)
theorem g_f_X3_lawOfWord_f_X3_isWord_76 : GoodIn v_f_X3_lawOfWord (wsV RX3 76 RX3 yX3_isWord v_f_X3_isWord) := goodIn_in gw_f_X3_lawOfWord (in4 1 2 3 4 rfl rfl rfl rfl (fun _ h => List.mem_cons_of_mem _ (List.mem_append_right _ (List.mem_append_left _ h))))
theorem hd_X3_lawOfWord : yX3_lawOfWord.cls = RX3 ∧ yX3_lawOfWord.cls ≠ "java/lang/invoke/MethodHandle" ∧ yX3_lawOfWord.cls ≠ "java/lang/invoke/VarHandle" ∧ (parseMethodDescriptor yX3_lawOfWord.desc).map (fun d => d.parameters.length) = some 0 := by decide +kernel
set_option maxHeartbeats 4000000 in
set_option maxRecDepth 100000 in
theorem f_X3_lawOfWord (l : Launch) (E : EE) (K : Nat) (z9 : Nat → Nat) {a_ a_tape a_rules a_places a_steps a_tape_bytes : Nat} {c_siteCount : Int32} {c_stepCount : Int32} {c_seenRules : Int32} {c_at : Int32} {c_wordStart : Int32} {c_number : Int32} {c_failed : Int32} {c_tape_length : Int32} {c_tape_bytes : Nat → Int32} {rr : Int32} (hF : F_X3_lawOfWord K c_tape_bytes c_tape_length c_at c_wordStart = some rr) : Met l yX3_lawOfWord v_f_X3_lawOfWord (({ frames := 5, cells := 0, slots := 0, locals := 107 } : Room)) (va_Pc [.ref a_] (qPZ E z9 (w_X3_lawOfWord E a_ a_tape a_rules a_places a_steps a_tape_bytes c_siteCount c_stepCount c_seenRules c_at c_wordStart c_number c_failed c_tape_length c_tape_bytes))) (vp_Si (fun q : Int32 => q = rr)) 0 0 (fun _ => False) := by
  refine Met.ofW (cc := cX3_lawOfWord) (maxL := 1) (ret := (some .int)) (by decide) rfl ?_
  intro p e s m args below meth c s₁ B hml hv
  obtain ⟨rfl, ⟨hK, hN⟩, hP, hZ⟩ := hv
  have hx := B.exec
  have hb := B.bytes
  have hr := B.returns
  have hts := atoms_spec (ws := v_f_X3_lawOfWord) B.pre
  have hown : s.vm.findClass RX3 = some m.cls := own_of hd_X3_lawOfWord.1 (findClass_of_methodNamed B.named)
  have hlocks : meth.locks = false := B.notSynchronized
  replace hP : va_P E.1 vwCl [k_X3 a_ a_tape a_rules a_places a_steps c_siteCount c_stepCount c_seenRules c_at c_wordStart c_number c_failed, k_X6 a_tape a_tape_bytes c_tape_length, k_B E a_tape_bytes 320 c_tape_bytes] s.heap := hP
  have hl := lv_entry ([.ref a_]) (n := 1) (Nat.le_of_ble_eq_true rfl)
  rw [lg_entry_eq]
  generalize (lg_sl ([.ref a_]) ++ List.replicate (1 - (lg_sl ([.ref a_])).length) Slot.unset).toArray = ls at hl ⊢
  have hl : lv_has ls 1 [(0, .ref a_)] := hl
  obtain ⟨Q, hQ⟩ : ∃ Q : State → Prop, Q = MQ below (vp_Si (fun q : Int32 => q = rr)) #[Value.ref a_] s 0 0 (fun _ => False) := ⟨_, rfl⟩
  rw [← hQ]
  change W p l e ({ frames := 5, cells := 0, slots := 0, locals := 107 } : Room) s m #[Value.ref a_] below meth c s.heap [] 0 0 Q (F0 m 0 ls [])
  unfold F_X3_lawOfWord at hF
  refine lv_aload_n hx hb (dq_42 0 bcX3_lawOfWord_0 (j := 0) rfl rfl) rfl (lv_at hl 0 rfl) ?_
  refine va_ldcS hx hb hown (ZZ.s4 hZ) (dq_18 0 bcX3_lawOfWord_0 (j := 1) (i := 132) rfl rfl) ?_
  replace hF := bd1_s hF
  obtain ⟨r_1, hc_2, hF⟩ := hF
  have hPc : va_P E.1 vwCl (w_X3_isWord E a_ a_tape a_rules a_places a_steps a_tape_bytes c_siteCount c_stepCount c_seenRules c_at c_wordStart c_number c_failed c_tape_length c_tape_bytes) s.heap := hP.sub (ws' := [k_X3 a_ a_tape a_rules a_places a_steps c_siteCount c_stepCount c_seenRules c_at c_wordStart c_number c_failed, k_X6 a_tape a_tape_bytes c_tape_length, k_B E a_tape_bytes 320 c_tape_bytes]) [0, 1, 2] rfl
  have hrc := va_recv hK hPc (ci := 4) (q0 := 0) rfl rfl
  refine pE_z (va_runV (As := [.ref (z9 (20 + 4))]) (rest := [])  ⟨hx, hb, hml, hown, hts⟩ (f_X3_isWord l E K z9 (a_ := a_) (a_tape := a_tape) (a_rules := a_rules) (a_places := a_places) (a_steps := a_steps) (a_tape_bytes := a_tape_bytes) (p1 := 4) (c_siteCount := c_siteCount) (c_stepCount := c_stepCount) (c_seenRules := c_seenRules) (c_at := c_at) (c_wordStart := c_wordStart) (c_number := c_number) (c_failed := c_failed) (c_tape_length := c_tape_length) (c_tape_bytes := c_tape_bytes) hc_2) (cwV 1 hts g_f_X3_lawOfWord_f_X3_isWord_76 rfl rfl rfl hd_X3_isWord ⟨Nat.le_of_ble_eq_true rfl, Nat.le_of_ble_eq_true rfl⟩) ⟨qPZ.blind, hrc, (qPZ.pre0 ⟨hK, hN⟩ hPc hZ)⟩ rfl rfl hl.1 rfl (lv_room (Nat.le_of_ble_eq_true rfl)) (dq_182 0 bcX3_lawOfWord_0 (j := 3) (i := 76) rfl rfl rfl) ⟨Nat.le_of_ble_eq_true rfl, Nat.le_of_ble_eq_true rfl⟩) (fun hb_3 => ?_)
  refine lv_if_eq (tgt := 11) hx hb (dq_153 0 bcX3_lawOfWord_0 (j := 6) (i := 5) rfl rfl rfl) (by decide) (fun c_4 => ?_) (fun c_4 => ?_)
  ·
    replace hF := ip c_4 hF
    refine lv_aload_n hx hb (dq_42 0 bcX3_lawOfWord_0 (j := 11) rfl rfl) rfl (lv_at hl 0 rfl) ?_
    refine va_ldcS hx hb hown (ZZ.s5 hZ) (dq_18 0 bcX3_lawOfWord_0 (j := 12) (i := 134) rfl rfl) ?_
    replace hF := bd1_s hF
    obtain ⟨r_5, hc_6, hF⟩ := hF
    have hPc : va_P E.1 vwCl (w_X3_isWord E a_ a_tape a_rules a_places a_steps a_tape_bytes c_siteCount c_stepCount c_seenRules c_at c_wordStart c_number c_failed c_tape_length c_tape_bytes) s.heap := hP.sub (ws' := [k_X3 a_ a_tape a_rules a_places a_steps c_siteCount c_stepCount c_seenRules c_at c_wordStart c_number c_failed, k_X6 a_tape a_tape_bytes c_tape_length, k_B E a_tape_bytes 320 c_tape_bytes]) [0, 1, 2] rfl
    have hrc := va_recv hK hPc (ci := 4) (q0 := 0) rfl rfl
    refine pE_z (va_runV (As := [.ref (z9 (20 + 5))]) (rest := [])  ⟨hx, hb, hml, hown, hts⟩ (f_X3_isWord l E K z9 (a_ := a_) (a_tape := a_tape) (a_rules := a_rules) (a_places := a_places) (a_steps := a_steps) (a_tape_bytes := a_tape_bytes) (p1 := 5) (c_siteCount := c_siteCount) (c_stepCount := c_stepCount) (c_seenRules := c_seenRules) (c_at := c_at) (c_wordStart := c_wordStart) (c_number := c_number) (c_failed := c_failed) (c_tape_length := c_tape_length) (c_tape_bytes := c_tape_bytes) hc_6) (cwV 1 hts g_f_X3_lawOfWord_f_X3_isWord_76 rfl rfl rfl hd_X3_isWord ⟨Nat.le_of_ble_eq_true rfl, Nat.le_of_ble_eq_true rfl⟩) ⟨qPZ.blind, hrc, (qPZ.pre0 ⟨hK, hN⟩ hPc hZ)⟩ rfl rfl hl.1 rfl (lv_room (Nat.le_of_ble_eq_true rfl)) (dq_182 0 bcX3_lawOfWord_0 (j := 14) (i := 76) rfl rfl rfl) ⟨Nat.le_of_ble_eq_true rfl, Nat.le_of_ble_eq_true rfl⟩) (fun hb_7 => ?_)
    refine lv_if_eq (tgt := 22) hx hb (dq_153 0 bcX3_lawOfWord_0 (j := 17) (i := 5) rfl rfl rfl) (by decide) (fun c_8 => ?_) (fun c_8 => ?_)
    ·
      replace hF := ip c_8 hF
      refine lv_aload_n hx hb (dq_42 0 bcX3_lawOfWord_0 (j := 22) rfl rfl) rfl (lv_at hl 0 rfl) ?_
      refine va_ldcS hx hb hown (ZZ.s6 hZ) (dq_18 0 bcX3_lawOfWord_0 (j := 23) (i := 136) rfl rfl) ?_
      replace hF := bd1_s hF
      obtain ⟨r_9, hc_10, hF⟩ := hF
      have hPc : va_P E.1 vwCl (w_X3_isWord E a_ a_tape a_rules a_places a_steps a_tape_bytes c_siteCount c_stepCount c_seenRules c_at c_wordStart c_number c_failed c_tape_length c_tape_bytes) s.heap := hP.sub (ws' := [k_X3 a_ a_tape a_rules a_places a_steps c_siteCount c_stepCount c_seenRules c_at c_wordStart c_number c_failed, k_X6 a_tape a_tape_bytes c_tape_length, k_B E a_tape_bytes 320 c_tape_bytes]) [0, 1, 2] rfl
      have hrc := va_recv hK hPc (ci := 4) (q0 := 0) rfl rfl
      refine pE_z (va_runV (As := [.ref (z9 (20 + 6))]) (rest := [])  ⟨hx, hb, hml, hown, hts⟩ (f_X3_isWord l E K z9 (a_ := a_) (a_tape := a_tape) (a_rules := a_rules) (a_places := a_places) (a_steps := a_steps) (a_tape_bytes := a_tape_bytes) (p1 := 6) (c_siteCount := c_siteCount) (c_stepCount := c_stepCount) (c_seenRules := c_seenRules) (c_at := c_at) (c_wordStart := c_wordStart) (c_number := c_number) (c_failed := c_failed) (c_tape_length := c_tape_length) (c_tape_bytes := c_tape_bytes) hc_10) (cwV 1 hts g_f_X3_lawOfWord_f_X3_isWord_76 rfl rfl rfl hd_X3_isWord ⟨Nat.le_of_ble_eq_true rfl, Nat.le_of_ble_eq_true rfl⟩) ⟨qPZ.blind, hrc, (qPZ.pre0 ⟨hK, hN⟩ hPc hZ)⟩ rfl rfl hl.1 rfl (lv_room (Nat.le_of_ble_eq_true rfl)) (dq_182 0 bcX3_lawOfWord_0 (j := 25) (i := 76) rfl rfl rfl) ⟨Nat.le_of_ble_eq_true rfl, Nat.le_of_ble_eq_true rfl⟩) (fun hb_11 => ?_)
      refine lv_if_eq (tgt := 33) hx hb (dq_153 0 bcX3_lawOfWord_0 (j := 28) (i := 5) rfl rfl rfl) (by decide) (fun c_12 => ?_) (fun c_12 => ?_)
      ·
        replace hF := ip c_12 hF
        refine lv_aload_n hx hb (dq_42 0 bcX3_lawOfWord_0 (j := 33) rfl rfl) rfl (lv_at hl 0 rfl) ?_
        refine va_ldcS hx hb hown (ZZ.s7 hZ) (dq_18 0 bcX3_lawOfWord_0 (j := 34) (i := 138) rfl rfl) ?_
        replace hF := bd1_s hF
        obtain ⟨r_13, hc_14, hF⟩ := hF
        have hPc : va_P E.1 vwCl (w_X3_isWord E a_ a_tape a_rules a_places a_steps a_tape_bytes c_siteCount c_stepCount c_seenRules c_at c_wordStart c_number c_failed c_tape_length c_tape_bytes) s.heap := hP.sub (ws' := [k_X3 a_ a_tape a_rules a_places a_steps c_siteCount c_stepCount c_seenRules c_at c_wordStart c_number c_failed, k_X6 a_tape a_tape_bytes c_tape_length, k_B E a_tape_bytes 320 c_tape_bytes]) [0, 1, 2] rfl
        have hrc := va_recv hK hPc (ci := 4) (q0 := 0) rfl rfl
        refine pE_z (va_runV (As := [.ref (z9 (20 + 7))]) (rest := [])  ⟨hx, hb, hml, hown, hts⟩ (f_X3_isWord l E K z9 (a_ := a_) (a_tape := a_tape) (a_rules := a_rules) (a_places := a_places) (a_steps := a_steps) (a_tape_bytes := a_tape_bytes) (p1 := 7) (c_siteCount := c_siteCount) (c_stepCount := c_stepCount) (c_seenRules := c_seenRules) (c_at := c_at) (c_wordStart := c_wordStart) (c_number := c_number) (c_failed := c_failed) (c_tape_length := c_tape_length) (c_tape_bytes := c_tape_bytes) hc_14) (cwV 1 hts g_f_X3_lawOfWord_f_X3_isWord_76 rfl rfl rfl hd_X3_isWord ⟨Nat.le_of_ble_eq_true rfl, Nat.le_of_ble_eq_true rfl⟩) ⟨qPZ.blind, hrc, (qPZ.pre0 ⟨hK, hN⟩ hPc hZ)⟩ rfl rfl hl.1 rfl (lv_room (Nat.le_of_ble_eq_true rfl)) (dq_182 0 bcX3_lawOfWord_0 (j := 36) (i := 76) rfl rfl rfl) ⟨Nat.le_of_ble_eq_true rfl, Nat.le_of_ble_eq_true rfl⟩) (fun hb_15 => ?_)
        refine lv_if_eq (tgt := 46) hx hb (dq_153 0 bcX3_lawOfWord_0 (j := 39) (i := 7) rfl rfl rfl) (by decide) (fun c_16 => ?_) (fun c_16 => ?_)
        ·
          replace hF := ip c_16 hF
          refine lv_iconst (v := -1) hx hb (dq_2 0 bcX3_lawOfWord_0 (j := 46) rfl rfl) (by decide) ?_
          rw [hQ]
          obtain e9_0 := inj1 hF
          exact W.iret (v := (-1 : Int32)) hx hb hr (fun tt ht hW => ⟨_, rfl, e9_0, ht⟩) (fun _ h => by cases h) (dq_172 0 bcX3_lawOfWord_0 (j := 47) rfl rfl)
        ·
          replace hF := inn c_16 hF
          refine lv_iconst (v := 3) hx hb (dq_6 0 bcX3_lawOfWord_0 (j := 42) rfl rfl) (by decide) ?_
          refine lv_goto (tgt := 47) hx hb (dq_167 0 bcX3_lawOfWord_0 (j := 43) (i := 4) rfl rfl rfl) (by decide) ?_
          rw [hQ]
          obtain e9_0 := inj1 hF
          exact W.iret (v := (3 : Int32)) hx hb hr (fun tt ht hW => ⟨_, rfl, e9_0, ht⟩) (fun _ h => by cases h) (dq_172 0 bcX3_lawOfWord_0 (j := 47) rfl rfl)
      ·
        replace hF := inn c_12 hF
        refine lv_iconst (v := 2) hx hb (dq_5 0 bcX3_lawOfWord_0 (j := 31) rfl rfl) (by decide) ?_
        rw [hQ]
        obtain e9_0 := inj1 hF
        exact W.iret (v := (2 : Int32)) hx hb hr (fun tt ht hW => ⟨_, rfl, e9_0, ht⟩) (fun _ h => by cases h) (dq_172 0 bcX3_lawOfWord_0 (j := 32) rfl rfl)
    ·
      replace hF := inn c_8 hF
      refine lv_iconst (v := 1) hx hb (dq_4 0 bcX3_lawOfWord_0 (j := 20) rfl rfl) (by decide) ?_
      rw [hQ]
      obtain e9_0 := inj1 hF
      exact W.iret (v := (1 : Int32)) hx hb hr (fun tt ht hW => ⟨_, rfl, e9_0, ht⟩) (fun _ h => by cases h) (dq_172 0 bcX3_lawOfWord_0 (j := 21) rfl rfl)
  ·
    replace hF := inn c_4 hF
    refine lv_iconst (v := 0) hx hb (dq_3 0 bcX3_lawOfWord_0 (j := 9) rfl rfl) (by decide) ?_
    rw [hQ]
    obtain e9_0 := inj1 hF
    exact W.iret (v := (0 : Int32)) hx hb hr (fun tt ht hW => ⟨_, rfl, e9_0, ht⟩) (fun _ h => by cases h) (dq_172 0 bcX3_lawOfWord_0 (j := 10) rfl rfl)

def F_X3_putInStep (p1 : Int32) (p2 : Int32) (c_steps : Nat → Int32) (c_stepCount : Int32) : Option ((Nat → Int32)) :=
  if (12 : Int32) ≤ c_stepCount then some c_steps else if p1 < (0 : Int32) then some c_steps else if (4 : Int32) ≤ p1 then some c_steps else ixF ((c_stepCount * (4 : Int32)) + p1) 48 (nmF (upd c_steps ((c_stepCount * (4 : Int32)) + p1).toNatClampNeg p2) (fun f_5 => some f_5))
abbrev w_X3_putInStep (E : EE) (a_ a_tape a_rules a_places a_steps : Nat) (c_siteCount : Int32) (c_stepCount : Int32) (c_seenRules : Int32) (c_at : Int32) (c_wordStart : Int32) (c_number : Int32) (c_failed : Int32) (c_steps : Nat → Int32) : va_W := [k_X3 a_ a_tape a_rules a_places a_steps c_siteCount c_stepCount c_seenRules c_at c_wordStart c_number c_failed, k_I E a_steps 48 c_steps]
def v_f_X3_putInStep : List Cond := List.cons (.code yX3_putInStep cX3_putInStep 3 none) (HAppend.hAppend (α := List Cond) (β := List Cond) (γ := List Cond) [.fieldLink RX3 25 "HushWatch$Reader" "stepCount" "I", .fieldLink RX3 18 "HushWatch$Reader" "steps" "[I"] (HAppend.hAppend (α := List Cond) (β := List Cond) (γ := List Cond) wsX30 []))
theorem gw_f_X3_putInStep : v_f_X3_putInStep.all goodWord = true := gw_c2 (by decide +kernel) (gw_ap gw_wsX30 gw_nil)
theorem i_f_X3_putInStep_X3 : ∀ w ∈ wsX30, w ∈ v_f_X3_putInStep := fun _ h => List.mem_cons_of_mem _ (List.mem_append_right _ (List.mem_append_left _ h))
theorem hd_X3_putInStep : yX3_putInStep.cls = RX3 ∧ yX3_putInStep.cls ≠ "java/lang/invoke/MethodHandle" ∧ yX3_putInStep.cls ≠ "java/lang/invoke/VarHandle" ∧ (parseMethodDescriptor yX3_putInStep.desc).map (fun d => d.parameters.length) = some 2 := by decide +kernel
set_option maxHeartbeats 4000000 in
set_option maxRecDepth 100000 in
theorem f_X3_putInStep (l : Launch) (E : EE) (sz : Nat) {a_ a_tape a_rules a_places a_steps : Nat} {p1 : Int32} {p2 : Int32} {c_siteCount : Int32} {c_stepCount : Int32} {c_seenRules : Int32} {c_at : Int32} {c_wordStart : Int32} {c_number : Int32} {c_failed : Int32} {c_steps : Nat → Int32} {n_steps : Nat → Int32} (hF : F_X3_putInStep p1 p2 c_steps c_stepCount = some n_steps) : Met l yX3_putInStep v_f_X3_putInStep (({ frames := 0, cells := 0, slots := 0, locals := 0 } : Room)) (va_Pc [.ref a_, .int p1, .int p2] (pW E sz (w_X3_putInStep E a_ a_tape a_rules a_places a_steps c_siteCount c_stepCount c_seenRules c_at c_wordStart c_number c_failed c_steps))) (va_Qv (fun (_u : Unit) => True) (fun (_u : Unit) tt => va_P E.1 vwCl (w_X3_putInStep E a_ a_tape a_rules a_places a_steps c_siteCount c_stepCount c_seenRules c_at c_wordStart c_number c_failed n_steps) tt.heap ∧ va_D (va_A (w_X3_putInStep E a_ a_tape a_rules a_places a_steps c_siteCount c_stepCount c_seenRules c_at c_wordStart c_number c_failed c_steps) sz) (w_X3_putInStep E a_ a_tape a_rules a_places a_steps c_siteCount c_stepCount c_seenRules c_at c_wordStart c_number c_failed n_steps)) (va_A (w_X3_putInStep E a_ a_tape a_rules a_places a_steps c_siteCount c_stepCount c_seenRules c_at c_wordStart c_number c_failed c_steps) sz)) 0 0 (va_A (w_X3_putInStep E a_ a_tape a_rules a_places a_steps c_siteCount c_stepCount c_seenRules c_at c_wordStart c_number c_failed c_steps) sz) := by
  refine Met.ofW (cc := cX3_putInStep) (maxL := 3) (ret := none) (by decide) rfl ?_
  intro p e s m args below meth c s₁ B hml hv
  obtain ⟨rfl, hsz, ⟨hK, hN⟩, hP, hD0⟩ := hv
  have hx := B.exec
  have hb := B.bytes
  have hr := B.returns
  have hts := atoms_spec (ws := v_f_X3_putInStep) B.pre
  have hown : s.vm.findClass RX3 = some m.cls := own_of hd_X3_putInStep.1 (findClass_of_methodNamed B.named)
  have hlocks : meth.locks = false := B.notSynchronized
  subst hsz
  have hD := hD0.self (sz := s.heap.size)
  generalize hAe : va_A (w_X3_putInStep E a_ a_tape a_rules a_places a_steps c_siteCount c_stepCount c_seenRules c_at c_wordStart c_number c_failed c_steps) s.heap.size = A at hD ⊢
  have hA : ∀ q : Nat, s.heap.size ≤ q → A q := fun q h => by rw [← hAe]; exact Or.inr h
  have hS : va_S A s.heap s.heap [] := va_S.rf
  have hl := lv_entry ([.ref a_, .int p1, .int p2]) (n := 3) (Nat.le_of_ble_eq_true rfl)
  rw [lg_entry_eq]
  generalize (lg_sl ([.ref a_, .int p1, .int p2]) ++ List.replicate (3 - (lg_sl ([.ref a_, .int p1, .int p2])).length) Slot.unset).toArray = ls at hl ⊢
  have hl : lv_has ls 3 [(0, .ref a_), (1, .int p1), (2, .int p2)] := hl
  obtain ⟨Q, hQ⟩ : ∃ Q : State → Prop, Q = MQ below (va_Qv (fun (_u : Unit) => True) (fun (_u : Unit) tt => va_P E.1 vwCl (w_X3_putInStep E a_ a_tape a_rules a_places a_steps c_siteCount c_stepCount c_seenRules c_at c_wordStart c_number c_failed n_steps) tt.heap ∧ va_D A (w_X3_putInStep E a_ a_tape a_rules a_places a_steps c_siteCount c_stepCount c_seenRules c_at c_wordStart c_number c_failed n_steps)) A) #[Value.ref a_, Value.int p1, Value.int p2] s 0 0 A := ⟨_, rfl⟩
  rw [← hQ]
  change W p l e ({ frames := 0, cells := 0, slots := 0, locals := 0 } : Room) s m #[Value.ref a_, Value.int p1, Value.int p2] below meth c s.heap [] 0 0 Q (F0 m 0 ls [])
  suffices hh9 : ∀ (H : Heap) (locs : List Loc), va_P E.1 vwCl (w_X3_putInStep E a_ a_tape a_rules a_places a_steps c_siteCount c_stepCount c_seenRules c_at c_wordStart c_number c_failed c_steps) H → va_D A (w_X3_putInStep E a_ a_tape a_rules a_places a_steps c_siteCount c_stepCount c_seenRules c_at c_wordStart c_number c_failed c_steps) → va_S A s.heap H locs → W p l e ({ frames := 0, cells := 0, slots := 0, locals := 0 } : Room) s m #[Value.ref a_, Value.int p1, Value.int p2] below meth c H locs 0 0 Q (F0 m 0 ls []) from hh9 s.heap [] hP hD hS
  clear hP hD hS
  intro H locs hP hD hS
  have h9 := fixPD (ws' := [k_X3 a_ a_tape a_rules a_places a_steps c_siteCount c_stepCount c_seenRules c_at c_wordStart c_number c_failed, k_I E a_steps 48 c_steps]) hP hD rfl
  clear hP hD
  obtain ⟨hP, hD⟩ := h9
  unfold F_X3_putInStep at hF
  refine lv_aload_n hx hb (dq_42 0 bcX3_putInStep_0 (j := 0) rfl rfl) rfl (lv_at hl 0 rfl) ?_
  refine gt_X3_5 (v := .int c_stepCount) hx hb hts i_f_X3_putInStep_X3 hown hK hP 0 rfl (hts (.fieldLink RX3 25 "HushWatch$Reader" "stepCount" "I") (List.mem_of_getElem? (i := 1) rfl)) rfl (dq_180 0 bcX3_putInStep_0 (j := 1) (i := 25) rfl rfl rfl) ?_
  refine lv_bipush (v := 12) hx hb (dq_16 0 bcX3_putInStep_0 (j := 4) (i := 12) rfl rfl rfl) (by decide) ?_
  refine lv_icmp_ge (tgt := 32) hx hb (dq_162 0 bcX3_putInStep_0 (j := 6) (i := 26) rfl rfl rfl) (by decide) (fun c_1 => ?_) (fun c_1 => ?_)
  ·
    replace hF := ip c_1 hF
    rw [hQ]
    have h9 := fin9 (P := fun u9 : (Nat → Int32) => va_P E.1 vwCl (w_X3_putInStep E a_ a_tape a_rules a_places a_steps c_siteCount c_stepCount c_seenRules c_at c_wordStart c_number c_failed u9) H ∧ va_D A (w_X3_putInStep E a_ a_tape a_rules a_places a_steps c_siteCount c_stepCount c_seenRules c_at c_wordStart c_number c_failed u9)) hF ⟨hP, hD⟩
    obtain ⟨hP9, hD9⟩ := h9
    exact W.vret hx hb hr (fun tt ht hW => ⟨⟨(), rfl, trivial, ht ▸ hP9, hD9⟩, hS.F ht⟩) hS.2.2 (dq_177 0 bcX3_putInStep_0 (j := 32) rfl rfl)
  ·
    replace hF := inn c_1 hF
    refine lv_iload_n hx hb (dq_27 0 bcX3_putInStep_0 (j := 9) rfl rfl) rfl (lv_at hl 1 rfl) ?_
    refine lv_if_lt (tgt := 32) hx hb (dq_155 0 bcX3_putInStep_0 (j := 10) (i := 22) rfl rfl rfl) (by decide) (fun c_2 => ?_) (fun c_2 => ?_)
    ·
      replace hF := ip c_2 hF
      rw [hQ]
      have h9 := fin9 (P := fun u9 : (Nat → Int32) => va_P E.1 vwCl (w_X3_putInStep E a_ a_tape a_rules a_places a_steps c_siteCount c_stepCount c_seenRules c_at c_wordStart c_number c_failed u9) H ∧ va_D A (w_X3_putInStep E a_ a_tape a_rules a_places a_steps c_siteCount c_stepCount c_seenRules c_at c_wordStart c_number c_failed u9)) hF ⟨hP, hD⟩
      obtain ⟨hP9, hD9⟩ := h9
      exact W.vret hx hb hr (fun tt ht hW => ⟨⟨(), rfl, trivial, ht ▸ hP9, hD9⟩, hS.F ht⟩) hS.2.2 (dq_177 0 bcX3_putInStep_0 (j := 32) rfl rfl)
    ·
      replace hF := inn c_2 hF
      refine lv_iload_n hx hb (dq_27 0 bcX3_putInStep_0 (j := 13) rfl rfl) rfl (lv_at hl 1 rfl) ?_
      refine lv_iconst (v := 4) hx hb (dq_7 0 bcX3_putInStep_0 (j := 14) rfl rfl) (by decide) ?_
      refine lv_icmp_ge (tgt := 32) hx hb (dq_162 0 bcX3_putInStep_0 (j := 15) (i := 17) rfl rfl rfl) (by decide) (fun c_3 => ?_) (fun c_3 => ?_)
      ·
        replace hF := ip c_3 hF
        rw [hQ]
        have h9 := fin9 (P := fun u9 : (Nat → Int32) => va_P E.1 vwCl (w_X3_putInStep E a_ a_tape a_rules a_places a_steps c_siteCount c_stepCount c_seenRules c_at c_wordStart c_number c_failed u9) H ∧ va_D A (w_X3_putInStep E a_ a_tape a_rules a_places a_steps c_siteCount c_stepCount c_seenRules c_at c_wordStart c_number c_failed u9)) hF ⟨hP, hD⟩
        obtain ⟨hP9, hD9⟩ := h9
        exact W.vret hx hb hr (fun tt ht hW => ⟨⟨(), rfl, trivial, ht ▸ hP9, hD9⟩, hS.F ht⟩) hS.2.2 (dq_177 0 bcX3_putInStep_0 (j := 32) rfl rfl)
      ·
        replace hF := inn c_3 hF
        refine lv_aload_n hx hb (dq_42 0 bcX3_putInStep_0 (j := 18) rfl rfl) rfl (lv_at hl 0 rfl) ?_
        refine gt_X3_3 (v := .ref a_steps) hx hb hts i_f_X3_putInStep_X3 hown hK hP 0 rfl (hts (.fieldLink RX3 18 "HushWatch$Reader" "steps" "[I") (List.mem_of_getElem? (i := 2) rfl)) rfl (dq_180 0 bcX3_putInStep_0 (j := 19) (i := 18) rfl rfl rfl) ?_
        refine lv_aload_n hx hb (dq_42 0 bcX3_putInStep_0 (j := 22) rfl rfl) rfl (lv_at hl 0 rfl) ?_
        refine gt_X3_5 (v := .int c_stepCount) hx hb hts i_f_X3_putInStep_X3 hown hK hP 0 rfl (hts (.fieldLink RX3 25 "HushWatch$Reader" "stepCount" "I") (List.mem_of_getElem? (i := 1) rfl)) rfl (dq_180 0 bcX3_putInStep_0 (j := 23) (i := 25) rfl rfl rfl) ?_
        refine lv_iconst (v := 4) hx hb (dq_7 0 bcX3_putInStep_0 (j := 26) rfl rfl) (by decide) ?_
        refine lv_imul hx hb (dq_104 0 bcX3_putInStep_0 (j := 27) rfl rfl) ?_
        refine lv_iload_n hx hb (dq_27 0 bcX3_putInStep_0 (j := 28) rfl rfl) rfl (lv_at hl 1 rfl) ?_
        refine lv_iadd hx hb (dq_96 0 bcX3_putInStep_0 (j := 29) rfl rfl) ?_
        refine lv_iload_n hx hb (dq_28 0 bcX3_putInStep_0 (j := 30) rfl rfl) rfl (lv_at hl 2 rfl) ?_
        replace hF := ix_s hF
        obtain ⟨hi_4, hF⟩ := hF
        refine va_iast hx hb hK hP hD hS 1 0 rfl rfl hi_4 (dq_79 0 bcX3_putInStep_0 (j := 31) rfl rfl) (fun H locs hP hD hS => ?_)
        have h9 := fixPD (ws' := [k_X3 a_ a_tape a_rules a_places a_steps c_siteCount c_stepCount c_seenRules c_at c_wordStart c_number c_failed, k_I E a_steps 48 (upd c_steps ((c_stepCount * (4 : Int32)) + p1).toNatClampNeg p2)]) hP hD rfl
        clear hP hD
        obtain ⟨hP, hD⟩ := h9
        replace hF := nm_s hF
        obtain ⟨f_5, hf_5, hF⟩ := hF
        rw [← hf_5] at hP hD
        rw [hQ]
        have h9 := fin9 (P := fun u9 : (Nat → Int32) => va_P E.1 vwCl (w_X3_putInStep E a_ a_tape a_rules a_places a_steps c_siteCount c_stepCount c_seenRules c_at c_wordStart c_number c_failed u9) H ∧ va_D A (w_X3_putInStep E a_ a_tape a_rules a_places a_steps c_siteCount c_stepCount c_seenRules c_at c_wordStart c_number c_failed u9)) hF ⟨hP, hD⟩
        obtain ⟨hP9, hD9⟩ := h9
        exact W.vret hx hb hr (fun tt ht hW => ⟨⟨(), rfl, trivial, ht ▸ hP9, hD9⟩, hS.F ht⟩) hS.2.2 (dq_177 0 bcX3_putInStep_0 (j := 32) rfl rfl)

def B_X3_readWord_12 (c_tape_length : Int32) (c_tape_bytes : Nat → Int32) (c_at : Int32) : Option ((Int32) ⊕ (Int32)) :=
  if c_tape_length ≤ c_at then some (.inr c_at) else bd1 (F_X6_signAt c_at c_tape_bytes c_tape_length) (fun r_4 => bd1 (F_X3_isLetter r_4) (fun r_6 => if r_6 = (0 : Int32) then some (.inr c_at) else some (.inl (c_at + (1 : Int32)))))
def J_X3_readWord_56 (c_at : Int32) (c_wordStart : Int32) (c_failed : Int32) : Option (Int32 × Int32 × Int32 × Int32) :=
  if c_wordStart < c_at then some ((1 : Int32), c_at, c_wordStart, c_failed) else bd2 (F_X3_failAt c_at c_failed) (fun r_13 w_14 => if r_13 = (0 : Int32) then some ((0 : Int32), c_at, c_wordStart, w_14) else some ((1 : Int32), c_at, c_wordStart, w_14))
def F_X3_readWord (K : Nat) (c_tape_bytes : Nat → Int32) (c_tape_length : Int32) (c_at : Int32) (c_wordStart : Int32) (c_failed : Int32) : Option (Int32 × Int32 × Int32 × Int32) :=
  bd1 (F_X3_skipBlanks K c_tape_bytes c_tape_length c_at) (fun w_1 => bd1 (lpF (fun u9 : Int32 => B_X3_readWord_12 c_tape_length c_tape_bytes u9) K w_1) (fun c_at_10 => J_X3_readWord_56 c_at_10 w_1 c_failed))
abbrev w_X3_readWord (E : EE) (a_ a_tape a_rules a_places a_steps a_tape_bytes : Nat) (c_siteCount : Int32) (c_stepCount : Int32) (c_seenRules : Int32) (c_at : Int32) (c_wordStart : Int32) (c_number : Int32) (c_failed : Int32) (c_tape_length : Int32) (c_tape_bytes : Nat → Int32) : va_W := [k_X3 a_ a_tape a_rules a_places a_steps c_siteCount c_stepCount c_seenRules c_at c_wordStart c_number c_failed, k_X6 a_tape a_tape_bytes c_tape_length, k_B E a_tape_bytes 320 c_tape_bytes]
def v_f_X3_readWord : List Cond := List.cons (.code yX3_readWord cX3_readWord 1 (some .boolean)) (HAppend.hAppend (α := List Cond) (β := List Cond) (γ := List Cond) [.fieldLink RX3 31 "HushWatch$Reader" "at" "I", .fieldLink RX3 34 "HushWatch$Reader" "wordStart" "I", .fieldLink RX3 43 "HushWatch$Reader" "tape" "LHushWatch$Tape;", .methodLink RX3 140 yX3_skipBlanks, .instanceMethod yX3_skipBlanks, .selects RX3 yX3_skipBlanks yX3_skipBlanks, .initialized RX3, .methodLink RX3 143 yX6_signAt, .instanceMethod yX6_signAt, .selects RX6 yX6_signAt yX6_signAt, .initialized RX6, .methodLink RX3 147 yX3_isLetter, .static yX3_isLetter, .methodLink RX3 87 yX3_failAt, .instanceMethod yX3_failAt, .selects RX3 yX3_failAt yX3_failAt] (HAppend.hAppend (α := List Cond) (β := List Cond) (γ := List Cond) v_f_X3_skipBlanks (HAppend.hAppend (α := List Cond) (β := List Cond) (γ := List Cond) wsX30 (HAppend.hAppend (α := List Cond) (β := List Cond) (γ := List Cond) wsX60 (HAppend.hAppend (α := List Cond) (β := List Cond) (γ := List Cond) v_f_X6_signAt (HAppend.hAppend (α := List Cond) (β := List Cond) (γ := List Cond) v_f_X3_isLetter (HAppend.hAppend (α := List Cond) (β := List Cond) (γ := List Cond) v_f_X3_failAt [])))))))
theorem gw_f_X3_readWord : v_f_X3_readWord.all goodWord = true := gw_c2 (by decide +kernel) (gw_ap gw_f_X3_skipBlanks (gw_ap gw_wsX30 (gw_ap gw_wsX60 (gw_ap gw_f_X6_signAt (gw_ap gw_f_X3_isLetter (gw_ap gw_f_X3_failAt gw_nil))))))
theorem i_f_X3_readWord_X3 : ∀ w ∈ wsX30, w ∈ v_f_X3_readWord := fun _ h => List.mem_cons_of_mem _ (List.mem_append_right _ (List.mem_append_right _ (List.mem_append_left _ h)))
theorem i_f_X3_readWord_X6 : ∀ w ∈ wsX60, w ∈ v_f_X3_readWord := fun _ h => List.mem_cons_of_mem _ (List.mem_append_right _ (List.mem_append_right _ (List.mem_append_right _ (List.mem_append_left _ h))))
theorem g_f_X3_readWord_f_X3_skipBlanks_140 : GoodIn v_f_X3_readWord (wsV RX3 140 RX3 yX3_skipBlanks v_f_X3_skipBlanks) := goodIn_in gw_f_X3_readWord (in4 4 5 6 7 rfl rfl rfl rfl (fun _ h => List.mem_cons_of_mem _ (List.mem_append_right _ (List.mem_append_left _ h))))
theorem g_f_X3_readWord_f_X6_signAt_143 : GoodIn v_f_X3_readWord (wsV RX3 143 RX6 yX6_signAt v_f_X6_signAt) := goodIn_in gw_f_X3_readWord (in4 8 9 10 11 rfl rfl rfl rfl (fun _ h => List.mem_cons_of_mem _ (List.mem_append_right _ (List.mem_append_right _ (List.mem_append_right _ (List.mem_append_right _ (List.mem_append_left _ h)))))))
theorem g_f_X3_readWord_f_X3_isLetter_147 : GoodIn v_f_X3_readWord (va_wsS RX3 147 yX3_isLetter v_f_X3_isLetter) := goodIn_in gw_f_X3_readWord (in3 12 13 7 rfl rfl rfl (fun _ h => List.mem_cons_of_mem _ (List.mem_append_right _ (List.mem_append_right _ (List.mem_append_right _ (List.mem_append_right _ (List.mem_append_right _ (List.mem_append_left _ h))))))))
theorem g_f_X3_readWord_f_X3_failAt_87 : GoodIn v_f_X3_readWord (wsV RX3 87 RX3 yX3_failAt v_f_X3_failAt) := goodIn_in gw_f_X3_readWord (in4 14 15 16 7 rfl rfl rfl rfl (fun _ h => List.mem_cons_of_mem _ (List.mem_append_right _ (List.mem_append_right _ (List.mem_append_right _ (List.mem_append_right _ (List.mem_append_right _ (List.mem_append_right _ (List.mem_append_left _ h)))))))))
theorem hd_X3_readWord : yX3_readWord.cls = RX3 ∧ yX3_readWord.cls ≠ "java/lang/invoke/MethodHandle" ∧ yX3_readWord.cls ≠ "java/lang/invoke/VarHandle" ∧ (parseMethodDescriptor yX3_readWord.desc).map (fun d => d.parameters.length) = some 0 := by decide +kernel
set_option maxHeartbeats 4000000 in
set_option maxRecDepth 100000 in
theorem wb_X3_readWord_12 {p : Program} (l : Launch) {e : Env} {s : State} {m : MethodId} {below : List Frame} {meth : Method} {c : Code} {Q : State → Prop} (E : EE) (K : Nat) {a_ a_tape a_rules a_places a_steps a_tape_bytes : Nat} {c_siteCount : Int32} {c_stepCount : Int32} {c_seenRules : Int32} {c_number : Int32} {c_tape_length : Int32} {c_tape_bytes : Nat → Int32} {c_at : Int32} {c_wordStart : Int32} {c_failed : Int32} (hx : p.tables.exec = Jvm.exec) (hb : c.code = cX3_readWord) (hml : c.maxLocals = 1) (hown : s.vm.findClass RX3 = some m.cls) (hts : ∀ w ∈ v_f_X3_readWord, w.before #[Value.ref a_] s = true) (hK : va_K E.1 vwCl (TY E) s) (hN : NX s) {A : Nat → Prop} (hA : ∀ q : Nat, s.heap.size ≤ q → A q) {xx : (Int32) ⊕ (Int32)} (hC : ∀ (c_at : Int32), xx = .inl c_at → ∀ (H : Heap) (locs : List Loc) (ls : Array Slot), va_P E.1 vwCl (w_X3_readWord E a_ a_tape a_rules a_places a_steps a_tape_bytes c_siteCount c_stepCount c_seenRules c_at c_wordStart c_number c_failed c_tape_length c_tape_bytes) H → va_D A (w_X3_readWord E a_ a_tape a_rules a_places a_steps a_tape_bytes c_siteCount c_stepCount c_seenRules c_at c_wordStart c_number c_failed c_tape_length c_tape_bytes) → va_S A s.heap H locs → lv_has ls 1 [(0, .ref a_)] → W p l e ({ frames := 2, cells := 0, slots := 0, locals := 41 } : Room) s m #[Value.ref a_] below meth c H locs 0 0 Q (F0 m 12 ls [])) (hE : ∀ (c_at : Int32), xx = .inr c_at → ((∀ (H : Heap) (locs : List Loc) (ls : Array Slot), va_P E.1 vwCl (w_X3_readWord E a_ a_tape a_rules a_places a_steps a_tape_bytes c_siteCount c_stepCount c_seenRules c_at c_wordStart c_number c_failed c_tape_length c_tape_bytes) H → va_D A (w_X3_readWord E a_ a_tape a_rules a_places a_steps a_tape_bytes c_siteCount c_stepCount c_seenRules c_at c_wordStart c_number c_failed c_tape_length c_tape_bytes) → va_S A s.heap H locs → lv_has ls 1 [(0, .ref a_)] → W p l e ({ frames := 2, cells := 0, slots := 0, locals := 41 } : Room) s m #[Value.ref a_] below meth c H locs 0 0 Q (F0 m 56 ls [])))) (hF : B_X3_readWord_12 c_tape_length c_tape_bytes c_at = some xx) : ∀ (H : Heap) (locs : List Loc) (ls : Array Slot), va_P E.1 vwCl (w_X3_readWord E a_ a_tape a_rules a_places a_steps a_tape_bytes c_siteCount c_stepCount c_seenRules c_at c_wordStart c_number c_failed c_tape_length c_tape_bytes) H → va_D A (w_X3_readWord E a_ a_tape a_rules a_places a_steps a_tape_bytes c_siteCount c_stepCount c_seenRules c_at c_wordStart c_number c_failed c_tape_length c_tape_bytes) → va_S A s.heap H locs → lv_has ls 1 [(0, .ref a_)] → W p l e ({ frames := 2, cells := 0, slots := 0, locals := 41 } : Room) s m #[Value.ref a_] below meth c H locs 0 0 Q (F0 m 12 ls []) := by
  unfold B_X3_readWord_12 at hF
  intro H locs ls hP hD hS hl
  have h9 := fixPD (ws' := [k_X3 a_ a_tape a_rules a_places a_steps c_siteCount c_stepCount c_seenRules c_at c_wordStart c_number c_failed, k_X6 a_tape a_tape_bytes c_tape_length, k_B E a_tape_bytes 320 c_tape_bytes]) hP hD rfl
  clear hP hD
  obtain ⟨hP, hD⟩ := h9
  refine lv_aload_n hx hb (dq_42 0 bcX3_readWord_0 (j := 12) rfl rfl) rfl (lv_at hl 0 rfl) ?_
  refine gt_X3_7 (v := .int c_at) hx hb hts i_f_X3_readWord_X3 hown hK hP 0 rfl (hts (.fieldLink RX3 31 "HushWatch$Reader" "at" "I") (List.mem_of_getElem? (i := 1) rfl)) rfl (dq_180 0 bcX3_readWord_0 (j := 13) (i := 31) rfl rfl rfl) ?_
  refine lv_aload_n hx hb (dq_42 0 bcX3_readWord_0 (j := 16) rfl rfl) rfl (lv_at hl 0 rfl) ?_
  refine gt_X3_0 (v := .ref a_tape) hx hb hts i_f_X3_readWord_X3 hown hK hP 0 rfl (hts (.fieldLink RX3 43 "HushWatch$Reader" "tape" "LHushWatch$Tape;") (List.mem_of_getElem? (i := 3) rfl)) rfl (dq_180 0 bcX3_readWord_0 (j := 17) (i := 43) rfl rfl rfl) ?_
  refine va_getN (D := E.1) (ci := 7) (v := .int c_tape_length) (C := RX6) (T := TX6) (N := 2) hx hb hts i_f_X3_readWord_X6 hown hK hP 1 rfl rfl 1 (by decide) (nx hN 2 rfl) (fun _ h9 => h9) rfl (dq_180 0 bcX3_readWord_0 (j := 20) (i := 59) rfl rfl rfl) ?_
  refine lv_icmp_ge (tgt := 56) hx hb (dq_162 0 bcX3_readWord_0 (j := 23) (i := 33) rfl rfl rfl) (by decide) (fun c_3 => ?_) (fun c_3 => ?_)
  ·
    replace hF := ip c_3 hF
    cases hF
    exact hE c_at rfl H locs ls (hP.sub [0, 1, 2] rfl) (hD.sub [0, 1, 2] (by decide) rfl) hS (lv_sub hl [0] rfl)
  ·
    replace hF := inn c_3 hF
    refine lv_aload_n hx hb (dq_42 0 bcX3_readWord_0 (j := 26) rfl rfl) rfl (lv_at hl 0 rfl) ?_
    refine gt_X3_0 (v := .ref a_tape) hx hb hts i_f_X3_readWord_X3 hown hK hP 0 rfl (hts (.fieldLink RX3 43 "HushWatch$Reader" "tape" "LHushWatch$Tape;") (List.mem_of_getElem? (i := 3) rfl)) rfl (dq_180 0 bcX3_readWord_0 (j := 27) (i := 43) rfl rfl rfl) ?_
    refine lv_aload_n hx hb (dq_42 0 bcX3_readWord_0 (j := 30) rfl rfl) rfl (lv_at hl 0 rfl) ?_
    refine gt_X3_7 (v := .int c_at) hx hb hts i_f_X3_readWord_X3 hown hK hP 0 rfl (hts (.fieldLink RX3 31 "HushWatch$Reader" "at" "I") (List.mem_of_getElem? (i := 1) rfl)) rfl (dq_180 0 bcX3_readWord_0 (j := 31) (i := 31) rfl rfl rfl) ?_
    replace hF := bd1_s hF
    obtain ⟨r_4, hc_5, hF⟩ := hF
    have hPc : va_P E.1 vwCl (w_X6_signAt E a_tape a_tape_bytes c_tape_length c_tape_bytes) H := hP.sub (ws' := [k_X6 a_tape a_tape_bytes c_tape_length, k_B E a_tape_bytes 320 c_tape_bytes]) [1, 2] rfl
    have hrc := va_recv hK hPc (ci := 7) (q0 := 0) rfl rfl
    refine pE_i (va_runV (As := [.int c_at]) (rest := [])  ⟨hx, hb, hml, hown, hts⟩ (f_X6_signAt l E (a_ := a_tape) (a_bytes := a_tape_bytes) (p1 := c_at) (c_length := c_tape_length) (c_bytes := c_tape_bytes) hc_5) (cwV 1 hts g_f_X3_readWord_f_X6_signAt_143 rfl rfl rfl hd_X6_signAt ⟨Nat.le_of_ble_eq_true rfl, Nat.le_of_ble_eq_true rfl⟩) ⟨pP.blind, hrc, (pP.pre ⟨hK, hN⟩ hPc)⟩ rfl rfl hl.1 rfl (lv_room (Nat.le_of_ble_eq_true rfl)) (dq_182 0 bcX3_readWord_0 (j := 34) (i := 143) rfl rfl rfl) ⟨Nat.le_of_ble_eq_true rfl, Nat.le_of_ble_eq_true rfl⟩) ?_
    replace hF := bd1_s hF
    obtain ⟨r_6, hc_7, hF⟩ := hF
    have hPc : va_P E.1 vwCl [] H := fun k q h => by simp at h
    refine pE_z (va_runS (As := [.int r_4]) (rest := [])  ⟨hx, hb, hml, hown, hts⟩ (f_X3_isLetter l E (p0 := r_4) hc_7) (va_cwS 1 hts g_f_X3_readWord_f_X3_isLetter_147 rfl rfl rfl hd_X3_isLetter.2 ⟨Nat.le_of_ble_eq_true rfl, Nat.le_of_ble_eq_true rfl⟩) ⟨pP.blind, (pP.pre ⟨hK, hN⟩ hPc)⟩ rfl rfl hl.1 rfl (lv_room (Nat.le_of_ble_eq_true rfl)) (dq_184 0 bcX3_readWord_0 (j := 37) (i := 147) rfl rfl rfl) ⟨Nat.le_of_ble_eq_true rfl, Nat.le_of_ble_eq_true rfl⟩) (fun hb_8 => ?_)
    refine lv_if_eq (tgt := 56) hx hb (dq_153 0 bcX3_readWord_0 (j := 40) (i := 16) rfl rfl rfl) (by decide) (fun c_9 => ?_) (fun c_9 => ?_)
    ·
      replace hF := ip c_9 hF
      cases hF
      exact hE c_at rfl H locs ls (hP.sub [0, 1, 2] rfl) (hD.sub [0, 1, 2] (by decide) rfl) hS (lv_sub hl [0] rfl)
    ·
      replace hF := inn c_9 hF
      refine lv_aload_n hx hb (dq_42 0 bcX3_readWord_0 (j := 43) rfl rfl) rfl (lv_at hl 0 rfl) ?_
      refine lv_dup hx hb (dq_89 0 bcX3_readWord_0 (j := 44) rfl rfl) rfl ?_
      refine gt_X3_7 (v := .int c_at) hx hb hts i_f_X3_readWord_X3 hown hK hP 0 rfl (hts (.fieldLink RX3 31 "HushWatch$Reader" "at" "I") (List.mem_of_getElem? (i := 1) rfl)) rfl (dq_180 0 bcX3_readWord_0 (j := 45) (i := 31) rfl rfl rfl) ?_
      refine lv_iconst (v := 1) hx hb (dq_4 48 bcX3_readWord_1 (j := 0) rfl rfl) (by decide) ?_
      refine lv_iadd hx hb (dq_96 48 bcX3_readWord_1 (j := 1) rfl rfl) ?_
      refine pt_X3_7 (v := .int (c_at + (1 : Int32))) hx hb hts i_f_X3_readWord_X3 hown hK hP hD hS 0 rfl (hts (.fieldLink RX3 31 "HushWatch$Reader" "at" "I") (List.mem_of_getElem? (i := 1) rfl)) rfl rfl (Nat.le_of_ble_eq_true rfl) (dq_181 48 bcX3_readWord_1 (j := 2) (i := 31) rfl rfl rfl) (fun H locs hP hD hS => ?_)
      have h9 := fixPD (ws' := [k_X3 a_ a_tape a_rules a_places a_steps c_siteCount c_stepCount c_seenRules (c_at + (1 : Int32)) c_wordStart c_number c_failed, k_X6 a_tape a_tape_bytes c_tape_length, k_B E a_tape_bytes 320 c_tape_bytes]) hP hD rfl
      clear hP hD
      obtain ⟨hP, hD⟩ := h9
      refine lv_goto (tgt := 12) hx hb (dq_167 48 bcX3_readWord_1 (j := 5) (i := -41) rfl rfl rfl) (by decide) ?_
      cases hF
      exact hC (c_at + (1 : Int32)) rfl H locs ls (hP.sub [0, 1, 2] rfl) (hD.sub [0, 1, 2] (by decide) rfl) hS (lv_sub hl [0] rfl)

set_option maxHeartbeats 4000000 in
set_option maxRecDepth 100000 in
theorem lw_X3_readWord_12 {p : Program} (l : Launch) {e : Env} {s : State} {m : MethodId} {below : List Frame} {meth : Method} {c : Code} {Q : State → Prop} (E : EE) (K : Nat) {a_ a_tape a_rules a_places a_steps a_tape_bytes : Nat} {c_siteCount : Int32} {c_stepCount : Int32} {c_seenRules : Int32} {c_number : Int32} {c_tape_length : Int32} {c_tape_bytes : Nat → Int32} {c_wordStart : Int32} {c_failed : Int32} (hx : p.tables.exec = Jvm.exec) (hb : c.code = cX3_readWord) (hml : c.maxLocals = 1) (hown : s.vm.findClass RX3 = some m.cls) (hts : ∀ w ∈ v_f_X3_readWord, w.before #[Value.ref a_] s = true) (hK : va_K E.1 vwCl (TY E) s) (hN : NX s) {A : Nat → Prop} (hA : ∀ q : Nat, s.heap.size ≤ q → A q) (j9 : Nat) (c_at : Int32) (c_at' : Int32) (hL : lpF (fun u9 : Int32 => B_X3_readWord_12 c_tape_length c_tape_bytes u9) j9 c_at = some c_at') (hX : (∀ (H : Heap) (locs : List Loc) (ls : Array Slot), va_P E.1 vwCl (w_X3_readWord E a_ a_tape a_rules a_places a_steps a_tape_bytes c_siteCount c_stepCount c_seenRules c_at' c_wordStart c_number c_failed c_tape_length c_tape_bytes) H → va_D A (w_X3_readWord E a_ a_tape a_rules a_places a_steps a_tape_bytes c_siteCount c_stepCount c_seenRules c_at' c_wordStart c_number c_failed c_tape_length c_tape_bytes) → va_S A s.heap H locs → lv_has ls 1 [(0, .ref a_)] → W p l e ({ frames := 2, cells := 0, slots := 0, locals := 41 } : Room) s m #[Value.ref a_] below meth c H locs 0 0 Q (F0 m 56 ls []))) : ∀ (H : Heap) (locs : List Loc) (ls : Array Slot), va_P E.1 vwCl (w_X3_readWord E a_ a_tape a_rules a_places a_steps a_tape_bytes c_siteCount c_stepCount c_seenRules c_at c_wordStart c_number c_failed c_tape_length c_tape_bytes) H → va_D A (w_X3_readWord E a_ a_tape a_rules a_places a_steps a_tape_bytes c_siteCount c_stepCount c_seenRules c_at c_wordStart c_number c_failed c_tape_length c_tape_bytes) → va_S A s.heap H locs → lv_has ls 1 [(0, .ref a_)] → W p l e ({ frames := 2, cells := 0, slots := 0, locals := 41 } : Room) s m #[Value.ref a_] below meth c H locs 0 0 Q (F0 m 12 ls []) := by
  exact lp_rule (P := (fun u9 : Int32 => ∀ (H : Heap) (locs : List Loc) (ls : Array Slot), va_P E.1 vwCl (w_X3_readWord E a_ a_tape a_rules a_places a_steps a_tape_bytes c_siteCount c_stepCount c_seenRules u9 c_wordStart c_number c_failed c_tape_length c_tape_bytes) H → va_D A (w_X3_readWord E a_ a_tape a_rules a_places a_steps a_tape_bytes c_siteCount c_stepCount c_seenRules u9 c_wordStart c_number c_failed c_tape_length c_tape_bytes) → va_S A s.heap H locs → lv_has ls 1 [(0, .ref a_)] → W p l e ({ frames := 2, cells := 0, slots := 0, locals := 41 } : Room) s m #[Value.ref a_] below meth c H locs 0 0 Q (F0 m 12 ls []))) (R := (fun r9 : Int32 => (∀ (H : Heap) (locs : List Loc) (ls : Array Slot), va_P E.1 vwCl (w_X3_readWord E a_ a_tape a_rules a_places a_steps a_tape_bytes c_siteCount c_stepCount c_seenRules r9 c_wordStart c_number c_failed c_tape_length c_tape_bytes) H → va_D A (w_X3_readWord E a_ a_tape a_rules a_places a_steps a_tape_bytes c_siteCount c_stepCount c_seenRules r9 c_wordStart c_number c_failed c_tape_length c_tape_bytes) → va_S A s.heap H locs → lv_has ls 1 [(0, .ref a_)] → W p l e ({ frames := 2, cells := 0, slots := 0, locals := 41 } : Room) s m #[Value.ref a_] below meth c H locs 0 0 Q (F0 m 56 ls [])))) (fun u9 xx hF hC hE => wb_X3_readWord_12 l E K (c_siteCount := c_siteCount) (c_stepCount := c_stepCount) (c_seenRules := c_seenRules) (c_number := c_number) (c_tape_length := c_tape_length) (c_tape_bytes := c_tape_bytes) (c_at := u9) (c_wordStart := c_wordStart) (c_failed := c_failed) hx hb hml hown hts hK hN hA (fun c_at q9 => hC _ q9) (fun c_at q9 => hE _ q9) hF) j9 c_at c_at' hL hX

set_option maxHeartbeats 4000000 in
set_option maxRecDepth 100000 in
theorem j_X3_readWord_56 {p : Program} (l : Launch) {e : Env} {s : State} {m : MethodId} {below : List Frame} {meth : Method} {c : Code} {Q : State → Prop} (E : EE) (K : Nat) {a_ a_tape a_rules a_places a_steps a_tape_bytes : Nat} {c_siteCount : Int32} {c_stepCount : Int32} {c_seenRules : Int32} {c_number : Int32} {c_tape_length : Int32} {c_tape_bytes : Nat → Int32} {c_at : Int32} {c_wordStart : Int32} {c_failed : Int32} (hx : p.tables.exec = Jvm.exec) (hb : c.code = cX3_readWord) (hml : c.maxLocals = 1) (hown : s.vm.findClass RX3 = some m.cls) (hts : ∀ w ∈ v_f_X3_readWord, w.before #[Value.ref a_] s = true) (hK : va_K E.1 vwCl (TY E) s) (hN : NX s) {A : Nat → Prop} (hA : ∀ q : Nat, s.heap.size ≤ q → A q) {rr : Int32} {n_at : Int32} {n_wordStart : Int32} {n_failed : Int32} (hr : meth.sig.returnType = (some .boolean)) (hlocks : meth.locks = false) (hQ : Q = MQ below (va_Qi (fun (q : Int32) (_u : Unit) => q = rr ∧ (q = 0 ∨ q = 1)) (fun (_u : Unit) tt => va_P E.1 vwCl (w_X3_readWord E a_ a_tape a_rules a_places a_steps a_tape_bytes c_siteCount c_stepCount c_seenRules n_at n_wordStart c_number n_failed c_tape_length c_tape_bytes) tt.heap ∧ va_D A (w_X3_readWord E a_ a_tape a_rules a_places a_steps a_tape_bytes c_siteCount c_stepCount c_seenRules n_at n_wordStart c_number n_failed c_tape_length c_tape_bytes)) A) #[Value.ref a_] s 0 0 A) (hF : J_X3_readWord_56 c_at c_wordStart c_failed = some (rr, n_at, n_wordStart, n_failed)) : ∀ (H : Heap) (locs : List Loc) (ls : Array Slot), va_P E.1 vwCl (w_X3_readWord E a_ a_tape a_rules a_places a_steps a_tape_bytes c_siteCount c_stepCount c_seenRules c_at c_wordStart c_number c_failed c_tape_length c_tape_bytes) H → va_D A (w_X3_readWord E a_ a_tape a_rules a_places a_steps a_tape_bytes c_siteCount c_stepCount c_seenRules c_at c_wordStart c_number c_failed c_tape_length c_tape_bytes) → va_S A s.heap H locs → lv_has ls 1 [(0, .ref a_)] → W p l e ({ frames := 2, cells := 0, slots := 0, locals := 41 } : Room) s m #[Value.ref a_] below meth c H locs 0 0 Q (F0 m 56 ls []) := by
  unfold J_X3_readWord_56 at hF
  intro H locs ls hP hD hS hl
  have h9 := fixPD (ws' := [k_X3 a_ a_tape a_rules a_places a_steps c_siteCount c_stepCount c_seenRules c_at c_wordStart c_number c_failed, k_X6 a_tape a_tape_bytes c_tape_length, k_B E a_tape_bytes 320 c_tape_bytes]) hP hD rfl
  clear hP hD
  obtain ⟨hP, hD⟩ := h9
  refine lv_aload_n hx hb (dq_42 48 bcX3_readWord_1 (j := 8) rfl rfl) rfl (lv_at hl 0 rfl) ?_
  refine gt_X3_7 (v := .int c_at) hx hb hts i_f_X3_readWord_X3 hown hK hP 0 rfl (hts (.fieldLink RX3 31 "HushWatch$Reader" "at" "I") (List.mem_of_getElem? (i := 1) rfl)) rfl (dq_180 48 bcX3_readWord_1 (j := 9) (i := 31) rfl rfl rfl) ?_
  refine lv_aload_n hx hb (dq_42 48 bcX3_readWord_1 (j := 12) rfl rfl) rfl (lv_at hl 0 rfl) ?_
  refine gt_X3_8 (v := .int c_wordStart) hx hb hts i_f_X3_readWord_X3 hown hK hP 0 rfl (hts (.fieldLink RX3 34 "HushWatch$Reader" "wordStart" "I") (List.mem_of_getElem? (i := 2) rfl)) rfl (dq_180 48 bcX3_readWord_1 (j := 13) (i := 34) rfl rfl rfl) ?_
  refine lv_icmp_gt (tgt := 78) hx hb (dq_163 48 bcX3_readWord_1 (j := 16) (i := 14) rfl rfl rfl) (by decide) (fun c_12 => ?_) (fun c_12 => ?_)
  ·
    replace hF := ip c_12 hF
    refine lv_iconst (v := 1) hx hb (dq_4 48 bcX3_readWord_1 (j := 30) rfl rfl) (by decide) ?_
    refine lv_goto (tgt := 83) hx hb (dq_167 48 bcX3_readWord_1 (j := 31) (i := 4) rfl rfl rfl) (by decide) ?_
    rw [hQ]
    have h9 := fin9 (P := fun u9 : Int32 × Int32 × Int32 × Int32 => (1 : Int32) = u9.1 ∧ va_P E.1 vwCl (w_X3_readWord E a_ a_tape a_rules a_places a_steps a_tape_bytes c_siteCount c_stepCount c_seenRules u9.2.1 u9.2.2.1 c_number u9.2.2.2 c_tape_length c_tape_bytes) H ∧ va_D A (w_X3_readWord E a_ a_tape a_rules a_places a_steps a_tape_bytes c_siteCount c_stepCount c_seenRules u9.2.1 u9.2.2.1 c_number u9.2.2.2 c_tape_length c_tape_bytes)) hF ⟨rfl, hP, hD⟩
    obtain ⟨e9_0, hP9, hD9⟩ := h9
    exact W.zret (v := (1 : Int32)) hx hb hr rfl (fun tt ht hW => ⟨⟨_, (), rfl, ⟨e9_0, Or.inr rfl⟩, ht ▸ hP9, hD9⟩, hS.F ht⟩) hS.2.2 (dq_172 48 bcX3_readWord_1 (j := 35) rfl rfl)
  ·
    replace hF := inn c_12 hF
    refine lv_aload_n hx hb (dq_42 48 bcX3_readWord_1 (j := 19) rfl rfl) rfl (lv_at hl 0 rfl) ?_
    refine lv_aload_n hx hb (dq_42 48 bcX3_readWord_1 (j := 20) rfl rfl) rfl (lv_at hl 0 rfl) ?_
    refine gt_X3_7 (v := .int c_at) hx hb hts i_f_X3_readWord_X3 hown hK hP 0 rfl (hts (.fieldLink RX3 31 "HushWatch$Reader" "at" "I") (List.mem_of_getElem? (i := 1) rfl)) rfl (dq_180 48 bcX3_readWord_1 (j := 21) (i := 31) rfl rfl rfl) ?_
    replace hF := bd2_s hF
    obtain ⟨r_13, w_14, hc_15, hF⟩ := hF
    obtain ⟨hPc, hDc, hFc⟩ := wcut (wc := (w_X3_failAt E a_ a_tape a_rules a_places a_steps c_siteCount c_stepCount c_seenRules c_at c_wordStart c_number c_failed)) hP hD hS hA [0] (by decide) rfl
    have hrc := va_recv hK hPc (ci := 4) (q0 := 0) rfl rfl
    refine cE_z (wc := (w_X3_failAt E a_ a_tape a_rules a_places a_steps c_siteCount c_stepCount c_seenRules c_at c_wordStart c_number c_failed)) (wr := [k_X6 a_tape a_tape_bytes c_tape_length, k_B E a_tape_bytes 320 c_tape_bytes]) (w1 := (w_X3_failAt E a_ a_tape a_rules a_places a_steps c_siteCount c_stepCount c_seenRules c_at c_wordStart c_number w_14)) (va_runV (As := [.int c_at]) (rest := [])  ⟨hx, hb, hml, hown, hts⟩ (f_X3_failAt l E H.size (a_ := a_) (a_tape := a_tape) (a_rules := a_rules) (a_places := a_places) (a_steps := a_steps) (p1 := c_at) (c_siteCount := c_siteCount) (c_stepCount := c_stepCount) (c_seenRules := c_seenRules) (c_at := c_at) (c_wordStart := c_wordStart) (c_number := c_number) (c_failed := c_failed) hc_15) (cwV 1 hts g_f_X3_readWord_f_X3_failAt_87 rfl rfl rfl hd_X3_failAt ⟨Nat.le_of_ble_eq_true rfl, Nat.le_of_ble_eq_true rfl⟩) ⟨pW.blind, hrc, (pW.pre ⟨hK, hN⟩ hPc hDc)⟩ rfl rfl hl.1 rfl (lv_room (Nat.le_of_ble_eq_true rfl)) (dq_182 48 bcX3_readWord_1 (j := 24) (i := 87) rfl rfl rfl) ⟨Nat.le_of_ble_eq_true rfl, Nat.le_of_ble_eq_true rfl⟩) hS hFc hP hD [0] [1, 2] rfl rfl (by decide) (by decide) (fun hb_16 H locs hP hD hS => ?_)
    have h9 := fixPD (ws' := [k_X6 a_tape a_tape_bytes c_tape_length, k_B E a_tape_bytes 320 c_tape_bytes, k_X3 a_ a_tape a_rules a_places a_steps c_siteCount c_stepCount c_seenRules c_at c_wordStart c_number w_14]) hP hD rfl
    clear hP hD
    obtain ⟨hP, hD⟩ := h9
    refine lv_if_eq (tgt := 82) hx hb (dq_153 48 bcX3_readWord_1 (j := 27) (i := 7) rfl rfl rfl) (by decide) (fun c_17 => ?_) (fun c_17 => ?_)
    ·
      replace hF := ip c_17 hF
      refine lv_iconst (v := 0) hx hb (dq_3 48 bcX3_readWord_1 (j := 34) rfl rfl) (by decide) ?_
      rw [hQ]
      have h9 := fin9 (P := fun u9 : Int32 × Int32 × Int32 × Int32 => (0 : Int32) = u9.1 ∧ va_P E.1 vwCl (w_X3_readWord E a_ a_tape a_rules a_places a_steps a_tape_bytes c_siteCount c_stepCount c_seenRules u9.2.1 u9.2.2.1 c_number u9.2.2.2 c_tape_length c_tape_bytes) H ∧ va_D A (w_X3_readWord E a_ a_tape a_rules a_places a_steps a_tape_bytes c_siteCount c_stepCount c_seenRules u9.2.1 u9.2.2.1 c_number u9.2.2.2 c_tape_length c_tape_bytes)) hF ⟨rfl, hP.sub [2, 0, 1] rfl, hD.sub [2, 0, 1] (by decide) rfl⟩
      obtain ⟨e9_0, hP9, hD9⟩ := h9
      exact W.zret (v := (0 : Int32)) hx hb hr rfl (fun tt ht hW => ⟨⟨_, (), rfl, ⟨e9_0, Or.inl rfl⟩, ht ▸ hP9, hD9⟩, hS.F ht⟩) hS.2.2 (dq_172 48 bcX3_readWord_1 (j := 35) rfl rfl)
    ·
      replace hF := inn c_17 hF
      refine lv_iconst (v := 1) hx hb (dq_4 48 bcX3_readWord_1 (j := 30) rfl rfl) (by decide) ?_
      refine lv_goto (tgt := 83) hx hb (dq_167 48 bcX3_readWord_1 (j := 31) (i := 4) rfl rfl rfl) (by decide) ?_
      rw [hQ]
      have h9 := fin9 (P := fun u9 : Int32 × Int32 × Int32 × Int32 => (1 : Int32) = u9.1 ∧ va_P E.1 vwCl (w_X3_readWord E a_ a_tape a_rules a_places a_steps a_tape_bytes c_siteCount c_stepCount c_seenRules u9.2.1 u9.2.2.1 c_number u9.2.2.2 c_tape_length c_tape_bytes) H ∧ va_D A (w_X3_readWord E a_ a_tape a_rules a_places a_steps a_tape_bytes c_siteCount c_stepCount c_seenRules u9.2.1 u9.2.2.1 c_number u9.2.2.2 c_tape_length c_tape_bytes)) hF ⟨rfl, hP.sub [2, 0, 1] rfl, hD.sub [2, 0, 1] (by decide) rfl⟩
      obtain ⟨e9_0, hP9, hD9⟩ := h9
      exact W.zret (v := (1 : Int32)) hx hb hr rfl (fun tt ht hW => ⟨⟨_, (), rfl, ⟨e9_0, Or.inr rfl⟩, ht ▸ hP9, hD9⟩, hS.F ht⟩) hS.2.2 (dq_172 48 bcX3_readWord_1 (j := 35) rfl rfl)

set_option maxHeartbeats 4000000 in
set_option maxRecDepth 100000 in
theorem f_X3_readWord (l : Launch) (E : EE) (sz : Nat) (K : Nat) {a_ a_tape a_rules a_places a_steps a_tape_bytes : Nat} {c_siteCount : Int32} {c_stepCount : Int32} {c_seenRules : Int32} {c_at : Int32} {c_wordStart : Int32} {c_number : Int32} {c_failed : Int32} {c_tape_length : Int32} {c_tape_bytes : Nat → Int32} {rr : Int32} {n_at : Int32} {n_wordStart : Int32} {n_failed : Int32} (hF : F_X3_readWord K c_tape_bytes c_tape_length c_at c_wordStart c_failed = some (rr, n_at, n_wordStart, n_failed)) : Met l yX3_readWord v_f_X3_readWord (({ frames := 2, cells := 0, slots := 0, locals := 41 } : Room)) (va_Pc [.ref a_] (pW E sz (w_X3_readWord E a_ a_tape a_rules a_places a_steps a_tape_bytes c_siteCount c_stepCount c_seenRules c_at c_wordStart c_number c_failed c_tape_length c_tape_bytes))) (va_Qi (fun (q : Int32) (_u : Unit) => q = rr ∧ (q = 0 ∨ q = 1)) (fun (_u : Unit) tt => va_P E.1 vwCl (w_X3_readWord E a_ a_tape a_rules a_places a_steps a_tape_bytes c_siteCount c_stepCount c_seenRules n_at n_wordStart c_number n_failed c_tape_length c_tape_bytes) tt.heap ∧ va_D (va_A (w_X3_readWord E a_ a_tape a_rules a_places a_steps a_tape_bytes c_siteCount c_stepCount c_seenRules c_at c_wordStart c_number c_failed c_tape_length c_tape_bytes) sz) (w_X3_readWord E a_ a_tape a_rules a_places a_steps a_tape_bytes c_siteCount c_stepCount c_seenRules n_at n_wordStart c_number n_failed c_tape_length c_tape_bytes)) (va_A (w_X3_readWord E a_ a_tape a_rules a_places a_steps a_tape_bytes c_siteCount c_stepCount c_seenRules c_at c_wordStart c_number c_failed c_tape_length c_tape_bytes) sz)) 0 0 (va_A (w_X3_readWord E a_ a_tape a_rules a_places a_steps a_tape_bytes c_siteCount c_stepCount c_seenRules c_at c_wordStart c_number c_failed c_tape_length c_tape_bytes) sz) := by
  refine Met.ofW (cc := cX3_readWord) (maxL := 1) (ret := (some .boolean)) (by decide) rfl ?_
  intro p e s m args below meth c s₁ B hml hv
  obtain ⟨rfl, hsz, ⟨hK, hN⟩, hP, hD0⟩ := hv
  have hx := B.exec
  have hb := B.bytes
  have hr := B.returns
  have hts := atoms_spec (ws := v_f_X3_readWord) B.pre
  have hown : s.vm.findClass RX3 = some m.cls := own_of hd_X3_readWord.1 (findClass_of_methodNamed B.named)
  have hlocks : meth.locks = false := B.notSynchronized
  subst hsz
  have hD := hD0.self (sz := s.heap.size)
  generalize hAe : va_A (w_X3_readWord E a_ a_tape a_rules a_places a_steps a_tape_bytes c_siteCount c_stepCount c_seenRules c_at c_wordStart c_number c_failed c_tape_length c_tape_bytes) s.heap.size = A at hD ⊢
  have hA : ∀ q : Nat, s.heap.size ≤ q → A q := fun q h => by rw [← hAe]; exact Or.inr h
  have hS : va_S A s.heap s.heap [] := va_S.rf
  have hl := lv_entry ([.ref a_]) (n := 1) (Nat.le_of_ble_eq_true rfl)
  rw [lg_entry_eq]
  generalize (lg_sl ([.ref a_]) ++ List.replicate (1 - (lg_sl ([.ref a_])).length) Slot.unset).toArray = ls at hl ⊢
  have hl : lv_has ls 1 [(0, .ref a_)] := hl
  obtain ⟨Q, hQ⟩ : ∃ Q : State → Prop, Q = MQ below (va_Qi (fun (q : Int32) (_u : Unit) => q = rr ∧ (q = 0 ∨ q = 1)) (fun (_u : Unit) tt => va_P E.1 vwCl (w_X3_readWord E a_ a_tape a_rules a_places a_steps a_tape_bytes c_siteCount c_stepCount c_seenRules n_at n_wordStart c_number n_failed c_tape_length c_tape_bytes) tt.heap ∧ va_D A (w_X3_readWord E a_ a_tape a_rules a_places a_steps a_tape_bytes c_siteCount c_stepCount c_seenRules n_at n_wordStart c_number n_failed c_tape_length c_tape_bytes)) A) #[Value.ref a_] s 0 0 A := ⟨_, rfl⟩
  rw [← hQ]
  change W p l e ({ frames := 2, cells := 0, slots := 0, locals := 41 } : Room) s m #[Value.ref a_] below meth c s.heap [] 0 0 Q (F0 m 0 ls [])
  suffices hh9 : ∀ (H : Heap) (locs : List Loc), va_P E.1 vwCl (w_X3_readWord E a_ a_tape a_rules a_places a_steps a_tape_bytes c_siteCount c_stepCount c_seenRules c_at c_wordStart c_number c_failed c_tape_length c_tape_bytes) H → va_D A (w_X3_readWord E a_ a_tape a_rules a_places a_steps a_tape_bytes c_siteCount c_stepCount c_seenRules c_at c_wordStart c_number c_failed c_tape_length c_tape_bytes) → va_S A s.heap H locs → W p l e ({ frames := 2, cells := 0, slots := 0, locals := 41 } : Room) s m #[Value.ref a_] below meth c H locs 0 0 Q (F0 m 0 ls []) from hh9 s.heap [] hP hD hS
  clear hP hD hS
  intro H locs hP hD hS
  have h9 := fixPD (ws' := [k_X3 a_ a_tape a_rules a_places a_steps c_siteCount c_stepCount c_seenRules c_at c_wordStart c_number c_failed, k_X6 a_tape a_tape_bytes c_tape_length, k_B E a_tape_bytes 320 c_tape_bytes]) hP hD rfl
  clear hP hD
  obtain ⟨hP, hD⟩ := h9
  unfold F_X3_readWord at hF
  refine lv_aload_n hx hb (dq_42 0 bcX3_readWord_0 (j := 0) rfl rfl) rfl (lv_at hl 0 rfl) ?_
  replace hF := bd1_s hF
  obtain ⟨w_1, hc_2, hF⟩ := hF
  obtain ⟨hPc, hDc, hFc⟩ := wcut (wc := (w_X3_skipBlanks E a_ a_tape a_rules a_places a_steps a_tape_bytes c_siteCount c_stepCount c_seenRules c_at c_wordStart c_number c_failed c_tape_length c_tape_bytes)) hP hD hS hA [0, 1, 2] (by decide) rfl
  have hrc := va_recv hK hPc (ci := 4) (q0 := 0) rfl rfl
  refine cE_v (wc := (w_X3_skipBlanks E a_ a_tape a_rules a_places a_steps a_tape_bytes c_siteCount c_stepCount c_seenRules c_at c_wordStart c_number c_failed c_tape_length c_tape_bytes)) (wr := []) (w1 := (w_X3_skipBlanks E a_ a_tape a_rules a_places a_steps a_tape_bytes c_siteCount c_stepCount c_seenRules w_1 c_wordStart c_number c_failed c_tape_length c_tape_bytes)) (va_runV (As := []) (rest := [])  ⟨hx, hb, hml, hown, hts⟩ (f_X3_skipBlanks l E H.size K (a_ := a_) (a_tape := a_tape) (a_rules := a_rules) (a_places := a_places) (a_steps := a_steps) (a_tape_bytes := a_tape_bytes) (c_siteCount := c_siteCount) (c_stepCount := c_stepCount) (c_seenRules := c_seenRules) (c_at := c_at) (c_wordStart := c_wordStart) (c_number := c_number) (c_failed := c_failed) (c_tape_length := c_tape_length) (c_tape_bytes := c_tape_bytes) hc_2) (cwV 0 hts g_f_X3_readWord_f_X3_skipBlanks_140 rfl rfl rfl hd_X3_skipBlanks ⟨Nat.le_of_ble_eq_true rfl, Nat.le_of_ble_eq_true rfl⟩) ⟨pW.blind, hrc, (pW.pre ⟨hK, hN⟩ hPc hDc)⟩ rfl rfl hl.1 rfl (lv_room (Nat.le_of_ble_eq_true rfl)) (dq_182 0 bcX3_readWord_0 (j := 1) (i := 140) rfl rfl rfl) ⟨Nat.le_of_ble_eq_true rfl, Nat.le_of_ble_eq_true rfl⟩) hS hFc hP hD [0, 1, 2] [] rfl rfl (by decide) (by decide) (fun H locs hP hD hS => ?_)
  have h9 := fixPD (ws' := [k_X3 a_ a_tape a_rules a_places a_steps c_siteCount c_stepCount c_seenRules w_1 c_wordStart c_number c_failed, k_X6 a_tape a_tape_bytes c_tape_length, k_B E a_tape_bytes 320 c_tape_bytes]) hP hD rfl
  clear hP hD
  obtain ⟨hP, hD⟩ := h9
  refine lv_aload_n hx hb (dq_42 0 bcX3_readWord_0 (j := 4) rfl rfl) rfl (lv_at hl 0 rfl) ?_
  refine lv_aload_n hx hb (dq_42 0 bcX3_readWord_0 (j := 5) rfl rfl) rfl (lv_at hl 0 rfl) ?_
  refine gt_X3_7 (v := .int w_1) hx hb hts i_f_X3_readWord_X3 hown hK hP 0 rfl (hts (.fieldLink RX3 31 "HushWatch$Reader" "at" "I") (List.mem_of_getElem? (i := 1) rfl)) rfl (dq_180 0 bcX3_readWord_0 (j := 6) (i := 31) rfl rfl rfl) ?_
  refine pt_X3_8 (v := .int w_1) hx hb hts i_f_X3_readWord_X3 hown hK hP hD hS 0 rfl (hts (.fieldLink RX3 34 "HushWatch$Reader" "wordStart" "I") (List.mem_of_getElem? (i := 2) rfl)) rfl rfl (Nat.le_of_ble_eq_true rfl) (dq_181 0 bcX3_readWord_0 (j := 9) (i := 34) rfl rfl rfl) (fun H locs hP hD hS => ?_)
  have h9 := fixPD (ws' := [k_X3 a_ a_tape a_rules a_places a_steps c_siteCount c_stepCount c_seenRules w_1 w_1 c_number c_failed, k_X6 a_tape a_tape_bytes c_tape_length, k_B E a_tape_bytes 320 c_tape_bytes]) hP hD rfl
  clear hP hD
  obtain ⟨hP, hD⟩ := h9
  replace hF := bd1_s hF
  obtain ⟨c_at_10, hL_11, hF⟩ := hF
  refine lw_X3_readWord_12 l E K (c_siteCount := c_siteCount) (c_stepCount := c_stepCount) (c_seenRules := c_seenRules) (c_number := c_number) (c_tape_length := c_tape_length) (c_tape_bytes := c_tape_bytes) (c_wordStart := w_1) (c_failed := c_failed) hx hb hml hown hts hK hN hA K w_1 c_at_10 hL_11 ?_ H locs ls (hP.sub [0, 1, 2] rfl) (hD.sub [0, 1, 2] (by decide) rfl) hS (lv_sub hl [0] rfl)
  ·
    intro H locs ls hP hD hS hl
    have h9 := fixPD (ws' := [k_X3 a_ a_tape a_rules a_places a_steps c_siteCount c_stepCount c_seenRules c_at_10 w_1 c_number c_failed, k_X6 a_tape a_tape_bytes c_tape_length, k_B E a_tape_bytes 320 c_tape_bytes]) hP hD rfl
    clear hP hD
    obtain ⟨hP, hD⟩ := h9
    exact j_X3_readWord_56 l E K (c_siteCount := c_siteCount) (c_stepCount := c_stepCount) (c_seenRules := c_seenRules) (c_number := c_number) (c_tape_length := c_tape_length) (c_tape_bytes := c_tape_bytes) (c_at := c_at_10) (c_wordStart := w_1) (c_failed := c_failed) hx hb hml hown hts hK hN hA hr hlocks hQ hF H locs ls (hP.sub [0, 1, 2] rfl) (hD.sub [0, 1, 2] (by decide) rfl) hS (lv_sub hl [0] rfl)
