noncomputable def blX6_bytesIn_0 : List Nat := [3, 60, 16, 24, 61, 28, 155, 0, 22, 26, 28, 124, 17, 0, 255, 126, 153, 0, 6, 132, 1, 1, 132, 2, 248, 167, 255, 236, 27, 172]
set_option maxRecDepth 100000 in
theorem bcX6_bytesIn_0 : ((cX6_bytesIn.data.toList.drop 0).take blX6_bytesIn_0.length).map UInt8.toNat = blX6_bytesIn_0 := by decide +kernel
noncomputable def blX6_cutTo_0 : List Nat := [27, 155, 0, 11, 27, 42, 180, 0, 15, 164, 0, 5, 3, 172, 42, 27, 181, 0, 15, 4, 172]
set_option maxRecDepth 100000 in
theorem bcX6_cutTo_0 : ((cX6_cutTo.data.toList.drop 0).take blX6_cutTo_0.length).map UInt8.toNat = blX6_cutTo_0 := by decide +kernel
noncomputable def blX6_signAt_0 : List Nat := [27, 155, 0, 31, 27, 42, 180, 0, 15, 162, 0, 23, 27, 17, 1, 64, 162, 0, 16, 42, 180, 0, 11, 27, 51, 17, 0, 255, 126, 167, 0, 4, 2, 172]
set_option maxRecDepth 100000 in
theorem bcX6_signAt_0 : ((cX6_signAt.data.toList.drop 0).take blX6_signAt_0.length).map UInt8.toNat = blX6_signAt_0 := by decide +kernel
noncomputable def blX6_take_0 : List Nat := [16, 24, 61, 28, 155, 0, 52, 27, 28, 124, 17, 0, 255, 126, 62, 29, 153, 0, 34, 42, 180, 0, 15, 17, 1, 64, 162, 0, 24, 42, 180, 0, 11, 42, 180, 0, 15, 29, 145, 84, 42, 89, 180, 0, 15, 4, 96, 181, 0, 15, 132]
set_option maxRecDepth 100000 in
theorem bcX6_take_0 : ((cX6_take.data.toList.drop 0).take blX6_take_0.length).map UInt8.toNat = blX6_take_0 := by decide +kernel
noncomputable def blX6_take_1 : List Nat := [0, 15, 132, 2, 248, 167, 255, 206, 177]
set_option maxRecDepth 100000 in
theorem bcX6_take_1 : ((cX6_take.data.toList.drop 48).take blX6_take_1.length).map UInt8.toNat = blX6_take_1 := by decide +kernel

def B_X6_bytesIn_5 (p0 : Int32) (x1 : Int32) (x2 : Int32) : Option ((Int32 × Int32) ⊕ (Int32)) :=
  if x2 < (0 : Int32) then some (.inr x1) else if (ushrF p0 x2) &&& (255 : Int32) = (0 : Int32) then some (.inl (x1, x2 + (-8 : Int32))) else some (.inl (x1 + (1 : Int32), x2 + (-8 : Int32)))
def F_X6_bytesIn (K : Nat) (p0 : Int32) : Option (Int32) :=
  bd1 (lpF (fun u9 : Int32 × Int32 => B_X6_bytesIn_5 p0 u9.1 u9.2) K ((0 : Int32), (24 : Int32))) (fun x1_3 => some x1_3)

def v_f_X6_bytesIn : List Cond := List.cons (.code yX6_bytesIn cX6_bytesIn 3 (some .int)) (HAppend.hAppend (α := List Cond) (β := List Cond) (γ := List Cond) [] [])
theorem gw_f_X6_bytesIn : v_f_X6_bytesIn.all goodWord = true := gw_c2 (by decide +kernel) gw_nil
theorem hd_X6_bytesIn : yX6_bytesIn.cls = RX6 ∧ yX6_bytesIn.cls ≠ "java/lang/invoke/MethodHandle" ∧ yX6_bytesIn.cls ≠ "java/lang/invoke/VarHandle" ∧ (parseMethodDescriptor yX6_bytesIn.desc).map (fun d => d.parameters.length) = some 1 := by decide +kernel
set_option maxHeartbeats 4000000 in
set_option maxRecDepth 100000 in
theorem wb_X6_bytesIn_5 {p : Program} (l : Launch) {e : Env} {s : State} {m : MethodId} {below : List Frame} {meth : Method} {c : Code} {Q : State → Prop} (E : EE) (K : Nat) {p0 : Int32} {x1 : Int32} {x2 : Int32} (hx : p.tables.exec = Jvm.exec) (hb : c.code = cX6_bytesIn) (hml : c.maxLocals = 3) (hown : s.vm.findClass RX6 = some m.cls) (hts : ∀ w ∈ v_f_X6_bytesIn, w.before #[Value.int p0] s = true) (hK : va_K E.1 vwCl (TY E) s) (hN : NX s) {xx : (Int32 × Int32) ⊕ (Int32)} (hC : ∀ (x1 : Int32), ∀ (x2 : Int32), xx = .inl (x1, x2) → ∀ (ls : Array Slot), lv_has ls 3 [(0, .int p0), (1, .int x1), (2, .int x2)] → W p l e ({ frames := 0, cells := 0, slots := 0, locals := 0 } : Room) s m #[Value.int p0] below meth c s.heap [] 0 0 Q (F0 m 5 ls [])) (hE : ∀ (x1 : Int32), xx = .inr x1 → ((∀ (ls : Array Slot), lv_has ls 3 [(1, .int x1)] → W p l e ({ frames := 0, cells := 0, slots := 0, locals := 0 } : Room) s m #[Value.int p0] below meth c s.heap [] 0 0 Q (F0 m 28 ls [])))) (hF : B_X6_bytesIn_5 p0 x1 x2 = some xx) (hP : va_P E.1 vwCl [] s.heap) : ∀ (ls : Array Slot), lv_has ls 3 [(0, .int p0), (1, .int x1), (2, .int x2)] → W p l e ({ frames := 0, cells := 0, slots := 0, locals := 0 } : Room) s m #[Value.int p0] below meth c s.heap [] 0 0 Q (F0 m 5 ls []) := by
  unfold B_X6_bytesIn_5 at hF
  replace hP : va_P E.1 vwCl [] s.heap := hP
  intro ls hl
  refine lv_iload_n hx hb (dq_28 0 bcX6_bytesIn_0 (j := 5) rfl rfl) rfl (lv_at hl 2 rfl) ?_
  refine lv_if_lt (tgt := 28) hx hb (dq_155 0 bcX6_bytesIn_0 (j := 6) (i := 22) rfl rfl rfl) (by decide) (fun c_1 => ?_) (fun c_1 => ?_)
  ·
    replace hF := ip c_1 hF
    cases hF
    exact hE x1 rfl ls (lv_sub hl [1] rfl)
  ·
    replace hF := inn c_1 hF
    refine lv_iload_n hx hb (dq_26 0 bcX6_bytesIn_0 (j := 9) rfl rfl) rfl (lv_at hl 0 rfl) ?_
    refine lv_iload_n hx hb (dq_28 0 bcX6_bytesIn_0 (j := 10) rfl rfl) rfl (lv_at hl 2 rfl) ?_
    refine lv_iushr (v := (ushrF p0 x2)) hx hb (dq_124 0 bcX6_bytesIn_0 (j := 11) rfl rfl) rfl ?_
    refine lv_sipush (v := 255) hx hb (dq_17 0 bcX6_bytesIn_0 (j := 12) (i := 255) rfl rfl rfl) (by decide) ?_
    refine lv_iand hx hb (dq_126 0 bcX6_bytesIn_0 (j := 15) rfl rfl) ?_
    refine lv_if_eq (tgt := 22) hx hb (dq_153 0 bcX6_bytesIn_0 (j := 16) (i := 6) rfl rfl rfl) (by decide) (fun c_2 => ?_) (fun c_2 => ?_)
    ·
      replace hF := ip c_2 hF
      refine lv_iinc (v := x2 + (-8 : Int32)) (lv' := [(2, .int (x2 + (-8 : Int32))), (0, .int p0), (1, .int x1)]) hx hb (dq_132 0 bcX6_bytesIn_0 (j := 22) (i := -8) rfl rfl rfl) hl (k := 2) rfl (by exact rfl) (by decide) rfl (fun ls hl => ?_)
      refine lv_goto (tgt := 5) hx hb (dq_167 0 bcX6_bytesIn_0 (j := 25) (i := -20) rfl rfl rfl) (by decide) ?_
      cases hF
      exact hC x1 (x2 + (-8 : Int32)) rfl ls (lv_sub hl [1, 2, 0] rfl)
    ·
      replace hF := inn c_2 hF
      refine lv_iinc (v := x1 + (1 : Int32)) (lv' := [(1, .int (x1 + (1 : Int32))), (0, .int p0), (2, .int x2)]) hx hb (dq_132 0 bcX6_bytesIn_0 (j := 19) (i := 1) rfl rfl rfl) hl (k := 1) rfl (rfl) (by decide) rfl (fun ls hl => ?_)
      refine lv_iinc (v := x2 + (-8 : Int32)) (lv' := [(2, .int (x2 + (-8 : Int32))), (1, .int (x1 + (1 : Int32))), (0, .int p0)]) hx hb (dq_132 0 bcX6_bytesIn_0 (j := 22) (i := -8) rfl rfl rfl) hl (k := 2) rfl (by exact rfl) (by decide) rfl (fun ls hl => ?_)
      refine lv_goto (tgt := 5) hx hb (dq_167 0 bcX6_bytesIn_0 (j := 25) (i := -20) rfl rfl rfl) (by decide) ?_
      cases hF
      exact hC (x1 + (1 : Int32)) (x2 + (-8 : Int32)) rfl ls (lv_sub hl [2, 1, 0] rfl)

set_option maxHeartbeats 4000000 in
set_option maxRecDepth 100000 in
theorem lw_X6_bytesIn_5 {p : Program} (l : Launch) {e : Env} {s : State} {m : MethodId} {below : List Frame} {meth : Method} {c : Code} {Q : State → Prop} (E : EE) (K : Nat) {p0 : Int32} (hx : p.tables.exec = Jvm.exec) (hb : c.code = cX6_bytesIn) (hml : c.maxLocals = 3) (hown : s.vm.findClass RX6 = some m.cls) (hts : ∀ w ∈ v_f_X6_bytesIn, w.before #[Value.int p0] s = true) (hK : va_K E.1 vwCl (TY E) s) (hN : NX s) (hP : va_P E.1 vwCl [] s.heap) (j9 : Nat) (x1 : Int32) (x2 : Int32) (x1' : Int32) (hL : lpF (fun u9 : Int32 × Int32 => B_X6_bytesIn_5 p0 u9.1 u9.2) j9 (x1, x2) = some x1') (hX : (∀ (ls : Array Slot), lv_has ls 3 [(1, .int x1')] → W p l e ({ frames := 0, cells := 0, slots := 0, locals := 0 } : Room) s m #[Value.int p0] below meth c s.heap [] 0 0 Q (F0 m 28 ls []))) : ∀ (ls : Array Slot), lv_has ls 3 [(0, .int p0), (1, .int x1), (2, .int x2)] → W p l e ({ frames := 0, cells := 0, slots := 0, locals := 0 } : Room) s m #[Value.int p0] below meth c s.heap [] 0 0 Q (F0 m 5 ls []) := by
  exact lp_rule (P := (fun u9 : Int32 × Int32 => ∀ (ls : Array Slot), lv_has ls 3 [(0, .int p0), (1, .int u9.1), (2, .int u9.2)] → W p l e ({ frames := 0, cells := 0, slots := 0, locals := 0 } : Room) s m #[Value.int p0] below meth c s.heap [] 0 0 Q (F0 m 5 ls []))) (R := (fun r9 : Int32 => (∀ (ls : Array Slot), lv_has ls 3 [(1, .int r9)] → W p l e ({ frames := 0, cells := 0, slots := 0, locals := 0 } : Room) s m #[Value.int p0] below meth c s.heap [] 0 0 Q (F0 m 28 ls [])))) (fun u9 xx hF hC hE => wb_X6_bytesIn_5 l E K (p0 := p0) (x1 := u9.1) (x2 := u9.2) hx hb hml hown hts hK hN (fun x1 x2 q9 => hC _ q9) (fun x1 q9 => hE _ q9) hF hP) j9 (x1, x2) x1' hL hX

set_option maxHeartbeats 4000000 in
set_option maxRecDepth 100000 in
theorem f_X6_bytesIn (l : Launch) (E : EE) (K : Nat) {p0 : Int32} {rr : Int32} (hF : F_X6_bytesIn K p0 = some rr) : Met l yX6_bytesIn v_f_X6_bytesIn (({ frames := 0, cells := 0, slots := 0, locals := 0 } : Room)) (va_Pc [.int p0] (pP E [])) (vp_Si (fun q : Int32 => q = rr)) 0 0 (fun _ => False) := by
  refine Met.ofW (cc := cX6_bytesIn) (maxL := 3) (ret := (some .int)) (by decide) rfl ?_
  intro p e s m args below meth c s₁ B hml hv
  obtain ⟨rfl, ⟨hK, hN⟩, hP⟩ := hv
  have hx := B.exec
  have hb := B.bytes
  have hr := B.returns
  have hts := atoms_spec (ws := v_f_X6_bytesIn) B.pre
  have hown : s.vm.findClass RX6 = some m.cls := own_of hd_X6_bytesIn.1 (findClass_of_methodNamed B.named)
  have hlocks : meth.locks = false := B.notSynchronized
  replace hP : va_P E.1 vwCl [] s.heap := hP
  have hl := lv_entry ([.int p0]) (n := 3) (Nat.le_of_ble_eq_true rfl)
  rw [lg_entry_eq]
  generalize (lg_sl ([.int p0]) ++ List.replicate (3 - (lg_sl ([.int p0])).length) Slot.unset).toArray = ls at hl ⊢
  have hl : lv_has ls 3 [(0, .int p0)] := hl
  obtain ⟨Q, hQ⟩ : ∃ Q : State → Prop, Q = MQ below (vp_Si (fun q : Int32 => q = rr)) #[Value.int p0] s 0 0 (fun _ => False) := ⟨_, rfl⟩
  rw [← hQ]
  change W p l e ({ frames := 0, cells := 0, slots := 0, locals := 0 } : Room) s m #[Value.int p0] below meth c s.heap [] 0 0 Q (F0 m 0 ls [])
  unfold F_X6_bytesIn at hF
  refine lv_iconst (v := 0) hx hb (dq_3 0 bcX6_bytesIn_0 (j := 0) rfl rfl) (by decide) ?_
  refine lv_istore_n (lv' := [(1, .int (0 : Int32)), (0, .int p0)]) hx hb (dq_60 0 bcX6_bytesIn_0 (j := 1) rfl rfl) rfl hl (by decide) rfl (fun ls hl => ?_)
  refine lv_bipush (v := 24) hx hb (dq_16 0 bcX6_bytesIn_0 (j := 2) (i := 24) rfl rfl rfl) (by decide) ?_
  refine lv_istore_n (lv' := [(2, .int (24 : Int32)), (1, .int (0 : Int32)), (0, .int p0)]) hx hb (dq_61 0 bcX6_bytesIn_0 (j := 4) rfl rfl) rfl hl (by decide) rfl (fun ls hl => ?_)
  replace hF := bd1_s hF
  obtain ⟨x1_3, hL_4, hF⟩ := hF
  refine lw_X6_bytesIn_5 l E K (p0 := p0) hx hb hml hown hts hK hN hP K (0 : Int32) (24 : Int32) x1_3 hL_4 ?_ ls (lv_sub hl [2, 1, 0] rfl)
  ·
    intro ls hl
    refine lv_iload_n hx hb (dq_27 0 bcX6_bytesIn_0 (j := 28) rfl rfl) rfl (lv_at hl 0 rfl) ?_
    rw [hQ]
    obtain e9_0 := inj1 hF
    exact W.iret (v := x1_3) hx hb hr (fun tt ht hW => ⟨_, rfl, e9_0, ht⟩) (fun _ h => by cases h) (dq_172 0 bcX6_bytesIn_0 (j := 29) rfl rfl)

def F_X6_cutTo (p1 : Int32) (c_length : Int32) : Option (Int32 × Int32) :=
  if p1 < (0 : Int32) then some ((0 : Int32), c_length) else if p1 ≤ c_length then some ((1 : Int32), p1) else some ((0 : Int32), c_length)
theorem gw_wsX60 : wsX60.all goodWord = true := by decide +kernel
abbrev w_X6_cutTo (E : EE) (a_ a_bytes : Nat) (c_length : Int32) : va_W := [k_X6 a_ a_bytes c_length]
def v_f_X6_cutTo : List Cond := List.cons (.code yX6_cutTo cX6_cutTo 2 (some .boolean)) (HAppend.hAppend (α := List Cond) (β := List Cond) (γ := List Cond) [.fieldLink RX6 15 "HushWatch$Tape" "length" "I"] (HAppend.hAppend (α := List Cond) (β := List Cond) (γ := List Cond) wsX60 []))
theorem gw_f_X6_cutTo : v_f_X6_cutTo.all goodWord = true := gw_c2 (by decide +kernel) (gw_ap gw_wsX60 gw_nil)
theorem i_f_X6_cutTo_X6 : ∀ w ∈ wsX60, w ∈ v_f_X6_cutTo := fun _ h => List.mem_cons_of_mem _ (List.mem_append_right _ (List.mem_append_left _ h))
theorem hd_X6_cutTo : yX6_cutTo.cls = RX6 ∧ yX6_cutTo.cls ≠ "java/lang/invoke/MethodHandle" ∧ yX6_cutTo.cls ≠ "java/lang/invoke/VarHandle" ∧ (parseMethodDescriptor yX6_cutTo.desc).map (fun d => d.parameters.length) = some 1 := by decide +kernel
set_option maxHeartbeats 4000000 in
set_option maxRecDepth 100000 in
theorem f_X6_cutTo (l : Launch) (E : EE) (sz : Nat) {a_ a_bytes : Nat} {p1 : Int32} {c_length : Int32} {rr : Int32} {n_length : Int32} (hF : F_X6_cutTo p1 c_length = some (rr, n_length)) : Met l yX6_cutTo v_f_X6_cutTo (({ frames := 0, cells := 0, slots := 0, locals := 0 } : Room)) (va_Pc [.ref a_, .int p1] (pW E sz (w_X6_cutTo E a_ a_bytes c_length))) (va_Qi (fun (q : Int32) (_u : Unit) => q = rr ∧ (q = 0 ∨ q = 1)) (fun (_u : Unit) tt => va_P E.1 vwCl (w_X6_cutTo E a_ a_bytes n_length) tt.heap ∧ va_D (va_A (w_X6_cutTo E a_ a_bytes c_length) sz) (w_X6_cutTo E a_ a_bytes n_length)) (va_A (w_X6_cutTo E a_ a_bytes c_length) sz)) 0 0 (va_A (w_X6_cutTo E a_ a_bytes c_length) sz) := by
  refine Met.ofW (cc := cX6_cutTo) (maxL := 2) (ret := (some .boolean)) (by decide) rfl ?_
  intro p e s m args below meth c s₁ B hml hv
  obtain ⟨rfl, hsz, ⟨hK, hN⟩, hP, hD0⟩ := hv
  have hx := B.exec
  have hb := B.bytes
  have hr := B.returns
  have hts := atoms_spec (ws := v_f_X6_cutTo) B.pre
  have hown : s.vm.findClass RX6 = some m.cls := own_of hd_X6_cutTo.1 (findClass_of_methodNamed B.named)
  have hlocks : meth.locks = false := B.notSynchronized
  subst hsz
  have hD := hD0.self (sz := s.heap.size)
  generalize hAe : va_A (w_X6_cutTo E a_ a_bytes c_length) s.heap.size = A at hD ⊢
  have hA : ∀ q : Nat, s.heap.size ≤ q → A q := fun q h => by rw [← hAe]; exact Or.inr h
  have hS : va_S A s.heap s.heap [] := va_S.rf
  have hl := lv_entry ([.ref a_, .int p1]) (n := 2) (Nat.le_of_ble_eq_true rfl)
  rw [lg_entry_eq]
  generalize (lg_sl ([.ref a_, .int p1]) ++ List.replicate (2 - (lg_sl ([.ref a_, .int p1])).length) Slot.unset).toArray = ls at hl ⊢
  have hl : lv_has ls 2 [(0, .ref a_), (1, .int p1)] := hl
  obtain ⟨Q, hQ⟩ : ∃ Q : State → Prop, Q = MQ below (va_Qi (fun (q : Int32) (_u : Unit) => q = rr ∧ (q = 0 ∨ q = 1)) (fun (_u : Unit) tt => va_P E.1 vwCl (w_X6_cutTo E a_ a_bytes n_length) tt.heap ∧ va_D A (w_X6_cutTo E a_ a_bytes n_length)) A) #[Value.ref a_, Value.int p1] s 0 0 A := ⟨_, rfl⟩
  rw [← hQ]
  change W p l e ({ frames := 0, cells := 0, slots := 0, locals := 0 } : Room) s m #[Value.ref a_, Value.int p1] below meth c s.heap [] 0 0 Q (F0 m 0 ls [])
  suffices hh9 : ∀ (H : Heap) (locs : List Loc), va_P E.1 vwCl (w_X6_cutTo E a_ a_bytes c_length) H → va_D A (w_X6_cutTo E a_ a_bytes c_length) → va_S A s.heap H locs → W p l e ({ frames := 0, cells := 0, slots := 0, locals := 0 } : Room) s m #[Value.ref a_, Value.int p1] below meth c H locs 0 0 Q (F0 m 0 ls []) from hh9 s.heap [] hP hD hS
  clear hP hD hS
  intro H locs hP hD hS
  have h9 := fixPD (ws' := [k_X6 a_ a_bytes c_length]) hP hD rfl
  clear hP hD
  obtain ⟨hP, hD⟩ := h9
  unfold F_X6_cutTo at hF
  refine lv_iload_n hx hb (dq_27 0 bcX6_cutTo_0 (j := 0) rfl rfl) rfl (lv_at hl 1 rfl) ?_
  refine lv_if_lt (tgt := 12) hx hb (dq_155 0 bcX6_cutTo_0 (j := 1) (i := 11) rfl rfl rfl) (by decide) (fun c_1 => ?_) (fun c_1 => ?_)
  ·
    replace hF := ip c_1 hF
    refine lv_iconst (v := 0) hx hb (dq_3 0 bcX6_cutTo_0 (j := 12) rfl rfl) (by decide) ?_
    rw [hQ]
    have h9 := fin9 (P := fun u9 : Int32 × Int32 => (0 : Int32) = u9.1 ∧ va_P E.1 vwCl (w_X6_cutTo E a_ a_bytes u9.2) H ∧ va_D A (w_X6_cutTo E a_ a_bytes u9.2)) hF ⟨rfl, hP, hD⟩
    obtain ⟨e9_0, hP9, hD9⟩ := h9
    exact W.zret (v := (0 : Int32)) hx hb hr rfl (fun tt ht hW => ⟨⟨_, (), rfl, ⟨e9_0, Or.inl rfl⟩, ht ▸ hP9, hD9⟩, hS.F ht⟩) hS.2.2 (dq_172 0 bcX6_cutTo_0 (j := 13) rfl rfl)
  ·
    replace hF := inn c_1 hF
    refine lv_iload_n hx hb (dq_27 0 bcX6_cutTo_0 (j := 4) rfl rfl) rfl (lv_at hl 1 rfl) ?_
    refine lv_aload_n hx hb (dq_42 0 bcX6_cutTo_0 (j := 5) rfl rfl) rfl (lv_at hl 0 rfl) ?_
    refine gt_X6_1 (v := .int c_length) hx hb hts i_f_X6_cutTo_X6 hown hK hP 0 rfl (hts (.fieldLink RX6 15 "HushWatch$Tape" "length" "I") (List.mem_of_getElem? (i := 1) rfl)) rfl (dq_180 0 bcX6_cutTo_0 (j := 6) (i := 15) rfl rfl rfl) ?_
    refine lv_icmp_le (tgt := 14) hx hb (dq_164 0 bcX6_cutTo_0 (j := 9) (i := 5) rfl rfl rfl) (by decide) (fun c_2 => ?_) (fun c_2 => ?_)
    ·
      replace hF := ip c_2 hF
      refine lv_aload_n hx hb (dq_42 0 bcX6_cutTo_0 (j := 14) rfl rfl) rfl (lv_at hl 0 rfl) ?_
      refine lv_iload_n hx hb (dq_27 0 bcX6_cutTo_0 (j := 15) rfl rfl) rfl (lv_at hl 1 rfl) ?_
      refine pt_X6_1 (v := .int p1) hx hb hts i_f_X6_cutTo_X6 hown hK hP hD hS 0 rfl (hts (.fieldLink RX6 15 "HushWatch$Tape" "length" "I") (List.mem_of_getElem? (i := 1) rfl)) rfl rfl (Nat.le_of_ble_eq_true rfl) (dq_181 0 bcX6_cutTo_0 (j := 16) (i := 15) rfl rfl rfl) (fun H locs hP hD hS => ?_)
      have h9 := fixPD (ws' := [k_X6 a_ a_bytes p1]) hP hD rfl
      clear hP hD
      obtain ⟨hP, hD⟩ := h9
      refine lv_iconst (v := 1) hx hb (dq_4 0 bcX6_cutTo_0 (j := 19) rfl rfl) (by decide) ?_
      rw [hQ]
      have h9 := fin9 (P := fun u9 : Int32 × Int32 => (1 : Int32) = u9.1 ∧ va_P E.1 vwCl (w_X6_cutTo E a_ a_bytes u9.2) H ∧ va_D A (w_X6_cutTo E a_ a_bytes u9.2)) hF ⟨rfl, hP, hD⟩
      obtain ⟨e9_0, hP9, hD9⟩ := h9
      exact W.zret (v := (1 : Int32)) hx hb hr rfl (fun tt ht hW => ⟨⟨_, (), rfl, ⟨e9_0, Or.inr rfl⟩, ht ▸ hP9, hD9⟩, hS.F ht⟩) hS.2.2 (dq_172 0 bcX6_cutTo_0 (j := 20) rfl rfl)
    ·
      replace hF := inn c_2 hF
      refine lv_iconst (v := 0) hx hb (dq_3 0 bcX6_cutTo_0 (j := 12) rfl rfl) (by decide) ?_
      rw [hQ]
      have h9 := fin9 (P := fun u9 : Int32 × Int32 => (0 : Int32) = u9.1 ∧ va_P E.1 vwCl (w_X6_cutTo E a_ a_bytes u9.2) H ∧ va_D A (w_X6_cutTo E a_ a_bytes u9.2)) hF ⟨rfl, hP, hD⟩
      obtain ⟨e9_0, hP9, hD9⟩ := h9
      exact W.zret (v := (0 : Int32)) hx hb hr rfl (fun tt ht hW => ⟨⟨_, (), rfl, ⟨e9_0, Or.inl rfl⟩, ht ▸ hP9, hD9⟩, hS.F ht⟩) hS.2.2 (dq_172 0 bcX6_cutTo_0 (j := 13) rfl rfl)

def F_X6_signAt (p1 : Int32) (c_bytes : Nat → Int32) (c_length : Int32) : Option (Int32) :=
  if p1 < (0 : Int32) then some (-1 : Int32) else if c_length ≤ p1 then some (-1 : Int32) else if (320 : Int32) ≤ p1 then some (-1 : Int32) else ixF p1 320 (some ((c_bytes p1.toNatClampNeg) &&& (255 : Int32)))
abbrev w_X6_signAt (E : EE) (a_ a_bytes : Nat) (c_length : Int32) (c_bytes : Nat → Int32) : va_W := [k_X6 a_ a_bytes c_length, k_B E a_bytes 320 c_bytes]
def v_f_X6_signAt : List Cond := List.cons (.code yX6_signAt cX6_signAt 2 (some .int)) (HAppend.hAppend (α := List Cond) (β := List Cond) (γ := List Cond) [.fieldLink RX6 15 "HushWatch$Tape" "length" "I", .fieldLink RX6 11 "HushWatch$Tape" "bytes" "[B"] (HAppend.hAppend (α := List Cond) (β := List Cond) (γ := List Cond) wsX60 []))
theorem gw_f_X6_signAt : v_f_X6_signAt.all goodWord = true := gw_c2 (by decide +kernel) (gw_ap gw_wsX60 gw_nil)
theorem i_f_X6_signAt_X6 : ∀ w ∈ wsX60, w ∈ v_f_X6_signAt := fun _ h => List.mem_cons_of_mem _ (List.mem_append_right _ (List.mem_append_left _ h))
theorem hd_X6_signAt : yX6_signAt.cls = RX6 ∧ yX6_signAt.cls ≠ "java/lang/invoke/MethodHandle" ∧ yX6_signAt.cls ≠ "java/lang/invoke/VarHandle" ∧ (parseMethodDescriptor yX6_signAt.desc).map (fun d => d.parameters.length) = some 1 := by decide +kernel
set_option maxHeartbeats 4000000 in
set_option maxRecDepth 100000 in
theorem f_X6_signAt (l : Launch) (E : EE) {a_ a_bytes : Nat} {p1 : Int32} {c_length : Int32} {c_bytes : Nat → Int32} {rr : Int32} (hF : F_X6_signAt p1 c_bytes c_length = some rr) : Met l yX6_signAt v_f_X6_signAt (({ frames := 0, cells := 0, slots := 0, locals := 0 } : Room)) (va_Pc [.ref a_, .int p1] (pP E (w_X6_signAt E a_ a_bytes c_length c_bytes))) (vp_Si (fun q : Int32 => q = rr)) 0 0 (fun _ => False) := by
  refine Met.ofW (cc := cX6_signAt) (maxL := 2) (ret := (some .int)) (by decide) rfl ?_
  intro p e s m args below meth c s₁ B hml hv
  obtain ⟨rfl, ⟨hK, hN⟩, hP⟩ := hv
  have hx := B.exec
  have hb := B.bytes
  have hr := B.returns
  have hts := atoms_spec (ws := v_f_X6_signAt) B.pre
  have hown : s.vm.findClass RX6 = some m.cls := own_of hd_X6_signAt.1 (findClass_of_methodNamed B.named)
  have hlocks : meth.locks = false := B.notSynchronized
  replace hP : va_P E.1 vwCl [k_X6 a_ a_bytes c_length, k_B E a_bytes 320 c_bytes] s.heap := hP
  have hl := lv_entry ([.ref a_, .int p1]) (n := 2) (Nat.le_of_ble_eq_true rfl)
  rw [lg_entry_eq]
  generalize (lg_sl ([.ref a_, .int p1]) ++ List.replicate (2 - (lg_sl ([.ref a_, .int p1])).length) Slot.unset).toArray = ls at hl ⊢
  have hl : lv_has ls 2 [(0, .ref a_), (1, .int p1)] := hl
  obtain ⟨Q, hQ⟩ : ∃ Q : State → Prop, Q = MQ below (vp_Si (fun q : Int32 => q = rr)) #[Value.ref a_, Value.int p1] s 0 0 (fun _ => False) := ⟨_, rfl⟩
  rw [← hQ]
  change W p l e ({ frames := 0, cells := 0, slots := 0, locals := 0 } : Room) s m #[Value.ref a_, Value.int p1] below meth c s.heap [] 0 0 Q (F0 m 0 ls [])
  unfold F_X6_signAt at hF
  refine lv_iload_n hx hb (dq_27 0 bcX6_signAt_0 (j := 0) rfl rfl) rfl (lv_at hl 1 rfl) ?_
  refine lv_if_lt (tgt := 32) hx hb (dq_155 0 bcX6_signAt_0 (j := 1) (i := 31) rfl rfl rfl) (by decide) (fun c_1 => ?_) (fun c_1 => ?_)
  ·
    replace hF := ip c_1 hF
    refine lv_iconst (v := -1) hx hb (dq_2 0 bcX6_signAt_0 (j := 32) rfl rfl) (by decide) ?_
    rw [hQ]
    obtain e9_0 := inj1 hF
    exact W.iret (v := (-1 : Int32)) hx hb hr (fun tt ht hW => ⟨_, rfl, e9_0, ht⟩) (fun _ h => by cases h) (dq_172 0 bcX6_signAt_0 (j := 33) rfl rfl)
  ·
    replace hF := inn c_1 hF
    refine lv_iload_n hx hb (dq_27 0 bcX6_signAt_0 (j := 4) rfl rfl) rfl (lv_at hl 1 rfl) ?_
    refine lv_aload_n hx hb (dq_42 0 bcX6_signAt_0 (j := 5) rfl rfl) rfl (lv_at hl 0 rfl) ?_
    refine gt_X6_1 (v := .int c_length) hx hb hts i_f_X6_signAt_X6 hown hK hP 0 rfl (hts (.fieldLink RX6 15 "HushWatch$Tape" "length" "I") (List.mem_of_getElem? (i := 1) rfl)) rfl (dq_180 0 bcX6_signAt_0 (j := 6) (i := 15) rfl rfl rfl) ?_
    refine lv_icmp_ge (tgt := 32) hx hb (dq_162 0 bcX6_signAt_0 (j := 9) (i := 23) rfl rfl rfl) (by decide) (fun c_2 => ?_) (fun c_2 => ?_)
    ·
      replace hF := ip c_2 hF
      refine lv_iconst (v := -1) hx hb (dq_2 0 bcX6_signAt_0 (j := 32) rfl rfl) (by decide) ?_
      rw [hQ]
      obtain e9_0 := inj1 hF
      exact W.iret (v := (-1 : Int32)) hx hb hr (fun tt ht hW => ⟨_, rfl, e9_0, ht⟩) (fun _ h => by cases h) (dq_172 0 bcX6_signAt_0 (j := 33) rfl rfl)
    ·
      replace hF := inn c_2 hF
      refine lv_iload_n hx hb (dq_27 0 bcX6_signAt_0 (j := 12) rfl rfl) rfl (lv_at hl 1 rfl) ?_
      refine lv_sipush (v := 320) hx hb (dq_17 0 bcX6_signAt_0 (j := 13) (i := 320) rfl rfl rfl) (by decide) ?_
      refine lv_icmp_ge (tgt := 32) hx hb (dq_162 0 bcX6_signAt_0 (j := 16) (i := 16) rfl rfl rfl) (by decide) (fun c_3 => ?_) (fun c_3 => ?_)
      ·
        replace hF := ip c_3 hF
        refine lv_iconst (v := -1) hx hb (dq_2 0 bcX6_signAt_0 (j := 32) rfl rfl) (by decide) ?_
        rw [hQ]
        obtain e9_0 := inj1 hF
        exact W.iret (v := (-1 : Int32)) hx hb hr (fun tt ht hW => ⟨_, rfl, e9_0, ht⟩) (fun _ h => by cases h) (dq_172 0 bcX6_signAt_0 (j := 33) rfl rfl)
      ·
        replace hF := inn c_3 hF
        refine lv_aload_n hx hb (dq_42 0 bcX6_signAt_0 (j := 19) rfl rfl) rfl (lv_at hl 0 rfl) ?_
        refine gt_X6_0 (v := .ref a_bytes) hx hb hts i_f_X6_signAt_X6 hown hK hP 0 rfl (hts (.fieldLink RX6 11 "HushWatch$Tape" "bytes" "[B") (List.mem_of_getElem? (i := 2) rfl)) rfl (dq_180 0 bcX6_signAt_0 (j := 20) (i := 11) rfl rfl rfl) ?_
        refine lv_iload_n hx hb (dq_27 0 bcX6_signAt_0 (j := 23) rfl rfl) rfl (lv_at hl 1 rfl) ?_
        replace hF := ix_s hF
        obtain ⟨hi_4, hF⟩ := hF
        refine va_bald hx hb hK hP 1 1 rfl rfl hi_4 (dq_51 0 bcX6_signAt_0 (j := 24) rfl rfl) ?_
        refine lv_sipush (v := 255) hx hb (dq_17 0 bcX6_signAt_0 (j := 25) (i := 255) rfl rfl rfl) (by decide) ?_
        refine lv_iand hx hb (dq_126 0 bcX6_signAt_0 (j := 28) rfl rfl) ?_
        refine lv_goto (tgt := 33) hx hb (dq_167 0 bcX6_signAt_0 (j := 29) (i := 4) rfl rfl rfl) (by decide) ?_
        rw [hQ]
        obtain e9_0 := inj1 hF
        exact W.iret (v := (c_bytes p1.toNatClampNeg) &&& (255 : Int32)) hx hb hr (fun tt ht hW => ⟨_, rfl, e9_0, ht⟩) (fun _ h => by cases h) (dq_172 0 bcX6_signAt_0 (j := 33) rfl rfl)

def B_X6_take_3 (p1 : Int32) (x2 : Int32) (c_bytes : Nat → Int32) (c_length : Int32) : Option ((Int32 × (Nat → Int32) × Int32) ⊕ ((Nat → Int32) × Int32)) :=
  if x2 < (0 : Int32) then some (.inr (c_bytes, c_length)) else if (ushrF p1 x2) &&& (255 : Int32) = (0 : Int32) then some (.inl (x2 + (-8 : Int32), c_bytes, c_length)) else if (320 : Int32) ≤ c_length then some (.inl (x2 + (-8 : Int32), c_bytes, c_length)) else ixF c_length 320 (nmF (upd c_bytes c_length.toNatClampNeg (vp_nar .byte (((ushrF p1 x2) &&& (255 : Int32)).toInt8.toInt32))) (fun f_5 => some (.inl (x2 + (-8 : Int32), f_5, c_length + (1 : Int32)))))
def F_X6_take (K : Nat) (p1 : Int32) (c_bytes : Nat → Int32) (c_length : Int32) : Option ((Nat → Int32) × Int32) :=
  bd2 (lpF (fun u9 : Int32 × (Nat → Int32) × Int32 => B_X6_take_3 p1 u9.1 u9.2.1 u9.2.2) K ((24 : Int32), c_bytes, c_length)) (fun c_bytes_6 c_length_7 => some (c_bytes_6, c_length_7))
abbrev w_X6_take (E : EE) (a_ a_bytes : Nat) (c_length : Int32) (c_bytes : Nat → Int32) : va_W := [k_X6 a_ a_bytes c_length, k_B E a_bytes 320 c_bytes]
def v_f_X6_take : List Cond := List.cons (.code yX6_take cX6_take 4 none) (HAppend.hAppend (α := List Cond) (β := List Cond) (γ := List Cond) [.fieldLink RX6 15 "HushWatch$Tape" "length" "I", .fieldLink RX6 11 "HushWatch$Tape" "bytes" "[B"] (HAppend.hAppend (α := List Cond) (β := List Cond) (γ := List Cond) wsX60 []))
theorem gw_f_X6_take : v_f_X6_take.all goodWord = true := gw_c2 (by decide +kernel) (gw_ap gw_wsX60 gw_nil)
theorem i_f_X6_take_X6 : ∀ w ∈ wsX60, w ∈ v_f_X6_take := fun _ h => List.mem_cons_of_mem _ (List.mem_append_right _ (List.mem_append_left _ h))
theorem hd_X6_take : yX6_take.cls = RX6 ∧ yX6_take.cls ≠ "java/lang/invoke/MethodHandle" ∧ yX6_take.cls ≠ "java/lang/invoke/VarHandle" ∧ (parseMethodDescriptor yX6_take.desc).map (fun d => d.parameters.length) = some 1 := by decide +kernel
set_option maxHeartbeats 4000000 in
set_option maxRecDepth 100000 in
theorem wb_X6_take_3 {p : Program} (l : Launch) {e : Env} {s : State} {m : MethodId} {below : List Frame} {meth : Method} {c : Code} {Q : State → Prop} (E : EE) (K : Nat) {a_ a_bytes : Nat} {p1 : Int32} {x2 : Int32} {c_bytes : Nat → Int32} {c_length : Int32} (hx : p.tables.exec = Jvm.exec) (hb : c.code = cX6_take) (hml : c.maxLocals = 4) (hown : s.vm.findClass RX6 = some m.cls) (hts : ∀ w ∈ v_f_X6_take, w.before #[Value.ref a_, Value.int p1] s = true) (hK : va_K E.1 vwCl (TY E) s) (hN : NX s) {A : Nat → Prop} (hA : ∀ q : Nat, s.heap.size ≤ q → A q) {xx : (Int32 × (Nat → Int32) × Int32) ⊕ ((Nat → Int32) × Int32)} (hC : ∀ (x2 : Int32), ∀ (c_bytes : Nat → Int32), ∀ (c_length : Int32), xx = .inl (x2, c_bytes, c_length) → ∀ (H : Heap) (locs : List Loc) (ls : Array Slot), va_P E.1 vwCl (w_X6_take E a_ a_bytes c_length c_bytes) H → va_D A (w_X6_take E a_ a_bytes c_length c_bytes) → va_S A s.heap H locs → lv_has ls 4 [(0, .ref a_), (1, .int p1), (2, .int x2)] → W p l e ({ frames := 0, cells := 0, slots := 0, locals := 0 } : Room) s m #[Value.ref a_, Value.int p1] below meth c H locs 0 0 Q (F0 m 3 ls [])) (hE : ∀ (c_bytes : Nat → Int32), ∀ (c_length : Int32), xx = .inr (c_bytes, c_length) → ((∀ (H : Heap) (locs : List Loc) (ls : Array Slot), va_P E.1 vwCl (w_X6_take E a_ a_bytes c_length c_bytes) H → va_D A (w_X6_take E a_ a_bytes c_length c_bytes) → va_S A s.heap H locs → lv_has ls 4 [] → W p l e ({ frames := 0, cells := 0, slots := 0, locals := 0 } : Room) s m #[Value.ref a_, Value.int p1] below meth c H locs 0 0 Q (F0 m 56 ls [])))) (hF : B_X6_take_3 p1 x2 c_bytes c_length = some xx) : ∀ (H : Heap) (locs : List Loc) (ls : Array Slot), va_P E.1 vwCl (w_X6_take E a_ a_bytes c_length c_bytes) H → va_D A (w_X6_take E a_ a_bytes c_length c_bytes) → va_S A s.heap H locs → lv_has ls 4 [(0, .ref a_), (1, .int p1), (2, .int x2)] → W p l e ({ frames := 0, cells := 0, slots := 0, locals := 0 } : Room) s m #[Value.ref a_, Value.int p1] below meth c H locs 0 0 Q (F0 m 3 ls []) := by
  unfold B_X6_take_3 at hF
  intro H locs ls hP hD hS hl
  have h9 := fixPD (ws' := [k_X6 a_ a_bytes c_length, k_B E a_bytes 320 c_bytes]) hP hD rfl
  clear hP hD
  obtain ⟨hP, hD⟩ := h9
  refine lv_iload_n hx hb (dq_28 0 bcX6_take_0 (j := 3) rfl rfl) rfl (lv_at hl 2 rfl) ?_
  refine lv_if_lt (tgt := 56) hx hb (dq_155 0 bcX6_take_0 (j := 4) (i := 52) rfl rfl rfl) (by decide) (fun c_1 => ?_) (fun c_1 => ?_)
  ·
    replace hF := ip c_1 hF
    cases hF
    exact hE c_bytes c_length rfl H locs ls (hP.sub [0, 1] rfl) (hD.sub [0, 1] (by decide) rfl) hS (lv_sub hl [] rfl)
  ·
    replace hF := inn c_1 hF
    refine lv_iload_n hx hb (dq_27 0 bcX6_take_0 (j := 7) rfl rfl) rfl (lv_at hl 1 rfl) ?_
    refine lv_iload_n hx hb (dq_28 0 bcX6_take_0 (j := 8) rfl rfl) rfl (lv_at hl 2 rfl) ?_
    refine lv_iushr (v := (ushrF p1 x2)) hx hb (dq_124 0 bcX6_take_0 (j := 9) rfl rfl) rfl ?_
    refine lv_sipush (v := 255) hx hb (dq_17 0 bcX6_take_0 (j := 10) (i := 255) rfl rfl rfl) (by decide) ?_
    refine lv_iand hx hb (dq_126 0 bcX6_take_0 (j := 13) rfl rfl) ?_
    refine lv_istore_n (lv' := [(3, .int ((ushrF p1 x2) &&& (255 : Int32))), (0, .ref a_), (1, .int p1), (2, .int x2)]) hx hb (dq_62 0 bcX6_take_0 (j := 14) rfl rfl) rfl hl (by decide) rfl (fun ls hl => ?_)
    refine lv_iload_n hx hb (dq_29 0 bcX6_take_0 (j := 15) rfl rfl) rfl (lv_at hl 0 rfl) ?_
    refine lv_if_eq (tgt := 50) hx hb (dq_153 0 bcX6_take_0 (j := 16) (i := 34) rfl rfl rfl) (by decide) (fun c_2 => ?_) (fun c_2 => ?_)
    ·
      replace hF := ip c_2 hF
      refine lv_iinc (v := x2 + (-8 : Int32)) (lv' := [(2, .int (x2 + (-8 : Int32))), (3, .int ((ushrF p1 x2) &&& (255 : Int32))), (0, .ref a_), (1, .int p1)]) hx hb (dq_132 48 bcX6_take_1 (j := 2) (i := -8) rfl rfl rfl) hl (k := 3) rfl (by exact rfl) (by decide) rfl (fun ls hl => ?_)
      refine lv_goto (tgt := 3) hx hb (dq_167 48 bcX6_take_1 (j := 5) (i := -50) rfl rfl rfl) (by decide) ?_
      cases hF
      exact hC (x2 + (-8 : Int32)) c_bytes c_length rfl H locs ls (hP.sub [0, 1] rfl) (hD.sub [0, 1] (by decide) rfl) hS (lv_sub hl [2, 3, 0] rfl)
    ·
      replace hF := inn c_2 hF
      refine lv_aload_n hx hb (dq_42 0 bcX6_take_0 (j := 19) rfl rfl) rfl (lv_at hl 1 rfl) ?_
      refine gt_X6_1 (v := .int c_length) hx hb hts i_f_X6_take_X6 hown hK hP 0 rfl (hts (.fieldLink RX6 15 "HushWatch$Tape" "length" "I") (List.mem_of_getElem? (i := 1) rfl)) rfl (dq_180 0 bcX6_take_0 (j := 20) (i := 15) rfl rfl rfl) ?_
      refine lv_sipush (v := 320) hx hb (dq_17 0 bcX6_take_0 (j := 23) (i := 320) rfl rfl rfl) (by decide) ?_
      refine lv_icmp_ge (tgt := 50) hx hb (dq_162 0 bcX6_take_0 (j := 26) (i := 24) rfl rfl rfl) (by decide) (fun c_3 => ?_) (fun c_3 => ?_)
      ·
        replace hF := ip c_3 hF
        refine lv_iinc (v := x2 + (-8 : Int32)) (lv' := [(2, .int (x2 + (-8 : Int32))), (3, .int ((ushrF p1 x2) &&& (255 : Int32))), (0, .ref a_), (1, .int p1)]) hx hb (dq_132 48 bcX6_take_1 (j := 2) (i := -8) rfl rfl rfl) hl (k := 3) rfl (by exact rfl) (by decide) rfl (fun ls hl => ?_)
        refine lv_goto (tgt := 3) hx hb (dq_167 48 bcX6_take_1 (j := 5) (i := -50) rfl rfl rfl) (by decide) ?_
        cases hF
        exact hC (x2 + (-8 : Int32)) c_bytes c_length rfl H locs ls (hP.sub [0, 1] rfl) (hD.sub [0, 1] (by decide) rfl) hS (lv_sub hl [2, 3, 0] rfl)
      ·
        replace hF := inn c_3 hF
        refine lv_aload_n hx hb (dq_42 0 bcX6_take_0 (j := 29) rfl rfl) rfl (lv_at hl 1 rfl) ?_
        refine gt_X6_0 (v := .ref a_bytes) hx hb hts i_f_X6_take_X6 hown hK hP 0 rfl (hts (.fieldLink RX6 11 "HushWatch$Tape" "bytes" "[B") (List.mem_of_getElem? (i := 2) rfl)) rfl (dq_180 0 bcX6_take_0 (j := 30) (i := 11) rfl rfl rfl) ?_
        refine lv_aload_n hx hb (dq_42 0 bcX6_take_0 (j := 33) rfl rfl) rfl (lv_at hl 1 rfl) ?_
        refine gt_X6_1 (v := .int c_length) hx hb hts i_f_X6_take_X6 hown hK hP 0 rfl (hts (.fieldLink RX6 15 "HushWatch$Tape" "length" "I") (List.mem_of_getElem? (i := 1) rfl)) rfl (dq_180 0 bcX6_take_0 (j := 34) (i := 15) rfl rfl rfl) ?_
        refine lv_iload_n hx hb (dq_29 0 bcX6_take_0 (j := 37) rfl rfl) rfl (lv_at hl 0 rfl) ?_
        refine lv_i2b (v := ((ushrF p1 x2) &&& (255 : Int32)).toInt8.toInt32) hx hb (dq_145 0 bcX6_take_0 (j := 38) rfl rfl) rfl ?_
        replace hF := ix_s hF
        obtain ⟨hi_4, hF⟩ := hF
        refine va_bast hx hb hK hP hD hS 1 1 rfl rfl hi_4 (dq_84 0 bcX6_take_0 (j := 39) rfl rfl) (fun H locs hP hD hS => ?_)
        have h9 := fixPD (ws' := [k_X6 a_ a_bytes c_length, k_B E a_bytes 320 (upd c_bytes c_length.toNatClampNeg (vp_nar .byte (((ushrF p1 x2) &&& (255 : Int32)).toInt8.toInt32)))]) hP hD rfl
        clear hP hD
        obtain ⟨hP, hD⟩ := h9
        replace hF := nm_s hF
        obtain ⟨f_5, hf_5, hF⟩ := hF
        rw [← hf_5] at hP hD
        refine lv_aload_n hx hb (dq_42 0 bcX6_take_0 (j := 40) rfl rfl) rfl (lv_at hl 1 rfl) ?_
        refine lv_dup hx hb (dq_89 0 bcX6_take_0 (j := 41) rfl rfl) rfl ?_
        refine gt_X6_1 (v := .int c_length) hx hb hts i_f_X6_take_X6 hown hK hP 0 rfl (hts (.fieldLink RX6 15 "HushWatch$Tape" "length" "I") (List.mem_of_getElem? (i := 1) rfl)) rfl (dq_180 0 bcX6_take_0 (j := 42) (i := 15) rfl rfl rfl) ?_
        refine lv_iconst (v := 1) hx hb (dq_4 0 bcX6_take_0 (j := 45) rfl rfl) (by decide) ?_
        refine lv_iadd hx hb (dq_96 0 bcX6_take_0 (j := 46) rfl rfl) ?_
        refine pt_X6_1 (v := .int (c_length + (1 : Int32))) hx hb hts i_f_X6_take_X6 hown hK hP hD hS 0 rfl (hts (.fieldLink RX6 15 "HushWatch$Tape" "length" "I") (List.mem_of_getElem? (i := 1) rfl)) rfl rfl (Nat.le_of_ble_eq_true rfl) (dq_181 0 bcX6_take_0 (j := 47) (i := 15) rfl rfl rfl) (fun H locs hP hD hS => ?_)
        have h9 := fixPD (ws' := [k_X6 a_ a_bytes (c_length + (1 : Int32)), k_B E a_bytes 320 f_5]) hP hD rfl
        clear hP hD
        obtain ⟨hP, hD⟩ := h9
        refine lv_iinc (v := x2 + (-8 : Int32)) (lv' := [(2, .int (x2 + (-8 : Int32))), (3, .int ((ushrF p1 x2) &&& (255 : Int32))), (0, .ref a_), (1, .int p1)]) hx hb (dq_132 48 bcX6_take_1 (j := 2) (i := -8) rfl rfl rfl) hl (k := 3) rfl (by exact rfl) (by decide) rfl (fun ls hl => ?_)
        refine lv_goto (tgt := 3) hx hb (dq_167 48 bcX6_take_1 (j := 5) (i := -50) rfl rfl rfl) (by decide) ?_
        cases hF
        exact hC (x2 + (-8 : Int32)) f_5 (c_length + (1 : Int32)) rfl H locs ls (hP.sub [0, 1] rfl) (hD.sub [0, 1] (by decide) rfl) hS (lv_sub hl [2, 3, 0] rfl)

set_option maxHeartbeats 4000000 in
set_option maxRecDepth 100000 in
theorem lw_X6_take_3 {p : Program} (l : Launch) {e : Env} {s : State} {m : MethodId} {below : List Frame} {meth : Method} {c : Code} {Q : State → Prop} (E : EE) (K : Nat) {a_ a_bytes : Nat} {p1 : Int32} (hx : p.tables.exec = Jvm.exec) (hb : c.code = cX6_take) (hml : c.maxLocals = 4) (hown : s.vm.findClass RX6 = some m.cls) (hts : ∀ w ∈ v_f_X6_take, w.before #[Value.ref a_, Value.int p1] s = true) (hK : va_K E.1 vwCl (TY E) s) (hN : NX s) {A : Nat → Prop} (hA : ∀ q : Nat, s.heap.size ≤ q → A q) (j9 : Nat) (x2 : Int32) (c_bytes : Nat → Int32) (c_length : Int32) (c_bytes' : Nat → Int32) (c_length' : Int32) (hL : lpF (fun u9 : Int32 × (Nat → Int32) × Int32 => B_X6_take_3 p1 u9.1 u9.2.1 u9.2.2) j9 (x2, c_bytes, c_length) = some (c_bytes', c_length')) (hX : (∀ (H : Heap) (locs : List Loc) (ls : Array Slot), va_P E.1 vwCl (w_X6_take E a_ a_bytes c_length' c_bytes') H → va_D A (w_X6_take E a_ a_bytes c_length' c_bytes') → va_S A s.heap H locs → lv_has ls 4 [] → W p l e ({ frames := 0, cells := 0, slots := 0, locals := 0 } : Room) s m #[Value.ref a_, Value.int p1] below meth c H locs 0 0 Q (F0 m 56 ls []))) : ∀ (H : Heap) (locs : List Loc) (ls : Array Slot), va_P E.1 vwCl (w_X6_take E a_ a_bytes c_length c_bytes) H → va_D A (w_X6_take E a_ a_bytes c_length c_bytes) → va_S A s.heap H locs → lv_has ls 4 [(0, .ref a_), (1, .int p1), (2, .int x2)] → W p l e ({ frames := 0, cells := 0, slots := 0, locals := 0 } : Room) s m #[Value.ref a_, Value.int p1] below meth c H locs 0 0 Q (F0 m 3 ls []) := by
  exact lp_rule (P := (fun u9 : Int32 × (Nat → Int32) × Int32 => ∀ (H : Heap) (locs : List Loc) (ls : Array Slot), va_P E.1 vwCl (w_X6_take E a_ a_bytes u9.2.2 u9.2.1) H → va_D A (w_X6_take E a_ a_bytes u9.2.2 u9.2.1) → va_S A s.heap H locs → lv_has ls 4 [(0, .ref a_), (1, .int p1), (2, .int u9.1)] → W p l e ({ frames := 0, cells := 0, slots := 0, locals := 0 } : Room) s m #[Value.ref a_, Value.int p1] below meth c H locs 0 0 Q (F0 m 3 ls []))) (R := (fun r9 : (Nat → Int32) × Int32 => (∀ (H : Heap) (locs : List Loc) (ls : Array Slot), va_P E.1 vwCl (w_X6_take E a_ a_bytes r9.2 r9.1) H → va_D A (w_X6_take E a_ a_bytes r9.2 r9.1) → va_S A s.heap H locs → lv_has ls 4 [] → W p l e ({ frames := 0, cells := 0, slots := 0, locals := 0 } : Room) s m #[Value.ref a_, Value.int p1] below meth c H locs 0 0 Q (F0 m 56 ls [])))) (fun u9 xx hF hC hE => wb_X6_take_3 l E K (p1 := p1) (x2 := u9.1) (c_bytes := u9.2.1) (c_length := u9.2.2) hx hb hml hown hts hK hN hA (fun x2 c_bytes c_length q9 => hC _ q9) (fun c_bytes c_length q9 => hE _ q9) hF) j9 (x2, c_bytes, c_length) (c_bytes', c_length') hL hX

set_option maxHeartbeats 4000000 in
set_option maxRecDepth 100000 in
theorem f_X6_take (l : Launch) (E : EE) (sz : Nat) (K : Nat) {a_ a_bytes : Nat} {p1 : Int32} {c_length : Int32} {c_bytes : Nat → Int32} {n_bytes : Nat → Int32} {n_length : Int32} (hF : F_X6_take K p1 c_bytes c_length = some (n_bytes, n_length)) : Met l yX6_take v_f_X6_take (({ frames := 0, cells := 0, slots := 0, locals := 0 } : Room)) (va_Pc [.ref a_, .int p1] (pW E sz (w_X6_take E a_ a_bytes c_length c_bytes))) (va_Qv (fun (_u : Unit) => True) (fun (_u : Unit) tt => va_P E.1 vwCl (w_X6_take E a_ a_bytes n_length n_bytes) tt.heap ∧ va_D (va_A (w_X6_take E a_ a_bytes c_length c_bytes) sz) (w_X6_take E a_ a_bytes n_length n_bytes)) (va_A (w_X6_take E a_ a_bytes c_length c_bytes) sz)) 0 0 (va_A (w_X6_take E a_ a_bytes c_length c_bytes) sz) := by
  refine Met.ofW (cc := cX6_take) (maxL := 4) (ret := none) (by decide) rfl ?_
  intro p e s m args below meth c s₁ B hml hv
  obtain ⟨rfl, hsz, ⟨hK, hN⟩, hP, hD0⟩ := hv
  have hx := B.exec
  have hb := B.bytes
  have hr := B.returns
  have hts := atoms_spec (ws := v_f_X6_take) B.pre
  have hown : s.vm.findClass RX6 = some m.cls := own_of hd_X6_take.1 (findClass_of_methodNamed B.named)
  have hlocks : meth.locks = false := B.notSynchronized
  subst hsz
  have hD := hD0.self (sz := s.heap.size)
  generalize hAe : va_A (w_X6_take E a_ a_bytes c_length c_bytes) s.heap.size = A at hD ⊢
  have hA : ∀ q : Nat, s.heap.size ≤ q → A q := fun q h => by rw [← hAe]; exact Or.inr h
  have hS : va_S A s.heap s.heap [] := va_S.rf
  have hl := lv_entry ([.ref a_, .int p1]) (n := 4) (Nat.le_of_ble_eq_true rfl)
  rw [lg_entry_eq]
  generalize (lg_sl ([.ref a_, .int p1]) ++ List.replicate (4 - (lg_sl ([.ref a_, .int p1])).length) Slot.unset).toArray = ls at hl ⊢
  have hl : lv_has ls 4 [(0, .ref a_), (1, .int p1)] := hl
  obtain ⟨Q, hQ⟩ : ∃ Q : State → Prop, Q = MQ below (va_Qv (fun (_u : Unit) => True) (fun (_u : Unit) tt => va_P E.1 vwCl (w_X6_take E a_ a_bytes n_length n_bytes) tt.heap ∧ va_D A (w_X6_take E a_ a_bytes n_length n_bytes)) A) #[Value.ref a_, Value.int p1] s 0 0 A := ⟨_, rfl⟩
  rw [← hQ]
  change W p l e ({ frames := 0, cells := 0, slots := 0, locals := 0 } : Room) s m #[Value.ref a_, Value.int p1] below meth c s.heap [] 0 0 Q (F0 m 0 ls [])
  suffices hh9 : ∀ (H : Heap) (locs : List Loc), va_P E.1 vwCl (w_X6_take E a_ a_bytes c_length c_bytes) H → va_D A (w_X6_take E a_ a_bytes c_length c_bytes) → va_S A s.heap H locs → W p l e ({ frames := 0, cells := 0, slots := 0, locals := 0 } : Room) s m #[Value.ref a_, Value.int p1] below meth c H locs 0 0 Q (F0 m 0 ls []) from hh9 s.heap [] hP hD hS
  clear hP hD hS
  intro H locs hP hD hS
  have h9 := fixPD (ws' := [k_X6 a_ a_bytes c_length, k_B E a_bytes 320 c_bytes]) hP hD rfl
  clear hP hD
  obtain ⟨hP, hD⟩ := h9
  unfold F_X6_take at hF
  refine lv_bipush (v := 24) hx hb (dq_16 0 bcX6_take_0 (j := 0) (i := 24) rfl rfl rfl) (by decide) ?_
  refine lv_istore_n (lv' := [(2, .int (24 : Int32)), (0, .ref a_), (1, .int p1)]) hx hb (dq_61 0 bcX6_take_0 (j := 2) rfl rfl) rfl hl (by decide) rfl (fun ls hl => ?_)
  replace hF := bd2_s hF
  obtain ⟨c_bytes_6, c_length_7, hL_8, hF⟩ := hF
  refine lw_X6_take_3 l E K (p1 := p1) hx hb hml hown hts hK hN hA K (24 : Int32) c_bytes c_length c_bytes_6 c_length_7 hL_8 ?_ H locs ls (hP.sub [0, 1] rfl) (hD.sub [0, 1] (by decide) rfl) hS (lv_sub hl [1, 2, 0] rfl)
  ·
    intro H locs ls hP hD hS hl
    have h9 := fixPD (ws' := [k_X6 a_ a_bytes c_length_7, k_B E a_bytes 320 c_bytes_6]) hP hD rfl
    clear hP hD
    obtain ⟨hP, hD⟩ := h9
    rw [hQ]
    have h9 := fin9 (P := fun u9 : (Nat → Int32) × Int32 => va_P E.1 vwCl (w_X6_take E a_ a_bytes u9.2 u9.1) H ∧ va_D A (w_X6_take E a_ a_bytes u9.2 u9.1)) hF ⟨hP, hD⟩
    obtain ⟨hP9, hD9⟩ := h9
    exact W.vret hx hb hr (fun tt ht hW => ⟨⟨(), rfl, trivial, ht ▸ hP9, hD9⟩, hS.F ht⟩) hS.2.2 (dq_177 48 bcX6_take_1 (j := 8) rfl rfl)
