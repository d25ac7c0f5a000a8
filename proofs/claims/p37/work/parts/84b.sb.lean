-- 84b.sb
section
noncomputable def blJ6_stringSize_0f7a4_0 : List Nat := [4, 60, 26, 155, 0, 8, 3, 60, 26, 116, 59, 16, 246, 61, 4, 62, 29, 16, 10, 162, 0, 23, 26, 28, 164, 0, 7, 29, 27, 96, 172, 16, 10, 28, 104, 61, 132, 3, 1, 167, 255, 233, 16, 10, 27, 96, 172]
set_option maxRecDepth 100000 in
theorem bcJ6_stringSize_0f7a4_0 : ((cJ6_stringSize_0f7a4.data.toList.drop 0).take blJ6_stringSize_0f7a4_0.length).map UInt8.toNat = blJ6_stringSize_0f7a4_0 := by decide +kernel
noncomputable def blJ6_getChars_ba4f3_0 : List Nat := [27, 54, 5, 26, 156, 0, 7, 4, 167, 0, 4, 3, 54, 6, 21, 6, 154, 0, 6, 26, 116, 59, 26, 16, 156, 163, 0, 47, 26, 16, 100, 108, 62, 29, 16, 100, 104, 26, 100, 54, 4, 29, 59, 44, 132, 5, 255, 21, 5, 178, 0]
set_option maxRecDepth 100000 in
theorem bcJ6_getChars_ba4f3_0 : ((cJ6_getChars_ba4f3.data.toList.drop 0).take blJ6_getChars_ba4f3_0.length).map UInt8.toNat = blJ6_getChars_ba4f3_0 := by decide +kernel
noncomputable def blJ6_getChars_ba4f3_1 : List Nat := [5, 178, 0, 83, 21, 4, 51, 84, 44, 132, 5, 255, 21, 5, 178, 0, 87, 21, 4, 51, 84, 167, 255, 209, 44, 132, 5, 255, 21, 5, 178, 0, 83, 26, 116, 51, 84, 26, 16, 247, 162, 0, 16, 44, 132, 5, 255, 21, 5, 178, 0]
set_option maxRecDepth 100000 in
theorem bcJ6_getChars_ba4f3_1 : ((cJ6_getChars_ba4f3.data.toList.drop 48).take blJ6_getChars_ba4f3_1.length).map UInt8.toNat = blJ6_getChars_ba4f3_1 := by decide +kernel
noncomputable def blJ6_getChars_ba4f3_2 : List Nat := [5, 178, 0, 87, 26, 116, 51, 84, 21, 6, 153, 0, 12, 44, 132, 5, 255, 21, 5, 16, 45, 84, 21, 5, 172]
set_option maxRecDepth 100000 in
theorem bcJ6_getChars_ba4f3_2 : ((cJ6_getChars_ba4f3.data.toList.drop 96).take blJ6_getChars_ba4f3_2.length).map UInt8.toNat = blJ6_getChars_ba4f3_2 := by decide +kernel
noncomputable def blJ5_length_8abf5_0 : List Nat := [42, 180, 0, 79, 172]
set_option maxRecDepth 100000 in
theorem bcJ5_length_8abf5_0 : ((cJ5_length_8abf5.data.toList.drop 0).take blJ5_length_8abf5_0.length).map UInt8.toNat = blJ5_length_8abf5_0 := by decide +kernel
noncomputable def blJ5_isLatin1_aae02_0 : List Nat := [178, 0, 18, 153, 0, 14, 42, 180, 0, 22, 154, 0, 7, 4, 167, 0, 4, 3, 172]
set_option maxRecDepth 100000 in
theorem bcJ5_isLatin1_aae02_0 : ((cJ5_isLatin1_aae02.data.toList.drop 0).take blJ5_isLatin1_aae02_0.length).map UInt8.toNat = blJ5_isLatin1_aae02_0 := by decide +kernel
noncomputable def blJ1_canEncode_fc78d_0 : List Nat := [26, 17, 0, 255, 163, 0, 7, 4, 167, 0, 4, 3, 172]
set_option maxRecDepth 100000 in
theorem bcJ1_canEncode_fc78d_0 : ((cJ1_canEncode_fc78d.data.toList.drop 0).take blJ1_canEncode_fc78d_0.length).map UInt8.toNat = blJ1_canEncode_fc78d_0 := by decide +kernel
noncomputable def blJ8_newLength_cabcc_0 : List Nat := [26, 27, 28, 184, 0, 194, 96, 62, 3, 29, 162, 0, 11, 29, 18, 200, 163, 0, 5, 29, 172, 26, 27, 184, 0, 201, 172]
set_option maxRecDepth 100000 in
theorem bcJ8_newLength_cabcc_0 : ((cJ8_newLength_cabcc.data.toList.drop 0).take blJ8_newLength_cabcc_0.length).map UInt8.toNat = blJ8_newLength_cabcc_0 := by decide +kernel
noncomputable def blJ5_newCapacity_0f7a4_0 : List Nat := [42, 180, 0, 15, 190, 61, 27, 42, 180, 0, 22, 120, 62, 29, 28, 100, 54, 4, 28, 21, 4, 28, 5, 42, 180, 0, 22, 120, 96, 184, 0, 114, 54, 5, 21, 5, 18, 39, 160, 0, 13, 187, 0, 120, 89, 18, 122, 183, 0, 124, 191]
set_option maxRecDepth 100000 in
theorem bcJ5_newCapacity_0f7a4_0 : ((cJ5_newCapacity_0f7a4.data.toList.drop 0).take blJ5_newCapacity_0f7a4_0.length).map UInt8.toNat = blJ5_newCapacity_0f7a4_0 := by decide +kernel
noncomputable def blJ5_newCapacity_0f7a4_1 : List Nat := [0, 124, 191, 21, 5, 42, 180, 0, 22, 122, 172]
set_option maxRecDepth 100000 in
theorem bcJ5_newCapacity_0f7a4_1 : ((cJ5_newCapacity_0f7a4.data.toList.drop 48).take blJ5_newCapacity_0f7a4_1.length).map UInt8.toNat = blJ5_newCapacity_0f7a4_1 := by decide +kernel
noncomputable def blJ5_charAt_5068e_0 : List Nat := [42, 180, 0, 22, 61, 42, 180, 0, 15, 78, 42, 180, 0, 79, 45, 190, 28, 122, 184, 0, 138, 54, 4, 27, 21, 4, 184, 0, 144, 28, 154, 0, 12, 45, 27, 51, 17, 0, 255, 126, 146, 172, 45, 27, 184, 0, 148, 172]
set_option maxRecDepth 100000 in
theorem bcJ5_charAt_5068e_0 : ((cJ5_charAt_5068e.data.toList.drop 0).take blJ5_charAt_5068e_0.length).map UInt8.toNat = blJ5_charAt_5068e_0 := by decide +kernel
noncomputable def blJ5_inflateIfNeededFor_a7421_0 : List Nat := [178, 0, 18, 153, 0, 18, 42, 180, 0, 22, 43, 182, 0, 40, 159, 0, 7, 42, 182, 0, 195, 177]
set_option maxRecDepth 100000 in
theorem bcJ5_inflateIfNeededFor_a7421_0 : ((cJ5_inflateIfNeededFor_a7421.data.toList.drop 0).take blJ5_inflateIfNeededFor_a7421_0.length).map UInt8.toNat = blJ5_inflateIfNeededFor_a7421_0 := by decide +kernel
noncomputable def blJ0_getBytes_840e7_0 : List Nat := [42, 182, 1, 79, 29, 160, 0, 23, 42, 180, 0, 9, 3, 43, 28, 29, 120, 42, 180, 0, 9, 190, 184, 0, 212, 167, 0, 18, 42, 180, 0, 9, 3, 43, 28, 42, 180, 0, 9, 190, 184, 0, 106, 177]
set_option maxRecDepth 100000 in
theorem bcJ0_getBytes_840e7_0 : ((cJ0_getBytes_840e7.data.toList.drop 0).take blJ0_getBytes_840e7_0.length).map UInt8.toNat = blJ0_getBytes_840e7_0 := by decide +kernel
noncomputable def blJ5_putStringAt_47b60_0 : List Nat := [42, 44, 182, 1, 141, 44, 42, 180, 0, 15, 27, 42, 180, 0, 22, 182, 1, 143, 177]
set_option maxRecDepth 100000 in
theorem bcJ5_putStringAt_47b60_0 : ((cJ5_putStringAt_47b60.data.toList.drop 0).take blJ5_putStringAt_47b60_0.length).map UInt8.toNat = blJ5_putStringAt_47b60_0 := by decide +kernel

def B_J6_stringSize_0f7a4_16 (x0 : Int32) (x2 : Int32) (x3 : Int32) : Option ((Int32 × Int32) ⊕ (Nat × Int32)) :=
  if (10 : Int32) ≤ x3 then some (.inr (1, x3)) else if x0 ≤ x2 then some (.inl ((10 : Int32) * x2, x3 + (1 : Int32))) else some (.inr (0, x3))
def J_J6_stringSize_0f7a4_11 (K : Nat) (x1 : Int32) (x0 : Int32) : Option (Int32) :=
  bd2 (lpF (fun u9 : Int32 × Int32 => B_J6_stringSize_0f7a4_16 x0 u9.1 u9.2) K ((-10 : Int32), (1 : Int32))) (fun t_4 x3_5 => if t_4 = 0 then some (x3_5 + x1) else if t_4 = 1 then some ((10 : Int32) + x1) else none)
def F_J6_stringSize_0f7a4 (K : Nat) (p0 : Int32) : Option (Int32) :=
  if p0 < (0 : Int32) then J_J6_stringSize_0f7a4_11 K (1 : Int32) p0 else J_J6_stringSize_0f7a4_11 K (0 : Int32) (-p0)

def v_f_J6_stringSize_0f7a4 : List Cond := List.cons (.code yJ6_stringSize_0f7a4 cJ6_stringSize_0f7a4 4 (some .int)) (HAppend.hAppend (α := List Cond) (β := List Cond) (γ := List Cond) [] [])
theorem gw_f_J6_stringSize_0f7a4 : v_f_J6_stringSize_0f7a4.all goodWord = true := gw_c2 (by decide +kernel) gw_nil
theorem hd_J6_stringSize_0f7a4 : yJ6_stringSize_0f7a4.cls = RJ6 ∧ yJ6_stringSize_0f7a4.cls ≠ "java/lang/invoke/MethodHandle" ∧ yJ6_stringSize_0f7a4.cls ≠ "java/lang/invoke/VarHandle" ∧ (parseMethodDescriptor yJ6_stringSize_0f7a4.desc).map (fun d => d.parameters.length) = some 1 := by decide +kernel
set_option maxHeartbeats 4000000 in
set_option maxRecDepth 100000 in
theorem wb_J6_stringSize_0f7a4_16 {p : Program} (l : Launch) {e : Env} {s : State} {m : MethodId} {below : List Frame} {meth : Method} {c : Code} {Q : State → Prop} (E : EE) (K : Nat) {p0 : Int32} {x0 : Int32} {x1 : Int32} {x2 : Int32} {x3 : Int32} (hx : p.tables.exec = Jvm.exec) (hb : c.code = cJ6_stringSize_0f7a4) (hml : c.maxLocals = 4) (hown : s.vm.findClass RJ6 = some m.cls) (hts : ∀ w ∈ v_f_J6_stringSize_0f7a4, w.before #[Value.int p0] s = true) (hK : va_K E.1 vwCl (TY E) s) (hN : NX s) {xx : (Int32 × Int32) ⊕ (Nat × Int32)} (hC : ∀ (x2 : Int32), ∀ (x3 : Int32), xx = .inl (x2, x3) → ∀ (ls : Array Slot), lv_has ls 4 [(0, .int x0), (1, .int x1), (2, .int x2), (3, .int x3)] → W p l e ({ frames := 0, cells := 0, slots := 0, locals := 0 } : Room) s m #[Value.int p0] below meth c s.heap [] 0 0 Q (F0 m 16 ls [])) (hE : ∀ (t9 : Nat), ∀ (x3 : Int32), xx = .inr (t9, x3) → ((t9 = 0 → ∀ (ls : Array Slot), lv_has ls 4 [(1, .int x1), (3, .int x3)] → W p l e ({ frames := 0, cells := 0, slots := 0, locals := 0 } : Room) s m #[Value.int p0] below meth c s.heap [] 0 0 Q (F0 m 27 ls [])) ∧ (t9 = 1 → ∀ (ls : Array Slot), lv_has ls 4 [(1, .int x1)] → W p l e ({ frames := 0, cells := 0, slots := 0, locals := 0 } : Room) s m #[Value.int p0] below meth c s.heap [] 0 0 Q (F0 m 42 ls [])))) (hF : B_J6_stringSize_0f7a4_16 x0 x2 x3 = some xx) (hP : va_P E.1 vwCl [] s.heap) : ∀ (ls : Array Slot), lv_has ls 4 [(0, .int x0), (1, .int x1), (2, .int x2), (3, .int x3)] → W p l e ({ frames := 0, cells := 0, slots := 0, locals := 0 } : Room) s m #[Value.int p0] below meth c s.heap [] 0 0 Q (F0 m 16 ls []) := by
  unfold B_J6_stringSize_0f7a4_16 at hF
  replace hP : va_P E.1 vwCl [] s.heap := hP
  intro ls hl
  refine lv_iload_n hx hb (dq_29 0 bcJ6_stringSize_0f7a4_0 (j := 16) rfl rfl) rfl (lv_at hl 3 rfl) ?_
  refine lv_bipush (v := 10) hx hb (dq_16 0 bcJ6_stringSize_0f7a4_0 (j := 17) (i := 10) rfl rfl rfl) (by decide) ?_
  refine lv_icmp_ge (tgt := 42) hx hb (dq_162 0 bcJ6_stringSize_0f7a4_0 (j := 19) (i := 23) rfl rfl rfl) (by decide) (fun c_2 => ?_) (fun c_2 => ?_)
  ·
    replace hF := ip c_2 hF
    cases hF
    exact (hE 1 x3 rfl).2 rfl ls (lv_sub hl [1] rfl)
  ·
    replace hF := inn c_2 hF
    refine lv_iload_n hx hb (dq_26 0 bcJ6_stringSize_0f7a4_0 (j := 22) rfl rfl) rfl (lv_at hl 0 rfl) ?_
    refine lv_iload_n hx hb (dq_28 0 bcJ6_stringSize_0f7a4_0 (j := 23) rfl rfl) rfl (lv_at hl 2 rfl) ?_
    refine lv_icmp_le (tgt := 31) hx hb (dq_164 0 bcJ6_stringSize_0f7a4_0 (j := 24) (i := 7) rfl rfl rfl) (by decide) (fun c_3 => ?_) (fun c_3 => ?_)
    ·
      replace hF := ip c_3 hF
      refine lv_bipush (v := 10) hx hb (dq_16 0 bcJ6_stringSize_0f7a4_0 (j := 31) (i := 10) rfl rfl rfl) (by decide) ?_
      refine lv_iload_n hx hb (dq_28 0 bcJ6_stringSize_0f7a4_0 (j := 33) rfl rfl) rfl (lv_at hl 2 rfl) ?_
      refine lv_imul hx hb (dq_104 0 bcJ6_stringSize_0f7a4_0 (j := 34) rfl rfl) ?_
      refine lv_istore_n (lv' := [(2, .int ((10 : Int32) * x2)), (0, .int x0), (1, .int x1), (3, .int x3)]) hx hb (dq_61 0 bcJ6_stringSize_0f7a4_0 (j := 35) rfl rfl) rfl hl (by decide) rfl (fun ls hl => ?_)
      refine lv_iinc (v := x3 + (1 : Int32)) (lv' := [(3, .int (x3 + (1 : Int32))), (2, .int ((10 : Int32) * x2)), (0, .int x0), (1, .int x1)]) hx hb (dq_132 0 bcJ6_stringSize_0f7a4_0 (j := 36) (i := 1) rfl rfl rfl) hl (k := 3) rfl (rfl) (by decide) rfl (fun ls hl => ?_)
      refine lv_goto (tgt := 16) hx hb (dq_167 0 bcJ6_stringSize_0f7a4_0 (j := 39) (i := -23) rfl rfl rfl) (by decide) ?_
      cases hF
      exact hC ((10 : Int32) * x2) (x3 + (1 : Int32)) rfl ls (lv_sub hl [2, 3, 1, 0] rfl)
    ·
      replace hF := inn c_3 hF
      cases hF
      exact (hE 0 x3 rfl).1 rfl ls (lv_sub hl [1, 3] rfl)

set_option maxHeartbeats 4000000 in
set_option maxRecDepth 100000 in
theorem lw_J6_stringSize_0f7a4_16 {p : Program} (l : Launch) {e : Env} {s : State} {m : MethodId} {below : List Frame} {meth : Method} {c : Code} {Q : State → Prop} (E : EE) (K : Nat) {p0 : Int32} {x0 : Int32} {x1 : Int32} (hx : p.tables.exec = Jvm.exec) (hb : c.code = cJ6_stringSize_0f7a4) (hml : c.maxLocals = 4) (hown : s.vm.findClass RJ6 = some m.cls) (hts : ∀ w ∈ v_f_J6_stringSize_0f7a4, w.before #[Value.int p0] s = true) (hK : va_K E.1 vwCl (TY E) s) (hN : NX s) (hP : va_P E.1 vwCl [] s.heap) (j9 : Nat) (x2 : Int32) (x3 : Int32) (t9' : Nat) (x3' : Int32) (hL : lpF (fun u9 : Int32 × Int32 => B_J6_stringSize_0f7a4_16 x0 u9.1 u9.2) j9 (x2, x3) = some (t9', x3')) (hX : (t9' = 0 → ∀ (ls : Array Slot), lv_has ls 4 [(1, .int x1), (3, .int x3')] → W p l e ({ frames := 0, cells := 0, slots := 0, locals := 0 } : Room) s m #[Value.int p0] below meth c s.heap [] 0 0 Q (F0 m 27 ls [])) ∧ (t9' = 1 → ∀ (ls : Array Slot), lv_has ls 4 [(1, .int x1)] → W p l e ({ frames := 0, cells := 0, slots := 0, locals := 0 } : Room) s m #[Value.int p0] below meth c s.heap [] 0 0 Q (F0 m 42 ls []))) : ∀ (ls : Array Slot), lv_has ls 4 [(0, .int x0), (1, .int x1), (2, .int x2), (3, .int x3)] → W p l e ({ frames := 0, cells := 0, slots := 0, locals := 0 } : Room) s m #[Value.int p0] below meth c s.heap [] 0 0 Q (F0 m 16 ls []) := by
  exact lp_rule (P := (fun u9 : Int32 × Int32 => ∀ (ls : Array Slot), lv_has ls 4 [(0, .int x0), (1, .int x1), (2, .int u9.1), (3, .int u9.2)] → W p l e ({ frames := 0, cells := 0, slots := 0, locals := 0 } : Room) s m #[Value.int p0] below meth c s.heap [] 0 0 Q (F0 m 16 ls []))) (R := (fun r9 : Nat × Int32 => (r9.1 = 0 → ∀ (ls : Array Slot), lv_has ls 4 [(1, .int x1), (3, .int r9.2)] → W p l e ({ frames := 0, cells := 0, slots := 0, locals := 0 } : Room) s m #[Value.int p0] below meth c s.heap [] 0 0 Q (F0 m 27 ls [])) ∧ (r9.1 = 1 → ∀ (ls : Array Slot), lv_has ls 4 [(1, .int x1)] → W p l e ({ frames := 0, cells := 0, slots := 0, locals := 0 } : Room) s m #[Value.int p0] below meth c s.heap [] 0 0 Q (F0 m 42 ls [])))) (fun u9 xx hF hC hE => wb_J6_stringSize_0f7a4_16 l E K (p0 := p0) (x0 := x0) (x1 := x1) (x2 := u9.1) (x3 := u9.2) hx hb hml hown hts hK hN (fun x2 x3 q9 => hC _ q9) (fun t9 x3 q9 => hE _ q9) hF hP) j9 (x2, x3) (t9', x3') hL hX

set_option maxHeartbeats 4000000 in
set_option maxRecDepth 100000 in
theorem j_J6_stringSize_0f7a4_11 {p : Program} (l : Launch) {e : Env} {s : State} {m : MethodId} {below : List Frame} {meth : Method} {c : Code} {Q : State → Prop} (E : EE) (K : Nat) {p0 : Int32} {x1 : Int32} {x0 : Int32} (hx : p.tables.exec = Jvm.exec) (hb : c.code = cJ6_stringSize_0f7a4) (hml : c.maxLocals = 4) (hown : s.vm.findClass RJ6 = some m.cls) (hts : ∀ w ∈ v_f_J6_stringSize_0f7a4, w.before #[Value.int p0] s = true) (hK : va_K E.1 vwCl (TY E) s) (hN : NX s) {rr : Int32} (hr : meth.sig.returnType = (some .int)) (hlocks : meth.locks = false) (hQ : Q = MQ below (vp_Si (fun q : Int32 => q = rr)) #[Value.int p0] s 0 0 (fun _ => False)) (hF : J_J6_stringSize_0f7a4_11 K x1 x0 = some rr) (hP : va_P E.1 vwCl [] s.heap) : ∀ (ls : Array Slot), lv_has ls 4 [(0, .int x0), (1, .int x1)] → W p l e ({ frames := 0, cells := 0, slots := 0, locals := 0 } : Room) s m #[Value.int p0] below meth c s.heap [] 0 0 Q (F0 m 11 ls []) := by
  unfold J_J6_stringSize_0f7a4_11 at hF
  replace hP : va_P E.1 vwCl [] s.heap := hP
  intro ls hl
  refine lv_bipush (v := -10) hx hb (dq_16 0 bcJ6_stringSize_0f7a4_0 (j := 11) (i := -10) rfl rfl rfl) (by decide) ?_
  refine lv_istore_n (lv' := [(2, .int (-10 : Int32)), (0, .int x0), (1, .int x1)]) hx hb (dq_61 0 bcJ6_stringSize_0f7a4_0 (j := 13) rfl rfl) rfl hl (by decide) rfl (fun ls hl => ?_)
  refine lv_iconst (v := 1) hx hb (dq_4 0 bcJ6_stringSize_0f7a4_0 (j := 14) rfl rfl) (by decide) ?_
  refine lv_istore_n (lv' := [(3, .int (1 : Int32)), (2, .int (-10 : Int32)), (0, .int x0), (1, .int x1)]) hx hb (dq_62 0 bcJ6_stringSize_0f7a4_0 (j := 15) rfl rfl) rfl hl (by decide) rfl (fun ls hl => ?_)
  replace hF := bd2_s hF
  obtain ⟨t_4, x3_5, hL_6, hF⟩ := hF
  refine lw_J6_stringSize_0f7a4_16 l E K (p0 := p0) (x0 := x0) (x1 := x1) hx hb hml hown hts hK hN hP K (-10 : Int32) (1 : Int32) t_4 x3_5 hL_6 ⟨?_, ?_⟩ ls (lv_sub hl [2, 3, 1, 0] rfl)
  ·
    intro t9
    replace hF := ip t9 hF
    intro ls hl
    refine lv_iload_n hx hb (dq_29 0 bcJ6_stringSize_0f7a4_0 (j := 27) rfl rfl) rfl (lv_at hl 1 rfl) ?_
    refine lv_iload_n hx hb (dq_27 0 bcJ6_stringSize_0f7a4_0 (j := 28) rfl rfl) rfl (lv_at hl 0 rfl) ?_
    refine lv_iadd hx hb (dq_96 0 bcJ6_stringSize_0f7a4_0 (j := 29) rfl rfl) ?_
    rw [hQ]
    obtain e9_0 := inj1 hF
    exact W.iret (v := x3_5 + x1) hx hb hr (fun tt ht hW => ⟨_, rfl, e9_0, ht⟩) (fun _ h => by cases h) (dq_172 0 bcJ6_stringSize_0f7a4_0 (j := 30) rfl rfl)
  ·
    intro t9
    replace hF := inn (show ¬ t_4 = 0 by omega) hF
    replace hF := ip t9 hF
    intro ls hl
    refine lv_bipush (v := 10) hx hb (dq_16 0 bcJ6_stringSize_0f7a4_0 (j := 42) (i := 10) rfl rfl rfl) (by decide) ?_
    refine lv_iload_n hx hb (dq_27 0 bcJ6_stringSize_0f7a4_0 (j := 44) rfl rfl) rfl (lv_at hl 0 rfl) ?_
    refine lv_iadd hx hb (dq_96 0 bcJ6_stringSize_0f7a4_0 (j := 45) rfl rfl) ?_
    rw [hQ]
    obtain e9_0 := inj1 hF
    exact W.iret (v := (10 : Int32) + x1) hx hb hr (fun tt ht hW => ⟨_, rfl, e9_0, ht⟩) (fun _ h => by cases h) (dq_172 0 bcJ6_stringSize_0f7a4_0 (j := 46) rfl rfl)

set_option maxHeartbeats 4000000 in
set_option maxRecDepth 100000 in
theorem f_J6_stringSize_0f7a4 (l : Launch) (E : EE) (K : Nat) {p0 : Int32} {rr : Int32} (hF : F_J6_stringSize_0f7a4 K p0 = some rr) : Met l yJ6_stringSize_0f7a4 v_f_J6_stringSize_0f7a4 (({ frames := 0, cells := 0, slots := 0, locals := 0 } : Room)) (va_Pc [.int p0] (pP E [])) (vp_Si (fun q : Int32 => q = rr)) 0 0 (fun _ => False) := by
  refine Met.ofWF (cc := cJ6_stringSize_0f7a4) (maxL := 4) (ret := (some .int)) (by decide +kernel) rfl ?_
  intro p e s m args below meth c s₁ B hml hv
  obtain ⟨rfl, ⟨hK, hN⟩, hP⟩ := hv
  have hx := B.exec
  have hb := B.bytes
  have hr := B.returns
  have hts := atoms_spec (ws := v_f_J6_stringSize_0f7a4) B.pre
  have hown : s.vm.findClass RJ6 = some m.cls := own_of hd_J6_stringSize_0f7a4.1 (findClass_of_methodNamed B.named)
  have hlocks : meth.locks = false := B.notSynchronized
  replace hP : va_P E.1 vwCl [] s.heap := hP
  have hl := lv_entry ([.int p0]) (n := 4) (Nat.le_of_ble_eq_true rfl)
  rw [lg_entry_eq]
  generalize (lg_sl ([.int p0]) ++ List.replicate (4 - (lg_sl ([.int p0])).length) Slot.unset).toArray = ls at hl ⊢
  have hl : lv_has ls 4 [(0, .int p0)] := hl
  obtain ⟨Q, hQ⟩ : ∃ Q : State → Prop, Q = MQ below (vp_Si (fun q : Int32 => q = rr)) #[Value.int p0] s 0 0 (fun _ => False) := ⟨_, rfl⟩
  rw [← hQ]
  change W p l e ({ frames := 0, cells := 0, slots := 0, locals := 0 } : Room) s m #[Value.int p0] below meth c s.heap [] 0 0 Q (F0 m 0 ls [])
  unfold F_J6_stringSize_0f7a4 at hF
  refine lv_iconst (v := 1) hx hb (dq_4 0 bcJ6_stringSize_0f7a4_0 (j := 0) rfl rfl) (by decide) ?_
  refine lv_istore_n (lv' := [(1, .int (1 : Int32)), (0, .int p0)]) hx hb (dq_60 0 bcJ6_stringSize_0f7a4_0 (j := 1) rfl rfl) rfl hl (by decide) rfl (fun ls hl => ?_)
  refine lv_iload_n hx hb (dq_26 0 bcJ6_stringSize_0f7a4_0 (j := 2) rfl rfl) rfl (lv_at hl 1 rfl) ?_
  refine lv_if_lt (tgt := 11) hx hb (dq_155 0 bcJ6_stringSize_0f7a4_0 (j := 3) (i := 8) rfl rfl rfl) (by decide) (fun c_1 => ?_) (fun c_1 => ?_)
  ·
    replace hF := ip c_1 hF
    exact j_J6_stringSize_0f7a4_11 l E K (p0 := p0) (x1 := (1 : Int32)) (x0 := p0) hx hb hml hown hts hK hN hr hlocks hQ hF hP ls (lv_sub hl [1, 0] rfl)
  ·
    replace hF := inn c_1 hF
    refine lv_iconst (v := 0) hx hb (dq_3 0 bcJ6_stringSize_0f7a4_0 (j := 6) rfl rfl) (by decide) ?_
    refine lv_istore_n (lv' := [(1, .int (0 : Int32)), (0, .int p0)]) hx hb (dq_60 0 bcJ6_stringSize_0f7a4_0 (j := 7) rfl rfl) rfl hl (by decide) rfl (fun ls hl => ?_)
    refine lv_iload_n hx hb (dq_26 0 bcJ6_stringSize_0f7a4_0 (j := 8) rfl rfl) rfl (lv_at hl 1 rfl) ?_
    refine lv_ineg hx hb (dq_116 0 bcJ6_stringSize_0f7a4_0 (j := 9) rfl rfl) ?_
    refine lv_istore_n (lv' := [(0, .int (-p0)), (1, .int (0 : Int32))]) hx hb (dq_59 0 bcJ6_stringSize_0f7a4_0 (j := 10) rfl rfl) rfl hl (by decide) rfl (fun ls hl => ?_)
    exact j_J6_stringSize_0f7a4_11 l E K (p0 := p0) (x1 := (0 : Int32)) (x0 := -p0) hx hb hml hown hts hK hN hr hlocks hQ hF hP ls (lv_sub hl [0, 1] rfl)

def B_J6_getChars_ba4f3_22 (m9 : Nat) (x0 : Int32) (x5 : Int32) (c_o2 : Nat → Int32) : Option ((Int32 × Int32 × (Nat → Int32)) ⊕ (Int32 × Int32 × (Nat → Int32))) :=
  if (-100 : Int32) < x0 then some (.inr (x0, x5, c_o2)) else ixF (((x0 / (100 : Int32)) * (100 : Int32)) - x0) 100 (ixF (x5 + (-1 : Int32)) m9 (nmF (upd c_o2 (x5 + (-1 : Int32)).toNatClampNeg (vp_nar .byte (onesF (((x0 / (100 : Int32)) * (100 : Int32)) - x0).toNatClampNeg))) (fun f_6 => ixF (((x0 / (100 : Int32)) * (100 : Int32)) - x0) 100 (ixF ((x5 + (-1 : Int32)) + (-1 : Int32)) m9 (nmF (upd f_6 ((x5 + (-1 : Int32)) + (-1 : Int32)).toNatClampNeg (vp_nar .byte (tensF (((x0 / (100 : Int32)) * (100 : Int32)) - x0).toNatClampNeg))) (fun f_9 => some (.inl (x0 / (100 : Int32), (x5 + (-1 : Int32)) + (-1 : Int32), f_9))))))))
def J_J6_getChars_ba4f3_12 (K : Nat) (m9 : Nat) (k0 : Int32) (x0 : Int32) (x5 : Int32) (c_o2 : Nat → Int32) : Option (Int32 × (Nat → Int32)) :=
  if k0 = (0 : Int32) then bd3 (lpF (fun u9 : Int32 × Int32 × (Nat → Int32) => B_J6_getChars_ba4f3_22 m9 u9.1 u9.2.1 u9.2.2) K (-x0, x5, c_o2)) (fun x0_27 x5_28 c_o2_29 => ixF (-x0_27) 100 (ixF (x5_28 + (-1 : Int32)) m9 (nmF (upd c_o2_29 (x5_28 + (-1 : Int32)).toNatClampNeg (vp_nar .byte (onesF (-x0_27).toNatClampNeg))) (fun f_33 => if (-9 : Int32) ≤ x0_27 then if k0 = (0 : Int32) then some (x5_28 + (-1 : Int32), f_33) else ixF ((x5_28 + (-1 : Int32)) + (-1 : Int32)) m9 (nmF (upd f_33 ((x5_28 + (-1 : Int32)) + (-1 : Int32)).toNatClampNeg (vp_nar .byte (45 : Int32))) (fun f_37 => some ((x5_28 + (-1 : Int32)) + (-1 : Int32), f_37))) else ixF (-x0_27) 100 (ixF ((x5_28 + (-1 : Int32)) + (-1 : Int32)) m9 (nmF (upd f_33 ((x5_28 + (-1 : Int32)) + (-1 : Int32)).toNatClampNeg (vp_nar .byte (tensF (-x0_27).toNatClampNeg))) (fun f_40 => if k0 = (0 : Int32) then some ((x5_28 + (-1 : Int32)) + (-1 : Int32), f_40) else ixF (((x5_28 + (-1 : Int32)) + (-1 : Int32)) + (-1 : Int32)) m9 (nmF (upd f_40 (((x5_28 + (-1 : Int32)) + (-1 : Int32)) + (-1 : Int32)).toNatClampNeg (vp_nar .byte (45 : Int32))) (fun f_43 => some (((x5_28 + (-1 : Int32)) + (-1 : Int32)) + (-1 : Int32), f_43)))))))))) else bd3 (lpF (fun u9 : Int32 × Int32 × (Nat → Int32) => B_J6_getChars_ba4f3_22 m9 u9.1 u9.2.1 u9.2.2) K (x0, x5, c_o2)) (fun x0_10 x5_11 c_o2_12 => ixF (-x0_10) 100 (ixF (x5_11 + (-1 : Int32)) m9 (nmF (upd c_o2_12 (x5_11 + (-1 : Int32)).toNatClampNeg (vp_nar .byte (onesF (-x0_10).toNatClampNeg))) (fun f_16 => if (-9 : Int32) ≤ x0_10 then if k0 = (0 : Int32) then some (x5_11 + (-1 : Int32), f_16) else ixF ((x5_11 + (-1 : Int32)) + (-1 : Int32)) m9 (nmF (upd f_16 ((x5_11 + (-1 : Int32)) + (-1 : Int32)).toNatClampNeg (vp_nar .byte (45 : Int32))) (fun f_20 => some ((x5_11 + (-1 : Int32)) + (-1 : Int32), f_20))) else ixF (-x0_10) 100 (ixF ((x5_11 + (-1 : Int32)) + (-1 : Int32)) m9 (nmF (upd f_16 ((x5_11 + (-1 : Int32)) + (-1 : Int32)).toNatClampNeg (vp_nar .byte (tensF (-x0_10).toNatClampNeg))) (fun f_23 => if k0 = (0 : Int32) then some ((x5_11 + (-1 : Int32)) + (-1 : Int32), f_23) else ixF (((x5_11 + (-1 : Int32)) + (-1 : Int32)) + (-1 : Int32)) m9 (nmF (upd f_23 (((x5_11 + (-1 : Int32)) + (-1 : Int32)) + (-1 : Int32)).toNatClampNeg (vp_nar .byte (45 : Int32))) (fun f_26 => some (((x5_11 + (-1 : Int32)) + (-1 : Int32)) + (-1 : Int32), f_26))))))))))
def F_J6_getChars_ba4f3 (K : Nat) (p0 : Int32) (p1 : Int32) (c_o2 : Nat → Int32) (m9 : Nat) : Option (Int32 × (Nat → Int32)) :=
  if (0 : Int32) ≤ p0 then J_J6_getChars_ba4f3_12 K m9 (0 : Int32) p0 p1 c_o2 else J_J6_getChars_ba4f3_12 K m9 (1 : Int32) p0 p1 c_o2
abbrev w_J6_getChars_ba4f3 (E : EE) (a_o2 : Nat) (c_o2 : Nat → Int32) (m9 : Nat) : va_W := [k_B E a_o2 m9 c_o2]
def v_f_J6_getChars_ba4f3 : List Cond := List.cons (.code yJ6_getChars_ba4f3 cJ6_getChars_ba4f3 7 (some .int)) (HAppend.hAppend (α := List Cond) (β := List Cond) (γ := List Cond) [.fieldLink RJ6 83 "java/lang/Integer" "DigitOnes" "[B", .fieldLink RJ6 87 "java/lang/Integer" "DigitTens" "[B"] [])
theorem gw_f_J6_getChars_ba4f3 : v_f_J6_getChars_ba4f3.all goodWord = true := gw_c2 (by decide +kernel) gw_nil
theorem hd_J6_getChars_ba4f3 : yJ6_getChars_ba4f3.cls = RJ6 ∧ yJ6_getChars_ba4f3.cls ≠ "java/lang/invoke/MethodHandle" ∧ yJ6_getChars_ba4f3.cls ≠ "java/lang/invoke/VarHandle" ∧ (parseMethodDescriptor yJ6_getChars_ba4f3.desc).map (fun d => d.parameters.length) = some 3 := by decide +kernel
set_option maxHeartbeats 4000000 in
set_option maxRecDepth 100000 in
theorem wb_J6_getChars_ba4f3_22 {p : Program} (l : Launch) {e : Env} {s : State} {m : MethodId} {below : List Frame} {meth : Method} {c : Code} {Q : State → Prop} (E : EE) (K : Nat) {z9 : Nat → Nat} {a_o2 : Nat} {p0 : Int32} {p1 : Int32} {m9 : Nat} {x0 : Int32} {x5 : Int32} {x6 : Int32} {c_o2 : Nat → Int32} (hx : p.tables.exec = Jvm.exec) (hb : c.code = cJ6_getChars_ba4f3) (hml : c.maxLocals = 7) (hown : s.vm.findClass RJ6 = some m.cls) (hts : ∀ w ∈ v_f_J6_getChars_ba4f3, w.before #[Value.int p0, Value.int p1, Value.ref a_o2] s = true) (hK : va_K E.1 vwCl (TY E) s) (hN : NX s) {A : Nat → Prop} (hA : ∀ q : Nat, s.heap.size ≤ q → A q) (hZ : ZZ z9 A s s.heap) {xx : (Int32 × Int32 × (Nat → Int32)) ⊕ (Int32 × Int32 × (Nat → Int32))} (hC : ∀ (x0 : Int32), ∀ (x5 : Int32), ∀ (c_o2 : Nat → Int32), xx = .inl (x0, x5, c_o2) → ∀ (H : Heap) (locs : List Loc) (ls : Array Slot), va_P E.1 vwCl (w_J6_getChars_ba4f3 E a_o2 c_o2 m9) H → va_D A (w_J6_getChars_ba4f3 E a_o2 c_o2 m9) → va_S A s.heap H locs → lv_has ls 7 [(0, .int x0), (2, .ref a_o2), (5, .int x5), (6, .int x6)] → W p l e ({ frames := 0, cells := 0, slots := 0, locals := 0 } : Room) s m #[Value.int p0, Value.int p1, Value.ref a_o2] below meth c H locs 0 0 Q (F0 m 22 ls [])) (hE : ∀ (x0 : Int32), ∀ (x5 : Int32), ∀ (c_o2 : Nat → Int32), xx = .inr (x0, x5, c_o2) → ((∀ (H : Heap) (locs : List Loc) (ls : Array Slot), va_P E.1 vwCl (w_J6_getChars_ba4f3 E a_o2 c_o2 m9) H → va_D A (w_J6_getChars_ba4f3 E a_o2 c_o2 m9) → va_S A s.heap H locs → lv_has ls 7 [(0, .int x0), (2, .ref a_o2), (5, .int x5), (6, .int x6)] → W p l e ({ frames := 0, cells := 0, slots := 0, locals := 0 } : Room) s m #[Value.int p0, Value.int p1, Value.ref a_o2] below meth c H locs 0 0 Q (F0 m 72 ls [])))) (hF : B_J6_getChars_ba4f3_22 m9 x0 x5 c_o2 = some xx) : ∀ (H : Heap) (locs : List Loc) (ls : Array Slot), va_P E.1 vwCl (w_J6_getChars_ba4f3 E a_o2 c_o2 m9) H → va_D A (w_J6_getChars_ba4f3 E a_o2 c_o2 m9) → va_S A s.heap H locs → lv_has ls 7 [(0, .int x0), (2, .ref a_o2), (5, .int x5), (6, .int x6)] → W p l e ({ frames := 0, cells := 0, slots := 0, locals := 0 } : Room) s m #[Value.int p0, Value.int p1, Value.ref a_o2] below meth c H locs 0 0 Q (F0 m 22 ls []) := by
  unfold B_J6_getChars_ba4f3_22 at hF
  intro H locs ls hP hD hS hl
  have h9 := fixPD (ws' := [k_B E a_o2 m9 c_o2]) hP hD rfl
  clear hP hD
  obtain ⟨hP, hD⟩ := h9
  refine lv_iload_n hx hb (dq_26 0 bcJ6_getChars_ba4f3_0 (j := 22) rfl rfl) rfl (lv_at hl 0 rfl) ?_
  refine lv_bipush (v := -100) hx hb (dq_16 0 bcJ6_getChars_ba4f3_0 (j := 23) (i := -100) rfl rfl rfl) (by decide) ?_
  refine lv_icmp_gt (tgt := 72) hx hb (dq_163 0 bcJ6_getChars_ba4f3_0 (j := 25) (i := 47) rfl rfl rfl) (by decide) (fun c_3 => ?_) (fun c_3 => ?_)
  ·
    replace hF := ip c_3 hF
    cases hF
    exact hE x0 x5 c_o2 rfl H locs ls (hP.sub [0] rfl) (hD.sub [0] (by decide) rfl) hS (lv_sub hl [0, 1, 2, 3] rfl)
  ·
    replace hF := inn c_3 hF
    refine lv_iload_n hx hb (dq_26 0 bcJ6_getChars_ba4f3_0 (j := 28) rfl rfl) rfl (lv_at hl 0 rfl) ?_
    refine lv_bipush (v := 100) hx hb (dq_16 0 bcJ6_getChars_ba4f3_0 (j := 29) (i := 100) rfl rfl rfl) (by decide) ?_
    refine lv_idiv hx hb (dq_108 0 bcJ6_getChars_ba4f3_0 (j := 31) rfl rfl) (by decide) ?_
    refine lv_istore_n (lv' := [(3, .int (x0 / (100 : Int32))), (0, .int x0), (2, .ref a_o2), (5, .int x5), (6, .int x6)]) hx hb (dq_62 0 bcJ6_getChars_ba4f3_0 (j := 32) rfl rfl) rfl hl (by decide) rfl (fun ls hl => ?_)
    refine lv_iload_n hx hb (dq_29 0 bcJ6_getChars_ba4f3_0 (j := 33) rfl rfl) rfl (lv_at hl 0 rfl) ?_
    refine lv_bipush (v := 100) hx hb (dq_16 0 bcJ6_getChars_ba4f3_0 (j := 34) (i := 100) rfl rfl rfl) (by decide) ?_
    refine lv_imul hx hb (dq_104 0 bcJ6_getChars_ba4f3_0 (j := 36) rfl rfl) ?_
    refine lv_iload_n hx hb (dq_26 0 bcJ6_getChars_ba4f3_0 (j := 37) rfl rfl) rfl (lv_at hl 1 rfl) ?_
    refine lv_isub hx hb (dq_100 0 bcJ6_getChars_ba4f3_0 (j := 38) rfl rfl) ?_
    refine lv_istore (lv' := [(4, .int (((x0 / (100 : Int32)) * (100 : Int32)) - x0)), (3, .int (x0 / (100 : Int32))), (0, .int x0), (2, .ref a_o2), (5, .int x5), (6, .int x6)]) hx hb (dq_54 0 bcJ6_getChars_ba4f3_0 (j := 39) (i := 4) rfl rfl) hl (by decide) rfl (fun ls hl => ?_)
    refine lv_iload_n hx hb (dq_29 0 bcJ6_getChars_ba4f3_0 (j := 41) rfl rfl) rfl (lv_at hl 1 rfl) ?_
    refine lv_istore_n (lv' := [(0, .int (x0 / (100 : Int32))), (4, .int (((x0 / (100 : Int32)) * (100 : Int32)) - x0)), (3, .int (x0 / (100 : Int32))), (2, .ref a_o2), (5, .int x5), (6, .int x6)]) hx hb (dq_59 0 bcJ6_getChars_ba4f3_0 (j := 42) rfl rfl) rfl hl (by decide) rfl (fun ls hl => ?_)
    refine lv_aload_n hx hb (dq_44 0 bcJ6_getChars_ba4f3_0 (j := 43) rfl rfl) rfl (lv_at hl 3 rfl) ?_
    refine lv_iinc (v := x5 + (-1 : Int32)) (lv' := [(5, .int (x5 + (-1 : Int32))), (0, .int (x0 / (100 : Int32))), (4, .int (((x0 / (100 : Int32)) * (100 : Int32)) - x0)), (3, .int (x0 / (100 : Int32))), (2, .ref a_o2), (6, .int x6)]) hx hb (dq_132 0 bcJ6_getChars_ba4f3_0 (j := 44) (i := -1) rfl rfl rfl) hl (k := 4) rfl (by exact rfl) (by decide) rfl (fun ls hl => ?_)
    refine lv_iload hx hb (dq_21 0 bcJ6_getChars_ba4f3_0 (j := 47) (i := 5) rfl rfl) (lv_at hl 0 rfl) ?_
    refine va_gets hx hb hZ.2.2.1.2.1 hS hown (hts (.fieldLink RJ6 83 "java/lang/Integer" "DigitOnes" "[B") (List.mem_of_getElem? (i := 1) rfl)) (fun _ h9 => h9) (dq_178 48 bcJ6_getChars_ba4f3_1 (j := 1) (i := 83) rfl rfl rfl) ?_
    refine lv_iload hx hb (dq_21 48 bcJ6_getChars_ba4f3_1 (j := 4) (i := 4) rfl rfl) (lv_at hl 2 rfl) ?_
    replace hF := ix_s hF
    obtain ⟨hi_4, hF⟩ := hF
    refine va_tb (v := .int (onesF (((x0 / (100 : Int32)) * (100 : Int32)) - x0).toNatClampNeg)) hx hb (hZ.2.2.1.2.2.1) hS hi_4 rfl (dq_51 48 bcJ6_getChars_ba4f3_1 (j := 6) rfl rfl) ?_
    replace hF := ix_s hF
    obtain ⟨hi_5, hF⟩ := hF
    refine va_bast hx hb hK hP hD hS 0 1 rfl rfl hi_5 (dq_84 48 bcJ6_getChars_ba4f3_1 (j := 7) rfl rfl) (fun H locs hP hD hS => ?_)
    have h9 := fixPD (ws' := [k_B E a_o2 m9 (upd c_o2 (x5 + (-1 : Int32)).toNatClampNeg (vp_nar .byte (onesF (((x0 / (100 : Int32)) * (100 : Int32)) - x0).toNatClampNeg)))]) hP hD rfl
    clear hP hD
    obtain ⟨hP, hD⟩ := h9
    replace hF := nm_s hF
    obtain ⟨f_6, hf_6, hF⟩ := hF
    rw [← hf_6] at hP hD
    refine lv_aload_n hx hb (dq_44 48 bcJ6_getChars_ba4f3_1 (j := 8) rfl rfl) rfl (lv_at hl 4 rfl) ?_
    refine lv_iinc (v := (x5 + (-1 : Int32)) + (-1 : Int32)) (lv' := [(5, .int ((x5 + (-1 : Int32)) + (-1 : Int32))), (0, .int (x0 / (100 : Int32))), (4, .int (((x0 / (100 : Int32)) * (100 : Int32)) - x0)), (3, .int (x0 / (100 : Int32))), (2, .ref a_o2), (6, .int x6)]) hx hb (dq_132 48 bcJ6_getChars_ba4f3_1 (j := 9) (i := -1) rfl rfl rfl) hl (k := 0) rfl (by exact rfl) (by decide) rfl (fun ls hl => ?_)
    refine lv_iload hx hb (dq_21 48 bcJ6_getChars_ba4f3_1 (j := 12) (i := 5) rfl rfl) (lv_at hl 0 rfl) ?_
    refine va_gets hx hb hZ.2.2.1.2.2.2.1 hS hown (hts (.fieldLink RJ6 87 "java/lang/Integer" "DigitTens" "[B") (List.mem_of_getElem? (i := 2) rfl)) (fun _ h9 => h9) (dq_178 48 bcJ6_getChars_ba4f3_1 (j := 14) (i := 87) rfl rfl rfl) ?_
    refine lv_iload hx hb (dq_21 48 bcJ6_getChars_ba4f3_1 (j := 17) (i := 4) rfl rfl) (lv_at hl 2 rfl) ?_
    replace hF := ix_s hF
    obtain ⟨hi_7, hF⟩ := hF
    refine va_tb (v := .int (tensF (((x0 / (100 : Int32)) * (100 : Int32)) - x0).toNatClampNeg)) hx hb (hZ.2.2.1.2.2.2.2.1) hS hi_7 rfl (dq_51 48 bcJ6_getChars_ba4f3_1 (j := 19) rfl rfl) ?_
    replace hF := ix_s hF
    obtain ⟨hi_8, hF⟩ := hF
    refine va_bast hx hb hK hP hD hS 0 1 rfl rfl hi_8 (dq_84 48 bcJ6_getChars_ba4f3_1 (j := 20) rfl rfl) (fun H locs hP hD hS => ?_)
    have h9 := fixPD (ws' := [k_B E a_o2 m9 (upd f_6 ((x5 + (-1 : Int32)) + (-1 : Int32)).toNatClampNeg (vp_nar .byte (tensF (((x0 / (100 : Int32)) * (100 : Int32)) - x0).toNatClampNeg)))]) hP hD rfl
    clear hP hD
    obtain ⟨hP, hD⟩ := h9
    replace hF := nm_s hF
    obtain ⟨f_9, hf_9, hF⟩ := hF
    rw [← hf_9] at hP hD
    refine lv_goto (tgt := 22) hx hb (dq_167 48 bcJ6_getChars_ba4f3_1 (j := 21) (i := -47) rfl rfl rfl) (by decide) ?_
    cases hF
    exact hC (x0 / (100 : Int32)) ((x5 + (-1 : Int32)) + (-1 : Int32)) f_9 rfl H locs ls (hP.sub [0] rfl) (hD.sub [0] (by decide) rfl) hS (lv_sub hl [1, 4, 0, 5] rfl)

set_option maxHeartbeats 4000000 in
set_option maxRecDepth 100000 in
theorem lw_J6_getChars_ba4f3_22 {p : Program} (l : Launch) {e : Env} {s : State} {m : MethodId} {below : List Frame} {meth : Method} {c : Code} {Q : State → Prop} (E : EE) (K : Nat) {z9 : Nat → Nat} {a_o2 : Nat} {p0 : Int32} {p1 : Int32} {m9 : Nat} {x6 : Int32} (hx : p.tables.exec = Jvm.exec) (hb : c.code = cJ6_getChars_ba4f3) (hml : c.maxLocals = 7) (hown : s.vm.findClass RJ6 = some m.cls) (hts : ∀ w ∈ v_f_J6_getChars_ba4f3, w.before #[Value.int p0, Value.int p1, Value.ref a_o2] s = true) (hK : va_K E.1 vwCl (TY E) s) (hN : NX s) {A : Nat → Prop} (hA : ∀ q : Nat, s.heap.size ≤ q → A q) (hZ : ZZ z9 A s s.heap) (j9 : Nat) (x0 : Int32) (x5 : Int32) (c_o2 : Nat → Int32) (x0' : Int32) (x5' : Int32) (c_o2' : Nat → Int32) (hL : lpF (fun u9 : Int32 × Int32 × (Nat → Int32) => B_J6_getChars_ba4f3_22 m9 u9.1 u9.2.1 u9.2.2) j9 (x0, x5, c_o2) = some (x0', x5', c_o2')) (hX : (∀ (H : Heap) (locs : List Loc) (ls : Array Slot), va_P E.1 vwCl (w_J6_getChars_ba4f3 E a_o2 c_o2' m9) H → va_D A (w_J6_getChars_ba4f3 E a_o2 c_o2' m9) → va_S A s.heap H locs → lv_has ls 7 [(0, .int x0'), (2, .ref a_o2), (5, .int x5'), (6, .int x6)] → W p l e ({ frames := 0, cells := 0, slots := 0, locals := 0 } : Room) s m #[Value.int p0, Value.int p1, Value.ref a_o2] below meth c H locs 0 0 Q (F0 m 72 ls []))) : ∀ (H : Heap) (locs : List Loc) (ls : Array Slot), va_P E.1 vwCl (w_J6_getChars_ba4f3 E a_o2 c_o2 m9) H → va_D A (w_J6_getChars_ba4f3 E a_o2 c_o2 m9) → va_S A s.heap H locs → lv_has ls 7 [(0, .int x0), (2, .ref a_o2), (5, .int x5), (6, .int x6)] → W p l e ({ frames := 0, cells := 0, slots := 0, locals := 0 } : Room) s m #[Value.int p0, Value.int p1, Value.ref a_o2] below meth c H locs 0 0 Q (F0 m 22 ls []) := by
  exact lp_rule (P := (fun u9 : Int32 × Int32 × (Nat → Int32) => ∀ (H : Heap) (locs : List Loc) (ls : Array Slot), va_P E.1 vwCl (w_J6_getChars_ba4f3 E a_o2 u9.2.2 m9) H → va_D A (w_J6_getChars_ba4f3 E a_o2 u9.2.2 m9) → va_S A s.heap H locs → lv_has ls 7 [(0, .int u9.1), (2, .ref a_o2), (5, .int u9.2.1), (6, .int x6)] → W p l e ({ frames := 0, cells := 0, slots := 0, locals := 0 } : Room) s m #[Value.int p0, Value.int p1, Value.ref a_o2] below meth c H locs 0 0 Q (F0 m 22 ls []))) (R := (fun r9 : Int32 × Int32 × (Nat → Int32) => (∀ (H : Heap) (locs : List Loc) (ls : Array Slot), va_P E.1 vwCl (w_J6_getChars_ba4f3 E a_o2 r9.2.2 m9) H → va_D A (w_J6_getChars_ba4f3 E a_o2 r9.2.2 m9) → va_S A s.heap H locs → lv_has ls 7 [(0, .int r9.1), (2, .ref a_o2), (5, .int r9.2.1), (6, .int x6)] → W p l e ({ frames := 0, cells := 0, slots := 0, locals := 0 } : Room) s m #[Value.int p0, Value.int p1, Value.ref a_o2] below meth c H locs 0 0 Q (F0 m 72 ls [])))) (fun u9 xx hF hC hE => wb_J6_getChars_ba4f3_22 l E K (p0 := p0) (p1 := p1) (m9 := m9) (x0 := u9.1) (x5 := u9.2.1) (x6 := x6) (c_o2 := u9.2.2) hx hb hml hown hts hK hN hA hZ (fun x0 x5 c_o2 q9 => hC _ q9) (fun x0 x5 c_o2 q9 => hE _ q9) hF) j9 (x0, x5, c_o2) (x0', x5', c_o2') hL hX

set_option maxHeartbeats 4000000 in
set_option maxRecDepth 100000 in
theorem j_J6_getChars_ba4f3_12 {p : Program} (l : Launch) {e : Env} {s : State} {m : MethodId} {below : List Frame} {meth : Method} {c : Code} {Q : State → Prop} (E : EE) (K : Nat) {z9 : Nat → Nat} {a_o2 : Nat} {p0 : Int32} {p1 : Int32} {m9 : Nat} {k0 : Int32} {x0 : Int32} {x5 : Int32} {c_o2 : Nat → Int32} (hx : p.tables.exec = Jvm.exec) (hb : c.code = cJ6_getChars_ba4f3) (hml : c.maxLocals = 7) (hown : s.vm.findClass RJ6 = some m.cls) (hts : ∀ w ∈ v_f_J6_getChars_ba4f3, w.before #[Value.int p0, Value.int p1, Value.ref a_o2] s = true) (hK : va_K E.1 vwCl (TY E) s) (hN : NX s) {A : Nat → Prop} (hA : ∀ q : Nat, s.heap.size ≤ q → A q) (hZ : ZZ z9 A s s.heap) {rr : Int32} {n_o2 : Nat → Int32} (hr : meth.sig.returnType = (some .int)) (hlocks : meth.locks = false) (hQ : Q = MQ below (va_Qi (fun (q : Int32) (_u : Unit) => q = rr) (fun (_u : Unit) tt => va_P E.1 vwCl (w_J6_getChars_ba4f3 E a_o2 n_o2 m9) tt.heap ∧ va_D A (w_J6_getChars_ba4f3 E a_o2 n_o2 m9)) A) #[Value.int p0, Value.int p1, Value.ref a_o2] s 0 0 A) (hF : J_J6_getChars_ba4f3_12 K m9 k0 x0 x5 c_o2 = some (rr, n_o2)) : ∀ (H : Heap) (locs : List Loc) (ls : Array Slot), va_P E.1 vwCl (w_J6_getChars_ba4f3 E a_o2 c_o2 m9) H → va_D A (w_J6_getChars_ba4f3 E a_o2 c_o2 m9) → va_S A s.heap H locs → lv_has ls 7 [(0, .int x0), (2, .ref a_o2), (5, .int x5)] → W p l e ({ frames := 0, cells := 0, slots := 0, locals := 0 } : Room) s m #[Value.int p0, Value.int p1, Value.ref a_o2] below meth c H locs 0 0 Q (F0 m 12 ls [.int k0]) := by
  unfold J_J6_getChars_ba4f3_12 at hF
  intro H locs ls hP hD hS hl
  have h9 := fixPD (ws' := [k_B E a_o2 m9 c_o2]) hP hD rfl
  clear hP hD
  obtain ⟨hP, hD⟩ := h9
  refine lv_istore (lv' := [(6, .int k0), (0, .int x0), (2, .ref a_o2), (5, .int x5)]) hx hb (dq_54 0 bcJ6_getChars_ba4f3_0 (j := 12) (i := 6) rfl rfl) hl (by decide) rfl (fun ls hl => ?_)
  refine lv_iload hx hb (dq_21 0 bcJ6_getChars_ba4f3_0 (j := 14) (i := 6) rfl rfl) (lv_at hl 0 rfl) ?_
  refine lv_if_ne (tgt := 22) hx hb (dq_154 0 bcJ6_getChars_ba4f3_0 (j := 16) (i := 6) rfl rfl rfl) (by decide) (fun c_2 => ?_) (fun c_2 => ?_)
  ·
    replace hF := inn c_2 hF
    replace hF := bd3_s hF
    obtain ⟨x0_10, x5_11, c_o2_12, hL_13, hF⟩ := hF
    refine lw_J6_getChars_ba4f3_22 l E K (p0 := p0) (p1 := p1) (m9 := m9) (x6 := k0) hx hb hml hown hts hK hN hA hZ K x0 x5 c_o2 x0_10 x5_11 c_o2_12 hL_13 ?_ H locs ls (hP.sub [0] rfl) (hD.sub [0] (by decide) rfl) hS (lv_sub hl [1, 2, 3, 0] rfl)
    ·
      intro H locs ls hP hD hS hl
      have h9 := fixPD (ws' := [k_B E a_o2 m9 c_o2_12]) hP hD rfl
      clear hP hD
      obtain ⟨hP, hD⟩ := h9
      refine lv_aload_n hx hb (dq_44 48 bcJ6_getChars_ba4f3_1 (j := 24) rfl rfl) rfl (lv_at hl 1 rfl) ?_
      refine lv_iinc (v := x5_11 + (-1 : Int32)) (lv' := [(5, .int (x5_11 + (-1 : Int32))), (0, .int x0_10), (2, .ref a_o2), (6, .int k0)]) hx hb (dq_132 48 bcJ6_getChars_ba4f3_1 (j := 25) (i := -1) rfl rfl rfl) hl (k := 2) rfl (by exact rfl) (by decide) rfl (fun ls hl => ?_)
      refine lv_iload hx hb (dq_21 48 bcJ6_getChars_ba4f3_1 (j := 28) (i := 5) rfl rfl) (lv_at hl 0 rfl) ?_
      refine va_gets hx hb hZ.2.2.1.2.1 hS hown (hts (.fieldLink RJ6 83 "java/lang/Integer" "DigitOnes" "[B") (List.mem_of_getElem? (i := 1) rfl)) (fun _ h9 => h9) (dq_178 48 bcJ6_getChars_ba4f3_1 (j := 30) (i := 83) rfl rfl rfl) ?_
      refine lv_iload_n hx hb (dq_26 48 bcJ6_getChars_ba4f3_1 (j := 33) rfl rfl) rfl (lv_at hl 1 rfl) ?_
      refine lv_ineg hx hb (dq_116 48 bcJ6_getChars_ba4f3_1 (j := 34) rfl rfl) ?_
      replace hF := ix_s hF
      obtain ⟨hi_14, hF⟩ := hF
      refine va_tb (v := .int (onesF (-x0_10).toNatClampNeg)) hx hb (hZ.2.2.1.2.2.1) hS hi_14 rfl (dq_51 48 bcJ6_getChars_ba4f3_1 (j := 35) rfl rfl) ?_
      replace hF := ix_s hF
      obtain ⟨hi_15, hF⟩ := hF
      refine va_bast hx hb hK hP hD hS 0 1 rfl rfl hi_15 (dq_84 48 bcJ6_getChars_ba4f3_1 (j := 36) rfl rfl) (fun H locs hP hD hS => ?_)
      have h9 := fixPD (ws' := [k_B E a_o2 m9 (upd c_o2_12 (x5_11 + (-1 : Int32)).toNatClampNeg (vp_nar .byte (onesF (-x0_10).toNatClampNeg)))]) hP hD rfl
      clear hP hD
      obtain ⟨hP, hD⟩ := h9
      replace hF := nm_s hF
      obtain ⟨f_16, hf_16, hF⟩ := hF
      rw [← hf_16] at hP hD
      refine lv_iload_n hx hb (dq_26 48 bcJ6_getChars_ba4f3_1 (j := 37) rfl rfl) rfl (lv_at hl 1 rfl) ?_
      refine lv_bipush (v := -9) hx hb (dq_16 48 bcJ6_getChars_ba4f3_1 (j := 38) (i := -9) rfl rfl rfl) (by decide) ?_
      refine lv_icmp_ge (tgt := 104) hx hb (dq_162 48 bcJ6_getChars_ba4f3_1 (j := 40) (i := 16) rfl rfl rfl) (by decide) (fun c_17 => ?_) (fun c_17 => ?_)
      ·
        replace hF := ip c_17 hF
        refine lv_iload hx hb (dq_21 96 bcJ6_getChars_ba4f3_2 (j := 8) (i := 6) rfl rfl) (lv_at hl 3 rfl) ?_
        refine lv_if_eq (tgt := 118) hx hb (dq_153 96 bcJ6_getChars_ba4f3_2 (j := 10) (i := 12) rfl rfl rfl) (by decide) (fun c_18 => ?_) (fun c_18 => ?_)
        ·
          replace hF := ip c_18 hF
          refine lv_iload hx hb (dq_21 96 bcJ6_getChars_ba4f3_2 (j := 22) (i := 5) rfl rfl) (lv_at hl 0 rfl) ?_
          rw [hQ]
          have h9 := fin9 (P := fun u9 : Int32 × (Nat → Int32) => (x5_11 + (-1 : Int32)) = u9.1 ∧ va_P E.1 vwCl (w_J6_getChars_ba4f3 E a_o2 u9.2 m9) H ∧ va_D A (w_J6_getChars_ba4f3 E a_o2 u9.2 m9)) hF ⟨rfl, hP, hD⟩
          obtain ⟨e9_0, hP9, hD9⟩ := h9
          exact W.iret (v := x5_11 + (-1 : Int32)) hx hb hr (fun tt ht hW => ⟨⟨_, (), rfl, e9_0, ht ▸ hP9, hD9⟩, hS.F ht⟩) hS.2.2 (dq_172 96 bcJ6_getChars_ba4f3_2 (j := 24) rfl rfl)
        ·
          replace hF := inn c_18 hF
          refine lv_aload_n hx hb (dq_44 96 bcJ6_getChars_ba4f3_2 (j := 13) rfl rfl) rfl (lv_at hl 2 rfl) ?_
          refine lv_iinc (v := (x5_11 + (-1 : Int32)) + (-1 : Int32)) (lv' := [(5, .int ((x5_11 + (-1 : Int32)) + (-1 : Int32))), (0, .int x0_10), (2, .ref a_o2), (6, .int k0)]) hx hb (dq_132 96 bcJ6_getChars_ba4f3_2 (j := 14) (i := -1) rfl rfl rfl) hl (k := 0) rfl (by exact rfl) (by decide) rfl (fun ls hl => ?_)
          refine lv_iload hx hb (dq_21 96 bcJ6_getChars_ba4f3_2 (j := 17) (i := 5) rfl rfl) (lv_at hl 0 rfl) ?_
          refine lv_bipush (v := 45) hx hb (dq_16 96 bcJ6_getChars_ba4f3_2 (j := 19) (i := 45) rfl rfl rfl) (by decide) ?_
          replace hF := ix_s hF
          obtain ⟨hi_19, hF⟩ := hF
          refine va_bast hx hb hK hP hD hS 0 1 rfl rfl hi_19 (dq_84 96 bcJ6_getChars_ba4f3_2 (j := 21) rfl rfl) (fun H locs hP hD hS => ?_)
          have h9 := fixPD (ws' := [k_B E a_o2 m9 (upd f_16 ((x5_11 + (-1 : Int32)) + (-1 : Int32)).toNatClampNeg (vp_nar .byte (45 : Int32)))]) hP hD rfl
          clear hP hD
          obtain ⟨hP, hD⟩ := h9
          replace hF := nm_s hF
          obtain ⟨f_20, hf_20, hF⟩ := hF
          rw [← hf_20] at hP hD
          refine lv_iload hx hb (dq_21 96 bcJ6_getChars_ba4f3_2 (j := 22) (i := 5) rfl rfl) (lv_at hl 0 rfl) ?_
          rw [hQ]
          have h9 := fin9 (P := fun u9 : Int32 × (Nat → Int32) => ((x5_11 + (-1 : Int32)) + (-1 : Int32)) = u9.1 ∧ va_P E.1 vwCl (w_J6_getChars_ba4f3 E a_o2 u9.2 m9) H ∧ va_D A (w_J6_getChars_ba4f3 E a_o2 u9.2 m9)) hF ⟨rfl, hP, hD⟩
          obtain ⟨e9_0, hP9, hD9⟩ := h9
          exact W.iret (v := (x5_11 + (-1 : Int32)) + (-1 : Int32)) hx hb hr (fun tt ht hW => ⟨⟨_, (), rfl, e9_0, ht ▸ hP9, hD9⟩, hS.F ht⟩) hS.2.2 (dq_172 96 bcJ6_getChars_ba4f3_2 (j := 24) rfl rfl)
      ·
        replace hF := inn c_17 hF
        refine lv_aload_n hx hb (dq_44 48 bcJ6_getChars_ba4f3_1 (j := 43) rfl rfl) rfl (lv_at hl 2 rfl) ?_
        refine lv_iinc (v := (x5_11 + (-1 : Int32)) + (-1 : Int32)) (lv' := [(5, .int ((x5_11 + (-1 : Int32)) + (-1 : Int32))), (0, .int x0_10), (2, .ref a_o2), (6, .int k0)]) hx hb (dq_132 48 bcJ6_getChars_ba4f3_1 (j := 44) (i := -1) rfl rfl rfl) hl (k := 0) rfl (by exact rfl) (by decide) rfl (fun ls hl => ?_)
        refine lv_iload hx hb (dq_21 48 bcJ6_getChars_ba4f3_1 (j := 47) (i := 5) rfl rfl) (lv_at hl 0 rfl) ?_
        refine va_gets hx hb hZ.2.2.1.2.2.2.1 hS hown (hts (.fieldLink RJ6 87 "java/lang/Integer" "DigitTens" "[B") (List.mem_of_getElem? (i := 2) rfl)) (fun _ h9 => h9) (dq_178 96 bcJ6_getChars_ba4f3_2 (j := 1) (i := 87) rfl rfl rfl) ?_
        refine lv_iload_n hx hb (dq_26 96 bcJ6_getChars_ba4f3_2 (j := 4) rfl rfl) rfl (lv_at hl 1 rfl) ?_
        refine lv_ineg hx hb (dq_116 96 bcJ6_getChars_ba4f3_2 (j := 5) rfl rfl) ?_
        replace hF := ix_s hF
        obtain ⟨hi_21, hF⟩ := hF
        refine va_tb (v := .int (tensF (-x0_10).toNatClampNeg)) hx hb (hZ.2.2.1.2.2.2.2.1) hS hi_21 rfl (dq_51 96 bcJ6_getChars_ba4f3_2 (j := 6) rfl rfl) ?_
        replace hF := ix_s hF
        obtain ⟨hi_22, hF⟩ := hF
        refine va_bast hx hb hK hP hD hS 0 1 rfl rfl hi_22 (dq_84 96 bcJ6_getChars_ba4f3_2 (j := 7) rfl rfl) (fun H locs hP hD hS => ?_)
        have h9 := fixPD (ws' := [k_B E a_o2 m9 (upd f_16 ((x5_11 + (-1 : Int32)) + (-1 : Int32)).toNatClampNeg (vp_nar .byte (tensF (-x0_10).toNatClampNeg)))]) hP hD rfl
        clear hP hD
        obtain ⟨hP, hD⟩ := h9
        replace hF := nm_s hF
        obtain ⟨f_23, hf_23, hF⟩ := hF
        rw [← hf_23] at hP hD
        refine lv_iload hx hb (dq_21 96 bcJ6_getChars_ba4f3_2 (j := 8) (i := 6) rfl rfl) (lv_at hl 3 rfl) ?_
        refine lv_if_eq (tgt := 118) hx hb (dq_153 96 bcJ6_getChars_ba4f3_2 (j := 10) (i := 12) rfl rfl rfl) (by decide) (fun c_24 => ?_) (fun c_24 => ?_)
        ·
          replace hF := ip c_24 hF
          refine lv_iload hx hb (dq_21 96 bcJ6_getChars_ba4f3_2 (j := 22) (i := 5) rfl rfl) (lv_at hl 0 rfl) ?_
          rw [hQ]
          have h9 := fin9 (P := fun u9 : Int32 × (Nat → Int32) => ((x5_11 + (-1 : Int32)) + (-1 : Int32)) = u9.1 ∧ va_P E.1 vwCl (w_J6_getChars_ba4f3 E a_o2 u9.2 m9) H ∧ va_D A (w_J6_getChars_ba4f3 E a_o2 u9.2 m9)) hF ⟨rfl, hP, hD⟩
          obtain ⟨e9_0, hP9, hD9⟩ := h9
          exact W.iret (v := (x5_11 + (-1 : Int32)) + (-1 : Int32)) hx hb hr (fun tt ht hW => ⟨⟨_, (), rfl, e9_0, ht ▸ hP9, hD9⟩, hS.F ht⟩) hS.2.2 (dq_172 96 bcJ6_getChars_ba4f3_2 (j := 24) rfl rfl)
        ·
          replace hF := inn c_24 hF
          refine lv_aload_n hx hb (dq_44 96 bcJ6_getChars_ba4f3_2 (j := 13) rfl rfl) rfl (lv_at hl 2 rfl) ?_
          refine lv_iinc (v := ((x5_11 + (-1 : Int32)) + (-1 : Int32)) + (-1 : Int32)) (lv' := [(5, .int (((x5_11 + (-1 : Int32)) + (-1 : Int32)) + (-1 : Int32))), (0, .int x0_10), (2, .ref a_o2), (6, .int k0)]) hx hb (dq_132 96 bcJ6_getChars_ba4f3_2 (j := 14) (i := -1) rfl rfl rfl) hl (k := 0) rfl (by exact rfl) (by decide) rfl (fun ls hl => ?_)
          refine lv_iload hx hb (dq_21 96 bcJ6_getChars_ba4f3_2 (j := 17) (i := 5) rfl rfl) (lv_at hl 0 rfl) ?_
          refine lv_bipush (v := 45) hx hb (dq_16 96 bcJ6_getChars_ba4f3_2 (j := 19) (i := 45) rfl rfl rfl) (by decide) ?_
          replace hF := ix_s hF
          obtain ⟨hi_25, hF⟩ := hF
          refine va_bast hx hb hK hP hD hS 0 1 rfl rfl hi_25 (dq_84 96 bcJ6_getChars_ba4f3_2 (j := 21) rfl rfl) (fun H locs hP hD hS => ?_)
          have h9 := fixPD (ws' := [k_B E a_o2 m9 (upd f_23 (((x5_11 + (-1 : Int32)) + (-1 : Int32)) + (-1 : Int32)).toNatClampNeg (vp_nar .byte (45 : Int32)))]) hP hD rfl
          clear hP hD
          obtain ⟨hP, hD⟩ := h9
          replace hF := nm_s hF
          obtain ⟨f_26, hf_26, hF⟩ := hF
          rw [← hf_26] at hP hD
          refine lv_iload hx hb (dq_21 96 bcJ6_getChars_ba4f3_2 (j := 22) (i := 5) rfl rfl) (lv_at hl 0 rfl) ?_
          rw [hQ]
          have h9 := fin9 (P := fun u9 : Int32 × (Nat → Int32) => (((x5_11 + (-1 : Int32)) + (-1 : Int32)) + (-1 : Int32)) = u9.1 ∧ va_P E.1 vwCl (w_J6_getChars_ba4f3 E a_o2 u9.2 m9) H ∧ va_D A (w_J6_getChars_ba4f3 E a_o2 u9.2 m9)) hF ⟨rfl, hP, hD⟩
          obtain ⟨e9_0, hP9, hD9⟩ := h9
          exact W.iret (v := ((x5_11 + (-1 : Int32)) + (-1 : Int32)) + (-1 : Int32)) hx hb hr (fun tt ht hW => ⟨⟨_, (), rfl, e9_0, ht ▸ hP9, hD9⟩, hS.F ht⟩) hS.2.2 (dq_172 96 bcJ6_getChars_ba4f3_2 (j := 24) rfl rfl)
  ·
    replace hF := ip c_2 hF
    refine lv_iload_n hx hb (dq_26 0 bcJ6_getChars_ba4f3_0 (j := 19) rfl rfl) rfl (lv_at hl 1 rfl) ?_
    refine lv_ineg hx hb (dq_116 0 bcJ6_getChars_ba4f3_0 (j := 20) rfl rfl) ?_
    refine lv_istore_n (lv' := [(0, .int (-x0)), (6, .int k0), (2, .ref a_o2), (5, .int x5)]) hx hb (dq_59 0 bcJ6_getChars_ba4f3_0 (j := 21) rfl rfl) rfl hl (by decide) rfl (fun ls hl => ?_)
    replace hF := bd3_s hF
    obtain ⟨x0_27, x5_28, c_o2_29, hL_30, hF⟩ := hF
    refine lw_J6_getChars_ba4f3_22 l E K (p0 := p0) (p1 := p1) (m9 := m9) (x6 := k0) hx hb hml hown hts hK hN hA hZ K (-x0) x5 c_o2 x0_27 x5_28 c_o2_29 hL_30 ?_ H locs ls (hP.sub [0] rfl) (hD.sub [0] (by decide) rfl) hS (lv_sub hl [0, 2, 3, 1] rfl)
    ·
      intro H locs ls hP hD hS hl
      have h9 := fixPD (ws' := [k_B E a_o2 m9 c_o2_29]) hP hD rfl
      clear hP hD
      obtain ⟨hP, hD⟩ := h9
      refine lv_aload_n hx hb (dq_44 48 bcJ6_getChars_ba4f3_1 (j := 24) rfl rfl) rfl (lv_at hl 1 rfl) ?_
      refine lv_iinc (v := x5_28 + (-1 : Int32)) (lv' := [(5, .int (x5_28 + (-1 : Int32))), (0, .int x0_27), (2, .ref a_o2), (6, .int k0)]) hx hb (dq_132 48 bcJ6_getChars_ba4f3_1 (j := 25) (i := -1) rfl rfl rfl) hl (k := 2) rfl (by exact rfl) (by decide) rfl (fun ls hl => ?_)
      refine lv_iload hx hb (dq_21 48 bcJ6_getChars_ba4f3_1 (j := 28) (i := 5) rfl rfl) (lv_at hl 0 rfl) ?_
      refine va_gets hx hb hZ.2.2.1.2.1 hS hown (hts (.fieldLink RJ6 83 "java/lang/Integer" "DigitOnes" "[B") (List.mem_of_getElem? (i := 1) rfl)) (fun _ h9 => h9) (dq_178 48 bcJ6_getChars_ba4f3_1 (j := 30) (i := 83) rfl rfl rfl) ?_
      refine lv_iload_n hx hb (dq_26 48 bcJ6_getChars_ba4f3_1 (j := 33) rfl rfl) rfl (lv_at hl 1 rfl) ?_
      refine lv_ineg hx hb (dq_116 48 bcJ6_getChars_ba4f3_1 (j := 34) rfl rfl) ?_
      replace hF := ix_s hF
      obtain ⟨hi_31, hF⟩ := hF
      refine va_tb (v := .int (onesF (-x0_27).toNatClampNeg)) hx hb (hZ.2.2.1.2.2.1) hS hi_31 rfl (dq_51 48 bcJ6_getChars_ba4f3_1 (j := 35) rfl rfl) ?_
      replace hF := ix_s hF
      obtain ⟨hi_32, hF⟩ := hF
      refine va_bast hx hb hK hP hD hS 0 1 rfl rfl hi_32 (dq_84 48 bcJ6_getChars_ba4f3_1 (j := 36) rfl rfl) (fun H locs hP hD hS => ?_)
      have h9 := fixPD (ws' := [k_B E a_o2 m9 (upd c_o2_29 (x5_28 + (-1 : Int32)).toNatClampNeg (vp_nar .byte (onesF (-x0_27).toNatClampNeg)))]) hP hD rfl
      clear hP hD
      obtain ⟨hP, hD⟩ := h9
      replace hF := nm_s hF
      obtain ⟨f_33, hf_33, hF⟩ := hF
      rw [← hf_33] at hP hD
      refine lv_iload_n hx hb (dq_26 48 bcJ6_getChars_ba4f3_1 (j := 37) rfl rfl) rfl (lv_at hl 1 rfl) ?_
      refine lv_bipush (v := -9) hx hb (dq_16 48 bcJ6_getChars_ba4f3_1 (j := 38) (i := -9) rfl rfl rfl) (by decide) ?_
      refine lv_icmp_ge (tgt := 104) hx hb (dq_162 48 bcJ6_getChars_ba4f3_1 (j := 40) (i := 16) rfl rfl rfl) (by decide) (fun c_34 => ?_) (fun c_34 => ?_)
      ·
        replace hF := ip c_34 hF
        refine lv_iload hx hb (dq_21 96 bcJ6_getChars_ba4f3_2 (j := 8) (i := 6) rfl rfl) (lv_at hl 3 rfl) ?_
        refine lv_if_eq (tgt := 118) hx hb (dq_153 96 bcJ6_getChars_ba4f3_2 (j := 10) (i := 12) rfl rfl rfl) (by decide) (fun c_35 => ?_) (fun c_35 => ?_)
        ·
          replace hF := ip c_35 hF
          refine lv_iload hx hb (dq_21 96 bcJ6_getChars_ba4f3_2 (j := 22) (i := 5) rfl rfl) (lv_at hl 0 rfl) ?_
          rw [hQ]
          have h9 := fin9 (P := fun u9 : Int32 × (Nat → Int32) => (x5_28 + (-1 : Int32)) = u9.1 ∧ va_P E.1 vwCl (w_J6_getChars_ba4f3 E a_o2 u9.2 m9) H ∧ va_D A (w_J6_getChars_ba4f3 E a_o2 u9.2 m9)) hF ⟨rfl, hP, hD⟩
          obtain ⟨e9_0, hP9, hD9⟩ := h9
          exact W.iret (v := x5_28 + (-1 : Int32)) hx hb hr (fun tt ht hW => ⟨⟨_, (), rfl, e9_0, ht ▸ hP9, hD9⟩, hS.F ht⟩) hS.2.2 (dq_172 96 bcJ6_getChars_ba4f3_2 (j := 24) rfl rfl)
        ·
          replace hF := inn c_35 hF
          refine lv_aload_n hx hb (dq_44 96 bcJ6_getChars_ba4f3_2 (j := 13) rfl rfl) rfl (lv_at hl 2 rfl) ?_
          refine lv_iinc (v := (x5_28 + (-1 : Int32)) + (-1 : Int32)) (lv' := [(5, .int ((x5_28 + (-1 : Int32)) + (-1 : Int32))), (0, .int x0_27), (2, .ref a_o2), (6, .int k0)]) hx hb (dq_132 96 bcJ6_getChars_ba4f3_2 (j := 14) (i := -1) rfl rfl rfl) hl (k := 0) rfl (by exact rfl) (by decide) rfl (fun ls hl => ?_)
          refine lv_iload hx hb (dq_21 96 bcJ6_getChars_ba4f3_2 (j := 17) (i := 5) rfl rfl) (lv_at hl 0 rfl) ?_
          refine lv_bipush (v := 45) hx hb (dq_16 96 bcJ6_getChars_ba4f3_2 (j := 19) (i := 45) rfl rfl rfl) (by decide) ?_
          replace hF := ix_s hF
          obtain ⟨hi_36, hF⟩ := hF
          refine va_bast hx hb hK hP hD hS 0 1 rfl rfl hi_36 (dq_84 96 bcJ6_getChars_ba4f3_2 (j := 21) rfl rfl) (fun H locs hP hD hS => ?_)
          have h9 := fixPD (ws' := [k_B E a_o2 m9 (upd f_33 ((x5_28 + (-1 : Int32)) + (-1 : Int32)).toNatClampNeg (vp_nar .byte (45 : Int32)))]) hP hD rfl
          clear hP hD
          obtain ⟨hP, hD⟩ := h9
          replace hF := nm_s hF
          obtain ⟨f_37, hf_37, hF⟩ := hF
          rw [← hf_37] at hP hD
          refine lv_iload hx hb (dq_21 96 bcJ6_getChars_ba4f3_2 (j := 22) (i := 5) rfl rfl) (lv_at hl 0 rfl) ?_
          rw [hQ]
          have h9 := fin9 (P := fun u9 : Int32 × (Nat → Int32) => ((x5_28 + (-1 : Int32)) + (-1 : Int32)) = u9.1 ∧ va_P E.1 vwCl (w_J6_getChars_ba4f3 E a_o2 u9.2 m9) H ∧ va_D A (w_J6_getChars_ba4f3 E a_o2 u9.2 m9)) hF ⟨rfl, hP, hD⟩
          obtain ⟨e9_0, hP9, hD9⟩ := h9
          exact W.iret (v := (x5_28 + (-1 : Int32)) + (-1 : Int32)) hx hb hr (fun tt ht hW => ⟨⟨_, (), rfl, e9_0, ht ▸ hP9, hD9⟩, hS.F ht⟩) hS.2.2 (dq_172 96 bcJ6_getChars_ba4f3_2 (j := 24) rfl rfl)
      ·
        replace hF := inn c_34 hF
        refine lv_aload_n hx hb (dq_44 48 bcJ6_getChars_ba4f3_1 (j := 43) rfl rfl) rfl (lv_at hl 2 rfl) ?_
        refine lv_iinc (v := (x5_28 + (-1 : Int32)) + (-1 : Int32)) (lv' := [(5, .int ((x5_28 + (-1 : Int32)) + (-1 : Int32))), (0, .int x0_27), (2, .ref a_o2), (6, .int k0)]) hx hb (dq_132 48 bcJ6_getChars_ba4f3_1 (j := 44) (i := -1) rfl rfl rfl) hl (k := 0) rfl (by exact rfl) (by decide) rfl (fun ls hl => ?_)
        refine lv_iload hx hb (dq_21 48 bcJ6_getChars_ba4f3_1 (j := 47) (i := 5) rfl rfl) (lv_at hl 0 rfl) ?_
        refine va_gets hx hb hZ.2.2.1.2.2.2.1 hS hown (hts (.fieldLink RJ6 87 "java/lang/Integer" "DigitTens" "[B") (List.mem_of_getElem? (i := 2) rfl)) (fun _ h9 => h9) (dq_178 96 bcJ6_getChars_ba4f3_2 (j := 1) (i := 87) rfl rfl rfl) ?_
        refine lv_iload_n hx hb (dq_26 96 bcJ6_getChars_ba4f3_2 (j := 4) rfl rfl) rfl (lv_at hl 1 rfl) ?_
        refine lv_ineg hx hb (dq_116 96 bcJ6_getChars_ba4f3_2 (j := 5) rfl rfl) ?_
        replace hF := ix_s hF
        obtain ⟨hi_38, hF⟩ := hF
        refine va_tb (v := .int (tensF (-x0_27).toNatClampNeg)) hx hb (hZ.2.2.1.2.2.2.2.1) hS hi_38 rfl (dq_51 96 bcJ6_getChars_ba4f3_2 (j := 6) rfl rfl) ?_
        replace hF := ix_s hF
        obtain ⟨hi_39, hF⟩ := hF
        refine va_bast hx hb hK hP hD hS 0 1 rfl rfl hi_39 (dq_84 96 bcJ6_getChars_ba4f3_2 (j := 7) rfl rfl) (fun H locs hP hD hS => ?_)
        have h9 := fixPD (ws' := [k_B E a_o2 m9 (upd f_33 ((x5_28 + (-1 : Int32)) + (-1 : Int32)).toNatClampNeg (vp_nar .byte (tensF (-x0_27).toNatClampNeg)))]) hP hD rfl
        clear hP hD
        obtain ⟨hP, hD⟩ := h9
        replace hF := nm_s hF
        obtain ⟨f_40, hf_40, hF⟩ := hF
        rw [← hf_40] at hP hD
        refine lv_iload hx hb (dq_21 96 bcJ6_getChars_ba4f3_2 (j := 8) (i := 6) rfl rfl) (lv_at hl 3 rfl) ?_
        refine lv_if_eq (tgt := 118) hx hb (dq_153 96 bcJ6_getChars_ba4f3_2 (j := 10) (i := 12) rfl rfl rfl) (by decide) (fun c_41 => ?_) (fun c_41 => ?_)
        ·
          replace hF := ip c_41 hF
          refine lv_iload hx hb (dq_21 96 bcJ6_getChars_ba4f3_2 (j := 22) (i := 5) rfl rfl) (lv_at hl 0 rfl) ?_
          rw [hQ]
          have h9 := fin9 (P := fun u9 : Int32 × (Nat → Int32) => ((x5_28 + (-1 : Int32)) + (-1 : Int32)) = u9.1 ∧ va_P E.1 vwCl (w_J6_getChars_ba4f3 E a_o2 u9.2 m9) H ∧ va_D A (w_J6_getChars_ba4f3 E a_o2 u9.2 m9)) hF ⟨rfl, hP, hD⟩
          obtain ⟨e9_0, hP9, hD9⟩ := h9
          exact W.iret (v := (x5_28 + (-1 : Int32)) + (-1 : Int32)) hx hb hr (fun tt ht hW => ⟨⟨_, (), rfl, e9_0, ht ▸ hP9, hD9⟩, hS.F ht⟩) hS.2.2 (dq_172 96 bcJ6_getChars_ba4f3_2 (j := 24) rfl rfl)
        ·
          replace hF := inn c_41 hF
          refine lv_aload_n hx hb (dq_44 96 bcJ6_getChars_ba4f3_2 (j := 13) rfl rfl) rfl (lv_at hl 2 rfl) ?_
          refine lv_iinc (v := ((x5_28 + (-1 : Int32)) + (-1 : Int32)) + (-1 : Int32)) (lv' := [(5, .int (((x5_28 + (-1 : Int32)) + (-1 : Int32)) + (-1 : Int32))), (0, .int x0_27), (2, .ref a_o2), (6, .int k0)]) hx hb (dq_132 96 bcJ6_getChars_ba4f3_2 (j := 14) (i := -1) rfl rfl rfl) hl (k := 0) rfl (by exact rfl) (by decide) rfl (fun ls hl => ?_)
          refine lv_iload hx hb (dq_21 96 bcJ6_getChars_ba4f3_2 (j := 17) (i := 5) rfl rfl) (lv_at hl 0 rfl) ?_
          refine lv_bipush (v := 45) hx hb (dq_16 96 bcJ6_getChars_ba4f3_2 (j := 19) (i := 45) rfl rfl rfl) (by decide) ?_
          replace hF := ix_s hF
          obtain ⟨hi_42, hF⟩ := hF
          refine va_bast hx hb hK hP hD hS 0 1 rfl rfl hi_42 (dq_84 96 bcJ6_getChars_ba4f3_2 (j := 21) rfl rfl) (fun H locs hP hD hS => ?_)
          have h9 := fixPD (ws' := [k_B E a_o2 m9 (upd f_40 (((x5_28 + (-1 : Int32)) + (-1 : Int32)) + (-1 : Int32)).toNatClampNeg (vp_nar .byte (45 : Int32)))]) hP hD rfl
          clear hP hD
          obtain ⟨hP, hD⟩ := h9
          replace hF := nm_s hF
          obtain ⟨f_43, hf_43, hF⟩ := hF
          rw [← hf_43] at hP hD
          refine lv_iload hx hb (dq_21 96 bcJ6_getChars_ba4f3_2 (j := 22) (i := 5) rfl rfl) (lv_at hl 0 rfl) ?_
          rw [hQ]
          have h9 := fin9 (P := fun u9 : Int32 × (Nat → Int32) => (((x5_28 + (-1 : Int32)) + (-1 : Int32)) + (-1 : Int32)) = u9.1 ∧ va_P E.1 vwCl (w_J6_getChars_ba4f3 E a_o2 u9.2 m9) H ∧ va_D A (w_J6_getChars_ba4f3 E a_o2 u9.2 m9)) hF ⟨rfl, hP, hD⟩
          obtain ⟨e9_0, hP9, hD9⟩ := h9
          exact W.iret (v := ((x5_28 + (-1 : Int32)) + (-1 : Int32)) + (-1 : Int32)) hx hb hr (fun tt ht hW => ⟨⟨_, (), rfl, e9_0, ht ▸ hP9, hD9⟩, hS.F ht⟩) hS.2.2 (dq_172 96 bcJ6_getChars_ba4f3_2 (j := 24) rfl rfl)

set_option maxHeartbeats 4000000 in
set_option maxRecDepth 100000 in
theorem f_J6_getChars_ba4f3 (l : Launch) (E : EE) (sz : Nat) (K : Nat) (z9 : Nat → Nat) {a_o2 : Nat} {p0 : Int32} {p1 : Int32} {c_o2 : Nat → Int32} {m9 : Nat} {rr : Int32} {n_o2 : Nat → Int32} (hF : F_J6_getChars_ba4f3 K p0 p1 c_o2 m9 = some (rr, n_o2)) : Met l yJ6_getChars_ba4f3 v_f_J6_getChars_ba4f3 (({ frames := 0, cells := 0, slots := 0, locals := 0 } : Room)) (va_Pc [.int p0, .int p1, .ref a_o2] (qWZ E z9 sz (w_J6_getChars_ba4f3 E a_o2 c_o2 m9))) (va_Qi (fun (q : Int32) (_u : Unit) => q = rr) (fun (_u : Unit) tt => va_P E.1 vwCl (w_J6_getChars_ba4f3 E a_o2 n_o2 m9) tt.heap ∧ va_D (va_A (w_J6_getChars_ba4f3 E a_o2 c_o2 m9) sz) (w_J6_getChars_ba4f3 E a_o2 n_o2 m9)) (va_A (w_J6_getChars_ba4f3 E a_o2 c_o2 m9) sz)) 0 0 (va_A (w_J6_getChars_ba4f3 E a_o2 c_o2 m9) sz) := by
  refine Met.ofWF (cc := cJ6_getChars_ba4f3) (maxL := 7) (ret := (some .int)) (by decide +kernel) rfl ?_
  intro p e s m args below meth c s₁ B hml hv
  obtain ⟨rfl, hsz, ⟨hK, hN⟩, hP, hD0, hZ⟩ := hv
  have hx := B.exec
  have hb := B.bytes
  have hr := B.returns
  have hts := atoms_spec (ws := v_f_J6_getChars_ba4f3) B.pre
  have hown : s.vm.findClass RJ6 = some m.cls := own_of hd_J6_getChars_ba4f3.1 (findClass_of_methodNamed B.named)
  have hlocks : meth.locks = false := B.notSynchronized
  subst hsz
  have hD := hD0.self (sz := s.heap.size)
  generalize hAe : va_A (w_J6_getChars_ba4f3 E a_o2 c_o2 m9) s.heap.size = A at hD hZ ⊢
  have hA : ∀ q : Nat, s.heap.size ≤ q → A q := fun q h => by rw [← hAe]; exact Or.inr h
  have hS : va_S A s.heap s.heap [] := va_S.rf
  have hl := lv_entry ([.int p0, .int p1, .ref a_o2]) (n := 7) (Nat.le_of_ble_eq_true rfl)
  rw [lg_entry_eq]
  generalize (lg_sl ([.int p0, .int p1, .ref a_o2]) ++ List.replicate (7 - (lg_sl ([.int p0, .int p1, .ref a_o2])).length) Slot.unset).toArray = ls at hl ⊢
  have hl : lv_has ls 7 [(0, .int p0), (1, .int p1), (2, .ref a_o2)] := hl
  obtain ⟨Q, hQ⟩ : ∃ Q : State → Prop, Q = MQ below (va_Qi (fun (q : Int32) (_u : Unit) => q = rr) (fun (_u : Unit) tt => va_P E.1 vwCl (w_J6_getChars_ba4f3 E a_o2 n_o2 m9) tt.heap ∧ va_D A (w_J6_getChars_ba4f3 E a_o2 n_o2 m9)) A) #[Value.int p0, Value.int p1, Value.ref a_o2] s 0 0 A := ⟨_, rfl⟩
  rw [← hQ]
  change W p l e ({ frames := 0, cells := 0, slots := 0, locals := 0 } : Room) s m #[Value.int p0, Value.int p1, Value.ref a_o2] below meth c s.heap [] 0 0 Q (F0 m 0 ls [])
  suffices hh9 : ∀ (H : Heap) (locs : List Loc), va_P E.1 vwCl (w_J6_getChars_ba4f3 E a_o2 c_o2 m9) H → va_D A (w_J6_getChars_ba4f3 E a_o2 c_o2 m9) → va_S A s.heap H locs → W p l e ({ frames := 0, cells := 0, slots := 0, locals := 0 } : Room) s m #[Value.int p0, Value.int p1, Value.ref a_o2] below meth c H locs 0 0 Q (F0 m 0 ls []) from hh9 s.heap [] hP hD hS
  clear hP hD hS
  intro H locs hP hD hS
  have h9 := fixPD (ws' := [k_B E a_o2 m9 c_o2]) hP hD rfl
  clear hP hD
  obtain ⟨hP, hD⟩ := h9
  unfold F_J6_getChars_ba4f3 at hF
  refine lv_iload_n hx hb (dq_27 0 bcJ6_getChars_ba4f3_0 (j := 0) rfl rfl) rfl (lv_at hl 1 rfl) ?_
  refine lv_istore (lv' := [(5, .int p1), (0, .int p0), (1, .int p1), (2, .ref a_o2)]) hx hb (dq_54 0 bcJ6_getChars_ba4f3_0 (j := 1) (i := 5) rfl rfl) hl (by decide) rfl (fun ls hl => ?_)
  refine lv_iload_n hx hb (dq_26 0 bcJ6_getChars_ba4f3_0 (j := 3) rfl rfl) rfl (lv_at hl 1 rfl) ?_
  refine lv_if_ge (tgt := 11) hx hb (dq_156 0 bcJ6_getChars_ba4f3_0 (j := 4) (i := 7) rfl rfl rfl) (by decide) (fun c_1 => ?_) (fun c_1 => ?_)
  ·
    replace hF := ip c_1 hF
    refine lv_iconst (v := 0) hx hb (dq_3 0 bcJ6_getChars_ba4f3_0 (j := 11) rfl rfl) (by decide) ?_
    exact j_J6_getChars_ba4f3_12 l E K (p0 := p0) (p1 := p1) (m9 := m9) (k0 := (0 : Int32)) (x0 := p0) (x5 := p1) (c_o2 := c_o2) hx hb hml hown hts hK hN hA hZ hr hlocks hQ hF H locs ls (hP.sub [0] rfl) (hD.sub [0] (by decide) rfl) hS (lv_sub hl [1, 3, 0] rfl)
  ·
    replace hF := inn c_1 hF
    refine lv_iconst (v := 1) hx hb (dq_4 0 bcJ6_getChars_ba4f3_0 (j := 7) rfl rfl) (by decide) ?_
    refine lv_goto (tgt := 12) hx hb (dq_167 0 bcJ6_getChars_ba4f3_0 (j := 8) (i := 4) rfl rfl rfl) (by decide) ?_
    exact j_J6_getChars_ba4f3_12 l E K (p0 := p0) (p1 := p1) (m9 := m9) (k0 := (1 : Int32)) (x0 := p0) (x5 := p1) (c_o2 := c_o2) hx hb hml hown hts hK hN hA hZ hr hlocks hQ hF H locs ls (hP.sub [0] rfl) (hD.sub [0] (by decide) rfl) hS (lv_sub hl [1, 3, 0] rfl)

def F_J5_length_8abf5 (c_count : Int32) : Option (Int32) :=
  some c_count
theorem gw_wsJ40 : wsJ40.all goodWord = true := by decide +kernel
abbrev w_J5_length_8abf5 (E : EE) (a_ a_value : Nat) (c_coder : Int32) (c_maybeLatin1 : Int32) (c_count : Int32) : va_W := [k_J4 a_ a_value c_coder c_maybeLatin1 c_count]
def v_f_J5_length_8abf5 : List Cond := List.cons (.code yJ5_length_8abf5 cJ5_length_8abf5 1 (some .int)) (HAppend.hAppend (α := List Cond) (β := List Cond) (γ := List Cond) [.fieldLink RJ5 79 "java/lang/AbstractStringBuilder" "count" "I"] (HAppend.hAppend (α := List Cond) (β := List Cond) (γ := List Cond) wsJ40 []))
theorem gw_f_J5_length_8abf5 : v_f_J5_length_8abf5.all goodWord = true := gw_c2 (by decide +kernel) (gw_ap gw_wsJ40 gw_nil)
theorem i_f_J5_length_8abf5_J4 : ∀ w ∈ wsJ40, w ∈ v_f_J5_length_8abf5 := fun _ h => List.mem_cons_of_mem _ (List.mem_append_right _ (List.mem_append_left _ h))
theorem hd_J5_length_8abf5 : yJ5_length_8abf5.cls = RJ5 ∧ yJ5_length_8abf5.cls ≠ "java/lang/invoke/MethodHandle" ∧ yJ5_length_8abf5.cls ≠ "java/lang/invoke/VarHandle" ∧ (parseMethodDescriptor yJ5_length_8abf5.desc).map (fun d => d.parameters.length) = some 0 := by decide +kernel
set_option maxHeartbeats 4000000 in
set_option maxRecDepth 100000 in
theorem f_J5_length_8abf5 (l : Launch) (E : EE) {a_ a_value : Nat} {c_coder : Int32} {c_maybeLatin1 : Int32} {c_count : Int32} {rr : Int32} (hF : F_J5_length_8abf5 c_count = some rr) : Met l yJ5_length_8abf5 v_f_J5_length_8abf5 (({ frames := 0, cells := 0, slots := 0, locals := 0 } : Room)) (va_Pc [.ref a_] (pP E (w_J5_length_8abf5 E a_ a_value c_coder c_maybeLatin1 c_count))) (vp_Si (fun q : Int32 => q = rr)) 0 0 (fun _ => False) := by
  refine Met.ofWF (cc := cJ5_length_8abf5) (maxL := 1) (ret := (some .int)) (by decide +kernel) rfl ?_
  intro p e s m args below meth c s₁ B hml hv
  obtain ⟨rfl, ⟨hK, hN⟩, hP⟩ := hv
  have hx := B.exec
  have hb := B.bytes
  have hr := B.returns
  have hts := atoms_spec (ws := v_f_J5_length_8abf5) B.pre
  have hown : s.vm.findClass RJ5 = some m.cls := own_of hd_J5_length_8abf5.1 (findClass_of_methodNamed B.named)
  have hlocks : meth.locks = false := B.notSynchronized
  replace hP : va_P E.1 vwCl [k_J4 a_ a_value c_coder c_maybeLatin1 c_count] s.heap := hP
  have hl := lv_entry ([.ref a_]) (n := 1) (Nat.le_of_ble_eq_true rfl)
  rw [lg_entry_eq]
  generalize (lg_sl ([.ref a_]) ++ List.replicate (1 - (lg_sl ([.ref a_])).length) Slot.unset).toArray = ls at hl ⊢
  have hl : lv_has ls 1 [(0, .ref a_)] := hl
  obtain ⟨Q, hQ⟩ : ∃ Q : State → Prop, Q = MQ below (vp_Si (fun q : Int32 => q = rr)) #[Value.ref a_] s 0 0 (fun _ => False) := ⟨_, rfl⟩
  rw [← hQ]
  change W p l e ({ frames := 0, cells := 0, slots := 0, locals := 0 } : Room) s m #[Value.ref a_] below meth c s.heap [] 0 0 Q (F0 m 0 ls [])
  unfold F_J5_length_8abf5 at hF
  refine lv_aload_n hx hb (dq_42 0 bcJ5_length_8abf5_0 (j := 0) rfl rfl) rfl (lv_at hl 0 rfl) ?_
  refine gt_J4_3 (v := .int c_count) hx hb hts i_f_J5_length_8abf5_J4 hown hK hP 0 rfl (hts (.fieldLink RJ5 79 "java/lang/AbstractStringBuilder" "count" "I") (List.mem_of_getElem? (i := 1) rfl)) rfl (dq_180 0 bcJ5_length_8abf5_0 (j := 1) (i := 79) rfl rfl rfl) ?_
  rw [hQ]
  obtain e9_0 := inj1 hF
  exact W.iret (v := c_count) hx hb hr (fun tt ht hW => ⟨_, rfl, e9_0, ht⟩) (fun _ h => by cases h) (dq_172 0 bcJ5_length_8abf5_0 (j := 4) rfl rfl)

def F_J5_isLatin1_aae02 (c_coder : Int32) : Option (Int32) :=
  if c_coder = (0 : Int32) then some (1 : Int32) else some (0 : Int32)
abbrev w_J5_isLatin1_aae02 (E : EE) (a_ a_value : Nat) (c_coder : Int32) (c_maybeLatin1 : Int32) (c_count : Int32) : va_W := [k_J4 a_ a_value c_coder c_maybeLatin1 c_count]
def v_f_J5_isLatin1_aae02 : List Cond := List.cons (.code yJ5_isLatin1_aae02 cJ5_isLatin1_aae02 1 (some .boolean)) (HAppend.hAppend (α := List Cond) (β := List Cond) (γ := List Cond) [.fieldLink RJ5 18 "java/lang/String" "COMPACT_STRINGS" "Z", .fieldLink RJ5 22 "java/lang/AbstractStringBuilder" "coder" "B"] (HAppend.hAppend (α := List Cond) (β := List Cond) (γ := List Cond) wsJ40 []))
theorem gw_f_J5_isLatin1_aae02 : v_f_J5_isLatin1_aae02.all goodWord = true := gw_c2 (by decide +kernel) (gw_ap gw_wsJ40 gw_nil)
theorem i_f_J5_isLatin1_aae02_J4 : ∀ w ∈ wsJ40, w ∈ v_f_J5_isLatin1_aae02 := fun _ h => List.mem_cons_of_mem _ (List.mem_append_right _ (List.mem_append_left _ h))
theorem hd_J5_isLatin1_aae02 : yJ5_isLatin1_aae02.cls = RJ5 ∧ yJ5_isLatin1_aae02.cls ≠ "java/lang/invoke/MethodHandle" ∧ yJ5_isLatin1_aae02.cls ≠ "java/lang/invoke/VarHandle" ∧ (parseMethodDescriptor yJ5_isLatin1_aae02.desc).map (fun d => d.parameters.length) = some 0 := by decide +kernel
set_option maxHeartbeats 4000000 in
set_option maxRecDepth 100000 in
theorem f_J5_isLatin1_aae02 (l : Launch) (E : EE) (z9 : Nat → Nat) {a_ a_value : Nat} {c_coder : Int32} {c_maybeLatin1 : Int32} {c_count : Int32} {rr : Int32} (hF : F_J5_isLatin1_aae02 c_coder = some rr) : Met l yJ5_isLatin1_aae02 v_f_J5_isLatin1_aae02 (({ frames := 0, cells := 0, slots := 0, locals := 0 } : Room)) (va_Pc [.ref a_] (qPZ E z9 (w_J5_isLatin1_aae02 E a_ a_value c_coder c_maybeLatin1 c_count))) (vp_Si (fun q : Int32 => q = rr ∧ (q = 0 ∨ q = 1))) 0 0 (fun _ => False) := by
  refine Met.ofWF (cc := cJ5_isLatin1_aae02) (maxL := 1) (ret := (some .boolean)) (by decide +kernel) rfl ?_
  intro p e s m args below meth c s₁ B hml hv
  obtain ⟨rfl, ⟨hK, hN⟩, hP, hZ⟩ := hv
  have hx := B.exec
  have hb := B.bytes
  have hr := B.returns
  have hts := atoms_spec (ws := v_f_J5_isLatin1_aae02) B.pre
  have hown : s.vm.findClass RJ5 = some m.cls := own_of hd_J5_isLatin1_aae02.1 (findClass_of_methodNamed B.named)
  have hlocks : meth.locks = false := B.notSynchronized
  replace hP : va_P E.1 vwCl [k_J4 a_ a_value c_coder c_maybeLatin1 c_count] s.heap := hP
  have hl := lv_entry ([.ref a_]) (n := 1) (Nat.le_of_ble_eq_true rfl)
  rw [lg_entry_eq]
  generalize (lg_sl ([.ref a_]) ++ List.replicate (1 - (lg_sl ([.ref a_])).length) Slot.unset).toArray = ls at hl ⊢
  have hl : lv_has ls 1 [(0, .ref a_)] := hl
  obtain ⟨Q, hQ⟩ : ∃ Q : State → Prop, Q = MQ below (vp_Si (fun q : Int32 => q = rr ∧ (q = 0 ∨ q = 1))) #[Value.ref a_] s 0 0 (fun _ => False) := ⟨_, rfl⟩
  rw [← hQ]
  change W p l e ({ frames := 0, cells := 0, slots := 0, locals := 0 } : Room) s m #[Value.ref a_] below meth c s.heap [] 0 0 Q (F0 m 0 ls [])
  unfold F_J5_isLatin1_aae02 at hF
  refine va_gets hx hb hZ.2.2.1.1 (va_S.rf) hown (hts (.fieldLink RJ5 18 "java/lang/String" "COMPACT_STRINGS" "Z") (List.mem_of_getElem? (i := 1) rfl)) (fun _ h9 => h9) (dq_178 0 bcJ5_isLatin1_aae02_0 (j := 0) (i := 18) rfl rfl rfl) ?_
  refine lv_if_eq (tgt := 17) hx hb (dq_153 0 bcJ5_isLatin1_aae02_0 (j := 3) (i := 14) rfl rfl rfl) (by decide) (fun q => absurd q (by decide)) (fun _ => ?_)
  refine lv_aload_n hx hb (dq_42 0 bcJ5_isLatin1_aae02_0 (j := 6) rfl rfl) rfl (lv_at hl 0 rfl) ?_
  refine gt_J4_1 (v := .int c_coder) hx hb hts i_f_J5_isLatin1_aae02_J4 hown hK hP 0 rfl (hts (.fieldLink RJ5 22 "java/lang/AbstractStringBuilder" "coder" "B") (List.mem_of_getElem? (i := 2) rfl)) rfl (dq_180 0 bcJ5_isLatin1_aae02_0 (j := 7) (i := 22) rfl rfl rfl) ?_
  refine lv_if_ne (tgt := 17) hx hb (dq_154 0 bcJ5_isLatin1_aae02_0 (j := 10) (i := 7) rfl rfl rfl) (by decide) (fun c_1 => ?_) (fun c_1 => ?_)
  ·
    replace hF := inn c_1 hF
    refine lv_iconst (v := 0) hx hb (dq_3 0 bcJ5_isLatin1_aae02_0 (j := 17) rfl rfl) (by decide) ?_
    rw [hQ]
    obtain e9_0 := inj1 hF
    exact W.zret (v := (0 : Int32)) hx hb hr rfl (fun tt ht hW => ⟨_, rfl, ⟨e9_0, Or.inl rfl⟩, ht⟩) (fun _ h => by cases h) (dq_172 0 bcJ5_isLatin1_aae02_0 (j := 18) rfl rfl)
  ·
    replace hF := ip c_1 hF
    refine lv_iconst (v := 1) hx hb (dq_4 0 bcJ5_isLatin1_aae02_0 (j := 13) rfl rfl) (by decide) ?_
    refine lv_goto (tgt := 18) hx hb (dq_167 0 bcJ5_isLatin1_aae02_0 (j := 14) (i := 4) rfl rfl rfl) (by decide) ?_
    rw [hQ]
    obtain e9_0 := inj1 hF
    exact W.zret (v := (1 : Int32)) hx hb hr rfl (fun tt ht hW => ⟨_, rfl, ⟨e9_0, Or.inr rfl⟩, ht⟩) (fun _ h => by cases h) (dq_172 0 bcJ5_isLatin1_aae02_0 (j := 18) rfl rfl)

def F_J1_canEncode_fc78d (p0 : Int32) : Option (Int32) :=
  if (255 : Int32) < p0 then some (0 : Int32) else some (1 : Int32)

def v_f_J1_canEncode_fc78d : List Cond := List.cons (.code yJ1_canEncode_fc78d cJ1_canEncode_fc78d 1 (some .boolean)) (HAppend.hAppend (α := List Cond) (β := List Cond) (γ := List Cond) [] [])
theorem gw_f_J1_canEncode_fc78d : v_f_J1_canEncode_fc78d.all goodWord = true := gw_c2 (by decide +kernel) gw_nil
theorem hd_J1_canEncode_fc78d : yJ1_canEncode_fc78d.cls = RJ1 ∧ yJ1_canEncode_fc78d.cls ≠ "java/lang/invoke/MethodHandle" ∧ yJ1_canEncode_fc78d.cls ≠ "java/lang/invoke/VarHandle" ∧ (parseMethodDescriptor yJ1_canEncode_fc78d.desc).map (fun d => d.parameters.length) = some 1 := by decide +kernel
set_option maxHeartbeats 4000000 in
set_option maxRecDepth 100000 in
theorem f_J1_canEncode_fc78d (l : Launch) (E : EE) {p0 : Int32} {rr : Int32} (hF : F_J1_canEncode_fc78d p0 = some rr) : Met l yJ1_canEncode_fc78d v_f_J1_canEncode_fc78d (({ frames := 0, cells := 0, slots := 0, locals := 0 } : Room)) (va_Pc [.int p0] (pP E [])) (vp_Si (fun q : Int32 => q = rr ∧ (q = 0 ∨ q = 1))) 0 0 (fun _ => False) := by
  refine Met.ofWF (cc := cJ1_canEncode_fc78d) (maxL := 1) (ret := (some .boolean)) (by decide +kernel) rfl ?_
  intro p e s m args below meth c s₁ B hml hv
  obtain ⟨rfl, ⟨hK, hN⟩, hP⟩ := hv
  have hx := B.exec
  have hb := B.bytes
  have hr := B.returns
  have hts := atoms_spec (ws := v_f_J1_canEncode_fc78d) B.pre
  have hown : s.vm.findClass RJ1 = some m.cls := own_of hd_J1_canEncode_fc78d.1 (findClass_of_methodNamed B.named)
  have hlocks : meth.locks = false := B.notSynchronized
  replace hP : va_P E.1 vwCl [] s.heap := hP
  have hl := lv_entry ([.int p0]) (n := 1) (Nat.le_of_ble_eq_true rfl)
  rw [lg_entry_eq]
  generalize (lg_sl ([.int p0]) ++ List.replicate (1 - (lg_sl ([.int p0])).length) Slot.unset).toArray = ls at hl ⊢
  have hl : lv_has ls 1 [(0, .int p0)] := hl
  obtain ⟨Q, hQ⟩ : ∃ Q : State → Prop, Q = MQ below (vp_Si (fun q : Int32 => q = rr ∧ (q = 0 ∨ q = 1))) #[Value.int p0] s 0 0 (fun _ => False) := ⟨_, rfl⟩
  rw [← hQ]
  change W p l e ({ frames := 0, cells := 0, slots := 0, locals := 0 } : Room) s m #[Value.int p0] below meth c s.heap [] 0 0 Q (F0 m 0 ls [])
  unfold F_J1_canEncode_fc78d at hF
  refine lv_iload_n hx hb (dq_26 0 bcJ1_canEncode_fc78d_0 (j := 0) rfl rfl) rfl (lv_at hl 0 rfl) ?_
  refine lv_sipush (v := 255) hx hb (dq_17 0 bcJ1_canEncode_fc78d_0 (j := 1) (i := 255) rfl rfl rfl) (by decide) ?_
  refine lv_icmp_gt (tgt := 11) hx hb (dq_163 0 bcJ1_canEncode_fc78d_0 (j := 4) (i := 7) rfl rfl rfl) (by decide) (fun c_1 => ?_) (fun c_1 => ?_)
  ·
    replace hF := ip c_1 hF
    refine lv_iconst (v := 0) hx hb (dq_3 0 bcJ1_canEncode_fc78d_0 (j := 11) rfl rfl) (by decide) ?_
    rw [hQ]
    obtain e9_0 := inj1 hF
    exact W.zret (v := (0 : Int32)) hx hb hr rfl (fun tt ht hW => ⟨_, rfl, ⟨e9_0, Or.inl rfl⟩, ht⟩) (fun _ h => by cases h) (dq_172 0 bcJ1_canEncode_fc78d_0 (j := 12) rfl rfl)
  ·
    replace hF := inn c_1 hF
    refine lv_iconst (v := 1) hx hb (dq_4 0 bcJ1_canEncode_fc78d_0 (j := 7) rfl rfl) (by decide) ?_
    refine lv_goto (tgt := 12) hx hb (dq_167 0 bcJ1_canEncode_fc78d_0 (j := 8) (i := 4) rfl rfl rfl) (by decide) ?_
    rw [hQ]
    obtain e9_0 := inj1 hF
    exact W.zret (v := (1 : Int32)) hx hb hr rfl (fun tt ht hW => ⟨_, rfl, ⟨e9_0, Or.inr rfl⟩, ht⟩) (fun _ h => by cases h) (dq_172 0 bcJ1_canEncode_fc78d_0 (j := 12) rfl rfl)

def F_J8_newLength_cabcc (p0 : Int32) (p1 : Int32) (p2 : Int32) : Option (Int32) :=
  if p0 + (maxF p1 p2) ≤ (0 : Int32) then none else if (2147483639 : Int32) < p0 + (maxF p1 p2) then none else some (p0 + (maxF p1 p2))

def v_f_J8_newLength_cabcc : List Cond := List.cons (.code yJ8_newLength_cabcc cJ8_newLength_cabcc 4 (some .int)) (HAppend.hAppend (α := List Cond) (β := List Cond) (γ := List Cond) [.methodLink RJ8 194 Lib.Math.max.name, .static Lib.Math.max.name, .initialized "java/lang/Math", .code Lib.Math.max.name Lib.Math.max.code 2 (some .int), .constant RJ8 200 (2147483639)] [])
theorem gw_f_J8_newLength_cabcc : v_f_J8_newLength_cabcc.all goodWord = true := gw_c2 (by decide +kernel) gw_nil
theorem hd_J8_newLength_cabcc : yJ8_newLength_cabcc.cls = RJ8 ∧ yJ8_newLength_cabcc.cls ≠ "java/lang/invoke/MethodHandle" ∧ yJ8_newLength_cabcc.cls ≠ "java/lang/invoke/VarHandle" ∧ (parseMethodDescriptor yJ8_newLength_cabcc.desc).map (fun d => d.parameters.length) = some 3 := by decide +kernel
set_option maxHeartbeats 4000000 in
set_option maxRecDepth 100000 in
theorem f_J8_newLength_cabcc (l : Launch) (E : EE) {p0 : Int32} {p1 : Int32} {p2 : Int32} {rr : Int32} (hF : F_J8_newLength_cabcc p0 p1 p2 = some rr) : Met l yJ8_newLength_cabcc v_f_J8_newLength_cabcc (({ frames := 1, cells := 0, slots := 0, locals := 21 } : Room)) (va_Pc [.int p0, .int p1, .int p2] (pP E [])) (vp_Si (fun q : Int32 => q = rr)) 0 0 (fun _ => False) := by
  refine Met.ofWF (cc := cJ8_newLength_cabcc) (maxL := 4) (ret := (some .int)) (by decide +kernel) rfl ?_
  intro p e s m args below meth c s₁ B hml hv
  obtain ⟨rfl, ⟨hK, hN⟩, hP⟩ := hv
  have hx := B.exec
  have hb := B.bytes
  have hr := B.returns
  have hts := atoms_spec (ws := v_f_J8_newLength_cabcc) B.pre
  have hown : s.vm.findClass RJ8 = some m.cls := own_of hd_J8_newLength_cabcc.1 (findClass_of_methodNamed B.named)
  have hlocks : meth.locks = false := B.notSynchronized
  replace hP : va_P E.1 vwCl [] s.heap := hP
  have hl := lv_entry ([.int p0, .int p1, .int p2]) (n := 4) (Nat.le_of_ble_eq_true rfl)
  rw [lg_entry_eq]
  generalize (lg_sl ([.int p0, .int p1, .int p2]) ++ List.replicate (4 - (lg_sl ([.int p0, .int p1, .int p2])).length) Slot.unset).toArray = ls at hl ⊢
  have hl : lv_has ls 4 [(0, .int p0), (1, .int p1), (2, .int p2)] := hl
  obtain ⟨Q, hQ⟩ : ∃ Q : State → Prop, Q = MQ below (vp_Si (fun q : Int32 => q = rr)) #[Value.int p0, Value.int p1, Value.int p2] s 0 0 (fun _ => False) := ⟨_, rfl⟩
  rw [← hQ]
  change W p l e ({ frames := 1, cells := 0, slots := 0, locals := 21 } : Room) s m #[Value.int p0, Value.int p1, Value.int p2] below meth c s.heap [] 0 0 Q (F0 m 0 ls [])
  unfold F_J8_newLength_cabcc at hF
  refine lv_iload_n hx hb (dq_26 0 bcJ8_newLength_cabcc_0 (j := 0) rfl rfl) rfl (lv_at hl 0 rfl) ?_
  refine lv_iload_n hx hb (dq_27 0 bcJ8_newLength_cabcc_0 (j := 1) rfl rfl) rfl (lv_at hl 1 rfl) ?_
  refine lv_iload_n hx hb (dq_28 0 bcJ8_newLength_cabcc_0 (j := 2) rfl rfl) rfl (lv_at hl 2 rfl) ?_
  refine va_mmax hx hb (hml.trans hl.1.symm) hown (hts (.methodLink RJ8 194 Lib.Math.max.name) (List.mem_of_getElem? (i := 1) rfl)) (hts (.static Lib.Math.max.name) (List.mem_of_getElem? (i := 2) rfl)) (hts (.initialized "java/lang/Math") (List.mem_of_getElem? (i := 3) rfl)) (hts (.code Lib.Math.max.name Lib.Math.max.code 2 (some .int)) (List.mem_of_getElem? (i := 4) rfl)) (Nat.le_of_ble_eq_true rfl) (Nat.le_of_ble_eq_true rfl) (Nat.le_of_ble_eq_true rfl) (Nat.le_of_ble_eq_true rfl) (dq_184 0 bcJ8_newLength_cabcc_0 (j := 3) (i := 194) rfl rfl rfl) ?_
  refine W.eq (g2 := F0 m 6 ls [.int (maxF p1 p2), .int p0]) rfl ?_
  refine lv_iadd hx hb (dq_96 0 bcJ8_newLength_cabcc_0 (j := 6) rfl rfl) ?_
  refine lv_istore_n (lv' := [(3, .int (p0 + (maxF p1 p2))), (0, .int p0), (1, .int p1), (2, .int p2)]) hx hb (dq_62 0 bcJ8_newLength_cabcc_0 (j := 7) rfl rfl) rfl hl (by decide) rfl (fun ls hl => ?_)
  refine lv_iconst (v := 0) hx hb (dq_3 0 bcJ8_newLength_cabcc_0 (j := 8) rfl rfl) (by decide) ?_
  refine lv_iload_n hx hb (dq_29 0 bcJ8_newLength_cabcc_0 (j := 9) rfl rfl) rfl (lv_at hl 0 rfl) ?_
  refine lv_icmp_ge (tgt := 21) hx hb (dq_162 0 bcJ8_newLength_cabcc_0 (j := 10) (i := 11) rfl rfl rfl) (by decide) (fun c_1 => ?_) (fun c_1 => ?_)
  ·
    replace hF := ip c_1 hF
    cases hF
  ·
    replace hF := inn c_1 hF
    refine lv_iload_n hx hb (dq_29 0 bcJ8_newLength_cabcc_0 (j := 13) rfl rfl) rfl (lv_at hl 0 rfl) ?_
    refine lv_ldc (v := 2147483639) hx hb hown (hts (.constant RJ8 200 (2147483639)) (List.mem_of_getElem? (i := 5) rfl)) (dq_18 0 bcJ8_newLength_cabcc_0 (j := 14) (i := 200) rfl rfl) ?_
    refine lv_icmp_gt (tgt := 21) hx hb (dq_163 0 bcJ8_newLength_cabcc_0 (j := 16) (i := 5) rfl rfl rfl) (by decide) (fun c_2 => ?_) (fun c_2 => ?_)
    ·
      replace hF := ip c_2 hF
      cases hF
    ·
      replace hF := inn c_2 hF
      refine lv_iload_n hx hb (dq_29 0 bcJ8_newLength_cabcc_0 (j := 19) rfl rfl) rfl (lv_at hl 0 rfl) ?_
      rw [hQ]
      obtain e9_0 := inj1 hF
      exact W.iret (v := p0 + (maxF p1 p2)) hx hb hr (fun tt ht hW => ⟨_, rfl, e9_0, ht⟩) (fun _ h => by cases h) (dq_172 0 bcJ8_newLength_cabcc_0 (j := 20) rfl rfl)

def F_J5_newCapacity_0f7a4 (p1 : Int32) (c_coder : Int32) (m9 : Nat) : Option (Int32) :=
  bd1 (F_J8_newLength_cabcc (Int32.ofNat m9) ((p1 <<< (c_coder &&& (31 : Int32))) - (Int32.ofNat m9)) ((Int32.ofNat m9) + ((2 : Int32) <<< (c_coder &&& (31 : Int32))))) (fun r_1 => if r_1 = (2147483647 : Int32) then none else some (r_1 >>> (c_coder &&& (31 : Int32))))
abbrev w_J5_newCapacity_0f7a4 (E : EE) (a_ a_value : Nat) (c_coder : Int32) (c_maybeLatin1 : Int32) (c_count : Int32) (c_value : Nat → Int32) (m9 : Nat) : va_W := [k_J4 a_ a_value c_coder c_maybeLatin1 c_count, k_B E a_value m9 c_value]
def v_f_J5_newCapacity_0f7a4 : List Cond := List.cons (.code yJ5_newCapacity_0f7a4 cJ5_newCapacity_0f7a4 6 (some .int)) (HAppend.hAppend (α := List Cond) (β := List Cond) (γ := List Cond) [.fieldLink RJ5 15 "java/lang/AbstractStringBuilder" "value" "[B", .fieldLink RJ5 22 "java/lang/AbstractStringBuilder" "coder" "B", .constant RJ5 39 (2147483647), .methodLink RJ5 114 yJ8_newLength_cabcc, .static yJ8_newLength_cabcc, .initialized RJ8] (HAppend.hAppend (α := List Cond) (β := List Cond) (γ := List Cond) wsJ40 (HAppend.hAppend (α := List Cond) (β := List Cond) (γ := List Cond) v_f_J8_newLength_cabcc [])))
theorem gw_f_J5_newCapacity_0f7a4 : v_f_J5_newCapacity_0f7a4.all goodWord = true := gw_c2 (by decide +kernel) (gw_ap gw_wsJ40 (gw_ap gw_f_J8_newLength_cabcc gw_nil))
theorem i_f_J5_newCapacity_0f7a4_J4 : ∀ w ∈ wsJ40, w ∈ v_f_J5_newCapacity_0f7a4 := fun _ h => List.mem_cons_of_mem _ (List.mem_append_right _ (List.mem_append_left _ h))
theorem g_f_J5_newCapacity_0f7a4_f_J8_newLength_cabcc_114 : GoodIn v_f_J5_newCapacity_0f7a4 (va_wsS RJ5 114 yJ8_newLength_cabcc v_f_J8_newLength_cabcc) := goodIn_in gw_f_J5_newCapacity_0f7a4 (in3 4 5 6 rfl rfl rfl (fun _ h => List.mem_cons_of_mem _ (List.mem_append_right _ (List.mem_append_right _ (List.mem_append_left _ h)))))
theorem hd_J5_newCapacity_0f7a4 : yJ5_newCapacity_0f7a4.cls = RJ5 ∧ yJ5_newCapacity_0f7a4.cls ≠ "java/lang/invoke/MethodHandle" ∧ yJ5_newCapacity_0f7a4.cls ≠ "java/lang/invoke/VarHandle" ∧ (parseMethodDescriptor yJ5_newCapacity_0f7a4.desc).map (fun d => d.parameters.length) = some 1 := by decide +kernel
set_option maxHeartbeats 4000000 in
set_option maxRecDepth 100000 in
theorem f_J5_newCapacity_0f7a4 (l : Launch) (E : EE) {a_ a_value : Nat} {p1 : Int32} {c_coder : Int32} {c_maybeLatin1 : Int32} {c_count : Int32} {c_value : Nat → Int32} {m9 : Nat} {rr : Int32} (hF : F_J5_newCapacity_0f7a4 p1 c_coder m9 = some rr) : Met l yJ5_newCapacity_0f7a4 v_f_J5_newCapacity_0f7a4 (({ frames := 2, cells := 0, slots := 0, locals := 44 } : Room)) (va_Pc [.ref a_, .int p1] (pP E (w_J5_newCapacity_0f7a4 E a_ a_value c_coder c_maybeLatin1 c_count c_value m9))) (vp_Si (fun q : Int32 => q = rr)) 0 0 (fun _ => False) := by
  refine Met.ofWF (cc := cJ5_newCapacity_0f7a4) (maxL := 6) (ret := (some .int)) (by decide +kernel) rfl ?_
  intro p e s m args below meth c s₁ B hml hv
  obtain ⟨rfl, ⟨hK, hN⟩, hP⟩ := hv
  have hx := B.exec
  have hb := B.bytes
  have hr := B.returns
  have hts := atoms_spec (ws := v_f_J5_newCapacity_0f7a4) B.pre
  have hown : s.vm.findClass RJ5 = some m.cls := own_of hd_J5_newCapacity_0f7a4.1 (findClass_of_methodNamed B.named)
  have hlocks : meth.locks = false := B.notSynchronized
  replace hP : va_P E.1 vwCl [k_J4 a_ a_value c_coder c_maybeLatin1 c_count, k_B E a_value m9 c_value] s.heap := hP
  have hl := lv_entry ([.ref a_, .int p1]) (n := 6) (Nat.le_of_ble_eq_true rfl)
  rw [lg_entry_eq]
  generalize (lg_sl ([.ref a_, .int p1]) ++ List.replicate (6 - (lg_sl ([.ref a_, .int p1])).length) Slot.unset).toArray = ls at hl ⊢
  have hl : lv_has ls 6 [(0, .ref a_), (1, .int p1)] := hl
  obtain ⟨Q, hQ⟩ : ∃ Q : State → Prop, Q = MQ below (vp_Si (fun q : Int32 => q = rr)) #[Value.ref a_, Value.int p1] s 0 0 (fun _ => False) := ⟨_, rfl⟩
  rw [← hQ]
  change W p l e ({ frames := 2, cells := 0, slots := 0, locals := 44 } : Room) s m #[Value.ref a_, Value.int p1] below meth c s.heap [] 0 0 Q (F0 m 0 ls [])
  unfold F_J5_newCapacity_0f7a4 at hF
  refine lv_aload_n hx hb (dq_42 0 bcJ5_newCapacity_0f7a4_0 (j := 0) rfl rfl) rfl (lv_at hl 0 rfl) ?_
  refine gt_J4_0 (v := .ref a_value) hx hb hts i_f_J5_newCapacity_0f7a4_J4 hown hK hP 0 rfl (hts (.fieldLink RJ5 15 "java/lang/AbstractStringBuilder" "value" "[B") (List.mem_of_getElem? (i := 1) rfl)) rfl (dq_180 0 bcJ5_newCapacity_0f7a4_0 (j := 1) (i := 15) rfl rfl rfl) ?_
  refine va_alen (v := (Int32.ofNat m9)) hx hb hK hP 1 1 rfl rfl rfl (dq_190 0 bcJ5_newCapacity_0f7a4_0 (j := 4) rfl rfl) ?_
  refine lv_istore_n (lv' := [(2, .int (Int32.ofNat m9)), (0, .ref a_), (1, .int p1)]) hx hb (dq_61 0 bcJ5_newCapacity_0f7a4_0 (j := 5) rfl rfl) rfl hl (by decide) rfl (fun ls hl => ?_)
  refine lv_iload_n hx hb (dq_27 0 bcJ5_newCapacity_0f7a4_0 (j := 6) rfl rfl) rfl (lv_at hl 2 rfl) ?_
  refine lv_aload_n hx hb (dq_42 0 bcJ5_newCapacity_0f7a4_0 (j := 7) rfl rfl) rfl (lv_at hl 1 rfl) ?_
  refine gt_J4_1 (v := .int c_coder) hx hb hts i_f_J5_newCapacity_0f7a4_J4 hown hK hP 0 rfl (hts (.fieldLink RJ5 22 "java/lang/AbstractStringBuilder" "coder" "B") (List.mem_of_getElem? (i := 2) rfl)) rfl (dq_180 0 bcJ5_newCapacity_0f7a4_0 (j := 8) (i := 22) rfl rfl rfl) ?_
  refine lv_ishl hx hb (dq_120 0 bcJ5_newCapacity_0f7a4_0 (j := 11) rfl rfl) ?_
  refine lv_istore_n (lv' := [(3, .int (p1 <<< (c_coder &&& (31 : Int32)))), (2, .int (Int32.ofNat m9)), (0, .ref a_), (1, .int p1)]) hx hb (dq_62 0 bcJ5_newCapacity_0f7a4_0 (j := 12) rfl rfl) rfl hl (by decide) rfl (fun ls hl => ?_)
  refine lv_iload_n hx hb (dq_29 0 bcJ5_newCapacity_0f7a4_0 (j := 13) rfl rfl) rfl (lv_at hl 0 rfl) ?_
  refine lv_iload_n hx hb (dq_28 0 bcJ5_newCapacity_0f7a4_0 (j := 14) rfl rfl) rfl (lv_at hl 1 rfl) ?_
  refine lv_isub hx hb (dq_100 0 bcJ5_newCapacity_0f7a4_0 (j := 15) rfl rfl) ?_
  refine lv_istore (lv' := [(4, .int ((p1 <<< (c_coder &&& (31 : Int32))) - (Int32.ofNat m9))), (3, .int (p1 <<< (c_coder &&& (31 : Int32)))), (2, .int (Int32.ofNat m9)), (0, .ref a_), (1, .int p1)]) hx hb (dq_54 0 bcJ5_newCapacity_0f7a4_0 (j := 16) (i := 4) rfl rfl) hl (by decide) rfl (fun ls hl => ?_)
  refine lv_iload_n hx hb (dq_28 0 bcJ5_newCapacity_0f7a4_0 (j := 18) rfl rfl) rfl (lv_at hl 2 rfl) ?_
  refine lv_iload hx hb (dq_21 0 bcJ5_newCapacity_0f7a4_0 (j := 19) (i := 4) rfl rfl) (lv_at hl 0 rfl) ?_
  refine lv_iload_n hx hb (dq_28 0 bcJ5_newCapacity_0f7a4_0 (j := 21) rfl rfl) rfl (lv_at hl 2 rfl) ?_
  refine lv_iconst (v := 2) hx hb (dq_5 0 bcJ5_newCapacity_0f7a4_0 (j := 22) rfl rfl) (by decide) ?_
  refine lv_aload_n hx hb (dq_42 0 bcJ5_newCapacity_0f7a4_0 (j := 23) rfl rfl) rfl (lv_at hl 3 rfl) ?_
  refine gt_J4_1 (v := .int c_coder) hx hb hts i_f_J5_newCapacity_0f7a4_J4 hown hK hP 0 rfl (hts (.fieldLink RJ5 22 "java/lang/AbstractStringBuilder" "coder" "B") (List.mem_of_getElem? (i := 2) rfl)) rfl (dq_180 0 bcJ5_newCapacity_0f7a4_0 (j := 24) (i := 22) rfl rfl rfl) ?_
  refine lv_ishl hx hb (dq_120 0 bcJ5_newCapacity_0f7a4_0 (j := 27) rfl rfl) ?_
  refine lv_iadd hx hb (dq_96 0 bcJ5_newCapacity_0f7a4_0 (j := 28) rfl rfl) ?_
  replace hF := bd1_s hF
  obtain ⟨r_1, hc_2, hF⟩ := hF
  have hPc : va_P E.1 vwCl [] s.heap := fun k q h => by simp at h
  refine pE_i (va_runS (As := [.int (Int32.ofNat m9), .int ((p1 <<< (c_coder &&& (31 : Int32))) - (Int32.ofNat m9)), .int ((Int32.ofNat m9) + ((2 : Int32) <<< (c_coder &&& (31 : Int32))))]) (rest := [])  ⟨hx, hb, hml, hown, hts⟩ (f_J8_newLength_cabcc l E (p0 := (Int32.ofNat m9)) (p1 := (p1 <<< (c_coder &&& (31 : Int32))) - (Int32.ofNat m9)) (p2 := (Int32.ofNat m9) + ((2 : Int32) <<< (c_coder &&& (31 : Int32)))) hc_2) (va_cwS 3 hts g_f_J5_newCapacity_0f7a4_f_J8_newLength_cabcc_114 rfl rfl rfl hd_J8_newLength_cabcc.2 ⟨Nat.le_of_ble_eq_true rfl, Nat.le_of_ble_eq_true rfl⟩) ⟨pP.blind, (pP.pre ⟨hK, hN⟩ hPc)⟩ rfl rfl hl.1 rfl (lv_room (Nat.le_of_ble_eq_true rfl)) (dq_184 0 bcJ5_newCapacity_0f7a4_0 (j := 29) (i := 114) rfl rfl rfl) ⟨Nat.le_of_ble_eq_true rfl, Nat.le_of_ble_eq_true rfl⟩) ?_
  refine lv_istore (lv' := [(5, .int r_1), (4, .int ((p1 <<< (c_coder &&& (31 : Int32))) - (Int32.ofNat m9))), (3, .int (p1 <<< (c_coder &&& (31 : Int32)))), (2, .int (Int32.ofNat m9)), (0, .ref a_), (1, .int p1)]) hx hb (dq_54 0 bcJ5_newCapacity_0f7a4_0 (j := 32) (i := 5) rfl rfl) hl (by decide) rfl (fun ls hl => ?_)
  refine lv_iload hx hb (dq_21 0 bcJ5_newCapacity_0f7a4_0 (j := 34) (i := 5) rfl rfl) (lv_at hl 0 rfl) ?_
  refine lv_ldc (v := 2147483647) hx hb hown (hts (.constant RJ5 39 (2147483647)) (List.mem_of_getElem? (i := 3) rfl)) (dq_18 0 bcJ5_newCapacity_0f7a4_0 (j := 36) (i := 39) rfl rfl) ?_
  refine lv_icmp_ne (tgt := 51) hx hb (dq_160 0 bcJ5_newCapacity_0f7a4_0 (j := 38) (i := 13) rfl rfl rfl) (by decide) (fun c_3 => ?_) (fun c_3 => ?_)
  ·
    replace hF := inn c_3 hF
    refine lv_iload hx hb (dq_21 48 bcJ5_newCapacity_0f7a4_1 (j := 3) (i := 5) rfl rfl) (lv_at hl 0 rfl) ?_
    refine lv_aload_n hx hb (dq_42 48 bcJ5_newCapacity_0f7a4_1 (j := 5) rfl rfl) rfl (lv_at hl 4 rfl) ?_
    refine gt_J4_1 (v := .int c_coder) hx hb hts i_f_J5_newCapacity_0f7a4_J4 hown hK hP 0 rfl (hts (.fieldLink RJ5 22 "java/lang/AbstractStringBuilder" "coder" "B") (List.mem_of_getElem? (i := 2) rfl)) rfl (dq_180 48 bcJ5_newCapacity_0f7a4_1 (j := 6) (i := 22) rfl rfl rfl) ?_
    refine lv_ishr hx hb (dq_122 48 bcJ5_newCapacity_0f7a4_1 (j := 9) rfl rfl) ?_
    rw [hQ]
    obtain e9_0 := inj1 hF
    exact W.iret (v := r_1 >>> (c_coder &&& (31 : Int32))) hx hb hr (fun tt ht hW => ⟨_, rfl, e9_0, ht⟩) (fun _ h => by cases h) (dq_172 48 bcJ5_newCapacity_0f7a4_1 (j := 10) rfl rfl)
  ·
    replace hF := ip c_3 hF
    cases hF

def F_J5_charAt_5068e (p1 : Int32) (c_value : Nat → Int32) (c_coder : Int32) (c_count : Int32) (m9 : Nat) : Option (Int32) :=
  bd1 (F_J0_checkIndex_df160 p1 (minF c_count ((Int32.ofNat m9) >>> (c_coder &&& (31 : Int32))))) (fun u_1 => if c_coder = (0 : Int32) then ixF p1 m9 (some ((((c_value p1.toNatClampNeg) &&& (255 : Int32)).toUInt32 % 65536).toInt32)) else none)
abbrev w_J5_charAt_5068e (E : EE) (a_ a_value : Nat) (c_coder : Int32) (c_maybeLatin1 : Int32) (c_count : Int32) (c_value : Nat → Int32) (m9 : Nat) : va_W := [k_J4 a_ a_value c_coder c_maybeLatin1 c_count, k_B E a_value m9 c_value]
def v_f_J5_charAt_5068e : List Cond := List.cons (.code yJ5_charAt_5068e cJ5_charAt_5068e 5 (some .char)) (HAppend.hAppend (α := List Cond) (β := List Cond) (γ := List Cond) [.fieldLink RJ5 22 "java/lang/AbstractStringBuilder" "coder" "B", .fieldLink RJ5 15 "java/lang/AbstractStringBuilder" "value" "[B", .fieldLink RJ5 79 "java/lang/AbstractStringBuilder" "count" "I", .methodLink RJ5 138 Lib.Math.min.name, .static Lib.Math.min.name, .initialized "java/lang/Math", .code Lib.Math.min.name Lib.Math.min.code 2 (some .int), .methodLink RJ5 144 yJ0_checkIndex_df160, .static yJ0_checkIndex_df160, .initialized RJ0] (HAppend.hAppend (α := List Cond) (β := List Cond) (γ := List Cond) wsJ40 (HAppend.hAppend (α := List Cond) (β := List Cond) (γ := List Cond) v_f_J0_checkIndex_df160 [])))
theorem gw_f_J5_charAt_5068e : v_f_J5_charAt_5068e.all goodWord = true := gw_c2 (by decide +kernel) (gw_ap gw_wsJ40 (gw_ap gw_f_J0_checkIndex_df160 gw_nil))
theorem i_f_J5_charAt_5068e_J4 : ∀ w ∈ wsJ40, w ∈ v_f_J5_charAt_5068e := fun _ h => List.mem_cons_of_mem _ (List.mem_append_right _ (List.mem_append_left _ h))
theorem g_f_J5_charAt_5068e_f_J0_checkIndex_df160_144 : GoodIn v_f_J5_charAt_5068e (va_wsS RJ5 144 yJ0_checkIndex_df160 v_f_J0_checkIndex_df160) := goodIn_in gw_f_J5_charAt_5068e (in3 8 9 10 rfl rfl rfl (fun _ h => List.mem_cons_of_mem _ (List.mem_append_right _ (List.mem_append_right _ (List.mem_append_left _ h)))))
theorem hd_J5_charAt_5068e : yJ5_charAt_5068e.cls = RJ5 ∧ yJ5_charAt_5068e.cls ≠ "java/lang/invoke/MethodHandle" ∧ yJ5_charAt_5068e.cls ≠ "java/lang/invoke/VarHandle" ∧ (parseMethodDescriptor yJ5_charAt_5068e.desc).map (fun d => d.parameters.length) = some 1 := by decide +kernel
set_option maxHeartbeats 4000000 in
set_option maxRecDepth 100000 in
theorem f_J5_charAt_5068e (l : Launch) (E : EE) (z9 : Nat → Nat) {a_ a_value : Nat} {p1 : Int32} {c_coder : Int32} {c_maybeLatin1 : Int32} {c_count : Int32} {c_value : Nat → Int32} {m9 : Nat} {rr : Int32} (hF : F_J5_charAt_5068e p1 c_value c_coder c_count m9 = some rr) : Met l yJ5_charAt_5068e v_f_J5_charAt_5068e (({ frames := 2, cells := 0, slots := 0, locals := 43 } : Room)) (va_Pc [.ref a_, .int p1] (qPZ E z9 (w_J5_charAt_5068e E a_ a_value c_coder c_maybeLatin1 c_count c_value m9))) (vp_Si (fun q : Int32 => q = rr ∧ narrow .char (.int q) = .int q)) 0 0 (fun _ => False) := by
  refine Met.ofWF (cc := cJ5_charAt_5068e) (maxL := 5) (ret := (some .char)) (by decide +kernel) rfl ?_
  intro p e s m args below meth c s₁ B hml hv
  obtain ⟨rfl, ⟨hK, hN⟩, hP, hZ⟩ := hv
  have hx := B.exec
  have hb := B.bytes
  have hr := B.returns
  have hts := atoms_spec (ws := v_f_J5_charAt_5068e) B.pre
  have hown : s.vm.findClass RJ5 = some m.cls := own_of hd_J5_charAt_5068e.1 (findClass_of_methodNamed B.named)
  have hlocks : meth.locks = false := B.notSynchronized
  replace hP : va_P E.1 vwCl [k_J4 a_ a_value c_coder c_maybeLatin1 c_count, k_B E a_value m9 c_value] s.heap := hP
  have hl := lv_entry ([.ref a_, .int p1]) (n := 5) (Nat.le_of_ble_eq_true rfl)
  rw [lg_entry_eq]
  generalize (lg_sl ([.ref a_, .int p1]) ++ List.replicate (5 - (lg_sl ([.ref a_, .int p1])).length) Slot.unset).toArray = ls at hl ⊢
  have hl : lv_has ls 5 [(0, .ref a_), (1, .int p1)] := hl
  obtain ⟨Q, hQ⟩ : ∃ Q : State → Prop, Q = MQ below (vp_Si (fun q : Int32 => q = rr ∧ narrow .char (.int q) = .int q)) #[Value.ref a_, Value.int p1] s 0 0 (fun _ => False) := ⟨_, rfl⟩
  rw [← hQ]
  change W p l e ({ frames := 2, cells := 0, slots := 0, locals := 43 } : Room) s m #[Value.ref a_, Value.int p1] below meth c s.heap [] 0 0 Q (F0 m 0 ls [])
  unfold F_J5_charAt_5068e at hF
  refine lv_aload_n hx hb (dq_42 0 bcJ5_charAt_5068e_0 (j := 0) rfl rfl) rfl (lv_at hl 0 rfl) ?_
  refine gt_J4_1 (v := .int c_coder) hx hb hts i_f_J5_charAt_5068e_J4 hown hK hP 0 rfl (hts (.fieldLink RJ5 22 "java/lang/AbstractStringBuilder" "coder" "B") (List.mem_of_getElem? (i := 1) rfl)) rfl (dq_180 0 bcJ5_charAt_5068e_0 (j := 1) (i := 22) rfl rfl rfl) ?_
  refine lv_istore_n (lv' := [(2, .int c_coder), (0, .ref a_), (1, .int p1)]) hx hb (dq_61 0 bcJ5_charAt_5068e_0 (j := 4) rfl rfl) rfl hl (by decide) rfl (fun ls hl => ?_)
  refine lv_aload_n hx hb (dq_42 0 bcJ5_charAt_5068e_0 (j := 5) rfl rfl) rfl (lv_at hl 1 rfl) ?_
  refine gt_J4_0 (v := .ref a_value) hx hb hts i_f_J5_charAt_5068e_J4 hown hK hP 0 rfl (hts (.fieldLink RJ5 15 "java/lang/AbstractStringBuilder" "value" "[B") (List.mem_of_getElem? (i := 2) rfl)) rfl (dq_180 0 bcJ5_charAt_5068e_0 (j := 6) (i := 15) rfl rfl rfl) ?_
  refine lv_astore_n (lv' := [(3, .ref a_value), (2, .int c_coder), (0, .ref a_), (1, .int p1)]) hx hb (dq_78 0 bcJ5_charAt_5068e_0 (j := 9) rfl rfl) rfl hl (by decide) rfl (fun ls hl => ?_)
  refine lv_aload_n hx hb (dq_42 0 bcJ5_charAt_5068e_0 (j := 10) rfl rfl) rfl (lv_at hl 2 rfl) ?_
  refine gt_J4_3 (v := .int c_count) hx hb hts i_f_J5_charAt_5068e_J4 hown hK hP 0 rfl (hts (.fieldLink RJ5 79 "java/lang/AbstractStringBuilder" "count" "I") (List.mem_of_getElem? (i := 3) rfl)) rfl (dq_180 0 bcJ5_charAt_5068e_0 (j := 11) (i := 79) rfl rfl rfl) ?_
  refine lv_aload_n hx hb (dq_45 0 bcJ5_charAt_5068e_0 (j := 14) rfl rfl) rfl (lv_at hl 0 rfl) ?_
  refine va_alen (v := (Int32.ofNat m9)) hx hb hK hP 1 1 rfl rfl rfl (dq_190 0 bcJ5_charAt_5068e_0 (j := 15) rfl rfl) ?_
  refine lv_iload_n hx hb (dq_28 0 bcJ5_charAt_5068e_0 (j := 16) rfl rfl) rfl (lv_at hl 1 rfl) ?_
  refine lv_ishr hx hb (dq_122 0 bcJ5_charAt_5068e_0 (j := 17) rfl rfl) ?_
  refine va_mmin hx hb (hml.trans hl.1.symm) hown (hts (.methodLink RJ5 138 Lib.Math.min.name) (List.mem_of_getElem? (i := 4) rfl)) (hts (.static Lib.Math.min.name) (List.mem_of_getElem? (i := 5) rfl)) (hts (.initialized "java/lang/Math") (List.mem_of_getElem? (i := 6) rfl)) (hts (.code Lib.Math.min.name Lib.Math.min.code 2 (some .int)) (List.mem_of_getElem? (i := 7) rfl)) (Nat.le_of_ble_eq_true rfl) (Nat.le_of_ble_eq_true rfl) (Nat.le_of_ble_eq_true rfl) (Nat.le_of_ble_eq_true rfl) (dq_184 0 bcJ5_charAt_5068e_0 (j := 18) (i := 138) rfl rfl rfl) ?_
  refine W.eq (g2 := F0 m 21 ls [.int (minF c_count ((Int32.ofNat m9) >>> (c_coder &&& (31 : Int32))))]) rfl ?_
  refine lv_istore (lv' := [(4, .int (minF c_count ((Int32.ofNat m9) >>> (c_coder &&& (31 : Int32))))), (3, .ref a_value), (2, .int c_coder), (0, .ref a_), (1, .int p1)]) hx hb (dq_54 0 bcJ5_charAt_5068e_0 (j := 21) (i := 4) rfl rfl) hl (by decide) rfl (fun ls hl => ?_)
  refine lv_iload_n hx hb (dq_27 0 bcJ5_charAt_5068e_0 (j := 23) rfl rfl) rfl (lv_at hl 4 rfl) ?_
  refine lv_iload hx hb (dq_21 0 bcJ5_charAt_5068e_0 (j := 24) (i := 4) rfl rfl) (lv_at hl 0 rfl) ?_
  replace hF := bd1_s hF
  obtain ⟨u_1, hc_2, hF⟩ := hF
  have hPc : va_P E.1 vwCl [] s.heap := fun k q h => by simp at h
  refine pc_v (va_runS (As := [.int p1, .int (minF c_count ((Int32.ofNat m9) >>> (c_coder &&& (31 : Int32))))]) (rest := [])  ⟨hx, hb, hml, hown, hts⟩ (f_J0_checkIndex_df160 l E z9 (p0 := p1) (p1 := (minF c_count ((Int32.ofNat m9) >>> (c_coder &&& (31 : Int32))))) hc_2) (va_cwS 2 hts g_f_J5_charAt_5068e_f_J0_checkIndex_df160_144 rfl rfl rfl hd_J0_checkIndex_df160.2 ⟨Nat.le_of_ble_eq_true rfl, Nat.le_of_ble_eq_true rfl⟩) ⟨qPZ.blind, (qPZ.pre0 ⟨hK, hN⟩ hPc hZ)⟩ rfl rfl hl.1 rfl (lv_room (Nat.le_of_ble_eq_true rfl)) (dq_184 0 bcJ5_charAt_5068e_0 (j := 26) (i := 144) rfl rfl rfl) ⟨Nat.le_of_ble_eq_true rfl, Nat.le_of_ble_eq_true rfl⟩) ?_
  refine lv_iload_n hx hb (dq_28 0 bcJ5_charAt_5068e_0 (j := 29) rfl rfl) rfl (lv_at hl 2 rfl) ?_
  refine lv_if_ne (tgt := 42) hx hb (dq_154 0 bcJ5_charAt_5068e_0 (j := 30) (i := 12) rfl rfl rfl) (by decide) (fun c_3 => ?_) (fun c_3 => ?_)
  ·
    replace hF := inn c_3 hF
    cases hF
  ·
    replace hF := ip c_3 hF
    refine lv_aload_n hx hb (dq_45 0 bcJ5_charAt_5068e_0 (j := 33) rfl rfl) rfl (lv_at hl 1 rfl) ?_
    refine lv_iload_n hx hb (dq_27 0 bcJ5_charAt_5068e_0 (j := 34) rfl rfl) rfl (lv_at hl 4 rfl) ?_
    replace hF := ix_s hF
    obtain ⟨hi_4, hF⟩ := hF
    refine va_bald hx hb hK hP 1 1 rfl rfl hi_4 (dq_51 0 bcJ5_charAt_5068e_0 (j := 35) rfl rfl) ?_
    refine lv_sipush (v := 255) hx hb (dq_17 0 bcJ5_charAt_5068e_0 (j := 36) (i := 255) rfl rfl rfl) (by decide) ?_
    refine lv_iand hx hb (dq_126 0 bcJ5_charAt_5068e_0 (j := 39) rfl rfl) ?_
    refine lv_i2c (v := (((c_value p1.toNatClampNeg) &&& (255 : Int32)).toUInt32 % 65536).toInt32) hx hb (dq_146 0 bcJ5_charAt_5068e_0 (j := 40) rfl rfl) rfl ?_
    rw [hQ]
    obtain e9_0 := inj1 hF
    exact W.zret (v := (((c_value p1.toNatClampNeg) &&& (255 : Int32)).toUInt32 % 65536).toInt32) hx hb hr (nar_c _) (fun tt ht hW => ⟨_, rfl, ⟨e9_0, (nar_c _)⟩, ht⟩) (fun _ h => by cases h) (dq_172 0 bcJ5_charAt_5068e_0 (j := 41) rfl rfl)

def F_J5_inflateIfNeededFor_a7421 (p1 : Nat) (c_coder : Int32) : Option (Unit) :=
  ltF p1 15 (bd1 (F_J0_coder_7d493 p1) (fun r_1 => if c_coder = r_1 then some () else none))
abbrev w_J5_inflateIfNeededFor_a7421 (E : EE) (a_ a_value : Nat) (c_coder : Int32) (c_maybeLatin1 : Int32) (c_count : Int32) : va_W := [k_J4 a_ a_value c_coder c_maybeLatin1 c_count]
def v_f_J5_inflateIfNeededFor_a7421 : List Cond := List.cons (.code yJ5_inflateIfNeededFor_a7421 cJ5_inflateIfNeededFor_a7421 2 none) (HAppend.hAppend (α := List Cond) (β := List Cond) (γ := List Cond) [.fieldLink RJ5 18 "java/lang/String" "COMPACT_STRINGS" "Z", .fieldLink RJ5 22 "java/lang/AbstractStringBuilder" "coder" "B", .methodLink RJ5 40 yJ0_coder_7d493, .instanceMethod yJ0_coder_7d493, .selects RJ0 yJ0_coder_7d493 yJ0_coder_7d493, .initialized RJ0] (HAppend.hAppend (α := List Cond) (β := List Cond) (γ := List Cond) wsJ40 (HAppend.hAppend (α := List Cond) (β := List Cond) (γ := List Cond) v_f_J0_coder_7d493 [])))
theorem gw_f_J5_inflateIfNeededFor_a7421 : v_f_J5_inflateIfNeededFor_a7421.all goodWord = true := gw_c2 (by decide +kernel) (gw_ap gw_wsJ40 (gw_ap gw_f_J0_coder_7d493 gw_nil))
theorem i_f_J5_inflateIfNeededFor_a7421_J4 : ∀ w ∈ wsJ40, w ∈ v_f_J5_inflateIfNeededFor_a7421 := fun _ h => List.mem_cons_of_mem _ (List.mem_append_right _ (List.mem_append_left _ h))
theorem g_f_J5_inflateIfNeededFor_a7421_f_J0_coder_7d493_40 : GoodIn v_f_J5_inflateIfNeededFor_a7421 (wsV RJ5 40 RJ0 yJ0_coder_7d493 v_f_J0_coder_7d493) := goodIn_in gw_f_J5_inflateIfNeededFor_a7421 (in4 3 4 5 6 rfl rfl rfl rfl (fun _ h => List.mem_cons_of_mem _ (List.mem_append_right _ (List.mem_append_right _ (List.mem_append_left _ h)))))
theorem hd_J5_inflateIfNeededFor_a7421 : yJ5_inflateIfNeededFor_a7421.cls = RJ5 ∧ yJ5_inflateIfNeededFor_a7421.cls ≠ "java/lang/invoke/MethodHandle" ∧ yJ5_inflateIfNeededFor_a7421.cls ≠ "java/lang/invoke/VarHandle" ∧ (parseMethodDescriptor yJ5_inflateIfNeededFor_a7421.desc).map (fun d => d.parameters.length) = some 1 := by decide +kernel
set_option maxHeartbeats 4000000 in
set_option maxRecDepth 100000 in
theorem f_J5_inflateIfNeededFor_a7421 (l : Launch) (E : EE) (z9 : Nat → Nat) {a_ a_value : Nat} {p1 : Nat} {c_coder : Int32} {c_maybeLatin1 : Int32} {c_count : Int32} (hF : F_J5_inflateIfNeededFor_a7421 p1 c_coder = some ()) : Met l yJ5_inflateIfNeededFor_a7421 v_f_J5_inflateIfNeededFor_a7421 (({ frames := 1, cells := 0, slots := 0, locals := 20 } : Room)) (va_Pc [.ref a_, .ref (z9 (20 + p1))] (qPZ E z9 (w_J5_inflateIfNeededFor_a7421 E a_ a_value c_coder c_maybeLatin1 c_count))) (va_Sv (fun _ => True)) 0 0 (fun _ => False) := by
  refine Met.ofWF (cc := cJ5_inflateIfNeededFor_a7421) (maxL := 2) (ret := none) (by decide +kernel) rfl ?_
  intro p e s m args below meth c s₁ B hml hv
  obtain ⟨rfl, ⟨hK, hN⟩, hP, hZ⟩ := hv
  have hx := B.exec
  have hb := B.bytes
  have hr := B.returns
  have hts := atoms_spec (ws := v_f_J5_inflateIfNeededFor_a7421) B.pre
  have hown : s.vm.findClass RJ5 = some m.cls := own_of hd_J5_inflateIfNeededFor_a7421.1 (findClass_of_methodNamed B.named)
  have hlocks : meth.locks = false := B.notSynchronized
  replace hP : va_P E.1 vwCl [k_J4 a_ a_value c_coder c_maybeLatin1 c_count] s.heap := hP
  have hl := lv_entry ([.ref a_, .ref (z9 (20 + p1))]) (n := 2) (Nat.le_of_ble_eq_true rfl)
  rw [lg_entry_eq]
  generalize (lg_sl ([.ref a_, .ref (z9 (20 + p1))]) ++ List.replicate (2 - (lg_sl ([.ref a_, .ref (z9 (20 + p1))])).length) Slot.unset).toArray = ls at hl ⊢
  have hl : lv_has ls 2 [(0, .ref a_), (1, .ref (z9 (20 + p1)))] := hl
  obtain ⟨Q, hQ⟩ : ∃ Q : State → Prop, Q = MQ below (va_Sv (fun _ => True)) #[Value.ref a_, Value.ref (z9 (20 + p1))] s 0 0 (fun _ => False) := ⟨_, rfl⟩
  rw [← hQ]
  change W p l e ({ frames := 1, cells := 0, slots := 0, locals := 20 } : Room) s m #[Value.ref a_, Value.ref (z9 (20 + p1))] below meth c s.heap [] 0 0 Q (F0 m 0 ls [])
  unfold F_J5_inflateIfNeededFor_a7421 at hF
  refine va_gets hx hb hZ.2.2.1.1 (va_S.rf) hown (hts (.fieldLink RJ5 18 "java/lang/String" "COMPACT_STRINGS" "Z") (List.mem_of_getElem? (i := 1) rfl)) (fun _ h9 => h9) (dq_178 0 bcJ5_inflateIfNeededFor_a7421_0 (j := 0) (i := 18) rfl rfl rfl) ?_
  refine lv_if_eq (tgt := 21) hx hb (dq_153 0 bcJ5_inflateIfNeededFor_a7421_0 (j := 3) (i := 18) rfl rfl rfl) (by decide) (fun q => absurd q (by decide)) (fun _ => ?_)
  refine lv_aload_n hx hb (dq_42 0 bcJ5_inflateIfNeededFor_a7421_0 (j := 6) rfl rfl) rfl (lv_at hl 0 rfl) ?_
  refine gt_J4_1 (v := .int c_coder) hx hb hts i_f_J5_inflateIfNeededFor_a7421_J4 hown hK hP 0 rfl (hts (.fieldLink RJ5 22 "java/lang/AbstractStringBuilder" "coder" "B") (List.mem_of_getElem? (i := 2) rfl)) rfl (dq_180 0 bcJ5_inflateIfNeededFor_a7421_0 (j := 7) (i := 22) rfl rfl rfl) ?_
  refine lv_aload_n hx hb (dq_43 0 bcJ5_inflateIfNeededFor_a7421_0 (j := 10) rfl rfl) rfl (lv_at hl 1 rfl) ?_
  replace hF := ltF_s hF
  obtain ⟨hs_2, hF⟩ := hF
  replace hF := bd1_s hF
  obtain ⟨r_1, hc_3, hF⟩ := hF
  have hPc : va_P E.1 vwCl [] s.heap := fun k q h => by simp at h
  refine pE_b (va_runV (As := []) (rest := [.int c_coder])  ⟨hx, hb, hml, hown, hts⟩ (f_J0_coder_7d493 l E z9 (p0 := p1) hc_3) (cwV 0 hts g_f_J5_inflateIfNeededFor_a7421_f_J0_coder_7d493_40 rfl rfl rfl hd_J0_coder_7d493 ⟨Nat.le_of_ble_eq_true rfl, Nat.le_of_ble_eq_true rfl⟩) ⟨qPZ.blind, vk_recv hZ.2.2.2.1 hs_2 (va_S.rf), (qPZ.pre0 ⟨hK, hN⟩ hPc hZ)⟩ rfl rfl hl.1 rfl (lv_room (Nat.le_of_ble_eq_true rfl)) (dq_182 0 bcJ5_inflateIfNeededFor_a7421_0 (j := 11) (i := 40) rfl rfl rfl) ⟨Nat.le_of_ble_eq_true rfl, Nat.le_of_ble_eq_true rfl⟩) (fun hb_4 => ?_)
  refine lv_icmp_eq (tgt := 21) hx hb (dq_159 0 bcJ5_inflateIfNeededFor_a7421_0 (j := 14) (i := 7) rfl rfl rfl) (by decide) (fun c_5 => ?_) (fun c_5 => ?_)
  ·
    replace hF := ip c_5 hF
    rw [hQ]
    exact W.vret hx hb hr (fun tt ht hW => ⟨rfl, trivial, ht⟩) (fun _ h => by cases h) (dq_177 0 bcJ5_inflateIfNeededFor_a7421_0 (j := 21) rfl rfl)
  ·
    replace hF := inn c_5 hF
    cases hF

def F_J0_getBytes_840e7 (p0 : Nat) (p2 : Int32) (p3 : Int32) (c_o1 : Nat → Int32) (m9 : Nat) : Option ((Nat → Int32)) :=
  ltF p0 15 (bd1 (F_J0_coder_7d493 p0) (fun r_1 => if r_1 = p3 then ltF p0 15 (ltF p0 15 (ltF p0 15 (ltF p0 15 (cpF (0 : Int32) (p2 <<< (p3 &&& (31 : Int32))) (Int32.ofNat (strL.getD p0 0)) (strL.getD p0 0) m9 (nmF (va_cpy (fun j => (strB.getD p0 []).getD j 0) c_o1 (0 : Int32).toNatClampNeg (p2 <<< (p3 &&& (31 : Int32))).toNatClampNeg (Int32.ofNat (strL.getD p0 0)).toNatClampNeg) (fun f_11 => some f_11)))))) else none))
abbrev w_J0_getBytes_840e7 (E : EE) (a_o1 : Nat) (c_o1 : Nat → Int32) (m9 : Nat) : va_W := [k_B E a_o1 m9 c_o1]
def v_f_J0_getBytes_840e7 : List Cond := List.cons (.code yJ0_getBytes_840e7 cJ0_getBytes_840e7 4 none) (HAppend.hAppend (α := List Cond) (β := List Cond) (γ := List Cond) [.fieldLink RJ0 9 "java/lang/String" "value" "[B", .methodLink RJ0 212 arraycopyName, .native arraycopyName, .static arraycopyName, .initialized "java/lang/System", .methodLink RJ0 335 yJ0_coder_7d493, .instanceMethod yJ0_coder_7d493, .selects RJ0 yJ0_coder_7d493 yJ0_coder_7d493, .initialized RJ0] (HAppend.hAppend (α := List Cond) (β := List Cond) (γ := List Cond) v_f_J0_coder_7d493 []))
theorem gw_f_J0_getBytes_840e7 : v_f_J0_getBytes_840e7.all goodWord = true := gw_c2 (by decide +kernel) (gw_ap gw_f_J0_coder_7d493 gw_nil)
theorem g_f_J0_getBytes_840e7_f_J0_coder_7d493_335 : GoodIn v_f_J0_getBytes_840e7 (wsV RJ0 335 RJ0 yJ0_coder_7d493 v_f_J0_coder_7d493) := goodIn_in gw_f_J0_getBytes_840e7 (in4 6 7 8 9 rfl rfl rfl rfl (fun _ h => List.mem_cons_of_mem _ (List.mem_append_right _ (List.mem_append_left _ h))))
theorem hd_J0_getBytes_840e7 : yJ0_getBytes_840e7.cls = RJ0 ∧ yJ0_getBytes_840e7.cls ≠ "java/lang/invoke/MethodHandle" ∧ yJ0_getBytes_840e7.cls ≠ "java/lang/invoke/VarHandle" ∧ (parseMethodDescriptor yJ0_getBytes_840e7.desc).map (fun d => d.parameters.length) = some 3 := by decide +kernel
set_option maxHeartbeats 4000000 in
set_option maxRecDepth 100000 in
theorem f_J0_getBytes_840e7 (l : Launch) (E : EE) (sz : Nat) (z9 : Nat → Nat) {a_o1 : Nat} {p0 : Nat} {p2 : Int32} {p3 : Int32} {c_o1 : Nat → Int32} {m9 : Nat} {n_o1 : Nat → Int32} (hF : F_J0_getBytes_840e7 p0 p2 p3 c_o1 m9 = some n_o1) : Met l yJ0_getBytes_840e7 v_f_J0_getBytes_840e7 (({ frames := 1, cells := 0, slots := 0, locals := 60 } : Room)) (va_Pc [.ref (z9 (20 + p0)), .ref a_o1, .int p2, .int p3] (qWZ E z9 sz (w_J0_getBytes_840e7 E a_o1 c_o1 m9))) (va_Qv (fun (_u : Unit) => True) (fun (_u : Unit) tt => va_P E.1 vwCl (w_J0_getBytes_840e7 E a_o1 n_o1 m9) tt.heap ∧ va_D (va_A (w_J0_getBytes_840e7 E a_o1 c_o1 m9) sz) (w_J0_getBytes_840e7 E a_o1 n_o1 m9)) (va_A (w_J0_getBytes_840e7 E a_o1 c_o1 m9) sz)) 0 0 (va_A (w_J0_getBytes_840e7 E a_o1 c_o1 m9) sz) := by
  refine Met.ofWF (cc := cJ0_getBytes_840e7) (maxL := 4) (ret := none) (by decide +kernel) rfl ?_
  intro p e s m args below meth c s₁ B hml hv
  obtain ⟨rfl, hsz, ⟨hK, hN⟩, hP, hD0, hZ⟩ := hv
  have hx := B.exec
  have hb := B.bytes
  have hr := B.returns
  have hts := atoms_spec (ws := v_f_J0_getBytes_840e7) B.pre
  have hown : s.vm.findClass RJ0 = some m.cls := own_of hd_J0_getBytes_840e7.1 (findClass_of_methodNamed B.named)
  have hlocks : meth.locks = false := B.notSynchronized
  subst hsz
  have hD := hD0.self (sz := s.heap.size)
  generalize hAe : va_A (w_J0_getBytes_840e7 E a_o1 c_o1 m9) s.heap.size = A at hD hZ ⊢
  have hA : ∀ q : Nat, s.heap.size ≤ q → A q := fun q h => by rw [← hAe]; exact Or.inr h
  have hS : va_S A s.heap s.heap [] := va_S.rf
  have hl := lv_entry ([.ref (z9 (20 + p0)), .ref a_o1, .int p2, .int p3]) (n := 4) (Nat.le_of_ble_eq_true rfl)
  rw [lg_entry_eq]
  generalize (lg_sl ([.ref (z9 (20 + p0)), .ref a_o1, .int p2, .int p3]) ++ List.replicate (4 - (lg_sl ([.ref (z9 (20 + p0)), .ref a_o1, .int p2, .int p3])).length) Slot.unset).toArray = ls at hl ⊢
  have hl : lv_has ls 4 [(0, .ref (z9 (20 + p0))), (1, .ref a_o1), (2, .int p2), (3, .int p3)] := hl
  obtain ⟨Q, hQ⟩ : ∃ Q : State → Prop, Q = MQ below (va_Qv (fun (_u : Unit) => True) (fun (_u : Unit) tt => va_P E.1 vwCl (w_J0_getBytes_840e7 E a_o1 n_o1 m9) tt.heap ∧ va_D A (w_J0_getBytes_840e7 E a_o1 n_o1 m9)) A) #[Value.ref (z9 (20 + p0)), Value.ref a_o1, Value.int p2, Value.int p3] s 0 0 A := ⟨_, rfl⟩
  rw [← hQ]
  change W p l e ({ frames := 1, cells := 0, slots := 0, locals := 60 } : Room) s m #[Value.ref (z9 (20 + p0)), Value.ref a_o1, Value.int p2, Value.int p3] below meth c s.heap [] 0 0 Q (F0 m 0 ls [])
  suffices hh9 : ∀ (H : Heap) (locs : List Loc), va_P E.1 vwCl (w_J0_getBytes_840e7 E a_o1 c_o1 m9) H → va_D A (w_J0_getBytes_840e7 E a_o1 c_o1 m9) → va_S A s.heap H locs → W p l e ({ frames := 1, cells := 0, slots := 0, locals := 60 } : Room) s m #[Value.ref (z9 (20 + p0)), Value.ref a_o1, Value.int p2, Value.int p3] below meth c H locs 0 0 Q (F0 m 0 ls []) from hh9 s.heap [] hP hD hS
  clear hP hD hS
  intro H locs hP hD hS
  have h9 := fixPD (ws' := [k_B E a_o1 m9 c_o1]) hP hD rfl
  clear hP hD
  obtain ⟨hP, hD⟩ := h9
  unfold F_J0_getBytes_840e7 at hF
  refine lv_aload_n hx hb (dq_42 0 bcJ0_getBytes_840e7_0 (j := 0) rfl rfl) rfl (lv_at hl 0 rfl) ?_
  replace hF := ltF_s hF
  obtain ⟨hs_2, hF⟩ := hF
  replace hF := bd1_s hF
  obtain ⟨r_1, hc_3, hF⟩ := hF
  have hPc : va_P E.1 vwCl [] H := fun k q h => by simp at h
  refine pE_b (va_runV (As := []) (rest := [])  ⟨hx, hb, hml, hown, hts⟩ (f_J0_coder_7d493 l E z9 (p0 := p0) hc_3) (cwV 0 hts g_f_J0_getBytes_840e7_f_J0_coder_7d493_335 rfl rfl rfl hd_J0_coder_7d493 ⟨Nat.le_of_ble_eq_true rfl, Nat.le_of_ble_eq_true rfl⟩) ⟨qPZ.blind, vk_recv hZ.2.2.2.1 hs_2 hS, (qPZ.pre ⟨hK, hN⟩ hPc hZ hS)⟩ rfl rfl hl.1 rfl (lv_room (Nat.le_of_ble_eq_true rfl)) (dq_182 0 bcJ0_getBytes_840e7_0 (j := 1) (i := 335) rfl rfl rfl) ⟨Nat.le_of_ble_eq_true rfl, Nat.le_of_ble_eq_true rfl⟩) (fun hb_4 => ?_)
  refine lv_iload_n hx hb (dq_29 0 bcJ0_getBytes_840e7_0 (j := 4) rfl rfl) rfl (lv_at hl 3 rfl) ?_
  refine lv_icmp_ne (tgt := 28) hx hb (dq_160 0 bcJ0_getBytes_840e7_0 (j := 5) (i := 23) rfl rfl rfl) (by decide) (fun c_5 => ?_) (fun c_5 => ?_)
  ·
    replace hF := inn c_5 hF
    cases hF
  ·
    replace hF := ip c_5 hF
    refine lv_aload_n hx hb (dq_42 0 bcJ0_getBytes_840e7_0 (j := 8) rfl rfl) rfl (lv_at hl 0 rfl) ?_
    replace hF := ltF_s hF
    obtain ⟨hs_6, hF⟩ := hF
    refine vk_getf (v := .ref (z9 (40 + p0))) hx hb ((hZ.2.2.2.1.1 p0 hs_6).2.2.1) hS hown (hts (.fieldLink RJ0 9 "java/lang/String" "value" "[B") (List.mem_of_getElem? (i := 1) rfl)) (fun _ h9 => h9) (dq_180 0 bcJ0_getBytes_840e7_0 (j := 9) (i := 9) rfl rfl rfl) ?_
    refine lv_iconst (v := 0) hx hb (dq_3 0 bcJ0_getBytes_840e7_0 (j := 12) rfl rfl) (by decide) ?_
    refine lv_aload_n hx hb (dq_43 0 bcJ0_getBytes_840e7_0 (j := 13) rfl rfl) rfl (lv_at hl 1 rfl) ?_
    refine lv_iload_n hx hb (dq_28 0 bcJ0_getBytes_840e7_0 (j := 14) rfl rfl) rfl (lv_at hl 2 rfl) ?_
    refine lv_iload_n hx hb (dq_29 0 bcJ0_getBytes_840e7_0 (j := 15) rfl rfl) rfl (lv_at hl 3 rfl) ?_
    refine lv_ishl hx hb (dq_120 0 bcJ0_getBytes_840e7_0 (j := 16) rfl rfl) ?_
    refine lv_aload_n hx hb (dq_42 0 bcJ0_getBytes_840e7_0 (j := 17) rfl rfl) rfl (lv_at hl 0 rfl) ?_
    replace hF := ltF_s hF
    obtain ⟨hs_7, hF⟩ := hF
    refine vk_getf (v := .ref (z9 (40 + p0))) hx hb ((hZ.2.2.2.1.1 p0 hs_7).2.2.1) hS hown (hts (.fieldLink RJ0 9 "java/lang/String" "value" "[B") (List.mem_of_getElem? (i := 1) rfl)) (fun _ h9 => h9) (dq_180 0 bcJ0_getBytes_840e7_0 (j := 18) (i := 9) rfl rfl rfl) ?_
    replace hF := ltF_s hF
    obtain ⟨hs_8, hF⟩ := hF
    refine va_tlen (v := (Int32.ofNat (strL.getD p0 0))) hx hb ((hZ.2.2.2.1.1 p0 hs_8).2.2.2) hS rfl (dq_190 0 bcJ0_getBytes_840e7_0 (j := 21) rfl rfl) ?_
    replace hF := ltF_s hF
    obtain ⟨hs_9, hF⟩ := hF
    replace hF := cp_s hF
    obtain ⟨hy_10, hF⟩ := hF
    refine vk_copyt (f := fun j => (strB.getD p0 []).getD j 0) hx hb (hml.trans hl.1.symm) hown (hts (.methodLink RJ0 212 arraycopyName) (List.mem_of_getElem? (i := 2) rfl)) (hts (.native arraycopyName) (List.mem_of_getElem? (i := 3) rfl)) (hts (.static arraycopyName) (List.mem_of_getElem? (i := 4) rfl)) (hts (.initialized "java/lang/System") (List.mem_of_getElem? (i := 5) rfl)) hK hP hD hS ((hZ.2.2.2.1.1 p0 hs_9).2.2.2) 0 1 rfl rfl hy_10.1 hy_10.2.1 hy_10.2.2.1 hy_10.2.2.2.1 hy_10.2.2.2.2 (fun _ _ => strB_fit _ _) (Nat.le_of_ble_eq_true rfl) (Nat.le_of_ble_eq_true rfl) (dq_184 0 bcJ0_getBytes_840e7_0 (j := 22) (i := 212) rfl rfl rfl) (fun H locs hP hD hS => ?_)
    have h9 := fixPD (ws' := [k_B E a_o1 m9 (va_cpy (fun j => (strB.getD p0 []).getD j 0) c_o1 (0 : Int32).toNatClampNeg (p2 <<< (p3 &&& (31 : Int32))).toNatClampNeg (Int32.ofNat (strL.getD p0 0)).toNatClampNeg)]) hP hD rfl
    clear hP hD
    obtain ⟨hP, hD⟩ := h9
    replace hF := nm_s hF
    obtain ⟨f_11, hf_11, hF⟩ := hF
    rw [← hf_11] at hP hD
    refine lv_goto (tgt := 43) hx hb (dq_167 0 bcJ0_getBytes_840e7_0 (j := 25) (i := 18) rfl rfl rfl) (by decide) ?_
    rw [hQ]
    have h9 := fin9 (P := fun u9 : (Nat → Int32) => va_P E.1 vwCl (w_J0_getBytes_840e7 E a_o1 u9 m9) H ∧ va_D A (w_J0_getBytes_840e7 E a_o1 u9 m9)) hF ⟨hP, hD⟩
    obtain ⟨hP9, hD9⟩ := h9
    exact W.vret hx hb hr (fun tt ht hW => ⟨⟨(), rfl, trivial, ht ▸ hP9, hD9⟩, hS.F ht⟩) hS.2.2 (dq_177 0 bcJ0_getBytes_840e7_0 (j := 43) rfl rfl)

def F_J5_putStringAt_47b60 (p1 : Int32) (p2 : Nat) (c_value : Nat → Int32) (c_coder : Int32) (m9 : Nat) : Option ((Nat → Int32)) :=
  bd1 (F_J5_inflateIfNeededFor_a7421 p2 c_coder) (fun u_1 => ltF p2 15 (bd1 (F_J0_getBytes_840e7 p2 p1 c_coder c_value m9) (fun w_3 => some w_3)))
abbrev w_J5_putStringAt_47b60 (E : EE) (a_ a_value : Nat) (c_coder : Int32) (c_maybeLatin1 : Int32) (c_count : Int32) (c_value : Nat → Int32) (m9 : Nat) : va_W := [k_J4 a_ a_value c_coder c_maybeLatin1 c_count, k_B E a_value m9 c_value]
def v_f_J5_putStringAt_47b60 : List Cond := List.cons (.code yJ5_putStringAt_47b60 cJ5_putStringAt_47b60 3 none) (HAppend.hAppend (α := List Cond) (β := List Cond) (γ := List Cond) [.fieldLink RJ5 15 "java/lang/AbstractStringBuilder" "value" "[B", .fieldLink RJ5 22 "java/lang/AbstractStringBuilder" "coder" "B", .methodLink RJ5 397 yJ5_inflateIfNeededFor_a7421, .instanceMethod yJ5_inflateIfNeededFor_a7421, .selects RJ4 yJ5_inflateIfNeededFor_a7421 yJ5_inflateIfNeededFor_a7421, .initialized RJ5, .methodLink RJ5 399 yJ0_getBytes_840e7, .instanceMethod yJ0_getBytes_840e7, .selects RJ0 yJ0_getBytes_840e7 yJ0_getBytes_840e7, .initialized RJ0] (HAppend.hAppend (α := List Cond) (β := List Cond) (γ := List Cond) v_f_J5_inflateIfNeededFor_a7421 (HAppend.hAppend (α := List Cond) (β := List Cond) (γ := List Cond) wsJ40 (HAppend.hAppend (α := List Cond) (β := List Cond) (γ := List Cond) v_f_J0_getBytes_840e7 []))))
theorem gw_f_J5_putStringAt_47b60 : v_f_J5_putStringAt_47b60.all goodWord = true := gw_c2 (by decide +kernel) (gw_ap gw_f_J5_inflateIfNeededFor_a7421 (gw_ap gw_wsJ40 (gw_ap gw_f_J0_getBytes_840e7 gw_nil)))
theorem i_f_J5_putStringAt_47b60_J4 : ∀ w ∈ wsJ40, w ∈ v_f_J5_putStringAt_47b60 := fun _ h => List.mem_cons_of_mem _ (List.mem_append_right _ (List.mem_append_right _ (List.mem_append_left _ h)))
theorem g_f_J5_putStringAt_47b60_f_J5_inflateIfNeededFor_a7421_397 : GoodIn v_f_J5_putStringAt_47b60 (wsC RJ5 397 RJ4 yJ5_inflateIfNeededFor_a7421 v_f_J5_inflateIfNeededFor_a7421) := goodIn_in gw_f_J5_putStringAt_47b60 (in4 3 4 5 6 rfl rfl rfl rfl (fun _ h => List.mem_cons_of_mem _ (List.mem_append_right _ (List.mem_append_left _ h))))
theorem g_f_J5_putStringAt_47b60_f_J0_getBytes_840e7_399 : GoodIn v_f_J5_putStringAt_47b60 (wsV RJ5 399 RJ0 yJ0_getBytes_840e7 v_f_J0_getBytes_840e7) := goodIn_in gw_f_J5_putStringAt_47b60 (in4 7 8 9 10 rfl rfl rfl rfl (fun _ h => List.mem_cons_of_mem _ (List.mem_append_right _ (List.mem_append_right _ (List.mem_append_right _ (List.mem_append_left _ h))))))
theorem hd_J5_putStringAt_47b60 : yJ5_putStringAt_47b60.cls = RJ5 ∧ yJ5_putStringAt_47b60.cls ≠ "java/lang/invoke/MethodHandle" ∧ yJ5_putStringAt_47b60.cls ≠ "java/lang/invoke/VarHandle" ∧ (parseMethodDescriptor yJ5_putStringAt_47b60.desc).map (fun d => d.parameters.length) = some 2 := by decide +kernel
set_option maxHeartbeats 4000000 in
set_option maxRecDepth 100000 in
theorem f_J5_putStringAt_47b60 (l : Launch) (E : EE) (sz : Nat) (z9 : Nat → Nat) {a_ a_value : Nat} {p1 : Int32} {p2 : Nat} {c_coder : Int32} {c_maybeLatin1 : Int32} {c_count : Int32} {c_value : Nat → Int32} {m9 : Nat} {n_value : Nat → Int32} (hF : F_J5_putStringAt_47b60 p1 p2 c_value c_coder m9 = some n_value) : Met l yJ5_putStringAt_47b60 v_f_J5_putStringAt_47b60 (({ frames := 2, cells := 0, slots := 0, locals := 83 } : Room)) (va_Pc [.ref a_, .int p1, .ref (z9 (20 + p2))] (qWZ E z9 sz (w_J5_putStringAt_47b60 E a_ a_value c_coder c_maybeLatin1 c_count c_value m9))) (va_Qv (fun (_u : Unit) => True) (fun (_u : Unit) tt => va_P E.1 vwCl (w_J5_putStringAt_47b60 E a_ a_value c_coder c_maybeLatin1 c_count n_value m9) tt.heap ∧ va_D (va_A (w_J5_putStringAt_47b60 E a_ a_value c_coder c_maybeLatin1 c_count c_value m9) sz) (w_J5_putStringAt_47b60 E a_ a_value c_coder c_maybeLatin1 c_count n_value m9)) (va_A (w_J5_putStringAt_47b60 E a_ a_value c_coder c_maybeLatin1 c_count c_value m9) sz)) 0 0 (va_A (w_J5_putStringAt_47b60 E a_ a_value c_coder c_maybeLatin1 c_count c_value m9) sz) := by
  refine Met.ofWF (cc := cJ5_putStringAt_47b60) (maxL := 3) (ret := none) (by decide +kernel) rfl ?_
  intro p e s m args below meth c s₁ B hml hv
  obtain ⟨rfl, hsz, ⟨hK, hN⟩, hP, hD0, hZ⟩ := hv
  have hx := B.exec
  have hb := B.bytes
  have hr := B.returns
  have hts := atoms_spec (ws := v_f_J5_putStringAt_47b60) B.pre
  have hown : s.vm.findClass RJ5 = some m.cls := own_of hd_J5_putStringAt_47b60.1 (findClass_of_methodNamed B.named)
  have hlocks : meth.locks = false := B.notSynchronized
  subst hsz
  have hD := hD0.self (sz := s.heap.size)
  generalize hAe : va_A (w_J5_putStringAt_47b60 E a_ a_value c_coder c_maybeLatin1 c_count c_value m9) s.heap.size = A at hD hZ ⊢
  have hA : ∀ q : Nat, s.heap.size ≤ q → A q := fun q h => by rw [← hAe]; exact Or.inr h
  have hS : va_S A s.heap s.heap [] := va_S.rf
  have hl := lv_entry ([.ref a_, .int p1, .ref (z9 (20 + p2))]) (n := 3) (Nat.le_of_ble_eq_true rfl)
  rw [lg_entry_eq]
  generalize (lg_sl ([.ref a_, .int p1, .ref (z9 (20 + p2))]) ++ List.replicate (3 - (lg_sl ([.ref a_, .int p1, .ref (z9 (20 + p2))])).length) Slot.unset).toArray = ls at hl ⊢
  have hl : lv_has ls 3 [(0, .ref a_), (1, .int p1), (2, .ref (z9 (20 + p2)))] := hl
  obtain ⟨Q, hQ⟩ : ∃ Q : State → Prop, Q = MQ below (va_Qv (fun (_u : Unit) => True) (fun (_u : Unit) tt => va_P E.1 vwCl (w_J5_putStringAt_47b60 E a_ a_value c_coder c_maybeLatin1 c_count n_value m9) tt.heap ∧ va_D A (w_J5_putStringAt_47b60 E a_ a_value c_coder c_maybeLatin1 c_count n_value m9)) A) #[Value.ref a_, Value.int p1, Value.ref (z9 (20 + p2))] s 0 0 A := ⟨_, rfl⟩
  rw [← hQ]
  change W p l e ({ frames := 2, cells := 0, slots := 0, locals := 83 } : Room) s m #[Value.ref a_, Value.int p1, Value.ref (z9 (20 + p2))] below meth c s.heap [] 0 0 Q (F0 m 0 ls [])
  suffices hh9 : ∀ (H : Heap) (locs : List Loc), va_P E.1 vwCl (w_J5_putStringAt_47b60 E a_ a_value c_coder c_maybeLatin1 c_count c_value m9) H → va_D A (w_J5_putStringAt_47b60 E a_ a_value c_coder c_maybeLatin1 c_count c_value m9) → va_S A s.heap H locs → W p l e ({ frames := 2, cells := 0, slots := 0, locals := 83 } : Room) s m #[Value.ref a_, Value.int p1, Value.ref (z9 (20 + p2))] below meth c H locs 0 0 Q (F0 m 0 ls []) from hh9 s.heap [] hP hD hS
  clear hP hD hS
  intro H locs hP hD hS
  have h9 := fixPD (ws' := [k_J4 a_ a_value c_coder c_maybeLatin1 c_count, k_B E a_value m9 c_value]) hP hD rfl
  clear hP hD
  obtain ⟨hP, hD⟩ := h9
  unfold F_J5_putStringAt_47b60 at hF
  refine lv_aload_n hx hb (dq_42 0 bcJ5_putStringAt_47b60_0 (j := 0) rfl rfl) rfl (lv_at hl 0 rfl) ?_
  refine lv_aload_n hx hb (dq_44 0 bcJ5_putStringAt_47b60_0 (j := 1) rfl rfl) rfl (lv_at hl 2 rfl) ?_
  replace hF := bd1_s hF
  obtain ⟨u_1, hc_2, hF⟩ := hF
  have hPc : va_P E.1 vwCl (w_J5_inflateIfNeededFor_a7421 E a_ a_value c_coder c_maybeLatin1 c_count) H := hP.sub (ws' := [k_J4 a_ a_value c_coder c_maybeLatin1 c_count]) [0] rfl
  have hrc := va_recv hK hPc (ci := 0) (q0 := 0) rfl rfl
  refine pc_v (va_runV (As := [.ref (z9 (20 + p2))]) (rest := [])  ⟨hx, hb, hml, hown, hts⟩ (f_J5_inflateIfNeededFor_a7421 l E z9 (a_ := a_) (a_value := a_value) (p1 := p2) (c_coder := c_coder) (c_maybeLatin1 := c_maybeLatin1) (c_count := c_count) hc_2) (cwC 1 hts g_f_J5_putStringAt_47b60_f_J5_inflateIfNeededFor_a7421_397 rfl rfl rfl hd_J5_inflateIfNeededFor_a7421.2 ⟨Nat.le_of_ble_eq_true rfl, Nat.le_of_ble_eq_true rfl⟩) ⟨qPZ.blind, hrc, (qPZ.pre ⟨hK, hN⟩ hPc hZ hS)⟩ rfl rfl hl.1 rfl (lv_room (Nat.le_of_ble_eq_true rfl)) (dq_182 0 bcJ5_putStringAt_47b60_0 (j := 2) (i := 397) rfl rfl rfl) ⟨Nat.le_of_ble_eq_true rfl, Nat.le_of_ble_eq_true rfl⟩) ?_
  refine lv_aload_n hx hb (dq_44 0 bcJ5_putStringAt_47b60_0 (j := 5) rfl rfl) rfl (lv_at hl 2 rfl) ?_
  refine lv_aload_n hx hb (dq_42 0 bcJ5_putStringAt_47b60_0 (j := 6) rfl rfl) rfl (lv_at hl 0 rfl) ?_
  refine gt_J4_0 (v := .ref a_value) hx hb hts i_f_J5_putStringAt_47b60_J4 hown hK hP 0 rfl (hts (.fieldLink RJ5 15 "java/lang/AbstractStringBuilder" "value" "[B") (List.mem_of_getElem? (i := 1) rfl)) rfl (dq_180 0 bcJ5_putStringAt_47b60_0 (j := 7) (i := 15) rfl rfl rfl) ?_
  refine lv_iload_n hx hb (dq_27 0 bcJ5_putStringAt_47b60_0 (j := 10) rfl rfl) rfl (lv_at hl 1 rfl) ?_
  refine lv_aload_n hx hb (dq_42 0 bcJ5_putStringAt_47b60_0 (j := 11) rfl rfl) rfl (lv_at hl 0 rfl) ?_
  refine gt_J4_1 (v := .int c_coder) hx hb hts i_f_J5_putStringAt_47b60_J4 hown hK hP 0 rfl (hts (.fieldLink RJ5 22 "java/lang/AbstractStringBuilder" "coder" "B") (List.mem_of_getElem? (i := 2) rfl)) rfl (dq_180 0 bcJ5_putStringAt_47b60_0 (j := 12) (i := 22) rfl rfl rfl) ?_
  replace hF := ltF_s hF
  obtain ⟨hs_4, hF⟩ := hF
  replace hF := bd1_s hF
  obtain ⟨w_3, hc_5, hF⟩ := hF
  obtain ⟨hPc, hDc, hFc⟩ := wcut (wc := (w_J0_getBytes_840e7 E a_value c_value m9)) hP hD hS hA [1] (by decide) rfl
  refine cE_v (wc := (w_J0_getBytes_840e7 E a_value c_value m9)) (wr := [k_J4 a_ a_value c_coder c_maybeLatin1 c_count]) (w1 := (w_J0_getBytes_840e7 E a_value w_3 m9)) (va_runV (As := [.ref a_value, .int p1, .int c_coder]) (rest := [])  ⟨hx, hb, hml, hown, hts⟩ (f_J0_getBytes_840e7 l E H.size z9 (a_o1 := a_value) (p0 := p2) (p2 := p1) (p3 := c_coder) (c_o1 := c_value) (m9 := m9) hc_5) (cwV 3 hts g_f_J5_putStringAt_47b60_f_J0_getBytes_840e7_399 rfl rfl rfl hd_J0_getBytes_840e7 ⟨Nat.le_of_ble_eq_true rfl, Nat.le_of_ble_eq_true rfl⟩) ⟨qWZ.blind, vk_recv hZ.2.2.2.1 hs_4 hS, (qWZ.pre ⟨hK, hN⟩ hPc hDc hZ hS hFc)⟩ rfl rfl hl.1 rfl (lv_room (Nat.le_of_ble_eq_true rfl)) (dq_182 0 bcJ5_putStringAt_47b60_0 (j := 15) (i := 399) rfl rfl rfl) ⟨Nat.le_of_ble_eq_true rfl, Nat.le_of_ble_eq_true rfl⟩) hS hFc hP hD [1] [0] rfl rfl (by decide) (by decide) (fun H locs hP hD hS => ?_)
  have h9 := fixPD (ws' := [k_J4 a_ a_value c_coder c_maybeLatin1 c_count, k_B E a_value m9 w_3]) hP hD rfl
  clear hP hD
  obtain ⟨hP, hD⟩ := h9
  rw [hQ]
  have h9 := fin9 (P := fun u9 : (Nat → Int32) => va_P E.1 vwCl (w_J5_putStringAt_47b60 E a_ a_value c_coder c_maybeLatin1 c_count u9 m9) H ∧ va_D A (w_J5_putStringAt_47b60 E a_ a_value c_coder c_maybeLatin1 c_count u9 m9)) hF ⟨hP, hD⟩
  obtain ⟨hP9, hD9⟩ := h9
  exact W.vret hx hb hr (fun tt ht hW => ⟨⟨(), rfl, trivial, ht ▸ hP9, hD9⟩, hS.F ht⟩) hS.2.2 (dq_177 0 bcJ5_putStringAt_47b60_0 (j := 18) rfl rfl)
end
-- 84c.sq
section

/-! what StringBuilder's functions answer, as far as spell needs it -/
theorem ss_J {K b : Nat} {x0 : Int32} (hK : 200000 ≤ K) (hb : b ≤ 1) : Tt (J_J6_stringSize_0f7a4_11 K (nI b) x0) (fun r => ∃ s, 1 ≤ s ∧ s ≤ 11 ∧ r = nI s) := by
  unfold J_J6_stringSize_0f7a4_11
  refine tt_bd2 (P := fun x : Nat × Int32 => x.1 < 2 ∧ ∃ a, 1 ≤ a ∧ a ≤ 10 ∧ x.2 = nI a) (tt_for (fun j u => u.2 = nI (j + 1)) 9 (by omega) rfl (fun j u hj hu => ?_)) (fun t x3 hx => ?_)
  · unfold B_J6_stringSize_0f7a4_16
    rw [hu]
    refine tt_ite (fun _ => tt_some (nx_r ⟨Nat.lt_succ_self 1, j + 1, by omega, by omega, rfl⟩)) (fun q => tt_ite (fun _ => tt_some (nx_l ?_ (nI_1 _))) (fun _ => tt_some (nx_r ⟨Nat.zero_lt_succ 1, j + 1, by omega, by omega, rfl⟩)))
    have := mt (nI_leI (a := 10) (b := j + 1) (by omega) (by omega)).mpr q
    omega
  · obtain ⟨ht, a, h1, h2, h3⟩ := hx
    have h3 : x3 = nI a := h3
    have ht : t < 2 := ht
    refine tt_ite (fun _ => tt_some ⟨a + b, by omega, by omega, by rw [h3, nI_add]⟩) (fun q => tt_ite (fun _ => tt_some ⟨10 + b, by omega, by omega, nI_add 10 b⟩) (fun q2 => ?_))
    omega
theorem ss_tot {K : Nat} {i : Int32} (hK : 200000 ≤ K) : Tt (F_J6_stringSize_0f7a4 K i) (fun r => ∃ s, 1 ≤ s ∧ s ≤ 11 ∧ r = nI s) := by
  unfold F_J6_stringSize_0f7a4
  exact tt_ite (fun _ => ss_J (b := 1) hK (by decide)) (fun _ => ss_J (b := 0) hK (by decide))
theorem ss_d1 : ∀ i, i < 8 → ¬ nI i < 0 := by decide +kernel
theorem ss_d2 : ∀ i, i < 8 → ¬ -(nI i) ≤ -10 := by decide +kernel
theorem ss_dig {K i : Nat} (hK : 200000 ≤ K) (hi : i < 8) : F_J6_stringSize_0f7a4 K (nI i) = some (nI 1) := by
  have e : lpF (fun u9 : Int32 × Int32 => B_J6_stringSize_0f7a4_16 (-(nI i)) u9.1 u9.2) K ((-10 : Int32), (1 : Int32)) = some (0, 1) := by
    obtain ⟨K', rfl⟩ : ∃ K', K = K' + 1 := ⟨K - 1, by omega⟩
    refine lp_end ?_
    show B_J6_stringSize_0f7a4_16 (-(nI i)) (-10) 1 = some (Sum.inr (0, 1))
    unfold B_J6_stringSize_0f7a4_16
    rw [if_neg (by decide), if_neg (ss_d2 i hi)]
  unfold F_J6_stringSize_0f7a4 J_J6_stringSize_0f7a4_11
  rw [if_neg (ss_d1 i hi), e, xb2, if_pos rfl]
  rfl
theorem dec1 {y : Nat} (h : 1 ≤ y) : nI y + (-1 : Int32) = nI (y - 1) := by
  obtain ⟨x, rfl⟩ : ∃ x, y = x + 1 := ⟨y - 1, by omega⟩
  rw [← nI_1, Int32.add_assoc, show (1 : Int32) + -1 = 0 by decide, Int32.add_zero]
  rfl
def gcT (m9 : Nat) (k0 x0 x5 : Int32) (c : Nat → Int32) : Option (Int32 × (Nat → Int32)) :=
  ixF (-x0) 100 (ixF (x5 + (-1 : Int32)) m9 (nmF (upd c (x5 + (-1 : Int32)).toNatClampNeg (vp_nar .byte (onesF (-x0).toNatClampNeg))) (fun f_16 => if (-9 : Int32) ≤ x0 then if k0 = (0 : Int32) then some (x5 + (-1 : Int32), f_16) else ixF ((x5 + (-1 : Int32)) + (-1 : Int32)) m9 (nmF (upd f_16 ((x5 + (-1 : Int32)) + (-1 : Int32)).toNatClampNeg (vp_nar .byte (45 : Int32))) (fun f_20 => some ((x5 + (-1 : Int32)) + (-1 : Int32), f_20))) else ixF (-x0) 100 (ixF ((x5 + (-1 : Int32)) + (-1 : Int32)) m9 (nmF (upd f_16 ((x5 + (-1 : Int32)) + (-1 : Int32)).toNatClampNeg (vp_nar .byte (tensF (-x0).toNatClampNeg))) (fun f_23 => if k0 = (0 : Int32) then some ((x5 + (-1 : Int32)) + (-1 : Int32), f_23) else ixF (((x5 + (-1 : Int32)) + (-1 : Int32)) + (-1 : Int32)) m9 (nmF (upd f_23 (((x5 + (-1 : Int32)) + (-1 : Int32)) + (-1 : Int32)).toNatClampNeg (vp_nar .byte (45 : Int32))) (fun f_26 => some (((x5 + (-1 : Int32)) + (-1 : Int32)) + (-1 : Int32), f_26))))))))) 
theorem gc_tail {mz d y : Nat} {k0 x0 x5 : Int32} {c : Nat → Int32} (hm : mz ≤ 34) (hf : sb_Fit c) (h0 : -x0 = nI d) (hd : d < 100) (h5 : x5 = nI y) (hy2 : y ≤ mz) (hy : 3 ≤ y ∨ (1 ≤ y ∧ k0 = 0 ∧ (-9 : Int32) ≤ x0)) : Tt (gcT mz k0 x0 x5 c) (fun x => sb_Fit x.2) := by
  unfold gcT
  have h1 : 1 ≤ y := by omega
  rw [h0, h5, dec1 h1]
  refine tt_ixn hd (by decide) (tt_ixn (by omega) (by omega) (tt_nm ?_))
  have f1 := sb_fitU (k := (nI (y - 1)).toNatClampNeg) hf (fit_nar (onesF (nI d).toNatClampNeg))
  refine tt_ite (fun q => tt_ite (fun _ => tt_some f1) (fun k => ?_)) (fun q => ?_)
  · have y3 : 3 ≤ y := by
      rcases hy with h | h
      · exact h
      · exact absurd h.2.1 k
    rw [dec1 (show 1 ≤ y - 1 by omega)]
    exact tt_ixn (by omega) (by omega) (tt_nm (tt_some (sb_fitU f1 (fit_nar _))))
  · have y3 : 3 ≤ y := by
      rcases hy with h | h
      · exact h
      · exact absurd h.2.2 q
    rw [dec1 (show 1 ≤ y - 1 by omega), dec1 (show 1 ≤ y - 1 - 1 by omega)]
    refine tt_ixn hd (by decide) (tt_ixn (by omega) (by omega) (tt_nm (tt_ite (fun _ => tt_some (sb_fitU f1 (fit_nar _))) (fun _ => tt_ixn (by omega) (by omega) (tt_nm (tt_some (sb_fitU (sb_fitU f1 (fit_nar _)) (fit_nar _))))))))
theorem gc_div {x : Int32} (h : x.toInt ≤ 0) : ∃ d, d < 100 ∧ x / 100 * 100 - x = nI d ∧ (x / 100).toInt ≤ 0 ∧ x.toInt = 100 * (x / 100).toInt - (d : Int) := by
  have lo := Int32.le_toInt x
  have h100 : (100 : Int32).toInt = 100 := by decide
  have hq : (x / 100).toInt = -((-x.toInt) / 100) := by
    rw [Int32.toInt_div, h100]
    rw [show x.toInt.tdiv 100 = -((-x.toInt) / 100) by
      rw [← Int.tdiv_eq_ediv_of_nonneg (show 0 ≤ -x.toInt by omega), Int.neg_tdiv, Int.neg_neg]]
    rw [Int.bmod_eq_of_le (by omega) (by omega)]
  have hr : (x / 100 * 100 - x).toInt = -((-x.toInt) / 100) * 100 - x.toInt := by
    rw [Int32.toInt_sub, Int32.toInt_mul, hq, h100, Int.bmod_eq_of_le (n := -((-x.toInt) / 100) * 100) (by omega) (by omega), Int.bmod_eq_of_le (by omega) (by omega)]
  refine ⟨(-((-x.toInt) / 100) * 100 - x.toInt).toNat, by omega, ?_, by omega, by omega⟩
  apply Int32.toInt_inj.mp
  rw [hr, nI_toInt (by omega)]
  omega
def gB : Nat → Int
  | 0 => 2147483648
  | 1 => 21474836
  | 2 => 214748
  | 3 => 2147
  | _ => 21
theorem gB_step : ∀ t, t < 4 → ∀ a b : Int, a ≤ gB t → 100 * b ≤ a → b ≤ gB (t + 1) := by
  intro t ht a b h1 h2
  match t, ht with
  | 0, _ => have h1 : a ≤ 2147483648 := h1; show b ≤ 21474836; omega
  | 1, _ => have h1 : a ≤ 21474836 := h1; show b ≤ 214748; omega
  | 2, _ => have h1 : a ≤ 214748 := h1; show b ≤ 2147; omega
  | 3, _ => have h1 : a ≤ 2147 := h1; show b ≤ 21; omega
  | t + 4, h => omega
theorem m100 : (-100 : Int32).toInt = -100 := by decide
theorem gc_loop {K mz y : Nat} {x : Int32} {c : Nat → Int32} (hK : 200000 ≤ K) (hm : mz ≤ 34) (hf : sb_Fit c) (hy : 11 ≤ y) (hy2 : y ≤ mz) (hx : x.toInt ≤ 0) : Tt (lpF (fun u9 : Int32 × Int32 × (Nat → Int32) => B_J6_getChars_ba4f3_22 mz u9.1 u9.2.1 u9.2.2) K (x, nI y, c)) (fun r => (∃ d, d < 100 ∧ -r.1 = nI d) ∧ (∃ a, 3 ≤ a ∧ a ≤ mz ∧ r.2.1 = nI a) ∧ sb_Fit r.2.2) := by
  refine tt_for (fun t u => u.1.toInt ≤ 0 ∧ -u.1.toInt ≤ gB t ∧ u.2.1 = nI (y - 2 * t) ∧ sb_Fit u.2.2) 4 (by omega) ⟨hx, ?_, rfl, hf⟩ (fun t u ht hu => ?_)
  · have := Int32.le_toInt x
    show -x.toInt ≤ 2147483648
    omega
  obtain ⟨h1, h2, h3, h4⟩ := hu
  unfold B_J6_getChars_ba4f3_22
  refine tt_ite (fun q => tt_some (nx_r ⟨?_, ⟨y - 2 * t, by omega, by omega, h3⟩, h4⟩)) (fun q => ?_)
  · have q1 := Int32.lt_iff_toInt_lt.mp q
    rw [m100] at q1
    refine ⟨(-u.1.toInt).toNat, by omega, ?_⟩
    show -u.1 = nI (-u.1.toInt).toNat
    apply Int32.toInt_inj.mp
    rw [Int32.toInt_neg, Int.bmod_eq_of_le (by omega) (by omega), nI_toInt (by omega)]
    omega
  · have q1 := mt Int32.lt_iff_toInt_lt.mpr q
    rw [m100] at q1
    obtain ⟨d, hd, e1, e2, e3⟩ := gc_div h1
    have t4 : t < 4 := by
      rcases Nat.lt_or_ge t 4 with z | z
      · exact z
      · have t5 : t = 4 := by omega
        rw [t5] at h2
        have h2 : -u.1.toInt ≤ 21 := h2
        omega
    have hb := gB_step t t4 (-u.1.toInt) (-(u.1 / 100).toInt) h2 (by omega)
    rw [e1, h3, dec1 (show 1 ≤ y - 2 * t by omega), dec1 (show 1 ≤ y - 2 * t - 1 by omega)]
    exact tt_ixn hd (by decide) (tt_ixn (by omega) (by omega) (tt_nm (tt_ixn hd (by decide) (tt_ixn (by omega) (by omega) (tt_nm (tt_some (nx_l t4 ⟨e2, hb, by rw [show y - 2 * t - 1 - 1 = y - 2 * (t + 1) by omega], sb_fitU (sb_fitU h4 (fit_nar _)) (fit_nar _)⟩)))))))
theorem gc_tot {K mz y : Nat} {i : Int32} {c : Nat → Int32} (hK : 200000 ≤ K) (hm : mz ≤ 34) (hf : sb_Fit c) (hy : 11 ≤ y) (hy2 : y ≤ mz) : Tt (F_J6_getChars_ba4f3 K i (nI y) c mz) (fun x => sb_Fit x.2) := by
  have z : (0 : Int32).toInt = 0 := rfl
  unfold F_J6_getChars_ba4f3 J_J6_getChars_ba4f3_12
  refine tt_ite (fun q => ?_) (fun q => ?_)
  · rw [if_pos rfl]
    have q0 := Int32.le_iff_toInt_le.mp q
    have lo := Int32.toInt_lt i
    refine tt_bd3 (gc_loop hK hm hf hy hy2 ?_) (fun x0 x5 c2 hr => ?_)
    · rw [Int32.toInt_neg, Int.bmod_eq_of_le (by omega) (by omega)]
      omega
    · obtain ⟨⟨d, hd, e0⟩, ⟨a, a1, a2, e5⟩, hf2⟩ := hr
      exact gc_tail hm hf2 e0 hd e5 a2 (Or.inl a1)
  · rw [if_neg (by decide)]
    have q0 := mt Int32.le_iff_toInt_le.mpr q
    refine tt_bd3 (gc_loop hK hm hf hy hy2 (by omega)) (fun x0 x5 c2 hr => ?_)
    obtain ⟨⟨d, hd, e0⟩, ⟨a, a1, a2, e5⟩, hf2⟩ := hr
    exact gc_tail hm hf2 e0 hd e5 a2 (Or.inl a1)
theorem gc_d1 : ∀ i, i < 8 → (0 : Int32) ≤ nI i := by decide +kernel
theorem gc_d2 : ∀ i, i < 8 → (-100 : Int32) < -(nI i) := by decide +kernel
theorem gc_d3 : ∀ i, i < 8 → (-9 : Int32) ≤ -(nI i) := by decide +kernel
theorem gc_d4 : ∀ i, i < 8 → -(-(nI i)) = nI i := by decide +kernel
theorem gc_dig {K mz y i : Nat} {c : Nat → Int32} (hK : 200000 ≤ K) (hi : i < 8) (hm : mz ≤ 34) (hf : sb_Fit c) (hy : 1 ≤ y) (hy2 : y ≤ mz) : Tt (F_J6_getChars_ba4f3 K (nI i) (nI y) c mz) (fun x => sb_Fit x.2) := by
  have e : lpF (fun u9 : Int32 × Int32 × (Nat → Int32) => B_J6_getChars_ba4f3_22 mz u9.1 u9.2.1 u9.2.2) K (-(nI i), nI y, c) = some (-(nI i), nI y, c) := by
    obtain ⟨K', rfl⟩ : ∃ K', K = K' + 1 := ⟨K - 1, by omega⟩
    refine lp_end ?_
    show B_J6_getChars_ba4f3_22 mz (-(nI i)) (nI y) c = some (Sum.inr (-(nI i), nI y, c))
    unfold B_J6_getChars_ba4f3_22
    rw [if_pos (gc_d2 i hi)]
  unfold F_J6_getChars_ba4f3 J_J6_getChars_ba4f3_12
  rw [if_pos (gc_d1 i hi), if_pos rfl, e, xb3]
  exact gc_tail hm hf (gc_d4 i hi) (show i < 100 by omega) rfl hy2 (Or.inr ⟨hy, rfl, gc_d3 i hi⟩)
theorem nc_ok : ∀ k, k < 35 → 16 < k → F_J5_newCapacity_0f7a4 (nI k) 0 16 = some 34 := by decide +kernel
theorem gb_ok {p w k mz : Nat} {c : Nat → Int32} (hp : (p = 12 ∧ w = 5) ∨ (p = 13 ∧ w = 4)) (hk : k + w ≤ mz) (hm : mz ≤ 34) : F_J0_getBytes_840e7 p (nI k) 0 c mz = some (va_cpy (fun j => (strB.getD p []).getD j 0) c 0 k w) := by
  have p15 : p < 15 := by omega
  have el : strL.getD p 0 = w := by rcases hp with ⟨rfl, rfl⟩ | ⟨rfl, rfl⟩ <;> rfl
  have hw : w ≤ 5 := by omega
  unfold F_J0_getBytes_840e7 F_J0_coder_7d493
  rw [xlt p15, xlt p15, xb1, if_pos rfl, xlt p15, xlt p15, xlt p15, xlt p15, sb_shl0, el]
  unfold cpF
  have c1 : (nI k).toNatClampNeg = k := nI_clamp (by omega)
  have c2 : (Int32.ofNat w).toNatClampNeg = w := nI_clamp (by omega)
  rw [c1, c2]
  rw [if_pos ⟨by decide, nI_pos (by omega), nI_pos (by omega), by rw [show (0 : Int32).toNatClampNeg = 0 from rfl]; omega, hk⟩]
  rfl
theorem ps_ok {p w k mz : Nat} {c : Nat → Int32} (hp : (p = 12 ∧ w = 5) ∨ (p = 13 ∧ w = 4)) (hk : k + w ≤ mz) (hm : mz ≤ 34) (hf : sb_Fit c) : ∃ c', F_J5_putStringAt_47b60 (nI k) p c 0 mz = some c' ∧ sb_Fit c' := by
  have p15 : p < 15 := by omega
  refine ⟨va_cpy (fun j => (strB.getD p []).getD j 0) c 0 k w, ?_, sb_fitC (fun j => strB_fit p j) hf⟩
  unfold F_J5_putStringAt_47b60 F_J5_inflateIfNeededFor_a7421 F_J0_coder_7d493
  rw [xlt p15, xlt p15, xb1, if_pos rfl, xb1, xlt p15, gb_ok hp hk hm, xb1]
theorem ln_ok {p w : Nat} (hp : (p = 12 ∧ w = 5) ∨ (p = 13 ∧ w = 4)) : F_J0_length_8abf5 p = some (nI w) := by
  have p15 : p < 15 := by omega
  have el : strL.getD p 0 = w := by rcases hp with ⟨rfl, rfl⟩ | ⟨rfl, rfl⟩ <;> rfl
  unfold F_J0_length_8abf5 F_J0_coder_7d493
  rw [xlt p15, xlt p15, xlt p15, xlt p15, xb1, sb_shr0, el]
  rfl
theorem ca_ok {n mz i : Nat} {c : Nat → Int32} (hi : i < n) (hn : n ≤ mz) (hm : mz ≤ 34) : Tt (F_J5_charAt_5068e (nI i) c 0 (nI n) mz) (fun _ => True) := by
  unfold F_J5_charAt_5068e F_J0_checkIndex_df160 F_J3_checkIndex_8e157null
  have e : minF (nI n) (Int32.ofNat mz >>> ((0 : Int32) &&& (31 : Int32))) = nI n := by
    rw [sb_shr0]
    unfold minF
    exact if_neg (nI_nlt hn (by omega))
  rw [e, if_neg (nI_pos (by omega)), if_pos (nI_lt hi (by omega)), xb1, xb1, if_pos rfl]
  exact tt_ixn (by omega) (by omega) (tt_some trivial)
end
