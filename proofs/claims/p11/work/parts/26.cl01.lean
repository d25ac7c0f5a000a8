def dl_X6_bytesIn_26_cl01_0 : List (Nat × Instr × Nat) := [(5, .iload_n 2, 1), (6, .ifCond .lt 22, 3), (9, .iload_n 0, 1), (10, .iload_n 2, 1), (11, .iushr, 1), (12, .sipush 255, 3), (15, .iand, 1), (16, .ifCond .eq 6, 3), (22, .iinc 2 (-8), 3), (25, .goto (-20), 3), (19, .iinc 1 1, 3), (0, .iconst 0, 1), (1, .istore_n 1, 1), (2, .bipush 24, 2), (4, .istore_n 2, 1), (28, .iload_n 1, 1), (29, .ireturn, 1)]
set_option maxRecDepth 100000 in
theorem dall_X6_bytesIn_26_cl01_0 : dchk cX6_bytesIn dl_X6_bytesIn_26_cl01_0 = true := by decide +kernel
theorem dX6_bytesIn_5 : decode cX6_bytesIn 5 = .ok (.iload_n 2, 1) := dchk_at dall_X6_bytesIn_26_cl01_0 (k := 0) rfl
theorem dX6_bytesIn_6 : decode cX6_bytesIn 6 = .ok (.ifCond .lt 22, 3) := dchk_at dall_X6_bytesIn_26_cl01_0 (k := 1) rfl
theorem dX6_bytesIn_9 : decode cX6_bytesIn 9 = .ok (.iload_n 0, 1) := dchk_at dall_X6_bytesIn_26_cl01_0 (k := 2) rfl
theorem dX6_bytesIn_10 : decode cX6_bytesIn 10 = .ok (.iload_n 2, 1) := dchk_at dall_X6_bytesIn_26_cl01_0 (k := 3) rfl
theorem dX6_bytesIn_11 : decode cX6_bytesIn 11 = .ok (.iushr, 1) := dchk_at dall_X6_bytesIn_26_cl01_0 (k := 4) rfl
theorem dX6_bytesIn_12 : decode cX6_bytesIn 12 = .ok (.sipush 255, 3) := dchk_at dall_X6_bytesIn_26_cl01_0 (k := 5) rfl
theorem dX6_bytesIn_15 : decode cX6_bytesIn 15 = .ok (.iand, 1) := dchk_at dall_X6_bytesIn_26_cl01_0 (k := 6) rfl
theorem dX6_bytesIn_16 : decode cX6_bytesIn 16 = .ok (.ifCond .eq 6, 3) := dchk_at dall_X6_bytesIn_26_cl01_0 (k := 7) rfl
theorem dX6_bytesIn_22 : decode cX6_bytesIn 22 = .ok (.iinc 2 (-8), 3) := dchk_at dall_X6_bytesIn_26_cl01_0 (k := 8) rfl
theorem dX6_bytesIn_25 : decode cX6_bytesIn 25 = .ok (.goto (-20), 3) := dchk_at dall_X6_bytesIn_26_cl01_0 (k := 9) rfl
theorem dX6_bytesIn_19 : decode cX6_bytesIn 19 = .ok (.iinc 1 1, 3) := dchk_at dall_X6_bytesIn_26_cl01_0 (k := 10) rfl
theorem dX6_bytesIn_0 : decode cX6_bytesIn 0 = .ok (.iconst 0, 1) := dchk_at dall_X6_bytesIn_26_cl01_0 (k := 11) rfl
theorem dX6_bytesIn_1 : decode cX6_bytesIn 1 = .ok (.istore_n 1, 1) := dchk_at dall_X6_bytesIn_26_cl01_0 (k := 12) rfl
theorem dX6_bytesIn_2 : decode cX6_bytesIn 2 = .ok (.bipush 24, 2) := dchk_at dall_X6_bytesIn_26_cl01_0 (k := 13) rfl
theorem dX6_bytesIn_4 : decode cX6_bytesIn 4 = .ok (.istore_n 2, 1) := dchk_at dall_X6_bytesIn_26_cl01_0 (k := 14) rfl
theorem dX6_bytesIn_28 : decode cX6_bytesIn 28 = .ok (.iload_n 1, 1) := dchk_at dall_X6_bytesIn_26_cl01_0 (k := 15) rfl
theorem dX6_bytesIn_29 : decode cX6_bytesIn 29 = .ok (.ireturn, 1) := dchk_at dall_X6_bytesIn_26_cl01_0 (k := 16) rfl
def dl_X6_cutTo_26_cl01_0 : List (Nat × Instr × Nat) := [(0, .iload_n 1, 1), (1, .ifCond .lt 11, 3), (12, .iconst 0, 1), (13, .ireturn, 1), (4, .iload_n 1, 1), (5, .aload_n 0, 1), (6, .getfield 15, 3), (9, .if_icmp .le 5, 3), (14, .aload_n 0, 1), (15, .iload_n 1, 1), (16, .putfield 15, 3), (19, .iconst 1, 1), (20, .ireturn, 1)]
set_option maxRecDepth 100000 in
theorem dall_X6_cutTo_26_cl01_0 : dchk cX6_cutTo dl_X6_cutTo_26_cl01_0 = true := by decide +kernel
theorem dX6_cutTo_0 : decode cX6_cutTo 0 = .ok (.iload_n 1, 1) := dchk_at dall_X6_cutTo_26_cl01_0 (k := 0) rfl
theorem dX6_cutTo_1 : decode cX6_cutTo 1 = .ok (.ifCond .lt 11, 3) := dchk_at dall_X6_cutTo_26_cl01_0 (k := 1) rfl
theorem dX6_cutTo_12 : decode cX6_cutTo 12 = .ok (.iconst 0, 1) := dchk_at dall_X6_cutTo_26_cl01_0 (k := 2) rfl
theorem dX6_cutTo_13 : decode cX6_cutTo 13 = .ok (.ireturn, 1) := dchk_at dall_X6_cutTo_26_cl01_0 (k := 3) rfl
theorem dX6_cutTo_4 : decode cX6_cutTo 4 = .ok (.iload_n 1, 1) := dchk_at dall_X6_cutTo_26_cl01_0 (k := 4) rfl
theorem dX6_cutTo_5 : decode cX6_cutTo 5 = .ok (.aload_n 0, 1) := dchk_at dall_X6_cutTo_26_cl01_0 (k := 5) rfl
theorem dX6_cutTo_6 : decode cX6_cutTo 6 = .ok (.getfield 15, 3) := dchk_at dall_X6_cutTo_26_cl01_0 (k := 6) rfl
theorem dX6_cutTo_9 : decode cX6_cutTo 9 = .ok (.if_icmp .le 5, 3) := dchk_at dall_X6_cutTo_26_cl01_0 (k := 7) rfl
theorem dX6_cutTo_14 : decode cX6_cutTo 14 = .ok (.aload_n 0, 1) := dchk_at dall_X6_cutTo_26_cl01_0 (k := 8) rfl
theorem dX6_cutTo_15 : decode cX6_cutTo 15 = .ok (.iload_n 1, 1) := dchk_at dall_X6_cutTo_26_cl01_0 (k := 9) rfl
theorem dX6_cutTo_16 : decode cX6_cutTo 16 = .ok (.putfield 15, 3) := dchk_at dall_X6_cutTo_26_cl01_0 (k := 10) rfl
theorem dX6_cutTo_19 : decode cX6_cutTo 19 = .ok (.iconst 1, 1) := dchk_at dall_X6_cutTo_26_cl01_0 (k := 11) rfl
theorem dX6_cutTo_20 : decode cX6_cutTo 20 = .ok (.ireturn, 1) := dchk_at dall_X6_cutTo_26_cl01_0 (k := 12) rfl
def dl_X6_signAt_26_cl01_0 : List (Nat × Instr × Nat) := [(0, .iload_n 1, 1), (1, .ifCond .lt 31, 3), (32, .iconst (-1), 1), (33, .ireturn, 1), (4, .iload_n 1, 1), (5, .aload_n 0, 1), (6, .getfield 15, 3), (9, .if_icmp .ge 23, 3), (12, .iload_n 1, 1), (13, .sipush 320, 3), (16, .if_icmp .ge 16, 3), (19, .aload_n 0, 1), (20, .getfield 11, 3), (23, .iload_n 1, 1), (24, .baload, 1), (25, .sipush 255, 3), (28, .iand, 1), (29, .goto 4, 3)]
set_option maxRecDepth 100000 in
theorem dall_X6_signAt_26_cl01_0 : dchk cX6_signAt dl_X6_signAt_26_cl01_0 = true := by decide +kernel
theorem dX6_signAt_0 : decode cX6_signAt 0 = .ok (.iload_n 1, 1) := dchk_at dall_X6_signAt_26_cl01_0 (k := 0) rfl
theorem dX6_signAt_1 : decode cX6_signAt 1 = .ok (.ifCond .lt 31, 3) := dchk_at dall_X6_signAt_26_cl01_0 (k := 1) rfl
theorem dX6_signAt_32 : decode cX6_signAt 32 = .ok (.iconst (-1), 1) := dchk_at dall_X6_signAt_26_cl01_0 (k := 2) rfl
theorem dX6_signAt_33 : decode cX6_signAt 33 = .ok (.ireturn, 1) := dchk_at dall_X6_signAt_26_cl01_0 (k := 3) rfl
theorem dX6_signAt_4 : decode cX6_signAt 4 = .ok (.iload_n 1, 1) := dchk_at dall_X6_signAt_26_cl01_0 (k := 4) rfl
theorem dX6_signAt_5 : decode cX6_signAt 5 = .ok (.aload_n 0, 1) := dchk_at dall_X6_signAt_26_cl01_0 (k := 5) rfl
theorem dX6_signAt_6 : decode cX6_signAt 6 = .ok (.getfield 15, 3) := dchk_at dall_X6_signAt_26_cl01_0 (k := 6) rfl
theorem dX6_signAt_9 : decode cX6_signAt 9 = .ok (.if_icmp .ge 23, 3) := dchk_at dall_X6_signAt_26_cl01_0 (k := 7) rfl
theorem dX6_signAt_12 : decode cX6_signAt 12 = .ok (.iload_n 1, 1) := dchk_at dall_X6_signAt_26_cl01_0 (k := 8) rfl
theorem dX6_signAt_13 : decode cX6_signAt 13 = .ok (.sipush 320, 3) := dchk_at dall_X6_signAt_26_cl01_0 (k := 9) rfl
theorem dX6_signAt_16 : decode cX6_signAt 16 = .ok (.if_icmp .ge 16, 3) := dchk_at dall_X6_signAt_26_cl01_0 (k := 10) rfl
theorem dX6_signAt_19 : decode cX6_signAt 19 = .ok (.aload_n 0, 1) := dchk_at dall_X6_signAt_26_cl01_0 (k := 11) rfl
theorem dX6_signAt_20 : decode cX6_signAt 20 = .ok (.getfield 11, 3) := dchk_at dall_X6_signAt_26_cl01_0 (k := 12) rfl
theorem dX6_signAt_23 : decode cX6_signAt 23 = .ok (.iload_n 1, 1) := dchk_at dall_X6_signAt_26_cl01_0 (k := 13) rfl
theorem dX6_signAt_24 : decode cX6_signAt 24 = .ok (.baload, 1) := dchk_at dall_X6_signAt_26_cl01_0 (k := 14) rfl
theorem dX6_signAt_25 : decode cX6_signAt 25 = .ok (.sipush 255, 3) := dchk_at dall_X6_signAt_26_cl01_0 (k := 15) rfl
theorem dX6_signAt_28 : decode cX6_signAt 28 = .ok (.iand, 1) := dchk_at dall_X6_signAt_26_cl01_0 (k := 16) rfl
theorem dX6_signAt_29 : decode cX6_signAt 29 = .ok (.goto 4, 3) := dchk_at dall_X6_signAt_26_cl01_0 (k := 17) rfl
def dl_X6_take_26_cl01_0 : List (Nat × Instr × Nat) := [(3, .iload_n 2, 1), (4, .ifCond .lt 52, 3), (7, .iload_n 1, 1), (8, .iload_n 2, 1), (9, .iushr, 1), (10, .sipush 255, 3), (13, .iand, 1), (14, .istore_n 3, 1), (15, .iload_n 3, 1), (16, .ifCond .eq 34, 3), (50, .iinc 2 (-8), 3), (53, .goto (-50), 3), (19, .aload_n 0, 1), (20, .getfield 15, 3), (23, .sipush 320, 3), (26, .if_icmp .ge 24, 3), (29, .aload_n 0, 1), (30, .getfield 11, 3), (33, .aload_n 0, 1), (34, .getfield 15, 3), (37, .iload_n 3, 1), (38, .i2b, 1), (39, .bastore, 1), (40, .aload_n 0, 1), (41, .dup, 1), (42, .getfield 15, 3), (45, .iconst 1, 1), (46, .iadd, 1), (47, .putfield 15, 3), (0, .bipush 24, 2), (2, .istore_n 2, 1), (56, .return_, 1)]
set_option maxRecDepth 100000 in
theorem dall_X6_take_26_cl01_0 : dchk cX6_take dl_X6_take_26_cl01_0 = true := by decide +kernel
theorem dX6_take_3 : decode cX6_take 3 = .ok (.iload_n 2, 1) := dchk_at dall_X6_take_26_cl01_0 (k := 0) rfl
theorem dX6_take_4 : decode cX6_take 4 = .ok (.ifCond .lt 52, 3) := dchk_at dall_X6_take_26_cl01_0 (k := 1) rfl
theorem dX6_take_7 : decode cX6_take 7 = .ok (.iload_n 1, 1) := dchk_at dall_X6_take_26_cl01_0 (k := 2) rfl
theorem dX6_take_8 : decode cX6_take 8 = .ok (.iload_n 2, 1) := dchk_at dall_X6_take_26_cl01_0 (k := 3) rfl
theorem dX6_take_9 : decode cX6_take 9 = .ok (.iushr, 1) := dchk_at dall_X6_take_26_cl01_0 (k := 4) rfl
theorem dX6_take_10 : decode cX6_take 10 = .ok (.sipush 255, 3) := dchk_at dall_X6_take_26_cl01_0 (k := 5) rfl
theorem dX6_take_13 : decode cX6_take 13 = .ok (.iand, 1) := dchk_at dall_X6_take_26_cl01_0 (k := 6) rfl
theorem dX6_take_14 : decode cX6_take 14 = .ok (.istore_n 3, 1) := dchk_at dall_X6_take_26_cl01_0 (k := 7) rfl
theorem dX6_take_15 : decode cX6_take 15 = .ok (.iload_n 3, 1) := dchk_at dall_X6_take_26_cl01_0 (k := 8) rfl
theorem dX6_take_16 : decode cX6_take 16 = .ok (.ifCond .eq 34, 3) := dchk_at dall_X6_take_26_cl01_0 (k := 9) rfl
theorem dX6_take_50 : decode cX6_take 50 = .ok (.iinc 2 (-8), 3) := dchk_at dall_X6_take_26_cl01_0 (k := 10) rfl
theorem dX6_take_53 : decode cX6_take 53 = .ok (.goto (-50), 3) := dchk_at dall_X6_take_26_cl01_0 (k := 11) rfl
theorem dX6_take_19 : decode cX6_take 19 = .ok (.aload_n 0, 1) := dchk_at dall_X6_take_26_cl01_0 (k := 12) rfl
theorem dX6_take_20 : decode cX6_take 20 = .ok (.getfield 15, 3) := dchk_at dall_X6_take_26_cl01_0 (k := 13) rfl
theorem dX6_take_23 : decode cX6_take 23 = .ok (.sipush 320, 3) := dchk_at dall_X6_take_26_cl01_0 (k := 14) rfl
theorem dX6_take_26 : decode cX6_take 26 = .ok (.if_icmp .ge 24, 3) := dchk_at dall_X6_take_26_cl01_0 (k := 15) rfl
theorem dX6_take_29 : decode cX6_take 29 = .ok (.aload_n 0, 1) := dchk_at dall_X6_take_26_cl01_0 (k := 16) rfl
theorem dX6_take_30 : decode cX6_take 30 = .ok (.getfield 11, 3) := dchk_at dall_X6_take_26_cl01_0 (k := 17) rfl
theorem dX6_take_33 : decode cX6_take 33 = .ok (.aload_n 0, 1) := dchk_at dall_X6_take_26_cl01_0 (k := 18) rfl
theorem dX6_take_34 : decode cX6_take 34 = .ok (.getfield 15, 3) := dchk_at dall_X6_take_26_cl01_0 (k := 19) rfl
theorem dX6_take_37 : decode cX6_take 37 = .ok (.iload_n 3, 1) := dchk_at dall_X6_take_26_cl01_0 (k := 20) rfl
theorem dX6_take_38 : decode cX6_take 38 = .ok (.i2b, 1) := dchk_at dall_X6_take_26_cl01_0 (k := 21) rfl
theorem dX6_take_39 : decode cX6_take 39 = .ok (.bastore, 1) := dchk_at dall_X6_take_26_cl01_0 (k := 22) rfl
theorem dX6_take_40 : decode cX6_take 40 = .ok (.aload_n 0, 1) := dchk_at dall_X6_take_26_cl01_0 (k := 23) rfl
theorem dX6_take_41 : decode cX6_take 41 = .ok (.dup, 1) := dchk_at dall_X6_take_26_cl01_0 (k := 24) rfl
theorem dX6_take_42 : decode cX6_take 42 = .ok (.getfield 15, 3) := dchk_at dall_X6_take_26_cl01_0 (k := 25) rfl
theorem dX6_take_45 : decode cX6_take 45 = .ok (.iconst 1, 1) := dchk_at dall_X6_take_26_cl01_0 (k := 26) rfl
theorem dX6_take_46 : decode cX6_take 46 = .ok (.iadd, 1) := dchk_at dall_X6_take_26_cl01_0 (k := 27) rfl
theorem dX6_take_47 : decode cX6_take 47 = .ok (.putfield 15, 3) := dchk_at dall_X6_take_26_cl01_0 (k := 28) rfl
theorem dX6_take_0 : decode cX6_take 0 = .ok (.bipush 24, 2) := dchk_at dall_X6_take_26_cl01_0 (k := 29) rfl
theorem dX6_take_2 : decode cX6_take 2 = .ok (.istore_n 2, 1) := dchk_at dall_X6_take_26_cl01_0 (k := 30) rfl
theorem dX6_take_56 : decode cX6_take 56 = .ok (.return_, 1) := dchk_at dall_X6_take_26_cl01_0 (k := 31) rfl
def B_X6_bytesIn_5 (p0 : Int32) (x1 : Int32) (x2 : Int32) : Option ((Int32 × Int32) ⊕ (Int32)) :=
  if x2 < (0 : Int32) then some (.inr x1) else if (ushrF p0 x2) &&& (255 : Int32) = (0 : Int32) then some (.inl (x1, x2 + (-8 : Int32))) else some (.inl (x1 + (1 : Int32), x2 + (-8 : Int32)))
def F_X6_bytesIn (K : Nat) (p0 : Int32) : Option (Int32) :=
  bd1 (lpF (fun u9 : Int32 × Int32 => B_X6_bytesIn_5 p0 u9.1 u9.2) K ((0 : Int32), (24 : Int32))) (fun x1_3 => some x1_3)

def v_f_X6_bytesIn : List Cond := List.cons (.code yX6_bytesIn cX6_bytesIn 3 (some .int)) (HAppend.hAppend (α := List Cond) (β := List Cond) (γ := List Cond) [] [])
theorem gw_f_X6_bytesIn : v_f_X6_bytesIn.all goodWord = true := by decide +kernel
theorem hd_X6_bytesIn : yX6_bytesIn.cls = RX6 ∧ yX6_bytesIn.cls ≠ "java/lang/invoke/MethodHandle" ∧ yX6_bytesIn.cls ≠ "java/lang/invoke/VarHandle" ∧ (parseMethodDescriptor yX6_bytesIn.desc).map (fun d => d.parameters.length) = some 1 := by decide +kernel
set_option maxHeartbeats 4000000 in
set_option maxRecDepth 100000 in
theorem wb_X6_bytesIn_5 {p : Program} (l : Launch) {e : Env} {s : State} {m : MethodId} {below : List Frame} {meth : Method} {c : Code} {Q : State → Prop} (E : EE) (K : Nat) {p0 : Int32} {x1 : Int32} {x2 : Int32} (hx : p.tables.exec = Jvm.exec) (hb : c.code = cX6_bytesIn) (hml : c.maxLocals = 3) (hown : s.vm.findClass RX6 = some m.cls) (hts : ∀ w ∈ v_f_X6_bytesIn, w.before #[Value.int p0] s = true) (hK : va_K E.1 vwCl (TY E) s) (hN : NX s) {xx : (Int32 × Int32) ⊕ (Int32)} (hC : ∀ (x1 : Int32), ∀ (x2 : Int32), xx = .inl (x1, x2) → ∀ (ls : Array Slot), lv_has ls 3 [(0, .int p0), (1, .int x1), (2, .int x2)] → W p l e ({ frames := 0, cells := 0, slots := 0, locals := 0 } : Room) s m #[Value.int p0] below meth c s.heap [] 0 0 Q (F0 m 5 ls [])) (hE : ∀ (x1 : Int32), xx = .inr x1 → ((∀ (ls : Array Slot), lv_has ls 3 [(1, .int x1)] → W p l e ({ frames := 0, cells := 0, slots := 0, locals := 0 } : Room) s m #[Value.int p0] below meth c s.heap [] 0 0 Q (F0 m 28 ls [])))) (hF : B_X6_bytesIn_5 p0 x1 x2 = some xx) (hP : va_P E.1 vwCl [] s.heap) : ∀ (ls : Array Slot), lv_has ls 3 [(0, .int p0), (1, .int x1), (2, .int x2)] → W p l e ({ frames := 0, cells := 0, slots := 0, locals := 0 } : Room) s m #[Value.int p0] below meth c s.heap [] 0 0 Q (F0 m 5 ls []) := by
  unfold B_X6_bytesIn_5 at hF
  replace hP : va_P E.1 vwCl [] s.heap := hP
  intro ls hl
  refine lv_iload_n hx hb dX6_bytesIn_5 rfl (lv_at hl 2 rfl) ?_
  refine lv_if_lt (tgt := 28) hx hb dX6_bytesIn_6 (by decide) (fun c_1 => ?_) (fun c_1 => ?_)
  ·
    replace hF := ip c_1 hF
    cases hF
    exact hE x1 rfl ls (lv_sub hl [1] rfl)
  ·
    replace hF := inn c_1 hF
    refine lv_iload_n hx hb dX6_bytesIn_9 rfl (lv_at hl 0 rfl) ?_
    refine lv_iload_n hx hb dX6_bytesIn_10 rfl (lv_at hl 2 rfl) ?_
    refine lv_iushr (v := (ushrF p0 x2)) hx hb dX6_bytesIn_11 rfl ?_
    refine lv_sipush (v := 255) hx hb dX6_bytesIn_12 (by decide) ?_
    refine lv_iand hx hb dX6_bytesIn_15 ?_
    refine lv_if_eq (tgt := 22) hx hb dX6_bytesIn_16 (by decide) (fun c_2 => ?_) (fun c_2 => ?_)
    ·
      replace hF := ip c_2 hF
      refine lv_iinc (v := x2 + (-8 : Int32)) (lv' := [(2, .int (x2 + (-8 : Int32))), (0, .int p0), (1, .int x1)]) hx hb dX6_bytesIn_22 hl (k := 2) rfl (rfl) (by decide) rfl (fun ls hl => ?_)
      refine lv_goto (tgt := 5) hx hb dX6_bytesIn_25 (by decide) ?_
      cases hF
      exact hC x1 (x2 + (-8 : Int32)) rfl ls (lv_sub hl [1, 2, 0] rfl)
    ·
      replace hF := inn c_2 hF
      refine lv_iinc (v := x1 + (1 : Int32)) (lv' := [(1, .int (x1 + (1 : Int32))), (0, .int p0), (2, .int x2)]) hx hb dX6_bytesIn_19 hl (k := 1) rfl (rfl) (by decide) rfl (fun ls hl => ?_)
      refine lv_iinc (v := x2 + (-8 : Int32)) (lv' := [(2, .int (x2 + (-8 : Int32))), (1, .int (x1 + (1 : Int32))), (0, .int p0)]) hx hb dX6_bytesIn_22 hl (k := 2) rfl (rfl) (by decide) rfl (fun ls hl => ?_)
      refine lv_goto (tgt := 5) hx hb dX6_bytesIn_25 (by decide) ?_
      cases hF
      exact hC (x1 + (1 : Int32)) (x2 + (-8 : Int32)) rfl ls (lv_sub hl [2, 1, 0] rfl)

set_option maxHeartbeats 4000000 in
set_option maxRecDepth 100000 in
theorem lw_X6_bytesIn_5 {p : Program} (l : Launch) {e : Env} {s : State} {m : MethodId} {below : List Frame} {meth : Method} {c : Code} {Q : State → Prop} (E : EE) (K : Nat) {p0 : Int32} (hx : p.tables.exec = Jvm.exec) (hb : c.code = cX6_bytesIn) (hml : c.maxLocals = 3) (hown : s.vm.findClass RX6 = some m.cls) (hts : ∀ w ∈ v_f_X6_bytesIn, w.before #[Value.int p0] s = true) (hK : va_K E.1 vwCl (TY E) s) (hN : NX s) (hP : va_P E.1 vwCl [] s.heap) (j9 : Nat) (x1 : Int32) (x2 : Int32) (x1' : Int32) (hL : lpF (fun u9 : Int32 × Int32 => B_X6_bytesIn_5 p0 u9.1 u9.2) j9 (x1, x2) = some x1') (hX : (∀ (ls : Array Slot), lv_has ls 3 [(1, .int x1')] → W p l e ({ frames := 0, cells := 0, slots := 0, locals := 0 } : Room) s m #[Value.int p0] below meth c s.heap [] 0 0 Q (F0 m 28 ls []))) : ∀ (ls : Array Slot), lv_has ls 3 [(0, .int p0), (1, .int x1), (2, .int x2)] → W p l e ({ frames := 0, cells := 0, slots := 0, locals := 0 } : Room) s m #[Value.int p0] below meth c s.heap [] 0 0 Q (F0 m 5 ls []) := by
  exact lp_rule (P := (fun u9 : Int32 × Int32 => ∀ (ls : Array Slot), lv_has ls 3 [(0, .int p0), (1, .int u9.1), (2, .int u9.2)] → W p l e ({ frames := 0, cells := 0, slots := 0, locals := 0 } : Room) s m #[Value.int p0] below meth c s.heap [] 0 0 Q (F0 m 5 ls []))) (R := (fun r9 : Int32 => (∀ (ls : Array Slot), lv_has ls 3 [(1, .int r9)] → W p l e ({ frames := 0, cells := 0, slots := 0, locals := 0 } : Room) s m #[Value.int p0] below meth c s.heap [] 0 0 Q (F0 m 28 ls [])))) (fun u9 xx hF hC hE => wb_X6_bytesIn_5 l E K (p0 := p0) (x1 := u9.1) (x2 := u9.2) hx hb hml hown hts hK hN (fun x1 x2 q9 => hC _ q9) (fun x1 q9 => hE _ q9) hF hP) j9 (x1, x2) x1' hL hX

set_option maxHeartbeats 4000000 in
set_option maxRecDepth 100000 in
theorem f_X6_bytesIn (l : Launch) (E : EE) (K : Nat) {p0 : Int32} {rr : Int32} (hF : F_X6_bytesIn K p0 = some rr) : Met l yX6_bytesIn v_f_X6_bytesIn (({ frames := 0, cells := 0, slots := 0, locals := 0 } : Room)) (va_Pc [.int p0] (pP E [])) (vp_Si (fun q : Int32 => q = rr)) 0 0 (fun _ => False) := by
  refine Met.ofW (cc := cX6_bytesIn) (maxL := 3) (ret := (some .int)) (by decide) rfl ?_
  intro p e s m args below meth c s₁ B hml hv
  obtain ⟨rfl, ⟨hK, hN⟩, hP⟩ := hv
  have hx := B.exec
  have hb := B.bytes
  have hr := B.returns
  have hts := atoms_spec (ws := v_f_X6_bytesIn) B.pre
  have hown : s.vm.findClass RX6 = some m.cls := own_of hd_X6_bytesIn.1 (findClass_of_methodNamed B.named)
  have hlocks : meth.locks = false := B.notSynchronized
  replace hP : va_P E.1 vwCl [] s.heap := hP
  have hl := lv_entry ([.int p0]) (n := 3) (Nat.le_of_ble_eq_true rfl)
  rw [lg_entry_eq]
  generalize (lg_sl ([.int p0]) ++ List.replicate (3 - (lg_sl ([.int p0])).length) Slot.unset).toArray = ls at hl ⊢
  have hl : lv_has ls 3 [(0, .int p0)] := hl
  obtain ⟨Q, hQ⟩ : ∃ Q : State → Prop, Q = MQ below (vp_Si (fun q : Int32 => q = rr)) #[Value.int p0] s 0 0 (fun _ => False) := ⟨_, rfl⟩
  rw [← hQ]
  change W p l e ({ frames := 0, cells := 0, slots := 0, locals := 0 } : Room) s m #[Value.int p0] below meth c s.heap [] 0 0 Q (F0 m 0 ls [])
  unfold F_X6_bytesIn at hF
  refine lv_iconst (v := 0) hx hb dX6_bytesIn_0 (by decide) ?_
  refine lv_istore_n (lv' := [(1, .int (0 : Int32)), (0, .int p0)]) hx hb dX6_bytesIn_1 rfl hl (by decide) rfl (fun ls hl => ?_)
  refine lv_bipush (v := 24) hx hb dX6_bytesIn_2 (by decide) ?_
  refine lv_istore_n (lv' := [(2, .int (24 : Int32)), (1, .int (0 : Int32)), (0, .int p0)]) hx hb dX6_bytesIn_4 rfl hl (by decide) rfl (fun ls hl => ?_)
  replace hF := bd1_s hF
  obtain ⟨x1_3, hL_4, hF⟩ := hF
  refine lw_X6_bytesIn_5 l E K (p0 := p0) hx hb hml hown hts hK hN hP K (0 : Int32) (24 : Int32) x1_3 hL_4 ?_ ls (lv_sub hl [2, 1, 0] rfl)
  ·
    intro ls hl
    refine lv_iload_n hx hb dX6_bytesIn_28 rfl (lv_at hl 0 rfl) ?_
    rw [hQ]
    obtain e9_0 := inj1 hF
    exact W.iret (v := x1_3) hx hb hr (fun tt ht hW => ⟨_, rfl, e9_0, ht⟩) (fun _ h => by cases h) dX6_bytesIn_29

def F_X6_cutTo (p1 : Int32) (c_length : Int32) : Option (Int32 × Int32) :=
  if p1 < (0 : Int32) then some ((0 : Int32), c_length) else if p1 ≤ c_length then some ((1 : Int32), p1) else some ((0 : Int32), c_length)
abbrev w_X6_cutTo (E : EE) (a_ a_bytes : Nat) (c_length : Int32) : va_W := [(a_, .inr (7, [.ref a_bytes, .int c_length]))]
def v_f_X6_cutTo : List Cond := List.cons (.code yX6_cutTo cX6_cutTo 2 (some .boolean)) (HAppend.hAppend (α := List Cond) (β := List Cond) (γ := List Cond) [.fieldLink RX6 15 "HushWatch$Tape" "length" "I"] (HAppend.hAppend (α := List Cond) (β := List Cond) (γ := List Cond) wsX60 []))
theorem gw_f_X6_cutTo : v_f_X6_cutTo.all goodWord = true := by decide +kernel
theorem i_f_X6_cutTo_X6 : ∀ w ∈ wsX60, w ∈ v_f_X6_cutTo := fun _ h => List.mem_cons_of_mem _ (List.mem_append_right _ (List.mem_append_left _ h))
theorem hd_X6_cutTo : yX6_cutTo.cls = RX6 ∧ yX6_cutTo.cls ≠ "java/lang/invoke/MethodHandle" ∧ yX6_cutTo.cls ≠ "java/lang/invoke/VarHandle" ∧ (parseMethodDescriptor yX6_cutTo.desc).map (fun d => d.parameters.length) = some 1 := by decide +kernel
set_option maxHeartbeats 4000000 in
set_option maxRecDepth 100000 in
theorem f_X6_cutTo (l : Launch) (E : EE) (sz : Nat) {a_ a_bytes : Nat} {p1 : Int32} {c_length : Int32} {rr : Int32} {n_length : Int32} (hF : F_X6_cutTo p1 c_length = some (rr, n_length)) : Met l yX6_cutTo v_f_X6_cutTo (({ frames := 0, cells := 0, slots := 0, locals := 0 } : Room)) (va_Pc [.ref a_, .int p1] (pW E sz (w_X6_cutTo E a_ a_bytes c_length))) (va_Qi (fun (q : Int32) (_u : Unit) => q = rr ∧ (q = 0 ∨ q = 1)) (fun (_u : Unit) tt => va_P E.1 vwCl (w_X6_cutTo E a_ a_bytes n_length) tt.heap ∧ va_D (va_A (w_X6_cutTo E a_ a_bytes c_length) sz) (w_X6_cutTo E a_ a_bytes n_length)) (va_A (w_X6_cutTo E a_ a_bytes c_length) sz)) 0 0 (va_A (w_X6_cutTo E a_ a_bytes c_length) sz) := by
  refine Met.ofW (cc := cX6_cutTo) (maxL := 2) (ret := (some .boolean)) (by decide) rfl ?_
  intro p e s m args below meth c s₁ B hml hv
  obtain ⟨rfl, hsz, ⟨hK, hN⟩, hP, hD0⟩ := hv
  have hx := B.exec
  have hb := B.bytes
  have hr := B.returns
  have hts := atoms_spec (ws := v_f_X6_cutTo) B.pre
  have hown : s.vm.findClass RX6 = some m.cls := own_of hd_X6_cutTo.1 (findClass_of_methodNamed B.named)
  have hlocks : meth.locks = false := B.notSynchronized
  subst hsz
  have hD := hD0.self (sz := s.heap.size)
  generalize hAe : va_A (w_X6_cutTo E a_ a_bytes c_length) s.heap.size = A at hD ⊢
  have hA : ∀ q : Nat, s.heap.size ≤ q → A q := fun q h => by rw [← hAe]; exact Or.inr h
  have hS : va_S A s.heap s.heap [] := va_S.rf
  have hl := lv_entry ([.ref a_, .int p1]) (n := 2) (Nat.le_of_ble_eq_true rfl)
  rw [lg_entry_eq]
  generalize (lg_sl ([.ref a_, .int p1]) ++ List.replicate (2 - (lg_sl ([.ref a_, .int p1])).length) Slot.unset).toArray = ls at hl ⊢
  have hl : lv_has ls 2 [(0, .ref a_), (1, .int p1)] := hl
  obtain ⟨Q, hQ⟩ : ∃ Q : State → Prop, Q = MQ below (va_Qi (fun (q : Int32) (_u : Unit) => q = rr ∧ (q = 0 ∨ q = 1)) (fun (_u : Unit) tt => va_P E.1 vwCl (w_X6_cutTo E a_ a_bytes n_length) tt.heap ∧ va_D A (w_X6_cutTo E a_ a_bytes n_length)) A) #[Value.ref a_, Value.int p1] s 0 0 A := ⟨_, rfl⟩
  rw [← hQ]
  change W p l e ({ frames := 0, cells := 0, slots := 0, locals := 0 } : Room) s m #[Value.ref a_, Value.int p1] below meth c s.heap [] 0 0 Q (F0 m 0 ls [])
  suffices hh9 : ∀ (H : Heap) (locs : List Loc), va_P E.1 vwCl (w_X6_cutTo E a_ a_bytes c_length) H → va_D A (w_X6_cutTo E a_ a_bytes c_length) → va_S A s.heap H locs → W p l e ({ frames := 0, cells := 0, slots := 0, locals := 0 } : Room) s m #[Value.ref a_, Value.int p1] below meth c H locs 0 0 Q (F0 m 0 ls []) from hh9 s.heap [] hP hD hS
  clear hP hD hS
  intro H locs hP hD hS
  replace hP : va_P E.1 vwCl [(a_, .inr (7, [.ref a_bytes, .int c_length]))] H := hP
  replace hD : va_D A [(a_, .inr (7, [.ref a_bytes, .int c_length]))] := hD
  unfold F_X6_cutTo at hF
  refine lv_iload_n hx hb dX6_cutTo_0 rfl (lv_at hl 1 rfl) ?_
  refine lv_if_lt (tgt := 12) hx hb dX6_cutTo_1 (by decide) (fun c_1 => ?_) (fun c_1 => ?_)
  ·
    replace hF := ip c_1 hF
    refine lv_iconst (v := 0) hx hb dX6_cutTo_12 (by decide) ?_
    rw [hQ]
    have h9 := fin9 (P := fun u9 : Int32 × Int32 => (0 : Int32) = u9.1 ∧ va_P E.1 vwCl (w_X6_cutTo E a_ a_bytes u9.2) H ∧ va_D A (w_X6_cutTo E a_ a_bytes u9.2)) hF ⟨rfl, hP, hD⟩
    obtain ⟨e9_0, hP9, hD9⟩ := h9
    exact W.zret (v := (0 : Int32)) hx hb hr rfl (fun tt ht hW => ⟨⟨_, (), rfl, ⟨e9_0, Or.inl rfl⟩, ht ▸ hP9, hD9⟩, hS.F ht⟩) hS.2.2 dX6_cutTo_13
  ·
    replace hF := inn c_1 hF
    refine lv_iload_n hx hb dX6_cutTo_4 rfl (lv_at hl 1 rfl) ?_
    refine lv_aload_n hx hb dX6_cutTo_5 rfl (lv_at hl 0 rfl) ?_
    refine gt_X6_1 (v := .int c_length) hx hb hts i_f_X6_cutTo_X6 hown hK hP 0 rfl (hts (.fieldLink RX6 15 "HushWatch$Tape" "length" "I") (List.mem_of_getElem? (i := 1) rfl)) rfl dX6_cutTo_6 ?_
    refine lv_icmp_le (tgt := 14) hx hb dX6_cutTo_9 (by decide) (fun c_2 => ?_) (fun c_2 => ?_)
    ·
      replace hF := ip c_2 hF
      refine lv_aload_n hx hb dX6_cutTo_14 rfl (lv_at hl 0 rfl) ?_
      refine lv_iload_n hx hb dX6_cutTo_15 rfl (lv_at hl 1 rfl) ?_
      refine pt_X6_1 (v := .int p1) hx hb hts i_f_X6_cutTo_X6 hown hK hP hD hS 0 rfl (hts (.fieldLink RX6 15 "HushWatch$Tape" "length" "I") (List.mem_of_getElem? (i := 1) rfl)) rfl rfl (Nat.le_of_ble_eq_true rfl) dX6_cutTo_16 (fun H locs hP hD hS => ?_)
      replace hP : va_P E.1 vwCl [(a_, .inr (7, [.ref a_bytes, .int p1]))] H := hP
      replace hD : va_D A [(a_, .inr (7, [.ref a_bytes, .int p1]))] := hD
      refine lv_iconst (v := 1) hx hb dX6_cutTo_19 (by decide) ?_
      rw [hQ]
      have h9 := fin9 (P := fun u9 : Int32 × Int32 => (1 : Int32) = u9.1 ∧ va_P E.1 vwCl (w_X6_cutTo E a_ a_bytes u9.2) H ∧ va_D A (w_X6_cutTo E a_ a_bytes u9.2)) hF ⟨rfl, hP, hD⟩
      obtain ⟨e9_0, hP9, hD9⟩ := h9
      exact W.zret (v := (1 : Int32)) hx hb hr rfl (fun tt ht hW => ⟨⟨_, (), rfl, ⟨e9_0, Or.inr rfl⟩, ht ▸ hP9, hD9⟩, hS.F ht⟩) hS.2.2 dX6_cutTo_20
    ·
      replace hF := inn c_2 hF
      refine lv_iconst (v := 0) hx hb dX6_cutTo_12 (by decide) ?_
      rw [hQ]
      have h9 := fin9 (P := fun u9 : Int32 × Int32 => (0 : Int32) = u9.1 ∧ va_P E.1 vwCl (w_X6_cutTo E a_ a_bytes u9.2) H ∧ va_D A (w_X6_cutTo E a_ a_bytes u9.2)) hF ⟨rfl, hP, hD⟩
      obtain ⟨e9_0, hP9, hD9⟩ := h9
      exact W.zret (v := (0 : Int32)) hx hb hr rfl (fun tt ht hW => ⟨⟨_, (), rfl, ⟨e9_0, Or.inl rfl⟩, ht ▸ hP9, hD9⟩, hS.F ht⟩) hS.2.2 dX6_cutTo_13

def F_X6_signAt (p1 : Int32) (c_bytes : Nat → Int32) (c_length : Int32) : Option (Int32) :=
  if p1 < (0 : Int32) then some (-1 : Int32) else if c_length ≤ p1 then some (-1 : Int32) else if (320 : Int32) ≤ p1 then some (-1 : Int32) else ixF p1 320 (some ((c_bytes p1.toNatClampNeg) &&& (255 : Int32)))
abbrev w_X6_signAt (E : EE) (a_ a_bytes : Nat) (c_length : Int32) (c_bytes : Nat → Int32) : va_W := [(a_, .inr (7, [.ref a_bytes, .int c_length])), (a_bytes, .inl (E.2.2.1, 320, .inl c_bytes))]
def v_f_X6_signAt : List Cond := List.cons (.code yX6_signAt cX6_signAt 2 (some .int)) (HAppend.hAppend (α := List Cond) (β := List Cond) (γ := List Cond) [.fieldLink RX6 15 "HushWatch$Tape" "length" "I", .fieldLink RX6 11 "HushWatch$Tape" "bytes" "[B"] (HAppend.hAppend (α := List Cond) (β := List Cond) (γ := List Cond) wsX60 []))
theorem gw_f_X6_signAt : v_f_X6_signAt.all goodWord = true := by decide +kernel
theorem i_f_X6_signAt_X6 : ∀ w ∈ wsX60, w ∈ v_f_X6_signAt := fun _ h => List.mem_cons_of_mem _ (List.mem_append_right _ (List.mem_append_left _ h))
theorem hd_X6_signAt : yX6_signAt.cls = RX6 ∧ yX6_signAt.cls ≠ "java/lang/invoke/MethodHandle" ∧ yX6_signAt.cls ≠ "java/lang/invoke/VarHandle" ∧ (parseMethodDescriptor yX6_signAt.desc).map (fun d => d.parameters.length) = some 1 := by decide +kernel
set_option maxHeartbeats 4000000 in
set_option maxRecDepth 100000 in
theorem f_X6_signAt (l : Launch) (E : EE) {a_ a_bytes : Nat} {p1 : Int32} {c_length : Int32} {c_bytes : Nat → Int32} {rr : Int32} (hF : F_X6_signAt p1 c_bytes c_length = some rr) : Met l yX6_signAt v_f_X6_signAt (({ frames := 0, cells := 0, slots := 0, locals := 0 } : Room)) (va_Pc [.ref a_, .int p1] (pP E (w_X6_signAt E a_ a_bytes c_length c_bytes))) (vp_Si (fun q : Int32 => q = rr)) 0 0 (fun _ => False) := by
  refine Met.ofW (cc := cX6_signAt) (maxL := 2) (ret := (some .int)) (by decide) rfl ?_
  intro p e s m args below meth c s₁ B hml hv
  obtain ⟨rfl, ⟨hK, hN⟩, hP⟩ := hv
  have hx := B.exec
  have hb := B.bytes
  have hr := B.returns
  have hts := atoms_spec (ws := v_f_X6_signAt) B.pre
  have hown : s.vm.findClass RX6 = some m.cls := own_of hd_X6_signAt.1 (findClass_of_methodNamed B.named)
  have hlocks : meth.locks = false := B.notSynchronized
  replace hP : va_P E.1 vwCl [(a_, .inr (7, [.ref a_bytes, .int c_length])), (a_bytes, .inl (E.2.2.1, 320, .inl c_bytes))] s.heap := hP
  have hl := lv_entry ([.ref a_, .int p1]) (n := 2) (Nat.le_of_ble_eq_true rfl)
  rw [lg_entry_eq]
  generalize (lg_sl ([.ref a_, .int p1]) ++ List.replicate (2 - (lg_sl ([.ref a_, .int p1])).length) Slot.unset).toArray = ls at hl ⊢
  have hl : lv_has ls 2 [(0, .ref a_), (1, .int p1)] := hl
  obtain ⟨Q, hQ⟩ : ∃ Q : State → Prop, Q = MQ below (vp_Si (fun q : Int32 => q = rr)) #[Value.ref a_, Value.int p1] s 0 0 (fun _ => False) := ⟨_, rfl⟩
  rw [← hQ]
  change W p l e ({ frames := 0, cells := 0, slots := 0, locals := 0 } : Room) s m #[Value.ref a_, Value.int p1] below meth c s.heap [] 0 0 Q (F0 m 0 ls [])
  unfold F_X6_signAt at hF
  refine lv_iload_n hx hb dX6_signAt_0 rfl (lv_at hl 1 rfl) ?_
  refine lv_if_lt (tgt := 32) hx hb dX6_signAt_1 (by decide) (fun c_1 => ?_) (fun c_1 => ?_)
  ·
    replace hF := ip c_1 hF
    refine lv_iconst (v := -1) hx hb dX6_signAt_32 (by decide) ?_
    rw [hQ]
    obtain e9_0 := inj1 hF
    exact W.iret (v := (-1 : Int32)) hx hb hr (fun tt ht hW => ⟨_, rfl, e9_0, ht⟩) (fun _ h => by cases h) dX6_signAt_33
  ·
    replace hF := inn c_1 hF
    refine lv_iload_n hx hb dX6_signAt_4 rfl (lv_at hl 1 rfl) ?_
    refine lv_aload_n hx hb dX6_signAt_5 rfl (lv_at hl 0 rfl) ?_
    refine gt_X6_1 (v := .int c_length) hx hb hts i_f_X6_signAt_X6 hown hK hP 0 rfl (hts (.fieldLink RX6 15 "HushWatch$Tape" "length" "I") (List.mem_of_getElem? (i := 1) rfl)) rfl dX6_signAt_6 ?_
    refine lv_icmp_ge (tgt := 32) hx hb dX6_signAt_9 (by decide) (fun c_2 => ?_) (fun c_2 => ?_)
    ·
      replace hF := ip c_2 hF
      refine lv_iconst (v := -1) hx hb dX6_signAt_32 (by decide) ?_
      rw [hQ]
      obtain e9_0 := inj1 hF
      exact W.iret (v := (-1 : Int32)) hx hb hr (fun tt ht hW => ⟨_, rfl, e9_0, ht⟩) (fun _ h => by cases h) dX6_signAt_33
    ·
      replace hF := inn c_2 hF
      refine lv_iload_n hx hb dX6_signAt_12 rfl (lv_at hl 1 rfl) ?_
      refine lv_sipush (v := 320) hx hb dX6_signAt_13 (by decide) ?_
      refine lv_icmp_ge (tgt := 32) hx hb dX6_signAt_16 (by decide) (fun c_3 => ?_) (fun c_3 => ?_)
      ·
        replace hF := ip c_3 hF
        refine lv_iconst (v := -1) hx hb dX6_signAt_32 (by decide) ?_
        rw [hQ]
        obtain e9_0 := inj1 hF
        exact W.iret (v := (-1 : Int32)) hx hb hr (fun tt ht hW => ⟨_, rfl, e9_0, ht⟩) (fun _ h => by cases h) dX6_signAt_33
      ·
        replace hF := inn c_3 hF
        refine lv_aload_n hx hb dX6_signAt_19 rfl (lv_at hl 0 rfl) ?_
        refine gt_X6_0 (v := .ref a_bytes) hx hb hts i_f_X6_signAt_X6 hown hK hP 0 rfl (hts (.fieldLink RX6 11 "HushWatch$Tape" "bytes" "[B") (List.mem_of_getElem? (i := 2) rfl)) rfl dX6_signAt_20 ?_
        refine lv_iload_n hx hb dX6_signAt_23 rfl (lv_at hl 1 rfl) ?_
        replace hF := ix_s hF
        obtain ⟨hi_4, hF⟩ := hF
        refine va_bald hx hb hK hP 1 1 rfl rfl hi_4 dX6_signAt_24 ?_
        refine lv_sipush (v := 255) hx hb dX6_signAt_25 (by decide) ?_
        refine lv_iand hx hb dX6_signAt_28 ?_
        refine lv_goto (tgt := 33) hx hb dX6_signAt_29 (by decide) ?_
        rw [hQ]
        obtain e9_0 := inj1 hF
        exact W.iret (v := (c_bytes p1.toNatClampNeg) &&& (255 : Int32)) hx hb hr (fun tt ht hW => ⟨_, rfl, e9_0, ht⟩) (fun _ h => by cases h) dX6_signAt_33

def B_X6_take_3 (p1 : Int32) (x2 : Int32) (c_bytes : Nat → Int32) (c_length : Int32) : Option ((Int32 × (Nat → Int32) × Int32) ⊕ ((Nat → Int32) × Int32)) :=
  if x2 < (0 : Int32) then some (.inr (c_bytes, c_length)) else if (ushrF p1 x2) &&& (255 : Int32) = (0 : Int32) then some (.inl (x2 + (-8 : Int32), c_bytes, c_length)) else if (320 : Int32) ≤ c_length then some (.inl (x2 + (-8 : Int32), c_bytes, c_length)) else ixF c_length 320 (nmF (upd c_bytes c_length.toNatClampNeg (vp_nar .byte (((ushrF p1 x2) &&& (255 : Int32)).toInt8.toInt32))) (fun f_5 => some (.inl (x2 + (-8 : Int32), f_5, c_length + (1 : Int32)))))
def F_X6_take (K : Nat) (p1 : Int32) (c_bytes : Nat → Int32) (c_length : Int32) : Option ((Nat → Int32) × Int32) :=
  bd2 (lpF (fun u9 : Int32 × (Nat → Int32) × Int32 => B_X6_take_3 p1 u9.1 u9.2.1 u9.2.2) K ((24 : Int32), c_bytes, c_length)) (fun c_bytes_6 c_length_7 => some (c_bytes_6, c_length_7))
abbrev w_X6_take (E : EE) (a_ a_bytes : Nat) (c_length : Int32) (c_bytes : Nat → Int32) : va_W := [(a_, .inr (7, [.ref a_bytes, .int c_length])), (a_bytes, .inl (E.2.2.1, 320, .inl c_bytes))]
def v_f_X6_take : List Cond := List.cons (.code yX6_take cX6_take 4 none) (HAppend.hAppend (α := List Cond) (β := List Cond) (γ := List Cond) [.fieldLink RX6 15 "HushWatch$Tape" "length" "I", .fieldLink RX6 11 "HushWatch$Tape" "bytes" "[B"] (HAppend.hAppend (α := List Cond) (β := List Cond) (γ := List Cond) wsX60 []))
theorem gw_f_X6_take : v_f_X6_take.all goodWord = true := by decide +kernel
theorem i_f_X6_take_X6 : ∀ w ∈ wsX60, w ∈ v_f_X6_take := fun _ h => List.mem_cons_of_mem _ (List.mem_append_right _ (List.mem_append_left _ h))
theorem hd_X6_take : yX6_take.cls = RX6 ∧ yX6_take.cls ≠ "java/lang/invoke/MethodHandle" ∧ yX6_take.cls ≠ "java/lang/invoke/VarHandle" ∧ (parseMethodDescriptor yX6_take.desc).map (fun d => d.parameters.length) = some 1 := by decide +kernel
set_option maxHeartbeats 4000000 in
set_option maxRecDepth 100000 in
theorem wb_X6_take_3 {p : Program} (l : Launch) {e : Env} {s : State} {m : MethodId} {below : List Frame} {meth : Method} {c : Code} {Q : State → Prop} (E : EE) (K : Nat) {a_ a_bytes : Nat} {p1 : Int32} {x2 : Int32} {c_bytes : Nat → Int32} {c_length : Int32} (hx : p.tables.exec = Jvm.exec) (hb : c.code = cX6_take) (hml : c.maxLocals = 4) (hown : s.vm.findClass RX6 = some m.cls) (hts : ∀ w ∈ v_f_X6_take, w.before #[Value.ref a_, Value.int p1] s = true) (hK : va_K E.1 vwCl (TY E) s) (hN : NX s) {A : Nat → Prop} (hA : ∀ q : Nat, s.heap.size ≤ q → A q) {xx : (Int32 × (Nat → Int32) × Int32) ⊕ ((Nat → Int32) × Int32)} (hC : ∀ (x2 : Int32), ∀ (c_bytes : Nat → Int32), ∀ (c_length : Int32), xx = .inl (x2, c_bytes, c_length) → ∀ (H : Heap) (locs : List Loc) (ls : Array Slot), va_P E.1 vwCl (w_X6_take E a_ a_bytes c_length c_bytes) H → va_D A (w_X6_take E a_ a_bytes c_length c_bytes) → va_S A s.heap H locs → lv_has ls 4 [(0, .ref a_), (1, .int p1), (2, .int x2)] → W p l e ({ frames := 0, cells := 0, slots := 0, locals := 0 } : Room) s m #[Value.ref a_, Value.int p1] below meth c H locs 0 0 Q (F0 m 3 ls [])) (hE : ∀ (c_bytes : Nat → Int32), ∀ (c_length : Int32), xx = .inr (c_bytes, c_length) → ((∀ (H : Heap) (locs : List Loc) (ls : Array Slot), va_P E.1 vwCl (w_X6_take E a_ a_bytes c_length c_bytes) H → va_D A (w_X6_take E a_ a_bytes c_length c_bytes) → va_S A s.heap H locs → lv_has ls 4 [] → W p l e ({ frames := 0, cells := 0, slots := 0, locals := 0 } : Room) s m #[Value.ref a_, Value.int p1] below meth c H locs 0 0 Q (F0 m 56 ls [])))) (hF : B_X6_take_3 p1 x2 c_bytes c_length = some xx) : ∀ (H : Heap) (locs : List Loc) (ls : Array Slot), va_P E.1 vwCl (w_X6_take E a_ a_bytes c_length c_bytes) H → va_D A (w_X6_take E a_ a_bytes c_length c_bytes) → va_S A s.heap H locs → lv_has ls 4 [(0, .ref a_), (1, .int p1), (2, .int x2)] → W p l e ({ frames := 0, cells := 0, slots := 0, locals := 0 } : Room) s m #[Value.ref a_, Value.int p1] below meth c H locs 0 0 Q (F0 m 3 ls []) := by
  unfold B_X6_take_3 at hF
  intro H locs ls hP hD hS hl
  replace hP : va_P E.1 vwCl [(a_, .inr (7, [.ref a_bytes, .int c_length])), (a_bytes, .inl (E.2.2.1, 320, .inl c_bytes))] H := hP
  replace hD : va_D A [(a_, .inr (7, [.ref a_bytes, .int c_length])), (a_bytes, .inl (E.2.2.1, 320, .inl c_bytes))] := hD
  refine lv_iload_n hx hb dX6_take_3 rfl (lv_at hl 2 rfl) ?_
  refine lv_if_lt (tgt := 56) hx hb dX6_take_4 (by decide) (fun c_1 => ?_) (fun c_1 => ?_)
  ·
    replace hF := ip c_1 hF
    cases hF
    exact hE c_bytes c_length rfl H locs ls (hP.sub [0, 1] rfl) (hD.sub [0, 1] (by decide) rfl) hS (lv_sub hl [] rfl)
  ·
    replace hF := inn c_1 hF
    refine lv_iload_n hx hb dX6_take_7 rfl (lv_at hl 1 rfl) ?_
    refine lv_iload_n hx hb dX6_take_8 rfl (lv_at hl 2 rfl) ?_
    refine lv_iushr (v := (ushrF p1 x2)) hx hb dX6_take_9 rfl ?_
    refine lv_sipush (v := 255) hx hb dX6_take_10 (by decide) ?_
    refine lv_iand hx hb dX6_take_13 ?_
    refine lv_istore_n (lv' := [(3, .int ((ushrF p1 x2) &&& (255 : Int32))), (0, .ref a_), (1, .int p1), (2, .int x2)]) hx hb dX6_take_14 rfl hl (by decide) rfl (fun ls hl => ?_)
    refine lv_iload_n hx hb dX6_take_15 rfl (lv_at hl 0 rfl) ?_
    refine lv_if_eq (tgt := 50) hx hb dX6_take_16 (by decide) (fun c_2 => ?_) (fun c_2 => ?_)
    ·
      replace hF := ip c_2 hF
      refine lv_iinc (v := x2 + (-8 : Int32)) (lv' := [(2, .int (x2 + (-8 : Int32))), (3, .int ((ushrF p1 x2) &&& (255 : Int32))), (0, .ref a_), (1, .int p1)]) hx hb dX6_take_50 hl (k := 3) rfl (rfl) (by decide) rfl (fun ls hl => ?_)
      refine lv_goto (tgt := 3) hx hb dX6_take_53 (by decide) ?_
      cases hF
      exact hC (x2 + (-8 : Int32)) c_bytes c_length rfl H locs ls (hP.sub [0, 1] rfl) (hD.sub [0, 1] (by decide) rfl) hS (lv_sub hl [2, 3, 0] rfl)
    ·
      replace hF := inn c_2 hF
      refine lv_aload_n hx hb dX6_take_19 rfl (lv_at hl 1 rfl) ?_
      refine gt_X6_1 (v := .int c_length) hx hb hts i_f_X6_take_X6 hown hK hP 0 rfl (hts (.fieldLink RX6 15 "HushWatch$Tape" "length" "I") (List.mem_of_getElem? (i := 1) rfl)) rfl dX6_take_20 ?_
      refine lv_sipush (v := 320) hx hb dX6_take_23 (by decide) ?_
      refine lv_icmp_ge (tgt := 50) hx hb dX6_take_26 (by decide) (fun c_3 => ?_) (fun c_3 => ?_)
      ·
        replace hF := ip c_3 hF
        refine lv_iinc (v := x2 + (-8 : Int32)) (lv' := [(2, .int (x2 + (-8 : Int32))), (3, .int ((ushrF p1 x2) &&& (255 : Int32))), (0, .ref a_), (1, .int p1)]) hx hb dX6_take_50 hl (k := 3) rfl (rfl) (by decide) rfl (fun ls hl => ?_)
        refine lv_goto (tgt := 3) hx hb dX6_take_53 (by decide) ?_
        cases hF
        exact hC (x2 + (-8 : Int32)) c_bytes c_length rfl H locs ls (hP.sub [0, 1] rfl) (hD.sub [0, 1] (by decide) rfl) hS (lv_sub hl [2, 3, 0] rfl)
      ·
        replace hF := inn c_3 hF
        refine lv_aload_n hx hb dX6_take_29 rfl (lv_at hl 1 rfl) ?_
        refine gt_X6_0 (v := .ref a_bytes) hx hb hts i_f_X6_take_X6 hown hK hP 0 rfl (hts (.fieldLink RX6 11 "HushWatch$Tape" "bytes" "[B") (List.mem_of_getElem? (i := 2) rfl)) rfl dX6_take_30 ?_
        refine lv_aload_n hx hb dX6_take_33 rfl (lv_at hl 1 rfl) ?_
        refine gt_X6_1 (v := .int c_length) hx hb hts i_f_X6_take_X6 hown hK hP 0 rfl (hts (.fieldLink RX6 15 "HushWatch$Tape" "length" "I") (List.mem_of_getElem? (i := 1) rfl)) rfl dX6_take_34 ?_
        refine lv_iload_n hx hb dX6_take_37 rfl (lv_at hl 0 rfl) ?_
        refine lv_i2b (v := ((ushrF p1 x2) &&& (255 : Int32)).toInt8.toInt32) hx hb dX6_take_38 rfl ?_
        replace hF := ix_s hF
        obtain ⟨hi_4, hF⟩ := hF
        refine va_bast hx hb hK hP hD hS 1 1 rfl rfl hi_4 dX6_take_39 (fun H locs hP hD hS => ?_)
        replace hP : va_P E.1 vwCl [(a_, .inr (7, [.ref a_bytes, .int c_length])), (a_bytes, .inl (E.2.2.1, 320, .inl (upd c_bytes c_length.toNatClampNeg (vp_nar .byte (((ushrF p1 x2) &&& (255 : Int32)).toInt8.toInt32)))))] H := hP
        replace hD : va_D A [(a_, .inr (7, [.ref a_bytes, .int c_length])), (a_bytes, .inl (E.2.2.1, 320, .inl (upd c_bytes c_length.toNatClampNeg (vp_nar .byte (((ushrF p1 x2) &&& (255 : Int32)).toInt8.toInt32)))))] := hD
        replace hF := nm_s hF
        obtain ⟨f_5, hf_5, hF⟩ := hF
        rw [← hf_5] at hP hD
        refine lv_aload_n hx hb dX6_take_40 rfl (lv_at hl 1 rfl) ?_
        refine lv_dup hx hb dX6_take_41 rfl ?_
        refine gt_X6_1 (v := .int c_length) hx hb hts i_f_X6_take_X6 hown hK hP 0 rfl (hts (.fieldLink RX6 15 "HushWatch$Tape" "length" "I") (List.mem_of_getElem? (i := 1) rfl)) rfl dX6_take_42 ?_
        refine lv_iconst (v := 1) hx hb dX6_take_45 (by decide) ?_
        refine lv_iadd hx hb dX6_take_46 ?_
        refine pt_X6_1 (v := .int (c_length + (1 : Int32))) hx hb hts i_f_X6_take_X6 hown hK hP hD hS 0 rfl (hts (.fieldLink RX6 15 "HushWatch$Tape" "length" "I") (List.mem_of_getElem? (i := 1) rfl)) rfl rfl (Nat.le_of_ble_eq_true rfl) dX6_take_47 (fun H locs hP hD hS => ?_)
        replace hP : va_P E.1 vwCl [(a_, .inr (7, [.ref a_bytes, .int (c_length + (1 : Int32))])), (a_bytes, .inl (E.2.2.1, 320, .inl f_5))] H := hP
        replace hD : va_D A [(a_, .inr (7, [.ref a_bytes, .int (c_length + (1 : Int32))])), (a_bytes, .inl (E.2.2.1, 320, .inl f_5))] := hD
        refine lv_iinc (v := x2 + (-8 : Int32)) (lv' := [(2, .int (x2 + (-8 : Int32))), (3, .int ((ushrF p1 x2) &&& (255 : Int32))), (0, .ref a_), (1, .int p1)]) hx hb dX6_take_50 hl (k := 3) rfl (rfl) (by decide) rfl (fun ls hl => ?_)
        refine lv_goto (tgt := 3) hx hb dX6_take_53 (by decide) ?_
        cases hF
        exact hC (x2 + (-8 : Int32)) f_5 (c_length + (1 : Int32)) rfl H locs ls (hP.sub [0, 1] rfl) (hD.sub [0, 1] (by decide) rfl) hS (lv_sub hl [2, 3, 0] rfl)

set_option maxHeartbeats 4000000 in
set_option maxRecDepth 100000 in
theorem lw_X6_take_3 {p : Program} (l : Launch) {e : Env} {s : State} {m : MethodId} {below : List Frame} {meth : Method} {c : Code} {Q : State → Prop} (E : EE) (K : Nat) {a_ a_bytes : Nat} {p1 : Int32} (hx : p.tables.exec = Jvm.exec) (hb : c.code = cX6_take) (hml : c.maxLocals = 4) (hown : s.vm.findClass RX6 = some m.cls) (hts : ∀ w ∈ v_f_X6_take, w.before #[Value.ref a_, Value.int p1] s = true) (hK : va_K E.1 vwCl (TY E) s) (hN : NX s) {A : Nat → Prop} (hA : ∀ q : Nat, s.heap.size ≤ q → A q) (j9 : Nat) (x2 : Int32) (c_bytes : Nat → Int32) (c_length : Int32) (c_bytes' : Nat → Int32) (c_length' : Int32) (hL : lpF (fun u9 : Int32 × (Nat → Int32) × Int32 => B_X6_take_3 p1 u9.1 u9.2.1 u9.2.2) j9 (x2, c_bytes, c_length) = some (c_bytes', c_length')) (hX : (∀ (H : Heap) (locs : List Loc) (ls : Array Slot), va_P E.1 vwCl (w_X6_take E a_ a_bytes c_length' c_bytes') H → va_D A (w_X6_take E a_ a_bytes c_length' c_bytes') → va_S A s.heap H locs → lv_has ls 4 [] → W p l e ({ frames := 0, cells := 0, slots := 0, locals := 0 } : Room) s m #[Value.ref a_, Value.int p1] below meth c H locs 0 0 Q (F0 m 56 ls []))) : ∀ (H : Heap) (locs : List Loc) (ls : Array Slot), va_P E.1 vwCl (w_X6_take E a_ a_bytes c_length c_bytes) H → va_D A (w_X6_take E a_ a_bytes c_length c_bytes) → va_S A s.heap H locs → lv_has ls 4 [(0, .ref a_), (1, .int p1), (2, .int x2)] → W p l e ({ frames := 0, cells := 0, slots := 0, locals := 0 } : Room) s m #[Value.ref a_, Value.int p1] below meth c H locs 0 0 Q (F0 m 3 ls []) := by
  exact lp_rule (P := (fun u9 : Int32 × (Nat → Int32) × Int32 => ∀ (H : Heap) (locs : List Loc) (ls : Array Slot), va_P E.1 vwCl (w_X6_take E a_ a_bytes u9.2.2 u9.2.1) H → va_D A (w_X6_take E a_ a_bytes u9.2.2 u9.2.1) → va_S A s.heap H locs → lv_has ls 4 [(0, .ref a_), (1, .int p1), (2, .int u9.1)] → W p l e ({ frames := 0, cells := 0, slots := 0, locals := 0 } : Room) s m #[Value.ref a_, Value.int p1] below meth c H locs 0 0 Q (F0 m 3 ls []))) (R := (fun r9 : (Nat → Int32) × Int32 => (∀ (H : Heap) (locs : List Loc) (ls : Array Slot), va_P E.1 vwCl (w_X6_take E a_ a_bytes r9.2 r9.1) H → va_D A (w_X6_take E a_ a_bytes r9.2 r9.1) → va_S A s.heap H locs → lv_has ls 4 [] → W p l e ({ frames := 0, cells := 0, slots := 0, locals := 0 } : Room) s m #[Value.ref a_, Value.int p1] below meth c H locs 0 0 Q (F0 m 56 ls [])))) (fun u9 xx hF hC hE => wb_X6_take_3 l E K (p1 := p1) (x2 := u9.1) (c_bytes := u9.2.1) (c_length := u9.2.2) hx hb hml hown hts hK hN hA (fun x2 c_bytes c_length q9 => hC _ q9) (fun c_bytes c_length q9 => hE _ q9) hF) j9 (x2, c_bytes, c_length) (c_bytes', c_length') hL hX

set_option maxHeartbeats 4000000 in
set_option maxRecDepth 100000 in
theorem f_X6_take (l : Launch) (E : EE) (sz : Nat) (K : Nat) {a_ a_bytes : Nat} {p1 : Int32} {c_length : Int32} {c_bytes : Nat → Int32} {n_bytes : Nat → Int32} {n_length : Int32} (hF : F_X6_take K p1 c_bytes c_length = some (n_bytes, n_length)) : Met l yX6_take v_f_X6_take (({ frames := 0, cells := 0, slots := 0, locals := 0 } : Room)) (va_Pc [.ref a_, .int p1] (pW E sz (w_X6_take E a_ a_bytes c_length c_bytes))) (va_Qv (fun (_u : Unit) => True) (fun (_u : Unit) tt => va_P E.1 vwCl (w_X6_take E a_ a_bytes n_length n_bytes) tt.heap ∧ va_D (va_A (w_X6_take E a_ a_bytes c_length c_bytes) sz) (w_X6_take E a_ a_bytes n_length n_bytes)) (va_A (w_X6_take E a_ a_bytes c_length c_bytes) sz)) 0 0 (va_A (w_X6_take E a_ a_bytes c_length c_bytes) sz) := by
  refine Met.ofW (cc := cX6_take) (maxL := 4) (ret := none) (by decide) rfl ?_
  intro p e s m args below meth c s₁ B hml hv
  obtain ⟨rfl, hsz, ⟨hK, hN⟩, hP, hD0⟩ := hv
  have hx := B.exec
  have hb := B.bytes
  have hr := B.returns
  have hts := atoms_spec (ws := v_f_X6_take) B.pre
  have hown : s.vm.findClass RX6 = some m.cls := own_of hd_X6_take.1 (findClass_of_methodNamed B.named)
  have hlocks : meth.locks = false := B.notSynchronized
  subst hsz
  have hD := hD0.self (sz := s.heap.size)
  generalize hAe : va_A (w_X6_take E a_ a_bytes c_length c_bytes) s.heap.size = A at hD ⊢
  have hA : ∀ q : Nat, s.heap.size ≤ q → A q := fun q h => by rw [← hAe]; exact Or.inr h
  have hS : va_S A s.heap s.heap [] := va_S.rf
  have hl := lv_entry ([.ref a_, .int p1]) (n := 4) (Nat.le_of_ble_eq_true rfl)
  rw [lg_entry_eq]
  generalize (lg_sl ([.ref a_, .int p1]) ++ List.replicate (4 - (lg_sl ([.ref a_, .int p1])).length) Slot.unset).toArray = ls at hl ⊢
  have hl : lv_has ls 4 [(0, .ref a_), (1, .int p1)] := hl
  obtain ⟨Q, hQ⟩ : ∃ Q : State → Prop, Q = MQ below (va_Qv (fun (_u : Unit) => True) (fun (_u : Unit) tt => va_P E.1 vwCl (w_X6_take E a_ a_bytes n_length n_bytes) tt.heap ∧ va_D A (w_X6_take E a_ a_bytes n_length n_bytes)) A) #[Value.ref a_, Value.int p1] s 0 0 A := ⟨_, rfl⟩
  rw [← hQ]
  change W p l e ({ frames := 0, cells := 0, slots := 0, locals := 0 } : Room) s m #[Value.ref a_, Value.int p1] below meth c s.heap [] 0 0 Q (F0 m 0 ls [])
  suffices hh9 : ∀ (H : Heap) (locs : List Loc), va_P E.1 vwCl (w_X6_take E a_ a_bytes c_length c_bytes) H → va_D A (w_X6_take E a_ a_bytes c_length c_bytes) → va_S A s.heap H locs → W p l e ({ frames := 0, cells := 0, slots := 0, locals := 0 } : Room) s m #[Value.ref a_, Value.int p1] below meth c H locs 0 0 Q (F0 m 0 ls []) from hh9 s.heap [] hP hD hS
  clear hP hD hS
  intro H locs hP hD hS
  replace hP : va_P E.1 vwCl [(a_, .inr (7, [.ref a_bytes, .int c_length])), (a_bytes, .inl (E.2.2.1, 320, .inl c_bytes))] H := hP
  replace hD : va_D A [(a_, .inr (7, [.ref a_bytes, .int c_length])), (a_bytes, .inl (E.2.2.1, 320, .inl c_bytes))] := hD
  unfold F_X6_take at hF
  refine lv_bipush (v := 24) hx hb dX6_take_0 (by decide) ?_
  refine lv_istore_n (lv' := [(2, .int (24 : Int32)), (0, .ref a_), (1, .int p1)]) hx hb dX6_take_2 rfl hl (by decide) rfl (fun ls hl => ?_)
  replace hF := bd2_s hF
  obtain ⟨c_bytes_6, c_length_7, hL_8, hF⟩ := hF
  refine lw_X6_take_3 l E K (p1 := p1) hx hb hml hown hts hK hN hA K (24 : Int32) c_bytes c_length c_bytes_6 c_length_7 hL_8 ?_ H locs ls (hP.sub [0, 1] rfl) (hD.sub [0, 1] (by decide) rfl) hS (lv_sub hl [1, 2, 0] rfl)
  ·
    intro H locs ls hP hD hS hl
    replace hP : va_P E.1 vwCl [(a_, .inr (7, [.ref a_bytes, .int c_length_7])), (a_bytes, .inl (E.2.2.1, 320, .inl c_bytes_6))] H := hP
    replace hD : va_D A [(a_, .inr (7, [.ref a_bytes, .int c_length_7])), (a_bytes, .inl (E.2.2.1, 320, .inl c_bytes_6))] := hD
    rw [hQ]
    have h9 := fin9 (P := fun u9 : (Nat → Int32) × Int32 => va_P E.1 vwCl (w_X6_take E a_ a_bytes u9.2 u9.1) H ∧ va_D A (w_X6_take E a_ a_bytes u9.2 u9.1)) hF ⟨hP, hD⟩
    obtain ⟨hP9, hD9⟩ := h9
    exact W.vret hx hb hr (fun tt ht hW => ⟨⟨(), rfl, trivial, ht ▸ hP9, hD9⟩, hS.F ht⟩) hS.2.2 dX6_take_56
