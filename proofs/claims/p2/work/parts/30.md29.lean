theorem dX8_stillOnes_4 : decode cX8_stillOnes 4 = .ok (.iload_n 2, 1) := by decide +kernel
theorem dX8_stillOnes_5 : decode cX8_stillOnes 5 = .ok (.aload_n 0, 1) := by decide +kernel
theorem dX8_stillOnes_6 : decode cX8_stillOnes 6 = .ok (.getfield 196, 3) := by decide +kernel
theorem dX8_stillOnes_9 : decode cX8_stillOnes 9 = .ok (.if_icmp .ge 60, 3) := by decide +kernel
theorem dX8_stillOnes_12 : decode cX8_stillOnes 12 = .ok (.iload_n 1, 1) := by decide +kernel
theorem dX8_stillOnes_13 : decode cX8_stillOnes 13 = .ok (.aload_n 0, 1) := by decide +kernel
theorem dX8_stillOnes_14 : decode cX8_stillOnes 14 = .ok (.getfield 22, 3) := by decide +kernel
theorem dX8_stillOnes_17 : decode cX8_stillOnes 17 = .ok (.iconst 0, 1) := by decide +kernel
theorem dX8_stillOnes_18 : decode cX8_stillOnes 18 = .ok (.iload_n 2, 1) := by decide +kernel
theorem dX8_stillOnes_19 : decode cX8_stillOnes 19 = .ok (.iadd, 1) := by decide +kernel
theorem dX8_stillOnes_20 : decode cX8_stillOnes 20 = .ok (.iaload, 1) := by decide +kernel
theorem dX8_stillOnes_21 : decode cX8_stillOnes 21 = .ok (.aload_n 0, 1) := by decide +kernel
theorem dX8_stillOnes_22 : decode cX8_stillOnes 22 = .ok (.getfield 22, 3) := by decide +kernel
theorem dX8_stillOnes_25 : decode cX8_stillOnes 25 = .ok (.bipush 16, 2) := by decide +kernel
theorem dX8_stillOnes_27 : decode cX8_stillOnes 27 = .ok (.iload_n 2, 1) := by decide +kernel
theorem dX8_stillOnes_28 : decode cX8_stillOnes 28 = .ok (.iadd, 1) := by decide +kernel
theorem dX8_stillOnes_29 : decode cX8_stillOnes 29 = .ok (.iaload, 1) := by decide +kernel
theorem dX8_stillOnes_30 : decode cX8_stillOnes 30 = .ok (.if_icmp .ne 30, 3) := by decide +kernel
theorem dX8_stillOnes_60 : decode cX8_stillOnes 60 = .ok (.iconst 0, 1) := by decide +kernel
theorem dX8_stillOnes_61 : decode cX8_stillOnes 61 = .ok (.ior, 1) := by decide +kernel
theorem dX8_stillOnes_62 : decode cX8_stillOnes 62 = .ok (.istore_n 1, 1) := by decide +kernel
theorem dX8_stillOnes_63 : decode cX8_stillOnes 63 = .ok (.iinc 2 1, 3) := by decide +kernel
theorem dX8_stillOnes_66 : decode cX8_stillOnes 66 = .ok (.goto (-62), 3) := by decide +kernel
theorem dX8_stillOnes_33 : decode cX8_stillOnes 33 = .ok (.aload_n 0, 1) := by decide +kernel
theorem dX8_stillOnes_34 : decode cX8_stillOnes 34 = .ok (.getfield 22, 3) := by decide +kernel
theorem dX8_stillOnes_37 : decode cX8_stillOnes 37 = .ok (.bipush 8, 2) := by decide +kernel
theorem dX8_stillOnes_39 : decode cX8_stillOnes 39 = .ok (.iload_n 2, 1) := by decide +kernel
theorem dX8_stillOnes_40 : decode cX8_stillOnes 40 = .ok (.iadd, 1) := by decide +kernel
theorem dX8_stillOnes_41 : decode cX8_stillOnes 41 = .ok (.iaload, 1) := by decide +kernel
theorem dX8_stillOnes_42 : decode cX8_stillOnes 42 = .ok (.aload_n 0, 1) := by decide +kernel
theorem dX8_stillOnes_43 : decode cX8_stillOnes 43 = .ok (.getfield 22, 3) := by decide +kernel
theorem dX8_stillOnes_46 : decode cX8_stillOnes 46 = .ok (.bipush 24, 2) := by decide +kernel
theorem dX8_stillOnes_48 : decode cX8_stillOnes 48 = .ok (.iload_n 2, 1) := by decide +kernel
theorem dX8_stillOnes_49 : decode cX8_stillOnes 49 = .ok (.iadd, 1) := by decide +kernel
theorem dX8_stillOnes_50 : decode cX8_stillOnes 50 = .ok (.iaload, 1) := by decide +kernel
theorem dX8_stillOnes_51 : decode cX8_stillOnes 51 = .ok (.if_icmp .ne 9, 3) := by decide +kernel
theorem dX8_stillOnes_54 : decode cX8_stillOnes 54 = .ok (.iconst 1, 1) := by decide +kernel
theorem dX8_stillOnes_55 : decode cX8_stillOnes 55 = .ok (.iload_n 2, 1) := by decide +kernel
theorem dX8_stillOnes_56 : decode cX8_stillOnes 56 = .ok (.ishl, 1) := by decide +kernel
theorem dX8_stillOnes_57 : decode cX8_stillOnes 57 = .ok (.goto 4, 3) := by decide +kernel
theorem dX8_stillOnes_0 : decode cX8_stillOnes 0 = .ok (.iconst 0, 1) := by decide +kernel
theorem dX8_stillOnes_1 : decode cX8_stillOnes 1 = .ok (.istore_n 1, 1) := by decide +kernel
theorem dX8_stillOnes_2 : decode cX8_stillOnes 2 = .ok (.iconst 0, 1) := by decide +kernel
theorem dX8_stillOnes_3 : decode cX8_stillOnes 3 = .ok (.istore_n 2, 1) := by decide +kernel
theorem dX8_stillOnes_69 : decode cX8_stillOnes 69 = .ok (.iload_n 1, 1) := by decide +kernel
theorem dX8_stillOnes_70 : decode cX8_stillOnes 70 = .ok (.ireturn, 1) := by decide +kernel
theorem dX8_most_0 : decode cX8_most 0 = .ok (.aload_n 0, 1) := by decide +kernel
theorem dX8_most_1 : decode cX8_most 1 = .ok (.invokevirtual 299, 3) := by decide +kernel
theorem dX8_most_4 : decode cX8_most 4 = .ok (.ifCond .eq 15, 3) := by decide +kernel
theorem dX8_most_19 : decode cX8_most 19 = .ok (.ldc 182, 2) := by decide +kernel
theorem dX8_most_21 : decode cX8_most 21 = .ok (.ireturn, 1) := by decide +kernel
theorem dX8_most_7 : decode cX8_most 7 = .ok (.iload_n 1, 1) := by decide +kernel
theorem dX8_most_8 : decode cX8_most 8 = .ok (.i2l, 1) := by decide +kernel
theorem dX8_most_9 : decode cX8_most 9 = .ok (.lconst 0, 1) := by decide +kernel
theorem dX8_most_10 : decode cX8_most 10 = .ok (.ldc2_w 442, 3) := by decide +kernel
theorem dX8_most_13 : decode cX8_most 13 = .ok (.invokestatic 60, 3) := by decide +kernel
theorem dX8_most_16 : decode cX8_most 16 = .ok (.ifCond .ne 6, 3) := by decide +kernel
theorem dX8_most_22 : decode cX8_most 22 = .ok (.iload_n 1, 1) := by decide +kernel
theorem dX8_most_23 : decode cX8_most 23 = .ok (.tableswitch 71 6 11 #[37, 42, 47, 54, 61, 66], 37) := by decide +kernel
theorem dX8_most_60 : decode cX8_most 60 = .ok (.aload_n 0, 1) := by decide +kernel
theorem dX8_most_61 : decode cX8_most 61 = .ok (.invokevirtual 444, 3) := by decide +kernel
theorem dX8_most_64 : decode cX8_most 64 = .ok (.ireturn, 1) := by decide +kernel
theorem dX8_most_65 : decode cX8_most 65 = .ok (.aload_n 0, 1) := by decide +kernel
theorem dX8_most_66 : decode cX8_most 66 = .ok (.invokevirtual 447, 3) := by decide +kernel
theorem dX8_most_69 : decode cX8_most 69 = .ok (.ireturn, 1) := by decide +kernel
theorem dX8_most_70 : decode cX8_most 70 = .ok (.aload_n 0, 1) := by decide +kernel
theorem dX8_most_71 : decode cX8_most 71 = .ok (.bipush 32, 2) := by decide +kernel
theorem dX8_most_73 : decode cX8_most 73 = .ok (.invokevirtual 199, 3) := by decide +kernel
theorem dX8_most_76 : decode cX8_most 76 = .ok (.ireturn, 1) := by decide +kernel
theorem dX8_most_77 : decode cX8_most 77 = .ok (.aload_n 0, 1) := by decide +kernel
theorem dX8_most_78 : decode cX8_most 78 = .ok (.bipush 40, 2) := by decide +kernel
theorem dX8_most_80 : decode cX8_most 80 = .ok (.invokevirtual 199, 3) := by decide +kernel
theorem dX8_most_83 : decode cX8_most 83 = .ok (.ireturn, 1) := by decide +kernel
theorem dX8_most_84 : decode cX8_most 84 = .ok (.aload_n 0, 1) := by decide +kernel
theorem dX8_most_85 : decode cX8_most 85 = .ok (.invokevirtual 450, 3) := by decide +kernel
theorem dX8_most_88 : decode cX8_most 88 = .ok (.ireturn, 1) := by decide +kernel
theorem dX8_most_89 : decode cX8_most 89 = .ok (.aload_n 0, 1) := by decide +kernel
theorem dX8_most_90 : decode cX8_most 90 = .ok (.invokevirtual 296, 3) := by decide +kernel
theorem dX8_most_93 : decode cX8_most 93 = .ok (.ireturn, 1) := by decide +kernel
theorem dX8_most_94 : decode cX8_most 94 = .ok (.aload_n 0, 1) := by decide +kernel
theorem dX8_most_95 : decode cX8_most 95 = .ok (.getfield 22, 3) := by decide +kernel
theorem dX8_most_98 : decode cX8_most 98 = .ok (.bipush 67, 2) := by decide +kernel
theorem dX8_most_100 : decode cX8_most 100 = .ok (.iload_n 1, 1) := by decide +kernel
theorem dX8_most_101 : decode cX8_most 101 = .ok (.iadd, 1) := by decide +kernel
theorem dX8_most_102 : decode cX8_most 102 = .ok (.iaload, 1) := by decide +kernel
theorem dX8_most_103 : decode cX8_most 103 = .ok (.ireturn, 1) := by decide +kernel
theorem dX8_move_0 : decode cX8_move 0 = .ok (.aload_n 0, 1) := by decide +kernel
theorem dX8_move_1 : decode cX8_move 1 = .ok (.iconst (-1), 1) := by decide +kernel
theorem dX8_move_2 : decode cX8_move 2 = .ok (.iconst 0, 1) := by decide +kernel
theorem dX8_move_3 : decode cX8_move 3 = .ok (.iload_n 1, 1) := by decide +kernel
theorem dX8_move_4 : decode cX8_move 4 = .ok (.iload_n 2, 1) := by decide +kernel
theorem dX8_move_5 : decode cX8_move 5 = .ok (.iload_n 3, 1) := by decide +kernel
theorem dX8_move_6 : decode cX8_move 6 = .ok (.invokevirtual 350, 3) := by decide +kernel
theorem dX8_move_9 : decode cX8_move 9 = .ok (.ireturn, 1) := by decide +kernel
theorem dX8_needs_0 : decode cX8_needs 0 = .ok (.aload_n 0, 1) := by decide +kernel
theorem dX8_needs_1 : decode cX8_needs 1 = .ok (.iload_n 1, 1) := by decide +kernel
theorem dX8_needs_2 : decode cX8_needs 2 = .ok (.iload_n 2, 1) := by decide +kernel
theorem dX8_needs_3 : decode cX8_needs 3 = .ok (.iload_n 3, 1) := by decide +kernel
theorem dX8_needs_4 : decode cX8_needs 4 = .ok (.invokevirtual 302, 3) := by decide +kernel
theorem dX8_needs_7 : decode cX8_needs 7 = .ok (.iconst (-1), 1) := by decide +kernel
theorem dX8_needs_8 : decode cX8_needs 8 = .ok (.if_icmp .ne 36, 3) := by decide +kernel
theorem dX8_needs_44 : decode cX8_needs 44 = .ok (.ldc2_w 383, 3) := by decide +kernel
theorem dX8_needs_47 : decode cX8_needs 47 = .ok (.lreturn, 1) := by decide +kernel
theorem dX8_needs_11 : decode cX8_needs 11 = .ok (.aload_n 0, 1) := by decide +kernel
theorem dX8_needs_12 : decode cX8_needs 12 = .ok (.aload_n 0, 1) := by decide +kernel
theorem dX8_needs_13 : decode cX8_needs 13 = .ok (.aload_n 0, 1) := by decide +kernel
theorem dX8_needs_14 : decode cX8_needs 14 = .ok (.iload_n 1, 1) := by decide +kernel
theorem dX8_needs_15 : decode cX8_needs 15 = .ok (.invokevirtual 228, 3) := by decide +kernel
theorem dX8_needs_18 : decode cX8_needs 18 = .ok (.iload_n 2, 1) := by decide +kernel
theorem dX8_needs_19 : decode cX8_needs 19 = .ok (.iadd, 1) := by decide +kernel
theorem dX8_needs_20 : decode cX8_needs 20 = .ok (.invokevirtual 222, 3) := by decide +kernel
theorem dX8_needs_23 : decode cX8_needs 23 = .ok (.i2l, 1) := by decide +kernel
theorem dX8_needs_24 : decode cX8_needs 24 = .ok (.aload_n 0, 1) := by decide +kernel
theorem dX8_needs_25 : decode cX8_needs 25 = .ok (.aload_n 0, 1) := by decide +kernel
theorem dX8_needs_26 : decode cX8_needs 26 = .ok (.iload_n 1, 1) := by decide +kernel
theorem dX8_needs_27 : decode cX8_needs 27 = .ok (.invokevirtual 231, 3) := by decide +kernel
theorem dX8_needs_30 : decode cX8_needs 30 = .ok (.iload_n 3, 1) := by decide +kernel
theorem dX8_needs_31 : decode cX8_needs 31 = .ok (.iadd, 1) := by decide +kernel
theorem dX8_needs_32 : decode cX8_needs 32 = .ok (.invokevirtual 225, 3) := by decide +kernel
theorem dX8_needs_35 : decode cX8_needs 35 = .ok (.i2l, 1) := by decide +kernel
theorem dX8_needs_36 : decode cX8_needs 36 = .ok (.invokevirtual 218, 3) := by decide +kernel
theorem dX8_needs_39 : decode cX8_needs 39 = .ok (.lconst 1, 1) := by decide +kernel
theorem dX8_needs_40 : decode cX8_needs 40 = .ok (.ladd, 1) := by decide +kernel
theorem dX8_needs_41 : decode cX8_needs 41 = .ok (.goto 6, 3) := by decide +kernel
def B_X8_stillOnes_4 (c_sites : Int32) (c_now : Nat → Int32) (x1 : Int32) (x2 : Int32) : Option ((Int32 × Int32) ⊕ (Int32)) :=
  if c_sites ≤ x2 then some (.inr x1) else ixF ((0 : Int32) + x2) 265 (ixF ((16 : Int32) + x2) 265 (if c_now ((0 : Int32) + x2).toNatClampNeg = c_now ((16 : Int32) + x2).toNatClampNeg then ixF ((8 : Int32) + x2) 265 (ixF ((24 : Int32) + x2) 265 (if c_now ((8 : Int32) + x2).toNatClampNeg = c_now ((24 : Int32) + x2).toNatClampNeg then some (.inl (x1 ||| ((1 : Int32) <<< (x2 &&& (31 : Int32))), x2 + (1 : Int32))) else some (.inl (x1 ||| (0 : Int32), x2 + (1 : Int32))))) else some (.inl (x1 ||| (0 : Int32), x2 + (1 : Int32)))))
def F_X8_stillOnes (K : Nat) (c_now : Nat → Int32) (c_sites : Int32) : Option (Int32) :=
  bd1 (lpF (fun u9 : Int32 × Int32 => B_X8_stillOnes_4 c_sites c_now u9.1 u9.2) K ((0 : Int32), (0 : Int32))) (fun x1_8 => some x1_8)
abbrev w_X8_stillOnes (E : EE) (a_ a_tape a_readPlace a_script a_scriptLong a_now a_refused a_shareX a_shareY a_askedRow a_kept a_aside a_spelled a_image : Nat) (c_thrown : Int32) (c_taped : Int32) (c_at : Int32) (c_part : Int32) (c_partFrom : Int32) (c_partNumber : Int32) (c_wrong : Int32) (c_partWord : Int64) (c_readLaw : Int32) (c_readBound : Int32) (c_readGoal : Int32) (c_readSites : Int32) (c_scripts : Int32) (c_sites : Int32) (c_asked : Int32) (c_outcome : Int32) (c_took : Int32) (c_acts : Int32) (c_drawn : Int64) (c_racer : Int32) (c_raced : Int32) (c_spelledMany : Int32) (c_hasImage : Int32) (c_now : Nat → Int32) : va_W := [(a_, .inr (9, [.int c_thrown, .ref a_tape, .int c_taped, .int c_at, .int c_part, .int c_partFrom, .int c_partNumber, .int c_wrong, .long c_partWord, .int c_readLaw, .int c_readBound, .int c_readGoal, .int c_readSites, .ref a_readPlace, .ref a_script, .ref a_scriptLong, .int c_scripts, .ref a_now, .ref a_refused, .int c_sites, .ref a_shareX, .ref a_shareY, .int c_asked, .int c_outcome, .ref a_askedRow, .int c_took, .ref a_kept, .int c_acts, .long c_drawn, .ref a_aside, .int c_racer, .int c_raced, .ref a_spelled, .int c_spelledMany, .ref a_image, .int c_hasImage])), (a_now, .inl (E.2.1, 265, .inl c_now))]
def v_f_X8_stillOnes : List Cond := .code yX8_stillOnes cX8_stillOnes 3 (some .int) :: ([.fieldLink RX8 196 "HushWatchModel" "sites" "I", .fieldLink RX8 22 "HushWatchModel" "now" "[I"] ++ (wsX80 ++ ([])))
theorem gw_f_X8_stillOnes : v_f_X8_stillOnes.all goodWord = true := by decide +kernel
theorem i_f_X8_stillOnes_X8 : ∀ w ∈ wsX80, w ∈ v_f_X8_stillOnes := fun _ h => List.mem_cons_of_mem _ (List.mem_append_right _ (List.mem_append_left _ h))
set_option maxHeartbeats 4000000 in
set_option maxRecDepth 100000 in
theorem wb_X8_stillOnes_4 {p : Program} (l : Launch) {e : Env} {s : State} {m : MethodId} {below : List Frame} {meth : Method} {c : Code} {Q : State → Prop} (E : EE) (K : Nat) {a_ a_tape a_readPlace a_script a_scriptLong a_now a_refused a_shareX a_shareY a_askedRow a_kept a_aside a_spelled a_image : Nat} {c_thrown : Int32} {c_taped : Int32} {c_at : Int32} {c_part : Int32} {c_partFrom : Int32} {c_partNumber : Int32} {c_wrong : Int32} {c_partWord : Int64} {c_readLaw : Int32} {c_readBound : Int32} {c_readGoal : Int32} {c_readSites : Int32} {c_scripts : Int32} {c_sites : Int32} {c_asked : Int32} {c_outcome : Int32} {c_took : Int32} {c_acts : Int32} {c_drawn : Int64} {c_racer : Int32} {c_raced : Int32} {c_spelledMany : Int32} {c_hasImage : Int32} {c_now : Nat → Int32} {x1 : Int32} {x2 : Int32} (hx : p.tables.exec = Jvm.exec) (hb : c.code = cX8_stillOnes) (hml : c.maxLocals = 3) (hown : s.vm.findClass RX8 = some m.cls) (hts : ∀ w ∈ v_f_X8_stillOnes, w.before #[Value.ref a_] s = true) (hK : va_K E.1 vwCl (TY E) s) (hN : NX s) {xx : (Int32 × Int32) ⊕ (Int32)} (hC : ∀ (x1 : Int32), ∀ (x2 : Int32), xx = .inl (x1, x2) → ∀ (ls : Array Slot), lv_has ls 3 [(0, .ref a_), (1, .int x1), (2, .int x2)] → W p l e ({ frames := 0, cells := 0, slots := 0, locals := 0 } : Room) s m #[Value.ref a_] below meth c s.heap [] 0 0 Q (F0 m 4 ls [])) (hE : ∀ (x1 : Int32), xx = .inr x1 → ((∀ (ls : Array Slot), lv_has ls 3 [(1, .int x1)] → W p l e ({ frames := 0, cells := 0, slots := 0, locals := 0 } : Room) s m #[Value.ref a_] below meth c s.heap [] 0 0 Q (F0 m 69 ls [])))) (hF : B_X8_stillOnes_4 c_sites c_now x1 x2 = some xx) (hP : va_P E.1 vwCl (w_X8_stillOnes E a_ a_tape a_readPlace a_script a_scriptLong a_now a_refused a_shareX a_shareY a_askedRow a_kept a_aside a_spelled a_image c_thrown c_taped c_at c_part c_partFrom c_partNumber c_wrong c_partWord c_readLaw c_readBound c_readGoal c_readSites c_scripts c_sites c_asked c_outcome c_took c_acts c_drawn c_racer c_raced c_spelledMany c_hasImage c_now) s.heap) : ∀ (ls : Array Slot), lv_has ls 3 [(0, .ref a_), (1, .int x1), (2, .int x2)] → W p l e ({ frames := 0, cells := 0, slots := 0, locals := 0 } : Room) s m #[Value.ref a_] below meth c s.heap [] 0 0 Q (F0 m 4 ls []) := by
  unfold B_X8_stillOnes_4 at hF
  replace hP : va_P E.1 vwCl [(a_, .inr (9, [.int c_thrown, .ref a_tape, .int c_taped, .int c_at, .int c_part, .int c_partFrom, .int c_partNumber, .int c_wrong, .long c_partWord, .int c_readLaw, .int c_readBound, .int c_readGoal, .int c_readSites, .ref a_readPlace, .ref a_script, .ref a_scriptLong, .int c_scripts, .ref a_now, .ref a_refused, .int c_sites, .ref a_shareX, .ref a_shareY, .int c_asked, .int c_outcome, .ref a_askedRow, .int c_took, .ref a_kept, .int c_acts, .long c_drawn, .ref a_aside, .int c_racer, .int c_raced, .ref a_spelled, .int c_spelledMany, .ref a_image, .int c_hasImage])), (a_now, .inl (E.2.1, 265, .inl c_now))] s.heap := hP
  intro ls hl
  refine lv_iload_n hx hb dX8_stillOnes_4 rfl (lv_at hl 2 rfl) ?_
  refine lv_aload_n hx hb dX8_stillOnes_5 rfl (lv_at hl 0 rfl) ?_
  refine va_get (D := E.1) (ci := 9) (v := .int c_sites) (C := RX8) (T := TX8) (N := 36) hx hb hts i_f_X8_stillOnes_X8 hown hK hP 0 rfl rfl 19 (by decide) (hts (.fieldLink RX8 196 "HushWatchModel" "sites" "I") (List.mem_of_getElem? (i := 1) rfl)) (fun _ h9 => h9) rfl dX8_stillOnes_6 ?_
  refine lv_icmp_ge (tgt := 69) hx hb dX8_stillOnes_9 (by decide) (fun c_1 => ?_) (fun c_1 => ?_)
  ·
    replace hF := ip c_1 hF
    cases hF
    exact hE x1 rfl ls (lv_sub hl [1] rfl)
  ·
    replace hF := inn c_1 hF
    refine lv_iload_n hx hb dX8_stillOnes_12 rfl (lv_at hl 1 rfl) ?_
    refine lv_aload_n hx hb dX8_stillOnes_13 rfl (lv_at hl 0 rfl) ?_
    refine va_get (D := E.1) (ci := 9) (v := .ref a_now) (C := RX8) (T := TX8) (N := 36) hx hb hts i_f_X8_stillOnes_X8 hown hK hP 0 rfl rfl 17 (by decide) (hts (.fieldLink RX8 22 "HushWatchModel" "now" "[I") (List.mem_of_getElem? (i := 2) rfl)) (fun _ h9 => h9) rfl dX8_stillOnes_14 ?_
    refine lv_iconst (v := 0) hx hb dX8_stillOnes_17 (by decide) ?_
    refine lv_iload_n hx hb dX8_stillOnes_18 rfl (lv_at hl 2 rfl) ?_
    refine lv_iadd hx hb dX8_stillOnes_19 ?_
    replace hF := ix_s hF
    obtain ⟨hi_2, hF⟩ := hF
    refine va_iald hx hb hK hP 1 0 rfl rfl hi_2 dX8_stillOnes_20 ?_
    refine lv_aload_n hx hb dX8_stillOnes_21 rfl (lv_at hl 0 rfl) ?_
    refine va_get (D := E.1) (ci := 9) (v := .ref a_now) (C := RX8) (T := TX8) (N := 36) hx hb hts i_f_X8_stillOnes_X8 hown hK hP 0 rfl rfl 17 (by decide) (hts (.fieldLink RX8 22 "HushWatchModel" "now" "[I") (List.mem_of_getElem? (i := 2) rfl)) (fun _ h9 => h9) rfl dX8_stillOnes_22 ?_
    refine lv_bipush (v := 16) hx hb dX8_stillOnes_25 (by decide) ?_
    refine lv_iload_n hx hb dX8_stillOnes_27 rfl (lv_at hl 2 rfl) ?_
    refine lv_iadd hx hb dX8_stillOnes_28 ?_
    replace hF := ix_s hF
    obtain ⟨hi_3, hF⟩ := hF
    refine va_iald hx hb hK hP 1 0 rfl rfl hi_3 dX8_stillOnes_29 ?_
    refine lv_icmp_ne (tgt := 60) hx hb dX8_stillOnes_30 (by decide) (fun c_4 => ?_) (fun c_4 => ?_)
    ·
      replace hF := inn c_4 hF
      refine lv_iconst (v := 0) hx hb dX8_stillOnes_60 (by decide) ?_
      refine lv_ior hx hb dX8_stillOnes_61 ?_
      refine lv_istore_n (lv' := [(1, .int (x1 ||| (0 : Int32))), (0, .ref a_), (2, .int x2)]) hx hb dX8_stillOnes_62 rfl hl (by decide) rfl (fun ls hl => ?_)
      refine lv_iinc (v := x2 + (1 : Int32)) (lv' := [(2, .int (x2 + (1 : Int32))), (1, .int (x1 ||| (0 : Int32))), (0, .ref a_)]) hx hb dX8_stillOnes_63 hl (k := 2) rfl (rfl) (by decide) rfl (fun ls hl => ?_)
      refine lv_goto (tgt := 4) hx hb dX8_stillOnes_66 (by decide) ?_
      cases hF
      exact hC (x1 ||| (0 : Int32)) (x2 + (1 : Int32)) rfl ls (lv_sub hl [2, 1, 0] rfl)
    ·
      replace hF := ip c_4 hF
      refine lv_aload_n hx hb dX8_stillOnes_33 rfl (lv_at hl 0 rfl) ?_
      refine va_get (D := E.1) (ci := 9) (v := .ref a_now) (C := RX8) (T := TX8) (N := 36) hx hb hts i_f_X8_stillOnes_X8 hown hK hP 0 rfl rfl 17 (by decide) (hts (.fieldLink RX8 22 "HushWatchModel" "now" "[I") (List.mem_of_getElem? (i := 2) rfl)) (fun _ h9 => h9) rfl dX8_stillOnes_34 ?_
      refine lv_bipush (v := 8) hx hb dX8_stillOnes_37 (by decide) ?_
      refine lv_iload_n hx hb dX8_stillOnes_39 rfl (lv_at hl 2 rfl) ?_
      refine lv_iadd hx hb dX8_stillOnes_40 ?_
      replace hF := ix_s hF
      obtain ⟨hi_5, hF⟩ := hF
      refine va_iald hx hb hK hP 1 0 rfl rfl hi_5 dX8_stillOnes_41 ?_
      refine lv_aload_n hx hb dX8_stillOnes_42 rfl (lv_at hl 0 rfl) ?_
      refine va_get (D := E.1) (ci := 9) (v := .ref a_now) (C := RX8) (T := TX8) (N := 36) hx hb hts i_f_X8_stillOnes_X8 hown hK hP 0 rfl rfl 17 (by decide) (hts (.fieldLink RX8 22 "HushWatchModel" "now" "[I") (List.mem_of_getElem? (i := 2) rfl)) (fun _ h9 => h9) rfl dX8_stillOnes_43 ?_
      refine lv_bipush (v := 24) hx hb dX8_stillOnes_46 (by decide) ?_
      refine lv_iload_n hx hb dX8_stillOnes_48 rfl (lv_at hl 2 rfl) ?_
      refine lv_iadd hx hb dX8_stillOnes_49 ?_
      replace hF := ix_s hF
      obtain ⟨hi_6, hF⟩ := hF
      refine va_iald hx hb hK hP 1 0 rfl rfl hi_6 dX8_stillOnes_50 ?_
      refine lv_icmp_ne (tgt := 60) hx hb dX8_stillOnes_51 (by decide) (fun c_7 => ?_) (fun c_7 => ?_)
      ·
        replace hF := inn c_7 hF
        refine lv_iconst (v := 0) hx hb dX8_stillOnes_60 (by decide) ?_
        refine lv_ior hx hb dX8_stillOnes_61 ?_
        refine lv_istore_n (lv' := [(1, .int (x1 ||| (0 : Int32))), (0, .ref a_), (2, .int x2)]) hx hb dX8_stillOnes_62 rfl hl (by decide) rfl (fun ls hl => ?_)
        refine lv_iinc (v := x2 + (1 : Int32)) (lv' := [(2, .int (x2 + (1 : Int32))), (1, .int (x1 ||| (0 : Int32))), (0, .ref a_)]) hx hb dX8_stillOnes_63 hl (k := 2) rfl (rfl) (by decide) rfl (fun ls hl => ?_)
        refine lv_goto (tgt := 4) hx hb dX8_stillOnes_66 (by decide) ?_
        cases hF
        exact hC (x1 ||| (0 : Int32)) (x2 + (1 : Int32)) rfl ls (lv_sub hl [2, 1, 0] rfl)
      ·
        replace hF := ip c_7 hF
        refine lv_iconst (v := 1) hx hb dX8_stillOnes_54 (by decide) ?_
        refine lv_iload_n hx hb dX8_stillOnes_55 rfl (lv_at hl 2 rfl) ?_
        refine lv_ishl hx hb dX8_stillOnes_56 ?_
        refine lv_goto (tgt := 61) hx hb dX8_stillOnes_57 (by decide) ?_
        refine lv_ior hx hb dX8_stillOnes_61 ?_
        refine lv_istore_n (lv' := [(1, .int (x1 ||| ((1 : Int32) <<< (x2 &&& (31 : Int32))))), (0, .ref a_), (2, .int x2)]) hx hb dX8_stillOnes_62 rfl hl (by decide) rfl (fun ls hl => ?_)
        refine lv_iinc (v := x2 + (1 : Int32)) (lv' := [(2, .int (x2 + (1 : Int32))), (1, .int (x1 ||| ((1 : Int32) <<< (x2 &&& (31 : Int32))))), (0, .ref a_)]) hx hb dX8_stillOnes_63 hl (k := 2) rfl (rfl) (by decide) rfl (fun ls hl => ?_)
        refine lv_goto (tgt := 4) hx hb dX8_stillOnes_66 (by decide) ?_
        cases hF
        exact hC (x1 ||| ((1 : Int32) <<< (x2 &&& (31 : Int32)))) (x2 + (1 : Int32)) rfl ls (lv_sub hl [2, 1, 0] rfl)

set_option maxHeartbeats 4000000 in
set_option maxRecDepth 100000 in
theorem lw_X8_stillOnes_4 {p : Program} (l : Launch) {e : Env} {s : State} {m : MethodId} {below : List Frame} {meth : Method} {c : Code} {Q : State → Prop} (E : EE) (K : Nat) {a_ a_tape a_readPlace a_script a_scriptLong a_now a_refused a_shareX a_shareY a_askedRow a_kept a_aside a_spelled a_image : Nat} {c_thrown : Int32} {c_taped : Int32} {c_at : Int32} {c_part : Int32} {c_partFrom : Int32} {c_partNumber : Int32} {c_wrong : Int32} {c_partWord : Int64} {c_readLaw : Int32} {c_readBound : Int32} {c_readGoal : Int32} {c_readSites : Int32} {c_scripts : Int32} {c_sites : Int32} {c_asked : Int32} {c_outcome : Int32} {c_took : Int32} {c_acts : Int32} {c_drawn : Int64} {c_racer : Int32} {c_raced : Int32} {c_spelledMany : Int32} {c_hasImage : Int32} {c_now : Nat → Int32} (hx : p.tables.exec = Jvm.exec) (hb : c.code = cX8_stillOnes) (hml : c.maxLocals = 3) (hown : s.vm.findClass RX8 = some m.cls) (hts : ∀ w ∈ v_f_X8_stillOnes, w.before #[Value.ref a_] s = true) (hK : va_K E.1 vwCl (TY E) s) (hN : NX s) (hP : va_P E.1 vwCl (w_X8_stillOnes E a_ a_tape a_readPlace a_script a_scriptLong a_now a_refused a_shareX a_shareY a_askedRow a_kept a_aside a_spelled a_image c_thrown c_taped c_at c_part c_partFrom c_partNumber c_wrong c_partWord c_readLaw c_readBound c_readGoal c_readSites c_scripts c_sites c_asked c_outcome c_took c_acts c_drawn c_racer c_raced c_spelledMany c_hasImage c_now) s.heap) (j9 : Nat) (x1 : Int32) (x2 : Int32) (x1' : Int32) (hL : lpF (fun u9 : Int32 × Int32 => B_X8_stillOnes_4 c_sites c_now u9.1 u9.2) j9 (x1, x2) = some x1') (hX : (∀ (ls : Array Slot), lv_has ls 3 [(1, .int x1')] → W p l e ({ frames := 0, cells := 0, slots := 0, locals := 0 } : Room) s m #[Value.ref a_] below meth c s.heap [] 0 0 Q (F0 m 69 ls []))) : ∀ (ls : Array Slot), lv_has ls 3 [(0, .ref a_), (1, .int x1), (2, .int x2)] → W p l e ({ frames := 0, cells := 0, slots := 0, locals := 0 } : Room) s m #[Value.ref a_] below meth c s.heap [] 0 0 Q (F0 m 4 ls []) := by
  exact lp_rule (P := (fun u9 : Int32 × Int32 => ∀ (ls : Array Slot), lv_has ls 3 [(0, .ref a_), (1, .int u9.1), (2, .int u9.2)] → W p l e ({ frames := 0, cells := 0, slots := 0, locals := 0 } : Room) s m #[Value.ref a_] below meth c s.heap [] 0 0 Q (F0 m 4 ls []))) (R := (fun r9 : Int32 => (∀ (ls : Array Slot), lv_has ls 3 [(1, .int r9)] → W p l e ({ frames := 0, cells := 0, slots := 0, locals := 0 } : Room) s m #[Value.ref a_] below meth c s.heap [] 0 0 Q (F0 m 69 ls [])))) (fun u9 xx hF hC hE => wb_X8_stillOnes_4 l E K (c_thrown := c_thrown) (c_taped := c_taped) (c_at := c_at) (c_part := c_part) (c_partFrom := c_partFrom) (c_partNumber := c_partNumber) (c_wrong := c_wrong) (c_partWord := c_partWord) (c_readLaw := c_readLaw) (c_readBound := c_readBound) (c_readGoal := c_readGoal) (c_readSites := c_readSites) (c_scripts := c_scripts) (c_sites := c_sites) (c_asked := c_asked) (c_outcome := c_outcome) (c_took := c_took) (c_acts := c_acts) (c_drawn := c_drawn) (c_racer := c_racer) (c_raced := c_raced) (c_spelledMany := c_spelledMany) (c_hasImage := c_hasImage) (c_now := c_now) (x1 := u9.1) (x2 := u9.2) hx hb hml hown hts hK hN (fun x1 x2 q9 => hC _ q9) (fun x1 q9 => hE _ q9) hF hP) j9 (x1, x2) x1' hL hX

set_option maxHeartbeats 4000000 in
set_option maxRecDepth 100000 in
theorem f_X8_stillOnes (l : Launch) (E : EE) (K : Nat) {a_ a_tape a_readPlace a_script a_scriptLong a_now a_refused a_shareX a_shareY a_askedRow a_kept a_aside a_spelled a_image : Nat} {c_thrown : Int32} {c_taped : Int32} {c_at : Int32} {c_part : Int32} {c_partFrom : Int32} {c_partNumber : Int32} {c_wrong : Int32} {c_partWord : Int64} {c_readLaw : Int32} {c_readBound : Int32} {c_readGoal : Int32} {c_readSites : Int32} {c_scripts : Int32} {c_sites : Int32} {c_asked : Int32} {c_outcome : Int32} {c_took : Int32} {c_acts : Int32} {c_drawn : Int64} {c_racer : Int32} {c_raced : Int32} {c_spelledMany : Int32} {c_hasImage : Int32} {c_now : Nat → Int32} {rr : Int32} (hF : F_X8_stillOnes K c_now c_sites = some rr) : Met l yX8_stillOnes v_f_X8_stillOnes (({ frames := 0, cells := 0, slots := 0, locals := 0 } : Room)) (va_Pc [.ref a_] (pP E (w_X8_stillOnes E a_ a_tape a_readPlace a_script a_scriptLong a_now a_refused a_shareX a_shareY a_askedRow a_kept a_aside a_spelled a_image c_thrown c_taped c_at c_part c_partFrom c_partNumber c_wrong c_partWord c_readLaw c_readBound c_readGoal c_readSites c_scripts c_sites c_asked c_outcome c_took c_acts c_drawn c_racer c_raced c_spelledMany c_hasImage c_now))) (vp_Si (fun q : Int32 => q = rr)) 0 0 (fun _ => False) := by
  refine Met.ofW (cc := cX8_stillOnes) (maxL := 3) (ret := (some .int)) (by decide) rfl ?_
  intro p e s m args below meth c s₁ B hml hv
  obtain ⟨rfl, ⟨hK, hN⟩, hP⟩ := hv
  have hx := B.exec
  have hb := B.bytes
  have hr := B.returns
  have hts := atoms_spec (ws := v_f_X8_stillOnes) B.pre
  have hown : s.vm.findClass RX8 = some m.cls := findClass_of_methodNamed B.named
  have hlocks : meth.locks = false := B.notSynchronized
  replace hP : va_P E.1 vwCl [(a_, .inr (9, [.int c_thrown, .ref a_tape, .int c_taped, .int c_at, .int c_part, .int c_partFrom, .int c_partNumber, .int c_wrong, .long c_partWord, .int c_readLaw, .int c_readBound, .int c_readGoal, .int c_readSites, .ref a_readPlace, .ref a_script, .ref a_scriptLong, .int c_scripts, .ref a_now, .ref a_refused, .int c_sites, .ref a_shareX, .ref a_shareY, .int c_asked, .int c_outcome, .ref a_askedRow, .int c_took, .ref a_kept, .int c_acts, .long c_drawn, .ref a_aside, .int c_racer, .int c_raced, .ref a_spelled, .int c_spelledMany, .ref a_image, .int c_hasImage])), (a_now, .inl (E.2.1, 265, .inl c_now))] s.heap := hP
  have hl := lv_entry ([.ref a_]) (n := 3) (Nat.le_of_ble_eq_true rfl)
  rw [lg_entry_eq]
  generalize (lg_sl ([.ref a_]) ++ List.replicate (3 - (lg_sl ([.ref a_])).length) Slot.unset).toArray = ls at hl ⊢
  have hl : lv_has ls 3 [(0, .ref a_)] := hl
  obtain ⟨Q, hQ⟩ : ∃ Q : State → Prop, Q = MQ below (vp_Si (fun q : Int32 => q = rr)) #[Value.ref a_] s 0 0 (fun _ => False) := ⟨_, rfl⟩
  rw [← hQ]
  change W p l e ({ frames := 0, cells := 0, slots := 0, locals := 0 } : Room) s m #[Value.ref a_] below meth c s.heap [] 0 0 Q (F0 m 0 ls [])
  unfold F_X8_stillOnes at hF
  refine lv_iconst (v := 0) hx hb dX8_stillOnes_0 (by decide) ?_
  refine lv_istore_n (lv' := [(1, .int (0 : Int32)), (0, .ref a_)]) hx hb dX8_stillOnes_1 rfl hl (by decide) rfl (fun ls hl => ?_)
  refine lv_iconst (v := 0) hx hb dX8_stillOnes_2 (by decide) ?_
  refine lv_istore_n (lv' := [(2, .int (0 : Int32)), (1, .int (0 : Int32)), (0, .ref a_)]) hx hb dX8_stillOnes_3 rfl hl (by decide) rfl (fun ls hl => ?_)
  replace hF := bd1_s hF
  obtain ⟨x1_8, hL_9, hF⟩ := hF
  refine lw_X8_stillOnes_4 l E K (c_thrown := c_thrown) (c_taped := c_taped) (c_at := c_at) (c_part := c_part) (c_partFrom := c_partFrom) (c_partNumber := c_partNumber) (c_wrong := c_wrong) (c_partWord := c_partWord) (c_readLaw := c_readLaw) (c_readBound := c_readBound) (c_readGoal := c_readGoal) (c_readSites := c_readSites) (c_scripts := c_scripts) (c_sites := c_sites) (c_asked := c_asked) (c_outcome := c_outcome) (c_took := c_took) (c_acts := c_acts) (c_drawn := c_drawn) (c_racer := c_racer) (c_raced := c_raced) (c_spelledMany := c_spelledMany) (c_hasImage := c_hasImage) (c_now := c_now) hx hb hml hown hts hK hN hP K (0 : Int32) (0 : Int32) x1_8 hL_9 ?_ ls (lv_sub hl [2, 1, 0] rfl)
  ·
    intro ls hl
    refine lv_iload_n hx hb dX8_stillOnes_69 rfl (lv_at hl 0 rfl) ?_
    rw [hQ]
    obtain e9_0 := inj1 hF
    exact W.iret (v := x1_8) hx hb hr (fun tt ht hW => ⟨_, rfl, e9_0, ht⟩) (fun _ h => by cases h) dX8_stillOnes_70

def F_X8_most (K : Nat) (p1 : Int32) (c_now : Nat → Int32) (c_sites : Int32) : Option (Int32) :=
  bd1 (F_X8_isWatch c_sites) (fun r_1 => if r_1 = (0 : Int32) then some (-100000000 : Int32) else bd1 (F_X8_in p1.toInt64 (0 : Int64) (11 : Int64)) (fun r_5 => if r_5 = (0 : Int32) then some (-100000000 : Int32) else if p1 = (6 : Int32) then bd1 (F_X8_quietOnes K c_now c_sites) (fun r_10 => some r_10) else if p1 = (7 : Int32) then bd1 (F_X8_slackOnes K c_now c_sites) (fun r_12 => some r_12) else if p1 = (8 : Int32) then bd1 (F_X8_sum K (32 : Int32) c_now c_sites) (fun r_14 => some r_14) else if p1 = (9 : Int32) then bd1 (F_X8_sum K (40 : Int32) c_now c_sites) (fun r_16 => some r_16) else if p1 = (10 : Int32) then bd1 (F_X8_stillOnes K c_now c_sites) (fun r_18 => some r_18) else if p1 = (11 : Int32) then bd1 (F_X8_frozenOnes K c_now c_sites) (fun r_20 => some r_20) else ixF ((67 : Int32) + p1) 265 (some (c_now ((67 : Int32) + p1).toNatClampNeg))))
abbrev w_X8_most (E : EE) (a_ a_tape a_readPlace a_script a_scriptLong a_now a_refused a_shareX a_shareY a_askedRow a_kept a_aside a_spelled a_image : Nat) (c_thrown : Int32) (c_taped : Int32) (c_at : Int32) (c_part : Int32) (c_partFrom : Int32) (c_partNumber : Int32) (c_wrong : Int32) (c_partWord : Int64) (c_readLaw : Int32) (c_readBound : Int32) (c_readGoal : Int32) (c_readSites : Int32) (c_scripts : Int32) (c_sites : Int32) (c_asked : Int32) (c_outcome : Int32) (c_took : Int32) (c_acts : Int32) (c_drawn : Int64) (c_racer : Int32) (c_raced : Int32) (c_spelledMany : Int32) (c_hasImage : Int32) (c_now : Nat → Int32) : va_W := [(a_, .inr (9, [.int c_thrown, .ref a_tape, .int c_taped, .int c_at, .int c_part, .int c_partFrom, .int c_partNumber, .int c_wrong, .long c_partWord, .int c_readLaw, .int c_readBound, .int c_readGoal, .int c_readSites, .ref a_readPlace, .ref a_script, .ref a_scriptLong, .int c_scripts, .ref a_now, .ref a_refused, .int c_sites, .ref a_shareX, .ref a_shareY, .int c_asked, .int c_outcome, .ref a_askedRow, .int c_took, .ref a_kept, .int c_acts, .long c_drawn, .ref a_aside, .int c_racer, .int c_raced, .ref a_spelled, .int c_spelledMany, .ref a_image, .int c_hasImage])), (a_now, .inl (E.2.1, 265, .inl c_now))]
def v_f_X8_most : List Cond := .code yX8_most cX8_most 2 (some .int) :: ([.constant RX8 182 (-100000000), .constantLong RX8 442 (11), .fieldLink RX8 22 "HushWatchModel" "now" "[I", .methodLink RX8 299 yX8_isWatch, .instanceMethod yX8_isWatch, .selects RX8 yX8_isWatch yX8_isWatch, .initialized RX8, .methodLink RX8 60 yX8_in, .static yX8_in, .methodLink RX8 444 yX8_quietOnes, .instanceMethod yX8_quietOnes, .selects RX8 yX8_quietOnes yX8_quietOnes, .methodLink RX8 447 yX8_slackOnes, .instanceMethod yX8_slackOnes, .selects RX8 yX8_slackOnes yX8_slackOnes, .methodLink RX8 199 yX8_sum, .instanceMethod yX8_sum, .selects RX8 yX8_sum yX8_sum, .methodLink RX8 450 yX8_stillOnes, .instanceMethod yX8_stillOnes, .selects RX8 yX8_stillOnes yX8_stillOnes, .methodLink RX8 296 yX8_frozenOnes, .instanceMethod yX8_frozenOnes, .selects RX8 yX8_frozenOnes yX8_frozenOnes] ++ (v_f_X8_isWatch ++ (v_f_X8_in ++ (v_f_X8_quietOnes ++ (v_f_X8_slackOnes ++ (v_f_X8_sum ++ (v_f_X8_stillOnes ++ (v_f_X8_frozenOnes ++ (wsX80 ++ ([]))))))))))
theorem gw_f_X8_most : v_f_X8_most.all goodWord = true := by decide +kernel
theorem i_f_X8_most_X8 : ∀ w ∈ wsX80, w ∈ v_f_X8_most := fun _ h => List.mem_cons_of_mem _ (List.mem_append_right _ (List.mem_append_right _ (List.mem_append_right _ (List.mem_append_right _ (List.mem_append_right _ (List.mem_append_right _ (List.mem_append_right _ (List.mem_append_right _ (List.mem_append_left _ h)))))))))
theorem g_f_X8_most_f_X8_isWatch_299 : GoodIn v_f_X8_most (wsV RX8 299 RX8 yX8_isWatch v_f_X8_isWatch) := goodIn_app (goodIn_of _ (by decide +kernel)) (goodIn_sub (fun _ h => List.mem_cons_of_mem _ (List.mem_append_right _ (List.mem_append_left _ h))) gw_f_X8_isWatch)
theorem g_f_X8_most_f_X8_in_60 : GoodIn v_f_X8_most (va_wsS RX8 60 yX8_in v_f_X8_in) := goodIn_app (goodIn_of _ (by decide +kernel)) (goodIn_sub (fun _ h => List.mem_cons_of_mem _ (List.mem_append_right _ (List.mem_append_right _ (List.mem_append_left _ h)))) gw_f_X8_in)
theorem g_f_X8_most_f_X8_quietOnes_444 : GoodIn v_f_X8_most (wsV RX8 444 RX8 yX8_quietOnes v_f_X8_quietOnes) := goodIn_app (goodIn_of _ (by decide +kernel)) (goodIn_sub (fun _ h => List.mem_cons_of_mem _ (List.mem_append_right _ (List.mem_append_right _ (List.mem_append_right _ (List.mem_append_left _ h))))) gw_f_X8_quietOnes)
theorem g_f_X8_most_f_X8_slackOnes_447 : GoodIn v_f_X8_most (wsV RX8 447 RX8 yX8_slackOnes v_f_X8_slackOnes) := goodIn_app (goodIn_of _ (by decide +kernel)) (goodIn_sub (fun _ h => List.mem_cons_of_mem _ (List.mem_append_right _ (List.mem_append_right _ (List.mem_append_right _ (List.mem_append_right _ (List.mem_append_left _ h)))))) gw_f_X8_slackOnes)
theorem g_f_X8_most_f_X8_sum_199 : GoodIn v_f_X8_most (wsV RX8 199 RX8 yX8_sum v_f_X8_sum) := goodIn_app (goodIn_of _ (by decide +kernel)) (goodIn_sub (fun _ h => List.mem_cons_of_mem _ (List.mem_append_right _ (List.mem_append_right _ (List.mem_append_right _ (List.mem_append_right _ (List.mem_append_right _ (List.mem_append_left _ h))))))) gw_f_X8_sum)
theorem g_f_X8_most_f_X8_stillOnes_450 : GoodIn v_f_X8_most (wsV RX8 450 RX8 yX8_stillOnes v_f_X8_stillOnes) := goodIn_app (goodIn_of _ (by decide +kernel)) (goodIn_sub (fun _ h => List.mem_cons_of_mem _ (List.mem_append_right _ (List.mem_append_right _ (List.mem_append_right _ (List.mem_append_right _ (List.mem_append_right _ (List.mem_append_right _ (List.mem_append_left _ h)))))))) gw_f_X8_stillOnes)
theorem g_f_X8_most_f_X8_frozenOnes_296 : GoodIn v_f_X8_most (wsV RX8 296 RX8 yX8_frozenOnes v_f_X8_frozenOnes) := goodIn_app (goodIn_of _ (by decide +kernel)) (goodIn_sub (fun _ h => List.mem_cons_of_mem _ (List.mem_append_right _ (List.mem_append_right _ (List.mem_append_right _ (List.mem_append_right _ (List.mem_append_right _ (List.mem_append_right _ (List.mem_append_right _ (List.mem_append_left _ h))))))))) gw_f_X8_frozenOnes)
set_option maxHeartbeats 4000000 in
set_option maxRecDepth 100000 in
theorem f_X8_most (l : Launch) (E : EE) (K : Nat) {a_ a_tape a_readPlace a_script a_scriptLong a_now a_refused a_shareX a_shareY a_askedRow a_kept a_aside a_spelled a_image : Nat} {p1 : Int32} {c_thrown : Int32} {c_taped : Int32} {c_at : Int32} {c_part : Int32} {c_partFrom : Int32} {c_partNumber : Int32} {c_wrong : Int32} {c_partWord : Int64} {c_readLaw : Int32} {c_readBound : Int32} {c_readGoal : Int32} {c_readSites : Int32} {c_scripts : Int32} {c_sites : Int32} {c_asked : Int32} {c_outcome : Int32} {c_took : Int32} {c_acts : Int32} {c_drawn : Int64} {c_racer : Int32} {c_raced : Int32} {c_spelledMany : Int32} {c_hasImage : Int32} {c_now : Nat → Int32} {rr : Int32} (hF : F_X8_most K p1 c_now c_sites = some rr) : Met l yX8_most v_f_X8_most (({ frames := 5, cells := 0, slots := 0, locals := 115 } : Room)) (va_Pc [.ref a_, .int p1] (pP E (w_X8_most E a_ a_tape a_readPlace a_script a_scriptLong a_now a_refused a_shareX a_shareY a_askedRow a_kept a_aside a_spelled a_image c_thrown c_taped c_at c_part c_partFrom c_partNumber c_wrong c_partWord c_readLaw c_readBound c_readGoal c_readSites c_scripts c_sites c_asked c_outcome c_took c_acts c_drawn c_racer c_raced c_spelledMany c_hasImage c_now))) (vp_Si (fun q : Int32 => q = rr)) 0 0 (fun _ => False) := by
  refine Met.ofW (cc := cX8_most) (maxL := 2) (ret := (some .int)) (by decide) rfl ?_
  intro p e s m args below meth c s₁ B hml hv
  obtain ⟨rfl, ⟨hK, hN⟩, hP⟩ := hv
  have hx := B.exec
  have hb := B.bytes
  have hr := B.returns
  have hts := atoms_spec (ws := v_f_X8_most) B.pre
  have hown : s.vm.findClass RX8 = some m.cls := findClass_of_methodNamed B.named
  have hlocks : meth.locks = false := B.notSynchronized
  replace hP : va_P E.1 vwCl [(a_, .inr (9, [.int c_thrown, .ref a_tape, .int c_taped, .int c_at, .int c_part, .int c_partFrom, .int c_partNumber, .int c_wrong, .long c_partWord, .int c_readLaw, .int c_readBound, .int c_readGoal, .int c_readSites, .ref a_readPlace, .ref a_script, .ref a_scriptLong, .int c_scripts, .ref a_now, .ref a_refused, .int c_sites, .ref a_shareX, .ref a_shareY, .int c_asked, .int c_outcome, .ref a_askedRow, .int c_took, .ref a_kept, .int c_acts, .long c_drawn, .ref a_aside, .int c_racer, .int c_raced, .ref a_spelled, .int c_spelledMany, .ref a_image, .int c_hasImage])), (a_now, .inl (E.2.1, 265, .inl c_now))] s.heap := hP
  have hl := lv_entry ([.ref a_, .int p1]) (n := 2) (Nat.le_of_ble_eq_true rfl)
  rw [lg_entry_eq]
  generalize (lg_sl ([.ref a_, .int p1]) ++ List.replicate (2 - (lg_sl ([.ref a_, .int p1])).length) Slot.unset).toArray = ls at hl ⊢
  have hl : lv_has ls 2 [(0, .ref a_), (1, .int p1)] := hl
  obtain ⟨Q, hQ⟩ : ∃ Q : State → Prop, Q = MQ below (vp_Si (fun q : Int32 => q = rr)) #[Value.ref a_, Value.int p1] s 0 0 (fun _ => False) := ⟨_, rfl⟩
  rw [← hQ]
  change W p l e ({ frames := 5, cells := 0, slots := 0, locals := 115 } : Room) s m #[Value.ref a_, Value.int p1] below meth c s.heap [] 0 0 Q (F0 m 0 ls [])
  unfold F_X8_most at hF
  refine lv_aload_n hx hb dX8_most_0 rfl (lv_at hl 0 rfl) ?_
  replace hF := bd1_s hF
  obtain ⟨r_1, hc_2, hF⟩ := hF
  have hPc := hP.sub (ws' := [(a_, .inr (9, [.int c_thrown, .ref a_tape, .int c_taped, .int c_at, .int c_part, .int c_partFrom, .int c_partNumber, .int c_wrong, .long c_partWord, .int c_readLaw, .int c_readBound, .int c_readGoal, .int c_readSites, .ref a_readPlace, .ref a_script, .ref a_scriptLong, .int c_scripts, .ref a_now, .ref a_refused, .int c_sites, .ref a_shareX, .ref a_shareY, .int c_asked, .int c_outcome, .ref a_askedRow, .int c_took, .ref a_kept, .int c_acts, .long c_drawn, .ref a_aside, .int c_racer, .int c_raced, .ref a_spelled, .int c_spelledMany, .ref a_image, .int c_hasImage]))]) [0] rfl
  refine pE_z (va_runV (As := []) (rest := []) ⟨hx, hb, hml, hown, hts⟩ (f_X8_isWatch l E (a_ := a_) (a_tape := a_tape) (a_readPlace := a_readPlace) (a_script := a_script) (a_scriptLong := a_scriptLong) (a_now := a_now) (a_refused := a_refused) (a_shareX := a_shareX) (a_shareY := a_shareY) (a_askedRow := a_askedRow) (a_kept := a_kept) (a_aside := a_aside) (a_spelled := a_spelled) (a_image := a_image) (c_thrown := c_thrown) (c_taped := c_taped) (c_at := c_at) (c_part := c_part) (c_partFrom := c_partFrom) (c_partNumber := c_partNumber) (c_wrong := c_wrong) (c_partWord := c_partWord) (c_readLaw := c_readLaw) (c_readBound := c_readBound) (c_readGoal := c_readGoal) (c_readSites := c_readSites) (c_scripts := c_scripts) (c_sites := c_sites) (c_asked := c_asked) (c_outcome := c_outcome) (c_took := c_took) (c_acts := c_acts) (c_drawn := c_drawn) (c_racer := c_racer) (c_raced := c_raced) (c_spelledMany := c_spelledMany) (c_hasImage := c_hasImage) hc_2) (cwV 0 hts g_f_X8_most_f_X8_isWatch_299 rfl rfl rfl (by decide +kernel) ⟨Nat.le_of_ble_eq_true rfl, Nat.le_of_ble_eq_true rfl⟩) ⟨pP.blind, va_recv hK hPc (ci := 9) (q0 := 0) rfl rfl, (pP.pre ⟨hK, hN⟩ hPc)⟩ rfl rfl hl.1 rfl (lv_room (Nat.le_of_ble_eq_true rfl)) dX8_most_1 ⟨Nat.le_of_ble_eq_true rfl, Nat.le_of_ble_eq_true rfl⟩) (fun hb_3 => ?_)
  refine lv_if_eq (tgt := 19) hx hb dX8_most_4 (by decide) (fun c_4 => ?_) (fun c_4 => ?_)
  ·
    replace hF := ip c_4 hF
    refine lv_ldc (v := -100000000) hx hb hown (hts (.constant RX8 182 (-100000000)) (List.mem_of_getElem? (i := 1) rfl)) dX8_most_19 ?_
    rw [hQ]
    obtain e9_0 := inj1 hF
    exact W.iret (v := (-100000000 : Int32)) hx hb hr (fun tt ht hW => ⟨_, rfl, e9_0, ht⟩) (fun _ h => by cases h) dX8_most_21
  ·
    replace hF := inn c_4 hF
    refine lv_iload_n hx hb dX8_most_7 rfl (lv_at hl 1 rfl) ?_
    refine lv_i2l (v := p1.toInt64) hx hb dX8_most_8 rfl ?_
    refine lv_lconst (v := 0) hx hb dX8_most_9 (by decide) ?_
    refine lv_ldc2 (v := 11) hx hb hown (hts (.constantLong RX8 442 (11)) (List.mem_of_getElem? (i := 2) rfl)) dX8_most_10 ?_
    replace hF := bd1_s hF
    obtain ⟨r_5, hc_6, hF⟩ := hF
    have hPc : va_P E.1 vwCl [] s.heap := fun k q h => by simp at h
    refine pE_z (va_runS (As := [.long p1.toInt64, .long (0 : Int64), .long (11 : Int64)]) (rest := []) ⟨hx, hb, hml, hown, hts⟩ (f_X8_in l E (p0 := p1.toInt64) (p1 := (0 : Int64)) (p2 := (11 : Int64)) hc_6) (va_cwS 3 hts g_f_X8_most_f_X8_in_60 rfl rfl rfl (by decide +kernel) ⟨Nat.le_of_ble_eq_true rfl, Nat.le_of_ble_eq_true rfl⟩) ⟨pP.blind, (pP.pre ⟨hK, hN⟩ hPc)⟩ rfl rfl hl.1 rfl (lv_room (Nat.le_of_ble_eq_true rfl)) dX8_most_13 ⟨Nat.le_of_ble_eq_true rfl, Nat.le_of_ble_eq_true rfl⟩) (fun hb_7 => ?_)
    refine lv_if_ne (tgt := 22) hx hb dX8_most_16 (by decide) (fun c_8 => ?_) (fun c_8 => ?_)
    ·
      replace hF := inn c_8 hF
      refine lv_iload_n hx hb dX8_most_22 rfl (lv_at hl 1 rfl) ?_
      rcases Classical.em (p1 = (6 : Int32)) with c_9_6 | c_9_6
      ·
        replace hF := ip c_9_6 hF
        refine lv_tableIn (off := 37) (tgt := 60) hx hb dX8_most_23 (by rw [c_9_6]; decide) (by rw [c_9_6]; decide) (by rw [c_9_6]; decide) (by decide) ?_
        refine lv_aload_n hx hb dX8_most_60 rfl (lv_at hl 0 rfl) ?_
        replace hF := bd1_s hF
        obtain ⟨r_10, hc_11, hF⟩ := hF
        have hPc := hP.sub (ws' := [(a_, .inr (9, [.int c_thrown, .ref a_tape, .int c_taped, .int c_at, .int c_part, .int c_partFrom, .int c_partNumber, .int c_wrong, .long c_partWord, .int c_readLaw, .int c_readBound, .int c_readGoal, .int c_readSites, .ref a_readPlace, .ref a_script, .ref a_scriptLong, .int c_scripts, .ref a_now, .ref a_refused, .int c_sites, .ref a_shareX, .ref a_shareY, .int c_asked, .int c_outcome, .ref a_askedRow, .int c_took, .ref a_kept, .int c_acts, .long c_drawn, .ref a_aside, .int c_racer, .int c_raced, .ref a_spelled, .int c_spelledMany, .ref a_image, .int c_hasImage])), (a_now, .inl (E.2.1, 265, .inl c_now))]) [0, 1] rfl
        refine pE_i (va_runV (As := []) (rest := []) ⟨hx, hb, hml, hown, hts⟩ (f_X8_quietOnes l E K (a_ := a_) (a_tape := a_tape) (a_readPlace := a_readPlace) (a_script := a_script) (a_scriptLong := a_scriptLong) (a_now := a_now) (a_refused := a_refused) (a_shareX := a_shareX) (a_shareY := a_shareY) (a_askedRow := a_askedRow) (a_kept := a_kept) (a_aside := a_aside) (a_spelled := a_spelled) (a_image := a_image) (c_thrown := c_thrown) (c_taped := c_taped) (c_at := c_at) (c_part := c_part) (c_partFrom := c_partFrom) (c_partNumber := c_partNumber) (c_wrong := c_wrong) (c_partWord := c_partWord) (c_readLaw := c_readLaw) (c_readBound := c_readBound) (c_readGoal := c_readGoal) (c_readSites := c_readSites) (c_scripts := c_scripts) (c_sites := c_sites) (c_asked := c_asked) (c_outcome := c_outcome) (c_took := c_took) (c_acts := c_acts) (c_drawn := c_drawn) (c_racer := c_racer) (c_raced := c_raced) (c_spelledMany := c_spelledMany) (c_hasImage := c_hasImage) (c_now := c_now) hc_11) (cwV 0 hts g_f_X8_most_f_X8_quietOnes_444 rfl rfl rfl (by decide +kernel) ⟨Nat.le_of_ble_eq_true rfl, Nat.le_of_ble_eq_true rfl⟩) ⟨pP.blind, va_recv hK hPc (ci := 9) (q0 := 0) rfl rfl, (pP.pre ⟨hK, hN⟩ hPc)⟩ rfl rfl hl.1 rfl (lv_room (Nat.le_of_ble_eq_true rfl)) dX8_most_61 ⟨Nat.le_of_ble_eq_true rfl, Nat.le_of_ble_eq_true rfl⟩) ?_
        rw [hQ]
        obtain e9_0 := inj1 hF
        exact W.iret (v := r_10) hx hb hr (fun tt ht hW => ⟨_, rfl, e9_0, ht⟩) (fun _ h => by cases h) dX8_most_64
      replace hF := inn c_9_6 hF
      rcases Classical.em (p1 = (7 : Int32)) with c_9_7 | c_9_7
      ·
        replace hF := ip c_9_7 hF
        refine lv_tableIn (off := 42) (tgt := 65) hx hb dX8_most_23 (by rw [c_9_7]; decide) (by rw [c_9_7]; decide) (by rw [c_9_7]; decide) (by decide) ?_
        refine lv_aload_n hx hb dX8_most_65 rfl (lv_at hl 0 rfl) ?_
        replace hF := bd1_s hF
        obtain ⟨r_12, hc_13, hF⟩ := hF
        have hPc := hP.sub (ws' := [(a_, .inr (9, [.int c_thrown, .ref a_tape, .int c_taped, .int c_at, .int c_part, .int c_partFrom, .int c_partNumber, .int c_wrong, .long c_partWord, .int c_readLaw, .int c_readBound, .int c_readGoal, .int c_readSites, .ref a_readPlace, .ref a_script, .ref a_scriptLong, .int c_scripts, .ref a_now, .ref a_refused, .int c_sites, .ref a_shareX, .ref a_shareY, .int c_asked, .int c_outcome, .ref a_askedRow, .int c_took, .ref a_kept, .int c_acts, .long c_drawn, .ref a_aside, .int c_racer, .int c_raced, .ref a_spelled, .int c_spelledMany, .ref a_image, .int c_hasImage])), (a_now, .inl (E.2.1, 265, .inl c_now))]) [0, 1] rfl
        refine pE_i (va_runV (As := []) (rest := []) ⟨hx, hb, hml, hown, hts⟩ (f_X8_slackOnes l E K (a_ := a_) (a_tape := a_tape) (a_readPlace := a_readPlace) (a_script := a_script) (a_scriptLong := a_scriptLong) (a_now := a_now) (a_refused := a_refused) (a_shareX := a_shareX) (a_shareY := a_shareY) (a_askedRow := a_askedRow) (a_kept := a_kept) (a_aside := a_aside) (a_spelled := a_spelled) (a_image := a_image) (c_thrown := c_thrown) (c_taped := c_taped) (c_at := c_at) (c_part := c_part) (c_partFrom := c_partFrom) (c_partNumber := c_partNumber) (c_wrong := c_wrong) (c_partWord := c_partWord) (c_readLaw := c_readLaw) (c_readBound := c_readBound) (c_readGoal := c_readGoal) (c_readSites := c_readSites) (c_scripts := c_scripts) (c_sites := c_sites) (c_asked := c_asked) (c_outcome := c_outcome) (c_took := c_took) (c_acts := c_acts) (c_drawn := c_drawn) (c_racer := c_racer) (c_raced := c_raced) (c_spelledMany := c_spelledMany) (c_hasImage := c_hasImage) (c_now := c_now) hc_13) (cwV 0 hts g_f_X8_most_f_X8_slackOnes_447 rfl rfl rfl (by decide +kernel) ⟨Nat.le_of_ble_eq_true rfl, Nat.le_of_ble_eq_true rfl⟩) ⟨pP.blind, va_recv hK hPc (ci := 9) (q0 := 0) rfl rfl, (pP.pre ⟨hK, hN⟩ hPc)⟩ rfl rfl hl.1 rfl (lv_room (Nat.le_of_ble_eq_true rfl)) dX8_most_66 ⟨Nat.le_of_ble_eq_true rfl, Nat.le_of_ble_eq_true rfl⟩) ?_
        rw [hQ]
        obtain e9_0 := inj1 hF
        exact W.iret (v := r_12) hx hb hr (fun tt ht hW => ⟨_, rfl, e9_0, ht⟩) (fun _ h => by cases h) dX8_most_69
      replace hF := inn c_9_7 hF
      rcases Classical.em (p1 = (8 : Int32)) with c_9_8 | c_9_8
      ·
        replace hF := ip c_9_8 hF
        refine lv_tableIn (off := 47) (tgt := 70) hx hb dX8_most_23 (by rw [c_9_8]; decide) (by rw [c_9_8]; decide) (by rw [c_9_8]; decide) (by decide) ?_
        refine lv_aload_n hx hb dX8_most_70 rfl (lv_at hl 0 rfl) ?_
        refine lv_bipush (v := 32) hx hb dX8_most_71 (by decide) ?_
        replace hF := bd1_s hF
        obtain ⟨r_14, hc_15, hF⟩ := hF
        have hPc := hP.sub (ws' := [(a_, .inr (9, [.int c_thrown, .ref a_tape, .int c_taped, .int c_at, .int c_part, .int c_partFrom, .int c_partNumber, .int c_wrong, .long c_partWord, .int c_readLaw, .int c_readBound, .int c_readGoal, .int c_readSites, .ref a_readPlace, .ref a_script, .ref a_scriptLong, .int c_scripts, .ref a_now, .ref a_refused, .int c_sites, .ref a_shareX, .ref a_shareY, .int c_asked, .int c_outcome, .ref a_askedRow, .int c_took, .ref a_kept, .int c_acts, .long c_drawn, .ref a_aside, .int c_racer, .int c_raced, .ref a_spelled, .int c_spelledMany, .ref a_image, .int c_hasImage])), (a_now, .inl (E.2.1, 265, .inl c_now))]) [0, 1] rfl
        refine pE_i (va_runV (As := [.int (32 : Int32)]) (rest := []) ⟨hx, hb, hml, hown, hts⟩ (f_X8_sum l E K (a_ := a_) (a_tape := a_tape) (a_readPlace := a_readPlace) (a_script := a_script) (a_scriptLong := a_scriptLong) (a_now := a_now) (a_refused := a_refused) (a_shareX := a_shareX) (a_shareY := a_shareY) (a_askedRow := a_askedRow) (a_kept := a_kept) (a_aside := a_aside) (a_spelled := a_spelled) (a_image := a_image) (p1 := (32 : Int32)) (c_thrown := c_thrown) (c_taped := c_taped) (c_at := c_at) (c_part := c_part) (c_partFrom := c_partFrom) (c_partNumber := c_partNumber) (c_wrong := c_wrong) (c_partWord := c_partWord) (c_readLaw := c_readLaw) (c_readBound := c_readBound) (c_readGoal := c_readGoal) (c_readSites := c_readSites) (c_scripts := c_scripts) (c_sites := c_sites) (c_asked := c_asked) (c_outcome := c_outcome) (c_took := c_took) (c_acts := c_acts) (c_drawn := c_drawn) (c_racer := c_racer) (c_raced := c_raced) (c_spelledMany := c_spelledMany) (c_hasImage := c_hasImage) (c_now := c_now) hc_15) (cwV 1 hts g_f_X8_most_f_X8_sum_199 rfl rfl rfl (by decide +kernel) ⟨Nat.le_of_ble_eq_true rfl, Nat.le_of_ble_eq_true rfl⟩) ⟨pP.blind, va_recv hK hPc (ci := 9) (q0 := 0) rfl rfl, (pP.pre ⟨hK, hN⟩ hPc)⟩ rfl rfl hl.1 rfl (lv_room (Nat.le_of_ble_eq_true rfl)) dX8_most_73 ⟨Nat.le_of_ble_eq_true rfl, Nat.le_of_ble_eq_true rfl⟩) ?_
        rw [hQ]
        obtain e9_0 := inj1 hF
        exact W.iret (v := r_14) hx hb hr (fun tt ht hW => ⟨_, rfl, e9_0, ht⟩) (fun _ h => by cases h) dX8_most_76
      replace hF := inn c_9_8 hF
      rcases Classical.em (p1 = (9 : Int32)) with c_9_9 | c_9_9
      ·
        replace hF := ip c_9_9 hF
        refine lv_tableIn (off := 54) (tgt := 77) hx hb dX8_most_23 (by rw [c_9_9]; decide) (by rw [c_9_9]; decide) (by rw [c_9_9]; decide) (by decide) ?_
        refine lv_aload_n hx hb dX8_most_77 rfl (lv_at hl 0 rfl) ?_
        refine lv_bipush (v := 40) hx hb dX8_most_78 (by decide) ?_
        replace hF := bd1_s hF
        obtain ⟨r_16, hc_17, hF⟩ := hF
        have hPc := hP.sub (ws' := [(a_, .inr (9, [.int c_thrown, .ref a_tape, .int c_taped, .int c_at, .int c_part, .int c_partFrom, .int c_partNumber, .int c_wrong, .long c_partWord, .int c_readLaw, .int c_readBound, .int c_readGoal, .int c_readSites, .ref a_readPlace, .ref a_script, .ref a_scriptLong, .int c_scripts, .ref a_now, .ref a_refused, .int c_sites, .ref a_shareX, .ref a_shareY, .int c_asked, .int c_outcome, .ref a_askedRow, .int c_took, .ref a_kept, .int c_acts, .long c_drawn, .ref a_aside, .int c_racer, .int c_raced, .ref a_spelled, .int c_spelledMany, .ref a_image, .int c_hasImage])), (a_now, .inl (E.2.1, 265, .inl c_now))]) [0, 1] rfl
        refine pE_i (va_runV (As := [.int (40 : Int32)]) (rest := []) ⟨hx, hb, hml, hown, hts⟩ (f_X8_sum l E K (a_ := a_) (a_tape := a_tape) (a_readPlace := a_readPlace) (a_script := a_script) (a_scriptLong := a_scriptLong) (a_now := a_now) (a_refused := a_refused) (a_shareX := a_shareX) (a_shareY := a_shareY) (a_askedRow := a_askedRow) (a_kept := a_kept) (a_aside := a_aside) (a_spelled := a_spelled) (a_image := a_image) (p1 := (40 : Int32)) (c_thrown := c_thrown) (c_taped := c_taped) (c_at := c_at) (c_part := c_part) (c_partFrom := c_partFrom) (c_partNumber := c_partNumber) (c_wrong := c_wrong) (c_partWord := c_partWord) (c_readLaw := c_readLaw) (c_readBound := c_readBound) (c_readGoal := c_readGoal) (c_readSites := c_readSites) (c_scripts := c_scripts) (c_sites := c_sites) (c_asked := c_asked) (c_outcome := c_outcome) (c_took := c_took) (c_acts := c_acts) (c_drawn := c_drawn) (c_racer := c_racer) (c_raced := c_raced) (c_spelledMany := c_spelledMany) (c_hasImage := c_hasImage) (c_now := c_now) hc_17) (cwV 1 hts g_f_X8_most_f_X8_sum_199 rfl rfl rfl (by decide +kernel) ⟨Nat.le_of_ble_eq_true rfl, Nat.le_of_ble_eq_true rfl⟩) ⟨pP.blind, va_recv hK hPc (ci := 9) (q0 := 0) rfl rfl, (pP.pre ⟨hK, hN⟩ hPc)⟩ rfl rfl hl.1 rfl (lv_room (Nat.le_of_ble_eq_true rfl)) dX8_most_80 ⟨Nat.le_of_ble_eq_true rfl, Nat.le_of_ble_eq_true rfl⟩) ?_
        rw [hQ]
        obtain e9_0 := inj1 hF
        exact W.iret (v := r_16) hx hb hr (fun tt ht hW => ⟨_, rfl, e9_0, ht⟩) (fun _ h => by cases h) dX8_most_83
      replace hF := inn c_9_9 hF
      rcases Classical.em (p1 = (10 : Int32)) with c_9_10 | c_9_10
      ·
        replace hF := ip c_9_10 hF
        refine lv_tableIn (off := 61) (tgt := 84) hx hb dX8_most_23 (by rw [c_9_10]; decide) (by rw [c_9_10]; decide) (by rw [c_9_10]; decide) (by decide) ?_
        refine lv_aload_n hx hb dX8_most_84 rfl (lv_at hl 0 rfl) ?_
        replace hF := bd1_s hF
        obtain ⟨r_18, hc_19, hF⟩ := hF
        have hPc := hP.sub (ws' := [(a_, .inr (9, [.int c_thrown, .ref a_tape, .int c_taped, .int c_at, .int c_part, .int c_partFrom, .int c_partNumber, .int c_wrong, .long c_partWord, .int c_readLaw, .int c_readBound, .int c_readGoal, .int c_readSites, .ref a_readPlace, .ref a_script, .ref a_scriptLong, .int c_scripts, .ref a_now, .ref a_refused, .int c_sites, .ref a_shareX, .ref a_shareY, .int c_asked, .int c_outcome, .ref a_askedRow, .int c_took, .ref a_kept, .int c_acts, .long c_drawn, .ref a_aside, .int c_racer, .int c_raced, .ref a_spelled, .int c_spelledMany, .ref a_image, .int c_hasImage])), (a_now, .inl (E.2.1, 265, .inl c_now))]) [0, 1] rfl
        refine pE_i (va_runV (As := []) (rest := []) ⟨hx, hb, hml, hown, hts⟩ (f_X8_stillOnes l E K (a_ := a_) (a_tape := a_tape) (a_readPlace := a_readPlace) (a_script := a_script) (a_scriptLong := a_scriptLong) (a_now := a_now) (a_refused := a_refused) (a_shareX := a_shareX) (a_shareY := a_shareY) (a_askedRow := a_askedRow) (a_kept := a_kept) (a_aside := a_aside) (a_spelled := a_spelled) (a_image := a_image) (c_thrown := c_thrown) (c_taped := c_taped) (c_at := c_at) (c_part := c_part) (c_partFrom := c_partFrom) (c_partNumber := c_partNumber) (c_wrong := c_wrong) (c_partWord := c_partWord) (c_readLaw := c_readLaw) (c_readBound := c_readBound) (c_readGoal := c_readGoal) (c_readSites := c_readSites) (c_scripts := c_scripts) (c_sites := c_sites) (c_asked := c_asked) (c_outcome := c_outcome) (c_took := c_took) (c_acts := c_acts) (c_drawn := c_drawn) (c_racer := c_racer) (c_raced := c_raced) (c_spelledMany := c_spelledMany) (c_hasImage := c_hasImage) (c_now := c_now) hc_19) (cwV 0 hts g_f_X8_most_f_X8_stillOnes_450 rfl rfl rfl (by decide +kernel) ⟨Nat.le_of_ble_eq_true rfl, Nat.le_of_ble_eq_true rfl⟩) ⟨pP.blind, va_recv hK hPc (ci := 9) (q0 := 0) rfl rfl, (pP.pre ⟨hK, hN⟩ hPc)⟩ rfl rfl hl.1 rfl (lv_room (Nat.le_of_ble_eq_true rfl)) dX8_most_85 ⟨Nat.le_of_ble_eq_true rfl, Nat.le_of_ble_eq_true rfl⟩) ?_
        rw [hQ]
        obtain e9_0 := inj1 hF
        exact W.iret (v := r_18) hx hb hr (fun tt ht hW => ⟨_, rfl, e9_0, ht⟩) (fun _ h => by cases h) dX8_most_88
      replace hF := inn c_9_10 hF
      rcases Classical.em (p1 = (11 : Int32)) with c_9_11 | c_9_11
      ·
        replace hF := ip c_9_11 hF
        refine lv_tableIn (off := 66) (tgt := 89) hx hb dX8_most_23 (by rw [c_9_11]; decide) (by rw [c_9_11]; decide) (by rw [c_9_11]; decide) (by decide) ?_
        refine lv_aload_n hx hb dX8_most_89 rfl (lv_at hl 0 rfl) ?_
        replace hF := bd1_s hF
        obtain ⟨r_20, hc_21, hF⟩ := hF
        have hPc := hP.sub (ws' := [(a_, .inr (9, [.int c_thrown, .ref a_tape, .int c_taped, .int c_at, .int c_part, .int c_partFrom, .int c_partNumber, .int c_wrong, .long c_partWord, .int c_readLaw, .int c_readBound, .int c_readGoal, .int c_readSites, .ref a_readPlace, .ref a_script, .ref a_scriptLong, .int c_scripts, .ref a_now, .ref a_refused, .int c_sites, .ref a_shareX, .ref a_shareY, .int c_asked, .int c_outcome, .ref a_askedRow, .int c_took, .ref a_kept, .int c_acts, .long c_drawn, .ref a_aside, .int c_racer, .int c_raced, .ref a_spelled, .int c_spelledMany, .ref a_image, .int c_hasImage])), (a_now, .inl (E.2.1, 265, .inl c_now))]) [0, 1] rfl
        refine pE_i (va_runV (As := []) (rest := []) ⟨hx, hb, hml, hown, hts⟩ (f_X8_frozenOnes l E K (a_ := a_) (a_tape := a_tape) (a_readPlace := a_readPlace) (a_script := a_script) (a_scriptLong := a_scriptLong) (a_now := a_now) (a_refused := a_refused) (a_shareX := a_shareX) (a_shareY := a_shareY) (a_askedRow := a_askedRow) (a_kept := a_kept) (a_aside := a_aside) (a_spelled := a_spelled) (a_image := a_image) (c_thrown := c_thrown) (c_taped := c_taped) (c_at := c_at) (c_part := c_part) (c_partFrom := c_partFrom) (c_partNumber := c_partNumber) (c_wrong := c_wrong) (c_partWord := c_partWord) (c_readLaw := c_readLaw) (c_readBound := c_readBound) (c_readGoal := c_readGoal) (c_readSites := c_readSites) (c_scripts := c_scripts) (c_sites := c_sites) (c_asked := c_asked) (c_outcome := c_outcome) (c_took := c_took) (c_acts := c_acts) (c_drawn := c_drawn) (c_racer := c_racer) (c_raced := c_raced) (c_spelledMany := c_spelledMany) (c_hasImage := c_hasImage) (c_now := c_now) hc_21) (cwV 0 hts g_f_X8_most_f_X8_frozenOnes_296 rfl rfl rfl (by decide +kernel) ⟨Nat.le_of_ble_eq_true rfl, Nat.le_of_ble_eq_true rfl⟩) ⟨pP.blind, va_recv hK hPc (ci := 9) (q0 := 0) rfl rfl, (pP.pre ⟨hK, hN⟩ hPc)⟩ rfl rfl hl.1 rfl (lv_room (Nat.le_of_ble_eq_true rfl)) dX8_most_90 ⟨Nat.le_of_ble_eq_true rfl, Nat.le_of_ble_eq_true rfl⟩) ?_
        rw [hQ]
        obtain e9_0 := inj1 hF
        exact W.iret (v := r_20) hx hb hr (fun tt ht hW => ⟨_, rfl, e9_0, ht⟩) (fun _ h => by cases h) dX8_most_93
      replace hF := inn c_9_11 hF
      refine lv_tableOut (tgt := 94) hx hb dX8_most_23 (by have t0 : (6 : Int32).toInt = 6 := (by decide); have t1 : (7 : Int32).toInt = 7 := (by decide); have t2 : (8 : Int32).toInt = 8 := (by decide); have t3 : (9 : Int32).toInt = 9 := (by decide); have t4 : (10 : Int32).toInt = 10 := (by decide); have t5 : (11 : Int32).toInt = 11 := (by decide); simp only [← Int32.toInt_inj, t0, t1, t2, t3, t4, t5] at c_9_6 c_9_7 c_9_8 c_9_9 c_9_10 c_9_11; omega) (by decide) ?_
      refine lv_aload_n hx hb dX8_most_94 rfl (lv_at hl 0 rfl) ?_
      refine va_get (D := E.1) (ci := 9) (v := .ref a_now) (C := RX8) (T := TX8) (N := 36) hx hb hts i_f_X8_most_X8 hown hK hP 0 rfl rfl 17 (by decide) (hts (.fieldLink RX8 22 "HushWatchModel" "now" "[I") (List.mem_of_getElem? (i := 3) rfl)) (fun _ h9 => h9) rfl dX8_most_95 ?_
      refine lv_bipush (v := 67) hx hb dX8_most_98 (by decide) ?_
      refine lv_iload_n hx hb dX8_most_100 rfl (lv_at hl 1 rfl) ?_
      refine lv_iadd hx hb dX8_most_101 ?_
      replace hF := ix_s hF
      obtain ⟨hi_22, hF⟩ := hF
      refine va_iald hx hb hK hP 1 0 rfl rfl hi_22 dX8_most_102 ?_
      rw [hQ]
      obtain e9_0 := inj1 hF
      exact W.iret (v := c_now ((67 : Int32) + p1).toNatClampNeg) hx hb hr (fun tt ht hW => ⟨_, rfl, e9_0, ht⟩) (fun _ h => by cases h) dX8_most_103
    ·
      replace hF := ip c_8 hF
      refine lv_ldc (v := -100000000) hx hb hown (hts (.constant RX8 182 (-100000000)) (List.mem_of_getElem? (i := 1) rfl)) dX8_most_19 ?_
      rw [hQ]
      obtain e9_0 := inj1 hF
      exact W.iret (v := (-100000000 : Int32)) hx hb hr (fun tt ht hW => ⟨_, rfl, e9_0, ht⟩) (fun _ h => by cases h) dX8_most_21

def F_X8_move (K : Nat) (p1 : Int32) (p2 : Int32) (p3 : Int32) (c_now : Nat → Int32) (c_refused : Nat → Int32) (c_sites : Int32) (c_shareX : Nat → Int32) (c_shareY : Nat → Int32) (c_asked : Int32) (c_outcome : Int32) (c_askedRow : Nat → Int32) (c_took : Int32) (c_kept : Nat → Int32) (c_acts : Int32) : Option (Int32 × (Nat → Int32) × (Nat → Int32) × (Nat → Int32) × (Nat → Int32) × Int32 × Int32 × (Nat → Int32) × Int32 × (Nat → Int32) × Int32) :=
  bd11 (F_X8_hand K (-1 : Int32) (0 : Int32) p1 p2 p3 c_now c_refused c_sites c_shareX c_shareY c_asked c_outcome c_askedRow c_took c_kept c_acts) (fun r_1 w_2 w_3 w_4 w_5 w_6 w_7 w_8 w_9 w_10 w_11 => some (r_1, w_2, w_3, w_4, w_5, w_6, w_7, w_8, w_9, w_10, w_11))
abbrev w_X8_move (E : EE) (a_ a_tape a_readPlace a_script a_scriptLong a_now a_refused a_shareX a_shareY a_askedRow a_kept a_aside a_spelled a_image : Nat) (c_thrown : Int32) (c_taped : Int32) (c_at : Int32) (c_part : Int32) (c_partFrom : Int32) (c_partNumber : Int32) (c_wrong : Int32) (c_partWord : Int64) (c_readLaw : Int32) (c_readBound : Int32) (c_readGoal : Int32) (c_readSites : Int32) (c_scripts : Int32) (c_sites : Int32) (c_asked : Int32) (c_outcome : Int32) (c_took : Int32) (c_acts : Int32) (c_drawn : Int64) (c_racer : Int32) (c_raced : Int32) (c_spelledMany : Int32) (c_hasImage : Int32) (c_now : Nat → Int32) (c_refused : Nat → Int32) (c_shareX : Nat → Int32) (c_shareY : Nat → Int32) (c_askedRow : Nat → Int32) (c_kept : Nat → Int32) : va_W := [(a_, .inr (9, [.int c_thrown, .ref a_tape, .int c_taped, .int c_at, .int c_part, .int c_partFrom, .int c_partNumber, .int c_wrong, .long c_partWord, .int c_readLaw, .int c_readBound, .int c_readGoal, .int c_readSites, .ref a_readPlace, .ref a_script, .ref a_scriptLong, .int c_scripts, .ref a_now, .ref a_refused, .int c_sites, .ref a_shareX, .ref a_shareY, .int c_asked, .int c_outcome, .ref a_askedRow, .int c_took, .ref a_kept, .int c_acts, .long c_drawn, .ref a_aside, .int c_racer, .int c_raced, .ref a_spelled, .int c_spelledMany, .ref a_image, .int c_hasImage])), (a_now, .inl (E.2.1, 265, .inl c_now)), (a_refused, .inl (E.2.1, 3, .inl c_refused)), (a_shareX, .inl (E.2.1, 8, .inl c_shareX)), (a_shareY, .inl (E.2.1, 8, .inl c_shareY)), (a_askedRow, .inl (E.2.1, 8, .inl c_askedRow)), (a_kept, .inl (E.2.1, 10600, .inl c_kept))]
def v_f_X8_move : List Cond := .code yX8_move cX8_move 4 (some .int) :: ([.methodLink RX8 350 yX8_hand, .instanceMethod yX8_hand, .selects RX8 yX8_hand yX8_hand, .initialized RX8] ++ (v_f_X8_hand ++ ([])))
theorem gw_f_X8_move : v_f_X8_move.all goodWord = true := by decide +kernel
theorem g_f_X8_move_f_X8_hand_350 : GoodIn v_f_X8_move (wsV RX8 350 RX8 yX8_hand v_f_X8_hand) := goodIn_app (goodIn_of _ (by decide +kernel)) (goodIn_sub (fun _ h => List.mem_cons_of_mem _ (List.mem_append_right _ (List.mem_append_left _ h))) gw_f_X8_hand)
set_option maxHeartbeats 4000000 in
set_option maxRecDepth 100000 in
theorem f_X8_move (l : Launch) (E : EE) (sz : Nat) (K : Nat) {a_ a_tape a_readPlace a_script a_scriptLong a_now a_refused a_shareX a_shareY a_askedRow a_kept a_aside a_spelled a_image : Nat} {p1 : Int32} {p2 : Int32} {p3 : Int32} {c_thrown : Int32} {c_taped : Int32} {c_at : Int32} {c_part : Int32} {c_partFrom : Int32} {c_partNumber : Int32} {c_wrong : Int32} {c_partWord : Int64} {c_readLaw : Int32} {c_readBound : Int32} {c_readGoal : Int32} {c_readSites : Int32} {c_scripts : Int32} {c_sites : Int32} {c_asked : Int32} {c_outcome : Int32} {c_took : Int32} {c_acts : Int32} {c_drawn : Int64} {c_racer : Int32} {c_raced : Int32} {c_spelledMany : Int32} {c_hasImage : Int32} {c_now : Nat → Int32} {c_refused : Nat → Int32} {c_shareX : Nat → Int32} {c_shareY : Nat → Int32} {c_askedRow : Nat → Int32} {c_kept : Nat → Int32} {rr : Int32} {n_now : Nat → Int32} {n_refused : Nat → Int32} {n_shareX : Nat → Int32} {n_shareY : Nat → Int32} {n_asked : Int32} {n_outcome : Int32} {n_askedRow : Nat → Int32} {n_took : Int32} {n_kept : Nat → Int32} {n_acts : Int32} (hF : F_X8_move K p1 p2 p3 c_now c_refused c_sites c_shareX c_shareY c_asked c_outcome c_askedRow c_took c_kept c_acts = some (rr, n_now, n_refused, n_shareX, n_shareY, n_asked, n_outcome, n_askedRow, n_took, n_kept, n_acts)) : Met l yX8_move v_f_X8_move (({ frames := 10, cells := 0, slots := 0, locals := 241 } : Room)) (va_Pc [.ref a_, .int p1, .int p2, .int p3] (pW E sz (w_X8_move E a_ a_tape a_readPlace a_script a_scriptLong a_now a_refused a_shareX a_shareY a_askedRow a_kept a_aside a_spelled a_image c_thrown c_taped c_at c_part c_partFrom c_partNumber c_wrong c_partWord c_readLaw c_readBound c_readGoal c_readSites c_scripts c_sites c_asked c_outcome c_took c_acts c_drawn c_racer c_raced c_spelledMany c_hasImage c_now c_refused c_shareX c_shareY c_askedRow c_kept))) (va_Qi (fun (q : Int32) (_u : Unit) => q = rr) (fun (_u : Unit) tt => va_P E.1 vwCl (w_X8_move E a_ a_tape a_readPlace a_script a_scriptLong a_now a_refused a_shareX a_shareY a_askedRow a_kept a_aside a_spelled a_image c_thrown c_taped c_at c_part c_partFrom c_partNumber c_wrong c_partWord c_readLaw c_readBound c_readGoal c_readSites c_scripts c_sites n_asked n_outcome n_took n_acts c_drawn c_racer c_raced c_spelledMany c_hasImage n_now n_refused n_shareX n_shareY n_askedRow n_kept) tt.heap ∧ va_D (va_A (w_X8_move E a_ a_tape a_readPlace a_script a_scriptLong a_now a_refused a_shareX a_shareY a_askedRow a_kept a_aside a_spelled a_image c_thrown c_taped c_at c_part c_partFrom c_partNumber c_wrong c_partWord c_readLaw c_readBound c_readGoal c_readSites c_scripts c_sites c_asked c_outcome c_took c_acts c_drawn c_racer c_raced c_spelledMany c_hasImage c_now c_refused c_shareX c_shareY c_askedRow c_kept) sz) (w_X8_move E a_ a_tape a_readPlace a_script a_scriptLong a_now a_refused a_shareX a_shareY a_askedRow a_kept a_aside a_spelled a_image c_thrown c_taped c_at c_part c_partFrom c_partNumber c_wrong c_partWord c_readLaw c_readBound c_readGoal c_readSites c_scripts c_sites n_asked n_outcome n_took n_acts c_drawn c_racer c_raced c_spelledMany c_hasImage n_now n_refused n_shareX n_shareY n_askedRow n_kept)) (va_A (w_X8_move E a_ a_tape a_readPlace a_script a_scriptLong a_now a_refused a_shareX a_shareY a_askedRow a_kept a_aside a_spelled a_image c_thrown c_taped c_at c_part c_partFrom c_partNumber c_wrong c_partWord c_readLaw c_readBound c_readGoal c_readSites c_scripts c_sites c_asked c_outcome c_took c_acts c_drawn c_racer c_raced c_spelledMany c_hasImage c_now c_refused c_shareX c_shareY c_askedRow c_kept) sz)) 0 0 (va_A (w_X8_move E a_ a_tape a_readPlace a_script a_scriptLong a_now a_refused a_shareX a_shareY a_askedRow a_kept a_aside a_spelled a_image c_thrown c_taped c_at c_part c_partFrom c_partNumber c_wrong c_partWord c_readLaw c_readBound c_readGoal c_readSites c_scripts c_sites c_asked c_outcome c_took c_acts c_drawn c_racer c_raced c_spelledMany c_hasImage c_now c_refused c_shareX c_shareY c_askedRow c_kept) sz) := by
  refine Met.ofW (cc := cX8_move) (maxL := 4) (ret := (some .int)) (by decide) rfl ?_
  intro p e s m args below meth c s₁ B hml hv
  obtain ⟨rfl, hsz, ⟨hK, hN⟩, hP, hD0⟩ := hv
  have hx := B.exec
  have hb := B.bytes
  have hr := B.returns
  have hts := atoms_spec (ws := v_f_X8_move) B.pre
  have hown : s.vm.findClass RX8 = some m.cls := findClass_of_methodNamed B.named
  have hlocks : meth.locks = false := B.notSynchronized
  subst hsz
  have hD := hD0.self (sz := s.heap.size)
  generalize hAe : va_A (w_X8_move E a_ a_tape a_readPlace a_script a_scriptLong a_now a_refused a_shareX a_shareY a_askedRow a_kept a_aside a_spelled a_image c_thrown c_taped c_at c_part c_partFrom c_partNumber c_wrong c_partWord c_readLaw c_readBound c_readGoal c_readSites c_scripts c_sites c_asked c_outcome c_took c_acts c_drawn c_racer c_raced c_spelledMany c_hasImage c_now c_refused c_shareX c_shareY c_askedRow c_kept) s.heap.size = A at hD ⊢
  have hA : ∀ q : Nat, s.heap.size ≤ q → A q := fun q h => by rw [← hAe]; exact Or.inr h
  have hS : va_S A s.heap s.heap [] := va_S.rf
  have hl := lv_entry ([.ref a_, .int p1, .int p2, .int p3]) (n := 4) (Nat.le_of_ble_eq_true rfl)
  rw [lg_entry_eq]
  generalize (lg_sl ([.ref a_, .int p1, .int p2, .int p3]) ++ List.replicate (4 - (lg_sl ([.ref a_, .int p1, .int p2, .int p3])).length) Slot.unset).toArray = ls at hl ⊢
  have hl : lv_has ls 4 [(0, .ref a_), (1, .int p1), (2, .int p2), (3, .int p3)] := hl
  obtain ⟨Q, hQ⟩ : ∃ Q : State → Prop, Q = MQ below (va_Qi (fun (q : Int32) (_u : Unit) => q = rr) (fun (_u : Unit) tt => va_P E.1 vwCl (w_X8_move E a_ a_tape a_readPlace a_script a_scriptLong a_now a_refused a_shareX a_shareY a_askedRow a_kept a_aside a_spelled a_image c_thrown c_taped c_at c_part c_partFrom c_partNumber c_wrong c_partWord c_readLaw c_readBound c_readGoal c_readSites c_scripts c_sites n_asked n_outcome n_took n_acts c_drawn c_racer c_raced c_spelledMany c_hasImage n_now n_refused n_shareX n_shareY n_askedRow n_kept) tt.heap ∧ va_D A (w_X8_move E a_ a_tape a_readPlace a_script a_scriptLong a_now a_refused a_shareX a_shareY a_askedRow a_kept a_aside a_spelled a_image c_thrown c_taped c_at c_part c_partFrom c_partNumber c_wrong c_partWord c_readLaw c_readBound c_readGoal c_readSites c_scripts c_sites n_asked n_outcome n_took n_acts c_drawn c_racer c_raced c_spelledMany c_hasImage n_now n_refused n_shareX n_shareY n_askedRow n_kept)) A) #[Value.ref a_, Value.int p1, Value.int p2, Value.int p3] s 0 0 A := ⟨_, rfl⟩
  rw [← hQ]
  change W p l e ({ frames := 10, cells := 0, slots := 0, locals := 241 } : Room) s m #[Value.ref a_, Value.int p1, Value.int p2, Value.int p3] below meth c s.heap [] 0 0 Q (F0 m 0 ls [])
  suffices hh9 : ∀ (H : Heap) (locs : List Loc), va_P E.1 vwCl (w_X8_move E a_ a_tape a_readPlace a_script a_scriptLong a_now a_refused a_shareX a_shareY a_askedRow a_kept a_aside a_spelled a_image c_thrown c_taped c_at c_part c_partFrom c_partNumber c_wrong c_partWord c_readLaw c_readBound c_readGoal c_readSites c_scripts c_sites c_asked c_outcome c_took c_acts c_drawn c_racer c_raced c_spelledMany c_hasImage c_now c_refused c_shareX c_shareY c_askedRow c_kept) H → va_D A (w_X8_move E a_ a_tape a_readPlace a_script a_scriptLong a_now a_refused a_shareX a_shareY a_askedRow a_kept a_aside a_spelled a_image c_thrown c_taped c_at c_part c_partFrom c_partNumber c_wrong c_partWord c_readLaw c_readBound c_readGoal c_readSites c_scripts c_sites c_asked c_outcome c_took c_acts c_drawn c_racer c_raced c_spelledMany c_hasImage c_now c_refused c_shareX c_shareY c_askedRow c_kept) → va_S A s.heap H locs → W p l e ({ frames := 10, cells := 0, slots := 0, locals := 241 } : Room) s m #[Value.ref a_, Value.int p1, Value.int p2, Value.int p3] below meth c H locs 0 0 Q (F0 m 0 ls []) from hh9 s.heap [] hP hD hS
  clear hP hD hS
  intro H locs hP hD hS
  replace hP : va_P E.1 vwCl [(a_, .inr (9, [.int c_thrown, .ref a_tape, .int c_taped, .int c_at, .int c_part, .int c_partFrom, .int c_partNumber, .int c_wrong, .long c_partWord, .int c_readLaw, .int c_readBound, .int c_readGoal, .int c_readSites, .ref a_readPlace, .ref a_script, .ref a_scriptLong, .int c_scripts, .ref a_now, .ref a_refused, .int c_sites, .ref a_shareX, .ref a_shareY, .int c_asked, .int c_outcome, .ref a_askedRow, .int c_took, .ref a_kept, .int c_acts, .long c_drawn, .ref a_aside, .int c_racer, .int c_raced, .ref a_spelled, .int c_spelledMany, .ref a_image, .int c_hasImage])), (a_now, .inl (E.2.1, 265, .inl c_now)), (a_refused, .inl (E.2.1, 3, .inl c_refused)), (a_shareX, .inl (E.2.1, 8, .inl c_shareX)), (a_shareY, .inl (E.2.1, 8, .inl c_shareY)), (a_askedRow, .inl (E.2.1, 8, .inl c_askedRow)), (a_kept, .inl (E.2.1, 10600, .inl c_kept))] H := hP
  replace hD : va_D A [(a_, .inr (9, [.int c_thrown, .ref a_tape, .int c_taped, .int c_at, .int c_part, .int c_partFrom, .int c_partNumber, .int c_wrong, .long c_partWord, .int c_readLaw, .int c_readBound, .int c_readGoal, .int c_readSites, .ref a_readPlace, .ref a_script, .ref a_scriptLong, .int c_scripts, .ref a_now, .ref a_refused, .int c_sites, .ref a_shareX, .ref a_shareY, .int c_asked, .int c_outcome, .ref a_askedRow, .int c_took, .ref a_kept, .int c_acts, .long c_drawn, .ref a_aside, .int c_racer, .int c_raced, .ref a_spelled, .int c_spelledMany, .ref a_image, .int c_hasImage])), (a_now, .inl (E.2.1, 265, .inl c_now)), (a_refused, .inl (E.2.1, 3, .inl c_refused)), (a_shareX, .inl (E.2.1, 8, .inl c_shareX)), (a_shareY, .inl (E.2.1, 8, .inl c_shareY)), (a_askedRow, .inl (E.2.1, 8, .inl c_askedRow)), (a_kept, .inl (E.2.1, 10600, .inl c_kept))] := hD
  unfold F_X8_move at hF
  refine lv_aload_n hx hb dX8_move_0 rfl (lv_at hl 0 rfl) ?_
  refine lv_iconst (v := -1) hx hb dX8_move_1 (by decide) ?_
  refine lv_iconst (v := 0) hx hb dX8_move_2 (by decide) ?_
  refine lv_iload_n hx hb dX8_move_3 rfl (lv_at hl 1 rfl) ?_
  refine lv_iload_n hx hb dX8_move_4 rfl (lv_at hl 2 rfl) ?_
  refine lv_iload_n hx hb dX8_move_5 rfl (lv_at hl 3 rfl) ?_
  replace hF := bd11_s hF
  obtain ⟨r_1, w_2, w_3, w_4, w_5, w_6, w_7, w_8, w_9, w_10, w_11, hc_12, hF⟩ := hF
  have hPc := hP.sub (ws' := [(a_, .inr (9, [.int c_thrown, .ref a_tape, .int c_taped, .int c_at, .int c_part, .int c_partFrom, .int c_partNumber, .int c_wrong, .long c_partWord, .int c_readLaw, .int c_readBound, .int c_readGoal, .int c_readSites, .ref a_readPlace, .ref a_script, .ref a_scriptLong, .int c_scripts, .ref a_now, .ref a_refused, .int c_sites, .ref a_shareX, .ref a_shareY, .int c_asked, .int c_outcome, .ref a_askedRow, .int c_took, .ref a_kept, .int c_acts, .long c_drawn, .ref a_aside, .int c_racer, .int c_raced, .ref a_spelled, .int c_spelledMany, .ref a_image, .int c_hasImage])), (a_now, .inl (E.2.1, 265, .inl c_now)), (a_refused, .inl (E.2.1, 3, .inl c_refused)), (a_shareX, .inl (E.2.1, 8, .inl c_shareX)), (a_shareY, .inl (E.2.1, 8, .inl c_shareY)), (a_askedRow, .inl (E.2.1, 8, .inl c_askedRow)), (a_kept, .inl (E.2.1, 10600, .inl c_kept))]) [0, 1, 2, 3, 4, 5, 6] rfl
  have hDc := hD.sub (ws' := [(a_, .inr (9, [.int c_thrown, .ref a_tape, .int c_taped, .int c_at, .int c_part, .int c_partFrom, .int c_partNumber, .int c_wrong, .long c_partWord, .int c_readLaw, .int c_readBound, .int c_readGoal, .int c_readSites, .ref a_readPlace, .ref a_script, .ref a_scriptLong, .int c_scripts, .ref a_now, .ref a_refused, .int c_sites, .ref a_shareX, .ref a_shareY, .int c_asked, .int c_outcome, .ref a_askedRow, .int c_took, .ref a_kept, .int c_acts, .long c_drawn, .ref a_aside, .int c_racer, .int c_raced, .ref a_spelled, .int c_spelledMany, .ref a_image, .int c_hasImage])), (a_now, .inl (E.2.1, 265, .inl c_now)), (a_refused, .inl (E.2.1, 3, .inl c_refused)), (a_shareX, .inl (E.2.1, 8, .inl c_shareX)), (a_shareY, .inl (E.2.1, 8, .inl c_shareY)), (a_askedRow, .inl (E.2.1, 8, .inl c_askedRow)), (a_kept, .inl (E.2.1, 10600, .inl c_kept))]) [0, 1, 2, 3, 4, 5, 6] (by decide) rfl
  have hFc := va_free (wc := [(a_, .inr (9, [.int c_thrown, .ref a_tape, .int c_taped, .int c_at, .int c_part, .int c_partFrom, .int c_partNumber, .int c_wrong, .long c_partWord, .int c_readLaw, .int c_readBound, .int c_readGoal, .int c_readSites, .ref a_readPlace, .ref a_script, .ref a_scriptLong, .int c_scripts, .ref a_now, .ref a_refused, .int c_sites, .ref a_shareX, .ref a_shareY, .int c_asked, .int c_outcome, .ref a_askedRow, .int c_took, .ref a_kept, .int c_acts, .long c_drawn, .ref a_aside, .int c_racer, .int c_raced, .ref a_spelled, .int c_spelledMany, .ref a_image, .int c_hasImage])), (a_now, .inl (E.2.1, 265, .inl c_now)), (a_refused, .inl (E.2.1, 3, .inl c_refused)), (a_shareX, .inl (E.2.1, 8, .inl c_shareX)), (a_shareY, .inl (E.2.1, 8, .inl c_shareY)), (a_askedRow, .inl (E.2.1, 8, .inl c_askedRow)), (a_kept, .inl (E.2.1, 10600, .inl c_kept))]) hD hS hA [0, 1, 2, 3, 4, 5, 6] rfl
  refine cE_i (wc := [(a_, .inr (9, [.int c_thrown, .ref a_tape, .int c_taped, .int c_at, .int c_part, .int c_partFrom, .int c_partNumber, .int c_wrong, .long c_partWord, .int c_readLaw, .int c_readBound, .int c_readGoal, .int c_readSites, .ref a_readPlace, .ref a_script, .ref a_scriptLong, .int c_scripts, .ref a_now, .ref a_refused, .int c_sites, .ref a_shareX, .ref a_shareY, .int c_asked, .int c_outcome, .ref a_askedRow, .int c_took, .ref a_kept, .int c_acts, .long c_drawn, .ref a_aside, .int c_racer, .int c_raced, .ref a_spelled, .int c_spelledMany, .ref a_image, .int c_hasImage])), (a_now, .inl (E.2.1, 265, .inl c_now)), (a_refused, .inl (E.2.1, 3, .inl c_refused)), (a_shareX, .inl (E.2.1, 8, .inl c_shareX)), (a_shareY, .inl (E.2.1, 8, .inl c_shareY)), (a_askedRow, .inl (E.2.1, 8, .inl c_askedRow)), (a_kept, .inl (E.2.1, 10600, .inl c_kept))]) (wr := []) (w1 := [(a_, .inr (9, [.int c_thrown, .ref a_tape, .int c_taped, .int c_at, .int c_part, .int c_partFrom, .int c_partNumber, .int c_wrong, .long c_partWord, .int c_readLaw, .int c_readBound, .int c_readGoal, .int c_readSites, .ref a_readPlace, .ref a_script, .ref a_scriptLong, .int c_scripts, .ref a_now, .ref a_refused, .int c_sites, .ref a_shareX, .ref a_shareY, .int w_6, .int w_7, .ref a_askedRow, .int w_9, .ref a_kept, .int w_11, .long c_drawn, .ref a_aside, .int c_racer, .int c_raced, .ref a_spelled, .int c_spelledMany, .ref a_image, .int c_hasImage])), (a_now, .inl (E.2.1, 265, .inl w_2)), (a_refused, .inl (E.2.1, 3, .inl w_3)), (a_shareX, .inl (E.2.1, 8, .inl w_4)), (a_shareY, .inl (E.2.1, 8, .inl w_5)), (a_askedRow, .inl (E.2.1, 8, .inl w_8)), (a_kept, .inl (E.2.1, 10600, .inl w_10))]) (va_runV (As := [.int (-1 : Int32), .int (0 : Int32), .int p1, .int p2, .int p3]) (rest := []) ⟨hx, hb, hml, hown, hts⟩ (f_X8_hand l E H.size K (a_ := a_) (a_tape := a_tape) (a_readPlace := a_readPlace) (a_script := a_script) (a_scriptLong := a_scriptLong) (a_now := a_now) (a_refused := a_refused) (a_shareX := a_shareX) (a_shareY := a_shareY) (a_askedRow := a_askedRow) (a_kept := a_kept) (a_aside := a_aside) (a_spelled := a_spelled) (a_image := a_image) (p1 := (-1 : Int32)) (p2 := (0 : Int32)) (p3 := p1) (p4 := p2) (p5 := p3) (c_thrown := c_thrown) (c_taped := c_taped) (c_at := c_at) (c_part := c_part) (c_partFrom := c_partFrom) (c_partNumber := c_partNumber) (c_wrong := c_wrong) (c_partWord := c_partWord) (c_readLaw := c_readLaw) (c_readBound := c_readBound) (c_readGoal := c_readGoal) (c_readSites := c_readSites) (c_scripts := c_scripts) (c_sites := c_sites) (c_asked := c_asked) (c_outcome := c_outcome) (c_took := c_took) (c_acts := c_acts) (c_drawn := c_drawn) (c_racer := c_racer) (c_raced := c_raced) (c_spelledMany := c_spelledMany) (c_hasImage := c_hasImage) (c_now := c_now) (c_refused := c_refused) (c_shareX := c_shareX) (c_shareY := c_shareY) (c_askedRow := c_askedRow) (c_kept := c_kept) hc_12) (cwV 5 hts g_f_X8_move_f_X8_hand_350 rfl rfl rfl (by decide +kernel) ⟨Nat.le_of_ble_eq_true rfl, Nat.le_of_ble_eq_true rfl⟩) ⟨pW.blind, va_recv hK hPc (ci := 9) (q0 := 0) rfl rfl, (pW.pre ⟨hK, hN⟩ hPc hDc)⟩ rfl rfl hl.1 rfl (lv_room (Nat.le_of_ble_eq_true rfl)) dX8_move_6 ⟨Nat.le_of_ble_eq_true rfl, Nat.le_of_ble_eq_true rfl⟩) hS hFc hP hD [0, 1, 2, 3, 4, 5, 6] [] rfl rfl (by decide) (by decide) (fun H locs hP hD hS => ?_)
  replace hP : va_P E.1 vwCl [(a_, .inr (9, [.int c_thrown, .ref a_tape, .int c_taped, .int c_at, .int c_part, .int c_partFrom, .int c_partNumber, .int c_wrong, .long c_partWord, .int c_readLaw, .int c_readBound, .int c_readGoal, .int c_readSites, .ref a_readPlace, .ref a_script, .ref a_scriptLong, .int c_scripts, .ref a_now, .ref a_refused, .int c_sites, .ref a_shareX, .ref a_shareY, .int w_6, .int w_7, .ref a_askedRow, .int w_9, .ref a_kept, .int w_11, .long c_drawn, .ref a_aside, .int c_racer, .int c_raced, .ref a_spelled, .int c_spelledMany, .ref a_image, .int c_hasImage])), (a_now, .inl (E.2.1, 265, .inl w_2)), (a_refused, .inl (E.2.1, 3, .inl w_3)), (a_shareX, .inl (E.2.1, 8, .inl w_4)), (a_shareY, .inl (E.2.1, 8, .inl w_5)), (a_askedRow, .inl (E.2.1, 8, .inl w_8)), (a_kept, .inl (E.2.1, 10600, .inl w_10))] H := hP
  replace hD : va_D A [(a_, .inr (9, [.int c_thrown, .ref a_tape, .int c_taped, .int c_at, .int c_part, .int c_partFrom, .int c_partNumber, .int c_wrong, .long c_partWord, .int c_readLaw, .int c_readBound, .int c_readGoal, .int c_readSites, .ref a_readPlace, .ref a_script, .ref a_scriptLong, .int c_scripts, .ref a_now, .ref a_refused, .int c_sites, .ref a_shareX, .ref a_shareY, .int w_6, .int w_7, .ref a_askedRow, .int w_9, .ref a_kept, .int w_11, .long c_drawn, .ref a_aside, .int c_racer, .int c_raced, .ref a_spelled, .int c_spelledMany, .ref a_image, .int c_hasImage])), (a_now, .inl (E.2.1, 265, .inl w_2)), (a_refused, .inl (E.2.1, 3, .inl w_3)), (a_shareX, .inl (E.2.1, 8, .inl w_4)), (a_shareY, .inl (E.2.1, 8, .inl w_5)), (a_askedRow, .inl (E.2.1, 8, .inl w_8)), (a_kept, .inl (E.2.1, 10600, .inl w_10))] := hD
  rw [hQ]
  obtain ⟨e9_0, e9_1, e9_2, e9_3, e9_4, e9_5, e9_6, e9_7, e9_8, e9_9, e9_10⟩ := inj11 hF
  have hP9 : va_P E.1 vwCl [(a_, .inr (9, [.int c_thrown, .ref a_tape, .int c_taped, .int c_at, .int c_part, .int c_partFrom, .int c_partNumber, .int c_wrong, .long c_partWord, .int c_readLaw, .int c_readBound, .int c_readGoal, .int c_readSites, .ref a_readPlace, .ref a_script, .ref a_scriptLong, .int c_scripts, .ref a_now, .ref a_refused, .int c_sites, .ref a_shareX, .ref a_shareY, .int n_asked, .int n_outcome, .ref a_askedRow, .int n_took, .ref a_kept, .int n_acts, .long c_drawn, .ref a_aside, .int c_racer, .int c_raced, .ref a_spelled, .int c_spelledMany, .ref a_image, .int c_hasImage])), (a_now, .inl (E.2.1, 265, .inl n_now)), (a_refused, .inl (E.2.1, 3, .inl n_refused)), (a_shareX, .inl (E.2.1, 8, .inl n_shareX)), (a_shareY, .inl (E.2.1, 8, .inl n_shareY)), (a_askedRow, .inl (E.2.1, 8, .inl n_askedRow)), (a_kept, .inl (E.2.1, 10600, .inl n_kept))] H := by rw [← e9_1, ← e9_2, ← e9_3, ← e9_4, ← e9_5, ← e9_6, ← e9_7, ← e9_8, ← e9_9, ← e9_10]; exact hP.sub (ws' := [(a_, .inr (9, [.int c_thrown, .ref a_tape, .int c_taped, .int c_at, .int c_part, .int c_partFrom, .int c_partNumber, .int c_wrong, .long c_partWord, .int c_readLaw, .int c_readBound, .int c_readGoal, .int c_readSites, .ref a_readPlace, .ref a_script, .ref a_scriptLong, .int c_scripts, .ref a_now, .ref a_refused, .int c_sites, .ref a_shareX, .ref a_shareY, .int w_6, .int w_7, .ref a_askedRow, .int w_9, .ref a_kept, .int w_11, .long c_drawn, .ref a_aside, .int c_racer, .int c_raced, .ref a_spelled, .int c_spelledMany, .ref a_image, .int c_hasImage])), (a_now, .inl (E.2.1, 265, .inl w_2)), (a_refused, .inl (E.2.1, 3, .inl w_3)), (a_shareX, .inl (E.2.1, 8, .inl w_4)), (a_shareY, .inl (E.2.1, 8, .inl w_5)), (a_askedRow, .inl (E.2.1, 8, .inl w_8)), (a_kept, .inl (E.2.1, 10600, .inl w_10))]) [0, 1, 2, 3, 4, 5, 6] rfl
  have hD9 : va_D A [(a_, .inr (9, [.int c_thrown, .ref a_tape, .int c_taped, .int c_at, .int c_part, .int c_partFrom, .int c_partNumber, .int c_wrong, .long c_partWord, .int c_readLaw, .int c_readBound, .int c_readGoal, .int c_readSites, .ref a_readPlace, .ref a_script, .ref a_scriptLong, .int c_scripts, .ref a_now, .ref a_refused, .int c_sites, .ref a_shareX, .ref a_shareY, .int n_asked, .int n_outcome, .ref a_askedRow, .int n_took, .ref a_kept, .int n_acts, .long c_drawn, .ref a_aside, .int c_racer, .int c_raced, .ref a_spelled, .int c_spelledMany, .ref a_image, .int c_hasImage])), (a_now, .inl (E.2.1, 265, .inl n_now)), (a_refused, .inl (E.2.1, 3, .inl n_refused)), (a_shareX, .inl (E.2.1, 8, .inl n_shareX)), (a_shareY, .inl (E.2.1, 8, .inl n_shareY)), (a_askedRow, .inl (E.2.1, 8, .inl n_askedRow)), (a_kept, .inl (E.2.1, 10600, .inl n_kept))] := by rw [← e9_1, ← e9_2, ← e9_3, ← e9_4, ← e9_5, ← e9_6, ← e9_7, ← e9_8, ← e9_9, ← e9_10]; exact hD.sub (ws' := [(a_, .inr (9, [.int c_thrown, .ref a_tape, .int c_taped, .int c_at, .int c_part, .int c_partFrom, .int c_partNumber, .int c_wrong, .long c_partWord, .int c_readLaw, .int c_readBound, .int c_readGoal, .int c_readSites, .ref a_readPlace, .ref a_script, .ref a_scriptLong, .int c_scripts, .ref a_now, .ref a_refused, .int c_sites, .ref a_shareX, .ref a_shareY, .int w_6, .int w_7, .ref a_askedRow, .int w_9, .ref a_kept, .int w_11, .long c_drawn, .ref a_aside, .int c_racer, .int c_raced, .ref a_spelled, .int c_spelledMany, .ref a_image, .int c_hasImage])), (a_now, .inl (E.2.1, 265, .inl w_2)), (a_refused, .inl (E.2.1, 3, .inl w_3)), (a_shareX, .inl (E.2.1, 8, .inl w_4)), (a_shareY, .inl (E.2.1, 8, .inl w_5)), (a_askedRow, .inl (E.2.1, 8, .inl w_8)), (a_kept, .inl (E.2.1, 10600, .inl w_10))]) [0, 1, 2, 3, 4, 5, 6] (by decide) rfl
  exact W.iret (v := r_1) hx hb hr (fun tt ht hW => ⟨⟨_, (), rfl, e9_0, by rw [ht]; exact hP9, hD9⟩, hS.F ht⟩) hS.2.2 dX8_move_9

def F_X8_needs (K : Nat) (p1 : Int32) (p2 : Int32) (p3 : Int32) (c_now : Nat → Int32) (c_sites : Int32) : Option (Int64) :=
  bd1 (F_X8_whyMove p1 p2 p3 c_now c_sites) (fun r_1 => if r_1 = (-1 : Int32) then bd1 (F_X8_driftX p1 c_now) (fun r_4 => bd1 (F_X8_pointX K (r_4 + p2) c_now c_sites) (fun r_6 => bd1 (F_X8_driftY p1 c_now) (fun r_8 => bd1 (F_X8_pointY K (r_8 + p3) c_now c_sites) (fun r_10 => bd1 (F_X8_valueOf r_6.toInt64 r_10.toInt64 c_now) (fun r_12 => some (r_12 + (1 : Int64))))))) else some (-100000000 : Int64))
abbrev w_X8_needs (E : EE) (a_ a_tape a_readPlace a_script a_scriptLong a_now a_refused a_shareX a_shareY a_askedRow a_kept a_aside a_spelled a_image : Nat) (c_thrown : Int32) (c_taped : Int32) (c_at : Int32) (c_part : Int32) (c_partFrom : Int32) (c_partNumber : Int32) (c_wrong : Int32) (c_partWord : Int64) (c_readLaw : Int32) (c_readBound : Int32) (c_readGoal : Int32) (c_readSites : Int32) (c_scripts : Int32) (c_sites : Int32) (c_asked : Int32) (c_outcome : Int32) (c_took : Int32) (c_acts : Int32) (c_drawn : Int64) (c_racer : Int32) (c_raced : Int32) (c_spelledMany : Int32) (c_hasImage : Int32) (c_now : Nat → Int32) : va_W := [(a_, .inr (9, [.int c_thrown, .ref a_tape, .int c_taped, .int c_at, .int c_part, .int c_partFrom, .int c_partNumber, .int c_wrong, .long c_partWord, .int c_readLaw, .int c_readBound, .int c_readGoal, .int c_readSites, .ref a_readPlace, .ref a_script, .ref a_scriptLong, .int c_scripts, .ref a_now, .ref a_refused, .int c_sites, .ref a_shareX, .ref a_shareY, .int c_asked, .int c_outcome, .ref a_askedRow, .int c_took, .ref a_kept, .int c_acts, .long c_drawn, .ref a_aside, .int c_racer, .int c_raced, .ref a_spelled, .int c_spelledMany, .ref a_image, .int c_hasImage])), (a_now, .inl (E.2.1, 265, .inl c_now))]
def v_f_X8_needs : List Cond := .code yX8_needs cX8_needs 4 (some .long) :: ([.constantLong RX8 383 (-100000000), .methodLink RX8 302 yX8_whyMove, .instanceMethod yX8_whyMove, .selects RX8 yX8_whyMove yX8_whyMove, .initialized RX8, .methodLink RX8 228 yX8_driftX, .instanceMethod yX8_driftX, .selects RX8 yX8_driftX yX8_driftX, .methodLink RX8 222 yX8_pointX, .instanceMethod yX8_pointX, .selects RX8 yX8_pointX yX8_pointX, .methodLink RX8 231 yX8_driftY, .instanceMethod yX8_driftY, .selects RX8 yX8_driftY yX8_driftY, .methodLink RX8 225 yX8_pointY, .instanceMethod yX8_pointY, .selects RX8 yX8_pointY yX8_pointY, .methodLink RX8 218 yX8_valueOf, .instanceMethod yX8_valueOf, .selects RX8 yX8_valueOf yX8_valueOf] ++ (v_f_X8_whyMove ++ (v_f_X8_driftX ++ (v_f_X8_pointX ++ (v_f_X8_driftY ++ (v_f_X8_pointY ++ (v_f_X8_valueOf ++ ([]))))))))
theorem gw_f_X8_needs : v_f_X8_needs.all goodWord = true := by decide +kernel
theorem g_f_X8_needs_f_X8_whyMove_302 : GoodIn v_f_X8_needs (wsV RX8 302 RX8 yX8_whyMove v_f_X8_whyMove) := goodIn_app (goodIn_of _ (by decide +kernel)) (goodIn_sub (fun _ h => List.mem_cons_of_mem _ (List.mem_append_right _ (List.mem_append_left _ h))) gw_f_X8_whyMove)
theorem g_f_X8_needs_f_X8_driftX_228 : GoodIn v_f_X8_needs (wsV RX8 228 RX8 yX8_driftX v_f_X8_driftX) := goodIn_app (goodIn_of _ (by decide +kernel)) (goodIn_sub (fun _ h => List.mem_cons_of_mem _ (List.mem_append_right _ (List.mem_append_right _ (List.mem_append_left _ h)))) gw_f_X8_driftX)
theorem g_f_X8_needs_f_X8_pointX_222 : GoodIn v_f_X8_needs (wsV RX8 222 RX8 yX8_pointX v_f_X8_pointX) := goodIn_app (goodIn_of _ (by decide +kernel)) (goodIn_sub (fun _ h => List.mem_cons_of_mem _ (List.mem_append_right _ (List.mem_append_right _ (List.mem_append_right _ (List.mem_append_left _ h))))) gw_f_X8_pointX)
theorem g_f_X8_needs_f_X8_driftY_231 : GoodIn v_f_X8_needs (wsV RX8 231 RX8 yX8_driftY v_f_X8_driftY) := goodIn_app (goodIn_of _ (by decide +kernel)) (goodIn_sub (fun _ h => List.mem_cons_of_mem _ (List.mem_append_right _ (List.mem_append_right _ (List.mem_append_right _ (List.mem_append_right _ (List.mem_append_left _ h)))))) gw_f_X8_driftY)
theorem g_f_X8_needs_f_X8_pointY_225 : GoodIn v_f_X8_needs (wsV RX8 225 RX8 yX8_pointY v_f_X8_pointY) := goodIn_app (goodIn_of _ (by decide +kernel)) (goodIn_sub (fun _ h => List.mem_cons_of_mem _ (List.mem_append_right _ (List.mem_append_right _ (List.mem_append_right _ (List.mem_append_right _ (List.mem_append_right _ (List.mem_append_left _ h))))))) gw_f_X8_pointY)
theorem g_f_X8_needs_f_X8_valueOf_218 : GoodIn v_f_X8_needs (wsV RX8 218 RX8 yX8_valueOf v_f_X8_valueOf) := goodIn_app (goodIn_of _ (by decide +kernel)) (goodIn_sub (fun _ h => List.mem_cons_of_mem _ (List.mem_append_right _ (List.mem_append_right _ (List.mem_append_right _ (List.mem_append_right _ (List.mem_append_right _ (List.mem_append_right _ (List.mem_append_left _ h)))))))) gw_f_X8_valueOf)
set_option maxHeartbeats 4000000 in
set_option maxRecDepth 100000 in
theorem f_X8_needs (l : Launch) (E : EE) (K : Nat) {a_ a_tape a_readPlace a_script a_scriptLong a_now a_refused a_shareX a_shareY a_askedRow a_kept a_aside a_spelled a_image : Nat} {p1 : Int32} {p2 : Int32} {p3 : Int32} {c_thrown : Int32} {c_taped : Int32} {c_at : Int32} {c_part : Int32} {c_partFrom : Int32} {c_partNumber : Int32} {c_wrong : Int32} {c_partWord : Int64} {c_readLaw : Int32} {c_readBound : Int32} {c_readGoal : Int32} {c_readSites : Int32} {c_scripts : Int32} {c_sites : Int32} {c_asked : Int32} {c_outcome : Int32} {c_took : Int32} {c_acts : Int32} {c_drawn : Int64} {c_racer : Int32} {c_raced : Int32} {c_spelledMany : Int32} {c_hasImage : Int32} {c_now : Nat → Int32} {rr : Int64} (hF : F_X8_needs K p1 p2 p3 c_now c_sites = some rr) : Met l yX8_needs v_f_X8_needs (({ frames := 3, cells := 0, slots := 0, locals := 70 } : Room)) (va_Pc [.ref a_, .int p1, .int p2, .int p3] (pP E (w_X8_needs E a_ a_tape a_readPlace a_script a_scriptLong a_now a_refused a_shareX a_shareY a_askedRow a_kept a_aside a_spelled a_image c_thrown c_taped c_at c_part c_partFrom c_partNumber c_wrong c_partWord c_readLaw c_readBound c_readGoal c_readSites c_scripts c_sites c_asked c_outcome c_took c_acts c_drawn c_racer c_raced c_spelledMany c_hasImage c_now))) (vp_Sl (fun q : Int64 => q = rr)) 0 0 (fun _ => False) := by
  refine Met.ofW (cc := cX8_needs) (maxL := 4) (ret := (some .long)) (by decide) rfl ?_
  intro p e s m args below meth c s₁ B hml hv
  obtain ⟨rfl, ⟨hK, hN⟩, hP⟩ := hv
  have hx := B.exec
  have hb := B.bytes
  have hr := B.returns
  have hts := atoms_spec (ws := v_f_X8_needs) B.pre
  have hown : s.vm.findClass RX8 = some m.cls := findClass_of_methodNamed B.named
  have hlocks : meth.locks = false := B.notSynchronized
  replace hP : va_P E.1 vwCl [(a_, .inr (9, [.int c_thrown, .ref a_tape, .int c_taped, .int c_at, .int c_part, .int c_partFrom, .int c_partNumber, .int c_wrong, .long c_partWord, .int c_readLaw, .int c_readBound, .int c_readGoal, .int c_readSites, .ref a_readPlace, .ref a_script, .ref a_scriptLong, .int c_scripts, .ref a_now, .ref a_refused, .int c_sites, .ref a_shareX, .ref a_shareY, .int c_asked, .int c_outcome, .ref a_askedRow, .int c_took, .ref a_kept, .int c_acts, .long c_drawn, .ref a_aside, .int c_racer, .int c_raced, .ref a_spelled, .int c_spelledMany, .ref a_image, .int c_hasImage])), (a_now, .inl (E.2.1, 265, .inl c_now))] s.heap := hP
  have hl := lv_entry ([.ref a_, .int p1, .int p2, .int p3]) (n := 4) (Nat.le_of_ble_eq_true rfl)
  rw [lg_entry_eq]
  generalize (lg_sl ([.ref a_, .int p1, .int p2, .int p3]) ++ List.replicate (4 - (lg_sl ([.ref a_, .int p1, .int p2, .int p3])).length) Slot.unset).toArray = ls at hl ⊢
  have hl : lv_has ls 4 [(0, .ref a_), (1, .int p1), (2, .int p2), (3, .int p3)] := hl
  obtain ⟨Q, hQ⟩ : ∃ Q : State → Prop, Q = MQ below (vp_Sl (fun q : Int64 => q = rr)) #[Value.ref a_, Value.int p1, Value.int p2, Value.int p3] s 0 0 (fun _ => False) := ⟨_, rfl⟩
  rw [← hQ]
  change W p l e ({ frames := 3, cells := 0, slots := 0, locals := 70 } : Room) s m #[Value.ref a_, Value.int p1, Value.int p2, Value.int p3] below meth c s.heap [] 0 0 Q (F0 m 0 ls [])
  unfold F_X8_needs at hF
  refine lv_aload_n hx hb dX8_needs_0 rfl (lv_at hl 0 rfl) ?_
  refine lv_iload_n hx hb dX8_needs_1 rfl (lv_at hl 1 rfl) ?_
  refine lv_iload_n hx hb dX8_needs_2 rfl (lv_at hl 2 rfl) ?_
  refine lv_iload_n hx hb dX8_needs_3 rfl (lv_at hl 3 rfl) ?_
  replace hF := bd1_s hF
  obtain ⟨r_1, hc_2, hF⟩ := hF
  have hPc := hP.sub (ws' := [(a_, .inr (9, [.int c_thrown, .ref a_tape, .int c_taped, .int c_at, .int c_part, .int c_partFrom, .int c_partNumber, .int c_wrong, .long c_partWord, .int c_readLaw, .int c_readBound, .int c_readGoal, .int c_readSites, .ref a_readPlace, .ref a_script, .ref a_scriptLong, .int c_scripts, .ref a_now, .ref a_refused, .int c_sites, .ref a_shareX, .ref a_shareY, .int c_asked, .int c_outcome, .ref a_askedRow, .int c_took, .ref a_kept, .int c_acts, .long c_drawn, .ref a_aside, .int c_racer, .int c_raced, .ref a_spelled, .int c_spelledMany, .ref a_image, .int c_hasImage])), (a_now, .inl (E.2.1, 265, .inl c_now))]) [0, 1] rfl
  refine pE_i (va_runV (As := [.int p1, .int p2, .int p3]) (rest := []) ⟨hx, hb, hml, hown, hts⟩ (f_X8_whyMove l E (a_ := a_) (a_tape := a_tape) (a_readPlace := a_readPlace) (a_script := a_script) (a_scriptLong := a_scriptLong) (a_now := a_now) (a_refused := a_refused) (a_shareX := a_shareX) (a_shareY := a_shareY) (a_askedRow := a_askedRow) (a_kept := a_kept) (a_aside := a_aside) (a_spelled := a_spelled) (a_image := a_image) (p1 := p1) (p2 := p2) (p3 := p3) (c_thrown := c_thrown) (c_taped := c_taped) (c_at := c_at) (c_part := c_part) (c_partFrom := c_partFrom) (c_partNumber := c_partNumber) (c_wrong := c_wrong) (c_partWord := c_partWord) (c_readLaw := c_readLaw) (c_readBound := c_readBound) (c_readGoal := c_readGoal) (c_readSites := c_readSites) (c_scripts := c_scripts) (c_sites := c_sites) (c_asked := c_asked) (c_outcome := c_outcome) (c_took := c_took) (c_acts := c_acts) (c_drawn := c_drawn) (c_racer := c_racer) (c_raced := c_raced) (c_spelledMany := c_spelledMany) (c_hasImage := c_hasImage) (c_now := c_now) hc_2) (cwV 3 hts g_f_X8_needs_f_X8_whyMove_302 rfl rfl rfl (by decide +kernel) ⟨Nat.le_of_ble_eq_true rfl, Nat.le_of_ble_eq_true rfl⟩) ⟨pP.blind, va_recv hK hPc (ci := 9) (q0 := 0) rfl rfl, (pP.pre ⟨hK, hN⟩ hPc)⟩ rfl rfl hl.1 rfl (lv_room (Nat.le_of_ble_eq_true rfl)) dX8_needs_4 ⟨Nat.le_of_ble_eq_true rfl, Nat.le_of_ble_eq_true rfl⟩) ?_
  refine lv_iconst (v := -1) hx hb dX8_needs_7 (by decide) ?_
  refine lv_icmp_ne (tgt := 44) hx hb dX8_needs_8 (by decide) (fun c_3 => ?_) (fun c_3 => ?_)
  ·
    replace hF := inn c_3 hF
    refine lv_ldc2 (v := -100000000) hx hb hown (hts (.constantLong RX8 383 (-100000000)) (List.mem_of_getElem? (i := 1) rfl)) dX8_needs_44 ?_
    rw [hQ]
    obtain e9_0 := inj1 hF
    exact W.lret (v := (-100000000 : Int64)) hx hb hr (fun tt ht hW => ⟨_, rfl, e9_0, ht⟩) (fun _ h => by cases h) dX8_needs_47
  ·
    replace hF := ip c_3 hF
    refine lv_aload_n hx hb dX8_needs_11 rfl (lv_at hl 0 rfl) ?_
    refine lv_aload_n hx hb dX8_needs_12 rfl (lv_at hl 0 rfl) ?_
    refine lv_aload_n hx hb dX8_needs_13 rfl (lv_at hl 0 rfl) ?_
    refine lv_iload_n hx hb dX8_needs_14 rfl (lv_at hl 1 rfl) ?_
    replace hF := bd1_s hF
    obtain ⟨r_4, hc_5, hF⟩ := hF
    have hPc := hP.sub (ws' := [(a_, .inr (9, [.int c_thrown, .ref a_tape, .int c_taped, .int c_at, .int c_part, .int c_partFrom, .int c_partNumber, .int c_wrong, .long c_partWord, .int c_readLaw, .int c_readBound, .int c_readGoal, .int c_readSites, .ref a_readPlace, .ref a_script, .ref a_scriptLong, .int c_scripts, .ref a_now, .ref a_refused, .int c_sites, .ref a_shareX, .ref a_shareY, .int c_asked, .int c_outcome, .ref a_askedRow, .int c_took, .ref a_kept, .int c_acts, .long c_drawn, .ref a_aside, .int c_racer, .int c_raced, .ref a_spelled, .int c_spelledMany, .ref a_image, .int c_hasImage])), (a_now, .inl (E.2.1, 265, .inl c_now))]) [0, 1] rfl
    refine pE_i (va_runV (As := [.int p1]) (rest := [.ref a_, .ref a_]) ⟨hx, hb, hml, hown, hts⟩ (f_X8_driftX l E (a_ := a_) (a_tape := a_tape) (a_readPlace := a_readPlace) (a_script := a_script) (a_scriptLong := a_scriptLong) (a_now := a_now) (a_refused := a_refused) (a_shareX := a_shareX) (a_shareY := a_shareY) (a_askedRow := a_askedRow) (a_kept := a_kept) (a_aside := a_aside) (a_spelled := a_spelled) (a_image := a_image) (p1 := p1) (c_thrown := c_thrown) (c_taped := c_taped) (c_at := c_at) (c_part := c_part) (c_partFrom := c_partFrom) (c_partNumber := c_partNumber) (c_wrong := c_wrong) (c_partWord := c_partWord) (c_readLaw := c_readLaw) (c_readBound := c_readBound) (c_readGoal := c_readGoal) (c_readSites := c_readSites) (c_scripts := c_scripts) (c_sites := c_sites) (c_asked := c_asked) (c_outcome := c_outcome) (c_took := c_took) (c_acts := c_acts) (c_drawn := c_drawn) (c_racer := c_racer) (c_raced := c_raced) (c_spelledMany := c_spelledMany) (c_hasImage := c_hasImage) (c_now := c_now) hc_5) (cwV 1 hts g_f_X8_needs_f_X8_driftX_228 rfl rfl rfl (by decide +kernel) ⟨Nat.le_of_ble_eq_true rfl, Nat.le_of_ble_eq_true rfl⟩) ⟨pP.blind, va_recv hK hPc (ci := 9) (q0 := 0) rfl rfl, (pP.pre ⟨hK, hN⟩ hPc)⟩ rfl rfl hl.1 rfl (lv_room (Nat.le_of_ble_eq_true rfl)) dX8_needs_15 ⟨Nat.le_of_ble_eq_true rfl, Nat.le_of_ble_eq_true rfl⟩) ?_
    refine lv_iload_n hx hb dX8_needs_18 rfl (lv_at hl 2 rfl) ?_
    refine lv_iadd hx hb dX8_needs_19 ?_
    replace hF := bd1_s hF
    obtain ⟨r_6, hc_7, hF⟩ := hF
    have hPc := hP.sub (ws' := [(a_, .inr (9, [.int c_thrown, .ref a_tape, .int c_taped, .int c_at, .int c_part, .int c_partFrom, .int c_partNumber, .int c_wrong, .long c_partWord, .int c_readLaw, .int c_readBound, .int c_readGoal, .int c_readSites, .ref a_readPlace, .ref a_script, .ref a_scriptLong, .int c_scripts, .ref a_now, .ref a_refused, .int c_sites, .ref a_shareX, .ref a_shareY, .int c_asked, .int c_outcome, .ref a_askedRow, .int c_took, .ref a_kept, .int c_acts, .long c_drawn, .ref a_aside, .int c_racer, .int c_raced, .ref a_spelled, .int c_spelledMany, .ref a_image, .int c_hasImage])), (a_now, .inl (E.2.1, 265, .inl c_now))]) [0, 1] rfl
    refine pE_i (va_runV (As := [.int (r_4 + p2)]) (rest := [.ref a_]) ⟨hx, hb, hml, hown, hts⟩ (f_X8_pointX l E K (a_ := a_) (a_tape := a_tape) (a_readPlace := a_readPlace) (a_script := a_script) (a_scriptLong := a_scriptLong) (a_now := a_now) (a_refused := a_refused) (a_shareX := a_shareX) (a_shareY := a_shareY) (a_askedRow := a_askedRow) (a_kept := a_kept) (a_aside := a_aside) (a_spelled := a_spelled) (a_image := a_image) (p1 := r_4 + p2) (c_thrown := c_thrown) (c_taped := c_taped) (c_at := c_at) (c_part := c_part) (c_partFrom := c_partFrom) (c_partNumber := c_partNumber) (c_wrong := c_wrong) (c_partWord := c_partWord) (c_readLaw := c_readLaw) (c_readBound := c_readBound) (c_readGoal := c_readGoal) (c_readSites := c_readSites) (c_scripts := c_scripts) (c_sites := c_sites) (c_asked := c_asked) (c_outcome := c_outcome) (c_took := c_took) (c_acts := c_acts) (c_drawn := c_drawn) (c_racer := c_racer) (c_raced := c_raced) (c_spelledMany := c_spelledMany) (c_hasImage := c_hasImage) (c_now := c_now) hc_7) (cwV 1 hts g_f_X8_needs_f_X8_pointX_222 rfl rfl rfl (by decide +kernel) ⟨Nat.le_of_ble_eq_true rfl, Nat.le_of_ble_eq_true rfl⟩) ⟨pP.blind, va_recv hK hPc (ci := 9) (q0 := 0) rfl rfl, (pP.pre ⟨hK, hN⟩ hPc)⟩ rfl rfl hl.1 rfl (lv_room (Nat.le_of_ble_eq_true rfl)) dX8_needs_20 ⟨Nat.le_of_ble_eq_true rfl, Nat.le_of_ble_eq_true rfl⟩) ?_
    refine lv_i2l (v := r_6.toInt64) hx hb dX8_needs_23 rfl ?_
    refine lv_aload_n hx hb dX8_needs_24 rfl (lv_at hl 0 rfl) ?_
    refine lv_aload_n hx hb dX8_needs_25 rfl (lv_at hl 0 rfl) ?_
    refine lv_iload_n hx hb dX8_needs_26 rfl (lv_at hl 1 rfl) ?_
    replace hF := bd1_s hF
    obtain ⟨r_8, hc_9, hF⟩ := hF
    have hPc := hP.sub (ws' := [(a_, .inr (9, [.int c_thrown, .ref a_tape, .int c_taped, .int c_at, .int c_part, .int c_partFrom, .int c_partNumber, .int c_wrong, .long c_partWord, .int c_readLaw, .int c_readBound, .int c_readGoal, .int c_readSites, .ref a_readPlace, .ref a_script, .ref a_scriptLong, .int c_scripts, .ref a_now, .ref a_refused, .int c_sites, .ref a_shareX, .ref a_shareY, .int c_asked, .int c_outcome, .ref a_askedRow, .int c_took, .ref a_kept, .int c_acts, .long c_drawn, .ref a_aside, .int c_racer, .int c_raced, .ref a_spelled, .int c_spelledMany, .ref a_image, .int c_hasImage])), (a_now, .inl (E.2.1, 265, .inl c_now))]) [0, 1] rfl
    refine pE_i (va_runV (As := [.int p1]) (rest := [.ref a_, .long r_6.toInt64, .ref a_]) ⟨hx, hb, hml, hown, hts⟩ (f_X8_driftY l E (a_ := a_) (a_tape := a_tape) (a_readPlace := a_readPlace) (a_script := a_script) (a_scriptLong := a_scriptLong) (a_now := a_now) (a_refused := a_refused) (a_shareX := a_shareX) (a_shareY := a_shareY) (a_askedRow := a_askedRow) (a_kept := a_kept) (a_aside := a_aside) (a_spelled := a_spelled) (a_image := a_image) (p1 := p1) (c_thrown := c_thrown) (c_taped := c_taped) (c_at := c_at) (c_part := c_part) (c_partFrom := c_partFrom) (c_partNumber := c_partNumber) (c_wrong := c_wrong) (c_partWord := c_partWord) (c_readLaw := c_readLaw) (c_readBound := c_readBound) (c_readGoal := c_readGoal) (c_readSites := c_readSites) (c_scripts := c_scripts) (c_sites := c_sites) (c_asked := c_asked) (c_outcome := c_outcome) (c_took := c_took) (c_acts := c_acts) (c_drawn := c_drawn) (c_racer := c_racer) (c_raced := c_raced) (c_spelledMany := c_spelledMany) (c_hasImage := c_hasImage) (c_now := c_now) hc_9) (cwV 1 hts g_f_X8_needs_f_X8_driftY_231 rfl rfl rfl (by decide +kernel) ⟨Nat.le_of_ble_eq_true rfl, Nat.le_of_ble_eq_true rfl⟩) ⟨pP.blind, va_recv hK hPc (ci := 9) (q0 := 0) rfl rfl, (pP.pre ⟨hK, hN⟩ hPc)⟩ rfl rfl hl.1 rfl (lv_room (Nat.le_of_ble_eq_true rfl)) dX8_needs_27 ⟨Nat.le_of_ble_eq_true rfl, Nat.le_of_ble_eq_true rfl⟩) ?_
    refine lv_iload_n hx hb dX8_needs_30 rfl (lv_at hl 3 rfl) ?_
    refine lv_iadd hx hb dX8_needs_31 ?_
    replace hF := bd1_s hF
    obtain ⟨r_10, hc_11, hF⟩ := hF
    have hPc := hP.sub (ws' := [(a_, .inr (9, [.int c_thrown, .ref a_tape, .int c_taped, .int c_at, .int c_part, .int c_partFrom, .int c_partNumber, .int c_wrong, .long c_partWord, .int c_readLaw, .int c_readBound, .int c_readGoal, .int c_readSites, .ref a_readPlace, .ref a_script, .ref a_scriptLong, .int c_scripts, .ref a_now, .ref a_refused, .int c_sites, .ref a_shareX, .ref a_shareY, .int c_asked, .int c_outcome, .ref a_askedRow, .int c_took, .ref a_kept, .int c_acts, .long c_drawn, .ref a_aside, .int c_racer, .int c_raced, .ref a_spelled, .int c_spelledMany, .ref a_image, .int c_hasImage])), (a_now, .inl (E.2.1, 265, .inl c_now))]) [0, 1] rfl
    refine pE_i (va_runV (As := [.int (r_8 + p3)]) (rest := [.long r_6.toInt64, .ref a_]) ⟨hx, hb, hml, hown, hts⟩ (f_X8_pointY l E K (a_ := a_) (a_tape := a_tape) (a_readPlace := a_readPlace) (a_script := a_script) (a_scriptLong := a_scriptLong) (a_now := a_now) (a_refused := a_refused) (a_shareX := a_shareX) (a_shareY := a_shareY) (a_askedRow := a_askedRow) (a_kept := a_kept) (a_aside := a_aside) (a_spelled := a_spelled) (a_image := a_image) (p1 := r_8 + p3) (c_thrown := c_thrown) (c_taped := c_taped) (c_at := c_at) (c_part := c_part) (c_partFrom := c_partFrom) (c_partNumber := c_partNumber) (c_wrong := c_wrong) (c_partWord := c_partWord) (c_readLaw := c_readLaw) (c_readBound := c_readBound) (c_readGoal := c_readGoal) (c_readSites := c_readSites) (c_scripts := c_scripts) (c_sites := c_sites) (c_asked := c_asked) (c_outcome := c_outcome) (c_took := c_took) (c_acts := c_acts) (c_drawn := c_drawn) (c_racer := c_racer) (c_raced := c_raced) (c_spelledMany := c_spelledMany) (c_hasImage := c_hasImage) (c_now := c_now) hc_11) (cwV 1 hts g_f_X8_needs_f_X8_pointY_225 rfl rfl rfl (by decide +kernel) ⟨Nat.le_of_ble_eq_true rfl, Nat.le_of_ble_eq_true rfl⟩) ⟨pP.blind, va_recv hK hPc (ci := 9) (q0 := 0) rfl rfl, (pP.pre ⟨hK, hN⟩ hPc)⟩ rfl rfl hl.1 rfl (lv_room (Nat.le_of_ble_eq_true rfl)) dX8_needs_32 ⟨Nat.le_of_ble_eq_true rfl, Nat.le_of_ble_eq_true rfl⟩) ?_
    refine lv_i2l (v := r_10.toInt64) hx hb dX8_needs_35 rfl ?_
    replace hF := bd1_s hF
    obtain ⟨r_12, hc_13, hF⟩ := hF
    have hPc := hP.sub (ws' := [(a_, .inr (9, [.int c_thrown, .ref a_tape, .int c_taped, .int c_at, .int c_part, .int c_partFrom, .int c_partNumber, .int c_wrong, .long c_partWord, .int c_readLaw, .int c_readBound, .int c_readGoal, .int c_readSites, .ref a_readPlace, .ref a_script, .ref a_scriptLong, .int c_scripts, .ref a_now, .ref a_refused, .int c_sites, .ref a_shareX, .ref a_shareY, .int c_asked, .int c_outcome, .ref a_askedRow, .int c_took, .ref a_kept, .int c_acts, .long c_drawn, .ref a_aside, .int c_racer, .int c_raced, .ref a_spelled, .int c_spelledMany, .ref a_image, .int c_hasImage])), (a_now, .inl (E.2.1, 265, .inl c_now))]) [0, 1] rfl
    refine pE_l (va_runV (As := [.long r_6.toInt64, .long r_10.toInt64]) (rest := []) ⟨hx, hb, hml, hown, hts⟩ (f_X8_valueOf l E (a_ := a_) (a_tape := a_tape) (a_readPlace := a_readPlace) (a_script := a_script) (a_scriptLong := a_scriptLong) (a_now := a_now) (a_refused := a_refused) (a_shareX := a_shareX) (a_shareY := a_shareY) (a_askedRow := a_askedRow) (a_kept := a_kept) (a_aside := a_aside) (a_spelled := a_spelled) (a_image := a_image) (p1 := r_6.toInt64) (p2 := r_10.toInt64) (c_thrown := c_thrown) (c_taped := c_taped) (c_at := c_at) (c_part := c_part) (c_partFrom := c_partFrom) (c_partNumber := c_partNumber) (c_wrong := c_wrong) (c_partWord := c_partWord) (c_readLaw := c_readLaw) (c_readBound := c_readBound) (c_readGoal := c_readGoal) (c_readSites := c_readSites) (c_scripts := c_scripts) (c_sites := c_sites) (c_asked := c_asked) (c_outcome := c_outcome) (c_took := c_took) (c_acts := c_acts) (c_drawn := c_drawn) (c_racer := c_racer) (c_raced := c_raced) (c_spelledMany := c_spelledMany) (c_hasImage := c_hasImage) (c_now := c_now) hc_13) (cwV 2 hts g_f_X8_needs_f_X8_valueOf_218 rfl rfl rfl (by decide +kernel) ⟨Nat.le_of_ble_eq_true rfl, Nat.le_of_ble_eq_true rfl⟩) ⟨pP.blind, va_recv hK hPc (ci := 9) (q0 := 0) rfl rfl, (pP.pre ⟨hK, hN⟩ hPc)⟩ rfl rfl hl.1 rfl (lv_room (Nat.le_of_ble_eq_true rfl)) dX8_needs_36 ⟨Nat.le_of_ble_eq_true rfl, Nat.le_of_ble_eq_true rfl⟩) ?_
    refine lv_lconst (v := 1) hx hb dX8_needs_39 (by decide) ?_
    refine lv_ladd hx hb dX8_needs_40 ?_
    refine lv_goto (tgt := 47) hx hb dX8_needs_41 (by decide) ?_
    rw [hQ]
    obtain e9_0 := inj1 hF
    exact W.lret (v := r_12 + (1 : Int64)) hx hb hr (fun tt ht hW => ⟨_, rfl, e9_0, ht⟩) (fun _ h => by cases h) dX8_needs_47
