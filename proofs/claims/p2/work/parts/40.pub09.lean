theorem dX7_span_81 : decode cX7_span 81 = .ok (.iload_n 2, 1) := by decide +kernel
theorem dX7_span_82 : decode cX7_span 82 = .ok (.ifCond .ne 7, 3) := by decide +kernel
theorem dX7_span_89 : decode cX7_span 89 = .ok (.iload 7, 2) := by decide +kernel
theorem dX7_span_91 : decode cX7_span 91 = .ok (.invokevirtual 217, 3) := by decide +kernel
theorem dX7_span_94 : decode cX7_span 94 = .ok (.ifCond .ne 6, 3) := by decide +kernel
theorem dX7_span_100 : decode cX7_span 100 = .ok (.iload 7, 2) := by decide +kernel
theorem dX7_span_102 : decode cX7_span 102 = .ok (.istore 5, 2) := by decide +kernel
theorem dX7_span_104 : decode cX7_span 104 = .ok (.iinc 6 1, 3) := by decide +kernel
theorem dX7_span_107 : decode cX7_span 107 = .ok (.goto (-56), 3) := by decide +kernel
theorem dX7_span_85 : decode cX7_span 85 = .ok (.iconst 0, 1) := by decide +kernel
theorem dX7_span_86 : decode cX7_span 86 = .ok (.goto 5, 3) := by decide +kernel
theorem dX7_span_51 : decode cX7_span 51 = .ok (.iload 6, 2) := by decide +kernel
theorem dX7_span_53 : decode cX7_span 53 = .ok (.sipush 200, 3) := by decide +kernel
theorem dX7_span_56 : decode cX7_span 56 = .ok (.if_icmp .gt 54, 3) := by decide +kernel
theorem dX7_span_59 : decode cX7_span 59 = .ok (.iload 4, 2) := by decide +kernel
theorem dX7_span_61 : decode cX7_span 61 = .ok (.iload 6, 2) := by decide +kernel
theorem dX7_span_63 : decode cX7_span 63 = .ok (.imul, 1) := by decide +kernel
theorem dX7_span_64 : decode cX7_span 64 = .ok (.istore 7, 2) := by decide +kernel
theorem dX7_span_66 : decode cX7_span 66 = .ok (.aload_n 0, 1) := by decide +kernel
theorem dX7_span_67 : decode cX7_span 67 = .ok (.getfield 35, 3) := by decide +kernel
theorem dX7_span_70 : decode cX7_span 70 = .ok (.iload_n 1, 1) := by decide +kernel
theorem dX7_span_71 : decode cX7_span 71 = .ok (.iload_n 2, 1) := by decide +kernel
theorem dX7_span_72 : decode cX7_span 72 = .ok (.ifCond .ne 8, 3) := by decide +kernel
theorem dX7_span_80 : decode cX7_span 80 = .ok (.iconst 0, 1) := by decide +kernel
theorem dX7_span_75 : decode cX7_span 75 = .ok (.iload 7, 2) := by decide +kernel
theorem dX7_span_77 : decode cX7_span 77 = .ok (.goto 4, 3) := by decide +kernel
theorem dX7_span_43 : decode cX7_span 43 = .ok (.istore 4, 2) := by decide +kernel
theorem dX7_span_45 : decode cX7_span 45 = .ok (.iconst 0, 1) := by decide +kernel
theorem dX7_span_46 : decode cX7_span 46 = .ok (.istore 5, 2) := by decide +kernel
theorem dX7_span_48 : decode cX7_span 48 = .ok (.iconst 1, 1) := by decide +kernel
theorem dX7_span_49 : decode cX7_span 49 = .ok (.istore 6, 2) := by decide +kernel
theorem dX7_span_97 : decode cX7_span 97 = .ok (.goto 13, 3) := by decide +kernel
theorem dX7_span_110 : decode cX7_span 110 = .ok (.iload 5, 2) := by decide +kernel
theorem dX7_span_112 : decode cX7_span 112 = .ok (.ireturn, 1) := by decide +kernel
theorem dX7_span_0 : decode cX7_span 0 = .ok (.aload_n 0, 1) := by decide +kernel
theorem dX7_span_1 : decode cX7_span 1 = .ok (.getfield 35, 3) := by decide +kernel
theorem dX7_span_4 : decode cX7_span 4 = .ok (.iload_n 1, 1) := by decide +kernel
theorem dX7_span_5 : decode cX7_span 5 = .ok (.invokevirtual 120, 3) := by decide +kernel
theorem dX7_span_8 : decode cX7_span 8 = .ok (.ifCond .eq 23, 3) := by decide +kernel
theorem dX7_span_31 : decode cX7_span 31 = .ok (.ldc 113, 2) := by decide +kernel
theorem dX7_span_33 : decode cX7_span 33 = .ok (.ireturn, 1) := by decide +kernel
theorem dX7_span_11 : decode cX7_span 11 = .ok (.iload_n 2, 1) := by decide +kernel
theorem dX7_span_12 : decode cX7_span 12 = .ok (.ifCond .lt 19, 3) := by decide +kernel
theorem dX7_span_15 : decode cX7_span 15 = .ok (.iload_n 2, 1) := by decide +kernel
theorem dX7_span_16 : decode cX7_span 16 = .ok (.iconst 1, 1) := by decide +kernel
theorem dX7_span_17 : decode cX7_span 17 = .ok (.if_icmp .gt 14, 3) := by decide +kernel
theorem dX7_span_20 : decode cX7_span 20 = .ok (.aload_n 0, 1) := by decide +kernel
theorem dX7_span_21 : decode cX7_span 21 = .ok (.getfield 35, 3) := by decide +kernel
theorem dX7_span_24 : decode cX7_span 24 = .ok (.iload_n 1, 1) := by decide +kernel
theorem dX7_span_25 : decode cX7_span 25 = .ok (.invokevirtual 137, 3) := by decide +kernel
theorem dX7_span_28 : decode cX7_span 28 = .ok (.ifCond .ne 6, 3) := by decide +kernel
theorem dX7_span_34 : decode cX7_span 34 = .ok (.iload_n 3, 1) := by decide +kernel
theorem dX7_span_35 : decode cX7_span 35 = .ok (.ifCond .eq 7, 3) := by decide +kernel
theorem dX7_span_42 : decode cX7_span 42 = .ok (.iconst (-1), 1) := by decide +kernel
theorem dX7_span_38 : decode cX7_span 38 = .ok (.iconst 1, 1) := by decide +kernel
theorem dX7_span_39 : decode cX7_span 39 = .ok (.goto 4, 3) := by decide +kernel
theorem dX7_status_0 : decode cX7_status 0 = .ok (.iload_n 1, 1) := by decide +kernel
theorem dX7_status_1 : decode cX7_status 1 = .ok (.ifCond .lt 21, 3) := by decide +kernel
theorem dX7_status_22 : decode cX7_status 22 = .ok (.iconst (-1), 1) := by decide +kernel
theorem dX7_status_23 : decode cX7_status 23 = .ok (.ireturn, 1) := by decide +kernel
theorem dX7_status_4 : decode cX7_status 4 = .ok (.iload_n 1, 1) := by decide +kernel
theorem dX7_status_5 : decode cX7_status 5 = .ok (.aload_n 0, 1) := by decide +kernel
theorem dX7_status_6 : decode cX7_status 6 = .ok (.getfield 69, 3) := by decide +kernel
theorem dX7_status_9 : decode cX7_status 9 = .ok (.arraylength, 1) := by decide +kernel
theorem dX7_status_10 : decode cX7_status 10 = .ok (.if_icmp .ge 12, 3) := by decide +kernel
theorem dX7_status_13 : decode cX7_status 13 = .ok (.aload_n 0, 1) := by decide +kernel
theorem dX7_status_14 : decode cX7_status 14 = .ok (.getfield 69, 3) := by decide +kernel
theorem dX7_status_17 : decode cX7_status 17 = .ok (.iload_n 1, 1) := by decide +kernel
theorem dX7_status_18 : decode cX7_status 18 = .ok (.iaload, 1) := by decide +kernel
theorem dX7_status_19 : decode cX7_status 19 = .ok (.goto 4, 3) := by decide +kernel
theorem dX7_step_0 : decode cX7_step 0 = .ok (.aload_n 0, 1) := by decide +kernel
theorem dX7_step_1 : decode cX7_step 1 = .ok (.getfield 28, 3) := by decide +kernel
theorem dX7_step_4 : decode cX7_step 4 = .ok (.iload_n 1, 1) := by decide +kernel
theorem dX7_step_5 : decode cX7_step 5 = .ok (.iload_n 2, 1) := by decide +kernel
theorem dX7_step_6 : decode cX7_step 6 = .ok (.iload_n 3, 1) := by decide +kernel
theorem dX7_step_7 : decode cX7_step 7 = .ok (.invokevirtual 288, 3) := by decide +kernel
theorem dX7_step_10 : decode cX7_step 10 = .ok (.ireturn, 1) := by decide +kernel
theorem dX7_sync_0 : decode cX7_sync 0 = .ok (.aload_n 0, 1) := by decide +kernel
theorem dX7_sync_1 : decode cX7_sync 1 = .ok (.iconst 1, 1) := by decide +kernel
theorem dX7_sync_2 : decode cX7_sync 2 = .ok (.iconst (-1), 1) := by decide +kernel
theorem dX7_sync_3 : decode cX7_sync 3 = .ok (.iconst 0, 1) := by decide +kernel
theorem dX7_sync_4 : decode cX7_sync 4 = .ok (.iconst 0, 1) := by decide +kernel
theorem dX7_sync_5 : decode cX7_sync 5 = .ok (.iconst 1, 1) := by decide +kernel
theorem dX7_sync_6 : decode cX7_sync 6 = .ok (.invokevirtual 163, 3) := by decide +kernel
theorem dX7_sync_9 : decode cX7_sync 9 = .ok (.ireturn, 1) := by decide +kernel
theorem dX7_tells_0 : decode cX7_tells 0 = .ok (.aload_n 0, 1) := by decide +kernel
theorem dX7_tells_1 : decode cX7_tells 1 = .ok (.iload_n 1, 1) := by decide +kernel
theorem dX7_tells_2 : decode cX7_tells 2 = .ok (.iload_n 2, 1) := by decide +kernel
theorem dX7_tells_3 : decode cX7_tells 3 = .ok (.invokevirtual 146, 3) := by decide +kernel
theorem dX7_tells_6 : decode cX7_tells 6 = .ok (.ifCond .eq 21, 3) := by decide +kernel
theorem dX7_tells_27 : decode cX7_tells 27 = .ok (.iconst 0, 1) := by decide +kernel
theorem dX7_tells_28 : decode cX7_tells 28 = .ok (.ireturn, 1) := by decide +kernel
theorem dX7_tells_9 : decode cX7_tells 9 = .ok (.aload_n 0, 1) := by decide +kernel
theorem dX7_tells_10 : decode cX7_tells 10 = .ok (.getfield 35, 3) := by decide +kernel
theorem dX7_tells_13 : decode cX7_tells 13 = .ok (.iload_n 1, 1) := by decide +kernel
theorem dX7_tells_14 : decode cX7_tells 14 = .ok (.i2l, 1) := by decide +kernel
theorem dX7_tells_15 : decode cX7_tells 15 = .ok (.iload_n 2, 1) := by decide +kernel
theorem dX7_tells_16 : decode cX7_tells 16 = .ok (.i2l, 1) := by decide +kernel
theorem dX7_tells_17 : decode cX7_tells 17 = .ok (.invokevirtual 156, 3) := by decide +kernel
theorem dX7_tells_20 : decode cX7_tells 20 = .ok (.ifCond .eq 7, 3) := by decide +kernel
theorem dX7_tells_23 : decode cX7_tells 23 = .ok (.iconst 1, 1) := by decide +kernel
theorem dX7_tells_24 : decode cX7_tells 24 = .ok (.goto 4, 3) := by decide +kernel
def J_X7_span_81_r52 (p2 : Int32) (c_now_row : Nat → Int32) (k0 : Int32) (k1 : Int32) (x5 : Int32) (x6 : Int32) (x7 : Int32) : Option ((Int32 × Int32) ⊕ (Nat × Int32)) :=
  if p2 = (0 : Int32) then bd1 (F_X5_isQuietWith k1 k0 (0 : Int32) c_now_row) (fun r_19 => if r_19 = (0 : Int32) then some (.inr (0, x5)) else some (.inl (x7, x6 + (1 : Int32)))) else bd1 (F_X5_isQuietWith k1 k0 x7 c_now_row) (fun r_15 => if r_15 = (0 : Int32) then some (.inr (0, x5)) else some (.inl (x7, x6 + (1 : Int32))))
def B_X7_span_51 (p1 : Int32) (p2 : Int32) (c_now_row : Nat → Int32) (x4 : Int32) (x5 : Int32) (x6 : Int32) : Option ((Int32 × Int32) ⊕ (Nat × Int32)) :=
  if (200 : Int32) < x6 then some (.inr (1, x5)) else if p2 = (0 : Int32) then J_X7_span_81_r52 p2 c_now_row (x4 * x6) p1 x5 x6 (x4 * x6) else J_X7_span_81_r52 p2 c_now_row (0 : Int32) p1 x5 x6 (x4 * x6)
def J_X7_span_43 (K : Nat) (p1 : Int32) (p2 : Int32) (c_now_row : Nat → Int32) (k0 : Int32) : Option (Int32) :=
  bd2 (lpF (fun u9 : Int32 × Int32 => B_X7_span_51 p1 p2 c_now_row k0 u9.1 u9.2) K ((0 : Int32), (1 : Int32))) (fun t_23 x5_24 => if t_23 = 0 then some x5_24 else if t_23 = 1 then some x5_24 else none)
def F_X7_span (K : Nat) (p1 : Int32) (p2 : Int32) (p3 : Int32) (c_now_row : Nat → Int32) : Option (Int32) :=
  bd1 (F_X5_hasSite p1 c_now_row) (fun r_1 => if r_1 = (0 : Int32) then some (-100000000 : Int32) else if p2 < (0 : Int32) then some (-100000000 : Int32) else if (1 : Int32) < p2 then some (-100000000 : Int32) else bd1 (F_X5_isQuiet p1 c_now_row) (fun r_7 => if r_7 = (0 : Int32) then some (-100000000 : Int32) else if p3 = (0 : Int32) then J_X7_span_43 K p1 p2 c_now_row (-1 : Int32) else J_X7_span_43 K p1 p2 c_now_row (1 : Int32)))
abbrev w_X7_span (E : EE) (a_ a_tape a_reader a_scripts a_now a_trial a_kept a_book a_keptBook a_history a_draws a_refused a_now_row a_now_partners a_now_share a_now_leftOver : Nat) (c_hasImage : Int32) (c_now_askedCount : Int32) (c_now_outcome : Int32) (c_now_row : Nat → Int32) : va_W := [(a_, .inr (8, [.ref a_tape, .ref a_reader, .ref a_scripts, .ref a_now, .ref a_trial, .ref a_kept, .ref a_book, .ref a_keptBook, .ref a_history, .ref a_draws, .ref a_refused, .int c_hasImage])), (a_now, .inr (6, [.ref a_now_row, .ref a_now_partners, .int c_now_askedCount, .int c_now_outcome, .ref a_now_share, .ref a_now_leftOver])), (a_now_row, .inl (E.2.1, 81, .inl c_now_row))]
def v_f_X7_span : List Cond := .code yX7_span cX7_span 8 (some .int) :: ([.fieldLink RX7 35 "HushWatch" "now" "LHushWatch$State;", .constant RX7 113 (-100000000), .methodLink RX7 120 yX5_hasSite, .instanceMethod yX5_hasSite, .selects RX5 yX5_hasSite yX5_hasSite, .initialized RX5, .methodLink RX7 137 yX5_isQuiet, .instanceMethod yX5_isQuiet, .selects RX5 yX5_isQuiet yX5_isQuiet, .methodLink RX7 217 yX5_isQuietWith, .instanceMethod yX5_isQuietWith, .selects RX5 yX5_isQuietWith yX5_isQuietWith] ++ (wsX70 ++ (v_f_X5_hasSite ++ (v_f_X5_isQuiet ++ (v_f_X5_isQuietWith ++ ([]))))))
theorem gw_f_X7_span : v_f_X7_span.all goodWord = true := by decide +kernel
theorem i_f_X7_span_X7 : ∀ w ∈ wsX70, w ∈ v_f_X7_span := fun _ h => List.mem_cons_of_mem _ (List.mem_append_right _ (List.mem_append_left _ h))
theorem g_f_X7_span_f_X5_hasSite_120 : GoodIn v_f_X7_span (wsV RX7 120 RX5 yX5_hasSite v_f_X5_hasSite) := goodIn_app (goodIn_of _ (by decide +kernel)) (goodIn_sub (fun _ h => List.mem_cons_of_mem _ (List.mem_append_right _ (List.mem_append_right _ (List.mem_append_left _ h)))) gw_f_X5_hasSite)
theorem g_f_X7_span_f_X5_isQuiet_137 : GoodIn v_f_X7_span (wsV RX7 137 RX5 yX5_isQuiet v_f_X5_isQuiet) := goodIn_app (goodIn_of _ (by decide +kernel)) (goodIn_sub (fun _ h => List.mem_cons_of_mem _ (List.mem_append_right _ (List.mem_append_right _ (List.mem_append_right _ (List.mem_append_left _ h))))) gw_f_X5_isQuiet)
theorem g_f_X7_span_f_X5_isQuietWith_217 : GoodIn v_f_X7_span (wsV RX7 217 RX5 yX5_isQuietWith v_f_X5_isQuietWith) := goodIn_app (goodIn_of _ (by decide +kernel)) (goodIn_sub (fun _ h => List.mem_cons_of_mem _ (List.mem_append_right _ (List.mem_append_right _ (List.mem_append_right _ (List.mem_append_right _ (List.mem_append_left _ h)))))) gw_f_X5_isQuietWith)
set_option maxHeartbeats 4000000 in
set_option maxRecDepth 100000 in
theorem j_X7_span_81_r52 {p : Program} (l : Launch) {e : Env} {s : State} {m : MethodId} {below : List Frame} {meth : Method} {c : Code} {Q : State → Prop} (E : EE) (K : Nat) {a_ a_tape a_reader a_scripts a_now a_trial a_kept a_book a_keptBook a_history a_draws a_refused a_now_row a_now_partners a_now_share a_now_leftOver : Nat} {p1 : Int32} {p2 : Int32} {p3 : Int32} {c_hasImage : Int32} {c_now_askedCount : Int32} {c_now_outcome : Int32} {c_now_row : Nat → Int32} {k0 : Int32} {k1 : Int32} {x4 : Int32} {x5 : Int32} {x6 : Int32} {x7 : Int32} (hx : p.tables.exec = Jvm.exec) (hb : c.code = cX7_span) (hml : c.maxLocals = 8) (hown : s.vm.findClass RX7 = some m.cls) (hts : ∀ w ∈ v_f_X7_span, w.before #[Value.ref a_, Value.int p1, Value.int p2, Value.int p3] s = true) (hK : va_K E.1 vwCl (TY E) s) (hN : NX s) {xx : (Int32 × Int32) ⊕ (Nat × Int32)} (hC : ∀ (x5 : Int32), ∀ (x6 : Int32), xx = .inl (x5, x6) → ∀ (ls : Array Slot), lv_has ls 8 [(0, .ref a_), (1, .int p1), (2, .int p2), (4, .int x4), (5, .int x5), (6, .int x6)] → W p l e ({ frames := 3, cells := 0, slots := 0, locals := 73 } : Room) s m #[Value.ref a_, Value.int p1, Value.int p2, Value.int p3] below meth c s.heap [] 0 0 Q (F0 m 51 ls [])) (hE : ∀ (t9 : Nat), ∀ (x5 : Int32), xx = .inr (t9, x5) → ((t9 = 0 → ∀ (ls : Array Slot), lv_has ls 8 [(5, .int x5)] → W p l e ({ frames := 3, cells := 0, slots := 0, locals := 73 } : Room) s m #[Value.ref a_, Value.int p1, Value.int p2, Value.int p3] below meth c s.heap [] 0 0 Q (F0 m 97 ls [])) ∧ (t9 = 1 → ∀ (ls : Array Slot), lv_has ls 8 [(5, .int x5)] → W p l e ({ frames := 3, cells := 0, slots := 0, locals := 73 } : Room) s m #[Value.ref a_, Value.int p1, Value.int p2, Value.int p3] below meth c s.heap [] 0 0 Q (F0 m 110 ls [])))) (hF : J_X7_span_81_r52 p2 c_now_row k0 k1 x5 x6 x7 = some xx) (hP : va_P E.1 vwCl (w_X7_span E a_ a_tape a_reader a_scripts a_now a_trial a_kept a_book a_keptBook a_history a_draws a_refused a_now_row a_now_partners a_now_share a_now_leftOver c_hasImage c_now_askedCount c_now_outcome c_now_row) s.heap) : ∀ (ls : Array Slot), lv_has ls 8 [(0, .ref a_), (1, .int p1), (2, .int p2), (4, .int x4), (5, .int x5), (6, .int x6), (7, .int x7)] → W p l e ({ frames := 3, cells := 0, slots := 0, locals := 73 } : Room) s m #[Value.ref a_, Value.int p1, Value.int p2, Value.int p3] below meth c s.heap [] 0 0 Q (F0 m 81 ls [.int k0, .int k1, .ref a_now]) := by
  unfold J_X7_span_81_r52 at hF
  replace hP : va_P E.1 vwCl [(a_, .inr (8, [.ref a_tape, .ref a_reader, .ref a_scripts, .ref a_now, .ref a_trial, .ref a_kept, .ref a_book, .ref a_keptBook, .ref a_history, .ref a_draws, .ref a_refused, .int c_hasImage])), (a_now, .inr (6, [.ref a_now_row, .ref a_now_partners, .int c_now_askedCount, .int c_now_outcome, .ref a_now_share, .ref a_now_leftOver])), (a_now_row, .inl (E.2.1, 81, .inl c_now_row))] s.heap := hP
  intro ls hl
  refine lv_iload_n hx hb dX7_span_81 rfl (lv_at hl 2 rfl) ?_
  refine lv_if_ne (tgt := 89) hx hb dX7_span_82 (by decide) (fun c_14 => ?_) (fun c_14 => ?_)
  ·
    replace hF := inn c_14 hF
    refine lv_iload hx hb dX7_span_89 (lv_at hl 6 rfl) ?_
    replace hF := bd1_s hF
    obtain ⟨r_15, hc_16, hF⟩ := hF
    have hPc := hP.sub (ws' := [(a_now, .inr (6, [.ref a_now_row, .ref a_now_partners, .int c_now_askedCount, .int c_now_outcome, .ref a_now_share, .ref a_now_leftOver])), (a_now_row, .inl (E.2.1, 81, .inl c_now_row))]) [1, 2] rfl
    refine pE_z (va_runV (As := [.int k1, .int k0, .int x7]) (rest := []) ⟨hx, hb, hml, hown, hts⟩ (f_X5_isQuietWith l E (a_ := a_now) (a_row := a_now_row) (a_partners := a_now_partners) (a_share := a_now_share) (a_leftOver := a_now_leftOver) (p1 := k1) (p2 := k0) (p3 := x7) (c_askedCount := c_now_askedCount) (c_outcome := c_now_outcome) (c_row := c_now_row) hc_16) (cwV 3 hts g_f_X7_span_f_X5_isQuietWith_217 rfl rfl rfl (by decide +kernel) ⟨Nat.le_of_ble_eq_true rfl, Nat.le_of_ble_eq_true rfl⟩) ⟨pP.blind, va_recv hK hPc (ci := 6) (q0 := 0) rfl rfl, (pP.pre ⟨hK, hN⟩ hPc)⟩ rfl rfl hl.1 rfl (lv_room (Nat.le_of_ble_eq_true rfl)) dX7_span_91 ⟨Nat.le_of_ble_eq_true rfl, Nat.le_of_ble_eq_true rfl⟩) (fun hb_17 => ?_)
    refine lv_if_ne (tgt := 100) hx hb dX7_span_94 (by decide) (fun c_18 => ?_) (fun c_18 => ?_)
    ·
      replace hF := inn c_18 hF
      refine lv_iload hx hb dX7_span_100 (lv_at hl 6 rfl) ?_
      refine lv_istore (lv' := [(5, .int x7), (0, .ref a_), (1, .int p1), (2, .int p2), (4, .int x4), (6, .int x6), (7, .int x7)]) hx hb dX7_span_102 hl (by decide) rfl (fun ls hl => ?_)
      refine lv_iinc (v := x6 + (1 : Int32)) (lv' := [(6, .int (x6 + (1 : Int32))), (5, .int x7), (0, .ref a_), (1, .int p1), (2, .int p2), (4, .int x4), (7, .int x7)]) hx hb dX7_span_104 hl (k := 5) rfl (rfl) (by decide) rfl (fun ls hl => ?_)
      refine lv_goto (tgt := 51) hx hb dX7_span_107 (by decide) ?_
      cases hF
      exact hC x7 (x6 + (1 : Int32)) rfl ls (lv_sub hl [2, 3, 4, 5, 1, 0] rfl)
    ·
      replace hF := ip c_18 hF
      cases hF
      exact (hE 0 x5 rfl).1 rfl ls (lv_sub hl [4] rfl)
  ·
    replace hF := ip c_14 hF
    refine lv_iconst (v := 0) hx hb dX7_span_85 (by decide) ?_
    refine lv_goto (tgt := 91) hx hb dX7_span_86 (by decide) ?_
    replace hF := bd1_s hF
    obtain ⟨r_19, hc_20, hF⟩ := hF
    have hPc := hP.sub (ws' := [(a_now, .inr (6, [.ref a_now_row, .ref a_now_partners, .int c_now_askedCount, .int c_now_outcome, .ref a_now_share, .ref a_now_leftOver])), (a_now_row, .inl (E.2.1, 81, .inl c_now_row))]) [1, 2] rfl
    refine pE_z (va_runV (As := [.int k1, .int k0, .int (0 : Int32)]) (rest := []) ⟨hx, hb, hml, hown, hts⟩ (f_X5_isQuietWith l E (a_ := a_now) (a_row := a_now_row) (a_partners := a_now_partners) (a_share := a_now_share) (a_leftOver := a_now_leftOver) (p1 := k1) (p2 := k0) (p3 := (0 : Int32)) (c_askedCount := c_now_askedCount) (c_outcome := c_now_outcome) (c_row := c_now_row) hc_20) (cwV 3 hts g_f_X7_span_f_X5_isQuietWith_217 rfl rfl rfl (by decide +kernel) ⟨Nat.le_of_ble_eq_true rfl, Nat.le_of_ble_eq_true rfl⟩) ⟨pP.blind, va_recv hK hPc (ci := 6) (q0 := 0) rfl rfl, (pP.pre ⟨hK, hN⟩ hPc)⟩ rfl rfl hl.1 rfl (lv_room (Nat.le_of_ble_eq_true rfl)) dX7_span_91 ⟨Nat.le_of_ble_eq_true rfl, Nat.le_of_ble_eq_true rfl⟩) (fun hb_21 => ?_)
    refine lv_if_ne (tgt := 100) hx hb dX7_span_94 (by decide) (fun c_22 => ?_) (fun c_22 => ?_)
    ·
      replace hF := inn c_22 hF
      refine lv_iload hx hb dX7_span_100 (lv_at hl 6 rfl) ?_
      refine lv_istore (lv' := [(5, .int x7), (0, .ref a_), (1, .int p1), (2, .int p2), (4, .int x4), (6, .int x6), (7, .int x7)]) hx hb dX7_span_102 hl (by decide) rfl (fun ls hl => ?_)
      refine lv_iinc (v := x6 + (1 : Int32)) (lv' := [(6, .int (x6 + (1 : Int32))), (5, .int x7), (0, .ref a_), (1, .int p1), (2, .int p2), (4, .int x4), (7, .int x7)]) hx hb dX7_span_104 hl (k := 5) rfl (rfl) (by decide) rfl (fun ls hl => ?_)
      refine lv_goto (tgt := 51) hx hb dX7_span_107 (by decide) ?_
      cases hF
      exact hC x7 (x6 + (1 : Int32)) rfl ls (lv_sub hl [2, 3, 4, 5, 1, 0] rfl)
    ·
      replace hF := ip c_22 hF
      cases hF
      exact (hE 0 x5 rfl).1 rfl ls (lv_sub hl [4] rfl)

set_option maxHeartbeats 4000000 in
set_option maxRecDepth 100000 in
theorem wb_X7_span_51 {p : Program} (l : Launch) {e : Env} {s : State} {m : MethodId} {below : List Frame} {meth : Method} {c : Code} {Q : State → Prop} (E : EE) (K : Nat) {a_ a_tape a_reader a_scripts a_now a_trial a_kept a_book a_keptBook a_history a_draws a_refused a_now_row a_now_partners a_now_share a_now_leftOver : Nat} {p1 : Int32} {p2 : Int32} {p3 : Int32} {c_hasImage : Int32} {c_now_askedCount : Int32} {c_now_outcome : Int32} {c_now_row : Nat → Int32} {x4 : Int32} {x5 : Int32} {x6 : Int32} (hx : p.tables.exec = Jvm.exec) (hb : c.code = cX7_span) (hml : c.maxLocals = 8) (hown : s.vm.findClass RX7 = some m.cls) (hts : ∀ w ∈ v_f_X7_span, w.before #[Value.ref a_, Value.int p1, Value.int p2, Value.int p3] s = true) (hK : va_K E.1 vwCl (TY E) s) (hN : NX s) {xx : (Int32 × Int32) ⊕ (Nat × Int32)} (hC : ∀ (x5 : Int32), ∀ (x6 : Int32), xx = .inl (x5, x6) → ∀ (ls : Array Slot), lv_has ls 8 [(0, .ref a_), (1, .int p1), (2, .int p2), (4, .int x4), (5, .int x5), (6, .int x6)] → W p l e ({ frames := 3, cells := 0, slots := 0, locals := 73 } : Room) s m #[Value.ref a_, Value.int p1, Value.int p2, Value.int p3] below meth c s.heap [] 0 0 Q (F0 m 51 ls [])) (hE : ∀ (t9 : Nat), ∀ (x5 : Int32), xx = .inr (t9, x5) → ((t9 = 0 → ∀ (ls : Array Slot), lv_has ls 8 [(5, .int x5)] → W p l e ({ frames := 3, cells := 0, slots := 0, locals := 73 } : Room) s m #[Value.ref a_, Value.int p1, Value.int p2, Value.int p3] below meth c s.heap [] 0 0 Q (F0 m 97 ls [])) ∧ (t9 = 1 → ∀ (ls : Array Slot), lv_has ls 8 [(5, .int x5)] → W p l e ({ frames := 3, cells := 0, slots := 0, locals := 73 } : Room) s m #[Value.ref a_, Value.int p1, Value.int p2, Value.int p3] below meth c s.heap [] 0 0 Q (F0 m 110 ls [])))) (hF : B_X7_span_51 p1 p2 c_now_row x4 x5 x6 = some xx) (hP : va_P E.1 vwCl (w_X7_span E a_ a_tape a_reader a_scripts a_now a_trial a_kept a_book a_keptBook a_history a_draws a_refused a_now_row a_now_partners a_now_share a_now_leftOver c_hasImage c_now_askedCount c_now_outcome c_now_row) s.heap) : ∀ (ls : Array Slot), lv_has ls 8 [(0, .ref a_), (1, .int p1), (2, .int p2), (4, .int x4), (5, .int x5), (6, .int x6)] → W p l e ({ frames := 3, cells := 0, slots := 0, locals := 73 } : Room) s m #[Value.ref a_, Value.int p1, Value.int p2, Value.int p3] below meth c s.heap [] 0 0 Q (F0 m 51 ls []) := by
  unfold B_X7_span_51 at hF
  replace hP : va_P E.1 vwCl [(a_, .inr (8, [.ref a_tape, .ref a_reader, .ref a_scripts, .ref a_now, .ref a_trial, .ref a_kept, .ref a_book, .ref a_keptBook, .ref a_history, .ref a_draws, .ref a_refused, .int c_hasImage])), (a_now, .inr (6, [.ref a_now_row, .ref a_now_partners, .int c_now_askedCount, .int c_now_outcome, .ref a_now_share, .ref a_now_leftOver])), (a_now_row, .inl (E.2.1, 81, .inl c_now_row))] s.heap := hP
  intro ls hl
  refine lv_iload hx hb dX7_span_51 (lv_at hl 5 rfl) ?_
  refine lv_sipush (v := 200) hx hb dX7_span_53 (by decide) ?_
  refine lv_icmp_gt (tgt := 110) hx hb dX7_span_56 (by decide) (fun c_12 => ?_) (fun c_12 => ?_)
  ·
    replace hF := ip c_12 hF
    cases hF
    exact (hE 1 x5 rfl).2 rfl ls (lv_sub hl [4] rfl)
  ·
    replace hF := inn c_12 hF
    refine lv_iload hx hb dX7_span_59 (lv_at hl 3 rfl) ?_
    refine lv_iload hx hb dX7_span_61 (lv_at hl 5 rfl) ?_
    refine lv_imul hx hb dX7_span_63 ?_
    refine lv_istore (lv' := [(7, .int (x4 * x6)), (0, .ref a_), (1, .int p1), (2, .int p2), (4, .int x4), (5, .int x5), (6, .int x6)]) hx hb dX7_span_64 hl (by decide) rfl (fun ls hl => ?_)
    refine lv_aload_n hx hb dX7_span_66 rfl (lv_at hl 1 rfl) ?_
    refine va_get (D := E.1) (ci := 8) (v := .ref a_now) (C := RX7) (T := TX7) (N := 12) hx hb hts i_f_X7_span_X7 hown hK hP 0 rfl rfl 3 (by decide) (hts (.fieldLink RX7 35 "HushWatch" "now" "LHushWatch$State;") (List.mem_of_getElem? (i := 1) rfl)) (fun _ h9 => h9) rfl dX7_span_67 ?_
    refine lv_iload_n hx hb dX7_span_70 rfl (lv_at hl 2 rfl) ?_
    refine lv_iload_n hx hb dX7_span_71 rfl (lv_at hl 3 rfl) ?_
    refine lv_if_ne (tgt := 80) hx hb dX7_span_72 (by decide) (fun c_13 => ?_) (fun c_13 => ?_)
    ·
      replace hF := inn c_13 hF
      refine lv_iconst (v := 0) hx hb dX7_span_80 (by decide) ?_
      exact j_X7_span_81_r52 l E K (p1 := p1) (p2 := p2) (p3 := p3) (c_hasImage := c_hasImage) (c_now_askedCount := c_now_askedCount) (c_now_outcome := c_now_outcome) (c_now_row := c_now_row) (k0 := (0 : Int32)) (k1 := p1) (x4 := x4) (x5 := x5) (x6 := x6) (x7 := x4 * x6) hx hb hml hown hts hK hN hC hE hF hP ls (lv_sub hl [1, 2, 3, 4, 5, 6, 0] rfl)
    ·
      replace hF := ip c_13 hF
      refine lv_iload hx hb dX7_span_75 (lv_at hl 0 rfl) ?_
      refine lv_goto (tgt := 81) hx hb dX7_span_77 (by decide) ?_
      exact j_X7_span_81_r52 l E K (p1 := p1) (p2 := p2) (p3 := p3) (c_hasImage := c_hasImage) (c_now_askedCount := c_now_askedCount) (c_now_outcome := c_now_outcome) (c_now_row := c_now_row) (k0 := x4 * x6) (k1 := p1) (x4 := x4) (x5 := x5) (x6 := x6) (x7 := x4 * x6) hx hb hml hown hts hK hN hC hE hF hP ls (lv_sub hl [1, 2, 3, 4, 5, 6, 0] rfl)

set_option maxHeartbeats 4000000 in
set_option maxRecDepth 100000 in
theorem lw_X7_span_51 {p : Program} (l : Launch) {e : Env} {s : State} {m : MethodId} {below : List Frame} {meth : Method} {c : Code} {Q : State → Prop} (E : EE) (K : Nat) {a_ a_tape a_reader a_scripts a_now a_trial a_kept a_book a_keptBook a_history a_draws a_refused a_now_row a_now_partners a_now_share a_now_leftOver : Nat} {p1 : Int32} {p2 : Int32} {p3 : Int32} {c_hasImage : Int32} {c_now_askedCount : Int32} {c_now_outcome : Int32} {c_now_row : Nat → Int32} {x4 : Int32} (hx : p.tables.exec = Jvm.exec) (hb : c.code = cX7_span) (hml : c.maxLocals = 8) (hown : s.vm.findClass RX7 = some m.cls) (hts : ∀ w ∈ v_f_X7_span, w.before #[Value.ref a_, Value.int p1, Value.int p2, Value.int p3] s = true) (hK : va_K E.1 vwCl (TY E) s) (hN : NX s) (hP : va_P E.1 vwCl (w_X7_span E a_ a_tape a_reader a_scripts a_now a_trial a_kept a_book a_keptBook a_history a_draws a_refused a_now_row a_now_partners a_now_share a_now_leftOver c_hasImage c_now_askedCount c_now_outcome c_now_row) s.heap) (j9 : Nat) (x5 : Int32) (x6 : Int32) (t9' : Nat) (x5' : Int32) (hL : lpF (fun u9 : Int32 × Int32 => B_X7_span_51 p1 p2 c_now_row x4 u9.1 u9.2) j9 (x5, x6) = some (t9', x5')) (hX : (t9' = 0 → ∀ (ls : Array Slot), lv_has ls 8 [(5, .int x5')] → W p l e ({ frames := 3, cells := 0, slots := 0, locals := 73 } : Room) s m #[Value.ref a_, Value.int p1, Value.int p2, Value.int p3] below meth c s.heap [] 0 0 Q (F0 m 97 ls [])) ∧ (t9' = 1 → ∀ (ls : Array Slot), lv_has ls 8 [(5, .int x5')] → W p l e ({ frames := 3, cells := 0, slots := 0, locals := 73 } : Room) s m #[Value.ref a_, Value.int p1, Value.int p2, Value.int p3] below meth c s.heap [] 0 0 Q (F0 m 110 ls []))) : ∀ (ls : Array Slot), lv_has ls 8 [(0, .ref a_), (1, .int p1), (2, .int p2), (4, .int x4), (5, .int x5), (6, .int x6)] → W p l e ({ frames := 3, cells := 0, slots := 0, locals := 73 } : Room) s m #[Value.ref a_, Value.int p1, Value.int p2, Value.int p3] below meth c s.heap [] 0 0 Q (F0 m 51 ls []) := by
  exact lp_rule (P := (fun u9 : Int32 × Int32 => ∀ (ls : Array Slot), lv_has ls 8 [(0, .ref a_), (1, .int p1), (2, .int p2), (4, .int x4), (5, .int u9.1), (6, .int u9.2)] → W p l e ({ frames := 3, cells := 0, slots := 0, locals := 73 } : Room) s m #[Value.ref a_, Value.int p1, Value.int p2, Value.int p3] below meth c s.heap [] 0 0 Q (F0 m 51 ls []))) (R := (fun r9 : Nat × Int32 => (r9.1 = 0 → ∀ (ls : Array Slot), lv_has ls 8 [(5, .int r9.2)] → W p l e ({ frames := 3, cells := 0, slots := 0, locals := 73 } : Room) s m #[Value.ref a_, Value.int p1, Value.int p2, Value.int p3] below meth c s.heap [] 0 0 Q (F0 m 97 ls [])) ∧ (r9.1 = 1 → ∀ (ls : Array Slot), lv_has ls 8 [(5, .int r9.2)] → W p l e ({ frames := 3, cells := 0, slots := 0, locals := 73 } : Room) s m #[Value.ref a_, Value.int p1, Value.int p2, Value.int p3] below meth c s.heap [] 0 0 Q (F0 m 110 ls [])))) (fun u9 xx hF hC hE => wb_X7_span_51 l E K (p1 := p1) (p2 := p2) (p3 := p3) (c_hasImage := c_hasImage) (c_now_askedCount := c_now_askedCount) (c_now_outcome := c_now_outcome) (c_now_row := c_now_row) (x4 := x4) (x5 := u9.1) (x6 := u9.2) hx hb hml hown hts hK hN (fun x5 x6 q9 => hC _ q9) (fun t9 x5 q9 => hE _ q9) hF hP) j9 (x5, x6) (t9', x5') hL hX

set_option maxHeartbeats 4000000 in
set_option maxRecDepth 100000 in
theorem j_X7_span_43 {p : Program} (l : Launch) {e : Env} {s : State} {m : MethodId} {below : List Frame} {meth : Method} {c : Code} {Q : State → Prop} (E : EE) (K : Nat) {a_ a_tape a_reader a_scripts a_now a_trial a_kept a_book a_keptBook a_history a_draws a_refused a_now_row a_now_partners a_now_share a_now_leftOver : Nat} {p1 : Int32} {p2 : Int32} {p3 : Int32} {c_hasImage : Int32} {c_now_askedCount : Int32} {c_now_outcome : Int32} {c_now_row : Nat → Int32} {k0 : Int32} (hx : p.tables.exec = Jvm.exec) (hb : c.code = cX7_span) (hml : c.maxLocals = 8) (hown : s.vm.findClass RX7 = some m.cls) (hts : ∀ w ∈ v_f_X7_span, w.before #[Value.ref a_, Value.int p1, Value.int p2, Value.int p3] s = true) (hK : va_K E.1 vwCl (TY E) s) (hN : NX s) {rr : Int32} (hr : meth.sig.returnType = (some .int)) (hlocks : meth.locks = false) (hQ : Q = MQ below (vp_Si (fun q : Int32 => q = rr)) #[Value.ref a_, Value.int p1, Value.int p2, Value.int p3] s 0 0 (fun _ => False)) (hF : J_X7_span_43 K p1 p2 c_now_row k0 = some rr) (hP : va_P E.1 vwCl (w_X7_span E a_ a_tape a_reader a_scripts a_now a_trial a_kept a_book a_keptBook a_history a_draws a_refused a_now_row a_now_partners a_now_share a_now_leftOver c_hasImage c_now_askedCount c_now_outcome c_now_row) s.heap) : ∀ (ls : Array Slot), lv_has ls 8 [(0, .ref a_), (1, .int p1), (2, .int p2)] → W p l e ({ frames := 3, cells := 0, slots := 0, locals := 73 } : Room) s m #[Value.ref a_, Value.int p1, Value.int p2, Value.int p3] below meth c s.heap [] 0 0 Q (F0 m 43 ls [.int k0]) := by
  unfold J_X7_span_43 at hF
  replace hP : va_P E.1 vwCl [(a_, .inr (8, [.ref a_tape, .ref a_reader, .ref a_scripts, .ref a_now, .ref a_trial, .ref a_kept, .ref a_book, .ref a_keptBook, .ref a_history, .ref a_draws, .ref a_refused, .int c_hasImage])), (a_now, .inr (6, [.ref a_now_row, .ref a_now_partners, .int c_now_askedCount, .int c_now_outcome, .ref a_now_share, .ref a_now_leftOver])), (a_now_row, .inl (E.2.1, 81, .inl c_now_row))] s.heap := hP
  intro ls hl
  refine lv_istore (lv' := [(4, .int k0), (0, .ref a_), (1, .int p1), (2, .int p2)]) hx hb dX7_span_43 hl (by decide) rfl (fun ls hl => ?_)
  refine lv_iconst (v := 0) hx hb dX7_span_45 (by decide) ?_
  refine lv_istore (lv' := [(5, .int (0 : Int32)), (4, .int k0), (0, .ref a_), (1, .int p1), (2, .int p2)]) hx hb dX7_span_46 hl (by decide) rfl (fun ls hl => ?_)
  refine lv_iconst (v := 1) hx hb dX7_span_48 (by decide) ?_
  refine lv_istore (lv' := [(6, .int (1 : Int32)), (5, .int (0 : Int32)), (4, .int k0), (0, .ref a_), (1, .int p1), (2, .int p2)]) hx hb dX7_span_49 hl (by decide) rfl (fun ls hl => ?_)
  replace hF := bd2_s hF
  obtain ⟨t_23, x5_24, hL_25, hF⟩ := hF
  refine lw_X7_span_51 l E K (p1 := p1) (p2 := p2) (p3 := p3) (c_hasImage := c_hasImage) (c_now_askedCount := c_now_askedCount) (c_now_outcome := c_now_outcome) (c_now_row := c_now_row) (x4 := k0) hx hb hml hown hts hK hN hP K (0 : Int32) (1 : Int32) t_23 x5_24 hL_25 ⟨?_, ?_⟩ ls (lv_sub hl [3, 4, 5, 2, 1, 0] rfl)
  ·
    intro t9
    replace hF := ip t9 hF
    intro ls hl
    refine lv_goto (tgt := 110) hx hb dX7_span_97 (by decide) ?_
    refine lv_iload hx hb dX7_span_110 (lv_at hl 0 rfl) ?_
    rw [hQ]
    obtain e9_0 := inj1 hF
    exact W.iret (v := x5_24) hx hb hr (fun tt ht hW => ⟨_, rfl, e9_0, ht⟩) (fun _ h => by cases h) dX7_span_112
  ·
    intro t9
    replace hF := inn (show ¬ t_23 = 0 by omega) hF
    replace hF := ip t9 hF
    intro ls hl
    refine lv_iload hx hb dX7_span_110 (lv_at hl 0 rfl) ?_
    rw [hQ]
    obtain e9_0 := inj1 hF
    exact W.iret (v := x5_24) hx hb hr (fun tt ht hW => ⟨_, rfl, e9_0, ht⟩) (fun _ h => by cases h) dX7_span_112

set_option maxHeartbeats 4000000 in
set_option maxRecDepth 100000 in
theorem f_X7_span (l : Launch) (E : EE) (K : Nat) {a_ a_tape a_reader a_scripts a_now a_trial a_kept a_book a_keptBook a_history a_draws a_refused a_now_row a_now_partners a_now_share a_now_leftOver : Nat} {p1 : Int32} {p2 : Int32} {p3 : Int32} {c_hasImage : Int32} {c_now_askedCount : Int32} {c_now_outcome : Int32} {c_now_row : Nat → Int32} {rr : Int32} (hF : F_X7_span K p1 p2 p3 c_now_row = some rr) : Met l yX7_span v_f_X7_span (({ frames := 3, cells := 0, slots := 0, locals := 73 } : Room)) (va_Pc [.ref a_, .int p1, .int p2, .int p3] (pP E (w_X7_span E a_ a_tape a_reader a_scripts a_now a_trial a_kept a_book a_keptBook a_history a_draws a_refused a_now_row a_now_partners a_now_share a_now_leftOver c_hasImage c_now_askedCount c_now_outcome c_now_row))) (vp_Si (fun q : Int32 => q = rr)) 0 0 (fun _ => False) := by
  refine Met.ofW (cc := cX7_span) (maxL := 8) (ret := (some .int)) (by decide) rfl ?_
  intro p e s m args below meth c s₁ B hml hv
  obtain ⟨rfl, ⟨hK, hN⟩, hP⟩ := hv
  have hx := B.exec
  have hb := B.bytes
  have hr := B.returns
  have hts := atoms_spec (ws := v_f_X7_span) B.pre
  have hown : s.vm.findClass RX7 = some m.cls := findClass_of_methodNamed B.named
  have hlocks : meth.locks = false := B.notSynchronized
  replace hP : va_P E.1 vwCl [(a_, .inr (8, [.ref a_tape, .ref a_reader, .ref a_scripts, .ref a_now, .ref a_trial, .ref a_kept, .ref a_book, .ref a_keptBook, .ref a_history, .ref a_draws, .ref a_refused, .int c_hasImage])), (a_now, .inr (6, [.ref a_now_row, .ref a_now_partners, .int c_now_askedCount, .int c_now_outcome, .ref a_now_share, .ref a_now_leftOver])), (a_now_row, .inl (E.2.1, 81, .inl c_now_row))] s.heap := hP
  have hl := lv_entry ([.ref a_, .int p1, .int p2, .int p3]) (n := 8) (Nat.le_of_ble_eq_true rfl)
  rw [lg_entry_eq]
  generalize (lg_sl ([.ref a_, .int p1, .int p2, .int p3]) ++ List.replicate (8 - (lg_sl ([.ref a_, .int p1, .int p2, .int p3])).length) Slot.unset).toArray = ls at hl ⊢
  have hl : lv_has ls 8 [(0, .ref a_), (1, .int p1), (2, .int p2), (3, .int p3)] := hl
  obtain ⟨Q, hQ⟩ : ∃ Q : State → Prop, Q = MQ below (vp_Si (fun q : Int32 => q = rr)) #[Value.ref a_, Value.int p1, Value.int p2, Value.int p3] s 0 0 (fun _ => False) := ⟨_, rfl⟩
  rw [← hQ]
  change W p l e ({ frames := 3, cells := 0, slots := 0, locals := 73 } : Room) s m #[Value.ref a_, Value.int p1, Value.int p2, Value.int p3] below meth c s.heap [] 0 0 Q (F0 m 0 ls [])
  unfold F_X7_span at hF
  refine lv_aload_n hx hb dX7_span_0 rfl (lv_at hl 0 rfl) ?_
  refine va_get (D := E.1) (ci := 8) (v := .ref a_now) (C := RX7) (T := TX7) (N := 12) hx hb hts i_f_X7_span_X7 hown hK hP 0 rfl rfl 3 (by decide) (hts (.fieldLink RX7 35 "HushWatch" "now" "LHushWatch$State;") (List.mem_of_getElem? (i := 1) rfl)) (fun _ h9 => h9) rfl dX7_span_1 ?_
  refine lv_iload_n hx hb dX7_span_4 rfl (lv_at hl 1 rfl) ?_
  replace hF := bd1_s hF
  obtain ⟨r_1, hc_2, hF⟩ := hF
  have hPc := hP.sub (ws' := [(a_now, .inr (6, [.ref a_now_row, .ref a_now_partners, .int c_now_askedCount, .int c_now_outcome, .ref a_now_share, .ref a_now_leftOver])), (a_now_row, .inl (E.2.1, 81, .inl c_now_row))]) [1, 2] rfl
  refine pE_z (va_runV (As := [.int p1]) (rest := []) ⟨hx, hb, hml, hown, hts⟩ (f_X5_hasSite l E (a_ := a_now) (a_row := a_now_row) (a_partners := a_now_partners) (a_share := a_now_share) (a_leftOver := a_now_leftOver) (p1 := p1) (c_askedCount := c_now_askedCount) (c_outcome := c_now_outcome) (c_row := c_now_row) hc_2) (cwV 1 hts g_f_X7_span_f_X5_hasSite_120 rfl rfl rfl (by decide +kernel) ⟨Nat.le_of_ble_eq_true rfl, Nat.le_of_ble_eq_true rfl⟩) ⟨pP.blind, va_recv hK hPc (ci := 6) (q0 := 0) rfl rfl, (pP.pre ⟨hK, hN⟩ hPc)⟩ rfl rfl hl.1 rfl (lv_room (Nat.le_of_ble_eq_true rfl)) dX7_span_5 ⟨Nat.le_of_ble_eq_true rfl, Nat.le_of_ble_eq_true rfl⟩) (fun hb_3 => ?_)
  refine lv_if_eq (tgt := 31) hx hb dX7_span_8 (by decide) (fun c_4 => ?_) (fun c_4 => ?_)
  ·
    replace hF := ip c_4 hF
    refine lv_ldc (v := -100000000) hx hb hown (hts (.constant RX7 113 (-100000000)) (List.mem_of_getElem? (i := 2) rfl)) dX7_span_31 ?_
    rw [hQ]
    obtain e9_0 := inj1 hF
    exact W.iret (v := (-100000000 : Int32)) hx hb hr (fun tt ht hW => ⟨_, rfl, e9_0, ht⟩) (fun _ h => by cases h) dX7_span_33
  ·
    replace hF := inn c_4 hF
    refine lv_iload_n hx hb dX7_span_11 rfl (lv_at hl 2 rfl) ?_
    refine lv_if_lt (tgt := 31) hx hb dX7_span_12 (by decide) (fun c_5 => ?_) (fun c_5 => ?_)
    ·
      replace hF := ip c_5 hF
      refine lv_ldc (v := -100000000) hx hb hown (hts (.constant RX7 113 (-100000000)) (List.mem_of_getElem? (i := 2) rfl)) dX7_span_31 ?_
      rw [hQ]
      obtain e9_0 := inj1 hF
      exact W.iret (v := (-100000000 : Int32)) hx hb hr (fun tt ht hW => ⟨_, rfl, e9_0, ht⟩) (fun _ h => by cases h) dX7_span_33
    ·
      replace hF := inn c_5 hF
      refine lv_iload_n hx hb dX7_span_15 rfl (lv_at hl 2 rfl) ?_
      refine lv_iconst (v := 1) hx hb dX7_span_16 (by decide) ?_
      refine lv_icmp_gt (tgt := 31) hx hb dX7_span_17 (by decide) (fun c_6 => ?_) (fun c_6 => ?_)
      ·
        replace hF := ip c_6 hF
        refine lv_ldc (v := -100000000) hx hb hown (hts (.constant RX7 113 (-100000000)) (List.mem_of_getElem? (i := 2) rfl)) dX7_span_31 ?_
        rw [hQ]
        obtain e9_0 := inj1 hF
        exact W.iret (v := (-100000000 : Int32)) hx hb hr (fun tt ht hW => ⟨_, rfl, e9_0, ht⟩) (fun _ h => by cases h) dX7_span_33
      ·
        replace hF := inn c_6 hF
        refine lv_aload_n hx hb dX7_span_20 rfl (lv_at hl 0 rfl) ?_
        refine va_get (D := E.1) (ci := 8) (v := .ref a_now) (C := RX7) (T := TX7) (N := 12) hx hb hts i_f_X7_span_X7 hown hK hP 0 rfl rfl 3 (by decide) (hts (.fieldLink RX7 35 "HushWatch" "now" "LHushWatch$State;") (List.mem_of_getElem? (i := 1) rfl)) (fun _ h9 => h9) rfl dX7_span_21 ?_
        refine lv_iload_n hx hb dX7_span_24 rfl (lv_at hl 1 rfl) ?_
        replace hF := bd1_s hF
        obtain ⟨r_7, hc_8, hF⟩ := hF
        have hPc := hP.sub (ws' := [(a_now, .inr (6, [.ref a_now_row, .ref a_now_partners, .int c_now_askedCount, .int c_now_outcome, .ref a_now_share, .ref a_now_leftOver])), (a_now_row, .inl (E.2.1, 81, .inl c_now_row))]) [1, 2] rfl
        refine pE_z (va_runV (As := [.int p1]) (rest := []) ⟨hx, hb, hml, hown, hts⟩ (f_X5_isQuiet l E (a_ := a_now) (a_row := a_now_row) (a_partners := a_now_partners) (a_share := a_now_share) (a_leftOver := a_now_leftOver) (p1 := p1) (c_askedCount := c_now_askedCount) (c_outcome := c_now_outcome) (c_row := c_now_row) hc_8) (cwV 1 hts g_f_X7_span_f_X5_isQuiet_137 rfl rfl rfl (by decide +kernel) ⟨Nat.le_of_ble_eq_true rfl, Nat.le_of_ble_eq_true rfl⟩) ⟨pP.blind, va_recv hK hPc (ci := 6) (q0 := 0) rfl rfl, (pP.pre ⟨hK, hN⟩ hPc)⟩ rfl rfl hl.1 rfl (lv_room (Nat.le_of_ble_eq_true rfl)) dX7_span_25 ⟨Nat.le_of_ble_eq_true rfl, Nat.le_of_ble_eq_true rfl⟩) (fun hb_9 => ?_)
        refine lv_if_ne (tgt := 34) hx hb dX7_span_28 (by decide) (fun c_10 => ?_) (fun c_10 => ?_)
        ·
          replace hF := inn c_10 hF
          refine lv_iload_n hx hb dX7_span_34 rfl (lv_at hl 3 rfl) ?_
          refine lv_if_eq (tgt := 42) hx hb dX7_span_35 (by decide) (fun c_11 => ?_) (fun c_11 => ?_)
          ·
            replace hF := ip c_11 hF
            refine lv_iconst (v := -1) hx hb dX7_span_42 (by decide) ?_
            exact j_X7_span_43 l E K (p1 := p1) (p2 := p2) (p3 := p3) (c_hasImage := c_hasImage) (c_now_askedCount := c_now_askedCount) (c_now_outcome := c_now_outcome) (c_now_row := c_now_row) (k0 := (-1 : Int32)) hx hb hml hown hts hK hN hr hlocks hQ hF hP ls (lv_sub hl [0, 1, 2] rfl)
          ·
            replace hF := inn c_11 hF
            refine lv_iconst (v := 1) hx hb dX7_span_38 (by decide) ?_
            refine lv_goto (tgt := 43) hx hb dX7_span_39 (by decide) ?_
            exact j_X7_span_43 l E K (p1 := p1) (p2 := p2) (p3 := p3) (c_hasImage := c_hasImage) (c_now_askedCount := c_now_askedCount) (c_now_outcome := c_now_outcome) (c_now_row := c_now_row) (k0 := (1 : Int32)) hx hb hml hown hts hK hN hr hlocks hQ hF hP ls (lv_sub hl [0, 1, 2] rfl)
        ·
          replace hF := ip c_10 hF
          refine lv_ldc (v := -100000000) hx hb hown (hts (.constant RX7 113 (-100000000)) (List.mem_of_getElem? (i := 2) rfl)) dX7_span_31 ?_
          rw [hQ]
          obtain e9_0 := inj1 hF
          exact W.iret (v := (-100000000 : Int32)) hx hb hr (fun tt ht hW => ⟨_, rfl, e9_0, ht⟩) (fun _ h => by cases h) dX7_span_33

def F_X7_status (p1 : Int32) (c_refused : Nat → Int32) : Option (Int32) :=
  if p1 < (0 : Int32) then some (-1 : Int32) else if (3 : Int32) ≤ p1 then some (-1 : Int32) else ixF p1 3 (some (c_refused p1.toNatClampNeg))
abbrev w_X7_status (E : EE) (a_ a_tape a_reader a_scripts a_now a_trial a_kept a_book a_keptBook a_history a_draws a_refused : Nat) (c_hasImage : Int32) (c_refused : Nat → Int32) : va_W := [(a_, .inr (8, [.ref a_tape, .ref a_reader, .ref a_scripts, .ref a_now, .ref a_trial, .ref a_kept, .ref a_book, .ref a_keptBook, .ref a_history, .ref a_draws, .ref a_refused, .int c_hasImage])), (a_refused, .inl (E.2.1, 3, .inl c_refused))]
def v_f_X7_status : List Cond := .code yX7_status cX7_status 2 (some .int) :: ([.fieldLink RX7 69 "HushWatch" "refused" "[I"] ++ (wsX70 ++ ([])))
theorem gw_f_X7_status : v_f_X7_status.all goodWord = true := by decide +kernel
theorem i_f_X7_status_X7 : ∀ w ∈ wsX70, w ∈ v_f_X7_status := fun _ h => List.mem_cons_of_mem _ (List.mem_append_right _ (List.mem_append_left _ h))
set_option maxHeartbeats 4000000 in
set_option maxRecDepth 100000 in
theorem f_X7_status (l : Launch) (E : EE) {a_ a_tape a_reader a_scripts a_now a_trial a_kept a_book a_keptBook a_history a_draws a_refused : Nat} {p1 : Int32} {c_hasImage : Int32} {c_refused : Nat → Int32} {rr : Int32} (hF : F_X7_status p1 c_refused = some rr) : Met l yX7_status v_f_X7_status (({ frames := 0, cells := 0, slots := 0, locals := 0 } : Room)) (va_Pc [.ref a_, .int p1] (pP E (w_X7_status E a_ a_tape a_reader a_scripts a_now a_trial a_kept a_book a_keptBook a_history a_draws a_refused c_hasImage c_refused))) (vp_Si (fun q : Int32 => q = rr)) 0 0 (fun _ => False) := by
  refine Met.ofW (cc := cX7_status) (maxL := 2) (ret := (some .int)) (by decide) rfl ?_
  intro p e s m args below meth c s₁ B hml hv
  obtain ⟨rfl, ⟨hK, hN⟩, hP⟩ := hv
  have hx := B.exec
  have hb := B.bytes
  have hr := B.returns
  have hts := atoms_spec (ws := v_f_X7_status) B.pre
  have hown : s.vm.findClass RX7 = some m.cls := findClass_of_methodNamed B.named
  have hlocks : meth.locks = false := B.notSynchronized
  replace hP : va_P E.1 vwCl [(a_, .inr (8, [.ref a_tape, .ref a_reader, .ref a_scripts, .ref a_now, .ref a_trial, .ref a_kept, .ref a_book, .ref a_keptBook, .ref a_history, .ref a_draws, .ref a_refused, .int c_hasImage])), (a_refused, .inl (E.2.1, 3, .inl c_refused))] s.heap := hP
  have hl := lv_entry ([.ref a_, .int p1]) (n := 2) (Nat.le_of_ble_eq_true rfl)
  rw [lg_entry_eq]
  generalize (lg_sl ([.ref a_, .int p1]) ++ List.replicate (2 - (lg_sl ([.ref a_, .int p1])).length) Slot.unset).toArray = ls at hl ⊢
  have hl : lv_has ls 2 [(0, .ref a_), (1, .int p1)] := hl
  obtain ⟨Q, hQ⟩ : ∃ Q : State → Prop, Q = MQ below (vp_Si (fun q : Int32 => q = rr)) #[Value.ref a_, Value.int p1] s 0 0 (fun _ => False) := ⟨_, rfl⟩
  rw [← hQ]
  change W p l e ({ frames := 0, cells := 0, slots := 0, locals := 0 } : Room) s m #[Value.ref a_, Value.int p1] below meth c s.heap [] 0 0 Q (F0 m 0 ls [])
  unfold F_X7_status at hF
  refine lv_iload_n hx hb dX7_status_0 rfl (lv_at hl 1 rfl) ?_
  refine lv_if_lt (tgt := 22) hx hb dX7_status_1 (by decide) (fun c_1 => ?_) (fun c_1 => ?_)
  ·
    replace hF := ip c_1 hF
    refine lv_iconst (v := -1) hx hb dX7_status_22 (by decide) ?_
    rw [hQ]
    obtain e9_0 := inj1 hF
    exact W.iret (v := (-1 : Int32)) hx hb hr (fun tt ht hW => ⟨_, rfl, e9_0, ht⟩) (fun _ h => by cases h) dX7_status_23
  ·
    replace hF := inn c_1 hF
    refine lv_iload_n hx hb dX7_status_4 rfl (lv_at hl 1 rfl) ?_
    refine lv_aload_n hx hb dX7_status_5 rfl (lv_at hl 0 rfl) ?_
    refine va_get (D := E.1) (ci := 8) (v := .ref a_refused) (C := RX7) (T := TX7) (N := 12) hx hb hts i_f_X7_status_X7 hown hK hP 0 rfl rfl 10 (by decide) (hts (.fieldLink RX7 69 "HushWatch" "refused" "[I") (List.mem_of_getElem? (i := 1) rfl)) (fun _ h9 => h9) rfl dX7_status_6 ?_
    refine va_alen (v := 3) hx hb hK hP 1 0 rfl rfl rfl dX7_status_9 ?_
    refine lv_icmp_ge (tgt := 22) hx hb dX7_status_10 (by decide) (fun c_2 => ?_) (fun c_2 => ?_)
    ·
      replace hF := ip c_2 hF
      refine lv_iconst (v := -1) hx hb dX7_status_22 (by decide) ?_
      rw [hQ]
      obtain e9_0 := inj1 hF
      exact W.iret (v := (-1 : Int32)) hx hb hr (fun tt ht hW => ⟨_, rfl, e9_0, ht⟩) (fun _ h => by cases h) dX7_status_23
    ·
      replace hF := inn c_2 hF
      refine lv_aload_n hx hb dX7_status_13 rfl (lv_at hl 0 rfl) ?_
      refine va_get (D := E.1) (ci := 8) (v := .ref a_refused) (C := RX7) (T := TX7) (N := 12) hx hb hts i_f_X7_status_X7 hown hK hP 0 rfl rfl 10 (by decide) (hts (.fieldLink RX7 69 "HushWatch" "refused" "[I") (List.mem_of_getElem? (i := 1) rfl)) (fun _ h9 => h9) rfl dX7_status_14 ?_
      refine lv_iload_n hx hb dX7_status_17 rfl (lv_at hl 1 rfl) ?_
      replace hF := ix_s hF
      obtain ⟨hi_3, hF⟩ := hF
      refine va_iald hx hb hK hP 1 0 rfl rfl hi_3 dX7_status_18 ?_
      refine lv_goto (tgt := 23) hx hb dX7_status_19 (by decide) ?_
      rw [hQ]
      obtain e9_0 := inj1 hF
      exact W.iret (v := c_refused p1.toNatClampNeg) hx hb hr (fun tt ht hW => ⟨_, rfl, e9_0, ht⟩) (fun _ h => by cases h) dX7_status_23

def F_X7_step (p1 : Int32) (p2 : Int32) (p3 : Int32) (c_scripts_steps : Nat → Int32) (c_scripts_counts : Nat → Int32) (c_scripts_held : Int32) : Option (Int32) :=
  bd1 (F_X4_read p1 p2 p3 c_scripts_steps c_scripts_counts c_scripts_held) (fun r_1 => some r_1)
abbrev w_X7_step (E : EE) (a_ a_tape a_reader a_scripts a_now a_trial a_kept a_book a_keptBook a_history a_draws a_refused a_scripts_steps a_scripts_counts : Nat) (c_hasImage : Int32) (c_scripts_held : Int32) (c_scripts_steps : Nat → Int32) (c_scripts_counts : Nat → Int32) : va_W := [(a_, .inr (8, [.ref a_tape, .ref a_reader, .ref a_scripts, .ref a_now, .ref a_trial, .ref a_kept, .ref a_book, .ref a_keptBook, .ref a_history, .ref a_draws, .ref a_refused, .int c_hasImage])), (a_scripts, .inr (5, [.ref a_scripts_steps, .ref a_scripts_counts, .int c_scripts_held])), (a_scripts_steps, .inl (E.2.1, 192, .inl c_scripts_steps)), (a_scripts_counts, .inl (E.2.1, 4, .inl c_scripts_counts))]
def v_f_X7_step : List Cond := .code yX7_step cX7_step 4 (some .int) :: ([.fieldLink RX7 28 "HushWatch" "scripts" "LHushWatch$Scripts;", .methodLink RX7 288 yX4_read, .instanceMethod yX4_read, .selects RX4 yX4_read yX4_read, .initialized RX4] ++ (wsX70 ++ (v_f_X4_read ++ ([]))))
theorem gw_f_X7_step : v_f_X7_step.all goodWord = true := by decide +kernel
theorem i_f_X7_step_X7 : ∀ w ∈ wsX70, w ∈ v_f_X7_step := fun _ h => List.mem_cons_of_mem _ (List.mem_append_right _ (List.mem_append_left _ h))
theorem g_f_X7_step_f_X4_read_288 : GoodIn v_f_X7_step (wsV RX7 288 RX4 yX4_read v_f_X4_read) := goodIn_app (goodIn_of _ (by decide +kernel)) (goodIn_sub (fun _ h => List.mem_cons_of_mem _ (List.mem_append_right _ (List.mem_append_right _ (List.mem_append_left _ h)))) gw_f_X4_read)
set_option maxHeartbeats 4000000 in
set_option maxRecDepth 100000 in
theorem f_X7_step (l : Launch) (E : EE) {a_ a_tape a_reader a_scripts a_now a_trial a_kept a_book a_keptBook a_history a_draws a_refused a_scripts_steps a_scripts_counts : Nat} {p1 : Int32} {p2 : Int32} {p3 : Int32} {c_hasImage : Int32} {c_scripts_held : Int32} {c_scripts_steps : Nat → Int32} {c_scripts_counts : Nat → Int32} {rr : Int32} (hF : F_X7_step p1 p2 p3 c_scripts_steps c_scripts_counts c_scripts_held = some rr) : Met l yX7_step v_f_X7_step (({ frames := 3, cells := 0, slots := 0, locals := 65 } : Room)) (va_Pc [.ref a_, .int p1, .int p2, .int p3] (pP E (w_X7_step E a_ a_tape a_reader a_scripts a_now a_trial a_kept a_book a_keptBook a_history a_draws a_refused a_scripts_steps a_scripts_counts c_hasImage c_scripts_held c_scripts_steps c_scripts_counts))) (vp_Si (fun q : Int32 => q = rr)) 0 0 (fun _ => False) := by
  refine Met.ofW (cc := cX7_step) (maxL := 4) (ret := (some .int)) (by decide) rfl ?_
  intro p e s m args below meth c s₁ B hml hv
  obtain ⟨rfl, ⟨hK, hN⟩, hP⟩ := hv
  have hx := B.exec
  have hb := B.bytes
  have hr := B.returns
  have hts := atoms_spec (ws := v_f_X7_step) B.pre
  have hown : s.vm.findClass RX7 = some m.cls := findClass_of_methodNamed B.named
  have hlocks : meth.locks = false := B.notSynchronized
  replace hP : va_P E.1 vwCl [(a_, .inr (8, [.ref a_tape, .ref a_reader, .ref a_scripts, .ref a_now, .ref a_trial, .ref a_kept, .ref a_book, .ref a_keptBook, .ref a_history, .ref a_draws, .ref a_refused, .int c_hasImage])), (a_scripts, .inr (5, [.ref a_scripts_steps, .ref a_scripts_counts, .int c_scripts_held])), (a_scripts_steps, .inl (E.2.1, 192, .inl c_scripts_steps)), (a_scripts_counts, .inl (E.2.1, 4, .inl c_scripts_counts))] s.heap := hP
  have hl := lv_entry ([.ref a_, .int p1, .int p2, .int p3]) (n := 4) (Nat.le_of_ble_eq_true rfl)
  rw [lg_entry_eq]
  generalize (lg_sl ([.ref a_, .int p1, .int p2, .int p3]) ++ List.replicate (4 - (lg_sl ([.ref a_, .int p1, .int p2, .int p3])).length) Slot.unset).toArray = ls at hl ⊢
  have hl : lv_has ls 4 [(0, .ref a_), (1, .int p1), (2, .int p2), (3, .int p3)] := hl
  obtain ⟨Q, hQ⟩ : ∃ Q : State → Prop, Q = MQ below (vp_Si (fun q : Int32 => q = rr)) #[Value.ref a_, Value.int p1, Value.int p2, Value.int p3] s 0 0 (fun _ => False) := ⟨_, rfl⟩
  rw [← hQ]
  change W p l e ({ frames := 3, cells := 0, slots := 0, locals := 65 } : Room) s m #[Value.ref a_, Value.int p1, Value.int p2, Value.int p3] below meth c s.heap [] 0 0 Q (F0 m 0 ls [])
  unfold F_X7_step at hF
  refine lv_aload_n hx hb dX7_step_0 rfl (lv_at hl 0 rfl) ?_
  refine va_get (D := E.1) (ci := 8) (v := .ref a_scripts) (C := RX7) (T := TX7) (N := 12) hx hb hts i_f_X7_step_X7 hown hK hP 0 rfl rfl 2 (by decide) (hts (.fieldLink RX7 28 "HushWatch" "scripts" "LHushWatch$Scripts;") (List.mem_of_getElem? (i := 1) rfl)) (fun _ h9 => h9) rfl dX7_step_1 ?_
  refine lv_iload_n hx hb dX7_step_4 rfl (lv_at hl 1 rfl) ?_
  refine lv_iload_n hx hb dX7_step_5 rfl (lv_at hl 2 rfl) ?_
  refine lv_iload_n hx hb dX7_step_6 rfl (lv_at hl 3 rfl) ?_
  replace hF := bd1_s hF
  obtain ⟨r_1, hc_2, hF⟩ := hF
  have hPc := hP.sub (ws' := [(a_scripts, .inr (5, [.ref a_scripts_steps, .ref a_scripts_counts, .int c_scripts_held])), (a_scripts_steps, .inl (E.2.1, 192, .inl c_scripts_steps)), (a_scripts_counts, .inl (E.2.1, 4, .inl c_scripts_counts))]) [1, 2, 3] rfl
  refine pE_i (va_runV (As := [.int p1, .int p2, .int p3]) (rest := []) ⟨hx, hb, hml, hown, hts⟩ (f_X4_read l E (a_ := a_scripts) (a_steps := a_scripts_steps) (a_counts := a_scripts_counts) (p1 := p1) (p2 := p2) (p3 := p3) (c_held := c_scripts_held) (c_steps := c_scripts_steps) (c_counts := c_scripts_counts) hc_2) (cwV 3 hts g_f_X7_step_f_X4_read_288 rfl rfl rfl (by decide +kernel) ⟨Nat.le_of_ble_eq_true rfl, Nat.le_of_ble_eq_true rfl⟩) ⟨pP.blind, va_recv hK hPc (ci := 5) (q0 := 0) rfl rfl, (pP.pre ⟨hK, hN⟩ hPc)⟩ rfl rfl hl.1 rfl (lv_room (Nat.le_of_ble_eq_true rfl)) dX7_step_7 ⟨Nat.le_of_ble_eq_true rfl, Nat.le_of_ble_eq_true rfl⟩) ?_
  rw [hQ]
  obtain e9_0 := inj1 hF
  exact W.iret (v := r_1) hx hb hr (fun tt ht hW => ⟨_, rfl, e9_0, ht⟩) (fun _ h => by cases h) dX7_step_10

def F_X7_sync (K : Nat) (c_now_row : Nat → Int32) (c_now_partners : Nat → Int32) (c_now_askedCount : Int32) (c_now_outcome : Int32) (c_now_share : Nat → Int32) (c_now_leftOver : Nat → Int32) (c_book_lines : Nat → Int32) (c_history_rows : Nat → Int32) (c_history_next : Int32) (c_history_held : Int32) (c_refused : Nat → Int32) : Option (Int32 × (Nat → Int32) × (Nat → Int32) × Int32 × Int32 × (Nat → Int32) × (Nat → Int32) × (Nat → Int32) × (Nat → Int32) × Int32 × Int32 × (Nat → Int32)) :=
  bd12 (F_X7_act K (1 : Int32) (-1 : Int32) (0 : Int32) (0 : Int32) (1 : Int32) c_now_row c_now_partners c_now_askedCount c_now_outcome c_now_share c_now_leftOver c_book_lines c_history_rows c_history_next c_history_held c_refused) (fun r_1 w_2 w_3 w_4 w_5 w_6 w_7 w_8 w_9 w_10 w_11 w_12 => some (r_1, w_2, w_3, w_4, w_5, w_6, w_7, w_8, w_9, w_10, w_11, w_12))
abbrev w_X7_sync (E : EE) (a_ a_tape a_reader a_scripts a_now a_trial a_kept a_book a_keptBook a_history a_draws a_refused a_now_row a_now_partners a_now_share a_now_leftOver a_book_lines a_history_rows : Nat) (c_hasImage : Int32) (c_now_askedCount : Int32) (c_now_outcome : Int32) (c_now_row : Nat → Int32) (c_now_partners : Nat → Int32) (c_now_share : Nat → Int32) (c_now_leftOver : Nat → Int32) (c_book_lines : Nat → Int32) (c_history_next : Int32) (c_history_held : Int32) (c_history_rows : Nat → Int32) (c_refused : Nat → Int32) : va_W := [(a_, .inr (8, [.ref a_tape, .ref a_reader, .ref a_scripts, .ref a_now, .ref a_trial, .ref a_kept, .ref a_book, .ref a_keptBook, .ref a_history, .ref a_draws, .ref a_refused, .int c_hasImage])), (a_now, .inr (6, [.ref a_now_row, .ref a_now_partners, .int c_now_askedCount, .int c_now_outcome, .ref a_now_share, .ref a_now_leftOver])), (a_now_row, .inl (E.2.1, 81, .inl c_now_row)), (a_now_partners, .inl (E.2.1, 8, .inl c_now_partners)), (a_now_share, .inl (E.2.1, 2, .inl c_now_share)), (a_now_leftOver, .inl (E.2.1, 2, .inl c_now_leftOver)), (a_book, .inr (1, [.ref a_book_lines])), (a_book_lines, .inl (E.2.1, 300, .inl c_book_lines)), (a_history, .inr (3, [.ref a_history_rows, .int c_history_next, .int c_history_held])), (a_history_rows, .inl (E.2.1, 3240, .inl c_history_rows)), (a_refused, .inl (E.2.1, 3, .inl c_refused))]
def v_f_X7_sync : List Cond := .code yX7_sync cX7_sync 1 (some .int) :: ([.methodLink RX7 163 yX7_act, .instanceMethod yX7_act, .selects RX7 yX7_act yX7_act, .initialized RX7] ++ (v_f_X7_act ++ ([])))
theorem gw_f_X7_sync : v_f_X7_sync.all goodWord = true := by decide +kernel
theorem g_f_X7_sync_f_X7_act_163 : GoodIn v_f_X7_sync (wsV RX7 163 RX7 yX7_act v_f_X7_act) := goodIn_app (goodIn_of _ (by decide +kernel)) (goodIn_sub (fun _ h => List.mem_cons_of_mem _ (List.mem_append_right _ (List.mem_append_left _ h))) gw_f_X7_act)
set_option maxHeartbeats 4000000 in
set_option maxRecDepth 100000 in
theorem f_X7_sync (l : Launch) (E : EE) (sz : Nat) (K : Nat) {a_ a_tape a_reader a_scripts a_now a_trial a_kept a_book a_keptBook a_history a_draws a_refused a_now_row a_now_partners a_now_share a_now_leftOver a_book_lines a_history_rows : Nat} {c_hasImage : Int32} {c_now_askedCount : Int32} {c_now_outcome : Int32} {c_now_row : Nat → Int32} {c_now_partners : Nat → Int32} {c_now_share : Nat → Int32} {c_now_leftOver : Nat → Int32} {c_book_lines : Nat → Int32} {c_history_next : Int32} {c_history_held : Int32} {c_history_rows : Nat → Int32} {c_refused : Nat → Int32} {rr : Int32} {n_now_row : Nat → Int32} {n_now_partners : Nat → Int32} {n_now_askedCount : Int32} {n_now_outcome : Int32} {n_now_share : Nat → Int32} {n_now_leftOver : Nat → Int32} {n_book_lines : Nat → Int32} {n_history_rows : Nat → Int32} {n_history_next : Int32} {n_history_held : Int32} {n_refused : Nat → Int32} (hF : F_X7_sync K c_now_row c_now_partners c_now_askedCount c_now_outcome c_now_share c_now_leftOver c_book_lines c_history_rows c_history_next c_history_held c_refused = some (rr, n_now_row, n_now_partners, n_now_askedCount, n_now_outcome, n_now_share, n_now_leftOver, n_book_lines, n_history_rows, n_history_next, n_history_held, n_refused)) : Met l yX7_sync v_f_X7_sync (({ frames := 6, cells := 0, slots := 0, locals := 151 } : Room)) (va_Pc [.ref a_] (pW E sz (w_X7_sync E a_ a_tape a_reader a_scripts a_now a_trial a_kept a_book a_keptBook a_history a_draws a_refused a_now_row a_now_partners a_now_share a_now_leftOver a_book_lines a_history_rows c_hasImage c_now_askedCount c_now_outcome c_now_row c_now_partners c_now_share c_now_leftOver c_book_lines c_history_next c_history_held c_history_rows c_refused))) (va_Qi (fun (q : Int32) (_u : Unit) => q = rr) (fun (_u : Unit) tt => va_P E.1 vwCl (w_X7_sync E a_ a_tape a_reader a_scripts a_now a_trial a_kept a_book a_keptBook a_history a_draws a_refused a_now_row a_now_partners a_now_share a_now_leftOver a_book_lines a_history_rows c_hasImage n_now_askedCount n_now_outcome n_now_row n_now_partners n_now_share n_now_leftOver n_book_lines n_history_next n_history_held n_history_rows n_refused) tt.heap ∧ va_D (va_A (w_X7_sync E a_ a_tape a_reader a_scripts a_now a_trial a_kept a_book a_keptBook a_history a_draws a_refused a_now_row a_now_partners a_now_share a_now_leftOver a_book_lines a_history_rows c_hasImage c_now_askedCount c_now_outcome c_now_row c_now_partners c_now_share c_now_leftOver c_book_lines c_history_next c_history_held c_history_rows c_refused) sz) (w_X7_sync E a_ a_tape a_reader a_scripts a_now a_trial a_kept a_book a_keptBook a_history a_draws a_refused a_now_row a_now_partners a_now_share a_now_leftOver a_book_lines a_history_rows c_hasImage n_now_askedCount n_now_outcome n_now_row n_now_partners n_now_share n_now_leftOver n_book_lines n_history_next n_history_held n_history_rows n_refused)) (va_A (w_X7_sync E a_ a_tape a_reader a_scripts a_now a_trial a_kept a_book a_keptBook a_history a_draws a_refused a_now_row a_now_partners a_now_share a_now_leftOver a_book_lines a_history_rows c_hasImage c_now_askedCount c_now_outcome c_now_row c_now_partners c_now_share c_now_leftOver c_book_lines c_history_next c_history_held c_history_rows c_refused) sz)) 0 0 (va_A (w_X7_sync E a_ a_tape a_reader a_scripts a_now a_trial a_kept a_book a_keptBook a_history a_draws a_refused a_now_row a_now_partners a_now_share a_now_leftOver a_book_lines a_history_rows c_hasImage c_now_askedCount c_now_outcome c_now_row c_now_partners c_now_share c_now_leftOver c_book_lines c_history_next c_history_held c_history_rows c_refused) sz) := by
  refine Met.ofW (cc := cX7_sync) (maxL := 1) (ret := (some .int)) (by decide) rfl ?_
  intro p e s m args below meth c s₁ B hml hv
  obtain ⟨rfl, hsz, ⟨hK, hN⟩, hP, hD0⟩ := hv
  have hx := B.exec
  have hb := B.bytes
  have hr := B.returns
  have hts := atoms_spec (ws := v_f_X7_sync) B.pre
  have hown : s.vm.findClass RX7 = some m.cls := findClass_of_methodNamed B.named
  have hlocks : meth.locks = false := B.notSynchronized
  subst hsz
  have hD := hD0.self (sz := s.heap.size)
  generalize hAe : va_A (w_X7_sync E a_ a_tape a_reader a_scripts a_now a_trial a_kept a_book a_keptBook a_history a_draws a_refused a_now_row a_now_partners a_now_share a_now_leftOver a_book_lines a_history_rows c_hasImage c_now_askedCount c_now_outcome c_now_row c_now_partners c_now_share c_now_leftOver c_book_lines c_history_next c_history_held c_history_rows c_refused) s.heap.size = A at hD ⊢
  have hA : ∀ q : Nat, s.heap.size ≤ q → A q := fun q h => by rw [← hAe]; exact Or.inr h
  have hS : va_S A s.heap s.heap [] := va_S.rf
  have hl := lv_entry ([.ref a_]) (n := 1) (Nat.le_of_ble_eq_true rfl)
  rw [lg_entry_eq]
  generalize (lg_sl ([.ref a_]) ++ List.replicate (1 - (lg_sl ([.ref a_])).length) Slot.unset).toArray = ls at hl ⊢
  have hl : lv_has ls 1 [(0, .ref a_)] := hl
  obtain ⟨Q, hQ⟩ : ∃ Q : State → Prop, Q = MQ below (va_Qi (fun (q : Int32) (_u : Unit) => q = rr) (fun (_u : Unit) tt => va_P E.1 vwCl (w_X7_sync E a_ a_tape a_reader a_scripts a_now a_trial a_kept a_book a_keptBook a_history a_draws a_refused a_now_row a_now_partners a_now_share a_now_leftOver a_book_lines a_history_rows c_hasImage n_now_askedCount n_now_outcome n_now_row n_now_partners n_now_share n_now_leftOver n_book_lines n_history_next n_history_held n_history_rows n_refused) tt.heap ∧ va_D A (w_X7_sync E a_ a_tape a_reader a_scripts a_now a_trial a_kept a_book a_keptBook a_history a_draws a_refused a_now_row a_now_partners a_now_share a_now_leftOver a_book_lines a_history_rows c_hasImage n_now_askedCount n_now_outcome n_now_row n_now_partners n_now_share n_now_leftOver n_book_lines n_history_next n_history_held n_history_rows n_refused)) A) #[Value.ref a_] s 0 0 A := ⟨_, rfl⟩
  rw [← hQ]
  change W p l e ({ frames := 6, cells := 0, slots := 0, locals := 151 } : Room) s m #[Value.ref a_] below meth c s.heap [] 0 0 Q (F0 m 0 ls [])
  suffices hh9 : ∀ (H : Heap) (locs : List Loc), va_P E.1 vwCl (w_X7_sync E a_ a_tape a_reader a_scripts a_now a_trial a_kept a_book a_keptBook a_history a_draws a_refused a_now_row a_now_partners a_now_share a_now_leftOver a_book_lines a_history_rows c_hasImage c_now_askedCount c_now_outcome c_now_row c_now_partners c_now_share c_now_leftOver c_book_lines c_history_next c_history_held c_history_rows c_refused) H → va_D A (w_X7_sync E a_ a_tape a_reader a_scripts a_now a_trial a_kept a_book a_keptBook a_history a_draws a_refused a_now_row a_now_partners a_now_share a_now_leftOver a_book_lines a_history_rows c_hasImage c_now_askedCount c_now_outcome c_now_row c_now_partners c_now_share c_now_leftOver c_book_lines c_history_next c_history_held c_history_rows c_refused) → va_S A s.heap H locs → W p l e ({ frames := 6, cells := 0, slots := 0, locals := 151 } : Room) s m #[Value.ref a_] below meth c H locs 0 0 Q (F0 m 0 ls []) from hh9 s.heap [] hP hD hS
  clear hP hD hS
  intro H locs hP hD hS
  replace hP : va_P E.1 vwCl [(a_, .inr (8, [.ref a_tape, .ref a_reader, .ref a_scripts, .ref a_now, .ref a_trial, .ref a_kept, .ref a_book, .ref a_keptBook, .ref a_history, .ref a_draws, .ref a_refused, .int c_hasImage])), (a_now, .inr (6, [.ref a_now_row, .ref a_now_partners, .int c_now_askedCount, .int c_now_outcome, .ref a_now_share, .ref a_now_leftOver])), (a_now_row, .inl (E.2.1, 81, .inl c_now_row)), (a_now_partners, .inl (E.2.1, 8, .inl c_now_partners)), (a_now_share, .inl (E.2.1, 2, .inl c_now_share)), (a_now_leftOver, .inl (E.2.1, 2, .inl c_now_leftOver)), (a_book, .inr (1, [.ref a_book_lines])), (a_book_lines, .inl (E.2.1, 300, .inl c_book_lines)), (a_history, .inr (3, [.ref a_history_rows, .int c_history_next, .int c_history_held])), (a_history_rows, .inl (E.2.1, 3240, .inl c_history_rows)), (a_refused, .inl (E.2.1, 3, .inl c_refused))] H := hP
  replace hD : va_D A [(a_, .inr (8, [.ref a_tape, .ref a_reader, .ref a_scripts, .ref a_now, .ref a_trial, .ref a_kept, .ref a_book, .ref a_keptBook, .ref a_history, .ref a_draws, .ref a_refused, .int c_hasImage])), (a_now, .inr (6, [.ref a_now_row, .ref a_now_partners, .int c_now_askedCount, .int c_now_outcome, .ref a_now_share, .ref a_now_leftOver])), (a_now_row, .inl (E.2.1, 81, .inl c_now_row)), (a_now_partners, .inl (E.2.1, 8, .inl c_now_partners)), (a_now_share, .inl (E.2.1, 2, .inl c_now_share)), (a_now_leftOver, .inl (E.2.1, 2, .inl c_now_leftOver)), (a_book, .inr (1, [.ref a_book_lines])), (a_book_lines, .inl (E.2.1, 300, .inl c_book_lines)), (a_history, .inr (3, [.ref a_history_rows, .int c_history_next, .int c_history_held])), (a_history_rows, .inl (E.2.1, 3240, .inl c_history_rows)), (a_refused, .inl (E.2.1, 3, .inl c_refused))] := hD
  unfold F_X7_sync at hF
  refine lv_aload_n hx hb dX7_sync_0 rfl (lv_at hl 0 rfl) ?_
  refine lv_iconst (v := 1) hx hb dX7_sync_1 (by decide) ?_
  refine lv_iconst (v := -1) hx hb dX7_sync_2 (by decide) ?_
  refine lv_iconst (v := 0) hx hb dX7_sync_3 (by decide) ?_
  refine lv_iconst (v := 0) hx hb dX7_sync_4 (by decide) ?_
  refine lv_iconst (v := 1) hx hb dX7_sync_5 (by decide) ?_
  replace hF := bd12_s hF
  obtain ⟨r_1, w_2, w_3, w_4, w_5, w_6, w_7, w_8, w_9, w_10, w_11, w_12, hc_13, hF⟩ := hF
  have hPc := hP.sub (ws' := [(a_, .inr (8, [.ref a_tape, .ref a_reader, .ref a_scripts, .ref a_now, .ref a_trial, .ref a_kept, .ref a_book, .ref a_keptBook, .ref a_history, .ref a_draws, .ref a_refused, .int c_hasImage])), (a_now, .inr (6, [.ref a_now_row, .ref a_now_partners, .int c_now_askedCount, .int c_now_outcome, .ref a_now_share, .ref a_now_leftOver])), (a_now_row, .inl (E.2.1, 81, .inl c_now_row)), (a_now_partners, .inl (E.2.1, 8, .inl c_now_partners)), (a_now_share, .inl (E.2.1, 2, .inl c_now_share)), (a_now_leftOver, .inl (E.2.1, 2, .inl c_now_leftOver)), (a_book, .inr (1, [.ref a_book_lines])), (a_book_lines, .inl (E.2.1, 300, .inl c_book_lines)), (a_history, .inr (3, [.ref a_history_rows, .int c_history_next, .int c_history_held])), (a_history_rows, .inl (E.2.1, 3240, .inl c_history_rows)), (a_refused, .inl (E.2.1, 3, .inl c_refused))]) [0, 1, 2, 3, 4, 5, 6, 7, 8, 9, 10] rfl
  have hDc := hD.sub (ws' := [(a_, .inr (8, [.ref a_tape, .ref a_reader, .ref a_scripts, .ref a_now, .ref a_trial, .ref a_kept, .ref a_book, .ref a_keptBook, .ref a_history, .ref a_draws, .ref a_refused, .int c_hasImage])), (a_now, .inr (6, [.ref a_now_row, .ref a_now_partners, .int c_now_askedCount, .int c_now_outcome, .ref a_now_share, .ref a_now_leftOver])), (a_now_row, .inl (E.2.1, 81, .inl c_now_row)), (a_now_partners, .inl (E.2.1, 8, .inl c_now_partners)), (a_now_share, .inl (E.2.1, 2, .inl c_now_share)), (a_now_leftOver, .inl (E.2.1, 2, .inl c_now_leftOver)), (a_book, .inr (1, [.ref a_book_lines])), (a_book_lines, .inl (E.2.1, 300, .inl c_book_lines)), (a_history, .inr (3, [.ref a_history_rows, .int c_history_next, .int c_history_held])), (a_history_rows, .inl (E.2.1, 3240, .inl c_history_rows)), (a_refused, .inl (E.2.1, 3, .inl c_refused))]) [0, 1, 2, 3, 4, 5, 6, 7, 8, 9, 10] (by decide) rfl
  have hFc := va_free (wc := [(a_, .inr (8, [.ref a_tape, .ref a_reader, .ref a_scripts, .ref a_now, .ref a_trial, .ref a_kept, .ref a_book, .ref a_keptBook, .ref a_history, .ref a_draws, .ref a_refused, .int c_hasImage])), (a_now, .inr (6, [.ref a_now_row, .ref a_now_partners, .int c_now_askedCount, .int c_now_outcome, .ref a_now_share, .ref a_now_leftOver])), (a_now_row, .inl (E.2.1, 81, .inl c_now_row)), (a_now_partners, .inl (E.2.1, 8, .inl c_now_partners)), (a_now_share, .inl (E.2.1, 2, .inl c_now_share)), (a_now_leftOver, .inl (E.2.1, 2, .inl c_now_leftOver)), (a_book, .inr (1, [.ref a_book_lines])), (a_book_lines, .inl (E.2.1, 300, .inl c_book_lines)), (a_history, .inr (3, [.ref a_history_rows, .int c_history_next, .int c_history_held])), (a_history_rows, .inl (E.2.1, 3240, .inl c_history_rows)), (a_refused, .inl (E.2.1, 3, .inl c_refused))]) hD hS hA [0, 1, 2, 3, 4, 5, 6, 7, 8, 9, 10] rfl
  refine cE_i (wc := [(a_, .inr (8, [.ref a_tape, .ref a_reader, .ref a_scripts, .ref a_now, .ref a_trial, .ref a_kept, .ref a_book, .ref a_keptBook, .ref a_history, .ref a_draws, .ref a_refused, .int c_hasImage])), (a_now, .inr (6, [.ref a_now_row, .ref a_now_partners, .int c_now_askedCount, .int c_now_outcome, .ref a_now_share, .ref a_now_leftOver])), (a_now_row, .inl (E.2.1, 81, .inl c_now_row)), (a_now_partners, .inl (E.2.1, 8, .inl c_now_partners)), (a_now_share, .inl (E.2.1, 2, .inl c_now_share)), (a_now_leftOver, .inl (E.2.1, 2, .inl c_now_leftOver)), (a_book, .inr (1, [.ref a_book_lines])), (a_book_lines, .inl (E.2.1, 300, .inl c_book_lines)), (a_history, .inr (3, [.ref a_history_rows, .int c_history_next, .int c_history_held])), (a_history_rows, .inl (E.2.1, 3240, .inl c_history_rows)), (a_refused, .inl (E.2.1, 3, .inl c_refused))]) (wr := []) (w1 := [(a_, .inr (8, [.ref a_tape, .ref a_reader, .ref a_scripts, .ref a_now, .ref a_trial, .ref a_kept, .ref a_book, .ref a_keptBook, .ref a_history, .ref a_draws, .ref a_refused, .int c_hasImage])), (a_now, .inr (6, [.ref a_now_row, .ref a_now_partners, .int w_4, .int w_5, .ref a_now_share, .ref a_now_leftOver])), (a_now_row, .inl (E.2.1, 81, .inl w_2)), (a_now_partners, .inl (E.2.1, 8, .inl w_3)), (a_now_share, .inl (E.2.1, 2, .inl w_6)), (a_now_leftOver, .inl (E.2.1, 2, .inl w_7)), (a_book, .inr (1, [.ref a_book_lines])), (a_book_lines, .inl (E.2.1, 300, .inl w_8)), (a_history, .inr (3, [.ref a_history_rows, .int w_10, .int w_11])), (a_history_rows, .inl (E.2.1, 3240, .inl w_9)), (a_refused, .inl (E.2.1, 3, .inl w_12))]) (va_runV (As := [.int (1 : Int32), .int (-1 : Int32), .int (0 : Int32), .int (0 : Int32), .int (1 : Int32)]) (rest := []) ⟨hx, hb, hml, hown, hts⟩ (f_X7_act l E H.size K (a_ := a_) (a_tape := a_tape) (a_reader := a_reader) (a_scripts := a_scripts) (a_now := a_now) (a_trial := a_trial) (a_kept := a_kept) (a_book := a_book) (a_keptBook := a_keptBook) (a_history := a_history) (a_draws := a_draws) (a_refused := a_refused) (a_now_row := a_now_row) (a_now_partners := a_now_partners) (a_now_share := a_now_share) (a_now_leftOver := a_now_leftOver) (a_book_lines := a_book_lines) (a_history_rows := a_history_rows) (p1 := (1 : Int32)) (p2 := (-1 : Int32)) (p3 := (0 : Int32)) (p4 := (0 : Int32)) (p5 := (1 : Int32)) (c_hasImage := c_hasImage) (c_now_askedCount := c_now_askedCount) (c_now_outcome := c_now_outcome) (c_now_row := c_now_row) (c_now_partners := c_now_partners) (c_now_share := c_now_share) (c_now_leftOver := c_now_leftOver) (c_book_lines := c_book_lines) (c_history_next := c_history_next) (c_history_held := c_history_held) (c_history_rows := c_history_rows) (c_refused := c_refused) hc_13) (cwV 5 hts g_f_X7_sync_f_X7_act_163 rfl rfl rfl (by decide +kernel) ⟨Nat.le_of_ble_eq_true rfl, Nat.le_of_ble_eq_true rfl⟩) ⟨pW.blind, va_recv hK hPc (ci := 8) (q0 := 0) rfl rfl, (pW.pre ⟨hK, hN⟩ hPc hDc)⟩ rfl rfl hl.1 rfl (lv_room (Nat.le_of_ble_eq_true rfl)) dX7_sync_6 ⟨Nat.le_of_ble_eq_true rfl, Nat.le_of_ble_eq_true rfl⟩) hS hFc hP hD [0, 1, 2, 3, 4, 5, 6, 7, 8, 9, 10] [] rfl rfl (by decide) (by decide) (fun H locs hP hD hS => ?_)
  replace hP : va_P E.1 vwCl [(a_, .inr (8, [.ref a_tape, .ref a_reader, .ref a_scripts, .ref a_now, .ref a_trial, .ref a_kept, .ref a_book, .ref a_keptBook, .ref a_history, .ref a_draws, .ref a_refused, .int c_hasImage])), (a_now, .inr (6, [.ref a_now_row, .ref a_now_partners, .int w_4, .int w_5, .ref a_now_share, .ref a_now_leftOver])), (a_now_row, .inl (E.2.1, 81, .inl w_2)), (a_now_partners, .inl (E.2.1, 8, .inl w_3)), (a_now_share, .inl (E.2.1, 2, .inl w_6)), (a_now_leftOver, .inl (E.2.1, 2, .inl w_7)), (a_book, .inr (1, [.ref a_book_lines])), (a_book_lines, .inl (E.2.1, 300, .inl w_8)), (a_history, .inr (3, [.ref a_history_rows, .int w_10, .int w_11])), (a_history_rows, .inl (E.2.1, 3240, .inl w_9)), (a_refused, .inl (E.2.1, 3, .inl w_12))] H := hP
  replace hD : va_D A [(a_, .inr (8, [.ref a_tape, .ref a_reader, .ref a_scripts, .ref a_now, .ref a_trial, .ref a_kept, .ref a_book, .ref a_keptBook, .ref a_history, .ref a_draws, .ref a_refused, .int c_hasImage])), (a_now, .inr (6, [.ref a_now_row, .ref a_now_partners, .int w_4, .int w_5, .ref a_now_share, .ref a_now_leftOver])), (a_now_row, .inl (E.2.1, 81, .inl w_2)), (a_now_partners, .inl (E.2.1, 8, .inl w_3)), (a_now_share, .inl (E.2.1, 2, .inl w_6)), (a_now_leftOver, .inl (E.2.1, 2, .inl w_7)), (a_book, .inr (1, [.ref a_book_lines])), (a_book_lines, .inl (E.2.1, 300, .inl w_8)), (a_history, .inr (3, [.ref a_history_rows, .int w_10, .int w_11])), (a_history_rows, .inl (E.2.1, 3240, .inl w_9)), (a_refused, .inl (E.2.1, 3, .inl w_12))] := hD
  rw [hQ]
  obtain ⟨e9_0, e9_1, e9_2, e9_3, e9_4, e9_5, e9_6, e9_7, e9_8, e9_9, e9_10, e9_11⟩ := inj12 hF
  have hP9 : va_P E.1 vwCl [(a_, .inr (8, [.ref a_tape, .ref a_reader, .ref a_scripts, .ref a_now, .ref a_trial, .ref a_kept, .ref a_book, .ref a_keptBook, .ref a_history, .ref a_draws, .ref a_refused, .int c_hasImage])), (a_now, .inr (6, [.ref a_now_row, .ref a_now_partners, .int n_now_askedCount, .int n_now_outcome, .ref a_now_share, .ref a_now_leftOver])), (a_now_row, .inl (E.2.1, 81, .inl n_now_row)), (a_now_partners, .inl (E.2.1, 8, .inl n_now_partners)), (a_now_share, .inl (E.2.1, 2, .inl n_now_share)), (a_now_leftOver, .inl (E.2.1, 2, .inl n_now_leftOver)), (a_book, .inr (1, [.ref a_book_lines])), (a_book_lines, .inl (E.2.1, 300, .inl n_book_lines)), (a_history, .inr (3, [.ref a_history_rows, .int n_history_next, .int n_history_held])), (a_history_rows, .inl (E.2.1, 3240, .inl n_history_rows)), (a_refused, .inl (E.2.1, 3, .inl n_refused))] H := by rw [← e9_1, ← e9_2, ← e9_3, ← e9_4, ← e9_5, ← e9_6, ← e9_7, ← e9_8, ← e9_9, ← e9_10, ← e9_11]; exact hP.sub (ws' := [(a_, .inr (8, [.ref a_tape, .ref a_reader, .ref a_scripts, .ref a_now, .ref a_trial, .ref a_kept, .ref a_book, .ref a_keptBook, .ref a_history, .ref a_draws, .ref a_refused, .int c_hasImage])), (a_now, .inr (6, [.ref a_now_row, .ref a_now_partners, .int w_4, .int w_5, .ref a_now_share, .ref a_now_leftOver])), (a_now_row, .inl (E.2.1, 81, .inl w_2)), (a_now_partners, .inl (E.2.1, 8, .inl w_3)), (a_now_share, .inl (E.2.1, 2, .inl w_6)), (a_now_leftOver, .inl (E.2.1, 2, .inl w_7)), (a_book, .inr (1, [.ref a_book_lines])), (a_book_lines, .inl (E.2.1, 300, .inl w_8)), (a_history, .inr (3, [.ref a_history_rows, .int w_10, .int w_11])), (a_history_rows, .inl (E.2.1, 3240, .inl w_9)), (a_refused, .inl (E.2.1, 3, .inl w_12))]) [0, 1, 2, 3, 4, 5, 6, 7, 8, 9, 10] rfl
  have hD9 : va_D A [(a_, .inr (8, [.ref a_tape, .ref a_reader, .ref a_scripts, .ref a_now, .ref a_trial, .ref a_kept, .ref a_book, .ref a_keptBook, .ref a_history, .ref a_draws, .ref a_refused, .int c_hasImage])), (a_now, .inr (6, [.ref a_now_row, .ref a_now_partners, .int n_now_askedCount, .int n_now_outcome, .ref a_now_share, .ref a_now_leftOver])), (a_now_row, .inl (E.2.1, 81, .inl n_now_row)), (a_now_partners, .inl (E.2.1, 8, .inl n_now_partners)), (a_now_share, .inl (E.2.1, 2, .inl n_now_share)), (a_now_leftOver, .inl (E.2.1, 2, .inl n_now_leftOver)), (a_book, .inr (1, [.ref a_book_lines])), (a_book_lines, .inl (E.2.1, 300, .inl n_book_lines)), (a_history, .inr (3, [.ref a_history_rows, .int n_history_next, .int n_history_held])), (a_history_rows, .inl (E.2.1, 3240, .inl n_history_rows)), (a_refused, .inl (E.2.1, 3, .inl n_refused))] := by rw [← e9_1, ← e9_2, ← e9_3, ← e9_4, ← e9_5, ← e9_6, ← e9_7, ← e9_8, ← e9_9, ← e9_10, ← e9_11]; exact hD.sub (ws' := [(a_, .inr (8, [.ref a_tape, .ref a_reader, .ref a_scripts, .ref a_now, .ref a_trial, .ref a_kept, .ref a_book, .ref a_keptBook, .ref a_history, .ref a_draws, .ref a_refused, .int c_hasImage])), (a_now, .inr (6, [.ref a_now_row, .ref a_now_partners, .int w_4, .int w_5, .ref a_now_share, .ref a_now_leftOver])), (a_now_row, .inl (E.2.1, 81, .inl w_2)), (a_now_partners, .inl (E.2.1, 8, .inl w_3)), (a_now_share, .inl (E.2.1, 2, .inl w_6)), (a_now_leftOver, .inl (E.2.1, 2, .inl w_7)), (a_book, .inr (1, [.ref a_book_lines])), (a_book_lines, .inl (E.2.1, 300, .inl w_8)), (a_history, .inr (3, [.ref a_history_rows, .int w_10, .int w_11])), (a_history_rows, .inl (E.2.1, 3240, .inl w_9)), (a_refused, .inl (E.2.1, 3, .inl w_12))]) [0, 1, 2, 3, 4, 5, 6, 7, 8, 9, 10] (by decide) rfl
  exact W.iret (v := r_1) hx hb hr (fun tt ht hW => ⟨⟨_, (), rfl, e9_0, by rw [ht]; exact hP9, hD9⟩, hS.F ht⟩) hS.2.2 dX7_sync_9

def F_X7_tells (p1 : Int32) (p2 : Int32) (c_now_row : Nat → Int32) : Option (Int32) :=
  bd1 (F_X7_canBeAsked p1 p2 c_now_row) (fun r_1 => if r_1 = (0 : Int32) then some (0 : Int32) else bd1 (F_X5_allows p1.toInt64 p2.toInt64 c_now_row) (fun r_5 => if r_5 = (0 : Int32) then some (0 : Int32) else some (1 : Int32)))
abbrev w_X7_tells (E : EE) (a_ a_tape a_reader a_scripts a_now a_trial a_kept a_book a_keptBook a_history a_draws a_refused a_now_row a_now_partners a_now_share a_now_leftOver : Nat) (c_hasImage : Int32) (c_now_askedCount : Int32) (c_now_outcome : Int32) (c_now_row : Nat → Int32) : va_W := [(a_, .inr (8, [.ref a_tape, .ref a_reader, .ref a_scripts, .ref a_now, .ref a_trial, .ref a_kept, .ref a_book, .ref a_keptBook, .ref a_history, .ref a_draws, .ref a_refused, .int c_hasImage])), (a_now, .inr (6, [.ref a_now_row, .ref a_now_partners, .int c_now_askedCount, .int c_now_outcome, .ref a_now_share, .ref a_now_leftOver])), (a_now_row, .inl (E.2.1, 81, .inl c_now_row))]
def v_f_X7_tells : List Cond := .code yX7_tells cX7_tells 3 (some .boolean) :: ([.fieldLink RX7 35 "HushWatch" "now" "LHushWatch$State;", .methodLink RX7 146 yX7_canBeAsked, .instanceMethod yX7_canBeAsked, .selects RX7 yX7_canBeAsked yX7_canBeAsked, .initialized RX7, .methodLink RX7 156 yX5_allows, .instanceMethod yX5_allows, .selects RX5 yX5_allows yX5_allows, .initialized RX5] ++ (v_f_X7_canBeAsked ++ (wsX70 ++ (v_f_X5_allows ++ ([])))))
theorem gw_f_X7_tells : v_f_X7_tells.all goodWord = true := by decide +kernel
theorem i_f_X7_tells_X7 : ∀ w ∈ wsX70, w ∈ v_f_X7_tells := fun _ h => List.mem_cons_of_mem _ (List.mem_append_right _ (List.mem_append_right _ (List.mem_append_left _ h)))
theorem g_f_X7_tells_f_X7_canBeAsked_146 : GoodIn v_f_X7_tells (wsV RX7 146 RX7 yX7_canBeAsked v_f_X7_canBeAsked) := goodIn_app (goodIn_of _ (by decide +kernel)) (goodIn_sub (fun _ h => List.mem_cons_of_mem _ (List.mem_append_right _ (List.mem_append_left _ h))) gw_f_X7_canBeAsked)
theorem g_f_X7_tells_f_X5_allows_156 : GoodIn v_f_X7_tells (wsV RX7 156 RX5 yX5_allows v_f_X5_allows) := goodIn_app (goodIn_of _ (by decide +kernel)) (goodIn_sub (fun _ h => List.mem_cons_of_mem _ (List.mem_append_right _ (List.mem_append_right _ (List.mem_append_right _ (List.mem_append_left _ h))))) gw_f_X5_allows)
set_option maxHeartbeats 4000000 in
set_option maxRecDepth 100000 in
theorem f_X7_tells (l : Launch) (E : EE) {a_ a_tape a_reader a_scripts a_now a_trial a_kept a_book a_keptBook a_history a_draws a_refused a_now_row a_now_partners a_now_share a_now_leftOver : Nat} {p1 : Int32} {p2 : Int32} {c_hasImage : Int32} {c_now_askedCount : Int32} {c_now_outcome : Int32} {c_now_row : Nat → Int32} {rr : Int32} (hF : F_X7_tells p1 p2 c_now_row = some rr) : Met l yX7_tells v_f_X7_tells (({ frames := 2, cells := 0, slots := 0, locals := 52 } : Room)) (va_Pc [.ref a_, .int p1, .int p2] (pP E (w_X7_tells E a_ a_tape a_reader a_scripts a_now a_trial a_kept a_book a_keptBook a_history a_draws a_refused a_now_row a_now_partners a_now_share a_now_leftOver c_hasImage c_now_askedCount c_now_outcome c_now_row))) (vp_Si (fun q : Int32 => q = rr ∧ (q = 0 ∨ q = 1))) 0 0 (fun _ => False) := by
  refine Met.ofW (cc := cX7_tells) (maxL := 3) (ret := (some .boolean)) (by decide) rfl ?_
  intro p e s m args below meth c s₁ B hml hv
  obtain ⟨rfl, ⟨hK, hN⟩, hP⟩ := hv
  have hx := B.exec
  have hb := B.bytes
  have hr := B.returns
  have hts := atoms_spec (ws := v_f_X7_tells) B.pre
  have hown : s.vm.findClass RX7 = some m.cls := findClass_of_methodNamed B.named
  have hlocks : meth.locks = false := B.notSynchronized
  replace hP : va_P E.1 vwCl [(a_, .inr (8, [.ref a_tape, .ref a_reader, .ref a_scripts, .ref a_now, .ref a_trial, .ref a_kept, .ref a_book, .ref a_keptBook, .ref a_history, .ref a_draws, .ref a_refused, .int c_hasImage])), (a_now, .inr (6, [.ref a_now_row, .ref a_now_partners, .int c_now_askedCount, .int c_now_outcome, .ref a_now_share, .ref a_now_leftOver])), (a_now_row, .inl (E.2.1, 81, .inl c_now_row))] s.heap := hP
  have hl := lv_entry ([.ref a_, .int p1, .int p2]) (n := 3) (Nat.le_of_ble_eq_true rfl)
  rw [lg_entry_eq]
  generalize (lg_sl ([.ref a_, .int p1, .int p2]) ++ List.replicate (3 - (lg_sl ([.ref a_, .int p1, .int p2])).length) Slot.unset).toArray = ls at hl ⊢
  have hl : lv_has ls 3 [(0, .ref a_), (1, .int p1), (2, .int p2)] := hl
  obtain ⟨Q, hQ⟩ : ∃ Q : State → Prop, Q = MQ below (vp_Si (fun q : Int32 => q = rr ∧ (q = 0 ∨ q = 1))) #[Value.ref a_, Value.int p1, Value.int p2] s 0 0 (fun _ => False) := ⟨_, rfl⟩
  rw [← hQ]
  change W p l e ({ frames := 2, cells := 0, slots := 0, locals := 52 } : Room) s m #[Value.ref a_, Value.int p1, Value.int p2] below meth c s.heap [] 0 0 Q (F0 m 0 ls [])
  unfold F_X7_tells at hF
  refine lv_aload_n hx hb dX7_tells_0 rfl (lv_at hl 0 rfl) ?_
  refine lv_iload_n hx hb dX7_tells_1 rfl (lv_at hl 1 rfl) ?_
  refine lv_iload_n hx hb dX7_tells_2 rfl (lv_at hl 2 rfl) ?_
  replace hF := bd1_s hF
  obtain ⟨r_1, hc_2, hF⟩ := hF
  have hPc := hP.sub (ws' := [(a_, .inr (8, [.ref a_tape, .ref a_reader, .ref a_scripts, .ref a_now, .ref a_trial, .ref a_kept, .ref a_book, .ref a_keptBook, .ref a_history, .ref a_draws, .ref a_refused, .int c_hasImage])), (a_now, .inr (6, [.ref a_now_row, .ref a_now_partners, .int c_now_askedCount, .int c_now_outcome, .ref a_now_share, .ref a_now_leftOver])), (a_now_row, .inl (E.2.1, 81, .inl c_now_row))]) [0, 1, 2] rfl
  refine pE_z (va_runV (As := [.int p1, .int p2]) (rest := []) ⟨hx, hb, hml, hown, hts⟩ (f_X7_canBeAsked l E (a_ := a_) (a_tape := a_tape) (a_reader := a_reader) (a_scripts := a_scripts) (a_now := a_now) (a_trial := a_trial) (a_kept := a_kept) (a_book := a_book) (a_keptBook := a_keptBook) (a_history := a_history) (a_draws := a_draws) (a_refused := a_refused) (a_now_row := a_now_row) (a_now_partners := a_now_partners) (a_now_share := a_now_share) (a_now_leftOver := a_now_leftOver) (p1 := p1) (p2 := p2) (c_hasImage := c_hasImage) (c_now_askedCount := c_now_askedCount) (c_now_outcome := c_now_outcome) (c_now_row := c_now_row) hc_2) (cwV 2 hts g_f_X7_tells_f_X7_canBeAsked_146 rfl rfl rfl (by decide +kernel) ⟨Nat.le_of_ble_eq_true rfl, Nat.le_of_ble_eq_true rfl⟩) ⟨pP.blind, va_recv hK hPc (ci := 8) (q0 := 0) rfl rfl, (pP.pre ⟨hK, hN⟩ hPc)⟩ rfl rfl hl.1 rfl (lv_room (Nat.le_of_ble_eq_true rfl)) dX7_tells_3 ⟨Nat.le_of_ble_eq_true rfl, Nat.le_of_ble_eq_true rfl⟩) (fun hb_3 => ?_)
  refine lv_if_eq (tgt := 27) hx hb dX7_tells_6 (by decide) (fun c_4 => ?_) (fun c_4 => ?_)
  ·
    replace hF := ip c_4 hF
    refine lv_iconst (v := 0) hx hb dX7_tells_27 (by decide) ?_
    rw [hQ]
    obtain e9_0 := inj1 hF
    exact W.zret (v := (0 : Int32)) hx hb hr rfl (fun tt ht hW => ⟨_, rfl, ⟨e9_0, Or.inl rfl⟩, ht⟩) (fun _ h => by cases h) dX7_tells_28
  ·
    replace hF := inn c_4 hF
    refine lv_aload_n hx hb dX7_tells_9 rfl (lv_at hl 0 rfl) ?_
    refine va_get (D := E.1) (ci := 8) (v := .ref a_now) (C := RX7) (T := TX7) (N := 12) hx hb hts i_f_X7_tells_X7 hown hK hP 0 rfl rfl 3 (by decide) (hts (.fieldLink RX7 35 "HushWatch" "now" "LHushWatch$State;") (List.mem_of_getElem? (i := 1) rfl)) (fun _ h9 => h9) rfl dX7_tells_10 ?_
    refine lv_iload_n hx hb dX7_tells_13 rfl (lv_at hl 1 rfl) ?_
    refine lv_i2l (v := p1.toInt64) hx hb dX7_tells_14 rfl ?_
    refine lv_iload_n hx hb dX7_tells_15 rfl (lv_at hl 2 rfl) ?_
    refine lv_i2l (v := p2.toInt64) hx hb dX7_tells_16 rfl ?_
    replace hF := bd1_s hF
    obtain ⟨r_5, hc_6, hF⟩ := hF
    have hPc := hP.sub (ws' := [(a_now, .inr (6, [.ref a_now_row, .ref a_now_partners, .int c_now_askedCount, .int c_now_outcome, .ref a_now_share, .ref a_now_leftOver])), (a_now_row, .inl (E.2.1, 81, .inl c_now_row))]) [1, 2] rfl
    refine pE_z (va_runV (As := [.long p1.toInt64, .long p2.toInt64]) (rest := []) ⟨hx, hb, hml, hown, hts⟩ (f_X5_allows l E (a_ := a_now) (a_row := a_now_row) (a_partners := a_now_partners) (a_share := a_now_share) (a_leftOver := a_now_leftOver) (p1 := p1.toInt64) (p2 := p2.toInt64) (c_askedCount := c_now_askedCount) (c_outcome := c_now_outcome) (c_row := c_now_row) hc_6) (cwV 2 hts g_f_X7_tells_f_X5_allows_156 rfl rfl rfl (by decide +kernel) ⟨Nat.le_of_ble_eq_true rfl, Nat.le_of_ble_eq_true rfl⟩) ⟨pP.blind, va_recv hK hPc (ci := 6) (q0 := 0) rfl rfl, (pP.pre ⟨hK, hN⟩ hPc)⟩ rfl rfl hl.1 rfl (lv_room (Nat.le_of_ble_eq_true rfl)) dX7_tells_17 ⟨Nat.le_of_ble_eq_true rfl, Nat.le_of_ble_eq_true rfl⟩) (fun hb_7 => ?_)
    refine lv_if_eq (tgt := 27) hx hb dX7_tells_20 (by decide) (fun c_8 => ?_) (fun c_8 => ?_)
    ·
      replace hF := ip c_8 hF
      refine lv_iconst (v := 0) hx hb dX7_tells_27 (by decide) ?_
      rw [hQ]
      obtain e9_0 := inj1 hF
      exact W.zret (v := (0 : Int32)) hx hb hr rfl (fun tt ht hW => ⟨_, rfl, ⟨e9_0, Or.inl rfl⟩, ht⟩) (fun _ h => by cases h) dX7_tells_28
    ·
      replace hF := inn c_8 hF
      refine lv_iconst (v := 1) hx hb dX7_tells_23 (by decide) ?_
      refine lv_goto (tgt := 28) hx hb dX7_tells_24 (by decide) ?_
      rw [hQ]
      obtain e9_0 := inj1 hF
      exact W.zret (v := (1 : Int32)) hx hb hr rfl (fun tt ht hW => ⟨_, rfl, ⟨e9_0, Or.inr rfl⟩, ht⟩) (fun _ h => by cases h) dX7_tells_28
