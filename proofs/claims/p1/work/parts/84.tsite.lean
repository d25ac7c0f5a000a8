theorem dX7_site_0 : decode cX7_site 0 = .ok (.aload_n 0, 1) := by decide +kernel
theorem dX7_site_1 : decode cX7_site 1 = .ok (.getfield 35, 3) := by decide +kernel
theorem dX7_site_4 : decode cX7_site 4 = .ok (.iload_n 1, 1) := by decide +kernel
theorem dX7_site_5 : decode cX7_site 5 = .ok (.invokevirtual 120, 3) := by decide +kernel
theorem dX7_site_8 : decode cX7_site 8 = .ok (.ifCond .eq 13, 3) := by decide +kernel
theorem dX7_site_21 : decode cX7_site 21 = .ok (.new 123, 3) := by decide +kernel
theorem dX7_site_24 : decode cX7_site 24 = .ok (.dup, 1) := by decide +kernel
theorem dX7_site_25 : decode cX7_site 25 = .ok (.ldc 125, 2) := by decide +kernel
theorem dX7_site_27 : decode cX7_site 27 = .ok (.invokespecial 127, 3) := by decide +kernel
theorem dX7_site_30 : decode cX7_site 30 = .ok (.athrow, 1) := by decide +kernel
theorem dL_site_0 : decode cL_site 0 = .ok (.aload_n 3, 1) := by decide +kernel
theorem dL_site_1 : decode cL_site 1 = .ok (.iconst 0, 1) := by decide +kernel
theorem dL_site_2 : decode cL_site 2 = .ok (.aload_n 0, 1) := by decide +kernel
theorem dL_site_3 : decode cL_site 3 = .ok (.iload_n 1, 1) := by decide +kernel
theorem dL_site_4 : decode cL_site 4 = .ok (.iload_n 2, 1) := by decide +kernel
theorem dL_site_5 : decode cL_site 5 = .ok (.invokevirtual 7, 3) := by decide +kernel
theorem dL_site_13 : decode cL_site 13 = .ok (.astore 4, 2) := by decide +kernel
theorem dL_site_15 : decode cL_site 15 = .ok (.iconst 1, 1) := by decide +kernel
theorem dL_site_16 : decode cL_site 16 = .ok (.ireturn, 1) := by decide +kernel

def nsT : String := "no such site, or nothing such to tell of it"
/-- site's start: cells, the text, the statics of Throwable, the words beside the good ones -/
def pS (E : EE) (W : va_W) (sa : Nat) (U : State) : Prop := kw E U ∧ va_P E.1 vwCl W U.heap ∧ vk_R RX7 125 nsT sa U ∧ vx_Zq Bundle.tN "UNASSIGNED_STACK" Bundle.steD (fun _ => False) U U.heap ∧ vx_Zq Bundle.tN "SUPPRESSED_SENTINEL" Bundle.listD (fun _ => False) U U.heap ∧ ∀ w ∈ nsB, va_Nw w U
theorem pS.blind {E : EE} {W : va_W} {sa : Nat} {av : List Value} : FrameBlind (va_Pc av (pS E W sa)) := fun _ U _ _ q => ⟨q.1, q.2.1.calling, q.2.2.1, vk_R.same (u := U) rfl q.2.2.2.1, q.2.2.2.2.1.moved (Vm.Alike.refl U.vm), q.2.2.2.2.2.1.moved (Vm.Alike.refl U.vm), fun w hw => nsB_same (u := U) (nsB_ok w hw) rfl (q.2.2.2.2.2.2 w hw)⟩
theorem pS.pre {E : EE} {W : va_W} {sa : Nat} {av : List Value} {s : State} {H : Heap} {A : Nat → Prop} {locs : List Loc} (hk : kw E s) (hP : va_P E.1 vwCl W H) (hstr : vk_R RX7 125 nsT sa s) (hS : va_S A s.heap H locs) (hU : vx_Zq Bundle.tN "UNASSIGNED_STACK" Bundle.steD A s s.heap) (hN : vx_Zq Bundle.tN "SUPPRESSED_SENTINEL" Bundle.listD A s s.heap) (hB : ∀ w ∈ nsB, va_Nw w s) : ∀ U : State, U.heap = H → s.WarmedH U.vm → va_Pc av (pS E W sa) av.toArray U := fun U hU1 hW => ⟨rfl, hk.warm hW, by rw [hU1]; exact hP, hstr.warm hW, by rw [hU1]; exact ((hU.kept hS.2.1).narrow (fun _ h => h.elim)).moved hW.alike, by rw [hU1]; exact ((hN.kept hS.2.1).narrow (fun _ h => h.elim)).moved hW.alike, fun w hw => nsB_warm (nsB_ok w hw) hW (hB w hw)⟩
def v_t1 : List Cond := .code yX7_site cX7_site 3 (some .int) :: ([.fieldLink RX7 35 "HushWatch" "now" "LHushWatch$State;", .classLink RX7 123 nsX, .initialized nsX, .methodLink RX7 120 yX5_hasSite, .instanceMethod yX5_hasSite, .selects RX5 yX5_hasSite yX5_hasSite, .initialized RX5] ++ (wsX70 ++ (v_c_hasSite ++ [])))
def v_t_site : List Cond := v_t1 ++ nsG
theorem gw_t1 : v_t1.all goodWord = true := by decide +kernel
theorem in_t1 {w : Cond} (h : w ∈ v_t1) : w ∈ v_t_site := List.mem_append_left _ h
theorem i_t_X7 : ∀ w ∈ wsX70, w ∈ v_t_site := fun _ h => in_t1 (List.mem_cons_of_mem _ (List.mem_append_right _ (List.mem_append_left _ h)))
theorem g_t_has : GoodIn v_t_site (wsV RX7 120 RX5 yX5_hasSite v_c_hasSite) := goodIn_app (fun w h => (fun q : w ∈ v_t1 ∧ _ => ⟨in_t1 q.1, q.2⟩) (goodIn_of (big := v_t1) _ (by decide +kernel) w h)) (goodIn_sub (fun _ h => in_t1 (List.mem_cons_of_mem _ (List.mem_append_right _ (List.mem_append_right _ (List.mem_append_left _ h))))) gw_c_hasSite)
set_option maxHeartbeats 4000000 in
set_option maxRecDepth 100000 in
/-- HushWatch.site at a fresh object: it throws -/
theorem t_site (l : Launch) (hfl : l.stackTraces = false) (E : EE) (x t rd sc n tr kp bk kb hi dr rf : Nat) (n1 n2 n3 n4 : Nat) (sa : Nat) (p0 p1 : Int32) : vx_Met l yX7_site v_t_site ({ frames := 6, cells := 1, slots := 6, locals := 82 }) (va_Pc [.ref x, .int p0, .int p1] (pS E [(x, .inr (8, [.ref t, .ref rd, .ref sc, .ref n, .ref tr, .ref kp, .ref bk, .ref kb, .ref hi, .ref dr, .ref rf, .int 0])), (n, .inr (6, [.ref n1, .ref n2, .int 0, .int 0, .ref n3, .ref n4])), (n1, .inl (E.2.1, 81, .inl (fun _ => 0)))] sa)) (va_Qi (fun _ (_u : Unit) => False) (fun (_u : Unit) _ => True) (fun _ => False)) (vx_X (fun _u : Unit => True) (fun E9 (_u : Unit) _ => E9 = nsX) (fun _ => False)) 1 6 (fun _ => False) := by
  refine vx_ofW (cc := cX7_site) (maxL := 3) (ret := some .int) (by decide) rfl ?_
  intro p e s m args below meth c s₁ B hml hnox hv
  obtain ⟨rfl, ⟨hK, hN⟩, hP, hstr, hU9, hN9, hB9⟩ := hv
  have hx := B.exec
  have hb := B.bytes
  have hr := B.returns
  have hts := atoms_spec (ws := v_t_site) B.pre
  have hown : s.vm.findClass RX7 = some m.cls := findClass_of_methodNamed B.named
  have hlocks := B.notSynchronized
  have hP : va_P E.1 vwCl [(x, .inr (8, [.ref t, .ref rd, .ref sc, .ref n, .ref tr, .ref kp, .ref bk, .ref kb, .ref hi, .ref dr, .ref rf, .int 0])), (n, .inr (6, [.ref n1, .ref n2, .int 0, .int 0, .ref n3, .ref n4])), (n1, .inl (E.2.1, 81, .inl (fun _ => 0)))] s.heap := hP
  have hl := lv_entry ([.ref x, .int p0, .int p1]) (n := 3) (Nat.le_of_ble_eq_true rfl)
  rw [lg_entry_eq]
  generalize (lg_sl ([.ref x, .int p0, .int p1]) ++ List.replicate (3 - (lg_sl ([.ref x, .int p0, .int p1])).length) Slot.unset).toArray = ls at hl ⊢
  have hl : lv_has ls 3 [(0, .ref x), (1, .int p0), (2, .int p1)] := hl
  refine lv_aload_n hx hb dX7_site_0 rfl (lv_at hl 0 rfl) ?_
  refine va_get (D := E.1) (ci := 8) (v := .ref n) (C := RX7) (T := TX7) (N := 12) hx hb hts i_t_X7 hown hK hP 0 rfl rfl 3 (by decide) (hts (.fieldLink RX7 35 "HushWatch" "now" "LHushWatch$State;") (in_t1 (List.mem_of_getElem? (i := 1) rfl))) (fun _ h9 => h9) rfl dX7_site_1 ?_
  refine lv_iload_n hx hb dX7_site_4 rfl (lv_at hl 1 rfl) ?_
  have hPc := hP.sub (ws' := [(n, .inr (6, [.ref n1, .ref n2, .int 0, .int 0, .ref n3, .ref n4])), (n1, .inl (E.2.1, 81, .inl (fun _ => 0)))]) [1, 2] rfl
  refine pc_i (va_runV (As := [.int p0]) (rest := []) ⟨hx, hb, hml, hown, hts⟩ (c_hasSite l E n n1 n2 n3 n4 p0) (cwV 1 hts g_t_has rfl rfl rfl (by decide +kernel) ⟨Nat.le_of_ble_eq_true rfl, Nat.le_of_ble_eq_true rfl⟩) ⟨pP.blind, va_recv hK hPc (ci := 6) (q0 := 0) rfl rfl, (pP.pre ⟨hK, hN⟩ hPc)⟩ rfl rfl hl.1 rfl (lv_room (Nat.le_of_ble_eq_true rfl)) dX7_site_5 ⟨Nat.le_of_ble_eq_true rfl, Nat.le_of_ble_eq_true rfl⟩) (fun r_1 hr_1 => ?_)
  obtain rfl : r_1 = 0 := hr_1
  refine lv_if_eq (tgt := 21) hx hb dX7_site_8 (by decide) (fun _ => ?_) (fun q => absurd (by decide) q)
  exact ns_throw (A := fun _ => False) (own := RX7) (text := nsT) (sa := sa) hx hb hfl hown (hts (.classLink RX7 123 nsX) (in_t1 (List.mem_of_getElem? (i := 2) rfl))) (hts (.initialized nsX) (in_t1 (List.mem_of_getElem? (i := 3) rfl))) hstr (vx_hat (fun w hw => hts w (List.mem_append_right _ hw)) nsG_rest (fun w hw => nsB_use (nsB_ok w hw) (hB9 w hw))) nsG_ot hU9 hN9 va_S.rf (by rw [hml]; exact hl.1) dX7_site_21 dX7_site_24 dX7_site_25 dX7_site_27 dX7_site_30 (fun x hx => (hnox x hx).elim) (Nat.le_of_ble_eq_true rfl) (Nat.le_of_ble_eq_true rfl) (Nat.le_of_ble_eq_true rfl) (Nat.le_of_ble_eq_true rfl) hlocks (fun t hal hz hq => ⟨(), trivial, rfl, hz, fun q h1 _ => hq q h1⟩) (fun z hz => nomatch hz) (Nat.le_refl _) (Nat.le_refl _)
def v_m_site : List Cond := .codeWith yL_site cL_site 5 (some .int) [(0, 10, 13, 13)] :: ([.methodLink RL 7 yX7_site, .instanceMethod yX7_site, .selects RX7 yX7_site yX7_site, .initialized RX7, .classLink RL 13 nsX] ++ (v_t_site ++ []))
theorem g_m_t : GoodIn v_m_site (wsV RL 7 RX7 yX7_site v_t_site) := goodIn_app (goodIn_of _ (by decide +kernel)) (goodIn_app (goodIn_sub (fun _ h => List.mem_cons_of_mem _ (List.mem_append_right _ (List.mem_append_left _ (List.mem_append_left _ h)))) gw_t1) (goodIn_sub (fun _ h => List.mem_cons_of_mem _ (List.mem_append_right _ (List.mem_append_left _ (List.mem_append_right _ h)))) nsG_good))
set_option maxHeartbeats 4000000 in
set_option maxRecDepth 100000 in
/-- the law's own site at a fresh object: it answers 1, nothing old is changed -/
theorem m_site0 (l : Launch) (hfl : l.stackTraces = false) (E : EE) (x t rd sc n tr kp bk kb hi dr rf : Nat) (n1 n2 n3 n4 : Nat) (o sa : Nat) (p0 p1 : Int32) : vx_Met l yL_site v_m_site ({ frames := 7, cells := 1, slots := 6, locals := 104 }) (va_Pc [.ref x, .int p0, .int p1, .ref o] (pS E [(x, .inr (8, [.ref t, .ref rd, .ref sc, .ref n, .ref tr, .ref kp, .ref bk, .ref kb, .ref hi, .ref dr, .ref rf, .int 0])), (n, .inr (6, [.ref n1, .ref n2, .int 0, .int 0, .ref n3, .ref n4])), (n1, .inl (E.2.1, 81, .inl (fun _ => 0)))] sa)) (va_Qi (fun r (_u : Unit) => r = 1) (fun (_u : Unit) _ => True) (fun _ => False)) (fun _ _ _ => False) 1 6 (fun _ => False) := by
  refine vx_ofWH (cc := cL_site) (maxL := 5) (ret := some .int) (hh := [(0, 10, 13, 13)]) (by decide) rfl ?_
  intro p e s m args below meth c s₁ B hml hv
  obtain ⟨rfl, ⟨hK, hN⟩, hP, hstr, hU9, hN9, hB9⟩ := hv
  have hx := B.exec
  have hb := B.bytes
  have hr := B.returns
  have hts := atoms_spec (ws := v_m_site) B.pre
  have hown : s.vm.findClass RL = some m.cls := findClass_of_methodNamed B.named
  have hlocks := B.notSynchronized
  have htab : c.exceptionTable.toList = tableOf [(0, 10, 13, 13)] := vx_table (x := yL_site) B (hts _ List.mem_cons_self)
  have hP : va_P E.1 vwCl [(x, .inr (8, [.ref t, .ref rd, .ref sc, .ref n, .ref tr, .ref kp, .ref bk, .ref kb, .ref hi, .ref dr, .ref rf, .int 0])), (n, .inr (6, [.ref n1, .ref n2, .int 0, .int 0, .ref n3, .ref n4])), (n1, .inl (E.2.1, 81, .inl (fun _ => 0)))] s.heap := hP
  have hS : va_S (fun _ : Nat => False) s.heap s.heap [] := va_S.rf
  have hl := lv_entry ([.ref x, .int p0, .int p1, .ref o]) (n := 5) (Nat.le_of_ble_eq_true rfl)
  rw [lg_entry_eq]
  generalize (lg_sl ([.ref x, .int p0, .int p1, .ref o]) ++ List.replicate (5 - (lg_sl ([.ref x, .int p0, .int p1, .ref o])).length) Slot.unset).toArray = ls at hl ⊢
  have hl : lv_has ls 5 [(0, .ref x), (1, .int p0), (2, .int p1), (3, .ref o)] := hl
  refine lv_aload_n hx hb dL_site_0 rfl (lv_at hl 3 rfl) ?_
  refine lv_iconst (v := 0) hx hb dL_site_1 (by decide) ?_
  refine lv_aload_n hx hb dL_site_2 rfl (lv_at hl 0 rfl) ?_
  refine lv_iload_n hx hb dL_site_3 rfl (lv_at hl 1 rfl) ?_
  refine lv_iload_n hx hb dL_site_4 rfl (lv_at hl 2 rfl) ?_
  refine vx_calli (vx_runV (As := [.int p0, .int p1]) (rest := [.int 0, .ref o]) ⟨hx, hb, hml, hown, hts⟩ (t_site l hfl E x t rd sc n tr kp bk kb hi dr rf n1 n2 n3 n4 sa p0 p1) (cwV 2 hts g_m_t rfl rfl rfl (by decide +kernel) ⟨Nat.le_of_ble_eq_true rfl, Nat.le_of_ble_eq_true rfl⟩) ⟨pS.blind, va_recv hK hP (ci := 8) (q0 := 0) rfl rfl, pS.pre ⟨hK, hN⟩ hP hstr hS hU9 hN9 hB9⟩ rfl rfl hl.1 rfl (lv_room (Nat.le_of_ble_eq_true rfl)) dL_site_5 ⟨Nat.le_of_ble_eq_true rfl, Nat.le_of_ble_eq_true rfl⟩) hS (fun _ _ h => h) (fun _ h => h) (fun _ _ h => h) (fun E9 ce q9 u tt H1 locs1 ht hvm hpx hBX hz hk1 hS1 hcell hcv hcl => ?_) (fun r u tt H1 locs1 ht hvm hw hB hz hk1 hS1 => hw.elim)
  have hBX : E9 = nsX := hBX
  subst hBX
  refine vx_catch (own := RL) (name := nsX) (E := nsX) hown [] ⟨0, 10, 13, 13⟩ [] (by rw [htab]; rfl) (fun z hz => nomatch hz) (by decide) (by decide) (hts (.classLink RL 13 nsX) (List.mem_of_getElem? (i := 5) rfl)) (nsB_use (nsB_ok _ (List.mem_of_getElem? (i := 0) rfl)) (hB9 _ (List.mem_of_getElem? (i := 0) rfl))) hcell hcv hcl ?_
  refine W.eq (g2 := F0 m 13 ls [.ref q9]) rfl ?_
  refine lv_astore (lv' := [(4, .ref q9), (0, .ref x), (1, .int p0), (2, .int p1), (3, .ref o)]) hx hb dL_site_13 hl (by decide) rfl (fun ls hl => ?_)
  refine lv_iconst (v := 1) hx hb dL_site_15 (by decide) ?_
  refine W.widen (k := 1) (n := 6) (Nat.le_of_ble_eq_true rfl) (Nat.le_of_ble_eq_true rfl) ?_
  exact vx_ret (W.iret (v := 1) hx hb hr (fun tt ht hW => ⟨⟨1, (), rfl, rfl, trivial⟩, hS1.F ht⟩) hS1.2.2 dL_site_16)
theorem m_site (l : Launch) (hfl : l.stackTraces = false) (E : EE) (x t rd sc n tr kp bk kb hi dr rf : Nat) (n1 n2 n3 n4 : Nat) (o sa : Nat) (p0 p1 : Int32) : Met l yL_site v_m_site ({ frames := 7, cells := 1, slots := 6, locals := 104 }) (va_Pc [.ref x, .int p0, .int p1, .ref o] (pS E [(x, .inr (8, [.ref t, .ref rd, .ref sc, .ref n, .ref tr, .ref kp, .ref bk, .ref kb, .ref hi, .ref dr, .ref rf, .int 0])), (n, .inr (6, [.ref n1, .ref n2, .int 0, .int 0, .ref n3, .ref n4])), (n1, .inl (E.2.1, 81, .inl (fun _ => 0)))] sa)) (va_Qi (fun r (_u : Unit) => r = 1) (fun (_u : Unit) _ => True) (fun _ => False)) 1 6 (fun _ => False) :=
  MetFree.mono (m_site0 l hfl E x t rd sc n tr kp bk kb hi dr rf n1 n2 n3 n4 o sa p0 p1) (fun _ _ h => h) (fun _ _ _ _ _ _ => trivial) (fun a st oc t _ h => by
    rcases h with h | ⟨q, -, E9, ce, L, hX, -⟩
    · exact h
    · exact hX.elim)
set_option maxRecDepth 100000 in
theorem nsG_in : ∀ w ∈ nsG, w ∈ lw_tbl := by decide +kernel
set_option maxRecDepth 100000 in
theorem nsB_in : ∀ w ∈ nsB, w ∈ lw_tbl := by decide +kernel
set_option maxRecDepth 100000 in
theorem gl_t1 : GoodIn lw_tbl v_t1 := goodIn_r _ [1180, 310, 1181, 129, 839, 630, 631, 115, 319, 321, 323, 325, 327, 329, 331, 333, 335, 337, 339, 341, 632, 229, 240, 242, 244, 246, 248, 250] (by decide +kernel) gw_t1
theorem gl_t_site : GoodIn lw_tbl v_t_site := goodIn_app gl_t1 (goodIn_sub nsG_in nsG_good)
set_option maxRecDepth 100000 in
theorem gl_m_site : GoodIn lw_tbl (va_wsS RL 42 yL_site v_m_site) := goodIn_app (goodIn_r _ [1173, 1174, 110] (by decide +kernel) (by decide +kernel)) (goodIn_ca (goodIn_r (big := lw_tbl) (Cond.codeWith yL_site cL_site 5 (some .int) [(0, 10, 13, 13)] :: [.methodLink RL 7 yX7_site, .instanceMethod yX7_site, .selects RX7 yX7_site yX7_site, .initialized RX7, .classLink RL 13 nsX]) [1175, 1177, 1178, 1179, 111, 1176] (by decide +kernel) (by decide +kernel)) (goodIn_app gl_t_site (fun _ h => absurd h List.not_mem_nil)))
