theorem dX8_in_0 : decode cX8_in 0 = .ok (.lload_n 0, 1) := by decide +kernel
theorem dX8_in_1 : decode cX8_in 1 = .ok (.lload_n 2, 1) := by decide +kernel
theorem dX8_in_2 : decode cX8_in 2 = .ok (.lcmp, 1) := by decide +kernel
theorem dX8_in_3 : decode cX8_in 3 = .ok (.ifCond .lt 14, 3) := by decide +kernel
theorem dX8_in_17 : decode cX8_in 17 = .ok (.iconst 0, 1) := by decide +kernel
theorem dX8_in_18 : decode cX8_in 18 = .ok (.ireturn, 1) := by decide +kernel
theorem dX8_in_6 : decode cX8_in 6 = .ok (.lload_n 0, 1) := by decide +kernel
theorem dX8_in_7 : decode cX8_in 7 = .ok (.lload 4, 2) := by decide +kernel
theorem dX8_in_9 : decode cX8_in 9 = .ok (.lcmp, 1) := by decide +kernel
theorem dX8_in_10 : decode cX8_in 10 = .ok (.ifCond .gt 7, 3) := by decide +kernel
theorem dX8_in_13 : decode cX8_in 13 = .ok (.iconst 1, 1) := by decide +kernel
theorem dX8_in_14 : decode cX8_in 14 = .ok (.goto 4, 3) := by decide +kernel
theorem dX8_isWatch_0 : decode cX8_isWatch 0 = .ok (.aload_n 0, 1) := by decide +kernel
theorem dX8_isWatch_1 : decode cX8_isWatch 1 = .ok (.getfield 196, 3) := by decide +kernel
theorem dX8_isWatch_4 : decode cX8_isWatch 4 = .ok (.ifCond .le 7, 3) := by decide +kernel
theorem dX8_isWatch_11 : decode cX8_isWatch 11 = .ok (.iconst 0, 1) := by decide +kernel
theorem dX8_isWatch_12 : decode cX8_isWatch 12 = .ok (.ireturn, 1) := by decide +kernel
theorem dX8_isSite_0 : decode cX8_isSite 0 = .ok (.iload_n 1, 1) := by decide +kernel
theorem dX8_isSite_1 : decode cX8_isSite 1 = .ok (.i2l, 1) := by decide +kernel
theorem dX8_isSite_2 : decode cX8_isSite 2 = .ok (.lconst 0, 1) := by decide +kernel
theorem dX8_isSite_3 : decode cX8_isSite 3 = .ok (.aload_n 0, 1) := by decide +kernel
theorem dX8_isSite_4 : decode cX8_isSite 4 = .ok (.getfield 196, 3) := by decide +kernel
theorem dX8_isSite_7 : decode cX8_isSite 7 = .ok (.iconst 1, 1) := by decide +kernel
theorem dX8_isSite_8 : decode cX8_isSite 8 = .ok (.isub, 1) := by decide +kernel
theorem dX8_isSite_9 : decode cX8_isSite 9 = .ok (.i2l, 1) := by decide +kernel
theorem dX8_isSite_10 : decode cX8_isSite 10 = .ok (.invokestatic 60, 3) := by decide +kernel
theorem dX8_isSite_13 : decode cX8_isSite 13 = .ok (.ireturn, 1) := by decide +kernel
theorem dX8_isScript_0 : decode cX8_isScript 0 = .ok (.iload_n 1, 1) := by decide +kernel
theorem dX8_isScript_1 : decode cX8_isScript 1 = .ok (.i2l, 1) := by decide +kernel
theorem dX8_isScript_2 : decode cX8_isScript 2 = .ok (.lconst 0, 1) := by decide +kernel
theorem dX8_isScript_3 : decode cX8_isScript 3 = .ok (.aload_n 0, 1) := by decide +kernel
theorem dX8_isScript_4 : decode cX8_isScript 4 = .ok (.getfield 215, 3) := by decide +kernel
theorem dX8_isScript_7 : decode cX8_isScript 7 = .ok (.iconst 1, 1) := by decide +kernel
theorem dX8_isScript_8 : decode cX8_isScript 8 = .ok (.isub, 1) := by decide +kernel
theorem dX8_isScript_9 : decode cX8_isScript 9 = .ok (.i2l, 1) := by decide +kernel
theorem dX8_isScript_10 : decode cX8_isScript 10 = .ok (.invokestatic 60, 3) := by decide +kernel
theorem dX8_isScript_13 : decode cX8_isScript 13 = .ok (.ireturn, 1) := by decide +kernel
theorem dX8_whyMove_0 : decode cX8_whyMove 0 = .ok (.aload_n 0, 1) := by decide +kernel
theorem dX8_whyMove_1 : decode cX8_whyMove 1 = .ok (.iload_n 1, 1) := by decide +kernel
theorem dX8_whyMove_2 : decode cX8_whyMove 2 = .ok (.invokevirtual 278, 3) := by decide +kernel
theorem dX8_whyMove_5 : decode cX8_whyMove 5 = .ok (.ifCond .ne 5, 3) := by decide +kernel
theorem dX8_whyMove_8 : decode cX8_whyMove 8 = .ok (.iconst 0, 1) := by decide +kernel
theorem dX8_whyMove_9 : decode cX8_whyMove 9 = .ok (.ireturn, 1) := by decide +kernel
theorem dX8_whyAdd_0 : decode cX8_whyAdd 0 = .ok (.aload_n 0, 1) := by decide +kernel
theorem dX8_whyAdd_1 : decode cX8_whyAdd 1 = .ok (.iload_n 1, 1) := by decide +kernel
theorem dX8_whyAdd_2 : decode cX8_whyAdd 2 = .ok (.invokevirtual 278, 3) := by decide +kernel
theorem dX8_whyAdd_5 : decode cX8_whyAdd 5 = .ok (.ifCond .ne 5, 3) := by decide +kernel
theorem dX8_whyAdd_8 : decode cX8_whyAdd 8 = .ok (.iconst 0, 1) := by decide +kernel
theorem dX8_whyAdd_9 : decode cX8_whyAdd 9 = .ok (.ireturn, 1) := by decide +kernel
theorem dX8_whyFreeze_0 : decode cX8_whyFreeze 0 = .ok (.aload_n 0, 1) := by decide +kernel
theorem dX8_whyFreeze_1 : decode cX8_whyFreeze 1 = .ok (.iload_n 1, 1) := by decide +kernel
theorem dX8_whyFreeze_2 : decode cX8_whyFreeze 2 = .ok (.invokevirtual 278, 3) := by decide +kernel
theorem dX8_whyFreeze_5 : decode cX8_whyFreeze 5 = .ok (.ifCond .ne 7, 3) := by decide +kernel
theorem dX8_whyFreeze_8 : decode cX8_whyFreeze 8 = .ok (.iconst 0, 1) := by decide +kernel
theorem dX8_whyFreeze_9 : decode cX8_whyFreeze 9 = .ok (.goto 32, 3) := by decide +kernel
theorem dX8_whyFreeze_41 : decode cX8_whyFreeze 41 = .ok (.ireturn, 1) := by decide +kernel
theorem dX8_whySet_0 : decode cX8_whySet 0 = .ok (.aload_n 0, 1) := by decide +kernel
theorem dX8_whySet_1 : decode cX8_whySet 1 = .ok (.invokevirtual 299, 3) := by decide +kernel
theorem dX8_whySet_4 : decode cX8_whySet 4 = .ok (.ifCond .ne 7, 3) := by decide +kernel
theorem dX8_whySet_7 : decode cX8_whySet 7 = .ok (.iconst 0, 1) := by decide +kernel
theorem dX8_whySet_8 : decode cX8_whySet 8 = .ok (.goto 30, 3) := by decide +kernel
theorem dX8_whySet_38 : decode cX8_whySet 38 = .ok (.ireturn, 1) := by decide +kernel
theorem dX8_whyNot_0 : decode cX8_whyNot 0 = .ok (.iload_n 1, 1) := by decide +kernel
theorem dX8_whyNot_1 : decode cX8_whyNot 1 = .ok (.tableswitch 110 0 6 #[43, 52, 65, 82, 97, 110, 104], 43) := by decide +kernel
theorem dX8_whyNot_44 : decode cX8_whyNot 44 = .ok (.aload_n 0, 1) := by decide +kernel
theorem dX8_whyNot_45 : decode cX8_whyNot 45 = .ok (.iload_n 2, 1) := by decide +kernel
theorem dX8_whyNot_46 : decode cX8_whyNot 46 = .ok (.iload_n 3, 1) := by decide +kernel
theorem dX8_whyNot_47 : decode cX8_whyNot 47 = .ok (.iload 4, 2) := by decide +kernel
theorem dX8_whyNot_49 : decode cX8_whyNot 49 = .ok (.invokevirtual 302, 3) := by decide +kernel
theorem dX8_whyNot_52 : decode cX8_whyNot 52 = .ok (.ireturn, 1) := by decide +kernel
theorem dX8_whyNot_53 : decode cX8_whyNot 53 = .ok (.aload_n 0, 1) := by decide +kernel
theorem dX8_whyNot_54 : decode cX8_whyNot 54 = .ok (.invokevirtual 299, 3) := by decide +kernel
theorem dX8_whyNot_57 : decode cX8_whyNot 57 = .ok (.ifCond .eq 7, 3) := by decide +kernel
theorem dX8_whyNot_64 : decode cX8_whyNot 64 = .ok (.iconst 0, 1) := by decide +kernel
theorem dX8_whyNot_65 : decode cX8_whyNot 65 = .ok (.ireturn, 1) := by decide +kernel
theorem dX8_whyNot_66 : decode cX8_whyNot 66 = .ok (.aload_n 0, 1) := by decide +kernel
theorem dX8_whyNot_67 : decode cX8_whyNot 67 = .ok (.iload_n 2, 1) := by decide +kernel
theorem dX8_whyNot_68 : decode cX8_whyNot 68 = .ok (.ldc 152, 2) := by decide +kernel
theorem dX8_whyNot_70 : decode cX8_whyNot 70 = .ok (.ldc 153, 2) := by decide +kernel
theorem dX8_whyNot_72 : decode cX8_whyNot 72 = .ok (.aload_n 0, 1) := by decide +kernel
theorem dX8_whyNot_73 : decode cX8_whyNot 73 = .ok (.getfield 22, 3) := by decide +kernel
theorem dX8_whyNot_76 : decode cX8_whyNot 76 = .ok (.bipush 65, 2) := by decide +kernel
theorem dX8_whyNot_78 : decode cX8_whyNot 78 = .ok (.iaload, 1) := by decide +kernel
theorem dX8_whyNot_79 : decode cX8_whyNot 79 = .ok (.invokevirtual 306, 3) := by decide +kernel
theorem dX8_whyNot_82 : decode cX8_whyNot 82 = .ok (.ireturn, 1) := by decide +kernel
theorem dX8_whyNot_83 : decode cX8_whyNot 83 = .ok (.aload_n 0, 1) := by decide +kernel
theorem dX8_whyNot_84 : decode cX8_whyNot 84 = .ok (.iload_n 2, 1) := by decide +kernel
theorem dX8_whyNot_85 : decode cX8_whyNot 85 = .ok (.iconst 0, 1) := by decide +kernel
theorem dX8_whyNot_86 : decode cX8_whyNot 86 = .ok (.iconst 3, 1) := by decide +kernel
theorem dX8_whyNot_87 : decode cX8_whyNot 87 = .ok (.aload_n 0, 1) := by decide +kernel
theorem dX8_whyNot_88 : decode cX8_whyNot 88 = .ok (.getfield 22, 3) := by decide +kernel
theorem dX8_whyNot_91 : decode cX8_whyNot 91 = .ok (.bipush 64, 2) := by decide +kernel
theorem dX8_whyNot_93 : decode cX8_whyNot 93 = .ok (.iaload, 1) := by decide +kernel
theorem dX8_whyNot_94 : decode cX8_whyNot 94 = .ok (.invokevirtual 306, 3) := by decide +kernel
theorem dX8_whyNot_97 : decode cX8_whyNot 97 = .ok (.ireturn, 1) := by decide +kernel
theorem dX8_whyNot_98 : decode cX8_whyNot 98 = .ok (.aload_n 0, 1) := by decide +kernel
theorem dX8_whyNot_99 : decode cX8_whyNot 99 = .ok (.iload_n 2, 1) := by decide +kernel
theorem dX8_whyNot_100 : decode cX8_whyNot 100 = .ok (.iload_n 3, 1) := by decide +kernel
theorem dX8_whyNot_101 : decode cX8_whyNot 101 = .ok (.invokevirtual 310, 3) := by decide +kernel
theorem dX8_whyNot_104 : decode cX8_whyNot 104 = .ok (.ireturn, 1) := by decide +kernel
theorem dX8_whyNot_111 : decode cX8_whyNot 111 = .ok (.aload_n 0, 1) := by decide +kernel
theorem dX8_whyNot_112 : decode cX8_whyNot 112 = .ok (.iload_n 2, 1) := by decide +kernel
theorem dX8_whyNot_113 : decode cX8_whyNot 113 = .ok (.iconst 1, 1) := by decide +kernel
theorem dX8_whyNot_114 : decode cX8_whyNot 114 = .ok (.sipush 9999, 3) := by decide +kernel
theorem dX8_whyNot_117 : decode cX8_whyNot 117 = .ok (.iconst (-1), 1) := by decide +kernel
theorem dX8_whyNot_118 : decode cX8_whyNot 118 = .ok (.invokevirtual 306, 3) := by decide +kernel
theorem dX8_whyNot_121 : decode cX8_whyNot 121 = .ok (.ireturn, 1) := by decide +kernel
theorem dX8_whyNot_105 : decode cX8_whyNot 105 = .ok (.aload_n 0, 1) := by decide +kernel
theorem dX8_whyNot_106 : decode cX8_whyNot 106 = .ok (.iload_n 2, 1) := by decide +kernel
theorem dX8_whyNot_107 : decode cX8_whyNot 107 = .ok (.invokevirtual 313, 3) := by decide +kernel
theorem dX8_whyNot_110 : decode cX8_whyNot 110 = .ok (.ireturn, 1) := by decide +kernel
def v_d_in : List Cond := .code yX8_in cX8_in 6 (some .boolean) :: ([] ++ ([]))
theorem gw_d_in : v_d_in.all goodWord = true := by decide +kernel
set_option maxHeartbeats 4000000 in
set_option maxRecDepth 100000 in
theorem d_in (l : Launch) (E : EE) (p0 p1 p2 : Int64) : Met l yX8_in v_d_in ({ frames := 0, cells := 0, slots := 0, locals := 0 }) (va_Pc [.long p0, .long p1, .long p2] (pP E [])) (vp_Si (fun r => r = if p1 ≤ p0 ∧ p0 ≤ p2 then 1 else 0)) 0 0 (fun _ => False) := by
  refine Met.ofW (cc := cX8_in) (maxL := 6) (ret := (some .boolean)) (by decide) rfl ?_
  intro p e s m args below meth c s₁ B hml hv
  obtain ⟨rfl, ⟨hK, hN⟩, hP⟩ := hv
  have hx := B.exec
  have hb := B.bytes
  have hr := B.returns
  have hts := atoms_spec (ws := v_d_in) B.pre
  have hown : s.vm.findClass RX8 = some m.cls := findClass_of_methodNamed B.named
  have hlocks := B.notSynchronized
  have hP : va_P E.1 vwCl [] s.heap := hP
  have hl := lv_entry ([.long p0, .long p1, .long p2]) (n := 6) (Nat.le_of_ble_eq_true rfl)
  rw [lg_entry_eq]
  generalize (lg_sl ([.long p0, .long p1, .long p2]) ++ List.replicate (6 - (lg_sl ([.long p0, .long p1, .long p2])).length) Slot.unset).toArray = ls at hl ⊢
  have hl : lv_has ls 6 [(0, .long p0), (2, .long p1), (4, .long p2)] := hl
  refine lv_lload_n hx hb dX8_in_0 rfl (lv_at hl 0 rfl) ?_
  refine lv_lload_n hx hb dX8_in_1 rfl (lv_at hl 1 rfl) ?_
  refine W.lcmp hx hb dX8_in_2 ?_
  refine lv_if_lt (tgt := 17) hx hb dX8_in_3 (by decide) (fun c_1 => ?_) (fun c_1 => ?_)
  ·
    refine lv_iconst (v := 0) hx hb dX8_in_17 (by decide) ?_
    exact W.zret (v := 0) hx hb hr rfl (fun tt ht hW => ⟨_, rfl, (if_neg (fun h => absurd c_1 (lgc_lt h.1))).symm, ht⟩) (fun _ h => by cases h) dX8_in_18
  ·
    refine lv_lload_n hx hb dX8_in_6 rfl (lv_at hl 0 rfl) ?_
    refine lv_lload hx hb dX8_in_7 (lv_at hl 2 rfl) ?_
    refine W.lcmp hx hb dX8_in_9 ?_
    refine lv_if_gt (tgt := 17) hx hb dX8_in_10 (by decide) (fun c_2 => ?_) (fun c_2 => ?_)
    ·
      refine lv_iconst (v := 0) hx hb dX8_in_17 (by decide) ?_
      exact W.zret (v := 0) hx hb hr rfl (fun tt ht hW => ⟨_, rfl, (if_neg (fun h => absurd c_2 (lgc_gt h.2))).symm, ht⟩) (fun _ h => by cases h) dX8_in_18
    ·
      refine lv_iconst (v := 1) hx hb dX8_in_13 (by decide) ?_
      refine lv_goto (tgt := 18) hx hb dX8_in_14 (by decide) ?_
      exact W.zret (v := 1) hx hb hr rfl (fun tt ht hW => ⟨_, rfl, (if_pos ⟨lgc_lt2 c_1, lgc_gt2 c_2⟩).symm, ht⟩) (fun _ h => by cases h) dX8_in_18

def v_d_isWatch : List Cond := .code yX8_isWatch cX8_isWatch 1 (some .boolean) :: ([.fieldLink RX8 196 "HushWatchModel" "sites" "I"] ++ (wsX80 ++ ([])))
theorem gw_d_isWatch : v_d_isWatch.all goodWord = true := by decide +kernel
theorem i_d_isWatch_X8 : ∀ w ∈ wsX80, w ∈ v_d_isWatch := fun _ h => List.mem_cons_of_mem _ (List.mem_append_right _ (List.mem_append_left _ h))
set_option maxHeartbeats 4000000 in
set_option maxRecDepth 100000 in
theorem d_isWatch (l : Launch) (E : EE) (mo m_tape m_readPlace m_script m_scriptLong m_now m_refused m_shareX m_shareY m_askedRow m_kept m_aside m_spelled m_image : Nat) : Met l yX8_isWatch v_d_isWatch ({ frames := 0, cells := 0, slots := 0, locals := 0 }) (va_Pc [.ref mo] (pP E [(mo, .inr (9, [.int 0, .ref m_tape, .int 0, .int 0, .int 0, .int 0, .int 0, .int 0, .long 0, .int 0, .int 0, .int 0, .int 0, .ref m_readPlace, .ref m_script, .ref m_scriptLong, .int 0, .ref m_now, .ref m_refused, .int 0, .ref m_shareX, .ref m_shareY, .int 0, .int 0, .ref m_askedRow, .int 0, .ref m_kept, .int 0, .long 0, .ref m_aside, .int 0, .int 0, .ref m_spelled, .int 0, .ref m_image, .int 0]))])) (vp_Si (fun r => r = 0)) 0 0 (fun _ => False) := by
  refine Met.ofW (cc := cX8_isWatch) (maxL := 1) (ret := (some .boolean)) (by decide) rfl ?_
  intro p e s m args below meth c s₁ B hml hv
  obtain ⟨rfl, ⟨hK, hN⟩, hP⟩ := hv
  have hx := B.exec
  have hb := B.bytes
  have hr := B.returns
  have hts := atoms_spec (ws := v_d_isWatch) B.pre
  have hown : s.vm.findClass RX8 = some m.cls := findClass_of_methodNamed B.named
  have hlocks := B.notSynchronized
  have hP : va_P E.1 vwCl [(mo, .inr (9, [.int 0, .ref m_tape, .int 0, .int 0, .int 0, .int 0, .int 0, .int 0, .long 0, .int 0, .int 0, .int 0, .int 0, .ref m_readPlace, .ref m_script, .ref m_scriptLong, .int 0, .ref m_now, .ref m_refused, .int 0, .ref m_shareX, .ref m_shareY, .int 0, .int 0, .ref m_askedRow, .int 0, .ref m_kept, .int 0, .long 0, .ref m_aside, .int 0, .int 0, .ref m_spelled, .int 0, .ref m_image, .int 0]))] s.heap := hP
  have hl := lv_entry ([.ref mo]) (n := 1) (Nat.le_of_ble_eq_true rfl)
  rw [lg_entry_eq]
  generalize (lg_sl ([.ref mo]) ++ List.replicate (1 - (lg_sl ([.ref mo])).length) Slot.unset).toArray = ls at hl ⊢
  have hl : lv_has ls 1 [(0, .ref mo)] := hl
  refine lv_aload_n hx hb dX8_isWatch_0 rfl (lv_at hl 0 rfl) ?_
  refine va_get (D := E.1) (ci := 9) (v := .int 0) (C := RX8) (T := TX8) (N := 36) hx hb hts i_d_isWatch_X8 hown hK hP 0 rfl rfl 19 (by decide) (hts (.fieldLink RX8 196 "HushWatchModel" "sites" "I") (List.mem_of_getElem? (i := 1) rfl)) (fun _ h9 => h9) rfl dX8_isWatch_1 ?_
  refine lv_if_le (tgt := 11) hx hb dX8_isWatch_4 (by decide) (fun _ => ?_) (fun q => absurd (by decide) q)
  refine lv_iconst (v := 0) hx hb dX8_isWatch_11 (by decide) ?_
  exact W.zret (v := 0) hx hb hr rfl (fun tt ht hW => ⟨_, rfl, rfl, ht⟩) (fun _ h => by cases h) dX8_isWatch_12

def v_d_isSite : List Cond := .code yX8_isSite cX8_isSite 2 (some .boolean) :: ([.fieldLink RX8 196 "HushWatchModel" "sites" "I", .methodLink RX8 60 yX8_in, .static yX8_in, .initialized RX8] ++ (wsX80 ++ (v_d_in ++ ([]))))
theorem gw_d_isSite : v_d_isSite.all goodWord = true := by decide +kernel
theorem i_d_isSite_X8 : ∀ w ∈ wsX80, w ∈ v_d_isSite := fun _ h => List.mem_cons_of_mem _ (List.mem_append_right _ (List.mem_append_left _ h))
theorem g_d_isSite_d_in_60 : GoodIn v_d_isSite (va_wsS RX8 60 yX8_in v_d_in) := goodIn_app (goodIn_of _ (by decide +kernel)) (goodIn_sub (fun _ h => List.mem_cons_of_mem _ (List.mem_append_right _ (List.mem_append_right _ (List.mem_append_left _ h)))) gw_d_in)
set_option maxHeartbeats 4000000 in
set_option maxRecDepth 100000 in
theorem d_isSite (l : Launch) (E : EE) (mo m_tape m_readPlace m_script m_scriptLong m_now m_refused m_shareX m_shareY m_askedRow m_kept m_aside m_spelled m_image : Nat) (p0 : Int32) : Met l yX8_isSite v_d_isSite ({ frames := 1, cells := 0, slots := 0, locals := 25 }) (va_Pc [.ref mo, .int p0] (pP E [(mo, .inr (9, [.int 0, .ref m_tape, .int 0, .int 0, .int 0, .int 0, .int 0, .int 0, .long 0, .int 0, .int 0, .int 0, .int 0, .ref m_readPlace, .ref m_script, .ref m_scriptLong, .int 0, .ref m_now, .ref m_refused, .int 0, .ref m_shareX, .ref m_shareY, .int 0, .int 0, .ref m_askedRow, .int 0, .ref m_kept, .int 0, .long 0, .ref m_aside, .int 0, .int 0, .ref m_spelled, .int 0, .ref m_image, .int 0]))])) (vp_Si (fun r => r = 0)) 0 0 (fun _ => False) := by
  refine Met.ofW (cc := cX8_isSite) (maxL := 2) (ret := (some .boolean)) (by decide) rfl ?_
  intro p e s m args below meth c s₁ B hml hv
  obtain ⟨rfl, ⟨hK, hN⟩, hP⟩ := hv
  have hx := B.exec
  have hb := B.bytes
  have hr := B.returns
  have hts := atoms_spec (ws := v_d_isSite) B.pre
  have hown : s.vm.findClass RX8 = some m.cls := findClass_of_methodNamed B.named
  have hlocks := B.notSynchronized
  have hP : va_P E.1 vwCl [(mo, .inr (9, [.int 0, .ref m_tape, .int 0, .int 0, .int 0, .int 0, .int 0, .int 0, .long 0, .int 0, .int 0, .int 0, .int 0, .ref m_readPlace, .ref m_script, .ref m_scriptLong, .int 0, .ref m_now, .ref m_refused, .int 0, .ref m_shareX, .ref m_shareY, .int 0, .int 0, .ref m_askedRow, .int 0, .ref m_kept, .int 0, .long 0, .ref m_aside, .int 0, .int 0, .ref m_spelled, .int 0, .ref m_image, .int 0]))] s.heap := hP
  have hl := lv_entry ([.ref mo, .int p0]) (n := 2) (Nat.le_of_ble_eq_true rfl)
  rw [lg_entry_eq]
  generalize (lg_sl ([.ref mo, .int p0]) ++ List.replicate (2 - (lg_sl ([.ref mo, .int p0])).length) Slot.unset).toArray = ls at hl ⊢
  have hl : lv_has ls 2 [(0, .ref mo), (1, .int p0)] := hl
  refine lv_iload_n hx hb dX8_isSite_0 rfl (lv_at hl 1 rfl) ?_
  refine lv_i2l (v := p0.toInt64) hx hb dX8_isSite_1 rfl ?_
  refine lv_lconst (v := 0) hx hb dX8_isSite_2 (by decide) ?_
  refine lv_aload_n hx hb dX8_isSite_3 rfl (lv_at hl 0 rfl) ?_
  refine va_get (D := E.1) (ci := 9) (v := .int 0) (C := RX8) (T := TX8) (N := 36) hx hb hts i_d_isSite_X8 hown hK hP 0 rfl rfl 19 (by decide) (hts (.fieldLink RX8 196 "HushWatchModel" "sites" "I") (List.mem_of_getElem? (i := 1) rfl)) (fun _ h9 => h9) rfl dX8_isSite_4 ?_
  refine lv_iconst (v := 1) hx hb dX8_isSite_7 (by decide) ?_
  refine lv_isub hx hb dX8_isSite_8 ?_
  refine lv_topi (fun z_1 ez_1 => ?_)
  obtain rfl : z_1 = -1 := ez_1.trans (by decide)
  refine lv_i2l (v := -1) hx hb dX8_isSite_9 (by decide) ?_
  have hPc : va_P E.1 vwCl [] s.heap := fun k q h => by simp at h
  refine pc_i (va_runS (As := [.long p0.toInt64, .long 0, .long (-1)]) (rest := []) ⟨hx, hb, hml, hown, hts⟩ (d_in l E p0.toInt64 0 (-1)) (va_cwS 3 hts g_d_isSite_d_in_60 rfl rfl rfl (by decide +kernel) ⟨Nat.le_of_ble_eq_true rfl, Nat.le_of_ble_eq_true rfl⟩) ⟨pP.blind, (pP.pre ⟨hK, hN⟩ hPc)⟩ rfl rfl hl.1 rfl (lv_room (Nat.le_of_ble_eq_true rfl)) dX8_isSite_10 ⟨Nat.le_of_ble_eq_true rfl, Nat.le_of_ble_eq_true rfl⟩) (fun r_2 hr_2 => ?_)
  obtain rfl : r_2 = 0 := hr_2.trans (if_neg (by have u0 : (0 : Int64).toInt = 0 := (by decide); have u1 : (-1 : Int64).toInt = -1 := (by decide); simp only [Int64.le_iff_toInt_le, u0, u1]; omega))
  exact W.zret (v := 0) hx hb hr rfl (fun tt ht hW => ⟨_, rfl, rfl, ht⟩) (fun _ h => by cases h) dX8_isSite_13

def v_d_isScript : List Cond := .code yX8_isScript cX8_isScript 2 (some .boolean) :: ([.fieldLink RX8 215 "HushWatchModel" "scripts" "I", .methodLink RX8 60 yX8_in, .static yX8_in, .initialized RX8] ++ (wsX80 ++ (v_d_in ++ ([]))))
theorem gw_d_isScript : v_d_isScript.all goodWord = true := by decide +kernel
theorem i_d_isScript_X8 : ∀ w ∈ wsX80, w ∈ v_d_isScript := fun _ h => List.mem_cons_of_mem _ (List.mem_append_right _ (List.mem_append_left _ h))
theorem g_d_isScript_d_in_60 : GoodIn v_d_isScript (va_wsS RX8 60 yX8_in v_d_in) := goodIn_app (goodIn_of _ (by decide +kernel)) (goodIn_sub (fun _ h => List.mem_cons_of_mem _ (List.mem_append_right _ (List.mem_append_right _ (List.mem_append_left _ h)))) gw_d_in)
set_option maxHeartbeats 4000000 in
set_option maxRecDepth 100000 in
theorem d_isScript (l : Launch) (E : EE) (mo m_tape m_readPlace m_script m_scriptLong m_now m_refused m_shareX m_shareY m_askedRow m_kept m_aside m_spelled m_image : Nat) (p0 : Int32) : Met l yX8_isScript v_d_isScript ({ frames := 1, cells := 0, slots := 0, locals := 25 }) (va_Pc [.ref mo, .int p0] (pP E [(mo, .inr (9, [.int 0, .ref m_tape, .int 0, .int 0, .int 0, .int 0, .int 0, .int 0, .long 0, .int 0, .int 0, .int 0, .int 0, .ref m_readPlace, .ref m_script, .ref m_scriptLong, .int 0, .ref m_now, .ref m_refused, .int 0, .ref m_shareX, .ref m_shareY, .int 0, .int 0, .ref m_askedRow, .int 0, .ref m_kept, .int 0, .long 0, .ref m_aside, .int 0, .int 0, .ref m_spelled, .int 0, .ref m_image, .int 0]))])) (vp_Si (fun r => r = 0)) 0 0 (fun _ => False) := by
  refine Met.ofW (cc := cX8_isScript) (maxL := 2) (ret := (some .boolean)) (by decide) rfl ?_
  intro p e s m args below meth c s₁ B hml hv
  obtain ⟨rfl, ⟨hK, hN⟩, hP⟩ := hv
  have hx := B.exec
  have hb := B.bytes
  have hr := B.returns
  have hts := atoms_spec (ws := v_d_isScript) B.pre
  have hown : s.vm.findClass RX8 = some m.cls := findClass_of_methodNamed B.named
  have hlocks := B.notSynchronized
  have hP : va_P E.1 vwCl [(mo, .inr (9, [.int 0, .ref m_tape, .int 0, .int 0, .int 0, .int 0, .int 0, .int 0, .long 0, .int 0, .int 0, .int 0, .int 0, .ref m_readPlace, .ref m_script, .ref m_scriptLong, .int 0, .ref m_now, .ref m_refused, .int 0, .ref m_shareX, .ref m_shareY, .int 0, .int 0, .ref m_askedRow, .int 0, .ref m_kept, .int 0, .long 0, .ref m_aside, .int 0, .int 0, .ref m_spelled, .int 0, .ref m_image, .int 0]))] s.heap := hP
  have hl := lv_entry ([.ref mo, .int p0]) (n := 2) (Nat.le_of_ble_eq_true rfl)
  rw [lg_entry_eq]
  generalize (lg_sl ([.ref mo, .int p0]) ++ List.replicate (2 - (lg_sl ([.ref mo, .int p0])).length) Slot.unset).toArray = ls at hl ⊢
  have hl : lv_has ls 2 [(0, .ref mo), (1, .int p0)] := hl
  refine lv_iload_n hx hb dX8_isScript_0 rfl (lv_at hl 1 rfl) ?_
  refine lv_i2l (v := p0.toInt64) hx hb dX8_isScript_1 rfl ?_
  refine lv_lconst (v := 0) hx hb dX8_isScript_2 (by decide) ?_
  refine lv_aload_n hx hb dX8_isScript_3 rfl (lv_at hl 0 rfl) ?_
  refine va_get (D := E.1) (ci := 9) (v := .int 0) (C := RX8) (T := TX8) (N := 36) hx hb hts i_d_isScript_X8 hown hK hP 0 rfl rfl 16 (by decide) (hts (.fieldLink RX8 215 "HushWatchModel" "scripts" "I") (List.mem_of_getElem? (i := 1) rfl)) (fun _ h9 => h9) rfl dX8_isScript_4 ?_
  refine lv_iconst (v := 1) hx hb dX8_isScript_7 (by decide) ?_
  refine lv_isub hx hb dX8_isScript_8 ?_
  refine lv_topi (fun z_1 ez_1 => ?_)
  obtain rfl : z_1 = -1 := ez_1.trans (by decide)
  refine lv_i2l (v := -1) hx hb dX8_isScript_9 (by decide) ?_
  have hPc : va_P E.1 vwCl [] s.heap := fun k q h => by simp at h
  refine pc_i (va_runS (As := [.long p0.toInt64, .long 0, .long (-1)]) (rest := []) ⟨hx, hb, hml, hown, hts⟩ (d_in l E p0.toInt64 0 (-1)) (va_cwS 3 hts g_d_isScript_d_in_60 rfl rfl rfl (by decide +kernel) ⟨Nat.le_of_ble_eq_true rfl, Nat.le_of_ble_eq_true rfl⟩) ⟨pP.blind, (pP.pre ⟨hK, hN⟩ hPc)⟩ rfl rfl hl.1 rfl (lv_room (Nat.le_of_ble_eq_true rfl)) dX8_isScript_10 ⟨Nat.le_of_ble_eq_true rfl, Nat.le_of_ble_eq_true rfl⟩) (fun r_2 hr_2 => ?_)
  obtain rfl : r_2 = 0 := hr_2.trans (if_neg (by have u0 : (0 : Int64).toInt = 0 := (by decide); have u1 : (-1 : Int64).toInt = -1 := (by decide); simp only [Int64.le_iff_toInt_le, u0, u1]; omega))
  exact W.zret (v := 0) hx hb hr rfl (fun tt ht hW => ⟨_, rfl, rfl, ht⟩) (fun _ h => by cases h) dX8_isScript_13

def v_d_whyMove : List Cond := .code yX8_whyMove cX8_whyMove 5 (some .int) :: ([.methodLink RX8 278 yX8_isSite, .instanceMethod yX8_isSite, .selects RX8 yX8_isSite yX8_isSite, .initialized RX8] ++ (v_d_isSite ++ ([])))
theorem gw_d_whyMove : v_d_whyMove.all goodWord = true := by decide +kernel
theorem g_d_whyMove_d_isSite_278 : GoodIn v_d_whyMove (wsV RX8 278 RX8 yX8_isSite v_d_isSite) := goodIn_app (goodIn_of _ (by decide +kernel)) (goodIn_sub (fun _ h => List.mem_cons_of_mem _ (List.mem_append_right _ (List.mem_append_left _ h))) gw_d_isSite)
set_option maxHeartbeats 4000000 in
set_option maxRecDepth 100000 in
theorem d_whyMove (l : Launch) (E : EE) (mo m_tape m_readPlace m_script m_scriptLong m_now m_refused m_shareX m_shareY m_askedRow m_kept m_aside m_spelled m_image : Nat) (p0 p1 p2 : Int32) : Met l yX8_whyMove v_d_whyMove ({ frames := 2, cells := 0, slots := 0, locals := 46 }) (va_Pc [.ref mo, .int p0, .int p1, .int p2] (pP E [(mo, .inr (9, [.int 0, .ref m_tape, .int 0, .int 0, .int 0, .int 0, .int 0, .int 0, .long 0, .int 0, .int 0, .int 0, .int 0, .ref m_readPlace, .ref m_script, .ref m_scriptLong, .int 0, .ref m_now, .ref m_refused, .int 0, .ref m_shareX, .ref m_shareY, .int 0, .int 0, .ref m_askedRow, .int 0, .ref m_kept, .int 0, .long 0, .ref m_aside, .int 0, .int 0, .ref m_spelled, .int 0, .ref m_image, .int 0]))])) (vp_Si (fun r => r = 0)) 0 0 (fun _ => False) := by
  refine Met.ofW (cc := cX8_whyMove) (maxL := 5) (ret := (some .int)) (by decide) rfl ?_
  intro p e s m args below meth c s₁ B hml hv
  obtain ⟨rfl, ⟨hK, hN⟩, hP⟩ := hv
  have hx := B.exec
  have hb := B.bytes
  have hr := B.returns
  have hts := atoms_spec (ws := v_d_whyMove) B.pre
  have hown : s.vm.findClass RX8 = some m.cls := findClass_of_methodNamed B.named
  have hlocks := B.notSynchronized
  have hP : va_P E.1 vwCl [(mo, .inr (9, [.int 0, .ref m_tape, .int 0, .int 0, .int 0, .int 0, .int 0, .int 0, .long 0, .int 0, .int 0, .int 0, .int 0, .ref m_readPlace, .ref m_script, .ref m_scriptLong, .int 0, .ref m_now, .ref m_refused, .int 0, .ref m_shareX, .ref m_shareY, .int 0, .int 0, .ref m_askedRow, .int 0, .ref m_kept, .int 0, .long 0, .ref m_aside, .int 0, .int 0, .ref m_spelled, .int 0, .ref m_image, .int 0]))] s.heap := hP
  have hl := lv_entry ([.ref mo, .int p0, .int p1, .int p2]) (n := 5) (Nat.le_of_ble_eq_true rfl)
  rw [lg_entry_eq]
  generalize (lg_sl ([.ref mo, .int p0, .int p1, .int p2]) ++ List.replicate (5 - (lg_sl ([.ref mo, .int p0, .int p1, .int p2])).length) Slot.unset).toArray = ls at hl ⊢
  have hl : lv_has ls 5 [(0, .ref mo), (1, .int p0), (2, .int p1), (3, .int p2)] := hl
  refine lv_aload_n hx hb dX8_whyMove_0 rfl (lv_at hl 0 rfl) ?_
  refine lv_iload_n hx hb dX8_whyMove_1 rfl (lv_at hl 1 rfl) ?_
  have hPc := hP.sub (ws' := [(mo, .inr (9, [.int 0, .ref m_tape, .int 0, .int 0, .int 0, .int 0, .int 0, .int 0, .long 0, .int 0, .int 0, .int 0, .int 0, .ref m_readPlace, .ref m_script, .ref m_scriptLong, .int 0, .ref m_now, .ref m_refused, .int 0, .ref m_shareX, .ref m_shareY, .int 0, .int 0, .ref m_askedRow, .int 0, .ref m_kept, .int 0, .long 0, .ref m_aside, .int 0, .int 0, .ref m_spelled, .int 0, .ref m_image, .int 0]))]) [0] rfl
  refine pc_i (va_runV (As := [.int p0]) (rest := []) ⟨hx, hb, hml, hown, hts⟩ (d_isSite l E mo m_tape m_readPlace m_script m_scriptLong m_now m_refused m_shareX m_shareY m_askedRow m_kept m_aside m_spelled m_image p0) (cwV 1 hts g_d_whyMove_d_isSite_278 rfl rfl rfl (by decide +kernel) ⟨Nat.le_of_ble_eq_true rfl, Nat.le_of_ble_eq_true rfl⟩) ⟨pP.blind, va_recv hK hPc (ci := 9) (q0 := 0) rfl rfl, (pP.pre ⟨hK, hN⟩ hPc)⟩ rfl rfl hl.1 rfl (lv_room (Nat.le_of_ble_eq_true rfl)) dX8_whyMove_2 ⟨Nat.le_of_ble_eq_true rfl, Nat.le_of_ble_eq_true rfl⟩) (fun r_1 hr_1 => ?_)
  obtain rfl : r_1 = 0 := hr_1
  refine lv_if_ne (tgt := 10) hx hb dX8_whyMove_5 (by decide) (fun q => absurd (by decide) q) (fun _ => ?_)
  refine lv_iconst (v := 0) hx hb dX8_whyMove_8 (by decide) ?_
  exact W.iret (v := 0) hx hb hr (fun tt ht hW => ⟨_, rfl, rfl, ht⟩) (fun _ h => by cases h) dX8_whyMove_9

def v_d_whyAdd : List Cond := .code yX8_whyAdd cX8_whyAdd 3 (some .int) :: ([.methodLink RX8 278 yX8_isSite, .instanceMethod yX8_isSite, .selects RX8 yX8_isSite yX8_isSite, .initialized RX8] ++ (v_d_isSite ++ ([])))
theorem gw_d_whyAdd : v_d_whyAdd.all goodWord = true := by decide +kernel
theorem g_d_whyAdd_d_isSite_278 : GoodIn v_d_whyAdd (wsV RX8 278 RX8 yX8_isSite v_d_isSite) := goodIn_app (goodIn_of _ (by decide +kernel)) (goodIn_sub (fun _ h => List.mem_cons_of_mem _ (List.mem_append_right _ (List.mem_append_left _ h))) gw_d_isSite)
set_option maxHeartbeats 4000000 in
set_option maxRecDepth 100000 in
theorem d_whyAdd (l : Launch) (E : EE) (mo m_tape m_readPlace m_script m_scriptLong m_now m_refused m_shareX m_shareY m_askedRow m_kept m_aside m_spelled m_image : Nat) (p0 p1 : Int32) : Met l yX8_whyAdd v_d_whyAdd ({ frames := 2, cells := 0, slots := 0, locals := 46 }) (va_Pc [.ref mo, .int p0, .int p1] (pP E [(mo, .inr (9, [.int 0, .ref m_tape, .int 0, .int 0, .int 0, .int 0, .int 0, .int 0, .long 0, .int 0, .int 0, .int 0, .int 0, .ref m_readPlace, .ref m_script, .ref m_scriptLong, .int 0, .ref m_now, .ref m_refused, .int 0, .ref m_shareX, .ref m_shareY, .int 0, .int 0, .ref m_askedRow, .int 0, .ref m_kept, .int 0, .long 0, .ref m_aside, .int 0, .int 0, .ref m_spelled, .int 0, .ref m_image, .int 0]))])) (vp_Si (fun r => r = 0)) 0 0 (fun _ => False) := by
  refine Met.ofW (cc := cX8_whyAdd) (maxL := 3) (ret := (some .int)) (by decide) rfl ?_
  intro p e s m args below meth c s₁ B hml hv
  obtain ⟨rfl, ⟨hK, hN⟩, hP⟩ := hv
  have hx := B.exec
  have hb := B.bytes
  have hr := B.returns
  have hts := atoms_spec (ws := v_d_whyAdd) B.pre
  have hown : s.vm.findClass RX8 = some m.cls := findClass_of_methodNamed B.named
  have hlocks := B.notSynchronized
  have hP : va_P E.1 vwCl [(mo, .inr (9, [.int 0, .ref m_tape, .int 0, .int 0, .int 0, .int 0, .int 0, .int 0, .long 0, .int 0, .int 0, .int 0, .int 0, .ref m_readPlace, .ref m_script, .ref m_scriptLong, .int 0, .ref m_now, .ref m_refused, .int 0, .ref m_shareX, .ref m_shareY, .int 0, .int 0, .ref m_askedRow, .int 0, .ref m_kept, .int 0, .long 0, .ref m_aside, .int 0, .int 0, .ref m_spelled, .int 0, .ref m_image, .int 0]))] s.heap := hP
  have hl := lv_entry ([.ref mo, .int p0, .int p1]) (n := 3) (Nat.le_of_ble_eq_true rfl)
  rw [lg_entry_eq]
  generalize (lg_sl ([.ref mo, .int p0, .int p1]) ++ List.replicate (3 - (lg_sl ([.ref mo, .int p0, .int p1])).length) Slot.unset).toArray = ls at hl ⊢
  have hl : lv_has ls 3 [(0, .ref mo), (1, .int p0), (2, .int p1)] := hl
  refine lv_aload_n hx hb dX8_whyAdd_0 rfl (lv_at hl 0 rfl) ?_
  refine lv_iload_n hx hb dX8_whyAdd_1 rfl (lv_at hl 1 rfl) ?_
  have hPc := hP.sub (ws' := [(mo, .inr (9, [.int 0, .ref m_tape, .int 0, .int 0, .int 0, .int 0, .int 0, .int 0, .long 0, .int 0, .int 0, .int 0, .int 0, .ref m_readPlace, .ref m_script, .ref m_scriptLong, .int 0, .ref m_now, .ref m_refused, .int 0, .ref m_shareX, .ref m_shareY, .int 0, .int 0, .ref m_askedRow, .int 0, .ref m_kept, .int 0, .long 0, .ref m_aside, .int 0, .int 0, .ref m_spelled, .int 0, .ref m_image, .int 0]))]) [0] rfl
  refine pc_i (va_runV (As := [.int p0]) (rest := []) ⟨hx, hb, hml, hown, hts⟩ (d_isSite l E mo m_tape m_readPlace m_script m_scriptLong m_now m_refused m_shareX m_shareY m_askedRow m_kept m_aside m_spelled m_image p0) (cwV 1 hts g_d_whyAdd_d_isSite_278 rfl rfl rfl (by decide +kernel) ⟨Nat.le_of_ble_eq_true rfl, Nat.le_of_ble_eq_true rfl⟩) ⟨pP.blind, va_recv hK hPc (ci := 9) (q0 := 0) rfl rfl, (pP.pre ⟨hK, hN⟩ hPc)⟩ rfl rfl hl.1 rfl (lv_room (Nat.le_of_ble_eq_true rfl)) dX8_whyAdd_2 ⟨Nat.le_of_ble_eq_true rfl, Nat.le_of_ble_eq_true rfl⟩) (fun r_1 hr_1 => ?_)
  obtain rfl : r_1 = 0 := hr_1
  refine lv_if_ne (tgt := 10) hx hb dX8_whyAdd_5 (by decide) (fun q => absurd (by decide) q) (fun _ => ?_)
  refine lv_iconst (v := 0) hx hb dX8_whyAdd_8 (by decide) ?_
  exact W.iret (v := 0) hx hb hr (fun tt ht hW => ⟨_, rfl, rfl, ht⟩) (fun _ h => by cases h) dX8_whyAdd_9

def v_d_whyFreeze : List Cond := .code yX8_whyFreeze cX8_whyFreeze 2 (some .int) :: ([.methodLink RX8 278 yX8_isSite, .instanceMethod yX8_isSite, .selects RX8 yX8_isSite yX8_isSite, .initialized RX8] ++ (v_d_isSite ++ ([])))
theorem gw_d_whyFreeze : v_d_whyFreeze.all goodWord = true := by decide +kernel
theorem g_d_whyFreeze_d_isSite_278 : GoodIn v_d_whyFreeze (wsV RX8 278 RX8 yX8_isSite v_d_isSite) := goodIn_app (goodIn_of _ (by decide +kernel)) (goodIn_sub (fun _ h => List.mem_cons_of_mem _ (List.mem_append_right _ (List.mem_append_left _ h))) gw_d_isSite)
set_option maxHeartbeats 4000000 in
set_option maxRecDepth 100000 in
theorem d_whyFreeze (l : Launch) (E : EE) (mo m_tape m_readPlace m_script m_scriptLong m_now m_refused m_shareX m_shareY m_askedRow m_kept m_aside m_spelled m_image : Nat) (p0 : Int32) : Met l yX8_whyFreeze v_d_whyFreeze ({ frames := 2, cells := 0, slots := 0, locals := 46 }) (va_Pc [.ref mo, .int p0] (pP E [(mo, .inr (9, [.int 0, .ref m_tape, .int 0, .int 0, .int 0, .int 0, .int 0, .int 0, .long 0, .int 0, .int 0, .int 0, .int 0, .ref m_readPlace, .ref m_script, .ref m_scriptLong, .int 0, .ref m_now, .ref m_refused, .int 0, .ref m_shareX, .ref m_shareY, .int 0, .int 0, .ref m_askedRow, .int 0, .ref m_kept, .int 0, .long 0, .ref m_aside, .int 0, .int 0, .ref m_spelled, .int 0, .ref m_image, .int 0]))])) (vp_Si (fun r => r = 0)) 0 0 (fun _ => False) := by
  refine Met.ofW (cc := cX8_whyFreeze) (maxL := 2) (ret := (some .int)) (by decide) rfl ?_
  intro p e s m args below meth c s₁ B hml hv
  obtain ⟨rfl, ⟨hK, hN⟩, hP⟩ := hv
  have hx := B.exec
  have hb := B.bytes
  have hr := B.returns
  have hts := atoms_spec (ws := v_d_whyFreeze) B.pre
  have hown : s.vm.findClass RX8 = some m.cls := findClass_of_methodNamed B.named
  have hlocks := B.notSynchronized
  have hP : va_P E.1 vwCl [(mo, .inr (9, [.int 0, .ref m_tape, .int 0, .int 0, .int 0, .int 0, .int 0, .int 0, .long 0, .int 0, .int 0, .int 0, .int 0, .ref m_readPlace, .ref m_script, .ref m_scriptLong, .int 0, .ref m_now, .ref m_refused, .int 0, .ref m_shareX, .ref m_shareY, .int 0, .int 0, .ref m_askedRow, .int 0, .ref m_kept, .int 0, .long 0, .ref m_aside, .int 0, .int 0, .ref m_spelled, .int 0, .ref m_image, .int 0]))] s.heap := hP
  have hl := lv_entry ([.ref mo, .int p0]) (n := 2) (Nat.le_of_ble_eq_true rfl)
  rw [lg_entry_eq]
  generalize (lg_sl ([.ref mo, .int p0]) ++ List.replicate (2 - (lg_sl ([.ref mo, .int p0])).length) Slot.unset).toArray = ls at hl ⊢
  have hl : lv_has ls 2 [(0, .ref mo), (1, .int p0)] := hl
  refine lv_aload_n hx hb dX8_whyFreeze_0 rfl (lv_at hl 0 rfl) ?_
  refine lv_iload_n hx hb dX8_whyFreeze_1 rfl (lv_at hl 1 rfl) ?_
  have hPc := hP.sub (ws' := [(mo, .inr (9, [.int 0, .ref m_tape, .int 0, .int 0, .int 0, .int 0, .int 0, .int 0, .long 0, .int 0, .int 0, .int 0, .int 0, .ref m_readPlace, .ref m_script, .ref m_scriptLong, .int 0, .ref m_now, .ref m_refused, .int 0, .ref m_shareX, .ref m_shareY, .int 0, .int 0, .ref m_askedRow, .int 0, .ref m_kept, .int 0, .long 0, .ref m_aside, .int 0, .int 0, .ref m_spelled, .int 0, .ref m_image, .int 0]))]) [0] rfl
  refine pc_i (va_runV (As := [.int p0]) (rest := []) ⟨hx, hb, hml, hown, hts⟩ (d_isSite l E mo m_tape m_readPlace m_script m_scriptLong m_now m_refused m_shareX m_shareY m_askedRow m_kept m_aside m_spelled m_image p0) (cwV 1 hts g_d_whyFreeze_d_isSite_278 rfl rfl rfl (by decide +kernel) ⟨Nat.le_of_ble_eq_true rfl, Nat.le_of_ble_eq_true rfl⟩) ⟨pP.blind, va_recv hK hPc (ci := 9) (q0 := 0) rfl rfl, (pP.pre ⟨hK, hN⟩ hPc)⟩ rfl rfl hl.1 rfl (lv_room (Nat.le_of_ble_eq_true rfl)) dX8_whyFreeze_2 ⟨Nat.le_of_ble_eq_true rfl, Nat.le_of_ble_eq_true rfl⟩) (fun r_1 hr_1 => ?_)
  obtain rfl : r_1 = 0 := hr_1
  refine lv_if_ne (tgt := 12) hx hb dX8_whyFreeze_5 (by decide) (fun q => absurd (by decide) q) (fun _ => ?_)
  refine lv_iconst (v := 0) hx hb dX8_whyFreeze_8 (by decide) ?_
  refine lv_goto (tgt := 41) hx hb dX8_whyFreeze_9 (by decide) ?_
  exact W.iret (v := 0) hx hb hr (fun tt ht hW => ⟨_, rfl, rfl, ht⟩) (fun _ h => by cases h) dX8_whyFreeze_41

def v_d_whySet : List Cond := .code yX8_whySet cX8_whySet 5 (some .int) :: ([.methodLink RX8 299 yX8_isWatch, .instanceMethod yX8_isWatch, .selects RX8 yX8_isWatch yX8_isWatch, .initialized RX8] ++ (v_d_isWatch ++ ([])))
theorem gw_d_whySet : v_d_whySet.all goodWord = true := by decide +kernel
theorem g_d_whySet_d_isWatch_299 : GoodIn v_d_whySet (wsV RX8 299 RX8 yX8_isWatch v_d_isWatch) := goodIn_app (goodIn_of _ (by decide +kernel)) (goodIn_sub (fun _ h => List.mem_cons_of_mem _ (List.mem_append_right _ (List.mem_append_left _ h))) gw_d_isWatch)
set_option maxHeartbeats 4000000 in
set_option maxRecDepth 100000 in
theorem d_whySet (l : Launch) (E : EE) (mo m_tape m_readPlace m_script m_scriptLong m_now m_refused m_shareX m_shareY m_askedRow m_kept m_aside m_spelled m_image : Nat) (p0 p1 p2 p3 : Int32) : Met l yX8_whySet v_d_whySet ({ frames := 1, cells := 0, slots := 0, locals := 20 }) (va_Pc [.ref mo, .int p0, .int p1, .int p2, .int p3] (pP E [(mo, .inr (9, [.int 0, .ref m_tape, .int 0, .int 0, .int 0, .int 0, .int 0, .int 0, .long 0, .int 0, .int 0, .int 0, .int 0, .ref m_readPlace, .ref m_script, .ref m_scriptLong, .int 0, .ref m_now, .ref m_refused, .int 0, .ref m_shareX, .ref m_shareY, .int 0, .int 0, .ref m_askedRow, .int 0, .ref m_kept, .int 0, .long 0, .ref m_aside, .int 0, .int 0, .ref m_spelled, .int 0, .ref m_image, .int 0]))])) (vp_Si (fun r => r = 0)) 0 0 (fun _ => False) := by
  refine Met.ofW (cc := cX8_whySet) (maxL := 5) (ret := (some .int)) (by decide) rfl ?_
  intro p e s m args below meth c s₁ B hml hv
  obtain ⟨rfl, ⟨hK, hN⟩, hP⟩ := hv
  have hx := B.exec
  have hb := B.bytes
  have hr := B.returns
  have hts := atoms_spec (ws := v_d_whySet) B.pre
  have hown : s.vm.findClass RX8 = some m.cls := findClass_of_methodNamed B.named
  have hlocks := B.notSynchronized
  have hP : va_P E.1 vwCl [(mo, .inr (9, [.int 0, .ref m_tape, .int 0, .int 0, .int 0, .int 0, .int 0, .int 0, .long 0, .int 0, .int 0, .int 0, .int 0, .ref m_readPlace, .ref m_script, .ref m_scriptLong, .int 0, .ref m_now, .ref m_refused, .int 0, .ref m_shareX, .ref m_shareY, .int 0, .int 0, .ref m_askedRow, .int 0, .ref m_kept, .int 0, .long 0, .ref m_aside, .int 0, .int 0, .ref m_spelled, .int 0, .ref m_image, .int 0]))] s.heap := hP
  have hl := lv_entry ([.ref mo, .int p0, .int p1, .int p2, .int p3]) (n := 5) (Nat.le_of_ble_eq_true rfl)
  rw [lg_entry_eq]
  generalize (lg_sl ([.ref mo, .int p0, .int p1, .int p2, .int p3]) ++ List.replicate (5 - (lg_sl ([.ref mo, .int p0, .int p1, .int p2, .int p3])).length) Slot.unset).toArray = ls at hl ⊢
  have hl : lv_has ls 5 [(0, .ref mo), (1, .int p0), (2, .int p1), (3, .int p2), (4, .int p3)] := hl
  refine lv_aload_n hx hb dX8_whySet_0 rfl (lv_at hl 0 rfl) ?_
  have hPc := hP.sub (ws' := [(mo, .inr (9, [.int 0, .ref m_tape, .int 0, .int 0, .int 0, .int 0, .int 0, .int 0, .long 0, .int 0, .int 0, .int 0, .int 0, .ref m_readPlace, .ref m_script, .ref m_scriptLong, .int 0, .ref m_now, .ref m_refused, .int 0, .ref m_shareX, .ref m_shareY, .int 0, .int 0, .ref m_askedRow, .int 0, .ref m_kept, .int 0, .long 0, .ref m_aside, .int 0, .int 0, .ref m_spelled, .int 0, .ref m_image, .int 0]))]) [0] rfl
  refine pc_i (va_runV (As := []) (rest := []) ⟨hx, hb, hml, hown, hts⟩ (d_isWatch l E mo m_tape m_readPlace m_script m_scriptLong m_now m_refused m_shareX m_shareY m_askedRow m_kept m_aside m_spelled m_image) (cwV 0 hts g_d_whySet_d_isWatch_299 rfl rfl rfl (by decide +kernel) ⟨Nat.le_of_ble_eq_true rfl, Nat.le_of_ble_eq_true rfl⟩) ⟨pP.blind, va_recv hK hPc (ci := 9) (q0 := 0) rfl rfl, (pP.pre ⟨hK, hN⟩ hPc)⟩ rfl rfl hl.1 rfl (lv_room (Nat.le_of_ble_eq_true rfl)) dX8_whySet_1 ⟨Nat.le_of_ble_eq_true rfl, Nat.le_of_ble_eq_true rfl⟩) (fun r_1 hr_1 => ?_)
  obtain rfl : r_1 = 0 := hr_1
  refine lv_if_ne (tgt := 11) hx hb dX8_whySet_4 (by decide) (fun q => absurd (by decide) q) (fun _ => ?_)
  refine lv_iconst (v := 0) hx hb dX8_whySet_7 (by decide) ?_
  refine lv_goto (tgt := 38) hx hb dX8_whySet_8 (by decide) ?_
  exact W.iret (v := 0) hx hb hr (fun tt ht hW => ⟨_, rfl, rfl, ht⟩) (fun _ h => by cases h) dX8_whySet_38

def v_d_whyNot : List Cond := .code yX8_whyNot cX8_whyNot 5 (some .int) :: ([.constant RX8 152 (-9999999), .constant RX8 153 (9999999), .fieldLink RX8 22 "HushWatchModel" "now" "[I", .methodLink RX8 302 yX8_whyMove, .instanceMethod yX8_whyMove, .selects RX8 yX8_whyMove yX8_whyMove, .initialized RX8, .methodLink RX8 299 yX8_isWatch, .instanceMethod yX8_isWatch, .selects RX8 yX8_isWatch yX8_isWatch, .methodLink RX8 306 yX8_whySet, .instanceMethod yX8_whySet, .selects RX8 yX8_whySet yX8_whySet, .methodLink RX8 310 yX8_whyAdd, .instanceMethod yX8_whyAdd, .selects RX8 yX8_whyAdd yX8_whyAdd, .methodLink RX8 313 yX8_whyFreeze, .instanceMethod yX8_whyFreeze, .selects RX8 yX8_whyFreeze yX8_whyFreeze] ++ (v_d_whyMove ++ (v_d_isWatch ++ (wsX80 ++ (v_d_whySet ++ (v_d_whyAdd ++ (v_d_whyFreeze ++ ([]))))))))
theorem gw_d_whyNot : v_d_whyNot.all goodWord = true := by decide +kernel
theorem i_d_whyNot_X8 : ∀ w ∈ wsX80, w ∈ v_d_whyNot := fun _ h => List.mem_cons_of_mem _ (List.mem_append_right _ (List.mem_append_right _ (List.mem_append_right _ (List.mem_append_left _ h))))
theorem g_d_whyNot_d_whyMove_302 : GoodIn v_d_whyNot (wsV RX8 302 RX8 yX8_whyMove v_d_whyMove) := goodIn_app (goodIn_of _ (by decide +kernel)) (goodIn_sub (fun _ h => List.mem_cons_of_mem _ (List.mem_append_right _ (List.mem_append_left _ h))) gw_d_whyMove)
theorem g_d_whyNot_d_isWatch_299 : GoodIn v_d_whyNot (wsV RX8 299 RX8 yX8_isWatch v_d_isWatch) := goodIn_app (goodIn_of _ (by decide +kernel)) (goodIn_sub (fun _ h => List.mem_cons_of_mem _ (List.mem_append_right _ (List.mem_append_right _ (List.mem_append_left _ h)))) gw_d_isWatch)
theorem g_d_whyNot_d_whySet_306 : GoodIn v_d_whyNot (wsV RX8 306 RX8 yX8_whySet v_d_whySet) := goodIn_app (goodIn_of _ (by decide +kernel)) (goodIn_sub (fun _ h => List.mem_cons_of_mem _ (List.mem_append_right _ (List.mem_append_right _ (List.mem_append_right _ (List.mem_append_right _ (List.mem_append_left _ h)))))) gw_d_whySet)
theorem g_d_whyNot_d_whyAdd_310 : GoodIn v_d_whyNot (wsV RX8 310 RX8 yX8_whyAdd v_d_whyAdd) := goodIn_app (goodIn_of _ (by decide +kernel)) (goodIn_sub (fun _ h => List.mem_cons_of_mem _ (List.mem_append_right _ (List.mem_append_right _ (List.mem_append_right _ (List.mem_append_right _ (List.mem_append_right _ (List.mem_append_left _ h))))))) gw_d_whyAdd)
theorem g_d_whyNot_d_whyFreeze_313 : GoodIn v_d_whyNot (wsV RX8 313 RX8 yX8_whyFreeze v_d_whyFreeze) := goodIn_app (goodIn_of _ (by decide +kernel)) (goodIn_sub (fun _ h => List.mem_cons_of_mem _ (List.mem_append_right _ (List.mem_append_right _ (List.mem_append_right _ (List.mem_append_right _ (List.mem_append_right _ (List.mem_append_right _ (List.mem_append_left _ h)))))))) gw_d_whyFreeze)
set_option maxHeartbeats 4000000 in
set_option maxRecDepth 100000 in
theorem d_whyNot (l : Launch) (E : EE) (mo m_tape m_readPlace m_script m_scriptLong m_now m_refused m_shareX m_shareY m_askedRow m_kept m_aside m_spelled m_image : Nat) (p0 p1 p2 p3 : Int32) : Met l yX8_whyNot v_d_whyNot ({ frames := 3, cells := 0, slots := 0, locals := 70 }) (va_Pc [.ref mo, .int p0, .int p1, .int p2, .int p3] (pP E [(mo, .inr (9, [.int 0, .ref m_tape, .int 0, .int 0, .int 0, .int 0, .int 0, .int 0, .long 0, .int 0, .int 0, .int 0, .int 0, .ref m_readPlace, .ref m_script, .ref m_scriptLong, .int 0, .ref m_now, .ref m_refused, .int 0, .ref m_shareX, .ref m_shareY, .int 0, .int 0, .ref m_askedRow, .int 0, .ref m_kept, .int 0, .long 0, .ref m_aside, .int 0, .int 0, .ref m_spelled, .int 0, .ref m_image, .int 0])), (m_now, .inl (E.2.1, 265, .inl (fun _ => 0)))])) (vp_Si (fun r => r = 0)) 0 0 (fun _ => False) := by
  refine Met.ofW (cc := cX8_whyNot) (maxL := 5) (ret := (some .int)) (by decide) rfl ?_
  intro p e s m args below meth c s₁ B hml hv
  obtain ⟨rfl, ⟨hK, hN⟩, hP⟩ := hv
  have hx := B.exec
  have hb := B.bytes
  have hr := B.returns
  have hts := atoms_spec (ws := v_d_whyNot) B.pre
  have hown : s.vm.findClass RX8 = some m.cls := findClass_of_methodNamed B.named
  have hlocks := B.notSynchronized
  have hP : va_P E.1 vwCl [(mo, .inr (9, [.int 0, .ref m_tape, .int 0, .int 0, .int 0, .int 0, .int 0, .int 0, .long 0, .int 0, .int 0, .int 0, .int 0, .ref m_readPlace, .ref m_script, .ref m_scriptLong, .int 0, .ref m_now, .ref m_refused, .int 0, .ref m_shareX, .ref m_shareY, .int 0, .int 0, .ref m_askedRow, .int 0, .ref m_kept, .int 0, .long 0, .ref m_aside, .int 0, .int 0, .ref m_spelled, .int 0, .ref m_image, .int 0])), (m_now, .inl (E.2.1, 265, .inl (fun _ => 0)))] s.heap := hP
  have hl := lv_entry ([.ref mo, .int p0, .int p1, .int p2, .int p3]) (n := 5) (Nat.le_of_ble_eq_true rfl)
  rw [lg_entry_eq]
  generalize (lg_sl ([.ref mo, .int p0, .int p1, .int p2, .int p3]) ++ List.replicate (5 - (lg_sl ([.ref mo, .int p0, .int p1, .int p2, .int p3])).length) Slot.unset).toArray = ls at hl ⊢
  have hl : lv_has ls 5 [(0, .ref mo), (1, .int p0), (2, .int p1), (3, .int p2), (4, .int p3)] := hl
  refine lv_iload_n hx hb dX8_whyNot_0 rfl (lv_at hl 1 rfl) ?_
  rcases Classical.em (p0 = 0) with c_1_0 | c_1_0
  ·
    refine lv_tableIn (off := 43) (tgt := 44) hx hb dX8_whyNot_1 (by rw [c_1_0]; decide) (by rw [c_1_0]; decide) (by rw [c_1_0]; decide) (by decide) ?_
    refine lv_aload_n hx hb dX8_whyNot_44 rfl (lv_at hl 0 rfl) ?_
    refine lv_iload_n hx hb dX8_whyNot_45 rfl (lv_at hl 2 rfl) ?_
    refine lv_iload_n hx hb dX8_whyNot_46 rfl (lv_at hl 3 rfl) ?_
    refine lv_iload hx hb dX8_whyNot_47 (lv_at hl 4 rfl) ?_
    have hPc := hP.sub (ws' := [(mo, .inr (9, [.int 0, .ref m_tape, .int 0, .int 0, .int 0, .int 0, .int 0, .int 0, .long 0, .int 0, .int 0, .int 0, .int 0, .ref m_readPlace, .ref m_script, .ref m_scriptLong, .int 0, .ref m_now, .ref m_refused, .int 0, .ref m_shareX, .ref m_shareY, .int 0, .int 0, .ref m_askedRow, .int 0, .ref m_kept, .int 0, .long 0, .ref m_aside, .int 0, .int 0, .ref m_spelled, .int 0, .ref m_image, .int 0]))]) [0] rfl
    refine pc_i (va_runV (As := [.int p1, .int p2, .int p3]) (rest := []) ⟨hx, hb, hml, hown, hts⟩ (d_whyMove l E mo m_tape m_readPlace m_script m_scriptLong m_now m_refused m_shareX m_shareY m_askedRow m_kept m_aside m_spelled m_image p1 p2 p3) (cwV 3 hts g_d_whyNot_d_whyMove_302 rfl rfl rfl (by decide +kernel) ⟨Nat.le_of_ble_eq_true rfl, Nat.le_of_ble_eq_true rfl⟩) ⟨pP.blind, va_recv hK hPc (ci := 9) (q0 := 0) rfl rfl, (pP.pre ⟨hK, hN⟩ hPc)⟩ rfl rfl hl.1 rfl (lv_room (Nat.le_of_ble_eq_true rfl)) dX8_whyNot_49 ⟨Nat.le_of_ble_eq_true rfl, Nat.le_of_ble_eq_true rfl⟩) (fun r_2 hr_2 => ?_)
    obtain rfl : r_2 = 0 := hr_2
    exact W.iret (v := 0) hx hb hr (fun tt ht hW => ⟨_, rfl, rfl, ht⟩) (fun _ h => by cases h) dX8_whyNot_52
  rcases Classical.em (p0 = 1) with c_1_1 | c_1_1
  ·
    refine lv_tableIn (off := 52) (tgt := 53) hx hb dX8_whyNot_1 (by rw [c_1_1]; decide) (by rw [c_1_1]; decide) (by rw [c_1_1]; decide) (by decide) ?_
    refine lv_aload_n hx hb dX8_whyNot_53 rfl (lv_at hl 0 rfl) ?_
    have hPc := hP.sub (ws' := [(mo, .inr (9, [.int 0, .ref m_tape, .int 0, .int 0, .int 0, .int 0, .int 0, .int 0, .long 0, .int 0, .int 0, .int 0, .int 0, .ref m_readPlace, .ref m_script, .ref m_scriptLong, .int 0, .ref m_now, .ref m_refused, .int 0, .ref m_shareX, .ref m_shareY, .int 0, .int 0, .ref m_askedRow, .int 0, .ref m_kept, .int 0, .long 0, .ref m_aside, .int 0, .int 0, .ref m_spelled, .int 0, .ref m_image, .int 0]))]) [0] rfl
    refine pc_i (va_runV (As := []) (rest := []) ⟨hx, hb, hml, hown, hts⟩ (d_isWatch l E mo m_tape m_readPlace m_script m_scriptLong m_now m_refused m_shareX m_shareY m_askedRow m_kept m_aside m_spelled m_image) (cwV 0 hts g_d_whyNot_d_isWatch_299 rfl rfl rfl (by decide +kernel) ⟨Nat.le_of_ble_eq_true rfl, Nat.le_of_ble_eq_true rfl⟩) ⟨pP.blind, va_recv hK hPc (ci := 9) (q0 := 0) rfl rfl, (pP.pre ⟨hK, hN⟩ hPc)⟩ rfl rfl hl.1 rfl (lv_room (Nat.le_of_ble_eq_true rfl)) dX8_whyNot_54 ⟨Nat.le_of_ble_eq_true rfl, Nat.le_of_ble_eq_true rfl⟩) (fun r_3 hr_3 => ?_)
    obtain rfl : r_3 = 0 := hr_3
    refine lv_if_eq (tgt := 64) hx hb dX8_whyNot_57 (by decide) (fun _ => ?_) (fun q => absurd (by decide) q)
    refine lv_iconst (v := 0) hx hb dX8_whyNot_64 (by decide) ?_
    exact W.iret (v := 0) hx hb hr (fun tt ht hW => ⟨_, rfl, rfl, ht⟩) (fun _ h => by cases h) dX8_whyNot_65
  rcases Classical.em (p0 = 2) with c_1_2 | c_1_2
  ·
    refine lv_tableIn (off := 65) (tgt := 66) hx hb dX8_whyNot_1 (by rw [c_1_2]; decide) (by rw [c_1_2]; decide) (by rw [c_1_2]; decide) (by decide) ?_
    refine lv_aload_n hx hb dX8_whyNot_66 rfl (lv_at hl 0 rfl) ?_
    refine lv_iload_n hx hb dX8_whyNot_67 rfl (lv_at hl 2 rfl) ?_
    refine lv_ldc (v := -9999999) hx hb hown (hts (.constant RX8 152 (-9999999)) (List.mem_of_getElem? (i := 1) rfl)) dX8_whyNot_68 ?_
    refine lv_ldc (v := 9999999) hx hb hown (hts (.constant RX8 153 (9999999)) (List.mem_of_getElem? (i := 2) rfl)) dX8_whyNot_70 ?_
    refine lv_aload_n hx hb dX8_whyNot_72 rfl (lv_at hl 0 rfl) ?_
    refine va_get (D := E.1) (ci := 9) (v := .ref m_now) (C := RX8) (T := TX8) (N := 36) hx hb hts i_d_whyNot_X8 hown hK hP 0 rfl rfl 17 (by decide) (hts (.fieldLink RX8 22 "HushWatchModel" "now" "[I") (List.mem_of_getElem? (i := 3) rfl)) (fun _ h9 => h9) rfl dX8_whyNot_73 ?_
    refine lv_bipush (v := 65) hx hb dX8_whyNot_76 (by decide) ?_
    refine va_iald hx hb hK hP 1 0 rfl rfl (vin rfl) dX8_whyNot_78 ?_
    refine W.eq (g2 := F0 m 79 ls [.int 0, .int 9999999, .int (-9999999), .int p1, .ref mo]) rfl ?_
    have hPc := hP.sub (ws' := [(mo, .inr (9, [.int 0, .ref m_tape, .int 0, .int 0, .int 0, .int 0, .int 0, .int 0, .long 0, .int 0, .int 0, .int 0, .int 0, .ref m_readPlace, .ref m_script, .ref m_scriptLong, .int 0, .ref m_now, .ref m_refused, .int 0, .ref m_shareX, .ref m_shareY, .int 0, .int 0, .ref m_askedRow, .int 0, .ref m_kept, .int 0, .long 0, .ref m_aside, .int 0, .int 0, .ref m_spelled, .int 0, .ref m_image, .int 0]))]) [0] rfl
    refine pc_i (va_runV (As := [.int p1, .int (-9999999), .int 9999999, .int 0]) (rest := []) ⟨hx, hb, hml, hown, hts⟩ (d_whySet l E mo m_tape m_readPlace m_script m_scriptLong m_now m_refused m_shareX m_shareY m_askedRow m_kept m_aside m_spelled m_image p1 (-9999999) 9999999 0) (cwV 4 hts g_d_whyNot_d_whySet_306 rfl rfl rfl (by decide +kernel) ⟨Nat.le_of_ble_eq_true rfl, Nat.le_of_ble_eq_true rfl⟩) ⟨pP.blind, va_recv hK hPc (ci := 9) (q0 := 0) rfl rfl, (pP.pre ⟨hK, hN⟩ hPc)⟩ rfl rfl hl.1 rfl (lv_room (Nat.le_of_ble_eq_true rfl)) dX8_whyNot_79 ⟨Nat.le_of_ble_eq_true rfl, Nat.le_of_ble_eq_true rfl⟩) (fun r_4 hr_4 => ?_)
    obtain rfl : r_4 = 0 := hr_4
    exact W.iret (v := 0) hx hb hr (fun tt ht hW => ⟨_, rfl, rfl, ht⟩) (fun _ h => by cases h) dX8_whyNot_82
  rcases Classical.em (p0 = 3) with c_1_3 | c_1_3
  ·
    refine lv_tableIn (off := 82) (tgt := 83) hx hb dX8_whyNot_1 (by rw [c_1_3]; decide) (by rw [c_1_3]; decide) (by rw [c_1_3]; decide) (by decide) ?_
    refine lv_aload_n hx hb dX8_whyNot_83 rfl (lv_at hl 0 rfl) ?_
    refine lv_iload_n hx hb dX8_whyNot_84 rfl (lv_at hl 2 rfl) ?_
    refine lv_iconst (v := 0) hx hb dX8_whyNot_85 (by decide) ?_
    refine lv_iconst (v := 3) hx hb dX8_whyNot_86 (by decide) ?_
    refine lv_aload_n hx hb dX8_whyNot_87 rfl (lv_at hl 0 rfl) ?_
    refine va_get (D := E.1) (ci := 9) (v := .ref m_now) (C := RX8) (T := TX8) (N := 36) hx hb hts i_d_whyNot_X8 hown hK hP 0 rfl rfl 17 (by decide) (hts (.fieldLink RX8 22 "HushWatchModel" "now" "[I") (List.mem_of_getElem? (i := 3) rfl)) (fun _ h9 => h9) rfl dX8_whyNot_88 ?_
    refine lv_bipush (v := 64) hx hb dX8_whyNot_91 (by decide) ?_
    refine va_iald hx hb hK hP 1 0 rfl rfl (vin rfl) dX8_whyNot_93 ?_
    refine W.eq (g2 := F0 m 94 ls [.int 0, .int 3, .int 0, .int p1, .ref mo]) rfl ?_
    have hPc := hP.sub (ws' := [(mo, .inr (9, [.int 0, .ref m_tape, .int 0, .int 0, .int 0, .int 0, .int 0, .int 0, .long 0, .int 0, .int 0, .int 0, .int 0, .ref m_readPlace, .ref m_script, .ref m_scriptLong, .int 0, .ref m_now, .ref m_refused, .int 0, .ref m_shareX, .ref m_shareY, .int 0, .int 0, .ref m_askedRow, .int 0, .ref m_kept, .int 0, .long 0, .ref m_aside, .int 0, .int 0, .ref m_spelled, .int 0, .ref m_image, .int 0]))]) [0] rfl
    refine pc_i (va_runV (As := [.int p1, .int 0, .int 3, .int 0]) (rest := []) ⟨hx, hb, hml, hown, hts⟩ (d_whySet l E mo m_tape m_readPlace m_script m_scriptLong m_now m_refused m_shareX m_shareY m_askedRow m_kept m_aside m_spelled m_image p1 0 3 0) (cwV 4 hts g_d_whyNot_d_whySet_306 rfl rfl rfl (by decide +kernel) ⟨Nat.le_of_ble_eq_true rfl, Nat.le_of_ble_eq_true rfl⟩) ⟨pP.blind, va_recv hK hPc (ci := 9) (q0 := 0) rfl rfl, (pP.pre ⟨hK, hN⟩ hPc)⟩ rfl rfl hl.1 rfl (lv_room (Nat.le_of_ble_eq_true rfl)) dX8_whyNot_94 ⟨Nat.le_of_ble_eq_true rfl, Nat.le_of_ble_eq_true rfl⟩) (fun r_5 hr_5 => ?_)
    obtain rfl : r_5 = 0 := hr_5
    exact W.iret (v := 0) hx hb hr (fun tt ht hW => ⟨_, rfl, rfl, ht⟩) (fun _ h => by cases h) dX8_whyNot_97
  rcases Classical.em (p0 = 4) with c_1_4 | c_1_4
  ·
    refine lv_tableIn (off := 97) (tgt := 98) hx hb dX8_whyNot_1 (by rw [c_1_4]; decide) (by rw [c_1_4]; decide) (by rw [c_1_4]; decide) (by decide) ?_
    refine lv_aload_n hx hb dX8_whyNot_98 rfl (lv_at hl 0 rfl) ?_
    refine lv_iload_n hx hb dX8_whyNot_99 rfl (lv_at hl 2 rfl) ?_
    refine lv_iload_n hx hb dX8_whyNot_100 rfl (lv_at hl 3 rfl) ?_
    have hPc := hP.sub (ws' := [(mo, .inr (9, [.int 0, .ref m_tape, .int 0, .int 0, .int 0, .int 0, .int 0, .int 0, .long 0, .int 0, .int 0, .int 0, .int 0, .ref m_readPlace, .ref m_script, .ref m_scriptLong, .int 0, .ref m_now, .ref m_refused, .int 0, .ref m_shareX, .ref m_shareY, .int 0, .int 0, .ref m_askedRow, .int 0, .ref m_kept, .int 0, .long 0, .ref m_aside, .int 0, .int 0, .ref m_spelled, .int 0, .ref m_image, .int 0]))]) [0] rfl
    refine pc_i (va_runV (As := [.int p1, .int p2]) (rest := []) ⟨hx, hb, hml, hown, hts⟩ (d_whyAdd l E mo m_tape m_readPlace m_script m_scriptLong m_now m_refused m_shareX m_shareY m_askedRow m_kept m_aside m_spelled m_image p1 p2) (cwV 2 hts g_d_whyNot_d_whyAdd_310 rfl rfl rfl (by decide +kernel) ⟨Nat.le_of_ble_eq_true rfl, Nat.le_of_ble_eq_true rfl⟩) ⟨pP.blind, va_recv hK hPc (ci := 9) (q0 := 0) rfl rfl, (pP.pre ⟨hK, hN⟩ hPc)⟩ rfl rfl hl.1 rfl (lv_room (Nat.le_of_ble_eq_true rfl)) dX8_whyNot_101 ⟨Nat.le_of_ble_eq_true rfl, Nat.le_of_ble_eq_true rfl⟩) (fun r_6 hr_6 => ?_)
    obtain rfl : r_6 = 0 := hr_6
    exact W.iret (v := 0) hx hb hr (fun tt ht hW => ⟨_, rfl, rfl, ht⟩) (fun _ h => by cases h) dX8_whyNot_104
  rcases Classical.em (p0 = 5) with c_1_5 | c_1_5
  ·
    refine lv_tableIn (off := 110) (tgt := 111) hx hb dX8_whyNot_1 (by rw [c_1_5]; decide) (by rw [c_1_5]; decide) (by rw [c_1_5]; decide) (by decide) ?_
    refine lv_aload_n hx hb dX8_whyNot_111 rfl (lv_at hl 0 rfl) ?_
    refine lv_iload_n hx hb dX8_whyNot_112 rfl (lv_at hl 2 rfl) ?_
    refine lv_iconst (v := 1) hx hb dX8_whyNot_113 (by decide) ?_
    refine lv_sipush (v := 9999) hx hb dX8_whyNot_114 (by decide) ?_
    refine lv_iconst (v := -1) hx hb dX8_whyNot_117 (by decide) ?_
    have hPc := hP.sub (ws' := [(mo, .inr (9, [.int 0, .ref m_tape, .int 0, .int 0, .int 0, .int 0, .int 0, .int 0, .long 0, .int 0, .int 0, .int 0, .int 0, .ref m_readPlace, .ref m_script, .ref m_scriptLong, .int 0, .ref m_now, .ref m_refused, .int 0, .ref m_shareX, .ref m_shareY, .int 0, .int 0, .ref m_askedRow, .int 0, .ref m_kept, .int 0, .long 0, .ref m_aside, .int 0, .int 0, .ref m_spelled, .int 0, .ref m_image, .int 0]))]) [0] rfl
    refine pc_i (va_runV (As := [.int p1, .int 1, .int 9999, .int (-1)]) (rest := []) ⟨hx, hb, hml, hown, hts⟩ (d_whySet l E mo m_tape m_readPlace m_script m_scriptLong m_now m_refused m_shareX m_shareY m_askedRow m_kept m_aside m_spelled m_image p1 1 9999 (-1)) (cwV 4 hts g_d_whyNot_d_whySet_306 rfl rfl rfl (by decide +kernel) ⟨Nat.le_of_ble_eq_true rfl, Nat.le_of_ble_eq_true rfl⟩) ⟨pP.blind, va_recv hK hPc (ci := 9) (q0 := 0) rfl rfl, (pP.pre ⟨hK, hN⟩ hPc)⟩ rfl rfl hl.1 rfl (lv_room (Nat.le_of_ble_eq_true rfl)) dX8_whyNot_118 ⟨Nat.le_of_ble_eq_true rfl, Nat.le_of_ble_eq_true rfl⟩) (fun r_7 hr_7 => ?_)
    obtain rfl : r_7 = 0 := hr_7
    exact W.iret (v := 0) hx hb hr (fun tt ht hW => ⟨_, rfl, rfl, ht⟩) (fun _ h => by cases h) dX8_whyNot_121
  rcases Classical.em (p0 = 6) with c_1_6 | c_1_6
  ·
    refine lv_tableIn (off := 104) (tgt := 105) hx hb dX8_whyNot_1 (by rw [c_1_6]; decide) (by rw [c_1_6]; decide) (by rw [c_1_6]; decide) (by decide) ?_
    refine lv_aload_n hx hb dX8_whyNot_105 rfl (lv_at hl 0 rfl) ?_
    refine lv_iload_n hx hb dX8_whyNot_106 rfl (lv_at hl 2 rfl) ?_
    have hPc := hP.sub (ws' := [(mo, .inr (9, [.int 0, .ref m_tape, .int 0, .int 0, .int 0, .int 0, .int 0, .int 0, .long 0, .int 0, .int 0, .int 0, .int 0, .ref m_readPlace, .ref m_script, .ref m_scriptLong, .int 0, .ref m_now, .ref m_refused, .int 0, .ref m_shareX, .ref m_shareY, .int 0, .int 0, .ref m_askedRow, .int 0, .ref m_kept, .int 0, .long 0, .ref m_aside, .int 0, .int 0, .ref m_spelled, .int 0, .ref m_image, .int 0]))]) [0] rfl
    refine pc_i (va_runV (As := [.int p1]) (rest := []) ⟨hx, hb, hml, hown, hts⟩ (d_whyFreeze l E mo m_tape m_readPlace m_script m_scriptLong m_now m_refused m_shareX m_shareY m_askedRow m_kept m_aside m_spelled m_image p1) (cwV 1 hts g_d_whyNot_d_whyFreeze_313 rfl rfl rfl (by decide +kernel) ⟨Nat.le_of_ble_eq_true rfl, Nat.le_of_ble_eq_true rfl⟩) ⟨pP.blind, va_recv hK hPc (ci := 9) (q0 := 0) rfl rfl, (pP.pre ⟨hK, hN⟩ hPc)⟩ rfl rfl hl.1 rfl (lv_room (Nat.le_of_ble_eq_true rfl)) dX8_whyNot_107 ⟨Nat.le_of_ble_eq_true rfl, Nat.le_of_ble_eq_true rfl⟩) (fun r_8 hr_8 => ?_)
    obtain rfl : r_8 = 0 := hr_8
    exact W.iret (v := 0) hx hb hr (fun tt ht hW => ⟨_, rfl, rfl, ht⟩) (fun _ h => by cases h) dX8_whyNot_110
  refine lv_tableOut (tgt := 111) hx hb dX8_whyNot_1 (by have t0 : (0 : Int32).toInt = 0 := (by decide); have t1 : (1 : Int32).toInt = 1 := (by decide); have t2 : (2 : Int32).toInt = 2 := (by decide); have t3 : (3 : Int32).toInt = 3 := (by decide); have t4 : (4 : Int32).toInt = 4 := (by decide); have t5 : (5 : Int32).toInt = 5 := (by decide); have t6 : (6 : Int32).toInt = 6 := (by decide); simp only [← Int32.toInt_inj, t0, t1, t2, t3, t4, t5, t6] at c_1_0 c_1_1 c_1_2 c_1_3 c_1_4 c_1_5 c_1_6; omega) (by decide) ?_
  refine lv_aload_n hx hb dX8_whyNot_111 rfl (lv_at hl 0 rfl) ?_
  refine lv_iload_n hx hb dX8_whyNot_112 rfl (lv_at hl 2 rfl) ?_
  refine lv_iconst (v := 1) hx hb dX8_whyNot_113 (by decide) ?_
  refine lv_sipush (v := 9999) hx hb dX8_whyNot_114 (by decide) ?_
  refine lv_iconst (v := -1) hx hb dX8_whyNot_117 (by decide) ?_
  have hPc := hP.sub (ws' := [(mo, .inr (9, [.int 0, .ref m_tape, .int 0, .int 0, .int 0, .int 0, .int 0, .int 0, .long 0, .int 0, .int 0, .int 0, .int 0, .ref m_readPlace, .ref m_script, .ref m_scriptLong, .int 0, .ref m_now, .ref m_refused, .int 0, .ref m_shareX, .ref m_shareY, .int 0, .int 0, .ref m_askedRow, .int 0, .ref m_kept, .int 0, .long 0, .ref m_aside, .int 0, .int 0, .ref m_spelled, .int 0, .ref m_image, .int 0]))]) [0] rfl
  refine pc_i (va_runV (As := [.int p1, .int 1, .int 9999, .int (-1)]) (rest := []) ⟨hx, hb, hml, hown, hts⟩ (d_whySet l E mo m_tape m_readPlace m_script m_scriptLong m_now m_refused m_shareX m_shareY m_askedRow m_kept m_aside m_spelled m_image p1 1 9999 (-1)) (cwV 4 hts g_d_whyNot_d_whySet_306 rfl rfl rfl (by decide +kernel) ⟨Nat.le_of_ble_eq_true rfl, Nat.le_of_ble_eq_true rfl⟩) ⟨pP.blind, va_recv hK hPc (ci := 9) (q0 := 0) rfl rfl, (pP.pre ⟨hK, hN⟩ hPc)⟩ rfl rfl hl.1 rfl (lv_room (Nat.le_of_ble_eq_true rfl)) dX8_whyNot_118 ⟨Nat.le_of_ble_eq_true rfl, Nat.le_of_ble_eq_true rfl⟩) (fun r_9 hr_9 => ?_)
  obtain rfl : r_9 = 0 := hr_9
  exact W.iret (v := 0) hx hb hr (fun tt ht hW => ⟨_, rfl, rfl, ht⟩) (fun _ h => by cases h) dX8_whyNot_121
