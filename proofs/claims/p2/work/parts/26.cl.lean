theorem dX0_read_0 : decode cX0_read 0 = .ok (.iload_n 2, 1) := by decide +kernel
theorem dX0_read_29 : decode cX0_read 29 = .ok (.ireturn, 1) := by decide +kernel
theorem dX0_read_1 : decode cX0_read 1 = .ok (.ifCond .lt 26, 3) := by decide +kernel
theorem dX0_read_27 : decode cX0_read 27 = .ok (.ldc 21, 2) := by decide +kernel
theorem dX0_read_4 : decode cX0_read 4 = .ok (.iload_n 2, 1) := by decide +kernel
theorem dX0_read_5 : decode cX0_read 5 = .ok (.iconst 3, 1) := by decide +kernel
theorem dX0_read_6 : decode cX0_read 6 = .ok (.if_icmp .ge 21, 3) := by decide +kernel
theorem dX0_read_9 : decode cX0_read 9 = .ok (.aload_n 0, 1) := by decide +kernel
theorem dX0_read_10 : decode cX0_read 10 = .ok (.getfield 11, 3) := by decide +kernel
theorem dX0_read_13 : decode cX0_read 13 = .ok (.iload_n 1, 1) := by decide +kernel
theorem dX0_read_14 : decode cX0_read 14 = .ok (.bipush 100, 2) := by decide +kernel
theorem dX0_read_16 : decode cX0_read 16 = .ok (.invokestatic 15, 3) := by decide +kernel
theorem dX0_read_19 : decode cX0_read 19 = .ok (.iconst 3, 1) := by decide +kernel
theorem dX0_read_20 : decode cX0_read 20 = .ok (.imul, 1) := by decide +kernel
theorem dX0_read_21 : decode cX0_read 21 = .ok (.iload_n 2, 1) := by decide +kernel
theorem dX0_read_22 : decode cX0_read 22 = .ok (.iadd, 1) := by decide +kernel
theorem dX0_read_23 : decode cX0_read 23 = .ok (.iaload, 1) := by decide +kernel
theorem dX0_read_24 : decode cX0_read 24 = .ok (.goto 5, 3) := by decide +kernel
theorem dX0_write_0 : decode cX0_write 0 = .ok (.iload_n 1, 1) := by decide +kernel
theorem dX0_write_1 : decode cX0_write 1 = .ok (.bipush 100, 2) := by decide +kernel
theorem dX0_write_3 : decode cX0_write 3 = .ok (.invokestatic 15, 3) := by decide +kernel
theorem dX0_write_6 : decode cX0_write 6 = .ok (.iconst 3, 1) := by decide +kernel
theorem dX0_write_7 : decode cX0_write 7 = .ok (.imul, 1) := by decide +kernel
theorem dX0_write_8 : decode cX0_write 8 = .ok (.istore 5, 2) := by decide +kernel
theorem dX0_write_10 : decode cX0_write 10 = .ok (.aload_n 0, 1) := by decide +kernel
theorem dX0_write_11 : decode cX0_write 11 = .ok (.getfield 11, 3) := by decide +kernel
theorem dX0_write_14 : decode cX0_write 14 = .ok (.iload 5, 2) := by decide +kernel
theorem dX0_write_16 : decode cX0_write 16 = .ok (.iload_n 2, 1) := by decide +kernel
theorem dX0_write_17 : decode cX0_write 17 = .ok (.iastore, 1) := by decide +kernel
theorem dX0_write_18 : decode cX0_write 18 = .ok (.aload_n 0, 1) := by decide +kernel
theorem dX0_write_19 : decode cX0_write 19 = .ok (.getfield 11, 3) := by decide +kernel
theorem dX0_write_22 : decode cX0_write 22 = .ok (.iload 5, 2) := by decide +kernel
theorem dX0_write_24 : decode cX0_write 24 = .ok (.iconst 1, 1) := by decide +kernel
theorem dX0_write_25 : decode cX0_write 25 = .ok (.iadd, 1) := by decide +kernel
theorem dX0_write_26 : decode cX0_write 26 = .ok (.iload_n 3, 1) := by decide +kernel
theorem dX0_write_27 : decode cX0_write 27 = .ok (.iastore, 1) := by decide +kernel
theorem dX0_write_28 : decode cX0_write 28 = .ok (.aload_n 0, 1) := by decide +kernel
theorem dX0_write_29 : decode cX0_write 29 = .ok (.getfield 11, 3) := by decide +kernel
theorem dX0_write_32 : decode cX0_write 32 = .ok (.iload 5, 2) := by decide +kernel
theorem dX0_write_34 : decode cX0_write 34 = .ok (.iconst 2, 1) := by decide +kernel
theorem dX0_write_35 : decode cX0_write 35 = .ok (.iadd, 1) := by decide +kernel
theorem dX0_write_36 : decode cX0_write 36 = .ok (.iload 4, 2) := by decide +kernel
theorem dX0_write_38 : decode cX0_write 38 = .ok (.iastore, 1) := by decide +kernel
theorem dX0_write_39 : decode cX0_write 39 = .ok (.return_, 1) := by decide +kernel
theorem dX0_copyFrom_0 : decode cX0_copyFrom 0 = .ok (.aload_n 1, 1) := by decide +kernel
theorem dX0_copyFrom_1 : decode cX0_copyFrom 1 = .ok (.getfield 11, 3) := by decide +kernel
theorem dX0_copyFrom_4 : decode cX0_copyFrom 4 = .ok (.iconst 0, 1) := by decide +kernel
theorem dX0_copyFrom_5 : decode cX0_copyFrom 5 = .ok (.aload_n 0, 1) := by decide +kernel
theorem dX0_copyFrom_6 : decode cX0_copyFrom 6 = .ok (.getfield 11, 3) := by decide +kernel
theorem dX0_copyFrom_9 : decode cX0_copyFrom 9 = .ok (.iconst 0, 1) := by decide +kernel
theorem dX0_copyFrom_10 : decode cX0_copyFrom 10 = .ok (.sipush 300, 3) := by decide +kernel
theorem dX0_copyFrom_13 : decode cX0_copyFrom 13 = .ok (.invokestatic 22, 3) := by decide +kernel
theorem dX0_copyFrom_16 : decode cX0_copyFrom 16 = .ok (.return_, 1) := by decide +kernel
theorem dX1_next_0 : decode cX1_next 0 = .ok (.aload_n 0, 1) := by decide +kernel
theorem dX1_next_1 : decode cX1_next 1 = .ok (.aload_n 0, 1) := by decide +kernel
theorem dX1_next_2 : decode cX1_next 2 = .ok (.getfield 9, 3) := by decide +kernel
theorem dX1_next_5 : decode cX1_next 5 = .ok (.ldc2_w 32, 3) := by decide +kernel
theorem dX1_next_8 : decode cX1_next 8 = .ok (.lmul, 1) := by decide +kernel
theorem dX1_next_9 : decode cX1_next 9 = .ok (.ldc2_w 34, 3) := by decide +kernel
theorem dX1_next_12 : decode cX1_next 12 = .ok (.ladd, 1) := by decide +kernel
theorem dX1_next_13 : decode cX1_next 13 = .ok (.putfield 9, 3) := by decide +kernel
theorem dX1_next_16 : decode cX1_next 16 = .ok (.iload_n 1, 1) := by decide +kernel
theorem dX1_next_35 : decode cX1_next 35 = .ok (.ireturn, 1) := by decide +kernel
theorem dX1_next_17 : decode cX1_next 17 = .ok (.ifCond .le 17, 3) := by decide +kernel
theorem dX1_next_34 : decode cX1_next 34 = .ok (.iconst 0, 1) := by decide +kernel
theorem dX1_next_20 : decode cX1_next 20 = .ok (.aload_n 0, 1) := by decide +kernel
theorem dX1_next_21 : decode cX1_next 21 = .ok (.getfield 9, 3) := by decide +kernel
theorem dX1_next_24 : decode cX1_next 24 = .ok (.bipush 33, 2) := by decide +kernel
theorem dX1_next_26 : decode cX1_next 26 = .ok (.lushr, 1) := by decide +kernel
theorem dX1_next_27 : decode cX1_next 27 = .ok (.iload_n 1, 1) := by decide +kernel
theorem dX1_next_28 : decode cX1_next 28 = .ok (.i2l, 1) := by decide +kernel
theorem dX1_next_29 : decode cX1_next 29 = .ok (.lrem, 1) := by decide +kernel
theorem dX1_next_30 : decode cX1_next 30 = .ok (.l2i, 1) := by decide +kernel
theorem dX1_next_31 : decode cX1_next 31 = .ok (.goto 4, 3) := by decide +kernel
theorem dX1_pickAct_0 : decode cX1_pickAct 0 = .ok (.aload_n 0, 1) := by decide +kernel
theorem dX1_pickAct_1 : decode cX1_pickAct 1 = .ok (.bipush 8, 2) := by decide +kernel
theorem dX1_pickAct_3 : decode cX1_pickAct 3 = .ok (.invokevirtual 28, 3) := by decide +kernel
theorem dX1_pickAct_6 : decode cX1_pickAct 6 = .ok (.istore_n 2, 1) := by decide +kernel
theorem dX1_pickAct_7 : decode cX1_pickAct 7 = .ok (.iload_n 2, 1) := by decide +kernel
theorem dX1_pickAct_8 : decode cX1_pickAct 8 = .ok (.bipush 7, 2) := by decide +kernel
theorem dX1_pickAct_10 : decode cX1_pickAct 10 = .ok (.if_icmp .ne 14, 3) := by decide +kernel
theorem dX1_pickAct_24 : decode cX1_pickAct 24 = .ok (.aload_n 0, 1) := by decide +kernel
theorem dX1_pickAct_25 : decode cX1_pickAct 25 = .ok (.aload_n 0, 1) := by decide +kernel
theorem dX1_pickAct_26 : decode cX1_pickAct 26 = .ok (.iload_n 1, 1) := by decide +kernel
theorem dX1_pickAct_27 : decode cX1_pickAct 27 = .ok (.invokevirtual 28, 3) := by decide +kernel
theorem dX1_pickAct_30 : decode cX1_pickAct 30 = .ok (.putfield 19, 3) := by decide +kernel
theorem dX1_pickAct_33 : decode cX1_pickAct 33 = .ok (.iload_n 2, 1) := by decide +kernel
theorem dX1_pickAct_34 : decode cX1_pickAct 34 = .ok (.bipush 6, 2) := by decide +kernel
theorem dX1_pickAct_36 : decode cX1_pickAct 36 = .ok (.if_icmp .ne 21, 3) := by decide +kernel
theorem dX1_pickAct_57 : decode cX1_pickAct 57 = .ok (.aload_n 0, 1) := by decide +kernel
theorem dX1_pickAct_58 : decode cX1_pickAct 58 = .ok (.iconst 0, 1) := by decide +kernel
theorem dX1_pickAct_59 : decode cX1_pickAct 59 = .ok (.putfield 15, 3) := by decide +kernel
theorem dX1_pickAct_62 : decode cX1_pickAct 62 = .ok (.aload_n 0, 1) := by decide +kernel
theorem dX1_pickAct_63 : decode cX1_pickAct 63 = .ok (.aload_n 0, 1) := by decide +kernel
theorem dX1_pickAct_64 : decode cX1_pickAct 64 = .ok (.bipush 21, 2) := by decide +kernel
theorem dX1_pickAct_66 : decode cX1_pickAct 66 = .ok (.invokevirtual 28, 3) := by decide +kernel
theorem dX1_pickAct_69 : decode cX1_pickAct 69 = .ok (.bipush 10, 2) := by decide +kernel
theorem dX1_pickAct_71 : decode cX1_pickAct 71 = .ok (.isub, 1) := by decide +kernel
theorem dX1_pickAct_72 : decode cX1_pickAct 72 = .ok (.putfield 22, 3) := by decide +kernel
theorem dX1_pickAct_75 : decode cX1_pickAct 75 = .ok (.aload_n 0, 1) := by decide +kernel
theorem dX1_pickAct_76 : decode cX1_pickAct 76 = .ok (.aload_n 0, 1) := by decide +kernel
theorem dX1_pickAct_77 : decode cX1_pickAct 77 = .ok (.bipush 21, 2) := by decide +kernel
theorem dX1_pickAct_79 : decode cX1_pickAct 79 = .ok (.invokevirtual 28, 3) := by decide +kernel
theorem dX1_pickAct_82 : decode cX1_pickAct 82 = .ok (.bipush 10, 2) := by decide +kernel
theorem dX1_pickAct_84 : decode cX1_pickAct 84 = .ok (.isub, 1) := by decide +kernel
theorem dX1_pickAct_85 : decode cX1_pickAct 85 = .ok (.putfield 25, 3) := by decide +kernel
theorem dX1_pickAct_88 : decode cX1_pickAct 88 = .ok (.return_, 1) := by decide +kernel
theorem dX1_pickAct_39 : decode cX1_pickAct 39 = .ok (.aload_n 0, 1) := by decide +kernel
theorem dX1_pickAct_40 : decode cX1_pickAct 40 = .ok (.iconst 4, 1) := by decide +kernel
theorem dX1_pickAct_41 : decode cX1_pickAct 41 = .ok (.putfield 15, 3) := by decide +kernel
theorem dX1_pickAct_44 : decode cX1_pickAct 44 = .ok (.aload_n 0, 1) := by decide +kernel
theorem dX1_pickAct_45 : decode cX1_pickAct 45 = .ok (.aload_n 0, 1) := by decide +kernel
theorem dX1_pickAct_46 : decode cX1_pickAct 46 = .ok (.bipush 9, 2) := by decide +kernel
theorem dX1_pickAct_48 : decode cX1_pickAct 48 = .ok (.invokevirtual 28, 3) := by decide +kernel
theorem dX1_pickAct_51 : decode cX1_pickAct 51 = .ok (.iconst 1, 1) := by decide +kernel
theorem dX1_pickAct_52 : decode cX1_pickAct 52 = .ok (.iadd, 1) := by decide +kernel
theorem dX1_pickAct_53 : decode cX1_pickAct 53 = .ok (.putfield 22, 3) := by decide +kernel
theorem dX1_pickAct_56 : decode cX1_pickAct 56 = .ok (.return_, 1) := by decide +kernel
theorem dX1_pickAct_13 : decode cX1_pickAct 13 = .ok (.aload_n 0, 1) := by decide +kernel
theorem dX1_pickAct_14 : decode cX1_pickAct 14 = .ok (.iconst 1, 1) := by decide +kernel
theorem dX1_pickAct_15 : decode cX1_pickAct 15 = .ok (.putfield 15, 3) := by decide +kernel
theorem dX1_pickAct_18 : decode cX1_pickAct 18 = .ok (.aload_n 0, 1) := by decide +kernel
theorem dX1_pickAct_19 : decode cX1_pickAct 19 = .ok (.iconst (-1), 1) := by decide +kernel
theorem dX1_pickAct_20 : decode cX1_pickAct 20 = .ok (.putfield 19, 3) := by decide +kernel
theorem dX1_pickAct_23 : decode cX1_pickAct 23 = .ok (.return_, 1) := by decide +kernel
def v_b_read : List Cond := .code yX0_read cX0_read 3 (some .int) :: ([.constant RX0 21 (-100000000), .fieldLink RX0 11 "HushWatch$Book" "lines" "[I", .methodLink RX0 15 yJ9_floorMod_7cf53, .static yJ9_floorMod_7cf53, .initialized RJ9] ++ (wsX00 ++ (v_j_floorMod100 ++ ([]))))
theorem gw_b_read : v_b_read.all goodWord = true := by decide +kernel
theorem i_b_read_X0 : ∀ w ∈ wsX00, w ∈ v_b_read := fun _ h => List.mem_cons_of_mem _ (List.mem_append_right _ (List.mem_append_left _ h))
theorem g_b_read_j_floorMod100_15 : GoodIn v_b_read (va_wsS RX0 15 yJ9_floorMod_7cf53 v_j_floorMod100) := goodIn_app (goodIn_of _ (by decide +kernel)) (goodIn_sub (fun _ h => List.mem_cons_of_mem _ (List.mem_append_right _ (List.mem_append_right _ (List.mem_append_left _ h)))) gw_j_floorMod100)
set_option maxHeartbeats 4000000 in
set_option maxRecDepth 100000 in
theorem b_read (l : Launch) (E : EE) (h b1 : Nat) (fb : Nat → Int32) (p0 p1 : Int32) : Met l yX0_read v_b_read ({ frames := 1, cells := 0, slots := 0, locals := 22 }) (va_Pc [.ref h, .int p0, .int p1] (pP E [(h, .inr (1, [.ref b1])), (b1, .inl (E.2.1, 300, .inl fb))])) (vp_Si (fun r : Int32 => True)) 0 0 (fun _ => False) := by
  refine Met.ofW (cc := cX0_read) (maxL := 3) (ret := (some .int)) (by decide) rfl ?_
  intro p e s m args below meth c s₁ B hml hv
  obtain ⟨rfl, ⟨hK, hN⟩, hP⟩ := hv
  have hx := B.exec
  have hb := B.bytes
  have hr := B.returns
  have hts := atoms_spec (ws := v_b_read) B.pre
  have hown : s.vm.findClass RX0 = some m.cls := findClass_of_methodNamed B.named
  have hlocks := B.notSynchronized
  have hP : va_P E.1 vwCl [(h, .inr (1, [.ref b1])), (b1, .inl (E.2.1, 300, .inl fb))] s.heap := hP
  have hl := lv_entry ([.ref h, .int p0, .int p1]) (n := 3) (Nat.le_of_ble_eq_true rfl)
  rw [lg_entry_eq]
  generalize (lg_sl ([.ref h, .int p0, .int p1]) ++ List.replicate (3 - (lg_sl ([.ref h, .int p0, .int p1])).length) Slot.unset).toArray = ls at hl ⊢
  have hl : lv_has ls 3 [(0, .ref h), (1, .int p0), (2, .int p1)] := hl
  obtain ⟨Q, hQ⟩ : ∃ Q : State → Prop, Q = MQ below (vp_Si (fun r : Int32 => True)) #[Value.ref h, Value.int p0, Value.int p1] s 0 0 (fun _ => False) := ⟨_, rfl⟩
  rw [← hQ]
  change W p l e ({ frames := 1, cells := 0, slots := 0, locals := 22 } : Room) s m #[Value.ref h, Value.int p0, Value.int p1] below meth c s.heap [] 0 0 Q (F0 m 0 ls [])
  refine lv_iload_n hx hb dX0_read_0 rfl (lv_at hl 2 rfl) ?_
  have K_18 : ∀ (y_17 : Int32), ∀ (ls : Array Slot), lv_has ls 3 [(0, .ref h), (1, .int p0), (2, .int p1)] → W p l e ({ frames := 1, cells := 0, slots := 0, locals := 22 } : Room) s m #[Value.ref h, Value.int p0, Value.int p1] below meth c s.heap [] 0 0 Q (F0 m 29 ls [.int y_17]) := by
    intro y_17 ls hl
    rw [hQ]
    exact W.iret (v := y_17) hx hb hr (fun tt ht hW => ⟨_, rfl, trivial, ht⟩) (fun _ h => by cases h) dX0_read_29
  refine lv_if_lt (tgt := 27) hx hb dX0_read_1 (by decide) (fun c_1 => ?_) (fun c_1 => ?_)
  ·
    refine lv_ldc (v := -100000000) hx hb hown (hts (.constant RX0 21 (-100000000)) (List.mem_of_getElem? (i := 1) rfl)) dX0_read_27 ?_
    exact K_18 (-100000000) ls  (lv_sub hl [0, 1, 2] rfl)
  ·
    refine lv_iload_n hx hb dX0_read_4 rfl (lv_at hl 2 rfl) ?_
    refine lv_iconst (v := 3) hx hb dX0_read_5 (by decide) ?_
    have K_27 : ∀ (y_26 : Int32), ∀ (ls : Array Slot), lv_has ls 3 [(0, .ref h), (1, .int p0), (2, .int p1)] → W p l e ({ frames := 1, cells := 0, slots := 0, locals := 22 } : Room) s m #[Value.ref h, Value.int p0, Value.int p1] below meth c s.heap [] 0 0 Q (F0 m 29 ls [.int y_26]) := by
      intro y_26 ls hl
      exact K_18 y_26 ls  (lv_sub hl [0, 1, 2] rfl)
    refine lv_icmp_ge (tgt := 27) hx hb dX0_read_6 (by decide) (fun c_19 => ?_) (fun c_19 => ?_)
    ·
      refine lv_ldc (v := -100000000) hx hb hown (hts (.constant RX0 21 (-100000000)) (List.mem_of_getElem? (i := 1) rfl)) dX0_read_27 ?_
      exact K_27 (-100000000) ls  (lv_sub hl [0, 1, 2] rfl)
    ·
      obtain ⟨j_28, hj_28, ej_28⟩ : ∃ j : Nat, j ≤ 2 ∧ p1 = nI j := nat_rng (by have t0 : (0 : Int32).toInt = 0 := (by decide); have t1 : (2 : Int32).toInt = 2 := (by decide); have t2 : (3 : Int32).toInt = 3 := (by decide); simp only [Int32.lt_iff_toInt_lt, Int32.le_iff_toInt_le, ge_iff_le, gt_iff_lt, ne_eq, ← Int32.toInt_inj, t0, t1, t2] at c_1 c_19 ⊢; omega)
      refine lv_aload_n hx hb dX0_read_9 rfl (lv_at hl 0 rfl) ?_
      refine va_get (D := E.1) (ci := 1) (v := .ref b1) (C := RX0) (T := TX0) (N := 1) hx hb hts i_b_read_X0 hown hK hP 0 rfl rfl 0 (by decide) (hts (.fieldLink RX0 11 "HushWatch$Book" "lines" "[I") (List.mem_of_getElem? (i := 2) rfl)) (fun _ h9 => h9) rfl dX0_read_10 ?_
      refine lv_iload_n hx hb dX0_read_13 rfl (lv_at hl 1 rfl) ?_
      refine lv_bipush (v := 100) hx hb dX0_read_14 (by decide) ?_
      have hPc : va_P E.1 vwCl [] s.heap := fun k q h => by simp at h
      refine pc_i (va_runS (As := [.int p0, .int 100]) (rest := [.ref b1]) ⟨hx, hb, hml, hown, hts⟩ (j_floorMod100 l E p0) (va_cwS 2 hts g_b_read_j_floorMod100_15 rfl rfl rfl (by decide +kernel) ⟨Nat.le_of_ble_eq_true rfl, Nat.le_of_ble_eq_true rfl⟩) ⟨pP.blind, (pP.pre ⟨hK, hN⟩ hPc)⟩ rfl rfl hl.1 rfl (lv_room (Nat.le_of_ble_eq_true rfl)) dX0_read_16 ⟨Nat.le_of_ble_eq_true rfl, Nat.le_of_ble_eq_true rfl⟩) (fun r_29 hr_29 => ?_)
      obtain ⟨k_30, hk_30, rfl⟩ := hr_29
      refine lv_iconst (v := 3) hx hb dX0_read_19 (by decide) ?_
      refine lv_imul hx hb dX0_read_20 ?_
      refine lv_topi (fun z_31 ez_31 => ?_)
      obtain rfl : z_31 = nI (k_30 * 3) := ez_31.trans (nI_mul _ 3)
      refine lv_iload_n hx hb dX0_read_21 rfl (lv_at hl 2 rfl) ?_
      refine W.eq (g2 := F0 m 22 ls [.int (nI j_28), .int (nI (k_30 * 3)), .ref b1]) (by rw [ej_28]) ?_
      refine lv_iadd hx hb dX0_read_22 ?_
      refine lv_topi (fun z_32 ez_32 => ?_)
      obtain rfl : z_32 = nI (k_30 * 3 + j_28) := ez_32.trans (nI_add _ _)
      refine va_iald hx hb hK hP 1 0 rfl rfl (vp_in_nI (by omega) (by decide)) dX0_read_23 ?_
      refine lv_topi (fun z_33 ez_33 => ?_)
      refine lv_goto (tgt := 29) hx hb dX0_read_24 (by decide) ?_
      exact K_27 z_33 ls  (lv_sub hl [0, 1, 2] rfl)

def v_b_write : List Cond := .code yX0_write cX0_write 6 none :: ([.fieldLink RX0 11 "HushWatch$Book" "lines" "[I", .methodLink RX0 15 yJ9_floorMod_7cf53, .static yJ9_floorMod_7cf53, .initialized RJ9] ++ (v_j_floorMod100 ++ (wsX00 ++ ([]))))
theorem gw_b_write : v_b_write.all goodWord = true := by decide +kernel
theorem i_b_write_X0 : ∀ w ∈ wsX00, w ∈ v_b_write := fun _ h => List.mem_cons_of_mem _ (List.mem_append_right _ (List.mem_append_right _ (List.mem_append_left _ h)))
theorem g_b_write_j_floorMod100_15 : GoodIn v_b_write (va_wsS RX0 15 yJ9_floorMod_7cf53 v_j_floorMod100) := goodIn_app (goodIn_of _ (by decide +kernel)) (goodIn_sub (fun _ h => List.mem_cons_of_mem _ (List.mem_append_right _ (List.mem_append_left _ h))) gw_j_floorMod100)
set_option maxHeartbeats 4000000 in
set_option maxRecDepth 100000 in
theorem b_write (l : Launch) (E : EE) (sz : Nat) (h b1 : Nat) (fb : Nat → Int32) (p0 p1 p2 p3 : Int32) : Met l yX0_write v_b_write ({ frames := 1, cells := 0, slots := 0, locals := 22 }) (va_Pc [.ref h, .int p0, .int p1, .int p2, .int p3] (pW E sz [(h, .inr (1, [.ref b1])), (b1, .inl (E.2.1, 300, .inl fb))])) (va_Qv (fun (fb1 : Nat → Int32) => True) (fun (fb1 : Nat → Int32) tt => va_P E.1 vwCl [(h, .inr (1, [.ref b1])), (b1, .inl (E.2.1, 300, .inl fb1))] tt.heap ∧ va_D (va_A [(h, .inr (1, [.ref b1])), (b1, .inl (E.2.1, 300, .inl fb))] sz) [(h, .inr (1, [.ref b1])), (b1, .inl (E.2.1, 300, .inl fb1))]) (va_A [(h, .inr (1, [.ref b1])), (b1, .inl (E.2.1, 300, .inl fb))] sz)) 0 0 (va_A [(h, .inr (1, [.ref b1])), (b1, .inl (E.2.1, 300, .inl fb))] sz) := by
  refine Met.ofW (cc := cX0_write) (maxL := 6) (ret := none) (by decide) rfl ?_
  intro p e s m args below meth c s₁ B hml hv
  obtain ⟨rfl, hsz, ⟨hK, hN⟩, hP, hD0⟩ := hv
  have hx := B.exec
  have hb := B.bytes
  have hr := B.returns
  have hts := atoms_spec (ws := v_b_write) B.pre
  have hown : s.vm.findClass RX0 = some m.cls := findClass_of_methodNamed B.named
  have hlocks := B.notSynchronized
  subst hsz
  have hD := hD0.self (sz := s.heap.size)
  generalize hAe : va_A [(h, .inr (1, [.ref b1])), (b1, .inl (E.2.1, 300, .inl fb))] s.heap.size = A at hD ⊢
  have hA : ∀ q : Nat, s.heap.size ≤ q → A q := fun q h => by rw [← hAe]; exact Or.inr h
  have hS : va_S A s.heap s.heap [] := va_S.rf
  have hP : va_P E.1 vwCl [(h, .inr (1, [.ref b1])), (b1, .inl (E.2.1, 300, .inl fb))] s.heap := hP
  have hl := lv_entry ([.ref h, .int p0, .int p1, .int p2, .int p3]) (n := 6) (Nat.le_of_ble_eq_true rfl)
  rw [lg_entry_eq]
  generalize (lg_sl ([.ref h, .int p0, .int p1, .int p2, .int p3]) ++ List.replicate (6 - (lg_sl ([.ref h, .int p0, .int p1, .int p2, .int p3])).length) Slot.unset).toArray = ls at hl ⊢
  have hl : lv_has ls 6 [(0, .ref h), (1, .int p0), (2, .int p1), (3, .int p2), (4, .int p3)] := hl
  obtain ⟨Q, hQ⟩ : ∃ Q : State → Prop, Q = MQ below (va_Qv (fun (fb1 : Nat → Int32) => True) (fun (fb1 : Nat → Int32) tt => va_P E.1 vwCl [(h, .inr (1, [.ref b1])), (b1, .inl (E.2.1, 300, .inl fb1))] tt.heap ∧ va_D A [(h, .inr (1, [.ref b1])), (b1, .inl (E.2.1, 300, .inl fb1))]) A) #[Value.ref h, Value.int p0, Value.int p1, Value.int p2, Value.int p3] s 0 0 A := ⟨_, rfl⟩
  rw [← hQ]
  change W p l e ({ frames := 1, cells := 0, slots := 0, locals := 22 } : Room) s m #[Value.ref h, Value.int p0, Value.int p1, Value.int p2, Value.int p3] below meth c s.heap [] 0 0 Q (F0 m 0 ls [])
  refine lv_iload_n hx hb dX0_write_0 rfl (lv_at hl 1 rfl) ?_
  refine lv_bipush (v := 100) hx hb dX0_write_1 (by decide) ?_
  have hPc : va_P E.1 vwCl [] s.heap := fun k q h => by simp at h
  refine pc_i (va_runS (As := [.int p0, .int 100]) (rest := []) ⟨hx, hb, hml, hown, hts⟩ (j_floorMod100 l E p0) (va_cwS 2 hts g_b_write_j_floorMod100_15 rfl rfl rfl (by decide +kernel) ⟨Nat.le_of_ble_eq_true rfl, Nat.le_of_ble_eq_true rfl⟩) ⟨pP.blind, (pP.pre ⟨hK, hN⟩ hPc)⟩ rfl rfl hl.1 rfl (lv_room (Nat.le_of_ble_eq_true rfl)) dX0_write_3 ⟨Nat.le_of_ble_eq_true rfl, Nat.le_of_ble_eq_true rfl⟩) (fun r_1 hr_1 => ?_)
  obtain ⟨k_2, hk_2, rfl⟩ := hr_1
  refine lv_iconst (v := 3) hx hb dX0_write_6 (by decide) ?_
  refine lv_imul hx hb dX0_write_7 ?_
  refine lv_topi (fun z_3 ez_3 => ?_)
  obtain rfl : z_3 = nI (k_2 * 3) := ez_3.trans (nI_mul _ 3)
  refine lv_istore (lv' := [(5, .int (nI (k_2 * 3))), (0, .ref h), (1, .int p0), (2, .int p1), (3, .int p2), (4, .int p3)]) hx hb dX0_write_8 hl (by decide) rfl (fun ls hl => ?_)
  refine lv_aload_n hx hb dX0_write_10 rfl (lv_at hl 1 rfl) ?_
  refine va_get (D := E.1) (ci := 1) (v := .ref b1) (C := RX0) (T := TX0) (N := 1) hx hb hts i_b_write_X0 hown hK hP 0 rfl rfl 0 (by decide) (hts (.fieldLink RX0 11 "HushWatch$Book" "lines" "[I") (List.mem_of_getElem? (i := 1) rfl)) (fun _ h9 => h9) rfl dX0_write_11 ?_
  refine lv_iload hx hb dX0_write_14 (lv_at hl 0 rfl) ?_
  refine lv_iload_n hx hb dX0_write_16 rfl (lv_at hl 3 rfl) ?_
  refine va_iast hx hb hK hP hD hS 1 0 rfl rfl (vp_in_nI (by omega) (by decide)) dX0_write_17 (fun H locs hP hD hS => ?_)
  have hP : va_P E.1 vwCl [(h, .inr (1, [.ref b1])), (b1, .inl (E.2.1, 300, .inl (upd fb (nI (k_2 * 3) : Int32).toNatClampNeg p1)))] H := hP
  have hD : va_D A [(h, .inr (1, [.ref b1])), (b1, .inl (E.2.1, 300, .inl (upd fb (nI (k_2 * 3) : Int32).toNatClampNeg p1)))] := hD
  obtain ⟨f_4, hf_4⟩ : ∃ g : Nat → Int32, g = upd fb (nI (k_2 * 3) : Int32).toNatClampNeg p1 := ⟨_, rfl⟩
  rw [← hf_4] at hP hD
  refine lv_aload_n hx hb dX0_write_18 rfl (lv_at hl 1 rfl) ?_
  refine va_get (D := E.1) (ci := 1) (v := .ref b1) (C := RX0) (T := TX0) (N := 1) hx hb hts i_b_write_X0 hown hK hP 0 rfl rfl 0 (by decide) (hts (.fieldLink RX0 11 "HushWatch$Book" "lines" "[I") (List.mem_of_getElem? (i := 1) rfl)) (fun _ h9 => h9) rfl dX0_write_19 ?_
  refine lv_iload hx hb dX0_write_22 (lv_at hl 0 rfl) ?_
  refine lv_iconst (v := 1) hx hb dX0_write_24 (by decide) ?_
  refine lv_iadd hx hb dX0_write_25 ?_
  refine lv_topi (fun z_5 ez_5 => ?_)
  obtain rfl : z_5 = nI (k_2 * 3 + 1) := ez_5.trans (nI_add _ 1)
  refine lv_iload_n hx hb dX0_write_26 rfl (lv_at hl 4 rfl) ?_
  refine va_iast hx hb hK hP hD hS 1 0 rfl rfl (vp_in_nI (by omega) (by decide)) dX0_write_27 (fun H locs hP hD hS => ?_)
  have hP : va_P E.1 vwCl [(h, .inr (1, [.ref b1])), (b1, .inl (E.2.1, 300, .inl (upd f_4 (nI (k_2 * 3 + 1) : Int32).toNatClampNeg p2)))] H := hP
  have hD : va_D A [(h, .inr (1, [.ref b1])), (b1, .inl (E.2.1, 300, .inl (upd f_4 (nI (k_2 * 3 + 1) : Int32).toNatClampNeg p2)))] := hD
  obtain ⟨f_6, hf_6⟩ : ∃ g : Nat → Int32, g = upd f_4 (nI (k_2 * 3 + 1) : Int32).toNatClampNeg p2 := ⟨_, rfl⟩
  rw [← hf_6] at hP hD
  refine lv_aload_n hx hb dX0_write_28 rfl (lv_at hl 1 rfl) ?_
  refine va_get (D := E.1) (ci := 1) (v := .ref b1) (C := RX0) (T := TX0) (N := 1) hx hb hts i_b_write_X0 hown hK hP 0 rfl rfl 0 (by decide) (hts (.fieldLink RX0 11 "HushWatch$Book" "lines" "[I") (List.mem_of_getElem? (i := 1) rfl)) (fun _ h9 => h9) rfl dX0_write_29 ?_
  refine lv_iload hx hb dX0_write_32 (lv_at hl 0 rfl) ?_
  refine lv_iconst (v := 2) hx hb dX0_write_34 (by decide) ?_
  refine lv_iadd hx hb dX0_write_35 ?_
  refine lv_topi (fun z_7 ez_7 => ?_)
  obtain rfl : z_7 = nI (k_2 * 3 + 2) := ez_7.trans (nI_add _ 2)
  refine lv_iload hx hb dX0_write_36 (lv_at hl 5 rfl) ?_
  refine va_iast hx hb hK hP hD hS 1 0 rfl rfl (vp_in_nI (by omega) (by decide)) dX0_write_38 (fun H locs hP hD hS => ?_)
  have hP : va_P E.1 vwCl [(h, .inr (1, [.ref b1])), (b1, .inl (E.2.1, 300, .inl (upd f_6 (nI (k_2 * 3 + 2) : Int32).toNatClampNeg p3)))] H := hP
  have hD : va_D A [(h, .inr (1, [.ref b1])), (b1, .inl (E.2.1, 300, .inl (upd f_6 (nI (k_2 * 3 + 2) : Int32).toNatClampNeg p3)))] := hD
  obtain ⟨f_8, hf_8⟩ : ∃ g : Nat → Int32, g = upd f_6 (nI (k_2 * 3 + 2) : Int32).toNatClampNeg p3 := ⟨_, rfl⟩
  rw [← hf_8] at hP hD
  rw [hQ]
  have hP9 := hP.sub (ws' := [(h, .inr (1, [.ref b1])), (b1, .inl (E.2.1, 300, .inl f_8))]) [0, 1] rfl
  have hD9 := hD.sub (ws' := [(h, .inr (1, [.ref b1])), (b1, .inl (E.2.1, 300, .inl f_8))]) [0, 1] (by decide) rfl
  exact W.vret hx hb hr (fun tt ht hW => ⟨⟨f_8, rfl, trivial, by rw [ht]; exact hP9, hD9⟩, hS.F ht⟩) hS.2.2 dX0_write_39

def v_b_copyFrom : List Cond := .code yX0_copyFrom cX0_copyFrom 2 none :: ([.fieldLink RX0 11 "HushWatch$Book" "lines" "[I", .methodLink RX0 22 arraycopyName, .native arraycopyName, .static arraycopyName, .initialized "java/lang/System"] ++ (wsX00 ++ ([])))
theorem gw_b_copyFrom : v_b_copyFrom.all goodWord = true := by decide +kernel
theorem i_b_copyFrom_X0 : ∀ w ∈ wsX00, w ∈ v_b_copyFrom := fun _ h => List.mem_cons_of_mem _ (List.mem_append_right _ (List.mem_append_left _ h))
set_option maxHeartbeats 4000000 in
set_option maxRecDepth 100000 in
theorem b_copyFrom (l : Launch) (E : EE) (sz : Nat) (h b1 h2 b2 : Nat) (fb fc : Nat → Int32) : Met l yX0_copyFrom v_b_copyFrom ({ frames := 1, cells := 0, slots := 0, locals := 60 }) (va_Pc [.ref h, .ref h2] (pW E sz [(h, .inr (1, [.ref b1])), (b1, .inl (E.2.1, 300, .inl fb)), (h2, .inr (1, [.ref b2])), (b2, .inl (E.2.1, 300, .inl fc))])) (va_Qv (fun (fb1 : Nat → Int32) => True) (fun (fb1 : Nat → Int32) tt => va_P E.1 vwCl [(h, .inr (1, [.ref b1])), (b1, .inl (E.2.1, 300, .inl fb1)), (h2, .inr (1, [.ref b2])), (b2, .inl (E.2.1, 300, .inl fc))] tt.heap ∧ va_D (va_A [(h, .inr (1, [.ref b1])), (b1, .inl (E.2.1, 300, .inl fb)), (h2, .inr (1, [.ref b2])), (b2, .inl (E.2.1, 300, .inl fc))] sz) [(h, .inr (1, [.ref b1])), (b1, .inl (E.2.1, 300, .inl fb1)), (h2, .inr (1, [.ref b2])), (b2, .inl (E.2.1, 300, .inl fc))]) (va_A [(h, .inr (1, [.ref b1])), (b1, .inl (E.2.1, 300, .inl fb)), (h2, .inr (1, [.ref b2])), (b2, .inl (E.2.1, 300, .inl fc))] sz)) 0 0 (va_A [(h, .inr (1, [.ref b1])), (b1, .inl (E.2.1, 300, .inl fb)), (h2, .inr (1, [.ref b2])), (b2, .inl (E.2.1, 300, .inl fc))] sz) := by
  refine Met.ofW (cc := cX0_copyFrom) (maxL := 2) (ret := none) (by decide) rfl ?_
  intro p e s m args below meth c s₁ B hml hv
  obtain ⟨rfl, hsz, ⟨hK, hN⟩, hP, hD0⟩ := hv
  have hx := B.exec
  have hb := B.bytes
  have hr := B.returns
  have hts := atoms_spec (ws := v_b_copyFrom) B.pre
  have hown : s.vm.findClass RX0 = some m.cls := findClass_of_methodNamed B.named
  have hlocks := B.notSynchronized
  subst hsz
  have hD := hD0.self (sz := s.heap.size)
  generalize hAe : va_A [(h, .inr (1, [.ref b1])), (b1, .inl (E.2.1, 300, .inl fb)), (h2, .inr (1, [.ref b2])), (b2, .inl (E.2.1, 300, .inl fc))] s.heap.size = A at hD ⊢
  have hA : ∀ q : Nat, s.heap.size ≤ q → A q := fun q h => by rw [← hAe]; exact Or.inr h
  have hS : va_S A s.heap s.heap [] := va_S.rf
  have hP : va_P E.1 vwCl [(h, .inr (1, [.ref b1])), (b1, .inl (E.2.1, 300, .inl fb)), (h2, .inr (1, [.ref b2])), (b2, .inl (E.2.1, 300, .inl fc))] s.heap := hP
  have hl := lv_entry ([.ref h, .ref h2]) (n := 2) (Nat.le_of_ble_eq_true rfl)
  rw [lg_entry_eq]
  generalize (lg_sl ([.ref h, .ref h2]) ++ List.replicate (2 - (lg_sl ([.ref h, .ref h2])).length) Slot.unset).toArray = ls at hl ⊢
  have hl : lv_has ls 2 [(0, .ref h), (1, .ref h2)] := hl
  obtain ⟨Q, hQ⟩ : ∃ Q : State → Prop, Q = MQ below (va_Qv (fun (fb1 : Nat → Int32) => True) (fun (fb1 : Nat → Int32) tt => va_P E.1 vwCl [(h, .inr (1, [.ref b1])), (b1, .inl (E.2.1, 300, .inl fb1)), (h2, .inr (1, [.ref b2])), (b2, .inl (E.2.1, 300, .inl fc))] tt.heap ∧ va_D A [(h, .inr (1, [.ref b1])), (b1, .inl (E.2.1, 300, .inl fb1)), (h2, .inr (1, [.ref b2])), (b2, .inl (E.2.1, 300, .inl fc))]) A) #[Value.ref h, Value.ref h2] s 0 0 A := ⟨_, rfl⟩
  rw [← hQ]
  change W p l e ({ frames := 1, cells := 0, slots := 0, locals := 60 } : Room) s m #[Value.ref h, Value.ref h2] below meth c s.heap [] 0 0 Q (F0 m 0 ls [])
  refine lv_aload_n hx hb dX0_copyFrom_0 rfl (lv_at hl 1 rfl) ?_
  refine va_get (D := E.1) (ci := 1) (v := .ref b2) (C := RX0) (T := TX0) (N := 1) hx hb hts i_b_copyFrom_X0 hown hK hP 2 rfl rfl 0 (by decide) (hts (.fieldLink RX0 11 "HushWatch$Book" "lines" "[I") (List.mem_of_getElem? (i := 1) rfl)) (fun _ h9 => h9) rfl dX0_copyFrom_1 ?_
  refine lv_iconst (v := 0) hx hb dX0_copyFrom_4 (by decide) ?_
  refine lv_aload_n hx hb dX0_copyFrom_5 rfl (lv_at hl 0 rfl) ?_
  refine va_get (D := E.1) (ci := 1) (v := .ref b1) (C := RX0) (T := TX0) (N := 1) hx hb hts i_b_copyFrom_X0 hown hK hP 0 rfl rfl 0 (by decide) (hts (.fieldLink RX0 11 "HushWatch$Book" "lines" "[I") (List.mem_of_getElem? (i := 1) rfl)) (fun _ h9 => h9) rfl dX0_copyFrom_6 ?_
  refine lv_iconst (v := 0) hx hb dX0_copyFrom_9 (by decide) ?_
  refine lv_sipush (v := 300) hx hb dX0_copyFrom_10 (by decide) ?_
  refine va_copyi hx hb (hml.trans hl.1.symm) hown (hts (.methodLink RX0 22 arraycopyName) (List.mem_of_getElem? (i := 2) rfl)) (hts (.native arraycopyName) (List.mem_of_getElem? (i := 3) rfl)) (hts (.static arraycopyName) (List.mem_of_getElem? (i := 4) rfl)) (hts (.initialized "java/lang/System") (List.mem_of_getElem? (i := 5) rfl)) hK hP hD hS 3 1 0 0 rfl rfl rfl rfl rfl (by decide) (by decide) (by decide) (by decide) (by decide) (fun _ _ => rfl) (Nat.le_of_ble_eq_true rfl) (Nat.le_of_ble_eq_true rfl) dX0_copyFrom_13 (fun H locs hP hD hS => ?_)
  have hP : va_P E.1 vwCl [(h, .inr (1, [.ref b1])), (b1, .inl (E.2.1, 300, .inl (va_cpy fc fb (0 : Int32).toNatClampNeg (0 : Int32).toNatClampNeg (300 : Int32).toNatClampNeg))), (h2, .inr (1, [.ref b2])), (b2, .inl (E.2.1, 300, .inl fc))] H := hP
  have hD : va_D A [(h, .inr (1, [.ref b1])), (b1, .inl (E.2.1, 300, .inl (va_cpy fc fb (0 : Int32).toNatClampNeg (0 : Int32).toNatClampNeg (300 : Int32).toNatClampNeg))), (h2, .inr (1, [.ref b2])), (b2, .inl (E.2.1, 300, .inl fc))] := hD
  obtain ⟨f_1, hf_1⟩ : ∃ g : Nat → Int32, g = va_cpy fc fb (0 : Int32).toNatClampNeg (0 : Int32).toNatClampNeg (300 : Int32).toNatClampNeg := ⟨_, rfl⟩
  rw [← hf_1] at hP hD
  rw [hQ]
  have hP9 := hP.sub (ws' := [(h, .inr (1, [.ref b1])), (b1, .inl (E.2.1, 300, .inl f_1)), (h2, .inr (1, [.ref b2])), (b2, .inl (E.2.1, 300, .inl fc))]) [0, 1, 2, 3] rfl
  have hD9 := hD.sub (ws' := [(h, .inr (1, [.ref b1])), (b1, .inl (E.2.1, 300, .inl f_1)), (h2, .inr (1, [.ref b2])), (b2, .inl (E.2.1, 300, .inl fc))]) [0, 1, 2, 3] (by decide) rfl
  exact W.vret hx hb hr (fun tt ht hW => ⟨⟨f_1, rfl, trivial, by rw [ht]; exact hP9, hD9⟩, hS.F ht⟩) hS.2.2 dX0_copyFrom_16

def v_d_next : List Cond := .code yX1_next cX1_next 2 (some .int) :: ([.fieldLink RX1 9 "HushWatch$Draws" "x" "J", .constantLong RX1 32 (6364136223846793005), .constantLong RX1 34 (1442695040888963407)] ++ (wsX10 ++ ([])))
theorem gw_d_next : v_d_next.all goodWord = true := by decide +kernel
theorem i_d_next_X1 : ∀ w ∈ wsX10, w ∈ v_d_next := fun _ h => List.mem_cons_of_mem _ (List.mem_append_right _ (List.mem_append_left _ h))
set_option maxHeartbeats 4000000 in
set_option maxRecDepth 100000 in
theorem d_next (l : Launch) (E : EE) (sz : Nat) (h : Nat) (dx : Int64) (d1 d2 d3 d4 : Int32) (p0 : Int32) : Met l yX1_next v_d_next ({ frames := 0, cells := 0, slots := 0, locals := 0 }) (va_Pc [.ref h, .int p0] (pW E sz [(h, .inr (2, [.long dx, .int d1, .int d2, .int d3, .int d4]))])) (va_Qi (fun (r : Int32) (dx1 : Int64) => (True)) (fun (dx1 : Int64) tt => va_P E.1 vwCl [(h, .inr (2, [.long dx1, .int d1, .int d2, .int d3, .int d4]))] tt.heap ∧ va_D (va_A [(h, .inr (2, [.long dx, .int d1, .int d2, .int d3, .int d4]))] sz) [(h, .inr (2, [.long dx1, .int d1, .int d2, .int d3, .int d4]))]) (va_A [(h, .inr (2, [.long dx, .int d1, .int d2, .int d3, .int d4]))] sz)) 0 0 (va_A [(h, .inr (2, [.long dx, .int d1, .int d2, .int d3, .int d4]))] sz) := by
  refine Met.ofW (cc := cX1_next) (maxL := 2) (ret := (some .int)) (by decide) rfl ?_
  intro p e s m args below meth c s₁ B hml hv
  obtain ⟨rfl, hsz, ⟨hK, hN⟩, hP, hD0⟩ := hv
  have hx := B.exec
  have hb := B.bytes
  have hr := B.returns
  have hts := atoms_spec (ws := v_d_next) B.pre
  have hown : s.vm.findClass RX1 = some m.cls := findClass_of_methodNamed B.named
  have hlocks := B.notSynchronized
  subst hsz
  have hD := hD0.self (sz := s.heap.size)
  generalize hAe : va_A [(h, .inr (2, [.long dx, .int d1, .int d2, .int d3, .int d4]))] s.heap.size = A at hD ⊢
  have hA : ∀ q : Nat, s.heap.size ≤ q → A q := fun q h => by rw [← hAe]; exact Or.inr h
  have hS : va_S A s.heap s.heap [] := va_S.rf
  have hP : va_P E.1 vwCl [(h, .inr (2, [.long dx, .int d1, .int d2, .int d3, .int d4]))] s.heap := hP
  have hl := lv_entry ([.ref h, .int p0]) (n := 2) (Nat.le_of_ble_eq_true rfl)
  rw [lg_entry_eq]
  generalize (lg_sl ([.ref h, .int p0]) ++ List.replicate (2 - (lg_sl ([.ref h, .int p0])).length) Slot.unset).toArray = ls at hl ⊢
  have hl : lv_has ls 2 [(0, .ref h), (1, .int p0)] := hl
  obtain ⟨Q, hQ⟩ : ∃ Q : State → Prop, Q = MQ below (va_Qi (fun (r : Int32) (dx1 : Int64) => (True)) (fun (dx1 : Int64) tt => va_P E.1 vwCl [(h, .inr (2, [.long dx1, .int d1, .int d2, .int d3, .int d4]))] tt.heap ∧ va_D A [(h, .inr (2, [.long dx1, .int d1, .int d2, .int d3, .int d4]))]) A) #[Value.ref h, Value.int p0] s 0 0 A := ⟨_, rfl⟩
  rw [← hQ]
  change W p l e ({ frames := 0, cells := 0, slots := 0, locals := 0 } : Room) s m #[Value.ref h, Value.int p0] below meth c s.heap [] 0 0 Q (F0 m 0 ls [])
  refine lv_aload_n hx hb dX1_next_0 rfl (lv_at hl 0 rfl) ?_
  refine lv_aload_n hx hb dX1_next_1 rfl (lv_at hl 0 rfl) ?_
  refine va_get (D := E.1) (ci := 2) (v := .long dx) (C := RX1) (T := TX1) (N := 5) hx hb hts i_d_next_X1 hown hK hP 0 rfl rfl 0 (by decide) (hts (.fieldLink RX1 9 "HushWatch$Draws" "x" "J") (List.mem_of_getElem? (i := 1) rfl)) (fun _ h9 => h9) rfl dX1_next_2 ?_
  refine lv_ldc2 (v := 6364136223846793005) hx hb hown (hts (.constantLong RX1 32 (6364136223846793005)) (List.mem_of_getElem? (i := 2) rfl)) dX1_next_5 ?_
  refine lv_lmul hx hb dX1_next_8 ?_
  refine lv_topl (fun z_1 ez_1 => ?_)
  refine lv_ldc2 (v := 1442695040888963407) hx hb hown (hts (.constantLong RX1 34 (1442695040888963407)) (List.mem_of_getElem? (i := 3) rfl)) dX1_next_9 ?_
  refine lv_ladd hx hb dX1_next_12 ?_
  refine lv_topl (fun z_2 ez_2 => ?_)
  refine va_put (D := E.1) (ci := 2) (v := .long z_2) (ty := .long) (C := RX1) (T := TX1) (N := 5) hx hb hts i_d_next_X1 tyX1 tyX1_ok nmX1 hown hK hP hD hS 0 rfl rfl 0 (by decide) (hts (.fieldLink RX1 9 "HushWatch$Draws" "x" "J") (List.mem_of_getElem? (i := 1) rfl)) (fun _ h9 => h9) rfl (by decide +kernel) rfl rfl (Nat.le_of_ble_eq_true rfl) dX1_next_13 (fun H locs hP hD hS => ?_)
  have hP : va_P E.1 vwCl [(h, .inr (2, [.long z_2, .int d1, .int d2, .int d3, .int d4]))] H := hP
  have hD : va_D A [(h, .inr (2, [.long z_2, .int d1, .int d2, .int d3, .int d4]))] := hD
  refine lv_iload_n hx hb dX1_next_16 rfl (lv_at hl 1 rfl) ?_
  have K_8 : ∀ (y_7 : Int32), ∀ (H : Heap) (locs : List Loc) (ls : Array Slot), va_P E.1 vwCl [(h, .inr (2, [.long z_2, .int d1, .int d2, .int d3, .int d4]))] H → va_D A [(h, .inr (2, [.long z_2, .int d1, .int d2, .int d3, .int d4]))] → va_S A s.heap H locs → lv_has ls 2 [(0, .ref h), (1, .int p0)] → W p l e ({ frames := 0, cells := 0, slots := 0, locals := 0 } : Room) s m #[Value.ref h, Value.int p0] below meth c H locs 0 0 Q (F0 m 35 ls [.int y_7]) := by
    intro y_7 H locs ls hP hD hS hl
    rw [hQ]
    have hP9 := hP.sub (ws' := [(h, .inr (2, [.long z_2, .int d1, .int d2, .int d3, .int d4]))]) [0] rfl
    have hD9 := hD.sub (ws' := [(h, .inr (2, [.long z_2, .int d1, .int d2, .int d3, .int d4]))]) [0] (by decide) rfl
    exact W.iret (v := y_7) hx hb hr (fun tt ht hW => ⟨⟨_, z_2, rfl, trivial, by rw [ht]; exact hP9, hD9⟩, hS.F ht⟩) hS.2.2 dX1_next_35
  refine lv_if_le (tgt := 34) hx hb dX1_next_17 (by decide) (fun c_3 => ?_) (fun c_3 => ?_)
  ·
    refine lv_iconst (v := 0) hx hb dX1_next_34 (by decide) ?_
    exact K_8 0 H locs ls  (hP.sub [0] rfl) (hD.sub [0] (by decide) rfl) hS (lv_sub hl [0, 1] rfl)
  ·
    refine lv_aload_n hx hb dX1_next_20 rfl (lv_at hl 0 rfl) ?_
    refine va_get (D := E.1) (ci := 2) (v := .long z_2) (C := RX1) (T := TX1) (N := 5) hx hb hts i_d_next_X1 hown hK hP 0 rfl rfl 0 (by decide) (hts (.fieldLink RX1 9 "HushWatch$Draws" "x" "J") (List.mem_of_getElem? (i := 1) rfl)) (fun _ h9 => h9) rfl dX1_next_21 ?_
    refine lv_bipush (v := 33) hx hb dX1_next_24 (by decide) ?_
    refine lv_lushr hx hb dX1_next_26 rfl ?_
    refine lv_topl (fun z_9 ez_9 => ?_)
    refine lv_iload_n hx hb dX1_next_27 rfl (lv_at hl 1 rfl) ?_
    refine lv_i2l (v := p0.toInt64) hx hb dX1_next_28 rfl ?_
    refine lv_lrem hx hb dX1_next_29 (l_ne0 c_3) ?_
    refine lv_topl (fun z_10 ez_10 => ?_)
    refine lv_l2i hx hb dX1_next_30 rfl ?_
    refine lv_topi (fun z_11 ez_11 => ?_)
    refine lv_goto (tgt := 35) hx hb dX1_next_31 (by decide) ?_
    exact K_8 z_11 H locs ls  (hP.sub [0] rfl) (hD.sub [0] (by decide) rfl) hS (lv_sub hl [0, 1] rfl)

def v_d_pickAct : List Cond := .code yX1_pickAct cX1_pickAct 3 none :: ([.fieldLink RX1 19 "HushWatch$Draws" "a" "I", .fieldLink RX1 15 "HushWatch$Draws" "sort" "I", .fieldLink RX1 22 "HushWatch$Draws" "b" "I", .fieldLink RX1 25 "HushWatch$Draws" "c" "I", .methodLink RX1 28 yX1_next, .instanceMethod yX1_next, .selects RX1 yX1_next yX1_next, .initialized RX1] ++ (v_d_next ++ (wsX10 ++ ([]))))
theorem gw_d_pickAct : v_d_pickAct.all goodWord = true := by decide +kernel
theorem i_d_pickAct_X1 : ∀ w ∈ wsX10, w ∈ v_d_pickAct := fun _ h => List.mem_cons_of_mem _ (List.mem_append_right _ (List.mem_append_right _ (List.mem_append_left _ h)))
theorem g_d_pickAct_d_next_28 : GoodIn v_d_pickAct (wsV RX1 28 RX1 yX1_next v_d_next) := goodIn_app (goodIn_of _ (by decide +kernel)) (goodIn_sub (fun _ h => List.mem_cons_of_mem _ (List.mem_append_right _ (List.mem_append_left _ h))) gw_d_next)
set_option maxHeartbeats 4000000 in
set_option maxRecDepth 100000 in
theorem d_pickAct (l : Launch) (E : EE) (sz : Nat) (h : Nat) (dx : Int64) (d1 d2 d3 d4 : Int32) (p0 : Int32) : Met l yX1_pickAct v_d_pickAct ({ frames := 1, cells := 0, slots := 0, locals := 21 }) (va_Pc [.ref h, .int p0] (pW E sz [(h, .inr (2, [.long dx, .int d1, .int d2, .int d3, .int d4]))])) (va_Qv (fun (u_ : (Int64) × (Int32) × (Int32) × (Int32) × (Int32)) => True) (fun (u_ : (Int64) × (Int32) × (Int32) × (Int32) × (Int32)) tt => va_P E.1 vwCl [(h, .inr (2, [.long u_.1, .int u_.2.1, .int u_.2.2.1, .int u_.2.2.2.1, .int u_.2.2.2.2]))] tt.heap ∧ va_D (va_A [(h, .inr (2, [.long dx, .int d1, .int d2, .int d3, .int d4]))] sz) [(h, .inr (2, [.long u_.1, .int u_.2.1, .int u_.2.2.1, .int u_.2.2.2.1, .int u_.2.2.2.2]))]) (va_A [(h, .inr (2, [.long dx, .int d1, .int d2, .int d3, .int d4]))] sz)) 0 0 (va_A [(h, .inr (2, [.long dx, .int d1, .int d2, .int d3, .int d4]))] sz) := by
  refine Met.ofW (cc := cX1_pickAct) (maxL := 3) (ret := none) (by decide) rfl ?_
  intro p e s m args below meth c s₁ B hml hv
  obtain ⟨rfl, hsz, ⟨hK, hN⟩, hP, hD0⟩ := hv
  have hx := B.exec
  have hb := B.bytes
  have hr := B.returns
  have hts := atoms_spec (ws := v_d_pickAct) B.pre
  have hown : s.vm.findClass RX1 = some m.cls := findClass_of_methodNamed B.named
  have hlocks := B.notSynchronized
  subst hsz
  have hD := hD0.self (sz := s.heap.size)
  generalize hAe : va_A [(h, .inr (2, [.long dx, .int d1, .int d2, .int d3, .int d4]))] s.heap.size = A at hD ⊢
  have hA : ∀ q : Nat, s.heap.size ≤ q → A q := fun q h => by rw [← hAe]; exact Or.inr h
  have hS : va_S A s.heap s.heap [] := va_S.rf
  have hP : va_P E.1 vwCl [(h, .inr (2, [.long dx, .int d1, .int d2, .int d3, .int d4]))] s.heap := hP
  have hl := lv_entry ([.ref h, .int p0]) (n := 3) (Nat.le_of_ble_eq_true rfl)
  rw [lg_entry_eq]
  generalize (lg_sl ([.ref h, .int p0]) ++ List.replicate (3 - (lg_sl ([.ref h, .int p0])).length) Slot.unset).toArray = ls at hl ⊢
  have hl : lv_has ls 3 [(0, .ref h), (1, .int p0)] := hl
  obtain ⟨Q, hQ⟩ : ∃ Q : State → Prop, Q = MQ below (va_Qv (fun (u_ : (Int64) × (Int32) × (Int32) × (Int32) × (Int32)) => True) (fun (u_ : (Int64) × (Int32) × (Int32) × (Int32) × (Int32)) tt => va_P E.1 vwCl [(h, .inr (2, [.long u_.1, .int u_.2.1, .int u_.2.2.1, .int u_.2.2.2.1, .int u_.2.2.2.2]))] tt.heap ∧ va_D A [(h, .inr (2, [.long u_.1, .int u_.2.1, .int u_.2.2.1, .int u_.2.2.2.1, .int u_.2.2.2.2]))]) A) #[Value.ref h, Value.int p0] s 0 0 A := ⟨_, rfl⟩
  rw [← hQ]
  change W p l e ({ frames := 1, cells := 0, slots := 0, locals := 21 } : Room) s m #[Value.ref h, Value.int p0] below meth c s.heap [] 0 0 Q (F0 m 0 ls [])
  refine lv_aload_n hx hb dX1_pickAct_0 rfl (lv_at hl 0 rfl) ?_
  refine lv_bipush (v := 8) hx hb dX1_pickAct_1 (by decide) ?_
  have hPc := hP.sub (ws' := [(h, .inr (2, [.long dx, .int d1, .int d2, .int d3, .int d4]))]) [0] rfl
  have hDc := hD.sub (ws' := [(h, .inr (2, [.long dx, .int d1, .int d2, .int d3, .int d4]))]) [0] (by decide) rfl
  have hFc := va_free (wc := [(h, .inr (2, [.long dx, .int d1, .int d2, .int d3, .int d4]))]) hD hS hA [0] rfl
  refine va_calli (va_runV (As := [.int 8]) (rest := []) ⟨hx, hb, hml, hown, hts⟩ (d_next l E s.heap.size h dx d1 d2 d3 d4 8) (cwV 1 hts g_d_pickAct_d_next_28 rfl rfl rfl (by decide +kernel) ⟨Nat.le_of_ble_eq_true rfl, Nat.le_of_ble_eq_true rfl⟩) ⟨pW.blind, va_recv hK hPc (ci := 2) (q0 := 0) rfl rfl, (pW.pre ⟨hK, hN⟩ hPc hDc)⟩ rfl rfl hl.1 rfl (lv_room (Nat.le_of_ble_eq_true rfl)) dX1_pickAct_3 ⟨Nat.le_of_ble_eq_true rfl, Nat.le_of_ble_eq_true rfl⟩) hS (fun q _ h => hFc q h) hFc (fun r_1 u_2 tt H1 locs ht hvm hw hB hz1 hk1 hS => ?_)
  obtain ⟨hP1, hD1⟩ := hB
  rw [ht] at hP1
  obtain ⟨hP, hD⟩ := va_join (wr := []) (w1 := [(h, .inr (2, [.long u_2, .int d1, .int d2, .int d3, .int d4]))]) hP hD [0] [] rfl rfl (by decide) (by decide) hk1 hFc hP1 hD1
  generalize H1 = H at hP hS ⊢
  have hP : va_P E.1 vwCl [(h, .inr (2, [.long u_2, .int d1, .int d2, .int d3, .int d4]))] H := hP
  have hD : va_D A [(h, .inr (2, [.long u_2, .int d1, .int d2, .int d3, .int d4]))] := hD
  have hr_1 := hw
  refine lv_istore_n (lv' := [(2, .int r_1), (0, .ref h), (1, .int p0)]) hx hb dX1_pickAct_6 rfl hl (by decide) rfl (fun ls hl => ?_)
  refine lv_iload_n hx hb dX1_pickAct_7 rfl (lv_at hl 0 rfl) ?_
  refine lv_bipush (v := 7) hx hb dX1_pickAct_8 (by decide) ?_
  refine lv_icmp_ne (tgt := 24) hx hb dX1_pickAct_10 (by decide) (fun c_3 => ?_) (fun c_3 => ?_)
  ·
    refine lv_aload_n hx hb dX1_pickAct_24 rfl (lv_at hl 1 rfl) ?_
    refine lv_aload_n hx hb dX1_pickAct_25 rfl (lv_at hl 1 rfl) ?_
    refine lv_iload_n hx hb dX1_pickAct_26 rfl (lv_at hl 2 rfl) ?_
    have hPc := hP.sub (ws' := [(h, .inr (2, [.long u_2, .int d1, .int d2, .int d3, .int d4]))]) [0] rfl
    have hDc := hD.sub (ws' := [(h, .inr (2, [.long u_2, .int d1, .int d2, .int d3, .int d4]))]) [0] (by decide) rfl
    have hFc := va_free (wc := [(h, .inr (2, [.long u_2, .int d1, .int d2, .int d3, .int d4]))]) hD hS hA [0] rfl
    refine va_calli (va_runV (As := [.int p0]) (rest := [.ref h]) ⟨hx, hb, hml, hown, hts⟩ (d_next l E H.size h u_2 d1 d2 d3 d4 p0) (cwV 1 hts g_d_pickAct_d_next_28 rfl rfl rfl (by decide +kernel) ⟨Nat.le_of_ble_eq_true rfl, Nat.le_of_ble_eq_true rfl⟩) ⟨pW.blind, va_recv hK hPc (ci := 2) (q0 := 0) rfl rfl, (pW.pre ⟨hK, hN⟩ hPc hDc)⟩ rfl rfl hl.1 rfl (lv_room (Nat.le_of_ble_eq_true rfl)) dX1_pickAct_27 ⟨Nat.le_of_ble_eq_true rfl, Nat.le_of_ble_eq_true rfl⟩) hS (fun q _ h => hFc q h) hFc (fun r_4 u_5 tt H1 locs ht hvm hw hB hz1 hk1 hS => ?_)
    obtain ⟨hP1, hD1⟩ := hB
    rw [ht] at hP1
    obtain ⟨hP, hD⟩ := va_join (wr := []) (w1 := [(h, .inr (2, [.long u_5, .int d1, .int d2, .int d3, .int d4]))]) hP hD [0] [] rfl rfl (by decide) (by decide) hk1 hFc hP1 hD1
    generalize H1 = H at hP hS ⊢
    have hP : va_P E.1 vwCl [(h, .inr (2, [.long u_5, .int d1, .int d2, .int d3, .int d4]))] H := hP
    have hD : va_D A [(h, .inr (2, [.long u_5, .int d1, .int d2, .int d3, .int d4]))] := hD
    have hr_4 := hw
    refine va_put (D := E.1) (ci := 2) (v := .int r_4) (ty := .int) (C := RX1) (T := TX1) (N := 5) hx hb hts i_d_pickAct_X1 tyX1 tyX1_ok nmX1 hown hK hP hD hS 0 rfl rfl 2 (by decide) (hts (.fieldLink RX1 19 "HushWatch$Draws" "a" "I") (List.mem_of_getElem? (i := 1) rfl)) (fun _ h9 => h9) rfl (by decide +kernel) rfl rfl (Nat.le_of_ble_eq_true rfl) dX1_pickAct_30 (fun H locs hP hD hS => ?_)
    have hP : va_P E.1 vwCl [(h, .inr (2, [.long u_5, .int d1, .int r_4, .int d3, .int d4]))] H := hP
    have hD : va_D A [(h, .inr (2, [.long u_5, .int d1, .int r_4, .int d3, .int d4]))] := hD
    refine lv_iload_n hx hb dX1_pickAct_33 rfl (lv_at hl 0 rfl) ?_
    refine lv_bipush (v := 6) hx hb dX1_pickAct_34 (by decide) ?_
    refine lv_icmp_ne (tgt := 57) hx hb dX1_pickAct_36 (by decide) (fun c_6 => ?_) (fun c_6 => ?_)
    ·
      refine lv_aload_n hx hb dX1_pickAct_57 rfl (lv_at hl 1 rfl) ?_
      refine lv_iconst (v := 0) hx hb dX1_pickAct_58 (by decide) ?_
      refine va_put (D := E.1) (ci := 2) (v := .int 0) (ty := .int) (C := RX1) (T := TX1) (N := 5) hx hb hts i_d_pickAct_X1 tyX1 tyX1_ok nmX1 hown hK hP hD hS 0 rfl rfl 1 (by decide) (hts (.fieldLink RX1 15 "HushWatch$Draws" "sort" "I") (List.mem_of_getElem? (i := 2) rfl)) (fun _ h9 => h9) rfl (by decide +kernel) rfl rfl (Nat.le_of_ble_eq_true rfl) dX1_pickAct_59 (fun H locs hP hD hS => ?_)
      have hP : va_P E.1 vwCl [(h, .inr (2, [.long u_5, .int 0, .int r_4, .int d3, .int d4]))] H := hP
      have hD : va_D A [(h, .inr (2, [.long u_5, .int 0, .int r_4, .int d3, .int d4]))] := hD
      refine lv_aload_n hx hb dX1_pickAct_62 rfl (lv_at hl 1 rfl) ?_
      refine lv_aload_n hx hb dX1_pickAct_63 rfl (lv_at hl 1 rfl) ?_
      refine lv_bipush (v := 21) hx hb dX1_pickAct_64 (by decide) ?_
      have hPc := hP.sub (ws' := [(h, .inr (2, [.long u_5, .int 0, .int r_4, .int d3, .int d4]))]) [0] rfl
      have hDc := hD.sub (ws' := [(h, .inr (2, [.long u_5, .int 0, .int r_4, .int d3, .int d4]))]) [0] (by decide) rfl
      have hFc := va_free (wc := [(h, .inr (2, [.long u_5, .int 0, .int r_4, .int d3, .int d4]))]) hD hS hA [0] rfl
      refine va_calli (va_runV (As := [.int 21]) (rest := [.ref h]) ⟨hx, hb, hml, hown, hts⟩ (d_next l E H.size h u_5 0 r_4 d3 d4 21) (cwV 1 hts g_d_pickAct_d_next_28 rfl rfl rfl (by decide +kernel) ⟨Nat.le_of_ble_eq_true rfl, Nat.le_of_ble_eq_true rfl⟩) ⟨pW.blind, va_recv hK hPc (ci := 2) (q0 := 0) rfl rfl, (pW.pre ⟨hK, hN⟩ hPc hDc)⟩ rfl rfl hl.1 rfl (lv_room (Nat.le_of_ble_eq_true rfl)) dX1_pickAct_66 ⟨Nat.le_of_ble_eq_true rfl, Nat.le_of_ble_eq_true rfl⟩) hS (fun q _ h => hFc q h) hFc (fun r_7 u_8 tt H1 locs ht hvm hw hB hz1 hk1 hS => ?_)
      obtain ⟨hP1, hD1⟩ := hB
      rw [ht] at hP1
      obtain ⟨hP, hD⟩ := va_join (wr := []) (w1 := [(h, .inr (2, [.long u_8, .int 0, .int r_4, .int d3, .int d4]))]) hP hD [0] [] rfl rfl (by decide) (by decide) hk1 hFc hP1 hD1
      generalize H1 = H at hP hS ⊢
      have hP : va_P E.1 vwCl [(h, .inr (2, [.long u_8, .int 0, .int r_4, .int d3, .int d4]))] H := hP
      have hD : va_D A [(h, .inr (2, [.long u_8, .int 0, .int r_4, .int d3, .int d4]))] := hD
      have hr_7 := hw
      refine lv_bipush (v := 10) hx hb dX1_pickAct_69 (by decide) ?_
      refine lv_isub hx hb dX1_pickAct_71 ?_
      refine lv_topi (fun z_9 ez_9 => ?_)
      refine va_put (D := E.1) (ci := 2) (v := .int z_9) (ty := .int) (C := RX1) (T := TX1) (N := 5) hx hb hts i_d_pickAct_X1 tyX1 tyX1_ok nmX1 hown hK hP hD hS 0 rfl rfl 3 (by decide) (hts (.fieldLink RX1 22 "HushWatch$Draws" "b" "I") (List.mem_of_getElem? (i := 3) rfl)) (fun _ h9 => h9) rfl (by decide +kernel) rfl rfl (Nat.le_of_ble_eq_true rfl) dX1_pickAct_72 (fun H locs hP hD hS => ?_)
      have hP : va_P E.1 vwCl [(h, .inr (2, [.long u_8, .int 0, .int r_4, .int z_9, .int d4]))] H := hP
      have hD : va_D A [(h, .inr (2, [.long u_8, .int 0, .int r_4, .int z_9, .int d4]))] := hD
      refine lv_aload_n hx hb dX1_pickAct_75 rfl (lv_at hl 1 rfl) ?_
      refine lv_aload_n hx hb dX1_pickAct_76 rfl (lv_at hl 1 rfl) ?_
      refine lv_bipush (v := 21) hx hb dX1_pickAct_77 (by decide) ?_
      have hPc := hP.sub (ws' := [(h, .inr (2, [.long u_8, .int 0, .int r_4, .int z_9, .int d4]))]) [0] rfl
      have hDc := hD.sub (ws' := [(h, .inr (2, [.long u_8, .int 0, .int r_4, .int z_9, .int d4]))]) [0] (by decide) rfl
      have hFc := va_free (wc := [(h, .inr (2, [.long u_8, .int 0, .int r_4, .int z_9, .int d4]))]) hD hS hA [0] rfl
      refine va_calli (va_runV (As := [.int 21]) (rest := [.ref h]) ⟨hx, hb, hml, hown, hts⟩ (d_next l E H.size h u_8 0 r_4 z_9 d4 21) (cwV 1 hts g_d_pickAct_d_next_28 rfl rfl rfl (by decide +kernel) ⟨Nat.le_of_ble_eq_true rfl, Nat.le_of_ble_eq_true rfl⟩) ⟨pW.blind, va_recv hK hPc (ci := 2) (q0 := 0) rfl rfl, (pW.pre ⟨hK, hN⟩ hPc hDc)⟩ rfl rfl hl.1 rfl (lv_room (Nat.le_of_ble_eq_true rfl)) dX1_pickAct_79 ⟨Nat.le_of_ble_eq_true rfl, Nat.le_of_ble_eq_true rfl⟩) hS (fun q _ h => hFc q h) hFc (fun r_10 u_11 tt H1 locs ht hvm hw hB hz1 hk1 hS => ?_)
      obtain ⟨hP1, hD1⟩ := hB
      rw [ht] at hP1
      obtain ⟨hP, hD⟩ := va_join (wr := []) (w1 := [(h, .inr (2, [.long u_11, .int 0, .int r_4, .int z_9, .int d4]))]) hP hD [0] [] rfl rfl (by decide) (by decide) hk1 hFc hP1 hD1
      generalize H1 = H at hP hS ⊢
      have hP : va_P E.1 vwCl [(h, .inr (2, [.long u_11, .int 0, .int r_4, .int z_9, .int d4]))] H := hP
      have hD : va_D A [(h, .inr (2, [.long u_11, .int 0, .int r_4, .int z_9, .int d4]))] := hD
      have hr_10 := hw
      refine lv_bipush (v := 10) hx hb dX1_pickAct_82 (by decide) ?_
      refine lv_isub hx hb dX1_pickAct_84 ?_
      refine lv_topi (fun z_12 ez_12 => ?_)
      refine va_put (D := E.1) (ci := 2) (v := .int z_12) (ty := .int) (C := RX1) (T := TX1) (N := 5) hx hb hts i_d_pickAct_X1 tyX1 tyX1_ok nmX1 hown hK hP hD hS 0 rfl rfl 4 (by decide) (hts (.fieldLink RX1 25 "HushWatch$Draws" "c" "I") (List.mem_of_getElem? (i := 4) rfl)) (fun _ h9 => h9) rfl (by decide +kernel) rfl rfl (Nat.le_of_ble_eq_true rfl) dX1_pickAct_85 (fun H locs hP hD hS => ?_)
      have hP : va_P E.1 vwCl [(h, .inr (2, [.long u_11, .int 0, .int r_4, .int z_9, .int z_12]))] H := hP
      have hD : va_D A [(h, .inr (2, [.long u_11, .int 0, .int r_4, .int z_9, .int z_12]))] := hD
      rw [hQ]
      have hP9 := hP.sub (ws' := [(h, .inr (2, [.long u_11, .int 0, .int r_4, .int z_9, .int z_12]))]) [0] rfl
      have hD9 := hD.sub (ws' := [(h, .inr (2, [.long u_11, .int 0, .int r_4, .int z_9, .int z_12]))]) [0] (by decide) rfl
      exact W.vret hx hb hr (fun tt ht hW => ⟨⟨(u_11, 0, r_4, z_9, z_12), rfl, trivial, by rw [ht]; exact hP9, hD9⟩, hS.F ht⟩) hS.2.2 dX1_pickAct_88
    ·
      obtain ⟨j_13, hj_13, ej_13⟩ : ∃ j : Nat, j ≤ 6 ∧ r_1 = nI j := nat_rng (by have t0 : (0 : Int32).toInt = 0 := (by decide); have t1 : (6 : Int32).toInt = 6 := (by decide); have t2 : (7 : Int32).toInt = 7 := (by decide); simp only [Int32.lt_iff_toInt_lt, Int32.le_iff_toInt_le, ge_iff_le, gt_iff_lt, ne_eq, ← Int32.toInt_inj, t0, t1, t2] at c_3 c_6 ⊢; omega)
      refine lv_aload_n hx hb dX1_pickAct_39 rfl (lv_at hl 1 rfl) ?_
      refine lv_iconst (v := 4) hx hb dX1_pickAct_40 (by decide) ?_
      refine va_put (D := E.1) (ci := 2) (v := .int 4) (ty := .int) (C := RX1) (T := TX1) (N := 5) hx hb hts i_d_pickAct_X1 tyX1 tyX1_ok nmX1 hown hK hP hD hS 0 rfl rfl 1 (by decide) (hts (.fieldLink RX1 15 "HushWatch$Draws" "sort" "I") (List.mem_of_getElem? (i := 2) rfl)) (fun _ h9 => h9) rfl (by decide +kernel) rfl rfl (Nat.le_of_ble_eq_true rfl) dX1_pickAct_41 (fun H locs hP hD hS => ?_)
      have hP : va_P E.1 vwCl [(h, .inr (2, [.long u_5, .int 4, .int r_4, .int d3, .int d4]))] H := hP
      have hD : va_D A [(h, .inr (2, [.long u_5, .int 4, .int r_4, .int d3, .int d4]))] := hD
      refine lv_aload_n hx hb dX1_pickAct_44 rfl (lv_at hl 1 rfl) ?_
      refine lv_aload_n hx hb dX1_pickAct_45 rfl (lv_at hl 1 rfl) ?_
      refine lv_bipush (v := 9) hx hb dX1_pickAct_46 (by decide) ?_
      have hPc := hP.sub (ws' := [(h, .inr (2, [.long u_5, .int 4, .int r_4, .int d3, .int d4]))]) [0] rfl
      have hDc := hD.sub (ws' := [(h, .inr (2, [.long u_5, .int 4, .int r_4, .int d3, .int d4]))]) [0] (by decide) rfl
      have hFc := va_free (wc := [(h, .inr (2, [.long u_5, .int 4, .int r_4, .int d3, .int d4]))]) hD hS hA [0] rfl
      refine va_calli (va_runV (As := [.int 9]) (rest := [.ref h]) ⟨hx, hb, hml, hown, hts⟩ (d_next l E H.size h u_5 4 r_4 d3 d4 9) (cwV 1 hts g_d_pickAct_d_next_28 rfl rfl rfl (by decide +kernel) ⟨Nat.le_of_ble_eq_true rfl, Nat.le_of_ble_eq_true rfl⟩) ⟨pW.blind, va_recv hK hPc (ci := 2) (q0 := 0) rfl rfl, (pW.pre ⟨hK, hN⟩ hPc hDc)⟩ rfl rfl hl.1 rfl (lv_room (Nat.le_of_ble_eq_true rfl)) dX1_pickAct_48 ⟨Nat.le_of_ble_eq_true rfl, Nat.le_of_ble_eq_true rfl⟩) hS (fun q _ h => hFc q h) hFc (fun r_14 u_15 tt H1 locs ht hvm hw hB hz1 hk1 hS => ?_)
      obtain ⟨hP1, hD1⟩ := hB
      rw [ht] at hP1
      obtain ⟨hP, hD⟩ := va_join (wr := []) (w1 := [(h, .inr (2, [.long u_15, .int 4, .int r_4, .int d3, .int d4]))]) hP hD [0] [] rfl rfl (by decide) (by decide) hk1 hFc hP1 hD1
      generalize H1 = H at hP hS ⊢
      have hP : va_P E.1 vwCl [(h, .inr (2, [.long u_15, .int 4, .int r_4, .int d3, .int d4]))] H := hP
      have hD : va_D A [(h, .inr (2, [.long u_15, .int 4, .int r_4, .int d3, .int d4]))] := hD
      have hr_14 := hw
      refine lv_iconst (v := 1) hx hb dX1_pickAct_51 (by decide) ?_
      refine lv_iadd hx hb dX1_pickAct_52 ?_
      refine lv_topi (fun z_16 ez_16 => ?_)
      refine va_put (D := E.1) (ci := 2) (v := .int z_16) (ty := .int) (C := RX1) (T := TX1) (N := 5) hx hb hts i_d_pickAct_X1 tyX1 tyX1_ok nmX1 hown hK hP hD hS 0 rfl rfl 3 (by decide) (hts (.fieldLink RX1 22 "HushWatch$Draws" "b" "I") (List.mem_of_getElem? (i := 3) rfl)) (fun _ h9 => h9) rfl (by decide +kernel) rfl rfl (Nat.le_of_ble_eq_true rfl) dX1_pickAct_53 (fun H locs hP hD hS => ?_)
      have hP : va_P E.1 vwCl [(h, .inr (2, [.long u_15, .int 4, .int r_4, .int z_16, .int d4]))] H := hP
      have hD : va_D A [(h, .inr (2, [.long u_15, .int 4, .int r_4, .int z_16, .int d4]))] := hD
      rw [hQ]
      have hP9 := hP.sub (ws' := [(h, .inr (2, [.long u_15, .int 4, .int r_4, .int z_16, .int d4]))]) [0] rfl
      have hD9 := hD.sub (ws' := [(h, .inr (2, [.long u_15, .int 4, .int r_4, .int z_16, .int d4]))]) [0] (by decide) rfl
      exact W.vret hx hb hr (fun tt ht hW => ⟨⟨(u_15, 4, r_4, z_16, d4), rfl, trivial, by rw [ht]; exact hP9, hD9⟩, hS.F ht⟩) hS.2.2 dX1_pickAct_56
  ·
    obtain ⟨j_17, hj_17, ej_17⟩ : ∃ j : Nat, j ≤ 7 ∧ r_1 = nI j := nat_rng (by have t0 : (0 : Int32).toInt = 0 := (by decide); have t1 : (7 : Int32).toInt = 7 := (by decide); simp only [Int32.lt_iff_toInt_lt, Int32.le_iff_toInt_le, ge_iff_le, gt_iff_lt, ne_eq, ← Int32.toInt_inj, t0, t1] at c_3 ⊢; omega)
    refine lv_aload_n hx hb dX1_pickAct_13 rfl (lv_at hl 1 rfl) ?_
    refine lv_iconst (v := 1) hx hb dX1_pickAct_14 (by decide) ?_
    refine va_put (D := E.1) (ci := 2) (v := .int 1) (ty := .int) (C := RX1) (T := TX1) (N := 5) hx hb hts i_d_pickAct_X1 tyX1 tyX1_ok nmX1 hown hK hP hD hS 0 rfl rfl 1 (by decide) (hts (.fieldLink RX1 15 "HushWatch$Draws" "sort" "I") (List.mem_of_getElem? (i := 2) rfl)) (fun _ h9 => h9) rfl (by decide +kernel) rfl rfl (Nat.le_of_ble_eq_true rfl) dX1_pickAct_15 (fun H locs hP hD hS => ?_)
    have hP : va_P E.1 vwCl [(h, .inr (2, [.long u_2, .int 1, .int d2, .int d3, .int d4]))] H := hP
    have hD : va_D A [(h, .inr (2, [.long u_2, .int 1, .int d2, .int d3, .int d4]))] := hD
    refine lv_aload_n hx hb dX1_pickAct_18 rfl (lv_at hl 1 rfl) ?_
    refine lv_iconst (v := -1) hx hb dX1_pickAct_19 (by decide) ?_
    refine va_put (D := E.1) (ci := 2) (v := .int (-1)) (ty := .int) (C := RX1) (T := TX1) (N := 5) hx hb hts i_d_pickAct_X1 tyX1 tyX1_ok nmX1 hown hK hP hD hS 0 rfl rfl 2 (by decide) (hts (.fieldLink RX1 19 "HushWatch$Draws" "a" "I") (List.mem_of_getElem? (i := 1) rfl)) (fun _ h9 => h9) rfl (by decide +kernel) rfl rfl (Nat.le_of_ble_eq_true rfl) dX1_pickAct_20 (fun H locs hP hD hS => ?_)
    have hP : va_P E.1 vwCl [(h, .inr (2, [.long u_2, .int 1, .int (-1), .int d3, .int d4]))] H := hP
    have hD : va_D A [(h, .inr (2, [.long u_2, .int 1, .int (-1), .int d3, .int d4]))] := hD
    rw [hQ]
    have hP9 := hP.sub (ws' := [(h, .inr (2, [.long u_2, .int 1, .int (-1), .int d3, .int d4]))]) [0] rfl
    have hD9 := hD.sub (ws' := [(h, .inr (2, [.long u_2, .int 1, .int (-1), .int d3, .int d4]))]) [0] (by decide) rfl
    exact W.vret hx hb hr (fun tt ht hW => ⟨⟨(u_2, 1, (-1), d3, d4), rfl, trivial, by rw [ht]; exact hP9, hD9⟩, hS.F ht⟩) hS.2.2 dX1_pickAct_23
