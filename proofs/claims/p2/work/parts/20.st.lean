theorem dX5_stands_0 : decode cX5_stands 0 = .ok (.aload_n 0, 1) := by decide +kernel
theorem dX5_stands_1 : decode cX5_stands 1 = .ok (.getfield 11, 3) := by decide +kernel
theorem dX5_stands_4 : decode cX5_stands 4 = .ok (.iconst 3, 1) := by decide +kernel
theorem dX5_stands_5 : decode cX5_stands 5 = .ok (.iaload, 1) := by decide +kernel
theorem dX5_stands_14 : decode cX5_stands 14 = .ok (.ireturn, 1) := by decide +kernel
theorem dX5_stands_6 : decode cX5_stands 6 = .ok (.ifCond .le 7, 3) := by decide +kernel
theorem dX5_stands_13 : decode cX5_stands 13 = .ok (.iconst 0, 1) := by decide +kernel
theorem dX5_stands_9 : decode cX5_stands 9 = .ok (.iconst 1, 1) := by decide +kernel
theorem dX5_stands_10 : decode cX5_stands 10 = .ok (.goto 4, 3) := by decide +kernel
theorem dX5_sites_0 : decode cX5_sites 0 = .ok (.aload_n 0, 1) := by decide +kernel
theorem dX5_sites_1 : decode cX5_sites 1 = .ok (.getfield 11, 3) := by decide +kernel
theorem dX5_sites_4 : decode cX5_sites 4 = .ok (.iconst 3, 1) := by decide +kernel
theorem dX5_sites_5 : decode cX5_sites 5 = .ok (.iaload, 1) := by decide +kernel
theorem dX5_sites_6 : decode cX5_sites 6 = .ok (.ireturn, 1) := by decide +kernel
theorem dX5_hasSite_0 : decode cX5_hasSite 0 = .ok (.iload_n 1, 1) := by decide +kernel
theorem dX5_hasSite_25 : decode cX5_hasSite 25 = .ok (.ireturn, 1) := by decide +kernel
theorem dX5_hasSite_1 : decode cX5_hasSite 1 = .ok (.ifCond .lt 23, 3) := by decide +kernel
theorem dX5_hasSite_24 : decode cX5_hasSite 24 = .ok (.iconst 0, 1) := by decide +kernel
theorem dX5_hasSite_4 : decode cX5_hasSite 4 = .ok (.iload_n 1, 1) := by decide +kernel
theorem dX5_hasSite_5 : decode cX5_hasSite 5 = .ok (.aload_n 0, 1) := by decide +kernel
theorem dX5_hasSite_6 : decode cX5_hasSite 6 = .ok (.getfield 11, 3) := by decide +kernel
theorem dX5_hasSite_9 : decode cX5_hasSite 9 = .ok (.iconst 3, 1) := by decide +kernel
theorem dX5_hasSite_10 : decode cX5_hasSite 10 = .ok (.iaload, 1) := by decide +kernel
theorem dX5_hasSite_11 : decode cX5_hasSite 11 = .ok (.if_icmp .ge 13, 3) := by decide +kernel
theorem dX5_hasSite_14 : decode cX5_hasSite 14 = .ok (.iload_n 1, 1) := by decide +kernel
theorem dX5_hasSite_15 : decode cX5_hasSite 15 = .ok (.bipush 8, 2) := by decide +kernel
theorem dX5_hasSite_17 : decode cX5_hasSite 17 = .ok (.if_icmp .ge 7, 3) := by decide +kernel
theorem dX5_hasSite_20 : decode cX5_hasSite 20 = .ok (.iconst 1, 1) := by decide +kernel
theorem dX5_hasSite_21 : decode cX5_hasSite 21 = .ok (.goto 4, 3) := by decide +kernel
theorem dX5_of_0 : decode cX5_of 0 = .ok (.iload_n 1, 1) := by decide +kernel
theorem dX5_of_1 : decode cX5_of 1 = .ok (.ifCond .lt 19, 3) := by decide +kernel
theorem dX5_of_20 : decode cX5_of 20 = .ok (.iconst 0, 1) := by decide +kernel
theorem dX5_of_21 : decode cX5_of 21 = .ok (.ireturn, 1) := by decide +kernel
theorem dX5_of_4 : decode cX5_of 4 = .ok (.iload_n 1, 1) := by decide +kernel
theorem dX5_of_5 : decode cX5_of 5 = .ok (.bipush 8, 2) := by decide +kernel
theorem dX5_of_7 : decode cX5_of 7 = .ok (.if_icmp .ge 13, 3) := by decide +kernel
theorem dX5_of_10 : decode cX5_of 10 = .ok (.iload_n 2, 1) := by decide +kernel
theorem dX5_of_11 : decode cX5_of 11 = .ok (.ifCond .lt 9, 3) := by decide +kernel
theorem dX5_of_14 : decode cX5_of 14 = .ok (.iload_n 2, 1) := by decide +kernel
theorem dX5_of_15 : decode cX5_of 15 = .ok (.bipush 8, 2) := by decide +kernel
theorem dX5_of_17 : decode cX5_of 17 = .ok (.if_icmp .lt 5, 3) := by decide +kernel
theorem dX5_of_22 : decode cX5_of 22 = .ok (.aload_n 0, 1) := by decide +kernel
theorem dX5_of_23 : decode cX5_of 23 = .ok (.getfield 11, 3) := by decide +kernel
theorem dX5_of_26 : decode cX5_of 26 = .ok (.bipush 17, 2) := by decide +kernel
theorem dX5_of_28 : decode cX5_of 28 = .ok (.iload_n 1, 1) := by decide +kernel
theorem dX5_of_29 : decode cX5_of 29 = .ok (.bipush 8, 2) := by decide +kernel
theorem dX5_of_31 : decode cX5_of 31 = .ok (.imul, 1) := by decide +kernel
theorem dX5_of_32 : decode cX5_of 32 = .ok (.iadd, 1) := by decide +kernel
theorem dX5_of_33 : decode cX5_of 33 = .ok (.iload_n 2, 1) := by decide +kernel
theorem dX5_of_34 : decode cX5_of 34 = .ok (.iadd, 1) := by decide +kernel
theorem dX5_of_35 : decode cX5_of 35 = .ok (.iaload, 1) := by decide +kernel
theorem dX5_of_36 : decode cX5_of 36 = .ok (.ireturn, 1) := by decide +kernel
theorem dX5_put_0 : decode cX5_put 0 = .ok (.iload_n 1, 1) := by decide +kernel
theorem dX5_put_35 : decode cX5_put 35 = .ok (.return_, 1) := by decide +kernel
theorem dX5_put_1 : decode cX5_put 1 = .ok (.ifCond .lt 34, 3) := by decide +kernel
theorem dX5_put_4 : decode cX5_put 4 = .ok (.iload_n 1, 1) := by decide +kernel
theorem dX5_put_5 : decode cX5_put 5 = .ok (.bipush 8, 2) := by decide +kernel
theorem dX5_put_7 : decode cX5_put 7 = .ok (.if_icmp .ge 28, 3) := by decide +kernel
theorem dX5_put_10 : decode cX5_put 10 = .ok (.iload_n 2, 1) := by decide +kernel
theorem dX5_put_11 : decode cX5_put 11 = .ok (.ifCond .lt 24, 3) := by decide +kernel
theorem dX5_put_14 : decode cX5_put 14 = .ok (.iload_n 2, 1) := by decide +kernel
theorem dX5_put_15 : decode cX5_put 15 = .ok (.bipush 8, 2) := by decide +kernel
theorem dX5_put_17 : decode cX5_put 17 = .ok (.if_icmp .ge 18, 3) := by decide +kernel
theorem dX5_put_20 : decode cX5_put 20 = .ok (.aload_n 0, 1) := by decide +kernel
theorem dX5_put_21 : decode cX5_put 21 = .ok (.getfield 11, 3) := by decide +kernel
theorem dX5_put_24 : decode cX5_put 24 = .ok (.bipush 17, 2) := by decide +kernel
theorem dX5_put_26 : decode cX5_put 26 = .ok (.iload_n 1, 1) := by decide +kernel
theorem dX5_put_27 : decode cX5_put 27 = .ok (.bipush 8, 2) := by decide +kernel
theorem dX5_put_29 : decode cX5_put 29 = .ok (.imul, 1) := by decide +kernel
theorem dX5_put_30 : decode cX5_put 30 = .ok (.iadd, 1) := by decide +kernel
theorem dX5_put_31 : decode cX5_put 31 = .ok (.iload_n 2, 1) := by decide +kernel
theorem dX5_put_32 : decode cX5_put 32 = .ok (.iadd, 1) := by decide +kernel
theorem dX5_put_33 : decode cX5_put 33 = .ok (.iload_n 3, 1) := by decide +kernel
theorem dX5_put_34 : decode cX5_put 34 = .ok (.iastore, 1) := by decide +kernel
theorem dX5_drift_0 : decode cX5_drift 0 = .ok (.iload_n 1, 1) := by decide +kernel
theorem dX5_drift_1 : decode cX5_drift 1 = .ok (.ifCond .lt 18, 3) := by decide +kernel
theorem dX5_drift_19 : decode cX5_drift 19 = .ok (.iconst 0, 1) := by decide +kernel
theorem dX5_drift_20 : decode cX5_drift 20 = .ok (.ireturn, 1) := by decide +kernel
theorem dX5_drift_4 : decode cX5_drift 4 = .ok (.iload_n 1, 1) := by decide +kernel
theorem dX5_drift_5 : decode cX5_drift 5 = .ok (.bipush 8, 2) := by decide +kernel
theorem dX5_drift_7 : decode cX5_drift 7 = .ok (.if_icmp .ge 12, 3) := by decide +kernel
theorem dX5_drift_10 : decode cX5_drift 10 = .ok (.iload_n 2, 1) := by decide +kernel
theorem dX5_drift_11 : decode cX5_drift 11 = .ok (.ifCond .lt 8, 3) := by decide +kernel
theorem dX5_drift_14 : decode cX5_drift 14 = .ok (.iload_n 2, 1) := by decide +kernel
theorem dX5_drift_15 : decode cX5_drift 15 = .ok (.iconst 1, 1) := by decide +kernel
theorem dX5_drift_16 : decode cX5_drift 16 = .ok (.if_icmp .le 5, 3) := by decide +kernel
theorem dX5_drift_21 : decode cX5_drift 21 = .ok (.bipush 17, 2) := by decide +kernel
theorem dX5_drift_23 : decode cX5_drift 23 = .ok (.iload_n 1, 1) := by decide +kernel
theorem dX5_drift_24 : decode cX5_drift 24 = .ok (.bipush 8, 2) := by decide +kernel
theorem dX5_drift_26 : decode cX5_drift 26 = .ok (.imul, 1) := by decide +kernel
theorem dX5_drift_27 : decode cX5_drift 27 = .ok (.iadd, 1) := by decide +kernel
theorem dX5_drift_28 : decode cX5_drift 28 = .ok (.iload_n 2, 1) := by decide +kernel
theorem dX5_drift_29 : decode cX5_drift 29 = .ok (.iadd, 1) := by decide +kernel
theorem dX5_drift_30 : decode cX5_drift 30 = .ok (.istore_n 3, 1) := by decide +kernel
theorem dX5_drift_31 : decode cX5_drift 31 = .ok (.aload_n 0, 1) := by decide +kernel
theorem dX5_drift_32 : decode cX5_drift 32 = .ok (.getfield 11, 3) := by decide +kernel
theorem dX5_drift_35 : decode cX5_drift 35 = .ok (.iload_n 3, 1) := by decide +kernel
theorem dX5_drift_36 : decode cX5_drift 36 = .ok (.iconst 0, 1) := by decide +kernel
theorem dX5_drift_37 : decode cX5_drift 37 = .ok (.iadd, 1) := by decide +kernel
theorem dX5_drift_38 : decode cX5_drift 38 = .ok (.iaload, 1) := by decide +kernel
theorem dX5_drift_39 : decode cX5_drift 39 = .ok (.aload_n 0, 1) := by decide +kernel
theorem dX5_drift_40 : decode cX5_drift 40 = .ok (.getfield 11, 3) := by decide +kernel
theorem dX5_drift_43 : decode cX5_drift 43 = .ok (.iload_n 3, 1) := by decide +kernel
theorem dX5_drift_44 : decode cX5_drift 44 = .ok (.iconst 2, 1) := by decide +kernel
theorem dX5_drift_45 : decode cX5_drift 45 = .ok (.iadd, 1) := by decide +kernel
theorem dX5_drift_46 : decode cX5_drift 46 = .ok (.iaload, 1) := by decide +kernel
theorem dX5_drift_47 : decode cX5_drift 47 = .ok (.isub, 1) := by decide +kernel
theorem dX5_drift_48 : decode cX5_drift 48 = .ok (.aload_n 0, 1) := by decide +kernel
theorem dX5_drift_49 : decode cX5_drift 49 = .ok (.getfield 11, 3) := by decide +kernel
theorem dX5_drift_52 : decode cX5_drift 52 = .ok (.iload_n 3, 1) := by decide +kernel
theorem dX5_drift_53 : decode cX5_drift 53 = .ok (.iconst 4, 1) := by decide +kernel
theorem dX5_drift_54 : decode cX5_drift 54 = .ok (.iadd, 1) := by decide +kernel
theorem dX5_drift_55 : decode cX5_drift 55 = .ok (.iaload, 1) := by decide +kernel
theorem dX5_drift_56 : decode cX5_drift 56 = .ok (.iadd, 1) := by decide +kernel
theorem dX5_drift_57 : decode cX5_drift 57 = .ok (.ireturn, 1) := by decide +kernel
theorem dX5_valueOf_0 : decode cX5_valueOf 0 = .ok (.lload_n 1, 1) := by decide +kernel
theorem dX5_valueOf_1 : decode cX5_valueOf 1 = .ok (.lconst 0, 1) := by decide +kernel
theorem dX5_valueOf_2 : decode cX5_valueOf 2 = .ok (.lcmp, 1) := by decide +kernel
theorem dX5_valueOf_12 : decode cX5_valueOf 12 = .ok (.lstore 5, 2) := by decide +kernel
theorem dX5_valueOf_14 : decode cX5_valueOf 14 = .ok (.lload_n 3, 1) := by decide +kernel
theorem dX5_valueOf_15 : decode cX5_valueOf 15 = .ok (.lconst 0, 1) := by decide +kernel
theorem dX5_valueOf_16 : decode cX5_valueOf 16 = .ok (.lcmp, 1) := by decide +kernel
theorem dX5_valueOf_26 : decode cX5_valueOf 26 = .ok (.lstore 7, 2) := by decide +kernel
theorem dX5_valueOf_28 : decode cX5_valueOf 28 = .ok (.aload_n 0, 1) := by decide +kernel
theorem dX5_valueOf_29 : decode cX5_valueOf 29 = .ok (.getfield 11, 3) := by decide +kernel
theorem dX5_valueOf_32 : decode cX5_valueOf 32 = .ok (.iconst 0, 1) := by decide +kernel
theorem dX5_valueOf_33 : decode cX5_valueOf 33 = .ok (.iaload, 1) := by decide +kernel
theorem dX5_valueOf_34 : decode cX5_valueOf 34 = .ok (.tableswitch 56 1 3 #[26, 34, 50], 26) := by decide +kernel
theorem dX5_valueOf_60 : decode cX5_valueOf 60 = .ok (.lload_n 1, 1) := by decide +kernel
theorem dX5_valueOf_61 : decode cX5_valueOf 61 = .ok (.lload_n 1, 1) := by decide +kernel
theorem dX5_valueOf_62 : decode cX5_valueOf 62 = .ok (.lmul, 1) := by decide +kernel
theorem dX5_valueOf_63 : decode cX5_valueOf 63 = .ok (.lload_n 3, 1) := by decide +kernel
theorem dX5_valueOf_64 : decode cX5_valueOf 64 = .ok (.lload_n 3, 1) := by decide +kernel
theorem dX5_valueOf_65 : decode cX5_valueOf 65 = .ok (.lmul, 1) := by decide +kernel
theorem dX5_valueOf_66 : decode cX5_valueOf 66 = .ok (.ladd, 1) := by decide +kernel
theorem dX5_valueOf_67 : decode cX5_valueOf 67 = .ok (.lreturn, 1) := by decide +kernel
theorem dX5_valueOf_68 : decode cX5_valueOf 68 = .ok (.lload 5, 2) := by decide +kernel
theorem dX5_valueOf_70 : decode cX5_valueOf 70 = .ok (.lload 7, 2) := by decide +kernel
theorem dX5_valueOf_72 : decode cX5_valueOf 72 = .ok (.lcmp, 1) := by decide +kernel
theorem dX5_valueOf_83 : decode cX5_valueOf 83 = .ok (.lreturn, 1) := by decide +kernel
theorem dX5_valueOf_73 : decode cX5_valueOf 73 = .ok (.ifCond .le 8, 3) := by decide +kernel
theorem dX5_valueOf_81 : decode cX5_valueOf 81 = .ok (.lload 7, 2) := by decide +kernel
theorem dX5_valueOf_76 : decode cX5_valueOf 76 = .ok (.lload 5, 2) := by decide +kernel
theorem dX5_valueOf_78 : decode cX5_valueOf 78 = .ok (.goto 5, 3) := by decide +kernel
theorem dX5_valueOf_84 : decode cX5_valueOf 84 = .ok (.lload 5, 2) := by decide +kernel
theorem dX5_valueOf_86 : decode cX5_valueOf 86 = .ok (.lload 7, 2) := by decide +kernel
theorem dX5_valueOf_88 : decode cX5_valueOf 88 = .ok (.ladd, 1) := by decide +kernel
theorem dX5_valueOf_89 : decode cX5_valueOf 89 = .ok (.lreturn, 1) := by decide +kernel
theorem dX5_valueOf_90 : decode cX5_valueOf 90 = .ok (.lload_n 1, 1) := by decide +kernel
theorem dX5_valueOf_91 : decode cX5_valueOf 91 = .ok (.lload_n 3, 1) := by decide +kernel
theorem dX5_valueOf_92 : decode cX5_valueOf 92 = .ok (.ladd, 1) := by decide +kernel
theorem dX5_valueOf_93 : decode cX5_valueOf 93 = .ok (.lreturn, 1) := by decide +kernel
theorem dX5_valueOf_17 : decode cX5_valueOf 17 = .ok (.ifCond .ge 8, 3) := by decide +kernel
theorem dX5_valueOf_25 : decode cX5_valueOf 25 = .ok (.lload_n 3, 1) := by decide +kernel
theorem dX5_valueOf_20 : decode cX5_valueOf 20 = .ok (.lload_n 3, 1) := by decide +kernel
theorem dX5_valueOf_21 : decode cX5_valueOf 21 = .ok (.lneg, 1) := by decide +kernel
theorem dX5_valueOf_22 : decode cX5_valueOf 22 = .ok (.goto 4, 3) := by decide +kernel
theorem dX5_valueOf_3 : decode cX5_valueOf 3 = .ok (.ifCond .ge 8, 3) := by decide +kernel
theorem dX5_valueOf_11 : decode cX5_valueOf 11 = .ok (.lload_n 1, 1) := by decide +kernel
theorem dX5_valueOf_6 : decode cX5_valueOf 6 = .ok (.lload_n 1, 1) := by decide +kernel
theorem dX5_valueOf_7 : decode cX5_valueOf 7 = .ok (.lneg, 1) := by decide +kernel
theorem dX5_valueOf_8 : decode cX5_valueOf 8 = .ok (.goto 4, 3) := by decide +kernel
theorem dX5_isAbove_0 : decode cX5_isAbove 0 = .ok (.aload_n 0, 1) := by decide +kernel
theorem dX5_isAbove_1 : decode cX5_isAbove 1 = .ok (.getfield 11, 3) := by decide +kernel
theorem dX5_isAbove_4 : decode cX5_isAbove 4 = .ok (.bipush 6, 2) := by decide +kernel
theorem dX5_isAbove_6 : decode cX5_isAbove 6 = .ok (.iaload, 1) := by decide +kernel
theorem dX5_isAbove_15 : decode cX5_isAbove 15 = .ok (.ireturn, 1) := by decide +kernel
theorem dX5_isAbove_7 : decode cX5_isAbove 7 = .ok (.ifCond .eq 7, 3) := by decide +kernel
theorem dX5_isAbove_14 : decode cX5_isAbove 14 = .ok (.iconst 0, 1) := by decide +kernel
theorem dX5_isAbove_10 : decode cX5_isAbove 10 = .ok (.iconst 1, 1) := by decide +kernel
theorem dX5_isAbove_11 : decode cX5_isAbove 11 = .ok (.goto 4, 3) := by decide +kernel
def v_s_stands : List Cond := .code yX5_stands cX5_stands 1 (some .boolean) :: ([.fieldLink RX5 11 "HushWatch$State" "row" "[I"] ++ (wsX50 ++ ([])))
theorem gw_s_stands : v_s_stands.all goodWord = true := by decide +kernel
theorem i_s_stands_X5 : ∀ w ∈ wsX50, w ∈ v_s_stands := fun _ h => List.mem_cons_of_mem _ (List.mem_append_right _ (List.mem_append_left _ h))
set_option maxHeartbeats 4000000 in
set_option maxRecDepth 100000 in
theorem s_stands (l : Launch) (E : EE) (h g1 g2 g3 g4 k : Nat) (ka ko : Int32) (f : Nat → Int32) (hk : f 3 = nI k) (hk8 : k ≤ 8) : Met l yX5_stands v_s_stands ({ frames := 0, cells := 0, slots := 0, locals := 0 }) (va_Pc [.ref h] (pP E [(h, .inr (6, [.ref g1, .ref g2, .int ka, .int ko, .ref g3, .ref g4])), (g1, .inl (E.2.1, 81, .inl f))])) (vp_Si (fun r : Int32 => r = 0 ∨ r = 1)) 0 0 (fun _ => False) := by
  refine Met.ofW (cc := cX5_stands) (maxL := 1) (ret := (some .boolean)) (by decide) rfl ?_
  intro p e s m args below meth c s₁ B hml hv
  obtain ⟨rfl, ⟨hK, hN⟩, hP⟩ := hv
  have hx := B.exec
  have hb := B.bytes
  have hr := B.returns
  have hts := atoms_spec (ws := v_s_stands) B.pre
  have hown : s.vm.findClass RX5 = some m.cls := findClass_of_methodNamed B.named
  have hlocks := B.notSynchronized
  have hP : va_P E.1 vwCl [(h, .inr (6, [.ref g1, .ref g2, .int ka, .int ko, .ref g3, .ref g4])), (g1, .inl (E.2.1, 81, .inl f))] s.heap := hP
  have hl := lv_entry ([.ref h]) (n := 1) (Nat.le_of_ble_eq_true rfl)
  rw [lg_entry_eq]
  generalize (lg_sl ([.ref h]) ++ List.replicate (1 - (lg_sl ([.ref h])).length) Slot.unset).toArray = ls at hl ⊢
  have hl : lv_has ls 1 [(0, .ref h)] := hl
  obtain ⟨Q, hQ⟩ : ∃ Q : State → Prop, Q = MQ below (vp_Si (fun r : Int32 => r = 0 ∨ r = 1)) #[Value.ref h] s 0 0 (fun _ => False) := ⟨_, rfl⟩
  rw [← hQ]
  change W p l e ({ frames := 0, cells := 0, slots := 0, locals := 0 } : Room) s m #[Value.ref h] below meth c s.heap [] 0 0 Q (F0 m 0 ls [])
  refine lv_aload_n hx hb dX5_stands_0 rfl (lv_at hl 0 rfl) ?_
  refine va_get (D := E.1) (ci := 6) (v := .ref g1) (C := RX5) (T := TX5) (N := 6) hx hb hts i_s_stands_X5 hown hK hP 0 rfl rfl 0 (by decide) (hts (.fieldLink RX5 11 "HushWatch$State" "row" "[I") (List.mem_of_getElem? (i := 1) rfl)) (fun _ h9 => h9) rfl dX5_stands_1 ?_
  refine lv_iconst (v := 3) hx hb dX5_stands_4 (by decide) ?_
  refine va_iald hx hb hK hP 1 0 rfl rfl (vin rfl) dX5_stands_5 ?_
  refine W.eq (g2 := F0 m 6 ls [.int (f 3)]) rfl ?_
  refine W.eq (g2 := F0 m 6 ls [.int (nI k)]) (by rw [hk]) ?_
  have K_3 : ∀ (y_2 : Nat), ∀ (ls : Array Slot), y_2 ≤ 1 → lv_has ls 1 [(0, .ref h)] → W p l e ({ frames := 0, cells := 0, slots := 0, locals := 0 } : Room) s m #[Value.ref h] below meth c s.heap [] 0 0 Q (F0 m 14 ls [.int (nI y_2)]) := by
    intro y_2 ls hy_2 hl
    rw [hQ]
    exact W.zret (v := nI y_2) hx hb hr (nar_nat (by omega)) (fun tt ht hW => ⟨_, rfl, nat_bool (by omega), ht⟩) (fun _ h => by cases h) dX5_stands_14
  refine lv_if_le (tgt := 13) hx hb dX5_stands_6 (by decide) (fun c_1 => ?_) (fun c_1 => ?_)
  ·
    have d_4 : k ≤ 0 := nc_le (a := k) (b := 0) (by omega) (by omega) c_1
    refine lv_iconst (v := 0) hx hb dX5_stands_13 (by decide) ?_
    exact K_3 0 ls (by omega) (lv_sub hl [0] rfl)
  ·
    have d_5 : ¬ (k ≤ 0) := nc_le_n (a := k) (b := 0) (by omega) (by omega) c_1
    refine lv_iconst (v := 1) hx hb dX5_stands_9 (by decide) ?_
    refine lv_goto (tgt := 14) hx hb dX5_stands_10 (by decide) ?_
    exact K_3 1 ls (by omega) (lv_sub hl [0] rfl)

def v_s_sites : List Cond := .code yX5_sites cX5_sites 1 (some .int) :: ([.fieldLink RX5 11 "HushWatch$State" "row" "[I"] ++ (wsX50 ++ ([])))
theorem gw_s_sites : v_s_sites.all goodWord = true := by decide +kernel
theorem i_s_sites_X5 : ∀ w ∈ wsX50, w ∈ v_s_sites := fun _ h => List.mem_cons_of_mem _ (List.mem_append_right _ (List.mem_append_left _ h))
set_option maxHeartbeats 4000000 in
set_option maxRecDepth 100000 in
theorem s_sites (l : Launch) (E : EE) (h g1 g2 g3 g4 k : Nat) (ka ko : Int32) (f : Nat → Int32) (hk : f 3 = nI k) (hk8 : k ≤ 8) : Met l yX5_sites v_s_sites ({ frames := 0, cells := 0, slots := 0, locals := 0 }) (va_Pc [.ref h] (pP E [(h, .inr (6, [.ref g1, .ref g2, .int ka, .int ko, .ref g3, .ref g4])), (g1, .inl (E.2.1, 81, .inl f))])) (vp_Si (fun r : Int32 => r = nI k)) 0 0 (fun _ => False) := by
  refine Met.ofW (cc := cX5_sites) (maxL := 1) (ret := (some .int)) (by decide) rfl ?_
  intro p e s m args below meth c s₁ B hml hv
  obtain ⟨rfl, ⟨hK, hN⟩, hP⟩ := hv
  have hx := B.exec
  have hb := B.bytes
  have hr := B.returns
  have hts := atoms_spec (ws := v_s_sites) B.pre
  have hown : s.vm.findClass RX5 = some m.cls := findClass_of_methodNamed B.named
  have hlocks := B.notSynchronized
  have hP : va_P E.1 vwCl [(h, .inr (6, [.ref g1, .ref g2, .int ka, .int ko, .ref g3, .ref g4])), (g1, .inl (E.2.1, 81, .inl f))] s.heap := hP
  have hl := lv_entry ([.ref h]) (n := 1) (Nat.le_of_ble_eq_true rfl)
  rw [lg_entry_eq]
  generalize (lg_sl ([.ref h]) ++ List.replicate (1 - (lg_sl ([.ref h])).length) Slot.unset).toArray = ls at hl ⊢
  have hl : lv_has ls 1 [(0, .ref h)] := hl
  obtain ⟨Q, hQ⟩ : ∃ Q : State → Prop, Q = MQ below (vp_Si (fun r : Int32 => r = nI k)) #[Value.ref h] s 0 0 (fun _ => False) := ⟨_, rfl⟩
  rw [← hQ]
  change W p l e ({ frames := 0, cells := 0, slots := 0, locals := 0 } : Room) s m #[Value.ref h] below meth c s.heap [] 0 0 Q (F0 m 0 ls [])
  refine lv_aload_n hx hb dX5_sites_0 rfl (lv_at hl 0 rfl) ?_
  refine va_get (D := E.1) (ci := 6) (v := .ref g1) (C := RX5) (T := TX5) (N := 6) hx hb hts i_s_sites_X5 hown hK hP 0 rfl rfl 0 (by decide) (hts (.fieldLink RX5 11 "HushWatch$State" "row" "[I") (List.mem_of_getElem? (i := 1) rfl)) (fun _ h9 => h9) rfl dX5_sites_1 ?_
  refine lv_iconst (v := 3) hx hb dX5_sites_4 (by decide) ?_
  refine va_iald hx hb hK hP 1 0 rfl rfl (vin rfl) dX5_sites_5 ?_
  refine W.eq (g2 := F0 m 6 ls [.int (f 3)]) rfl ?_
  refine W.eq (g2 := F0 m 6 ls [.int (nI k)]) (by rw [hk]) ?_
  rw [hQ]
  exact W.iret (v := nI k) hx hb hr (fun tt ht hW => ⟨_, rfl, rfl, ht⟩) (fun _ h => by cases h) dX5_sites_6

def v_s_hasSite : List Cond := .code yX5_hasSite cX5_hasSite 2 (some .boolean) :: ([.fieldLink RX5 11 "HushWatch$State" "row" "[I"] ++ (wsX50 ++ ([])))
theorem gw_s_hasSite : v_s_hasSite.all goodWord = true := by decide +kernel
theorem i_s_hasSite_X5 : ∀ w ∈ wsX50, w ∈ v_s_hasSite := fun _ h => List.mem_cons_of_mem _ (List.mem_append_right _ (List.mem_append_left _ h))
set_option maxHeartbeats 4000000 in
set_option maxRecDepth 100000 in
theorem s_hasSite (l : Launch) (E : EE) (h g1 g2 g3 g4 k : Nat) (ka ko : Int32) (f : Nat → Int32) (p0 : Int32) (hk : f 3 = nI k) (hk8 : k ≤ 8) : Met l yX5_hasSite v_s_hasSite ({ frames := 0, cells := 0, slots := 0, locals := 0 }) (va_Pc [.ref h, .int p0] (pP E [(h, .inr (6, [.ref g1, .ref g2, .int ka, .int ko, .ref g3, .ref g4])), (g1, .inl (E.2.1, 81, .inl f))])) (vp_Si (fun r : Int32 => r = 0 ∨ r = 1)) 0 0 (fun _ => False) := by
  refine Met.ofW (cc := cX5_hasSite) (maxL := 2) (ret := (some .boolean)) (by decide) rfl ?_
  intro p e s m args below meth c s₁ B hml hv
  obtain ⟨rfl, ⟨hK, hN⟩, hP⟩ := hv
  have hx := B.exec
  have hb := B.bytes
  have hr := B.returns
  have hts := atoms_spec (ws := v_s_hasSite) B.pre
  have hown : s.vm.findClass RX5 = some m.cls := findClass_of_methodNamed B.named
  have hlocks := B.notSynchronized
  have hP : va_P E.1 vwCl [(h, .inr (6, [.ref g1, .ref g2, .int ka, .int ko, .ref g3, .ref g4])), (g1, .inl (E.2.1, 81, .inl f))] s.heap := hP
  have hl := lv_entry ([.ref h, .int p0]) (n := 2) (Nat.le_of_ble_eq_true rfl)
  rw [lg_entry_eq]
  generalize (lg_sl ([.ref h, .int p0]) ++ List.replicate (2 - (lg_sl ([.ref h, .int p0])).length) Slot.unset).toArray = ls at hl ⊢
  have hl : lv_has ls 2 [(0, .ref h), (1, .int p0)] := hl
  obtain ⟨Q, hQ⟩ : ∃ Q : State → Prop, Q = MQ below (vp_Si (fun r : Int32 => r = 0 ∨ r = 1)) #[Value.ref h, Value.int p0] s 0 0 (fun _ => False) := ⟨_, rfl⟩
  rw [← hQ]
  change W p l e ({ frames := 0, cells := 0, slots := 0, locals := 0 } : Room) s m #[Value.ref h, Value.int p0] below meth c s.heap [] 0 0 Q (F0 m 0 ls [])
  refine lv_iload_n hx hb dX5_hasSite_0 rfl (lv_at hl 1 rfl) ?_
  have K_16 : ∀ (y_15 : Nat), ∀ (ls : Array Slot), y_15 ≤ 1 → lv_has ls 2 [(0, .ref h), (1, .int p0)] → W p l e ({ frames := 0, cells := 0, slots := 0, locals := 0 } : Room) s m #[Value.ref h, Value.int p0] below meth c s.heap [] 0 0 Q (F0 m 25 ls [.int (nI y_15)]) := by
    intro y_15 ls hy_15 hl
    rw [hQ]
    exact W.zret (v := nI y_15) hx hb hr (nar_nat (by omega)) (fun tt ht hW => ⟨_, rfl, nat_bool (by omega), ht⟩) (fun _ h => by cases h) dX5_hasSite_25
  refine lv_if_lt (tgt := 24) hx hb dX5_hasSite_1 (by decide) (fun c_1 => ?_) (fun c_1 => ?_)
  ·
    refine lv_iconst (v := 0) hx hb dX5_hasSite_24 (by decide) ?_
    exact K_16 0 ls (by omega) (lv_sub hl [0, 1] rfl)
  ·
    refine lv_iload_n hx hb dX5_hasSite_4 rfl (lv_at hl 1 rfl) ?_
    refine lv_aload_n hx hb dX5_hasSite_5 rfl (lv_at hl 0 rfl) ?_
    refine va_get (D := E.1) (ci := 6) (v := .ref g1) (C := RX5) (T := TX5) (N := 6) hx hb hts i_s_hasSite_X5 hown hK hP 0 rfl rfl 0 (by decide) (hts (.fieldLink RX5 11 "HushWatch$State" "row" "[I") (List.mem_of_getElem? (i := 1) rfl)) (fun _ h9 => h9) rfl dX5_hasSite_6 ?_
    refine lv_iconst (v := 3) hx hb dX5_hasSite_9 (by decide) ?_
    refine va_iald hx hb hK hP 1 0 rfl rfl (vin rfl) dX5_hasSite_10 ?_
    refine W.eq (g2 := F0 m 11 ls [.int (f 3), .int p0]) rfl ?_
    refine W.eq (g2 := F0 m 11 ls [.int (nI k), .int p0]) (by rw [hk]) ?_
    have K_24 : ∀ (y_23 : Nat), ∀ (ls : Array Slot), y_23 ≤ 1 → lv_has ls 2 [(0, .ref h), (1, .int p0)] → W p l e ({ frames := 0, cells := 0, slots := 0, locals := 0 } : Room) s m #[Value.ref h, Value.int p0] below meth c s.heap [] 0 0 Q (F0 m 25 ls [.int (nI y_23)]) := by
      intro y_23 ls hy_23 hl
      exact K_16 y_23 ls (by omega) (lv_sub hl [0, 1] rfl)
    refine lv_icmp_ge (tgt := 24) hx hb dX5_hasSite_11 (by decide) (fun c_17 => ?_) (fun c_17 => ?_)
    ·
      refine lv_iconst (v := 0) hx hb dX5_hasSite_24 (by decide) ?_
      exact K_24 0 ls (by omega) (lv_sub hl [0, 1] rfl)
    ·
      refine lv_iload_n hx hb dX5_hasSite_14 rfl (lv_at hl 1 rfl) ?_
      refine lv_bipush (v := 8) hx hb dX5_hasSite_15 (by decide) ?_
      have K_28 : ∀ (y_27 : Nat), ∀ (ls : Array Slot), y_27 ≤ 1 → lv_has ls 2 [(0, .ref h), (1, .int p0)] → W p l e ({ frames := 0, cells := 0, slots := 0, locals := 0 } : Room) s m #[Value.ref h, Value.int p0] below meth c s.heap [] 0 0 Q (F0 m 25 ls [.int (nI y_27)]) := by
        intro y_27 ls hy_27 hl
        exact K_24 y_27 ls (by omega) (lv_sub hl [0, 1] rfl)
      refine lv_icmp_ge (tgt := 24) hx hb dX5_hasSite_17 (by decide) (fun c_25 => ?_) (fun c_25 => ?_)
      ·
        refine lv_iconst (v := 0) hx hb dX5_hasSite_24 (by decide) ?_
        exact K_28 0 ls (by omega) (lv_sub hl [0, 1] rfl)
      ·
        obtain ⟨j_29, hj_29, ej_29⟩ : ∃ j : Nat, j ≤ 7 ∧ p0 = nI j := nat_rng (by have t0 : (0 : Int32).toInt = 0 := (by decide); have t1 : (7 : Int32).toInt = 7 := (by decide); have t2 : (8 : Int32).toInt = 8 := (by decide); simp only [Int32.lt_iff_toInt_lt, Int32.le_iff_toInt_le, ge_iff_le, gt_iff_lt, ne_eq, ← Int32.toInt_inj, t0, t1, t2] at c_1 c_25 ⊢; omega)
        refine lv_iconst (v := 1) hx hb dX5_hasSite_20 (by decide) ?_
        refine lv_goto (tgt := 25) hx hb dX5_hasSite_21 (by decide) ?_
        exact K_28 1 ls (by omega) (lv_sub hl [0, 1] rfl)

def v_s_of : List Cond := .code yX5_of cX5_of 3 (some .int) :: ([.fieldLink RX5 11 "HushWatch$State" "row" "[I"] ++ (wsX50 ++ ([])))
theorem gw_s_of : v_s_of.all goodWord = true := by decide +kernel
theorem i_s_of_X5 : ∀ w ∈ wsX50, w ∈ v_s_of := fun _ h => List.mem_cons_of_mem _ (List.mem_append_right _ (List.mem_append_left _ h))
set_option maxHeartbeats 4000000 in
set_option maxRecDepth 100000 in
theorem s_of (l : Launch) (E : EE) (h g1 g2 g3 g4 k : Nat) (ka ko : Int32) (f : Nat → Int32) (p0 p1 : Int32) (hk : f 3 = nI k) (hk8 : k ≤ 8) : Met l yX5_of v_s_of ({ frames := 0, cells := 0, slots := 0, locals := 0 }) (va_Pc [.ref h, .int p0, .int p1] (pP E [(h, .inr (6, [.ref g1, .ref g2, .int ka, .int ko, .ref g3, .ref g4])), (g1, .inl (E.2.1, 81, .inl f))])) (vp_Si (fun r : Int32 => True)) 0 0 (fun _ => False) := by
  refine Met.ofW (cc := cX5_of) (maxL := 3) (ret := (some .int)) (by decide) rfl ?_
  intro p e s m args below meth c s₁ B hml hv
  obtain ⟨rfl, ⟨hK, hN⟩, hP⟩ := hv
  have hx := B.exec
  have hb := B.bytes
  have hr := B.returns
  have hts := atoms_spec (ws := v_s_of) B.pre
  have hown : s.vm.findClass RX5 = some m.cls := findClass_of_methodNamed B.named
  have hlocks := B.notSynchronized
  have hP : va_P E.1 vwCl [(h, .inr (6, [.ref g1, .ref g2, .int ka, .int ko, .ref g3, .ref g4])), (g1, .inl (E.2.1, 81, .inl f))] s.heap := hP
  have hl := lv_entry ([.ref h, .int p0, .int p1]) (n := 3) (Nat.le_of_ble_eq_true rfl)
  rw [lg_entry_eq]
  generalize (lg_sl ([.ref h, .int p0, .int p1]) ++ List.replicate (3 - (lg_sl ([.ref h, .int p0, .int p1])).length) Slot.unset).toArray = ls at hl ⊢
  have hl : lv_has ls 3 [(0, .ref h), (1, .int p0), (2, .int p1)] := hl
  obtain ⟨Q, hQ⟩ : ∃ Q : State → Prop, Q = MQ below (vp_Si (fun r : Int32 => True)) #[Value.ref h, Value.int p0, Value.int p1] s 0 0 (fun _ => False) := ⟨_, rfl⟩
  rw [← hQ]
  change W p l e ({ frames := 0, cells := 0, slots := 0, locals := 0 } : Room) s m #[Value.ref h, Value.int p0, Value.int p1] below meth c s.heap [] 0 0 Q (F0 m 0 ls [])
  refine lv_iload_n hx hb dX5_of_0 rfl (lv_at hl 1 rfl) ?_
  refine lv_if_lt (tgt := 20) hx hb dX5_of_1 (by decide) (fun c_1 => ?_) (fun c_1 => ?_)
  ·
    refine lv_iconst (v := 0) hx hb dX5_of_20 (by decide) ?_
    rw [hQ]
    exact W.iret (v := 0) hx hb hr (fun tt ht hW => ⟨_, rfl, trivial, ht⟩) (fun _ h => by cases h) dX5_of_21
  ·
    refine lv_iload_n hx hb dX5_of_4 rfl (lv_at hl 1 rfl) ?_
    refine lv_bipush (v := 8) hx hb dX5_of_5 (by decide) ?_
    refine lv_icmp_ge (tgt := 20) hx hb dX5_of_7 (by decide) (fun c_2 => ?_) (fun c_2 => ?_)
    ·
      refine lv_iconst (v := 0) hx hb dX5_of_20 (by decide) ?_
      rw [hQ]
      exact W.iret (v := 0) hx hb hr (fun tt ht hW => ⟨_, rfl, trivial, ht⟩) (fun _ h => by cases h) dX5_of_21
    ·
      obtain ⟨j_3, hj_3, ej_3⟩ : ∃ j : Nat, j ≤ 7 ∧ p0 = nI j := nat_rng (by have t0 : (0 : Int32).toInt = 0 := (by decide); have t1 : (7 : Int32).toInt = 7 := (by decide); have t2 : (8 : Int32).toInt = 8 := (by decide); simp only [Int32.lt_iff_toInt_lt, Int32.le_iff_toInt_le, ge_iff_le, gt_iff_lt, ne_eq, ← Int32.toInt_inj, t0, t1, t2] at c_1 c_2 ⊢; omega)
      refine lv_iload_n hx hb dX5_of_10 rfl (lv_at hl 2 rfl) ?_
      refine lv_if_lt (tgt := 20) hx hb dX5_of_11 (by decide) (fun c_4 => ?_) (fun c_4 => ?_)
      ·
        refine lv_iconst (v := 0) hx hb dX5_of_20 (by decide) ?_
        rw [hQ]
        exact W.iret (v := 0) hx hb hr (fun tt ht hW => ⟨_, rfl, trivial, ht⟩) (fun _ h => by cases h) dX5_of_21
      ·
        refine lv_iload_n hx hb dX5_of_14 rfl (lv_at hl 2 rfl) ?_
        refine lv_bipush (v := 8) hx hb dX5_of_15 (by decide) ?_
        refine lv_icmp_lt (tgt := 22) hx hb dX5_of_17 (by decide) (fun c_5 => ?_) (fun c_5 => ?_)
        ·
          obtain ⟨j_6, hj_6, ej_6⟩ : ∃ j : Nat, j ≤ 7 ∧ p1 = nI j := nat_rng (by have t0 : (0 : Int32).toInt = 0 := (by decide); have t1 : (7 : Int32).toInt = 7 := (by decide); have t2 : (8 : Int32).toInt = 8 := (by decide); simp only [Int32.lt_iff_toInt_lt, Int32.le_iff_toInt_le, ge_iff_le, gt_iff_lt, ne_eq, ← Int32.toInt_inj, t0, t1, t2] at c_4 c_5 ⊢; omega)
          refine lv_aload_n hx hb dX5_of_22 rfl (lv_at hl 0 rfl) ?_
          refine va_get (D := E.1) (ci := 6) (v := .ref g1) (C := RX5) (T := TX5) (N := 6) hx hb hts i_s_of_X5 hown hK hP 0 rfl rfl 0 (by decide) (hts (.fieldLink RX5 11 "HushWatch$State" "row" "[I") (List.mem_of_getElem? (i := 1) rfl)) (fun _ h9 => h9) rfl dX5_of_23 ?_
          refine lv_bipush (v := 17) hx hb dX5_of_26 (by decide) ?_
          refine lv_iload_n hx hb dX5_of_28 rfl (lv_at hl 1 rfl) ?_
          refine W.eq (g2 := F0 m 29 ls [.int (nI j_3), .int 17, .ref g1]) (by rw [ej_3]) ?_
          refine lv_bipush (v := 8) hx hb dX5_of_29 (by decide) ?_
          refine lv_imul hx hb dX5_of_31 ?_
          refine lv_topi (fun z_7 ez_7 => ?_)
          obtain rfl : z_7 = nI (j_3 * 8) := ez_7.trans (nI_mul _ 8)
          refine lv_iadd hx hb dX5_of_32 ?_
          refine lv_topi (fun z_8 ez_8 => ?_)
          obtain rfl : z_8 = nI (17 + j_3 * 8) := ez_8.trans (nI_add 17 _)
          refine lv_iload_n hx hb dX5_of_33 rfl (lv_at hl 2 rfl) ?_
          refine W.eq (g2 := F0 m 34 ls [.int (nI j_6), .int (nI (17 + j_3 * 8)), .ref g1]) (by rw [ej_6]) ?_
          refine lv_iadd hx hb dX5_of_34 ?_
          refine lv_topi (fun z_9 ez_9 => ?_)
          obtain rfl : z_9 = nI (17 + j_3 * 8 + j_6) := ez_9.trans (nI_add _ _)
          refine va_iald hx hb hK hP 1 0 rfl rfl (vp_in_nI (by omega) (by decide)) dX5_of_35 ?_
          refine lv_topi (fun z_10 ez_10 => ?_)
          rw [hQ]
          exact W.iret (v := z_10) hx hb hr (fun tt ht hW => ⟨_, rfl, trivial, ht⟩) (fun _ h => by cases h) dX5_of_36
        ·
          refine lv_iconst (v := 0) hx hb dX5_of_20 (by decide) ?_
          rw [hQ]
          exact W.iret (v := 0) hx hb hr (fun tt ht hW => ⟨_, rfl, trivial, ht⟩) (fun _ h => by cases h) dX5_of_21

def v_s_put : List Cond := .code yX5_put cX5_put 4 none :: ([.fieldLink RX5 11 "HushWatch$State" "row" "[I"] ++ (wsX50 ++ ([])))
theorem gw_s_put : v_s_put.all goodWord = true := by decide +kernel
theorem i_s_put_X5 : ∀ w ∈ wsX50, w ∈ v_s_put := fun _ h => List.mem_cons_of_mem _ (List.mem_append_right _ (List.mem_append_left _ h))
set_option maxHeartbeats 4000000 in
set_option maxRecDepth 100000 in
theorem s_put (l : Launch) (E : EE) (sz : Nat) (h g1 g2 g3 g4 k : Nat) (ka ko : Int32) (f : Nat → Int32) (p0 p1 p2 : Int32) (hk : f 3 = nI k) (hk8 : k ≤ 8) : Met l yX5_put v_s_put ({ frames := 0, cells := 0, slots := 0, locals := 0 }) (va_Pc [.ref h, .int p0, .int p1, .int p2] (pW E sz [(h, .inr (6, [.ref g1, .ref g2, .int ka, .int ko, .ref g3, .ref g4])), (g1, .inl (E.2.1, 81, .inl f))])) (va_Qv (fun (f1 : Nat → Int32) => f1 3 = nI k) (fun (f1 : Nat → Int32) tt => va_P E.1 vwCl [(h, .inr (6, [.ref g1, .ref g2, .int ka, .int ko, .ref g3, .ref g4])), (g1, .inl (E.2.1, 81, .inl f1))] tt.heap ∧ va_D (va_A [(h, .inr (6, [.ref g1, .ref g2, .int ka, .int ko, .ref g3, .ref g4])), (g1, .inl (E.2.1, 81, .inl f))] sz) [(h, .inr (6, [.ref g1, .ref g2, .int ka, .int ko, .ref g3, .ref g4])), (g1, .inl (E.2.1, 81, .inl f1))]) (va_A [(h, .inr (6, [.ref g1, .ref g2, .int ka, .int ko, .ref g3, .ref g4])), (g1, .inl (E.2.1, 81, .inl f))] sz)) 0 0 (va_A [(h, .inr (6, [.ref g1, .ref g2, .int ka, .int ko, .ref g3, .ref g4])), (g1, .inl (E.2.1, 81, .inl f))] sz) := by
  refine Met.ofW (cc := cX5_put) (maxL := 4) (ret := none) (by decide) rfl ?_
  intro p e s m args below meth c s₁ B hml hv
  obtain ⟨rfl, hsz, ⟨hK, hN⟩, hP, hD0⟩ := hv
  have hx := B.exec
  have hb := B.bytes
  have hr := B.returns
  have hts := atoms_spec (ws := v_s_put) B.pre
  have hown : s.vm.findClass RX5 = some m.cls := findClass_of_methodNamed B.named
  have hlocks := B.notSynchronized
  subst hsz
  have hD := hD0.self (sz := s.heap.size)
  generalize hAe : va_A [(h, .inr (6, [.ref g1, .ref g2, .int ka, .int ko, .ref g3, .ref g4])), (g1, .inl (E.2.1, 81, .inl f))] s.heap.size = A at hD ⊢
  have hA : ∀ q : Nat, s.heap.size ≤ q → A q := fun q h => by rw [← hAe]; exact Or.inr h
  have hS : va_S A s.heap s.heap [] := va_S.rf
  have hP : va_P E.1 vwCl [(h, .inr (6, [.ref g1, .ref g2, .int ka, .int ko, .ref g3, .ref g4])), (g1, .inl (E.2.1, 81, .inl f))] s.heap := hP
  have hl := lv_entry ([.ref h, .int p0, .int p1, .int p2]) (n := 4) (Nat.le_of_ble_eq_true rfl)
  rw [lg_entry_eq]
  generalize (lg_sl ([.ref h, .int p0, .int p1, .int p2]) ++ List.replicate (4 - (lg_sl ([.ref h, .int p0, .int p1, .int p2])).length) Slot.unset).toArray = ls at hl ⊢
  have hl : lv_has ls 4 [(0, .ref h), (1, .int p0), (2, .int p1), (3, .int p2)] := hl
  obtain ⟨Q, hQ⟩ : ∃ Q : State → Prop, Q = MQ below (va_Qv (fun (f1 : Nat → Int32) => f1 3 = nI k) (fun (f1 : Nat → Int32) tt => va_P E.1 vwCl [(h, .inr (6, [.ref g1, .ref g2, .int ka, .int ko, .ref g3, .ref g4])), (g1, .inl (E.2.1, 81, .inl f1))] tt.heap ∧ va_D A [(h, .inr (6, [.ref g1, .ref g2, .int ka, .int ko, .ref g3, .ref g4])), (g1, .inl (E.2.1, 81, .inl f1))]) A) #[Value.ref h, Value.int p0, Value.int p1, Value.int p2] s 0 0 A := ⟨_, rfl⟩
  rw [← hQ]
  change W p l e ({ frames := 0, cells := 0, slots := 0, locals := 0 } : Room) s m #[Value.ref h, Value.int p0, Value.int p1, Value.int p2] below meth c s.heap [] 0 0 Q (F0 m 0 ls [])
  refine lv_iload_n hx hb dX5_put_0 rfl (lv_at hl 1 rfl) ?_
  have K_66 : ∀ (g_65 : Nat → Int32), ∀ (H : Heap) (locs : List Loc) (ls : Array Slot), g_65 3 = nI k → va_P E.1 vwCl [(h, .inr (6, [.ref g1, .ref g2, .int ka, .int ko, .ref g3, .ref g4])), (g1, .inl (E.2.1, 81, .inl g_65))] H → va_D A [(h, .inr (6, [.ref g1, .ref g2, .int ka, .int ko, .ref g3, .ref g4])), (g1, .inl (E.2.1, 81, .inl g_65))] → va_S A s.heap H locs → lv_has ls 4 [(0, .ref h), (1, .int p0), (2, .int p1), (3, .int p2)] → W p l e ({ frames := 0, cells := 0, slots := 0, locals := 0 } : Room) s m #[Value.ref h, Value.int p0, Value.int p1, Value.int p2] below meth c H locs 0 0 Q (F0 m 35 ls []) := by
    intro g_65 H locs ls kg_65_3 hP hD hS hl
    rw [hQ]
    have hP9 := hP.sub (ws' := [(h, .inr (6, [.ref g1, .ref g2, .int ka, .int ko, .ref g3, .ref g4])), (g1, .inl (E.2.1, 81, .inl g_65))]) [0, 1] rfl
    have hD9 := hD.sub (ws' := [(h, .inr (6, [.ref g1, .ref g2, .int ka, .int ko, .ref g3, .ref g4])), (g1, .inl (E.2.1, 81, .inl g_65))]) [0, 1] (by decide) rfl
    exact W.vret hx hb hr (fun tt ht hW => ⟨⟨g_65, rfl, kg_65_3, by rw [ht]; exact hP9, hD9⟩, hS.F ht⟩) hS.2.2 dX5_put_35
  refine lv_if_lt (tgt := 35) hx hb dX5_put_1 (by decide) (fun c_1 => ?_) (fun c_1 => ?_)
  ·
    exact K_66 f s.heap [] ls hk (hP.sub [0, 1] rfl) (hD.sub [0, 1] (by decide) rfl) hS (lv_sub hl [0, 1, 2, 3] rfl)
  ·
    refine lv_iload_n hx hb dX5_put_4 rfl (lv_at hl 1 rfl) ?_
    refine lv_bipush (v := 8) hx hb dX5_put_5 (by decide) ?_
    have K_99 : ∀ (g_98 : Nat → Int32), ∀ (H : Heap) (locs : List Loc) (ls : Array Slot), g_98 3 = nI k → va_P E.1 vwCl [(h, .inr (6, [.ref g1, .ref g2, .int ka, .int ko, .ref g3, .ref g4])), (g1, .inl (E.2.1, 81, .inl g_98))] H → va_D A [(h, .inr (6, [.ref g1, .ref g2, .int ka, .int ko, .ref g3, .ref g4])), (g1, .inl (E.2.1, 81, .inl g_98))] → va_S A s.heap H locs → lv_has ls 4 [(0, .ref h), (1, .int p0), (2, .int p1), (3, .int p2)] → W p l e ({ frames := 0, cells := 0, slots := 0, locals := 0 } : Room) s m #[Value.ref h, Value.int p0, Value.int p1, Value.int p2] below meth c H locs 0 0 Q (F0 m 35 ls []) := by
      intro g_98 H locs ls kg_98_3 hP hD hS hl
      exact K_66 g_98 H locs ls kg_98_3 (hP.sub [0, 1] rfl) (hD.sub [0, 1] (by decide) rfl) hS (lv_sub hl [0, 1, 2, 3] rfl)
    refine lv_icmp_ge (tgt := 35) hx hb dX5_put_7 (by decide) (fun c_67 => ?_) (fun c_67 => ?_)
    ·
      exact K_99 f s.heap [] ls hk (hP.sub [0, 1] rfl) (hD.sub [0, 1] (by decide) rfl) hS (lv_sub hl [0, 1, 2, 3] rfl)
    ·
      obtain ⟨j_100, hj_100, ej_100⟩ : ∃ j : Nat, j ≤ 7 ∧ p0 = nI j := nat_rng (by have t0 : (0 : Int32).toInt = 0 := (by decide); have t1 : (7 : Int32).toInt = 7 := (by decide); have t2 : (8 : Int32).toInt = 8 := (by decide); simp only [Int32.lt_iff_toInt_lt, Int32.le_iff_toInt_le, ge_iff_le, gt_iff_lt, ne_eq, ← Int32.toInt_inj, t0, t1, t2] at c_1 c_67 ⊢; omega)
      refine lv_iload_n hx hb dX5_put_10 rfl (lv_at hl 2 rfl) ?_
      have K_116 : ∀ (g_115 : Nat → Int32), ∀ (H : Heap) (locs : List Loc) (ls : Array Slot), g_115 3 = nI k → va_P E.1 vwCl [(h, .inr (6, [.ref g1, .ref g2, .int ka, .int ko, .ref g3, .ref g4])), (g1, .inl (E.2.1, 81, .inl g_115))] H → va_D A [(h, .inr (6, [.ref g1, .ref g2, .int ka, .int ko, .ref g3, .ref g4])), (g1, .inl (E.2.1, 81, .inl g_115))] → va_S A s.heap H locs → lv_has ls 4 [(0, .ref h), (1, .int p0), (2, .int p1), (3, .int p2)] → W p l e ({ frames := 0, cells := 0, slots := 0, locals := 0 } : Room) s m #[Value.ref h, Value.int p0, Value.int p1, Value.int p2] below meth c H locs 0 0 Q (F0 m 35 ls []) := by
        intro g_115 H locs ls kg_115_3 hP hD hS hl
        exact K_99 g_115 H locs ls kg_115_3 (hP.sub [0, 1] rfl) (hD.sub [0, 1] (by decide) rfl) hS (lv_sub hl [0, 1, 2, 3] rfl)
      refine lv_if_lt (tgt := 35) hx hb dX5_put_11 (by decide) (fun c_101 => ?_) (fun c_101 => ?_)
      ·
        exact K_116 f s.heap [] ls hk (hP.sub [0, 1] rfl) (hD.sub [0, 1] (by decide) rfl) hS (lv_sub hl [0, 1, 2, 3] rfl)
      ·
        refine lv_iload_n hx hb dX5_put_14 rfl (lv_at hl 2 rfl) ?_
        refine lv_bipush (v := 8) hx hb dX5_put_15 (by decide) ?_
        have K_124 : ∀ (g_123 : Nat → Int32), ∀ (H : Heap) (locs : List Loc) (ls : Array Slot), g_123 3 = nI k → va_P E.1 vwCl [(h, .inr (6, [.ref g1, .ref g2, .int ka, .int ko, .ref g3, .ref g4])), (g1, .inl (E.2.1, 81, .inl g_123))] H → va_D A [(h, .inr (6, [.ref g1, .ref g2, .int ka, .int ko, .ref g3, .ref g4])), (g1, .inl (E.2.1, 81, .inl g_123))] → va_S A s.heap H locs → lv_has ls 4 [(0, .ref h), (1, .int p0), (2, .int p1), (3, .int p2)] → W p l e ({ frames := 0, cells := 0, slots := 0, locals := 0 } : Room) s m #[Value.ref h, Value.int p0, Value.int p1, Value.int p2] below meth c H locs 0 0 Q (F0 m 35 ls []) := by
          intro g_123 H locs ls kg_123_3 hP hD hS hl
          exact K_116 g_123 H locs ls kg_123_3 (hP.sub [0, 1] rfl) (hD.sub [0, 1] (by decide) rfl) hS (lv_sub hl [0, 1, 2, 3] rfl)
        refine lv_icmp_ge (tgt := 35) hx hb dX5_put_17 (by decide) (fun c_117 => ?_) (fun c_117 => ?_)
        ·
          exact K_124 f s.heap [] ls hk (hP.sub [0, 1] rfl) (hD.sub [0, 1] (by decide) rfl) hS (lv_sub hl [0, 1, 2, 3] rfl)
        ·
          obtain ⟨j_125, hj_125, ej_125⟩ : ∃ j : Nat, j ≤ 7 ∧ p1 = nI j := nat_rng (by have t0 : (0 : Int32).toInt = 0 := (by decide); have t1 : (7 : Int32).toInt = 7 := (by decide); have t2 : (8 : Int32).toInt = 8 := (by decide); simp only [Int32.lt_iff_toInt_lt, Int32.le_iff_toInt_le, ge_iff_le, gt_iff_lt, ne_eq, ← Int32.toInt_inj, t0, t1, t2] at c_101 c_117 ⊢; omega)
          refine lv_aload_n hx hb dX5_put_20 rfl (lv_at hl 0 rfl) ?_
          refine va_get (D := E.1) (ci := 6) (v := .ref g1) (C := RX5) (T := TX5) (N := 6) hx hb hts i_s_put_X5 hown hK hP 0 rfl rfl 0 (by decide) (hts (.fieldLink RX5 11 "HushWatch$State" "row" "[I") (List.mem_of_getElem? (i := 1) rfl)) (fun _ h9 => h9) rfl dX5_put_21 ?_
          refine lv_bipush (v := 17) hx hb dX5_put_24 (by decide) ?_
          refine lv_iload_n hx hb dX5_put_26 rfl (lv_at hl 1 rfl) ?_
          refine W.eq (g2 := F0 m 27 ls [.int (nI j_100), .int 17, .ref g1]) (by rw [ej_100]) ?_
          refine lv_bipush (v := 8) hx hb dX5_put_27 (by decide) ?_
          refine lv_imul hx hb dX5_put_29 ?_
          refine lv_topi (fun z_126 ez_126 => ?_)
          obtain rfl : z_126 = nI (j_100 * 8) := ez_126.trans (nI_mul _ 8)
          refine lv_iadd hx hb dX5_put_30 ?_
          refine lv_topi (fun z_127 ez_127 => ?_)
          obtain rfl : z_127 = nI (17 + j_100 * 8) := ez_127.trans (nI_add 17 _)
          refine lv_iload_n hx hb dX5_put_31 rfl (lv_at hl 2 rfl) ?_
          refine W.eq (g2 := F0 m 32 ls [.int (nI j_125), .int (nI (17 + j_100 * 8)), .ref g1]) (by rw [ej_125]) ?_
          refine lv_iadd hx hb dX5_put_32 ?_
          refine lv_topi (fun z_128 ez_128 => ?_)
          obtain rfl : z_128 = nI (17 + j_100 * 8 + j_125) := ez_128.trans (nI_add _ _)
          refine lv_iload_n hx hb dX5_put_33 rfl (lv_at hl 3 rfl) ?_
          refine va_iast hx hb hK hP hD hS 1 0 rfl rfl (vp_in_nI (by omega) (by decide)) dX5_put_34 (fun H locs hP hD hS => ?_)
          have hP : va_P E.1 vwCl [(h, .inr (6, [.ref g1, .ref g2, .int ka, .int ko, .ref g3, .ref g4])), (g1, .inl (E.2.1, 81, .inl (upd f (nI (17 + j_100 * 8 + j_125) : Int32).toNatClampNeg p2)))] H := hP
          have hD : va_D A [(h, .inr (6, [.ref g1, .ref g2, .int ka, .int ko, .ref g3, .ref g4])), (g1, .inl (E.2.1, 81, .inl (upd f (nI (17 + j_100 * 8 + j_125) : Int32).toNatClampNeg p2)))] := hD
          obtain ⟨f_129, hf_129⟩ : ∃ g : Nat → Int32, g = upd f (nI (17 + j_100 * 8 + j_125) : Int32).toNatClampNeg p2 := ⟨_, rfl⟩
          rw [← hf_129] at hP hD
          have kf_129_3 : f_129 3 = nI k := by rw [hf_129]; exact (upd_ne (by rw [nI_clamp (by omega)]; omega)).trans hk
          exact K_124 f_129 H locs ls kf_129_3 (hP.sub [0, 1] rfl) (hD.sub [0, 1] (by decide) rfl) hS (lv_sub hl [0, 1, 2, 3] rfl)

def v_s_drift : List Cond := .code yX5_drift cX5_drift 4 (some .int) :: ([.fieldLink RX5 11 "HushWatch$State" "row" "[I"] ++ (wsX50 ++ ([])))
theorem gw_s_drift : v_s_drift.all goodWord = true := by decide +kernel
theorem i_s_drift_X5 : ∀ w ∈ wsX50, w ∈ v_s_drift := fun _ h => List.mem_cons_of_mem _ (List.mem_append_right _ (List.mem_append_left _ h))
set_option maxHeartbeats 4000000 in
set_option maxRecDepth 100000 in
theorem s_drift (l : Launch) (E : EE) (h g1 g2 g3 g4 k : Nat) (ka ko : Int32) (f : Nat → Int32) (p0 p1 : Int32) (hk : f 3 = nI k) (hk8 : k ≤ 8) : Met l yX5_drift v_s_drift ({ frames := 0, cells := 0, slots := 0, locals := 0 }) (va_Pc [.ref h, .int p0, .int p1] (pP E [(h, .inr (6, [.ref g1, .ref g2, .int ka, .int ko, .ref g3, .ref g4])), (g1, .inl (E.2.1, 81, .inl f))])) (vp_Si (fun r : Int32 => True)) 0 0 (fun _ => False) := by
  refine Met.ofW (cc := cX5_drift) (maxL := 4) (ret := (some .int)) (by decide) rfl ?_
  intro p e s m args below meth c s₁ B hml hv
  obtain ⟨rfl, ⟨hK, hN⟩, hP⟩ := hv
  have hx := B.exec
  have hb := B.bytes
  have hr := B.returns
  have hts := atoms_spec (ws := v_s_drift) B.pre
  have hown : s.vm.findClass RX5 = some m.cls := findClass_of_methodNamed B.named
  have hlocks := B.notSynchronized
  have hP : va_P E.1 vwCl [(h, .inr (6, [.ref g1, .ref g2, .int ka, .int ko, .ref g3, .ref g4])), (g1, .inl (E.2.1, 81, .inl f))] s.heap := hP
  have hl := lv_entry ([.ref h, .int p0, .int p1]) (n := 4) (Nat.le_of_ble_eq_true rfl)
  rw [lg_entry_eq]
  generalize (lg_sl ([.ref h, .int p0, .int p1]) ++ List.replicate (4 - (lg_sl ([.ref h, .int p0, .int p1])).length) Slot.unset).toArray = ls at hl ⊢
  have hl : lv_has ls 4 [(0, .ref h), (1, .int p0), (2, .int p1)] := hl
  obtain ⟨Q, hQ⟩ : ∃ Q : State → Prop, Q = MQ below (vp_Si (fun r : Int32 => True)) #[Value.ref h, Value.int p0, Value.int p1] s 0 0 (fun _ => False) := ⟨_, rfl⟩
  rw [← hQ]
  change W p l e ({ frames := 0, cells := 0, slots := 0, locals := 0 } : Room) s m #[Value.ref h, Value.int p0, Value.int p1] below meth c s.heap [] 0 0 Q (F0 m 0 ls [])
  refine lv_iload_n hx hb dX5_drift_0 rfl (lv_at hl 1 rfl) ?_
  refine lv_if_lt (tgt := 19) hx hb dX5_drift_1 (by decide) (fun c_1 => ?_) (fun c_1 => ?_)
  ·
    refine lv_iconst (v := 0) hx hb dX5_drift_19 (by decide) ?_
    rw [hQ]
    exact W.iret (v := 0) hx hb hr (fun tt ht hW => ⟨_, rfl, trivial, ht⟩) (fun _ h => by cases h) dX5_drift_20
  ·
    refine lv_iload_n hx hb dX5_drift_4 rfl (lv_at hl 1 rfl) ?_
    refine lv_bipush (v := 8) hx hb dX5_drift_5 (by decide) ?_
    refine lv_icmp_ge (tgt := 19) hx hb dX5_drift_7 (by decide) (fun c_2 => ?_) (fun c_2 => ?_)
    ·
      refine lv_iconst (v := 0) hx hb dX5_drift_19 (by decide) ?_
      rw [hQ]
      exact W.iret (v := 0) hx hb hr (fun tt ht hW => ⟨_, rfl, trivial, ht⟩) (fun _ h => by cases h) dX5_drift_20
    ·
      obtain ⟨j_3, hj_3, ej_3⟩ : ∃ j : Nat, j ≤ 7 ∧ p0 = nI j := nat_rng (by have t0 : (0 : Int32).toInt = 0 := (by decide); have t1 : (7 : Int32).toInt = 7 := (by decide); have t2 : (8 : Int32).toInt = 8 := (by decide); simp only [Int32.lt_iff_toInt_lt, Int32.le_iff_toInt_le, ge_iff_le, gt_iff_lt, ne_eq, ← Int32.toInt_inj, t0, t1, t2] at c_1 c_2 ⊢; omega)
      refine lv_iload_n hx hb dX5_drift_10 rfl (lv_at hl 2 rfl) ?_
      refine lv_if_lt (tgt := 19) hx hb dX5_drift_11 (by decide) (fun c_4 => ?_) (fun c_4 => ?_)
      ·
        refine lv_iconst (v := 0) hx hb dX5_drift_19 (by decide) ?_
        rw [hQ]
        exact W.iret (v := 0) hx hb hr (fun tt ht hW => ⟨_, rfl, trivial, ht⟩) (fun _ h => by cases h) dX5_drift_20
      ·
        refine lv_iload_n hx hb dX5_drift_14 rfl (lv_at hl 2 rfl) ?_
        refine lv_iconst (v := 1) hx hb dX5_drift_15 (by decide) ?_
        refine lv_icmp_le (tgt := 21) hx hb dX5_drift_16 (by decide) (fun c_5 => ?_) (fun c_5 => ?_)
        ·
          obtain ⟨j_6, hj_6, ej_6⟩ : ∃ j : Nat, j ≤ 1 ∧ p1 = nI j := nat_rng (by have t0 : (0 : Int32).toInt = 0 := (by decide); have t1 : (1 : Int32).toInt = 1 := (by decide); simp only [Int32.lt_iff_toInt_lt, Int32.le_iff_toInt_le, ge_iff_le, gt_iff_lt, ne_eq, ← Int32.toInt_inj, t0, t1] at c_4 c_5 ⊢; omega)
          refine lv_bipush (v := 17) hx hb dX5_drift_21 (by decide) ?_
          refine lv_iload_n hx hb dX5_drift_23 rfl (lv_at hl 1 rfl) ?_
          refine W.eq (g2 := F0 m 24 ls [.int (nI j_3), .int 17]) (by rw [ej_3]) ?_
          refine lv_bipush (v := 8) hx hb dX5_drift_24 (by decide) ?_
          refine lv_imul hx hb dX5_drift_26 ?_
          refine lv_topi (fun z_7 ez_7 => ?_)
          obtain rfl : z_7 = nI (j_3 * 8) := ez_7.trans (nI_mul _ 8)
          refine lv_iadd hx hb dX5_drift_27 ?_
          refine lv_topi (fun z_8 ez_8 => ?_)
          obtain rfl : z_8 = nI (17 + j_3 * 8) := ez_8.trans (nI_add 17 _)
          refine lv_iload_n hx hb dX5_drift_28 rfl (lv_at hl 2 rfl) ?_
          refine W.eq (g2 := F0 m 29 ls [.int (nI j_6), .int (nI (17 + j_3 * 8))]) (by rw [ej_6]) ?_
          refine lv_iadd hx hb dX5_drift_29 ?_
          refine lv_topi (fun z_9 ez_9 => ?_)
          obtain rfl : z_9 = nI (17 + j_3 * 8 + j_6) := ez_9.trans (nI_add _ _)
          refine lv_istore_n (lv' := [(3, .int (nI (17 + j_3 * 8 + j_6))), (0, .ref h), (1, .int p0), (2, .int p1)]) hx hb dX5_drift_30 rfl hl (by decide) rfl (fun ls hl => ?_)
          refine lv_aload_n hx hb dX5_drift_31 rfl (lv_at hl 1 rfl) ?_
          refine va_get (D := E.1) (ci := 6) (v := .ref g1) (C := RX5) (T := TX5) (N := 6) hx hb hts i_s_drift_X5 hown hK hP 0 rfl rfl 0 (by decide) (hts (.fieldLink RX5 11 "HushWatch$State" "row" "[I") (List.mem_of_getElem? (i := 1) rfl)) (fun _ h9 => h9) rfl dX5_drift_32 ?_
          refine lv_iload_n hx hb dX5_drift_35 rfl (lv_at hl 0 rfl) ?_
          refine lv_iconst (v := 0) hx hb dX5_drift_36 (by decide) ?_
          refine lv_iadd hx hb dX5_drift_37 ?_
          refine lv_topi (fun z_10 ez_10 => ?_)
          obtain rfl : z_10 = nI (17 + j_3 * 8 + j_6 + 0) := ez_10.trans (nI_add _ 0)
          refine va_iald hx hb hK hP 1 0 rfl rfl (vp_in_nI (by omega) (by decide)) dX5_drift_38 ?_
          refine lv_topi (fun z_11 ez_11 => ?_)
          refine lv_aload_n hx hb dX5_drift_39 rfl (lv_at hl 1 rfl) ?_
          refine va_get (D := E.1) (ci := 6) (v := .ref g1) (C := RX5) (T := TX5) (N := 6) hx hb hts i_s_drift_X5 hown hK hP 0 rfl rfl 0 (by decide) (hts (.fieldLink RX5 11 "HushWatch$State" "row" "[I") (List.mem_of_getElem? (i := 1) rfl)) (fun _ h9 => h9) rfl dX5_drift_40 ?_
          refine lv_iload_n hx hb dX5_drift_43 rfl (lv_at hl 0 rfl) ?_
          refine lv_iconst (v := 2) hx hb dX5_drift_44 (by decide) ?_
          refine lv_iadd hx hb dX5_drift_45 ?_
          refine lv_topi (fun z_12 ez_12 => ?_)
          obtain rfl : z_12 = nI (17 + j_3 * 8 + j_6 + 2) := ez_12.trans (nI_add _ 2)
          refine va_iald hx hb hK hP 1 0 rfl rfl (vp_in_nI (by omega) (by decide)) dX5_drift_46 ?_
          refine lv_topi (fun z_13 ez_13 => ?_)
          refine lv_isub hx hb dX5_drift_47 ?_
          refine lv_topi (fun z_14 ez_14 => ?_)
          refine lv_aload_n hx hb dX5_drift_48 rfl (lv_at hl 1 rfl) ?_
          refine va_get (D := E.1) (ci := 6) (v := .ref g1) (C := RX5) (T := TX5) (N := 6) hx hb hts i_s_drift_X5 hown hK hP 0 rfl rfl 0 (by decide) (hts (.fieldLink RX5 11 "HushWatch$State" "row" "[I") (List.mem_of_getElem? (i := 1) rfl)) (fun _ h9 => h9) rfl dX5_drift_49 ?_
          refine lv_iload_n hx hb dX5_drift_52 rfl (lv_at hl 0 rfl) ?_
          refine lv_iconst (v := 4) hx hb dX5_drift_53 (by decide) ?_
          refine lv_iadd hx hb dX5_drift_54 ?_
          refine lv_topi (fun z_15 ez_15 => ?_)
          obtain rfl : z_15 = nI (17 + j_3 * 8 + j_6 + 4) := ez_15.trans (nI_add _ 4)
          refine va_iald hx hb hK hP 1 0 rfl rfl (vp_in_nI (by omega) (by decide)) dX5_drift_55 ?_
          refine lv_topi (fun z_16 ez_16 => ?_)
          refine lv_iadd hx hb dX5_drift_56 ?_
          refine lv_topi (fun z_17 ez_17 => ?_)
          rw [hQ]
          exact W.iret (v := z_17) hx hb hr (fun tt ht hW => ⟨_, rfl, trivial, ht⟩) (fun _ h => by cases h) dX5_drift_57
        ·
          refine lv_iconst (v := 0) hx hb dX5_drift_19 (by decide) ?_
          rw [hQ]
          exact W.iret (v := 0) hx hb hr (fun tt ht hW => ⟨_, rfl, trivial, ht⟩) (fun _ h => by cases h) dX5_drift_20

def v_s_valueOf : List Cond := .code yX5_valueOf cX5_valueOf 9 (some .long) :: ([.fieldLink RX5 11 "HushWatch$State" "row" "[I"] ++ (wsX50 ++ ([])))
theorem gw_s_valueOf : v_s_valueOf.all goodWord = true := by decide +kernel
theorem i_s_valueOf_X5 : ∀ w ∈ wsX50, w ∈ v_s_valueOf := fun _ h => List.mem_cons_of_mem _ (List.mem_append_right _ (List.mem_append_left _ h))
set_option maxHeartbeats 4000000 in
set_option maxRecDepth 100000 in
theorem s_valueOf (l : Launch) (E : EE) (h g1 g2 g3 g4 k : Nat) (ka ko : Int32) (f : Nat → Int32) (p0 p1 : Int64) (hk : f 3 = nI k) (hk8 : k ≤ 8) : Met l yX5_valueOf v_s_valueOf ({ frames := 0, cells := 0, slots := 0, locals := 0 }) (va_Pc [.ref h, .long p0, .long p1] (pP E [(h, .inr (6, [.ref g1, .ref g2, .int ka, .int ko, .ref g3, .ref g4])), (g1, .inl (E.2.1, 81, .inl f))])) (vp_Sl (fun r : Int64 => True)) 0 0 (fun _ => False) := by
  refine Met.ofW (cc := cX5_valueOf) (maxL := 9) (ret := (some .long)) (by decide) rfl ?_
  intro p e s m args below meth c s₁ B hml hv
  obtain ⟨rfl, ⟨hK, hN⟩, hP⟩ := hv
  have hx := B.exec
  have hb := B.bytes
  have hr := B.returns
  have hts := atoms_spec (ws := v_s_valueOf) B.pre
  have hown : s.vm.findClass RX5 = some m.cls := findClass_of_methodNamed B.named
  have hlocks := B.notSynchronized
  have hP : va_P E.1 vwCl [(h, .inr (6, [.ref g1, .ref g2, .int ka, .int ko, .ref g3, .ref g4])), (g1, .inl (E.2.1, 81, .inl f))] s.heap := hP
  have hl := lv_entry ([.ref h, .long p0, .long p1]) (n := 9) (Nat.le_of_ble_eq_true rfl)
  rw [lg_entry_eq]
  generalize (lg_sl ([.ref h, .long p0, .long p1]) ++ List.replicate (9 - (lg_sl ([.ref h, .long p0, .long p1])).length) Slot.unset).toArray = ls at hl ⊢
  have hl : lv_has ls 9 [(0, .ref h), (1, .long p0), (3, .long p1)] := hl
  obtain ⟨Q, hQ⟩ : ∃ Q : State → Prop, Q = MQ below (vp_Sl (fun r : Int64 => True)) #[Value.ref h, Value.long p0, Value.long p1] s 0 0 (fun _ => False) := ⟨_, rfl⟩
  rw [← hQ]
  change W p l e ({ frames := 0, cells := 0, slots := 0, locals := 0 } : Room) s m #[Value.ref h, Value.long p0, Value.long p1] below meth c s.heap [] 0 0 Q (F0 m 0 ls [])
  refine lv_lload_n hx hb dX5_valueOf_0 rfl (lv_at hl 1 rfl) ?_
  refine lv_lconst (v := 0) hx hb dX5_valueOf_1 (by decide) ?_
  refine W.lcmp hx hb dX5_valueOf_2 ?_
  refine lv_topi (fun z_1 ez_1 => ?_)
  have K_5 : ∀ (y_4 : Int64), ∀ (ls : Array Slot), lv_has ls 9 [(0, .ref h), (1, .long p0), (3, .long p1)] → W p l e ({ frames := 0, cells := 0, slots := 0, locals := 0 } : Room) s m #[Value.ref h, Value.long p0, Value.long p1] below meth c s.heap [] 0 0 Q (F0 m 12 ls [.long y_4]) := by
    intro y_4 ls hl
    refine lv_lstore (lv' := [(5, .long y_4), (0, .ref h), (1, .long p0), (3, .long p1)]) hx hb dX5_valueOf_12 hl (by decide) rfl (fun ls hl => ?_)
    refine lv_lload_n hx hb dX5_valueOf_14 rfl (lv_at hl 3 rfl) ?_
    refine lv_lconst (v := 0) hx hb dX5_valueOf_15 (by decide) ?_
    refine W.lcmp hx hb dX5_valueOf_16 ?_
    refine lv_topi (fun z_6 ez_6 => ?_)
    have K_10 : ∀ (y_9 : Int64), ∀ (ls : Array Slot), lv_has ls 9 [(0, .ref h), (1, .long p0), (3, .long p1), (5, .long y_4)] → W p l e ({ frames := 0, cells := 0, slots := 0, locals := 0 } : Room) s m #[Value.ref h, Value.long p0, Value.long p1] below meth c s.heap [] 0 0 Q (F0 m 26 ls [.long y_9]) := by
      intro y_9 ls hl
      refine lv_lstore (lv' := [(7, .long y_9), (0, .ref h), (1, .long p0), (3, .long p1), (5, .long y_4)]) hx hb dX5_valueOf_26 hl (by decide) rfl (fun ls hl => ?_)
      refine lv_aload_n hx hb dX5_valueOf_28 rfl (lv_at hl 1 rfl) ?_
      refine va_get (D := E.1) (ci := 6) (v := .ref g1) (C := RX5) (T := TX5) (N := 6) hx hb hts i_s_valueOf_X5 hown hK hP 0 rfl rfl 0 (by decide) (hts (.fieldLink RX5 11 "HushWatch$State" "row" "[I") (List.mem_of_getElem? (i := 1) rfl)) (fun _ h9 => h9) rfl dX5_valueOf_29 ?_
      refine lv_iconst (v := 0) hx hb dX5_valueOf_32 (by decide) ?_
      refine va_iald hx hb hK hP 1 0 rfl rfl (vin rfl) dX5_valueOf_33 ?_
      refine W.eq (g2 := F0 m 34 ls [.int (f 0)]) rfl ?_
      refine lv_topi (fun z_11 ez_11 => ?_)
      rcases Classical.em (z_11 = 1) with c_12_1 | c_12_1
      ·
        refine lv_tableIn (off := 26) (tgt := 60) hx hb dX5_valueOf_34 (by rw [c_12_1]; decide) (by rw [c_12_1]; decide) (by rw [c_12_1]; decide) (by decide) ?_
        refine lv_lload_n hx hb dX5_valueOf_60 rfl (lv_at hl 2 rfl) ?_
        refine lv_lload_n hx hb dX5_valueOf_61 rfl (lv_at hl 2 rfl) ?_
        refine lv_lmul hx hb dX5_valueOf_62 ?_
        refine lv_topl (fun z_13 ez_13 => ?_)
        refine lv_lload_n hx hb dX5_valueOf_63 rfl (lv_at hl 3 rfl) ?_
        refine lv_lload_n hx hb dX5_valueOf_64 rfl (lv_at hl 3 rfl) ?_
        refine lv_lmul hx hb dX5_valueOf_65 ?_
        refine lv_topl (fun z_14 ez_14 => ?_)
        refine lv_ladd hx hb dX5_valueOf_66 ?_
        refine lv_topl (fun z_15 ez_15 => ?_)
        rw [hQ]
        exact W.lret (v := z_15) hx hb hr (fun tt ht hW => ⟨_, rfl, trivial, ht⟩) (fun _ h => by cases h) dX5_valueOf_67
      rcases Classical.em (z_11 = 2) with c_12_2 | c_12_2
      ·
        refine lv_tableIn (off := 34) (tgt := 68) hx hb dX5_valueOf_34 (by rw [c_12_2]; decide) (by rw [c_12_2]; decide) (by rw [c_12_2]; decide) (by decide) ?_
        refine lv_lload hx hb dX5_valueOf_68 (lv_at hl 4 rfl) ?_
        refine lv_lload hx hb dX5_valueOf_70 (lv_at hl 0 rfl) ?_
        refine W.lcmp hx hb dX5_valueOf_72 ?_
        refine lv_topi (fun z_16 ez_16 => ?_)
        have K_19 : ∀ (y_18 : Int64), ∀ (ls : Array Slot), lv_has ls 9 [(0, .ref h), (1, .long p0), (3, .long p1), (5, .long y_4), (7, .long y_9)] → W p l e ({ frames := 0, cells := 0, slots := 0, locals := 0 } : Room) s m #[Value.ref h, Value.long p0, Value.long p1] below meth c s.heap [] 0 0 Q (F0 m 83 ls [.long y_18]) := by
          intro y_18 ls hl
          rw [hQ]
          exact W.lret (v := y_18) hx hb hr (fun tt ht hW => ⟨_, rfl, trivial, ht⟩) (fun _ h => by cases h) dX5_valueOf_83
        refine lv_if_le (tgt := 81) hx hb dX5_valueOf_73 (by decide) (fun c_17 => ?_) (fun c_17 => ?_)
        ·
          refine lv_lload hx hb dX5_valueOf_81 (lv_at hl 0 rfl) ?_
          exact K_19 y_9 ls  (lv_sub hl [1, 2, 3, 4, 0] rfl)
        ·
          refine lv_lload hx hb dX5_valueOf_76 (lv_at hl 4 rfl) ?_
          refine lv_goto (tgt := 83) hx hb dX5_valueOf_78 (by decide) ?_
          exact K_19 y_4 ls  (lv_sub hl [1, 2, 3, 4, 0] rfl)
      rcases Classical.em (z_11 = 3) with c_12_3 | c_12_3
      ·
        refine lv_tableIn (off := 50) (tgt := 84) hx hb dX5_valueOf_34 (by rw [c_12_3]; decide) (by rw [c_12_3]; decide) (by rw [c_12_3]; decide) (by decide) ?_
        refine lv_lload hx hb dX5_valueOf_84 (lv_at hl 4 rfl) ?_
        refine lv_lload hx hb dX5_valueOf_86 (lv_at hl 0 rfl) ?_
        refine lv_ladd hx hb dX5_valueOf_88 ?_
        refine lv_topl (fun z_20 ez_20 => ?_)
        rw [hQ]
        exact W.lret (v := z_20) hx hb hr (fun tt ht hW => ⟨_, rfl, trivial, ht⟩) (fun _ h => by cases h) dX5_valueOf_89
      refine lv_tableOut (tgt := 90) hx hb dX5_valueOf_34 (by have t0 : (1 : Int32).toInt = 1 := (by decide); have t1 : (2 : Int32).toInt = 2 := (by decide); have t2 : (3 : Int32).toInt = 3 := (by decide); simp only [← Int32.toInt_inj, t0, t1, t2] at c_12_1 c_12_2 c_12_3; omega) (by decide) ?_
      refine lv_lload_n hx hb dX5_valueOf_90 rfl (lv_at hl 2 rfl) ?_
      refine lv_lload_n hx hb dX5_valueOf_91 rfl (lv_at hl 3 rfl) ?_
      refine lv_ladd hx hb dX5_valueOf_92 ?_
      refine lv_topl (fun z_21 ez_21 => ?_)
      rw [hQ]
      exact W.lret (v := z_21) hx hb hr (fun tt ht hW => ⟨_, rfl, trivial, ht⟩) (fun _ h => by cases h) dX5_valueOf_93
    refine lv_if_ge (tgt := 25) hx hb dX5_valueOf_17 (by decide) (fun c_7 => ?_) (fun c_7 => ?_)
    ·
      refine lv_lload_n hx hb dX5_valueOf_25 rfl (lv_at hl 3 rfl) ?_
      exact K_10 p1 ls  (lv_sub hl [1, 2, 3, 0] rfl)
    ·
      refine lv_lload_n hx hb dX5_valueOf_20 rfl (lv_at hl 3 rfl) ?_
      refine lv_lneg hx hb dX5_valueOf_21 ?_
      refine lv_topl (fun z_22 ez_22 => ?_)
      refine lv_goto (tgt := 26) hx hb dX5_valueOf_22 (by decide) ?_
      exact K_10 z_22 ls  (lv_sub hl [1, 2, 3, 0] rfl)
  refine lv_if_ge (tgt := 11) hx hb dX5_valueOf_3 (by decide) (fun c_2 => ?_) (fun c_2 => ?_)
  ·
    refine lv_lload_n hx hb dX5_valueOf_11 rfl (lv_at hl 1 rfl) ?_
    exact K_5 p0 ls  (lv_sub hl [0, 1, 2] rfl)
  ·
    refine lv_lload_n hx hb dX5_valueOf_6 rfl (lv_at hl 1 rfl) ?_
    refine lv_lneg hx hb dX5_valueOf_7 ?_
    refine lv_topl (fun z_23 ez_23 => ?_)
    refine lv_goto (tgt := 12) hx hb dX5_valueOf_8 (by decide) ?_
    exact K_5 z_23 ls  (lv_sub hl [0, 1, 2] rfl)

def v_s_isAbove : List Cond := .code yX5_isAbove cX5_isAbove 1 (some .boolean) :: ([.fieldLink RX5 11 "HushWatch$State" "row" "[I"] ++ (wsX50 ++ ([])))
theorem gw_s_isAbove : v_s_isAbove.all goodWord = true := by decide +kernel
theorem i_s_isAbove_X5 : ∀ w ∈ wsX50, w ∈ v_s_isAbove := fun _ h => List.mem_cons_of_mem _ (List.mem_append_right _ (List.mem_append_left _ h))
set_option maxHeartbeats 4000000 in
set_option maxRecDepth 100000 in
theorem s_isAbove (l : Launch) (E : EE) (h g1 g2 g3 g4 k : Nat) (ka ko : Int32) (f : Nat → Int32) (hk : f 3 = nI k) (hk8 : k ≤ 8) : Met l yX5_isAbove v_s_isAbove ({ frames := 0, cells := 0, slots := 0, locals := 0 }) (va_Pc [.ref h] (pP E [(h, .inr (6, [.ref g1, .ref g2, .int ka, .int ko, .ref g3, .ref g4])), (g1, .inl (E.2.1, 81, .inl f))])) (vp_Si (fun r : Int32 => r = 0 ∨ r = 1)) 0 0 (fun _ => False) := by
  refine Met.ofW (cc := cX5_isAbove) (maxL := 1) (ret := (some .boolean)) (by decide) rfl ?_
  intro p e s m args below meth c s₁ B hml hv
  obtain ⟨rfl, ⟨hK, hN⟩, hP⟩ := hv
  have hx := B.exec
  have hb := B.bytes
  have hr := B.returns
  have hts := atoms_spec (ws := v_s_isAbove) B.pre
  have hown : s.vm.findClass RX5 = some m.cls := findClass_of_methodNamed B.named
  have hlocks := B.notSynchronized
  have hP : va_P E.1 vwCl [(h, .inr (6, [.ref g1, .ref g2, .int ka, .int ko, .ref g3, .ref g4])), (g1, .inl (E.2.1, 81, .inl f))] s.heap := hP
  have hl := lv_entry ([.ref h]) (n := 1) (Nat.le_of_ble_eq_true rfl)
  rw [lg_entry_eq]
  generalize (lg_sl ([.ref h]) ++ List.replicate (1 - (lg_sl ([.ref h])).length) Slot.unset).toArray = ls at hl ⊢
  have hl : lv_has ls 1 [(0, .ref h)] := hl
  obtain ⟨Q, hQ⟩ : ∃ Q : State → Prop, Q = MQ below (vp_Si (fun r : Int32 => r = 0 ∨ r = 1)) #[Value.ref h] s 0 0 (fun _ => False) := ⟨_, rfl⟩
  rw [← hQ]
  change W p l e ({ frames := 0, cells := 0, slots := 0, locals := 0 } : Room) s m #[Value.ref h] below meth c s.heap [] 0 0 Q (F0 m 0 ls [])
  refine lv_aload_n hx hb dX5_isAbove_0 rfl (lv_at hl 0 rfl) ?_
  refine va_get (D := E.1) (ci := 6) (v := .ref g1) (C := RX5) (T := TX5) (N := 6) hx hb hts i_s_isAbove_X5 hown hK hP 0 rfl rfl 0 (by decide) (hts (.fieldLink RX5 11 "HushWatch$State" "row" "[I") (List.mem_of_getElem? (i := 1) rfl)) (fun _ h9 => h9) rfl dX5_isAbove_1 ?_
  refine lv_bipush (v := 6) hx hb dX5_isAbove_4 (by decide) ?_
  refine va_iald hx hb hK hP 1 0 rfl rfl (vin rfl) dX5_isAbove_6 ?_
  refine W.eq (g2 := F0 m 7 ls [.int (f 6)]) rfl ?_
  refine lv_topi (fun z_1 ez_1 => ?_)
  have K_5 : ∀ (y_4 : Nat), ∀ (ls : Array Slot), y_4 ≤ 1 → lv_has ls 1 [(0, .ref h)] → W p l e ({ frames := 0, cells := 0, slots := 0, locals := 0 } : Room) s m #[Value.ref h] below meth c s.heap [] 0 0 Q (F0 m 15 ls [.int (nI y_4)]) := by
    intro y_4 ls hy_4 hl
    rw [hQ]
    exact W.zret (v := nI y_4) hx hb hr (nar_nat (by omega)) (fun tt ht hW => ⟨_, rfl, nat_bool (by omega), ht⟩) (fun _ h => by cases h) dX5_isAbove_15
  refine lv_if_eq (tgt := 14) hx hb dX5_isAbove_7 (by decide) (fun c_2 => ?_) (fun c_2 => ?_)
  ·
    obtain ⟨j_6, hj_6, ej_6⟩ : ∃ j : Nat, j ≤ 0 ∧ z_1 = nI j := nat_rng (by have t0 : (0 : Int32).toInt = 0 := (by decide); simp only [Int32.lt_iff_toInt_lt, Int32.le_iff_toInt_le, ge_iff_le, gt_iff_lt, ne_eq, ← Int32.toInt_inj, t0] at c_2 ⊢; omega)
    refine lv_iconst (v := 0) hx hb dX5_isAbove_14 (by decide) ?_
    exact K_5 0 ls (by omega) (lv_sub hl [0] rfl)
  ·
    refine lv_iconst (v := 1) hx hb dX5_isAbove_10 (by decide) ?_
    refine lv_goto (tgt := 15) hx hb dX5_isAbove_11 (by decide) ?_
    exact K_5 1 ls (by omega) (lv_sub hl [0] rfl)
