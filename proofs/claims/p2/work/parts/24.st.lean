theorem dX5_shareOf_0 : decode cX5_shareOf 0 = .ok (.iload_n 2, 1) := by decide +kernel
theorem dX5_shareOf_1 : decode cX5_shareOf 1 = .ok (.ifCond .lt 8, 3) := by decide +kernel
theorem dX5_shareOf_9 : decode cX5_shareOf 9 = .ok (.iconst 0, 1) := by decide +kernel
theorem dX5_shareOf_10 : decode cX5_shareOf 10 = .ok (.ireturn, 1) := by decide +kernel
theorem dX5_shareOf_4 : decode cX5_shareOf 4 = .ok (.iload_n 2, 1) := by decide +kernel
theorem dX5_shareOf_5 : decode cX5_shareOf 5 = .ok (.iconst 1, 1) := by decide +kernel
theorem dX5_shareOf_6 : decode cX5_shareOf 6 = .ok (.if_icmp .le 5, 3) := by decide +kernel
theorem dX5_shareOf_11 : decode cX5_shareOf 11 = .ok (.iload_n 1, 1) := by decide +kernel
theorem dX5_shareOf_12 : decode cX5_shareOf 12 = .ok (.aload_n 0, 1) := by decide +kernel
theorem dX5_shareOf_13 : decode cX5_shareOf 13 = .ok (.getfield 28, 3) := by decide +kernel
theorem dX5_shareOf_16 : decode cX5_shareOf 16 = .ok (.iload_n 2, 1) := by decide +kernel
theorem dX5_shareOf_17 : decode cX5_shareOf 17 = .ok (.iaload, 1) := by decide +kernel
theorem dX5_shareOf_38 : decode cX5_shareOf 38 = .ok (.ireturn, 1) := by decide +kernel
theorem dX5_shareOf_18 : decode cX5_shareOf 18 = .ok (.if_icmp .ge 14, 3) := by decide +kernel
theorem dX5_shareOf_32 : decode cX5_shareOf 32 = .ok (.aload_n 0, 1) := by decide +kernel
theorem dX5_shareOf_33 : decode cX5_shareOf 33 = .ok (.getfield 25, 3) := by decide +kernel
theorem dX5_shareOf_36 : decode cX5_shareOf 36 = .ok (.iload_n 2, 1) := by decide +kernel
theorem dX5_shareOf_37 : decode cX5_shareOf 37 = .ok (.iaload, 1) := by decide +kernel
theorem dX5_shareOf_21 : decode cX5_shareOf 21 = .ok (.aload_n 0, 1) := by decide +kernel
theorem dX5_shareOf_22 : decode cX5_shareOf 22 = .ok (.getfield 25, 3) := by decide +kernel
theorem dX5_shareOf_25 : decode cX5_shareOf 25 = .ok (.iload_n 2, 1) := by decide +kernel
theorem dX5_shareOf_26 : decode cX5_shareOf 26 = .ok (.iaload, 1) := by decide +kernel
theorem dX5_shareOf_27 : decode cX5_shareOf 27 = .ok (.iconst 1, 1) := by decide +kernel
theorem dX5_shareOf_28 : decode cX5_shareOf 28 = .ok (.iadd, 1) := by decide +kernel
theorem dX5_shareOf_29 : decode cX5_shareOf 29 = .ok (.goto 9, 3) := by decide +kernel
theorem dX5_measureShares_23 : decode cX5_measureShares 23 = .ok (.iload 5, 2) := by decide +kernel
theorem dX5_measureShares_25 : decode cX5_measureShares 25 = .ok (.aload_n 0, 1) := by decide +kernel
theorem dX5_measureShares_26 : decode cX5_measureShares 26 = .ok (.invokevirtual 45, 3) := by decide +kernel
theorem dX5_measureShares_29 : decode cX5_measureShares 29 = .ok (.if_icmp .ge 34, 3) := by decide +kernel
theorem dX5_measureShares_32 : decode cX5_measureShares 32 = .ok (.iload 4, 2) := by decide +kernel
theorem dX5_measureShares_34 : decode cX5_measureShares 34 = .ok (.iload_n 1, 1) := by decide +kernel
theorem dX5_measureShares_35 : decode cX5_measureShares 35 = .ok (.iload 5, 2) := by decide +kernel
theorem dX5_measureShares_37 : decode cX5_measureShares 37 = .ok (.ishr, 1) := by decide +kernel
theorem dX5_measureShares_38 : decode cX5_measureShares 38 = .ok (.iconst 1, 1) := by decide +kernel
theorem dX5_measureShares_39 : decode cX5_measureShares 39 = .ok (.iand, 1) := by decide +kernel
theorem dX5_measureShares_54 : decode cX5_measureShares 54 = .ok (.iadd, 1) := by decide +kernel
theorem dX5_measureShares_55 : decode cX5_measureShares 55 = .ok (.istore 4, 2) := by decide +kernel
theorem dX5_measureShares_57 : decode cX5_measureShares 57 = .ok (.iinc 5 1, 3) := by decide +kernel
theorem dX5_measureShares_60 : decode cX5_measureShares 60 = .ok (.goto (-37), 3) := by decide +kernel
theorem dX5_measureShares_40 : decode cX5_measureShares 40 = .ok (.ifCond .eq 13, 3) := by decide +kernel
theorem dX5_measureShares_53 : decode cX5_measureShares 53 = .ok (.iconst 0, 1) := by decide +kernel
theorem dX5_measureShares_43 : decode cX5_measureShares 43 = .ok (.aload_n 0, 1) := by decide +kernel
theorem dX5_measureShares_44 : decode cX5_measureShares 44 = .ok (.iload 5, 2) := by decide +kernel
theorem dX5_measureShares_46 : decode cX5_measureShares 46 = .ok (.iload_n 3, 1) := by decide +kernel
theorem dX5_measureShares_47 : decode cX5_measureShares 47 = .ok (.invokevirtual 72, 3) := by decide +kernel
theorem dX5_measureShares_50 : decode cX5_measureShares 50 = .ok (.goto 4, 3) := by decide +kernel
theorem dX5_measureShares_0 : decode cX5_measureShares 0 = .ok (.iload_n 1, 1) := by decide +kernel
theorem dX5_measureShares_1 : decode cX5_measureShares 1 = .ok (.invokestatic 171, 3) := by decide +kernel
theorem dX5_measureShares_4 : decode cX5_measureShares 4 = .ok (.istore_n 2, 1) := by decide +kernel
theorem dX5_measureShares_5 : decode cX5_measureShares 5 = .ok (.iload_n 2, 1) := by decide +kernel
theorem dX5_measureShares_6 : decode cX5_measureShares 6 = .ok (.ifCond .ne 4, 3) := by decide +kernel
theorem dX5_measureShares_10 : decode cX5_measureShares 10 = .ok (.iconst 0, 1) := by decide +kernel
theorem dX5_measureShares_11 : decode cX5_measureShares 11 = .ok (.istore_n 3, 1) := by decide +kernel
theorem dX5_measureShares_12 : decode cX5_measureShares 12 = .ok (.iload_n 3, 1) := by decide +kernel
theorem dX5_measureShares_13 : decode cX5_measureShares 13 = .ok (.iconst 2, 1) := by decide +kernel
theorem dX5_measureShares_14 : decode cX5_measureShares 14 = .ok (.if_icmp .ge 79, 3) := by decide +kernel
theorem dX5_measureShares_17 : decode cX5_measureShares 17 = .ok (.iconst 0, 1) := by decide +kernel
theorem dX5_measureShares_18 : decode cX5_measureShares 18 = .ok (.istore 4, 2) := by decide +kernel
theorem dX5_measureShares_20 : decode cX5_measureShares 20 = .ok (.iconst 0, 1) := by decide +kernel
theorem dX5_measureShares_21 : decode cX5_measureShares 21 = .ok (.istore 5, 2) := by decide +kernel
theorem dX5_measureShares_63 : decode cX5_measureShares 63 = .ok (.aload_n 0, 1) := by decide +kernel
theorem dX5_measureShares_64 : decode cX5_measureShares 64 = .ok (.getfield 25, 3) := by decide +kernel
theorem dX5_measureShares_67 : decode cX5_measureShares 67 = .ok (.iload_n 3, 1) := by decide +kernel
theorem dX5_measureShares_68 : decode cX5_measureShares 68 = .ok (.iload 4, 2) := by decide +kernel
theorem dX5_measureShares_70 : decode cX5_measureShares 70 = .ok (.iload_n 2, 1) := by decide +kernel
theorem dX5_measureShares_71 : decode cX5_measureShares 71 = .ok (.invokestatic 176, 3) := by decide +kernel
theorem dX5_measureShares_74 : decode cX5_measureShares 74 = .ok (.iastore, 1) := by decide +kernel
theorem dX5_measureShares_75 : decode cX5_measureShares 75 = .ok (.aload_n 0, 1) := by decide +kernel
theorem dX5_measureShares_76 : decode cX5_measureShares 76 = .ok (.getfield 28, 3) := by decide +kernel
theorem dX5_measureShares_79 : decode cX5_measureShares 79 = .ok (.iload_n 3, 1) := by decide +kernel
theorem dX5_measureShares_80 : decode cX5_measureShares 80 = .ok (.iload 4, 2) := by decide +kernel
theorem dX5_measureShares_82 : decode cX5_measureShares 82 = .ok (.iload_n 2, 1) := by decide +kernel
theorem dX5_measureShares_83 : decode cX5_measureShares 83 = .ok (.invokestatic 179, 3) := by decide +kernel
theorem dX5_measureShares_86 : decode cX5_measureShares 86 = .ok (.iastore, 1) := by decide +kernel
theorem dX5_measureShares_87 : decode cX5_measureShares 87 = .ok (.iinc 3 1, 3) := by decide +kernel
theorem dX5_measureShares_90 : decode cX5_measureShares 90 = .ok (.goto (-78), 3) := by decide +kernel
theorem dX5_measureShares_93 : decode cX5_measureShares 93 = .ok (.return_, 1) := by decide +kernel
theorem dX5_measureShares_9 : decode cX5_measureShares 9 = .ok (.return_, 1) := by decide +kernel
theorem dX5_canShare_9 : decode cX5_canShare 9 = .ok (.iload_n 3, 1) := by decide +kernel
theorem dX5_canShare_10 : decode cX5_canShare 10 = .ok (.aload_n 0, 1) := by decide +kernel
theorem dX5_canShare_11 : decode cX5_canShare 11 = .ok (.invokevirtual 45, 3) := by decide +kernel
theorem dX5_canShare_14 : decode cX5_canShare 14 = .ok (.if_icmp .ge 44, 3) := by decide +kernel
theorem dX5_canShare_17 : decode cX5_canShare 17 = .ok (.iload_n 1, 1) := by decide +kernel
theorem dX5_canShare_18 : decode cX5_canShare 18 = .ok (.iload_n 3, 1) := by decide +kernel
theorem dX5_canShare_19 : decode cX5_canShare 19 = .ok (.ishr, 1) := by decide +kernel
theorem dX5_canShare_20 : decode cX5_canShare 20 = .ok (.iconst 1, 1) := by decide +kernel
theorem dX5_canShare_21 : decode cX5_canShare 21 = .ok (.iand, 1) := by decide +kernel
theorem dX5_canShare_22 : decode cX5_canShare 22 = .ok (.ifCond .ne 6, 3) := by decide +kernel
theorem dX5_canShare_28 : decode cX5_canShare 28 = .ok (.aload_n 0, 1) := by decide +kernel
theorem dX5_canShare_29 : decode cX5_canShare 29 = .ok (.aload_n 0, 1) := by decide +kernel
theorem dX5_canShare_30 : decode cX5_canShare 30 = .ok (.iload_n 2, 1) := by decide +kernel
theorem dX5_canShare_31 : decode cX5_canShare 31 = .ok (.iconst 0, 1) := by decide +kernel
theorem dX5_canShare_32 : decode cX5_canShare 32 = .ok (.invokevirtual 168, 3) := by decide +kernel
theorem dX5_canShare_35 : decode cX5_canShare 35 = .ok (.aload_n 0, 1) := by decide +kernel
theorem dX5_canShare_36 : decode cX5_canShare 36 = .ok (.iload_n 2, 1) := by decide +kernel
theorem dX5_canShare_37 : decode cX5_canShare 37 = .ok (.iconst 1, 1) := by decide +kernel
theorem dX5_canShare_38 : decode cX5_canShare 38 = .ok (.invokevirtual 168, 3) := by decide +kernel
theorem dX5_canShare_41 : decode cX5_canShare 41 = .ok (.invokevirtual 87, 3) := by decide +kernel
theorem dX5_canShare_44 : decode cX5_canShare 44 = .ok (.ifCond .ne 5, 3) := by decide +kernel
theorem dX5_canShare_49 : decode cX5_canShare 49 = .ok (.iinc 2 1, 3) := by decide +kernel
theorem dX5_canShare_52 : decode cX5_canShare 52 = .ok (.iinc 3 1, 3) := by decide +kernel
theorem dX5_canShare_55 : decode cX5_canShare 55 = .ok (.goto (-46), 3) := by decide +kernel
theorem dX5_canShare_25 : decode cX5_canShare 25 = .ok (.goto 27, 3) := by decide +kernel
theorem dX5_canShare_0 : decode cX5_canShare 0 = .ok (.aload_n 0, 1) := by decide +kernel
theorem dX5_canShare_1 : decode cX5_canShare 1 = .ok (.iload_n 1, 1) := by decide +kernel
theorem dX5_canShare_2 : decode cX5_canShare 2 = .ok (.invokevirtual 165, 3) := by decide +kernel
theorem dX5_canShare_5 : decode cX5_canShare 5 = .ok (.iconst 0, 1) := by decide +kernel
theorem dX5_canShare_6 : decode cX5_canShare 6 = .ok (.istore_n 2, 1) := by decide +kernel
theorem dX5_canShare_7 : decode cX5_canShare 7 = .ok (.iconst 0, 1) := by decide +kernel
theorem dX5_canShare_8 : decode cX5_canShare 8 = .ok (.istore_n 3, 1) := by decide +kernel
theorem dX5_canShare_47 : decode cX5_canShare 47 = .ok (.iconst 0, 1) := by decide +kernel
theorem dX5_canShare_48 : decode cX5_canShare 48 = .ok (.ireturn, 1) := by decide +kernel
theorem dX5_canShare_58 : decode cX5_canShare 58 = .ok (.iconst 1, 1) := by decide +kernel
theorem dX5_canShare_59 : decode cX5_canShare 59 = .ok (.ireturn, 1) := by decide +kernel
theorem dX5_balance_20 : decode cX5_balance 20 = .ok (.iload_n 3, 1) := by decide +kernel
theorem dX5_balance_21 : decode cX5_balance 21 = .ok (.aload_n 0, 1) := by decide +kernel
theorem dX5_balance_22 : decode cX5_balance 22 = .ok (.invokevirtual 45, 3) := by decide +kernel
theorem dX5_balance_25 : decode cX5_balance 25 = .ok (.if_icmp .ge 76, 3) := by decide +kernel
theorem dX5_balance_28 : decode cX5_balance 28 = .ok (.iload_n 1, 1) := by decide +kernel
theorem dX5_balance_29 : decode cX5_balance 29 = .ok (.iload_n 3, 1) := by decide +kernel
theorem dX5_balance_30 : decode cX5_balance 30 = .ok (.ishr, 1) := by decide +kernel
theorem dX5_balance_31 : decode cX5_balance 31 = .ok (.iconst 1, 1) := by decide +kernel
theorem dX5_balance_32 : decode cX5_balance 32 = .ok (.iand, 1) := by decide +kernel
theorem dX5_balance_95 : decode cX5_balance 95 = .ok (.iinc 3 1, 3) := by decide +kernel
theorem dX5_balance_98 : decode cX5_balance 98 = .ok (.goto (-78), 3) := by decide +kernel
theorem dX5_balance_33 : decode cX5_balance 33 = .ok (.ifCond .ne 6, 3) := by decide +kernel
theorem dX5_balance_39 : decode cX5_balance 39 = .ok (.iconst 0, 1) := by decide +kernel
theorem dX5_balance_40 : decode cX5_balance 40 = .ok (.istore 4, 2) := by decide +kernel
theorem dX5_balance_42 : decode cX5_balance 42 = .ok (.iload 4, 2) := by decide +kernel
theorem dX5_balance_44 : decode cX5_balance 44 = .ok (.iconst 2, 1) := by decide +kernel
theorem dX5_balance_45 : decode cX5_balance 45 = .ok (.if_icmp .ge 47, 3) := by decide +kernel
theorem dX5_balance_48 : decode cX5_balance 48 = .ok (.aload_n 0, 1) := by decide +kernel
theorem dX5_balance_49 : decode cX5_balance 49 = .ok (.iload_n 2, 1) := by decide +kernel
theorem dX5_balance_50 : decode cX5_balance 50 = .ok (.iload 4, 2) := by decide +kernel
theorem dX5_balance_52 : decode cX5_balance 52 = .ok (.invokevirtual 168, 3) := by decide +kernel
theorem dX5_balance_55 : decode cX5_balance 55 = .ok (.aload_n 0, 1) := by decide +kernel
theorem dX5_balance_56 : decode cX5_balance 56 = .ok (.iload_n 3, 1) := by decide +kernel
theorem dX5_balance_57 : decode cX5_balance 57 = .ok (.iload 4, 2) := by decide +kernel
theorem dX5_balance_59 : decode cX5_balance 59 = .ok (.invokevirtual 72, 3) := by decide +kernel
theorem dX5_balance_62 : decode cX5_balance 62 = .ok (.isub, 1) := by decide +kernel
theorem dX5_balance_63 : decode cX5_balance 63 = .ok (.istore 5, 2) := by decide +kernel
theorem dX5_balance_65 : decode cX5_balance 65 = .ok (.aload_n 0, 1) := by decide +kernel
theorem dX5_balance_66 : decode cX5_balance 66 = .ok (.iload_n 3, 1) := by decide +kernel
theorem dX5_balance_67 : decode cX5_balance 67 = .ok (.iconst 4, 1) := by decide +kernel
theorem dX5_balance_68 : decode cX5_balance 68 = .ok (.iload 4, 2) := by decide +kernel
theorem dX5_balance_70 : decode cX5_balance 70 = .ok (.iadd, 1) := by decide +kernel
theorem dX5_balance_71 : decode cX5_balance 71 = .ok (.aload_n 0, 1) := by decide +kernel
theorem dX5_balance_72 : decode cX5_balance 72 = .ok (.iload_n 3, 1) := by decide +kernel
theorem dX5_balance_73 : decode cX5_balance 73 = .ok (.iconst 4, 1) := by decide +kernel
theorem dX5_balance_74 : decode cX5_balance 74 = .ok (.iload 4, 2) := by decide +kernel
theorem dX5_balance_76 : decode cX5_balance 76 = .ok (.iadd, 1) := by decide +kernel
theorem dX5_balance_77 : decode cX5_balance 77 = .ok (.invokevirtual 69, 3) := by decide +kernel
theorem dX5_balance_80 : decode cX5_balance 80 = .ok (.iload 5, 2) := by decide +kernel
theorem dX5_balance_82 : decode cX5_balance 82 = .ok (.iadd, 1) := by decide +kernel
theorem dX5_balance_83 : decode cX5_balance 83 = .ok (.invokevirtual 52, 3) := by decide +kernel
theorem dX5_balance_86 : decode cX5_balance 86 = .ok (.iinc 4 1, 3) := by decide +kernel
theorem dX5_balance_89 : decode cX5_balance 89 = .ok (.goto (-47), 3) := by decide +kernel
theorem dX5_balance_92 : decode cX5_balance 92 = .ok (.iinc 2 1, 3) := by decide +kernel
theorem dX5_balance_36 : decode cX5_balance 36 = .ok (.goto 59, 3) := by decide +kernel
theorem dX5_balance_0 : decode cX5_balance 0 = .ok (.aload_n 0, 1) := by decide +kernel
theorem dX5_balance_1 : decode cX5_balance 1 = .ok (.getfield 11, 3) := by decide +kernel
theorem dX5_balance_4 : decode cX5_balance 4 = .ok (.bipush 13, 2) := by decide +kernel
theorem dX5_balance_6 : decode cX5_balance 6 = .ok (.dup2, 1) := by decide +kernel
theorem dX5_balance_7 : decode cX5_balance 7 = .ok (.iaload, 1) := by decide +kernel
theorem dX5_balance_8 : decode cX5_balance 8 = .ok (.iconst 1, 1) := by decide +kernel
theorem dX5_balance_9 : decode cX5_balance 9 = .ok (.iadd, 1) := by decide +kernel
theorem dX5_balance_10 : decode cX5_balance 10 = .ok (.iastore, 1) := by decide +kernel
theorem dX5_balance_11 : decode cX5_balance 11 = .ok (.aload_n 0, 1) := by decide +kernel
theorem dX5_balance_12 : decode cX5_balance 12 = .ok (.iconst 1, 1) := by decide +kernel
theorem dX5_balance_13 : decode cX5_balance 13 = .ok (.putfield 22, 3) := by decide +kernel
theorem dX5_balance_16 : decode cX5_balance 16 = .ok (.iconst 0, 1) := by decide +kernel
theorem dX5_balance_17 : decode cX5_balance 17 = .ok (.istore_n 2, 1) := by decide +kernel
theorem dX5_balance_18 : decode cX5_balance 18 = .ok (.iconst 0, 1) := by decide +kernel
theorem dX5_balance_19 : decode cX5_balance 19 = .ok (.istore_n 3, 1) := by decide +kernel
theorem dX5_balance_101 : decode cX5_balance 101 = .ok (.iconst 1, 1) := by decide +kernel
theorem dX5_balance_102 : decode cX5_balance 102 = .ok (.iconst 2, 1) := by decide +kernel
theorem dX5_balance_103 : decode cX5_balance 103 = .ok (.aload_n 0, 1) := by decide +kernel
theorem dX5_balance_104 : decode cX5_balance 104 = .ok (.getfield 18, 3) := by decide +kernel
theorem dX5_balance_107 : decode cX5_balance 107 = .ok (.imul, 1) := by decide +kernel
theorem dX5_balance_108 : decode cX5_balance 108 = .ok (.iadd, 1) := by decide +kernel
theorem dX5_balance_109 : decode cX5_balance 109 = .ok (.iload_n 2, 1) := by decide +kernel
theorem dX5_balance_110 : decode cX5_balance 110 = .ok (.iadd, 1) := by decide +kernel
theorem dX5_balance_111 : decode cX5_balance 111 = .ok (.ireturn, 1) := by decide +kernel
def v_s_shareOf : List Cond := .code yX5_shareOf cX5_shareOf 3 (some .int) :: ([.fieldLink RX5 28 "HushWatch$State" "leftOver" "[I", .fieldLink RX5 25 "HushWatch$State" "share" "[I"] ++ (wsX50 ++ ([])))
theorem gw_s_shareOf : v_s_shareOf.all goodWord = true := by decide +kernel
theorem i_s_shareOf_X5 : ∀ w ∈ wsX50, w ∈ v_s_shareOf := fun _ h => List.mem_cons_of_mem _ (List.mem_append_right _ (List.mem_append_left _ h))
set_option maxHeartbeats 4000000 in
set_option maxRecDepth 100000 in
theorem s_shareOf (l : Launch) (E : EE) (h g1 g2 g3 g4 : Nat) (ka ko : Int32) (fs fl : Nat → Int32) (p0 p1 : Int32) : Met l yX5_shareOf v_s_shareOf ({ frames := 0, cells := 0, slots := 0, locals := 0 }) (va_Pc [.ref h, .int p0, .int p1] (pP E [(h, .inr (6, [.ref g1, .ref g2, .int ka, .int ko, .ref g3, .ref g4])), (g3, .inl (E.2.1, 2, .inl fs)), (g4, .inl (E.2.1, 2, .inl fl))])) (vp_Si (fun r : Int32 => True)) 0 0 (fun _ => False) := by
  refine Met.ofW (cc := cX5_shareOf) (maxL := 3) (ret := (some .int)) (by decide) rfl ?_
  intro p e s m args below meth c s₁ B hml hv
  obtain ⟨rfl, ⟨hK, hN⟩, hP⟩ := hv
  have hx := B.exec
  have hb := B.bytes
  have hr := B.returns
  have hts := atoms_spec (ws := v_s_shareOf) B.pre
  have hown : s.vm.findClass RX5 = some m.cls := findClass_of_methodNamed B.named
  have hlocks := B.notSynchronized
  have hP : va_P E.1 vwCl [(h, .inr (6, [.ref g1, .ref g2, .int ka, .int ko, .ref g3, .ref g4])), (g3, .inl (E.2.1, 2, .inl fs)), (g4, .inl (E.2.1, 2, .inl fl))] s.heap := hP
  have hl := lv_entry ([.ref h, .int p0, .int p1]) (n := 3) (Nat.le_of_ble_eq_true rfl)
  rw [lg_entry_eq]
  generalize (lg_sl ([.ref h, .int p0, .int p1]) ++ List.replicate (3 - (lg_sl ([.ref h, .int p0, .int p1])).length) Slot.unset).toArray = ls at hl ⊢
  have hl : lv_has ls 3 [(0, .ref h), (1, .int p0), (2, .int p1)] := hl
  obtain ⟨Q, hQ⟩ : ∃ Q : State → Prop, Q = MQ below (vp_Si (fun r : Int32 => True)) #[Value.ref h, Value.int p0, Value.int p1] s 0 0 (fun _ => False) := ⟨_, rfl⟩
  rw [← hQ]
  change W p l e ({ frames := 0, cells := 0, slots := 0, locals := 0 } : Room) s m #[Value.ref h, Value.int p0, Value.int p1] below meth c s.heap [] 0 0 Q (F0 m 0 ls [])
  refine lv_iload_n hx hb dX5_shareOf_0 rfl (lv_at hl 2 rfl) ?_
  refine lv_if_lt (tgt := 9) hx hb dX5_shareOf_1 (by decide) (fun c_1 => ?_) (fun c_1 => ?_)
  ·
    refine lv_iconst (v := 0) hx hb dX5_shareOf_9 (by decide) ?_
    rw [hQ]
    exact W.iret (v := 0) hx hb hr (fun tt ht hW => ⟨_, rfl, trivial, ht⟩) (fun _ h => by cases h) dX5_shareOf_10
  ·
    refine lv_iload_n hx hb dX5_shareOf_4 rfl (lv_at hl 2 rfl) ?_
    refine lv_iconst (v := 1) hx hb dX5_shareOf_5 (by decide) ?_
    refine lv_icmp_le (tgt := 11) hx hb dX5_shareOf_6 (by decide) (fun c_2 => ?_) (fun c_2 => ?_)
    ·
      obtain ⟨j_3, hj_3, ej_3⟩ : ∃ j : Nat, j ≤ 1 ∧ p1 = nI j := nat_rng (by have t0 : (0 : Int32).toInt = 0 := (by decide); have t1 : (1 : Int32).toInt = 1 := (by decide); simp only [Int32.lt_iff_toInt_lt, Int32.le_iff_toInt_le, ge_iff_le, gt_iff_lt, ne_eq, ← Int32.toInt_inj, t0, t1] at c_1 c_2 ⊢; omega)
      refine lv_iload_n hx hb dX5_shareOf_11 rfl (lv_at hl 1 rfl) ?_
      refine lv_aload_n hx hb dX5_shareOf_12 rfl (lv_at hl 0 rfl) ?_
      refine va_get (D := E.1) (ci := 6) (v := .ref g4) (C := RX5) (T := TX5) (N := 6) hx hb hts i_s_shareOf_X5 hown hK hP 0 rfl rfl 5 (by decide) (hts (.fieldLink RX5 28 "HushWatch$State" "leftOver" "[I") (List.mem_of_getElem? (i := 1) rfl)) (fun _ h9 => h9) rfl dX5_shareOf_13 ?_
      refine lv_iload_n hx hb dX5_shareOf_16 rfl (lv_at hl 2 rfl) ?_
      refine W.eq (g2 := F0 m 17 ls [.int (nI j_3), .ref g4, .int p0]) (by rw [ej_3]) ?_
      refine va_iald hx hb hK hP 2 0 rfl rfl (vp_in_nI (by omega) (by decide)) dX5_shareOf_17 ?_
      refine lv_topi (fun z_4 ez_4 => ?_)
      have K_10 : ∀ (y_9 : Int32), ∀ (ls : Array Slot), lv_has ls 3 [(0, .ref h), (1, .int p0), (2, .int p1)] → W p l e ({ frames := 0, cells := 0, slots := 0, locals := 0 } : Room) s m #[Value.ref h, Value.int p0, Value.int p1] below meth c s.heap [] 0 0 Q (F0 m 38 ls [.int y_9]) := by
        intro y_9 ls hl
        rw [hQ]
        exact W.iret (v := y_9) hx hb hr (fun tt ht hW => ⟨_, rfl, trivial, ht⟩) (fun _ h => by cases h) dX5_shareOf_38
      refine lv_icmp_ge (tgt := 32) hx hb dX5_shareOf_18 (by decide) (fun c_5 => ?_) (fun c_5 => ?_)
      ·
        refine lv_aload_n hx hb dX5_shareOf_32 rfl (lv_at hl 0 rfl) ?_
        refine va_get (D := E.1) (ci := 6) (v := .ref g3) (C := RX5) (T := TX5) (N := 6) hx hb hts i_s_shareOf_X5 hown hK hP 0 rfl rfl 4 (by decide) (hts (.fieldLink RX5 25 "HushWatch$State" "share" "[I") (List.mem_of_getElem? (i := 2) rfl)) (fun _ h9 => h9) rfl dX5_shareOf_33 ?_
        refine lv_iload_n hx hb dX5_shareOf_36 rfl (lv_at hl 2 rfl) ?_
        refine W.eq (g2 := F0 m 37 ls [.int (nI j_3), .ref g3]) (by rw [ej_3]) ?_
        refine va_iald hx hb hK hP 1 0 rfl rfl (vp_in_nI (by omega) (by decide)) dX5_shareOf_37 ?_
        refine lv_topi (fun z_11 ez_11 => ?_)
        exact K_10 z_11 ls  (lv_sub hl [0, 1, 2] rfl)
      ·
        refine lv_aload_n hx hb dX5_shareOf_21 rfl (lv_at hl 0 rfl) ?_
        refine va_get (D := E.1) (ci := 6) (v := .ref g3) (C := RX5) (T := TX5) (N := 6) hx hb hts i_s_shareOf_X5 hown hK hP 0 rfl rfl 4 (by decide) (hts (.fieldLink RX5 25 "HushWatch$State" "share" "[I") (List.mem_of_getElem? (i := 2) rfl)) (fun _ h9 => h9) rfl dX5_shareOf_22 ?_
        refine lv_iload_n hx hb dX5_shareOf_25 rfl (lv_at hl 2 rfl) ?_
        refine W.eq (g2 := F0 m 26 ls [.int (nI j_3), .ref g3]) (by rw [ej_3]) ?_
        refine va_iald hx hb hK hP 1 0 rfl rfl (vp_in_nI (by omega) (by decide)) dX5_shareOf_26 ?_
        refine lv_topi (fun z_12 ez_12 => ?_)
        refine lv_iconst (v := 1) hx hb dX5_shareOf_27 (by decide) ?_
        refine lv_iadd hx hb dX5_shareOf_28 ?_
        refine lv_topi (fun z_13 ez_13 => ?_)
        refine lv_goto (tgt := 38) hx hb dX5_shareOf_29 (by decide) ?_
        exact K_10 z_13 ls  (lv_sub hl [0, 1, 2] rfl)
    ·
      refine lv_iconst (v := 0) hx hb dX5_shareOf_9 (by decide) ?_
      rw [hQ]
      exact W.iret (v := 0) hx hb hr (fun tt ht hW => ⟨_, rfl, trivial, ht⟩) (fun _ h => by cases h) dX5_shareOf_10

def v_s_measureShares : List Cond := .code yX5_measureShares cX5_measureShares 6 none :: ([.fieldLink RX5 25 "HushWatch$State" "share" "[I", .fieldLink RX5 28 "HushWatch$State" "leftOver" "[I", .methodLink RX5 171 yJ6_bitCount_0f7a4, .static yJ6_bitCount_0f7a4, .initialized RJ6, .methodLink RX5 45 yX5_sites, .instanceMethod yX5_sites, .selects RX5 yX5_sites yX5_sites, .initialized RX5, .methodLink RX5 72 yX5_drift, .instanceMethod yX5_drift, .selects RX5 yX5_drift yX5_drift, .methodLink RX5 176 yJ9_floorDiv_7cf53, .static yJ9_floorDiv_7cf53, .initialized RJ9, .methodLink RX5 179 yJ9_floorMod_7cf53, .static yJ9_floorMod_7cf53] ++ (v_j_bitCount ++ (v_s_sites ++ (v_s_drift ++ (wsX50 ++ (v_j_floorDiv ++ (v_j_floorMod ++ ([]))))))))
theorem gw_s_measureShares : v_s_measureShares.all goodWord = true := by decide +kernel
theorem i_s_measureShares_X5 : ∀ w ∈ wsX50, w ∈ v_s_measureShares := fun _ h => List.mem_cons_of_mem _ (List.mem_append_right _ (List.mem_append_right _ (List.mem_append_right _ (List.mem_append_right _ (List.mem_append_left _ h)))))
theorem g_s_measureShares_j_bitCount_171 : GoodIn v_s_measureShares (va_wsS RX5 171 yJ6_bitCount_0f7a4 v_j_bitCount) := goodIn_app (goodIn_of _ (by decide +kernel)) (goodIn_sub (fun _ h => List.mem_cons_of_mem _ (List.mem_append_right _ (List.mem_append_left _ h))) gw_j_bitCount)
theorem g_s_measureShares_s_sites_45 : GoodIn v_s_measureShares (wsV RX5 45 RX5 yX5_sites v_s_sites) := goodIn_app (goodIn_of _ (by decide +kernel)) (goodIn_sub (fun _ h => List.mem_cons_of_mem _ (List.mem_append_right _ (List.mem_append_right _ (List.mem_append_left _ h)))) gw_s_sites)
theorem g_s_measureShares_s_drift_72 : GoodIn v_s_measureShares (wsV RX5 72 RX5 yX5_drift v_s_drift) := goodIn_app (goodIn_of _ (by decide +kernel)) (goodIn_sub (fun _ h => List.mem_cons_of_mem _ (List.mem_append_right _ (List.mem_append_right _ (List.mem_append_right _ (List.mem_append_left _ h))))) gw_s_drift)
theorem g_s_measureShares_j_floorDiv_176 : GoodIn v_s_measureShares (va_wsS RX5 176 yJ9_floorDiv_7cf53 v_j_floorDiv) := goodIn_app (goodIn_of _ (by decide +kernel)) (goodIn_sub (fun _ h => List.mem_cons_of_mem _ (List.mem_append_right _ (List.mem_append_right _ (List.mem_append_right _ (List.mem_append_right _ (List.mem_append_right _ (List.mem_append_left _ h))))))) gw_j_floorDiv)
theorem g_s_measureShares_j_floorMod_179 : GoodIn v_s_measureShares (va_wsS RX5 179 yJ9_floorMod_7cf53 v_j_floorMod) := goodIn_app (goodIn_of _ (by decide +kernel)) (goodIn_sub (fun _ h => List.mem_cons_of_mem _ (List.mem_append_right _ (List.mem_append_right _ (List.mem_append_right _ (List.mem_append_right _ (List.mem_append_right _ (List.mem_append_right _ (List.mem_append_left _ h)))))))) gw_j_floorMod)
set_option maxHeartbeats 4000000 in
set_option maxRecDepth 100000 in
theorem lp_s_measureShares_23 {p : Program} (l : Launch) {e : Env} {s : State} {m : MethodId} {below : List Frame} {meth : Method} {c : Code} {Q : State → Prop} (E : EE) {h g1 g2 g3 g4 k : Nat} {ka ko : Int32} {f : Nat → Int32} {fp fs fl : Nat → Int32} {p0 : Int32} (hk : f 3 = nI k) (hk8 : k ≤ 8) (hx : p.tables.exec = Jvm.exec) (hb : c.code = cX5_measureShares) (hml : c.maxLocals = 6) (hown : s.vm.findClass RX5 = some m.cls) (hts : ∀ w ∈ v_s_measureShares, w.before #[Value.ref h, Value.int p0] s = true) (hK : va_K E.1 vwCl (TY E) s) (hN : NX s) (r_1 : Int32) (hP : va_P E.1 vwCl [(h, .inr (6, [.ref g1, .ref g2, .int ka, .int ko, .ref g3, .ref g4])), (g1, .inl (E.2.1, 81, .inl f)), (g2, .inl (E.2.1, 8, .inl fp)), (g3, .inl (E.2.1, 2, .inl fs)), (g4, .inl (E.2.1, 2, .inl fl))] s.heap) (KX63 : ∀ (v4 : Int32), ∀ (i : Nat), ∀ (ls : Array Slot), i ≤ 8 → lv_has ls 6 [(0, .ref h), (1, .int p0), (2, .int r_1), (3, .int 0), (4, .int v4), (5, .int (nI i))] → W p l e ({ frames := 1, cells := 0, slots := 0, locals := 23 } : Room) s m #[Value.ref h, Value.int p0] below meth c s.heap [] 0 0 Q (F0 m 63 ls [])) : ∀ fuel9 : Nat, ∀ (v4 : Int32), ∀ (i : Nat), ∀ (ls : Array Slot), i ≤ 8 → (9 - i) < fuel9 → lv_has ls 6 [(0, .ref h), (1, .int p0), (2, .int r_1), (3, .int 0), (4, .int v4), (5, .int (nI i))] → W p l e ({ frames := 1, cells := 0, slots := 0, locals := 23 } : Room) s m #[Value.ref h, Value.int p0] below meth c s.heap [] 0 0 Q (F0 m 23 ls []) := by
  intro fuel9
  induction fuel9 with
  | zero =>
    intro v4 i ls hi hms hl
    omega
  | succ fuel9 ih =>
    intro v4 i ls hi hms hl
    refine lv_iload hx hb dX5_measureShares_23 (lv_at hl 5 rfl) ?_
    refine lv_aload_n hx hb dX5_measureShares_25 rfl (lv_at hl 0 rfl) ?_
    have hPc := hP.sub (ws' := [(h, .inr (6, [.ref g1, .ref g2, .int ka, .int ko, .ref g3, .ref g4])), (g1, .inl (E.2.1, 81, .inl f))]) [0, 1] rfl
    refine pc_i (va_runV (As := []) (rest := [.int (nI i)]) ⟨hx, hb, hml, hown, hts⟩ (s_sites l E h g1 g2 g3 g4 k ka ko f hk (by omega)) (cwV 0 hts g_s_measureShares_s_sites_45 rfl rfl rfl (by decide +kernel) ⟨Nat.le_of_ble_eq_true rfl, Nat.le_of_ble_eq_true rfl⟩) ⟨pP.blind, va_recv hK hPc (ci := 6) (q0 := 0) rfl rfl, (pP.pre ⟨hK, hN⟩ hPc)⟩ rfl rfl hl.1 rfl (lv_room (Nat.le_of_ble_eq_true rfl)) dX5_measureShares_26 ⟨Nat.le_of_ble_eq_true rfl, Nat.le_of_ble_eq_true rfl⟩) (fun r_3 hr_3 => ?_)
    obtain rfl : r_3 = nI k := hr_3
    refine lv_icmp_ge (tgt := 63) hx hb dX5_measureShares_29 (by decide) (fun c_4 => ?_) (fun c_4 => ?_)
    ·
      have d_15 : k ≤ i := nc_ge (a := i) (b := k) (by omega) (by omega) c_4
      exact KX63 v4 i ls (by omega) (lv_sub hl [0, 1, 2, 3, 4, 5] rfl)
    ·
      have d_16 : ¬ (k ≤ i) := nc_ge_n (a := i) (b := k) (by omega) (by omega) c_4
      refine lv_iload hx hb dX5_measureShares_32 (lv_at hl 4 rfl) ?_
      refine lv_iload_n hx hb dX5_measureShares_34 rfl (lv_at hl 1 rfl) ?_
      refine lv_iload hx hb dX5_measureShares_35 (lv_at hl 5 rfl) ?_
      refine lv_ishr hx hb dX5_measureShares_37 ?_
      refine lv_topi (fun z_17 ez_17 => ?_)
      refine lv_iconst (v := 1) hx hb dX5_measureShares_38 (by decide) ?_
      refine lv_iand hx hb dX5_measureShares_39 ?_
      refine lv_topi (fun z_18 ez_18 => ?_)
      have K_23 : ∀ (y_22 : Int32), ∀ (ls : Array Slot), lv_has ls 6 [(0, .ref h), (1, .int p0), (2, .int r_1), (3, .int 0), (4, .int v4), (5, .int (nI i))] → W p l e ({ frames := 1, cells := 0, slots := 0, locals := 23 } : Room) s m #[Value.ref h, Value.int p0] below meth c s.heap [] 0 0 Q (F0 m 54 ls [.int y_22, .int v4]) := by
        intro y_22 ls hl
        refine lv_iadd hx hb dX5_measureShares_54 ?_
        refine lv_topi (fun z_24 ez_24 => ?_)
        refine lv_istore (lv' := [(4, .int z_24), (0, .ref h), (1, .int p0), (2, .int r_1), (3, .int 0), (5, .int (nI i))]) hx hb dX5_measureShares_55 hl (by decide) rfl (fun ls hl => ?_)
        refine lv_iinc (v := nI (i + 1)) (lv' := [(5, .int (nI (i + 1))), (4, .int z_24), (0, .ref h), (1, .int p0), (2, .int r_1), (3, .int 0)]) hx hb dX5_measureShares_57 hl (k := 5) rfl (show nI (i) + 1 = nI (i + 1) from nI_add _ 1) (by decide) rfl (fun ls hl => ?_)
        refine lv_goto (tgt := 23) hx hb dX5_measureShares_60 (by decide) ?_
        exact ih z_24 (i + 1) ls (by omega) (by omega) (lv_sub hl [2, 3, 4, 5, 1, 0] rfl)
      refine lv_if_eq (tgt := 53) hx hb dX5_measureShares_40 (by decide) (fun c_19 => ?_) (fun c_19 => ?_)
      ·
        obtain ⟨j_25, hj_25, ej_25⟩ : ∃ j : Nat, j ≤ 0 ∧ z_18 = nI j := nat_rng (by have t0 : (0 : Int32).toInt = 0 := (by decide); simp only [Int32.lt_iff_toInt_lt, Int32.le_iff_toInt_le, ge_iff_le, gt_iff_lt, ne_eq, ← Int32.toInt_inj, t0] at c_19 ⊢; omega)
        refine lv_iconst (v := 0) hx hb dX5_measureShares_53 (by decide) ?_
        exact K_23 0 ls  (lv_sub hl [0, 1, 2, 3, 4, 5] rfl)
      ·
        refine lv_aload_n hx hb dX5_measureShares_43 rfl (lv_at hl 0 rfl) ?_
        refine lv_iload hx hb dX5_measureShares_44 (lv_at hl 5 rfl) ?_
        refine lv_iload_n hx hb dX5_measureShares_46 rfl (lv_at hl 3 rfl) ?_
        have hPc := hP.sub (ws' := [(h, .inr (6, [.ref g1, .ref g2, .int ka, .int ko, .ref g3, .ref g4])), (g1, .inl (E.2.1, 81, .inl f))]) [0, 1] rfl
        refine pc_i (va_runV (As := [.int (nI i), .int 0]) (rest := [.int v4]) ⟨hx, hb, hml, hown, hts⟩ (s_drift l E h g1 g2 g3 g4 k ka ko f (nI i) 0 hk (by omega)) (cwV 2 hts g_s_measureShares_s_drift_72 rfl rfl rfl (by decide +kernel) ⟨Nat.le_of_ble_eq_true rfl, Nat.le_of_ble_eq_true rfl⟩) ⟨pP.blind, va_recv hK hPc (ci := 6) (q0 := 0) rfl rfl, (pP.pre ⟨hK, hN⟩ hPc)⟩ rfl rfl hl.1 rfl (lv_room (Nat.le_of_ble_eq_true rfl)) dX5_measureShares_47 ⟨Nat.le_of_ble_eq_true rfl, Nat.le_of_ble_eq_true rfl⟩) (fun r_26 hr_26 => ?_)
        refine lv_goto (tgt := 54) hx hb dX5_measureShares_50 (by decide) ?_
        exact K_23 r_26 ls  (lv_sub hl [0, 1, 2, 3, 4, 5] rfl)

set_option maxHeartbeats 4000000 in
set_option maxRecDepth 100000 in
theorem lp_s_measureShares_23_1 {p : Program} (l : Launch) {e : Env} {s : State} {m : MethodId} {below : List Frame} {meth : Method} {c : Code} {Q : State → Prop} (E : EE) {h g1 g2 g3 g4 k : Nat} {ka ko : Int32} {f : Nat → Int32} {fp fs fl : Nat → Int32} {p0 : Int32} (hk : f 3 = nI k) (hk8 : k ≤ 8) (hx : p.tables.exec = Jvm.exec) (hb : c.code = cX5_measureShares) (hml : c.maxLocals = 6) (hown : s.vm.findClass RX5 = some m.cls) (hts : ∀ w ∈ v_s_measureShares, w.before #[Value.ref h, Value.int p0] s = true) (hK : va_K E.1 vwCl (TY E) s) (hN : NX s) (r_1 : Int32) (f_28 : Nat → Int32) (f_30 : Nat → Int32) {H : Heap} {locs : List Loc} (hP : va_P E.1 vwCl [(h, .inr (6, [.ref g1, .ref g2, .int ka, .int ko, .ref g3, .ref g4])), (g1, .inl (E.2.1, 81, .inl f)), (g2, .inl (E.2.1, 8, .inl fp)), (g3, .inl (E.2.1, 2, .inl f_28)), (g4, .inl (E.2.1, 2, .inl f_30))] H) (KX63 : ∀ (v4 : Int32), ∀ (i : Nat), ∀ (ls : Array Slot), i ≤ 8 → lv_has ls 6 [(0, .ref h), (1, .int p0), (2, .int r_1), (3, .int 1), (4, .int v4), (5, .int (nI i))] → W p l e ({ frames := 1, cells := 0, slots := 0, locals := 23 } : Room) s m #[Value.ref h, Value.int p0] below meth c H locs 0 0 Q (F0 m 63 ls [])) : ∀ fuel9 : Nat, ∀ (v4 : Int32), ∀ (i : Nat), ∀ (ls : Array Slot), i ≤ 8 → (9 - i) < fuel9 → lv_has ls 6 [(0, .ref h), (1, .int p0), (2, .int r_1), (3, .int 1), (4, .int v4), (5, .int (nI i))] → W p l e ({ frames := 1, cells := 0, slots := 0, locals := 23 } : Room) s m #[Value.ref h, Value.int p0] below meth c H locs 0 0 Q (F0 m 23 ls []) := by
  intro fuel9
  induction fuel9 with
  | zero =>
    intro v4 i ls hi hms hl
    omega
  | succ fuel9 ih =>
    intro v4 i ls hi hms hl
    refine lv_iload hx hb dX5_measureShares_23 (lv_at hl 5 rfl) ?_
    refine lv_aload_n hx hb dX5_measureShares_25 rfl (lv_at hl 0 rfl) ?_
    have hPc := hP.sub (ws' := [(h, .inr (6, [.ref g1, .ref g2, .int ka, .int ko, .ref g3, .ref g4])), (g1, .inl (E.2.1, 81, .inl f))]) [0, 1] rfl
    refine pc_i (va_runV (As := []) (rest := [.int (nI i)]) ⟨hx, hb, hml, hown, hts⟩ (s_sites l E h g1 g2 g3 g4 k ka ko f hk (by omega)) (cwV 0 hts g_s_measureShares_s_sites_45 rfl rfl rfl (by decide +kernel) ⟨Nat.le_of_ble_eq_true rfl, Nat.le_of_ble_eq_true rfl⟩) ⟨pP.blind, va_recv hK hPc (ci := 6) (q0 := 0) rfl rfl, (pP.pre ⟨hK, hN⟩ hPc)⟩ rfl rfl hl.1 rfl (lv_room (Nat.le_of_ble_eq_true rfl)) dX5_measureShares_26 ⟨Nat.le_of_ble_eq_true rfl, Nat.le_of_ble_eq_true rfl⟩) (fun r_31 hr_31 => ?_)
    obtain rfl : r_31 = nI k := hr_31
    refine lv_icmp_ge (tgt := 63) hx hb dX5_measureShares_29 (by decide) (fun c_32 => ?_) (fun c_32 => ?_)
    ·
      have d_43 : k ≤ i := nc_ge (a := i) (b := k) (by omega) (by omega) c_32
      exact KX63 v4 i ls (by omega) (lv_sub hl [0, 1, 2, 3, 4, 5] rfl)
    ·
      have d_44 : ¬ (k ≤ i) := nc_ge_n (a := i) (b := k) (by omega) (by omega) c_32
      refine lv_iload hx hb dX5_measureShares_32 (lv_at hl 4 rfl) ?_
      refine lv_iload_n hx hb dX5_measureShares_34 rfl (lv_at hl 1 rfl) ?_
      refine lv_iload hx hb dX5_measureShares_35 (lv_at hl 5 rfl) ?_
      refine lv_ishr hx hb dX5_measureShares_37 ?_
      refine lv_topi (fun z_45 ez_45 => ?_)
      refine lv_iconst (v := 1) hx hb dX5_measureShares_38 (by decide) ?_
      refine lv_iand hx hb dX5_measureShares_39 ?_
      refine lv_topi (fun z_46 ez_46 => ?_)
      have K_51 : ∀ (y_50 : Int32), ∀ (ls : Array Slot), lv_has ls 6 [(0, .ref h), (1, .int p0), (2, .int r_1), (3, .int 1), (4, .int v4), (5, .int (nI i))] → W p l e ({ frames := 1, cells := 0, slots := 0, locals := 23 } : Room) s m #[Value.ref h, Value.int p0] below meth c H locs 0 0 Q (F0 m 54 ls [.int y_50, .int v4]) := by
        intro y_50 ls hl
        refine lv_iadd hx hb dX5_measureShares_54 ?_
        refine lv_topi (fun z_52 ez_52 => ?_)
        refine lv_istore (lv' := [(4, .int z_52), (0, .ref h), (1, .int p0), (2, .int r_1), (3, .int 1), (5, .int (nI i))]) hx hb dX5_measureShares_55 hl (by decide) rfl (fun ls hl => ?_)
        refine lv_iinc (v := nI (i + 1)) (lv' := [(5, .int (nI (i + 1))), (4, .int z_52), (0, .ref h), (1, .int p0), (2, .int r_1), (3, .int 1)]) hx hb dX5_measureShares_57 hl (k := 5) rfl (show nI (i) + 1 = nI (i + 1) from nI_add _ 1) (by decide) rfl (fun ls hl => ?_)
        refine lv_goto (tgt := 23) hx hb dX5_measureShares_60 (by decide) ?_
        exact ih z_52 (i + 1) ls (by omega) (by omega) (lv_sub hl [2, 3, 4, 5, 1, 0] rfl)
      refine lv_if_eq (tgt := 53) hx hb dX5_measureShares_40 (by decide) (fun c_47 => ?_) (fun c_47 => ?_)
      ·
        obtain ⟨j_53, hj_53, ej_53⟩ : ∃ j : Nat, j ≤ 0 ∧ z_46 = nI j := nat_rng (by have t0 : (0 : Int32).toInt = 0 := (by decide); simp only [Int32.lt_iff_toInt_lt, Int32.le_iff_toInt_le, ge_iff_le, gt_iff_lt, ne_eq, ← Int32.toInt_inj, t0] at c_47 ⊢; omega)
        refine lv_iconst (v := 0) hx hb dX5_measureShares_53 (by decide) ?_
        exact K_51 0 ls  (lv_sub hl [0, 1, 2, 3, 4, 5] rfl)
      ·
        refine lv_aload_n hx hb dX5_measureShares_43 rfl (lv_at hl 0 rfl) ?_
        refine lv_iload hx hb dX5_measureShares_44 (lv_at hl 5 rfl) ?_
        refine lv_iload_n hx hb dX5_measureShares_46 rfl (lv_at hl 3 rfl) ?_
        have hPc := hP.sub (ws' := [(h, .inr (6, [.ref g1, .ref g2, .int ka, .int ko, .ref g3, .ref g4])), (g1, .inl (E.2.1, 81, .inl f))]) [0, 1] rfl
        refine pc_i (va_runV (As := [.int (nI i), .int 1]) (rest := [.int v4]) ⟨hx, hb, hml, hown, hts⟩ (s_drift l E h g1 g2 g3 g4 k ka ko f (nI i) 1 hk (by omega)) (cwV 2 hts g_s_measureShares_s_drift_72 rfl rfl rfl (by decide +kernel) ⟨Nat.le_of_ble_eq_true rfl, Nat.le_of_ble_eq_true rfl⟩) ⟨pP.blind, va_recv hK hPc (ci := 6) (q0 := 0) rfl rfl, (pP.pre ⟨hK, hN⟩ hPc)⟩ rfl rfl hl.1 rfl (lv_room (Nat.le_of_ble_eq_true rfl)) dX5_measureShares_47 ⟨Nat.le_of_ble_eq_true rfl, Nat.le_of_ble_eq_true rfl⟩) (fun r_54 hr_54 => ?_)
        refine lv_goto (tgt := 54) hx hb dX5_measureShares_50 (by decide) ?_
        exact K_51 r_54 ls  (lv_sub hl [0, 1, 2, 3, 4, 5] rfl)

set_option maxHeartbeats 4000000 in
set_option maxRecDepth 100000 in
theorem s_measureShares (l : Launch) (E : EE) (sz : Nat) (h g1 g2 g3 g4 k : Nat) (ka ko : Int32) (f : Nat → Int32) (fp fs fl : Nat → Int32) (p0 : Int32) (hk : f 3 = nI k) (hk8 : k ≤ 8) : Met l yX5_measureShares v_s_measureShares ({ frames := 1, cells := 0, slots := 0, locals := 23 }) (va_Pc [.ref h, .int p0] (pW E sz [(h, .inr (6, [.ref g1, .ref g2, .int ka, .int ko, .ref g3, .ref g4])), (g1, .inl (E.2.1, 81, .inl f)), (g2, .inl (E.2.1, 8, .inl fp)), (g3, .inl (E.2.1, 2, .inl fs)), (g4, .inl (E.2.1, 2, .inl fl))])) (va_Qv (fun (u_ : (Nat → Int32) × (Nat → Int32)) => True) (fun (u_ : (Nat → Int32) × (Nat → Int32)) tt => va_P E.1 vwCl [(h, .inr (6, [.ref g1, .ref g2, .int ka, .int ko, .ref g3, .ref g4])), (g1, .inl (E.2.1, 81, .inl f)), (g2, .inl (E.2.1, 8, .inl fp)), (g3, .inl (E.2.1, 2, .inl u_.1)), (g4, .inl (E.2.1, 2, .inl u_.2))] tt.heap ∧ va_D (va_A [(h, .inr (6, [.ref g1, .ref g2, .int ka, .int ko, .ref g3, .ref g4])), (g1, .inl (E.2.1, 81, .inl f)), (g2, .inl (E.2.1, 8, .inl fp)), (g3, .inl (E.2.1, 2, .inl fs)), (g4, .inl (E.2.1, 2, .inl fl))] sz) [(h, .inr (6, [.ref g1, .ref g2, .int ka, .int ko, .ref g3, .ref g4])), (g1, .inl (E.2.1, 81, .inl f)), (g2, .inl (E.2.1, 8, .inl fp)), (g3, .inl (E.2.1, 2, .inl u_.1)), (g4, .inl (E.2.1, 2, .inl u_.2))]) (va_A [(h, .inr (6, [.ref g1, .ref g2, .int ka, .int ko, .ref g3, .ref g4])), (g1, .inl (E.2.1, 81, .inl f)), (g2, .inl (E.2.1, 8, .inl fp)), (g3, .inl (E.2.1, 2, .inl fs)), (g4, .inl (E.2.1, 2, .inl fl))] sz)) 0 0 (va_A [(h, .inr (6, [.ref g1, .ref g2, .int ka, .int ko, .ref g3, .ref g4])), (g1, .inl (E.2.1, 81, .inl f)), (g2, .inl (E.2.1, 8, .inl fp)), (g3, .inl (E.2.1, 2, .inl fs)), (g4, .inl (E.2.1, 2, .inl fl))] sz) := by
  refine Met.ofW (cc := cX5_measureShares) (maxL := 6) (ret := none) (by decide) rfl ?_
  intro p e s m args below meth c s₁ B hml hv
  obtain ⟨rfl, hsz, ⟨hK, hN⟩, hP, hD0⟩ := hv
  have hx := B.exec
  have hb := B.bytes
  have hr := B.returns
  have hts := atoms_spec (ws := v_s_measureShares) B.pre
  have hown : s.vm.findClass RX5 = some m.cls := findClass_of_methodNamed B.named
  have hlocks := B.notSynchronized
  subst hsz
  have hD := hD0.self (sz := s.heap.size)
  generalize hAe : va_A [(h, .inr (6, [.ref g1, .ref g2, .int ka, .int ko, .ref g3, .ref g4])), (g1, .inl (E.2.1, 81, .inl f)), (g2, .inl (E.2.1, 8, .inl fp)), (g3, .inl (E.2.1, 2, .inl fs)), (g4, .inl (E.2.1, 2, .inl fl))] s.heap.size = A at hD ⊢
  have hA : ∀ q : Nat, s.heap.size ≤ q → A q := fun q h => by rw [← hAe]; exact Or.inr h
  have hS : va_S A s.heap s.heap [] := va_S.rf
  have hP : va_P E.1 vwCl [(h, .inr (6, [.ref g1, .ref g2, .int ka, .int ko, .ref g3, .ref g4])), (g1, .inl (E.2.1, 81, .inl f)), (g2, .inl (E.2.1, 8, .inl fp)), (g3, .inl (E.2.1, 2, .inl fs)), (g4, .inl (E.2.1, 2, .inl fl))] s.heap := hP
  have hl := lv_entry ([.ref h, .int p0]) (n := 6) (Nat.le_of_ble_eq_true rfl)
  rw [lg_entry_eq]
  generalize (lg_sl ([.ref h, .int p0]) ++ List.replicate (6 - (lg_sl ([.ref h, .int p0])).length) Slot.unset).toArray = ls at hl ⊢
  have hl : lv_has ls 6 [(0, .ref h), (1, .int p0)] := hl
  obtain ⟨Q, hQ⟩ : ∃ Q : State → Prop, Q = MQ below (va_Qv (fun (u_ : (Nat → Int32) × (Nat → Int32)) => True) (fun (u_ : (Nat → Int32) × (Nat → Int32)) tt => va_P E.1 vwCl [(h, .inr (6, [.ref g1, .ref g2, .int ka, .int ko, .ref g3, .ref g4])), (g1, .inl (E.2.1, 81, .inl f)), (g2, .inl (E.2.1, 8, .inl fp)), (g3, .inl (E.2.1, 2, .inl u_.1)), (g4, .inl (E.2.1, 2, .inl u_.2))] tt.heap ∧ va_D A [(h, .inr (6, [.ref g1, .ref g2, .int ka, .int ko, .ref g3, .ref g4])), (g1, .inl (E.2.1, 81, .inl f)), (g2, .inl (E.2.1, 8, .inl fp)), (g3, .inl (E.2.1, 2, .inl u_.1)), (g4, .inl (E.2.1, 2, .inl u_.2))]) A) #[Value.ref h, Value.int p0] s 0 0 A := ⟨_, rfl⟩
  rw [← hQ]
  change W p l e ({ frames := 1, cells := 0, slots := 0, locals := 23 } : Room) s m #[Value.ref h, Value.int p0] below meth c s.heap [] 0 0 Q (F0 m 0 ls [])
  refine lv_iload_n hx hb dX5_measureShares_0 rfl (lv_at hl 1 rfl) ?_
  have hPc : va_P E.1 vwCl [] s.heap := fun k q h => by simp at h
  refine pc_i (va_runS (As := [.int p0]) (rest := []) ⟨hx, hb, hml, hown, hts⟩ (j_bitCount l E p0) (va_cwS 1 hts g_s_measureShares_j_bitCount_171 rfl rfl rfl (by decide +kernel) ⟨Nat.le_of_ble_eq_true rfl, Nat.le_of_ble_eq_true rfl⟩) ⟨pP.blind, (pP.pre ⟨hK, hN⟩ hPc)⟩ rfl rfl hl.1 rfl (lv_room (Nat.le_of_ble_eq_true rfl)) dX5_measureShares_1 ⟨Nat.le_of_ble_eq_true rfl, Nat.le_of_ble_eq_true rfl⟩) (fun r_1 hr_1 => ?_)
  refine lv_istore_n (lv' := [(2, .int r_1), (0, .ref h), (1, .int p0)]) hx hb dX5_measureShares_4 rfl hl (by decide) rfl (fun ls hl => ?_)
  refine lv_iload_n hx hb dX5_measureShares_5 rfl (lv_at hl 0 rfl) ?_
  refine lv_if_ne (tgt := 10) hx hb dX5_measureShares_6 (by decide) (fun c_2 => ?_) (fun c_2 => ?_)
  ·
    refine lv_iconst (v := 0) hx hb dX5_measureShares_10 (by decide) ?_
    refine lv_istore_n (lv' := [(3, .int 0), (2, .int r_1), (0, .ref h), (1, .int p0)]) hx hb dX5_measureShares_11 rfl hl (by decide) rfl (fun ls hl => ?_)
    refine lv_iload_n hx hb dX5_measureShares_12 rfl (lv_at hl 0 rfl) ?_
    refine lv_iconst (v := 2) hx hb dX5_measureShares_13 (by decide) ?_
    refine lv_icmp_ge (tgt := 93) hx hb dX5_measureShares_14 (by decide) (fun q => absurd q (by decide)) (fun _ => ?_)
    refine lv_iconst (v := 0) hx hb dX5_measureShares_17 (by decide) ?_
    refine lv_istore (lv' := [(4, .int 0), (3, .int 0), (2, .int r_1), (0, .ref h), (1, .int p0)]) hx hb dX5_measureShares_18 hl (by decide) rfl (fun ls hl => ?_)
    refine lv_iconst (v := 0) hx hb dX5_measureShares_20 (by decide) ?_
    refine lv_istore (lv' := [(5, .int 0), (4, .int 0), (3, .int 0), (2, .int r_1), (0, .ref h), (1, .int p0)]) hx hb dX5_measureShares_21 hl (by decide) rfl (fun ls hl => ?_)
    refine lp_s_measureShares_23 (h := h) (g1 := g1) (g2 := g2) (g3 := g3) (g4 := g4) (k := k) (ka := ka) (ko := ko) (f := f) (fp := fp) (fs := fs) (fl := fl) (p0 := p0) l E hk hk8 hx hb hml hown hts hK hN r_1 hP ?_ (10) 0 0 ls (by omega) (by omega) (lv_sub hl [4, 5, 3, 2, 1, 0] rfl)
    ·
      intro v4 i ls hi hl
      refine lv_aload_n hx hb dX5_measureShares_63 rfl (lv_at hl 0 rfl) ?_
      refine va_get (D := E.1) (ci := 6) (v := .ref g3) (C := RX5) (T := TX5) (N := 6) hx hb hts i_s_measureShares_X5 hown hK hP 0 rfl rfl 4 (by decide) (hts (.fieldLink RX5 25 "HushWatch$State" "share" "[I") (List.mem_of_getElem? (i := 1) rfl)) (fun _ h9 => h9) rfl dX5_measureShares_64 ?_
      refine lv_iload_n hx hb dX5_measureShares_67 rfl (lv_at hl 3 rfl) ?_
      refine lv_iload hx hb dX5_measureShares_68 (lv_at hl 4 rfl) ?_
      refine lv_iload_n hx hb dX5_measureShares_70 rfl (lv_at hl 2 rfl) ?_
      have hPc : va_P E.1 vwCl [] s.heap := fun k q h => by simp at h
      refine pc_i (va_runS (As := [.int v4, .int r_1]) (rest := [.int 0, .ref g3]) ⟨hx, hb, hml, hown, hts⟩ (j_floorDiv l E v4 r_1 c_2) (va_cwS 2 hts g_s_measureShares_j_floorDiv_176 rfl rfl rfl (by decide +kernel) ⟨Nat.le_of_ble_eq_true rfl, Nat.le_of_ble_eq_true rfl⟩) ⟨pP.blind, (pP.pre ⟨hK, hN⟩ hPc)⟩ rfl rfl hl.1 rfl (lv_room (Nat.le_of_ble_eq_true rfl)) dX5_measureShares_71 ⟨Nat.le_of_ble_eq_true rfl, Nat.le_of_ble_eq_true rfl⟩) (fun r_27 hr_27 => ?_)
      refine va_iast hx hb hK hP hD hS 3 0 rfl rfl (vin rfl) dX5_measureShares_74 (fun H locs hP hD hS => ?_)
      have hP : va_P E.1 vwCl [(h, .inr (6, [.ref g1, .ref g2, .int ka, .int ko, .ref g3, .ref g4])), (g1, .inl (E.2.1, 81, .inl f)), (g2, .inl (E.2.1, 8, .inl fp)), (g3, .inl (E.2.1, 2, .inl (upd fs (0 : Int32).toNatClampNeg r_27))), (g4, .inl (E.2.1, 2, .inl fl))] H := hP
      have hD : va_D A [(h, .inr (6, [.ref g1, .ref g2, .int ka, .int ko, .ref g3, .ref g4])), (g1, .inl (E.2.1, 81, .inl f)), (g2, .inl (E.2.1, 8, .inl fp)), (g3, .inl (E.2.1, 2, .inl (upd fs (0 : Int32).toNatClampNeg r_27))), (g4, .inl (E.2.1, 2, .inl fl))] := hD
      obtain ⟨f_28, hf_28⟩ : ∃ g : Nat → Int32, g = upd fs (0 : Int32).toNatClampNeg r_27 := ⟨_, rfl⟩
      rw [← hf_28] at hP hD
      refine lv_aload_n hx hb dX5_measureShares_75 rfl (lv_at hl 0 rfl) ?_
      refine va_get (D := E.1) (ci := 6) (v := .ref g4) (C := RX5) (T := TX5) (N := 6) hx hb hts i_s_measureShares_X5 hown hK hP 0 rfl rfl 5 (by decide) (hts (.fieldLink RX5 28 "HushWatch$State" "leftOver" "[I") (List.mem_of_getElem? (i := 2) rfl)) (fun _ h9 => h9) rfl dX5_measureShares_76 ?_
      refine lv_iload_n hx hb dX5_measureShares_79 rfl (lv_at hl 3 rfl) ?_
      refine lv_iload hx hb dX5_measureShares_80 (lv_at hl 4 rfl) ?_
      refine lv_iload_n hx hb dX5_measureShares_82 rfl (lv_at hl 2 rfl) ?_
      have hPc : va_P E.1 vwCl [] H := fun k q h => by simp at h
      refine pc_i (va_runS (As := [.int v4, .int r_1]) (rest := [.int 0, .ref g4]) ⟨hx, hb, hml, hown, hts⟩ (j_floorMod l E v4 r_1 c_2) (va_cwS 2 hts g_s_measureShares_j_floorMod_179 rfl rfl rfl (by decide +kernel) ⟨Nat.le_of_ble_eq_true rfl, Nat.le_of_ble_eq_true rfl⟩) ⟨pP.blind, (pP.pre ⟨hK, hN⟩ hPc)⟩ rfl rfl hl.1 rfl (lv_room (Nat.le_of_ble_eq_true rfl)) dX5_measureShares_83 ⟨Nat.le_of_ble_eq_true rfl, Nat.le_of_ble_eq_true rfl⟩) (fun r_29 hr_29 => ?_)
      refine va_iast hx hb hK hP hD hS 4 0 rfl rfl (vin rfl) dX5_measureShares_86 (fun H locs hP hD hS => ?_)
      have hP : va_P E.1 vwCl [(h, .inr (6, [.ref g1, .ref g2, .int ka, .int ko, .ref g3, .ref g4])), (g1, .inl (E.2.1, 81, .inl f)), (g2, .inl (E.2.1, 8, .inl fp)), (g3, .inl (E.2.1, 2, .inl f_28)), (g4, .inl (E.2.1, 2, .inl (upd fl (0 : Int32).toNatClampNeg r_29)))] H := hP
      have hD : va_D A [(h, .inr (6, [.ref g1, .ref g2, .int ka, .int ko, .ref g3, .ref g4])), (g1, .inl (E.2.1, 81, .inl f)), (g2, .inl (E.2.1, 8, .inl fp)), (g3, .inl (E.2.1, 2, .inl f_28)), (g4, .inl (E.2.1, 2, .inl (upd fl (0 : Int32).toNatClampNeg r_29)))] := hD
      obtain ⟨f_30, hf_30⟩ : ∃ g : Nat → Int32, g = upd fl (0 : Int32).toNatClampNeg r_29 := ⟨_, rfl⟩
      rw [← hf_30] at hP hD
      refine lv_iinc (v := 1) (lv' := [(3, .int 1), (0, .ref h), (1, .int p0), (2, .int r_1), (4, .int v4), (5, .int (nI i))]) hx hb dX5_measureShares_87 hl (k := 3) rfl (by decide) (by decide) rfl (fun ls hl => ?_)
      refine lv_goto (tgt := 12) hx hb dX5_measureShares_90 (by decide) ?_
      refine lv_iload_n hx hb dX5_measureShares_12 rfl (lv_at hl 0 rfl) ?_
      refine lv_iconst (v := 2) hx hb dX5_measureShares_13 (by decide) ?_
      refine lv_icmp_ge (tgt := 93) hx hb dX5_measureShares_14 (by decide) (fun q => absurd q (by decide)) (fun _ => ?_)
      refine lv_iconst (v := 0) hx hb dX5_measureShares_17 (by decide) ?_
      refine lv_istore (lv' := [(4, .int 0), (3, .int 1), (0, .ref h), (1, .int p0), (2, .int r_1), (5, .int (nI i))]) hx hb dX5_measureShares_18 hl (by decide) rfl (fun ls hl => ?_)
      refine lv_iconst (v := 0) hx hb dX5_measureShares_20 (by decide) ?_
      refine lv_istore (lv' := [(5, .int 0), (4, .int 0), (3, .int 1), (0, .ref h), (1, .int p0), (2, .int r_1)]) hx hb dX5_measureShares_21 hl (by decide) rfl (fun ls hl => ?_)
      refine lp_s_measureShares_23_1 (h := h) (g1 := g1) (g2 := g2) (g3 := g3) (g4 := g4) (k := k) (ka := ka) (ko := ko) (f := f) (fp := fp) (fs := fs) (fl := fl) (p0 := p0) l E hk hk8 hx hb hml hown hts hK hN r_1 f_28 f_30 hP ?_ (10) 0 0 ls (by omega) (by omega) (lv_sub hl [3, 4, 5, 2, 1, 0] rfl)
      ·
        intro v4 i ls hi hl
        refine lv_aload_n hx hb dX5_measureShares_63 rfl (lv_at hl 0 rfl) ?_
        refine va_get (D := E.1) (ci := 6) (v := .ref g3) (C := RX5) (T := TX5) (N := 6) hx hb hts i_s_measureShares_X5 hown hK hP 0 rfl rfl 4 (by decide) (hts (.fieldLink RX5 25 "HushWatch$State" "share" "[I") (List.mem_of_getElem? (i := 1) rfl)) (fun _ h9 => h9) rfl dX5_measureShares_64 ?_
        refine lv_iload_n hx hb dX5_measureShares_67 rfl (lv_at hl 3 rfl) ?_
        refine lv_iload hx hb dX5_measureShares_68 (lv_at hl 4 rfl) ?_
        refine lv_iload_n hx hb dX5_measureShares_70 rfl (lv_at hl 2 rfl) ?_
        have hPc : va_P E.1 vwCl [] H := fun k q h => by simp at h
        refine pc_i (va_runS (As := [.int v4, .int r_1]) (rest := [.int 1, .ref g3]) ⟨hx, hb, hml, hown, hts⟩ (j_floorDiv l E v4 r_1 c_2) (va_cwS 2 hts g_s_measureShares_j_floorDiv_176 rfl rfl rfl (by decide +kernel) ⟨Nat.le_of_ble_eq_true rfl, Nat.le_of_ble_eq_true rfl⟩) ⟨pP.blind, (pP.pre ⟨hK, hN⟩ hPc)⟩ rfl rfl hl.1 rfl (lv_room (Nat.le_of_ble_eq_true rfl)) dX5_measureShares_71 ⟨Nat.le_of_ble_eq_true rfl, Nat.le_of_ble_eq_true rfl⟩) (fun r_55 hr_55 => ?_)
        refine va_iast hx hb hK hP hD hS 3 0 rfl rfl (vin rfl) dX5_measureShares_74 (fun H locs hP hD hS => ?_)
        have hP : va_P E.1 vwCl [(h, .inr (6, [.ref g1, .ref g2, .int ka, .int ko, .ref g3, .ref g4])), (g1, .inl (E.2.1, 81, .inl f)), (g2, .inl (E.2.1, 8, .inl fp)), (g3, .inl (E.2.1, 2, .inl (upd f_28 (1 : Int32).toNatClampNeg r_55))), (g4, .inl (E.2.1, 2, .inl f_30))] H := hP
        have hD : va_D A [(h, .inr (6, [.ref g1, .ref g2, .int ka, .int ko, .ref g3, .ref g4])), (g1, .inl (E.2.1, 81, .inl f)), (g2, .inl (E.2.1, 8, .inl fp)), (g3, .inl (E.2.1, 2, .inl (upd f_28 (1 : Int32).toNatClampNeg r_55))), (g4, .inl (E.2.1, 2, .inl f_30))] := hD
        obtain ⟨f_56, hf_56⟩ : ∃ g : Nat → Int32, g = upd f_28 (1 : Int32).toNatClampNeg r_55 := ⟨_, rfl⟩
        rw [← hf_56] at hP hD
        refine lv_aload_n hx hb dX5_measureShares_75 rfl (lv_at hl 0 rfl) ?_
        refine va_get (D := E.1) (ci := 6) (v := .ref g4) (C := RX5) (T := TX5) (N := 6) hx hb hts i_s_measureShares_X5 hown hK hP 0 rfl rfl 5 (by decide) (hts (.fieldLink RX5 28 "HushWatch$State" "leftOver" "[I") (List.mem_of_getElem? (i := 2) rfl)) (fun _ h9 => h9) rfl dX5_measureShares_76 ?_
        refine lv_iload_n hx hb dX5_measureShares_79 rfl (lv_at hl 3 rfl) ?_
        refine lv_iload hx hb dX5_measureShares_80 (lv_at hl 4 rfl) ?_
        refine lv_iload_n hx hb dX5_measureShares_82 rfl (lv_at hl 2 rfl) ?_
        have hPc : va_P E.1 vwCl [] H := fun k q h => by simp at h
        refine pc_i (va_runS (As := [.int v4, .int r_1]) (rest := [.int 1, .ref g4]) ⟨hx, hb, hml, hown, hts⟩ (j_floorMod l E v4 r_1 c_2) (va_cwS 2 hts g_s_measureShares_j_floorMod_179 rfl rfl rfl (by decide +kernel) ⟨Nat.le_of_ble_eq_true rfl, Nat.le_of_ble_eq_true rfl⟩) ⟨pP.blind, (pP.pre ⟨hK, hN⟩ hPc)⟩ rfl rfl hl.1 rfl (lv_room (Nat.le_of_ble_eq_true rfl)) dX5_measureShares_83 ⟨Nat.le_of_ble_eq_true rfl, Nat.le_of_ble_eq_true rfl⟩) (fun r_57 hr_57 => ?_)
        refine va_iast hx hb hK hP hD hS 4 0 rfl rfl (vin rfl) dX5_measureShares_86 (fun H locs hP hD hS => ?_)
        have hP : va_P E.1 vwCl [(h, .inr (6, [.ref g1, .ref g2, .int ka, .int ko, .ref g3, .ref g4])), (g1, .inl (E.2.1, 81, .inl f)), (g2, .inl (E.2.1, 8, .inl fp)), (g3, .inl (E.2.1, 2, .inl f_56)), (g4, .inl (E.2.1, 2, .inl (upd f_30 (1 : Int32).toNatClampNeg r_57)))] H := hP
        have hD : va_D A [(h, .inr (6, [.ref g1, .ref g2, .int ka, .int ko, .ref g3, .ref g4])), (g1, .inl (E.2.1, 81, .inl f)), (g2, .inl (E.2.1, 8, .inl fp)), (g3, .inl (E.2.1, 2, .inl f_56)), (g4, .inl (E.2.1, 2, .inl (upd f_30 (1 : Int32).toNatClampNeg r_57)))] := hD
        obtain ⟨f_58, hf_58⟩ : ∃ g : Nat → Int32, g = upd f_30 (1 : Int32).toNatClampNeg r_57 := ⟨_, rfl⟩
        rw [← hf_58] at hP hD
        refine lv_iinc (v := 2) (lv' := [(3, .int 2), (0, .ref h), (1, .int p0), (2, .int r_1), (4, .int v4), (5, .int (nI i))]) hx hb dX5_measureShares_87 hl (k := 3) rfl (by decide) (by decide) rfl (fun ls hl => ?_)
        refine lv_goto (tgt := 12) hx hb dX5_measureShares_90 (by decide) ?_
        refine lv_iload_n hx hb dX5_measureShares_12 rfl (lv_at hl 0 rfl) ?_
        refine lv_iconst (v := 2) hx hb dX5_measureShares_13 (by decide) ?_
        refine lv_icmp_ge (tgt := 93) hx hb dX5_measureShares_14 (by decide) (fun _ => ?_) (fun q => absurd (by decide) q)
        rw [hQ]
        have hP9 := hP.sub (ws' := [(h, .inr (6, [.ref g1, .ref g2, .int ka, .int ko, .ref g3, .ref g4])), (g1, .inl (E.2.1, 81, .inl f)), (g2, .inl (E.2.1, 8, .inl fp)), (g3, .inl (E.2.1, 2, .inl f_56)), (g4, .inl (E.2.1, 2, .inl f_58))]) [0, 1, 2, 3, 4] rfl
        have hD9 := hD.sub (ws' := [(h, .inr (6, [.ref g1, .ref g2, .int ka, .int ko, .ref g3, .ref g4])), (g1, .inl (E.2.1, 81, .inl f)), (g2, .inl (E.2.1, 8, .inl fp)), (g3, .inl (E.2.1, 2, .inl f_56)), (g4, .inl (E.2.1, 2, .inl f_58))]) [0, 1, 2, 3, 4] (by decide) rfl
        exact W.vret hx hb hr (fun tt ht hW => ⟨⟨(f_56, f_58), rfl, trivial, by rw [ht]; exact hP9, hD9⟩, hS.F ht⟩) hS.2.2 dX5_measureShares_93
  ·
    obtain ⟨j_59, hj_59, ej_59⟩ : ∃ j : Nat, j ≤ 0 ∧ r_1 = nI j := nat_rng (by have t0 : (0 : Int32).toInt = 0 := (by decide); simp only [Int32.lt_iff_toInt_lt, Int32.le_iff_toInt_le, ge_iff_le, gt_iff_lt, ne_eq, ← Int32.toInt_inj, t0] at c_2 ⊢; omega)
    rw [hQ]
    have hP9 := hP.sub (ws' := [(h, .inr (6, [.ref g1, .ref g2, .int ka, .int ko, .ref g3, .ref g4])), (g1, .inl (E.2.1, 81, .inl f)), (g2, .inl (E.2.1, 8, .inl fp)), (g3, .inl (E.2.1, 2, .inl fs)), (g4, .inl (E.2.1, 2, .inl fl))]) [0, 1, 2, 3, 4] rfl
    have hD9 := hD.sub (ws' := [(h, .inr (6, [.ref g1, .ref g2, .int ka, .int ko, .ref g3, .ref g4])), (g1, .inl (E.2.1, 81, .inl f)), (g2, .inl (E.2.1, 8, .inl fp)), (g3, .inl (E.2.1, 2, .inl fs)), (g4, .inl (E.2.1, 2, .inl fl))]) [0, 1, 2, 3, 4] (by decide) rfl
    exact W.vret hx hb hr (fun tt ht hW => ⟨⟨(fs, fl), rfl, trivial, by rw [ht]; exact hP9, hD9⟩, hS.F ht⟩) hS.2.2 dX5_measureShares_9

def v_s_canShare : List Cond := .code yX5_canShare cX5_canShare 4 (some .boolean) :: ([.methodLink RX5 165 yX5_measureShares, .instanceMethod yX5_measureShares, .selects RX5 yX5_measureShares yX5_measureShares, .initialized RX5, .methodLink RX5 45 yX5_sites, .instanceMethod yX5_sites, .selects RX5 yX5_sites yX5_sites, .methodLink RX5 168 yX5_shareOf, .instanceMethod yX5_shareOf, .selects RX5 yX5_shareOf yX5_shareOf, .methodLink RX5 87 yX5_isQuietDrift, .instanceMethod yX5_isQuietDrift, .selects RX5 yX5_isQuietDrift yX5_isQuietDrift] ++ (v_s_measureShares ++ (v_s_sites ++ (v_s_shareOf ++ (v_s_isQuietDrift ++ ([]))))))
theorem gw_s_canShare : v_s_canShare.all goodWord = true := by decide +kernel
theorem g_s_canShare_s_measureShares_165 : GoodIn v_s_canShare (wsV RX5 165 RX5 yX5_measureShares v_s_measureShares) := goodIn_app (goodIn_of _ (by decide +kernel)) (goodIn_sub (fun _ h => List.mem_cons_of_mem _ (List.mem_append_right _ (List.mem_append_left _ h))) gw_s_measureShares)
theorem g_s_canShare_s_sites_45 : GoodIn v_s_canShare (wsV RX5 45 RX5 yX5_sites v_s_sites) := goodIn_app (goodIn_of _ (by decide +kernel)) (goodIn_sub (fun _ h => List.mem_cons_of_mem _ (List.mem_append_right _ (List.mem_append_right _ (List.mem_append_left _ h)))) gw_s_sites)
theorem g_s_canShare_s_shareOf_168 : GoodIn v_s_canShare (wsV RX5 168 RX5 yX5_shareOf v_s_shareOf) := goodIn_app (goodIn_of _ (by decide +kernel)) (goodIn_sub (fun _ h => List.mem_cons_of_mem _ (List.mem_append_right _ (List.mem_append_right _ (List.mem_append_right _ (List.mem_append_left _ h))))) gw_s_shareOf)
theorem g_s_canShare_s_isQuietDrift_87 : GoodIn v_s_canShare (wsV RX5 87 RX5 yX5_isQuietDrift v_s_isQuietDrift) := goodIn_app (goodIn_of _ (by decide +kernel)) (goodIn_sub (fun _ h => List.mem_cons_of_mem _ (List.mem_append_right _ (List.mem_append_right _ (List.mem_append_right _ (List.mem_append_right _ (List.mem_append_left _ h)))))) gw_s_isQuietDrift)
set_option maxHeartbeats 4000000 in
set_option maxRecDepth 100000 in
theorem lp_s_canShare_9 {p : Program} (l : Launch) {e : Env} {s : State} {m : MethodId} {below : List Frame} {meth : Method} {c : Code} {Q : State → Prop} (E : EE) {h g1 g2 g3 g4 k : Nat} {ka ko : Int32} {f : Nat → Int32} {fp fs fl : Nat → Int32} {p0 : Int32} (hk : f 3 = nI k) (hk8 : k ≤ 8) (hx : p.tables.exec = Jvm.exec) (hb : c.code = cX5_canShare) (hml : c.maxLocals = 4) (hown : s.vm.findClass RX5 = some m.cls) (hts : ∀ w ∈ v_s_canShare, w.before #[Value.ref h, Value.int p0] s = true) (hK : va_K E.1 vwCl (TY E) s) (hN : NX s) (q_2 : Nat → Int32) (q_3 : Nat → Int32) {H : Heap} {locs : List Loc} (hP : va_P E.1 vwCl [(h, .inr (6, [.ref g1, .ref g2, .int ka, .int ko, .ref g3, .ref g4])), (g1, .inl (E.2.1, 81, .inl f)), (g2, .inl (E.2.1, 8, .inl fp)), (g3, .inl (E.2.1, 2, .inl q_2)), (g4, .inl (E.2.1, 2, .inl q_3))] H) (KX47 : ∀ (v2 : Int32), ∀ (i : Nat), ∀ (ls : Array Slot), i ≤ 8 → lv_has ls 4 [(0, .ref h), (1, .int p0), (2, .int v2), (3, .int (nI i))] → W p l e ({ frames := 2, cells := 0, slots := 0, locals := 50 } : Room) s m #[Value.ref h, Value.int p0] below meth c H locs 0 0 Q (F0 m 47 ls [])) (KX58 : ∀ (v2 : Int32), ∀ (i : Nat), ∀ (ls : Array Slot), i ≤ 8 → lv_has ls 4 [(0, .ref h), (1, .int p0), (2, .int v2), (3, .int (nI i))] → W p l e ({ frames := 2, cells := 0, slots := 0, locals := 50 } : Room) s m #[Value.ref h, Value.int p0] below meth c H locs 0 0 Q (F0 m 58 ls [])) : ∀ fuel9 : Nat, ∀ (v2 : Int32), ∀ (i : Nat), ∀ (ls : Array Slot), i ≤ 8 → (9 - i) < fuel9 → lv_has ls 4 [(0, .ref h), (1, .int p0), (2, .int v2), (3, .int (nI i))] → W p l e ({ frames := 2, cells := 0, slots := 0, locals := 50 } : Room) s m #[Value.ref h, Value.int p0] below meth c H locs 0 0 Q (F0 m 9 ls []) := by
  intro fuel9
  induction fuel9 with
  | zero =>
    intro v2 i ls hi hms hl
    omega
  | succ fuel9 ih =>
    intro v2 i ls hi hms hl
    refine lv_iload_n hx hb dX5_canShare_9 rfl (lv_at hl 3 rfl) ?_
    refine lv_aload_n hx hb dX5_canShare_10 rfl (lv_at hl 0 rfl) ?_
    have hPc := hP.sub (ws' := [(h, .inr (6, [.ref g1, .ref g2, .int ka, .int ko, .ref g3, .ref g4])), (g1, .inl (E.2.1, 81, .inl f))]) [0, 1] rfl
    refine pc_i (va_runV (As := []) (rest := [.int (nI i)]) ⟨hx, hb, hml, hown, hts⟩ (s_sites l E h g1 g2 g3 g4 k ka ko f hk (by omega)) (cwV 0 hts g_s_canShare_s_sites_45 rfl rfl rfl (by decide +kernel) ⟨Nat.le_of_ble_eq_true rfl, Nat.le_of_ble_eq_true rfl⟩) ⟨pP.blind, va_recv hK hPc (ci := 6) (q0 := 0) rfl rfl, (pP.pre ⟨hK, hN⟩ hPc)⟩ rfl rfl hl.1 rfl (lv_room (Nat.le_of_ble_eq_true rfl)) dX5_canShare_11 ⟨Nat.le_of_ble_eq_true rfl, Nat.le_of_ble_eq_true rfl⟩) (fun r_5 hr_5 => ?_)
    obtain rfl : r_5 = nI k := hr_5
    refine lv_icmp_ge (tgt := 58) hx hb dX5_canShare_14 (by decide) (fun c_6 => ?_) (fun c_6 => ?_)
    ·
      have d_7 : k ≤ i := nc_ge (a := i) (b := k) (by omega) (by omega) c_6
      exact KX58 v2 i ls (by omega) (lv_sub hl [0, 1, 2, 3] rfl)
    ·
      have d_8 : ¬ (k ≤ i) := nc_ge_n (a := i) (b := k) (by omega) (by omega) c_6
      refine lv_iload_n hx hb dX5_canShare_17 rfl (lv_at hl 1 rfl) ?_
      refine lv_iload_n hx hb dX5_canShare_18 rfl (lv_at hl 3 rfl) ?_
      refine lv_ishr hx hb dX5_canShare_19 ?_
      refine lv_topi (fun z_9 ez_9 => ?_)
      refine lv_iconst (v := 1) hx hb dX5_canShare_20 (by decide) ?_
      refine lv_iand hx hb dX5_canShare_21 ?_
      refine lv_topi (fun z_10 ez_10 => ?_)
      refine lv_if_ne (tgt := 28) hx hb dX5_canShare_22 (by decide) (fun c_11 => ?_) (fun c_11 => ?_)
      ·
        refine lv_aload_n hx hb dX5_canShare_28 rfl (lv_at hl 0 rfl) ?_
        refine lv_aload_n hx hb dX5_canShare_29 rfl (lv_at hl 0 rfl) ?_
        refine lv_iload_n hx hb dX5_canShare_30 rfl (lv_at hl 2 rfl) ?_
        refine lv_iconst (v := 0) hx hb dX5_canShare_31 (by decide) ?_
        have hPc := hP.sub (ws' := [(h, .inr (6, [.ref g1, .ref g2, .int ka, .int ko, .ref g3, .ref g4])), (g3, .inl (E.2.1, 2, .inl q_2)), (g4, .inl (E.2.1, 2, .inl q_3))]) [0, 3, 4] rfl
        refine pc_i (va_runV (As := [.int v2, .int 0]) (rest := [.ref h]) ⟨hx, hb, hml, hown, hts⟩ (s_shareOf l E h g1 g2 g3 g4 ka ko q_2 q_3 v2 0) (cwV 2 hts g_s_canShare_s_shareOf_168 rfl rfl rfl (by decide +kernel) ⟨Nat.le_of_ble_eq_true rfl, Nat.le_of_ble_eq_true rfl⟩) ⟨pP.blind, va_recv hK hPc (ci := 6) (q0 := 0) rfl rfl, (pP.pre ⟨hK, hN⟩ hPc)⟩ rfl rfl hl.1 rfl (lv_room (Nat.le_of_ble_eq_true rfl)) dX5_canShare_32 ⟨Nat.le_of_ble_eq_true rfl, Nat.le_of_ble_eq_true rfl⟩) (fun r_12 hr_12 => ?_)
        refine lv_aload_n hx hb dX5_canShare_35 rfl (lv_at hl 0 rfl) ?_
        refine lv_iload_n hx hb dX5_canShare_36 rfl (lv_at hl 2 rfl) ?_
        refine lv_iconst (v := 1) hx hb dX5_canShare_37 (by decide) ?_
        have hPc := hP.sub (ws' := [(h, .inr (6, [.ref g1, .ref g2, .int ka, .int ko, .ref g3, .ref g4])), (g3, .inl (E.2.1, 2, .inl q_2)), (g4, .inl (E.2.1, 2, .inl q_3))]) [0, 3, 4] rfl
        refine pc_i (va_runV (As := [.int v2, .int 1]) (rest := [.int r_12, .ref h]) ⟨hx, hb, hml, hown, hts⟩ (s_shareOf l E h g1 g2 g3 g4 ka ko q_2 q_3 v2 1) (cwV 2 hts g_s_canShare_s_shareOf_168 rfl rfl rfl (by decide +kernel) ⟨Nat.le_of_ble_eq_true rfl, Nat.le_of_ble_eq_true rfl⟩) ⟨pP.blind, va_recv hK hPc (ci := 6) (q0 := 0) rfl rfl, (pP.pre ⟨hK, hN⟩ hPc)⟩ rfl rfl hl.1 rfl (lv_room (Nat.le_of_ble_eq_true rfl)) dX5_canShare_38 ⟨Nat.le_of_ble_eq_true rfl, Nat.le_of_ble_eq_true rfl⟩) (fun r_13 hr_13 => ?_)
        have hPc := hP.sub (ws' := [(h, .inr (6, [.ref g1, .ref g2, .int ka, .int ko, .ref g3, .ref g4])), (g1, .inl (E.2.1, 81, .inl f))]) [0, 1] rfl
        refine pc_i (va_runV (As := [.int r_12, .int r_13]) (rest := []) ⟨hx, hb, hml, hown, hts⟩ (s_isQuietDrift l E h g1 g2 g3 g4 k ka ko f r_12 r_13 hk (by omega)) (cwV 2 hts g_s_canShare_s_isQuietDrift_87 rfl rfl rfl (by decide +kernel) ⟨Nat.le_of_ble_eq_true rfl, Nat.le_of_ble_eq_true rfl⟩) ⟨pP.blind, va_recv hK hPc (ci := 6) (q0 := 0) rfl rfl, (pP.pre ⟨hK, hN⟩ hPc)⟩ rfl rfl hl.1 rfl (lv_room (Nat.le_of_ble_eq_true rfl)) dX5_canShare_41 ⟨Nat.le_of_ble_eq_true rfl, Nat.le_of_ble_eq_true rfl⟩) (fun r_14 hr_14 => ?_)
        refine lv_if_ne (tgt := 49) hx hb dX5_canShare_44 (by decide) (fun c_15 => ?_) (fun c_15 => ?_)
        ·
          obtain ⟨z_16, ez_16⟩ : ∃ y : Int32, y = v2 + 1 := ⟨_, rfl⟩
          refine lv_iinc (v := z_16) (lv' := [(2, .int z_16), (0, .ref h), (1, .int p0), (3, .int (nI i))]) hx hb dX5_canShare_49 hl (k := 2) rfl (by rw [ez_16]; rfl) (by decide) rfl (fun ls hl => ?_)
          refine lv_iinc (v := nI (i + 1)) (lv' := [(3, .int (nI (i + 1))), (2, .int z_16), (0, .ref h), (1, .int p0)]) hx hb dX5_canShare_52 hl (k := 3) rfl (show nI (i) + 1 = nI (i + 1) from nI_add _ 1) (by decide) rfl (fun ls hl => ?_)
          refine lv_goto (tgt := 9) hx hb dX5_canShare_55 (by decide) ?_
          exact ih z_16 (i + 1) ls (by omega) (by omega) (lv_sub hl [2, 3, 1, 0] rfl)
        ·
          obtain ⟨j_17, hj_17, ej_17⟩ : ∃ j : Nat, j ≤ 0 ∧ r_14 = nI j := nat_rng (by have t0 : (0 : Int32).toInt = 0 := (by decide); simp only [Int32.lt_iff_toInt_lt, Int32.le_iff_toInt_le, ge_iff_le, gt_iff_lt, ne_eq, ← Int32.toInt_inj, t0] at c_15 ⊢; omega)
          exact KX47 v2 i ls (by omega) (lv_sub hl [0, 1, 2, 3] rfl)
      ·
        obtain ⟨j_18, hj_18, ej_18⟩ : ∃ j : Nat, j ≤ 0 ∧ z_10 = nI j := nat_rng (by have t0 : (0 : Int32).toInt = 0 := (by decide); simp only [Int32.lt_iff_toInt_lt, Int32.le_iff_toInt_le, ge_iff_le, gt_iff_lt, ne_eq, ← Int32.toInt_inj, t0] at c_11 ⊢; omega)
        refine lv_goto (tgt := 52) hx hb dX5_canShare_25 (by decide) ?_
        refine lv_iinc (v := nI (i + 1)) (lv' := [(3, .int (nI (i + 1))), (0, .ref h), (1, .int p0), (2, .int v2)]) hx hb dX5_canShare_52 hl (k := 3) rfl (show nI (i) + 1 = nI (i + 1) from nI_add _ 1) (by decide) rfl (fun ls hl => ?_)
        refine lv_goto (tgt := 9) hx hb dX5_canShare_55 (by decide) ?_
        exact ih v2 (i + 1) ls (by omega) (by omega) (lv_sub hl [1, 2, 3, 0] rfl)

set_option maxHeartbeats 4000000 in
set_option maxRecDepth 100000 in
theorem s_canShare (l : Launch) (E : EE) (sz : Nat) (h g1 g2 g3 g4 k : Nat) (ka ko : Int32) (f : Nat → Int32) (fp fs fl : Nat → Int32) (p0 : Int32) (hk : f 3 = nI k) (hk8 : k ≤ 8) : Met l yX5_canShare v_s_canShare ({ frames := 2, cells := 0, slots := 0, locals := 50 }) (va_Pc [.ref h, .int p0] (pW E sz [(h, .inr (6, [.ref g1, .ref g2, .int ka, .int ko, .ref g3, .ref g4])), (g1, .inl (E.2.1, 81, .inl f)), (g2, .inl (E.2.1, 8, .inl fp)), (g3, .inl (E.2.1, 2, .inl fs)), (g4, .inl (E.2.1, 2, .inl fl))])) (va_Qi (fun (r : Int32) (u_ : (Nat → Int32) × (Nat → Int32)) => (r = 0 ∨ r = 1)) (fun (u_ : (Nat → Int32) × (Nat → Int32)) tt => va_P E.1 vwCl [(h, .inr (6, [.ref g1, .ref g2, .int ka, .int ko, .ref g3, .ref g4])), (g1, .inl (E.2.1, 81, .inl f)), (g2, .inl (E.2.1, 8, .inl fp)), (g3, .inl (E.2.1, 2, .inl u_.1)), (g4, .inl (E.2.1, 2, .inl u_.2))] tt.heap ∧ va_D (va_A [(h, .inr (6, [.ref g1, .ref g2, .int ka, .int ko, .ref g3, .ref g4])), (g1, .inl (E.2.1, 81, .inl f)), (g2, .inl (E.2.1, 8, .inl fp)), (g3, .inl (E.2.1, 2, .inl fs)), (g4, .inl (E.2.1, 2, .inl fl))] sz) [(h, .inr (6, [.ref g1, .ref g2, .int ka, .int ko, .ref g3, .ref g4])), (g1, .inl (E.2.1, 81, .inl f)), (g2, .inl (E.2.1, 8, .inl fp)), (g3, .inl (E.2.1, 2, .inl u_.1)), (g4, .inl (E.2.1, 2, .inl u_.2))]) (va_A [(h, .inr (6, [.ref g1, .ref g2, .int ka, .int ko, .ref g3, .ref g4])), (g1, .inl (E.2.1, 81, .inl f)), (g2, .inl (E.2.1, 8, .inl fp)), (g3, .inl (E.2.1, 2, .inl fs)), (g4, .inl (E.2.1, 2, .inl fl))] sz)) 0 0 (va_A [(h, .inr (6, [.ref g1, .ref g2, .int ka, .int ko, .ref g3, .ref g4])), (g1, .inl (E.2.1, 81, .inl f)), (g2, .inl (E.2.1, 8, .inl fp)), (g3, .inl (E.2.1, 2, .inl fs)), (g4, .inl (E.2.1, 2, .inl fl))] sz) := by
  refine Met.ofW (cc := cX5_canShare) (maxL := 4) (ret := (some .boolean)) (by decide) rfl ?_
  intro p e s m args below meth c s₁ B hml hv
  obtain ⟨rfl, hsz, ⟨hK, hN⟩, hP, hD0⟩ := hv
  have hx := B.exec
  have hb := B.bytes
  have hr := B.returns
  have hts := atoms_spec (ws := v_s_canShare) B.pre
  have hown : s.vm.findClass RX5 = some m.cls := findClass_of_methodNamed B.named
  have hlocks := B.notSynchronized
  subst hsz
  have hD := hD0.self (sz := s.heap.size)
  generalize hAe : va_A [(h, .inr (6, [.ref g1, .ref g2, .int ka, .int ko, .ref g3, .ref g4])), (g1, .inl (E.2.1, 81, .inl f)), (g2, .inl (E.2.1, 8, .inl fp)), (g3, .inl (E.2.1, 2, .inl fs)), (g4, .inl (E.2.1, 2, .inl fl))] s.heap.size = A at hD ⊢
  have hA : ∀ q : Nat, s.heap.size ≤ q → A q := fun q h => by rw [← hAe]; exact Or.inr h
  have hS : va_S A s.heap s.heap [] := va_S.rf
  have hP : va_P E.1 vwCl [(h, .inr (6, [.ref g1, .ref g2, .int ka, .int ko, .ref g3, .ref g4])), (g1, .inl (E.2.1, 81, .inl f)), (g2, .inl (E.2.1, 8, .inl fp)), (g3, .inl (E.2.1, 2, .inl fs)), (g4, .inl (E.2.1, 2, .inl fl))] s.heap := hP
  have hl := lv_entry ([.ref h, .int p0]) (n := 4) (Nat.le_of_ble_eq_true rfl)
  rw [lg_entry_eq]
  generalize (lg_sl ([.ref h, .int p0]) ++ List.replicate (4 - (lg_sl ([.ref h, .int p0])).length) Slot.unset).toArray = ls at hl ⊢
  have hl : lv_has ls 4 [(0, .ref h), (1, .int p0)] := hl
  obtain ⟨Q, hQ⟩ : ∃ Q : State → Prop, Q = MQ below (va_Qi (fun (r : Int32) (u_ : (Nat → Int32) × (Nat → Int32)) => (r = 0 ∨ r = 1)) (fun (u_ : (Nat → Int32) × (Nat → Int32)) tt => va_P E.1 vwCl [(h, .inr (6, [.ref g1, .ref g2, .int ka, .int ko, .ref g3, .ref g4])), (g1, .inl (E.2.1, 81, .inl f)), (g2, .inl (E.2.1, 8, .inl fp)), (g3, .inl (E.2.1, 2, .inl u_.1)), (g4, .inl (E.2.1, 2, .inl u_.2))] tt.heap ∧ va_D A [(h, .inr (6, [.ref g1, .ref g2, .int ka, .int ko, .ref g3, .ref g4])), (g1, .inl (E.2.1, 81, .inl f)), (g2, .inl (E.2.1, 8, .inl fp)), (g3, .inl (E.2.1, 2, .inl u_.1)), (g4, .inl (E.2.1, 2, .inl u_.2))]) A) #[Value.ref h, Value.int p0] s 0 0 A := ⟨_, rfl⟩
  rw [← hQ]
  change W p l e ({ frames := 2, cells := 0, slots := 0, locals := 50 } : Room) s m #[Value.ref h, Value.int p0] below meth c s.heap [] 0 0 Q (F0 m 0 ls [])
  refine lv_aload_n hx hb dX5_canShare_0 rfl (lv_at hl 0 rfl) ?_
  refine lv_iload_n hx hb dX5_canShare_1 rfl (lv_at hl 1 rfl) ?_
  have hPc := hP.sub (ws' := [(h, .inr (6, [.ref g1, .ref g2, .int ka, .int ko, .ref g3, .ref g4])), (g1, .inl (E.2.1, 81, .inl f)), (g2, .inl (E.2.1, 8, .inl fp)), (g3, .inl (E.2.1, 2, .inl fs)), (g4, .inl (E.2.1, 2, .inl fl))]) [0, 1, 2, 3, 4] rfl
  have hDc := hD.sub (ws' := [(h, .inr (6, [.ref g1, .ref g2, .int ka, .int ko, .ref g3, .ref g4])), (g1, .inl (E.2.1, 81, .inl f)), (g2, .inl (E.2.1, 8, .inl fp)), (g3, .inl (E.2.1, 2, .inl fs)), (g4, .inl (E.2.1, 2, .inl fl))]) [0, 1, 2, 3, 4] (by decide) rfl
  have hFc := va_free (wc := [(h, .inr (6, [.ref g1, .ref g2, .int ka, .int ko, .ref g3, .ref g4])), (g1, .inl (E.2.1, 81, .inl f)), (g2, .inl (E.2.1, 8, .inl fp)), (g3, .inl (E.2.1, 2, .inl fs)), (g4, .inl (E.2.1, 2, .inl fl))]) hD hS hA [0, 1, 2, 3, 4] rfl
  refine va_callv (va_runV (As := [.int p0]) (rest := []) ⟨hx, hb, hml, hown, hts⟩ (s_measureShares l E s.heap.size h g1 g2 g3 g4 k ka ko f fp fs fl p0 hk (by omega)) (cwV 1 hts g_s_canShare_s_measureShares_165 rfl rfl rfl (by decide +kernel) ⟨Nat.le_of_ble_eq_true rfl, Nat.le_of_ble_eq_true rfl⟩) ⟨pW.blind, va_recv hK hPc (ci := 6) (q0 := 0) rfl rfl, (pW.pre ⟨hK, hN⟩ hPc hDc)⟩ rfl rfl hl.1 rfl (lv_room (Nat.le_of_ble_eq_true rfl)) dX5_canShare_2 ⟨Nat.le_of_ble_eq_true rfl, Nat.le_of_ble_eq_true rfl⟩) hS (fun q _ h => hFc q h) hFc (fun  u_1 tt H1 locs ht hvm hw hB hz1 hk1 hS => ?_)
  obtain ⟨q_2, q_3⟩ := u_1
  obtain ⟨hP1, hD1⟩ := hB
  rw [ht] at hP1
  obtain ⟨hP, hD⟩ := va_join (wr := []) (w1 := [(h, .inr (6, [.ref g1, .ref g2, .int ka, .int ko, .ref g3, .ref g4])), (g1, .inl (E.2.1, 81, .inl f)), (g2, .inl (E.2.1, 8, .inl fp)), (g3, .inl (E.2.1, 2, .inl q_2)), (g4, .inl (E.2.1, 2, .inl q_3))]) hP hD [0, 1, 2, 3, 4] [] rfl rfl (by decide) (by decide) hk1 hFc hP1 hD1
  generalize H1 = H at hP hS ⊢
  have hP : va_P E.1 vwCl [(h, .inr (6, [.ref g1, .ref g2, .int ka, .int ko, .ref g3, .ref g4])), (g1, .inl (E.2.1, 81, .inl f)), (g2, .inl (E.2.1, 8, .inl fp)), (g3, .inl (E.2.1, 2, .inl q_2)), (g4, .inl (E.2.1, 2, .inl q_3))] H := hP
  have hD : va_D A [(h, .inr (6, [.ref g1, .ref g2, .int ka, .int ko, .ref g3, .ref g4])), (g1, .inl (E.2.1, 81, .inl f)), (g2, .inl (E.2.1, 8, .inl fp)), (g3, .inl (E.2.1, 2, .inl q_2)), (g4, .inl (E.2.1, 2, .inl q_3))] := hD
  have hsw_4 := hw
  refine lv_iconst (v := 0) hx hb dX5_canShare_5 (by decide) ?_
  refine lv_istore_n (lv' := [(2, .int 0), (0, .ref h), (1, .int p0)]) hx hb dX5_canShare_6 rfl hl (by decide) rfl (fun ls hl => ?_)
  refine lv_iconst (v := 0) hx hb dX5_canShare_7 (by decide) ?_
  refine lv_istore_n (lv' := [(3, .int 0), (2, .int 0), (0, .ref h), (1, .int p0)]) hx hb dX5_canShare_8 rfl hl (by decide) rfl (fun ls hl => ?_)
  refine lp_s_canShare_9 (h := h) (g1 := g1) (g2 := g2) (g3 := g3) (g4 := g4) (k := k) (ka := ka) (ko := ko) (f := f) (fp := fp) (fs := fs) (fl := fl) (p0 := p0) l E hk hk8 hx hb hml hown hts hK hN q_2 q_3 hP ?_ ?_ (10) 0 0 ls (by omega) (by omega) (lv_sub hl [2, 3, 1, 0] rfl)
  ·
    intro v2 i ls hi hl
    refine lv_iconst (v := 0) hx hb dX5_canShare_47 (by decide) ?_
    rw [hQ]
    have hP9 := hP.sub (ws' := [(h, .inr (6, [.ref g1, .ref g2, .int ka, .int ko, .ref g3, .ref g4])), (g1, .inl (E.2.1, 81, .inl f)), (g2, .inl (E.2.1, 8, .inl fp)), (g3, .inl (E.2.1, 2, .inl q_2)), (g4, .inl (E.2.1, 2, .inl q_3))]) [0, 1, 2, 3, 4] rfl
    have hD9 := hD.sub (ws' := [(h, .inr (6, [.ref g1, .ref g2, .int ka, .int ko, .ref g3, .ref g4])), (g1, .inl (E.2.1, 81, .inl f)), (g2, .inl (E.2.1, 8, .inl fp)), (g3, .inl (E.2.1, 2, .inl q_2)), (g4, .inl (E.2.1, 2, .inl q_3))]) [0, 1, 2, 3, 4] (by decide) rfl
    exact W.zret (v := 0) hx hb hr rfl (fun tt ht hW => ⟨⟨_, (q_2, q_3), rfl, Or.inl rfl, by rw [ht]; exact hP9, hD9⟩, hS.F ht⟩) hS.2.2 dX5_canShare_48
  ·
    intro v2 i ls hi hl
    refine lv_iconst (v := 1) hx hb dX5_canShare_58 (by decide) ?_
    rw [hQ]
    have hP9 := hP.sub (ws' := [(h, .inr (6, [.ref g1, .ref g2, .int ka, .int ko, .ref g3, .ref g4])), (g1, .inl (E.2.1, 81, .inl f)), (g2, .inl (E.2.1, 8, .inl fp)), (g3, .inl (E.2.1, 2, .inl q_2)), (g4, .inl (E.2.1, 2, .inl q_3))]) [0, 1, 2, 3, 4] rfl
    have hD9 := hD.sub (ws' := [(h, .inr (6, [.ref g1, .ref g2, .int ka, .int ko, .ref g3, .ref g4])), (g1, .inl (E.2.1, 81, .inl f)), (g2, .inl (E.2.1, 8, .inl fp)), (g3, .inl (E.2.1, 2, .inl q_2)), (g4, .inl (E.2.1, 2, .inl q_3))]) [0, 1, 2, 3, 4] (by decide) rfl
    exact W.zret (v := 1) hx hb hr rfl (fun tt ht hW => ⟨⟨_, (q_2, q_3), rfl, Or.inr rfl, by rw [ht]; exact hP9, hD9⟩, hS.F ht⟩) hS.2.2 dX5_canShare_59

def v_s_balance : List Cond := .code yX5_balance cX5_balance 6 (some .int) :: ([.fieldLink RX5 11 "HushWatch$State" "row" "[I", .fieldLink RX5 22 "HushWatch$State" "outcome" "I", .fieldLink RX5 18 "HushWatch$State" "askedCount" "I", .methodLink RX5 45 yX5_sites, .instanceMethod yX5_sites, .selects RX5 yX5_sites yX5_sites, .initialized RX5, .methodLink RX5 168 yX5_shareOf, .instanceMethod yX5_shareOf, .selects RX5 yX5_shareOf yX5_shareOf, .methodLink RX5 72 yX5_drift, .instanceMethod yX5_drift, .selects RX5 yX5_drift yX5_drift, .methodLink RX5 69 yX5_of, .instanceMethod yX5_of, .selects RX5 yX5_of yX5_of, .methodLink RX5 52 yX5_put, .instanceMethod yX5_put, .selects RX5 yX5_put yX5_put] ++ (wsX50 ++ (v_s_sites ++ (v_s_shareOf ++ (v_s_drift ++ (v_s_of ++ (v_s_put ++ ([]))))))))
theorem gw_s_balance : v_s_balance.all goodWord = true := by decide +kernel
theorem i_s_balance_X5 : ∀ w ∈ wsX50, w ∈ v_s_balance := fun _ h => List.mem_cons_of_mem _ (List.mem_append_right _ (List.mem_append_left _ h))
theorem g_s_balance_s_sites_45 : GoodIn v_s_balance (wsV RX5 45 RX5 yX5_sites v_s_sites) := goodIn_app (goodIn_of _ (by decide +kernel)) (goodIn_sub (fun _ h => List.mem_cons_of_mem _ (List.mem_append_right _ (List.mem_append_right _ (List.mem_append_left _ h)))) gw_s_sites)
theorem g_s_balance_s_shareOf_168 : GoodIn v_s_balance (wsV RX5 168 RX5 yX5_shareOf v_s_shareOf) := goodIn_app (goodIn_of _ (by decide +kernel)) (goodIn_sub (fun _ h => List.mem_cons_of_mem _ (List.mem_append_right _ (List.mem_append_right _ (List.mem_append_right _ (List.mem_append_left _ h))))) gw_s_shareOf)
theorem g_s_balance_s_drift_72 : GoodIn v_s_balance (wsV RX5 72 RX5 yX5_drift v_s_drift) := goodIn_app (goodIn_of _ (by decide +kernel)) (goodIn_sub (fun _ h => List.mem_cons_of_mem _ (List.mem_append_right _ (List.mem_append_right _ (List.mem_append_right _ (List.mem_append_right _ (List.mem_append_left _ h)))))) gw_s_drift)
theorem g_s_balance_s_of_69 : GoodIn v_s_balance (wsV RX5 69 RX5 yX5_of v_s_of) := goodIn_app (goodIn_of _ (by decide +kernel)) (goodIn_sub (fun _ h => List.mem_cons_of_mem _ (List.mem_append_right _ (List.mem_append_right _ (List.mem_append_right _ (List.mem_append_right _ (List.mem_append_right _ (List.mem_append_left _ h))))))) gw_s_of)
theorem g_s_balance_s_put_52 : GoodIn v_s_balance (wsV RX5 52 RX5 yX5_put v_s_put) := goodIn_app (goodIn_of _ (by decide +kernel)) (goodIn_sub (fun _ h => List.mem_cons_of_mem _ (List.mem_append_right _ (List.mem_append_right _ (List.mem_append_right _ (List.mem_append_right _ (List.mem_append_right _ (List.mem_append_right _ (List.mem_append_left _ h)))))))) gw_s_put)
set_option maxHeartbeats 4000000 in
set_option maxRecDepth 100000 in
theorem lp_s_balance_20 {p : Program} (l : Launch) {e : Env} {s : State} {m : MethodId} {below : List Frame} {meth : Method} {c : Code} {Q : State → Prop} (E : EE) {h g1 g2 g3 g4 k : Nat} {ka ko : Int32} {f : Nat → Int32} {fp fs fl : Nat → Int32} {p0 : Int32} (hk : f 3 = nI k) (hk8 : k ≤ 8) (hx : p.tables.exec = Jvm.exec) (hb : c.code = cX5_balance) (hml : c.maxLocals = 6) (hown : s.vm.findClass RX5 = some m.cls) (hts : ∀ w ∈ v_s_balance, w.before #[Value.ref h, Value.int p0] s = true) (hK : va_K E.1 vwCl (TY E) s) (hN : NX s) {A : Nat → Prop} (hA : ∀ q : Nat, s.heap.size ≤ q → A q) (KX101 : ∀ (v2 : Int32), ∀ (i : Nat), ∀ (f1 : Nat → Int32), ∀ (H : Heap) (locs : List Loc) (ls : Array Slot), i ≤ 8 → f1 3 = nI k → va_P E.1 vwCl [(h, .inr (6, [.ref g1, .ref g2, .int ka, .int 1, .ref g3, .ref g4])), (g1, .inl (E.2.1, 81, .inl f1)), (g2, .inl (E.2.1, 8, .inl fp)), (g3, .inl (E.2.1, 2, .inl fs)), (g4, .inl (E.2.1, 2, .inl fl))] H → va_D A [(h, .inr (6, [.ref g1, .ref g2, .int ka, .int 1, .ref g3, .ref g4])), (g1, .inl (E.2.1, 81, .inl f1)), (g2, .inl (E.2.1, 8, .inl fp)), (g3, .inl (E.2.1, 2, .inl fs)), (g4, .inl (E.2.1, 2, .inl fl))] → va_S A s.heap H locs → lv_has ls 6 [(0, .ref h), (1, .int p0), (2, .int v2), (3, .int (nI i))] → W p l e ({ frames := 1, cells := 0, slots := 0, locals := 23 } : Room) s m #[Value.ref h, Value.int p0] below meth c H locs 0 0 Q (F0 m 101 ls [])) : ∀ fuel9 : Nat, ∀ (v2 : Int32), ∀ (i : Nat), ∀ (f1 : Nat → Int32), ∀ (H : Heap) (locs : List Loc) (ls : Array Slot), i ≤ 8 → f1 3 = nI k → (9 - i) < fuel9 → va_P E.1 vwCl [(h, .inr (6, [.ref g1, .ref g2, .int ka, .int 1, .ref g3, .ref g4])), (g1, .inl (E.2.1, 81, .inl f1)), (g2, .inl (E.2.1, 8, .inl fp)), (g3, .inl (E.2.1, 2, .inl fs)), (g4, .inl (E.2.1, 2, .inl fl))] H → va_D A [(h, .inr (6, [.ref g1, .ref g2, .int ka, .int 1, .ref g3, .ref g4])), (g1, .inl (E.2.1, 81, .inl f1)), (g2, .inl (E.2.1, 8, .inl fp)), (g3, .inl (E.2.1, 2, .inl fs)), (g4, .inl (E.2.1, 2, .inl fl))] → va_S A s.heap H locs → lv_has ls 6 [(0, .ref h), (1, .int p0), (2, .int v2), (3, .int (nI i))] → W p l e ({ frames := 1, cells := 0, slots := 0, locals := 23 } : Room) s m #[Value.ref h, Value.int p0] below meth c H locs 0 0 Q (F0 m 20 ls []) := by
  intro fuel9
  induction fuel9 with
  | zero =>
    intro v2 i f1 H locs ls hi kf1_3 hms hP hD hS hl
    omega
  | succ fuel9 ih =>
    intro v2 i f1 H locs ls hi kf1_3 hms hP hD hS hl
    refine lv_iload_n hx hb dX5_balance_20 rfl (lv_at hl 3 rfl) ?_
    refine lv_aload_n hx hb dX5_balance_21 rfl (lv_at hl 0 rfl) ?_
    have hPc := hP.sub (ws' := [(h, .inr (6, [.ref g1, .ref g2, .int ka, .int 1, .ref g3, .ref g4])), (g1, .inl (E.2.1, 81, .inl f1))]) [0, 1] rfl
    refine pc_i (va_runV (As := []) (rest := [.int (nI i)]) ⟨hx, hb, hml, hown, hts⟩ (s_sites l E h g1 g2 g3 g4 k ka 1 f1 kf1_3 (by omega)) (cwV 0 hts g_s_balance_s_sites_45 rfl rfl rfl (by decide +kernel) ⟨Nat.le_of_ble_eq_true rfl, Nat.le_of_ble_eq_true rfl⟩) ⟨pP.blind, va_recv hK hPc (ci := 6) (q0 := 0) rfl rfl, (pP.pre ⟨hK, hN⟩ hPc)⟩ rfl rfl hl.1 rfl (lv_room (Nat.le_of_ble_eq_true rfl)) dX5_balance_22 ⟨Nat.le_of_ble_eq_true rfl, Nat.le_of_ble_eq_true rfl⟩) (fun r_4 hr_4 => ?_)
    obtain rfl : r_4 = nI k := hr_4
    refine lv_icmp_ge (tgt := 101) hx hb dX5_balance_25 (by decide) (fun c_5 => ?_) (fun c_5 => ?_)
    ·
      have d_56 : k ≤ i := nc_ge (a := i) (b := k) (by omega) (by omega) c_5
      exact KX101 v2 i f1 H locs ls (by omega) kf1_3 (hP.sub [0, 1, 2, 3, 4] rfl) (hD.sub [0, 1, 2, 3, 4] (by decide) rfl) hS (lv_sub hl [0, 1, 2, 3] rfl)
    ·
      have d_57 : ¬ (k ≤ i) := nc_ge_n (a := i) (b := k) (by omega) (by omega) c_5
      refine lv_iload_n hx hb dX5_balance_28 rfl (lv_at hl 1 rfl) ?_
      refine lv_iload_n hx hb dX5_balance_29 rfl (lv_at hl 3 rfl) ?_
      refine lv_ishr hx hb dX5_balance_30 ?_
      refine lv_topi (fun z_58 ez_58 => ?_)
      refine lv_iconst (v := 1) hx hb dX5_balance_31 (by decide) ?_
      refine lv_iand hx hb dX5_balance_32 ?_
      refine lv_topi (fun z_59 ez_59 => ?_)
      have K_85 : ∀ (y_83 : Int32), ∀ (g_84 : Nat → Int32), ∀ (H : Heap) (locs : List Loc) (ls : Array Slot), g_84 3 = nI k → va_P E.1 vwCl [(h, .inr (6, [.ref g1, .ref g2, .int ka, .int 1, .ref g3, .ref g4])), (g1, .inl (E.2.1, 81, .inl g_84)), (g2, .inl (E.2.1, 8, .inl fp)), (g3, .inl (E.2.1, 2, .inl fs)), (g4, .inl (E.2.1, 2, .inl fl))] H → va_D A [(h, .inr (6, [.ref g1, .ref g2, .int ka, .int 1, .ref g3, .ref g4])), (g1, .inl (E.2.1, 81, .inl g_84)), (g2, .inl (E.2.1, 8, .inl fp)), (g3, .inl (E.2.1, 2, .inl fs)), (g4, .inl (E.2.1, 2, .inl fl))] → va_S A s.heap H locs → lv_has ls 6 [(0, .ref h), (1, .int p0), (2, .int y_83), (3, .int (nI i))] → W p l e ({ frames := 1, cells := 0, slots := 0, locals := 23 } : Room) s m #[Value.ref h, Value.int p0] below meth c H locs 0 0 Q (F0 m 95 ls []) := by
        intro y_83 g_84 H locs ls kg_84_3 hP hD hS hl
        refine lv_iinc (v := nI (i + 1)) (lv' := [(3, .int (nI (i + 1))), (0, .ref h), (1, .int p0), (2, .int y_83)]) hx hb dX5_balance_95 hl (k := 3) rfl (show nI (i) + 1 = nI (i + 1) from nI_add _ 1) (by decide) rfl (fun ls hl => ?_)
        refine lv_goto (tgt := 20) hx hb dX5_balance_98 (by decide) ?_
        exact ih y_83 (i + 1) g_84 H locs ls (by omega) kg_84_3 (by omega) (hP.sub [0, 1, 2, 3, 4] rfl) (hD.sub [0, 1, 2, 3, 4] (by decide) rfl) hS (lv_sub hl [1, 2, 3, 0] rfl)
      refine lv_if_ne (tgt := 39) hx hb dX5_balance_33 (by decide) (fun c_60 => ?_) (fun c_60 => ?_)
      ·
        refine lv_iconst (v := 0) hx hb dX5_balance_39 (by decide) ?_
        refine lv_istore (lv' := [(4, .int 0), (0, .ref h), (1, .int p0), (2, .int v2), (3, .int (nI i))]) hx hb dX5_balance_40 hl (by decide) rfl (fun ls hl => ?_)
        refine lv_iload hx hb dX5_balance_42 (lv_at hl 0 rfl) ?_
        refine lv_iconst (v := 2) hx hb dX5_balance_44 (by decide) ?_
        refine lv_icmp_ge (tgt := 92) hx hb dX5_balance_45 (by decide) (fun q => absurd q (by decide)) (fun _ => ?_)
        refine lv_aload_n hx hb dX5_balance_48 rfl (lv_at hl 1 rfl) ?_
        refine lv_iload_n hx hb dX5_balance_49 rfl (lv_at hl 3 rfl) ?_
        refine lv_iload hx hb dX5_balance_50 (lv_at hl 0 rfl) ?_
        have hPc := hP.sub (ws' := [(h, .inr (6, [.ref g1, .ref g2, .int ka, .int 1, .ref g3, .ref g4])), (g3, .inl (E.2.1, 2, .inl fs)), (g4, .inl (E.2.1, 2, .inl fl))]) [0, 3, 4] rfl
        refine pc_i (va_runV (As := [.int v2, .int 0]) (rest := []) ⟨hx, hb, hml, hown, hts⟩ (s_shareOf l E h g1 g2 g3 g4 ka 1 fs fl v2 0) (cwV 2 hts g_s_balance_s_shareOf_168 rfl rfl rfl (by decide +kernel) ⟨Nat.le_of_ble_eq_true rfl, Nat.le_of_ble_eq_true rfl⟩) ⟨pP.blind, va_recv hK hPc (ci := 6) (q0 := 0) rfl rfl, (pP.pre ⟨hK, hN⟩ hPc)⟩ rfl rfl hl.1 rfl (lv_room (Nat.le_of_ble_eq_true rfl)) dX5_balance_52 ⟨Nat.le_of_ble_eq_true rfl, Nat.le_of_ble_eq_true rfl⟩) (fun r_86 hr_86 => ?_)
        refine lv_aload_n hx hb dX5_balance_55 rfl (lv_at hl 1 rfl) ?_
        refine lv_iload_n hx hb dX5_balance_56 rfl (lv_at hl 4 rfl) ?_
        refine lv_iload hx hb dX5_balance_57 (lv_at hl 0 rfl) ?_
        have hPc := hP.sub (ws' := [(h, .inr (6, [.ref g1, .ref g2, .int ka, .int 1, .ref g3, .ref g4])), (g1, .inl (E.2.1, 81, .inl f1))]) [0, 1] rfl
        refine pc_i (va_runV (As := [.int (nI i), .int 0]) (rest := [.int r_86]) ⟨hx, hb, hml, hown, hts⟩ (s_drift l E h g1 g2 g3 g4 k ka 1 f1 (nI i) 0 kf1_3 (by omega)) (cwV 2 hts g_s_balance_s_drift_72 rfl rfl rfl (by decide +kernel) ⟨Nat.le_of_ble_eq_true rfl, Nat.le_of_ble_eq_true rfl⟩) ⟨pP.blind, va_recv hK hPc (ci := 6) (q0 := 0) rfl rfl, (pP.pre ⟨hK, hN⟩ hPc)⟩ rfl rfl hl.1 rfl (lv_room (Nat.le_of_ble_eq_true rfl)) dX5_balance_59 ⟨Nat.le_of_ble_eq_true rfl, Nat.le_of_ble_eq_true rfl⟩) (fun r_87 hr_87 => ?_)
        refine lv_isub hx hb dX5_balance_62 ?_
        refine lv_topi (fun z_88 ez_88 => ?_)
        refine lv_istore (lv' := [(5, .int z_88), (4, .int 0), (0, .ref h), (1, .int p0), (2, .int v2), (3, .int (nI i))]) hx hb dX5_balance_63 hl (by decide) rfl (fun ls hl => ?_)
        refine lv_aload_n hx hb dX5_balance_65 rfl (lv_at hl 2 rfl) ?_
        refine lv_iload_n hx hb dX5_balance_66 rfl (lv_at hl 5 rfl) ?_
        refine lv_iconst (v := 4) hx hb dX5_balance_67 (by decide) ?_
        refine lv_iload hx hb dX5_balance_68 (lv_at hl 1 rfl) ?_
        refine lv_iadd hx hb dX5_balance_70 ?_
        refine lv_topi (fun z_89 ez_89 => ?_)
        obtain rfl : z_89 = 4 := ez_89.trans (by decide)
        refine lv_aload_n hx hb dX5_balance_71 rfl (lv_at hl 2 rfl) ?_
        refine lv_iload_n hx hb dX5_balance_72 rfl (lv_at hl 5 rfl) ?_
        refine lv_iconst (v := 4) hx hb dX5_balance_73 (by decide) ?_
        refine lv_iload hx hb dX5_balance_74 (lv_at hl 1 rfl) ?_
        refine lv_iadd hx hb dX5_balance_76 ?_
        refine lv_topi (fun z_90 ez_90 => ?_)
        obtain rfl : z_90 = 4 := ez_90.trans (by decide)
        have hPc := hP.sub (ws' := [(h, .inr (6, [.ref g1, .ref g2, .int ka, .int 1, .ref g3, .ref g4])), (g1, .inl (E.2.1, 81, .inl f1))]) [0, 1] rfl
        refine pc_i (va_runV (As := [.int (nI i), .int 4]) (rest := [.int 4, .int (nI i), .ref h]) ⟨hx, hb, hml, hown, hts⟩ (s_of l E h g1 g2 g3 g4 k ka 1 f1 (nI i) 4 kf1_3 (by omega)) (cwV 2 hts g_s_balance_s_of_69 rfl rfl rfl (by decide +kernel) ⟨Nat.le_of_ble_eq_true rfl, Nat.le_of_ble_eq_true rfl⟩) ⟨pP.blind, va_recv hK hPc (ci := 6) (q0 := 0) rfl rfl, (pP.pre ⟨hK, hN⟩ hPc)⟩ rfl rfl hl.1 rfl (lv_room (Nat.le_of_ble_eq_true rfl)) dX5_balance_77 ⟨Nat.le_of_ble_eq_true rfl, Nat.le_of_ble_eq_true rfl⟩) (fun r_91 hr_91 => ?_)
        refine lv_iload hx hb dX5_balance_80 (lv_at hl 0 rfl) ?_
        refine lv_iadd hx hb dX5_balance_82 ?_
        refine lv_topi (fun z_92 ez_92 => ?_)
        have hPc := hP.sub (ws' := [(h, .inr (6, [.ref g1, .ref g2, .int ka, .int 1, .ref g3, .ref g4])), (g1, .inl (E.2.1, 81, .inl f1))]) [0, 1] rfl
        have hDc := hD.sub (ws' := [(h, .inr (6, [.ref g1, .ref g2, .int ka, .int 1, .ref g3, .ref g4])), (g1, .inl (E.2.1, 81, .inl f1))]) [0, 1] (by decide) rfl
        have hFc := va_free (wc := [(h, .inr (6, [.ref g1, .ref g2, .int ka, .int 1, .ref g3, .ref g4])), (g1, .inl (E.2.1, 81, .inl f1))]) hD hS hA [0, 1] rfl
        refine va_callv (va_runV (As := [.int (nI i), .int 4, .int z_92]) (rest := []) ⟨hx, hb, hml, hown, hts⟩ (s_put l E H.size h g1 g2 g3 g4 k ka 1 f1 (nI i) 4 z_92 kf1_3 (by omega)) (cwV 3 hts g_s_balance_s_put_52 rfl rfl rfl (by decide +kernel) ⟨Nat.le_of_ble_eq_true rfl, Nat.le_of_ble_eq_true rfl⟩) ⟨pW.blind, va_recv hK hPc (ci := 6) (q0 := 0) rfl rfl, (pW.pre ⟨hK, hN⟩ hPc hDc)⟩ rfl rfl hl.1 rfl (lv_room (Nat.le_of_ble_eq_true rfl)) dX5_balance_83 ⟨Nat.le_of_ble_eq_true rfl, Nat.le_of_ble_eq_true rfl⟩) hS (fun q _ h => hFc q h) hFc (fun  u_93 tt H1 locs ht hvm hw hB hz1 hk1 hS => ?_)
        obtain ⟨hP1, hD1⟩ := hB
        rw [ht] at hP1
        obtain ⟨hP, hD⟩ := va_join (wr := [(g2, .inl (E.2.1, 8, .inl fp)), (g3, .inl (E.2.1, 2, .inl fs)), (g4, .inl (E.2.1, 2, .inl fl))]) (w1 := [(h, .inr (6, [.ref g1, .ref g2, .int ka, .int 1, .ref g3, .ref g4])), (g1, .inl (E.2.1, 81, .inl u_93))]) hP hD [0, 1] [2, 3, 4] rfl rfl (by decide) (by decide) hk1 hFc hP1 hD1
        generalize H1 = H at hP hS ⊢
        have hP : va_P E.1 vwCl [(g2, .inl (E.2.1, 8, .inl fp)), (g3, .inl (E.2.1, 2, .inl fs)), (g4, .inl (E.2.1, 2, .inl fl)), (h, .inr (6, [.ref g1, .ref g2, .int ka, .int 1, .ref g3, .ref g4])), (g1, .inl (E.2.1, 81, .inl u_93))] H := hP
        have hD : va_D A [(g2, .inl (E.2.1, 8, .inl fp)), (g3, .inl (E.2.1, 2, .inl fs)), (g4, .inl (E.2.1, 2, .inl fl)), (h, .inr (6, [.ref g1, .ref g2, .int ka, .int 1, .ref g3, .ref g4])), (g1, .inl (E.2.1, 81, .inl u_93))] := hD
        have hsw_94 := hw
        have kk_95 := hsw_94
        refine lv_iinc (v := 1) (lv' := [(4, .int 1), (5, .int z_88), (0, .ref h), (1, .int p0), (2, .int v2), (3, .int (nI i))]) hx hb dX5_balance_86 hl (k := 1) rfl (by decide) (by decide) rfl (fun ls hl => ?_)
        refine lv_goto (tgt := 42) hx hb dX5_balance_89 (by decide) ?_
        refine lv_iload hx hb dX5_balance_42 (lv_at hl 0 rfl) ?_
        refine lv_iconst (v := 2) hx hb dX5_balance_44 (by decide) ?_
        refine lv_icmp_ge (tgt := 92) hx hb dX5_balance_45 (by decide) (fun q => absurd q (by decide)) (fun _ => ?_)
        refine lv_aload_n hx hb dX5_balance_48 rfl (lv_at hl 2 rfl) ?_
        refine lv_iload_n hx hb dX5_balance_49 rfl (lv_at hl 4 rfl) ?_
        refine lv_iload hx hb dX5_balance_50 (lv_at hl 0 rfl) ?_
        have hPc := hP.sub (ws' := [(h, .inr (6, [.ref g1, .ref g2, .int ka, .int 1, .ref g3, .ref g4])), (g3, .inl (E.2.1, 2, .inl fs)), (g4, .inl (E.2.1, 2, .inl fl))]) [3, 1, 2] rfl
        refine pc_i (va_runV (As := [.int v2, .int 1]) (rest := []) ⟨hx, hb, hml, hown, hts⟩ (s_shareOf l E h g1 g2 g3 g4 ka 1 fs fl v2 1) (cwV 2 hts g_s_balance_s_shareOf_168 rfl rfl rfl (by decide +kernel) ⟨Nat.le_of_ble_eq_true rfl, Nat.le_of_ble_eq_true rfl⟩) ⟨pP.blind, va_recv hK hPc (ci := 6) (q0 := 0) rfl rfl, (pP.pre ⟨hK, hN⟩ hPc)⟩ rfl rfl hl.1 rfl (lv_room (Nat.le_of_ble_eq_true rfl)) dX5_balance_52 ⟨Nat.le_of_ble_eq_true rfl, Nat.le_of_ble_eq_true rfl⟩) (fun r_96 hr_96 => ?_)
        refine lv_aload_n hx hb dX5_balance_55 rfl (lv_at hl 2 rfl) ?_
        refine lv_iload_n hx hb dX5_balance_56 rfl (lv_at hl 5 rfl) ?_
        refine lv_iload hx hb dX5_balance_57 (lv_at hl 0 rfl) ?_
        have hPc := hP.sub (ws' := [(h, .inr (6, [.ref g1, .ref g2, .int ka, .int 1, .ref g3, .ref g4])), (g1, .inl (E.2.1, 81, .inl u_93))]) [3, 4] rfl
        refine pc_i (va_runV (As := [.int (nI i), .int 1]) (rest := [.int r_96]) ⟨hx, hb, hml, hown, hts⟩ (s_drift l E h g1 g2 g3 g4 k ka 1 u_93 (nI i) 1 kk_95 (by omega)) (cwV 2 hts g_s_balance_s_drift_72 rfl rfl rfl (by decide +kernel) ⟨Nat.le_of_ble_eq_true rfl, Nat.le_of_ble_eq_true rfl⟩) ⟨pP.blind, va_recv hK hPc (ci := 6) (q0 := 0) rfl rfl, (pP.pre ⟨hK, hN⟩ hPc)⟩ rfl rfl hl.1 rfl (lv_room (Nat.le_of_ble_eq_true rfl)) dX5_balance_59 ⟨Nat.le_of_ble_eq_true rfl, Nat.le_of_ble_eq_true rfl⟩) (fun r_97 hr_97 => ?_)
        refine lv_isub hx hb dX5_balance_62 ?_
        refine lv_topi (fun z_98 ez_98 => ?_)
        refine lv_istore (lv' := [(5, .int z_98), (4, .int 1), (0, .ref h), (1, .int p0), (2, .int v2), (3, .int (nI i))]) hx hb dX5_balance_63 hl (by decide) rfl (fun ls hl => ?_)
        refine lv_aload_n hx hb dX5_balance_65 rfl (lv_at hl 2 rfl) ?_
        refine lv_iload_n hx hb dX5_balance_66 rfl (lv_at hl 5 rfl) ?_
        refine lv_iconst (v := 4) hx hb dX5_balance_67 (by decide) ?_
        refine lv_iload hx hb dX5_balance_68 (lv_at hl 1 rfl) ?_
        refine lv_iadd hx hb dX5_balance_70 ?_
        refine lv_topi (fun z_99 ez_99 => ?_)
        obtain rfl : z_99 = 5 := ez_99.trans (by decide)
        refine lv_aload_n hx hb dX5_balance_71 rfl (lv_at hl 2 rfl) ?_
        refine lv_iload_n hx hb dX5_balance_72 rfl (lv_at hl 5 rfl) ?_
        refine lv_iconst (v := 4) hx hb dX5_balance_73 (by decide) ?_
        refine lv_iload hx hb dX5_balance_74 (lv_at hl 1 rfl) ?_
        refine lv_iadd hx hb dX5_balance_76 ?_
        refine lv_topi (fun z_100 ez_100 => ?_)
        obtain rfl : z_100 = 5 := ez_100.trans (by decide)
        have hPc := hP.sub (ws' := [(h, .inr (6, [.ref g1, .ref g2, .int ka, .int 1, .ref g3, .ref g4])), (g1, .inl (E.2.1, 81, .inl u_93))]) [3, 4] rfl
        refine pc_i (va_runV (As := [.int (nI i), .int 5]) (rest := [.int 5, .int (nI i), .ref h]) ⟨hx, hb, hml, hown, hts⟩ (s_of l E h g1 g2 g3 g4 k ka 1 u_93 (nI i) 5 kk_95 (by omega)) (cwV 2 hts g_s_balance_s_of_69 rfl rfl rfl (by decide +kernel) ⟨Nat.le_of_ble_eq_true rfl, Nat.le_of_ble_eq_true rfl⟩) ⟨pP.blind, va_recv hK hPc (ci := 6) (q0 := 0) rfl rfl, (pP.pre ⟨hK, hN⟩ hPc)⟩ rfl rfl hl.1 rfl (lv_room (Nat.le_of_ble_eq_true rfl)) dX5_balance_77 ⟨Nat.le_of_ble_eq_true rfl, Nat.le_of_ble_eq_true rfl⟩) (fun r_101 hr_101 => ?_)
        refine lv_iload hx hb dX5_balance_80 (lv_at hl 0 rfl) ?_
        refine lv_iadd hx hb dX5_balance_82 ?_
        refine lv_topi (fun z_102 ez_102 => ?_)
        have hPc := hP.sub (ws' := [(h, .inr (6, [.ref g1, .ref g2, .int ka, .int 1, .ref g3, .ref g4])), (g1, .inl (E.2.1, 81, .inl u_93))]) [3, 4] rfl
        have hDc := hD.sub (ws' := [(h, .inr (6, [.ref g1, .ref g2, .int ka, .int 1, .ref g3, .ref g4])), (g1, .inl (E.2.1, 81, .inl u_93))]) [3, 4] (by decide) rfl
        have hFc := va_free (wc := [(h, .inr (6, [.ref g1, .ref g2, .int ka, .int 1, .ref g3, .ref g4])), (g1, .inl (E.2.1, 81, .inl u_93))]) hD hS hA [3, 4] rfl
        refine va_callv (va_runV (As := [.int (nI i), .int 5, .int z_102]) (rest := []) ⟨hx, hb, hml, hown, hts⟩ (s_put l E H.size h g1 g2 g3 g4 k ka 1 u_93 (nI i) 5 z_102 kk_95 (by omega)) (cwV 3 hts g_s_balance_s_put_52 rfl rfl rfl (by decide +kernel) ⟨Nat.le_of_ble_eq_true rfl, Nat.le_of_ble_eq_true rfl⟩) ⟨pW.blind, va_recv hK hPc (ci := 6) (q0 := 0) rfl rfl, (pW.pre ⟨hK, hN⟩ hPc hDc)⟩ rfl rfl hl.1 rfl (lv_room (Nat.le_of_ble_eq_true rfl)) dX5_balance_83 ⟨Nat.le_of_ble_eq_true rfl, Nat.le_of_ble_eq_true rfl⟩) hS (fun q _ h => hFc q h) hFc (fun  u_103 tt H1 locs ht hvm hw hB hz1 hk1 hS => ?_)
        obtain ⟨hP1, hD1⟩ := hB
        rw [ht] at hP1
        obtain ⟨hP, hD⟩ := va_join (wr := [(g2, .inl (E.2.1, 8, .inl fp)), (g3, .inl (E.2.1, 2, .inl fs)), (g4, .inl (E.2.1, 2, .inl fl))]) (w1 := [(h, .inr (6, [.ref g1, .ref g2, .int ka, .int 1, .ref g3, .ref g4])), (g1, .inl (E.2.1, 81, .inl u_103))]) hP hD [3, 4] [0, 1, 2] rfl rfl (by decide) (by decide) hk1 hFc hP1 hD1
        generalize H1 = H at hP hS ⊢
        have hP : va_P E.1 vwCl [(g2, .inl (E.2.1, 8, .inl fp)), (g3, .inl (E.2.1, 2, .inl fs)), (g4, .inl (E.2.1, 2, .inl fl)), (h, .inr (6, [.ref g1, .ref g2, .int ka, .int 1, .ref g3, .ref g4])), (g1, .inl (E.2.1, 81, .inl u_103))] H := hP
        have hD : va_D A [(g2, .inl (E.2.1, 8, .inl fp)), (g3, .inl (E.2.1, 2, .inl fs)), (g4, .inl (E.2.1, 2, .inl fl)), (h, .inr (6, [.ref g1, .ref g2, .int ka, .int 1, .ref g3, .ref g4])), (g1, .inl (E.2.1, 81, .inl u_103))] := hD
        have hsw_104 := hw
        have kk_105 := hsw_104
        refine lv_iinc (v := 2) (lv' := [(4, .int 2), (5, .int z_98), (0, .ref h), (1, .int p0), (2, .int v2), (3, .int (nI i))]) hx hb dX5_balance_86 hl (k := 1) rfl (by decide) (by decide) rfl (fun ls hl => ?_)
        refine lv_goto (tgt := 42) hx hb dX5_balance_89 (by decide) ?_
        refine lv_iload hx hb dX5_balance_42 (lv_at hl 0 rfl) ?_
        refine lv_iconst (v := 2) hx hb dX5_balance_44 (by decide) ?_
        refine lv_icmp_ge (tgt := 92) hx hb dX5_balance_45 (by decide) (fun _ => ?_) (fun q => absurd (by decide) q)
        obtain ⟨z_106, ez_106⟩ : ∃ y : Int32, y = v2 + 1 := ⟨_, rfl⟩
        refine lv_iinc (v := z_106) (lv' := [(2, .int z_106), (4, .int 2), (5, .int z_98), (0, .ref h), (1, .int p0), (3, .int (nI i))]) hx hb dX5_balance_92 hl (k := 4) rfl (by rw [ez_106]; rfl) (by decide) rfl (fun ls hl => ?_)
        exact K_85 z_106 u_103 H locs ls kk_105 (hP.sub [3, 4, 0, 1, 2] rfl) (hD.sub [3, 4, 0, 1, 2] (by decide) rfl) hS (lv_sub hl [3, 4, 0, 5] rfl)
      ·
        obtain ⟨j_107, hj_107, ej_107⟩ : ∃ j : Nat, j ≤ 0 ∧ z_59 = nI j := nat_rng (by have t0 : (0 : Int32).toInt = 0 := (by decide); simp only [Int32.lt_iff_toInt_lt, Int32.le_iff_toInt_le, ge_iff_le, gt_iff_lt, ne_eq, ← Int32.toInt_inj, t0] at c_60 ⊢; omega)
        refine lv_goto (tgt := 95) hx hb dX5_balance_36 (by decide) ?_
        exact K_85 v2 f1 H locs ls kf1_3 (hP.sub [0, 1, 2, 3, 4] rfl) (hD.sub [0, 1, 2, 3, 4] (by decide) rfl) hS (lv_sub hl [0, 1, 2, 3] rfl)

set_option maxHeartbeats 4000000 in
set_option maxRecDepth 100000 in
theorem s_balance (l : Launch) (E : EE) (sz : Nat) (h g1 g2 g3 g4 k : Nat) (ka ko : Int32) (f : Nat → Int32) (fp fs fl : Nat → Int32) (p0 : Int32) (hk : f 3 = nI k) (hk8 : k ≤ 8) : Met l yX5_balance v_s_balance ({ frames := 1, cells := 0, slots := 0, locals := 23 }) (va_Pc [.ref h, .int p0] (pW E sz [(h, .inr (6, [.ref g1, .ref g2, .int ka, .int ko, .ref g3, .ref g4])), (g1, .inl (E.2.1, 81, .inl f)), (g2, .inl (E.2.1, 8, .inl fp)), (g3, .inl (E.2.1, 2, .inl fs)), (g4, .inl (E.2.1, 2, .inl fl))])) (va_Qi (fun (r : Int32) (u_ : (Nat → Int32) × (Int32)) => (True) ∧ u_.1 3 = nI k) (fun (u_ : (Nat → Int32) × (Int32)) tt => va_P E.1 vwCl [(h, .inr (6, [.ref g1, .ref g2, .int ka, .int u_.2, .ref g3, .ref g4])), (g1, .inl (E.2.1, 81, .inl u_.1)), (g2, .inl (E.2.1, 8, .inl fp)), (g3, .inl (E.2.1, 2, .inl fs)), (g4, .inl (E.2.1, 2, .inl fl))] tt.heap ∧ va_D (va_A [(h, .inr (6, [.ref g1, .ref g2, .int ka, .int ko, .ref g3, .ref g4])), (g1, .inl (E.2.1, 81, .inl f)), (g2, .inl (E.2.1, 8, .inl fp)), (g3, .inl (E.2.1, 2, .inl fs)), (g4, .inl (E.2.1, 2, .inl fl))] sz) [(h, .inr (6, [.ref g1, .ref g2, .int ka, .int u_.2, .ref g3, .ref g4])), (g1, .inl (E.2.1, 81, .inl u_.1)), (g2, .inl (E.2.1, 8, .inl fp)), (g3, .inl (E.2.1, 2, .inl fs)), (g4, .inl (E.2.1, 2, .inl fl))]) (va_A [(h, .inr (6, [.ref g1, .ref g2, .int ka, .int ko, .ref g3, .ref g4])), (g1, .inl (E.2.1, 81, .inl f)), (g2, .inl (E.2.1, 8, .inl fp)), (g3, .inl (E.2.1, 2, .inl fs)), (g4, .inl (E.2.1, 2, .inl fl))] sz)) 0 0 (va_A [(h, .inr (6, [.ref g1, .ref g2, .int ka, .int ko, .ref g3, .ref g4])), (g1, .inl (E.2.1, 81, .inl f)), (g2, .inl (E.2.1, 8, .inl fp)), (g3, .inl (E.2.1, 2, .inl fs)), (g4, .inl (E.2.1, 2, .inl fl))] sz) := by
  refine Met.ofW (cc := cX5_balance) (maxL := 6) (ret := (some .int)) (by decide) rfl ?_
  intro p e s m args below meth c s₁ B hml hv
  obtain ⟨rfl, hsz, ⟨hK, hN⟩, hP, hD0⟩ := hv
  have hx := B.exec
  have hb := B.bytes
  have hr := B.returns
  have hts := atoms_spec (ws := v_s_balance) B.pre
  have hown : s.vm.findClass RX5 = some m.cls := findClass_of_methodNamed B.named
  have hlocks := B.notSynchronized
  subst hsz
  have hD := hD0.self (sz := s.heap.size)
  generalize hAe : va_A [(h, .inr (6, [.ref g1, .ref g2, .int ka, .int ko, .ref g3, .ref g4])), (g1, .inl (E.2.1, 81, .inl f)), (g2, .inl (E.2.1, 8, .inl fp)), (g3, .inl (E.2.1, 2, .inl fs)), (g4, .inl (E.2.1, 2, .inl fl))] s.heap.size = A at hD ⊢
  have hA : ∀ q : Nat, s.heap.size ≤ q → A q := fun q h => by rw [← hAe]; exact Or.inr h
  have hS : va_S A s.heap s.heap [] := va_S.rf
  have hP : va_P E.1 vwCl [(h, .inr (6, [.ref g1, .ref g2, .int ka, .int ko, .ref g3, .ref g4])), (g1, .inl (E.2.1, 81, .inl f)), (g2, .inl (E.2.1, 8, .inl fp)), (g3, .inl (E.2.1, 2, .inl fs)), (g4, .inl (E.2.1, 2, .inl fl))] s.heap := hP
  have hl := lv_entry ([.ref h, .int p0]) (n := 6) (Nat.le_of_ble_eq_true rfl)
  rw [lg_entry_eq]
  generalize (lg_sl ([.ref h, .int p0]) ++ List.replicate (6 - (lg_sl ([.ref h, .int p0])).length) Slot.unset).toArray = ls at hl ⊢
  have hl : lv_has ls 6 [(0, .ref h), (1, .int p0)] := hl
  obtain ⟨Q, hQ⟩ : ∃ Q : State → Prop, Q = MQ below (va_Qi (fun (r : Int32) (u_ : (Nat → Int32) × (Int32)) => (True) ∧ u_.1 3 = nI k) (fun (u_ : (Nat → Int32) × (Int32)) tt => va_P E.1 vwCl [(h, .inr (6, [.ref g1, .ref g2, .int ka, .int u_.2, .ref g3, .ref g4])), (g1, .inl (E.2.1, 81, .inl u_.1)), (g2, .inl (E.2.1, 8, .inl fp)), (g3, .inl (E.2.1, 2, .inl fs)), (g4, .inl (E.2.1, 2, .inl fl))] tt.heap ∧ va_D A [(h, .inr (6, [.ref g1, .ref g2, .int ka, .int u_.2, .ref g3, .ref g4])), (g1, .inl (E.2.1, 81, .inl u_.1)), (g2, .inl (E.2.1, 8, .inl fp)), (g3, .inl (E.2.1, 2, .inl fs)), (g4, .inl (E.2.1, 2, .inl fl))]) A) #[Value.ref h, Value.int p0] s 0 0 A := ⟨_, rfl⟩
  rw [← hQ]
  change W p l e ({ frames := 1, cells := 0, slots := 0, locals := 23 } : Room) s m #[Value.ref h, Value.int p0] below meth c s.heap [] 0 0 Q (F0 m 0 ls [])
  refine lv_aload_n hx hb dX5_balance_0 rfl (lv_at hl 0 rfl) ?_
  refine va_get (D := E.1) (ci := 6) (v := .ref g1) (C := RX5) (T := TX5) (N := 6) hx hb hts i_s_balance_X5 hown hK hP 0 rfl rfl 0 (by decide) (hts (.fieldLink RX5 11 "HushWatch$State" "row" "[I") (List.mem_of_getElem? (i := 1) rfl)) (fun _ h9 => h9) rfl dX5_balance_1 ?_
  refine lv_bipush (v := 13) hx hb dX5_balance_4 (by decide) ?_
  refine lv_dup2_11 hx hb dX5_balance_6 rfl rfl ?_
  refine va_iald hx hb hK hP 1 0 rfl rfl (vin rfl) dX5_balance_7 ?_
  refine W.eq (g2 := F0 m 8 ls [.int (f 13), .int 13, .ref g1]) rfl ?_
  refine lv_topi (fun z_1 ez_1 => ?_)
  refine lv_iconst (v := 1) hx hb dX5_balance_8 (by decide) ?_
  refine lv_iadd hx hb dX5_balance_9 ?_
  refine lv_topi (fun z_2 ez_2 => ?_)
  refine va_iast hx hb hK hP hD hS 1 0 rfl rfl (vin rfl) dX5_balance_10 (fun H locs hP hD hS => ?_)
  have hP : va_P E.1 vwCl [(h, .inr (6, [.ref g1, .ref g2, .int ka, .int ko, .ref g3, .ref g4])), (g1, .inl (E.2.1, 81, .inl (upd f (13 : Int32).toNatClampNeg z_2))), (g2, .inl (E.2.1, 8, .inl fp)), (g3, .inl (E.2.1, 2, .inl fs)), (g4, .inl (E.2.1, 2, .inl fl))] H := hP
  have hD : va_D A [(h, .inr (6, [.ref g1, .ref g2, .int ka, .int ko, .ref g3, .ref g4])), (g1, .inl (E.2.1, 81, .inl (upd f (13 : Int32).toNatClampNeg z_2))), (g2, .inl (E.2.1, 8, .inl fp)), (g3, .inl (E.2.1, 2, .inl fs)), (g4, .inl (E.2.1, 2, .inl fl))] := hD
  obtain ⟨f_3, hf_3⟩ : ∃ g : Nat → Int32, g = upd f (13 : Int32).toNatClampNeg z_2 := ⟨_, rfl⟩
  rw [← hf_3] at hP hD
  have kf_3_3 : f_3 3 = nI k := by rw [hf_3]; exact (upd_ne (by decide)).trans hk
  refine lv_aload_n hx hb dX5_balance_11 rfl (lv_at hl 0 rfl) ?_
  refine lv_iconst (v := 1) hx hb dX5_balance_12 (by decide) ?_
  refine va_put (D := E.1) (ci := 6) (v := .int 1) (ty := .int) (C := RX5) (T := TX5) (N := 6) hx hb hts i_s_balance_X5 tyX5 tyX5_ok nmX5 hown hK hP hD hS 0 rfl rfl 3 (by decide) (hts (.fieldLink RX5 22 "HushWatch$State" "outcome" "I") (List.mem_of_getElem? (i := 2) rfl)) (fun _ h9 => h9) rfl (by decide +kernel) rfl rfl (Nat.le_of_ble_eq_true rfl) dX5_balance_13 (fun H locs hP hD hS => ?_)
  have hP : va_P E.1 vwCl [(h, .inr (6, [.ref g1, .ref g2, .int ka, .int 1, .ref g3, .ref g4])), (g1, .inl (E.2.1, 81, .inl f_3)), (g2, .inl (E.2.1, 8, .inl fp)), (g3, .inl (E.2.1, 2, .inl fs)), (g4, .inl (E.2.1, 2, .inl fl))] H := hP
  have hD : va_D A [(h, .inr (6, [.ref g1, .ref g2, .int ka, .int 1, .ref g3, .ref g4])), (g1, .inl (E.2.1, 81, .inl f_3)), (g2, .inl (E.2.1, 8, .inl fp)), (g3, .inl (E.2.1, 2, .inl fs)), (g4, .inl (E.2.1, 2, .inl fl))] := hD
  refine lv_iconst (v := 0) hx hb dX5_balance_16 (by decide) ?_
  refine lv_istore_n (lv' := [(2, .int 0), (0, .ref h), (1, .int p0)]) hx hb dX5_balance_17 rfl hl (by decide) rfl (fun ls hl => ?_)
  refine lv_iconst (v := 0) hx hb dX5_balance_18 (by decide) ?_
  refine lv_istore_n (lv' := [(3, .int 0), (2, .int 0), (0, .ref h), (1, .int p0)]) hx hb dX5_balance_19 rfl hl (by decide) rfl (fun ls hl => ?_)
  refine lp_s_balance_20 (h := h) (g1 := g1) (g2 := g2) (g3 := g3) (g4 := g4) (k := k) (ka := ka) (ko := ko) (f := f) (fp := fp) (fs := fs) (fl := fl) (p0 := p0) l E hk hk8 hx hb hml hown hts hK hN hA ?_ (10) 0 0 f_3 H locs ls (by omega) kf_3_3 (by omega) (hP.sub [0, 1, 2, 3, 4] rfl) (hD.sub [0, 1, 2, 3, 4] (by decide) rfl) hS (lv_sub hl [2, 3, 1, 0] rfl)
  ·
    intro v2 i f1 H locs ls hi kf1_3 hP hD hS hl
    refine lv_iconst (v := 1) hx hb dX5_balance_101 (by decide) ?_
    refine lv_iconst (v := 2) hx hb dX5_balance_102 (by decide) ?_
    refine lv_aload_n hx hb dX5_balance_103 rfl (lv_at hl 0 rfl) ?_
    refine va_get (D := E.1) (ci := 6) (v := .int ka) (C := RX5) (T := TX5) (N := 6) hx hb hts i_s_balance_X5 hown hK hP 0 rfl rfl 2 (by decide) (hts (.fieldLink RX5 18 "HushWatch$State" "askedCount" "I") (List.mem_of_getElem? (i := 3) rfl)) (fun _ h9 => h9) rfl dX5_balance_104 ?_
    refine lv_imul hx hb dX5_balance_107 ?_
    refine lv_topi (fun z_108 ez_108 => ?_)
    refine lv_iadd hx hb dX5_balance_108 ?_
    refine lv_topi (fun z_109 ez_109 => ?_)
    refine lv_iload_n hx hb dX5_balance_109 rfl (lv_at hl 2 rfl) ?_
    refine lv_iadd hx hb dX5_balance_110 ?_
    refine lv_topi (fun z_110 ez_110 => ?_)
    rw [hQ]
    have hP9 := hP.sub (ws' := [(h, .inr (6, [.ref g1, .ref g2, .int ka, .int 1, .ref g3, .ref g4])), (g1, .inl (E.2.1, 81, .inl f1)), (g2, .inl (E.2.1, 8, .inl fp)), (g3, .inl (E.2.1, 2, .inl fs)), (g4, .inl (E.2.1, 2, .inl fl))]) [0, 1, 2, 3, 4] rfl
    have hD9 := hD.sub (ws' := [(h, .inr (6, [.ref g1, .ref g2, .int ka, .int 1, .ref g3, .ref g4])), (g1, .inl (E.2.1, 81, .inl f1)), (g2, .inl (E.2.1, 8, .inl fp)), (g3, .inl (E.2.1, 2, .inl fs)), (g4, .inl (E.2.1, 2, .inl fl))]) [0, 1, 2, 3, 4] (by decide) rfl
    exact W.iret (v := z_110) hx hb hr (fun tt ht hW => ⟨⟨_, (f1, 1), rfl, ⟨trivial, kf1_3⟩, by rw [ht]; exact hP9, hD9⟩, hS.F ht⟩) hS.2.2 dX5_balance_111
