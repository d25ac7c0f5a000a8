theorem dX5_copyFrom_0 : decode cX5_copyFrom 0 = .ok (.aload_n 1, 1) := by decide +kernel
theorem dX5_copyFrom_1 : decode cX5_copyFrom 1 = .ok (.getfield 11, 3) := by decide +kernel
theorem dX5_copyFrom_4 : decode cX5_copyFrom 4 = .ok (.iconst 0, 1) := by decide +kernel
theorem dX5_copyFrom_5 : decode cX5_copyFrom 5 = .ok (.aload_n 0, 1) := by decide +kernel
theorem dX5_copyFrom_6 : decode cX5_copyFrom 6 = .ok (.getfield 11, 3) := by decide +kernel
theorem dX5_copyFrom_9 : decode cX5_copyFrom 9 = .ok (.iconst 0, 1) := by decide +kernel
theorem dX5_copyFrom_10 : decode cX5_copyFrom 10 = .ok (.bipush 81, 2) := by decide +kernel
theorem dX5_copyFrom_12 : decode cX5_copyFrom 12 = .ok (.invokestatic 63, 3) := by decide +kernel
theorem dX5_copyFrom_15 : decode cX5_copyFrom 15 = .ok (.return_, 1) := by decide +kernel
theorem dX5_begin_2 : decode cX5_begin 2 = .ok (.iload_n 2, 1) := by decide +kernel
theorem dX5_begin_3 : decode cX5_begin 3 = .ok (.bipush 81, 2) := by decide +kernel
theorem dX5_begin_5 : decode cX5_begin 5 = .ok (.if_icmp .ge 16, 3) := by decide +kernel
theorem dX5_begin_8 : decode cX5_begin 8 = .ok (.aload_n 0, 1) := by decide +kernel
theorem dX5_begin_9 : decode cX5_begin 9 = .ok (.getfield 11, 3) := by decide +kernel
theorem dX5_begin_12 : decode cX5_begin 12 = .ok (.iload_n 2, 1) := by decide +kernel
theorem dX5_begin_13 : decode cX5_begin 13 = .ok (.iconst 0, 1) := by decide +kernel
theorem dX5_begin_14 : decode cX5_begin 14 = .ok (.iastore, 1) := by decide +kernel
theorem dX5_begin_15 : decode cX5_begin 15 = .ok (.iinc 2 1, 3) := by decide +kernel
theorem dX5_begin_18 : decode cX5_begin 18 = .ok (.goto (-16), 3) := by decide +kernel
theorem dX5_begin_74 : decode cX5_begin 74 = .ok (.iload_n 2, 1) := by decide +kernel
theorem dX5_begin_75 : decode cX5_begin 75 = .ok (.aload_n 0, 1) := by decide +kernel
theorem dX5_begin_76 : decode cX5_begin 76 = .ok (.invokevirtual 45, 3) := by decide +kernel
theorem dX5_begin_79 : decode cX5_begin 79 = .ok (.if_icmp .ge 39, 3) := by decide +kernel
theorem dX5_begin_82 : decode cX5_begin 82 = .ok (.aload_n 0, 1) := by decide +kernel
theorem dX5_begin_83 : decode cX5_begin 83 = .ok (.iload_n 2, 1) := by decide +kernel
theorem dX5_begin_84 : decode cX5_begin 84 = .ok (.iconst 0, 1) := by decide +kernel
theorem dX5_begin_85 : decode cX5_begin 85 = .ok (.aload_n 1, 1) := by decide +kernel
theorem dX5_begin_86 : decode cX5_begin 86 = .ok (.getfield 49, 3) := by decide +kernel
theorem dX5_begin_89 : decode cX5_begin 89 = .ok (.iconst 2, 1) := by decide +kernel
theorem dX5_begin_90 : decode cX5_begin 90 = .ok (.iload_n 2, 1) := by decide +kernel
theorem dX5_begin_91 : decode cX5_begin 91 = .ok (.imul, 1) := by decide +kernel
theorem dX5_begin_92 : decode cX5_begin 92 = .ok (.iaload, 1) := by decide +kernel
theorem dX5_begin_93 : decode cX5_begin 93 = .ok (.invokevirtual 52, 3) := by decide +kernel
theorem dX5_begin_96 : decode cX5_begin 96 = .ok (.aload_n 0, 1) := by decide +kernel
theorem dX5_begin_97 : decode cX5_begin 97 = .ok (.iload_n 2, 1) := by decide +kernel
theorem dX5_begin_98 : decode cX5_begin 98 = .ok (.iconst 1, 1) := by decide +kernel
theorem dX5_begin_99 : decode cX5_begin 99 = .ok (.aload_n 1, 1) := by decide +kernel
theorem dX5_begin_100 : decode cX5_begin 100 = .ok (.getfield 49, 3) := by decide +kernel
theorem dX5_begin_103 : decode cX5_begin 103 = .ok (.iconst 2, 1) := by decide +kernel
theorem dX5_begin_104 : decode cX5_begin 104 = .ok (.iload_n 2, 1) := by decide +kernel
theorem dX5_begin_105 : decode cX5_begin 105 = .ok (.imul, 1) := by decide +kernel
theorem dX5_begin_106 : decode cX5_begin 106 = .ok (.iconst 1, 1) := by decide +kernel
theorem dX5_begin_107 : decode cX5_begin 107 = .ok (.iadd, 1) := by decide +kernel
theorem dX5_begin_108 : decode cX5_begin 108 = .ok (.iaload, 1) := by decide +kernel
theorem dX5_begin_109 : decode cX5_begin 109 = .ok (.invokevirtual 52, 3) := by decide +kernel
theorem dX5_begin_112 : decode cX5_begin 112 = .ok (.iinc 2 1, 3) := by decide +kernel
theorem dX5_begin_115 : decode cX5_begin 115 = .ok (.goto (-41), 3) := by decide +kernel
theorem dX5_begin_0 : decode cX5_begin 0 = .ok (.iconst 0, 1) := by decide +kernel
theorem dX5_begin_1 : decode cX5_begin 1 = .ok (.istore_n 2, 1) := by decide +kernel
theorem dX5_begin_21 : decode cX5_begin 21 = .ok (.aload_n 0, 1) := by decide +kernel
theorem dX5_begin_22 : decode cX5_begin 22 = .ok (.getfield 11, 3) := by decide +kernel
theorem dX5_begin_25 : decode cX5_begin 25 = .ok (.iconst 0, 1) := by decide +kernel
theorem dX5_begin_26 : decode cX5_begin 26 = .ok (.aload_n 1, 1) := by decide +kernel
theorem dX5_begin_27 : decode cX5_begin 27 = .ok (.getfield 31, 3) := by decide +kernel
theorem dX5_begin_30 : decode cX5_begin 30 = .ok (.iconst 0, 1) := by decide +kernel
theorem dX5_begin_31 : decode cX5_begin 31 = .ok (.iaload, 1) := by decide +kernel
theorem dX5_begin_32 : decode cX5_begin 32 = .ok (.iastore, 1) := by decide +kernel
theorem dX5_begin_33 : decode cX5_begin 33 = .ok (.aload_n 0, 1) := by decide +kernel
theorem dX5_begin_34 : decode cX5_begin 34 = .ok (.getfield 11, 3) := by decide +kernel
theorem dX5_begin_37 : decode cX5_begin 37 = .ok (.iconst 1, 1) := by decide +kernel
theorem dX5_begin_38 : decode cX5_begin 38 = .ok (.aload_n 1, 1) := by decide +kernel
theorem dX5_begin_39 : decode cX5_begin 39 = .ok (.getfield 31, 3) := by decide +kernel
theorem dX5_begin_42 : decode cX5_begin 42 = .ok (.iconst 1, 1) := by decide +kernel
theorem dX5_begin_43 : decode cX5_begin 43 = .ok (.iaload, 1) := by decide +kernel
theorem dX5_begin_44 : decode cX5_begin 44 = .ok (.iastore, 1) := by decide +kernel
theorem dX5_begin_45 : decode cX5_begin 45 = .ok (.aload_n 0, 1) := by decide +kernel
theorem dX5_begin_46 : decode cX5_begin 46 = .ok (.getfield 11, 3) := by decide +kernel
theorem dX5_begin_49 : decode cX5_begin 49 = .ok (.iconst 2, 1) := by decide +kernel
theorem dX5_begin_50 : decode cX5_begin 50 = .ok (.aload_n 1, 1) := by decide +kernel
theorem dX5_begin_51 : decode cX5_begin 51 = .ok (.getfield 31, 3) := by decide +kernel
theorem dX5_begin_54 : decode cX5_begin 54 = .ok (.iconst 2, 1) := by decide +kernel
theorem dX5_begin_55 : decode cX5_begin 55 = .ok (.iaload, 1) := by decide +kernel
theorem dX5_begin_56 : decode cX5_begin 56 = .ok (.iastore, 1) := by decide +kernel
theorem dX5_begin_57 : decode cX5_begin 57 = .ok (.aload_n 0, 1) := by decide +kernel
theorem dX5_begin_58 : decode cX5_begin 58 = .ok (.getfield 11, 3) := by decide +kernel
theorem dX5_begin_61 : decode cX5_begin 61 = .ok (.iconst 3, 1) := by decide +kernel
theorem dX5_begin_62 : decode cX5_begin 62 = .ok (.aload_n 1, 1) := by decide +kernel
theorem dX5_begin_63 : decode cX5_begin 63 = .ok (.getfield 36, 3) := by decide +kernel
theorem dX5_begin_66 : decode cX5_begin 66 = .ok (.bipush 8, 2) := by decide +kernel
theorem dX5_begin_68 : decode cX5_begin 68 = .ok (.invokestatic 39, 3) := by decide +kernel
theorem dX5_begin_71 : decode cX5_begin 71 = .ok (.iastore, 1) := by decide +kernel
theorem dX5_begin_72 : decode cX5_begin 72 = .ok (.iconst 0, 1) := by decide +kernel
theorem dX5_begin_73 : decode cX5_begin 73 = .ok (.istore_n 2, 1) := by decide +kernel
theorem dX5_begin_118 : decode cX5_begin 118 = .ok (.aload_n 0, 1) := by decide +kernel
theorem dX5_begin_119 : decode cX5_begin 119 = .ok (.invokevirtual 56, 3) := by decide +kernel
theorem dX5_begin_122 : decode cX5_begin 122 = .ok (.aload_n 0, 1) := by decide +kernel
theorem dX5_begin_123 : decode cX5_begin 123 = .ok (.getfield 11, 3) := by decide +kernel
theorem dX5_begin_126 : decode cX5_begin 126 = .ok (.bipush 6, 2) := by decide +kernel
theorem dX5_begin_128 : decode cX5_begin 128 = .ok (.aload_n 0, 1) := by decide +kernel
theorem dX5_begin_129 : decode cX5_begin 129 = .ok (.aload_n 0, 1) := by decide +kernel
theorem dX5_begin_130 : decode cX5_begin 130 = .ok (.getfield 11, 3) := by decide +kernel
theorem dX5_begin_133 : decode cX5_begin 133 = .ok (.iconst 4, 1) := by decide +kernel
theorem dX5_begin_134 : decode cX5_begin 134 = .ok (.iaload, 1) := by decide +kernel
theorem dX5_begin_135 : decode cX5_begin 135 = .ok (.i2l, 1) := by decide +kernel
theorem dX5_begin_136 : decode cX5_begin 136 = .ok (.aload_n 0, 1) := by decide +kernel
theorem dX5_begin_137 : decode cX5_begin 137 = .ok (.getfield 11, 3) := by decide +kernel
theorem dX5_begin_140 : decode cX5_begin 140 = .ok (.iconst 5, 1) := by decide +kernel
theorem dX5_begin_141 : decode cX5_begin 141 = .ok (.iaload, 1) := by decide +kernel
theorem dX5_begin_142 : decode cX5_begin 142 = .ok (.i2l, 1) := by decide +kernel
theorem dX5_begin_143 : decode cX5_begin 143 = .ok (.invokevirtual 59, 3) := by decide +kernel
theorem dX5_begin_154 : decode cX5_begin 154 = .ok (.iastore, 1) := by decide +kernel
theorem dX5_begin_155 : decode cX5_begin 155 = .ok (.return_, 1) := by decide +kernel
theorem dX5_begin_146 : decode cX5_begin 146 = .ok (.ifCond .eq 7, 3) := by decide +kernel
theorem dX5_begin_153 : decode cX5_begin 153 = .ok (.iconst 1, 1) := by decide +kernel
theorem dX5_begin_149 : decode cX5_begin 149 = .ok (.iconst 0, 1) := by decide +kernel
theorem dX5_begin_150 : decode cX5_begin 150 = .ok (.goto 4, 3) := by decide +kernel
theorem dX2_forget_0 : decode cX2_forget 0 = .ok (.aload_n 0, 1) := by decide +kernel
theorem dX2_forget_1 : decode cX2_forget 1 = .ok (.iconst 0, 1) := by decide +kernel
theorem dX2_forget_2 : decode cX2_forget 2 = .ok (.putfield 21, 3) := by decide +kernel
theorem dX2_forget_5 : decode cX2_forget 5 = .ok (.return_, 1) := by decide +kernel
theorem dX2_keep_0 : decode cX2_keep 0 = .ok (.aload_n 1, 1) := by decide +kernel
theorem dX2_keep_1 : decode cX2_keep 1 = .ok (.getfield 24, 3) := by decide +kernel
theorem dX2_keep_4 : decode cX2_keep 4 = .ok (.iconst 0, 1) := by decide +kernel
theorem dX2_keep_5 : decode cX2_keep 5 = .ok (.aload_n 0, 1) := by decide +kernel
theorem dX2_keep_6 : decode cX2_keep 6 = .ok (.getfield 11, 3) := by decide +kernel
theorem dX2_keep_9 : decode cX2_keep 9 = .ok (.aload_n 0, 1) := by decide +kernel
theorem dX2_keep_10 : decode cX2_keep 10 = .ok (.getfield 17, 3) := by decide +kernel
theorem dX2_keep_13 : decode cX2_keep 13 = .ok (.bipush 81, 2) := by decide +kernel
theorem dX2_keep_15 : decode cX2_keep 15 = .ok (.imul, 1) := by decide +kernel
theorem dX2_keep_16 : decode cX2_keep 16 = .ok (.bipush 81, 2) := by decide +kernel
theorem dX2_keep_18 : decode cX2_keep 18 = .ok (.invokestatic 27, 3) := by decide +kernel
theorem dX2_keep_21 : decode cX2_keep 21 = .ok (.aload_n 0, 1) := by decide +kernel
theorem dX2_keep_22 : decode cX2_keep 22 = .ok (.aload_n 0, 1) := by decide +kernel
theorem dX2_keep_23 : decode cX2_keep 23 = .ok (.getfield 17, 3) := by decide +kernel
theorem dX2_keep_26 : decode cX2_keep 26 = .ok (.iconst 1, 1) := by decide +kernel
theorem dX2_keep_27 : decode cX2_keep 27 = .ok (.iadd, 1) := by decide +kernel
theorem dX2_keep_28 : decode cX2_keep 28 = .ok (.bipush 40, 2) := by decide +kernel
theorem dX2_keep_43 : decode cX2_keep 43 = .ok (.putfield 17, 3) := by decide +kernel
theorem dX2_keep_46 : decode cX2_keep 46 = .ok (.aload_n 0, 1) := by decide +kernel
theorem dX2_keep_47 : decode cX2_keep 47 = .ok (.aload_n 0, 1) := by decide +kernel
theorem dX2_keep_48 : decode cX2_keep 48 = .ok (.getfield 21, 3) := by decide +kernel
theorem dX2_keep_51 : decode cX2_keep 51 = .ok (.iconst 1, 1) := by decide +kernel
theorem dX2_keep_52 : decode cX2_keep 52 = .ok (.iadd, 1) := by decide +kernel
theorem dX2_keep_53 : decode cX2_keep 53 = .ok (.bipush 40, 2) := by decide +kernel
theorem dX2_keep_55 : decode cX2_keep 55 = .ok (.invokestatic 33, 3) := by decide +kernel
theorem dX2_keep_58 : decode cX2_keep 58 = .ok (.putfield 21, 3) := by decide +kernel
theorem dX2_keep_61 : decode cX2_keep 61 = .ok (.return_, 1) := by decide +kernel
theorem dX2_keep_30 : decode cX2_keep 30 = .ok (.if_icmp .ge 12, 3) := by decide +kernel
theorem dX2_keep_42 : decode cX2_keep 42 = .ok (.iconst 0, 1) := by decide +kernel
theorem dX2_keep_33 : decode cX2_keep 33 = .ok (.aload_n 0, 1) := by decide +kernel
theorem dX2_keep_34 : decode cX2_keep 34 = .ok (.getfield 17, 3) := by decide +kernel
theorem dX2_keep_37 : decode cX2_keep 37 = .ok (.iconst 1, 1) := by decide +kernel
theorem dX2_keep_38 : decode cX2_keep 38 = .ok (.iadd, 1) := by decide +kernel
theorem dX2_keep_39 : decode cX2_keep 39 = .ok (.goto 4, 3) := by decide +kernel
theorem dX2_bringBack_0 : decode cX2_bringBack 0 = .ok (.aload_n 0, 1) := by decide +kernel
theorem dX2_bringBack_1 : decode cX2_bringBack 1 = .ok (.getfield 21, 3) := by decide +kernel
theorem dX2_bringBack_4 : decode cX2_bringBack 4 = .ok (.ifCond .ne 5, 3) := by decide +kernel
theorem dX2_bringBack_9 : decode cX2_bringBack 9 = .ok (.aload_n 0, 1) := by decide +kernel
theorem dX2_bringBack_10 : decode cX2_bringBack 10 = .ok (.aload_n 0, 1) := by decide +kernel
theorem dX2_bringBack_11 : decode cX2_bringBack 11 = .ok (.getfield 17, 3) := by decide +kernel
theorem dX2_bringBack_28 : decode cX2_bringBack 28 = .ok (.putfield 17, 3) := by decide +kernel
theorem dX2_bringBack_31 : decode cX2_bringBack 31 = .ok (.aload_n 0, 1) := by decide +kernel
theorem dX2_bringBack_32 : decode cX2_bringBack 32 = .ok (.dup, 1) := by decide +kernel
theorem dX2_bringBack_33 : decode cX2_bringBack 33 = .ok (.getfield 21, 3) := by decide +kernel
theorem dX2_bringBack_36 : decode cX2_bringBack 36 = .ok (.iconst 1, 1) := by decide +kernel
theorem dX2_bringBack_37 : decode cX2_bringBack 37 = .ok (.isub, 1) := by decide +kernel
theorem dX2_bringBack_38 : decode cX2_bringBack 38 = .ok (.putfield 21, 3) := by decide +kernel
theorem dX2_bringBack_41 : decode cX2_bringBack 41 = .ok (.aload_n 0, 1) := by decide +kernel
theorem dX2_bringBack_42 : decode cX2_bringBack 42 = .ok (.getfield 11, 3) := by decide +kernel
theorem dX2_bringBack_45 : decode cX2_bringBack 45 = .ok (.aload_n 0, 1) := by decide +kernel
theorem dX2_bringBack_46 : decode cX2_bringBack 46 = .ok (.getfield 17, 3) := by decide +kernel
theorem dX2_bringBack_49 : decode cX2_bringBack 49 = .ok (.bipush 81, 2) := by decide +kernel
theorem dX2_bringBack_51 : decode cX2_bringBack 51 = .ok (.imul, 1) := by decide +kernel
theorem dX2_bringBack_52 : decode cX2_bringBack 52 = .ok (.aload_n 1, 1) := by decide +kernel
theorem dX2_bringBack_53 : decode cX2_bringBack 53 = .ok (.getfield 24, 3) := by decide +kernel
theorem dX2_bringBack_56 : decode cX2_bringBack 56 = .ok (.iconst 0, 1) := by decide +kernel
theorem dX2_bringBack_57 : decode cX2_bringBack 57 = .ok (.bipush 81, 2) := by decide +kernel
theorem dX2_bringBack_59 : decode cX2_bringBack 59 = .ok (.invokestatic 27, 3) := by decide +kernel
theorem dX2_bringBack_62 : decode cX2_bringBack 62 = .ok (.iconst 1, 1) := by decide +kernel
theorem dX2_bringBack_63 : decode cX2_bringBack 63 = .ok (.ireturn, 1) := by decide +kernel
theorem dX2_bringBack_14 : decode cX2_bringBack 14 = .ok (.ifCond .le 12, 3) := by decide +kernel
theorem dX2_bringBack_26 : decode cX2_bringBack 26 = .ok (.bipush 39, 2) := by decide +kernel
theorem dX2_bringBack_17 : decode cX2_bringBack 17 = .ok (.aload_n 0, 1) := by decide +kernel
theorem dX2_bringBack_18 : decode cX2_bringBack 18 = .ok (.getfield 17, 3) := by decide +kernel
theorem dX2_bringBack_21 : decode cX2_bringBack 21 = .ok (.iconst 1, 1) := by decide +kernel
theorem dX2_bringBack_22 : decode cX2_bringBack 22 = .ok (.isub, 1) := by decide +kernel
theorem dX2_bringBack_23 : decode cX2_bringBack 23 = .ok (.goto 5, 3) := by decide +kernel
theorem dX2_bringBack_7 : decode cX2_bringBack 7 = .ok (.iconst 0, 1) := by decide +kernel
theorem dX2_bringBack_8 : decode cX2_bringBack 8 = .ok (.ireturn, 1) := by decide +kernel
theorem nI_subk {n j k : Nat} (e : n = j + k) : nI n - nI k = nI j := by
  rw [e, ← nI_add]
  exact Int32.add_sub_cancel _ _
theorem nmin_l {a b : Nat} (h : a ≤ b) (hb : b < 2 ^ 31) : (if nI b < nI a then nI b else nI a) = nI a := if_neg (fun q => by have := (nI_ltI hb (by omega)).mp q; omega)
theorem nmin_e {a b : Nat} {z : Int32} (ha : a < 2 ^ 31) (hb : b < 2 ^ 31) (e : z = if nI b < nI a then nI b else nI a) : ∃ j : Nat, j ≤ b ∧ z = nI j := by
  by_cases q : nI b < nI a
  · rw [if_pos q] at e; exact ⟨b, Nat.le_refl _, e⟩
  · rw [if_neg q] at e
    refine ⟨a, ?_, e⟩
    have : ¬ b < a := fun r => q ((nI_ltI hb ha).mpr r)
    omega
/-- every kept row's number of sites is at most 8 -/
def hOK (F : Nat → Int32) : Prop := ∀ j, j < 40 → ∃ c, c ≤ 8 ∧ F (j * 81 + 3) = nI c
theorem hOK_keep {F f : Nat → Int32} {k n : Nat} (h : hOK F) (hk : f 3 = nI k) (hk8 : k ≤ 8) (hn : n ≤ 39) : hOK (va_cpy f F (0 : Int32).toNatClampNeg (nI (n * 81)).toNatClampNeg (81 : Int32).toNatClampNeg) := by
  intro j hj
  rw [nI_clamp (by omega), show (0 : Int32).toNatClampNeg = 0 from by decide, show (81 : Int32).toNatClampNeg = 81 from by decide]
  unfold va_cpy
  by_cases q : n * 81 ≤ j * 81 + 3 ∧ j * 81 + 3 < n * 81 + 81
  · have : j = n := by omega
    subst this
    refine ⟨k, hk8, ?_⟩
    rw [if_pos q, show 0 + (j * 81 + 3 - j * 81) = 3 by omega]
    exact hk
  · rw [if_neg q]; exact h j hj
theorem hOK_back {F f : Nat → Int32} {n : Nat} (h : hOK F) (hn : n ≤ 39) : ∃ k : Nat, k ≤ 8 ∧ va_cpy F f (nI (n * 81)).toNatClampNeg (0 : Int32).toNatClampNeg (81 : Int32).toNatClampNeg 3 = nI k := by
  obtain ⟨c, hc, e⟩ := h n (by omega)
  refine ⟨c, hc, ?_⟩
  rw [nI_clamp (by omega), show (0 : Int32).toNatClampNeg = 0 from by decide, show (81 : Int32).toNatClampNeg = 81 from by decide]
  unfold va_cpy
  rw [if_pos (by omega)]
  exact e

def v_s_copyFrom : List Cond := .code yX5_copyFrom cX5_copyFrom 2 none :: ([.fieldLink RX5 11 "HushWatch$State" "row" "[I", .methodLink RX5 63 arraycopyName, .native arraycopyName, .static arraycopyName, .initialized "java/lang/System"] ++ (wsX50 ++ ([])))
theorem gw_s_copyFrom : v_s_copyFrom.all goodWord = true := by decide +kernel
theorem i_s_copyFrom_X5 : ∀ w ∈ wsX50, w ∈ v_s_copyFrom := fun _ h => List.mem_cons_of_mem _ (List.mem_append_right _ (List.mem_append_left _ h))
set_option maxHeartbeats 4000000 in
set_option maxRecDepth 100000 in
theorem s_copyFrom (l : Launch) (E : EE) (sz : Nat) (h g1 g2 g3 g4 k : Nat) (ka ko : Int32) (f : Nat → Int32) (h2 e1 e2 e3 e4 : Nat) (ea eo : Int32) (fo : Nat → Int32) (hk : fo 3 = nI k) : Met l yX5_copyFrom v_s_copyFrom ({ frames := 1, cells := 0, slots := 0, locals := 60 }) (va_Pc [.ref h, .ref h2] (pW E sz [(h, .inr (6, [.ref g1, .ref g2, .int ka, .int ko, .ref g3, .ref g4])), (g1, .inl (E.2.1, 81, .inl f)), (h2, .inr (6, [.ref e1, .ref e2, .int ea, .int eo, .ref e3, .ref e4])), (e1, .inl (E.2.1, 81, .inl fo))])) (va_Qv (fun (f1 : Nat → Int32) => f1 3 = nI k) (fun (f1 : Nat → Int32) tt => va_P E.1 vwCl [(h, .inr (6, [.ref g1, .ref g2, .int ka, .int ko, .ref g3, .ref g4])), (g1, .inl (E.2.1, 81, .inl f1)), (h2, .inr (6, [.ref e1, .ref e2, .int ea, .int eo, .ref e3, .ref e4])), (e1, .inl (E.2.1, 81, .inl fo))] tt.heap ∧ va_D (va_A [(h, .inr (6, [.ref g1, .ref g2, .int ka, .int ko, .ref g3, .ref g4])), (g1, .inl (E.2.1, 81, .inl f)), (h2, .inr (6, [.ref e1, .ref e2, .int ea, .int eo, .ref e3, .ref e4])), (e1, .inl (E.2.1, 81, .inl fo))] sz) [(h, .inr (6, [.ref g1, .ref g2, .int ka, .int ko, .ref g3, .ref g4])), (g1, .inl (E.2.1, 81, .inl f1)), (h2, .inr (6, [.ref e1, .ref e2, .int ea, .int eo, .ref e3, .ref e4])), (e1, .inl (E.2.1, 81, .inl fo))]) (va_A [(h, .inr (6, [.ref g1, .ref g2, .int ka, .int ko, .ref g3, .ref g4])), (g1, .inl (E.2.1, 81, .inl f)), (h2, .inr (6, [.ref e1, .ref e2, .int ea, .int eo, .ref e3, .ref e4])), (e1, .inl (E.2.1, 81, .inl fo))] sz)) 0 0 (va_A [(h, .inr (6, [.ref g1, .ref g2, .int ka, .int ko, .ref g3, .ref g4])), (g1, .inl (E.2.1, 81, .inl f)), (h2, .inr (6, [.ref e1, .ref e2, .int ea, .int eo, .ref e3, .ref e4])), (e1, .inl (E.2.1, 81, .inl fo))] sz) := by
  refine Met.ofW (cc := cX5_copyFrom) (maxL := 2) (ret := none) (by decide) rfl ?_
  intro p e s m args below meth c s₁ B hml hv
  obtain ⟨rfl, hsz, ⟨hK, hN⟩, hP, hD0⟩ := hv
  have hx := B.exec
  have hb := B.bytes
  have hr := B.returns
  have hts := atoms_spec (ws := v_s_copyFrom) B.pre
  have hown : s.vm.findClass RX5 = some m.cls := findClass_of_methodNamed B.named
  have hlocks := B.notSynchronized
  subst hsz
  have hD := hD0.self (sz := s.heap.size)
  generalize hAe : va_A [(h, .inr (6, [.ref g1, .ref g2, .int ka, .int ko, .ref g3, .ref g4])), (g1, .inl (E.2.1, 81, .inl f)), (h2, .inr (6, [.ref e1, .ref e2, .int ea, .int eo, .ref e3, .ref e4])), (e1, .inl (E.2.1, 81, .inl fo))] s.heap.size = A at hD ⊢
  have hA : ∀ q : Nat, s.heap.size ≤ q → A q := fun q h => by rw [← hAe]; exact Or.inr h
  have hS : va_S A s.heap s.heap [] := va_S.rf
  have hP : va_P E.1 vwCl [(h, .inr (6, [.ref g1, .ref g2, .int ka, .int ko, .ref g3, .ref g4])), (g1, .inl (E.2.1, 81, .inl f)), (h2, .inr (6, [.ref e1, .ref e2, .int ea, .int eo, .ref e3, .ref e4])), (e1, .inl (E.2.1, 81, .inl fo))] s.heap := hP
  have hl := lv_entry ([.ref h, .ref h2]) (n := 2) (Nat.le_of_ble_eq_true rfl)
  rw [lg_entry_eq]
  generalize (lg_sl ([.ref h, .ref h2]) ++ List.replicate (2 - (lg_sl ([.ref h, .ref h2])).length) Slot.unset).toArray = ls at hl ⊢
  have hl : lv_has ls 2 [(0, .ref h), (1, .ref h2)] := hl
  obtain ⟨Q, hQ⟩ : ∃ Q : State → Prop, Q = MQ below (va_Qv (fun (f1 : Nat → Int32) => f1 3 = nI k) (fun (f1 : Nat → Int32) tt => va_P E.1 vwCl [(h, .inr (6, [.ref g1, .ref g2, .int ka, .int ko, .ref g3, .ref g4])), (g1, .inl (E.2.1, 81, .inl f1)), (h2, .inr (6, [.ref e1, .ref e2, .int ea, .int eo, .ref e3, .ref e4])), (e1, .inl (E.2.1, 81, .inl fo))] tt.heap ∧ va_D A [(h, .inr (6, [.ref g1, .ref g2, .int ka, .int ko, .ref g3, .ref g4])), (g1, .inl (E.2.1, 81, .inl f1)), (h2, .inr (6, [.ref e1, .ref e2, .int ea, .int eo, .ref e3, .ref e4])), (e1, .inl (E.2.1, 81, .inl fo))]) A) #[Value.ref h, Value.ref h2] s 0 0 A := ⟨_, rfl⟩
  rw [← hQ]
  change W p l e ({ frames := 1, cells := 0, slots := 0, locals := 60 } : Room) s m #[Value.ref h, Value.ref h2] below meth c s.heap [] 0 0 Q (F0 m 0 ls [])
  refine lv_aload_n hx hb dX5_copyFrom_0 rfl (lv_at hl 1 rfl) ?_
  refine va_get (D := E.1) (ci := 6) (v := .ref e1) (C := RX5) (T := TX5) (N := 6) hx hb hts i_s_copyFrom_X5 hown hK hP 2 rfl rfl 0 (by decide) (hts (.fieldLink RX5 11 "HushWatch$State" "row" "[I") (List.mem_of_getElem? (i := 1) rfl)) (fun _ h9 => h9) rfl dX5_copyFrom_1 ?_
  refine lv_iconst (v := 0) hx hb dX5_copyFrom_4 (by decide) ?_
  refine lv_aload_n hx hb dX5_copyFrom_5 rfl (lv_at hl 0 rfl) ?_
  refine va_get (D := E.1) (ci := 6) (v := .ref g1) (C := RX5) (T := TX5) (N := 6) hx hb hts i_s_copyFrom_X5 hown hK hP 0 rfl rfl 0 (by decide) (hts (.fieldLink RX5 11 "HushWatch$State" "row" "[I") (List.mem_of_getElem? (i := 1) rfl)) (fun _ h9 => h9) rfl dX5_copyFrom_6 ?_
  refine lv_iconst (v := 0) hx hb dX5_copyFrom_9 (by decide) ?_
  refine lv_bipush (v := 81) hx hb dX5_copyFrom_10 (by decide) ?_
  refine va_copyi hx hb (hml.trans hl.1.symm) hown (hts (.methodLink RX5 63 arraycopyName) (List.mem_of_getElem? (i := 2) rfl)) (hts (.native arraycopyName) (List.mem_of_getElem? (i := 3) rfl)) (hts (.static arraycopyName) (List.mem_of_getElem? (i := 4) rfl)) (hts (.initialized "java/lang/System") (List.mem_of_getElem? (i := 5) rfl)) hK hP hD hS 3 1 0 0 rfl rfl rfl rfl rfl (by decide) (by decide) (by decide) (by decide) (by decide) (fun _ _ => rfl) (Nat.le_of_ble_eq_true rfl) (Nat.le_of_ble_eq_true rfl) dX5_copyFrom_12 (fun H locs hP hD hS => ?_)
  have hP : va_P E.1 vwCl [(h, .inr (6, [.ref g1, .ref g2, .int ka, .int ko, .ref g3, .ref g4])), (g1, .inl (E.2.1, 81, .inl (va_cpy fo f (0 : Int32).toNatClampNeg (0 : Int32).toNatClampNeg (81 : Int32).toNatClampNeg))), (h2, .inr (6, [.ref e1, .ref e2, .int ea, .int eo, .ref e3, .ref e4])), (e1, .inl (E.2.1, 81, .inl fo))] H := hP
  have hD : va_D A [(h, .inr (6, [.ref g1, .ref g2, .int ka, .int ko, .ref g3, .ref g4])), (g1, .inl (E.2.1, 81, .inl (va_cpy fo f (0 : Int32).toNatClampNeg (0 : Int32).toNatClampNeg (81 : Int32).toNatClampNeg))), (h2, .inr (6, [.ref e1, .ref e2, .int ea, .int eo, .ref e3, .ref e4])), (e1, .inl (E.2.1, 81, .inl fo))] := hD
  obtain ⟨f_1, hf_1⟩ : ∃ g : Nat → Int32, g = va_cpy fo f (0 : Int32).toNatClampNeg (0 : Int32).toNatClampNeg (81 : Int32).toNatClampNeg := ⟨_, rfl⟩
  rw [← hf_1] at hP hD
  have kf_1_3 : f_1 3 = nI k := by rw [hf_1]; exact (cpy_at (by decide) (by decide) (by decide)).trans hk
  rw [hQ]
  have hP9 := hP.sub (ws' := [(h, .inr (6, [.ref g1, .ref g2, .int ka, .int ko, .ref g3, .ref g4])), (g1, .inl (E.2.1, 81, .inl f_1)), (h2, .inr (6, [.ref e1, .ref e2, .int ea, .int eo, .ref e3, .ref e4])), (e1, .inl (E.2.1, 81, .inl fo))]) [0, 1, 2, 3] rfl
  have hD9 := hD.sub (ws' := [(h, .inr (6, [.ref g1, .ref g2, .int ka, .int ko, .ref g3, .ref g4])), (g1, .inl (E.2.1, 81, .inl f_1)), (h2, .inr (6, [.ref e1, .ref e2, .int ea, .int eo, .ref e3, .ref e4])), (e1, .inl (E.2.1, 81, .inl fo))]) [0, 1, 2, 3] (by decide) rfl
  exact W.vret hx hb hr (fun tt ht hW => ⟨⟨f_1, rfl, kf_1_3, by rw [ht]; exact hP9, hD9⟩, hS.F ht⟩) hS.2.2 dX5_copyFrom_15

def v_s_begin : List Cond := .code yX5_begin cX5_begin 3 none :: ([.fieldLink RX5 11 "HushWatch$State" "row" "[I", .methodLink RX5 39 Lib.Math.min.name, .static Lib.Math.min.name, .initialized "java/lang/Math", .code Lib.Math.min.name Lib.Math.min.code 2 (some .int), .methodLink RX5 45 yX5_sites, .instanceMethod yX5_sites, .selects RX5 yX5_sites yX5_sites, .initialized RX5, .methodLink RX5 52 yX5_put, .instanceMethod yX5_put, .selects RX5 yX5_put yX5_put, .methodLink RX5 56 yX5_hearPlaces, .instanceMethod yX5_hearPlaces, .selects RX5 yX5_hearPlaces yX5_hearPlaces, .methodLink RX5 59 yX5_allows, .instanceMethod yX5_allows, .selects RX5 yX5_allows yX5_allows] ++ (wsX50 ++ (wsX30 ++ (v_s_sites ++ (v_s_put ++ (v_s_hearPlaces ++ (v_s_allows ++ ([]))))))))
theorem gw_s_begin : v_s_begin.all goodWord = true := by decide +kernel
theorem i_s_begin_X5 : ∀ w ∈ wsX50, w ∈ v_s_begin := fun _ h => List.mem_cons_of_mem _ (List.mem_append_right _ (List.mem_append_left _ h))
theorem i_s_begin_X3 : ∀ w ∈ wsX30, w ∈ v_s_begin := fun _ h => List.mem_cons_of_mem _ (List.mem_append_right _ (List.mem_append_right _ (List.mem_append_left _ h)))
theorem g_s_begin_s_sites_45 : GoodIn v_s_begin (wsV RX5 45 RX5 yX5_sites v_s_sites) := goodIn_app (goodIn_of _ (by decide +kernel)) (goodIn_sub (fun _ h => List.mem_cons_of_mem _ (List.mem_append_right _ (List.mem_append_right _ (List.mem_append_right _ (List.mem_append_left _ h))))) gw_s_sites)
theorem g_s_begin_s_put_52 : GoodIn v_s_begin (wsV RX5 52 RX5 yX5_put v_s_put) := goodIn_app (goodIn_of _ (by decide +kernel)) (goodIn_sub (fun _ h => List.mem_cons_of_mem _ (List.mem_append_right _ (List.mem_append_right _ (List.mem_append_right _ (List.mem_append_right _ (List.mem_append_left _ h)))))) gw_s_put)
theorem g_s_begin_s_hearPlaces_56 : GoodIn v_s_begin (wsV RX5 56 RX5 yX5_hearPlaces v_s_hearPlaces) := goodIn_app (goodIn_of _ (by decide +kernel)) (goodIn_sub (fun _ h => List.mem_cons_of_mem _ (List.mem_append_right _ (List.mem_append_right _ (List.mem_append_right _ (List.mem_append_right _ (List.mem_append_right _ (List.mem_append_left _ h))))))) gw_s_hearPlaces)
theorem g_s_begin_s_allows_59 : GoodIn v_s_begin (wsV RX5 59 RX5 yX5_allows v_s_allows) := goodIn_app (goodIn_of _ (by decide +kernel)) (goodIn_sub (fun _ h => List.mem_cons_of_mem _ (List.mem_append_right _ (List.mem_append_right _ (List.mem_append_right _ (List.mem_append_right _ (List.mem_append_right _ (List.mem_append_right _ (List.mem_append_left _ h)))))))) gw_s_allows)
set_option maxHeartbeats 4000000 in
set_option maxRecDepth 100000 in
theorem lp_s_begin_2 {p : Program} (l : Launch) {e : Env} {s : State} {m : MethodId} {below : List Frame} {meth : Method} {c : Code} {Q : State → Prop} (E : EE) {h g1 g2 g3 g4 : Nat} {ka ko : Int32} {f : Nat → Int32} {r t r1 r2 r3 : Nat} {x5 x6 x7 x8 x9 x10 : Int32} {fr fq : Nat → Int32} {c0 : Nat} (hc : c0 ≤ 8) (hx : p.tables.exec = Jvm.exec) (hb : c.code = cX5_begin) (hml : c.maxLocals = 3) (hown : s.vm.findClass RX5 = some m.cls) (hts : ∀ w ∈ v_s_begin, w.before #[Value.ref h, Value.ref r] s = true) (hK : va_K E.1 vwCl (TY E) s) (hN : NX s) {A : Nat → Prop} (hA : ∀ q : Nat, s.heap.size ≤ q → A q) (KX21 : ∀ (i : Nat), ∀ (y1 : Nat → Int32), ∀ (H : Heap) (locs : List Loc) (ls : Array Slot), i ≤ 81 → va_P E.1 vwCl [(h, .inr (6, [.ref g1, .ref g2, .int ka, .int ko, .ref g3, .ref g4])), (g1, .inl (E.2.1, 81, .inl y1)), (r, .inr (4, [.ref t, .ref r1, .ref r2, .ref r3, .int (nI c0), .int x5, .int x6, .int x7, .int x8, .int x9, .int x10])), (r1, .inl (E.2.1, 3, .inl fr)), (r2, .inl (E.2.1, 16, .inl fq))] H → va_D A [(h, .inr (6, [.ref g1, .ref g2, .int ka, .int ko, .ref g3, .ref g4])), (g1, .inl (E.2.1, 81, .inl y1)), (r, .inr (4, [.ref t, .ref r1, .ref r2, .ref r3, .int (nI c0), .int x5, .int x6, .int x7, .int x8, .int x9, .int x10])), (r1, .inl (E.2.1, 3, .inl fr)), (r2, .inl (E.2.1, 16, .inl fq))] → va_S A s.heap H locs → lv_has ls 3 [(0, .ref h), (1, .ref r), (2, .int (nI i))] → W p l e ({ frames := 2, cells := 0, slots := 0, locals := 52 } : Room) s m #[Value.ref h, Value.ref r] below meth c H locs 0 0 Q (F0 m 21 ls [])) : ∀ fuel9 : Nat, ∀ (i : Nat), ∀ (y1 : Nat → Int32), ∀ (H : Heap) (locs : List Loc) (ls : Array Slot), i ≤ 81 → (82 - i) < fuel9 → va_P E.1 vwCl [(h, .inr (6, [.ref g1, .ref g2, .int ka, .int ko, .ref g3, .ref g4])), (g1, .inl (E.2.1, 81, .inl y1)), (r, .inr (4, [.ref t, .ref r1, .ref r2, .ref r3, .int (nI c0), .int x5, .int x6, .int x7, .int x8, .int x9, .int x10])), (r1, .inl (E.2.1, 3, .inl fr)), (r2, .inl (E.2.1, 16, .inl fq))] H → va_D A [(h, .inr (6, [.ref g1, .ref g2, .int ka, .int ko, .ref g3, .ref g4])), (g1, .inl (E.2.1, 81, .inl y1)), (r, .inr (4, [.ref t, .ref r1, .ref r2, .ref r3, .int (nI c0), .int x5, .int x6, .int x7, .int x8, .int x9, .int x10])), (r1, .inl (E.2.1, 3, .inl fr)), (r2, .inl (E.2.1, 16, .inl fq))] → va_S A s.heap H locs → lv_has ls 3 [(0, .ref h), (1, .ref r), (2, .int (nI i))] → W p l e ({ frames := 2, cells := 0, slots := 0, locals := 52 } : Room) s m #[Value.ref h, Value.ref r] below meth c H locs 0 0 Q (F0 m 2 ls []) := by
  intro fuel9
  induction fuel9 with
  | zero =>
    intro i y1 H locs ls hi hms hP hD hS hl
    omega
  | succ fuel9 ih =>
    intro i y1 H locs ls hi hms hP hD hS hl
    refine lv_iload_n hx hb dX5_begin_2 rfl (lv_at hl 2 rfl) ?_
    refine lv_bipush (v := 81) hx hb dX5_begin_3 (by decide) ?_
    refine lv_icmp_ge (tgt := 21) hx hb dX5_begin_5 (by decide) (fun c_1 => ?_) (fun c_1 => ?_)
    ·
      have d_3 : 81 ≤ i := nc_ge (a := i) (b := 81) (by omega) (by omega) c_1
      exact KX21 i y1 H locs ls (by omega) (hP.sub [0, 1, 2, 3, 4] rfl) (hD.sub [0, 1, 2, 3, 4] (by decide) rfl) hS (lv_sub hl [0, 1, 2] rfl)
    ·
      have d_4 : ¬ (81 ≤ i) := nc_ge_n (a := i) (b := 81) (by omega) (by omega) c_1
      refine lv_aload_n hx hb dX5_begin_8 rfl (lv_at hl 0 rfl) ?_
      refine va_get (D := E.1) (ci := 6) (v := .ref g1) (C := RX5) (T := TX5) (N := 6) hx hb hts i_s_begin_X5 hown hK hP 0 rfl rfl 0 (by decide) (hts (.fieldLink RX5 11 "HushWatch$State" "row" "[I") (List.mem_of_getElem? (i := 1) rfl)) (fun _ h9 => h9) rfl dX5_begin_9 ?_
      refine lv_iload_n hx hb dX5_begin_12 rfl (lv_at hl 2 rfl) ?_
      refine lv_iconst (v := 0) hx hb dX5_begin_13 (by decide) ?_
      refine va_iast hx hb hK hP hD hS 1 0 rfl rfl (vp_in_nI (by omega) (by decide)) dX5_begin_14 (fun H locs hP hD hS => ?_)
      have hP : va_P E.1 vwCl [(h, .inr (6, [.ref g1, .ref g2, .int ka, .int ko, .ref g3, .ref g4])), (g1, .inl (E.2.1, 81, .inl (upd y1 (nI i : Int32).toNatClampNeg 0))), (r, .inr (4, [.ref t, .ref r1, .ref r2, .ref r3, .int (nI c0), .int x5, .int x6, .int x7, .int x8, .int x9, .int x10])), (r1, .inl (E.2.1, 3, .inl fr)), (r2, .inl (E.2.1, 16, .inl fq))] H := hP
      have hD : va_D A [(h, .inr (6, [.ref g1, .ref g2, .int ka, .int ko, .ref g3, .ref g4])), (g1, .inl (E.2.1, 81, .inl (upd y1 (nI i : Int32).toNatClampNeg 0))), (r, .inr (4, [.ref t, .ref r1, .ref r2, .ref r3, .int (nI c0), .int x5, .int x6, .int x7, .int x8, .int x9, .int x10])), (r1, .inl (E.2.1, 3, .inl fr)), (r2, .inl (E.2.1, 16, .inl fq))] := hD
      obtain ⟨f_5, hf_5⟩ : ∃ g : Nat → Int32, g = upd y1 (nI i : Int32).toNatClampNeg 0 := ⟨_, rfl⟩
      rw [← hf_5] at hP hD
      refine lv_iinc (v := nI (i + 1)) (lv' := [(2, .int (nI (i + 1))), (0, .ref h), (1, .ref r)]) hx hb dX5_begin_15 hl (k := 2) rfl (show nI (i) + 1 = nI (i + 1) from nI_add _ 1) (by decide) rfl (fun ls hl => ?_)
      refine lv_goto (tgt := 2) hx hb dX5_begin_18 (by decide) ?_
      exact ih (i + 1) f_5 H locs ls (by omega) (by omega) (hP.sub [0, 1, 2, 3, 4] rfl) (hD.sub [0, 1, 2, 3, 4] (by decide) rfl) hS (lv_sub hl [1, 2, 0] rfl)

set_option maxHeartbeats 4000000 in
set_option maxRecDepth 100000 in
theorem lp_s_begin_74 {p : Program} (l : Launch) {e : Env} {s : State} {m : MethodId} {below : List Frame} {meth : Method} {c : Code} {Q : State → Prop} (E : EE) {h g1 g2 g3 g4 : Nat} {ka ko : Int32} {f : Nat → Int32} {r t r1 r2 r3 : Nat} {x5 x6 x7 x8 x9 x10 : Int32} {fr fq : Nat → Int32} {c0 : Nat} (hc : c0 ≤ 8) (hx : p.tables.exec = Jvm.exec) (hb : c.code = cX5_begin) (hml : c.maxLocals = 3) (hown : s.vm.findClass RX5 = some m.cls) (hts : ∀ w ∈ v_s_begin, w.before #[Value.ref h, Value.ref r] s = true) (hK : va_K E.1 vwCl (TY E) s) (hN : NX s) {A : Nat → Prop} (hA : ∀ q : Nat, s.heap.size ≤ q → A q) (KX118 : ∀ (i : Nat), ∀ (y1 : Nat → Int32), ∀ (H : Heap) (locs : List Loc) (ls : Array Slot), i ≤ 8 → y1 3 = nI c0 → va_P E.1 vwCl [(h, .inr (6, [.ref g1, .ref g2, .int ka, .int ko, .ref g3, .ref g4])), (g1, .inl (E.2.1, 81, .inl y1)), (r, .inr (4, [.ref t, .ref r1, .ref r2, .ref r3, .int (nI c0), .int x5, .int x6, .int x7, .int x8, .int x9, .int x10])), (r1, .inl (E.2.1, 3, .inl fr)), (r2, .inl (E.2.1, 16, .inl fq))] H → va_D A [(h, .inr (6, [.ref g1, .ref g2, .int ka, .int ko, .ref g3, .ref g4])), (g1, .inl (E.2.1, 81, .inl y1)), (r, .inr (4, [.ref t, .ref r1, .ref r2, .ref r3, .int (nI c0), .int x5, .int x6, .int x7, .int x8, .int x9, .int x10])), (r1, .inl (E.2.1, 3, .inl fr)), (r2, .inl (E.2.1, 16, .inl fq))] → va_S A s.heap H locs → lv_has ls 3 [(0, .ref h), (1, .ref r), (2, .int (nI i))] → W p l e ({ frames := 2, cells := 0, slots := 0, locals := 52 } : Room) s m #[Value.ref h, Value.ref r] below meth c H locs 0 0 Q (F0 m 118 ls [])) : ∀ fuel9 : Nat, ∀ (i : Nat), ∀ (y1 : Nat → Int32), ∀ (H : Heap) (locs : List Loc) (ls : Array Slot), i ≤ 8 → y1 3 = nI c0 → (9 - i) < fuel9 → va_P E.1 vwCl [(h, .inr (6, [.ref g1, .ref g2, .int ka, .int ko, .ref g3, .ref g4])), (g1, .inl (E.2.1, 81, .inl y1)), (r, .inr (4, [.ref t, .ref r1, .ref r2, .ref r3, .int (nI c0), .int x5, .int x6, .int x7, .int x8, .int x9, .int x10])), (r1, .inl (E.2.1, 3, .inl fr)), (r2, .inl (E.2.1, 16, .inl fq))] H → va_D A [(h, .inr (6, [.ref g1, .ref g2, .int ka, .int ko, .ref g3, .ref g4])), (g1, .inl (E.2.1, 81, .inl y1)), (r, .inr (4, [.ref t, .ref r1, .ref r2, .ref r3, .int (nI c0), .int x5, .int x6, .int x7, .int x8, .int x9, .int x10])), (r1, .inl (E.2.1, 3, .inl fr)), (r2, .inl (E.2.1, 16, .inl fq))] → va_S A s.heap H locs → lv_has ls 3 [(0, .ref h), (1, .ref r), (2, .int (nI i))] → W p l e ({ frames := 2, cells := 0, slots := 0, locals := 52 } : Room) s m #[Value.ref h, Value.ref r] below meth c H locs 0 0 Q (F0 m 74 ls []) := by
  intro fuel9
  induction fuel9 with
  | zero =>
    intro i y1 H locs ls hi ky1_3 hms hP hD hS hl
    omega
  | succ fuel9 ih =>
    intro i y1 H locs ls hi ky1_3 hms hP hD hS hl
    refine lv_iload_n hx hb dX5_begin_74 rfl (lv_at hl 2 rfl) ?_
    refine lv_aload_n hx hb dX5_begin_75 rfl (lv_at hl 0 rfl) ?_
    have hPc := hP.sub (ws' := [(h, .inr (6, [.ref g1, .ref g2, .int ka, .int ko, .ref g3, .ref g4])), (g1, .inl (E.2.1, 81, .inl y1))]) [0, 1] rfl
    refine pc_i (va_runV (As := []) (rest := [.int (nI i)]) ⟨hx, hb, hml, hown, hts⟩ (s_sites l E h g1 g2 g3 g4 c0 ka ko y1 ky1_3 (by omega)) (cwV 0 hts g_s_begin_s_sites_45 rfl rfl rfl (by decide +kernel) ⟨Nat.le_of_ble_eq_true rfl, Nat.le_of_ble_eq_true rfl⟩) ⟨pP.blind, va_recv hK hPc (ci := 6) (q0 := 0) rfl rfl, (pP.pre ⟨hK, hN⟩ hPc)⟩ rfl rfl hl.1 rfl (lv_room (Nat.le_of_ble_eq_true rfl)) dX5_begin_76 ⟨Nat.le_of_ble_eq_true rfl, Nat.le_of_ble_eq_true rfl⟩) (fun r_14 hr_14 => ?_)
    obtain rfl : r_14 = nI c0 := hr_14
    refine lv_icmp_ge (tgt := 118) hx hb dX5_begin_79 (by decide) (fun c_15 => ?_) (fun c_15 => ?_)
    ·
      have d_27 : c0 ≤ i := nc_ge (a := i) (b := c0) (by omega) (by omega) c_15
      exact KX118 i y1 H locs ls (by omega) ky1_3 (hP.sub [0, 1, 2, 3, 4] rfl) (hD.sub [0, 1, 2, 3, 4] (by decide) rfl) hS (lv_sub hl [0, 1, 2] rfl)
    ·
      have d_28 : ¬ (c0 ≤ i) := nc_ge_n (a := i) (b := c0) (by omega) (by omega) c_15
      refine lv_aload_n hx hb dX5_begin_82 rfl (lv_at hl 0 rfl) ?_
      refine lv_iload_n hx hb dX5_begin_83 rfl (lv_at hl 2 rfl) ?_
      refine lv_iconst (v := 0) hx hb dX5_begin_84 (by decide) ?_
      refine lv_aload_n hx hb dX5_begin_85 rfl (lv_at hl 1 rfl) ?_
      refine va_getN (D := E.1) (ci := 4) (v := .ref r2) (C := RX3) (T := TX3) (N := 11) hx hb hts i_s_begin_X3 hown hK hP 2 rfl rfl 2 (by decide) (nx hN 4 rfl) (fun _ h9 => h9) rfl dX5_begin_86 ?_
      refine lv_iconst (v := 2) hx hb dX5_begin_89 (by decide) ?_
      refine lv_iload_n hx hb dX5_begin_90 rfl (lv_at hl 2 rfl) ?_
      refine lv_imul hx hb dX5_begin_91 ?_
      refine lv_topi (fun z_29 ez_29 => ?_)
      obtain rfl : z_29 = nI (2 * i) := ez_29.trans (nI_mul 2 _)
      refine va_iald hx hb hK hP 4 0 rfl rfl (vp_in_nI (by omega) (by decide)) dX5_begin_92 ?_
      refine lv_topi (fun z_30 ez_30 => ?_)
      have hPc := hP.sub (ws' := [(h, .inr (6, [.ref g1, .ref g2, .int ka, .int ko, .ref g3, .ref g4])), (g1, .inl (E.2.1, 81, .inl y1))]) [0, 1] rfl
      have hDc := hD.sub (ws' := [(h, .inr (6, [.ref g1, .ref g2, .int ka, .int ko, .ref g3, .ref g4])), (g1, .inl (E.2.1, 81, .inl y1))]) [0, 1] (by decide) rfl
      have hFc := va_free (wc := [(h, .inr (6, [.ref g1, .ref g2, .int ka, .int ko, .ref g3, .ref g4])), (g1, .inl (E.2.1, 81, .inl y1))]) hD hS hA [0, 1] rfl
      refine va_callv (va_runV (As := [.int (nI i), .int 0, .int z_30]) (rest := []) ⟨hx, hb, hml, hown, hts⟩ (s_put l E H.size h g1 g2 g3 g4 c0 ka ko y1 (nI i) 0 z_30 ky1_3 (by omega)) (cwV 3 hts g_s_begin_s_put_52 rfl rfl rfl (by decide +kernel) ⟨Nat.le_of_ble_eq_true rfl, Nat.le_of_ble_eq_true rfl⟩) ⟨pW.blind, va_recv hK hPc (ci := 6) (q0 := 0) rfl rfl, (pW.pre ⟨hK, hN⟩ hPc hDc)⟩ rfl rfl hl.1 rfl (lv_room (Nat.le_of_ble_eq_true rfl)) dX5_begin_93 ⟨Nat.le_of_ble_eq_true rfl, Nat.le_of_ble_eq_true rfl⟩) hS (fun q _ h => hFc q h) hFc (fun  u_31 tt H1 locs ht hvm hw hB hz1 hk1 hS => ?_)
      obtain ⟨hP1, hD1⟩ := hB
      rw [ht] at hP1
      obtain ⟨hP, hD⟩ := va_join (wr := [(r, .inr (4, [.ref t, .ref r1, .ref r2, .ref r3, .int (nI c0), .int x5, .int x6, .int x7, .int x8, .int x9, .int x10])), (r1, .inl (E.2.1, 3, .inl fr)), (r2, .inl (E.2.1, 16, .inl fq))]) (w1 := [(h, .inr (6, [.ref g1, .ref g2, .int ka, .int ko, .ref g3, .ref g4])), (g1, .inl (E.2.1, 81, .inl u_31))]) hP hD [0, 1] [2, 3, 4] rfl rfl (by decide) (by decide) hk1 hFc hP1 hD1
      generalize H1 = H at hP hS ⊢
      have hP : va_P E.1 vwCl [(r, .inr (4, [.ref t, .ref r1, .ref r2, .ref r3, .int (nI c0), .int x5, .int x6, .int x7, .int x8, .int x9, .int x10])), (r1, .inl (E.2.1, 3, .inl fr)), (r2, .inl (E.2.1, 16, .inl fq)), (h, .inr (6, [.ref g1, .ref g2, .int ka, .int ko, .ref g3, .ref g4])), (g1, .inl (E.2.1, 81, .inl u_31))] H := hP
      have hD : va_D A [(r, .inr (4, [.ref t, .ref r1, .ref r2, .ref r3, .int (nI c0), .int x5, .int x6, .int x7, .int x8, .int x9, .int x10])), (r1, .inl (E.2.1, 3, .inl fr)), (r2, .inl (E.2.1, 16, .inl fq)), (h, .inr (6, [.ref g1, .ref g2, .int ka, .int ko, .ref g3, .ref g4])), (g1, .inl (E.2.1, 81, .inl u_31))] := hD
      have hsw_32 := hw
      have kk_33 := hsw_32
      refine lv_aload_n hx hb dX5_begin_96 rfl (lv_at hl 0 rfl) ?_
      refine lv_iload_n hx hb dX5_begin_97 rfl (lv_at hl 2 rfl) ?_
      refine lv_iconst (v := 1) hx hb dX5_begin_98 (by decide) ?_
      refine lv_aload_n hx hb dX5_begin_99 rfl (lv_at hl 1 rfl) ?_
      refine va_getN (D := E.1) (ci := 4) (v := .ref r2) (C := RX3) (T := TX3) (N := 11) hx hb hts i_s_begin_X3 hown hK hP 0 rfl rfl 2 (by decide) (nx hN 4 rfl) (fun _ h9 => h9) rfl dX5_begin_100 ?_
      refine lv_iconst (v := 2) hx hb dX5_begin_103 (by decide) ?_
      refine lv_iload_n hx hb dX5_begin_104 rfl (lv_at hl 2 rfl) ?_
      refine lv_imul hx hb dX5_begin_105 ?_
      refine lv_topi (fun z_34 ez_34 => ?_)
      obtain rfl : z_34 = nI (2 * i) := ez_34.trans (nI_mul 2 _)
      refine lv_iconst (v := 1) hx hb dX5_begin_106 (by decide) ?_
      refine lv_iadd hx hb dX5_begin_107 ?_
      refine lv_topi (fun z_35 ez_35 => ?_)
      obtain rfl : z_35 = nI (2 * i + 1) := ez_35.trans (nI_add _ 1)
      refine va_iald hx hb hK hP 2 0 rfl rfl (vp_in_nI (by omega) (by decide)) dX5_begin_108 ?_
      refine lv_topi (fun z_36 ez_36 => ?_)
      have hPc := hP.sub (ws' := [(h, .inr (6, [.ref g1, .ref g2, .int ka, .int ko, .ref g3, .ref g4])), (g1, .inl (E.2.1, 81, .inl u_31))]) [3, 4] rfl
      have hDc := hD.sub (ws' := [(h, .inr (6, [.ref g1, .ref g2, .int ka, .int ko, .ref g3, .ref g4])), (g1, .inl (E.2.1, 81, .inl u_31))]) [3, 4] (by decide) rfl
      have hFc := va_free (wc := [(h, .inr (6, [.ref g1, .ref g2, .int ka, .int ko, .ref g3, .ref g4])), (g1, .inl (E.2.1, 81, .inl u_31))]) hD hS hA [3, 4] rfl
      refine va_callv (va_runV (As := [.int (nI i), .int 1, .int z_36]) (rest := []) ⟨hx, hb, hml, hown, hts⟩ (s_put l E H.size h g1 g2 g3 g4 c0 ka ko u_31 (nI i) 1 z_36 kk_33 (by omega)) (cwV 3 hts g_s_begin_s_put_52 rfl rfl rfl (by decide +kernel) ⟨Nat.le_of_ble_eq_true rfl, Nat.le_of_ble_eq_true rfl⟩) ⟨pW.blind, va_recv hK hPc (ci := 6) (q0 := 0) rfl rfl, (pW.pre ⟨hK, hN⟩ hPc hDc)⟩ rfl rfl hl.1 rfl (lv_room (Nat.le_of_ble_eq_true rfl)) dX5_begin_109 ⟨Nat.le_of_ble_eq_true rfl, Nat.le_of_ble_eq_true rfl⟩) hS (fun q _ h => hFc q h) hFc (fun  u_37 tt H1 locs ht hvm hw hB hz1 hk1 hS => ?_)
      obtain ⟨hP1, hD1⟩ := hB
      rw [ht] at hP1
      obtain ⟨hP, hD⟩ := va_join (wr := [(r, .inr (4, [.ref t, .ref r1, .ref r2, .ref r3, .int (nI c0), .int x5, .int x6, .int x7, .int x8, .int x9, .int x10])), (r1, .inl (E.2.1, 3, .inl fr)), (r2, .inl (E.2.1, 16, .inl fq))]) (w1 := [(h, .inr (6, [.ref g1, .ref g2, .int ka, .int ko, .ref g3, .ref g4])), (g1, .inl (E.2.1, 81, .inl u_37))]) hP hD [3, 4] [0, 1, 2] rfl rfl (by decide) (by decide) hk1 hFc hP1 hD1
      generalize H1 = H at hP hS ⊢
      have hP : va_P E.1 vwCl [(r, .inr (4, [.ref t, .ref r1, .ref r2, .ref r3, .int (nI c0), .int x5, .int x6, .int x7, .int x8, .int x9, .int x10])), (r1, .inl (E.2.1, 3, .inl fr)), (r2, .inl (E.2.1, 16, .inl fq)), (h, .inr (6, [.ref g1, .ref g2, .int ka, .int ko, .ref g3, .ref g4])), (g1, .inl (E.2.1, 81, .inl u_37))] H := hP
      have hD : va_D A [(r, .inr (4, [.ref t, .ref r1, .ref r2, .ref r3, .int (nI c0), .int x5, .int x6, .int x7, .int x8, .int x9, .int x10])), (r1, .inl (E.2.1, 3, .inl fr)), (r2, .inl (E.2.1, 16, .inl fq)), (h, .inr (6, [.ref g1, .ref g2, .int ka, .int ko, .ref g3, .ref g4])), (g1, .inl (E.2.1, 81, .inl u_37))] := hD
      have hsw_38 := hw
      have kk_39 := hsw_38
      refine lv_iinc (v := nI (i + 1)) (lv' := [(2, .int (nI (i + 1))), (0, .ref h), (1, .ref r)]) hx hb dX5_begin_112 hl (k := 2) rfl (show nI (i) + 1 = nI (i + 1) from nI_add _ 1) (by decide) rfl (fun ls hl => ?_)
      refine lv_goto (tgt := 74) hx hb dX5_begin_115 (by decide) ?_
      exact ih (i + 1) u_37 H locs ls (by omega) kk_39 (by omega) (hP.sub [3, 4, 0, 1, 2] rfl) (hD.sub [3, 4, 0, 1, 2] (by decide) rfl) hS (lv_sub hl [1, 2, 0] rfl)

set_option maxHeartbeats 4000000 in
set_option maxRecDepth 100000 in
theorem s_begin (l : Launch) (E : EE) (sz : Nat) (h g1 g2 g3 g4 : Nat) (ka ko : Int32) (f : Nat → Int32) (r t r1 r2 r3 : Nat) (x5 x6 x7 x8 x9 x10 : Int32) (fr fq : Nat → Int32) (c0 : Nat) (hc : c0 ≤ 8) : Met l yX5_begin v_s_begin ({ frames := 2, cells := 0, slots := 0, locals := 52 }) (va_Pc [.ref h, .ref r] (pW E sz [(h, .inr (6, [.ref g1, .ref g2, .int ka, .int ko, .ref g3, .ref g4])), (g1, .inl (E.2.1, 81, .inl f)), (r, .inr (4, [.ref t, .ref r1, .ref r2, .ref r3, .int (nI c0), .int x5, .int x6, .int x7, .int x8, .int x9, .int x10])), (r1, .inl (E.2.1, 3, .inl fr)), (r2, .inl (E.2.1, 16, .inl fq))])) (va_Qv (fun (f1 : Nat → Int32) => f1 3 = nI c0) (fun (f1 : Nat → Int32) tt => va_P E.1 vwCl [(h, .inr (6, [.ref g1, .ref g2, .int ka, .int ko, .ref g3, .ref g4])), (g1, .inl (E.2.1, 81, .inl f1)), (r, .inr (4, [.ref t, .ref r1, .ref r2, .ref r3, .int (nI c0), .int x5, .int x6, .int x7, .int x8, .int x9, .int x10])), (r1, .inl (E.2.1, 3, .inl fr)), (r2, .inl (E.2.1, 16, .inl fq))] tt.heap ∧ va_D (va_A [(h, .inr (6, [.ref g1, .ref g2, .int ka, .int ko, .ref g3, .ref g4])), (g1, .inl (E.2.1, 81, .inl f)), (r, .inr (4, [.ref t, .ref r1, .ref r2, .ref r3, .int (nI c0), .int x5, .int x6, .int x7, .int x8, .int x9, .int x10])), (r1, .inl (E.2.1, 3, .inl fr)), (r2, .inl (E.2.1, 16, .inl fq))] sz) [(h, .inr (6, [.ref g1, .ref g2, .int ka, .int ko, .ref g3, .ref g4])), (g1, .inl (E.2.1, 81, .inl f1)), (r, .inr (4, [.ref t, .ref r1, .ref r2, .ref r3, .int (nI c0), .int x5, .int x6, .int x7, .int x8, .int x9, .int x10])), (r1, .inl (E.2.1, 3, .inl fr)), (r2, .inl (E.2.1, 16, .inl fq))]) (va_A [(h, .inr (6, [.ref g1, .ref g2, .int ka, .int ko, .ref g3, .ref g4])), (g1, .inl (E.2.1, 81, .inl f)), (r, .inr (4, [.ref t, .ref r1, .ref r2, .ref r3, .int (nI c0), .int x5, .int x6, .int x7, .int x8, .int x9, .int x10])), (r1, .inl (E.2.1, 3, .inl fr)), (r2, .inl (E.2.1, 16, .inl fq))] sz)) 0 0 (va_A [(h, .inr (6, [.ref g1, .ref g2, .int ka, .int ko, .ref g3, .ref g4])), (g1, .inl (E.2.1, 81, .inl f)), (r, .inr (4, [.ref t, .ref r1, .ref r2, .ref r3, .int (nI c0), .int x5, .int x6, .int x7, .int x8, .int x9, .int x10])), (r1, .inl (E.2.1, 3, .inl fr)), (r2, .inl (E.2.1, 16, .inl fq))] sz) := by
  refine Met.ofW (cc := cX5_begin) (maxL := 3) (ret := none) (by decide) rfl ?_
  intro p e s m args below meth c s₁ B hml hv
  obtain ⟨rfl, hsz, ⟨hK, hN⟩, hP, hD0⟩ := hv
  have hx := B.exec
  have hb := B.bytes
  have hr := B.returns
  have hts := atoms_spec (ws := v_s_begin) B.pre
  have hown : s.vm.findClass RX5 = some m.cls := findClass_of_methodNamed B.named
  have hlocks := B.notSynchronized
  subst hsz
  have hD := hD0.self (sz := s.heap.size)
  generalize hAe : va_A [(h, .inr (6, [.ref g1, .ref g2, .int ka, .int ko, .ref g3, .ref g4])), (g1, .inl (E.2.1, 81, .inl f)), (r, .inr (4, [.ref t, .ref r1, .ref r2, .ref r3, .int (nI c0), .int x5, .int x6, .int x7, .int x8, .int x9, .int x10])), (r1, .inl (E.2.1, 3, .inl fr)), (r2, .inl (E.2.1, 16, .inl fq))] s.heap.size = A at hD ⊢
  have hA : ∀ q : Nat, s.heap.size ≤ q → A q := fun q h => by rw [← hAe]; exact Or.inr h
  have hS : va_S A s.heap s.heap [] := va_S.rf
  have hP : va_P E.1 vwCl [(h, .inr (6, [.ref g1, .ref g2, .int ka, .int ko, .ref g3, .ref g4])), (g1, .inl (E.2.1, 81, .inl f)), (r, .inr (4, [.ref t, .ref r1, .ref r2, .ref r3, .int (nI c0), .int x5, .int x6, .int x7, .int x8, .int x9, .int x10])), (r1, .inl (E.2.1, 3, .inl fr)), (r2, .inl (E.2.1, 16, .inl fq))] s.heap := hP
  have hl := lv_entry ([.ref h, .ref r]) (n := 3) (Nat.le_of_ble_eq_true rfl)
  rw [lg_entry_eq]
  generalize (lg_sl ([.ref h, .ref r]) ++ List.replicate (3 - (lg_sl ([.ref h, .ref r])).length) Slot.unset).toArray = ls at hl ⊢
  have hl : lv_has ls 3 [(0, .ref h), (1, .ref r)] := hl
  obtain ⟨Q, hQ⟩ : ∃ Q : State → Prop, Q = MQ below (va_Qv (fun (f1 : Nat → Int32) => f1 3 = nI c0) (fun (f1 : Nat → Int32) tt => va_P E.1 vwCl [(h, .inr (6, [.ref g1, .ref g2, .int ka, .int ko, .ref g3, .ref g4])), (g1, .inl (E.2.1, 81, .inl f1)), (r, .inr (4, [.ref t, .ref r1, .ref r2, .ref r3, .int (nI c0), .int x5, .int x6, .int x7, .int x8, .int x9, .int x10])), (r1, .inl (E.2.1, 3, .inl fr)), (r2, .inl (E.2.1, 16, .inl fq))] tt.heap ∧ va_D A [(h, .inr (6, [.ref g1, .ref g2, .int ka, .int ko, .ref g3, .ref g4])), (g1, .inl (E.2.1, 81, .inl f1)), (r, .inr (4, [.ref t, .ref r1, .ref r2, .ref r3, .int (nI c0), .int x5, .int x6, .int x7, .int x8, .int x9, .int x10])), (r1, .inl (E.2.1, 3, .inl fr)), (r2, .inl (E.2.1, 16, .inl fq))]) A) #[Value.ref h, Value.ref r] s 0 0 A := ⟨_, rfl⟩
  rw [← hQ]
  change W p l e ({ frames := 2, cells := 0, slots := 0, locals := 52 } : Room) s m #[Value.ref h, Value.ref r] below meth c s.heap [] 0 0 Q (F0 m 0 ls [])
  refine lv_iconst (v := 0) hx hb dX5_begin_0 (by decide) ?_
  refine lv_istore_n (lv' := [(2, .int 0), (0, .ref h), (1, .ref r)]) hx hb dX5_begin_1 rfl hl (by decide) rfl (fun ls hl => ?_)
  refine lp_s_begin_2 (h := h) (g1 := g1) (g2 := g2) (g3 := g3) (g4 := g4) (ka := ka) (ko := ko) (f := f) (r := r) (t := t) (r1 := r1) (r2 := r2) (r3 := r3) (x5 := x5) (x6 := x6) (x7 := x7) (x8 := x8) (x9 := x9) (x10 := x10) (fr := fr) (fq := fq) (c0 := c0) l E hc hx hb hml hown hts hK hN hA ?_ (83) 0 f s.heap [] ls (by omega) (by omega) (hP.sub [0, 1, 2, 3, 4] rfl) (hD.sub [0, 1, 2, 3, 4] (by decide) rfl) hS (lv_sub hl [1, 2, 0] rfl)
  ·
    intro i y1 H locs ls hi hP hD hS hl
    refine lv_aload_n hx hb dX5_begin_21 rfl (lv_at hl 0 rfl) ?_
    refine va_get (D := E.1) (ci := 6) (v := .ref g1) (C := RX5) (T := TX5) (N := 6) hx hb hts i_s_begin_X5 hown hK hP 0 rfl rfl 0 (by decide) (hts (.fieldLink RX5 11 "HushWatch$State" "row" "[I") (List.mem_of_getElem? (i := 1) rfl)) (fun _ h9 => h9) rfl dX5_begin_22 ?_
    refine lv_iconst (v := 0) hx hb dX5_begin_25 (by decide) ?_
    refine lv_aload_n hx hb dX5_begin_26 rfl (lv_at hl 1 rfl) ?_
    refine va_getN (D := E.1) (ci := 4) (v := .ref r1) (C := RX3) (T := TX3) (N := 11) hx hb hts i_s_begin_X3 hown hK hP 2 rfl rfl 1 (by decide) (nx hN 3 rfl) (fun _ h9 => h9) rfl dX5_begin_27 ?_
    refine lv_iconst (v := 0) hx hb dX5_begin_30 (by decide) ?_
    refine va_iald hx hb hK hP 3 0 rfl rfl (vin rfl) dX5_begin_31 ?_
    refine W.eq (g2 := F0 m 32 ls [.int (fr 0), .int 0, .ref g1]) rfl ?_
    refine lv_topi (fun z_6 ez_6 => ?_)
    refine va_iast hx hb hK hP hD hS 1 0 rfl rfl (vin rfl) dX5_begin_32 (fun H locs hP hD hS => ?_)
    have hP : va_P E.1 vwCl [(h, .inr (6, [.ref g1, .ref g2, .int ka, .int ko, .ref g3, .ref g4])), (g1, .inl (E.2.1, 81, .inl (upd y1 (0 : Int32).toNatClampNeg z_6))), (r, .inr (4, [.ref t, .ref r1, .ref r2, .ref r3, .int (nI c0), .int x5, .int x6, .int x7, .int x8, .int x9, .int x10])), (r1, .inl (E.2.1, 3, .inl fr)), (r2, .inl (E.2.1, 16, .inl fq))] H := hP
    have hD : va_D A [(h, .inr (6, [.ref g1, .ref g2, .int ka, .int ko, .ref g3, .ref g4])), (g1, .inl (E.2.1, 81, .inl (upd y1 (0 : Int32).toNatClampNeg z_6))), (r, .inr (4, [.ref t, .ref r1, .ref r2, .ref r3, .int (nI c0), .int x5, .int x6, .int x7, .int x8, .int x9, .int x10])), (r1, .inl (E.2.1, 3, .inl fr)), (r2, .inl (E.2.1, 16, .inl fq))] := hD
    obtain ⟨f_7, hf_7⟩ : ∃ g : Nat → Int32, g = upd y1 (0 : Int32).toNatClampNeg z_6 := ⟨_, rfl⟩
    rw [← hf_7] at hP hD
    refine lv_aload_n hx hb dX5_begin_33 rfl (lv_at hl 0 rfl) ?_
    refine va_get (D := E.1) (ci := 6) (v := .ref g1) (C := RX5) (T := TX5) (N := 6) hx hb hts i_s_begin_X5 hown hK hP 0 rfl rfl 0 (by decide) (hts (.fieldLink RX5 11 "HushWatch$State" "row" "[I") (List.mem_of_getElem? (i := 1) rfl)) (fun _ h9 => h9) rfl dX5_begin_34 ?_
    refine lv_iconst (v := 1) hx hb dX5_begin_37 (by decide) ?_
    refine lv_aload_n hx hb dX5_begin_38 rfl (lv_at hl 1 rfl) ?_
    refine va_getN (D := E.1) (ci := 4) (v := .ref r1) (C := RX3) (T := TX3) (N := 11) hx hb hts i_s_begin_X3 hown hK hP 2 rfl rfl 1 (by decide) (nx hN 3 rfl) (fun _ h9 => h9) rfl dX5_begin_39 ?_
    refine lv_iconst (v := 1) hx hb dX5_begin_42 (by decide) ?_
    refine va_iald hx hb hK hP 3 0 rfl rfl (vin rfl) dX5_begin_43 ?_
    refine W.eq (g2 := F0 m 44 ls [.int (fr 1), .int 1, .ref g1]) rfl ?_
    refine lv_topi (fun z_8 ez_8 => ?_)
    refine va_iast hx hb hK hP hD hS 1 0 rfl rfl (vin rfl) dX5_begin_44 (fun H locs hP hD hS => ?_)
    have hP : va_P E.1 vwCl [(h, .inr (6, [.ref g1, .ref g2, .int ka, .int ko, .ref g3, .ref g4])), (g1, .inl (E.2.1, 81, .inl (upd f_7 (1 : Int32).toNatClampNeg z_8))), (r, .inr (4, [.ref t, .ref r1, .ref r2, .ref r3, .int (nI c0), .int x5, .int x6, .int x7, .int x8, .int x9, .int x10])), (r1, .inl (E.2.1, 3, .inl fr)), (r2, .inl (E.2.1, 16, .inl fq))] H := hP
    have hD : va_D A [(h, .inr (6, [.ref g1, .ref g2, .int ka, .int ko, .ref g3, .ref g4])), (g1, .inl (E.2.1, 81, .inl (upd f_7 (1 : Int32).toNatClampNeg z_8))), (r, .inr (4, [.ref t, .ref r1, .ref r2, .ref r3, .int (nI c0), .int x5, .int x6, .int x7, .int x8, .int x9, .int x10])), (r1, .inl (E.2.1, 3, .inl fr)), (r2, .inl (E.2.1, 16, .inl fq))] := hD
    obtain ⟨f_9, hf_9⟩ : ∃ g : Nat → Int32, g = upd f_7 (1 : Int32).toNatClampNeg z_8 := ⟨_, rfl⟩
    rw [← hf_9] at hP hD
    refine lv_aload_n hx hb dX5_begin_45 rfl (lv_at hl 0 rfl) ?_
    refine va_get (D := E.1) (ci := 6) (v := .ref g1) (C := RX5) (T := TX5) (N := 6) hx hb hts i_s_begin_X5 hown hK hP 0 rfl rfl 0 (by decide) (hts (.fieldLink RX5 11 "HushWatch$State" "row" "[I") (List.mem_of_getElem? (i := 1) rfl)) (fun _ h9 => h9) rfl dX5_begin_46 ?_
    refine lv_iconst (v := 2) hx hb dX5_begin_49 (by decide) ?_
    refine lv_aload_n hx hb dX5_begin_50 rfl (lv_at hl 1 rfl) ?_
    refine va_getN (D := E.1) (ci := 4) (v := .ref r1) (C := RX3) (T := TX3) (N := 11) hx hb hts i_s_begin_X3 hown hK hP 2 rfl rfl 1 (by decide) (nx hN 3 rfl) (fun _ h9 => h9) rfl dX5_begin_51 ?_
    refine lv_iconst (v := 2) hx hb dX5_begin_54 (by decide) ?_
    refine va_iald hx hb hK hP 3 0 rfl rfl (vin rfl) dX5_begin_55 ?_
    refine W.eq (g2 := F0 m 56 ls [.int (fr 2), .int 2, .ref g1]) rfl ?_
    refine lv_topi (fun z_10 ez_10 => ?_)
    refine va_iast hx hb hK hP hD hS 1 0 rfl rfl (vin rfl) dX5_begin_56 (fun H locs hP hD hS => ?_)
    have hP : va_P E.1 vwCl [(h, .inr (6, [.ref g1, .ref g2, .int ka, .int ko, .ref g3, .ref g4])), (g1, .inl (E.2.1, 81, .inl (upd f_9 (2 : Int32).toNatClampNeg z_10))), (r, .inr (4, [.ref t, .ref r1, .ref r2, .ref r3, .int (nI c0), .int x5, .int x6, .int x7, .int x8, .int x9, .int x10])), (r1, .inl (E.2.1, 3, .inl fr)), (r2, .inl (E.2.1, 16, .inl fq))] H := hP
    have hD : va_D A [(h, .inr (6, [.ref g1, .ref g2, .int ka, .int ko, .ref g3, .ref g4])), (g1, .inl (E.2.1, 81, .inl (upd f_9 (2 : Int32).toNatClampNeg z_10))), (r, .inr (4, [.ref t, .ref r1, .ref r2, .ref r3, .int (nI c0), .int x5, .int x6, .int x7, .int x8, .int x9, .int x10])), (r1, .inl (E.2.1, 3, .inl fr)), (r2, .inl (E.2.1, 16, .inl fq))] := hD
    obtain ⟨f_11, hf_11⟩ : ∃ g : Nat → Int32, g = upd f_9 (2 : Int32).toNatClampNeg z_10 := ⟨_, rfl⟩
    rw [← hf_11] at hP hD
    refine lv_aload_n hx hb dX5_begin_57 rfl (lv_at hl 0 rfl) ?_
    refine va_get (D := E.1) (ci := 6) (v := .ref g1) (C := RX5) (T := TX5) (N := 6) hx hb hts i_s_begin_X5 hown hK hP 0 rfl rfl 0 (by decide) (hts (.fieldLink RX5 11 "HushWatch$State" "row" "[I") (List.mem_of_getElem? (i := 1) rfl)) (fun _ h9 => h9) rfl dX5_begin_58 ?_
    refine lv_iconst (v := 3) hx hb dX5_begin_61 (by decide) ?_
    refine lv_aload_n hx hb dX5_begin_62 rfl (lv_at hl 1 rfl) ?_
    refine va_getN (D := E.1) (ci := 4) (v := .int (nI c0)) (C := RX3) (T := TX3) (N := 11) hx hb hts i_s_begin_X3 hown hK hP 2 rfl rfl 4 (by decide) (nx hN 6 rfl) (fun _ h9 => h9) rfl dX5_begin_63 ?_
    refine lv_bipush (v := 8) hx hb dX5_begin_66 (by decide) ?_
    refine va_mmin hx hb (hml.trans hl.1.symm) hown (hts (.methodLink RX5 39 Lib.Math.min.name) (List.mem_of_getElem? (i := 2) rfl)) (hts (.static Lib.Math.min.name) (List.mem_of_getElem? (i := 3) rfl)) (hts (.initialized "java/lang/Math") (List.mem_of_getElem? (i := 4) rfl)) (hts (.code Lib.Math.min.name Lib.Math.min.code 2 (some .int)) (List.mem_of_getElem? (i := 5) rfl)) (Nat.le_of_ble_eq_true rfl) (Nat.le_of_ble_eq_true rfl) (Nat.le_of_ble_eq_true rfl) (Nat.le_of_ble_eq_true rfl) dX5_begin_68 ?_
    refine lv_topi (fun z_12 ez_12 => ?_)
    obtain rfl : z_12 = nI c0 := ez_12.trans (nmin_l (a := c0) (b := 8) (by omega) (by omega))
    refine va_iast hx hb hK hP hD hS 1 0 rfl rfl (vin rfl) dX5_begin_71 (fun H locs hP hD hS => ?_)
    have hP : va_P E.1 vwCl [(h, .inr (6, [.ref g1, .ref g2, .int ka, .int ko, .ref g3, .ref g4])), (g1, .inl (E.2.1, 81, .inl (upd f_11 (3 : Int32).toNatClampNeg (nI c0)))), (r, .inr (4, [.ref t, .ref r1, .ref r2, .ref r3, .int (nI c0), .int x5, .int x6, .int x7, .int x8, .int x9, .int x10])), (r1, .inl (E.2.1, 3, .inl fr)), (r2, .inl (E.2.1, 16, .inl fq))] H := hP
    have hD : va_D A [(h, .inr (6, [.ref g1, .ref g2, .int ka, .int ko, .ref g3, .ref g4])), (g1, .inl (E.2.1, 81, .inl (upd f_11 (3 : Int32).toNatClampNeg (nI c0)))), (r, .inr (4, [.ref t, .ref r1, .ref r2, .ref r3, .int (nI c0), .int x5, .int x6, .int x7, .int x8, .int x9, .int x10])), (r1, .inl (E.2.1, 3, .inl fr)), (r2, .inl (E.2.1, 16, .inl fq))] := hD
    obtain ⟨f_13, hf_13⟩ : ∃ g : Nat → Int32, g = upd f_11 (3 : Int32).toNatClampNeg (nI c0) := ⟨_, rfl⟩
    rw [← hf_13] at hP hD
    have kf_13_3 : f_13 3 = nI c0 := by rw [hf_13]; unfold upd; exact if_pos (by decide)
    refine lv_iconst (v := 0) hx hb dX5_begin_72 (by decide) ?_
    refine lv_istore_n (lv' := [(2, .int 0), (0, .ref h), (1, .ref r)]) hx hb dX5_begin_73 rfl hl (by decide) rfl (fun ls hl => ?_)
    refine lp_s_begin_74 (h := h) (g1 := g1) (g2 := g2) (g3 := g3) (g4 := g4) (ka := ka) (ko := ko) (f := f) (r := r) (t := t) (r1 := r1) (r2 := r2) (r3 := r3) (x5 := x5) (x6 := x6) (x7 := x7) (x8 := x8) (x9 := x9) (x10 := x10) (fr := fr) (fq := fq) (c0 := c0) l E hc hx hb hml hown hts hK hN hA ?_ (10) 0 f_13 H locs ls (by omega) kf_13_3 (by omega) (hP.sub [0, 1, 2, 3, 4] rfl) (hD.sub [0, 1, 2, 3, 4] (by decide) rfl) hS (lv_sub hl [1, 2, 0] rfl)
    ·
      intro i y1 H locs ls hi ky1_3 hP hD hS hl
      refine lv_aload_n hx hb dX5_begin_118 rfl (lv_at hl 0 rfl) ?_
      have hPc := hP.sub (ws' := [(h, .inr (6, [.ref g1, .ref g2, .int ka, .int ko, .ref g3, .ref g4])), (g1, .inl (E.2.1, 81, .inl y1))]) [0, 1] rfl
      have hDc := hD.sub (ws' := [(h, .inr (6, [.ref g1, .ref g2, .int ka, .int ko, .ref g3, .ref g4])), (g1, .inl (E.2.1, 81, .inl y1))]) [0, 1] (by decide) rfl
      have hFc := va_free (wc := [(h, .inr (6, [.ref g1, .ref g2, .int ka, .int ko, .ref g3, .ref g4])), (g1, .inl (E.2.1, 81, .inl y1))]) hD hS hA [0, 1] rfl
      refine va_callv (va_runV (As := []) (rest := []) ⟨hx, hb, hml, hown, hts⟩ (s_hearPlaces l E H.size h g1 g2 g3 g4 c0 ka ko y1 ky1_3 (by omega)) (cwV 0 hts g_s_begin_s_hearPlaces_56 rfl rfl rfl (by decide +kernel) ⟨Nat.le_of_ble_eq_true rfl, Nat.le_of_ble_eq_true rfl⟩) ⟨pW.blind, va_recv hK hPc (ci := 6) (q0 := 0) rfl rfl, (pW.pre ⟨hK, hN⟩ hPc hDc)⟩ rfl rfl hl.1 rfl (lv_room (Nat.le_of_ble_eq_true rfl)) dX5_begin_119 ⟨Nat.le_of_ble_eq_true rfl, Nat.le_of_ble_eq_true rfl⟩) hS (fun q _ h => hFc q h) hFc (fun  u_40 tt H1 locs ht hvm hw hB hz1 hk1 hS => ?_)
      obtain ⟨hP1, hD1⟩ := hB
      rw [ht] at hP1
      obtain ⟨hP, hD⟩ := va_join (wr := [(r, .inr (4, [.ref t, .ref r1, .ref r2, .ref r3, .int (nI c0), .int x5, .int x6, .int x7, .int x8, .int x9, .int x10])), (r1, .inl (E.2.1, 3, .inl fr)), (r2, .inl (E.2.1, 16, .inl fq))]) (w1 := [(h, .inr (6, [.ref g1, .ref g2, .int ka, .int ko, .ref g3, .ref g4])), (g1, .inl (E.2.1, 81, .inl u_40))]) hP hD [0, 1] [2, 3, 4] rfl rfl (by decide) (by decide) hk1 hFc hP1 hD1
      generalize H1 = H at hP hS ⊢
      have hP : va_P E.1 vwCl [(r, .inr (4, [.ref t, .ref r1, .ref r2, .ref r3, .int (nI c0), .int x5, .int x6, .int x7, .int x8, .int x9, .int x10])), (r1, .inl (E.2.1, 3, .inl fr)), (r2, .inl (E.2.1, 16, .inl fq)), (h, .inr (6, [.ref g1, .ref g2, .int ka, .int ko, .ref g3, .ref g4])), (g1, .inl (E.2.1, 81, .inl u_40))] H := hP
      have hD : va_D A [(r, .inr (4, [.ref t, .ref r1, .ref r2, .ref r3, .int (nI c0), .int x5, .int x6, .int x7, .int x8, .int x9, .int x10])), (r1, .inl (E.2.1, 3, .inl fr)), (r2, .inl (E.2.1, 16, .inl fq)), (h, .inr (6, [.ref g1, .ref g2, .int ka, .int ko, .ref g3, .ref g4])), (g1, .inl (E.2.1, 81, .inl u_40))] := hD
      have hsw_41 := hw
      have kk_42 := hsw_41
      refine lv_aload_n hx hb dX5_begin_122 rfl (lv_at hl 0 rfl) ?_
      refine va_get (D := E.1) (ci := 6) (v := .ref g1) (C := RX5) (T := TX5) (N := 6) hx hb hts i_s_begin_X5 hown hK hP 3 rfl rfl 0 (by decide) (hts (.fieldLink RX5 11 "HushWatch$State" "row" "[I") (List.mem_of_getElem? (i := 1) rfl)) (fun _ h9 => h9) rfl dX5_begin_123 ?_
      refine lv_bipush (v := 6) hx hb dX5_begin_126 (by decide) ?_
      refine lv_aload_n hx hb dX5_begin_128 rfl (lv_at hl 0 rfl) ?_
      refine lv_aload_n hx hb dX5_begin_129 rfl (lv_at hl 0 rfl) ?_
      refine va_get (D := E.1) (ci := 6) (v := .ref g1) (C := RX5) (T := TX5) (N := 6) hx hb hts i_s_begin_X5 hown hK hP 3 rfl rfl 0 (by decide) (hts (.fieldLink RX5 11 "HushWatch$State" "row" "[I") (List.mem_of_getElem? (i := 1) rfl)) (fun _ h9 => h9) rfl dX5_begin_130 ?_
      refine lv_iconst (v := 4) hx hb dX5_begin_133 (by decide) ?_
      refine va_iald hx hb hK hP 4 0 rfl rfl (vin rfl) dX5_begin_134 ?_
      refine W.eq (g2 := F0 m 135 ls [.int (u_40 4), .ref h, .int 6, .ref g1]) rfl ?_
      refine lv_topi (fun z_43 ez_43 => ?_)
      refine lv_i2l (v := z_43.toInt64) hx hb dX5_begin_135 rfl ?_
      refine lv_aload_n hx hb dX5_begin_136 rfl (lv_at hl 0 rfl) ?_
      refine va_get (D := E.1) (ci := 6) (v := .ref g1) (C := RX5) (T := TX5) (N := 6) hx hb hts i_s_begin_X5 hown hK hP 3 rfl rfl 0 (by decide) (hts (.fieldLink RX5 11 "HushWatch$State" "row" "[I") (List.mem_of_getElem? (i := 1) rfl)) (fun _ h9 => h9) rfl dX5_begin_137 ?_
      refine lv_iconst (v := 5) hx hb dX5_begin_140 (by decide) ?_
      refine va_iald hx hb hK hP 4 0 rfl rfl (vin rfl) dX5_begin_141 ?_
      refine W.eq (g2 := F0 m 142 ls [.int (u_40 5), .long z_43.toInt64, .ref h, .int 6, .ref g1]) rfl ?_
      refine lv_topi (fun z_44 ez_44 => ?_)
      refine lv_i2l (v := z_44.toInt64) hx hb dX5_begin_142 rfl ?_
      have hPc := hP.sub (ws' := [(h, .inr (6, [.ref g1, .ref g2, .int ka, .int ko, .ref g3, .ref g4])), (g1, .inl (E.2.1, 81, .inl u_40))]) [3, 4] rfl
      refine pc_i (va_runV (As := [.long z_43.toInt64, .long z_44.toInt64]) (rest := [.int 6, .ref g1]) ⟨hx, hb, hml, hown, hts⟩ (s_allows l E h g1 g2 g3 g4 c0 ka ko u_40 z_43.toInt64 z_44.toInt64 kk_42 (by omega)) (cwV 2 hts g_s_begin_s_allows_59 rfl rfl rfl (by decide +kernel) ⟨Nat.le_of_ble_eq_true rfl, Nat.le_of_ble_eq_true rfl⟩) ⟨pP.blind, va_recv hK hPc (ci := 6) (q0 := 0) rfl rfl, (pP.pre ⟨hK, hN⟩ hPc)⟩ rfl rfl hl.1 rfl (lv_room (Nat.le_of_ble_eq_true rfl)) dX5_begin_143 ⟨Nat.le_of_ble_eq_true rfl, Nat.le_of_ble_eq_true rfl⟩) (fun r_45 hr_45 => ?_)
      have K_49 : ∀ (y_48 : Nat), ∀ (H : Heap) (locs : List Loc) (ls : Array Slot), y_48 ≤ 1 → va_P E.1 vwCl [(h, .inr (6, [.ref g1, .ref g2, .int ka, .int ko, .ref g3, .ref g4])), (g1, .inl (E.2.1, 81, .inl u_40)), (r, .inr (4, [.ref t, .ref r1, .ref r2, .ref r3, .int (nI c0), .int x5, .int x6, .int x7, .int x8, .int x9, .int x10])), (r1, .inl (E.2.1, 3, .inl fr)), (r2, .inl (E.2.1, 16, .inl fq))] H → va_D A [(h, .inr (6, [.ref g1, .ref g2, .int ka, .int ko, .ref g3, .ref g4])), (g1, .inl (E.2.1, 81, .inl u_40)), (r, .inr (4, [.ref t, .ref r1, .ref r2, .ref r3, .int (nI c0), .int x5, .int x6, .int x7, .int x8, .int x9, .int x10])), (r1, .inl (E.2.1, 3, .inl fr)), (r2, .inl (E.2.1, 16, .inl fq))] → va_S A s.heap H locs → lv_has ls 3 [(0, .ref h), (1, .ref r), (2, .int (nI i))] → W p l e ({ frames := 2, cells := 0, slots := 0, locals := 52 } : Room) s m #[Value.ref h, Value.ref r] below meth c H locs 0 0 Q (F0 m 154 ls [.int (nI y_48), .int 6, .ref g1]) := by
        intro y_48 H locs ls hy_48 hP hD hS hl
        refine va_iast hx hb hK hP hD hS 1 0 rfl rfl (vin rfl) dX5_begin_154 (fun H locs hP hD hS => ?_)
        have hP : va_P E.1 vwCl [(h, .inr (6, [.ref g1, .ref g2, .int ka, .int ko, .ref g3, .ref g4])), (g1, .inl (E.2.1, 81, .inl (upd u_40 (6 : Int32).toNatClampNeg (nI y_48)))), (r, .inr (4, [.ref t, .ref r1, .ref r2, .ref r3, .int (nI c0), .int x5, .int x6, .int x7, .int x8, .int x9, .int x10])), (r1, .inl (E.2.1, 3, .inl fr)), (r2, .inl (E.2.1, 16, .inl fq))] H := hP
        have hD : va_D A [(h, .inr (6, [.ref g1, .ref g2, .int ka, .int ko, .ref g3, .ref g4])), (g1, .inl (E.2.1, 81, .inl (upd u_40 (6 : Int32).toNatClampNeg (nI y_48)))), (r, .inr (4, [.ref t, .ref r1, .ref r2, .ref r3, .int (nI c0), .int x5, .int x6, .int x7, .int x8, .int x9, .int x10])), (r1, .inl (E.2.1, 3, .inl fr)), (r2, .inl (E.2.1, 16, .inl fq))] := hD
        obtain ⟨f_50, hf_50⟩ : ∃ g : Nat → Int32, g = upd u_40 (6 : Int32).toNatClampNeg (nI y_48) := ⟨_, rfl⟩
        rw [← hf_50] at hP hD
        have kf_50_3 : f_50 3 = nI c0 := by rw [hf_50]; exact (upd_ne (by decide)).trans kk_42
        rw [hQ]
        have hP9 := hP.sub (ws' := [(h, .inr (6, [.ref g1, .ref g2, .int ka, .int ko, .ref g3, .ref g4])), (g1, .inl (E.2.1, 81, .inl f_50)), (r, .inr (4, [.ref t, .ref r1, .ref r2, .ref r3, .int (nI c0), .int x5, .int x6, .int x7, .int x8, .int x9, .int x10])), (r1, .inl (E.2.1, 3, .inl fr)), (r2, .inl (E.2.1, 16, .inl fq))]) [0, 1, 2, 3, 4] rfl
        have hD9 := hD.sub (ws' := [(h, .inr (6, [.ref g1, .ref g2, .int ka, .int ko, .ref g3, .ref g4])), (g1, .inl (E.2.1, 81, .inl f_50)), (r, .inr (4, [.ref t, .ref r1, .ref r2, .ref r3, .int (nI c0), .int x5, .int x6, .int x7, .int x8, .int x9, .int x10])), (r1, .inl (E.2.1, 3, .inl fr)), (r2, .inl (E.2.1, 16, .inl fq))]) [0, 1, 2, 3, 4] (by decide) rfl
        exact W.vret hx hb hr (fun tt ht hW => ⟨⟨f_50, rfl, kf_50_3, by rw [ht]; exact hP9, hD9⟩, hS.F ht⟩) hS.2.2 dX5_begin_155
      refine lv_if_eq (tgt := 153) hx hb dX5_begin_146 (by decide) (fun c_46 => ?_) (fun c_46 => ?_)
      ·
        obtain ⟨j_51, hj_51, ej_51⟩ : ∃ j : Nat, j ≤ 0 ∧ r_45 = nI j := nat_rng (by have t0 : (0 : Int32).toInt = 0 := (by decide); simp only [Int32.lt_iff_toInt_lt, Int32.le_iff_toInt_le, ge_iff_le, gt_iff_lt, ne_eq, ← Int32.toInt_inj, t0] at c_46 ⊢; omega)
        refine lv_iconst (v := 1) hx hb dX5_begin_153 (by decide) ?_
        exact K_49 1 H locs ls (by omega) (hP.sub [3, 4, 0, 1, 2] rfl) (hD.sub [3, 4, 0, 1, 2] (by decide) rfl) hS (lv_sub hl [0, 1, 2] rfl)
      ·
        refine lv_iconst (v := 0) hx hb dX5_begin_149 (by decide) ?_
        refine lv_goto (tgt := 154) hx hb dX5_begin_150 (by decide) ?_
        exact K_49 0 H locs ls (by omega) (hP.sub [3, 4, 0, 1, 2] rfl) (hD.sub [3, 4, 0, 1, 2] (by decide) rfl) hS (lv_sub hl [0, 1, 2] rfl)

def v_h_forget : List Cond := .code yX2_forget cX2_forget 1 none :: ([.fieldLink RX2 21 "HushWatch$History" "held" "I"] ++ (wsX20 ++ ([])))
theorem gw_h_forget : v_h_forget.all goodWord = true := by decide +kernel
theorem i_h_forget_X2 : ∀ w ∈ wsX20, w ∈ v_h_forget := fun _ h => List.mem_cons_of_mem _ (List.mem_append_right _ (List.mem_append_left _ h))
set_option maxHeartbeats 4000000 in
set_option maxRecDepth 100000 in
theorem h_forget (l : Launch) (E : EE) (sz : Nat) (h w1 n d : Nat) (F : Nat → Int32) : Met l yX2_forget v_h_forget ({ frames := 0, cells := 0, slots := 0, locals := 0 }) (va_Pc [.ref h] (pW E sz [(h, .inr (3, [.ref w1, .int (nI n), .int (nI d)]))])) (va_Qv (fun (_u : Unit) => True) (fun (_u : Unit) tt => va_P E.1 vwCl [(h, .inr (3, [.ref w1, .int (nI n), .int 0]))] tt.heap ∧ va_D (va_A [(h, .inr (3, [.ref w1, .int (nI n), .int (nI d)]))] sz) [(h, .inr (3, [.ref w1, .int (nI n), .int 0]))]) (va_A [(h, .inr (3, [.ref w1, .int (nI n), .int (nI d)]))] sz)) 0 0 (va_A [(h, .inr (3, [.ref w1, .int (nI n), .int (nI d)]))] sz) := by
  refine Met.ofW (cc := cX2_forget) (maxL := 1) (ret := none) (by decide) rfl ?_
  intro p e s m args below meth c s₁ B hml hv
  obtain ⟨rfl, hsz, ⟨hK, hN⟩, hP, hD0⟩ := hv
  have hx := B.exec
  have hb := B.bytes
  have hr := B.returns
  have hts := atoms_spec (ws := v_h_forget) B.pre
  have hown : s.vm.findClass RX2 = some m.cls := findClass_of_methodNamed B.named
  have hlocks := B.notSynchronized
  subst hsz
  have hD := hD0.self (sz := s.heap.size)
  generalize hAe : va_A [(h, .inr (3, [.ref w1, .int (nI n), .int (nI d)]))] s.heap.size = A at hD ⊢
  have hA : ∀ q : Nat, s.heap.size ≤ q → A q := fun q h => by rw [← hAe]; exact Or.inr h
  have hS : va_S A s.heap s.heap [] := va_S.rf
  have hP : va_P E.1 vwCl [(h, .inr (3, [.ref w1, .int (nI n), .int (nI d)]))] s.heap := hP
  have hl := lv_entry ([.ref h]) (n := 1) (Nat.le_of_ble_eq_true rfl)
  rw [lg_entry_eq]
  generalize (lg_sl ([.ref h]) ++ List.replicate (1 - (lg_sl ([.ref h])).length) Slot.unset).toArray = ls at hl ⊢
  have hl : lv_has ls 1 [(0, .ref h)] := hl
  obtain ⟨Q, hQ⟩ : ∃ Q : State → Prop, Q = MQ below (va_Qv (fun (_u : Unit) => True) (fun (_u : Unit) tt => va_P E.1 vwCl [(h, .inr (3, [.ref w1, .int (nI n), .int 0]))] tt.heap ∧ va_D A [(h, .inr (3, [.ref w1, .int (nI n), .int 0]))]) A) #[Value.ref h] s 0 0 A := ⟨_, rfl⟩
  rw [← hQ]
  change W p l e ({ frames := 0, cells := 0, slots := 0, locals := 0 } : Room) s m #[Value.ref h] below meth c s.heap [] 0 0 Q (F0 m 0 ls [])
  refine lv_aload_n hx hb dX2_forget_0 rfl (lv_at hl 0 rfl) ?_
  refine lv_iconst (v := 0) hx hb dX2_forget_1 (by decide) ?_
  refine va_put (D := E.1) (ci := 3) (v := .int 0) (ty := .int) (C := RX2) (T := TX2) (N := 3) hx hb hts i_h_forget_X2 tyX2 tyX2_ok nmX2 hown hK hP hD hS 0 rfl rfl 2 (by decide) (hts (.fieldLink RX2 21 "HushWatch$History" "held" "I") (List.mem_of_getElem? (i := 1) rfl)) (fun _ h9 => h9) rfl (by decide +kernel) rfl rfl (Nat.le_of_ble_eq_true rfl) dX2_forget_2 (fun H locs hP hD hS => ?_)
  have hP : va_P E.1 vwCl [(h, .inr (3, [.ref w1, .int (nI n), .int 0]))] H := hP
  have hD : va_D A [(h, .inr (3, [.ref w1, .int (nI n), .int 0]))] := hD
  rw [hQ]
  have hP9 := hP.sub (ws' := [(h, .inr (3, [.ref w1, .int (nI n), .int 0]))]) [0] rfl
  have hD9 := hD.sub (ws' := [(h, .inr (3, [.ref w1, .int (nI n), .int 0]))]) [0] (by decide) rfl
  exact W.vret hx hb hr (fun tt ht hW => ⟨⟨(), rfl, trivial, by rw [ht]; exact hP9, hD9⟩, hS.F ht⟩) hS.2.2 dX2_forget_5

def v_h_keep : List Cond := .code yX2_keep cX2_keep 2 none :: ([.fieldLink RX2 11 "HushWatch$History" "rows" "[I", .fieldLink RX2 17 "HushWatch$History" "next" "I", .methodLink RX2 27 arraycopyName, .native arraycopyName, .static arraycopyName, .initialized "java/lang/System", .fieldLink RX2 21 "HushWatch$History" "held" "I", .methodLink RX2 33 Lib.Math.min.name, .static Lib.Math.min.name, .initialized "java/lang/Math", .code Lib.Math.min.name Lib.Math.min.code 2 (some .int)] ++ (wsX50 ++ (wsX20 ++ ([]))))
theorem gw_h_keep : v_h_keep.all goodWord = true := by decide +kernel
theorem i_h_keep_X5 : ∀ w ∈ wsX50, w ∈ v_h_keep := fun _ h => List.mem_cons_of_mem _ (List.mem_append_right _ (List.mem_append_left _ h))
theorem i_h_keep_X2 : ∀ w ∈ wsX20, w ∈ v_h_keep := fun _ h => List.mem_cons_of_mem _ (List.mem_append_right _ (List.mem_append_right _ (List.mem_append_left _ h)))
set_option maxHeartbeats 4000000 in
set_option maxRecDepth 100000 in
theorem h_keep (l : Launch) (E : EE) (sz : Nat) (h w1 n d : Nat) (F : Nat → Int32) (h2 e1 e2 e3 e4 : Nat) (ea eo : Int32) (fo : Nat → Int32) (k : Nat) (hF : hOK F) (hn : n ≤ 39) (hd : d ≤ 40) (hk : fo 3 = nI k) (hk8 : k ≤ 8) : Met l yX2_keep v_h_keep ({ frames := 1, cells := 0, slots := 0, locals := 60 }) (va_Pc [.ref h, .ref h2] (pW E sz [(h, .inr (3, [.ref w1, .int (nI n), .int (nI d)])), (w1, .inl (E.2.1, 3240, .inl F)), (h2, .inr (6, [.ref e1, .ref e2, .int ea, .int eo, .ref e3, .ref e4])), (e1, .inl (E.2.1, 81, .inl fo))])) (va_Qv (fun (u_ : (Nat → Int32) × (Nat) × (Nat)) => u_.2.1 ≤ 39 ∧ u_.2.2 ≤ 40 ∧ hOK u_.1) (fun (u_ : (Nat → Int32) × (Nat) × (Nat)) tt => va_P E.1 vwCl [(h, .inr (3, [.ref w1, .int (nI u_.2.1), .int (nI u_.2.2)])), (w1, .inl (E.2.1, 3240, .inl u_.1)), (h2, .inr (6, [.ref e1, .ref e2, .int ea, .int eo, .ref e3, .ref e4])), (e1, .inl (E.2.1, 81, .inl fo))] tt.heap ∧ va_D (va_A [(h, .inr (3, [.ref w1, .int (nI n), .int (nI d)])), (w1, .inl (E.2.1, 3240, .inl F)), (h2, .inr (6, [.ref e1, .ref e2, .int ea, .int eo, .ref e3, .ref e4])), (e1, .inl (E.2.1, 81, .inl fo))] sz) [(h, .inr (3, [.ref w1, .int (nI u_.2.1), .int (nI u_.2.2)])), (w1, .inl (E.2.1, 3240, .inl u_.1)), (h2, .inr (6, [.ref e1, .ref e2, .int ea, .int eo, .ref e3, .ref e4])), (e1, .inl (E.2.1, 81, .inl fo))]) (va_A [(h, .inr (3, [.ref w1, .int (nI n), .int (nI d)])), (w1, .inl (E.2.1, 3240, .inl F)), (h2, .inr (6, [.ref e1, .ref e2, .int ea, .int eo, .ref e3, .ref e4])), (e1, .inl (E.2.1, 81, .inl fo))] sz)) 0 0 (va_A [(h, .inr (3, [.ref w1, .int (nI n), .int (nI d)])), (w1, .inl (E.2.1, 3240, .inl F)), (h2, .inr (6, [.ref e1, .ref e2, .int ea, .int eo, .ref e3, .ref e4])), (e1, .inl (E.2.1, 81, .inl fo))] sz) := by
  refine Met.ofW (cc := cX2_keep) (maxL := 2) (ret := none) (by decide) rfl ?_
  intro p e s m args below meth c s₁ B hml hv
  obtain ⟨rfl, hsz, ⟨hK, hN⟩, hP, hD0⟩ := hv
  have hx := B.exec
  have hb := B.bytes
  have hr := B.returns
  have hts := atoms_spec (ws := v_h_keep) B.pre
  have hown : s.vm.findClass RX2 = some m.cls := findClass_of_methodNamed B.named
  have hlocks := B.notSynchronized
  subst hsz
  have hD := hD0.self (sz := s.heap.size)
  generalize hAe : va_A [(h, .inr (3, [.ref w1, .int (nI n), .int (nI d)])), (w1, .inl (E.2.1, 3240, .inl F)), (h2, .inr (6, [.ref e1, .ref e2, .int ea, .int eo, .ref e3, .ref e4])), (e1, .inl (E.2.1, 81, .inl fo))] s.heap.size = A at hD ⊢
  have hA : ∀ q : Nat, s.heap.size ≤ q → A q := fun q h => by rw [← hAe]; exact Or.inr h
  have hS : va_S A s.heap s.heap [] := va_S.rf
  have hP : va_P E.1 vwCl [(h, .inr (3, [.ref w1, .int (nI n), .int (nI d)])), (w1, .inl (E.2.1, 3240, .inl F)), (h2, .inr (6, [.ref e1, .ref e2, .int ea, .int eo, .ref e3, .ref e4])), (e1, .inl (E.2.1, 81, .inl fo))] s.heap := hP
  have hl := lv_entry ([.ref h, .ref h2]) (n := 2) (Nat.le_of_ble_eq_true rfl)
  rw [lg_entry_eq]
  generalize (lg_sl ([.ref h, .ref h2]) ++ List.replicate (2 - (lg_sl ([.ref h, .ref h2])).length) Slot.unset).toArray = ls at hl ⊢
  have hl : lv_has ls 2 [(0, .ref h), (1, .ref h2)] := hl
  obtain ⟨Q, hQ⟩ : ∃ Q : State → Prop, Q = MQ below (va_Qv (fun (u_ : (Nat → Int32) × (Nat) × (Nat)) => u_.2.1 ≤ 39 ∧ u_.2.2 ≤ 40 ∧ hOK u_.1) (fun (u_ : (Nat → Int32) × (Nat) × (Nat)) tt => va_P E.1 vwCl [(h, .inr (3, [.ref w1, .int (nI u_.2.1), .int (nI u_.2.2)])), (w1, .inl (E.2.1, 3240, .inl u_.1)), (h2, .inr (6, [.ref e1, .ref e2, .int ea, .int eo, .ref e3, .ref e4])), (e1, .inl (E.2.1, 81, .inl fo))] tt.heap ∧ va_D A [(h, .inr (3, [.ref w1, .int (nI u_.2.1), .int (nI u_.2.2)])), (w1, .inl (E.2.1, 3240, .inl u_.1)), (h2, .inr (6, [.ref e1, .ref e2, .int ea, .int eo, .ref e3, .ref e4])), (e1, .inl (E.2.1, 81, .inl fo))]) A) #[Value.ref h, Value.ref h2] s 0 0 A := ⟨_, rfl⟩
  rw [← hQ]
  change W p l e ({ frames := 1, cells := 0, slots := 0, locals := 60 } : Room) s m #[Value.ref h, Value.ref h2] below meth c s.heap [] 0 0 Q (F0 m 0 ls [])
  refine lv_aload_n hx hb dX2_keep_0 rfl (lv_at hl 1 rfl) ?_
  refine va_getN (D := E.1) (ci := 6) (v := .ref e1) (C := RX5) (T := TX5) (N := 6) hx hb hts i_h_keep_X5 hown hK hP 2 rfl rfl 0 (by decide) (nx hN 11 rfl) (fun _ h9 => h9) rfl dX2_keep_1 ?_
  refine lv_iconst (v := 0) hx hb dX2_keep_4 (by decide) ?_
  refine lv_aload_n hx hb dX2_keep_5 rfl (lv_at hl 0 rfl) ?_
  refine va_get (D := E.1) (ci := 3) (v := .ref w1) (C := RX2) (T := TX2) (N := 3) hx hb hts i_h_keep_X2 hown hK hP 0 rfl rfl 0 (by decide) (hts (.fieldLink RX2 11 "HushWatch$History" "rows" "[I") (List.mem_of_getElem? (i := 1) rfl)) (fun _ h9 => h9) rfl dX2_keep_6 ?_
  refine lv_aload_n hx hb dX2_keep_9 rfl (lv_at hl 0 rfl) ?_
  refine va_get (D := E.1) (ci := 3) (v := .int (nI n)) (C := RX2) (T := TX2) (N := 3) hx hb hts i_h_keep_X2 hown hK hP 0 rfl rfl 1 (by decide) (hts (.fieldLink RX2 17 "HushWatch$History" "next" "I") (List.mem_of_getElem? (i := 2) rfl)) (fun _ h9 => h9) rfl dX2_keep_10 ?_
  refine lv_bipush (v := 81) hx hb dX2_keep_13 (by decide) ?_
  refine lv_imul hx hb dX2_keep_15 ?_
  refine lv_topi (fun z_1 ez_1 => ?_)
  obtain rfl : z_1 = nI (n * 81) := ez_1.trans (nI_mul _ 81)
  refine lv_bipush (v := 81) hx hb dX2_keep_16 (by decide) ?_
  refine va_copyi hx hb (hml.trans hl.1.symm) hown (hts (.methodLink RX2 27 arraycopyName) (List.mem_of_getElem? (i := 3) rfl)) (hts (.native arraycopyName) (List.mem_of_getElem? (i := 4) rfl)) (hts (.static arraycopyName) (List.mem_of_getElem? (i := 5) rfl)) (hts (.initialized "java/lang/System") (List.mem_of_getElem? (i := 6) rfl)) hK hP hD hS 3 1 0 0 rfl rfl rfl rfl rfl (by decide) (nI_pos (by omega)) (by decide) (by decide) (by rw [nI_clamp (n := n * 81) (by omega)]; show (n * 81) + 81 ≤ 3240; omega) (fun _ _ => rfl) (Nat.le_of_ble_eq_true rfl) (Nat.le_of_ble_eq_true rfl) dX2_keep_18 (fun H locs hP hD hS => ?_)
  have hP : va_P E.1 vwCl [(h, .inr (3, [.ref w1, .int (nI n), .int (nI d)])), (w1, .inl (E.2.1, 3240, .inl (va_cpy fo F (0 : Int32).toNatClampNeg (nI (n * 81) : Int32).toNatClampNeg (81 : Int32).toNatClampNeg))), (h2, .inr (6, [.ref e1, .ref e2, .int ea, .int eo, .ref e3, .ref e4])), (e1, .inl (E.2.1, 81, .inl fo))] H := hP
  have hD : va_D A [(h, .inr (3, [.ref w1, .int (nI n), .int (nI d)])), (w1, .inl (E.2.1, 3240, .inl (va_cpy fo F (0 : Int32).toNatClampNeg (nI (n * 81) : Int32).toNatClampNeg (81 : Int32).toNatClampNeg))), (h2, .inr (6, [.ref e1, .ref e2, .int ea, .int eo, .ref e3, .ref e4])), (e1, .inl (E.2.1, 81, .inl fo))] := hD
  obtain ⟨f_2, hf_2⟩ : ∃ g : Nat → Int32, g = va_cpy fo F (0 : Int32).toNatClampNeg (nI (n * 81) : Int32).toNatClampNeg (81 : Int32).toNatClampNeg := ⟨_, rfl⟩
  rw [← hf_2] at hP hD
  refine lv_aload_n hx hb dX2_keep_21 rfl (lv_at hl 0 rfl) ?_
  refine lv_aload_n hx hb dX2_keep_22 rfl (lv_at hl 0 rfl) ?_
  refine va_get (D := E.1) (ci := 3) (v := .int (nI n)) (C := RX2) (T := TX2) (N := 3) hx hb hts i_h_keep_X2 hown hK hP 0 rfl rfl 1 (by decide) (hts (.fieldLink RX2 17 "HushWatch$History" "next" "I") (List.mem_of_getElem? (i := 2) rfl)) (fun _ h9 => h9) rfl dX2_keep_23 ?_
  refine lv_iconst (v := 1) hx hb dX2_keep_26 (by decide) ?_
  refine lv_iadd hx hb dX2_keep_27 ?_
  refine lv_topi (fun z_3 ez_3 => ?_)
  obtain rfl : z_3 = nI (n + 1) := ez_3.trans (nI_add _ 1)
  refine lv_bipush (v := 40) hx hb dX2_keep_28 (by decide) ?_
  have K_7 : ∀ (y_6 : Nat), ∀ (H : Heap) (locs : List Loc) (ls : Array Slot), y_6 ≤ 39 → va_P E.1 vwCl [(h, .inr (3, [.ref w1, .int (nI n), .int (nI d)])), (w1, .inl (E.2.1, 3240, .inl f_2)), (h2, .inr (6, [.ref e1, .ref e2, .int ea, .int eo, .ref e3, .ref e4])), (e1, .inl (E.2.1, 81, .inl fo))] H → va_D A [(h, .inr (3, [.ref w1, .int (nI n), .int (nI d)])), (w1, .inl (E.2.1, 3240, .inl f_2)), (h2, .inr (6, [.ref e1, .ref e2, .int ea, .int eo, .ref e3, .ref e4])), (e1, .inl (E.2.1, 81, .inl fo))] → va_S A s.heap H locs → lv_has ls 2 [(0, .ref h), (1, .ref h2)] → W p l e ({ frames := 1, cells := 0, slots := 0, locals := 60 } : Room) s m #[Value.ref h, Value.ref h2] below meth c H locs 0 0 Q (F0 m 43 ls [.int (nI y_6), .ref h]) := by
    intro y_6 H locs ls hy_6 hP hD hS hl
    refine va_put (D := E.1) (ci := 3) (v := .int (nI y_6)) (ty := .int) (C := RX2) (T := TX2) (N := 3) hx hb hts i_h_keep_X2 tyX2 tyX2_ok nmX2 hown hK hP hD hS 0 rfl rfl 1 (by decide) (hts (.fieldLink RX2 17 "HushWatch$History" "next" "I") (List.mem_of_getElem? (i := 2) rfl)) (fun _ h9 => h9) rfl (by decide +kernel) rfl rfl (Nat.le_of_ble_eq_true rfl) dX2_keep_43 (fun H locs hP hD hS => ?_)
    have hP : va_P E.1 vwCl [(h, .inr (3, [.ref w1, .int (nI y_6), .int (nI d)])), (w1, .inl (E.2.1, 3240, .inl f_2)), (h2, .inr (6, [.ref e1, .ref e2, .int ea, .int eo, .ref e3, .ref e4])), (e1, .inl (E.2.1, 81, .inl fo))] H := hP
    have hD : va_D A [(h, .inr (3, [.ref w1, .int (nI y_6), .int (nI d)])), (w1, .inl (E.2.1, 3240, .inl f_2)), (h2, .inr (6, [.ref e1, .ref e2, .int ea, .int eo, .ref e3, .ref e4])), (e1, .inl (E.2.1, 81, .inl fo))] := hD
    refine lv_aload_n hx hb dX2_keep_46 rfl (lv_at hl 0 rfl) ?_
    refine lv_aload_n hx hb dX2_keep_47 rfl (lv_at hl 0 rfl) ?_
    refine va_get (D := E.1) (ci := 3) (v := .int (nI d)) (C := RX2) (T := TX2) (N := 3) hx hb hts i_h_keep_X2 hown hK hP 0 rfl rfl 2 (by decide) (hts (.fieldLink RX2 21 "HushWatch$History" "held" "I") (List.mem_of_getElem? (i := 7) rfl)) (fun _ h9 => h9) rfl dX2_keep_48 ?_
    refine lv_iconst (v := 1) hx hb dX2_keep_51 (by decide) ?_
    refine lv_iadd hx hb dX2_keep_52 ?_
    refine lv_topi (fun z_8 ez_8 => ?_)
    obtain rfl : z_8 = nI (d + 1) := ez_8.trans (nI_add _ 1)
    refine lv_bipush (v := 40) hx hb dX2_keep_53 (by decide) ?_
    refine va_mmin hx hb (hml.trans hl.1.symm) hown (hts (.methodLink RX2 33 Lib.Math.min.name) (List.mem_of_getElem? (i := 8) rfl)) (hts (.static Lib.Math.min.name) (List.mem_of_getElem? (i := 9) rfl)) (hts (.initialized "java/lang/Math") (List.mem_of_getElem? (i := 10) rfl)) (hts (.code Lib.Math.min.name Lib.Math.min.code 2 (some .int)) (List.mem_of_getElem? (i := 11) rfl)) (Nat.le_of_ble_eq_true rfl) (Nat.le_of_ble_eq_true rfl) (Nat.le_of_ble_eq_true rfl) (Nat.le_of_ble_eq_true rfl) dX2_keep_55 ?_
    refine lv_topi (fun z_9 ez_9 => ?_)
    obtain ⟨j_10, hj_10, ej_10⟩ := nmin_e (a := (d + 1)) (b := 40) (by omega) (by omega) ez_9
    obtain rfl := ej_10
    refine va_put (D := E.1) (ci := 3) (v := .int (nI j_10)) (ty := .int) (C := RX2) (T := TX2) (N := 3) hx hb hts i_h_keep_X2 tyX2 tyX2_ok nmX2 hown hK hP hD hS 0 rfl rfl 2 (by decide) (hts (.fieldLink RX2 21 "HushWatch$History" "held" "I") (List.mem_of_getElem? (i := 7) rfl)) (fun _ h9 => h9) rfl (by decide +kernel) rfl rfl (Nat.le_of_ble_eq_true rfl) dX2_keep_58 (fun H locs hP hD hS => ?_)
    have hP : va_P E.1 vwCl [(h, .inr (3, [.ref w1, .int (nI y_6), .int (nI j_10)])), (w1, .inl (E.2.1, 3240, .inl f_2)), (h2, .inr (6, [.ref e1, .ref e2, .int ea, .int eo, .ref e3, .ref e4])), (e1, .inl (E.2.1, 81, .inl fo))] H := hP
    have hD : va_D A [(h, .inr (3, [.ref w1, .int (nI y_6), .int (nI j_10)])), (w1, .inl (E.2.1, 3240, .inl f_2)), (h2, .inr (6, [.ref e1, .ref e2, .int ea, .int eo, .ref e3, .ref e4])), (e1, .inl (E.2.1, 81, .inl fo))] := hD
    rw [hQ]
    have hP9 := hP.sub (ws' := [(h, .inr (3, [.ref w1, .int (nI y_6), .int (nI j_10)])), (w1, .inl (E.2.1, 3240, .inl f_2)), (h2, .inr (6, [.ref e1, .ref e2, .int ea, .int eo, .ref e3, .ref e4])), (e1, .inl (E.2.1, 81, .inl fo))]) [0, 1, 2, 3] rfl
    have hD9 := hD.sub (ws' := [(h, .inr (3, [.ref w1, .int (nI y_6), .int (nI j_10)])), (w1, .inl (E.2.1, 3240, .inl f_2)), (h2, .inr (6, [.ref e1, .ref e2, .int ea, .int eo, .ref e3, .ref e4])), (e1, .inl (E.2.1, 81, .inl fo))]) [0, 1, 2, 3] (by decide) rfl
    exact W.vret hx hb hr (fun tt ht hW => ⟨⟨(f_2, y_6, j_10), rfl, ⟨(by first | omega | (dsimp only; omega)), (by first | omega | (dsimp only; omega)), (by rw [hf_2]; exact hOK_keep hF hk hk8 hn)⟩, by rw [ht]; exact hP9, hD9⟩, hS.F ht⟩) hS.2.2 dX2_keep_61
  refine lv_icmp_ge (tgt := 42) hx hb dX2_keep_30 (by decide) (fun c_4 => ?_) (fun c_4 => ?_)
  ·
    have d_11 : 40 ≤ (n + 1) := nc_ge (a := (n + 1)) (b := 40) (by omega) (by omega) c_4
    refine lv_iconst (v := 0) hx hb dX2_keep_42 (by decide) ?_
    exact K_7 0 H locs ls (by omega) (hP.sub [0, 1, 2, 3] rfl) (hD.sub [0, 1, 2, 3] (by decide) rfl) hS (lv_sub hl [0, 1] rfl)
  ·
    have d_12 : ¬ (40 ≤ (n + 1)) := nc_ge_n (a := (n + 1)) (b := 40) (by omega) (by omega) c_4
    refine lv_aload_n hx hb dX2_keep_33 rfl (lv_at hl 0 rfl) ?_
    refine va_get (D := E.1) (ci := 3) (v := .int (nI n)) (C := RX2) (T := TX2) (N := 3) hx hb hts i_h_keep_X2 hown hK hP 0 rfl rfl 1 (by decide) (hts (.fieldLink RX2 17 "HushWatch$History" "next" "I") (List.mem_of_getElem? (i := 2) rfl)) (fun _ h9 => h9) rfl dX2_keep_34 ?_
    refine lv_iconst (v := 1) hx hb dX2_keep_37 (by decide) ?_
    refine lv_iadd hx hb dX2_keep_38 ?_
    refine lv_topi (fun z_13 ez_13 => ?_)
    obtain rfl : z_13 = nI (n + 1) := ez_13.trans (nI_add _ 1)
    refine lv_goto (tgt := 43) hx hb dX2_keep_39 (by decide) ?_
    exact K_7 (n + 1) H locs ls (by omega) (hP.sub [0, 1, 2, 3] rfl) (hD.sub [0, 1, 2, 3] (by decide) rfl) hS (lv_sub hl [0, 1] rfl)

def v_h_bringBack : List Cond := .code yX2_bringBack cX2_bringBack 2 (some .boolean) :: ([.fieldLink RX2 21 "HushWatch$History" "held" "I", .fieldLink RX2 17 "HushWatch$History" "next" "I", .fieldLink RX2 11 "HushWatch$History" "rows" "[I", .methodLink RX2 27 arraycopyName, .native arraycopyName, .static arraycopyName, .initialized "java/lang/System"] ++ (wsX20 ++ (wsX50 ++ ([]))))
theorem gw_h_bringBack : v_h_bringBack.all goodWord = true := by decide +kernel
theorem i_h_bringBack_X2 : ∀ w ∈ wsX20, w ∈ v_h_bringBack := fun _ h => List.mem_cons_of_mem _ (List.mem_append_right _ (List.mem_append_left _ h))
theorem i_h_bringBack_X5 : ∀ w ∈ wsX50, w ∈ v_h_bringBack := fun _ h => List.mem_cons_of_mem _ (List.mem_append_right _ (List.mem_append_right _ (List.mem_append_left _ h)))
set_option maxHeartbeats 4000000 in
set_option maxRecDepth 100000 in
theorem h_bringBack (l : Launch) (E : EE) (sz : Nat) (h w1 n d : Nat) (F : Nat → Int32) (h2 e1 e2 e3 e4 : Nat) (ea eo : Int32) (fo : Nat → Int32) (hF : hOK F) (hn : n ≤ 39) (hd : d ≤ 40) (hk : ∃ k : Nat, k ≤ 8 ∧ fo 3 = nI k) : Met l yX2_bringBack v_h_bringBack ({ frames := 1, cells := 0, slots := 0, locals := 60 }) (va_Pc [.ref h, .ref h2] (pW E sz [(h, .inr (3, [.ref w1, .int (nI n), .int (nI d)])), (w1, .inl (E.2.1, 3240, .inl F)), (h2, .inr (6, [.ref e1, .ref e2, .int ea, .int eo, .ref e3, .ref e4])), (e1, .inl (E.2.1, 81, .inl fo))])) (va_Qi (fun (r : Int32) (u_ : (Nat) × (Nat) × (Nat → Int32)) => (r = 0 ∨ r = 1) ∧ u_.1 ≤ 39 ∧ u_.2.1 ≤ 40 ∧ ∃ k : Nat, k ≤ 8 ∧ u_.2.2 3 = nI k) (fun (u_ : (Nat) × (Nat) × (Nat → Int32)) tt => va_P E.1 vwCl [(h, .inr (3, [.ref w1, .int (nI u_.1), .int (nI u_.2.1)])), (w1, .inl (E.2.1, 3240, .inl F)), (h2, .inr (6, [.ref e1, .ref e2, .int ea, .int eo, .ref e3, .ref e4])), (e1, .inl (E.2.1, 81, .inl u_.2.2))] tt.heap ∧ va_D (va_A [(h, .inr (3, [.ref w1, .int (nI n), .int (nI d)])), (w1, .inl (E.2.1, 3240, .inl F)), (h2, .inr (6, [.ref e1, .ref e2, .int ea, .int eo, .ref e3, .ref e4])), (e1, .inl (E.2.1, 81, .inl fo))] sz) [(h, .inr (3, [.ref w1, .int (nI u_.1), .int (nI u_.2.1)])), (w1, .inl (E.2.1, 3240, .inl F)), (h2, .inr (6, [.ref e1, .ref e2, .int ea, .int eo, .ref e3, .ref e4])), (e1, .inl (E.2.1, 81, .inl u_.2.2))]) (va_A [(h, .inr (3, [.ref w1, .int (nI n), .int (nI d)])), (w1, .inl (E.2.1, 3240, .inl F)), (h2, .inr (6, [.ref e1, .ref e2, .int ea, .int eo, .ref e3, .ref e4])), (e1, .inl (E.2.1, 81, .inl fo))] sz)) 0 0 (va_A [(h, .inr (3, [.ref w1, .int (nI n), .int (nI d)])), (w1, .inl (E.2.1, 3240, .inl F)), (h2, .inr (6, [.ref e1, .ref e2, .int ea, .int eo, .ref e3, .ref e4])), (e1, .inl (E.2.1, 81, .inl fo))] sz) := by
  refine Met.ofW (cc := cX2_bringBack) (maxL := 2) (ret := (some .boolean)) (by decide) rfl ?_
  intro p e s m args below meth c s₁ B hml hv
  obtain ⟨rfl, hsz, ⟨hK, hN⟩, hP, hD0⟩ := hv
  have hx := B.exec
  have hb := B.bytes
  have hr := B.returns
  have hts := atoms_spec (ws := v_h_bringBack) B.pre
  have hown : s.vm.findClass RX2 = some m.cls := findClass_of_methodNamed B.named
  have hlocks := B.notSynchronized
  subst hsz
  have hD := hD0.self (sz := s.heap.size)
  generalize hAe : va_A [(h, .inr (3, [.ref w1, .int (nI n), .int (nI d)])), (w1, .inl (E.2.1, 3240, .inl F)), (h2, .inr (6, [.ref e1, .ref e2, .int ea, .int eo, .ref e3, .ref e4])), (e1, .inl (E.2.1, 81, .inl fo))] s.heap.size = A at hD ⊢
  have hA : ∀ q : Nat, s.heap.size ≤ q → A q := fun q h => by rw [← hAe]; exact Or.inr h
  have hS : va_S A s.heap s.heap [] := va_S.rf
  have hP : va_P E.1 vwCl [(h, .inr (3, [.ref w1, .int (nI n), .int (nI d)])), (w1, .inl (E.2.1, 3240, .inl F)), (h2, .inr (6, [.ref e1, .ref e2, .int ea, .int eo, .ref e3, .ref e4])), (e1, .inl (E.2.1, 81, .inl fo))] s.heap := hP
  have hl := lv_entry ([.ref h, .ref h2]) (n := 2) (Nat.le_of_ble_eq_true rfl)
  rw [lg_entry_eq]
  generalize (lg_sl ([.ref h, .ref h2]) ++ List.replicate (2 - (lg_sl ([.ref h, .ref h2])).length) Slot.unset).toArray = ls at hl ⊢
  have hl : lv_has ls 2 [(0, .ref h), (1, .ref h2)] := hl
  obtain ⟨Q, hQ⟩ : ∃ Q : State → Prop, Q = MQ below (va_Qi (fun (r : Int32) (u_ : (Nat) × (Nat) × (Nat → Int32)) => (r = 0 ∨ r = 1) ∧ u_.1 ≤ 39 ∧ u_.2.1 ≤ 40 ∧ ∃ k : Nat, k ≤ 8 ∧ u_.2.2 3 = nI k) (fun (u_ : (Nat) × (Nat) × (Nat → Int32)) tt => va_P E.1 vwCl [(h, .inr (3, [.ref w1, .int (nI u_.1), .int (nI u_.2.1)])), (w1, .inl (E.2.1, 3240, .inl F)), (h2, .inr (6, [.ref e1, .ref e2, .int ea, .int eo, .ref e3, .ref e4])), (e1, .inl (E.2.1, 81, .inl u_.2.2))] tt.heap ∧ va_D A [(h, .inr (3, [.ref w1, .int (nI u_.1), .int (nI u_.2.1)])), (w1, .inl (E.2.1, 3240, .inl F)), (h2, .inr (6, [.ref e1, .ref e2, .int ea, .int eo, .ref e3, .ref e4])), (e1, .inl (E.2.1, 81, .inl u_.2.2))]) A) #[Value.ref h, Value.ref h2] s 0 0 A := ⟨_, rfl⟩
  rw [← hQ]
  change W p l e ({ frames := 1, cells := 0, slots := 0, locals := 60 } : Room) s m #[Value.ref h, Value.ref h2] below meth c s.heap [] 0 0 Q (F0 m 0 ls [])
  refine lv_aload_n hx hb dX2_bringBack_0 rfl (lv_at hl 0 rfl) ?_
  refine va_get (D := E.1) (ci := 3) (v := .int (nI d)) (C := RX2) (T := TX2) (N := 3) hx hb hts i_h_bringBack_X2 hown hK hP 0 rfl rfl 2 (by decide) (hts (.fieldLink RX2 21 "HushWatch$History" "held" "I") (List.mem_of_getElem? (i := 1) rfl)) (fun _ h9 => h9) rfl dX2_bringBack_1 ?_
  refine lv_if_ne (tgt := 9) hx hb dX2_bringBack_4 (by decide) (fun c_1 => ?_) (fun c_1 => ?_)
  ·
    have d_2 : ¬ d = 0 := nc_ne (a := d) (b := 0) (by omega) (by omega) c_1
    refine lv_aload_n hx hb dX2_bringBack_9 rfl (lv_at hl 0 rfl) ?_
    refine lv_aload_n hx hb dX2_bringBack_10 rfl (lv_at hl 0 rfl) ?_
    refine va_get (D := E.1) (ci := 3) (v := .int (nI n)) (C := RX2) (T := TX2) (N := 3) hx hb hts i_h_bringBack_X2 hown hK hP 0 rfl rfl 1 (by decide) (hts (.fieldLink RX2 17 "HushWatch$History" "next" "I") (List.mem_of_getElem? (i := 2) rfl)) (fun _ h9 => h9) rfl dX2_bringBack_11 ?_
    have K_7 : ∀ (y_6 : Nat), ∀ (ls : Array Slot), y_6 ≤ 39 → lv_has ls 2 [(0, .ref h), (1, .ref h2)] → W p l e ({ frames := 1, cells := 0, slots := 0, locals := 60 } : Room) s m #[Value.ref h, Value.ref h2] below meth c s.heap [] 0 0 Q (F0 m 28 ls [.int (nI y_6), .ref h]) := by
      intro y_6 ls hy_6 hl
      refine va_put (D := E.1) (ci := 3) (v := .int (nI y_6)) (ty := .int) (C := RX2) (T := TX2) (N := 3) hx hb hts i_h_bringBack_X2 tyX2 tyX2_ok nmX2 hown hK hP hD hS 0 rfl rfl 1 (by decide) (hts (.fieldLink RX2 17 "HushWatch$History" "next" "I") (List.mem_of_getElem? (i := 2) rfl)) (fun _ h9 => h9) rfl (by decide +kernel) rfl rfl (Nat.le_of_ble_eq_true rfl) dX2_bringBack_28 (fun H locs hP hD hS => ?_)
      have hP : va_P E.1 vwCl [(h, .inr (3, [.ref w1, .int (nI y_6), .int (nI d)])), (w1, .inl (E.2.1, 3240, .inl F)), (h2, .inr (6, [.ref e1, .ref e2, .int ea, .int eo, .ref e3, .ref e4])), (e1, .inl (E.2.1, 81, .inl fo))] H := hP
      have hD : va_D A [(h, .inr (3, [.ref w1, .int (nI y_6), .int (nI d)])), (w1, .inl (E.2.1, 3240, .inl F)), (h2, .inr (6, [.ref e1, .ref e2, .int ea, .int eo, .ref e3, .ref e4])), (e1, .inl (E.2.1, 81, .inl fo))] := hD
      refine lv_aload_n hx hb dX2_bringBack_31 rfl (lv_at hl 0 rfl) ?_
      refine lv_dup hx hb dX2_bringBack_32 rfl ?_
      refine va_get (D := E.1) (ci := 3) (v := .int (nI d)) (C := RX2) (T := TX2) (N := 3) hx hb hts i_h_bringBack_X2 hown hK hP 0 rfl rfl 2 (by decide) (hts (.fieldLink RX2 21 "HushWatch$History" "held" "I") (List.mem_of_getElem? (i := 1) rfl)) (fun _ h9 => h9) rfl dX2_bringBack_33 ?_
      refine lv_iconst (v := 1) hx hb dX2_bringBack_36 (by decide) ?_
      refine lv_isub hx hb dX2_bringBack_37 ?_
      obtain ⟨j_9, ej_9⟩ : ∃ j : Nat, d = j + 1 := ⟨d - 1, by omega⟩
      refine lv_topi (fun z_8 ez_8 => ?_)
      obtain rfl : z_8 = nI j_9 := ez_8.trans (nI_subk (k := 1) ej_9)
      refine va_put (D := E.1) (ci := 3) (v := .int (nI j_9)) (ty := .int) (C := RX2) (T := TX2) (N := 3) hx hb hts i_h_bringBack_X2 tyX2 tyX2_ok nmX2 hown hK hP hD hS 0 rfl rfl 2 (by decide) (hts (.fieldLink RX2 21 "HushWatch$History" "held" "I") (List.mem_of_getElem? (i := 1) rfl)) (fun _ h9 => h9) rfl (by decide +kernel) rfl rfl (Nat.le_of_ble_eq_true rfl) dX2_bringBack_38 (fun H locs hP hD hS => ?_)
      have hP : va_P E.1 vwCl [(h, .inr (3, [.ref w1, .int (nI y_6), .int (nI j_9)])), (w1, .inl (E.2.1, 3240, .inl F)), (h2, .inr (6, [.ref e1, .ref e2, .int ea, .int eo, .ref e3, .ref e4])), (e1, .inl (E.2.1, 81, .inl fo))] H := hP
      have hD : va_D A [(h, .inr (3, [.ref w1, .int (nI y_6), .int (nI j_9)])), (w1, .inl (E.2.1, 3240, .inl F)), (h2, .inr (6, [.ref e1, .ref e2, .int ea, .int eo, .ref e3, .ref e4])), (e1, .inl (E.2.1, 81, .inl fo))] := hD
      refine lv_aload_n hx hb dX2_bringBack_41 rfl (lv_at hl 0 rfl) ?_
      refine va_get (D := E.1) (ci := 3) (v := .ref w1) (C := RX2) (T := TX2) (N := 3) hx hb hts i_h_bringBack_X2 hown hK hP 0 rfl rfl 0 (by decide) (hts (.fieldLink RX2 11 "HushWatch$History" "rows" "[I") (List.mem_of_getElem? (i := 3) rfl)) (fun _ h9 => h9) rfl dX2_bringBack_42 ?_
      refine lv_aload_n hx hb dX2_bringBack_45 rfl (lv_at hl 0 rfl) ?_
      refine va_get (D := E.1) (ci := 3) (v := .int (nI y_6)) (C := RX2) (T := TX2) (N := 3) hx hb hts i_h_bringBack_X2 hown hK hP 0 rfl rfl 1 (by decide) (hts (.fieldLink RX2 17 "HushWatch$History" "next" "I") (List.mem_of_getElem? (i := 2) rfl)) (fun _ h9 => h9) rfl dX2_bringBack_46 ?_
      refine lv_bipush (v := 81) hx hb dX2_bringBack_49 (by decide) ?_
      refine lv_imul hx hb dX2_bringBack_51 ?_
      refine lv_topi (fun z_10 ez_10 => ?_)
      obtain rfl : z_10 = nI (y_6 * 81) := ez_10.trans (nI_mul _ 81)
      refine lv_aload_n hx hb dX2_bringBack_52 rfl (lv_at hl 1 rfl) ?_
      refine va_getN (D := E.1) (ci := 6) (v := .ref e1) (C := RX5) (T := TX5) (N := 6) hx hb hts i_h_bringBack_X5 hown hK hP 2 rfl rfl 0 (by decide) (nx hN 11 rfl) (fun _ h9 => h9) rfl dX2_bringBack_53 ?_
      refine lv_iconst (v := 0) hx hb dX2_bringBack_56 (by decide) ?_
      refine lv_bipush (v := 81) hx hb dX2_bringBack_57 (by decide) ?_
      refine va_copyi hx hb (hml.trans hl.1.symm) hown (hts (.methodLink RX2 27 arraycopyName) (List.mem_of_getElem? (i := 4) rfl)) (hts (.native arraycopyName) (List.mem_of_getElem? (i := 5) rfl)) (hts (.static arraycopyName) (List.mem_of_getElem? (i := 6) rfl)) (hts (.initialized "java/lang/System") (List.mem_of_getElem? (i := 7) rfl)) hK hP hD hS 1 3 0 0 rfl rfl rfl rfl rfl (nI_pos (by omega)) (by decide) (by decide) (by rw [nI_clamp (n := y_6 * 81) (by omega)]; show (y_6 * 81) + 81 ≤ 3240; omega) (by decide) (fun _ _ => rfl) (Nat.le_of_ble_eq_true rfl) (Nat.le_of_ble_eq_true rfl) dX2_bringBack_59 (fun H locs hP hD hS => ?_)
      have hP : va_P E.1 vwCl [(h, .inr (3, [.ref w1, .int (nI y_6), .int (nI j_9)])), (w1, .inl (E.2.1, 3240, .inl F)), (h2, .inr (6, [.ref e1, .ref e2, .int ea, .int eo, .ref e3, .ref e4])), (e1, .inl (E.2.1, 81, .inl (va_cpy F fo (nI (y_6 * 81) : Int32).toNatClampNeg (0 : Int32).toNatClampNeg (81 : Int32).toNatClampNeg)))] H := hP
      have hD : va_D A [(h, .inr (3, [.ref w1, .int (nI y_6), .int (nI j_9)])), (w1, .inl (E.2.1, 3240, .inl F)), (h2, .inr (6, [.ref e1, .ref e2, .int ea, .int eo, .ref e3, .ref e4])), (e1, .inl (E.2.1, 81, .inl (va_cpy F fo (nI (y_6 * 81) : Int32).toNatClampNeg (0 : Int32).toNatClampNeg (81 : Int32).toNatClampNeg)))] := hD
      obtain ⟨f_11, hf_11⟩ : ∃ g : Nat → Int32, g = va_cpy F fo (nI (y_6 * 81) : Int32).toNatClampNeg (0 : Int32).toNatClampNeg (81 : Int32).toNatClampNeg := ⟨_, rfl⟩
      rw [← hf_11] at hP hD
      refine lv_iconst (v := 1) hx hb dX2_bringBack_62 (by decide) ?_
      rw [hQ]
      have hP9 := hP.sub (ws' := [(h, .inr (3, [.ref w1, .int (nI y_6), .int (nI j_9)])), (w1, .inl (E.2.1, 3240, .inl F)), (h2, .inr (6, [.ref e1, .ref e2, .int ea, .int eo, .ref e3, .ref e4])), (e1, .inl (E.2.1, 81, .inl f_11))]) [0, 1, 2, 3] rfl
      have hD9 := hD.sub (ws' := [(h, .inr (3, [.ref w1, .int (nI y_6), .int (nI j_9)])), (w1, .inl (E.2.1, 3240, .inl F)), (h2, .inr (6, [.ref e1, .ref e2, .int ea, .int eo, .ref e3, .ref e4])), (e1, .inl (E.2.1, 81, .inl f_11))]) [0, 1, 2, 3] (by decide) rfl
      exact W.zret (v := 1) hx hb hr rfl (fun tt ht hW => ⟨⟨_, (y_6, j_9, f_11), rfl, ⟨Or.inr rfl, ⟨(by first | omega | (dsimp only; omega)), (by first | omega | (dsimp only; omega)), (by have q9 := hOK_back (n := y_6) (f := fo) hF (by omega); rw [← hf_11] at q9; exact q9)⟩⟩, by rw [ht]; exact hP9, hD9⟩, hS.F ht⟩) hS.2.2 dX2_bringBack_63
    refine lv_if_le (tgt := 26) hx hb dX2_bringBack_14 (by decide) (fun c_3 => ?_) (fun c_3 => ?_)
    ·
      have d_12 : n ≤ 0 := nc_le (a := n) (b := 0) (by omega) (by omega) c_3
      refine lv_bipush (v := 39) hx hb dX2_bringBack_26 (by decide) ?_
      exact K_7 39 ls (by omega) (lv_sub hl [0, 1] rfl)
    ·
      have d_13 : ¬ (n ≤ 0) := nc_le_n (a := n) (b := 0) (by omega) (by omega) c_3
      refine lv_aload_n hx hb dX2_bringBack_17 rfl (lv_at hl 0 rfl) ?_
      refine va_get (D := E.1) (ci := 3) (v := .int (nI n)) (C := RX2) (T := TX2) (N := 3) hx hb hts i_h_bringBack_X2 hown hK hP 0 rfl rfl 1 (by decide) (hts (.fieldLink RX2 17 "HushWatch$History" "next" "I") (List.mem_of_getElem? (i := 2) rfl)) (fun _ h9 => h9) rfl dX2_bringBack_18 ?_
      refine lv_iconst (v := 1) hx hb dX2_bringBack_21 (by decide) ?_
      refine lv_isub hx hb dX2_bringBack_22 ?_
      obtain ⟨j_15, ej_15⟩ : ∃ j : Nat, n = j + 1 := ⟨n - 1, by omega⟩
      refine lv_topi (fun z_14 ez_14 => ?_)
      obtain rfl : z_14 = nI j_15 := ez_14.trans (nI_subk (k := 1) ej_15)
      refine lv_goto (tgt := 28) hx hb dX2_bringBack_23 (by decide) ?_
      exact K_7 j_15 ls (by omega) (lv_sub hl [0, 1] rfl)
  ·
    have d_16 : ¬ (¬ d = 0) := nc_ne_n (a := d) (b := 0) (by omega) (by omega) c_1
    refine lv_iconst (v := 0) hx hb dX2_bringBack_7 (by decide) ?_
    rw [hQ]
    have hP9 := hP.sub (ws' := [(h, .inr (3, [.ref w1, .int (nI n), .int (nI d)])), (w1, .inl (E.2.1, 3240, .inl F)), (h2, .inr (6, [.ref e1, .ref e2, .int ea, .int eo, .ref e3, .ref e4])), (e1, .inl (E.2.1, 81, .inl fo))]) [0, 1, 2, 3] rfl
    have hD9 := hD.sub (ws' := [(h, .inr (3, [.ref w1, .int (nI n), .int (nI d)])), (w1, .inl (E.2.1, 3240, .inl F)), (h2, .inr (6, [.ref e1, .ref e2, .int ea, .int eo, .ref e3, .ref e4])), (e1, .inl (E.2.1, 81, .inl fo))]) [0, 1, 2, 3] (by decide) rfl
    exact W.zret (v := 0) hx hb hr rfl (fun tt ht hW => ⟨⟨_, (n, d, fo), rfl, ⟨Or.inl rfl, ⟨(by first | omega | (dsimp only; omega)), (by first | omega | (dsimp only; omega)), (hk)⟩⟩, by rw [ht]; exact hP9, hD9⟩, hS.F ht⟩) hS.2.2 dX2_bringBack_8
