/-! the reference: its reading methods end -/
theorem i0 {i : Nat} : (0 : Int32) + nI i = nI (0 + i) := by rw [show (0 : Int32) = nI 0 from rfl, nI_add]
theorem i8 {i : Nat} : (8 : Int32) + nI i = nI (8 + i) := by rw [show (8 : Int32) = nI 8 from rfl, nI_add]
theorem i16 {i : Nat} : (16 : Int32) + nI i = nI (16 + i) := by rw [show (16 : Int32) = nI 16 from rfl, nI_add]
theorem i24 {i : Nat} : (24 : Int32) + nI i = nI (24 + i) := by rw [show (24 : Int32) = nI 24 from rfl, nI_add]
theorem i32 {i : Nat} : (32 : Int32) + nI i = nI (32 + i) := by rw [show (32 : Int32) = nI 32 from rfl, nI_add]
theorem i40 {i : Nat} : (40 : Int32) + nI i = nI (40 + i) := by rw [show (40 : Int32) = nI 40 from rfl, nI_add]
theorem i48 {i : Nat} : (48 : Int32) + nI i = nI (48 + i) := by rw [show (48 : Int32) = nI 48 from rfl, nI_add]
theorem i56 {i : Nat} : (56 : Int32) + nI i = nI (56 + i) := by rw [show (56 : Int32) = nI 56 from rfl, nI_add]
theorem i76 {i : Nat} : (76 : Int32) + nI i = nI (76 + i) := by rw [show (76 : Int32) = nI 76 from rfl, nI_add]
/-- LOGGED and SIGNALS are what they were -/
def Kp (g' g : Nat → Int32) : Prop := g' 84 = g 84 ∧ g' 75 = g 75
theorem Kp.refl (g : Nat → Int32) : Kp g g := ⟨rfl, rfl⟩
theorem Kp.trans {a b c : Nat → Int32} (h : Kp a b) (k : Kp b c) : Kp a c := ⟨h.1.trans k.1, h.2.trans k.2⟩
theorem Kp.up {g' g : Nat → Int32} {i : Nat} {v : Int32} (h : Kp g' g) (h1 : ¬ 84 = i) (h2 : ¬ 75 = i) : Kp (upd g' i v) g := ⟨(upd_no h1).trans h.1, (upd_no h2).trans h.2⟩
theorem sl {n j : Nat} {x : Int32} (hn : n ≤ 8) (hj : j ≤ 8) (hx : x = nI j) (q : ¬ nI n ≤ x) : j < n := lt_of_lit (by omega) (by omega) hx q
theorem u_above {p : Int32} : Tt (F_X8_above p) (fun _ => True) := by
  unfold F_X8_above
  repeat' (first | (with_reducible refine tt_some ?_) | (with_reducible refine tt_nm ?_) | (with_reducible refine tt_ixn ?_ ?_ ?_) | (with_reducible refine tt_ite (fun _ => ?_) (fun _ => ?_)))
  all_goals (first | trivial | assumption | omega | decide | (refine ⟨rfl, rfl⟩))
theorem u_driftX {i : Nat} {g : Nat → Int32} (hi : i < 8) : Tt (F_X8_driftX (nI i) g) (fun _ => True) := by
  unfold F_X8_driftX
  simp only [i0, i8, i16, i24, i32, i40, i48, i56, i76]
  repeat' (first | (with_reducible refine tt_some ?_) | (with_reducible refine tt_nm ?_) | (with_reducible refine tt_ixn ?_ ?_ ?_) | (with_reducible refine tt_ite (fun _ => ?_) (fun _ => ?_)) | (with_reducible refine tt_bd1 (u_above) (fun _ _ => ?_)))
  all_goals (first | trivial | assumption | omega | decide | (refine ⟨rfl, rfl⟩))
theorem u_driftY {i : Nat} {g : Nat → Int32} (hi : i < 8) : Tt (F_X8_driftY (nI i) g) (fun _ => True) := by
  unfold F_X8_driftY
  simp only [i0, i8, i16, i24, i32, i40, i48, i56, i76]
  repeat' (first | (with_reducible refine tt_some ?_) | (with_reducible refine tt_nm ?_) | (with_reducible refine tt_ixn ?_ ?_ ?_) | (with_reducible refine tt_ite (fun _ => ?_) (fun _ => ?_)) | (with_reducible refine tt_bd1 (u_above) (fun _ _ => ?_)) | (with_reducible refine tt_bd1 (u_driftX ?_) (fun _ _ => ?_)))
  all_goals (first | trivial | assumption | omega | decide | (refine ⟨rfl, rfl⟩))
theorem u_sumN {K n b : Nat} {g : Nat → Int32} (hK : 200000 ≤ K) (hn : n ≤ 8) (hb : b ≤ 200) : Tt (F_X8_sum K (nI b) g (nI n)) (fun _ => True) := by
  unfold F_X8_sum
  refine tt_bd1 (P := fun _ => True) (tt_for (fun j u => u.2 = nI j) 8 (by omega) rfl (fun j u hj hu => ?_)) (fun _ _ => tt_some trivial)
  unfold B_X8_sum_4
  refine tt_ite (fun _ => tt_some (nx_r trivial)) (fun q => ?_)
  have jl := sl hn hj hu q
  rw [hu, nI_add]
  exact tt_ixn (by omega) (by decide) (tt_some (nx_l (by omega) (nx1 rfl)))
theorem u_sum16 {K n : Nat} {g : Nat → Int32} (hK : 200000 ≤ K) (hn : n ≤ 8) : Tt (F_X8_sum K 16 g (nI n)) (fun _ => True) := by
  exact u_sumN (b := 16) hK hn (by decide)
theorem u_sum24 {K n : Nat} {g : Nat → Int32} (hK : 200000 ≤ K) (hn : n ≤ 8) : Tt (F_X8_sum K 24 g (nI n)) (fun _ => True) := by
  exact u_sumN (b := 24) hK hn (by decide)
theorem u_sum48 {K n : Nat} {g : Nat → Int32} (hK : 200000 ≤ K) (hn : n ≤ 8) : Tt (F_X8_sum K 48 g (nI n)) (fun _ => True) := by
  exact u_sumN (b := 48) hK hn (by decide)
theorem u_pointX {p : Int32} {K n : Nat} {g : Nat → Int32} (hK : 200000 ≤ K) (hn : n ≤ 8) : Tt (F_X8_pointX K p g (nI n)) (fun _ => True) := by
  unfold F_X8_pointX
  repeat' (first | (with_reducible refine tt_some ?_) | (with_reducible refine tt_nm ?_) | (with_reducible refine tt_ixn ?_ ?_ ?_) | (with_reducible refine tt_ite (fun _ => ?_) (fun _ => ?_)) | (with_reducible refine tt_bd1 (u_above) (fun _ _ => ?_)) | (with_reducible refine tt_bd1 (u_driftX ?_) (fun _ _ => ?_)) | (with_reducible refine tt_bd1 (u_driftY ?_) (fun _ _ => ?_)) | (with_reducible refine tt_bd1 (u_sum16 ?_ ?_) (fun _ _ => ?_)) | (with_reducible refine tt_bd1 (u_sum24 ?_ ?_) (fun _ _ => ?_)) | (with_reducible refine tt_bd1 (u_sum48 ?_ ?_) (fun _ _ => ?_)))
  all_goals (first | trivial | assumption | omega | decide | (refine ⟨rfl, rfl⟩))
theorem u_pointY {p : Int32} {K n : Nat} {g : Nat → Int32} (hK : 200000 ≤ K) (hn : n ≤ 8) : Tt (F_X8_pointY K p g (nI n)) (fun _ => True) := by
  unfold F_X8_pointY
  repeat' (first | (with_reducible refine tt_some ?_) | (with_reducible refine tt_nm ?_) | (with_reducible refine tt_ixn ?_ ?_ ?_) | (with_reducible refine tt_ite (fun _ => ?_) (fun _ => ?_)) | (with_reducible refine tt_bd1 (u_above) (fun _ _ => ?_)) | (with_reducible refine tt_bd1 (u_driftX ?_) (fun _ _ => ?_)) | (with_reducible refine tt_bd1 (u_driftY ?_) (fun _ _ => ?_)) | (with_reducible refine tt_bd1 (u_sum16 ?_ ?_) (fun _ _ => ?_)) | (with_reducible refine tt_bd1 (u_sum24 ?_ ?_) (fun _ _ => ?_)) | (with_reducible refine tt_bd1 (u_sum48 ?_ ?_) (fun _ _ => ?_)) | (with_reducible refine tt_bd1 (u_pointX ?_ ?_) (fun _ _ => ?_)))
  all_goals (first | trivial | assumption | omega | decide | (refine ⟨rfl, rfl⟩))
theorem u_valueOf {p1 p2 : Int64} {g : Nat → Int32} : Tt (F_X8_valueOf p1 p2 g) (fun _ => True) := by
  unfold F_X8_valueOf J_X8_valueOf_12 J_X8_valueOf_26
  repeat' (first | (with_reducible refine tt_some ?_) | (with_reducible refine tt_nm ?_) | (with_reducible refine tt_ixn ?_ ?_ ?_) | (with_reducible refine tt_ite (fun _ => ?_) (fun _ => ?_)) | (with_reducible refine tt_bd1 (u_above) (fun _ _ => ?_)) | (with_reducible refine tt_bd1 (u_driftX ?_) (fun _ _ => ?_)) | (with_reducible refine tt_bd1 (u_driftY ?_) (fun _ _ => ?_)) | (with_reducible refine tt_bd1 (u_sum16 ?_ ?_) (fun _ _ => ?_)) | (with_reducible refine tt_bd1 (u_sum24 ?_ ?_) (fun _ _ => ?_)) | (with_reducible refine tt_bd1 (u_sum48 ?_ ?_) (fun _ _ => ?_)) | (with_reducible refine tt_bd1 (u_pointX ?_ ?_) (fun _ _ => ?_)) | (with_reducible refine tt_bd1 (u_pointY ?_ ?_) (fun _ _ => ?_)))
  all_goals (first | trivial | assumption | omega | decide | (refine ⟨rfl, rfl⟩))
theorem u_isAllowed {p1 p2 : Int32} {g : Nat → Int32} : Tt (F_X8_isAllowed p1 p2 g) (fun _ => True) := by
  unfold F_X8_isAllowed
  repeat' (first | (with_reducible refine tt_some ?_) | (with_reducible refine tt_nm ?_) | (with_reducible refine tt_ixn ?_ ?_ ?_) | (with_reducible refine tt_ite (fun _ => ?_) (fun _ => ?_)) | (with_reducible refine tt_bd1 (u_above) (fun _ _ => ?_)) | (with_reducible refine tt_bd1 (u_driftX ?_) (fun _ _ => ?_)) | (with_reducible refine tt_bd1 (u_driftY ?_) (fun _ _ => ?_)) | (with_reducible refine tt_bd1 (u_sum16 ?_ ?_) (fun _ _ => ?_)) | (with_reducible refine tt_bd1 (u_sum24 ?_ ?_) (fun _ _ => ?_)) | (with_reducible refine tt_bd1 (u_sum48 ?_ ?_) (fun _ _ => ?_)) | (with_reducible refine tt_bd1 (u_pointX ?_ ?_) (fun _ _ => ?_)) | (with_reducible refine tt_bd1 (u_pointY ?_ ?_) (fun _ _ => ?_)) | (with_reducible refine tt_bd1 (u_valueOf) (fun _ _ => ?_)))
  all_goals (first | trivial | assumption | omega | decide | (refine ⟨rfl, rfl⟩))
theorem u_isQuietBy {p1 p2 : Int32} {K n : Nat} {g : Nat → Int32} (hK : 200000 ≤ K) (hn : n ≤ 8) : Tt (F_X8_isQuietBy K p1 p2 g (nI n)) (fun _ => True) := by
  unfold F_X8_isQuietBy
  repeat' (first | (with_reducible refine tt_some ?_) | (with_reducible refine tt_nm ?_) | (with_reducible refine tt_ixn ?_ ?_ ?_) | (with_reducible refine tt_ite (fun _ => ?_) (fun _ => ?_)) | (with_reducible refine tt_bd1 (u_above) (fun _ _ => ?_)) | (with_reducible refine tt_bd1 (u_driftX ?_) (fun _ _ => ?_)) | (with_reducible refine tt_bd1 (u_driftY ?_) (fun _ _ => ?_)) | (with_reducible refine tt_bd1 (u_sum16 ?_ ?_) (fun _ _ => ?_)) | (with_reducible refine tt_bd1 (u_sum24 ?_ ?_) (fun _ _ => ?_)) | (with_reducible refine tt_bd1 (u_sum48 ?_ ?_) (fun _ _ => ?_)) | (with_reducible refine tt_bd1 (u_pointX ?_ ?_) (fun _ _ => ?_)) | (with_reducible refine tt_bd1 (u_pointY ?_ ?_) (fun _ _ => ?_)) | (with_reducible refine tt_bd1 (u_valueOf) (fun _ _ => ?_)) | (with_reducible refine tt_bd1 (u_isAllowed) (fun _ _ => ?_)))
  all_goals (first | trivial | assumption | omega | decide | (refine ⟨rfl, rfl⟩))
theorem u_isQuiet {i : Nat} (hi : i < 8) {K n : Nat} {g : Nat → Int32} (hK : 200000 ≤ K) (hn : n ≤ 8) : Tt (F_X8_isQuiet K (nI i) g (nI n)) (fun _ => True) := by
  unfold F_X8_isQuiet
  repeat' (first | (with_reducible refine tt_some ?_) | (with_reducible refine tt_nm ?_) | (with_reducible refine tt_ixn ?_ ?_ ?_) | (with_reducible refine tt_ite (fun _ => ?_) (fun _ => ?_)) | (with_reducible refine tt_bd1 (u_above) (fun _ _ => ?_)) | (with_reducible refine tt_bd1 (u_driftX ?_) (fun _ _ => ?_)) | (with_reducible refine tt_bd1 (u_driftY ?_) (fun _ _ => ?_)) | (with_reducible refine tt_bd1 (u_sum16 ?_ ?_) (fun _ _ => ?_)) | (with_reducible refine tt_bd1 (u_sum24 ?_ ?_) (fun _ _ => ?_)) | (with_reducible refine tt_bd1 (u_sum48 ?_ ?_) (fun _ _ => ?_)) | (with_reducible refine tt_bd1 (u_pointX ?_ ?_) (fun _ _ => ?_)) | (with_reducible refine tt_bd1 (u_pointY ?_ ?_) (fun _ _ => ?_)) | (with_reducible refine tt_bd1 (u_valueOf) (fun _ _ => ?_)) | (with_reducible refine tt_bd1 (u_isAllowed) (fun _ _ => ?_)) | (with_reducible refine tt_bd1 (u_isQuietBy ?_ ?_) (fun _ _ => ?_)))
  all_goals (first | trivial | assumption | omega | decide | (refine ⟨rfl, rfl⟩))
theorem u_isFrozen {i : Nat} {g : Nat → Int32} (hi : i < 8) : Tt (F_X8_isFrozen (nI i) g) (fun _ => True) := by
  unfold F_X8_isFrozen
  simp only [i0, i8, i16, i24, i32, i40, i48, i56, i76]
  repeat' (first | (with_reducible refine tt_some ?_) | (with_reducible refine tt_nm ?_) | (with_reducible refine tt_ixn ?_ ?_ ?_) | (with_reducible refine tt_ite (fun _ => ?_) (fun _ => ?_)) | (with_reducible refine tt_bd1 (u_above) (fun _ _ => ?_)) | (with_reducible refine tt_bd1 (u_driftX ?_) (fun _ _ => ?_)) | (with_reducible refine tt_bd1 (u_driftY ?_) (fun _ _ => ?_)) | (with_reducible refine tt_bd1 (u_sum16 ?_ ?_) (fun _ _ => ?_)) | (with_reducible refine tt_bd1 (u_sum24 ?_ ?_) (fun _ _ => ?_)) | (with_reducible refine tt_bd1 (u_sum48 ?_ ?_) (fun _ _ => ?_)) | (with_reducible refine tt_bd1 (u_pointX ?_ ?_) (fun _ _ => ?_)) | (with_reducible refine tt_bd1 (u_pointY ?_ ?_) (fun _ _ => ?_)) | (with_reducible refine tt_bd1 (u_valueOf) (fun _ _ => ?_)) | (with_reducible refine tt_bd1 (u_isAllowed) (fun _ _ => ?_)) | (with_reducible refine tt_bd1 (u_isQuietBy ?_ ?_) (fun _ _ => ?_)) | (with_reducible refine tt_bd1 (u_isQuiet ?_ ?_ ?_) (fun _ _ => ?_)))
  all_goals (first | trivial | assumption | omega | decide | (refine ⟨rfl, rfl⟩))
theorem u_has {p q : Int32} : Tt (F_X8_has p q) (fun _ => True) := by
  unfold F_X8_has
  repeat' (first | (with_reducible refine tt_some ?_) | (with_reducible refine tt_nm ?_) | (with_reducible refine tt_ixn ?_ ?_ ?_) | (with_reducible refine tt_ite (fun _ => ?_) (fun _ => ?_)) | (with_reducible refine tt_bd1 (u_above) (fun _ _ => ?_)) | (with_reducible refine tt_bd1 (u_driftX ?_) (fun _ _ => ?_)) | (with_reducible refine tt_bd1 (u_driftY ?_) (fun _ _ => ?_)) | (with_reducible refine tt_bd1 (u_sum16 ?_ ?_) (fun _ _ => ?_)) | (with_reducible refine tt_bd1 (u_sum24 ?_ ?_) (fun _ _ => ?_)) | (with_reducible refine tt_bd1 (u_sum48 ?_ ?_) (fun _ _ => ?_)) | (with_reducible refine tt_bd1 (u_pointX ?_ ?_) (fun _ _ => ?_)) | (with_reducible refine tt_bd1 (u_pointY ?_ ?_) (fun _ _ => ?_)) | (with_reducible refine tt_bd1 (u_valueOf) (fun _ _ => ?_)) | (with_reducible refine tt_bd1 (u_isAllowed) (fun _ _ => ?_)) | (with_reducible refine tt_bd1 (u_isQuietBy ?_ ?_) (fun _ _ => ?_)) | (with_reducible refine tt_bd1 (u_isQuiet ?_ ?_ ?_) (fun _ _ => ?_)) | (with_reducible refine tt_bd1 (u_isFrozen ?_) (fun _ _ => ?_)))
  all_goals (first | trivial | assumption | omega | decide | (refine ⟨rfl, rfl⟩))
/-- one of the eight lowest bits is set -/
def Ht (x : Int32) : Prop := ∃ i, i < 8 ∧ (x >>> (nI i &&& 31)) &&& 1 = 1
theorem and1 (x : Int32) : x &&& 1 = 0 ∨ x &&& 1 = 1 := by
  have h : (x &&& 1).toBitVec.toNat < 2 := by
    show (x.toBitVec &&& 1#32).toNat < 2
    rw [BitVec.toNat_and]
    exact Nat.lt_of_le_of_lt Nat.and_le_right (by decide)
  have e : x &&& 1 = nI (x &&& 1).toBitVec.toNat := by
    apply Int32.toBitVec_inj.mp
    show (x &&& 1).toBitVec = BitVec.ofNat 32 _
    rw [BitVec.ofNat_toNat, BitVec.setWidth_eq]
  generalize (x &&& 1).toBitVec.toNat = m at h e
  rcases (show m = 0 ∨ m = 1 by omega) with rfl | rfl
  · exact Or.inl e
  · exact Or.inr e
theorem or_and1 (x y : Int32) : (x ||| y) &&& 1 = (x &&& 1) ||| (y &&& 1) := by
  apply Int32.toBitVec_inj.mp
  show (x.toBitVec ||| y.toBitVec) &&& 1#32 = (x.toBitVec &&& 1#32) ||| (y.toBitVec &&& 1#32)
  ext i hi
  simp only [BitVec.getElem_and, BitVec.getElem_or, Bool.and_or_distrib_right]
theorem Ht.orl {x y : Int32} (h : Ht x) : Ht (x ||| y) := by
  obtain ⟨i, hi, e⟩ := h
  refine ⟨i, hi, ?_⟩
  rw [Int32.shiftRight_or, or_and1, e]
  rcases and1 (y >>> (nI i &&& 31)) with z | z <;> rw [z] <;> rfl
theorem Ht.bit : ∀ i, i < 8 → Ht ((1 : Int32) <<< (nI i &&& 31)) := by
  intro i hi
  refine ⟨i, hi, ?_⟩
  revert i
  decide +kernel
theorem u_bits {K : Nat} {p : Int32} (hK : 200000 ≤ K) (h : Ht p) : Tt (F_X8_bits K p) (fun r => ¬ r = 0) := by
  unfold F_X8_bits
  obtain ⟨i0, hi0, e0⟩ := h
  refine tt_bd1 (P := fun r => ¬ r = 0) (tt_for (fun j u => u.2 = nI j ∧ ∃ c, c ≤ j ∧ u.1 = nI c ∧ (i0 < j → 1 ≤ c)) 8 (by omega) ⟨rfl, 0, Nat.le_refl _, rfl, fun z => absurd z (Nat.not_lt_zero _)⟩ (fun j u hj hu => ?_)) (fun r hr => tt_some hr)
  obtain ⟨h2, c, hc, h1, h3⟩ := hu
  unfold B_X8_bits_4
  refine tt_ite (fun q => tt_some (nx_r ?_)) (fun q => tt_some ?_)
  · rw [h2] at q
    have q8 : 8 ≤ j := (nI_leI (a := 8) (b := j) (by omega) (by omega)).mp q
    have c1 : 1 ≤ c := h3 (by omega)
    rw [h1]
    intro z
    have := (nI_eq (a := c) (b := 0) (by omega) (by omega)).mp z
    omega
  · have jl : j < 8 := lt_of_lit (by decide) (by omega) h2 q
    refine nx_l jl ⟨nx1 h2, ?_⟩
    rw [h2, h1]
    rcases and1 (p >>> (nI j &&& 31)) with z | z
    · refine ⟨c, by omega, ?_, fun w => ?_⟩
      · show nI c + (p >>> (nI j &&& 31) &&& 1) = nI c
        rw [z]
        exact Int32.add_zero _
      · by_cases e : i0 = j
        · rw [e, z] at e0
          exact absurd e0 (by decide)
        · exact h3 (by omega)
    · refine ⟨c + 1, by omega, ?_, fun w => by omega⟩
      show nI c + (p >>> (nI j &&& 31) &&& 1) = nI (c + 1)
      rw [z, nI_1]
theorem tt_zb {α : Type} {v : Int32} {g : Option α} {Q : α → Prop} (hv : v = 0 ∨ v = 1) (h : Tt g Q) : Tt (zbF v g) Q := by unfold zbF; rw [if_pos hv]; exact h
theorem u_shares {K n : Nat} {p : Int32} {g sx sy : Nat → Int32} (hK : 200000 ≤ K) (hn : n ≤ 8) (h : Ht p) : Tt (F_X8_shares K p g (nI n) sx sy) (fun _ => True) := by
  unfold F_X8_shares
  refine tt_bd1 (u_bits hK h) (fun r hr => ?_)
  refine tt_bd2 (P := fun _ => True) (tt_for (fun j u => u.2.2 = nI j) 8 (by omega) rfl (fun j u hj hu => ?_)) (fun x3 x4 _ => ?_)
  · unfold B_X8_shares_13 J_X8_shares_42_r14
    refine tt_ite (fun _ => tt_some (nx_r trivial)) (fun q => ?_)
    have jl := sl hn hj hu q
    rw [hu]
    exact tt_bd1 u_has (fun _ _ => tt_ite (fun _ => tt_bd1 u_has (fun _ _ => tt_ite (fun _ => tt_some (nx_l (by omega) (nx1 rfl))) (fun _ => tt_bd1 (u_driftY (by omega)) (fun _ _ => tt_some (nx_l (by omega) (nx1 rfl)))))) (fun _ => tt_bd1 (u_driftX (by omega)) (fun _ _ => tt_bd1 u_has (fun _ _ => tt_ite (fun _ => tt_some (nx_l (by omega) (nx1 rfl))) (fun _ => tt_bd1 (u_driftY (by omega)) (fun _ _ => tt_some (nx_l (by omega) (nx1 rfl))))))))
  · refine tt_bd1 (t_floorMod hr) (fun r19 _ => tt_bd1 (t_floorMod hr) (fun r21 _ => ?_))
    refine tt_bd3 (P := fun x : Int32 × (Nat → Int32) × (Nat → Int32) => x.1 = 0 ∨ x.1 = 1) (tt_for (fun j u => u.2.2.2.1 = nI j ∧ (u.2.2.1 = 0 ∨ u.2.2.1 = 1)) 8 (by omega) ⟨rfl, Or.inr rfl⟩ (fun j u hj hu => ?_)) (fun x7 _ _ hx => tt_zb hx (tt_some trivial))
    unfold B_X8_shares_95
    refine tt_ite (fun _ => tt_some (nx_r hu.2)) (fun q => tt_bd1 u_has (fun _ _ => ?_))
    have jl := sl hn hj hu.1 q
    have j8 : j < 8 := by omega
    have J2 : ∀ k0 k1 x f', Tt (J_X8_shares_158_r96 K (nI n) g k0 k1 u.2.2.2.1 u.1 u.2.1 u.2.2.1 u.2.2.2.1 f' x) (Nx (fun j u => u.2.2.2.1 = nI j ∧ (u.2.2.1 = 0 ∨ u.2.2.1 = 1)) (fun x : Int32 × (Nat → Int32) × (Nat → Int32) => x.1 = 0 ∨ x.1 = 1) 8 j) := by
      intro k0 k1 x f'
      unfold J_X8_shares_158_r96
      rw [hu.1]
      exact tt_ixn j8 (by decide) (tt_nm (tt_ite (fun _ => tt_some (nx_l j8 ⟨nx1 rfl, Or.inl rfl⟩)) (fun _ => tt_ixn j8 (by decide) (tt_bd1 (u_pointX hK hn) (fun _ _ => tt_ixn j8 (by decide) (tt_bd1 (u_pointY hK hn) (fun _ _ => tt_bd1 u_isAllowed (fun _ _ => tt_ite (fun _ => tt_some (nx_l j8 ⟨nx1 rfl, Or.inl rfl⟩)) (fun _ => tt_some (nx_l j8 ⟨nx1 rfl, Or.inr rfl⟩))))))))))
    have J1 : ∀ k0 k1, Tt (J_X8_shares_134_r96 K (nI n) g k0 k1 u.2.2.2.1 r x4 u.1 u.2.1 u.2.2.1 u.2.2.2.1 u.2.2.2.2.1 u.2.2.2.2.2) (Nx (fun j u => u.2.2.2.1 = nI j ∧ (u.2.2.1 = 0 ∨ u.2.2.1 = 1)) (fun x : Int32 × (Nat → Int32) × (Nat → Int32) => x.1 = 0 ∨ x.1 = 1) 8 j) := by
      intro k0 k1
      unfold J_X8_shares_134_r96
      refine tt_ix (by rw [hu.1]; exact nI_in j8 (by decide)) (tt_nm (tt_bd1 (t_floorDiv hr) (fun _ _ => tt_ite (fun _ => J2 _ _ _ _) (fun _ => J2 _ _ _ _))))
    exact tt_ite (fun _ => tt_some (nx_l j8 ⟨nx1 hu.1, hu.2⟩)) (fun _ => tt_bd1 (t_floorDiv hr) (fun _ _ => tt_ite (fun _ => J1 _ _) (fun _ => J1 _ _)))
