/-! tokens -/
theorem i64le {x y : Int32} : x.toInt64 ≤ y.toInt64 ↔ x ≤ y := by rw [Int64.le_iff_toInt_le, Int32.toInt_toInt64, Int32.toInt_toInt64, Int32.le_iff_toInt_le]
theorem i64lt {x y : Int32} : x.toInt64 < y.toInt64 ↔ x < y := by rw [Int64.lt_iff_toInt_lt, Int32.toInt_toInt64, Int32.toInt_toInt64, Int32.lt_iff_toInt_lt]
theorem lt_not64 {x y : Int64} : x < y ↔ ¬ y ≤ x := by
  rw [Int64.lt_iff_toInt_lt, Int64.le_iff_toInt_le]
  omega
theorem m_in {x lo hi : Int64} : F_X8_in x lo hi = some (if lo ≤ x ∧ x ≤ hi then 1 else 0) := by
  unfold F_X8_in
  by_cases h1 : lo ≤ x
  · rw [if_neg (fun q => lt_not64.mp ((lg_cmp_lt x lo).mp q) h1)]
    by_cases h2 : x ≤ hi
    · rw [if_neg (fun q => lt_not64.mp ((lg_cmp_gt x hi).mp q) h2), if_pos ⟨h1, h2⟩]
    · rw [if_pos ((lg_cmp_gt x hi).mpr (lt_not64.mpr h2)), if_neg (fun q => h2 q.2)]
  · rw [if_pos ((lg_cmp_lt x lo).mpr (lt_not64.mpr h1)), if_neg (fun q => h1 q.1)]
theorem m_inI {x lo hi : Int32} : F_X8_in x.toInt64 lo.toInt64 hi.toInt64 = some (if lo ≤ x ∧ x ≤ hi then 1 else 0) := by
  rw [m_in]
  by_cases h : lo ≤ x ∧ x ≤ hi
  · rw [if_pos h, if_pos ⟨i64le.mpr h.1, i64le.mpr h.2⟩]
  · rw [if_neg h, if_neg (fun q => h ⟨i64le.mp q.1, i64le.mp q.2⟩)]
def d0 (sg : Nat → Int32) (b : Nat) : Nat := if sg b = 45 then b + 1 else b
def dE (n : Nat) (sg : Nat → Int32) (b : Nat) : Nat := sc (isD sg) n (d0 sg b)
def nD (n : Nat) (sg : Nat → Int32) (b : Nat) : Nat := dE n sg b - d0 sg b
def nv (sg : Nat → Int32) (d : Nat) : Nat → Int32
  | 0 => 0
  | i + 1 => nv sg d i * 10 + sg (d + i) - 48
def nN (n : Nat) (sg : Nat → Int32) (b : Nat) : Int32 := if sg b = 45 then -(nv sg (d0 sg b) (nD n sg b)) else nv sg (d0 sg b) (nD n sg b)
theorem d0_le {n b : Nat} {sg : Nat → Int32} (h : Sg n sg) (hb : b ≤ n) : d0 sg b ≤ n := by
  unfold d0
  split
  · rename_i q
    have : b < n := Nat.lt_of_not_le (fun z => by rw [h.2.1 b z] at q; exact absurd q (by decide))
    omega
  · exact hb
theorem d0_ge {b : Nat} {sg : Nat → Int32} : b ≤ d0 sg b := by unfold d0; split <;> omega
theorem dE_le {n b : Nat} {sg : Nat → Int32} (h : Sg n sg) (hb : b ≤ n) : dE n sg b ≤ n := sc_le (isD_n h) (d0_le h hb)
theorem dE_ge {n b : Nat} {sg : Nat → Int32} (h : Sg n sg) (hb : b ≤ n) : d0 sg b ≤ dE n sg b := sc_ge (isD_n h) (d0_le h hb)
theorem dE_in {n b i : Nat} {sg : Nat → Int32} (h : Sg n sg) (hb : b ≤ n) (h1 : d0 sg b ≤ i) (h2 : i < dE n sg b) : 48 ≤ sg i ∧ sg i ≤ 57 := of_decide_eq_true (sc_in (isD_n h) (d0_le h hb) h1 h2)
theorem dE_end {n b : Nat} {sg : Nat → Int32} (h : Sg n sg) (hb : b ≤ n) : ¬ (48 ≤ sg (dE n sg b) ∧ sg (dE n sg b) ≤ 57) := of_decide_eq_false (sc_end (isD_n h) (d0_le h hb))
/-- the digits' value as the class reckons it: seven of them at most -/
theorem c_digits {K n b : Nat} {sg bytes : Nat → Int32} (h : Sg n sg) (hb : TpC n sg bytes) (hK : 400 ≤ K) (hbn : b ≤ n) : lpF (fun u9 : Int32 × Int32 => B_X3_readNumber_56 (nI n) bytes (nI (d0 sg b)) u9.1 u9.2) K ((0 : Int32), nI (d0 sg b)) = some (nv sg (d0 sg b) (if nD n sg b ≤ 7 then nD n sg b else 7), nI (dE n sg b)) := by
  have h1 := h.1
  have h2 := d0_le h hbn
  have h3 := dE_le h hbn
  have h4 := dE_ge h hbn
  refine lp_for (fun i => ((nv sg (d0 sg b) (if i ≤ 7 then i else 7), nI (d0 sg b + i)) : Int32 × Int32)) (n := nD n sg b) (by unfold nD; omega) (fun i hi => ?_) ?_
  · show B_X3_readNumber_56 (nI n) bytes (nI (d0 sg b)) (nv sg (d0 sg b) (if i ≤ 7 then i else 7)) (nI (d0 sg b + i)) = _
    unfold nD at hi
    unfold B_X3_readNumber_56
    rw [xle (by omega) (by omega), if_neg (by omega), c_sign h hb (by omega), xb1, c_isDigit, xb1, if_pos (dE_in h hbn (i := d0 sg b + i) (by omega) (by omega)), if_neg (by decide), xsub (by omega), x7, xle (by decide) (by omega)]
    by_cases q : 7 ≤ d0 sg b + i - d0 sg b
    · rw [if_pos q, nI_1]
      show some (Sum.inl (_, _)) = some (Sum.inl (_, _))
      rw [show (if i ≤ 7 then i else 7) = 7 by split <;> omega, show (if i + 1 ≤ 7 then i + 1 else 7) = 7 by split <;> omega, Nat.add_assoc]
    · rw [if_neg q, xb1, nI_1]
      show some (Sum.inl (_, _)) = some (Sum.inl (_, _))
      rw [if_pos (show i ≤ 7 by omega), if_pos (show i + 1 ≤ 7 by omega), Nat.add_assoc]
      rfl
  · show B_X3_readNumber_56 (nI n) bytes (nI (d0 sg b)) (nv sg (d0 sg b) (if nD n sg b ≤ 7 then nD n sg b else 7)) (nI (d0 sg b + nD n sg b)) = _
    rw [show d0 sg b + nD n sg b = dE n sg b by unfold nD; omega]
    unfold B_X3_readNumber_56
    rw [c_sign h hb (by omega), xb1, c_isDigit, xb1, if_neg (dE_end h hbn), if_pos rfl]
    split <;> rfl
abbrev okN (n : Nat) (sg : Nat → Int32) (lo hi : Int32) (b : Nat) : Prop := 1 ≤ nD n sg b ∧ nD n sg b ≤ 7 ∧ lo ≤ nN n sg b ∧ nN n sg b ≤ hi
theorem c_readNumber {K n a : Nat} {sg bytes : Nat → Int32} {lo hi nu f : Int32} (h : Sg n sg) (hb : TpC n sg bytes) (hK : 400 ≤ K) (ha : a ≤ n) : ∃ at' nu', F_X3_readNumber K lo hi bytes (nI n) (nI a) nu f = some (if okN n sg lo hi (skp n sg a) then 1 else 0, at', nu', if okN n sg lo hi (skp n sg a) then f else nI (skp n sg a)) ∧ (okN n sg lo hi (skp n sg a) → at' = nI (dE n sg (skp n sg a)) ∧ nu' = nN n sg (skp n sg a)) := by
  have h1 := h.1
  have h2 := skp_le h ha
  generalize hbe : skp n sg a = b at h2 ⊢
  have h3 := dE_le h h2
  have h4 := dE_ge h h2
  have h5 := d0_le h h2
  have fin : ∀ k0 : Int32, (nD n sg b ≤ 7 → k0 = nN n sg b) → ∃ at' nu', J_X3_readNumber_157 lo hi k0 (nI b) (nI (nD n sg b)) (nI (dE n sg b)) f = some (if okN n sg lo hi b then 1 else 0, at', nu', if okN n sg lo hi b then f else nI b) ∧ (okN n sg lo hi b → at' = nI (dE n sg b) ∧ nu' = nN n sg b) := by
    intro k0 hk
    refine ⟨nI (dE n sg b), k0, ?_, fun q => ⟨rfl, hk q.2.1⟩⟩
    unfold J_X3_readNumber_157
    rw [x1, xltn (by unfold nD; omega) (by decide), x7, xltn (by decide) (by unfold nD; omega)]
    by_cases q1 : nD n sg b < 1
    · rw [if_pos q1, if_neg (fun z => by have := z.1; omega), if_neg (fun z => by have := z.1; omega)]; rfl
    · rw [if_neg q1]
      by_cases q2 : 7 < nD n sg b
      · rw [if_pos q2, if_neg (fun z => by have := z.2.1; omega), if_neg (fun z => by have := z.2.1; omega)]; rfl
      · rw [if_neg q2]
        have e := hk (by omega)
        subst e
        by_cases q3 : lo ≤ nN n sg b
        · rw [if_neg (fun z => lt_not.mp z q3)]
          by_cases q4 : nN n sg b ≤ hi
          · rw [if_pos q4, if_pos ⟨by omega, by omega, q3, q4⟩, if_pos ⟨by omega, by omega, q3, q4⟩]
          · rw [if_neg q4, if_neg (fun z => q4 z.2.2.2), if_neg (fun z => q4 z.2.2.2)]; rfl
        · rw [if_pos (lt_not.mpr q3), if_neg (fun z => q3 z.2.2.1), if_neg (fun z => q3 z.2.2.1)]; rfl
  unfold F_X3_readNumber
  rw [c_skip h hb hK ha, xb1, hbe, c_sign h hb (by omega), xb1]
  have go : ∀ (k0 : Int32) (c : Int32), (c = nI (d0 sg b)) → ((k0 = 0) ↔ ¬ sg b = 45) → J_X3_readNumber_47 K lo hi (nI n) bytes (nI b) k0 c f = J_X3_readNumber_157 lo hi (if sg b = 45 then -(nv sg (d0 sg b) (if nD n sg b ≤ 7 then nD n sg b else 7)) else nv sg (d0 sg b) (if nD n sg b ≤ 7 then nD n sg b else 7)) (nI b) (nI (nD n sg b)) (nI (dE n sg b)) f := by
    intro k0 c hc hk
    subst hc
    unfold J_X3_readNumber_47
    rw [c_digits h hb hK h2, xb2]
    unfold J_X3_readNumber_134
    rw [xsub (by omega), show dE n sg b - d0 sg b = nD n sg b from rfl]
    by_cases q : sg b = 45
    · rw [if_neg (fun z => (hk.mp z) q), if_pos q]
    · rw [if_pos (hk.mpr q), if_neg q]
  have hfin := fin (if sg b = 45 then -(nv sg (d0 sg b) (if nD n sg b ≤ 7 then nD n sg b else 7)) else nv sg (d0 sg b) (if nD n sg b ≤ 7 then nD n sg b else 7)) (fun q => by rw [if_pos q]; rfl)
  by_cases q : sg b = 45
  · rw [if_pos q]
    unfold J_X3_readNumber_30
    rw [if_neg (by decide), go 1 _ (by rw [nI_1]; unfold d0; rw [if_pos q]) ⟨fun z => absurd z (by decide), fun z => absurd q z⟩]
    exact hfin
  · rw [if_neg q]
    unfold J_X3_readNumber_30
    rw [if_pos rfl, go 0 _ (by unfold d0; rw [if_neg q]) ⟨fun _ => q, fun _ => rfl⟩]
    exact hfin
theorem m_digits {K n b : Nat} {sg tape : Nat → Int32} (h : Sg n sg) (hb : TpM n sg tape) (hK : 400 ≤ K) (hbn : b ≤ n) : lpF (fun u9 : Int32 × Int32 × Int32 => B_X8_readNumber_40 (nI n) tape u9.1 u9.2.1 u9.2.2) K ((0 : Int32), nI (d0 sg b), (0 : Int32)) = some (nI (nD n sg b), nI (dE n sg b), if nD n sg b ≤ 7 then nv sg (d0 sg b) (nD n sg b) else 0) := by
  have h1 := h.1
  have h2 := d0_le h hbn
  have h3 := dE_le h hbn
  have h4 := dE_ge h hbn
  refine lp_for (fun i => ((nI i, nI (d0 sg b + i), if i ≤ 7 then nv sg (d0 sg b) i else 0) : Int32 × Int32 × Int32)) (n := nD n sg b) (by unfold nD; omega) (fun i hi => ?_) ?_
  · show B_X8_readNumber_40 (nI n) tape (nI i) (nI (d0 sg b + i)) (if i ≤ 7 then nv sg (d0 sg b) i else 0) = _
    unfold nD at hi
    unfold B_X8_readNumber_40
    rw [m_here h hb (by omega), xb1, m_isDigit, xb1, if_pos (dE_in h hbn (i := d0 sg b + i) (by omega) (by omega)), if_neg (by decide), x7, xle (by decide) (by omega)]
    by_cases q : 7 ≤ i
    · rw [if_pos q, nI_1, nI_1]
      show some (Sum.inl (_, _, _)) = some (Sum.inl (_, _, _))
      rw [if_neg (show ¬ i + 1 ≤ 7 by omega), Nat.add_assoc]
    · rw [if_neg q, xb1, nI_1, nI_1]
      show some (Sum.inl (_, _, _)) = some (Sum.inl (_, _, _))
      rw [if_pos (show i ≤ 7 by omega), if_pos (show i + 1 ≤ 7 by omega), Nat.add_assoc, Int32.mul_comm 10]
      rfl
  · show B_X8_readNumber_40 (nI n) tape (nI (nD n sg b)) (nI (d0 sg b + nD n sg b)) (if nD n sg b ≤ 7 then nv sg (d0 sg b) (nD n sg b) else 0) = _
    rw [show d0 sg b + nD n sg b = dE n sg b by unfold nD; omega]
    unfold B_X8_readNumber_40
    rw [m_here h hb (by omega), xb1, m_isDigit, xb1, if_neg (dE_end h hbn), if_pos rfl]
theorem m_readNumber {K n b : Nat} {sg tape : Nat → Int32} {pa pn : Int32} (h : Sg n sg) (hb : TpM n sg tape) (hK : 400 ≤ K) (hbn : b ≤ n) : ∃ X, F_X8_readNumber K tape (nI n) (nI b) pa pn = some (nI (dE n sg b), if 1 ≤ nD n sg b ∧ nD n sg b ≤ 7 then 2 else 5, X) ∧ (nD n sg b ≤ 7 → X = nN n sg b) := by
  have h1 := h.1
  have h3 := dE_le h hbn
  have fin : ∀ k0 : Int32, J_X8_readNumber_112 k0 (nI (nD n sg b)) (nI (dE n sg b)) = some (nI (dE n sg b), if 1 ≤ nD n sg b ∧ nD n sg b ≤ 7 then 2 else 5, k0) := by
    intro k0
    unfold J_X8_readNumber_112
    rw [show (1 : Int64) = (1 : Int32).toInt64 by decide, show (7 : Int64) = (7 : Int32).toInt64 by decide, m_inI, xb1]
    have e : (1 ≤ nI (nD n sg b) ∧ nI (nD n sg b) ≤ 7) ↔ (1 ≤ nD n sg b ∧ nD n sg b ≤ 7) := by rw [x1, x7, ple (by decide) (by unfold nD; omega), ple (by unfold nD; omega) (by decide)]
    by_cases q : 1 ≤ nD n sg b ∧ nD n sg b ≤ 7
    · rw [if_pos (e.mpr q), if_pos q, if_neg (by decide)]
    · rw [if_neg (fun z => q (e.mp z)), if_neg q, if_pos rfl]
  unfold F_X8_readNumber
  rw [m_here h hb (by omega), xb1]
  have go : ∀ (k0 k1 : Int32), (nI b + k1 = nI (d0 sg b)) → ((k0 = 0) ↔ ¬ sg b = 45) → J_X8_readNumber_29 K (nI n) tape k1 (nI b) k0 = some (nI (dE n sg b), if 1 ≤ nD n sg b ∧ nD n sg b ≤ 7 then 2 else 5, if sg b = 45 then -(if nD n sg b ≤ 7 then nv sg (d0 sg b) (nD n sg b) else 0) else (if nD n sg b ≤ 7 then nv sg (d0 sg b) (nD n sg b) else 0)) := by
    intro k0 k1 hc hk
    unfold J_X8_readNumber_29
    rw [hc, m_digits h hb hK hbn, xb3]
    by_cases q : sg b = 45
    · rw [if_neg (fun z => (hk.mp z) q), if_pos q]; exact fin _
    · rw [if_pos (hk.mpr q), if_neg q]; exact fin _
  refine ⟨if sg b = 45 then -(if nD n sg b ≤ 7 then nv sg (d0 sg b) (nD n sg b) else 0) else (if nD n sg b ≤ 7 then nv sg (d0 sg b) (nD n sg b) else 0), ?_, fun q => ?_⟩
  rotate_left
  · exact (show (if sg b = 45 then -(if nD n sg b ≤ 7 then nv sg (d0 sg b) (nD n sg b) else 0) else (if nD n sg b ≤ 7 then nv sg (d0 sg b) (nD n sg b) else 0)) = nN n sg b by rw [if_pos q]; rfl)
  · by_cases q : sg b = 45
    · rw [if_pos q]
      unfold J_X8_readNumber_14
      rw [if_neg (by decide)]
      exact go 1 1 (by rw [nI_1]; unfold d0; rw [if_pos q]) ⟨fun z => absurd z (by decide), fun z => absurd q z⟩
    · rw [if_neg q]
      unfold J_X8_readNumber_14
      rw [if_pos rfl]
      exact go 0 0 (by rw [x0, nI_add]; unfold d0; rw [if_neg q]; rfl) ⟨fun _ => q, fun _ => rfl⟩
def wc (sg : Nat → Int32) (b : Nat) : Nat → Int64
  | 0 => 0
  | i + 1 => if i < 8 then 32 * wc sg b i + (sg (b + i)).toInt64 - 97 + 1 else 0
theorem m_readWord {K n b : Nat} {sg tape : Nat → Int32} {pa : Int32} {pw : Int64} (h : Sg n sg) (hb : TpM n sg tape) (hK : 400 ≤ K) (hbn : b ≤ n) : F_X8_readWord K tape (nI n) (nI b) pa pw = some (nI (wE n sg b), 1, wc sg b (wE n sg b - b)) := by
  have h1 := h.1
  have h3 := wE_le h hbn
  have h4 := wE_ge h hbn
  unfold F_X8_readWord
  rw [show lpF (fun u9 : Int32 × Int32 × Int64 => B_X8_readWord_7 (nI n) tape u9.1 u9.2.1 u9.2.2) K ((0 : Int32), nI b, (0 : Int64)) = some (nI (wE n sg b), wc sg b (wE n sg b - b)) from ?_]
  · rfl
  refine lp_for (fun i => ((nI i, nI (b + i), wc sg b i) : Int32 × Int32 × Int64)) (n := wE n sg b - b) (by omega) (fun i hi => ?_) ?_
  · show B_X8_readWord_7 (nI n) tape (nI i) (nI (b + i)) (wc sg b i) = _
    unfold B_X8_readWord_7
    rw [m_here h hb (by omega), xb1, m_isLetter, xb1, if_pos (wE_in h hbn (i := b + i) (by omega) (by omega)), if_neg (by decide), x8, xle (by decide) (by omega)]
    by_cases q : 8 ≤ i
    · rw [if_pos q, nI_1, nI_1]
      show some (Sum.inl (_, _, _)) = some (Sum.inl (_, _, (if i < 8 then _ else _)))
      rw [if_neg (show ¬ i < 8 by omega), Nat.add_assoc]
    · rw [if_neg q, xb1, nI_1, nI_1]
      show some (Sum.inl (_, _, _)) = some (Sum.inl (_, _, (if i < 8 then _ else _)))
      rw [if_pos (show i < 8 by omega), Nat.add_assoc]
  · show B_X8_readWord_7 (nI n) tape (nI (wE n sg b - b)) (nI (b + (wE n sg b - b))) (wc sg b (wE n sg b - b)) = _
    rw [show b + (wE n sg b - b) = wE n sg b by omega]
    unfold B_X8_readWord_7
    rw [m_here h hb (by omega), xb1, m_isLetter, xb1, if_neg (wE_end h hbn), if_pos rfl]
