/-! the reference: refusals, keeping, the hand -/
theorem u_in {x lo hi : Int64} : Tt (F_X8_in x lo hi) (fun _ => True) := by rw [m_in]; exact tt_some trivial
theorem u_isSite {n : Nat} {p : Int32} (hn : n ≤ 8) : Tt (F_X8_isSite p (nI n)) (fun r => ¬ r = 0 → ∃ i, i < n ∧ p = nI i) := by
  unfold F_X8_isSite
  rw [show (0 : Int64) = (0 : Int32).toInt64 from rfl, m_inI, xb1]
  refine tt_some (fun z => ?_)
  by_cases c : 0 ≤ p ∧ p ≤ nI n - 1
  · have h0 : ¬ p < 0 := fun q => lt_not.mp q c.1
    have n0 : 0 < n := by
      rcases Nat.eq_zero_or_pos n with rfl | h
      · exact absurd (Int32.le_trans c.1 c.2) (by decide)
      · exact h
    refine nnI (by omega) h0 (fun q => ?_)
    have c2 := c.2
    rw [show nI n - 1 = nI (n - 1) from xsub (b := 1) n0] at c2
    have := (nI_leI (a := n) (b := n - 1) (by omega) (by omega)).mp (Int32.le_trans q c2)
    omega
  · rw [if_neg c] at z
    exact absurd rfl z
theorem u_isWatch {p : Int32} : Tt (F_X8_isWatch p) (fun _ => True) := by
  unfold F_X8_isWatch
  exact tt_ite (fun _ => tt_some trivial) (fun _ => tt_some trivial)
theorem u_isReached {g : Nat → Int32} : Tt (F_X8_isReached g) (fun _ => True) := by
  unfold F_X8_isReached
  exact tt_ite (fun _ => tt_some trivial) (fun _ => tt_some trivial)
/-- why not: -1, or one of three reasons; -1 only for a site -/
def R3 (r : Int32) : Prop := r = -1 ∨ ∃ a, a < 3 ∧ r = nI a
def Wy (n : Nat) (p r : Int32) : Prop := R3 r ∧ (r = -1 → ∃ i, i < n ∧ p = nI i)
theorem r30 : R3 0 := Or.inr ⟨0, by decide, rfl⟩
theorem r31 : R3 1 := Or.inr ⟨1, by decide, rfl⟩
theorem r32 : R3 2 := Or.inr ⟨2, by decide, rfl⟩
theorem wy0 {n : Nat} {p : Int32} : Wy n p 0 := ⟨r30, fun z => absurd z (by decide)⟩
theorem wy1 {n : Nat} {p : Int32} : Wy n p 1 := ⟨r31, fun z => absurd z (by decide)⟩
theorem wy2 {n : Nat} {p : Int32} : Wy n p 2 := ⟨r32, fun z => absurd z (by decide)⟩
theorem wym {n i : Nat} (hi : i < n) : Wy n (nI i) (-1) := ⟨Or.inl rfl, fun _ => ⟨i, hi, rfl⟩⟩
theorem u_whyMove {n : Nat} {p1 p2 p3 : Int32} {g : Nat → Int32} (hn : n ≤ 8) : Tt (F_X8_whyMove p1 p2 p3 g (nI n)) (Wy n p1) := by
  unfold F_X8_whyMove J_X8_whyMove_89
  refine tt_bd1 (u_isSite hn) (fun r hr => tt_ite (fun _ => tt_some wy0) (fun r0 => ?_))
  obtain ⟨i, hi, rfl⟩ := hr r0
  have F : Tt (bd1 (F_X8_isFrozen (nI i) g) (fun r => if r = (0 : Int32) then some (-1 : Int32) else some (2 : Int32))) (Wy n (nI i)) := tt_bd1 (u_isFrozen (by omega)) (fun _ _ => tt_ite (fun _ => tt_some (wym hi)) (fun _ => tt_some wy2))
  have J : ∀ k0, Tt (J_X8_whyMove_90 (nI i) p2 p3 g k0) (Wy n (nI i)) := by
    intro k0
    unfold J_X8_whyMove_90
    exact tt_ite (fun _ => tt_some wy1) (fun _ => tt_ite (fun _ => tt_ite (fun _ => tt_some wy2) (fun _ => F)) (fun _ => F))
  rw [i0, i8]
  refine tt_bd1 u_in (fun _ _ => tt_ite (fun _ => J _) (fun _ => tt_bd1 u_in (fun _ _ => tt_ite (fun _ => J _) (fun _ => tt_ixn (by omega) (by decide) ?_))))
  exact tt_bd1 u_in (fun _ _ => tt_ite (fun _ => J _) (fun _ => tt_ixn (by omega) (by decide) (tt_bd1 u_in (fun _ _ => tt_ite (fun _ => J _) (fun _ => J _)))))
theorem u_whySet {p1 p2 p3 p4 s : Int32} : Tt (F_X8_whySet p1 p2 p3 p4 s) R3 := by
  unfold F_X8_whySet
  exact tt_bd1 u_isWatch (fun _ _ => tt_ite (fun _ => tt_some r30) (fun _ => tt_bd1 u_in (fun _ _ => tt_ite (fun _ => tt_some r31) (fun _ => tt_ite (fun _ => tt_some r32) (fun _ => tt_some (Or.inl rfl))))))
theorem u_whyAdd {n : Nat} {p1 p2 : Int32} {g : Nat → Int32} (hn : n ≤ 8) : Tt (F_X8_whyAdd p1 p2 g (nI n)) (Wy n p1) := by
  unfold F_X8_whyAdd
  refine tt_bd1 (u_isSite hn) (fun r hr => tt_ite (fun _ => tt_some wy0) (fun r0 => ?_))
  obtain ⟨i, hi, rfl⟩ := hr r0
  rw [i48]
  exact tt_bd1 u_in (fun _ _ => tt_ite (fun _ => tt_some wy1) (fun _ => tt_ixn (by omega) (by decide) (tt_ite (fun _ => tt_bd1 u_isReached (fun _ _ => tt_ite (fun _ => tt_some (wym hi)) (fun _ => tt_some wy2))) (fun _ => tt_some wy1))))
theorem u_bitsT {K : Nat} {p : Int32} (hK : 200000 ≤ K) : Tt (F_X8_bits K p) (fun _ => True) := by
  unfold F_X8_bits
  refine tt_bd1 (P := fun _ => True) (tt_for (fun j u => u.2 = nI j) 8 (by omega) rfl (fun j u hj hu => ?_)) (fun _ _ => tt_some trivial)
  unfold B_X8_bits_4
  exact tt_ite (fun _ => tt_some (nx_r trivial)) (fun q => tt_some (nx_l (lt_of_lit (by decide) (by omega) hu q) (nx1 hu)))
theorem u_frozenOnes {K n : Nat} {g : Nat → Int32} (hK : 200000 ≤ K) (hn : n ≤ 8) : Tt (F_X8_frozenOnes K g (nI n)) (fun _ => True) := by
  unfold F_X8_frozenOnes
  refine tt_bd1 (P := fun _ => True) (tt_for (fun j u => u.2 = nI j) 8 (by omega) rfl (fun j u hj hu => ?_)) (fun _ _ => tt_some trivial)
  unfold B_X8_frozenOnes_4
  refine tt_ite (fun _ => tt_some (nx_r trivial)) (fun q => ?_)
  have jl := sl hn hj hu q
  rw [hu]
  exact tt_bd1 (u_isFrozen (by omega)) (fun _ _ => tt_ite (fun _ => tt_some (nx_l (by omega) (nx1 rfl))) (fun _ => tt_some (nx_l (by omega) (nx1 rfl))))
theorem u_whyFreeze {K n : Nat} {p1 : Int32} {g : Nat → Int32} (hK : 200000 ≤ K) (hn : n ≤ 8) : Tt (F_X8_whyFreeze K p1 g (nI n)) (Wy n p1) := by
  unfold F_X8_whyFreeze
  refine tt_bd1 (u_isSite hn) (fun r hr => tt_ite (fun _ => tt_some wy0) (fun r0 => ?_))
  obtain ⟨i, hi, rfl⟩ := hr r0
  exact tt_bd1 (u_isFrozen (by omega)) (fun _ _ => tt_ite (fun _ => tt_bd1 (u_frozenOnes hK hn) (fun _ _ => tt_bd1 (u_bitsT hK) (fun _ _ => tt_ite (fun _ => tt_some wy2) (fun _ => tt_some (wym hi))))) (fun _ => tt_some (wym hi)))
def Wn (n : Nat) (p1 p2 r : Int32) : Prop := R3 r ∧ (r = -1 → SiOK n p1 p2)
theorem u_whyNot {K n : Nat} {p1 p2 p3 p4 : Int32} {g : Nat → Int32} (hK : 200000 ≤ K) (hn : n ≤ 8) : Tt (F_X8_whyNot K p1 p2 p3 p4 g (nI n)) (Wn n p1 p2) := by
  unfold F_X8_whyNot
  refine tt_ite (fun c => tt_bd1 (u_whyMove hn) (fun _ h => tt_some ⟨h.1, fun z _ => h.2 z⟩)) (fun c0 => ?_)
  refine tt_ite (fun c => tt_bd1 u_isWatch (fun _ _ => tt_ite (fun _ => tt_some ⟨r30, fun z => absurd z (by decide)⟩) (fun _ => tt_some ⟨Or.inl rfl, fun _ h => ?_⟩))) (fun c1 => ?_)
  · rw [c] at h
    exact absurd h (by decide)
  refine tt_ite (fun c => tt_bd1 u_whySet (fun _ h => tt_some ⟨h, fun _ h => ?_⟩)) (fun c2 => ?_)
  · rw [c] at h
    exact absurd h (by decide)
  refine tt_ite (fun c => tt_bd1 u_whySet (fun _ h => tt_some ⟨h, fun _ h => ?_⟩)) (fun c3 => ?_)
  · rw [c] at h
    exact absurd h (by decide)
  refine tt_ite (fun c => tt_bd1 (u_whyAdd hn) (fun _ h => tt_some ⟨h.1, fun z _ => h.2 z⟩)) (fun c4 => ?_)
  refine tt_ite (fun c => tt_bd1 u_whySet (fun _ h => tt_some ⟨h, fun _ h => ?_⟩)) (fun c5 => ?_)
  · rw [c] at h
    exact absurd h (by decide)
  refine tt_ite (fun c => tt_bd1 (u_whyFreeze hK hn) (fun _ h => tt_some ⟨h.1, fun z _ => h.2 z⟩)) (fun c6 => ?_)
  refine tt_bd1 u_whySet (fun _ h => tt_some ⟨h, fun _ h => ?_⟩)
  rcases h with h | h | h
  · exact absurd h c0
  · exact absurd h c4
  · exact absurd h c6
theorem SgOK.to {n : Nat} {x y : Int32} (h : SgOK n x) (e : y = x) : SgOK n y := by rw [e]; exact h
/-- a row that can be gone on from -/
def RwK (n : Nat) (x84 x75 : Int32) : Prop := LgOK x84 ∧ SgOK n x75
/-- the kept rows -/
def KO (n : Nat) (kept : Nat → Int32) (a : Nat) : Prop := ∀ r, r < a → RwK n (kept (265 * r + 84)) (kept (265 * r + 75))
theorem u_keepJ {K n a : Nat} {g kept : Nat → Int32} (hK : 200000 ≤ K) (ha : a ≤ 39) (hk : KO n kept a) (hg : RwK n (g 84) (g 75)) : Tt (J_X8_keep_52 K g kept (nI a)) (fun x => ∃ b, b ≤ 40 ∧ x.2 = nI b ∧ KO n x.1 b) := by
  unfold J_X8_keep_52
  refine tt_bd1 (P := fun x => (∀ y, y < 265 * a → x y = kept y) ∧ ∀ y, y < 265 → x (265 * a + y) = g y) (tt_for (fun j u => u.1 = nI j ∧ (∀ y, y < 265 * a → u.2 y = kept y) ∧ ∀ y, y < j → u.2 (265 * a + y) = g y) 265 (by omega) ⟨rfl, fun _ _ => rfl, fun y hy => absurd hy (Nat.not_lt_zero _)⟩ (fun j u hj hu => ?_)) (fun w hw => tt_some ⟨a + 1, by omega, nx1 rfl, fun r hr => ?_⟩)
  · unfold B_X8_keep_54
    refine tt_ite (fun q => tt_some (nx_r ⟨hu.2.1, fun y hy => hu.2.2 y ?_⟩)) (fun q => ?_)
    · rw [hu.1] at q
      have := (nI_leI (a := 265) (b := j) (by omega) (by omega)).mp q
      omega
    · have jl : j < 265 := lt_of_lit (by decide) (by omega) hu.1 q
      have e1 : (265 : Int32) * nI a + nI j = nI (265 * a + j) := by rw [show (265 : Int32) = nI 265 from rfl, nI_mul, nI_add]
      rw [hu.1, e1, nI_clamp (show 265 * a + j < 2 ^ 31 by omega), nI_clamp (show j < 2 ^ 31 by omega)]
      refine tt_ixn jl (by decide) (tt_ixn (by omega) (by decide) (tt_nm (tt_some (nx_l jl ⟨nx1 rfl, fun y hy => (upd_no (by omega)).trans (hu.2.1 y hy), fun y hy => ?_⟩))))
      by_cases e : y = j
      · rw [e]
        exact upd_at
      · exact (upd_no (by omega)).trans (hu.2.2 y (by omega))
  · show RwK n (w (265 * r + 84)) (w (265 * r + 75))
    by_cases e : r = a
    · rw [e, hw.2 84 (by decide), hw.2 75 (by decide)]
      exact hg
    · rw [hw.1 _ (by omega), hw.1 _ (by omega)]
      exact hk r (by omega)
theorem u_keep {K n a : Nat} {g kept : Nat → Int32} (hK : 200000 ≤ K) (ha : a ≤ 40) (hk : KO n kept a) (hg : RwK n (g 84) (g 75)) : Tt (F_X8_keep K g kept (nI a)) (fun x => ∃ b, b ≤ 40 ∧ x.2 = nI b ∧ KO n x.1 b) := by
  unfold F_X8_keep
  refine tt_ite (fun c => ?_) (fun c => u_keepJ hK ?_ hk hg)
  · have a40 : a = 40 := (nI_eq (a := a) (b := 40) (by omega) (by omega)).mp c
    refine tt_bd1 (P := fun x => ∀ y, y < 10335 → x y = kept (y + 265)) (tt_for (fun j u => u.1 = nI (265 + j) ∧ (∀ y, y < j → u.2 y = kept (y + 265)) ∧ ∀ y, j ≤ y → u.2 y = kept y) 10335 (by omega) ⟨rfl, fun y hy => absurd hy (Nat.not_lt_zero _), fun _ _ => rfl⟩ (fun j u hj hu => ?_)) (fun w hw => ?_)
    · unfold B_X8_keep_13
      refine tt_ite (fun q => tt_some (nx_r (fun y hy => hu.2.1 y ?_))) (fun q => ?_)
      · rw [hu.1] at q
        have := (nI_leI (a := 10600) (b := 265 + j) (by omega) (by omega)).mp q
        omega
      · have jl : 265 + j < 10600 := lt_of_lit (by decide) (by omega) hu.1 q
        have e1 : nI (265 + j) - 265 = nI j := (xsub (a := 265 + j) (b := 265) (by omega)).trans (congrArg nI (show 265 + j - 265 = j by omega))
        rw [hu.1, e1, nI_clamp (show j < 2 ^ 31 by omega), nI_clamp (show 265 + j < 2 ^ 31 by omega)]
        refine tt_ixn jl (by decide) (tt_ixn (by omega) (by decide) (tt_nm (tt_some (nx_l (by omega) ⟨nx1 rfl, fun y hy => ?_, fun y hy => (upd_no (by omega)).trans (hu.2.2 y (by omega))⟩))))
        by_cases e : y = j
        · rw [e]
          exact upd_at.trans ((hu.2.2 _ (by omega)).trans (by rw [Nat.add_comm]))
        · exact (upd_no (by omega)).trans (hu.2.1 y (by omega))
    · rw [show nI a - 1 = nI (a - 1) from xsub (b := 1) (by omega)]
      refine u_keepJ hK (by omega) (fun r hr => ?_) hg
      rw [hw _ (by omega), hw _ (by omega), show 265 * r + 84 + 265 = 265 * (r + 1) + 84 by omega, show 265 * r + 75 + 265 = 265 * (r + 1) + 75 by omega]
      exact hk (r + 1) (by omega)
  · have := mt (nI_eq (a := a) (b := 40) (by omega) (by omega)).mpr c
    omega
/-- the reference's state between calls, as far as its methods' ends need it -/
def MI (n : Nat) (g : Nat → Int32) (ad : Int32) (kept : Nat → Int32) (ac : Int32) : Prop := RwK n (g 84) (g 75) ∧ Rw ad ∧ ∃ a, a ≤ 40 ∧ ac = nI a ∧ KO n kept a
theorem u_act {K n : Nat} {p1 p2 p3 p4 ad oc tk ac : Int32} {g sx sy ar kept : Nat → Int32} (hK : 200000 ≤ K) (hn : n ≤ 8) (hm : MI n g ad kept ac) (hp : SiOK n p1 p2) : Tt (F_X8_act K p1 p2 p3 p4 g (nI n) sx sy ad oc ar tk kept ac) (fun x => MI n x.2.1 x.2.2.2.2.1 x.2.2.2.2.2.2.2.2.1 x.2.2.2.2.2.2.2.2.2) := by
  obtain ⟨h1, h2, a, ha, rfl, h3⟩ := hm
  unfold F_X8_act
  refine tt_bd2 (u_keep hK ha h3 h1) (fun k' a' hk => tt_bd8 (u_doNow hK hn h1.2 h2 hp) (fun _ w _ _ _ _ _ _ hw => ?_))
  obtain ⟨b, hb, e, hk⟩ := hk
  have e : a' = nI b := e
  have l84 : LgOK (w 84) := by rw [show w 84 = g 84 from hw.1.1]; exact h1.1
  exact tt_ite (fun _ => tt_bd1 (u_note hK l84) (fun _ hx => tt_some ⟨⟨hx.1, SgOK.to hw.1.2 hx.2⟩, hw.2, b, hb, e, hk⟩)) (fun _ => tt_bd1 (u_note hK l84) (fun _ hx => tt_some ⟨⟨hx.1, SgOK.to hw.1.2 hx.2⟩, hw.2, b, hb, e, hk⟩))
theorem u_hand {K n : Nat} {p1 p2 p3 p4 p5 ad oc tk ac : Int32} {g re sx sy ar kept : Nat → Int32} (hK : 200000 ≤ K) (hn : n ≤ 8) (hm : MI n g ad kept ac) : Tt (F_X8_hand K p1 p2 p3 p4 p5 g re (nI n) sx sy ad oc ar tk kept ac) (fun x => MI n x.2.1 x.2.2.2.2.2.1 x.2.2.2.2.2.2.2.2.2.1 x.2.2.2.2.2.2.2.2.2.2) := by
  unfold F_X8_hand
  refine tt_bd1 (u_whyNot hK hn) (fun r hr => tt_ite (fun c => tt_bd10 (u_act hK hn hm (hr.2 c)) (fun _ _ _ _ _ _ _ _ _ _ hx => tt_some hx)) (fun c => ?_))
  rcases hr.1 with z | ⟨a, ha, rfl⟩
  · exact absurd z c
  · exact tt_ixn ha (by decide) (tt_ixn ha (by decide) (tt_nm (tt_some hm)))
