/-! a script's step in the reference, whole -/
theorem m_moreW {K n t k : Nat} {tape sc : Nat → Int32} {at' pa fr pn v wr : Int32} {pw : Int64} (hK : 400 ≤ K) (hk : k < 7) (ht : t ≤ 236) (hw : ¬ wr = -1) : ∃ sc', J_X8_readStep_174 K (nI t) (nI n) tape v (nI t + 1) (nI k) at' pa fr pn wr pw (l4 sc t (nI k) hidI hidI hidI) = some (at', pa, fr, pn, wr, pw, sc') ∧ (∀ j, (j < t ∨ t + 4 ≤ j) → sc' j = sc j) := by
  have hl := lim_le (k := k)
  have hl1 : 1 ≤ limN k := by
    unfold limN
    split
    · decide
    · split <;> decide
  have J : J_X8_readStep_174 K (nI t) (nI n) tape v (nI t + 1) (nI k) at' pa fr pn wr pw (l4 sc t (nI k) hidI hidI hidI) = bd7 (lpF (bT K n t k tape) K (nI 2, at', pa, fr, pn, wr, pw, l4 sc t (nI k) v hidI hidI)) (fun c1 c2 c3 c4 c5 c6 c7 => some (c1, c2, c3, c4, c5, c6, c7)) := by
    unfold J_X8_readStep_174
    rw [nI_1, xixn (by omega) (by decide), xnm, nI_clamp (by omega), l4_1]
    rfl
  obtain ⟨sc', E, F⟩ := m_wrong (K := K) (n := n) (tape := tape) hk ht hw (limN k - 1) 2 (l4 sc t (nI k) v hidI hidI) at' pa fr pn pw K (by omega) (by omega)
  rw [J, E, xb7]
  exact ⟨sc', rfl, fun j hj => (F j hj).trans (l4_out hj)⟩
theorem m_start {K t : Nat} {sc : Nat → Int32} {v : Int32} (hK : 400 ≤ K) (ht : t ≤ 236) : lpF (fun u9 : Int32 × (Nat → Int32) => B_X8_readStep_124 (nI t) u9.1 u9.2) K ((1 : Int32), upd sc t v) = some (l4 sc t v hidI hidI hidI) := by
  obtain ⟨k, rfl⟩ : ∃ k, K = k + 10 := ⟨K - 10, by omega⟩
  have one : ∀ (i : Nat) (s0 : Nat → Int32), i < 4 → (fun u9 : Int32 × (Nat → Int32) => B_X8_readStep_124 (nI t) u9.1 u9.2) (nI i, s0) = some (.inl (nI (i + 1), upd s0 (t + i) hidI)) := fun i s0 hi => by
    show B_X8_readStep_124 (nI t) (nI i) s0 = _
    unfold B_X8_readStep_124
    rw [x4, xle (by decide) (by omega), if_neg (by omega), nI_add, xixn (by omega) (by decide), xnm, nI_clamp (by omega), nI_1]
    rfl
  have fin : ∀ s0 : Nat → Int32, (fun u9 : Int32 × (Nat → Int32) => B_X8_readStep_124 (nI t) u9.1 u9.2) (nI 4, s0) = some (.inr s0) := fun s0 => by
    show B_X8_readStep_124 (nI t) (nI 4) s0 = _
    unfold B_X8_readStep_124
    rw [x4, if_pos (by decide)]
  exact (lp_one (one 1 _ (by decide))).trans ((lp_one (one 2 _ (by decide))).trans ((lp_one (one 3 _ (by decide))).trans (lp_end (fin _))))
/-- what a step of the reference leaves -/
def StE (n : Nat) (sg sc : Nat → Int32) (b t : Nat) (a2 p2 f2 n2 wr : Int32) (w2 : Int64) (sc' : Nat → Int32) : Prop := (∀ j, (j < t ∨ t + 4 ≤ j) → sc' j = sc j) ∧ (∀ p, stS n sg b = .inl p → wr = nI p) ∧ (∀ e v1 v2 v3, stS n sg b = .inr (e, v1, v2, v3) → wr = -1 ∧ LA n sg (skp n sg e) a2 p2 f2 n2 w2 ∧ sc' = l4 sc t (skd n sg b) v1 v2 v3)
theorem StE.bad {n b t p : Nat} {sg sc sc' : Nat → Int32} {a2 p2 f2 n2 wr : Int32} {w2 : Int64} (hs : stS n sg b = .inl p) (ho : ∀ j, (j < t ∨ t + 4 ≤ j) → sc' j = sc j) (hw : wr = nI p) : StE n sg sc b t a2 p2 f2 n2 wr w2 sc' := ⟨ho, fun p' e => (by rw [hs] at e; cases e; exact hw), fun e v1 v2 v3 q => (by rw [hs] at q; cases q)⟩
theorem StE.good {n b t e : Nat} {sg sc : Nat → Int32} {a2 p2 f2 n2 v1 v2 v3 : Int32} {w2 : Int64} (hs : stS n sg b = .inr (e, v1, v2, v3)) (hl : LA n sg (skp n sg e) a2 p2 f2 n2 w2) : StE n sg sc b t a2 p2 f2 n2 (-1) w2 (l4 sc t (skd n sg b) v1 v2 v3) := ⟨fun j hj => l4_out hj, fun p' q => (by rw [hs] at q; cases q), fun e v1 v2 v3 q => (by rw [hs] at q; cases q; exact ⟨rfl, hl, rfl⟩)⟩
theorem m_stepJ {K n b t : Nat} {sg tape sc : Nat → Int32} {at' pa fr pn : Int32} {pw : Int64} (h : Sg n sg) (hbn : b ≤ n) (hl : LA n sg b at' pa fr pn pw) : F_X8_readStep K (nI t) tape (nI n) at' pa fr pn (-1) pw sc = J_X8_readStep_100 K (nI t) (nI n) tape (skd n sg b) at' pa fr pn (-1) pw sc := by
  have c1 : (12343 : Int64) = cdF 1 := by decide
  have c2 : (2610628 : Int64) = cdF 2 := by decide
  have c3 : (244780 : Int64) = cdF 3 := by decide
  have c8 : (442053 : Int64) = cdF 8 := by decide
  have c9 : (1156 : Int64) = cdF 9 := by decide
  have c10 : (648643 : Int64) = cdF 10 := by decide
  have c11 : (220370757 : Int64) = cdF 11 := by decide
  unfold F_X8_readStep skd
  rw [c8, c9, c2, c1, c10, c3, c11, m_isX h hbn (by decide) hl, xb1, m_isX h hbn (by decide) hl, xb1, m_isX h hbn (by decide) hl, xb1, m_isX h hbn (by decide) hl, xb1, m_isX h hbn (by decide) hl, xb1, m_isX h hbn (by decide) hl, xb1, m_isX h hbn (by decide) hl, xb1]
  by_cases z0 : wd n sg 8 b = true
  · rw [if_pos z0, if_pos z0, if_neg (by decide)]
  · rw [if_neg z0, if_neg z0, if_pos rfl]
    by_cases z1 : wd n sg 9 b = true
    · rw [if_pos z1, if_pos z1, if_neg (by decide)]
    · rw [if_neg z1, if_neg z1, if_pos rfl]
      by_cases z2 : wd n sg 2 b = true
      · rw [if_pos z2, if_pos z2, if_neg (by decide)]
      · rw [if_neg z2, if_neg z2, if_pos rfl]
        by_cases z3 : wd n sg 1 b = true
        · rw [if_pos z3, if_pos z3, if_neg (by decide)]
        · rw [if_neg z3, if_neg z3, if_pos rfl]
          by_cases z4 : wd n sg 10 b = true
          · rw [if_pos z4, if_pos z4, if_neg (by decide)]
          · rw [if_neg z4, if_neg z4, if_pos rfl]
            by_cases z5 : wd n sg 3 b = true
            · rw [if_pos z5, if_pos z5, if_neg (by decide)]
            · rw [if_neg z5, if_neg z5, if_pos rfl]
              by_cases z6 : wd n sg 11 b = true
              · rw [if_pos z6, if_pos z6, if_neg (by decide)]
              · rw [if_neg z6, if_neg z6, if_pos rfl]
theorem m_readStep {K n b t : Nat} {sg tape sc : Nat → Int32} {at' pa fr pn : Int32} {pw : Int64} (h : Sg n sg) (hb : TpM n sg tape) (hK : 400 ≤ K) (hbn : b ≤ n) (ht : t ≤ 236) (hl : LA n sg b at' pa fr pn pw) : ∃ a2 p2 f2 n2 wr w2 sc', F_X8_readStep K (nI t) tape (nI n) at' pa fr pn (-1) pw sc = some (a2, p2, f2, n2, wr, w2, sc') ∧ StE n sg sc b t a2 p2 f2 n2 wr w2 sc' := by
  have h1 := h.1
  have h3 := wE_le h hbn
  have h4 := skp_le h h3
  have h5 := dE_le h h4
  have h6 := skp_le h h5
  obtain ⟨e1, e2, e3, e4, e5⟩ := id hl
  rw [m_stepJ h hbn hl]
  unfold J_X8_readStep_100
  rcases skd_cases h hbn with q | ⟨⟨k, hk, q⟩, z⟩
  · rw [if_pos q, m_bad, if_pos rfl, xb1]
    exact ⟨_, _, _, _, _, _, _, rfl, StE.bad (by unfold stS; rw [if_pos q]) (fun j _ => rfl) e3⟩
  · have km1 : ¬ skd n sg b = -1 := fun y => nI_ne_m1 (p := k) (by omega) (q.symm.trans y)
    obtain ⟨a2, p2, f2, n2, w2, x1, x2⟩ := m_adv h hb hK hbn hl
    rw [te_w z] at x2
    rw [if_neg km1, x1, xb5, xixn (by omega) (by decide), xnm, nI_clamp (by omega), m_start hK ht, xb1]
    by_cases g4 : skd n sg b = 4
    · rw [if_pos g4]
      exact ⟨_, _, _, _, _, _, _, rfl, StE.good (by unfold stS; rw [if_neg km1, if_pos g4]) x2⟩
    · rw [if_neg g4]
      by_cases g3 : skd n sg b = 3
      · rw [if_pos g3]
        by_cases y : lw n sg (skp n sg (wE n sg b)) = -1
        · rw [(m_lawWord h hb hK h4 x2).1 y, xb7, q]
          obtain ⟨sc', E, F⟩ := m_moreW (K := K) (n := n) (t := t) (tape := tape) (sc := sc) (v := 0) (at' := a2) (pa := p2) (fr := f2) (pn := n2) (pw := w2) hK hk ht (nI_ne_m1 (p := skp n sg (wE n sg b)) (by omega))
          rw [E]
          exact ⟨_, _, _, _, _, _, _, rfl, StE.bad (by unfold stS; rw [if_neg km1, if_neg g4, if_pos g3, if_pos y]) F rfl⟩
        · obtain ⟨a3, p3, f3, n3, w3, E3, L3⟩ := (m_lawWord h hb hK h4 x2).2 y
          have h7 := skp_le h (wE_le h h4)
          rw [E3, xb7, q]
          obtain ⟨a4, p4, f4, n4, wr, w4, sc', E, F, G, -⟩ := m_more (K := K) (sc := sc) (v := lw n sg (skp n sg (wE n sg b))) h hb hK h7 hk ht L3
          have k3 : k = 3 := (nI_eq (by omega) (by decide)).mp (show nI k = nI 3 from q.symm.trans g3)
          obtain ⟨rfl, L4, rfl⟩ := G (by omega)
          rw [E]
          refine ⟨_, _, _, _, _, _, _, rfl, ?_⟩
          rw [← q]
          exact StE.good (by unfold stS; rw [if_neg km1, if_neg g4, if_pos g3, if_neg y]) L4
      · rw [if_neg g3]
        have k3 : ¬ k = 3 := fun y => g3 (by rw [q, y]; rfl)
        have k4 : ¬ k = 4 := fun y => g4 (by rw [q, y]; rfl)
        have k2 : ((2 : Int32) ≤ skd n sg b) ↔ 2 ≤ k := by rw [q, x2c, nI_leI (by decide) (by omega)]
        have k1 : (skd n sg b = 1) ↔ k = 1 := by rw [q, show (1 : Int32) = nI 1 by decide, nI_eq (by omega) (by decide)]
        by_cases y1 : okA n sg (skp n sg (wE n sg b))
        · obtain ⟨a3, p3, f3, n3, w3, E3, L3⟩ := (m_any h hb hK h4 x2).2 y1
          rw [E3, xb7, q]
          obtain ⟨a4, p4, f4, n4, wr, w4, sc', E, F, G1, G2, G3, G4, G5, G6, G7⟩ := m_more (K := K) (sc := sc) (v := nN n sg (skp n sg (wE n sg b))) h hb hK h6 hk ht L3
          rw [E]
          refine ⟨_, _, _, _, _, _, _, rfl, ?_⟩
          by_cases g2 : 2 ≤ k
          · obtain ⟨rfl, L4, rfl⟩ := G1 g2
            rw [← q]
            exact StE.good (by unfold stS; rw [if_neg km1, if_neg g4, if_neg g3, if_pos y1, if_pos (k2.mpr g2)]) L4
          · have m2 : ¬ (2 : Int32) ≤ skd n sg b := fun y => g2 (k2.mp y)
            by_cases q2 : sg (skp n sg (dE n sg (skp n sg (wE n sg b)))) = 44
            · by_cases y2 : okA n sg (skp n sg (skp n sg (dE n sg (skp n sg (wE n sg b))) + 1))
              · by_cases g1 : k = 1
                · obtain ⟨rfl, L4, rfl⟩ := G4 g1 q2 y2
                  rw [← q]
                  exact StE.good (by unfold stS; rw [if_neg km1, if_neg g4, if_neg g3, if_pos y1, if_neg m2, if_pos q2, if_pos y2, if_pos (k1.mpr g1)]) L4
                · have m1 : ¬ skd n sg b = 1 := fun y => g1 (k1.mp y)
                  have e0 : k = 0 := by omega
                  by_cases q3 : sg (skp n sg (dE n sg (skp n sg (skp n sg (dE n sg (skp n sg (wE n sg b))) + 1)))) = 44
                  · by_cases y3 : okA n sg (skp n sg (skp n sg (dE n sg (skp n sg (skp n sg (dE n sg (skp n sg (wE n sg b))) + 1))) + 1))
                    · obtain ⟨rfl, L4, rfl⟩ := G7 e0 q2 y2 q3 y3
                      rw [← q]
                      exact StE.good (by unfold stS; rw [if_neg km1, if_neg g4, if_neg g3, if_pos y1, if_neg m2, if_pos q2, if_pos y2, if_neg m1, if_pos q3, if_pos y3]) L4
                    · exact StE.bad (by unfold stS; rw [if_neg km1, if_neg g4, if_neg g3, if_pos y1, if_neg m2, if_pos q2, if_pos y2, if_neg m1, if_pos q3, if_neg y3]) F (G6 e0 q2 y2 q3 y3)
                  · exact StE.bad (by unfold stS; rw [if_neg km1, if_neg g4, if_neg g3, if_pos y1, if_neg m2, if_pos q2, if_pos y2, if_neg m1, if_neg q3]) F (G5 e0 q2 y2 q3)
              · exact StE.bad (by unfold stS; rw [if_neg km1, if_neg g4, if_neg g3, if_pos y1, if_neg m2, if_pos q2, if_neg y2]) F (G3 (by omega) q2 y2)
            · exact StE.bad (by unfold stS; rw [if_neg km1, if_neg g4, if_neg g3, if_pos y1, if_neg m2, if_neg q2]) F (G2 (by omega) q2)
        · rw [(m_any h hb hK h4 x2).1 y1, xb7, q]
          obtain ⟨sc', E, F⟩ := m_moreW (K := K) (n := n) (t := t) (tape := tape) (sc := sc) (v := -9999999) (at' := a2) (pa := p2) (fr := f2) (pn := n2) (pw := w2) hK hk ht (nI_ne_m1 (p := skp n sg (wE n sg b)) (by omega))
          rw [E]
          exact ⟨_, _, _, _, _, _, _, rfl, StE.bad (by unfold stS; rw [if_neg km1, if_neg g4, if_neg g3, if_neg y1]) F rfl⟩
/-- ends and fails of a step lie on the tape -/
theorem stS_ok {n b e : Nat} {sg : Nat → Int32} {v1 v2 v3 : Int32} (h : Sg n sg) (hbn : b ≤ n) (q : stS n sg b = .inr (e, v1, v2, v3)) : b < e ∧ e ≤ n ∧ ∃ k, k < 7 ∧ skd n sg b = nI k := by
  have h3 := wE_le h hbn
  have h4 := skp_le h h3
  have h4' := skp_ge h h3
  have h5 := dE_le h h4
  have h5' := dE_ge h h4
  have h5'' := d0_ge (b := skp n sg (wE n sg b)) (sg := sg)
  have h6 := skp_le h h5
  have h6' := skp_ge h h5
  unfold stS at q
  rcases skd_cases h hbn with y | ⟨y, z⟩
  · rw [if_pos y] at q; cases q
  · have lt := (wE_lt h hbn).mpr z
    have fin : b < e ∧ e ≤ n → b < e ∧ e ≤ n ∧ ∃ k, k < 7 ∧ skd n sg b = nI k := fun w => ⟨w.1, w.2, y⟩
    refine fin ?_
    have km1 : ¬ skd n sg b = -1 := by
      obtain ⟨k, hk, y⟩ := y
      rw [y]
      exact nI_ne_m1 (by omega)
    rw [if_neg km1] at q
    by_cases g4 : skd n sg b = 4
    · rw [if_pos g4] at q; cases q; exact ⟨by omega, by omega⟩
    · rw [if_neg g4] at q
      by_cases g3 : skd n sg b = 3
      · rw [if_pos g3] at q
        by_cases y : lw n sg (skp n sg (wE n sg b)) = -1
        · rw [if_pos y] at q; cases q
        · rw [if_neg y] at q
          have a1 := wE_le h h4
          have a2 := wE_ge h h4
          cases q
          exact ⟨by omega, by omega⟩
      · rw [if_neg g3] at q
        by_cases y1 : okA n sg (skp n sg (wE n sg b))
        · rw [if_pos y1] at q
          by_cases m2 : (2 : Int32) ≤ skd n sg b
          · rw [if_pos m2] at q; cases q; exact ⟨by omega, by omega⟩
          · rw [if_neg m2] at q
            by_cases q2 : sg (skp n sg (dE n sg (skp n sg (wE n sg b)))) = 44
            · rw [if_pos q2] at q
              have hl := sg44_lt h (by decide) q2
              have h7 := skp_le h (show skp n sg (dE n sg (skp n sg (wE n sg b))) + 1 ≤ n by omega)
              have h7' := skp_ge h (show skp n sg (dE n sg (skp n sg (wE n sg b))) + 1 ≤ n by omega)
              have h8 := dE_le h h7
              have h8' := dE_ge h h7
              have h8'' := d0_ge (b := skp n sg (skp n sg (dE n sg (skp n sg (wE n sg b))) + 1)) (sg := sg)
              have h9 := skp_le h h8
              have h9' := skp_ge h h8
              by_cases y2 : okA n sg (skp n sg (skp n sg (dE n sg (skp n sg (wE n sg b))) + 1))
              · rw [if_pos y2] at q
                by_cases m1 : skd n sg b = 1
                · rw [if_pos m1] at q; cases q; exact ⟨by omega, by omega⟩
                · rw [if_neg m1] at q
                  by_cases q3 : sg (skp n sg (dE n sg (skp n sg (skp n sg (dE n sg (skp n sg (wE n sg b))) + 1)))) = 44
                  · rw [if_pos q3] at q
                    have hl3 := sg44_lt h (by decide) q3
                    have h10 := skp_le h (show skp n sg (dE n sg (skp n sg (skp n sg (dE n sg (skp n sg (wE n sg b))) + 1))) + 1 ≤ n by omega)
                    have h10' := skp_ge h (show skp n sg (dE n sg (skp n sg (skp n sg (dE n sg (skp n sg (wE n sg b))) + 1))) + 1 ≤ n by omega)
                    have h11 := dE_le h h10
                    have h11' := dE_ge h h10
                    have h11'' := d0_ge (b := skp n sg (skp n sg (dE n sg (skp n sg (skp n sg (dE n sg (skp n sg (wE n sg b))) + 1))) + 1)) (sg := sg)
                    by_cases y3 : okA n sg (skp n sg (skp n sg (dE n sg (skp n sg (skp n sg (dE n sg (skp n sg (wE n sg b))) + 1))) + 1))
                    · rw [if_pos y3] at q; cases q; exact ⟨by omega, by omega⟩
                    · rw [if_neg y3] at q; cases q
                  · rw [if_neg q3] at q; cases q
              · rw [if_neg y2] at q; cases q
            · rw [if_neg q2] at q; cases q
        · rw [if_neg y1] at q; cases q
theorem stS_fail {n b p : Nat} {sg : Nat → Int32} (h : Sg n sg) (hbn : b ≤ n) (q : stS n sg b = .inl p) : p ≤ n := by
  have h3 := wE_le h hbn
  have h4 := skp_le h h3
  have h5 := dE_le h h4
  have h6 := skp_le h h5
  unfold stS at q
  by_cases km1 : skd n sg b = -1
  · rw [if_pos km1] at q; cases q; exact hbn
  · rw [if_neg km1] at q
    by_cases g4 : skd n sg b = 4
    · rw [if_pos g4] at q; cases q
    · rw [if_neg g4] at q
      by_cases g3 : skd n sg b = 3
      · rw [if_pos g3] at q
        by_cases y : lw n sg (skp n sg (wE n sg b)) = -1
        · rw [if_pos y] at q; cases q; exact h4
        · rw [if_neg y] at q; cases q
      · rw [if_neg g3] at q
        by_cases y1 : okA n sg (skp n sg (wE n sg b))
        · rw [if_pos y1] at q
          by_cases m2 : (2 : Int32) ≤ skd n sg b
          · rw [if_pos m2] at q; cases q
          · rw [if_neg m2] at q
            by_cases q2 : sg (skp n sg (dE n sg (skp n sg (wE n sg b)))) = 44
            · rw [if_pos q2] at q
              have hl := sg44_lt h (by decide) q2
              have h7 := skp_le h (show skp n sg (dE n sg (skp n sg (wE n sg b))) + 1 ≤ n by omega)
              have h8 := dE_le h h7
              have h9 := skp_le h h8
              by_cases y2 : okA n sg (skp n sg (skp n sg (dE n sg (skp n sg (wE n sg b))) + 1))
              · rw [if_pos y2] at q
                by_cases m1 : skd n sg b = 1
                · rw [if_pos m1] at q; cases q
                · rw [if_neg m1] at q
                  by_cases q3 : sg (skp n sg (dE n sg (skp n sg (skp n sg (dE n sg (skp n sg (wE n sg b))) + 1)))) = 44
                  · rw [if_pos q3] at q
                    have hl3 := sg44_lt h (by decide) q3
                    have h10 := skp_le h (show skp n sg (dE n sg (skp n sg (skp n sg (dE n sg (skp n sg (wE n sg b))) + 1))) + 1 ≤ n by omega)
                    by_cases y3 : okA n sg (skp n sg (skp n sg (dE n sg (skp n sg (skp n sg (dE n sg (skp n sg (wE n sg b))) + 1))) + 1))
                    · rw [if_pos y3] at q; cases q
                    · rw [if_neg y3] at q; cases q; exact h10
                  · rw [if_neg q3] at q; cases q; exact h9
              · rw [if_neg y2] at q; cases q; exact h7
            · rw [if_neg q2] at q; cases q; exact h6
        · rw [if_neg y1] at q; cases q; exact h4
