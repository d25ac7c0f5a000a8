/-! fault: both answer alike -/
theorem ft_both {K n : Nat} {p : Int32} {bytes tape ru pl st rp sc lg : Nat → Int32} {c1 c2 c3 c4 c5 c6 c7 m1 m2 m3 m4 m5 m7 m8 m9 m10 : Int32} {m6 : Int64} (hK : 400 ≤ K) (h : TR n bytes tape) :
    ∃ v ru' pl' st' d1 d2 d3 d4 d5 d6 d7 e1 e2 e3 e4 e5 e6 e7 e8 e9 e10 rp' sc' lg', F_X7_fault K p bytes (nI n) ru pl st c1 c2 c3 c4 c5 c6 c7 = some (v, ru', pl', st', d1, d2, d3, d4, d5, d6, d7) ∧ F_X8_fault K p tape (nI n) m1 m2 m3 m4 m5 m6 m7 m8 m9 m10 rp sc lg = some (v, e1, e2, e3, e4, e5, e6, e7, e8, e9, e10, rp', sc', lg') ∧ (∀ j, j < 192 → sc' j = sc j) ∧ (∀ j, j < 4 → lg' j = lg j) := by
  by_cases q0 : p = 0
  · obtain ⟨r, ru', pl', s', st', m', ac', ws', nu', f', am', pa', fr', pn', wr', pw', la', bo', go', rs', rp', E1, E2, -⟩ := rw_both (K := K) (ru := ru) (pl := pl) (rp := rp) (c1 := c1) (c2 := c2) (c3 := c3) (c4 := c4) (c5 := c5) (c6 := c6) (c7 := c7) (m1 := m1) (m2 := m2) (m3 := m3) (m4 := m4) (m5 := m5) (m6 := m6) (m7 := m7) (m8 := m8) (m9 := m9) (m10 := m10) h.sg h.c h.m hK
    unfold F_X7_fault F_X8_fault
    rw [if_pos q0, if_pos q0, E1, E2, xb10, xb12]
    exact ⟨_, _, _, _, _, _, _, _, _, _, _, _, _, _, _, _, _, _, _, _, _, _, _, _, rfl, rfl, fun _ _ => rfl, fun _ _ => rfl⟩
  · by_cases q1 : p = 1
    · obtain ⟨r, ru', st', s', cn', m', ac', ws', nu', f', am', pa', fr', pn', wr', pw', sc', lg', E1, E2, -, k1, k2⟩ := rs_both (K := K) (p := 4) (ru := ru) (st := st) (sc := sc) (lg := lg) (c1 := c1) (c2 := c2) (c3 := c3) (c4 := c4) (c5 := c5) (c6 := c6) (c7 := c7) (m1 := m1) (m2 := m2) (m3 := m3) (m4 := m4) (m5 := m5) (m6 := m6) h.sg h.c h.m hK (Nat.le_refl 4)
      unfold F_X7_fault F_X8_fault
      rw [if_neg q0, if_neg q0, if_pos q1, if_pos q1, E1, show F_X8_readScript K 4 tape (nI n) m1 m2 m3 m4 m5 m6 sc lg = _ from E2, xb10, xb9]
      exact ⟨_, _, _, _, _, _, _, _, _, _, _, _, _, _, _, _, _, _, _, _, _, _, _, _, rfl, rfl, fun j hj => k1 j (Or.inl (by omega)), fun j hj => k2 j (by omega)⟩
    · unfold F_X7_fault F_X8_fault
      rw [if_neg q0, if_neg q0, if_neg q1, if_neg q1]
      exact ⟨_, _, _, _, _, _, _, _, _, _, _, _, _, _, _, _, _, _, _, _, _, _, _, _, rfl, rfl, fun _ _ => rfl, fun _ _ => rfl⟩
