/-! Stage B, 23: text, in both: a new watch, or all as it was -/
def TxB (row : Nat → Int32) (hh im : Int32) (g : Nat → Int32) (si ac hi : Int32) (bk row' : Nat → Int32) (hh' im' : Int32) (g' : Nat → Int32) (si' ac' hi' : Int32) : Prop := (row' = row ∧ hh' = hh ∧ im' = im ∧ g' = g ∧ si' = si ∧ ac' = ac ∧ hi' = hi) ∨ ∃ s, 2 ≤ s ∧ s ≤ 8 ∧ KRow s bk 0 row' g' ∧ hh' = 0 ∧ im' = 0 ∧ si' = nI s ∧ ac' = 0 ∧ hi' = 0
/-- the kinds of the steps that are kept -/
def KdS (k : Nat) (st co : Nat → Int32) : Prop := ∀ r, r < k → ∀ c, co r = nI c → c ≤ 12 → KdOK c (fun j => st (48 * r + j))
theorem KdS.keep {k c : Nat} {st co rs : Nat → Int32} (h : KdS k st co) (hk : k < 4) (hc : c ≤ 12) (hr : KdOK c rs) : KdS (k + 1) (va_cpy rs st 0 (48 * k) 48) (upd co k (nI c)) := by
  intro r hrk c' e hc' i hi
  by_cases q : r = k
  · rw [q, upd_at] at e
    have ec : c = c' := (nI_eq (a := c) (b := c') (by omega) (by omega)).mp e
    obtain ⟨κ, h1, h2⟩ := hr i (by omega)
    refine ⟨κ, h1, ?_⟩
    show va_cpy rs st 0 (48 * k) 48 (48 * r + 4 * i) = nI κ
    rw [q, pk_cpy_in (by omega) (by omega), show 0 + (48 * k + 4 * i - 48 * k) = 4 * i by omega]
    exact h2
  · rw [upd_ne q] at e
    obtain ⟨κ, h1, h2⟩ := h r (by omega) c' e hc' i hi
    refine ⟨κ, h1, ?_⟩
    show va_cpy rs st 0 (48 * k) 48 (48 * r + 4 * i) = nI κ
    rw [pk_cpy_out (by omega)]
    exact h2
theorem txB_both {K n k : Nat} {p : Int32} {bytes tape ru pl st rp sc lg sst sco row g bk : Nat → Int32} {c1 c2 c3 c4 c5 c6 c7 hh im m1 m2 m3 m4 m5 m7 m8 m9 m10 si ac hi : Int32} {m6 : Int64} (hK : 200000 ≤ K) (h : TR n bytes tape) (hk : k ≤ 4) (hs : SR k sst sco sc lg) (hq : SkOK sco (nI k)) (hkd : KdS k sst sco) :
    ∃ v tl' ru' pl' st' d1 d2 d3 d4 d5 d6 d7 sst' sco' hd' row' hh' im' tpd' e1 e2 e3 e4 e5 e6 e7 e8 e9 e10 rp' sc' lg' scs' g' si' ac' hi', F_X7_text K p bytes (nI n) ru pl st c1 c2 c3 c4 c5 c6 c7 sst sco (nI k) row hh im = some (v, tl', ru', pl', st', d1, d2, d3, d4, d5, d6, d7, sst', sco', hd', row', hh', im') ∧ F_X8_text K p tape (nI n) m1 m2 m3 m4 m5 m6 m7 m8 m9 m10 rp sc lg (nI k) g si ac hi = some (v, tpd', e1, e2, e3, e4, e5, e6, e7, e8, e9, e10, rp', sc', lg', scs', g', si', ac', hi') ∧ TxB row hh im g si ac hi bk row' hh' im' g' si' ac' hi' ∧ ∃ k', k' ≤ 4 ∧ hd' = nI k' ∧ KdS k' sst' sco' := by
  have hn := h.1
  have base : TxB row hh im g si ac hi bk row hh im g si ac hi := Or.inl ⟨rfl, rfl, rfl, rfl, rfl, rfl, rfl⟩
  by_cases q0 : p = 0
  · obtain ⟨r, ru', pl', s', st', m', ac', ws', nu', f', am', pa', fr', pn', wr', pw', la', bo', go', rs', rp', E1, E2, hr⟩ := rw_both (K := K) (ru := ru) (pl := pl) (rp := rp) (c1 := c1) (c2 := c2) (c3 := c3) (c4 := c4) (c5 := c5) (c6 := c6) (c7 := c7) (m1 := m1) (m2 := m2) (m3 := m3) (m4 := m4) (m5 := m5) (m6 := m6) (m7 := m7) (m8 := m8) (m9 := m9) (m10 := m10) h.sg h.c h.m (by omega)
    unfold F_X7_text F_X8_text
    rw [if_pos q0, if_pos q0, E1, E2, xb10, xb12]
    by_cases q : r = -1
    · obtain ⟨s2, hs2, rfl, rfl, hrd⟩ := hr q
      obtain ⟨f', g', B1, T, K1⟩ := bg_both (f := row) (g := g) (bk := bk) (si := si) (ac := ac) (im := hi) hK hs2 hrd
      have B : F_X7_beginWatch K (nI n) ru' pl' (nI s2) row hh im = some (nI s2, 0, f', 0, 0) := by
        unfold F_X7_beginWatch F_X2_forget F_X5_sites
        rw [c_cut0 hn, B1, xb1, xb1, xb2, xb1, K1.1.sz]
      rw [if_pos q, if_pos q, B, T, xb5, xb5]
      exact ⟨_, _, _, _, _, _, _, _, _, _, _, _, _, _, _, _, _, _, _, _, _, _, _, _, _, _, _, _, _, _, _, _, _, _, _, _, _, rfl, rfl, Or.inr ⟨s2, hs2, hrd.1, K1, rfl, rfl, rfl, rfl, rfl⟩, k, hk, rfl, hkd⟩
    · have p1 : ¬ p = 1 := by rw [q0]; decide
      unfold J_X7_text_20 J_X8_text_22
      rw [if_neg q, if_neg q, if_neg p1, if_neg p1]
      exact ⟨_, _, _, _, _, _, _, _, _, _, _, _, _, _, _, _, _, _, _, _, _, _, _, _, _, _, _, _, _, _, _, _, _, _, _, _, _, rfl, rfl, base, k, hk, rfl, hkd⟩
  · unfold F_X7_text F_X8_text
    rw [if_neg q0, if_neg q0]
    unfold J_X7_text_20 J_X8_text_22
    by_cases q1 : p = 1
    · rw [if_pos q1, if_pos q1, c_full hk, xb1]
      by_cases q4 : k < 4
      · rw [if_pos q4, if_pos rfl, if_neg (show ¬ (4 : Int32) ≤ nI k from mt (nI_leI (a := 4) (b := k) (by omega) (by omega)).mp (by omega))]
        obtain ⟨r, ru', st', s', cn', m', ac', ws', nu', f', am', pa', fr', pn', wr', pw', sc', lg', E1, E2, hr, k1, k2⟩ := rs_both (K := K) (p := k) (ru := ru) (st := st) (sc := sc) (lg := lg) (c1 := c1) (c2 := c2) (c3 := c3) (c4 := c4) (c5 := c5) (c6 := c6) (c7 := c7) (m1 := m1) (m2 := m2) (m3 := m3) (m4 := m4) (m5 := m5) (m6 := m6) h.sg h.c h.m (by omega) hk
        rw [E1, E2, xb10, xb9]
        by_cases q : r = -1
        · obtain ⟨c, hc1, hc2, rfl, e2, e3, e4⟩ := hr q
          unfold F_X7_keepScript
          rw [if_pos q, if_pos q, c_keep q4, xb3, c_cut0 hn, xb2, xb5, nI_1]
          exact ⟨_, _, _, _, _, _, _, _, _, _, _, _, _, _, _, _, _, _, _, _, _, _, _, _, _, _, _, _, _, _, _, _, _, _, _, _, _, rfl, rfl, base, k + 1, by omega, rfl, hkd.keep q4 hc2 e4⟩
        · rw [if_neg q, if_neg q]
          exact ⟨_, _, _, _, _, _, _, _, _, _, _, _, _, _, _, _, _, _, _, _, _, _, _, _, _, _, _, _, _, _, _, _, _, _, _, _, _, rfl, rfl, base, k, hk, rfl, hkd⟩
      · rw [if_neg q4, if_neg (by decide), if_pos (show (4 : Int32) ≤ nI k from (nI_leI (a := 4) (b := k) (by omega) (by omega)).mpr (by omega))]
        exact ⟨_, _, _, _, _, _, _, _, _, _, _, _, _, _, _, _, _, _, _, _, _, _, _, _, _, _, _, _, _, _, _, _, _, _, _, _, _, rfl, rfl, base, k, hk, rfl, hkd⟩
    · rw [if_neg q1, if_neg q1]
      exact ⟨_, _, _, _, _, _, _, _, _, _, _, _, _, _, _, _, _, _, _, _, _, _, _, _, _, _, _, _, _, _, _, _, _, _, _, _, _, rfl, rfl, base, k, hk, rfl, hkd⟩
