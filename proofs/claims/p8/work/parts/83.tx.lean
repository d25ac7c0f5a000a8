/-! text of both: the same answer; the tapes and the scripts stay alike; a new watch, or the rows as they were -/
theorem c_cut0 {n : Nat} (hn : n ≤ 320) : F_X6_cutTo 0 (nI n) = some (1, 0) := by
  unfold F_X6_cutTo
  rw [if_neg (by decide), if_pos (show (0 : Int32) ≤ nI n from (nI_leI (a := 0) (b := n) (by omega) (by omega)).mpr (Nat.zero_le _))]
theorem t_beginWatch {K s n : Nat} {ru pl row : Nat → Int32} {hh im : Int32} (hK : 200000 ≤ K) (hs : s ≤ 8) (hn : n ≤ 320) : Tt (F_X7_beginWatch K (nI n) ru pl (nI s) row hh im) (fun x => x.1 = nI s ∧ x.2.1 = 0 ∧ x.2.2.1 3 = nI s ∧ x.2.2.2.1 = 0 ∧ x.2.2.2.2 = 0) := by
  unfold F_X7_beginWatch F_X2_forget F_X5_sites
  rw [c_cut0 hn]
  refine tt_bd1 (t_begin hK hs) (fun w hw => ?_)
  rw [xb1, xb2, xb1]
  exact tt_some ⟨hw, rfl, hw, rfl, rfl⟩
theorem c_full {k : Nat} (hk : k ≤ 4) : F_X4_areFull (nI k) = some (if k < 4 then 0 else 1) := by
  unfold F_X4_areFull
  rw [show (4 : Int32) = nI 4 from rfl, xltn (by omega) (by omega)]
  split <;> rfl
theorem SR.of {k : Nat} {st co sc lg sc' lg' : Nat → Int32} (h : SR k st co sc lg) (h3 : ∀ j, j < 48 * k → sc' j = sc j) (h4 : ∀ j, j < k → lg' j = lg j) : SR k st co sc' lg' := by
  intro r hr
  obtain ⟨c, c1, c2, c3, c4, c5⟩ := h r hr
  refine ⟨c, c1, c2, c3, (h4 r hr).trans c4, fun j hj => ?_⟩
  rw [h3 (48 * r + j) (by omega)]
  exact c5 j hj
theorem SkOK.keep {k c : Nat} {co : Nat → Int32} {x : Int32} (h : SkOK co x) (hk : k < 4) (hc : c ≤ 12) : SkOK (upd co k (nI c)) (nI (k + 1)) := by
  refine ⟨⟨k + 1, by omega, rfl⟩, fun j hj => ?_⟩
  by_cases e : j = k
  · rw [e]
    exact ⟨c, hc, upd_at⟩
  · rw [upd_no e]
    exact h.2 j hj
def TxQ (bytes tape row : Nat → Int32) (hh im : Int32) (g : Nat → Int32) (si ac hi : Int32) (tl' : Int32) (sst' sco' : Nat → Int32) (hd' : Int32) (row' : Nat → Int32) (hh' im' tpd' : Int32) (sc' lg' : Nat → Int32) (scs' : Int32) (g' : Nat → Int32) (si' ac' hi' : Int32) : Prop :=
  (∃ n', TR n' bytes tape ∧ tl' = nI n' ∧ tpd' = nI n') ∧ (∃ k', k' ≤ 4 ∧ hd' = nI k' ∧ scs' = nI k' ∧ SR k' sst' sco' sc' lg' ∧ SkOK sco' (nI k')) ∧ ((row' = row ∧ hh' = hh ∧ im' = im ∧ g' = g ∧ si' = si ∧ ac' = ac ∧ hi' = hi) ∨ ∃ s, s ≤ 8 ∧ row' 3 = nI s ∧ hh' = 0 ∧ g' 84 = 0 ∧ g' 75 = 0 ∧ si' = nI s ∧ ac' = 0 ∧ hi' = 0)
theorem tx_both {K n k : Nat} {p : Int32} {bytes tape ru pl st rp sc lg sst sco row g : Nat → Int32} {c1 c2 c3 c4 c5 c6 c7 hh im m1 m2 m3 m4 m5 m7 m8 m9 m10 si ac hi : Int32} {m6 : Int64} (hK : 200000 ≤ K) (h : TR n bytes tape) (hk : k ≤ 4) (hs : SR k sst sco sc lg) (hq : SkOK sco (nI k)) :
    ∃ v tl' ru' pl' st' d1 d2 d3 d4 d5 d6 d7 sst' sco' hd' row' hh' im' tpd' e1 e2 e3 e4 e5 e6 e7 e8 e9 e10 rp' sc' lg' scs' g' si' ac' hi', F_X7_text K p bytes (nI n) ru pl st c1 c2 c3 c4 c5 c6 c7 sst sco (nI k) row hh im = some (v, tl', ru', pl', st', d1, d2, d3, d4, d5, d6, d7, sst', sco', hd', row', hh', im') ∧ F_X8_text K p tape (nI n) m1 m2 m3 m4 m5 m6 m7 m8 m9 m10 rp sc lg (nI k) g si ac hi = some (v, tpd', e1, e2, e3, e4, e5, e6, e7, e8, e9, e10, rp', sc', lg', scs', g', si', ac', hi') ∧ TxQ bytes tape row hh im g si ac hi tl' sst' sco' hd' row' hh' im' tpd' sc' lg' scs' g' si' ac' hi' := by
  have hn := h.1
  have base : TxQ bytes tape row hh im g si ac hi (nI n) sst sco (nI k) row hh im (nI n) sc lg (nI k) g si ac hi := ⟨⟨n, h, rfl, rfl⟩, ⟨k, hk, rfl, rfl, hs, hq⟩, Or.inl ⟨rfl, rfl, rfl, rfl, rfl, rfl, rfl⟩⟩
  have tr0 : TR 0 bytes tape := ⟨by omega, fun i hi => absurd hi (Nat.not_lt_zero _)⟩
  by_cases q0 : p = 0
  · obtain ⟨r, ru', pl', s', st', m', ac', ws', nu', f', am', pa', fr', pn', wr', pw', la', bo', go', rs', rp', E1, E2, hr⟩ := rw_both (K := K) (ru := ru) (pl := pl) (rp := rp) (c1 := c1) (c2 := c2) (c3 := c3) (c4 := c4) (c5 := c5) (c6 := c6) (c7 := c7) (m1 := m1) (m2 := m2) (m3 := m3) (m4 := m4) (m5 := m5) (m6 := m6) (m7 := m7) (m8 := m8) (m9 := m9) (m10 := m10) h.sg h.c h.m (by omega)
    unfold F_X7_text F_X8_text
    rw [if_pos q0, if_pos q0, E1, E2, xb10, xb12]
    by_cases q : r = -1
    · obtain ⟨s2, hs2, rfl, rfl, hrd⟩ := hr q
      obtain ⟨⟨a0, a1, a2, a3, a4⟩, B, b1, b2, b3, b4, b5⟩ := t_beginWatch (ru := ru') (pl := pl') (row := row) (hh := hh) (im := im) hK hrd.1 hn
      obtain ⟨⟨t0, t1, t2, t3, t4⟩, T, u1, ⟨u2, u3⟩, u4, u5, u6⟩ := u_takeWatch (la := la') (bo := bo') (go := go') (rp := rp') (g := g) (si := si) (ac := ac) (im := hi) hK hrd.1
      rw [if_pos q, if_pos q, B, T, xb5, xb5]
      obtain rfl : a0 = nI s2 := b1
      obtain rfl : t0 = nI s2 := u1
      exact ⟨_, _, _, _, _, _, _, _, _, _, _, _, _, _, _, _, _, _, _, _, _, _, _, _, _, _, _, _, _, _, _, _, _, _, _, _, _, rfl, rfl, ⟨0, tr0, b2, rfl⟩, ⟨k, hk, rfl, rfl, hs, hq⟩, Or.inr ⟨s2, hrd.1, b3, b4, u2, u3, u4, u5, u6⟩⟩
    · have p1 : ¬ p = 1 := by rw [q0]; decide
      unfold J_X7_text_20 J_X8_text_22
      rw [if_neg q, if_neg q, if_neg p1, if_neg p1]
      exact ⟨_, _, _, _, _, _, _, _, _, _, _, _, _, _, _, _, _, _, _, _, _, _, _, _, _, _, _, _, _, _, _, _, _, _, _, _, _, rfl, rfl, base⟩
  · unfold F_X7_text F_X8_text
    rw [if_neg q0, if_neg q0]
    unfold J_X7_text_20 J_X8_text_22
    by_cases q1 : p = 1
    · rw [if_pos q1, if_pos q1, c_full hk, xb1]
      by_cases q4 : k < 4
      · rw [if_pos q4, if_pos rfl, if_neg (show ¬ (4 : Int32) ≤ nI k from mt (nI_leI (a := 4) (b := k) (by omega) (by omega)).mp (by omega))]
        obtain ⟨r, ru', st', s', cn', m', ac', ws', nu', f', am', pa', fr', pn', wr', pw', sc', lg', E1, E2, hr, k1, k2⟩ := rs_both (K := K) (p := k) (ru := ru) (st := st) (sc := sc) (lg := lg) (c1 := c1) (c2 := c2) (c3 := c3) (c4 := c4) (c5 := c5) (c6 := c6) (c7 := c7) (m1 := m1) (m2 := m2) (m3 := m3) (m4 := m4) (m5 := m5) (m6 := m6) h.sg h.c h.m (by omega) hk
        rw [E1, E2, xb10, xb9]
        by_cases q : r = -1
        · obtain ⟨c, hc1, hc2, rfl, e2, e3, -⟩ := hr q
          unfold F_X7_keepScript
          rw [if_pos q, if_pos q, c_keep q4, xb3, c_cut0 hn, xb2, xb5, nI_1]
          exact ⟨_, _, _, _, _, _, _, _, _, _, _, _, _, _, _, _, _, _, _, _, _, _, _, _, _, _, _, _, _, _, _, _, _, _, _, _, _, rfl, rfl, ⟨0, tr0, rfl, rfl⟩, ⟨k + 1, by omega, rfl, rfl, hs.keep hc1 hc2 e2 e3 k1 k2, hq.keep q4 hc2⟩, Or.inl ⟨rfl, rfl, rfl, rfl, rfl, rfl, rfl⟩⟩
        · rw [if_neg q, if_neg q]
          exact ⟨_, _, _, _, _, _, _, _, _, _, _, _, _, _, _, _, _, _, _, _, _, _, _, _, _, _, _, _, _, _, _, _, _, _, _, _, _, rfl, rfl, ⟨n, h, rfl, rfl⟩, ⟨k, hk, rfl, rfl, hs.of (fun j hj => k1 j (Or.inl hj)) (fun j hj => k2 j (by omega)), hq⟩, Or.inl ⟨rfl, rfl, rfl, rfl, rfl, rfl, rfl⟩⟩
      · rw [if_neg q4, if_neg (by decide), if_pos (show (4 : Int32) ≤ nI k from (nI_leI (a := 4) (b := k) (by omega) (by omega)).mpr (by omega))]
        exact ⟨_, _, _, _, _, _, _, _, _, _, _, _, _, _, _, _, _, _, _, _, _, _, _, _, _, _, _, _, _, _, _, _, _, _, _, _, _, rfl, rfl, base⟩
    · rw [if_neg q1, if_neg q1]
      exact ⟨_, _, _, _, _, _, _, _, _, _, _, _, _, _, _, _, _, _, _, _, _, _, _, _, _, _, _, _, _, _, _, _, _, _, _, _, _, rfl, rfl, base⟩
