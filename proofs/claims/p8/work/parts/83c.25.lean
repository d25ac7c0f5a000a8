/-! Stage B, 25: years, in both: what they leave (their answers are another matter) -/
theorem l_ne0w {x : Int32} (h : ¬ x ≤ 0) : ¬ x.toInt64 = 0 := fun q => h (by
  have a := congrArg Int64.toInt q
  rw [Int32.toInt_toInt64] at a
  have t0 : (0 : Int32).toInt = 0 := by decide
  have t1 : (0 : Int64).toInt = 0 := by decide
  rw [Int32.le_iff_toInt_le, a, t1, t0]
  decide)
theorem dn_both {p : Int32} {x : Int64} (h : ¬ p ≤ 0) : ∃ r x', F_X1_next p x = some (r, x') ∧ F_X8_draw p x = some (r, x') := by
  unfold F_X1_next F_X8_draw nzL
  rw [if_neg h, if_neg (l_ne0w h)]
  exact ⟨_, _, rfl, rfl⟩
theorem t0_both {n a hd nx K s : Nat} {f g bk hr kp rf P A sh lo sx sy : Nat → Int32} {S x y z ac oc as ou tk : Int32} (eS : S = nI s) (hs : s ≤ 6) (hK : 200000 ≤ K) (ha : a < 2 ^ 29) (h : ActR n a hd nx f g bk hr kp) : ∃ (r ac' oc' as' ou' tk' : Int32) (a' hd' nx' : Nat) (f' g' bk' hr' kp' P' A' sh' lo' sx' sy' : Nat → Int32), F_X7_act K S x y z 0 f P ac oc sh lo bk hr (nI nx) (nI hd) rf = some (r, f', P', ac', oc', sh', lo', bk', hr', nI nx', nI hd', rf) ∧ F_X8_tryOne K S x y z g (nI n) sx sy as ou A tk kp (nI hd) = some (g', sx', sy', as', ou', A', tk', kp', nI hd') ∧ ActR n a' hd' nx' f' g' bk' hr' kp' ∧ a' ≤ a + 1 := by
  obtain ⟨w, e2, q⟩ := a0_both (x := x) (y := y) (z := z) (rf := rf) (P := P) (A := A) (sh := sh) (lo := lo) (sx := sx) (sy := sy) (ac := ac) (oc := oc) (as := as) (ou := ou) (tk := tk) eS hs hK ha h
  unfold F_X8_tryOne
  rw [e2, xb1]
  rcases q with ⟨q1, q2⟩ | ⟨q1, r', v, ac1, oc1, as1, ou1, hd1, nx1, f1, g1, bk1, hr1, kp1, P1, A1, sh1, lo1, sx1, sy1, q2, q3, q4, q5⟩
  · rw [if_neg q1, q2]
    exact ⟨_, _, _, _, _, _, a, _, _, _, _, _, _, _, _, _, _, _, _, _, rfl, rfl, h, by omega⟩
  · rw [if_pos q1, q3, q4, xb10]
    exact ⟨_, _, _, _, _, _, a + 1, _, _, _, _, _, _, _, _, _, _, _, _, _, rfl, rfl, q5, by omega⟩
abbrev YrX : Type := Int32 × Int32 × (Nat → Int32) × (Nat → Int32) × Int32 × Int32 × (Nat → Int32) × (Nat → Int32) × (Nat → Int32) × (Nat → Int32) × Int32 × Int32 × Int64 × Int32 × Int32 × Int32 × Int32 × (Nat → Int32)
abbrev YrM : Type := Int32 × (Nat → Int32) × (Nat → Int32) × (Nat → Int32) × Int32 × Int32 × (Nat → Int32) × Int32 × (Nat → Int32) × Int32 × Int64
def YsR (n a : Nat) (rf : Nat → Int32) (i : Nat) (s : YrX) (t : YrM) : Prop := ∃ (v ac oc as ou tk d1 d2 d3 d4 : Int32) (dx : Int64) (a' hd nx : Nat) (f g bk hr kp P A sh lo sx sy : Nat → Int32), s = (v, nI i, f, P, ac, oc, sh, lo, bk, hr, nI nx, nI hd, dx, d1, d2, d3, d4, rf) ∧ t = (nI i, g, sx, sy, as, ou, A, tk, kp, nI hd, dx) ∧ ActR n a' hd nx f g bk hr kp ∧ a' ≤ a + i
theorem YsR.step {n a m i K : Nat} {rf : Nat → Int32} {s : YrX} {t : YrM} (hK : 200000 ≤ K) (ha : a + 50 < 2 ^ 29) (h0 : 0 < n) (hm : m ≤ 40) (hi : i < m) (q : YsR n a rf i s t) : ∃ s' t', B_X7_years_37 K (nI m) s.1 s.2.1 s.2.2.1 s.2.2.2.1 s.2.2.2.2.1 s.2.2.2.2.2.1 s.2.2.2.2.2.2.1 s.2.2.2.2.2.2.2.1 s.2.2.2.2.2.2.2.2.1 s.2.2.2.2.2.2.2.2.2.1 s.2.2.2.2.2.2.2.2.2.2.1 s.2.2.2.2.2.2.2.2.2.2.2.1 s.2.2.2.2.2.2.2.2.2.2.2.2.1 s.2.2.2.2.2.2.2.2.2.2.2.2.2.1 s.2.2.2.2.2.2.2.2.2.2.2.2.2.2.1 s.2.2.2.2.2.2.2.2.2.2.2.2.2.2.2.1 s.2.2.2.2.2.2.2.2.2.2.2.2.2.2.2.2.1 s.2.2.2.2.2.2.2.2.2.2.2.2.2.2.2.2.2 = some (.inl s') ∧ B_X8_years_29 K (nI m) (nI n) t.1 t.2.1 t.2.2.1 t.2.2.2.1 t.2.2.2.2.1 t.2.2.2.2.2.1 t.2.2.2.2.2.2.1 t.2.2.2.2.2.2.2.1 t.2.2.2.2.2.2.2.2.1 t.2.2.2.2.2.2.2.2.2.1 t.2.2.2.2.2.2.2.2.2.2 = some (.inl t') ∧ YsR n a rf (i + 1) s' t' := by
  obtain ⟨v, ac, oc, as, ou, tk, d1, d2, d3, d4, dx, a', hd, nx, f, g, bk, hr, kp, P, A, sh, lo, sx, sy, rfl, rfl, h, ha'⟩ := q
  have n8 := h.1.1.n8
  show ∃ s' t', B_X7_years_37 K (nI m) v (nI i) f P ac oc sh lo bk hr (nI nx) (nI hd) dx d1 d2 d3 d4 rf = some (.inl s') ∧ B_X8_years_29 K (nI m) (nI n) (nI i) g sx sy as ou A tk kp (nI hd) dx = some (.inl t') ∧ YsR n a rf (i + 1) s' t'
  have lm : ¬ nI m ≤ nI i := mt (nI_leI (a := m) (b := i) (by omega) (by omega)).mp (by omega)
  unfold B_X7_years_37 B_X8_years_29 F_X5_sites F_X1_pickAct F_X8_drawYear
  rw [if_neg lm, if_neg lm, xb1, h.1.1.sz, nI_1]
  obtain ⟨w1, x1, e1, e1'⟩ := dn_both (p := 8) (x := dx) (by decide)
  rw [e1, e1', xb2, xb2]
  by_cases c7 : w1 = 7
  · obtain ⟨r, ac1, oc1, as1, ou1, tk1, a1, hd1, nx1, f1, g1, bk1, hr1, kp1, P1, A1, sh1, lo1, sx1, sy1, q1, q2, q3, q4⟩ := t0_both (s := 1) (S := 1) (x := 0) (y := 0) (z := 0) (rf := rf) (P := P) (A := A) (sh := sh) (lo := lo) (sx := sx) (sy := sy) (ac := ac) (oc := oc) (as := as) (ou := ou) (tk := tk) rfl (by decide) hK (show a' < 2 ^ 29 by omega) h
    rw [if_pos c7, if_pos c7, xb5, irr_1 (x' := 0) (y' := 0) (z' := 0), q1, xb12, q2, xb9, xb10]
    exact ⟨_, _, rfl, rfl, _, _, _, _, _, _, _, _, _, _, _, a1, _, _, _, _, _, _, _, _, _, _, _, _, _, rfl, rfl, q3, by omega⟩
  · obtain ⟨w2, x2, e2, e2'⟩ := dn_both (p := nI n) (x := x1) (nI_nle h0 (by omega))
    rw [if_neg c7, if_neg c7, e2, e2', xb2, xb2]
    by_cases c6 : w1 = 6
    · obtain ⟨w3, x3, e3, e3'⟩ := dn_both (p := 9) (x := x2) (by decide)
      obtain ⟨r, ac1, oc1, as1, ou1, tk1, a1, hd1, nx1, f1, g1, bk1, hr1, kp1, P1, A1, sh1, lo1, sx1, sy1, q1, q2, q3, q4⟩ := t0_both (s := 4) (S := 4) (x := w2) (y := w3 + 1) (z := 0) (rf := rf) (P := P) (A := A) (sh := sh) (lo := lo) (sx := sx) (sy := sy) (ac := ac) (oc := oc) (as := as) (ou := ou) (tk := tk) rfl (by decide) hK (show a' < 2 ^ 29 by omega) h
      rw [if_pos c6, if_pos c6, e3, e3', xb2, xb2, xb5, irr_4 (z' := 0), q1, xb12, q2, xb9, xb10]
      exact ⟨_, _, rfl, rfl, _, _, _, _, _, _, _, _, _, _, _, a1, _, _, _, _, _, _, _, _, _, _, _, _, _, rfl, rfl, q3, by omega⟩
    · obtain ⟨w3, x3, e3, e3'⟩ := dn_both (p := 21) (x := x2) (by decide)
      obtain ⟨w4, x4, e4, e4'⟩ := dn_both (p := 21) (x := x3) (by decide)
      obtain ⟨r, ac1, oc1, as1, ou1, tk1, a1, hd1, nx1, f1, g1, bk1, hr1, kp1, P1, A1, sh1, lo1, sx1, sy1, q1, q2, q3, q4⟩ := t0_both (s := 0) (S := 0) (x := w2) (y := w3 - 10) (z := w4 - 10) (rf := rf) (P := P) (A := A) (sh := sh) (lo := lo) (sx := sx) (sy := sy) (ac := ac) (oc := oc) (as := as) (ou := ou) (tk := tk) rfl (by decide) hK (show a' < 2 ^ 29 by omega) h
      rw [if_neg c6, if_neg c6, e3, e3', xb2, xb2, e4, e4', xb2, xb2, xb5, q1, xb12, q2, xb9, xb10]
      exact ⟨_, _, rfl, rfl, _, _, _, _, _, _, _, _, _, _, _, a1, _, _, _, _, _, _, _, _, _, _, _, _, _, rfl, rfl, q3, by omega⟩
theorem p_years {n a hd nx K : Nat} {f g bk hr kp rf P A sh lo sx sy : Nat → Int32} {x ac oc as ou tk d1 d2 d3 d4 : Int32} {y dx dm : Int64} (hK : 200000 ≤ K) (ha : a + 50 < 2 ^ 29) (h : ActR n a hd nx f g bk hr kp) : ∃ (v w ac' oc' as' ou' tk' d1' d2' d3' d4' : Int32) (dx' dm' : Int64) (a' hd' nx' : Nat) (f' g' bk' hr' kp' P' A' sh' lo' sx' sy' : Nat → Int32), F_X7_years K x y f P ac oc sh lo bk hr (nI nx) (nI hd) dx d1 d2 d3 d4 rf = some (v, f', P', ac', oc', sh', lo', bk', hr', nI nx', nI hd', dx', d1', d2', d3', d4', rf) ∧ F_X8_years K x y g (nI n) sx sy as ou A tk kp (nI hd) dm = some (w, g', sx', sy', as', ou', A', tk', kp', nI hd', dm') ∧ ActR n a' hd' nx' f' g' bk' hr' kp' ∧ a' ≤ a + 40 := by
  have n8 := h.1.1.n8
  obtain ⟨s1, s2⟩ := sd_both n8 h.1.1.sz
  have ei : F_X8_in x.toInt64 (1 : Int64) (40 : Int64) = some (if (1 : Int32) ≤ x ∧ x ≤ (40 : Int32) then 1 else 0) := by
    rw [show (1 : Int64) = (1 : Int32).toInt64 from rfl, show (40 : Int64) = (40 : Int32).toInt64 by decide, m_inI]
  unfold F_X7_years F_X8_years
  rw [s1, s2, xb1, xb1]
  by_cases z : n = 0
  · rw [if_pos z, if_pos rfl, if_pos rfl]
    exact ⟨_, _, _, _, _, _, _, _, _, _, _, _, _, a, _, _, _, _, _, _, _, _, _, _, _, _, _, rfl, rfl, h, by omega⟩
  · rw [if_neg z, if_neg (show ¬ (1 : Int32) = 0 by decide), if_neg (show ¬ (1 : Int32) = 0 by decide), rng_d, ei, xb1]
    by_cases c : (1 : Int32) ≤ x ∧ x ≤ (40 : Int32)
    · obtain ⟨m, hm, rfl⟩ := in_nat (p := x) (n := 40) (by decide) ⟨Int32.le_trans (by decide) c.1, c.2⟩
      rw [if_pos c, if_pos c, if_neg (show ¬ (1 : Int32) = 0 by decide)]
      have hz : YsR n a rf 0 ((0 : Int32), (0 : Int32), f, P, ac, oc, sh, lo, bk, hr, nI nx, nI hd, y, d1, d2, d3, d4, rf) ((0 : Int32), g, sx, sy, as, ou, A, tk, kp, nI hd, y) := ⟨_, _, _, _, _, _, _, _, _, _, _, a, _, _, _, _, _, _, _, _, _, _, _, _, _, rfl, rfl, h, by omega⟩
      have he : ∀ s t, YsR n a rf m s t → ∃ r u, (fun u9 : Int32 × Int32 × (Nat → Int32) × (Nat → Int32) × Int32 × Int32 × (Nat → Int32) × (Nat → Int32) × (Nat → Int32) × (Nat → Int32) × Int32 × Int32 × Int64 × Int32 × Int32 × Int32 × Int32 × (Nat → Int32) => B_X7_years_37 K (nI m) u9.1 u9.2.1 u9.2.2.1 u9.2.2.2.1 u9.2.2.2.2.1 u9.2.2.2.2.2.1 u9.2.2.2.2.2.2.1 u9.2.2.2.2.2.2.2.1 u9.2.2.2.2.2.2.2.2.1 u9.2.2.2.2.2.2.2.2.2.1 u9.2.2.2.2.2.2.2.2.2.2.1 u9.2.2.2.2.2.2.2.2.2.2.2.1 u9.2.2.2.2.2.2.2.2.2.2.2.2.1 u9.2.2.2.2.2.2.2.2.2.2.2.2.2.1 u9.2.2.2.2.2.2.2.2.2.2.2.2.2.2.1 u9.2.2.2.2.2.2.2.2.2.2.2.2.2.2.2.1 u9.2.2.2.2.2.2.2.2.2.2.2.2.2.2.2.2.1 u9.2.2.2.2.2.2.2.2.2.2.2.2.2.2.2.2.2) s = some (.inr r) ∧ (fun u9 : Int32 × (Nat → Int32) × (Nat → Int32) × (Nat → Int32) × Int32 × Int32 × (Nat → Int32) × Int32 × (Nat → Int32) × Int32 × Int64 => B_X8_years_29 K (nI m) (nI n) u9.1 u9.2.1 u9.2.2.1 u9.2.2.2.1 u9.2.2.2.2.1 u9.2.2.2.2.2.1 u9.2.2.2.2.2.2.1 u9.2.2.2.2.2.2.2.1 u9.2.2.2.2.2.2.2.2.1 u9.2.2.2.2.2.2.2.2.2.1 u9.2.2.2.2.2.2.2.2.2.2) t = some (.inr u) ∧ YsR n a rf m (r.1, nI m, r.2) (nI m, u) := by
        intro s t q
        obtain ⟨v, ac, oc, as, ou, tk, d1, d2, d3, d4, dx, a', hd, nx, f, g, bk, hr, kp, P, A, sh, lo, sx, sy, rfl, rfl, h, ha'⟩ := q
        have le : nI m ≤ nI m := (nI_leI (a := m) (b := m) (by omega) (by omega)).mpr (Nat.le_refl _)
        refine ⟨(v, f, P, ac, oc, sh, lo, bk, hr, nI nx, nI hd, dx, d1, d2, d3, d4, rf), (g, sx, sy, as, ou, A, tk, kp, nI hd, dx), ?_, ?_, _, _, _, _, _, _, _, _, _, _, _, a', _, _, _, _, _, _, _, _, _, _, _, _, _, rfl, rfl, h, ha'⟩
        · show B_X7_years_37 K (nI m) v (nI m) f P ac oc sh lo bk hr (nI nx) (nI hd) dx d1 d2 d3 d4 rf = _
          unfold B_X7_years_37
          rw [if_pos le]
        · show B_X8_years_29 K (nI m) (nI n) (nI m) g sx sy as ou A tk kp (nI hd) dx = _
          unfold B_X8_years_29
          rw [if_pos le]
      obtain ⟨u, t, x1, x2, v1, ac1, oc1, as1, ou1, tk1, p1, p2, p3, p4, dx1, a1, hd1, nx1, f1, g1, bk1, hr1, kp1, P1, A1, sh1, lo1, sx1, sy1, y3, y4, y5, y6⟩ := lp_two (YsR n a rf) (fun r u => YsR n a rf m (r.1, nI m, r.2) (nI m, u)) (n := m) (K := K) (K' := K) (by omega) (by omega) (fun i s t hi q => Or.inl (YsR.step hK ha (by omega) (by omega) hi q)) he hz
      have y7 : u = (v1, f1, P1, ac1, oc1, sh1, lo1, bk1, hr1, nI nx1, nI hd1, dx1, p1, p2, p3, p4, rf) := by
        obtain ⟨u1, u2⟩ := u
        have e := congrArg (fun w : YrX => (w.1, w.2.2)) y3
        exact e
      have y8 : t = (g1, sx1, sy1, as1, ou1, A1, tk1, kp1, nI hd1, dx1) := congrArg (fun w : YrM => w.2) y4
      rw [x1, x2, y7, y8]
      exact ⟨_, _, _, _, _, _, _, _, _, _, _, _, _, a1, _, _, _, _, _, _, _, _, _, _, _, _, _, rfl, rfl, y5, by omega⟩
    · rw [if_neg c, if_neg c, if_pos rfl]
      exact ⟨_, _, _, _, _, _, _, _, _, _, _, _, _, a, _, _, _, _, _, _, _, _, _, _, _, _, _, rfl, rfl, h, by omega⟩
