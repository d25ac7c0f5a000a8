-- 83c.25
section
/-! Stage B, 25: years, in both: what they leave (their answers are another matter) -/
theorem l_ne0w {x : Int32} (h : ¬ x ≤ 0) : ¬ x.toInt64 = 0 := fun q => h (by
  have a := congrArg Int64.toInt q
  rw [Int32.toInt_toInt64] at a
  have t0 : (0 : Int32).toInt = 0 := by decide
  have t1 : (0 : Int64).toInt = 0 := by decide
  rw [Int32.le_iff_toInt_le, a, t1, t0]
  decide)
theorem dn_both {p : Int32} {x : Int64} (h : ¬ p ≤ 0) : ∃ r x', F_X1_next p x = some (r, x') ∧ F_X8_draw p x = some (r, x') := by
  unfold F_X1_next F_X8_draw nzL
  rw [if_neg h, if_neg (l_ne0w h)]
  exact ⟨_, _, rfl, rfl⟩
theorem t0_both {n a hd nx K s : Nat} {f g bk hr kp rf P A sh lo sx sy : Nat → Int32} {S x y z ac oc as ou tk : Int32} (eS : S = nI s) (hs : s ≤ 6) (hK : 200000 ≤ K) (ha : a < 2 ^ 29) (h : ActR n a hd nx f g bk hr kp) : ∃ (r ac' oc' as' ou' tk' : Int32) (a' hd' nx' : Nat) (f' g' bk' hr' kp' P' A' sh' lo' sx' sy' : Nat → Int32), F_X7_act K S x y z 0 f P ac oc sh lo bk hr (nI nx) (nI hd) rf = some (r, f', P', ac', oc', sh', lo', bk', hr', nI nx', nI hd', rf) ∧ F_X8_tryOne K S x y z g (nI n) sx sy as ou A tk kp (nI hd) = some (g', sx', sy', as', ou', A', tk', kp', nI hd') ∧ ActR n a' hd' nx' f' g' bk' hr' kp' ∧ a' ≤ a + 1 := by
  obtain ⟨w, e2, q⟩ := a0_both (x := x) (y := y) (z := z) (rf := rf) (P := P) (A := A) (sh := sh) (lo := lo) (sx := sx) (sy := sy) (ac := ac) (oc := oc) (as := as) (ou := ou) (tk := tk) eS hs hK ha h
  unfold F_X8_tryOne
  rw [e2, xb1]
  rcases q with ⟨q1, q2⟩ | ⟨q1, r', v, ac1, oc1, as1, ou1, hd1, nx1, f1, g1, bk1, hr1, kp1, P1, A1, sh1, lo1, sx1, sy1, q2, q3, q4, q5⟩
  · rw [if_neg q1, q2]
    exact ⟨_, _, _, _, _, _, a, _, _, _, _, _, _, _, _, _, _, _, _, _, rfl, rfl, h, by omega⟩
  · rw [if_pos q1, q3, q4, xb10]
    exact ⟨_, _, _, _, _, _, a + 1, _, _, _, _, _, _, _, _, _, _, _, _, _, rfl, rfl, q5, by omega⟩
abbrev YrX : Type := Int32 × Int32 × (Nat → Int32) × (Nat → Int32) × Int32 × Int32 × (Nat → Int32) × (Nat → Int32) × (Nat → Int32) × (Nat → Int32) × Int32 × Int32 × Int64 × Int32 × Int32 × Int32 × Int32 × (Nat → Int32)
abbrev YrM : Type := Int32 × (Nat → Int32) × (Nat → Int32) × (Nat → Int32) × Int32 × Int32 × (Nat → Int32) × Int32 × (Nat → Int32) × Int32 × Int64
def YsR (n a : Nat) (rf : Nat → Int32) (i : Nat) (s : YrX) (t : YrM) : Prop := ∃ (v ac oc as ou tk d1 d2 d3 d4 : Int32) (dx : Int64) (a' hd nx : Nat) (f g bk hr kp P A sh lo sx sy : Nat → Int32), s = (v, nI i, f, P, ac, oc, sh, lo, bk, hr, nI nx, nI hd, dx, d1, d2, d3, d4, rf) ∧ t = (nI i, g, sx, sy, as, ou, A, tk, kp, nI hd, dx) ∧ ActR n a' hd nx f g bk hr kp ∧ a' ≤ a + i
theorem YsR.step {n a m i K : Nat} {rf : Nat → Int32} {s : YrX} {t : YrM} (hK : 200000 ≤ K) (ha : a + 50 < 2 ^ 29) (h0 : 0 < n) (hm : m ≤ 40) (hi : i < m) (q : YsR n a rf i s t) : ∃ s' t', B_X7_years_37 K (nI m) s.1 s.2.1 s.2.2.1 s.2.2.2.1 s.2.2.2.2.1 s.2.2.2.2.2.1 s.2.2.2.2.2.2.1 s.2.2.2.2.2.2.2.1 s.2.2.2.2.2.2.2.2.1 s.2.2.2.2.2.2.2.2.2.1 s.2.2.2.2.2.2.2.2.2.2.1 s.2.2.2.2.2.2.2.2.2.2.2.1 s.2.2.2.2.2.2.2.2.2.2.2.2.1 s.2.2.2.2.2.2.2.2.2.2.2.2.2.1 s.2.2.2.2.2.2.2.2.2.2.2.2.2.2.1 s.2.2.2.2.2.2.2.2.2.2.2.2.2.2.2.1 s.2.2.2.2.2.2.2.2.2.2.2.2.2.2.2.2.1 s.2.2.2.2.2.2.2.2.2.2.2.2.2.2.2.2.2 = some (.inl s') ∧ B_X8_years_29 K (nI m) (nI n) t.1 t.2.1 t.2.2.1 t.2.2.2.1 t.2.2.2.2.1 t.2.2.2.2.2.1 t.2.2.2.2.2.2.1 t.2.2.2.2.2.2.2.1 t.2.2.2.2.2.2.2.2.1 t.2.2.2.2.2.2.2.2.2.1 t.2.2.2.2.2.2.2.2.2.2 = some (.inl t') ∧ YsR n a rf (i + 1) s' t' := by
  obtain ⟨v, ac, oc, as, ou, tk, d1, d2, d3, d4, dx, a', hd, nx, f, g, bk, hr, kp, P, A, sh, lo, sx, sy, rfl, rfl, h, ha'⟩ := q
  have n8 := h.1.1.n8
  show ∃ s' t', B_X7_years_37 K (nI m) v (nI i) f P ac oc sh lo bk hr (nI nx) (nI hd) dx d1 d2 d3 d4 rf = some (.inl s') ∧ B_X8_years_29 K (nI m) (nI n) (nI i) g sx sy as ou A tk kp (nI hd) dx = some (.inl t') ∧ YsR n a rf (i + 1) s' t'
  have lm : ¬ nI m ≤ nI i := mt (nI_leI (a := m) (b := i) (by omega) (by omega)).mp (by omega)
  unfold B_X7_years_37 B_X8_years_29 F_X5_sites F_X1_pickAct F_X8_drawYear
  rw [if_neg lm, if_neg lm, xb1, h.1.1.sz, nI_1]
  obtain ⟨w1, x1, e1, e1'⟩ := dn_both (p := 8) (x := dx) (by decide)
  rw [e1, e1', xb2, xb2]
  by_cases c7 : w1 = 7
  · obtain ⟨r, ac1, oc1, as1, ou1, tk1, a1, hd1, nx1, f1, g1, bk1, hr1, kp1, P1, A1, sh1, lo1, sx1, sy1, q1, q2, q3, q4⟩ := t0_both (s := 1) (S := 1) (x := 0) (y := 0) (z := 0) (rf := rf) (P := P) (A := A) (sh := sh) (lo := lo) (sx := sx) (sy := sy) (ac := ac) (oc := oc) (as := as) (ou := ou) (tk := tk) rfl (by decide) hK (show a' < 2 ^ 29 by omega) h
    rw [if_pos c7, if_pos c7, xb5, irr_1 (x' := 0) (y' := 0) (z' := 0), q1, xb12, q2, xb9, xb10]
    exact ⟨_, _, rfl, rfl, _, _, _, _, _, _, _, _, _, _, _, a1, _, _, _, _, _, _, _, _, _, _, _, _, _, rfl, rfl, q3, by omega⟩
  · obtain ⟨w2, x2, e2, e2'⟩ := dn_both (p := nI n) (x := x1) (nI_nle h0 (by omega))
    rw [if_neg c7, if_neg c7, e2, e2', xb2, xb2]
    by_cases c6 : w1 = 6
    · obtain ⟨w3, x3, e3, e3'⟩ := dn_both (p := 9) (x := x2) (by decide)
      obtain ⟨r, ac1, oc1, as1, ou1, tk1, a1, hd1, nx1, f1, g1, bk1, hr1, kp1, P1, A1, sh1, lo1, sx1, sy1, q1, q2, q3, q4⟩ := t0_both (s := 4) (S := 4) (x := w2) (y := w3 + 1) (z := 0) (rf := rf) (P := P) (A := A) (sh := sh) (lo := lo) (sx := sx) (sy := sy) (ac := ac) (oc := oc) (as := as) (ou := ou) (tk := tk) rfl (by decide) hK (show a' < 2 ^ 29 by omega) h
      rw [if_pos c6, if_pos c6, e3, e3', xb2, xb2, xb5, irr_4 (z' := 0), q1, xb12, q2, xb9, xb10]
      exact ⟨_, _, rfl, rfl, _, _, _, _, _, _, _, _, _, _, _, a1, _, _, _, _, _, _, _, _, _, _, _, _, _, rfl, rfl, q3, by omega⟩
    · obtain ⟨w3, x3, e3, e3'⟩ := dn_both (p := 21) (x := x2) (by decide)
      obtain ⟨w4, x4, e4, e4'⟩ := dn_both (p := 21) (x := x3) (by decide)
      obtain ⟨r, ac1, oc1, as1, ou1, tk1, a1, hd1, nx1, f1, g1, bk1, hr1, kp1, P1, A1, sh1, lo1, sx1, sy1, q1, q2, q3, q4⟩ := t0_both (s := 0) (S := 0) (x := w2) (y := w3 - 10) (z := w4 - 10) (rf := rf) (P := P) (A := A) (sh := sh) (lo := lo) (sx := sx) (sy := sy) (ac := ac) (oc := oc) (as := as) (ou := ou) (tk := tk) rfl (by decide) hK (show a' < 2 ^ 29 by omega) h
      rw [if_neg c6, if_neg c6, e3, e3', xb2, xb2, e4, e4', xb2, xb2, xb5, q1, xb12, q2, xb9, xb10]
      exact ⟨_, _, rfl, rfl, _, _, _, _, _, _, _, _, _, _, _, a1, _, _, _, _, _, _, _, _, _, _, _, _, _, rfl, rfl, q3, by omega⟩
theorem p_years {n a hd nx K : Nat} {f g bk hr kp rf P A sh lo sx sy : Nat → Int32} {x ac oc as ou tk d1 d2 d3 d4 : Int32} {y dx dm : Int64} (hK : 200000 ≤ K) (ha : a + 50 < 2 ^ 29) (h : ActR n a hd nx f g bk hr kp) : ∃ (v w ac' oc' as' ou' tk' d1' d2' d3' d4' : Int32) (dx' dm' : Int64) (a' hd' nx' : Nat) (f' g' bk' hr' kp' P' A' sh' lo' sx' sy' : Nat → Int32), F_X7_years K x y f P ac oc sh lo bk hr (nI nx) (nI hd) dx d1 d2 d3 d4 rf = some (v, f', P', ac', oc', sh', lo', bk', hr', nI nx', nI hd', dx', d1', d2', d3', d4', rf) ∧ F_X8_years K x y g (nI n) sx sy as ou A tk kp (nI hd) dm = some (w, g', sx', sy', as', ou', A', tk', kp', nI hd', dm') ∧ ActR n a' hd' nx' f' g' bk' hr' kp' ∧ a' ≤ a + 40 := by
  have n8 := h.1.1.n8
  obtain ⟨s1, s2⟩ := sd_both n8 h.1.1.sz
  have ei : F_X8_in x.toInt64 (1 : Int64) (40 : Int64) = some (if (1 : Int32) ≤ x ∧ x ≤ (40 : Int32) then 1 else 0) := by
    rw [show (1 : Int64) = (1 : Int32).toInt64 from rfl, show (40 : Int64) = (40 : Int32).toInt64 by decide, m_inI]
  unfold F_X7_years F_X8_years
  rw [s1, s2, xb1, xb1]
  by_cases z : n = 0
  · rw [if_pos z, if_pos rfl, if_pos rfl]
    exact ⟨_, _, _, _, _, _, _, _, _, _, _, _, _, a, _, _, _, _, _, _, _, _, _, _, _, _, _, rfl, rfl, h, by omega⟩
  · rw [if_neg z, if_neg (show ¬ (1 : Int32) = 0 by decide), if_neg (show ¬ (1 : Int32) = 0 by decide), rng_d, ei, xb1]
    by_cases c : (1 : Int32) ≤ x ∧ x ≤ (40 : Int32)
    · obtain ⟨m, hm, rfl⟩ := in_nat (p := x) (n := 40) (by decide) ⟨Int32.le_trans (by decide) c.1, c.2⟩
      rw [if_pos c, if_pos c, if_neg (show ¬ (1 : Int32) = 0 by decide)]
      have hz : YsR n a rf 0 ((0 : Int32), (0 : Int32), f, P, ac, oc, sh, lo, bk, hr, nI nx, nI hd, y, d1, d2, d3, d4, rf) ((0 : Int32), g, sx, sy, as, ou, A, tk, kp, nI hd, y) := ⟨_, _, _, _, _, _, _, _, _, _, _, a, _, _, _, _, _, _, _, _, _, _, _, _, _, rfl, rfl, h, by omega⟩
      have he : ∀ s t, YsR n a rf m s t → ∃ r u, (fun u9 : Int32 × Int32 × (Nat → Int32) × (Nat → Int32) × Int32 × Int32 × (Nat → Int32) × (Nat → Int32) × (Nat → Int32) × (Nat → Int32) × Int32 × Int32 × Int64 × Int32 × Int32 × Int32 × Int32 × (Nat → Int32) => B_X7_years_37 K (nI m) u9.1 u9.2.1 u9.2.2.1 u9.2.2.2.1 u9.2.2.2.2.1 u9.2.2.2.2.2.1 u9.2.2.2.2.2.2.1 u9.2.2.2.2.2.2.2.1 u9.2.2.2.2.2.2.2.2.1 u9.2.2.2.2.2.2.2.2.2.1 u9.2.2.2.2.2.2.2.2.2.2.1 u9.2.2.2.2.2.2.2.2.2.2.2.1 u9.2.2.2.2.2.2.2.2.2.2.2.2.1 u9.2.2.2.2.2.2.2.2.2.2.2.2.2.1 u9.2.2.2.2.2.2.2.2.2.2.2.2.2.2.1 u9.2.2.2.2.2.2.2.2.2.2.2.2.2.2.2.1 u9.2.2.2.2.2.2.2.2.2.2.2.2.2.2.2.2.1 u9.2.2.2.2.2.2.2.2.2.2.2.2.2.2.2.2.2) s = some (.inr r) ∧ (fun u9 : Int32 × (Nat → Int32) × (Nat → Int32) × (Nat → Int32) × Int32 × Int32 × (Nat → Int32) × Int32 × (Nat → Int32) × Int32 × Int64 => B_X8_years_29 K (nI m) (nI n) u9.1 u9.2.1 u9.2.2.1 u9.2.2.2.1 u9.2.2.2.2.1 u9.2.2.2.2.2.1 u9.2.2.2.2.2.2.1 u9.2.2.2.2.2.2.2.1 u9.2.2.2.2.2.2.2.2.1 u9.2.2.2.2.2.2.2.2.2.1 u9.2.2.2.2.2.2.2.2.2.2) t = some (.inr u) ∧ YsR n a rf m (r.1, nI m, r.2) (nI m, u) := by
        intro s t q
        obtain ⟨v, ac, oc, as, ou, tk, d1, d2, d3, d4, dx, a', hd, nx, f, g, bk, hr, kp, P, A, sh, lo, sx, sy, rfl, rfl, h, ha'⟩ := q
        have le : nI m ≤ nI m := (nI_leI (a := m) (b := m) (by omega) (by omega)).mpr (Nat.le_refl _)
        refine ⟨(v, f, P, ac, oc, sh, lo, bk, hr, nI nx, nI hd, dx, d1, d2, d3, d4, rf), (g, sx, sy, as, ou, A, tk, kp, nI hd, dx), ?_, ?_, _, _, _, _, _, _, _, _, _, _, _, a', _, _, _, _, _, _, _, _, _, _, _, _, _, rfl, rfl, h, ha'⟩
        · show B_X7_years_37 K (nI m) v (nI m) f P ac oc sh lo bk hr (nI nx) (nI hd) dx d1 d2 d3 d4 rf = _
          unfold B_X7_years_37
          rw [if_pos le]
        · show B_X8_years_29 K (nI m) (nI n) (nI m) g sx sy as ou A tk kp (nI hd) dx = _
          unfold B_X8_years_29
          rw [if_pos le]
      obtain ⟨u, t, x1, x2, v1, ac1, oc1, as1, ou1, tk1, p1, p2, p3, p4, dx1, a1, hd1, nx1, f1, g1, bk1, hr1, kp1, P1, A1, sh1, lo1, sx1, sy1, y3, y4, y5, y6⟩ := lp_two (YsR n a rf) (fun r u => YsR n a rf m (r.1, nI m, r.2) (nI m, u)) (n := m) (K := K) (K' := K) (by omega) (by omega) (fun i s t hi q => Or.inl (YsR.step hK ha (by omega) (by omega) hi q)) he hz
      have y7 : u = (v1, f1, P1, ac1, oc1, sh1, lo1, bk1, hr1, nI nx1, nI hd1, dx1, p1, p2, p3, p4, rf) := by
        obtain ⟨u1, u2⟩ := u
        have e := congrArg (fun w : YrX => (w.1, w.2.2)) y3
        exact e
      have y8 : t = (g1, sx1, sy1, as1, ou1, A1, tk1, kp1, nI hd1, dx1) := congrArg (fun w : YrM => w.2) y4
      rw [x1, x2, y7, y8]
      exact ⟨_, _, _, _, _, _, _, _, _, _, _, _, _, a1, _, _, _, _, _, _, _, _, _, _, _, _, _, rfl, rfl, y5, by omega⟩
    · rw [if_neg c, if_neg c, if_pos rfl]
      exact ⟨_, _, _, _, _, _, _, _, _, _, _, _, _, a, _, _, _, _, _, _, _, _, _, _, _, _, _, rfl, rfl, h, by omega⟩
end
-- 83c.26
section
/-! Stage B, 26: what is told of a watch, in both -/
theorem m_in0 {x : Int32} {m : Nat} {H : Int64} (e : H = (nI m).toInt64) : F_X8_in x.toInt64 (0 : Int64) H = some (if 0 ≤ x ∧ x ≤ nI m then 1 else 0) := by
  rw [e, show (0 : Int64) = (0 : Int32).toInt64 from rfl, m_inI]
theorem not_of {x : Int32} {m : Nat} (d : ¬ (0 ≤ x ∧ x ≤ nI m)) (k : Nat) (hk : k ≤ m) (hm : m < 2 ^ 31) : ¬ x = nI k := fun e => d (by
  rw [e]
  exact ⟨nI_nn (by omega), (nI_leI (a := k) (b := m) (by omega) hm).mpr hk⟩)
theorem tot_both {n K c : Nat} {f g : Nat → Int32} (hK : 200000 ≤ K) (h : RowR n f g) (hc : c < 8) : F_X5_total K (nI c) f = some (sgm (fun i => g (8 * c + i)) n) ∧ F_X8_sum K (nI (8 * c)) g (nI n) = some (sgm (fun i => g (8 * c + i)) n) := by
  have n8 := h.n8
  refine ⟨?_, bm_sum hK n8 (by omega)⟩
  rw [b_total hK n8 h.sz hc]
  exact congrArg some (sgm_eq n (fun i hi => h.1.2.2.1 i c hi hc))
theorem p_rule {n : Nat} {f g : Nat → Int32} {x : Int32} (h : RowR n f g) : ∃ v, F_X7_rule x f = some v ∧ F_X8_rule x g (nI n) = some v := by
  have n8 := h.n8
  obtain ⟨s1, s2⟩ := sd_both n8 h.sz
  unfold F_X7_rule F_X8_rule F_X5_sites
  by_cases z : n = 0
  · rw [s1, s2, if_pos z, xb1, if_pos rfl, xb1, if_pos rfl]
    exact ⟨_, rfl, rfl⟩
  · rw [s1, s2, if_neg z, xb1, if_neg n10, xb1, xb1, if_neg n10, h.sz, m_in0 (m := 3) (by decide), xb1, ite10]
    by_cases d : 0 ≤ x ∧ x ≤ nI 3
    · rw [if_pos d]
      obtain ⟨w, hw, rfl⟩ := in_nat (n := 3) (by decide) d
      rcases (show w = 0 ∨ w = 1 ∨ w = 2 ∨ w = 3 by omega) with rfl | rfl | rfl | rfl
      · rw [if_pos (by decide), if_neg (by decide), bm_ix (a := 64) (by rfl) (by decide), bm_cl (a := 64) (by rfl) (by decide), show f 0 = g 64 from h.sc (0, 64) (by decide)]
        exact ⟨_, rfl, rfl⟩
      · rw [if_neg (by decide), if_pos (by decide), if_neg (by decide), bm_ix (a := 64) (by rfl) (by decide), bm_cl (a := 64) (by rfl) (by decide), show f 1 = g 65 from h.sc (1, 65) (by decide)]
        exact ⟨_, rfl, rfl⟩
      · rw [if_neg (by decide), if_neg (by decide), if_pos (by decide), if_neg (by decide), bm_ix (a := 64) (by rfl) (by decide), bm_cl (a := 64) (by rfl) (by decide), show f 2 = g 66 from h.sc (2, 66) (by decide)]
        exact ⟨_, rfl, rfl⟩
      · rw [if_neg (by decide), if_neg (by decide), if_neg (by decide), if_pos (by decide), if_pos (by decide)]
        exact ⟨_, rfl, rfl⟩
    · have q := not_of d
      rw [if_neg d, if_neg (show ¬ x = (0 : Int32) from q 0 (by decide) (by decide)), if_neg (show ¬ x = (1 : Int32) from q 1 (by decide) (by decide)), if_neg (show ¬ x = (2 : Int32) from q 2 (by decide) (by decide)), if_neg (show ¬ x = (3 : Int32) from q 3 (by decide) (by decide))]
      exact ⟨_, rfl, rfl⟩
abbrev inM (v : Int32) : Prop := (-1000000 : Int32) ≤ v ∧ v ≤ (1000000 : Int32)
theorem m_inM {x : Int32} : F_X8_in x.toInt64 (-1000000 : Int64) (1000000 : Int64) = some (if inM x then 1 else 0) := by
  rw [show (-1000000 : Int64) = (-1000000 : Int32).toInt64 by decide, show (1000000 : Int64) = (1000000 : Int32).toInt64 by decide, m_inI]
theorem c_ask {n : Nat} {f : Nat → Int32} {x y : Int32} (n8 : n ≤ 8) (h3 : f 3 = nI n) : F_X7_canBeAsked x y f = some (if ¬ n = 0 ∧ inM x ∧ inM y then 1 else 0) := by
  obtain ⟨s1, s2⟩ := sd_both n8 h3
  unfold F_X7_canBeAsked
  by_cases z : n = 0
  · rw [s1, if_pos z, xb1, if_pos rfl, if_neg (fun w => w.1 z)]
  · rw [s1, if_neg z, xb1, if_neg n10, rng_c, rng_c]
    by_cases a : inM x
    · rw [if_pos (show (-1000000 : Int32) ≤ x ∧ x ≤ (1000000 : Int32) from a)]
      by_cases b : inM y
      · rw [if_pos (show (-1000000 : Int32) ≤ y ∧ y ≤ (1000000 : Int32) from b), if_pos (show ¬ n = 0 ∧ inM x ∧ inM y from ⟨z, a, b⟩)]
      · rw [if_neg (show ¬ ((-1000000 : Int32) ≤ y ∧ y ≤ (1000000 : Int32)) from b), if_neg (show ¬ (¬ n = 0 ∧ inM x ∧ inM y) from fun w => b w.2.2)]
    · rw [if_neg (show ¬ ((-1000000 : Int32) ≤ x ∧ x ≤ (1000000 : Int32)) from a), if_neg (show ¬ (¬ n = 0 ∧ inM x ∧ inM y) from fun w => a w.2.1)]
theorem p_value {n : Nat} {f g : Nat → Int32} {x y : Int32} (h : RowR n f g) (hg : RowG g) : ∃ v, F_X7_value x y f = some v ∧ F_X8_value x y g (nI n) = some v := by
  have n8 := h.n8
  obtain ⟨s1, s2⟩ := sd_both n8 h.sz
  obtain ⟨v, ev, -⟩ := t_valueOf (p1 := x.toInt64) (p2 := y.toInt64) (f := f)
  have ev2 : F_X8_valueOf x.toInt64 y.toInt64 g = some v := by rw [← h.1.val hg]; exact ev
  unfold F_X7_value F_X8_value
  rw [c_ask n8 h.sz, xb1, ite10, s2, xb1, m_inM, xb1, ite10, m_inM, xb1, ite10, ev, xb1, ev2, xb1]
  by_cases z : n = 0
  · rw [if_neg (show ¬ (¬ n = 0 ∧ inM x ∧ inM y) from fun w => w.1 z), if_pos z, if_pos rfl]
    exact ⟨_, rfl, rfl⟩
  · rw [if_neg z, if_neg n10]
    by_cases a : inM x
    · rw [if_pos (show inM x from a)]
      by_cases b : inM y
      · rw [if_pos (show inM y from b), if_pos (show ¬ n = 0 ∧ inM x ∧ inM y from ⟨z, a, b⟩)]
        exact ⟨_, rfl, rfl⟩
      · rw [if_neg (show ¬ inM y from b), if_neg (show ¬ (¬ n = 0 ∧ inM x ∧ inM y) from fun w => b w.2.2)]
        exact ⟨_, rfl, rfl⟩
    · rw [if_neg (show ¬ inM x from a), if_neg (show ¬ (¬ n = 0 ∧ inM x ∧ inM y) from fun w => a w.2.1)]
      exact ⟨_, rfl, rfl⟩
theorem p_tells {n : Nat} {f g : Nat → Int32} {x y : Int32} (h : RowR n f g) (hg : RowG g) : ∃ v, F_X7_tells x y f = some v ∧ F_X8_tells x y g (nI n) = some v := by
  have n8 := h.n8
  obtain ⟨s1, s2⟩ := sd_both n8 h.sz
  obtain ⟨v, ev, -⟩ := u_isAllowed (p1 := x) (p2 := y) (g := g)
  have ev2 : F_X5_allows x.toInt64 y.toInt64 f = some v := by rw [alw_both h.1 hg]; exact ev
  unfold F_X7_tells F_X8_tells
  rw [c_ask n8 h.sz, xb1, ite10, s2, xb1, m_inM, xb1, ite10, m_inM, xb1, ite10, ev, xb1, ev2, xb1]
  by_cases z : n = 0
  · rw [if_neg (show ¬ (¬ n = 0 ∧ inM x ∧ inM y) from fun w => w.1 z), if_pos z, if_pos rfl]
    exact ⟨_, rfl, rfl⟩
  · rw [if_neg z, if_neg n10]
    by_cases a : inM x
    · rw [if_pos (show inM x from a)]
      by_cases b : inM y
      · rw [if_pos (show inM y from b), if_pos (show ¬ n = 0 ∧ inM x ∧ inM y from ⟨z, a, b⟩)]
        by_cases c : v = 0
        · rw [if_pos c]
          exact ⟨_, rfl, rfl⟩
        · rw [if_neg c]
          exact ⟨_, rfl, rfl⟩
      · rw [if_neg (show ¬ inM y from b), if_neg (show ¬ (¬ n = 0 ∧ inM x ∧ inM y) from fun w => b w.2.2)]
        exact ⟨_, rfl, rfl⟩
    · rw [if_neg (show ¬ inM x from a), if_neg (show ¬ (¬ n = 0 ∧ inM x ∧ inM y) from fun w => a w.2.1)]
      exact ⟨_, rfl, rfl⟩
theorem p_all {n K : Nat} {f g : Nat → Int32} {x : Int32} (hK : 200000 ≤ K) (h : RowR n f g) (hg : RowG g) : ∃ v, F_X7_all K x f = some v ∧ F_X8_all K x g (nI n) = some v := by
  have n8 := h.n8
  obtain ⟨s1, s2⟩ := sd_both n8 h.sz
  have e16 : F_X8_sum K (16 : Int32) g (nI n) = some (f 4) := by rw [h.sx]; exact bm_sum hK n8 (b := 16) (by decide)
  have e24 : F_X8_sum K (24 : Int32) g (nI n) = some (f 5) := by rw [h.sy]; exact bm_sum hK n8 (b := 24) (by decide)
  obtain ⟨t0, u0⟩ := tot_both hK h (c := 0) (by decide)
  obtain ⟨t1, u1⟩ := tot_both hK h (c := 1) (by decide)
  have t0 : F_X5_total K (0 : Int32) f = some (sgm (fun i => g (8 * 0 + i)) n) := t0
  have u0 : F_X8_sum K (0 : Int32) g (nI n) = some (sgm (fun i => g (8 * 0 + i)) n) := u0
  have t1 : F_X5_total K (1 : Int32) f = some (sgm (fun i => g (8 * 1 + i)) n) := t1
  have u1 : F_X8_sum K (8 : Int32) g (nI n) = some (sgm (fun i => g (8 * 1 + i)) n) := u1
  generalize sgm (fun i => g (8 * 0 + i)) n = A at t0 u0
  generalize sgm (fun i => g (8 * 1 + i)) n = B at t1 u1
  obtain ⟨v, ev, -⟩ := t_valueOf (p1 := (f 4).toInt64) (p2 := (f 5).toInt64) (f := f)
  have ev2 : F_X8_valueOf (f 4).toInt64 (f 5).toInt64 g = some v := by rw [← h.1.val hg]; exact ev
  obtain ⟨w, ew, -⟩ := t_valueOf (p1 := A.toInt64) (p2 := B.toInt64) (f := f)
  have ew2 : F_X8_valueOf A.toInt64 B.toInt64 g = some w := by rw [← h.1.val hg]; exact ew
  unfold F_X7_all F_X8_all
  by_cases z : n = 0
  · rw [s1, s2, if_pos z, xb1, xb1, if_pos rfl, if_pos rfl]
    exact ⟨_, rfl, rfl⟩
  · rw [s1, s2, if_neg z, xb1, xb1, if_neg n10, if_neg n10, m_in0 (m := 5) (by decide), xb1, ite10]
    by_cases d : 0 ≤ x ∧ x ≤ nI 5
    · rw [if_pos d]
      obtain ⟨k, hk, rfl⟩ := in_nat (n := 5) (by decide) d
      rcases (show k = 0 ∨ k = 1 ∨ k = 2 ∨ k = 3 ∨ k = 4 ∨ k = 5 by omega) with rfl | rfl | rfl | rfl | rfl | rfl
      · rw [if_pos (by decide), if_pos (by decide), show (4 : Int32) + nI 0 = nI 4 by decide, xixn (by decide) (by decide), nI_clamp (by decide), e16, xb1]
        exact ⟨_, rfl, rfl⟩
      · rw [if_neg (by decide), if_pos (by decide), show (4 : Int32) + nI 1 = nI 5 by decide, xixn (by decide) (by decide), nI_clamp (by decide), if_neg (by decide), if_pos (by decide), e24, xb1]
        exact ⟨_, rfl, rfl⟩
      · rw [if_neg (by decide), if_neg (by decide), if_pos (by decide), show ((0 : Int32) + nI 2) - (2 : Int32) = 0 by decide, t0, xb1, if_neg (by decide), if_neg (by decide), if_pos (by decide), u0, xb1]
        exact ⟨_, rfl, rfl⟩
      · rw [if_neg (by decide), if_neg (by decide), if_neg (by decide), if_pos (by decide), show ((0 : Int32) + nI 3) - (2 : Int32) = 1 by decide, t1, xb1, if_neg (by decide), if_neg (by decide), if_neg (by decide), if_pos (by decide), u1, xb1]
        exact ⟨_, rfl, rfl⟩
      · rw [if_neg (by decide), if_neg (by decide), if_neg (by decide), if_neg (by decide), if_pos (by decide), ev, xb1, if_neg (by decide), if_neg (by decide), if_neg (by decide), if_neg (by decide), if_pos (by decide), e16, xb1, e24, xb1, ev2, xb1]
        exact ⟨_, rfl, rfl⟩
      · rw [if_neg (by decide), if_neg (by decide), if_neg (by decide), if_neg (by decide), if_neg (by decide), if_pos (by decide), t0, xb1, t1, xb1, ew, xb1, if_neg (by decide), if_neg (by decide), if_neg (by decide), if_neg (by decide), if_neg (by decide), u0, xb1, u1, xb1, ew2, xb1]
        exact ⟨_, rfl, rfl⟩
    · have q := not_of d
      rw [if_neg d, if_neg (show ¬ x = (0 : Int32) from q 0 (by decide) (by decide)), if_neg (show ¬ x = (1 : Int32) from q 1 (by decide) (by decide)), if_neg (show ¬ x = (2 : Int32) from q 2 (by decide) (by decide)), if_neg (show ¬ x = (3 : Int32) from q 3 (by decide) (by decide)), if_neg (show ¬ x = (4 : Int32) from q 4 (by decide) (by decide)), if_neg (show ¬ x = (5 : Int32) from q 5 (by decide) (by decide))]
      exact ⟨_, rfl, rfl⟩
theorem p_count {n K : Nat} {f g : Nat → Int32} {x : Int32} (hK : 200000 ≤ K) (h : RowR n f g) (hI : RowI n g) : ∃ v, F_X7_count K x f = some v ∧ F_X8_count K x g (nI n) = some v := by
  have n8 := h.n8
  obtain ⟨s1, s2⟩ := sd_both n8 h.sz
  obtain ⟨t6, u6⟩ := tot_both hK h (c := 6) (by decide)
  have t6 : F_X5_total K (6 : Int32) f = some (sgm (fun i => g (8 * 6 + i)) n) := t6
  have u6 : F_X8_sum K (48 : Int32) g (nI n) = some (sgm (fun i => g (8 * 6 + i)) n) := u6
  obtain ⟨r1, r2⟩ := re_both h
  unfold F_X7_count F_X8_count
  by_cases z : n = 0
  · rw [s1, s2, if_pos z, xb1, xb1, if_pos rfl, if_pos rfl]
    exact ⟨_, rfl, rfl⟩
  · obtain ⟨-, -, a, b, q, a1, a9, e66, b9, e73, -⟩ := hI.2 (by omega)
    rw [s1, s2, if_neg z, xb1, xb1, if_neg n10, if_neg n10, m_in0 (m := 5) (by decide), xb1, ite10]
    by_cases d : 0 ≤ x ∧ x ≤ nI 5
    · rw [if_pos d]
      obtain ⟨k, hk, rfl⟩ := in_nat (n := 5) (by decide) d
      rcases (show k = 0 ∨ k = 1 ∨ k = 2 ∨ k = 3 ∨ k = 4 ∨ k = 5 by omega) with rfl | rfl | rfl | rfl | rfl | rfl
      · rw [if_pos (by decide), if_pos (by decide), show f 8 = g 73 from h.sc (8, 73) (by decide)]
        exact ⟨_, rfl, rfl⟩
      · rw [if_neg (by decide), if_pos (by decide), cs_step (by omega) h (by omega) (by omega) e66 e73, xb1, if_neg (by decide), if_pos (by decide), m_step (by omega) n8, xb1]
        exact ⟨_, rfl, rfl⟩
      · rw [if_neg (by decide), if_neg (by decide), if_pos (by decide), if_neg (by decide), if_neg (by decide), if_pos (by decide), show f 9 = g 75 from h.sc (9, 75) (by decide)]
        exact ⟨_, rfl, rfl⟩
      · rw [if_neg (by decide), if_neg (by decide), if_neg (by decide), if_pos (by decide), if_neg (by decide), if_neg (by decide), if_neg (by decide), if_pos (by decide), show f 10 = g 74 from h.sc (10, 74) (by decide)]
        exact ⟨_, rfl, rfl⟩
      · rw [if_neg (by decide), if_neg (by decide), if_neg (by decide), if_neg (by decide), if_pos (by decide), r1, xb1]
        by_cases c : g 73 < g 66
        · rw [if_pos c, if_pos rfl, if_neg (by decide), if_neg (by decide), if_neg (by decide), if_neg (by decide), if_pos (by decide), r2, xb1, if_pos c, if_pos rfl]
          exact ⟨_, rfl, rfl⟩
        · rw [if_neg c, if_neg n10, if_neg (by decide), if_neg (by decide), if_neg (by decide), if_neg (by decide), if_pos (by decide), r2, xb1, if_neg c, if_neg n10]
          exact ⟨_, rfl, rfl⟩
      · rw [if_neg (by decide), if_neg (by decide), if_neg (by decide), if_neg (by decide), if_neg (by decide), if_pos (by decide), t6, xb1, if_neg (by decide), if_neg (by decide), if_neg (by decide), if_neg (by decide), if_neg (by decide), u6, xb1]
        exact ⟨_, rfl, rfl⟩
    · have q := not_of d
      rw [if_neg d, if_neg (show ¬ x = (0 : Int32) from q 0 (by decide) (by decide)), if_neg (show ¬ x = (1 : Int32) from q 1 (by decide) (by decide)), if_neg (show ¬ x = (2 : Int32) from q 2 (by decide) (by decide)), if_neg (show ¬ x = (3 : Int32) from q 3 (by decide) (by decide)), if_neg (show ¬ x = (4 : Int32) from q 4 (by decide) (by decide)), if_neg (show ¬ x = (5 : Int32) from q 5 (by decide) (by decide))]
      exact ⟨_, rfl, rfl⟩
/-- points of the class -/
theorem c_pt {n i : Nat} {f : Nat → Int32} (n8 : n ≤ 8) (h3 : f 3 = nI n) (hi : i < n) : F_X5_point (nI i) (0 : Int32) f = some (f 4 + nI n * cdr f i 0) ∧ F_X5_point (nI i) (1 : Int32) f = some (f 5 + nI n * cdr f i 1) := by
  have b0 : F_X5_drift (nI i) (0 : Int32) f = some (cdr f i 0) := b_drift (a := 0) (by omega) (by decide)
  have b1 : F_X5_drift (nI i) (1 : Int32) f = some (cdr f i 1) := b_drift (a := 1) (by omega) (by decide)
  unfold F_X5_point J_X5_point_19
  rw [if_pos rfl, if_neg n10, b0, xb1, b1, xb1, h3]
  exact ⟨rfl, rfl⟩
theorem pv_both {n i K : Nat} {f g : Nat → Int32} {x y : Int32} (hK : 200000 ≤ K) (h : RowR n f g) (hg : RowG g) (hi : i < n) : ∃ v, F_X5_pointValue (nI i) x y f = some v ∧ F_X8_pointX K (mdx g i + x) g (nI n) = some (f 4 + nI n * (mdx g i + x)) ∧ F_X8_pointY K (mdy g i + y) g (nI n) = some (f 5 + nI n * (mdy g i + y)) ∧ F_X8_valueOf (f 4 + nI n * (mdx g i + x)).toInt64 (f 5 + nI n * (mdy g i + y)).toInt64 g = some v := by
  have n8 := h.n8
  obtain ⟨c0, c1⟩ := c_pt n8 h.sz hi
  obtain ⟨d0, d1⟩ := dr_both h.1.2.2.1 hi
  obtain ⟨v, ev, -⟩ := t_valueOf (p1 := (f 4 + nI n * (mdx g i + x)).toInt64) (p2 := (f 5 + nI n * (mdy g i + y)).toInt64) (f := f)
  refine ⟨v, ?_, (pt_both hK h).1, (pt_both hK h).2, by rw [← h.1.val hg]; exact ev⟩
  have a0 : (f 4 + nI n * cdr f i 0) + nI n * x = f 4 + nI n * (mdx g i + x) := by rw [d0, Int32.mul_add, Int32.add_assoc]
  have a1 : (f 5 + nI n * cdr f i 1) + nI n * y = f 5 + nI n * (mdy g i + y) := by rw [d1, Int32.mul_add, Int32.add_assoc]
  unfold F_X5_pointValue
  rw [c0, xb1, c1, xb1, h.sz, a0, a1, ev, xb1]
theorem wm_of {K : Nat} {x y z s : Int32} {g : Nat → Int32} : F_X8_whyNot K 0 x y z g s = F_X8_whyMove x y z g s := by
  unfold F_X8_whyNot
  rw [if_pos rfl, bd1_id]
theorem p_needs {n K : Nat} {f g : Nat → Int32} {x y z : Int32} (hK : 200000 ≤ K) (h : RowR n f g) (hI : RowI n g) : ∃ v, F_X7_needs x y z f = some v ∧ F_X8_needs K x y z g (nI n) = some v := by
  have n8 := h.n8
  obtain ⟨r, e1, e2, e3, e4⟩ := rf_both (s := 0) (S := 0) (a := x) (b := y) (c := z) rfl (by decide) hK h hI.x
  rw [wm_of] at e2
  unfold F_X7_needs F_X8_needs
  rw [e1, e2, xb1, xb1]
  by_cases c : r = -1
  · obtain ⟨i, hi, rfl, -⟩ := (e4 c).2.1 rfl
    obtain ⟨v, v1, v2, v3, v4⟩ := pv_both (x := y) (y := z) hK h hI.1 hi
    rw [if_pos c, if_pos c, v1, xb1, m_drX (by omega), xb1, v2, xb1, m_drY (by omega), xb1, v3, xb1, v4, xb1]
    exact ⟨_, rfl, rfl⟩
  · rw [if_neg c, if_neg c]
    exact ⟨_, rfl, rfl⟩
end
-- 83c.27
section
/-! Stage B, 27: the fairest, spans, in both -/
theorem m_abv {v : Int32} : F_X8_above v = some (absF v) := by
  unfold F_X8_above absF
  by_cases c : 0 ≤ v
  · rw [if_pos c, if_pos c]
  · rw [if_neg c, if_neg c, Int32.zero_sub]
theorem sl_both {n i : Nat} {f g : Nat → Int32} (h : RowR n f g) (hi : i < n) : F_X5_slackLength (nI i) f = some (absF (g (32 + i)) + absF (g (40 + i))) ∧ F_X8_slackOf (nI i) g = some (absF (g (32 + i)) + absF (g (40 + i))) := by
  have n8 := h.n8
  have e4 : f (17 + 8 * i + 4) = g (32 + i) := h.1.2.2.1 i 4 hi (by decide)
  have e5 : f (17 + 8 * i + 5) = g (40 + i) := h.1.2.2.1 i 5 hi (by decide)
  unfold F_X5_slackLength F_X8_slackOf
  rw [bx_of (c := 4) (by rfl) (by omega) (by decide), xb1, bx_of (c := 5) (by rfl) (by omega) (by decide), xb1, e4, e5, bm_ix (a := 32) (by rfl) (by omega), bm_cl (a := 32) (by rfl) (by omega), m_abv, xb1, bm_ix (a := 40) (by rfl) (by omega), bm_cl (a := 40) (by rfl) (by omega), m_abv, xb1]
  exact ⟨rfl, rfl⟩
theorem pv0_both {n i K : Nat} {f g : Nat → Int32} (hK : 200000 ≤ K) (h : RowR n f g) (hg : RowG g) (hi : i < n) : ∃ v, F_X5_pointValue (nI i) 0 0 f = some v ∧ F_X8_pointValue K (nI i) g (nI n) = some v := by
  have n8 := h.n8
  obtain ⟨v, v1, v2, v3, v4⟩ := pv_both (x := 0) (y := 0) hK h hg hi
  rw [Int32.add_zero] at v2 v3 v4
  rw [Int32.add_zero] at v4
  refine ⟨v, v1, ?_⟩
  unfold F_X8_pointValue
  rw [m_drX (by omega), xb1, v2, xb1, m_drY (by omega), xb1, v3, xb1, v4, xb1]
def FrR (n : Nat) (j : Nat) (s t : Int32 × Int32) : Prop := ∃ b, b < n ∧ s = (nI b, nI (j + 1)) ∧ t = (nI b, nI (j + 1))
theorem p_fair {n K : Nat} {f g : Nat → Int32} {x : Int32} (hK : 200000 ≤ K) (h : RowR n f g) (hg : RowG g) : ∃ v, F_X7_fair K x f = some v ∧ F_X8_fair K x g (nI n) = some v := by
  have n8 := h.n8
  obtain ⟨s1, s2⟩ := sd_both n8 h.sz
  unfold F_X7_fair F_X8_fair
  by_cases z : n = 0
  · rw [s1, s2, if_pos z, xb1, xb1, if_pos rfl, if_pos rfl]
    exact ⟨_, rfl, rfl⟩
  · rw [s1, s2, if_neg z, xb1, xb1, if_neg n10, if_neg n10, m_in0 (m := 1) (by decide), xb1, ite10, rng_d]
    by_cases d : 0 ≤ x ∧ x ≤ nI 1
    · rw [if_pos (show 0 ≤ x ∧ x ≤ (1 : Int32) from d), if_pos d]
      have st : ∀ j s t, j < n - 1 → FrR n j s t → (∃ s' t', (fun u9 : Int32 × Int32 => B_X7_fair_25 x f u9.1 u9.2) s = some (.inl s') ∧ (fun u9 : Int32 × Int32 => B_X8_fair_23 K x (nI n) g u9.1 u9.2) t = some (.inl t') ∧ FrR n (j + 1) s' t') ∨ (∃ r u, (fun u9 : Int32 × Int32 => B_X7_fair_25 x f u9.1 u9.2) s = some (.inr r) ∧ (fun u9 : Int32 × Int32 => B_X8_fair_23 K x (nI n) g u9.1 u9.2) t = some (.inr u) ∧ r = u) := by
        intro j s t hj q
        obtain ⟨b, hb, rfl, rfl⟩ := q
        have lt : ¬ nI n ≤ nI (j + 1) := mt (nI_leI (a := n) (b := j + 1) (by omega) (by omega)).mp (by omega)
        obtain ⟨v, v1, v2⟩ := pv0_both hK h hg (show j + 1 < n by omega)
        obtain ⟨w, w1, w2⟩ := pv0_both hK h hg hb
        obtain ⟨p1, p2⟩ := sl_both h (show j + 1 < n by omega)
        obtain ⟨q1, q2⟩ := sl_both h hb
        refine Or.inl ?_
        show ∃ s' t', B_X7_fair_25 x f (nI b) (nI (j + 1)) = some (.inl s') ∧ B_X8_fair_23 K x (nI n) g (nI b) (nI (j + 1)) = some (.inl t') ∧ FrR n (j + 1) s' t'
        unfold B_X7_fair_25 B_X8_fair_23 F_X5_sites
        rw [xb1, h.sz, if_neg lt, if_neg lt, v1, v2, w1, w2, p1, p2, q1, q2]
        simp only [xb1, nI_1]
        by_cases c : x = 0
        · rw [if_pos c]
          by_cases e : lg_cmp v w ≤ (0 : Int32)
          · rw [if_pos e]
            exact ⟨_, _, rfl, rfl, b, hb, rfl, rfl⟩
          · rw [if_neg e]
            exact ⟨_, _, rfl, rfl, j + 1, by omega, rfl, rfl⟩
        · rw [if_neg c]
          by_cases e : absF (g (32 + (j + 1))) + absF (g (40 + (j + 1))) ≤ absF (g (32 + b)) + absF (g (40 + b))
          · rw [if_pos e]
            exact ⟨_, _, rfl, rfl, b, hb, rfl, rfl⟩
          · rw [if_neg e]
            exact ⟨_, _, rfl, rfl, j + 1, by omega, rfl, rfl⟩
      have he : ∀ s t, FrR n (n - 1) s t → ∃ r u, (fun u9 : Int32 × Int32 => B_X7_fair_25 x f u9.1 u9.2) s = some (.inr r) ∧ (fun u9 : Int32 × Int32 => B_X8_fair_23 K x (nI n) g u9.1 u9.2) t = some (.inr u) ∧ r = u := by
        intro s t q
        obtain ⟨b, hb, rfl, rfl⟩ := q
        rw [show n - 1 + 1 = n by omega]
        have le : nI n ≤ nI n := (nI_leI (a := n) (b := n) (by omega) (by omega)).mpr (Nat.le_refl _)
        show ∃ r u, B_X7_fair_25 x f (nI b) (nI n) = some (.inr r) ∧ B_X8_fair_23 K x (nI n) g (nI b) (nI n) = some (.inr u) ∧ r = u
        unfold B_X7_fair_25 B_X8_fair_23 F_X5_sites
        rw [xb1, h.sz, if_pos le, if_pos le]
        exact ⟨_, _, rfl, rfl, rfl⟩
      obtain ⟨r, u, l1, l2, e⟩ := lp_two (FrR n) (fun r u => r = u) (n := n - 1) (K := K) (K' := K) (by omega) (by omega) st he (s := ((0 : Int32), (1 : Int32))) (t := ((0 : Int32), (1 : Int32))) ⟨0, by omega, rfl, rfl⟩
      rw [l1, l2, xb1, xb1, e]
      exact ⟨_, rfl, rfl⟩
    · rw [if_neg (show ¬ (0 ≤ x ∧ x ≤ (1 : Int32)) from d), if_neg d]
      exact ⟨_, rfl, rfl⟩
theorem sq_1 {w x : Int32} (hw : w = 1 ∨ w = -1) : w * x * w = x := by
  rcases hw with rfl | rfl
  · rw [Int32.one_mul, Int32.mul_one]
  · rw [Int32.mul_comm, ← Int32.mul_assoc, show (-1 : Int32) * -1 = 1 by decide, Int32.one_mul]
theorem c_qw {n i : Nat} {f : Nat → Int32} {x y : Int32} (n8 : n ≤ 8) (hi : i < n) : F_X5_isQuietWith (nI i) x y f = some (qvl f (cdr f i 0 + x) (cdr f i 1 + y)) := by
  have b0 : F_X5_drift (nI i) (0 : Int32) f = some (cdr f i 0) := b_drift (a := 0) (by omega) (by decide)
  have b1 : F_X5_drift (nI i) (1 : Int32) f = some (cdr f i 1) := b_drift (a := 1) (by omega) (by decide)
  unfold F_X5_isQuietWith
  rw [b0, xb1, b1, xb1, qvl_is, xb1]
theorem sn_both {n i a K : Nat} {f g : Nat → Int32} {w : Int32} (hK : 200000 ≤ K) (h : RowR n f g) (hg : RowG g) (hi : i < n) (ha : a < 2) (hw : w = 1 ∨ w = -1) : ∃ v, J_X7_span_43 K (nI i) (nI a) f w = some v ∧ J_X8_span_38 K (nI i) (nI a) (nI n) g w = some v := by
  have n8 := h.n8
  obtain ⟨d0, d1⟩ := dr_both h.1.2.2.1 hi
  have st : ∀ j s t, j < 200 → (s = (w * nI j, nI (j + 1)) ∧ t = w * nI j) → (∃ s' t', (fun u9 : Int32 × Int32 => B_X7_span_51 (nI i) (nI a) f w u9.1 u9.2) s = some (.inl s') ∧ (fun u9 : Int32 => B_X8_span_43 K (nI i) (nI a) (nI n) g w u9) t = some (.inl t') ∧ (s' = (w * nI (j + 1), nI (j + 1 + 1)) ∧ t' = w * nI (j + 1))) ∨ (∃ r u, (fun u9 : Int32 × Int32 => B_X7_span_51 (nI i) (nI a) f w u9.1 u9.2) s = some (.inr r) ∧ (fun u9 : Int32 => B_X8_span_43 K (nI i) (nI a) (nI n) g w u9) t = some (.inr u) ∧ (r.1 < 2 ∧ r.2 = u)) := by
    intro j s t hj q
    obtain ⟨rfl, rfl⟩ := q
    have e1 : w * nI j + w = w * nI (j + 1) := by rw [← nI_1, Int32.mul_add, Int32.mul_one]
    have c1 : ¬ (200 : Int32) < nI (j + 1) := mt (nI_ltI (a := 200) (b := j + 1) (by omega) (by omega)).mp (by omega)
    have c2 : ¬ (200 : Int32) ≤ nI j := mt (nI_leI (a := 200) (b := j) (by omega) (by omega)).mp (by omega)
    show (∃ s' t', B_X7_span_51 (nI i) (nI a) f w (w * nI j) (nI (j + 1)) = some (.inl s') ∧ B_X8_span_43 K (nI i) (nI a) (nI n) g w (w * nI j) = some (.inl t') ∧ _) ∨ (∃ r u, B_X7_span_51 (nI i) (nI a) f w (w * nI j) (nI (j + 1)) = some (.inr r) ∧ B_X8_span_43 K (nI i) (nI a) (nI n) g w (w * nI j) = some (.inr u) ∧ _)
    unfold B_X7_span_51 B_X8_span_43 J_X7_span_81_r52 J_X8_span_73_r44
    rw [if_neg c1, sq_1 hw, if_neg c2, m_drX (by omega), xb1, m_drY (by omega)]
    simp only [xb1, e1, nI_1, c_qw n8 hi]
    rcases (show a = 0 ∨ a = 1 by omega) with rfl | rfl
    · simp only [if_pos (show nI 0 = (0 : Int32) from rfl), if_neg (show ¬ nI 0 = (1 : Int32) by decide), ← q_both hK h hg, qvl_is, xb1, d0, d1]
      by_cases c : qvl f (mdx g i + w * nI (j + 1)) (mdy g i + 0) = 0
      · rw [if_pos c, if_pos c]
        exact Or.inr ⟨_, _, rfl, rfl, Nat.zero_lt_succ 1, rfl⟩
      · rw [if_neg c, if_neg c]
        exact Or.inl ⟨_, _, rfl, rfl, rfl, rfl⟩
    · simp only [if_neg (show ¬ nI 1 = (0 : Int32) by decide), if_pos (show nI 1 = (1 : Int32) from rfl), ← q_both hK h hg, qvl_is, xb1, d0, d1]
      by_cases c : qvl f (mdx g i + 0) (mdy g i + w * nI (j + 1)) = 0
      · rw [if_pos c, if_pos c]
        exact Or.inr ⟨_, _, rfl, rfl, Nat.zero_lt_succ 1, rfl⟩
      · rw [if_neg c, if_neg c]
        exact Or.inl ⟨_, _, rfl, rfl, rfl, rfl⟩
  have he : ∀ s t, (s = (w * nI 200, nI (200 + 1)) ∧ t = w * nI 200) → ∃ r u, (fun u9 : Int32 × Int32 => B_X7_span_51 (nI i) (nI a) f w u9.1 u9.2) s = some (.inr r) ∧ (fun u9 : Int32 => B_X8_span_43 K (nI i) (nI a) (nI n) g w u9) t = some (.inr u) ∧ (r.1 < 2 ∧ r.2 = u) := by
    intro s t q
    obtain ⟨rfl, rfl⟩ := q
    show ∃ r u, B_X7_span_51 (nI i) (nI a) f w (w * nI 200) (nI (200 + 1)) = some (.inr r) ∧ B_X8_span_43 K (nI i) (nI a) (nI n) g w (w * nI 200) = some (.inr u) ∧ _
    unfold B_X7_span_51 B_X8_span_43
    rw [if_pos (by decide), sq_1 hw, if_pos (by decide)]
    exact ⟨_, _, rfl, rfl, Nat.lt_succ_self 1, rfl⟩
  obtain ⟨r, u, l1, l2, e1, e2⟩ := lp_two (fun j s t => s = (w * nI j, nI (j + 1)) ∧ t = w * nI j) (fun (r : Nat × Int32) (u : Int32) => r.1 < 2 ∧ r.2 = u) (n := 200) (K := K) (K' := K) (by omega) (by omega) st he (s := ((0 : Int32), (1 : Int32))) (t := (0 : Int32)) ⟨by rw [show nI 0 = (0 : Int32) from rfl, Int32.mul_zero]; rfl, by rw [show nI 0 = (0 : Int32) from rfl, Int32.mul_zero]⟩
  obtain ⟨tg, y⟩ := r
  have e1 : tg < 2 := e1
  have e2 : y = u := e2
  unfold J_X7_span_43 J_X8_span_38
  rw [l1, l2, xb2, xb1, e2]
  rcases (show tg = 0 ∨ tg = 1 by omega) with e | e
  · rw [e, if_pos rfl]
    exact ⟨_, rfl, rfl⟩
  · rw [e, if_neg (by decide), if_pos rfl]
    exact ⟨_, rfl, rfl⟩
theorem p_span {n K : Nat} {f g : Nat → Int32} {x y z : Int32} (hK : 200000 ≤ K) (h : RowR n f g) (hg : RowG g) : ∃ v, F_X7_span K x y z f = some v ∧ F_X8_span K x y z g (nI n) = some v := by
  have n8 := h.n8
  unfold F_X7_span F_X8_span
  rcases hs_both (p := x) n8 h.sz with ⟨i, hi, rfl, c1, c2⟩ | ⟨-, c1, c2⟩
  · obtain ⟨q1, q2⟩ := qs_both hK h hg hi
    rw [c1, c2, xb1, xb1, if_neg n10, if_neg n10, m_in0 (m := 1) (by decide), xb1, ite10, rng_c, q1, q2, xb1, xb1]
    by_cases d : 0 ≤ y ∧ y ≤ nI 1
    · rw [if_pos (show 0 ≤ y ∧ y ≤ (1 : Int32) from d), if_pos d]
      obtain ⟨a, ha, rfl⟩ := in_nat (n := 1) (by decide) d
      by_cases c : qvl f (cdr f i 0) (cdr f i 1) = 0
      · rw [if_pos c, if_pos c]
        exact ⟨_, rfl, rfl⟩
      · rw [if_neg c, if_neg c]
        by_cases e : z = 0
        · rw [if_pos e, if_pos e]
          exact sn_both hK h hg hi ha (Or.inr rfl)
        · rw [if_neg e, if_neg e]
          exact sn_both hK h hg hi ha (Or.inl rfl)
    · rw [if_neg (show ¬ (0 ≤ y ∧ y ≤ (1 : Int32)) from d), if_neg d]
      exact ⟨_, rfl, rfl⟩
  · rw [c1, c2, xb1, xb1, if_pos rfl, if_pos rfl]
    exact ⟨_, rfl, rfl⟩
end
-- 83c.28
section
/-! Stage B, 28: what would be, in both: nothing of it stays -/
theorem lp_twoXNA {σ τ ρ υ : Type} {b : σ → Option (σ ⊕ ρ)} {d : τ → Option (τ ⊕ υ)} (M : Nat) (R : Nat → σ → τ → Prop) (Q : ρ → υ → Prop) {n : Nat} (hs : ∀ i s t, i ≤ n → R i s t → (i < n ∧ ∃ s' t', b s = some (.inl s') ∧ d t = some (.inl t') ∧ R (i + 1) s' t') ∨ (∃ r u, b s = some (.inr r) ∧ (∀ J, M ≤ J → lpF d J t = some u) ∧ Q r u)) : ∀ (k i : Nat) (s : σ) (t : τ) (K K' : Nat), i + k = n → k < K → k + M < K' → R i s t → ∃ r u, lpF b K s = some r ∧ lpF d K' t = some u ∧ Q r u := by
  intro k
  induction k with
  | zero =>
    intro i s t K K' h1 h2 h3 h4
    obtain ⟨K2, rfl⟩ : ∃ K2, K = K2 + 1 := ⟨K - 1, by omega⟩
    rcases hs i s t (by omega) h4 with ⟨hlt, -⟩ | ⟨r, u, e1, e2, q⟩
    · omega
    · exact ⟨r, u, lp_end e1, e2 K' (by omega), q⟩
  | succ k ih =>
    intro i s t K K' h1 h2 h3 h4
    obtain ⟨K2, rfl⟩ : ∃ K2, K = K2 + 1 := ⟨K - 1, by omega⟩
    rcases hs i s t (by omega) h4 with ⟨-, s', t', e1, e2, q⟩ | ⟨r, u, e1, e2, q⟩
    · obtain ⟨K3, rfl⟩ : ∃ K3, K' = K3 + 1 := ⟨K' - 1, by omega⟩
      rw [lp_one e1, lp_one e2]
      exact ih (i + 1) s' t' K2 K3 (by omega) (by omega) (by omega) q
    · exact ⟨r, u, lp_end e1, e2 K' (by omega), q⟩
/-- two loops in step, the second goes on for less than M -/
theorem lp_twoXN {σ τ ρ υ : Type} {b : σ → Option (σ ⊕ ρ)} {d : τ → Option (τ ⊕ υ)} (M : Nat) (R : Nat → σ → τ → Prop) (Q : ρ → υ → Prop) {n K K' : Nat} (hK : n < K) (hK' : n + M < K') (hs : ∀ i s t, i ≤ n → R i s t → (i < n ∧ ∃ s' t', b s = some (.inl s') ∧ d t = some (.inl t') ∧ R (i + 1) s' t') ∨ (∃ r u, b s = some (.inr r) ∧ (∀ J, M ≤ J → lpF d J t = some u) ∧ Q r u)) {s : σ} {t : τ} (h0 : R 0 s t) : ∃ r u, lpF b K s = some r ∧ lpF d K' t = some u ∧ Q r u := lp_twoXNA M R Q hs n 0 s t K K' (by omega) hK hK' h0
theorem m_aside {K : Nat} {g as : Nat → Int32} (hK : 200000 ≤ K) : F_X8_putAside K g as = some (va_cpy g as 0 0 84) := by
  have h : lpF (fun u9 : Int32 × (Nat → Int32) => B_X8_putAside_2 g u9.1 u9.2) K (nI 0, va_cpy g as 0 0 0) = some (va_cpy g as 0 0 84) := by
    refine lp_for (fun j => (nI j, va_cpy g as 0 0 j)) (n := 84) (by omega) (fun j hj => ?_) ?_
    · show B_X8_putAside_2 g (nI j) (va_cpy g as 0 0 j) = some (.inl (nI (j + 1), va_cpy g as 0 0 (j + 1)))
      have e := cpy_st (g := as) (kp := g) (o := 0) (j := j)
      rw [Nat.zero_add] at e
      unfold B_X8_putAside_2
      rw [if_neg (show ¬ (84 : Int32) ≤ nI j from mt (nI_leI (a := 84) (b := j) (by omega) (by omega)).mp (by omega)), xixn (by omega) (by decide), xixn (by omega) (by decide), xnm, nI_clamp (by omega), e, nI_1]
    · show B_X8_putAside_2 g (nI 84) (va_cpy g as 0 0 84) = _
      unfold B_X8_putAside_2
      rw [if_pos (by decide)]
  rw [cpy_0] at h
  unfold F_X8_putAside
  rw [show (0 : Int32) = nI 0 from rfl, h, xb1]
/-- what was put aside is brought back -/
theorem m_bring {K : Nat} {g w as : Nat → Int32} (hK : 200000 ≤ K) (hw : ∀ k, 84 ≤ k → w k = g k) : F_X8_bringBack K w (va_cpy g as 0 0 84) = some g := by
  have h : lpF (fun u9 : Int32 × (Nat → Int32) => B_X8_bringBack_2 (va_cpy g as 0 0 84) u9.1 u9.2) K (nI 0, va_cpy (va_cpy g as 0 0 84) w 0 0 0) = some (va_cpy (va_cpy g as 0 0 84) w 0 0 84) := by
    refine lp_for (fun j => (nI j, va_cpy (va_cpy g as 0 0 84) w 0 0 j)) (n := 84) (by omega) (fun j hj => ?_) ?_
    · show B_X8_bringBack_2 (va_cpy g as 0 0 84) (nI j) (va_cpy (va_cpy g as 0 0 84) w 0 0 j) = some (.inl (nI (j + 1), va_cpy (va_cpy g as 0 0 84) w 0 0 (j + 1)))
      have e := cpy_st (g := w) (kp := va_cpy g as 0 0 84) (o := 0) (j := j)
      rw [Nat.zero_add] at e
      unfold B_X8_bringBack_2
      rw [if_neg (show ¬ (84 : Int32) ≤ nI j from mt (nI_leI (a := 84) (b := j) (by omega) (by omega)).mp (by omega)), xixn (by omega) (by decide), xixn (by omega) (by decide), xnm, nI_clamp (by omega), e, nI_1]
    · show B_X8_bringBack_2 (va_cpy g as 0 0 84) (nI 84) (va_cpy (va_cpy g as 0 0 84) w 0 0 84) = _
      unfold B_X8_bringBack_2
      rw [if_pos (by decide)]
  rw [cpy_0] at h
  have e : va_cpy (va_cpy g as 0 0 84) w 0 0 84 = g := by
    funext k
    by_cases c : k < 84
    · rw [gcpy_at c, Nat.zero_add, gcpy_at c, Nat.zero_add]
    · rw [pk_cpy_out (by omega)]
      exact hw k (by omega)
  rw [e] at h
  unfold F_X8_bringBack
  rw [show (0 : Int32) = nI 0 from rfl, h, xb1]
theorem aside_at {g as : Nat → Int32} {k : Nat} (h : k < 84) : va_cpy g as 0 0 84 k = g k := by rw [gcpy_at h, Nat.zero_add]
/-- a move that is tried -/
theorem tm_both {n i K : Nat} {f g tr P A sh lo sx sy : Nat → Int32} {x y ac oc as ou : Int32} (hK : 200000 ≤ K) (h : RowR n f g) (hg : RowG g) (hi : i < n) : ∃ (r o : Int32) (a : Nat) (f' g' P' A' sh' lo' sx' sy' : Nat → Int32), F_X7_tryMove K (nI i) x y f tr P ac oc sh lo = some (r, f', P', nI a, o, sh', lo') ∧ F_X8_movesNow K (nI i) x y g (nI n) sx sy as ou A = some (r, g', sx', sy', nI a, o, A') ∧ a < 8 ∧ (∀ j, j < a → P' j = A' j) ∧ ∀ k, 84 ≤ k → g' k = g k := by
  have n8 := h.n8
  have h2 : RowR n (va_cpy f tr 0 0 81) g := h.cg (fun k hk => by rw [gcpy_at hk, Nat.zero_add]) (fun k hk => rfl)
  obtain ⟨r, o, a, f1, g1, P1, A1, sh1, lo1, sx1, sy1, e1, e2, ha, hPA, -, -, -, fr⟩ := mv_both (x := x) (y := y) (P := P) (A := A) (sh := sh) (lo := lo) (sx := sx) (sy := sy) (ac := ac) (oc := oc) (as := as) (ou := ou) hK h2 hg hi
  unfold F_X7_tryMove F_X5_doAct
  rw [c_cpF, xb1, if_pos rfl, e1, xb7, xnm]
  refine ⟨r, o, a, _, g1, P1, A1, sh1, lo1, sx1, sy1, rfl, e2, ha, hPA, fun k hk => ?_⟩
  rw [fr k (by omega) (by omega) (by omega) (by omega) (by omega) (by omega)]
  unfold mvG
  rw [upd_ne (by omega), upd_ne (by omega)]
/-- what a move would come to -/
theorem p_would {n K : Nat} {f g tr P A sh lo sx sy asd : Nat → Int32} {x y z w ac oc as ou : Int32} (hK : 200000 ≤ K) (h : RowR n f g) (hI : RowI n g) : ∃ (v ac' oc' as' ou' : Int32) (tr' P' A' sh' lo' sx' sy' asd' : Nat → Int32), F_X7_would K x y z w f tr P ac oc sh lo = some (v, tr', P', ac', oc', sh', lo') ∧ F_X8_would K x y z w g (nI n) sx sy as ou A asd = some (v, g, sx', sy', as', ou', A', asd') := by
  have n8 := h.n8
  obtain ⟨r, e1, e2, e3, e4⟩ := rf_both (s := 0) (S := 0) (a := x) (b := y) (c := z) rfl (by decide) hK h hI.x
  rw [wm_of] at e2
  unfold F_X7_would F_X8_would
  rw [e1, e2, xb1, xb1]
  by_cases c : r = -1
  · obtain ⟨i, hi, rfl, -⟩ := (e4 c).2.1 rfl
    obtain ⟨m, o, a, f1, g1, P1, A1, sh1, lo1, sx1, sy1, t1, t2, ha, hPA, fr⟩ := tm_both (tr := tr) (P := P) (A := A) (sh := sh) (lo := lo) (sx := sx) (sy := sy) (x := y) (y := z) (ac := ac) (oc := oc) (as := as) (ou := ou) hK h hI.1 hi
    rw [if_pos c, if_pos c, t1, xb7, m_in0 (m := 2) (by decide), xb1, ite10, m_aside hK, xb1, t2, xb7, m_bring hK fr, xb1]
    by_cases d : 0 ≤ w ∧ w ≤ nI 2
    · rw [if_pos d]
      obtain ⟨k, hk, rfl⟩ := in_nat (n := 2) (by decide) d
      rcases (show k = 0 ∨ k = 1 ∨ k = 2 by omega) with rfl | rfl | rfl
      · rw [if_pos (by decide), if_pos (by decide)]
        exact ⟨_, _, _, _, _, _, _, _, _, _, _, _, _, rfl, rfl⟩
      · rw [if_neg (by decide), if_pos (by decide), if_neg (by decide), if_pos (by decide)]
        exact ⟨_, _, _, _, _, _, _, _, _, _, _, _, _, rfl, rfl⟩
      · rw [if_neg (by decide), if_neg (by decide), if_pos (by decide), if_neg (by decide), if_neg (by decide)]
        exact ⟨_, _, _, _, _, _, _, _, _, _, _, _, _, rfl, rfl⟩
    · have q := not_of d
      rw [if_neg d, if_neg (show ¬ w = (0 : Int32) from q 0 (by decide) (by decide)), if_neg (show ¬ w = (1 : Int32) from q 1 (by decide) (by decide)), if_neg (show ¬ w = (2 : Int32) from q 2 (by decide) (by decide))]
      exact ⟨_, _, _, _, _, _, _, _, _, _, _, _, _, rfl, rfl⟩
  · rw [if_neg c, if_neg c]
    exact ⟨_, _, _, _, _, _, _, _, _, _, _, _, _, rfl, rfl⟩
/-- whom a move would ask -/
theorem p_asked {n K : Nat} {f g tr P A sh lo sx sy asd : Nat → Int32} {x y z w ac oc as ou : Int32} (hK : 200000 ≤ K) (h : RowR n f g) (hI : RowI n g) : ∃ (v ac' oc' as' ou' : Int32) (tr' P' A' sh' lo' sx' sy' asd' : Nat → Int32), F_X7_asked K x y z w f tr P ac oc sh lo = some (v, tr', P', ac', oc', sh', lo') ∧ F_X8_asked K x y z w g (nI n) sx sy as ou A asd = some (v, g, sx', sy', as', ou', A', asd') := by
  have n8 := h.n8
  obtain ⟨r, e1, e2, e3, e4⟩ := rf_both (s := 0) (S := 0) (a := x) (b := y) (c := z) rfl (by decide) hK h hI.x
  rw [wm_of] at e2
  unfold F_X7_asked F_X8_asked F_X8_would
  rw [e1, e2, xb1, xb1]
  by_cases c : r = -1
  · obtain ⟨i, hi, rfl, -⟩ := (e4 c).2.1 rfl
    obtain ⟨m, o, a, f1, g1, P1, A1, sh1, lo1, sx1, sy1, t1, t2, ha, hPA, fr⟩ := tm_both (tr := tr) (P := P) (A := A) (sh := sh) (lo := lo) (sx := sx) (sy := sy) (x := y) (y := z) (ac := ac) (oc := oc) (as := as) (ou := ou) hK h hI.1 hi
    have i1 : F_X8_in (1 : Int32).toInt64 (0 : Int64) (2 : Int64) = some 1 := by decide
    have ei : F_X8_in w.toInt64 (0 : Int64) ((nI a - (1 : Int32)).toInt64) = some (if 0 ≤ w ∧ w ≤ nI a - 1 then 1 else 0) := by
      rw [show (0 : Int64) = (0 : Int32).toInt64 from rfl, m_inI]
    rw [if_pos c, if_pos c, t1, xb7, i1, xb1, if_neg n10, m_aside hK, xb1, t2, xb7, m_bring hK fr, xb1, if_neg n10, if_pos rfl, xb8, if_neg (nI_ne_m1 (by omega)), ei, xb1, ite10]
    by_cases d : 0 ≤ w ∧ w ≤ nI a - 1
    · rw [if_pos d]
      obtain ⟨k, hk, rfl⟩ := in_lt (by omega) d
      rw [if_neg (nn0 (by omega)), if_neg (mt (nI_leI (a := a) (b := k) (by omega) (by omega)).mp (by omega)), if_neg (show ¬ (8 : Int32) ≤ nI k from mt (nI_leI (a := 8) (b := k) (by omega) (by omega)).mp (by omega)), xixn (by omega) (by decide), xixn (by omega) (by decide), nI_clamp (by omega), hPA k hk]
      exact ⟨_, _, _, _, _, _, _, _, _, _, _, _, _, rfl, rfl⟩
    · rw [if_neg d]
      refine ⟨-1, nI a, o, _, _, f1, P1, _, sh1, lo1, _, _, _, ?_, rfl⟩
      by_cases b1 : w < 0
      · rw [if_pos b1]
      · rw [if_neg b1, if_pos]
        refine Decidable.byContradiction (fun b2 => ?_)
        obtain ⟨k, hk, rfl⟩ := nnI (n := a) (by omega) b1 b2
        apply d
        rw [show nI a - (1 : Int32) = nI (a - 1) from xsub (b := 1) (by omega)]
        exact ⟨nI_nn (by omega), (nI_leI (a := k) (b := a - 1) (by omega) (by omega)).mpr (by omega)⟩
  · rw [if_neg c, if_neg c, xb8, if_pos rfl]
    exact ⟨_, _, _, _, _, _, _, _, _, _, _, _, _, rfl, rfl⟩
end
-- 83c.29
section
/-! Stage B, 29: a way, in both -/
theorem mv_I {n i : Nat} {g g1 : Nat → Int32} {b c : Int32} (n8 : n ≤ 8) (hI : RowI n g) (hi : i < n) (x1 : inR (g (0 + i) + b)) (x2 : inR (g (8 + i) + c)) (G : RowG g1) (fr : ∀ k, (k < 16 ∨ 48 ≤ k) → ¬ k = 68 → ¬ k = 69 → ¬ k = 70 → ¬ k = 71 → ¬ k = 72 → g1 k = mvG i b c g k) : RowI n g1 := by
  obtain ⟨hX, hF, hC⟩ := hI.2 (by omega)
  have fr2 : ∀ k, 16 ≤ k → mvG i b c g k = g k := fun k hk => by
    unfold mvG
    rw [upd_ne (by omega), upd_ne (by omega)]
  refine ⟨G, fun _ => ⟨fun j hj => ?_, fun j hj => ?_, hC.of n8 (fun k hk => ?_)⟩⟩
  · rw [fr (0 + j) (by omega) (by omega) (by omega) (by omega) (by omega) (by omega), fr (8 + j) (by omega) (by omega) (by omega) (by omega) (by omega) (by omega)]
    unfold mvG
    by_cases e : j = i
    · rw [e, upd_ne (show ¬ 0 + i = 8 + i by omega), upd_at, upd_at, upd_ne (show ¬ 8 + i = 0 + i by omega)]
      exact ⟨x1, x2⟩
    · rw [upd_ne (by omega), upd_ne (by omega), upd_ne (by omega), upd_ne (by omega)]
      exact hX j hj
  · rw [fr (76 + j) (by omega) (by omega) (by omega) (by omega) (by omega) (by omega), fr2 _ (by omega)]
    exact hF j hj
  · rw [fr k (by omega) (by omega) (by omega) (by omega) (by omega) (by omega), fr2 _ (by omega)]
theorem RowR.m11 {n : Nat} {f g : Nat → Int32} (h : RowR n f g) (v : Int32) : RowR n (upd f 11 v) g := by
  have := h.fr11 v (g 67)
  rw [row_self] at this
  exact this
theorem sub_addc {a b r : Int32} : a - b + r = a + r - b := by rw [Int32.sub_eq_add_neg, Int32.sub_eq_add_neg, Int32.add_assoc, Int32.add_comm (-b) r, ← Int32.add_assoc]
abbrev WwX : Type := Int32 × Int32 × (Nat → Int32) × (Nat → Int32) × Int32 × Int32 × (Nat → Int32) × (Nat → Int32)
abbrev WwM : Type := Int32 × Int32 × (Nat → Int32) × (Nat → Int32) × (Nat → Int32) × Int32 × Int32 × (Nat → Int32)
def WwR (n : Nat) (f g : Nat → Int32) (j : Nat) (s : WwX) (t : WwM) : Prop := ∃ (ac oc as ou : Int32) (q w P A sh lo sx sy : Nat → Int32), s = (nI j, nI j, q, P, ac, oc, sh, lo) ∧ t = (q 11 - f 11, nI j, w, sx, sy, as, ou, A) ∧ RowR n q w ∧ RowI n w ∧ ∀ k, 84 ≤ k → w k = g k
def WwQ (n : Nat) (f g : Nat → Int32) (r : Int32 × (Nat → Int32) × (Nat → Int32) × Int32 × Int32 × (Nat → Int32) × (Nat → Int32)) (u : WwM) : Prop := ∃ j, WwR n f g j (r.1, nI j, r.2) u
theorem WwR.step {n j m K : Nat} {f g : Nat → Int32} {x y z : Int32} {s : WwX} {t : WwM} (hK : 200000 ≤ K) (hm : m ≤ 99) (hj : j < m) (q : WwR n f g j s t) : (∃ s' t', B_X7_walk_47 K x y z (nI m) s.1 s.2.1 s.2.2.1 s.2.2.2.1 s.2.2.2.2.1 s.2.2.2.2.2.1 s.2.2.2.2.2.2.1 s.2.2.2.2.2.2.2 = some (.inl s') ∧ B_X8_walk_49 K x y z (nI m) (nI n) t.1 t.2.1 t.2.2.1 t.2.2.2.1 t.2.2.2.2.1 t.2.2.2.2.2.1 t.2.2.2.2.2.2.1 t.2.2.2.2.2.2.2 = some (.inl t') ∧ WwR n f g (j + 1) s' t') ∨ (∃ r u, B_X7_walk_47 K x y z (nI m) s.1 s.2.1 s.2.2.1 s.2.2.2.1 s.2.2.2.2.1 s.2.2.2.2.2.1 s.2.2.2.2.2.2.1 s.2.2.2.2.2.2.2 = some (.inr r) ∧ B_X8_walk_49 K x y z (nI m) (nI n) t.1 t.2.1 t.2.2.1 t.2.2.2.1 t.2.2.2.2.1 t.2.2.2.2.2.1 t.2.2.2.2.2.2.1 t.2.2.2.2.2.2.2 = some (.inr u) ∧ WwQ n f g r u) := by
  obtain ⟨ac, oc, as, ou, q, w, P, A, sh, lo, sx, sy, rfl, rfl, h, hI, fr0⟩ := q
  have n8 := h.n8
  show (∃ s' t', B_X7_walk_47 K x y z (nI m) (nI j) (nI j) q P ac oc sh lo = some (.inl s') ∧ B_X8_walk_49 K x y z (nI m) (nI n) (q 11 - f 11) (nI j) w sx sy as ou A = some (.inl t') ∧ WwR n f g (j + 1) s' t') ∨ (∃ r u, B_X7_walk_47 K x y z (nI m) (nI j) (nI j) q P ac oc sh lo = some (.inr r) ∧ B_X8_walk_49 K x y z (nI m) (nI n) (q 11 - f 11) (nI j) w sx sy as ou A = some (.inr u) ∧ WwQ n f g r u)
  obtain ⟨r, e1, e2, e3, e4⟩ := rf_both (s := 0) (S := 0) (a := x) (b := y) (c := z) rfl (by decide) hK h hI.x
  rw [wm_of] at e2
  have lm : ¬ nI m ≤ nI j := mt (nI_leI (a := m) (b := j) (by omega) (by omega)).mp (by omega)
  unfold B_X7_walk_47 B_X8_walk_49
  rw [if_neg lm, if_neg lm, e1, e2, xb1, xb1]
  by_cases c : r = -1
  · obtain ⟨i, hi, rfl, -, -, x1, x2, -⟩ := (e4 c).2.1 rfl
    obtain ⟨mm, o, a, f1, g1, P1, A1, sh1, lo1, sx1, sy1, d1, d2, ha, hPA, R, G, -, fr⟩ := mv_both (x := y) (y := z) (P := P) (A := A) (sh := sh) (lo := lo) (sx := sx) (sy := sy) (ac := ac) (oc := oc) (as := as) (ou := ou) hK h hI.1 hi
    have f11 : f1 11 = q 11 := by
      obtain ⟨p, ep, hp⟩ := e_moveSite (p1 := nI i) (p2 := y) (p3 := z) (ac := ac) (oc := oc) (f := q) (pa := P) (sh := sh) (lo := lo) hK ⟨n, n8, h.sz⟩
      rw [d1] at ep
      rw [← Option.some.inj ep] at hp
      exact hp.2.2
    have frk : ∀ k, 84 ≤ k → g1 k = g k := fun k hk => by
      rw [fr k (by omega) (by omega) (by omega) (by omega) (by omega) (by omega)]
      unfold mvG
      rw [upd_ne (by omega), upd_ne (by omega)]
      exact fr0 k hk
    unfold F_X5_doAct
    rw [if_pos c, if_pos c, if_pos rfl, d1, xb7, xnm, xb7, d2, xb7, nI_1]
    refine Or.inl ⟨_, _, rfl, rfl, nI a, o, nI a, o, upd f1 11 (f1 11 + mm), g1, P1, A1, sh1, lo1, sx1, sy1, rfl, ?_, R.m11 _, mv_I n8 hI hi x1 x2 G fr, frk⟩
    rw [upd_at, f11, sub_addc]
  · rw [if_neg c, if_neg c]
    exact Or.inr ⟨_, _, rfl, rfl, j, _, _, _, _, q, w, _, _, _, _, _, _, rfl, rfl, h, hI, fr0⟩
/-- a way -/
theorem p_walk {n K : Nat} {f g tr P A sh lo sx sy asd : Nat → Int32} {x y z w v ac oc as ou : Int32} (hK : 200000 ≤ K) (h : RowR n f g) (hI : RowI n g) : ∃ (r ac' oc' as' ou' : Int32) (tr' P' A' sh' lo' sx' sy' asd' : Nat → Int32), F_X7_walk K x y z w v f tr P ac oc sh lo = some (r, tr', P', ac', oc', sh', lo') ∧ F_X8_walk K x y z w v g (nI n) sx sy as ou A asd = some (r, g, sx', sy', as', ou', A', asd') := by
  have n8 := h.n8
  obtain ⟨r, e1, e2, e3, e4⟩ := rf_both (s := 0) (S := 0) (a := x) (b := y) (c := z) rfl (by decide) hK h hI.x
  rw [wm_of] at e2
  have ei : F_X8_in w.toInt64 (1 : Int64) (99 : Int64) = some (if (1 : Int32) ≤ w ∧ w ≤ (99 : Int32) then 1 else 0) := by
    rw [show (1 : Int64) = (1 : Int32).toInt64 from rfl, show (99 : Int64) = (99 : Int32).toInt64 by decide, m_inI]
  unfold F_X7_walk F_X8_walk
  rw [rng_c, e1, e2, xb1, xb1, ei, xb1, ite10, m_in0 (m := 2) (by decide), xb1, ite10]
  by_cases c : r = -1
  · rw [if_pos c, if_pos c]
    by_cases d : (1 : Int32) ≤ w ∧ w ≤ (99 : Int32)
    · obtain ⟨m, hm, rfl⟩ := in_nat (p := w) (n := 99) (by decide) ⟨Int32.le_trans (by decide) d.1, d.2⟩
      have h2 : RowR n (va_cpy f tr 0 0 81) g := h.cg (fun k hk => by rw [gcpy_at hk, Nat.zero_add]) (fun k hk => rfl)
      have t11 : (va_cpy f tr 0 0 81) 11 = f 11 := by rw [gcpy_at (by decide), Nat.zero_add]
      have hz : WwR n f g 0 ((0 : Int32), (0 : Int32), va_cpy f tr 0 0 81, P, ac, oc, sh, lo) ((0 : Int32), (0 : Int32), g, sx, sy, as, ou, A) := ⟨ac, oc, as, ou, va_cpy f tr 0 0 81, g, P, A, sh, lo, sx, sy, rfl, by rw [t11, Int32.sub_self]; rfl, h2, hI, fun _ _ => rfl⟩
      have he : ∀ s t, WwR n f g m s t → ∃ r u, (fun u9 : Int32 × Int32 × (Nat → Int32) × (Nat → Int32) × Int32 × Int32 × (Nat → Int32) × (Nat → Int32) => B_X7_walk_47 K x y z (nI m) u9.1 u9.2.1 u9.2.2.1 u9.2.2.2.1 u9.2.2.2.2.1 u9.2.2.2.2.2.1 u9.2.2.2.2.2.2.1 u9.2.2.2.2.2.2.2) s = some (.inr r) ∧ (fun u9 : Int32 × Int32 × (Nat → Int32) × (Nat → Int32) × (Nat → Int32) × Int32 × Int32 × (Nat → Int32) => B_X8_walk_49 K x y z (nI m) (nI n) u9.1 u9.2.1 u9.2.2.1 u9.2.2.2.1 u9.2.2.2.2.1 u9.2.2.2.2.2.1 u9.2.2.2.2.2.2.1 u9.2.2.2.2.2.2.2) t = some (.inr u) ∧ WwQ n f g r u := by
        intro s t q
        obtain ⟨ac, oc, as, ou, q, w, P, A, sh, lo, sx, sy, rfl, rfl, h, hI, fr0⟩ := q
        have le : nI m ≤ nI m := (nI_leI (a := m) (b := m) (by omega) (by omega)).mpr (Nat.le_refl _)
        refine ⟨(nI m, q, P, ac, oc, sh, lo), (q 11 - f 11, nI m, w, sx, sy, as, ou, A), ?_, ?_, m, _, _, _, _, q, w, _, _, _, _, _, _, rfl, rfl, h, hI, fr0⟩
        · show B_X7_walk_47 K x y z (nI m) (nI m) (nI m) q P ac oc sh lo = _
          unfold B_X7_walk_47
          rw [if_pos le]
        · show B_X8_walk_49 K x y z (nI m) (nI n) (q 11 - f 11) (nI m) w sx sy as ou A = _
          unfold B_X8_walk_49
          rw [if_pos le]
      obtain ⟨u, t, l1, l2, j, ac1, oc1, as1, ou1, q1, w1, P1, A1, sh1, lo1, sx1, sy1, y3, y4, R, I1, fr⟩ := lp_two (WwR n f g) (WwQ n f g) (n := m) (K := K) (K' := K) (by omega) (by omega) (fun i s t hi q => WwR.step hK (by omega) hi q) he hz
      have y5 : u = (nI j, q1, P1, ac1, oc1, sh1, lo1) := congrArg (fun w : WwX => (w.1, w.2.2)) y3
      rw [if_pos d, if_pos d, c_cpF, xb1, l1, m_aside hK, xb1, l2, y5, y4, xb7, xb8]
      unfold J_X7_walk_90 J_X8_walk_85
      rw [m_bring hK fr, xb1, aside_at (by decide), show q1 12 = w1 68 from R.sc (12, 68) (by decide), show f 12 = g 68 from h.sc (12, 68) (by decide)]
      by_cases b : 0 ≤ v ∧ v ≤ nI 2
      · obtain ⟨k, hk, rfl⟩ := in_nat (n := 2) (by decide) b
        rw [if_pos b]
        rcases (show k = 0 ∨ k = 1 ∨ k = 2 by omega) with rfl | rfl | rfl
        · rw [if_pos (by decide), if_pos (by decide)]
          exact ⟨_, _, _, _, _, _, _, _, _, _, _, _, _, rfl, rfl⟩
        · rw [if_neg (by decide), if_pos (by decide), if_neg (by decide), if_pos (by decide)]
          exact ⟨_, _, _, _, _, _, _, _, _, _, _, _, _, rfl, rfl⟩
        · rw [if_neg (by decide), if_neg (by decide), if_pos (by decide), if_neg (by decide), if_neg (by decide)]
          exact ⟨_, _, _, _, _, _, _, _, _, _, _, _, _, rfl, rfl⟩
      · have q := not_of b
        rw [if_neg b, if_neg (show ¬ v = (0 : Int32) from q 0 (by decide) (by decide)), if_neg (show ¬ v = (1 : Int32) from q 1 (by decide) (by decide)), if_neg (show ¬ v = (2 : Int32) from q 2 (by decide) (by decide))]
        exact ⟨_, _, _, _, _, _, _, _, _, _, _, _, _, rfl, rfl⟩
    · rw [if_neg d, if_neg d]
      exact ⟨_, _, _, _, _, _, _, _, _, _, _, _, _, rfl, rfl⟩
  · rw [if_neg c, if_neg c]
    refine ⟨-1, ac, oc, _, _, tr, P, _, sh, lo, _, _, _, ?_, rfl⟩
    split <;> rfl
end
-- 83c.30
section
/-! Stage B, 30: limits and partners, in both -/
theorem c_way {x y : Int32} : F_X7_isWay x y = some (if (in9 x ∧ in9 y) ∧ ¬ (x = 0 ∧ y = 0) then 1 else 0) := by
  unfold F_X7_isWay
  rw [c_mov, xb1, ite10]
  by_cases a : in9 x ∧ in9 y
  · rw [if_pos a]
    by_cases z1 : x = 0
    · rw [if_pos z1]
      by_cases z2 : y = 0
      · rw [if_pos z2, if_neg (show ¬ ((in9 x ∧ in9 y) ∧ ¬ (x = 0 ∧ y = 0)) from fun q => q.2 ⟨z1, z2⟩)]
      · rw [if_neg z2, if_pos (show (in9 x ∧ in9 y) ∧ ¬ (x = 0 ∧ y = 0) from ⟨a, fun q => z2 q.2⟩)]
    · rw [if_neg z1, if_pos (show (in9 x ∧ in9 y) ∧ ¬ (x = 0 ∧ y = 0) from ⟨a, fun q => z1 q.1⟩)]
  · rw [if_neg a, if_neg (show ¬ ((in9 x ∧ in9 y) ∧ ¬ (x = 0 ∧ y = 0)) from fun q => a q.1)]
theorem m_way {x y : Int32} : F_X8_isWay x y = some (if (in9 x ∧ in9 y) ∧ ¬ (x = 0 ∧ y = 0) then 1 else 0) := by
  unfold F_X8_isWay
  rw [m_in9, xb1, ite10, m_in9, xb1, ite10]
  by_cases a : in9 x
  · rw [if_pos (show in9 x from a)]
    by_cases b : in9 y
    · rw [if_pos (show in9 y from b)]
      by_cases z1 : x = 0
      · rw [if_pos z1]
        by_cases z2 : y = 0
        · rw [if_pos z2, if_neg (show ¬ ((in9 x ∧ in9 y) ∧ ¬ (x = 0 ∧ y = 0)) from fun q => q.2 ⟨z1, z2⟩)]
        · rw [if_neg z2, if_pos (show (in9 x ∧ in9 y) ∧ ¬ (x = 0 ∧ y = 0) from ⟨⟨a, b⟩, fun q => z2 q.2⟩)]
      · rw [if_neg z1, if_pos (show (in9 x ∧ in9 y) ∧ ¬ (x = 0 ∧ y = 0) from ⟨⟨a, b⟩, fun q => z1 q.1⟩)]
    · rw [if_neg (show ¬ in9 y from b), if_neg (show ¬ ((in9 x ∧ in9 y) ∧ ¬ (x = 0 ∧ y = 0)) from fun q => b q.1.2)]
  · rw [if_neg (show ¬ in9 x from a), if_neg (show ¬ ((in9 x ∧ in9 y) ∧ ¬ (x = 0 ∧ y = 0)) from fun q => a q.1.1)]
theorem m_stand {i : Nat} {g : Nat → Int32} (hi : i < 8) : F_X8_canStand (nI i) g = some (if inR (g (0 + i)) ∧ inR (g (8 + i)) then 1 else 0) := by
  unfold F_X8_canStand
  rw [bm_ix (a := 0) (by rfl) (by omega), bm_cl (a := 0) (by rfl) (by omega), m_inR, xb1, ite10, bm_ix (a := 8) (by rfl) (by omega), bm_cl (a := 8) (by rfl) (by omega), m_inR, xb1, ite10]
  by_cases a : inR (g (0 + i))
  · rw [if_pos (show inR (g (0 + i)) from a)]
    by_cases b : inR (g (8 + i))
    · rw [if_pos (show inR (g (8 + i)) from b), if_pos (show inR (g (0 + i)) ∧ inR (g (8 + i)) from ⟨a, b⟩)]
    · rw [if_neg (show ¬ inR (g (8 + i)) from b), if_neg (show ¬ (inR (g (0 + i)) ∧ inR (g (8 + i))) from fun q => b q.2)]
  · rw [if_neg (show ¬ inR (g (0 + i)) from a), if_neg (show ¬ (inR (g (0 + i)) ∧ inR (g (8 + i))) from fun q => a q.1)]
/-- quiet by a drift: what the places hold doesn't matter -/
theorem qb_cg {n K : Nat} {g g' : Nat → Int32} {p q : Int32} (hK : 200000 ≤ K) (n8 : n ≤ 8) (h : ∀ k, 16 ≤ k → g' k = g k) : F_X8_isQuietBy K p q g' (nI n) = F_X8_isQuietBy K p q g (nI n) := by
  have e16 : F_X8_sum K (16 : Int32) g' (nI n) = F_X8_sum K (16 : Int32) g (nI n) := by
    rw [show (16 : Int32) = nI 16 from rfl, bm_sum hK n8 (by decide), bm_sum hK n8 (by decide)]
    exact congrArg some (sgm_eq n (fun i hi => h _ (by omega)))
  have e24 : F_X8_sum K (24 : Int32) g' (nI n) = F_X8_sum K (24 : Int32) g (nI n) := by
    rw [show (24 : Int32) = nI 24 from rfl, bm_sum hK n8 (by decide), bm_sum hK n8 (by decide)]
    exact congrArg some (sgm_eq n (fun i hi => h _ (by omega)))
  unfold F_X8_isQuietBy F_X8_pointX F_X8_pointY F_X8_isAllowed F_X8_valueOf J_X8_valueOf_12 J_X8_valueOf_26
  rw [e16, e24]
  simp only [h 72 (by decide), h 64 (by decide), h 65 (by decide)]
theorem dsh {a b c d : Int32} : (a + b) - c + d = (a - c + d) + b := by
  rw [Int32.sub_eq_add_neg, Int32.sub_eq_add_neg, Int32.add_assoc a b, Int32.add_comm b, ← Int32.add_assoc a, Int32.add_assoc (a + -c), Int32.add_comm b, ← Int32.add_assoc (a + -c)]
/-- quiet, of one that stands so much farther -/
theorem iq_sh {n i K : Nat} {f g g' : Nat → Int32} {a b : Int32} (hK : 200000 ≤ K) (h : RowR n f g) (hg : RowG g) (hi : i < n) (fr : ∀ k, 16 ≤ k → g' k = g k) (hx : g' (0 + i) = g (0 + i) + a) (hy : g' (8 + i) = g (8 + i) + b) : F_X8_isQuiet K (nI i) g' (nI n) = some (qvl f (cdr f i 0 + a) (cdr f i 1 + b)) := by
  have n8 := h.n8
  obtain ⟨d0, d1⟩ := dr_both h.1.2.2.1 hi
  have m0 : mdx g' i = mdx g i + a := by
    unfold mdx
    rw [hx, fr (16 + i) (by omega), fr (32 + i) (by omega), dsh]
  have m1 : mdy g' i = mdy g i + b := by
    unfold mdy
    rw [hy, fr (24 + i) (by omega), fr (40 + i) (by omega), dsh]
  unfold F_X8_isQuiet
  rw [m_drX (by omega), xb1, m_drY (by omega), xb1, qb_cg hK n8 fr, ← q_both hK h hg, qvl_is, xb1, m0, m1, d0, d1]
theorem ml_rng {m : Nat} {x : Int32} (hm : m ≤ 201) (hx : in9 x) : (nI m * x).toInt = m * x.toInt ∧ -3000000 ≤ (nI m * x).toInt ∧ (nI m * x).toInt ≤ 3000000 := by
  obtain ⟨l, u⟩ := in9_int hx
  have a1 : (m : Int) * x.toInt ≤ m * 9999 := Int.mul_le_mul_of_nonneg_left u (by omega)
  have a2 : (m : Int) * -9999 ≤ m * x.toInt := Int.mul_le_mul_of_nonneg_left l (by omega)
  have e : (nI m * x).toInt = m * x.toInt := by
    rw [Int32.toInt_mul, nI_toInt (by omega)]
    exact Int.bmod_eq_of_le (by omega) (by omega)
  rw [e]
  exact ⟨rfl, by omega, by omega⟩
theorem ml_st {j : Nat} {a x : Int32} : a + nI j * x + x = a + nI (j + 1) * x := by
  rw [← nI_1 j, Int32.add_mul, Int32.one_mul, Int32.add_assoc]
/-- the row of one that was moved j times -/
def LmW (i j : Nat) (x y : Int32) (g w : Nat → Int32) : Prop := (∀ k, ¬ k = 0 + i → ¬ k = 8 + i → w k = g k) ∧ w (0 + i) = g (0 + i) + nI j * x ∧ w (8 + i) = g (8 + i) + nI j * y
theorem LmW.st {i j : Nat} {x y : Int32} {g w : Nat → Int32} (h : LmW i j x y g w) : LmW i (j + 1) x y g (mvG i x y w) := by
  obtain ⟨h1, h2, h3⟩ := h
  unfold mvG
  refine ⟨fun k a b => ?_, ?_, ?_⟩
  · rw [upd_ne b, upd_ne a]
    exact h1 k a b
  · rw [upd_ne (by omega), upd_at, h2, ml_st]
  · rw [upd_at, upd_ne (by omega), h3, ml_st]
theorem m_limB {n i j K : Nat} {f g w : Nat → Int32} {x y X : Int32} (hK : 200000 ≤ K) (h : RowR n f g) (hg : RowG g) (hi : i < n) (hX : ¬ (200 : Int32) ≤ X) (q : LmW i j x y g w) : B_X8_limit_36 K (nI i) x y (nI n) X 1 w = some (.inl (X + 1, (if inR (g (0 + i) + nI (j + 1) * x) ∧ inR (g (8 + i) + nI (j + 1) * y) then (if qvl f (cdr f i 0 + nI (j + 1) * x) (cdr f i 1 + nI (j + 1) * y) = 0 then 0 else 1) else 0), mvG i x y w)) := by
  have n8 := h.n8
  obtain ⟨q1, q2, q3⟩ := q.st
  unfold B_X8_limit_36
  rw [if_neg n10, if_neg hX]
  simp only [bm_ix (A := (0 : Int32)) (a := 0) rfl (show 0 + i < 265 by omega), bm_ix (A := (8 : Int32)) (a := 8) rfl (show 8 + i < 265 by omega), bm_cl (A := (0 : Int32)) (a := 0) rfl (show 0 + i < 265 by omega), bm_cl (A := (8 : Int32)) (a := 8) rfl (show 8 + i < 265 by omega), xnm]
  rw [show upd (upd w (0 + i) (w (0 + i) + x)) (8 + i) (upd w (0 + i) (w (0 + i) + x) (8 + i) + y) = mvG i x y w from rfl]
  rw [m_stand (by omega), xb1, ite10, q2, q3, iq_sh hK h hg hi (fun k hk => q1 k (by omega) (by omega)) q2 q3, xb1]
  by_cases c : inR (g (0 + i) + nI (j + 1) * x) ∧ inR (g (8 + i) + nI (j + 1) * y)
  · rw [if_pos c, if_pos c]
    by_cases d : qvl f (cdr f i 0 + nI (j + 1) * x) (cdr f i 1 + nI (j + 1) * y) = 0
    · rw [if_pos d, if_pos d]
    · rw [if_neg d, if_neg d]
  · rw [if_neg c, if_neg c]
def LmR (i : Nat) (x y : Int32) (g : Nat → Int32) (j : Nat) (s : Int32 × Int32) (t : Int32 × Int32 × (Nat → Int32)) : Prop := ∃ w, s = (nI j, nI (j + 1)) ∧ t = (nI j - 1, 1, w) ∧ LmW i j x y g w
theorem lm_both {n i K : Nat} {f g : Nat → Int32} {x y : Int32} (hK : 200000 ≤ K) (h : RowR n f g) (hI : RowI n g) (hi : i < n) (hx : in9 x) (hy : in9 y) : ∃ (r : Nat × Int32) (u : Int32 × (Nat → Int32)), lpF (fun u9 : Int32 × Int32 => B_X7_limit_38 (nI i) x y f u9.1 u9.2) K ((0 : Int32), (1 : Int32)) = some r ∧ lpF (fun u9 : Int32 × Int32 × (Nat → Int32) => B_X8_limit_36 K (nI i) x y (nI n) u9.1 u9.2.1 u9.2.2) K ((-1 : Int32), (1 : Int32), g) = some u ∧ r.1 < 2 ∧ r.2 = u.1 ∧ ∀ k, 84 ≤ k → u.2 k = g k := by
  have n8 := h.n8
  refine lp_twoXN 2 (LmR i x y g) (fun (r : Nat × Int32) (u : Int32 × (Nat → Int32)) => r.1 < 2 ∧ r.2 = u.1 ∧ ∀ k, 84 ≤ k → u.2 k = g k) (n := 200) (by omega) (by omega) (fun j s t hj q => ?_) ⟨g, rfl, rfl, fun _ _ _ => rfl, by rw [show nI 0 = (0 : Int32) from rfl, Int32.zero_mul, Int32.add_zero], by rw [show nI 0 = (0 : Int32) from rfl, Int32.zero_mul, Int32.add_zero]⟩
  obtain ⟨w, rfl, rfl, q⟩ := q
  have j1 : nI j - 1 + 1 = nI j := Int32.sub_add_cancel _ _
  have nX : ¬ (200 : Int32) ≤ nI j - 1 := fun z => by
    have z2 := Int32.le_iff_toInt_le.mp z
    rw [show (nI j - 1).toInt = (j : Int) - (1 : Nat) from pk_sub_toInt (a := j) (b := 1) (by omega) (by omega), show (200 : Int32).toInt = 200 by decide] at z2
    omega
  have M := m_limB hK h hI.1 hi nX q
  rw [j1] at M
  have fr : ∀ k, 84 ≤ k → mvG i x y w k = g k := fun k hk => q.st.1 k (by omega) (by omega)
  have tail : ∀ b : Int32, (b = 0 ∨ j = 200) → B_X8_limit_36 K (nI i) x y (nI n) (nI j - 1) 1 w = some (.inl (nI j, b, mvG i x y w)) → ∀ J, 2 ≤ J → lpF (fun u9 : Int32 × Int32 × (Nat → Int32) => B_X8_limit_36 K (nI i) x y (nI n) u9.1 u9.2.1 u9.2.2) J (nI j - 1, 1, w) = some (nI j, mvG i x y w) := by
    intro b hb e J hJ
    obtain ⟨J2, rfl⟩ : ∃ J2, J = J2 + 1 + 1 := ⟨J - 2, by omega⟩
    rw [lp_one (u' := (nI j, b, mvG i x y w)) e]
    refine lp_end ?_
    show B_X8_limit_36 K (nI i) x y (nI n) (nI j) b (mvG i x y w) = _
    unfold B_X8_limit_36
    by_cases z : b = 0
    · rw [if_pos z]
    · have z2 : j = 200 := hb.resolve_left z
      rw [if_neg z, z2, if_pos (by decide)]
  show (j < 200 ∧ ∃ s' t', B_X7_limit_38 (nI i) x y f (nI j) (nI (j + 1)) = some (.inl s') ∧ B_X8_limit_36 K (nI i) x y (nI n) (nI j - 1) 1 w = some (.inl t') ∧ LmR i x y g (j + 1) s' t') ∨ (∃ r u, B_X7_limit_38 (nI i) x y f (nI j) (nI (j + 1)) = some (.inr r) ∧ (∀ J, 2 ≤ J → lpF (fun u9 : Int32 × Int32 × (Nat → Int32) => B_X8_limit_36 K (nI i) x y (nI n) u9.1 u9.2.1 u9.2.2) J (nI j - 1, 1, w) = some u) ∧ (r.1 < 2 ∧ r.2 = u.1 ∧ ∀ k, 84 ≤ k → u.2 k = g k))
  by_cases e : j = 200
  · refine Or.inr ⟨(1, nI j), (nI j, mvG i x y w), ?_, tail _ (Or.inr e) M, Nat.lt_succ_self 1, rfl, fr⟩
    unfold B_X7_limit_38
    rw [if_pos (show (200 : Int32) < nI (j + 1) from (nI_ltI (a := 200) (b := j + 1) (by omega) (by omega)).mpr (by omega))]
  · have hX := (hI.2 (by omega)).1 i hi
    obtain ⟨-, r1, r2⟩ := ml_rng (m := j + 1) (by omega) hx
    obtain ⟨-, r3, r4⟩ := ml_rng (m := j + 1) (by omega) hy
    have k1 := inR_add hX.1 ⟨r1, r2⟩
    have k2 := inR_add hX.2 ⟨r3, r4⟩
    have l3 := inR_int hX.1
    have l4 := inR_int hX.2
    have C : B_X7_limit_38 (nI i) x y f (nI j) (nI (j + 1)) = if inR (g (0 + i) + nI (j + 1) * x) ∧ inR (g (8 + i) + nI (j + 1) * y) then (if qvl f (cdr f i 0 + nI (j + 1) * x) (cdr f i 1 + nI (j + 1) * y) = 0 then some (.inr (0, nI j)) else some (.inl (nI (j + 1), nI (j + 1 + 1)))) else some (.inr (1, nI j)) := by
      unfold B_X7_limit_38
      rw [if_neg (show ¬ (200 : Int32) < nI (j + 1) from mt (nI_ltI (a := 200) (b := j + 1) (by omega) (by omega)).mp (by omega)), c_room h hi (by omega) (by omega), xb1, ite10, c_qw n8 hi, xb1, nI_1]
    by_cases c : inR (g (0 + i) + nI (j + 1) * x) ∧ inR (g (8 + i) + nI (j + 1) * y)
    · rw [if_pos c] at C M
      by_cases d : qvl f (cdr f i 0 + nI (j + 1) * x) (cdr f i 1 + nI (j + 1) * y) = 0
      · rw [if_pos d] at C M
        exact Or.inr ⟨_, _, C, tail _ (Or.inl rfl) M, Nat.zero_lt_succ 1, rfl, fr⟩
      · rw [if_neg d] at C M
        exact Or.inl ⟨by omega, _, _, C, M, mvG i x y w, rfl, by rw [nI_pred], q.st⟩
    · rw [if_neg c] at C M
      exact Or.inr ⟨_, _, C, tail _ (Or.inl rfl) M, Nat.lt_succ_self 1, rfl, fr⟩
/-- how far one may go unheard -/
theorem p_limit {n K : Nat} {f g asd : Nat → Int32} {x y z : Int32} (hK : 200000 ≤ K) (h : RowR n f g) (hI : RowI n g) : ∃ v asd', F_X7_limit K x y z f = some v ∧ F_X8_limit K x y z g (nI n) asd = some (v, g, asd') := by
  have n8 := h.n8
  unfold F_X7_limit F_X8_limit
  rcases hs_both (p := x) n8 h.sz with ⟨i, hi, rfl, c1, c2⟩ | ⟨-, c1, c2⟩
  · rw [c1, c2, xb1, xb1, if_neg n10, if_neg n10, c_way, m_way, xb1, xb1, ite10, ite10, fz_c h.1 hi, fz_m (by omega), xb1, xb1, ite10, ite10]
    by_cases a : (in9 y ∧ in9 z) ∧ ¬ (y = 0 ∧ z = 0)
    · rw [if_pos a, if_pos a]
      by_cases b : g (76 + i) = 1
      · rw [if_pos b, if_pos b]
        exact ⟨_, _, rfl, rfl⟩
      · obtain ⟨⟨tg, v⟩, ⟨v2, w⟩, l1, l2, l3, l4, fr⟩ := lm_both hK h hI hi a.1.1 a.1.2
        have l3 : tg < 2 := l3
        have l4 : v = v2 := l4
        have fr : ∀ k, 84 ≤ k → w k = g k := fr
        rw [if_neg b, if_neg b, l1, m_aside hK, xb1, l2, xb2, xb2, m_bring hK fr, xb1, l4]
        rcases (show tg = 0 ∨ tg = 1 by omega) with e | e
        · rw [e, if_pos rfl]
          exact ⟨_, _, rfl, rfl⟩
        · rw [e, if_neg (by decide), if_pos rfl]
          exact ⟨_, _, rfl, rfl⟩
    · rw [if_neg a, if_neg a]
      exact ⟨_, _, rfl, rfl⟩
  · rw [c1, c2, xb1, xb1, if_pos rfl, if_pos rfl]
    exact ⟨_, _, rfl, rfl⟩
end
-- 83c.31
section
/-! Stage B, 31: partners, and what a script would cost, in both -/
def PnR (i : Nat) (j : Nat) (s : Int32 × (Nat → Int32) × (Nat → Int32)) (t : Int32 × Int32 × (Nat → Int32) × (Nat → Int32)) : Prop := ∃ sh lo sx sy, s = (nI j, sh, lo) ∧ t = (-1, nI j, sx, sy)
def PnQ (r : Nat × Int32 × (Nat → Int32) × (Nat → Int32)) (u : Int32 × (Nat → Int32) × (Nat → Int32)) : Prop := (r.1 = 0 ∧ u.1 = r.2.1) ∨ (r.1 = 1 ∧ u.1 = -1)
theorem pn_both {n i K : Nat} {f g sh lo sx sy : Nat → Int32} (hK : 200000 ≤ K) (h : RowR n f g) (hg : RowG g) (hi : i < n) (h72 : g 72 = 0) (hq : F_X8_isQuiet K (nI i) g (nI n) = some 0) : ∃ r u, lpF (fun u9 : Int32 × (Nat → Int32) × (Nat → Int32) => B_X7_partner_64 K (nI i) f u9.1 u9.2.1 u9.2.2) K ((0 : Int32), sh, lo) = some r ∧ lpF (fun u9 : Int32 × Int32 × (Nat → Int32) × (Nat → Int32) => B_X8_partner_48 K (nI i) (nI n) g u9.1 u9.2.1 u9.2.2.1 u9.2.2.2) K ((-1 : Int32), (0 : Int32), sx, sy) = some u ∧ PnQ r u := by
  have n8 := h.n8
  refine lp_twoXN 10 (PnR i) PnQ (n := n) (by omega) (by omega) (fun j s t hj q => ?_) ⟨sh, lo, sx, sy, rfl, rfl⟩
  obtain ⟨sh, lo, sx, sy, rfl, rfl⟩ := q
  show (j < n ∧ ∃ s' t', B_X7_partner_64 K (nI i) f (nI j) sh lo = some (.inl s') ∧ B_X8_partner_48 K (nI i) (nI n) g (-1) (nI j) sx sy = some (.inl t') ∧ PnR i (j + 1) s' t') ∨ (∃ r u, B_X7_partner_64 K (nI i) f (nI j) sh lo = some (.inr r) ∧ (∀ J, 10 ≤ J → lpF (fun u9 : Int32 × Int32 × (Nat → Int32) × (Nat → Int32) => B_X8_partner_48 K (nI i) (nI n) g u9.1 u9.2.1 u9.2.2.1 u9.2.2.2) J (-1, nI j, sx, sy) = some u) ∧ PnQ r u)
  by_cases e : j = n
  · have le : nI n ≤ nI j := (nI_leI (a := n) (b := j) (by omega) (by omega)).mpr (by omega)
    refine Or.inr ⟨(1, nI j, sh, lo), (-1, sx, sy), ?_, ?_, Or.inr ⟨rfl, rfl⟩⟩
    · unfold B_X7_partner_64 F_X5_sites
      rw [xb1, h.sz, if_pos le]
    · intro J hJ
      obtain ⟨J2, rfl⟩ : ∃ J2, J = J2 + 1 := ⟨J - 1, by omega⟩
      refine lp_end ?_
      show B_X8_partner_48 K (nI i) (nI n) g (-1) (nI j) sx sy = _
      unfold B_X8_partner_48
      rw [if_pos le]
  · have jn : j < n := by omega
    have lt : ¬ nI n ≤ nI j := mt (nI_leI (a := n) (b := j) (by omega) (by omega)).mp (by omega)
    have C0 : B_X7_partner_64 K (nI i) f (nI j) sh lo = if nI j = nI i then some (.inl (nI j + 1, sh, lo)) else if g (76 + j) = 1 then some (.inl (nI j + 1, sh, lo)) else bd3 (F_X5_canShare K (((1 : Int32) <<< (nI i &&& (31 : Int32))) ||| ((1 : Int32) <<< (nI j &&& (31 : Int32)))) f sh lo) (fun r_24 w_25 w_26 => if r_24 = (0 : Int32) then some (.inl (nI j + (1 : Int32), w_25, w_26)) else some (.inr (0, nI j, w_25, w_26))) := by
      unfold B_X7_partner_64 F_X5_sites
      rw [xb1, h.sz, if_neg lt, fz_c h.1 jn, xb1, ite10]
    have M0 : B_X8_partner_48 K (nI i) (nI n) g (-1) (nI j) sx sy = if nI j = nI i then some (.inl (-1, nI j + 1, sx, sy)) else if g (76 + j) = 1 then some (.inl (-1, nI j + 1, sx, sy)) else bd3 (F_X8_shares K (((1 : Int32) <<< (nI i &&& (31 : Int32))) ||| ((1 : Int32) <<< (nI j &&& (31 : Int32)))) g (nI n) sx sy) (fun r_24 w_25 w_26 => if r_24 = (0 : Int32) then some (.inl (-1, nI j + (1 : Int32), w_25, w_26)) else some (.inl (nI j, nI j + (1 : Int32), w_25, w_26))) := by
      unfold B_X8_partner_48
      rw [if_neg lt, if_pos h72, hq, xb1, if_pos rfl, if_pos rfl, fz_m (by omega), xb1, ite10]
    by_cases c : j = i
    · rw [if_pos (show nI j = nI i by rw [c]), nI_1] at C0 M0
      exact Or.inl ⟨jn, _, _, C0, M0, _, _, _, _, rfl, rfl⟩
    · have cn : ¬ nI j = nI i := fun z => c ((nI_eq (a := j) (b := i) (by omega) (by omega)).mp z)
      rw [if_neg cn] at C0 M0
      by_cases d : g (76 + j) = 1
      · rw [if_pos d, nI_1] at C0 M0
        exact Or.inl ⟨jn, _, _, C0, M0, _, _, _, _, rfl, rfl⟩
      · rw [if_neg d] at C0 M0
        obtain ⟨p1, p2, p3⟩ := grp_1 i (by omega)
        have pb : 2 ^ i / 2 ^ j % 2 = 0 := Decidable.byContradiction (fun z => c (p3 j (by omega) z))
        have pl : 2 ^ i < 256 := Nat.lt_of_lt_of_le (Nat.pow_lt_pow_right (by decide) (show i < 8 by omega)) (by decide)
        obtain ⟨g1, g2, g3⟩ := grp_or (2 ^ i) pl j (by omega) pb
        have m2 : 2 ^ i + 2 ^ j < 2 ^ 8 := grp_lt 8 (by decide) (2 ^ i) pl j (by omega) pb
        obtain ⟨v, q0, q1, r0, r1, sh', lo', sx', sy', hv, hr0, hr1, c1, c2, c3, c4⟩ := sh_both (sh := sh) (lo := lo) (sx := sx) (sy := sy) hK h hg h72 m2 (by omega)
        rw [p1, g1, c1, xb3, nI_1] at C0
        rw [p1, g1, c2, xb3, nI_1] at M0
        rcases hv with v0 | v1
        · rw [v0, if_pos rfl] at C0 M0
          exact Or.inl ⟨jn, _, _, C0, M0, _, _, _, _, rfl, rfl⟩
        · rw [v1, if_neg n10] at C0 M0
          refine Or.inr ⟨_, (nI j, sx', sy'), C0, ?_, Or.inl ⟨rfl, rfl⟩⟩
          intro J hJ
          obtain ⟨J2, rfl⟩ : ∃ J2, J = J2 + 1 := ⟨J - 1, by omega⟩
          rw [lp_one (u' := (nI j, nI (j + 1), sx', sy')) M0]
          refine lp_forA (b := fun u9 : Int32 × Int32 × (Nat → Int32) × (Nat → Int32) => B_X8_partner_48 K (nI i) (nI n) g u9.1 u9.2.1 u9.2.2.1 u9.2.2.2) (S := fun k => (nI j, nI k, sx', sy')) (n := n) (fun k hk => ?_) ?_ (n - (j + 1)) (j + 1) J2 (by omega) (by omega)
          · show B_X8_partner_48 K (nI i) (nI n) g (nI j) (nI k) sx' sy' = some (.inl (nI j, nI (k + 1), sx', sy'))
            unfold B_X8_partner_48
            rw [if_neg (mt (nI_leI (a := n) (b := k) (by omega) (by omega)).mp (by omega)), if_pos h72, hq, xb1, if_pos rfl, if_neg (nI_ne_m1 (by omega)), nI_1]
          · show B_X8_partner_48 K (nI i) (nI n) g (nI j) (nI n) sx' sy' = some (.inr (nI j, sx', sy'))
            unfold B_X8_partner_48
            rw [if_pos ((nI_leI (a := n) (b := n) (by omega) (by omega)).mpr (Nat.le_refl _))]
/-- whom a move would need -/
theorem p_partner {n K : Nat} {f g tr sh lo sx sy asd : Nat → Int32} {x y z : Int32} (hK : 200000 ≤ K) (h : RowR n f g) (hI : RowI n g) : ∃ (v : Int32) (tr' sh' lo' sx' sy' asd' : Nat → Int32), F_X7_partner K x y z f tr sh lo = some (v, tr', sh', lo') ∧ F_X8_partner K x y z g (nI n) sx sy asd = some (v, g, sx', sy', asd') := by
  have n8 := h.n8
  obtain ⟨r, e1, e2, e3, e4⟩ := rf_both (s := 0) (S := 0) (a := x) (b := y) (c := z) rfl (by decide) hK h hI.x
  rw [wm_of] at e2
  unfold F_X7_partner F_X8_partner
  rw [e1, e2, xb1, xb1]
  by_cases c : r = -1
  · obtain ⟨i, hi, rfl, -⟩ := (e4 c).2.1 rfl
    have fr16 : ∀ k, 16 ≤ k → mvG i y z g k = g k := fun k hk => by
      unfold mvG
      rw [upd_ne (by omega), upd_ne (by omega)]
    have gx : mvG i y z g (0 + i) = g (0 + i) + y := by
      unfold mvG
      rw [upd_ne (by omega), upd_at]
    have gy : mvG i y z g (8 + i) = g (8 + i) + z := by
      unfold mvG
      rw [upd_at, upd_ne (by omega)]
    have iq := iq_sh hK h hI.1 hi fr16 gx gy
    have e6 : f 6 = g 72 := h.sc (6, 72) (by decide)
    rw [if_pos c, if_pos c, m_aside hK, xb1]
    simp only [bm_ix (A := (0 : Int32)) (a := 0) rfl (show 0 + i < 265 by omega), bm_ix (A := (8 : Int32)) (a := 8) rfl (show 8 + i < 265 by omega), bm_cl (A := (0 : Int32)) (a := 0) rfl (show 0 + i < 265 by omega), bm_cl (A := (8 : Int32)) (a := 8) rfl (show 8 + i < 265 by omega), xnm]
    have V : ∀ {w : Nat → Int32}, upd (upd g (0 + i) (g (0 + i) + y)) (8 + i) (upd g (0 + i) (g (0 + i) + y) (8 + i) + z) = w → mvG i y z g = w := fun e => e
    generalize hw : upd (upd g (0 + i) (g (0 + i) + y)) (8 + i) (upd g (0 + i) (g (0 + i) + y) (8 + i) + z) = W
    have hW := V hw
    rw [hW] at fr16 gx gy iq
    have bb := m_bring (K := K) (g := g) (w := W) (as := asd) hK (fun k hk => fr16 k (by omega))
    have stop : ∀ {A B : Option Int32}, (W 72 = 0 → ¬ qvl f (cdr f i 0 + y) (cdr f i 1 + z) = 0) → lpF (fun u9 : Int32 × Int32 × (Nat → Int32) × (Nat → Int32) => B_X8_partner_48 K (nI i) (nI n) W u9.1 u9.2.1 u9.2.2.1 u9.2.2.2) K ((-1 : Int32), (0 : Int32), sx, sy) = some (-1, sx, sy) := fun {A B} hh => by
      obtain ⟨J, rfl⟩ : ∃ J, K = J + 1 := ⟨K - 1, by omega⟩
      refine lp_end ?_
      show B_X8_partner_48 (J + 1) (nI i) (nI n) W (-1) 0 sx sy = _
      unfold B_X8_partner_48
      rw [if_neg (nI_nle (by omega) (by omega))]
      by_cases z2 : W 72 = 0
      · rw [if_pos z2, iq, xb1, if_neg (hh z2)]
      · rw [if_neg z2]
    unfold F_X5_isAbove
    rw [e6, c_qw n8 hi, xb1]
    by_cases z2 : g 72 = 0
    · rw [if_pos z2, xb1, if_pos rfl]
      by_cases z3 : qvl f (cdr f i 0 + y) (cdr f i 1 + z) = 0
      · rw [if_pos z3, c_cpF, xb1]
        have h2 : RowR n (va_cpy f tr 0 0 81) g := h.cg (fun k hk => by rw [gcpy_at hk, Nat.zero_add]) (fun k hk => rfl)
        obtain ⟨f2, s1, R2⟩ := sf_both (x := y) (y := z) h2 hi
        rw [hW] at R2
        rw [z3] at iq
        obtain ⟨⟨tg, v1, sh1, lo1⟩, ⟨v2, sx1, sy1⟩, l1, l2, hQ⟩ := pn_both (sh := sh) (lo := lo) (sx := sx) (sy := sy) hK R2 (hI.1.of (fr16 64 (by decide)) (fr16 72 (by decide))) hi ((fr16 72 (by decide)).trans z2) iq
        rw [s1, xb1, l1, xb4, l2, xb3, bb, xb1]
        rcases hQ with ⟨w1, w2⟩ | ⟨w1, w2⟩
        · have w1 : tg = 0 := w1
          have w2 : v2 = v1 := w2
          rw [w1, w2, if_pos rfl]
          exact ⟨_, _, _, _, _, _, _, rfl, rfl⟩
        · have w1 : tg = 1 := w1
          have w2 : v2 = -1 := w2
          rw [w1, w2, if_neg (by decide), if_pos rfl]
          exact ⟨_, _, _, _, _, _, _, rfl, rfl⟩
      · rw [if_neg z3, stop (A := none) (B := none) (fun _ => z3), xb3, bb, xb1]
        exact ⟨_, _, _, _, _, _, _, rfl, rfl⟩
    · rw [if_neg z2, xb1, if_neg n10, stop (A := none) (B := none) (fun w => absurd ((fr16 72 (by decide)).symm.trans w) z2), xb3, bb, xb1]
      exact ⟨_, _, _, _, _, _, _, rfl, rfl⟩
  · rw [if_neg c, if_neg c]
    exact ⟨_, _, _, _, _, _, _, rfl, rfl⟩
abbrev RnX : Type := Int32 × (Nat → Int32) × (Nat → Int32) × Int32 × Int32 × (Nat → Int32) × (Nat → Int32)
def RnR (n c : Nat) (g kp : Nat → Int32) (ka : Int32) (i : Nat) (s : RnX) (t : PfM) : Prop := ∃ (ac oc as ou tk : Int32) (q w P A sh lo sx sy : Nat → Int32), s = (nI i, q, P, ac, oc, sh, lo) ∧ t = (nI i, w, sx, sy, as, ou, A, tk, kp, ka) ∧ RowR n q w ∧ RowI n w ∧ q 11 = w 67 ∧ (∀ k, 84 ≤ k → w k = g k) ∧ i ≤ c
def RnQ (n c : Nat) (g kp : Nat → Int32) (ka : Int32) (s : RnX) (t : Nat × PfM) : Prop := ∃ i, ((t.1 = 0 ∧ i < c) ∨ (t.1 = 1 ∧ i = c)) ∧ RnR n c g kp ka i s t.2
theorem RnR.step {n k r c i K : Nat} {g kp st co sc lg : Nat → Int32} {ka : Int32} {s : RnX} {t : PfM} (hK : 200000 ≤ K) (hk : k ≤ 4) (hr : r < k) (hS : SR k st co sc lg) (hkd : KdS k st co) (e : co r = nI c) (el : lg r = nI c) (hc : c ≤ 12) (q : RnR n c g kp ka i s t) : (i < c ∧ ∃ s' t', B_X7_run_56 K (nI r) (nI k) st co (nI c) s.1 s.2.1 s.2.2.1 s.2.2.2.1 s.2.2.2.2.1 s.2.2.2.2.2.1 s.2.2.2.2.2.2 = some (.inl s') ∧ B_X8_goSteps_2 K (nI r) 0 (nI n) sc lg t.1 t.2.1 t.2.2.1 t.2.2.2.1 t.2.2.2.2.1 t.2.2.2.2.2.1 t.2.2.2.2.2.2.1 t.2.2.2.2.2.2.2.1 t.2.2.2.2.2.2.2.2.1 t.2.2.2.2.2.2.2.2.2 = some (.inl t') ∧ RnR n c g kp ka (i + 1) s' t') ∨ (∃ r' u', B_X7_run_56 K (nI r) (nI k) st co (nI c) s.1 s.2.1 s.2.2.1 s.2.2.2.1 s.2.2.2.2.1 s.2.2.2.2.2.1 s.2.2.2.2.2.2 = some (.inr r') ∧ B_X8_goSteps_2 K (nI r) 0 (nI n) sc lg t.1 t.2.1 t.2.2.1 t.2.2.2.1 t.2.2.2.2.1 t.2.2.2.2.2.1 t.2.2.2.2.2.2.1 t.2.2.2.2.2.2.2.1 t.2.2.2.2.2.2.2.2.1 t.2.2.2.2.2.2.2.2.2 = some (.inr u') ∧ RnQ n c g kp ka r' u') := by
  obtain ⟨ac, oc, as, ou, tk, q, w, P, A, sh, lo, sx, sy, rfl, rfl, h, hI, q11, fr, hi⟩ := q
  have n8 := h.n8
  by_cases z : i = c
  · refine Or.inr ⟨(nI i, q, P, ac, oc, sh, lo), (1, nI i, w, sx, sy, as, ou, A, tk, kp, ka), ?_, ?_, i, Or.inr ⟨rfl, z⟩, ac, oc, as, ou, tk, q, w, P, A, sh, lo, sx, sy, rfl, rfl, h, hI, q11, fr, hi⟩
    · show B_X7_run_56 K (nI r) (nI k) st co (nI c) (nI i) q P ac oc sh lo = _
      unfold B_X7_run_56
      rw [if_pos ((nI_leI (a := c) (b := i) (by omega) (by omega)).mpr (by omega))]
    · show B_X8_goSteps_2 K (nI r) 0 (nI n) sc lg (nI i) w sx sy as ou A tk kp ka = _
      unfold B_X8_goSteps_2
      rw [xixn (by omega) (by decide), nI_clamp (by omega), el, if_pos ((nI_leI (a := c) (b := i) (by omega) (by omega)).mpr (by omega))]
  · have hic : i < c := by omega
    obtain ⟨s, s6, p0, p1, p2, p3, p4⟩ := sp_both hk hr hS hkd e hc hic
    obtain ⟨v, e1, e2, e3, e4⟩ := rf_both (s := s) (S := nI s) (a := sc (48 * r + 4 * i + 1)) (b := sc (48 * r + 4 * i + 2)) (c := sc (48 * r + 4 * i + 3)) rfl s6 hK h hI.x
    have C : B_X7_run_56 K (nI r) (nI k) st co (nI c) (nI i) q P ac oc sh lo = bd7 (if v = -1 then bd7 (F_X5_doAct K (nI s) (sc (48 * r + 4 * i + 1)) (sc (48 * r + 4 * i + 2)) (sc (48 * r + 4 * i + 3)) q P ac oc sh lo) (fun r_12 w_13 w_14 w_15 w_16 w_17 w_18 => some ((1 : Int32), w_13, w_14, w_15, w_16, w_17, w_18)) else some ((0 : Int32), q, P, ac, oc, sh, lo)) (fun r_16 w_17 w_18 w_19 w_20 w_21 w_22 => if r_16 = (0 : Int32) then some (.inr (nI i, w_17, w_18, w_19, w_20, w_21, w_22)) else some (.inl (nI i + (1 : Int32), w_17, w_18, w_19, w_20, w_21, w_22))) := by
      unfold B_X7_run_56 F_X7_tryStep
      rw [if_neg (mt (nI_leI (a := c) (b := i) (by omega) (by omega)).mp (by omega)), p0, xb1, p2, xb1, p3, xb1, p4, xb1, e1, xb1]
    have i1 : nI (48 * r + 4 * i) + (1 : Int32) = nI (48 * r + 4 * i + 1) := nI_1 _
    have i2 : nI (48 * r + 4 * i) + (2 : Int32) = nI (48 * r + 4 * i + 2) := nI_add _ 2
    have i3 : nI (48 * r + 4 * i) + (3 : Int32) = nI (48 * r + 4 * i + 3) := nI_add _ 3
    have M : B_X8_goSteps_2 K (nI r) 0 (nI n) sc lg (nI i) w sx sy as ou A tk kp ka = bd1 (F_X8_whyNot K (nI s) (sc (48 * r + 4 * i + 1)) (sc (48 * r + 4 * i + 2)) (sc (48 * r + 4 * i + 3)) w (nI n)) (fun r_9 => if r_9 = (-1 : Int32) then bd8 (F_X8_doNow K (nI s) (sc (48 * r + 4 * i + 1)) (sc (48 * r + 4 * i + 2)) (sc (48 * r + 4 * i + 3)) w (nI n) sx sy as ou A tk) (fun r_16 w_17 w_18 w_19 w_20 w_21 w_22 w_23 => some (.inl (nI i + (1 : Int32), w_17, w_18, w_19, w_20, w_21, w_22, w_23, kp, ka))) else some (.inr (0, nI i, w, sx, sy, as, ou, A, tk, kp, ka))) := by
      unfold B_X8_goSteps_2
      rw [xixn (show r < 5 by omega) (by decide), nI_clamp (show r < 2 ^ 31 by omega), el, if_neg (mt (nI_leI (a := c) (b := i) (by omega) (by omega)).mp (by omega))]
      simp only [i_sc, i1, i2, i3, xixn (show 48 * r + 4 * i < 240 by omega) (by decide), xixn (show 48 * r + 4 * i + 1 < 240 by omega) (by decide), xixn (show 48 * r + 4 * i + 2 < 240 by omega) (by decide), xixn (show 48 * r + 4 * i + 3 < 240 by omega) (by decide), nI_clamp (show 48 * r + 4 * i < 2 ^ 31 by omega), nI_clamp (show 48 * r + 4 * i + 1 < 2 ^ 31 by omega), nI_clamp (show 48 * r + 4 * i + 2 < 2 ^ 31 by omega), nI_clamp (show 48 * r + 4 * i + 3 < 2 ^ 31 by omega), p1, xb1, if_pos]
    rw [e2, xb1] at M
    by_cases cv : v = -1
    · obtain ⟨m, vv, ac1, oc1, as1, ou1, f1, g1, P1, A1, sh1, lo1, sx1, sy1, d1, d2, R, I1, g67, fr1, hm, -⟩ := da_both (P := P) (A := A) (sh := sh) (lo := lo) (sx := sx) (sy := sy) (ac := ac) (oc := oc) (as := as) (ou := ou) (tk := tk) rfl s6 hK h hI (e4 cv)
      have f11 : f1 11 = g1 67 := by
        obtain ⟨p, ep, hp⟩ := e_doAct (p1 := nI s) (p2 := sc (48 * r + 4 * i + 1)) (p3 := sc (48 * r + 4 * i + 2)) (p4 := sc (48 * r + 4 * i + 3)) (ac := ac) (oc := oc) (f := q) (pa := P) (sh := sh) (lo := lo) hK ⟨n, n8, h.sz⟩
        rw [d1] at ep
        rw [← Option.some.inj ep] at hp
        rw [g67, ← q11]
        exact hp.2.2
      rw [if_pos cv, d1, xb7, xb7, if_neg n10, nI_1] at C
      rw [if_pos cv, d2, xb8, nI_1] at M
      exact Or.inl ⟨hic, _, _, C, M, _, _, _, _, _, f1, g1, _, _, _, _, _, _, rfl, rfl, R, I1, f11, fun k hk => (fr1 k hk).trans (fr k hk), by omega⟩
    · rw [if_neg cv, xb7, if_pos rfl] at C
      rw [if_neg cv] at M
      exact Or.inr ⟨_, _, C, M, i, Or.inl ⟨rfl, hic⟩, ac, oc, as, ou, tk, q, w, P, A, sh, lo, sx, sy, rfl, rfl, h, hI, q11, fr, hi⟩
/-- what a script would cost -/
theorem p_run {n k K : Nat} {f g tr P A sh lo sx sy kp asd st co sc lg : Nat → Int32} {x y ac oc as ou tk ka : Int32} (hK : 200000 ≤ K) (hk : k ≤ 4) (hS : SR k st co sc lg) (hkd : KdS k st co) (h : RowR n f g) (hI : RowI n g) (h11 : f 11 = g 67) : ∃ (v ac' oc' as' ou' tk' : Int32) (tr' P' A' sh' lo' sx' sy' asd' : Nat → Int32), F_X7_run K x y st co (nI k) f tr P ac oc sh lo = some (v, tr', P', ac', oc', sh', lo') ∧ F_X8_run K x y sc lg (nI k) g (nI n) sx sy as ou A tk kp ka asd = some (v, g, sx', sy', as', ou', A', tk', kp, ka, asd') := by
  have n8 := h.n8
  obtain ⟨s1, s2⟩ := sd_both n8 h.sz
  have eS : F_X8_isScript x (nI k) = some (if 0 ≤ x ∧ x ≤ nI k - 1 then 1 else 0) := by
    unfold F_X8_isScript
    rw [show (0 : Int64) = (0 : Int32).toInt64 from rfl, m_inI, xb1]
  unfold F_X7_run F_X8_run
  by_cases c : 0 ≤ x ∧ x ≤ nI k - 1
  · obtain ⟨r, hr', rfl⟩ := in_lt (by omega) c
    obtain ⟨l, l1, l2, l3, l4, l5⟩ := hS r hr'
    rw [eS, if_pos c, xb1, if_neg n10, c_has4 hk hr', xb1, if_neg n10, s1, s2, xb1, xb1]
    by_cases z : n = 0
    · rw [if_pos z, if_pos rfl, if_pos rfl]
      exact ⟨_, _, _, _, _, _, _, _, _, _, _, _, _, _, rfl, rfl⟩
    · rw [if_neg z, if_neg n10, if_neg n10, m_in0 (m := 1) (by decide), xb1, ite10, rng_d]
      by_cases d : 0 ≤ y ∧ y ≤ nI 1
      · obtain ⟨b, hb, rfl⟩ := in_nat (n := 1) (by decide) d
        have h2 : RowR n (va_cpy f tr 0 0 81) g := h.cg (fun k hk => by rw [gcpy_at hk, Nat.zero_add]) (fun k hk => rfl)
        have t11 : (va_cpy f tr 0 0 81) 11 = g 67 := by rw [gcpy_at (by decide), Nat.zero_add, h11]
        have hz : RnR n l g kp ka 0 ((0 : Int32), va_cpy f tr 0 0 81, P, ac, oc, sh, lo) ((0 : Int32), g, sx, sy, as, ou, A, tk, kp, ka) := ⟨_, _, _, _, _, _, g, _, _, _, _, _, _, rfl, rfl, h2, hI, t11, fun _ _ => rfl, by omega⟩
        obtain ⟨u, t, x1, x2, i, y2, ac1, oc1, as1, ou1, tk1, q1, w1, P1, A1, sh1, lo1, sx1, sy1, y3, y4, R, I1, q11, fr, y7⟩ := lp_two (b := fun u9 : Int32 × (Nat → Int32) × (Nat → Int32) × Int32 × Int32 × (Nat → Int32) × (Nat → Int32) => B_X7_run_56 K (nI r) (nI k) st co (nI l) u9.1 u9.2.1 u9.2.2.1 u9.2.2.2.1 u9.2.2.2.2.1 u9.2.2.2.2.2.1 u9.2.2.2.2.2.2) (d := fun u9 : Int32 × (Nat → Int32) × (Nat → Int32) × (Nat → Int32) × Int32 × Int32 × (Nat → Int32) × Int32 × (Nat → Int32) × Int32 => B_X8_goSteps_2 K (nI r) 0 (nI n) sc lg u9.1 u9.2.1 u9.2.2.1 u9.2.2.2.1 u9.2.2.2.2.1 u9.2.2.2.2.2.1 u9.2.2.2.2.2.2.1 u9.2.2.2.2.2.2.2.1 u9.2.2.2.2.2.2.2.2.1 u9.2.2.2.2.2.2.2.2.2) (RnR n l g kp ka) (RnQ n l g kp ka) (n := l) (K := K) (K' := K) (by omega) (by omega) (fun i s t hi q => (RnR.step hK hk hr' hS hkd l3 l4 l2 q).imp (fun w => w.2) id) (fun s t q => (RnR.step hK hk hr' hS hkd l3 l4 l2 q).elim (fun w => absurd w.1 (Nat.lt_irrefl _)) id) hz
        obtain ⟨t1, t2⟩ := t
        have y4 : t2 = _ := y4
        subst y3 y4
        have y2 : (t1 = 0 ∧ i < l) ∨ (t1 = 1 ∧ i = l) := y2
        unfold F_X8_goSteps
        rw [if_pos (show 0 ≤ nI b ∧ nI b ≤ (1 : Int32) from d), if_pos d, c_cpF, xb1, c_stepsOf hk hr' l3, xb1, x1, m_aside hK, xb1, x2, xb7, xb11]
        have G : (if t1 = 0 then some (nI i, w1, sx1, sy1, as1, ou1, A1, tk1, kp, ka) else if t1 = 1 then ixF (nI r) 5 (some (lg (nI r).toNatClampNeg, w1, sx1, sy1, as1, ou1, A1, tk1, kp, ka)) else none) = some (nI i, w1, sx1, sy1, as1, ou1, A1, tk1, kp, ka) := by
          rcases y2 with ⟨w1, w2⟩ | ⟨w1, w2⟩
          · rw [w1, if_pos rfl]
          · rw [w1, if_neg (by decide), if_pos rfl, xixn (by omega) (by decide), nI_clamp (by omega), l4, w2]
        rw [G, xb10, m_bring hK fr, xb1, aside_at (by decide), xixn (by omega) (by decide), nI_clamp (by omega), l4]
        unfold J_X7_run_78
        rw [q11, h11]
        rcases (show b = 0 ∨ b = 1 by omega) with rfl | rfl
        · rw [if_neg (show ¬ nI 0 = (1 : Int32) by decide), if_neg (show ¬ nI 0 = (1 : Int32) by decide)]
          by_cases e : i = l
          · rw [if_pos ((nI_leI (a := l) (b := i) (by omega) (by omega)).mpr (by omega)), if_pos (show nI i = nI l by rw [e])]
            exact ⟨_, _, _, _, _, _, _, _, _, _, _, _, _, _, rfl, rfl⟩
          · rw [if_neg (mt (nI_leI (a := l) (b := i) (by omega) (by omega)).mp (by omega)), if_neg (show ¬ nI i = nI l from fun q => e ((nI_eq (a := i) (b := l) (by omega) (by omega)).mp q))]
            exact ⟨_, _, _, _, _, _, _, _, _, _, _, _, _, _, rfl, rfl⟩
        · rw [if_pos (by decide), if_pos (by decide)]
          exact ⟨_, _, _, _, _, _, _, _, _, _, _, _, _, _, rfl, rfl⟩
      · rw [if_neg (show ¬ (0 ≤ y ∧ y ≤ (1 : Int32)) from d), if_neg d]
        exact ⟨_, _, _, _, _, _, _, _, _, _, _, _, _, _, rfl, rfl⟩
  · have c7 : F_X4_has x (nI k) = some 0 := by
      unfold F_X4_has
      by_cases b1 : x < 0
      · rw [if_pos b1]
      · rw [if_neg b1, if_pos]
        refine Decidable.byContradiction (fun b2 => ?_)
        obtain ⟨w, hw, rfl⟩ := nnI (n := k) (by omega) b1 b2
        apply c
        rw [show nI k - (1 : Int32) = nI (k - 1) from xsub (b := 1) (by omega)]
        exact ⟨nI_nn (by omega), (nI_leI (a := w) (b := k - 1) (by omega) (by omega)).mpr (by omega)⟩
    rw [eS, if_neg c, xb1, if_pos rfl, c7, xb1, if_pos rfl]
    exact ⟨_, _, _, _, _, _, _, _, _, _, _, _, _, _, rfl, rfl⟩
end
-- 83c.32
section
/-! Stage B, 32: races and goals leave the reference's row as it was -/
/-- if it ends, then so -/
def Pc {α : Type} (x : Option α) (Q : α → Prop) : Prop := ∀ r, x = some r → Q r
def NxP {σ ρ : Type} (I : σ → Prop) (Q : ρ → Prop) : σ ⊕ ρ → Prop
  | .inl s => I s
  | .inr r => Q r
theorem pc_some {α : Type} {r : α} {Q : α → Prop} (h : Q r) : Pc (some r) Q := fun _ e => by cases e; exact h
theorem pc_ite {α : Type} {c : Prop} {d : Decidable c} {a b : Option α} {Q : α → Prop} (h1 : c → Pc a Q) (h2 : ¬ c → Pc b Q) : Pc (@ite (Option α) c d a b) Q := by
  by_cases q : c
  · rw [if_pos q]; exact h1 q
  · rw [if_neg q]; exact h2 q
theorem pc_nm {α β : Type} {x : α} {g : α → Option β} {Q : β → Prop} (h : Pc (g x) Q) : Pc (nmF x g) Q := h
theorem pc_ix {α : Type} {i : Int32} {n : Nat} {g : Option α} {Q : α → Prop} (h : Pc g Q) : Pc (ixF i n g) Q := fun r e => h r (ix_s e).2
theorem pc_nz {α : Type} {d : Int32} {g : Option α} {Q : α → Prop} (h : Pc g Q) : Pc (nzI d g) Q := fun r e => h r (nzI_s e).2
theorem pc_bd1 {t0 β : Type} {x : Option t0} {f : t0 → Option β} {P : t0 → Prop} {Q : β → Prop} (h1 : Pc x P) (h2 : ∀ a, P a → Pc (f a) Q) : Pc (bd1 x f) Q := fun r e => by
  obtain ⟨y0, q1, q2⟩ := bd1_s e
  exact h2 y0 (h1 _ q1) r q2
theorem pc_bd2 {t0 t1 β : Type} {x : Option (t0 × t1)} {f : t0 → t1 → Option β} {P : t0 × t1 → Prop} {Q : β → Prop} (h1 : Pc x P) (h2 : ∀ a b, P (a, b) → Pc (f a b) Q) : Pc (bd2 x f) Q := fun r e => by
  obtain ⟨y0, y1, q1, q2⟩ := bd2_s e
  exact h2 y0 y1 (h1 _ q1) r q2
theorem pc_bd3 {t0 t1 t2 β : Type} {x : Option (t0 × t1 × t2)} {f : t0 → t1 → t2 → Option β} {P : t0 × t1 × t2 → Prop} {Q : β → Prop} (h1 : Pc x P) (h2 : ∀ a b c, P (a, b, c) → Pc (f a b c) Q) : Pc (bd3 x f) Q := fun r e => by
  obtain ⟨y0, y1, y2, q1, q2⟩ := bd3_s e
  exact h2 y0 y1 y2 (h1 _ q1) r q2
theorem pc_bd4 {t0 t1 t2 t3 β : Type} {x : Option (t0 × t1 × t2 × t3)} {f : t0 → t1 → t2 → t3 → Option β} {P : t0 × t1 × t2 × t3 → Prop} {Q : β → Prop} (h1 : Pc x P) (h2 : ∀ a b c d, P (a, b, c, d) → Pc (f a b c d) Q) : Pc (bd4 x f) Q := fun r e => by
  obtain ⟨y0, y1, y2, y3, q1, q2⟩ := bd4_s e
  exact h2 y0 y1 y2 y3 (h1 _ q1) r q2
theorem pc_T {α : Type} {x : Option α} : Pc x (fun _ => True) := fun _ _ => trivial
theorem pc_lp {σ ρ : Type} {b : σ → Option (σ ⊕ ρ)} (I : σ → Prop) (Q : ρ → Prop) (h : ∀ s, I s → Pc (b s) (NxP I Q)) : ∀ (K : Nat) (s : σ), I s → Pc (lpF b K s) Q := by
  intro K
  induction K with
  | zero => intro s _ r e; cases e
  | succ K ih =>
    intro s hs r e
    cases q : b s with
    | none =>
      have e2 : (match b s with | none => none | some (.inl u') => lpF b K u' | some (.inr r) => some r) = some r := e
      rw [q] at e2
      cases e2
    | some x =>
      cases x with
      | inl s' =>
        rw [lp_one q] at e
        exact ih s' (h s hs _ q) r e
      | inr r' =>
        rw [lp_end q] at e
        cases e
        exact h s hs _ q
/-- the log is as it was -/
def F84 (w g : Nat → Int32) : Prop := ∀ k, 84 ≤ k → w k = g k
theorem F84.up {w g : Nat → Int32} {i : Nat} {v : Int32} (h : F84 w g) (hi : i < 84) : F84 (upd w i v) g := fun k hk => (upd_ne (by omega)).trans (h k hk)
theorem pc_ends {n K : Nat} {w g : Nat → Int32} (n8 : n ≤ 8) (h : F84 w g) : Pc (F_X8_endsRound K w (nI n)) (fun x => F84 x g) := by
  unfold F_X8_endsRound
  refine pc_bd1 pc_T (fun r _ => pc_nm (pc_bd1 (P := fun x => F84 x g) (pc_lp (fun u : Int32 × (Nat → Int32) => (∃ j, j ≤ 8 ∧ u.1 = nI j) ∧ F84 u.2 g) _ (fun u hu => ?_) K _ ⟨⟨0, by omega, rfl⟩, h.up (by decide)⟩) (fun x hx => pc_nm (pc_nm (pc_some ?_)))))
  · obtain ⟨⟨j, hj, e⟩, hF⟩ := hu
    unfold B_X8_endsRound_15
    rw [e]
    refine pc_ite (fun _ => pc_some hF) (fun q => pc_ix (pc_nm (pc_some ⟨⟨j + 1, ?_, nI_1 j⟩, ?_⟩)))
    · have := mt (nI_leI (a := n) (b := j) (by omega) (by omega)).mpr q
      omega
    · have jl := mt (nI_leI (a := n) (b := j) (by omega) (by omega)).mpr q
      rw [bm_cl (a := 56) (by rfl) (by omega)]
      exact hF.up (by omega)
  · have hx : F84 x g := hx
    exact (hx.up (by decide)).up (by decide)
theorem pc_adds {n i K : Nat} {w g : Nat → Int32} {p : Int32} (n8 : n ≤ 8) (hi : i < 8) (h : F84 w g) : Pc (F_X8_addsNow K (nI i) p w (nI n)) (fun x => F84 x.2 g) := by
  unfold F_X8_addsNow
  rw [bm_cl (a := 48) (by rfl) (by omega), bm_cl (a := 56) (by rfl) (by omega)]
  refine pc_ix (pc_ix (pc_nm (pc_bd1 pc_T (fun r _ => pc_ite (fun _ => pc_nm (pc_some ((h.up (by omega)).up (by decide)))) (fun _ => pc_ix (pc_ix (pc_nm (pc_bd2 (P := fun x : Int32 × (Nat → Int32) => F84 x.2 g) (pc_lp (fun u : Int32 × (Nat → Int32) => F84 u.2 g) _ (fun u hu => ?_) K _ ((h.up (by omega)).up (by omega))) (fun a b hb => pc_some hb)))))))))
  unfold B_X8_addsNow_48
  rw [bm_cl (a := 56) (by rfl) (by omega)]
  refine pc_bd1 pc_T (fun r _ => pc_ite (fun _ => pc_some hu) (fun _ => pc_ix (pc_bd1 pc_T (fun r2 _ => pc_ite (fun _ => pc_some hu) (fun _ => pc_ix (pc_bd1 pc_T (fun r3 _ => pc_ix (pc_nm (pc_nm (pc_ite (fun _ => pc_bd1 (pc_ends n8 ((hu.up (by omega)).up (by decide))) (fun x hx => pc_some hx)) (fun _ => pc_some ((hu.up (by omega)).up (by decide))))))))))))) 
theorem pc_goes {n K : Nat} {g asd : Nat → Int32} {x y : Int32} (hK : 200000 ≤ K) (n8 : n ≤ 8) : Pc (F_X8_goes K x y g (nI n) asd) (fun r => r.2.1 = g) := by
  unfold F_X8_goes
  rw [gm_site, xb1, ite10]
  refine pc_ite (fun c => ?_) (fun _ => pc_some rfl)
  obtain ⟨i, hi, rfl⟩ := in_lt (by omega) c
  refine pc_bd1 pc_T (fun r _ => pc_ite (fun _ => pc_some rfl) (fun _ => pc_bd1 pc_T (fun r2 _ => pc_ite (fun _ => ?_) (fun _ => pc_some rfl))))
  rw [m_aside hK, xb1]
  refine pc_bd3 (P := fun u : Int32 × Int32 × (Nat → Int32) => F84 u.2.2 g) (pc_lp (fun u : Int32 × Int32 × (Nat → Int32) => F84 u.2.2 g) _ (fun u hu => ?_) K _ (fun _ _ => rfl)) (fun a b w hw => ?_)
  · unfold B_X8_goes_36
    exact pc_bd1 pc_T (fun r _ => pc_ite (fun _ => pc_bd2 (pc_adds n8 (by omega) hu) (fun a b hb => pc_some hb)) (fun _ => pc_some hu))
  · have hw : F84 w g := hw
    rw [m_bring hK hw, xb1]
    exact pc_ite (fun _ => pc_some rfl) (fun _ => pc_some rfl)
theorem pc_race {n K : Nat} {g asd : Nat → Int32} {x y z rc rd : Int32} (hK : 200000 ≤ K) (n8 : n ≤ 8) : Pc (F_X8_race K x y z g (nI n) asd rc rd) (fun r => r.2.1 = g) := by
  unfold F_X8_race F_X8_isWatch
  by_cases c : nI n ≤ (0 : Int32)
  · rw [if_pos c, xb1, if_pos rfl]
    exact pc_some rfl
  · have h0 : 0 < n := by
      refine Nat.pos_of_ne_zero (fun e => c ?_)
      rw [e]
      decide
    rw [if_neg c, xb1, if_neg n10]
    refine pc_bd1 pc_T (fun r _ => pc_ite (fun _ => pc_some rfl) (fun _ => pc_bd1 pc_T (fun r2 _ => pc_ite (fun _ => pc_some rfl) (fun _ => ?_))))
    refine pc_bd4 (P := fun u : (Nat → Int32) × (Nat → Int32) × Int32 × Int32 => u.1 = g) ?_ (fun a b c d hw => ?_)
    · unfold F_X8_laysRace
      rw [m_aside hK, xb1]
      refine pc_bd3 (P := fun u : Int32 × (Nat → Int32) × Int32 => F84 u.2.1 g) (pc_lp (fun u : Int32 × Int32 × Int32 × (Nat → Int32) × Int32 => (∃ m, m ≤ 1600 ∧ u.2.2.1 = nI m) ∧ F84 u.2.2.2.1 g) _ (fun u hu => ?_) K _ ⟨⟨0, by omega, rfl⟩, fun _ _ => rfl⟩) (fun a w b hw => ?_)
      · obtain ⟨⟨m, hm, e⟩, hF⟩ := hu
        unfold B_X8_laysRace_22
        rw [e, nI_mod (by omega) (by omega)]
        have e2 : (200 : Int32) * nI n = nI (200 * n) := by rw [show (200 : Int32) = nI 200 from rfl, nI_mul]
        rw [e2]
        refine pc_ite (fun _ => pc_some hF) (fun q => pc_ite (fun _ => pc_some hF) (fun _ => pc_nz (pc_bd1 pc_T (fun r _ => ?_))))
        have ml := mt (nI_leI (a := 200 * n) (b := m) (by omega) (by omega)).mpr q
        have hmod : m % n < n := Nat.mod_lt _ h0
        have nx : (∃ k, k ≤ 1600 ∧ nI m + 1 = nI k) := ⟨m + 1, by omega, nI_1 m⟩
        refine pc_ite (fun _ => pc_ix (pc_ix (pc_nm (pc_ix (pc_ix (pc_nm (pc_bd1 pc_T (fun r2 _ => ?_)))))))) (fun _ => pc_some ⟨nx, hF⟩)
        rw [bm_cl (a := 0) (by rfl) (show 0 + m % n < 265 by omega), bm_cl (a := 8) (by rfl) (show 8 + m % n < 265 by omega)]
        have hF2 : F84 (upd (upd u.2.2.2.1 (0 + m % n) (u.2.2.2.1 (0 + m % n) + x)) (8 + m % n) (upd u.2.2.2.1 (0 + m % n) (u.2.2.2.1 (0 + m % n) + x) (8 + m % n) + y)) g := (hF.up (by omega)).up (by omega)
        have J : ∀ (k0 x4 x6 c9 : Int32) (w : Nat → Int32), F84 w g → Pc (J_X8_laysRace_110_r23 k0 x4 (nI m) x6 w c9) (NxP (fun u : Int32 × Int32 × Int32 × (Nat → Int32) × Int32 => (∃ m, m ≤ 1600 ∧ u.2.2.1 = nI m) ∧ F84 u.2.2.2.1 g) (fun u : Int32 × (Nat → Int32) × Int32 => F84 u.2.1 g)) := by
          intro k0 x4 x6 c9 w hw
          unfold J_X8_laysRace_110_r23
          exact pc_bd1 pc_T (fun r _ => pc_ite (fun _ => pc_some ⟨nx, hw⟩) (fun _ => pc_ite (fun _ => pc_some ⟨nx, hw⟩) (fun _ => pc_some ⟨nx, hw⟩)))
        unfold J_X8_laysRace_109_r23
        exact pc_ite (fun _ => J _ _ _ _ _ hF2) (fun _ => pc_bd1 pc_T (fun r3 _ => pc_ite (fun _ => J _ _ _ _ _ hF2) (fun _ => J _ _ _ _ _ hF2)))
      · have hw : F84 w g := hw
        unfold J_X8_laysRace_143
        rw [m_bring hK hw, xb1, xb1]
        exact pc_ite (fun _ => pc_some rfl) (fun _ => pc_some rfl)
    · have hw : a = g := hw
      exact pc_ite (fun _ => pc_some hw) (fun _ => pc_some hw)
end
-- 83c.33
section
/-! Stage B, 33: races, in both -/
/-- the row in turn t + 1, where the first j have moved -/
def RcW (n t j : Nat) (x y : Int32) (g w : Nat → Int32) : Prop := (∀ k, 16 ≤ k → w k = g k) ∧ ∀ i, i < n → (g (76 + i) = 1 → w (0 + i) = g (0 + i) ∧ w (8 + i) = g (8 + i)) ∧ (¬ g (76 + i) = 1 → w (0 + i) = g (0 + i) + nI (if i < j then t + 1 else t) * x ∧ w (8 + i) = g (8 + i) + nI (if i < j then t + 1 else t) * y)
theorem RcW.nxt {n t : Nat} {x y : Int32} {g w : Nat → Int32} (h : RcW n t n x y g w) : RcW n (t + 1) 0 x y g w := by
  refine ⟨h.1, fun i hi => ⟨(h.2 i hi).1, fun c => ?_⟩⟩
  have := (h.2 i hi).2 c
  rw [if_pos hi] at this
  rw [if_neg (Nat.not_lt_zero _)]
  exact this
theorem RcW.frz {n t j : Nat} {x y : Int32} {g w : Nat → Int32} (h : RcW n t j x y g w) (c : g (76 + j) = 1) : RcW n t (j + 1) x y g w := by
  refine ⟨h.1, fun i hi => ⟨(h.2 i hi).1, fun d => ?_⟩⟩
  have ne : ¬ i = j := fun e => d (by rw [e]; exact c)
  have := (h.2 i hi).2 d
  by_cases q : i < j
  · rw [if_pos q] at this
    rw [if_pos (by omega)]
    exact this
  · rw [if_neg q] at this
    rw [if_neg (by omega)]
    exact this
theorem RcW.mv {n t j : Nat} {x y : Int32} {g w : Nat → Int32} (n8 : n ≤ 8) (hj : j < n) (h : RcW n t j x y g w) (c : ¬ g (76 + j) = 1) : RcW n t (j + 1) x y g (mvG j x y w) ∧ mvG j x y w (0 + j) = g (0 + j) + nI (t + 1) * x ∧ mvG j x y w (8 + j) = g (8 + j) + nI (t + 1) * y := by
  have q := (h.2 j hj).2 c
  rw [if_neg (Nat.lt_irrefl _)] at q
  have e0 : mvG j x y w (0 + j) = g (0 + j) + nI (t + 1) * x := by
    unfold mvG
    rw [upd_ne (by omega), upd_at, q.1, ml_st]
  have e8 : mvG j x y w (8 + j) = g (8 + j) + nI (t + 1) * y := by
    unfold mvG
    rw [upd_at, upd_ne (by omega), q.2, ml_st]
  have eo : ∀ k, ¬ k = 0 + j → ¬ k = 8 + j → mvG j x y w k = w k := fun k a b => by
    unfold mvG
    rw [upd_ne b, upd_ne a]
  refine ⟨⟨fun k hk => (eo k (by omega) (by omega)).trans (h.1 k hk), fun i hi => ?_⟩, e0, e8⟩
  by_cases e : i = j
  · rw [e, if_pos (Nat.lt_succ_self _)]
    exact ⟨fun d => absurd d c, fun _ => ⟨e0, e8⟩⟩
  · rw [eo (0 + i) (by omega) (by omega), eo (8 + i) (by omega) (by omega)]
    have r := h.2 i hi
    by_cases q : i < j
    · rw [if_pos q] at r
      rw [if_pos (by omega)]
      exact r
    · rw [if_neg q] at r
      rw [if_neg (by omega)]
      exact r
/-- the reference's body -/
abbrev rcD (K n : Nat) (x y : Int32) : Int32 × Int32 × Int32 × (Nat → Int32) × Int32 → Option ((Int32 × Int32 × Int32 × (Nat → Int32) × Int32) ⊕ (Int32 × (Nat → Int32) × Int32)) := fun u9 => B_X8_laysRace_22 K x y (nI n) u9.1 u9.2.1 u9.2.2.1 u9.2.2.2.1 u9.2.2.2.2
theorem m_rcB {n t j K mv : Nat} {f g w : Nat → Int32} {x y : Int32} (hK : 200000 ≤ K) (h : RowR n f g) (hg : RowG g) (hj : j < n) (ht : t < 200) (q : RcW n t j x y g w) : B_X8_laysRace_22 K x y (nI n) 1 (nI mv) (nI (t * n + j)) w (-1) = if g (76 + j) = 1 then some (.inl (1, nI mv, nI (t * n + j + 1), w, -1)) else some (.inl (if inR (g (0 + j) + nI (t + 1) * x) ∧ inR (g (8 + j) + nI (t + 1) * y) then (if qvl f (cdr f j 0 + nI (t + 1) * x) (cdr f j 1 + nI (t + 1) * y) = 0 then (0, nI (mv + 1), nI (t * n + j + 1), mvG j x y w, nI j) else (1, nI (mv + 1), nI (t * n + j + 1), mvG j x y w, -1)) else (0, nI (mv + 1), nI (t * n + j + 1), mvG j x y w, -1))) := by
  have n8 := h.n8
  have tn : t * n ≤ 199 * n := Nat.mul_le_mul_right n (by omega)
  have tn2 : t * n ≤ 199 * 8 := Nat.le_trans tn (Nat.mul_le_mul_left 199 n8)
  have e2 : (200 : Int32) * nI n = nI (200 * n) := by rw [show (200 : Int32) = nI 200 from rfl, nI_mul]
  have md : (t * n + j) % n = j := by rw [Nat.mul_add_mod', Nat.mod_eq_of_lt hj]
  have ix : nI (t * n + j) - nI (t * n + j) / nI n * nI n = nI j := by rw [nI_mod (by omega) (by omega), md]
  have nz : ¬ nI n = (0 : Int32) := nI_ne0 (by omega) (by omega)
  have w76 : w (76 + j) = g (76 + j) := q.1 _ (by omega)
  unfold B_X8_laysRace_22
  rw [e2, if_neg (mt (nI_leI (a := 200 * n) (b := t * n + j) (by omega) (by omega)).mp (by omega)), if_neg n10, xnz nz, ix, fz_m (by omega), xb1, ite10, w76, nI_1]
  by_cases c : g (76 + j) = 1
  · rw [if_pos c, if_pos c]
  · rw [if_neg c, if_neg c]
    obtain ⟨q2, m0, m8⟩ := q.mv n8 hj c
    simp only [bm_ix (A := (0 : Int32)) (a := 0) rfl (show 0 + j < 265 by omega), bm_ix (A := (8 : Int32)) (a := 8) rfl (show 8 + j < 265 by omega), bm_cl (A := (0 : Int32)) (a := 0) rfl (show 0 + j < 265 by omega), bm_cl (A := (8 : Int32)) (a := 8) rfl (show 8 + j < 265 by omega), xnm]
    show bd1 (F_X8_canStand (nI j) (mvG j x y w)) (fun r_16 => if r_16 = (0 : Int32) then J_X8_laysRace_109_r23 (nI mv + (1 : Int32)) (nI (t * n + j)) (nI j) (mvG j x y w) (-1) else bd1 (F_X8_isQuiet K (nI j) (mvG j x y w) (nI n)) (fun r_25 => if r_25 = (0 : Int32) then J_X8_laysRace_109_r23 (nI mv + (1 : Int32)) (nI (t * n + j)) (nI j) (mvG j x y w) (-1) else J_X8_laysRace_110_r23 (1 : Int32) (nI mv + (1 : Int32)) (nI (t * n + j)) (nI j) (mvG j x y w) (-1))) = _
    unfold J_X8_laysRace_109_r23 J_X8_laysRace_110_r23
    rw [m_stand (by omega), xb1, ite10, m0, m8, iq_sh hK h hg hj q2.1 m0 m8, xb1, nI_1, nI_1]
    simp only [xb1, ite10]
    by_cases d : inR (g (0 + j) + nI (t + 1) * x) ∧ inR (g (8 + j) + nI (t + 1) * y)
    · simp only [if_pos d]
      by_cases e : qvl f (cdr f j 0 + nI (t + 1) * x) (cdr f j 1 + nI (t + 1) * y) = 0
      · rw [if_pos e, if_pos e, if_pos trivial]
      · rw [if_neg e, if_neg e, if_neg n10]
    · simp only [if_neg d]
theorem c_rcB {n t j mv : Nat} {f g : Nat → Int32} {x y : Int32} (h : RowR n f g) (hI : RowI n g) (hj : j < n) (ht : t < 200) (hx : in9 x) (hy : in9 y) : B_X7_race_46 x y f (nI (t + 1)) (nI mv) (nI j) = if g (76 + j) = 1 then some (.inl (nI mv, nI (j + 1))) else if inR (g (0 + j) + nI (t + 1) * x) ∧ inR (g (8 + j) + nI (t + 1) * y) then (if qvl f (cdr f j 0 + nI (t + 1) * x) (cdr f j 1 + nI (t + 1) * y) = 0 then some (.inr (1, nI (mv + 1), nI j)) else some (.inl (nI (mv + 1), nI (j + 1)))) else some (.inr (0, nI mv, nI j)) := by
  have n8 := h.n8
  have hX := (hI.2 (by omega)).1 j hj
  obtain ⟨-, r1, r2⟩ := ml_rng (m := t + 1) (by omega) hx
  obtain ⟨-, r3, r4⟩ := ml_rng (m := t + 1) (by omega) hy
  have k1 := inR_add hX.1 ⟨r1, r2⟩
  have k2 := inR_add hX.2 ⟨r3, r4⟩
  have l3 := inR_int hX.1
  have l4 := inR_int hX.2
  unfold B_X7_race_46 F_X5_sites
  rw [xb1, h.sz, if_neg (mt (nI_leI (a := n) (b := j) (by omega) (by omega)).mp (by omega)), fz_c h.1 hj, xb1, ite10, c_room h hj (by omega) (by omega), xb1, ite10, c_qw n8 hj, xb1, nI_1, nI_1]
/-- how a race ends: nobody, or one with so many moves -/
def RcE (g : Nat → Int32) (tg : Nat) (a b : Int32) (u : Int32 × (Nat → Int32) × Int32) : Prop := (∀ k, 84 ≤ k → u.2.1 k = g k) ∧ ((tg = 0 ∧ u.2.2 = -1) ∨ (tg = 1 ∧ u.2.2 = b ∧ u.1 = a ∧ ¬ b = -1))
theorem rc_in {n t K : Nat} {f g : Nat → Int32} {x y : Int32} (hK : 200000 ≤ K) (h : RowR n f g) (hI : RowI n g) (ht : t < 200) (hx : in9 x) (hy : in9 y) : ∀ (k j mv : Nat) (w : Nat → Int32), j + k = n → RcW n t j x y g w → (∃ mv' w', (∀ J, k < J → lpF (fun u9 : Int32 × Int32 => B_X7_race_46 x y f (nI (t + 1)) u9.1 u9.2) J (nI mv, nI j) = some (2, nI mv', nI n)) ∧ (∀ J, lpF (rcD K n x y) (k + J) (1, nI mv, nI (t * n + j), w, -1) = lpF (rcD K n x y) J (1, nI mv', nI (t * n + n), w', -1)) ∧ RcW n t n x y g w') ∨ (∃ tg a b u, (∀ J, k < J → lpF (fun u9 : Int32 × Int32 => B_X7_race_46 x y f (nI (t + 1)) u9.1 u9.2) J (nI mv, nI j) = some (tg, a, b)) ∧ (∀ J, 2 ≤ J → lpF (rcD K n x y) (k + J) (1, nI mv, nI (t * n + j), w, -1) = some u) ∧ RcE g tg a b u) := by
  have n8 := h.n8
  intro k
  induction k with
  | zero =>
    intro j mv w hj q
    obtain rfl : n = j := by omega
    refine Or.inl ⟨mv, w, fun J hJ => ?_, fun J => by rw [Nat.zero_add], q⟩
    obtain ⟨J2, rfl⟩ : ∃ J2, J = J2 + 1 := ⟨J - 1, by omega⟩
    refine lp_end ?_
    show B_X7_race_46 x y f (nI (t + 1)) (nI mv) (nI n) = _
    unfold B_X7_race_46 F_X5_sites
    rw [xb1, h.sz, if_pos ((nI_leI (a := n) (b := n) (by omega) (by omega)).mpr (Nat.le_refl _))]
  | succ k ih =>
    intro j mv w hj q
    have jn : j < n := by omega
    have C := c_rcB (mv := mv) h hI jn ht hx hy
    have M := m_rcB (mv := mv) hK h hI.1 jn ht q
    have go : ∀ (mv1 : Nat) (w1 : Nat → Int32), B_X7_race_46 x y f (nI (t + 1)) (nI mv) (nI j) = some (.inl (nI mv1, nI (j + 1))) → B_X8_laysRace_22 K x y (nI n) 1 (nI mv) (nI (t * n + j)) w (-1) = some (.inl (1, nI mv1, nI (t * n + j + 1), w1, -1)) → RcW n t (j + 1) x y g w1 → (∃ mv' w', (∀ J, k + 1 < J → lpF (fun u9 : Int32 × Int32 => B_X7_race_46 x y f (nI (t + 1)) u9.1 u9.2) J (nI mv, nI j) = some (2, nI mv', nI n)) ∧ (∀ J, lpF (rcD K n x y) (k + 1 + J) (1, nI mv, nI (t * n + j), w, -1) = lpF (rcD K n x y) J (1, nI mv', nI (t * n + n), w', -1)) ∧ RcW n t n x y g w') ∨ (∃ tg a b u, (∀ J, k + 1 < J → lpF (fun u9 : Int32 × Int32 => B_X7_race_46 x y f (nI (t + 1)) u9.1 u9.2) J (nI mv, nI j) = some (tg, a, b)) ∧ (∀ J, 2 ≤ J → lpF (rcD K n x y) (k + 1 + J) (1, nI mv, nI (t * n + j), w, -1) = some u) ∧ RcE g tg a b u) := by
      intro mv1 w1 e1 e2 q1
      have s1 : ∀ J, k + 1 < J → lpF (fun u9 : Int32 × Int32 => B_X7_race_46 x y f (nI (t + 1)) u9.1 u9.2) J (nI mv, nI j) = lpF (fun u9 : Int32 × Int32 => B_X7_race_46 x y f (nI (t + 1)) u9.1 u9.2) (J - 1) (nI mv1, nI (j + 1)) := fun J hJ => by
        obtain ⟨J2, rfl⟩ : ∃ J2, J = J2 + 1 := ⟨J - 1, by omega⟩
        rw [lp_one (u' := (nI mv1, nI (j + 1))) e1]
        rfl
      have s2 : ∀ J, lpF (rcD K n x y) (k + 1 + J) (1, nI mv, nI (t * n + j), w, -1) = lpF (rcD K n x y) (k + J) (1, nI mv1, nI (t * n + (j + 1)), w1, -1) := fun J => by
        rw [show k + 1 + J = (k + J) + 1 by omega, lp_one (u' := (1, nI mv1, nI (t * n + j + 1), w1, -1)) e2, Nat.add_assoc]
      rcases ih (j + 1) mv1 w1 (by omega) q1 with ⟨mv', w', a1, a2, a3⟩ | ⟨tg, a, b, u, a1, a2, a3⟩
      · exact Or.inl ⟨mv', w', fun J hJ => (s1 J hJ).trans (a1 _ (by omega)), fun J => (s2 J).trans (a2 J), a3⟩
      · exact Or.inr ⟨tg, a, b, u, fun J hJ => (s1 J hJ).trans (a1 _ (by omega)), fun J hJ => (s2 J).trans (a2 J hJ), a3⟩
    have stop : ∀ (mv1 : Nat) (w1 : Nat → Int32) (rc : Int32) (tg : Nat) (a b : Int32), B_X7_race_46 x y f (nI (t + 1)) (nI mv) (nI j) = some (.inr (tg, a, b)) → B_X8_laysRace_22 K x y (nI n) 1 (nI mv) (nI (t * n + j)) w (-1) = some (.inl (0, nI mv1, nI (t * n + j + 1), w1, rc)) → RcE g tg a b (nI mv1, w1, rc) → (∃ tg a b u, (∀ J, k + 1 < J → lpF (fun u9 : Int32 × Int32 => B_X7_race_46 x y f (nI (t + 1)) u9.1 u9.2) J (nI mv, nI j) = some (tg, a, b)) ∧ (∀ J, 2 ≤ J → lpF (rcD K n x y) (k + 1 + J) (1, nI mv, nI (t * n + j), w, -1) = some u) ∧ RcE g tg a b u) := by
      intro mv1 w1 rc tg a b e1 e2 q1
      refine ⟨tg, a, b, (nI mv1, w1, rc), fun J hJ => ?_, fun J hJ => ?_, q1⟩
      · obtain ⟨J2, rfl⟩ : ∃ J2, J = J2 + 1 := ⟨J - 1, by omega⟩
        exact lp_end e1
      · obtain ⟨J2, hJ2⟩ : ∃ J2, k + 1 + J = J2 + 1 + 1 := ⟨k + J - 1, by omega⟩
        rw [hJ2, lp_one (u' := (0, nI mv1, nI (t * n + j + 1), w1, rc)) e2]
        refine lp_end ?_
        show B_X8_laysRace_22 K x y (nI n) 0 (nI mv1) (nI (t * n + j + 1)) w1 rc = _
        unfold B_X8_laysRace_22
        by_cases z : (200 : Int32) * nI n ≤ nI (t * n + j + 1)
        · rw [if_pos z]
        · rw [if_neg z, if_pos rfl]
    by_cases c : g (76 + j) = 1
    · rw [if_pos c] at C M
      exact go mv w C M (q.frz c)
    · rw [if_neg c] at C M
      obtain ⟨q2, m0, m8⟩ := q.mv n8 jn c
      by_cases d : inR (g (0 + j) + nI (t + 1) * x) ∧ inR (g (8 + j) + nI (t + 1) * y)
      · rw [if_pos d] at C M
        by_cases e : qvl f (cdr f j 0 + nI (t + 1) * x) (cdr f j 1 + nI (t + 1) * y) = 0
        · rw [if_pos e] at C M
          exact Or.inr (stop _ _ _ _ _ _ C M ⟨fun k hk => q2.1 k (by omega), Or.inr ⟨rfl, rfl, rfl, nI_ne_m1 (by omega)⟩⟩)
        · rw [if_neg e] at C M
          exact go (mv + 1) _ C M q2
      · rw [if_neg d] at C M
        exact Or.inr (stop _ _ _ _ _ _ C M ⟨fun k hk => q2.1 k (by omega), Or.inl ⟨rfl, rfl⟩⟩)
/-- how the whole race ends -/
def RcF (g : Nat → Int32) (r : Nat × Int32 × Int32) (u : Int32 × (Nat → Int32) × Int32) : Prop := (∀ k, 84 ≤ k → u.2.1 k = g k) ∧ (((r.1 = 0 ∨ r.1 = 2) ∧ u.2.2 = -1) ∨ (r.1 = 1 ∧ u.2.2 = r.2.2 ∧ u.1 = r.2.1 ∧ ¬ u.2.2 = -1))
theorem rc_out {n K : Nat} {f g : Nat → Int32} {x y : Int32} (hK : 200000 ≤ K) (h : RowR n f g) (hI : RowI n g) (h0 : 0 < n) (hx : in9 x) (hy : in9 y) : ∀ (k t mv : Nat) (w : Nat → Int32), t + k = 200 → RcW n t 0 x y g w → ∃ r u, (∀ J, k < J → lpF (fun u9 : Int32 × Int32 => B_X7_race_35 K x y f u9.1 u9.2) J (nI mv, nI (t + 1)) = some r) ∧ (∀ J, 2 ≤ J → lpF (rcD K n x y) (k * n + J) (1, nI mv, nI (t * n), w, -1) = some u) ∧ RcF g r u := by
  have n8 := h.n8
  intro k
  induction k with
  | zero =>
    intro t mv w ht q
    refine ⟨(2, nI mv, 0), (nI mv, w, -1), fun J hJ => ?_, fun J hJ => ?_, fun k hk => q.1 k (by omega), Or.inl ⟨Or.inr rfl, rfl⟩⟩
    · obtain ⟨J2, rfl⟩ : ∃ J2, J = J2 + 1 := ⟨J - 1, by omega⟩
      refine lp_end ?_
      show B_X7_race_35 K x y f (nI mv) (nI (t + 1)) = _
      unfold B_X7_race_35
      rw [if_pos (show (200 : Int32) < nI (t + 1) from (nI_ltI (a := 200) (b := t + 1) (by omega) (by omega)).mpr (by omega))]
    · obtain ⟨J2, hJ2⟩ : ∃ J2, 0 * n + J = J2 + 1 := ⟨J - 1, by omega⟩
      rw [hJ2]
      refine lp_end ?_
      show B_X8_laysRace_22 K x y (nI n) 1 (nI mv) (nI (t * n)) w (-1) = _
      unfold B_X8_laysRace_22
      rw [show (200 : Int32) * nI n = nI (200 * n) by rw [show (200 : Int32) = nI 200 from rfl, nI_mul], show t = 200 by omega, if_pos ((nI_leI (a := 200 * n) (b := 200 * n) (by omega) (by omega)).mpr (Nat.le_refl _))]
  | succ k ih =>
    intro t mv w ht q
    have kn : (k + 1) * n = n + k * n := by rw [Nat.add_mul, Nat.one_mul, Nat.add_comm]
    have c1 : ¬ (200 : Int32) < nI (t + 1) := mt (nI_ltI (a := 200) (b := t + 1) (by omega) (by omega)).mp (by omega)
    rcases rc_in hK h hI (show t < 200 by omega) hx hy n 0 mv w (by omega) q with ⟨mv', w', a1, a2, a3⟩ | ⟨tg, a, b, u, a1, a2, fr, a3⟩
    · obtain ⟨r, u, b1, b2, b3⟩ := ih (t + 1) mv' w' (by omega) a3.nxt
      refine ⟨r, u, fun J hJ => ?_, fun J hJ => ?_, b3⟩
      · obtain ⟨J2, rfl⟩ : ∃ J2, J = J2 + 1 := ⟨J - 1, by omega⟩
        rw [lp_one (u' := (nI mv', nI (t + 1 + 1))) (show (fun u9 : Int32 × Int32 => B_X7_race_35 K x y f u9.1 u9.2) (nI mv, nI (t + 1)) = _ by
          show B_X7_race_35 K x y f (nI mv) (nI (t + 1)) = _
          unfold B_X7_race_35
          rw [if_neg c1, show ((nI mv, (0 : Int32)) : Int32 × Int32) = (nI mv, nI 0) from rfl, a1 K (by omega), xb3, if_neg (by decide), if_neg (by decide), if_pos rfl, nI_1])]
        exact b1 J2 (by omega)
      · have z := a2 (k * n + J)
        rw [Nat.add_zero, show t * n + n = (t + 1) * n by rw [Nat.add_mul, Nat.one_mul]] at z
        rw [kn, Nat.add_assoc, z]
        exact b2 J hJ
    · have hz := a2 (k * n + 2) (by omega)
      refine ⟨(tg, (if tg = 0 then 0 else a), (if tg = 0 then 0 else b)), u, fun J hJ => ?_, fun J hJ => ?_, fr, ?_⟩
      · obtain ⟨J2, rfl⟩ : ∃ J2, J = J2 + 1 := ⟨J - 1, by omega⟩
        refine lp_end ?_
        show B_X7_race_35 K x y f (nI mv) (nI (t + 1)) = _
        unfold B_X7_race_35
        rw [if_neg c1, show ((nI mv, (0 : Int32)) : Int32 × Int32) = (nI mv, nI 0) from rfl, a1 K (by omega), xb3]
        rcases a3 with ⟨e, -⟩ | ⟨e, -⟩
        · rw [e, if_pos rfl, if_pos rfl, if_pos rfl]
        · rw [e, if_neg (by decide), if_pos rfl, if_neg (by decide), if_neg (by decide)]
      · have z := a2 (k * n + J) (by omega)
        rw [Nat.add_zero] at z
        rw [kn, Nat.add_assoc]
        exact z
      · rcases a3 with ⟨e, e2⟩ | ⟨e, e2, e3, e4⟩
        · exact Or.inl ⟨Or.inl e, e2⟩
        · refine Or.inr ⟨e, ?_, ?_, by rw [e2]; exact e4⟩
          · show u.2.2 = if tg = 0 then 0 else b
            rw [e, if_neg (by decide), e2]
          · show u.1 = if tg = 0 then 0 else a
            rw [e, if_neg (by decide), e3]
/-- a race -/
theorem p_race {n K : Nat} {f g asd : Nat → Int32} {x y z rc rd : Int32} (hK : 200000 ≤ K) (h : RowR n f g) (hI : RowI n g) : ∃ (v rc' rd' : Int32) (asd' : Nat → Int32), F_X7_race K x y z f = some v ∧ F_X8_race K x y z g (nI n) asd rc rd = some (v, g, asd', rc', rd') := by
  have n8 := h.n8
  obtain ⟨s1, s2⟩ := sd_both n8 h.sz
  unfold F_X7_race F_X8_race
  by_cases e : n = 0
  · rw [s1, s2, if_pos e, xb1, xb1, if_pos rfl, if_pos rfl]
    exact ⟨_, _, _, _, rfl, rfl⟩
  · rw [s1, s2, if_neg e, xb1, xb1, if_neg n10, if_neg n10, c_way, m_way, xb1, xb1, ite10, ite10, m_in0 (m := 1) (by decide), xb1, ite10, rng_d]
    by_cases a : (in9 x ∧ in9 y) ∧ ¬ (x = 0 ∧ y = 0)
    · rw [if_pos a, if_pos a]
      by_cases d : 0 ≤ z ∧ z ≤ nI 1
      · rw [if_pos (show 0 ≤ z ∧ z ≤ (1 : Int32) from d), if_pos d]
        have q0 : RcW n 0 0 x y g g := ⟨fun _ _ => rfl, fun i hi => ⟨fun _ => ⟨rfl, rfl⟩, fun _ => by rw [if_neg (Nat.not_lt_zero _), show nI 0 = (0 : Int32) from rfl, Int32.zero_mul, Int32.zero_mul, Int32.add_zero, Int32.add_zero]; exact ⟨rfl, rfl⟩⟩⟩
        obtain ⟨⟨tg, va, vb⟩, ⟨u1, w, u2⟩, l1, l2, fr, hQ⟩ := rc_out hK h hI (by omega) a.1.1 a.1.2 200 0 0 g (by omega) q0
        have l1 := l1 K (by omega)
        have l2 := l2 (K - 200 * n) (by omega)
        rw [show 200 * n + (K - 200 * n) = K by omega, Nat.zero_mul] at l2
        have fr : ∀ k, 84 ≤ k → w k = g k := fr
        have l1 : lpF (fun u9 : Int32 × Int32 => B_X7_race_35 K x y f u9.1 u9.2) K ((0 : Int32), (1 : Int32)) = some (tg, va, vb) := l1
        have l2 : lpF (fun u9 : Int32 × Int32 × Int32 × (Nat → Int32) × Int32 => B_X8_laysRace_22 K x y (nI n) u9.1 u9.2.1 u9.2.2.1 u9.2.2.2.1 u9.2.2.2.2) K ((1 : Int32), (0 : Int32), (0 : Int32), g, (-1 : Int32)) = some (u1, w, u2) := l2
        unfold F_X8_laysRace J_X8_laysRace_143
        rw [l1, xb3, m_aside hK, xb1, l2, xb3, m_bring hK fr, xb1, xb1]
        obtain ⟨b, hb, rfl⟩ := in_nat (n := 1) (by decide) d
        rcases hQ with ⟨e1, e2⟩ | ⟨e1, e2, e3, e4⟩
        · have e1 : tg = 0 ∨ tg = 2 := e1
          have e2 : u2 = -1 := e2
          rw [e2, if_pos rfl, xb4]
          have L : (if tg = 0 then some (-1 : Int32) else if tg = 1 then if nI b = (0 : Int32) then some vb else some va else if tg = 2 then some (-1 : Int32) else none) = some (-1) := by
            rcases e1 with e1 | e1
            · rw [e1, if_pos rfl]
            · rw [e1, if_neg (by decide), if_neg (by decide), if_pos rfl]
          rw [L]
          by_cases q : nI b = (0 : Int32)
          · rw [if_pos q]
            exact ⟨_, _, _, _, rfl, rfl⟩
          · rw [if_neg q]
            exact ⟨_, _, _, _, rfl, rfl⟩
        · have e1 : tg = 1 := e1
          have e2 : u2 = vb := e2
          have e3 : u1 = va := e3
          have e4 : ¬ u2 = -1 := e4
          rw [if_neg e4, xb4, e1, if_neg (by decide), if_pos rfl, e2, e3]
          by_cases q : nI b = (0 : Int32)
          · rw [if_pos q, if_pos q]
            exact ⟨_, _, _, _, rfl, rfl⟩
          · rw [if_neg q, if_neg q]
            exact ⟨_, _, _, _, rfl, rfl⟩
      · rw [if_neg (show ¬ (0 ≤ z ∧ z ≤ (1 : Int32)) from d), if_neg d]
        exact ⟨_, _, _, _, rfl, rfl⟩
    · rw [if_neg a, if_neg a]
      exact ⟨_, _, _, _, rfl, rfl⟩
end
-- 83c.34
section
/-! Stage B, 34: one after the other is added to a site, till the goal is reached -/
theorem gpx0 {σ ρ : Type} {b : σ → Option (σ ⊕ ρ)} {K : Nat} {u0 : σ} {r : ρ} (hK : 0 < K) (h0 : b u0 = some (.inr r)) : lpF b K u0 = some r := by
  obtain ⟨J, rfl⟩ : ∃ J, K = J + 1 := ⟨K - 1, by omega⟩
  exact lp_end h0
theorem gpx1 {σ ρ : Type} {b : σ → Option (σ ⊕ ρ)} {K : Nat} {u0 u1 : σ} {r : ρ} (hK : 1 < K) (h0 : b u0 = some (.inl u1)) (h1 : b u1 = some (.inr r)) : lpF b K u0 = some r := by
  obtain ⟨J, rfl⟩ : ∃ J, K = J + 1 + 1 := ⟨K - 2, by omega⟩
  exact (lp_one h0).trans (lp_end h1)
theorem sgm_at {g : Nat → Int32} {i : Nat} {d : Int32} : ∀ n, i < n → sgm (fun j => upd g (48 + i) (g (48 + i) + d) (48 + j)) n = sgm (fun j => g (48 + j)) n + d := by
  intro n
  induction n with
  | zero => exact fun h => absurd h (Nat.not_lt_zero _)
  | succ m ih =>
    intro hi
    show sgm (fun j => upd g (48 + i) (g (48 + i) + d) (48 + j)) m + upd g (48 + i) (g (48 + i) + d) (48 + m) = sgm (fun j => g (48 + j)) m + g (48 + m) + d
    by_cases e : i = m
    · subst e
      have E : sgm (fun j => upd g (48 + i) (g (48 + i) + d) (48 + j)) i = sgm (fun j => g (48 + j)) i := sgm_eq i (fun j hj => upd_ne (by omega))
      rw [upd_at, E]
      exact (Int32.add_assoc _ _ _).symm
    · rw [ih (by omega), upd_ne (show ¬ 48 + m = 48 + i by omega)]
      generalize sgm (fun j => g (48 + j)) m = S
      generalize g (48 + m) = x
      rw [Int32.add_assoc S d x, Int32.add_comm d x, Int32.add_assoc S x d]
/-- the counts of a row, as numbers: goal, known, signals, rest of site i, all counts; the rest as at first -/
def GD (n i G k s r T : Nat) (g0 g : Nat → Int32) : Prop := (∃ f, RowR n f g) ∧ g 66 = nI G ∧ g 73 = nI k ∧ g 75 = nI s ∧ g (56 + i) = nI r ∧ sgm (fun j => g (48 + j)) n = nI T ∧ ∀ j, 84 ≤ j → g j = g0 j
theorem GD.n8 {n i G k s r T : Nat} {g0 g : Nat → Int32} (h : GD n i G k s r T g0 g) : n ≤ 8 := by
  obtain ⟨⟨f, hR⟩, -⟩ := h
  exact hR.n8
theorem GD.stp {n i G k s r T : Nat} {g0 g : Nat → Int32} (h : GD n i G k s r T g0 g) (hG : G < 2 ^ 30) (hk : k < 2 ^ 30) : st n g = (G - k) / (2 * n) := by
  obtain ⟨-, e66, e73, -⟩ := h
  unfold st
  rw [e66, e73, pk_sub_toInt hG hk, show ((G : Int) - k).toNat = G - k by omega]
theorem GD.put {n i G k s r T : Nat} {g0 g : Nat → Int32} (h : GD n i G k s r T g0 g) (hi : i < n) : GD n i G k s r (T + 1) g0 (upd g (48 + i) (g (48 + i) + 1)) := by
  have n8 := h.n8
  obtain ⟨⟨f, hR⟩, e66, e73, e75, e56, eT, fr⟩ := h
  have R1 : RowR n (upd f (17 + 8 * i + 6) (g (48 + i) + 1)) (upd g (48 + i) (g (48 + i) + 1)) := hR.put (c := 6) hi (by decide) (by decide) (by decide) (g (48 + i) + 1)
  exact ⟨⟨_, R1⟩, (upd_ne (by omega)).trans e66, (upd_ne (by omega)).trans e73, (upd_ne (by omega)).trans e75, (upd_ne (by omega)).trans e56, (sgm_at n hi).trans (by rw [eT]; exact nI_1 T), fun j hj => (upd_ne (by omega)).trans (fr j hj)⟩
theorem GD.rest {n i G k s r T : Nat} {g0 g : Nat → Int32} (h : GD n i G k s r T g0 g) (hi : i < n) (q : Nat) : GD n i G k s q T g0 (upd g (56 + i) (nI q)) := by
  have n8 := h.n8
  obtain ⟨⟨f, hR⟩, e66, e73, e75, e56, eT, fr⟩ := h
  have R1 : RowR n (upd f (17 + 8 * i + 7) (nI q)) (upd g (56 + i) (nI q)) := hR.put (c := 7) hi (by decide) (by decide) (by decide) (nI q)
  exact ⟨⟨_, R1⟩, (upd_ne (by omega)).trans e66, (upd_ne (by omega)).trans e73, (upd_ne (by omega)).trans e75, upd_at, (sgm_eq n (fun j hj => upd_ne (by omega))).trans eT, fun j hj => (upd_ne (by omega)).trans (fr j hj)⟩
theorem GD.sig {n i G k s r T : Nat} {g0 g : Nat → Int32} (h : GD n i G k s r T g0 g) (hi : i < n) (q : Nat) : GD n i G k q r T g0 (upd g 75 (nI q)) := by
  have n8 := h.n8
  obtain ⟨⟨f, hR⟩, e66, e73, e75, e56, eT, fr⟩ := h
  have R1 : RowR n (upd f 9 (nI q)) (upd g 75 (nI q)) := hR.scal (by decide) (nI q)
  exact ⟨⟨_, R1⟩, (upd_ne (by omega)).trans e66, (upd_ne (by omega)).trans e73, upd_at, (upd_ne (by omega)).trans e56, (sgm_eq n (fun j hj => upd_ne (by omega))).trans eT, fun j hj => (upd_ne (by omega)).trans (fr j hj)⟩
theorem GD.known {n i G k s r T : Nat} {g0 g : Nat → Int32} (h : GD n i G k s r T g0 g) (hi : i < n) (q : Nat) : GD n i G q s r T g0 (upd g 73 (nI q)) := by
  have n8 := h.n8
  obtain ⟨⟨f, hR⟩, e66, e73, e75, e56, eT, fr⟩ := h
  have R1 : RowR n (upd f 8 (nI q)) (upd g 73 (nI q)) := hR.scal (by decide) (nI q)
  exact ⟨⟨_, R1⟩, (upd_ne (by omega)).trans e66, upd_at, (upd_ne (by omega)).trans e75, (upd_ne (by omega)).trans e56, (sgm_eq n (fun j hj => upd_ne (by omega))).trans eT, fun j hj => (upd_ne (by omega)).trans (fr j hj)⟩
theorem ad_zero {n i G k s r T K : Nat} {g0 g : Nat → Int32} (h : GD n i G k s r T g0 g) (hi : i < n) (hG : G < 2 ^ 30) (hk : k < 2 ^ 30) (hz : (G - k) / (2 * n) = 0) : ∃ g', F_X8_addsNow K (nI i) 1 g (nI n) = some (nI 1, g') ∧ GD n i G (k + 1) s r (T + 1) g0 g' := by
  have n8 := h.n8
  have h1 := h.put hi
  unfold F_X8_addsNow
  rw [bm_ix (a := 48) (by rfl) (by omega), bm_ix (a := 48) (by rfl) (by omega), bm_cl (a := 48) (by rfl) (by omega)]
  simp only [xnm]
  generalize upd g (48 + i) (g (48 + i) + 1) = g1 at h1 ⊢
  have e73 : g1 73 = nI k := h1.2.2.1
  rw [m_step (by omega) n8, xb1, h1.stp hG hk, hz, if_pos (show nI 0 = (0 : Int32) from rfl), e73, nI_1]
  exact ⟨_, rfl, h1.known hi (k + 1)⟩
theorem ad_pre {n i G k s r T K : Nat} {g0 g : Nat → Int32} (h : GD n i G k s r T g0 g) (hi : i < n) (hG : G < 2 ^ 30) (hk : k < 2 ^ 30) (hz : 0 < (G - k) / (2 * n)) : ∃ g2, F_X8_addsNow K (nI i) 1 g (nI n) = bd2 (lpF (fun u9 : Int32 × (Nat → Int32) => B_X8_addsNow_48 K (nI i) (nI n) u9.1 u9.2) K ((0 : Int32), g2)) (fun a b => some (a, b)) ∧ GD n i G k s (r + 1) (T + 1) g0 g2 := by
  have n8 := h.n8
  have h1 := h.put hi
  have lt : (G - k) / (2 * n) < 2 ^ 30 := Nat.lt_of_le_of_lt (Nat.div_le_self _ _) (by omega)
  unfold F_X8_addsNow
  rw [bm_ix (a := 48) (by rfl) (by omega), bm_ix (a := 48) (by rfl) (by omega), bm_cl (a := 48) (by rfl) (by omega)]
  simp only [xnm]
  generalize upd g (48 + i) (g (48 + i) + 1) = g1 at h1 ⊢
  have e56 : g1 (56 + i) = nI r := h1.2.2.2.2.1
  have nz : ¬ nI ((G - k) / (2 * n)) = (0 : Int32) := fun e => by
    have := (nI_eq (a := (G - k) / (2 * n)) (b := 0) (by omega) (by omega)).mp e
    omega
  rw [m_step (by omega) n8, xb1, h1.stp hG hk, if_neg nz, bm_ix (a := 56) (by rfl) (by omega), bm_ix (a := 56) (by rfl) (by omega), bm_cl (a := 56) (by rfl) (by omega), e56, nI_1]
  exact ⟨_, rfl, h1.rest hi (r + 1)⟩
theorem b48_stop {n i G k s r T K : Nat} {x : Int32} {g0 g : Nat → Int32} (h : GD n i G k s r T g0 g) (hi : i < n) (hG : G < 2 ^ 30) (hk : k < 2 ^ 30) (hr : r < (G - k) / (2 * n) ∨ (G - k) / (2 * n) = 0) : B_X8_addsNow_48 K (nI i) (nI n) x g = some (.inr (x, g)) := by
  have n8 := h.n8
  have lt : (G - k) / (2 * n) < 2 ^ 30 := Nat.lt_of_le_of_lt (Nat.div_le_self _ _) (by omega)
  have es : F_X8_step g (nI n) = some (nI ((G - k) / (2 * n))) := by rw [m_step (by omega) n8, h.stp hG hk]
  have e56 : g (56 + i) = nI r := h.2.2.2.2.1
  unfold B_X8_addsNow_48
  simp only [es, xb1, bm_ix (A := (56 : Int32)) (a := 56) rfl (show 56 + i < 265 by omega), bm_cl (A := (56 : Int32)) (a := 56) rfl (show 56 + i < 265 by omega)]
  by_cases z : (G - k) / (2 * n) = 0
  · rw [z, if_pos (show nI 0 ≤ (0 : Int32) by decide)]
  · rw [if_neg (show ¬ nI ((G - k) / (2 * n)) ≤ (0 : Int32) from mt (nI_leI (a := (G - k) / (2 * n)) (b := 0) (by omega) (by omega)).mp (by omega)), e56, if_pos ((nI_ltI (a := r) (b := (G - k) / (2 * n)) (by omega) (by omega)).mpr (by omega))]
theorem b48_go {n i G k s T S K : Nat} {x : Int32} {g0 g : Nat → Int32} (h : GD n i G k s S T g0 g) (hi : i < n) (hG : G < 2 ^ 30) (hk : k < 2 ^ 30) (eS : (G - k) / (2 * n) = S) (hS : 0 < S) : B_X8_addsNow_48 K (nI i) (nI n) x g = if (upd (upd g (56 + i) (nI 0)) 75 (nI (s + 1))) 75 = nI n then bd1 (F_X8_endsRound K (upd (upd g (56 + i) (nI 0)) 75 (nI (s + 1))) (nI n)) (fun w => some (.inl (x + (1 : Int32) + (2 : Int32) * nI n, w))) else some (.inl (x + (1 : Int32), upd (upd g (56 + i) (nI 0)) 75 (nI (s + 1)))) := by
  have n8 := h.n8
  have lt : S < 2 ^ 30 := by rw [← eS]; exact Nat.lt_of_le_of_lt (Nat.div_le_self _ _) (by omega)
  have es : F_X8_step g (nI n) = some (nI S) := by rw [m_step (by omega) n8, h.stp hG hk, eS]
  have e56 : g (56 + i) = nI S := h.2.2.2.2.1
  have e75 : g 75 = nI s := h.2.2.2.1
  unfold B_X8_addsNow_48
  simp only [es, xb1, bm_ix (A := (56 : Int32)) (a := 56) rfl (show 56 + i < 265 by omega), bm_cl (A := (56 : Int32)) (a := 56) rfl (show 56 + i < 265 by omega), xnm]
  rw [if_neg (show ¬ nI S ≤ (0 : Int32) from mt (nI_leI (a := S) (b := 0) (by omega) (by omega)).mp (by omega)), e56, if_neg (show ¬ nI S < nI S from mt (nI_ltI (a := S) (b := S) (by omega) (by omega)).mp (by omega)), xsub (Nat.le_refl S), Nat.sub_self, show (upd g (56 + i) (nI 0)) 75 = nI s from (upd_ne (by omega)).trans e75, nI_1]
/-- one more, no signal yet -/
theorem ad_more {n i G k s r T K : Nat} {g0 g : Nat → Int32} (hK : 200000 ≤ K) (h : GD n i G k s r T g0 g) (hi : i < n) (hG : G < 2 ^ 30) (hk : k < 2 ^ 30) (hr : r + 1 < (G - k) / (2 * n)) : ∃ g', F_X8_addsNow K (nI i) 1 g (nI n) = some (nI 0, g') ∧ GD n i G k s (r + 1) (T + 1) g0 g' := by
  obtain ⟨g2, e, h2⟩ := ad_pre (K := K) h hi hG hk (by omega)
  rw [e, gpx0 (by omega) (show (fun u9 : Int32 × (Nat → Int32) => B_X8_addsNow_48 K (nI i) (nI n) u9.1 u9.2) ((0 : Int32), g2) = some (.inr ((0 : Int32), g2)) from b48_stop h2 hi hG hk (Or.inl hr)), xb2]
  exact ⟨_, rfl, h2⟩
/-- one more, and a signal -/
theorem ad_one {n i G k s r T K : Nat} {g0 g : Nat → Int32} (hK : 200000 ≤ K) (h : GD n i G k s r T g0 g) (hi : i < n) (hG : G < 2 ^ 30) (hk : k < 2 ^ 30) (hr : r + 1 = (G - k) / (2 * n)) (hs : s + 1 < n) : ∃ g', F_X8_addsNow K (nI i) 1 g (nI n) = some (nI 1, g') ∧ GD n i G k (s + 1) 0 (T + 1) g0 g' := by
  have n8 := h.n8
  obtain ⟨g2, e, h2⟩ := ad_pre (K := K) h hi hG hk (by omega)
  have h3 := (h2.rest hi 0).sig hi (s + 1)
  have G0 := b48_go (K := K) (x := 0) h2 hi hG hk hr.symm (by omega)
  rw [upd_at, if_neg (show ¬ nI (s + 1) = nI n from fun q => by
    have := (nI_eq (a := s + 1) (b := n) (by omega) (by omega)).mp q
    omega)] at G0
  rw [e, gpx1 (by omega) (show (fun u9 : Int32 × (Nat → Int32) => B_X8_addsNow_48 K (nI i) (nI n) u9.1 u9.2) ((0 : Int32), g2) = _ from G0) (show (fun u9 : Int32 × (Nat → Int32) => B_X8_addsNow_48 K (nI i) (nI n) u9.1 u9.2) _ = _ from b48_stop h3 hi hG hk (Or.inl (by omega))), xb2]
  exact ⟨_, rfl, h3⟩
/-- one more, a signal, and the round ends -/
theorem ad_end {n i G k s r T K : Nat} {g0 g : Nat → Int32} (hK : 200000 ≤ K) (h : GD n i G k s r T g0 g) (hi : i < n) (hG : G < 2 ^ 30) (hk : k < 2 ^ 30) (hT : T + 1 < 2 ^ 30) (hr : r + 1 = (G - k) / (2 * n)) (hs : s + 1 = n) : ∃ g', F_X8_addsNow K (nI i) 1 g (nI n) = some (nI (1 + 2 * n), g') ∧ GD n i G (T + 1) 0 0 (T + 1) g0 g' := by
  have n8 := h.n8
  obtain ⟨g2, e, h2⟩ := ad_pre (K := K) h hi hG hk (by omega)
  have h3 := (h2.rest hi 0).sig hi (s + 1)
  have G0 := b48_go (K := K) (x := 0) h2 hi hG hk hr.symm (by omega)
  rw [upd_at, if_pos (show nI (s + 1) = nI n by rw [hs])] at G0
  generalize upd (upd g2 (56 + i) (nI 0)) 75 (nI (s + 1)) = g3 at G0 h3
  obtain ⟨⟨f3, R3⟩, e66, e73, e75, e56, eT, fr⟩ := h3
  obtain ⟨f4, g4, -, q2, R4, q4, q5, q6, q7⟩ := er_both hK R3
  have h4 : GD n i G (T + 1) 0 0 (T + 1) g0 g4 := ⟨⟨f4, R4⟩, (q4 66 (by omega) (by decide) (by decide) (by decide)).trans e66, q5.trans eT, q6, q7 i hi, (sgm_eq n (fun j hj => q4 (48 + j) (by omega) (by omega) (by omega) (by omega))).trans eT, fun j hj => (q4 j (by omega) (by omega) (by omega) (by omega)).trans (fr j hj)⟩
  rw [q2, xb1] at G0
  have hz : 0 < (G - (T + 1)) / (2 * n) ∨ (G - (T + 1)) / (2 * n) = 0 := (Nat.eq_zero_or_pos _).symm
  rw [e, gpx1 (by omega) (show (fun u9 : Int32 × (Nat → Int32) => B_X8_addsNow_48 K (nI i) (nI n) u9.1 u9.2) ((0 : Int32), g2) = _ from G0) (show (fun u9 : Int32 × (Nat → Int32) => B_X8_addsNow_48 K (nI i) (nI n) u9.1 u9.2) _ = _ from b48_stop h4 hi hG hT hz), xb2]
  refine ⟨g4, ?_, h4⟩
  rw [show (0 : Int32) + 1 = nI 1 from rfl, show (2 : Int32) = nI 2 from rfl, nI_mul, nI_add]
end
