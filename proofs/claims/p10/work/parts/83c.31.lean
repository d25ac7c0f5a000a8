-- 83c.31
section
/-! Stage B, 31: partners, and what a script would cost, in both -/
def PnR (i : Nat) (j : Nat) (s : Int32 × (Nat → Int32) × (Nat → Int32)) (t : Int32 × Int32 × (Nat → Int32) × (Nat → Int32)) : Prop := ∃ sh lo sx sy, s = (nI j, sh, lo) ∧ t = (-1, nI j, sx, sy)
def PnQ (r : Nat × Int32 × (Nat → Int32) × (Nat → Int32)) (u : Int32 × (Nat → Int32) × (Nat → Int32)) : Prop := (r.1 = 0 ∧ u.1 = r.2.1) ∨ (r.1 = 1 ∧ u.1 = -1)
theorem pn_both {n i K : Nat} {f g sh lo sx sy : Nat → Int32} (hK : 200000 ≤ K) (h : RowR n f g) (hg : RowG g) (hi : i < n) (h72 : g 72 = 0) (hq : F_X8_isQuiet K (nI i) g (nI n) = some 0) : ∃ r u, lpF (fun u9 : Int32 × (Nat → Int32) × (Nat → Int32) => B_X7_partner_64 K (nI i) f u9.1 u9.2.1 u9.2.2) K ((0 : Int32), sh, lo) = some r ∧ lpF (fun u9 : Int32 × Int32 × (Nat → Int32) × (Nat → Int32) => B_X8_partner_48 K (nI i) (nI n) g u9.1 u9.2.1 u9.2.2.1 u9.2.2.2) K ((-1 : Int32), (0 : Int32), sx, sy) = some u ∧ PnQ r u := by
  have n8 := h.n8
  refine lp_twoXN 10 (PnR i) PnQ (n := n) (by omega) (by omega) (fun j s t hj q => ?_) ⟨sh, lo, sx, sy, rfl, rfl⟩
  obtain ⟨sh, lo, sx, sy, rfl, rfl⟩ := q
  show (j < n ∧ ∃ s' t', B_X7_partner_64 K (nI i) f (nI j) sh lo = some (.inl s') ∧ B_X8_partner_48 K (nI i) (nI n) g (-1) (nI j) sx sy = some (.inl t') ∧ PnR i (j + 1) s' t') ∨ (∃ r u, B_X7_partner_64 K (nI i) f (nI j) sh lo = some (.inr r) ∧ (∀ J, 10 ≤ J → lpF (fun u9 : Int32 × Int32 × (Nat → Int32) × (Nat → Int32) => B_X8_partner_48 K (nI i) (nI n) g u9.1 u9.2.1 u9.2.2.1 u9.2.2.2) J (-1, nI j, sx, sy) = some u) ∧ PnQ r u)
  by_cases e : j = n
  · have le : nI n ≤ nI j := (nI_leI (a := n) (b := j) (by omega) (by omega)).mpr (by omega)
    refine Or.inr ⟨(1, nI j, sh, lo), (-1, sx, sy), ?_, ?_, Or.inr ⟨rfl, rfl⟩⟩
    · unfold B_X7_partner_64 F_X5_sites
      rw [xb1, h.sz, if_pos le]
    · intro J hJ
      obtain ⟨J2, rfl⟩ : ∃ J2, J = J2 + 1 := ⟨J - 1, by omega⟩
      refine lp_end ?_
      show B_X8_partner_48 K (nI i) (nI n) g (-1) (nI j) sx sy = _
      unfold B_X8_partner_48
      rw [if_pos le]
  · have jn : j < n := by omega
    have lt : ¬ nI n ≤ nI j := mt (nI_leI (a := n) (b := j) (by omega) (by omega)).mp (by omega)
    have C0 : B_X7_partner_64 K (nI i) f (nI j) sh lo = if nI j = nI i then some (.inl (nI j + 1, sh, lo)) else if g (76 + j) = 1 then some (.inl (nI j + 1, sh, lo)) else bd3 (F_X5_canShare K (((1 : Int32) <<< (nI i &&& (31 : Int32))) ||| ((1 : Int32) <<< (nI j &&& (31 : Int32)))) f sh lo) (fun r_24 w_25 w_26 => if r_24 = (0 : Int32) then some (.inl (nI j + (1 : Int32), w_25, w_26)) else some (.inr (0, nI j, w_25, w_26))) := by
      unfold B_X7_partner_64 F_X5_sites
      rw [xb1, h.sz, if_neg lt, fz_c h.1 jn, xb1, ite10]
    have M0 : B_X8_partner_48 K (nI i) (nI n) g (-1) (nI j) sx sy = if nI j = nI i then some (.inl (-1, nI j + 1, sx, sy)) else if g (76 + j) = 1 then some (.inl (-1, nI j + 1, sx, sy)) else bd3 (F_X8_shares K (((1 : Int32) <<< (nI i &&& (31 : Int32))) ||| ((1 : Int32) <<< (nI j &&& (31 : Int32)))) g (nI n) sx sy) (fun r_24 w_25 w_26 => if r_24 = (0 : Int32) then some (.inl (-1, nI j + (1 : Int32), w_25, w_26)) else some (.inl (nI j, nI j + (1 : Int32), w_25, w_26))) := by
      unfold B_X8_partner_48
      rw [if_neg lt, if_pos h72, hq, xb1, if_pos rfl, if_pos rfl, fz_m (by omega), xb1, ite10]
    by_cases c : j = i
    · rw [if_pos (show nI j = nI i by rw [c]), nI_1] at C0 M0
      exact Or.inl ⟨jn, _, _, C0, M0, _, _, _, _, rfl, rfl⟩
    · have cn : ¬ nI j = nI i := fun z => c ((nI_eq (a := j) (b := i) (by omega) (by omega)).mp z)
      rw [if_neg cn] at C0 M0
      by_cases d : g (76 + j) = 1
      · rw [if_pos d, nI_1] at C0 M0
        exact Or.inl ⟨jn, _, _, C0, M0, _, _, _, _, rfl, rfl⟩
      · rw [if_neg d] at C0 M0
        obtain ⟨p1, p2, p3⟩ := grp_1 i (by omega)
        have pb : 2 ^ i / 2 ^ j % 2 = 0 := Decidable.byContradiction (fun z => c (p3 j (by omega) z))
        have pl : 2 ^ i < 256 := Nat.lt_of_lt_of_le (Nat.pow_lt_pow_right (by decide) (show i < 8 by omega)) (by decide)
        obtain ⟨g1, g2, g3⟩ := grp_or (2 ^ i) pl j (by omega) pb
        have m2 : 2 ^ i + 2 ^ j < 2 ^ 8 := grp_lt 8 (by decide) (2 ^ i) pl j (by omega) pb
        obtain ⟨v, q0, q1, r0, r1, sh', lo', sx', sy', hv, hr0, hr1, c1, c2, c3, c4⟩ := sh_both (sh := sh) (lo := lo) (sx := sx) (sy := sy) hK h hg h72 m2 (by omega)
        rw [p1, g1, c1, xb3, nI_1] at C0
        rw [p1, g1, c2, xb3, nI_1] at M0
        rcases hv with v0 | v1
        · rw [v0, if_pos rfl] at C0 M0
          exact Or.inl ⟨jn, _, _, C0, M0, _, _, _, _, rfl, rfl⟩
        · rw [v1, if_neg n10] at C0 M0
          refine Or.inr ⟨_, (nI j, sx', sy'), C0, ?_, Or.inl ⟨rfl, rfl⟩⟩
          intro J hJ
          obtain ⟨J2, rfl⟩ : ∃ J2, J = J2 + 1 := ⟨J - 1, by omega⟩
          rw [lp_one (u' := (nI j, nI (j + 1), sx', sy')) M0]
          refine lp_forA (b := fun u9 : Int32 × Int32 × (Nat → Int32) × (Nat → Int32) => B_X8_partner_48 K (nI i) (nI n) g u9.1 u9.2.1 u9.2.2.1 u9.2.2.2) (S := fun k => (nI j, nI k, sx', sy')) (n := n) (fun k hk => ?_) ?_ (n - (j + 1)) (j + 1) J2 (by omega) (by omega)
          · show B_X8_partner_48 K (nI i) (nI n) g (nI j) (nI k) sx' sy' = some (.inl (nI j, nI (k + 1), sx', sy'))
            unfold B_X8_partner_48
            rw [if_neg (mt (nI_leI (a := n) (b := k) (by omega) (by omega)).mp (by omega)), if_pos h72, hq, xb1, if_pos rfl, if_neg (nI_ne_m1 (by omega)), nI_1]
          · show B_X8_partner_48 K (nI i) (nI n) g (nI j) (nI n) sx' sy' = some (.inr (nI j, sx', sy'))
            unfold B_X8_partner_48
            rw [if_pos ((nI_leI (a := n) (b := n) (by omega) (by omega)).mpr (Nat.le_refl _))]
/-- whom a move would need -/
theorem p_partner {n K : Nat} {f g tr sh lo sx sy asd : Nat → Int32} {x y z : Int32} (hK : 200000 ≤ K) (h : RowR n f g) (hI : RowI n g) : ∃ (v : Int32) (tr' sh' lo' sx' sy' asd' : Nat → Int32), F_X7_partner K x y z f tr sh lo = some (v, tr', sh', lo') ∧ F_X8_partner K x y z g (nI n) sx sy asd = some (v, g, sx', sy', asd') := by
  have n8 := h.n8
  obtain ⟨r, e1, e2, e3, e4⟩ := rf_both (s := 0) (S := 0) (a := x) (b := y) (c := z) rfl (by decide) hK h hI.x
  rw [wm_of] at e2
  unfold F_X7_partner F_X8_partner
  rw [e1, e2, xb1, xb1]
  by_cases c : r = -1
  · obtain ⟨i, hi, rfl, -⟩ := (e4 c).2.1 rfl
    have fr16 : ∀ k, 16 ≤ k → mvG i y z g k = g k := fun k hk => by
      unfold mvG
      rw [upd_ne (by omega), upd_ne (by omega)]
    have gx : mvG i y z g (0 + i) = g (0 + i) + y := by
      unfold mvG
      rw [upd_ne (by omega), upd_at]
    have gy : mvG i y z g (8 + i) = g (8 + i) + z := by
      unfold mvG
      rw [upd_at, upd_ne (by omega)]
    have iq := iq_sh hK h hI.1 hi fr16 gx gy
    have e6 : f 6 = g 72 := h.sc (6, 72) (by decide)
    rw [if_pos c, if_pos c, m_aside hK, xb1]
    simp only [bm_ix (A := (0 : Int32)) (a := 0) rfl (show 0 + i < 265 by omega), bm_ix (A := (8 : Int32)) (a := 8) rfl (show 8 + i < 265 by omega), bm_cl (A := (0 : Int32)) (a := 0) rfl (show 0 + i < 265 by omega), bm_cl (A := (8 : Int32)) (a := 8) rfl (show 8 + i < 265 by omega), xnm]
    have V : ∀ {w : Nat → Int32}, upd (upd g (0 + i) (g (0 + i) + y)) (8 + i) (upd g (0 + i) (g (0 + i) + y) (8 + i) + z) = w → mvG i y z g = w := fun e => e
    generalize hw : upd (upd g (0 + i) (g (0 + i) + y)) (8 + i) (upd g (0 + i) (g (0 + i) + y) (8 + i) + z) = W
    have hW := V hw
    rw [hW] at fr16 gx gy iq
    have bb := m_bring (K := K) (g := g) (w := W) (as := asd) hK (fun k hk => fr16 k (by omega))
    have stop : ∀ {A B : Option Int32}, (W 72 = 0 → ¬ qvl f (cdr f i 0 + y) (cdr f i 1 + z) = 0) → lpF (fun u9 : Int32 × Int32 × (Nat → Int32) × (Nat → Int32) => B_X8_partner_48 K (nI i) (nI n) W u9.1 u9.2.1 u9.2.2.1 u9.2.2.2) K ((-1 : Int32), (0 : Int32), sx, sy) = some (-1, sx, sy) := fun {A B} hh => by
      obtain ⟨J, rfl⟩ : ∃ J, K = J + 1 := ⟨K - 1, by omega⟩
      refine lp_end ?_
      show B_X8_partner_48 (J + 1) (nI i) (nI n) W (-1) 0 sx sy = _
      unfold B_X8_partner_48
      rw [if_neg (nI_nle (by omega) (by omega))]
      by_cases z2 : W 72 = 0
      · rw [if_pos z2, iq, xb1, if_neg (hh z2)]
      · rw [if_neg z2]
    unfold F_X5_isAbove
    rw [e6, c_qw n8 hi, xb1]
    by_cases z2 : g 72 = 0
    · rw [if_pos z2, xb1, if_pos rfl]
      by_cases z3 : qvl f (cdr f i 0 + y) (cdr f i 1 + z) = 0
      · rw [if_pos z3, c_cpF, xb1]
        have h2 : RowR n (va_cpy f tr 0 0 81) g := h.cg (fun k hk => by rw [gcpy_at hk, Nat.zero_add]) (fun k hk => rfl)
        obtain ⟨f2, s1, R2⟩ := sf_both (x := y) (y := z) h2 hi
        rw [hW] at R2
        rw [z3] at iq
        obtain ⟨⟨tg, v1, sh1, lo1⟩, ⟨v2, sx1, sy1⟩, l1, l2, hQ⟩ := pn_both (sh := sh) (lo := lo) (sx := sx) (sy := sy) hK R2 (hI.1.of (fr16 64 (by decide)) (fr16 72 (by decide))) hi ((fr16 72 (by decide)).trans z2) iq
        rw [s1, xb1, l1, xb4, l2, xb3, bb, xb1]
        rcases hQ with ⟨w1, w2⟩ | ⟨w1, w2⟩
        · have w1 : tg = 0 := w1
          have w2 : v2 = v1 := w2
          rw [w1, w2, if_pos rfl]
          exact ⟨_, _, _, _, _, _, _, rfl, rfl⟩
        · have w1 : tg = 1 := w1
          have w2 : v2 = -1 := w2
          rw [w1, w2, if_neg (by decide), if_pos rfl]
          exact ⟨_, _, _, _, _, _, _, rfl, rfl⟩
      · rw [if_neg z3, stop (A := none) (B := none) (fun _ => z3), xb3, bb, xb1]
        exact ⟨_, _, _, _, _, _, _, rfl, rfl⟩
    · rw [if_neg z2, xb1, if_neg n10, stop (A := none) (B := none) (fun w => absurd ((fr16 72 (by decide)).symm.trans w) z2), xb3, bb, xb1]
      exact ⟨_, _, _, _, _, _, _, rfl, rfl⟩
  · rw [if_neg c, if_neg c]
    exact ⟨_, _, _, _, _, _, _, rfl, rfl⟩
abbrev RnX : Type := Int32 × (Nat → Int32) × (Nat → Int32) × Int32 × Int32 × (Nat → Int32) × (Nat → Int32)
def RnR (n c : Nat) (g kp : Nat → Int32) (ka : Int32) (i : Nat) (s : RnX) (t : PfM) : Prop := ∃ (ac oc as ou tk : Int32) (q w P A sh lo sx sy : Nat → Int32), s = (nI i, q, P, ac, oc, sh, lo) ∧ t = (nI i, w, sx, sy, as, ou, A, tk, kp, ka) ∧ RowR n q w ∧ RowI n w ∧ q 11 = w 67 ∧ (∀ k, 84 ≤ k → w k = g k) ∧ i ≤ c
def RnQ (n c : Nat) (g kp : Nat → Int32) (ka : Int32) (s : RnX) (t : Nat × PfM) : Prop := ∃ i, ((t.1 = 0 ∧ i < c) ∨ (t.1 = 1 ∧ i = c)) ∧ RnR n c g kp ka i s t.2
theorem RnR.step {n k r c i K : Nat} {g kp st co sc lg : Nat → Int32} {ka : Int32} {s : RnX} {t : PfM} (hK : 200000 ≤ K) (hk : k ≤ 4) (hr : r < k) (hS : SR k st co sc lg) (hkd : KdS k st co) (e : co r = nI c) (el : lg r = nI c) (hc : c ≤ 12) (q : RnR n c g kp ka i s t) : (i < c ∧ ∃ s' t', B_X7_run_56 K (nI r) (nI k) st co (nI c) s.1 s.2.1 s.2.2.1 s.2.2.2.1 s.2.2.2.2.1 s.2.2.2.2.2.1 s.2.2.2.2.2.2 = some (.inl s') ∧ B_X8_goSteps_2 K (nI r) 0 (nI n) sc lg t.1 t.2.1 t.2.2.1 t.2.2.2.1 t.2.2.2.2.1 t.2.2.2.2.2.1 t.2.2.2.2.2.2.1 t.2.2.2.2.2.2.2.1 t.2.2.2.2.2.2.2.2.1 t.2.2.2.2.2.2.2.2.2 = some (.inl t') ∧ RnR n c g kp ka (i + 1) s' t') ∨ (∃ r' u', B_X7_run_56 K (nI r) (nI k) st co (nI c) s.1 s.2.1 s.2.2.1 s.2.2.2.1 s.2.2.2.2.1 s.2.2.2.2.2.1 s.2.2.2.2.2.2 = some (.inr r') ∧ B_X8_goSteps_2 K (nI r) 0 (nI n) sc lg t.1 t.2.1 t.2.2.1 t.2.2.2.1 t.2.2.2.2.1 t.2.2.2.2.2.1 t.2.2.2.2.2.2.1 t.2.2.2.2.2.2.2.1 t.2.2.2.2.2.2.2.2.1 t.2.2.2.2.2.2.2.2.2 = some (.inr u') ∧ RnQ n c g kp ka r' u') := by
  obtain ⟨ac, oc, as, ou, tk, q, w, P, A, sh, lo, sx, sy, rfl, rfl, h, hI, q11, fr, hi⟩ := q
  have n8 := h.n8
  by_cases z : i = c
  · refine Or.inr ⟨(nI i, q, P, ac, oc, sh, lo), (1, nI i, w, sx, sy, as, ou, A, tk, kp, ka), ?_, ?_, i, Or.inr ⟨rfl, z⟩, ac, oc, as, ou, tk, q, w, P, A, sh, lo, sx, sy, rfl, rfl, h, hI, q11, fr, hi⟩
    · show B_X7_run_56 K (nI r) (nI k) st co (nI c) (nI i) q P ac oc sh lo = _
      unfold B_X7_run_56
      rw [if_pos ((nI_leI (a := c) (b := i) (by omega) (by omega)).mpr (by omega))]
    · show B_X8_goSteps_2 K (nI r) 0 (nI n) sc lg (nI i) w sx sy as ou A tk kp ka = _
      unfold B_X8_goSteps_2
      rw [xixn (by omega) (by decide), nI_clamp (by omega), el, if_pos ((nI_leI (a := c) (b := i) (by omega) (by omega)).mpr (by omega))]
  · have hic : i < c := by omega
    obtain ⟨s, s6, p0, p1, p2, p3, p4⟩ := sp_both hk hr hS hkd e hc hic
    obtain ⟨v, e1, e2, e3, e4⟩ := rf_both (s := s) (S := nI s) (a := sc (48 * r + 4 * i + 1)) (b := sc (48 * r + 4 * i + 2)) (c := sc (48 * r + 4 * i + 3)) rfl s6 hK h hI.x
    have C : B_X7_run_56 K (nI r) (nI k) st co (nI c) (nI i) q P ac oc sh lo = bd7 (if v = -1 then bd7 (F_X5_doAct K (nI s) (sc (48 * r + 4 * i + 1)) (sc (48 * r + 4 * i + 2)) (sc (48 * r + 4 * i + 3)) q P ac oc sh lo) (fun r_12 w_13 w_14 w_15 w_16 w_17 w_18 => some ((1 : Int32), w_13, w_14, w_15, w_16, w_17, w_18)) else some ((0 : Int32), q, P, ac, oc, sh, lo)) (fun r_16 w_17 w_18 w_19 w_20 w_21 w_22 => if r_16 = (0 : Int32) then some (.inr (nI i, w_17, w_18, w_19, w_20, w_21, w_22)) else some (.inl (nI i + (1 : Int32), w_17, w_18, w_19, w_20, w_21, w_22))) := by
      unfold B_X7_run_56 F_X7_tryStep
      rw [if_neg (mt (nI_leI (a := c) (b := i) (by omega) (by omega)).mp (by omega)), p0, xb1, p2, xb1, p3, xb1, p4, xb1, e1, xb1]
    have i1 : nI (48 * r + 4 * i) + (1 : Int32) = nI (48 * r + 4 * i + 1) := nI_1 _
    have i2 : nI (48 * r + 4 * i) + (2 : Int32) = nI (48 * r + 4 * i + 2) := nI_add _ 2
    have i3 : nI (48 * r + 4 * i) + (3 : Int32) = nI (48 * r + 4 * i + 3) := nI_add _ 3
    have M : B_X8_goSteps_2 K (nI r) 0 (nI n) sc lg (nI i) w sx sy as ou A tk kp ka = bd1 (F_X8_whyNot K (nI s) (sc (48 * r + 4 * i + 1)) (sc (48 * r + 4 * i + 2)) (sc (48 * r + 4 * i + 3)) w (nI n)) (fun r_9 => if r_9 = (-1 : Int32) then bd8 (F_X8_doNow K (nI s) (sc (48 * r + 4 * i + 1)) (sc (48 * r + 4 * i + 2)) (sc (48 * r + 4 * i + 3)) w (nI n) sx sy as ou A tk) (fun r_16 w_17 w_18 w_19 w_20 w_21 w_22 w_23 => some (.inl (nI i + (1 : Int32), w_17, w_18, w_19, w_20, w_21, w_22, w_23, kp, ka))) else some (.inr (0, nI i, w, sx, sy, as, ou, A, tk, kp, ka))) := by
      unfold B_X8_goSteps_2
      rw [xixn (show r < 5 by omega) (by decide), nI_clamp (show r < 2 ^ 31 by omega), el, if_neg (mt (nI_leI (a := c) (b := i) (by omega) (by omega)).mp (by omega))]
      simp only [i_sc, i1, i2, i3, xixn (show 48 * r + 4 * i < 240 by omega) (by decide), xixn (show 48 * r + 4 * i + 1 < 240 by omega) (by decide), xixn (show 48 * r + 4 * i + 2 < 240 by omega) (by decide), xixn (show 48 * r + 4 * i + 3 < 240 by omega) (by decide), nI_clamp (show 48 * r + 4 * i < 2 ^ 31 by omega), nI_clamp (show 48 * r + 4 * i + 1 < 2 ^ 31 by omega), nI_clamp (show 48 * r + 4 * i + 2 < 2 ^ 31 by omega), nI_clamp (show 48 * r + 4 * i + 3 < 2 ^ 31 by omega), p1, xb1, if_pos]
    rw [e2, xb1] at M
    by_cases cv : v = -1
    · obtain ⟨m, vv, ac1, oc1, as1, ou1, f1, g1, P1, A1, sh1, lo1, sx1, sy1, d1, d2, R, I1, g67, fr1, hm, -⟩ := da_both (P := P) (A := A) (sh := sh) (lo := lo) (sx := sx) (sy := sy) (ac := ac) (oc := oc) (as := as) (ou := ou) (tk := tk) rfl s6 hK h hI (e4 cv)
      have f11 : f1 11 = g1 67 := by
        obtain ⟨p, ep, hp⟩ := e_doAct (p1 := nI s) (p2 := sc (48 * r + 4 * i + 1)) (p3 := sc (48 * r + 4 * i + 2)) (p4 := sc (48 * r + 4 * i + 3)) (ac := ac) (oc := oc) (f := q) (pa := P) (sh := sh) (lo := lo) hK ⟨n, n8, h.sz⟩
        rw [d1] at ep
        rw [← Option.some.inj ep] at hp
        rw [g67, ← q11]
        exact hp.2.2
      rw [if_pos cv, d1, xb7, xb7, if_neg n10, nI_1] at C
      rw [if_pos cv, d2, xb8, nI_1] at M
      exact Or.inl ⟨hic, _, _, C, M, _, _, _, _, _, f1, g1, _, _, _, _, _, _, rfl, rfl, R, I1, f11, fun k hk => (fr1 k hk).trans (fr k hk), by omega⟩
    · rw [if_neg cv, xb7, if_pos rfl] at C
      rw [if_neg cv] at M
      exact Or.inr ⟨_, _, C, M, i, Or.inl ⟨rfl, hic⟩, ac, oc, as, ou, tk, q, w, P, A, sh, lo, sx, sy, rfl, rfl, h, hI, q11, fr, hi⟩
/-- what a script would cost -/
theorem p_run {n k K : Nat} {f g tr P A sh lo sx sy kp asd st co sc lg : Nat → Int32} {x y ac oc as ou tk ka : Int32} (hK : 200000 ≤ K) (hk : k ≤ 4) (hS : SR k st co sc lg) (hkd : KdS k st co) (h : RowR n f g) (hI : RowI n g) (h11 : f 11 = g 67) : ∃ (v ac' oc' as' ou' tk' : Int32) (tr' P' A' sh' lo' sx' sy' asd' : Nat → Int32), F_X7_run K x y st co (nI k) f tr P ac oc sh lo = some (v, tr', P', ac', oc', sh', lo') ∧ F_X8_run K x y sc lg (nI k) g (nI n) sx sy as ou A tk kp ka asd = some (v, g, sx', sy', as', ou', A', tk', kp, ka, asd') := by
  have n8 := h.n8
  obtain ⟨s1, s2⟩ := sd_both n8 h.sz
  have eS : F_X8_isScript x (nI k) = some (if 0 ≤ x ∧ x ≤ nI k - 1 then 1 else 0) := by
    unfold F_X8_isScript
    rw [show (0 : Int64) = (0 : Int32).toInt64 from rfl, m_inI, xb1]
  unfold F_X7_run F_X8_run
  by_cases c : 0 ≤ x ∧ x ≤ nI k - 1
  · obtain ⟨r, hr', rfl⟩ := in_lt (by omega) c
    obtain ⟨l, l1, l2, l3, l4, l5⟩ := hS r hr'
    rw [eS, if_pos c, xb1, if_neg n10, c_has4 hk hr', xb1, if_neg n10, s1, s2, xb1, xb1]
    by_cases z : n = 0
    · rw [if_pos z, if_pos rfl, if_pos rfl]
      exact ⟨_, _, _, _, _, _, _, _, _, _, _, _, _, _, rfl, rfl⟩
    · rw [if_neg z, if_neg n10, if_neg n10, m_in0 (m := 1) (by decide), xb1, ite10, rng_d]
      by_cases d : 0 ≤ y ∧ y ≤ nI 1
      · obtain ⟨b, hb, rfl⟩ := in_nat (n := 1) (by decide) d
        have h2 : RowR n (va_cpy f tr 0 0 81) g := h.cg (fun k hk => by rw [gcpy_at hk, Nat.zero_add]) (fun k hk => rfl)
        have t11 : (va_cpy f tr 0 0 81) 11 = g 67 := by rw [gcpy_at (by decide), Nat.zero_add, h11]
        have hz : RnR n l g kp ka 0 ((0 : Int32), va_cpy f tr 0 0 81, P, ac, oc, sh, lo) ((0 : Int32), g, sx, sy, as, ou, A, tk, kp, ka) := ⟨_, _, _, _, _, _, g, _, _, _, _, _, _, rfl, rfl, h2, hI, t11, fun _ _ => rfl, by omega⟩
        obtain ⟨u, t, x1, x2, i, y2, ac1, oc1, as1, ou1, tk1, q1, w1, P1, A1, sh1, lo1, sx1, sy1, y3, y4, R, I1, q11, fr, y7⟩ := lp_two (b := fun u9 : Int32 × (Nat → Int32) × (Nat → Int32) × Int32 × Int32 × (Nat → Int32) × (Nat → Int32) => B_X7_run_56 K (nI r) (nI k) st co (nI l) u9.1 u9.2.1 u9.2.2.1 u9.2.2.2.1 u9.2.2.2.2.1 u9.2.2.2.2.2.1 u9.2.2.2.2.2.2) (d := fun u9 : Int32 × (Nat → Int32) × (Nat → Int32) × (Nat → Int32) × Int32 × Int32 × (Nat → Int32) × Int32 × (Nat → Int32) × Int32 => B_X8_goSteps_2 K (nI r) 0 (nI n) sc lg u9.1 u9.2.1 u9.2.2.1 u9.2.2.2.1 u9.2.2.2.2.1 u9.2.2.2.2.2.1 u9.2.2.2.2.2.2.1 u9.2.2.2.2.2.2.2.1 u9.2.2.2.2.2.2.2.2.1 u9.2.2.2.2.2.2.2.2.2) (RnR n l g kp ka) (RnQ n l g kp ka) (n := l) (K := K) (K' := K) (by omega) (by omega) (fun i s t hi q => (RnR.step hK hk hr' hS hkd l3 l4 l2 q).imp (fun w => w.2) id) (fun s t q => (RnR.step hK hk hr' hS hkd l3 l4 l2 q).elim (fun w => absurd w.1 (Nat.lt_irrefl _)) id) hz
        obtain ⟨t1, t2⟩ := t
        have y4 : t2 = _ := y4
        subst y3 y4
        have y2 : (t1 = 0 ∧ i < l) ∨ (t1 = 1 ∧ i = l) := y2
        unfold F_X8_goSteps
        rw [if_pos (show 0 ≤ nI b ∧ nI b ≤ (1 : Int32) from d), if_pos d, c_cpF, xb1, c_stepsOf hk hr' l3, xb1, x1, m_aside hK, xb1, x2, xb7, xb11]
        have G : (if t1 = 0 then some (nI i, w1, sx1, sy1, as1, ou1, A1, tk1, kp, ka) else if t1 = 1 then ixF (nI r) 5 (some (lg (nI r).toNatClampNeg, w1, sx1, sy1, as1, ou1, A1, tk1, kp, ka)) else none) = some (nI i, w1, sx1, sy1, as1, ou1, A1, tk1, kp, ka) := by
          rcases y2 with ⟨w1, w2⟩ | ⟨w1, w2⟩
          · rw [w1, if_pos rfl]
          · rw [w1, if_neg (by decide), if_pos rfl, xixn (by omega) (by decide), nI_clamp (by omega), l4, w2]
        rw [G, xb10, m_bring hK fr, xb1, aside_at (by decide), xixn (by omega) (by decide), nI_clamp (by omega), l4]
        unfold J_X7_run_78
        rw [q11, h11]
        rcases (show b = 0 ∨ b = 1 by omega) with rfl | rfl
        · rw [if_neg (show ¬ nI 0 = (1 : Int32) by decide), if_neg (show ¬ nI 0 = (1 : Int32) by decide)]
          by_cases e : i = l
          · rw [if_pos ((nI_leI (a := l) (b := i) (by omega) (by omega)).mpr (by omega)), if_pos (show nI i = nI l by rw [e])]
            exact ⟨_, _, _, _, _, _, _, _, _, _, _, _, _, _, rfl, rfl⟩
          · rw [if_neg (mt (nI_leI (a := l) (b := i) (by omega) (by omega)).mp (by omega)), if_neg (show ¬ nI i = nI l from fun q => e ((nI_eq (a := i) (b := l) (by omega) (by omega)).mp q))]
            exact ⟨_, _, _, _, _, _, _, _, _, _, _, _, _, _, rfl, rfl⟩
        · rw [if_pos (by decide), if_pos (by decide)]
          exact ⟨_, _, _, _, _, _, _, _, _, _, _, _, _, _, rfl, rfl⟩
      · rw [if_neg (show ¬ (0 ≤ y ∧ y ≤ (1 : Int32)) from d), if_neg d]
        exact ⟨_, _, _, _, _, _, _, _, _, _, _, _, _, _, rfl, rfl⟩
  · have c7 : F_X4_has x (nI k) = some 0 := by
      unfold F_X4_has
      by_cases b1 : x < 0
      · rw [if_pos b1]
      · rw [if_neg b1, if_pos]
        refine Decidable.byContradiction (fun b2 => ?_)
        obtain ⟨w, hw, rfl⟩ := nnI (n := k) (by omega) b1 b2
        apply c
        rw [show nI k - (1 : Int32) = nI (k - 1) from xsub (b := 1) (by omega)]
        exact ⟨nI_nn (by omega), (nI_leI (a := w) (b := k - 1) (by omega) (by omega)).mpr (by omega)⟩
    rw [eS, if_neg c, xb1, if_pos rfl, c7, xb1, if_pos rfl]
    exact ⟨_, _, _, _, _, _, _, _, _, _, _, _, _, _, rfl, rfl⟩
end
-- 83c.32
section
/-! Stage B, 32: races and goals leave the reference's row as it was -/
/-- if it ends, then so -/
def Pc {α : Type} (x : Option α) (Q : α → Prop) : Prop := ∀ r, x = some r → Q r
def NxP {σ ρ : Type} (I : σ → Prop) (Q : ρ → Prop) : σ ⊕ ρ → Prop
  | .inl s => I s
  | .inr r => Q r
theorem pc_some {α : Type} {r : α} {Q : α → Prop} (h : Q r) : Pc (some r) Q := fun _ e => by cases e; exact h
theorem pc_ite {α : Type} {c : Prop} {d : Decidable c} {a b : Option α} {Q : α → Prop} (h1 : c → Pc a Q) (h2 : ¬ c → Pc b Q) : Pc (@ite (Option α) c d a b) Q := by
  by_cases q : c
  · rw [if_pos q]; exact h1 q
  · rw [if_neg q]; exact h2 q
theorem pc_nm {α β : Type} {x : α} {g : α → Option β} {Q : β → Prop} (h : Pc (g x) Q) : Pc (nmF x g) Q := h
theorem pc_ix {α : Type} {i : Int32} {n : Nat} {g : Option α} {Q : α → Prop} (h : Pc g Q) : Pc (ixF i n g) Q := fun r e => h r (ix_s e).2
theorem pc_nz {α : Type} {d : Int32} {g : Option α} {Q : α → Prop} (h : Pc g Q) : Pc (nzI d g) Q := fun r e => h r (nzI_s e).2
theorem pc_bd1 {t0 β : Type} {x : Option t0} {f : t0 → Option β} {P : t0 → Prop} {Q : β → Prop} (h1 : Pc x P) (h2 : ∀ a, P a → Pc (f a) Q) : Pc (bd1 x f) Q := fun r e => by
  obtain ⟨y0, q1, q2⟩ := bd1_s e
  exact h2 y0 (h1 _ q1) r q2
theorem pc_bd2 {t0 t1 β : Type} {x : Option (t0 × t1)} {f : t0 → t1 → Option β} {P : t0 × t1 → Prop} {Q : β → Prop} (h1 : Pc x P) (h2 : ∀ a b, P (a, b) → Pc (f a b) Q) : Pc (bd2 x f) Q := fun r e => by
  obtain ⟨y0, y1, q1, q2⟩ := bd2_s e
  exact h2 y0 y1 (h1 _ q1) r q2
theorem pc_bd3 {t0 t1 t2 β : Type} {x : Option (t0 × t1 × t2)} {f : t0 → t1 → t2 → Option β} {P : t0 × t1 × t2 → Prop} {Q : β → Prop} (h1 : Pc x P) (h2 : ∀ a b c, P (a, b, c) → Pc (f a b c) Q) : Pc (bd3 x f) Q := fun r e => by
  obtain ⟨y0, y1, y2, q1, q2⟩ := bd3_s e
  exact h2 y0 y1 y2 (h1 _ q1) r q2
theorem pc_bd4 {t0 t1 t2 t3 β : Type} {x : Option (t0 × t1 × t2 × t3)} {f : t0 → t1 → t2 → t3 → Option β} {P : t0 × t1 × t2 × t3 → Prop} {Q : β → Prop} (h1 : Pc x P) (h2 : ∀ a b c d, P (a, b, c, d) → Pc (f a b c d) Q) : Pc (bd4 x f) Q := fun r e => by
  obtain ⟨y0, y1, y2, y3, q1, q2⟩ := bd4_s e
  exact h2 y0 y1 y2 y3 (h1 _ q1) r q2
theorem pc_T {α : Type} {x : Option α} : Pc x (fun _ => True) := fun _ _ => trivial
theorem pc_lp {σ ρ : Type} {b : σ → Option (σ ⊕ ρ)} (I : σ → Prop) (Q : ρ → Prop) (h : ∀ s, I s → Pc (b s) (NxP I Q)) : ∀ (K : Nat) (s : σ), I s → Pc (lpF b K s) Q := by
  intro K
  induction K with
  | zero => intro s _ r e; cases e
  | succ K ih =>
    intro s hs r e
    cases q : b s with
    | none =>
      have e2 : (match b s with | none => none | some (.inl u') => lpF b K u' | some (.inr r) => some r) = some r := e
      rw [q] at e2
      cases e2
    | some x =>
      cases x with
      | inl s' =>
        rw [lp_one q] at e
        exact ih s' (h s hs _ q) r e
      | inr r' =>
        rw [lp_end q] at e
        cases e
        exact h s hs _ q
/-- the log is as it was -/
def F84 (w g : Nat → Int32) : Prop := ∀ k, 84 ≤ k → w k = g k
theorem F84.up {w g : Nat → Int32} {i : Nat} {v : Int32} (h : F84 w g) (hi : i < 84) : F84 (upd w i v) g := fun k hk => (upd_ne (by omega)).trans (h k hk)
theorem pc_ends {n K : Nat} {w g : Nat → Int32} (n8 : n ≤ 8) (h : F84 w g) : Pc (F_X8_endsRound K w (nI n)) (fun x => F84 x g) := by
  unfold F_X8_endsRound
  refine pc_bd1 pc_T (fun r _ => pc_nm (pc_bd1 (P := fun x => F84 x g) (pc_lp (fun u : Int32 × (Nat → Int32) => (∃ j, j ≤ 8 ∧ u.1 = nI j) ∧ F84 u.2 g) _ (fun u hu => ?_) K _ ⟨⟨0, by omega, rfl⟩, h.up (by decide)⟩) (fun x hx => pc_nm (pc_nm (pc_some ?_)))))
  · obtain ⟨⟨j, hj, e⟩, hF⟩ := hu
    unfold B_X8_endsRound_15
    rw [e]
    refine pc_ite (fun _ => pc_some hF) (fun q => pc_ix (pc_nm (pc_some ⟨⟨j + 1, ?_, nI_1 j⟩, ?_⟩)))
    · have := mt (nI_leI (a := n) (b := j) (by omega) (by omega)).mpr q
      omega
    · have jl := mt (nI_leI (a := n) (b := j) (by omega) (by omega)).mpr q
      rw [bm_cl (a := 56) (by rfl) (by omega)]
      exact hF.up (by omega)
  · have hx : F84 x g := hx
    exact (hx.up (by decide)).up (by decide)
theorem pc_adds {n i K : Nat} {w g : Nat → Int32} {p : Int32} (n8 : n ≤ 8) (hi : i < 8) (h : F84 w g) : Pc (F_X8_addsNow K (nI i) p w (nI n)) (fun x => F84 x.2 g) := by
  unfold F_X8_addsNow
  rw [bm_cl (a := 48) (by rfl) (by omega), bm_cl (a := 56) (by rfl) (by omega)]
  refine pc_ix (pc_ix (pc_nm (pc_bd1 pc_T (fun r _ => pc_ite (fun _ => pc_nm (pc_some ((h.up (by omega)).up (by decide)))) (fun _ => pc_ix (pc_ix (pc_nm (pc_bd2 (P := fun x : Int32 × (Nat → Int32) => F84 x.2 g) (pc_lp (fun u : Int32 × (Nat → Int32) => F84 u.2 g) _ (fun u hu => ?_) K _ ((h.up (by omega)).up (by omega))) (fun a b hb => pc_some hb)))))))))
  unfold B_X8_addsNow_48
  rw [bm_cl (a := 56) (by rfl) (by omega)]
  refine pc_bd1 pc_T (fun r _ => pc_ite (fun _ => pc_some hu) (fun _ => pc_ix (pc_bd1 pc_T (fun r2 _ => pc_ite (fun _ => pc_some hu) (fun _ => pc_ix (pc_bd1 pc_T (fun r3 _ => pc_ix (pc_nm (pc_nm (pc_ite (fun _ => pc_bd1 (pc_ends n8 ((hu.up (by omega)).up (by decide))) (fun x hx => pc_some hx)) (fun _ => pc_some ((hu.up (by omega)).up (by decide))))))))))))) 
theorem pc_goes {n K : Nat} {g asd : Nat → Int32} {x y : Int32} (hK : 200000 ≤ K) (n8 : n ≤ 8) : Pc (F_X8_goes K x y g (nI n) asd) (fun r => r.2.1 = g) := by
  unfold F_X8_goes
  rw [gm_site, xb1, ite10]
  refine pc_ite (fun c => ?_) (fun _ => pc_some rfl)
  obtain ⟨i, hi, rfl⟩ := in_lt (by omega) c
  refine pc_bd1 pc_T (fun r _ => pc_ite (fun _ => pc_some rfl) (fun _ => pc_bd1 pc_T (fun r2 _ => pc_ite (fun _ => ?_) (fun _ => pc_some rfl))))
  rw [m_aside hK, xb1]
  refine pc_bd3 (P := fun u : Int32 × Int32 × (Nat → Int32) => F84 u.2.2 g) (pc_lp (fun u : Int32 × Int32 × (Nat → Int32) => F84 u.2.2 g) _ (fun u hu => ?_) K _ (fun _ _ => rfl)) (fun a b w hw => ?_)
  · unfold B_X8_goes_36
    exact pc_bd1 pc_T (fun r _ => pc_ite (fun _ => pc_bd2 (pc_adds n8 (by omega) hu) (fun a b hb => pc_some hb)) (fun _ => pc_some hu))
  · have hw : F84 w g := hw
    rw [m_bring hK hw, xb1]
    exact pc_ite (fun _ => pc_some rfl) (fun _ => pc_some rfl)
theorem pc_race {n K : Nat} {g asd : Nat → Int32} {x y z rc rd : Int32} (hK : 200000 ≤ K) (n8 : n ≤ 8) : Pc (F_X8_race K x y z g (nI n) asd rc rd) (fun r => r.2.1 = g) := by
  unfold F_X8_race F_X8_isWatch
  by_cases c : nI n ≤ (0 : Int32)
  · rw [if_pos c, xb1, if_pos rfl]
    exact pc_some rfl
  · have h0 : 0 < n := by
      refine Nat.pos_of_ne_zero (fun e => c ?_)
      rw [e]
      decide
    rw [if_neg c, xb1, if_neg n10]
    refine pc_bd1 pc_T (fun r _ => pc_ite (fun _ => pc_some rfl) (fun _ => pc_bd1 pc_T (fun r2 _ => pc_ite (fun _ => pc_some rfl) (fun _ => ?_))))
    refine pc_bd4 (P := fun u : (Nat → Int32) × (Nat → Int32) × Int32 × Int32 => u.1 = g) ?_ (fun a b c d hw => ?_)
    · unfold F_X8_laysRace
      rw [m_aside hK, xb1]
      refine pc_bd3 (P := fun u : Int32 × (Nat → Int32) × Int32 => F84 u.2.1 g) (pc_lp (fun u : Int32 × Int32 × Int32 × (Nat → Int32) × Int32 => (∃ m, m ≤ 1600 ∧ u.2.2.1 = nI m) ∧ F84 u.2.2.2.1 g) _ (fun u hu => ?_) K _ ⟨⟨0, by omega, rfl⟩, fun _ _ => rfl⟩) (fun a w b hw => ?_)
      · obtain ⟨⟨m, hm, e⟩, hF⟩ := hu
        unfold B_X8_laysRace_22
        rw [e, nI_mod (by omega) (by omega)]
        have e2 : (200 : Int32) * nI n = nI (200 * n) := by rw [show (200 : Int32) = nI 200 from rfl, nI_mul]
        rw [e2]
        refine pc_ite (fun _ => pc_some hF) (fun q => pc_ite (fun _ => pc_some hF) (fun _ => pc_nz (pc_bd1 pc_T (fun r _ => ?_))))
        have ml := mt (nI_leI (a := 200 * n) (b := m) (by omega) (by omega)).mpr q
        have hmod : m % n < n := Nat.mod_lt _ h0
        have nx : (∃ k, k ≤ 1600 ∧ nI m + 1 = nI k) := ⟨m + 1, by omega, nI_1 m⟩
        refine pc_ite (fun _ => pc_ix (pc_ix (pc_nm (pc_ix (pc_ix (pc_nm (pc_bd1 pc_T (fun r2 _ => ?_)))))))) (fun _ => pc_some ⟨nx, hF⟩)
        rw [bm_cl (a := 0) (by rfl) (show 0 + m % n < 265 by omega), bm_cl (a := 8) (by rfl) (show 8 + m % n < 265 by omega)]
        have hF2 : F84 (upd (upd u.2.2.2.1 (0 + m % n) (u.2.2.2.1 (0 + m % n) + x)) (8 + m % n) (upd u.2.2.2.1 (0 + m % n) (u.2.2.2.1 (0 + m % n) + x) (8 + m % n) + y)) g := (hF.up (by omega)).up (by omega)
        have J : ∀ (k0 x4 x6 c9 : Int32) (w : Nat → Int32), F84 w g → Pc (J_X8_laysRace_110_r23 k0 x4 (nI m) x6 w c9) (NxP (fun u : Int32 × Int32 × Int32 × (Nat → Int32) × Int32 => (∃ m, m ≤ 1600 ∧ u.2.2.1 = nI m) ∧ F84 u.2.2.2.1 g) (fun u : Int32 × (Nat → Int32) × Int32 => F84 u.2.1 g)) := by
          intro k0 x4 x6 c9 w hw
          unfold J_X8_laysRace_110_r23
          exact pc_bd1 pc_T (fun r _ => pc_ite (fun _ => pc_some ⟨nx, hw⟩) (fun _ => pc_ite (fun _ => pc_some ⟨nx, hw⟩) (fun _ => pc_some ⟨nx, hw⟩)))
        unfold J_X8_laysRace_109_r23
        exact pc_ite (fun _ => J _ _ _ _ _ hF2) (fun _ => pc_bd1 pc_T (fun r3 _ => pc_ite (fun _ => J _ _ _ _ _ hF2) (fun _ => J _ _ _ _ _ hF2)))
      · have hw : F84 w g := hw
        unfold J_X8_laysRace_143
        rw [m_bring hK hw, xb1, xb1]
        exact pc_ite (fun _ => pc_some rfl) (fun _ => pc_some rfl)
    · have hw : a = g := hw
      exact pc_ite (fun _ => pc_some hw) (fun _ => pc_some hw)
end
-- 83c.33
section
/-! Stage B, 33: races, in both -/
/-- the row in turn t + 1, where the first j have moved -/
def RcW (n t j : Nat) (x y : Int32) (g w : Nat → Int32) : Prop := (∀ k, 16 ≤ k → w k = g k) ∧ ∀ i, i < n → (g (76 + i) = 1 → w (0 + i) = g (0 + i) ∧ w (8 + i) = g (8 + i)) ∧ (¬ g (76 + i) = 1 → w (0 + i) = g (0 + i) + nI (if i < j then t + 1 else t) * x ∧ w (8 + i) = g (8 + i) + nI (if i < j then t + 1 else t) * y)
theorem RcW.nxt {n t : Nat} {x y : Int32} {g w : Nat → Int32} (h : RcW n t n x y g w) : RcW n (t + 1) 0 x y g w := by
  refine ⟨h.1, fun i hi => ⟨(h.2 i hi).1, fun c => ?_⟩⟩
  have := (h.2 i hi).2 c
  rw [if_pos hi] at this
  rw [if_neg (Nat.not_lt_zero _)]
  exact this
theorem RcW.frz {n t j : Nat} {x y : Int32} {g w : Nat → Int32} (h : RcW n t j x y g w) (c : g (76 + j) = 1) : RcW n t (j + 1) x y g w := by
  refine ⟨h.1, fun i hi => ⟨(h.2 i hi).1, fun d => ?_⟩⟩
  have ne : ¬ i = j := fun e => d (by rw [e]; exact c)
  have := (h.2 i hi).2 d
  by_cases q : i < j
  · rw [if_pos q] at this
    rw [if_pos (by omega)]
    exact this
  · rw [if_neg q] at this
    rw [if_neg (by omega)]
    exact this
theorem RcW.mv {n t j : Nat} {x y : Int32} {g w : Nat → Int32} (n8 : n ≤ 8) (hj : j < n) (h : RcW n t j x y g w) (c : ¬ g (76 + j) = 1) : RcW n t (j + 1) x y g (mvG j x y w) ∧ mvG j x y w (0 + j) = g (0 + j) + nI (t + 1) * x ∧ mvG j x y w (8 + j) = g (8 + j) + nI (t + 1) * y := by
  have q := (h.2 j hj).2 c
  rw [if_neg (Nat.lt_irrefl _)] at q
  have e0 : mvG j x y w (0 + j) = g (0 + j) + nI (t + 1) * x := by
    unfold mvG
    rw [upd_ne (by omega), upd_at, q.1, ml_st]
  have e8 : mvG j x y w (8 + j) = g (8 + j) + nI (t + 1) * y := by
    unfold mvG
    rw [upd_at, upd_ne (by omega), q.2, ml_st]
  have eo : ∀ k, ¬ k = 0 + j → ¬ k = 8 + j → mvG j x y w k = w k := fun k a b => by
    unfold mvG
    rw [upd_ne b, upd_ne a]
  refine ⟨⟨fun k hk => (eo k (by omega) (by omega)).trans (h.1 k hk), fun i hi => ?_⟩, e0, e8⟩
  by_cases e : i = j
  · rw [e, if_pos (Nat.lt_succ_self _)]
    exact ⟨fun d => absurd d c, fun _ => ⟨e0, e8⟩⟩
  · rw [eo (0 + i) (by omega) (by omega), eo (8 + i) (by omega) (by omega)]
    have r := h.2 i hi
    by_cases q : i < j
    · rw [if_pos q] at r
      rw [if_pos (by omega)]
      exact r
    · rw [if_neg q] at r
      rw [if_neg (by omega)]
      exact r
/-- the reference's body -/
abbrev rcD (K n : Nat) (x y : Int32) : Int32 × Int32 × Int32 × (Nat → Int32) × Int32 → Option ((Int32 × Int32 × Int32 × (Nat → Int32) × Int32) ⊕ (Int32 × (Nat → Int32) × Int32)) := fun u9 => B_X8_laysRace_22 K x y (nI n) u9.1 u9.2.1 u9.2.2.1 u9.2.2.2.1 u9.2.2.2.2
theorem m_rcB {n t j K mv : Nat} {f g w : Nat → Int32} {x y : Int32} (hK : 200000 ≤ K) (h : RowR n f g) (hg : RowG g) (hj : j < n) (ht : t < 200) (q : RcW n t j x y g w) : B_X8_laysRace_22 K x y (nI n) 1 (nI mv) (nI (t * n + j)) w (-1) = if g (76 + j) = 1 then some (.inl (1, nI mv, nI (t * n + j + 1), w, -1)) else some (.inl (if inR (g (0 + j) + nI (t + 1) * x) ∧ inR (g (8 + j) + nI (t + 1) * y) then (if qvl f (cdr f j 0 + nI (t + 1) * x) (cdr f j 1 + nI (t + 1) * y) = 0 then (0, nI (mv + 1), nI (t * n + j + 1), mvG j x y w, nI j) else (1, nI (mv + 1), nI (t * n + j + 1), mvG j x y w, -1)) else (0, nI (mv + 1), nI (t * n + j + 1), mvG j x y w, -1))) := by
  have n8 := h.n8
  have tn : t * n ≤ 199 * n := Nat.mul_le_mul_right n (by omega)
  have tn2 : t * n ≤ 199 * 8 := Nat.le_trans tn (Nat.mul_le_mul_left 199 n8)
  have e2 : (200 : Int32) * nI n = nI (200 * n) := by rw [show (200 : Int32) = nI 200 from rfl, nI_mul]
  have md : (t * n + j) % n = j := by rw [Nat.mul_add_mod', Nat.mod_eq_of_lt hj]
  have ix : nI (t * n + j) - nI (t * n + j) / nI n * nI n = nI j := by rw [nI_mod (by omega) (by omega), md]
  have nz : ¬ nI n = (0 : Int32) := nI_ne0 (by omega) (by omega)
  have w76 : w (76 + j) = g (76 + j) := q.1 _ (by omega)
  unfold B_X8_laysRace_22
  rw [e2, if_neg (mt (nI_leI (a := 200 * n) (b := t * n + j) (by omega) (by omega)).mp (by omega)), if_neg n10, xnz nz, ix, fz_m (by omega), xb1, ite10, w76, nI_1]
  by_cases c : g (76 + j) = 1
  · rw [if_pos c, if_pos c]
  · rw [if_neg c, if_neg c]
    obtain ⟨q2, m0, m8⟩ := q.mv n8 hj c
    simp only [bm_ix (A := (0 : Int32)) (a := 0) rfl (show 0 + j < 265 by omega), bm_ix (A := (8 : Int32)) (a := 8) rfl (show 8 + j < 265 by omega), bm_cl (A := (0 : Int32)) (a := 0) rfl (show 0 + j < 265 by omega), bm_cl (A := (8 : Int32)) (a := 8) rfl (show 8 + j < 265 by omega), xnm]
    show bd1 (F_X8_canStand (nI j) (mvG j x y w)) (fun r_16 => if r_16 = (0 : Int32) then J_X8_laysRace_109_r23 (nI mv + (1 : Int32)) (nI (t * n + j)) (nI j) (mvG j x y w) (-1) else bd1 (F_X8_isQuiet K (nI j) (mvG j x y w) (nI n)) (fun r_25 => if r_25 = (0 : Int32) then J_X8_laysRace_109_r23 (nI mv + (1 : Int32)) (nI (t * n + j)) (nI j) (mvG j x y w) (-1) else J_X8_laysRace_110_r23 (1 : Int32) (nI mv + (1 : Int32)) (nI (t * n + j)) (nI j) (mvG j x y w) (-1))) = _
    unfold J_X8_laysRace_109_r23 J_X8_laysRace_110_r23
    rw [m_stand (by omega), xb1, ite10, m0, m8, iq_sh hK h hg hj q2.1 m0 m8, xb1, nI_1, nI_1]
    simp only [xb1, ite10]
    by_cases d : inR (g (0 + j) + nI (t + 1) * x) ∧ inR (g (8 + j) + nI (t + 1) * y)
    · simp only [if_pos d]
      by_cases e : qvl f (cdr f j 0 + nI (t + 1) * x) (cdr f j 1 + nI (t + 1) * y) = 0
      · rw [if_pos e, if_pos e, if_pos trivial]
      · rw [if_neg e, if_neg e, if_neg n10]
    · simp only [if_neg d]
theorem c_rcB {n t j mv : Nat} {f g : Nat → Int32} {x y : Int32} (h : RowR n f g) (hI : RowI n g) (hj : j < n) (ht : t < 200) (hx : in9 x) (hy : in9 y) : B_X7_race_46 x y f (nI (t + 1)) (nI mv) (nI j) = if g (76 + j) = 1 then some (.inl (nI mv, nI (j + 1))) else if inR (g (0 + j) + nI (t + 1) * x) ∧ inR (g (8 + j) + nI (t + 1) * y) then (if qvl f (cdr f j 0 + nI (t + 1) * x) (cdr f j 1 + nI (t + 1) * y) = 0 then some (.inr (1, nI (mv + 1), nI j)) else some (.inl (nI (mv + 1), nI (j + 1)))) else some (.inr (0, nI mv, nI j)) := by
  have n8 := h.n8
  have hX := (hI.2 (by omega)).1 j hj
  obtain ⟨-, r1, r2⟩ := ml_rng (m := t + 1) (by omega) hx
  obtain ⟨-, r3, r4⟩ := ml_rng (m := t + 1) (by omega) hy
  have k1 := inR_add hX.1 ⟨r1, r2⟩
  have k2 := inR_add hX.2 ⟨r3, r4⟩
  have l3 := inR_int hX.1
  have l4 := inR_int hX.2
  unfold B_X7_race_46 F_X5_sites
  rw [xb1, h.sz, if_neg (mt (nI_leI (a := n) (b := j) (by omega) (by omega)).mp (by omega)), fz_c h.1 hj, xb1, ite10, c_room h hj (by omega) (by omega), xb1, ite10, c_qw n8 hj, xb1, nI_1, nI_1]
/-- how a race ends: nobody, or one with so many moves -/
def RcE (g : Nat → Int32) (tg : Nat) (a b : Int32) (u : Int32 × (Nat → Int32) × Int32) : Prop := (∀ k, 84 ≤ k → u.2.1 k = g k) ∧ ((tg = 0 ∧ u.2.2 = -1) ∨ (tg = 1 ∧ u.2.2 = b ∧ u.1 = a ∧ ¬ b = -1))
theorem rc_in {n t K : Nat} {f g : Nat → Int32} {x y : Int32} (hK : 200000 ≤ K) (h : RowR n f g) (hI : RowI n g) (ht : t < 200) (hx : in9 x) (hy : in9 y) : ∀ (k j mv : Nat) (w : Nat → Int32), j + k = n → RcW n t j x y g w → (∃ mv' w', (∀ J, k < J → lpF (fun u9 : Int32 × Int32 => B_X7_race_46 x y f (nI (t + 1)) u9.1 u9.2) J (nI mv, nI j) = some (2, nI mv', nI n)) ∧ (∀ J, lpF (rcD K n x y) (k + J) (1, nI mv, nI (t * n + j), w, -1) = lpF (rcD K n x y) J (1, nI mv', nI (t * n + n), w', -1)) ∧ RcW n t n x y g w') ∨ (∃ tg a b u, (∀ J, k < J → lpF (fun u9 : Int32 × Int32 => B_X7_race_46 x y f (nI (t + 1)) u9.1 u9.2) J (nI mv, nI j) = some (tg, a, b)) ∧ (∀ J, 2 ≤ J → lpF (rcD K n x y) (k + J) (1, nI mv, nI (t * n + j), w, -1) = some u) ∧ RcE g tg a b u) := by
  have n8 := h.n8
  intro k
  induction k with
  | zero =>
    intro j mv w hj q
    obtain rfl : n = j := by omega
    refine Or.inl ⟨mv, w, fun J hJ => ?_, fun J => by rw [Nat.zero_add], q⟩
    obtain ⟨J2, rfl⟩ : ∃ J2, J = J2 + 1 := ⟨J - 1, by omega⟩
    refine lp_end ?_
    show B_X7_race_46 x y f (nI (t + 1)) (nI mv) (nI n) = _
    unfold B_X7_race_46 F_X5_sites
    rw [xb1, h.sz, if_pos ((nI_leI (a := n) (b := n) (by omega) (by omega)).mpr (Nat.le_refl _))]
  | succ k ih =>
    intro j mv w hj q
    have jn : j < n := by omega
    have C := c_rcB (mv := mv) h hI jn ht hx hy
    have M := m_rcB (mv := mv) hK h hI.1 jn ht q
    have go : ∀ (mv1 : Nat) (w1 : Nat → Int32), B_X7_race_46 x y f (nI (t + 1)) (nI mv) (nI j) = some (.inl (nI mv1, nI (j + 1))) → B_X8_laysRace_22 K x y (nI n) 1 (nI mv) (nI (t * n + j)) w (-1) = some (.inl (1, nI mv1, nI (t * n + j + 1), w1, -1)) → RcW n t (j + 1) x y g w1 → (∃ mv' w', (∀ J, k + 1 < J → lpF (fun u9 : Int32 × Int32 => B_X7_race_46 x y f (nI (t + 1)) u9.1 u9.2) J (nI mv, nI j) = some (2, nI mv', nI n)) ∧ (∀ J, lpF (rcD K n x y) (k + 1 + J) (1, nI mv, nI (t * n + j), w, -1) = lpF (rcD K n x y) J (1, nI mv', nI (t * n + n), w', -1)) ∧ RcW n t n x y g w') ∨ (∃ tg a b u, (∀ J, k + 1 < J → lpF (fun u9 : Int32 × Int32 => B_X7_race_46 x y f (nI (t + 1)) u9.1 u9.2) J (nI mv, nI j) = some (tg, a, b)) ∧ (∀ J, 2 ≤ J → lpF (rcD K n x y) (k + 1 + J) (1, nI mv, nI (t * n + j), w, -1) = some u) ∧ RcE g tg a b u) := by
      intro mv1 w1 e1 e2 q1
      have s1 : ∀ J, k + 1 < J → lpF (fun u9 : Int32 × Int32 => B_X7_race_46 x y f (nI (t + 1)) u9.1 u9.2) J (nI mv, nI j) = lpF (fun u9 : Int32 × Int32 => B_X7_race_46 x y f (nI (t + 1)) u9.1 u9.2) (J - 1) (nI mv1, nI (j + 1)) := fun J hJ => by
        obtain ⟨J2, rfl⟩ : ∃ J2, J = J2 + 1 := ⟨J - 1, by omega⟩
        rw [lp_one (u' := (nI mv1, nI (j + 1))) e1]
        rfl
      have s2 : ∀ J, lpF (rcD K n x y) (k + 1 + J) (1, nI mv, nI (t * n + j), w, -1) = lpF (rcD K n x y) (k + J) (1, nI mv1, nI (t * n + (j + 1)), w1, -1) := fun J => by
        rw [show k + 1 + J = (k + J) + 1 by omega, lp_one (u' := (1, nI mv1, nI (t * n + j + 1), w1, -1)) e2, Nat.add_assoc]
      rcases ih (j + 1) mv1 w1 (by omega) q1 with ⟨mv', w', a1, a2, a3⟩ | ⟨tg, a, b, u, a1, a2, a3⟩
      · exact Or.inl ⟨mv', w', fun J hJ => (s1 J hJ).trans (a1 _ (by omega)), fun J => (s2 J).trans (a2 J), a3⟩
      · exact Or.inr ⟨tg, a, b, u, fun J hJ => (s1 J hJ).trans (a1 _ (by omega)), fun J hJ => (s2 J).trans (a2 J hJ), a3⟩
    have stop : ∀ (mv1 : Nat) (w1 : Nat → Int32) (rc : Int32) (tg : Nat) (a b : Int32), B_X7_race_46 x y f (nI (t + 1)) (nI mv) (nI j) = some (.inr (tg, a, b)) → B_X8_laysRace_22 K x y (nI n) 1 (nI mv) (nI (t * n + j)) w (-1) = some (.inl (0, nI mv1, nI (t * n + j + 1), w1, rc)) → RcE g tg a b (nI mv1, w1, rc) → (∃ tg a b u, (∀ J, k + 1 < J → lpF (fun u9 : Int32 × Int32 => B_X7_race_46 x y f (nI (t + 1)) u9.1 u9.2) J (nI mv, nI j) = some (tg, a, b)) ∧ (∀ J, 2 ≤ J → lpF (rcD K n x y) (k + 1 + J) (1, nI mv, nI (t * n + j), w, -1) = some u) ∧ RcE g tg a b u) := by
      intro mv1 w1 rc tg a b e1 e2 q1
      refine ⟨tg, a, b, (nI mv1, w1, rc), fun J hJ => ?_, fun J hJ => ?_, q1⟩
      · obtain ⟨J2, rfl⟩ : ∃ J2, J = J2 + 1 := ⟨J - 1, by omega⟩
        exact lp_end e1
      · obtain ⟨J2, hJ2⟩ : ∃ J2, k + 1 + J = J2 + 1 + 1 := ⟨k + J - 1, by omega⟩
        rw [hJ2, lp_one (u' := (0, nI mv1, nI (t * n + j + 1), w1, rc)) e2]
        refine lp_end ?_
        show B_X8_laysRace_22 K x y (nI n) 0 (nI mv1) (nI (t * n + j + 1)) w1 rc = _
        unfold B_X8_laysRace_22
        by_cases z : (200 : Int32) * nI n ≤ nI (t * n + j + 1)
        · rw [if_pos z]
        · rw [if_neg z, if_pos rfl]
    by_cases c : g (76 + j) = 1
    · rw [if_pos c] at C M
      exact go mv w C M (q.frz c)
    · rw [if_neg c] at C M
      obtain ⟨q2, m0, m8⟩ := q.mv n8 jn c
      by_cases d : inR (g (0 + j) + nI (t + 1) * x) ∧ inR (g (8 + j) + nI (t + 1) * y)
      · rw [if_pos d] at C M
        by_cases e : qvl f (cdr f j 0 + nI (t + 1) * x) (cdr f j 1 + nI (t + 1) * y) = 0
        · rw [if_pos e] at C M
          exact Or.inr (stop _ _ _ _ _ _ C M ⟨fun k hk => q2.1 k (by omega), Or.inr ⟨rfl, rfl, rfl, nI_ne_m1 (by omega)⟩⟩)
        · rw [if_neg e] at C M
          exact go (mv + 1) _ C M q2
      · rw [if_neg d] at C M
        exact Or.inr (stop _ _ _ _ _ _ C M ⟨fun k hk => q2.1 k (by omega), Or.inl ⟨rfl, rfl⟩⟩)
/-- how the whole race ends -/
def RcF (g : Nat → Int32) (r : Nat × Int32 × Int32) (u : Int32 × (Nat → Int32) × Int32) : Prop := (∀ k, 84 ≤ k → u.2.1 k = g k) ∧ (((r.1 = 0 ∨ r.1 = 2) ∧ u.2.2 = -1) ∨ (r.1 = 1 ∧ u.2.2 = r.2.2 ∧ u.1 = r.2.1 ∧ ¬ u.2.2 = -1))
theorem rc_out {n K : Nat} {f g : Nat → Int32} {x y : Int32} (hK : 200000 ≤ K) (h : RowR n f g) (hI : RowI n g) (h0 : 0 < n) (hx : in9 x) (hy : in9 y) : ∀ (k t mv : Nat) (w : Nat → Int32), t + k = 200 → RcW n t 0 x y g w → ∃ r u, (∀ J, k < J → lpF (fun u9 : Int32 × Int32 => B_X7_race_35 K x y f u9.1 u9.2) J (nI mv, nI (t + 1)) = some r) ∧ (∀ J, 2 ≤ J → lpF (rcD K n x y) (k * n + J) (1, nI mv, nI (t * n), w, -1) = some u) ∧ RcF g r u := by
  have n8 := h.n8
  intro k
  induction k with
  | zero =>
    intro t mv w ht q
    refine ⟨(2, nI mv, 0), (nI mv, w, -1), fun J hJ => ?_, fun J hJ => ?_, fun k hk => q.1 k (by omega), Or.inl ⟨Or.inr rfl, rfl⟩⟩
    · obtain ⟨J2, rfl⟩ : ∃ J2, J = J2 + 1 := ⟨J - 1, by omega⟩
      refine lp_end ?_
      show B_X7_race_35 K x y f (nI mv) (nI (t + 1)) = _
      unfold B_X7_race_35
      rw [if_pos (show (200 : Int32) < nI (t + 1) from (nI_ltI (a := 200) (b := t + 1) (by omega) (by omega)).mpr (by omega))]
    · obtain ⟨J2, hJ2⟩ : ∃ J2, 0 * n + J = J2 + 1 := ⟨J - 1, by omega⟩
      rw [hJ2]
      refine lp_end ?_
      show B_X8_laysRace_22 K x y (nI n) 1 (nI mv) (nI (t * n)) w (-1) = _
      unfold B_X8_laysRace_22
      rw [show (200 : Int32) * nI n = nI (200 * n) by rw [show (200 : Int32) = nI 200 from rfl, nI_mul], show t = 200 by omega, if_pos ((nI_leI (a := 200 * n) (b := 200 * n) (by omega) (by omega)).mpr (Nat.le_refl _))]
  | succ k ih =>
    intro t mv w ht q
    have kn : (k + 1) * n = n + k * n := by rw [Nat.add_mul, Nat.one_mul, Nat.add_comm]
    have c1 : ¬ (200 : Int32) < nI (t + 1) := mt (nI_ltI (a := 200) (b := t + 1) (by omega) (by omega)).mp (by omega)
    rcases rc_in hK h hI (show t < 200 by omega) hx hy n 0 mv w (by omega) q with ⟨mv', w', a1, a2, a3⟩ | ⟨tg, a, b, u, a1, a2, fr, a3⟩
    · obtain ⟨r, u, b1, b2, b3⟩ := ih (t + 1) mv' w' (by omega) a3.nxt
      refine ⟨r, u, fun J hJ => ?_, fun J hJ => ?_, b3⟩
      · obtain ⟨J2, rfl⟩ : ∃ J2, J = J2 + 1 := ⟨J - 1, by omega⟩
        rw [lp_one (u' := (nI mv', nI (t + 1 + 1))) (show (fun u9 : Int32 × Int32 => B_X7_race_35 K x y f u9.1 u9.2) (nI mv, nI (t + 1)) = _ by
          show B_X7_race_35 K x y f (nI mv) (nI (t + 1)) = _
          unfold B_X7_race_35
          rw [if_neg c1, show ((nI mv, (0 : Int32)) : Int32 × Int32) = (nI mv, nI 0) from rfl, a1 K (by omega), xb3, if_neg (by decide), if_neg (by decide), if_pos rfl, nI_1])]
        exact b1 J2 (by omega)
      · have z := a2 (k * n + J)
        rw [Nat.add_zero, show t * n + n = (t + 1) * n by rw [Nat.add_mul, Nat.one_mul]] at z
        rw [kn, Nat.add_assoc, z]
        exact b2 J hJ
    · have hz := a2 (k * n + 2) (by omega)
      refine ⟨(tg, (if tg = 0 then 0 else a), (if tg = 0 then 0 else b)), u, fun J hJ => ?_, fun J hJ => ?_, fr, ?_⟩
      · obtain ⟨J2, rfl⟩ : ∃ J2, J = J2 + 1 := ⟨J - 1, by omega⟩
        refine lp_end ?_
        show B_X7_race_35 K x y f (nI mv) (nI (t + 1)) = _
        unfold B_X7_race_35
        rw [if_neg c1, show ((nI mv, (0 : Int32)) : Int32 × Int32) = (nI mv, nI 0) from rfl, a1 K (by omega), xb3]
        rcases a3 with ⟨e, -⟩ | ⟨e, -⟩
        · rw [e, if_pos rfl, if_pos rfl, if_pos rfl]
        · rw [e, if_neg (by decide), if_pos rfl, if_neg (by decide), if_neg (by decide)]
      · have z := a2 (k * n + J) (by omega)
        rw [Nat.add_zero] at z
        rw [kn, Nat.add_assoc]
        exact z
      · rcases a3 with ⟨e, e2⟩ | ⟨e, e2, e3, e4⟩
        · exact Or.inl ⟨Or.inl e, e2⟩
        · refine Or.inr ⟨e, ?_, ?_, by rw [e2]; exact e4⟩
          · show u.2.2 = if tg = 0 then 0 else b
            rw [e, if_neg (by decide), e2]
          · show u.1 = if tg = 0 then 0 else a
            rw [e, if_neg (by decide), e3]
/-- a race -/
theorem p_race {n K : Nat} {f g asd : Nat → Int32} {x y z rc rd : Int32} (hK : 200000 ≤ K) (h : RowR n f g) (hI : RowI n g) : ∃ (v rc' rd' : Int32) (asd' : Nat → Int32), F_X7_race K x y z f = some v ∧ F_X8_race K x y z g (nI n) asd rc rd = some (v, g, asd', rc', rd') := by
  have n8 := h.n8
  obtain ⟨s1, s2⟩ := sd_both n8 h.sz
  unfold F_X7_race F_X8_race
  by_cases e : n = 0
  · rw [s1, s2, if_pos e, xb1, xb1, if_pos rfl, if_pos rfl]
    exact ⟨_, _, _, _, rfl, rfl⟩
  · rw [s1, s2, if_neg e, xb1, xb1, if_neg n10, if_neg n10, c_way, m_way, xb1, xb1, ite10, ite10, m_in0 (m := 1) (by decide), xb1, ite10, rng_d]
    by_cases a : (in9 x ∧ in9 y) ∧ ¬ (x = 0 ∧ y = 0)
    · rw [if_pos a, if_pos a]
      by_cases d : 0 ≤ z ∧ z ≤ nI 1
      · rw [if_pos (show 0 ≤ z ∧ z ≤ (1 : Int32) from d), if_pos d]
        have q0 : RcW n 0 0 x y g g := ⟨fun _ _ => rfl, fun i hi => ⟨fun _ => ⟨rfl, rfl⟩, fun _ => by rw [if_neg (Nat.not_lt_zero _), show nI 0 = (0 : Int32) from rfl, Int32.zero_mul, Int32.zero_mul, Int32.add_zero, Int32.add_zero]; exact ⟨rfl, rfl⟩⟩⟩
        obtain ⟨⟨tg, va, vb⟩, ⟨u1, w, u2⟩, l1, l2, fr, hQ⟩ := rc_out hK h hI (by omega) a.1.1 a.1.2 200 0 0 g (by omega) q0
        have l1 := l1 K (by omega)
        have l2 := l2 (K - 200 * n) (by omega)
        rw [show 200 * n + (K - 200 * n) = K by omega, Nat.zero_mul] at l2
        have fr : ∀ k, 84 ≤ k → w k = g k := fr
        have l1 : lpF (fun u9 : Int32 × Int32 => B_X7_race_35 K x y f u9.1 u9.2) K ((0 : Int32), (1 : Int32)) = some (tg, va, vb) := l1
        have l2 : lpF (fun u9 : Int32 × Int32 × Int32 × (Nat → Int32) × Int32 => B_X8_laysRace_22 K x y (nI n) u9.1 u9.2.1 u9.2.2.1 u9.2.2.2.1 u9.2.2.2.2) K ((1 : Int32), (0 : Int32), (0 : Int32), g, (-1 : Int32)) = some (u1, w, u2) := l2
        unfold F_X8_laysRace J_X8_laysRace_143
        rw [l1, xb3, m_aside hK, xb1, l2, xb3, m_bring hK fr, xb1, xb1]
        obtain ⟨b, hb, rfl⟩ := in_nat (n := 1) (by decide) d
        rcases hQ with ⟨e1, e2⟩ | ⟨e1, e2, e3, e4⟩
        · have e1 : tg = 0 ∨ tg = 2 := e1
          have e2 : u2 = -1 := e2
          rw [e2, if_pos rfl, xb4]
          have L : (if tg = 0 then some (-1 : Int32) else if tg = 1 then if nI b = (0 : Int32) then some vb else some va else if tg = 2 then some (-1 : Int32) else none) = some (-1) := by
            rcases e1 with e1 | e1
            · rw [e1, if_pos rfl]
            · rw [e1, if_neg (by decide), if_neg (by decide), if_pos rfl]
          rw [L]
          by_cases q : nI b = (0 : Int32)
          · rw [if_pos q]
            exact ⟨_, _, _, _, rfl, rfl⟩
          · rw [if_neg q]
            exact ⟨_, _, _, _, rfl, rfl⟩
        · have e1 : tg = 1 := e1
          have e2 : u2 = vb := e2
          have e3 : u1 = va := e3
          have e4 : ¬ u2 = -1 := e4
          rw [if_neg e4, xb4, e1, if_neg (by decide), if_pos rfl, e2, e3]
          by_cases q : nI b = (0 : Int32)
          · rw [if_pos q, if_pos q]
            exact ⟨_, _, _, _, rfl, rfl⟩
          · rw [if_neg q, if_neg q]
            exact ⟨_, _, _, _, rfl, rfl⟩
      · rw [if_neg (show ¬ (0 ≤ z ∧ z ≤ (1 : Int32)) from d), if_neg d]
        exact ⟨_, _, _, _, rfl, rfl⟩
    · rw [if_neg a, if_neg a]
      exact ⟨_, _, _, _, rfl, rfl⟩
end
-- 83c.34
section
/-! Stage B, 34: one after the other is added to a site, till the goal is reached -/
theorem gpx0 {σ ρ : Type} {b : σ → Option (σ ⊕ ρ)} {K : Nat} {u0 : σ} {r : ρ} (hK : 0 < K) (h0 : b u0 = some (.inr r)) : lpF b K u0 = some r := by
  obtain ⟨J, rfl⟩ : ∃ J, K = J + 1 := ⟨K - 1, by omega⟩
  exact lp_end h0
theorem gpx1 {σ ρ : Type} {b : σ → Option (σ ⊕ ρ)} {K : Nat} {u0 u1 : σ} {r : ρ} (hK : 1 < K) (h0 : b u0 = some (.inl u1)) (h1 : b u1 = some (.inr r)) : lpF b K u0 = some r := by
  obtain ⟨J, rfl⟩ : ∃ J, K = J + 1 + 1 := ⟨K - 2, by omega⟩
  exact (lp_one h0).trans (lp_end h1)
theorem sgm_at {g : Nat → Int32} {i : Nat} {d : Int32} : ∀ n, i < n → sgm (fun j => upd g (48 + i) (g (48 + i) + d) (48 + j)) n = sgm (fun j => g (48 + j)) n + d := by
  intro n
  induction n with
  | zero => exact fun h => absurd h (Nat.not_lt_zero _)
  | succ m ih =>
    intro hi
    show sgm (fun j => upd g (48 + i) (g (48 + i) + d) (48 + j)) m + upd g (48 + i) (g (48 + i) + d) (48 + m) = sgm (fun j => g (48 + j)) m + g (48 + m) + d
    by_cases e : i = m
    · subst e
      have E : sgm (fun j => upd g (48 + i) (g (48 + i) + d) (48 + j)) i = sgm (fun j => g (48 + j)) i := sgm_eq i (fun j hj => upd_ne (by omega))
      rw [upd_at, E]
      exact (Int32.add_assoc _ _ _).symm
    · rw [ih (by omega), upd_ne (show ¬ 48 + m = 48 + i by omega)]
      generalize sgm (fun j => g (48 + j)) m = S
      generalize g (48 + m) = x
      rw [Int32.add_assoc S d x, Int32.add_comm d x, Int32.add_assoc S x d]
/-- the counts of a row, as numbers: goal, known, signals, rest of site i, all counts; the rest as at first -/
def GD (n i G k s r T : Nat) (g0 g : Nat → Int32) : Prop := (∃ f, RowR n f g) ∧ g 66 = nI G ∧ g 73 = nI k ∧ g 75 = nI s ∧ g (56 + i) = nI r ∧ sgm (fun j => g (48 + j)) n = nI T ∧ ∀ j, 84 ≤ j → g j = g0 j
theorem GD.n8 {n i G k s r T : Nat} {g0 g : Nat → Int32} (h : GD n i G k s r T g0 g) : n ≤ 8 := by
  obtain ⟨⟨f, hR⟩, -⟩ := h
  exact hR.n8
theorem GD.stp {n i G k s r T : Nat} {g0 g : Nat → Int32} (h : GD n i G k s r T g0 g) (hG : G < 2 ^ 30) (hk : k < 2 ^ 30) : st n g = (G - k) / (2 * n) := by
  obtain ⟨-, e66, e73, -⟩ := h
  unfold st
  rw [e66, e73, pk_sub_toInt hG hk, show ((G : Int) - k).toNat = G - k by omega]
theorem GD.put {n i G k s r T : Nat} {g0 g : Nat → Int32} (h : GD n i G k s r T g0 g) (hi : i < n) : GD n i G k s r (T + 1) g0 (upd g (48 + i) (g (48 + i) + 1)) := by
  have n8 := h.n8
  obtain ⟨⟨f, hR⟩, e66, e73, e75, e56, eT, fr⟩ := h
  have R1 : RowR n (upd f (17 + 8 * i + 6) (g (48 + i) + 1)) (upd g (48 + i) (g (48 + i) + 1)) := hR.put (c := 6) hi (by decide) (by decide) (by decide) (g (48 + i) + 1)
  exact ⟨⟨_, R1⟩, (upd_ne (by omega)).trans e66, (upd_ne (by omega)).trans e73, (upd_ne (by omega)).trans e75, (upd_ne (by omega)).trans e56, (sgm_at n hi).trans (by rw [eT]; exact nI_1 T), fun j hj => (upd_ne (by omega)).trans (fr j hj)⟩
theorem GD.rest {n i G k s r T : Nat} {g0 g : Nat → Int32} (h : GD n i G k s r T g0 g) (hi : i < n) (q : Nat) : GD n i G k s q T g0 (upd g (56 + i) (nI q)) := by
  have n8 := h.n8
  obtain ⟨⟨f, hR⟩, e66, e73, e75, e56, eT, fr⟩ := h
  have R1 : RowR n (upd f (17 + 8 * i + 7) (nI q)) (upd g (56 + i) (nI q)) := hR.put (c := 7) hi (by decide) (by decide) (by decide) (nI q)
  exact ⟨⟨_, R1⟩, (upd_ne (by omega)).trans e66, (upd_ne (by omega)).trans e73, (upd_ne (by omega)).trans e75, upd_at, (sgm_eq n (fun j hj => upd_ne (by omega))).trans eT, fun j hj => (upd_ne (by omega)).trans (fr j hj)⟩
theorem GD.sig {n i G k s r T : Nat} {g0 g : Nat → Int32} (h : GD n i G k s r T g0 g) (hi : i < n) (q : Nat) : GD n i G k q r T g0 (upd g 75 (nI q)) := by
  have n8 := h.n8
  obtain ⟨⟨f, hR⟩, e66, e73, e75, e56, eT, fr⟩ := h
  have R1 : RowR n (upd f 9 (nI q)) (upd g 75 (nI q)) := hR.scal (by decide) (nI q)
  exact ⟨⟨_, R1⟩, (upd_ne (by omega)).trans e66, (upd_ne (by omega)).trans e73, upd_at, (upd_ne (by omega)).trans e56, (sgm_eq n (fun j hj => upd_ne (by omega))).trans eT, fun j hj => (upd_ne (by omega)).trans (fr j hj)⟩
theorem GD.known {n i G k s r T : Nat} {g0 g : Nat → Int32} (h : GD n i G k s r T g0 g) (hi : i < n) (q : Nat) : GD n i G q s r T g0 (upd g 73 (nI q)) := by
  have n8 := h.n8
  obtain ⟨⟨f, hR⟩, e66, e73, e75, e56, eT, fr⟩ := h
  have R1 : RowR n (upd f 8 (nI q)) (upd g 73 (nI q)) := hR.scal (by decide) (nI q)
  exact ⟨⟨_, R1⟩, (upd_ne (by omega)).trans e66, upd_at, (upd_ne (by omega)).trans e75, (upd_ne (by omega)).trans e56, (sgm_eq n (fun j hj => upd_ne (by omega))).trans eT, fun j hj => (upd_ne (by omega)).trans (fr j hj)⟩
theorem ad_zero {n i G k s r T K : Nat} {g0 g : Nat → Int32} (h : GD n i G k s r T g0 g) (hi : i < n) (hG : G < 2 ^ 30) (hk : k < 2 ^ 30) (hz : (G - k) / (2 * n) = 0) : ∃ g', F_X8_addsNow K (nI i) 1 g (nI n) = some (nI 1, g') ∧ GD n i G (k + 1) s r (T + 1) g0 g' := by
  have n8 := h.n8
  have h1 := h.put hi
  unfold F_X8_addsNow
  rw [bm_ix (a := 48) (by rfl) (by omega), bm_ix (a := 48) (by rfl) (by omega), bm_cl (a := 48) (by rfl) (by omega)]
  simp only [xnm]
  generalize upd g (48 + i) (g (48 + i) + 1) = g1 at h1 ⊢
  have e73 : g1 73 = nI k := h1.2.2.1
  rw [m_step (by omega) n8, xb1, h1.stp hG hk, hz, if_pos (show nI 0 = (0 : Int32) from rfl), e73, nI_1]
  exact ⟨_, rfl, h1.known hi (k + 1)⟩
theorem ad_pre {n i G k s r T K : Nat} {g0 g : Nat → Int32} (h : GD n i G k s r T g0 g) (hi : i < n) (hG : G < 2 ^ 30) (hk : k < 2 ^ 30) (hz : 0 < (G - k) / (2 * n)) : ∃ g2, F_X8_addsNow K (nI i) 1 g (nI n) = bd2 (lpF (fun u9 : Int32 × (Nat → Int32) => B_X8_addsNow_48 K (nI i) (nI n) u9.1 u9.2) K ((0 : Int32), g2)) (fun a b => some (a, b)) ∧ GD n i G k s (r + 1) (T + 1) g0 g2 := by
  have n8 := h.n8
  have h1 := h.put hi
  have lt : (G - k) / (2 * n) < 2 ^ 30 := Nat.lt_of_le_of_lt (Nat.div_le_self _ _) (by omega)
  unfold F_X8_addsNow
  rw [bm_ix (a := 48) (by rfl) (by omega), bm_ix (a := 48) (by rfl) (by omega), bm_cl (a := 48) (by rfl) (by omega)]
  simp only [xnm]
  generalize upd g (48 + i) (g (48 + i) + 1) = g1 at h1 ⊢
  have e56 : g1 (56 + i) = nI r := h1.2.2.2.2.1
  have nz : ¬ nI ((G - k) / (2 * n)) = (0 : Int32) := fun e => by
    have := (nI_eq (a := (G - k) / (2 * n)) (b := 0) (by omega) (by omega)).mp e
    omega
  rw [m_step (by omega) n8, xb1, h1.stp hG hk, if_neg nz, bm_ix (a := 56) (by rfl) (by omega), bm_ix (a := 56) (by rfl) (by omega), bm_cl (a := 56) (by rfl) (by omega), e56, nI_1]
  exact ⟨_, rfl, h1.rest hi (r + 1)⟩
theorem b48_stop {n i G k s r T K : Nat} {x : Int32} {g0 g : Nat → Int32} (h : GD n i G k s r T g0 g) (hi : i < n) (hG : G < 2 ^ 30) (hk : k < 2 ^ 30) (hr : r < (G - k) / (2 * n) ∨ (G - k) / (2 * n) = 0) : B_X8_addsNow_48 K (nI i) (nI n) x g = some (.inr (x, g)) := by
  have n8 := h.n8
  have lt : (G - k) / (2 * n) < 2 ^ 30 := Nat.lt_of_le_of_lt (Nat.div_le_self _ _) (by omega)
  have es : F_X8_step g (nI n) = some (nI ((G - k) / (2 * n))) := by rw [m_step (by omega) n8, h.stp hG hk]
  have e56 : g (56 + i) = nI r := h.2.2.2.2.1
  unfold B_X8_addsNow_48
  simp only [es, xb1, bm_ix (A := (56 : Int32)) (a := 56) rfl (show 56 + i < 265 by omega), bm_cl (A := (56 : Int32)) (a := 56) rfl (show 56 + i < 265 by omega)]
  by_cases z : (G - k) / (2 * n) = 0
  · rw [z, if_pos (show nI 0 ≤ (0 : Int32) by decide)]
  · rw [if_neg (show ¬ nI ((G - k) / (2 * n)) ≤ (0 : Int32) from mt (nI_leI (a := (G - k) / (2 * n)) (b := 0) (by omega) (by omega)).mp (by omega)), e56, if_pos ((nI_ltI (a := r) (b := (G - k) / (2 * n)) (by omega) (by omega)).mpr (by omega))]
theorem b48_go {n i G k s T S K : Nat} {x : Int32} {g0 g : Nat → Int32} (h : GD n i G k s S T g0 g) (hi : i < n) (hG : G < 2 ^ 30) (hk : k < 2 ^ 30) (eS : (G - k) / (2 * n) = S) (hS : 0 < S) : B_X8_addsNow_48 K (nI i) (nI n) x g = if (upd (upd g (56 + i) (nI 0)) 75 (nI (s + 1))) 75 = nI n then bd1 (F_X8_endsRound K (upd (upd g (56 + i) (nI 0)) 75 (nI (s + 1))) (nI n)) (fun w => some (.inl (x + (1 : Int32) + (2 : Int32) * nI n, w))) else some (.inl (x + (1 : Int32), upd (upd g (56 + i) (nI 0)) 75 (nI (s + 1)))) := by
  have n8 := h.n8
  have lt : S < 2 ^ 30 := by rw [← eS]; exact Nat.lt_of_le_of_lt (Nat.div_le_self _ _) (by omega)
  have es : F_X8_step g (nI n) = some (nI S) := by rw [m_step (by omega) n8, h.stp hG hk, eS]
  have e56 : g (56 + i) = nI S := h.2.2.2.2.1
  have e75 : g 75 = nI s := h.2.2.2.1
  unfold B_X8_addsNow_48
  simp only [es, xb1, bm_ix (A := (56 : Int32)) (a := 56) rfl (show 56 + i < 265 by omega), bm_cl (A := (56 : Int32)) (a := 56) rfl (show 56 + i < 265 by omega), xnm]
  rw [if_neg (show ¬ nI S ≤ (0 : Int32) from mt (nI_leI (a := S) (b := 0) (by omega) (by omega)).mp (by omega)), e56, if_neg (show ¬ nI S < nI S from mt (nI_ltI (a := S) (b := S) (by omega) (by omega)).mp (by omega)), xsub (Nat.le_refl S), Nat.sub_self, show (upd g (56 + i) (nI 0)) 75 = nI s from (upd_ne (by omega)).trans e75, nI_1]
/-- one more, no signal yet -/
theorem ad_more {n i G k s r T K : Nat} {g0 g : Nat → Int32} (hK : 200000 ≤ K) (h : GD n i G k s r T g0 g) (hi : i < n) (hG : G < 2 ^ 30) (hk : k < 2 ^ 30) (hr : r + 1 < (G - k) / (2 * n)) : ∃ g', F_X8_addsNow K (nI i) 1 g (nI n) = some (nI 0, g') ∧ GD n i G k s (r + 1) (T + 1) g0 g' := by
  obtain ⟨g2, e, h2⟩ := ad_pre (K := K) h hi hG hk (by omega)
  rw [e, gpx0 (by omega) (show (fun u9 : Int32 × (Nat → Int32) => B_X8_addsNow_48 K (nI i) (nI n) u9.1 u9.2) ((0 : Int32), g2) = some (.inr ((0 : Int32), g2)) from b48_stop h2 hi hG hk (Or.inl hr)), xb2]
  exact ⟨_, rfl, h2⟩
/-- one more, and a signal -/
theorem ad_one {n i G k s r T K : Nat} {g0 g : Nat → Int32} (hK : 200000 ≤ K) (h : GD n i G k s r T g0 g) (hi : i < n) (hG : G < 2 ^ 30) (hk : k < 2 ^ 30) (hr : r + 1 = (G - k) / (2 * n)) (hs : s + 1 < n) : ∃ g', F_X8_addsNow K (nI i) 1 g (nI n) = some (nI 1, g') ∧ GD n i G k (s + 1) 0 (T + 1) g0 g' := by
  have n8 := h.n8
  obtain ⟨g2, e, h2⟩ := ad_pre (K := K) h hi hG hk (by omega)
  have h3 := (h2.rest hi 0).sig hi (s + 1)
  have G0 := b48_go (K := K) (x := 0) h2 hi hG hk hr.symm (by omega)
  rw [upd_at, if_neg (show ¬ nI (s + 1) = nI n from fun q => by
    have := (nI_eq (a := s + 1) (b := n) (by omega) (by omega)).mp q
    omega)] at G0
  rw [e, gpx1 (by omega) (show (fun u9 : Int32 × (Nat → Int32) => B_X8_addsNow_48 K (nI i) (nI n) u9.1 u9.2) ((0 : Int32), g2) = _ from G0) (show (fun u9 : Int32 × (Nat → Int32) => B_X8_addsNow_48 K (nI i) (nI n) u9.1 u9.2) _ = _ from b48_stop h3 hi hG hk (Or.inl (by omega))), xb2]
  exact ⟨_, rfl, h3⟩
/-- one more, a signal, and the round ends -/
theorem ad_end {n i G k s r T K : Nat} {g0 g : Nat → Int32} (hK : 200000 ≤ K) (h : GD n i G k s r T g0 g) (hi : i < n) (hG : G < 2 ^ 30) (hk : k < 2 ^ 30) (hT : T + 1 < 2 ^ 30) (hr : r + 1 = (G - k) / (2 * n)) (hs : s + 1 = n) : ∃ g', F_X8_addsNow K (nI i) 1 g (nI n) = some (nI (1 + 2 * n), g') ∧ GD n i G (T + 1) 0 0 (T + 1) g0 g' := by
  have n8 := h.n8
  obtain ⟨g2, e, h2⟩ := ad_pre (K := K) h hi hG hk (by omega)
  have h3 := (h2.rest hi 0).sig hi (s + 1)
  have G0 := b48_go (K := K) (x := 0) h2 hi hG hk hr.symm (by omega)
  rw [upd_at, if_pos (show nI (s + 1) = nI n by rw [hs])] at G0
  generalize upd (upd g2 (56 + i) (nI 0)) 75 (nI (s + 1)) = g3 at G0 h3
  obtain ⟨⟨f3, R3⟩, e66, e73, e75, e56, eT, fr⟩ := h3
  obtain ⟨f4, g4, -, q2, R4, q4, q5, q6, q7⟩ := er_both hK R3
  have h4 : GD n i G (T + 1) 0 0 (T + 1) g0 g4 := ⟨⟨f4, R4⟩, (q4 66 (by omega) (by decide) (by decide) (by decide)).trans e66, q5.trans eT, q6, q7 i hi, (sgm_eq n (fun j hj => q4 (48 + j) (by omega) (by omega) (by omega) (by omega))).trans eT, fun j hj => (q4 j (by omega) (by omega) (by omega) (by omega)).trans (fr j hj)⟩
  rw [q2, xb1] at G0
  have hz : 0 < (G - (T + 1)) / (2 * n) ∨ (G - (T + 1)) / (2 * n) = 0 := (Nat.eq_zero_or_pos _).symm
  rw [e, gpx1 (by omega) (show (fun u9 : Int32 × (Nat → Int32) => B_X8_addsNow_48 K (nI i) (nI n) u9.1 u9.2) ((0 : Int32), g2) = _ from G0) (show (fun u9 : Int32 × (Nat → Int32) => B_X8_addsNow_48 K (nI i) (nI n) u9.1 u9.2) _ = _ from b48_stop h4 hi hG hT hz), xb2]
  refine ⟨g4, ?_, h4⟩
  rw [show (0 : Int32) + 1 = nI 1 from rfl, show (2 : Int32) = nI 2 from rfl, nI_mul, nI_add]
end
-- 83c.35
section
/-! Stage B, 35: goes, in both -/
theorem x_add {x : Int32} {a b : Nat} : x + nI a + nI b = x + nI (a + b) := by rw [Int32.add_assoc, nI_add]
theorem x_add0 {x : Int32} : x + nI 0 = x := by rw [show nI 0 = (0 : Int32) from rfl, Int32.add_zero]
/-- c times one is added, with m messages -/
def Gt (K n i c m : Nat) (g g' : Nat → Int32) : Prop := ∀ (x y : Int32) (J : Nat), lpF (fun u9 : Int32 × Int32 × (Nat → Int32) => B_X8_goes_36 K (nI i) (nI n) u9.1 u9.2.1 u9.2.2) (J + c) (x, y, g) = lpF (fun u9 : Int32 × Int32 × (Nat → Int32) => B_X8_goes_36 K (nI i) (nI n) u9.1 u9.2.1 u9.2.2) J (x + nI c, y + nI m, g')
theorem Gt.zero {K n i : Nat} {g : Nat → Int32} : Gt K n i 0 0 g g := fun x y J => by
  show lpF (fun u9 : Int32 × Int32 × (Nat → Int32) => B_X8_goes_36 K (nI i) (nI n) u9.1 u9.2.1 u9.2.2) J (x, y, g) = lpF (fun u9 : Int32 × Int32 × (Nat → Int32) => B_X8_goes_36 K (nI i) (nI n) u9.1 u9.2.1 u9.2.2) J (x + nI 0, y + nI 0, g)
  rw [x_add0, x_add0]
theorem Gt.trans {K n i c d m e : Nat} {g g' g2 : Nat → Int32} (h1 : Gt K n i c m g g') (h2 : Gt K n i d e g' g2) : Gt K n i (c + d) (m + e) g g2 := fun x y J => by
  rw [show J + (c + d) = J + d + c by omega, h1 x y (J + d), h2 _ _ J, x_add, x_add]
theorem Gt.one {K n i G k s r T m : Nat} {g0 g g' : Nat → Int32} (h : GD n i G k s r T g0 g) (hk : k < G) (hG : G < 2 ^ 30) (ha : F_X8_addsNow K (nI i) 1 g (nI n) = some (nI m, g')) : Gt K n i 1 m g g' := fun x y J => lp_one (by
  show B_X8_goes_36 K (nI i) (nI n) x y g = some (.inl (x + 1, y + nI m, g'))
  unfold B_X8_goes_36 F_X8_isReached
  rw [h.2.2.1, h.2.1, if_pos ((nI_ltI (a := k) (b := G) (by omega) (by omega)).mpr hk), xb1, if_pos rfl, ha, xb2])
theorem go_sig {n i G k s S K : Nat} {g0 : Nat → Int32} (hK : 200000 ≤ K) (hi : i < n) (hG : G ≤ 9999) (hk : k < G) (eS : (G - k) / (2 * n) = S) (hs : s < n) : ∀ d r T g, r + (d + 1) = S → T + (d + 1) < 2 ^ 30 → GD n i G k s r T g0 g → ∃ m k' s' g', Gt K n i (d + 1) m g g' ∧ GD n i G k' s' 0 (T + (d + 1)) g0 g' ∧ ((s + 1 < n ∧ m = 1 ∧ k' = k ∧ s' = s + 1) ∨ (s + 1 = n ∧ m = 1 + 2 * n ∧ k' = T + (d + 1) ∧ s' = 0)) := by
  intro d
  induction d with
  | zero =>
    intro r T g hr hT h
    rcases (show s + 1 < n ∨ s + 1 = n by omega) with c | c
    · obtain ⟨g', ha, h'⟩ := ad_one hK h hi (by omega) (by omega) (by omega) c
      exact ⟨1, k, s + 1, g', Gt.one h hk (by omega) ha, h', Or.inl ⟨c, rfl, rfl, rfl⟩⟩
    · obtain ⟨g', ha, h'⟩ := ad_end hK h hi (by omega) (by omega) (by omega) (by omega) c
      exact ⟨1 + 2 * n, T + 1, 0, g', Gt.one h hk (by omega) ha, h', Or.inr ⟨c, rfl, rfl, rfl⟩⟩
  | succ d ih =>
    intro r T g hr hT h
    obtain ⟨g1, ha, h1⟩ := ad_more hK h hi (by omega) (by omega) (by omega)
    obtain ⟨m, k', s', g', q1, q2, q3⟩ := ih (r + 1) (T + 1) g1 (by omega) (by omega) h1
    have q := (Gt.one h hk (by omega) ha).trans q1
    rw [show 1 + (d + 1) = d + 1 + 1 by omega, Nat.zero_add] at q
    rw [show T + 1 + (d + 1) = T + (d + 1 + 1) by omega] at q2 q3
    exact ⟨m, k', s', g', q, q2, q3⟩
theorem go_round {n i G k S K : Nat} {g0 : Nat → Int32} (hK : 200000 ≤ K) (hi : i < n) (hG : G ≤ 9999) (hk : k < G) (eS : (G - k) / (2 * n) = S) (hS : 0 < S) : ∀ e s r T g c, s + (e + 1) = n → r < S → c + r = (e + 1) * S → T + c < 2 ^ 30 → GD n i G k s r T g0 g → ∃ g', Gt K n i c (e + 1 + 2 * n) g g' ∧ GD n i G (T + c) 0 0 (T + c) g0 g' := by
  intro e
  induction e with
  | zero =>
    intro s r T g c hs hr hc hT h
    have e1 : (0 + 1) * S = S := by rw [Nat.zero_add, Nat.one_mul]
    rw [e1] at hc
    obtain ⟨d, rfl⟩ : ∃ d, c = d + 1 := ⟨c - 1, by omega⟩
    obtain ⟨m, k', s', g', q1, q2, q3⟩ := go_sig hK hi hG hk eS (by omega) d r T g (by omega) hT h
    rcases q3 with ⟨a, -⟩ | ⟨-, z1, z2, z3⟩
    · omega
    · rw [z1, show 1 + 2 * n = 0 + 1 + 2 * n by omega] at q1
      rw [z2, z3] at q2
      exact ⟨g', q1, q2⟩
  | succ e ih =>
    intro s r T g c hs hr hc hT h
    have e1 : (e + 1 + 1) * S = (e + 1) * S + S := Nat.succ_mul (e + 1) S
    rw [e1] at hc
    obtain ⟨d, hd⟩ : ∃ d, r + (d + 1) = S := ⟨S - r - 1, by omega⟩
    obtain ⟨m, k', s', g1, q1, q2, q3⟩ := go_sig hK hi hG hk eS (by omega) d r T g hd (by omega) h
    rcases q3 with ⟨a, z1, z2, z3⟩ | ⟨a, -⟩
    · rw [z1] at q1
      rw [z2, z3] at q2
      obtain ⟨g', p1, p2⟩ := ih (s + 1) 0 (T + (d + 1)) g1 ((e + 1) * S) (by omega) hS (Nat.add_zero _) (by omega) q2
      have q := q1.trans p1
      rw [show d + 1 + (e + 1) * S = c by omega, show 1 + (e + 1 + 2 * n) = e + 1 + 1 + 2 * n by omega] at q
      rw [show T + (d + 1) + (e + 1) * S = T + c by omega] at p2
      exact ⟨g', q, p2⟩
    · omega
theorem go_last {n i G s r K : Nat} {g0 : Nat → Int32} (hi : i < n) (hG : G ≤ 9999) : ∀ d k T g, k + d = G → G < k + 2 * n → GD n i G k s r T g0 g → ∃ g', Gt K n i d d g g' ∧ GD n i G G s r (T + d) g0 g' := by
  intro d
  induction d with
  | zero =>
    intro k T g hd _ h
    rw [show k = G by omega] at h
    exact ⟨g, Gt.zero, h⟩
  | succ d ih =>
    intro k T g hd hl h
    obtain ⟨g1, ha, h1⟩ := ad_zero (K := K) h hi (by omega) (by omega) (Nat.div_eq_of_lt (by omega))
    obtain ⟨g', q1, q2⟩ := ih (k + 1) (T + 1) g1 (by omega) (by omega) h1
    have q := (Gt.one h (by omega) (by omega) ha).trans q1
    rw [show 1 + d = d + 1 by omega] at q
    rw [show T + 1 + d = T + (d + 1) by omega] at q2
    exact ⟨g', q, q2⟩
theorem cs_stepV {n G b : Nat} {f : Nat → Int32} (h0 : 0 < n) (n8 : n ≤ 8) (f2 : f 2 = nI G) (f3 : f 3 = nI n) (hG : G < 2 ^ 30) (hb : b < 2 ^ 30) : F_X5_stepFrom (nI b) f = some (nI ((G - b) / (2 * n))) := by
  have e2 : (2 : Int32) * nI n = nI (2 * n) := by rw [show (2 : Int32) = nI 2 from rfl, nI_mul]
  have enz : ¬ nI (2 * n) = 0 := fun e => by
    have := (nI_eq (a := 2 * n) (b := 0) (by omega) (by omega)).mp e
    omega
  unfold F_X5_stepFrom
  rw [f3, f2, e2, if_neg (show ¬ nI (2 * n) ≤ (0 : Int32) from mt (nI_leI (a := 2 * n) (b := 0) (by omega) (by omega)).mp (by omega))]
  by_cases c : b < G
  · have ed : nI (G - b) / nI (2 * n) = nI ((G - b) / (2 * n)) := (Int32.ofNat_div (by omega) (by omega)).symm
    rw [if_pos ((nI_ltI (a := b) (b := G) (by omega) (by omega)).mpr c), xsub (by omega)]
    unfold nzI
    rw [if_neg enz, ed]
  · rw [if_neg (mt (nI_ltI (a := b) (b := G) (by omega) (by omega)).mp c), show G - b = 0 by omega, Nat.zero_div]
    rfl
/-- how both loops end -/
def GvQ (n i G K d : Nat) (f g0 : Nat → Int32) (u : Int32 × Int32 × Int32 × Int32 × Int32 × Int32) (x y : Int32) (g : Nat → Int32) : Prop := ∃ (kf xf yf : Nat) (g' : Nat → Int32), (∀ J, lpF (fun u9 : Int32 × Int32 × Int32 × Int32 × Int32 × Int32 × Int32 × Int32 => B_X5_aloneToGoal_50 f u9.1 u9.2.1 u9.2.2.1 u9.2.2.2.1 u9.2.2.2.2.1 u9.2.2.2.2.2.1 u9.2.2.2.2.2.2.1 u9.2.2.2.2.2.2.2) (J + (d + 1)) (u.1, u.2.1, u.2.2.1, u.2.2.2.1, x, y, u.2.2.2.2.1, u.2.2.2.2.2) = some (nI kf, x + nI xf, y + nI yf)) ∧ Gt K n i (xf + (G - kf)) (yf + (G - kf)) g g' ∧ (¬ g' 73 < g' 66) ∧ (∀ q, 84 ≤ q → g' q = g0 q) ∧ xf + (G - kf) ≤ 9999 * (d + 1) ∧ kf ≤ 999999
theorem go_stop {n i G K d j k s r T : Nat} {f g0 g : Nat → Int32} {x y : Int32} (hi : i < n) (hG : G ≤ 9999) (hk : k ≤ 990000) (z : (G - k) / (2 * n) = 0) (h : GD n i G k s r T g0 g) : GvQ n i G K d f g0 (nI k, nI T, nI r, nI s, nI ((G - k) / (2 * n)), nI j) x y g := by
  have B0 : (fun u9 : Int32 × Int32 × Int32 × Int32 × Int32 × Int32 × Int32 × Int32 => B_X5_aloneToGoal_50 f u9.1 u9.2.1 u9.2.2.1 u9.2.2.2.1 u9.2.2.2.2.1 u9.2.2.2.2.2.1 u9.2.2.2.2.2.2.1 u9.2.2.2.2.2.2.2) (nI k, nI T, nI r, nI s, x, y, nI ((G - k) / (2 * n)), nI j) = some (.inr (nI k, x, y)) := by
    show B_X5_aloneToGoal_50 f (nI k) (nI T) (nI r) (nI s) x y (nI ((G - k) / (2 * n))) (nI j) = some (.inr (nI k, x, y))
    unfold B_X5_aloneToGoal_50
    by_cases c : (9999 : Int32) ≤ nI j
    · rw [if_pos c]
    · rw [if_neg c, z, if_pos (show nI 0 ≤ (0 : Int32) by decide)]
  have L : ∀ J, lpF (fun u9 : Int32 × Int32 × Int32 × Int32 × Int32 × Int32 × Int32 × Int32 => B_X5_aloneToGoal_50 f u9.1 u9.2.1 u9.2.2.1 u9.2.2.2.1 u9.2.2.2.2.1 u9.2.2.2.2.2.1 u9.2.2.2.2.2.2.1 u9.2.2.2.2.2.2.2) (J + (d + 1)) (nI k, nI T, nI r, nI s, x, y, nI ((G - k) / (2 * n)), nI j) = some (nI k, x + nI 0, y + nI 0) := fun J => by
    rw [x_add0, x_add0]
    exact gpx0 (by omega) B0
  by_cases c : k < G
  · have lt : G - k < 2 * n := by
      rcases Nat.lt_or_ge (G - k) (2 * n) with a | a
      · exact a
      · exact absurd z (Nat.ne_of_gt (Nat.div_pos a (by omega)))
    obtain ⟨g', q1, q2⟩ := go_last (K := K) hi hG (G - k) k T g (by omega) (by omega) h
    refine ⟨k, 0, 0, g', L, ?_, ?_, q2.2.2.2.2.2.2, by omega, by omega⟩
    · rw [Nat.zero_add]
      exact q1
    · rw [q2.2.2.1, q2.2.1]
      exact mt (nI_ltI (a := G) (b := G) (by omega) (by omega)).mp (by omega)
  · refine ⟨k, 0, 0, g, L, ?_, ?_, h.2.2.2.2.2.2, by omega, by omega⟩
    · rw [show 0 + (G - k) = 0 by omega]
      exact Gt.zero
    · rw [h.2.2.1, h.2.1]
      exact mt (nI_ltI (a := k) (b := G) (by omega) (by omega)).mp (by omega)
theorem go_both {n i G K : Nat} {f g0 : Nat → Int32} (hK : 200000 ≤ K) (n8 : n ≤ 8) (hi : i < n) (hG : G ≤ 9999) (h2 : f 2 = nI G) (h3 : f 3 = nI n) : ∀ d j k s r T g x y, 10000 ≤ d + j → j ≤ T → (j = 0 ∨ k = T) → s < n → (r = 0 ∨ r < (G - k) / (2 * n)) → T ≤ 990000 → (j = 0 → T ≤ 900000) → k ≤ 990000 → GD n i G k s r T g0 g → GvQ n i G K d f g0 (nI k, nI T, nI r, nI s, nI ((G - k) / (2 * n)), nI j) x y g := by
  intro d
  induction d with
  | zero =>
    intro j k s r T g x y hd hj hjk hs hr hT hT0 hk h
    have z : (G - k) / (2 * n) = 0 := by rw [show G - k = 0 by omega, Nat.zero_div]
    exact go_stop hi hG hk z h
  | succ d ih =>
    intro j k s r T g x y hd hj hjk hs hr hT hT0 hk h
    by_cases z : (G - k) / (2 * n) = 0
    · exact go_stop hi hG hk z h
    · obtain ⟨S, eS⟩ : ∃ S, (G - k) / (2 * n) = S := ⟨_, rfl⟩
      have hkG : k < G := by
        rcases Nat.lt_or_ge k G with a | a
        · exact a
        · exact absurd (show (G - k) / (2 * n) = 0 by rw [show G - k = 0 by omega, Nat.zero_div]) z
      have m1 : 2 * n * ((G - k) / (2 * n)) ≤ G - k := Nat.mul_div_le (G - k) (2 * n)
      rw [eS] at z hr m1 ⊢
      have hS : 0 < S := by omega
      obtain ⟨e, he⟩ : ∃ e, s + (e + 1) = n := ⟨n - s - 1, by omega⟩
      have m2 : (e + 1) * S ≤ 2 * n * S := Nat.mul_le_mul_right S (by omega)
      have m3 : S ≤ (e + 1) * S := Nat.le_mul_of_pos_left S (by omega)
      have hrS : r < S := by omega
      obtain ⟨c, hc⟩ : ∃ c, c + r = (e + 1) * S := ⟨(e + 1) * S - r, by omega⟩
      have c9 : c ≤ 9999 := by omega
      have c1 : 1 ≤ c := by omega
      obtain ⟨g1, q1, q2⟩ := go_round hK hi hG hkG eS hS e s r T g c he hrS hc (by omega) h
      have ec : ((nI n - nI s) * nI S) - nI r = nI c := by rw [xsub (by omega), nI_mul, show n - s = e + 1 by omega, ← hc, xsub (by omega), Nat.add_sub_cancel]
      have em : (nI n - nI s) + (2 : Int32) * nI n = nI (e + 1 + 2 * n) := by rw [xsub (by omega), show n - s = e + 1 by omega, show (2 : Int32) = nI 2 from rfl, nI_mul, nI_add]
      have B1 : (fun u9 : Int32 × Int32 × Int32 × Int32 × Int32 × Int32 × Int32 × Int32 => B_X5_aloneToGoal_50 f u9.1 u9.2.1 u9.2.2.1 u9.2.2.2.1 u9.2.2.2.2.1 u9.2.2.2.2.2.1 u9.2.2.2.2.2.2.1 u9.2.2.2.2.2.2.2) (nI k, nI T, nI r, nI s, x, y, nI S, nI j) = some (.inl (nI (T + c), nI (T + c), nI 0, nI 0, x + nI c, y + nI (e + 1 + 2 * n), nI ((G - (T + c)) / (2 * n)), nI (j + 1))) := by
        show B_X5_aloneToGoal_50 f (nI k) (nI T) (nI r) (nI s) x y (nI S) (nI j) = some (.inl (nI (T + c), nI (T + c), (0 : Int32), (0 : Int32), x + nI c, y + nI (e + 1 + 2 * n), nI ((G - (T + c)) / (2 * n)), nI (j + 1)))
        unfold B_X5_aloneToGoal_50
        rw [if_neg (show ¬ (9999 : Int32) ≤ nI j from mt (nI_leI (a := 9999) (b := j) (by omega) (by omega)).mp (by omega)), if_neg (show ¬ nI S ≤ (0 : Int32) from mt (nI_leI (a := S) (b := 0) (by omega) (by omega)).mp (by omega)), h3, ec, em, nI_add, cs_stepV (by omega) n8 h2 h3 (by omega) (by omega), xb1, nI_1]
      obtain ⟨kf, xf, yf, g', L, W, nr, fr, bd, kb⟩ := ih (j + 1) (T + c) 0 0 (T + c) g1 (x + nI c) (y + nI (e + 1 + 2 * n)) (by omega) (by omega) (Or.inr rfl) (by omega) (Or.inl rfl) (by omega) (fun q => absurd q (by omega)) (by omega) q2
      have q := q1.trans W
      rw [show c + (xf + (G - kf)) = c + xf + (G - kf) by omega, show e + 1 + 2 * n + (yf + (G - kf)) = e + 1 + 2 * n + yf + (G - kf) by omega] at q
      refine ⟨kf, c + xf, e + 1 + 2 * n + yf, g', fun J => ?_, q, nr, fr, by omega, kb⟩
      rw [← x_add, ← x_add]
      exact (lp_one (j := J + (d + 1)) B1).trans (L J)
theorem mx_0 {a b : Nat} (ha : a < 2 ^ 30) (hb : b < 2 ^ 30) : maxF (nI a - nI b) (0 : Int32) = nI (a - b) := by
  unfold maxF
  have es : (nI a - nI b).toInt = (a : Int) - b := pk_sub_toInt ha hb
  by_cases c : a < b
  · rw [if_pos (show nI a - nI b < 0 by
      rw [Int32.lt_iff_toInt_lt, es]
      show (a : Int) - b < 0
      omega), show a - b = 0 by omega]
    rfl
  · rw [xsub (by omega), if_neg (nn0 (by omega))]
theorem p_goes {n K : Nat} {f g asd : Nat → Int32} {x y : Int32} (hK : 1000000000 ≤ K) (h : RowR n f g) (hI : RowI n g) : ∃ v asd', F_X7_goes K x y f = some v ∧ F_X8_goes K x y g (nI n) asd = some (v, g, asd') := by
  have n8 := h.n8
  have hK2 : 200000 ≤ K := by omega
  obtain ⟨r1, r2⟩ := re_both h
  unfold F_X7_goes F_X8_goes
  rcases hs_both (p := x) n8 h.sz with ⟨i, hi, rfl, c1, c2⟩ | ⟨-, c1, c2⟩
  · rw [c1, c2, xb1, xb1, if_neg n10, if_neg n10, m_in0 (m := 1) (by decide), xb1, ite10, rng_c]
    by_cases d : 0 ≤ y ∧ y ≤ nI 1
    · rw [if_pos (show 0 ≤ y ∧ y ≤ (1 : Int32) from d), if_pos d, r1, r2, xb1, xb1]
      by_cases c : g 73 < g 66
      · rw [if_pos c, if_pos rfl, if_pos rfl]
        obtain ⟨-, -, a, b, q, a1, a9, e66, b9, e73, hq, e75, hcs, hrs⟩ := hI.2 (by omega)
        obtain ⟨B, hB, eB⟩ := sgm_nat (a := fun j => g (48 + j)) n hcs
        obtain ⟨r, er, hr⟩ := hrs i hi
        have D0 : GD n i a b q r B g g := ⟨⟨f, h⟩, e66, e73, e75, er, eB, fun _ _ => rfl⟩
        rw [D0.stp (by omega) (by omega)] at hr
        have f2 : f 2 = nI a := (h.sc (2, 66) (by decide)).trans e66
        have f8 : f 8 = nI b := (h.sc (8, 73) (by decide)).trans e73
        have f9 : f 9 = nI q := (h.sc (9, 75) (by decide)).trans e75
        have e7 : f (17 + 8 * i + 7) = nI r := (h.1.2.2.1 i 7 hi (by decide)).trans er
        have t6 := (tot_both hK2 h (c := 6) (by decide)).1
        have t6 : F_X5_total K (6 : Int32) f = some (sgm (fun j => g (48 + j)) n) := t6
        obtain ⟨kf, xf, yf, g', L, W, nr, fr, bd, kb⟩ := go_both hK2 n8 hi a9 f2 h.sz 10000 0 b q r B g 0 0 (by omega) (Nat.zero_le _) (Or.inl rfl) hq hr (by omega) (fun _ => by omega) (by omega) D0
        have L1 := L (K - 10001)
        rw [show K - 10001 + (10000 + 1) = K by omega] at L1
        have L1 : lpF (fun u9 : Int32 × Int32 × Int32 × Int32 × Int32 × Int32 × Int32 × Int32 => B_X5_aloneToGoal_50 f u9.1 u9.2.1 u9.2.2.1 u9.2.2.2.1 u9.2.2.2.2.1 u9.2.2.2.2.2.1 u9.2.2.2.2.2.2.1 u9.2.2.2.2.2.2.2) K (nI b, nI B, nI r, nI q, (0 : Int32), (0 : Int32), nI ((a - b) / (2 * n)), (0 : Int32)) = some (nI kf, (0 : Int32) + nI xf, (0 : Int32) + nI yf) := L1
        have W1 := W 0 0 (K - (xf + (a - kf)))
        rw [Nat.sub_add_cancel (by omega), Int32.zero_add, Int32.zero_add] at W1
        have W2 : lpF (fun u9 : Int32 × Int32 × (Nat → Int32) => B_X8_goes_36 K (nI i) (nI n) u9.1 u9.2.1 u9.2.2) K ((0 : Int32), (0 : Int32), g) = some (nI (xf + (a - kf)), nI (yf + (a - kf)), g') := by
          refine W1.trans (gpx0 (by omega) ?_)
          show B_X8_goes_36 K (nI i) (nI n) (nI (xf + (a - kf))) (nI (yf + (a - kf))) g' = some (.inr (nI (xf + (a - kf)), nI (yf + (a - kf)), g'))
          unfold B_X8_goes_36 F_X8_isReached
          rw [if_neg nr, xb1, if_neg n10]
        have A : ∀ p, F_X5_aloneToGoal K (nI i) p f = some (if p = 0 then nI (xf + (a - kf)) else nI (yf + (a - kf))) := fun p => by
          unfold F_X5_aloneToGoal J_X5_aloneToGoal_136
          rw [t6, xb1, eB, bx_of (c := 7) (by rfl) (by omega) (by decide), xb1, e7, f8, cs_stepV (by omega) n8 f2 h.sz (by omega) (by omega), xb1, f9, L1, xb3, f2, mx_0 (by omega) (by omega), Int32.zero_add, Int32.zero_add, nI_add, nI_add]
          by_cases e : p = 0
          · rw [if_pos e, if_pos e]
          · rw [if_neg e, if_neg e]
        rw [m_aside hK2, xb1, W2, xb3, m_bring hK2 fr, xb1, A, A, xb1, xb1]
        obtain ⟨m, hm, rfl⟩ := in_lt (p := y) (a := 2) (by omega) (by rw [show nI 2 - 1 = nI 1 by decide]; exact d)
        rcases (show m = 0 ∨ m = 1 by omega) with e | e
        · rw [e, if_neg (show ¬ nI 0 = (1 : Int32) by decide), if_pos (show (0 : Int32) = 0 from rfl), if_pos (show nI 0 = (0 : Int32) from rfl)]
          exact ⟨_, _, rfl, rfl⟩
        · rw [e, if_pos (show nI 1 = (1 : Int32) from rfl), if_neg (show ¬ (1 : Int32) = 0 by decide), if_neg (show ¬ nI 1 = (0 : Int32) by decide)]
          exact ⟨_, _, rfl, rfl⟩
      · rw [if_neg c, if_neg n10, if_neg n10]
        exact ⟨_, _, rfl, rfl⟩
    · rw [if_neg (show ¬ (0 ≤ y ∧ y ≤ (1 : Int32)) from d), if_neg d]
      exact ⟨_, _, rfl, rfl⟩
  · rw [c1, c2, xb1, xb1, if_pos rfl, if_pos rfl]
    exact ⟨_, _, rfl, rfl⟩
end
-- 84a.sb0
section

/-! calls at an object of a class below the method's own; the texts' bytes -/
def wsC (own : String) (idx : Nat) (C : String) (y : MethodName) (ws : List Cond) : List Cond := ([.methodLink own idx y, .instanceMethod y, .selects C y y, .initialized y.cls] : List Cond) ++ ws
theorem cwC {R : Room} {s : State} {args : Array Value} {own C : String} {index maxL mc ms : Nat} {y : MethodName} {bytes : ByteArray} {ret : Option FieldType} {Ts ws ws' : List Cond} {rm : Room} (n : Nat) (ht : ∀ w ∈ Ts, w.before args s = true) (hT : GoodIn Ts (wsC own index C y ws)) (hw : ws = Cond.code y bytes maxL ret :: ws') (hrc : rm.cells = mc) (hrs : rm.slots = ms)
    (hd : y.cls ≠ "java/lang/invoke/MethodHandle" ∧ y.cls ≠ "java/lang/invoke/VarHandle" ∧ (parseMethodDescriptor y.desc).map (fun d => d.parameters.length) = some n) (hR : rm.frames + 1 ≤ R.frames ∧ 8 + (maxL + 11) + rm.locals ≤ R.locals) :
    CallW R s args own C index y bytes maxL ret ws rm mc ms n := by
  have ok : ∀ w ∈ wsC own index C y ws, w.before args s = true := fun w h => ht w (hT w h).1
  exact ⟨callB_of n ht (fun w h => hT w (by unfold wsC; exact List.mem_append_right _ h)) hw hrc hrs (ok _ (by simp [wsC])) (ok _ (by simp [wsC])) hd hR, ok _ (by simp [wsC]), ok _ (by simp [wsC])⟩
theorem strB_fitA : ∀ l ∈ strB, ∀ x ∈ l, fits .byte (.int x) = true := by decide
theorem strB_fit (p j : Nat) : fits .byte (.int ((strB.getD p []).getD j 0)) = true := by
  rw [List.getD_eq_getElem?_getD, List.getD_eq_getElem?_getD]
  cases h : strB[p]? with
  | none => exact (by decide : fits .byte (.int 0) = true)
  | some l =>
    show fits .byte (.int (l[j]?.getD 0)) = true
    cases h2 : l[j]? with
    | none => exact (by decide : fits .byte (.int 0) = true)
    | some x => exact strB_fitA l (List.mem_of_getElem? h) x (List.mem_of_getElem? h2)
theorem fit_nar (x : Int32) : fits .byte (.int (vp_nar .byte x)) = true := by rw [vp_nar_byte]; exact pk_fb _
end
-- 84b.sb
section
def dl_J6_stringSize_0f7a4_84b_sb_0 : List (Nat × Instr × Nat) := [(16, .iload_n 3, 1), (17, .bipush 10, 2), (19, .if_icmp .ge 23, 3), (22, .iload_n 0, 1), (23, .iload_n 2, 1), (24, .if_icmp .le 7, 3), (31, .bipush 10, 2), (33, .iload_n 2, 1), (34, .imul, 1), (35, .istore_n 2, 1), (36, .iinc 3 1, 3), (39, .goto (-23), 3), (11, .bipush (-10), 2), (13, .istore_n 2, 1), (14, .iconst 1, 1), (15, .istore_n 3, 1), (27, .iload_n 3, 1), (28, .iload_n 1, 1), (29, .iadd, 1), (30, .ireturn, 1), (42, .bipush 10, 2), (44, .iload_n 1, 1), (45, .iadd, 1), (46, .ireturn, 1), (0, .iconst 1, 1), (1, .istore_n 1, 1), (2, .iload_n 0, 1), (3, .ifCond .lt 8, 3), (6, .iconst 0, 1), (7, .istore_n 1, 1), (8, .iload_n 0, 1), (9, .ineg, 1), (10, .istore_n 0, 1)]
set_option maxRecDepth 100000 in
theorem dall_J6_stringSize_0f7a4_84b_sb_0 : dchk cJ6_stringSize_0f7a4 dl_J6_stringSize_0f7a4_84b_sb_0 = true := by decide +kernel
theorem dJ6_stringSize_0f7a4_16 : decode cJ6_stringSize_0f7a4 16 = .ok (.iload_n 3, 1) := dchk_at dall_J6_stringSize_0f7a4_84b_sb_0 (k := 0) rfl
theorem dJ6_stringSize_0f7a4_17 : decode cJ6_stringSize_0f7a4 17 = .ok (.bipush 10, 2) := dchk_at dall_J6_stringSize_0f7a4_84b_sb_0 (k := 1) rfl
theorem dJ6_stringSize_0f7a4_19 : decode cJ6_stringSize_0f7a4 19 = .ok (.if_icmp .ge 23, 3) := dchk_at dall_J6_stringSize_0f7a4_84b_sb_0 (k := 2) rfl
theorem dJ6_stringSize_0f7a4_22 : decode cJ6_stringSize_0f7a4 22 = .ok (.iload_n 0, 1) := dchk_at dall_J6_stringSize_0f7a4_84b_sb_0 (k := 3) rfl
theorem dJ6_stringSize_0f7a4_23 : decode cJ6_stringSize_0f7a4 23 = .ok (.iload_n 2, 1) := dchk_at dall_J6_stringSize_0f7a4_84b_sb_0 (k := 4) rfl
theorem dJ6_stringSize_0f7a4_24 : decode cJ6_stringSize_0f7a4 24 = .ok (.if_icmp .le 7, 3) := dchk_at dall_J6_stringSize_0f7a4_84b_sb_0 (k := 5) rfl
theorem dJ6_stringSize_0f7a4_31 : decode cJ6_stringSize_0f7a4 31 = .ok (.bipush 10, 2) := dchk_at dall_J6_stringSize_0f7a4_84b_sb_0 (k := 6) rfl
theorem dJ6_stringSize_0f7a4_33 : decode cJ6_stringSize_0f7a4 33 = .ok (.iload_n 2, 1) := dchk_at dall_J6_stringSize_0f7a4_84b_sb_0 (k := 7) rfl
theorem dJ6_stringSize_0f7a4_34 : decode cJ6_stringSize_0f7a4 34 = .ok (.imul, 1) := dchk_at dall_J6_stringSize_0f7a4_84b_sb_0 (k := 8) rfl
theorem dJ6_stringSize_0f7a4_35 : decode cJ6_stringSize_0f7a4 35 = .ok (.istore_n 2, 1) := dchk_at dall_J6_stringSize_0f7a4_84b_sb_0 (k := 9) rfl
theorem dJ6_stringSize_0f7a4_36 : decode cJ6_stringSize_0f7a4 36 = .ok (.iinc 3 1, 3) := dchk_at dall_J6_stringSize_0f7a4_84b_sb_0 (k := 10) rfl
theorem dJ6_stringSize_0f7a4_39 : decode cJ6_stringSize_0f7a4 39 = .ok (.goto (-23), 3) := dchk_at dall_J6_stringSize_0f7a4_84b_sb_0 (k := 11) rfl
theorem dJ6_stringSize_0f7a4_11 : decode cJ6_stringSize_0f7a4 11 = .ok (.bipush (-10), 2) := dchk_at dall_J6_stringSize_0f7a4_84b_sb_0 (k := 12) rfl
theorem dJ6_stringSize_0f7a4_13 : decode cJ6_stringSize_0f7a4 13 = .ok (.istore_n 2, 1) := dchk_at dall_J6_stringSize_0f7a4_84b_sb_0 (k := 13) rfl
theorem dJ6_stringSize_0f7a4_14 : decode cJ6_stringSize_0f7a4 14 = .ok (.iconst 1, 1) := dchk_at dall_J6_stringSize_0f7a4_84b_sb_0 (k := 14) rfl
theorem dJ6_stringSize_0f7a4_15 : decode cJ6_stringSize_0f7a4 15 = .ok (.istore_n 3, 1) := dchk_at dall_J6_stringSize_0f7a4_84b_sb_0 (k := 15) rfl
theorem dJ6_stringSize_0f7a4_27 : decode cJ6_stringSize_0f7a4 27 = .ok (.iload_n 3, 1) := dchk_at dall_J6_stringSize_0f7a4_84b_sb_0 (k := 16) rfl
theorem dJ6_stringSize_0f7a4_28 : decode cJ6_stringSize_0f7a4 28 = .ok (.iload_n 1, 1) := dchk_at dall_J6_stringSize_0f7a4_84b_sb_0 (k := 17) rfl
theorem dJ6_stringSize_0f7a4_29 : decode cJ6_stringSize_0f7a4 29 = .ok (.iadd, 1) := dchk_at dall_J6_stringSize_0f7a4_84b_sb_0 (k := 18) rfl
theorem dJ6_stringSize_0f7a4_30 : decode cJ6_stringSize_0f7a4 30 = .ok (.ireturn, 1) := dchk_at dall_J6_stringSize_0f7a4_84b_sb_0 (k := 19) rfl
theorem dJ6_stringSize_0f7a4_42 : decode cJ6_stringSize_0f7a4 42 = .ok (.bipush 10, 2) := dchk_at dall_J6_stringSize_0f7a4_84b_sb_0 (k := 20) rfl
theorem dJ6_stringSize_0f7a4_44 : decode cJ6_stringSize_0f7a4 44 = .ok (.iload_n 1, 1) := dchk_at dall_J6_stringSize_0f7a4_84b_sb_0 (k := 21) rfl
theorem dJ6_stringSize_0f7a4_45 : decode cJ6_stringSize_0f7a4 45 = .ok (.iadd, 1) := dchk_at dall_J6_stringSize_0f7a4_84b_sb_0 (k := 22) rfl
theorem dJ6_stringSize_0f7a4_46 : decode cJ6_stringSize_0f7a4 46 = .ok (.ireturn, 1) := dchk_at dall_J6_stringSize_0f7a4_84b_sb_0 (k := 23) rfl
theorem dJ6_stringSize_0f7a4_0 : decode cJ6_stringSize_0f7a4 0 = .ok (.iconst 1, 1) := dchk_at dall_J6_stringSize_0f7a4_84b_sb_0 (k := 24) rfl
theorem dJ6_stringSize_0f7a4_1 : decode cJ6_stringSize_0f7a4 1 = .ok (.istore_n 1, 1) := dchk_at dall_J6_stringSize_0f7a4_84b_sb_0 (k := 25) rfl
theorem dJ6_stringSize_0f7a4_2 : decode cJ6_stringSize_0f7a4 2 = .ok (.iload_n 0, 1) := dchk_at dall_J6_stringSize_0f7a4_84b_sb_0 (k := 26) rfl
theorem dJ6_stringSize_0f7a4_3 : decode cJ6_stringSize_0f7a4 3 = .ok (.ifCond .lt 8, 3) := dchk_at dall_J6_stringSize_0f7a4_84b_sb_0 (k := 27) rfl
theorem dJ6_stringSize_0f7a4_6 : decode cJ6_stringSize_0f7a4 6 = .ok (.iconst 0, 1) := dchk_at dall_J6_stringSize_0f7a4_84b_sb_0 (k := 28) rfl
theorem dJ6_stringSize_0f7a4_7 : decode cJ6_stringSize_0f7a4 7 = .ok (.istore_n 1, 1) := dchk_at dall_J6_stringSize_0f7a4_84b_sb_0 (k := 29) rfl
theorem dJ6_stringSize_0f7a4_8 : decode cJ6_stringSize_0f7a4 8 = .ok (.iload_n 0, 1) := dchk_at dall_J6_stringSize_0f7a4_84b_sb_0 (k := 30) rfl
theorem dJ6_stringSize_0f7a4_9 : decode cJ6_stringSize_0f7a4 9 = .ok (.ineg, 1) := dchk_at dall_J6_stringSize_0f7a4_84b_sb_0 (k := 31) rfl
theorem dJ6_stringSize_0f7a4_10 : decode cJ6_stringSize_0f7a4 10 = .ok (.istore_n 0, 1) := dchk_at dall_J6_stringSize_0f7a4_84b_sb_0 (k := 32) rfl
def dl_J6_getChars_ba4f3_84b_sb_0 : List (Nat × Instr × Nat) := [(22, .iload_n 0, 1), (23, .bipush (-100), 2), (25, .if_icmp .gt 47, 3), (28, .iload_n 0, 1), (29, .bipush 100, 2), (31, .idiv, 1), (32, .istore_n 3, 1), (33, .iload_n 3, 1), (34, .bipush 100, 2), (36, .imul, 1), (37, .iload_n 0, 1), (38, .isub, 1), (39, .istore 4, 2), (41, .iload_n 3, 1), (42, .istore_n 0, 1), (43, .aload_n 2, 1), (44, .iinc 5 (-1), 3), (47, .iload 5, 2), (49, .getstatic 83, 3), (52, .iload 4, 2), (54, .baload, 1), (55, .bastore, 1), (56, .aload_n 2, 1), (57, .iinc 5 (-1), 3), (60, .iload 5, 2), (62, .getstatic 87, 3), (65, .iload 4, 2), (67, .baload, 1), (68, .bastore, 1), (69, .goto (-47), 3), (12, .istore 6, 2), (14, .iload 6, 2), (16, .ifCond .ne 6, 3), (72, .aload_n 2, 1), (73, .iinc 5 (-1), 3), (76, .iload 5, 2), (78, .getstatic 83, 3), (81, .iload_n 0, 1), (82, .ineg, 1), (83, .baload, 1), (84, .bastore, 1), (85, .iload_n 0, 1), (86, .bipush (-9), 2), (88, .if_icmp .ge 16, 3), (104, .iload 6, 2), (106, .ifCond .eq 12, 3), (118, .iload 5, 2), (120, .ireturn, 1), (109, .aload_n 2, 1), (110, .iinc 5 (-1), 3)]
set_option maxRecDepth 100000 in
theorem dall_J6_getChars_ba4f3_84b_sb_0 : dchk cJ6_getChars_ba4f3 dl_J6_getChars_ba4f3_84b_sb_0 = true := by decide +kernel
theorem dJ6_getChars_ba4f3_22 : decode cJ6_getChars_ba4f3 22 = .ok (.iload_n 0, 1) := dchk_at dall_J6_getChars_ba4f3_84b_sb_0 (k := 0) rfl
theorem dJ6_getChars_ba4f3_23 : decode cJ6_getChars_ba4f3 23 = .ok (.bipush (-100), 2) := dchk_at dall_J6_getChars_ba4f3_84b_sb_0 (k := 1) rfl
theorem dJ6_getChars_ba4f3_25 : decode cJ6_getChars_ba4f3 25 = .ok (.if_icmp .gt 47, 3) := dchk_at dall_J6_getChars_ba4f3_84b_sb_0 (k := 2) rfl
theorem dJ6_getChars_ba4f3_28 : decode cJ6_getChars_ba4f3 28 = .ok (.iload_n 0, 1) := dchk_at dall_J6_getChars_ba4f3_84b_sb_0 (k := 3) rfl
theorem dJ6_getChars_ba4f3_29 : decode cJ6_getChars_ba4f3 29 = .ok (.bipush 100, 2) := dchk_at dall_J6_getChars_ba4f3_84b_sb_0 (k := 4) rfl
theorem dJ6_getChars_ba4f3_31 : decode cJ6_getChars_ba4f3 31 = .ok (.idiv, 1) := dchk_at dall_J6_getChars_ba4f3_84b_sb_0 (k := 5) rfl
theorem dJ6_getChars_ba4f3_32 : decode cJ6_getChars_ba4f3 32 = .ok (.istore_n 3, 1) := dchk_at dall_J6_getChars_ba4f3_84b_sb_0 (k := 6) rfl
theorem dJ6_getChars_ba4f3_33 : decode cJ6_getChars_ba4f3 33 = .ok (.iload_n 3, 1) := dchk_at dall_J6_getChars_ba4f3_84b_sb_0 (k := 7) rfl
theorem dJ6_getChars_ba4f3_34 : decode cJ6_getChars_ba4f3 34 = .ok (.bipush 100, 2) := dchk_at dall_J6_getChars_ba4f3_84b_sb_0 (k := 8) rfl
theorem dJ6_getChars_ba4f3_36 : decode cJ6_getChars_ba4f3 36 = .ok (.imul, 1) := dchk_at dall_J6_getChars_ba4f3_84b_sb_0 (k := 9) rfl
theorem dJ6_getChars_ba4f3_37 : decode cJ6_getChars_ba4f3 37 = .ok (.iload_n 0, 1) := dchk_at dall_J6_getChars_ba4f3_84b_sb_0 (k := 10) rfl
theorem dJ6_getChars_ba4f3_38 : decode cJ6_getChars_ba4f3 38 = .ok (.isub, 1) := dchk_at dall_J6_getChars_ba4f3_84b_sb_0 (k := 11) rfl
theorem dJ6_getChars_ba4f3_39 : decode cJ6_getChars_ba4f3 39 = .ok (.istore 4, 2) := dchk_at dall_J6_getChars_ba4f3_84b_sb_0 (k := 12) rfl
theorem dJ6_getChars_ba4f3_41 : decode cJ6_getChars_ba4f3 41 = .ok (.iload_n 3, 1) := dchk_at dall_J6_getChars_ba4f3_84b_sb_0 (k := 13) rfl
theorem dJ6_getChars_ba4f3_42 : decode cJ6_getChars_ba4f3 42 = .ok (.istore_n 0, 1) := dchk_at dall_J6_getChars_ba4f3_84b_sb_0 (k := 14) rfl
theorem dJ6_getChars_ba4f3_43 : decode cJ6_getChars_ba4f3 43 = .ok (.aload_n 2, 1) := dchk_at dall_J6_getChars_ba4f3_84b_sb_0 (k := 15) rfl
theorem dJ6_getChars_ba4f3_44 : decode cJ6_getChars_ba4f3 44 = .ok (.iinc 5 (-1), 3) := dchk_at dall_J6_getChars_ba4f3_84b_sb_0 (k := 16) rfl
theorem dJ6_getChars_ba4f3_47 : decode cJ6_getChars_ba4f3 47 = .ok (.iload 5, 2) := dchk_at dall_J6_getChars_ba4f3_84b_sb_0 (k := 17) rfl
theorem dJ6_getChars_ba4f3_49 : decode cJ6_getChars_ba4f3 49 = .ok (.getstatic 83, 3) := dchk_at dall_J6_getChars_ba4f3_84b_sb_0 (k := 18) rfl
theorem dJ6_getChars_ba4f3_52 : decode cJ6_getChars_ba4f3 52 = .ok (.iload 4, 2) := dchk_at dall_J6_getChars_ba4f3_84b_sb_0 (k := 19) rfl
theorem dJ6_getChars_ba4f3_54 : decode cJ6_getChars_ba4f3 54 = .ok (.baload, 1) := dchk_at dall_J6_getChars_ba4f3_84b_sb_0 (k := 20) rfl
theorem dJ6_getChars_ba4f3_55 : decode cJ6_getChars_ba4f3 55 = .ok (.bastore, 1) := dchk_at dall_J6_getChars_ba4f3_84b_sb_0 (k := 21) rfl
theorem dJ6_getChars_ba4f3_56 : decode cJ6_getChars_ba4f3 56 = .ok (.aload_n 2, 1) := dchk_at dall_J6_getChars_ba4f3_84b_sb_0 (k := 22) rfl
theorem dJ6_getChars_ba4f3_57 : decode cJ6_getChars_ba4f3 57 = .ok (.iinc 5 (-1), 3) := dchk_at dall_J6_getChars_ba4f3_84b_sb_0 (k := 23) rfl
theorem dJ6_getChars_ba4f3_60 : decode cJ6_getChars_ba4f3 60 = .ok (.iload 5, 2) := dchk_at dall_J6_getChars_ba4f3_84b_sb_0 (k := 24) rfl
theorem dJ6_getChars_ba4f3_62 : decode cJ6_getChars_ba4f3 62 = .ok (.getstatic 87, 3) := dchk_at dall_J6_getChars_ba4f3_84b_sb_0 (k := 25) rfl
theorem dJ6_getChars_ba4f3_65 : decode cJ6_getChars_ba4f3 65 = .ok (.iload 4, 2) := dchk_at dall_J6_getChars_ba4f3_84b_sb_0 (k := 26) rfl
theorem dJ6_getChars_ba4f3_67 : decode cJ6_getChars_ba4f3 67 = .ok (.baload, 1) := dchk_at dall_J6_getChars_ba4f3_84b_sb_0 (k := 27) rfl
theorem dJ6_getChars_ba4f3_68 : decode cJ6_getChars_ba4f3 68 = .ok (.bastore, 1) := dchk_at dall_J6_getChars_ba4f3_84b_sb_0 (k := 28) rfl
theorem dJ6_getChars_ba4f3_69 : decode cJ6_getChars_ba4f3 69 = .ok (.goto (-47), 3) := dchk_at dall_J6_getChars_ba4f3_84b_sb_0 (k := 29) rfl
theorem dJ6_getChars_ba4f3_12 : decode cJ6_getChars_ba4f3 12 = .ok (.istore 6, 2) := dchk_at dall_J6_getChars_ba4f3_84b_sb_0 (k := 30) rfl
theorem dJ6_getChars_ba4f3_14 : decode cJ6_getChars_ba4f3 14 = .ok (.iload 6, 2) := dchk_at dall_J6_getChars_ba4f3_84b_sb_0 (k := 31) rfl
theorem dJ6_getChars_ba4f3_16 : decode cJ6_getChars_ba4f3 16 = .ok (.ifCond .ne 6, 3) := dchk_at dall_J6_getChars_ba4f3_84b_sb_0 (k := 32) rfl
theorem dJ6_getChars_ba4f3_72 : decode cJ6_getChars_ba4f3 72 = .ok (.aload_n 2, 1) := dchk_at dall_J6_getChars_ba4f3_84b_sb_0 (k := 33) rfl
theorem dJ6_getChars_ba4f3_73 : decode cJ6_getChars_ba4f3 73 = .ok (.iinc 5 (-1), 3) := dchk_at dall_J6_getChars_ba4f3_84b_sb_0 (k := 34) rfl
theorem dJ6_getChars_ba4f3_76 : decode cJ6_getChars_ba4f3 76 = .ok (.iload 5, 2) := dchk_at dall_J6_getChars_ba4f3_84b_sb_0 (k := 35) rfl
theorem dJ6_getChars_ba4f3_78 : decode cJ6_getChars_ba4f3 78 = .ok (.getstatic 83, 3) := dchk_at dall_J6_getChars_ba4f3_84b_sb_0 (k := 36) rfl
theorem dJ6_getChars_ba4f3_81 : decode cJ6_getChars_ba4f3 81 = .ok (.iload_n 0, 1) := dchk_at dall_J6_getChars_ba4f3_84b_sb_0 (k := 37) rfl
theorem dJ6_getChars_ba4f3_82 : decode cJ6_getChars_ba4f3 82 = .ok (.ineg, 1) := dchk_at dall_J6_getChars_ba4f3_84b_sb_0 (k := 38) rfl
theorem dJ6_getChars_ba4f3_83 : decode cJ6_getChars_ba4f3 83 = .ok (.baload, 1) := dchk_at dall_J6_getChars_ba4f3_84b_sb_0 (k := 39) rfl
theorem dJ6_getChars_ba4f3_84 : decode cJ6_getChars_ba4f3 84 = .ok (.bastore, 1) := dchk_at dall_J6_getChars_ba4f3_84b_sb_0 (k := 40) rfl
theorem dJ6_getChars_ba4f3_85 : decode cJ6_getChars_ba4f3 85 = .ok (.iload_n 0, 1) := dchk_at dall_J6_getChars_ba4f3_84b_sb_0 (k := 41) rfl
theorem dJ6_getChars_ba4f3_86 : decode cJ6_getChars_ba4f3 86 = .ok (.bipush (-9), 2) := dchk_at dall_J6_getChars_ba4f3_84b_sb_0 (k := 42) rfl
theorem dJ6_getChars_ba4f3_88 : decode cJ6_getChars_ba4f3 88 = .ok (.if_icmp .ge 16, 3) := dchk_at dall_J6_getChars_ba4f3_84b_sb_0 (k := 43) rfl
theorem dJ6_getChars_ba4f3_104 : decode cJ6_getChars_ba4f3 104 = .ok (.iload 6, 2) := dchk_at dall_J6_getChars_ba4f3_84b_sb_0 (k := 44) rfl
theorem dJ6_getChars_ba4f3_106 : decode cJ6_getChars_ba4f3 106 = .ok (.ifCond .eq 12, 3) := dchk_at dall_J6_getChars_ba4f3_84b_sb_0 (k := 45) rfl
theorem dJ6_getChars_ba4f3_118 : decode cJ6_getChars_ba4f3 118 = .ok (.iload 5, 2) := dchk_at dall_J6_getChars_ba4f3_84b_sb_0 (k := 46) rfl
theorem dJ6_getChars_ba4f3_120 : decode cJ6_getChars_ba4f3 120 = .ok (.ireturn, 1) := dchk_at dall_J6_getChars_ba4f3_84b_sb_0 (k := 47) rfl
theorem dJ6_getChars_ba4f3_109 : decode cJ6_getChars_ba4f3 109 = .ok (.aload_n 2, 1) := dchk_at dall_J6_getChars_ba4f3_84b_sb_0 (k := 48) rfl
theorem dJ6_getChars_ba4f3_110 : decode cJ6_getChars_ba4f3 110 = .ok (.iinc 5 (-1), 3) := dchk_at dall_J6_getChars_ba4f3_84b_sb_0 (k := 49) rfl
def dl_J6_getChars_ba4f3_84b_sb_1 : List (Nat × Instr × Nat) := [(113, .iload 5, 2), (115, .bipush 45, 2), (117, .bastore, 1), (91, .aload_n 2, 1), (92, .iinc 5 (-1), 3), (95, .iload 5, 2), (97, .getstatic 87, 3), (100, .iload_n 0, 1), (101, .ineg, 1), (102, .baload, 1), (103, .bastore, 1), (19, .iload_n 0, 1), (20, .ineg, 1), (21, .istore_n 0, 1), (0, .iload_n 1, 1), (1, .istore 5, 2), (3, .iload_n 0, 1), (4, .ifCond .ge 7, 3), (11, .iconst 0, 1), (7, .iconst 1, 1), (8, .goto 4, 3)]
set_option maxRecDepth 100000 in
theorem dall_J6_getChars_ba4f3_84b_sb_1 : dchk cJ6_getChars_ba4f3 dl_J6_getChars_ba4f3_84b_sb_1 = true := by decide +kernel
theorem dJ6_getChars_ba4f3_113 : decode cJ6_getChars_ba4f3 113 = .ok (.iload 5, 2) := dchk_at dall_J6_getChars_ba4f3_84b_sb_1 (k := 0) rfl
theorem dJ6_getChars_ba4f3_115 : decode cJ6_getChars_ba4f3 115 = .ok (.bipush 45, 2) := dchk_at dall_J6_getChars_ba4f3_84b_sb_1 (k := 1) rfl
theorem dJ6_getChars_ba4f3_117 : decode cJ6_getChars_ba4f3 117 = .ok (.bastore, 1) := dchk_at dall_J6_getChars_ba4f3_84b_sb_1 (k := 2) rfl
theorem dJ6_getChars_ba4f3_91 : decode cJ6_getChars_ba4f3 91 = .ok (.aload_n 2, 1) := dchk_at dall_J6_getChars_ba4f3_84b_sb_1 (k := 3) rfl
theorem dJ6_getChars_ba4f3_92 : decode cJ6_getChars_ba4f3 92 = .ok (.iinc 5 (-1), 3) := dchk_at dall_J6_getChars_ba4f3_84b_sb_1 (k := 4) rfl
theorem dJ6_getChars_ba4f3_95 : decode cJ6_getChars_ba4f3 95 = .ok (.iload 5, 2) := dchk_at dall_J6_getChars_ba4f3_84b_sb_1 (k := 5) rfl
theorem dJ6_getChars_ba4f3_97 : decode cJ6_getChars_ba4f3 97 = .ok (.getstatic 87, 3) := dchk_at dall_J6_getChars_ba4f3_84b_sb_1 (k := 6) rfl
theorem dJ6_getChars_ba4f3_100 : decode cJ6_getChars_ba4f3 100 = .ok (.iload_n 0, 1) := dchk_at dall_J6_getChars_ba4f3_84b_sb_1 (k := 7) rfl
theorem dJ6_getChars_ba4f3_101 : decode cJ6_getChars_ba4f3 101 = .ok (.ineg, 1) := dchk_at dall_J6_getChars_ba4f3_84b_sb_1 (k := 8) rfl
theorem dJ6_getChars_ba4f3_102 : decode cJ6_getChars_ba4f3 102 = .ok (.baload, 1) := dchk_at dall_J6_getChars_ba4f3_84b_sb_1 (k := 9) rfl
theorem dJ6_getChars_ba4f3_103 : decode cJ6_getChars_ba4f3 103 = .ok (.bastore, 1) := dchk_at dall_J6_getChars_ba4f3_84b_sb_1 (k := 10) rfl
theorem dJ6_getChars_ba4f3_19 : decode cJ6_getChars_ba4f3 19 = .ok (.iload_n 0, 1) := dchk_at dall_J6_getChars_ba4f3_84b_sb_1 (k := 11) rfl
theorem dJ6_getChars_ba4f3_20 : decode cJ6_getChars_ba4f3 20 = .ok (.ineg, 1) := dchk_at dall_J6_getChars_ba4f3_84b_sb_1 (k := 12) rfl
theorem dJ6_getChars_ba4f3_21 : decode cJ6_getChars_ba4f3 21 = .ok (.istore_n 0, 1) := dchk_at dall_J6_getChars_ba4f3_84b_sb_1 (k := 13) rfl
theorem dJ6_getChars_ba4f3_0 : decode cJ6_getChars_ba4f3 0 = .ok (.iload_n 1, 1) := dchk_at dall_J6_getChars_ba4f3_84b_sb_1 (k := 14) rfl
theorem dJ6_getChars_ba4f3_1 : decode cJ6_getChars_ba4f3 1 = .ok (.istore 5, 2) := dchk_at dall_J6_getChars_ba4f3_84b_sb_1 (k := 15) rfl
theorem dJ6_getChars_ba4f3_3 : decode cJ6_getChars_ba4f3 3 = .ok (.iload_n 0, 1) := dchk_at dall_J6_getChars_ba4f3_84b_sb_1 (k := 16) rfl
theorem dJ6_getChars_ba4f3_4 : decode cJ6_getChars_ba4f3 4 = .ok (.ifCond .ge 7, 3) := dchk_at dall_J6_getChars_ba4f3_84b_sb_1 (k := 17) rfl
theorem dJ6_getChars_ba4f3_11 : decode cJ6_getChars_ba4f3 11 = .ok (.iconst 0, 1) := dchk_at dall_J6_getChars_ba4f3_84b_sb_1 (k := 18) rfl
theorem dJ6_getChars_ba4f3_7 : decode cJ6_getChars_ba4f3 7 = .ok (.iconst 1, 1) := dchk_at dall_J6_getChars_ba4f3_84b_sb_1 (k := 19) rfl
theorem dJ6_getChars_ba4f3_8 : decode cJ6_getChars_ba4f3 8 = .ok (.goto 4, 3) := dchk_at dall_J6_getChars_ba4f3_84b_sb_1 (k := 20) rfl
def dl_J5_length_8abf5_84b_sb_0 : List (Nat × Instr × Nat) := [(0, .aload_n 0, 1), (1, .getfield 79, 3), (4, .ireturn, 1)]
set_option maxRecDepth 100000 in
theorem dall_J5_length_8abf5_84b_sb_0 : dchk cJ5_length_8abf5 dl_J5_length_8abf5_84b_sb_0 = true := by decide +kernel
theorem dJ5_length_8abf5_0 : decode cJ5_length_8abf5 0 = .ok (.aload_n 0, 1) := dchk_at dall_J5_length_8abf5_84b_sb_0 (k := 0) rfl
theorem dJ5_length_8abf5_1 : decode cJ5_length_8abf5 1 = .ok (.getfield 79, 3) := dchk_at dall_J5_length_8abf5_84b_sb_0 (k := 1) rfl
theorem dJ5_length_8abf5_4 : decode cJ5_length_8abf5 4 = .ok (.ireturn, 1) := dchk_at dall_J5_length_8abf5_84b_sb_0 (k := 2) rfl
def dl_J5_isLatin1_aae02_84b_sb_0 : List (Nat × Instr × Nat) := [(0, .getstatic 18, 3), (3, .ifCond .eq 14, 3), (6, .aload_n 0, 1), (7, .getfield 22, 3), (10, .ifCond .ne 7, 3), (17, .iconst 0, 1), (18, .ireturn, 1), (13, .iconst 1, 1), (14, .goto 4, 3)]
set_option maxRecDepth 100000 in
theorem dall_J5_isLatin1_aae02_84b_sb_0 : dchk cJ5_isLatin1_aae02 dl_J5_isLatin1_aae02_84b_sb_0 = true := by decide +kernel
theorem dJ5_isLatin1_aae02_0 : decode cJ5_isLatin1_aae02 0 = .ok (.getstatic 18, 3) := dchk_at dall_J5_isLatin1_aae02_84b_sb_0 (k := 0) rfl
theorem dJ5_isLatin1_aae02_3 : decode cJ5_isLatin1_aae02 3 = .ok (.ifCond .eq 14, 3) := dchk_at dall_J5_isLatin1_aae02_84b_sb_0 (k := 1) rfl
theorem dJ5_isLatin1_aae02_6 : decode cJ5_isLatin1_aae02 6 = .ok (.aload_n 0, 1) := dchk_at dall_J5_isLatin1_aae02_84b_sb_0 (k := 2) rfl
theorem dJ5_isLatin1_aae02_7 : decode cJ5_isLatin1_aae02 7 = .ok (.getfield 22, 3) := dchk_at dall_J5_isLatin1_aae02_84b_sb_0 (k := 3) rfl
theorem dJ5_isLatin1_aae02_10 : decode cJ5_isLatin1_aae02 10 = .ok (.ifCond .ne 7, 3) := dchk_at dall_J5_isLatin1_aae02_84b_sb_0 (k := 4) rfl
theorem dJ5_isLatin1_aae02_17 : decode cJ5_isLatin1_aae02 17 = .ok (.iconst 0, 1) := dchk_at dall_J5_isLatin1_aae02_84b_sb_0 (k := 5) rfl
theorem dJ5_isLatin1_aae02_18 : decode cJ5_isLatin1_aae02 18 = .ok (.ireturn, 1) := dchk_at dall_J5_isLatin1_aae02_84b_sb_0 (k := 6) rfl
theorem dJ5_isLatin1_aae02_13 : decode cJ5_isLatin1_aae02 13 = .ok (.iconst 1, 1) := dchk_at dall_J5_isLatin1_aae02_84b_sb_0 (k := 7) rfl
theorem dJ5_isLatin1_aae02_14 : decode cJ5_isLatin1_aae02 14 = .ok (.goto 4, 3) := dchk_at dall_J5_isLatin1_aae02_84b_sb_0 (k := 8) rfl
def dl_J1_canEncode_fc78d_84b_sb_0 : List (Nat × Instr × Nat) := [(0, .iload_n 0, 1), (1, .sipush 255, 3), (4, .if_icmp .gt 7, 3), (11, .iconst 0, 1), (12, .ireturn, 1), (7, .iconst 1, 1), (8, .goto 4, 3)]
set_option maxRecDepth 100000 in
theorem dall_J1_canEncode_fc78d_84b_sb_0 : dchk cJ1_canEncode_fc78d dl_J1_canEncode_fc78d_84b_sb_0 = true := by decide +kernel
theorem dJ1_canEncode_fc78d_0 : decode cJ1_canEncode_fc78d 0 = .ok (.iload_n 0, 1) := dchk_at dall_J1_canEncode_fc78d_84b_sb_0 (k := 0) rfl
theorem dJ1_canEncode_fc78d_1 : decode cJ1_canEncode_fc78d 1 = .ok (.sipush 255, 3) := dchk_at dall_J1_canEncode_fc78d_84b_sb_0 (k := 1) rfl
theorem dJ1_canEncode_fc78d_4 : decode cJ1_canEncode_fc78d 4 = .ok (.if_icmp .gt 7, 3) := dchk_at dall_J1_canEncode_fc78d_84b_sb_0 (k := 2) rfl
theorem dJ1_canEncode_fc78d_11 : decode cJ1_canEncode_fc78d 11 = .ok (.iconst 0, 1) := dchk_at dall_J1_canEncode_fc78d_84b_sb_0 (k := 3) rfl
theorem dJ1_canEncode_fc78d_12 : decode cJ1_canEncode_fc78d 12 = .ok (.ireturn, 1) := dchk_at dall_J1_canEncode_fc78d_84b_sb_0 (k := 4) rfl
theorem dJ1_canEncode_fc78d_7 : decode cJ1_canEncode_fc78d 7 = .ok (.iconst 1, 1) := dchk_at dall_J1_canEncode_fc78d_84b_sb_0 (k := 5) rfl
theorem dJ1_canEncode_fc78d_8 : decode cJ1_canEncode_fc78d 8 = .ok (.goto 4, 3) := dchk_at dall_J1_canEncode_fc78d_84b_sb_0 (k := 6) rfl
def dl_J8_newLength_cabcc_84b_sb_0 : List (Nat × Instr × Nat) := [(0, .iload_n 0, 1), (1, .iload_n 1, 1), (2, .iload_n 2, 1), (3, .invokestatic 194, 3), (6, .iadd, 1), (7, .istore_n 3, 1), (8, .iconst 0, 1), (9, .iload_n 3, 1), (10, .if_icmp .ge 11, 3), (13, .iload_n 3, 1), (14, .ldc 200, 2), (16, .if_icmp .gt 5, 3), (19, .iload_n 3, 1), (20, .ireturn, 1)]
set_option maxRecDepth 100000 in
theorem dall_J8_newLength_cabcc_84b_sb_0 : dchk cJ8_newLength_cabcc dl_J8_newLength_cabcc_84b_sb_0 = true := by decide +kernel
theorem dJ8_newLength_cabcc_0 : decode cJ8_newLength_cabcc 0 = .ok (.iload_n 0, 1) := dchk_at dall_J8_newLength_cabcc_84b_sb_0 (k := 0) rfl
theorem dJ8_newLength_cabcc_1 : decode cJ8_newLength_cabcc 1 = .ok (.iload_n 1, 1) := dchk_at dall_J8_newLength_cabcc_84b_sb_0 (k := 1) rfl
theorem dJ8_newLength_cabcc_2 : decode cJ8_newLength_cabcc 2 = .ok (.iload_n 2, 1) := dchk_at dall_J8_newLength_cabcc_84b_sb_0 (k := 2) rfl
theorem dJ8_newLength_cabcc_3 : decode cJ8_newLength_cabcc 3 = .ok (.invokestatic 194, 3) := dchk_at dall_J8_newLength_cabcc_84b_sb_0 (k := 3) rfl
theorem dJ8_newLength_cabcc_6 : decode cJ8_newLength_cabcc 6 = .ok (.iadd, 1) := dchk_at dall_J8_newLength_cabcc_84b_sb_0 (k := 4) rfl
theorem dJ8_newLength_cabcc_7 : decode cJ8_newLength_cabcc 7 = .ok (.istore_n 3, 1) := dchk_at dall_J8_newLength_cabcc_84b_sb_0 (k := 5) rfl
theorem dJ8_newLength_cabcc_8 : decode cJ8_newLength_cabcc 8 = .ok (.iconst 0, 1) := dchk_at dall_J8_newLength_cabcc_84b_sb_0 (k := 6) rfl
theorem dJ8_newLength_cabcc_9 : decode cJ8_newLength_cabcc 9 = .ok (.iload_n 3, 1) := dchk_at dall_J8_newLength_cabcc_84b_sb_0 (k := 7) rfl
theorem dJ8_newLength_cabcc_10 : decode cJ8_newLength_cabcc 10 = .ok (.if_icmp .ge 11, 3) := dchk_at dall_J8_newLength_cabcc_84b_sb_0 (k := 8) rfl
theorem dJ8_newLength_cabcc_13 : decode cJ8_newLength_cabcc 13 = .ok (.iload_n 3, 1) := dchk_at dall_J8_newLength_cabcc_84b_sb_0 (k := 9) rfl
theorem dJ8_newLength_cabcc_14 : decode cJ8_newLength_cabcc 14 = .ok (.ldc 200, 2) := dchk_at dall_J8_newLength_cabcc_84b_sb_0 (k := 10) rfl
theorem dJ8_newLength_cabcc_16 : decode cJ8_newLength_cabcc 16 = .ok (.if_icmp .gt 5, 3) := dchk_at dall_J8_newLength_cabcc_84b_sb_0 (k := 11) rfl
theorem dJ8_newLength_cabcc_19 : decode cJ8_newLength_cabcc 19 = .ok (.iload_n 3, 1) := dchk_at dall_J8_newLength_cabcc_84b_sb_0 (k := 12) rfl
theorem dJ8_newLength_cabcc_20 : decode cJ8_newLength_cabcc 20 = .ok (.ireturn, 1) := dchk_at dall_J8_newLength_cabcc_84b_sb_0 (k := 13) rfl
def dl_J5_newCapacity_0f7a4_84b_sb_0 : List (Nat × Instr × Nat) := [(0, .aload_n 0, 1), (1, .getfield 15, 3), (4, .arraylength, 1), (5, .istore_n 2, 1), (6, .iload_n 1, 1), (7, .aload_n 0, 1), (8, .getfield 22, 3), (11, .ishl, 1), (12, .istore_n 3, 1), (13, .iload_n 3, 1), (14, .iload_n 2, 1), (15, .isub, 1), (16, .istore 4, 2), (18, .iload_n 2, 1), (19, .iload 4, 2), (21, .iload_n 2, 1), (22, .iconst 2, 1), (23, .aload_n 0, 1), (24, .getfield 22, 3), (27, .ishl, 1), (28, .iadd, 1), (29, .invokestatic 114, 3), (32, .istore 5, 2), (34, .iload 5, 2), (36, .ldc 39, 2), (38, .if_icmp .ne 13, 3), (51, .iload 5, 2), (53, .aload_n 0, 1), (54, .getfield 22, 3), (57, .ishr, 1), (58, .ireturn, 1)]
set_option maxRecDepth 100000 in
theorem dall_J5_newCapacity_0f7a4_84b_sb_0 : dchk cJ5_newCapacity_0f7a4 dl_J5_newCapacity_0f7a4_84b_sb_0 = true := by decide +kernel
theorem dJ5_newCapacity_0f7a4_0 : decode cJ5_newCapacity_0f7a4 0 = .ok (.aload_n 0, 1) := dchk_at dall_J5_newCapacity_0f7a4_84b_sb_0 (k := 0) rfl
theorem dJ5_newCapacity_0f7a4_1 : decode cJ5_newCapacity_0f7a4 1 = .ok (.getfield 15, 3) := dchk_at dall_J5_newCapacity_0f7a4_84b_sb_0 (k := 1) rfl
theorem dJ5_newCapacity_0f7a4_4 : decode cJ5_newCapacity_0f7a4 4 = .ok (.arraylength, 1) := dchk_at dall_J5_newCapacity_0f7a4_84b_sb_0 (k := 2) rfl
theorem dJ5_newCapacity_0f7a4_5 : decode cJ5_newCapacity_0f7a4 5 = .ok (.istore_n 2, 1) := dchk_at dall_J5_newCapacity_0f7a4_84b_sb_0 (k := 3) rfl
theorem dJ5_newCapacity_0f7a4_6 : decode cJ5_newCapacity_0f7a4 6 = .ok (.iload_n 1, 1) := dchk_at dall_J5_newCapacity_0f7a4_84b_sb_0 (k := 4) rfl
theorem dJ5_newCapacity_0f7a4_7 : decode cJ5_newCapacity_0f7a4 7 = .ok (.aload_n 0, 1) := dchk_at dall_J5_newCapacity_0f7a4_84b_sb_0 (k := 5) rfl
theorem dJ5_newCapacity_0f7a4_8 : decode cJ5_newCapacity_0f7a4 8 = .ok (.getfield 22, 3) := dchk_at dall_J5_newCapacity_0f7a4_84b_sb_0 (k := 6) rfl
theorem dJ5_newCapacity_0f7a4_11 : decode cJ5_newCapacity_0f7a4 11 = .ok (.ishl, 1) := dchk_at dall_J5_newCapacity_0f7a4_84b_sb_0 (k := 7) rfl
theorem dJ5_newCapacity_0f7a4_12 : decode cJ5_newCapacity_0f7a4 12 = .ok (.istore_n 3, 1) := dchk_at dall_J5_newCapacity_0f7a4_84b_sb_0 (k := 8) rfl
theorem dJ5_newCapacity_0f7a4_13 : decode cJ5_newCapacity_0f7a4 13 = .ok (.iload_n 3, 1) := dchk_at dall_J5_newCapacity_0f7a4_84b_sb_0 (k := 9) rfl
theorem dJ5_newCapacity_0f7a4_14 : decode cJ5_newCapacity_0f7a4 14 = .ok (.iload_n 2, 1) := dchk_at dall_J5_newCapacity_0f7a4_84b_sb_0 (k := 10) rfl
theorem dJ5_newCapacity_0f7a4_15 : decode cJ5_newCapacity_0f7a4 15 = .ok (.isub, 1) := dchk_at dall_J5_newCapacity_0f7a4_84b_sb_0 (k := 11) rfl
theorem dJ5_newCapacity_0f7a4_16 : decode cJ5_newCapacity_0f7a4 16 = .ok (.istore 4, 2) := dchk_at dall_J5_newCapacity_0f7a4_84b_sb_0 (k := 12) rfl
theorem dJ5_newCapacity_0f7a4_18 : decode cJ5_newCapacity_0f7a4 18 = .ok (.iload_n 2, 1) := dchk_at dall_J5_newCapacity_0f7a4_84b_sb_0 (k := 13) rfl
theorem dJ5_newCapacity_0f7a4_19 : decode cJ5_newCapacity_0f7a4 19 = .ok (.iload 4, 2) := dchk_at dall_J5_newCapacity_0f7a4_84b_sb_0 (k := 14) rfl
theorem dJ5_newCapacity_0f7a4_21 : decode cJ5_newCapacity_0f7a4 21 = .ok (.iload_n 2, 1) := dchk_at dall_J5_newCapacity_0f7a4_84b_sb_0 (k := 15) rfl
theorem dJ5_newCapacity_0f7a4_22 : decode cJ5_newCapacity_0f7a4 22 = .ok (.iconst 2, 1) := dchk_at dall_J5_newCapacity_0f7a4_84b_sb_0 (k := 16) rfl
theorem dJ5_newCapacity_0f7a4_23 : decode cJ5_newCapacity_0f7a4 23 = .ok (.aload_n 0, 1) := dchk_at dall_J5_newCapacity_0f7a4_84b_sb_0 (k := 17) rfl
theorem dJ5_newCapacity_0f7a4_24 : decode cJ5_newCapacity_0f7a4 24 = .ok (.getfield 22, 3) := dchk_at dall_J5_newCapacity_0f7a4_84b_sb_0 (k := 18) rfl
theorem dJ5_newCapacity_0f7a4_27 : decode cJ5_newCapacity_0f7a4 27 = .ok (.ishl, 1) := dchk_at dall_J5_newCapacity_0f7a4_84b_sb_0 (k := 19) rfl
theorem dJ5_newCapacity_0f7a4_28 : decode cJ5_newCapacity_0f7a4 28 = .ok (.iadd, 1) := dchk_at dall_J5_newCapacity_0f7a4_84b_sb_0 (k := 20) rfl
theorem dJ5_newCapacity_0f7a4_29 : decode cJ5_newCapacity_0f7a4 29 = .ok (.invokestatic 114, 3) := dchk_at dall_J5_newCapacity_0f7a4_84b_sb_0 (k := 21) rfl
theorem dJ5_newCapacity_0f7a4_32 : decode cJ5_newCapacity_0f7a4 32 = .ok (.istore 5, 2) := dchk_at dall_J5_newCapacity_0f7a4_84b_sb_0 (k := 22) rfl
theorem dJ5_newCapacity_0f7a4_34 : decode cJ5_newCapacity_0f7a4 34 = .ok (.iload 5, 2) := dchk_at dall_J5_newCapacity_0f7a4_84b_sb_0 (k := 23) rfl
theorem dJ5_newCapacity_0f7a4_36 : decode cJ5_newCapacity_0f7a4 36 = .ok (.ldc 39, 2) := dchk_at dall_J5_newCapacity_0f7a4_84b_sb_0 (k := 24) rfl
theorem dJ5_newCapacity_0f7a4_38 : decode cJ5_newCapacity_0f7a4 38 = .ok (.if_icmp .ne 13, 3) := dchk_at dall_J5_newCapacity_0f7a4_84b_sb_0 (k := 25) rfl
theorem dJ5_newCapacity_0f7a4_51 : decode cJ5_newCapacity_0f7a4 51 = .ok (.iload 5, 2) := dchk_at dall_J5_newCapacity_0f7a4_84b_sb_0 (k := 26) rfl
theorem dJ5_newCapacity_0f7a4_53 : decode cJ5_newCapacity_0f7a4 53 = .ok (.aload_n 0, 1) := dchk_at dall_J5_newCapacity_0f7a4_84b_sb_0 (k := 27) rfl
theorem dJ5_newCapacity_0f7a4_54 : decode cJ5_newCapacity_0f7a4 54 = .ok (.getfield 22, 3) := dchk_at dall_J5_newCapacity_0f7a4_84b_sb_0 (k := 28) rfl
theorem dJ5_newCapacity_0f7a4_57 : decode cJ5_newCapacity_0f7a4 57 = .ok (.ishr, 1) := dchk_at dall_J5_newCapacity_0f7a4_84b_sb_0 (k := 29) rfl
theorem dJ5_newCapacity_0f7a4_58 : decode cJ5_newCapacity_0f7a4 58 = .ok (.ireturn, 1) := dchk_at dall_J5_newCapacity_0f7a4_84b_sb_0 (k := 30) rfl
def dl_J5_charAt_5068e_84b_sb_0 : List (Nat × Instr × Nat) := [(0, .aload_n 0, 1), (1, .getfield 22, 3), (4, .istore_n 2, 1), (5, .aload_n 0, 1), (6, .getfield 15, 3), (9, .astore_n 3, 1), (10, .aload_n 0, 1), (11, .getfield 79, 3), (14, .aload_n 3, 1), (15, .arraylength, 1), (16, .iload_n 2, 1), (17, .ishr, 1), (18, .invokestatic 138, 3), (21, .istore 4, 2), (23, .iload_n 1, 1), (24, .iload 4, 2), (26, .invokestatic 144, 3), (29, .iload_n 2, 1), (30, .ifCond .ne 12, 3), (33, .aload_n 3, 1), (34, .iload_n 1, 1), (35, .baload, 1), (36, .sipush 255, 3), (39, .iand, 1), (40, .i2c, 1), (41, .ireturn, 1)]
set_option maxRecDepth 100000 in
theorem dall_J5_charAt_5068e_84b_sb_0 : dchk cJ5_charAt_5068e dl_J5_charAt_5068e_84b_sb_0 = true := by decide +kernel
theorem dJ5_charAt_5068e_0 : decode cJ5_charAt_5068e 0 = .ok (.aload_n 0, 1) := dchk_at dall_J5_charAt_5068e_84b_sb_0 (k := 0) rfl
theorem dJ5_charAt_5068e_1 : decode cJ5_charAt_5068e 1 = .ok (.getfield 22, 3) := dchk_at dall_J5_charAt_5068e_84b_sb_0 (k := 1) rfl
theorem dJ5_charAt_5068e_4 : decode cJ5_charAt_5068e 4 = .ok (.istore_n 2, 1) := dchk_at dall_J5_charAt_5068e_84b_sb_0 (k := 2) rfl
theorem dJ5_charAt_5068e_5 : decode cJ5_charAt_5068e 5 = .ok (.aload_n 0, 1) := dchk_at dall_J5_charAt_5068e_84b_sb_0 (k := 3) rfl
theorem dJ5_charAt_5068e_6 : decode cJ5_charAt_5068e 6 = .ok (.getfield 15, 3) := dchk_at dall_J5_charAt_5068e_84b_sb_0 (k := 4) rfl
theorem dJ5_charAt_5068e_9 : decode cJ5_charAt_5068e 9 = .ok (.astore_n 3, 1) := dchk_at dall_J5_charAt_5068e_84b_sb_0 (k := 5) rfl
theorem dJ5_charAt_5068e_10 : decode cJ5_charAt_5068e 10 = .ok (.aload_n 0, 1) := dchk_at dall_J5_charAt_5068e_84b_sb_0 (k := 6) rfl
theorem dJ5_charAt_5068e_11 : decode cJ5_charAt_5068e 11 = .ok (.getfield 79, 3) := dchk_at dall_J5_charAt_5068e_84b_sb_0 (k := 7) rfl
theorem dJ5_charAt_5068e_14 : decode cJ5_charAt_5068e 14 = .ok (.aload_n 3, 1) := dchk_at dall_J5_charAt_5068e_84b_sb_0 (k := 8) rfl
theorem dJ5_charAt_5068e_15 : decode cJ5_charAt_5068e 15 = .ok (.arraylength, 1) := dchk_at dall_J5_charAt_5068e_84b_sb_0 (k := 9) rfl
theorem dJ5_charAt_5068e_16 : decode cJ5_charAt_5068e 16 = .ok (.iload_n 2, 1) := dchk_at dall_J5_charAt_5068e_84b_sb_0 (k := 10) rfl
theorem dJ5_charAt_5068e_17 : decode cJ5_charAt_5068e 17 = .ok (.ishr, 1) := dchk_at dall_J5_charAt_5068e_84b_sb_0 (k := 11) rfl
theorem dJ5_charAt_5068e_18 : decode cJ5_charAt_5068e 18 = .ok (.invokestatic 138, 3) := dchk_at dall_J5_charAt_5068e_84b_sb_0 (k := 12) rfl
theorem dJ5_charAt_5068e_21 : decode cJ5_charAt_5068e 21 = .ok (.istore 4, 2) := dchk_at dall_J5_charAt_5068e_84b_sb_0 (k := 13) rfl
theorem dJ5_charAt_5068e_23 : decode cJ5_charAt_5068e 23 = .ok (.iload_n 1, 1) := dchk_at dall_J5_charAt_5068e_84b_sb_0 (k := 14) rfl
theorem dJ5_charAt_5068e_24 : decode cJ5_charAt_5068e 24 = .ok (.iload 4, 2) := dchk_at dall_J5_charAt_5068e_84b_sb_0 (k := 15) rfl
theorem dJ5_charAt_5068e_26 : decode cJ5_charAt_5068e 26 = .ok (.invokestatic 144, 3) := dchk_at dall_J5_charAt_5068e_84b_sb_0 (k := 16) rfl
theorem dJ5_charAt_5068e_29 : decode cJ5_charAt_5068e 29 = .ok (.iload_n 2, 1) := dchk_at dall_J5_charAt_5068e_84b_sb_0 (k := 17) rfl
theorem dJ5_charAt_5068e_30 : decode cJ5_charAt_5068e 30 = .ok (.ifCond .ne 12, 3) := dchk_at dall_J5_charAt_5068e_84b_sb_0 (k := 18) rfl
theorem dJ5_charAt_5068e_33 : decode cJ5_charAt_5068e 33 = .ok (.aload_n 3, 1) := dchk_at dall_J5_charAt_5068e_84b_sb_0 (k := 19) rfl
theorem dJ5_charAt_5068e_34 : decode cJ5_charAt_5068e 34 = .ok (.iload_n 1, 1) := dchk_at dall_J5_charAt_5068e_84b_sb_0 (k := 20) rfl
theorem dJ5_charAt_5068e_35 : decode cJ5_charAt_5068e 35 = .ok (.baload, 1) := dchk_at dall_J5_charAt_5068e_84b_sb_0 (k := 21) rfl
theorem dJ5_charAt_5068e_36 : decode cJ5_charAt_5068e 36 = .ok (.sipush 255, 3) := dchk_at dall_J5_charAt_5068e_84b_sb_0 (k := 22) rfl
theorem dJ5_charAt_5068e_39 : decode cJ5_charAt_5068e 39 = .ok (.iand, 1) := dchk_at dall_J5_charAt_5068e_84b_sb_0 (k := 23) rfl
theorem dJ5_charAt_5068e_40 : decode cJ5_charAt_5068e 40 = .ok (.i2c, 1) := dchk_at dall_J5_charAt_5068e_84b_sb_0 (k := 24) rfl
theorem dJ5_charAt_5068e_41 : decode cJ5_charAt_5068e 41 = .ok (.ireturn, 1) := dchk_at dall_J5_charAt_5068e_84b_sb_0 (k := 25) rfl
def dl_J5_inflateIfNeededFor_a7421_84b_sb_0 : List (Nat × Instr × Nat) := [(0, .getstatic 18, 3), (3, .ifCond .eq 18, 3), (6, .aload_n 0, 1), (7, .getfield 22, 3), (10, .aload_n 1, 1), (11, .invokevirtual 40, 3), (14, .if_icmp .eq 7, 3), (21, .return_, 1)]
set_option maxRecDepth 100000 in
theorem dall_J5_inflateIfNeededFor_a7421_84b_sb_0 : dchk cJ5_inflateIfNeededFor_a7421 dl_J5_inflateIfNeededFor_a7421_84b_sb_0 = true := by decide +kernel
theorem dJ5_inflateIfNeededFor_a7421_0 : decode cJ5_inflateIfNeededFor_a7421 0 = .ok (.getstatic 18, 3) := dchk_at dall_J5_inflateIfNeededFor_a7421_84b_sb_0 (k := 0) rfl
theorem dJ5_inflateIfNeededFor_a7421_3 : decode cJ5_inflateIfNeededFor_a7421 3 = .ok (.ifCond .eq 18, 3) := dchk_at dall_J5_inflateIfNeededFor_a7421_84b_sb_0 (k := 1) rfl
theorem dJ5_inflateIfNeededFor_a7421_6 : decode cJ5_inflateIfNeededFor_a7421 6 = .ok (.aload_n 0, 1) := dchk_at dall_J5_inflateIfNeededFor_a7421_84b_sb_0 (k := 2) rfl
theorem dJ5_inflateIfNeededFor_a7421_7 : decode cJ5_inflateIfNeededFor_a7421 7 = .ok (.getfield 22, 3) := dchk_at dall_J5_inflateIfNeededFor_a7421_84b_sb_0 (k := 3) rfl
theorem dJ5_inflateIfNeededFor_a7421_10 : decode cJ5_inflateIfNeededFor_a7421 10 = .ok (.aload_n 1, 1) := dchk_at dall_J5_inflateIfNeededFor_a7421_84b_sb_0 (k := 4) rfl
theorem dJ5_inflateIfNeededFor_a7421_11 : decode cJ5_inflateIfNeededFor_a7421 11 = .ok (.invokevirtual 40, 3) := dchk_at dall_J5_inflateIfNeededFor_a7421_84b_sb_0 (k := 5) rfl
theorem dJ5_inflateIfNeededFor_a7421_14 : decode cJ5_inflateIfNeededFor_a7421 14 = .ok (.if_icmp .eq 7, 3) := dchk_at dall_J5_inflateIfNeededFor_a7421_84b_sb_0 (k := 6) rfl
theorem dJ5_inflateIfNeededFor_a7421_21 : decode cJ5_inflateIfNeededFor_a7421 21 = .ok (.return_, 1) := dchk_at dall_J5_inflateIfNeededFor_a7421_84b_sb_0 (k := 7) rfl
def dl_J0_getBytes_840e7_84b_sb_0 : List (Nat × Instr × Nat) := [(0, .aload_n 0, 1), (1, .invokevirtual 335, 3), (4, .iload_n 3, 1), (5, .if_icmp .ne 23, 3), (8, .aload_n 0, 1), (9, .getfield 9, 3), (12, .iconst 0, 1), (13, .aload_n 1, 1), (14, .iload_n 2, 1), (15, .iload_n 3, 1), (16, .ishl, 1), (17, .aload_n 0, 1), (18, .getfield 9, 3), (21, .arraylength, 1), (22, .invokestatic 212, 3), (25, .goto 18, 3), (43, .return_, 1)]
set_option maxRecDepth 100000 in
theorem dall_J0_getBytes_840e7_84b_sb_0 : dchk cJ0_getBytes_840e7 dl_J0_getBytes_840e7_84b_sb_0 = true := by decide +kernel
theorem dJ0_getBytes_840e7_0 : decode cJ0_getBytes_840e7 0 = .ok (.aload_n 0, 1) := dchk_at dall_J0_getBytes_840e7_84b_sb_0 (k := 0) rfl
theorem dJ0_getBytes_840e7_1 : decode cJ0_getBytes_840e7 1 = .ok (.invokevirtual 335, 3) := dchk_at dall_J0_getBytes_840e7_84b_sb_0 (k := 1) rfl
theorem dJ0_getBytes_840e7_4 : decode cJ0_getBytes_840e7 4 = .ok (.iload_n 3, 1) := dchk_at dall_J0_getBytes_840e7_84b_sb_0 (k := 2) rfl
theorem dJ0_getBytes_840e7_5 : decode cJ0_getBytes_840e7 5 = .ok (.if_icmp .ne 23, 3) := dchk_at dall_J0_getBytes_840e7_84b_sb_0 (k := 3) rfl
theorem dJ0_getBytes_840e7_8 : decode cJ0_getBytes_840e7 8 = .ok (.aload_n 0, 1) := dchk_at dall_J0_getBytes_840e7_84b_sb_0 (k := 4) rfl
theorem dJ0_getBytes_840e7_9 : decode cJ0_getBytes_840e7 9 = .ok (.getfield 9, 3) := dchk_at dall_J0_getBytes_840e7_84b_sb_0 (k := 5) rfl
theorem dJ0_getBytes_840e7_12 : decode cJ0_getBytes_840e7 12 = .ok (.iconst 0, 1) := dchk_at dall_J0_getBytes_840e7_84b_sb_0 (k := 6) rfl
theorem dJ0_getBytes_840e7_13 : decode cJ0_getBytes_840e7 13 = .ok (.aload_n 1, 1) := dchk_at dall_J0_getBytes_840e7_84b_sb_0 (k := 7) rfl
theorem dJ0_getBytes_840e7_14 : decode cJ0_getBytes_840e7 14 = .ok (.iload_n 2, 1) := dchk_at dall_J0_getBytes_840e7_84b_sb_0 (k := 8) rfl
theorem dJ0_getBytes_840e7_15 : decode cJ0_getBytes_840e7 15 = .ok (.iload_n 3, 1) := dchk_at dall_J0_getBytes_840e7_84b_sb_0 (k := 9) rfl
theorem dJ0_getBytes_840e7_16 : decode cJ0_getBytes_840e7 16 = .ok (.ishl, 1) := dchk_at dall_J0_getBytes_840e7_84b_sb_0 (k := 10) rfl
theorem dJ0_getBytes_840e7_17 : decode cJ0_getBytes_840e7 17 = .ok (.aload_n 0, 1) := dchk_at dall_J0_getBytes_840e7_84b_sb_0 (k := 11) rfl
theorem dJ0_getBytes_840e7_18 : decode cJ0_getBytes_840e7 18 = .ok (.getfield 9, 3) := dchk_at dall_J0_getBytes_840e7_84b_sb_0 (k := 12) rfl
theorem dJ0_getBytes_840e7_21 : decode cJ0_getBytes_840e7 21 = .ok (.arraylength, 1) := dchk_at dall_J0_getBytes_840e7_84b_sb_0 (k := 13) rfl
theorem dJ0_getBytes_840e7_22 : decode cJ0_getBytes_840e7 22 = .ok (.invokestatic 212, 3) := dchk_at dall_J0_getBytes_840e7_84b_sb_0 (k := 14) rfl
theorem dJ0_getBytes_840e7_25 : decode cJ0_getBytes_840e7 25 = .ok (.goto 18, 3) := dchk_at dall_J0_getBytes_840e7_84b_sb_0 (k := 15) rfl
theorem dJ0_getBytes_840e7_43 : decode cJ0_getBytes_840e7 43 = .ok (.return_, 1) := dchk_at dall_J0_getBytes_840e7_84b_sb_0 (k := 16) rfl
def dl_J5_putStringAt_47b60_84b_sb_0 : List (Nat × Instr × Nat) := [(0, .aload_n 0, 1), (1, .aload_n 2, 1), (2, .invokevirtual 397, 3), (5, .aload_n 2, 1), (6, .aload_n 0, 1), (7, .getfield 15, 3), (10, .iload_n 1, 1), (11, .aload_n 0, 1), (12, .getfield 22, 3), (15, .invokevirtual 399, 3), (18, .return_, 1)]
set_option maxRecDepth 100000 in
theorem dall_J5_putStringAt_47b60_84b_sb_0 : dchk cJ5_putStringAt_47b60 dl_J5_putStringAt_47b60_84b_sb_0 = true := by decide +kernel
theorem dJ5_putStringAt_47b60_0 : decode cJ5_putStringAt_47b60 0 = .ok (.aload_n 0, 1) := dchk_at dall_J5_putStringAt_47b60_84b_sb_0 (k := 0) rfl
theorem dJ5_putStringAt_47b60_1 : decode cJ5_putStringAt_47b60 1 = .ok (.aload_n 2, 1) := dchk_at dall_J5_putStringAt_47b60_84b_sb_0 (k := 1) rfl
theorem dJ5_putStringAt_47b60_2 : decode cJ5_putStringAt_47b60 2 = .ok (.invokevirtual 397, 3) := dchk_at dall_J5_putStringAt_47b60_84b_sb_0 (k := 2) rfl
theorem dJ5_putStringAt_47b60_5 : decode cJ5_putStringAt_47b60 5 = .ok (.aload_n 2, 1) := dchk_at dall_J5_putStringAt_47b60_84b_sb_0 (k := 3) rfl
theorem dJ5_putStringAt_47b60_6 : decode cJ5_putStringAt_47b60 6 = .ok (.aload_n 0, 1) := dchk_at dall_J5_putStringAt_47b60_84b_sb_0 (k := 4) rfl
theorem dJ5_putStringAt_47b60_7 : decode cJ5_putStringAt_47b60 7 = .ok (.getfield 15, 3) := dchk_at dall_J5_putStringAt_47b60_84b_sb_0 (k := 5) rfl
theorem dJ5_putStringAt_47b60_10 : decode cJ5_putStringAt_47b60 10 = .ok (.iload_n 1, 1) := dchk_at dall_J5_putStringAt_47b60_84b_sb_0 (k := 6) rfl
theorem dJ5_putStringAt_47b60_11 : decode cJ5_putStringAt_47b60 11 = .ok (.aload_n 0, 1) := dchk_at dall_J5_putStringAt_47b60_84b_sb_0 (k := 7) rfl
theorem dJ5_putStringAt_47b60_12 : decode cJ5_putStringAt_47b60 12 = .ok (.getfield 22, 3) := dchk_at dall_J5_putStringAt_47b60_84b_sb_0 (k := 8) rfl
theorem dJ5_putStringAt_47b60_15 : decode cJ5_putStringAt_47b60 15 = .ok (.invokevirtual 399, 3) := dchk_at dall_J5_putStringAt_47b60_84b_sb_0 (k := 9) rfl
theorem dJ5_putStringAt_47b60_18 : decode cJ5_putStringAt_47b60 18 = .ok (.return_, 1) := dchk_at dall_J5_putStringAt_47b60_84b_sb_0 (k := 10) rfl
def B_J6_stringSize_0f7a4_16 (x0 : Int32) (x2 : Int32) (x3 : Int32) : Option ((Int32 × Int32) ⊕ (Nat × Int32)) :=
  if (10 : Int32) ≤ x3 then some (.inr (1, x3)) else if x0 ≤ x2 then some (.inl ((10 : Int32) * x2, x3 + (1 : Int32))) else some (.inr (0, x3))
def J_J6_stringSize_0f7a4_11 (K : Nat) (x1 : Int32) (x0 : Int32) : Option (Int32) :=
  bd2 (lpF (fun u9 : Int32 × Int32 => B_J6_stringSize_0f7a4_16 x0 u9.1 u9.2) K ((-10 : Int32), (1 : Int32))) (fun t_4 x3_5 => if t_4 = 0 then some (x3_5 + x1) else if t_4 = 1 then some ((10 : Int32) + x1) else none)
def F_J6_stringSize_0f7a4 (K : Nat) (p0 : Int32) : Option (Int32) :=
  if p0 < (0 : Int32) then J_J6_stringSize_0f7a4_11 K (1 : Int32) p0 else J_J6_stringSize_0f7a4_11 K (0 : Int32) (-p0)

def v_f_J6_stringSize_0f7a4 : List Cond := .code yJ6_stringSize_0f7a4 cJ6_stringSize_0f7a4 4 (some .int) :: ([] ++ ([]))
theorem gw_f_J6_stringSize_0f7a4 : v_f_J6_stringSize_0f7a4.all goodWord = true := by decide +kernel
theorem hd_J6_stringSize_0f7a4 : yJ6_stringSize_0f7a4.cls = RJ6 ∧ yJ6_stringSize_0f7a4.cls ≠ "java/lang/invoke/MethodHandle" ∧ yJ6_stringSize_0f7a4.cls ≠ "java/lang/invoke/VarHandle" ∧ (parseMethodDescriptor yJ6_stringSize_0f7a4.desc).map (fun d => d.parameters.length) = some 1 := by decide +kernel
set_option maxHeartbeats 4000000 in
set_option maxRecDepth 100000 in
theorem wb_J6_stringSize_0f7a4_16 {p : Program} (l : Launch) {e : Env} {s : State} {m : MethodId} {below : List Frame} {meth : Method} {c : Code} {Q : State → Prop} (E : EE) (K : Nat) {p0 : Int32} {x0 : Int32} {x1 : Int32} {x2 : Int32} {x3 : Int32} (hx : p.tables.exec = Jvm.exec) (hb : c.code = cJ6_stringSize_0f7a4) (hml : c.maxLocals = 4) (hown : s.vm.findClass RJ6 = some m.cls) (hts : ∀ w ∈ v_f_J6_stringSize_0f7a4, w.before #[Value.int p0] s = true) (hK : va_K E.1 vwCl (TY E) s) (hN : NX s) {xx : (Int32 × Int32) ⊕ (Nat × Int32)} (hC : ∀ (x2 : Int32), ∀ (x3 : Int32), xx = .inl (x2, x3) → ∀ (ls : Array Slot), lv_has ls 4 [(0, .int x0), (1, .int x1), (2, .int x2), (3, .int x3)] → W p l e ({ frames := 0, cells := 0, slots := 0, locals := 0 } : Room) s m #[Value.int p0] below meth c s.heap [] 0 0 Q (F0 m 16 ls [])) (hE : ∀ (t9 : Nat), ∀ (x3 : Int32), xx = .inr (t9, x3) → ((t9 = 0 → ∀ (ls : Array Slot), lv_has ls 4 [(1, .int x1), (3, .int x3)] → W p l e ({ frames := 0, cells := 0, slots := 0, locals := 0 } : Room) s m #[Value.int p0] below meth c s.heap [] 0 0 Q (F0 m 27 ls [])) ∧ (t9 = 1 → ∀ (ls : Array Slot), lv_has ls 4 [(1, .int x1)] → W p l e ({ frames := 0, cells := 0, slots := 0, locals := 0 } : Room) s m #[Value.int p0] below meth c s.heap [] 0 0 Q (F0 m 42 ls [])))) (hF : B_J6_stringSize_0f7a4_16 x0 x2 x3 = some xx) (hP : va_P E.1 vwCl [] s.heap) : ∀ (ls : Array Slot), lv_has ls 4 [(0, .int x0), (1, .int x1), (2, .int x2), (3, .int x3)] → W p l e ({ frames := 0, cells := 0, slots := 0, locals := 0 } : Room) s m #[Value.int p0] below meth c s.heap [] 0 0 Q (F0 m 16 ls []) := by
  unfold B_J6_stringSize_0f7a4_16 at hF
  replace hP : va_P E.1 vwCl [] s.heap := hP
  intro ls hl
  refine lv_iload_n hx hb dJ6_stringSize_0f7a4_16 rfl (lv_at hl 3 rfl) ?_
  refine lv_bipush (v := 10) hx hb dJ6_stringSize_0f7a4_17 (by decide) ?_
  refine lv_icmp_ge (tgt := 42) hx hb dJ6_stringSize_0f7a4_19 (by decide) (fun c_2 => ?_) (fun c_2 => ?_)
  ·
    replace hF := ip c_2 hF
    cases hF
    exact (hE 1 x3 rfl).2 rfl ls (lv_sub hl [1] rfl)
  ·
    replace hF := inn c_2 hF
    refine lv_iload_n hx hb dJ6_stringSize_0f7a4_22 rfl (lv_at hl 0 rfl) ?_
    refine lv_iload_n hx hb dJ6_stringSize_0f7a4_23 rfl (lv_at hl 2 rfl) ?_
    refine lv_icmp_le (tgt := 31) hx hb dJ6_stringSize_0f7a4_24 (by decide) (fun c_3 => ?_) (fun c_3 => ?_)
    ·
      replace hF := ip c_3 hF
      refine lv_bipush (v := 10) hx hb dJ6_stringSize_0f7a4_31 (by decide) ?_
      refine lv_iload_n hx hb dJ6_stringSize_0f7a4_33 rfl (lv_at hl 2 rfl) ?_
      refine lv_imul hx hb dJ6_stringSize_0f7a4_34 ?_
      refine lv_istore_n (lv' := [(2, .int ((10 : Int32) * x2)), (0, .int x0), (1, .int x1), (3, .int x3)]) hx hb dJ6_stringSize_0f7a4_35 rfl hl (by decide) rfl (fun ls hl => ?_)
      refine lv_iinc (v := x3 + (1 : Int32)) (lv' := [(3, .int (x3 + (1 : Int32))), (2, .int ((10 : Int32) * x2)), (0, .int x0), (1, .int x1)]) hx hb dJ6_stringSize_0f7a4_36 hl (k := 3) rfl (rfl) (by decide) rfl (fun ls hl => ?_)
      refine lv_goto (tgt := 16) hx hb dJ6_stringSize_0f7a4_39 (by decide) ?_
      cases hF
      exact hC ((10 : Int32) * x2) (x3 + (1 : Int32)) rfl ls (lv_sub hl [2, 3, 1, 0] rfl)
    ·
      replace hF := inn c_3 hF
      cases hF
      exact (hE 0 x3 rfl).1 rfl ls (lv_sub hl [1, 3] rfl)

set_option maxHeartbeats 4000000 in
set_option maxRecDepth 100000 in
theorem lw_J6_stringSize_0f7a4_16 {p : Program} (l : Launch) {e : Env} {s : State} {m : MethodId} {below : List Frame} {meth : Method} {c : Code} {Q : State → Prop} (E : EE) (K : Nat) {p0 : Int32} {x0 : Int32} {x1 : Int32} (hx : p.tables.exec = Jvm.exec) (hb : c.code = cJ6_stringSize_0f7a4) (hml : c.maxLocals = 4) (hown : s.vm.findClass RJ6 = some m.cls) (hts : ∀ w ∈ v_f_J6_stringSize_0f7a4, w.before #[Value.int p0] s = true) (hK : va_K E.1 vwCl (TY E) s) (hN : NX s) (hP : va_P E.1 vwCl [] s.heap) (j9 : Nat) (x2 : Int32) (x3 : Int32) (t9' : Nat) (x3' : Int32) (hL : lpF (fun u9 : Int32 × Int32 => B_J6_stringSize_0f7a4_16 x0 u9.1 u9.2) j9 (x2, x3) = some (t9', x3')) (hX : (t9' = 0 → ∀ (ls : Array Slot), lv_has ls 4 [(1, .int x1), (3, .int x3')] → W p l e ({ frames := 0, cells := 0, slots := 0, locals := 0 } : Room) s m #[Value.int p0] below meth c s.heap [] 0 0 Q (F0 m 27 ls [])) ∧ (t9' = 1 → ∀ (ls : Array Slot), lv_has ls 4 [(1, .int x1)] → W p l e ({ frames := 0, cells := 0, slots := 0, locals := 0 } : Room) s m #[Value.int p0] below meth c s.heap [] 0 0 Q (F0 m 42 ls []))) : ∀ (ls : Array Slot), lv_has ls 4 [(0, .int x0), (1, .int x1), (2, .int x2), (3, .int x3)] → W p l e ({ frames := 0, cells := 0, slots := 0, locals := 0 } : Room) s m #[Value.int p0] below meth c s.heap [] 0 0 Q (F0 m 16 ls []) := by
  exact lp_rule (P := (fun u9 : Int32 × Int32 => ∀ (ls : Array Slot), lv_has ls 4 [(0, .int x0), (1, .int x1), (2, .int u9.1), (3, .int u9.2)] → W p l e ({ frames := 0, cells := 0, slots := 0, locals := 0 } : Room) s m #[Value.int p0] below meth c s.heap [] 0 0 Q (F0 m 16 ls []))) (R := (fun r9 : Nat × Int32 => (r9.1 = 0 → ∀ (ls : Array Slot), lv_has ls 4 [(1, .int x1), (3, .int r9.2)] → W p l e ({ frames := 0, cells := 0, slots := 0, locals := 0 } : Room) s m #[Value.int p0] below meth c s.heap [] 0 0 Q (F0 m 27 ls [])) ∧ (r9.1 = 1 → ∀ (ls : Array Slot), lv_has ls 4 [(1, .int x1)] → W p l e ({ frames := 0, cells := 0, slots := 0, locals := 0 } : Room) s m #[Value.int p0] below meth c s.heap [] 0 0 Q (F0 m 42 ls [])))) (fun u9 xx hF hC hE => wb_J6_stringSize_0f7a4_16 l E K (p0 := p0) (x0 := x0) (x1 := x1) (x2 := u9.1) (x3 := u9.2) hx hb hml hown hts hK hN (fun x2 x3 q9 => hC _ q9) (fun t9 x3 q9 => hE _ q9) hF hP) j9 (x2, x3) (t9', x3') hL hX

set_option maxHeartbeats 4000000 in
set_option maxRecDepth 100000 in
theorem j_J6_stringSize_0f7a4_11 {p : Program} (l : Launch) {e : Env} {s : State} {m : MethodId} {below : List Frame} {meth : Method} {c : Code} {Q : State → Prop} (E : EE) (K : Nat) {p0 : Int32} {x1 : Int32} {x0 : Int32} (hx : p.tables.exec = Jvm.exec) (hb : c.code = cJ6_stringSize_0f7a4) (hml : c.maxLocals = 4) (hown : s.vm.findClass RJ6 = some m.cls) (hts : ∀ w ∈ v_f_J6_stringSize_0f7a4, w.before #[Value.int p0] s = true) (hK : va_K E.1 vwCl (TY E) s) (hN : NX s) {rr : Int32} (hr : meth.sig.returnType = (some .int)) (hlocks : meth.locks = false) (hQ : Q = MQ below (vp_Si (fun q : Int32 => q = rr)) #[Value.int p0] s 0 0 (fun _ => False)) (hF : J_J6_stringSize_0f7a4_11 K x1 x0 = some rr) (hP : va_P E.1 vwCl [] s.heap) : ∀ (ls : Array Slot), lv_has ls 4 [(0, .int x0), (1, .int x1)] → W p l e ({ frames := 0, cells := 0, slots := 0, locals := 0 } : Room) s m #[Value.int p0] below meth c s.heap [] 0 0 Q (F0 m 11 ls []) := by
  unfold J_J6_stringSize_0f7a4_11 at hF
  replace hP : va_P E.1 vwCl [] s.heap := hP
  intro ls hl
  refine lv_bipush (v := -10) hx hb dJ6_stringSize_0f7a4_11 (by decide) ?_
  refine lv_istore_n (lv' := [(2, .int (-10 : Int32)), (0, .int x0), (1, .int x1)]) hx hb dJ6_stringSize_0f7a4_13 rfl hl (by decide) rfl (fun ls hl => ?_)
  refine lv_iconst (v := 1) hx hb dJ6_stringSize_0f7a4_14 (by decide) ?_
  refine lv_istore_n (lv' := [(3, .int (1 : Int32)), (2, .int (-10 : Int32)), (0, .int x0), (1, .int x1)]) hx hb dJ6_stringSize_0f7a4_15 rfl hl (by decide) rfl (fun ls hl => ?_)
  replace hF := bd2_s hF
  obtain ⟨t_4, x3_5, hL_6, hF⟩ := hF
  refine lw_J6_stringSize_0f7a4_16 l E K (p0 := p0) (x0 := x0) (x1 := x1) hx hb hml hown hts hK hN hP K (-10 : Int32) (1 : Int32) t_4 x3_5 hL_6 ⟨?_, ?_⟩ ls (lv_sub hl [2, 3, 1, 0] rfl)
  ·
    intro t9
    replace hF := ip t9 hF
    intro ls hl
    refine lv_iload_n hx hb dJ6_stringSize_0f7a4_27 rfl (lv_at hl 1 rfl) ?_
    refine lv_iload_n hx hb dJ6_stringSize_0f7a4_28 rfl (lv_at hl 0 rfl) ?_
    refine lv_iadd hx hb dJ6_stringSize_0f7a4_29 ?_
    rw [hQ]
    obtain e9_0 := inj1 hF
    exact W.iret (v := x3_5 + x1) hx hb hr (fun tt ht hW => ⟨_, rfl, e9_0, ht⟩) (fun _ h => by cases h) dJ6_stringSize_0f7a4_30
  ·
    intro t9
    replace hF := inn (show ¬ t_4 = 0 by omega) hF
    replace hF := ip t9 hF
    intro ls hl
    refine lv_bipush (v := 10) hx hb dJ6_stringSize_0f7a4_42 (by decide) ?_
    refine lv_iload_n hx hb dJ6_stringSize_0f7a4_44 rfl (lv_at hl 0 rfl) ?_
    refine lv_iadd hx hb dJ6_stringSize_0f7a4_45 ?_
    rw [hQ]
    obtain e9_0 := inj1 hF
    exact W.iret (v := (10 : Int32) + x1) hx hb hr (fun tt ht hW => ⟨_, rfl, e9_0, ht⟩) (fun _ h => by cases h) dJ6_stringSize_0f7a4_46

set_option maxHeartbeats 4000000 in
set_option maxRecDepth 100000 in
theorem f_J6_stringSize_0f7a4 (l : Launch) (E : EE) (K : Nat) {p0 : Int32} {rr : Int32} (hF : F_J6_stringSize_0f7a4 K p0 = some rr) : Met l yJ6_stringSize_0f7a4 v_f_J6_stringSize_0f7a4 (({ frames := 0, cells := 0, slots := 0, locals := 0 } : Room)) (va_Pc [.int p0] (pP E [])) (vp_Si (fun q : Int32 => q = rr)) 0 0 (fun _ => False) := by
  refine Met.ofWF (cc := cJ6_stringSize_0f7a4) (maxL := 4) (ret := (some .int)) (by decide +kernel) rfl ?_
  intro p e s m args below meth c s₁ B hml hv
  obtain ⟨rfl, ⟨hK, hN⟩, hP⟩ := hv
  have hx := B.exec
  have hb := B.bytes
  have hr := B.returns
  have hts := atoms_spec (ws := v_f_J6_stringSize_0f7a4) B.pre
  have hown : s.vm.findClass RJ6 = some m.cls := own_of hd_J6_stringSize_0f7a4.1 (findClass_of_methodNamed B.named)
  have hlocks : meth.locks = false := B.notSynchronized
  replace hP : va_P E.1 vwCl [] s.heap := hP
  have hl := lv_entry ([.int p0]) (n := 4) (Nat.le_of_ble_eq_true rfl)
  rw [lg_entry_eq]
  generalize (lg_sl ([.int p0]) ++ List.replicate (4 - (lg_sl ([.int p0])).length) Slot.unset).toArray = ls at hl ⊢
  have hl : lv_has ls 4 [(0, .int p0)] := hl
  obtain ⟨Q, hQ⟩ : ∃ Q : State → Prop, Q = MQ below (vp_Si (fun q : Int32 => q = rr)) #[Value.int p0] s 0 0 (fun _ => False) := ⟨_, rfl⟩
  rw [← hQ]
  change W p l e ({ frames := 0, cells := 0, slots := 0, locals := 0 } : Room) s m #[Value.int p0] below meth c s.heap [] 0 0 Q (F0 m 0 ls [])
  unfold F_J6_stringSize_0f7a4 at hF
  refine lv_iconst (v := 1) hx hb dJ6_stringSize_0f7a4_0 (by decide) ?_
  refine lv_istore_n (lv' := [(1, .int (1 : Int32)), (0, .int p0)]) hx hb dJ6_stringSize_0f7a4_1 rfl hl (by decide) rfl (fun ls hl => ?_)
  refine lv_iload_n hx hb dJ6_stringSize_0f7a4_2 rfl (lv_at hl 1 rfl) ?_
  refine lv_if_lt (tgt := 11) hx hb dJ6_stringSize_0f7a4_3 (by decide) (fun c_1 => ?_) (fun c_1 => ?_)
  ·
    replace hF := ip c_1 hF
    exact j_J6_stringSize_0f7a4_11 l E K (p0 := p0) (x1 := (1 : Int32)) (x0 := p0) hx hb hml hown hts hK hN hr hlocks hQ hF hP ls (lv_sub hl [1, 0] rfl)
  ·
    replace hF := inn c_1 hF
    refine lv_iconst (v := 0) hx hb dJ6_stringSize_0f7a4_6 (by decide) ?_
    refine lv_istore_n (lv' := [(1, .int (0 : Int32)), (0, .int p0)]) hx hb dJ6_stringSize_0f7a4_7 rfl hl (by decide) rfl (fun ls hl => ?_)
    refine lv_iload_n hx hb dJ6_stringSize_0f7a4_8 rfl (lv_at hl 1 rfl) ?_
    refine lv_ineg hx hb dJ6_stringSize_0f7a4_9 ?_
    refine lv_istore_n (lv' := [(0, .int (-p0)), (1, .int (0 : Int32))]) hx hb dJ6_stringSize_0f7a4_10 rfl hl (by decide) rfl (fun ls hl => ?_)
    exact j_J6_stringSize_0f7a4_11 l E K (p0 := p0) (x1 := (0 : Int32)) (x0 := -p0) hx hb hml hown hts hK hN hr hlocks hQ hF hP ls (lv_sub hl [0, 1] rfl)

def B_J6_getChars_ba4f3_22 (m9 : Nat) (x0 : Int32) (x5 : Int32) (c_o2 : Nat → Int32) : Option ((Int32 × Int32 × (Nat → Int32)) ⊕ (Int32 × Int32 × (Nat → Int32))) :=
  if (-100 : Int32) < x0 then some (.inr (x0, x5, c_o2)) else ixF (((x0 / (100 : Int32)) * (100 : Int32)) - x0) 100 (ixF (x5 + (-1 : Int32)) m9 (nmF (upd c_o2 (x5 + (-1 : Int32)).toNatClampNeg (vp_nar .byte (onesF (((x0 / (100 : Int32)) * (100 : Int32)) - x0).toNatClampNeg))) (fun f_6 => ixF (((x0 / (100 : Int32)) * (100 : Int32)) - x0) 100 (ixF ((x5 + (-1 : Int32)) + (-1 : Int32)) m9 (nmF (upd f_6 ((x5 + (-1 : Int32)) + (-1 : Int32)).toNatClampNeg (vp_nar .byte (tensF (((x0 / (100 : Int32)) * (100 : Int32)) - x0).toNatClampNeg))) (fun f_9 => some (.inl (x0 / (100 : Int32), (x5 + (-1 : Int32)) + (-1 : Int32), f_9))))))))
def J_J6_getChars_ba4f3_12 (K : Nat) (m9 : Nat) (k0 : Int32) (x0 : Int32) (x5 : Int32) (c_o2 : Nat → Int32) : Option (Int32 × (Nat → Int32)) :=
  if k0 = (0 : Int32) then bd3 (lpF (fun u9 : Int32 × Int32 × (Nat → Int32) => B_J6_getChars_ba4f3_22 m9 u9.1 u9.2.1 u9.2.2) K (-x0, x5, c_o2)) (fun x0_27 x5_28 c_o2_29 => ixF (-x0_27) 100 (ixF (x5_28 + (-1 : Int32)) m9 (nmF (upd c_o2_29 (x5_28 + (-1 : Int32)).toNatClampNeg (vp_nar .byte (onesF (-x0_27).toNatClampNeg))) (fun f_33 => if (-9 : Int32) ≤ x0_27 then if k0 = (0 : Int32) then some (x5_28 + (-1 : Int32), f_33) else ixF ((x5_28 + (-1 : Int32)) + (-1 : Int32)) m9 (nmF (upd f_33 ((x5_28 + (-1 : Int32)) + (-1 : Int32)).toNatClampNeg (vp_nar .byte (45 : Int32))) (fun f_37 => some ((x5_28 + (-1 : Int32)) + (-1 : Int32), f_37))) else ixF (-x0_27) 100 (ixF ((x5_28 + (-1 : Int32)) + (-1 : Int32)) m9 (nmF (upd f_33 ((x5_28 + (-1 : Int32)) + (-1 : Int32)).toNatClampNeg (vp_nar .byte (tensF (-x0_27).toNatClampNeg))) (fun f_40 => if k0 = (0 : Int32) then some ((x5_28 + (-1 : Int32)) + (-1 : Int32), f_40) else ixF (((x5_28 + (-1 : Int32)) + (-1 : Int32)) + (-1 : Int32)) m9 (nmF (upd f_40 (((x5_28 + (-1 : Int32)) + (-1 : Int32)) + (-1 : Int32)).toNatClampNeg (vp_nar .byte (45 : Int32))) (fun f_43 => some (((x5_28 + (-1 : Int32)) + (-1 : Int32)) + (-1 : Int32), f_43)))))))))) else bd3 (lpF (fun u9 : Int32 × Int32 × (Nat → Int32) => B_J6_getChars_ba4f3_22 m9 u9.1 u9.2.1 u9.2.2) K (x0, x5, c_o2)) (fun x0_10 x5_11 c_o2_12 => ixF (-x0_10) 100 (ixF (x5_11 + (-1 : Int32)) m9 (nmF (upd c_o2_12 (x5_11 + (-1 : Int32)).toNatClampNeg (vp_nar .byte (onesF (-x0_10).toNatClampNeg))) (fun f_16 => if (-9 : Int32) ≤ x0_10 then if k0 = (0 : Int32) then some (x5_11 + (-1 : Int32), f_16) else ixF ((x5_11 + (-1 : Int32)) + (-1 : Int32)) m9 (nmF (upd f_16 ((x5_11 + (-1 : Int32)) + (-1 : Int32)).toNatClampNeg (vp_nar .byte (45 : Int32))) (fun f_20 => some ((x5_11 + (-1 : Int32)) + (-1 : Int32), f_20))) else ixF (-x0_10) 100 (ixF ((x5_11 + (-1 : Int32)) + (-1 : Int32)) m9 (nmF (upd f_16 ((x5_11 + (-1 : Int32)) + (-1 : Int32)).toNatClampNeg (vp_nar .byte (tensF (-x0_10).toNatClampNeg))) (fun f_23 => if k0 = (0 : Int32) then some ((x5_11 + (-1 : Int32)) + (-1 : Int32), f_23) else ixF (((x5_11 + (-1 : Int32)) + (-1 : Int32)) + (-1 : Int32)) m9 (nmF (upd f_23 (((x5_11 + (-1 : Int32)) + (-1 : Int32)) + (-1 : Int32)).toNatClampNeg (vp_nar .byte (45 : Int32))) (fun f_26 => some (((x5_11 + (-1 : Int32)) + (-1 : Int32)) + (-1 : Int32), f_26))))))))))
def F_J6_getChars_ba4f3 (K : Nat) (p0 : Int32) (p1 : Int32) (c_o2 : Nat → Int32) (m9 : Nat) : Option (Int32 × (Nat → Int32)) :=
  if (0 : Int32) ≤ p0 then J_J6_getChars_ba4f3_12 K m9 (0 : Int32) p0 p1 c_o2 else J_J6_getChars_ba4f3_12 K m9 (1 : Int32) p0 p1 c_o2
abbrev w_J6_getChars_ba4f3 (E : EE) (a_o2 : Nat) (c_o2 : Nat → Int32) (m9 : Nat) : va_W := [(a_o2, .inl (E.2.2.1, m9, .inl c_o2))]
def v_f_J6_getChars_ba4f3 : List Cond := .code yJ6_getChars_ba4f3 cJ6_getChars_ba4f3 7 (some .int) :: ([.fieldLink RJ6 83 "java/lang/Integer" "DigitOnes" "[B", .fieldLink RJ6 87 "java/lang/Integer" "DigitTens" "[B"] ++ ([]))
theorem gw_f_J6_getChars_ba4f3 : v_f_J6_getChars_ba4f3.all goodWord = true := by decide +kernel
theorem hd_J6_getChars_ba4f3 : yJ6_getChars_ba4f3.cls = RJ6 ∧ yJ6_getChars_ba4f3.cls ≠ "java/lang/invoke/MethodHandle" ∧ yJ6_getChars_ba4f3.cls ≠ "java/lang/invoke/VarHandle" ∧ (parseMethodDescriptor yJ6_getChars_ba4f3.desc).map (fun d => d.parameters.length) = some 3 := by decide +kernel
set_option maxHeartbeats 4000000 in
set_option maxRecDepth 100000 in
theorem wb_J6_getChars_ba4f3_22 {p : Program} (l : Launch) {e : Env} {s : State} {m : MethodId} {below : List Frame} {meth : Method} {c : Code} {Q : State → Prop} (E : EE) (K : Nat) {z9 : Nat → Nat} {a_o2 : Nat} {p0 : Int32} {p1 : Int32} {m9 : Nat} {x0 : Int32} {x5 : Int32} {x6 : Int32} {c_o2 : Nat → Int32} (hx : p.tables.exec = Jvm.exec) (hb : c.code = cJ6_getChars_ba4f3) (hml : c.maxLocals = 7) (hown : s.vm.findClass RJ6 = some m.cls) (hts : ∀ w ∈ v_f_J6_getChars_ba4f3, w.before #[Value.int p0, Value.int p1, Value.ref a_o2] s = true) (hK : va_K E.1 vwCl (TY E) s) (hN : NX s) {A : Nat → Prop} (hA : ∀ q : Nat, s.heap.size ≤ q → A q) (hZ : ZZ z9 A s s.heap) {xx : (Int32 × Int32 × (Nat → Int32)) ⊕ (Int32 × Int32 × (Nat → Int32))} (hC : ∀ (x0 : Int32), ∀ (x5 : Int32), ∀ (c_o2 : Nat → Int32), xx = .inl (x0, x5, c_o2) → ∀ (H : Heap) (locs : List Loc) (ls : Array Slot), va_P E.1 vwCl (w_J6_getChars_ba4f3 E a_o2 c_o2 m9) H → va_D A (w_J6_getChars_ba4f3 E a_o2 c_o2 m9) → va_S A s.heap H locs → lv_has ls 7 [(0, .int x0), (2, .ref a_o2), (5, .int x5), (6, .int x6)] → W p l e ({ frames := 0, cells := 0, slots := 0, locals := 0 } : Room) s m #[Value.int p0, Value.int p1, Value.ref a_o2] below meth c H locs 0 0 Q (F0 m 22 ls [])) (hE : ∀ (x0 : Int32), ∀ (x5 : Int32), ∀ (c_o2 : Nat → Int32), xx = .inr (x0, x5, c_o2) → ((∀ (H : Heap) (locs : List Loc) (ls : Array Slot), va_P E.1 vwCl (w_J6_getChars_ba4f3 E a_o2 c_o2 m9) H → va_D A (w_J6_getChars_ba4f3 E a_o2 c_o2 m9) → va_S A s.heap H locs → lv_has ls 7 [(0, .int x0), (2, .ref a_o2), (5, .int x5), (6, .int x6)] → W p l e ({ frames := 0, cells := 0, slots := 0, locals := 0 } : Room) s m #[Value.int p0, Value.int p1, Value.ref a_o2] below meth c H locs 0 0 Q (F0 m 72 ls [])))) (hF : B_J6_getChars_ba4f3_22 m9 x0 x5 c_o2 = some xx) : ∀ (H : Heap) (locs : List Loc) (ls : Array Slot), va_P E.1 vwCl (w_J6_getChars_ba4f3 E a_o2 c_o2 m9) H → va_D A (w_J6_getChars_ba4f3 E a_o2 c_o2 m9) → va_S A s.heap H locs → lv_has ls 7 [(0, .int x0), (2, .ref a_o2), (5, .int x5), (6, .int x6)] → W p l e ({ frames := 0, cells := 0, slots := 0, locals := 0 } : Room) s m #[Value.int p0, Value.int p1, Value.ref a_o2] below meth c H locs 0 0 Q (F0 m 22 ls []) := by
  unfold B_J6_getChars_ba4f3_22 at hF
  intro H locs ls hP hD hS hl
  replace hP : va_P E.1 vwCl [(a_o2, .inl (E.2.2.1, m9, .inl c_o2))] H := hP
  replace hD : va_D A [(a_o2, .inl (E.2.2.1, m9, .inl c_o2))] := hD
  refine lv_iload_n hx hb dJ6_getChars_ba4f3_22 rfl (lv_at hl 0 rfl) ?_
  refine lv_bipush (v := -100) hx hb dJ6_getChars_ba4f3_23 (by decide) ?_
  refine lv_icmp_gt (tgt := 72) hx hb dJ6_getChars_ba4f3_25 (by decide) (fun c_3 => ?_) (fun c_3 => ?_)
  ·
    replace hF := ip c_3 hF
    cases hF
    exact hE x0 x5 c_o2 rfl H locs ls (hP.sub [0] rfl) (hD.sub [0] (by decide) rfl) hS (lv_sub hl [0, 1, 2, 3] rfl)
  ·
    replace hF := inn c_3 hF
    refine lv_iload_n hx hb dJ6_getChars_ba4f3_28 rfl (lv_at hl 0 rfl) ?_
    refine lv_bipush (v := 100) hx hb dJ6_getChars_ba4f3_29 (by decide) ?_
    refine lv_idiv hx hb dJ6_getChars_ba4f3_31 (by decide) ?_
    refine lv_istore_n (lv' := [(3, .int (x0 / (100 : Int32))), (0, .int x0), (2, .ref a_o2), (5, .int x5), (6, .int x6)]) hx hb dJ6_getChars_ba4f3_32 rfl hl (by decide) rfl (fun ls hl => ?_)
    refine lv_iload_n hx hb dJ6_getChars_ba4f3_33 rfl (lv_at hl 0 rfl) ?_
    refine lv_bipush (v := 100) hx hb dJ6_getChars_ba4f3_34 (by decide) ?_
    refine lv_imul hx hb dJ6_getChars_ba4f3_36 ?_
    refine lv_iload_n hx hb dJ6_getChars_ba4f3_37 rfl (lv_at hl 1 rfl) ?_
    refine lv_isub hx hb dJ6_getChars_ba4f3_38 ?_
    refine lv_istore (lv' := [(4, .int (((x0 / (100 : Int32)) * (100 : Int32)) - x0)), (3, .int (x0 / (100 : Int32))), (0, .int x0), (2, .ref a_o2), (5, .int x5), (6, .int x6)]) hx hb dJ6_getChars_ba4f3_39 hl (by decide) rfl (fun ls hl => ?_)
    refine lv_iload_n hx hb dJ6_getChars_ba4f3_41 rfl (lv_at hl 1 rfl) ?_
    refine lv_istore_n (lv' := [(0, .int (x0 / (100 : Int32))), (4, .int (((x0 / (100 : Int32)) * (100 : Int32)) - x0)), (3, .int (x0 / (100 : Int32))), (2, .ref a_o2), (5, .int x5), (6, .int x6)]) hx hb dJ6_getChars_ba4f3_42 rfl hl (by decide) rfl (fun ls hl => ?_)
    refine lv_aload_n hx hb dJ6_getChars_ba4f3_43 rfl (lv_at hl 3 rfl) ?_
    refine lv_iinc (v := x5 + (-1 : Int32)) (lv' := [(5, .int (x5 + (-1 : Int32))), (0, .int (x0 / (100 : Int32))), (4, .int (((x0 / (100 : Int32)) * (100 : Int32)) - x0)), (3, .int (x0 / (100 : Int32))), (2, .ref a_o2), (6, .int x6)]) hx hb dJ6_getChars_ba4f3_44 hl (k := 4) rfl (rfl) (by decide) rfl (fun ls hl => ?_)
    refine lv_iload hx hb dJ6_getChars_ba4f3_47 (lv_at hl 0 rfl) ?_
    refine va_gets hx hb hZ.2.2.1.2.1 hS hown (hts (.fieldLink RJ6 83 "java/lang/Integer" "DigitOnes" "[B") (List.mem_of_getElem? (i := 1) rfl)) (fun _ h9 => h9) dJ6_getChars_ba4f3_49 ?_
    refine lv_iload hx hb dJ6_getChars_ba4f3_52 (lv_at hl 2 rfl) ?_
    replace hF := ix_s hF
    obtain ⟨hi_4, hF⟩ := hF
    refine va_tb (v := .int (onesF (((x0 / (100 : Int32)) * (100 : Int32)) - x0).toNatClampNeg)) hx hb (hZ.2.2.1.2.2.1) hS hi_4 rfl dJ6_getChars_ba4f3_54 ?_
    replace hF := ix_s hF
    obtain ⟨hi_5, hF⟩ := hF
    refine va_bast hx hb hK hP hD hS 0 1 rfl rfl hi_5 dJ6_getChars_ba4f3_55 (fun H locs hP hD hS => ?_)
    replace hP : va_P E.1 vwCl [(a_o2, .inl (E.2.2.1, m9, .inl (upd c_o2 (x5 + (-1 : Int32)).toNatClampNeg (vp_nar .byte (onesF (((x0 / (100 : Int32)) * (100 : Int32)) - x0).toNatClampNeg)))))] H := hP
    replace hD : va_D A [(a_o2, .inl (E.2.2.1, m9, .inl (upd c_o2 (x5 + (-1 : Int32)).toNatClampNeg (vp_nar .byte (onesF (((x0 / (100 : Int32)) * (100 : Int32)) - x0).toNatClampNeg)))))] := hD
    replace hF := nm_s hF
    obtain ⟨f_6, hf_6, hF⟩ := hF
    rw [← hf_6] at hP hD
    refine lv_aload_n hx hb dJ6_getChars_ba4f3_56 rfl (lv_at hl 4 rfl) ?_
    refine lv_iinc (v := (x5 + (-1 : Int32)) + (-1 : Int32)) (lv' := [(5, .int ((x5 + (-1 : Int32)) + (-1 : Int32))), (0, .int (x0 / (100 : Int32))), (4, .int (((x0 / (100 : Int32)) * (100 : Int32)) - x0)), (3, .int (x0 / (100 : Int32))), (2, .ref a_o2), (6, .int x6)]) hx hb dJ6_getChars_ba4f3_57 hl (k := 0) rfl (rfl) (by decide) rfl (fun ls hl => ?_)
    refine lv_iload hx hb dJ6_getChars_ba4f3_60 (lv_at hl 0 rfl) ?_
    refine va_gets hx hb hZ.2.2.1.2.2.2.1 hS hown (hts (.fieldLink RJ6 87 "java/lang/Integer" "DigitTens" "[B") (List.mem_of_getElem? (i := 2) rfl)) (fun _ h9 => h9) dJ6_getChars_ba4f3_62 ?_
    refine lv_iload hx hb dJ6_getChars_ba4f3_65 (lv_at hl 2 rfl) ?_
    replace hF := ix_s hF
    obtain ⟨hi_7, hF⟩ := hF
    refine va_tb (v := .int (tensF (((x0 / (100 : Int32)) * (100 : Int32)) - x0).toNatClampNeg)) hx hb (hZ.2.2.1.2.2.2.2.1) hS hi_7 rfl dJ6_getChars_ba4f3_67 ?_
    replace hF := ix_s hF
    obtain ⟨hi_8, hF⟩ := hF
    refine va_bast hx hb hK hP hD hS 0 1 rfl rfl hi_8 dJ6_getChars_ba4f3_68 (fun H locs hP hD hS => ?_)
    replace hP : va_P E.1 vwCl [(a_o2, .inl (E.2.2.1, m9, .inl (upd f_6 ((x5 + (-1 : Int32)) + (-1 : Int32)).toNatClampNeg (vp_nar .byte (tensF (((x0 / (100 : Int32)) * (100 : Int32)) - x0).toNatClampNeg)))))] H := hP
    replace hD : va_D A [(a_o2, .inl (E.2.2.1, m9, .inl (upd f_6 ((x5 + (-1 : Int32)) + (-1 : Int32)).toNatClampNeg (vp_nar .byte (tensF (((x0 / (100 : Int32)) * (100 : Int32)) - x0).toNatClampNeg)))))] := hD
    replace hF := nm_s hF
    obtain ⟨f_9, hf_9, hF⟩ := hF
    rw [← hf_9] at hP hD
    refine lv_goto (tgt := 22) hx hb dJ6_getChars_ba4f3_69 (by decide) ?_
    cases hF
    exact hC (x0 / (100 : Int32)) ((x5 + (-1 : Int32)) + (-1 : Int32)) f_9 rfl H locs ls (hP.sub [0] rfl) (hD.sub [0] (by decide) rfl) hS (lv_sub hl [1, 4, 0, 5] rfl)

set_option maxHeartbeats 4000000 in
set_option maxRecDepth 100000 in
theorem lw_J6_getChars_ba4f3_22 {p : Program} (l : Launch) {e : Env} {s : State} {m : MethodId} {below : List Frame} {meth : Method} {c : Code} {Q : State → Prop} (E : EE) (K : Nat) {z9 : Nat → Nat} {a_o2 : Nat} {p0 : Int32} {p1 : Int32} {m9 : Nat} {x6 : Int32} (hx : p.tables.exec = Jvm.exec) (hb : c.code = cJ6_getChars_ba4f3) (hml : c.maxLocals = 7) (hown : s.vm.findClass RJ6 = some m.cls) (hts : ∀ w ∈ v_f_J6_getChars_ba4f3, w.before #[Value.int p0, Value.int p1, Value.ref a_o2] s = true) (hK : va_K E.1 vwCl (TY E) s) (hN : NX s) {A : Nat → Prop} (hA : ∀ q : Nat, s.heap.size ≤ q → A q) (hZ : ZZ z9 A s s.heap) (j9 : Nat) (x0 : Int32) (x5 : Int32) (c_o2 : Nat → Int32) (x0' : Int32) (x5' : Int32) (c_o2' : Nat → Int32) (hL : lpF (fun u9 : Int32 × Int32 × (Nat → Int32) => B_J6_getChars_ba4f3_22 m9 u9.1 u9.2.1 u9.2.2) j9 (x0, x5, c_o2) = some (x0', x5', c_o2')) (hX : (∀ (H : Heap) (locs : List Loc) (ls : Array Slot), va_P E.1 vwCl (w_J6_getChars_ba4f3 E a_o2 c_o2' m9) H → va_D A (w_J6_getChars_ba4f3 E a_o2 c_o2' m9) → va_S A s.heap H locs → lv_has ls 7 [(0, .int x0'), (2, .ref a_o2), (5, .int x5'), (6, .int x6)] → W p l e ({ frames := 0, cells := 0, slots := 0, locals := 0 } : Room) s m #[Value.int p0, Value.int p1, Value.ref a_o2] below meth c H locs 0 0 Q (F0 m 72 ls []))) : ∀ (H : Heap) (locs : List Loc) (ls : Array Slot), va_P E.1 vwCl (w_J6_getChars_ba4f3 E a_o2 c_o2 m9) H → va_D A (w_J6_getChars_ba4f3 E a_o2 c_o2 m9) → va_S A s.heap H locs → lv_has ls 7 [(0, .int x0), (2, .ref a_o2), (5, .int x5), (6, .int x6)] → W p l e ({ frames := 0, cells := 0, slots := 0, locals := 0 } : Room) s m #[Value.int p0, Value.int p1, Value.ref a_o2] below meth c H locs 0 0 Q (F0 m 22 ls []) := by
  exact lp_rule (P := (fun u9 : Int32 × Int32 × (Nat → Int32) => ∀ (H : Heap) (locs : List Loc) (ls : Array Slot), va_P E.1 vwCl (w_J6_getChars_ba4f3 E a_o2 u9.2.2 m9) H → va_D A (w_J6_getChars_ba4f3 E a_o2 u9.2.2 m9) → va_S A s.heap H locs → lv_has ls 7 [(0, .int u9.1), (2, .ref a_o2), (5, .int u9.2.1), (6, .int x6)] → W p l e ({ frames := 0, cells := 0, slots := 0, locals := 0 } : Room) s m #[Value.int p0, Value.int p1, Value.ref a_o2] below meth c H locs 0 0 Q (F0 m 22 ls []))) (R := (fun r9 : Int32 × Int32 × (Nat → Int32) => (∀ (H : Heap) (locs : List Loc) (ls : Array Slot), va_P E.1 vwCl (w_J6_getChars_ba4f3 E a_o2 r9.2.2 m9) H → va_D A (w_J6_getChars_ba4f3 E a_o2 r9.2.2 m9) → va_S A s.heap H locs → lv_has ls 7 [(0, .int r9.1), (2, .ref a_o2), (5, .int r9.2.1), (6, .int x6)] → W p l e ({ frames := 0, cells := 0, slots := 0, locals := 0 } : Room) s m #[Value.int p0, Value.int p1, Value.ref a_o2] below meth c H locs 0 0 Q (F0 m 72 ls [])))) (fun u9 xx hF hC hE => wb_J6_getChars_ba4f3_22 l E K (p0 := p0) (p1 := p1) (m9 := m9) (x0 := u9.1) (x5 := u9.2.1) (x6 := x6) (c_o2 := u9.2.2) hx hb hml hown hts hK hN hA hZ (fun x0 x5 c_o2 q9 => hC _ q9) (fun x0 x5 c_o2 q9 => hE _ q9) hF) j9 (x0, x5, c_o2) (x0', x5', c_o2') hL hX

set_option maxHeartbeats 4000000 in
set_option maxRecDepth 100000 in
theorem j_J6_getChars_ba4f3_12 {p : Program} (l : Launch) {e : Env} {s : State} {m : MethodId} {below : List Frame} {meth : Method} {c : Code} {Q : State → Prop} (E : EE) (K : Nat) {z9 : Nat → Nat} {a_o2 : Nat} {p0 : Int32} {p1 : Int32} {m9 : Nat} {k0 : Int32} {x0 : Int32} {x5 : Int32} {c_o2 : Nat → Int32} (hx : p.tables.exec = Jvm.exec) (hb : c.code = cJ6_getChars_ba4f3) (hml : c.maxLocals = 7) (hown : s.vm.findClass RJ6 = some m.cls) (hts : ∀ w ∈ v_f_J6_getChars_ba4f3, w.before #[Value.int p0, Value.int p1, Value.ref a_o2] s = true) (hK : va_K E.1 vwCl (TY E) s) (hN : NX s) {A : Nat → Prop} (hA : ∀ q : Nat, s.heap.size ≤ q → A q) (hZ : ZZ z9 A s s.heap) {rr : Int32} {n_o2 : Nat → Int32} (hr : meth.sig.returnType = (some .int)) (hlocks : meth.locks = false) (hQ : Q = MQ below (va_Qi (fun (q : Int32) (_u : Unit) => q = rr) (fun (_u : Unit) tt => va_P E.1 vwCl (w_J6_getChars_ba4f3 E a_o2 n_o2 m9) tt.heap ∧ va_D A (w_J6_getChars_ba4f3 E a_o2 n_o2 m9)) A) #[Value.int p0, Value.int p1, Value.ref a_o2] s 0 0 A) (hF : J_J6_getChars_ba4f3_12 K m9 k0 x0 x5 c_o2 = some (rr, n_o2)) : ∀ (H : Heap) (locs : List Loc) (ls : Array Slot), va_P E.1 vwCl (w_J6_getChars_ba4f3 E a_o2 c_o2 m9) H → va_D A (w_J6_getChars_ba4f3 E a_o2 c_o2 m9) → va_S A s.heap H locs → lv_has ls 7 [(0, .int x0), (2, .ref a_o2), (5, .int x5)] → W p l e ({ frames := 0, cells := 0, slots := 0, locals := 0 } : Room) s m #[Value.int p0, Value.int p1, Value.ref a_o2] below meth c H locs 0 0 Q (F0 m 12 ls [.int k0]) := by
  unfold J_J6_getChars_ba4f3_12 at hF
  intro H locs ls hP hD hS hl
  replace hP : va_P E.1 vwCl [(a_o2, .inl (E.2.2.1, m9, .inl c_o2))] H := hP
  replace hD : va_D A [(a_o2, .inl (E.2.2.1, m9, .inl c_o2))] := hD
  refine lv_istore (lv' := [(6, .int k0), (0, .int x0), (2, .ref a_o2), (5, .int x5)]) hx hb dJ6_getChars_ba4f3_12 hl (by decide) rfl (fun ls hl => ?_)
  refine lv_iload hx hb dJ6_getChars_ba4f3_14 (lv_at hl 0 rfl) ?_
  refine lv_if_ne (tgt := 22) hx hb dJ6_getChars_ba4f3_16 (by decide) (fun c_2 => ?_) (fun c_2 => ?_)
  ·
    replace hF := inn c_2 hF
    replace hF := bd3_s hF
    obtain ⟨x0_10, x5_11, c_o2_12, hL_13, hF⟩ := hF
    refine lw_J6_getChars_ba4f3_22 l E K (p0 := p0) (p1 := p1) (m9 := m9) (x6 := k0) hx hb hml hown hts hK hN hA hZ K x0 x5 c_o2 x0_10 x5_11 c_o2_12 hL_13 ?_ H locs ls (hP.sub [0] rfl) (hD.sub [0] (by decide) rfl) hS (lv_sub hl [1, 2, 3, 0] rfl)
    ·
      intro H locs ls hP hD hS hl
      replace hP : va_P E.1 vwCl [(a_o2, .inl (E.2.2.1, m9, .inl c_o2_12))] H := hP
      replace hD : va_D A [(a_o2, .inl (E.2.2.1, m9, .inl c_o2_12))] := hD
      refine lv_aload_n hx hb dJ6_getChars_ba4f3_72 rfl (lv_at hl 1 rfl) ?_
      refine lv_iinc (v := x5_11 + (-1 : Int32)) (lv' := [(5, .int (x5_11 + (-1 : Int32))), (0, .int x0_10), (2, .ref a_o2), (6, .int k0)]) hx hb dJ6_getChars_ba4f3_73 hl (k := 2) rfl (rfl) (by decide) rfl (fun ls hl => ?_)
      refine lv_iload hx hb dJ6_getChars_ba4f3_76 (lv_at hl 0 rfl) ?_
      refine va_gets hx hb hZ.2.2.1.2.1 hS hown (hts (.fieldLink RJ6 83 "java/lang/Integer" "DigitOnes" "[B") (List.mem_of_getElem? (i := 1) rfl)) (fun _ h9 => h9) dJ6_getChars_ba4f3_78 ?_
      refine lv_iload_n hx hb dJ6_getChars_ba4f3_81 rfl (lv_at hl 1 rfl) ?_
      refine lv_ineg hx hb dJ6_getChars_ba4f3_82 ?_
      replace hF := ix_s hF
      obtain ⟨hi_14, hF⟩ := hF
      refine va_tb (v := .int (onesF (-x0_10).toNatClampNeg)) hx hb (hZ.2.2.1.2.2.1) hS hi_14 rfl dJ6_getChars_ba4f3_83 ?_
      replace hF := ix_s hF
      obtain ⟨hi_15, hF⟩ := hF
      refine va_bast hx hb hK hP hD hS 0 1 rfl rfl hi_15 dJ6_getChars_ba4f3_84 (fun H locs hP hD hS => ?_)
      replace hP : va_P E.1 vwCl [(a_o2, .inl (E.2.2.1, m9, .inl (upd c_o2_12 (x5_11 + (-1 : Int32)).toNatClampNeg (vp_nar .byte (onesF (-x0_10).toNatClampNeg)))))] H := hP
      replace hD : va_D A [(a_o2, .inl (E.2.2.1, m9, .inl (upd c_o2_12 (x5_11 + (-1 : Int32)).toNatClampNeg (vp_nar .byte (onesF (-x0_10).toNatClampNeg)))))] := hD
      replace hF := nm_s hF
      obtain ⟨f_16, hf_16, hF⟩ := hF
      rw [← hf_16] at hP hD
      refine lv_iload_n hx hb dJ6_getChars_ba4f3_85 rfl (lv_at hl 1 rfl) ?_
      refine lv_bipush (v := -9) hx hb dJ6_getChars_ba4f3_86 (by decide) ?_
      refine lv_icmp_ge (tgt := 104) hx hb dJ6_getChars_ba4f3_88 (by decide) (fun c_17 => ?_) (fun c_17 => ?_)
      ·
        replace hF := ip c_17 hF
        refine lv_iload hx hb dJ6_getChars_ba4f3_104 (lv_at hl 3 rfl) ?_
        refine lv_if_eq (tgt := 118) hx hb dJ6_getChars_ba4f3_106 (by decide) (fun c_18 => ?_) (fun c_18 => ?_)
        ·
          replace hF := ip c_18 hF
          refine lv_iload hx hb dJ6_getChars_ba4f3_118 (lv_at hl 0 rfl) ?_
          rw [hQ]
          have h9 := fin9 (P := fun u9 : Int32 × (Nat → Int32) => (x5_11 + (-1 : Int32)) = u9.1 ∧ va_P E.1 vwCl (w_J6_getChars_ba4f3 E a_o2 u9.2 m9) H ∧ va_D A (w_J6_getChars_ba4f3 E a_o2 u9.2 m9)) hF ⟨rfl, hP, hD⟩
          obtain ⟨e9_0, hP9, hD9⟩ := h9
          exact W.iret (v := x5_11 + (-1 : Int32)) hx hb hr (fun tt ht hW => ⟨⟨_, (), rfl, e9_0, ht ▸ hP9, hD9⟩, hS.F ht⟩) hS.2.2 dJ6_getChars_ba4f3_120
        ·
          replace hF := inn c_18 hF
          refine lv_aload_n hx hb dJ6_getChars_ba4f3_109 rfl (lv_at hl 2 rfl) ?_
          refine lv_iinc (v := (x5_11 + (-1 : Int32)) + (-1 : Int32)) (lv' := [(5, .int ((x5_11 + (-1 : Int32)) + (-1 : Int32))), (0, .int x0_10), (2, .ref a_o2), (6, .int k0)]) hx hb dJ6_getChars_ba4f3_110 hl (k := 0) rfl (rfl) (by decide) rfl (fun ls hl => ?_)
          refine lv_iload hx hb dJ6_getChars_ba4f3_113 (lv_at hl 0 rfl) ?_
          refine lv_bipush (v := 45) hx hb dJ6_getChars_ba4f3_115 (by decide) ?_
          replace hF := ix_s hF
          obtain ⟨hi_19, hF⟩ := hF
          refine va_bast hx hb hK hP hD hS 0 1 rfl rfl hi_19 dJ6_getChars_ba4f3_117 (fun H locs hP hD hS => ?_)
          replace hP : va_P E.1 vwCl [(a_o2, .inl (E.2.2.1, m9, .inl (upd f_16 ((x5_11 + (-1 : Int32)) + (-1 : Int32)).toNatClampNeg (vp_nar .byte (45 : Int32)))))] H := hP
          replace hD : va_D A [(a_o2, .inl (E.2.2.1, m9, .inl (upd f_16 ((x5_11 + (-1 : Int32)) + (-1 : Int32)).toNatClampNeg (vp_nar .byte (45 : Int32)))))] := hD
          replace hF := nm_s hF
          obtain ⟨f_20, hf_20, hF⟩ := hF
          rw [← hf_20] at hP hD
          refine lv_iload hx hb dJ6_getChars_ba4f3_118 (lv_at hl 0 rfl) ?_
          rw [hQ]
          have h9 := fin9 (P := fun u9 : Int32 × (Nat → Int32) => ((x5_11 + (-1 : Int32)) + (-1 : Int32)) = u9.1 ∧ va_P E.1 vwCl (w_J6_getChars_ba4f3 E a_o2 u9.2 m9) H ∧ va_D A (w_J6_getChars_ba4f3 E a_o2 u9.2 m9)) hF ⟨rfl, hP, hD⟩
          obtain ⟨e9_0, hP9, hD9⟩ := h9
          exact W.iret (v := (x5_11 + (-1 : Int32)) + (-1 : Int32)) hx hb hr (fun tt ht hW => ⟨⟨_, (), rfl, e9_0, ht ▸ hP9, hD9⟩, hS.F ht⟩) hS.2.2 dJ6_getChars_ba4f3_120
      ·
        replace hF := inn c_17 hF
        refine lv_aload_n hx hb dJ6_getChars_ba4f3_91 rfl (lv_at hl 2 rfl) ?_
        refine lv_iinc (v := (x5_11 + (-1 : Int32)) + (-1 : Int32)) (lv' := [(5, .int ((x5_11 + (-1 : Int32)) + (-1 : Int32))), (0, .int x0_10), (2, .ref a_o2), (6, .int k0)]) hx hb dJ6_getChars_ba4f3_92 hl (k := 0) rfl (rfl) (by decide) rfl (fun ls hl => ?_)
        refine lv_iload hx hb dJ6_getChars_ba4f3_95 (lv_at hl 0 rfl) ?_
        refine va_gets hx hb hZ.2.2.1.2.2.2.1 hS hown (hts (.fieldLink RJ6 87 "java/lang/Integer" "DigitTens" "[B") (List.mem_of_getElem? (i := 2) rfl)) (fun _ h9 => h9) dJ6_getChars_ba4f3_97 ?_
        refine lv_iload_n hx hb dJ6_getChars_ba4f3_100 rfl (lv_at hl 1 rfl) ?_
        refine lv_ineg hx hb dJ6_getChars_ba4f3_101 ?_
        replace hF := ix_s hF
        obtain ⟨hi_21, hF⟩ := hF
        refine va_tb (v := .int (tensF (-x0_10).toNatClampNeg)) hx hb (hZ.2.2.1.2.2.2.2.1) hS hi_21 rfl dJ6_getChars_ba4f3_102 ?_
        replace hF := ix_s hF
        obtain ⟨hi_22, hF⟩ := hF
        refine va_bast hx hb hK hP hD hS 0 1 rfl rfl hi_22 dJ6_getChars_ba4f3_103 (fun H locs hP hD hS => ?_)
        replace hP : va_P E.1 vwCl [(a_o2, .inl (E.2.2.1, m9, .inl (upd f_16 ((x5_11 + (-1 : Int32)) + (-1 : Int32)).toNatClampNeg (vp_nar .byte (tensF (-x0_10).toNatClampNeg)))))] H := hP
        replace hD : va_D A [(a_o2, .inl (E.2.2.1, m9, .inl (upd f_16 ((x5_11 + (-1 : Int32)) + (-1 : Int32)).toNatClampNeg (vp_nar .byte (tensF (-x0_10).toNatClampNeg)))))] := hD
        replace hF := nm_s hF
        obtain ⟨f_23, hf_23, hF⟩ := hF
        rw [← hf_23] at hP hD
        refine lv_iload hx hb dJ6_getChars_ba4f3_104 (lv_at hl 3 rfl) ?_
        refine lv_if_eq (tgt := 118) hx hb dJ6_getChars_ba4f3_106 (by decide) (fun c_24 => ?_) (fun c_24 => ?_)
        ·
          replace hF := ip c_24 hF
          refine lv_iload hx hb dJ6_getChars_ba4f3_118 (lv_at hl 0 rfl) ?_
          rw [hQ]
          have h9 := fin9 (P := fun u9 : Int32 × (Nat → Int32) => ((x5_11 + (-1 : Int32)) + (-1 : Int32)) = u9.1 ∧ va_P E.1 vwCl (w_J6_getChars_ba4f3 E a_o2 u9.2 m9) H ∧ va_D A (w_J6_getChars_ba4f3 E a_o2 u9.2 m9)) hF ⟨rfl, hP, hD⟩
          obtain ⟨e9_0, hP9, hD9⟩ := h9
          exact W.iret (v := (x5_11 + (-1 : Int32)) + (-1 : Int32)) hx hb hr (fun tt ht hW => ⟨⟨_, (), rfl, e9_0, ht ▸ hP9, hD9⟩, hS.F ht⟩) hS.2.2 dJ6_getChars_ba4f3_120
        ·
          replace hF := inn c_24 hF
          refine lv_aload_n hx hb dJ6_getChars_ba4f3_109 rfl (lv_at hl 2 rfl) ?_
          refine lv_iinc (v := ((x5_11 + (-1 : Int32)) + (-1 : Int32)) + (-1 : Int32)) (lv' := [(5, .int (((x5_11 + (-1 : Int32)) + (-1 : Int32)) + (-1 : Int32))), (0, .int x0_10), (2, .ref a_o2), (6, .int k0)]) hx hb dJ6_getChars_ba4f3_110 hl (k := 0) rfl (rfl) (by decide) rfl (fun ls hl => ?_)
          refine lv_iload hx hb dJ6_getChars_ba4f3_113 (lv_at hl 0 rfl) ?_
          refine lv_bipush (v := 45) hx hb dJ6_getChars_ba4f3_115 (by decide) ?_
          replace hF := ix_s hF
          obtain ⟨hi_25, hF⟩ := hF
          refine va_bast hx hb hK hP hD hS 0 1 rfl rfl hi_25 dJ6_getChars_ba4f3_117 (fun H locs hP hD hS => ?_)
          replace hP : va_P E.1 vwCl [(a_o2, .inl (E.2.2.1, m9, .inl (upd f_23 (((x5_11 + (-1 : Int32)) + (-1 : Int32)) + (-1 : Int32)).toNatClampNeg (vp_nar .byte (45 : Int32)))))] H := hP
          replace hD : va_D A [(a_o2, .inl (E.2.2.1, m9, .inl (upd f_23 (((x5_11 + (-1 : Int32)) + (-1 : Int32)) + (-1 : Int32)).toNatClampNeg (vp_nar .byte (45 : Int32)))))] := hD
          replace hF := nm_s hF
          obtain ⟨f_26, hf_26, hF⟩ := hF
          rw [← hf_26] at hP hD
          refine lv_iload hx hb dJ6_getChars_ba4f3_118 (lv_at hl 0 rfl) ?_
          rw [hQ]
          have h9 := fin9 (P := fun u9 : Int32 × (Nat → Int32) => (((x5_11 + (-1 : Int32)) + (-1 : Int32)) + (-1 : Int32)) = u9.1 ∧ va_P E.1 vwCl (w_J6_getChars_ba4f3 E a_o2 u9.2 m9) H ∧ va_D A (w_J6_getChars_ba4f3 E a_o2 u9.2 m9)) hF ⟨rfl, hP, hD⟩
          obtain ⟨e9_0, hP9, hD9⟩ := h9
          exact W.iret (v := ((x5_11 + (-1 : Int32)) + (-1 : Int32)) + (-1 : Int32)) hx hb hr (fun tt ht hW => ⟨⟨_, (), rfl, e9_0, ht ▸ hP9, hD9⟩, hS.F ht⟩) hS.2.2 dJ6_getChars_ba4f3_120
  ·
    replace hF := ip c_2 hF
    refine lv_iload_n hx hb dJ6_getChars_ba4f3_19 rfl (lv_at hl 1 rfl) ?_
    refine lv_ineg hx hb dJ6_getChars_ba4f3_20 ?_
    refine lv_istore_n (lv' := [(0, .int (-x0)), (6, .int k0), (2, .ref a_o2), (5, .int x5)]) hx hb dJ6_getChars_ba4f3_21 rfl hl (by decide) rfl (fun ls hl => ?_)
    replace hF := bd3_s hF
    obtain ⟨x0_27, x5_28, c_o2_29, hL_30, hF⟩ := hF
    refine lw_J6_getChars_ba4f3_22 l E K (p0 := p0) (p1 := p1) (m9 := m9) (x6 := k0) hx hb hml hown hts hK hN hA hZ K (-x0) x5 c_o2 x0_27 x5_28 c_o2_29 hL_30 ?_ H locs ls (hP.sub [0] rfl) (hD.sub [0] (by decide) rfl) hS (lv_sub hl [0, 2, 3, 1] rfl)
    ·
      intro H locs ls hP hD hS hl
      replace hP : va_P E.1 vwCl [(a_o2, .inl (E.2.2.1, m9, .inl c_o2_29))] H := hP
      replace hD : va_D A [(a_o2, .inl (E.2.2.1, m9, .inl c_o2_29))] := hD
      refine lv_aload_n hx hb dJ6_getChars_ba4f3_72 rfl (lv_at hl 1 rfl) ?_
      refine lv_iinc (v := x5_28 + (-1 : Int32)) (lv' := [(5, .int (x5_28 + (-1 : Int32))), (0, .int x0_27), (2, .ref a_o2), (6, .int k0)]) hx hb dJ6_getChars_ba4f3_73 hl (k := 2) rfl (rfl) (by decide) rfl (fun ls hl => ?_)
      refine lv_iload hx hb dJ6_getChars_ba4f3_76 (lv_at hl 0 rfl) ?_
      refine va_gets hx hb hZ.2.2.1.2.1 hS hown (hts (.fieldLink RJ6 83 "java/lang/Integer" "DigitOnes" "[B") (List.mem_of_getElem? (i := 1) rfl)) (fun _ h9 => h9) dJ6_getChars_ba4f3_78 ?_
      refine lv_iload_n hx hb dJ6_getChars_ba4f3_81 rfl (lv_at hl 1 rfl) ?_
      refine lv_ineg hx hb dJ6_getChars_ba4f3_82 ?_
      replace hF := ix_s hF
      obtain ⟨hi_31, hF⟩ := hF
      refine va_tb (v := .int (onesF (-x0_27).toNatClampNeg)) hx hb (hZ.2.2.1.2.2.1) hS hi_31 rfl dJ6_getChars_ba4f3_83 ?_
      replace hF := ix_s hF
      obtain ⟨hi_32, hF⟩ := hF
      refine va_bast hx hb hK hP hD hS 0 1 rfl rfl hi_32 dJ6_getChars_ba4f3_84 (fun H locs hP hD hS => ?_)
      replace hP : va_P E.1 vwCl [(a_o2, .inl (E.2.2.1, m9, .inl (upd c_o2_29 (x5_28 + (-1 : Int32)).toNatClampNeg (vp_nar .byte (onesF (-x0_27).toNatClampNeg)))))] H := hP
      replace hD : va_D A [(a_o2, .inl (E.2.2.1, m9, .inl (upd c_o2_29 (x5_28 + (-1 : Int32)).toNatClampNeg (vp_nar .byte (onesF (-x0_27).toNatClampNeg)))))] := hD
      replace hF := nm_s hF
      obtain ⟨f_33, hf_33, hF⟩ := hF
      rw [← hf_33] at hP hD
      refine lv_iload_n hx hb dJ6_getChars_ba4f3_85 rfl (lv_at hl 1 rfl) ?_
      refine lv_bipush (v := -9) hx hb dJ6_getChars_ba4f3_86 (by decide) ?_
      refine lv_icmp_ge (tgt := 104) hx hb dJ6_getChars_ba4f3_88 (by decide) (fun c_34 => ?_) (fun c_34 => ?_)
      ·
        replace hF := ip c_34 hF
        refine lv_iload hx hb dJ6_getChars_ba4f3_104 (lv_at hl 3 rfl) ?_
        refine lv_if_eq (tgt := 118) hx hb dJ6_getChars_ba4f3_106 (by decide) (fun c_35 => ?_) (fun c_35 => ?_)
        ·
          replace hF := ip c_35 hF
          refine lv_iload hx hb dJ6_getChars_ba4f3_118 (lv_at hl 0 rfl) ?_
          rw [hQ]
          have h9 := fin9 (P := fun u9 : Int32 × (Nat → Int32) => (x5_28 + (-1 : Int32)) = u9.1 ∧ va_P E.1 vwCl (w_J6_getChars_ba4f3 E a_o2 u9.2 m9) H ∧ va_D A (w_J6_getChars_ba4f3 E a_o2 u9.2 m9)) hF ⟨rfl, hP, hD⟩
          obtain ⟨e9_0, hP9, hD9⟩ := h9
          exact W.iret (v := x5_28 + (-1 : Int32)) hx hb hr (fun tt ht hW => ⟨⟨_, (), rfl, e9_0, ht ▸ hP9, hD9⟩, hS.F ht⟩) hS.2.2 dJ6_getChars_ba4f3_120
        ·
          replace hF := inn c_35 hF
          refine lv_aload_n hx hb dJ6_getChars_ba4f3_109 rfl (lv_at hl 2 rfl) ?_
          refine lv_iinc (v := (x5_28 + (-1 : Int32)) + (-1 : Int32)) (lv' := [(5, .int ((x5_28 + (-1 : Int32)) + (-1 : Int32))), (0, .int x0_27), (2, .ref a_o2), (6, .int k0)]) hx hb dJ6_getChars_ba4f3_110 hl (k := 0) rfl (rfl) (by decide) rfl (fun ls hl => ?_)
          refine lv_iload hx hb dJ6_getChars_ba4f3_113 (lv_at hl 0 rfl) ?_
          refine lv_bipush (v := 45) hx hb dJ6_getChars_ba4f3_115 (by decide) ?_
          replace hF := ix_s hF
          obtain ⟨hi_36, hF⟩ := hF
          refine va_bast hx hb hK hP hD hS 0 1 rfl rfl hi_36 dJ6_getChars_ba4f3_117 (fun H locs hP hD hS => ?_)
          replace hP : va_P E.1 vwCl [(a_o2, .inl (E.2.2.1, m9, .inl (upd f_33 ((x5_28 + (-1 : Int32)) + (-1 : Int32)).toNatClampNeg (vp_nar .byte (45 : Int32)))))] H := hP
          replace hD : va_D A [(a_o2, .inl (E.2.2.1, m9, .inl (upd f_33 ((x5_28 + (-1 : Int32)) + (-1 : Int32)).toNatClampNeg (vp_nar .byte (45 : Int32)))))] := hD
          replace hF := nm_s hF
          obtain ⟨f_37, hf_37, hF⟩ := hF
          rw [← hf_37] at hP hD
          refine lv_iload hx hb dJ6_getChars_ba4f3_118 (lv_at hl 0 rfl) ?_
          rw [hQ]
          have h9 := fin9 (P := fun u9 : Int32 × (Nat → Int32) => ((x5_28 + (-1 : Int32)) + (-1 : Int32)) = u9.1 ∧ va_P E.1 vwCl (w_J6_getChars_ba4f3 E a_o2 u9.2 m9) H ∧ va_D A (w_J6_getChars_ba4f3 E a_o2 u9.2 m9)) hF ⟨rfl, hP, hD⟩
          obtain ⟨e9_0, hP9, hD9⟩ := h9
          exact W.iret (v := (x5_28 + (-1 : Int32)) + (-1 : Int32)) hx hb hr (fun tt ht hW => ⟨⟨_, (), rfl, e9_0, ht ▸ hP9, hD9⟩, hS.F ht⟩) hS.2.2 dJ6_getChars_ba4f3_120
      ·
        replace hF := inn c_34 hF
        refine lv_aload_n hx hb dJ6_getChars_ba4f3_91 rfl (lv_at hl 2 rfl) ?_
        refine lv_iinc (v := (x5_28 + (-1 : Int32)) + (-1 : Int32)) (lv' := [(5, .int ((x5_28 + (-1 : Int32)) + (-1 : Int32))), (0, .int x0_27), (2, .ref a_o2), (6, .int k0)]) hx hb dJ6_getChars_ba4f3_92 hl (k := 0) rfl (rfl) (by decide) rfl (fun ls hl => ?_)
        refine lv_iload hx hb dJ6_getChars_ba4f3_95 (lv_at hl 0 rfl) ?_
        refine va_gets hx hb hZ.2.2.1.2.2.2.1 hS hown (hts (.fieldLink RJ6 87 "java/lang/Integer" "DigitTens" "[B") (List.mem_of_getElem? (i := 2) rfl)) (fun _ h9 => h9) dJ6_getChars_ba4f3_97 ?_
        refine lv_iload_n hx hb dJ6_getChars_ba4f3_100 rfl (lv_at hl 1 rfl) ?_
        refine lv_ineg hx hb dJ6_getChars_ba4f3_101 ?_
        replace hF := ix_s hF
        obtain ⟨hi_38, hF⟩ := hF
        refine va_tb (v := .int (tensF (-x0_27).toNatClampNeg)) hx hb (hZ.2.2.1.2.2.2.2.1) hS hi_38 rfl dJ6_getChars_ba4f3_102 ?_
        replace hF := ix_s hF
        obtain ⟨hi_39, hF⟩ := hF
        refine va_bast hx hb hK hP hD hS 0 1 rfl rfl hi_39 dJ6_getChars_ba4f3_103 (fun H locs hP hD hS => ?_)
        replace hP : va_P E.1 vwCl [(a_o2, .inl (E.2.2.1, m9, .inl (upd f_33 ((x5_28 + (-1 : Int32)) + (-1 : Int32)).toNatClampNeg (vp_nar .byte (tensF (-x0_27).toNatClampNeg)))))] H := hP
        replace hD : va_D A [(a_o2, .inl (E.2.2.1, m9, .inl (upd f_33 ((x5_28 + (-1 : Int32)) + (-1 : Int32)).toNatClampNeg (vp_nar .byte (tensF (-x0_27).toNatClampNeg)))))] := hD
        replace hF := nm_s hF
        obtain ⟨f_40, hf_40, hF⟩ := hF
        rw [← hf_40] at hP hD
        refine lv_iload hx hb dJ6_getChars_ba4f3_104 (lv_at hl 3 rfl) ?_
        refine lv_if_eq (tgt := 118) hx hb dJ6_getChars_ba4f3_106 (by decide) (fun c_41 => ?_) (fun c_41 => ?_)
        ·
          replace hF := ip c_41 hF
          refine lv_iload hx hb dJ6_getChars_ba4f3_118 (lv_at hl 0 rfl) ?_
          rw [hQ]
          have h9 := fin9 (P := fun u9 : Int32 × (Nat → Int32) => ((x5_28 + (-1 : Int32)) + (-1 : Int32)) = u9.1 ∧ va_P E.1 vwCl (w_J6_getChars_ba4f3 E a_o2 u9.2 m9) H ∧ va_D A (w_J6_getChars_ba4f3 E a_o2 u9.2 m9)) hF ⟨rfl, hP, hD⟩
          obtain ⟨e9_0, hP9, hD9⟩ := h9
          exact W.iret (v := (x5_28 + (-1 : Int32)) + (-1 : Int32)) hx hb hr (fun tt ht hW => ⟨⟨_, (), rfl, e9_0, ht ▸ hP9, hD9⟩, hS.F ht⟩) hS.2.2 dJ6_getChars_ba4f3_120
        ·
          replace hF := inn c_41 hF
          refine lv_aload_n hx hb dJ6_getChars_ba4f3_109 rfl (lv_at hl 2 rfl) ?_
          refine lv_iinc (v := ((x5_28 + (-1 : Int32)) + (-1 : Int32)) + (-1 : Int32)) (lv' := [(5, .int (((x5_28 + (-1 : Int32)) + (-1 : Int32)) + (-1 : Int32))), (0, .int x0_27), (2, .ref a_o2), (6, .int k0)]) hx hb dJ6_getChars_ba4f3_110 hl (k := 0) rfl (rfl) (by decide) rfl (fun ls hl => ?_)
          refine lv_iload hx hb dJ6_getChars_ba4f3_113 (lv_at hl 0 rfl) ?_
          refine lv_bipush (v := 45) hx hb dJ6_getChars_ba4f3_115 (by decide) ?_
          replace hF := ix_s hF
          obtain ⟨hi_42, hF⟩ := hF
          refine va_bast hx hb hK hP hD hS 0 1 rfl rfl hi_42 dJ6_getChars_ba4f3_117 (fun H locs hP hD hS => ?_)
          replace hP : va_P E.1 vwCl [(a_o2, .inl (E.2.2.1, m9, .inl (upd f_40 (((x5_28 + (-1 : Int32)) + (-1 : Int32)) + (-1 : Int32)).toNatClampNeg (vp_nar .byte (45 : Int32)))))] H := hP
          replace hD : va_D A [(a_o2, .inl (E.2.2.1, m9, .inl (upd f_40 (((x5_28 + (-1 : Int32)) + (-1 : Int32)) + (-1 : Int32)).toNatClampNeg (vp_nar .byte (45 : Int32)))))] := hD
          replace hF := nm_s hF
          obtain ⟨f_43, hf_43, hF⟩ := hF
          rw [← hf_43] at hP hD
          refine lv_iload hx hb dJ6_getChars_ba4f3_118 (lv_at hl 0 rfl) ?_
          rw [hQ]
          have h9 := fin9 (P := fun u9 : Int32 × (Nat → Int32) => (((x5_28 + (-1 : Int32)) + (-1 : Int32)) + (-1 : Int32)) = u9.1 ∧ va_P E.1 vwCl (w_J6_getChars_ba4f3 E a_o2 u9.2 m9) H ∧ va_D A (w_J6_getChars_ba4f3 E a_o2 u9.2 m9)) hF ⟨rfl, hP, hD⟩
          obtain ⟨e9_0, hP9, hD9⟩ := h9
          exact W.iret (v := ((x5_28 + (-1 : Int32)) + (-1 : Int32)) + (-1 : Int32)) hx hb hr (fun tt ht hW => ⟨⟨_, (), rfl, e9_0, ht ▸ hP9, hD9⟩, hS.F ht⟩) hS.2.2 dJ6_getChars_ba4f3_120

set_option maxHeartbeats 4000000 in
set_option maxRecDepth 100000 in
theorem f_J6_getChars_ba4f3 (l : Launch) (E : EE) (sz : Nat) (K : Nat) (z9 : Nat → Nat) {a_o2 : Nat} {p0 : Int32} {p1 : Int32} {c_o2 : Nat → Int32} {m9 : Nat} {rr : Int32} {n_o2 : Nat → Int32} (hF : F_J6_getChars_ba4f3 K p0 p1 c_o2 m9 = some (rr, n_o2)) : Met l yJ6_getChars_ba4f3 v_f_J6_getChars_ba4f3 (({ frames := 0, cells := 0, slots := 0, locals := 0 } : Room)) (va_Pc [.int p0, .int p1, .ref a_o2] (qWZ E z9 sz (w_J6_getChars_ba4f3 E a_o2 c_o2 m9))) (va_Qi (fun (q : Int32) (_u : Unit) => q = rr) (fun (_u : Unit) tt => va_P E.1 vwCl (w_J6_getChars_ba4f3 E a_o2 n_o2 m9) tt.heap ∧ va_D (va_A (w_J6_getChars_ba4f3 E a_o2 c_o2 m9) sz) (w_J6_getChars_ba4f3 E a_o2 n_o2 m9)) (va_A (w_J6_getChars_ba4f3 E a_o2 c_o2 m9) sz)) 0 0 (va_A (w_J6_getChars_ba4f3 E a_o2 c_o2 m9) sz) := by
  refine Met.ofWF (cc := cJ6_getChars_ba4f3) (maxL := 7) (ret := (some .int)) (by decide +kernel) rfl ?_
  intro p e s m args below meth c s₁ B hml hv
  obtain ⟨rfl, hsz, ⟨hK, hN⟩, hP, hD0, hZ⟩ := hv
  have hx := B.exec
  have hb := B.bytes
  have hr := B.returns
  have hts := atoms_spec (ws := v_f_J6_getChars_ba4f3) B.pre
  have hown : s.vm.findClass RJ6 = some m.cls := own_of hd_J6_getChars_ba4f3.1 (findClass_of_methodNamed B.named)
  have hlocks : meth.locks = false := B.notSynchronized
  subst hsz
  have hD := hD0.self (sz := s.heap.size)
  generalize hAe : va_A (w_J6_getChars_ba4f3 E a_o2 c_o2 m9) s.heap.size = A at hD hZ ⊢
  have hA : ∀ q : Nat, s.heap.size ≤ q → A q := fun q h => by rw [← hAe]; exact Or.inr h
  have hS : va_S A s.heap s.heap [] := va_S.rf
  have hl := lv_entry ([.int p0, .int p1, .ref a_o2]) (n := 7) (Nat.le_of_ble_eq_true rfl)
  rw [lg_entry_eq]
  generalize (lg_sl ([.int p0, .int p1, .ref a_o2]) ++ List.replicate (7 - (lg_sl ([.int p0, .int p1, .ref a_o2])).length) Slot.unset).toArray = ls at hl ⊢
  have hl : lv_has ls 7 [(0, .int p0), (1, .int p1), (2, .ref a_o2)] := hl
  obtain ⟨Q, hQ⟩ : ∃ Q : State → Prop, Q = MQ below (va_Qi (fun (q : Int32) (_u : Unit) => q = rr) (fun (_u : Unit) tt => va_P E.1 vwCl (w_J6_getChars_ba4f3 E a_o2 n_o2 m9) tt.heap ∧ va_D A (w_J6_getChars_ba4f3 E a_o2 n_o2 m9)) A) #[Value.int p0, Value.int p1, Value.ref a_o2] s 0 0 A := ⟨_, rfl⟩
  rw [← hQ]
  change W p l e ({ frames := 0, cells := 0, slots := 0, locals := 0 } : Room) s m #[Value.int p0, Value.int p1, Value.ref a_o2] below meth c s.heap [] 0 0 Q (F0 m 0 ls [])
  suffices hh9 : ∀ (H : Heap) (locs : List Loc), va_P E.1 vwCl (w_J6_getChars_ba4f3 E a_o2 c_o2 m9) H → va_D A (w_J6_getChars_ba4f3 E a_o2 c_o2 m9) → va_S A s.heap H locs → W p l e ({ frames := 0, cells := 0, slots := 0, locals := 0 } : Room) s m #[Value.int p0, Value.int p1, Value.ref a_o2] below meth c H locs 0 0 Q (F0 m 0 ls []) from hh9 s.heap [] hP hD hS
  clear hP hD hS
  intro H locs hP hD hS
  replace hP : va_P E.1 vwCl [(a_o2, .inl (E.2.2.1, m9, .inl c_o2))] H := hP
  replace hD : va_D A [(a_o2, .inl (E.2.2.1, m9, .inl c_o2))] := hD
  unfold F_J6_getChars_ba4f3 at hF
  refine lv_iload_n hx hb dJ6_getChars_ba4f3_0 rfl (lv_at hl 1 rfl) ?_
  refine lv_istore (lv' := [(5, .int p1), (0, .int p0), (1, .int p1), (2, .ref a_o2)]) hx hb dJ6_getChars_ba4f3_1 hl (by decide) rfl (fun ls hl => ?_)
  refine lv_iload_n hx hb dJ6_getChars_ba4f3_3 rfl (lv_at hl 1 rfl) ?_
  refine lv_if_ge (tgt := 11) hx hb dJ6_getChars_ba4f3_4 (by decide) (fun c_1 => ?_) (fun c_1 => ?_)
  ·
    replace hF := ip c_1 hF
    refine lv_iconst (v := 0) hx hb dJ6_getChars_ba4f3_11 (by decide) ?_
    exact j_J6_getChars_ba4f3_12 l E K (p0 := p0) (p1 := p1) (m9 := m9) (k0 := (0 : Int32)) (x0 := p0) (x5 := p1) (c_o2 := c_o2) hx hb hml hown hts hK hN hA hZ hr hlocks hQ hF H locs ls (hP.sub [0] rfl) (hD.sub [0] (by decide) rfl) hS (lv_sub hl [1, 3, 0] rfl)
  ·
    replace hF := inn c_1 hF
    refine lv_iconst (v := 1) hx hb dJ6_getChars_ba4f3_7 (by decide) ?_
    refine lv_goto (tgt := 12) hx hb dJ6_getChars_ba4f3_8 (by decide) ?_
    exact j_J6_getChars_ba4f3_12 l E K (p0 := p0) (p1 := p1) (m9 := m9) (k0 := (1 : Int32)) (x0 := p0) (x5 := p1) (c_o2 := c_o2) hx hb hml hown hts hK hN hA hZ hr hlocks hQ hF H locs ls (hP.sub [0] rfl) (hD.sub [0] (by decide) rfl) hS (lv_sub hl [1, 3, 0] rfl)

def F_J5_length_8abf5 (c_count : Int32) : Option (Int32) :=
  some c_count
abbrev w_J5_length_8abf5 (E : EE) (a_ a_value : Nat) (c_coder : Int32) (c_maybeLatin1 : Int32) (c_count : Int32) : va_W := [(a_, .inr (0, [.ref a_value, .int c_coder, .int c_maybeLatin1, .int c_count]))]
def v_f_J5_length_8abf5 : List Cond := .code yJ5_length_8abf5 cJ5_length_8abf5 1 (some .int) :: ([.fieldLink RJ5 79 "java/lang/AbstractStringBuilder" "count" "I"] ++ (wsJ40 ++ ([])))
theorem gw_f_J5_length_8abf5 : v_f_J5_length_8abf5.all goodWord = true := by decide +kernel
theorem i_f_J5_length_8abf5_J4 : ∀ w ∈ wsJ40, w ∈ v_f_J5_length_8abf5 := fun _ h => List.mem_cons_of_mem _ (List.mem_append_right _ (List.mem_append_left _ h))
theorem hd_J5_length_8abf5 : yJ5_length_8abf5.cls = RJ5 ∧ yJ5_length_8abf5.cls ≠ "java/lang/invoke/MethodHandle" ∧ yJ5_length_8abf5.cls ≠ "java/lang/invoke/VarHandle" ∧ (parseMethodDescriptor yJ5_length_8abf5.desc).map (fun d => d.parameters.length) = some 0 := by decide +kernel
set_option maxHeartbeats 4000000 in
set_option maxRecDepth 100000 in
theorem f_J5_length_8abf5 (l : Launch) (E : EE) {a_ a_value : Nat} {c_coder : Int32} {c_maybeLatin1 : Int32} {c_count : Int32} {rr : Int32} (hF : F_J5_length_8abf5 c_count = some rr) : Met l yJ5_length_8abf5 v_f_J5_length_8abf5 (({ frames := 0, cells := 0, slots := 0, locals := 0 } : Room)) (va_Pc [.ref a_] (pP E (w_J5_length_8abf5 E a_ a_value c_coder c_maybeLatin1 c_count))) (vp_Si (fun q : Int32 => q = rr)) 0 0 (fun _ => False) := by
  refine Met.ofWF (cc := cJ5_length_8abf5) (maxL := 1) (ret := (some .int)) (by decide +kernel) rfl ?_
  intro p e s m args below meth c s₁ B hml hv
  obtain ⟨rfl, ⟨hK, hN⟩, hP⟩ := hv
  have hx := B.exec
  have hb := B.bytes
  have hr := B.returns
  have hts := atoms_spec (ws := v_f_J5_length_8abf5) B.pre
  have hown : s.vm.findClass RJ5 = some m.cls := own_of hd_J5_length_8abf5.1 (findClass_of_methodNamed B.named)
  have hlocks : meth.locks = false := B.notSynchronized
  replace hP : va_P E.1 vwCl [(a_, .inr (0, [.ref a_value, .int c_coder, .int c_maybeLatin1, .int c_count]))] s.heap := hP
  have hl := lv_entry ([.ref a_]) (n := 1) (Nat.le_of_ble_eq_true rfl)
  rw [lg_entry_eq]
  generalize (lg_sl ([.ref a_]) ++ List.replicate (1 - (lg_sl ([.ref a_])).length) Slot.unset).toArray = ls at hl ⊢
  have hl : lv_has ls 1 [(0, .ref a_)] := hl
  obtain ⟨Q, hQ⟩ : ∃ Q : State → Prop, Q = MQ below (vp_Si (fun q : Int32 => q = rr)) #[Value.ref a_] s 0 0 (fun _ => False) := ⟨_, rfl⟩
  rw [← hQ]
  change W p l e ({ frames := 0, cells := 0, slots := 0, locals := 0 } : Room) s m #[Value.ref a_] below meth c s.heap [] 0 0 Q (F0 m 0 ls [])
  unfold F_J5_length_8abf5 at hF
  refine lv_aload_n hx hb dJ5_length_8abf5_0 rfl (lv_at hl 0 rfl) ?_
  refine gt_J4_3 (v := .int c_count) hx hb hts i_f_J5_length_8abf5_J4 hown hK hP 0 rfl (hts (.fieldLink RJ5 79 "java/lang/AbstractStringBuilder" "count" "I") (List.mem_of_getElem? (i := 1) rfl)) rfl dJ5_length_8abf5_1 ?_
  rw [hQ]
  obtain e9_0 := inj1 hF
  exact W.iret (v := c_count) hx hb hr (fun tt ht hW => ⟨_, rfl, e9_0, ht⟩) (fun _ h => by cases h) dJ5_length_8abf5_4

def F_J5_isLatin1_aae02 (c_coder : Int32) : Option (Int32) :=
  if c_coder = (0 : Int32) then some (1 : Int32) else some (0 : Int32)
abbrev w_J5_isLatin1_aae02 (E : EE) (a_ a_value : Nat) (c_coder : Int32) (c_maybeLatin1 : Int32) (c_count : Int32) : va_W := [(a_, .inr (0, [.ref a_value, .int c_coder, .int c_maybeLatin1, .int c_count]))]
def v_f_J5_isLatin1_aae02 : List Cond := .code yJ5_isLatin1_aae02 cJ5_isLatin1_aae02 1 (some .boolean) :: ([.fieldLink RJ5 18 "java/lang/String" "COMPACT_STRINGS" "Z", .fieldLink RJ5 22 "java/lang/AbstractStringBuilder" "coder" "B"] ++ (wsJ40 ++ ([])))
theorem gw_f_J5_isLatin1_aae02 : v_f_J5_isLatin1_aae02.all goodWord = true := by decide +kernel
theorem i_f_J5_isLatin1_aae02_J4 : ∀ w ∈ wsJ40, w ∈ v_f_J5_isLatin1_aae02 := fun _ h => List.mem_cons_of_mem _ (List.mem_append_right _ (List.mem_append_left _ h))
theorem hd_J5_isLatin1_aae02 : yJ5_isLatin1_aae02.cls = RJ5 ∧ yJ5_isLatin1_aae02.cls ≠ "java/lang/invoke/MethodHandle" ∧ yJ5_isLatin1_aae02.cls ≠ "java/lang/invoke/VarHandle" ∧ (parseMethodDescriptor yJ5_isLatin1_aae02.desc).map (fun d => d.parameters.length) = some 0 := by decide +kernel
set_option maxHeartbeats 4000000 in
set_option maxRecDepth 100000 in
theorem f_J5_isLatin1_aae02 (l : Launch) (E : EE) (z9 : Nat → Nat) {a_ a_value : Nat} {c_coder : Int32} {c_maybeLatin1 : Int32} {c_count : Int32} {rr : Int32} (hF : F_J5_isLatin1_aae02 c_coder = some rr) : Met l yJ5_isLatin1_aae02 v_f_J5_isLatin1_aae02 (({ frames := 0, cells := 0, slots := 0, locals := 0 } : Room)) (va_Pc [.ref a_] (qPZ E z9 (w_J5_isLatin1_aae02 E a_ a_value c_coder c_maybeLatin1 c_count))) (vp_Si (fun q : Int32 => q = rr ∧ (q = 0 ∨ q = 1))) 0 0 (fun _ => False) := by
  refine Met.ofWF (cc := cJ5_isLatin1_aae02) (maxL := 1) (ret := (some .boolean)) (by decide +kernel) rfl ?_
  intro p e s m args below meth c s₁ B hml hv
  obtain ⟨rfl, ⟨hK, hN⟩, hP, hZ⟩ := hv
  have hx := B.exec
  have hb := B.bytes
  have hr := B.returns
  have hts := atoms_spec (ws := v_f_J5_isLatin1_aae02) B.pre
  have hown : s.vm.findClass RJ5 = some m.cls := own_of hd_J5_isLatin1_aae02.1 (findClass_of_methodNamed B.named)
  have hlocks : meth.locks = false := B.notSynchronized
  replace hP : va_P E.1 vwCl [(a_, .inr (0, [.ref a_value, .int c_coder, .int c_maybeLatin1, .int c_count]))] s.heap := hP
  have hl := lv_entry ([.ref a_]) (n := 1) (Nat.le_of_ble_eq_true rfl)
  rw [lg_entry_eq]
  generalize (lg_sl ([.ref a_]) ++ List.replicate (1 - (lg_sl ([.ref a_])).length) Slot.unset).toArray = ls at hl ⊢
  have hl : lv_has ls 1 [(0, .ref a_)] := hl
  obtain ⟨Q, hQ⟩ : ∃ Q : State → Prop, Q = MQ below (vp_Si (fun q : Int32 => q = rr ∧ (q = 0 ∨ q = 1))) #[Value.ref a_] s 0 0 (fun _ => False) := ⟨_, rfl⟩
  rw [← hQ]
  change W p l e ({ frames := 0, cells := 0, slots := 0, locals := 0 } : Room) s m #[Value.ref a_] below meth c s.heap [] 0 0 Q (F0 m 0 ls [])
  unfold F_J5_isLatin1_aae02 at hF
  refine va_gets hx hb hZ.2.2.1.1 (va_S.rf) hown (hts (.fieldLink RJ5 18 "java/lang/String" "COMPACT_STRINGS" "Z") (List.mem_of_getElem? (i := 1) rfl)) (fun _ h9 => h9) dJ5_isLatin1_aae02_0 ?_
  refine lv_if_eq (tgt := 17) hx hb dJ5_isLatin1_aae02_3 (by decide) (fun q => absurd q (by decide)) (fun _ => ?_)
  refine lv_aload_n hx hb dJ5_isLatin1_aae02_6 rfl (lv_at hl 0 rfl) ?_
  refine gt_J4_1 (v := .int c_coder) hx hb hts i_f_J5_isLatin1_aae02_J4 hown hK hP 0 rfl (hts (.fieldLink RJ5 22 "java/lang/AbstractStringBuilder" "coder" "B") (List.mem_of_getElem? (i := 2) rfl)) rfl dJ5_isLatin1_aae02_7 ?_
  refine lv_if_ne (tgt := 17) hx hb dJ5_isLatin1_aae02_10 (by decide) (fun c_1 => ?_) (fun c_1 => ?_)
  ·
    replace hF := inn c_1 hF
    refine lv_iconst (v := 0) hx hb dJ5_isLatin1_aae02_17 (by decide) ?_
    rw [hQ]
    obtain e9_0 := inj1 hF
    exact W.zret (v := (0 : Int32)) hx hb hr rfl (fun tt ht hW => ⟨_, rfl, ⟨e9_0, Or.inl rfl⟩, ht⟩) (fun _ h => by cases h) dJ5_isLatin1_aae02_18
  ·
    replace hF := ip c_1 hF
    refine lv_iconst (v := 1) hx hb dJ5_isLatin1_aae02_13 (by decide) ?_
    refine lv_goto (tgt := 18) hx hb dJ5_isLatin1_aae02_14 (by decide) ?_
    rw [hQ]
    obtain e9_0 := inj1 hF
    exact W.zret (v := (1 : Int32)) hx hb hr rfl (fun tt ht hW => ⟨_, rfl, ⟨e9_0, Or.inr rfl⟩, ht⟩) (fun _ h => by cases h) dJ5_isLatin1_aae02_18

def F_J1_canEncode_fc78d (p0 : Int32) : Option (Int32) :=
  if (255 : Int32) < p0 then some (0 : Int32) else some (1 : Int32)

def v_f_J1_canEncode_fc78d : List Cond := .code yJ1_canEncode_fc78d cJ1_canEncode_fc78d 1 (some .boolean) :: ([] ++ ([]))
theorem gw_f_J1_canEncode_fc78d : v_f_J1_canEncode_fc78d.all goodWord = true := by decide +kernel
theorem hd_J1_canEncode_fc78d : yJ1_canEncode_fc78d.cls = RJ1 ∧ yJ1_canEncode_fc78d.cls ≠ "java/lang/invoke/MethodHandle" ∧ yJ1_canEncode_fc78d.cls ≠ "java/lang/invoke/VarHandle" ∧ (parseMethodDescriptor yJ1_canEncode_fc78d.desc).map (fun d => d.parameters.length) = some 1 := by decide +kernel
set_option maxHeartbeats 4000000 in
set_option maxRecDepth 100000 in
theorem f_J1_canEncode_fc78d (l : Launch) (E : EE) {p0 : Int32} {rr : Int32} (hF : F_J1_canEncode_fc78d p0 = some rr) : Met l yJ1_canEncode_fc78d v_f_J1_canEncode_fc78d (({ frames := 0, cells := 0, slots := 0, locals := 0 } : Room)) (va_Pc [.int p0] (pP E [])) (vp_Si (fun q : Int32 => q = rr ∧ (q = 0 ∨ q = 1))) 0 0 (fun _ => False) := by
  refine Met.ofWF (cc := cJ1_canEncode_fc78d) (maxL := 1) (ret := (some .boolean)) (by decide +kernel) rfl ?_
  intro p e s m args below meth c s₁ B hml hv
  obtain ⟨rfl, ⟨hK, hN⟩, hP⟩ := hv
  have hx := B.exec
  have hb := B.bytes
  have hr := B.returns
  have hts := atoms_spec (ws := v_f_J1_canEncode_fc78d) B.pre
  have hown : s.vm.findClass RJ1 = some m.cls := own_of hd_J1_canEncode_fc78d.1 (findClass_of_methodNamed B.named)
  have hlocks : meth.locks = false := B.notSynchronized
  replace hP : va_P E.1 vwCl [] s.heap := hP
  have hl := lv_entry ([.int p0]) (n := 1) (Nat.le_of_ble_eq_true rfl)
  rw [lg_entry_eq]
  generalize (lg_sl ([.int p0]) ++ List.replicate (1 - (lg_sl ([.int p0])).length) Slot.unset).toArray = ls at hl ⊢
  have hl : lv_has ls 1 [(0, .int p0)] := hl
  obtain ⟨Q, hQ⟩ : ∃ Q : State → Prop, Q = MQ below (vp_Si (fun q : Int32 => q = rr ∧ (q = 0 ∨ q = 1))) #[Value.int p0] s 0 0 (fun _ => False) := ⟨_, rfl⟩
  rw [← hQ]
  change W p l e ({ frames := 0, cells := 0, slots := 0, locals := 0 } : Room) s m #[Value.int p0] below meth c s.heap [] 0 0 Q (F0 m 0 ls [])
  unfold F_J1_canEncode_fc78d at hF
  refine lv_iload_n hx hb dJ1_canEncode_fc78d_0 rfl (lv_at hl 0 rfl) ?_
  refine lv_sipush (v := 255) hx hb dJ1_canEncode_fc78d_1 (by decide) ?_
  refine lv_icmp_gt (tgt := 11) hx hb dJ1_canEncode_fc78d_4 (by decide) (fun c_1 => ?_) (fun c_1 => ?_)
  ·
    replace hF := ip c_1 hF
    refine lv_iconst (v := 0) hx hb dJ1_canEncode_fc78d_11 (by decide) ?_
    rw [hQ]
    obtain e9_0 := inj1 hF
    exact W.zret (v := (0 : Int32)) hx hb hr rfl (fun tt ht hW => ⟨_, rfl, ⟨e9_0, Or.inl rfl⟩, ht⟩) (fun _ h => by cases h) dJ1_canEncode_fc78d_12
  ·
    replace hF := inn c_1 hF
    refine lv_iconst (v := 1) hx hb dJ1_canEncode_fc78d_7 (by decide) ?_
    refine lv_goto (tgt := 12) hx hb dJ1_canEncode_fc78d_8 (by decide) ?_
    rw [hQ]
    obtain e9_0 := inj1 hF
    exact W.zret (v := (1 : Int32)) hx hb hr rfl (fun tt ht hW => ⟨_, rfl, ⟨e9_0, Or.inr rfl⟩, ht⟩) (fun _ h => by cases h) dJ1_canEncode_fc78d_12

def F_J8_newLength_cabcc (p0 : Int32) (p1 : Int32) (p2 : Int32) : Option (Int32) :=
  if p0 + (maxF p1 p2) ≤ (0 : Int32) then none else if (2147483639 : Int32) < p0 + (maxF p1 p2) then none else some (p0 + (maxF p1 p2))

def v_f_J8_newLength_cabcc : List Cond := .code yJ8_newLength_cabcc cJ8_newLength_cabcc 4 (some .int) :: ([.methodLink RJ8 194 Lib.Math.max.name, .static Lib.Math.max.name, .initialized "java/lang/Math", .code Lib.Math.max.name Lib.Math.max.code 2 (some .int), .constant RJ8 200 (2147483639)] ++ ([]))
theorem gw_f_J8_newLength_cabcc : v_f_J8_newLength_cabcc.all goodWord = true := by decide +kernel
theorem hd_J8_newLength_cabcc : yJ8_newLength_cabcc.cls = RJ8 ∧ yJ8_newLength_cabcc.cls ≠ "java/lang/invoke/MethodHandle" ∧ yJ8_newLength_cabcc.cls ≠ "java/lang/invoke/VarHandle" ∧ (parseMethodDescriptor yJ8_newLength_cabcc.desc).map (fun d => d.parameters.length) = some 3 := by decide +kernel
set_option maxHeartbeats 4000000 in
set_option maxRecDepth 100000 in
theorem f_J8_newLength_cabcc (l : Launch) (E : EE) {p0 : Int32} {p1 : Int32} {p2 : Int32} {rr : Int32} (hF : F_J8_newLength_cabcc p0 p1 p2 = some rr) : Met l yJ8_newLength_cabcc v_f_J8_newLength_cabcc (({ frames := 1, cells := 0, slots := 0, locals := 21 } : Room)) (va_Pc [.int p0, .int p1, .int p2] (pP E [])) (vp_Si (fun q : Int32 => q = rr)) 0 0 (fun _ => False) := by
  refine Met.ofWF (cc := cJ8_newLength_cabcc) (maxL := 4) (ret := (some .int)) (by decide +kernel) rfl ?_
  intro p e s m args below meth c s₁ B hml hv
  obtain ⟨rfl, ⟨hK, hN⟩, hP⟩ := hv
  have hx := B.exec
  have hb := B.bytes
  have hr := B.returns
  have hts := atoms_spec (ws := v_f_J8_newLength_cabcc) B.pre
  have hown : s.vm.findClass RJ8 = some m.cls := own_of hd_J8_newLength_cabcc.1 (findClass_of_methodNamed B.named)
  have hlocks : meth.locks = false := B.notSynchronized
  replace hP : va_P E.1 vwCl [] s.heap := hP
  have hl := lv_entry ([.int p0, .int p1, .int p2]) (n := 4) (Nat.le_of_ble_eq_true rfl)
  rw [lg_entry_eq]
  generalize (lg_sl ([.int p0, .int p1, .int p2]) ++ List.replicate (4 - (lg_sl ([.int p0, .int p1, .int p2])).length) Slot.unset).toArray = ls at hl ⊢
  have hl : lv_has ls 4 [(0, .int p0), (1, .int p1), (2, .int p2)] := hl
  obtain ⟨Q, hQ⟩ : ∃ Q : State → Prop, Q = MQ below (vp_Si (fun q : Int32 => q = rr)) #[Value.int p0, Value.int p1, Value.int p2] s 0 0 (fun _ => False) := ⟨_, rfl⟩
  rw [← hQ]
  change W p l e ({ frames := 1, cells := 0, slots := 0, locals := 21 } : Room) s m #[Value.int p0, Value.int p1, Value.int p2] below meth c s.heap [] 0 0 Q (F0 m 0 ls [])
  unfold F_J8_newLength_cabcc at hF
  refine lv_iload_n hx hb dJ8_newLength_cabcc_0 rfl (lv_at hl 0 rfl) ?_
  refine lv_iload_n hx hb dJ8_newLength_cabcc_1 rfl (lv_at hl 1 rfl) ?_
  refine lv_iload_n hx hb dJ8_newLength_cabcc_2 rfl (lv_at hl 2 rfl) ?_
  refine va_mmax hx hb (hml.trans hl.1.symm) hown (hts (.methodLink RJ8 194 Lib.Math.max.name) (List.mem_of_getElem? (i := 1) rfl)) (hts (.static Lib.Math.max.name) (List.mem_of_getElem? (i := 2) rfl)) (hts (.initialized "java/lang/Math") (List.mem_of_getElem? (i := 3) rfl)) (hts (.code Lib.Math.max.name Lib.Math.max.code 2 (some .int)) (List.mem_of_getElem? (i := 4) rfl)) (Nat.le_of_ble_eq_true rfl) (Nat.le_of_ble_eq_true rfl) (Nat.le_of_ble_eq_true rfl) (Nat.le_of_ble_eq_true rfl) dJ8_newLength_cabcc_3 ?_
  refine W.eq (g2 := F0 m 6 ls [.int (maxF p1 p2), .int p0]) rfl ?_
  refine lv_iadd hx hb dJ8_newLength_cabcc_6 ?_
  refine lv_istore_n (lv' := [(3, .int (p0 + (maxF p1 p2))), (0, .int p0), (1, .int p1), (2, .int p2)]) hx hb dJ8_newLength_cabcc_7 rfl hl (by decide) rfl (fun ls hl => ?_)
  refine lv_iconst (v := 0) hx hb dJ8_newLength_cabcc_8 (by decide) ?_
  refine lv_iload_n hx hb dJ8_newLength_cabcc_9 rfl (lv_at hl 0 rfl) ?_
  refine lv_icmp_ge (tgt := 21) hx hb dJ8_newLength_cabcc_10 (by decide) (fun c_1 => ?_) (fun c_1 => ?_)
  ·
    replace hF := ip c_1 hF
    cases hF
  ·
    replace hF := inn c_1 hF
    refine lv_iload_n hx hb dJ8_newLength_cabcc_13 rfl (lv_at hl 0 rfl) ?_
    refine lv_ldc (v := 2147483639) hx hb hown (hts (.constant RJ8 200 (2147483639)) (List.mem_of_getElem? (i := 5) rfl)) dJ8_newLength_cabcc_14 ?_
    refine lv_icmp_gt (tgt := 21) hx hb dJ8_newLength_cabcc_16 (by decide) (fun c_2 => ?_) (fun c_2 => ?_)
    ·
      replace hF := ip c_2 hF
      cases hF
    ·
      replace hF := inn c_2 hF
      refine lv_iload_n hx hb dJ8_newLength_cabcc_19 rfl (lv_at hl 0 rfl) ?_
      rw [hQ]
      obtain e9_0 := inj1 hF
      exact W.iret (v := p0 + (maxF p1 p2)) hx hb hr (fun tt ht hW => ⟨_, rfl, e9_0, ht⟩) (fun _ h => by cases h) dJ8_newLength_cabcc_20

def F_J5_newCapacity_0f7a4 (p1 : Int32) (c_coder : Int32) (m9 : Nat) : Option (Int32) :=
  bd1 (F_J8_newLength_cabcc (Int32.ofNat m9) ((p1 <<< (c_coder &&& (31 : Int32))) - (Int32.ofNat m9)) ((Int32.ofNat m9) + ((2 : Int32) <<< (c_coder &&& (31 : Int32))))) (fun r_1 => if r_1 = (2147483647 : Int32) then none else some (r_1 >>> (c_coder &&& (31 : Int32))))
abbrev w_J5_newCapacity_0f7a4 (E : EE) (a_ a_value : Nat) (c_coder : Int32) (c_maybeLatin1 : Int32) (c_count : Int32) (c_value : Nat → Int32) (m9 : Nat) : va_W := [(a_, .inr (0, [.ref a_value, .int c_coder, .int c_maybeLatin1, .int c_count])), (a_value, .inl (E.2.2.1, m9, .inl c_value))]
def v_f_J5_newCapacity_0f7a4 : List Cond := .code yJ5_newCapacity_0f7a4 cJ5_newCapacity_0f7a4 6 (some .int) :: ([.fieldLink RJ5 15 "java/lang/AbstractStringBuilder" "value" "[B", .fieldLink RJ5 22 "java/lang/AbstractStringBuilder" "coder" "B", .constant RJ5 39 (2147483647), .methodLink RJ5 114 yJ8_newLength_cabcc, .static yJ8_newLength_cabcc, .initialized RJ8] ++ (wsJ40 ++ (v_f_J8_newLength_cabcc ++ ([]))))
theorem gw_f_J5_newCapacity_0f7a4 : v_f_J5_newCapacity_0f7a4.all goodWord = true := by decide +kernel
theorem i_f_J5_newCapacity_0f7a4_J4 : ∀ w ∈ wsJ40, w ∈ v_f_J5_newCapacity_0f7a4 := fun _ h => List.mem_cons_of_mem _ (List.mem_append_right _ (List.mem_append_left _ h))
theorem g_f_J5_newCapacity_0f7a4_f_J8_newLength_cabcc_114 : GoodIn v_f_J5_newCapacity_0f7a4 (va_wsS RJ5 114 yJ8_newLength_cabcc v_f_J8_newLength_cabcc) := goodIn_app (goodIn_of _ (by decide +kernel)) (goodIn_sub (fun _ h => List.mem_cons_of_mem _ (List.mem_append_right _ (List.mem_append_right _ (List.mem_append_left _ h)))) gw_f_J8_newLength_cabcc)
theorem hd_J5_newCapacity_0f7a4 : yJ5_newCapacity_0f7a4.cls = RJ5 ∧ yJ5_newCapacity_0f7a4.cls ≠ "java/lang/invoke/MethodHandle" ∧ yJ5_newCapacity_0f7a4.cls ≠ "java/lang/invoke/VarHandle" ∧ (parseMethodDescriptor yJ5_newCapacity_0f7a4.desc).map (fun d => d.parameters.length) = some 1 := by decide +kernel
set_option maxHeartbeats 4000000 in
set_option maxRecDepth 100000 in
theorem f_J5_newCapacity_0f7a4 (l : Launch) (E : EE) {a_ a_value : Nat} {p1 : Int32} {c_coder : Int32} {c_maybeLatin1 : Int32} {c_count : Int32} {c_value : Nat → Int32} {m9 : Nat} {rr : Int32} (hF : F_J5_newCapacity_0f7a4 p1 c_coder m9 = some rr) : Met l yJ5_newCapacity_0f7a4 v_f_J5_newCapacity_0f7a4 (({ frames := 2, cells := 0, slots := 0, locals := 44 } : Room)) (va_Pc [.ref a_, .int p1] (pP E (w_J5_newCapacity_0f7a4 E a_ a_value c_coder c_maybeLatin1 c_count c_value m9))) (vp_Si (fun q : Int32 => q = rr)) 0 0 (fun _ => False) := by
  refine Met.ofWF (cc := cJ5_newCapacity_0f7a4) (maxL := 6) (ret := (some .int)) (by decide +kernel) rfl ?_
  intro p e s m args below meth c s₁ B hml hv
  obtain ⟨rfl, ⟨hK, hN⟩, hP⟩ := hv
  have hx := B.exec
  have hb := B.bytes
  have hr := B.returns
  have hts := atoms_spec (ws := v_f_J5_newCapacity_0f7a4) B.pre
  have hown : s.vm.findClass RJ5 = some m.cls := own_of hd_J5_newCapacity_0f7a4.1 (findClass_of_methodNamed B.named)
  have hlocks : meth.locks = false := B.notSynchronized
  replace hP : va_P E.1 vwCl [(a_, .inr (0, [.ref a_value, .int c_coder, .int c_maybeLatin1, .int c_count])), (a_value, .inl (E.2.2.1, m9, .inl c_value))] s.heap := hP
  have hl := lv_entry ([.ref a_, .int p1]) (n := 6) (Nat.le_of_ble_eq_true rfl)
  rw [lg_entry_eq]
  generalize (lg_sl ([.ref a_, .int p1]) ++ List.replicate (6 - (lg_sl ([.ref a_, .int p1])).length) Slot.unset).toArray = ls at hl ⊢
  have hl : lv_has ls 6 [(0, .ref a_), (1, .int p1)] := hl
  obtain ⟨Q, hQ⟩ : ∃ Q : State → Prop, Q = MQ below (vp_Si (fun q : Int32 => q = rr)) #[Value.ref a_, Value.int p1] s 0 0 (fun _ => False) := ⟨_, rfl⟩
  rw [← hQ]
  change W p l e ({ frames := 2, cells := 0, slots := 0, locals := 44 } : Room) s m #[Value.ref a_, Value.int p1] below meth c s.heap [] 0 0 Q (F0 m 0 ls [])
  unfold F_J5_newCapacity_0f7a4 at hF
  refine lv_aload_n hx hb dJ5_newCapacity_0f7a4_0 rfl (lv_at hl 0 rfl) ?_
  refine gt_J4_0 (v := .ref a_value) hx hb hts i_f_J5_newCapacity_0f7a4_J4 hown hK hP 0 rfl (hts (.fieldLink RJ5 15 "java/lang/AbstractStringBuilder" "value" "[B") (List.mem_of_getElem? (i := 1) rfl)) rfl dJ5_newCapacity_0f7a4_1 ?_
  refine va_alen (v := (Int32.ofNat m9)) hx hb hK hP 1 1 rfl rfl rfl dJ5_newCapacity_0f7a4_4 ?_
  refine lv_istore_n (lv' := [(2, .int (Int32.ofNat m9)), (0, .ref a_), (1, .int p1)]) hx hb dJ5_newCapacity_0f7a4_5 rfl hl (by decide) rfl (fun ls hl => ?_)
  refine lv_iload_n hx hb dJ5_newCapacity_0f7a4_6 rfl (lv_at hl 2 rfl) ?_
  refine lv_aload_n hx hb dJ5_newCapacity_0f7a4_7 rfl (lv_at hl 1 rfl) ?_
  refine gt_J4_1 (v := .int c_coder) hx hb hts i_f_J5_newCapacity_0f7a4_J4 hown hK hP 0 rfl (hts (.fieldLink RJ5 22 "java/lang/AbstractStringBuilder" "coder" "B") (List.mem_of_getElem? (i := 2) rfl)) rfl dJ5_newCapacity_0f7a4_8 ?_
  refine lv_ishl hx hb dJ5_newCapacity_0f7a4_11 ?_
  refine lv_istore_n (lv' := [(3, .int (p1 <<< (c_coder &&& (31 : Int32)))), (2, .int (Int32.ofNat m9)), (0, .ref a_), (1, .int p1)]) hx hb dJ5_newCapacity_0f7a4_12 rfl hl (by decide) rfl (fun ls hl => ?_)
  refine lv_iload_n hx hb dJ5_newCapacity_0f7a4_13 rfl (lv_at hl 0 rfl) ?_
  refine lv_iload_n hx hb dJ5_newCapacity_0f7a4_14 rfl (lv_at hl 1 rfl) ?_
  refine lv_isub hx hb dJ5_newCapacity_0f7a4_15 ?_
  refine lv_istore (lv' := [(4, .int ((p1 <<< (c_coder &&& (31 : Int32))) - (Int32.ofNat m9))), (3, .int (p1 <<< (c_coder &&& (31 : Int32)))), (2, .int (Int32.ofNat m9)), (0, .ref a_), (1, .int p1)]) hx hb dJ5_newCapacity_0f7a4_16 hl (by decide) rfl (fun ls hl => ?_)
  refine lv_iload_n hx hb dJ5_newCapacity_0f7a4_18 rfl (lv_at hl 2 rfl) ?_
  refine lv_iload hx hb dJ5_newCapacity_0f7a4_19 (lv_at hl 0 rfl) ?_
  refine lv_iload_n hx hb dJ5_newCapacity_0f7a4_21 rfl (lv_at hl 2 rfl) ?_
  refine lv_iconst (v := 2) hx hb dJ5_newCapacity_0f7a4_22 (by decide) ?_
  refine lv_aload_n hx hb dJ5_newCapacity_0f7a4_23 rfl (lv_at hl 3 rfl) ?_
  refine gt_J4_1 (v := .int c_coder) hx hb hts i_f_J5_newCapacity_0f7a4_J4 hown hK hP 0 rfl (hts (.fieldLink RJ5 22 "java/lang/AbstractStringBuilder" "coder" "B") (List.mem_of_getElem? (i := 2) rfl)) rfl dJ5_newCapacity_0f7a4_24 ?_
  refine lv_ishl hx hb dJ5_newCapacity_0f7a4_27 ?_
  refine lv_iadd hx hb dJ5_newCapacity_0f7a4_28 ?_
  replace hF := bd1_s hF
  obtain ⟨r_1, hc_2, hF⟩ := hF
  have hPc : va_P E.1 vwCl [] s.heap := fun k q h => by simp at h
  refine pE_i (va_runS (As := [.int (Int32.ofNat m9), .int ((p1 <<< (c_coder &&& (31 : Int32))) - (Int32.ofNat m9)), .int ((Int32.ofNat m9) + ((2 : Int32) <<< (c_coder &&& (31 : Int32))))]) (rest := [])  ⟨hx, hb, hml, hown, hts⟩ (f_J8_newLength_cabcc l E (p0 := (Int32.ofNat m9)) (p1 := (p1 <<< (c_coder &&& (31 : Int32))) - (Int32.ofNat m9)) (p2 := (Int32.ofNat m9) + ((2 : Int32) <<< (c_coder &&& (31 : Int32)))) hc_2) (va_cwS 3 hts g_f_J5_newCapacity_0f7a4_f_J8_newLength_cabcc_114 rfl rfl rfl hd_J8_newLength_cabcc.2 ⟨Nat.le_of_ble_eq_true rfl, Nat.le_of_ble_eq_true rfl⟩) ⟨pP.blind, (pP.pre ⟨hK, hN⟩ hPc)⟩ rfl rfl hl.1 rfl (lv_room (Nat.le_of_ble_eq_true rfl)) dJ5_newCapacity_0f7a4_29 ⟨Nat.le_of_ble_eq_true rfl, Nat.le_of_ble_eq_true rfl⟩) ?_
  refine lv_istore (lv' := [(5, .int r_1), (4, .int ((p1 <<< (c_coder &&& (31 : Int32))) - (Int32.ofNat m9))), (3, .int (p1 <<< (c_coder &&& (31 : Int32)))), (2, .int (Int32.ofNat m9)), (0, .ref a_), (1, .int p1)]) hx hb dJ5_newCapacity_0f7a4_32 hl (by decide) rfl (fun ls hl => ?_)
  refine lv_iload hx hb dJ5_newCapacity_0f7a4_34 (lv_at hl 0 rfl) ?_
  refine lv_ldc (v := 2147483647) hx hb hown (hts (.constant RJ5 39 (2147483647)) (List.mem_of_getElem? (i := 3) rfl)) dJ5_newCapacity_0f7a4_36 ?_
  refine lv_icmp_ne (tgt := 51) hx hb dJ5_newCapacity_0f7a4_38 (by decide) (fun c_3 => ?_) (fun c_3 => ?_)
  ·
    replace hF := inn c_3 hF
    refine lv_iload hx hb dJ5_newCapacity_0f7a4_51 (lv_at hl 0 rfl) ?_
    refine lv_aload_n hx hb dJ5_newCapacity_0f7a4_53 rfl (lv_at hl 4 rfl) ?_
    refine gt_J4_1 (v := .int c_coder) hx hb hts i_f_J5_newCapacity_0f7a4_J4 hown hK hP 0 rfl (hts (.fieldLink RJ5 22 "java/lang/AbstractStringBuilder" "coder" "B") (List.mem_of_getElem? (i := 2) rfl)) rfl dJ5_newCapacity_0f7a4_54 ?_
    refine lv_ishr hx hb dJ5_newCapacity_0f7a4_57 ?_
    rw [hQ]
    obtain e9_0 := inj1 hF
    exact W.iret (v := r_1 >>> (c_coder &&& (31 : Int32))) hx hb hr (fun tt ht hW => ⟨_, rfl, e9_0, ht⟩) (fun _ h => by cases h) dJ5_newCapacity_0f7a4_58
  ·
    replace hF := ip c_3 hF
    cases hF

def F_J5_charAt_5068e (p1 : Int32) (c_value : Nat → Int32) (c_coder : Int32) (c_count : Int32) (m9 : Nat) : Option (Int32) :=
  bd1 (F_J0_checkIndex_df160 p1 (minF c_count ((Int32.ofNat m9) >>> (c_coder &&& (31 : Int32))))) (fun u_1 => if c_coder = (0 : Int32) then ixF p1 m9 (some ((((c_value p1.toNatClampNeg) &&& (255 : Int32)).toUInt32 % 65536).toInt32)) else none)
abbrev w_J5_charAt_5068e (E : EE) (a_ a_value : Nat) (c_coder : Int32) (c_maybeLatin1 : Int32) (c_count : Int32) (c_value : Nat → Int32) (m9 : Nat) : va_W := [(a_, .inr (0, [.ref a_value, .int c_coder, .int c_maybeLatin1, .int c_count])), (a_value, .inl (E.2.2.1, m9, .inl c_value))]
def v_f_J5_charAt_5068e : List Cond := .code yJ5_charAt_5068e cJ5_charAt_5068e 5 (some .char) :: ([.fieldLink RJ5 22 "java/lang/AbstractStringBuilder" "coder" "B", .fieldLink RJ5 15 "java/lang/AbstractStringBuilder" "value" "[B", .fieldLink RJ5 79 "java/lang/AbstractStringBuilder" "count" "I", .methodLink RJ5 138 Lib.Math.min.name, .static Lib.Math.min.name, .initialized "java/lang/Math", .code Lib.Math.min.name Lib.Math.min.code 2 (some .int), .methodLink RJ5 144 yJ0_checkIndex_df160, .static yJ0_checkIndex_df160, .initialized RJ0] ++ (wsJ40 ++ (v_f_J0_checkIndex_df160 ++ ([]))))
theorem gw_f_J5_charAt_5068e : v_f_J5_charAt_5068e.all goodWord = true := by decide +kernel
theorem i_f_J5_charAt_5068e_J4 : ∀ w ∈ wsJ40, w ∈ v_f_J5_charAt_5068e := fun _ h => List.mem_cons_of_mem _ (List.mem_append_right _ (List.mem_append_left _ h))
theorem g_f_J5_charAt_5068e_f_J0_checkIndex_df160_144 : GoodIn v_f_J5_charAt_5068e (va_wsS RJ5 144 yJ0_checkIndex_df160 v_f_J0_checkIndex_df160) := goodIn_app (goodIn_of _ (by decide +kernel)) (goodIn_sub (fun _ h => List.mem_cons_of_mem _ (List.mem_append_right _ (List.mem_append_right _ (List.mem_append_left _ h)))) gw_f_J0_checkIndex_df160)
theorem hd_J5_charAt_5068e : yJ5_charAt_5068e.cls = RJ5 ∧ yJ5_charAt_5068e.cls ≠ "java/lang/invoke/MethodHandle" ∧ yJ5_charAt_5068e.cls ≠ "java/lang/invoke/VarHandle" ∧ (parseMethodDescriptor yJ5_charAt_5068e.desc).map (fun d => d.parameters.length) = some 1 := by decide +kernel
set_option maxHeartbeats 4000000 in
set_option maxRecDepth 100000 in
theorem f_J5_charAt_5068e (l : Launch) (E : EE) (z9 : Nat → Nat) {a_ a_value : Nat} {p1 : Int32} {c_coder : Int32} {c_maybeLatin1 : Int32} {c_count : Int32} {c_value : Nat → Int32} {m9 : Nat} {rr : Int32} (hF : F_J5_charAt_5068e p1 c_value c_coder c_count m9 = some rr) : Met l yJ5_charAt_5068e v_f_J5_charAt_5068e (({ frames := 2, cells := 0, slots := 0, locals := 43 } : Room)) (va_Pc [.ref a_, .int p1] (qPZ E z9 (w_J5_charAt_5068e E a_ a_value c_coder c_maybeLatin1 c_count c_value m9))) (vp_Si (fun q : Int32 => q = rr ∧ narrow .char (.int q) = .int q)) 0 0 (fun _ => False) := by
  refine Met.ofWF (cc := cJ5_charAt_5068e) (maxL := 5) (ret := (some .char)) (by decide +kernel) rfl ?_
  intro p e s m args below meth c s₁ B hml hv
  obtain ⟨rfl, ⟨hK, hN⟩, hP, hZ⟩ := hv
  have hx := B.exec
  have hb := B.bytes
  have hr := B.returns
  have hts := atoms_spec (ws := v_f_J5_charAt_5068e) B.pre
  have hown : s.vm.findClass RJ5 = some m.cls := own_of hd_J5_charAt_5068e.1 (findClass_of_methodNamed B.named)
  have hlocks : meth.locks = false := B.notSynchronized
  replace hP : va_P E.1 vwCl [(a_, .inr (0, [.ref a_value, .int c_coder, .int c_maybeLatin1, .int c_count])), (a_value, .inl (E.2.2.1, m9, .inl c_value))] s.heap := hP
  have hl := lv_entry ([.ref a_, .int p1]) (n := 5) (Nat.le_of_ble_eq_true rfl)
  rw [lg_entry_eq]
  generalize (lg_sl ([.ref a_, .int p1]) ++ List.replicate (5 - (lg_sl ([.ref a_, .int p1])).length) Slot.unset).toArray = ls at hl ⊢
  have hl : lv_has ls 5 [(0, .ref a_), (1, .int p1)] := hl
  obtain ⟨Q, hQ⟩ : ∃ Q : State → Prop, Q = MQ below (vp_Si (fun q : Int32 => q = rr ∧ narrow .char (.int q) = .int q)) #[Value.ref a_, Value.int p1] s 0 0 (fun _ => False) := ⟨_, rfl⟩
  rw [← hQ]
  change W p l e ({ frames := 2, cells := 0, slots := 0, locals := 43 } : Room) s m #[Value.ref a_, Value.int p1] below meth c s.heap [] 0 0 Q (F0 m 0 ls [])
  unfold F_J5_charAt_5068e at hF
  refine lv_aload_n hx hb dJ5_charAt_5068e_0 rfl (lv_at hl 0 rfl) ?_
  refine gt_J4_1 (v := .int c_coder) hx hb hts i_f_J5_charAt_5068e_J4 hown hK hP 0 rfl (hts (.fieldLink RJ5 22 "java/lang/AbstractStringBuilder" "coder" "B") (List.mem_of_getElem? (i := 1) rfl)) rfl dJ5_charAt_5068e_1 ?_
  refine lv_istore_n (lv' := [(2, .int c_coder), (0, .ref a_), (1, .int p1)]) hx hb dJ5_charAt_5068e_4 rfl hl (by decide) rfl (fun ls hl => ?_)
  refine lv_aload_n hx hb dJ5_charAt_5068e_5 rfl (lv_at hl 1 rfl) ?_
  refine gt_J4_0 (v := .ref a_value) hx hb hts i_f_J5_charAt_5068e_J4 hown hK hP 0 rfl (hts (.fieldLink RJ5 15 "java/lang/AbstractStringBuilder" "value" "[B") (List.mem_of_getElem? (i := 2) rfl)) rfl dJ5_charAt_5068e_6 ?_
  refine lv_astore_n (lv' := [(3, .ref a_value), (2, .int c_coder), (0, .ref a_), (1, .int p1)]) hx hb dJ5_charAt_5068e_9 rfl hl (by decide) rfl (fun ls hl => ?_)
  refine lv_aload_n hx hb dJ5_charAt_5068e_10 rfl (lv_at hl 2 rfl) ?_
  refine gt_J4_3 (v := .int c_count) hx hb hts i_f_J5_charAt_5068e_J4 hown hK hP 0 rfl (hts (.fieldLink RJ5 79 "java/lang/AbstractStringBuilder" "count" "I") (List.mem_of_getElem? (i := 3) rfl)) rfl dJ5_charAt_5068e_11 ?_
  refine lv_aload_n hx hb dJ5_charAt_5068e_14 rfl (lv_at hl 0 rfl) ?_
  refine va_alen (v := (Int32.ofNat m9)) hx hb hK hP 1 1 rfl rfl rfl dJ5_charAt_5068e_15 ?_
  refine lv_iload_n hx hb dJ5_charAt_5068e_16 rfl (lv_at hl 1 rfl) ?_
  refine lv_ishr hx hb dJ5_charAt_5068e_17 ?_
  refine va_mmin hx hb (hml.trans hl.1.symm) hown (hts (.methodLink RJ5 138 Lib.Math.min.name) (List.mem_of_getElem? (i := 4) rfl)) (hts (.static Lib.Math.min.name) (List.mem_of_getElem? (i := 5) rfl)) (hts (.initialized "java/lang/Math") (List.mem_of_getElem? (i := 6) rfl)) (hts (.code Lib.Math.min.name Lib.Math.min.code 2 (some .int)) (List.mem_of_getElem? (i := 7) rfl)) (Nat.le_of_ble_eq_true rfl) (Nat.le_of_ble_eq_true rfl) (Nat.le_of_ble_eq_true rfl) (Nat.le_of_ble_eq_true rfl) dJ5_charAt_5068e_18 ?_
  refine W.eq (g2 := F0 m 21 ls [.int (minF c_count ((Int32.ofNat m9) >>> (c_coder &&& (31 : Int32))))]) rfl ?_
  refine lv_istore (lv' := [(4, .int (minF c_count ((Int32.ofNat m9) >>> (c_coder &&& (31 : Int32))))), (3, .ref a_value), (2, .int c_coder), (0, .ref a_), (1, .int p1)]) hx hb dJ5_charAt_5068e_21 hl (by decide) rfl (fun ls hl => ?_)
  refine lv_iload_n hx hb dJ5_charAt_5068e_23 rfl (lv_at hl 4 rfl) ?_
  refine lv_iload hx hb dJ5_charAt_5068e_24 (lv_at hl 0 rfl) ?_
  replace hF := bd1_s hF
  obtain ⟨u_1, hc_2, hF⟩ := hF
  have hPc : va_P E.1 vwCl [] s.heap := fun k q h => by simp at h
  refine pc_v (va_runS (As := [.int p1, .int (minF c_count ((Int32.ofNat m9) >>> (c_coder &&& (31 : Int32))))]) (rest := [])  ⟨hx, hb, hml, hown, hts⟩ (f_J0_checkIndex_df160 l E z9 (p0 := p1) (p1 := (minF c_count ((Int32.ofNat m9) >>> (c_coder &&& (31 : Int32))))) hc_2) (va_cwS 2 hts g_f_J5_charAt_5068e_f_J0_checkIndex_df160_144 rfl rfl rfl hd_J0_checkIndex_df160.2 ⟨Nat.le_of_ble_eq_true rfl, Nat.le_of_ble_eq_true rfl⟩) ⟨qPZ.blind, (qPZ.pre0 ⟨hK, hN⟩ hPc hZ)⟩ rfl rfl hl.1 rfl (lv_room (Nat.le_of_ble_eq_true rfl)) dJ5_charAt_5068e_26 ⟨Nat.le_of_ble_eq_true rfl, Nat.le_of_ble_eq_true rfl⟩) ?_
  refine lv_iload_n hx hb dJ5_charAt_5068e_29 rfl (lv_at hl 2 rfl) ?_
  refine lv_if_ne (tgt := 42) hx hb dJ5_charAt_5068e_30 (by decide) (fun c_3 => ?_) (fun c_3 => ?_)
  ·
    replace hF := inn c_3 hF
    cases hF
  ·
    replace hF := ip c_3 hF
    refine lv_aload_n hx hb dJ5_charAt_5068e_33 rfl (lv_at hl 1 rfl) ?_
    refine lv_iload_n hx hb dJ5_charAt_5068e_34 rfl (lv_at hl 4 rfl) ?_
    replace hF := ix_s hF
    obtain ⟨hi_4, hF⟩ := hF
    refine va_bald hx hb hK hP 1 1 rfl rfl hi_4 dJ5_charAt_5068e_35 ?_
    refine lv_sipush (v := 255) hx hb dJ5_charAt_5068e_36 (by decide) ?_
    refine lv_iand hx hb dJ5_charAt_5068e_39 ?_
    refine lv_i2c (v := (((c_value p1.toNatClampNeg) &&& (255 : Int32)).toUInt32 % 65536).toInt32) hx hb dJ5_charAt_5068e_40 rfl ?_
    rw [hQ]
    obtain e9_0 := inj1 hF
    exact W.zret (v := (((c_value p1.toNatClampNeg) &&& (255 : Int32)).toUInt32 % 65536).toInt32) hx hb hr (nar_c _) (fun tt ht hW => ⟨_, rfl, ⟨e9_0, (nar_c _)⟩, ht⟩) (fun _ h => by cases h) dJ5_charAt_5068e_41

def F_J5_inflateIfNeededFor_a7421 (p1 : Nat) (c_coder : Int32) : Option (Unit) :=
  ltF p1 15 (bd1 (F_J0_coder_7d493 p1) (fun r_1 => if c_coder = r_1 then some () else none))
abbrev w_J5_inflateIfNeededFor_a7421 (E : EE) (a_ a_value : Nat) (c_coder : Int32) (c_maybeLatin1 : Int32) (c_count : Int32) : va_W := [(a_, .inr (0, [.ref a_value, .int c_coder, .int c_maybeLatin1, .int c_count]))]
def v_f_J5_inflateIfNeededFor_a7421 : List Cond := .code yJ5_inflateIfNeededFor_a7421 cJ5_inflateIfNeededFor_a7421 2 none :: ([.fieldLink RJ5 18 "java/lang/String" "COMPACT_STRINGS" "Z", .fieldLink RJ5 22 "java/lang/AbstractStringBuilder" "coder" "B", .methodLink RJ5 40 yJ0_coder_7d493, .instanceMethod yJ0_coder_7d493, .selects RJ0 yJ0_coder_7d493 yJ0_coder_7d493, .initialized RJ0] ++ (wsJ40 ++ (v_f_J0_coder_7d493 ++ ([]))))
theorem gw_f_J5_inflateIfNeededFor_a7421 : v_f_J5_inflateIfNeededFor_a7421.all goodWord = true := by decide +kernel
theorem i_f_J5_inflateIfNeededFor_a7421_J4 : ∀ w ∈ wsJ40, w ∈ v_f_J5_inflateIfNeededFor_a7421 := fun _ h => List.mem_cons_of_mem _ (List.mem_append_right _ (List.mem_append_left _ h))
theorem g_f_J5_inflateIfNeededFor_a7421_f_J0_coder_7d493_40 : GoodIn v_f_J5_inflateIfNeededFor_a7421 (wsV RJ5 40 RJ0 yJ0_coder_7d493 v_f_J0_coder_7d493) := goodIn_app (goodIn_of _ (by decide +kernel)) (goodIn_sub (fun _ h => List.mem_cons_of_mem _ (List.mem_append_right _ (List.mem_append_right _ (List.mem_append_left _ h)))) gw_f_J0_coder_7d493)
theorem hd_J5_inflateIfNeededFor_a7421 : yJ5_inflateIfNeededFor_a7421.cls = RJ5 ∧ yJ5_inflateIfNeededFor_a7421.cls ≠ "java/lang/invoke/MethodHandle" ∧ yJ5_inflateIfNeededFor_a7421.cls ≠ "java/lang/invoke/VarHandle" ∧ (parseMethodDescriptor yJ5_inflateIfNeededFor_a7421.desc).map (fun d => d.parameters.length) = some 1 := by decide +kernel
set_option maxHeartbeats 4000000 in
set_option maxRecDepth 100000 in
theorem f_J5_inflateIfNeededFor_a7421 (l : Launch) (E : EE) (z9 : Nat → Nat) {a_ a_value : Nat} {p1 : Nat} {c_coder : Int32} {c_maybeLatin1 : Int32} {c_count : Int32} (hF : F_J5_inflateIfNeededFor_a7421 p1 c_coder = some ()) : Met l yJ5_inflateIfNeededFor_a7421 v_f_J5_inflateIfNeededFor_a7421 (({ frames := 1, cells := 0, slots := 0, locals := 20 } : Room)) (va_Pc [.ref a_, .ref (z9 (20 + p1))] (qPZ E z9 (w_J5_inflateIfNeededFor_a7421 E a_ a_value c_coder c_maybeLatin1 c_count))) (va_Sv (fun _ => True)) 0 0 (fun _ => False) := by
  refine Met.ofWF (cc := cJ5_inflateIfNeededFor_a7421) (maxL := 2) (ret := none) (by decide +kernel) rfl ?_
  intro p e s m args below meth c s₁ B hml hv
  obtain ⟨rfl, ⟨hK, hN⟩, hP, hZ⟩ := hv
  have hx := B.exec
  have hb := B.bytes
  have hr := B.returns
  have hts := atoms_spec (ws := v_f_J5_inflateIfNeededFor_a7421) B.pre
  have hown : s.vm.findClass RJ5 = some m.cls := own_of hd_J5_inflateIfNeededFor_a7421.1 (findClass_of_methodNamed B.named)
  have hlocks : meth.locks = false := B.notSynchronized
  replace hP : va_P E.1 vwCl [(a_, .inr (0, [.ref a_value, .int c_coder, .int c_maybeLatin1, .int c_count]))] s.heap := hP
  have hl := lv_entry ([.ref a_, .ref (z9 (20 + p1))]) (n := 2) (Nat.le_of_ble_eq_true rfl)
  rw [lg_entry_eq]
  generalize (lg_sl ([.ref a_, .ref (z9 (20 + p1))]) ++ List.replicate (2 - (lg_sl ([.ref a_, .ref (z9 (20 + p1))])).length) Slot.unset).toArray = ls at hl ⊢
  have hl : lv_has ls 2 [(0, .ref a_), (1, .ref (z9 (20 + p1)))] := hl
  obtain ⟨Q, hQ⟩ : ∃ Q : State → Prop, Q = MQ below (va_Sv (fun _ => True)) #[Value.ref a_, Value.ref (z9 (20 + p1))] s 0 0 (fun _ => False) := ⟨_, rfl⟩
  rw [← hQ]
  change W p l e ({ frames := 1, cells := 0, slots := 0, locals := 20 } : Room) s m #[Value.ref a_, Value.ref (z9 (20 + p1))] below meth c s.heap [] 0 0 Q (F0 m 0 ls [])
  unfold F_J5_inflateIfNeededFor_a7421 at hF
  refine va_gets hx hb hZ.2.2.1.1 (va_S.rf) hown (hts (.fieldLink RJ5 18 "java/lang/String" "COMPACT_STRINGS" "Z") (List.mem_of_getElem? (i := 1) rfl)) (fun _ h9 => h9) dJ5_inflateIfNeededFor_a7421_0 ?_
  refine lv_if_eq (tgt := 21) hx hb dJ5_inflateIfNeededFor_a7421_3 (by decide) (fun q => absurd q (by decide)) (fun _ => ?_)
  refine lv_aload_n hx hb dJ5_inflateIfNeededFor_a7421_6 rfl (lv_at hl 0 rfl) ?_
  refine gt_J4_1 (v := .int c_coder) hx hb hts i_f_J5_inflateIfNeededFor_a7421_J4 hown hK hP 0 rfl (hts (.fieldLink RJ5 22 "java/lang/AbstractStringBuilder" "coder" "B") (List.mem_of_getElem? (i := 2) rfl)) rfl dJ5_inflateIfNeededFor_a7421_7 ?_
  refine lv_aload_n hx hb dJ5_inflateIfNeededFor_a7421_10 rfl (lv_at hl 1 rfl) ?_
  replace hF := ltF_s hF
  obtain ⟨hs_2, hF⟩ := hF
  replace hF := bd1_s hF
  obtain ⟨r_1, hc_3, hF⟩ := hF
  have hPc : va_P E.1 vwCl [] s.heap := fun k q h => by simp at h
  refine pE_b (va_runV (As := []) (rest := [.int c_coder])  ⟨hx, hb, hml, hown, hts⟩ (f_J0_coder_7d493 l E z9 (p0 := p1) hc_3) (cwV 0 hts g_f_J5_inflateIfNeededFor_a7421_f_J0_coder_7d493_40 rfl rfl rfl hd_J0_coder_7d493 ⟨Nat.le_of_ble_eq_true rfl, Nat.le_of_ble_eq_true rfl⟩) ⟨qPZ.blind, vk_recv hZ.2.2.2.1 hs_2 (va_S.rf), (qPZ.pre0 ⟨hK, hN⟩ hPc hZ)⟩ rfl rfl hl.1 rfl (lv_room (Nat.le_of_ble_eq_true rfl)) dJ5_inflateIfNeededFor_a7421_11 ⟨Nat.le_of_ble_eq_true rfl, Nat.le_of_ble_eq_true rfl⟩) (fun hb_4 => ?_)
  refine lv_icmp_eq (tgt := 21) hx hb dJ5_inflateIfNeededFor_a7421_14 (by decide) (fun c_5 => ?_) (fun c_5 => ?_)
  ·
    replace hF := ip c_5 hF
    rw [hQ]
    exact W.vret hx hb hr (fun tt ht hW => ⟨rfl, trivial, ht⟩) (fun _ h => by cases h) dJ5_inflateIfNeededFor_a7421_21
  ·
    replace hF := inn c_5 hF
    cases hF

def F_J0_getBytes_840e7 (p0 : Nat) (p2 : Int32) (p3 : Int32) (c_o1 : Nat → Int32) (m9 : Nat) : Option ((Nat → Int32)) :=
  ltF p0 15 (bd1 (F_J0_coder_7d493 p0) (fun r_1 => if r_1 = p3 then ltF p0 15 (ltF p0 15 (ltF p0 15 (ltF p0 15 (cpF (0 : Int32) (p2 <<< (p3 &&& (31 : Int32))) (Int32.ofNat (strL.getD p0 0)) (strL.getD p0 0) m9 (nmF (va_cpy (fun j => (strB.getD p0 []).getD j 0) c_o1 (0 : Int32).toNatClampNeg (p2 <<< (p3 &&& (31 : Int32))).toNatClampNeg (Int32.ofNat (strL.getD p0 0)).toNatClampNeg) (fun f_11 => some f_11)))))) else none))
abbrev w_J0_getBytes_840e7 (E : EE) (a_o1 : Nat) (c_o1 : Nat → Int32) (m9 : Nat) : va_W := [(a_o1, .inl (E.2.2.1, m9, .inl c_o1))]
def v_f_J0_getBytes_840e7 : List Cond := .code yJ0_getBytes_840e7 cJ0_getBytes_840e7 4 none :: ([.fieldLink RJ0 9 "java/lang/String" "value" "[B", .methodLink RJ0 212 arraycopyName, .native arraycopyName, .static arraycopyName, .initialized "java/lang/System", .methodLink RJ0 335 yJ0_coder_7d493, .instanceMethod yJ0_coder_7d493, .selects RJ0 yJ0_coder_7d493 yJ0_coder_7d493, .initialized RJ0] ++ (v_f_J0_coder_7d493 ++ ([])))
theorem gw_f_J0_getBytes_840e7 : v_f_J0_getBytes_840e7.all goodWord = true := by decide +kernel
theorem g_f_J0_getBytes_840e7_f_J0_coder_7d493_335 : GoodIn v_f_J0_getBytes_840e7 (wsV RJ0 335 RJ0 yJ0_coder_7d493 v_f_J0_coder_7d493) := goodIn_app (goodIn_of _ (by decide +kernel)) (goodIn_sub (fun _ h => List.mem_cons_of_mem _ (List.mem_append_right _ (List.mem_append_left _ h))) gw_f_J0_coder_7d493)
theorem hd_J0_getBytes_840e7 : yJ0_getBytes_840e7.cls = RJ0 ∧ yJ0_getBytes_840e7.cls ≠ "java/lang/invoke/MethodHandle" ∧ yJ0_getBytes_840e7.cls ≠ "java/lang/invoke/VarHandle" ∧ (parseMethodDescriptor yJ0_getBytes_840e7.desc).map (fun d => d.parameters.length) = some 3 := by decide +kernel
set_option maxHeartbeats 4000000 in
set_option maxRecDepth 100000 in
theorem f_J0_getBytes_840e7 (l : Launch) (E : EE) (sz : Nat) (z9 : Nat → Nat) {a_o1 : Nat} {p0 : Nat} {p2 : Int32} {p3 : Int32} {c_o1 : Nat → Int32} {m9 : Nat} {n_o1 : Nat → Int32} (hF : F_J0_getBytes_840e7 p0 p2 p3 c_o1 m9 = some n_o1) : Met l yJ0_getBytes_840e7 v_f_J0_getBytes_840e7 (({ frames := 1, cells := 0, slots := 0, locals := 60 } : Room)) (va_Pc [.ref (z9 (20 + p0)), .ref a_o1, .int p2, .int p3] (qWZ E z9 sz (w_J0_getBytes_840e7 E a_o1 c_o1 m9))) (va_Qv (fun (_u : Unit) => True) (fun (_u : Unit) tt => va_P E.1 vwCl (w_J0_getBytes_840e7 E a_o1 n_o1 m9) tt.heap ∧ va_D (va_A (w_J0_getBytes_840e7 E a_o1 c_o1 m9) sz) (w_J0_getBytes_840e7 E a_o1 n_o1 m9)) (va_A (w_J0_getBytes_840e7 E a_o1 c_o1 m9) sz)) 0 0 (va_A (w_J0_getBytes_840e7 E a_o1 c_o1 m9) sz) := by
  refine Met.ofWF (cc := cJ0_getBytes_840e7) (maxL := 4) (ret := none) (by decide +kernel) rfl ?_
  intro p e s m args below meth c s₁ B hml hv
  obtain ⟨rfl, hsz, ⟨hK, hN⟩, hP, hD0, hZ⟩ := hv
  have hx := B.exec
  have hb := B.bytes
  have hr := B.returns
  have hts := atoms_spec (ws := v_f_J0_getBytes_840e7) B.pre
  have hown : s.vm.findClass RJ0 = some m.cls := own_of hd_J0_getBytes_840e7.1 (findClass_of_methodNamed B.named)
  have hlocks : meth.locks = false := B.notSynchronized
  subst hsz
  have hD := hD0.self (sz := s.heap.size)
  generalize hAe : va_A (w_J0_getBytes_840e7 E a_o1 c_o1 m9) s.heap.size = A at hD hZ ⊢
  have hA : ∀ q : Nat, s.heap.size ≤ q → A q := fun q h => by rw [← hAe]; exact Or.inr h
  have hS : va_S A s.heap s.heap [] := va_S.rf
  have hl := lv_entry ([.ref (z9 (20 + p0)), .ref a_o1, .int p2, .int p3]) (n := 4) (Nat.le_of_ble_eq_true rfl)
  rw [lg_entry_eq]
  generalize (lg_sl ([.ref (z9 (20 + p0)), .ref a_o1, .int p2, .int p3]) ++ List.replicate (4 - (lg_sl ([.ref (z9 (20 + p0)), .ref a_o1, .int p2, .int p3])).length) Slot.unset).toArray = ls at hl ⊢
  have hl : lv_has ls 4 [(0, .ref (z9 (20 + p0))), (1, .ref a_o1), (2, .int p2), (3, .int p3)] := hl
  obtain ⟨Q, hQ⟩ : ∃ Q : State → Prop, Q = MQ below (va_Qv (fun (_u : Unit) => True) (fun (_u : Unit) tt => va_P E.1 vwCl (w_J0_getBytes_840e7 E a_o1 n_o1 m9) tt.heap ∧ va_D A (w_J0_getBytes_840e7 E a_o1 n_o1 m9)) A) #[Value.ref (z9 (20 + p0)), Value.ref a_o1, Value.int p2, Value.int p3] s 0 0 A := ⟨_, rfl⟩
  rw [← hQ]
  change W p l e ({ frames := 1, cells := 0, slots := 0, locals := 60 } : Room) s m #[Value.ref (z9 (20 + p0)), Value.ref a_o1, Value.int p2, Value.int p3] below meth c s.heap [] 0 0 Q (F0 m 0 ls [])
  suffices hh9 : ∀ (H : Heap) (locs : List Loc), va_P E.1 vwCl (w_J0_getBytes_840e7 E a_o1 c_o1 m9) H → va_D A (w_J0_getBytes_840e7 E a_o1 c_o1 m9) → va_S A s.heap H locs → W p l e ({ frames := 1, cells := 0, slots := 0, locals := 60 } : Room) s m #[Value.ref (z9 (20 + p0)), Value.ref a_o1, Value.int p2, Value.int p3] below meth c H locs 0 0 Q (F0 m 0 ls []) from hh9 s.heap [] hP hD hS
  clear hP hD hS
  intro H locs hP hD hS
  replace hP : va_P E.1 vwCl [(a_o1, .inl (E.2.2.1, m9, .inl c_o1))] H := hP
  replace hD : va_D A [(a_o1, .inl (E.2.2.1, m9, .inl c_o1))] := hD
  unfold F_J0_getBytes_840e7 at hF
  refine lv_aload_n hx hb dJ0_getBytes_840e7_0 rfl (lv_at hl 0 rfl) ?_
  replace hF := ltF_s hF
  obtain ⟨hs_2, hF⟩ := hF
  replace hF := bd1_s hF
  obtain ⟨r_1, hc_3, hF⟩ := hF
  have hPc : va_P E.1 vwCl [] H := fun k q h => by simp at h
  refine pE_b (va_runV (As := []) (rest := [])  ⟨hx, hb, hml, hown, hts⟩ (f_J0_coder_7d493 l E z9 (p0 := p0) hc_3) (cwV 0 hts g_f_J0_getBytes_840e7_f_J0_coder_7d493_335 rfl rfl rfl hd_J0_coder_7d493 ⟨Nat.le_of_ble_eq_true rfl, Nat.le_of_ble_eq_true rfl⟩) ⟨qPZ.blind, vk_recv hZ.2.2.2.1 hs_2 hS, (qPZ.pre ⟨hK, hN⟩ hPc hZ hS)⟩ rfl rfl hl.1 rfl (lv_room (Nat.le_of_ble_eq_true rfl)) dJ0_getBytes_840e7_1 ⟨Nat.le_of_ble_eq_true rfl, Nat.le_of_ble_eq_true rfl⟩) (fun hb_4 => ?_)
  refine lv_iload_n hx hb dJ0_getBytes_840e7_4 rfl (lv_at hl 3 rfl) ?_
  refine lv_icmp_ne (tgt := 28) hx hb dJ0_getBytes_840e7_5 (by decide) (fun c_5 => ?_) (fun c_5 => ?_)
  ·
    replace hF := inn c_5 hF
    cases hF
  ·
    replace hF := ip c_5 hF
    refine lv_aload_n hx hb dJ0_getBytes_840e7_8 rfl (lv_at hl 0 rfl) ?_
    replace hF := ltF_s hF
    obtain ⟨hs_6, hF⟩ := hF
    refine vk_getf (v := .ref (z9 (40 + p0))) hx hb ((hZ.2.2.2.1.1 p0 hs_6).2.2.1) hS hown (hts (.fieldLink RJ0 9 "java/lang/String" "value" "[B") (List.mem_of_getElem? (i := 1) rfl)) (fun _ h9 => h9) dJ0_getBytes_840e7_9 ?_
    refine lv_iconst (v := 0) hx hb dJ0_getBytes_840e7_12 (by decide) ?_
    refine lv_aload_n hx hb dJ0_getBytes_840e7_13 rfl (lv_at hl 1 rfl) ?_
    refine lv_iload_n hx hb dJ0_getBytes_840e7_14 rfl (lv_at hl 2 rfl) ?_
    refine lv_iload_n hx hb dJ0_getBytes_840e7_15 rfl (lv_at hl 3 rfl) ?_
    refine lv_ishl hx hb dJ0_getBytes_840e7_16 ?_
    refine lv_aload_n hx hb dJ0_getBytes_840e7_17 rfl (lv_at hl 0 rfl) ?_
    replace hF := ltF_s hF
    obtain ⟨hs_7, hF⟩ := hF
    refine vk_getf (v := .ref (z9 (40 + p0))) hx hb ((hZ.2.2.2.1.1 p0 hs_7).2.2.1) hS hown (hts (.fieldLink RJ0 9 "java/lang/String" "value" "[B") (List.mem_of_getElem? (i := 1) rfl)) (fun _ h9 => h9) dJ0_getBytes_840e7_18 ?_
    replace hF := ltF_s hF
    obtain ⟨hs_8, hF⟩ := hF
    refine va_tlen (v := (Int32.ofNat (strL.getD p0 0))) hx hb ((hZ.2.2.2.1.1 p0 hs_8).2.2.2) hS rfl dJ0_getBytes_840e7_21 ?_
    replace hF := ltF_s hF
    obtain ⟨hs_9, hF⟩ := hF
    replace hF := cp_s hF
    obtain ⟨hy_10, hF⟩ := hF
    refine vk_copyt (f := fun j => (strB.getD p0 []).getD j 0) hx hb (hml.trans hl.1.symm) hown (hts (.methodLink RJ0 212 arraycopyName) (List.mem_of_getElem? (i := 2) rfl)) (hts (.native arraycopyName) (List.mem_of_getElem? (i := 3) rfl)) (hts (.static arraycopyName) (List.mem_of_getElem? (i := 4) rfl)) (hts (.initialized "java/lang/System") (List.mem_of_getElem? (i := 5) rfl)) hK hP hD hS ((hZ.2.2.2.1.1 p0 hs_9).2.2.2) 0 1 rfl rfl hy_10.1 hy_10.2.1 hy_10.2.2.1 hy_10.2.2.2.1 hy_10.2.2.2.2 (fun _ _ => strB_fit _ _) (Nat.le_of_ble_eq_true rfl) (Nat.le_of_ble_eq_true rfl) dJ0_getBytes_840e7_22 (fun H locs hP hD hS => ?_)
    replace hP : va_P E.1 vwCl [(a_o1, .inl (E.2.2.1, m9, .inl (va_cpy (fun j => (strB.getD p0 []).getD j 0) c_o1 (0 : Int32).toNatClampNeg (p2 <<< (p3 &&& (31 : Int32))).toNatClampNeg (Int32.ofNat (strL.getD p0 0)).toNatClampNeg)))] H := hP
    replace hD : va_D A [(a_o1, .inl (E.2.2.1, m9, .inl (va_cpy (fun j => (strB.getD p0 []).getD j 0) c_o1 (0 : Int32).toNatClampNeg (p2 <<< (p3 &&& (31 : Int32))).toNatClampNeg (Int32.ofNat (strL.getD p0 0)).toNatClampNeg)))] := hD
    replace hF := nm_s hF
    obtain ⟨f_11, hf_11, hF⟩ := hF
    rw [← hf_11] at hP hD
    refine lv_goto (tgt := 43) hx hb dJ0_getBytes_840e7_25 (by decide) ?_
    rw [hQ]
    have h9 := fin9 (P := fun u9 : (Nat → Int32) => va_P E.1 vwCl (w_J0_getBytes_840e7 E a_o1 u9 m9) H ∧ va_D A (w_J0_getBytes_840e7 E a_o1 u9 m9)) hF ⟨hP, hD⟩
    obtain ⟨hP9, hD9⟩ := h9
    exact W.vret hx hb hr (fun tt ht hW => ⟨⟨(), rfl, trivial, ht ▸ hP9, hD9⟩, hS.F ht⟩) hS.2.2 dJ0_getBytes_840e7_43

def F_J5_putStringAt_47b60 (p1 : Int32) (p2 : Nat) (c_value : Nat → Int32) (c_coder : Int32) (m9 : Nat) : Option ((Nat → Int32)) :=
  bd1 (F_J5_inflateIfNeededFor_a7421 p2 c_coder) (fun u_1 => ltF p2 15 (bd1 (F_J0_getBytes_840e7 p2 p1 c_coder c_value m9) (fun w_3 => some w_3)))
abbrev w_J5_putStringAt_47b60 (E : EE) (a_ a_value : Nat) (c_coder : Int32) (c_maybeLatin1 : Int32) (c_count : Int32) (c_value : Nat → Int32) (m9 : Nat) : va_W := [(a_, .inr (0, [.ref a_value, .int c_coder, .int c_maybeLatin1, .int c_count])), (a_value, .inl (E.2.2.1, m9, .inl c_value))]
def v_f_J5_putStringAt_47b60 : List Cond := .code yJ5_putStringAt_47b60 cJ5_putStringAt_47b60 3 none :: ([.fieldLink RJ5 15 "java/lang/AbstractStringBuilder" "value" "[B", .fieldLink RJ5 22 "java/lang/AbstractStringBuilder" "coder" "B", .methodLink RJ5 397 yJ5_inflateIfNeededFor_a7421, .instanceMethod yJ5_inflateIfNeededFor_a7421, .selects RJ4 yJ5_inflateIfNeededFor_a7421 yJ5_inflateIfNeededFor_a7421, .initialized RJ5, .methodLink RJ5 399 yJ0_getBytes_840e7, .instanceMethod yJ0_getBytes_840e7, .selects RJ0 yJ0_getBytes_840e7 yJ0_getBytes_840e7, .initialized RJ0] ++ (v_f_J5_inflateIfNeededFor_a7421 ++ (wsJ40 ++ (v_f_J0_getBytes_840e7 ++ ([])))))
theorem gw_f_J5_putStringAt_47b60 : v_f_J5_putStringAt_47b60.all goodWord = true := by decide +kernel
theorem i_f_J5_putStringAt_47b60_J4 : ∀ w ∈ wsJ40, w ∈ v_f_J5_putStringAt_47b60 := fun _ h => List.mem_cons_of_mem _ (List.mem_append_right _ (List.mem_append_right _ (List.mem_append_left _ h)))
theorem g_f_J5_putStringAt_47b60_f_J5_inflateIfNeededFor_a7421_397 : GoodIn v_f_J5_putStringAt_47b60 (wsC RJ5 397 RJ4 yJ5_inflateIfNeededFor_a7421 v_f_J5_inflateIfNeededFor_a7421) := goodIn_app (goodIn_of _ (by decide +kernel)) (goodIn_sub (fun _ h => List.mem_cons_of_mem _ (List.mem_append_right _ (List.mem_append_left _ h))) gw_f_J5_inflateIfNeededFor_a7421)
theorem g_f_J5_putStringAt_47b60_f_J0_getBytes_840e7_399 : GoodIn v_f_J5_putStringAt_47b60 (wsV RJ5 399 RJ0 yJ0_getBytes_840e7 v_f_J0_getBytes_840e7) := goodIn_app (goodIn_of _ (by decide +kernel)) (goodIn_sub (fun _ h => List.mem_cons_of_mem _ (List.mem_append_right _ (List.mem_append_right _ (List.mem_append_right _ (List.mem_append_left _ h))))) gw_f_J0_getBytes_840e7)
theorem hd_J5_putStringAt_47b60 : yJ5_putStringAt_47b60.cls = RJ5 ∧ yJ5_putStringAt_47b60.cls ≠ "java/lang/invoke/MethodHandle" ∧ yJ5_putStringAt_47b60.cls ≠ "java/lang/invoke/VarHandle" ∧ (parseMethodDescriptor yJ5_putStringAt_47b60.desc).map (fun d => d.parameters.length) = some 2 := by decide +kernel
set_option maxHeartbeats 4000000 in
set_option maxRecDepth 100000 in
theorem f_J5_putStringAt_47b60 (l : Launch) (E : EE) (sz : Nat) (z9 : Nat → Nat) {a_ a_value : Nat} {p1 : Int32} {p2 : Nat} {c_coder : Int32} {c_maybeLatin1 : Int32} {c_count : Int32} {c_value : Nat → Int32} {m9 : Nat} {n_value : Nat → Int32} (hF : F_J5_putStringAt_47b60 p1 p2 c_value c_coder m9 = some n_value) : Met l yJ5_putStringAt_47b60 v_f_J5_putStringAt_47b60 (({ frames := 2, cells := 0, slots := 0, locals := 83 } : Room)) (va_Pc [.ref a_, .int p1, .ref (z9 (20 + p2))] (qWZ E z9 sz (w_J5_putStringAt_47b60 E a_ a_value c_coder c_maybeLatin1 c_count c_value m9))) (va_Qv (fun (_u : Unit) => True) (fun (_u : Unit) tt => va_P E.1 vwCl (w_J5_putStringAt_47b60 E a_ a_value c_coder c_maybeLatin1 c_count n_value m9) tt.heap ∧ va_D (va_A (w_J5_putStringAt_47b60 E a_ a_value c_coder c_maybeLatin1 c_count c_value m9) sz) (w_J5_putStringAt_47b60 E a_ a_value c_coder c_maybeLatin1 c_count n_value m9)) (va_A (w_J5_putStringAt_47b60 E a_ a_value c_coder c_maybeLatin1 c_count c_value m9) sz)) 0 0 (va_A (w_J5_putStringAt_47b60 E a_ a_value c_coder c_maybeLatin1 c_count c_value m9) sz) := by
  refine Met.ofWF (cc := cJ5_putStringAt_47b60) (maxL := 3) (ret := none) (by decide +kernel) rfl ?_
  intro p e s m args below meth c s₁ B hml hv
  obtain ⟨rfl, hsz, ⟨hK, hN⟩, hP, hD0, hZ⟩ := hv
  have hx := B.exec
  have hb := B.bytes
  have hr := B.returns
  have hts := atoms_spec (ws := v_f_J5_putStringAt_47b60) B.pre
  have hown : s.vm.findClass RJ5 = some m.cls := own_of hd_J5_putStringAt_47b60.1 (findClass_of_methodNamed B.named)
  have hlocks : meth.locks = false := B.notSynchronized
  subst hsz
  have hD := hD0.self (sz := s.heap.size)
  generalize hAe : va_A (w_J5_putStringAt_47b60 E a_ a_value c_coder c_maybeLatin1 c_count c_value m9) s.heap.size = A at hD hZ ⊢
  have hA : ∀ q : Nat, s.heap.size ≤ q → A q := fun q h => by rw [← hAe]; exact Or.inr h
  have hS : va_S A s.heap s.heap [] := va_S.rf
  have hl := lv_entry ([.ref a_, .int p1, .ref (z9 (20 + p2))]) (n := 3) (Nat.le_of_ble_eq_true rfl)
  rw [lg_entry_eq]
  generalize (lg_sl ([.ref a_, .int p1, .ref (z9 (20 + p2))]) ++ List.replicate (3 - (lg_sl ([.ref a_, .int p1, .ref (z9 (20 + p2))])).length) Slot.unset).toArray = ls at hl ⊢
  have hl : lv_has ls 3 [(0, .ref a_), (1, .int p1), (2, .ref (z9 (20 + p2)))] := hl
  obtain ⟨Q, hQ⟩ : ∃ Q : State → Prop, Q = MQ below (va_Qv (fun (_u : Unit) => True) (fun (_u : Unit) tt => va_P E.1 vwCl (w_J5_putStringAt_47b60 E a_ a_value c_coder c_maybeLatin1 c_count n_value m9) tt.heap ∧ va_D A (w_J5_putStringAt_47b60 E a_ a_value c_coder c_maybeLatin1 c_count n_value m9)) A) #[Value.ref a_, Value.int p1, Value.ref (z9 (20 + p2))] s 0 0 A := ⟨_, rfl⟩
  rw [← hQ]
  change W p l e ({ frames := 2, cells := 0, slots := 0, locals := 83 } : Room) s m #[Value.ref a_, Value.int p1, Value.ref (z9 (20 + p2))] below meth c s.heap [] 0 0 Q (F0 m 0 ls [])
  suffices hh9 : ∀ (H : Heap) (locs : List Loc), va_P E.1 vwCl (w_J5_putStringAt_47b60 E a_ a_value c_coder c_maybeLatin1 c_count c_value m9) H → va_D A (w_J5_putStringAt_47b60 E a_ a_value c_coder c_maybeLatin1 c_count c_value m9) → va_S A s.heap H locs → W p l e ({ frames := 2, cells := 0, slots := 0, locals := 83 } : Room) s m #[Value.ref a_, Value.int p1, Value.ref (z9 (20 + p2))] below meth c H locs 0 0 Q (F0 m 0 ls []) from hh9 s.heap [] hP hD hS
  clear hP hD hS
  intro H locs hP hD hS
  replace hP : va_P E.1 vwCl [(a_, .inr (0, [.ref a_value, .int c_coder, .int c_maybeLatin1, .int c_count])), (a_value, .inl (E.2.2.1, m9, .inl c_value))] H := hP
  replace hD : va_D A [(a_, .inr (0, [.ref a_value, .int c_coder, .int c_maybeLatin1, .int c_count])), (a_value, .inl (E.2.2.1, m9, .inl c_value))] := hD
  unfold F_J5_putStringAt_47b60 at hF
  refine lv_aload_n hx hb dJ5_putStringAt_47b60_0 rfl (lv_at hl 0 rfl) ?_
  refine lv_aload_n hx hb dJ5_putStringAt_47b60_1 rfl (lv_at hl 2 rfl) ?_
  replace hF := bd1_s hF
  obtain ⟨u_1, hc_2, hF⟩ := hF
  have hPc : va_P E.1 vwCl (w_J5_inflateIfNeededFor_a7421 E a_ a_value c_coder c_maybeLatin1 c_count) H := hP.sub (ws' := [(a_, .inr (0, [.ref a_value, .int c_coder, .int c_maybeLatin1, .int c_count]))]) [0] rfl
  have hrc := va_recv hK hPc (ci := 0) (q0 := 0) rfl rfl
  refine pc_v (va_runV (As := [.ref (z9 (20 + p2))]) (rest := [])  ⟨hx, hb, hml, hown, hts⟩ (f_J5_inflateIfNeededFor_a7421 l E z9 (a_ := a_) (a_value := a_value) (p1 := p2) (c_coder := c_coder) (c_maybeLatin1 := c_maybeLatin1) (c_count := c_count) hc_2) (cwC 1 hts g_f_J5_putStringAt_47b60_f_J5_inflateIfNeededFor_a7421_397 rfl rfl rfl hd_J5_inflateIfNeededFor_a7421.2 ⟨Nat.le_of_ble_eq_true rfl, Nat.le_of_ble_eq_true rfl⟩) ⟨qPZ.blind, hrc, (qPZ.pre ⟨hK, hN⟩ hPc hZ hS)⟩ rfl rfl hl.1 rfl (lv_room (Nat.le_of_ble_eq_true rfl)) dJ5_putStringAt_47b60_2 ⟨Nat.le_of_ble_eq_true rfl, Nat.le_of_ble_eq_true rfl⟩) ?_
  refine lv_aload_n hx hb dJ5_putStringAt_47b60_5 rfl (lv_at hl 2 rfl) ?_
  refine lv_aload_n hx hb dJ5_putStringAt_47b60_6 rfl (lv_at hl 0 rfl) ?_
  refine gt_J4_0 (v := .ref a_value) hx hb hts i_f_J5_putStringAt_47b60_J4 hown hK hP 0 rfl (hts (.fieldLink RJ5 15 "java/lang/AbstractStringBuilder" "value" "[B") (List.mem_of_getElem? (i := 1) rfl)) rfl dJ5_putStringAt_47b60_7 ?_
  refine lv_iload_n hx hb dJ5_putStringAt_47b60_10 rfl (lv_at hl 1 rfl) ?_
  refine lv_aload_n hx hb dJ5_putStringAt_47b60_11 rfl (lv_at hl 0 rfl) ?_
  refine gt_J4_1 (v := .int c_coder) hx hb hts i_f_J5_putStringAt_47b60_J4 hown hK hP 0 rfl (hts (.fieldLink RJ5 22 "java/lang/AbstractStringBuilder" "coder" "B") (List.mem_of_getElem? (i := 2) rfl)) rfl dJ5_putStringAt_47b60_12 ?_
  replace hF := ltF_s hF
  obtain ⟨hs_4, hF⟩ := hF
  replace hF := bd1_s hF
  obtain ⟨w_3, hc_5, hF⟩ := hF
  obtain ⟨hPc, hDc, hFc⟩ := wcut (wc := (w_J0_getBytes_840e7 E a_value c_value m9)) hP hD hS hA [1] (by decide) rfl
  refine cE_v (wc := (w_J0_getBytes_840e7 E a_value c_value m9)) (wr := [(a_, .inr (0, [.ref a_value, .int c_coder, .int c_maybeLatin1, .int c_count]))]) (w1 := (w_J0_getBytes_840e7 E a_value w_3 m9)) (va_runV (As := [.ref a_value, .int p1, .int c_coder]) (rest := [])  ⟨hx, hb, hml, hown, hts⟩ (f_J0_getBytes_840e7 l E H.size z9 (a_o1 := a_value) (p0 := p2) (p2 := p1) (p3 := c_coder) (c_o1 := c_value) (m9 := m9) hc_5) (cwV 3 hts g_f_J5_putStringAt_47b60_f_J0_getBytes_840e7_399 rfl rfl rfl hd_J0_getBytes_840e7 ⟨Nat.le_of_ble_eq_true rfl, Nat.le_of_ble_eq_true rfl⟩) ⟨qWZ.blind, vk_recv hZ.2.2.2.1 hs_4 hS, (qWZ.pre ⟨hK, hN⟩ hPc hDc hZ hS hFc)⟩ rfl rfl hl.1 rfl (lv_room (Nat.le_of_ble_eq_true rfl)) dJ5_putStringAt_47b60_15 ⟨Nat.le_of_ble_eq_true rfl, Nat.le_of_ble_eq_true rfl⟩) hS hFc hP hD [1] [0] rfl rfl (by decide) (by decide) (fun H locs hP hD hS => ?_)
  replace hP : va_P E.1 vwCl [(a_, .inr (0, [.ref a_value, .int c_coder, .int c_maybeLatin1, .int c_count])), (a_value, .inl (E.2.2.1, m9, .inl w_3))] H := hP
  replace hD : va_D A [(a_, .inr (0, [.ref a_value, .int c_coder, .int c_maybeLatin1, .int c_count])), (a_value, .inl (E.2.2.1, m9, .inl w_3))] := hD
  rw [hQ]
  have h9 := fin9 (P := fun u9 : (Nat → Int32) => va_P E.1 vwCl (w_J5_putStringAt_47b60 E a_ a_value c_coder c_maybeLatin1 c_count u9 m9) H ∧ va_D A (w_J5_putStringAt_47b60 E a_ a_value c_coder c_maybeLatin1 c_count u9 m9)) hF ⟨hP, hD⟩
  obtain ⟨hP9, hD9⟩ := h9
  exact W.vret hx hb hr (fun tt ht hW => ⟨⟨(), rfl, trivial, ht ▸ hP9, hD9⟩, hS.F ht⟩) hS.2.2 dJ5_putStringAt_47b60_18
end
-- 84c.sq
section

/-! what StringBuilder's functions answer, as far as spell needs it -/
theorem ss_J {K b : Nat} {x0 : Int32} (hK : 200000 ≤ K) (hb : b ≤ 1) : Tt (J_J6_stringSize_0f7a4_11 K (nI b) x0) (fun r => ∃ s, 1 ≤ s ∧ s ≤ 11 ∧ r = nI s) := by
  unfold J_J6_stringSize_0f7a4_11
  refine tt_bd2 (P := fun x : Nat × Int32 => x.1 < 2 ∧ ∃ a, 1 ≤ a ∧ a ≤ 10 ∧ x.2 = nI a) (tt_for (fun j u => u.2 = nI (j + 1)) 9 (by omega) rfl (fun j u hj hu => ?_)) (fun t x3 hx => ?_)
  · unfold B_J6_stringSize_0f7a4_16
    rw [hu]
    refine tt_ite (fun _ => tt_some (nx_r ⟨Nat.lt_succ_self 1, j + 1, by omega, by omega, rfl⟩)) (fun q => tt_ite (fun _ => tt_some (nx_l ?_ (nI_1 _))) (fun _ => tt_some (nx_r ⟨Nat.zero_lt_succ 1, j + 1, by omega, by omega, rfl⟩)))
    have := mt (nI_leI (a := 10) (b := j + 1) (by omega) (by omega)).mpr q
    omega
  · obtain ⟨ht, a, h1, h2, h3⟩ := hx
    have h3 : x3 = nI a := h3
    have ht : t < 2 := ht
    refine tt_ite (fun _ => tt_some ⟨a + b, by omega, by omega, by rw [h3, nI_add]⟩) (fun q => tt_ite (fun _ => tt_some ⟨10 + b, by omega, by omega, nI_add 10 b⟩) (fun q2 => ?_))
    omega
theorem ss_tot {K : Nat} {i : Int32} (hK : 200000 ≤ K) : Tt (F_J6_stringSize_0f7a4 K i) (fun r => ∃ s, 1 ≤ s ∧ s ≤ 11 ∧ r = nI s) := by
  unfold F_J6_stringSize_0f7a4
  exact tt_ite (fun _ => ss_J (b := 1) hK (by decide)) (fun _ => ss_J (b := 0) hK (by decide))
theorem ss_d1 : ∀ i, i < 8 → ¬ nI i < 0 := by decide +kernel
theorem ss_d2 : ∀ i, i < 8 → ¬ -(nI i) ≤ -10 := by decide +kernel
theorem ss_dig {K i : Nat} (hK : 200000 ≤ K) (hi : i < 8) : F_J6_stringSize_0f7a4 K (nI i) = some (nI 1) := by
  have e : lpF (fun u9 : Int32 × Int32 => B_J6_stringSize_0f7a4_16 (-(nI i)) u9.1 u9.2) K ((-10 : Int32), (1 : Int32)) = some (0, 1) := by
    obtain ⟨K', rfl⟩ : ∃ K', K = K' + 1 := ⟨K - 1, by omega⟩
    refine lp_end ?_
    show B_J6_stringSize_0f7a4_16 (-(nI i)) (-10) 1 = some (Sum.inr (0, 1))
    unfold B_J6_stringSize_0f7a4_16
    rw [if_neg (by decide), if_neg (ss_d2 i hi)]
  unfold F_J6_stringSize_0f7a4 J_J6_stringSize_0f7a4_11
  rw [if_neg (ss_d1 i hi), e, xb2, if_pos rfl]
  rfl
theorem dec1 {y : Nat} (h : 1 ≤ y) : nI y + (-1 : Int32) = nI (y - 1) := by
  obtain ⟨x, rfl⟩ : ∃ x, y = x + 1 := ⟨y - 1, by omega⟩
  rw [← nI_1, Int32.add_assoc, show (1 : Int32) + -1 = 0 by decide, Int32.add_zero]
  rfl
def gcT (m9 : Nat) (k0 x0 x5 : Int32) (c : Nat → Int32) : Option (Int32 × (Nat → Int32)) :=
  ixF (-x0) 100 (ixF (x5 + (-1 : Int32)) m9 (nmF (upd c (x5 + (-1 : Int32)).toNatClampNeg (vp_nar .byte (onesF (-x0).toNatClampNeg))) (fun f_16 => if (-9 : Int32) ≤ x0 then if k0 = (0 : Int32) then some (x5 + (-1 : Int32), f_16) else ixF ((x5 + (-1 : Int32)) + (-1 : Int32)) m9 (nmF (upd f_16 ((x5 + (-1 : Int32)) + (-1 : Int32)).toNatClampNeg (vp_nar .byte (45 : Int32))) (fun f_20 => some ((x5 + (-1 : Int32)) + (-1 : Int32), f_20))) else ixF (-x0) 100 (ixF ((x5 + (-1 : Int32)) + (-1 : Int32)) m9 (nmF (upd f_16 ((x5 + (-1 : Int32)) + (-1 : Int32)).toNatClampNeg (vp_nar .byte (tensF (-x0).toNatClampNeg))) (fun f_23 => if k0 = (0 : Int32) then some ((x5 + (-1 : Int32)) + (-1 : Int32), f_23) else ixF (((x5 + (-1 : Int32)) + (-1 : Int32)) + (-1 : Int32)) m9 (nmF (upd f_23 (((x5 + (-1 : Int32)) + (-1 : Int32)) + (-1 : Int32)).toNatClampNeg (vp_nar .byte (45 : Int32))) (fun f_26 => some (((x5 + (-1 : Int32)) + (-1 : Int32)) + (-1 : Int32), f_26))))))))) 
theorem gc_tail {mz d y : Nat} {k0 x0 x5 : Int32} {c : Nat → Int32} (hm : mz ≤ 34) (hf : sb_Fit c) (h0 : -x0 = nI d) (hd : d < 100) (h5 : x5 = nI y) (hy2 : y ≤ mz) (hy : 3 ≤ y ∨ (1 ≤ y ∧ k0 = 0 ∧ (-9 : Int32) ≤ x0)) : Tt (gcT mz k0 x0 x5 c) (fun x => sb_Fit x.2) := by
  unfold gcT
  have h1 : 1 ≤ y := by omega
  rw [h0, h5, dec1 h1]
  refine tt_ixn hd (by decide) (tt_ixn (by omega) (by omega) (tt_nm ?_))
  have f1 := sb_fitU (k := (nI (y - 1)).toNatClampNeg) hf (fit_nar (onesF (nI d).toNatClampNeg))
  refine tt_ite (fun q => tt_ite (fun _ => tt_some f1) (fun k => ?_)) (fun q => ?_)
  · have y3 : 3 ≤ y := by
      rcases hy with h | h
      · exact h
      · exact absurd h.2.1 k
    rw [dec1 (show 1 ≤ y - 1 by omega)]
    exact tt_ixn (by omega) (by omega) (tt_nm (tt_some (sb_fitU f1 (fit_nar _))))
  · have y3 : 3 ≤ y := by
      rcases hy with h | h
      · exact h
      · exact absurd h.2.2 q
    rw [dec1 (show 1 ≤ y - 1 by omega), dec1 (show 1 ≤ y - 1 - 1 by omega)]
    refine tt_ixn hd (by decide) (tt_ixn (by omega) (by omega) (tt_nm (tt_ite (fun _ => tt_some (sb_fitU f1 (fit_nar _))) (fun _ => tt_ixn (by omega) (by omega) (tt_nm (tt_some (sb_fitU (sb_fitU f1 (fit_nar _)) (fit_nar _))))))))
theorem gc_div {x : Int32} (h : x.toInt ≤ 0) : ∃ d, d < 100 ∧ x / 100 * 100 - x = nI d ∧ (x / 100).toInt ≤ 0 ∧ x.toInt = 100 * (x / 100).toInt - (d : Int) := by
  have lo := Int32.le_toInt x
  have h100 : (100 : Int32).toInt = 100 := by decide
  have hq : (x / 100).toInt = -((-x.toInt) / 100) := by
    rw [Int32.toInt_div, h100]
    rw [show x.toInt.tdiv 100 = -((-x.toInt) / 100) by
      rw [← Int.tdiv_eq_ediv_of_nonneg (show 0 ≤ -x.toInt by omega), Int.neg_tdiv, Int.neg_neg]]
    rw [Int.bmod_eq_of_le (by omega) (by omega)]
  have hr : (x / 100 * 100 - x).toInt = -((-x.toInt) / 100) * 100 - x.toInt := by
    rw [Int32.toInt_sub, Int32.toInt_mul, hq, h100, Int.bmod_eq_of_le (n := -((-x.toInt) / 100) * 100) (by omega) (by omega), Int.bmod_eq_of_le (by omega) (by omega)]
  refine ⟨(-((-x.toInt) / 100) * 100 - x.toInt).toNat, by omega, ?_, by omega, by omega⟩
  apply Int32.toInt_inj.mp
  rw [hr, nI_toInt (by omega)]
  omega
def gB : Nat → Int
  | 0 => 2147483648
  | 1 => 21474836
  | 2 => 214748
  | 3 => 2147
  | _ => 21
theorem gB_step : ∀ t, t < 4 → ∀ a b : Int, a ≤ gB t → 100 * b ≤ a → b ≤ gB (t + 1) := by
  intro t ht a b h1 h2
  match t, ht with
  | 0, _ => have h1 : a ≤ 2147483648 := h1; show b ≤ 21474836; omega
  | 1, _ => have h1 : a ≤ 21474836 := h1; show b ≤ 214748; omega
  | 2, _ => have h1 : a ≤ 214748 := h1; show b ≤ 2147; omega
  | 3, _ => have h1 : a ≤ 2147 := h1; show b ≤ 21; omega
  | t + 4, h => omega
theorem m100 : (-100 : Int32).toInt = -100 := by decide
theorem gc_loop {K mz y : Nat} {x : Int32} {c : Nat → Int32} (hK : 200000 ≤ K) (hm : mz ≤ 34) (hf : sb_Fit c) (hy : 11 ≤ y) (hy2 : y ≤ mz) (hx : x.toInt ≤ 0) : Tt (lpF (fun u9 : Int32 × Int32 × (Nat → Int32) => B_J6_getChars_ba4f3_22 mz u9.1 u9.2.1 u9.2.2) K (x, nI y, c)) (fun r => (∃ d, d < 100 ∧ -r.1 = nI d) ∧ (∃ a, 3 ≤ a ∧ a ≤ mz ∧ r.2.1 = nI a) ∧ sb_Fit r.2.2) := by
  refine tt_for (fun t u => u.1.toInt ≤ 0 ∧ -u.1.toInt ≤ gB t ∧ u.2.1 = nI (y - 2 * t) ∧ sb_Fit u.2.2) 4 (by omega) ⟨hx, ?_, rfl, hf⟩ (fun t u ht hu => ?_)
  · have := Int32.le_toInt x
    show -x.toInt ≤ 2147483648
    omega
  obtain ⟨h1, h2, h3, h4⟩ := hu
  unfold B_J6_getChars_ba4f3_22
  refine tt_ite (fun q => tt_some (nx_r ⟨?_, ⟨y - 2 * t, by omega, by omega, h3⟩, h4⟩)) (fun q => ?_)
  · have q1 := Int32.lt_iff_toInt_lt.mp q
    rw [m100] at q1
    refine ⟨(-u.1.toInt).toNat, by omega, ?_⟩
    show -u.1 = nI (-u.1.toInt).toNat
    apply Int32.toInt_inj.mp
    rw [Int32.toInt_neg, Int.bmod_eq_of_le (by omega) (by omega), nI_toInt (by omega)]
    omega
  · have q1 := mt Int32.lt_iff_toInt_lt.mpr q
    rw [m100] at q1
    obtain ⟨d, hd, e1, e2, e3⟩ := gc_div h1
    have t4 : t < 4 := by
      rcases Nat.lt_or_ge t 4 with z | z
      · exact z
      · have t5 : t = 4 := by omega
        rw [t5] at h2
        have h2 : -u.1.toInt ≤ 21 := h2
        omega
    have hb := gB_step t t4 (-u.1.toInt) (-(u.1 / 100).toInt) h2 (by omega)
    rw [e1, h3, dec1 (show 1 ≤ y - 2 * t by omega), dec1 (show 1 ≤ y - 2 * t - 1 by omega)]
    exact tt_ixn hd (by decide) (tt_ixn (by omega) (by omega) (tt_nm (tt_ixn hd (by decide) (tt_ixn (by omega) (by omega) (tt_nm (tt_some (nx_l t4 ⟨e2, hb, by rw [show y - 2 * t - 1 - 1 = y - 2 * (t + 1) by omega], sb_fitU (sb_fitU h4 (fit_nar _)) (fit_nar _)⟩)))))))
theorem gc_tot {K mz y : Nat} {i : Int32} {c : Nat → Int32} (hK : 200000 ≤ K) (hm : mz ≤ 34) (hf : sb_Fit c) (hy : 11 ≤ y) (hy2 : y ≤ mz) : Tt (F_J6_getChars_ba4f3 K i (nI y) c mz) (fun x => sb_Fit x.2) := by
  have z : (0 : Int32).toInt = 0 := rfl
  unfold F_J6_getChars_ba4f3 J_J6_getChars_ba4f3_12
  refine tt_ite (fun q => ?_) (fun q => ?_)
  · rw [if_pos rfl]
    have q0 := Int32.le_iff_toInt_le.mp q
    have lo := Int32.toInt_lt i
    refine tt_bd3 (gc_loop hK hm hf hy hy2 ?_) (fun x0 x5 c2 hr => ?_)
    · rw [Int32.toInt_neg, Int.bmod_eq_of_le (by omega) (by omega)]
      omega
    · obtain ⟨⟨d, hd, e0⟩, ⟨a, a1, a2, e5⟩, hf2⟩ := hr
      exact gc_tail hm hf2 e0 hd e5 a2 (Or.inl a1)
  · rw [if_neg (by decide)]
    have q0 := mt Int32.le_iff_toInt_le.mpr q
    refine tt_bd3 (gc_loop hK hm hf hy hy2 (by omega)) (fun x0 x5 c2 hr => ?_)
    obtain ⟨⟨d, hd, e0⟩, ⟨a, a1, a2, e5⟩, hf2⟩ := hr
    exact gc_tail hm hf2 e0 hd e5 a2 (Or.inl a1)
theorem gc_d1 : ∀ i, i < 8 → (0 : Int32) ≤ nI i := by decide +kernel
theorem gc_d2 : ∀ i, i < 8 → (-100 : Int32) < -(nI i) := by decide +kernel
theorem gc_d3 : ∀ i, i < 8 → (-9 : Int32) ≤ -(nI i) := by decide +kernel
theorem gc_d4 : ∀ i, i < 8 → -(-(nI i)) = nI i := by decide +kernel
theorem gc_dig {K mz y i : Nat} {c : Nat → Int32} (hK : 200000 ≤ K) (hi : i < 8) (hm : mz ≤ 34) (hf : sb_Fit c) (hy : 1 ≤ y) (hy2 : y ≤ mz) : Tt (F_J6_getChars_ba4f3 K (nI i) (nI y) c mz) (fun x => sb_Fit x.2) := by
  have e : lpF (fun u9 : Int32 × Int32 × (Nat → Int32) => B_J6_getChars_ba4f3_22 mz u9.1 u9.2.1 u9.2.2) K (-(nI i), nI y, c) = some (-(nI i), nI y, c) := by
    obtain ⟨K', rfl⟩ : ∃ K', K = K' + 1 := ⟨K - 1, by omega⟩
    refine lp_end ?_
    show B_J6_getChars_ba4f3_22 mz (-(nI i)) (nI y) c = some (Sum.inr (-(nI i), nI y, c))
    unfold B_J6_getChars_ba4f3_22
    rw [if_pos (gc_d2 i hi)]
  unfold F_J6_getChars_ba4f3 J_J6_getChars_ba4f3_12
  rw [if_pos (gc_d1 i hi), if_pos rfl, e, xb3]
  exact gc_tail hm hf (gc_d4 i hi) (show i < 100 by omega) rfl hy2 (Or.inr ⟨hy, rfl, gc_d3 i hi⟩)
theorem nc_ok : ∀ k, k < 35 → 16 < k → F_J5_newCapacity_0f7a4 (nI k) 0 16 = some 34 := by decide +kernel
theorem gb_ok {p w k mz : Nat} {c : Nat → Int32} (hp : (p = 12 ∧ w = 5) ∨ (p = 13 ∧ w = 4)) (hk : k + w ≤ mz) (hm : mz ≤ 34) : F_J0_getBytes_840e7 p (nI k) 0 c mz = some (va_cpy (fun j => (strB.getD p []).getD j 0) c 0 k w) := by
  have p15 : p < 15 := by omega
  have el : strL.getD p 0 = w := by rcases hp with ⟨rfl, rfl⟩ | ⟨rfl, rfl⟩ <;> rfl
  have hw : w ≤ 5 := by omega
  unfold F_J0_getBytes_840e7 F_J0_coder_7d493
  rw [xlt p15, xlt p15, xb1, if_pos rfl, xlt p15, xlt p15, xlt p15, xlt p15, sb_shl0, el]
  unfold cpF
  have c1 : (nI k).toNatClampNeg = k := nI_clamp (by omega)
  have c2 : (Int32.ofNat w).toNatClampNeg = w := nI_clamp (by omega)
  rw [c1, c2]
  rw [if_pos ⟨by decide, nI_pos (by omega), nI_pos (by omega), by rw [show (0 : Int32).toNatClampNeg = 0 from rfl]; omega, hk⟩]
  rfl
theorem ps_ok {p w k mz : Nat} {c : Nat → Int32} (hp : (p = 12 ∧ w = 5) ∨ (p = 13 ∧ w = 4)) (hk : k + w ≤ mz) (hm : mz ≤ 34) (hf : sb_Fit c) : ∃ c', F_J5_putStringAt_47b60 (nI k) p c 0 mz = some c' ∧ sb_Fit c' := by
  have p15 : p < 15 := by omega
  refine ⟨va_cpy (fun j => (strB.getD p []).getD j 0) c 0 k w, ?_, sb_fitC (fun j => strB_fit p j) hf⟩
  unfold F_J5_putStringAt_47b60 F_J5_inflateIfNeededFor_a7421 F_J0_coder_7d493
  rw [xlt p15, xlt p15, xb1, if_pos rfl, xb1, xlt p15, gb_ok hp hk hm, xb1]
theorem ln_ok {p w : Nat} (hp : (p = 12 ∧ w = 5) ∨ (p = 13 ∧ w = 4)) : F_J0_length_8abf5 p = some (nI w) := by
  have p15 : p < 15 := by omega
  have el : strL.getD p 0 = w := by rcases hp with ⟨rfl, rfl⟩ | ⟨rfl, rfl⟩ <;> rfl
  unfold F_J0_length_8abf5 F_J0_coder_7d493
  rw [xlt p15, xlt p15, xlt p15, xlt p15, xb1, sb_shr0, el]
  rfl
theorem ca_ok {n mz i : Nat} {c : Nat → Int32} (hi : i < n) (hn : n ≤ mz) (hm : mz ≤ 34) : Tt (F_J5_charAt_5068e (nI i) c 0 (nI n) mz) (fun _ => True) := by
  unfold F_J5_charAt_5068e F_J0_checkIndex_df160 F_J3_checkIndex_8e157null
  have e : minF (nI n) (Int32.ofNat mz >>> ((0 : Int32) &&& (31 : Int32))) = nI n := by
    rw [sb_shr0]
    unfold minF
    exact if_neg (nI_nlt hn (by omega))
  rw [e, if_neg (nI_pos (by omega)), if_pos (nI_lt hi (by omega)), xb1, xb1, if_pos rfl]
  exact tt_ixn (by omega) (by omega) (tt_some trivial)
end
-- 84d.sh
section
def dl_J4_length_8abf5_84d_sh_0 : List (Nat × Instr × Nat) := [(0, .aload_n 0, 1), (1, .invokespecial 343, 3), (4, .ireturn, 1)]
set_option maxRecDepth 100000 in
theorem dall_J4_length_8abf5_84d_sh_0 : dchk cJ4_length_8abf5 dl_J4_length_8abf5_84d_sh_0 = true := by decide +kernel
theorem dJ4_length_8abf5_0 : decode cJ4_length_8abf5 0 = .ok (.aload_n 0, 1) := dchk_at dall_J4_length_8abf5_84d_sh_0 (k := 0) rfl
theorem dJ4_length_8abf5_1 : decode cJ4_length_8abf5 1 = .ok (.invokespecial 343, 3) := dchk_at dall_J4_length_8abf5_84d_sh_0 (k := 1) rfl
theorem dJ4_length_8abf5_4 : decode cJ4_length_8abf5 4 = .ok (.ireturn, 1) := dchk_at dall_J4_length_8abf5_84d_sh_0 (k := 2) rfl
def dl_J4_charAt_5068e_84d_sh_0 : List (Nat × Instr × Nat) := [(0, .aload_n 0, 1), (1, .iload_n 1, 1), (2, .invokespecial 329, 3), (5, .ireturn, 1)]
set_option maxRecDepth 100000 in
theorem dall_J4_charAt_5068e_84d_sh_0 : dchk cJ4_charAt_5068e dl_J4_charAt_5068e_84d_sh_0 = true := by decide +kernel
theorem dJ4_charAt_5068e_0 : decode cJ4_charAt_5068e 0 = .ok (.aload_n 0, 1) := dchk_at dall_J4_charAt_5068e_84d_sh_0 (k := 0) rfl
theorem dJ4_charAt_5068e_1 : decode cJ4_charAt_5068e 1 = .ok (.iload_n 1, 1) := dchk_at dall_J4_charAt_5068e_84d_sh_0 (k := 1) rfl
theorem dJ4_charAt_5068e_2 : decode cJ4_charAt_5068e 2 = .ok (.invokespecial 329, 3) := dchk_at dall_J4_charAt_5068e_84d_sh_0 (k := 2) rfl
theorem dJ4_charAt_5068e_5 : decode cJ4_charAt_5068e 5 = .ok (.ireturn, 1) := dchk_at dall_J4_charAt_5068e_84d_sh_0 (k := 3) rfl
def dl_J7_copyOf_9075b_84d_sh_0 : List (Nat × Instr × Nat) := [(0, .iload_n 1, 1), (1, .aload_n 0, 1), (2, .arraylength, 1), (3, .if_icmp .ne 11, 3), (14, .iload_n 1, 1), (15, .newarray .byte, 2), (17, .astore_n 2, 1), (18, .aload_n 0, 1), (19, .iconst 0, 1), (20, .aload_n 2, 1), (21, .iconst 0, 1), (22, .aload_n 0, 1), (23, .arraylength, 1), (24, .iload_n 1, 1), (25, .invokestatic 304, 3), (28, .invokestatic 150, 3), (31, .aload_n 2, 1), (32, .areturn, 1)]
set_option maxRecDepth 100000 in
theorem dall_J7_copyOf_9075b_84d_sh_0 : dchk cJ7_copyOf_9075b dl_J7_copyOf_9075b_84d_sh_0 = true := by decide +kernel
theorem dJ7_copyOf_9075b_0 : decode cJ7_copyOf_9075b 0 = .ok (.iload_n 1, 1) := dchk_at dall_J7_copyOf_9075b_84d_sh_0 (k := 0) rfl
theorem dJ7_copyOf_9075b_1 : decode cJ7_copyOf_9075b 1 = .ok (.aload_n 0, 1) := dchk_at dall_J7_copyOf_9075b_84d_sh_0 (k := 1) rfl
theorem dJ7_copyOf_9075b_2 : decode cJ7_copyOf_9075b 2 = .ok (.arraylength, 1) := dchk_at dall_J7_copyOf_9075b_84d_sh_0 (k := 2) rfl
theorem dJ7_copyOf_9075b_3 : decode cJ7_copyOf_9075b 3 = .ok (.if_icmp .ne 11, 3) := dchk_at dall_J7_copyOf_9075b_84d_sh_0 (k := 3) rfl
theorem dJ7_copyOf_9075b_14 : decode cJ7_copyOf_9075b 14 = .ok (.iload_n 1, 1) := dchk_at dall_J7_copyOf_9075b_84d_sh_0 (k := 4) rfl
theorem dJ7_copyOf_9075b_15 : decode cJ7_copyOf_9075b 15 = .ok (.newarray .byte, 2) := dchk_at dall_J7_copyOf_9075b_84d_sh_0 (k := 5) rfl
theorem dJ7_copyOf_9075b_17 : decode cJ7_copyOf_9075b 17 = .ok (.astore_n 2, 1) := dchk_at dall_J7_copyOf_9075b_84d_sh_0 (k := 6) rfl
theorem dJ7_copyOf_9075b_18 : decode cJ7_copyOf_9075b 18 = .ok (.aload_n 0, 1) := dchk_at dall_J7_copyOf_9075b_84d_sh_0 (k := 7) rfl
theorem dJ7_copyOf_9075b_19 : decode cJ7_copyOf_9075b 19 = .ok (.iconst 0, 1) := dchk_at dall_J7_copyOf_9075b_84d_sh_0 (k := 8) rfl
theorem dJ7_copyOf_9075b_20 : decode cJ7_copyOf_9075b 20 = .ok (.aload_n 2, 1) := dchk_at dall_J7_copyOf_9075b_84d_sh_0 (k := 9) rfl
theorem dJ7_copyOf_9075b_21 : decode cJ7_copyOf_9075b 21 = .ok (.iconst 0, 1) := dchk_at dall_J7_copyOf_9075b_84d_sh_0 (k := 10) rfl
theorem dJ7_copyOf_9075b_22 : decode cJ7_copyOf_9075b 22 = .ok (.aload_n 0, 1) := dchk_at dall_J7_copyOf_9075b_84d_sh_0 (k := 11) rfl
theorem dJ7_copyOf_9075b_23 : decode cJ7_copyOf_9075b 23 = .ok (.arraylength, 1) := dchk_at dall_J7_copyOf_9075b_84d_sh_0 (k := 12) rfl
theorem dJ7_copyOf_9075b_24 : decode cJ7_copyOf_9075b 24 = .ok (.iload_n 1, 1) := dchk_at dall_J7_copyOf_9075b_84d_sh_0 (k := 13) rfl
theorem dJ7_copyOf_9075b_25 : decode cJ7_copyOf_9075b 25 = .ok (.invokestatic 304, 3) := dchk_at dall_J7_copyOf_9075b_84d_sh_0 (k := 14) rfl
theorem dJ7_copyOf_9075b_28 : decode cJ7_copyOf_9075b 28 = .ok (.invokestatic 150, 3) := dchk_at dall_J7_copyOf_9075b_84d_sh_0 (k := 15) rfl
theorem dJ7_copyOf_9075b_31 : decode cJ7_copyOf_9075b 31 = .ok (.aload_n 2, 1) := dchk_at dall_J7_copyOf_9075b_84d_sh_0 (k := 16) rfl
theorem dJ7_copyOf_9075b_32 : decode cJ7_copyOf_9075b 32 = .ok (.areturn, 1) := dchk_at dall_J7_copyOf_9075b_84d_sh_0 (k := 17) rfl
def dl_J5_ensureCapacityInternal_d00df_84d_sh_0 : List (Nat × Instr × Nat) := [(0, .aload_n 0, 1), (1, .getfield 15, 3), (4, .arraylength, 1), (5, .aload_n 0, 1), (6, .getfield 22, 3), (9, .ishr, 1), (10, .istore_n 2, 1), (11, .iload_n 1, 1), (12, .iload_n 2, 1), (13, .isub, 1), (14, .ifCond .le 24, 3), (38, .return_, 1), (17, .aload_n 0, 1), (18, .aload_n 0, 1), (19, .getfield 15, 3), (22, .aload_n 0, 1), (23, .iload_n 1, 1), (24, .invokevirtual 104, 3), (27, .aload_n 0, 1), (28, .getfield 22, 3), (31, .ishl, 1), (32, .invokestatic 108, 3), (35, .putfield 15, 3)]
set_option maxRecDepth 100000 in
theorem dall_J5_ensureCapacityInternal_d00df_84d_sh_0 : dchk cJ5_ensureCapacityInternal_d00df dl_J5_ensureCapacityInternal_d00df_84d_sh_0 = true := by decide +kernel
theorem dJ5_ensureCapacityInternal_d00df_0 : decode cJ5_ensureCapacityInternal_d00df 0 = .ok (.aload_n 0, 1) := dchk_at dall_J5_ensureCapacityInternal_d00df_84d_sh_0 (k := 0) rfl
theorem dJ5_ensureCapacityInternal_d00df_1 : decode cJ5_ensureCapacityInternal_d00df 1 = .ok (.getfield 15, 3) := dchk_at dall_J5_ensureCapacityInternal_d00df_84d_sh_0 (k := 1) rfl
theorem dJ5_ensureCapacityInternal_d00df_4 : decode cJ5_ensureCapacityInternal_d00df 4 = .ok (.arraylength, 1) := dchk_at dall_J5_ensureCapacityInternal_d00df_84d_sh_0 (k := 2) rfl
theorem dJ5_ensureCapacityInternal_d00df_5 : decode cJ5_ensureCapacityInternal_d00df 5 = .ok (.aload_n 0, 1) := dchk_at dall_J5_ensureCapacityInternal_d00df_84d_sh_0 (k := 3) rfl
theorem dJ5_ensureCapacityInternal_d00df_6 : decode cJ5_ensureCapacityInternal_d00df 6 = .ok (.getfield 22, 3) := dchk_at dall_J5_ensureCapacityInternal_d00df_84d_sh_0 (k := 4) rfl
theorem dJ5_ensureCapacityInternal_d00df_9 : decode cJ5_ensureCapacityInternal_d00df 9 = .ok (.ishr, 1) := dchk_at dall_J5_ensureCapacityInternal_d00df_84d_sh_0 (k := 5) rfl
theorem dJ5_ensureCapacityInternal_d00df_10 : decode cJ5_ensureCapacityInternal_d00df 10 = .ok (.istore_n 2, 1) := dchk_at dall_J5_ensureCapacityInternal_d00df_84d_sh_0 (k := 6) rfl
theorem dJ5_ensureCapacityInternal_d00df_11 : decode cJ5_ensureCapacityInternal_d00df 11 = .ok (.iload_n 1, 1) := dchk_at dall_J5_ensureCapacityInternal_d00df_84d_sh_0 (k := 7) rfl
theorem dJ5_ensureCapacityInternal_d00df_12 : decode cJ5_ensureCapacityInternal_d00df 12 = .ok (.iload_n 2, 1) := dchk_at dall_J5_ensureCapacityInternal_d00df_84d_sh_0 (k := 8) rfl
theorem dJ5_ensureCapacityInternal_d00df_13 : decode cJ5_ensureCapacityInternal_d00df 13 = .ok (.isub, 1) := dchk_at dall_J5_ensureCapacityInternal_d00df_84d_sh_0 (k := 9) rfl
theorem dJ5_ensureCapacityInternal_d00df_14 : decode cJ5_ensureCapacityInternal_d00df 14 = .ok (.ifCond .le 24, 3) := dchk_at dall_J5_ensureCapacityInternal_d00df_84d_sh_0 (k := 10) rfl
theorem dJ5_ensureCapacityInternal_d00df_38 : decode cJ5_ensureCapacityInternal_d00df 38 = .ok (.return_, 1) := dchk_at dall_J5_ensureCapacityInternal_d00df_84d_sh_0 (k := 11) rfl
theorem dJ5_ensureCapacityInternal_d00df_17 : decode cJ5_ensureCapacityInternal_d00df 17 = .ok (.aload_n 0, 1) := dchk_at dall_J5_ensureCapacityInternal_d00df_84d_sh_0 (k := 12) rfl
theorem dJ5_ensureCapacityInternal_d00df_18 : decode cJ5_ensureCapacityInternal_d00df 18 = .ok (.aload_n 0, 1) := dchk_at dall_J5_ensureCapacityInternal_d00df_84d_sh_0 (k := 13) rfl
theorem dJ5_ensureCapacityInternal_d00df_19 : decode cJ5_ensureCapacityInternal_d00df 19 = .ok (.getfield 15, 3) := dchk_at dall_J5_ensureCapacityInternal_d00df_84d_sh_0 (k := 14) rfl
theorem dJ5_ensureCapacityInternal_d00df_22 : decode cJ5_ensureCapacityInternal_d00df 22 = .ok (.aload_n 0, 1) := dchk_at dall_J5_ensureCapacityInternal_d00df_84d_sh_0 (k := 15) rfl
theorem dJ5_ensureCapacityInternal_d00df_23 : decode cJ5_ensureCapacityInternal_d00df 23 = .ok (.iload_n 1, 1) := dchk_at dall_J5_ensureCapacityInternal_d00df_84d_sh_0 (k := 16) rfl
theorem dJ5_ensureCapacityInternal_d00df_24 : decode cJ5_ensureCapacityInternal_d00df 24 = .ok (.invokevirtual 104, 3) := dchk_at dall_J5_ensureCapacityInternal_d00df_84d_sh_0 (k := 17) rfl
theorem dJ5_ensureCapacityInternal_d00df_27 : decode cJ5_ensureCapacityInternal_d00df 27 = .ok (.aload_n 0, 1) := dchk_at dall_J5_ensureCapacityInternal_d00df_84d_sh_0 (k := 18) rfl
theorem dJ5_ensureCapacityInternal_d00df_28 : decode cJ5_ensureCapacityInternal_d00df 28 = .ok (.getfield 22, 3) := dchk_at dall_J5_ensureCapacityInternal_d00df_84d_sh_0 (k := 19) rfl
theorem dJ5_ensureCapacityInternal_d00df_31 : decode cJ5_ensureCapacityInternal_d00df 31 = .ok (.ishl, 1) := dchk_at dall_J5_ensureCapacityInternal_d00df_84d_sh_0 (k := 20) rfl
theorem dJ5_ensureCapacityInternal_d00df_32 : decode cJ5_ensureCapacityInternal_d00df 32 = .ok (.invokestatic 108, 3) := dchk_at dall_J5_ensureCapacityInternal_d00df_84d_sh_0 (k := 21) rfl
theorem dJ5_ensureCapacityInternal_d00df_35 : decode cJ5_ensureCapacityInternal_d00df 35 = .ok (.putfield 15, 3) := dchk_at dall_J5_ensureCapacityInternal_d00df_84d_sh_0 (k := 22) rfl
def dl_J5_append_3fe6f_84d_sh_0 : List (Nat × Instr × Nat) := [(0, .aload_n 0, 1), (1, .aload_n 0, 1), (2, .getfield 79, 3), (5, .iconst 1, 1), (6, .iadd, 1), (7, .invokevirtual 100, 3), (10, .aload_n 0, 1), (11, .invokevirtual 83, 3), (14, .ifCond .eq 31, 3), (17, .iload_n 1, 1), (18, .invokestatic 191, 3), (21, .ifCond .eq 24, 3), (24, .aload_n 0, 1), (25, .getfield 15, 3), (28, .aload_n 0, 1), (29, .dup, 1), (30, .getfield 79, 3), (33, .dup_x1, 1), (34, .iconst 1, 1), (35, .iadd, 1), (36, .putfield 79, 3), (39, .iload_n 1, 1), (40, .i2b, 1), (41, .bastore, 1), (42, .goto 33, 3), (75, .aload_n 0, 1), (76, .areturn, 1)]
set_option maxRecDepth 100000 in
theorem dall_J5_append_3fe6f_84d_sh_0 : dchk cJ5_append_3fe6f dl_J5_append_3fe6f_84d_sh_0 = true := by decide +kernel
theorem dJ5_append_3fe6f_0 : decode cJ5_append_3fe6f 0 = .ok (.aload_n 0, 1) := dchk_at dall_J5_append_3fe6f_84d_sh_0 (k := 0) rfl
theorem dJ5_append_3fe6f_1 : decode cJ5_append_3fe6f 1 = .ok (.aload_n 0, 1) := dchk_at dall_J5_append_3fe6f_84d_sh_0 (k := 1) rfl
theorem dJ5_append_3fe6f_2 : decode cJ5_append_3fe6f 2 = .ok (.getfield 79, 3) := dchk_at dall_J5_append_3fe6f_84d_sh_0 (k := 2) rfl
theorem dJ5_append_3fe6f_5 : decode cJ5_append_3fe6f 5 = .ok (.iconst 1, 1) := dchk_at dall_J5_append_3fe6f_84d_sh_0 (k := 3) rfl
theorem dJ5_append_3fe6f_6 : decode cJ5_append_3fe6f 6 = .ok (.iadd, 1) := dchk_at dall_J5_append_3fe6f_84d_sh_0 (k := 4) rfl
theorem dJ5_append_3fe6f_7 : decode cJ5_append_3fe6f 7 = .ok (.invokevirtual 100, 3) := dchk_at dall_J5_append_3fe6f_84d_sh_0 (k := 5) rfl
theorem dJ5_append_3fe6f_10 : decode cJ5_append_3fe6f 10 = .ok (.aload_n 0, 1) := dchk_at dall_J5_append_3fe6f_84d_sh_0 (k := 6) rfl
theorem dJ5_append_3fe6f_11 : decode cJ5_append_3fe6f 11 = .ok (.invokevirtual 83, 3) := dchk_at dall_J5_append_3fe6f_84d_sh_0 (k := 7) rfl
theorem dJ5_append_3fe6f_14 : decode cJ5_append_3fe6f 14 = .ok (.ifCond .eq 31, 3) := dchk_at dall_J5_append_3fe6f_84d_sh_0 (k := 8) rfl
theorem dJ5_append_3fe6f_17 : decode cJ5_append_3fe6f 17 = .ok (.iload_n 1, 1) := dchk_at dall_J5_append_3fe6f_84d_sh_0 (k := 9) rfl
theorem dJ5_append_3fe6f_18 : decode cJ5_append_3fe6f 18 = .ok (.invokestatic 191, 3) := dchk_at dall_J5_append_3fe6f_84d_sh_0 (k := 10) rfl
theorem dJ5_append_3fe6f_21 : decode cJ5_append_3fe6f 21 = .ok (.ifCond .eq 24, 3) := dchk_at dall_J5_append_3fe6f_84d_sh_0 (k := 11) rfl
theorem dJ5_append_3fe6f_24 : decode cJ5_append_3fe6f 24 = .ok (.aload_n 0, 1) := dchk_at dall_J5_append_3fe6f_84d_sh_0 (k := 12) rfl
theorem dJ5_append_3fe6f_25 : decode cJ5_append_3fe6f 25 = .ok (.getfield 15, 3) := dchk_at dall_J5_append_3fe6f_84d_sh_0 (k := 13) rfl
theorem dJ5_append_3fe6f_28 : decode cJ5_append_3fe6f 28 = .ok (.aload_n 0, 1) := dchk_at dall_J5_append_3fe6f_84d_sh_0 (k := 14) rfl
theorem dJ5_append_3fe6f_29 : decode cJ5_append_3fe6f 29 = .ok (.dup, 1) := dchk_at dall_J5_append_3fe6f_84d_sh_0 (k := 15) rfl
theorem dJ5_append_3fe6f_30 : decode cJ5_append_3fe6f 30 = .ok (.getfield 79, 3) := dchk_at dall_J5_append_3fe6f_84d_sh_0 (k := 16) rfl
theorem dJ5_append_3fe6f_33 : decode cJ5_append_3fe6f 33 = .ok (.dup_x1, 1) := dchk_at dall_J5_append_3fe6f_84d_sh_0 (k := 17) rfl
theorem dJ5_append_3fe6f_34 : decode cJ5_append_3fe6f 34 = .ok (.iconst 1, 1) := dchk_at dall_J5_append_3fe6f_84d_sh_0 (k := 18) rfl
theorem dJ5_append_3fe6f_35 : decode cJ5_append_3fe6f 35 = .ok (.iadd, 1) := dchk_at dall_J5_append_3fe6f_84d_sh_0 (k := 19) rfl
theorem dJ5_append_3fe6f_36 : decode cJ5_append_3fe6f 36 = .ok (.putfield 79, 3) := dchk_at dall_J5_append_3fe6f_84d_sh_0 (k := 20) rfl
theorem dJ5_append_3fe6f_39 : decode cJ5_append_3fe6f 39 = .ok (.iload_n 1, 1) := dchk_at dall_J5_append_3fe6f_84d_sh_0 (k := 21) rfl
theorem dJ5_append_3fe6f_40 : decode cJ5_append_3fe6f 40 = .ok (.i2b, 1) := dchk_at dall_J5_append_3fe6f_84d_sh_0 (k := 22) rfl
theorem dJ5_append_3fe6f_41 : decode cJ5_append_3fe6f 41 = .ok (.bastore, 1) := dchk_at dall_J5_append_3fe6f_84d_sh_0 (k := 23) rfl
theorem dJ5_append_3fe6f_42 : decode cJ5_append_3fe6f 42 = .ok (.goto 33, 3) := dchk_at dall_J5_append_3fe6f_84d_sh_0 (k := 24) rfl
theorem dJ5_append_3fe6f_75 : decode cJ5_append_3fe6f 75 = .ok (.aload_n 0, 1) := dchk_at dall_J5_append_3fe6f_84d_sh_0 (k := 25) rfl
theorem dJ5_append_3fe6f_76 : decode cJ5_append_3fe6f 76 = .ok (.areturn, 1) := dchk_at dall_J5_append_3fe6f_84d_sh_0 (k := 26) rfl
def dl_J5_append_c97b9_84d_sh_0 : List (Nat × Instr × Nat) := [(0, .aload_n 0, 1), (1, .getfield 79, 3), (4, .istore_n 2, 1), (5, .iload_n 2, 1), (6, .iload_n 1, 1), (7, .invokestatic 245, 3), (10, .iadd, 1), (11, .istore_n 3, 1), (12, .aload_n 0, 1), (13, .iload_n 3, 1), (14, .invokevirtual 100, 3), (17, .aload_n 0, 1), (18, .invokevirtual 83, 3), (21, .ifCond .eq 16, 3), (24, .iload_n 1, 1), (25, .iload_n 3, 1), (26, .aload_n 0, 1), (27, .getfield 15, 3), (30, .invokestatic 248, 3), (33, .pop, 1), (34, .goto 14, 3), (48, .aload_n 0, 1), (49, .iload_n 3, 1), (50, .putfield 79, 3), (53, .aload_n 0, 1), (54, .areturn, 1)]
set_option maxRecDepth 100000 in
theorem dall_J5_append_c97b9_84d_sh_0 : dchk cJ5_append_c97b9 dl_J5_append_c97b9_84d_sh_0 = true := by decide +kernel
theorem dJ5_append_c97b9_0 : decode cJ5_append_c97b9 0 = .ok (.aload_n 0, 1) := dchk_at dall_J5_append_c97b9_84d_sh_0 (k := 0) rfl
theorem dJ5_append_c97b9_1 : decode cJ5_append_c97b9 1 = .ok (.getfield 79, 3) := dchk_at dall_J5_append_c97b9_84d_sh_0 (k := 1) rfl
theorem dJ5_append_c97b9_4 : decode cJ5_append_c97b9 4 = .ok (.istore_n 2, 1) := dchk_at dall_J5_append_c97b9_84d_sh_0 (k := 2) rfl
theorem dJ5_append_c97b9_5 : decode cJ5_append_c97b9 5 = .ok (.iload_n 2, 1) := dchk_at dall_J5_append_c97b9_84d_sh_0 (k := 3) rfl
theorem dJ5_append_c97b9_6 : decode cJ5_append_c97b9 6 = .ok (.iload_n 1, 1) := dchk_at dall_J5_append_c97b9_84d_sh_0 (k := 4) rfl
theorem dJ5_append_c97b9_7 : decode cJ5_append_c97b9 7 = .ok (.invokestatic 245, 3) := dchk_at dall_J5_append_c97b9_84d_sh_0 (k := 5) rfl
theorem dJ5_append_c97b9_10 : decode cJ5_append_c97b9 10 = .ok (.iadd, 1) := dchk_at dall_J5_append_c97b9_84d_sh_0 (k := 6) rfl
theorem dJ5_append_c97b9_11 : decode cJ5_append_c97b9 11 = .ok (.istore_n 3, 1) := dchk_at dall_J5_append_c97b9_84d_sh_0 (k := 7) rfl
theorem dJ5_append_c97b9_12 : decode cJ5_append_c97b9 12 = .ok (.aload_n 0, 1) := dchk_at dall_J5_append_c97b9_84d_sh_0 (k := 8) rfl
theorem dJ5_append_c97b9_13 : decode cJ5_append_c97b9 13 = .ok (.iload_n 3, 1) := dchk_at dall_J5_append_c97b9_84d_sh_0 (k := 9) rfl
theorem dJ5_append_c97b9_14 : decode cJ5_append_c97b9 14 = .ok (.invokevirtual 100, 3) := dchk_at dall_J5_append_c97b9_84d_sh_0 (k := 10) rfl
theorem dJ5_append_c97b9_17 : decode cJ5_append_c97b9 17 = .ok (.aload_n 0, 1) := dchk_at dall_J5_append_c97b9_84d_sh_0 (k := 11) rfl
theorem dJ5_append_c97b9_18 : decode cJ5_append_c97b9 18 = .ok (.invokevirtual 83, 3) := dchk_at dall_J5_append_c97b9_84d_sh_0 (k := 12) rfl
theorem dJ5_append_c97b9_21 : decode cJ5_append_c97b9 21 = .ok (.ifCond .eq 16, 3) := dchk_at dall_J5_append_c97b9_84d_sh_0 (k := 13) rfl
theorem dJ5_append_c97b9_24 : decode cJ5_append_c97b9 24 = .ok (.iload_n 1, 1) := dchk_at dall_J5_append_c97b9_84d_sh_0 (k := 14) rfl
theorem dJ5_append_c97b9_25 : decode cJ5_append_c97b9 25 = .ok (.iload_n 3, 1) := dchk_at dall_J5_append_c97b9_84d_sh_0 (k := 15) rfl
theorem dJ5_append_c97b9_26 : decode cJ5_append_c97b9 26 = .ok (.aload_n 0, 1) := dchk_at dall_J5_append_c97b9_84d_sh_0 (k := 16) rfl
theorem dJ5_append_c97b9_27 : decode cJ5_append_c97b9 27 = .ok (.getfield 15, 3) := dchk_at dall_J5_append_c97b9_84d_sh_0 (k := 17) rfl
theorem dJ5_append_c97b9_30 : decode cJ5_append_c97b9 30 = .ok (.invokestatic 248, 3) := dchk_at dall_J5_append_c97b9_84d_sh_0 (k := 18) rfl
theorem dJ5_append_c97b9_33 : decode cJ5_append_c97b9 33 = .ok (.pop, 1) := dchk_at dall_J5_append_c97b9_84d_sh_0 (k := 19) rfl
theorem dJ5_append_c97b9_34 : decode cJ5_append_c97b9 34 = .ok (.goto 14, 3) := dchk_at dall_J5_append_c97b9_84d_sh_0 (k := 20) rfl
theorem dJ5_append_c97b9_48 : decode cJ5_append_c97b9 48 = .ok (.aload_n 0, 1) := dchk_at dall_J5_append_c97b9_84d_sh_0 (k := 21) rfl
theorem dJ5_append_c97b9_49 : decode cJ5_append_c97b9 49 = .ok (.iload_n 3, 1) := dchk_at dall_J5_append_c97b9_84d_sh_0 (k := 22) rfl
theorem dJ5_append_c97b9_50 : decode cJ5_append_c97b9 50 = .ok (.putfield 79, 3) := dchk_at dall_J5_append_c97b9_84d_sh_0 (k := 23) rfl
theorem dJ5_append_c97b9_53 : decode cJ5_append_c97b9 53 = .ok (.aload_n 0, 1) := dchk_at dall_J5_append_c97b9_84d_sh_0 (k := 24) rfl
theorem dJ5_append_c97b9_54 : decode cJ5_append_c97b9 54 = .ok (.areturn, 1) := dchk_at dall_J5_append_c97b9_84d_sh_0 (k := 25) rfl
def dl_J5_append_cf1ce_84d_sh_0 : List (Nat × Instr × Nat) := [(0, .aload_n 1, 1), (1, .ifnonnull 8, 3), (9, .aload_n 1, 1), (10, .invokevirtual 32, 3), (13, .istore_n 2, 1), (14, .aload_n 0, 1), (15, .aload_n 0, 1), (16, .getfield 79, 3), (19, .iload_n 2, 1), (20, .iadd, 1), (21, .invokevirtual 100, 3), (24, .aload_n 0, 1), (25, .aload_n 0, 1), (26, .getfield 79, 3), (29, .aload_n 1, 1), (30, .invokevirtual 208, 3), (33, .aload_n 0, 1), (34, .dup, 1), (35, .getfield 79, 3), (38, .iload_n 2, 1), (39, .iadd, 1), (40, .putfield 79, 3), (43, .aload_n 0, 1), (44, .areturn, 1)]
set_option maxRecDepth 100000 in
theorem dall_J5_append_cf1ce_84d_sh_0 : dchk cJ5_append_cf1ce dl_J5_append_cf1ce_84d_sh_0 = true := by decide +kernel
theorem dJ5_append_cf1ce_0 : decode cJ5_append_cf1ce 0 = .ok (.aload_n 1, 1) := dchk_at dall_J5_append_cf1ce_84d_sh_0 (k := 0) rfl
theorem dJ5_append_cf1ce_1 : decode cJ5_append_cf1ce 1 = .ok (.ifnonnull 8, 3) := dchk_at dall_J5_append_cf1ce_84d_sh_0 (k := 1) rfl
theorem dJ5_append_cf1ce_9 : decode cJ5_append_cf1ce 9 = .ok (.aload_n 1, 1) := dchk_at dall_J5_append_cf1ce_84d_sh_0 (k := 2) rfl
theorem dJ5_append_cf1ce_10 : decode cJ5_append_cf1ce 10 = .ok (.invokevirtual 32, 3) := dchk_at dall_J5_append_cf1ce_84d_sh_0 (k := 3) rfl
theorem dJ5_append_cf1ce_13 : decode cJ5_append_cf1ce 13 = .ok (.istore_n 2, 1) := dchk_at dall_J5_append_cf1ce_84d_sh_0 (k := 4) rfl
theorem dJ5_append_cf1ce_14 : decode cJ5_append_cf1ce 14 = .ok (.aload_n 0, 1) := dchk_at dall_J5_append_cf1ce_84d_sh_0 (k := 5) rfl
theorem dJ5_append_cf1ce_15 : decode cJ5_append_cf1ce 15 = .ok (.aload_n 0, 1) := dchk_at dall_J5_append_cf1ce_84d_sh_0 (k := 6) rfl
theorem dJ5_append_cf1ce_16 : decode cJ5_append_cf1ce 16 = .ok (.getfield 79, 3) := dchk_at dall_J5_append_cf1ce_84d_sh_0 (k := 7) rfl
theorem dJ5_append_cf1ce_19 : decode cJ5_append_cf1ce 19 = .ok (.iload_n 2, 1) := dchk_at dall_J5_append_cf1ce_84d_sh_0 (k := 8) rfl
theorem dJ5_append_cf1ce_20 : decode cJ5_append_cf1ce 20 = .ok (.iadd, 1) := dchk_at dall_J5_append_cf1ce_84d_sh_0 (k := 9) rfl
theorem dJ5_append_cf1ce_21 : decode cJ5_append_cf1ce 21 = .ok (.invokevirtual 100, 3) := dchk_at dall_J5_append_cf1ce_84d_sh_0 (k := 10) rfl
theorem dJ5_append_cf1ce_24 : decode cJ5_append_cf1ce 24 = .ok (.aload_n 0, 1) := dchk_at dall_J5_append_cf1ce_84d_sh_0 (k := 11) rfl
theorem dJ5_append_cf1ce_25 : decode cJ5_append_cf1ce 25 = .ok (.aload_n 0, 1) := dchk_at dall_J5_append_cf1ce_84d_sh_0 (k := 12) rfl
theorem dJ5_append_cf1ce_26 : decode cJ5_append_cf1ce 26 = .ok (.getfield 79, 3) := dchk_at dall_J5_append_cf1ce_84d_sh_0 (k := 13) rfl
theorem dJ5_append_cf1ce_29 : decode cJ5_append_cf1ce 29 = .ok (.aload_n 1, 1) := dchk_at dall_J5_append_cf1ce_84d_sh_0 (k := 14) rfl
theorem dJ5_append_cf1ce_30 : decode cJ5_append_cf1ce 30 = .ok (.invokevirtual 208, 3) := dchk_at dall_J5_append_cf1ce_84d_sh_0 (k := 15) rfl
theorem dJ5_append_cf1ce_33 : decode cJ5_append_cf1ce 33 = .ok (.aload_n 0, 1) := dchk_at dall_J5_append_cf1ce_84d_sh_0 (k := 16) rfl
theorem dJ5_append_cf1ce_34 : decode cJ5_append_cf1ce 34 = .ok (.dup, 1) := dchk_at dall_J5_append_cf1ce_84d_sh_0 (k := 17) rfl
theorem dJ5_append_cf1ce_35 : decode cJ5_append_cf1ce 35 = .ok (.getfield 79, 3) := dchk_at dall_J5_append_cf1ce_84d_sh_0 (k := 18) rfl
theorem dJ5_append_cf1ce_38 : decode cJ5_append_cf1ce 38 = .ok (.iload_n 2, 1) := dchk_at dall_J5_append_cf1ce_84d_sh_0 (k := 19) rfl
theorem dJ5_append_cf1ce_39 : decode cJ5_append_cf1ce 39 = .ok (.iadd, 1) := dchk_at dall_J5_append_cf1ce_84d_sh_0 (k := 20) rfl
theorem dJ5_append_cf1ce_40 : decode cJ5_append_cf1ce 40 = .ok (.putfield 79, 3) := dchk_at dall_J5_append_cf1ce_84d_sh_0 (k := 21) rfl
theorem dJ5_append_cf1ce_43 : decode cJ5_append_cf1ce 43 = .ok (.aload_n 0, 1) := dchk_at dall_J5_append_cf1ce_84d_sh_0 (k := 22) rfl
theorem dJ5_append_cf1ce_44 : decode cJ5_append_cf1ce 44 = .ok (.areturn, 1) := dchk_at dall_J5_append_cf1ce_84d_sh_0 (k := 23) rfl
def dl_J4_append_cf468_84d_sh_0 : List (Nat × Instr × Nat) := [(0, .aload_n 0, 1), (1, .iload_n 1, 1), (2, .invokespecial 50, 3), (5, .pop, 1), (6, .aload_n 0, 1), (7, .areturn, 1)]
set_option maxRecDepth 100000 in
theorem dall_J4_append_cf468_84d_sh_0 : dchk cJ4_append_cf468 dl_J4_append_cf468_84d_sh_0 = true := by decide +kernel
theorem dJ4_append_cf468_0 : decode cJ4_append_cf468 0 = .ok (.aload_n 0, 1) := dchk_at dall_J4_append_cf468_84d_sh_0 (k := 0) rfl
theorem dJ4_append_cf468_1 : decode cJ4_append_cf468 1 = .ok (.iload_n 1, 1) := dchk_at dall_J4_append_cf468_84d_sh_0 (k := 1) rfl
theorem dJ4_append_cf468_2 : decode cJ4_append_cf468 2 = .ok (.invokespecial 50, 3) := dchk_at dall_J4_append_cf468_84d_sh_0 (k := 2) rfl
theorem dJ4_append_cf468_5 : decode cJ4_append_cf468 5 = .ok (.pop, 1) := dchk_at dall_J4_append_cf468_84d_sh_0 (k := 3) rfl
theorem dJ4_append_cf468_6 : decode cJ4_append_cf468 6 = .ok (.aload_n 0, 1) := dchk_at dall_J4_append_cf468_84d_sh_0 (k := 4) rfl
theorem dJ4_append_cf468_7 : decode cJ4_append_cf468 7 = .ok (.areturn, 1) := dchk_at dall_J4_append_cf468_84d_sh_0 (k := 5) rfl
def dl_J4_append_bf812_84d_sh_0 : List (Nat × Instr × Nat) := [(0, .aload_n 0, 1), (1, .iload_n 1, 1), (2, .invokespecial 53, 3), (5, .pop, 1), (6, .aload_n 0, 1), (7, .areturn, 1)]
set_option maxRecDepth 100000 in
theorem dall_J4_append_bf812_84d_sh_0 : dchk cJ4_append_bf812 dl_J4_append_bf812_84d_sh_0 = true := by decide +kernel
theorem dJ4_append_bf812_0 : decode cJ4_append_bf812 0 = .ok (.aload_n 0, 1) := dchk_at dall_J4_append_bf812_84d_sh_0 (k := 0) rfl
theorem dJ4_append_bf812_1 : decode cJ4_append_bf812 1 = .ok (.iload_n 1, 1) := dchk_at dall_J4_append_bf812_84d_sh_0 (k := 1) rfl
theorem dJ4_append_bf812_2 : decode cJ4_append_bf812 2 = .ok (.invokespecial 53, 3) := dchk_at dall_J4_append_bf812_84d_sh_0 (k := 2) rfl
theorem dJ4_append_bf812_5 : decode cJ4_append_bf812 5 = .ok (.pop, 1) := dchk_at dall_J4_append_bf812_84d_sh_0 (k := 3) rfl
theorem dJ4_append_bf812_6 : decode cJ4_append_bf812 6 = .ok (.aload_n 0, 1) := dchk_at dall_J4_append_bf812_84d_sh_0 (k := 4) rfl
theorem dJ4_append_bf812_7 : decode cJ4_append_bf812 7 = .ok (.areturn, 1) := dchk_at dall_J4_append_bf812_84d_sh_0 (k := 5) rfl
def dl_J4_append_15ec4_84d_sh_0 : List (Nat × Instr × Nat) := [(0, .aload_n 0, 1), (1, .aload_n 1, 1), (2, .invokespecial 29, 3), (5, .pop, 1), (6, .aload_n 0, 1), (7, .areturn, 1)]
set_option maxRecDepth 100000 in
theorem dall_J4_append_15ec4_84d_sh_0 : dchk cJ4_append_15ec4 dl_J4_append_15ec4_84d_sh_0 = true := by decide +kernel
theorem dJ4_append_15ec4_0 : decode cJ4_append_15ec4 0 = .ok (.aload_n 0, 1) := dchk_at dall_J4_append_15ec4_84d_sh_0 (k := 0) rfl
theorem dJ4_append_15ec4_1 : decode cJ4_append_15ec4 1 = .ok (.aload_n 1, 1) := dchk_at dall_J4_append_15ec4_84d_sh_0 (k := 1) rfl
theorem dJ4_append_15ec4_2 : decode cJ4_append_15ec4 2 = .ok (.invokespecial 29, 3) := dchk_at dall_J4_append_15ec4_84d_sh_0 (k := 2) rfl
theorem dJ4_append_15ec4_5 : decode cJ4_append_15ec4 5 = .ok (.pop, 1) := dchk_at dall_J4_append_15ec4_84d_sh_0 (k := 3) rfl
theorem dJ4_append_15ec4_6 : decode cJ4_append_15ec4 6 = .ok (.aload_n 0, 1) := dchk_at dall_J4_append_15ec4_84d_sh_0 (k := 4) rfl
theorem dJ4_append_15ec4_7 : decode cJ4_append_15ec4 7 = .ok (.areturn, 1) := dchk_at dall_J4_append_15ec4_84d_sh_0 (k := 5) rfl
def dl_J5_init_d00df_84d_sh_0 : List (Nat × Instr × Nat) := [(0, .aload_n 0, 1), (1, .invokespecial 3, 3), (4, .getstatic 18, 3), (7, .ifCond .eq 18, 3), (10, .aload_n 0, 1), (11, .iload_n 1, 1), (12, .newarray .byte, 2), (14, .putfield 15, 3), (17, .aload_n 0, 1), (18, .iconst 0, 1), (19, .putfield 22, 3), (22, .goto 16, 3), (38, .return_, 1)]
set_option maxRecDepth 100000 in
theorem dall_J5_init_d00df_84d_sh_0 : dchk cJ5_init_d00df dl_J5_init_d00df_84d_sh_0 = true := by decide +kernel
theorem dJ5_init_d00df_0 : decode cJ5_init_d00df 0 = .ok (.aload_n 0, 1) := dchk_at dall_J5_init_d00df_84d_sh_0 (k := 0) rfl
theorem dJ5_init_d00df_1 : decode cJ5_init_d00df 1 = .ok (.invokespecial 3, 3) := dchk_at dall_J5_init_d00df_84d_sh_0 (k := 1) rfl
theorem dJ5_init_d00df_4 : decode cJ5_init_d00df 4 = .ok (.getstatic 18, 3) := dchk_at dall_J5_init_d00df_84d_sh_0 (k := 2) rfl
theorem dJ5_init_d00df_7 : decode cJ5_init_d00df 7 = .ok (.ifCond .eq 18, 3) := dchk_at dall_J5_init_d00df_84d_sh_0 (k := 3) rfl
theorem dJ5_init_d00df_10 : decode cJ5_init_d00df 10 = .ok (.aload_n 0, 1) := dchk_at dall_J5_init_d00df_84d_sh_0 (k := 4) rfl
theorem dJ5_init_d00df_11 : decode cJ5_init_d00df 11 = .ok (.iload_n 1, 1) := dchk_at dall_J5_init_d00df_84d_sh_0 (k := 5) rfl
theorem dJ5_init_d00df_12 : decode cJ5_init_d00df 12 = .ok (.newarray .byte, 2) := dchk_at dall_J5_init_d00df_84d_sh_0 (k := 6) rfl
theorem dJ5_init_d00df_14 : decode cJ5_init_d00df 14 = .ok (.putfield 15, 3) := dchk_at dall_J5_init_d00df_84d_sh_0 (k := 7) rfl
theorem dJ5_init_d00df_17 : decode cJ5_init_d00df 17 = .ok (.aload_n 0, 1) := dchk_at dall_J5_init_d00df_84d_sh_0 (k := 8) rfl
theorem dJ5_init_d00df_18 : decode cJ5_init_d00df 18 = .ok (.iconst 0, 1) := dchk_at dall_J5_init_d00df_84d_sh_0 (k := 9) rfl
theorem dJ5_init_d00df_19 : decode cJ5_init_d00df 19 = .ok (.putfield 22, 3) := dchk_at dall_J5_init_d00df_84d_sh_0 (k := 10) rfl
theorem dJ5_init_d00df_22 : decode cJ5_init_d00df 22 = .ok (.goto 16, 3) := dchk_at dall_J5_init_d00df_84d_sh_0 (k := 11) rfl
theorem dJ5_init_d00df_38 : decode cJ5_init_d00df 38 = .ok (.return_, 1) := dchk_at dall_J5_init_d00df_84d_sh_0 (k := 12) rfl
def dl_J4_init_da8c8_84d_sh_0 : List (Nat × Instr × Nat) := [(0, .aload_n 0, 1), (1, .bipush 16, 2), (3, .invokespecial 1, 3), (6, .return_, 1)]
set_option maxRecDepth 100000 in
theorem dall_J4_init_da8c8_84d_sh_0 : dchk cJ4_init_da8c8 dl_J4_init_da8c8_84d_sh_0 = true := by decide +kernel
theorem dJ4_init_da8c8_0 : decode cJ4_init_da8c8 0 = .ok (.aload_n 0, 1) := dchk_at dall_J4_init_da8c8_84d_sh_0 (k := 0) rfl
theorem dJ4_init_da8c8_1 : decode cJ4_init_da8c8 1 = .ok (.bipush 16, 2) := dchk_at dall_J4_init_da8c8_84d_sh_0 (k := 1) rfl
theorem dJ4_init_da8c8_3 : decode cJ4_init_da8c8 3 = .ok (.invokespecial 1, 3) := dchk_at dall_J4_init_da8c8_84d_sh_0 (k := 2) rfl
theorem dJ4_init_da8c8_6 : decode cJ4_init_da8c8 6 = .ok (.return_, 1) := dchk_at dall_J4_init_da8c8_84d_sh_0 (k := 3) rfl
def F_J4_length_8abf5 (c_count : Int32) : Option (Int32) :=
  bd1 (F_J5_length_8abf5 c_count) (fun r_1 => some r_1)
abbrev w_J4_length_8abf5 (E : EE) (a_ a_value : Nat) (c_coder : Int32) (c_maybeLatin1 : Int32) (c_count : Int32) : va_W := [(a_, .inr (0, [.ref a_value, .int c_coder, .int c_maybeLatin1, .int c_count]))]
def v_f_J4_length_8abf5 : List Cond := .code yJ4_length_8abf5 cJ4_length_8abf5 1 (some .int) :: ([.methodLink RJ4 343 yJ5_length_8abf5, .sameMethod RJ5 RJ5 "length" "()I", .superclass RJ4 RJ5, .instanceMethod yJ5_length_8abf5, .initialized RJ5] ++ (v_f_J5_length_8abf5 ++ ([])))
theorem gw_f_J4_length_8abf5 : v_f_J4_length_8abf5.all goodWord = true := by decide +kernel
theorem g_f_J4_length_8abf5_f_J5_length_8abf5_343 : GoodIn v_f_J4_length_8abf5 (va_wsSU RJ4 343 yJ5_length_8abf5 v_f_J5_length_8abf5) := goodIn_app (goodIn_of _ (by decide +kernel)) (goodIn_sub (fun _ h => List.mem_cons_of_mem _ (List.mem_append_right _ (List.mem_append_left _ h))) gw_f_J5_length_8abf5)
theorem hd_J4_length_8abf5 : yJ4_length_8abf5.cls = RJ4 ∧ yJ4_length_8abf5.cls ≠ "java/lang/invoke/MethodHandle" ∧ yJ4_length_8abf5.cls ≠ "java/lang/invoke/VarHandle" ∧ (parseMethodDescriptor yJ4_length_8abf5.desc).map (fun d => d.parameters.length) = some 0 := by decide +kernel
set_option maxHeartbeats 4000000 in
set_option maxRecDepth 100000 in
theorem f_J4_length_8abf5 (l : Launch) (E : EE) {a_ a_value : Nat} {c_coder : Int32} {c_maybeLatin1 : Int32} {c_count : Int32} {rr : Int32} (hF : F_J4_length_8abf5 c_count = some rr) : Met l yJ4_length_8abf5 v_f_J4_length_8abf5 (({ frames := 1, cells := 0, slots := 0, locals := 20 } : Room)) (va_Pc [.ref a_] (pP E (w_J4_length_8abf5 E a_ a_value c_coder c_maybeLatin1 c_count))) (vp_Si (fun q : Int32 => q = rr)) 0 0 (fun _ => False) := by
  refine Met.ofWF (cc := cJ4_length_8abf5) (maxL := 1) (ret := (some .int)) (by decide +kernel) rfl ?_
  intro p e s m args below meth c s₁ B hml hv
  obtain ⟨rfl, ⟨hK, hN⟩, hP⟩ := hv
  have hx := B.exec
  have hb := B.bytes
  have hr := B.returns
  have hts := atoms_spec (ws := v_f_J4_length_8abf5) B.pre
  have hown : s.vm.findClass RJ4 = some m.cls := own_of hd_J4_length_8abf5.1 (findClass_of_methodNamed B.named)
  have hlocks : meth.locks = false := B.notSynchronized
  replace hP : va_P E.1 vwCl [(a_, .inr (0, [.ref a_value, .int c_coder, .int c_maybeLatin1, .int c_count]))] s.heap := hP
  have hl := lv_entry ([.ref a_]) (n := 1) (Nat.le_of_ble_eq_true rfl)
  rw [lg_entry_eq]
  generalize (lg_sl ([.ref a_]) ++ List.replicate (1 - (lg_sl ([.ref a_])).length) Slot.unset).toArray = ls at hl ⊢
  have hl : lv_has ls 1 [(0, .ref a_)] := hl
  obtain ⟨Q, hQ⟩ : ∃ Q : State → Prop, Q = MQ below (vp_Si (fun q : Int32 => q = rr)) #[Value.ref a_] s 0 0 (fun _ => False) := ⟨_, rfl⟩
  rw [← hQ]
  change W p l e ({ frames := 1, cells := 0, slots := 0, locals := 20 } : Room) s m #[Value.ref a_] below meth c s.heap [] 0 0 Q (F0 m 0 ls [])
  unfold F_J4_length_8abf5 at hF
  refine lv_aload_n hx hb dJ4_length_8abf5_0 rfl (lv_at hl 0 rfl) ?_
  replace hF := bd1_s hF
  obtain ⟨r_1, hc_2, hF⟩ := hF
  have hPc : va_P E.1 vwCl (w_J5_length_8abf5 E a_ a_value c_coder c_maybeLatin1 c_count) s.heap := hP.sub (ws' := [(a_, .inr (0, [.ref a_value, .int c_coder, .int c_maybeLatin1, .int c_count]))]) [0] rfl
  have hrc := va_recv hK hPc (ci := 0) (q0 := 0) rfl rfl
  refine pE_i (va_runSU (As := []) (rest := []) (hK.1 0 (RJ4, TJ4, 4) rfl).2 ⟨hx, hb, hml, hown, hts⟩ (f_J5_length_8abf5 l E (a_ := a_) (a_value := a_value) (c_coder := c_coder) (c_maybeLatin1 := c_maybeLatin1) (c_count := c_count) hc_2) (va_cwSU 0 hts g_f_J4_length_8abf5_f_J5_length_8abf5_343 rfl rfl rfl (by decide +kernel) ⟨Nat.le_of_ble_eq_true rfl, Nat.le_of_ble_eq_true rfl⟩) ⟨pP.blind, hrc, (pP.pre ⟨hK, hN⟩ hPc)⟩ rfl rfl hl.1 rfl (lv_room (Nat.le_of_ble_eq_true rfl)) dJ4_length_8abf5_1 ⟨Nat.le_of_ble_eq_true rfl, Nat.le_of_ble_eq_true rfl⟩) ?_
  rw [hQ]
  obtain e9_0 := inj1 hF
  exact W.iret (v := r_1) hx hb hr (fun tt ht hW => ⟨_, rfl, e9_0, ht⟩) (fun _ h => by cases h) dJ4_length_8abf5_4

def F_J4_charAt_5068e (p1 : Int32) (c_value : Nat → Int32) (c_coder : Int32) (c_count : Int32) (m9 : Nat) : Option (Int32) :=
  bd1 (F_J5_charAt_5068e p1 c_value c_coder c_count m9) (fun r_1 => some r_1)
abbrev w_J4_charAt_5068e (E : EE) (a_ a_value : Nat) (c_coder : Int32) (c_maybeLatin1 : Int32) (c_count : Int32) (c_value : Nat → Int32) (m9 : Nat) : va_W := [(a_, .inr (0, [.ref a_value, .int c_coder, .int c_maybeLatin1, .int c_count])), (a_value, .inl (E.2.2.1, m9, .inl c_value))]
def v_f_J4_charAt_5068e : List Cond := .code yJ4_charAt_5068e cJ4_charAt_5068e 2 (some .char) :: ([.methodLink RJ4 329 yJ5_charAt_5068e, .sameMethod RJ5 RJ5 "charAt" "(I)C", .superclass RJ4 RJ5, .instanceMethod yJ5_charAt_5068e, .initialized RJ5] ++ (v_f_J5_charAt_5068e ++ ([])))
theorem gw_f_J4_charAt_5068e : v_f_J4_charAt_5068e.all goodWord = true := by decide +kernel
theorem g_f_J4_charAt_5068e_f_J5_charAt_5068e_329 : GoodIn v_f_J4_charAt_5068e (va_wsSU RJ4 329 yJ5_charAt_5068e v_f_J5_charAt_5068e) := goodIn_app (goodIn_of _ (by decide +kernel)) (goodIn_sub (fun _ h => List.mem_cons_of_mem _ (List.mem_append_right _ (List.mem_append_left _ h))) gw_f_J5_charAt_5068e)
theorem hd_J4_charAt_5068e : yJ4_charAt_5068e.cls = RJ4 ∧ yJ4_charAt_5068e.cls ≠ "java/lang/invoke/MethodHandle" ∧ yJ4_charAt_5068e.cls ≠ "java/lang/invoke/VarHandle" ∧ (parseMethodDescriptor yJ4_charAt_5068e.desc).map (fun d => d.parameters.length) = some 1 := by decide +kernel
set_option maxHeartbeats 4000000 in
set_option maxRecDepth 100000 in
theorem f_J4_charAt_5068e (l : Launch) (E : EE) (z9 : Nat → Nat) {a_ a_value : Nat} {p1 : Int32} {c_coder : Int32} {c_maybeLatin1 : Int32} {c_count : Int32} {c_value : Nat → Int32} {m9 : Nat} {rr : Int32} (hF : F_J4_charAt_5068e p1 c_value c_coder c_count m9 = some rr) : Met l yJ4_charAt_5068e v_f_J4_charAt_5068e (({ frames := 3, cells := 0, slots := 0, locals := 67 } : Room)) (va_Pc [.ref a_, .int p1] (qPZ E z9 (w_J4_charAt_5068e E a_ a_value c_coder c_maybeLatin1 c_count c_value m9))) (vp_Si (fun q : Int32 => q = rr ∧ narrow .char (.int q) = .int q)) 0 0 (fun _ => False) := by
  refine Met.ofWF (cc := cJ4_charAt_5068e) (maxL := 2) (ret := (some .char)) (by decide +kernel) rfl ?_
  intro p e s m args below meth c s₁ B hml hv
  obtain ⟨rfl, ⟨hK, hN⟩, hP, hZ⟩ := hv
  have hx := B.exec
  have hb := B.bytes
  have hr := B.returns
  have hts := atoms_spec (ws := v_f_J4_charAt_5068e) B.pre
  have hown : s.vm.findClass RJ4 = some m.cls := own_of hd_J4_charAt_5068e.1 (findClass_of_methodNamed B.named)
  have hlocks : meth.locks = false := B.notSynchronized
  replace hP : va_P E.1 vwCl [(a_, .inr (0, [.ref a_value, .int c_coder, .int c_maybeLatin1, .int c_count])), (a_value, .inl (E.2.2.1, m9, .inl c_value))] s.heap := hP
  have hl := lv_entry ([.ref a_, .int p1]) (n := 2) (Nat.le_of_ble_eq_true rfl)
  rw [lg_entry_eq]
  generalize (lg_sl ([.ref a_, .int p1]) ++ List.replicate (2 - (lg_sl ([.ref a_, .int p1])).length) Slot.unset).toArray = ls at hl ⊢
  have hl : lv_has ls 2 [(0, .ref a_), (1, .int p1)] := hl
  obtain ⟨Q, hQ⟩ : ∃ Q : State → Prop, Q = MQ below (vp_Si (fun q : Int32 => q = rr ∧ narrow .char (.int q) = .int q)) #[Value.ref a_, Value.int p1] s 0 0 (fun _ => False) := ⟨_, rfl⟩
  rw [← hQ]
  change W p l e ({ frames := 3, cells := 0, slots := 0, locals := 67 } : Room) s m #[Value.ref a_, Value.int p1] below meth c s.heap [] 0 0 Q (F0 m 0 ls [])
  unfold F_J4_charAt_5068e at hF
  refine lv_aload_n hx hb dJ4_charAt_5068e_0 rfl (lv_at hl 0 rfl) ?_
  refine lv_iload_n hx hb dJ4_charAt_5068e_1 rfl (lv_at hl 1 rfl) ?_
  replace hF := bd1_s hF
  obtain ⟨r_1, hc_2, hF⟩ := hF
  have hPc : va_P E.1 vwCl (w_J5_charAt_5068e E a_ a_value c_coder c_maybeLatin1 c_count c_value m9) s.heap := hP.sub (ws' := [(a_, .inr (0, [.ref a_value, .int c_coder, .int c_maybeLatin1, .int c_count])), (a_value, .inl (E.2.2.1, m9, .inl c_value))]) [0, 1] rfl
  have hrc := va_recv hK hPc (ci := 0) (q0 := 0) rfl rfl
  refine pE_c (va_runSU (As := [.int p1]) (rest := []) (hK.1 0 (RJ4, TJ4, 4) rfl).2 ⟨hx, hb, hml, hown, hts⟩ (f_J5_charAt_5068e l E z9 (a_ := a_) (a_value := a_value) (p1 := p1) (c_coder := c_coder) (c_maybeLatin1 := c_maybeLatin1) (c_count := c_count) (c_value := c_value) (m9 := m9) hc_2) (va_cwSU 1 hts g_f_J4_charAt_5068e_f_J5_charAt_5068e_329 rfl rfl rfl (by decide +kernel) ⟨Nat.le_of_ble_eq_true rfl, Nat.le_of_ble_eq_true rfl⟩) ⟨qPZ.blind, hrc, (qPZ.pre0 ⟨hK, hN⟩ hPc hZ)⟩ rfl rfl hl.1 rfl (lv_room (Nat.le_of_ble_eq_true rfl)) dJ4_charAt_5068e_2 ⟨Nat.le_of_ble_eq_true rfl, Nat.le_of_ble_eq_true rfl⟩) (fun hb_3 => ?_)
  rw [hQ]
  obtain e9_0 := inj1 hF
  exact W.zret (v := r_1) hx hb hr hb_3 (fun tt ht hW => ⟨_, rfl, ⟨e9_0, hb_3⟩, ht⟩) (fun _ h => by cases h) dJ4_charAt_5068e_5
abbrev wSB (E : EE) (av vv mz : Nat) (ml nn : Int32) (fc : Nat → Int32) : va_W := [(av, .inr (0, [.ref vv, .int 0, .int ml, .int nn])), (vv, .inl (E.2.2.1, mz, .inl fc))]
def OKm (mz : Nat) : Prop := mz = 16 ∨ mz = 34
theorem OKm.le {mz : Nat} (h : OKm mz) : mz ≤ 34 := by unfold OKm at h; omega
theorem sub_le0 {k m : Nat} (hk : k ≤ 34) (hm : m ≤ 34) : (nI k - nI m ≤ 0) ↔ k ≤ m := by
  rw [Int32.le_iff_toInt_le, pk_sub_toInt (by omega) (by omega), Int32.toInt_zero]
  omega

def v_h_copy : List Cond := .code yJ7_copyOf_9075b cJ7_copyOf_9075b 3 (some (.array .byte)) :: ([.arrayClass .byte, .methodLink RJ7 304 Lib.Math.min.name, .static Lib.Math.min.name, .initialized "java/lang/Math", .code Lib.Math.min.name Lib.Math.min.code 2 (some .int), .methodLink RJ7 150 arraycopyName, .native arraycopyName, .static arraycopyName, .initialized "java/lang/System"] ++ ([]))
theorem gw_h_copy : v_h_copy.all goodWord = true := by decide +kernel
set_option maxHeartbeats 4000000 in
set_option maxRecDepth 100000 in
theorem h_copy (l : Launch) (E : EE) (sz : Nat) {vv : Nat} {fc : Nat → Int32} (hf : sb_Fit fc) : Met l yJ7_copyOf_9075b v_h_copy (({ frames := 1, cells := 1, slots := 34, locals := 60 } : Room)) (va_Pc [.ref vv, .int (34 : Int32)] (pW E sz [(vv, .inl (E.2.2.1, 16, .inl fc))])) (va_Qr (fun (_u : Unit) => True) (fun (_u : Unit) (ra : Nat) tt => va_P E.1 vwCl [(vv, .inl (E.2.2.1, 16, .inl fc)), (ra, .inl (E.2.2.1, 34, .inl (va_cpy fc (fun _ => 0) 0 0 16)))] tt.heap ∧ va_D (va_A [(vv, .inl (E.2.2.1, 16, .inl fc))] sz) [(vv, .inl (E.2.2.1, 16, .inl fc)), (ra, .inl (E.2.2.1, 34, .inl (va_cpy fc (fun _ => 0) 0 0 16)))]) (va_A [(vv, .inl (E.2.2.1, 16, .inl fc))] sz)) 1 34 (va_A [(vv, .inl (E.2.2.1, 16, .inl fc))] sz) := by
  refine Met.ofWF (cc := cJ7_copyOf_9075b) (maxL := 3) (ret := (some (.array .byte))) (by decide +kernel) rfl ?_
  intro p e s m args below meth c s₁ B hml hv
  obtain ⟨rfl, hsz, ⟨hK, hN⟩, hP, hD0⟩ := hv
  have hx := B.exec
  have hb := B.bytes
  have hr := B.returns
  have hts := atoms_spec (ws := v_h_copy) B.pre
  have hown : s.vm.findClass RJ7 = some m.cls := own_of (by decide +kernel) (findClass_of_methodNamed B.named)
  have hlocks : meth.locks = false := B.notSynchronized
  subst hsz
  have hD := hD0.self (sz := s.heap.size)
  generalize hAe : va_A [(vv, .inl (E.2.2.1, 16, .inl fc))] s.heap.size = A at hD ⊢
  have hA : ∀ q : Nat, s.heap.size ≤ q → A q := fun q h => by rw [← hAe]; exact Or.inr h
  have hS : va_S A s.heap s.heap [] := va_S.rf
  have hl := lv_entry ([.ref vv, .int (34 : Int32)]) (n := 3) (Nat.le_of_ble_eq_true rfl)
  rw [lg_entry_eq]
  generalize (lg_sl ([.ref vv, .int (34 : Int32)]) ++ List.replicate (3 - (lg_sl ([.ref vv, .int (34 : Int32)])).length) Slot.unset).toArray = ls at hl ⊢
  have hl : lv_has ls 3 [(0, .ref vv), (1, .int (34 : Int32))] := hl
  obtain ⟨Q, hQ⟩ : ∃ Q : State → Prop, Q = MQ below (va_Qr (fun (_u : Unit) => True) (fun (_u : Unit) (ra : Nat) tt => va_P E.1 vwCl [(vv, .inl (E.2.2.1, 16, .inl fc)), (ra, .inl (E.2.2.1, 34, .inl (va_cpy fc (fun _ => 0) 0 0 16)))] tt.heap ∧ va_D A [(vv, .inl (E.2.2.1, 16, .inl fc)), (ra, .inl (E.2.2.1, 34, .inl (va_cpy fc (fun _ => 0) 0 0 16)))]) A) #[Value.ref vv, Value.int (34 : Int32)] s 1 34 A := ⟨_, rfl⟩
  rw [← hQ]
  change W p l e ({ frames := 1, cells := 1, slots := 34, locals := 60 } : Room) s m #[Value.ref vv, Value.int (34 : Int32)] below meth c s.heap [] 0 0 Q (F0 m 0 ls [])
  suffices hh9 : ∀ (H : Heap) (locs : List Loc), va_P E.1 vwCl [(vv, .inl (E.2.2.1, 16, .inl fc))] H → va_D A [(vv, .inl (E.2.2.1, 16, .inl fc))] → va_S A s.heap H locs → W p l e ({ frames := 1, cells := 1, slots := 34, locals := 60 } : Room) s m #[Value.ref vv, Value.int (34 : Int32)] below meth c H locs 0 0 Q (F0 m 0 ls []) from hh9 s.heap [] hP hD hS
  clear hP hD hS
  intro H locs hP hD hS
  replace hP : va_P E.1 vwCl [(vv, .inl (E.2.2.1, 16, .inl fc))] H := hP
  replace hD : va_D A [(vv, .inl (E.2.2.1, 16, .inl fc))] := hD
  refine lv_iload_n hx hb dJ7_copyOf_9075b_0 rfl (lv_at hl 1 rfl) ?_
  refine lv_aload_n hx hb dJ7_copyOf_9075b_1 rfl (lv_at hl 0 rfl) ?_
  refine va_alen (v := 16) hx hb hK hP 0 1 rfl rfl rfl dJ7_copyOf_9075b_2 ?_
  refine lv_icmp_ne (tgt := 14) hx hb dJ7_copyOf_9075b_3 (by decide) (fun _ => ?_) (fun q => absurd q (by decide))
  refine lv_iload_n hx hb dJ7_copyOf_9075b_14 rfl (lv_at hl 1 rfl) ?_
  refine nw_arr (atype := .byte) (ty := .byte) (a0 := (34, .inl (fun _ => 0))) hx hb (hts (.arrayClass .byte) (List.mem_of_getElem? (i := 1) rfl)) rfl hK hP hD hS hA 1 rfl (fun _ _ a b => Option.some.inj (a.symm.trans b)) (fun _ => rfl) (by decide) rfl (Nat.le_of_ble_eq_true rfl) (Nat.le_of_ble_eq_true rfl) (Nat.le_of_ble_eq_true rfl) dJ7_copyOf_9075b_15 (fun q_1 H hP hD hS => ?_)
  replace hP : va_P E.1 vwCl [(vv, .inl (E.2.2.1, 16, .inl fc)), (q_1, .inl (E.2.2.1, 34, .inl (fun _ => 0)))] H := hP
  replace hD : va_D A [(vv, .inl (E.2.2.1, 16, .inl fc)), (q_1, .inl (E.2.2.1, 34, .inl (fun _ => 0)))] := hD
  refine W.widen (k := 1) (n := 34) (Nat.le_of_ble_eq_true rfl) (Nat.le_of_ble_eq_true rfl) ?_
  refine lv_astore_n (lv' := [(2, .ref q_1), (0, .ref vv), (1, .int (34 : Int32))]) hx hb dJ7_copyOf_9075b_17 rfl hl (by decide) rfl (fun ls hl => ?_)
  refine lv_aload_n hx hb dJ7_copyOf_9075b_18 rfl (lv_at hl 1 rfl) ?_
  refine lv_iconst (v := 0) hx hb dJ7_copyOf_9075b_19 (by decide) ?_
  refine lv_aload_n hx hb dJ7_copyOf_9075b_20 rfl (lv_at hl 0 rfl) ?_
  refine lv_iconst (v := 0) hx hb dJ7_copyOf_9075b_21 (by decide) ?_
  refine lv_aload_n hx hb dJ7_copyOf_9075b_22 rfl (lv_at hl 1 rfl) ?_
  refine va_alen (v := 16) hx hb hK hP 0 1 rfl rfl rfl dJ7_copyOf_9075b_23 ?_
  refine lv_iload_n hx hb dJ7_copyOf_9075b_24 rfl (lv_at hl 2 rfl) ?_
  refine va_mmin hx hb (hml.trans hl.1.symm) hown (hts (.methodLink RJ7 304 Lib.Math.min.name) (List.mem_of_getElem? (i := 2) rfl)) (hts (.static Lib.Math.min.name) (List.mem_of_getElem? (i := 3) rfl)) (hts (.initialized "java/lang/Math") (List.mem_of_getElem? (i := 4) rfl)) (hts (.code Lib.Math.min.name Lib.Math.min.code 2 (some .int)) (List.mem_of_getElem? (i := 5) rfl)) (Nat.le_of_ble_eq_true rfl) (Nat.le_of_ble_eq_true rfl) (Nat.le_of_ble_eq_true rfl) (Nat.le_of_ble_eq_true rfl) dJ7_copyOf_9075b_25 ?_
  refine lv_topi (fun z_2 ez_2 => ?_)
  obtain rfl : z_2 = 16 := ez_2.trans (by decide)
  refine va_copyi hx hb (hml.trans hl.1.symm) hown (hts (.methodLink RJ7 150 arraycopyName) (List.mem_of_getElem? (i := 6) rfl)) (hts (.native arraycopyName) (List.mem_of_getElem? (i := 7) rfl)) (hts (.static arraycopyName) (List.mem_of_getElem? (i := 8) rfl)) (hts (.initialized "java/lang/System") (List.mem_of_getElem? (i := 9) rfl)) hK hP hD hS 0 1 1 1 rfl rfl rfl rfl rfl (by decide) (by decide) (by decide) (by decide) (by decide) (fun _ _ => hf _) (Nat.le_of_ble_eq_true rfl) (Nat.le_of_ble_eq_true rfl) dJ7_copyOf_9075b_28 (fun H locs hP hD hS => ?_)
  replace hP : va_P E.1 vwCl [(vv, .inl (E.2.2.1, 16, .inl fc)), (q_1, .inl (E.2.2.1, 34, .inl (va_cpy fc (fun _ => 0) 0 0 16)))] H := hP
  replace hD : va_D A [(vv, .inl (E.2.2.1, 16, .inl fc)), (q_1, .inl (E.2.2.1, 34, .inl (va_cpy fc (fun _ => 0) 0 0 16)))] := hD
  refine lv_aload_n hx hb dJ7_copyOf_9075b_31 rfl (lv_at hl 0 rfl) ?_
  have hP9 := hP.sub (ws' := [(vv, .inl (E.2.2.1, 16, .inl fc)), (q_1, .inl (E.2.2.1, 34, .inl (va_cpy fc (fun _ => 0) 0 0 16)))]) [0, 1] rfl
  have hD9 := hD.sub (ws' := [(vv, .inl (E.2.2.1, 16, .inl fc)), (q_1, .inl (E.2.2.1, 34, .inl (va_cpy fc (fun _ => 0) 0 0 16)))]) [0, 1] (by decide) rfl
  rw [hQ]
  exact W.aret (v := .ref q_1) hx hb hr (Or.inr ⟨_, rfl⟩) (Or.inr ⟨_, rfl⟩) (fun tt ht hW => ⟨⟨(), q_1, rfl, trivial, by rw [ht]; exact hP9, hD9⟩, hS.F ht⟩) hS.2.2 dJ7_copyOf_9075b_32

def v_h_ens : List Cond := .code yJ5_ensureCapacityInternal_d00df cJ5_ensureCapacityInternal_d00df 3 none :: ([.fieldLink RJ5 15 "java/lang/AbstractStringBuilder" "value" "[B", .fieldLink RJ5 22 "java/lang/AbstractStringBuilder" "coder" "B", .methodLink RJ5 104 yJ5_newCapacity_0f7a4, .instanceMethod yJ5_newCapacity_0f7a4, .selects RJ4 yJ5_newCapacity_0f7a4 yJ5_newCapacity_0f7a4, .initialized RJ5, .methodLink RJ5 108 yJ7_copyOf_9075b, .static yJ7_copyOf_9075b, .initialized RJ7] ++ (wsJ40 ++ (v_f_J5_newCapacity_0f7a4 ++ (v_h_copy ++ ([])))))
theorem gw_h_ens : v_h_ens.all goodWord = true := by decide +kernel
theorem i_h_ens_J4 : ∀ w ∈ wsJ40, w ∈ v_h_ens := fun _ h => List.mem_cons_of_mem _ (List.mem_append_right _ (List.mem_append_left _ h))
theorem g_h_ens_f_J5_newCapacity_0f7a4_104 : GoodIn v_h_ens (wsC RJ5 104 RJ4 yJ5_newCapacity_0f7a4 v_f_J5_newCapacity_0f7a4) := goodIn_app (goodIn_of _ (by decide +kernel)) (goodIn_sub (fun _ h => List.mem_cons_of_mem _ (List.mem_append_right _ (List.mem_append_right _ (List.mem_append_left _ h)))) gw_f_J5_newCapacity_0f7a4)
theorem g_h_ens_h_copy_108 : GoodIn v_h_ens (va_wsS RJ5 108 yJ7_copyOf_9075b v_h_copy) := goodIn_app (goodIn_of _ (by decide +kernel)) (goodIn_sub (fun _ h => List.mem_cons_of_mem _ (List.mem_append_right _ (List.mem_append_right _ (List.mem_append_right _ (List.mem_append_left _ h))))) gw_h_copy)
set_option maxHeartbeats 4000000 in
set_option maxRecDepth 100000 in
theorem h_ens (l : Launch) (E : EE) (sz : Nat) {av vv mz kk : Nat} {ml nn : Int32} {fc : Nat → Int32} (hm : OKm mz) (hk : kk ≤ 34) (hf : sb_Fit fc) : Met l yJ5_ensureCapacityInternal_d00df v_h_ens (({ frames := 3, cells := 1, slots := 34, locals := 82 } : Room)) (va_Pc [.ref av, .int (nI kk)] (pW E sz (wSB E av vv mz ml nn fc))) (va_Qv (fun (u : Nat × Nat × (Nat → Int32)) => OKm u.2.1 ∧ kk ≤ u.2.1 ∧ mz ≤ u.2.1 ∧ sb_Fit u.2.2) (fun (u : Nat × Nat × (Nat → Int32)) tt => va_P E.1 vwCl (wSB E av u.1 u.2.1 ml nn u.2.2) tt.heap ∧ va_D (va_A (wSB E av vv mz ml nn fc) sz) (wSB E av u.1 u.2.1 ml nn u.2.2)) (va_A (wSB E av vv mz ml nn fc) sz)) 1 34 (va_A (wSB E av vv mz ml nn fc) sz) := by
  refine Met.ofWF (cc := cJ5_ensureCapacityInternal_d00df) (maxL := 3) (ret := none) (by decide +kernel) rfl ?_
  intro p e s m args below meth c s₁ B hml hv
  obtain ⟨rfl, hsz, ⟨hK, hN⟩, hP, hD0⟩ := hv
  have hx := B.exec
  have hb := B.bytes
  have hr := B.returns
  have hts := atoms_spec (ws := v_h_ens) B.pre
  have hown : s.vm.findClass RJ5 = some m.cls := own_of (by decide +kernel) (findClass_of_methodNamed B.named)
  have hlocks : meth.locks = false := B.notSynchronized
  subst hsz
  have hD := hD0.self (sz := s.heap.size)
  generalize hAe : va_A (wSB E av vv mz ml nn fc) s.heap.size = A at hD ⊢
  have hA : ∀ q : Nat, s.heap.size ≤ q → A q := fun q h => by rw [← hAe]; exact Or.inr h
  have hS : va_S A s.heap s.heap [] := va_S.rf
  have hl := lv_entry ([.ref av, .int (nI kk)]) (n := 3) (Nat.le_of_ble_eq_true rfl)
  rw [lg_entry_eq]
  generalize (lg_sl ([.ref av, .int (nI kk)]) ++ List.replicate (3 - (lg_sl ([.ref av, .int (nI kk)])).length) Slot.unset).toArray = ls at hl ⊢
  have hl : lv_has ls 3 [(0, .ref av), (1, .int (nI kk))] := hl
  obtain ⟨Q, hQ⟩ : ∃ Q : State → Prop, Q = MQ below (va_Qv (fun (u : Nat × Nat × (Nat → Int32)) => OKm u.2.1 ∧ kk ≤ u.2.1 ∧ mz ≤ u.2.1 ∧ sb_Fit u.2.2) (fun (u : Nat × Nat × (Nat → Int32)) tt => va_P E.1 vwCl (wSB E av u.1 u.2.1 ml nn u.2.2) tt.heap ∧ va_D A (wSB E av u.1 u.2.1 ml nn u.2.2)) A) #[Value.ref av, Value.int (nI kk)] s 1 34 A := ⟨_, rfl⟩
  rw [← hQ]
  change W p l e ({ frames := 3, cells := 1, slots := 34, locals := 82 } : Room) s m #[Value.ref av, Value.int (nI kk)] below meth c s.heap [] 0 0 Q (F0 m 0 ls [])
  suffices hh9 : ∀ (H : Heap) (locs : List Loc), va_P E.1 vwCl (wSB E av vv mz ml nn fc) H → va_D A (wSB E av vv mz ml nn fc) → va_S A s.heap H locs → W p l e ({ frames := 3, cells := 1, slots := 34, locals := 82 } : Room) s m #[Value.ref av, Value.int (nI kk)] below meth c H locs 0 0 Q (F0 m 0 ls []) from hh9 s.heap [] hP hD hS
  clear hP hD hS
  intro H locs hP hD hS
  replace hP : va_P E.1 vwCl [(av, .inr (0, [.ref vv, .int (0 : Int32), .int ml, .int nn])), (vv, .inl (E.2.2.1, mz, .inl fc))] H := hP
  replace hD : va_D A [(av, .inr (0, [.ref vv, .int (0 : Int32), .int ml, .int nn])), (vv, .inl (E.2.2.1, mz, .inl fc))] := hD
  refine lv_aload_n hx hb dJ5_ensureCapacityInternal_d00df_0 rfl (lv_at hl 0 rfl) ?_
  refine va_get (D := E.1) (ci := 0) (v := .ref vv) (C := RJ4) (T := TJ4) (N := 4) hx hb hts i_h_ens_J4 hown hK hP 0 rfl rfl 0 (by decide) (hts (.fieldLink RJ5 15 "java/lang/AbstractStringBuilder" "value" "[B") (List.mem_of_getElem? (i := 1) rfl)) (fun _ h9 => h9) rfl dJ5_ensureCapacityInternal_d00df_1 ?_
  refine va_alen (v := (Int32.ofNat mz)) hx hb hK hP 1 1 rfl rfl rfl dJ5_ensureCapacityInternal_d00df_4 ?_
  refine lv_aload_n hx hb dJ5_ensureCapacityInternal_d00df_5 rfl (lv_at hl 0 rfl) ?_
  refine va_get (D := E.1) (ci := 0) (v := .int (0 : Int32)) (C := RJ4) (T := TJ4) (N := 4) hx hb hts i_h_ens_J4 hown hK hP 0 rfl rfl 1 (by decide) (hts (.fieldLink RJ5 22 "java/lang/AbstractStringBuilder" "coder" "B") (List.mem_of_getElem? (i := 2) rfl)) (fun _ h9 => h9) rfl dJ5_ensureCapacityInternal_d00df_6 ?_
  refine lv_ishr hx hb dJ5_ensureCapacityInternal_d00df_9 ?_
  refine lv_topi (fun z_1 ez_1 => ?_)
  obtain rfl : z_1 = nI mz := ez_1.trans (sb_shr0 _)
  refine lv_istore_n (lv' := [(2, .int (nI mz)), (0, .ref av), (1, .int (nI kk))]) hx hb dJ5_ensureCapacityInternal_d00df_10 rfl hl (by decide) rfl (fun ls hl => ?_)
  refine lv_iload_n hx hb dJ5_ensureCapacityInternal_d00df_11 rfl (lv_at hl 2 rfl) ?_
  refine lv_iload_n hx hb dJ5_ensureCapacityInternal_d00df_12 rfl (lv_at hl 0 rfl) ?_
  refine lv_isub hx hb dJ5_ensureCapacityInternal_d00df_13 ?_
  refine lv_if_le (tgt := 38) hx hb dJ5_ensureCapacityInternal_d00df_14 (by decide) (fun q => ?_) (fun q => ?_)
  ·
    have q1 : kk ≤ mz := (sub_le0 hk hm.le).mp q
    refine W.widen (k := 1) (n := 34) (Nat.le_of_ble_eq_true rfl) (Nat.le_of_ble_eq_true rfl) ?_
    have hP9 := hP.sub (ws' := [(av, .inr (0, [.ref vv, .int (0 : Int32), .int ml, .int nn])), (vv, .inl (E.2.2.1, mz, .inl fc))]) [0, 1] rfl
    have hD9 := hD.sub (ws' := [(av, .inr (0, [.ref vv, .int (0 : Int32), .int ml, .int nn])), (vv, .inl (E.2.2.1, mz, .inl fc))]) [0, 1] (by decide) rfl
    rw [hQ]
    exact W.vret hx hb hr (fun tt ht hW => ⟨⟨(vv, mz, fc), rfl, ⟨hm, q1, Nat.le_refl _, hf⟩, by rw [ht]; exact hP9, hD9⟩, hS.F ht⟩) hS.2.2 dJ5_ensureCapacityInternal_d00df_38
  ·
    have q1 : ¬ kk ≤ mz := fun z => q ((sub_le0 hk hm.le).mpr z)
    obtain rfl : mz = 16 := by rcases hm with z | z <;> omega
    refine lv_aload_n hx hb dJ5_ensureCapacityInternal_d00df_17 rfl (lv_at hl 1 rfl) ?_
    refine lv_aload_n hx hb dJ5_ensureCapacityInternal_d00df_18 rfl (lv_at hl 1 rfl) ?_
    refine va_get (D := E.1) (ci := 0) (v := .ref vv) (C := RJ4) (T := TJ4) (N := 4) hx hb hts i_h_ens_J4 hown hK hP 0 rfl rfl 0 (by decide) (hts (.fieldLink RJ5 15 "java/lang/AbstractStringBuilder" "value" "[B") (List.mem_of_getElem? (i := 1) rfl)) (fun _ h9 => h9) rfl dJ5_ensureCapacityInternal_d00df_19 ?_
    refine lv_aload_n hx hb dJ5_ensureCapacityInternal_d00df_22 rfl (lv_at hl 1 rfl) ?_
    refine lv_iload_n hx hb dJ5_ensureCapacityInternal_d00df_23 rfl (lv_at hl 2 rfl) ?_
    have hPc : va_P E.1 vwCl (w_J5_newCapacity_0f7a4 E av vv (0 : Int32) ml nn fc 16) H := hP.sub (ws' := [(av, .inr (0, [.ref vv, .int (0 : Int32), .int ml, .int nn])), (vv, .inl (E.2.2.1, 16, .inl fc))]) [0, 1] rfl
    have hrc := va_recv hK hPc (ci := 0) (q0 := 0) rfl rfl
    refine pE_i (va_runV (As := [.int (nI kk)]) (rest := [.ref vv, .ref av]) ⟨hx, hb, hml, hown, hts⟩ (f_J5_newCapacity_0f7a4 l E (a_ := av) (a_value := vv) (p1 := nI kk) (c_coder := (0 : Int32)) (c_maybeLatin1 := ml) (c_count := nn) (c_value := fc) (m9 := 16) (nc_ok kk (by omega) (by omega))) (cwC 1 hts g_h_ens_f_J5_newCapacity_0f7a4_104 rfl rfl rfl (by decide +kernel) ⟨Nat.le_of_ble_eq_true rfl, Nat.le_of_ble_eq_true rfl⟩) ⟨pP.blind, hrc, (pP.pre ⟨hK, hN⟩ hPc)⟩ rfl rfl hl.1 rfl (lv_room (Nat.le_of_ble_eq_true rfl)) dJ5_ensureCapacityInternal_d00df_24 ⟨Nat.le_of_ble_eq_true rfl, Nat.le_of_ble_eq_true rfl⟩) ?_
    refine lv_aload_n hx hb dJ5_ensureCapacityInternal_d00df_27 rfl (lv_at hl 1 rfl) ?_
    refine va_get (D := E.1) (ci := 0) (v := .int (0 : Int32)) (C := RJ4) (T := TJ4) (N := 4) hx hb hts i_h_ens_J4 hown hK hP 0 rfl rfl 1 (by decide) (hts (.fieldLink RJ5 22 "java/lang/AbstractStringBuilder" "coder" "B") (List.mem_of_getElem? (i := 2) rfl)) (fun _ h9 => h9) rfl dJ5_ensureCapacityInternal_d00df_28 ?_
    refine lv_ishl hx hb dJ5_ensureCapacityInternal_d00df_31 ?_
    refine lv_topi (fun z_2 ez_2 => ?_)
    obtain rfl : z_2 = 34 := ez_2.trans (by decide)
    obtain ⟨hPc, hDc, hFc⟩ := wcut (wc := [(vv, .inl (E.2.2.1, 16, .inl fc))]) hP hD hS hA [1] (by decide) rfl
    refine va_callr (va_runS (As := [.ref vv, .int (34 : Int32)]) (rest := [.ref av]) ⟨hx, hb, hml, hown, hts⟩ (h_copy l E H.size (vv := vv) (fc := fc) hf) (va_cwS 2 hts g_h_ens_h_copy_108 rfl rfl rfl (by decide +kernel) ⟨Nat.le_of_ble_eq_true rfl, Nat.le_of_ble_eq_true rfl⟩) ⟨pW.blind, (pW.pre ⟨hK, hN⟩ hPc hDc)⟩ rfl rfl hl.1 rfl (lv_room (Nat.le_of_ble_eq_true rfl)) dJ5_ensureCapacityInternal_d00df_32 ⟨Nat.le_of_ble_eq_true rfl, Nat.le_of_ble_eq_true rfl⟩) hS (fun q _ h => hFc q h) hFc (fun u9 ra_3 tt H1 locs ht hvm hw hB hz1 hk1 hS => ?_)
    obtain ⟨hP1, hD1⟩ := hB
    rw [ht] at hP1
    obtain ⟨hP, hD⟩ := va_join (wr := [(av, .inr (0, [.ref vv, .int (0 : Int32), .int ml, .int nn]))]) (w1 := [(vv, .inl (E.2.2.1, 16, .inl fc)), (ra_3, .inl (E.2.2.1, 34, .inl (va_cpy fc (fun _ => 0) 0 0 16)))]) hP hD [1] [0] rfl rfl (by decide) (by decide) hk1 hFc hP1 hD1
    generalize H1 = H at hP hS ⊢
    replace hP : va_P E.1 vwCl [(av, .inr (0, [.ref vv, .int (0 : Int32), .int ml, .int nn])), (vv, .inl (E.2.2.1, 16, .inl fc)), (ra_3, .inl (E.2.2.1, 34, .inl (va_cpy fc (fun _ => 0) 0 0 16)))] H := hP
    replace hD : va_D A [(av, .inr (0, [.ref vv, .int (0 : Int32), .int ml, .int nn])), (vv, .inl (E.2.2.1, 16, .inl fc)), (ra_3, .inl (E.2.2.1, 34, .inl (va_cpy fc (fun _ => 0) 0 0 16)))] := hD
    refine W.widen (k := 1) (n := 34) (Nat.le_of_ble_eq_true rfl) (Nat.le_of_ble_eq_true rfl) ?_
    refine va_put (D := E.1) (ci := 0) (v := .ref ra_3) (ty := .array .byte) (C := RJ4) (T := TJ4) (N := 4) hx hb hts i_h_ens_J4 tyJ4 tyJ4_ok nmJ4 hown hK hP hD hS 0 rfl rfl 0 (by decide) (hts (.fieldLink RJ5 15 "java/lang/AbstractStringBuilder" "value" "[B") (List.mem_of_getElem? (i := 1) rfl)) (fun _ h9 => h9) rfl (by decide +kernel) rfl rfl (Nat.le_of_ble_eq_true rfl) dJ5_ensureCapacityInternal_d00df_35 (fun H locs hP hD hS => ?_)
    replace hP : va_P E.1 vwCl [(av, .inr (0, [.ref ra_3, .int (0 : Int32), .int ml, .int nn])), (vv, .inl (E.2.2.1, 16, .inl fc)), (ra_3, .inl (E.2.2.1, 34, .inl (va_cpy fc (fun _ => 0) 0 0 16)))] H := hP
    replace hD : va_D A [(av, .inr (0, [.ref ra_3, .int (0 : Int32), .int ml, .int nn])), (vv, .inl (E.2.2.1, 16, .inl fc)), (ra_3, .inl (E.2.2.1, 34, .inl (va_cpy fc (fun _ => 0) 0 0 16)))] := hD
    have hP9 := hP.sub (ws' := [(av, .inr (0, [.ref ra_3, .int (0 : Int32), .int ml, .int nn])), (ra_3, .inl (E.2.2.1, 34, .inl (va_cpy fc (fun _ => 0) 0 0 16)))]) [0, 2] rfl
    have hD9 := hD.sub (ws' := [(av, .inr (0, [.ref ra_3, .int (0 : Int32), .int ml, .int nn])), (ra_3, .inl (E.2.2.1, 34, .inl (va_cpy fc (fun _ => 0) 0 0 16)))]) [0, 2] (by decide) rfl
    rw [hQ]
    exact W.vret hx hb hr (fun tt ht hW => ⟨⟨(ra_3, 34, va_cpy fc (fun _ => 0) 0 0 16), rfl, ⟨Or.inr rfl, hk, show (16 : Nat) ≤ 34 by decide, sb_fitC hf sb_fit0⟩, by rw [ht]; exact hP9, hD9⟩, hS.F ht⟩) hS.2.2 dJ5_ensureCapacityInternal_d00df_38

def v_h_appC5 : List Cond := .code yJ5_append_3fe6f cJ5_append_3fe6f 2 (some (.object "java/lang/AbstractStringBuilder")) :: ([.fieldLink RJ5 79 "java/lang/AbstractStringBuilder" "count" "I", .fieldLink RJ5 15 "java/lang/AbstractStringBuilder" "value" "[B", .methodLink RJ5 100 yJ5_ensureCapacityInternal_d00df, .instanceMethod yJ5_ensureCapacityInternal_d00df, .selects RJ4 yJ5_ensureCapacityInternal_d00df yJ5_ensureCapacityInternal_d00df, .initialized RJ5, .methodLink RJ5 83 yJ5_isLatin1_aae02, .instanceMethod yJ5_isLatin1_aae02, .selects RJ4 yJ5_isLatin1_aae02 yJ5_isLatin1_aae02, .methodLink RJ5 191 yJ1_canEncode_fc78d, .static yJ1_canEncode_fc78d, .initialized RJ1] ++ (wsJ40 ++ (v_h_ens ++ (v_f_J5_isLatin1_aae02 ++ (v_f_J1_canEncode_fc78d ++ ([]))))))
theorem gw_h_appC5 : v_h_appC5.all goodWord = true := by decide +kernel
theorem i_h_appC5_J4 : ∀ w ∈ wsJ40, w ∈ v_h_appC5 := fun _ h => List.mem_cons_of_mem _ (List.mem_append_right _ (List.mem_append_left _ h))
theorem g_h_appC5_h_ens_100 : GoodIn v_h_appC5 (wsC RJ5 100 RJ4 yJ5_ensureCapacityInternal_d00df v_h_ens) := goodIn_app (goodIn_of _ (by decide +kernel)) (goodIn_sub (fun _ h => List.mem_cons_of_mem _ (List.mem_append_right _ (List.mem_append_right _ (List.mem_append_left _ h)))) gw_h_ens)
theorem g_h_appC5_f_J5_isLatin1_aae02_83 : GoodIn v_h_appC5 (wsC RJ5 83 RJ4 yJ5_isLatin1_aae02 v_f_J5_isLatin1_aae02) := goodIn_app (goodIn_of _ (by decide +kernel)) (goodIn_sub (fun _ h => List.mem_cons_of_mem _ (List.mem_append_right _ (List.mem_append_right _ (List.mem_append_right _ (List.mem_append_left _ h))))) gw_f_J5_isLatin1_aae02)
theorem g_h_appC5_f_J1_canEncode_fc78d_191 : GoodIn v_h_appC5 (va_wsS RJ5 191 yJ1_canEncode_fc78d v_f_J1_canEncode_fc78d) := goodIn_app (goodIn_of _ (by decide +kernel)) (goodIn_sub (fun _ h => List.mem_cons_of_mem _ (List.mem_append_right _ (List.mem_append_right _ (List.mem_append_right _ (List.mem_append_right _ (List.mem_append_left _ h)))))) gw_f_J1_canEncode_fc78d)
set_option maxHeartbeats 4000000 in
set_option maxRecDepth 100000 in
theorem h_appC5 (l : Launch) (E : EE) (sz : Nat) (z9 : Nat → Nat) {av vv mz kk : Nat} {ml : Int32} {fc : Nat → Int32} {ch : Int32} (hm : OKm mz) (hk : kk + 1 ≤ 34) (hf : sb_Fit fc) (hc : F_J1_canEncode_fc78d ch = some 1) : Met l yJ5_append_3fe6f v_h_appC5 (({ frames := 4, cells := 1, slots := 34, locals := 104 } : Room)) (va_Pc [.ref av, .int ch] (qWZ E z9 sz (wSB E av vv mz ml (nI kk) fc))) (va_Qr (fun (u : Nat × Nat × (Nat → Int32)) => OKm u.2.1 ∧ kk + 1 ≤ u.2.1 ∧ sb_Fit u.2.2) (fun (u : Nat × Nat × (Nat → Int32)) (ra : Nat) tt => ra = av ∧ va_P E.1 vwCl (wSB E av u.1 u.2.1 ml (nI (kk + 1)) u.2.2) tt.heap ∧ va_D (va_A (wSB E av vv mz ml (nI kk) fc) sz) (wSB E av u.1 u.2.1 ml (nI (kk + 1)) u.2.2)) (va_A (wSB E av vv mz ml (nI kk) fc) sz)) 1 34 (va_A (wSB E av vv mz ml (nI kk) fc) sz) := by
  refine Met.ofWF (cc := cJ5_append_3fe6f) (maxL := 2) (ret := (some (.object "java/lang/AbstractStringBuilder"))) (by decide +kernel) rfl ?_
  intro p e s m args below meth c s₁ B hml hv
  obtain ⟨rfl, hsz, ⟨hK, hN⟩, hP, hD0, hZ⟩ := hv
  have hx := B.exec
  have hb := B.bytes
  have hr := B.returns
  have hts := atoms_spec (ws := v_h_appC5) B.pre
  have hown : s.vm.findClass RJ5 = some m.cls := own_of (by decide +kernel) (findClass_of_methodNamed B.named)
  have hlocks : meth.locks = false := B.notSynchronized
  subst hsz
  have hD := hD0.self (sz := s.heap.size)
  generalize hAe : va_A (wSB E av vv mz ml (nI kk) fc) s.heap.size = A at hD hZ ⊢
  have hA : ∀ q : Nat, s.heap.size ≤ q → A q := fun q h => by rw [← hAe]; exact Or.inr h
  have hS : va_S A s.heap s.heap [] := va_S.rf
  have hl := lv_entry ([.ref av, .int ch]) (n := 2) (Nat.le_of_ble_eq_true rfl)
  rw [lg_entry_eq]
  generalize (lg_sl ([.ref av, .int ch]) ++ List.replicate (2 - (lg_sl ([.ref av, .int ch])).length) Slot.unset).toArray = ls at hl ⊢
  have hl : lv_has ls 2 [(0, .ref av), (1, .int ch)] := hl
  obtain ⟨Q, hQ⟩ : ∃ Q : State → Prop, Q = MQ below (va_Qr (fun (u : Nat × Nat × (Nat → Int32)) => OKm u.2.1 ∧ kk + 1 ≤ u.2.1 ∧ sb_Fit u.2.2) (fun (u : Nat × Nat × (Nat → Int32)) (ra : Nat) tt => ra = av ∧ va_P E.1 vwCl (wSB E av u.1 u.2.1 ml (nI (kk + 1)) u.2.2) tt.heap ∧ va_D A (wSB E av u.1 u.2.1 ml (nI (kk + 1)) u.2.2)) A) #[Value.ref av, Value.int ch] s 1 34 A := ⟨_, rfl⟩
  rw [← hQ]
  change W p l e ({ frames := 4, cells := 1, slots := 34, locals := 104 } : Room) s m #[Value.ref av, Value.int ch] below meth c s.heap [] 0 0 Q (F0 m 0 ls [])
  suffices hh9 : ∀ (H : Heap) (locs : List Loc), va_P E.1 vwCl (wSB E av vv mz ml (nI kk) fc) H → va_D A (wSB E av vv mz ml (nI kk) fc) → va_S A s.heap H locs → W p l e ({ frames := 4, cells := 1, slots := 34, locals := 104 } : Room) s m #[Value.ref av, Value.int ch] below meth c H locs 0 0 Q (F0 m 0 ls []) from hh9 s.heap [] hP hD hS
  clear hP hD hS
  intro H locs hP hD hS
  replace hP : va_P E.1 vwCl [(av, .inr (0, [.ref vv, .int (0 : Int32), .int ml, .int (nI kk)])), (vv, .inl (E.2.2.1, mz, .inl fc))] H := hP
  replace hD : va_D A [(av, .inr (0, [.ref vv, .int (0 : Int32), .int ml, .int (nI kk)])), (vv, .inl (E.2.2.1, mz, .inl fc))] := hD
  refine lv_aload_n hx hb dJ5_append_3fe6f_0 rfl (lv_at hl 0 rfl) ?_
  refine lv_aload_n hx hb dJ5_append_3fe6f_1 rfl (lv_at hl 0 rfl) ?_
  refine va_get (D := E.1) (ci := 0) (v := .int (nI kk)) (C := RJ4) (T := TJ4) (N := 4) hx hb hts i_h_appC5_J4 hown hK hP 0 rfl rfl 3 (by decide) (hts (.fieldLink RJ5 79 "java/lang/AbstractStringBuilder" "count" "I") (List.mem_of_getElem? (i := 1) rfl)) (fun _ h9 => h9) rfl dJ5_append_3fe6f_2 ?_
  refine lv_iconst (v := 1) hx hb dJ5_append_3fe6f_5 (by decide) ?_
  refine lv_iadd hx hb dJ5_append_3fe6f_6 ?_
  refine lv_topi (fun z_1 ez_1 => ?_)
  obtain rfl : z_1 = nI (kk + 1) := ez_1.trans (nI_1 kk)
  obtain ⟨hPc, hDc, hFc⟩ := wcut (wc := (wSB E av vv mz ml (nI kk) fc)) hP hD hS hA [0, 1] (by decide) rfl
  have hrc := va_recv hK hPc (ci := 0) (q0 := 0) rfl rfl
  refine va_callv (va_runV (As := [.int (nI (kk + 1))]) (rest := []) ⟨hx, hb, hml, hown, hts⟩ (h_ens l E H.size (av := av) (vv := vv) (mz := mz) (kk := kk + 1) (ml := ml) (nn := nI kk) (fc := fc) hm hk hf) (cwC 1 hts g_h_appC5_h_ens_100 rfl rfl rfl (by decide +kernel) ⟨Nat.le_of_ble_eq_true rfl, Nat.le_of_ble_eq_true rfl⟩) ⟨pW.blind, hrc, (pW.pre ⟨hK, hN⟩ hPc hDc)⟩ rfl rfl hl.1 rfl (lv_room (Nat.le_of_ble_eq_true rfl)) dJ5_append_3fe6f_7 ⟨Nat.le_of_ble_eq_true rfl, Nat.le_of_ble_eq_true rfl⟩) hS (fun q _ h => hFc q h) hFc (fun u9  tt H1 locs ht hvm hw hB hz1 hk1 hS => ?_)
  obtain ⟨v1, m1, c1⟩ := u9
  obtain ⟨g1, g2, g3, g4⟩ := hw
  obtain ⟨hP1, hD1⟩ := hB
  rw [ht] at hP1
  obtain ⟨hP, hD⟩ := va_join (wr := []) (w1 := [(av, .inr (0, [.ref v1, .int (0 : Int32), .int ml, .int (nI kk)])), (v1, .inl (E.2.2.1, m1, .inl c1))]) hP hD [0, 1] [] rfl rfl (by decide) (by decide) hk1 hFc hP1 hD1
  generalize H1 = H at hP hS ⊢
  replace hP : va_P E.1 vwCl [(av, .inr (0, [.ref v1, .int (0 : Int32), .int ml, .int (nI kk)])), (v1, .inl (E.2.2.1, m1, .inl c1))] H := hP
  replace hD : va_D A [(av, .inr (0, [.ref v1, .int (0 : Int32), .int ml, .int (nI kk)])), (v1, .inl (E.2.2.1, m1, .inl c1))] := hD
  refine W.widen (k := 1) (n := 34) (Nat.le_of_ble_eq_true rfl) (Nat.le_of_ble_eq_true rfl) ?_
  have g1 : OKm m1 := g1
  have g2 : kk + 1 ≤ m1 := g2
  have g4 : sb_Fit c1 := g4
  refine lv_aload_n hx hb dJ5_append_3fe6f_10 rfl (lv_at hl 0 rfl) ?_
  have hPc : va_P E.1 vwCl (w_J5_isLatin1_aae02 E av v1 (0 : Int32) ml (nI kk)) H := hP.sub (ws' := [(av, .inr (0, [.ref v1, .int (0 : Int32), .int ml, .int (nI kk)]))]) [0] rfl
  have hrc := va_recv hK hPc (ci := 0) (q0 := 0) rfl rfl
  refine pE_z (va_runV (As := []) (rest := []) ⟨hx, hb, hml, hown, hts⟩ (f_J5_isLatin1_aae02 l E z9 (a_ := av) (a_value := v1) (c_coder := (0 : Int32)) (c_maybeLatin1 := ml) (c_count := nI kk) (show F_J5_isLatin1_aae02 0 = some 1 from rfl)) (cwC 0 hts g_h_appC5_f_J5_isLatin1_aae02_83 rfl rfl rfl (by decide +kernel) ⟨Nat.le_of_ble_eq_true rfl, Nat.le_of_ble_eq_true rfl⟩) ⟨qPZ.blind, hrc, (qPZ.pre ⟨hK, hN⟩ hPc hZ hS)⟩ rfl rfl hl.1 rfl (lv_room (Nat.le_of_ble_eq_true rfl)) dJ5_append_3fe6f_11 ⟨Nat.le_of_ble_eq_true rfl, Nat.le_of_ble_eq_true rfl⟩) (fun hb_3 => ?_)
  refine lv_if_eq (tgt := 45) hx hb dJ5_append_3fe6f_14 (by decide) (fun q => absurd q (by decide)) (fun _ => ?_)
  refine lv_iload_n hx hb dJ5_append_3fe6f_17 rfl (lv_at hl 1 rfl) ?_
  have hPc : va_P E.1 vwCl [] H := fun k q h => by simp at h
  refine pE_z (va_runS (As := [.int ch]) (rest := []) ⟨hx, hb, hml, hown, hts⟩ (f_J1_canEncode_fc78d l E (p0 := ch) hc) (va_cwS 1 hts g_h_appC5_f_J1_canEncode_fc78d_191 rfl rfl rfl (by decide +kernel) ⟨Nat.le_of_ble_eq_true rfl, Nat.le_of_ble_eq_true rfl⟩) ⟨pP.blind, (pP.pre ⟨hK, hN⟩ hPc)⟩ rfl rfl hl.1 rfl (lv_room (Nat.le_of_ble_eq_true rfl)) dJ5_append_3fe6f_18 ⟨Nat.le_of_ble_eq_true rfl, Nat.le_of_ble_eq_true rfl⟩) (fun hb_4 => ?_)
  refine lv_if_eq (tgt := 45) hx hb dJ5_append_3fe6f_21 (by decide) (fun q => absurd q (by decide)) (fun _ => ?_)
  refine lv_aload_n hx hb dJ5_append_3fe6f_24 rfl (lv_at hl 0 rfl) ?_
  refine va_get (D := E.1) (ci := 0) (v := .ref v1) (C := RJ4) (T := TJ4) (N := 4) hx hb hts i_h_appC5_J4 hown hK hP 0 rfl rfl 0 (by decide) (hts (.fieldLink RJ5 15 "java/lang/AbstractStringBuilder" "value" "[B") (List.mem_of_getElem? (i := 2) rfl)) (fun _ h9 => h9) rfl dJ5_append_3fe6f_25 ?_
  refine lv_aload_n hx hb dJ5_append_3fe6f_28 rfl (lv_at hl 0 rfl) ?_
  refine lv_dup hx hb dJ5_append_3fe6f_29 rfl ?_
  refine va_get (D := E.1) (ci := 0) (v := .int (nI kk)) (C := RJ4) (T := TJ4) (N := 4) hx hb hts i_h_appC5_J4 hown hK hP 0 rfl rfl 3 (by decide) (hts (.fieldLink RJ5 79 "java/lang/AbstractStringBuilder" "count" "I") (List.mem_of_getElem? (i := 1) rfl)) (fun _ h9 => h9) rfl dJ5_append_3fe6f_30 ?_
  refine lv_dup_x1 hx hb dJ5_append_3fe6f_33 rfl rfl ?_
  refine lv_iconst (v := 1) hx hb dJ5_append_3fe6f_34 (by decide) ?_
  refine lv_iadd hx hb dJ5_append_3fe6f_35 ?_
  refine lv_topi (fun z_5 ez_5 => ?_)
  obtain rfl : z_5 = nI (kk + 1) := ez_5.trans (nI_1 kk)
  refine va_put (D := E.1) (ci := 0) (v := .int (nI (kk + 1))) (ty := .int) (C := RJ4) (T := TJ4) (N := 4) hx hb hts i_h_appC5_J4 tyJ4 tyJ4_ok nmJ4 hown hK hP hD hS 0 rfl rfl 3 (by decide) (hts (.fieldLink RJ5 79 "java/lang/AbstractStringBuilder" "count" "I") (List.mem_of_getElem? (i := 1) rfl)) (fun _ h9 => h9) rfl (by decide +kernel) rfl rfl (Nat.le_of_ble_eq_true rfl) dJ5_append_3fe6f_36 (fun H locs hP hD hS => ?_)
  replace hP : va_P E.1 vwCl [(av, .inr (0, [.ref v1, .int (0 : Int32), .int ml, .int (nI (kk + 1))])), (v1, .inl (E.2.2.1, m1, .inl c1))] H := hP
  replace hD : va_D A [(av, .inr (0, [.ref v1, .int (0 : Int32), .int ml, .int (nI (kk + 1))])), (v1, .inl (E.2.2.1, m1, .inl c1))] := hD
  refine lv_iload_n hx hb dJ5_append_3fe6f_39 rfl (lv_at hl 1 rfl) ?_
  refine lv_i2b (v := ch.toInt8.toInt32) hx hb dJ5_append_3fe6f_40 rfl ?_
  refine va_bast hx hb hK hP hD hS 1 1 rfl rfl (nI_in (show kk < m1 by omega) (show m1 < 2 ^ 31 by have := g1.le; omega)) dJ5_append_3fe6f_41 (fun H locs hP hD hS => ?_)
  replace hP : va_P E.1 vwCl [(av, .inr (0, [.ref v1, .int (0 : Int32), .int ml, .int (nI (kk + 1))])), (v1, .inl (E.2.2.1, m1, .inl (upd c1 (nI kk).toNatClampNeg (vp_nar .byte ch.toInt8.toInt32))))] H := hP
  replace hD : va_D A [(av, .inr (0, [.ref v1, .int (0 : Int32), .int ml, .int (nI (kk + 1))])), (v1, .inl (E.2.2.1, m1, .inl (upd c1 (nI kk).toNatClampNeg (vp_nar .byte ch.toInt8.toInt32))))] := hD
  refine lv_goto (tgt := 75) hx hb dJ5_append_3fe6f_42 (by decide) ?_
  refine lv_aload_n hx hb dJ5_append_3fe6f_75 rfl (lv_at hl 0 rfl) ?_
  have hP9 := hP.sub (ws' := [(av, .inr (0, [.ref v1, .int (0 : Int32), .int ml, .int (nI (kk + 1))])), (v1, .inl (E.2.2.1, m1, .inl (upd c1 (nI kk).toNatClampNeg (vp_nar .byte ch.toInt8.toInt32))))]) [0, 1] rfl
  have hD9 := hD.sub (ws' := [(av, .inr (0, [.ref v1, .int (0 : Int32), .int ml, .int (nI (kk + 1))])), (v1, .inl (E.2.2.1, m1, .inl (upd c1 (nI kk).toNatClampNeg (vp_nar .byte ch.toInt8.toInt32))))]) [0, 1] (by decide) rfl
  rw [hQ]
  exact W.aret (v := .ref av) hx hb hr (Or.inl ⟨_, rfl⟩) (Or.inr ⟨_, rfl⟩) (fun tt ht hW => ⟨⟨(v1, m1, upd c1 (nI kk).toNatClampNeg (vp_nar .byte ch.toInt8.toInt32)), av, rfl, ⟨g1, g2, sb_fitU g4 (fit_nar _)⟩, rfl, by rw [ht]; exact hP9, hD9⟩, hS.F ht⟩) hS.2.2 dJ5_append_3fe6f_76

def v_h_appI5 : List Cond := .code yJ5_append_c97b9 cJ5_append_c97b9 4 (some (.object "java/lang/AbstractStringBuilder")) :: ([.fieldLink RJ5 79 "java/lang/AbstractStringBuilder" "count" "I", .fieldLink RJ5 15 "java/lang/AbstractStringBuilder" "value" "[B", .methodLink RJ5 245 yJ6_stringSize_0f7a4, .static yJ6_stringSize_0f7a4, .initialized RJ6, .methodLink RJ5 100 yJ5_ensureCapacityInternal_d00df, .instanceMethod yJ5_ensureCapacityInternal_d00df, .selects RJ4 yJ5_ensureCapacityInternal_d00df yJ5_ensureCapacityInternal_d00df, .initialized RJ5, .methodLink RJ5 83 yJ5_isLatin1_aae02, .instanceMethod yJ5_isLatin1_aae02, .selects RJ4 yJ5_isLatin1_aae02 yJ5_isLatin1_aae02, .methodLink RJ5 248 yJ6_getChars_ba4f3, .static yJ6_getChars_ba4f3] ++ (wsJ40 ++ (v_f_J6_stringSize_0f7a4 ++ (v_h_ens ++ (v_f_J5_isLatin1_aae02 ++ (v_f_J6_getChars_ba4f3 ++ ([])))))))
theorem gw_h_appI5 : v_h_appI5.all goodWord = true := by decide +kernel
theorem i_h_appI5_J4 : ∀ w ∈ wsJ40, w ∈ v_h_appI5 := fun _ h => List.mem_cons_of_mem _ (List.mem_append_right _ (List.mem_append_left _ h))
theorem g_h_appI5_f_J6_stringSize_0f7a4_245 : GoodIn v_h_appI5 (va_wsS RJ5 245 yJ6_stringSize_0f7a4 v_f_J6_stringSize_0f7a4) := goodIn_app (goodIn_of _ (by decide +kernel)) (goodIn_sub (fun _ h => List.mem_cons_of_mem _ (List.mem_append_right _ (List.mem_append_right _ (List.mem_append_left _ h)))) gw_f_J6_stringSize_0f7a4)
theorem g_h_appI5_h_ens_100 : GoodIn v_h_appI5 (wsC RJ5 100 RJ4 yJ5_ensureCapacityInternal_d00df v_h_ens) := goodIn_app (goodIn_of _ (by decide +kernel)) (goodIn_sub (fun _ h => List.mem_cons_of_mem _ (List.mem_append_right _ (List.mem_append_right _ (List.mem_append_right _ (List.mem_append_left _ h))))) gw_h_ens)
theorem g_h_appI5_f_J5_isLatin1_aae02_83 : GoodIn v_h_appI5 (wsC RJ5 83 RJ4 yJ5_isLatin1_aae02 v_f_J5_isLatin1_aae02) := goodIn_app (goodIn_of _ (by decide +kernel)) (goodIn_sub (fun _ h => List.mem_cons_of_mem _ (List.mem_append_right _ (List.mem_append_right _ (List.mem_append_right _ (List.mem_append_right _ (List.mem_append_left _ h)))))) gw_f_J5_isLatin1_aae02)
theorem g_h_appI5_f_J6_getChars_ba4f3_248 : GoodIn v_h_appI5 (va_wsS RJ5 248 yJ6_getChars_ba4f3 v_f_J6_getChars_ba4f3) := goodIn_app (goodIn_of _ (by decide +kernel)) (goodIn_sub (fun _ h => List.mem_cons_of_mem _ (List.mem_append_right _ (List.mem_append_right _ (List.mem_append_right _ (List.mem_append_right _ (List.mem_append_right _ (List.mem_append_left _ h))))))) gw_f_J6_getChars_ba4f3)
set_option maxHeartbeats 4000000 in
set_option maxRecDepth 100000 in
theorem h_appI5 (l : Launch) (E : EE) (sz : Nat) (K : Nat) (z9 : Nat → Nat) {av vv mz kk : Nat} {ml : Int32} {fc : Nat → Int32} {iv : Int32} {s9 : Nat} (hm : OKm mz) (hk : kk + s9 ≤ 34) (hf : sb_Fit fc) (hs9 : F_J6_stringSize_0f7a4 K iv = some (nI s9)) (hG : ∀ (m1 : Nat) (c1 : Nat → Int32), m1 ≤ 34 → kk + s9 ≤ m1 → sb_Fit c1 → ∃ r c2, F_J6_getChars_ba4f3 K iv (nI (kk + s9)) c1 m1 = some (r, c2) ∧ sb_Fit c2) : Met l yJ5_append_c97b9 v_h_appI5 (({ frames := 4, cells := 1, slots := 34, locals := 104 } : Room)) (va_Pc [.ref av, .int iv] (qWZ E z9 sz (wSB E av vv mz ml (nI kk) fc))) (va_Qr (fun (u : Nat × Nat × (Nat → Int32)) => OKm u.2.1 ∧ kk + s9 ≤ u.2.1 ∧ sb_Fit u.2.2) (fun (u : Nat × Nat × (Nat → Int32)) (ra : Nat) tt => ra = av ∧ va_P E.1 vwCl (wSB E av u.1 u.2.1 ml (nI (kk + s9)) u.2.2) tt.heap ∧ va_D (va_A (wSB E av vv mz ml (nI kk) fc) sz) (wSB E av u.1 u.2.1 ml (nI (kk + s9)) u.2.2)) (va_A (wSB E av vv mz ml (nI kk) fc) sz)) 1 34 (va_A (wSB E av vv mz ml (nI kk) fc) sz) := by
  refine Met.ofWF (cc := cJ5_append_c97b9) (maxL := 4) (ret := (some (.object "java/lang/AbstractStringBuilder"))) (by decide +kernel) rfl ?_
  intro p e s m args below meth c s₁ B hml hv
  obtain ⟨rfl, hsz, ⟨hK, hN⟩, hP, hD0, hZ⟩ := hv
  have hx := B.exec
  have hb := B.bytes
  have hr := B.returns
  have hts := atoms_spec (ws := v_h_appI5) B.pre
  have hown : s.vm.findClass RJ5 = some m.cls := own_of (by decide +kernel) (findClass_of_methodNamed B.named)
  have hlocks : meth.locks = false := B.notSynchronized
  subst hsz
  have hD := hD0.self (sz := s.heap.size)
  generalize hAe : va_A (wSB E av vv mz ml (nI kk) fc) s.heap.size = A at hD hZ ⊢
  have hA : ∀ q : Nat, s.heap.size ≤ q → A q := fun q h => by rw [← hAe]; exact Or.inr h
  have hS : va_S A s.heap s.heap [] := va_S.rf
  have hl := lv_entry ([.ref av, .int iv]) (n := 4) (Nat.le_of_ble_eq_true rfl)
  rw [lg_entry_eq]
  generalize (lg_sl ([.ref av, .int iv]) ++ List.replicate (4 - (lg_sl ([.ref av, .int iv])).length) Slot.unset).toArray = ls at hl ⊢
  have hl : lv_has ls 4 [(0, .ref av), (1, .int iv)] := hl
  obtain ⟨Q, hQ⟩ : ∃ Q : State → Prop, Q = MQ below (va_Qr (fun (u : Nat × Nat × (Nat → Int32)) => OKm u.2.1 ∧ kk + s9 ≤ u.2.1 ∧ sb_Fit u.2.2) (fun (u : Nat × Nat × (Nat → Int32)) (ra : Nat) tt => ra = av ∧ va_P E.1 vwCl (wSB E av u.1 u.2.1 ml (nI (kk + s9)) u.2.2) tt.heap ∧ va_D A (wSB E av u.1 u.2.1 ml (nI (kk + s9)) u.2.2)) A) #[Value.ref av, Value.int iv] s 1 34 A := ⟨_, rfl⟩
  rw [← hQ]
  change W p l e ({ frames := 4, cells := 1, slots := 34, locals := 104 } : Room) s m #[Value.ref av, Value.int iv] below meth c s.heap [] 0 0 Q (F0 m 0 ls [])
  suffices hh9 : ∀ (H : Heap) (locs : List Loc), va_P E.1 vwCl (wSB E av vv mz ml (nI kk) fc) H → va_D A (wSB E av vv mz ml (nI kk) fc) → va_S A s.heap H locs → W p l e ({ frames := 4, cells := 1, slots := 34, locals := 104 } : Room) s m #[Value.ref av, Value.int iv] below meth c H locs 0 0 Q (F0 m 0 ls []) from hh9 s.heap [] hP hD hS
  clear hP hD hS
  intro H locs hP hD hS
  replace hP : va_P E.1 vwCl [(av, .inr (0, [.ref vv, .int (0 : Int32), .int ml, .int (nI kk)])), (vv, .inl (E.2.2.1, mz, .inl fc))] H := hP
  replace hD : va_D A [(av, .inr (0, [.ref vv, .int (0 : Int32), .int ml, .int (nI kk)])), (vv, .inl (E.2.2.1, mz, .inl fc))] := hD
  refine lv_aload_n hx hb dJ5_append_c97b9_0 rfl (lv_at hl 0 rfl) ?_
  refine va_get (D := E.1) (ci := 0) (v := .int (nI kk)) (C := RJ4) (T := TJ4) (N := 4) hx hb hts i_h_appI5_J4 hown hK hP 0 rfl rfl 3 (by decide) (hts (.fieldLink RJ5 79 "java/lang/AbstractStringBuilder" "count" "I") (List.mem_of_getElem? (i := 1) rfl)) (fun _ h9 => h9) rfl dJ5_append_c97b9_1 ?_
  refine lv_istore_n (lv' := [(2, .int (nI kk)), (0, .ref av), (1, .int iv)]) hx hb dJ5_append_c97b9_4 rfl hl (by decide) rfl (fun ls hl => ?_)
  refine lv_iload_n hx hb dJ5_append_c97b9_5 rfl (lv_at hl 0 rfl) ?_
  refine lv_iload_n hx hb dJ5_append_c97b9_6 rfl (lv_at hl 2 rfl) ?_
  have hPc : va_P E.1 vwCl [] H := fun k q h => by simp at h
  refine pE_i (va_runS (As := [.int iv]) (rest := [.int (nI kk)]) ⟨hx, hb, hml, hown, hts⟩ (f_J6_stringSize_0f7a4 l E K (p0 := iv) hs9) (va_cwS 1 hts g_h_appI5_f_J6_stringSize_0f7a4_245 rfl rfl rfl (by decide +kernel) ⟨Nat.le_of_ble_eq_true rfl, Nat.le_of_ble_eq_true rfl⟩) ⟨pP.blind, (pP.pre ⟨hK, hN⟩ hPc)⟩ rfl rfl hl.1 rfl (lv_room (Nat.le_of_ble_eq_true rfl)) dJ5_append_c97b9_7 ⟨Nat.le_of_ble_eq_true rfl, Nat.le_of_ble_eq_true rfl⟩) ?_
  refine lv_iadd hx hb dJ5_append_c97b9_10 ?_
  refine lv_topi (fun z_1 ez_1 => ?_)
  obtain rfl : z_1 = nI (kk + s9) := ez_1.trans (nI_add kk s9)
  refine lv_istore_n (lv' := [(3, .int (nI (kk + s9))), (2, .int (nI kk)), (0, .ref av), (1, .int iv)]) hx hb dJ5_append_c97b9_11 rfl hl (by decide) rfl (fun ls hl => ?_)
  refine lv_aload_n hx hb dJ5_append_c97b9_12 rfl (lv_at hl 2 rfl) ?_
  refine lv_iload_n hx hb dJ5_append_c97b9_13 rfl (lv_at hl 0 rfl) ?_
  obtain ⟨hPc, hDc, hFc⟩ := wcut (wc := (wSB E av vv mz ml (nI kk) fc)) hP hD hS hA [0, 1] (by decide) rfl
  have hrc := va_recv hK hPc (ci := 0) (q0 := 0) rfl rfl
  refine va_callv (va_runV (As := [.int (nI (kk + s9))]) (rest := []) ⟨hx, hb, hml, hown, hts⟩ (h_ens l E H.size (av := av) (vv := vv) (mz := mz) (kk := kk + s9) (ml := ml) (nn := nI kk) (fc := fc) hm hk hf) (cwC 1 hts g_h_appI5_h_ens_100 rfl rfl rfl (by decide +kernel) ⟨Nat.le_of_ble_eq_true rfl, Nat.le_of_ble_eq_true rfl⟩) ⟨pW.blind, hrc, (pW.pre ⟨hK, hN⟩ hPc hDc)⟩ rfl rfl hl.1 rfl (lv_room (Nat.le_of_ble_eq_true rfl)) dJ5_append_c97b9_14 ⟨Nat.le_of_ble_eq_true rfl, Nat.le_of_ble_eq_true rfl⟩) hS (fun q _ h => hFc q h) hFc (fun u9  tt H1 locs ht hvm hw hB hz1 hk1 hS => ?_)
  obtain ⟨v1, m1, c1⟩ := u9
  obtain ⟨g1, g2, g3, g4⟩ := hw
  obtain ⟨hP1, hD1⟩ := hB
  rw [ht] at hP1
  obtain ⟨hP, hD⟩ := va_join (wr := []) (w1 := [(av, .inr (0, [.ref v1, .int (0 : Int32), .int ml, .int (nI kk)])), (v1, .inl (E.2.2.1, m1, .inl c1))]) hP hD [0, 1] [] rfl rfl (by decide) (by decide) hk1 hFc hP1 hD1
  generalize H1 = H at hP hS ⊢
  replace hP : va_P E.1 vwCl [(av, .inr (0, [.ref v1, .int (0 : Int32), .int ml, .int (nI kk)])), (v1, .inl (E.2.2.1, m1, .inl c1))] H := hP
  replace hD : va_D A [(av, .inr (0, [.ref v1, .int (0 : Int32), .int ml, .int (nI kk)])), (v1, .inl (E.2.2.1, m1, .inl c1))] := hD
  refine W.widen (k := 1) (n := 34) (Nat.le_of_ble_eq_true rfl) (Nat.le_of_ble_eq_true rfl) ?_
  have g1 : OKm m1 := g1
  have g2 : kk + s9 ≤ m1 := g2
  have g4 : sb_Fit c1 := g4
  refine lv_aload_n hx hb dJ5_append_c97b9_17 rfl (lv_at hl 2 rfl) ?_
  have hPc : va_P E.1 vwCl (w_J5_isLatin1_aae02 E av v1 (0 : Int32) ml (nI kk)) H := hP.sub (ws' := [(av, .inr (0, [.ref v1, .int (0 : Int32), .int ml, .int (nI kk)]))]) [0] rfl
  have hrc := va_recv hK hPc (ci := 0) (q0 := 0) rfl rfl
  refine pE_z (va_runV (As := []) (rest := []) ⟨hx, hb, hml, hown, hts⟩ (f_J5_isLatin1_aae02 l E z9 (a_ := av) (a_value := v1) (c_coder := (0 : Int32)) (c_maybeLatin1 := ml) (c_count := nI kk) (show F_J5_isLatin1_aae02 0 = some 1 from rfl)) (cwC 0 hts g_h_appI5_f_J5_isLatin1_aae02_83 rfl rfl rfl (by decide +kernel) ⟨Nat.le_of_ble_eq_true rfl, Nat.le_of_ble_eq_true rfl⟩) ⟨qPZ.blind, hrc, (qPZ.pre ⟨hK, hN⟩ hPc hZ hS)⟩ rfl rfl hl.1 rfl (lv_room (Nat.le_of_ble_eq_true rfl)) dJ5_append_c97b9_18 ⟨Nat.le_of_ble_eq_true rfl, Nat.le_of_ble_eq_true rfl⟩) (fun hb_3 => ?_)
  refine lv_if_eq (tgt := 37) hx hb dJ5_append_c97b9_21 (by decide) (fun q => absurd q (by decide)) (fun _ => ?_)
  refine lv_iload_n hx hb dJ5_append_c97b9_24 rfl (lv_at hl 3 rfl) ?_
  refine lv_iload_n hx hb dJ5_append_c97b9_25 rfl (lv_at hl 0 rfl) ?_
  refine lv_aload_n hx hb dJ5_append_c97b9_26 rfl (lv_at hl 2 rfl) ?_
  refine va_get (D := E.1) (ci := 0) (v := .ref v1) (C := RJ4) (T := TJ4) (N := 4) hx hb hts i_h_appI5_J4 hown hK hP 0 rfl rfl 0 (by decide) (hts (.fieldLink RJ5 15 "java/lang/AbstractStringBuilder" "value" "[B") (List.mem_of_getElem? (i := 2) rfl)) (fun _ h9 => h9) rfl dJ5_append_c97b9_27 ?_
  obtain ⟨r8, c2, hG1, hG2⟩ := hG m1 c1 g1.le g2 g4
  obtain ⟨hPc, hDc, hFc⟩ := wcut (wc := (w_J6_getChars_ba4f3 E v1 c1 m1)) hP hD hS hA [1] (by decide) rfl
  refine cE_i (wc := (w_J6_getChars_ba4f3 E v1 c1 m1)) (wr := [(av, .inr (0, [.ref v1, .int (0 : Int32), .int ml, .int (nI kk)]))]) (w1 := (w_J6_getChars_ba4f3 E v1 c2 m1)) (va_runS (As := [.int iv, .int (nI (kk + s9)), .ref v1]) (rest := []) ⟨hx, hb, hml, hown, hts⟩ (f_J6_getChars_ba4f3 l E H.size K z9 (a_o2 := v1) (p0 := iv) (p1 := nI (kk + s9)) (c_o2 := c1) (m9 := m1) hG1) (va_cwS 3 hts g_h_appI5_f_J6_getChars_ba4f3_248 rfl rfl rfl (by decide +kernel) ⟨Nat.le_of_ble_eq_true rfl, Nat.le_of_ble_eq_true rfl⟩) ⟨qWZ.blind, (qWZ.pre ⟨hK, hN⟩ hPc hDc hZ hS hFc)⟩ rfl rfl hl.1 rfl (lv_room (Nat.le_of_ble_eq_true rfl)) dJ5_append_c97b9_30 ⟨Nat.le_of_ble_eq_true rfl, Nat.le_of_ble_eq_true rfl⟩) hS hFc hP hD [1] [0] rfl rfl (by decide) (by decide) (fun H locs hP hD hS => ?_)
  replace hP : va_P E.1 vwCl [(av, .inr (0, [.ref v1, .int (0 : Int32), .int ml, .int (nI kk)])), (v1, .inl (E.2.2.1, m1, .inl c2))] H := hP
  replace hD : va_D A [(av, .inr (0, [.ref v1, .int (0 : Int32), .int ml, .int (nI kk)])), (v1, .inl (E.2.2.1, m1, .inl c2))] := hD
  refine lv_pop hx hb dJ5_append_c97b9_33 rfl ?_
  refine lv_goto (tgt := 48) hx hb dJ5_append_c97b9_34 (by decide) ?_
  refine lv_aload_n hx hb dJ5_append_c97b9_48 rfl (lv_at hl 2 rfl) ?_
  refine lv_iload_n hx hb dJ5_append_c97b9_49 rfl (lv_at hl 0 rfl) ?_
  refine va_put (D := E.1) (ci := 0) (v := .int (nI (kk + s9))) (ty := .int) (C := RJ4) (T := TJ4) (N := 4) hx hb hts i_h_appI5_J4 tyJ4 tyJ4_ok nmJ4 hown hK hP hD hS 0 rfl rfl 3 (by decide) (hts (.fieldLink RJ5 79 "java/lang/AbstractStringBuilder" "count" "I") (List.mem_of_getElem? (i := 1) rfl)) (fun _ h9 => h9) rfl (by decide +kernel) rfl rfl (Nat.le_of_ble_eq_true rfl) dJ5_append_c97b9_50 (fun H locs hP hD hS => ?_)
  replace hP : va_P E.1 vwCl [(av, .inr (0, [.ref v1, .int (0 : Int32), .int ml, .int (nI (kk + s9))])), (v1, .inl (E.2.2.1, m1, .inl c2))] H := hP
  replace hD : va_D A [(av, .inr (0, [.ref v1, .int (0 : Int32), .int ml, .int (nI (kk + s9))])), (v1, .inl (E.2.2.1, m1, .inl c2))] := hD
  refine lv_aload_n hx hb dJ5_append_c97b9_53 rfl (lv_at hl 2 rfl) ?_
  have hP9 := hP.sub (ws' := [(av, .inr (0, [.ref v1, .int (0 : Int32), .int ml, .int (nI (kk + s9))])), (v1, .inl (E.2.2.1, m1, .inl c2))]) [0, 1] rfl
  have hD9 := hD.sub (ws' := [(av, .inr (0, [.ref v1, .int (0 : Int32), .int ml, .int (nI (kk + s9))])), (v1, .inl (E.2.2.1, m1, .inl c2))]) [0, 1] (by decide) rfl
  rw [hQ]
  exact W.aret (v := .ref av) hx hb hr (Or.inl ⟨_, rfl⟩) (Or.inr ⟨_, rfl⟩) (fun tt ht hW => ⟨⟨(v1, m1, c2), av, rfl, ⟨g1, g2, hG2⟩, rfl, by rw [ht]; exact hP9, hD9⟩, hS.F ht⟩) hS.2.2 dJ5_append_c97b9_54

def v_h_appS5 : List Cond := .code yJ5_append_cf1ce cJ5_append_cf1ce 3 (some (.object "java/lang/AbstractStringBuilder")) :: ([.fieldLink RJ5 79 "java/lang/AbstractStringBuilder" "count" "I", .methodLink RJ5 32 yJ0_length_8abf5, .instanceMethod yJ0_length_8abf5, .selects RJ0 yJ0_length_8abf5 yJ0_length_8abf5, .initialized RJ0, .methodLink RJ5 100 yJ5_ensureCapacityInternal_d00df, .instanceMethod yJ5_ensureCapacityInternal_d00df, .selects RJ4 yJ5_ensureCapacityInternal_d00df yJ5_ensureCapacityInternal_d00df, .initialized RJ5, .methodLink RJ5 208 yJ5_putStringAt_47b60, .instanceMethod yJ5_putStringAt_47b60, .selects RJ4 yJ5_putStringAt_47b60 yJ5_putStringAt_47b60] ++ (v_f_J0_length_8abf5 ++ (wsJ40 ++ (v_h_ens ++ (v_f_J5_putStringAt_47b60 ++ ([]))))))
theorem gw_h_appS5 : v_h_appS5.all goodWord = true := by decide +kernel
theorem i_h_appS5_J4 : ∀ w ∈ wsJ40, w ∈ v_h_appS5 := fun _ h => List.mem_cons_of_mem _ (List.mem_append_right _ (List.mem_append_right _ (List.mem_append_left _ h)))
theorem g_h_appS5_f_J0_length_8abf5_32 : GoodIn v_h_appS5 (wsV RJ5 32 RJ0 yJ0_length_8abf5 v_f_J0_length_8abf5) := goodIn_app (goodIn_of _ (by decide +kernel)) (goodIn_sub (fun _ h => List.mem_cons_of_mem _ (List.mem_append_right _ (List.mem_append_left _ h))) gw_f_J0_length_8abf5)
theorem g_h_appS5_h_ens_100 : GoodIn v_h_appS5 (wsC RJ5 100 RJ4 yJ5_ensureCapacityInternal_d00df v_h_ens) := goodIn_app (goodIn_of _ (by decide +kernel)) (goodIn_sub (fun _ h => List.mem_cons_of_mem _ (List.mem_append_right _ (List.mem_append_right _ (List.mem_append_right _ (List.mem_append_left _ h))))) gw_h_ens)
theorem g_h_appS5_f_J5_putStringAt_47b60_208 : GoodIn v_h_appS5 (wsC RJ5 208 RJ4 yJ5_putStringAt_47b60 v_f_J5_putStringAt_47b60) := goodIn_app (goodIn_of _ (by decide +kernel)) (goodIn_sub (fun _ h => List.mem_cons_of_mem _ (List.mem_append_right _ (List.mem_append_right _ (List.mem_append_right _ (List.mem_append_right _ (List.mem_append_left _ h)))))) gw_f_J5_putStringAt_47b60)
set_option maxHeartbeats 4000000 in
set_option maxRecDepth 100000 in
theorem h_appS5 (l : Launch) (E : EE) (sz : Nat) (z9 : Nat → Nat) {av vv mz kk pp w9 : Nat} {ml : Int32} {fc : Nat → Int32} (hm : OKm mz) (hk : kk + w9 ≤ 34) (hf : sb_Fit fc) (hp : (pp = 12 ∧ w9 = 5) ∨ (pp = 13 ∧ w9 = 4)) : Met l yJ5_append_cf1ce v_h_appS5 (({ frames := 4, cells := 1, slots := 34, locals := 105 } : Room)) (va_Pc [.ref av, .ref (z9 (20 + pp))] (qWZ E z9 sz (wSB E av vv mz ml (nI kk) fc))) (va_Qr (fun (u : Nat × Nat × (Nat → Int32)) => OKm u.2.1 ∧ kk + w9 ≤ u.2.1 ∧ sb_Fit u.2.2) (fun (u : Nat × Nat × (Nat → Int32)) (ra : Nat) tt => ra = av ∧ va_P E.1 vwCl (wSB E av u.1 u.2.1 ml (nI (kk + w9)) u.2.2) tt.heap ∧ va_D (va_A (wSB E av vv mz ml (nI kk) fc) sz) (wSB E av u.1 u.2.1 ml (nI (kk + w9)) u.2.2)) (va_A (wSB E av vv mz ml (nI kk) fc) sz)) 1 34 (va_A (wSB E av vv mz ml (nI kk) fc) sz) := by
  refine Met.ofWF (cc := cJ5_append_cf1ce) (maxL := 3) (ret := (some (.object "java/lang/AbstractStringBuilder"))) (by decide +kernel) rfl ?_
  intro p e s m args below meth c s₁ B hml hv
  obtain ⟨rfl, hsz, ⟨hK, hN⟩, hP, hD0, hZ⟩ := hv
  have hx := B.exec
  have hb := B.bytes
  have hr := B.returns
  have hts := atoms_spec (ws := v_h_appS5) B.pre
  have hown : s.vm.findClass RJ5 = some m.cls := own_of (by decide +kernel) (findClass_of_methodNamed B.named)
  have hlocks : meth.locks = false := B.notSynchronized
  subst hsz
  have hD := hD0.self (sz := s.heap.size)
  generalize hAe : va_A (wSB E av vv mz ml (nI kk) fc) s.heap.size = A at hD hZ ⊢
  have hA : ∀ q : Nat, s.heap.size ≤ q → A q := fun q h => by rw [← hAe]; exact Or.inr h
  have hS : va_S A s.heap s.heap [] := va_S.rf
  have hl := lv_entry ([.ref av, .ref (z9 (20 + pp))]) (n := 3) (Nat.le_of_ble_eq_true rfl)
  rw [lg_entry_eq]
  generalize (lg_sl ([.ref av, .ref (z9 (20 + pp))]) ++ List.replicate (3 - (lg_sl ([.ref av, .ref (z9 (20 + pp))])).length) Slot.unset).toArray = ls at hl ⊢
  have hl : lv_has ls 3 [(0, .ref av), (1, .ref (z9 (20 + pp)))] := hl
  obtain ⟨Q, hQ⟩ : ∃ Q : State → Prop, Q = MQ below (va_Qr (fun (u : Nat × Nat × (Nat → Int32)) => OKm u.2.1 ∧ kk + w9 ≤ u.2.1 ∧ sb_Fit u.2.2) (fun (u : Nat × Nat × (Nat → Int32)) (ra : Nat) tt => ra = av ∧ va_P E.1 vwCl (wSB E av u.1 u.2.1 ml (nI (kk + w9)) u.2.2) tt.heap ∧ va_D A (wSB E av u.1 u.2.1 ml (nI (kk + w9)) u.2.2)) A) #[Value.ref av, Value.ref (z9 (20 + pp))] s 1 34 A := ⟨_, rfl⟩
  rw [← hQ]
  change W p l e ({ frames := 4, cells := 1, slots := 34, locals := 105 } : Room) s m #[Value.ref av, Value.ref (z9 (20 + pp))] below meth c s.heap [] 0 0 Q (F0 m 0 ls [])
  suffices hh9 : ∀ (H : Heap) (locs : List Loc), va_P E.1 vwCl (wSB E av vv mz ml (nI kk) fc) H → va_D A (wSB E av vv mz ml (nI kk) fc) → va_S A s.heap H locs → W p l e ({ frames := 4, cells := 1, slots := 34, locals := 105 } : Room) s m #[Value.ref av, Value.ref (z9 (20 + pp))] below meth c H locs 0 0 Q (F0 m 0 ls []) from hh9 s.heap [] hP hD hS
  clear hP hD hS
  intro H locs hP hD hS
  replace hP : va_P E.1 vwCl [(av, .inr (0, [.ref vv, .int (0 : Int32), .int ml, .int (nI kk)])), (vv, .inl (E.2.2.1, mz, .inl fc))] H := hP
  replace hD : va_D A [(av, .inr (0, [.ref vv, .int (0 : Int32), .int ml, .int (nI kk)])), (vv, .inl (E.2.2.1, mz, .inl fc))] := hD
  refine lv_aload_n hx hb dJ5_append_cf1ce_0 rfl (lv_at hl 1 rfl) ?_
  refine lv_ifnonnull (tgt := 9) hx hb dJ5_append_cf1ce_1 (by decide) ?_
  refine lv_aload_n hx hb dJ5_append_cf1ce_9 rfl (lv_at hl 1 rfl) ?_
  have hPc : va_P E.1 vwCl [] H := fun k q h => by simp at h
  refine pE_i (va_runV (As := []) (rest := []) ⟨hx, hb, hml, hown, hts⟩ (f_J0_length_8abf5 l E z9 (p0 := pp) (ln_ok hp)) (cwV 0 hts g_h_appS5_f_J0_length_8abf5_32 rfl rfl rfl (by decide +kernel) ⟨Nat.le_of_ble_eq_true rfl, Nat.le_of_ble_eq_true rfl⟩) ⟨qPZ.blind, vk_recv hZ.2.2.2.1 (show pp < 15 by omega) hS, (qPZ.pre ⟨hK, hN⟩ hPc hZ hS)⟩ rfl rfl hl.1 rfl (lv_room (Nat.le_of_ble_eq_true rfl)) dJ5_append_cf1ce_10 ⟨Nat.le_of_ble_eq_true rfl, Nat.le_of_ble_eq_true rfl⟩) ?_
  refine lv_istore_n (lv' := [(2, .int (nI w9)), (0, .ref av), (1, .ref (z9 (20 + pp)))]) hx hb dJ5_append_cf1ce_13 rfl hl (by decide) rfl (fun ls hl => ?_)
  refine lv_aload_n hx hb dJ5_append_cf1ce_14 rfl (lv_at hl 1 rfl) ?_
  refine lv_aload_n hx hb dJ5_append_cf1ce_15 rfl (lv_at hl 1 rfl) ?_
  refine va_get (D := E.1) (ci := 0) (v := .int (nI kk)) (C := RJ4) (T := TJ4) (N := 4) hx hb hts i_h_appS5_J4 hown hK hP 0 rfl rfl 3 (by decide) (hts (.fieldLink RJ5 79 "java/lang/AbstractStringBuilder" "count" "I") (List.mem_of_getElem? (i := 1) rfl)) (fun _ h9 => h9) rfl dJ5_append_cf1ce_16 ?_
  refine lv_iload_n hx hb dJ5_append_cf1ce_19 rfl (lv_at hl 0 rfl) ?_
  refine lv_iadd hx hb dJ5_append_cf1ce_20 ?_
  refine lv_topi (fun z_1 ez_1 => ?_)
  obtain rfl : z_1 = nI (kk + w9) := ez_1.trans (nI_add kk w9)
  obtain ⟨hPc, hDc, hFc⟩ := wcut (wc := (wSB E av vv mz ml (nI kk) fc)) hP hD hS hA [0, 1] (by decide) rfl
  have hrc := va_recv hK hPc (ci := 0) (q0 := 0) rfl rfl
  refine va_callv (va_runV (As := [.int (nI (kk + w9))]) (rest := []) ⟨hx, hb, hml, hown, hts⟩ (h_ens l E H.size (av := av) (vv := vv) (mz := mz) (kk := kk + w9) (ml := ml) (nn := nI kk) (fc := fc) hm hk hf) (cwC 1 hts g_h_appS5_h_ens_100 rfl rfl rfl (by decide +kernel) ⟨Nat.le_of_ble_eq_true rfl, Nat.le_of_ble_eq_true rfl⟩) ⟨pW.blind, hrc, (pW.pre ⟨hK, hN⟩ hPc hDc)⟩ rfl rfl hl.1 rfl (lv_room (Nat.le_of_ble_eq_true rfl)) dJ5_append_cf1ce_21 ⟨Nat.le_of_ble_eq_true rfl, Nat.le_of_ble_eq_true rfl⟩) hS (fun q _ h => hFc q h) hFc (fun u9  tt H1 locs ht hvm hw hB hz1 hk1 hS => ?_)
  obtain ⟨v1, m1, c1⟩ := u9
  obtain ⟨g1, g2, g3, g4⟩ := hw
  obtain ⟨hP1, hD1⟩ := hB
  rw [ht] at hP1
  obtain ⟨hP, hD⟩ := va_join (wr := []) (w1 := [(av, .inr (0, [.ref v1, .int (0 : Int32), .int ml, .int (nI kk)])), (v1, .inl (E.2.2.1, m1, .inl c1))]) hP hD [0, 1] [] rfl rfl (by decide) (by decide) hk1 hFc hP1 hD1
  generalize H1 = H at hP hS ⊢
  replace hP : va_P E.1 vwCl [(av, .inr (0, [.ref v1, .int (0 : Int32), .int ml, .int (nI kk)])), (v1, .inl (E.2.2.1, m1, .inl c1))] H := hP
  replace hD : va_D A [(av, .inr (0, [.ref v1, .int (0 : Int32), .int ml, .int (nI kk)])), (v1, .inl (E.2.2.1, m1, .inl c1))] := hD
  refine W.widen (k := 1) (n := 34) (Nat.le_of_ble_eq_true rfl) (Nat.le_of_ble_eq_true rfl) ?_
  have g1 : OKm m1 := g1
  have g2 : kk + w9 ≤ m1 := g2
  have g4 : sb_Fit c1 := g4
  refine lv_aload_n hx hb dJ5_append_cf1ce_24 rfl (lv_at hl 1 rfl) ?_
  refine lv_aload_n hx hb dJ5_append_cf1ce_25 rfl (lv_at hl 1 rfl) ?_
  refine va_get (D := E.1) (ci := 0) (v := .int (nI kk)) (C := RJ4) (T := TJ4) (N := 4) hx hb hts i_h_appS5_J4 hown hK hP 0 rfl rfl 3 (by decide) (hts (.fieldLink RJ5 79 "java/lang/AbstractStringBuilder" "count" "I") (List.mem_of_getElem? (i := 1) rfl)) (fun _ h9 => h9) rfl dJ5_append_cf1ce_26 ?_
  refine lv_aload_n hx hb dJ5_append_cf1ce_29 rfl (lv_at hl 2 rfl) ?_
  obtain ⟨c2, hG1, hG2⟩ := ps_ok hp g2 g1.le g4
  obtain ⟨hPc, hDc, hFc⟩ := wcut (wc := (w_J5_putStringAt_47b60 E av v1 (0 : Int32) ml (nI kk) c1 m1)) hP hD hS hA [0, 1] (by decide) rfl
  have hrc := va_recv hK hPc (ci := 0) (q0 := 0) rfl rfl
  refine cE_v (wc := (w_J5_putStringAt_47b60 E av v1 (0 : Int32) ml (nI kk) c1 m1)) (wr := []) (w1 := (w_J5_putStringAt_47b60 E av v1 (0 : Int32) ml (nI kk) c2 m1)) (va_runV (As := [.int (nI kk), .ref (z9 (20 + pp))]) (rest := []) ⟨hx, hb, hml, hown, hts⟩ (f_J5_putStringAt_47b60 l E H.size z9 (a_ := av) (a_value := v1) (p1 := nI kk) (p2 := pp) (c_coder := (0 : Int32)) (c_maybeLatin1 := ml) (c_count := nI kk) (c_value := c1) (m9 := m1) hG1) (cwC 2 hts g_h_appS5_f_J5_putStringAt_47b60_208 rfl rfl rfl (by decide +kernel) ⟨Nat.le_of_ble_eq_true rfl, Nat.le_of_ble_eq_true rfl⟩) ⟨qWZ.blind, hrc, (qWZ.pre ⟨hK, hN⟩ hPc hDc hZ hS hFc)⟩ rfl rfl hl.1 rfl (lv_room (Nat.le_of_ble_eq_true rfl)) dJ5_append_cf1ce_30 ⟨Nat.le_of_ble_eq_true rfl, Nat.le_of_ble_eq_true rfl⟩) hS hFc hP hD [0, 1] [] rfl rfl (by decide) (by decide) (fun H locs hP hD hS => ?_)
  replace hP : va_P E.1 vwCl [(av, .inr (0, [.ref v1, .int (0 : Int32), .int ml, .int (nI kk)])), (v1, .inl (E.2.2.1, m1, .inl c2))] H := hP
  replace hD : va_D A [(av, .inr (0, [.ref v1, .int (0 : Int32), .int ml, .int (nI kk)])), (v1, .inl (E.2.2.1, m1, .inl c2))] := hD
  refine lv_aload_n hx hb dJ5_append_cf1ce_33 rfl (lv_at hl 1 rfl) ?_
  refine lv_dup hx hb dJ5_append_cf1ce_34 rfl ?_
  refine va_get (D := E.1) (ci := 0) (v := .int (nI kk)) (C := RJ4) (T := TJ4) (N := 4) hx hb hts i_h_appS5_J4 hown hK hP 0 rfl rfl 3 (by decide) (hts (.fieldLink RJ5 79 "java/lang/AbstractStringBuilder" "count" "I") (List.mem_of_getElem? (i := 1) rfl)) (fun _ h9 => h9) rfl dJ5_append_cf1ce_35 ?_
  refine lv_iload_n hx hb dJ5_append_cf1ce_38 rfl (lv_at hl 0 rfl) ?_
  refine lv_iadd hx hb dJ5_append_cf1ce_39 ?_
  refine lv_topi (fun z_3 ez_3 => ?_)
  obtain rfl : z_3 = nI (kk + w9) := ez_3.trans (nI_add kk w9)
  refine va_put (D := E.1) (ci := 0) (v := .int (nI (kk + w9))) (ty := .int) (C := RJ4) (T := TJ4) (N := 4) hx hb hts i_h_appS5_J4 tyJ4 tyJ4_ok nmJ4 hown hK hP hD hS 0 rfl rfl 3 (by decide) (hts (.fieldLink RJ5 79 "java/lang/AbstractStringBuilder" "count" "I") (List.mem_of_getElem? (i := 1) rfl)) (fun _ h9 => h9) rfl (by decide +kernel) rfl rfl (Nat.le_of_ble_eq_true rfl) dJ5_append_cf1ce_40 (fun H locs hP hD hS => ?_)
  replace hP : va_P E.1 vwCl [(av, .inr (0, [.ref v1, .int (0 : Int32), .int ml, .int (nI (kk + w9))])), (v1, .inl (E.2.2.1, m1, .inl c2))] H := hP
  replace hD : va_D A [(av, .inr (0, [.ref v1, .int (0 : Int32), .int ml, .int (nI (kk + w9))])), (v1, .inl (E.2.2.1, m1, .inl c2))] := hD
  refine lv_aload_n hx hb dJ5_append_cf1ce_43 rfl (lv_at hl 1 rfl) ?_
  have hP9 := hP.sub (ws' := [(av, .inr (0, [.ref v1, .int (0 : Int32), .int ml, .int (nI (kk + w9))])), (v1, .inl (E.2.2.1, m1, .inl c2))]) [0, 1] rfl
  have hD9 := hD.sub (ws' := [(av, .inr (0, [.ref v1, .int (0 : Int32), .int ml, .int (nI (kk + w9))])), (v1, .inl (E.2.2.1, m1, .inl c2))]) [0, 1] (by decide) rfl
  rw [hQ]
  exact W.aret (v := .ref av) hx hb hr (Or.inl ⟨_, rfl⟩) (Or.inr ⟨_, rfl⟩) (fun tt ht hW => ⟨⟨(v1, m1, c2), av, rfl, ⟨g1, g2, hG2⟩, rfl, by rw [ht]; exact hP9, hD9⟩, hS.F ht⟩) hS.2.2 dJ5_append_cf1ce_44

def v_h_appC : List Cond := .code yJ4_append_cf468 cJ4_append_cf468 2 (some (.object "java/lang/StringBuilder")) :: ([.methodLink RJ4 50 yJ5_append_3fe6f, .sameMethod RJ5 RJ5 "append" "(C)Ljava/lang/AbstractStringBuilder;", .superclass RJ4 RJ5, .instanceMethod yJ5_append_3fe6f, .initialized RJ5] ++ (v_h_appC5 ++ ([])))
theorem gw_h_appC : v_h_appC.all goodWord = true := by decide +kernel
theorem g_h_appC_h_appC5_50 : GoodIn v_h_appC (va_wsSU RJ4 50 yJ5_append_3fe6f v_h_appC5) := goodIn_app (goodIn_of _ (by decide +kernel)) (goodIn_sub (fun _ h => List.mem_cons_of_mem _ (List.mem_append_right _ (List.mem_append_left _ h))) gw_h_appC5)
set_option maxHeartbeats 4000000 in
set_option maxRecDepth 100000 in
theorem h_appC (l : Launch) (E : EE) (sz : Nat) (z9 : Nat → Nat) {av vv mz kk : Nat} {ml : Int32} {fc : Nat → Int32} {ch : Int32} (hm : OKm mz) (hk : kk + 1 ≤ 34) (hf : sb_Fit fc) (hc : F_J1_canEncode_fc78d ch = some 1) : Met l yJ4_append_cf468 v_h_appC (({ frames := 5, cells := 1, slots := 34, locals := 125 } : Room)) (va_Pc [.ref av, .int ch] (qWZ E z9 sz (wSB E av vv mz ml (nI kk) fc))) (va_Qr (fun (u : Nat × Nat × (Nat → Int32)) => OKm u.2.1 ∧ kk + 1 ≤ u.2.1 ∧ sb_Fit u.2.2) (fun (u : Nat × Nat × (Nat → Int32)) (ra : Nat) tt => ra = av ∧ va_P E.1 vwCl (wSB E av u.1 u.2.1 ml (nI (kk + 1)) u.2.2) tt.heap ∧ va_D (va_A (wSB E av vv mz ml (nI kk) fc) sz) (wSB E av u.1 u.2.1 ml (nI (kk + 1)) u.2.2)) (va_A (wSB E av vv mz ml (nI kk) fc) sz)) 1 34 (va_A (wSB E av vv mz ml (nI kk) fc) sz) := by
  refine Met.ofWF (cc := cJ4_append_cf468) (maxL := 2) (ret := (some (.object "java/lang/StringBuilder"))) (by decide +kernel) rfl ?_
  intro p e s m args below meth c s₁ B hml hv
  obtain ⟨rfl, hsz, ⟨hK, hN⟩, hP, hD0, hZ⟩ := hv
  have hx := B.exec
  have hb := B.bytes
  have hr := B.returns
  have hts := atoms_spec (ws := v_h_appC) B.pre
  have hown : s.vm.findClass RJ4 = some m.cls := own_of (by decide +kernel) (findClass_of_methodNamed B.named)
  have hlocks : meth.locks = false := B.notSynchronized
  subst hsz
  have hD := hD0.self (sz := s.heap.size)
  generalize hAe : va_A (wSB E av vv mz ml (nI kk) fc) s.heap.size = A at hD hZ ⊢
  have hA : ∀ q : Nat, s.heap.size ≤ q → A q := fun q h => by rw [← hAe]; exact Or.inr h
  have hS : va_S A s.heap s.heap [] := va_S.rf
  have hl := lv_entry ([.ref av, .int ch]) (n := 2) (Nat.le_of_ble_eq_true rfl)
  rw [lg_entry_eq]
  generalize (lg_sl ([.ref av, .int ch]) ++ List.replicate (2 - (lg_sl ([.ref av, .int ch])).length) Slot.unset).toArray = ls at hl ⊢
  have hl : lv_has ls 2 [(0, .ref av), (1, .int ch)] := hl
  obtain ⟨Q, hQ⟩ : ∃ Q : State → Prop, Q = MQ below (va_Qr (fun (u : Nat × Nat × (Nat → Int32)) => OKm u.2.1 ∧ kk + 1 ≤ u.2.1 ∧ sb_Fit u.2.2) (fun (u : Nat × Nat × (Nat → Int32)) (ra : Nat) tt => ra = av ∧ va_P E.1 vwCl (wSB E av u.1 u.2.1 ml (nI (kk + 1)) u.2.2) tt.heap ∧ va_D A (wSB E av u.1 u.2.1 ml (nI (kk + 1)) u.2.2)) A) #[Value.ref av, Value.int ch] s 1 34 A := ⟨_, rfl⟩
  rw [← hQ]
  change W p l e ({ frames := 5, cells := 1, slots := 34, locals := 125 } : Room) s m #[Value.ref av, Value.int ch] below meth c s.heap [] 0 0 Q (F0 m 0 ls [])
  suffices hh9 : ∀ (H : Heap) (locs : List Loc), va_P E.1 vwCl (wSB E av vv mz ml (nI kk) fc) H → va_D A (wSB E av vv mz ml (nI kk) fc) → va_S A s.heap H locs → W p l e ({ frames := 5, cells := 1, slots := 34, locals := 125 } : Room) s m #[Value.ref av, Value.int ch] below meth c H locs 0 0 Q (F0 m 0 ls []) from hh9 s.heap [] hP hD hS
  clear hP hD hS
  intro H locs hP hD hS
  replace hP : va_P E.1 vwCl [(av, .inr (0, [.ref vv, .int (0 : Int32), .int ml, .int (nI kk)])), (vv, .inl (E.2.2.1, mz, .inl fc))] H := hP
  replace hD : va_D A [(av, .inr (0, [.ref vv, .int (0 : Int32), .int ml, .int (nI kk)])), (vv, .inl (E.2.2.1, mz, .inl fc))] := hD
  refine lv_aload_n hx hb dJ4_append_cf468_0 rfl (lv_at hl 0 rfl) ?_
  refine lv_iload_n hx hb dJ4_append_cf468_1 rfl (lv_at hl 1 rfl) ?_
  obtain ⟨hPc, hDc, hFc⟩ := wcut (wc := (wSB E av vv mz ml (nI kk) fc)) hP hD hS hA [0, 1] (by decide) rfl
  refine va_callr (va_runSU (As := [.int ch]) (rest := []) (hK.1 0 (RJ4, TJ4, 4) rfl).2 ⟨hx, hb, hml, hown, hts⟩ (h_appC5 l E H.size z9 (av := av) (vv := vv) (mz := mz) (kk := kk) (ml := ml) (fc := fc) (ch := ch) hm hk hf hc) (va_cwSU 1 hts g_h_appC_h_appC5_50 rfl rfl rfl (by decide +kernel) ⟨Nat.le_of_ble_eq_true rfl, Nat.le_of_ble_eq_true rfl⟩) ⟨qWZ.blind, va_recv hK hPc (ci := 0) (q0 := 0) rfl rfl, (qWZ.pre ⟨hK, hN⟩ hPc hDc hZ hS hFc)⟩ rfl rfl hl.1 rfl (lv_room (Nat.le_of_ble_eq_true rfl)) dJ4_append_cf468_2 ⟨Nat.le_of_ble_eq_true rfl, Nat.le_of_ble_eq_true rfl⟩) hS (fun q _ h => hFc q h) hFc (fun u9 ra_1 tt H1 locs ht hvm hw hB hz1 hk1 hS => ?_)
  obtain ⟨v1, m1, c1⟩ := u9
  obtain ⟨g1, g2, g4⟩ := hw
  obtain ⟨hra, hP1, hD1⟩ := hB
  rw [hra]
  rw [ht] at hP1
  obtain ⟨hP, hD⟩ := va_join (wr := []) (w1 := [(av, .inr (0, [.ref v1, .int (0 : Int32), .int ml, .int (nI (kk + 1))])), (v1, .inl (E.2.2.1, m1, .inl c1))]) hP hD [0, 1] [] rfl rfl (by decide) (by decide) hk1 hFc hP1 hD1
  generalize H1 = H at hP hS ⊢
  replace hP : va_P E.1 vwCl [(av, .inr (0, [.ref v1, .int (0 : Int32), .int ml, .int (nI (kk + 1))])), (v1, .inl (E.2.2.1, m1, .inl c1))] H := hP
  replace hD : va_D A [(av, .inr (0, [.ref v1, .int (0 : Int32), .int ml, .int (nI (kk + 1))])), (v1, .inl (E.2.2.1, m1, .inl c1))] := hD
  refine W.widen (k := 1) (n := 34) (Nat.le_of_ble_eq_true rfl) (Nat.le_of_ble_eq_true rfl) ?_
  refine lv_pop hx hb dJ4_append_cf468_5 rfl ?_
  refine lv_aload_n hx hb dJ4_append_cf468_6 rfl (lv_at hl 0 rfl) ?_
  have hP9 := hP.sub (ws' := [(av, .inr (0, [.ref v1, .int (0 : Int32), .int ml, .int (nI (kk + 1))])), (v1, .inl (E.2.2.1, m1, .inl c1))]) [0, 1] rfl
  have hD9 := hD.sub (ws' := [(av, .inr (0, [.ref v1, .int (0 : Int32), .int ml, .int (nI (kk + 1))])), (v1, .inl (E.2.2.1, m1, .inl c1))]) [0, 1] (by decide) rfl
  rw [hQ]
  exact W.aret (v := .ref av) hx hb hr (Or.inl ⟨_, rfl⟩) (Or.inr ⟨_, rfl⟩) (fun tt ht hW => ⟨⟨(v1, m1, c1), av, rfl, ⟨g1, g2, g4⟩, rfl, by rw [ht]; exact hP9, hD9⟩, hS.F ht⟩) hS.2.2 dJ4_append_cf468_7

def v_h_appI : List Cond := .code yJ4_append_bf812 cJ4_append_bf812 2 (some (.object "java/lang/StringBuilder")) :: ([.methodLink RJ4 53 yJ5_append_c97b9, .sameMethod RJ5 RJ5 "append" "(I)Ljava/lang/AbstractStringBuilder;", .superclass RJ4 RJ5, .instanceMethod yJ5_append_c97b9, .initialized RJ5] ++ (v_h_appI5 ++ ([])))
theorem gw_h_appI : v_h_appI.all goodWord = true := by decide +kernel
theorem g_h_appI_h_appI5_53 : GoodIn v_h_appI (va_wsSU RJ4 53 yJ5_append_c97b9 v_h_appI5) := goodIn_app (goodIn_of _ (by decide +kernel)) (goodIn_sub (fun _ h => List.mem_cons_of_mem _ (List.mem_append_right _ (List.mem_append_left _ h))) gw_h_appI5)
set_option maxHeartbeats 4000000 in
set_option maxRecDepth 100000 in
theorem h_appI (l : Launch) (E : EE) (sz : Nat) (K : Nat) (z9 : Nat → Nat) {av vv mz kk : Nat} {ml : Int32} {fc : Nat → Int32} {iv : Int32} {s9 : Nat} (hm : OKm mz) (hk : kk + s9 ≤ 34) (hf : sb_Fit fc) (hs9 : F_J6_stringSize_0f7a4 K iv = some (nI s9)) (hG : ∀ (m1 : Nat) (c1 : Nat → Int32), m1 ≤ 34 → kk + s9 ≤ m1 → sb_Fit c1 → ∃ r c2, F_J6_getChars_ba4f3 K iv (nI (kk + s9)) c1 m1 = some (r, c2) ∧ sb_Fit c2) : Met l yJ4_append_bf812 v_h_appI (({ frames := 5, cells := 1, slots := 34, locals := 127 } : Room)) (va_Pc [.ref av, .int iv] (qWZ E z9 sz (wSB E av vv mz ml (nI kk) fc))) (va_Qr (fun (u : Nat × Nat × (Nat → Int32)) => OKm u.2.1 ∧ kk + s9 ≤ u.2.1 ∧ sb_Fit u.2.2) (fun (u : Nat × Nat × (Nat → Int32)) (ra : Nat) tt => ra = av ∧ va_P E.1 vwCl (wSB E av u.1 u.2.1 ml (nI (kk + s9)) u.2.2) tt.heap ∧ va_D (va_A (wSB E av vv mz ml (nI kk) fc) sz) (wSB E av u.1 u.2.1 ml (nI (kk + s9)) u.2.2)) (va_A (wSB E av vv mz ml (nI kk) fc) sz)) 1 34 (va_A (wSB E av vv mz ml (nI kk) fc) sz) := by
  refine Met.ofWF (cc := cJ4_append_bf812) (maxL := 2) (ret := (some (.object "java/lang/StringBuilder"))) (by decide +kernel) rfl ?_
  intro p e s m args below meth c s₁ B hml hv
  obtain ⟨rfl, hsz, ⟨hK, hN⟩, hP, hD0, hZ⟩ := hv
  have hx := B.exec
  have hb := B.bytes
  have hr := B.returns
  have hts := atoms_spec (ws := v_h_appI) B.pre
  have hown : s.vm.findClass RJ4 = some m.cls := own_of (by decide +kernel) (findClass_of_methodNamed B.named)
  have hlocks : meth.locks = false := B.notSynchronized
  subst hsz
  have hD := hD0.self (sz := s.heap.size)
  generalize hAe : va_A (wSB E av vv mz ml (nI kk) fc) s.heap.size = A at hD hZ ⊢
  have hA : ∀ q : Nat, s.heap.size ≤ q → A q := fun q h => by rw [← hAe]; exact Or.inr h
  have hS : va_S A s.heap s.heap [] := va_S.rf
  have hl := lv_entry ([.ref av, .int iv]) (n := 2) (Nat.le_of_ble_eq_true rfl)
  rw [lg_entry_eq]
  generalize (lg_sl ([.ref av, .int iv]) ++ List.replicate (2 - (lg_sl ([.ref av, .int iv])).length) Slot.unset).toArray = ls at hl ⊢
  have hl : lv_has ls 2 [(0, .ref av), (1, .int iv)] := hl
  obtain ⟨Q, hQ⟩ : ∃ Q : State → Prop, Q = MQ below (va_Qr (fun (u : Nat × Nat × (Nat → Int32)) => OKm u.2.1 ∧ kk + s9 ≤ u.2.1 ∧ sb_Fit u.2.2) (fun (u : Nat × Nat × (Nat → Int32)) (ra : Nat) tt => ra = av ∧ va_P E.1 vwCl (wSB E av u.1 u.2.1 ml (nI (kk + s9)) u.2.2) tt.heap ∧ va_D A (wSB E av u.1 u.2.1 ml (nI (kk + s9)) u.2.2)) A) #[Value.ref av, Value.int iv] s 1 34 A := ⟨_, rfl⟩
  rw [← hQ]
  change W p l e ({ frames := 5, cells := 1, slots := 34, locals := 127 } : Room) s m #[Value.ref av, Value.int iv] below meth c s.heap [] 0 0 Q (F0 m 0 ls [])
  suffices hh9 : ∀ (H : Heap) (locs : List Loc), va_P E.1 vwCl (wSB E av vv mz ml (nI kk) fc) H → va_D A (wSB E av vv mz ml (nI kk) fc) → va_S A s.heap H locs → W p l e ({ frames := 5, cells := 1, slots := 34, locals := 127 } : Room) s m #[Value.ref av, Value.int iv] below meth c H locs 0 0 Q (F0 m 0 ls []) from hh9 s.heap [] hP hD hS
  clear hP hD hS
  intro H locs hP hD hS
  replace hP : va_P E.1 vwCl [(av, .inr (0, [.ref vv, .int (0 : Int32), .int ml, .int (nI kk)])), (vv, .inl (E.2.2.1, mz, .inl fc))] H := hP
  replace hD : va_D A [(av, .inr (0, [.ref vv, .int (0 : Int32), .int ml, .int (nI kk)])), (vv, .inl (E.2.2.1, mz, .inl fc))] := hD
  refine lv_aload_n hx hb dJ4_append_bf812_0 rfl (lv_at hl 0 rfl) ?_
  refine lv_iload_n hx hb dJ4_append_bf812_1 rfl (lv_at hl 1 rfl) ?_
  obtain ⟨hPc, hDc, hFc⟩ := wcut (wc := (wSB E av vv mz ml (nI kk) fc)) hP hD hS hA [0, 1] (by decide) rfl
  refine va_callr (va_runSU (As := [.int iv]) (rest := []) (hK.1 0 (RJ4, TJ4, 4) rfl).2 ⟨hx, hb, hml, hown, hts⟩ (h_appI5 l E H.size K z9 (av := av) (vv := vv) (mz := mz) (kk := kk) (ml := ml) (fc := fc) (iv := iv) (s9 := s9) hm hk hf hs9 hG) (va_cwSU 1 hts g_h_appI_h_appI5_53 rfl rfl rfl (by decide +kernel) ⟨Nat.le_of_ble_eq_true rfl, Nat.le_of_ble_eq_true rfl⟩) ⟨qWZ.blind, va_recv hK hPc (ci := 0) (q0 := 0) rfl rfl, (qWZ.pre ⟨hK, hN⟩ hPc hDc hZ hS hFc)⟩ rfl rfl hl.1 rfl (lv_room (Nat.le_of_ble_eq_true rfl)) dJ4_append_bf812_2 ⟨Nat.le_of_ble_eq_true rfl, Nat.le_of_ble_eq_true rfl⟩) hS (fun q _ h => hFc q h) hFc (fun u9 ra_1 tt H1 locs ht hvm hw hB hz1 hk1 hS => ?_)
  obtain ⟨v1, m1, c1⟩ := u9
  obtain ⟨g1, g2, g4⟩ := hw
  obtain ⟨hra, hP1, hD1⟩ := hB
  rw [hra]
  rw [ht] at hP1
  obtain ⟨hP, hD⟩ := va_join (wr := []) (w1 := [(av, .inr (0, [.ref v1, .int (0 : Int32), .int ml, .int (nI (kk + s9))])), (v1, .inl (E.2.2.1, m1, .inl c1))]) hP hD [0, 1] [] rfl rfl (by decide) (by decide) hk1 hFc hP1 hD1
  generalize H1 = H at hP hS ⊢
  replace hP : va_P E.1 vwCl [(av, .inr (0, [.ref v1, .int (0 : Int32), .int ml, .int (nI (kk + s9))])), (v1, .inl (E.2.2.1, m1, .inl c1))] H := hP
  replace hD : va_D A [(av, .inr (0, [.ref v1, .int (0 : Int32), .int ml, .int (nI (kk + s9))])), (v1, .inl (E.2.2.1, m1, .inl c1))] := hD
  refine W.widen (k := 1) (n := 34) (Nat.le_of_ble_eq_true rfl) (Nat.le_of_ble_eq_true rfl) ?_
  refine lv_pop hx hb dJ4_append_bf812_5 rfl ?_
  refine lv_aload_n hx hb dJ4_append_bf812_6 rfl (lv_at hl 0 rfl) ?_
  have hP9 := hP.sub (ws' := [(av, .inr (0, [.ref v1, .int (0 : Int32), .int ml, .int (nI (kk + s9))])), (v1, .inl (E.2.2.1, m1, .inl c1))]) [0, 1] rfl
  have hD9 := hD.sub (ws' := [(av, .inr (0, [.ref v1, .int (0 : Int32), .int ml, .int (nI (kk + s9))])), (v1, .inl (E.2.2.1, m1, .inl c1))]) [0, 1] (by decide) rfl
  rw [hQ]
  exact W.aret (v := .ref av) hx hb hr (Or.inl ⟨_, rfl⟩) (Or.inr ⟨_, rfl⟩) (fun tt ht hW => ⟨⟨(v1, m1, c1), av, rfl, ⟨g1, g2, g4⟩, rfl, by rw [ht]; exact hP9, hD9⟩, hS.F ht⟩) hS.2.2 dJ4_append_bf812_7

def v_h_appS : List Cond := .code yJ4_append_15ec4 cJ4_append_15ec4 2 (some (.object "java/lang/StringBuilder")) :: ([.methodLink RJ4 29 yJ5_append_cf1ce, .sameMethod RJ5 RJ5 "append" "(Ljava/lang/String;)Ljava/lang/AbstractStringBuilder;", .superclass RJ4 RJ5, .instanceMethod yJ5_append_cf1ce, .initialized RJ5] ++ (v_h_appS5 ++ ([])))
theorem gw_h_appS : v_h_appS.all goodWord = true := by decide +kernel
theorem g_h_appS_h_appS5_29 : GoodIn v_h_appS (va_wsSU RJ4 29 yJ5_append_cf1ce v_h_appS5) := goodIn_app (goodIn_of _ (by decide +kernel)) (goodIn_sub (fun _ h => List.mem_cons_of_mem _ (List.mem_append_right _ (List.mem_append_left _ h))) gw_h_appS5)
set_option maxHeartbeats 4000000 in
set_option maxRecDepth 100000 in
theorem h_appS (l : Launch) (E : EE) (sz : Nat) (z9 : Nat → Nat) {av vv mz kk pp w9 : Nat} {ml : Int32} {fc : Nat → Int32} (hm : OKm mz) (hk : kk + w9 ≤ 34) (hf : sb_Fit fc) (hp : (pp = 12 ∧ w9 = 5) ∨ (pp = 13 ∧ w9 = 4)) : Met l yJ4_append_15ec4 v_h_appS (({ frames := 5, cells := 1, slots := 34, locals := 127 } : Room)) (va_Pc [.ref av, .ref (z9 (20 + pp))] (qWZ E z9 sz (wSB E av vv mz ml (nI kk) fc))) (va_Qr (fun (u : Nat × Nat × (Nat → Int32)) => OKm u.2.1 ∧ kk + w9 ≤ u.2.1 ∧ sb_Fit u.2.2) (fun (u : Nat × Nat × (Nat → Int32)) (ra : Nat) tt => ra = av ∧ va_P E.1 vwCl (wSB E av u.1 u.2.1 ml (nI (kk + w9)) u.2.2) tt.heap ∧ va_D (va_A (wSB E av vv mz ml (nI kk) fc) sz) (wSB E av u.1 u.2.1 ml (nI (kk + w9)) u.2.2)) (va_A (wSB E av vv mz ml (nI kk) fc) sz)) 1 34 (va_A (wSB E av vv mz ml (nI kk) fc) sz) := by
  refine Met.ofWF (cc := cJ4_append_15ec4) (maxL := 2) (ret := (some (.object "java/lang/StringBuilder"))) (by decide +kernel) rfl ?_
  intro p e s m args below meth c s₁ B hml hv
  obtain ⟨rfl, hsz, ⟨hK, hN⟩, hP, hD0, hZ⟩ := hv
  have hx := B.exec
  have hb := B.bytes
  have hr := B.returns
  have hts := atoms_spec (ws := v_h_appS) B.pre
  have hown : s.vm.findClass RJ4 = some m.cls := own_of (by decide +kernel) (findClass_of_methodNamed B.named)
  have hlocks : meth.locks = false := B.notSynchronized
  subst hsz
  have hD := hD0.self (sz := s.heap.size)
  generalize hAe : va_A (wSB E av vv mz ml (nI kk) fc) s.heap.size = A at hD hZ ⊢
  have hA : ∀ q : Nat, s.heap.size ≤ q → A q := fun q h => by rw [← hAe]; exact Or.inr h
  have hS : va_S A s.heap s.heap [] := va_S.rf
  have hl := lv_entry ([.ref av, .ref (z9 (20 + pp))]) (n := 2) (Nat.le_of_ble_eq_true rfl)
  rw [lg_entry_eq]
  generalize (lg_sl ([.ref av, .ref (z9 (20 + pp))]) ++ List.replicate (2 - (lg_sl ([.ref av, .ref (z9 (20 + pp))])).length) Slot.unset).toArray = ls at hl ⊢
  have hl : lv_has ls 2 [(0, .ref av), (1, .ref (z9 (20 + pp)))] := hl
  obtain ⟨Q, hQ⟩ : ∃ Q : State → Prop, Q = MQ below (va_Qr (fun (u : Nat × Nat × (Nat → Int32)) => OKm u.2.1 ∧ kk + w9 ≤ u.2.1 ∧ sb_Fit u.2.2) (fun (u : Nat × Nat × (Nat → Int32)) (ra : Nat) tt => ra = av ∧ va_P E.1 vwCl (wSB E av u.1 u.2.1 ml (nI (kk + w9)) u.2.2) tt.heap ∧ va_D A (wSB E av u.1 u.2.1 ml (nI (kk + w9)) u.2.2)) A) #[Value.ref av, Value.ref (z9 (20 + pp))] s 1 34 A := ⟨_, rfl⟩
  rw [← hQ]
  change W p l e ({ frames := 5, cells := 1, slots := 34, locals := 127 } : Room) s m #[Value.ref av, Value.ref (z9 (20 + pp))] below meth c s.heap [] 0 0 Q (F0 m 0 ls [])
  suffices hh9 : ∀ (H : Heap) (locs : List Loc), va_P E.1 vwCl (wSB E av vv mz ml (nI kk) fc) H → va_D A (wSB E av vv mz ml (nI kk) fc) → va_S A s.heap H locs → W p l e ({ frames := 5, cells := 1, slots := 34, locals := 127 } : Room) s m #[Value.ref av, Value.ref (z9 (20 + pp))] below meth c H locs 0 0 Q (F0 m 0 ls []) from hh9 s.heap [] hP hD hS
  clear hP hD hS
  intro H locs hP hD hS
  replace hP : va_P E.1 vwCl [(av, .inr (0, [.ref vv, .int (0 : Int32), .int ml, .int (nI kk)])), (vv, .inl (E.2.2.1, mz, .inl fc))] H := hP
  replace hD : va_D A [(av, .inr (0, [.ref vv, .int (0 : Int32), .int ml, .int (nI kk)])), (vv, .inl (E.2.2.1, mz, .inl fc))] := hD
  refine lv_aload_n hx hb dJ4_append_15ec4_0 rfl (lv_at hl 0 rfl) ?_
  refine lv_aload_n hx hb dJ4_append_15ec4_1 rfl (lv_at hl 1 rfl) ?_
  obtain ⟨hPc, hDc, hFc⟩ := wcut (wc := (wSB E av vv mz ml (nI kk) fc)) hP hD hS hA [0, 1] (by decide) rfl
  refine va_callr (va_runSU (As := [.ref (z9 (20 + pp))]) (rest := []) (hK.1 0 (RJ4, TJ4, 4) rfl).2 ⟨hx, hb, hml, hown, hts⟩ (h_appS5 l E H.size z9 (av := av) (vv := vv) (mz := mz) (kk := kk) (ml := ml) (fc := fc) (pp := pp) (w9 := w9) hm hk hf hp) (va_cwSU 1 hts g_h_appS_h_appS5_29 rfl rfl rfl (by decide +kernel) ⟨Nat.le_of_ble_eq_true rfl, Nat.le_of_ble_eq_true rfl⟩) ⟨qWZ.blind, va_recv hK hPc (ci := 0) (q0 := 0) rfl rfl, (qWZ.pre ⟨hK, hN⟩ hPc hDc hZ hS hFc)⟩ rfl rfl hl.1 rfl (lv_room (Nat.le_of_ble_eq_true rfl)) dJ4_append_15ec4_2 ⟨Nat.le_of_ble_eq_true rfl, Nat.le_of_ble_eq_true rfl⟩) hS (fun q _ h => hFc q h) hFc (fun u9 ra_1 tt H1 locs ht hvm hw hB hz1 hk1 hS => ?_)
  obtain ⟨v1, m1, c1⟩ := u9
  obtain ⟨g1, g2, g4⟩ := hw
  obtain ⟨hra, hP1, hD1⟩ := hB
  rw [hra]
  rw [ht] at hP1
  obtain ⟨hP, hD⟩ := va_join (wr := []) (w1 := [(av, .inr (0, [.ref v1, .int (0 : Int32), .int ml, .int (nI (kk + w9))])), (v1, .inl (E.2.2.1, m1, .inl c1))]) hP hD [0, 1] [] rfl rfl (by decide) (by decide) hk1 hFc hP1 hD1
  generalize H1 = H at hP hS ⊢
  replace hP : va_P E.1 vwCl [(av, .inr (0, [.ref v1, .int (0 : Int32), .int ml, .int (nI (kk + w9))])), (v1, .inl (E.2.2.1, m1, .inl c1))] H := hP
  replace hD : va_D A [(av, .inr (0, [.ref v1, .int (0 : Int32), .int ml, .int (nI (kk + w9))])), (v1, .inl (E.2.2.1, m1, .inl c1))] := hD
  refine W.widen (k := 1) (n := 34) (Nat.le_of_ble_eq_true rfl) (Nat.le_of_ble_eq_true rfl) ?_
  refine lv_pop hx hb dJ4_append_15ec4_5 rfl ?_
  refine lv_aload_n hx hb dJ4_append_15ec4_6 rfl (lv_at hl 0 rfl) ?_
  have hP9 := hP.sub (ws' := [(av, .inr (0, [.ref v1, .int (0 : Int32), .int ml, .int (nI (kk + w9))])), (v1, .inl (E.2.2.1, m1, .inl c1))]) [0, 1] rfl
  have hD9 := hD.sub (ws' := [(av, .inr (0, [.ref v1, .int (0 : Int32), .int ml, .int (nI (kk + w9))])), (v1, .inl (E.2.2.1, m1, .inl c1))]) [0, 1] (by decide) rfl
  rw [hQ]
  exact W.aret (v := .ref av) hx hb hr (Or.inl ⟨_, rfl⟩) (Or.inr ⟨_, rfl⟩) (fun tt ht hW => ⟨⟨(v1, m1, c1), av, rfl, ⟨g1, g2, g4⟩, rfl, by rw [ht]; exact hP9, hD9⟩, hS.F ht⟩) hS.2.2 dJ4_append_15ec4_7

def v_h_init5 : List Cond := .code yJ5_init_d00df cJ5_init_d00df 2 none :: ([.methodLink RJ5 3 objectInit, .instanceMethod objectInit, .code objectInit ⟨#[0xb1]⟩ 1 none, .fieldLink RJ5 18 "java/lang/String" "COMPACT_STRINGS" "Z", .arrayClass .byte, .fieldLink RJ5 15 "java/lang/AbstractStringBuilder" "value" "[B", .fieldLink RJ5 22 "java/lang/AbstractStringBuilder" "coder" "B"] ++ (wsJ40 ++ ([])))
theorem gw_h_init5 : v_h_init5.all goodWord = true := by decide +kernel
theorem i_h_init5_J4 : ∀ w ∈ wsJ40, w ∈ v_h_init5 := fun _ h => List.mem_cons_of_mem _ (List.mem_append_right _ (List.mem_append_left _ h))
set_option maxHeartbeats 4000000 in
set_option maxRecDepth 100000 in
theorem h_init5 (l : Launch) (E : EE) (sz : Nat) (z9 : Nat → Nat) {av : Nat}  : Met l yJ5_init_d00df v_h_init5 (({ frames := 1, cells := 1, slots := 16, locals := 20 } : Room)) (va_Pc [.ref av, .int (16 : Int32)] (qWZ E z9 sz [(av, .inr (0, [.null, .int 0, .int 0, .int 0]))])) (va_Qv (fun (_u : Nat) => True) (fun (u : Nat) tt => va_P E.1 vwCl (wSB E av u 16 0 0 (fun _ => 0)) tt.heap ∧ va_D (va_A [(av, .inr (0, [.null, .int 0, .int 0, .int 0]))] sz) (wSB E av u 16 0 0 (fun _ => 0))) (va_A [(av, .inr (0, [.null, .int 0, .int 0, .int 0]))] sz)) 1 16 (va_A [(av, .inr (0, [.null, .int 0, .int 0, .int 0]))] sz) := by
  refine Met.ofWF (cc := cJ5_init_d00df) (maxL := 2) (ret := none) (by decide +kernel) rfl ?_
  intro p e s m args below meth c s₁ B hml hv
  obtain ⟨rfl, hsz, ⟨hK, hN⟩, hP, hD0, hZ⟩ := hv
  have hx := B.exec
  have hb := B.bytes
  have hr := B.returns
  have hts := atoms_spec (ws := v_h_init5) B.pre
  have hown : s.vm.findClass RJ5 = some m.cls := own_of (by decide +kernel) (findClass_of_methodNamed B.named)
  have hlocks : meth.locks = false := B.notSynchronized
  have hin : meth.name = "<init>" := (name_of_methodNamed B.named B.method).1
  subst hsz
  have hD := hD0.self (sz := s.heap.size)
  generalize hAe : va_A [(av, .inr (0, [.null, .int 0, .int 0, .int 0]))] s.heap.size = A at hD hZ ⊢
  have hA : ∀ q : Nat, s.heap.size ≤ q → A q := fun q h => by rw [← hAe]; exact Or.inr h
  have hS : va_S A s.heap s.heap [] := va_S.rf
  have hl := lv_entry ([.ref av, .int (16 : Int32)]) (n := 2) (Nat.le_of_ble_eq_true rfl)
  rw [lg_entry_eq]
  generalize (lg_sl ([.ref av, .int (16 : Int32)]) ++ List.replicate (2 - (lg_sl ([.ref av, .int (16 : Int32)])).length) Slot.unset).toArray = ls at hl ⊢
  have hl : lv_has ls 2 [(0, .ref av), (1, .int (16 : Int32))] := hl
  obtain ⟨Q, hQ⟩ : ∃ Q : State → Prop, Q = MQ below (va_Qv (fun (_u : Nat) => True) (fun (u : Nat) tt => va_P E.1 vwCl (wSB E av u 16 0 0 (fun _ => 0)) tt.heap ∧ va_D A (wSB E av u 16 0 0 (fun _ => 0))) A) #[Value.ref av, Value.int (16 : Int32)] s 1 16 A := ⟨_, rfl⟩
  rw [← hQ]
  change W p l e ({ frames := 1, cells := 1, slots := 16, locals := 20 } : Room) s m #[Value.ref av, Value.int (16 : Int32)] below meth c s.heap [] 0 0 Q (F0 m 0 ls [])
  suffices hh9 : ∀ (H : Heap) (locs : List Loc), va_P E.1 vwCl [(av, .inr (0, [.null, .int 0, .int 0, .int 0]))] H → va_D A [(av, .inr (0, [.null, .int 0, .int 0, .int 0]))] → va_S A s.heap H locs → W p l e ({ frames := 1, cells := 1, slots := 16, locals := 20 } : Room) s m #[Value.ref av, Value.int (16 : Int32)] below meth c H locs 0 0 Q (F0 m 0 ls []) from hh9 s.heap [] hP hD hS
  clear hP hD hS
  intro H locs hP hD hS
  replace hP : va_P E.1 vwCl [(av, .inr (0, [.null, .int (0 : Int32), .int (0 : Int32), .int (0 : Int32)]))] H := hP
  replace hD : va_D A [(av, .inr (0, [.null, .int (0 : Int32), .int (0 : Int32), .int (0 : Int32)]))] := hD
  refine lv_aload_n hx hb dJ5_init_d00df_0 rfl (lv_at hl 0 rfl) ?_
  refine W.objInit hx hb hown (hts (.methodLink RJ5 3 objectInit) (List.mem_of_getElem? (i := 1) rfl)) (hts (.instanceMethod objectInit) (List.mem_of_getElem? (i := 2) rfl)) (hts (.code objectInit ⟨#[0xb1]⟩ 1 none) (List.mem_of_getElem? (i := 3) rfl)) rfl (by rw [hml]; exact hl.1) rfl dJ5_init_d00df_1 (Nat.le_of_ble_eq_true rfl) (Nat.le_of_ble_eq_true rfl) ?_
  refine W.eq (g2 := F0 m 4 ls []) rfl ?_
  refine va_gets hx hb hZ.2.2.1.1 hS hown (hts (.fieldLink RJ5 18 "java/lang/String" "COMPACT_STRINGS" "Z") (List.mem_of_getElem? (i := 4) rfl)) (fun _ h9 => h9) dJ5_init_d00df_4 ?_
  refine lv_if_eq (tgt := 25) hx hb dJ5_init_d00df_7 (by decide) (fun q => absurd q (by decide)) (fun _ => ?_)
  refine lv_aload_n hx hb dJ5_init_d00df_10 rfl (lv_at hl 0 rfl) ?_
  refine lv_iload_n hx hb dJ5_init_d00df_11 rfl (lv_at hl 1 rfl) ?_
  refine nw_arr (atype := .byte) (ty := .byte) (a0 := (16, .inl (fun _ => 0))) hx hb (hts (.arrayClass .byte) (List.mem_of_getElem? (i := 5) rfl)) rfl hK hP hD hS hA 1 rfl (fun _ _ a b => Option.some.inj (a.symm.trans b)) (fun _ => rfl) (by decide) rfl (Nat.le_of_ble_eq_true rfl) (Nat.le_of_ble_eq_true rfl) (Nat.le_of_ble_eq_true rfl) dJ5_init_d00df_12 (fun q_1 H hP hD hS => ?_)
  replace hP : va_P E.1 vwCl [(av, .inr (0, [.null, .int (0 : Int32), .int (0 : Int32), .int (0 : Int32)])), (q_1, .inl (E.2.2.1, 16, .inl (fun _ => 0)))] H := hP
  replace hD : va_D A [(av, .inr (0, [.null, .int (0 : Int32), .int (0 : Int32), .int (0 : Int32)])), (q_1, .inl (E.2.2.1, 16, .inl (fun _ => 0)))] := hD
  refine W.widen (k := 1) (n := 16) (Nat.le_of_ble_eq_true rfl) (Nat.le_of_ble_eq_true rfl) ?_
  refine va_put (D := E.1) (ci := 0) (v := .ref q_1) (ty := .array .byte) (C := RJ4) (T := TJ4) (N := 4) hx hb hts i_h_init5_J4 tyJ4 tyJ4_ok nmJ4 hown hK hP hD hS 0 rfl rfl 0 (by decide) (hts (.fieldLink RJ5 15 "java/lang/AbstractStringBuilder" "value" "[B") (List.mem_of_getElem? (i := 6) rfl)) (fun _ h9 => h9) rfl (by decide +kernel) rfl rfl (Nat.le_of_ble_eq_true rfl) dJ5_init_d00df_14 (fun H locs hP hD hS => ?_)
  replace hP : va_P E.1 vwCl [(av, .inr (0, [.ref q_1, .int (0 : Int32), .int (0 : Int32), .int (0 : Int32)])), (q_1, .inl (E.2.2.1, 16, .inl (fun _ => 0)))] H := hP
  replace hD : va_D A [(av, .inr (0, [.ref q_1, .int (0 : Int32), .int (0 : Int32), .int (0 : Int32)])), (q_1, .inl (E.2.2.1, 16, .inl (fun _ => 0)))] := hD
  refine lv_aload_n hx hb dJ5_init_d00df_17 rfl (lv_at hl 0 rfl) ?_
  refine lv_iconst (v := 0) hx hb dJ5_init_d00df_18 (by decide) ?_
  refine va_put (D := E.1) (ci := 0) (v := .int (0 : Int32)) (ty := .byte) (C := RJ4) (T := TJ4) (N := 4) hx hb hts i_h_init5_J4 tyJ4 tyJ4_ok nmJ4 hown hK hP hD hS 0 rfl rfl 1 (by decide) (hts (.fieldLink RJ5 22 "java/lang/AbstractStringBuilder" "coder" "B") (List.mem_of_getElem? (i := 7) rfl)) (fun _ h9 => h9) rfl (by decide +kernel) rfl rfl (Nat.le_of_ble_eq_true rfl) dJ5_init_d00df_19 (fun H locs hP hD hS => ?_)
  replace hP : va_P E.1 vwCl [(av, .inr (0, [.ref q_1, .int (0 : Int32), .int (0 : Int32), .int (0 : Int32)])), (q_1, .inl (E.2.2.1, 16, .inl (fun _ => 0)))] H := hP
  replace hD : va_D A [(av, .inr (0, [.ref q_1, .int (0 : Int32), .int (0 : Int32), .int (0 : Int32)])), (q_1, .inl (E.2.2.1, 16, .inl (fun _ => 0)))] := hD
  refine lv_goto (tgt := 38) hx hb dJ5_init_d00df_22 (by decide) ?_
  have hP9 := hP.sub (ws' := [(av, .inr (0, [.ref q_1, .int (0 : Int32), .int 0, .int 0])), (q_1, .inl (E.2.2.1, 16, .inl (fun _ => 0)))]) [0, 1] rfl
  have hD9 := hD.sub (ws' := [(av, .inr (0, [.ref q_1, .int (0 : Int32), .int 0, .int 0])), (q_1, .inl (E.2.2.1, 16, .inl (fun _ => 0)))]) [0, 1] (by decide) rfl
  rw [hQ]
  exact W.vret hx hb hr (fun tt ht hW => ⟨⟨q_1, rfl, trivial, by rw [ht]; exact hP9, hD9⟩, hS.F ht⟩) hS.2.2 dJ5_init_d00df_38

def v_h_init4 : List Cond := .code yJ4_init_da8c8 cJ4_init_da8c8 1 none :: ([.initialized RJ5, .methodLink RJ4 1 yJ5_init_d00df, .instanceMethod yJ5_init_d00df] ++ (v_h_init5 ++ ([])))
theorem gw_h_init4 : v_h_init4.all goodWord = true := by decide +kernel
theorem g_h_init4_h_init5_1 : GoodIn v_h_init4 v_h_init5 := goodIn_sub (fun _ h => List.mem_cons_of_mem _ (List.mem_append_right _ (List.mem_append_left _ h))) gw_h_init5
set_option maxHeartbeats 4000000 in
set_option maxRecDepth 100000 in
theorem h_init4 (l : Launch) (E : EE) (sz : Nat) (z9 : Nat → Nat) {av : Nat}  : Met l yJ4_init_da8c8 v_h_init4 (({ frames := 2, cells := 1, slots := 16, locals := 41 } : Room)) (va_Pc [.ref av] (qWZ E z9 sz [(av, .inr (0, [.null, .int 0, .int 0, .int 0]))])) (va_Qv (fun (_u : Nat) => True) (fun (u : Nat) tt => va_P E.1 vwCl (wSB E av u 16 0 0 (fun _ => 0)) tt.heap ∧ va_D (va_A [(av, .inr (0, [.null, .int 0, .int 0, .int 0]))] sz) (wSB E av u 16 0 0 (fun _ => 0))) (va_A [(av, .inr (0, [.null, .int 0, .int 0, .int 0]))] sz)) 1 16 (va_A [(av, .inr (0, [.null, .int 0, .int 0, .int 0]))] sz) := by
  refine Met.ofWF (cc := cJ4_init_da8c8) (maxL := 1) (ret := none) (by decide +kernel) rfl ?_
  intro p e s m args below meth c s₁ B hml hv
  obtain ⟨rfl, hsz, ⟨hK, hN⟩, hP, hD0, hZ⟩ := hv
  have hx := B.exec
  have hb := B.bytes
  have hr := B.returns
  have hts := atoms_spec (ws := v_h_init4) B.pre
  have hown : s.vm.findClass RJ4 = some m.cls := own_of (by decide +kernel) (findClass_of_methodNamed B.named)
  have hlocks : meth.locks = false := B.notSynchronized
  have hin : meth.name = "<init>" := (name_of_methodNamed B.named B.method).1
  subst hsz
  have hD := hD0.self (sz := s.heap.size)
  generalize hAe : va_A [(av, .inr (0, [.null, .int 0, .int 0, .int 0]))] s.heap.size = A at hD hZ ⊢
  have hA : ∀ q : Nat, s.heap.size ≤ q → A q := fun q h => by rw [← hAe]; exact Or.inr h
  have hS : va_S A s.heap s.heap [] := va_S.rf
  have hl := lv_entry ([.ref av]) (n := 1) (Nat.le_of_ble_eq_true rfl)
  rw [lg_entry_eq]
  generalize (lg_sl ([.ref av]) ++ List.replicate (1 - (lg_sl ([.ref av])).length) Slot.unset).toArray = ls at hl ⊢
  have hl : lv_has ls 1 [(0, .ref av)] := hl
  obtain ⟨Q, hQ⟩ : ∃ Q : State → Prop, Q = MQ below (va_Qv (fun (_u : Nat) => True) (fun (u : Nat) tt => va_P E.1 vwCl (wSB E av u 16 0 0 (fun _ => 0)) tt.heap ∧ va_D A (wSB E av u 16 0 0 (fun _ => 0))) A) #[Value.ref av] s 1 16 A := ⟨_, rfl⟩
  rw [← hQ]
  change W p l e ({ frames := 2, cells := 1, slots := 16, locals := 41 } : Room) s m #[Value.ref av] below meth c s.heap [] 0 0 Q (F0 m 0 ls [])
  suffices hh9 : ∀ (H : Heap) (locs : List Loc), va_P E.1 vwCl [(av, .inr (0, [.null, .int 0, .int 0, .int 0]))] H → va_D A [(av, .inr (0, [.null, .int 0, .int 0, .int 0]))] → va_S A s.heap H locs → W p l e ({ frames := 2, cells := 1, slots := 16, locals := 41 } : Room) s m #[Value.ref av] below meth c H locs 0 0 Q (F0 m 0 ls []) from hh9 s.heap [] hP hD hS
  clear hP hD hS
  intro H locs hP hD hS
  replace hP : va_P E.1 vwCl [(av, .inr (0, [.null, .int (0 : Int32), .int (0 : Int32), .int (0 : Int32)]))] H := hP
  replace hD : va_D A [(av, .inr (0, [.null, .int (0 : Int32), .int (0 : Int32), .int (0 : Int32)]))] := hD
  refine lv_aload_n hx hb dJ4_init_da8c8_0 rfl (lv_at hl 0 rfl) ?_
  refine lv_bipush (v := 16) hx hb dJ4_init_da8c8_1 (by decide) ?_
  obtain ⟨hPc, hDc, hFc⟩ := wcut (wc := [(av, .inr (0, [.null, .int 0, .int 0, .int 0]))]) hP hD hS hA [0] (by decide) rfl
  refine va_callv (va_runI (As := [.int (16 : Int32)]) (rest := []) ⟨hx, hb, hml, hown, hts⟩ (h_init5 l E H.size z9 (av := av)) (cwI 1 hts g_h_init4_h_init5_1 rfl rfl rfl (hts (.initialized RJ5) (List.mem_of_getElem? (i := 1) rfl)) (hts (.methodLink RJ4 1 yJ5_init_d00df) (List.mem_of_getElem? (i := 2) rfl)) (hts (.instanceMethod yJ5_init_d00df) (List.mem_of_getElem? (i := 3) rfl)) rfl (by decide +kernel) ⟨Nat.le_of_ble_eq_true rfl, Nat.le_of_ble_eq_true rfl⟩) ⟨qWZ.blind, (qWZ.pre ⟨hK, hN⟩ hPc hDc hZ hS hFc)⟩ rfl rfl hl.1 rfl (lv_room (Nat.le_of_ble_eq_true rfl)) dJ4_init_da8c8_3 ⟨Nat.le_of_ble_eq_true rfl, Nat.le_of_ble_eq_true rfl⟩) hS (fun q _ h => hFc q h) hFc (fun u9  tt H1 locs ht hvm hw hB hz1 hk1 hS => ?_)
  obtain ⟨hP1, hD1⟩ := hB
  rw [ht] at hP1
  obtain ⟨hP, hD⟩ := va_join (wr := []) (w1 := [(av, .inr (0, [.ref u9, .int (0 : Int32), .int 0, .int 0])), (u9, .inl (E.2.2.1, 16, .inl (fun _ => 0)))]) hP hD [0] [] rfl rfl (by decide) (by decide) hk1 hFc hP1 hD1
  generalize H1 = H at hP hS ⊢
  replace hP : va_P E.1 vwCl [(av, .inr (0, [.ref u9, .int (0 : Int32), .int 0, .int 0])), (u9, .inl (E.2.2.1, 16, .inl (fun _ => 0)))] H := hP
  replace hD : va_D A [(av, .inr (0, [.ref u9, .int (0 : Int32), .int 0, .int 0])), (u9, .inl (E.2.2.1, 16, .inl (fun _ => 0)))] := hD
  refine W.widen (k := 1) (n := 16) (Nat.le_of_ble_eq_true rfl) (Nat.le_of_ble_eq_true rfl) ?_
  have hP9 := hP.sub (ws' := [(av, .inr (0, [.ref u9, .int (0 : Int32), .int 0, .int 0])), (u9, .inl (E.2.2.1, 16, .inl (fun _ => 0)))]) [0, 1] rfl
  have hD9 := hD.sub (ws' := [(av, .inr (0, [.ref u9, .int (0 : Int32), .int 0, .int 0])), (u9, .inl (E.2.2.1, 16, .inl (fun _ => 0)))]) [0, 1] (by decide) rfl
  rw [hQ]
  exact W.vret hx hb hr (fun tt ht hW => ⟨⟨u9, rfl, trivial, by rw [ht]; exact hP9, hD9⟩, hS.F ht⟩) hS.2.2 dJ4_init_da8c8_6
end
-- 84e.sp
section
def dl_X7_spell_84e_sp_0 : List (Nat × Instr × Nat) := [(0, .aload_n 0, 1), (1, .getfield 35, 3), (4, .iload_n 1, 1), (5, .invokevirtual 120, 3), (8, .ifCond .ne 5, 3), (11, .iconst (-1), 1), (12, .ireturn, 1), (13, .new 265, 3), (16, .dup, 1), (17, .invokespecial 267, 3), (20, .astore_n 3, 1), (21, .aload_n 3, 1), (22, .ldc_w 268, 3), (25, .invokevirtual 270, 3), (28, .pop, 1), (29, .aload_n 3, 1), (30, .iload_n 1, 1), (31, .invokevirtual 274, 3), (34, .pop, 1), (35, .aload_n 3, 1), (36, .ldc_w 277, 3), (39, .invokevirtual 270, 3), (42, .pop, 1), (43, .aload_n 3, 1), (44, .aload_n 0, 1), (45, .getfield 35, 3), (48, .iload_n 1, 1), (49, .iconst 0, 1), (50, .invokevirtual 140, 3), (53, .invokevirtual 274, 3), (56, .pop, 1), (57, .aload_n 3, 1), (58, .bipush 44, 2), (60, .invokevirtual 279, 3), (63, .pop, 1), (64, .aload_n 3, 1), (65, .aload_n 0, 1), (66, .getfield 35, 3), (69, .iload_n 1, 1), (70, .iconst 1, 1), (71, .invokevirtual 140, 3), (74, .invokevirtual 274, 3), (77, .pop, 1), (78, .aload_n 0, 1), (79, .getfield 35, 3), (82, .iload_n 1, 1), (83, .invokevirtual 137, 3), (86, .ifCond .ne 10, 3), (96, .iload_n 2, 1), (97, .iconst (-1), 1)]
set_option maxRecDepth 100000 in
theorem dall_X7_spell_84e_sp_0 : dchk cX7_spell dl_X7_spell_84e_sp_0 = true := by decide +kernel
theorem dX7_spell_0 : decode cX7_spell 0 = .ok (.aload_n 0, 1) := dchk_at dall_X7_spell_84e_sp_0 (k := 0) rfl
theorem dX7_spell_1 : decode cX7_spell 1 = .ok (.getfield 35, 3) := dchk_at dall_X7_spell_84e_sp_0 (k := 1) rfl
theorem dX7_spell_4 : decode cX7_spell 4 = .ok (.iload_n 1, 1) := dchk_at dall_X7_spell_84e_sp_0 (k := 2) rfl
theorem dX7_spell_5 : decode cX7_spell 5 = .ok (.invokevirtual 120, 3) := dchk_at dall_X7_spell_84e_sp_0 (k := 3) rfl
theorem dX7_spell_8 : decode cX7_spell 8 = .ok (.ifCond .ne 5, 3) := dchk_at dall_X7_spell_84e_sp_0 (k := 4) rfl
theorem dX7_spell_11 : decode cX7_spell 11 = .ok (.iconst (-1), 1) := dchk_at dall_X7_spell_84e_sp_0 (k := 5) rfl
theorem dX7_spell_12 : decode cX7_spell 12 = .ok (.ireturn, 1) := dchk_at dall_X7_spell_84e_sp_0 (k := 6) rfl
theorem dX7_spell_13 : decode cX7_spell 13 = .ok (.new 265, 3) := dchk_at dall_X7_spell_84e_sp_0 (k := 7) rfl
theorem dX7_spell_16 : decode cX7_spell 16 = .ok (.dup, 1) := dchk_at dall_X7_spell_84e_sp_0 (k := 8) rfl
theorem dX7_spell_17 : decode cX7_spell 17 = .ok (.invokespecial 267, 3) := dchk_at dall_X7_spell_84e_sp_0 (k := 9) rfl
theorem dX7_spell_20 : decode cX7_spell 20 = .ok (.astore_n 3, 1) := dchk_at dall_X7_spell_84e_sp_0 (k := 10) rfl
theorem dX7_spell_21 : decode cX7_spell 21 = .ok (.aload_n 3, 1) := dchk_at dall_X7_spell_84e_sp_0 (k := 11) rfl
theorem dX7_spell_22 : decode cX7_spell 22 = .ok (.ldc_w 268, 3) := dchk_at dall_X7_spell_84e_sp_0 (k := 12) rfl
theorem dX7_spell_25 : decode cX7_spell 25 = .ok (.invokevirtual 270, 3) := dchk_at dall_X7_spell_84e_sp_0 (k := 13) rfl
theorem dX7_spell_28 : decode cX7_spell 28 = .ok (.pop, 1) := dchk_at dall_X7_spell_84e_sp_0 (k := 14) rfl
theorem dX7_spell_29 : decode cX7_spell 29 = .ok (.aload_n 3, 1) := dchk_at dall_X7_spell_84e_sp_0 (k := 15) rfl
theorem dX7_spell_30 : decode cX7_spell 30 = .ok (.iload_n 1, 1) := dchk_at dall_X7_spell_84e_sp_0 (k := 16) rfl
theorem dX7_spell_31 : decode cX7_spell 31 = .ok (.invokevirtual 274, 3) := dchk_at dall_X7_spell_84e_sp_0 (k := 17) rfl
theorem dX7_spell_34 : decode cX7_spell 34 = .ok (.pop, 1) := dchk_at dall_X7_spell_84e_sp_0 (k := 18) rfl
theorem dX7_spell_35 : decode cX7_spell 35 = .ok (.aload_n 3, 1) := dchk_at dall_X7_spell_84e_sp_0 (k := 19) rfl
theorem dX7_spell_36 : decode cX7_spell 36 = .ok (.ldc_w 277, 3) := dchk_at dall_X7_spell_84e_sp_0 (k := 20) rfl
theorem dX7_spell_39 : decode cX7_spell 39 = .ok (.invokevirtual 270, 3) := dchk_at dall_X7_spell_84e_sp_0 (k := 21) rfl
theorem dX7_spell_42 : decode cX7_spell 42 = .ok (.pop, 1) := dchk_at dall_X7_spell_84e_sp_0 (k := 22) rfl
theorem dX7_spell_43 : decode cX7_spell 43 = .ok (.aload_n 3, 1) := dchk_at dall_X7_spell_84e_sp_0 (k := 23) rfl
theorem dX7_spell_44 : decode cX7_spell 44 = .ok (.aload_n 0, 1) := dchk_at dall_X7_spell_84e_sp_0 (k := 24) rfl
theorem dX7_spell_45 : decode cX7_spell 45 = .ok (.getfield 35, 3) := dchk_at dall_X7_spell_84e_sp_0 (k := 25) rfl
theorem dX7_spell_48 : decode cX7_spell 48 = .ok (.iload_n 1, 1) := dchk_at dall_X7_spell_84e_sp_0 (k := 26) rfl
theorem dX7_spell_49 : decode cX7_spell 49 = .ok (.iconst 0, 1) := dchk_at dall_X7_spell_84e_sp_0 (k := 27) rfl
theorem dX7_spell_50 : decode cX7_spell 50 = .ok (.invokevirtual 140, 3) := dchk_at dall_X7_spell_84e_sp_0 (k := 28) rfl
theorem dX7_spell_53 : decode cX7_spell 53 = .ok (.invokevirtual 274, 3) := dchk_at dall_X7_spell_84e_sp_0 (k := 29) rfl
theorem dX7_spell_56 : decode cX7_spell 56 = .ok (.pop, 1) := dchk_at dall_X7_spell_84e_sp_0 (k := 30) rfl
theorem dX7_spell_57 : decode cX7_spell 57 = .ok (.aload_n 3, 1) := dchk_at dall_X7_spell_84e_sp_0 (k := 31) rfl
theorem dX7_spell_58 : decode cX7_spell 58 = .ok (.bipush 44, 2) := dchk_at dall_X7_spell_84e_sp_0 (k := 32) rfl
theorem dX7_spell_60 : decode cX7_spell 60 = .ok (.invokevirtual 279, 3) := dchk_at dall_X7_spell_84e_sp_0 (k := 33) rfl
theorem dX7_spell_63 : decode cX7_spell 63 = .ok (.pop, 1) := dchk_at dall_X7_spell_84e_sp_0 (k := 34) rfl
theorem dX7_spell_64 : decode cX7_spell 64 = .ok (.aload_n 3, 1) := dchk_at dall_X7_spell_84e_sp_0 (k := 35) rfl
theorem dX7_spell_65 : decode cX7_spell 65 = .ok (.aload_n 0, 1) := dchk_at dall_X7_spell_84e_sp_0 (k := 36) rfl
theorem dX7_spell_66 : decode cX7_spell 66 = .ok (.getfield 35, 3) := dchk_at dall_X7_spell_84e_sp_0 (k := 37) rfl
theorem dX7_spell_69 : decode cX7_spell 69 = .ok (.iload_n 1, 1) := dchk_at dall_X7_spell_84e_sp_0 (k := 38) rfl
theorem dX7_spell_70 : decode cX7_spell 70 = .ok (.iconst 1, 1) := dchk_at dall_X7_spell_84e_sp_0 (k := 39) rfl
theorem dX7_spell_71 : decode cX7_spell 71 = .ok (.invokevirtual 140, 3) := dchk_at dall_X7_spell_84e_sp_0 (k := 40) rfl
theorem dX7_spell_74 : decode cX7_spell 74 = .ok (.invokevirtual 274, 3) := dchk_at dall_X7_spell_84e_sp_0 (k := 41) rfl
theorem dX7_spell_77 : decode cX7_spell 77 = .ok (.pop, 1) := dchk_at dall_X7_spell_84e_sp_0 (k := 42) rfl
theorem dX7_spell_78 : decode cX7_spell 78 = .ok (.aload_n 0, 1) := dchk_at dall_X7_spell_84e_sp_0 (k := 43) rfl
theorem dX7_spell_79 : decode cX7_spell 79 = .ok (.getfield 35, 3) := dchk_at dall_X7_spell_84e_sp_0 (k := 44) rfl
theorem dX7_spell_82 : decode cX7_spell 82 = .ok (.iload_n 1, 1) := dchk_at dall_X7_spell_84e_sp_0 (k := 45) rfl
theorem dX7_spell_83 : decode cX7_spell 83 = .ok (.invokevirtual 137, 3) := dchk_at dall_X7_spell_84e_sp_0 (k := 46) rfl
theorem dX7_spell_86 : decode cX7_spell 86 = .ok (.ifCond .ne 10, 3) := dchk_at dall_X7_spell_84e_sp_0 (k := 47) rfl
theorem dX7_spell_96 : decode cX7_spell 96 = .ok (.iload_n 2, 1) := dchk_at dall_X7_spell_84e_sp_0 (k := 48) rfl
theorem dX7_spell_97 : decode cX7_spell 97 = .ok (.iconst (-1), 1) := dchk_at dall_X7_spell_84e_sp_0 (k := 49) rfl
def dl_X7_spell_84e_sp_1 : List (Nat × Instr × Nat) := [(98, .if_icmp .ne 8, 3), (106, .iload_n 2, 1), (107, .ifCond .lt 11, 3), (118, .iconst (-1), 1), (119, .ireturn, 1), (110, .iload_n 2, 1), (111, .aload_n 3, 1), (112, .invokevirtual 282, 3), (115, .if_icmp .lt 5, 3), (120, .aload_n 3, 1), (121, .iload_n 2, 1), (122, .invokevirtual 284, 3), (125, .ireturn, 1), (101, .aload_n 3, 1), (102, .invokevirtual 282, 3), (105, .ireturn, 1), (89, .aload_n 3, 1), (90, .bipush 33, 2), (92, .invokevirtual 279, 3), (95, .pop, 1)]
set_option maxRecDepth 100000 in
theorem dall_X7_spell_84e_sp_1 : dchk cX7_spell dl_X7_spell_84e_sp_1 = true := by decide +kernel
theorem dX7_spell_98 : decode cX7_spell 98 = .ok (.if_icmp .ne 8, 3) := dchk_at dall_X7_spell_84e_sp_1 (k := 0) rfl
theorem dX7_spell_106 : decode cX7_spell 106 = .ok (.iload_n 2, 1) := dchk_at dall_X7_spell_84e_sp_1 (k := 1) rfl
theorem dX7_spell_107 : decode cX7_spell 107 = .ok (.ifCond .lt 11, 3) := dchk_at dall_X7_spell_84e_sp_1 (k := 2) rfl
theorem dX7_spell_118 : decode cX7_spell 118 = .ok (.iconst (-1), 1) := dchk_at dall_X7_spell_84e_sp_1 (k := 3) rfl
theorem dX7_spell_119 : decode cX7_spell 119 = .ok (.ireturn, 1) := dchk_at dall_X7_spell_84e_sp_1 (k := 4) rfl
theorem dX7_spell_110 : decode cX7_spell 110 = .ok (.iload_n 2, 1) := dchk_at dall_X7_spell_84e_sp_1 (k := 5) rfl
theorem dX7_spell_111 : decode cX7_spell 111 = .ok (.aload_n 3, 1) := dchk_at dall_X7_spell_84e_sp_1 (k := 6) rfl
theorem dX7_spell_112 : decode cX7_spell 112 = .ok (.invokevirtual 282, 3) := dchk_at dall_X7_spell_84e_sp_1 (k := 7) rfl
theorem dX7_spell_115 : decode cX7_spell 115 = .ok (.if_icmp .lt 5, 3) := dchk_at dall_X7_spell_84e_sp_1 (k := 8) rfl
theorem dX7_spell_120 : decode cX7_spell 120 = .ok (.aload_n 3, 1) := dchk_at dall_X7_spell_84e_sp_1 (k := 9) rfl
theorem dX7_spell_121 : decode cX7_spell 121 = .ok (.iload_n 2, 1) := dchk_at dall_X7_spell_84e_sp_1 (k := 10) rfl
theorem dX7_spell_122 : decode cX7_spell 122 = .ok (.invokevirtual 284, 3) := dchk_at dall_X7_spell_84e_sp_1 (k := 11) rfl
theorem dX7_spell_125 : decode cX7_spell 125 = .ok (.ireturn, 1) := dchk_at dall_X7_spell_84e_sp_1 (k := 12) rfl
theorem dX7_spell_101 : decode cX7_spell 101 = .ok (.aload_n 3, 1) := dchk_at dall_X7_spell_84e_sp_1 (k := 13) rfl
theorem dX7_spell_102 : decode cX7_spell 102 = .ok (.invokevirtual 282, 3) := dchk_at dall_X7_spell_84e_sp_1 (k := 14) rfl
theorem dX7_spell_105 : decode cX7_spell 105 = .ok (.ireturn, 1) := dchk_at dall_X7_spell_84e_sp_1 (k := 15) rfl
theorem dX7_spell_89 : decode cX7_spell 89 = .ok (.aload_n 3, 1) := dchk_at dall_X7_spell_84e_sp_1 (k := 16) rfl
theorem dX7_spell_90 : decode cX7_spell 90 = .ok (.bipush 33, 2) := dchk_at dall_X7_spell_84e_sp_1 (k := 17) rfl
theorem dX7_spell_92 : decode cX7_spell 92 = .ok (.invokevirtual 279, 3) := dchk_at dall_X7_spell_84e_sp_1 (k := 18) rfl
theorem dX7_spell_95 : decode cX7_spell 95 = .ok (.pop, 1) := dchk_at dall_X7_spell_84e_sp_1 (k := 19) rfl
section LDCW
variable {p : Program} {l : Launch} {e : Env} {R : Room} {s : State} {m : MethodId} {args : Array Value} {below : List Frame} {meth : Method} {c : Code} {H : Heap} {locs : List Loc} {cells slots : Nat} {Q : State → Prop}
variable {pc : Nat} {ls : Array Slot} {rest : List Value}
/-- a wide ldc of a text -/
theorem my_ldcwS {cc : ByteArray} (hexec : p.tables.exec = Jvm.exec) (hb : c.code = cc) {own tx : String} {index q : Nat} (hown : s.vm.findClass own = some m.cls) (hZ : vk_R own index tx q s) (hdg : decode cc pc = .ok (.ldc_w index, 3)) (k : W p l e R s m args below meth c H locs cells slots Q (F0 m (pc + 3) ls (.ref q :: rest))) : W p l e R s m args below meth c H locs cells slots Q (F0 m pc ls rest) := by
  intro T hT X
  obtain ⟨t, a1, b1⟩ := k T hT X
  have hdg' : decode c.code (F0 m pc ls rest).pc = .ok (.ldc_w index, 3) := by rw [hb]; exact hdg
  obtain ⟨kk, cf, i, a', hk, hcf, hcp, -, hr, hev'⟩ := Cond.stringRef_spec hown hZ.1
  have ea : q = a' := by
    have z := hZ.2.symm.trans hev'
    cases z
    rfl
  subst ea
  obtain ⟨k', hk', he⟩ := X.warmed.alike.2.2 _ _ hk
  have hr' : k'.resolved[index]? = some (some (.string q)) := by
    rcases X.warmed.entry hk hk' index with h | ⟨h, -⟩
    · rw [h]; exact hr
    · rw [hr] at h; cases h
  refine ⟨t, ?_, b1⟩
  jvm_step X.here [hexec, hdg', ldc_w.wp_string (e := e) (s := T) (f := F0 m pc ls rest) X.here.top hk' (by rw [he]; exact hcf) hcp hr']
  exact a1
end LDCW
theorem hs_ok {p1 : Int32} {f : Nat → Int32} : Tt (F_X5_hasSite p1 f) (fun r => ¬ r = 0 → ∃ i, i < 8 ∧ p1 = nI i) := by
  unfold F_X5_hasSite
  exact tt_ite (fun _ => tt_some (fun z => absurd rfl z)) (fun a => tt_ite (fun _ => tt_some (fun z => absurd rfl z)) (fun _ => tt_ite (fun _ => tt_some (fun z => absurd rfl z)) (fun b => tt_some (fun _ => nnI (n := 8) (by decide) a b))))
theorem gc_of {K k s : Nat} {i : Int32} (hK : 200000 ≤ K) (h : 11 ≤ k + s) : ∀ (m1 : Nat) (c1 : Nat → Int32), m1 ≤ 34 → k + s ≤ m1 → sb_Fit c1 → ∃ r c2, F_J6_getChars_ba4f3 K i (nI (k + s)) c1 m1 = some (r, c2) ∧ sb_Fit c2 := by
  intro m1 c1 h1 h2 h3
  obtain ⟨⟨r, c2⟩, e, f⟩ := gc_tot (i := i) hK h1 h3 h h2
  exact ⟨r, c2, e, f⟩
theorem gc_ofd {K k i : Nat} (hK : 200000 ≤ K) (hi : i < 8) : ∀ (m1 : Nat) (c1 : Nat → Int32), m1 ≤ 34 → k + 1 ≤ m1 → sb_Fit c1 → ∃ r c2, F_J6_getChars_ba4f3 K (nI i) (nI (k + 1)) c1 m1 = some (r, c2) ∧ sb_Fit c2 := by
  intro m1 c1 h1 h2 h3
  obtain ⟨⟨r, c2⟩, e, f⟩ := gc_dig hK hi h1 h3 (show 1 ≤ k + 1 by omega) h2
  exact ⟨r, c2, e, f⟩
theorem ca4_ok {n mz i : Nat} {c : Nat → Int32} (hi : i < n) (hn : n ≤ mz) (hm : mz ≤ 34) : ∃ r, F_J4_charAt_5068e (nI i) c 0 (nI n) mz = some r := by
  obtain ⟨r, e, -⟩ := ca_ok (c := c) hi hn hm
  refine ⟨r, ?_⟩
  unfold F_J4_charAt_5068e
  rw [e, xb1]
def v_h_spell : List Cond := .code yX7_spell cX7_spell 4 (some .int) :: ([.fieldLink RX7 35 "HushWatch" "now" "LHushWatch$State;", .classLink RX7 265 RJ4, .instantiable RJ4 4, .initialized RJ4, .methodLink RX7 267 yJ4_init_da8c8, .instanceMethod yJ4_init_da8c8, .methodLink RX7 120 yX5_hasSite, .instanceMethod yX5_hasSite, .selects RX5 yX5_hasSite yX5_hasSite, .initialized RX5, .methodLink RX7 270 yJ4_append_15ec4, .instanceMethod yJ4_append_15ec4, .selects RJ4 yJ4_append_15ec4 yJ4_append_15ec4, .methodLink RX7 274 yJ4_append_bf812, .instanceMethod yJ4_append_bf812, .selects RJ4 yJ4_append_bf812 yJ4_append_bf812, .methodLink RX7 140 yX5_of, .instanceMethod yX5_of, .selects RX5 yX5_of yX5_of, .methodLink RX7 279 yJ4_append_cf468, .instanceMethod yJ4_append_cf468, .selects RJ4 yJ4_append_cf468 yJ4_append_cf468, .methodLink RX7 137 yX5_isQuiet, .instanceMethod yX5_isQuiet, .selects RX5 yX5_isQuiet yX5_isQuiet, .methodLink RX7 282 yJ4_length_8abf5, .instanceMethod yJ4_length_8abf5, .selects RJ4 yJ4_length_8abf5 yJ4_length_8abf5, .methodLink RX7 284 yJ4_charAt_5068e, .instanceMethod yJ4_charAt_5068e, .selects RJ4 yJ4_charAt_5068e yJ4_charAt_5068e] ++ (wsX70 ++ (v_f_X5_hasSite ++ (wsJ40 ++ (v_h_init4 ++ (v_h_appS ++ (v_h_appI ++ (v_f_X5_of ++ (v_h_appC ++ (v_f_X5_isQuiet ++ (v_f_J4_length_8abf5 ++ (v_f_J4_charAt_5068e ++ ([])))))))))))))
theorem gw_h_spell : v_h_spell.all goodWord = true := by decide +kernel
theorem i_h_spell_X7 : ∀ w ∈ wsX70, w ∈ v_h_spell := fun _ h => List.mem_cons_of_mem _ (List.mem_append_right _ (List.mem_append_left _ h))
theorem i_h_spell_J4 : ∀ w ∈ wsJ40, w ∈ v_h_spell := fun _ h => List.mem_cons_of_mem _ (List.mem_append_right _ (List.mem_append_right _ (List.mem_append_right _ (List.mem_append_left _ h))))
theorem g_h_spell_f_X5_hasSite_120 : GoodIn v_h_spell (wsV RX7 120 RX5 yX5_hasSite v_f_X5_hasSite) := goodIn_app (goodIn_of _ (by decide +kernel)) (goodIn_sub (fun _ h => List.mem_cons_of_mem _ (List.mem_append_right _ (List.mem_append_right _ (List.mem_append_left _ h)))) gw_f_X5_hasSite)
theorem g_h_spell_h_init4_267 : GoodIn v_h_spell v_h_init4 := goodIn_sub (fun _ h => List.mem_cons_of_mem _ (List.mem_append_right _ (List.mem_append_right _ (List.mem_append_right _ (List.mem_append_right _ (List.mem_append_left _ h)))))) gw_h_init4
theorem g_h_spell_h_appS_270 : GoodIn v_h_spell (wsV RX7 270 RJ4 yJ4_append_15ec4 v_h_appS) := goodIn_app (goodIn_of _ (by decide +kernel)) (goodIn_sub (fun _ h => List.mem_cons_of_mem _ (List.mem_append_right _ (List.mem_append_right _ (List.mem_append_right _ (List.mem_append_right _ (List.mem_append_right _ (List.mem_append_left _ h))))))) gw_h_appS)
theorem g_h_spell_h_appI_274 : GoodIn v_h_spell (wsV RX7 274 RJ4 yJ4_append_bf812 v_h_appI) := goodIn_app (goodIn_of _ (by decide +kernel)) (goodIn_sub (fun _ h => List.mem_cons_of_mem _ (List.mem_append_right _ (List.mem_append_right _ (List.mem_append_right _ (List.mem_append_right _ (List.mem_append_right _ (List.mem_append_right _ (List.mem_append_left _ h)))))))) gw_h_appI)
theorem g_h_spell_f_X5_of_140 : GoodIn v_h_spell (wsV RX7 140 RX5 yX5_of v_f_X5_of) := goodIn_app (goodIn_of _ (by decide +kernel)) (goodIn_sub (fun _ h => List.mem_cons_of_mem _ (List.mem_append_right _ (List.mem_append_right _ (List.mem_append_right _ (List.mem_append_right _ (List.mem_append_right _ (List.mem_append_right _ (List.mem_append_right _ (List.mem_append_left _ h))))))))) gw_f_X5_of)
theorem g_h_spell_h_appC_279 : GoodIn v_h_spell (wsV RX7 279 RJ4 yJ4_append_cf468 v_h_appC) := goodIn_app (goodIn_of _ (by decide +kernel)) (goodIn_sub (fun _ h => List.mem_cons_of_mem _ (List.mem_append_right _ (List.mem_append_right _ (List.mem_append_right _ (List.mem_append_right _ (List.mem_append_right _ (List.mem_append_right _ (List.mem_append_right _ (List.mem_append_right _ (List.mem_append_left _ h)))))))))) gw_h_appC)
theorem g_h_spell_f_X5_isQuiet_137 : GoodIn v_h_spell (wsV RX7 137 RX5 yX5_isQuiet v_f_X5_isQuiet) := goodIn_app (goodIn_of _ (by decide +kernel)) (goodIn_sub (fun _ h => List.mem_cons_of_mem _ (List.mem_append_right _ (List.mem_append_right _ (List.mem_append_right _ (List.mem_append_right _ (List.mem_append_right _ (List.mem_append_right _ (List.mem_append_right _ (List.mem_append_right _ (List.mem_append_right _ (List.mem_append_left _ h))))))))))) gw_f_X5_isQuiet)
theorem g_h_spell_f_J4_length_8abf5_282 : GoodIn v_h_spell (wsV RX7 282 RJ4 yJ4_length_8abf5 v_f_J4_length_8abf5) := goodIn_app (goodIn_of _ (by decide +kernel)) (goodIn_sub (fun _ h => List.mem_cons_of_mem _ (List.mem_append_right _ (List.mem_append_right _ (List.mem_append_right _ (List.mem_append_right _ (List.mem_append_right _ (List.mem_append_right _ (List.mem_append_right _ (List.mem_append_right _ (List.mem_append_right _ (List.mem_append_right _ (List.mem_append_left _ h)))))))))))) gw_f_J4_length_8abf5)
theorem g_h_spell_f_J4_charAt_5068e_284 : GoodIn v_h_spell (wsV RX7 284 RJ4 yJ4_charAt_5068e v_f_J4_charAt_5068e) := goodIn_app (goodIn_of _ (by decide +kernel)) (goodIn_sub (fun _ h => List.mem_cons_of_mem _ (List.mem_append_right _ (List.mem_append_right _ (List.mem_append_right _ (List.mem_append_right _ (List.mem_append_right _ (List.mem_append_right _ (List.mem_append_right _ (List.mem_append_right _ (List.mem_append_right _ (List.mem_append_right _ (List.mem_append_right _ (List.mem_append_left _ h))))))))))))) gw_f_J4_charAt_5068e)
set_option maxHeartbeats 4000000 in
set_option maxRecDepth 100000 in
theorem h_spell (l : Launch) (E : EE) (sz : Nat) (K : Nat) (z9 : Nat → Nat) {a_ a_tape a_reader a_scripts a_now a_trial a_kept a_book a_keptBook a_history a_draws a_refused a_now_row a_now_partners a_now_share a_now_leftOver : Nat} {p1 p2 : Int32} {c_hasImage : Int32} {c_now_askedCount : Int32} {c_now_outcome : Int32} {c_now_row : Nat → Int32} (hK9 : 200000 ≤ K) : Met l yX7_spell v_h_spell (({ frames := 6, cells := 9, slots := 258, locals := 148 } : Room)) (va_Pc [.ref a_, .int p1, .int p2] (qWZ E z9 sz (w_X7_goes E a_ a_tape a_reader a_scripts a_now a_trial a_kept a_book a_keptBook a_history a_draws a_refused a_now_row a_now_partners a_now_share a_now_leftOver c_hasImage c_now_askedCount c_now_outcome c_now_row))) (va_Qi (fun (r : Int32) (_u : Unit) => True) (fun (_u : Unit) tt => va_P E.1 vwCl (w_X7_goes E a_ a_tape a_reader a_scripts a_now a_trial a_kept a_book a_keptBook a_history a_draws a_refused a_now_row a_now_partners a_now_share a_now_leftOver c_hasImage c_now_askedCount c_now_outcome c_now_row) tt.heap ∧ va_D (va_A (w_X7_goes E a_ a_tape a_reader a_scripts a_now a_trial a_kept a_book a_keptBook a_history a_draws a_refused a_now_row a_now_partners a_now_share a_now_leftOver c_hasImage c_now_askedCount c_now_outcome c_now_row) sz) (w_X7_goes E a_ a_tape a_reader a_scripts a_now a_trial a_kept a_book a_keptBook a_history a_draws a_refused a_now_row a_now_partners a_now_share a_now_leftOver c_hasImage c_now_askedCount c_now_outcome c_now_row)) (va_A (w_X7_goes E a_ a_tape a_reader a_scripts a_now a_trial a_kept a_book a_keptBook a_history a_draws a_refused a_now_row a_now_partners a_now_share a_now_leftOver c_hasImage c_now_askedCount c_now_outcome c_now_row) sz)) 9 258 (va_A (w_X7_goes E a_ a_tape a_reader a_scripts a_now a_trial a_kept a_book a_keptBook a_history a_draws a_refused a_now_row a_now_partners a_now_share a_now_leftOver c_hasImage c_now_askedCount c_now_outcome c_now_row) sz) := by
  refine Met.ofW (cc := cX7_spell) (maxL := 4) (ret := (some .int)) (by decide) rfl ?_
  intro p e s m args below meth c s₁ B hml hv
  obtain ⟨rfl, hsz, ⟨hK, hN⟩, hP, hD0, hZ⟩ := hv
  have hx := B.exec
  have hb := B.bytes
  have hr := B.returns
  have hts := atoms_spec (ws := v_h_spell) B.pre
  have hown : s.vm.findClass RX7 = some m.cls := own_of (by decide +kernel) (findClass_of_methodNamed B.named)
  have hlocks : meth.locks = false := B.notSynchronized
  subst hsz
  have hD := hD0.self (sz := s.heap.size)
  generalize hAe : va_A (w_X7_goes E a_ a_tape a_reader a_scripts a_now a_trial a_kept a_book a_keptBook a_history a_draws a_refused a_now_row a_now_partners a_now_share a_now_leftOver c_hasImage c_now_askedCount c_now_outcome c_now_row) s.heap.size = A at hD hZ ⊢
  have hA : ∀ q : Nat, s.heap.size ≤ q → A q := fun q h => by rw [← hAe]; exact Or.inr h
  have hS : va_S A s.heap s.heap [] := va_S.rf
  have hl := lv_entry ([.ref a_, .int p1, .int p2]) (n := 4) (Nat.le_of_ble_eq_true rfl)
  rw [lg_entry_eq]
  generalize (lg_sl ([.ref a_, .int p1, .int p2]) ++ List.replicate (4 - (lg_sl ([.ref a_, .int p1, .int p2])).length) Slot.unset).toArray = ls at hl ⊢
  have hl : lv_has ls 4 [(0, .ref a_), (1, .int p1), (2, .int p2)] := hl
  obtain ⟨Q, hQ⟩ : ∃ Q : State → Prop, Q = MQ below (va_Qi (fun (r : Int32) (_u : Unit) => True) (fun (_u : Unit) tt => va_P E.1 vwCl (w_X7_goes E a_ a_tape a_reader a_scripts a_now a_trial a_kept a_book a_keptBook a_history a_draws a_refused a_now_row a_now_partners a_now_share a_now_leftOver c_hasImage c_now_askedCount c_now_outcome c_now_row) tt.heap ∧ va_D A (w_X7_goes E a_ a_tape a_reader a_scripts a_now a_trial a_kept a_book a_keptBook a_history a_draws a_refused a_now_row a_now_partners a_now_share a_now_leftOver c_hasImage c_now_askedCount c_now_outcome c_now_row)) A) #[Value.ref a_, Value.int p1, Value.int p2] s 9 258 A := ⟨_, rfl⟩
  rw [← hQ]
  change W p l e ({ frames := 6, cells := 9, slots := 258, locals := 148 } : Room) s m #[Value.ref a_, Value.int p1, Value.int p2] below meth c s.heap [] 0 0 Q (F0 m 0 ls [])
  suffices hh9 : ∀ (H : Heap) (locs : List Loc), va_P E.1 vwCl (w_X7_goes E a_ a_tape a_reader a_scripts a_now a_trial a_kept a_book a_keptBook a_history a_draws a_refused a_now_row a_now_partners a_now_share a_now_leftOver c_hasImage c_now_askedCount c_now_outcome c_now_row) H → va_D A (w_X7_goes E a_ a_tape a_reader a_scripts a_now a_trial a_kept a_book a_keptBook a_history a_draws a_refused a_now_row a_now_partners a_now_share a_now_leftOver c_hasImage c_now_askedCount c_now_outcome c_now_row) → va_S A s.heap H locs → W p l e ({ frames := 6, cells := 9, slots := 258, locals := 148 } : Room) s m #[Value.ref a_, Value.int p1, Value.int p2] below meth c H locs 0 0 Q (F0 m 0 ls []) from hh9 s.heap [] hP hD hS
  clear hP hD hS
  intro H locs hP hD hS
  replace hP : va_P E.1 vwCl [(a_, .inr (8, [.ref a_tape, .ref a_reader, .ref a_scripts, .ref a_now, .ref a_trial, .ref a_kept, .ref a_book, .ref a_keptBook, .ref a_history, .ref a_draws, .ref a_refused, .int c_hasImage])), (a_now, .inr (6, [.ref a_now_row, .ref a_now_partners, .int c_now_askedCount, .int c_now_outcome, .ref a_now_share, .ref a_now_leftOver])), (a_now_row, .inl (E.2.1, 81, .inl c_now_row))] H := hP
  replace hD : va_D A [(a_, .inr (8, [.ref a_tape, .ref a_reader, .ref a_scripts, .ref a_now, .ref a_trial, .ref a_kept, .ref a_book, .ref a_keptBook, .ref a_history, .ref a_draws, .ref a_refused, .int c_hasImage])), (a_now, .inr (6, [.ref a_now_row, .ref a_now_partners, .int c_now_askedCount, .int c_now_outcome, .ref a_now_share, .ref a_now_leftOver])), (a_now_row, .inl (E.2.1, 81, .inl c_now_row))] := hD
  obtain ⟨h0, hh0, hh1⟩ := hs_ok (p1 := p1) (f := c_now_row)
  refine lv_aload_n hx hb dX7_spell_0 rfl (lv_at hl 0 rfl) ?_
  refine va_get (D := E.1) (ci := 8) (v := .ref a_now) (C := RX7) (T := TX7) (N := 12) hx hb hts i_h_spell_X7 hown hK hP 0 rfl rfl 3 (by decide) (hts (.fieldLink RX7 35 "HushWatch" "now" "LHushWatch$State;") (List.mem_of_getElem? (i := 1) rfl)) (fun _ h9 => h9) rfl dX7_spell_1 ?_
  refine lv_iload_n hx hb dX7_spell_4 rfl (lv_at hl 1 rfl) ?_
  have hPc : va_P E.1 vwCl (w_X5_hasSite E a_now a_now_row a_now_partners a_now_share a_now_leftOver c_now_askedCount c_now_outcome c_now_row) H := hP.sub (ws' := [(a_now, .inr (6, [.ref a_now_row, .ref a_now_partners, .int c_now_askedCount, .int c_now_outcome, .ref a_now_share, .ref a_now_leftOver])), (a_now_row, .inl (E.2.1, 81, .inl c_now_row))]) [1, 2] rfl
  have hrc := va_recv hK hPc (ci := 6) (q0 := 0) rfl rfl
  refine pE_z (va_runV (As := [.int p1]) (rest := []) ⟨hx, hb, hml, hown, hts⟩ (f_X5_hasSite l E (a_ := a_now) (a_row := a_now_row) (a_partners := a_now_partners) (a_share := a_now_share) (a_leftOver := a_now_leftOver) (p1 := p1) (c_askedCount := c_now_askedCount) (c_outcome := c_now_outcome) (c_row := c_now_row) hh0) (cwV 1 hts g_h_spell_f_X5_hasSite_120 rfl rfl rfl (by decide +kernel) ⟨Nat.le_of_ble_eq_true rfl, Nat.le_of_ble_eq_true rfl⟩) ⟨pP.blind, hrc, (pP.pre ⟨hK, hN⟩ hPc)⟩ rfl rfl hl.1 rfl (lv_room (Nat.le_of_ble_eq_true rfl)) dX7_spell_5 ⟨Nat.le_of_ble_eq_true rfl, Nat.le_of_ble_eq_true rfl⟩) (fun hb_1 => ?_)
  refine lv_if_ne (tgt := 13) hx hb dX7_spell_8 (by decide) (fun q => ?_) (fun q => ?_)
  rotate_left 1
  ·
    refine lv_iconst (v := -1) hx hb dX7_spell_11 (by decide) ?_
    refine W.widen (k := 9) (n := 258) (Nat.le_of_ble_eq_true rfl) (Nat.le_of_ble_eq_true rfl) ?_
    have hP9 := hP.sub (ws' := [(a_, .inr (8, [.ref a_tape, .ref a_reader, .ref a_scripts, .ref a_now, .ref a_trial, .ref a_kept, .ref a_book, .ref a_keptBook, .ref a_history, .ref a_draws, .ref a_refused, .int c_hasImage])), (a_now, .inr (6, [.ref a_now_row, .ref a_now_partners, .int c_now_askedCount, .int c_now_outcome, .ref a_now_share, .ref a_now_leftOver])), (a_now_row, .inl (E.2.1, 81, .inl c_now_row))]) [0, 1, 2] rfl
    have hD9 := hD.sub (ws' := [(a_, .inr (8, [.ref a_tape, .ref a_reader, .ref a_scripts, .ref a_now, .ref a_trial, .ref a_kept, .ref a_book, .ref a_keptBook, .ref a_history, .ref a_draws, .ref a_refused, .int c_hasImage])), (a_now, .inr (6, [.ref a_now_row, .ref a_now_partners, .int c_now_askedCount, .int c_now_outcome, .ref a_now_share, .ref a_now_leftOver])), (a_now_row, .inl (E.2.1, 81, .inl c_now_row))]) [0, 1, 2] (by decide) rfl
    rw [hQ]
    exact W.iret (v := -1) hx hb hr (fun tt ht hW => ⟨⟨_, (), rfl, trivial, by rw [ht]; exact hP9, hD9⟩, hS.F ht⟩) hS.2.2 dX7_spell_12
  obtain ⟨i9, hi9, rfl⟩ := hh1 q
  refine va_new (ci := 0) (fs := [.null, .int (0 : Int32), .int (0 : Int32), .int (0 : Int32)]) (C := RJ4) (T := TJ4) (N := 4) hx hb hts i_h_spell_J4 tyJ4 tyJ4_ok hown (hts (.classLink RX7 265 RJ4) (List.mem_of_getElem? (i := 2) rfl)) (hts (.instantiable RJ4 4) (List.mem_of_getElem? (i := 3) rfl)) (hts (.initialized RJ4) (List.mem_of_getElem? (i := 4) rfl)) hK hP hD hS hA rfl (fun j hj => by rcases (show j = 0 ∨ j = 1 ∨ j = 2 ∨ j = 3 by omega) with rfl | rfl | rfl | rfl <;> rfl) (Nat.le_of_ble_eq_true rfl) (Nat.le_of_ble_eq_true rfl) dX7_spell_13 (fun q_2 H hP hD hS => ?_)
  replace hP : va_P E.1 vwCl [(a_, .inr (8, [.ref a_tape, .ref a_reader, .ref a_scripts, .ref a_now, .ref a_trial, .ref a_kept, .ref a_book, .ref a_keptBook, .ref a_history, .ref a_draws, .ref a_refused, .int c_hasImage])), (a_now, .inr (6, [.ref a_now_row, .ref a_now_partners, .int c_now_askedCount, .int c_now_outcome, .ref a_now_share, .ref a_now_leftOver])), (a_now_row, .inl (E.2.1, 81, .inl c_now_row)), (q_2, .inr (0, [.null, .int (0 : Int32), .int (0 : Int32), .int (0 : Int32)]))] H := hP
  replace hD : va_D A [(a_, .inr (8, [.ref a_tape, .ref a_reader, .ref a_scripts, .ref a_now, .ref a_trial, .ref a_kept, .ref a_book, .ref a_keptBook, .ref a_history, .ref a_draws, .ref a_refused, .int c_hasImage])), (a_now, .inr (6, [.ref a_now_row, .ref a_now_partners, .int c_now_askedCount, .int c_now_outcome, .ref a_now_share, .ref a_now_leftOver])), (a_now_row, .inl (E.2.1, 81, .inl c_now_row)), (q_2, .inr (0, [.null, .int (0 : Int32), .int (0 : Int32), .int (0 : Int32)]))] := hD
  refine W.widen (k := 1) (n := 4) (Nat.le_of_ble_eq_true rfl) (Nat.le_of_ble_eq_true rfl) ?_
  refine lv_dup hx hb dX7_spell_16 rfl ?_
  obtain ⟨hPc, hDc, hFc⟩ := wcut (wc := [(q_2, .inr (0, [.null, .int 0, .int 0, .int 0]))]) hP hD hS hA [3] (by decide) rfl
  refine va_callv (va_runI (As := []) (rest := [.ref q_2]) ⟨hx, hb, hml, hown, hts⟩ (h_init4 l E H.size z9 (av := q_2)) (cwI 0 hts g_h_spell_h_init4_267 rfl rfl rfl (hts (.initialized RJ4) (List.mem_of_getElem? (i := 4) rfl)) (hts (.methodLink RX7 267 yJ4_init_da8c8) (List.mem_of_getElem? (i := 5) rfl)) (hts (.instanceMethod yJ4_init_da8c8) (List.mem_of_getElem? (i := 6) rfl)) rfl (by decide +kernel) ⟨Nat.le_of_ble_eq_true rfl, Nat.le_of_ble_eq_true rfl⟩) ⟨qWZ.blind, (qWZ.pre ⟨hK, hN⟩ hPc hDc hZ hS hFc)⟩ rfl rfl hl.1 rfl (lv_room (Nat.le_of_ble_eq_true rfl)) dX7_spell_17 ⟨Nat.le_of_ble_eq_true rfl, Nat.le_of_ble_eq_true rfl⟩) hS (fun q _ h => hFc q h) hFc (fun u9  tt H1 locs ht hvm hw hB hz1 hk1 hS => ?_)
  obtain ⟨hP1, hD1⟩ := hB
  rw [ht] at hP1
  obtain ⟨hP, hD⟩ := va_join (wr := [(a_, .inr (8, [.ref a_tape, .ref a_reader, .ref a_scripts, .ref a_now, .ref a_trial, .ref a_kept, .ref a_book, .ref a_keptBook, .ref a_history, .ref a_draws, .ref a_refused, .int c_hasImage])), (a_now, .inr (6, [.ref a_now_row, .ref a_now_partners, .int c_now_askedCount, .int c_now_outcome, .ref a_now_share, .ref a_now_leftOver])), (a_now_row, .inl (E.2.1, 81, .inl c_now_row))]) (w1 := [(q_2, .inr (0, [.ref u9, .int (0 : Int32), .int 0, .int 0])), (u9, .inl (E.2.2.1, 16, .inl (fun _ => 0)))]) hP hD [3] [0, 1, 2] rfl rfl (by decide) (by decide) hk1 hFc hP1 hD1
  generalize H1 = H at hP hS ⊢
  replace hP : va_P E.1 vwCl [(a_, .inr (8, [.ref a_tape, .ref a_reader, .ref a_scripts, .ref a_now, .ref a_trial, .ref a_kept, .ref a_book, .ref a_keptBook, .ref a_history, .ref a_draws, .ref a_refused, .int c_hasImage])), (a_now, .inr (6, [.ref a_now_row, .ref a_now_partners, .int c_now_askedCount, .int c_now_outcome, .ref a_now_share, .ref a_now_leftOver])), (a_now_row, .inl (E.2.1, 81, .inl c_now_row)), (q_2, .inr (0, [.ref u9, .int (0 : Int32), .int 0, .int 0])), (u9, .inl (E.2.2.1, 16, .inl (fun _ => 0)))] H := hP
  replace hD : va_D A [(a_, .inr (8, [.ref a_tape, .ref a_reader, .ref a_scripts, .ref a_now, .ref a_trial, .ref a_kept, .ref a_book, .ref a_keptBook, .ref a_history, .ref a_draws, .ref a_refused, .int c_hasImage])), (a_now, .inr (6, [.ref a_now_row, .ref a_now_partners, .int c_now_askedCount, .int c_now_outcome, .ref a_now_share, .ref a_now_leftOver])), (a_now_row, .inl (E.2.1, 81, .inl c_now_row)), (q_2, .inr (0, [.ref u9, .int (0 : Int32), .int 0, .int 0])), (u9, .inl (E.2.2.1, 16, .inl (fun _ => 0)))] := hD
  refine W.widen (k := 2) (n := 20) (Nat.le_of_ble_eq_true rfl) (Nat.le_of_ble_eq_true rfl) ?_
  generalize u9 = v0 at hP hD
  replace hP : va_P E.1 vwCl [(a_, .inr (8, [.ref a_tape, .ref a_reader, .ref a_scripts, .ref a_now, .ref a_trial, .ref a_kept, .ref a_book, .ref a_keptBook, .ref a_history, .ref a_draws, .ref a_refused, .int c_hasImage])), (a_now, .inr (6, [.ref a_now_row, .ref a_now_partners, .int c_now_askedCount, .int c_now_outcome, .ref a_now_share, .ref a_now_leftOver])), (a_now_row, .inl (E.2.1, 81, .inl c_now_row)), (q_2, .inr (0, [.ref v0, .int (0 : Int32), .int 0, .int 0])), (v0, .inl (E.2.2.1, 16, .inl (fun _ => 0)))] H := hP
  replace hD : va_D A [(a_, .inr (8, [.ref a_tape, .ref a_reader, .ref a_scripts, .ref a_now, .ref a_trial, .ref a_kept, .ref a_book, .ref a_keptBook, .ref a_history, .ref a_draws, .ref a_refused, .int c_hasImage])), (a_now, .inr (6, [.ref a_now_row, .ref a_now_partners, .int c_now_askedCount, .int c_now_outcome, .ref a_now_share, .ref a_now_leftOver])), (a_now_row, .inl (E.2.1, 81, .inl c_now_row)), (q_2, .inr (0, [.ref v0, .int (0 : Int32), .int 0, .int 0])), (v0, .inl (E.2.2.1, 16, .inl (fun _ => 0)))] := hD
  refine lv_astore_n (lv' := [(3, .ref q_2), (0, .ref a_), (1, .int (nI i9)), (2, .int p2)]) hx hb dX7_spell_20 rfl hl (by decide) rfl (fun ls hl => ?_)
  refine lv_aload_n hx hb dX7_spell_21 rfl (lv_at hl 0 rfl) ?_
  refine my_ldcwS hx hb hown (ZZ.s12 hZ) dX7_spell_22 ?_
  obtain ⟨hPc, hDc, hFc⟩ := wcut (wc := (wSB E q_2 v0 16 0 (nI (0)) (fun _ => 0))) hP hD hS hA [3, 4] (by decide) rfl
  have hrc := va_recv hK hPc (ci := 0) (q0 := 0) rfl rfl
  refine va_callr (va_runV (As := [.ref (z9 (20 + 12))]) (rest := []) ⟨hx, hb, hml, hown, hts⟩ (h_appS l E H.size z9 (av := q_2) (vv := v0) (mz := 16) (kk := 0) (ml := 0) (fc := (fun _ => 0)) (pp := 12) (w9 := 5) (Or.inl rfl) (by decide) sb_fit0 (Or.inl ⟨rfl, rfl⟩)) (cwV 1 hts g_h_spell_h_appS_270 rfl rfl rfl (by decide +kernel) ⟨Nat.le_of_ble_eq_true rfl, Nat.le_of_ble_eq_true rfl⟩) ⟨qWZ.blind, hrc, (qWZ.pre ⟨hK, hN⟩ hPc hDc hZ hS hFc)⟩ rfl rfl hl.1 rfl (lv_room (Nat.le_of_ble_eq_true rfl)) dX7_spell_25 ⟨Nat.le_of_ble_eq_true rfl, Nat.le_of_ble_eq_true rfl⟩) hS (fun q _ h => hFc q h) hFc (fun u9 ra_3 tt H1 locs ht hvm hw hB hz1 hk1 hS => ?_)
  obtain ⟨v1, m1, c1⟩ := u9
  obtain ⟨e11, e12, e14⟩ := hw
  obtain ⟨hra, hP1, hD1⟩ := hB
  rw [hra]
  rw [ht] at hP1
  obtain ⟨hP, hD⟩ := va_join (wr := [(a_, .inr (8, [.ref a_tape, .ref a_reader, .ref a_scripts, .ref a_now, .ref a_trial, .ref a_kept, .ref a_book, .ref a_keptBook, .ref a_history, .ref a_draws, .ref a_refused, .int c_hasImage])), (a_now, .inr (6, [.ref a_now_row, .ref a_now_partners, .int c_now_askedCount, .int c_now_outcome, .ref a_now_share, .ref a_now_leftOver])), (a_now_row, .inl (E.2.1, 81, .inl c_now_row))]) (w1 := [(q_2, .inr (0, [.ref v1, .int (0 : Int32), .int 0, .int (nI (0 + 5))])), (v1, .inl (E.2.2.1, m1, .inl c1))]) hP hD [3, 4] [0, 1, 2] rfl rfl (by decide) (by decide) hk1 hFc hP1 hD1
  generalize H1 = H at hP hS ⊢
  replace hP : va_P E.1 vwCl [(a_, .inr (8, [.ref a_tape, .ref a_reader, .ref a_scripts, .ref a_now, .ref a_trial, .ref a_kept, .ref a_book, .ref a_keptBook, .ref a_history, .ref a_draws, .ref a_refused, .int c_hasImage])), (a_now, .inr (6, [.ref a_now_row, .ref a_now_partners, .int c_now_askedCount, .int c_now_outcome, .ref a_now_share, .ref a_now_leftOver])), (a_now_row, .inl (E.2.1, 81, .inl c_now_row)), (q_2, .inr (0, [.ref v1, .int (0 : Int32), .int 0, .int (nI (0 + 5))])), (v1, .inl (E.2.2.1, m1, .inl c1))] H := hP
  replace hD : va_D A [(a_, .inr (8, [.ref a_tape, .ref a_reader, .ref a_scripts, .ref a_now, .ref a_trial, .ref a_kept, .ref a_book, .ref a_keptBook, .ref a_history, .ref a_draws, .ref a_refused, .int c_hasImage])), (a_now, .inr (6, [.ref a_now_row, .ref a_now_partners, .int c_now_askedCount, .int c_now_outcome, .ref a_now_share, .ref a_now_leftOver])), (a_now_row, .inl (E.2.1, 81, .inl c_now_row)), (q_2, .inr (0, [.ref v1, .int (0 : Int32), .int 0, .int (nI (0 + 5))])), (v1, .inl (E.2.2.1, m1, .inl c1))] := hD
  refine W.widen (k := 3) (n := 54) (Nat.le_of_ble_eq_true rfl) (Nat.le_of_ble_eq_true rfl) ?_
  have e11 : OKm m1 := e11
  have e12 : 0 + 5 ≤ m1 := e12
  have e14 : sb_Fit c1 := e14
  refine lv_pop hx hb dX7_spell_28 rfl ?_
  refine lv_aload_n hx hb dX7_spell_29 rfl (lv_at hl 0 rfl) ?_
  refine lv_iload_n hx hb dX7_spell_30 rfl (lv_at hl 2 rfl) ?_
  obtain ⟨hPc, hDc, hFc⟩ := wcut (wc := (wSB E q_2 v1 m1 0 (nI (0 + 5)) c1)) hP hD hS hA [3, 4] (by decide) rfl
  have hrc := va_recv hK hPc (ci := 0) (q0 := 0) rfl rfl
  refine va_callr (va_runV (As := [.int (nI i9)]) (rest := []) ⟨hx, hb, hml, hown, hts⟩ (h_appI l E H.size K z9 (av := q_2) (vv := v1) (mz := m1) (kk := 0 + 5) (ml := 0) (fc := c1) (iv := nI i9) (s9 := 1) e11 (by decide) e14 (ss_dig hK9 hi9) (gc_ofd hK9 hi9)) (cwV 1 hts g_h_spell_h_appI_274 rfl rfl rfl (by decide +kernel) ⟨Nat.le_of_ble_eq_true rfl, Nat.le_of_ble_eq_true rfl⟩) ⟨qWZ.blind, hrc, (qWZ.pre ⟨hK, hN⟩ hPc hDc hZ hS hFc)⟩ rfl rfl hl.1 rfl (lv_room (Nat.le_of_ble_eq_true rfl)) dX7_spell_31 ⟨Nat.le_of_ble_eq_true rfl, Nat.le_of_ble_eq_true rfl⟩) hS (fun q _ h => hFc q h) hFc (fun u9 ra_4 tt H1 locs ht hvm hw hB hz1 hk1 hS => ?_)
  obtain ⟨v2, m2, c2⟩ := u9
  obtain ⟨e21, e22, e24⟩ := hw
  obtain ⟨hra, hP1, hD1⟩ := hB
  rw [hra]
  rw [ht] at hP1
  obtain ⟨hP, hD⟩ := va_join (wr := [(a_, .inr (8, [.ref a_tape, .ref a_reader, .ref a_scripts, .ref a_now, .ref a_trial, .ref a_kept, .ref a_book, .ref a_keptBook, .ref a_history, .ref a_draws, .ref a_refused, .int c_hasImage])), (a_now, .inr (6, [.ref a_now_row, .ref a_now_partners, .int c_now_askedCount, .int c_now_outcome, .ref a_now_share, .ref a_now_leftOver])), (a_now_row, .inl (E.2.1, 81, .inl c_now_row))]) (w1 := [(q_2, .inr (0, [.ref v2, .int (0 : Int32), .int 0, .int (nI (0 + 5 + 1))])), (v2, .inl (E.2.2.1, m2, .inl c2))]) hP hD [3, 4] [0, 1, 2] rfl rfl (by decide) (by decide) hk1 hFc hP1 hD1
  generalize H1 = H at hP hS ⊢
  replace hP : va_P E.1 vwCl [(a_, .inr (8, [.ref a_tape, .ref a_reader, .ref a_scripts, .ref a_now, .ref a_trial, .ref a_kept, .ref a_book, .ref a_keptBook, .ref a_history, .ref a_draws, .ref a_refused, .int c_hasImage])), (a_now, .inr (6, [.ref a_now_row, .ref a_now_partners, .int c_now_askedCount, .int c_now_outcome, .ref a_now_share, .ref a_now_leftOver])), (a_now_row, .inl (E.2.1, 81, .inl c_now_row)), (q_2, .inr (0, [.ref v2, .int (0 : Int32), .int 0, .int (nI (0 + 5 + 1))])), (v2, .inl (E.2.2.1, m2, .inl c2))] H := hP
  replace hD : va_D A [(a_, .inr (8, [.ref a_tape, .ref a_reader, .ref a_scripts, .ref a_now, .ref a_trial, .ref a_kept, .ref a_book, .ref a_keptBook, .ref a_history, .ref a_draws, .ref a_refused, .int c_hasImage])), (a_now, .inr (6, [.ref a_now_row, .ref a_now_partners, .int c_now_askedCount, .int c_now_outcome, .ref a_now_share, .ref a_now_leftOver])), (a_now_row, .inl (E.2.1, 81, .inl c_now_row)), (q_2, .inr (0, [.ref v2, .int (0 : Int32), .int 0, .int (nI (0 + 5 + 1))])), (v2, .inl (E.2.2.1, m2, .inl c2))] := hD
  refine W.widen (k := 4) (n := 88) (Nat.le_of_ble_eq_true rfl) (Nat.le_of_ble_eq_true rfl) ?_
  have e21 : OKm m2 := e21
  have e22 : 0 + 5 + 1 ≤ m2 := e22
  have e24 : sb_Fit c2 := e24
  refine lv_pop hx hb dX7_spell_34 rfl ?_
  refine lv_aload_n hx hb dX7_spell_35 rfl (lv_at hl 0 rfl) ?_
  refine my_ldcwS hx hb hown (ZZ.s13 hZ) dX7_spell_36 ?_
  obtain ⟨hPc, hDc, hFc⟩ := wcut (wc := (wSB E q_2 v2 m2 0 (nI (0 + 5 + 1)) c2)) hP hD hS hA [3, 4] (by decide) rfl
  have hrc := va_recv hK hPc (ci := 0) (q0 := 0) rfl rfl
  refine va_callr (va_runV (As := [.ref (z9 (20 + 13))]) (rest := []) ⟨hx, hb, hml, hown, hts⟩ (h_appS l E H.size z9 (av := q_2) (vv := v2) (mz := m2) (kk := 0 + 5 + 1) (ml := 0) (fc := c2) (pp := 13) (w9 := 4) e21 (by decide) e24 (Or.inr ⟨rfl, rfl⟩)) (cwV 1 hts g_h_spell_h_appS_270 rfl rfl rfl (by decide +kernel) ⟨Nat.le_of_ble_eq_true rfl, Nat.le_of_ble_eq_true rfl⟩) ⟨qWZ.blind, hrc, (qWZ.pre ⟨hK, hN⟩ hPc hDc hZ hS hFc)⟩ rfl rfl hl.1 rfl (lv_room (Nat.le_of_ble_eq_true rfl)) dX7_spell_39 ⟨Nat.le_of_ble_eq_true rfl, Nat.le_of_ble_eq_true rfl⟩) hS (fun q _ h => hFc q h) hFc (fun u9 ra_5 tt H1 locs ht hvm hw hB hz1 hk1 hS => ?_)
  obtain ⟨v3, m3, c3⟩ := u9
  obtain ⟨e31, e32, e34⟩ := hw
  obtain ⟨hra, hP1, hD1⟩ := hB
  rw [hra]
  rw [ht] at hP1
  obtain ⟨hP, hD⟩ := va_join (wr := [(a_, .inr (8, [.ref a_tape, .ref a_reader, .ref a_scripts, .ref a_now, .ref a_trial, .ref a_kept, .ref a_book, .ref a_keptBook, .ref a_history, .ref a_draws, .ref a_refused, .int c_hasImage])), (a_now, .inr (6, [.ref a_now_row, .ref a_now_partners, .int c_now_askedCount, .int c_now_outcome, .ref a_now_share, .ref a_now_leftOver])), (a_now_row, .inl (E.2.1, 81, .inl c_now_row))]) (w1 := [(q_2, .inr (0, [.ref v3, .int (0 : Int32), .int 0, .int (nI (0 + 5 + 1 + 4))])), (v3, .inl (E.2.2.1, m3, .inl c3))]) hP hD [3, 4] [0, 1, 2] rfl rfl (by decide) (by decide) hk1 hFc hP1 hD1
  generalize H1 = H at hP hS ⊢
  replace hP : va_P E.1 vwCl [(a_, .inr (8, [.ref a_tape, .ref a_reader, .ref a_scripts, .ref a_now, .ref a_trial, .ref a_kept, .ref a_book, .ref a_keptBook, .ref a_history, .ref a_draws, .ref a_refused, .int c_hasImage])), (a_now, .inr (6, [.ref a_now_row, .ref a_now_partners, .int c_now_askedCount, .int c_now_outcome, .ref a_now_share, .ref a_now_leftOver])), (a_now_row, .inl (E.2.1, 81, .inl c_now_row)), (q_2, .inr (0, [.ref v3, .int (0 : Int32), .int 0, .int (nI (0 + 5 + 1 + 4))])), (v3, .inl (E.2.2.1, m3, .inl c3))] H := hP
  replace hD : va_D A [(a_, .inr (8, [.ref a_tape, .ref a_reader, .ref a_scripts, .ref a_now, .ref a_trial, .ref a_kept, .ref a_book, .ref a_keptBook, .ref a_history, .ref a_draws, .ref a_refused, .int c_hasImage])), (a_now, .inr (6, [.ref a_now_row, .ref a_now_partners, .int c_now_askedCount, .int c_now_outcome, .ref a_now_share, .ref a_now_leftOver])), (a_now_row, .inl (E.2.1, 81, .inl c_now_row)), (q_2, .inr (0, [.ref v3, .int (0 : Int32), .int 0, .int (nI (0 + 5 + 1 + 4))])), (v3, .inl (E.2.2.1, m3, .inl c3))] := hD
  refine W.widen (k := 5) (n := 122) (Nat.le_of_ble_eq_true rfl) (Nat.le_of_ble_eq_true rfl) ?_
  have e31 : OKm m3 := e31
  have e32 : 0 + 5 + 1 + 4 ≤ m3 := e32
  have e34 : sb_Fit c3 := e34
  refine lv_pop hx hb dX7_spell_42 rfl ?_
  refine lv_aload_n hx hb dX7_spell_43 rfl (lv_at hl 0 rfl) ?_
  refine lv_aload_n hx hb dX7_spell_44 rfl (lv_at hl 1 rfl) ?_
  refine va_get (D := E.1) (ci := 8) (v := .ref a_now) (C := RX7) (T := TX7) (N := 12) hx hb hts i_h_spell_X7 hown hK hP 0 rfl rfl 3 (by decide) (hts (.fieldLink RX7 35 "HushWatch" "now" "LHushWatch$State;") (List.mem_of_getElem? (i := 1) rfl)) (fun _ h9 => h9) rfl dX7_spell_45 ?_
  refine lv_iload_n hx hb dX7_spell_48 rfl (lv_at hl 2 rfl) ?_
  refine lv_iconst (v := 0) hx hb dX7_spell_49 (by decide) ?_
  obtain ⟨x9, hx9, -⟩ := t_of (p1 := nI i9) (p2 := 0) (f := c_now_row)
  have hPc : va_P E.1 vwCl (w_X5_of E a_now a_now_row a_now_partners a_now_share a_now_leftOver c_now_askedCount c_now_outcome c_now_row) H := hP.sub (ws' := [(a_now, .inr (6, [.ref a_now_row, .ref a_now_partners, .int c_now_askedCount, .int c_now_outcome, .ref a_now_share, .ref a_now_leftOver])), (a_now_row, .inl (E.2.1, 81, .inl c_now_row))]) [1, 2] rfl
  have hrc := va_recv hK hPc (ci := 6) (q0 := 0) rfl rfl
  refine pE_i (va_runV (As := [.int (nI i9), .int (0 : Int32)]) (rest := [.ref q_2]) ⟨hx, hb, hml, hown, hts⟩ (f_X5_of l E (a_ := a_now) (a_row := a_now_row) (a_partners := a_now_partners) (a_share := a_now_share) (a_leftOver := a_now_leftOver) (p1 := nI i9) (p2 := (0 : Int32)) (c_askedCount := c_now_askedCount) (c_outcome := c_now_outcome) (c_row := c_now_row) hx9) (cwV 2 hts g_h_spell_f_X5_of_140 rfl rfl rfl (by decide +kernel) ⟨Nat.le_of_ble_eq_true rfl, Nat.le_of_ble_eq_true rfl⟩) ⟨pP.blind, hrc, (pP.pre ⟨hK, hN⟩ hPc)⟩ rfl rfl hl.1 rfl (lv_room (Nat.le_of_ble_eq_true rfl)) dX7_spell_50 ⟨Nat.le_of_ble_eq_true rfl, Nat.le_of_ble_eq_true rfl⟩) ?_
  obtain ⟨rx, hrx, sx, sx1, sx2, rfl⟩ := ss_tot (i := x9) hK9
  obtain ⟨hPc, hDc, hFc⟩ := wcut (wc := (wSB E q_2 v3 m3 0 (nI (0 + 5 + 1 + 4)) c3)) hP hD hS hA [3, 4] (by decide) rfl
  have hrc := va_recv hK hPc (ci := 0) (q0 := 0) rfl rfl
  refine va_callr (va_runV (As := [.int x9]) (rest := []) ⟨hx, hb, hml, hown, hts⟩ (h_appI l E H.size K z9 (av := q_2) (vv := v3) (mz := m3) (kk := 0 + 5 + 1 + 4) (ml := 0) (fc := c3) (iv := x9) (s9 := sx) e31 (show 0 + 5 + 1 + 4 + sx ≤ 34 by omega) e34 hrx (gc_of hK9 (show 11 ≤ 0 + 5 + 1 + 4 + sx by omega))) (cwV 1 hts g_h_spell_h_appI_274 rfl rfl rfl (by decide +kernel) ⟨Nat.le_of_ble_eq_true rfl, Nat.le_of_ble_eq_true rfl⟩) ⟨qWZ.blind, hrc, (qWZ.pre ⟨hK, hN⟩ hPc hDc hZ hS hFc)⟩ rfl rfl hl.1 rfl (lv_room (Nat.le_of_ble_eq_true rfl)) dX7_spell_53 ⟨Nat.le_of_ble_eq_true rfl, Nat.le_of_ble_eq_true rfl⟩) hS (fun q _ h => hFc q h) hFc (fun u9 ra_6 tt H1 locs ht hvm hw hB hz1 hk1 hS => ?_)
  obtain ⟨v4, m4, c4⟩ := u9
  obtain ⟨e41, e42, e44⟩ := hw
  obtain ⟨hra, hP1, hD1⟩ := hB
  rw [hra]
  rw [ht] at hP1
  obtain ⟨hP, hD⟩ := va_join (wr := [(a_, .inr (8, [.ref a_tape, .ref a_reader, .ref a_scripts, .ref a_now, .ref a_trial, .ref a_kept, .ref a_book, .ref a_keptBook, .ref a_history, .ref a_draws, .ref a_refused, .int c_hasImage])), (a_now, .inr (6, [.ref a_now_row, .ref a_now_partners, .int c_now_askedCount, .int c_now_outcome, .ref a_now_share, .ref a_now_leftOver])), (a_now_row, .inl (E.2.1, 81, .inl c_now_row))]) (w1 := [(q_2, .inr (0, [.ref v4, .int (0 : Int32), .int 0, .int (nI (0 + 5 + 1 + 4 + sx))])), (v4, .inl (E.2.2.1, m4, .inl c4))]) hP hD [3, 4] [0, 1, 2] rfl rfl (by decide) (by decide) hk1 hFc hP1 hD1
  generalize H1 = H at hP hS ⊢
  replace hP : va_P E.1 vwCl [(a_, .inr (8, [.ref a_tape, .ref a_reader, .ref a_scripts, .ref a_now, .ref a_trial, .ref a_kept, .ref a_book, .ref a_keptBook, .ref a_history, .ref a_draws, .ref a_refused, .int c_hasImage])), (a_now, .inr (6, [.ref a_now_row, .ref a_now_partners, .int c_now_askedCount, .int c_now_outcome, .ref a_now_share, .ref a_now_leftOver])), (a_now_row, .inl (E.2.1, 81, .inl c_now_row)), (q_2, .inr (0, [.ref v4, .int (0 : Int32), .int 0, .int (nI (0 + 5 + 1 + 4 + sx))])), (v4, .inl (E.2.2.1, m4, .inl c4))] H := hP
  replace hD : va_D A [(a_, .inr (8, [.ref a_tape, .ref a_reader, .ref a_scripts, .ref a_now, .ref a_trial, .ref a_kept, .ref a_book, .ref a_keptBook, .ref a_history, .ref a_draws, .ref a_refused, .int c_hasImage])), (a_now, .inr (6, [.ref a_now_row, .ref a_now_partners, .int c_now_askedCount, .int c_now_outcome, .ref a_now_share, .ref a_now_leftOver])), (a_now_row, .inl (E.2.1, 81, .inl c_now_row)), (q_2, .inr (0, [.ref v4, .int (0 : Int32), .int 0, .int (nI (0 + 5 + 1 + 4 + sx))])), (v4, .inl (E.2.2.1, m4, .inl c4))] := hD
  refine W.widen (k := 6) (n := 156) (Nat.le_of_ble_eq_true rfl) (Nat.le_of_ble_eq_true rfl) ?_
  have e41 : OKm m4 := e41
  have e42 : 0 + 5 + 1 + 4 + sx ≤ m4 := e42
  have e44 : sb_Fit c4 := e44
  refine lv_pop hx hb dX7_spell_56 rfl ?_
  refine lv_aload_n hx hb dX7_spell_57 rfl (lv_at hl 0 rfl) ?_
  refine lv_bipush (v := 44) hx hb dX7_spell_58 (by decide) ?_
  obtain ⟨hPc, hDc, hFc⟩ := wcut (wc := (wSB E q_2 v4 m4 0 (nI (0 + 5 + 1 + 4 + sx)) c4)) hP hD hS hA [3, 4] (by decide) rfl
  have hrc := va_recv hK hPc (ci := 0) (q0 := 0) rfl rfl
  refine va_callr (va_runV (As := [.int (44 : Int32)]) (rest := []) ⟨hx, hb, hml, hown, hts⟩ (h_appC l E H.size z9 (av := q_2) (vv := v4) (mz := m4) (kk := 0 + 5 + 1 + 4 + sx) (ml := 0) (fc := c4) (ch := 44) e41 (show 0 + 5 + 1 + 4 + sx + 1 ≤ 34 by omega) e44 rfl) (cwV 1 hts g_h_spell_h_appC_279 rfl rfl rfl (by decide +kernel) ⟨Nat.le_of_ble_eq_true rfl, Nat.le_of_ble_eq_true rfl⟩) ⟨qWZ.blind, hrc, (qWZ.pre ⟨hK, hN⟩ hPc hDc hZ hS hFc)⟩ rfl rfl hl.1 rfl (lv_room (Nat.le_of_ble_eq_true rfl)) dX7_spell_60 ⟨Nat.le_of_ble_eq_true rfl, Nat.le_of_ble_eq_true rfl⟩) hS (fun q _ h => hFc q h) hFc (fun u9 ra_7 tt H1 locs ht hvm hw hB hz1 hk1 hS => ?_)
  obtain ⟨v5, m5, c5⟩ := u9
  obtain ⟨e51, e52, e54⟩ := hw
  obtain ⟨hra, hP1, hD1⟩ := hB
  rw [hra]
  rw [ht] at hP1
  obtain ⟨hP, hD⟩ := va_join (wr := [(a_, .inr (8, [.ref a_tape, .ref a_reader, .ref a_scripts, .ref a_now, .ref a_trial, .ref a_kept, .ref a_book, .ref a_keptBook, .ref a_history, .ref a_draws, .ref a_refused, .int c_hasImage])), (a_now, .inr (6, [.ref a_now_row, .ref a_now_partners, .int c_now_askedCount, .int c_now_outcome, .ref a_now_share, .ref a_now_leftOver])), (a_now_row, .inl (E.2.1, 81, .inl c_now_row))]) (w1 := [(q_2, .inr (0, [.ref v5, .int (0 : Int32), .int 0, .int (nI (0 + 5 + 1 + 4 + sx + 1))])), (v5, .inl (E.2.2.1, m5, .inl c5))]) hP hD [3, 4] [0, 1, 2] rfl rfl (by decide) (by decide) hk1 hFc hP1 hD1
  generalize H1 = H at hP hS ⊢
  replace hP : va_P E.1 vwCl [(a_, .inr (8, [.ref a_tape, .ref a_reader, .ref a_scripts, .ref a_now, .ref a_trial, .ref a_kept, .ref a_book, .ref a_keptBook, .ref a_history, .ref a_draws, .ref a_refused, .int c_hasImage])), (a_now, .inr (6, [.ref a_now_row, .ref a_now_partners, .int c_now_askedCount, .int c_now_outcome, .ref a_now_share, .ref a_now_leftOver])), (a_now_row, .inl (E.2.1, 81, .inl c_now_row)), (q_2, .inr (0, [.ref v5, .int (0 : Int32), .int 0, .int (nI (0 + 5 + 1 + 4 + sx + 1))])), (v5, .inl (E.2.2.1, m5, .inl c5))] H := hP
  replace hD : va_D A [(a_, .inr (8, [.ref a_tape, .ref a_reader, .ref a_scripts, .ref a_now, .ref a_trial, .ref a_kept, .ref a_book, .ref a_keptBook, .ref a_history, .ref a_draws, .ref a_refused, .int c_hasImage])), (a_now, .inr (6, [.ref a_now_row, .ref a_now_partners, .int c_now_askedCount, .int c_now_outcome, .ref a_now_share, .ref a_now_leftOver])), (a_now_row, .inl (E.2.1, 81, .inl c_now_row)), (q_2, .inr (0, [.ref v5, .int (0 : Int32), .int 0, .int (nI (0 + 5 + 1 + 4 + sx + 1))])), (v5, .inl (E.2.2.1, m5, .inl c5))] := hD
  refine W.widen (k := 7) (n := 190) (Nat.le_of_ble_eq_true rfl) (Nat.le_of_ble_eq_true rfl) ?_
  have e51 : OKm m5 := e51
  have e52 : 0 + 5 + 1 + 4 + sx + 1 ≤ m5 := e52
  have e54 : sb_Fit c5 := e54
  refine lv_pop hx hb dX7_spell_63 rfl ?_
  refine lv_aload_n hx hb dX7_spell_64 rfl (lv_at hl 0 rfl) ?_
  refine lv_aload_n hx hb dX7_spell_65 rfl (lv_at hl 1 rfl) ?_
  refine va_get (D := E.1) (ci := 8) (v := .ref a_now) (C := RX7) (T := TX7) (N := 12) hx hb hts i_h_spell_X7 hown hK hP 0 rfl rfl 3 (by decide) (hts (.fieldLink RX7 35 "HushWatch" "now" "LHushWatch$State;") (List.mem_of_getElem? (i := 1) rfl)) (fun _ h9 => h9) rfl dX7_spell_66 ?_
  refine lv_iload_n hx hb dX7_spell_69 rfl (lv_at hl 2 rfl) ?_
  refine lv_iconst (v := 1) hx hb dX7_spell_70 (by decide) ?_
  obtain ⟨y9, hy9, -⟩ := t_of (p1 := nI i9) (p2 := 1) (f := c_now_row)
  have hPc : va_P E.1 vwCl (w_X5_of E a_now a_now_row a_now_partners a_now_share a_now_leftOver c_now_askedCount c_now_outcome c_now_row) H := hP.sub (ws' := [(a_now, .inr (6, [.ref a_now_row, .ref a_now_partners, .int c_now_askedCount, .int c_now_outcome, .ref a_now_share, .ref a_now_leftOver])), (a_now_row, .inl (E.2.1, 81, .inl c_now_row))]) [1, 2] rfl
  have hrc := va_recv hK hPc (ci := 6) (q0 := 0) rfl rfl
  refine pE_i (va_runV (As := [.int (nI i9), .int (1 : Int32)]) (rest := [.ref q_2]) ⟨hx, hb, hml, hown, hts⟩ (f_X5_of l E (a_ := a_now) (a_row := a_now_row) (a_partners := a_now_partners) (a_share := a_now_share) (a_leftOver := a_now_leftOver) (p1 := nI i9) (p2 := (1 : Int32)) (c_askedCount := c_now_askedCount) (c_outcome := c_now_outcome) (c_row := c_now_row) hy9) (cwV 2 hts g_h_spell_f_X5_of_140 rfl rfl rfl (by decide +kernel) ⟨Nat.le_of_ble_eq_true rfl, Nat.le_of_ble_eq_true rfl⟩) ⟨pP.blind, hrc, (pP.pre ⟨hK, hN⟩ hPc)⟩ rfl rfl hl.1 rfl (lv_room (Nat.le_of_ble_eq_true rfl)) dX7_spell_71 ⟨Nat.le_of_ble_eq_true rfl, Nat.le_of_ble_eq_true rfl⟩) ?_
  obtain ⟨ry, hry, sy, sy1, sy2, rfl⟩ := ss_tot (i := y9) hK9
  obtain ⟨hPc, hDc, hFc⟩ := wcut (wc := (wSB E q_2 v5 m5 0 (nI (0 + 5 + 1 + 4 + sx + 1)) c5)) hP hD hS hA [3, 4] (by decide) rfl
  have hrc := va_recv hK hPc (ci := 0) (q0 := 0) rfl rfl
  refine va_callr (va_runV (As := [.int y9]) (rest := []) ⟨hx, hb, hml, hown, hts⟩ (h_appI l E H.size K z9 (av := q_2) (vv := v5) (mz := m5) (kk := 0 + 5 + 1 + 4 + sx + 1) (ml := 0) (fc := c5) (iv := y9) (s9 := sy) e51 (show 0 + 5 + 1 + 4 + sx + 1 + sy ≤ 34 by omega) e54 hry (gc_of hK9 (show 11 ≤ 0 + 5 + 1 + 4 + sx + 1 + sy by omega))) (cwV 1 hts g_h_spell_h_appI_274 rfl rfl rfl (by decide +kernel) ⟨Nat.le_of_ble_eq_true rfl, Nat.le_of_ble_eq_true rfl⟩) ⟨qWZ.blind, hrc, (qWZ.pre ⟨hK, hN⟩ hPc hDc hZ hS hFc)⟩ rfl rfl hl.1 rfl (lv_room (Nat.le_of_ble_eq_true rfl)) dX7_spell_74 ⟨Nat.le_of_ble_eq_true rfl, Nat.le_of_ble_eq_true rfl⟩) hS (fun q _ h => hFc q h) hFc (fun u9 ra_8 tt H1 locs ht hvm hw hB hz1 hk1 hS => ?_)
  obtain ⟨v6, m6, c6⟩ := u9
  obtain ⟨e61, e62, e64⟩ := hw
  obtain ⟨hra, hP1, hD1⟩ := hB
  rw [hra]
  rw [ht] at hP1
  obtain ⟨hP, hD⟩ := va_join (wr := [(a_, .inr (8, [.ref a_tape, .ref a_reader, .ref a_scripts, .ref a_now, .ref a_trial, .ref a_kept, .ref a_book, .ref a_keptBook, .ref a_history, .ref a_draws, .ref a_refused, .int c_hasImage])), (a_now, .inr (6, [.ref a_now_row, .ref a_now_partners, .int c_now_askedCount, .int c_now_outcome, .ref a_now_share, .ref a_now_leftOver])), (a_now_row, .inl (E.2.1, 81, .inl c_now_row))]) (w1 := [(q_2, .inr (0, [.ref v6, .int (0 : Int32), .int 0, .int (nI (0 + 5 + 1 + 4 + sx + 1 + sy))])), (v6, .inl (E.2.2.1, m6, .inl c6))]) hP hD [3, 4] [0, 1, 2] rfl rfl (by decide) (by decide) hk1 hFc hP1 hD1
  generalize H1 = H at hP hS ⊢
  replace hP : va_P E.1 vwCl [(a_, .inr (8, [.ref a_tape, .ref a_reader, .ref a_scripts, .ref a_now, .ref a_trial, .ref a_kept, .ref a_book, .ref a_keptBook, .ref a_history, .ref a_draws, .ref a_refused, .int c_hasImage])), (a_now, .inr (6, [.ref a_now_row, .ref a_now_partners, .int c_now_askedCount, .int c_now_outcome, .ref a_now_share, .ref a_now_leftOver])), (a_now_row, .inl (E.2.1, 81, .inl c_now_row)), (q_2, .inr (0, [.ref v6, .int (0 : Int32), .int 0, .int (nI (0 + 5 + 1 + 4 + sx + 1 + sy))])), (v6, .inl (E.2.2.1, m6, .inl c6))] H := hP
  replace hD : va_D A [(a_, .inr (8, [.ref a_tape, .ref a_reader, .ref a_scripts, .ref a_now, .ref a_trial, .ref a_kept, .ref a_book, .ref a_keptBook, .ref a_history, .ref a_draws, .ref a_refused, .int c_hasImage])), (a_now, .inr (6, [.ref a_now_row, .ref a_now_partners, .int c_now_askedCount, .int c_now_outcome, .ref a_now_share, .ref a_now_leftOver])), (a_now_row, .inl (E.2.1, 81, .inl c_now_row)), (q_2, .inr (0, [.ref v6, .int (0 : Int32), .int 0, .int (nI (0 + 5 + 1 + 4 + sx + 1 + sy))])), (v6, .inl (E.2.2.1, m6, .inl c6))] := hD
  refine W.widen (k := 8) (n := 224) (Nat.le_of_ble_eq_true rfl) (Nat.le_of_ble_eq_true rfl) ?_
  have e61 : OKm m6 := e61
  have e62 : 0 + 5 + 1 + 4 + sx + 1 + sy ≤ m6 := e62
  have e64 : sb_Fit c6 := e64
  refine lv_pop hx hb dX7_spell_77 rfl ?_
  refine lv_aload_n hx hb dX7_spell_78 rfl (lv_at hl 1 rfl) ?_
  refine va_get (D := E.1) (ci := 8) (v := .ref a_now) (C := RX7) (T := TX7) (N := 12) hx hb hts i_h_spell_X7 hown hK hP 0 rfl rfl 3 (by decide) (hts (.fieldLink RX7 35 "HushWatch" "now" "LHushWatch$State;") (List.mem_of_getElem? (i := 1) rfl)) (fun _ h9 => h9) rfl dX7_spell_79 ?_
  refine lv_iload_n hx hb dX7_spell_82 rfl (lv_at hl 2 rfl) ?_
  obtain ⟨u8, hu8, -⟩ := t_isQuiet (p1 := nI i9) (f := c_now_row)
  have hPc : va_P E.1 vwCl (w_X5_isQuiet E a_now a_now_row a_now_partners a_now_share a_now_leftOver c_now_askedCount c_now_outcome c_now_row) H := hP.sub (ws' := [(a_now, .inr (6, [.ref a_now_row, .ref a_now_partners, .int c_now_askedCount, .int c_now_outcome, .ref a_now_share, .ref a_now_leftOver])), (a_now_row, .inl (E.2.1, 81, .inl c_now_row))]) [1, 2] rfl
  have hrc := va_recv hK hPc (ci := 6) (q0 := 0) rfl rfl
  refine pE_z (va_runV (As := [.int (nI i9)]) (rest := []) ⟨hx, hb, hml, hown, hts⟩ (f_X5_isQuiet l E (a_ := a_now) (a_row := a_now_row) (a_partners := a_now_partners) (a_share := a_now_share) (a_leftOver := a_now_leftOver) (p1 := nI i9) (c_askedCount := c_now_askedCount) (c_outcome := c_now_outcome) (c_row := c_now_row) hu8) (cwV 1 hts g_h_spell_f_X5_isQuiet_137 rfl rfl rfl (by decide +kernel) ⟨Nat.le_of_ble_eq_true rfl, Nat.le_of_ble_eq_true rfl⟩) ⟨pP.blind, hrc, (pP.pre ⟨hK, hN⟩ hPc)⟩ rfl rfl hl.1 rfl (lv_room (Nat.le_of_ble_eq_true rfl)) dX7_spell_83 ⟨Nat.le_of_ble_eq_true rfl, Nat.le_of_ble_eq_true rfl⟩) (fun hb_9 => ?_)
  refine lv_if_ne (tgt := 96) hx hb dX7_spell_86 (by decide) (fun q8 => ?_) (fun q8 => ?_)
  ·
    refine lv_iload_n hx hb dX7_spell_96 rfl (lv_at hl 3 rfl) ?_
    refine lv_iconst (v := -1) hx hb dX7_spell_97 (by decide) ?_
    refine lv_icmp_ne (tgt := 106) hx hb dX7_spell_98 (by decide) (fun q7 => ?_) (fun q7 => ?_)
    ·
      refine lv_iload_n hx hb dX7_spell_106 rfl (lv_at hl 3 rfl) ?_
      refine lv_if_lt (tgt := 118) hx hb dX7_spell_107 (by decide) (fun q6 => ?_) (fun q6 => ?_)
      ·
        refine lv_iconst (v := -1) hx hb dX7_spell_118 (by decide) ?_
        refine W.widen (k := 9) (n := 258) (Nat.le_of_ble_eq_true rfl) (Nat.le_of_ble_eq_true rfl) ?_
        have hP9 := hP.sub (ws' := [(a_, .inr (8, [.ref a_tape, .ref a_reader, .ref a_scripts, .ref a_now, .ref a_trial, .ref a_kept, .ref a_book, .ref a_keptBook, .ref a_history, .ref a_draws, .ref a_refused, .int c_hasImage])), (a_now, .inr (6, [.ref a_now_row, .ref a_now_partners, .int c_now_askedCount, .int c_now_outcome, .ref a_now_share, .ref a_now_leftOver])), (a_now_row, .inl (E.2.1, 81, .inl c_now_row))]) [0, 1, 2] rfl
        have hD9 := hD.sub (ws' := [(a_, .inr (8, [.ref a_tape, .ref a_reader, .ref a_scripts, .ref a_now, .ref a_trial, .ref a_kept, .ref a_book, .ref a_keptBook, .ref a_history, .ref a_draws, .ref a_refused, .int c_hasImage])), (a_now, .inr (6, [.ref a_now_row, .ref a_now_partners, .int c_now_askedCount, .int c_now_outcome, .ref a_now_share, .ref a_now_leftOver])), (a_now_row, .inl (E.2.1, 81, .inl c_now_row))]) [0, 1, 2] (by decide) rfl
        rw [hQ]
        exact W.iret (v := -1) hx hb hr (fun tt ht hW => ⟨⟨_, (), rfl, trivial, by rw [ht]; exact hP9, hD9⟩, hS.F ht⟩) hS.2.2 dX7_spell_119
      ·
        refine lv_iload_n hx hb dX7_spell_110 rfl (lv_at hl 3 rfl) ?_
        refine lv_aload_n hx hb dX7_spell_111 rfl (lv_at hl 0 rfl) ?_
        have hPc : va_P E.1 vwCl (w_J4_length_8abf5 E q_2 v6 (0 : Int32) 0 (nI (0 + 5 + 1 + 4 + sx + 1 + sy))) H := hP.sub (ws' := [(q_2, .inr (0, [.ref v6, .int (0 : Int32), .int 0, .int (nI (0 + 5 + 1 + 4 + sx + 1 + sy))]))]) [3] rfl
        have hrc := va_recv hK hPc (ci := 0) (q0 := 0) rfl rfl
        refine pE_i (va_runV (As := []) (rest := [.int p2]) ⟨hx, hb, hml, hown, hts⟩ (f_J4_length_8abf5 l E (a_ := q_2) (a_value := v6) (c_coder := (0 : Int32)) (c_maybeLatin1 := 0) (c_count := nI (0 + 5 + 1 + 4 + sx + 1 + sy)) (show F_J4_length_8abf5 (nI (0 + 5 + 1 + 4 + sx + 1 + sy)) = some (nI (0 + 5 + 1 + 4 + sx + 1 + sy)) from rfl)) (cwV 0 hts g_h_spell_f_J4_length_8abf5_282 rfl rfl rfl (by decide +kernel) ⟨Nat.le_of_ble_eq_true rfl, Nat.le_of_ble_eq_true rfl⟩) ⟨pP.blind, hrc, (pP.pre ⟨hK, hN⟩ hPc)⟩ rfl rfl hl.1 rfl (lv_room (Nat.le_of_ble_eq_true rfl)) dX7_spell_112 ⟨Nat.le_of_ble_eq_true rfl, Nat.le_of_ble_eq_true rfl⟩) ?_
        refine lv_icmp_lt (tgt := 120) hx hb dX7_spell_115 (by decide) (fun q5 => ?_) (fun q5 => ?_)
        ·
          obtain ⟨j9, hj9, rfl⟩ := nnI (n := 0 + 5 + 1 + 4 + sx + 1 + sy) (by omega) q6 (lt_not.mp q5)
          refine lv_aload_n hx hb dX7_spell_120 rfl (lv_at hl 0 rfl) ?_
          refine lv_iload_n hx hb dX7_spell_121 rfl (lv_at hl 3 rfl) ?_
          obtain ⟨r9, hr9⟩ := ca4_ok (c := c6) hj9 e62 e61.le
          have hPc : va_P E.1 vwCl (w_J4_charAt_5068e E q_2 v6 (0 : Int32) 0 (nI (0 + 5 + 1 + 4 + sx + 1 + sy)) c6 m6) H := hP.sub (ws' := [(q_2, .inr (0, [.ref v6, .int (0 : Int32), .int 0, .int (nI (0 + 5 + 1 + 4 + sx + 1 + sy))])), (v6, .inl (E.2.2.1, m6, .inl c6))]) [3, 4] rfl
          have hrc := va_recv hK hPc (ci := 0) (q0 := 0) rfl rfl
          refine pE_c (va_runV (As := [.int (nI j9)]) (rest := []) ⟨hx, hb, hml, hown, hts⟩ (f_J4_charAt_5068e l E z9 (a_ := q_2) (a_value := v6) (p1 := nI j9) (c_coder := (0 : Int32)) (c_maybeLatin1 := 0) (c_count := nI (0 + 5 + 1 + 4 + sx + 1 + sy)) (c_value := c6) (m9 := m6) hr9) (cwV 1 hts g_h_spell_f_J4_charAt_5068e_284 rfl rfl rfl (by decide +kernel) ⟨Nat.le_of_ble_eq_true rfl, Nat.le_of_ble_eq_true rfl⟩) ⟨qPZ.blind, hrc, (qPZ.pre ⟨hK, hN⟩ hPc hZ hS)⟩ rfl rfl hl.1 rfl (lv_room (Nat.le_of_ble_eq_true rfl)) dX7_spell_122 ⟨Nat.le_of_ble_eq_true rfl, Nat.le_of_ble_eq_true rfl⟩) (fun hb_10 => ?_)
          refine W.widen (k := 9) (n := 258) (Nat.le_of_ble_eq_true rfl) (Nat.le_of_ble_eq_true rfl) ?_
          have hP9 := hP.sub (ws' := [(a_, .inr (8, [.ref a_tape, .ref a_reader, .ref a_scripts, .ref a_now, .ref a_trial, .ref a_kept, .ref a_book, .ref a_keptBook, .ref a_history, .ref a_draws, .ref a_refused, .int c_hasImage])), (a_now, .inr (6, [.ref a_now_row, .ref a_now_partners, .int c_now_askedCount, .int c_now_outcome, .ref a_now_share, .ref a_now_leftOver])), (a_now_row, .inl (E.2.1, 81, .inl c_now_row))]) [0, 1, 2] rfl
          have hD9 := hD.sub (ws' := [(a_, .inr (8, [.ref a_tape, .ref a_reader, .ref a_scripts, .ref a_now, .ref a_trial, .ref a_kept, .ref a_book, .ref a_keptBook, .ref a_history, .ref a_draws, .ref a_refused, .int c_hasImage])), (a_now, .inr (6, [.ref a_now_row, .ref a_now_partners, .int c_now_askedCount, .int c_now_outcome, .ref a_now_share, .ref a_now_leftOver])), (a_now_row, .inl (E.2.1, 81, .inl c_now_row))]) [0, 1, 2] (by decide) rfl
          rw [hQ]
          exact W.iret (v := r9) hx hb hr (fun tt ht hW => ⟨⟨_, (), rfl, trivial, by rw [ht]; exact hP9, hD9⟩, hS.F ht⟩) hS.2.2 dX7_spell_125
        ·
          refine lv_iconst (v := -1) hx hb dX7_spell_118 (by decide) ?_
          refine W.widen (k := 9) (n := 258) (Nat.le_of_ble_eq_true rfl) (Nat.le_of_ble_eq_true rfl) ?_
          have hP9 := hP.sub (ws' := [(a_, .inr (8, [.ref a_tape, .ref a_reader, .ref a_scripts, .ref a_now, .ref a_trial, .ref a_kept, .ref a_book, .ref a_keptBook, .ref a_history, .ref a_draws, .ref a_refused, .int c_hasImage])), (a_now, .inr (6, [.ref a_now_row, .ref a_now_partners, .int c_now_askedCount, .int c_now_outcome, .ref a_now_share, .ref a_now_leftOver])), (a_now_row, .inl (E.2.1, 81, .inl c_now_row))]) [0, 1, 2] rfl
          have hD9 := hD.sub (ws' := [(a_, .inr (8, [.ref a_tape, .ref a_reader, .ref a_scripts, .ref a_now, .ref a_trial, .ref a_kept, .ref a_book, .ref a_keptBook, .ref a_history, .ref a_draws, .ref a_refused, .int c_hasImage])), (a_now, .inr (6, [.ref a_now_row, .ref a_now_partners, .int c_now_askedCount, .int c_now_outcome, .ref a_now_share, .ref a_now_leftOver])), (a_now_row, .inl (E.2.1, 81, .inl c_now_row))]) [0, 1, 2] (by decide) rfl
          rw [hQ]
          exact W.iret (v := -1) hx hb hr (fun tt ht hW => ⟨⟨_, (), rfl, trivial, by rw [ht]; exact hP9, hD9⟩, hS.F ht⟩) hS.2.2 dX7_spell_119
    ·
      refine lv_aload_n hx hb dX7_spell_101 rfl (lv_at hl 0 rfl) ?_
      have hPc : va_P E.1 vwCl (w_J4_length_8abf5 E q_2 v6 (0 : Int32) 0 (nI (0 + 5 + 1 + 4 + sx + 1 + sy))) H := hP.sub (ws' := [(q_2, .inr (0, [.ref v6, .int (0 : Int32), .int 0, .int (nI (0 + 5 + 1 + 4 + sx + 1 + sy))]))]) [3] rfl
      have hrc := va_recv hK hPc (ci := 0) (q0 := 0) rfl rfl
      refine pE_i (va_runV (As := []) (rest := []) ⟨hx, hb, hml, hown, hts⟩ (f_J4_length_8abf5 l E (a_ := q_2) (a_value := v6) (c_coder := (0 : Int32)) (c_maybeLatin1 := 0) (c_count := nI (0 + 5 + 1 + 4 + sx + 1 + sy)) (show F_J4_length_8abf5 (nI (0 + 5 + 1 + 4 + sx + 1 + sy)) = some (nI (0 + 5 + 1 + 4 + sx + 1 + sy)) from rfl)) (cwV 0 hts g_h_spell_f_J4_length_8abf5_282 rfl rfl rfl (by decide +kernel) ⟨Nat.le_of_ble_eq_true rfl, Nat.le_of_ble_eq_true rfl⟩) ⟨pP.blind, hrc, (pP.pre ⟨hK, hN⟩ hPc)⟩ rfl rfl hl.1 rfl (lv_room (Nat.le_of_ble_eq_true rfl)) dX7_spell_102 ⟨Nat.le_of_ble_eq_true rfl, Nat.le_of_ble_eq_true rfl⟩) ?_
      refine W.widen (k := 9) (n := 258) (Nat.le_of_ble_eq_true rfl) (Nat.le_of_ble_eq_true rfl) ?_
      have hP9 := hP.sub (ws' := [(a_, .inr (8, [.ref a_tape, .ref a_reader, .ref a_scripts, .ref a_now, .ref a_trial, .ref a_kept, .ref a_book, .ref a_keptBook, .ref a_history, .ref a_draws, .ref a_refused, .int c_hasImage])), (a_now, .inr (6, [.ref a_now_row, .ref a_now_partners, .int c_now_askedCount, .int c_now_outcome, .ref a_now_share, .ref a_now_leftOver])), (a_now_row, .inl (E.2.1, 81, .inl c_now_row))]) [0, 1, 2] rfl
      have hD9 := hD.sub (ws' := [(a_, .inr (8, [.ref a_tape, .ref a_reader, .ref a_scripts, .ref a_now, .ref a_trial, .ref a_kept, .ref a_book, .ref a_keptBook, .ref a_history, .ref a_draws, .ref a_refused, .int c_hasImage])), (a_now, .inr (6, [.ref a_now_row, .ref a_now_partners, .int c_now_askedCount, .int c_now_outcome, .ref a_now_share, .ref a_now_leftOver])), (a_now_row, .inl (E.2.1, 81, .inl c_now_row))]) [0, 1, 2] (by decide) rfl
      rw [hQ]
      exact W.iret (v := nI (0 + 5 + 1 + 4 + sx + 1 + sy)) hx hb hr (fun tt ht hW => ⟨⟨_, (), rfl, trivial, by rw [ht]; exact hP9, hD9⟩, hS.F ht⟩) hS.2.2 dX7_spell_105
  ·
    refine lv_aload_n hx hb dX7_spell_89 rfl (lv_at hl 0 rfl) ?_
    refine lv_bipush (v := 33) hx hb dX7_spell_90 (by decide) ?_
    obtain ⟨hPc, hDc, hFc⟩ := wcut (wc := (wSB E q_2 v6 m6 0 (nI (0 + 5 + 1 + 4 + sx + 1 + sy)) c6)) hP hD hS hA [3, 4] (by decide) rfl
    have hrc := va_recv hK hPc (ci := 0) (q0 := 0) rfl rfl
    refine va_callr (va_runV (As := [.int (33 : Int32)]) (rest := []) ⟨hx, hb, hml, hown, hts⟩ (h_appC l E H.size z9 (av := q_2) (vv := v6) (mz := m6) (kk := 0 + 5 + 1 + 4 + sx + 1 + sy) (ml := 0) (fc := c6) (ch := 33) e61 (show 0 + 5 + 1 + 4 + sx + 1 + sy + 1 ≤ 34 by omega) e64 rfl) (cwV 1 hts g_h_spell_h_appC_279 rfl rfl rfl (by decide +kernel) ⟨Nat.le_of_ble_eq_true rfl, Nat.le_of_ble_eq_true rfl⟩) ⟨qWZ.blind, hrc, (qWZ.pre ⟨hK, hN⟩ hPc hDc hZ hS hFc)⟩ rfl rfl hl.1 rfl (lv_room (Nat.le_of_ble_eq_true rfl)) dX7_spell_92 ⟨Nat.le_of_ble_eq_true rfl, Nat.le_of_ble_eq_true rfl⟩) hS (fun q _ h => hFc q h) hFc (fun u9 ra_11 tt H1 locs ht hvm hw hB hz1 hk1 hS => ?_)
    obtain ⟨v7, m7, c7⟩ := u9
    obtain ⟨e71, e72, e74⟩ := hw
    obtain ⟨hra, hP1, hD1⟩ := hB
    rw [hra]
    rw [ht] at hP1
    obtain ⟨hP, hD⟩ := va_join (wr := [(a_, .inr (8, [.ref a_tape, .ref a_reader, .ref a_scripts, .ref a_now, .ref a_trial, .ref a_kept, .ref a_book, .ref a_keptBook, .ref a_history, .ref a_draws, .ref a_refused, .int c_hasImage])), (a_now, .inr (6, [.ref a_now_row, .ref a_now_partners, .int c_now_askedCount, .int c_now_outcome, .ref a_now_share, .ref a_now_leftOver])), (a_now_row, .inl (E.2.1, 81, .inl c_now_row))]) (w1 := [(q_2, .inr (0, [.ref v7, .int (0 : Int32), .int 0, .int (nI (0 + 5 + 1 + 4 + sx + 1 + sy + 1))])), (v7, .inl (E.2.2.1, m7, .inl c7))]) hP hD [3, 4] [0, 1, 2] rfl rfl (by decide) (by decide) hk1 hFc hP1 hD1
    generalize H1 = H at hP hS ⊢
    replace hP : va_P E.1 vwCl [(a_, .inr (8, [.ref a_tape, .ref a_reader, .ref a_scripts, .ref a_now, .ref a_trial, .ref a_kept, .ref a_book, .ref a_keptBook, .ref a_history, .ref a_draws, .ref a_refused, .int c_hasImage])), (a_now, .inr (6, [.ref a_now_row, .ref a_now_partners, .int c_now_askedCount, .int c_now_outcome, .ref a_now_share, .ref a_now_leftOver])), (a_now_row, .inl (E.2.1, 81, .inl c_now_row)), (q_2, .inr (0, [.ref v7, .int (0 : Int32), .int 0, .int (nI (0 + 5 + 1 + 4 + sx + 1 + sy + 1))])), (v7, .inl (E.2.2.1, m7, .inl c7))] H := hP
    replace hD : va_D A [(a_, .inr (8, [.ref a_tape, .ref a_reader, .ref a_scripts, .ref a_now, .ref a_trial, .ref a_kept, .ref a_book, .ref a_keptBook, .ref a_history, .ref a_draws, .ref a_refused, .int c_hasImage])), (a_now, .inr (6, [.ref a_now_row, .ref a_now_partners, .int c_now_askedCount, .int c_now_outcome, .ref a_now_share, .ref a_now_leftOver])), (a_now_row, .inl (E.2.1, 81, .inl c_now_row)), (q_2, .inr (0, [.ref v7, .int (0 : Int32), .int 0, .int (nI (0 + 5 + 1 + 4 + sx + 1 + sy + 1))])), (v7, .inl (E.2.2.1, m7, .inl c7))] := hD
    refine W.widen (k := 9) (n := 258) (Nat.le_of_ble_eq_true rfl) (Nat.le_of_ble_eq_true rfl) ?_
    have e71 : OKm m7 := e71
    have e72 : 0 + 5 + 1 + 4 + sx + 1 + sy + 1 ≤ m7 := e72
    have e74 : sb_Fit c7 := e74
    refine lv_pop hx hb dX7_spell_95 rfl ?_
    refine lv_iload_n hx hb dX7_spell_96 rfl (lv_at hl 3 rfl) ?_
    refine lv_iconst (v := -1) hx hb dX7_spell_97 (by decide) ?_
    refine lv_icmp_ne (tgt := 106) hx hb dX7_spell_98 (by decide) (fun q7 => ?_) (fun q7 => ?_)
    ·
      refine lv_iload_n hx hb dX7_spell_106 rfl (lv_at hl 3 rfl) ?_
      refine lv_if_lt (tgt := 118) hx hb dX7_spell_107 (by decide) (fun q6 => ?_) (fun q6 => ?_)
      ·
        refine lv_iconst (v := -1) hx hb dX7_spell_118 (by decide) ?_
        refine W.widen (k := 9) (n := 258) (Nat.le_of_ble_eq_true rfl) (Nat.le_of_ble_eq_true rfl) ?_
        have hP9 := hP.sub (ws' := [(a_, .inr (8, [.ref a_tape, .ref a_reader, .ref a_scripts, .ref a_now, .ref a_trial, .ref a_kept, .ref a_book, .ref a_keptBook, .ref a_history, .ref a_draws, .ref a_refused, .int c_hasImage])), (a_now, .inr (6, [.ref a_now_row, .ref a_now_partners, .int c_now_askedCount, .int c_now_outcome, .ref a_now_share, .ref a_now_leftOver])), (a_now_row, .inl (E.2.1, 81, .inl c_now_row))]) [0, 1, 2] rfl
        have hD9 := hD.sub (ws' := [(a_, .inr (8, [.ref a_tape, .ref a_reader, .ref a_scripts, .ref a_now, .ref a_trial, .ref a_kept, .ref a_book, .ref a_keptBook, .ref a_history, .ref a_draws, .ref a_refused, .int c_hasImage])), (a_now, .inr (6, [.ref a_now_row, .ref a_now_partners, .int c_now_askedCount, .int c_now_outcome, .ref a_now_share, .ref a_now_leftOver])), (a_now_row, .inl (E.2.1, 81, .inl c_now_row))]) [0, 1, 2] (by decide) rfl
        rw [hQ]
        exact W.iret (v := -1) hx hb hr (fun tt ht hW => ⟨⟨_, (), rfl, trivial, by rw [ht]; exact hP9, hD9⟩, hS.F ht⟩) hS.2.2 dX7_spell_119
      ·
        refine lv_iload_n hx hb dX7_spell_110 rfl (lv_at hl 3 rfl) ?_
        refine lv_aload_n hx hb dX7_spell_111 rfl (lv_at hl 0 rfl) ?_
        have hPc : va_P E.1 vwCl (w_J4_length_8abf5 E q_2 v7 (0 : Int32) 0 (nI (0 + 5 + 1 + 4 + sx + 1 + sy + 1))) H := hP.sub (ws' := [(q_2, .inr (0, [.ref v7, .int (0 : Int32), .int 0, .int (nI (0 + 5 + 1 + 4 + sx + 1 + sy + 1))]))]) [3] rfl
        have hrc := va_recv hK hPc (ci := 0) (q0 := 0) rfl rfl
        refine pE_i (va_runV (As := []) (rest := [.int p2]) ⟨hx, hb, hml, hown, hts⟩ (f_J4_length_8abf5 l E (a_ := q_2) (a_value := v7) (c_coder := (0 : Int32)) (c_maybeLatin1 := 0) (c_count := nI (0 + 5 + 1 + 4 + sx + 1 + sy + 1)) (show F_J4_length_8abf5 (nI (0 + 5 + 1 + 4 + sx + 1 + sy + 1)) = some (nI (0 + 5 + 1 + 4 + sx + 1 + sy + 1)) from rfl)) (cwV 0 hts g_h_spell_f_J4_length_8abf5_282 rfl rfl rfl (by decide +kernel) ⟨Nat.le_of_ble_eq_true rfl, Nat.le_of_ble_eq_true rfl⟩) ⟨pP.blind, hrc, (pP.pre ⟨hK, hN⟩ hPc)⟩ rfl rfl hl.1 rfl (lv_room (Nat.le_of_ble_eq_true rfl)) dX7_spell_112 ⟨Nat.le_of_ble_eq_true rfl, Nat.le_of_ble_eq_true rfl⟩) ?_
        refine lv_icmp_lt (tgt := 120) hx hb dX7_spell_115 (by decide) (fun q5 => ?_) (fun q5 => ?_)
        ·
          obtain ⟨j9, hj9, rfl⟩ := nnI (n := 0 + 5 + 1 + 4 + sx + 1 + sy + 1) (by omega) q6 (lt_not.mp q5)
          refine lv_aload_n hx hb dX7_spell_120 rfl (lv_at hl 0 rfl) ?_
          refine lv_iload_n hx hb dX7_spell_121 rfl (lv_at hl 3 rfl) ?_
          obtain ⟨r9, hr9⟩ := ca4_ok (c := c7) hj9 e72 e71.le
          have hPc : va_P E.1 vwCl (w_J4_charAt_5068e E q_2 v7 (0 : Int32) 0 (nI (0 + 5 + 1 + 4 + sx + 1 + sy + 1)) c7 m7) H := hP.sub (ws' := [(q_2, .inr (0, [.ref v7, .int (0 : Int32), .int 0, .int (nI (0 + 5 + 1 + 4 + sx + 1 + sy + 1))])), (v7, .inl (E.2.2.1, m7, .inl c7))]) [3, 4] rfl
          have hrc := va_recv hK hPc (ci := 0) (q0 := 0) rfl rfl
          refine pE_c (va_runV (As := [.int (nI j9)]) (rest := []) ⟨hx, hb, hml, hown, hts⟩ (f_J4_charAt_5068e l E z9 (a_ := q_2) (a_value := v7) (p1 := nI j9) (c_coder := (0 : Int32)) (c_maybeLatin1 := 0) (c_count := nI (0 + 5 + 1 + 4 + sx + 1 + sy + 1)) (c_value := c7) (m9 := m7) hr9) (cwV 1 hts g_h_spell_f_J4_charAt_5068e_284 rfl rfl rfl (by decide +kernel) ⟨Nat.le_of_ble_eq_true rfl, Nat.le_of_ble_eq_true rfl⟩) ⟨qPZ.blind, hrc, (qPZ.pre ⟨hK, hN⟩ hPc hZ hS)⟩ rfl rfl hl.1 rfl (lv_room (Nat.le_of_ble_eq_true rfl)) dX7_spell_122 ⟨Nat.le_of_ble_eq_true rfl, Nat.le_of_ble_eq_true rfl⟩) (fun hb_12 => ?_)
          refine W.widen (k := 9) (n := 258) (Nat.le_of_ble_eq_true rfl) (Nat.le_of_ble_eq_true rfl) ?_
          have hP9 := hP.sub (ws' := [(a_, .inr (8, [.ref a_tape, .ref a_reader, .ref a_scripts, .ref a_now, .ref a_trial, .ref a_kept, .ref a_book, .ref a_keptBook, .ref a_history, .ref a_draws, .ref a_refused, .int c_hasImage])), (a_now, .inr (6, [.ref a_now_row, .ref a_now_partners, .int c_now_askedCount, .int c_now_outcome, .ref a_now_share, .ref a_now_leftOver])), (a_now_row, .inl (E.2.1, 81, .inl c_now_row))]) [0, 1, 2] rfl
          have hD9 := hD.sub (ws' := [(a_, .inr (8, [.ref a_tape, .ref a_reader, .ref a_scripts, .ref a_now, .ref a_trial, .ref a_kept, .ref a_book, .ref a_keptBook, .ref a_history, .ref a_draws, .ref a_refused, .int c_hasImage])), (a_now, .inr (6, [.ref a_now_row, .ref a_now_partners, .int c_now_askedCount, .int c_now_outcome, .ref a_now_share, .ref a_now_leftOver])), (a_now_row, .inl (E.2.1, 81, .inl c_now_row))]) [0, 1, 2] (by decide) rfl
          rw [hQ]
          exact W.iret (v := r9) hx hb hr (fun tt ht hW => ⟨⟨_, (), rfl, trivial, by rw [ht]; exact hP9, hD9⟩, hS.F ht⟩) hS.2.2 dX7_spell_125
        ·
          refine lv_iconst (v := -1) hx hb dX7_spell_118 (by decide) ?_
          refine W.widen (k := 9) (n := 258) (Nat.le_of_ble_eq_true rfl) (Nat.le_of_ble_eq_true rfl) ?_
          have hP9 := hP.sub (ws' := [(a_, .inr (8, [.ref a_tape, .ref a_reader, .ref a_scripts, .ref a_now, .ref a_trial, .ref a_kept, .ref a_book, .ref a_keptBook, .ref a_history, .ref a_draws, .ref a_refused, .int c_hasImage])), (a_now, .inr (6, [.ref a_now_row, .ref a_now_partners, .int c_now_askedCount, .int c_now_outcome, .ref a_now_share, .ref a_now_leftOver])), (a_now_row, .inl (E.2.1, 81, .inl c_now_row))]) [0, 1, 2] rfl
          have hD9 := hD.sub (ws' := [(a_, .inr (8, [.ref a_tape, .ref a_reader, .ref a_scripts, .ref a_now, .ref a_trial, .ref a_kept, .ref a_book, .ref a_keptBook, .ref a_history, .ref a_draws, .ref a_refused, .int c_hasImage])), (a_now, .inr (6, [.ref a_now_row, .ref a_now_partners, .int c_now_askedCount, .int c_now_outcome, .ref a_now_share, .ref a_now_leftOver])), (a_now_row, .inl (E.2.1, 81, .inl c_now_row))]) [0, 1, 2] (by decide) rfl
          rw [hQ]
          exact W.iret (v := -1) hx hb hr (fun tt ht hW => ⟨⟨_, (), rfl, trivial, by rw [ht]; exact hP9, hD9⟩, hS.F ht⟩) hS.2.2 dX7_spell_119
    ·
      refine lv_aload_n hx hb dX7_spell_101 rfl (lv_at hl 0 rfl) ?_
      have hPc : va_P E.1 vwCl (w_J4_length_8abf5 E q_2 v7 (0 : Int32) 0 (nI (0 + 5 + 1 + 4 + sx + 1 + sy + 1))) H := hP.sub (ws' := [(q_2, .inr (0, [.ref v7, .int (0 : Int32), .int 0, .int (nI (0 + 5 + 1 + 4 + sx + 1 + sy + 1))]))]) [3] rfl
      have hrc := va_recv hK hPc (ci := 0) (q0 := 0) rfl rfl
      refine pE_i (va_runV (As := []) (rest := []) ⟨hx, hb, hml, hown, hts⟩ (f_J4_length_8abf5 l E (a_ := q_2) (a_value := v7) (c_coder := (0 : Int32)) (c_maybeLatin1 := 0) (c_count := nI (0 + 5 + 1 + 4 + sx + 1 + sy + 1)) (show F_J4_length_8abf5 (nI (0 + 5 + 1 + 4 + sx + 1 + sy + 1)) = some (nI (0 + 5 + 1 + 4 + sx + 1 + sy + 1)) from rfl)) (cwV 0 hts g_h_spell_f_J4_length_8abf5_282 rfl rfl rfl (by decide +kernel) ⟨Nat.le_of_ble_eq_true rfl, Nat.le_of_ble_eq_true rfl⟩) ⟨pP.blind, hrc, (pP.pre ⟨hK, hN⟩ hPc)⟩ rfl rfl hl.1 rfl (lv_room (Nat.le_of_ble_eq_true rfl)) dX7_spell_102 ⟨Nat.le_of_ble_eq_true rfl, Nat.le_of_ble_eq_true rfl⟩) ?_
      refine W.widen (k := 9) (n := 258) (Nat.le_of_ble_eq_true rfl) (Nat.le_of_ble_eq_true rfl) ?_
      have hP9 := hP.sub (ws' := [(a_, .inr (8, [.ref a_tape, .ref a_reader, .ref a_scripts, .ref a_now, .ref a_trial, .ref a_kept, .ref a_book, .ref a_keptBook, .ref a_history, .ref a_draws, .ref a_refused, .int c_hasImage])), (a_now, .inr (6, [.ref a_now_row, .ref a_now_partners, .int c_now_askedCount, .int c_now_outcome, .ref a_now_share, .ref a_now_leftOver])), (a_now_row, .inl (E.2.1, 81, .inl c_now_row))]) [0, 1, 2] rfl
      have hD9 := hD.sub (ws' := [(a_, .inr (8, [.ref a_tape, .ref a_reader, .ref a_scripts, .ref a_now, .ref a_trial, .ref a_kept, .ref a_book, .ref a_keptBook, .ref a_history, .ref a_draws, .ref a_refused, .int c_hasImage])), (a_now, .inr (6, [.ref a_now_row, .ref a_now_partners, .int c_now_askedCount, .int c_now_outcome, .ref a_now_share, .ref a_now_leftOver])), (a_now_row, .inl (E.2.1, 81, .inl c_now_row))]) [0, 1, 2] (by decide) rfl
      rw [hQ]
      exact W.iret (v := nI (0 + 5 + 1 + 4 + sx + 1 + sy + 1)) hx hb hr (fun tt ht hW => ⟨⟨_, (), rfl, trivial, by rw [ht]; exact hP9, hD9⟩, hS.F ht⟩) hS.2.2 dX7_spell_105
end
-- 85a.throw
section

/-! ===== 'throw new NoSuchElementException(text)' in a launch without stack traces. Its own constructor hands on by entry 13 of its pool, not 7 as the kit's row vx_throwS has it; composed of the library's laws (ThrowableC.of_atoms, Init0T.ofS_atoms, PassC.ofS_atoms, Bundle.chainS, Steps.initColdS, Stand.ctorMessageOffV, Stand.athrowLeaves) ===== -/
def nsX : String := "java/util/NoSuchElementException"
def nsRun : String := "java/lang/RuntimeException"
abbrev nsCode : ByteArray := prog_31_method_4_code
theorem ns_d0 : decode nsCode 0 = .ok (.aload_n 0, 1) := by decide +kernel
theorem ns_d1 : decode nsCode 1 = .ok (.aload_n 1, 1) := by decide +kernel
theorem ns_d2 : decode nsCode 2 = .ok (.invokespecial 13, 3) := by decide +kernel
theorem ns_d5 : decode nsCode 5 = .ok (.return_, 1) := by decide +kernel
def nsOwn (own : String) (ic : Nat) : List Cond := [.methodLink own ic (Bundle.initS nsX), .instantiable nsX 6, .castable nsX nsX, .selects nsX Bundle.tFill0 Bundle.tFill0, .selects nsX Bundle.tFill Bundle.tFill,
   .lays nsX Bundle.tN "cause" "Ljava/lang/Throwable;", .lays nsX Bundle.tN "stackTrace" Bundle.steD, .lays nsX Bundle.tN "suppressedExceptions" Bundle.listD, .lays nsX Bundle.tN "detailMessage" "Ljava/lang/String;",
   .isRef (.static Bundle.tN "UNASSIGNED_STACK" Bundle.steD), .isRef (.static Bundle.tN "SUPPRESSED_SENTINEL" Bundle.listD),
   .fieldLink Bundle.tN 198 Bundle.tN "backtrace" "Ljava/lang/Object;", .lays Bundle.tN Bundle.tN "backtrace" "Ljava/lang/Object;", .lays nsX Bundle.tN "backtrace" "Ljava/lang/Object;"]
def nsAll (own : String) (ic : Nat) : List Cond := Bundle.throwableAtoms ++ (Bundle.throwableSAtoms ++ (Bundle.passSAtoms nsX nsRun 13 nsCode ++ (Bundle.chainSAtoms nsRun ["java/lang/Exception"] ++ nsOwn own ic)))
def nsAt (own : String) (ic : Nat) : List Cond := (nsAll own ic).filter vx_no
section NSC
variable {p : Program} {l : Launch} {e : Env} {R : Room} {s : State} {m₀ : MethodId} {args : Array Value} {below : List Frame} {meth : Method} {c : Code} {V : State} {locs : List Loc} {cells slots : Nat}
set_option maxHeartbeats 4000000 in
theorem ns_ctor (X : Stand p l e R s m₀ args below meth c V locs cells slots) (hexec : p.tables.exec = Jvm.exec) (htr : e.platform.stackTraces = false) {own : String} {ic : Nat}
    (hown : s.vm.findClass own = some m₀.cls) (h : ∀ a ∈ nsAll own ic, a.before args s = true)
    (hlocs : ∀ x ∈ locs, ∀ cell, s.heap[x.base]? = some cell → cell.vm.isStatics = false)
    {a : Addr} {cX : ClassId} {kX : Class} (hfoundX : s.vm.findClass nsX = some cX) (hkX : s.vm.classes[cX]? = some kX) (hcell : V.heap[a]? = some (freshCell cX kX)) (hnew : s.heap.size ≤ a)
    {msg : Value} (hmsg : msg.isRef = true)
    {g : JFrame} (hg : g.method = m₀) (hsize : g.locals.size = c.maxLocals) (hlocked : g.locked = none) (hentered : g.entered = []) {rest : List Value} (hstack : g.stack = msg :: .ref a :: .ref a :: rest)
    (hd6 : decode c.code g.pc = .ok (.invokespecial ic, 3)) (hd9 : decode c.code (g.pc + 3) = .ok (.athrow, 1)) (hout : ∀ x ∈ c.exceptionTable.toList, covers x (g.pc + 3) = false)
    (hRframes : 5 < R.frames) (hRlocals : 2 * g.monitorRoom + ((Value.ref a :: rest).map fun v => v.category).sum + 81 ≤ R.locals) (hlocks : meth.locks = false) :
    ∃ U : State, Steps p.tables e below (V.setTop g) U ∧ U.status = .running ∧ Ended U below (.threw a) ∧ s.WarmedH U.vm ∧ s.sameButNew ({ U with vm := s.vm } : State) locs cells slots ∧
      ∃ ce : Cell, U.heap[a]? = some ce ∧ ce.vm = .none ∧ s.vm.findClass nsX = some ce.cls := by
  have howns : e.platform.frameOwnsMonitors = true := by rw [X.admits.platform]
  have hfin : e.platform.finalization = false := by rw [X.admits.platform]
  have hpl : e.platform.magicAccessors = ({} : Platform).magicAccessors := by rw [X.admits.platform]
  have ho : ∀ x ∈ nsOwn own ic, x.before args s = true := fun x hx => h x (List.mem_append_right _ (List.mem_append_right _ (List.mem_append_right _ (List.mem_append_right _ hx))))
  have hpa : ∀ x ∈ Bundle.passSAtoms nsX nsRun 13 nsCode, x.before args s = true := fun x hx => h x (List.mem_append_right _ (List.mem_append_right _ (List.mem_append_left _ hx)))
  obtain ⟨T, Z0, L, -, Y⟩ := ThrowableC.of_atoms (args := args) howns hfin hpl (fun x hx => h x (List.mem_append_left _ hx))
  obtain ⟨Z, M, LZ, LM, hnZ⟩ := Init0T.ofS_atoms (args := args) hpl L Y (fun x hx => h x (List.mem_append_right _ (List.mem_append_left _ hx)))
  obtain ⟨P2, Ps, hlen, L2, hL, hP2m, hlink2, hlink⟩ := Bundle.chainS (args := args) hpl hnZ ["java/lang/Exception"] nsRun (by decide +kernel) (by decide +kernel) (fun x hx => h x (List.mem_append_right _ (List.mem_append_right _ (List.mem_append_right _ (List.mem_append_left _ hx)))))
  obtain ⟨P1, L1, hP1m, hs1⟩ := PassC.ofS_atoms (args := args) (s := s) hpl (X := nsX) (Y := nsRun) (by decide +kernel) (by decide +kernel) ns_d0 ns_d1 ns_d2 ns_d5 hpa
  have hsup : P1.sup = P2.m := Option.some.inj (hs1.symm.trans hP2m)
  have hfound : s.vm.findClass nsX = some P1.m.cls := findClass_of_methodNamed hP1m
  cases Option.some.inj (hfoundX.symm.trans hfound)
  obtain ⟨c1, kX', hc1, hk, hord, -, -, hn6⟩ := Cond.instantiable_spec (show (Cond.instantiable nsX 6).holds args s none s [] = true from ho (.instantiable nsX 6) (List.mem_of_getElem? (i := 1) rfl))
  cases Option.some.inj (hc1.symm.trans hfound)
  cases Option.some.inj (hkX.symm.trans hk)
  have hsel : ∀ (y : MethodName) (id : MethodId), (Cond.selects nsX y y).before args s = true → s.methodNamed? y = some id → s.methodFound? y.cls y.name y.desc = some id → selectMethod e.platform s.vm P1.m.cls id = .method id := by
    intro y id hy hid hfd
    obtain ⟨c2, r2, m2, q1, q2, q3, q4, -⟩ := Cond.selects_spec hy
    cases Option.some.inj (q1.symm.trans hfound)
    cases Option.some.inj (q2.symm.trans hfd)
    cases Option.some.inj (q3.symm.trans hid)
    rw [Launch.admits_selectMethod X.admits]; exact q4
  have hsel0 := hsel Bundle.tFill0 T.fill0 (ho (.selects nsX Bundle.tFill0 Bundle.tFill0) (List.mem_of_getElem? (i := 3) rfl)) Y.fill0 (State.methodFound?_of_named Y.fill0 (by decide +kernel))
  have hselF := hsel Bundle.tFill T.fill (ho (.selects nsX Bundle.tFill Bundle.tFill) (List.mem_of_getElem? (i := 4) rfl)) Y.fill (State.methodFound?_of_named Y.fill (by decide +kernel))
  obtain ⟨cellS0, hcS0, hiss⟩ := Y.statics
  obtain ⟨u0, hu0⟩ := Cond.staticRefV Y.unassigned L.unassignedStatic L.statics hcS0 hiss (ho (.isRef (.static Bundle.tN "UNASSIGNED_STACK" Bundle.steD)) (List.mem_of_getElem? (i := 9) rfl))
  obtain ⟨sen, hsen⟩ := Cond.staticRefV Y.sentinel L.sentinelStatic L.statics hcS0 hiss (ho (.isRef (.static Bundle.tN "SUPPRESSED_SENTINEL" Bundle.listD)) (List.mem_of_getElem? (i := 10) rfl))
  obtain ⟨ci198, i198, fB, hk198, hg198, ha198, hsB, -, hnB, htB, hffB⟩ := Cond.ownField (t := .object "java/lang/Object") Y.found L.cls (by decide +kernel) (ho (.fieldLink Bundle.tN 198 Bundle.tN "backtrace" "Ljava/lang/Object;") (List.mem_of_getElem? (i := 11) rfl)) (ho (.lays Bundle.tN Bundle.tN "backtrace" "Ljava/lang/Object;") (List.mem_of_getElem? (i := 12) rfl)) e.platform hpl
  obtain ⟨cellS, hcS', heS, -, hkeep⟩ := X.same.2.2.2.2.2 T.aS cellS0 hcS0
  have hcellS : V.heap[T.aS]? = some cellS := hcS'
  have hout' : ∀ i, (⟨T.aS, i⟩ : Loc) ∉ locs := fun i hmem => by
    have h9 := hlocs _ hmem cellS0 hcS0
    rw [hiss] at h9; cases h9
  have hknownS : cellS.vm ≠ .unknown := fun hu => by
    rw [heS] at hu
    rw [show cellS0.vm = .unknown from hu] at hiss
    cases hiss
  have hneS : T.aS ≠ a := Nat.ne_of_lt (Nat.lt_of_lt_of_le (Array.getElem?_eq_some_iff.mp hcS0).1 hnew)
  obtain ⟨iM, hffM⟩ := Y.msg
  obtain ⟨tyC, dC, hdC, hdnC⟩ := Cond.laysAt hfound hk Y.cause (ho (.lays nsX Bundle.tN "cause" "Ljava/lang/Throwable;") (List.mem_of_getElem? (i := 5) rfl))
  obtain ⟨tyS, dS, hdS, hdnS⟩ := Cond.laysAt hfound hk Y.stack (ho (.lays nsX Bundle.tN "stackTrace" Bundle.steD) (List.mem_of_getElem? (i := 6) rfl))
  obtain ⟨tyP, dP, hdP, hdnP⟩ := Cond.laysAt hfound hk Y.supp (ho (.lays nsX Bundle.tN "suppressedExceptions" Bundle.listD) (List.mem_of_getElem? (i := 7) rfl))
  obtain ⟨tyM, dM, hdM, hdnM⟩ := Cond.laysAt hfound hk hffM (ho (.lays nsX Bundle.tN "detailMessage" "Ljava/lang/String;") (List.mem_of_getElem? (i := 8) rfl))
  obtain ⟨tyB, dB, hdB, hdnB⟩ := Cond.laysAt hfound hk hffB (ho (.lays nsX Bundle.tN "backtrace" "Ljava/lang/Object;") (List.mem_of_getElem? (i := 13) rfl))
  have bC := Cond.laysApart hdB hdC hdnB hdnC (by rw [hnB, Y.causeName]; decide +kernel)
  have bS := Cond.laysApart hdB hdS hdnB hdnS (by rw [hnB, Y.stackName]; decide +kernel)
  have bP := Cond.laysApart hdB hdP hdnB hdnP (by rw [hnB, Y.suppName]; decide +kernel)
  have hskip : SkipFacts T e.platform s (fun u => u) u0 ((preparedCellV T.toThrowableT (freshCell P1.m.cls kX) a u0 sen).withEntry V.cur) :=
    ⟨{ ci198 := ci198, i198 := i198, fBack := fB }, ⟨hk198, hg198, ha198, hsB⟩, by
      have h9 := fresh_default (c := P1.m.cls) tyB
      rw [htB] at h9
      simpa [preparedCellV, Cell.setSlot, Cell.withEntry, Array.getElem?_setIfInBounds, bC, bS, bP, bC.symm, bS.symm, bP.symm, defaultValue] using h9, fun _ _ => rfl⟩
  obtain ⟨tm, methC, cdC, kC, vm₁, hnC, -, -, -, -, -, -, -, hW₁, st1⟩ := Steps.initColdS (tb := p.tables) (e := e) (below := below) (s := s) (U := V) X.here hexec X.warmed hpl hown (t := Bundle.initS nsX) rfl rfl (by decide +kernel)
    (ho (.methodLink own ic (Bundle.initS nsX)) (List.mem_of_getElem? (i := 0) rfl)) (hpa (.instanceMethod (Bundle.initS nsX)) (List.mem_of_getElem? (i := 0) rfl)) (bytes := nsCode) (maxL := 2) (hpa (.code (Bundle.initS nsX) nsCode 2 none) (List.mem_of_getElem? (i := 1) rfl))
    (f := g) hg (a := a) (msg := msg) (rest := .ref a :: rest) hstack hd6
  cases Option.some.inj (hnC.symm.trans hP1m)
  have X₁ := X.noted hW₁
  have hlen2 : (P1 :: P2 :: Ps).length = 3 := by simp [hlen]
  obtain ⟨vm₂, X₂, st2⟩ := X₁.ctorMessageOffV hexec (g := { g with stack := .ref a :: rest }) hg hsize T L Z LZ M LM (P1 :: P2 :: Ps)
    (fun P hP => by
      rcases List.mem_cons.mp hP with rfl | hP
      · exact L1
      · rcases List.mem_cons.mp hP with rfl | hP
        · exact L2
        · exact hL P hP) ⟨hsup, hlink2, hlink⟩ (u0 := u0) (sen := sen) (self := a) hmsg (cell := freshCell P1.m.cls kX) (cellS := cellS)
    hcell (fun _ => by simp) (by simp) rfl rfl hsel0 hselF hcellS hneS hknownS (by rw [hkeep _ (hout' _)]; exact hu0) (by rw [hkeep _ (hout' _)]; exact hsen)
    (Takes.of_laid hk hord tyC (by rw [Y.causeType]; rfl)) (Takes.of_laid hk hord tyS (by rw [Y.stackType]; exact fits_refV_array _ u0)) (Takes.of_laid hk hord tyP (by rw [Y.suppType]; exact fits_refV_object _ sen))
    (Takes.of_laid hk hord tyM (by rw [Y.msgType]; exact fits_refV_object _ ⟨msg, hmsg⟩)) Y.objLocals hskip htr [] hd6
    (by rw [hlen2]; omega) (by rw [hlen2]; omega)
  obtain ⟨hwalk, hrun, hended, hWU, hsame⟩ := X₂.athrowLeaves hexec (g := { g with stack := .ref a :: rest, pc := g.pc + 3 }) hg hlocked hentered hout (a := a) (rest := rest) rfl hd9
  have hlt : a < ((V.setVm vm₁).setVm vm₂).heap.size := (Array.getElem?_eq_some_iff.mp hcell).1
  have hU := heapAt_setCell_self (s := (V.setVm vm₁).setVm vm₂) (plainBareV T.toThrowableT (freshCell P1.m.cls kX) a u0 sen msg) hlt
  refine ⟨_, st1 _ (fun acts => ?_), hrun, hended, hWU, hsame.weaken (fun y hy hlt' => ?_) (Nat.le_refl _) (Nat.le_refl _), _, hU, rfl, hfound⟩
  · rw [doInvoke_state]
    exact st2 _ hwalk
  · rcases List.mem_append.mp hy with h1 | h1
    · exact h1
    · exfalso
      have hb : y.base = a := by
        simp only [List.mem_cons, List.not_mem_nil, or_false] at h1
        rcases h1 with rfl | rfl | rfl | rfl | rfl <;> rfl
      rw [hb] at hlt'
      exact Nat.not_lt.mpr hnew hlt'
end NSC
/-- what else a throw takes as given: words that the tables say and that no list of good words bears -/
def nsB : List Cond := [.castable nsX nsX, .declares (Bundle.initS nsRun), .declares (Bundle.initS "java/lang/Exception"), .declares (Bundle.initS Bundle.tN)]
def nsOkB : Cond → Bool
  | .castable .. => true
  | .declares .. => true
  | _ => false
theorem nsB_ok : ∀ w ∈ nsB, nsOkB w = true := by decide +kernel
theorem nsB_warm {w : Cond} (h2 : nsOkB w = true) {s U : State} (hW : s.WarmedH U.vm) (h1 : va_Nw w s) : va_Nw w U := by
  cases w with
  | castable a b => exact va_Nw.warmC hW h1
  | declares x => exact va_Nw.warmD hW h1
  | _ => simp [nsOkB] at h2
theorem nsB_same {w : Cond} (h2 : nsOkB w = true) {u U : State} (h : u.vm = U.vm) (h1 : va_Nw w u) : va_Nw w U := by
  cases w with
  | castable a b => exact va_Nw.same rfl h h1
  | declares x => exact va_Nw.same rfl h h1
  | _ => simp [nsOkB] at h2
theorem nsB_use {w : Cond} (h2 : nsOkB w = true) {A : Array Value} {U : State} (h1 : va_Nw w U) : w.before A U = true := by
  cases w with
  | castable a b => exact va_Nw.use rfl h1
  | declares x => exact va_Nw.use rfl h1
  | _ => simp [nsOkB] at h2
theorem nsB_of {w : Cond} (h2 : nsOkB w = true) {A : Array Value} {U : State} (h : w.before A U = true) : va_Nw w U := by
  cases w with
  | castable a b => exact va_Nw.of rfl h
  | declares x => exact va_Nw.of rfl h
  | _ => simp [nsOkB] at h2
def nsG : List Cond := (nsAt "HushWatch" 127).filter goodWord
set_option maxRecDepth 100000 in
theorem nsG_good : nsG.all goodWord = true := by decide +kernel
set_option maxRecDepth 100000 in
theorem nsG_rest : ∀ w ∈ (nsAt "HushWatch" 127).filter (fun w => !goodWord w), w ∈ nsB := by decide +kernel
set_option maxRecDepth 100000 in
theorem nsG_ot : ∀ w ∈ Cond.classLink "HushWatch" 123 nsX :: Cond.initialized nsX :: nsAt "HushWatch" 127, vx_ot w = true := by decide +kernel
section NST
variable {p : Program} {l : Launch} {e : Env} {R : Room} {s : State} {m : MethodId} {args : Array Value} {below : List Frame} {meth : Method} {c : Code} {H : Heap} {locs : List Loc} {cells slots : Nat} {ls : Array Slot} {rest : List Value}
variable {Qc : Array Value → State → Outcome → State → Prop} {XC : String → State → State → Prop} {free : Addr → Prop}
set_option maxHeartbeats 4000000 in
theorem ns_throw {cc : ByteArray} {pc : Nat} (hexec : p.tables.exec = Jvm.exec) (hb : c.code = cc) (hl : l.stackTraces = false) {own text : String} {ik is ic mc ms sa : Nat} {A : Nat → Prop}
    (hown : s.vm.findClass own = some m.cls)
    (hk : (Cond.classLink own ik nsX).before args s = true) (hini : (Cond.initialized nsX).before args s = true) (hstr : vk_R own is text sa s) (hat : ∀ w ∈ nsAt own ic, w.before args s = true)
    (hgood : ∀ w ∈ Cond.classLink own ik nsX :: Cond.initialized nsX :: nsAt own ic, vx_ot w = true)
    (hU : vx_Zq Bundle.tN "UNASSIGNED_STACK" Bundle.steD A s s.heap) (hN : vx_Zq Bundle.tN "SUPPRESSED_SENTINEL" Bundle.listD A s s.heap) (hS : va_S A s.heap H locs) (hsize : ls.size = c.maxLocals)
    (d0 : decode cc pc = .ok (.new ik, 3)) (d3 : decode cc (pc + 3) = .ok (.dup, 1)) (d4 : decode cc (pc + 4) = .ok (.ldc is, 2)) (d6 : decode cc (pc + 6) = .ok (.invokespecial ic, 3)) (d9 : decode cc (pc + 9) = .ok (.athrow, 1))
    (hout : ∀ x ∈ c.exceptionTable.toList, covers x (pc + 9) = false)
    (hRframes : 5 < R.frames) (hRlocals : (rest.map fun v => v.category).sum + 82 ≤ R.locals) (hRcells : cells + 1 ≤ R.cells) (hRslots : slots + 6 ≤ R.slots) (hlocks : meth.locks = false)
    (hx : ∀ t : State, s.vm.Alike t.vm → H.size ≤ t.heap.size → (∀ q : Nat, q < H.size → t.heap[q]? = H[q]?) → XC nsX s t)
    (hf : ∀ z ∈ locs, free z.base) (hc : cells + 1 ≤ mc) (hs : slots + 6 ≤ ms) :
    W p l e R s m args below meth c H locs cells slots (vx_MQ below Qc XC args s mc ms free) (F0 m pc ls rest) := by
  intro T hT X
  have htr : e.platform.stackTraces = false := (show e.platform.stackTraces = l.stackTraces by rw [X.admits.platform]).trans hl
  have Y := vx_rebase X (R' := { frames := R.frames, locals := R.locals, cells := 1, slots := 6 }) (Nat.le_refl _) (Nat.le_refl _) hRcells hRslots
  obtain ⟨s', hA⟩ : ∃ z, z = (T.setVm s.vm).setFrames (.invoking m args :: below) := ⟨_, rfl⟩
  rw [← hA] at Y
  have hvm : s'.vm = s.vm := by rw [hA]; rfl
  have hhp : s'.heap = H := by rw [hA]; exact hT
  have hW0 : s.WarmedH s'.vm := by rw [hvm]; exact State.WarmedH.refl s
  have hat' : ∀ w ∈ nsAt own ic, w.before args s' = true := fun w hw => vx_ot_at hW0 hvm.symm (hgood w (List.mem_cons_of_mem _ (List.mem_cons_of_mem _ hw))) (hat w hw)
  have hk' : (Cond.classLink own ik nsX).before args s' = true := vx_ot_at hW0 hvm.symm (hgood _ List.mem_cons_self) hk
  have hini' : (Cond.initialized nsX).before args s' = true := vx_ot_at hW0 hvm.symm (hgood _ (List.mem_cons_of_mem _ List.mem_cons_self)) hini
  have hU' : vx_Zq Bundle.tN "UNASSIGNED_STACK" Bundle.steD A s' s'.heap := by rw [hhp]; exact vx_Zq.moved hW0.alike (hU.kept hS.2.1)
  have hN' : vx_Zq Bundle.tN "SUPPRESSED_SENTINEL" Bundle.listD A s' s'.heap := by rw [hhp]; exact vx_Zq.moved hW0.alike (hN.kept hS.2.1)
  have h : ∀ w ∈ nsAll own ic, w.before args s' = true := vx_own hat' (vx_isRefq hU'.1) (vx_isRefq hN'.1) hU'.2.word hN'.2.word
  have hown' : s'.vm.findClass own = some m.cls := by rw [hvm]; exact hown
  have hins : (Cond.instantiable nsX 6).before args s' = true := h (.instantiable nsX 6) (List.mem_append_right _ (List.mem_append_right _ (List.mem_append_right _ (List.mem_append_right _ (List.mem_of_getElem? (l := nsOwn own ic) (i := 1) rfl)))))
  obtain ⟨vm₁, cX, kX, hfX, hkX, -, -, X₁, st1⟩ := Y.newCold hexec (own := own) (C := nsX) (index := ik) (n := 6) hown' hk' hins hini'
    (g := F0 m pc ls rest) rfl (by rw [hb]; exact d0) (Nat.le_refl _) (Nat.le_refl _)
  generalize hT1 : (T.setVm vm₁).pushCell { cls := cX, slots := kX.instanceTypes.map defaultValue, vm := .none } = T1 at X₁ st1
  have hcat : (Value.ref T.heap.size).category = 1 := rfl
  have hcellA : T1.heap[T.heap.size]? = some (freshCell cX kX) := by rw [← hT1]; exact State.heap_pushCell_size _ _
  have d3' : decode c.code (pc + 3) = .ok (.dup, 1) := by rw [hb]; exact d3
  have d4' : decode c.code (pc + 4) = .ok (.ldc is, 2) := by rw [hb]; exact d4
  have hstr' : vk_R own is text sa s' := vk_R.warm hW0 hstr
  obtain ⟨U, hsteps, hrun, hend, hW, hsame, ce, hce, hcv, hcc⟩ := ns_ctor X₁ hexec htr (own := own) (ic := ic) hown' h (fun x hx => nomatch hx) hfX hkX hcellA (by rw [hhp, hT]; exact Nat.le_refl _) (msg := .ref sa) rfl
    (g := { method := m, pc := pc + 6, locals := ls, stack := .ref sa :: .ref T.heap.size :: .ref T.heap.size :: rest, locked := none }) rfl hsize rfl rfl (rest := rest) rfl
    (by rw [hb]; exact d6) (by rw [hb]; exact d9) hout hRframes (by
      show 2 * 0 + _ + 81 ≤ R.locals
      simp only [List.map_cons, List.sum_cons, hcat]; omega) hlocks
  obtain ⟨f1, f2⟩ := vx_frame hsame
  rw [hhp] at f1 f2
  have hWs : s.WarmedH U.vm := State.WarmedH.trans hW0 hW
  have hcl : s.vm.findClass nsX = some ce.cls := by
    rw [hvm] at hcc
    exact hcc
  have hall : s.sameButNew ({ U with vm := s.vm } : State) locs mc ms := by
    subst hA
    obtain ⟨e1, e2⟩ := hsame
    rw [State.setFrames_setFrames] at e1
    have h2 : (T.setVm s.vm).sameButNew ({ U with vm := s.vm } : State) [] (0 + 1) (0 + 6) := ⟨e1, e2⟩
    have h3 := X.same.trans h2
    rw [List.append_nil] at h3
    exact h3.mono hc hs
  refine ⟨U, ?_, .threw T.heap.size, hrun, hend, Or.inr ⟨T.heap.size, rfl, nsX, ce, locs, hx U hWs.alike f1 (fun q hq => f2 q hq (fun z hz => nomatch hz)), hce, hcv, hcl, hWs, hall, hf⟩⟩
  refine st1 _ ?_
  show Steps p.tables e below (T1.setTop { method := m, pc := pc + 3, locals := ls, stack := .ref T.heap.size :: rest, locked := none }) _
  jvm_step X₁.here [X₁.here.top, hexec, d3', Value.category]
  exact X₁.ldcString hexec (own := own) (text := text) (index := is) (a := sa) hown' hstr'.1 hstr'.2
    (g := { method := m, pc := pc + 4, locals := ls, stack := .ref T.heap.size :: .ref T.heap.size :: rest, locked := none }) rfl d4' _ hsteps
end NST
end
-- 85b.site
section
def dl_X7_site_85b_site_0 : List (Nat × Instr × Nat) := [(0, .aload_n 0, 1), (1, .getfield 35, 3), (4, .iload_n 1, 1), (5, .invokevirtual 120, 3), (8, .ifCond .eq 13, 3), (11, .iload_n 2, 1), (12, .ifCond .lt 9, 3), (15, .iload_n 2, 1), (16, .bipush 13, 2), (18, .if_icmp .le 13, 3), (31, .iload_n 2, 1), (32, .tableswitch 130 6 13 #[48, 48, 61, 61, 74, 91, 102, 113], 48), (80, .aload_n 0, 1), (81, .getfield 35, 3), (84, .iload_n 1, 1), (85, .iload_n 2, 1), (86, .bipush 6, 2), (88, .isub, 1), (89, .invokevirtual 130, 3), (92, .ireturn, 1), (93, .aload_n 0, 1), (94, .getfield 35, 3), (97, .iload_n 1, 1), (98, .iload_n 2, 1), (99, .bipush 8, 2), (101, .isub, 1), (102, .invokevirtual 134, 3), (105, .ireturn, 1), (106, .aload_n 0, 1), (107, .getfield 35, 3), (110, .iload_n 1, 1), (111, .invokevirtual 137, 3), (114, .ifCond .eq 7, 3), (121, .iconst 0, 1), (122, .ireturn, 1), (117, .iconst 1, 1), (118, .goto 4, 3), (123, .aload_n 0, 1), (124, .getfield 35, 3), (127, .iload_n 1, 1), (128, .bipush 6, 2), (130, .invokevirtual 140, 3), (133, .ireturn, 1), (134, .aload_n 0, 1), (135, .getfield 35, 3), (138, .iload_n 1, 1), (139, .bipush 7, 2), (141, .invokevirtual 140, 3), (144, .ireturn, 1), (145, .aload_n 0, 1)]
set_option maxRecDepth 100000 in
theorem dall_X7_site_85b_site_0 : dchk cX7_site dl_X7_site_85b_site_0 = true := by decide +kernel
theorem dX7_site_0 : decode cX7_site 0 = .ok (.aload_n 0, 1) := dchk_at dall_X7_site_85b_site_0 (k := 0) rfl
theorem dX7_site_1 : decode cX7_site 1 = .ok (.getfield 35, 3) := dchk_at dall_X7_site_85b_site_0 (k := 1) rfl
theorem dX7_site_4 : decode cX7_site 4 = .ok (.iload_n 1, 1) := dchk_at dall_X7_site_85b_site_0 (k := 2) rfl
theorem dX7_site_5 : decode cX7_site 5 = .ok (.invokevirtual 120, 3) := dchk_at dall_X7_site_85b_site_0 (k := 3) rfl
theorem dX7_site_8 : decode cX7_site 8 = .ok (.ifCond .eq 13, 3) := dchk_at dall_X7_site_85b_site_0 (k := 4) rfl
theorem dX7_site_11 : decode cX7_site 11 = .ok (.iload_n 2, 1) := dchk_at dall_X7_site_85b_site_0 (k := 5) rfl
theorem dX7_site_12 : decode cX7_site 12 = .ok (.ifCond .lt 9, 3) := dchk_at dall_X7_site_85b_site_0 (k := 6) rfl
theorem dX7_site_15 : decode cX7_site 15 = .ok (.iload_n 2, 1) := dchk_at dall_X7_site_85b_site_0 (k := 7) rfl
theorem dX7_site_16 : decode cX7_site 16 = .ok (.bipush 13, 2) := dchk_at dall_X7_site_85b_site_0 (k := 8) rfl
theorem dX7_site_18 : decode cX7_site 18 = .ok (.if_icmp .le 13, 3) := dchk_at dall_X7_site_85b_site_0 (k := 9) rfl
theorem dX7_site_31 : decode cX7_site 31 = .ok (.iload_n 2, 1) := dchk_at dall_X7_site_85b_site_0 (k := 10) rfl
theorem dX7_site_32 : decode cX7_site 32 = .ok (.tableswitch 130 6 13 #[48, 48, 61, 61, 74, 91, 102, 113], 48) := dchk_at dall_X7_site_85b_site_0 (k := 11) rfl
theorem dX7_site_80 : decode cX7_site 80 = .ok (.aload_n 0, 1) := dchk_at dall_X7_site_85b_site_0 (k := 12) rfl
theorem dX7_site_81 : decode cX7_site 81 = .ok (.getfield 35, 3) := dchk_at dall_X7_site_85b_site_0 (k := 13) rfl
theorem dX7_site_84 : decode cX7_site 84 = .ok (.iload_n 1, 1) := dchk_at dall_X7_site_85b_site_0 (k := 14) rfl
theorem dX7_site_85 : decode cX7_site 85 = .ok (.iload_n 2, 1) := dchk_at dall_X7_site_85b_site_0 (k := 15) rfl
theorem dX7_site_86 : decode cX7_site 86 = .ok (.bipush 6, 2) := dchk_at dall_X7_site_85b_site_0 (k := 16) rfl
theorem dX7_site_88 : decode cX7_site 88 = .ok (.isub, 1) := dchk_at dall_X7_site_85b_site_0 (k := 17) rfl
theorem dX7_site_89 : decode cX7_site 89 = .ok (.invokevirtual 130, 3) := dchk_at dall_X7_site_85b_site_0 (k := 18) rfl
theorem dX7_site_92 : decode cX7_site 92 = .ok (.ireturn, 1) := dchk_at dall_X7_site_85b_site_0 (k := 19) rfl
theorem dX7_site_93 : decode cX7_site 93 = .ok (.aload_n 0, 1) := dchk_at dall_X7_site_85b_site_0 (k := 20) rfl
theorem dX7_site_94 : decode cX7_site 94 = .ok (.getfield 35, 3) := dchk_at dall_X7_site_85b_site_0 (k := 21) rfl
theorem dX7_site_97 : decode cX7_site 97 = .ok (.iload_n 1, 1) := dchk_at dall_X7_site_85b_site_0 (k := 22) rfl
theorem dX7_site_98 : decode cX7_site 98 = .ok (.iload_n 2, 1) := dchk_at dall_X7_site_85b_site_0 (k := 23) rfl
theorem dX7_site_99 : decode cX7_site 99 = .ok (.bipush 8, 2) := dchk_at dall_X7_site_85b_site_0 (k := 24) rfl
theorem dX7_site_101 : decode cX7_site 101 = .ok (.isub, 1) := dchk_at dall_X7_site_85b_site_0 (k := 25) rfl
theorem dX7_site_102 : decode cX7_site 102 = .ok (.invokevirtual 134, 3) := dchk_at dall_X7_site_85b_site_0 (k := 26) rfl
theorem dX7_site_105 : decode cX7_site 105 = .ok (.ireturn, 1) := dchk_at dall_X7_site_85b_site_0 (k := 27) rfl
theorem dX7_site_106 : decode cX7_site 106 = .ok (.aload_n 0, 1) := dchk_at dall_X7_site_85b_site_0 (k := 28) rfl
theorem dX7_site_107 : decode cX7_site 107 = .ok (.getfield 35, 3) := dchk_at dall_X7_site_85b_site_0 (k := 29) rfl
theorem dX7_site_110 : decode cX7_site 110 = .ok (.iload_n 1, 1) := dchk_at dall_X7_site_85b_site_0 (k := 30) rfl
theorem dX7_site_111 : decode cX7_site 111 = .ok (.invokevirtual 137, 3) := dchk_at dall_X7_site_85b_site_0 (k := 31) rfl
theorem dX7_site_114 : decode cX7_site 114 = .ok (.ifCond .eq 7, 3) := dchk_at dall_X7_site_85b_site_0 (k := 32) rfl
theorem dX7_site_121 : decode cX7_site 121 = .ok (.iconst 0, 1) := dchk_at dall_X7_site_85b_site_0 (k := 33) rfl
theorem dX7_site_122 : decode cX7_site 122 = .ok (.ireturn, 1) := dchk_at dall_X7_site_85b_site_0 (k := 34) rfl
theorem dX7_site_117 : decode cX7_site 117 = .ok (.iconst 1, 1) := dchk_at dall_X7_site_85b_site_0 (k := 35) rfl
theorem dX7_site_118 : decode cX7_site 118 = .ok (.goto 4, 3) := dchk_at dall_X7_site_85b_site_0 (k := 36) rfl
theorem dX7_site_123 : decode cX7_site 123 = .ok (.aload_n 0, 1) := dchk_at dall_X7_site_85b_site_0 (k := 37) rfl
theorem dX7_site_124 : decode cX7_site 124 = .ok (.getfield 35, 3) := dchk_at dall_X7_site_85b_site_0 (k := 38) rfl
theorem dX7_site_127 : decode cX7_site 127 = .ok (.iload_n 1, 1) := dchk_at dall_X7_site_85b_site_0 (k := 39) rfl
theorem dX7_site_128 : decode cX7_site 128 = .ok (.bipush 6, 2) := dchk_at dall_X7_site_85b_site_0 (k := 40) rfl
theorem dX7_site_130 : decode cX7_site 130 = .ok (.invokevirtual 140, 3) := dchk_at dall_X7_site_85b_site_0 (k := 41) rfl
theorem dX7_site_133 : decode cX7_site 133 = .ok (.ireturn, 1) := dchk_at dall_X7_site_85b_site_0 (k := 42) rfl
theorem dX7_site_134 : decode cX7_site 134 = .ok (.aload_n 0, 1) := dchk_at dall_X7_site_85b_site_0 (k := 43) rfl
theorem dX7_site_135 : decode cX7_site 135 = .ok (.getfield 35, 3) := dchk_at dall_X7_site_85b_site_0 (k := 44) rfl
theorem dX7_site_138 : decode cX7_site 138 = .ok (.iload_n 1, 1) := dchk_at dall_X7_site_85b_site_0 (k := 45) rfl
theorem dX7_site_139 : decode cX7_site 139 = .ok (.bipush 7, 2) := dchk_at dall_X7_site_85b_site_0 (k := 46) rfl
theorem dX7_site_141 : decode cX7_site 141 = .ok (.invokevirtual 140, 3) := dchk_at dall_X7_site_85b_site_0 (k := 47) rfl
theorem dX7_site_144 : decode cX7_site 144 = .ok (.ireturn, 1) := dchk_at dall_X7_site_85b_site_0 (k := 48) rfl
theorem dX7_site_145 : decode cX7_site 145 = .ok (.aload_n 0, 1) := dchk_at dall_X7_site_85b_site_0 (k := 49) rfl
def dl_X7_site_85b_site_1 : List (Nat × Instr × Nat) := [(146, .getfield 35, 3), (149, .iload_n 1, 1), (150, .invokevirtual 143, 3), (153, .ifCond .eq 7, 3), (160, .iconst 0, 1), (161, .ireturn, 1), (156, .iconst 1, 1), (157, .goto 4, 3), (162, .aload_n 0, 1), (163, .getfield 35, 3), (166, .iload_n 1, 1), (167, .iconst 0, 1), (168, .iload_n 2, 1), (169, .iadd, 1), (170, .invokevirtual 140, 3), (173, .ireturn, 1), (21, .new 123, 3), (24, .dup, 1), (25, .ldc 125, 2), (27, .invokespecial 127, 3), (30, .athrow, 1)]
set_option maxRecDepth 100000 in
theorem dall_X7_site_85b_site_1 : dchk cX7_site dl_X7_site_85b_site_1 = true := by decide +kernel
theorem dX7_site_146 : decode cX7_site 146 = .ok (.getfield 35, 3) := dchk_at dall_X7_site_85b_site_1 (k := 0) rfl
theorem dX7_site_149 : decode cX7_site 149 = .ok (.iload_n 1, 1) := dchk_at dall_X7_site_85b_site_1 (k := 1) rfl
theorem dX7_site_150 : decode cX7_site 150 = .ok (.invokevirtual 143, 3) := dchk_at dall_X7_site_85b_site_1 (k := 2) rfl
theorem dX7_site_153 : decode cX7_site 153 = .ok (.ifCond .eq 7, 3) := dchk_at dall_X7_site_85b_site_1 (k := 3) rfl
theorem dX7_site_160 : decode cX7_site 160 = .ok (.iconst 0, 1) := dchk_at dall_X7_site_85b_site_1 (k := 4) rfl
theorem dX7_site_161 : decode cX7_site 161 = .ok (.ireturn, 1) := dchk_at dall_X7_site_85b_site_1 (k := 5) rfl
theorem dX7_site_156 : decode cX7_site 156 = .ok (.iconst 1, 1) := dchk_at dall_X7_site_85b_site_1 (k := 6) rfl
theorem dX7_site_157 : decode cX7_site 157 = .ok (.goto 4, 3) := dchk_at dall_X7_site_85b_site_1 (k := 7) rfl
theorem dX7_site_162 : decode cX7_site 162 = .ok (.aload_n 0, 1) := dchk_at dall_X7_site_85b_site_1 (k := 8) rfl
theorem dX7_site_163 : decode cX7_site 163 = .ok (.getfield 35, 3) := dchk_at dall_X7_site_85b_site_1 (k := 9) rfl
theorem dX7_site_166 : decode cX7_site 166 = .ok (.iload_n 1, 1) := dchk_at dall_X7_site_85b_site_1 (k := 10) rfl
theorem dX7_site_167 : decode cX7_site 167 = .ok (.iconst 0, 1) := dchk_at dall_X7_site_85b_site_1 (k := 11) rfl
theorem dX7_site_168 : decode cX7_site 168 = .ok (.iload_n 2, 1) := dchk_at dall_X7_site_85b_site_1 (k := 12) rfl
theorem dX7_site_169 : decode cX7_site 169 = .ok (.iadd, 1) := dchk_at dall_X7_site_85b_site_1 (k := 13) rfl
theorem dX7_site_170 : decode cX7_site 170 = .ok (.invokevirtual 140, 3) := dchk_at dall_X7_site_85b_site_1 (k := 14) rfl
theorem dX7_site_173 : decode cX7_site 173 = .ok (.ireturn, 1) := dchk_at dall_X7_site_85b_site_1 (k := 15) rfl
theorem dX7_site_21 : decode cX7_site 21 = .ok (.new 123, 3) := dchk_at dall_X7_site_85b_site_1 (k := 16) rfl
theorem dX7_site_24 : decode cX7_site 24 = .ok (.dup, 1) := dchk_at dall_X7_site_85b_site_1 (k := 17) rfl
theorem dX7_site_25 : decode cX7_site 25 = .ok (.ldc 125, 2) := dchk_at dall_X7_site_85b_site_1 (k := 18) rfl
theorem dX7_site_27 : decode cX7_site 27 = .ok (.invokespecial 127, 3) := dchk_at dall_X7_site_85b_site_1 (k := 19) rfl
theorem dX7_site_30 : decode cX7_site 30 = .ok (.athrow, 1) := dchk_at dall_X7_site_85b_site_1 (k := 20) rfl
def dl_L_site_85b_site_0 : List (Nat × Instr × Nat) := [(0, .aload_n 3, 1), (1, .iconst 0, 1), (2, .aload_n 0, 1), (3, .iload_n 1, 1), (4, .iload_n 2, 1), (5, .invokevirtual 7, 3), (13, .astore 4, 2), (15, .iconst 1, 1), (16, .ireturn, 1), (8, .i2l, 1), (9, .lastore, 1), (10, .goto 7, 3), (17, .iconst 0, 1), (18, .ireturn, 1)]
set_option maxRecDepth 100000 in
theorem dall_L_site_85b_site_0 : dchk cL_site dl_L_site_85b_site_0 = true := by decide +kernel
theorem dL_site_0 : decode cL_site 0 = .ok (.aload_n 3, 1) := dchk_at dall_L_site_85b_site_0 (k := 0) rfl
theorem dL_site_1 : decode cL_site 1 = .ok (.iconst 0, 1) := dchk_at dall_L_site_85b_site_0 (k := 1) rfl
theorem dL_site_2 : decode cL_site 2 = .ok (.aload_n 0, 1) := dchk_at dall_L_site_85b_site_0 (k := 2) rfl
theorem dL_site_3 : decode cL_site 3 = .ok (.iload_n 1, 1) := dchk_at dall_L_site_85b_site_0 (k := 3) rfl
theorem dL_site_4 : decode cL_site 4 = .ok (.iload_n 2, 1) := dchk_at dall_L_site_85b_site_0 (k := 4) rfl
theorem dL_site_5 : decode cL_site 5 = .ok (.invokevirtual 7, 3) := dchk_at dall_L_site_85b_site_0 (k := 5) rfl
theorem dL_site_13 : decode cL_site 13 = .ok (.astore 4, 2) := dchk_at dall_L_site_85b_site_0 (k := 6) rfl
theorem dL_site_15 : decode cL_site 15 = .ok (.iconst 1, 1) := dchk_at dall_L_site_85b_site_0 (k := 7) rfl
theorem dL_site_16 : decode cL_site 16 = .ok (.ireturn, 1) := dchk_at dall_L_site_85b_site_0 (k := 8) rfl
theorem dL_site_8 : decode cL_site 8 = .ok (.i2l, 1) := dchk_at dall_L_site_85b_site_0 (k := 9) rfl
theorem dL_site_9 : decode cL_site 9 = .ok (.lastore, 1) := dchk_at dall_L_site_85b_site_0 (k := 10) rfl
theorem dL_site_10 : decode cL_site 10 = .ok (.goto 7, 3) := dchk_at dall_L_site_85b_site_0 (k := 11) rfl
theorem dL_site_17 : decode cL_site 17 = .ok (.iconst 0, 1) := dchk_at dall_L_site_85b_site_0 (k := 12) rfl
theorem dL_site_18 : decode cL_site 18 = .ok (.ireturn, 1) := dchk_at dall_L_site_85b_site_0 (k := 13) rfl
def F_X7_site (p1 : Int32) (p2 : Int32) (c_now_row : Nat → Int32) : Option (Int32) :=
  bd1 (F_X5_hasSite p1 c_now_row) (fun r_1 => if r_1 = (0 : Int32) then none else if p2 < (0 : Int32) then none else if p2 ≤ (13 : Int32) then if p2 = (6 : Int32) then bd1 (F_X5_drift p1 (p2 - (6 : Int32)) c_now_row) (fun r_8 => some r_8) else if p2 = (7 : Int32) then bd1 (F_X5_drift p1 (p2 - (6 : Int32)) c_now_row) (fun r_10 => some r_10) else if p2 = (8 : Int32) then bd1 (F_X5_point p1 (p2 - (8 : Int32)) c_now_row) (fun r_12 => some r_12) else if p2 = (9 : Int32) then bd1 (F_X5_point p1 (p2 - (8 : Int32)) c_now_row) (fun r_14 => some r_14) else if p2 = (10 : Int32) then bd1 (F_X5_isQuiet p1 c_now_row) (fun r_16 => if r_16 = (0 : Int32) then some (0 : Int32) else some (1 : Int32)) else if p2 = (11 : Int32) then bd1 (F_X5_of p1 (6 : Int32) c_now_row) (fun r_20 => some r_20) else if p2 = (12 : Int32) then bd1 (F_X5_of p1 (7 : Int32) c_now_row) (fun r_22 => some r_22) else if p2 = (13 : Int32) then bd1 (F_X5_isFrozen p1 c_now_row) (fun r_24 => if r_24 = (0 : Int32) then some (0 : Int32) else some (1 : Int32)) else bd1 (F_X5_of p1 ((0 : Int32) + p2) c_now_row) (fun r_28 => some r_28) else none)
abbrev w_X7_site (E : EE) (a_ a_tape a_reader a_scripts a_now a_trial a_kept a_book a_keptBook a_history a_draws a_refused a_now_row a_now_partners a_now_share a_now_leftOver : Nat) (c_hasImage : Int32) (c_now_askedCount : Int32) (c_now_outcome : Int32) (c_now_row : Nat → Int32) : va_W := [(a_, .inr (8, [.ref a_tape, .ref a_reader, .ref a_scripts, .ref a_now, .ref a_trial, .ref a_kept, .ref a_book, .ref a_keptBook, .ref a_history, .ref a_draws, .ref a_refused, .int c_hasImage])), (a_now, .inr (6, [.ref a_now_row, .ref a_now_partners, .int c_now_askedCount, .int c_now_outcome, .ref a_now_share, .ref a_now_leftOver])), (a_now_row, .inl (E.2.1, 81, .inl c_now_row))]
def v_f_X7_site : List Cond := .code yX7_site cX7_site 3 (some .int) :: ([.fieldLink RX7 35 "HushWatch" "now" "LHushWatch$State;", .methodLink RX7 120 yX5_hasSite, .instanceMethod yX5_hasSite, .selects RX5 yX5_hasSite yX5_hasSite, .initialized RX5, .methodLink RX7 130 yX5_drift, .instanceMethod yX5_drift, .selects RX5 yX5_drift yX5_drift, .methodLink RX7 134 yX5_point, .instanceMethod yX5_point, .selects RX5 yX5_point yX5_point, .methodLink RX7 137 yX5_isQuiet, .instanceMethod yX5_isQuiet, .selects RX5 yX5_isQuiet yX5_isQuiet, .methodLink RX7 140 yX5_of, .instanceMethod yX5_of, .selects RX5 yX5_of yX5_of, .methodLink RX7 143 yX5_isFrozen, .instanceMethod yX5_isFrozen, .selects RX5 yX5_isFrozen yX5_isFrozen] ++ (wsX70 ++ (v_f_X5_hasSite ++ (v_f_X5_drift ++ (v_f_X5_point ++ (v_f_X5_isQuiet ++ (v_f_X5_of ++ (v_f_X5_isFrozen ++ ([])))))))))
theorem gw_f_X7_site : v_f_X7_site.all goodWord = true := by decide +kernel
theorem i_f_X7_site_X7 : ∀ w ∈ wsX70, w ∈ v_f_X7_site := fun _ h => List.mem_cons_of_mem _ (List.mem_append_right _ (List.mem_append_left _ h))
theorem g_f_X7_site_f_X5_hasSite_120 : GoodIn v_f_X7_site (wsV RX7 120 RX5 yX5_hasSite v_f_X5_hasSite) := goodIn_app (goodIn_of _ (by decide +kernel)) (goodIn_sub (fun _ h => List.mem_cons_of_mem _ (List.mem_append_right _ (List.mem_append_right _ (List.mem_append_left _ h)))) gw_f_X5_hasSite)
theorem g_f_X7_site_f_X5_drift_130 : GoodIn v_f_X7_site (wsV RX7 130 RX5 yX5_drift v_f_X5_drift) := goodIn_app (goodIn_of _ (by decide +kernel)) (goodIn_sub (fun _ h => List.mem_cons_of_mem _ (List.mem_append_right _ (List.mem_append_right _ (List.mem_append_right _ (List.mem_append_left _ h))))) gw_f_X5_drift)
theorem g_f_X7_site_f_X5_point_134 : GoodIn v_f_X7_site (wsV RX7 134 RX5 yX5_point v_f_X5_point) := goodIn_app (goodIn_of _ (by decide +kernel)) (goodIn_sub (fun _ h => List.mem_cons_of_mem _ (List.mem_append_right _ (List.mem_append_right _ (List.mem_append_right _ (List.mem_append_right _ (List.mem_append_left _ h)))))) gw_f_X5_point)
theorem g_f_X7_site_f_X5_isQuiet_137 : GoodIn v_f_X7_site (wsV RX7 137 RX5 yX5_isQuiet v_f_X5_isQuiet) := goodIn_app (goodIn_of _ (by decide +kernel)) (goodIn_sub (fun _ h => List.mem_cons_of_mem _ (List.mem_append_right _ (List.mem_append_right _ (List.mem_append_right _ (List.mem_append_right _ (List.mem_append_right _ (List.mem_append_left _ h))))))) gw_f_X5_isQuiet)
theorem g_f_X7_site_f_X5_of_140 : GoodIn v_f_X7_site (wsV RX7 140 RX5 yX5_of v_f_X5_of) := goodIn_app (goodIn_of _ (by decide +kernel)) (goodIn_sub (fun _ h => List.mem_cons_of_mem _ (List.mem_append_right _ (List.mem_append_right _ (List.mem_append_right _ (List.mem_append_right _ (List.mem_append_right _ (List.mem_append_right _ (List.mem_append_left _ h)))))))) gw_f_X5_of)
theorem g_f_X7_site_f_X5_isFrozen_143 : GoodIn v_f_X7_site (wsV RX7 143 RX5 yX5_isFrozen v_f_X5_isFrozen) := goodIn_app (goodIn_of _ (by decide +kernel)) (goodIn_sub (fun _ h => List.mem_cons_of_mem _ (List.mem_append_right _ (List.mem_append_right _ (List.mem_append_right _ (List.mem_append_right _ (List.mem_append_right _ (List.mem_append_right _ (List.mem_append_right _ (List.mem_append_left _ h))))))))) gw_f_X5_isFrozen)
theorem hd_X7_site : yX7_site.cls = RX7 ∧ yX7_site.cls ≠ "java/lang/invoke/MethodHandle" ∧ yX7_site.cls ≠ "java/lang/invoke/VarHandle" ∧ (parseMethodDescriptor yX7_site.desc).map (fun d => d.parameters.length) = some 2 := by decide +kernel
set_option maxHeartbeats 4000000 in
set_option maxRecDepth 100000 in
theorem f_X7_site (l : Launch) (E : EE) {a_ a_tape a_reader a_scripts a_now a_trial a_kept a_book a_keptBook a_history a_draws a_refused a_now_row a_now_partners a_now_share a_now_leftOver : Nat} {p1 : Int32} {p2 : Int32} {c_hasImage : Int32} {c_now_askedCount : Int32} {c_now_outcome : Int32} {c_now_row : Nat → Int32} {rr : Int32} (hF : F_X7_site p1 p2 c_now_row = some rr) : Met l yX7_site v_f_X7_site (({ frames := 3, cells := 0, slots := 0, locals := 71 } : Room)) (va_Pc [.ref a_, .int p1, .int p2] (pP E (w_X7_site E a_ a_tape a_reader a_scripts a_now a_trial a_kept a_book a_keptBook a_history a_draws a_refused a_now_row a_now_partners a_now_share a_now_leftOver c_hasImage c_now_askedCount c_now_outcome c_now_row))) (vp_Si (fun q : Int32 => q = rr)) 0 0 (fun _ => False) := by
  refine Met.ofW (cc := cX7_site) (maxL := 3) (ret := (some .int)) (by decide) rfl ?_
  intro p e s m args below meth c s₁ B hml hv
  obtain ⟨rfl, ⟨hK, hN⟩, hP⟩ := hv
  have hx := B.exec
  have hb := B.bytes
  have hr := B.returns
  have hts := atoms_spec (ws := v_f_X7_site) B.pre
  have hown : s.vm.findClass RX7 = some m.cls := own_of hd_X7_site.1 (findClass_of_methodNamed B.named)
  have hlocks : meth.locks = false := B.notSynchronized
  replace hP : va_P E.1 vwCl [(a_, .inr (8, [.ref a_tape, .ref a_reader, .ref a_scripts, .ref a_now, .ref a_trial, .ref a_kept, .ref a_book, .ref a_keptBook, .ref a_history, .ref a_draws, .ref a_refused, .int c_hasImage])), (a_now, .inr (6, [.ref a_now_row, .ref a_now_partners, .int c_now_askedCount, .int c_now_outcome, .ref a_now_share, .ref a_now_leftOver])), (a_now_row, .inl (E.2.1, 81, .inl c_now_row))] s.heap := hP
  have hl := lv_entry ([.ref a_, .int p1, .int p2]) (n := 3) (Nat.le_of_ble_eq_true rfl)
  rw [lg_entry_eq]
  generalize (lg_sl ([.ref a_, .int p1, .int p2]) ++ List.replicate (3 - (lg_sl ([.ref a_, .int p1, .int p2])).length) Slot.unset).toArray = ls at hl ⊢
  have hl : lv_has ls 3 [(0, .ref a_), (1, .int p1), (2, .int p2)] := hl
  obtain ⟨Q, hQ⟩ : ∃ Q : State → Prop, Q = MQ below (vp_Si (fun q : Int32 => q = rr)) #[Value.ref a_, Value.int p1, Value.int p2] s 0 0 (fun _ => False) := ⟨_, rfl⟩
  rw [← hQ]
  change W p l e ({ frames := 3, cells := 0, slots := 0, locals := 71 } : Room) s m #[Value.ref a_, Value.int p1, Value.int p2] below meth c s.heap [] 0 0 Q (F0 m 0 ls [])
  unfold F_X7_site at hF
  refine lv_aload_n hx hb dX7_site_0 rfl (lv_at hl 0 rfl) ?_
  refine gt_X7_3 (v := .ref a_now) hx hb hts i_f_X7_site_X7 hown hK hP 0 rfl (hts (.fieldLink RX7 35 "HushWatch" "now" "LHushWatch$State;") (List.mem_of_getElem? (i := 1) rfl)) rfl dX7_site_1 ?_
  refine lv_iload_n hx hb dX7_site_4 rfl (lv_at hl 1 rfl) ?_
  replace hF := bd1_s hF
  obtain ⟨r_1, hc_2, hF⟩ := hF
  have hPc : va_P E.1 vwCl (w_X5_hasSite E a_now a_now_row a_now_partners a_now_share a_now_leftOver c_now_askedCount c_now_outcome c_now_row) s.heap := hP.sub (ws' := [(a_now, .inr (6, [.ref a_now_row, .ref a_now_partners, .int c_now_askedCount, .int c_now_outcome, .ref a_now_share, .ref a_now_leftOver])), (a_now_row, .inl (E.2.1, 81, .inl c_now_row))]) [1, 2] rfl
  have hrc := va_recv hK hPc (ci := 6) (q0 := 0) rfl rfl
  refine pE_z (va_runV (As := [.int p1]) (rest := [])  ⟨hx, hb, hml, hown, hts⟩ (f_X5_hasSite l E (a_ := a_now) (a_row := a_now_row) (a_partners := a_now_partners) (a_share := a_now_share) (a_leftOver := a_now_leftOver) (p1 := p1) (c_askedCount := c_now_askedCount) (c_outcome := c_now_outcome) (c_row := c_now_row) hc_2) (cwV 1 hts g_f_X7_site_f_X5_hasSite_120 rfl rfl rfl hd_X5_hasSite ⟨Nat.le_of_ble_eq_true rfl, Nat.le_of_ble_eq_true rfl⟩) ⟨pP.blind, hrc, (pP.pre ⟨hK, hN⟩ hPc)⟩ rfl rfl hl.1 rfl (lv_room (Nat.le_of_ble_eq_true rfl)) dX7_site_5 ⟨Nat.le_of_ble_eq_true rfl, Nat.le_of_ble_eq_true rfl⟩) (fun hb_3 => ?_)
  refine lv_if_eq (tgt := 21) hx hb dX7_site_8 (by decide) (fun c_4 => ?_) (fun c_4 => ?_)
  ·
    replace hF := ip c_4 hF
    cases hF
  ·
    replace hF := inn c_4 hF
    refine lv_iload_n hx hb dX7_site_11 rfl (lv_at hl 2 rfl) ?_
    refine lv_if_lt (tgt := 21) hx hb dX7_site_12 (by decide) (fun c_5 => ?_) (fun c_5 => ?_)
    ·
      replace hF := ip c_5 hF
      cases hF
    ·
      replace hF := inn c_5 hF
      refine lv_iload_n hx hb dX7_site_15 rfl (lv_at hl 2 rfl) ?_
      refine lv_bipush (v := 13) hx hb dX7_site_16 (by decide) ?_
      refine lv_icmp_le (tgt := 31) hx hb dX7_site_18 (by decide) (fun c_6 => ?_) (fun c_6 => ?_)
      ·
        replace hF := ip c_6 hF
        refine lv_iload_n hx hb dX7_site_31 rfl (lv_at hl 2 rfl) ?_
        rcases Classical.em (p2 = (6 : Int32)) with c_7_6 | c_7_6
        ·
          replace hF := ip c_7_6 hF
          refine lv_tableIn (off := 48) (tgt := 80) hx hb dX7_site_32 (by rw [c_7_6]; decide) (by rw [c_7_6]; decide) (by rw [c_7_6]; decide) (by decide) ?_
          refine lv_aload_n hx hb dX7_site_80 rfl (lv_at hl 0 rfl) ?_
          refine gt_X7_3 (v := .ref a_now) hx hb hts i_f_X7_site_X7 hown hK hP 0 rfl (hts (.fieldLink RX7 35 "HushWatch" "now" "LHushWatch$State;") (List.mem_of_getElem? (i := 1) rfl)) rfl dX7_site_81 ?_
          refine lv_iload_n hx hb dX7_site_84 rfl (lv_at hl 1 rfl) ?_
          refine lv_iload_n hx hb dX7_site_85 rfl (lv_at hl 2 rfl) ?_
          refine lv_bipush (v := 6) hx hb dX7_site_86 (by decide) ?_
          refine lv_isub hx hb dX7_site_88 ?_
          replace hF := bd1_s hF
          obtain ⟨r_8, hc_9, hF⟩ := hF
          have hPc : va_P E.1 vwCl (w_X5_drift E a_now a_now_row a_now_partners a_now_share a_now_leftOver c_now_askedCount c_now_outcome c_now_row) s.heap := hP.sub (ws' := [(a_now, .inr (6, [.ref a_now_row, .ref a_now_partners, .int c_now_askedCount, .int c_now_outcome, .ref a_now_share, .ref a_now_leftOver])), (a_now_row, .inl (E.2.1, 81, .inl c_now_row))]) [1, 2] rfl
          have hrc := va_recv hK hPc (ci := 6) (q0 := 0) rfl rfl
          refine pE_i (va_runV (As := [.int p1, .int (p2 - (6 : Int32))]) (rest := [])  ⟨hx, hb, hml, hown, hts⟩ (f_X5_drift l E (a_ := a_now) (a_row := a_now_row) (a_partners := a_now_partners) (a_share := a_now_share) (a_leftOver := a_now_leftOver) (p1 := p1) (p2 := p2 - (6 : Int32)) (c_askedCount := c_now_askedCount) (c_outcome := c_now_outcome) (c_row := c_now_row) hc_9) (cwV 2 hts g_f_X7_site_f_X5_drift_130 rfl rfl rfl hd_X5_drift ⟨Nat.le_of_ble_eq_true rfl, Nat.le_of_ble_eq_true rfl⟩) ⟨pP.blind, hrc, (pP.pre ⟨hK, hN⟩ hPc)⟩ rfl rfl hl.1 rfl (lv_room (Nat.le_of_ble_eq_true rfl)) dX7_site_89 ⟨Nat.le_of_ble_eq_true rfl, Nat.le_of_ble_eq_true rfl⟩) ?_
          rw [hQ]
          obtain e9_0 := inj1 hF
          exact W.iret (v := r_8) hx hb hr (fun tt ht hW => ⟨_, rfl, e9_0, ht⟩) (fun _ h => by cases h) dX7_site_92
        replace hF := inn c_7_6 hF
        rcases Classical.em (p2 = (7 : Int32)) with c_7_7 | c_7_7
        ·
          replace hF := ip c_7_7 hF
          refine lv_tableIn (off := 48) (tgt := 80) hx hb dX7_site_32 (by rw [c_7_7]; decide) (by rw [c_7_7]; decide) (by rw [c_7_7]; decide) (by decide) ?_
          refine lv_aload_n hx hb dX7_site_80 rfl (lv_at hl 0 rfl) ?_
          refine gt_X7_3 (v := .ref a_now) hx hb hts i_f_X7_site_X7 hown hK hP 0 rfl (hts (.fieldLink RX7 35 "HushWatch" "now" "LHushWatch$State;") (List.mem_of_getElem? (i := 1) rfl)) rfl dX7_site_81 ?_
          refine lv_iload_n hx hb dX7_site_84 rfl (lv_at hl 1 rfl) ?_
          refine lv_iload_n hx hb dX7_site_85 rfl (lv_at hl 2 rfl) ?_
          refine lv_bipush (v := 6) hx hb dX7_site_86 (by decide) ?_
          refine lv_isub hx hb dX7_site_88 ?_
          replace hF := bd1_s hF
          obtain ⟨r_10, hc_11, hF⟩ := hF
          have hPc : va_P E.1 vwCl (w_X5_drift E a_now a_now_row a_now_partners a_now_share a_now_leftOver c_now_askedCount c_now_outcome c_now_row) s.heap := hP.sub (ws' := [(a_now, .inr (6, [.ref a_now_row, .ref a_now_partners, .int c_now_askedCount, .int c_now_outcome, .ref a_now_share, .ref a_now_leftOver])), (a_now_row, .inl (E.2.1, 81, .inl c_now_row))]) [1, 2] rfl
          have hrc := va_recv hK hPc (ci := 6) (q0 := 0) rfl rfl
          refine pE_i (va_runV (As := [.int p1, .int (p2 - (6 : Int32))]) (rest := [])  ⟨hx, hb, hml, hown, hts⟩ (f_X5_drift l E (a_ := a_now) (a_row := a_now_row) (a_partners := a_now_partners) (a_share := a_now_share) (a_leftOver := a_now_leftOver) (p1 := p1) (p2 := p2 - (6 : Int32)) (c_askedCount := c_now_askedCount) (c_outcome := c_now_outcome) (c_row := c_now_row) hc_11) (cwV 2 hts g_f_X7_site_f_X5_drift_130 rfl rfl rfl hd_X5_drift ⟨Nat.le_of_ble_eq_true rfl, Nat.le_of_ble_eq_true rfl⟩) ⟨pP.blind, hrc, (pP.pre ⟨hK, hN⟩ hPc)⟩ rfl rfl hl.1 rfl (lv_room (Nat.le_of_ble_eq_true rfl)) dX7_site_89 ⟨Nat.le_of_ble_eq_true rfl, Nat.le_of_ble_eq_true rfl⟩) ?_
          rw [hQ]
          obtain e9_0 := inj1 hF
          exact W.iret (v := r_10) hx hb hr (fun tt ht hW => ⟨_, rfl, e9_0, ht⟩) (fun _ h => by cases h) dX7_site_92
        replace hF := inn c_7_7 hF
        rcases Classical.em (p2 = (8 : Int32)) with c_7_8 | c_7_8
        ·
          replace hF := ip c_7_8 hF
          refine lv_tableIn (off := 61) (tgt := 93) hx hb dX7_site_32 (by rw [c_7_8]; decide) (by rw [c_7_8]; decide) (by rw [c_7_8]; decide) (by decide) ?_
          refine lv_aload_n hx hb dX7_site_93 rfl (lv_at hl 0 rfl) ?_
          refine gt_X7_3 (v := .ref a_now) hx hb hts i_f_X7_site_X7 hown hK hP 0 rfl (hts (.fieldLink RX7 35 "HushWatch" "now" "LHushWatch$State;") (List.mem_of_getElem? (i := 1) rfl)) rfl dX7_site_94 ?_
          refine lv_iload_n hx hb dX7_site_97 rfl (lv_at hl 1 rfl) ?_
          refine lv_iload_n hx hb dX7_site_98 rfl (lv_at hl 2 rfl) ?_
          refine lv_bipush (v := 8) hx hb dX7_site_99 (by decide) ?_
          refine lv_isub hx hb dX7_site_101 ?_
          replace hF := bd1_s hF
          obtain ⟨r_12, hc_13, hF⟩ := hF
          have hPc : va_P E.1 vwCl (w_X5_point E a_now a_now_row a_now_partners a_now_share a_now_leftOver c_now_askedCount c_now_outcome c_now_row) s.heap := hP.sub (ws' := [(a_now, .inr (6, [.ref a_now_row, .ref a_now_partners, .int c_now_askedCount, .int c_now_outcome, .ref a_now_share, .ref a_now_leftOver])), (a_now_row, .inl (E.2.1, 81, .inl c_now_row))]) [1, 2] rfl
          have hrc := va_recv hK hPc (ci := 6) (q0 := 0) rfl rfl
          refine pE_i (va_runV (As := [.int p1, .int (p2 - (8 : Int32))]) (rest := [])  ⟨hx, hb, hml, hown, hts⟩ (f_X5_point l E (a_ := a_now) (a_row := a_now_row) (a_partners := a_now_partners) (a_share := a_now_share) (a_leftOver := a_now_leftOver) (p1 := p1) (p2 := p2 - (8 : Int32)) (c_askedCount := c_now_askedCount) (c_outcome := c_now_outcome) (c_row := c_now_row) hc_13) (cwV 2 hts g_f_X7_site_f_X5_point_134 rfl rfl rfl hd_X5_point ⟨Nat.le_of_ble_eq_true rfl, Nat.le_of_ble_eq_true rfl⟩) ⟨pP.blind, hrc, (pP.pre ⟨hK, hN⟩ hPc)⟩ rfl rfl hl.1 rfl (lv_room (Nat.le_of_ble_eq_true rfl)) dX7_site_102 ⟨Nat.le_of_ble_eq_true rfl, Nat.le_of_ble_eq_true rfl⟩) ?_
          rw [hQ]
          obtain e9_0 := inj1 hF
          exact W.iret (v := r_12) hx hb hr (fun tt ht hW => ⟨_, rfl, e9_0, ht⟩) (fun _ h => by cases h) dX7_site_105
        replace hF := inn c_7_8 hF
        rcases Classical.em (p2 = (9 : Int32)) with c_7_9 | c_7_9
        ·
          replace hF := ip c_7_9 hF
          refine lv_tableIn (off := 61) (tgt := 93) hx hb dX7_site_32 (by rw [c_7_9]; decide) (by rw [c_7_9]; decide) (by rw [c_7_9]; decide) (by decide) ?_
          refine lv_aload_n hx hb dX7_site_93 rfl (lv_at hl 0 rfl) ?_
          refine gt_X7_3 (v := .ref a_now) hx hb hts i_f_X7_site_X7 hown hK hP 0 rfl (hts (.fieldLink RX7 35 "HushWatch" "now" "LHushWatch$State;") (List.mem_of_getElem? (i := 1) rfl)) rfl dX7_site_94 ?_
          refine lv_iload_n hx hb dX7_site_97 rfl (lv_at hl 1 rfl) ?_
          refine lv_iload_n hx hb dX7_site_98 rfl (lv_at hl 2 rfl) ?_
          refine lv_bipush (v := 8) hx hb dX7_site_99 (by decide) ?_
          refine lv_isub hx hb dX7_site_101 ?_
          replace hF := bd1_s hF
          obtain ⟨r_14, hc_15, hF⟩ := hF
          have hPc : va_P E.1 vwCl (w_X5_point E a_now a_now_row a_now_partners a_now_share a_now_leftOver c_now_askedCount c_now_outcome c_now_row) s.heap := hP.sub (ws' := [(a_now, .inr (6, [.ref a_now_row, .ref a_now_partners, .int c_now_askedCount, .int c_now_outcome, .ref a_now_share, .ref a_now_leftOver])), (a_now_row, .inl (E.2.1, 81, .inl c_now_row))]) [1, 2] rfl
          have hrc := va_recv hK hPc (ci := 6) (q0 := 0) rfl rfl
          refine pE_i (va_runV (As := [.int p1, .int (p2 - (8 : Int32))]) (rest := [])  ⟨hx, hb, hml, hown, hts⟩ (f_X5_point l E (a_ := a_now) (a_row := a_now_row) (a_partners := a_now_partners) (a_share := a_now_share) (a_leftOver := a_now_leftOver) (p1 := p1) (p2 := p2 - (8 : Int32)) (c_askedCount := c_now_askedCount) (c_outcome := c_now_outcome) (c_row := c_now_row) hc_15) (cwV 2 hts g_f_X7_site_f_X5_point_134 rfl rfl rfl hd_X5_point ⟨Nat.le_of_ble_eq_true rfl, Nat.le_of_ble_eq_true rfl⟩) ⟨pP.blind, hrc, (pP.pre ⟨hK, hN⟩ hPc)⟩ rfl rfl hl.1 rfl (lv_room (Nat.le_of_ble_eq_true rfl)) dX7_site_102 ⟨Nat.le_of_ble_eq_true rfl, Nat.le_of_ble_eq_true rfl⟩) ?_
          rw [hQ]
          obtain e9_0 := inj1 hF
          exact W.iret (v := r_14) hx hb hr (fun tt ht hW => ⟨_, rfl, e9_0, ht⟩) (fun _ h => by cases h) dX7_site_105
        replace hF := inn c_7_9 hF
        rcases Classical.em (p2 = (10 : Int32)) with c_7_10 | c_7_10
        ·
          replace hF := ip c_7_10 hF
          refine lv_tableIn (off := 74) (tgt := 106) hx hb dX7_site_32 (by rw [c_7_10]; decide) (by rw [c_7_10]; decide) (by rw [c_7_10]; decide) (by decide) ?_
          refine lv_aload_n hx hb dX7_site_106 rfl (lv_at hl 0 rfl) ?_
          refine gt_X7_3 (v := .ref a_now) hx hb hts i_f_X7_site_X7 hown hK hP 0 rfl (hts (.fieldLink RX7 35 "HushWatch" "now" "LHushWatch$State;") (List.mem_of_getElem? (i := 1) rfl)) rfl dX7_site_107 ?_
          refine lv_iload_n hx hb dX7_site_110 rfl (lv_at hl 1 rfl) ?_
          replace hF := bd1_s hF
          obtain ⟨r_16, hc_17, hF⟩ := hF
          have hPc : va_P E.1 vwCl (w_X5_isQuiet E a_now a_now_row a_now_partners a_now_share a_now_leftOver c_now_askedCount c_now_outcome c_now_row) s.heap := hP.sub (ws' := [(a_now, .inr (6, [.ref a_now_row, .ref a_now_partners, .int c_now_askedCount, .int c_now_outcome, .ref a_now_share, .ref a_now_leftOver])), (a_now_row, .inl (E.2.1, 81, .inl c_now_row))]) [1, 2] rfl
          have hrc := va_recv hK hPc (ci := 6) (q0 := 0) rfl rfl
          refine pE_z (va_runV (As := [.int p1]) (rest := [])  ⟨hx, hb, hml, hown, hts⟩ (f_X5_isQuiet l E (a_ := a_now) (a_row := a_now_row) (a_partners := a_now_partners) (a_share := a_now_share) (a_leftOver := a_now_leftOver) (p1 := p1) (c_askedCount := c_now_askedCount) (c_outcome := c_now_outcome) (c_row := c_now_row) hc_17) (cwV 1 hts g_f_X7_site_f_X5_isQuiet_137 rfl rfl rfl hd_X5_isQuiet ⟨Nat.le_of_ble_eq_true rfl, Nat.le_of_ble_eq_true rfl⟩) ⟨pP.blind, hrc, (pP.pre ⟨hK, hN⟩ hPc)⟩ rfl rfl hl.1 rfl (lv_room (Nat.le_of_ble_eq_true rfl)) dX7_site_111 ⟨Nat.le_of_ble_eq_true rfl, Nat.le_of_ble_eq_true rfl⟩) (fun hb_18 => ?_)
          refine lv_if_eq (tgt := 121) hx hb dX7_site_114 (by decide) (fun c_19 => ?_) (fun c_19 => ?_)
          ·
            replace hF := ip c_19 hF
            refine lv_iconst (v := 0) hx hb dX7_site_121 (by decide) ?_
            rw [hQ]
            obtain e9_0 := inj1 hF
            exact W.iret (v := (0 : Int32)) hx hb hr (fun tt ht hW => ⟨_, rfl, e9_0, ht⟩) (fun _ h => by cases h) dX7_site_122
          ·
            replace hF := inn c_19 hF
            refine lv_iconst (v := 1) hx hb dX7_site_117 (by decide) ?_
            refine lv_goto (tgt := 122) hx hb dX7_site_118 (by decide) ?_
            rw [hQ]
            obtain e9_0 := inj1 hF
            exact W.iret (v := (1 : Int32)) hx hb hr (fun tt ht hW => ⟨_, rfl, e9_0, ht⟩) (fun _ h => by cases h) dX7_site_122
        replace hF := inn c_7_10 hF
        rcases Classical.em (p2 = (11 : Int32)) with c_7_11 | c_7_11
        ·
          replace hF := ip c_7_11 hF
          refine lv_tableIn (off := 91) (tgt := 123) hx hb dX7_site_32 (by rw [c_7_11]; decide) (by rw [c_7_11]; decide) (by rw [c_7_11]; decide) (by decide) ?_
          refine lv_aload_n hx hb dX7_site_123 rfl (lv_at hl 0 rfl) ?_
          refine gt_X7_3 (v := .ref a_now) hx hb hts i_f_X7_site_X7 hown hK hP 0 rfl (hts (.fieldLink RX7 35 "HushWatch" "now" "LHushWatch$State;") (List.mem_of_getElem? (i := 1) rfl)) rfl dX7_site_124 ?_
          refine lv_iload_n hx hb dX7_site_127 rfl (lv_at hl 1 rfl) ?_
          refine lv_bipush (v := 6) hx hb dX7_site_128 (by decide) ?_
          replace hF := bd1_s hF
          obtain ⟨r_20, hc_21, hF⟩ := hF
          have hPc : va_P E.1 vwCl (w_X5_of E a_now a_now_row a_now_partners a_now_share a_now_leftOver c_now_askedCount c_now_outcome c_now_row) s.heap := hP.sub (ws' := [(a_now, .inr (6, [.ref a_now_row, .ref a_now_partners, .int c_now_askedCount, .int c_now_outcome, .ref a_now_share, .ref a_now_leftOver])), (a_now_row, .inl (E.2.1, 81, .inl c_now_row))]) [1, 2] rfl
          have hrc := va_recv hK hPc (ci := 6) (q0 := 0) rfl rfl
          refine pE_i (va_runV (As := [.int p1, .int (6 : Int32)]) (rest := [])  ⟨hx, hb, hml, hown, hts⟩ (f_X5_of l E (a_ := a_now) (a_row := a_now_row) (a_partners := a_now_partners) (a_share := a_now_share) (a_leftOver := a_now_leftOver) (p1 := p1) (p2 := (6 : Int32)) (c_askedCount := c_now_askedCount) (c_outcome := c_now_outcome) (c_row := c_now_row) hc_21) (cwV 2 hts g_f_X7_site_f_X5_of_140 rfl rfl rfl hd_X5_of ⟨Nat.le_of_ble_eq_true rfl, Nat.le_of_ble_eq_true rfl⟩) ⟨pP.blind, hrc, (pP.pre ⟨hK, hN⟩ hPc)⟩ rfl rfl hl.1 rfl (lv_room (Nat.le_of_ble_eq_true rfl)) dX7_site_130 ⟨Nat.le_of_ble_eq_true rfl, Nat.le_of_ble_eq_true rfl⟩) ?_
          rw [hQ]
          obtain e9_0 := inj1 hF
          exact W.iret (v := r_20) hx hb hr (fun tt ht hW => ⟨_, rfl, e9_0, ht⟩) (fun _ h => by cases h) dX7_site_133
        replace hF := inn c_7_11 hF
        rcases Classical.em (p2 = (12 : Int32)) with c_7_12 | c_7_12
        ·
          replace hF := ip c_7_12 hF
          refine lv_tableIn (off := 102) (tgt := 134) hx hb dX7_site_32 (by rw [c_7_12]; decide) (by rw [c_7_12]; decide) (by rw [c_7_12]; decide) (by decide) ?_
          refine lv_aload_n hx hb dX7_site_134 rfl (lv_at hl 0 rfl) ?_
          refine gt_X7_3 (v := .ref a_now) hx hb hts i_f_X7_site_X7 hown hK hP 0 rfl (hts (.fieldLink RX7 35 "HushWatch" "now" "LHushWatch$State;") (List.mem_of_getElem? (i := 1) rfl)) rfl dX7_site_135 ?_
          refine lv_iload_n hx hb dX7_site_138 rfl (lv_at hl 1 rfl) ?_
          refine lv_bipush (v := 7) hx hb dX7_site_139 (by decide) ?_
          replace hF := bd1_s hF
          obtain ⟨r_22, hc_23, hF⟩ := hF
          have hPc : va_P E.1 vwCl (w_X5_of E a_now a_now_row a_now_partners a_now_share a_now_leftOver c_now_askedCount c_now_outcome c_now_row) s.heap := hP.sub (ws' := [(a_now, .inr (6, [.ref a_now_row, .ref a_now_partners, .int c_now_askedCount, .int c_now_outcome, .ref a_now_share, .ref a_now_leftOver])), (a_now_row, .inl (E.2.1, 81, .inl c_now_row))]) [1, 2] rfl
          have hrc := va_recv hK hPc (ci := 6) (q0 := 0) rfl rfl
          refine pE_i (va_runV (As := [.int p1, .int (7 : Int32)]) (rest := [])  ⟨hx, hb, hml, hown, hts⟩ (f_X5_of l E (a_ := a_now) (a_row := a_now_row) (a_partners := a_now_partners) (a_share := a_now_share) (a_leftOver := a_now_leftOver) (p1 := p1) (p2 := (7 : Int32)) (c_askedCount := c_now_askedCount) (c_outcome := c_now_outcome) (c_row := c_now_row) hc_23) (cwV 2 hts g_f_X7_site_f_X5_of_140 rfl rfl rfl hd_X5_of ⟨Nat.le_of_ble_eq_true rfl, Nat.le_of_ble_eq_true rfl⟩) ⟨pP.blind, hrc, (pP.pre ⟨hK, hN⟩ hPc)⟩ rfl rfl hl.1 rfl (lv_room (Nat.le_of_ble_eq_true rfl)) dX7_site_141 ⟨Nat.le_of_ble_eq_true rfl, Nat.le_of_ble_eq_true rfl⟩) ?_
          rw [hQ]
          obtain e9_0 := inj1 hF
          exact W.iret (v := r_22) hx hb hr (fun tt ht hW => ⟨_, rfl, e9_0, ht⟩) (fun _ h => by cases h) dX7_site_144
        replace hF := inn c_7_12 hF
        rcases Classical.em (p2 = (13 : Int32)) with c_7_13 | c_7_13
        ·
          replace hF := ip c_7_13 hF
          refine lv_tableIn (off := 113) (tgt := 145) hx hb dX7_site_32 (by rw [c_7_13]; decide) (by rw [c_7_13]; decide) (by rw [c_7_13]; decide) (by decide) ?_
          refine lv_aload_n hx hb dX7_site_145 rfl (lv_at hl 0 rfl) ?_
          refine gt_X7_3 (v := .ref a_now) hx hb hts i_f_X7_site_X7 hown hK hP 0 rfl (hts (.fieldLink RX7 35 "HushWatch" "now" "LHushWatch$State;") (List.mem_of_getElem? (i := 1) rfl)) rfl dX7_site_146 ?_
          refine lv_iload_n hx hb dX7_site_149 rfl (lv_at hl 1 rfl) ?_
          replace hF := bd1_s hF
          obtain ⟨r_24, hc_25, hF⟩ := hF
          have hPc : va_P E.1 vwCl (w_X5_isFrozen E a_now a_now_row a_now_partners a_now_share a_now_leftOver c_now_askedCount c_now_outcome c_now_row) s.heap := hP.sub (ws' := [(a_now, .inr (6, [.ref a_now_row, .ref a_now_partners, .int c_now_askedCount, .int c_now_outcome, .ref a_now_share, .ref a_now_leftOver])), (a_now_row, .inl (E.2.1, 81, .inl c_now_row))]) [1, 2] rfl
          have hrc := va_recv hK hPc (ci := 6) (q0 := 0) rfl rfl
          refine pE_z (va_runV (As := [.int p1]) (rest := [])  ⟨hx, hb, hml, hown, hts⟩ (f_X5_isFrozen l E (a_ := a_now) (a_row := a_now_row) (a_partners := a_now_partners) (a_share := a_now_share) (a_leftOver := a_now_leftOver) (p1 := p1) (c_askedCount := c_now_askedCount) (c_outcome := c_now_outcome) (c_row := c_now_row) hc_25) (cwV 1 hts g_f_X7_site_f_X5_isFrozen_143 rfl rfl rfl hd_X5_isFrozen ⟨Nat.le_of_ble_eq_true rfl, Nat.le_of_ble_eq_true rfl⟩) ⟨pP.blind, hrc, (pP.pre ⟨hK, hN⟩ hPc)⟩ rfl rfl hl.1 rfl (lv_room (Nat.le_of_ble_eq_true rfl)) dX7_site_150 ⟨Nat.le_of_ble_eq_true rfl, Nat.le_of_ble_eq_true rfl⟩) (fun hb_26 => ?_)
          refine lv_if_eq (tgt := 160) hx hb dX7_site_153 (by decide) (fun c_27 => ?_) (fun c_27 => ?_)
          ·
            replace hF := ip c_27 hF
            refine lv_iconst (v := 0) hx hb dX7_site_160 (by decide) ?_
            rw [hQ]
            obtain e9_0 := inj1 hF
            exact W.iret (v := (0 : Int32)) hx hb hr (fun tt ht hW => ⟨_, rfl, e9_0, ht⟩) (fun _ h => by cases h) dX7_site_161
          ·
            replace hF := inn c_27 hF
            refine lv_iconst (v := 1) hx hb dX7_site_156 (by decide) ?_
            refine lv_goto (tgt := 161) hx hb dX7_site_157 (by decide) ?_
            rw [hQ]
            obtain e9_0 := inj1 hF
            exact W.iret (v := (1 : Int32)) hx hb hr (fun tt ht hW => ⟨_, rfl, e9_0, ht⟩) (fun _ h => by cases h) dX7_site_161
        replace hF := inn c_7_13 hF
        refine lv_tableOut (tgt := 162) hx hb dX7_site_32 (by have t0 : (6 : Int32).toInt = 6 := (by decide); have t1 : (7 : Int32).toInt = 7 := (by decide); have t2 : (8 : Int32).toInt = 8 := (by decide); have t3 : (9 : Int32).toInt = 9 := (by decide); have t4 : (10 : Int32).toInt = 10 := (by decide); have t5 : (11 : Int32).toInt = 11 := (by decide); have t6 : (12 : Int32).toInt = 12 := (by decide); have t7 : (13 : Int32).toInt = 13 := (by decide); simp only [← Int32.toInt_inj, t0, t1, t2, t3, t4, t5, t6, t7] at c_7_6 c_7_7 c_7_8 c_7_9 c_7_10 c_7_11 c_7_12 c_7_13; omega) (by decide) ?_
        refine lv_aload_n hx hb dX7_site_162 rfl (lv_at hl 0 rfl) ?_
        refine gt_X7_3 (v := .ref a_now) hx hb hts i_f_X7_site_X7 hown hK hP 0 rfl (hts (.fieldLink RX7 35 "HushWatch" "now" "LHushWatch$State;") (List.mem_of_getElem? (i := 1) rfl)) rfl dX7_site_163 ?_
        refine lv_iload_n hx hb dX7_site_166 rfl (lv_at hl 1 rfl) ?_
        refine lv_iconst (v := 0) hx hb dX7_site_167 (by decide) ?_
        refine lv_iload_n hx hb dX7_site_168 rfl (lv_at hl 2 rfl) ?_
        refine lv_iadd hx hb dX7_site_169 ?_
        replace hF := bd1_s hF
        obtain ⟨r_28, hc_29, hF⟩ := hF
        have hPc : va_P E.1 vwCl (w_X5_of E a_now a_now_row a_now_partners a_now_share a_now_leftOver c_now_askedCount c_now_outcome c_now_row) s.heap := hP.sub (ws' := [(a_now, .inr (6, [.ref a_now_row, .ref a_now_partners, .int c_now_askedCount, .int c_now_outcome, .ref a_now_share, .ref a_now_leftOver])), (a_now_row, .inl (E.2.1, 81, .inl c_now_row))]) [1, 2] rfl
        have hrc := va_recv hK hPc (ci := 6) (q0 := 0) rfl rfl
        refine pE_i (va_runV (As := [.int p1, .int ((0 : Int32) + p2)]) (rest := [])  ⟨hx, hb, hml, hown, hts⟩ (f_X5_of l E (a_ := a_now) (a_row := a_now_row) (a_partners := a_now_partners) (a_share := a_now_share) (a_leftOver := a_now_leftOver) (p1 := p1) (p2 := (0 : Int32) + p2) (c_askedCount := c_now_askedCount) (c_outcome := c_now_outcome) (c_row := c_now_row) hc_29) (cwV 2 hts g_f_X7_site_f_X5_of_140 rfl rfl rfl hd_X5_of ⟨Nat.le_of_ble_eq_true rfl, Nat.le_of_ble_eq_true rfl⟩) ⟨pP.blind, hrc, (pP.pre ⟨hK, hN⟩ hPc)⟩ rfl rfl hl.1 rfl (lv_room (Nat.le_of_ble_eq_true rfl)) dX7_site_170 ⟨Nat.le_of_ble_eq_true rfl, Nat.le_of_ble_eq_true rfl⟩) ?_
        rw [hQ]
        obtain e9_0 := inj1 hF
        exact W.iret (v := r_28) hx hb hr (fun tt ht hW => ⟨_, rfl, e9_0, ht⟩) (fun _ h => by cases h) dX7_site_173
      ·
        replace hF := inn c_6 hF
        cases hF

def nsT : String := "no such site, or nothing such to tell of it"
/-- site's start: cells, the text, the statics of Throwable, the words beside the good ones -/
def pS (E : EE) (W : va_W) (sa : Nat) (U : State) : Prop := kw E U ∧ va_P E.1 vwCl W U.heap ∧ vk_R RX7 125 nsT sa U ∧ vx_Zq Bundle.tN "UNASSIGNED_STACK" Bundle.steD (fun _ => False) U U.heap ∧ vx_Zq Bundle.tN "SUPPRESSED_SENTINEL" Bundle.listD (fun _ => False) U U.heap ∧ ∀ w ∈ nsB, va_Nw w U
theorem pS.blind {E : EE} {W : va_W} {sa : Nat} {av : List Value} : FrameBlind (va_Pc av (pS E W sa)) := fun _ U _ _ q => ⟨q.1, q.2.1.calling, q.2.2.1, vk_R.same (u := U) rfl q.2.2.2.1, q.2.2.2.2.1.moved (Vm.Alike.refl U.vm), q.2.2.2.2.2.1.moved (Vm.Alike.refl U.vm), fun w hw => nsB_same (u := U) (nsB_ok w hw) rfl (q.2.2.2.2.2.2 w hw)⟩
theorem pS.pre {E : EE} {W : va_W} {sa : Nat} {av : List Value} {s : State} {H : Heap} {A : Nat → Prop} {locs : List Loc} (hk : kw E s) (hP : va_P E.1 vwCl W H) (hstr : vk_R RX7 125 nsT sa s) (hS : va_S A s.heap H locs) (hU : vx_Zq Bundle.tN "UNASSIGNED_STACK" Bundle.steD A s s.heap) (hN : vx_Zq Bundle.tN "SUPPRESSED_SENTINEL" Bundle.listD A s s.heap) (hB : ∀ w ∈ nsB, va_Nw w s) : ∀ U : State, U.heap = H → s.WarmedH U.vm → va_Pc av (pS E W sa) av.toArray U := fun U hU1 hW => ⟨rfl, hk.warm hW, by rw [hU1]; exact hP, hstr.warm hW, by rw [hU1]; exact ((hU.kept hS.2.1).narrow (fun _ h => h.elim)).moved hW.alike, by rw [hU1]; exact ((hN.kept hS.2.1).narrow (fun _ h => h.elim)).moved hW.alike, fun w hw => nsB_warm (nsB_ok w hw) hW (hB w hw)⟩
def v_t1 : List Cond := .code yX7_site cX7_site 3 (some .int) :: ([.fieldLink RX7 35 "HushWatch" "now" "LHushWatch$State;", .classLink RX7 123 nsX, .initialized nsX, .methodLink RX7 120 yX5_hasSite, .instanceMethod yX5_hasSite, .selects RX5 yX5_hasSite yX5_hasSite, .initialized RX5] ++ (wsX70 ++ (v_f_X5_hasSite ++ [])))
def v_t_site : List Cond := v_t1 ++ nsG
theorem gw_t1 : v_t1.all goodWord = true := by decide +kernel
theorem in_t1 {w : Cond} (h : w ∈ v_t1) : w ∈ v_t_site := List.mem_append_left _ h
theorem i_t_X7 : ∀ w ∈ wsX70, w ∈ v_t_site := fun _ h => in_t1 (List.mem_cons_of_mem _ (List.mem_append_right _ (List.mem_append_left _ h)))
theorem g_t_has : GoodIn v_t_site (wsV RX7 120 RX5 yX5_hasSite v_f_X5_hasSite) := goodIn_app (fun w h => (fun q : w ∈ v_t1 ∧ _ => ⟨in_t1 q.1, q.2⟩) (goodIn_of (big := v_t1) _ (by decide +kernel) w h)) (goodIn_sub (fun _ h => in_t1 (List.mem_cons_of_mem _ (List.mem_append_right _ (List.mem_append_right _ (List.mem_append_left _ h))))) gw_f_X5_hasSite)
set_option maxHeartbeats 4000000 in
set_option maxRecDepth 100000 in
/-- HushWatch.site where it throws -/
theorem t_site (l : Launch) (hfl : l.stackTraces = false) (E : EE) {a_ a_tape a_reader a_scripts a_now a_trial a_kept a_book a_keptBook a_history a_draws a_refused a_now_row a_now_partners a_now_share a_now_leftOver : Nat} {c_hasImage : Int32} {c_now_askedCount : Int32} {c_now_outcome : Int32} {c_now_row : Nat → Int32} (sa : Nat) {p1 p2 h0 : Int32} (hh0 : F_X5_hasSite p1 c_now_row = some h0) (hT : h0 = 0 ∨ p2 < 0 ∨ ¬ p2 ≤ 13) : vx_Met l yX7_site v_t_site ({ frames := 6, cells := 1, slots := 6, locals := 82 }) (va_Pc [.ref a_, .int p1, .int p2] (pS E (w_X7_goes E a_ a_tape a_reader a_scripts a_now a_trial a_kept a_book a_keptBook a_history a_draws a_refused a_now_row a_now_partners a_now_share a_now_leftOver c_hasImage c_now_askedCount c_now_outcome c_now_row) sa)) (va_Qi (fun _ (_u : Unit) => False) (fun (_u : Unit) _ => True) (fun _ => False)) (vx_X (fun _u : Unit => True) (fun E9 (_u : Unit) _ => E9 = nsX) (fun _ => False)) 1 6 (fun _ => False) := by
  refine vx_ofW (cc := cX7_site) (maxL := 3) (ret := some .int) (by decide) rfl ?_
  intro p e s m args below meth c s₁ B hml hnox hv
  obtain ⟨rfl, ⟨hK, hN⟩, hP, hstr, hU9, hN9, hB9⟩ := hv
  have hx := B.exec
  have hb := B.bytes
  have hr := B.returns
  have hts := atoms_spec (ws := v_t_site) B.pre
  have hown : s.vm.findClass RX7 = some m.cls := findClass_of_methodNamed B.named
  have hlocks := B.notSynchronized
  have hP : va_P E.1 vwCl [(a_, .inr (8, [.ref a_tape, .ref a_reader, .ref a_scripts, .ref a_now, .ref a_trial, .ref a_kept, .ref a_book, .ref a_keptBook, .ref a_history, .ref a_draws, .ref a_refused, .int c_hasImage])), (a_now, .inr (6, [.ref a_now_row, .ref a_now_partners, .int c_now_askedCount, .int c_now_outcome, .ref a_now_share, .ref a_now_leftOver])), (a_now_row, .inl (E.2.1, 81, .inl c_now_row))] s.heap := hP
  have hl := lv_entry ([.ref a_, .int p1, .int p2]) (n := 3) (Nat.le_of_ble_eq_true rfl)
  rw [lg_entry_eq]
  generalize (lg_sl ([.ref a_, .int p1, .int p2]) ++ List.replicate (3 - (lg_sl ([.ref a_, .int p1, .int p2])).length) Slot.unset).toArray = ls at hl ⊢
  have hl : lv_has ls 3 [(0, .ref a_), (1, .int p1), (2, .int p2)] := hl
  refine lv_aload_n hx hb dX7_site_0 rfl (lv_at hl 0 rfl) ?_
  refine va_get (D := E.1) (ci := 8) (v := .ref a_now) (C := RX7) (T := TX7) (N := 12) hx hb hts i_t_X7 hown hK hP 0 rfl rfl 3 (by decide) (hts (.fieldLink RX7 35 "HushWatch" "now" "LHushWatch$State;") (in_t1 (List.mem_of_getElem? (i := 1) rfl))) (fun _ h9 => h9) rfl dX7_site_1 ?_
  refine lv_iload_n hx hb dX7_site_4 rfl (lv_at hl 1 rfl) ?_
  have hPc : va_P E.1 vwCl (w_X5_hasSite E a_now a_now_row a_now_partners a_now_share a_now_leftOver c_now_askedCount c_now_outcome c_now_row) s.heap := hP.sub (ws' := [(a_now, .inr (6, [.ref a_now_row, .ref a_now_partners, .int c_now_askedCount, .int c_now_outcome, .ref a_now_share, .ref a_now_leftOver])), (a_now_row, .inl (E.2.1, 81, .inl c_now_row))]) [1, 2] rfl
  refine pE_z (va_runV (As := [.int p1]) (rest := []) ⟨hx, hb, hml, hown, hts⟩ (f_X5_hasSite l E (a_ := a_now) (a_row := a_now_row) (a_partners := a_now_partners) (a_share := a_now_share) (a_leftOver := a_now_leftOver) (p1 := p1) (c_askedCount := c_now_askedCount) (c_outcome := c_now_outcome) (c_row := c_now_row) hh0) (cwV 1 hts g_t_has rfl rfl rfl (by decide +kernel) ⟨Nat.le_of_ble_eq_true rfl, Nat.le_of_ble_eq_true rfl⟩) ⟨pP.blind, va_recv hK hPc (ci := 6) (q0 := 0) rfl rfl, (pP.pre ⟨hK, hN⟩ hPc)⟩ rfl rfl hl.1 rfl (lv_room (Nat.le_of_ble_eq_true rfl)) dX7_site_5 ⟨Nat.le_of_ble_eq_true rfl, Nat.le_of_ble_eq_true rfl⟩) (fun hb1 => ?_)
  refine lv_if_eq (tgt := 21) hx hb dX7_site_8 (by decide) (fun _ => ?_) (fun q => ?_)
  · exact ns_throw (A := fun _ => False) (own := RX7) (text := nsT) (sa := sa) hx hb hfl hown (hts (.classLink RX7 123 nsX) (in_t1 (List.mem_of_getElem? (i := 2) rfl))) (hts (.initialized nsX) (in_t1 (List.mem_of_getElem? (i := 3) rfl))) hstr (vx_hat (fun w hw => hts w (List.mem_append_right _ hw)) nsG_rest (fun w hw => nsB_use (nsB_ok w hw) (hB9 w hw))) nsG_ot hU9 hN9 va_S.rf (by rw [hml]; exact hl.1) dX7_site_21 dX7_site_24 dX7_site_25 dX7_site_27 dX7_site_30 (fun x hx => (hnox x hx).elim) (Nat.le_of_ble_eq_true rfl) (Nat.le_of_ble_eq_true rfl) (Nat.le_of_ble_eq_true rfl) (Nat.le_of_ble_eq_true rfl) hlocks (fun t hal hz hq => ⟨(), trivial, rfl, hz, fun q h1 _ => hq q h1⟩) (fun z hz => nomatch hz) (Nat.le_refl _) (Nat.le_refl _)
  refine lv_iload_n hx hb dX7_site_11 rfl (lv_at hl 2 rfl) ?_
  refine lv_if_lt (tgt := 21) hx hb dX7_site_12 (by decide) (fun _ => ?_) (fun q2 => ?_)
  · exact ns_throw (A := fun _ => False) (own := RX7) (text := nsT) (sa := sa) hx hb hfl hown (hts (.classLink RX7 123 nsX) (in_t1 (List.mem_of_getElem? (i := 2) rfl))) (hts (.initialized nsX) (in_t1 (List.mem_of_getElem? (i := 3) rfl))) hstr (vx_hat (fun w hw => hts w (List.mem_append_right _ hw)) nsG_rest (fun w hw => nsB_use (nsB_ok w hw) (hB9 w hw))) nsG_ot hU9 hN9 va_S.rf (by rw [hml]; exact hl.1) dX7_site_21 dX7_site_24 dX7_site_25 dX7_site_27 dX7_site_30 (fun x hx => (hnox x hx).elim) (Nat.le_of_ble_eq_true rfl) (Nat.le_of_ble_eq_true rfl) (Nat.le_of_ble_eq_true rfl) (Nat.le_of_ble_eq_true rfl) hlocks (fun t hal hz hq => ⟨(), trivial, rfl, hz, fun q h1 _ => hq q h1⟩) (fun z hz => nomatch hz) (Nat.le_refl _) (Nat.le_refl _)
  refine lv_iload_n hx hb dX7_site_15 rfl (lv_at hl 2 rfl) ?_
  refine lv_bipush (v := 13) hx hb dX7_site_16 (by decide) ?_
  refine lv_icmp_le (tgt := 31) hx hb dX7_site_18 (by decide) (fun q3 => ?_) (fun _ => ?_)
  · exfalso
    rcases hT with z | z | z
    · exact q z
    · exact q2 z
    · exact z q3
  · exact ns_throw (A := fun _ => False) (own := RX7) (text := nsT) (sa := sa) hx hb hfl hown (hts (.classLink RX7 123 nsX) (in_t1 (List.mem_of_getElem? (i := 2) rfl))) (hts (.initialized nsX) (in_t1 (List.mem_of_getElem? (i := 3) rfl))) hstr (vx_hat (fun w hw => hts w (List.mem_append_right _ hw)) nsG_rest (fun w hw => nsB_use (nsB_ok w hw) (hB9 w hw))) nsG_ot hU9 hN9 va_S.rf (by rw [hml]; exact hl.1) dX7_site_21 dX7_site_24 dX7_site_25 dX7_site_27 dX7_site_30 (fun x hx => (hnox x hx).elim) (Nat.le_of_ble_eq_true rfl) (Nat.le_of_ble_eq_true rfl) (Nat.le_of_ble_eq_true rfl) (Nat.le_of_ble_eq_true rfl) hlocks (fun t hal hz hq => ⟨(), trivial, rfl, hz, fun q h1 _ => hq q h1⟩) (fun z hz => nomatch hz) (Nat.le_refl _) (Nat.le_refl _)
def v_m_site : List Cond := .codeWith yL_site cL_site 5 (some .int) [(0, 10, 13, 13)] :: ([.methodLink RL 7 yX7_site, .instanceMethod yX7_site, .selects RX7 yX7_site yX7_site, .initialized RX7, .classLink RL 13 nsX] ++ (v_t_site ++ []))
theorem g_m_t : GoodIn v_m_site (wsV RL 7 RX7 yX7_site v_t_site) := goodIn_app (goodIn_of _ (by decide +kernel)) (goodIn_app (goodIn_sub (fun _ h => List.mem_cons_of_mem _ (List.mem_append_right _ (List.mem_append_left _ (List.mem_append_left _ h)))) gw_t1) (goodIn_sub (fun _ h => List.mem_cons_of_mem _ (List.mem_append_right _ (List.mem_append_left _ (List.mem_append_right _ h)))) nsG_good))
set_option maxHeartbeats 4000000 in
set_option maxRecDepth 100000 in
/-- the law's own site where the class throws: it answers 1, nothing old is changed -/
theorem m_site0 (l : Launch) (hfl : l.stackTraces = false) (E : EE) {a_ a_tape a_reader a_scripts a_now a_trial a_kept a_book a_keptBook a_history a_draws a_refused a_now_row a_now_partners a_now_share a_now_leftOver : Nat} {c_hasImage : Int32} {c_now_askedCount : Int32} {c_now_outcome : Int32} {c_now_row : Nat → Int32} (ao sa : Nat) {p1 p2 h0 : Int32} (hh0 : F_X5_hasSite p1 c_now_row = some h0) (hT : h0 = 0 ∨ p2 < 0 ∨ ¬ p2 ≤ 13) : vx_Met l yL_site v_m_site ({ frames := 7, cells := 1, slots := 6, locals := 104 }) (va_Pc [.ref a_, .int p1, .int p2, .ref ao] (pS E (w_X7_goes E a_ a_tape a_reader a_scripts a_now a_trial a_kept a_book a_keptBook a_history a_draws a_refused a_now_row a_now_partners a_now_share a_now_leftOver c_hasImage c_now_askedCount c_now_outcome c_now_row) sa)) (va_Qi (fun r (_u : Unit) => r = 1) (fun (_u : Unit) _ => True) (fun _ => False)) (fun _ _ _ => False) 1 6 (fun _ => False) := by
  refine vx_ofWH (cc := cL_site) (maxL := 5) (ret := some .int) (hh := [(0, 10, 13, 13)]) (by decide) rfl ?_
  intro p e s m args below meth c s₁ B hml hv
  obtain ⟨rfl, ⟨hK, hN⟩, hP, hstr, hU9, hN9, hB9⟩ := hv
  have hx := B.exec
  have hb := B.bytes
  have hr := B.returns
  have hts := atoms_spec (ws := v_m_site) B.pre
  have hown : s.vm.findClass RL = some m.cls := findClass_of_methodNamed B.named
  have hlocks := B.notSynchronized
  have htab : c.exceptionTable.toList = tableOf [(0, 10, 13, 13)] := vx_table (x := yL_site) B (hts _ List.mem_cons_self)
  have hS : va_S (fun _ : Nat => False) s.heap s.heap [] := va_S.rf
  have hl := lv_entry ([.ref a_, .int p1, .int p2, .ref ao]) (n := 5) (Nat.le_of_ble_eq_true rfl)
  rw [lg_entry_eq]
  generalize (lg_sl ([.ref a_, .int p1, .int p2, .ref ao]) ++ List.replicate (5 - (lg_sl ([.ref a_, .int p1, .int p2, .ref ao])).length) Slot.unset).toArray = ls at hl ⊢
  have hl : lv_has ls 5 [(0, .ref a_), (1, .int p1), (2, .int p2), (3, .ref ao)] := hl
  refine lv_aload_n hx hb dL_site_0 rfl (lv_at hl 3 rfl) ?_
  refine lv_iconst (v := 0) hx hb dL_site_1 (by decide) ?_
  refine lv_aload_n hx hb dL_site_2 rfl (lv_at hl 0 rfl) ?_
  refine lv_iload_n hx hb dL_site_3 rfl (lv_at hl 1 rfl) ?_
  refine lv_iload_n hx hb dL_site_4 rfl (lv_at hl 2 rfl) ?_
  refine vx_calli (vx_runV (As := [.int p1, .int p2]) (rest := [.int 0, .ref ao]) ⟨hx, hb, hml, hown, hts⟩ (t_site l hfl E (a_ := a_) (a_tape := a_tape) (a_reader := a_reader) (a_scripts := a_scripts) (a_now := a_now) (a_trial := a_trial) (a_kept := a_kept) (a_book := a_book) (a_keptBook := a_keptBook) (a_history := a_history) (a_draws := a_draws) (a_refused := a_refused) (a_now_row := a_now_row) (a_now_partners := a_now_partners) (a_now_share := a_now_share) (a_now_leftOver := a_now_leftOver) (c_hasImage := c_hasImage) (c_now_askedCount := c_now_askedCount) (c_now_outcome := c_now_outcome) (c_now_row := c_now_row) sa hh0 hT) (cwV 2 hts g_m_t rfl rfl rfl (by decide +kernel) ⟨Nat.le_of_ble_eq_true rfl, Nat.le_of_ble_eq_true rfl⟩) ⟨pS.blind, va_recv hK hP (ci := 8) (q0 := 0) rfl rfl, pS.pre ⟨hK, hN⟩ hP hstr hS hU9 hN9 hB9⟩ rfl rfl hl.1 rfl (lv_room (Nat.le_of_ble_eq_true rfl)) dL_site_5 ⟨Nat.le_of_ble_eq_true rfl, Nat.le_of_ble_eq_true rfl⟩) hS (fun _ _ h => h) (fun _ h => h) (fun _ _ h => h) (fun E9 ce q9 u tt H1 locs1 ht hvm hpx hBX hz hk1 hS1 hcell hcv hcl => ?_) (fun r u tt H1 locs1 ht hvm hw hB hz hk1 hS1 => hw.elim)
  have hBX : E9 = nsX := hBX
  subst hBX
  refine vx_catch (own := RL) (name := nsX) (E := nsX) hown [] ⟨0, 10, 13, 13⟩ [] (by rw [htab]; rfl) (fun z hz => nomatch hz) (by decide) (by decide) (hts (.classLink RL 13 nsX) (List.mem_of_getElem? (i := 5) rfl)) (nsB_use (nsB_ok _ (List.mem_of_getElem? (i := 0) rfl)) (hB9 _ (List.mem_of_getElem? (i := 0) rfl))) hcell hcv hcl ?_
  refine W.eq (g2 := F0 m 13 ls [.ref q9]) rfl ?_
  refine lv_astore (lv' := [(4, .ref q9), (0, .ref a_), (1, .int p1), (2, .int p2), (3, .ref ao)]) hx hb dL_site_13 hl (by decide) rfl (fun ls hl => ?_)
  refine lv_iconst (v := 1) hx hb dL_site_15 (by decide) ?_
  refine W.widen (k := 1) (n := 6) (Nat.le_of_ble_eq_true rfl) (Nat.le_of_ble_eq_true rfl) ?_
  exact vx_ret (W.iret (v := 1) hx hb hr (fun tt ht hW => ⟨⟨1, (), rfl, rfl, trivial⟩, hS1.F ht⟩) hS1.2.2 dL_site_16)
theorem m_site (l : Launch) (hfl : l.stackTraces = false) (E : EE) {a_ a_tape a_reader a_scripts a_now a_trial a_kept a_book a_keptBook a_history a_draws a_refused a_now_row a_now_partners a_now_share a_now_leftOver : Nat} {c_hasImage : Int32} {c_now_askedCount : Int32} {c_now_outcome : Int32} {c_now_row : Nat → Int32} (ao sa : Nat) {p1 p2 h0 : Int32} (hh0 : F_X5_hasSite p1 c_now_row = some h0) (hT : h0 = 0 ∨ p2 < 0 ∨ ¬ p2 ≤ 13) : Met l yL_site v_m_site ({ frames := 7, cells := 1, slots := 6, locals := 104 }) (va_Pc [.ref a_, .int p1, .int p2, .ref ao] (pS E (w_X7_goes E a_ a_tape a_reader a_scripts a_now a_trial a_kept a_book a_keptBook a_history a_draws a_refused a_now_row a_now_partners a_now_share a_now_leftOver c_hasImage c_now_askedCount c_now_outcome c_now_row) sa)) (va_Qi (fun r (_u : Unit) => r = 1) (fun (_u : Unit) _ => True) (fun _ => False)) 1 6 (fun _ => False) :=
  MetFree.mono (m_site0 l hfl E (a_ := a_) (a_tape := a_tape) (a_reader := a_reader) (a_scripts := a_scripts) (a_now := a_now) (a_trial := a_trial) (a_kept := a_kept) (a_book := a_book) (a_keptBook := a_keptBook) (a_history := a_history) (a_draws := a_draws) (a_refused := a_refused) (a_now_row := a_now_row) (a_now_partners := a_now_partners) (a_now_share := a_now_share) (a_now_leftOver := a_now_leftOver) (c_hasImage := c_hasImage) (c_now_askedCount := c_now_askedCount) (c_now_outcome := c_now_outcome) (c_now_row := c_now_row) ao sa hh0 hT) (fun _ _ h => h) (fun _ _ _ _ _ _ => trivial) (fun a st oc t _ h => by
    rcases h with h | ⟨q, -, E9, ce, L, hX, -⟩
    · exact h
    · exact hX.elim)
def v_n_site : List Cond := .codeWith yL_site cL_site 5 (some .int) [(0, 10, 13, 13)] :: ([.methodLink RL 7 yX7_site, .instanceMethod yX7_site, .selects RX7 yX7_site yX7_site, .initialized RX7] ++ (v_f_X7_site ++ []))
theorem g_n_t : GoodIn v_n_site (wsV RL 7 RX7 yX7_site v_f_X7_site) := goodIn_app (goodIn_of _ (by decide +kernel)) (goodIn_sub (fun _ h => List.mem_cons_of_mem _ (List.mem_append_right _ (List.mem_append_left _ h))) gw_f_X7_site)
set_option maxHeartbeats 4000000 in
set_option maxRecDepth 100000 in
/-- the law's own site where the class answers -/
theorem n_site0 (l : Launch) (E : EE) (sz : Nat) {a_ a_tape a_reader a_scripts a_now a_trial a_kept a_book a_keptBook a_history a_draws a_refused a_now_row a_now_partners a_now_share a_now_leftOver : Nat} {c_hasImage : Int32} {c_now_askedCount : Int32} {c_now_outcome : Int32} {c_now_row : Nat → Int32} {ao : Nat} {fo : Nat → Int64} {p1 p2 rr : Int32} (hF : F_X7_site p1 p2 c_now_row = some rr) : vx_Met l yL_site v_n_site ({ frames := 4, cells := 0, slots := 0, locals := 93 } : Room) (va_Pc [.ref a_, .int p1, .int p2, .ref ao] (pW E sz ((w_X7_goes E a_ a_tape a_reader a_scripts a_now a_trial a_kept a_book a_keptBook a_history a_draws a_refused a_now_row a_now_partners a_now_share a_now_leftOver c_hasImage c_now_askedCount c_now_outcome c_now_row) ++ [(ao, .inl (E.2.2.2, 1, .inr (.inl fo)))]))) (va_Qi (fun r9 (u9 : Nat → Int64) => r9 = 0 ∧ u9 = vp_updL fo 0 rr.toInt64) (fun (u : Nat → Int64) tt => va_P E.1 vwCl ((w_X7_goes E a_ a_tape a_reader a_scripts a_now a_trial a_kept a_book a_keptBook a_history a_draws a_refused a_now_row a_now_partners a_now_share a_now_leftOver c_hasImage c_now_askedCount c_now_outcome c_now_row) ++ [(ao, .inl (E.2.2.2, 1, .inr (.inl u)))]) tt.heap ∧ va_D (va_A ((w_X7_goes E a_ a_tape a_reader a_scripts a_now a_trial a_kept a_book a_keptBook a_history a_draws a_refused a_now_row a_now_partners a_now_share a_now_leftOver c_hasImage c_now_askedCount c_now_outcome c_now_row) ++ [(ao, .inl (E.2.2.2, 1, .inr (.inl fo)))]) sz) ((w_X7_goes E a_ a_tape a_reader a_scripts a_now a_trial a_kept a_book a_keptBook a_history a_draws a_refused a_now_row a_now_partners a_now_share a_now_leftOver c_hasImage c_now_askedCount c_now_outcome c_now_row) ++ [(ao, .inl (E.2.2.2, 1, .inr (.inl u)))])) (va_A ((w_X7_goes E a_ a_tape a_reader a_scripts a_now a_trial a_kept a_book a_keptBook a_history a_draws a_refused a_now_row a_now_partners a_now_share a_now_leftOver c_hasImage c_now_askedCount c_now_outcome c_now_row) ++ [(ao, .inl (E.2.2.2, 1, .inr (.inl fo)))]) sz)) (fun _ _ _ => False) 0 0 (va_A ((w_X7_goes E a_ a_tape a_reader a_scripts a_now a_trial a_kept a_book a_keptBook a_history a_draws a_refused a_now_row a_now_partners a_now_share a_now_leftOver c_hasImage c_now_askedCount c_now_outcome c_now_row) ++ [(ao, .inl (E.2.2.2, 1, .inr (.inl fo)))]) sz) := by
  refine vx_ofWH (cc := cL_site) (maxL := 5) (ret := some .int) (hh := [(0, 10, 13, 13)]) (by decide) rfl ?_
  intro p e s m args below meth c s₁ B hml hv
  obtain ⟨rfl, hsz, ⟨hK, hN⟩, hP, hD0⟩ := hv
  have hx := B.exec
  have hb := B.bytes
  have hr := B.returns
  have hts := atoms_spec (ws := v_n_site) B.pre
  have hown : s.vm.findClass RL = some m.cls := findClass_of_methodNamed B.named
  have hlocks := B.notSynchronized
  subst hsz
  have hD := hD0.self (sz := s.heap.size)
  generalize hAe : va_A ((w_X7_goes E a_ a_tape a_reader a_scripts a_now a_trial a_kept a_book a_keptBook a_history a_draws a_refused a_now_row a_now_partners a_now_share a_now_leftOver c_hasImage c_now_askedCount c_now_outcome c_now_row) ++ [(ao, .inl (E.2.2.2, 1, .inr (.inl fo)))]) s.heap.size = A at hD ⊢
  have hA : ∀ q : Nat, s.heap.size ≤ q → A q := fun q h => by rw [← hAe]; exact Or.inr h
  have hS : va_S A s.heap s.heap [] := va_S.rf
  have hP : va_P E.1 vwCl [(a_, .inr (8, [.ref a_tape, .ref a_reader, .ref a_scripts, .ref a_now, .ref a_trial, .ref a_kept, .ref a_book, .ref a_keptBook, .ref a_history, .ref a_draws, .ref a_refused, .int c_hasImage])), (a_now, .inr (6, [.ref a_now_row, .ref a_now_partners, .int c_now_askedCount, .int c_now_outcome, .ref a_now_share, .ref a_now_leftOver])), (a_now_row, .inl (E.2.1, 81, .inl c_now_row)), (ao, .inl (E.2.2.2, 1, .inr (.inl fo)))] s.heap := hP
  have hD : va_D A [(a_, .inr (8, [.ref a_tape, .ref a_reader, .ref a_scripts, .ref a_now, .ref a_trial, .ref a_kept, .ref a_book, .ref a_keptBook, .ref a_history, .ref a_draws, .ref a_refused, .int c_hasImage])), (a_now, .inr (6, [.ref a_now_row, .ref a_now_partners, .int c_now_askedCount, .int c_now_outcome, .ref a_now_share, .ref a_now_leftOver])), (a_now_row, .inl (E.2.1, 81, .inl c_now_row)), (ao, .inl (E.2.2.2, 1, .inr (.inl fo)))] := hD
  have hl := lv_entry ([.ref a_, .int p1, .int p2, .ref ao]) (n := 5) (Nat.le_of_ble_eq_true rfl)
  rw [lg_entry_eq]
  generalize (lg_sl ([.ref a_, .int p1, .int p2, .ref ao]) ++ List.replicate (5 - (lg_sl ([.ref a_, .int p1, .int p2, .ref ao])).length) Slot.unset).toArray = ls at hl ⊢
  have hl : lv_has ls 5 [(0, .ref a_), (1, .int p1), (2, .int p2), (3, .ref ao)] := hl
  refine lv_aload_n hx hb dL_site_0 rfl (lv_at hl 3 rfl) ?_
  refine lv_iconst (v := 0) hx hb dL_site_1 (by decide) ?_
  refine lv_aload_n hx hb dL_site_2 rfl (lv_at hl 0 rfl) ?_
  refine lv_iload_n hx hb dL_site_3 rfl (lv_at hl 1 rfl) ?_
  refine lv_iload_n hx hb dL_site_4 rfl (lv_at hl 2 rfl) ?_
  have hPc : va_P E.1 vwCl (w_X7_site E a_ a_tape a_reader a_scripts a_now a_trial a_kept a_book a_keptBook a_history a_draws a_refused a_now_row a_now_partners a_now_share a_now_leftOver c_hasImage c_now_askedCount c_now_outcome c_now_row) s.heap := hP.sub (ws' := [(a_, .inr (8, [.ref a_tape, .ref a_reader, .ref a_scripts, .ref a_now, .ref a_trial, .ref a_kept, .ref a_book, .ref a_keptBook, .ref a_history, .ref a_draws, .ref a_refused, .int c_hasImage])), (a_now, .inr (6, [.ref a_now_row, .ref a_now_partners, .int c_now_askedCount, .int c_now_outcome, .ref a_now_share, .ref a_now_leftOver])), (a_now_row, .inl (E.2.1, 81, .inl c_now_row))]) [0, 1, 2] rfl
  refine pE_i (va_runV (As := [.int p1, .int p2]) (rest := [.int 0, .ref ao]) ⟨hx, hb, hml, hown, hts⟩ (f_X7_site l E (a_ := a_) (a_tape := a_tape) (a_reader := a_reader) (a_scripts := a_scripts) (a_now := a_now) (a_trial := a_trial) (a_kept := a_kept) (a_book := a_book) (a_keptBook := a_keptBook) (a_history := a_history) (a_draws := a_draws) (a_refused := a_refused) (a_now_row := a_now_row) (a_now_partners := a_now_partners) (a_now_share := a_now_share) (a_now_leftOver := a_now_leftOver) (c_hasImage := c_hasImage) (c_now_askedCount := c_now_askedCount) (c_now_outcome := c_now_outcome) (c_now_row := c_now_row) hF) (cwV 2 hts g_n_t rfl rfl rfl (by decide +kernel) ⟨Nat.le_of_ble_eq_true rfl, Nat.le_of_ble_eq_true rfl⟩) ⟨pP.blind, va_recv hK hPc (ci := 8) (q0 := 0) rfl rfl, pP.pre ⟨hK, hN⟩ hPc⟩ rfl rfl hl.1 rfl (lv_room (Nat.le_of_ble_eq_true rfl)) dL_site_5 ⟨Nat.le_of_ble_eq_true rfl, Nat.le_of_ble_eq_true rfl⟩) ?_
  refine lv_i2l (v := rr.toInt64) hx hb dL_site_8 rfl ?_
  refine va_last hx hb hK hP hD hS 3 2 rfl rfl (vin rfl) dL_site_9 (fun H locs hP hD hS => ?_)
  replace hP : va_P E.1 vwCl [(a_, .inr (8, [.ref a_tape, .ref a_reader, .ref a_scripts, .ref a_now, .ref a_trial, .ref a_kept, .ref a_book, .ref a_keptBook, .ref a_history, .ref a_draws, .ref a_refused, .int c_hasImage])), (a_now, .inr (6, [.ref a_now_row, .ref a_now_partners, .int c_now_askedCount, .int c_now_outcome, .ref a_now_share, .ref a_now_leftOver])), (a_now_row, .inl (E.2.1, 81, .inl c_now_row)), (ao, .inl (E.2.2.2, 1, .inr (.inl (vp_updL fo 0 rr.toInt64))))] H := hP
  replace hD : va_D A [(a_, .inr (8, [.ref a_tape, .ref a_reader, .ref a_scripts, .ref a_now, .ref a_trial, .ref a_kept, .ref a_book, .ref a_keptBook, .ref a_history, .ref a_draws, .ref a_refused, .int c_hasImage])), (a_now, .inr (6, [.ref a_now_row, .ref a_now_partners, .int c_now_askedCount, .int c_now_outcome, .ref a_now_share, .ref a_now_leftOver])), (a_now_row, .inl (E.2.1, 81, .inl c_now_row)), (ao, .inl (E.2.2.2, 1, .inr (.inl (vp_updL fo 0 rr.toInt64))))] := hD
  refine lv_goto (tgt := 17) hx hb dL_site_10 (by decide) ?_
  refine lv_iconst (v := 0) hx hb dL_site_17 (by decide) ?_
  exact vx_ret (W.iret (v := 0) hx hb hr (fun tt ht hW => ⟨⟨0, vp_updL fo 0 rr.toInt64, rfl, ⟨rfl, rfl⟩, by rw [ht]; exact hP, hD⟩, hS.F ht⟩) hS.2.2 dL_site_18)
theorem n_site (l : Launch) (E : EE) (sz : Nat) {a_ a_tape a_reader a_scripts a_now a_trial a_kept a_book a_keptBook a_history a_draws a_refused a_now_row a_now_partners a_now_share a_now_leftOver : Nat} {c_hasImage : Int32} {c_now_askedCount : Int32} {c_now_outcome : Int32} {c_now_row : Nat → Int32} {ao : Nat} {fo : Nat → Int64} {p1 p2 rr : Int32} (hF : F_X7_site p1 p2 c_now_row = some rr) : Met l yL_site v_n_site ({ frames := 4, cells := 0, slots := 0, locals := 93 } : Room) (va_Pc [.ref a_, .int p1, .int p2, .ref ao] (pW E sz ((w_X7_goes E a_ a_tape a_reader a_scripts a_now a_trial a_kept a_book a_keptBook a_history a_draws a_refused a_now_row a_now_partners a_now_share a_now_leftOver c_hasImage c_now_askedCount c_now_outcome c_now_row) ++ [(ao, .inl (E.2.2.2, 1, .inr (.inl fo)))]))) (va_Qi (fun r9 (u9 : Nat → Int64) => r9 = 0 ∧ u9 = vp_updL fo 0 rr.toInt64) (fun (u : Nat → Int64) tt => va_P E.1 vwCl ((w_X7_goes E a_ a_tape a_reader a_scripts a_now a_trial a_kept a_book a_keptBook a_history a_draws a_refused a_now_row a_now_partners a_now_share a_now_leftOver c_hasImage c_now_askedCount c_now_outcome c_now_row) ++ [(ao, .inl (E.2.2.2, 1, .inr (.inl u)))]) tt.heap ∧ va_D (va_A ((w_X7_goes E a_ a_tape a_reader a_scripts a_now a_trial a_kept a_book a_keptBook a_history a_draws a_refused a_now_row a_now_partners a_now_share a_now_leftOver c_hasImage c_now_askedCount c_now_outcome c_now_row) ++ [(ao, .inl (E.2.2.2, 1, .inr (.inl fo)))]) sz) ((w_X7_goes E a_ a_tape a_reader a_scripts a_now a_trial a_kept a_book a_keptBook a_history a_draws a_refused a_now_row a_now_partners a_now_share a_now_leftOver c_hasImage c_now_askedCount c_now_outcome c_now_row) ++ [(ao, .inl (E.2.2.2, 1, .inr (.inl u)))])) (va_A ((w_X7_goes E a_ a_tape a_reader a_scripts a_now a_trial a_kept a_book a_keptBook a_history a_draws a_refused a_now_row a_now_partners a_now_share a_now_leftOver c_hasImage c_now_askedCount c_now_outcome c_now_row) ++ [(ao, .inl (E.2.2.2, 1, .inr (.inl fo)))]) sz)) 0 0 (va_A ((w_X7_goes E a_ a_tape a_reader a_scripts a_now a_trial a_kept a_book a_keptBook a_history a_draws a_refused a_now_row a_now_partners a_now_share a_now_leftOver c_hasImage c_now_askedCount c_now_outcome c_now_row) ++ [(ao, .inl (E.2.2.2, 1, .inr (.inl fo)))]) sz) :=
  MetFree.mono (n_site0 l E sz (a_ := a_) (a_tape := a_tape) (a_reader := a_reader) (a_scripts := a_scripts) (a_now := a_now) (a_trial := a_trial) (a_kept := a_kept) (a_book := a_book) (a_keptBook := a_keptBook) (a_history := a_history) (a_draws := a_draws) (a_refused := a_refused) (a_now_row := a_now_row) (a_now_partners := a_now_partners) (a_now_share := a_now_share) (a_now_leftOver := a_now_leftOver) (c_hasImage := c_hasImage) (c_now_askedCount := c_now_askedCount) (c_now_outcome := c_now_outcome) (c_now_row := c_now_row) hF) (fun _ _ h => h) (fun _ _ _ _ _ _ => trivial) (fun a st oc t _ h => by
    rcases h with h | ⟨q, -, E9, ce, L, hX, -⟩
    · exact h
    · exact hX.elim)
theorem site_or {p1 p2 : Int32} {f : Nat → Int32} : (∃ r, F_X7_site p1 p2 f = some r) ∨ ∃ h0, F_X5_hasSite p1 f = some h0 ∧ (h0 = 0 ∨ p2 < 0 ∨ ¬ p2 ≤ 13) := by
  obtain ⟨h0, e, -⟩ := hs_ok (p1 := p1) (f := f)
  by_cases q : h0 = 0 ∨ p2 < 0 ∨ ¬ p2 ≤ 13
  · exact Or.inr ⟨h0, e, q⟩
  · have q1 : ¬ h0 = 0 := fun z => q (Or.inl z)
    have q2 : ¬ p2 < 0 := fun z => q (Or.inr (Or.inl z))
    have q3 : p2 ≤ 13 := Classical.byContradiction (fun z => q (Or.inr (Or.inr z)))
    have h : Tt (F_X7_site p1 p2 f) (fun _ => True) := by
      unfold F_X7_site
      rw [e, xb1, if_neg q1, if_neg q2, if_pos q3]
      refine tt_ite (fun _ => tt_bd1 t_drift (fun _ _ => tt_some trivial)) (fun _ => tt_ite (fun _ => tt_bd1 t_drift (fun _ _ => tt_some trivial)) (fun _ => tt_ite (fun _ => tt_bd1 t_point (fun _ _ => tt_some trivial)) (fun _ => tt_ite (fun _ => tt_bd1 t_point (fun _ _ => tt_some trivial)) (fun _ => tt_ite (fun _ => tt_bd1 t_isQuiet (fun _ _ => tt_ite (fun _ => tt_some trivial) (fun _ => tt_some trivial))) (fun _ => tt_ite (fun _ => tt_bd1 t_of (fun _ _ => tt_some trivial)) (fun _ => tt_ite (fun _ => tt_bd1 t_of (fun _ _ => tt_some trivial)) (fun _ => tt_ite (fun _ => tt_bd1 t_isFrozen (fun _ _ => tt_ite (fun _ => tt_some trivial) (fun _ => tt_some trivial))) (fun _ => tt_bd1 t_of (fun _ _ => tt_some trivial)))))))))
    obtain ⟨r, hr, -⟩ := h
    exact Or.inl ⟨r, hr⟩
end
