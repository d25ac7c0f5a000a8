/-! Stage B, 31: partners, and what a script would cost, in both -/
def PnR (i : Nat) (j : Nat) (s : Int32 × (Nat → Int32) × (Nat → Int32)) (t : Int32 × Int32 × (Nat → Int32) × (Nat → Int32)) : Prop := ∃ sh lo sx sy, s = (nI j, sh, lo) ∧ t = (-1, nI j, sx, sy)
def PnQ (r : Nat × Int32 × (Nat → Int32) × (Nat → Int32)) (u : Int32 × (Nat → Int32) × (Nat → Int32)) : Prop := (r.1 = 0 ∧ u.1 = r.2.1) ∨ (r.1 = 1 ∧ u.1 = -1)
theorem pn_both {n i K : Nat} {f g sh lo sx sy : Nat → Int32} (hK : 200000 ≤ K) (h : RowR n f g) (hg : RowG g) (hi : i < n) (h72 : g 72 = 0) (hq : F_X8_isQuiet K (nI i) g (nI n) = some 0) : ∃ r u, lpF (fun u9 : Int32 × (Nat → Int32) × (Nat → Int32) => B_X7_partner_64 K (nI i) f u9.1 u9.2.1 u9.2.2) K ((0 : Int32), sh, lo) = some r ∧ lpF (fun u9 : Int32 × Int32 × (Nat → Int32) × (Nat → Int32) => B_X8_partner_48 K (nI i) (nI n) g u9.1 u9.2.1 u9.2.2.1 u9.2.2.2) K ((-1 : Int32), (0 : Int32), sx, sy) = some u ∧ PnQ r u := by
  have n8 := h.n8
  refine lp_twoXN 10 (PnR i) PnQ (n := n) (by omega) (by omega) (fun j s t hj q => ?_) ⟨sh, lo, sx, sy, rfl, rfl⟩
  obtain ⟨sh, lo, sx, sy, rfl, rfl⟩ := q
  show (j < n ∧ ∃ s' t', B_X7_partner_64 K (nI i) f (nI j) sh lo = some (.inl s') ∧ B_X8_partner_48 K (nI i) (nI n) g (-1) (nI j) sx sy = some (.inl t') ∧ PnR i (j + 1) s' t') ∨ (∃ r u, B_X7_partner_64 K (nI i) f (nI j) sh lo = some (.inr r) ∧ (∀ J, 10 ≤ J → lpF (fun u9 : Int32 × Int32 × (Nat → Int32) × (Nat → Int32) => B_X8_partner_48 K (nI i) (nI n) g u9.1 u9.2.1 u9.2.2.1 u9.2.2.2) J (-1, nI j, sx, sy) = some u) ∧ PnQ r u)
  by_cases e : j = n
  · have le : nI n ≤ nI j := (nI_leI (a := n) (b := j) (by omega) (by omega)).mpr (by omega)
    refine Or.inr ⟨(1, nI j, sh, lo), (-1, sx, sy), ?_, ?_, Or.inr ⟨rfl, rfl⟩⟩
    · unfold B_X7_partner_64 F_X5_sites
      rw [xb1, h.sz, if_pos le]
    · intro J hJ
      obtain ⟨J2, rfl⟩ : ∃ J2, J = J2 + 1 := ⟨J - 1, by omega⟩
      refine lp_end ?_
      show B_X8_partner_48 K (nI i) (nI n) g (-1) (nI j) sx sy = _
      unfold B_X8_partner_48
      rw [if_pos le]
  · have jn : j < n := by omega
    have lt : ¬ nI n ≤ nI j := mt (nI_leI (a := n) (b := j) (by omega) (by omega)).mp (by omega)
    have C0 : B_X7_partner_64 K (nI i) f (nI j) sh lo = if nI j = nI i then some (.inl (nI j + 1, sh, lo)) else if g (76 + j) = 1 then some (.inl (nI j + 1, sh, lo)) else bd3 (F_X5_canShare K (((1 : Int32) <<< (nI i &&& (31 : Int32))) ||| ((1 : Int32) <<< (nI j &&& (31 : Int32)))) f sh lo) (fun r_24 w_25 w_26 => if r_24 = (0 : Int32) then some (.inl (nI j + (1 : Int32), w_25, w_26)) else some (.inr (0, nI j, w_25, w_26))) := by
      unfold B_X7_partner_64 F_X5_sites
      rw [xb1, h.sz, if_neg lt, fz_c h.1 jn, xb1, ite10]
    have M0 : B_X8_partner_48 K (nI i) (nI n) g (-1) (nI j) sx sy = if nI j = nI i then some (.inl (-1, nI j + 1, sx, sy)) else if g (76 + j) = 1 then some (.inl (-1, nI j + 1, sx, sy)) else bd3 (F_X8_shares K (((1 : Int32) <<< (nI i &&& (31 : Int32))) ||| ((1 : Int32) <<< (nI j &&& (31 : Int32)))) g (nI n) sx sy) (fun r_24 w_25 w_26 => if r_24 = (0 : Int32) then some (.inl (-1, nI j + (1 : Int32), w_25, w_26)) else some (.inl (nI j, nI j + (1 : Int32), w_25, w_26))) := by
      unfold B_X8_partner_48
      rw [if_neg lt, if_pos h72, hq, xb1, if_pos rfl, if_pos rfl, fz_m (by omega), xb1, ite10]
    by_cases c : j = i
    · rw [if_pos (show nI j = nI i by rw [c]), nI_1] at C0 M0
      exact Or.inl ⟨jn, _, _, C0, M0, _, _, _, _, rfl, rfl⟩
    · have cn : ¬ nI j = nI i := fun z => c ((nI_eq (a := j) (b := i) (by omega) (by omega)).mp z)
      rw [if_neg cn] at C0 M0
      by_cases d : g (76 + j) = 1
      · rw [if_pos d, nI_1] at C0 M0
        exact Or.inl ⟨jn, _, _, C0, M0, _, _, _, _, rfl, rfl⟩
      · rw [if_neg d] at C0 M0
        obtain ⟨p1, p2, p3⟩ := grp_1 i (by omega)
        have pb : 2 ^ i / 2 ^ j % 2 = 0 := Decidable.byContradiction (fun z => c (p3 j (by omega) z))
        have pl : 2 ^ i < 256 := Nat.lt_of_lt_of_le (Nat.pow_lt_pow_right (by decide) (show i < 8 by omega)) (by decide)
        obtain ⟨g1, g2, g3⟩ := grp_or (2 ^ i) pl j (by omega) pb
        have m2 : 2 ^ i + 2 ^ j < 2 ^ 8 := grp_lt 8 (by decide) (2 ^ i) pl j (by omega) pb
        obtain ⟨v, q0, q1, r0, r1, sh', lo', sx', sy', hv, hr0, hr1, c1, c2, c3, c4⟩ := sh_both (sh := sh) (lo := lo) (sx := sx) (sy := sy) hK h hg h72 m2 (by omega)
        rw [p1, g1, c1, xb3, nI_1] at C0
        rw [p1, g1, c2, xb3, nI_1] at M0
        rcases hv with v0 | v1
        · rw [v0, if_pos rfl] at C0 M0
          exact Or.inl ⟨jn, _, _, C0, M0, _, _, _, _, rfl, rfl⟩
        · rw [v1, if_neg n10] at C0 M0
          refine Or.inr ⟨_, (nI j, sx', sy'), C0, ?_, Or.inl ⟨rfl, rfl⟩⟩
          intro J hJ
          obtain ⟨J2, rfl⟩ : ∃ J2, J = J2 + 1 := ⟨J - 1, by omega⟩
          rw [lp_one (u' := (nI j, nI (j + 1), sx', sy')) M0]
          refine lp_forA (b := fun u9 : Int32 × Int32 × (Nat → Int32) × (Nat → Int32) => B_X8_partner_48 K (nI i) (nI n) g u9.1 u9.2.1 u9.2.2.1 u9.2.2.2) (S := fun k => (nI j, nI k, sx', sy')) (n := n) (fun k hk => ?_) ?_ (n - (j + 1)) (j + 1) J2 (by omega) (by omega)
          · show B_X8_partner_48 K (nI i) (nI n) g (nI j) (nI k) sx' sy' = some (.inl (nI j, nI (k + 1), sx', sy'))
            unfold B_X8_partner_48
            rw [if_neg (mt (nI_leI (a := n) (b := k) (by omega) (by omega)).mp (by omega)), if_pos h72, hq, xb1, if_pos rfl, if_neg (nI_ne_m1 (by omega)), nI_1]
          · show B_X8_partner_48 K (nI i) (nI n) g (nI j) (nI n) sx' sy' = some (.inr (nI j, sx', sy'))
            unfold B_X8_partner_48
            rw [if_pos ((nI_leI (a := n) (b := n) (by omega) (by omega)).mpr (Nat.le_refl _))]
/-- whom a move would need -/
theorem p_partner {n K : Nat} {f g tr sh lo sx sy asd : Nat → Int32} {x y z : Int32} (hK : 200000 ≤ K) (h : RowR n f g) (hI : RowI n g) : ∃ (v : Int32) (tr' sh' lo' sx' sy' asd' : Nat → Int32), F_X7_partner K x y z f tr sh lo = some (v, tr', sh', lo') ∧ F_X8_partner K x y z g (nI n) sx sy asd = some (v, g, sx', sy', asd') := by
  have n8 := h.n8
  obtain ⟨r, e1, e2, e3, e4⟩ := rf_both (s := 0) (S := 0) (a := x) (b := y) (c := z) rfl (by decide) hK h hI.x
  rw [wm_of] at e2
  unfold F_X7_partner F_X8_partner
  rw [e1, e2, xb1, xb1]
  by_cases c : r = -1
  · obtain ⟨i, hi, rfl, -⟩ := (e4 c).2.1 rfl
    have fr16 : ∀ k, 16 ≤ k → mvG i y z g k = g k := fun k hk => by
      unfold mvG
      rw [upd_ne (by omega), upd_ne (by omega)]
    have gx : mvG i y z g (0 + i) = g (0 + i) + y := by
      unfold mvG
      rw [upd_ne (by omega), upd_at]
    have gy : mvG i y z g (8 + i) = g (8 + i) + z := by
      unfold mvG
      rw [upd_at, upd_ne (by omega)]
    have iq := iq_sh hK h hI.1 hi fr16 gx gy
    have e6 : f 6 = g 72 := h.sc (6, 72) (by decide)
    rw [if_pos c, if_pos c, m_aside hK, xb1]
    simp only [bm_ix (A := (0 : Int32)) (a := 0) rfl (show 0 + i < 265 by omega), bm_ix (A := (8 : Int32)) (a := 8) rfl (show 8 + i < 265 by omega), bm_cl (A := (0 : Int32)) (a := 0) rfl (show 0 + i < 265 by omega), bm_cl (A := (8 : Int32)) (a := 8) rfl (show 8 + i < 265 by omega), xnm]
    have V : ∀ {w : Nat → Int32}, upd (upd g (0 + i) (g (0 + i) + y)) (8 + i) (upd g (0 + i) (g (0 + i) + y) (8 + i) + z) = w → mvG i y z g = w := fun e => e
    generalize hw : upd (upd g (0 + i) (g (0 + i) + y)) (8 + i) (upd g (0 + i) (g (0 + i) + y) (8 + i) + z) = W
    have hW := V hw
    rw [hW] at fr16 gx gy iq
    have bb := m_bring (K := K) (g := g) (w := W) (as := asd) hK (fun k hk => fr16 k (by omega))
    have stop : ∀ {A B : Option Int32}, (W 72 = 0 → ¬ qvl f (cdr f i 0 + y) (cdr f i 1 + z) = 0) → lpF (fun u9 : Int32 × Int32 × (Nat → Int32) × (Nat → Int32) => B_X8_partner_48 K (nI i) (nI n) W u9.1 u9.2.1 u9.2.2.1 u9.2.2.2) K ((-1 : Int32), (0 : Int32), sx, sy) = some (-1, sx, sy) := fun {A B} hh => by
      obtain ⟨J, rfl⟩ : ∃ J, K = J + 1 := ⟨K - 1, by omega⟩
      refine lp_end ?_
      show B_X8_partner_48 (J + 1) (nI i) (nI n) W (-1) 0 sx sy = _
      unfold B_X8_partner_48
      rw [if_neg (nI_nle (by omega) (by omega))]
      by_cases z2 : W 72 = 0
      · rw [if_pos z2, iq, xb1, if_neg (hh z2)]
      · rw [if_neg z2]
    unfold F_X5_isAbove
    rw [e6, c_qw n8 hi, xb1]
    by_cases z2 : g 72 = 0
    · rw [if_pos z2, xb1, if_pos rfl]
      by_cases z3 : qvl f (cdr f i 0 + y) (cdr f i 1 + z) = 0
      · rw [if_pos z3, c_cpF, xb1]
        have h2 : RowR n (va_cpy f tr 0 0 81) g := h.cg (fun k hk => by rw [gcpy_at hk, Nat.zero_add]) (fun k hk => rfl)
        obtain ⟨f2, s1, R2⟩ := sf_both (x := y) (y := z) h2 hi
        rw [hW] at R2
        rw [z3] at iq
        obtain ⟨⟨tg, v1, sh1, lo1⟩, ⟨v2, sx1, sy1⟩, l1, l2, hQ⟩ := pn_both (sh := sh) (lo := lo) (sx := sx) (sy := sy) hK R2 (hI.1.of (fr16 64 (by decide)) (fr16 72 (by decide))) hi ((fr16 72 (by decide)).trans z2) iq
        rw [s1, xb1, l1, xb4, l2, xb3, bb, xb1]
        rcases hQ with ⟨w1, w2⟩ | ⟨w1, w2⟩
        · have w1 : tg = 0 := w1
          have w2 : v2 = v1 := w2
          rw [w1, w2, if_pos rfl]
          exact ⟨_, _, _, _, _, _, _, rfl, rfl⟩
        · have w1 : tg = 1 := w1
          have w2 : v2 = -1 := w2
          rw [w1, w2, if_neg (by decide), if_pos rfl]
          exact ⟨_, _, _, _, _, _, _, rfl, rfl⟩
      · rw [if_neg z3, stop (A := none) (B := none) (fun _ => z3), xb3, bb, xb1]
        exact ⟨_, _, _, _, _, _, _, rfl, rfl⟩
    · rw [if_neg z2, xb1, if_neg n10, stop (A := none) (B := none) (fun w => absurd ((fr16 72 (by decide)).symm.trans w) z2), xb3, bb, xb1]
      exact ⟨_, _, _, _, _, _, _, rfl, rfl⟩
  · rw [if_neg c, if_neg c]
    exact ⟨_, _, _, _, _, _, _, rfl, rfl⟩
abbrev RnX : Type := Int32 × (Nat → Int32) × (Nat → Int32) × Int32 × Int32 × (Nat → Int32) × (Nat → Int32)
def RnR (n c : Nat) (g kp : Nat → Int32) (ka : Int32) (i : Nat) (s : RnX) (t : PfM) : Prop := ∃ (ac oc as ou tk : Int32) (q w P A sh lo sx sy : Nat → Int32), s = (nI i, q, P, ac, oc, sh, lo) ∧ t = (nI i, w, sx, sy, as, ou, A, tk, kp, ka) ∧ RowR n q w ∧ RowI n w ∧ q 11 = w 67 ∧ (∀ k, 84 ≤ k → w k = g k) ∧ i ≤ c
def RnQ (n c : Nat) (g kp : Nat → Int32) (ka : Int32) (s : RnX) (t : Nat × PfM) : Prop := ∃ i, ((t.1 = 0 ∧ i < c) ∨ (t.1 = 1 ∧ i = c)) ∧ RnR n c g kp ka i s t.2
theorem RnR.step {n k r c i K : Nat} {g kp st co sc lg : Nat → Int32} {ka : Int32} {s : RnX} {t : PfM} (hK : 200000 ≤ K) (hk : k ≤ 4) (hr : r < k) (hS : SR k st co sc lg) (hkd : KdS k st co) (e : co r = nI c) (el : lg r = nI c) (hc : c ≤ 12) (q : RnR n c g kp ka i s t) : (i < c ∧ ∃ s' t', B_X7_run_56 K (nI r) (nI k) st co (nI c) s.1 s.2.1 s.2.2.1 s.2.2.2.1 s.2.2.2.2.1 s.2.2.2.2.2.1 s.2.2.2.2.2.2 = some (.inl s') ∧ B_X8_goSteps_2 K (nI r) 0 (nI n) sc lg t.1 t.2.1 t.2.2.1 t.2.2.2.1 t.2.2.2.2.1 t.2.2.2.2.2.1 t.2.2.2.2.2.2.1 t.2.2.2.2.2.2.2.1 t.2.2.2.2.2.2.2.2.1 t.2.2.2.2.2.2.2.2.2 = some (.inl t') ∧ RnR n c g kp ka (i + 1) s' t') ∨ (∃ r' u', B_X7_run_56 K (nI r) (nI k) st co (nI c) s.1 s.2.1 s.2.2.1 s.2.2.2.1 s.2.2.2.2.1 s.2.2.2.2.2.1 s.2.2.2.2.2.2 = some (.inr r') ∧ B_X8_goSteps_2 K (nI r) 0 (nI n) sc lg t.1 t.2.1 t.2.2.1 t.2.2.2.1 t.2.2.2.2.1 t.2.2.2.2.2.1 t.2.2.2.2.2.2.1 t.2.2.2.2.2.2.2.1 t.2.2.2.2.2.2.2.2.1 t.2.2.2.2.2.2.2.2.2 = some (.inr u') ∧ RnQ n c g kp ka r' u') := by
  obtain ⟨ac, oc, as, ou, tk, q, w, P, A, sh, lo, sx, sy, rfl, rfl, h, hI, q11, fr, hi⟩ := q
  have n8 := h.n8
  by_cases z : i = c
  · refine Or.inr ⟨(nI i, q, P, ac, oc, sh, lo), (1, nI i, w, sx, sy, as, ou, A, tk, kp, ka), ?_, ?_, i, Or.inr ⟨rfl, z⟩, ac, oc, as, ou, tk, q, w, P, A, sh, lo, sx, sy, rfl, rfl, h, hI, q11, fr, hi⟩
    · show B_X7_run_56 K (nI r) (nI k) st co (nI c) (nI i) q P ac oc sh lo = _
      unfold B_X7_run_56
      rw [if_pos ((nI_leI (a := c) (b := i) (by omega) (by omega)).mpr (by omega))]
    · show B_X8_goSteps_2 K (nI r) 0 (nI n) sc lg (nI i) w sx sy as ou A tk kp ka = _
      unfold B_X8_goSteps_2
      rw [xixn (by omega) (by decide), nI_clamp (by omega), el, if_pos ((nI_leI (a := c) (b := i) (by omega) (by omega)).mpr (by omega))]
  · have hic : i < c := by omega
    obtain ⟨s, s6, p0, p1, p2, p3, p4⟩ := sp_both hk hr hS hkd e hc hic
    obtain ⟨v, e1, e2, e3, e4⟩ := rf_both (s := s) (S := nI s) (a := sc (48 * r + 4 * i + 1)) (b := sc (48 * r + 4 * i + 2)) (c := sc (48 * r + 4 * i + 3)) rfl s6 hK h hI.x
    have C : B_X7_run_56 K (nI r) (nI k) st co (nI c) (nI i) q P ac oc sh lo = bd7 (if v = -1 then bd7 (F_X5_doAct K (nI s) (sc (48 * r + 4 * i + 1)) (sc (48 * r + 4 * i + 2)) (sc (48 * r + 4 * i + 3)) q P ac oc sh lo) (fun r_12 w_13 w_14 w_15 w_16 w_17 w_18 => some ((1 : Int32), w_13, w_14, w_15, w_16, w_17, w_18)) else some ((0 : Int32), q, P, ac, oc, sh, lo)) (fun r_16 w_17 w_18 w_19 w_20 w_21 w_22 => if r_16 = (0 : Int32) then some (.inr (nI i, w_17, w_18, w_19, w_20, w_21, w_22)) else some (.inl (nI i + (1 : Int32), w_17, w_18, w_19, w_20, w_21, w_22))) := by
      unfold B_X7_run_56 F_X7_tryStep
      rw [if_neg (mt (nI_leI (a := c) (b := i) (by omega) (by omega)).mp (by omega)), p0, xb1, p2, xb1, p3, xb1, p4, xb1, e1, xb1]
    have i1 : nI (48 * r + 4 * i) + (1 : Int32) = nI (48 * r + 4 * i + 1) := nI_1 _
    have i2 : nI (48 * r + 4 * i) + (2 : Int32) = nI (48 * r + 4 * i + 2) := nI_add _ 2
    have i3 : nI (48 * r + 4 * i) + (3 : Int32) = nI (48 * r + 4 * i + 3) := nI_add _ 3
    have M : B_X8_goSteps_2 K (nI r) 0 (nI n) sc lg (nI i) w sx sy as ou A tk kp ka = bd1 (F_X8_whyNot K (nI s) (sc (48 * r + 4 * i + 1)) (sc (48 * r + 4 * i + 2)) (sc (48 * r + 4 * i + 3)) w (nI n)) (fun r_9 => if r_9 = (-1 : Int32) then bd8 (F_X8_doNow K (nI s) (sc (48 * r + 4 * i + 1)) (sc (48 * r + 4 * i + 2)) (sc (48 * r + 4 * i + 3)) w (nI n) sx sy as ou A tk) (fun r_16 w_17 w_18 w_19 w_20 w_21 w_22 w_23 => some (.inl (nI i + (1 : Int32), w_17, w_18, w_19, w_20, w_21, w_22, w_23, kp, ka))) else some (.inr (0, nI i, w, sx, sy, as, ou, A, tk, kp, ka))) := by
      unfold B_X8_goSteps_2
      rw [xixn (show r < 5 by omega) (by decide), nI_clamp (show r < 2 ^ 31 by omega), el, if_neg (mt (nI_leI (a := c) (b := i) (by omega) (by omega)).mp (by omega))]
      simp only [i_sc, i1, i2, i3, xixn (show 48 * r + 4 * i < 240 by omega) (by decide), xixn (show 48 * r + 4 * i + 1 < 240 by omega) (by decide), xixn (show 48 * r + 4 * i + 2 < 240 by omega) (by decide), xixn (show 48 * r + 4 * i + 3 < 240 by omega) (by decide), nI_clamp (show 48 * r + 4 * i < 2 ^ 31 by omega), nI_clamp (show 48 * r + 4 * i + 1 < 2 ^ 31 by omega), nI_clamp (show 48 * r + 4 * i + 2 < 2 ^ 31 by omega), nI_clamp (show 48 * r + 4 * i + 3 < 2 ^ 31 by omega), p1, xb1, if_pos]
    rw [e2, xb1] at M
    by_cases cv : v = -1
    · obtain ⟨m, vv, ac1, oc1, as1, ou1, f1, g1, P1, A1, sh1, lo1, sx1, sy1, d1, d2, R, I1, g67, fr1, hm, -⟩ := da_both (P := P) (A := A) (sh := sh) (lo := lo) (sx := sx) (sy := sy) (ac := ac) (oc := oc) (as := as) (ou := ou) (tk := tk) rfl s6 hK h hI (e4 cv)
      have f11 : f1 11 = g1 67 := by
        obtain ⟨p, ep, hp⟩ := e_doAct (p1 := nI s) (p2 := sc (48 * r + 4 * i + 1)) (p3 := sc (48 * r + 4 * i + 2)) (p4 := sc (48 * r + 4 * i + 3)) (ac := ac) (oc := oc) (f := q) (pa := P) (sh := sh) (lo := lo) hK ⟨n, n8, h.sz⟩
        rw [d1] at ep
        rw [← Option.some.inj ep] at hp
        rw [g67, ← q11]
        exact hp.2.2
      rw [if_pos cv, d1, xb7, xb7, if_neg n10, nI_1] at C
      rw [if_pos cv, d2, xb8, nI_1] at M
      exact Or.inl ⟨hic, _, _, C, M, _, _, _, _, _, f1, g1, _, _, _, _, _, _, rfl, rfl, R, I1, f11, fun k hk => (fr1 k hk).trans (fr k hk), by omega⟩
    · rw [if_neg cv, xb7, if_pos rfl] at C
      rw [if_neg cv] at M
      exact Or.inr ⟨_, _, C, M, i, Or.inl ⟨rfl, hic⟩, ac, oc, as, ou, tk, q, w, P, A, sh, lo, sx, sy, rfl, rfl, h, hI, q11, fr, hi⟩
/-- what a script would cost -/
theorem p_run {n k K : Nat} {f g tr P A sh lo sx sy kp asd st co sc lg : Nat → Int32} {x y ac oc as ou tk ka : Int32} (hK : 200000 ≤ K) (hk : k ≤ 4) (hS : SR k st co sc lg) (hkd : KdS k st co) (h : RowR n f g) (hI : RowI n g) (h11 : f 11 = g 67) : ∃ (v ac' oc' as' ou' tk' : Int32) (tr' P' A' sh' lo' sx' sy' asd' : Nat → Int32), F_X7_run K x y st co (nI k) f tr P ac oc sh lo = some (v, tr', P', ac', oc', sh', lo') ∧ F_X8_run K x y sc lg (nI k) g (nI n) sx sy as ou A tk kp ka asd = some (v, g, sx', sy', as', ou', A', tk', kp, ka, asd') := by
  have n8 := h.n8
  obtain ⟨s1, s2⟩ := sd_both n8 h.sz
  have eS : F_X8_isScript x (nI k) = some (if 0 ≤ x ∧ x ≤ nI k - 1 then 1 else 0) := by
    unfold F_X8_isScript
    rw [show (0 : Int64) = (0 : Int32).toInt64 from rfl, m_inI, xb1]
  unfold F_X7_run F_X8_run
  by_cases c : 0 ≤ x ∧ x ≤ nI k - 1
  · obtain ⟨r, hr', rfl⟩ := in_lt (by omega) c
    obtain ⟨l, l1, l2, l3, l4, l5⟩ := hS r hr'
    rw [eS, if_pos c, xb1, if_neg n10, c_has4 hk hr', xb1, if_neg n10, s1, s2, xb1, xb1]
    by_cases z : n = 0
    · rw [if_pos z, if_pos rfl, if_pos rfl]
      exact ⟨_, _, _, _, _, _, _, _, _, _, _, _, _, _, rfl, rfl⟩
    · rw [if_neg z, if_neg n10, if_neg n10, m_in0 (m := 1) (by decide), xb1, ite10, rng_d]
      by_cases d : 0 ≤ y ∧ y ≤ nI 1
      · obtain ⟨b, hb, rfl⟩ := in_nat (n := 1) (by decide) d
        have h2 : RowR n (va_cpy f tr 0 0 81) g := h.cg (fun k hk => by rw [gcpy_at hk, Nat.zero_add]) (fun k hk => rfl)
        have t11 : (va_cpy f tr 0 0 81) 11 = g 67 := by rw [gcpy_at (by decide), Nat.zero_add, h11]
        have hz : RnR n l g kp ka 0 ((0 : Int32), va_cpy f tr 0 0 81, P, ac, oc, sh, lo) ((0 : Int32), g, sx, sy, as, ou, A, tk, kp, ka) := ⟨_, _, _, _, _, _, g, _, _, _, _, _, _, rfl, rfl, h2, hI, t11, fun _ _ => rfl, by omega⟩
        obtain ⟨u, t, x1, x2, i, y2, ac1, oc1, as1, ou1, tk1, q1, w1, P1, A1, sh1, lo1, sx1, sy1, y3, y4, R, I1, q11, fr, y7⟩ := lp_two (b := fun u9 : Int32 × (Nat → Int32) × (Nat → Int32) × Int32 × Int32 × (Nat → Int32) × (Nat → Int32) => B_X7_run_56 K (nI r) (nI k) st co (nI l) u9.1 u9.2.1 u9.2.2.1 u9.2.2.2.1 u9.2.2.2.2.1 u9.2.2.2.2.2.1 u9.2.2.2.2.2.2) (d := fun u9 : Int32 × (Nat → Int32) × (Nat → Int32) × (Nat → Int32) × Int32 × Int32 × (Nat → Int32) × Int32 × (Nat → Int32) × Int32 => B_X8_goSteps_2 K (nI r) 0 (nI n) sc lg u9.1 u9.2.1 u9.2.2.1 u9.2.2.2.1 u9.2.2.2.2.1 u9.2.2.2.2.2.1 u9.2.2.2.2.2.2.1 u9.2.2.2.2.2.2.2.1 u9.2.2.2.2.2.2.2.2.1 u9.2.2.2.2.2.2.2.2.2) (RnR n l g kp ka) (RnQ n l g kp ka) (n := l) (K := K) (K' := K) (by omega) (by omega) (fun i s t hi q => (RnR.step hK hk hr' hS hkd l3 l4 l2 q).imp (fun w => w.2) id) (fun s t q => (RnR.step hK hk hr' hS hkd l3 l4 l2 q).elim (fun w => absurd w.1 (Nat.lt_irrefl _)) id) hz
        obtain ⟨t1, t2⟩ := t
        have y4 : t2 = _ := y4
        subst y3 y4
        have y2 : (t1 = 0 ∧ i < l) ∨ (t1 = 1 ∧ i = l) := y2
        unfold F_X8_goSteps
        rw [if_pos (show 0 ≤ nI b ∧ nI b ≤ (1 : Int32) from d), if_pos d, c_cpF, xb1, c_stepsOf hk hr' l3, xb1, x1, m_aside hK, xb1, x2, xb7, xb11]
        have G : (if t1 = 0 then some (nI i, w1, sx1, sy1, as1, ou1, A1, tk1, kp, ka) else if t1 = 1 then ixF (nI r) 5 (some (lg (nI r).toNatClampNeg, w1, sx1, sy1, as1, ou1, A1, tk1, kp, ka)) else none) = some (nI i, w1, sx1, sy1, as1, ou1, A1, tk1, kp, ka) := by
          rcases y2 with ⟨w1, w2⟩ | ⟨w1, w2⟩
          · rw [w1, if_pos rfl]
          · rw [w1, if_neg (by decide), if_pos rfl, xixn (by omega) (by decide), nI_clamp (by omega), l4, w2]
        rw [G, xb10, m_bring hK fr, xb1, aside_at (by decide), xixn (by omega) (by decide), nI_clamp (by omega), l4]
        unfold J_X7_run_78
        rw [q11, h11]
        rcases (show b = 0 ∨ b = 1 by omega) with rfl | rfl
        · rw [if_neg (show ¬ nI 0 = (1 : Int32) by decide), if_neg (show ¬ nI 0 = (1 : Int32) by decide)]
          by_cases e : i = l
          · rw [if_pos ((nI_leI (a := l) (b := i) (by omega) (by omega)).mpr (by omega)), if_pos (show nI i = nI l by rw [e])]
            exact ⟨_, _, _, _, _, _, _, _, _, _, _, _, _, _, rfl, rfl⟩
          · rw [if_neg (mt (nI_leI (a := l) (b := i) (by omega) (by omega)).mp (by omega)), if_neg (show ¬ nI i = nI l from fun q => e ((nI_eq (a := i) (b := l) (by omega) (by omega)).mp q))]
            exact ⟨_, _, _, _, _, _, _, _, _, _, _, _, _, _, rfl, rfl⟩
        · rw [if_pos (by decide), if_pos (by decide)]
          exact ⟨_, _, _, _, _, _, _, _, _, _, _, _, _, _, rfl, rfl⟩
      · rw [if_neg (show ¬ (0 ≤ y ∧ y ≤ (1 : Int32)) from d), if_neg d]
        exact ⟨_, _, _, _, _, _, _, _, _, _, _, _, _, _, rfl, rfl⟩
  · have c7 : F_X4_has x (nI k) = some 0 := by
      unfold F_X4_has
      by_cases b1 : x < 0
      · rw [if_pos b1]
      · rw [if_neg b1, if_pos]
        refine Decidable.byContradiction (fun b2 => ?_)
        obtain ⟨w, hw, rfl⟩ := nnI (n := k) (by omega) b1 b2
        apply c
        rw [show nI k - (1 : Int32) = nI (k - 1) from xsub (b := 1) (by omega)]
        exact ⟨nI_nn (by omega), (nI_leI (a := w) (b := k - 1) (by omega) (by omega)).mpr (by omega)⟩
    rw [eS, if_neg c, xb1, if_pos rfl, c7, xb1, if_pos rfl]
    exact ⟨_, _, _, _, _, _, _, _, _, _, _, _, _, _, rfl, rfl⟩
