/-! Stage B, 24: acts of a script, in both -/
/-- an act that is tried: not by hand -/
theorem a0_both {n a hd nx K s : Nat} {f g bk hr kp rf P A sh lo sx sy : Nat → Int32} {S x y z ac oc as ou tk : Int32} (eS : S = nI s) (hs : s ≤ 6) (hK : 200000 ≤ K) (ha : a < 2 ^ 29) (h : ActR n a hd nx f g bk hr kp) : ∃ w, F_X8_whyNot K S x y z g (nI n) = some w ∧ ((¬ w = -1 ∧ F_X7_act K S x y z 0 f P ac oc sh lo bk hr (nI nx) (nI hd) rf = some (-1, f, P, ac, oc, sh, lo, bk, hr, nI nx, nI hd, rf)) ∨ (w = -1 ∧ ∃ (r v ac' oc' as' ou' : Int32) (hd' nx' : Nat) (f' g' bk' hr' kp' P' A' sh' lo' sx' sy' : Nat → Int32), ¬ r = -1 ∧ F_X7_act K S x y z 0 f P ac oc sh lo bk hr (nI nx) (nI hd) rf = some (r, f', P', ac', oc', sh', lo', bk', hr', nI nx', nI hd', rf) ∧ F_X8_act K S x y z g (nI n) sx sy as ou A tk kp (nI hd) = some (v, g', sx', sy', as', ou', A', r, kp', nI hd') ∧ ActR n (a + 1) hd' nx' f' g' bk' hr' kp')) := by
  obtain ⟨w, e1, e2, e3, e4⟩ := rf_both (a := x) (b := y) (c := z) eS hs hK h.1.1 h.1.2.1.x
  refine ⟨w, e2, ?_⟩
  by_cases c : w = -1
  · rw [c] at e1
    obtain ⟨r, v, ac1, oc1, as1, ou1, hd1, nx1, f1, g1, bk1, hr1, kp1, P1, A1, sh1, lo1, sx1, sy1, d1, d2, d3, ⟨m, hm, d4⟩, -⟩ := at_both (rf := rf) (P := P) (A := A) (sh := sh) (lo := lo) (sx := sx) (sy := sy) (h5 := 0) (ac := ac) (oc := oc) (as := as) (ou := ou) (tk := tk) eS hs hK ha h e1 (e4 c)
    exact Or.inr ⟨c, r, v, ac1, oc1, as1, ou1, hd1, nx1, f1, g1, bk1, hr1, kp1, P1, A1, sh1, lo1, sx1, sy1, by rw [d4]; exact nI_ne_m1 (by omega), d1, d2, d3⟩
  · refine Or.inl ⟨c, ?_⟩
    unfold F_X7_act
    rw [e1, xb1, if_neg c, if_pos rfl]
theorem sort_both : ∀ k, k < 7 → ∃ s, s ≤ 6 ∧ sosF k = nI s ∧ F_X8_actOf (nI k) = some (nI s) := by
  intro k hk
  rcases (show k = 0 ∨ k = 1 ∨ k = 2 ∨ k = 3 ∨ k = 4 ∨ k = 5 ∨ k = 6 by omega) with rfl | rfl | rfl | rfl | rfl | rfl | rfl
  · exact ⟨0, by decide, by decide, by decide⟩
  · exact ⟨4, by decide, by decide, by decide⟩
  · exact ⟨2, by decide, by decide, by decide⟩
  · exact ⟨3, by decide, by decide, by decide⟩
  · exact ⟨1, by decide, by decide, by decide⟩
  · exact ⟨5, by decide, by decide, by decide⟩
  · exact ⟨6, by decide, by decide, by decide⟩
theorem c_has4 {k r : Nat} (hk : k ≤ 4) (hr : r < k) : F_X4_has (nI r) (nI k) = some 1 := by
  unfold F_X4_has
  rw [if_neg (nn0 (by omega)), if_neg (mt (nI_leI (a := k) (b := r) (by omega) (by omega)).mp (by omega)), if_neg (show ¬ (4 : Int32) ≤ nI r from mt (nI_leI (a := 4) (b := r) (by omega) (by omega)).mp (by omega))]
theorem c_stepsOf {k r c : Nat} {co : Nat → Int32} (hk : k ≤ 4) (hr : r < k) (e : co r = nI c) : F_X4_stepsOf (nI r) co (nI k) = some (nI c) := by
  unfold F_X4_stepsOf
  rw [c_has4 hk hr, xb1, if_neg (by decide), xixn (by omega) (by decide), nI_clamp (by omega), e]
theorem c_read4 {k r c i w : Nat} {W : Int32} {st co : Nat → Int32} (eW : W = nI w) (hk : k ≤ 4) (hr : r < k) (e : co r = nI c) (hc : c ≤ 12) (hi : i < c) (hw : w < 4) : F_X4_read (nI r) (nI i) W st co (nI k) = some (st (48 * r + 4 * i + w)) := by
  have e1 : ((nI r * (48 : Int32)) + (nI i * (4 : Int32))) + nI w = nI (48 * r + 4 * i + w) := by rw [show (48 : Int32) = nI 48 from rfl, show (4 : Int32) = nI 4 from rfl, nI_mul, nI_mul, nI_add, nI_add, Nat.mul_comm r 48, Nat.mul_comm i 4]
  unfold F_X4_read
  rw [eW, if_neg (nn0 (by omega)), c_stepsOf hk hr e, xb1, if_neg (mt (nI_leI (a := c) (b := i) (by omega) (by omega)).mp (by omega)), if_neg (nn0 (by omega)), if_pos (show nI w < (4 : Int32) from (nI_ltI (a := w) (b := 4) (by omega) (by omega)).mpr hw), e1, xixn (by omega) (by decide), nI_clamp (by omega)]
/-- a step of a script, as both read it -/
theorem sp_both {k r c i : Nat} {st co sc lg : Nat → Int32} (hk : k ≤ 4) (hr : r < k) (h : SR k st co sc lg) (hkd : KdS k st co) (e : co r = nI c) (hc : c ≤ 12) (hi : i < c) : ∃ s, s ≤ 6 ∧ F_X4_sortOf (nI r) (nI i) st co (nI k) = some (nI s) ∧ F_X8_actOf (sc (48 * r + 4 * i)) = some (nI s) ∧ F_X4_read (nI r) (nI i) 1 st co (nI k) = some (sc (48 * r + 4 * i + 1)) ∧ F_X4_read (nI r) (nI i) 2 st co (nI k) = some (sc (48 * r + 4 * i + 2)) ∧ F_X4_read (nI r) (nI i) 3 st co (nI k) = some (sc (48 * r + 4 * i + 3)) := by
  obtain ⟨c', c1, c2, c3, c4, c5⟩ := h r hr
  have ec : c = c' := (nI_eq (a := c) (b := c') (by omega) (by omega)).mp (e.symm.trans c3)
  obtain ⟨κ, k7, ek⟩ := hkd r hr c e hc i hi
  have ek : st (48 * r + 4 * i) = nI κ := ek
  obtain ⟨s, s6, s1, s2⟩ := sort_both κ k7
  have q : ∀ w, w < 4 → st (48 * r + 4 * i + w) = sc (48 * r + 4 * i + w) := fun w hw => by
    have := c5 (4 * i + w) (by omega)
    rw [← Nat.add_assoc] at this
    exact this
  have q0 : st (48 * r + 4 * i) = sc (48 * r + 4 * i) := q 0 (by decide)
  refine ⟨s, s6, ?_, ?_, ?_, ?_, ?_⟩
  · unfold F_X4_sortOf
    rw [c_read4 (w := 0) (by rfl) hk hr e hc hi (by decide), xb1, Nat.add_zero, ek, if_neg (nn0 (by omega)), if_neg (show ¬ (7 : Int32) ≤ nI κ from mt (nI_leI (a := 7) (b := κ) (by omega) (by omega)).mp (by omega)), xixn (by omega) (by decide), nI_clamp (by omega), s1]
  · rw [← q0, ek, s2]
  · rw [c_read4 (w := 1) (by rfl) hk hr e hc hi (by decide), q 1 (by decide)]
  · rw [c_read4 (w := 2) (by rfl) hk hr e hc hi (by decide), q 2 (by decide)]
  · rw [c_read4 (w := 3) (by rfl) hk hr e hc hi (by decide), q 3 (by decide)]
theorem i_sc {r i : Nat} : (4 : Int32) * (((12 : Int32) * nI r) + nI i) = nI (48 * r + 4 * i) := by
  rw [show (4 : Int32) = nI 4 from rfl, show (12 : Int32) = nI 12 from rfl, nI_mul, nI_add, nI_mul]
  congr 1
  omega
abbrev PfX : Type := Int32 × (Nat → Int32) × (Nat → Int32) × Int32 × Int32 × (Nat → Int32) × (Nat → Int32) × (Nat → Int32) × (Nat → Int32) × Int32 × Int32 × (Nat → Int32)
abbrev PfM : Type := Int32 × (Nat → Int32) × (Nat → Int32) × (Nat → Int32) × Int32 × Int32 × (Nat → Int32) × Int32 × (Nat → Int32) × Int32
def PfR (n a c : Nat) (rf : Nat → Int32) (i : Nat) (s : PfX) (t : PfM) : Prop := ∃ (ac oc as ou tk : Int32) (a' hd nx : Nat) (f g bk hr kp P A sh lo sx sy : Nat → Int32), s = (nI i, f, P, ac, oc, sh, lo, bk, hr, nI nx, nI hd, rf) ∧ t = (nI i, g, sx, sy, as, ou, A, tk, kp, nI hd) ∧ ActR n a' hd nx f g bk hr kp ∧ a' ≤ a + i ∧ i ≤ c
def PfQ (n a c : Nat) (rf : Nat → Int32) (s : Nat × PfX) (t : Nat × PfM) : Prop := ∃ i, s.1 = t.1 ∧ (s.1 = 0 ∨ (s.1 = 1 ∧ i = c)) ∧ PfR n a c rf i s.2 t.2
theorem PfR.step {n a k r c i K : Nat} {rf st co sc lg : Nat → Int32} {s : PfX} {t : PfM} (hK : 200000 ≤ K) (ha : a + 20 < 2 ^ 29) (hk : k ≤ 4) (hr : r < k) (hS : SR k st co sc lg) (hkd : KdS k st co) (e : co r = nI c) (el : lg r = nI c) (hc : c ≤ 12) (q : PfR n a c rf i s t) : (i < c ∧ ∃ s' t', B_X7_perform_34 K (nI r) (nI k) st co (nI c) s.1 s.2.1 s.2.2.1 s.2.2.2.1 s.2.2.2.2.1 s.2.2.2.2.2.1 s.2.2.2.2.2.2.1 s.2.2.2.2.2.2.2.1 s.2.2.2.2.2.2.2.2.1 s.2.2.2.2.2.2.2.2.2.1 s.2.2.2.2.2.2.2.2.2.2.1 s.2.2.2.2.2.2.2.2.2.2.2 = some (.inl s') ∧ B_X8_goSteps_2 K (nI r) 1 (nI n) sc lg t.1 t.2.1 t.2.2.1 t.2.2.2.1 t.2.2.2.2.1 t.2.2.2.2.2.1 t.2.2.2.2.2.2.1 t.2.2.2.2.2.2.2.1 t.2.2.2.2.2.2.2.2.1 t.2.2.2.2.2.2.2.2.2 = some (.inl t') ∧ PfR n a c rf (i + 1) s' t') ∨ (∃ r' u', B_X7_perform_34 K (nI r) (nI k) st co (nI c) s.1 s.2.1 s.2.2.1 s.2.2.2.1 s.2.2.2.2.1 s.2.2.2.2.2.1 s.2.2.2.2.2.2.1 s.2.2.2.2.2.2.2.1 s.2.2.2.2.2.2.2.2.1 s.2.2.2.2.2.2.2.2.2.1 s.2.2.2.2.2.2.2.2.2.2.1 s.2.2.2.2.2.2.2.2.2.2.2 = some (.inr r') ∧ B_X8_goSteps_2 K (nI r) 1 (nI n) sc lg t.1 t.2.1 t.2.2.1 t.2.2.2.1 t.2.2.2.2.1 t.2.2.2.2.2.1 t.2.2.2.2.2.2.1 t.2.2.2.2.2.2.2.1 t.2.2.2.2.2.2.2.2.1 t.2.2.2.2.2.2.2.2.2 = some (.inr u') ∧ PfQ n a c rf r' u') := by
  obtain ⟨ac, oc, as, ou, tk, a', hd, nx, f, g, bk, hr', kp, P, A, sh, lo, sx, sy, rfl, rfl, h, ha', hi⟩ := q
  by_cases z : i = c
  · refine Or.inr ⟨(1, nI i, f, P, ac, oc, sh, lo, bk, hr', nI nx, nI hd, rf), (1, nI i, g, sx, sy, as, ou, A, tk, kp, nI hd), ?_, ?_, i, rfl, Or.inr ⟨rfl, z⟩, ac, oc, as, ou, tk, a', hd, nx, f, g, bk, hr', kp, P, A, sh, lo, sx, sy, rfl, rfl, h, ha', hi⟩
    · show B_X7_perform_34 K (nI r) (nI k) st co (nI c) (nI i) f P ac oc sh lo bk hr' (nI nx) (nI hd) rf = _
      unfold B_X7_perform_34
      rw [if_pos ((nI_leI (a := c) (b := i) (by omega) (by omega)).mpr (by omega))]
    · show B_X8_goSteps_2 K (nI r) 1 (nI n) sc lg (nI i) g sx sy as ou A tk kp (nI hd) = _
      unfold B_X8_goSteps_2
      rw [xixn (by omega) (by decide), nI_clamp (by omega), el, if_pos ((nI_leI (a := c) (b := i) (by omega) (by omega)).mpr (by omega))]
  · have hic : i < c := by omega
    obtain ⟨s, s6, p0, p1, p2, p3, p4⟩ := sp_both hk hr hS hkd e hc hic
    obtain ⟨w, e2, q⟩ := a0_both (s := s) (S := nI s) (x := sc (48 * r + 4 * i + 1)) (y := sc (48 * r + 4 * i + 2)) (z := sc (48 * r + 4 * i + 3)) (rf := rf) (P := P) (A := A) (sh := sh) (lo := lo) (sx := sx) (sy := sy) (ac := ac) (oc := oc) (as := as) (ou := ou) (tk := tk) rfl s6 hK (show a' < 2 ^ 29 by omega) h
    have C : B_X7_perform_34 K (nI r) (nI k) st co (nI c) (nI i) f P ac oc sh lo bk hr' (nI nx) (nI hd) rf = bd12 (F_X7_act K (nI s) (sc (48 * r + 4 * i + 1)) (sc (48 * r + 4 * i + 2)) (sc (48 * r + 4 * i + 3)) 0 f P ac oc sh lo bk hr' (nI nx) (nI hd) rf) (fun r_20 w_21 w_22 w_23 w_24 w_25 w_26 w_27 w_28 w_29 w_30 w_31 => if r_20 = (-1 : Int32) then some (.inr (0, nI i, w_21, w_22, w_23, w_24, w_25, w_26, w_27, w_28, w_29, w_30, w_31)) else some (.inl (nI i + (1 : Int32), w_21, w_22, w_23, w_24, w_25, w_26, w_27, w_28, w_29, w_30, w_31))) := by
      unfold B_X7_perform_34
      rw [if_neg (mt (nI_leI (a := c) (b := i) (by omega) (by omega)).mp (by omega)), p0, xb1, p2, xb1, p3, xb1, p4, xb1]
    have i1 : nI (48 * r + 4 * i) + (1 : Int32) = nI (48 * r + 4 * i + 1) := nI_1 _
    have i2 : nI (48 * r + 4 * i) + (2 : Int32) = nI (48 * r + 4 * i + 2) := nI_add _ 2
    have i3 : nI (48 * r + 4 * i) + (3 : Int32) = nI (48 * r + 4 * i + 3) := nI_add _ 3
    have M : B_X8_goSteps_2 K (nI r) 1 (nI n) sc lg (nI i) g sx sy as ou A tk kp (nI hd) = bd1 (F_X8_whyNot K (nI s) (sc (48 * r + 4 * i + 1)) (sc (48 * r + 4 * i + 2)) (sc (48 * r + 4 * i + 3)) g (nI n)) (fun r_9 => if r_9 = (-1 : Int32) then bd10 (F_X8_act K (nI s) (sc (48 * r + 4 * i + 1)) (sc (48 * r + 4 * i + 2)) (sc (48 * r + 4 * i + 3)) g (nI n) sx sy as ou A tk kp (nI hd)) (fun r_28 w_29 w_30 w_31 w_32 w_33 w_34 w_35 w_36 w_37 => some (.inl (nI i + (1 : Int32), w_29, w_30, w_31, w_32, w_33, w_34, w_35, w_36, w_37))) else some (.inr (0, nI i, g, sx, sy, as, ou, A, tk, kp, nI hd))) := by
      unfold B_X8_goSteps_2
      rw [xixn (show r < 5 by omega) (by decide), nI_clamp (show r < 2 ^ 31 by omega), el, if_neg (mt (nI_leI (a := c) (b := i) (by omega) (by omega)).mp (by omega))]
      simp only [i_sc, i1, i2, i3, xixn (show 48 * r + 4 * i < 240 by omega) (by decide), xixn (show 48 * r + 4 * i + 1 < 240 by omega) (by decide), xixn (show 48 * r + 4 * i + 2 < 240 by omega) (by decide), xixn (show 48 * r + 4 * i + 3 < 240 by omega) (by decide), nI_clamp (show 48 * r + 4 * i < 2 ^ 31 by omega), nI_clamp (show 48 * r + 4 * i + 1 < 2 ^ 31 by omega), nI_clamp (show 48 * r + 4 * i + 2 < 2 ^ 31 by omega), nI_clamp (show 48 * r + 4 * i + 3 < 2 ^ 31 by omega), p1, xb1, if_neg (show ¬ (1 : Int32) = 0 by decide)]
    rw [e2, xb1] at M
    rcases q with ⟨q1, q2⟩ | ⟨q1, r', v, ac1, oc1, as1, ou1, hd1, nx1, f1, g1, bk1, hr1, kp1, P1, A1, sh1, lo1, sx1, sy1, q2, q3, q4, q5⟩
    · rw [q2, xb12, if_pos rfl] at C
      rw [if_neg q1] at M
      exact Or.inr ⟨_, _, C, M, i, rfl, Or.inl rfl, ac, oc, as, ou, tk, a', hd, nx, f, g, bk, hr', kp, P, A, sh, lo, sx, sy, rfl, rfl, h, ha', hi⟩
    · rw [q3, xb12, if_neg q2, nI_1] at C
      rw [if_pos q1, q4, xb10, nI_1] at M
      exact Or.inl ⟨hic, _, _, C, M, _, _, _, _, _, _, _, _, _, _, _, _, _, _, _, _, _, _, _, rfl, rfl, q5, by omega, by omega⟩
/-- a script is performed -/
theorem p_perform {n a hd nx k K : Nat} {f g bk hr kp rf P A sh lo sx sy st co sc lg : Nat → Int32} {x ac oc as ou tk : Int32} (hK : 200000 ≤ K) (ha : a + 20 < 2 ^ 29) (hk : k ≤ 4) (hS : SR k st co sc lg) (hkd : KdS k st co) (h : ActR n a hd nx f g bk hr kp) : ∃ (v ac' oc' as' ou' tk' : Int32) (a' hd' nx' : Nat) (f' g' bk' hr' kp' P' A' sh' lo' sx' sy' : Nat → Int32), F_X7_perform K x st co (nI k) f P ac oc sh lo bk hr (nI nx) (nI hd) rf = some (v, f', P', ac', oc', sh', lo', bk', hr', nI nx', nI hd', rf) ∧ F_X8_perform K x sc lg (nI k) g (nI n) sx sy as ou A tk kp (nI hd) = some (v, g', sx', sy', as', ou', A', tk', kp', nI hd') ∧ ActR n a' hd' nx' f' g' bk' hr' kp' ∧ a' ≤ a + 12 := by
  have n8 := h.1.1.n8
  obtain ⟨s1, s2⟩ := sd_both n8 h.1.1.sz
  have eS : F_X8_isScript x (nI k) = some (if 0 ≤ x ∧ x ≤ nI k - 1 then 1 else 0) := by
    unfold F_X8_isScript
    rw [show (0 : Int64) = (0 : Int32).toInt64 from rfl, m_inI, xb1]
  unfold F_X7_perform F_X8_perform
  by_cases c : 0 ≤ x ∧ x ≤ nI k - 1
  · obtain ⟨r, hr', rfl⟩ := in_lt (by omega) c
    obtain ⟨l, l1, l2, l3, l4, l5⟩ := hS r hr'
    rw [eS, if_pos c, xb1, if_neg (show ¬ (1 : Int32) = 0 by decide), c_has4 hk hr', xb1, if_neg (show ¬ (1 : Int32) = 0 by decide), s1, s2, xb1, xb1]
    by_cases z : n = 0
    · rw [if_pos z, if_pos rfl]
      exact ⟨_, _, _, _, _, _, a, _, _, _, _, _, _, _, _, _, _, _, _, _, rfl, rfl, h, by omega⟩
    · rw [if_neg z, if_neg n10, if_neg n10, c_stepsOf hk hr' l3, xb1]
      unfold F_X8_goSteps
      have h0 : PfR n a l rf 0 ((0 : Int32), f, P, ac, oc, sh, lo, bk, hr, nI nx, nI hd, rf) ((0 : Int32), g, sx, sy, as, ou, A, tk, kp, nI hd) := ⟨_, _, _, _, _, a, hd, nx, _, _, _, _, _, _, _, _, _, _, _, rfl, rfl, h, by omega, by omega⟩
      obtain ⟨u, t, x1, x2, i, y1, y2, ac1, oc1, as1, ou1, tk1, a1, hd1, nx1, f1, g1, bk1, hr1, kp1, P1, A1, sh1, lo1, sx1, sy1, y3, y4, y5, y6, y7⟩ := lp_two (b := fun u9 : Int32 × (Nat → Int32) × (Nat → Int32) × Int32 × Int32 × (Nat → Int32) × (Nat → Int32) × (Nat → Int32) × (Nat → Int32) × Int32 × Int32 × (Nat → Int32) => B_X7_perform_34 K (nI r) (nI k) st co (nI l) u9.1 u9.2.1 u9.2.2.1 u9.2.2.2.1 u9.2.2.2.2.1 u9.2.2.2.2.2.1 u9.2.2.2.2.2.2.1 u9.2.2.2.2.2.2.2.1 u9.2.2.2.2.2.2.2.2.1 u9.2.2.2.2.2.2.2.2.2.1 u9.2.2.2.2.2.2.2.2.2.2.1 u9.2.2.2.2.2.2.2.2.2.2.2) (d := fun u9 : Int32 × (Nat → Int32) × (Nat → Int32) × (Nat → Int32) × Int32 × Int32 × (Nat → Int32) × Int32 × (Nat → Int32) × Int32 => B_X8_goSteps_2 K (nI r) 1 (nI n) sc lg u9.1 u9.2.1 u9.2.2.1 u9.2.2.2.1 u9.2.2.2.2.1 u9.2.2.2.2.2.1 u9.2.2.2.2.2.2.1 u9.2.2.2.2.2.2.2.1 u9.2.2.2.2.2.2.2.2.1 u9.2.2.2.2.2.2.2.2.2) (PfR n a l rf) (PfQ n a l rf) (n := l) (K := K) (K' := K) (by omega) (by omega) (fun i s t hi q => (PfR.step hK ha hk hr' hS hkd l3 l4 l2 q).imp (fun w => w.2) id) (fun s t q => (PfR.step hK ha hk hr' hS hkd l3 l4 l2 q).elim (fun w => absurd w.1 (Nat.lt_irrefl _)) id) h0
      obtain ⟨t1, u2⟩ := u
      obtain ⟨t2, t3⟩ := t
      have y1 : t1 = t2 := y1
      have y3 : u2 = _ := y3
      have y4 : t3 = _ := y4
      subst y1 y3 y4
      have y2 : t1 = 0 ∨ (t1 = 1 ∧ i = l) := y2
      rw [x1, x2]
      rcases y2 with y2 | ⟨y2, y8⟩
      · rw [y2]
        exact ⟨_, _, _, _, _, _, a1, _, _, _, _, _, _, _, _, _, _, _, _, _, rfl, rfl, y5, by omega⟩
      · rw [y2]
        refine ⟨nI l, ac1, oc1, as1, ou1, tk1, a1, hd1, nx1, f1, g1, bk1, hr1, kp1, P1, A1, sh1, lo1, sx1, sy1, rfl, ?_, y5, by omega⟩
        rw [xb11, if_neg (show ¬ (1 : Nat) = 0 by decide), if_pos rfl, xixn (by omega) (by decide), nI_clamp (by omega), l4]
        rfl
  · have c7 : F_X4_has x (nI k) = some 0 := by
      unfold F_X4_has
      by_cases b1 : x < 0
      · rw [if_pos b1]
      · rw [if_neg b1, if_pos]
        refine Decidable.byContradiction (fun b2 => ?_)
        obtain ⟨w, hw, rfl⟩ := nnI (n := k) (by omega) b1 b2
        apply c
        rw [show nI k - (1 : Int32) = nI (k - 1) from xsub (b := 1) (by omega)]
        exact ⟨nI_nn (by omega), (nI_leI (a := w) (b := k - 1) (by omega) (by omega)).mpr (by omega)⟩
    rw [eS, if_neg c, xb1, if_pos rfl, c7, xb1, if_pos rfl]
    exact ⟨_, _, _, _, _, _, a, _, _, _, _, _, _, _, _, _, _, _, _, _, rfl, rfl, h, by omega⟩
