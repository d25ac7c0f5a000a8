/-! Stage B, 29: a way, in both -/
theorem mv_I {n i : Nat} {g g1 : Nat → Int32} {b c : Int32} (n8 : n ≤ 8) (hI : RowI n g) (hi : i < n) (x1 : inR (g (0 + i) + b)) (x2 : inR (g (8 + i) + c)) (G : RowG g1) (fr : ∀ k, (k < 16 ∨ 48 ≤ k) → ¬ k = 68 → ¬ k = 69 → ¬ k = 70 → ¬ k = 71 → ¬ k = 72 → g1 k = mvG i b c g k) : RowI n g1 := by
  obtain ⟨hX, hF, hC⟩ := hI.2 (by omega)
  have fr2 : ∀ k, 16 ≤ k → mvG i b c g k = g k := fun k hk => by
    unfold mvG
    rw [upd_ne (by omega), upd_ne (by omega)]
  refine ⟨G, fun _ => ⟨fun j hj => ?_, fun j hj => ?_, hC.of n8 (fun k hk => ?_)⟩⟩
  · rw [fr (0 + j) (by omega) (by omega) (by omega) (by omega) (by omega) (by omega), fr (8 + j) (by omega) (by omega) (by omega) (by omega) (by omega) (by omega)]
    unfold mvG
    by_cases e : j = i
    · rw [e, upd_ne (show ¬ 0 + i = 8 + i by omega), upd_at, upd_at, upd_ne (show ¬ 8 + i = 0 + i by omega)]
      exact ⟨x1, x2⟩
    · rw [upd_ne (by omega), upd_ne (by omega), upd_ne (by omega), upd_ne (by omega)]
      exact hX j hj
  · rw [fr (76 + j) (by omega) (by omega) (by omega) (by omega) (by omega) (by omega), fr2 _ (by omega)]
    exact hF j hj
  · rw [fr k (by omega) (by omega) (by omega) (by omega) (by omega) (by omega), fr2 _ (by omega)]
theorem RowR.m11 {n : Nat} {f g : Nat → Int32} (h : RowR n f g) (v : Int32) : RowR n (upd f 11 v) g := by
  have := h.fr11 v (g 67)
  rw [row_self] at this
  exact this
theorem sub_addc {a b r : Int32} : a - b + r = a + r - b := by rw [Int32.sub_eq_add_neg, Int32.sub_eq_add_neg, Int32.add_assoc, Int32.add_comm (-b) r, ← Int32.add_assoc]
abbrev WwX : Type := Int32 × Int32 × (Nat → Int32) × (Nat → Int32) × Int32 × Int32 × (Nat → Int32) × (Nat → Int32)
abbrev WwM : Type := Int32 × Int32 × (Nat → Int32) × (Nat → Int32) × (Nat → Int32) × Int32 × Int32 × (Nat → Int32)
def WwR (n : Nat) (f g : Nat → Int32) (j : Nat) (s : WwX) (t : WwM) : Prop := ∃ (ac oc as ou : Int32) (q w P A sh lo sx sy : Nat → Int32), s = (nI j, nI j, q, P, ac, oc, sh, lo) ∧ t = (q 11 - f 11, nI j, w, sx, sy, as, ou, A) ∧ RowR n q w ∧ RowI n w ∧ ∀ k, 84 ≤ k → w k = g k
def WwQ (n : Nat) (f g : Nat → Int32) (r : Int32 × (Nat → Int32) × (Nat → Int32) × Int32 × Int32 × (Nat → Int32) × (Nat → Int32)) (u : WwM) : Prop := ∃ j, WwR n f g j (r.1, nI j, r.2) u
theorem WwR.step {n j m K : Nat} {f g : Nat → Int32} {x y z : Int32} {s : WwX} {t : WwM} (hK : 200000 ≤ K) (hm : m ≤ 99) (hj : j < m) (q : WwR n f g j s t) : (∃ s' t', B_X7_walk_47 K x y z (nI m) s.1 s.2.1 s.2.2.1 s.2.2.2.1 s.2.2.2.2.1 s.2.2.2.2.2.1 s.2.2.2.2.2.2.1 s.2.2.2.2.2.2.2 = some (.inl s') ∧ B_X8_walk_49 K x y z (nI m) (nI n) t.1 t.2.1 t.2.2.1 t.2.2.2.1 t.2.2.2.2.1 t.2.2.2.2.2.1 t.2.2.2.2.2.2.1 t.2.2.2.2.2.2.2 = some (.inl t') ∧ WwR n f g (j + 1) s' t') ∨ (∃ r u, B_X7_walk_47 K x y z (nI m) s.1 s.2.1 s.2.2.1 s.2.2.2.1 s.2.2.2.2.1 s.2.2.2.2.2.1 s.2.2.2.2.2.2.1 s.2.2.2.2.2.2.2 = some (.inr r) ∧ B_X8_walk_49 K x y z (nI m) (nI n) t.1 t.2.1 t.2.2.1 t.2.2.2.1 t.2.2.2.2.1 t.2.2.2.2.2.1 t.2.2.2.2.2.2.1 t.2.2.2.2.2.2.2 = some (.inr u) ∧ WwQ n f g r u) := by
  obtain ⟨ac, oc, as, ou, q, w, P, A, sh, lo, sx, sy, rfl, rfl, h, hI, fr0⟩ := q
  have n8 := h.n8
  show (∃ s' t', B_X7_walk_47 K x y z (nI m) (nI j) (nI j) q P ac oc sh lo = some (.inl s') ∧ B_X8_walk_49 K x y z (nI m) (nI n) (q 11 - f 11) (nI j) w sx sy as ou A = some (.inl t') ∧ WwR n f g (j + 1) s' t') ∨ (∃ r u, B_X7_walk_47 K x y z (nI m) (nI j) (nI j) q P ac oc sh lo = some (.inr r) ∧ B_X8_walk_49 K x y z (nI m) (nI n) (q 11 - f 11) (nI j) w sx sy as ou A = some (.inr u) ∧ WwQ n f g r u)
  obtain ⟨r, e1, e2, e3, e4⟩ := rf_both (s := 0) (S := 0) (a := x) (b := y) (c := z) rfl (by decide) hK h hI.x
  rw [wm_of] at e2
  have lm : ¬ nI m ≤ nI j := mt (nI_leI (a := m) (b := j) (by omega) (by omega)).mp (by omega)
  unfold B_X7_walk_47 B_X8_walk_49
  rw [if_neg lm, if_neg lm, e1, e2, xb1, xb1]
  by_cases c : r = -1
  · obtain ⟨i, hi, rfl, -, -, x1, x2, -⟩ := (e4 c).2.1 rfl
    obtain ⟨mm, o, a, f1, g1, P1, A1, sh1, lo1, sx1, sy1, d1, d2, ha, hPA, R, G, -, fr⟩ := mv_both (x := y) (y := z) (P := P) (A := A) (sh := sh) (lo := lo) (sx := sx) (sy := sy) (ac := ac) (oc := oc) (as := as) (ou := ou) hK h hI.1 hi
    have f11 : f1 11 = q 11 := by
      obtain ⟨p, ep, hp⟩ := e_moveSite (p1 := nI i) (p2 := y) (p3 := z) (ac := ac) (oc := oc) (f := q) (pa := P) (sh := sh) (lo := lo) hK ⟨n, n8, h.sz⟩
      rw [d1] at ep
      rw [← Option.some.inj ep] at hp
      exact hp.2.2
    have frk : ∀ k, 84 ≤ k → g1 k = g k := fun k hk => by
      rw [fr k (by omega) (by omega) (by omega) (by omega) (by omega) (by omega)]
      unfold mvG
      rw [upd_ne (by omega), upd_ne (by omega)]
      exact fr0 k hk
    unfold F_X5_doAct
    rw [if_pos c, if_pos c, if_pos rfl, d1, xb7, xnm, xb7, d2, xb7, nI_1]
    refine Or.inl ⟨_, _, rfl, rfl, nI a, o, nI a, o, upd f1 11 (f1 11 + mm), g1, P1, A1, sh1, lo1, sx1, sy1, rfl, ?_, R.m11 _, mv_I n8 hI hi x1 x2 G fr, frk⟩
    rw [upd_at, f11, sub_addc]
  · rw [if_neg c, if_neg c]
    exact Or.inr ⟨_, _, rfl, rfl, j, _, _, _, _, q, w, _, _, _, _, _, _, rfl, rfl, h, hI, fr0⟩
/-- a way -/
theorem p_walk {n K : Nat} {f g tr P A sh lo sx sy asd : Nat → Int32} {x y z w v ac oc as ou : Int32} (hK : 200000 ≤ K) (h : RowR n f g) (hI : RowI n g) : ∃ (r ac' oc' as' ou' : Int32) (tr' P' A' sh' lo' sx' sy' asd' : Nat → Int32), F_X7_walk K x y z w v f tr P ac oc sh lo = some (r, tr', P', ac', oc', sh', lo') ∧ F_X8_walk K x y z w v g (nI n) sx sy as ou A asd = some (r, g, sx', sy', as', ou', A', asd') := by
  have n8 := h.n8
  obtain ⟨r, e1, e2, e3, e4⟩ := rf_both (s := 0) (S := 0) (a := x) (b := y) (c := z) rfl (by decide) hK h hI.x
  rw [wm_of] at e2
  have ei : F_X8_in w.toInt64 (1 : Int64) (99 : Int64) = some (if (1 : Int32) ≤ w ∧ w ≤ (99 : Int32) then 1 else 0) := by
    rw [show (1 : Int64) = (1 : Int32).toInt64 from rfl, show (99 : Int64) = (99 : Int32).toInt64 by decide, m_inI]
  unfold F_X7_walk F_X8_walk
  rw [rng_c, e1, e2, xb1, xb1, ei, xb1, ite10, m_in0 (m := 2) (by decide), xb1, ite10]
  by_cases c : r = -1
  · rw [if_pos c, if_pos c]
    by_cases d : (1 : Int32) ≤ w ∧ w ≤ (99 : Int32)
    · obtain ⟨m, hm, rfl⟩ := in_nat (p := w) (n := 99) (by decide) ⟨Int32.le_trans (by decide) d.1, d.2⟩
      have h2 : RowR n (va_cpy f tr 0 0 81) g := h.cg (fun k hk => by rw [gcpy_at hk, Nat.zero_add]) (fun k hk => rfl)
      have t11 : (va_cpy f tr 0 0 81) 11 = f 11 := by rw [gcpy_at (by decide), Nat.zero_add]
      have hz : WwR n f g 0 ((0 : Int32), (0 : Int32), va_cpy f tr 0 0 81, P, ac, oc, sh, lo) ((0 : Int32), (0 : Int32), g, sx, sy, as, ou, A) := ⟨ac, oc, as, ou, va_cpy f tr 0 0 81, g, P, A, sh, lo, sx, sy, rfl, by rw [t11, Int32.sub_self]; rfl, h2, hI, fun _ _ => rfl⟩
      have he : ∀ s t, WwR n f g m s t → ∃ r u, (fun u9 : Int32 × Int32 × (Nat → Int32) × (Nat → Int32) × Int32 × Int32 × (Nat → Int32) × (Nat → Int32) => B_X7_walk_47 K x y z (nI m) u9.1 u9.2.1 u9.2.2.1 u9.2.2.2.1 u9.2.2.2.2.1 u9.2.2.2.2.2.1 u9.2.2.2.2.2.2.1 u9.2.2.2.2.2.2.2) s = some (.inr r) ∧ (fun u9 : Int32 × Int32 × (Nat → Int32) × (Nat → Int32) × (Nat → Int32) × Int32 × Int32 × (Nat → Int32) => B_X8_walk_49 K x y z (nI m) (nI n) u9.1 u9.2.1 u9.2.2.1 u9.2.2.2.1 u9.2.2.2.2.1 u9.2.2.2.2.2.1 u9.2.2.2.2.2.2.1 u9.2.2.2.2.2.2.2) t = some (.inr u) ∧ WwQ n f g r u := by
        intro s t q
        obtain ⟨ac, oc, as, ou, q, w, P, A, sh, lo, sx, sy, rfl, rfl, h, hI, fr0⟩ := q
        have le : nI m ≤ nI m := (nI_leI (a := m) (b := m) (by omega) (by omega)).mpr (Nat.le_refl _)
        refine ⟨(nI m, q, P, ac, oc, sh, lo), (q 11 - f 11, nI m, w, sx, sy, as, ou, A), ?_, ?_, m, _, _, _, _, q, w, _, _, _, _, _, _, rfl, rfl, h, hI, fr0⟩
        · show B_X7_walk_47 K x y z (nI m) (nI m) (nI m) q P ac oc sh lo = _
          unfold B_X7_walk_47
          rw [if_pos le]
        · show B_X8_walk_49 K x y z (nI m) (nI n) (q 11 - f 11) (nI m) w sx sy as ou A = _
          unfold B_X8_walk_49
          rw [if_pos le]
      obtain ⟨u, t, l1, l2, j, ac1, oc1, as1, ou1, q1, w1, P1, A1, sh1, lo1, sx1, sy1, y3, y4, R, I1, fr⟩ := lp_two (WwR n f g) (WwQ n f g) (n := m) (K := K) (K' := K) (by omega) (by omega) (fun i s t hi q => WwR.step hK (by omega) hi q) he hz
      have y5 : u = (nI j, q1, P1, ac1, oc1, sh1, lo1) := congrArg (fun w : WwX => (w.1, w.2.2)) y3
      rw [if_pos d, if_pos d, c_cpF, xb1, l1, m_aside hK, xb1, l2, y5, y4, xb7, xb8]
      unfold J_X7_walk_90 J_X8_walk_85
      rw [m_bring hK fr, xb1, aside_at (by decide), show q1 12 = w1 68 from R.sc (12, 68) (by decide), show f 12 = g 68 from h.sc (12, 68) (by decide)]
      by_cases b : 0 ≤ v ∧ v ≤ nI 2
      · obtain ⟨k, hk, rfl⟩ := in_nat (n := 2) (by decide) b
        rw [if_pos b]
        rcases (show k = 0 ∨ k = 1 ∨ k = 2 by omega) with rfl | rfl | rfl
        · rw [if_pos (by decide), if_pos (by decide)]
          exact ⟨_, _, _, _, _, _, _, _, _, _, _, _, _, rfl, rfl⟩
        · rw [if_neg (by decide), if_pos (by decide), if_neg (by decide), if_pos (by decide)]
          exact ⟨_, _, _, _, _, _, _, _, _, _, _, _, _, rfl, rfl⟩
        · rw [if_neg (by decide), if_neg (by decide), if_pos (by decide), if_neg (by decide), if_neg (by decide)]
          exact ⟨_, _, _, _, _, _, _, _, _, _, _, _, _, rfl, rfl⟩
      · have q := not_of b
        rw [if_neg b, if_neg (show ¬ v = (0 : Int32) from q 0 (by decide) (by decide)), if_neg (show ¬ v = (1 : Int32) from q 1 (by decide) (by decide)), if_neg (show ¬ v = (2 : Int32) from q 2 (by decide) (by decide))]
        exact ⟨_, _, _, _, _, _, _, _, _, _, _, _, _, rfl, rfl⟩
    · rw [if_neg d, if_neg d]
      exact ⟨_, _, _, _, _, _, _, _, _, _, _, _, _, rfl, rfl⟩
  · rw [if_neg c, if_neg c]
    refine ⟨-1, ac, oc, _, _, tr, P, _, sh, lo, _, _, _, ?_, rfl⟩
    split <;> rfl
