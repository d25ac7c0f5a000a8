/-! Stage B, 28: what would be, in both: nothing of it stays -/
theorem lp_twoXNA {σ τ ρ υ : Type} {b : σ → Option (σ ⊕ ρ)} {d : τ → Option (τ ⊕ υ)} (M : Nat) (R : Nat → σ → τ → Prop) (Q : ρ → υ → Prop) {n : Nat} (hs : ∀ i s t, i ≤ n → R i s t → (i < n ∧ ∃ s' t', b s = some (.inl s') ∧ d t = some (.inl t') ∧ R (i + 1) s' t') ∨ (∃ r u, b s = some (.inr r) ∧ (∀ J, M ≤ J → lpF d J t = some u) ∧ Q r u)) : ∀ (k i : Nat) (s : σ) (t : τ) (K K' : Nat), i + k = n → k < K → k + M < K' → R i s t → ∃ r u, lpF b K s = some r ∧ lpF d K' t = some u ∧ Q r u := by
  intro k
  induction k with
  | zero =>
    intro i s t K K' h1 h2 h3 h4
    obtain ⟨K2, rfl⟩ : ∃ K2, K = K2 + 1 := ⟨K - 1, by omega⟩
    rcases hs i s t (by omega) h4 with ⟨hlt, -⟩ | ⟨r, u, e1, e2, q⟩
    · omega
    · exact ⟨r, u, lp_end e1, e2 K' (by omega), q⟩
  | succ k ih =>
    intro i s t K K' h1 h2 h3 h4
    obtain ⟨K2, rfl⟩ : ∃ K2, K = K2 + 1 := ⟨K - 1, by omega⟩
    rcases hs i s t (by omega) h4 with ⟨-, s', t', e1, e2, q⟩ | ⟨r, u, e1, e2, q⟩
    · obtain ⟨K3, rfl⟩ : ∃ K3, K' = K3 + 1 := ⟨K' - 1, by omega⟩
      rw [lp_one e1, lp_one e2]
      exact ih (i + 1) s' t' K2 K3 (by omega) (by omega) (by omega) q
    · exact ⟨r, u, lp_end e1, e2 K' (by omega), q⟩
/-- two loops in step, the second goes on for less than M -/
theorem lp_twoXN {σ τ ρ υ : Type} {b : σ → Option (σ ⊕ ρ)} {d : τ → Option (τ ⊕ υ)} (M : Nat) (R : Nat → σ → τ → Prop) (Q : ρ → υ → Prop) {n K K' : Nat} (hK : n < K) (hK' : n + M < K') (hs : ∀ i s t, i ≤ n → R i s t → (i < n ∧ ∃ s' t', b s = some (.inl s') ∧ d t = some (.inl t') ∧ R (i + 1) s' t') ∨ (∃ r u, b s = some (.inr r) ∧ (∀ J, M ≤ J → lpF d J t = some u) ∧ Q r u)) {s : σ} {t : τ} (h0 : R 0 s t) : ∃ r u, lpF b K s = some r ∧ lpF d K' t = some u ∧ Q r u := lp_twoXNA M R Q hs n 0 s t K K' (by omega) hK hK' h0
theorem m_aside {K : Nat} {g as : Nat → Int32} (hK : 200000 ≤ K) : F_X8_putAside K g as = some (va_cpy g as 0 0 84) := by
  have h : lpF (fun u9 : Int32 × (Nat → Int32) => B_X8_putAside_2 g u9.1 u9.2) K (nI 0, va_cpy g as 0 0 0) = some (va_cpy g as 0 0 84) := by
    refine lp_for (fun j => (nI j, va_cpy g as 0 0 j)) (n := 84) (by omega) (fun j hj => ?_) ?_
    · show B_X8_putAside_2 g (nI j) (va_cpy g as 0 0 j) = some (.inl (nI (j + 1), va_cpy g as 0 0 (j + 1)))
      have e := cpy_st (g := as) (kp := g) (o := 0) (j := j)
      rw [Nat.zero_add] at e
      unfold B_X8_putAside_2
      rw [if_neg (show ¬ (84 : Int32) ≤ nI j from mt (nI_leI (a := 84) (b := j) (by omega) (by omega)).mp (by omega)), xixn (by omega) (by decide), xixn (by omega) (by decide), xnm, nI_clamp (by omega), e, nI_1]
    · show B_X8_putAside_2 g (nI 84) (va_cpy g as 0 0 84) = _
      unfold B_X8_putAside_2
      rw [if_pos (by decide)]
  rw [cpy_0] at h
  unfold F_X8_putAside
  rw [show (0 : Int32) = nI 0 from rfl, h, xb1]
/-- what was put aside is brought back -/
theorem m_bring {K : Nat} {g w as : Nat → Int32} (hK : 200000 ≤ K) (hw : ∀ k, 84 ≤ k → w k = g k) : F_X8_bringBack K w (va_cpy g as 0 0 84) = some g := by
  have h : lpF (fun u9 : Int32 × (Nat → Int32) => B_X8_bringBack_2 (va_cpy g as 0 0 84) u9.1 u9.2) K (nI 0, va_cpy (va_cpy g as 0 0 84) w 0 0 0) = some (va_cpy (va_cpy g as 0 0 84) w 0 0 84) := by
    refine lp_for (fun j => (nI j, va_cpy (va_cpy g as 0 0 84) w 0 0 j)) (n := 84) (by omega) (fun j hj => ?_) ?_
    · show B_X8_bringBack_2 (va_cpy g as 0 0 84) (nI j) (va_cpy (va_cpy g as 0 0 84) w 0 0 j) = some (.inl (nI (j + 1), va_cpy (va_cpy g as 0 0 84) w 0 0 (j + 1)))
      have e := cpy_st (g := w) (kp := va_cpy g as 0 0 84) (o := 0) (j := j)
      rw [Nat.zero_add] at e
      unfold B_X8_bringBack_2
      rw [if_neg (show ¬ (84 : Int32) ≤ nI j from mt (nI_leI (a := 84) (b := j) (by omega) (by omega)).mp (by omega)), xixn (by omega) (by decide), xixn (by omega) (by decide), xnm, nI_clamp (by omega), e, nI_1]
    · show B_X8_bringBack_2 (va_cpy g as 0 0 84) (nI 84) (va_cpy (va_cpy g as 0 0 84) w 0 0 84) = _
      unfold B_X8_bringBack_2
      rw [if_pos (by decide)]
  rw [cpy_0] at h
  have e : va_cpy (va_cpy g as 0 0 84) w 0 0 84 = g := by
    funext k
    by_cases c : k < 84
    · rw [gcpy_at c, Nat.zero_add, gcpy_at c, Nat.zero_add]
    · rw [pk_cpy_out (by omega)]
      exact hw k (by omega)
  rw [e] at h
  unfold F_X8_bringBack
  rw [show (0 : Int32) = nI 0 from rfl, h, xb1]
theorem aside_at {g as : Nat → Int32} {k : Nat} (h : k < 84) : va_cpy g as 0 0 84 k = g k := by rw [gcpy_at h, Nat.zero_add]
/-- a move that is tried -/
theorem tm_both {n i K : Nat} {f g tr P A sh lo sx sy : Nat → Int32} {x y ac oc as ou : Int32} (hK : 200000 ≤ K) (h : RowR n f g) (hg : RowG g) (hi : i < n) : ∃ (r o : Int32) (a : Nat) (f' g' P' A' sh' lo' sx' sy' : Nat → Int32), F_X7_tryMove K (nI i) x y f tr P ac oc sh lo = some (r, f', P', nI a, o, sh', lo') ∧ F_X8_movesNow K (nI i) x y g (nI n) sx sy as ou A = some (r, g', sx', sy', nI a, o, A') ∧ a < 8 ∧ (∀ j, j < a → P' j = A' j) ∧ ∀ k, 84 ≤ k → g' k = g k := by
  have n8 := h.n8
  have h2 : RowR n (va_cpy f tr 0 0 81) g := h.cg (fun k hk => by rw [gcpy_at hk, Nat.zero_add]) (fun k hk => rfl)
  obtain ⟨r, o, a, f1, g1, P1, A1, sh1, lo1, sx1, sy1, e1, e2, ha, hPA, -, -, -, fr⟩ := mv_both (x := x) (y := y) (P := P) (A := A) (sh := sh) (lo := lo) (sx := sx) (sy := sy) (ac := ac) (oc := oc) (as := as) (ou := ou) hK h2 hg hi
  unfold F_X7_tryMove F_X5_doAct
  rw [c_cpF, xb1, if_pos rfl, e1, xb7, xnm]
  refine ⟨r, o, a, _, g1, P1, A1, sh1, lo1, sx1, sy1, rfl, e2, ha, hPA, fun k hk => ?_⟩
  rw [fr k (by omega) (by omega) (by omega) (by omega) (by omega) (by omega)]
  unfold mvG
  rw [upd_ne (by omega), upd_ne (by omega)]
/-- what a move would come to -/
theorem p_would {n K : Nat} {f g tr P A sh lo sx sy asd : Nat → Int32} {x y z w ac oc as ou : Int32} (hK : 200000 ≤ K) (h : RowR n f g) (hI : RowI n g) : ∃ (v ac' oc' as' ou' : Int32) (tr' P' A' sh' lo' sx' sy' asd' : Nat → Int32), F_X7_would K x y z w f tr P ac oc sh lo = some (v, tr', P', ac', oc', sh', lo') ∧ F_X8_would K x y z w g (nI n) sx sy as ou A asd = some (v, g, sx', sy', as', ou', A', asd') := by
  have n8 := h.n8
  obtain ⟨r, e1, e2, e3, e4⟩ := rf_both (s := 0) (S := 0) (a := x) (b := y) (c := z) rfl (by decide) hK h hI.x
  rw [wm_of] at e2
  unfold F_X7_would F_X8_would
  rw [e1, e2, xb1, xb1]
  by_cases c : r = -1
  · obtain ⟨i, hi, rfl, -⟩ := (e4 c).2.1 rfl
    obtain ⟨m, o, a, f1, g1, P1, A1, sh1, lo1, sx1, sy1, t1, t2, ha, hPA, fr⟩ := tm_both (tr := tr) (P := P) (A := A) (sh := sh) (lo := lo) (sx := sx) (sy := sy) (x := y) (y := z) (ac := ac) (oc := oc) (as := as) (ou := ou) hK h hI.1 hi
    rw [if_pos c, if_pos c, t1, xb7, m_in0 (m := 2) (by decide), xb1, ite10, m_aside hK, xb1, t2, xb7, m_bring hK fr, xb1]
    by_cases d : 0 ≤ w ∧ w ≤ nI 2
    · rw [if_pos d]
      obtain ⟨k, hk, rfl⟩ := in_nat (n := 2) (by decide) d
      rcases (show k = 0 ∨ k = 1 ∨ k = 2 by omega) with rfl | rfl | rfl
      · rw [if_pos (by decide), if_pos (by decide)]
        exact ⟨_, _, _, _, _, _, _, _, _, _, _, _, _, rfl, rfl⟩
      · rw [if_neg (by decide), if_pos (by decide), if_neg (by decide), if_pos (by decide)]
        exact ⟨_, _, _, _, _, _, _, _, _, _, _, _, _, rfl, rfl⟩
      · rw [if_neg (by decide), if_neg (by decide), if_pos (by decide), if_neg (by decide), if_neg (by decide)]
        exact ⟨_, _, _, _, _, _, _, _, _, _, _, _, _, rfl, rfl⟩
    · have q := not_of d
      rw [if_neg d, if_neg (show ¬ w = (0 : Int32) from q 0 (by decide) (by decide)), if_neg (show ¬ w = (1 : Int32) from q 1 (by decide) (by decide)), if_neg (show ¬ w = (2 : Int32) from q 2 (by decide) (by decide))]
      exact ⟨_, _, _, _, _, _, _, _, _, _, _, _, _, rfl, rfl⟩
  · rw [if_neg c, if_neg c]
    exact ⟨_, _, _, _, _, _, _, _, _, _, _, _, _, rfl, rfl⟩
/-- whom a move would ask -/
theorem p_asked {n K : Nat} {f g tr P A sh lo sx sy asd : Nat → Int32} {x y z w ac oc as ou : Int32} (hK : 200000 ≤ K) (h : RowR n f g) (hI : RowI n g) : ∃ (v ac' oc' as' ou' : Int32) (tr' P' A' sh' lo' sx' sy' asd' : Nat → Int32), F_X7_asked K x y z w f tr P ac oc sh lo = some (v, tr', P', ac', oc', sh', lo') ∧ F_X8_asked K x y z w g (nI n) sx sy as ou A asd = some (v, g, sx', sy', as', ou', A', asd') := by
  have n8 := h.n8
  obtain ⟨r, e1, e2, e3, e4⟩ := rf_both (s := 0) (S := 0) (a := x) (b := y) (c := z) rfl (by decide) hK h hI.x
  rw [wm_of] at e2
  unfold F_X7_asked F_X8_asked F_X8_would
  rw [e1, e2, xb1, xb1]
  by_cases c : r = -1
  · obtain ⟨i, hi, rfl, -⟩ := (e4 c).2.1 rfl
    obtain ⟨m, o, a, f1, g1, P1, A1, sh1, lo1, sx1, sy1, t1, t2, ha, hPA, fr⟩ := tm_both (tr := tr) (P := P) (A := A) (sh := sh) (lo := lo) (sx := sx) (sy := sy) (x := y) (y := z) (ac := ac) (oc := oc) (as := as) (ou := ou) hK h hI.1 hi
    have i1 : F_X8_in (1 : Int32).toInt64 (0 : Int64) (2 : Int64) = some 1 := by decide
    have ei : F_X8_in w.toInt64 (0 : Int64) ((nI a - (1 : Int32)).toInt64) = some (if 0 ≤ w ∧ w ≤ nI a - 1 then 1 else 0) := by
      rw [show (0 : Int64) = (0 : Int32).toInt64 from rfl, m_inI]
    rw [if_pos c, if_pos c, t1, xb7, i1, xb1, if_neg n10, m_aside hK, xb1, t2, xb7, m_bring hK fr, xb1, if_neg n10, if_pos rfl, xb8, if_neg (nI_ne_m1 (by omega)), ei, xb1, ite10]
    by_cases d : 0 ≤ w ∧ w ≤ nI a - 1
    · rw [if_pos d]
      obtain ⟨k, hk, rfl⟩ := in_lt (by omega) d
      rw [if_neg (nn0 (by omega)), if_neg (mt (nI_leI (a := a) (b := k) (by omega) (by omega)).mp (by omega)), if_neg (show ¬ (8 : Int32) ≤ nI k from mt (nI_leI (a := 8) (b := k) (by omega) (by omega)).mp (by omega)), xixn (by omega) (by decide), xixn (by omega) (by decide), nI_clamp (by omega), hPA k hk]
      exact ⟨_, _, _, _, _, _, _, _, _, _, _, _, _, rfl, rfl⟩
    · rw [if_neg d]
      refine ⟨-1, nI a, o, _, _, f1, P1, _, sh1, lo1, _, _, _, ?_, rfl⟩
      by_cases b1 : w < 0
      · rw [if_pos b1]
      · rw [if_neg b1, if_pos]
        refine Decidable.byContradiction (fun b2 => ?_)
        obtain ⟨k, hk, rfl⟩ := nnI (n := a) (by omega) b1 b2
        apply d
        rw [show nI a - (1 : Int32) = nI (a - 1) from xsub (b := 1) (by omega)]
        exact ⟨nI_nn (by omega), (nI_leI (a := k) (b := a - 1) (by omega) (by omega)).mpr (by omega)⟩
  · rw [if_neg c, if_neg c, xb8, if_pos rfl]
    exact ⟨_, _, _, _, _, _, _, _, _, _, _, _, _, rfl, rfl⟩
