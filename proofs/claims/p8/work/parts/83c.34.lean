/-! Stage B, 34: one after the other is added to a site, till the goal is reached -/
theorem gpx0 {σ ρ : Type} {b : σ → Option (σ ⊕ ρ)} {K : Nat} {u0 : σ} {r : ρ} (hK : 0 < K) (h0 : b u0 = some (.inr r)) : lpF b K u0 = some r := by
  obtain ⟨J, rfl⟩ : ∃ J, K = J + 1 := ⟨K - 1, by omega⟩
  exact lp_end h0
theorem gpx1 {σ ρ : Type} {b : σ → Option (σ ⊕ ρ)} {K : Nat} {u0 u1 : σ} {r : ρ} (hK : 1 < K) (h0 : b u0 = some (.inl u1)) (h1 : b u1 = some (.inr r)) : lpF b K u0 = some r := by
  obtain ⟨J, rfl⟩ : ∃ J, K = J + 1 + 1 := ⟨K - 2, by omega⟩
  exact (lp_one h0).trans (lp_end h1)
theorem sgm_at {g : Nat → Int32} {i : Nat} {d : Int32} : ∀ n, i < n → sgm (fun j => upd g (48 + i) (g (48 + i) + d) (48 + j)) n = sgm (fun j => g (48 + j)) n + d := by
  intro n
  induction n with
  | zero => exact fun h => absurd h (Nat.not_lt_zero _)
  | succ m ih =>
    intro hi
    show sgm (fun j => upd g (48 + i) (g (48 + i) + d) (48 + j)) m + upd g (48 + i) (g (48 + i) + d) (48 + m) = sgm (fun j => g (48 + j)) m + g (48 + m) + d
    by_cases e : i = m
    · subst e
      have E : sgm (fun j => upd g (48 + i) (g (48 + i) + d) (48 + j)) i = sgm (fun j => g (48 + j)) i := sgm_eq i (fun j hj => upd_ne (by omega))
      rw [upd_at, E]
      exact (Int32.add_assoc _ _ _).symm
    · rw [ih (by omega), upd_ne (show ¬ 48 + m = 48 + i by omega)]
      generalize sgm (fun j => g (48 + j)) m = S
      generalize g (48 + m) = x
      rw [Int32.add_assoc S d x, Int32.add_comm d x, Int32.add_assoc S x d]
/-- the counts of a row, as numbers: goal, known, signals, rest of site i, all counts; the rest as at first -/
def GD (n i G k s r T : Nat) (g0 g : Nat → Int32) : Prop := (∃ f, RowR n f g) ∧ g 66 = nI G ∧ g 73 = nI k ∧ g 75 = nI s ∧ g (56 + i) = nI r ∧ sgm (fun j => g (48 + j)) n = nI T ∧ ∀ j, 84 ≤ j → g j = g0 j
theorem GD.n8 {n i G k s r T : Nat} {g0 g : Nat → Int32} (h : GD n i G k s r T g0 g) : n ≤ 8 := by
  obtain ⟨⟨f, hR⟩, -⟩ := h
  exact hR.n8
theorem GD.stp {n i G k s r T : Nat} {g0 g : Nat → Int32} (h : GD n i G k s r T g0 g) (hG : G < 2 ^ 30) (hk : k < 2 ^ 30) : st n g = (G - k) / (2 * n) := by
  obtain ⟨-, e66, e73, -⟩ := h
  unfold st
  rw [e66, e73, pk_sub_toInt hG hk, show ((G : Int) - k).toNat = G - k by omega]
theorem GD.put {n i G k s r T : Nat} {g0 g : Nat → Int32} (h : GD n i G k s r T g0 g) (hi : i < n) : GD n i G k s r (T + 1) g0 (upd g (48 + i) (g (48 + i) + 1)) := by
  have n8 := h.n8
  obtain ⟨⟨f, hR⟩, e66, e73, e75, e56, eT, fr⟩ := h
  have R1 : RowR n (upd f (17 + 8 * i + 6) (g (48 + i) + 1)) (upd g (48 + i) (g (48 + i) + 1)) := hR.put (c := 6) hi (by decide) (by decide) (by decide) (g (48 + i) + 1)
  exact ⟨⟨_, R1⟩, (upd_ne (by omega)).trans e66, (upd_ne (by omega)).trans e73, (upd_ne (by omega)).trans e75, (upd_ne (by omega)).trans e56, (sgm_at n hi).trans (by rw [eT]; exact nI_1 T), fun j hj => (upd_ne (by omega)).trans (fr j hj)⟩
theorem GD.rest {n i G k s r T : Nat} {g0 g : Nat → Int32} (h : GD n i G k s r T g0 g) (hi : i < n) (q : Nat) : GD n i G k s q T g0 (upd g (56 + i) (nI q)) := by
  have n8 := h.n8
  obtain ⟨⟨f, hR⟩, e66, e73, e75, e56, eT, fr⟩ := h
  have R1 : RowR n (upd f (17 + 8 * i + 7) (nI q)) (upd g (56 + i) (nI q)) := hR.put (c := 7) hi (by decide) (by decide) (by decide) (nI q)
  exact ⟨⟨_, R1⟩, (upd_ne (by omega)).trans e66, (upd_ne (by omega)).trans e73, (upd_ne (by omega)).trans e75, upd_at, (sgm_eq n (fun j hj => upd_ne (by omega))).trans eT, fun j hj => (upd_ne (by omega)).trans (fr j hj)⟩
theorem GD.sig {n i G k s r T : Nat} {g0 g : Nat → Int32} (h : GD n i G k s r T g0 g) (hi : i < n) (q : Nat) : GD n i G k q r T g0 (upd g 75 (nI q)) := by
  have n8 := h.n8
  obtain ⟨⟨f, hR⟩, e66, e73, e75, e56, eT, fr⟩ := h
  have R1 : RowR n (upd f 9 (nI q)) (upd g 75 (nI q)) := hR.scal (by decide) (nI q)
  exact ⟨⟨_, R1⟩, (upd_ne (by omega)).trans e66, (upd_ne (by omega)).trans e73, upd_at, (upd_ne (by omega)).trans e56, (sgm_eq n (fun j hj => upd_ne (by omega))).trans eT, fun j hj => (upd_ne (by omega)).trans (fr j hj)⟩
theorem GD.known {n i G k s r T : Nat} {g0 g : Nat → Int32} (h : GD n i G k s r T g0 g) (hi : i < n) (q : Nat) : GD n i G q s r T g0 (upd g 73 (nI q)) := by
  have n8 := h.n8
  obtain ⟨⟨f, hR⟩, e66, e73, e75, e56, eT, fr⟩ := h
  have R1 : RowR n (upd f 8 (nI q)) (upd g 73 (nI q)) := hR.scal (by decide) (nI q)
  exact ⟨⟨_, R1⟩, (upd_ne (by omega)).trans e66, upd_at, (upd_ne (by omega)).trans e75, (upd_ne (by omega)).trans e56, (sgm_eq n (fun j hj => upd_ne (by omega))).trans eT, fun j hj => (upd_ne (by omega)).trans (fr j hj)⟩
theorem ad_zero {n i G k s r T K : Nat} {g0 g : Nat → Int32} (h : GD n i G k s r T g0 g) (hi : i < n) (hG : G < 2 ^ 30) (hk : k < 2 ^ 30) (hz : (G - k) / (2 * n) = 0) : ∃ g', F_X8_addsNow K (nI i) 1 g (nI n) = some (nI 1, g') ∧ GD n i G (k + 1) s r (T + 1) g0 g' := by
  have n8 := h.n8
  have h1 := h.put hi
  unfold F_X8_addsNow
  rw [bm_ix (a := 48) (by rfl) (by omega), bm_ix (a := 48) (by rfl) (by omega), bm_cl (a := 48) (by rfl) (by omega)]
  simp only [xnm]
  generalize upd g (48 + i) (g (48 + i) + 1) = g1 at h1 ⊢
  have e73 : g1 73 = nI k := h1.2.2.1
  rw [m_step (by omega) n8, xb1, h1.stp hG hk, hz, if_pos (show nI 0 = (0 : Int32) from rfl), e73, nI_1]
  exact ⟨_, rfl, h1.known hi (k + 1)⟩
theorem ad_pre {n i G k s r T K : Nat} {g0 g : Nat → Int32} (h : GD n i G k s r T g0 g) (hi : i < n) (hG : G < 2 ^ 30) (hk : k < 2 ^ 30) (hz : 0 < (G - k) / (2 * n)) : ∃ g2, F_X8_addsNow K (nI i) 1 g (nI n) = bd2 (lpF (fun u9 : Int32 × (Nat → Int32) => B_X8_addsNow_48 K (nI i) (nI n) u9.1 u9.2) K ((0 : Int32), g2)) (fun a b => some (a, b)) ∧ GD n i G k s (r + 1) (T + 1) g0 g2 := by
  have n8 := h.n8
  have h1 := h.put hi
  have lt : (G - k) / (2 * n) < 2 ^ 30 := Nat.lt_of_le_of_lt (Nat.div_le_self _ _) (by omega)
  unfold F_X8_addsNow
  rw [bm_ix (a := 48) (by rfl) (by omega), bm_ix (a := 48) (by rfl) (by omega), bm_cl (a := 48) (by rfl) (by omega)]
  simp only [xnm]
  generalize upd g (48 + i) (g (48 + i) + 1) = g1 at h1 ⊢
  have e56 : g1 (56 + i) = nI r := h1.2.2.2.2.1
  have nz : ¬ nI ((G - k) / (2 * n)) = (0 : Int32) := fun e => by
    have := (nI_eq (a := (G - k) / (2 * n)) (b := 0) (by omega) (by omega)).mp e
    omega
  rw [m_step (by omega) n8, xb1, h1.stp hG hk, if_neg nz, bm_ix (a := 56) (by rfl) (by omega), bm_ix (a := 56) (by rfl) (by omega), bm_cl (a := 56) (by rfl) (by omega), e56, nI_1]
  exact ⟨_, rfl, h1.rest hi (r + 1)⟩
theorem b48_stop {n i G k s r T K : Nat} {x : Int32} {g0 g : Nat → Int32} (h : GD n i G k s r T g0 g) (hi : i < n) (hG : G < 2 ^ 30) (hk : k < 2 ^ 30) (hr : r < (G - k) / (2 * n) ∨ (G - k) / (2 * n) = 0) : B_X8_addsNow_48 K (nI i) (nI n) x g = some (.inr (x, g)) := by
  have n8 := h.n8
  have lt : (G - k) / (2 * n) < 2 ^ 30 := Nat.lt_of_le_of_lt (Nat.div_le_self _ _) (by omega)
  have es : F_X8_step g (nI n) = some (nI ((G - k) / (2 * n))) := by rw [m_step (by omega) n8, h.stp hG hk]
  have e56 : g (56 + i) = nI r := h.2.2.2.2.1
  unfold B_X8_addsNow_48
  simp only [es, xb1, bm_ix (A := (56 : Int32)) (a := 56) rfl (show 56 + i < 265 by omega), bm_cl (A := (56 : Int32)) (a := 56) rfl (show 56 + i < 265 by omega)]
  by_cases z : (G - k) / (2 * n) = 0
  · rw [z, if_pos (show nI 0 ≤ (0 : Int32) by decide)]
  · rw [if_neg (show ¬ nI ((G - k) / (2 * n)) ≤ (0 : Int32) from mt (nI_leI (a := (G - k) / (2 * n)) (b := 0) (by omega) (by omega)).mp (by omega)), e56, if_pos ((nI_ltI (a := r) (b := (G - k) / (2 * n)) (by omega) (by omega)).mpr (by omega))]
theorem b48_go {n i G k s T S K : Nat} {x : Int32} {g0 g : Nat → Int32} (h : GD n i G k s S T g0 g) (hi : i < n) (hG : G < 2 ^ 30) (hk : k < 2 ^ 30) (eS : (G - k) / (2 * n) = S) (hS : 0 < S) : B_X8_addsNow_48 K (nI i) (nI n) x g = if (upd (upd g (56 + i) (nI 0)) 75 (nI (s + 1))) 75 = nI n then bd1 (F_X8_endsRound K (upd (upd g (56 + i) (nI 0)) 75 (nI (s + 1))) (nI n)) (fun w => some (.inl (x + (1 : Int32) + (2 : Int32) * nI n, w))) else some (.inl (x + (1 : Int32), upd (upd g (56 + i) (nI 0)) 75 (nI (s + 1)))) := by
  have n8 := h.n8
  have lt : S < 2 ^ 30 := by rw [← eS]; exact Nat.lt_of_le_of_lt (Nat.div_le_self _ _) (by omega)
  have es : F_X8_step g (nI n) = some (nI S) := by rw [m_step (by omega) n8, h.stp hG hk, eS]
  have e56 : g (56 + i) = nI S := h.2.2.2.2.1
  have e75 : g 75 = nI s := h.2.2.2.1
  unfold B_X8_addsNow_48
  simp only [es, xb1, bm_ix (A := (56 : Int32)) (a := 56) rfl (show 56 + i < 265 by omega), bm_cl (A := (56 : Int32)) (a := 56) rfl (show 56 + i < 265 by omega), xnm]
  rw [if_neg (show ¬ nI S ≤ (0 : Int32) from mt (nI_leI (a := S) (b := 0) (by omega) (by omega)).mp (by omega)), e56, if_neg (show ¬ nI S < nI S from mt (nI_ltI (a := S) (b := S) (by omega) (by omega)).mp (by omega)), xsub (Nat.le_refl S), Nat.sub_self, show (upd g (56 + i) (nI 0)) 75 = nI s from (upd_ne (by omega)).trans e75, nI_1]
/-- one more, no signal yet -/
theorem ad_more {n i G k s r T K : Nat} {g0 g : Nat → Int32} (hK : 200000 ≤ K) (h : GD n i G k s r T g0 g) (hi : i < n) (hG : G < 2 ^ 30) (hk : k < 2 ^ 30) (hr : r + 1 < (G - k) / (2 * n)) : ∃ g', F_X8_addsNow K (nI i) 1 g (nI n) = some (nI 0, g') ∧ GD n i G k s (r + 1) (T + 1) g0 g' := by
  obtain ⟨g2, e, h2⟩ := ad_pre (K := K) h hi hG hk (by omega)
  rw [e, gpx0 (by omega) (show (fun u9 : Int32 × (Nat → Int32) => B_X8_addsNow_48 K (nI i) (nI n) u9.1 u9.2) ((0 : Int32), g2) = some (.inr ((0 : Int32), g2)) from b48_stop h2 hi hG hk (Or.inl hr)), xb2]
  exact ⟨_, rfl, h2⟩
/-- one more, and a signal -/
theorem ad_one {n i G k s r T K : Nat} {g0 g : Nat → Int32} (hK : 200000 ≤ K) (h : GD n i G k s r T g0 g) (hi : i < n) (hG : G < 2 ^ 30) (hk : k < 2 ^ 30) (hr : r + 1 = (G - k) / (2 * n)) (hs : s + 1 < n) : ∃ g', F_X8_addsNow K (nI i) 1 g (nI n) = some (nI 1, g') ∧ GD n i G k (s + 1) 0 (T + 1) g0 g' := by
  have n8 := h.n8
  obtain ⟨g2, e, h2⟩ := ad_pre (K := K) h hi hG hk (by omega)
  have h3 := (h2.rest hi 0).sig hi (s + 1)
  have G0 := b48_go (K := K) (x := 0) h2 hi hG hk hr.symm (by omega)
  rw [upd_at, if_neg (show ¬ nI (s + 1) = nI n from fun q => by
    have := (nI_eq (a := s + 1) (b := n) (by omega) (by omega)).mp q
    omega)] at G0
  rw [e, gpx1 (by omega) (show (fun u9 : Int32 × (Nat → Int32) => B_X8_addsNow_48 K (nI i) (nI n) u9.1 u9.2) ((0 : Int32), g2) = _ from G0) (show (fun u9 : Int32 × (Nat → Int32) => B_X8_addsNow_48 K (nI i) (nI n) u9.1 u9.2) _ = _ from b48_stop h3 hi hG hk (Or.inl (by omega))), xb2]
  exact ⟨_, rfl, h3⟩
/-- one more, a signal, and the round ends -/
theorem ad_end {n i G k s r T K : Nat} {g0 g : Nat → Int32} (hK : 200000 ≤ K) (h : GD n i G k s r T g0 g) (hi : i < n) (hG : G < 2 ^ 30) (hk : k < 2 ^ 30) (hT : T + 1 < 2 ^ 30) (hr : r + 1 = (G - k) / (2 * n)) (hs : s + 1 = n) : ∃ g', F_X8_addsNow K (nI i) 1 g (nI n) = some (nI (1 + 2 * n), g') ∧ GD n i G (T + 1) 0 0 (T + 1) g0 g' := by
  have n8 := h.n8
  obtain ⟨g2, e, h2⟩ := ad_pre (K := K) h hi hG hk (by omega)
  have h3 := (h2.rest hi 0).sig hi (s + 1)
  have G0 := b48_go (K := K) (x := 0) h2 hi hG hk hr.symm (by omega)
  rw [upd_at, if_pos (show nI (s + 1) = nI n by rw [hs])] at G0
  generalize upd (upd g2 (56 + i) (nI 0)) 75 (nI (s + 1)) = g3 at G0 h3
  obtain ⟨⟨f3, R3⟩, e66, e73, e75, e56, eT, fr⟩ := h3
  obtain ⟨f4, g4, -, q2, R4, q4, q5, q6, q7⟩ := er_both hK R3
  have h4 : GD n i G (T + 1) 0 0 (T + 1) g0 g4 := ⟨⟨f4, R4⟩, (q4 66 (by omega) (by decide) (by decide) (by decide)).trans e66, q5.trans eT, q6, q7 i hi, (sgm_eq n (fun j hj => q4 (48 + j) (by omega) (by omega) (by omega) (by omega))).trans eT, fun j hj => (q4 j (by omega) (by omega) (by omega) (by omega)).trans (fr j hj)⟩
  rw [q2, xb1] at G0
  have hz : 0 < (G - (T + 1)) / (2 * n) ∨ (G - (T + 1)) / (2 * n) = 0 := (Nat.eq_zero_or_pos _).symm
  rw [e, gpx1 (by omega) (show (fun u9 : Int32 × (Nat → Int32) => B_X8_addsNow_48 K (nI i) (nI n) u9.1 u9.2) ((0 : Int32), g2) = _ from G0) (show (fun u9 : Int32 × (Nat → Int32) => B_X8_addsNow_48 K (nI i) (nI n) u9.1 u9.2) _ = _ from b48_stop h4 hi hG hT hz), xb2]
  refine ⟨g4, ?_, h4⟩
  rw [show (0 : Int32) + 1 = nI 1 from rfl, show (2 : Int32) = nI 2 from rfl, nI_mul, nI_add]
