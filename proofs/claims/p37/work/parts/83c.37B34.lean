-- 83c.37B34
section
/-! Stage B, 34: one after the other is added to a site, till the goal is reached -/
theorem gpx0 {σ ρ : Type} {b : σ → Option (σ ⊕ ρ)} {K : Nat} {u0 : σ} {r : ρ} (hK : 0 < K) (h0 : b u0 = some (.inr r)) : lpF b K u0 = some r := by
  obtain ⟨J, rfl⟩ : ∃ J, K = J + 1 := ⟨K - 1, by omega⟩
  exact lp_end h0
theorem gpx1 {σ ρ : Type} {b : σ → Option (σ ⊕ ρ)} {K : Nat} {u0 u1 : σ} {r : ρ} (hK : 1 < K) (h0 : b u0 = some (.inl u1)) (h1 : b u1 = some (.inr r)) : lpF b K u0 = some r := by
  obtain ⟨J, rfl⟩ : ∃ J, K = J + 1 + 1 := ⟨K - 2, by omega⟩
  exact (lp_one h0).trans (lp_end h1)
theorem sgm_at {g : Nat → Int32} {i : Nat} {d : Int32} : ∀ n, i < n → sgm (fun j => upd g (48 + i) (g (48 + i) + d) (48 + j)) n = sgm (fun j => g (48 + j)) n + d := by
  intro n
  induction n with
  | zero => exact fun h => absurd h (Nat.not_lt_zero _)
  | succ m ih =>
    intro hi
    show sgm (fun j => upd g (48 + i) (g (48 + i) + d) (48 + j)) m + upd g (48 + i) (g (48 + i) + d) (48 + m) = sgm (fun j => g (48 + j)) m + g (48 + m) + d
    by_cases e : i = m
    · subst e
      have E : sgm (fun j => upd g (48 + i) (g (48 + i) + d) (48 + j)) i = sgm (fun j => g (48 + j)) i := sgm_eq i (fun j hj => upd_ne (by omega))
      rw [upd_at, E]
      exact (Int32.add_assoc _ _ _).symm
    · rw [ih (by omega), upd_ne (show ¬ 48 + m = 48 + i by omega)]
      generalize sgm (fun j => g (48 + j)) m = S
      generalize g (48 + m) = x
      rw [Int32.add_assoc S d x, Int32.add_comm d x, Int32.add_assoc S x d]
/-- the counts of a row, as numbers: goal, known, signals, rest of site i, all counts; the rest as at first -/
def GD (n i G k s r T : Nat) (g0 g : Nat → Int32) : Prop := (∃ f, RowR n f g) ∧ g 66 = nI G ∧ g 73 = nI k ∧ g 75 = nI s ∧ g (56 + i) = nI r ∧ sgm (fun j => g (48 + j)) n = nI T ∧ ∀ j, 84 ≤ j → g j = g0 j
theorem GD.n8 {n i G k s r T : Nat} {g0 g : Nat → Int32} (h : GD n i G k s r T g0 g) : n ≤ 8 := by
  obtain ⟨⟨f, hR⟩, -⟩ := h
  exact hR.n8
theorem GD.stp {n i G k s r T : Nat} {g0 g : Nat → Int32} (h : GD n i G k s r T g0 g) (hG : G < 2 ^ 30) (hk : k < 2 ^ 30) : st n g = (G - k) / (2 * n) := by
  obtain ⟨-, e66, e73, -⟩ := h
  unfold st
  rw [e66, e73, pk_sub_toInt hG hk, show ((G : Int) - k).toNat = G - k by omega]
theorem GD.put {n i G k s r T : Nat} {g0 g : Nat → Int32} (h : GD n i G k s r T g0 g) (hi : i < n) : GD n i G k s r (T + 1) g0 (upd g (48 + i) (g (48 + i) + 1)) := by
  have n8 := h.n8
  obtain ⟨⟨f, hR⟩, e66, e73, e75, e56, eT, fr⟩ := h
  have R1 : RowR n (upd f (17 + 8 * i + 6) (g (48 + i) + 1)) (upd g (48 + i) (g (48 + i) + 1)) := hR.put (c := 6) hi (by decide) (by decide) (by decide) (g (48 + i) + 1)
  exact ⟨⟨_, R1⟩, (upd_ne (by omega)).trans e66, (upd_ne (by omega)).trans e73, (upd_ne (by omega)).trans e75, (upd_ne (by omega)).trans e56, (sgm_at n hi).trans (by rw [eT]; exact nI_1 T), fun j hj => (upd_ne (by omega)).trans (fr j hj)⟩
theorem GD.rest {n i G k s r T : Nat} {g0 g : Nat → Int32} (h : GD n i G k s r T g0 g) (hi : i < n) (q : Nat) : GD n i G k s q T g0 (upd g (56 + i) (nI q)) := by
  have n8 := h.n8
  obtain ⟨⟨f, hR⟩, e66, e73, e75, e56, eT, fr⟩ := h
  have R1 : RowR n (upd f (17 + 8 * i + 7) (nI q)) (upd g (56 + i) (nI q)) := hR.put (c := 7) hi (by decide) (by decide) (by decide) (nI q)
  exact ⟨⟨_, R1⟩, (upd_ne (by omega)).trans e66, (upd_ne (by omega)).trans e73, (upd_ne (by omega)).trans e75, upd_at, (sgm_eq n (fun j hj => upd_ne (by omega))).trans eT, fun j hj => (upd_ne (by omega)).trans (fr j hj)⟩
theorem GD.sig {n i G k s r T : Nat} {g0 g : Nat → Int32} (h : GD n i G k s r T g0 g) (hi : i < n) (q : Nat) : GD n i G k q r T g0 (upd g 75 (nI q)) := by
  have n8 := h.n8
  obtain ⟨⟨f, hR⟩, e66, e73, e75, e56, eT, fr⟩ := h
  have R1 : RowR n (upd f 9 (nI q)) (upd g 75 (nI q)) := hR.scal (by decide) (nI q)
  exact ⟨⟨_, R1⟩, (upd_ne (by omega)).trans e66, (upd_ne (by omega)).trans e73, upd_at, (upd_ne (by omega)).trans e56, (sgm_eq n (fun j hj => upd_ne (by omega))).trans eT, fun j hj => (upd_ne (by omega)).trans (fr j hj)⟩
theorem GD.known {n i G k s r T : Nat} {g0 g : Nat → Int32} (h : GD n i G k s r T g0 g) (hi : i < n) (q : Nat) : GD n i G q s r T g0 (upd g 73 (nI q)) := by
  have n8 := h.n8
  obtain ⟨⟨f, hR⟩, e66, e73, e75, e56, eT, fr⟩ := h
  have R1 : RowR n (upd f 8 (nI q)) (upd g 73 (nI q)) := hR.scal (by decide) (nI q)
  exact ⟨⟨_, R1⟩, (upd_ne (by omega)).trans e66, upd_at, (upd_ne (by omega)).trans e75, (upd_ne (by omega)).trans e56, (sgm_eq n (fun j hj => upd_ne (by omega))).trans eT, fun j hj => (upd_ne (by omega)).trans (fr j hj)⟩
theorem ad_zero {n i G k s r T K : Nat} {g0 g : Nat → Int32} (h : GD n i G k s r T g0 g) (hi : i < n) (hG : G < 2 ^ 30) (hk : k < 2 ^ 30) (hz : (G - k) / (2 * n) = 0) : ∃ g', F_X8_addsNow K (nI i) 1 g (nI n) = some (nI 1, g') ∧ GD n i G (k + 1) s r (T + 1) g0 g' := by
  have n8 := h.n8
  have h1 := h.put hi
  unfold F_X8_addsNow
  rw [bm_ix (a := 48) (by rfl) (by omega), bm_ix (a := 48) (by rfl) (by omega), bm_cl (a := 48) (by rfl) (by omega)]
  simp only [xnm]
  generalize upd g (48 + i) (g (48 + i) + 1) = g1 at h1 ⊢
  have e73 : g1 73 = nI k := h1.2.2.1
  rw [m_step (by omega) n8, xb1, h1.stp hG hk, hz, if_pos (show nI 0 = (0 : Int32) from rfl), e73, nI_1]
  exact ⟨_, rfl, h1.known hi (k + 1)⟩
theorem ad_pre {n i G k s r T K : Nat} {g0 g : Nat → Int32} (h : GD n i G k s r T g0 g) (hi : i < n) (hG : G < 2 ^ 30) (hk : k < 2 ^ 30) (hz : 0 < (G - k) / (2 * n)) : ∃ g2, F_X8_addsNow K (nI i) 1 g (nI n) = bd2 (lpF (fun u9 : Int32 × (Nat → Int32) => B_X8_addsNow_48 K (nI i) (nI n) u9.1 u9.2) K ((0 : Int32), g2)) (fun a b => some (a, b)) ∧ GD n i G k s (r + 1) (T + 1) g0 g2 := by
  have n8 := h.n8
  have h1 := h.put hi
  have lt : (G - k) / (2 * n) < 2 ^ 30 := Nat.lt_of_le_of_lt (Nat.div_le_self _ _) (by omega)
  unfold F_X8_addsNow
  rw [bm_ix (a := 48) (by rfl) (by omega), bm_ix (a := 48) (by rfl) (by omega), bm_cl (a := 48) (by rfl) (by omega)]
  simp only [xnm]
  generalize upd g (48 + i) (g (48 + i) + 1) = g1 at h1 ⊢
  have e56 : g1 (56 + i) = nI r := h1.2.2.2.2.1
  have nz : ¬ nI ((G - k) / (2 * n)) = (0 : Int32) := fun e => by
    have := (nI_eq (a := (G - k) / (2 * n)) (b := 0) (by omega) (by omega)).mp e
    omega
  rw [m_step (by omega) n8, xb1, h1.stp hG hk, if_neg nz, bm_ix (a := 56) (by rfl) (by omega), bm_ix (a := 56) (by rfl) (by omega), bm_cl (a := 56) (by rfl) (by omega), e56, nI_1]
  exact ⟨_, rfl, h1.rest hi (r + 1)⟩
theorem b48_stop {n i G k s r T K : Nat} {x : Int32} {g0 g : Nat → Int32} (h : GD n i G k s r T g0 g) (hi : i < n) (hG : G < 2 ^ 30) (hk : k < 2 ^ 30) (hr : r < (G - k) / (2 * n) ∨ (G - k) / (2 * n) = 0) : B_X8_addsNow_48 K (nI i) (nI n) x g = some (.inr (x, g)) := by
  have n8 := h.n8
  have lt : (G - k) / (2 * n) < 2 ^ 30 := Nat.lt_of_le_of_lt (Nat.div_le_self _ _) (by omega)
  have es : F_X8_step g (nI n) = some (nI ((G - k) / (2 * n))) := by rw [m_step (by omega) n8, h.stp hG hk]
  have e56 : g (56 + i) = nI r := h.2.2.2.2.1
  unfold B_X8_addsNow_48
  simp only [es, xb1, bm_ix (A := (56 : Int32)) (a := 56) rfl (show 56 + i < 265 by omega), bm_cl (A := (56 : Int32)) (a := 56) rfl (show 56 + i < 265 by omega)]
  by_cases z : (G - k) / (2 * n) = 0
  · rw [z, if_pos (show nI 0 ≤ (0 : Int32) by decide)]
  · rw [if_neg (show ¬ nI ((G - k) / (2 * n)) ≤ (0 : Int32) from mt (nI_leI (a := (G - k) / (2 * n)) (b := 0) (by omega) (by omega)).mp (by omega)), e56, if_pos ((nI_ltI (a := r) (b := (G - k) / (2 * n)) (by omega) (by omega)).mpr (by omega))]
theorem b48_go {n i G k s T S K : Nat} {x : Int32} {g0 g : Nat → Int32} (h : GD n i G k s S T g0 g) (hi : i < n) (hG : G < 2 ^ 30) (hk : k < 2 ^ 30) (eS : (G - k) / (2 * n) = S) (hS : 0 < S) : B_X8_addsNow_48 K (nI i) (nI n) x g = if (upd (upd g (56 + i) (nI 0)) 75 (nI (s + 1))) 75 = nI n then bd1 (F_X8_endsRound K (upd (upd g (56 + i) (nI 0)) 75 (nI (s + 1))) (nI n)) (fun w => some (.inl (x + (1 : Int32) + (2 : Int32) * nI n, w))) else some (.inl (x + (1 : Int32), upd (upd g (56 + i) (nI 0)) 75 (nI (s + 1)))) := by
  have n8 := h.n8
  have lt : S < 2 ^ 30 := by rw [← eS]; exact Nat.lt_of_le_of_lt (Nat.div_le_self _ _) (by omega)
  have es : F_X8_step g (nI n) = some (nI S) := by rw [m_step (by omega) n8, h.stp hG hk, eS]
  have e56 : g (56 + i) = nI S := h.2.2.2.2.1
  have e75 : g 75 = nI s := h.2.2.2.1
  unfold B_X8_addsNow_48
  simp only [es, xb1, bm_ix (A := (56 : Int32)) (a := 56) rfl (show 56 + i < 265 by omega), bm_cl (A := (56 : Int32)) (a := 56) rfl (show 56 + i < 265 by omega), xnm]
  rw [if_neg (show ¬ nI S ≤ (0 : Int32) from mt (nI_leI (a := S) (b := 0) (by omega) (by omega)).mp (by omega)), e56, if_neg (show ¬ nI S < nI S from mt (nI_ltI (a := S) (b := S) (by omega) (by omega)).mp (by omega)), xsub (Nat.le_refl S), Nat.sub_self, show (upd g (56 + i) (nI 0)) 75 = nI s from (upd_ne (by omega)).trans e75, nI_1]
/-- one more, no signal yet -/
theorem ad_more {n i G k s r T K : Nat} {g0 g : Nat → Int32} (hK : 200000 ≤ K) (h : GD n i G k s r T g0 g) (hi : i < n) (hG : G < 2 ^ 30) (hk : k < 2 ^ 30) (hr : r + 1 < (G - k) / (2 * n)) : ∃ g', F_X8_addsNow K (nI i) 1 g (nI n) = some (nI 0, g') ∧ GD n i G k s (r + 1) (T + 1) g0 g' := by
  obtain ⟨g2, e, h2⟩ := ad_pre (K := K) h hi hG hk (by omega)
  rw [e, gpx0 (by omega) (show (fun u9 : Int32 × (Nat → Int32) => B_X8_addsNow_48 K (nI i) (nI n) u9.1 u9.2) ((0 : Int32), g2) = some (.inr ((0 : Int32), g2)) from b48_stop h2 hi hG hk (Or.inl hr)), xb2]
  exact ⟨_, rfl, h2⟩
/-- one more, and a signal -/
theorem ad_one {n i G k s r T K : Nat} {g0 g : Nat → Int32} (hK : 200000 ≤ K) (h : GD n i G k s r T g0 g) (hi : i < n) (hG : G < 2 ^ 30) (hk : k < 2 ^ 30) (hr : r + 1 = (G - k) / (2 * n)) (hs : s + 1 < n) : ∃ g', F_X8_addsNow K (nI i) 1 g (nI n) = some (nI 1, g') ∧ GD n i G k (s + 1) 0 (T + 1) g0 g' := by
  have n8 := h.n8
  obtain ⟨g2, e, h2⟩ := ad_pre (K := K) h hi hG hk (by omega)
  have h3 := (h2.rest hi 0).sig hi (s + 1)
  have G0 := b48_go (K := K) (x := 0) h2 hi hG hk hr.symm (by omega)
  rw [upd_at, if_neg (show ¬ nI (s + 1) = nI n from fun q => by
    have := (nI_eq (a := s + 1) (b := n) (by omega) (by omega)).mp q
    omega)] at G0
  rw [e, gpx1 (by omega) (show (fun u9 : Int32 × (Nat → Int32) => B_X8_addsNow_48 K (nI i) (nI n) u9.1 u9.2) ((0 : Int32), g2) = _ from G0) (show (fun u9 : Int32 × (Nat → Int32) => B_X8_addsNow_48 K (nI i) (nI n) u9.1 u9.2) _ = _ from b48_stop h3 hi hG hk (Or.inl (by omega))), xb2]
  exact ⟨_, rfl, h3⟩
/-- one more, a signal, and the round ends -/
theorem ad_end {n i G k s r T K : Nat} {g0 g : Nat → Int32} (hK : 200000 ≤ K) (h : GD n i G k s r T g0 g) (hi : i < n) (hG : G < 2 ^ 30) (hk : k < 2 ^ 30) (hT : T + 1 < 2 ^ 30) (hr : r + 1 = (G - k) / (2 * n)) (hs : s + 1 = n) : ∃ g', F_X8_addsNow K (nI i) 1 g (nI n) = some (nI (1 + 2 * n), g') ∧ GD n i G (T + 1) 0 0 (T + 1) g0 g' := by
  have n8 := h.n8
  obtain ⟨g2, e, h2⟩ := ad_pre (K := K) h hi hG hk (by omega)
  have h3 := (h2.rest hi 0).sig hi (s + 1)
  have G0 := b48_go (K := K) (x := 0) h2 hi hG hk hr.symm (by omega)
  rw [upd_at, if_pos (show nI (s + 1) = nI n by rw [hs])] at G0
  generalize upd (upd g2 (56 + i) (nI 0)) 75 (nI (s + 1)) = g3 at G0 h3
  obtain ⟨⟨f3, R3⟩, e66, e73, e75, e56, eT, fr⟩ := h3
  obtain ⟨f4, g4, -, q2, R4, q4, q5, q6, q7⟩ := er_both hK R3
  have h4 : GD n i G (T + 1) 0 0 (T + 1) g0 g4 := ⟨⟨f4, R4⟩, (q4 66 (by omega) (by decide) (by decide) (by decide)).trans e66, q5.trans eT, q6, q7 i hi, (sgm_eq n (fun j hj => q4 (48 + j) (by omega) (by omega) (by omega) (by omega))).trans eT, fun j hj => (q4 j (by omega) (by omega) (by omega) (by omega)).trans (fr j hj)⟩
  rw [q2, xb1] at G0
  have hz : 0 < (G - (T + 1)) / (2 * n) ∨ (G - (T + 1)) / (2 * n) = 0 := (Nat.eq_zero_or_pos _).symm
  rw [e, gpx1 (by omega) (show (fun u9 : Int32 × (Nat → Int32) => B_X8_addsNow_48 K (nI i) (nI n) u9.1 u9.2) ((0 : Int32), g2) = _ from G0) (show (fun u9 : Int32 × (Nat → Int32) => B_X8_addsNow_48 K (nI i) (nI n) u9.1 u9.2) _ = _ from b48_stop h4 hi hG hT hz), xb2]
  refine ⟨g4, ?_, h4⟩
  rw [show (0 : Int32) + 1 = nI 1 from rfl, show (2 : Int32) = nI 2 from rfl, nI_mul, nI_add]
end
-- 83c.38B35
section
/-! Stage B, 35: goes, in both -/
theorem x_add {x : Int32} {a b : Nat} : x + nI a + nI b = x + nI (a + b) := by rw [Int32.add_assoc, nI_add]
theorem x_add0 {x : Int32} : x + nI 0 = x := by rw [show nI 0 = (0 : Int32) from rfl, Int32.add_zero]
/-- c times one is added, with m messages -/
def Gt (K n i c m : Nat) (g g' : Nat → Int32) : Prop := ∀ (x y : Int32) (J : Nat), lpF (fun u9 : Int32 × Int32 × (Nat → Int32) => B_X8_goes_36 K (nI i) (nI n) u9.1 u9.2.1 u9.2.2) (J + c) (x, y, g) = lpF (fun u9 : Int32 × Int32 × (Nat → Int32) => B_X8_goes_36 K (nI i) (nI n) u9.1 u9.2.1 u9.2.2) J (x + nI c, y + nI m, g')
theorem Gt.zero {K n i : Nat} {g : Nat → Int32} : Gt K n i 0 0 g g := fun x y J => by
  show lpF (fun u9 : Int32 × Int32 × (Nat → Int32) => B_X8_goes_36 K (nI i) (nI n) u9.1 u9.2.1 u9.2.2) J (x, y, g) = lpF (fun u9 : Int32 × Int32 × (Nat → Int32) => B_X8_goes_36 K (nI i) (nI n) u9.1 u9.2.1 u9.2.2) J (x + nI 0, y + nI 0, g)
  rw [x_add0, x_add0]
theorem Gt.trans {K n i c d m e : Nat} {g g' g2 : Nat → Int32} (h1 : Gt K n i c m g g') (h2 : Gt K n i d e g' g2) : Gt K n i (c + d) (m + e) g g2 := fun x y J => by
  rw [show J + (c + d) = J + d + c by omega, h1 x y (J + d), h2 _ _ J, x_add, x_add]
theorem Gt.one {K n i G k s r T m : Nat} {g0 g g' : Nat → Int32} (h : GD n i G k s r T g0 g) (hk : k < G) (hG : G < 2 ^ 30) (ha : F_X8_addsNow K (nI i) 1 g (nI n) = some (nI m, g')) : Gt K n i 1 m g g' := fun x y J => lp_one (by
  show B_X8_goes_36 K (nI i) (nI n) x y g = some (.inl (x + 1, y + nI m, g'))
  unfold B_X8_goes_36 F_X8_isReached
  rw [h.2.2.1, h.2.1, if_pos ((nI_ltI (a := k) (b := G) (by omega) (by omega)).mpr hk), xb1, if_pos rfl, ha, xb2])
theorem go_sig {n i G k s S K : Nat} {g0 : Nat → Int32} (hK : 200000 ≤ K) (hi : i < n) (hG : G ≤ 9999) (hk : k < G) (eS : (G - k) / (2 * n) = S) (hs : s < n) : ∀ d r T g, r + (d + 1) = S → T + (d + 1) < 2 ^ 30 → GD n i G k s r T g0 g → ∃ m k' s' g', Gt K n i (d + 1) m g g' ∧ GD n i G k' s' 0 (T + (d + 1)) g0 g' ∧ ((s + 1 < n ∧ m = 1 ∧ k' = k ∧ s' = s + 1) ∨ (s + 1 = n ∧ m = 1 + 2 * n ∧ k' = T + (d + 1) ∧ s' = 0)) := by
  intro d
  induction d with
  | zero =>
    intro r T g hr hT h
    rcases (show s + 1 < n ∨ s + 1 = n by omega) with c | c
    · obtain ⟨g', ha, h'⟩ := ad_one hK h hi (by omega) (by omega) (by omega) c
      exact ⟨1, k, s + 1, g', Gt.one h hk (by omega) ha, h', Or.inl ⟨c, rfl, rfl, rfl⟩⟩
    · obtain ⟨g', ha, h'⟩ := ad_end hK h hi (by omega) (by omega) (by omega) (by omega) c
      exact ⟨1 + 2 * n, T + 1, 0, g', Gt.one h hk (by omega) ha, h', Or.inr ⟨c, rfl, rfl, rfl⟩⟩
  | succ d ih =>
    intro r T g hr hT h
    obtain ⟨g1, ha, h1⟩ := ad_more hK h hi (by omega) (by omega) (by omega)
    obtain ⟨m, k', s', g', q1, q2, q3⟩ := ih (r + 1) (T + 1) g1 (by omega) (by omega) h1
    have q := (Gt.one h hk (by omega) ha).trans q1
    rw [show 1 + (d + 1) = d + 1 + 1 by omega, Nat.zero_add] at q
    rw [show T + 1 + (d + 1) = T + (d + 1 + 1) by omega] at q2 q3
    exact ⟨m, k', s', g', q, q2, q3⟩
theorem go_round {n i G k S K : Nat} {g0 : Nat → Int32} (hK : 200000 ≤ K) (hi : i < n) (hG : G ≤ 9999) (hk : k < G) (eS : (G - k) / (2 * n) = S) (hS : 0 < S) : ∀ e s r T g c, s + (e + 1) = n → r < S → c + r = (e + 1) * S → T + c < 2 ^ 30 → GD n i G k s r T g0 g → ∃ g', Gt K n i c (e + 1 + 2 * n) g g' ∧ GD n i G (T + c) 0 0 (T + c) g0 g' := by
  intro e
  induction e with
  | zero =>
    intro s r T g c hs hr hc hT h
    have e1 : (0 + 1) * S = S := by rw [Nat.zero_add, Nat.one_mul]
    rw [e1] at hc
    obtain ⟨d, rfl⟩ : ∃ d, c = d + 1 := ⟨c - 1, by omega⟩
    obtain ⟨m, k', s', g', q1, q2, q3⟩ := go_sig hK hi hG hk eS (by omega) d r T g (by omega) hT h
    rcases q3 with ⟨a, -⟩ | ⟨-, z1, z2, z3⟩
    · omega
    · rw [z1, show 1 + 2 * n = 0 + 1 + 2 * n by omega] at q1
      rw [z2, z3] at q2
      exact ⟨g', q1, q2⟩
  | succ e ih =>
    intro s r T g c hs hr hc hT h
    have e1 : (e + 1 + 1) * S = (e + 1) * S + S := Nat.succ_mul (e + 1) S
    rw [e1] at hc
    obtain ⟨d, hd⟩ : ∃ d, r + (d + 1) = S := ⟨S - r - 1, by omega⟩
    obtain ⟨m, k', s', g1, q1, q2, q3⟩ := go_sig hK hi hG hk eS (by omega) d r T g hd (by omega) h
    rcases q3 with ⟨a, z1, z2, z3⟩ | ⟨a, -⟩
    · rw [z1] at q1
      rw [z2, z3] at q2
      obtain ⟨g', p1, p2⟩ := ih (s + 1) 0 (T + (d + 1)) g1 ((e + 1) * S) (by omega) hS (Nat.add_zero _) (by omega) q2
      have q := q1.trans p1
      rw [show d + 1 + (e + 1) * S = c by omega, show 1 + (e + 1 + 2 * n) = e + 1 + 1 + 2 * n by omega] at q
      rw [show T + (d + 1) + (e + 1) * S = T + c by omega] at p2
      exact ⟨g', q, p2⟩
    · omega
theorem go_last {n i G s r K : Nat} {g0 : Nat → Int32} (hi : i < n) (hG : G ≤ 9999) : ∀ d k T g, k + d = G → G < k + 2 * n → GD n i G k s r T g0 g → ∃ g', Gt K n i d d g g' ∧ GD n i G G s r (T + d) g0 g' := by
  intro d
  induction d with
  | zero =>
    intro k T g hd _ h
    rw [show k = G by omega] at h
    exact ⟨g, Gt.zero, h⟩
  | succ d ih =>
    intro k T g hd hl h
    obtain ⟨g1, ha, h1⟩ := ad_zero (K := K) h hi (by omega) (by omega) (Nat.div_eq_of_lt (by omega))
    obtain ⟨g', q1, q2⟩ := ih (k + 1) (T + 1) g1 (by omega) (by omega) h1
    have q := (Gt.one h (by omega) (by omega) ha).trans q1
    rw [show 1 + d = d + 1 by omega] at q
    rw [show T + 1 + d = T + (d + 1) by omega] at q2
    exact ⟨g', q, q2⟩
theorem cs_stepV {n G b : Nat} {f : Nat → Int32} (h0 : 0 < n) (n8 : n ≤ 8) (f2 : f 2 = nI G) (f3 : f 3 = nI n) (hG : G < 2 ^ 30) (hb : b < 2 ^ 30) : F_X5_stepFrom (nI b) f = some (nI ((G - b) / (2 * n))) := by
  have e2 : (2 : Int32) * nI n = nI (2 * n) := by rw [show (2 : Int32) = nI 2 from rfl, nI_mul]
  have enz : ¬ nI (2 * n) = 0 := fun e => by
    have := (nI_eq (a := 2 * n) (b := 0) (by omega) (by omega)).mp e
    omega
  unfold F_X5_stepFrom
  rw [f3, f2, e2, if_neg (show ¬ nI (2 * n) ≤ (0 : Int32) from mt (nI_leI (a := 2 * n) (b := 0) (by omega) (by omega)).mp (by omega))]
  by_cases c : b < G
  · have ed : nI (G - b) / nI (2 * n) = nI ((G - b) / (2 * n)) := (Int32.ofNat_div (by omega) (by omega)).symm
    rw [if_pos ((nI_ltI (a := b) (b := G) (by omega) (by omega)).mpr c), xsub (by omega)]
    unfold nzI
    rw [if_neg enz, ed]
  · rw [if_neg (mt (nI_ltI (a := b) (b := G) (by omega) (by omega)).mp c), show G - b = 0 by omega, Nat.zero_div]
    rfl
/-- how both loops end -/
def GvQ (n i G K d : Nat) (f g0 : Nat → Int32) (u : Int32 × Int32 × Int32 × Int32 × Int32 × Int32) (x y : Int32) (g : Nat → Int32) : Prop := ∃ (kf xf yf : Nat) (g' : Nat → Int32), (∀ J, lpF (fun u9 : Int32 × Int32 × Int32 × Int32 × Int32 × Int32 × Int32 × Int32 => B_X5_aloneToGoal_50 f u9.1 u9.2.1 u9.2.2.1 u9.2.2.2.1 u9.2.2.2.2.1 u9.2.2.2.2.2.1 u9.2.2.2.2.2.2.1 u9.2.2.2.2.2.2.2) (J + (d + 1)) (u.1, u.2.1, u.2.2.1, u.2.2.2.1, x, y, u.2.2.2.2.1, u.2.2.2.2.2) = some (nI kf, x + nI xf, y + nI yf)) ∧ Gt K n i (xf + (G - kf)) (yf + (G - kf)) g g' ∧ (¬ g' 73 < g' 66) ∧ (∀ q, 84 ≤ q → g' q = g0 q) ∧ xf + (G - kf) ≤ 9999 * (d + 1) ∧ kf ≤ 999999
theorem go_stop {n i G K d j k s r T : Nat} {f g0 g : Nat → Int32} {x y : Int32} (hi : i < n) (hG : G ≤ 9999) (hk : k ≤ 990000) (z : (G - k) / (2 * n) = 0) (h : GD n i G k s r T g0 g) : GvQ n i G K d f g0 (nI k, nI T, nI r, nI s, nI ((G - k) / (2 * n)), nI j) x y g := by
  have B0 : (fun u9 : Int32 × Int32 × Int32 × Int32 × Int32 × Int32 × Int32 × Int32 => B_X5_aloneToGoal_50 f u9.1 u9.2.1 u9.2.2.1 u9.2.2.2.1 u9.2.2.2.2.1 u9.2.2.2.2.2.1 u9.2.2.2.2.2.2.1 u9.2.2.2.2.2.2.2) (nI k, nI T, nI r, nI s, x, y, nI ((G - k) / (2 * n)), nI j) = some (.inr (nI k, x, y)) := by
    show B_X5_aloneToGoal_50 f (nI k) (nI T) (nI r) (nI s) x y (nI ((G - k) / (2 * n))) (nI j) = some (.inr (nI k, x, y))
    unfold B_X5_aloneToGoal_50
    by_cases c : (9999 : Int32) ≤ nI j
    · rw [if_pos c]
    · rw [if_neg c, z, if_pos (show nI 0 ≤ (0 : Int32) by decide)]
  have L : ∀ J, lpF (fun u9 : Int32 × Int32 × Int32 × Int32 × Int32 × Int32 × Int32 × Int32 => B_X5_aloneToGoal_50 f u9.1 u9.2.1 u9.2.2.1 u9.2.2.2.1 u9.2.2.2.2.1 u9.2.2.2.2.2.1 u9.2.2.2.2.2.2.1 u9.2.2.2.2.2.2.2) (J + (d + 1)) (nI k, nI T, nI r, nI s, x, y, nI ((G - k) / (2 * n)), nI j) = some (nI k, x + nI 0, y + nI 0) := fun J => by
    rw [x_add0, x_add0]
    exact gpx0 (by omega) B0
  by_cases c : k < G
  · have lt : G - k < 2 * n := by
      rcases Nat.lt_or_ge (G - k) (2 * n) with a | a
      · exact a
      · exact absurd z (Nat.ne_of_gt (Nat.div_pos a (by omega)))
    obtain ⟨g', q1, q2⟩ := go_last (K := K) hi hG (G - k) k T g (by omega) (by omega) h
    refine ⟨k, 0, 0, g', L, ?_, ?_, q2.2.2.2.2.2.2, by omega, by omega⟩
    · rw [Nat.zero_add]
      exact q1
    · rw [q2.2.2.1, q2.2.1]
      exact mt (nI_ltI (a := G) (b := G) (by omega) (by omega)).mp (by omega)
  · refine ⟨k, 0, 0, g, L, ?_, ?_, h.2.2.2.2.2.2, by omega, by omega⟩
    · rw [show 0 + (G - k) = 0 by omega]
      exact Gt.zero
    · rw [h.2.2.1, h.2.1]
      exact mt (nI_ltI (a := k) (b := G) (by omega) (by omega)).mp (by omega)
theorem go_both {n i G K : Nat} {f g0 : Nat → Int32} (hK : 200000 ≤ K) (n8 : n ≤ 8) (hi : i < n) (hG : G ≤ 9999) (h2 : f 2 = nI G) (h3 : f 3 = nI n) : ∀ d j k s r T g x y, 10000 ≤ d + j → j ≤ T → (j = 0 ∨ k = T) → s < n → (r = 0 ∨ r < (G - k) / (2 * n)) → T ≤ 990000 → (j = 0 → T ≤ 900000) → k ≤ 990000 → GD n i G k s r T g0 g → GvQ n i G K d f g0 (nI k, nI T, nI r, nI s, nI ((G - k) / (2 * n)), nI j) x y g := by
  intro d
  induction d with
  | zero =>
    intro j k s r T g x y hd hj hjk hs hr hT hT0 hk h
    have z : (G - k) / (2 * n) = 0 := by rw [show G - k = 0 by omega, Nat.zero_div]
    exact go_stop hi hG hk z h
  | succ d ih =>
    intro j k s r T g x y hd hj hjk hs hr hT hT0 hk h
    by_cases z : (G - k) / (2 * n) = 0
    · exact go_stop hi hG hk z h
    · obtain ⟨S, eS⟩ : ∃ S, (G - k) / (2 * n) = S := ⟨_, rfl⟩
      have hkG : k < G := by
        rcases Nat.lt_or_ge k G with a | a
        · exact a
        · exact absurd (show (G - k) / (2 * n) = 0 by rw [show G - k = 0 by omega, Nat.zero_div]) z
      have m1 : 2 * n * ((G - k) / (2 * n)) ≤ G - k := Nat.mul_div_le (G - k) (2 * n)
      rw [eS] at z hr m1 ⊢
      have hS : 0 < S := by omega
      obtain ⟨e, he⟩ : ∃ e, s + (e + 1) = n := ⟨n - s - 1, by omega⟩
      have m2 : (e + 1) * S ≤ 2 * n * S := Nat.mul_le_mul_right S (by omega)
      have m3 : S ≤ (e + 1) * S := Nat.le_mul_of_pos_left S (by omega)
      have hrS : r < S := by omega
      obtain ⟨c, hc⟩ : ∃ c, c + r = (e + 1) * S := ⟨(e + 1) * S - r, by omega⟩
      have c9 : c ≤ 9999 := by omega
      have c1 : 1 ≤ c := by omega
      obtain ⟨g1, q1, q2⟩ := go_round hK hi hG hkG eS hS e s r T g c he hrS hc (by omega) h
      have ec : ((nI n - nI s) * nI S) - nI r = nI c := by rw [xsub (by omega), nI_mul, show n - s = e + 1 by omega, ← hc, xsub (by omega), Nat.add_sub_cancel]
      have em : (nI n - nI s) + (2 : Int32) * nI n = nI (e + 1 + 2 * n) := by rw [xsub (by omega), show n - s = e + 1 by omega, show (2 : Int32) = nI 2 from rfl, nI_mul, nI_add]
      have B1 : (fun u9 : Int32 × Int32 × Int32 × Int32 × Int32 × Int32 × Int32 × Int32 => B_X5_aloneToGoal_50 f u9.1 u9.2.1 u9.2.2.1 u9.2.2.2.1 u9.2.2.2.2.1 u9.2.2.2.2.2.1 u9.2.2.2.2.2.2.1 u9.2.2.2.2.2.2.2) (nI k, nI T, nI r, nI s, x, y, nI S, nI j) = some (.inl (nI (T + c), nI (T + c), nI 0, nI 0, x + nI c, y + nI (e + 1 + 2 * n), nI ((G - (T + c)) / (2 * n)), nI (j + 1))) := by
        show B_X5_aloneToGoal_50 f (nI k) (nI T) (nI r) (nI s) x y (nI S) (nI j) = some (.inl (nI (T + c), nI (T + c), (0 : Int32), (0 : Int32), x + nI c, y + nI (e + 1 + 2 * n), nI ((G - (T + c)) / (2 * n)), nI (j + 1)))
        unfold B_X5_aloneToGoal_50
        rw [if_neg (show ¬ (9999 : Int32) ≤ nI j from mt (nI_leI (a := 9999) (b := j) (by omega) (by omega)).mp (by omega)), if_neg (show ¬ nI S ≤ (0 : Int32) from mt (nI_leI (a := S) (b := 0) (by omega) (by omega)).mp (by omega)), h3, ec, em, nI_add, cs_stepV (by omega) n8 h2 h3 (by omega) (by omega), xb1, nI_1]
      obtain ⟨kf, xf, yf, g', L, W, nr, fr, bd, kb⟩ := ih (j + 1) (T + c) 0 0 (T + c) g1 (x + nI c) (y + nI (e + 1 + 2 * n)) (by omega) (by omega) (Or.inr rfl) (by omega) (Or.inl rfl) (by omega) (fun q => absurd q (by omega)) (by omega) q2
      have q := q1.trans W
      rw [show c + (xf + (G - kf)) = c + xf + (G - kf) by omega, show e + 1 + 2 * n + (yf + (G - kf)) = e + 1 + 2 * n + yf + (G - kf) by omega] at q
      refine ⟨kf, c + xf, e + 1 + 2 * n + yf, g', fun J => ?_, q, nr, fr, by omega, kb⟩
      rw [← x_add, ← x_add]
      exact (lp_one (j := J + (d + 1)) B1).trans (L J)
theorem mx_0 {a b : Nat} (ha : a < 2 ^ 30) (hb : b < 2 ^ 30) : maxF (nI a - nI b) (0 : Int32) = nI (a - b) := by
  unfold maxF
  have es : (nI a - nI b).toInt = (a : Int) - b := pk_sub_toInt ha hb
  by_cases c : a < b
  · rw [if_pos (show nI a - nI b < 0 by
      rw [Int32.lt_iff_toInt_lt, es]
      show (a : Int) - b < 0
      omega), show a - b = 0 by omega]
    rfl
  · rw [xsub (by omega), if_neg (nn0 (by omega))]
theorem p_goes {n K : Nat} {f g asd : Nat → Int32} {x y : Int32} (hK : 1000000000 ≤ K) (h : RowR n f g) (hI : RowI n g) : ∃ v asd', F_X7_goes K x y f = some v ∧ F_X8_goes K x y g (nI n) asd = some (v, g, asd') := by
  have n8 := h.n8
  have hK2 : 200000 ≤ K := by omega
  obtain ⟨r1, r2⟩ := re_both h
  unfold F_X7_goes F_X8_goes
  rcases hs_both (p := x) n8 h.sz with ⟨i, hi, rfl, c1, c2⟩ | ⟨-, c1, c2⟩
  · rw [c1, c2, xb1, xb1, if_neg n10, if_neg n10, m_in0 (m := 1) (by decide), xb1, ite10, rng_c]
    by_cases d : 0 ≤ y ∧ y ≤ nI 1
    · rw [if_pos (show 0 ≤ y ∧ y ≤ (1 : Int32) from d), if_pos d, r1, r2, xb1, xb1]
      by_cases c : g 73 < g 66
      · rw [if_pos c, if_pos rfl, if_pos rfl]
        obtain ⟨-, -, -, a, b, q, a1, a9, e66, b9, e73, hq, e75, hcs, hrs⟩ := hI.2 (by omega)
        obtain ⟨B, hB, eB⟩ := sgm_nat (a := fun j => g (48 + j)) n hcs
        obtain ⟨r, er, hr⟩ := hrs i hi
        have D0 : GD n i a b q r B g g := ⟨⟨f, h⟩, e66, e73, e75, er, eB, fun _ _ => rfl⟩
        rw [D0.stp (by omega) (by omega)] at hr
        have f2 : f 2 = nI a := (h.sc (2, 66) (by decide)).trans e66
        have f8 : f 8 = nI b := (h.sc (8, 73) (by decide)).trans e73
        have f9 : f 9 = nI q := (h.sc (9, 75) (by decide)).trans e75
        have e7 : f (17 + 8 * i + 7) = nI r := (h.1.2.2.1 i 7 hi (by decide)).trans er
        have t6 := (tot_both hK2 h (c := 6) (by decide)).1
        have t6 : F_X5_total K (6 : Int32) f = some (sgm (fun j => g (48 + j)) n) := t6
        obtain ⟨kf, xf, yf, g', L, W, nr, fr, bd, kb⟩ := go_both hK2 n8 hi a9 f2 h.sz 10000 0 b q r B g 0 0 (by omega) (Nat.zero_le _) (Or.inl rfl) hq hr (by omega) (fun _ => by omega) (by omega) D0
        have L1 := L (K - 10001)
        rw [show K - 10001 + (10000 + 1) = K by omega] at L1
        have L1 : lpF (fun u9 : Int32 × Int32 × Int32 × Int32 × Int32 × Int32 × Int32 × Int32 => B_X5_aloneToGoal_50 f u9.1 u9.2.1 u9.2.2.1 u9.2.2.2.1 u9.2.2.2.2.1 u9.2.2.2.2.2.1 u9.2.2.2.2.2.2.1 u9.2.2.2.2.2.2.2) K (nI b, nI B, nI r, nI q, (0 : Int32), (0 : Int32), nI ((a - b) / (2 * n)), (0 : Int32)) = some (nI kf, (0 : Int32) + nI xf, (0 : Int32) + nI yf) := L1
        have W1 := W 0 0 (K - (xf + (a - kf)))
        rw [Nat.sub_add_cancel (by omega), Int32.zero_add, Int32.zero_add] at W1
        have W2 : lpF (fun u9 : Int32 × Int32 × (Nat → Int32) => B_X8_goes_36 K (nI i) (nI n) u9.1 u9.2.1 u9.2.2) K ((0 : Int32), (0 : Int32), g) = some (nI (xf + (a - kf)), nI (yf + (a - kf)), g') := by
          refine W1.trans (gpx0 (by omega) ?_)
          show B_X8_goes_36 K (nI i) (nI n) (nI (xf + (a - kf))) (nI (yf + (a - kf))) g' = some (.inr (nI (xf + (a - kf)), nI (yf + (a - kf)), g'))
          unfold B_X8_goes_36 F_X8_isReached
          rw [if_neg nr, xb1, if_neg n10]
        have A : ∀ p, F_X5_aloneToGoal K (nI i) p f = some (if p = 0 then nI (xf + (a - kf)) else nI (yf + (a - kf))) := fun p => by
          unfold F_X5_aloneToGoal J_X5_aloneToGoal_136
          rw [t6, xb1, eB, bx_of (c := 7) (by rfl) (by omega) (by decide), xb1, e7, f8, cs_stepV (by omega) n8 f2 h.sz (by omega) (by omega), xb1, f9, L1, xb3, f2, mx_0 (by omega) (by omega), Int32.zero_add, Int32.zero_add, nI_add, nI_add]
          by_cases e : p = 0
          · rw [if_pos e, if_pos e]
          · rw [if_neg e, if_neg e]
        rw [m_aside hK2, xb1, W2, xb3, m_bring hK2 fr, xb1, A, A, xb1, xb1]
        obtain ⟨m, hm, rfl⟩ := in_lt (p := y) (a := 2) (by omega) (by rw [show nI 2 - 1 = nI 1 by decide]; exact d)
        rcases (show m = 0 ∨ m = 1 by omega) with e | e
        · rw [e, if_neg (show ¬ nI 0 = (1 : Int32) by decide), if_pos (show (0 : Int32) = 0 from rfl), if_pos (show nI 0 = (0 : Int32) from rfl)]
          exact ⟨_, _, rfl, rfl⟩
        · rw [e, if_pos (show nI 1 = (1 : Int32) from rfl), if_neg (show ¬ (1 : Int32) = 0 by decide), if_neg (show ¬ nI 1 = (0 : Int32) by decide)]
          exact ⟨_, _, rfl, rfl⟩
      · rw [if_neg c, if_neg n10, if_neg n10]
        exact ⟨_, _, rfl, rfl⟩
    · rw [if_neg (show ¬ (0 ≤ y ∧ y ≤ (1 : Int32)) from d), if_neg d]
      exact ⟨_, _, rfl, rfl⟩
  · rw [c1, c2, xb1, xb1, if_pos rfl, if_pos rfl]
    exact ⟨_, _, rfl, rfl⟩
end
-- 83c.39B37
section
/-! Stage B, 37: the counts of a watch, in both -/
/-- those of the first k sites, as bits -/
def onB (P : Nat → Bool) : Nat → Int32
  | 0 => 0
  | k + 1 => onB P k ||| (if P k = true then (1 : Int32) <<< (nI k &&& 31) else 0)
theorem on_n {p : Prop} [Decidable p] (c : p) : ¬ decide (¬ p) = true := fun w => of_decide_eq_true w c
theorem on_m {p : Prop} [Decidable p] (c : ¬ p) : ¬ decide p = true := fun w => c (of_decide_eq_true w)
theorem on_lp {b : Int32 × Int32 → Option ((Int32 × Int32) ⊕ Int32)} (P : Nat → Bool) {n K : Nat} (hK : n < K) (hs : ∀ j x, j < n → b (x, nI j) = some (.inl (x ||| (if P j = true then (1 : Int32) <<< (nI j &&& 31) else 0), nI (j + 1)))) (he : ∀ x, b (x, nI n) = some (.inr x)) : lpF b K ((0 : Int32), (0 : Int32)) = some (onB P n) :=
  lp_for (fun j => (onB P j, nI j)) hK (fun j hj => hs j _ hj) (he _)
theorem on_q {n K : Nat} {f g : Nat → Int32} (hK : 200000 ≤ K) (h : RowR n f g) (hg : RowG g) : ∃ v, F_X5_quietSites K f = some v ∧ F_X8_quietOnes K g (nI n) = some v := by
  have n8 := h.n8
  have le : nI n ≤ nI n := (nI_leI (a := n) (b := n) (by omega) (by omega)).mpr (Nat.le_refl _)
  have A : lpF (fun u9 : Int32 × Int32 => B_X5_quietSites_4 f u9.1 u9.2) K ((0 : Int32), (0 : Int32)) = some (onB (fun j => decide (¬ qvl f (cdr f j 0) (cdr f j 1) = 0)) n) := by
    refine on_lp (fun j => decide (¬ qvl f (cdr f j 0) (cdr f j 1) = 0)) (by omega) (fun j x hj => ?_) (fun x => ?_)
    · show B_X5_quietSites_4 f x (nI j) = some (.inl (x ||| (if decide (¬ qvl f (cdr f j 0) (cdr f j 1) = 0) = true then (1 : Int32) <<< (nI j &&& 31) else 0), nI (j + 1)))
      unfold B_X5_quietSites_4 F_X5_sites
      rw [xb1, h.sz, if_neg (mt (nI_leI (a := n) (b := j) (by omega) (by omega)).mp (by omega)), (qs_both hK h hg hj).1, xb1, nI_1]
      by_cases c : qvl f (cdr f j 0) (cdr f j 1) = 0
      · rw [if_pos c, if_neg (on_n c)]
      · rw [if_neg c, if_pos (decide_eq_true c)]
    · show B_X5_quietSites_4 f x (nI n) = some (.inr x)
      unfold B_X5_quietSites_4 F_X5_sites
      rw [xb1, h.sz, if_pos le]
  have B : lpF (fun u9 : Int32 × Int32 => B_X8_quietOnes_4 K (nI n) g u9.1 u9.2) K ((0 : Int32), (0 : Int32)) = some (onB (fun j => decide (¬ qvl f (cdr f j 0) (cdr f j 1) = 0)) n) := by
    refine on_lp (fun j => decide (¬ qvl f (cdr f j 0) (cdr f j 1) = 0)) (by omega) (fun j x hj => ?_) (fun x => ?_)
    · show B_X8_quietOnes_4 K (nI n) g x (nI j) = some (.inl (x ||| (if decide (¬ qvl f (cdr f j 0) (cdr f j 1) = 0) = true then (1 : Int32) <<< (nI j &&& 31) else 0), nI (j + 1)))
      unfold B_X8_quietOnes_4
      rw [if_neg (mt (nI_leI (a := n) (b := j) (by omega) (by omega)).mp (by omega)), (qs_both hK h hg hj).2, xb1, nI_1]
      by_cases c : qvl f (cdr f j 0) (cdr f j 1) = 0
      · rw [if_pos c, if_neg (on_n c)]
      · rw [if_neg c, if_pos (decide_eq_true c)]
    · show B_X8_quietOnes_4 K (nI n) g x (nI n) = some (.inr x)
      unfold B_X8_quietOnes_4
      rw [if_pos le]
  unfold F_X5_quietSites F_X8_quietOnes
  rw [A, B]
  exact ⟨_, rfl, rfl⟩
theorem on_s {n K : Nat} {f g : Nat → Int32} (hK : 200000 ≤ K) (h : RowR n f g) (hs : ∀ i, i < n → 0 ≤ absF (g (32 + i)) + absF (g (40 + i))) : ∃ v, F_X5_slackSites K f = some v ∧ F_X8_slackOnes K g (nI n) = some v := by
  have n8 := h.n8
  have le : nI n ≤ nI n := (nI_leI (a := n) (b := n) (by omega) (by omega)).mpr (Nat.le_refl _)
  have t0 : (0 : Int32).toInt = 0 := by decide
  have A : lpF (fun u9 : Int32 × Int32 => B_X5_slackSites_4 f u9.1 u9.2) K ((0 : Int32), (0 : Int32)) = some (onB (fun j => decide (¬ absF (g (32 + j)) + absF (g (40 + j)) = 0)) n) := by
    refine on_lp (fun j => decide (¬ absF (g (32 + j)) + absF (g (40 + j)) = 0)) (by omega) (fun j x hj => ?_) (fun x => ?_)
    · show B_X5_slackSites_4 f x (nI j) = some (.inl (x ||| (if decide (¬ absF (g (32 + j)) + absF (g (40 + j)) = 0) = true then (1 : Int32) <<< (nI j &&& 31) else 0), nI (j + 1)))
      unfold B_X5_slackSites_4 F_X5_sites
      rw [xb1, h.sz, if_neg (mt (nI_leI (a := n) (b := j) (by omega) (by omega)).mp (by omega)), (sl_both h hj).1, xb1, nI_1]
      by_cases c : absF (g (32 + j)) + absF (g (40 + j)) = 0
      · rw [if_pos c, if_neg (on_n c)]
      · rw [if_neg c, if_pos (decide_eq_true c)]
    · show B_X5_slackSites_4 f x (nI n) = some (.inr x)
      unfold B_X5_slackSites_4 F_X5_sites
      rw [xb1, h.sz, if_pos le]
  have B : lpF (fun u9 : Int32 × Int32 => B_X8_slackOnes_4 (nI n) g u9.1 u9.2) K ((0 : Int32), (0 : Int32)) = some (onB (fun j => decide (¬ absF (g (32 + j)) + absF (g (40 + j)) = 0)) n) := by
    refine on_lp (fun j => decide (¬ absF (g (32 + j)) + absF (g (40 + j)) = 0)) (by omega) (fun j x hj => ?_) (fun x => ?_)
    · show B_X8_slackOnes_4 (nI n) g x (nI j) = some (.inl (x ||| (if decide (¬ absF (g (32 + j)) + absF (g (40 + j)) = 0) = true then (1 : Int32) <<< (nI j &&& 31) else 0), nI (j + 1)))
      unfold B_X8_slackOnes_4
      rw [if_neg (mt (nI_leI (a := n) (b := j) (by omega) (by omega)).mp (by omega)), (sl_both h hj).2, xb1, nI_1]
      have p := hs j hj
      by_cases c : absF (g (32 + j)) + absF (g (40 + j)) = 0
      · rw [if_pos (show absF (g (32 + j)) + absF (g (40 + j)) ≤ 0 by rw [c]; decide), if_neg (on_n c)]
      · rw [if_neg (show ¬ absF (g (32 + j)) + absF (g (40 + j)) ≤ 0 from fun w => c (by
          rw [Int32.le_iff_toInt_le, t0] at w p
          exact Int32.toInt_inj.mp (by rw [t0]; omega))), if_pos (decide_eq_true c)]
    · show B_X8_slackOnes_4 (nI n) g x (nI n) = some (.inr x)
      unfold B_X8_slackOnes_4
      rw [if_pos le]
  unfold F_X5_slackSites F_X8_slackOnes
  rw [A, B]
  exact ⟨_, rfl, rfl⟩
theorem on_u {n K : Nat} {f g : Nat → Int32} (hK : 200000 ≤ K) (h : RowR n f g) : ∃ v, F_X5_unmovedSites K f = some v ∧ F_X8_stillOnes K g (nI n) = some v := by
  have n8 := h.n8
  have le : nI n ≤ nI n := (nI_leI (a := n) (b := n) (by omega) (by omega)).mpr (Nat.le_refl _)
  have A : lpF (fun u9 : Int32 × Int32 => B_X5_unmovedSites_4 f u9.1 u9.2) K ((0 : Int32), (0 : Int32)) = some (onB (fun j => decide (g (0 + j) = g (16 + j) ∧ g (8 + j) = g (24 + j))) n) := by
    refine on_lp (fun j => decide (g (0 + j) = g (16 + j) ∧ g (8 + j) = g (24 + j))) (by omega) (fun j x hj => ?_) (fun x => ?_)
    · show B_X5_unmovedSites_4 f x (nI j) = some (.inl (x ||| (if decide (g (0 + j) = g (16 + j) ∧ g (8 + j) = g (24 + j)) = true then (1 : Int32) <<< (nI j &&& 31) else 0), nI (j + 1)))
      have c0 : f (17 + 8 * j + 0) = g (0 + j) := h.1.2.2.1 j 0 hj (by decide)
      have c1 : f (17 + 8 * j + 1) = g (8 + j) := h.1.2.2.1 j 1 hj (by decide)
      have c2 : f (17 + 8 * j + 2) = g (16 + j) := h.1.2.2.1 j 2 hj (by decide)
      have c3 : f (17 + 8 * j + 3) = g (24 + j) := h.1.2.2.1 j 3 hj (by decide)
      unfold B_X5_unmovedSites_4 F_X5_sites J_X5_unmovedSites_46_r5 J_X5_unmovedSites_47_r5
      rw [xb1, h.sz, if_neg (mt (nI_leI (a := n) (b := j) (by omega) (by omega)).mp (by omega)), bx_of (c := 0) (by rfl) (by omega) (by decide), xb1, bx_of (c := 2) (by rfl) (by omega) (by decide), xb1, bx_of (c := 1) (by rfl) (by omega) (by decide), xb1, bx_of (c := 3) (by rfl) (by omega) (by decide), xb1, c0, c1, c2, c3, nI_1, if_neg n10, if_pos rfl]
      by_cases a : g (0 + j) = g (16 + j)
      · by_cases b : g (8 + j) = g (24 + j)
        · rw [if_pos a, if_pos b, if_pos (decide_eq_true ⟨a, b⟩)]
        · rw [if_pos a, if_neg b, if_neg (on_m (p := g (0 + j) = g (16 + j) ∧ g (8 + j) = g (24 + j)) (fun w => b w.2))]
      · rw [if_neg a, if_neg (on_m (p := g (0 + j) = g (16 + j) ∧ g (8 + j) = g (24 + j)) (fun w => a w.1))]
    · show B_X5_unmovedSites_4 f x (nI n) = some (.inr x)
      unfold B_X5_unmovedSites_4 F_X5_sites
      rw [xb1, h.sz, if_pos le]
  have B : lpF (fun u9 : Int32 × Int32 => B_X8_stillOnes_4 (nI n) g u9.1 u9.2) K ((0 : Int32), (0 : Int32)) = some (onB (fun j => decide (g (0 + j) = g (16 + j) ∧ g (8 + j) = g (24 + j))) n) := by
    refine on_lp (fun j => decide (g (0 + j) = g (16 + j) ∧ g (8 + j) = g (24 + j))) (by omega) (fun j x hj => ?_) (fun x => ?_)
    · show B_X8_stillOnes_4 (nI n) g x (nI j) = some (.inl (x ||| (if decide (g (0 + j) = g (16 + j) ∧ g (8 + j) = g (24 + j)) = true then (1 : Int32) <<< (nI j &&& 31) else 0), nI (j + 1)))
      unfold B_X8_stillOnes_4
      simp only [bm_ix (A := (0 : Int32)) (a := 0) rfl (show 0 + j < 265 by omega), bm_ix (A := (16 : Int32)) (a := 16) rfl (show 16 + j < 265 by omega), bm_ix (A := (8 : Int32)) (a := 8) rfl (show 8 + j < 265 by omega), bm_ix (A := (24 : Int32)) (a := 24) rfl (show 24 + j < 265 by omega), bm_cl (A := (0 : Int32)) (a := 0) rfl (show 0 + j < 265 by omega), bm_cl (A := (16 : Int32)) (a := 16) rfl (show 16 + j < 265 by omega), bm_cl (A := (8 : Int32)) (a := 8) rfl (show 8 + j < 265 by omega), bm_cl (A := (24 : Int32)) (a := 24) rfl (show 24 + j < 265 by omega)]
      rw [if_neg (mt (nI_leI (a := n) (b := j) (by omega) (by omega)).mp (by omega)), nI_1]
      by_cases a : g (0 + j) = g (16 + j)
      · by_cases b : g (8 + j) = g (24 + j)
        · rw [if_pos a, if_pos b, if_pos (decide_eq_true ⟨a, b⟩)]
        · rw [if_pos a, if_neg b, if_neg (on_m (p := g (0 + j) = g (16 + j) ∧ g (8 + j) = g (24 + j)) (fun w => b w.2))]
      · rw [if_neg a, if_neg (on_m (p := g (0 + j) = g (16 + j) ∧ g (8 + j) = g (24 + j)) (fun w => a w.1))]
    · show B_X8_stillOnes_4 (nI n) g x (nI n) = some (.inr x)
      unfold B_X8_stillOnes_4
      rw [if_pos le]
  unfold F_X5_unmovedSites F_X8_stillOnes
  rw [A, B]
  exact ⟨_, rfl, rfl⟩
theorem p_most {n K : Nat} {f g : Nat → Int32} {x : Int32} (hK : 200000 ≤ K) (h : RowR n f g) (hI : RowI n g) (hm : f 11 = g 67) (hs : ∀ i, i < n → 0 ≤ absF (g (32 + i)) + absF (g (40 + i))) : ∃ v, F_X7_most K x f = some v ∧ F_X8_most K x g (nI n) = some v := by
  have n8 := h.n8
  obtain ⟨s1, s2⟩ := sd_both n8 h.sz
  unfold F_X7_most F_X8_most
  by_cases z : n = 0
  · rw [s1, s2, if_pos z, xb1, xb1, if_pos rfl, if_pos rfl]
    exact ⟨_, rfl, rfl⟩
  · rw [s1, s2, if_neg z, xb1, xb1, if_neg n10, if_neg n10, m_in0 (m := 11) (by decide), xb1, ite10]
    by_cases d : 0 ≤ x ∧ x ≤ nI 11
    · rw [if_pos d]
      obtain ⟨m, hm9, rfl⟩ := in_lt (p := x) (a := 12) (by omega) (by rw [show nI 12 - 1 = nI 11 by decide]; exact d)
      obtain ⟨q, q1, q2⟩ := on_q hK h hI.1
      obtain ⟨s, w1, w2⟩ := on_s hK h hs
      obtain ⟨u, u1, u2⟩ := on_u hK h
      have t4 := tot_both hK h (c := 4) (by decide)
      have t5 := tot_both hK h (c := 5) (by decide)
      have e4 : F_X5_total K (4 : Int32) f = some (sgm (fun i => g (8 * 4 + i)) n) := t4.1
      have e5 : F_X5_total K (5 : Int32) f = some (sgm (fun i => g (8 * 5 + i)) n) := t5.1
      have r4 : F_X8_sum K (32 : Int32) g (nI n) = some (sgm (fun i => g (8 * 4 + i)) n) := t4.2
      have r5 : F_X8_sum K (40 : Int32) g (nI n) = some (sgm (fun i => g (8 * 5 + i)) n) := t5.2
      have fz := m_frz (g := g) hK n8
      have f7 : f 7 = nI (row_mk g n) := by rw [h.1.fr, row_frz_mk n n8]
      have g1 : f 12 = g 68 := h.sc (12, 68) (by decide)
      have g2 : f 13 = g 69 := h.sc (13, 69) (by decide)
      have g3 : f 14 = g 70 := h.sc (14, 70) (by decide)
      have g4 : f 15 = g 71 := h.sc (15, 71) (by decide)
      have g5 : f 6 = g 72 := h.sc (6, 72) (by decide)
      rw [q1, q2, w1, w2, u1, u2, e4, e5, r4, r5, fz, f7, hm, g1, g2, g3, g4, g5]
      rcases (show m = 0 ∨ m = 1 ∨ m = 2 ∨ m = 3 ∨ m = 4 ∨ m = 5 ∨ m = 6 ∨ m = 7 ∨ m = 8 ∨ m = 9 ∨ m = 10 ∨ m = 11 by omega) with rfl | rfl | rfl | rfl | rfl | rfl | rfl | rfl | rfl | rfl | rfl | rfl
      all_goals exact ⟨_, rfl, rfl⟩
    · rw [if_neg d]
      have ne : ∀ c C, c ≤ 11 → C = nI c → ¬ x = C := fun c C hc e w => d (by
        rw [w, e]
        exact ⟨(nI_leI (a := 0) (b := c) (by omega) (by omega)).mpr (by omega), (nI_leI (a := c) (b := 11) (by omega) (by omega)).mpr hc⟩)
      rw [if_neg (ne 0 0 (by omega) rfl), if_neg (ne 1 1 (by omega) rfl), if_neg (ne 2 2 (by omega) rfl), if_neg (ne 3 3 (by omega) rfl), if_neg (ne 4 4 (by omega) rfl), if_neg (ne 5 5 (by omega) rfl), if_neg (ne 6 6 (by omega) rfl), if_neg (ne 7 7 (by omega) rfl), if_neg (ne 8 8 (by omega) rfl), if_neg (ne 9 9 (by omega) rfl), if_neg (ne 10 10 (by omega) rfl), if_neg (ne 11 11 (by omega) rfl)]
      exact ⟨_, rfl, rfl⟩
end
-- 83c.40S4
section
/-! Slacks, 4: added up they don't run over -/
theorem ab_ti {x : Int32} (h1 : -6399952 ≤ x.toInt) (h2 : x.toInt ≤ 6399952) : 0 ≤ (absF x).toInt ∧ (absF x).toInt ≤ 6399952 := by
  have t0 : (0 : Int32).toInt = 0 := by decide
  unfold absF
  by_cases c : 0 ≤ x
  · have c2 := Int32.le_iff_toInt_le.mp c
    rw [t0] at c2
    rw [if_pos c]
    exact ⟨c2, h2⟩
  · have c2 := mt Int32.le_iff_toInt_le.mpr c
    rw [t0] at c2
    rw [if_neg c, ti_sub (by omega) (by omega), t0]
    exact ⟨by omega, by omega⟩
theorem ab_sum {x y : Int32} (h1 : -6399952 ≤ x.toInt ∧ x.toInt ≤ 6399952) (h2 : -6399952 ≤ y.toInt ∧ y.toInt ≤ 6399952) : 0 ≤ absF x + absF y := by
  have t0 : (0 : Int32).toInt = 0 := by decide
  have a := ab_ti h1.1 h1.2
  have b := ab_ti h2.1 h2.2
  rw [Int32.le_iff_toInt_le, t0, ti_add (by omega) (by omega)]
  omega
theorem p_mostS {n K : Nat} {f g : Nat → Int32} {x : Int32} (hK : 200000 ≤ K) (h : RowR n f g) (hI : RowI n g) (hm : f 11 = g 67) : ∃ v, F_X7_most K x f = some v ∧ F_X8_most K x g (nI n) = some v :=
  p_most hK h hI hm (fun i hi => by
    have q := (hI.2 (by omega)).2.2.1
    have a : -6399952 ≤ (g (32 + i)).toInt ∧ (g (32 + i)).toInt ≤ 6399952 := q.2.1.bd h.n8 hi
    have b : -6399952 ≤ (g (40 + i)).toInt ∧ (g (40 + i)).toInt ≤ 6399952 := q.2.2.bd h.n8 hi
    exact ab_sum a b)
end
-- 84a.sb0
section

/-! calls at an object of a class below the method's own; the texts' bytes -/
def wsC (own : String) (idx : Nat) (C : String) (y : MethodName) (ws : List Cond) : List Cond := ([.methodLink own idx y, .instanceMethod y, .selects C y y, .initialized y.cls] : List Cond) ++ ws
theorem cwC {R : Room} {s : State} {args : Array Value} {own C : String} {index maxL mc ms : Nat} {y : MethodName} {bytes : ByteArray} {ret : Option FieldType} {Ts ws ws' : List Cond} {rm : Room} (n : Nat) (ht : ∀ w ∈ Ts, w.before args s = true) (hT : GoodIn Ts (wsC own index C y ws)) (hw : ws = Cond.code y bytes maxL ret :: ws') (hrc : rm.cells = mc) (hrs : rm.slots = ms)
    (hd : y.cls ≠ "java/lang/invoke/MethodHandle" ∧ y.cls ≠ "java/lang/invoke/VarHandle" ∧ (parseMethodDescriptor y.desc).map (fun d => d.parameters.length) = some n) (hR : rm.frames + 1 ≤ R.frames ∧ 8 + (maxL + 11) + rm.locals ≤ R.locals) :
    CallW R s args own C index y bytes maxL ret ws rm mc ms n := by
  have ok : ∀ w ∈ wsC own index C y ws, w.before args s = true := fun w h => ht w (hT w h).1
  exact ⟨callB_of n ht (fun w h => hT w (by unfold wsC; exact List.mem_append_right _ h)) hw hrc hrs (ok _ (by simp [wsC])) (ok _ (by simp [wsC])) hd hR, ok _ (by simp [wsC]), ok _ (by simp [wsC])⟩
theorem strB_fitA : ∀ l ∈ strB, ∀ x ∈ l, fits .byte (.int x) = true := by decide
theorem strB_fit (p j : Nat) : fits .byte (.int ((strB.getD p []).getD j 0)) = true := by
  rw [List.getD_eq_getElem?_getD, List.getD_eq_getElem?_getD]
  cases h : strB[p]? with
  | none => exact (by decide : fits .byte (.int 0) = true)
  | some l =>
    show fits .byte (.int (l[j]?.getD 0)) = true
    cases h2 : l[j]? with
    | none => exact (by decide : fits .byte (.int 0) = true)
    | some x => exact strB_fitA l (List.mem_of_getElem? h) x (List.mem_of_getElem? h2)
theorem fit_nar (x : Int32) : fits .byte (.int (vp_nar .byte x)) = true := by rw [vp_nar_byte]; exact pk_fb _
end
