/-! Stage B, 5: a round ends, in both; two loops in step whose second may go on a while -/
theorem lp_twoXA {σ τ ρ υ : Type} {b : σ → Option (σ ⊕ ρ)} {d : τ → Option (τ ⊕ υ)} (R : Nat → σ → τ → Prop) (Q : ρ → υ → Prop) {n : Nat} (hs : ∀ i s t, i ≤ n → R i s t → (i < n ∧ ∃ s' t', b s = some (.inl s') ∧ d t = some (.inl t') ∧ R (i + 1) s' t') ∨ (∃ r u, b s = some (.inr r) ∧ (∀ J, 2 ≤ J → lpF d J t = some u) ∧ Q r u)) : ∀ (k i : Nat) (s : σ) (t : τ) (K K' : Nat), i + k = n → k < K → k + 1 < K' → R i s t → ∃ r u, lpF b K s = some r ∧ lpF d K' t = some u ∧ Q r u := by
  intro k
  induction k with
  | zero =>
    intro i s t K K' h1 h2 h3 h4
    obtain ⟨K2, rfl⟩ : ∃ K2, K = K2 + 1 := ⟨K - 1, by omega⟩
    rcases hs i s t (by omega) h4 with ⟨hlt, -⟩ | ⟨r, u, e1, e2, q⟩
    · omega
    · exact ⟨r, u, lp_end e1, e2 K' (by omega), q⟩
  | succ k ih =>
    intro i s t K K' h1 h2 h3 h4
    obtain ⟨K2, rfl⟩ : ∃ K2, K = K2 + 1 := ⟨K - 1, by omega⟩
    rcases hs i s t (by omega) h4 with ⟨-, s', t', e1, e2, q⟩ | ⟨r, u, e1, e2, q⟩
    · obtain ⟨K3, rfl⟩ : ∃ K3, K' = K3 + 1 := ⟨K' - 1, by omega⟩
      rw [lp_one e1, lp_one e2]
      exact ih (i + 1) s' t' K2 K3 (by omega) (by omega) (by omega) q
    · exact ⟨r, u, lp_end e1, e2 K' (by omega), q⟩
theorem bb_end {i n : Nat} {f : Nat → Int32} (hi : i < n) (hn : n ≤ 8) (h3 : f 3 = nI n) : B_X5_endRound_34 (nI i) f = some (.inl (nI (i + 1), upd f (17 + 8 * i + 7) 0)) := by
  unfold B_X5_endRound_34 F_X5_sites
  rw [xb1, h3, if_neg (mt (nI_leI (a := n) (b := i) (by omega) (by omega)).mp (by omega)), bx_put (c := 7) (by rfl) (by omega) (by decide), xb1, nI_1]
theorem bm_end {i n : Nat} {g : Nat → Int32} (hi : i < n) (hn : n ≤ 8) : B_X8_endsRound_15 (nI n) (nI i) g = some (.inl (nI (i + 1), upd g (56 + i) 0)) := by
  unfold B_X8_endsRound_15
  rw [if_neg (mt (nI_leI (a := n) (b := i) (by omega) (by omega)).mp (by omega))]
  simp only [bm_ix (A := (56 : Int32)) (a := 56) rfl (show 56 + i < 265 by omega), bm_cl (A := (56 : Int32)) (a := 56) rfl (show 56 + i < 265 by omega), xnm, nI_1]
def EnR (n : Nat) (f g : Nat → Int32) (i : Nat) (s t : Int32 × (Nat → Int32)) : Prop := s.1 = nI i ∧ t.1 = nI i ∧ StB n s.2 t.2 ∧ (∀ k, k < 17 → s.2 k = f k) ∧ (∀ k, (k < 56 ∨ 64 ≤ k) → t.2 k = g k) ∧ ∀ j, j < i → t.2 (56 + j) = 0
theorem EnR.step {n i : Nat} {f g : Nat → Int32} {s t : Int32 × (Nat → Int32)} (n8 : n ≤ 8) (h3 : f 3 = nI n) (hi : i < n) (h : EnR n f g i s t) : ∃ s' t', B_X5_endRound_34 s.1 s.2 = some (.inl s') ∧ B_X8_endsRound_15 (nI n) t.1 t.2 = some (.inl t') ∧ EnR n f g (i + 1) s' t' := by
  obtain ⟨x, f1⟩ := s
  obtain ⟨y, g1⟩ := t
  obtain ⟨e1, e2, hB, hf, hg, hz⟩ := h
  have e1 : x = nI i := e1
  have e2 : y = nI i := e2
  have hB : StB n f1 g1 := hB
  subst e1 e2
  refine ⟨_, _, bb_end hi n8 ((hf 3 (by decide)).trans h3), bm_end hi n8, rfl, rfl, hB.put (c := 7) n8 hi (by decide) 0, ?_, ?_, ?_⟩
  · intro k hk
    show upd f1 (17 + 8 * i + 7) 0 k = f k
    rw [upd_ne (by omega)]
    exact hf k hk
  · intro k hk
    show upd g1 (56 + i) 0 k = g k
    rw [upd_ne (by omega)]
    exact hg k hk
  · intro j hj
    show upd g1 (56 + i) 0 (56 + j) = 0
    by_cases c : j = i
    · rw [c, upd_at]
    · rw [upd_ne (by omega)]
      exact hz j (by omega)
theorem EnR.both {n K : Nat} {f g : Nat → Int32} (hK : 200000 ≤ K) (n8 : n ≤ 8) (h3 : f 3 = nI n) (h : StB n f g) : ∃ r u, lpF (fun u9 : Int32 × (Nat → Int32) => B_X5_endRound_34 u9.1 u9.2) K ((0 : Int32), f) = some r ∧ lpF (fun u9 : Int32 × (Nat → Int32) => B_X8_endsRound_15 (nI n) u9.1 u9.2) K ((0 : Int32), g) = some u ∧ StB n r u ∧ (∀ k, k < 17 → r k = f k) ∧ (∀ k, (k < 56 ∨ 64 ≤ k) → u k = g k) ∧ ∀ j, j < n → u (56 + j) = 0 := by
  have he : ∀ s t, EnR n f g n s t → ∃ r u, (fun u9 : Int32 × (Nat → Int32) => B_X5_endRound_34 u9.1 u9.2) s = some (.inr r) ∧ (fun u9 : Int32 × (Nat → Int32) => B_X8_endsRound_15 (nI n) u9.1 u9.2) t = some (.inr u) ∧ (StB n r u ∧ (∀ k, k < 17 → r k = f k) ∧ (∀ k, (k < 56 ∨ 64 ≤ k) → u k = g k) ∧ ∀ j, j < n → u (56 + j) = 0) := by
    intro s t q
    obtain ⟨x, f1⟩ := s
    obtain ⟨y, g1⟩ := t
    obtain ⟨e1, e2, hB, hf, hg, hz⟩ := q
    have e1 : x = nI n := e1
    have e2 : y = nI n := e2
    subst e1 e2
    have le : nI n ≤ nI n := (nI_leI (a := n) (b := n) (by omega) (by omega)).mpr (Nat.le_refl _)
    refine ⟨f1, g1, ?_, ?_, hB, hf, hg, hz⟩
    · show B_X5_endRound_34 (nI n) f1 = _
      unfold B_X5_endRound_34 F_X5_sites
      rw [xb1, show f1 3 = nI n from (hf 3 (by decide)).trans h3, if_pos le]
    · show B_X8_endsRound_15 (nI n) (nI n) g1 = _
      unfold B_X8_endsRound_15
      rw [if_pos le]
  have h0 : EnR n f g 0 ((0 : Int32), f) ((0 : Int32), g) := ⟨rfl, rfl, h, fun _ _ => rfl, fun _ _ => rfl, fun j hj => absurd hj (Nat.not_lt_zero _)⟩
  exact lp_two (EnR n f g) (fun r u => StB n r u ∧ (∀ k, k < 17 → r k = f k) ∧ (∀ k, (k < 56 ∨ 64 ≤ k) → u k = g k) ∧ ∀ j, j < n → u (56 + j) = 0) (n := n) (K := K) (K' := K) (by omega) (by omega) (fun i s t hi q => Or.inl (EnR.step n8 h3 hi q)) he h0
/-- a round ends -/
theorem er_both {n K : Nat} {f g : Nat → Int32} (hK : 200000 ≤ K) (h : RowR n f g) : ∃ f' g', F_X5_endRound K f = some f' ∧ F_X8_endsRound K g (nI n) = some g' ∧ RowR n f' g' ∧ (∀ k, (k < 56 ∨ 64 ≤ k) → ¬ k = 73 → ¬ k = 74 → ¬ k = 75 → g' k = g k) ∧ g' 73 = sgm (fun i => g (48 + i)) n ∧ g' 75 = 0 ∧ ∀ j, j < n → g' (56 + j) = 0 := by
  have n8 := h.n8
  have eS : sgm (fun i => f (17 + 8 * i + 6)) n = sgm (fun i => g (48 + i)) n := sgm_eq n (fun i hi => h.toRowB.st i 6 hi (by decide))
  have t6 : F_X5_total K (6 : Int32) f = some (sgm (fun i => g (48 + i)) n) := by rw [← eS]; exact b_total hK n8 h.sz (c := 6) (by decide)
  have t48 : F_X8_sum K (48 : Int32) g (nI n) = some (sgm (fun i => g (48 + i)) n) := bm_sum hK n8 (b := 48) (by decide)
  unfold F_X5_endRound F_X8_endsRound
  rw [t6, xb1, xnm, xnm, xnm, t48, xb1, xnm]
  generalize sgm (fun i => g (48 + i)) n = S
  have q10 : (upd (upd f 8 S) 9 0) 10 = f 10 := by rw [upd_ne (by decide), upd_ne (by decide)]
  rw [q10]
  have z3 : (upd (upd (upd f 8 S) 9 0) 10 (f 10 + 1)) 3 = nI n := by
    rw [upd_ne (by decide), upd_ne (by decide), upd_ne (by decide)]
    exact h.sz
  obtain ⟨r, u, e1, e2, hB, hf, hg, hz⟩ := EnR.both hK n8 z3 ((((StB.low h.toRowB.st (by decide) S).low (by decide) 0).low (by decide) (f 10 + 1)).high n8 (b := 73) (by decide) S)
  have fx : ∀ k, k < 17 → ¬ k = 8 → ¬ k = 9 → ¬ k = 10 → r k = f k := fun k hk a2 a3 a4 => by
    rw [hf k hk, upd_ne a4, upd_ne a3, upd_ne a2]
  have q74 : (upd u 75 0) 74 = g 74 := by rw [upd_ne (by decide), hg 74 (by omega), upd_ne (by decide)]
  rw [e1, xb1, e2, xb1, xnm, xnm, q74]
  have gx : ∀ k, (k < 56 ∨ 64 ≤ k) → ¬ k = 73 → ¬ k = 74 → ¬ k = 75 → (upd (upd u 75 0) 74 (g 74 + 1)) k = g k := fun k hk a2 a3 a4 => by
    rw [upd_ne a3, upd_ne a4, hg k hk, upd_ne a2]
  have g73 : (upd (upd u 75 0) 74 (g 74 + 1)) 73 = S := by rw [upd_ne (by decide), upd_ne (by decide), hg 73 (by omega), upd_at]
  have g74 : (upd (upd u 75 0) 74 (g 74 + 1)) 74 = g 74 + 1 := upd_at
  have g75 : (upd (upd u 75 0) 74 (g 74 + 1)) 75 = 0 := by rw [upd_ne (by decide), upd_at]
  refine ⟨r, _, rfl, rfl, h.of ((hB.high n8 (by decide) 0).high n8 (by decide) (g 74 + 1)) (fx 3 (by decide) (by decide) (by decide) (by decide)) ?_ (fx 4 (by decide) (by decide) (by decide) (by decide)) (fx 5 (by decide) (by decide) (by decide) (by decide)) (fx 7 (by decide) (by decide) (by decide) (by decide)) (fun i hi => gx (76 + i) (by omega) (by omega) (by omega) (by omega)) (fun k a b => gx k (by omega) (by omega) (by omega) (by omega)), gx, g73, g75, ?_⟩
  · intro q hq
    obtain ⟨b1, b2, b3, b4, b5, b6, b7⟩ := rowScl_b q hq
    have u8 := rowScl_u q hq (8, 73) (by decide)
    have u9 := rowScl_u q hq (9, 75) (by decide)
    have u10 := rowScl_u q hq (10, 74) (by decide)
    by_cases c8 : q.1 = 8
    · rw [c8, show q.2 = 73 from u8.mp c8, g73, hf 8 (by decide), upd_ne (by decide), upd_ne (by decide), upd_at]
    by_cases c9 : q.1 = 9
    · rw [c9, show q.2 = 75 from u9.mp c9, g75, hf 9 (by decide), upd_ne (by decide), upd_at]
    by_cases c10 : q.1 = 10
    · rw [c10, show q.2 = 74 from u10.mp c10, g74, hf 10 (by decide), upd_at, show f 10 = g 74 from h.sc (10, 74) (by decide)]
    rw [fx q.1 b1 c8 c9 c10, gx q.2 (Or.inr b6) (fun z => c8 (u8.mpr z)) (fun z => c10 (u10.mpr z)) (fun z => c9 (u9.mpr z))]
    exact h.sc q hq
  · intro j hj
    rw [upd_ne (by omega), upd_ne (by omega)]
    exact hz j hj
