/-! Stage B, 4: the counts start anew, a round ends, in both -/
abbrev StB (n : Nat) (f g : Nat → Int32) : Prop := ∀ i c, i < n → c < 8 → f (17 + 8 * i + c) = g (8 * c + i)
theorem StB.put {n i c : Nat} {f g : Nat → Int32} (h : StB n f g) (n8 : n ≤ 8) (hi : i < n) (hc : c < 8) (v : Int32) : StB n (upd f (17 + 8 * i + c) v) (upd g (8 * c + i) v) := by
  intro j d hj hd
  by_cases e : j = i ∧ d = c
  · obtain ⟨e1, e2⟩ := e
    rw [e1, e2, upd_at, upd_at]
  · rw [upd_ne (by omega), upd_ne (by omega)]; exact h j d hj hd
theorem StB.low {n a : Nat} {f g : Nat → Int32} (h : StB n f g) (ha : a < 17) (v : Int32) : StB n (upd f a v) g := fun j d hj hd => by
  rw [upd_ne (by omega)]; exact h j d hj hd
theorem StB.high {n b : Nat} {f g : Nat → Int32} (h : StB n f g) (n8 : n ≤ 8) (hb : 64 ≤ b) (v : Int32) : StB n f (upd g b v) := fun j d hj hd => by
  rw [upd_ne (by omega)]; exact h j d hj hd
theorem RowR.of {n : Nat} {f g f' g' : Nat → Int32} (h : RowR n f g) (h1 : StB n f' g') (h2 : f' 3 = f 3) (h3 : ∀ p ∈ rowScl, f' p.1 = g' p.2) (h4 : f' 4 = f 4) (h5 : f' 5 = f 5) (h7 : f' 7 = f 7) (h8 : ∀ i, i < 8 → g' (76 + i) = g (76 + i)) (h9 : ∀ k, 16 ≤ k → k < 32 → g' k = g k) : RowR n f' g' := by
  have n8 := h.n8
  refine ⟨⟨n8, h2.trans h.sz, h1, h3, ?_⟩, ?_, ?_⟩
  · rw [h7, h.toRowB.fr]
    exact row_frz_eq n (fun k hk => (h8 k (by omega)).symm)
  · rw [h4, h.sx]
    exact sgm_eq n (fun k hk => (h9 (16 + k) (by omega) (by omega)).symm)
  · rw [h5, h.sy]
    exact sgm_eq n (fun k hk => (h9 (24 + k) (by omega) (by omega)).symm)
theorem rowScl_11 : ∀ p ∈ rowScl, ¬ p.1 = 11 ∧ ¬ p.2 = 67 := by decide
/-- the messages stand beside that -/
theorem RowR.fr11 {n : Nat} {f g : Nat → Int32} (h : RowR n f g) (v w : Int32) : RowR n (upd f 11 v) (upd g 67 w) := by
  have n8 := h.n8
  refine h.of (fun i c hi hc => ?_) (upd_ne (by decide)) (fun p hp => ?_) (upd_ne (by decide)) (upd_ne (by decide)) (upd_ne (by decide)) (fun i hi => upd_ne (by omega)) (fun k a b => upd_ne (by omega))
  · rw [upd_ne (by omega), upd_ne (by omega)]
    exact h.toRowB.st i c hi hc
  · obtain ⟨a, b⟩ := rowScl_11 p hp
    rw [upd_ne a, upd_ne b]
    exact h.sc p hp
theorem b_goal {i n : Nat} {f : Nat → Int32} (hi : i < n) (hn : n ≤ 8) (h3 : f 3 = nI n) : B_X5_startCounts_33 (nI i) f = some (.inl (nI (i + 1), upd (upd f (17 + 8 * i + 6) 0) (17 + 8 * i + 7) 0)) := by
  unfold B_X5_startCounts_33 F_X5_sites
  rw [xb1, h3, if_neg (mt (nI_leI (a := n) (b := i) (by omega) (by omega)).mp (by omega)), bx_put (c := 6) (by rfl) (by omega) (by decide), xb1, bx_put (c := 7) (by rfl) (by omega) (by decide), xb1, nI_1]
theorem m_goal {i n : Nat} {g : Nat → Int32} (hi : i < n) (hn : n ≤ 8) : B_X8_setsGoal_18 (nI n) (nI i) g = some (.inl (nI (i + 1), upd (upd g (48 + i) 0) (56 + i) 0)) := by
  unfold B_X8_setsGoal_18
  rw [if_neg (mt (nI_leI (a := n) (b := i) (by omega) (by omega)).mp (by omega))]
  simp only [bm_ix (A := (48 : Int32)) (a := 48) rfl (show 48 + i < 265 by omega), bm_ix (A := (56 : Int32)) (a := 56) rfl (show 56 + i < 265 by omega), bm_cl (A := (48 : Int32)) (a := 48) rfl (show 48 + i < 265 by omega), bm_cl (A := (56 : Int32)) (a := 56) rfl (show 56 + i < 265 by omega), xnm, nI_1]
def GoR (n : Nat) (f g : Nat → Int32) (i : Nat) (s t : Int32 × (Nat → Int32)) : Prop := s.1 = nI i ∧ t.1 = nI i ∧ StB n s.2 t.2 ∧ (∀ k, k < 17 → s.2 k = f k) ∧ (∀ k, (k < 48 ∨ 64 ≤ k) → t.2 k = g k) ∧ ∀ j, j < i → t.2 (48 + j) = 0 ∧ t.2 (56 + j) = 0
theorem GoR.step {n i : Nat} {f g : Nat → Int32} {s t : Int32 × (Nat → Int32)} (n8 : n ≤ 8) (h3 : f 3 = nI n) (hi : i < n) (h : GoR n f g i s t) : ∃ s' t', B_X5_startCounts_33 s.1 s.2 = some (.inl s') ∧ B_X8_setsGoal_18 (nI n) t.1 t.2 = some (.inl t') ∧ GoR n f g (i + 1) s' t' := by
  obtain ⟨x, f1⟩ := s
  obtain ⟨y, g1⟩ := t
  obtain ⟨e1, e2, hB, hf, hg, hz⟩ := h
  have e1 : x = nI i := e1
  have e2 : y = nI i := e2
  have hB : StB n f1 g1 := hB
  subst e1 e2
  refine ⟨_, _, b_goal hi n8 ((hf 3 (by decide)).trans h3), m_goal hi n8, rfl, rfl, (hB.put (c := 6) n8 hi (by decide) 0).put (c := 7) n8 hi (by decide) 0, ?_, ?_, ?_⟩
  · intro k hk
    show upd (upd f1 (17 + 8 * i + 6) 0) (17 + 8 * i + 7) 0 k = f k
    rw [upd_ne (by omega), upd_ne (by omega)]
    exact hf k hk
  · intro k hk
    show upd (upd g1 (48 + i) 0) (56 + i) 0 k = g k
    rw [upd_ne (by omega), upd_ne (by omega)]
    exact hg k hk
  · intro j hj
    show upd (upd g1 (48 + i) 0) (56 + i) 0 (48 + j) = 0 ∧ upd (upd g1 (48 + i) 0) (56 + i) 0 (56 + j) = 0
    by_cases c : j = i
    · rw [c, upd_ne (by omega), upd_at, upd_at]
      exact ⟨rfl, rfl⟩
    · rw [upd_ne (by omega), upd_ne (by omega), upd_ne (by omega), upd_ne (by omega)]
      exact hz j (by omega)
/-- a new goal -/
theorem sg_both {n K : Nat} {f g : Nat → Int32} {p : Int32} (hK : 200000 ≤ K) (h : RowR n f g) : ∃ f' g', F_X5_startCounts K p f = some f' ∧ F_X8_setsGoal K p g (nI n) = some (g 66, g') ∧ RowR n f' g' ∧ (∀ k, (k < 48 ∨ 64 ≤ k) → ¬ k = 66 → ¬ k = 73 → ¬ k = 74 → ¬ k = 75 → g' k = g k) ∧ g' 66 = p ∧ g' 73 = 0 ∧ g' 75 = 0 ∧ ∀ j, j < n → g' (48 + j) = 0 ∧ g' (56 + j) = 0 := by
  have n8 := h.n8
  have z3 : (upd (upd (upd (upd f 2 p) 8 0) 9 0) 10 0) 3 = nI n := by
    rw [upd_ne (by decide), upd_ne (by decide), upd_ne (by decide), upd_ne (by decide)]
    exact h.sz
  have he : ∀ s t, GoR n (upd (upd (upd (upd f 2 p) 8 0) 9 0) 10 0) (upd g 66 p) n s t → ∃ r u, (fun u9 : Int32 × (Nat → Int32) => B_X5_startCounts_33 u9.1 u9.2) s = some (.inr r) ∧ (fun u9 : Int32 × (Nat → Int32) => B_X8_setsGoal_18 (nI n) u9.1 u9.2) t = some (.inr u) ∧ GoR n (upd (upd (upd (upd f 2 p) 8 0) 9 0) 10 0) (upd g 66 p) n (nI n, r) (nI n, u) := by
    intro s t q
    obtain ⟨x, f1⟩ := s
    obtain ⟨y, g1⟩ := t
    obtain ⟨e1, e2, hB, hf, hg, hz⟩ := q
    have e1 : x = nI n := e1
    have e2 : y = nI n := e2
    subst e1 e2
    have le : nI n ≤ nI n := (nI_leI (a := n) (b := n) (by omega) (by omega)).mpr (Nat.le_refl _)
    refine ⟨f1, g1, ?_, ?_, rfl, rfl, hB, hf, hg, hz⟩
    · show B_X5_startCounts_33 (nI n) f1 = _
      unfold B_X5_startCounts_33 F_X5_sites
      rw [xb1, show f1 3 = nI n from (hf 3 (by decide)).trans z3, if_pos le]
    · show B_X8_setsGoal_18 (nI n) (nI n) g1 = _
      unfold B_X8_setsGoal_18
      rw [if_pos le]
  have h0 : GoR n (upd (upd (upd (upd f 2 p) 8 0) 9 0) 10 0) (upd g 66 p) 0 ((0 : Int32), upd (upd (upd (upd f 2 p) 8 0) 9 0) 10 0) ((0 : Int32), upd g 66 p) := ⟨rfl, rfl, ((((StB.low h.toRowB.st (by decide) p).low (by decide) 0).low (by decide) 0).low (by decide) 0).high n8 (by decide) p, fun _ _ => rfl, fun _ _ => rfl, fun j hj => absurd hj (Nat.not_lt_zero _)⟩
  obtain ⟨r, u, e1, e2, -, -, hB, hf, hg, hz⟩ := lp_two (GoR n (upd (upd (upd (upd f 2 p) 8 0) 9 0) 10 0) (upd g 66 p)) (fun r u => GoR n (upd (upd (upd (upd f 2 p) 8 0) 9 0) 10 0) (upd g 66 p) n (nI n, r) (nI n, u)) (n := n) (K := K) (K' := K) (by omega) (by omega) (fun i s t hi q => Or.inl (GoR.step n8 z3 hi q)) he h0
  have hB : StB n r u := hB
  have hf : ∀ k, k < 17 → r k = (upd (upd (upd (upd f 2 p) 8 0) 9 0) 10 0) k := hf
  have hg : ∀ k, (k < 48 ∨ 64 ≤ k) → u k = (upd g 66 p) k := hg
  have hz : ∀ j, j < n → u (48 + j) = 0 ∧ u (56 + j) = 0 := hz
  have fx : ∀ k, k < 17 → ¬ k = 2 → ¬ k = 8 → ¬ k = 9 → ¬ k = 10 → r k = f k := fun k hk a1 a2 a3 a4 => by
    rw [hf k hk, upd_ne a4, upd_ne a3, upd_ne a2, upd_ne a1]
  have gx : ∀ k, (k < 48 ∨ 64 ≤ k) → ¬ k = 66 → ¬ k = 73 → ¬ k = 74 → ¬ k = 75 → (upd (upd (upd u 73 0) 74 0) 75 0) k = g k := fun k hk a1 a2 a3 a4 => by
    rw [upd_ne a4, upd_ne a3, upd_ne a2, hg k hk, upd_ne a1]
  have g66 : (upd (upd (upd u 73 0) 74 0) 75 0) 66 = p := by rw [upd_ne (by decide), upd_ne (by decide), upd_ne (by decide), hg 66 (by omega), upd_at]
  have g73 : (upd (upd (upd u 73 0) 74 0) 75 0) 73 = 0 := by rw [upd_ne (by decide), upd_ne (by decide), upd_at]
  have g74 : (upd (upd (upd u 73 0) 74 0) 75 0) 74 = 0 := by rw [upd_ne (by decide), upd_at]
  have g75 : (upd (upd (upd u 73 0) 74 0) 75 0) 75 = 0 := upd_at
  refine ⟨r, upd (upd (upd u 73 0) 74 0) 75 0, ?_, ?_, h.of (((hB.high n8 (by decide) 0).high n8 (by decide) 0).high n8 (by decide) 0) (fx 3 (by decide) (by decide) (by decide) (by decide) (by decide)) ?_ (fx 4 (by decide) (by decide) (by decide) (by decide) (by decide)) (fx 5 (by decide) (by decide) (by decide) (by decide) (by decide)) (fx 7 (by decide) (by decide) (by decide) (by decide) (by decide)) (fun i hi => gx (76 + i) (by omega) (by omega) (by omega) (by omega) (by omega)) (fun k a b => gx k (by omega) (by omega) (by omega) (by omega) (by omega)), gx, g66, g73, g75, ?_⟩
  · unfold F_X5_startCounts
    rw [xnm, xnm, xnm, xnm, e1, xb1]
  · unfold F_X8_setsGoal
    rw [xnm, e2, xb1, xnm, xnm, xnm]
  · intro q hq
    obtain ⟨b1, b2, b3, b4, b5, b6, b7⟩ := rowScl_b q hq
    have u2 := rowScl_u q hq (2, 66) (by decide)
    have u8 := rowScl_u q hq (8, 73) (by decide)
    have u9 := rowScl_u q hq (9, 75) (by decide)
    have u10 := rowScl_u q hq (10, 74) (by decide)
    by_cases c2 : q.1 = 2
    · rw [c2, show q.2 = 66 from u2.mp c2, g66, hf 2 (by decide), upd_ne (by decide), upd_ne (by decide), upd_ne (by decide), upd_at]
    by_cases c8 : q.1 = 8
    · rw [c8, show q.2 = 73 from u8.mp c8, g73, hf 8 (by decide), upd_ne (by decide), upd_ne (by decide), upd_at]
    by_cases c9 : q.1 = 9
    · rw [c9, show q.2 = 75 from u9.mp c9, g75, hf 9 (by decide), upd_ne (by decide), upd_at]
    by_cases c10 : q.1 = 10
    · rw [c10, show q.2 = 74 from u10.mp c10, g74, hf 10 (by decide), upd_at]
    rw [fx q.1 b1 c2 c8 c9 c10, gx q.2 (Or.inr b6) (fun z => c2 (u2.mpr z)) (fun z => c8 (u8.mpr z)) (fun z => c10 (u10.mpr z)) (fun z => c9 (u9.mpr z))]
    exact h.sc q hq
  · intro j hj
    rw [upd_ne (by omega), upd_ne (by omega), upd_ne (by omega), upd_ne (by omega), upd_ne (by omega), upd_ne (by omega)]
    exact hz j hj
