/-! Stage B, 12: a group takes its shares, in both -/
theorem c_bal2 {K i k : Nat} {f sh lo : Nat → Int32} {q0 q1 : Int32} {r0 r1 : Nat} (hK : 200000 ≤ K) (hi : i < 8) (hk : k < 2 ^ 30) (hr0 : r0 < 8) (hr1 : r1 < 8) (s0 : sh 0 = q0) (s1 : sh 1 = q1) (l0 : lo 0 = nI r0) (l1 : lo 1 = nI r1) : lpF (fun u9 : Int32 × (Nat → Int32) => B_X5_balance_42 sh lo (nI k) (nI i) u9.1 u9.2) K ((0 : Int32), f) = some (upd (upd f (17 + 8 * i + 4) (f (17 + 8 * i + 4) + (shv q0 r0 k - cdr f i 0))) (17 + 8 * i + 5) (upd f (17 + 8 * i + 4) (f (17 + 8 * i + 4) + (shv q0 r0 k - cdr f i 0)) (17 + 8 * i + 5) + (shv q1 r1 k - cdr (upd f (17 + 8 * i + 4) (f (17 + 8 * i + 4) + (shv q0 r0 k - cdr f i 0))) i 1))) := by
  have t0 : B_X5_balance_42 sh lo (nI k) (nI i) 0 f = some (.inl ((1 : Int32), upd f (17 + 8 * i + 4) (f (17 + 8 * i + 4) + (shv q0 r0 k - cdr f i 0)))) := by
    unfold B_X5_balance_42
    rw [if_neg (by decide), c_shareOf (a := 0) (by rfl) (by decide) (by omega) hk s0 l0, xb1, show F_X5_drift (nI i) 0 f = some (cdr f i 0) from b_drift (a := 0) hi (by decide), xb1, bx_of (c := 4) (by rfl) hi (by decide), xb1, bx_put (c := 4) (by rfl) hi (by decide), xb1]
    rfl
  have t1 : ∀ f1 : Nat → Int32, B_X5_balance_42 sh lo (nI k) (nI i) 1 f1 = some (.inl ((2 : Int32), upd f1 (17 + 8 * i + 5) (f1 (17 + 8 * i + 5) + (shv q1 r1 k - cdr f1 i 1)))) := by
    intro f1
    unfold B_X5_balance_42
    rw [if_neg (by decide), c_shareOf (a := 1) (by rfl) (by decide) (by omega) hk s1 l1, xb1, show F_X5_drift (nI i) 1 f1 = some (cdr f1 i 1) from b_drift (a := 1) hi (by decide), xb1, bx_of (c := 5) (by rfl) hi (by decide), xb1, bx_put (c := 5) (by rfl) hi (by decide), xb1]
    rfl
  have t2 : ∀ f2 : Nat → Int32, B_X5_balance_42 sh lo (nI k) (nI i) 2 f2 = some (.inr f2) := by
    intro f2
    unfold B_X5_balance_42
    rw [if_pos (by decide)]
  exact lp_2 (b := fun u9 : Int32 × (Nat → Int32) => B_X5_balance_42 sh lo (nI k) (nI i) u9.1 u9.2) (by omega) t0 (t1 _) (t2 _)
theorem m_tak {n m i : Nat} {g sx sy : Nat → Int32} (hm : m < 256) (n8 : n ≤ 8) (hi : i < n) (hb : ¬ m / 2 ^ i % 2 = 0) : B_X8_takesShares_2 (nI m) (nI n) sx sy (nI i) g = some (.inl (nI (i + 1), upd (upd g (32 + i) (g (32 + i) + (sx i - mdx g i))) (40 + i) (upd g (32 + i) (g (32 + i) + (sx i - mdx g i)) (40 + i) + (sy i - mdy (upd g (32 + i) (g (32 + i) + (sx i - mdx g i))) i)))) := by
  unfold B_X8_takesShares_2
  rw [if_neg (mt (nI_leI (a := n) (b := i) (by omega) (by omega)).mp (by omega)), gm_has hm (by omega), xb1, if_neg (mt gb_z.mp hb)]
  simp only [bm_ix (A := (32 : Int32)) (a := 32) rfl (show 32 + i < 265 by omega), bm_ix (A := (40 : Int32)) (a := 40) rfl (show 40 + i < 265 by omega), bm_cl (A := (32 : Int32)) (a := 32) rfl (show 32 + i < 265 by omega), bm_cl (A := (40 : Int32)) (a := 40) rfl (show 40 + i < 265 by omega), xixn (show i < 8 by omega) (by decide), nI_clamp (show i < 2 ^ 31 by omega), m_drX (show i < 8 by omega), m_drY (show i < 8 by omega), xb1, xnm, nI_1]
def BlR (n m : Nat) (f g : Nat → Int32) (i : Nat) (s : Int32 × Int32 × (Nat → Int32)) (t : Int32 × (Nat → Int32)) : Prop := s.1 = nI (bcn m i) ∧ s.2.1 = nI i ∧ t.1 = nI i ∧ StB n s.2.2 t.2 ∧ (∀ k, k < 17 → s.2.2 k = f k) ∧ ∀ k, (k < 32 ∨ 48 ≤ k) → t.2 k = g k
theorem BlR.step {n m i K : Nat} {f g sh lo sx sy : Nat → Int32} {q0 q1 : Int32} {r0 r1 : Nat} {s : Int32 × Int32 × (Nat → Int32)} {t : Int32 × (Nat → Int32)} (hK : 200000 ≤ K) (n8 : n ≤ 8) (h3 : f 3 = nI n) (hm : m < 256) (hi : i < n) (hr0 : r0 < 8) (hr1 : r1 < 8) (s0 : sh 0 = q0) (s1 : sh 1 = q1) (l0 : lo 0 = nI r0) (l1 : lo 1 = nI r1) (hs : ∀ j, j < n → ¬ m / 2 ^ j % 2 = 0 → sx j = shv q0 r0 (bcn m j) ∧ sy j = shv q1 r1 (bcn m j)) (h : BlR n m f g i s t) : ∃ s' t', B_X5_balance_20 K (nI m) sh lo s.1 s.2.1 s.2.2 = some (.inl s') ∧ B_X8_takesShares_2 (nI m) (nI n) sx sy t.1 t.2 = some (.inl t') ∧ BlR n m f g (i + 1) s' t' := by
  obtain ⟨x, y, f1⟩ := s
  obtain ⟨z, g1⟩ := t
  obtain ⟨e1, e2, e3, hB, hf, hg⟩ := h
  have e1 : x = nI (bcn m i) := e1
  have e2 : y = nI i := e2
  have e3 : z = nI i := e3
  subst e1 e2 e3
  have hB : StB n f1 g1 := hB
  have hf : ∀ k, k < 17 → f1 k = f k := hf
  have hg : ∀ k, (k < 32 ∨ 48 ≤ k) → g1 k = g k := hg
  have bl := bcn_le m i
  have C : B_X5_balance_20 K (nI m) sh lo (nI (bcn m i)) (nI i) f1 = if m / 2 ^ i % 2 = 0 then some (.inl (nI (bcn m i), nI (i + 1), f1)) else some (.inl (nI (bcn m i + 1), nI (i + 1), upd (upd f1 (17 + 8 * i + 4) (f1 (17 + 8 * i + 4) + (shv q0 r0 (bcn m i) - cdr f1 i 0))) (17 + 8 * i + 5) (upd f1 (17 + 8 * i + 4) (f1 (17 + 8 * i + 4) + (shv q0 r0 (bcn m i) - cdr f1 i 0)) (17 + 8 * i + 5) + (shv q1 r1 (bcn m i) - cdr (upd f1 (17 + 8 * i + 4) (f1 (17 + 8 * i + 4) + (shv q0 r0 (bcn m i) - cdr f1 i 0))) i 1)))) := by
    unfold B_X5_balance_20 F_X5_sites
    rw [xb1, hf 3 (by decide), h3, if_neg (mt (nI_leI (a := n) (b := i) (by omega) (by omega)).mp (by omega)), bit_at m hm i (by omega), c_bal2 (q0 := q0) (q1 := q1) (r0 := r0) (r1 := r1) hK (by omega) (by omega) hr0 hr1 s0 s1 l0 l1, xb1, nI_1, nI_1]
    by_cases c : m / 2 ^ i % 2 = 0
    · rw [if_pos (gb_z.mpr c), if_pos c]
    · rw [if_neg (mt gb_z.mp c), if_neg c]
  by_cases c : m / 2 ^ i % 2 = 0
  · rw [if_pos c] at C
    refine ⟨_, (nI (i + 1), g1), C, ?_, ?_, rfl, rfl, hB, hf, hg⟩
    · show B_X8_takesShares_2 (nI m) (nI n) sx sy (nI i) g1 = _
      unfold B_X8_takesShares_2
      rw [if_neg (mt (nI_leI (a := n) (b := i) (by omega) (by omega)).mp (by omega)), gm_has hm (by omega), xb1, if_pos (gb_z.mpr c), nI_1]
    · show nI (bcn m i) = nI (bcn m i + m / 2 ^ i % 2)
      rw [c, Nat.add_zero (bcn m i)]
  · rw [if_neg c] at C
    have M := m_tak (g := g1) (sx := sx) (sy := sy) hm n8 hi c
    obtain ⟨w0, w1⟩ := hs i hi c
    rw [w0, w1] at M
    have k0 := (dr_both hB hi).1
    have c4 : f1 (17 + 8 * i + 4) = g1 (32 + i) := hB i 4 hi (by decide)
    rw [c4, k0] at C
    have B1 : StB n (upd f1 (17 + 8 * i + 4) (g1 (32 + i) + (shv q0 r0 (bcn m i) - mdx g1 i))) (upd g1 (32 + i) (g1 (32 + i) + (shv q0 r0 (bcn m i) - mdx g1 i))) := hB.put (c := 4) n8 hi (by decide) _
    have hf1 : ∀ k, k < 17 → upd f1 (17 + 8 * i + 4) (g1 (32 + i) + (shv q0 r0 (bcn m i) - mdx g1 i)) k = f k := fun k hk => (upd_ne (by omega)).trans (hf k hk)
    have hg1 : ∀ k, (k < 32 ∨ 48 ≤ k) → upd g1 (32 + i) (g1 (32 + i) + (shv q0 r0 (bcn m i) - mdx g1 i)) k = g k := fun k hk => (upd_ne (by omega)).trans (hg k hk)
    generalize upd f1 (17 + 8 * i + 4) (g1 (32 + i) + (shv q0 r0 (bcn m i) - mdx g1 i)) = f2 at C B1 hf1
    generalize upd g1 (32 + i) (g1 (32 + i) + (shv q0 r0 (bcn m i) - mdx g1 i)) = g2 at M B1 hg1
    have k1 := (dr_both B1 hi).2
    have c5 : f2 (17 + 8 * i + 5) = g2 (40 + i) := B1 i 5 hi (by decide)
    rw [c5, k1] at C
    refine ⟨_, _, C, M, ?_, rfl, rfl, B1.put (c := 5) n8 hi (by decide) _, fun k hk => (upd_ne (by omega)).trans (hf1 k hk), fun k hk => (upd_ne (by omega)).trans (hg1 k hk)⟩
    show nI (bcn m i + 1) = nI (bcn m i + m / 2 ^ i % 2)
    rw [show m / 2 ^ i % 2 = 1 by omega]
/-- a group takes its shares -/
theorem bl_both {n m K : Nat} {f g sh lo sx sy : Nat → Int32} {q0 q1 ac oc : Int32} {r0 r1 : Nat} (hK : 200000 ≤ K) (h : RowR n f g) (hm : m < 256) (hr0 : r0 < 8) (hr1 : r1 < 8) (s0 : sh 0 = q0) (s1 : sh 1 = q1) (l0 : lo 0 = nI r0) (l1 : lo 1 = nI r1) (hs : ∀ j, j < n → ¬ m / 2 ^ j % 2 = 0 → sx j = shv q0 r0 (bcn m j) ∧ sy j = shv q1 r1 (bcn m j)) : ∃ f' g', F_X5_balance K (nI m) f ac oc sh lo = some (((1 : Int32) + ((2 : Int32) * ac)) + nI (bcn m n), f', 1) ∧ F_X8_takesShares K (nI m) g (nI n) sx sy = some g' ∧ RowR n f' (upd g' 69 (g' 69 + 1)) ∧ ∀ k, (k < 32 ∨ 48 ≤ k) → g' k = g k := by
  have n8 := h.n8
  have e13 : f 13 = g 69 := h.sc (13, 69) (by decide)
  have z3 : (upd f 13 (f 13 + 1)) 3 = nI n := (upd_ne (by decide)).trans h.sz
  have he : ∀ s t, BlR n m (upd f 13 (f 13 + 1)) g n s t → ∃ r u, (fun u9 : Int32 × Int32 × (Nat → Int32) => B_X5_balance_20 K (nI m) sh lo u9.1 u9.2.1 u9.2.2) s = some (.inr r) ∧ (fun u9 : Int32 × (Nat → Int32) => B_X8_takesShares_2 (nI m) (nI n) sx sy u9.1 u9.2) t = some (.inr u) ∧ (r.1 = nI (bcn m n) ∧ StB n r.2 u ∧ (∀ k, k < 17 → r.2 k = (upd f 13 (f 13 + 1)) k) ∧ ∀ k, (k < 32 ∨ 48 ≤ k) → u k = g k) := by
    intro s t q
    obtain ⟨x, y, f1⟩ := s
    obtain ⟨z, g1⟩ := t
    obtain ⟨e1, e2, e3, hB, hf, hg⟩ := q
    have e1 : x = nI (bcn m n) := e1
    have e2 : y = nI n := e2
    have e3 : z = nI n := e3
    subst e1 e2 e3
    have le : nI n ≤ nI n := (nI_leI (a := n) (b := n) (by omega) (by omega)).mpr (Nat.le_refl _)
    refine ⟨(nI (bcn m n), f1), g1, ?_, ?_, rfl, hB, hf, hg⟩
    · show B_X5_balance_20 K (nI m) sh lo (nI (bcn m n)) (nI n) f1 = _
      unfold B_X5_balance_20 F_X5_sites
      rw [xb1, show f1 3 = nI n from (hf 3 (by decide)).trans z3, if_pos le]
    · show B_X8_takesShares_2 (nI m) (nI n) sx sy (nI n) g1 = _
      unfold B_X8_takesShares_2
      rw [if_pos le]
  have h0 : BlR n m (upd f 13 (f 13 + 1)) g 0 ((0 : Int32), (0 : Int32), upd f 13 (f 13 + 1)) ((0 : Int32), g) := ⟨rfl, rfl, rfl, StB.low h.toRowB.st (by decide) _, fun _ _ => rfl, fun _ _ => rfl⟩
  obtain ⟨r, u, l1', l2', hx, hB, hf, hg⟩ := lp_two (b := fun u9 : Int32 × Int32 × (Nat → Int32) => B_X5_balance_20 K (nI m) sh lo u9.1 u9.2.1 u9.2.2) (d := fun u9 : Int32 × (Nat → Int32) => B_X8_takesShares_2 (nI m) (nI n) sx sy u9.1 u9.2) (BlR n m (upd f 13 (f 13 + 1)) g) (fun r u => r.1 = nI (bcn m n) ∧ StB n r.2 u ∧ (∀ k, k < 17 → r.2 k = (upd f 13 (f 13 + 1)) k) ∧ ∀ k, (k < 32 ∨ 48 ≤ k) → u k = g k) (n := n) (K := K) (K' := K) (by omega) (by omega) (fun i s t hi q => Or.inl (BlR.step hK n8 z3 hm hi hr0 hr1 s0 s1 l0 l1 hs q)) he h0
  obtain ⟨x, f1⟩ := r
  have hx : x = nI (bcn m n) := hx
  have hB : StB n f1 u := hB
  have hf : ∀ k, k < 17 → f1 k = (upd f 13 (f 13 + 1)) k := hf
  have fx : ∀ k, k < 17 → ¬ k = 13 → f1 k = f k := fun k hk a => (hf k hk).trans (upd_ne a)
  refine ⟨f1, u, ?_, ?_, h.of (hB.high n8 (by decide) _) (fx 3 (by decide) (by decide)) ?_ (fx 4 (by decide) (by decide)) (fx 5 (by decide) (by decide)) (fx 7 (by decide) (by decide)) (fun i hi => (upd_ne (by omega)).trans (hg (76 + i) (by omega))) (fun k a b => (upd_ne (by omega)).trans (hg k (by omega))), hg⟩
  · unfold F_X5_balance
    rw [xnm, l1', xb2, hx]
  · unfold F_X8_takesShares
    rw [l2', xb1]
  · intro q hq
    obtain ⟨b1, b2, b3, b4, b5, b6, b7⟩ := rowScl_b q hq
    have u13 := rowScl_u q hq (13, 69) (by decide)
    by_cases c : q.1 = 13
    · rw [c, show q.2 = 69 from u13.mp c, upd_at, hf 13 (by decide), upd_at, hg 69 (by omega), e13]
    · rw [fx q.1 b1 c, upd_ne (fun z => c (u13.mpr z)), hg q.2 (Or.inr (by omega))]
      exact h.sc q hq
