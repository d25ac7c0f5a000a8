/-! Stage B, 8: to a count is added, in both -/
theorem RowR.put {n i c : Nat} {f g : Nat → Int32} (h : RowR n f g) (hi : i < n) (hc : c < 8) (c2 : ¬ c = 2) (c3 : ¬ c = 3) (v : Int32) : RowR n (upd f (17 + 8 * i + c) v) (upd g (8 * c + i) v) := by
  have n8 := h.n8
  refine ⟨h.toRowB.put hi hc v, ?_, ?_⟩
  · rw [upd_ne (by omega), h.sx]
    exact sgm_eq n (fun k hk => (upd_ne (show ¬ 16 + k = 8 * c + i by omega)).symm)
  · rw [upd_ne (by omega), h.sy]
    exact sgm_eq n (fun k hk => (upd_ne (show ¬ 24 + k = 8 * c + i by omega)).symm)
/-- what a row's counts may be -/
abbrev RowC (n : Nat) (g : Nat → Int32) : Prop := ∃ a b q : Nat, 1 ≤ a ∧ a ≤ 9999 ∧ g 66 = nI a ∧ b ≤ 900000 ∧ g 73 = nI b ∧ q < n ∧ g 75 = nI q ∧ (∀ j, j < n → ∃ c, c ≤ 99999 ∧ g (48 + j) = nI c) ∧ ∀ j, j < n → ∃ r, g (56 + j) = nI r ∧ (r = 0 ∨ r < st n g)
def AdR (n i : Nat) (g0 : Nat → Int32) (j : Nat) (s : Int32 × Int32 × (Nat → Int32)) (t : Int32 × (Nat → Int32)) : Prop := s.1 = t.1 ∧ s.1 = nI j ∧ s.2.1 = nI j ∧ RowR n s.2.2 t.2 ∧ (∀ k, ¬ k = 56 + i → ¬ k = 75 → t.2 k = g0 k) ∧ (∃ r, r < 2 ^ 30 ∧ t.2 (56 + i) = nI r) ∧ ∃ q, q < n ∧ j ≤ q ∧ t.2 75 = nI q
/-- how the loops end: the class's round ends behind its loop -/
def AdQ (n i K S : Nat) (g0 : Nat → Int32) (r : Nat × Int32 × (Nat → Int32)) (u : Int32 × (Nat → Int32)) : Prop := (∃ w, w ≤ 8 ∧ r.2.1 = nI w) ∧ ((r.1 = 1 ∧ r.2.1 = u.1 ∧ RowR n r.2.2 u.2 ∧ (∀ k, ¬ k = 56 + i → ¬ k = 75 → u.2 k = g0 k) ∧ (∃ r, r < S ∧ u.2 (56 + i) = nI r) ∧ ∃ q, q < n ∧ u.2 75 = nI q) ∨ (r.1 = 0 ∧ ∃ f', F_X5_endRound K r.2.2 = some f' ∧ RowR n f' u.2 ∧ u.1 = r.2.1 + (2 : Int32) * nI n ∧ (∀ k, (k < 56 ∨ 64 ≤ k) → ¬ k = 73 → ¬ k = 74 → ¬ k = 75 → u.2 k = g0 k) ∧ u.2 73 = sgm (fun i => g0 (48 + i)) n ∧ u.2 75 = 0 ∧ ∀ j, j < n → u.2 (56 + j) = 0))
theorem AdR.step {n a b i j K S : Nat} {g0 : Nat → Int32} {s : Int32 × Int32 × (Nat → Int32)} {t : Int32 × (Nat → Int32)} (hK : 200000 ≤ K) (hi : i < n) (h0 : 0 < S) (hS : S < 2 ^ 30) (z66 : g0 66 = nI a) (z73 : g0 73 = nI b) (eS : ∀ g : Nat → Int32, g 66 = nI a → g 73 = nI b → st n g = S) (h : AdR n i g0 j s t) : (j < 8 ∧ ∃ s' t', B_X5_addTo_67 (nI i) (nI S) s.1 s.2.1 s.2.2 = some (.inl s') ∧ B_X8_addsNow_48 K (nI i) (nI n) t.1 t.2 = some (.inl t') ∧ AdR n i g0 (j + 1) s' t') ∨ (∃ r u, B_X5_addTo_67 (nI i) (nI S) s.1 s.2.1 s.2.2 = some (.inr r) ∧ (∀ J, 2 ≤ J → lpF (fun u9 : Int32 × (Nat → Int32) => B_X8_addsNow_48 K (nI i) (nI n) u9.1 u9.2) J t = some u) ∧ AdQ n i K S g0 r u) := by
  obtain ⟨x, y, f⟩ := s
  obtain ⟨x', g⟩ := t
  obtain ⟨e1, e0, e2, hR, hfr, ⟨ρ, hρ, e56⟩, q, hq, hj, h75⟩ := h
  have e1 : x = x' := e1
  have e0 : x = nI j := e0
  have e2 : y = nI j := e2
  subst e1 e2
  have e0 : x = nI j := e0
  have hR : RowR n f g := hR
  have n8 : n ≤ 8 := hR.1.1
  have hfr : ∀ k, ¬ k = 56 + i → ¬ k = 75 → g k = g0 k := hfr
  have e56 : g (56 + i) = nI ρ := e56
  have h66 : g 66 = nI a := (hfr 66 (by omega) (by decide)).trans z66
  have h73 : g 73 = nI b := (hfr 73 (by omega) (by decide)).trans z73
  have h75 : g 75 = nI q := h75
  have e7 : f (17 + 8 * i + 7) = g (56 + i) := hR.1.2.2.1 i 7 hi (by decide)
  have e9 : f 9 = g 75 := hR.1.2.2.2.1 (9, 75) (by decide)
  have es : F_X8_step g (nI n) = some (nI S) := by rw [m_step (by omega) n8, eS g h66 h73]
  have nle : ¬ nI S ≤ (0 : Int32) := mt (nI_leI (a := S) (b := 0) (by omega) (by omega)).mp (by omega)
  have C : B_X5_addTo_67 (nI i) (nI S) x (nI j) f = (if g (56 + i) < nI S then some (.inr (1, x, f)) else nmF (upd (upd f (17 + 8 * i + 7) (g (56 + i) - nI S)) 9 (g 75 + 1)) (fun f_20 => if f_20 9 < f_20 3 then some (.inl (x + (1 : Int32), nI j + (1 : Int32), f_20)) else some (.inr (0, x + (1 : Int32), f_20)))) := by
    unfold B_X5_addTo_67
    rw [if_neg (show ¬ (8 : Int32) ≤ nI j from mt (nI_leI (a := 8) (b := j) (by omega) (by omega)).mp (by omega)), bx_of (c := 7) (by rfl) (by omega) (by decide), xb1, e7, xb1, bx_put (c := 7) (by rfl) (by omega) (by decide), xb1, show (upd f (17 + 8 * i + 7) (g (56 + i) - nI S)) 9 = g 75 from (upd_ne (by omega)).trans e9]
  have M : B_X8_addsNow_48 K (nI i) (nI n) x g = (if g (56 + i) < nI S then some (.inr (x, g)) else nmF (upd (upd g (56 + i) (g (56 + i) - nI S)) 75 (g 75 + 1)) (fun f_22 => if f_22 75 = nI n then bd1 (F_X8_endsRound K f_22 (nI n)) (fun w_24 => some (.inl ((x + (1 : Int32)) + ((2 : Int32) * nI n), w_24))) else some (.inl (x + (1 : Int32), f_22)))) := by
    unfold B_X8_addsNow_48
    simp only [es, xb1, bm_ix (A := (56 : Int32)) (a := 56) rfl (show 56 + i < 265 by omega), bm_cl (A := (56 : Int32)) (a := 56) rfl (show 56 + i < 265 by omega), xnm]
    rw [if_neg nle, show (upd g (56 + i) (g (56 + i) - nI S)) 75 = g 75 from upd_ne (by omega)]
  by_cases c : g (56 + i) < nI S
  · have cS : ρ < S := (nI_ltI (a := ρ) (b := S) (by omega) (by omega)).mp (by rw [← e56]; exact c)
    refine Or.inr ⟨(1, x, f), (x, g), ?_, ?_, ⟨j, by omega, e0⟩, Or.inl ⟨rfl, rfl, hR, hfr, ⟨ρ, cS, e56⟩, q, hq, h75⟩⟩
    · show B_X5_addTo_67 (nI i) (nI S) x (nI j) f = _
      rw [C, if_pos c]
    · intro J hJ
      obtain ⟨J2, rfl⟩ : ∃ J2, J = J2 + 1 := ⟨J - 1, by omega⟩
      refine lp_end ?_
      show B_X8_addsNow_48 K (nI i) (nI n) x g = _
      rw [M, if_pos c]
  · have R2 : RowR n (upd (upd f (17 + 8 * i + 7) (g (56 + i) - nI S)) 9 (g 75 + 1)) (upd (upd g (56 + i) (g (56 + i) - nI S)) 75 (g 75 + 1)) := (hR.put (c := 7) hi (by decide) (by decide) (by decide) (g (56 + i) - nI S)).scal (by decide) (g 75 + 1)
    rw [if_neg c, xnm] at C
    rw [if_neg c, xnm] at M
    have cS : S ≤ ρ := Nat.not_lt.mp (fun z => c (by rw [e56]; exact (nI_ltI (a := ρ) (b := S) (by omega) (by omega)).mpr z))
    have v75 : (upd (upd g (56 + i) (g (56 + i) - nI S)) 75 (g 75 + 1)) 75 = nI (q + 1) := by rw [upd_at, h75, nI_1]
    have v9 : (upd (upd f (17 + 8 * i + 7) (g (56 + i) - nI S)) 9 (g 75 + 1)) 9 = nI (q + 1) := by rw [upd_at, h75, nI_1]
    have v56 : (upd (upd g (56 + i) (g (56 + i) - nI S)) 75 (g 75 + 1)) (56 + i) = nI (ρ - S) := by rw [upd_ne (by omega), upd_at, e56, xsub cS]
    have vfr : ∀ k, ¬ k = 56 + i → ¬ k = 75 → (upd (upd g (56 + i) (g (56 + i) - nI S)) 75 (g 75 + 1)) k = g0 k := fun k k1 k2 => by rw [upd_ne k2, upd_ne k1, hfr k k1 k2]
    rw [v9, R2.sz] at C
    rw [v75] at M
    generalize upd (upd f (17 + 8 * i + 7) (g (56 + i) - nI S)) 9 (g 75 + 1) = f2 at R2 C
    generalize upd (upd g (56 + i) (g (56 + i) - nI S)) 75 (g 75 + 1) = g2 at R2 M v75 v56 vfr
    by_cases d : q + 1 < n
    · rw [if_pos ((nI_ltI (a := q + 1) (b := n) (by omega) (by omega)).mpr d)] at C
      rw [if_neg (mt (nI_eq (a := q + 1) (b := n) (by omega) (by omega)).mp (by omega))] at M
      exact Or.inl ⟨by omega, _, _, C, M, rfl, (by rw [e0]; exact nI_1 j), nI_1 j, R2, vfr, ⟨ρ - S, by omega, v56⟩, q + 1, d, by omega, v75⟩
    · have dn : q + 1 = n := by omega
      rw [if_neg (mt (nI_ltI (a := q + 1) (b := n) (by omega) (by omega)).mp d)] at C
      obtain ⟨f3, g3, x1, x2, R3, y1, y2, y3, z⟩ := er_both hK R2
      rw [if_pos (show nI (q + 1) = nI n by rw [dn]), x2, xb1] at M
      refine Or.inr ⟨(0, x + 1, f2), ((x + 1) + (2 : Int32) * nI n, g3), C, ?_, ⟨j + 1, by omega, by show x + 1 = nI (j + 1); rw [e0, nI_1]⟩, Or.inr ⟨rfl, f3, x1, R3, rfl, ?_, ?_, y3, z⟩⟩
      · intro J hJ
        obtain ⟨J2, rfl⟩ : ∃ J2, J = J2 + 1 + 1 := ⟨J - 2, by omega⟩
        rw [lp_one (u' := ((x + 1) + (2 : Int32) * nI n, g3)) (show (fun u9 : Int32 × (Nat → Int32) => B_X8_addsNow_48 K (nI i) (nI n) u9.1 u9.2) (x, g) = _ from M)]
        refine lp_end ?_
        show B_X8_addsNow_48 K (nI i) (nI n) ((x + 1) + (2 : Int32) * nI n) g3 = _
        unfold B_X8_addsNow_48
        have hlt := (st_lt (n := n) (g := g3) (by omega)).2.2
        rw [m_step (by omega) n8, xb1]
        by_cases w : st n g3 = 0
        · rw [w, if_pos (by decide)]
        · rw [if_neg (show ¬ nI (st n g3) ≤ (0 : Int32) from mt (nI_leI (a := st n g3) (b := 0) (by omega) (by omega)).mp (by omega)), bm_ix (a := 56) (by rfl) (by omega), xb1, bm_cl (a := 56) (by rfl) (by omega), z i hi, if_pos (show (0 : Int32) < nI (st n g3) from (nI_ltI (a := 0) (b := st n g3) (by omega) (by omega)).mpr (by omega))]
      · intro k k1 k2 k3 k4
        show g3 k = g0 k
        rw [y1 k k1 k2 k3 k4]
        exact vfr k (by omega) k4
      · show g3 73 = sgm (fun i => g0 (48 + i)) n
        rw [y2]
        exact sgm_eq n (fun k hk => vfr (48 + k) (by omega) (by omega))
