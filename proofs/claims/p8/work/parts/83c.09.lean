/-! Stage B, 9: to a count is added: the whole act -/
theorem sgm_nat {a : Nat → Int32} : ∀ n, (∀ j, j < n → ∃ c, c ≤ 99999 ∧ a j = nI c) → ∃ B, B ≤ 99999 * n ∧ sgm a n = nI B := by
  intro n
  induction n with
  | zero => exact fun _ => ⟨0, Nat.le_refl _, rfl⟩
  | succ k ih =>
    intro h
    obtain ⟨B, hB, e⟩ := ih (fun j hj => h j (by omega))
    obtain ⟨c, hc, e2⟩ := h k (by omega)
    refine ⟨B + c, by omega, ?_⟩
    show sgm a k + a k = nI (B + c)
    rw [e, e2, nI_add]
theorem ad_both {n i K k : Nat} {f g : Nat → Int32} (hK : 200000 ≤ K) (h : RowR n f g) (hC : RowC n g) (hi : i < n) (k1 : 1 ≤ k) (k9 : k ≤ 999) (hc : ∃ c, c + k ≤ 99999 ∧ g (48 + i) = nI c) (hr : g 73 < g 66) : ∃ r f' g', F_X5_addTo K (nI i) (nI k) f = some (r, f') ∧ F_X8_addsNow K (nI i) (nI k) g (nI n) = some (r, g') ∧ RowR n f' g' ∧ RowC n g' ∧ (∃ m, m ≤ 100 ∧ r = nI m) ∧ ∀ j, (j < 48 ∨ 64 ≤ j) → ¬ j = 73 → ¬ j = 74 → ¬ j = 75 → g' j = g j := by
  have n8 : n ≤ 8 := h.1.1
  obtain ⟨a, b, q, a1, a9, e66, b9, e73, hq, e75, hcs, hrs⟩ := id hC
  have hba : b < a := by
    rw [e73, e66] at hr
    exact (nI_ltI (a := b) (b := a) (by omega) (by omega)).mp hr
  obtain ⟨c, hcc, e48⟩ := hc
  have e6 : f (17 + 8 * i + 6) = g (48 + i) := h.1.2.2.1 i 6 hi (by decide)
  have R1 : RowR n (upd f (17 + 8 * i + 6) (g (48 + i) + nI k)) (upd g (48 + i) (g (48 + i) + nI k)) := h.put (c := 6) hi (by decide) (by decide) (by decide) (g (48 + i) + nI k)
  have F1 : ∀ j, ¬ j = 48 + i → (upd g (48 + i) (g (48 + i) + nI k)) j = g j := fun j hj => upd_ne hj
  have c48 : (upd g (48 + i) (g (48 + i) + nI k)) (48 + i) = nI (c + k) := by rw [upd_at, e48, nI_add]
  unfold F_X5_addTo F_X8_addsNow
  rw [bx_of (c := 6) (by rfl) (by omega) (by decide), xb1, e6, bx_put (c := 6) (by rfl) (by omega) (by decide), xb1, bm_ix (a := 48) (by rfl) (by omega), bm_ix (a := 48) (by rfl) (by omega), bm_cl (a := 48) (by rfl) (by omega)]
  simp only [xnm]
  generalize upd f (17 + 8 * i + 6) (g (48 + i) + nI k) = f1 at R1 ⊢
  generalize upd g (48 + i) (g (48 + i) + nI k) = g1 at R1 F1 c48 ⊢
  have a66 : g1 66 = nI a := (F1 66 (by omega)).trans e66
  have a73 : g1 73 = nI b := (F1 73 (by omega)).trans e73
  have a75 : g1 75 = nI q := (F1 75 (by omega)).trans e75
  have cs1 : ∀ j, j < n → ∃ c, c ≤ 99999 ∧ g1 (48 + j) = nI c := fun j hj => by
    by_cases e : j = i
    · rw [e, c48]
      exact ⟨c + k, by omega, rfl⟩
    · rw [F1 (48 + j) (by omega)]
      exact hcs j hj
  have st1 : st n g1 = st n g := st_of (F1 66 (by omega)) (F1 73 (by omega))
  have rs1 : ∀ j, j < n → ∃ r, g1 (56 + j) = nI r ∧ (r = 0 ∨ r < st n g1) := fun j hj => by
    rw [F1 (56 + j) (by omega), st1]
    exact hrs j hj
  have hlt := (st_lt (n := n) (g := g1) (by omega)).2.2
  rw [cs_step (by omega) R1 (by omega) (by omega) a66 a73, xb1, m_step (by omega) n8, xb1]
  by_cases z : st n g1 = 0
  · rw [z, if_pos (by decide), if_pos (by decide)]
    refine ⟨_, _, _, rfl, rfl, ?_, ?_, ⟨1, by omega, rfl⟩, ?_⟩
    · rw [show f1 8 = g1 73 from R1.sc (8, 73) (by decide)]
      exact R1.scal (by decide) _
    · refine ⟨a, b + k, q, a1, a9, (upd_ne (by decide)).trans a66, by omega, by rw [upd_at, a73, nI_add], hq, (upd_ne (by decide)).trans a75, fun j hj => ?_, fun j hj => ?_⟩
      · rw [upd_ne (by omega)]
        exact cs1 j hj
      · obtain ⟨r, er, hr⟩ := rs1 j hj
        rw [upd_ne (by omega)]
        exact ⟨r, er, Or.inl (by omega)⟩
    · intro j j1 j2 j3 j4
      rw [upd_ne j2]
      exact F1 j (by omega)
  · have nz : ¬ nI (st n g1) = (0 : Int32) := fun e => z ((nI_eq (a := st n g1) (b := 0) (by omega) (by omega)).mp e)
    have e7 : f1 (17 + 8 * i + 7) = g1 (56 + i) := R1.1.2.2.1 i 7 hi (by decide)
    have R2 : RowR n (upd f1 (17 + 8 * i + 7) (g1 (56 + i) + nI k)) (upd g1 (56 + i) (g1 (56 + i) + nI k)) := R1.put (c := 7) hi (by decide) (by decide) (by decide) (g1 (56 + i) + nI k)
    obtain ⟨ρ, eρ, hρ⟩ := rs1 i hi
    have z56 : (upd g1 (56 + i) (g1 (56 + i) + nI k)) (56 + i) = nI (ρ + k) := by rw [upd_at, eρ, nI_add]
    have F2 : ∀ j, ¬ j = 56 + i → (upd g1 (56 + i) (g1 (56 + i) + nI k)) j = g1 j := fun j hj => upd_ne hj
    rw [if_neg nz, if_neg nz, bx_of (c := 7) (by rfl) (by omega) (by decide), xb1, e7, bx_put (c := 7) (by rfl) (by omega) (by decide), xb1, bm_ix (a := 56) (by rfl) (by omega), bm_ix (a := 56) (by rfl) (by omega), bm_cl (a := 56) (by rfl) (by omega)]
    generalize upd f1 (17 + 8 * i + 7) (g1 (56 + i) + nI k) = f2 at R2 ⊢
    generalize upd g1 (56 + i) (g1 (56 + i) + nI k) = g2 at R2 z56 F2 ⊢
    have eS : ∀ g' : Nat → Int32, g' 66 = nI a → g' 73 = nI b → st n g' = st n g1 := fun g' x y => st_of (x.trans a66.symm) (y.trans a73.symm)
    have b66 : g2 66 = nI a := (F2 66 (by omega)).trans a66
    have b73 : g2 73 = nI b := (F2 73 (by omega)).trans a73
    have hst : st n g1 ≤ 9999 := by
      unfold st
      rw [a66, a73, pk_sub_toInt (by omega) (by omega)]
      exact Nat.le_trans (Nat.div_le_self _ _) (by omega)
    obtain ⟨r, u, l1, l2, hQ⟩ := lp_twoXA (b := fun u9 : Int32 × Int32 × (Nat → Int32) => B_X5_addTo_67 (nI i) (nI (st n g1)) u9.1 u9.2.1 u9.2.2) (d := fun u9 : Int32 × (Nat → Int32) => B_X8_addsNow_48 K (nI i) (nI n) u9.1 u9.2) (AdR n i g2) (AdQ n i K (st n g1) g2) (n := 8) (fun j s t _ q9 => AdR.step hK hi (by omega) hlt b66 b73 eS q9) 8 0 ((0 : Int32), (0 : Int32), f2) ((0 : Int32), g2) K K (by omega) (by omega) (by omega) ⟨rfl, rfl, rfl, R2, fun _ _ _ => rfl, ⟨ρ + k, by omega, z56⟩, q, hq, Nat.zero_le _, (F2 75 (by omega)).trans a75⟩
    obtain ⟨t, x, f3⟩ := r
    obtain ⟨x', g3⟩ := u
    rw [l1, l2, xb3, xb2]
    obtain ⟨⟨w, hw, ew⟩, hQ⟩ := hQ
    have ew : x = nI w := ew
    rcases hQ with ⟨q1, q2, q3, y1, ⟨r9, hr9, y2⟩, p, hp, y3⟩ | ⟨q1, f4, q2, q3, q4, y1, y2, y3, y4⟩
    · have q1 : t = 1 := q1
      have q2 : x = x' := q2
      have y1 : ∀ j, ¬ j = 56 + i → ¬ j = 75 → g3 j = g2 j := y1
      have y2 : g3 (56 + i) = nI r9 := y2
      have y3 : g3 75 = nI p := y3
      rw [q1, if_neg (by decide), if_pos rfl, ← q2]
      refine ⟨_, _, _, rfl, rfl, q3, ?_, ⟨w, by omega, ew⟩, ?_⟩
      · have c66 : g3 66 = nI a := (y1 66 (by omega) (by decide)).trans b66
        have c73 : g3 73 = nI b := (y1 73 (by omega) (by decide)).trans b73
        refine ⟨a, b, p, a1, a9, c66, b9, c73, hp, y3, fun j hj => ?_, fun j hj => ?_⟩
        · rw [y1 (48 + j) (by omega) (by omega), F2 (48 + j) (by omega)]
          exact cs1 j hj
        · rw [eS g3 c66 c73]
          by_cases e : j = i
          · rw [e, y2]
            exact ⟨r9, rfl, Or.inr hr9⟩
          · rw [y1 (56 + j) (by omega) (by omega), F2 (56 + j) (by omega)]
            exact rs1 j hj
      · intro j j1 j2 j3 j4
        show g3 j = g j
        rw [y1 j (by omega) j4, F2 j (by omega)]
        exact F1 j (by omega)
    · have q1 : t = 0 := q1
      have q2 : F_X5_endRound K f3 = some f4 := q2
      have q3 : RowR n f4 g3 := q3
      have q4 : x' = x + (2 : Int32) * nI n := q4
      have y1 : ∀ k, (k < 56 ∨ 64 ≤ k) → ¬ k = 73 → ¬ k = 74 → ¬ k = 75 → g3 k = g2 k := y1
      have y2 : g3 73 = sgm (fun i => g2 (48 + i)) n := y2
      have y3 : g3 75 = 0 := y3
      have y4 : ∀ j, j < n → g3 (56 + j) = 0 := y4
      have s3 : f4 3 = nI n := q3.1.2.1
      rw [q1, if_pos rfl, q2, xb1, s3, q4]
      refine ⟨_, _, _, rfl, rfl, q3, ?_, ⟨w + 2 * n, by omega, by rw [ew, show (2 : Int32) = nI 2 from rfl, nI_mul, nI_add]⟩, ?_⟩
      · have cs2 : ∀ j, j < n → ∃ c, c ≤ 99999 ∧ g2 (48 + j) = nI c := fun j hj => by
          rw [F2 (48 + j) (by omega)]
          exact cs1 j hj
        obtain ⟨B, hB, eB⟩ := sgm_nat (a := fun i => g2 (48 + i)) n cs2
        refine ⟨a, B, 0, a1, a9, (y1 66 (by omega) (by decide) (by decide) (by decide)).trans b66, by omega, y2.trans eB, by omega, y3, fun j hj => ?_, fun j hj => ⟨0, y4 j hj, Or.inl rfl⟩⟩
        rw [y1 (48 + j) (by omega) (by omega) (by omega) (by omega)]
        exact cs2 j hj
      · intro j j1 j2 j3 j4
        show g3 j = g j
        rcases j1 with j1 | j1
        · rw [y1 j (by omega) j2 j3 j4, F2 j (by omega)]
          exact F1 j (by omega)
        · rw [y1 j (by omega) j2 j3 j4, F2 j (by omega)]
          exact F1 j (by omega)
