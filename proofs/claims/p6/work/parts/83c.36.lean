/-! Stage B, 36: what is told of a site, in both -/
theorem p_site {n K : Nat} {f g : Nat → Int32} {x y th : Int32} (hK : 200000 ≤ K) (h : RowR n f g) (hI : RowI n g) : (∃ rr, F_X7_site x y f = some rr ∧ F_X8_site K x y th g (nI n) = some (rr, 0)) ∨ (∃ h0, F_X5_hasSite x f = some h0 ∧ (h0 = 0 ∨ y < 0 ∨ ¬ y ≤ 13) ∧ F_X8_site K x y th g (nI n) = some (0, 1)) := by
  have n8 := h.n8
  have J1 : ∀ a b s, J_X8_site_25 K a b s g = some ((0 : Int32), (1 : Int32)) := fun a b s => by
    unfold J_X8_site_25 J_X8_site_26
    rw [if_pos rfl]
  unfold F_X7_site F_X8_site
  rcases hs_both (p := x) n8 h.sz with ⟨i, hi, rfl, c1, c2⟩ | ⟨-, c1, c2⟩
  · rw [c1, c2, xb1, xb1, if_neg n10, if_neg n10, m_in0 (m := 13) (by decide), xb1, ite10, rng_d]
    by_cases d : 0 ≤ y ∧ y ≤ nI 13
    · refine Or.inl ?_
      rw [if_pos (show 0 ≤ y ∧ y ≤ (13 : Int32) from d), if_pos d]
      obtain ⟨m, hm, rfl⟩ := in_lt (p := y) (a := 14) (by omega) (by rw [show nI 14 - 1 = nI 13 by decide]; exact d)
      obtain ⟨d0, d1⟩ := dr_both h.1.2.2.1 hi
      unfold J_X8_site_26
      rw [if_neg (show ¬ (0 : Int32) = 1 by decide)]
      rcases (show m = 6 ∨ m = 7 ∨ m = 8 ∨ m = 9 ∨ m = 10 ∨ m = 11 ∨ m = 12 ∨ m = 13 ∨ m < 6 by omega) with rfl | rfl | rfl | rfl | rfl | rfl | rfl | rfl | m6
      · rw [if_pos (show nI 6 = (6 : Int32) from rfl), if_pos (show nI 6 = (6 : Int32) from rfl)]
        rw [show nI 6 - 6 = nI 0 by decide, b_drift (a := 0) (by omega) (by decide), xb1, m_drX (by omega), xb1, d0]
        exact ⟨_, rfl, rfl⟩
      · rw [if_neg (show ¬ nI 7 = (6 : Int32) by decide), if_neg (show ¬ nI 7 = (6 : Int32) by decide), if_pos (show nI 7 = (7 : Int32) from rfl), if_pos (show nI 7 = (7 : Int32) from rfl)]
        rw [show nI 7 - 6 = nI 1 by decide, b_drift (a := 1) (by omega) (by decide), xb1, m_drY (by omega), xb1, d1]
        exact ⟨_, rfl, rfl⟩
      · rw [if_neg (show ¬ nI 8 = (6 : Int32) by decide), if_neg (show ¬ nI 8 = (6 : Int32) by decide), if_neg (show ¬ nI 8 = (7 : Int32) by decide), if_neg (show ¬ nI 8 = (7 : Int32) by decide), if_pos (show nI 8 = (8 : Int32) from rfl), if_pos (show nI 8 = (8 : Int32) from rfl)]
        rw [show nI 8 - 8 = (0 : Int32) by decide, (c_pt n8 h.sz hi).1, xb1, m_drX (by omega), xb1, (pt_both hK h).1, xb1, d0]
        exact ⟨_, rfl, rfl⟩
      · rw [if_neg (show ¬ nI 9 = (6 : Int32) by decide), if_neg (show ¬ nI 9 = (6 : Int32) by decide), if_neg (show ¬ nI 9 = (7 : Int32) by decide), if_neg (show ¬ nI 9 = (7 : Int32) by decide), if_neg (show ¬ nI 9 = (8 : Int32) by decide), if_neg (show ¬ nI 9 = (8 : Int32) by decide), if_pos (show nI 9 = (9 : Int32) from rfl), if_pos (show nI 9 = (9 : Int32) from rfl)]
        rw [show nI 9 - 8 = (1 : Int32) by decide, (c_pt n8 h.sz hi).2, xb1, m_drY (by omega), xb1, (pt_both hK h).2, xb1, d1]
        exact ⟨_, rfl, rfl⟩
      · rw [if_neg (show ¬ nI 10 = (6 : Int32) by decide), if_neg (show ¬ nI 10 = (6 : Int32) by decide), if_neg (show ¬ nI 10 = (7 : Int32) by decide), if_neg (show ¬ nI 10 = (7 : Int32) by decide), if_neg (show ¬ nI 10 = (8 : Int32) by decide), if_neg (show ¬ nI 10 = (8 : Int32) by decide), if_neg (show ¬ nI 10 = (9 : Int32) by decide), if_neg (show ¬ nI 10 = (9 : Int32) by decide), if_pos (show nI 10 = (10 : Int32) from rfl), if_pos (show nI 10 = (10 : Int32) from rfl)]
        rw [(qs_both hK h hI.1 hi).1, (qs_both hK h hI.1 hi).2, xb1, xb1]
        by_cases q : qvl f (cdr f i 0) (cdr f i 1) = 0
        · rw [if_pos q, if_pos q]
          exact ⟨_, rfl, rfl⟩
        · rw [if_neg q, if_neg q]
          exact ⟨_, rfl, rfl⟩
      · rw [if_neg (show ¬ nI 11 = (6 : Int32) by decide), if_neg (show ¬ nI 11 = (6 : Int32) by decide), if_neg (show ¬ nI 11 = (7 : Int32) by decide), if_neg (show ¬ nI 11 = (7 : Int32) by decide), if_neg (show ¬ nI 11 = (8 : Int32) by decide), if_neg (show ¬ nI 11 = (8 : Int32) by decide), if_neg (show ¬ nI 11 = (9 : Int32) by decide), if_neg (show ¬ nI 11 = (9 : Int32) by decide), if_neg (show ¬ nI 11 = (10 : Int32) by decide), if_neg (show ¬ nI 11 = (10 : Int32) by decide), if_pos (show nI 11 = (11 : Int32) from rfl), if_pos (show nI 11 = (11 : Int32) from rfl)]
        rw [bx_of (c := 6) (by rfl) (by omega) (by decide), xb1, bm_ix (a := 48) (by rfl) (by omega), bm_cl (a := 48) (by rfl) (by omega), show f (17 + 8 * i + 6) = g (48 + i) from h.1.2.2.1 i 6 hi (by decide)]
        exact ⟨_, rfl, rfl⟩
      · rw [if_neg (show ¬ nI 12 = (6 : Int32) by decide), if_neg (show ¬ nI 12 = (6 : Int32) by decide), if_neg (show ¬ nI 12 = (7 : Int32) by decide), if_neg (show ¬ nI 12 = (7 : Int32) by decide), if_neg (show ¬ nI 12 = (8 : Int32) by decide), if_neg (show ¬ nI 12 = (8 : Int32) by decide), if_neg (show ¬ nI 12 = (9 : Int32) by decide), if_neg (show ¬ nI 12 = (9 : Int32) by decide), if_neg (show ¬ nI 12 = (10 : Int32) by decide), if_neg (show ¬ nI 12 = (10 : Int32) by decide), if_neg (show ¬ nI 12 = (11 : Int32) by decide), if_neg (show ¬ nI 12 = (11 : Int32) by decide), if_pos (show nI 12 = (12 : Int32) from rfl), if_pos (show nI 12 = (12 : Int32) from rfl)]
        rw [bx_of (c := 7) (by rfl) (by omega) (by decide), xb1, bm_ix (a := 56) (by rfl) (by omega), bm_cl (a := 56) (by rfl) (by omega), show f (17 + 8 * i + 7) = g (56 + i) from h.1.2.2.1 i 7 hi (by decide)]
        exact ⟨_, rfl, rfl⟩
      · rw [if_neg (show ¬ nI 13 = (6 : Int32) by decide), if_neg (show ¬ nI 13 = (6 : Int32) by decide), if_neg (show ¬ nI 13 = (7 : Int32) by decide), if_neg (show ¬ nI 13 = (7 : Int32) by decide), if_neg (show ¬ nI 13 = (8 : Int32) by decide), if_neg (show ¬ nI 13 = (8 : Int32) by decide), if_neg (show ¬ nI 13 = (9 : Int32) by decide), if_neg (show ¬ nI 13 = (9 : Int32) by decide), if_neg (show ¬ nI 13 = (10 : Int32) by decide), if_neg (show ¬ nI 13 = (10 : Int32) by decide), if_neg (show ¬ nI 13 = (11 : Int32) by decide), if_neg (show ¬ nI 13 = (11 : Int32) by decide), if_neg (show ¬ nI 13 = (12 : Int32) by decide), if_neg (show ¬ nI 13 = (12 : Int32) by decide), if_pos (show nI 13 = (13 : Int32) from rfl), if_pos (show nI 13 = (13 : Int32) from rfl)]
        rw [fz_c h.1 hi, xb1, ite10, bm_ix (a := 76) (by rfl) (by omega), bm_cl (a := 76) (by rfl) (by omega)]
        rcases (hI.2 (by omega)).2.1 i hi with q | q
        · rw [q, if_neg (show ¬ (0 : Int32) = 1 by decide)]
          exact ⟨_, rfl, rfl⟩
        · rw [q, if_pos rfl]
          exact ⟨_, rfl, rfl⟩
      · have ne : ∀ c C, 6 ≤ c → c ≤ 13 → C = nI c → ¬ nI m = C := fun c C a b e q => by
          have := (nI_eq (a := m) (b := c) (by omega) (by omega)).mp (q.trans e)
          omega
        rw [if_neg (ne 6 (6 : Int32) (by omega) (by omega) rfl), if_neg (ne 6 (6 : Int32) (by omega) (by omega) rfl), if_neg (ne 7 (7 : Int32) (by omega) (by omega) rfl), if_neg (ne 7 (7 : Int32) (by omega) (by omega) rfl), if_neg (ne 8 (8 : Int32) (by omega) (by omega) rfl), if_neg (ne 8 (8 : Int32) (by omega) (by omega) rfl), if_neg (ne 9 (9 : Int32) (by omega) (by omega) rfl), if_neg (ne 9 (9 : Int32) (by omega) (by omega) rfl), if_neg (ne 10 (10 : Int32) (by omega) (by omega) rfl), if_neg (ne 10 (10 : Int32) (by omega) (by omega) rfl), if_neg (ne 11 (11 : Int32) (by omega) (by omega) rfl), if_neg (ne 11 (11 : Int32) (by omega) (by omega) rfl), if_neg (ne 12 (12 : Int32) (by omega) (by omega) rfl), if_neg (ne 12 (12 : Int32) (by omega) (by omega) rfl), if_neg (ne 13 (13 : Int32) (by omega) (by omega) rfl), if_neg (ne 13 (13 : Int32) (by omega) (by omega) rfl), Int32.zero_add, b_of (by omega) (by omega), xb1, show (8 : Int32) = nI 8 from rfl, nI_mul, bm_ix (A := nI (8 * m)) (a := 8 * m) rfl (by omega), bm_cl (A := nI (8 * m)) (a := 8 * m) rfl (by omega), h.1.2.2.1 i m hi (by omega)]
        exact ⟨_, rfl, rfl⟩
    · rw [if_neg d, J1]
      refine Or.inr ⟨1, rfl, Or.inr ?_, rfl⟩
      by_cases q : 0 ≤ y
      · exact Or.inr (fun r => d ⟨q, r⟩)
      · exact Or.inl (Int32.not_le.mp q)
  · rw [c1, c2, xb1, xb1, if_pos rfl, if_pos rfl, J1]
    exact Or.inr ⟨0, rfl, Or.inl rfl, rfl⟩
