/-! the reference takes a watch -/
theorem u_takeWatch {K s : Nat} {la bo go si ac im : Int32} {rp g : Nat → Int32} (hK : 200000 ≤ K) (hs : s ≤ 8) : Tt (F_X8_takeWatch K la bo go (nI s) rp g si ac im) (fun x => x.1 = nI s ∧ (x.2.1 84 = 0 ∧ x.2.1 75 = 0) ∧ x.2.2.1 = nI s ∧ x.2.2.2.1 = 0 ∧ x.2.2.2.2 = 0) := by
  unfold F_X8_takeWatch
  refine tt_bd1 (P := fun x => ∀ y, y < 265 → x y = 0) (tt_for (fun j u => u.1 = nI j ∧ ∀ y, y < j → u.2 y = 0) 265 (by omega) ⟨rfl, fun y hy => absurd hy (Nat.not_lt_zero _)⟩ (fun j u hj hu => ?_)) (fun w0 h0 => ?_)
  · unfold B_X8_takeWatch_10
    refine tt_ite (fun q => tt_some (nx_r (fun y hy => hu.2 y ?_))) (fun q => ?_)
    · rw [hu.1] at q
      have := (nI_leI (a := 265) (b := j) (by omega) (by omega)).mp q
      omega
    · have jl : j < 265 := lt_of_lit (by decide) (by omega) hu.1 q
      rw [hu.1, nI_clamp (show j < 2 ^ 31 by omega)]
      refine tt_ixn jl (by decide) (tt_nm (tt_some (nx_l jl ⟨nx1 rfl, fun y hy => ?_⟩)))
      by_cases e : y = j
      · rw [e]
        exact upd_at
      · exact (upd_no (by omega)).trans (hu.2 y (by omega))
  · refine tt_bd1 (P := fun x => x 84 = 0 ∧ x 75 = 0) (tt_for (fun j u => u.1 = nI j ∧ u.2 84 = 0 ∧ u.2 75 = 0) 8 (by omega) ⟨rfl, h0 84 (by decide), h0 75 (by decide)⟩ (fun j u hj hu => ?_)) (fun w hw => ?_)
    · unfold B_X8_takeWatch_32
      refine tt_ite (fun _ => tt_some (nx_r hu.2)) (fun q => ?_)
      have jl := sl hs hj hu.1 q
      have e1 : (2 : Int32) * nI j = nI (2 * j) := nI_mul 2 j
      rw [hu.1, e1, show nI (2 * j) + 1 = nI (2 * j + 1) from nI_1 _, i0, i8, i16, i24, nI_clamp (show 0 + j < 2 ^ 31 by omega), nI_clamp (show 8 + j < 2 ^ 31 by omega), nI_clamp (show 16 + j < 2 ^ 31 by omega), nI_clamp (show 24 + j < 2 ^ 31 by omega)]
      refine tt_ixn (by omega) (by decide) (tt_ixn (by omega) (by decide) (tt_nm ?_))
      refine tt_ixn (by omega) (by decide) (tt_ixn (by omega) (by decide) (tt_nm ?_))
      refine tt_ixn (by omega) (by decide) (tt_ixn (by omega) (by decide) (tt_nm ?_))
      refine tt_ixn (by omega) (by decide) (tt_ixn (by omega) (by decide) (tt_nm (tt_some (nx_l (by omega) ⟨nx1 rfl, ?_, ?_⟩))))
      · exact (upd_no (by omega)).trans ((upd_no (by omega)).trans ((upd_no (by omega)).trans ((upd_no (by omega)).trans hu.2.1)))
      · exact (upd_no (by omega)).trans ((upd_no (by omega)).trans ((upd_no (by omega)).trans ((upd_no (by omega)).trans hu.2.2)))
    · have w84 : w 84 = 0 := hw.1
      have w75 : w 75 = 0 := hw.2
      refine tt_nm (tt_nm (tt_nm (tt_bd1 (u_sum16 hK hs) (fun _ _ => tt_bd1 (u_sum24 hK hs) (fun _ _ => tt_bd1 u_isAllowed (fun _ _ => ?_))))))
      exact tt_ite (fun _ => tt_nm (tt_some ⟨rfl, ⟨w84, w75⟩, rfl, rfl, rfl⟩)) (fun _ => tt_nm (tt_some ⟨rfl, ⟨w84, w75⟩, rfl, rfl, rfl⟩))
