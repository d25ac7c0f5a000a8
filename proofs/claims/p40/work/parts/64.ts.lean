-- 64.ts
section
/-! State: every method ends, and leaves the number of sites -/
theorem sx {a b : Nat} : (17 : Int32) + nI a * 8 + nI b = nI (17 + a * 8 + b) := by rw [show (17 : Int32) = nI 17 from rfl, show (8 : Int32) = nI 8 from rfl, nI_mul, nI_add, nI_add]
theorem tt_nz {α : Type} {d : Int32} {g : Option α} {Q : α → Prop} (hd : ¬ d = 0) (h : Tt g Q) : Tt (nzI d g) Q := by unfold nzI; rw [if_neg hd]; exact h
theorem tt_nzL {α : Type} {d : Int64} {g : Option α} {Q : α → Prop} (hd : ¬ d = 0) (h : Tt g Q) : Tt (nzL d g) Q := by unfold nzL; rw [if_neg hd]; exact h
theorem t_floorDiv {a b : Int32} (h : ¬ b = 0) : Tt (F_J9_floorDiv_7cf53 a b) (fun _ => True) := by
  unfold F_J9_floorDiv_7cf53
  refine tt_nz h ?_
  repeat' (first | (with_reducible refine tt_some ?_) | (with_reducible refine tt_nm ?_) | (with_reducible refine tt_ite (fun _ => ?_) (fun _ => ?_)))
  all_goals (first | trivial | assumption | (simp [upd, *]; done))
theorem t_floorMod {a b : Int32} (h : ¬ b = 0) : Tt (F_J9_floorMod_7cf53 a b) (fun _ => True) := by
  unfold F_J9_floorMod_7cf53
  refine tt_nz h ?_
  repeat' (first | (with_reducible refine tt_some ?_) | (with_reducible refine tt_nm ?_) | (with_reducible refine tt_ite (fun _ => ?_) (fun _ => ?_)))
  all_goals (first | trivial | assumption | (simp [upd, *]; done))
theorem t_hasSite {p1 : Int32} {f : Nat → Int32} : Tt (F_X5_hasSite p1 f) (fun _ => True) := by
  unfold F_X5_hasSite
  repeat' (first | (with_reducible refine tt_some ?_) | (with_reducible refine tt_nm ?_) | (with_reducible refine tt_ite (fun _ => ?_) (fun _ => ?_)) | (with_reducible refine tt_bd1 (t_floorDiv ?_) (fun _ _ => ?_)) | (with_reducible refine tt_bd1 (t_floorMod ?_) (fun _ _ => ?_)))
  all_goals (first | trivial | assumption | (simp [upd, *]; done))
theorem t_of {p1 p2 : Int32} {f : Nat → Int32} : Tt (F_X5_of p1 p2 f) (fun _ => True) := by
  unfold F_X5_of
  refine tt_ite (fun _ => tt_some trivial) (fun a1 => ?_)
  refine tt_ite (fun _ => tt_some trivial) (fun a2 => ?_)
  refine tt_ite (fun _ => tt_some trivial) (fun b1 => ?_)
  refine tt_ite (fun b2 => ?_) (fun _ => tt_some trivial)
  obtain ⟨a, ha, rfl⟩ := nnI (n := 8) (by decide) a1 a2
  obtain ⟨b, hb, rfl⟩ := nnI (n := 8) (by decide) b1 (lt_not.mp b2)
  rw [sx]
  exact tt_ixn (by omega) (by decide) (tt_some trivial)
theorem t_isReached {f : Nat → Int32} : Tt (F_X5_isReached f) (fun _ => True) := by
  unfold F_X5_isReached
  repeat' (first | (with_reducible refine tt_some ?_) | (with_reducible refine tt_nm ?_) | (with_reducible refine tt_ite (fun _ => ?_) (fun _ => ?_)) | (with_reducible refine tt_bd1 (t_floorDiv ?_) (fun _ _ => ?_)) | (with_reducible refine tt_bd1 (t_floorMod ?_) (fun _ _ => ?_)) | (with_reducible refine tt_bd1 (t_hasSite) (fun _ _ => ?_)) | (with_reducible refine tt_bd1 (t_of) (fun _ _ => ?_)))
  all_goals (first | trivial | assumption | (simp [upd, *]; done))
theorem t_addRefusal {p1 p2 : Int32} {f : Nat → Int32} : Tt (F_X5_addRefusal p1 p2 f) (fun _ => True) := by
  unfold F_X5_addRefusal
  repeat' (first | (with_reducible refine tt_some ?_) | (with_reducible refine tt_nm ?_) | (with_reducible refine tt_ite (fun _ => ?_) (fun _ => ?_)) | (with_reducible refine tt_bd1 (t_floorDiv ?_) (fun _ _ => ?_)) | (with_reducible refine tt_bd1 (t_floorMod ?_) (fun _ _ => ?_)) | (with_reducible refine tt_bd1 (t_hasSite) (fun _ _ => ?_)) | (with_reducible refine tt_bd1 (t_of) (fun _ _ => ?_)) | (with_reducible refine tt_bd1 (t_isReached) (fun _ _ => ?_)))
  all_goals (first | trivial | assumption | (simp [upd, *]; done))
theorem t_put {p1 p2 p3 : Int32} {f : Nat → Int32} : Tt (F_X5_put p1 p2 p3 f) (fun g => g 3 = f 3) := by
  unfold F_X5_put
  refine tt_ite (fun _ => tt_some rfl) (fun a1 => ?_)
  refine tt_ite (fun _ => tt_some rfl) (fun a2 => ?_)
  refine tt_ite (fun _ => tt_some rfl) (fun b1 => ?_)
  refine tt_ite (fun _ => tt_some rfl) (fun b2 => ?_)
  obtain ⟨a, ha, rfl⟩ := nnI (n := 8) (by decide) a1 a2
  obtain ⟨b, hb, rfl⟩ := nnI (n := 8) (by decide) b1 b2
  rw [sx]
  refine tt_ixn (by omega) (by decide) (tt_nm (tt_some ?_))
  rw [nI_clamp (by omega)]
  exact upd_no (by omega)
theorem t_stepFrom {p1 : Int32} {f : Nat → Int32} : Tt (F_X5_stepFrom p1 f) (fun _ => True) := by
  unfold F_X5_stepFrom
  refine tt_ite (fun _ => tt_some trivial) (fun a1 => ?_)
  refine tt_ite (fun _ => ?_) (fun _ => tt_some trivial)
  refine tt_nz (fun z => a1 ?_) (tt_some trivial)
  rw [z]
  exact Int32.le_refl 0
theorem t_sites {f : Nat → Int32} : Tt (F_X5_sites f) (fun r => r = f 3) := by
  exact tt_some rfl
theorem t_total {K : Nat} {f : Nat → Int32} {p1 : Int32} (hK : 200000 ≤ K) (hr : Rw (f 3)) : Tt (F_X5_total K p1 f) (fun _ => True) := by
  unfold F_X5_total
  refine tt_bd1 (P := fun _ => True) (tt_for (fun j u => u.2 = nI j) 8 (by omega) rfl (fun j u hj hu => ?_)) (fun _ _ => tt_some trivial)
  unfold B_X5_total_4
  refine tt_bd1 t_sites (fun r hs => tt_ite (fun _ => tt_some (nx_r trivial)) (fun q => tt_bd1 t_of (fun _ _ => tt_some (nx_l (rw_lt hr hs hu hj q) (nx1 hu)))))
theorem t_endRound {K : Nat} {f : Nat → Int32} (hK : 200000 ≤ K) (hr : Rw (f 3)) : Tt (F_X5_endRound K f) (fun g => g 3 = f 3) := by
  unfold F_X5_endRound
  refine tt_bd1 (t_total hK hr) (fun r _ => tt_nm (tt_nm (tt_nm ?_)))
  refine tt_bd1 (P := fun g => g 3 = f 3) (tt_for (fun j u => u.1 = nI j ∧ u.2 3 = f 3) 8 (by omega) ⟨rfl, rfl⟩ (fun j u hj hu => ?_)) (fun g hg => tt_some hg)
  unfold B_X5_endRound_34
  refine tt_bd1 t_sites (fun r hs => tt_ite (fun _ => tt_some (nx_r hu.2)) (fun q => tt_bd1 t_put (fun g hg => tt_some (nx_l (rw_lt hr (hs.trans hu.2) hu.1 hj q) ⟨nx1 hu.1, hg.trans hu.2⟩))))
theorem t_addTo {K : Nat} {p1 p2 : Int32} {f : Nat → Int32} (hK : 200000 ≤ K) (hr : Rw (f 3)) : Tt (F_X5_addTo K p1 p2 f) (fun x => x.2 3 = f 3) := by
  unfold F_X5_addTo
  refine tt_bd1 t_of (fun r _ => tt_bd1 t_put (fun w hw => tt_bd1 t_stepFrom (fun s _ => ?_)))
  refine tt_ite (fun _ => tt_nm (tt_some hw)) (fun _ => tt_bd1 t_of (fun r8 _ => tt_bd1 t_put (fun w1 hw1 => ?_)))
  refine tt_bd3 (P := fun x : Nat × Int32 × (Nat → Int32) => x.1 < 2 ∧ x.2.2 3 = f 3) (tt_for (fun j u => u.2.1 = nI j ∧ u.2.2 3 = f 3) 8 (by omega) ⟨rfl, hw1.trans hw⟩ (fun j u hj hu => ?_)) (fun t x4 g hg => ?_)
  · unfold B_X5_addTo_67
    refine tt_ite (fun _ => tt_some (nx_r ⟨Nat.lt_succ_self 1, hu.2⟩)) (fun q => tt_bd1 t_of (fun r _ => tt_ite (fun _ => tt_some (nx_r ⟨Nat.lt_succ_self 1, hu.2⟩)) (fun _ => tt_bd1 t_of (fun r _ => tt_bd1 t_put (fun g hg => tt_nm ?_)))))
    have jl : j < 8 := by
      rw [hu.1, show (8 : Int32) = nI 8 from rfl] at q
      have := mt (nI_leI (a := 8) (b := j) (by omega) (by omega)).mpr q
      omega
    exact tt_ite (fun _ => tt_some (nx_l jl ⟨nx1 hu.1, hg.trans hu.2⟩)) (fun _ => tt_some (nx_r ⟨Nat.zero_lt_succ 1, hg.trans hu.2⟩))
  · have hg2 : g 3 = f 3 := hg.2
    have ht : t < 2 := hg.1
    refine tt_ite (fun _ => tt_bd1 (t_endRound hK (by rw [hg2]; exact hr)) (fun w hw => tt_some (Eq.trans hw hg2))) (fun h0 => tt_ite (fun _ => tt_some hg2) (fun h1 => ?_))
    omega
theorem t_valueOf {p1 p2 : Int64} {f : Nat → Int32} : Tt (F_X5_valueOf p1 p2 f) (fun _ => True) := by
  unfold F_X5_valueOf J_X5_valueOf_12 J_X5_valueOf_26
  repeat' (first | (with_reducible refine tt_some ?_) | (with_reducible refine tt_nm ?_) | (with_reducible refine tt_ite (fun _ => ?_) (fun _ => ?_)) | (with_reducible refine tt_bd1 (t_floorDiv ?_) (fun _ _ => ?_)) | (with_reducible refine tt_bd1 (t_floorMod ?_) (fun _ _ => ?_)) | (with_reducible refine tt_bd1 (t_hasSite) (fun _ _ => ?_)) | (with_reducible refine tt_bd1 (t_of) (fun _ _ => ?_)) | (with_reducible refine tt_bd1 (t_isReached) (fun _ _ => ?_)) | (with_reducible refine tt_bd1 (t_addRefusal) (fun _ _ => ?_)) | (with_reducible refine tt_bd1 (t_put) (fun _ _ => ?_)) | (with_reducible refine tt_bd1 (t_stepFrom) (fun _ _ => ?_)) | (with_reducible refine tt_bd1 (t_sites) (fun _ _ => ?_)) | (with_reducible refine tt_bd1 (t_total ?_ ?_) (fun _ _ => ?_)) | (with_reducible refine tt_bd1 (t_endRound ?_ ?_) (fun _ _ => ?_)) | (with_reducible refine tt_bd2 (t_addTo ?_ ?_) (fun _ _ _ => ?_)))
  all_goals (first | trivial | assumption | (simp [upd, *]; done))
theorem t_allows {p1 p2 : Int64} {f : Nat → Int32} : Tt (F_X5_allows p1 p2 f) (fun _ => True) := by
  unfold F_X5_allows
  repeat' (first | (with_reducible refine tt_some ?_) | (with_reducible refine tt_nm ?_) | (with_reducible refine tt_ite (fun _ => ?_) (fun _ => ?_)) | (with_reducible refine tt_bd1 (t_floorDiv ?_) (fun _ _ => ?_)) | (with_reducible refine tt_bd1 (t_floorMod ?_) (fun _ _ => ?_)) | (with_reducible refine tt_bd1 (t_hasSite) (fun _ _ => ?_)) | (with_reducible refine tt_bd1 (t_of) (fun _ _ => ?_)) | (with_reducible refine tt_bd1 (t_isReached) (fun _ _ => ?_)) | (with_reducible refine tt_bd1 (t_addRefusal) (fun _ _ => ?_)) | (with_reducible refine tt_bd1 (t_put) (fun _ _ => ?_)) | (with_reducible refine tt_bd1 (t_stepFrom) (fun _ _ => ?_)) | (with_reducible refine tt_bd1 (t_sites) (fun _ _ => ?_)) | (with_reducible refine tt_bd1 (t_total ?_ ?_) (fun _ _ => ?_)) | (with_reducible refine tt_bd1 (t_endRound ?_ ?_) (fun _ _ => ?_)) | (with_reducible refine tt_bd2 (t_addTo ?_ ?_) (fun _ _ _ => ?_)) | (with_reducible refine tt_bd1 (t_valueOf) (fun _ _ => ?_)))
  all_goals (first | trivial | assumption | (simp [upd, *]; done))
theorem t_aloneToGoal {K : Nat} {p1 p2 : Int32} {f : Nat → Int32} (hK : 200000 ≤ K) (hr : Rw (f 3)) : Tt (F_X5_aloneToGoal K p1 p2 f) (fun _ => True) := by
  unfold F_X5_aloneToGoal
  refine tt_bd1 (t_total hK hr) (fun r _ => tt_bd1 t_of (fun r3 _ => tt_bd1 t_stepFrom (fun r5 _ => ?_)))
  refine tt_bd3 (P := fun _ => True) (tt_for (fun j u => u.2.2.2.2.2.2.2 = nI j) 9999 (by omega) rfl (fun j u hj hu => ?_)) (fun _ _ _ _ => ?_)
  · unfold B_X5_aloneToGoal_50
    refine tt_ite (fun _ => tt_some (nx_r trivial)) (fun q => tt_ite (fun _ => tt_some (nx_r trivial)) (fun _ => tt_bd1 t_stepFrom (fun r9 _ => tt_some (nx_l ?_ (nx1 hu)))))
    rw [hu, show (9999 : Int32) = nI 9999 from rfl] at q
    have := mt (nI_leI (a := 9999) (b := j) (by omega) (by omega)).mpr q
    omega
  · unfold J_X5_aloneToGoal_136
    exact tt_ite (fun _ => tt_some trivial) (fun _ => tt_some trivial)
theorem t_shareOf {p1 p2 : Int32} {a b : Nat → Int32} : Tt (F_X5_shareOf p1 p2 a b) (fun _ => True) := by
  unfold F_X5_shareOf
  refine tt_ite (fun _ => tt_some trivial) (fun a1 => tt_ite (fun a2 => ?_) (fun _ => tt_some trivial))
  obtain ⟨c, hc, rfl⟩ := nnI (n := 2) (by decide) a1 (fun z => absurd (Int32.le_trans (show (2 : Int32) ≤ p2 from z) a2) (by decide))
  exact tt_ixn hc (by decide) (tt_ite (fun _ => tt_ixn hc (by decide) (tt_some trivial)) (fun _ => tt_ixn hc (by decide) (tt_some trivial)))
theorem t_drift {p1 p2 : Int32} {f : Nat → Int32} : Tt (F_X5_drift p1 p2 f) (fun _ => True) := by
  unfold F_X5_drift
  refine tt_ite (fun _ => tt_some trivial) (fun a1 => ?_)
  refine tt_ite (fun _ => tt_some trivial) (fun a2 => ?_)
  refine tt_ite (fun _ => tt_some trivial) (fun b1 => tt_ite (fun b2 => ?_) (fun _ => tt_some trivial))
  obtain ⟨a, ha, rfl⟩ := nnI (n := 8) (by decide) a1 a2
  obtain ⟨b, hb, rfl⟩ := nnI (n := 2) (by decide) b1 (fun z => absurd (Int32.le_trans (show (2 : Int32) ≤ p2 from z) b2) (by decide))
  rw [sx, show (0 : Int32) = nI 0 from rfl, show (2 : Int32) = nI 2 from rfl, show (4 : Int32) = nI 4 from rfl, nI_add, nI_add, nI_add]
  exact tt_ixn (by omega) (by decide) (tt_ixn (by omega) (by decide) (tt_ixn (by omega) (by decide) (tt_some trivial)))
theorem t_balance {K : Nat} {p1 ac oc : Int32} {f sh lo : Nat → Int32} (hK : 200000 ≤ K) (hr : Rw (f 3)) : Tt (F_X5_balance K p1 f ac oc sh lo) (fun x => x.2.1 3 = f 3) := by
  unfold F_X5_balance
  refine tt_nm (tt_bd2 (P := fun x : Int32 × (Nat → Int32) => x.2 3 = f 3) (tt_for (fun j u => u.2.1 = nI j ∧ u.2.2 3 = f 3) 8 (by omega) ⟨rfl, rfl⟩ (fun j u hj hu => ?_)) (fun x2 g hg => tt_some hg))
  unfold B_X5_balance_20
  refine tt_bd1 t_sites (fun r hs => tt_ite (fun _ => tt_some (nx_r hu.2)) (fun q => ?_))
  have jl := rw_lt hr (hs.trans hu.2) hu.1 hj q
  refine tt_ite (fun _ => tt_some (nx_l jl ⟨nx1 hu.1, hu.2⟩)) (fun _ => ?_)
  refine tt_bd1 (P := fun g => g 3 = f 3) (tt_for (fun j u => u.1 = nI j ∧ u.2 3 = f 3) 2 (by omega) ⟨rfl, hu.2⟩ (fun i v hi hv => ?_)) (fun g hg => tt_some (nx_l jl ⟨nx1 hu.1, hg⟩))
  unfold B_X5_balance_42
  refine tt_ite (fun _ => tt_some (nx_r hv.2)) (fun q => tt_bd1 t_shareOf (fun _ _ => tt_bd1 t_drift (fun _ _ => tt_bd1 t_of (fun _ _ => tt_bd1 t_put (fun g hg => tt_some (nx_l ?_ ⟨nx1 hv.1, hg.trans hv.2⟩))))))
  rw [hv.1, show (2 : Int32) = nI 2 from rfl] at q
  have := mt (nI_leI (a := 2) (b := i) (by omega) (by omega)).mpr q
  omega
theorem t_hearPlaces {K : Nat} {f : Nat → Int32} (hK : 200000 ≤ K) (hr : Rw (f 3)) : Tt (F_X5_hearPlaces K f) (fun g => g 3 = f 3) := by
  unfold F_X5_hearPlaces
  refine tt_nm (tt_nm (tt_bd1 (P := fun g => g 3 = f 3) (tt_for (fun j u => u.1 = nI j ∧ u.2 3 = f 3) 8 (by omega) ⟨rfl, rfl⟩ (fun j u hj hu => ?_)) (fun g hg => tt_some hg)))
  unfold B_X5_hearPlaces_16
  refine tt_bd1 t_sites (fun r hs => tt_ite (fun _ => tt_some (nx_r hu.2)) (fun q => ?_))
  have jl := rw_lt hr (hs.trans hu.2) hu.1 hj q
  exact tt_bd1 t_of (fun _ _ => tt_bd1 t_put (fun g1 h1 => tt_bd1 t_of (fun _ _ => tt_bd1 t_put (fun g2 h2 => tt_bd1 t_put (fun g3 h3 => tt_bd1 t_put (fun g4 h4 => tt_bd1 t_of (fun _ _ => tt_nm (tt_bd1 t_of (fun _ _ => tt_nm (tt_some (nx_l jl ⟨nx1 hu.1, h4.trans (h3.trans (h2.trans (h1.trans hu.2)))⟩)))))))))))
theorem t_begin {K : Nat} {f ru pl : Nat → Int32} {s : Nat} (hK : 200000 ≤ K) (hs : s ≤ 8) : Tt (F_X5_begin K f ru pl (nI s)) (fun g => g 3 = nI s) := by
  unfold F_X5_begin
  have hm : minF (nI s) 8 = nI s := by
    unfold minF
    refine if_neg (fun z => ?_)
    rw [show (8 : Int32) = nI 8 from rfl] at z
    have := (nI_ltI (a := 8) (b := s) (by omega) (by omega)).mp z
    omega
  refine tt_bd1 (P := fun _ => True) (tt_for (fun j u => u.1 = nI j) 81 (by omega) rfl (fun j u hj hu => ?_)) (fun g _ => tt_nm (tt_nm (tt_nm (tt_nm ?_))))
  · unfold B_X5_begin_2
    refine tt_ite (fun _ => tt_some (nx_r trivial)) (fun q => ?_)
    have jl : j < 81 := by
      rw [hu, show (81 : Int32) = nI 81 from rfl] at q
      have := mt (nI_leI (a := 81) (b := j) (by omega) (by omega)).mpr q
      omega
    rw [hu]
    exact tt_ixn jl (by decide) (tt_nm (tt_some (nx_l jl (nx1 rfl))))
  · have hr : Rw (nI s) := ⟨s, hs, rfl⟩
    refine tt_bd1 (P := fun g => g 3 = nI s) (tt_for (fun j u => u.1 = nI j ∧ u.2 3 = nI s) 8 (by omega) ⟨rfl, hm⟩ (fun j u hj hu => ?_)) (fun g hg => tt_bd1 (t_hearPlaces hK (by rw [show g 3 = nI s from hg]; exact hr)) (fun w hw => tt_bd1 t_allows (fun _ _ => tt_ite (fun _ => tt_nm (tt_some (Eq.trans hw hg))) (fun _ => tt_nm (tt_some (Eq.trans hw hg))))))
    unfold B_X5_begin_74
    refine tt_bd1 t_sites (fun r hs => tt_ite (fun _ => tt_some (nx_r hu.2)) (fun q => ?_))
    have jl := rw_lt hr (hs.trans hu.2) hu.1 hj q
    have e1 : (2 : Int32) * u.1 = nI (2 * j) := by rw [hu.1]; exact nI_mul 2 j
    have e2 : (2 : Int32) * u.1 + 1 = nI (2 * j + 1) := nx1 e1
    rw [e2, e1]
    exact tt_ixn (by omega) (by decide) (tt_bd1 t_put (fun g1 h1 => tt_ixn (by omega) (by decide) (tt_bd1 t_put (fun g2 h2 => tt_some (nx_l jl ⟨nx1 hu.1, h2.trans (h1.trans hu.2)⟩)))))
end
-- 65.tu
section
/-! State, its second half; the draw, history and scripts -/
theorem lt_of_lit {x : Int32} {n j : Nat} (hn : n < 2 ^ 31) (hj : j < 2 ^ 31) (hx : x = nI j) (q : ¬ nI n ≤ x) : j < n := by
  rw [hx] at q
  have := mt (nI_leI (a := n) (b := j) hn hj).mpr q
  omega
theorem t_bitCount {p : Int32} : Tt (F_J6_bitCount_0f7a4 p) (fun _ => True) := by
  exact tt_some trivial
theorem t_measureShares {K : Nat} {p1 : Int32} {f a b : Nat → Int32} (hK : 200000 ≤ K) (hr : Rw (f 3)) : Tt (F_X5_measureShares K p1 f a b) (fun _ => True) := by
  unfold F_X5_measureShares
  refine tt_bd1 t_bitCount (fun r _ => tt_ite (fun _ => tt_some trivial) (fun r0 => ?_))
  refine tt_bd2 (P := fun _ => True) (tt_for (fun j u => u.1 = nI j) 2 (by omega) rfl (fun j u hj hu => ?_)) (fun _ _ _ => tt_some trivial)
  unfold B_X5_measureShares_12
  refine tt_ite (fun _ => tt_some (nx_r trivial)) (fun q => ?_)
  have jl : j < 2 := lt_of_lit (by decide) (by omega) hu q
  refine tt_bd1 (P := fun _ => True) (tt_for (fun j u => u.2 = nI j) 8 (by omega) rfl (fun i v hi hv => ?_)) (fun x4 _ => ?_)
  · unfold B_X5_measureShares_23
    refine tt_bd1 t_sites (fun r hs => tt_ite (fun _ => tt_some (nx_r trivial)) (fun q => ?_))
    have il := rw_lt hr hs hv hi q
    exact tt_ite (fun _ => tt_some (nx_l il (nx1 hv))) (fun _ => tt_bd1 t_drift (fun _ _ => tt_some (nx_l il (nx1 hv))))
  · rw [hu]
    exact tt_bd1 (t_floorDiv r0) (fun _ _ => tt_ixn jl (by decide) (tt_nm (tt_bd1 (t_floorMod r0) (fun _ _ => tt_ixn jl (by decide) (tt_nm (tt_some (nx_l jl (nx1 rfl))))))))
theorem t_isAbove {f : Nat → Int32} : Tt (F_X5_isAbove f) (fun _ => True) := by
  unfold F_X5_isAbove
  repeat' (first | (with_reducible refine tt_some ?_) | (with_reducible refine tt_nm ?_) | (with_reducible refine tt_ite (fun _ => ?_) (fun _ => ?_)) | (with_reducible refine tt_bd1 (t_floorDiv ?_) (fun _ _ => ?_)) | (with_reducible refine tt_bd1 (t_floorMod ?_) (fun _ _ => ?_)) | (with_reducible refine tt_bd1 (t_hasSite) (fun _ _ => ?_)) | (with_reducible refine tt_bd1 (t_of) (fun _ _ => ?_)) | (with_reducible refine tt_bd1 (t_isReached) (fun _ _ => ?_)) | (with_reducible refine tt_bd1 (t_addRefusal) (fun _ _ => ?_)) | (with_reducible refine tt_bd1 (t_put) (fun _ _ => ?_)) | (with_reducible refine tt_bd1 (t_stepFrom) (fun _ _ => ?_)) | (with_reducible refine tt_bd1 (t_sites) (fun _ _ => ?_)) | (with_reducible refine tt_bd1 (t_total ?_ ?_) (fun _ _ => ?_)) | (with_reducible refine tt_bd1 (t_endRound ?_ ?_) (fun _ _ => ?_)) | (with_reducible refine tt_bd2 (t_addTo ?_ ?_) (fun _ _ _ => ?_)) | (with_reducible refine tt_bd1 (t_valueOf) (fun _ _ => ?_)) | (with_reducible refine tt_bd1 (t_allows) (fun _ _ => ?_)) | (with_reducible refine tt_bd1 (t_aloneToGoal ?_ ?_) (fun _ _ => ?_)) | (with_reducible refine tt_bd1 (t_shareOf) (fun _ _ => ?_)) | (with_reducible refine tt_bd1 (t_drift) (fun _ _ => ?_)) | (with_reducible refine tt_bd3 (t_balance ?_ ?_) (fun _ _ _ _ => ?_)) | (with_reducible refine tt_bd1 (t_hearPlaces ?_ ?_) (fun _ _ => ?_)) | (with_reducible refine tt_bd1 (t_bitCount) (fun _ _ => ?_)) | (with_reducible refine tt_bd2 (t_measureShares ?_ ?_) (fun _ _ _ => ?_)))
  all_goals (first | trivial | assumption | (simp [upd, *]; done))
theorem t_isQuietDrift {p1 p2 : Int32} {f : Nat → Int32} : Tt (F_X5_isQuietDrift p1 p2 f) (fun _ => True) := by
  unfold F_X5_isQuietDrift
  repeat' (first | (with_reducible refine tt_some ?_) | (with_reducible refine tt_nm ?_) | (with_reducible refine tt_ite (fun _ => ?_) (fun _ => ?_)) | (with_reducible refine tt_bd1 (t_floorDiv ?_) (fun _ _ => ?_)) | (with_reducible refine tt_bd1 (t_floorMod ?_) (fun _ _ => ?_)) | (with_reducible refine tt_bd1 (t_hasSite) (fun _ _ => ?_)) | (with_reducible refine tt_bd1 (t_of) (fun _ _ => ?_)) | (with_reducible refine tt_bd1 (t_isReached) (fun _ _ => ?_)) | (with_reducible refine tt_bd1 (t_addRefusal) (fun _ _ => ?_)) | (with_reducible refine tt_bd1 (t_put) (fun _ _ => ?_)) | (with_reducible refine tt_bd1 (t_stepFrom) (fun _ _ => ?_)) | (with_reducible refine tt_bd1 (t_sites) (fun _ _ => ?_)) | (with_reducible refine tt_bd1 (t_total ?_ ?_) (fun _ _ => ?_)) | (with_reducible refine tt_bd1 (t_endRound ?_ ?_) (fun _ _ => ?_)) | (with_reducible refine tt_bd2 (t_addTo ?_ ?_) (fun _ _ _ => ?_)) | (with_reducible refine tt_bd1 (t_valueOf) (fun _ _ => ?_)) | (with_reducible refine tt_bd1 (t_allows) (fun _ _ => ?_)) | (with_reducible refine tt_bd1 (t_aloneToGoal ?_ ?_) (fun _ _ => ?_)) | (with_reducible refine tt_bd1 (t_shareOf) (fun _ _ => ?_)) | (with_reducible refine tt_bd1 (t_drift) (fun _ _ => ?_)) | (with_reducible refine tt_bd3 (t_balance ?_ ?_) (fun _ _ _ _ => ?_)) | (with_reducible refine tt_bd1 (t_hearPlaces ?_ ?_) (fun _ _ => ?_)) | (with_reducible refine tt_bd1 (t_bitCount) (fun _ _ => ?_)) | (with_reducible refine tt_bd2 (t_measureShares ?_ ?_) (fun _ _ _ => ?_)) | (with_reducible refine tt_bd1 (t_isAbove) (fun _ _ => ?_)))
  all_goals (first | trivial | assumption | (simp [upd, *]; done))
theorem t_canShare {K : Nat} {p1 : Int32} {f a b : Nat → Int32} (hK : 200000 ≤ K) (hr : Rw (f 3)) : Tt (F_X5_canShare K p1 f a b) (fun _ => True) := by
  unfold F_X5_canShare
  refine tt_bd2 (t_measureShares hK hr) (fun a1 b1 _ => ?_)
  refine tt_bd1 (P := fun t => t < 2) (tt_for (fun j u => u.2 = nI j) 8 (by omega) rfl (fun j u hj hu => ?_)) (fun t ht => tt_ite (fun _ => tt_some trivial) (fun h0 => tt_ite (fun _ => tt_some trivial) (fun h1 => ?_)))
  · unfold B_X5_canShare_9
    refine tt_bd1 t_sites (fun r hs => tt_ite (fun _ => tt_some (nx_r (Nat.lt_succ_self 1))) (fun q => ?_))
    have jl := rw_lt hr hs hu hj q
    exact tt_ite (fun _ => tt_some (nx_l jl (nx1 hu))) (fun _ => tt_bd1 t_shareOf (fun _ _ => tt_bd1 t_shareOf (fun _ _ => tt_bd1 t_isQuietDrift (fun _ _ => tt_ite (fun _ => tt_some (nx_r (Nat.zero_lt_succ 1))) (fun _ => tt_some (nx_l jl (nx1 hu)))))))
  · have ht' : t < 2 := ht
    omega
theorem t_copyFrom {f g : Nat → Int32} : Tt (F_X5_copyFrom f g) (fun h => h 3 = g 3) := by
  unfold F_X5_copyFrom
  exact tt_cp (by decide) (tt_nm (tt_some rfl))
theorem t_shift {p1 p2 p3 : Int32} {f : Nat → Int32} : Tt (F_X5_shift p1 p2 p3 f) (fun g => g 3 = f 3) := by
  unfold F_X5_shift
  repeat' (first | (with_reducible refine tt_some ?_) | (with_reducible refine tt_nm ?_) | (with_reducible refine tt_ite (fun _ => ?_) (fun _ => ?_)) | (with_reducible refine tt_bd1 (t_floorDiv ?_) (fun _ _ => ?_)) | (with_reducible refine tt_bd1 (t_floorMod ?_) (fun _ _ => ?_)) | (with_reducible refine tt_bd1 (t_hasSite) (fun _ _ => ?_)) | (with_reducible refine tt_bd1 (t_of) (fun _ _ => ?_)) | (with_reducible refine tt_bd1 (t_isReached) (fun _ _ => ?_)) | (with_reducible refine tt_bd1 (t_addRefusal) (fun _ _ => ?_)) | (with_reducible refine tt_bd1 (t_put) (fun _ _ => ?_)) | (with_reducible refine tt_bd1 (t_stepFrom) (fun _ _ => ?_)) | (with_reducible refine tt_bd1 (t_sites) (fun _ _ => ?_)) | (with_reducible refine tt_bd1 (t_total ?_ ?_) (fun _ _ => ?_)) | (with_reducible refine tt_bd1 (t_endRound ?_ ?_) (fun _ _ => ?_)) | (with_reducible refine tt_bd2 (t_addTo ?_ ?_) (fun _ _ _ => ?_)) | (with_reducible refine tt_bd1 (t_valueOf) (fun _ _ => ?_)) | (with_reducible refine tt_bd1 (t_allows) (fun _ _ => ?_)) | (with_reducible refine tt_bd1 (t_aloneToGoal ?_ ?_) (fun _ _ => ?_)) | (with_reducible refine tt_bd1 (t_shareOf) (fun _ _ => ?_)) | (with_reducible refine tt_bd1 (t_drift) (fun _ _ => ?_)) | (with_reducible refine tt_bd3 (t_balance ?_ ?_) (fun _ _ _ _ => ?_)) | (with_reducible refine tt_bd1 (t_hearPlaces ?_ ?_) (fun _ _ => ?_)) | (with_reducible refine tt_bd1 (t_bitCount) (fun _ _ => ?_)) | (with_reducible refine tt_bd2 (t_measureShares ?_ ?_) (fun _ _ _ => ?_)) | (with_reducible refine tt_bd1 (t_isAbove) (fun _ _ => ?_)) | (with_reducible refine tt_bd1 (t_isQuietDrift) (fun _ _ => ?_)) | (with_reducible refine tt_bd3 (t_canShare ?_ ?_) (fun _ _ _ _ => ?_)) | (with_reducible refine tt_bd1 (t_copyFrom) (fun _ _ => ?_)))
  all_goals (first | trivial | assumption | (simp [upd, *]; done))
theorem t_isQuiet {p1 : Int32} {f : Nat → Int32} : Tt (F_X5_isQuiet p1 f) (fun _ => True) := by
  unfold F_X5_isQuiet
  repeat' (first | (with_reducible refine tt_some ?_) | (with_reducible refine tt_nm ?_) | (with_reducible refine tt_ite (fun _ => ?_) (fun _ => ?_)) | (with_reducible refine tt_bd1 (t_floorDiv ?_) (fun _ _ => ?_)) | (with_reducible refine tt_bd1 (t_floorMod ?_) (fun _ _ => ?_)) | (with_reducible refine tt_bd1 (t_hasSite) (fun _ _ => ?_)) | (with_reducible refine tt_bd1 (t_of) (fun _ _ => ?_)) | (with_reducible refine tt_bd1 (t_isReached) (fun _ _ => ?_)) | (with_reducible refine tt_bd1 (t_addRefusal) (fun _ _ => ?_)) | (with_reducible refine tt_bd1 (t_put) (fun _ _ => ?_)) | (with_reducible refine tt_bd1 (t_stepFrom) (fun _ _ => ?_)) | (with_reducible refine tt_bd1 (t_sites) (fun _ _ => ?_)) | (with_reducible refine tt_bd1 (t_total ?_ ?_) (fun _ _ => ?_)) | (with_reducible refine tt_bd1 (t_endRound ?_ ?_) (fun _ _ => ?_)) | (with_reducible refine tt_bd2 (t_addTo ?_ ?_) (fun _ _ _ => ?_)) | (with_reducible refine tt_bd1 (t_valueOf) (fun _ _ => ?_)) | (with_reducible refine tt_bd1 (t_allows) (fun _ _ => ?_)) | (with_reducible refine tt_bd1 (t_aloneToGoal ?_ ?_) (fun _ _ => ?_)) | (with_reducible refine tt_bd1 (t_shareOf) (fun _ _ => ?_)) | (with_reducible refine tt_bd1 (t_drift) (fun _ _ => ?_)) | (with_reducible refine tt_bd3 (t_balance ?_ ?_) (fun _ _ _ _ => ?_)) | (with_reducible refine tt_bd1 (t_hearPlaces ?_ ?_) (fun _ _ => ?_)) | (with_reducible refine tt_bd1 (t_bitCount) (fun _ _ => ?_)) | (with_reducible refine tt_bd2 (t_measureShares ?_ ?_) (fun _ _ _ => ?_)) | (with_reducible refine tt_bd1 (t_isAbove) (fun _ _ => ?_)) | (with_reducible refine tt_bd1 (t_isQuietDrift) (fun _ _ => ?_)) | (with_reducible refine tt_bd3 (t_canShare ?_ ?_) (fun _ _ _ _ => ?_)) | (with_reducible refine tt_bd1 (t_copyFrom) (fun _ _ => ?_)) | (with_reducible refine tt_bd1 (t_shift) (fun _ _ => ?_)))
  all_goals (first | trivial | assumption | (simp [upd, *]; done))
theorem t_isFrozen {p1 : Int32} {f : Nat → Int32} : Tt (F_X5_isFrozen p1 f) (fun _ => True) := by
  unfold F_X5_isFrozen
  repeat' (first | (with_reducible refine tt_some ?_) | (with_reducible refine tt_nm ?_) | (with_reducible refine tt_ite (fun _ => ?_) (fun _ => ?_)) | (with_reducible refine tt_bd1 (t_floorDiv ?_) (fun _ _ => ?_)) | (with_reducible refine tt_bd1 (t_floorMod ?_) (fun _ _ => ?_)) | (with_reducible refine tt_bd1 (t_hasSite) (fun _ _ => ?_)) | (with_reducible refine tt_bd1 (t_of) (fun _ _ => ?_)) | (with_reducible refine tt_bd1 (t_isReached) (fun _ _ => ?_)) | (with_reducible refine tt_bd1 (t_addRefusal) (fun _ _ => ?_)) | (with_reducible refine tt_bd1 (t_put) (fun _ _ => ?_)) | (with_reducible refine tt_bd1 (t_stepFrom) (fun _ _ => ?_)) | (with_reducible refine tt_bd1 (t_sites) (fun _ _ => ?_)) | (with_reducible refine tt_bd1 (t_total ?_ ?_) (fun _ _ => ?_)) | (with_reducible refine tt_bd1 (t_endRound ?_ ?_) (fun _ _ => ?_)) | (with_reducible refine tt_bd2 (t_addTo ?_ ?_) (fun _ _ _ => ?_)) | (with_reducible refine tt_bd1 (t_valueOf) (fun _ _ => ?_)) | (with_reducible refine tt_bd1 (t_allows) (fun _ _ => ?_)) | (with_reducible refine tt_bd1 (t_aloneToGoal ?_ ?_) (fun _ _ => ?_)) | (with_reducible refine tt_bd1 (t_shareOf) (fun _ _ => ?_)) | (with_reducible refine tt_bd1 (t_drift) (fun _ _ => ?_)) | (with_reducible refine tt_bd3 (t_balance ?_ ?_) (fun _ _ _ _ => ?_)) | (with_reducible refine tt_bd1 (t_hearPlaces ?_ ?_) (fun _ _ => ?_)) | (with_reducible refine tt_bd1 (t_bitCount) (fun _ _ => ?_)) | (with_reducible refine tt_bd2 (t_measureShares ?_ ?_) (fun _ _ _ => ?_)) | (with_reducible refine tt_bd1 (t_isAbove) (fun _ _ => ?_)) | (with_reducible refine tt_bd1 (t_isQuietDrift) (fun _ _ => ?_)) | (with_reducible refine tt_bd3 (t_canShare ?_ ?_) (fun _ _ _ _ => ?_)) | (with_reducible refine tt_bd1 (t_copyFrom) (fun _ _ => ?_)) | (with_reducible refine tt_bd1 (t_shift) (fun _ _ => ?_)) | (with_reducible refine tt_bd1 (t_isQuiet) (fun _ _ => ?_)))
  all_goals (first | trivial | assumption | (simp [upd, *]; done))
theorem t_noteAsked {p1 ac : Int32} {c : Nat → Int32} (ha : Rw ac) : Tt (F_X5_noteAsked p1 c ac) (fun x => Rw x.2) := by
  unfold F_X5_noteAsked
  refine tt_ite (fun _ => tt_some ha) (fun q => ?_)
  obtain ⟨a, h8, rfl⟩ := ha
  have al : a < 8 := lt_of_lit (by decide) (by omega) rfl q
  exact tt_ixn al (by decide) (tt_nm (tt_some ⟨a + 1, by omega, nx1 rfl⟩))
theorem t_hearAll {K : Nat} {f : Nat → Int32} (hK : 200000 ≤ K) (hr : Rw (f 3)) : Tt (F_X5_hearAll K f) (fun g => g 3 = f 3) := by
  unfold F_X5_hearAll J_X5_hearAll_41
  repeat' (first | (with_reducible refine tt_some ?_) | (with_reducible refine tt_nm ?_) | (with_reducible refine tt_ite (fun _ => ?_) (fun _ => ?_)) | (with_reducible refine tt_bd1 (t_floorDiv ?_) (fun _ _ => ?_)) | (with_reducible refine tt_bd1 (t_floorMod ?_) (fun _ _ => ?_)) | (with_reducible refine tt_bd1 (t_hasSite) (fun _ _ => ?_)) | (with_reducible refine tt_bd1 (t_of) (fun _ _ => ?_)) | (with_reducible refine tt_bd1 (t_isReached) (fun _ _ => ?_)) | (with_reducible refine tt_bd1 (t_addRefusal) (fun _ _ => ?_)) | (with_reducible refine tt_bd1 (t_put) (fun _ _ => ?_)) | (with_reducible refine tt_bd1 (t_stepFrom) (fun _ _ => ?_)) | (with_reducible refine tt_bd1 (t_sites) (fun _ _ => ?_)) | (with_reducible refine tt_bd1 (t_total ?_ ?_) (fun _ _ => ?_)) | (with_reducible refine tt_bd1 (t_endRound ?_ ?_) (fun _ _ => ?_)) | (with_reducible refine tt_bd2 (t_addTo ?_ ?_) (fun _ _ _ => ?_)) | (with_reducible refine tt_bd1 (t_valueOf) (fun _ _ => ?_)) | (with_reducible refine tt_bd1 (t_allows) (fun _ _ => ?_)) | (with_reducible refine tt_bd1 (t_aloneToGoal ?_ ?_) (fun _ _ => ?_)) | (with_reducible refine tt_bd1 (t_shareOf) (fun _ _ => ?_)) | (with_reducible refine tt_bd1 (t_drift) (fun _ _ => ?_)) | (with_reducible refine tt_bd3 (t_balance ?_ ?_) (fun _ _ _ _ => ?_)) | (with_reducible refine tt_bd1 (t_hearPlaces ?_ ?_) (fun _ _ => ?_)) | (with_reducible refine tt_bd1 (t_bitCount) (fun _ _ => ?_)) | (with_reducible refine tt_bd2 (t_measureShares ?_ ?_) (fun _ _ _ => ?_)) | (with_reducible refine tt_bd1 (t_isAbove) (fun _ _ => ?_)) | (with_reducible refine tt_bd1 (t_isQuietDrift) (fun _ _ => ?_)) | (with_reducible refine tt_bd3 (t_canShare ?_ ?_) (fun _ _ _ _ => ?_)) | (with_reducible refine tt_bd1 (t_copyFrom) (fun _ _ => ?_)) | (with_reducible refine tt_bd1 (t_shift) (fun _ _ => ?_)) | (with_reducible refine tt_bd1 (t_isQuiet) (fun _ _ => ?_)) | (with_reducible refine tt_bd1 (t_isFrozen) (fun _ _ => ?_)) | (with_reducible refine tt_bd2 (t_noteAsked ?_) (fun _ _ _ => ?_)))
  all_goals (first | trivial | assumption | (simp [upd, *]; done))
theorem t_moveSite {K : Nat} {p1 p2 p3 ac oc : Int32} {f pa sh lo : Nat → Int32} (hK : 200000 ≤ K) (hr : Rw (f 3)) : Tt (F_X5_moveSite K p1 p2 p3 f pa ac oc sh lo) (fun x => x.2.1 3 = f 3 ∧ Rw x.2.2.2.1) := by
  unfold F_X5_moveSite
  refine tt_bd1 t_shift (fun w hw => tt_bd1 t_isQuiet (fun r _ => ?_))
  have hw' : w 3 = f 3 := hw
  have hr' : Rw (upd w 12 (w 12 + 1) 3) := by rw [show upd w 12 (w 12 + 1) 3 = w 3 from rfl, hw']; exact hr
  refine tt_ite (fun _ => tt_nm ?_) (fun _ => tt_some ⟨hw', ⟨0, by decide, rfl⟩⟩)
  refine tt_bd6 (P := fun x : Nat × Int32 × (Nat → Int32) × Int32 × (Nat → Int32) × (Nat → Int32) => x.1 < 2 ∧ Rw x.2.2.2.1) (tt_for (fun j u => u.2.1 = nI (j + 1) ∧ Rw u.2.2.2.1) 8 (by omega) ⟨rfl, ⟨0, by decide, rfl⟩⟩ (fun j u hj hu => ?_)) (fun t x4 pa' ac' sh' lo' hx => ?_)
  · have J : ∀ k0, j < 8 → Tt (J_X5_moveSite_102_r47 K k0 u.1 u.2.1 (upd w 12 (w 12 + 1)) u.2.2.1 u.2.2.2.1 u.2.2.2.2.1 u.2.2.2.2.2) (Nx (fun j u => u.2.1 = nI (j + 1) ∧ Rw u.2.2.2.1) (fun x : Nat × Int32 × (Nat → Int32) × Int32 × (Nat → Int32) × (Nat → Int32) => x.1 < 2 ∧ Rw x.2.2.2.1) 8 j) := by
      intro k0 jl
      unfold J_X5_moveSite_102_r47
      exact tt_bd1 t_isFrozen (fun _ _ => tt_ite (fun _ => tt_bd2 (t_noteAsked hu.2) (fun c1 a1 h1 => tt_bd3 (t_canShare hK hr') (fun _ _ _ _ => tt_ite (fun _ => tt_some (nx_l jl ⟨nx1 hu.1, h1⟩)) (fun _ => tt_some (nx_r ⟨Nat.zero_lt_succ 1, h1⟩))))) (fun _ => tt_some (nx_l jl ⟨nx1 hu.1, hu.2⟩)))
    unfold B_X5_moveSite_46
    refine tt_ite (fun _ => tt_some (nx_r ⟨Nat.lt_succ_self 1, hu.2⟩)) (fun _ => tt_ite (fun _ => tt_some (nx_r ⟨Nat.lt_succ_self 1, hu.2⟩)) (fun q => ?_))
    have jl : j + 1 < 8 := lt_of_lit (by decide) (by omega) hu.1 q
    exact tt_bd1 t_isAbove (fun _ _ => tt_ite (fun _ => tt_ite (fun _ => J _ (by omega)) (fun _ => J _ (by omega))) (fun _ => tt_some (nx_r ⟨Nat.lt_succ_self 1, hu.2⟩)))
  · have ht : t < 2 := hx.1
    have ha : Rw ac' := hx.2
    refine tt_ite (fun _ => tt_bd3 (t_balance hK hr') (fun _ g _ hg => tt_some ⟨Eq.trans hg hw', ha⟩)) (fun h0 => tt_ite (fun _ => ?_) (fun h1 => ?_))
    · unfold J_X5_moveSite_153
      exact tt_bd1 (t_hearAll hK hr') (fun g hg => tt_some ⟨Eq.trans hg hw', ha⟩)
    · omega
theorem t_hearByHand {K : Nat} {f : Nat → Int32} (hK : 200000 ≤ K) (hr : Rw (f 3)) : Tt (F_X5_hearByHand K f) (fun x => x.2 3 = f 3) := by
  unfold F_X5_hearByHand
  repeat' (first | (with_reducible refine tt_some ?_) | (with_reducible refine tt_nm ?_) | (with_reducible refine tt_ite (fun _ => ?_) (fun _ => ?_)) | (with_reducible refine tt_bd1 (t_floorDiv ?_) (fun _ _ => ?_)) | (with_reducible refine tt_bd1 (t_floorMod ?_) (fun _ _ => ?_)) | (with_reducible refine tt_bd1 (t_hasSite) (fun _ _ => ?_)) | (with_reducible refine tt_bd1 (t_of) (fun _ _ => ?_)) | (with_reducible refine tt_bd1 (t_isReached) (fun _ _ => ?_)) | (with_reducible refine tt_bd1 (t_addRefusal) (fun _ _ => ?_)) | (with_reducible refine tt_bd1 (t_put) (fun _ _ => ?_)) | (with_reducible refine tt_bd1 (t_stepFrom) (fun _ _ => ?_)) | (with_reducible refine tt_bd1 (t_sites) (fun _ _ => ?_)) | (with_reducible refine tt_bd1 (t_total ?_ ?_) (fun _ _ => ?_)) | (with_reducible refine tt_bd1 (t_endRound ?_ ?_) (fun _ _ => ?_)) | (with_reducible refine tt_bd2 (t_addTo ?_ ?_) (fun _ _ _ => ?_)) | (with_reducible refine tt_bd1 (t_valueOf) (fun _ _ => ?_)) | (with_reducible refine tt_bd1 (t_allows) (fun _ _ => ?_)) | (with_reducible refine tt_bd1 (t_aloneToGoal ?_ ?_) (fun _ _ => ?_)) | (with_reducible refine tt_bd1 (t_shareOf) (fun _ _ => ?_)) | (with_reducible refine tt_bd1 (t_drift) (fun _ _ => ?_)) | (with_reducible refine tt_bd3 (t_balance ?_ ?_) (fun _ _ _ _ => ?_)) | (with_reducible refine tt_bd1 (t_hearPlaces ?_ ?_) (fun _ _ => ?_)) | (with_reducible refine tt_bd1 (t_bitCount) (fun _ _ => ?_)) | (with_reducible refine tt_bd2 (t_measureShares ?_ ?_) (fun _ _ _ => ?_)) | (with_reducible refine tt_bd1 (t_isAbove) (fun _ _ => ?_)) | (with_reducible refine tt_bd1 (t_isQuietDrift) (fun _ _ => ?_)) | (with_reducible refine tt_bd3 (t_canShare ?_ ?_) (fun _ _ _ _ => ?_)) | (with_reducible refine tt_bd1 (t_copyFrom) (fun _ _ => ?_)) | (with_reducible refine tt_bd1 (t_shift) (fun _ _ => ?_)) | (with_reducible refine tt_bd1 (t_isQuiet) (fun _ _ => ?_)) | (with_reducible refine tt_bd1 (t_isFrozen) (fun _ _ => ?_)) | (with_reducible refine tt_bd2 (t_noteAsked ?_) (fun _ _ _ => ?_)) | (with_reducible refine tt_bd1 (t_hearAll ?_ ?_) (fun _ _ => ?_)) | (with_reducible refine tt_bd7 (t_moveSite ?_ ?_) (fun _ _ _ _ _ _ _ _ => ?_)))
  all_goals (first | trivial | assumption | (simp [upd, *]; done))
theorem t_startCounts {K : Nat} {p1 : Int32} {f : Nat → Int32} (hK : 200000 ≤ K) (hr : Rw (f 3)) : Tt (F_X5_startCounts K p1 f) (fun g => g 3 = f 3) := by
  unfold F_X5_startCounts
  refine tt_nm (tt_nm (tt_nm (tt_nm (tt_bd1 (P := fun g => g 3 = f 3) (tt_for (fun j u => u.1 = nI j ∧ u.2 3 = f 3) 8 (by omega) ⟨rfl, rfl⟩ (fun j u hj hu => ?_)) (fun g hg => tt_some hg)))))
  unfold B_X5_startCounts_33
  exact tt_bd1 t_sites (fun r hs => tt_ite (fun _ => tt_some (nx_r hu.2)) (fun q => tt_bd1 t_put (fun g1 h1 => tt_bd1 t_put (fun g2 h2 => tt_some (nx_l (rw_lt hr (hs.trans hu.2) hu.1 hj q) ⟨nx1 hu.1, h2.trans (h1.trans hu.2)⟩)))))
theorem t_doAct {K : Nat} {p1 p2 p3 p4 ac oc : Int32} {f pa sh lo : Nat → Int32} (hK : 200000 ≤ K) (hr : Rw (f 3)) (ha : Rw ac) : Tt (F_X5_doAct K p1 p2 p3 p4 f pa ac oc sh lo) (fun x => x.2.1 3 = f 3 ∧ Rw x.2.2.2.1) := by
  unfold F_X5_doAct
  repeat' (first | (with_reducible refine tt_some ?_) | (with_reducible refine tt_nm ?_) | (with_reducible refine tt_ite (fun _ => ?_) (fun _ => ?_)) | (with_reducible refine tt_bd1 (t_floorDiv ?_) (fun _ _ => ?_)) | (with_reducible refine tt_bd1 (t_floorMod ?_) (fun _ _ => ?_)) | (with_reducible refine tt_bd1 (t_hasSite) (fun _ _ => ?_)) | (with_reducible refine tt_bd1 (t_of) (fun _ _ => ?_)) | (with_reducible refine tt_bd1 (t_isReached) (fun _ _ => ?_)) | (with_reducible refine tt_bd1 (t_addRefusal) (fun _ _ => ?_)) | (with_reducible refine tt_bd1 (t_put) (fun _ _ => ?_)) | (with_reducible refine tt_bd1 (t_stepFrom) (fun _ _ => ?_)) | (with_reducible refine tt_bd1 (t_sites) (fun _ _ => ?_)) | (with_reducible refine tt_bd1 (t_total ?_ ?_) (fun _ _ => ?_)) | (with_reducible refine tt_bd1 (t_endRound ?_ ?_) (fun _ _ => ?_)) | (with_reducible refine tt_bd2 (t_addTo ?_ ?_) (fun _ _ _ => ?_)) | (with_reducible refine tt_bd1 (t_valueOf) (fun _ _ => ?_)) | (with_reducible refine tt_bd1 (t_allows) (fun _ _ => ?_)) | (with_reducible refine tt_bd1 (t_aloneToGoal ?_ ?_) (fun _ _ => ?_)) | (with_reducible refine tt_bd1 (t_shareOf) (fun _ _ => ?_)) | (with_reducible refine tt_bd1 (t_drift) (fun _ _ => ?_)) | (with_reducible refine tt_bd3 (t_balance ?_ ?_) (fun _ _ _ _ => ?_)) | (with_reducible refine tt_bd1 (t_hearPlaces ?_ ?_) (fun _ _ => ?_)) | (with_reducible refine tt_bd1 (t_bitCount) (fun _ _ => ?_)) | (with_reducible refine tt_bd2 (t_measureShares ?_ ?_) (fun _ _ _ => ?_)) | (with_reducible refine tt_bd1 (t_isAbove) (fun _ _ => ?_)) | (with_reducible refine tt_bd1 (t_isQuietDrift) (fun _ _ => ?_)) | (with_reducible refine tt_bd3 (t_canShare ?_ ?_) (fun _ _ _ _ => ?_)) | (with_reducible refine tt_bd1 (t_copyFrom) (fun _ _ => ?_)) | (with_reducible refine tt_bd1 (t_shift) (fun _ _ => ?_)) | (with_reducible refine tt_bd1 (t_isQuiet) (fun _ _ => ?_)) | (with_reducible refine tt_bd1 (t_isFrozen) (fun _ _ => ?_)) | (with_reducible refine tt_bd2 (t_noteAsked ?_) (fun _ _ _ => ?_)) | (with_reducible refine tt_bd1 (t_hearAll ?_ ?_) (fun _ _ => ?_)) | (with_reducible refine tt_bd7 (t_moveSite ?_ ?_) (fun _ _ _ _ _ _ _ _ => ?_)) | (with_reducible refine tt_bd2 (t_hearByHand ?_ ?_) (fun _ _ _ => ?_)) | (with_reducible refine tt_bd1 (t_startCounts ?_ ?_) (fun _ _ => ?_)))
  all_goals (first | trivial | assumption | (simp_all [upd]; done))
theorem t_freezeRefusal {p1 : Int32} {f : Nat → Int32} : Tt (F_X5_freezeRefusal p1 f) (fun _ => True) := by
  unfold F_X5_freezeRefusal
  repeat' (first | (with_reducible refine tt_some ?_) | (with_reducible refine tt_nm ?_) | (with_reducible refine tt_ite (fun _ => ?_) (fun _ => ?_)) | (with_reducible refine tt_bd1 (t_floorDiv ?_) (fun _ _ => ?_)) | (with_reducible refine tt_bd1 (t_floorMod ?_) (fun _ _ => ?_)) | (with_reducible refine tt_bd1 (t_hasSite) (fun _ _ => ?_)) | (with_reducible refine tt_bd1 (t_of) (fun _ _ => ?_)) | (with_reducible refine tt_bd1 (t_isReached) (fun _ _ => ?_)) | (with_reducible refine tt_bd1 (t_addRefusal) (fun _ _ => ?_)) | (with_reducible refine tt_bd1 (t_put) (fun _ _ => ?_)) | (with_reducible refine tt_bd1 (t_stepFrom) (fun _ _ => ?_)) | (with_reducible refine tt_bd1 (t_sites) (fun _ _ => ?_)) | (with_reducible refine tt_bd1 (t_total ?_ ?_) (fun _ _ => ?_)) | (with_reducible refine tt_bd1 (t_endRound ?_ ?_) (fun _ _ => ?_)) | (with_reducible refine tt_bd2 (t_addTo ?_ ?_) (fun _ _ _ => ?_)) | (with_reducible refine tt_bd1 (t_valueOf) (fun _ _ => ?_)) | (with_reducible refine tt_bd1 (t_allows) (fun _ _ => ?_)) | (with_reducible refine tt_bd1 (t_aloneToGoal ?_ ?_) (fun _ _ => ?_)) | (with_reducible refine tt_bd1 (t_shareOf) (fun _ _ => ?_)) | (with_reducible refine tt_bd1 (t_drift) (fun _ _ => ?_)) | (with_reducible refine tt_bd3 (t_balance ?_ ?_) (fun _ _ _ _ => ?_)) | (with_reducible refine tt_bd1 (t_hearPlaces ?_ ?_) (fun _ _ => ?_)) | (with_reducible refine tt_bd1 (t_bitCount) (fun _ _ => ?_)) | (with_reducible refine tt_bd2 (t_measureShares ?_ ?_) (fun _ _ _ => ?_)) | (with_reducible refine tt_bd1 (t_isAbove) (fun _ _ => ?_)) | (with_reducible refine tt_bd1 (t_isQuietDrift) (fun _ _ => ?_)) | (with_reducible refine tt_bd3 (t_canShare ?_ ?_) (fun _ _ _ _ => ?_)) | (with_reducible refine tt_bd1 (t_copyFrom) (fun _ _ => ?_)) | (with_reducible refine tt_bd1 (t_shift) (fun _ _ => ?_)) | (with_reducible refine tt_bd1 (t_isQuiet) (fun _ _ => ?_)) | (with_reducible refine tt_bd1 (t_isFrozen) (fun _ _ => ?_)) | (with_reducible refine tt_bd2 (t_noteAsked ?_) (fun _ _ _ => ?_)) | (with_reducible refine tt_bd1 (t_hearAll ?_ ?_) (fun _ _ => ?_)) | (with_reducible refine tt_bd7 (t_moveSite ?_ ?_) (fun _ _ _ _ _ _ _ _ => ?_)) | (with_reducible refine tt_bd2 (t_hearByHand ?_ ?_) (fun _ _ _ => ?_)) | (with_reducible refine tt_bd1 (t_startCounts ?_ ?_) (fun _ _ => ?_)) | (with_reducible refine tt_bd7 (t_doAct ?_ ?_ ?_) (fun _ _ _ _ _ _ _ _ => ?_)))
  all_goals (first | trivial | assumption | (simp [upd, *]; done))
theorem t_hasRoom {p1 p2 p3 : Int32} {f : Nat → Int32} : Tt (F_X5_hasRoom p1 p2 p3 f) (fun _ => True) := by
  unfold F_X5_hasRoom
  repeat' (first | (with_reducible refine tt_some ?_) | (with_reducible refine tt_nm ?_) | (with_reducible refine tt_ite (fun _ => ?_) (fun _ => ?_)) | (with_reducible refine tt_bd1 (t_floorDiv ?_) (fun _ _ => ?_)) | (with_reducible refine tt_bd1 (t_floorMod ?_) (fun _ _ => ?_)) | (with_reducible refine tt_bd1 (t_hasSite) (fun _ _ => ?_)) | (with_reducible refine tt_bd1 (t_of) (fun _ _ => ?_)) | (with_reducible refine tt_bd1 (t_isReached) (fun _ _ => ?_)) | (with_reducible refine tt_bd1 (t_addRefusal) (fun _ _ => ?_)) | (with_reducible refine tt_bd1 (t_put) (fun _ _ => ?_)) | (with_reducible refine tt_bd1 (t_stepFrom) (fun _ _ => ?_)) | (with_reducible refine tt_bd1 (t_sites) (fun _ _ => ?_)) | (with_reducible refine tt_bd1 (t_total ?_ ?_) (fun _ _ => ?_)) | (with_reducible refine tt_bd1 (t_endRound ?_ ?_) (fun _ _ => ?_)) | (with_reducible refine tt_bd2 (t_addTo ?_ ?_) (fun _ _ _ => ?_)) | (with_reducible refine tt_bd1 (t_valueOf) (fun _ _ => ?_)) | (with_reducible refine tt_bd1 (t_allows) (fun _ _ => ?_)) | (with_reducible refine tt_bd1 (t_aloneToGoal ?_ ?_) (fun _ _ => ?_)) | (with_reducible refine tt_bd1 (t_shareOf) (fun _ _ => ?_)) | (with_reducible refine tt_bd1 (t_drift) (fun _ _ => ?_)) | (with_reducible refine tt_bd3 (t_balance ?_ ?_) (fun _ _ _ _ => ?_)) | (with_reducible refine tt_bd1 (t_hearPlaces ?_ ?_) (fun _ _ => ?_)) | (with_reducible refine tt_bd1 (t_bitCount) (fun _ _ => ?_)) | (with_reducible refine tt_bd2 (t_measureShares ?_ ?_) (fun _ _ _ => ?_)) | (with_reducible refine tt_bd1 (t_isAbove) (fun _ _ => ?_)) | (with_reducible refine tt_bd1 (t_isQuietDrift) (fun _ _ => ?_)) | (with_reducible refine tt_bd3 (t_canShare ?_ ?_) (fun _ _ _ _ => ?_)) | (with_reducible refine tt_bd1 (t_copyFrom) (fun _ _ => ?_)) | (with_reducible refine tt_bd1 (t_shift) (fun _ _ => ?_)) | (with_reducible refine tt_bd1 (t_isQuiet) (fun _ _ => ?_)) | (with_reducible refine tt_bd1 (t_isFrozen) (fun _ _ => ?_)) | (with_reducible refine tt_bd2 (t_noteAsked ?_) (fun _ _ _ => ?_)) | (with_reducible refine tt_bd1 (t_hearAll ?_ ?_) (fun _ _ => ?_)) | (with_reducible refine tt_bd7 (t_moveSite ?_ ?_) (fun _ _ _ _ _ _ _ _ => ?_)) | (with_reducible refine tt_bd2 (t_hearByHand ?_ ?_) (fun _ _ _ => ?_)) | (with_reducible refine tt_bd1 (t_startCounts ?_ ?_) (fun _ _ => ?_)) | (with_reducible refine tt_bd7 (t_doAct ?_ ?_ ?_) (fun _ _ _ _ _ _ _ _ => ?_)) | (with_reducible refine tt_bd1 (t_freezeRefusal) (fun _ _ => ?_)))
  all_goals (first | trivial | assumption | (simp [upd, *]; done))
theorem t_isQuietWith {p1 p2 p3 : Int32} {f : Nat → Int32} : Tt (F_X5_isQuietWith p1 p2 p3 f) (fun _ => True) := by
  unfold F_X5_isQuietWith
  repeat' (first | (with_reducible refine tt_some ?_) | (with_reducible refine tt_nm ?_) | (with_reducible refine tt_ite (fun _ => ?_) (fun _ => ?_)) | (with_reducible refine tt_bd1 (t_floorDiv ?_) (fun _ _ => ?_)) | (with_reducible refine tt_bd1 (t_floorMod ?_) (fun _ _ => ?_)) | (with_reducible refine tt_bd1 (t_hasSite) (fun _ _ => ?_)) | (with_reducible refine tt_bd1 (t_of) (fun _ _ => ?_)) | (with_reducible refine tt_bd1 (t_isReached) (fun _ _ => ?_)) | (with_reducible refine tt_bd1 (t_addRefusal) (fun _ _ => ?_)) | (with_reducible refine tt_bd1 (t_put) (fun _ _ => ?_)) | (with_reducible refine tt_bd1 (t_stepFrom) (fun _ _ => ?_)) | (with_reducible refine tt_bd1 (t_sites) (fun _ _ => ?_)) | (with_reducible refine tt_bd1 (t_total ?_ ?_) (fun _ _ => ?_)) | (with_reducible refine tt_bd1 (t_endRound ?_ ?_) (fun _ _ => ?_)) | (with_reducible refine tt_bd2 (t_addTo ?_ ?_) (fun _ _ _ => ?_)) | (with_reducible refine tt_bd1 (t_valueOf) (fun _ _ => ?_)) | (with_reducible refine tt_bd1 (t_allows) (fun _ _ => ?_)) | (with_reducible refine tt_bd1 (t_aloneToGoal ?_ ?_) (fun _ _ => ?_)) | (with_reducible refine tt_bd1 (t_shareOf) (fun _ _ => ?_)) | (with_reducible refine tt_bd1 (t_drift) (fun _ _ => ?_)) | (with_reducible refine tt_bd3 (t_balance ?_ ?_) (fun _ _ _ _ => ?_)) | (with_reducible refine tt_bd1 (t_hearPlaces ?_ ?_) (fun _ _ => ?_)) | (with_reducible refine tt_bd1 (t_bitCount) (fun _ _ => ?_)) | (with_reducible refine tt_bd2 (t_measureShares ?_ ?_) (fun _ _ _ => ?_)) | (with_reducible refine tt_bd1 (t_isAbove) (fun _ _ => ?_)) | (with_reducible refine tt_bd1 (t_isQuietDrift) (fun _ _ => ?_)) | (with_reducible refine tt_bd3 (t_canShare ?_ ?_) (fun _ _ _ _ => ?_)) | (with_reducible refine tt_bd1 (t_copyFrom) (fun _ _ => ?_)) | (with_reducible refine tt_bd1 (t_shift) (fun _ _ => ?_)) | (with_reducible refine tt_bd1 (t_isQuiet) (fun _ _ => ?_)) | (with_reducible refine tt_bd1 (t_isFrozen) (fun _ _ => ?_)) | (with_reducible refine tt_bd2 (t_noteAsked ?_) (fun _ _ _ => ?_)) | (with_reducible refine tt_bd1 (t_hearAll ?_ ?_) (fun _ _ => ?_)) | (with_reducible refine tt_bd7 (t_moveSite ?_ ?_) (fun _ _ _ _ _ _ _ _ => ?_)) | (with_reducible refine tt_bd2 (t_hearByHand ?_ ?_) (fun _ _ _ => ?_)) | (with_reducible refine tt_bd1 (t_startCounts ?_ ?_) (fun _ _ => ?_)) | (with_reducible refine tt_bd7 (t_doAct ?_ ?_ ?_) (fun _ _ _ _ _ _ _ _ => ?_)) | (with_reducible refine tt_bd1 (t_freezeRefusal) (fun _ _ => ?_)) | (with_reducible refine tt_bd1 (t_hasRoom) (fun _ _ => ?_)))
  all_goals (first | trivial | assumption | (simp [upd, *]; done))
theorem t_isMovable {p1 p2 : Int32} : Tt (F_X7_isMovable p1 p2) (fun _ => True) := by
  unfold F_X7_isMovable
  repeat' (first | (with_reducible refine tt_some ?_) | (with_reducible refine tt_nm ?_) | (with_reducible refine tt_ite (fun _ => ?_) (fun _ => ?_)) | (with_reducible refine tt_bd1 (t_floorDiv ?_) (fun _ _ => ?_)) | (with_reducible refine tt_bd1 (t_floorMod ?_) (fun _ _ => ?_)) | (with_reducible refine tt_bd1 (t_hasSite) (fun _ _ => ?_)) | (with_reducible refine tt_bd1 (t_of) (fun _ _ => ?_)) | (with_reducible refine tt_bd1 (t_isReached) (fun _ _ => ?_)) | (with_reducible refine tt_bd1 (t_addRefusal) (fun _ _ => ?_)) | (with_reducible refine tt_bd1 (t_put) (fun _ _ => ?_)) | (with_reducible refine tt_bd1 (t_stepFrom) (fun _ _ => ?_)) | (with_reducible refine tt_bd1 (t_sites) (fun _ _ => ?_)) | (with_reducible refine tt_bd1 (t_total ?_ ?_) (fun _ _ => ?_)) | (with_reducible refine tt_bd1 (t_endRound ?_ ?_) (fun _ _ => ?_)) | (with_reducible refine tt_bd2 (t_addTo ?_ ?_) (fun _ _ _ => ?_)) | (with_reducible refine tt_bd1 (t_valueOf) (fun _ _ => ?_)) | (with_reducible refine tt_bd1 (t_allows) (fun _ _ => ?_)) | (with_reducible refine tt_bd1 (t_aloneToGoal ?_ ?_) (fun _ _ => ?_)) | (with_reducible refine tt_bd1 (t_shareOf) (fun _ _ => ?_)) | (with_reducible refine tt_bd1 (t_drift) (fun _ _ => ?_)) | (with_reducible refine tt_bd3 (t_balance ?_ ?_) (fun _ _ _ _ => ?_)) | (with_reducible refine tt_bd1 (t_hearPlaces ?_ ?_) (fun _ _ => ?_)) | (with_reducible refine tt_bd1 (t_bitCount) (fun _ _ => ?_)) | (with_reducible refine tt_bd2 (t_measureShares ?_ ?_) (fun _ _ _ => ?_)) | (with_reducible refine tt_bd1 (t_isAbove) (fun _ _ => ?_)) | (with_reducible refine tt_bd1 (t_isQuietDrift) (fun _ _ => ?_)) | (with_reducible refine tt_bd3 (t_canShare ?_ ?_) (fun _ _ _ _ => ?_)) | (with_reducible refine tt_bd1 (t_copyFrom) (fun _ _ => ?_)) | (with_reducible refine tt_bd1 (t_shift) (fun _ _ => ?_)) | (with_reducible refine tt_bd1 (t_isQuiet) (fun _ _ => ?_)) | (with_reducible refine tt_bd1 (t_isFrozen) (fun _ _ => ?_)) | (with_reducible refine tt_bd2 (t_noteAsked ?_) (fun _ _ _ => ?_)) | (with_reducible refine tt_bd1 (t_hearAll ?_ ?_) (fun _ _ => ?_)) | (with_reducible refine tt_bd7 (t_moveSite ?_ ?_) (fun _ _ _ _ _ _ _ _ => ?_)) | (with_reducible refine tt_bd2 (t_hearByHand ?_ ?_) (fun _ _ _ => ?_)) | (with_reducible refine tt_bd1 (t_startCounts ?_ ?_) (fun _ _ => ?_)) | (with_reducible refine tt_bd7 (t_doAct ?_ ?_ ?_) (fun _ _ _ _ _ _ _ _ => ?_)) | (with_reducible refine tt_bd1 (t_freezeRefusal) (fun _ _ => ?_)) | (with_reducible refine tt_bd1 (t_hasRoom) (fun _ _ => ?_)) | (with_reducible refine tt_bd1 (t_isQuietWith) (fun _ _ => ?_)))
  all_goals (first | trivial | assumption | (simp [upd, *]; done))
theorem t_moveRefusal {p1 p2 p3 : Int32} {f : Nat → Int32} : Tt (F_X5_moveRefusal p1 p2 p3 f) (fun _ => True) := by
  unfold F_X5_moveRefusal
  repeat' (first | (with_reducible refine tt_some ?_) | (with_reducible refine tt_nm ?_) | (with_reducible refine tt_ite (fun _ => ?_) (fun _ => ?_)) | (with_reducible refine tt_bd1 (t_floorDiv ?_) (fun _ _ => ?_)) | (with_reducible refine tt_bd1 (t_floorMod ?_) (fun _ _ => ?_)) | (with_reducible refine tt_bd1 (t_hasSite) (fun _ _ => ?_)) | (with_reducible refine tt_bd1 (t_of) (fun _ _ => ?_)) | (with_reducible refine tt_bd1 (t_isReached) (fun _ _ => ?_)) | (with_reducible refine tt_bd1 (t_addRefusal) (fun _ _ => ?_)) | (with_reducible refine tt_bd1 (t_put) (fun _ _ => ?_)) | (with_reducible refine tt_bd1 (t_stepFrom) (fun _ _ => ?_)) | (with_reducible refine tt_bd1 (t_sites) (fun _ _ => ?_)) | (with_reducible refine tt_bd1 (t_total ?_ ?_) (fun _ _ => ?_)) | (with_reducible refine tt_bd1 (t_endRound ?_ ?_) (fun _ _ => ?_)) | (with_reducible refine tt_bd2 (t_addTo ?_ ?_) (fun _ _ _ => ?_)) | (with_reducible refine tt_bd1 (t_valueOf) (fun _ _ => ?_)) | (with_reducible refine tt_bd1 (t_allows) (fun _ _ => ?_)) | (with_reducible refine tt_bd1 (t_aloneToGoal ?_ ?_) (fun _ _ => ?_)) | (with_reducible refine tt_bd1 (t_shareOf) (fun _ _ => ?_)) | (with_reducible refine tt_bd1 (t_drift) (fun _ _ => ?_)) | (with_reducible refine tt_bd3 (t_balance ?_ ?_) (fun _ _ _ _ => ?_)) | (with_reducible refine tt_bd1 (t_hearPlaces ?_ ?_) (fun _ _ => ?_)) | (with_reducible refine tt_bd1 (t_bitCount) (fun _ _ => ?_)) | (with_reducible refine tt_bd2 (t_measureShares ?_ ?_) (fun _ _ _ => ?_)) | (with_reducible refine tt_bd1 (t_isAbove) (fun _ _ => ?_)) | (with_reducible refine tt_bd1 (t_isQuietDrift) (fun _ _ => ?_)) | (with_reducible refine tt_bd3 (t_canShare ?_ ?_) (fun _ _ _ _ => ?_)) | (with_reducible refine tt_bd1 (t_copyFrom) (fun _ _ => ?_)) | (with_reducible refine tt_bd1 (t_shift) (fun _ _ => ?_)) | (with_reducible refine tt_bd1 (t_isQuiet) (fun _ _ => ?_)) | (with_reducible refine tt_bd1 (t_isFrozen) (fun _ _ => ?_)) | (with_reducible refine tt_bd2 (t_noteAsked ?_) (fun _ _ _ => ?_)) | (with_reducible refine tt_bd1 (t_hearAll ?_ ?_) (fun _ _ => ?_)) | (with_reducible refine tt_bd7 (t_moveSite ?_ ?_) (fun _ _ _ _ _ _ _ _ => ?_)) | (with_reducible refine tt_bd2 (t_hearByHand ?_ ?_) (fun _ _ _ => ?_)) | (with_reducible refine tt_bd1 (t_startCounts ?_ ?_) (fun _ _ => ?_)) | (with_reducible refine tt_bd7 (t_doAct ?_ ?_ ?_) (fun _ _ _ _ _ _ _ _ => ?_)) | (with_reducible refine tt_bd1 (t_freezeRefusal) (fun _ _ => ?_)) | (with_reducible refine tt_bd1 (t_hasRoom) (fun _ _ => ?_)) | (with_reducible refine tt_bd1 (t_isQuietWith) (fun _ _ => ?_)) | (with_reducible refine tt_bd1 (t_isMovable) (fun _ _ => ?_)))
  all_goals (first | trivial | assumption | (simp [upd, *]; done))
theorem t_point {p1 p2 : Int32} {f : Nat → Int32} : Tt (F_X5_point p1 p2 f) (fun _ => True) := by
  unfold F_X5_point J_X5_point_19
  repeat' (first | (with_reducible refine tt_some ?_) | (with_reducible refine tt_nm ?_) | (with_reducible refine tt_ite (fun _ => ?_) (fun _ => ?_)) | (with_reducible refine tt_bd1 (t_floorDiv ?_) (fun _ _ => ?_)) | (with_reducible refine tt_bd1 (t_floorMod ?_) (fun _ _ => ?_)) | (with_reducible refine tt_bd1 (t_hasSite) (fun _ _ => ?_)) | (with_reducible refine tt_bd1 (t_of) (fun _ _ => ?_)) | (with_reducible refine tt_bd1 (t_isReached) (fun _ _ => ?_)) | (with_reducible refine tt_bd1 (t_addRefusal) (fun _ _ => ?_)) | (with_reducible refine tt_bd1 (t_put) (fun _ _ => ?_)) | (with_reducible refine tt_bd1 (t_stepFrom) (fun _ _ => ?_)) | (with_reducible refine tt_bd1 (t_sites) (fun _ _ => ?_)) | (with_reducible refine tt_bd1 (t_total ?_ ?_) (fun _ _ => ?_)) | (with_reducible refine tt_bd1 (t_endRound ?_ ?_) (fun _ _ => ?_)) | (with_reducible refine tt_bd2 (t_addTo ?_ ?_) (fun _ _ _ => ?_)) | (with_reducible refine tt_bd1 (t_valueOf) (fun _ _ => ?_)) | (with_reducible refine tt_bd1 (t_allows) (fun _ _ => ?_)) | (with_reducible refine tt_bd1 (t_aloneToGoal ?_ ?_) (fun _ _ => ?_)) | (with_reducible refine tt_bd1 (t_shareOf) (fun _ _ => ?_)) | (with_reducible refine tt_bd1 (t_drift) (fun _ _ => ?_)) | (with_reducible refine tt_bd3 (t_balance ?_ ?_) (fun _ _ _ _ => ?_)) | (with_reducible refine tt_bd1 (t_hearPlaces ?_ ?_) (fun _ _ => ?_)) | (with_reducible refine tt_bd1 (t_bitCount) (fun _ _ => ?_)) | (with_reducible refine tt_bd2 (t_measureShares ?_ ?_) (fun _ _ _ => ?_)) | (with_reducible refine tt_bd1 (t_isAbove) (fun _ _ => ?_)) | (with_reducible refine tt_bd1 (t_isQuietDrift) (fun _ _ => ?_)) | (with_reducible refine tt_bd3 (t_canShare ?_ ?_) (fun _ _ _ _ => ?_)) | (with_reducible refine tt_bd1 (t_copyFrom) (fun _ _ => ?_)) | (with_reducible refine tt_bd1 (t_shift) (fun _ _ => ?_)) | (with_reducible refine tt_bd1 (t_isQuiet) (fun _ _ => ?_)) | (with_reducible refine tt_bd1 (t_isFrozen) (fun _ _ => ?_)) | (with_reducible refine tt_bd2 (t_noteAsked ?_) (fun _ _ _ => ?_)) | (with_reducible refine tt_bd1 (t_hearAll ?_ ?_) (fun _ _ => ?_)) | (with_reducible refine tt_bd7 (t_moveSite ?_ ?_) (fun _ _ _ _ _ _ _ _ => ?_)) | (with_reducible refine tt_bd2 (t_hearByHand ?_ ?_) (fun _ _ _ => ?_)) | (with_reducible refine tt_bd1 (t_startCounts ?_ ?_) (fun _ _ => ?_)) | (with_reducible refine tt_bd7 (t_doAct ?_ ?_ ?_) (fun _ _ _ _ _ _ _ _ => ?_)) | (with_reducible refine tt_bd1 (t_freezeRefusal) (fun _ _ => ?_)) | (with_reducible refine tt_bd1 (t_hasRoom) (fun _ _ => ?_)) | (with_reducible refine tt_bd1 (t_isQuietWith) (fun _ _ => ?_)) | (with_reducible refine tt_bd1 (t_isMovable) (fun _ _ => ?_)) | (with_reducible refine tt_bd1 (t_moveRefusal) (fun _ _ => ?_)))
  all_goals (first | trivial | assumption | (simp [upd, *]; done))
theorem t_pointValue {p1 p2 p3 : Int32} {f : Nat → Int32} : Tt (F_X5_pointValue p1 p2 p3 f) (fun _ => True) := by
  unfold F_X5_pointValue
  repeat' (first | (with_reducible refine tt_some ?_) | (with_reducible refine tt_nm ?_) | (with_reducible refine tt_ite (fun _ => ?_) (fun _ => ?_)) | (with_reducible refine tt_bd1 (t_floorDiv ?_) (fun _ _ => ?_)) | (with_reducible refine tt_bd1 (t_floorMod ?_) (fun _ _ => ?_)) | (with_reducible refine tt_bd1 (t_hasSite) (fun _ _ => ?_)) | (with_reducible refine tt_bd1 (t_of) (fun _ _ => ?_)) | (with_reducible refine tt_bd1 (t_isReached) (fun _ _ => ?_)) | (with_reducible refine tt_bd1 (t_addRefusal) (fun _ _ => ?_)) | (with_reducible refine tt_bd1 (t_put) (fun _ _ => ?_)) | (with_reducible refine tt_bd1 (t_stepFrom) (fun _ _ => ?_)) | (with_reducible refine tt_bd1 (t_sites) (fun _ _ => ?_)) | (with_reducible refine tt_bd1 (t_total ?_ ?_) (fun _ _ => ?_)) | (with_reducible refine tt_bd1 (t_endRound ?_ ?_) (fun _ _ => ?_)) | (with_reducible refine tt_bd2 (t_addTo ?_ ?_) (fun _ _ _ => ?_)) | (with_reducible refine tt_bd1 (t_valueOf) (fun _ _ => ?_)) | (with_reducible refine tt_bd1 (t_allows) (fun _ _ => ?_)) | (with_reducible refine tt_bd1 (t_aloneToGoal ?_ ?_) (fun _ _ => ?_)) | (with_reducible refine tt_bd1 (t_shareOf) (fun _ _ => ?_)) | (with_reducible refine tt_bd1 (t_drift) (fun _ _ => ?_)) | (with_reducible refine tt_bd3 (t_balance ?_ ?_) (fun _ _ _ _ => ?_)) | (with_reducible refine tt_bd1 (t_hearPlaces ?_ ?_) (fun _ _ => ?_)) | (with_reducible refine tt_bd1 (t_bitCount) (fun _ _ => ?_)) | (with_reducible refine tt_bd2 (t_measureShares ?_ ?_) (fun _ _ _ => ?_)) | (with_reducible refine tt_bd1 (t_isAbove) (fun _ _ => ?_)) | (with_reducible refine tt_bd1 (t_isQuietDrift) (fun _ _ => ?_)) | (with_reducible refine tt_bd3 (t_canShare ?_ ?_) (fun _ _ _ _ => ?_)) | (with_reducible refine tt_bd1 (t_copyFrom) (fun _ _ => ?_)) | (with_reducible refine tt_bd1 (t_shift) (fun _ _ => ?_)) | (with_reducible refine tt_bd1 (t_isQuiet) (fun _ _ => ?_)) | (with_reducible refine tt_bd1 (t_isFrozen) (fun _ _ => ?_)) | (with_reducible refine tt_bd2 (t_noteAsked ?_) (fun _ _ _ => ?_)) | (with_reducible refine tt_bd1 (t_hearAll ?_ ?_) (fun _ _ => ?_)) | (with_reducible refine tt_bd7 (t_moveSite ?_ ?_) (fun _ _ _ _ _ _ _ _ => ?_)) | (with_reducible refine tt_bd2 (t_hearByHand ?_ ?_) (fun _ _ _ => ?_)) | (with_reducible refine tt_bd1 (t_startCounts ?_ ?_) (fun _ _ => ?_)) | (with_reducible refine tt_bd7 (t_doAct ?_ ?_ ?_) (fun _ _ _ _ _ _ _ _ => ?_)) | (with_reducible refine tt_bd1 (t_freezeRefusal) (fun _ _ => ?_)) | (with_reducible refine tt_bd1 (t_hasRoom) (fun _ _ => ?_)) | (with_reducible refine tt_bd1 (t_isQuietWith) (fun _ _ => ?_)) | (with_reducible refine tt_bd1 (t_isMovable) (fun _ _ => ?_)) | (with_reducible refine tt_bd1 (t_moveRefusal) (fun _ _ => ?_)) | (with_reducible refine tt_bd1 (t_point) (fun _ _ => ?_)))
  all_goals (first | trivial | assumption | (simp [upd, *]; done))
theorem t_quietSites {K : Nat} {f : Nat → Int32} (hK : 200000 ≤ K) (hr : Rw (f 3)) : Tt (F_X5_quietSites K f) (fun _ => True) := by
  unfold F_X5_quietSites
  refine tt_bd1 (P := fun _ => True) (tt_for (fun j u => u.2 = nI j) 8 (by omega) rfl (fun j u hj hu => ?_)) (fun _ _ => tt_some trivial)
  unfold B_X5_quietSites_4
  refine tt_bd1 t_sites (fun r hs => tt_ite (fun _ => tt_some (nx_r trivial)) (fun q => ?_))
  have jl := rw_lt hr hs hu hj q
  repeat' (first | (with_reducible refine tt_some ?_) | (with_reducible refine tt_nm ?_) | (with_reducible refine tt_ite (fun _ => ?_) (fun _ => ?_)) | (with_reducible refine tt_bd1 (t_floorDiv ?_) (fun _ _ => ?_)) | (with_reducible refine tt_bd1 (t_floorMod ?_) (fun _ _ => ?_)) | (with_reducible refine tt_bd1 (t_hasSite) (fun _ _ => ?_)) | (with_reducible refine tt_bd1 (t_of) (fun _ _ => ?_)) | (with_reducible refine tt_bd1 (t_isReached) (fun _ _ => ?_)) | (with_reducible refine tt_bd1 (t_addRefusal) (fun _ _ => ?_)) | (with_reducible refine tt_bd1 (t_put) (fun _ _ => ?_)) | (with_reducible refine tt_bd1 (t_stepFrom) (fun _ _ => ?_)) | (with_reducible refine tt_bd1 (t_sites) (fun _ _ => ?_)) | (with_reducible refine tt_bd1 (t_total ?_ ?_) (fun _ _ => ?_)) | (with_reducible refine tt_bd1 (t_endRound ?_ ?_) (fun _ _ => ?_)) | (with_reducible refine tt_bd2 (t_addTo ?_ ?_) (fun _ _ _ => ?_)) | (with_reducible refine tt_bd1 (t_valueOf) (fun _ _ => ?_)) | (with_reducible refine tt_bd1 (t_allows) (fun _ _ => ?_)) | (with_reducible refine tt_bd1 (t_aloneToGoal ?_ ?_) (fun _ _ => ?_)) | (with_reducible refine tt_bd1 (t_shareOf) (fun _ _ => ?_)) | (with_reducible refine tt_bd1 (t_drift) (fun _ _ => ?_)) | (with_reducible refine tt_bd3 (t_balance ?_ ?_) (fun _ _ _ _ => ?_)) | (with_reducible refine tt_bd1 (t_hearPlaces ?_ ?_) (fun _ _ => ?_)) | (with_reducible refine tt_bd1 (t_bitCount) (fun _ _ => ?_)) | (with_reducible refine tt_bd2 (t_measureShares ?_ ?_) (fun _ _ _ => ?_)) | (with_reducible refine tt_bd1 (t_isAbove) (fun _ _ => ?_)) | (with_reducible refine tt_bd1 (t_isQuietDrift) (fun _ _ => ?_)) | (with_reducible refine tt_bd3 (t_canShare ?_ ?_) (fun _ _ _ _ => ?_)) | (with_reducible refine tt_bd1 (t_copyFrom) (fun _ _ => ?_)) | (with_reducible refine tt_bd1 (t_shift) (fun _ _ => ?_)) | (with_reducible refine tt_bd1 (t_isQuiet) (fun _ _ => ?_)) | (with_reducible refine tt_bd1 (t_isFrozen) (fun _ _ => ?_)) | (with_reducible refine tt_bd2 (t_noteAsked ?_) (fun _ _ _ => ?_)) | (with_reducible refine tt_bd1 (t_hearAll ?_ ?_) (fun _ _ => ?_)) | (with_reducible refine tt_bd7 (t_moveSite ?_ ?_) (fun _ _ _ _ _ _ _ _ => ?_)) | (with_reducible refine tt_bd2 (t_hearByHand ?_ ?_) (fun _ _ _ => ?_)) | (with_reducible refine tt_bd1 (t_startCounts ?_ ?_) (fun _ _ => ?_)) | (with_reducible refine tt_bd7 (t_doAct ?_ ?_ ?_) (fun _ _ _ _ _ _ _ _ => ?_)) | (with_reducible refine tt_bd1 (t_freezeRefusal) (fun _ _ => ?_)) | (with_reducible refine tt_bd1 (t_hasRoom) (fun _ _ => ?_)) | (with_reducible refine tt_bd1 (t_isQuietWith) (fun _ _ => ?_)) | (with_reducible refine tt_bd1 (t_isMovable) (fun _ _ => ?_)) | (with_reducible refine tt_bd1 (t_moveRefusal) (fun _ _ => ?_)) | (with_reducible refine tt_bd1 (t_point) (fun _ _ => ?_)) | (with_reducible refine tt_bd1 (t_pointValue) (fun _ _ => ?_)))
  all_goals (exact nx_l jl (nx1 hu))
theorem t_stands {f : Nat → Int32} : Tt (F_X5_stands f) (fun _ => True) := by
  unfold F_X5_stands
  repeat' (first | (with_reducible refine tt_some ?_) | (with_reducible refine tt_nm ?_) | (with_reducible refine tt_ite (fun _ => ?_) (fun _ => ?_)) | (with_reducible refine tt_bd1 (t_floorDiv ?_) (fun _ _ => ?_)) | (with_reducible refine tt_bd1 (t_floorMod ?_) (fun _ _ => ?_)) | (with_reducible refine tt_bd1 (t_hasSite) (fun _ _ => ?_)) | (with_reducible refine tt_bd1 (t_of) (fun _ _ => ?_)) | (with_reducible refine tt_bd1 (t_isReached) (fun _ _ => ?_)) | (with_reducible refine tt_bd1 (t_addRefusal) (fun _ _ => ?_)) | (with_reducible refine tt_bd1 (t_put) (fun _ _ => ?_)) | (with_reducible refine tt_bd1 (t_stepFrom) (fun _ _ => ?_)) | (with_reducible refine tt_bd1 (t_sites) (fun _ _ => ?_)) | (with_reducible refine tt_bd1 (t_total ?_ ?_) (fun _ _ => ?_)) | (with_reducible refine tt_bd1 (t_endRound ?_ ?_) (fun _ _ => ?_)) | (with_reducible refine tt_bd2 (t_addTo ?_ ?_) (fun _ _ _ => ?_)) | (with_reducible refine tt_bd1 (t_valueOf) (fun _ _ => ?_)) | (with_reducible refine tt_bd1 (t_allows) (fun _ _ => ?_)) | (with_reducible refine tt_bd1 (t_aloneToGoal ?_ ?_) (fun _ _ => ?_)) | (with_reducible refine tt_bd1 (t_shareOf) (fun _ _ => ?_)) | (with_reducible refine tt_bd1 (t_drift) (fun _ _ => ?_)) | (with_reducible refine tt_bd3 (t_balance ?_ ?_) (fun _ _ _ _ => ?_)) | (with_reducible refine tt_bd1 (t_hearPlaces ?_ ?_) (fun _ _ => ?_)) | (with_reducible refine tt_bd1 (t_bitCount) (fun _ _ => ?_)) | (with_reducible refine tt_bd2 (t_measureShares ?_ ?_) (fun _ _ _ => ?_)) | (with_reducible refine tt_bd1 (t_isAbove) (fun _ _ => ?_)) | (with_reducible refine tt_bd1 (t_isQuietDrift) (fun _ _ => ?_)) | (with_reducible refine tt_bd3 (t_canShare ?_ ?_) (fun _ _ _ _ => ?_)) | (with_reducible refine tt_bd1 (t_copyFrom) (fun _ _ => ?_)) | (with_reducible refine tt_bd1 (t_shift) (fun _ _ => ?_)) | (with_reducible refine tt_bd1 (t_isQuiet) (fun _ _ => ?_)) | (with_reducible refine tt_bd1 (t_isFrozen) (fun _ _ => ?_)) | (with_reducible refine tt_bd2 (t_noteAsked ?_) (fun _ _ _ => ?_)) | (with_reducible refine tt_bd1 (t_hearAll ?_ ?_) (fun _ _ => ?_)) | (with_reducible refine tt_bd7 (t_moveSite ?_ ?_) (fun _ _ _ _ _ _ _ _ => ?_)) | (with_reducible refine tt_bd2 (t_hearByHand ?_ ?_) (fun _ _ _ => ?_)) | (with_reducible refine tt_bd1 (t_startCounts ?_ ?_) (fun _ _ => ?_)) | (with_reducible refine tt_bd7 (t_doAct ?_ ?_ ?_) (fun _ _ _ _ _ _ _ _ => ?_)) | (with_reducible refine tt_bd1 (t_freezeRefusal) (fun _ _ => ?_)) | (with_reducible refine tt_bd1 (t_hasRoom) (fun _ _ => ?_)) | (with_reducible refine tt_bd1 (t_isQuietWith) (fun _ _ => ?_)) | (with_reducible refine tt_bd1 (t_isMovable) (fun _ _ => ?_)) | (with_reducible refine tt_bd1 (t_moveRefusal) (fun _ _ => ?_)) | (with_reducible refine tt_bd1 (t_point) (fun _ _ => ?_)) | (with_reducible refine tt_bd1 (t_pointValue) (fun _ _ => ?_)) | (with_reducible refine tt_bd1 (t_quietSites ?_ ?_) (fun _ _ => ?_)))
  all_goals (first | trivial | assumption | (simp [upd, *]; done))
theorem t_setRefusal {p1 p2 p3 p4 : Int32} : Tt (F_X5_setRefusal p1 p2 p3 p4) (fun _ => True) := by
  unfold F_X5_setRefusal
  repeat' (first | (with_reducible refine tt_some ?_) | (with_reducible refine tt_nm ?_) | (with_reducible refine tt_ite (fun _ => ?_) (fun _ => ?_)) | (with_reducible refine tt_bd1 (t_floorDiv ?_) (fun _ _ => ?_)) | (with_reducible refine tt_bd1 (t_floorMod ?_) (fun _ _ => ?_)) | (with_reducible refine tt_bd1 (t_hasSite) (fun _ _ => ?_)) | (with_reducible refine tt_bd1 (t_of) (fun _ _ => ?_)) | (with_reducible refine tt_bd1 (t_isReached) (fun _ _ => ?_)) | (with_reducible refine tt_bd1 (t_addRefusal) (fun _ _ => ?_)) | (with_reducible refine tt_bd1 (t_put) (fun _ _ => ?_)) | (with_reducible refine tt_bd1 (t_stepFrom) (fun _ _ => ?_)) | (with_reducible refine tt_bd1 (t_sites) (fun _ _ => ?_)) | (with_reducible refine tt_bd1 (t_total ?_ ?_) (fun _ _ => ?_)) | (with_reducible refine tt_bd1 (t_endRound ?_ ?_) (fun _ _ => ?_)) | (with_reducible refine tt_bd2 (t_addTo ?_ ?_) (fun _ _ _ => ?_)) | (with_reducible refine tt_bd1 (t_valueOf) (fun _ _ => ?_)) | (with_reducible refine tt_bd1 (t_allows) (fun _ _ => ?_)) | (with_reducible refine tt_bd1 (t_aloneToGoal ?_ ?_) (fun _ _ => ?_)) | (with_reducible refine tt_bd1 (t_shareOf) (fun _ _ => ?_)) | (with_reducible refine tt_bd1 (t_drift) (fun _ _ => ?_)) | (with_reducible refine tt_bd3 (t_balance ?_ ?_) (fun _ _ _ _ => ?_)) | (with_reducible refine tt_bd1 (t_hearPlaces ?_ ?_) (fun _ _ => ?_)) | (with_reducible refine tt_bd1 (t_bitCount) (fun _ _ => ?_)) | (with_reducible refine tt_bd2 (t_measureShares ?_ ?_) (fun _ _ _ => ?_)) | (with_reducible refine tt_bd1 (t_isAbove) (fun _ _ => ?_)) | (with_reducible refine tt_bd1 (t_isQuietDrift) (fun _ _ => ?_)) | (with_reducible refine tt_bd3 (t_canShare ?_ ?_) (fun _ _ _ _ => ?_)) | (with_reducible refine tt_bd1 (t_copyFrom) (fun _ _ => ?_)) | (with_reducible refine tt_bd1 (t_shift) (fun _ _ => ?_)) | (with_reducible refine tt_bd1 (t_isQuiet) (fun _ _ => ?_)) | (with_reducible refine tt_bd1 (t_isFrozen) (fun _ _ => ?_)) | (with_reducible refine tt_bd2 (t_noteAsked ?_) (fun _ _ _ => ?_)) | (with_reducible refine tt_bd1 (t_hearAll ?_ ?_) (fun _ _ => ?_)) | (with_reducible refine tt_bd7 (t_moveSite ?_ ?_) (fun _ _ _ _ _ _ _ _ => ?_)) | (with_reducible refine tt_bd2 (t_hearByHand ?_ ?_) (fun _ _ _ => ?_)) | (with_reducible refine tt_bd1 (t_startCounts ?_ ?_) (fun _ _ => ?_)) | (with_reducible refine tt_bd7 (t_doAct ?_ ?_ ?_) (fun _ _ _ _ _ _ _ _ => ?_)) | (with_reducible refine tt_bd1 (t_freezeRefusal) (fun _ _ => ?_)) | (with_reducible refine tt_bd1 (t_hasRoom) (fun _ _ => ?_)) | (with_reducible refine tt_bd1 (t_isQuietWith) (fun _ _ => ?_)) | (with_reducible refine tt_bd1 (t_isMovable) (fun _ _ => ?_)) | (with_reducible refine tt_bd1 (t_moveRefusal) (fun _ _ => ?_)) | (with_reducible refine tt_bd1 (t_point) (fun _ _ => ?_)) | (with_reducible refine tt_bd1 (t_pointValue) (fun _ _ => ?_)) | (with_reducible refine tt_bd1 (t_quietSites ?_ ?_) (fun _ _ => ?_)) | (with_reducible refine tt_bd1 (t_stands) (fun _ _ => ?_)))
  all_goals (first | trivial | assumption | (simp [upd, *]; done))
theorem t_refusal {p1 p2 p3 p4 : Int32} {f : Nat → Int32} : Tt (F_X5_refusal p1 p2 p3 p4 f) (fun _ => True) := by
  unfold F_X5_refusal
  repeat' (first | (with_reducible refine tt_some ?_) | (with_reducible refine tt_nm ?_) | (with_reducible refine tt_ite (fun _ => ?_) (fun _ => ?_)) | (with_reducible refine tt_bd1 (t_floorDiv ?_) (fun _ _ => ?_)) | (with_reducible refine tt_bd1 (t_floorMod ?_) (fun _ _ => ?_)) | (with_reducible refine tt_bd1 (t_hasSite) (fun _ _ => ?_)) | (with_reducible refine tt_bd1 (t_of) (fun _ _ => ?_)) | (with_reducible refine tt_bd1 (t_isReached) (fun _ _ => ?_)) | (with_reducible refine tt_bd1 (t_addRefusal) (fun _ _ => ?_)) | (with_reducible refine tt_bd1 (t_put) (fun _ _ => ?_)) | (with_reducible refine tt_bd1 (t_stepFrom) (fun _ _ => ?_)) | (with_reducible refine tt_bd1 (t_sites) (fun _ _ => ?_)) | (with_reducible refine tt_bd1 (t_total ?_ ?_) (fun _ _ => ?_)) | (with_reducible refine tt_bd1 (t_endRound ?_ ?_) (fun _ _ => ?_)) | (with_reducible refine tt_bd2 (t_addTo ?_ ?_) (fun _ _ _ => ?_)) | (with_reducible refine tt_bd1 (t_valueOf) (fun _ _ => ?_)) | (with_reducible refine tt_bd1 (t_allows) (fun _ _ => ?_)) | (with_reducible refine tt_bd1 (t_aloneToGoal ?_ ?_) (fun _ _ => ?_)) | (with_reducible refine tt_bd1 (t_shareOf) (fun _ _ => ?_)) | (with_reducible refine tt_bd1 (t_drift) (fun _ _ => ?_)) | (with_reducible refine tt_bd3 (t_balance ?_ ?_) (fun _ _ _ _ => ?_)) | (with_reducible refine tt_bd1 (t_hearPlaces ?_ ?_) (fun _ _ => ?_)) | (with_reducible refine tt_bd1 (t_bitCount) (fun _ _ => ?_)) | (with_reducible refine tt_bd2 (t_measureShares ?_ ?_) (fun _ _ _ => ?_)) | (with_reducible refine tt_bd1 (t_isAbove) (fun _ _ => ?_)) | (with_reducible refine tt_bd1 (t_isQuietDrift) (fun _ _ => ?_)) | (with_reducible refine tt_bd3 (t_canShare ?_ ?_) (fun _ _ _ _ => ?_)) | (with_reducible refine tt_bd1 (t_copyFrom) (fun _ _ => ?_)) | (with_reducible refine tt_bd1 (t_shift) (fun _ _ => ?_)) | (with_reducible refine tt_bd1 (t_isQuiet) (fun _ _ => ?_)) | (with_reducible refine tt_bd1 (t_isFrozen) (fun _ _ => ?_)) | (with_reducible refine tt_bd2 (t_noteAsked ?_) (fun _ _ _ => ?_)) | (with_reducible refine tt_bd1 (t_hearAll ?_ ?_) (fun _ _ => ?_)) | (with_reducible refine tt_bd7 (t_moveSite ?_ ?_) (fun _ _ _ _ _ _ _ _ => ?_)) | (with_reducible refine tt_bd2 (t_hearByHand ?_ ?_) (fun _ _ _ => ?_)) | (with_reducible refine tt_bd1 (t_startCounts ?_ ?_) (fun _ _ => ?_)) | (with_reducible refine tt_bd7 (t_doAct ?_ ?_ ?_) (fun _ _ _ _ _ _ _ _ => ?_)) | (with_reducible refine tt_bd1 (t_freezeRefusal) (fun _ _ => ?_)) | (with_reducible refine tt_bd1 (t_hasRoom) (fun _ _ => ?_)) | (with_reducible refine tt_bd1 (t_isQuietWith) (fun _ _ => ?_)) | (with_reducible refine tt_bd1 (t_isMovable) (fun _ _ => ?_)) | (with_reducible refine tt_bd1 (t_moveRefusal) (fun _ _ => ?_)) | (with_reducible refine tt_bd1 (t_point) (fun _ _ => ?_)) | (with_reducible refine tt_bd1 (t_pointValue) (fun _ _ => ?_)) | (with_reducible refine tt_bd1 (t_quietSites ?_ ?_) (fun _ _ => ?_)) | (with_reducible refine tt_bd1 (t_stands) (fun _ _ => ?_)) | (with_reducible refine tt_bd1 (t_setRefusal) (fun _ _ => ?_)))
  all_goals (first | trivial | assumption | (simp [upd, *]; done))
theorem t_slackLength {p1 : Int32} {f : Nat → Int32} : Tt (F_X5_slackLength p1 f) (fun _ => True) := by
  unfold F_X5_slackLength
  repeat' (first | (with_reducible refine tt_some ?_) | (with_reducible refine tt_nm ?_) | (with_reducible refine tt_ite (fun _ => ?_) (fun _ => ?_)) | (with_reducible refine tt_bd1 (t_floorDiv ?_) (fun _ _ => ?_)) | (with_reducible refine tt_bd1 (t_floorMod ?_) (fun _ _ => ?_)) | (with_reducible refine tt_bd1 (t_hasSite) (fun _ _ => ?_)) | (with_reducible refine tt_bd1 (t_of) (fun _ _ => ?_)) | (with_reducible refine tt_bd1 (t_isReached) (fun _ _ => ?_)) | (with_reducible refine tt_bd1 (t_addRefusal) (fun _ _ => ?_)) | (with_reducible refine tt_bd1 (t_put) (fun _ _ => ?_)) | (with_reducible refine tt_bd1 (t_stepFrom) (fun _ _ => ?_)) | (with_reducible refine tt_bd1 (t_sites) (fun _ _ => ?_)) | (with_reducible refine tt_bd1 (t_total ?_ ?_) (fun _ _ => ?_)) | (with_reducible refine tt_bd1 (t_endRound ?_ ?_) (fun _ _ => ?_)) | (with_reducible refine tt_bd2 (t_addTo ?_ ?_) (fun _ _ _ => ?_)) | (with_reducible refine tt_bd1 (t_valueOf) (fun _ _ => ?_)) | (with_reducible refine tt_bd1 (t_allows) (fun _ _ => ?_)) | (with_reducible refine tt_bd1 (t_aloneToGoal ?_ ?_) (fun _ _ => ?_)) | (with_reducible refine tt_bd1 (t_shareOf) (fun _ _ => ?_)) | (with_reducible refine tt_bd1 (t_drift) (fun _ _ => ?_)) | (with_reducible refine tt_bd3 (t_balance ?_ ?_) (fun _ _ _ _ => ?_)) | (with_reducible refine tt_bd1 (t_hearPlaces ?_ ?_) (fun _ _ => ?_)) | (with_reducible refine tt_bd1 (t_bitCount) (fun _ _ => ?_)) | (with_reducible refine tt_bd2 (t_measureShares ?_ ?_) (fun _ _ _ => ?_)) | (with_reducible refine tt_bd1 (t_isAbove) (fun _ _ => ?_)) | (with_reducible refine tt_bd1 (t_isQuietDrift) (fun _ _ => ?_)) | (with_reducible refine tt_bd3 (t_canShare ?_ ?_) (fun _ _ _ _ => ?_)) | (with_reducible refine tt_bd1 (t_copyFrom) (fun _ _ => ?_)) | (with_reducible refine tt_bd1 (t_shift) (fun _ _ => ?_)) | (with_reducible refine tt_bd1 (t_isQuiet) (fun _ _ => ?_)) | (with_reducible refine tt_bd1 (t_isFrozen) (fun _ _ => ?_)) | (with_reducible refine tt_bd2 (t_noteAsked ?_) (fun _ _ _ => ?_)) | (with_reducible refine tt_bd1 (t_hearAll ?_ ?_) (fun _ _ => ?_)) | (with_reducible refine tt_bd7 (t_moveSite ?_ ?_) (fun _ _ _ _ _ _ _ _ => ?_)) | (with_reducible refine tt_bd2 (t_hearByHand ?_ ?_) (fun _ _ _ => ?_)) | (with_reducible refine tt_bd1 (t_startCounts ?_ ?_) (fun _ _ => ?_)) | (with_reducible refine tt_bd7 (t_doAct ?_ ?_ ?_) (fun _ _ _ _ _ _ _ _ => ?_)) | (with_reducible refine tt_bd1 (t_freezeRefusal) (fun _ _ => ?_)) | (with_reducible refine tt_bd1 (t_hasRoom) (fun _ _ => ?_)) | (with_reducible refine tt_bd1 (t_isQuietWith) (fun _ _ => ?_)) | (with_reducible refine tt_bd1 (t_isMovable) (fun _ _ => ?_)) | (with_reducible refine tt_bd1 (t_moveRefusal) (fun _ _ => ?_)) | (with_reducible refine tt_bd1 (t_point) (fun _ _ => ?_)) | (with_reducible refine tt_bd1 (t_pointValue) (fun _ _ => ?_)) | (with_reducible refine tt_bd1 (t_quietSites ?_ ?_) (fun _ _ => ?_)) | (with_reducible refine tt_bd1 (t_stands) (fun _ _ => ?_)) | (with_reducible refine tt_bd1 (t_setRefusal) (fun _ _ => ?_)) | (with_reducible refine tt_bd1 (t_refusal) (fun _ _ => ?_)))
  all_goals (first | trivial | assumption | (simp [upd, *]; done))
theorem t_slackSites {K : Nat} {f : Nat → Int32} (hK : 200000 ≤ K) (hr : Rw (f 3)) : Tt (F_X5_slackSites K f) (fun _ => True) := by
  unfold F_X5_slackSites
  refine tt_bd1 (P := fun _ => True) (tt_for (fun j u => u.2 = nI j) 8 (by omega) rfl (fun j u hj hu => ?_)) (fun _ _ => tt_some trivial)
  unfold B_X5_slackSites_4
  refine tt_bd1 t_sites (fun r hs => tt_ite (fun _ => tt_some (nx_r trivial)) (fun q => ?_))
  have jl := rw_lt hr hs hu hj q
  repeat' (first | (with_reducible refine tt_some ?_) | (with_reducible refine tt_nm ?_) | (with_reducible refine tt_ite (fun _ => ?_) (fun _ => ?_)) | (with_reducible refine tt_bd1 (t_floorDiv ?_) (fun _ _ => ?_)) | (with_reducible refine tt_bd1 (t_floorMod ?_) (fun _ _ => ?_)) | (with_reducible refine tt_bd1 (t_hasSite) (fun _ _ => ?_)) | (with_reducible refine tt_bd1 (t_of) (fun _ _ => ?_)) | (with_reducible refine tt_bd1 (t_isReached) (fun _ _ => ?_)) | (with_reducible refine tt_bd1 (t_addRefusal) (fun _ _ => ?_)) | (with_reducible refine tt_bd1 (t_put) (fun _ _ => ?_)) | (with_reducible refine tt_bd1 (t_stepFrom) (fun _ _ => ?_)) | (with_reducible refine tt_bd1 (t_sites) (fun _ _ => ?_)) | (with_reducible refine tt_bd1 (t_total ?_ ?_) (fun _ _ => ?_)) | (with_reducible refine tt_bd1 (t_endRound ?_ ?_) (fun _ _ => ?_)) | (with_reducible refine tt_bd2 (t_addTo ?_ ?_) (fun _ _ _ => ?_)) | (with_reducible refine tt_bd1 (t_valueOf) (fun _ _ => ?_)) | (with_reducible refine tt_bd1 (t_allows) (fun _ _ => ?_)) | (with_reducible refine tt_bd1 (t_aloneToGoal ?_ ?_) (fun _ _ => ?_)) | (with_reducible refine tt_bd1 (t_shareOf) (fun _ _ => ?_)) | (with_reducible refine tt_bd1 (t_drift) (fun _ _ => ?_)) | (with_reducible refine tt_bd3 (t_balance ?_ ?_) (fun _ _ _ _ => ?_)) | (with_reducible refine tt_bd1 (t_hearPlaces ?_ ?_) (fun _ _ => ?_)) | (with_reducible refine tt_bd1 (t_bitCount) (fun _ _ => ?_)) | (with_reducible refine tt_bd2 (t_measureShares ?_ ?_) (fun _ _ _ => ?_)) | (with_reducible refine tt_bd1 (t_isAbove) (fun _ _ => ?_)) | (with_reducible refine tt_bd1 (t_isQuietDrift) (fun _ _ => ?_)) | (with_reducible refine tt_bd3 (t_canShare ?_ ?_) (fun _ _ _ _ => ?_)) | (with_reducible refine tt_bd1 (t_copyFrom) (fun _ _ => ?_)) | (with_reducible refine tt_bd1 (t_shift) (fun _ _ => ?_)) | (with_reducible refine tt_bd1 (t_isQuiet) (fun _ _ => ?_)) | (with_reducible refine tt_bd1 (t_isFrozen) (fun _ _ => ?_)) | (with_reducible refine tt_bd2 (t_noteAsked ?_) (fun _ _ _ => ?_)) | (with_reducible refine tt_bd1 (t_hearAll ?_ ?_) (fun _ _ => ?_)) | (with_reducible refine tt_bd7 (t_moveSite ?_ ?_) (fun _ _ _ _ _ _ _ _ => ?_)) | (with_reducible refine tt_bd2 (t_hearByHand ?_ ?_) (fun _ _ _ => ?_)) | (with_reducible refine tt_bd1 (t_startCounts ?_ ?_) (fun _ _ => ?_)) | (with_reducible refine tt_bd7 (t_doAct ?_ ?_ ?_) (fun _ _ _ _ _ _ _ _ => ?_)) | (with_reducible refine tt_bd1 (t_freezeRefusal) (fun _ _ => ?_)) | (with_reducible refine tt_bd1 (t_hasRoom) (fun _ _ => ?_)) | (with_reducible refine tt_bd1 (t_isQuietWith) (fun _ _ => ?_)) | (with_reducible refine tt_bd1 (t_isMovable) (fun _ _ => ?_)) | (with_reducible refine tt_bd1 (t_moveRefusal) (fun _ _ => ?_)) | (with_reducible refine tt_bd1 (t_point) (fun _ _ => ?_)) | (with_reducible refine tt_bd1 (t_pointValue) (fun _ _ => ?_)) | (with_reducible refine tt_bd1 (t_quietSites ?_ ?_) (fun _ _ => ?_)) | (with_reducible refine tt_bd1 (t_stands) (fun _ _ => ?_)) | (with_reducible refine tt_bd1 (t_setRefusal) (fun _ _ => ?_)) | (with_reducible refine tt_bd1 (t_refusal) (fun _ _ => ?_)) | (with_reducible refine tt_bd1 (t_slackLength) (fun _ _ => ?_)))
  all_goals (exact nx_l jl (nx1 hu))
theorem t_unmovedSites {K : Nat} {f : Nat → Int32} (hK : 200000 ≤ K) (hr : Rw (f 3)) : Tt (F_X5_unmovedSites K f) (fun _ => True) := by
  unfold F_X5_unmovedSites
  refine tt_bd1 (P := fun _ => True) (tt_for (fun j u => u.2 = nI j) 8 (by omega) rfl (fun j u hj hu => ?_)) (fun _ _ => tt_some trivial)
  unfold B_X5_unmovedSites_4 J_X5_unmovedSites_46_r5 J_X5_unmovedSites_47_r5
  refine tt_bd1 t_sites (fun r hs => tt_ite (fun _ => tt_some (nx_r trivial)) (fun q => ?_))
  have jl := rw_lt hr hs hu hj q
  repeat' (first | (with_reducible refine tt_some ?_) | (with_reducible refine tt_nm ?_) | (with_reducible refine tt_ite (fun _ => ?_) (fun _ => ?_)) | (with_reducible refine tt_bd1 (t_floorDiv ?_) (fun _ _ => ?_)) | (with_reducible refine tt_bd1 (t_floorMod ?_) (fun _ _ => ?_)) | (with_reducible refine tt_bd1 (t_hasSite) (fun _ _ => ?_)) | (with_reducible refine tt_bd1 (t_of) (fun _ _ => ?_)) | (with_reducible refine tt_bd1 (t_isReached) (fun _ _ => ?_)) | (with_reducible refine tt_bd1 (t_addRefusal) (fun _ _ => ?_)) | (with_reducible refine tt_bd1 (t_put) (fun _ _ => ?_)) | (with_reducible refine tt_bd1 (t_stepFrom) (fun _ _ => ?_)) | (with_reducible refine tt_bd1 (t_sites) (fun _ _ => ?_)) | (with_reducible refine tt_bd1 (t_total ?_ ?_) (fun _ _ => ?_)) | (with_reducible refine tt_bd1 (t_endRound ?_ ?_) (fun _ _ => ?_)) | (with_reducible refine tt_bd2 (t_addTo ?_ ?_) (fun _ _ _ => ?_)) | (with_reducible refine tt_bd1 (t_valueOf) (fun _ _ => ?_)) | (with_reducible refine tt_bd1 (t_allows) (fun _ _ => ?_)) | (with_reducible refine tt_bd1 (t_aloneToGoal ?_ ?_) (fun _ _ => ?_)) | (with_reducible refine tt_bd1 (t_shareOf) (fun _ _ => ?_)) | (with_reducible refine tt_bd1 (t_drift) (fun _ _ => ?_)) | (with_reducible refine tt_bd3 (t_balance ?_ ?_) (fun _ _ _ _ => ?_)) | (with_reducible refine tt_bd1 (t_hearPlaces ?_ ?_) (fun _ _ => ?_)) | (with_reducible refine tt_bd1 (t_bitCount) (fun _ _ => ?_)) | (with_reducible refine tt_bd2 (t_measureShares ?_ ?_) (fun _ _ _ => ?_)) | (with_reducible refine tt_bd1 (t_isAbove) (fun _ _ => ?_)) | (with_reducible refine tt_bd1 (t_isQuietDrift) (fun _ _ => ?_)) | (with_reducible refine tt_bd3 (t_canShare ?_ ?_) (fun _ _ _ _ => ?_)) | (with_reducible refine tt_bd1 (t_copyFrom) (fun _ _ => ?_)) | (with_reducible refine tt_bd1 (t_shift) (fun _ _ => ?_)) | (with_reducible refine tt_bd1 (t_isQuiet) (fun _ _ => ?_)) | (with_reducible refine tt_bd1 (t_isFrozen) (fun _ _ => ?_)) | (with_reducible refine tt_bd2 (t_noteAsked ?_) (fun _ _ _ => ?_)) | (with_reducible refine tt_bd1 (t_hearAll ?_ ?_) (fun _ _ => ?_)) | (with_reducible refine tt_bd7 (t_moveSite ?_ ?_) (fun _ _ _ _ _ _ _ _ => ?_)) | (with_reducible refine tt_bd2 (t_hearByHand ?_ ?_) (fun _ _ _ => ?_)) | (with_reducible refine tt_bd1 (t_startCounts ?_ ?_) (fun _ _ => ?_)) | (with_reducible refine tt_bd7 (t_doAct ?_ ?_ ?_) (fun _ _ _ _ _ _ _ _ => ?_)) | (with_reducible refine tt_bd1 (t_freezeRefusal) (fun _ _ => ?_)) | (with_reducible refine tt_bd1 (t_hasRoom) (fun _ _ => ?_)) | (with_reducible refine tt_bd1 (t_isQuietWith) (fun _ _ => ?_)) | (with_reducible refine tt_bd1 (t_isMovable) (fun _ _ => ?_)) | (with_reducible refine tt_bd1 (t_moveRefusal) (fun _ _ => ?_)) | (with_reducible refine tt_bd1 (t_point) (fun _ _ => ?_)) | (with_reducible refine tt_bd1 (t_pointValue) (fun _ _ => ?_)) | (with_reducible refine tt_bd1 (t_quietSites ?_ ?_) (fun _ _ => ?_)) | (with_reducible refine tt_bd1 (t_stands) (fun _ _ => ?_)) | (with_reducible refine tt_bd1 (t_setRefusal) (fun _ _ => ?_)) | (with_reducible refine tt_bd1 (t_refusal) (fun _ _ => ?_)) | (with_reducible refine tt_bd1 (t_slackLength) (fun _ _ => ?_)) | (with_reducible refine tt_bd1 (t_slackSites ?_ ?_) (fun _ _ => ?_)))
  all_goals (exact nx_l jl (nx1 hu))
end
-- 66.tv
section
/-! the book, the draws, history and scripts -/
theorem l_ne0 {x : Int32} (h : ¬ x ≤ 0) : ¬ x.toInt64 = 0 := fun q => h (by
  have a := congrArg Int64.toInt q
  rw [Int32.toInt_toInt64] at a
  have t0 : (0 : Int32).toInt = 0 := by decide
  have t1 : (0 : Int64).toInt = 0 := by decide
  rw [Int32.le_iff_toInt_le, a, t1, t0]; decide)
theorem xor100_neg {x : Int32} : (x ^^^ 100) < 0 ↔ x < 0 := by
  rw [Int32.lt_iff_toBitVec_slt, Int32.lt_iff_toBitVec_slt]
  have h : ∀ b : BitVec 32, b.slt (0 : Int32).toBitVec = b.msb := fun b => by
    rw [BitVec.slt_eq_decide, BitVec.msb_eq_toInt]
    have : ((0 : Int32).toBitVec).toInt = 0 := by decide
    rw [this]
  rw [h, h, Int32.toBitVec_xor, BitVec.msb_xor]
  have : ((100 : Int32).toBitVec).msb = false := by decide
  rw [this, Bool.xor_false]
theorem rem100 {x z : Int32} (ez : z = x - x / 100 * 100) : z.toInt = x.toInt.tmod 100 := by
  have h2 : (100 : Int32).toInt = 100 := by decide
  have a1 : -2 ^ 31 ≤ x.toInt := Int32.le_toInt x
  have a2 : x.toInt < 2 ^ 31 := Int32.toInt_lt x
  have d : x.toInt = 100 * (x.toInt.tdiv 100) + x.toInt.tmod 100 := (Int.mul_tdiv_add_tmod x.toInt 100).symm
  have b1 := Int.lt_tmod_of_pos x.toInt (b := 100) (by decide)
  have b2 := Int.tmod_lt_of_pos x.toInt (b := 100) (by decide)
  have q : (x / 100).toInt = x.toInt.tdiv 100 := by
    rw [Int32.toInt_div, h2]
    exact Int.bmod_eq_of_le (by omega) (by omega)
  rw [ez, Int32.toInt_sub, Int32.toInt_mul, q, h2, Int.sub_bmod_bmod, Int.bmod_eq_of_le (by omega) (by omega)]
  omega
theorem fm100_a {x z y : Int32} (ez : z = x - x / 100 * 100) (ey : y = x ^^^ 100) (c : y ≥ 0) : ∃ k : Nat, k ≤ 99 ∧ z = nI k := by
  have r := rem100 ez
  have t0 : (0 : Int32).toInt = 0 := by decide
  have p : ¬ x < 0 := fun h => by
    have u := xor100_neg.mpr h
    rw [← ey] at u
    simp only [ge_iff_le, Int32.lt_iff_toInt_lt, Int32.le_iff_toInt_le, t0] at c u
    omega
  simp only [Int32.lt_iff_toInt_lt, t0] at p
  have b2 := Int.tmod_lt_of_pos x.toInt (b := 100) (by decide)
  have b1 := Int.tmod_nonneg 100 (a := x.toInt) (by omega)
  exact nat_rng (by rw [r]; omega)
theorem fm100_b {x z y q : Int32} (ez : z = x - x / 100 * 100) (ey : y = x ^^^ 100) (c : ¬ y ≥ 0) (n : ¬ z = 0) (eq : q = z + 100) : ∃ k : Nat, k ≤ 99 ∧ q = nI k := by
  have r := rem100 ez
  have t0 : (0 : Int32).toInt = 0 := by decide
  have t1 : (100 : Int32).toInt = 100 := by decide
  have p : x < 0 := xor100_neg.mp (by
    rw [← ey]
    simp only [ge_iff_le, Int32.lt_iff_toInt_lt, Int32.le_iff_toInt_le, t0] at c ⊢
    omega)
  simp only [Int32.lt_iff_toInt_lt, t0] at p
  have n0 : ¬ z.toInt = 0 := fun h => n (Int32.toInt_inj.mp (h.trans t0.symm))
  have b1 := Int.lt_tmod_of_pos x.toInt (b := 100) (by decide)
  have d : x.toInt = 100 * (x.toInt.tdiv 100) + x.toInt.tmod 100 := (Int.mul_tdiv_add_tmod x.toInt 100).symm
  have b2 : x.toInt.tmod 100 ≤ 0 := by
    have := Int.tmod_nonneg 100 (a := -x.toInt) (by omega)
    rw [Int.neg_tmod] at this
    omega
  refine nat_rng ?_
  rw [eq, Int32.toInt_add, t1, r, Int.bmod_eq_of_le (by omega) (by omega)]
  omega
theorem t_fm100 {x : Int32} : Tt (F_J9_floorMod_7cf53 x 100) (fun r => ∃ k : Nat, k ≤ 99 ∧ r = nI k) := by
  unfold F_J9_floorMod_7cf53
  refine tt_nz (by decide) (tt_ite (fun c => tt_some (fm100_a rfl rfl c)) (fun c => tt_ite (fun n => tt_some ⟨0, by decide, n⟩) (fun n => tt_some (fm100_b rfl rfl c n rfl))))
theorem t_bRead {p1 p2 : Int32} {f : Nat → Int32} : Tt (F_X0_read p1 p2 f) (fun _ => True) := by
  unfold F_X0_read
  refine tt_ite (fun _ => tt_some trivial) (fun a1 => tt_ite (fun _ => tt_some trivial) (fun a2 => tt_bd1 t_fm100 (fun r hr => ?_)))
  obtain ⟨a, ha, rfl⟩ := nnI (n := 3) (by decide) a1 a2
  obtain ⟨k, hk, rfl⟩ := hr
  rw [show (3 : Int32) = nI 3 from rfl, nI_mul, nI_add]
  exact tt_ixn (by omega) (by decide) (tt_some trivial)
theorem t_bWrite {p1 p2 p3 p4 : Int32} {f : Nat → Int32} : Tt (F_X0_write p1 p2 p3 p4 f) (fun _ => True) := by
  unfold F_X0_write
  refine tt_bd1 t_fm100 (fun r hr => ?_)
  obtain ⟨k, hk, rfl⟩ := hr
  rw [show (3 : Int32) = nI 3 from rfl, show (1 : Int32) = nI 1 from rfl, show (2 : Int32) = nI 2 from rfl, nI_mul, nI_add, nI_add]
  exact tt_ixn (by omega) (by decide) (tt_nm (tt_ixn (by omega) (by decide) (tt_nm (tt_ixn (by omega) (by decide) (tt_nm (tt_some trivial))))))
theorem t_bCopy {f g : Nat → Int32} : Tt (F_X0_copyFrom f g) (fun _ => True) := by
  unfold F_X0_copyFrom
  exact tt_cp (by decide) (tt_nm (tt_some trivial))
theorem t_dNext {p1 : Int32} {x : Int64} : Tt (F_X1_next p1 x) (fun _ => True) := by
  unfold F_X1_next
  exact tt_ite (fun _ => tt_some trivial) (fun q => tt_nzL (l_ne0 q) (tt_some trivial))
theorem t_pickAct {p1 a b c d : Int32} {x : Int64} : Tt (F_X1_pickAct p1 x a b c d) (fun _ => True) := by
  unfold F_X1_pickAct
  repeat' (first | (with_reducible refine tt_some ?_) | (with_reducible refine tt_nm ?_) | (with_reducible refine tt_ite (fun _ => ?_) (fun _ => ?_)) | (with_reducible refine tt_bd1 (t_floorDiv ?_) (fun _ _ => ?_)) | (with_reducible refine tt_bd1 (t_floorMod ?_) (fun _ _ => ?_)) | (with_reducible refine tt_bd1 (t_hasSite) (fun _ _ => ?_)) | (with_reducible refine tt_bd1 (t_of) (fun _ _ => ?_)) | (with_reducible refine tt_bd1 (t_isReached) (fun _ _ => ?_)) | (with_reducible refine tt_bd1 (t_addRefusal) (fun _ _ => ?_)) | (with_reducible refine tt_bd1 (t_put) (fun _ _ => ?_)) | (with_reducible refine tt_bd1 (t_stepFrom) (fun _ _ => ?_)) | (with_reducible refine tt_bd1 (t_sites) (fun _ _ => ?_)) | (with_reducible refine tt_bd1 (t_total ?_ ?_) (fun _ _ => ?_)) | (with_reducible refine tt_bd1 (t_endRound ?_ ?_) (fun _ _ => ?_)) | (with_reducible refine tt_bd2 (t_addTo ?_ ?_) (fun _ _ _ => ?_)) | (with_reducible refine tt_bd1 (t_valueOf) (fun _ _ => ?_)) | (with_reducible refine tt_bd1 (t_allows) (fun _ _ => ?_)) | (with_reducible refine tt_bd1 (t_aloneToGoal ?_ ?_) (fun _ _ => ?_)) | (with_reducible refine tt_bd1 (t_shareOf) (fun _ _ => ?_)) | (with_reducible refine tt_bd1 (t_drift) (fun _ _ => ?_)) | (with_reducible refine tt_bd3 (t_balance ?_ ?_) (fun _ _ _ _ => ?_)) | (with_reducible refine tt_bd1 (t_hearPlaces ?_ ?_) (fun _ _ => ?_)) | (with_reducible refine tt_bd1 (t_bitCount) (fun _ _ => ?_)) | (with_reducible refine tt_bd2 (t_measureShares ?_ ?_) (fun _ _ _ => ?_)) | (with_reducible refine tt_bd1 (t_isAbove) (fun _ _ => ?_)) | (with_reducible refine tt_bd1 (t_isQuietDrift) (fun _ _ => ?_)) | (with_reducible refine tt_bd3 (t_canShare ?_ ?_) (fun _ _ _ _ => ?_)) | (with_reducible refine tt_bd1 (t_copyFrom) (fun _ _ => ?_)) | (with_reducible refine tt_bd1 (t_shift) (fun _ _ => ?_)) | (with_reducible refine tt_bd1 (t_isQuiet) (fun _ _ => ?_)) | (with_reducible refine tt_bd1 (t_isFrozen) (fun _ _ => ?_)) | (with_reducible refine tt_bd2 (t_noteAsked ?_) (fun _ _ _ => ?_)) | (with_reducible refine tt_bd1 (t_hearAll ?_ ?_) (fun _ _ => ?_)) | (with_reducible refine tt_bd7 (t_moveSite ?_ ?_) (fun _ _ _ _ _ _ _ _ => ?_)) | (with_reducible refine tt_bd2 (t_hearByHand ?_ ?_) (fun _ _ _ => ?_)) | (with_reducible refine tt_bd1 (t_startCounts ?_ ?_) (fun _ _ => ?_)) | (with_reducible refine tt_bd7 (t_doAct ?_ ?_ ?_) (fun _ _ _ _ _ _ _ _ => ?_)) | (with_reducible refine tt_bd1 (t_freezeRefusal) (fun _ _ => ?_)) | (with_reducible refine tt_bd1 (t_hasRoom) (fun _ _ => ?_)) | (with_reducible refine tt_bd1 (t_isQuietWith) (fun _ _ => ?_)) | (with_reducible refine tt_bd1 (t_isMovable) (fun _ _ => ?_)) | (with_reducible refine tt_bd1 (t_moveRefusal) (fun _ _ => ?_)) | (with_reducible refine tt_bd1 (t_point) (fun _ _ => ?_)) | (with_reducible refine tt_bd1 (t_pointValue) (fun _ _ => ?_)) | (with_reducible refine tt_bd1 (t_quietSites ?_ ?_) (fun _ _ => ?_)) | (with_reducible refine tt_bd1 (t_stands) (fun _ _ => ?_)) | (with_reducible refine tt_bd1 (t_setRefusal) (fun _ _ => ?_)) | (with_reducible refine tt_bd1 (t_refusal) (fun _ _ => ?_)) | (with_reducible refine tt_bd1 (t_slackLength) (fun _ _ => ?_)) | (with_reducible refine tt_bd1 (t_slackSites ?_ ?_) (fun _ _ => ?_)) | (with_reducible refine tt_bd1 (t_unmovedSites ?_ ?_) (fun _ _ => ?_)) | (with_reducible refine tt_bd1 (t_bRead) (fun _ _ => ?_)) | (with_reducible refine tt_bd1 (t_bWrite) (fun _ _ => ?_)) | (with_reducible refine tt_bd1 (t_bCopy) (fun _ _ => ?_)) | (with_reducible refine tt_bd2 (t_dNext) (fun _ _ _ => ?_)))
  all_goals (first | trivial | assumption | (simp [upd, *]; done))
/-- the history's rows, where the next is written, how many are held -/
def HsOK (h : Nat → Int32) (nx hd : Int32) : Prop := (∀ j, j < 40 → Rw (h (81 * j + 3))) ∧ (∃ a, a ≤ 39 ∧ nx = nI a) ∧ (∃ b, b ≤ 40 ∧ hd = nI b)
theorem Rw.to {x y : Int32} (h : Rw x) (e : y = x) : Rw y := by rw [e]; exact h
theorem t_hForget {p : Int32} : Tt (F_X2_forget p) (fun r => r = 0) := by
  exact tt_some rfl
theorem cp81 {a : Nat} (h : a ≤ 39) : nI a * 81 = nI (81 * a) := by rw [show (81 : Int32) = nI 81 from rfl, nI_mul, Nat.mul_comm]
theorem lit81 : (81 : Int32).toNatClampNeg = 81 := rfl
theorem litz : (0 : Int32).toNatClampNeg = 0 := rfl
theorem t_hKeep {h f : Nat → Int32} {nx hd : Int32} (hh : HsOK h nx hd) (hr : Rw (f 3)) : Tt (F_X2_keep h nx hd f) (fun x => HsOK x.1 x.2.1 x.2.2) := by
  unfold F_X2_keep
  obtain ⟨h1, ⟨a, ha, rfl⟩, ⟨b, hb, rfl⟩⟩ := hh
  rw [cp81 ha]
  refine tt_cp ⟨by decide, nI_pos (by omega), by decide, by decide, by rw [nI_clamp (by omega), lit81]; omega⟩ (tt_nm ?_)
  have hrows : ∀ j, j < 40 → Rw (va_cpy f h (0 : Int32).toNatClampNeg (nI (81 * a)).toNatClampNeg (81 : Int32).toNatClampNeg (81 * j + 3)) := by
    intro j hj
    rw [nI_clamp (by omega), lit81, litz]
    show Rw (if 81 * a ≤ 81 * j + 3 ∧ 81 * j + 3 < 81 * a + 81 then f (0 + (81 * j + 3 - 81 * a)) else h (81 * j + 3))
    by_cases e : j = a
    · rw [if_pos ⟨by omega, by omega⟩, show 0 + (81 * j + 3 - 81 * a) = 3 by omega]
      exact hr
    · rw [if_neg (by omega)]
      exact h1 j hj
  have hheld : ∃ c, c ≤ 40 ∧ minF (nI b + 1) 40 = nI c := by
    rw [nI_1, show (40 : Int32) = nI 40 from rfl]
    unfold minF
    by_cases q : nI 40 < nI (b + 1)
    · exact ⟨40, by decide, if_pos q⟩
    · have := mt (nI_ltI (a := 40) (b := b + 1) (by omega) (by omega)).mpr q
      exact ⟨b + 1, by omega, if_neg q⟩
  refine tt_ite (fun _ => tt_some ⟨hrows, ⟨0, by decide, rfl⟩, hheld⟩) (fun q => tt_some ⟨hrows, ⟨a + 1, ?_, nx1 rfl⟩, hheld⟩)
  rw [nI_1] at q
  have : a + 1 < 40 := lt_of_lit (by decide) (by omega) rfl q
  omega
theorem t_hBack {h f : Nat → Int32} {nx hd : Int32} (hh : HsOK h nx hd) (hr : Rw (f 3)) : Tt (F_X2_bringBack h nx hd f) (fun x => Rw (x.2.2.2 3) ∧ HsOK h x.2.1 x.2.2.1) := by
  unfold F_X2_bringBack
  have hh' := hh
  obtain ⟨h1, ⟨a, ha, rfl⟩, ⟨b, hb, rfl⟩⟩ := hh
  refine tt_ite (fun _ => tt_some ⟨hr, hh'⟩) (fun b0 => ?_)
  have bp : 1 ≤ b := Nat.pos_of_ne_zero (fun z => b0 (by rw [z]; rfl))
  have J : ∀ c, c ≤ 39 → Tt (J_X2_bringBack_28 h (nI c) (nI b) f) (fun x => Rw (x.2.2.2 3) ∧ HsOK h x.2.1 x.2.2.1) := by
    intro c hc
    unfold J_X2_bringBack_28
    rw [cp81 hc]
    refine tt_cp ⟨nI_pos (by omega), by decide, by decide, by rw [nI_clamp (by omega), lit81]; omega, by decide⟩ (tt_nm (tt_some ⟨?_, h1, ⟨c, hc, rfl⟩, ⟨b - 1, by omega, ?_⟩⟩))
    · rw [nI_clamp (by omega), lit81, litz]
      show Rw (if 0 ≤ 3 ∧ 3 < 0 + 81 then h (81 * c + (3 - 0)) else f 3)
      rw [if_pos (by decide)]
      exact h1 c (by omega)
    · exact (show nI b - nI 1 = nI (b - 1) from xsub bp)
  refine tt_ite (fun _ => J 39 (by decide)) (fun q => ?_)
  have ap : 0 < a := by
    have := mt (nI_leI (a := a) (b := 0) (by omega) (by omega)).mpr q
    omega
  rw [show nI a - 1 = nI (a - 1) from xsub (b := 1) ap]
  exact J (a - 1) (by omega)
/-- the scripts kept -/
def SkOK (co : Nat → Int32) (hd : Int32) : Prop := (∃ a, a ≤ 4 ∧ hd = nI a) ∧ (∀ j, j < 4 → ∃ c, c ≤ 12 ∧ co j = nI c)
theorem t_areFull {p : Int32} : Tt (F_X4_areFull p) (fun _ => True) := by
  unfold F_X4_areFull
  repeat' (first | (with_reducible refine tt_some ?_) | (with_reducible refine tt_nm ?_) | (with_reducible refine tt_ite (fun _ => ?_) (fun _ => ?_)) | (with_reducible refine tt_bd1 (t_floorDiv ?_) (fun _ _ => ?_)) | (with_reducible refine tt_bd1 (t_floorMod ?_) (fun _ _ => ?_)) | (with_reducible refine tt_bd1 (t_hasSite) (fun _ _ => ?_)) | (with_reducible refine tt_bd1 (t_of) (fun _ _ => ?_)) | (with_reducible refine tt_bd1 (t_isReached) (fun _ _ => ?_)) | (with_reducible refine tt_bd1 (t_addRefusal) (fun _ _ => ?_)) | (with_reducible refine tt_bd1 (t_put) (fun _ _ => ?_)) | (with_reducible refine tt_bd1 (t_stepFrom) (fun _ _ => ?_)) | (with_reducible refine tt_bd1 (t_sites) (fun _ _ => ?_)) | (with_reducible refine tt_bd1 (t_total ?_ ?_) (fun _ _ => ?_)) | (with_reducible refine tt_bd1 (t_endRound ?_ ?_) (fun _ _ => ?_)) | (with_reducible refine tt_bd2 (t_addTo ?_ ?_) (fun _ _ _ => ?_)) | (with_reducible refine tt_bd1 (t_valueOf) (fun _ _ => ?_)) | (with_reducible refine tt_bd1 (t_allows) (fun _ _ => ?_)) | (with_reducible refine tt_bd1 (t_aloneToGoal ?_ ?_) (fun _ _ => ?_)) | (with_reducible refine tt_bd1 (t_shareOf) (fun _ _ => ?_)) | (with_reducible refine tt_bd1 (t_drift) (fun _ _ => ?_)) | (with_reducible refine tt_bd3 (t_balance ?_ ?_) (fun _ _ _ _ => ?_)) | (with_reducible refine tt_bd1 (t_hearPlaces ?_ ?_) (fun _ _ => ?_)) | (with_reducible refine tt_bd1 (t_bitCount) (fun _ _ => ?_)) | (with_reducible refine tt_bd2 (t_measureShares ?_ ?_) (fun _ _ _ => ?_)) | (with_reducible refine tt_bd1 (t_isAbove) (fun _ _ => ?_)) | (with_reducible refine tt_bd1 (t_isQuietDrift) (fun _ _ => ?_)) | (with_reducible refine tt_bd3 (t_canShare ?_ ?_) (fun _ _ _ _ => ?_)) | (with_reducible refine tt_bd1 (t_copyFrom) (fun _ _ => ?_)) | (with_reducible refine tt_bd1 (t_shift) (fun _ _ => ?_)) | (with_reducible refine tt_bd1 (t_isQuiet) (fun _ _ => ?_)) | (with_reducible refine tt_bd1 (t_isFrozen) (fun _ _ => ?_)) | (with_reducible refine tt_bd2 (t_noteAsked ?_) (fun _ _ _ => ?_)) | (with_reducible refine tt_bd1 (t_hearAll ?_ ?_) (fun _ _ => ?_)) | (with_reducible refine tt_bd7 (t_moveSite ?_ ?_) (fun _ _ _ _ _ _ _ _ => ?_)) | (with_reducible refine tt_bd2 (t_hearByHand ?_ ?_) (fun _ _ _ => ?_)) | (with_reducible refine tt_bd1 (t_startCounts ?_ ?_) (fun _ _ => ?_)) | (with_reducible refine tt_bd7 (t_doAct ?_ ?_ ?_) (fun _ _ _ _ _ _ _ _ => ?_)) | (with_reducible refine tt_bd1 (t_freezeRefusal) (fun _ _ => ?_)) | (with_reducible refine tt_bd1 (t_hasRoom) (fun _ _ => ?_)) | (with_reducible refine tt_bd1 (t_isQuietWith) (fun _ _ => ?_)) | (with_reducible refine tt_bd1 (t_isMovable) (fun _ _ => ?_)) | (with_reducible refine tt_bd1 (t_moveRefusal) (fun _ _ => ?_)) | (with_reducible refine tt_bd1 (t_point) (fun _ _ => ?_)) | (with_reducible refine tt_bd1 (t_pointValue) (fun _ _ => ?_)) | (with_reducible refine tt_bd1 (t_quietSites ?_ ?_) (fun _ _ => ?_)) | (with_reducible refine tt_bd1 (t_stands) (fun _ _ => ?_)) | (with_reducible refine tt_bd1 (t_setRefusal) (fun _ _ => ?_)) | (with_reducible refine tt_bd1 (t_refusal) (fun _ _ => ?_)) | (with_reducible refine tt_bd1 (t_slackLength) (fun _ _ => ?_)) | (with_reducible refine tt_bd1 (t_slackSites ?_ ?_) (fun _ _ => ?_)) | (with_reducible refine tt_bd1 (t_unmovedSites ?_ ?_) (fun _ _ => ?_)) | (with_reducible refine tt_bd1 (t_bRead) (fun _ _ => ?_)) | (with_reducible refine tt_bd1 (t_bWrite) (fun _ _ => ?_)) | (with_reducible refine tt_bd1 (t_bCopy) (fun _ _ => ?_)) | (with_reducible refine tt_bd2 (t_dNext) (fun _ _ _ => ?_)) | (with_reducible refine tt_bd5 (t_pickAct) (fun _ _ _ _ _ _ => ?_)) | (with_reducible refine tt_bd1 (t_hForget) (fun _ _ => ?_)) | (with_reducible refine tt_bd3 (t_hKeep ?_ ?_) (fun _ _ _ _ => ?_)) | (with_reducible refine tt_bd4 (t_hBack ?_ ?_) (fun _ _ _ _ _ => ?_)))
  all_goals (first | trivial | assumption | (simp [upd, *]; done))
theorem t_sHas {p q : Int32} : Tt (F_X4_has p q) (fun r => ¬ r = 0 → ∃ a, a < 4 ∧ p = nI a) := by
  unfold F_X4_has
  refine tt_ite (fun _ => tt_some (fun z => absurd rfl z)) (fun a1 => tt_ite (fun _ => tt_some (fun z => absurd rfl z)) (fun _ => tt_ite (fun _ => tt_some (fun z => absurd rfl z)) (fun a2 => tt_some (fun _ => ?_))))
  exact nnI (n := 4) (by decide) a1 a2
theorem t_stepsOf {p hd : Int32} {co : Nat → Int32} (h : SkOK co hd) : Tt (F_X4_stepsOf p co hd) (fun r => (∃ c, c ≤ 12 ∧ r = nI c) ∧ (¬ r = 0 → ∃ a, a < 4 ∧ p = nI a)) := by
  unfold F_X4_stepsOf
  refine tt_bd1 t_sHas (fun r hr => tt_ite (fun _ => tt_some ⟨⟨0, by decide, rfl⟩, fun z => absurd rfl z⟩) (fun r0 => ?_))
  obtain ⟨a, ha, rfl⟩ := hr r0
  refine tt_ixn ha (by decide) (tt_some ⟨?_, fun _ => ⟨a, ha, rfl⟩⟩)
  rw [nI_clamp (by omega)]
  exact h.2 a ha
theorem t_sRead {p1 p2 p3 hd : Int32} {st co : Nat → Int32} (h : SkOK co hd) : Tt (F_X4_read p1 p2 p3 st co hd) (fun _ => True) := by
  unfold F_X4_read
  refine tt_ite (fun _ => tt_some trivial) (fun a1 => tt_bd1 (t_stepsOf h) (fun r hr => tt_ite (fun _ => tt_some trivial) (fun a2 => tt_ite (fun _ => tt_some trivial) (fun b1 => tt_ite (fun b2 => ?_) (fun _ => tt_some trivial)))))
  obtain ⟨⟨c, hc, rfl⟩, h2⟩ := hr
  obtain ⟨x, hx, rfl⟩ := nnI (n := c) (by omega) a1 a2
  obtain ⟨y, hy, rfl⟩ := nnI (n := 4) (by decide) b1 (lt_not.mp b2)
  obtain ⟨a, ha, rfl⟩ := h2 (fun z => by
    have : c = 0 := (nI_eq (a := c) (b := 0) (by omega) (by omega)).mp z
    omega)
  rw [show (48 : Int32) = nI 48 from rfl, show (4 : Int32) = nI 4 from rfl, nI_mul, nI_mul, nI_add, nI_add]
  exact tt_ixn (by omega) (by decide) (tt_some trivial)
theorem t_sortOf {p1 p2 hd : Int32} {st co : Nat → Int32} (h : SkOK co hd) : Tt (F_X4_sortOf p1 p2 st co hd) (fun _ => True) := by
  unfold F_X4_sortOf
  refine tt_bd1 (t_sRead h) (fun r _ => tt_ite (fun _ => tt_some trivial) (fun a1 => tt_ite (fun _ => tt_some trivial) (fun a2 => ?_)))
  obtain ⟨a, ha, rfl⟩ := nnI (n := 7) (by decide) a1 a2
  exact tt_ixn ha (by decide) (tt_some trivial)
end
