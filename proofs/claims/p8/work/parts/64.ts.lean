/-! State: every method ends, and leaves the number of sites -/
theorem sx {a b : Nat} : (17 : Int32) + nI a * 8 + nI b = nI (17 + a * 8 + b) := by rw [show (17 : Int32) = nI 17 from rfl, show (8 : Int32) = nI 8 from rfl, nI_mul, nI_add, nI_add]
theorem tt_nz {α : Type} {d : Int32} {g : Option α} {Q : α → Prop} (hd : ¬ d = 0) (h : Tt g Q) : Tt (nzI d g) Q := by unfold nzI; rw [if_neg hd]; exact h
theorem tt_nzL {α : Type} {d : Int64} {g : Option α} {Q : α → Prop} (hd : ¬ d = 0) (h : Tt g Q) : Tt (nzL d g) Q := by unfold nzL; rw [if_neg hd]; exact h
theorem t_floorDiv {a b : Int32} (h : ¬ b = 0) : Tt (F_J9_floorDiv_7cf53 a b) (fun _ => True) := by
  unfold F_J9_floorDiv_7cf53
  refine tt_nz h ?_
  repeat' (first | (with_reducible refine tt_some ?_) | (with_reducible refine tt_nm ?_) | (with_reducible refine tt_ite (fun _ => ?_) (fun _ => ?_)))
  all_goals (first | trivial | assumption | (simp [upd, *]; done))
theorem t_floorMod {a b : Int32} (h : ¬ b = 0) : Tt (F_J9_floorMod_7cf53 a b) (fun _ => True) := by
  unfold F_J9_floorMod_7cf53
  refine tt_nz h ?_
  repeat' (first | (with_reducible refine tt_some ?_) | (with_reducible refine tt_nm ?_) | (with_reducible refine tt_ite (fun _ => ?_) (fun _ => ?_)))
  all_goals (first | trivial | assumption | (simp [upd, *]; done))
theorem t_hasSite {p1 : Int32} {f : Nat → Int32} : Tt (F_X5_hasSite p1 f) (fun _ => True) := by
  unfold F_X5_hasSite
  repeat' (first | (with_reducible refine tt_some ?_) | (with_reducible refine tt_nm ?_) | (with_reducible refine tt_ite (fun _ => ?_) (fun _ => ?_)) | (with_reducible refine tt_bd1 (t_floorDiv ?_) (fun _ _ => ?_)) | (with_reducible refine tt_bd1 (t_floorMod ?_) (fun _ _ => ?_)))
  all_goals (first | trivial | assumption | (simp [upd, *]; done))
theorem t_of {p1 p2 : Int32} {f : Nat → Int32} : Tt (F_X5_of p1 p2 f) (fun _ => True) := by
  unfold F_X5_of
  refine tt_ite (fun _ => tt_some trivial) (fun a1 => ?_)
  refine tt_ite (fun _ => tt_some trivial) (fun a2 => ?_)
  refine tt_ite (fun _ => tt_some trivial) (fun b1 => ?_)
  refine tt_ite (fun b2 => ?_) (fun _ => tt_some trivial)
  obtain ⟨a, ha, rfl⟩ := nnI (n := 8) (by decide) a1 a2
  obtain ⟨b, hb, rfl⟩ := nnI (n := 8) (by decide) b1 (lt_not.mp b2)
  rw [sx]
  exact tt_ixn (by omega) (by decide) (tt_some trivial)
theorem t_isReached {f : Nat → Int32} : Tt (F_X5_isReached f) (fun _ => True) := by
  unfold F_X5_isReached
  repeat' (first | (with_reducible refine tt_some ?_) | (with_reducible refine tt_nm ?_) | (with_reducible refine tt_ite (fun _ => ?_) (fun _ => ?_)) | (with_reducible refine tt_bd1 (t_floorDiv ?_) (fun _ _ => ?_)) | (with_reducible refine tt_bd1 (t_floorMod ?_) (fun _ _ => ?_)) | (with_reducible refine tt_bd1 (t_hasSite) (fun _ _ => ?_)) | (with_reducible refine tt_bd1 (t_of) (fun _ _ => ?_)))
  all_goals (first | trivial | assumption | (simp [upd, *]; done))
theorem t_addRefusal {p1 p2 : Int32} {f : Nat → Int32} : Tt (F_X5_addRefusal p1 p2 f) (fun _ => True) := by
  unfold F_X5_addRefusal
  repeat' (first | (with_reducible refine tt_some ?_) | (with_reducible refine tt_nm ?_) | (with_reducible refine tt_ite (fun _ => ?_) (fun _ => ?_)) | (with_reducible refine tt_bd1 (t_floorDiv ?_) (fun _ _ => ?_)) | (with_reducible refine tt_bd1 (t_floorMod ?_) (fun _ _ => ?_)) | (with_reducible refine tt_bd1 (t_hasSite) (fun _ _ => ?_)) | (with_reducible refine tt_bd1 (t_of) (fun _ _ => ?_)) | (with_reducible refine tt_bd1 (t_isReached) (fun _ _ => ?_)))
  all_goals (first | trivial | assumption | (simp [upd, *]; done))
theorem t_put {p1 p2 p3 : Int32} {f : Nat → Int32} : Tt (F_X5_put p1 p2 p3 f) (fun g => g 3 = f 3) := by
  unfold F_X5_put
  refine tt_ite (fun _ => tt_some rfl) (fun a1 => ?_)
  refine tt_ite (fun _ => tt_some rfl) (fun a2 => ?_)
  refine tt_ite (fun _ => tt_some rfl) (fun b1 => ?_)
  refine tt_ite (fun _ => tt_some rfl) (fun b2 => ?_)
  obtain ⟨a, ha, rfl⟩ := nnI (n := 8) (by decide) a1 a2
  obtain ⟨b, hb, rfl⟩ := nnI (n := 8) (by decide) b1 b2
  rw [sx]
  refine tt_ixn (by omega) (by decide) (tt_nm (tt_some ?_))
  rw [nI_clamp (by omega)]
  exact upd_no (by omega)
theorem t_stepFrom {p1 : Int32} {f : Nat → Int32} : Tt (F_X5_stepFrom p1 f) (fun _ => True) := by
  unfold F_X5_stepFrom
  refine tt_ite (fun _ => tt_some trivial) (fun a1 => ?_)
  refine tt_ite (fun _ => ?_) (fun _ => tt_some trivial)
  refine tt_nz (fun z => a1 ?_) (tt_some trivial)
  rw [z]
  exact Int32.le_refl 0
theorem t_sites {f : Nat → Int32} : Tt (F_X5_sites f) (fun r => r = f 3) := by
  exact tt_some rfl
theorem t_total {K : Nat} {f : Nat → Int32} {p1 : Int32} (hK : 200000 ≤ K) (hr : Rw (f 3)) : Tt (F_X5_total K p1 f) (fun _ => True) := by
  unfold F_X5_total
  refine tt_bd1 (P := fun _ => True) (tt_for (fun j u => u.2 = nI j) 8 (by omega) rfl (fun j u hj hu => ?_)) (fun _ _ => tt_some trivial)
  unfold B_X5_total_4
  refine tt_bd1 t_sites (fun r hs => tt_ite (fun _ => tt_some (nx_r trivial)) (fun q => tt_bd1 t_of (fun _ _ => tt_some (nx_l (rw_lt hr hs hu hj q) (nx1 hu)))))
theorem t_endRound {K : Nat} {f : Nat → Int32} (hK : 200000 ≤ K) (hr : Rw (f 3)) : Tt (F_X5_endRound K f) (fun g => g 3 = f 3) := by
  unfold F_X5_endRound
  refine tt_bd1 (t_total hK hr) (fun r _ => tt_nm (tt_nm (tt_nm ?_)))
  refine tt_bd1 (P := fun g => g 3 = f 3) (tt_for (fun j u => u.1 = nI j ∧ u.2 3 = f 3) 8 (by omega) ⟨rfl, rfl⟩ (fun j u hj hu => ?_)) (fun g hg => tt_some hg)
  unfold B_X5_endRound_34
  refine tt_bd1 t_sites (fun r hs => tt_ite (fun _ => tt_some (nx_r hu.2)) (fun q => tt_bd1 t_put (fun g hg => tt_some (nx_l (rw_lt hr (hs.trans hu.2) hu.1 hj q) ⟨nx1 hu.1, hg.trans hu.2⟩))))
theorem t_addTo {K : Nat} {p1 p2 : Int32} {f : Nat → Int32} (hK : 200000 ≤ K) (hr : Rw (f 3)) : Tt (F_X5_addTo K p1 p2 f) (fun x => x.2 3 = f 3) := by
  unfold F_X5_addTo
  refine tt_bd1 t_of (fun r _ => tt_bd1 t_put (fun w hw => tt_bd1 t_stepFrom (fun s _ => ?_)))
  refine tt_ite (fun _ => tt_nm (tt_some hw)) (fun _ => tt_bd1 t_of (fun r8 _ => tt_bd1 t_put (fun w1 hw1 => ?_)))
  refine tt_bd3 (P := fun x : Nat × Int32 × (Nat → Int32) => x.1 < 2 ∧ x.2.2 3 = f 3) (tt_for (fun j u => u.2.1 = nI j ∧ u.2.2 3 = f 3) 8 (by omega) ⟨rfl, hw1.trans hw⟩ (fun j u hj hu => ?_)) (fun t x4 g hg => ?_)
  · unfold B_X5_addTo_67
    refine tt_ite (fun _ => tt_some (nx_r ⟨Nat.lt_succ_self 1, hu.2⟩)) (fun q => tt_bd1 t_of (fun r _ => tt_ite (fun _ => tt_some (nx_r ⟨Nat.lt_succ_self 1, hu.2⟩)) (fun _ => tt_bd1 t_of (fun r _ => tt_bd1 t_put (fun g hg => tt_nm ?_)))))
    have jl : j < 8 := by
      rw [hu.1, show (8 : Int32) = nI 8 from rfl] at q
      have := mt (nI_leI (a := 8) (b := j) (by omega) (by omega)).mpr q
      omega
    exact tt_ite (fun _ => tt_some (nx_l jl ⟨nx1 hu.1, hg.trans hu.2⟩)) (fun _ => tt_some (nx_r ⟨Nat.zero_lt_succ 1, hg.trans hu.2⟩))
  · have hg2 : g 3 = f 3 := hg.2
    have ht : t < 2 := hg.1
    refine tt_ite (fun _ => tt_bd1 (t_endRound hK (by rw [hg2]; exact hr)) (fun w hw => tt_some (Eq.trans hw hg2))) (fun h0 => tt_ite (fun _ => tt_some hg2) (fun h1 => ?_))
    omega
theorem t_valueOf {p1 p2 : Int64} {f : Nat → Int32} : Tt (F_X5_valueOf p1 p2 f) (fun _ => True) := by
  unfold F_X5_valueOf J_X5_valueOf_12 J_X5_valueOf_26
  repeat' (first | (with_reducible refine tt_some ?_) | (with_reducible refine tt_nm ?_) | (with_reducible refine tt_ite (fun _ => ?_) (fun _ => ?_)) | (with_reducible refine tt_bd1 (t_floorDiv ?_) (fun _ _ => ?_)) | (with_reducible refine tt_bd1 (t_floorMod ?_) (fun _ _ => ?_)) | (with_reducible refine tt_bd1 (t_hasSite) (fun _ _ => ?_)) | (with_reducible refine tt_bd1 (t_of) (fun _ _ => ?_)) | (with_reducible refine tt_bd1 (t_isReached) (fun _ _ => ?_)) | (with_reducible refine tt_bd1 (t_addRefusal) (fun _ _ => ?_)) | (with_reducible refine tt_bd1 (t_put) (fun _ _ => ?_)) | (with_reducible refine tt_bd1 (t_stepFrom) (fun _ _ => ?_)) | (with_reducible refine tt_bd1 (t_sites) (fun _ _ => ?_)) | (with_reducible refine tt_bd1 (t_total ?_ ?_) (fun _ _ => ?_)) | (with_reducible refine tt_bd1 (t_endRound ?_ ?_) (fun _ _ => ?_)) | (with_reducible refine tt_bd2 (t_addTo ?_ ?_) (fun _ _ _ => ?_)))
  all_goals (first | trivial | assumption | (simp [upd, *]; done))
theorem t_allows {p1 p2 : Int64} {f : Nat → Int32} : Tt (F_X5_allows p1 p2 f) (fun _ => True) := by
  unfold F_X5_allows
  repeat' (first | (with_reducible refine tt_some ?_) | (with_reducible refine tt_nm ?_) | (with_reducible refine tt_ite (fun _ => ?_) (fun _ => ?_)) | (with_reducible refine tt_bd1 (t_floorDiv ?_) (fun _ _ => ?_)) | (with_reducible refine tt_bd1 (t_floorMod ?_) (fun _ _ => ?_)) | (with_reducible refine tt_bd1 (t_hasSite) (fun _ _ => ?_)) | (with_reducible refine tt_bd1 (t_of) (fun _ _ => ?_)) | (with_reducible refine tt_bd1 (t_isReached) (fun _ _ => ?_)) | (with_reducible refine tt_bd1 (t_addRefusal) (fun _ _ => ?_)) | (with_reducible refine tt_bd1 (t_put) (fun _ _ => ?_)) | (with_reducible refine tt_bd1 (t_stepFrom) (fun _ _ => ?_)) | (with_reducible refine tt_bd1 (t_sites) (fun _ _ => ?_)) | (with_reducible refine tt_bd1 (t_total ?_ ?_) (fun _ _ => ?_)) | (with_reducible refine tt_bd1 (t_endRound ?_ ?_) (fun _ _ => ?_)) | (with_reducible refine tt_bd2 (t_addTo ?_ ?_) (fun _ _ _ => ?_)) | (with_reducible refine tt_bd1 (t_valueOf) (fun _ _ => ?_)))
  all_goals (first | trivial | assumption | (simp [upd, *]; done))
theorem t_aloneToGoal {K : Nat} {p1 p2 : Int32} {f : Nat → Int32} (hK : 200000 ≤ K) (hr : Rw (f 3)) : Tt (F_X5_aloneToGoal K p1 p2 f) (fun _ => True) := by
  unfold F_X5_aloneToGoal
  refine tt_bd1 (t_total hK hr) (fun r _ => tt_bd1 t_of (fun r3 _ => tt_bd1 t_stepFrom (fun r5 _ => ?_)))
  refine tt_bd3 (P := fun _ => True) (tt_for (fun j u => u.2.2.2.2.2.2.2 = nI j) 9999 (by omega) rfl (fun j u hj hu => ?_)) (fun _ _ _ _ => ?_)
  · unfold B_X5_aloneToGoal_50
    refine tt_ite (fun _ => tt_some (nx_r trivial)) (fun q => tt_ite (fun _ => tt_some (nx_r trivial)) (fun _ => tt_bd1 t_stepFrom (fun r9 _ => tt_some (nx_l ?_ (nx1 hu)))))
    rw [hu, show (9999 : Int32) = nI 9999 from rfl] at q
    have := mt (nI_leI (a := 9999) (b := j) (by omega) (by omega)).mpr q
    omega
  · unfold J_X5_aloneToGoal_136
    exact tt_ite (fun _ => tt_some trivial) (fun _ => tt_some trivial)
theorem t_shareOf {p1 p2 : Int32} {a b : Nat → Int32} : Tt (F_X5_shareOf p1 p2 a b) (fun _ => True) := by
  unfold F_X5_shareOf
  refine tt_ite (fun _ => tt_some trivial) (fun a1 => tt_ite (fun a2 => ?_) (fun _ => tt_some trivial))
  obtain ⟨c, hc, rfl⟩ := nnI (n := 2) (by decide) a1 (fun z => absurd (Int32.le_trans (show (2 : Int32) ≤ p2 from z) a2) (by decide))
  exact tt_ixn hc (by decide) (tt_ite (fun _ => tt_ixn hc (by decide) (tt_some trivial)) (fun _ => tt_ixn hc (by decide) (tt_some trivial)))
theorem t_drift {p1 p2 : Int32} {f : Nat → Int32} : Tt (F_X5_drift p1 p2 f) (fun _ => True) := by
  unfold F_X5_drift
  refine tt_ite (fun _ => tt_some trivial) (fun a1 => ?_)
  refine tt_ite (fun _ => tt_some trivial) (fun a2 => ?_)
  refine tt_ite (fun _ => tt_some trivial) (fun b1 => tt_ite (fun b2 => ?_) (fun _ => tt_some trivial))
  obtain ⟨a, ha, rfl⟩ := nnI (n := 8) (by decide) a1 a2
  obtain ⟨b, hb, rfl⟩ := nnI (n := 2) (by decide) b1 (fun z => absurd (Int32.le_trans (show (2 : Int32) ≤ p2 from z) b2) (by decide))
  rw [sx, show (0 : Int32) = nI 0 from rfl, show (2 : Int32) = nI 2 from rfl, show (4 : Int32) = nI 4 from rfl, nI_add, nI_add, nI_add]
  exact tt_ixn (by omega) (by decide) (tt_ixn (by omega) (by decide) (tt_ixn (by omega) (by decide) (tt_some trivial)))
theorem t_balance {K : Nat} {p1 ac oc : Int32} {f sh lo : Nat → Int32} (hK : 200000 ≤ K) (hr : Rw (f 3)) : Tt (F_X5_balance K p1 f ac oc sh lo) (fun x => x.2.1 3 = f 3) := by
  unfold F_X5_balance
  refine tt_nm (tt_bd2 (P := fun x : Int32 × (Nat → Int32) => x.2 3 = f 3) (tt_for (fun j u => u.2.1 = nI j ∧ u.2.2 3 = f 3) 8 (by omega) ⟨rfl, rfl⟩ (fun j u hj hu => ?_)) (fun x2 g hg => tt_some hg))
  unfold B_X5_balance_20
  refine tt_bd1 t_sites (fun r hs => tt_ite (fun _ => tt_some (nx_r hu.2)) (fun q => ?_))
  have jl := rw_lt hr (hs.trans hu.2) hu.1 hj q
  refine tt_ite (fun _ => tt_some (nx_l jl ⟨nx1 hu.1, hu.2⟩)) (fun _ => ?_)
  refine tt_bd1 (P := fun g => g 3 = f 3) (tt_for (fun j u => u.1 = nI j ∧ u.2 3 = f 3) 2 (by omega) ⟨rfl, hu.2⟩ (fun i v hi hv => ?_)) (fun g hg => tt_some (nx_l jl ⟨nx1 hu.1, hg⟩))
  unfold B_X5_balance_42
  refine tt_ite (fun _ => tt_some (nx_r hv.2)) (fun q => tt_bd1 t_shareOf (fun _ _ => tt_bd1 t_drift (fun _ _ => tt_bd1 t_of (fun _ _ => tt_bd1 t_put (fun g hg => tt_some (nx_l ?_ ⟨nx1 hv.1, hg.trans hv.2⟩))))))
  rw [hv.1, show (2 : Int32) = nI 2 from rfl] at q
  have := mt (nI_leI (a := 2) (b := i) (by omega) (by omega)).mpr q
  omega
theorem t_hearPlaces {K : Nat} {f : Nat → Int32} (hK : 200000 ≤ K) (hr : Rw (f 3)) : Tt (F_X5_hearPlaces K f) (fun g => g 3 = f 3) := by
  unfold F_X5_hearPlaces
  refine tt_nm (tt_nm (tt_bd1 (P := fun g => g 3 = f 3) (tt_for (fun j u => u.1 = nI j ∧ u.2 3 = f 3) 8 (by omega) ⟨rfl, rfl⟩ (fun j u hj hu => ?_)) (fun g hg => tt_some hg)))
  unfold B_X5_hearPlaces_16
  refine tt_bd1 t_sites (fun r hs => tt_ite (fun _ => tt_some (nx_r hu.2)) (fun q => ?_))
  have jl := rw_lt hr (hs.trans hu.2) hu.1 hj q
  exact tt_bd1 t_of (fun _ _ => tt_bd1 t_put (fun g1 h1 => tt_bd1 t_of (fun _ _ => tt_bd1 t_put (fun g2 h2 => tt_bd1 t_put (fun g3 h3 => tt_bd1 t_put (fun g4 h4 => tt_bd1 t_of (fun _ _ => tt_nm (tt_bd1 t_of (fun _ _ => tt_nm (tt_some (nx_l jl ⟨nx1 hu.1, h4.trans (h3.trans (h2.trans (h1.trans hu.2)))⟩)))))))))))
theorem t_begin {K : Nat} {f ru pl : Nat → Int32} {s : Nat} (hK : 200000 ≤ K) (hs : s ≤ 8) : Tt (F_X5_begin K f ru pl (nI s)) (fun g => g 3 = nI s) := by
  unfold F_X5_begin
  have hm : minF (nI s) 8 = nI s := by
    unfold minF
    refine if_neg (fun z => ?_)
    rw [show (8 : Int32) = nI 8 from rfl] at z
    have := (nI_ltI (a := 8) (b := s) (by omega) (by omega)).mp z
    omega
  refine tt_bd1 (P := fun _ => True) (tt_for (fun j u => u.1 = nI j) 81 (by omega) rfl (fun j u hj hu => ?_)) (fun g _ => tt_nm (tt_nm (tt_nm (tt_nm ?_))))
  · unfold B_X5_begin_2
    refine tt_ite (fun _ => tt_some (nx_r trivial)) (fun q => ?_)
    have jl : j < 81 := by
      rw [hu, show (81 : Int32) = nI 81 from rfl] at q
      have := mt (nI_leI (a := 81) (b := j) (by omega) (by omega)).mpr q
      omega
    rw [hu]
    exact tt_ixn jl (by decide) (tt_nm (tt_some (nx_l jl (nx1 rfl))))
  · have hr : Rw (nI s) := ⟨s, hs, rfl⟩
    refine tt_bd1 (P := fun g => g 3 = nI s) (tt_for (fun j u => u.1 = nI j ∧ u.2 3 = nI s) 8 (by omega) ⟨rfl, hm⟩ (fun j u hj hu => ?_)) (fun g hg => tt_bd1 (t_hearPlaces hK (by rw [show g 3 = nI s from hg]; exact hr)) (fun w hw => tt_bd1 t_allows (fun _ _ => tt_ite (fun _ => tt_nm (tt_some (Eq.trans hw hg))) (fun _ => tt_nm (tt_some (Eq.trans hw hg))))))
    unfold B_X5_begin_74
    refine tt_bd1 t_sites (fun r hs => tt_ite (fun _ => tt_some (nx_r hu.2)) (fun q => ?_))
    have jl := rw_lt hr (hs.trans hu.2) hu.1 hj q
    have e1 : (2 : Int32) * u.1 = nI (2 * j) := by rw [hu.1]; exact nI_mul 2 j
    have e2 : (2 : Int32) * u.1 + 1 = nI (2 * j + 1) := nx1 e1
    rw [e2, e1]
    exact tt_ixn (by omega) (by decide) (tt_bd1 t_put (fun g1 h1 => tt_ixn (by omega) (by decide) (tt_bd1 t_put (fun g2 h2 => tt_some (nx_l jl ⟨nx1 hu.1, h2.trans (h1.trans hu.2)⟩)))))
