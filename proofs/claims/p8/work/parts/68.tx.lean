/-! the class's loops over acts end -/
theorem t_cwalk {K : Nat} {p1 p2 p3 p4 p5 : Int32} {row tr pa sh lo : Nat → Int32} {ac oc : Int32} (hK : 200000 ≤ K) (hr : Rw (row 3)) (ha : Rw ac) : Tt (F_X7_walk K p1 p2 p3 p4 p5 row tr pa ac oc sh lo) (fun x => Rw x.2.2.2.1) := by
  unfold F_X7_walk
  refine tt_ite (fun _ => tt_some ha) (fun _ => tt_ite (fun _ => tt_some ha) (fun p99 => tt_bd1 t_refusal (fun _ _ => tt_ite (fun _ => tt_bd1 t_copyFrom (fun w hw => ?_)) (fun _ => tt_some ha))))
  refine tt_bd7 (P := fun x : Int32 × (Nat → Int32) × (Nat → Int32) × Int32 × Int32 × (Nat → Int32) × (Nat → Int32) => Rw x.2.2.2.1) (tt_for (fun j u => u.2.1 = nI j ∧ u.2.2.1 3 = row 3 ∧ Rw u.2.2.2.2.1) 99 (by omega) ⟨rfl, hw, ha⟩ (fun j u hj hu => ?_)) (fun _ _ _ _ _ _ _ hx => ?_)
  · unfold B_X7_walk_47
    refine tt_ite (fun _ => tt_some (nx_r hu.2.2)) (fun q => tt_bd1 t_refusal (fun _ _ => tt_ite (fun _ => tt_bd7 (t_doAct hK (hr.to hu.2.1) hu.2.2) (fun _ _ _ _ _ _ _ hx => tt_some (nx_l ?_ ⟨nx1 hu.1, hx.1.trans hu.2.1, hx.2⟩))) (fun _ => tt_some (nx_r hu.2.2))))
    exact lt_of_le (by omega) (by decide) hu.1 p99 q
  · unfold J_X7_walk_90
    exact tt_ite (fun _ => tt_some hx) (fun _ => tt_ite (fun _ => tt_some hx) (fun _ => tt_ite (fun _ => tt_some hx) (fun _ => tt_some hx)))
theorem t_cyears {K : Nat} {p1 : Int32} {p2 x : Int64} {d1 d2 d3 d4 : Int32} {row pa sh lo bo h re : Nat → Int32} {ac oc nx hd : Int32} (hK : 200000 ≤ K) (hr : Rw (row 3)) (ha : Rw ac) (hh : HsOK h nx hd) : Tt (F_X7_years K p1 p2 row pa ac oc sh lo bo h nx hd x d1 d2 d3 d4 re) (fun x => AcOK (row 3) x.2.1 x.2.2.2.1 x.2.2.2.2.2.2.2.2.1 x.2.2.2.2.2.2.2.2.2.1 x.2.2.2.2.2.2.2.2.2.2.1) := by
  unfold F_X7_years
  have ok : AcOK (row 3) row ac h nx hd := ⟨rfl, ha, hh⟩
  refine tt_bd1 t_stands (fun _ _ => tt_ite (fun _ => tt_some ok) (fun _ => tt_ite (fun _ => tt_some ok) (fun _ => tt_ite (fun p40 => ?_) (fun _ => tt_some ok))))
  refine tt_bd17 (P := fun x : Int32 × (Nat → Int32) × (Nat → Int32) × Int32 × Int32 × (Nat → Int32) × (Nat → Int32) × (Nat → Int32) × (Nat → Int32) × Int32 × Int32 × Int64 × Int32 × Int32 × Int32 × Int32 × (Nat → Int32) => AcOK (row 3) x.2.1 x.2.2.2.1 x.2.2.2.2.2.2.2.2.1 x.2.2.2.2.2.2.2.2.2.1 x.2.2.2.2.2.2.2.2.2.2.1) (tt_for (fun j u => u.2.1 = nI j ∧ AcOK (row 3) u.2.2.1 u.2.2.2.2.1 u.2.2.2.2.2.2.2.2.2.1 u.2.2.2.2.2.2.2.2.2.2.1 u.2.2.2.2.2.2.2.2.2.2.2.1) 40 (by omega) ⟨rfl, ok⟩ (fun j u hj hu => ?_)) (fun _ _ _ _ _ _ _ _ _ _ _ _ _ _ _ _ _ hx => tt_some hx)
  unfold B_X7_years_37
  refine tt_ite (fun _ => tt_some (nx_r hu.2)) (fun q => tt_bd1 t_sites (fun _ _ => tt_bd5 t_pickAct (fun _ _ _ _ _ _ => tt_bd12 (t_act hK (hr.to hu.2.1) hu.2.2.1 hu.2.2.2) (fun _ _ _ _ _ _ _ _ _ _ _ _ hx => tt_some (nx_l ?_ ⟨nx1 hu.1, hx.1.trans hu.2.1, hx.2⟩)))))
  exact lt_of_le (by omega) (by decide) hu.1 (fun z => lt_not.mp z p40) q
theorem t_cperform {K : Nat} {p1 hs : Int32} {st co : Nat → Int32} (hk : SkOK co hs) {row pa sh lo bo h re : Nat → Int32} {ac oc nx hd : Int32} (hK : 200000 ≤ K) (hr : Rw (row 3)) (ha : Rw ac) (hh : HsOK h nx hd) : Tt (F_X7_perform K p1 st co hs row pa ac oc sh lo bo h nx hd re) (fun x => AcOK (row 3) x.2.1 x.2.2.2.1 x.2.2.2.2.2.2.2.2.1 x.2.2.2.2.2.2.2.2.2.1 x.2.2.2.2.2.2.2.2.2.2.1) := by
  unfold F_X7_perform
  have ok : AcOK (row 3) row ac h nx hd := ⟨rfl, ha, hh⟩
  refine tt_bd1 t_sHas (fun _ _ => tt_ite (fun _ => tt_some ok) (fun _ => tt_bd1 t_stands (fun _ _ => tt_ite (fun _ => tt_some ok) (fun _ => tt_bd1 (t_stepsOf hk) (fun r9 hr9 => ?_)))))
  obtain ⟨⟨c, hc, rfl⟩, -⟩ := hr9
  refine tt_bd13 (P := fun x : Nat × Int32 × (Nat → Int32) × (Nat → Int32) × Int32 × Int32 × (Nat → Int32) × (Nat → Int32) × (Nat → Int32) × (Nat → Int32) × Int32 × Int32 × (Nat → Int32) => x.1 < 2 ∧ AcOK (row 3) x.2.2.1 x.2.2.2.2.1 x.2.2.2.2.2.2.2.2.2.1 x.2.2.2.2.2.2.2.2.2.2.1 x.2.2.2.2.2.2.2.2.2.2.2.1) (tt_for (fun j u => u.1 = nI j ∧ AcOK (row 3) u.2.1 u.2.2.2.1 u.2.2.2.2.2.2.2.2.1 u.2.2.2.2.2.2.2.2.2.1 u.2.2.2.2.2.2.2.2.2.2.1) 12 (by omega) ⟨rfl, ok⟩ (fun j u hj hu => ?_)) (fun t _ _ _ _ _ _ _ _ _ _ _ _ hx => tt_ite (fun _ => tt_some hx.2) (fun h0 => tt_ite (fun _ => tt_some hx.2) (fun h1 => ?_)))
  · unfold B_X7_perform_34
    refine tt_ite (fun _ => tt_some (nx_r ⟨Nat.lt_succ_self 1, hu.2⟩)) (fun q => ?_)
    have jl : j < c := lt_of_lit (by omega) (by omega) hu.1 q
    refine tt_bd1 (t_sortOf hk) (fun _ _ => tt_bd1 (t_sRead hk) (fun _ _ => tt_bd1 (t_sRead hk) (fun _ _ => tt_bd1 (t_sRead hk) (fun _ _ => tt_bd12 (t_act hK (hr.to hu.2.1) hu.2.2.1 hu.2.2.2) (fun _ _ _ _ _ _ _ _ _ _ _ _ hx => ?_)))))
    have hx' := And.intro (hx.1.trans hu.2.1) hx.2
    exact tt_ite (fun _ => tt_some (nx_r ⟨Nat.zero_lt_succ 1, hx'⟩)) (fun _ => tt_some (nx_l (by omega) ⟨nx1 hu.1, hx'⟩))
  · have ht : t < 2 := hx.1
    omega
theorem t_tryStep {K : Nat} {p1 p2 hs : Int32} {st co : Nat → Int32} (hk : SkOK co hs) {tr pa sh lo : Nat → Int32} {ac oc : Int32} (hK : 200000 ≤ K) (hr : Rw (tr 3)) (ha : Rw ac) : Tt (F_X7_tryStep K p1 p2 st co hs tr pa ac oc sh lo) (fun x => x.2.1 3 = tr 3 ∧ Rw x.2.2.2.1) := by
  unfold F_X7_tryStep
  exact tt_bd1 (t_sortOf hk) (fun _ _ => tt_bd1 (t_sRead hk) (fun _ _ => tt_bd1 (t_sRead hk) (fun _ _ => tt_bd1 (t_sRead hk) (fun _ _ => tt_bd1 t_refusal (fun _ _ => tt_ite (fun _ => tt_bd7 (t_doAct hK hr ha) (fun _ _ _ _ _ _ _ hx => tt_some hx)) (fun _ => tt_some ⟨rfl, ha⟩))))))
theorem t_crun {K : Nat} {p1 p2 hs : Int32} {st co : Nat → Int32} (hk : SkOK co hs) {row tr pa sh lo : Nat → Int32} {ac oc : Int32} (hK : 200000 ≤ K) (hr : Rw (row 3)) (ha : Rw ac) : Tt (F_X7_run K p1 p2 st co hs row tr pa ac oc sh lo) (fun x => Rw x.2.2.2.1) := by
  unfold F_X7_run
  refine tt_bd1 t_sHas (fun _ _ => tt_ite (fun _ => tt_some ha) (fun _ => tt_bd1 t_stands (fun _ _ => tt_ite (fun _ => tt_some ha) (fun _ => tt_ite (fun _ => tt_some ha) (fun _ => tt_ite (fun _ => tt_bd1 t_copyFrom (fun w hw => tt_bd1 (t_stepsOf hk) (fun r9 hr9 => ?_))) (fun _ => tt_some ha))))))
  obtain ⟨⟨c, hc, rfl⟩, -⟩ := hr9
  refine tt_bd7 (P := fun x : Int32 × (Nat → Int32) × (Nat → Int32) × Int32 × Int32 × (Nat → Int32) × (Nat → Int32) => Rw x.2.2.2.1) (tt_for (fun j u => u.1 = nI j ∧ u.2.1 3 = row 3 ∧ Rw u.2.2.2.1) 12 (by omega) ⟨rfl, hw, ha⟩ (fun j u hj hu => ?_)) (fun _ _ _ _ _ _ _ hx => ?_)
  · unfold B_X7_run_56
    refine tt_ite (fun _ => tt_some (nx_r hu.2.2)) (fun q => ?_)
    have jl : j < c := lt_of_lit (by omega) (by omega) hu.1 q
    exact tt_bd7 (t_tryStep hk hK (hr.to hu.2.1) hu.2.2) (fun _ _ _ _ _ _ _ hx => tt_ite (fun _ => tt_some (nx_r hx.2)) (fun _ => tt_some (nx_l (by omega) ⟨nx1 hu.1, hx.1.trans hu.2.1, hx.2⟩)))
  · unfold J_X7_run_78
    exact tt_ite (fun _ => tt_some hx) (fun _ => tt_ite (fun _ => tt_some hx) (fun _ => tt_some hx))
theorem t_crace {K : Nat} {p1 p2 p3 : Int32} {f : Nat → Int32} (hK : 200000 ≤ K) (hr : Rw (f 3)) : Tt (F_X7_race K p1 p2 p3 f) (fun _ => True) := by
  unfold F_X7_race
  refine tt_bd1 t_stands (fun _ _ => tt_ite (fun _ => tt_some trivial) (fun _ => tt_bd1 t_isWay (fun _ _ => tt_ite (fun _ => tt_some trivial) (fun _ => tt_ite (fun _ => tt_some trivial) (fun _ => tt_ite (fun _ => ?_) (fun _ => tt_some trivial))))))
  refine tt_bd3 (P := fun x : Nat × Int32 × Int32 => x.1 < 3) (tt_for (fun j u => u.2 = nI (j + 1)) 200 (by omega) rfl (fun j u hj hu => ?_)) (fun t x y ht => tt_ite (fun _ => tt_some trivial) (fun h0 => tt_ite (fun _ => tt_ite (fun _ => tt_some trivial) (fun _ => tt_some trivial)) (fun h1 => tt_ite (fun _ => tt_some trivial) (fun h2 => ?_))))
  · unfold B_X7_race_35
    refine tt_ite (fun _ => tt_some (nx_r (Nat.lt_succ_self 2))) (fun q => ?_)
    have jl : j + 1 ≤ 200 := le_of_nlt (by omega) (by decide) hu q
    refine tt_bd3 (P := fun x : Nat × Int32 × Int32 => x.1 < 3) (tt_for (fun j u => u.2 = nI j) 8 (by omega) rfl (fun i v hi hv => ?_)) (fun t x y ht => tt_ite (fun _ => tt_some (nx_r (Nat.zero_lt_succ 2))) (fun h0 => tt_ite (fun _ => tt_some (nx_r (Nat.succ_lt_succ (Nat.zero_lt_succ 1)))) (fun h1 => tt_ite (fun _ => tt_some (nx_l (by omega) (nx1 hu))) (fun h2 => ?_))))
    · unfold B_X7_race_46
      refine tt_bd1 t_sites (fun r hs => tt_ite (fun _ => tt_some (nx_r (Nat.lt_succ_self 2))) (fun q => ?_))
      have il := rw_lt hr hs hv hi q
      exact tt_bd1 t_isFrozen (fun _ _ => tt_ite (fun _ => tt_bd1 t_hasRoom (fun _ _ => tt_ite (fun _ => tt_some (nx_r (Nat.zero_lt_succ 2))) (fun _ => tt_bd1 t_isQuietWith (fun _ _ => tt_ite (fun _ => tt_some (nx_r (Nat.succ_lt_succ (Nat.zero_lt_succ 1)))) (fun _ => tt_some (nx_l il (nx1 hv))))))) (fun _ => tt_some (nx_l il (nx1 hv))))
    · have ht' : t < 3 := ht
      omega
  · have ht' : t < 3 := ht
    omega
