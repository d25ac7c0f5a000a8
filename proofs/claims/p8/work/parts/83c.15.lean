/-! Stage B, 15: what acts leave of the class's row: its sites and the acts' count -/
def E3 (g f : Nat → Int32) : Prop := g 3 = f 3 ∧ g 16 = f 16 ∧ g 11 = f 11
theorem E3.tr {a b c : Nat → Int32} (h1 : E3 a b) (h2 : E3 b c) : E3 a c := ⟨h1.1.trans h2.1, h1.2.1.trans h2.2.1, h1.2.2.trans h2.2.2⟩
theorem e_put {p1 p2 p3 : Int32} {f : Nat → Int32} : Tt (F_X5_put p1 p2 p3 f) (fun g => E3 g f) := by
  unfold F_X5_put
  refine tt_ite (fun _ => tt_some ⟨rfl, rfl, rfl⟩) (fun a1 => ?_)
  refine tt_ite (fun _ => tt_some ⟨rfl, rfl, rfl⟩) (fun a2 => ?_)
  refine tt_ite (fun _ => tt_some ⟨rfl, rfl, rfl⟩) (fun b1 => ?_)
  refine tt_ite (fun _ => tt_some ⟨rfl, rfl, rfl⟩) (fun b2 => ?_)
  obtain ⟨a, ha, rfl⟩ := nnI (n := 8) (by decide) a1 a2
  obtain ⟨b, hb, rfl⟩ := nnI (n := 8) (by decide) b1 b2
  rw [sx]
  refine tt_ixn (by omega) (by decide) (tt_nm (tt_some ?_))
  rw [nI_clamp (by omega)]
  exact ⟨upd_no (by omega), upd_no (by omega), upd_no (by omega)⟩
theorem e_endRound {K : Nat} {f : Nat → Int32} (hK : 200000 ≤ K) (hr : Rw (f 3)) : Tt (F_X5_endRound K f) (fun g => E3 g f) := by
  unfold F_X5_endRound
  refine tt_bd1 (t_total hK hr) (fun r _ => tt_nm (tt_nm (tt_nm ?_)))
  refine tt_bd1 (P := fun g => E3 g f) (tt_for (fun j u => u.1 = nI j ∧ E3 u.2 f) 8 (by omega) ⟨rfl, rfl, rfl, rfl⟩ (fun j u hj hu => ?_)) (fun g hg => tt_some hg)
  unfold B_X5_endRound_34
  refine tt_bd1 t_sites (fun r hs => tt_ite (fun _ => tt_some (nx_r hu.2)) (fun q => tt_bd1 e_put (fun g hg => tt_some (nx_l (rw_lt hr (hs.trans hu.2.1) hu.1 hj q) ⟨nx1 hu.1, E3.tr hg hu.2⟩))))
theorem e_addTo {K : Nat} {p1 p2 : Int32} {f : Nat → Int32} (hK : 200000 ≤ K) (hr : Rw (f 3)) : Tt (F_X5_addTo K p1 p2 f) (fun x => E3 x.2 f) := by
  unfold F_X5_addTo
  refine tt_bd1 t_of (fun r _ => tt_bd1 e_put (fun w hw => tt_bd1 t_stepFrom (fun s _ => ?_)))
  have hw : E3 w f := hw
  refine tt_ite (fun _ => tt_nm (tt_some (E3.tr (b := w) ⟨rfl, rfl, rfl⟩ hw))) (fun _ => tt_bd1 t_of (fun r8 _ => tt_bd1 e_put (fun w1 hw1 => ?_)))
  refine tt_bd3 (P := fun x : Nat × Int32 × (Nat → Int32) => x.1 < 2 ∧ E3 x.2.2 f) (tt_for (fun j u => u.2.1 = nI j ∧ E3 u.2.2 f) 8 (by omega) ⟨rfl, E3.tr hw1 hw⟩ (fun j u hj hu => ?_)) (fun t x4 g hg => ?_)
  · unfold B_X5_addTo_67
    refine tt_ite (fun _ => tt_some (nx_r ⟨Nat.lt_succ_self 1, hu.2⟩)) (fun q => tt_bd1 t_of (fun r _ => tt_ite (fun _ => tt_some (nx_r ⟨Nat.lt_succ_self 1, hu.2⟩)) (fun _ => tt_bd1 t_of (fun r _ => tt_bd1 e_put (fun g hg => tt_nm ?_)))))
    have jl : j < 8 := by
      rw [hu.1, show (8 : Int32) = nI 8 from rfl] at q
      have := mt (nI_leI (a := 8) (b := j) (by omega) (by omega)).mpr q
      omega
    have hg : E3 g u.2.2 := hg
    have hz : E3 (upd g 9 (g 9 + 1)) f := E3.tr (b := g) ⟨rfl, rfl, rfl⟩ (E3.tr hg hu.2)
    exact tt_ite (fun _ => tt_some (nx_l jl ⟨nx1 hu.1, hz⟩)) (fun _ => tt_some (nx_r ⟨Nat.zero_lt_succ 1, hz⟩))
  · have hg2 : E3 g f := hg.2
    have ht : t < 2 := hg.1
    refine tt_ite (fun _ => tt_bd1 (e_endRound hK (by rw [hg2.1]; exact hr)) (fun w hw => tt_some (E3.tr hw hg2))) (fun h0 => tt_ite (fun _ => tt_some hg2) (fun h1 => ?_))
    omega
theorem e_balance {K : Nat} {p1 ac oc : Int32} {f sh lo : Nat → Int32} (hK : 200000 ≤ K) (hr : Rw (f 3)) : Tt (F_X5_balance K p1 f ac oc sh lo) (fun x => E3 x.2.1 f) := by
  unfold F_X5_balance
  refine tt_nm (tt_bd2 (P := fun x : Int32 × (Nat → Int32) => E3 x.2 f) (tt_for (fun j u => u.2.1 = nI j ∧ E3 u.2.2 f) 8 (by omega) ⟨rfl, rfl, rfl, rfl⟩ (fun j u hj hu => ?_)) (fun x2 g hg => tt_some hg))
  unfold B_X5_balance_20
  refine tt_bd1 t_sites (fun r hs => tt_ite (fun _ => tt_some (nx_r hu.2)) (fun q => ?_))
  have jl := rw_lt hr (hs.trans hu.2.1) hu.1 hj q
  refine tt_ite (fun _ => tt_some (nx_l jl ⟨nx1 hu.1, hu.2⟩)) (fun _ => ?_)
  refine tt_bd1 (P := fun g => E3 g f) (tt_for (fun j u => u.1 = nI j ∧ E3 u.2 f) 2 (by omega) ⟨rfl, hu.2⟩ (fun i v hi hv => ?_)) (fun g hg => tt_some (nx_l jl ⟨nx1 hu.1, hg⟩))
  unfold B_X5_balance_42
  refine tt_ite (fun _ => tt_some (nx_r hv.2)) (fun q => tt_bd1 t_shareOf (fun _ _ => tt_bd1 t_drift (fun _ _ => tt_bd1 t_of (fun _ _ => tt_bd1 e_put (fun g hg => tt_some (nx_l ?_ ⟨nx1 hv.1, E3.tr hg hv.2⟩))))))
  rw [hv.1, show (2 : Int32) = nI 2 from rfl] at q
  have := mt (nI_leI (a := 2) (b := i) (by omega) (by omega)).mpr q
  omega
theorem e_hearPlaces {K : Nat} {f : Nat → Int32} (hK : 200000 ≤ K) (hr : Rw (f 3)) : Tt (F_X5_hearPlaces K f) (fun g => E3 g f) := by
  unfold F_X5_hearPlaces
  refine tt_nm (tt_nm (tt_bd1 (P := fun g => E3 g f) (tt_for (fun j u => u.1 = nI j ∧ E3 u.2 f) 8 (by omega) ⟨rfl, rfl, rfl, rfl⟩ (fun j u hj hu => ?_)) (fun g hg => tt_some hg)))
  unfold B_X5_hearPlaces_16
  refine tt_bd1 t_sites (fun r hs => tt_ite (fun _ => tt_some (nx_r hu.2)) (fun q => ?_))
  have jl := rw_lt hr (hs.trans hu.2.1) hu.1 hj q
  refine tt_bd1 t_of (fun _ _ => tt_bd1 e_put (fun g1 h1 => tt_bd1 t_of (fun _ _ => tt_bd1 e_put (fun g2 h2 => tt_bd1 e_put (fun g3 h3 => tt_bd1 e_put (fun g4 h4 => tt_bd1 t_of (fun _ _ => tt_nm (tt_bd1 t_of (fun _ _ => tt_nm (tt_some (nx_l jl ⟨nx1 hu.1, ?_⟩)))))))))))
  exact E3.tr (b := g4) ⟨rfl, rfl, rfl⟩ (E3.tr h4 (E3.tr h3 (E3.tr h2 (E3.tr h1 hu.2))))
theorem e_shift {p1 p2 p3 : Int32} {f : Nat → Int32} : Tt (F_X5_shift p1 p2 p3 f) (fun g => E3 g f) := by
  unfold F_X5_shift
  exact tt_bd1 t_of (fun _ _ => tt_bd1 e_put (fun g1 h1 => tt_bd1 t_of (fun _ _ => tt_bd1 e_put (fun g2 h2 => tt_some (E3.tr h2 h1)))))
theorem e_hearAll {K : Nat} {f : Nat → Int32} (hK : 200000 ≤ K) (hr : Rw (f 3)) : Tt (F_X5_hearAll K f) (fun g => E3 g f) := by
  have J : ∀ (k0 : Int32) (w : Nat → Int32), E3 w f → Tt (J_X5_hearAll_41 k0 w) (fun g => E3 g f) := by
    intro k0 w hw
    unfold J_X5_hearAll_41
    exact tt_ite (fun _ => tt_nm (tt_some (E3.tr (b := w) ⟨rfl, rfl, rfl⟩ hw))) (fun _ => tt_nm (tt_nm (tt_some (E3.tr (b := w) ⟨rfl, rfl, rfl⟩ hw))))
  unfold F_X5_hearAll
  refine tt_bd1 (e_hearPlaces hK hr) (fun w hw => tt_nm (tt_bd1 t_allows (fun _ _ => ?_)))
  have hw : E3 w f := hw
  exact tt_ite (fun _ => J _ _ (E3.tr (b := w) ⟨rfl, rfl, rfl⟩ hw)) (fun _ => J _ _ (E3.tr (b := w) ⟨rfl, rfl, rfl⟩ hw))
theorem e_moveSite {K : Nat} {p1 p2 p3 ac oc : Int32} {f pa sh lo : Nat → Int32} (hK : 200000 ≤ K) (hr : Rw (f 3)) : Tt (F_X5_moveSite K p1 p2 p3 f pa ac oc sh lo) (fun x => E3 x.2.1 f) := by
  unfold F_X5_moveSite
  refine tt_bd1 e_shift (fun w hw => tt_bd1 t_isQuiet (fun r _ => ?_))
  have hw' : E3 w f := hw
  have hr' : Rw (upd w 12 (w 12 + 1) 3) := by rw [show upd w 12 (w 12 + 1) 3 = w 3 from rfl, hw'.1]; exact hr
  have hu' : E3 (upd w 12 (w 12 + 1)) f := E3.tr (b := w) ⟨rfl, rfl, rfl⟩ hw'
  refine tt_ite (fun _ => tt_nm ?_) (fun _ => tt_some hw')
  refine tt_bd6 (P := fun x : Nat × Int32 × (Nat → Int32) × Int32 × (Nat → Int32) × (Nat → Int32) => x.1 < 2 ∧ Rw x.2.2.2.1) (tt_for (fun j u => u.2.1 = nI (j + 1) ∧ Rw u.2.2.2.1) 8 (by omega) ⟨rfl, ⟨0, by decide, rfl⟩⟩ (fun j u hj hu => ?_)) (fun t x4 pa' ac' sh' lo' hx => ?_)
  · have J : ∀ k0, j < 8 → Tt (J_X5_moveSite_102_r47 K k0 u.1 u.2.1 (upd w 12 (w 12 + 1)) u.2.2.1 u.2.2.2.1 u.2.2.2.2.1 u.2.2.2.2.2) (Nx (fun j u => u.2.1 = nI (j + 1) ∧ Rw u.2.2.2.1) (fun x : Nat × Int32 × (Nat → Int32) × Int32 × (Nat → Int32) × (Nat → Int32) => x.1 < 2 ∧ Rw x.2.2.2.1) 8 j) := by
      intro k0 jl
      unfold J_X5_moveSite_102_r47
      exact tt_bd1 t_isFrozen (fun _ _ => tt_ite (fun _ => tt_bd2 (t_noteAsked hu.2) (fun c1 a1 h1 => tt_bd3 (t_canShare hK hr') (fun _ _ _ _ => tt_ite (fun _ => tt_some (nx_l jl ⟨nx1 hu.1, h1⟩)) (fun _ => tt_some (nx_r ⟨Nat.zero_lt_succ 1, h1⟩))))) (fun _ => tt_some (nx_l jl ⟨nx1 hu.1, hu.2⟩)))
    unfold B_X5_moveSite_46
    refine tt_ite (fun _ => tt_some (nx_r ⟨Nat.lt_succ_self 1, hu.2⟩)) (fun _ => tt_ite (fun _ => tt_some (nx_r ⟨Nat.lt_succ_self 1, hu.2⟩)) (fun q => ?_))
    have jl : j + 1 < 8 := lt_of_lit (by decide) (by omega) hu.1 q
    exact tt_bd1 t_isAbove (fun _ _ => tt_ite (fun _ => tt_ite (fun _ => J _ (by omega)) (fun _ => J _ (by omega))) (fun _ => tt_some (nx_r ⟨Nat.lt_succ_self 1, hu.2⟩)))
  · have ht : t < 2 := hx.1
    refine tt_ite (fun _ => tt_bd3 (e_balance hK hr') (fun _ g _ hg => tt_some (E3.tr hg hu'))) (fun h0 => tt_ite (fun _ => ?_) (fun h1 => ?_))
    · unfold J_X5_moveSite_153
      exact tt_bd1 (e_hearAll hK hr') (fun g hg => tt_some (E3.tr hg hu'))
    · omega
theorem e_hearByHand {K : Nat} {f : Nat → Int32} (hK : 200000 ≤ K) (hr : Rw (f 3)) : Tt (F_X5_hearByHand K f) (fun x => E3 x.2 f) := by
  unfold F_X5_hearByHand
  exact tt_bd1 (e_hearAll hK hr) (fun g hg => tt_some hg)
theorem e_startCounts {K : Nat} {p1 : Int32} {f : Nat → Int32} (hK : 200000 ≤ K) (hr : Rw (f 3)) : Tt (F_X5_startCounts K p1 f) (fun g => E3 g f) := by
  unfold F_X5_startCounts
  refine tt_nm (tt_nm (tt_nm (tt_nm (tt_bd1 (P := fun g => E3 g f) (tt_for (fun j u => u.1 = nI j ∧ E3 u.2 f) 8 (by omega) ⟨rfl, rfl, rfl, rfl⟩ (fun j u hj hu => ?_)) (fun g hg => tt_some hg)))))
  unfold B_X5_startCounts_33
  exact tt_bd1 t_sites (fun r hs => tt_ite (fun _ => tt_some (nx_r hu.2)) (fun q => tt_bd1 e_put (fun g1 h1 => tt_bd1 e_put (fun g2 h2 => tt_some (nx_l (rw_lt hr (hs.trans hu.2.1) hu.1 hj q) ⟨nx1 hu.1, E3.tr h2 (E3.tr h1 hu.2)⟩)))))
/-- sites and acts as they were, r messages more -/
def E4 (r : Int32) (g f : Nat → Int32) : Prop := g 3 = f 3 ∧ g 16 = f 16 ∧ g 11 = f 11 + r
theorem e_doAct {K : Nat} {p1 p2 p3 p4 ac oc : Int32} {f pa sh lo : Nat → Int32} (hK : 200000 ≤ K) (hr : Rw (f 3)) : Tt (F_X5_doAct K p1 p2 p3 p4 f pa ac oc sh lo) (fun x => E4 x.1 x.2.1 f) := by
  have up : ∀ {w : Nat → Int32} {v : Int32}, E3 w f → E4 v (upd w 11 (w 11 + v)) f := fun {w v} hw => ⟨hw.1, hw.2.1, by rw [upd_at, hw.2.2]⟩
  unfold F_X5_doAct
  refine tt_ite (fun _ => tt_bd7 (e_moveSite hK hr) (fun _ w _ _ _ _ _ hw => tt_nm (tt_some (up hw)))) (fun _ => ?_)
  refine tt_ite (fun _ => tt_bd2 (e_hearByHand hK hr) (fun _ w hw => tt_nm (tt_some (up hw)))) (fun _ => ?_)
  refine tt_ite (fun _ => tt_nm (tt_bd2 (e_hearByHand (f := upd f 1 p2) hK hr) (fun _ w hw => tt_nm (tt_some (up (E3.tr (b := upd f 1 p2) hw ⟨rfl, rfl, rfl⟩)))))) (fun _ => ?_)
  refine tt_ite (fun _ => tt_nm (tt_bd2 (e_hearByHand (f := upd f 0 p2) hK hr) (fun _ w hw => tt_nm (tt_some (up (E3.tr (b := upd f 0 p2) hw ⟨rfl, rfl, rfl⟩)))))) (fun _ => ?_)
  refine tt_ite (fun _ => tt_bd2 (e_addTo hK hr) (fun _ w hw => tt_nm (tt_some (up hw)))) (fun _ => ?_)
  refine tt_ite (fun _ => tt_bd1 (e_startCounts hK hr) (fun w hw => tt_nm (tt_some (up hw)))) (fun _ => ?_)
  exact tt_ite (fun _ => tt_nm (tt_nm (tt_some (up (w := upd f 7 (f 7 ^^^ ((1 : Int32) <<< (p2 &&& (31 : Int32))))) ⟨rfl, rfl, rfl⟩)))) (fun _ => tt_nm (tt_some (up (w := f) ⟨rfl, rfl, rfl⟩)))
