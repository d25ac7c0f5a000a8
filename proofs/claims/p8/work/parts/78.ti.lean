/-! the reference: race, site -/
abbrev LrI (g : Nat → Int32) (j : Nat) (u : Int32 × Int32 × Int32 × (Nat → Int32) × Int32) : Prop := u.2.2.1 = nI j ∧ u.2.2.2.1 84 = g 84
abbrev LrR (g : Nat → Int32) (x : Int32 × (Nat → Int32) × Int32) : Prop := x.2.1 84 = g 84
theorem u_laysRaceB {K n j : Nat} {p1 p2 x3 x4 x5 rc : Int32} {g w : Nat → Int32} (hK : 200000 ≤ K) (h0 : 0 < n) (hn : n ≤ 8) (hj : j ≤ 1600) (hu : x5 = nI j) (hw : w 84 = g 84) : Tt (B_X8_laysRace_22 K p1 p2 (nI n) x3 x4 x5 w rc) (Nx (LrI g) (LrR g) 1600 j) := by
  have em : x5 - x5 / nI n * nI n = nI (j % n) := by rw [hu]; exact nI_mod (by omega) (by omega)
  have ml : j % n < n := Nat.mod_lt _ h0
  unfold B_X8_laysRace_22 J_X8_laysRace_109_r23
  rw [em]
  generalize j % n = m at ml
  have m8 : m < 8 := by omega
  refine tt_ite (fun _ => tt_some (nx_r hw)) (fun q => tt_ite (fun _ => tt_some (nx_r hw)) (fun _ => tt_nz (fun z => ?_) ?_))
  · have := (nI_eq (a := n) (b := 0) (by omega) (by omega)).mp z
    omega
  have jl : j < 1600 := by
    rw [show (200 : Int32) * nI n = nI (200 * n) from nI_mul 200 n] at q
    have : j < 200 * n := lt_of_lit (by omega) (by omega) hu q
    omega
  have J : ∀ k0 y v v', Tt (J_X8_laysRace_110_r23 k0 y x5 (nI m) (upd (upd w (0 + m) v) (8 + m) v') rc) (Nx (LrI g) (LrR g) 1600 j) := by
    intro k0 y v v'
    have e84 : upd (upd w (0 + m) v) (8 + m) v' 84 = g 84 := (upd_no (by omega)).trans ((upd_no (by omega)).trans hw)
    unfold J_X8_laysRace_110_r23
    exact tt_bd1 (u_canStand m8) (fun _ _ => tt_ite (fun _ => tt_some (nx_l jl ⟨nx1 hu, e84⟩)) (fun _ => tt_ite (fun _ => tt_some (nx_l jl ⟨nx1 hu, e84⟩)) (fun _ => tt_some (nx_l jl ⟨nx1 hu, e84⟩))))
  rw [i0, i8, nI_clamp (show 0 + m < 2 ^ 31 by omega), nI_clamp (show 8 + m < 2 ^ 31 by omega)]
  refine tt_bd1 (u_isFrozen m8) (fun _ _ => tt_ite (fun _ => ?_) (fun _ => tt_some (nx_l jl ⟨nx1 hu, hw⟩)))
  refine tt_ixn (by omega) (by decide) (tt_ixn (by omega) (by decide) (tt_nm (tt_ixn (by omega) (by decide) (tt_ixn (by omega) (by decide) (tt_nm ?_)))))
  exact tt_bd1 (u_canStand m8) (fun _ _ => tt_ite (fun _ => J _ _ _ _) (fun _ => tt_bd1 (u_isQuiet m8 hK hn) (fun _ _ => tt_ite (fun _ => J _ _ _ _) (fun _ => J _ _ _ _))))
theorem u_laysRace {K n : Nat} {p1 p2 rc rd : Int32} {g as : Nat → Int32} (hK : 200000 ≤ K) (h0 : 0 < n) (hn : n ≤ 8) : Tt (F_X8_laysRace K p1 p2 g (nI n) as rc rd) (fun x => Kp x.1 g) := by
  unfold F_X8_laysRace
  have s0 : LrI g 0 (1, 0, 0, g, -1) := ⟨rfl, rfl⟩
  refine tt_bd1 (u_putAside hK) (fun w1 h1 => tt_bd3 (P := LrR g) (tt_for (LrI g) 1600 (by omega) s0 (fun j u hj hu => u_laysRaceB hK h0 hn hj hu.1 hu.2)) (fun _ w _ hx => ?_))
  unfold J_X8_laysRace_143
  exact tt_ite (fun _ => tt_bd1 (u_bringBack hK) (fun _ h => tt_some (kp_back h1 hx h))) (fun _ => tt_bd1 (u_bringBack hK) (fun _ h => tt_some (kp_back h1 hx h)))
theorem u_race {K n : Nat} {p1 p2 p3 rc rd : Int32} {g as : Nat → Int32} (hK : 200000 ≤ K) (hn : n ≤ 8) : Tt (F_X8_race K p1 p2 p3 g (nI n) as rc rd) (fun x => Kp x.2.1 g) := by
  unfold F_X8_race
  exact tt_bd1 (u_isWatchN hn) (fun r hr => tt_ite (fun _ => tt_some (Kp.refl g)) (fun r0 => tt_bd1 u_isWay (fun _ _ => tt_ite (fun _ => tt_some (Kp.refl g)) (fun _ => tt_bd1 u_in (fun _ _ => tt_ite (fun _ => tt_some (Kp.refl g)) (fun _ => tt_bd4 (u_laysRace hK (hr r0) hn) (fun _ _ _ _ hx => tt_ite (fun _ => tt_some hx) (fun _ => tt_some hx))))))))
theorem u_site {K n : Nat} {p1 p2 t : Int32} {g : Nat → Int32} (hK : 200000 ≤ K) (hn : n ≤ 8) : Tt (F_X8_site K p1 p2 t g (nI n)) (fun _ => True) := by
  unfold F_X8_site J_X8_site_25
  have J1 : Tt (J_X8_site_26 K p1 p2 (nI n) g 1) (fun _ => True) := by
    unfold J_X8_site_26
    rw [if_pos rfl]
    exact tt_some trivial
  refine tt_bd1 (u_isSite hn) (fun r hr => tt_ite (fun _ => J1) (fun r0 => tt_bd1 (u_inN (lo := 0) (hi := 13) rfl rfl) (fun r2 hr2 => tt_ite (fun _ => J1) (fun r1 => ?_))))
  obtain ⟨i, hi, rfl⟩ := hr r0
  obtain ⟨a, ha, rfl⟩ := in_nat (n := 13) (by decide) (hr2 r1)
  have i7 : i < 8 := by omega
  unfold J_X8_site_26
  rw [i48, i56, i76, show (8 : Int32) * nI a + nI i = nI (8 * a + i) by rw [show (8 : Int32) = nI 8 from rfl, nI_mul, nI_add]]
  refine tt_ite (fun _ => tt_some trivial) (fun _ => tt_ite (fun _ => tt_bd1 (u_driftX i7) (fun _ _ => tt_some trivial)) (fun _ => tt_ite (fun _ => tt_bd1 (u_driftY i7) (fun _ _ => tt_some trivial)) (fun _ => ?_)))
  refine tt_ite (fun _ => tt_bd1 (u_driftX i7) (fun _ _ => tt_bd1 (u_pointX hK hn) (fun _ _ => tt_some trivial))) (fun _ => tt_ite (fun _ => tt_bd1 (u_driftY i7) (fun _ _ => tt_bd1 (u_pointY hK hn) (fun _ _ => tt_some trivial))) (fun _ => ?_))
  refine tt_ite (fun _ => tt_bd1 (u_isQuiet i7 hK hn) (fun _ _ => tt_ite (fun _ => tt_some trivial) (fun _ => tt_some trivial))) (fun _ => tt_ite (fun _ => tt_ixn (by omega) (by decide) (tt_some trivial)) (fun _ => ?_))
  exact tt_ite (fun _ => tt_ixn (by omega) (by decide) (tt_some trivial)) (fun _ => tt_ite (fun _ => tt_ixn (by omega) (by decide) (tt_some trivial)) (fun _ => tt_ixn (by omega) (by decide) (tt_some trivial)))
