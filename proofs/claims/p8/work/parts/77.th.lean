/-! the reference: run, partner, limit, span, site -/
theorem u_run {K n : Nat} {p1 p2 ad oc tk ac c : Int32} {g sx sy ar kept sc lg as : Nat → Int32} (hK : 200000 ≤ K) (hn : n ≤ 8) (hl : SlOK lg c) (hm : MI n g ad kept ac) : Tt (F_X8_run K p1 p2 sc lg c g (nI n) sx sy ad oc ar tk kept ac as) (fun x => MI n x.2.1 x.2.2.2.2.1 x.2.2.2.2.2.2.2.2.1 x.2.2.2.2.2.2.2.2.2.1) := by
  unfold F_X8_run
  refine tt_bd1 (u_isScript hl) (fun r hr => tt_ite (fun _ => tt_some hm) (fun r0 => tt_bd1 u_isWatch (fun _ _ => tt_ite (fun _ => tt_some hm) (fun _ => tt_bd1 u_in (fun _ _ => tt_ite (fun _ => tt_some hm) (fun _ => ?_))))))
  obtain ⟨b, hb, rfl⟩ := hr r0
  refine tt_bd1 (u_putAside hK) (fun w13 h13 => tt_bd10 (u_goSteps hK hn hb hm) (fun _ w16 _ _ w19 _ _ _ w23 w24 hx => tt_bd1 (u_bringBack hK) (fun w26 h26 => ?_)))
  have h16 : MI n w16 w19 w23 w24 := hx
  have m : MI n w26 w19 w23 w24 := ⟨⟨by rw [show w26 84 = w16 84 from h26.2 84 (Nat.le_refl _)]; exact h16.1.1, by rw [show w26 75 = g 75 from (h26.1 75 (by decide)).trans (h13 75 (by decide))]; exact hm.1.2⟩, h16.2⟩
  exact tt_ite (fun _ => tt_some m) (fun _ => tt_ixn (by omega) (by decide) (tt_ite (fun _ => tt_some m) (fun _ => tt_some m)))
theorem u_partnerB {K n i j : Nat} {x4 x5 : Int32} {g sx sy : Nat → Int32} (hK : 200000 ≤ K) (hn : n ≤ 8) (hi : i < n) (hj : j ≤ 8) (hu : x5 = nI j) : Tt (B_X8_partner_48 K (nI i) (nI n) g x4 x5 sx sy) (Nx (fun j (u : Int32 × Int32 × (Nat → Int32) × (Nat → Int32)) => u.2.1 = nI j) (fun _ : Int32 × (Nat → Int32) × (Nat → Int32) => True) 8 j) := by
  unfold B_X8_partner_48
  refine tt_ite (fun _ => tt_some (nx_r trivial)) (fun q => ?_)
  have jl := sl hn hj hu q
  have j8 : j < 8 := by omega
  rw [hu]
  refine tt_ite (fun _ => tt_bd1 (u_isQuiet (by omega) hK hn) (fun _ _ => tt_ite (fun _ => tt_ite (fun _ => tt_ite (fun _ => tt_some (nx_l j8 (nx1 rfl))) (fun _ => ?_)) (fun _ => tt_some (nx_l j8 (nx1 rfl)))) (fun _ => tt_some (nx_r trivial)))) (fun _ => tt_some (nx_r trivial))
  exact tt_bd1 (u_isFrozen j8) (fun _ _ => tt_ite (fun _ => tt_bd3 (u_shares hK hn (Ht.bit i (by omega)).orl) (fun _ _ _ _ => tt_ite (fun _ => tt_some (nx_l j8 (nx1 rfl))) (fun _ => tt_some (nx_l j8 (nx1 rfl))))) (fun _ => tt_some (nx_l j8 (nx1 rfl))))
theorem u_partner {K n : Nat} {p1 p2 p3 : Int32} {g sx sy as : Nat → Int32} (hK : 200000 ≤ K) (hn : n ≤ 8) : Tt (F_X8_partner K p1 p2 p3 g (nI n) sx sy as) (fun x => Kp x.2.1 g) := by
  unfold F_X8_partner
  refine tt_bd1 (u_whyMove hn) (fun r hr => tt_ite (fun c => ?_) (fun _ => tt_some (Kp.refl g)))
  obtain ⟨i, hi, rfl⟩ := hr.2 c
  rw [i0, i8, nI_clamp (show 0 + i < 2 ^ 31 by omega), nI_clamp (show 8 + i < 2 ^ 31 by omega)]
  refine tt_bd1 (u_putAside hK) (fun w4 h4 => tt_ixn (by omega) (by decide) (tt_ixn (by omega) (by decide) (tt_nm (tt_ixn (by omega) (by decide) (tt_ixn (by omega) (by decide) (tt_nm ?_))))))
  refine tt_bd3 (P := fun _ => True) (tt_for (fun j u => u.2.1 = nI j) 8 (by omega) rfl (fun j u hj hu => u_partnerB hK hn hi hj hu)) (fun _ _ _ _ => tt_bd1 (u_bringBack hK) (fun w34 h34 => tt_some (kp_back h4 ?_ h34)))
  rw [upd_no (by omega), upd_no (by omega)]
theorem u_canStand {i : Nat} {g : Nat → Int32} (hi : i < 8) : Tt (F_X8_canStand (nI i) g) (fun _ => True) := by
  unfold F_X8_canStand
  rw [i0, i8]
  exact tt_ixn (by omega) (by decide) (tt_bd1 u_in (fun _ _ => tt_ite (fun _ => tt_some trivial) (fun _ => tt_ixn (by omega) (by decide) (tt_bd1 u_in (fun _ _ => tt_ite (fun _ => tt_some trivial) (fun _ => tt_some trivial))))))
theorem u_limitB {K n i j : Nat} {p2 p3 x4 x5 : Int32} {g w : Nat → Int32} (hK : 200000 ≤ K) (hn : n ≤ 8) (hi : i < n) (hj : j ≤ 201) (hu : x4 + 1 = nI j) (hw : w 84 = g 84) : Tt (B_X8_limit_36 K (nI i) p2 p3 (nI n) x4 x5 w) (Nx (fun j (u : Int32 × Int32 × (Nat → Int32)) => u.1 + 1 = nI j ∧ u.2.2 84 = g 84) (fun x : Int32 × (Nat → Int32) => x.2 84 = g 84) 201 j) := by
  unfold B_X8_limit_36
  refine tt_ite (fun _ => tt_some (nx_r hw)) (fun _ => tt_ite (fun _ => tt_some (nx_r hw)) (fun q => ?_))
  have jl : j < 201 := by
    rcases Nat.eq_zero_or_pos j with h | h
    · omega
    · have e : x4 = nI (j - 1) := by
        have e1 : x4 = nI j - 1 := by rw [← hu]; exact (Int32.add_sub_cancel _ _).symm
        rw [e1]
        exact xsub (b := 1) h
      have : j - 1 < 200 := lt_of_lit (by decide) (by omega) e q
      omega
  rw [i0, i8, nI_clamp (show 0 + i < 2 ^ 31 by omega), nI_clamp (show 8 + i < 2 ^ 31 by omega)]
  refine tt_ixn (by omega) (by decide) (tt_ixn (by omega) (by decide) (tt_nm (tt_ixn (by omega) (by decide) (tt_ixn (by omega) (by decide) (tt_nm ?_)))))
  have e84 : ∀ v v', upd (upd w (0 + i) v) (8 + i) v' 84 = g 84 := fun v v' => (upd_no (by omega)).trans ((upd_no (by omega)).trans hw)
  exact tt_bd1 (u_canStand (by omega)) (fun _ _ => tt_ite (fun _ => tt_some (nx_l jl ⟨nx1 hu, e84 _ _⟩)) (fun _ => tt_bd1 (u_isQuiet (by omega) hK hn) (fun _ _ => tt_ite (fun _ => tt_some (nx_l jl ⟨nx1 hu, e84 _ _⟩)) (fun _ => tt_some (nx_l jl ⟨nx1 hu, e84 _ _⟩)))))
theorem u_limit {K n : Nat} {p1 p2 p3 : Int32} {g as : Nat → Int32} (hK : 200000 ≤ K) (hn : n ≤ 8) : Tt (F_X8_limit K p1 p2 p3 g (nI n) as) (fun x => Kp x.2.1 g) := by
  unfold F_X8_limit
  refine tt_bd1 (u_isSite hn) (fun r hr => tt_ite (fun _ => tt_some (Kp.refl g)) (fun r0 => ?_))
  obtain ⟨i, hi, rfl⟩ := hr r0
  refine tt_bd1 u_isWay (fun _ _ => tt_ite (fun _ => tt_some (Kp.refl g)) (fun _ => tt_bd1 (u_isFrozen (by omega)) (fun _ _ => tt_ite (fun _ => tt_bd1 (u_putAside hK) (fun w13 h13 => ?_)) (fun _ => tt_some (Kp.refl g)))))
  exact tt_bd2 (P := fun x : Int32 × (Nat → Int32) => x.2 84 = g 84) (tt_for (fun j u => u.1 + 1 = nI j ∧ u.2.2 84 = g 84) 201 (by omega) ⟨(show (-1 : Int32) + 1 = nI 0 by decide), rfl⟩ (fun j u hj hu => u_limitB hK hn hi hj hu.1 hu.2)) (fun _ _ hx => tt_bd1 (u_bringBack hK) (fun w34 h34 => tt_some (kp_back h13 hx h34)))
theorem u_spanJ {K n i : Nat} {p2 k0 : Int32} {g : Nat → Int32} (hK : 200000 ≤ K) (hn : n ≤ 8) (hi : i < n) (hk : k0 * k0 = 1) : Tt (J_X8_span_38 K (nI i) p2 (nI n) g k0) (fun _ => True) := by
  unfold J_X8_span_38
  refine tt_bd1 (P := fun _ => True) (tt_for (fun j u => u * k0 = nI j) 200 (by omega) (Int32.zero_mul) (fun j u hj hu => ?_)) (fun _ _ => tt_some trivial)
  unfold B_X8_span_43 J_X8_span_73_r44
  refine tt_ite (fun _ => tt_some (nx_r trivial)) (fun q => ?_)
  have jl : j < 200 := lt_of_lit (by decide) (by omega) hu q
  have nx : (u + k0) * k0 = nI (j + 1) := by rw [Int32.add_mul, hu, hk, nI_1]
  have two : ∀ a b, Tt (bd1 (F_X8_isQuietBy K a b g (nI n)) (fun r => if r = (0 : Int32) then some (.inr u) else some (.inl (u + k0)))) (Nx (fun j u => u * k0 = nI j) (fun _ : Int32 => True) 200 j) := fun a b => tt_bd1 (u_isQuietBy hK hn) (fun _ _ => tt_ite (fun _ => tt_some (nx_r trivial)) (fun _ => tt_some (nx_l jl nx)))
  exact tt_bd1 (u_driftX (by omega)) (fun _ _ => tt_ite (fun _ => tt_bd1 (u_driftY (by omega)) (fun _ _ => tt_ite (fun _ => two _ _) (fun _ => two _ _))) (fun _ => tt_bd1 (u_driftY (by omega)) (fun _ _ => tt_ite (fun _ => two _ _) (fun _ => two _ _))))
theorem u_span {K n : Nat} {p1 p2 p3 : Int32} {g : Nat → Int32} (hK : 200000 ≤ K) (hn : n ≤ 8) : Tt (F_X8_span K p1 p2 p3 g (nI n)) (fun _ => True) := by
  unfold F_X8_span
  refine tt_bd1 (u_isSite hn) (fun r hr => tt_ite (fun _ => tt_some trivial) (fun r0 => ?_))
  obtain ⟨i, hi, rfl⟩ := hr r0
  exact tt_bd1 u_in (fun _ _ => tt_ite (fun _ => tt_some trivial) (fun _ => tt_bd1 (u_isQuiet (by omega) hK hn) (fun _ _ => tt_ite (fun _ => tt_some trivial) (fun _ => tt_ite (fun _ => u_spanJ hK hn hi (by decide)) (fun _ => u_spanJ hK hn hi (by decide))))))
