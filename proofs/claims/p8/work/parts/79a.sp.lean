/-! the reference's spell ends, whatever the places are: forty signs are enough -/
theorem u_spells {k : Nat} {p : Int32} {s : Nat → Int32} (hk : k < 40) : Tt (F_X8_spells p s (nI k)) (fun x => x.2 = nI (k + 1)) := by
  unfold F_X8_spells
  rw [nI_clamp (show k < 2 ^ 31 by omega)]
  exact tt_ixn hk (by decide) (tt_nm (tt_some (nI_1 k)))
theorem p10_mul {j : Nat} : nI (10 ^ j) * 10 = nI (10 ^ (j + 1)) := by
  rw [show (10 : Int32) = nI 10 from rfl, nI_mul, Nat.pow_succ]
theorem p10_nz : ∀ j, j < 10 → ¬ nI (10 ^ j) = 0 := by decide +kernel
theorem p10_pos : ∀ j, j < 10 → ¬ nI (10 ^ j) ≤ 0 := by decide +kernel
theorem p10_div : ∀ j, j < 9 → nI (10 ^ (j + 1)) / 10 = nI (10 ^ j) := by decide +kernel
theorem p10_last (x : Int32) : x / nI (10 ^ 9) ≤ 9 := by
  have h : (nI (10 ^ 9)).toInt = 1000000000 := by decide +kernel
  have h9 : (9 : Int32).toInt = 9 := by decide +kernel
  have a := Int32.toInt_lt x
  have b := Int32.le_toInt x
  have d := Int.mul_tdiv_add_tmod x.toInt 1000000000
  have m1 := Int.tmod_lt_of_pos x.toInt (show (0 : Int) < 1000000000 by decide)
  have m2 := Int.lt_tmod_of_pos x.toInt (show (0 : Int) < 1000000000 by decide)
  rw [Int32.le_iff_toInt_le, Int32.toInt_div, h, h9, Int.bmod_eq_of_le (by omega) (by omega)]
  omega
theorem u_sn1 {K : Nat} {r : Int32} (hK : 200000 ≤ K) : Tt (lpF (fun u9 : Int32 => B_X8_spellsNumber_17 r u9) K (1 : Int32)) (fun x => ∃ j, j < 10 ∧ x = nI (10 ^ j)) := by
  refine tt_for (fun j u => u = nI (10 ^ j)) 9 (by omega) (by decide) (fun j u hj hu => ?_)
  unfold B_X8_spellsNumber_17
  rw [hu]
  refine tt_nz (p10_nz j (by omega)) (tt_ite (fun _ => tt_some (nx_r ⟨j, by omega, rfl⟩)) (fun q => tt_some (nx_l ?_ p10_mul)))
  refine Nat.lt_of_le_of_ne hj (fun e => q ?_)
  rw [e]
  exact p10_last r
theorem u_sn2 {K j k : Nat} {r : Int32} {s : Nat → Int32} (hK : 200000 ≤ K) (hj : j < 10) (hk : k + j + 1 ≤ 40) : Tt (lpF (fun u9 : Int32 × (Nat → Int32) × Int32 => B_X8_spellsNumber_33 r u9.1 u9.2.1 u9.2.2) K (nI (10 ^ j), s, nI k)) (fun x => x.2 = nI (k + j + 1)) := by
  refine tt_for (fun t u => (∀ i, t + i = j → u.1 = nI (10 ^ i)) ∧ (t = j + 1 → u.1 = 0) ∧ u.2.2 = nI (k + t)) (j + 1) (by omega) ⟨fun i hi => by rw [show i = j by omega], fun h => by omega, rfl⟩ (fun t u ht hu => ?_)
  obtain ⟨h1, h2, h3⟩ := hu
  unfold B_X8_spellsNumber_33
  by_cases q : t = j + 1
  · rw [h2 q, if_pos (by decide)]
    exact tt_some (nx_r (by rw [show k + j + 1 = k + t by omega]; exact h3))
  · obtain ⟨i, hi⟩ : ∃ i, t + i = j := ⟨j - t, by omega⟩
    rw [h1 i hi, if_neg (p10_pos i (by omega)), h3]
    refine tt_nz (p10_nz i (by omega)) (tt_bd2 (u_spells (by omega)) (fun a b hb => tt_some (nx_l (by omega) ⟨fun i' hi' => ?_, fun h => ?_, hb⟩)))
    · show nI (10 ^ i) / 10 = nI (10 ^ i')
      rw [show i = i' + 1 by omega]
      exact p10_div i' (by omega)
    · show nI (10 ^ i) / 10 = 0
      rw [show i = 0 by omega]
      decide
theorem u_snJ {K k : Nat} {p : Int32} {s : Nat → Int32} (hK : 200000 ≤ K) (hk : k + 10 ≤ 40) : Tt (J_X8_spellsNumber_10 K p s (nI k)) (fun x => ∃ b, b ≤ k + 10 ∧ x.2 = nI b) := by
  unfold J_X8_spellsNumber_10
  refine tt_bd1 u_above (fun r _ => tt_bd1 (u_sn1 hK) (fun x3 h3 => ?_))
  obtain ⟨j, hj, rfl⟩ := h3
  exact tt_bd2 (u_sn2 hK hj (by omega)) (fun a b hb => tt_some ⟨k + j + 1, by omega, hb⟩)
theorem u_sn {K k : Nat} {p : Int32} {s : Nat → Int32} (hK : 200000 ≤ K) (hk : k + 11 ≤ 40) : Tt (F_X8_spellsNumber K p s (nI k)) (fun x => ∃ b, b ≤ k + 11 ∧ x.2 = nI b) := by
  unfold F_X8_spellsNumber
  refine tt_ite (fun _ => tt_mono (u_snJ hK (by omega)) (fun x hx => hx.elim (fun b h => ⟨b, by omega, h.2⟩))) (fun _ => tt_bd2 (u_spells (by omega)) (fun a b hb => ?_))
  have hb : b = nI (k + 1) := hb
  rw [hb]
  exact tt_mono (u_snJ hK (by omega)) (fun x hx => hx.elim (fun b h => ⟨b, by omega, h.2⟩))
theorem lt8_9 : ∀ i, i < 8 → nI i / 1 ≤ 9 := by decide +kernel
theorem u_sn0 {K k i : Nat} {s : Nat → Int32} (hK : 200000 ≤ K) (hi : i < 8) (hk : k < 40) : Tt (F_X8_spellsNumber K (nI i) s (nI k)) (fun x => x.2 = nI (k + 1)) := by
  have h0 : (0 : Int32) ≤ nI i := by rw [x0]; exact (nI_leI (by omega) (by omega)).mpr (Nat.zero_le _)
  have e1 : lpF (fun u9 : Int32 => B_X8_spellsNumber_17 (nI i) u9) K (1 : Int32) = some 1 := by
    obtain ⟨K', rfl⟩ : ∃ K', K = K' + 1 := ⟨K - 1, by omega⟩
    refine lp_end ?_
    show nzI (1 : Int32) (if nI i / 1 ≤ (9 : Int32) then some (Sum.inr (1 : Int32)) else some (Sum.inl ((1 : Int32) * (10 : Int32)))) = _
    unfold nzI
    rw [if_neg (by decide), if_pos (lt8_9 i hi)]
  unfold F_X8_spellsNumber J_X8_spellsNumber_10 F_X8_above
  rw [if_pos h0, if_pos h0, xb1, e1, xb1]
  exact tt_bd2 (u_sn2 (j := 0) hK (by decide) (by omega)) (fun a b hb => tt_some hb)
theorem u_spellJ {b : Nat} {p2 c : Int32} {s : Nat → Int32} (hb : b ≤ 40) (e : c = nI b) : Tt (J_X8_spell_119 p2 s c) (fun _ => True) := by
  unfold J_X8_spell_119
  refine tt_ite (fun _ => tt_some trivial) (fun _ => tt_bd1 (u_inN (lo := 0) (hi := c - 1) rfl rfl) (fun r hr => tt_ite (fun _ => tt_some trivial) (fun r0 => ?_)))
  have h := hr r0
  rw [e] at h
  obtain ⟨a, ha, rfl⟩ := in_lt (by omega) h
  exact tt_ixn (by omega) (by decide) (tt_some trivial)
theorem u_spell {K n : Nat} {p1 p2 m : Int32} {g s : Nat → Int32} (hK : 200000 ≤ K) (hn : n ≤ 8) : Tt (F_X8_spell K p1 p2 g (nI n) s m) (fun _ => True) := by
  unfold F_X8_spell
  refine tt_bd1 (u_isSite hn) (fun r hr => tt_ite (fun _ => tt_some trivial) (fun r0 => ?_))
  obtain ⟨i, hi, rfl⟩ := hr r0
  rw [i0, i8, nI_clamp (show 0 + i < 2 ^ 31 by omega), nI_clamp (show 8 + i < 2 ^ 31 by omega)]
  refine tt_bd2 (u_spells (k := 0) (by decide)) (fun s1 c1 e1 => ?_)
  obtain rfl : c1 = nI 1 := e1
  refine tt_bd2 (u_spells (by decide)) (fun s2 c2 e2 => ?_)
  obtain rfl : c2 = nI 2 := e2
  refine tt_bd2 (u_spells (by decide)) (fun s3 c3 e3 => ?_)
  obtain rfl : c3 = nI 3 := e3
  refine tt_bd2 (u_spells (by decide)) (fun s4 c4 e4 => ?_)
  obtain rfl : c4 = nI 4 := e4
  refine tt_bd2 (u_spells (by decide)) (fun s5 c5 e5 => ?_)
  obtain rfl : c5 = nI 5 := e5
  refine tt_bd2 (u_sn0 hK (by omega) (by decide)) (fun s6 c6 e6 => ?_)
  obtain rfl : c6 = nI 6 := e6
  refine tt_bd2 (u_spells (by decide)) (fun s7 c7 e7 => ?_)
  obtain rfl : c7 = nI 7 := e7
  refine tt_bd2 (u_spells (by decide)) (fun s8 c8 e8 => ?_)
  obtain rfl : c8 = nI 8 := e8
  refine tt_bd2 (u_spells (by decide)) (fun s9 c9 e9 => ?_)
  obtain rfl : c9 = nI 9 := e9
  refine tt_bd2 (u_spells (by decide)) (fun s10 c10 e10 => ?_)
  obtain rfl : c10 = nI 10 := e10
  refine tt_ixn (by omega) (by decide) (tt_bd2 (u_sn hK (by decide)) (fun s11 c11 e11 => ?_))
  obtain ⟨b, hb, rfl⟩ : ∃ b, b ≤ 21 ∧ c11 = nI b := e11
  refine tt_bd2 (u_spells (by omega)) (fun s12 c12 e12 => ?_)
  obtain rfl : c12 = nI (b + 1) := e12
  refine tt_ixn (by omega) (by decide) (tt_bd2 (u_sn hK (by omega)) (fun s13 c13 e13 => ?_))
  obtain ⟨d, hd, rfl⟩ : ∃ d, d ≤ b + 1 + 11 ∧ c13 = nI d := e13
  refine tt_bd1 (u_isQuiet (by omega) hK hn) (fun r2 _ => tt_ite (fun _ => tt_bd2 (u_spells (by omega)) (fun s14 c14 e14 => u_spellJ (b := d + 1) (by omega) e14)) (fun _ => u_spellJ (b := d) (by omega) rfl))
