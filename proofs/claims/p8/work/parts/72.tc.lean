/-! the reference: additions, goals, one act, its note, its keeping -/
def SgOK (n : Nat) (x : Int32) : Prop := ∃ s, (s < n ∨ s = 0) ∧ x = nI s
def RM (n : Nat) (g' g : Nat → Int32) : Prop := g' 84 = g 84 ∧ SgOK n (g' 75)
theorem Kp.rm {n : Nat} {g' g : Nat → Int32} (h : Kp g' g) (k : SgOK n (g 75)) : RM n g' g := ⟨h.1, by rw [h.2]; exact k⟩
theorem RM.up {n : Nat} {g' g : Nat → Int32} {i : Nat} {v : Int32} (h : RM n g' g) (h1 : ¬ 84 = i) (h2 : ¬ 75 = i) : RM n (upd g' i v) g := ⟨(upd_no h1).trans h.1, by rw [upd_no h2]; exact h.2⟩
abbrev AdI (n i : Nat) (g : Nat → Int32) (k : Nat) (u : Int32 × (Nat → Int32)) : Prop := u.2 84 = g 84 ∧ ∃ s, s < n ∧ u.2 75 = nI s ∧ ((u.2 (56 + i) = 0 ∧ k = 1) ∨ k = n - s + 2)
theorem u_addB {K i n k : Nat} {g w : Nat → Int32} {x3 : Int32} (hi : i < n) (hK : 200000 ≤ K) (hn : n ≤ 8) (hu : AdI n i g k (x3, w)) : Tt (B_X8_addsNow_48 K (nI i) (nI n) x3 w) (Dn (AdI n i g) (fun x : Int32 × (Nat → Int32) => RM n x.2 g) k) := by
  obtain ⟨h1, s, hs, h2, h3⟩ := hu
  have h1 : w 84 = g 84 := h1
  have h2 : w 75 = nI s := h2
  have h3 : (w (56 + i) = 0 ∧ k = 1) ∨ k = n - s + 2 := h3
  have e : RM n w g := ⟨h1, s, Or.inl hs, h2⟩
  unfold B_X8_addsNow_48
  rw [i56, nI_clamp (show 56 + i < 2 ^ 31 by omega)]
  refine tt_bd1 (tt_eq (u_step (by omega) hn)) (fun r e1 => tt_ite (fun _ => tt_some (dn_r e)) (fun q => ?_))
  refine tt_ixn (by omega) (by decide) (tt_bd1 (tt_eq (u_step (by omega) hn)) (fun r' e2 => ?_))
  have er : r = r' := Option.some.inj (Eq.trans (Eq.symm e1) e2)
  refine tt_ite (fun _ => tt_some (dn_r e)) (fun q2 => ?_)
  have hk : k = n - s + 2 := by
    rcases h3 with h3 | h3
    · exfalso
      apply q2
      rw [h3.1, ← er]
      exact lt_not.mpr q
    · exact h3
  refine tt_ixn (by omega) (by decide) (tt_bd1 (u_step (by omega) hn) (fun r3 _ => tt_ixn (by omega) (by decide) (tt_nm (tt_nm ?_))))
  have f75 : upd (upd w (56 + i) (w (56 + i) - r3)) 75 (upd w (56 + i) (w (56 + i) - r3) 75 + 1) 75 = nI (s + 1) := by
    rw [upd_at, upd_no (by omega), h2, nI_1]
  have f84 : upd (upd w (56 + i) (w (56 + i) - r3)) 75 (upd w (56 + i) (w (56 + i) - r3) 75 + 1) 84 = g 84 := by
    rw [upd_no (by decide), upd_no (by omega), h1]
  refine tt_ite (fun c => tt_bd1 (u_endsRound hK hn) (fun w2 hw2 => tt_some (dn_l (k' := 1) (by omega) ⟨hw2.1.trans f84, 0, by omega, hw2.2.1, Or.inl ⟨hw2.2.2 i hi, rfl⟩⟩))) (fun c => tt_some (dn_l (k' := n - (s + 1) + 2) (by omega) ⟨f84, s + 1, ?_, f75, Or.inr rfl⟩))
  rw [f75] at c
  have := mt (nI_eq (a := s + 1) (b := n) (by omega) (by omega)).mpr c
  omega
theorem u_addsNow {i : Nat} {p2 : Int32} {K n : Nat} {g : Nat → Int32} (hi : i < n) (hK : 200000 ≤ K) (hn : n ≤ 8) (hs : SgOK n (g 75)) : Tt (F_X8_addsNow K (nI i) p2 g (nI n)) (fun x => RM n x.2 g) := by
  unfold F_X8_addsNow
  simp only [i48, i56, nI_clamp (show 48 + i < 2 ^ 31 by omega), nI_clamp (show 56 + i < 2 ^ 31 by omega)]
  have k1 : ∀ v, RM n (upd g (48 + i) v) g := fun v => ((Kp.refl g).up (by omega) (by omega)).rm hs
  refine tt_ixn (by omega) (by decide) (tt_ixn (by omega) (by decide) (tt_nm (tt_bd1 (u_step (by omega) hn) (fun r _ => ?_))))
  refine tt_ite (fun _ => tt_nm (tt_some ((k1 _).up (by decide) (by decide)))) (fun _ => tt_ixn (by omega) (by decide) (tt_ixn (by omega) (by decide) (tt_nm ?_)))
  have k2 := (k1 (g (48 + i) + p2)).up (i := 56 + i) (v := upd g (48 + i) (g (48 + i) + p2) (56 + i) + p2) (by omega) (by omega)
  obtain ⟨a1, s, hsn, a2⟩ := k2
  refine tt_bd2 (tt_tot (AdI n i g) (fun k u hu => u_addB hi hK hn hu) K (n - s + 2) _ (by omega) ⟨a1, s, by omega, a2, Or.inr rfl⟩) (fun _ _ hx => tt_some hx)
theorem u_setsGoal {p : Int32} {K n : Nat} {g : Nat → Int32} (hK : 200000 ≤ K) (hn : n ≤ 8) : Tt (F_X8_setsGoal K p g (nI n)) (fun x => RM n x.2 g) := by
  unfold F_X8_setsGoal
  refine tt_nm (tt_bd1 (P := fun x => x 84 = g 84) (tt_for (fun j u => u.1 = nI j ∧ u.2 84 = g 84) 8 (by omega) ⟨rfl, rfl⟩ (fun j u hj hu => ?_)) (fun w hw => tt_nm (tt_nm (tt_nm (tt_some ?_)))))
  · unfold B_X8_setsGoal_18
    refine tt_ite (fun _ => tt_some (nx_r hu.2)) (fun q => ?_)
    have jl := sl hn hj hu.1 q
    rw [hu.1, i48, i56, nI_clamp (show 48 + j < 2 ^ 31 by omega), nI_clamp (show 56 + j < 2 ^ 31 by omega)]
    exact tt_ixn (by omega) (by decide) (tt_nm (tt_ixn (by omega) (by decide) (tt_nm (tt_some (nx_l (by omega) ⟨nx1 rfl, (upd_no (by omega)).trans ((upd_no (by omega)).trans hu.2)⟩)))))
  · show RM n (upd (upd (upd w 73 0) 74 0) 75 0) g
    refine ⟨(upd_no (by decide)).trans ((upd_no (by decide)).trans ((upd_no (by decide)).trans hw)), 0, Or.inr rfl, ?_⟩
    exact upd_at.trans x0
/-- the site of an act is one -/
def SiOK (n : Nat) (p1 p2 : Int32) : Prop := (p1 = 0 ∨ p1 = 4 ∨ p1 = 6) → ∃ i, i < n ∧ p2 = nI i
theorem u_doIt {p1 p2 p3 p4 ad oc tk : Int32} {sx sy ar : Nat → Int32} {K n : Nat} {g : Nat → Int32} (hK : 200000 ≤ K) (hn : n ≤ 8) (hs : SgOK n (g 75)) (ha : Rw ad) (hp : SiOK n p1 p2) : Tt (F_X8_doIt K p1 p2 p3 p4 g (nI n) sx sy ad oc ar tk) (fun x => RM n x.2.1 g ∧ Rw x.2.2.2.2.1) := by
  unfold F_X8_doIt
  refine tt_ite (fun c => ?_) (fun _ => tt_ite (fun _ => tt_bd1 (u_hearsAll hK hn) (fun _ hx => tt_some ⟨Kp.rm hx hs, ha⟩)) (fun _ => ?_))
  · obtain ⟨i, hi, rfl⟩ := hp (Or.inl c)
    exact tt_bd7 (u_movesNow hi hK hn) (fun _ _ _ _ _ _ _ hx => tt_some ⟨hx.1.rm hs, hx.2⟩)
  refine tt_ite (fun _ => tt_bd3 (u_sets65 hK hn) (fun _ _ _ hx => tt_some ⟨Kp.rm hx hs, ha⟩)) (fun _ => tt_ite (fun _ => tt_bd3 (u_sets64 hK hn) (fun _ _ _ hx => tt_some ⟨Kp.rm hx hs, ha⟩)) (fun _ => tt_ite (fun c => ?_) (fun _ => ?_)))
  · obtain ⟨i, hi, rfl⟩ := hp (Or.inr (Or.inl c))
    exact tt_bd2 (u_addsNow hi hK hn hs) (fun _ _ hx => tt_some ⟨hx, ha⟩)
  refine tt_ite (fun _ => tt_bd2 (u_setsGoal hK hn) (fun _ _ hx => tt_some ⟨hx, ha⟩)) (fun _ => tt_ite (fun c => ?_) (fun _ => tt_bd2 (u_setsGoal hK hn) (fun _ _ hx => tt_some ⟨hx, ha⟩)))
  obtain ⟨i, hi, rfl⟩ := hp (Or.inr (Or.inr c))
  rw [i76, nI_clamp (show 76 + i < 2 ^ 31 by omega)]
  exact tt_ixn (by omega) (by decide) (tt_ixn (by omega) (by decide) (tt_nm (tt_ixn (by omega) (by decide) (tt_some ⟨((Kp.refl g).up (by omega) (by omega)).rm hs, ha⟩))))
theorem u_doNow {p1 p2 p3 p4 ad oc tk : Int32} {sx sy ar : Nat → Int32} {K n : Nat} {g : Nat → Int32} (hK : 200000 ≤ K) (hn : n ≤ 8) (hs : SgOK n (g 75)) (ha : Rw ad) (hp : SiOK n p1 p2) : Tt (F_X8_doNow K p1 p2 p3 p4 g (nI n) sx sy ad oc ar tk) (fun x => RM n x.2.1 g ∧ Rw x.2.2.2.2.1) := by
  unfold F_X8_doNow
  exact tt_bd8 (u_doIt hK hn hs ha hp) (fun _ _ _ _ _ _ _ _ hx => tt_nm (tt_some ⟨hx.1.up (by decide) (by decide), hx.2⟩))
/-- what a row must keep: how many acts are noted, which signals came -/
def LgOK (x : Int32) : Prop := ∃ l, l ≤ 60 ∧ x = nI l
theorem i85 {i : Nat} : (85 : Int32) + (3 : Int32) * nI i = nI (85 + 3 * i) := by rw [show (85 : Int32) = nI 85 from rfl, show (3 : Int32) = nI 3 from rfl, nI_mul, nI_add]
theorem u_noteJ {l : Nat} {p1 p2 tk : Int32} {g : Nat → Int32} (hl : l ≤ 59) (e : g 84 = nI l) : Tt (J_X8_note_58 p1 p2 tk g) (fun x => LgOK (x 84) ∧ x 75 = g 75) := by
  unfold J_X8_note_58
  rw [e, i85, show nI (85 + 3 * l) + 1 = nI (85 + 3 * l + 1) from nI_1 _, show nI (85 + 3 * l) + 2 = nI (85 + 3 * l + 2) from nI_add _ 2]
  simp only [nI_clamp (show 85 + 3 * l < 2 ^ 31 by omega), nI_clamp (show 85 + 3 * l + 1 < 2 ^ 31 by omega), nI_clamp (show 85 + 3 * l + 2 < 2 ^ 31 by omega)]
  refine tt_ixn (by omega) (by decide) (tt_nm (tt_ixn (by omega) (by decide) (tt_nm (tt_ixn (by omega) (by decide) (tt_nm (tt_nm (tt_some ⟨⟨l + 1, by omega, ?_⟩, ?_⟩)))))))
  · rw [upd_at, upd_no (by omega), upd_no (by omega), upd_no (by omega), e, nI_1]
  · rw [upd_no (by decide), upd_no (by omega), upd_no (by omega), upd_no (by omega)]
theorem u_note {p1 p2 tk : Int32} {K : Nat} {g : Nat → Int32} (hK : 200000 ≤ K) (hl : LgOK (g 84)) : Tt (F_X8_note K p1 p2 g tk) (fun x => LgOK (x 84) ∧ x 75 = g 75) := by
  unfold F_X8_note
  obtain ⟨l, hl, e⟩ := hl
  refine tt_ite (fun c => ?_) (fun c => u_noteJ (l := l) ?_ e)
  · have l60 : l = 60 := (nI_eq (a := l) (b := 60) (by omega) (by omega)).mp (e.symm.trans c)
    refine tt_bd1 (P := fun x => x 84 = nI 60 ∧ x 75 = g 75) (tt_for (fun j u => u.1 = nI (3 + j) ∧ u.2 84 = nI 60 ∧ u.2 75 = g 75) 177 (by omega) ⟨rfl, by show g 84 = nI 60; rw [e, l60], rfl⟩ (fun j u hj hu => ?_)) (fun w hw => tt_nm (tt_mono (u_noteJ (l := 59) (by decide) ?_) (fun x hx => ⟨hx.1, hx.2.trans ?_⟩)))
    · unfold B_X8_note_14
      refine tt_ite (fun _ => tt_some (nx_r hu.2)) (fun q => ?_)
      have jl : 3 + j < 180 := lt_of_lit (by decide) (by omega) hu.1 q
      have e1 : (85 : Int32) + u.1 = nI (85 + (3 + j)) := by rw [hu.1]; exact nI_add 85 _
      have e2 : (85 : Int32) + u.1 - 3 = nI (85 + j) := by rw [e1, show nI (85 + (3 + j)) - 3 = nI (85 + (3 + j) - 3) from xsub (b := 3) (by omega)]; congr 1; omega
      rw [e2, e1, nI_clamp (show 85 + j < 2 ^ 31 by omega)]
      exact tt_ixn (by omega) (by decide) (tt_ixn (by omega) (by decide) (tt_nm (tt_some (nx_l (by omega) ⟨nx1 hu.1, (upd_no (by omega)).trans hu.2.1, (upd_no (by omega)).trans hu.2.2⟩))))
    · rw [upd_at, hw.1]
      rfl
    · exact (upd_no (by decide)).trans hw.2
  · have := mt (nI_eq (a := l) (b := 60) (by omega) (by omega)).mpr (fun z => c (e.trans z))
    omega
