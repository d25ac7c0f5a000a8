-- 71.tb
section
/-! the reference: its acts end -/
def Dn {σ ρ : Type} (I : Nat → σ → Prop) (R : ρ → Prop) (k : Nat) : σ ⊕ ρ → Prop
  | .inl u => ∃ k', k' < k ∧ I k' u
  | .inr r => R r
theorem dn_l {σ ρ : Type} {I : Nat → σ → Prop} {R : ρ → Prop} {k k' : Nat} {u : σ} (h1 : k' < k) (h2 : I k' u) : Dn I R k (.inl u) := ⟨k', h1, h2⟩
theorem dn_r {σ ρ : Type} {I : Nat → σ → Prop} {R : ρ → Prop} {k : Nat} {r : ρ} (h : R r) : Dn I R k (.inr r) := h
/-- a loop whose measure falls -/
theorem tt_tot {σ ρ : Type} {b : σ → Option (σ ⊕ ρ)} {R : ρ → Prop} (I : Nat → σ → Prop) (h : ∀ k u, I k u → Tt (b u) (Dn I R k)) : ∀ (K k : Nat) (u : σ), k < K → I k u → Tt (lpF b K u) R := by
  intro K
  induction K with
  | zero => intro k u h1; omega
  | succ K ih =>
    intro k u h1 h2
    obtain ⟨x, e, p⟩ := h k u h2
    cases x with
    | inl u' =>
      obtain ⟨k', hk', hI⟩ := p
      rw [lp_one e]
      exact ih k' u' (by omega) hI
    | inr r =>
      rw [lp_end e]
      exact ⟨r, rfl, p⟩
theorem tt_eq {α : Type} {x : Option α} {Q : α → Prop} (h : Tt x Q) : Tt x (fun r => x = some r) := h.elim (fun r z => ⟨r, z.1, z.1⟩)
theorem nI_mod {m n : Nat} (hm : m < 2 ^ 31) (hn : n < 2 ^ 31) : nI m - nI m / nI n * nI n = nI (m % n) := by
  rw [show nI m / nI n = nI (m / n) from (Int32.ofNat_div hm hn).symm, nI_mul, xsub (Nat.div_mul_le_self m n)]
  congr 1
  have := Nat.div_add_mod m n
  rw [Nat.mul_comm] at this
  omega
theorem u_takesShares {p : Int32} {sx sy : Nat → Int32} {K n : Nat} {g : Nat → Int32} (hK : 200000 ≤ K) (hn : n ≤ 8) : Tt (F_X8_takesShares K p g (nI n) sx sy) (fun x => Kp x g) := by
  unfold F_X8_takesShares
  refine tt_bd1 (P := fun x => Kp x g) (tt_for (fun j u => u.1 = nI j ∧ Kp u.2 g) 8 (by omega) ⟨rfl, Kp.refl g⟩ (fun j u hj hu => ?_)) (fun _ hx => tt_some hx)
  unfold B_X8_takesShares_2
  refine tt_ite (fun _ => tt_some (nx_r hu.2)) (fun q => tt_bd1 u_has (fun _ _ => ?_))
  have jl := sl hn hj hu.1 q
  have j8 : j < 8 := by omega
  refine tt_ite (fun _ => tt_some (nx_l j8 ⟨nx1 hu.1, hu.2⟩)) (fun _ => ?_)
  rw [hu.1]
  simp only [i32, i40, nI_clamp (show 32 + j < 2 ^ 31 by omega), nI_clamp (show 40 + j < 2 ^ 31 by omega)]
  exact tt_ixn (by omega) (by decide) (tt_ixn j8 (by decide) (tt_bd1 (u_driftX j8) (fun _ _ => tt_ixn (by omega) (by decide) (tt_nm (tt_ixn (by omega) (by decide) (tt_ixn j8 (by decide) (tt_bd1 (u_driftY j8) (fun _ _ => tt_ixn (by omega) (by decide) (tt_nm (tt_some (nx_l j8 ⟨nx1 rfl, (hu.2.up (by omega) (by omega)).up (by omega) (by omega)⟩)))))))))))
theorem u_hearsAll {K n : Nat} {g : Nat → Int32} (hK : 200000 ≤ K) (hn : n ≤ 8) : Tt (F_X8_hearsAll K g (nI n)) (fun x => Kp x g) := by
  unfold F_X8_hearsAll J_X8_hearsAll_106
  refine tt_bd1 (P := fun x => Kp x g) (tt_for (fun j u => u.1 = nI j ∧ Kp u.2 g) 8 (by omega) ⟨rfl, Kp.refl g⟩ (fun j u hj hu => ?_)) (fun w hw => ?_)
  · unfold B_X8_hearsAll_2
    refine tt_ite (fun _ => tt_some (nx_r hu.2)) (fun q => ?_)
    have jl := sl hn hj hu.1 q
    have j8 : j < 8 := by omega
    rw [hu.1]
    simp only [i0, i8, i16, i24, i32, i40, nI_clamp (show 0 + j < 2 ^ 31 by omega), nI_clamp (show 8 + j < 2 ^ 31 by omega), nI_clamp (show 16 + j < 2 ^ 31 by omega), nI_clamp (show 24 + j < 2 ^ 31 by omega), nI_clamp (show 32 + j < 2 ^ 31 by omega), nI_clamp (show 40 + j < 2 ^ 31 by omega)]
    refine tt_ixn (by omega) (by decide) (tt_ixn (by omega) (by decide) (tt_nm ?_))
    refine tt_ixn (by omega) (by decide) (tt_ixn (by omega) (by decide) (tt_nm ?_))
    refine tt_ixn (by omega) (by decide) (tt_nm ?_)
    refine tt_ixn (by omega) (by decide) (tt_nm (tt_some (nx_l j8 ⟨nx1 rfl, ?_⟩)))
    exact (((hu.2.up (by omega) (by omega)).up (by omega) (by omega)).up (by omega) (by omega)).up (by omega) (by omega)
  · have hw' : Kp w g := hw
    refine tt_nm (tt_bd1 (u_sum16 hK hn) (fun _ _ => tt_bd1 (u_sum24 hK hn) (fun _ _ => tt_bd1 u_isAllowed (fun _ _ => ?_))))
    have a1 := hw'.up (i := 70) (v := w 70 + 1) (by decide) (by decide)
    refine tt_ite (fun _ => tt_ite (fun _ => tt_nm (tt_nm (tt_some ?_))) (fun _ => tt_nm (tt_nm (tt_some ?_)))) (fun _ => tt_ite (fun _ => tt_nm (tt_nm (tt_some ?_))) (fun _ => tt_nm (tt_nm (tt_some ?_))))
    all_goals exact (a1.up (by decide) (by decide)).up (by decide) (by decide)
abbrev SpI (j : Nat) (u : Int32 × Int32 × Int32 × (Nat → Int32) × (Nat → Int32) × Int32 × (Nat → Int32)) : Prop := u.2.2.1 = nI (j + 1) ∧ Ht u.1 ∧ ∃ a, a ≤ j ∧ u.2.2.2.2.2.1 = nI a
abbrev SpR (x : Int32 × Int32 × (Nat → Int32) × (Nat → Int32) × Int32 × (Nat → Int32)) : Prop := Rw x.2.2.2.2.1
theorem spI {j a : Nat} {x2 x3 x4 ad : Int32} {sx sy ar : Nat → Int32} (h1 : x4 = nI (j + 1)) (h2 : Ht x2) (h3 : a ≤ j) (h4 : ad = nI a) : SpI j (x2, x3, x4, sx, sy, ad, ar) := ⟨h1, h2, a, h3, h4⟩
theorem u_speaksB {K i n j : Nat} {g sx sy ar : Nat → Int32} {x2 x3 x4 ad : Int32} (hi : i < n) (hK : 200000 ≤ K) (hn : n ≤ 8) (hj : j ≤ 8) (hu : SpI j (x2, x3, x4, sx, sy, ad, ar)) : Tt (B_X8_speaks_40 K (nI i) (nI n) g x2 x3 x4 sx sy ad ar) (Nx SpI SpR 8 j) := by
  obtain ⟨h1, h2, a, ha, h3⟩ := hu
  have h1 : x4 = nI (j + 1) := h1
  have h3 : ad = nI a := h3
  have h2 : Ht x2 := h2
  have e : SpR (x2, x3, sx, sy, ad, ar) := ⟨a, by omega, h3⟩
  unfold B_X8_speaks_40
  refine tt_ite (fun _ => tt_some (nx_r e)) (fun q => tt_ite (fun _ => tt_ite (fun _ => ?_) (fun _ => tt_some (nx_r e))) (fun _ => tt_some (nx_r e)))
  have jl : j + 1 < n := lt_of_lit (by omega) (by omega) h1 q
  have em : (nI i + x4) - (nI i + x4) / nI n * nI n = nI ((i + (j + 1)) % n) := by rw [h1, nI_add]; exact nI_mod (by omega) (by omega)
  have ml : (i + (j + 1)) % n < n := Nat.mod_lt _ (by omega)
  rw [em]
  generalize (i + (j + 1)) % n = m at ml
  refine tt_nz (fun z => ?_) (tt_bd1 (u_isFrozen (by omega)) (fun _ _ => tt_ite (fun _ => ?_) (fun _ => tt_some (nx_l (by omega) (spI (nx1 h1) h2 (a := a) (by omega) h3)))))
  · have := (nI_eq (a := n) (b := 0) (by omega) (by omega)).mp z
    omega
  · rw [h3]
    refine tt_ixn (by omega) (by decide) (tt_nm (tt_bd3 (u_shares hK hn h2.orl) (fun _ _ _ _ => tt_some (nx_l (by omega) ?_))))
    exact spI (nx1 h1) h2.orl (a := a + 1) (by omega) (nx1 rfl)
theorem u_speaks {i : Nat} {sx sy ar : Nat → Int32} {ad oc : Int32} {K n : Nat} {g : Nat → Int32} (hi : i < n) (hK : 200000 ≤ K) (hn : n ≤ 8) : Tt (F_X8_speaks K (nI i) g (nI n) sx sy ad oc ar) (fun x => Kp x.2.1 g ∧ Rw x.2.2.2.2.1) := by
  unfold F_X8_speaks
  refine tt_bd1 (u_isQuiet (by omega) hK hn) (fun _ _ => tt_ite (fun _ => tt_nm ?_) (fun _ => tt_some ⟨Kp.refl g, ⟨0, by decide, rfl⟩⟩))
  have k1 : Kp (upd g 68 (g 68 + 1)) g := (Kp.refl g).up (by decide) (by decide)
  have s0 : SpI 0 ((1 : Int32) <<< (nI i &&& 31), 0, 1, sx, sy, 0, ar) := spI (a := 0) rfl (Ht.bit i (by omega)) (Nat.le_refl _) rfl
  refine tt_bd6 (P := SpR) (tt_for SpI 8 (by omega) s0 (fun j u hj hu => u_speaksB hi hK hn hj hu)) (fun x2 x3 sx' sy' ad' ar' hx => ?_)
  have hx' : Rw ad' := hx
  unfold J_X8_speaks_123
  exact tt_ite (fun _ => tt_bd1 (u_hearsAll hK hn) (fun w hw => tt_some ⟨Kp.trans hw k1, hx'⟩)) (fun _ => tt_bd1 (u_takesShares hK hn) (fun w hw => tt_nm (tt_some ⟨(Kp.trans hw k1).up (by decide) (by decide), hx'⟩)))
theorem u_movesNow {i : Nat} {p2 p3 : Int32} {sx sy ar : Nat → Int32} {ad oc : Int32} {K n : Nat} {g : Nat → Int32} (hi : i < n) (hK : 200000 ≤ K) (hn : n ≤ 8) : Tt (F_X8_movesNow K (nI i) p2 p3 g (nI n) sx sy ad oc ar) (fun x => Kp x.2.1 g ∧ Rw x.2.2.2.2.1) := by
  unfold F_X8_movesNow
  simp only [i0, i8, nI_clamp (show 0 + i < 2 ^ 31 by omega), nI_clamp (show 8 + i < 2 ^ 31 by omega)]
  refine tt_ixn (by omega) (by decide) (tt_ixn (by omega) (by decide) (tt_nm (tt_ixn (by omega) (by decide) (tt_ixn (by omega) (by decide) (tt_nm (tt_bd7 (u_speaks hi hK hn) (fun _ _ _ _ _ _ _ hx => tt_some ⟨hx.1.trans ?_, hx.2⟩)))))))
  exact ((Kp.refl g).up (by omega) (by omega)).up (by omega) (by omega)
theorem u_sets65 {p2 t : Int32} {K n : Nat} {g : Nat → Int32} (hK : 200000 ≤ K) (hn : n ≤ 8) : Tt (F_X8_setsAnd K 65 p2 g (nI n) t) (fun x => Kp x.2.1 g) := by
  unfold F_X8_setsAnd
  exact tt_ix (nI_in (c := 65) (by decide) (by decide)) (tt_ix (nI_in (c := 65) (by decide) (by decide)) (tt_nm (tt_bd1 (u_hearsAll hK hn) (fun w hw => tt_some (Kp.trans hw ((Kp.refl g).up (by decide) (by decide)))))))
theorem u_sets64 {p2 t : Int32} {K n : Nat} {g : Nat → Int32} (hK : 200000 ≤ K) (hn : n ≤ 8) : Tt (F_X8_setsAnd K 64 p2 g (nI n) t) (fun x => Kp x.2.1 g) := by
  unfold F_X8_setsAnd
  exact tt_ix (nI_in (c := 64) (by decide) (by decide)) (tt_ix (nI_in (c := 64) (by decide) (by decide)) (tt_nm (tt_bd1 (u_hearsAll hK hn) (fun w hw => tt_some (Kp.trans hw ((Kp.refl g).up (by decide) (by decide)))))))
theorem u_step {n : Nat} {g : Nat → Int32} (h0 : 0 < n) (hn : n ≤ 8) : Tt (F_X8_step g (nI n)) (fun _ => True) := by
  unfold F_X8_step
  refine tt_ite (fun _ => tt_some trivial) (fun _ => tt_nz (fun z => ?_) (tt_some trivial))
  have := (nI_eq (a := 2 * n) (b := 0) (by omega) (by omega)).mp ((nI_mul 2 n).symm.trans z)
  omega
theorem u_endsRound {K n : Nat} {g : Nat → Int32} (hK : 200000 ≤ K) (hn : n ≤ 8) : Tt (F_X8_endsRound K g (nI n)) (fun x => x 84 = g 84 ∧ x 75 = 0 ∧ ∀ i, i < n → x (56 + i) = 0) := by
  unfold F_X8_endsRound
  refine tt_bd1 (u_sum48 hK hn) (fun r _ => tt_nm ?_)
  refine tt_bd1 (P := fun x => x 84 = g 84 ∧ ∀ i, i < n → x (56 + i) = 0) (tt_for (fun j u => u.1 = nI j ∧ u.2 84 = g 84 ∧ ∀ i, i < j → u.2 (56 + i) = 0) 8 (by omega) ⟨rfl, rfl, fun i hi => absurd hi (Nat.not_lt_zero _)⟩ (fun j u hj hu => ?_)) (fun w hw => tt_nm (tt_nm (tt_some ⟨?_, ?_, fun i hi => ?_⟩)))
  · unfold B_X8_endsRound_15
    refine tt_ite (fun q => tt_some (nx_r ⟨hu.2.1, fun i hi => hu.2.2 i ?_⟩)) (fun q => ?_)
    · rw [hu.1] at q
      have := (nI_leI (a := n) (b := j) (by omega) (by omega)).mp q
      omega
    · have jl := sl hn hj hu.1 q
      rw [hu.1, i56, nI_clamp (by omega)]
      refine tt_ixn (by omega) (by decide) (tt_nm (tt_some (nx_l (by omega) ⟨nx1 rfl, (upd_no (by omega)).trans hu.2.1, fun i hi => ?_⟩)))
      by_cases e : i = j
      · rw [e]
        exact upd_at
      · exact (upd_no (by omega)).trans (hu.2.2 i (by omega))
  · exact (upd_no (by decide)).trans ((upd_no (by decide)).trans hw.1)
  · exact (upd_no (by decide)).trans upd_at
  · exact (upd_no (by omega)).trans ((upd_no (by omega)).trans (hw.2 i hi))
end
-- 72.tc
section
/-! the reference: additions, goals, one act, its note, its keeping -/
def SgOK (n : Nat) (x : Int32) : Prop := ∃ s, (s < n ∨ s = 0) ∧ x = nI s
def RM (n : Nat) (g' g : Nat → Int32) : Prop := g' 84 = g 84 ∧ SgOK n (g' 75)
theorem Kp.rm {n : Nat} {g' g : Nat → Int32} (h : Kp g' g) (k : SgOK n (g 75)) : RM n g' g := ⟨h.1, by rw [h.2]; exact k⟩
theorem RM.up {n : Nat} {g' g : Nat → Int32} {i : Nat} {v : Int32} (h : RM n g' g) (h1 : ¬ 84 = i) (h2 : ¬ 75 = i) : RM n (upd g' i v) g := ⟨(upd_no h1).trans h.1, by rw [upd_no h2]; exact h.2⟩
abbrev AdI (n i : Nat) (g : Nat → Int32) (k : Nat) (u : Int32 × (Nat → Int32)) : Prop := u.2 84 = g 84 ∧ ∃ s, s < n ∧ u.2 75 = nI s ∧ ((u.2 (56 + i) = 0 ∧ k = 1) ∨ k = n - s + 2)
theorem u_addB {K i n k : Nat} {g w : Nat → Int32} {x3 : Int32} (hi : i < n) (hK : 200000 ≤ K) (hn : n ≤ 8) (hu : AdI n i g k (x3, w)) : Tt (B_X8_addsNow_48 K (nI i) (nI n) x3 w) (Dn (AdI n i g) (fun x : Int32 × (Nat → Int32) => RM n x.2 g) k) := by
  obtain ⟨h1, s, hs, h2, h3⟩ := hu
  have h1 : w 84 = g 84 := h1
  have h2 : w 75 = nI s := h2
  have h3 : (w (56 + i) = 0 ∧ k = 1) ∨ k = n - s + 2 := h3
  have e : RM n w g := ⟨h1, s, Or.inl hs, h2⟩
  unfold B_X8_addsNow_48
  rw [i56, nI_clamp (show 56 + i < 2 ^ 31 by omega)]
  refine tt_bd1 (tt_eq (u_step (by omega) hn)) (fun r e1 => tt_ite (fun _ => tt_some (dn_r e)) (fun q => ?_))
  refine tt_ixn (by omega) (by decide) (tt_bd1 (tt_eq (u_step (by omega) hn)) (fun r' e2 => ?_))
  have er : r = r' := Option.some.inj (Eq.trans (Eq.symm e1) e2)
  refine tt_ite (fun _ => tt_some (dn_r e)) (fun q2 => ?_)
  have hk : k = n - s + 2 := by
    rcases h3 with h3 | h3
    · exfalso
      apply q2
      rw [h3.1, ← er]
      exact lt_not.mpr q
    · exact h3
  refine tt_ixn (by omega) (by decide) (tt_bd1 (u_step (by omega) hn) (fun r3 _ => tt_ixn (by omega) (by decide) (tt_nm (tt_nm ?_))))
  have f75 : upd (upd w (56 + i) (w (56 + i) - r3)) 75 (upd w (56 + i) (w (56 + i) - r3) 75 + 1) 75 = nI (s + 1) := by
    rw [upd_at, upd_no (by omega), h2, nI_1]
  have f84 : upd (upd w (56 + i) (w (56 + i) - r3)) 75 (upd w (56 + i) (w (56 + i) - r3) 75 + 1) 84 = g 84 := by
    rw [upd_no (by decide), upd_no (by omega), h1]
  refine tt_ite (fun c => tt_bd1 (u_endsRound hK hn) (fun w2 hw2 => tt_some (dn_l (k' := 1) (by omega) ⟨hw2.1.trans f84, 0, by omega, hw2.2.1, Or.inl ⟨hw2.2.2 i hi, rfl⟩⟩))) (fun c => tt_some (dn_l (k' := n - (s + 1) + 2) (by omega) ⟨f84, s + 1, ?_, f75, Or.inr rfl⟩))
  rw [f75] at c
  have := mt (nI_eq (a := s + 1) (b := n) (by omega) (by omega)).mpr c
  omega
theorem u_addsNow {i : Nat} {p2 : Int32} {K n : Nat} {g : Nat → Int32} (hi : i < n) (hK : 200000 ≤ K) (hn : n ≤ 8) (hs : SgOK n (g 75)) : Tt (F_X8_addsNow K (nI i) p2 g (nI n)) (fun x => RM n x.2 g) := by
  unfold F_X8_addsNow
  simp only [i48, i56, nI_clamp (show 48 + i < 2 ^ 31 by omega), nI_clamp (show 56 + i < 2 ^ 31 by omega)]
  have k1 : ∀ v, RM n (upd g (48 + i) v) g := fun v => ((Kp.refl g).up (by omega) (by omega)).rm hs
  refine tt_ixn (by omega) (by decide) (tt_ixn (by omega) (by decide) (tt_nm (tt_bd1 (u_step (by omega) hn) (fun r _ => ?_))))
  refine tt_ite (fun _ => tt_nm (tt_some ((k1 _).up (by decide) (by decide)))) (fun _ => tt_ixn (by omega) (by decide) (tt_ixn (by omega) (by decide) (tt_nm ?_)))
  have k2 := (k1 (g (48 + i) + p2)).up (i := 56 + i) (v := upd g (48 + i) (g (48 + i) + p2) (56 + i) + p2) (by omega) (by omega)
  obtain ⟨a1, s, hsn, a2⟩ := k2
  refine tt_bd2 (tt_tot (AdI n i g) (fun k u hu => u_addB hi hK hn hu) K (n - s + 2) _ (by omega) ⟨a1, s, by omega, a2, Or.inr rfl⟩) (fun _ _ hx => tt_some hx)
theorem u_setsGoal {p : Int32} {K n : Nat} {g : Nat → Int32} (hK : 200000 ≤ K) (hn : n ≤ 8) : Tt (F_X8_setsGoal K p g (nI n)) (fun x => RM n x.2 g) := by
  unfold F_X8_setsGoal
  refine tt_nm (tt_bd1 (P := fun x => x 84 = g 84) (tt_for (fun j u => u.1 = nI j ∧ u.2 84 = g 84) 8 (by omega) ⟨rfl, rfl⟩ (fun j u hj hu => ?_)) (fun w hw => tt_nm (tt_nm (tt_nm (tt_some ?_)))))
  · unfold B_X8_setsGoal_18
    refine tt_ite (fun _ => tt_some (nx_r hu.2)) (fun q => ?_)
    have jl := sl hn hj hu.1 q
    rw [hu.1, i48, i56, nI_clamp (show 48 + j < 2 ^ 31 by omega), nI_clamp (show 56 + j < 2 ^ 31 by omega)]
    exact tt_ixn (by omega) (by decide) (tt_nm (tt_ixn (by omega) (by decide) (tt_nm (tt_some (nx_l (by omega) ⟨nx1 rfl, (upd_no (by omega)).trans ((upd_no (by omega)).trans hu.2)⟩)))))
  · show RM n (upd (upd (upd w 73 0) 74 0) 75 0) g
    refine ⟨(upd_no (by decide)).trans ((upd_no (by decide)).trans ((upd_no (by decide)).trans hw)), 0, Or.inr rfl, ?_⟩
    exact upd_at.trans x0
/-- the site of an act is one -/
def SiOK (n : Nat) (p1 p2 : Int32) : Prop := (p1 = 0 ∨ p1 = 4 ∨ p1 = 6) → ∃ i, i < n ∧ p2 = nI i
theorem u_doIt {p1 p2 p3 p4 ad oc tk : Int32} {sx sy ar : Nat → Int32} {K n : Nat} {g : Nat → Int32} (hK : 200000 ≤ K) (hn : n ≤ 8) (hs : SgOK n (g 75)) (ha : Rw ad) (hp : SiOK n p1 p2) : Tt (F_X8_doIt K p1 p2 p3 p4 g (nI n) sx sy ad oc ar tk) (fun x => RM n x.2.1 g ∧ Rw x.2.2.2.2.1) := by
  unfold F_X8_doIt
  refine tt_ite (fun c => ?_) (fun _ => tt_ite (fun _ => tt_bd1 (u_hearsAll hK hn) (fun _ hx => tt_some ⟨Kp.rm hx hs, ha⟩)) (fun _ => ?_))
  · obtain ⟨i, hi, rfl⟩ := hp (Or.inl c)
    exact tt_bd7 (u_movesNow hi hK hn) (fun _ _ _ _ _ _ _ hx => tt_some ⟨hx.1.rm hs, hx.2⟩)
  refine tt_ite (fun _ => tt_bd3 (u_sets65 hK hn) (fun _ _ _ hx => tt_some ⟨Kp.rm hx hs, ha⟩)) (fun _ => tt_ite (fun _ => tt_bd3 (u_sets64 hK hn) (fun _ _ _ hx => tt_some ⟨Kp.rm hx hs, ha⟩)) (fun _ => tt_ite (fun c => ?_) (fun _ => ?_)))
  · obtain ⟨i, hi, rfl⟩ := hp (Or.inr (Or.inl c))
    exact tt_bd2 (u_addsNow hi hK hn hs) (fun _ _ hx => tt_some ⟨hx, ha⟩)
  refine tt_ite (fun _ => tt_bd2 (u_setsGoal hK hn) (fun _ _ hx => tt_some ⟨hx, ha⟩)) (fun _ => tt_ite (fun c => ?_) (fun _ => tt_bd2 (u_setsGoal hK hn) (fun _ _ hx => tt_some ⟨hx, ha⟩)))
  obtain ⟨i, hi, rfl⟩ := hp (Or.inr (Or.inr c))
  rw [i76, nI_clamp (show 76 + i < 2 ^ 31 by omega)]
  exact tt_ixn (by omega) (by decide) (tt_ixn (by omega) (by decide) (tt_nm (tt_ixn (by omega) (by decide) (tt_some ⟨((Kp.refl g).up (by omega) (by omega)).rm hs, ha⟩))))
theorem u_doNow {p1 p2 p3 p4 ad oc tk : Int32} {sx sy ar : Nat → Int32} {K n : Nat} {g : Nat → Int32} (hK : 200000 ≤ K) (hn : n ≤ 8) (hs : SgOK n (g 75)) (ha : Rw ad) (hp : SiOK n p1 p2) : Tt (F_X8_doNow K p1 p2 p3 p4 g (nI n) sx sy ad oc ar tk) (fun x => RM n x.2.1 g ∧ Rw x.2.2.2.2.1) := by
  unfold F_X8_doNow
  exact tt_bd8 (u_doIt hK hn hs ha hp) (fun _ _ _ _ _ _ _ _ hx => tt_nm (tt_some ⟨hx.1.up (by decide) (by decide), hx.2⟩))
/-- what a row must keep: how many acts are noted, which signals came -/
def LgOK (x : Int32) : Prop := ∃ l, l ≤ 60 ∧ x = nI l
theorem i85 {i : Nat} : (85 : Int32) + (3 : Int32) * nI i = nI (85 + 3 * i) := by rw [show (85 : Int32) = nI 85 from rfl, show (3 : Int32) = nI 3 from rfl, nI_mul, nI_add]
theorem u_noteJ {l : Nat} {p1 p2 tk : Int32} {g : Nat → Int32} (hl : l ≤ 59) (e : g 84 = nI l) : Tt (J_X8_note_58 p1 p2 tk g) (fun x => LgOK (x 84) ∧ x 75 = g 75) := by
  unfold J_X8_note_58
  rw [e, i85, show nI (85 + 3 * l) + 1 = nI (85 + 3 * l + 1) from nI_1 _, show nI (85 + 3 * l) + 2 = nI (85 + 3 * l + 2) from nI_add _ 2]
  simp only [nI_clamp (show 85 + 3 * l < 2 ^ 31 by omega), nI_clamp (show 85 + 3 * l + 1 < 2 ^ 31 by omega), nI_clamp (show 85 + 3 * l + 2 < 2 ^ 31 by omega)]
  refine tt_ixn (by omega) (by decide) (tt_nm (tt_ixn (by omega) (by decide) (tt_nm (tt_ixn (by omega) (by decide) (tt_nm (tt_nm (tt_some ⟨⟨l + 1, by omega, ?_⟩, ?_⟩)))))))
  · rw [upd_at, upd_no (by omega), upd_no (by omega), upd_no (by omega), e, nI_1]
  · rw [upd_no (by decide), upd_no (by omega), upd_no (by omega), upd_no (by omega)]
theorem u_note {p1 p2 tk : Int32} {K : Nat} {g : Nat → Int32} (hK : 200000 ≤ K) (hl : LgOK (g 84)) : Tt (F_X8_note K p1 p2 g tk) (fun x => LgOK (x 84) ∧ x 75 = g 75) := by
  unfold F_X8_note
  obtain ⟨l, hl, e⟩ := hl
  refine tt_ite (fun c => ?_) (fun c => u_noteJ (l := l) ?_ e)
  · have l60 : l = 60 := (nI_eq (a := l) (b := 60) (by omega) (by omega)).mp (e.symm.trans c)
    refine tt_bd1 (P := fun x => x 84 = nI 60 ∧ x 75 = g 75) (tt_for (fun j u => u.1 = nI (3 + j) ∧ u.2 84 = nI 60 ∧ u.2 75 = g 75) 177 (by omega) ⟨rfl, by show g 84 = nI 60; rw [e, l60], rfl⟩ (fun j u hj hu => ?_)) (fun w hw => tt_nm (tt_mono (u_noteJ (l := 59) (by decide) ?_) (fun x hx => ⟨hx.1, hx.2.trans ?_⟩)))
    · unfold B_X8_note_14
      refine tt_ite (fun _ => tt_some (nx_r hu.2)) (fun q => ?_)
      have jl : 3 + j < 180 := lt_of_lit (by decide) (by omega) hu.1 q
      have e1 : (85 : Int32) + u.1 = nI (85 + (3 + j)) := by rw [hu.1]; exact nI_add 85 _
      have e2 : (85 : Int32) + u.1 - 3 = nI (85 + j) := by rw [e1, show nI (85 + (3 + j)) - 3 = nI (85 + (3 + j) - 3) from xsub (b := 3) (by omega)]; congr 1; omega
      rw [e2, e1, nI_clamp (show 85 + j < 2 ^ 31 by omega)]
      exact tt_ixn (by omega) (by decide) (tt_ixn (by omega) (by decide) (tt_nm (tt_some (nx_l (by omega) ⟨nx1 hu.1, (upd_no (by omega)).trans hu.2.1, (upd_no (by omega)).trans hu.2.2⟩))))
    · rw [upd_at, hw.1]
      rfl
    · exact (upd_no (by decide)).trans hw.2
  · have := mt (nI_eq (a := l) (b := 60) (by omega) (by omega)).mpr (fun z => c (e.trans z))
    omega
end
-- 73.td
section
/-! the reference: refusals, keeping, the hand -/
theorem u_in {x lo hi : Int64} : Tt (F_X8_in x lo hi) (fun _ => True) := by rw [m_in]; exact tt_some trivial
theorem u_isSite {n : Nat} {p : Int32} (hn : n ≤ 8) : Tt (F_X8_isSite p (nI n)) (fun r => ¬ r = 0 → ∃ i, i < n ∧ p = nI i) := by
  unfold F_X8_isSite
  rw [show (0 : Int64) = (0 : Int32).toInt64 from rfl, m_inI, xb1]
  refine tt_some (fun z => ?_)
  by_cases c : 0 ≤ p ∧ p ≤ nI n - 1
  · have h0 : ¬ p < 0 := fun q => lt_not.mp q c.1
    have n0 : 0 < n := by
      rcases Nat.eq_zero_or_pos n with rfl | h
      · exact absurd (Int32.le_trans c.1 c.2) (by decide)
      · exact h
    refine nnI (by omega) h0 (fun q => ?_)
    have c2 := c.2
    rw [show nI n - 1 = nI (n - 1) from xsub (b := 1) n0] at c2
    have := (nI_leI (a := n) (b := n - 1) (by omega) (by omega)).mp (Int32.le_trans q c2)
    omega
  · rw [if_neg c] at z
    exact absurd rfl z
theorem u_isWatch {p : Int32} : Tt (F_X8_isWatch p) (fun _ => True) := by
  unfold F_X8_isWatch
  exact tt_ite (fun _ => tt_some trivial) (fun _ => tt_some trivial)
theorem u_isReached {g : Nat → Int32} : Tt (F_X8_isReached g) (fun _ => True) := by
  unfold F_X8_isReached
  exact tt_ite (fun _ => tt_some trivial) (fun _ => tt_some trivial)
/-- why not: -1, or one of three reasons; -1 only for a site -/
def R3 (r : Int32) : Prop := r = -1 ∨ ∃ a, a < 3 ∧ r = nI a
def Wy (n : Nat) (p r : Int32) : Prop := R3 r ∧ (r = -1 → ∃ i, i < n ∧ p = nI i)
theorem r30 : R3 0 := Or.inr ⟨0, by decide, rfl⟩
theorem r31 : R3 1 := Or.inr ⟨1, by decide, rfl⟩
theorem r32 : R3 2 := Or.inr ⟨2, by decide, rfl⟩
theorem wy0 {n : Nat} {p : Int32} : Wy n p 0 := ⟨r30, fun z => absurd z (by decide)⟩
theorem wy1 {n : Nat} {p : Int32} : Wy n p 1 := ⟨r31, fun z => absurd z (by decide)⟩
theorem wy2 {n : Nat} {p : Int32} : Wy n p 2 := ⟨r32, fun z => absurd z (by decide)⟩
theorem wym {n i : Nat} (hi : i < n) : Wy n (nI i) (-1) := ⟨Or.inl rfl, fun _ => ⟨i, hi, rfl⟩⟩
theorem u_whyMove {n : Nat} {p1 p2 p3 : Int32} {g : Nat → Int32} (hn : n ≤ 8) : Tt (F_X8_whyMove p1 p2 p3 g (nI n)) (Wy n p1) := by
  unfold F_X8_whyMove J_X8_whyMove_89
  refine tt_bd1 (u_isSite hn) (fun r hr => tt_ite (fun _ => tt_some wy0) (fun r0 => ?_))
  obtain ⟨i, hi, rfl⟩ := hr r0
  have F : Tt (bd1 (F_X8_isFrozen (nI i) g) (fun r => if r = (0 : Int32) then some (-1 : Int32) else some (2 : Int32))) (Wy n (nI i)) := tt_bd1 (u_isFrozen (by omega)) (fun _ _ => tt_ite (fun _ => tt_some (wym hi)) (fun _ => tt_some wy2))
  have J : ∀ k0, Tt (J_X8_whyMove_90 (nI i) p2 p3 g k0) (Wy n (nI i)) := by
    intro k0
    unfold J_X8_whyMove_90
    exact tt_ite (fun _ => tt_some wy1) (fun _ => tt_ite (fun _ => tt_ite (fun _ => tt_some wy2) (fun _ => F)) (fun _ => F))
  rw [i0, i8]
  refine tt_bd1 u_in (fun _ _ => tt_ite (fun _ => J _) (fun _ => tt_bd1 u_in (fun _ _ => tt_ite (fun _ => J _) (fun _ => tt_ixn (by omega) (by decide) ?_))))
  exact tt_bd1 u_in (fun _ _ => tt_ite (fun _ => J _) (fun _ => tt_ixn (by omega) (by decide) (tt_bd1 u_in (fun _ _ => tt_ite (fun _ => J _) (fun _ => J _)))))
theorem u_whySet {p1 p2 p3 p4 s : Int32} : Tt (F_X8_whySet p1 p2 p3 p4 s) R3 := by
  unfold F_X8_whySet
  exact tt_bd1 u_isWatch (fun _ _ => tt_ite (fun _ => tt_some r30) (fun _ => tt_bd1 u_in (fun _ _ => tt_ite (fun _ => tt_some r31) (fun _ => tt_ite (fun _ => tt_some r32) (fun _ => tt_some (Or.inl rfl))))))
theorem u_whyAdd {n : Nat} {p1 p2 : Int32} {g : Nat → Int32} (hn : n ≤ 8) : Tt (F_X8_whyAdd p1 p2 g (nI n)) (Wy n p1) := by
  unfold F_X8_whyAdd
  refine tt_bd1 (u_isSite hn) (fun r hr => tt_ite (fun _ => tt_some wy0) (fun r0 => ?_))
  obtain ⟨i, hi, rfl⟩ := hr r0
  rw [i48]
  exact tt_bd1 u_in (fun _ _ => tt_ite (fun _ => tt_some wy1) (fun _ => tt_ixn (by omega) (by decide) (tt_ite (fun _ => tt_bd1 u_isReached (fun _ _ => tt_ite (fun _ => tt_some (wym hi)) (fun _ => tt_some wy2))) (fun _ => tt_some wy1))))
theorem u_bitsT {K : Nat} {p : Int32} (hK : 200000 ≤ K) : Tt (F_X8_bits K p) (fun _ => True) := by
  unfold F_X8_bits
  refine tt_bd1 (P := fun _ => True) (tt_for (fun j u => u.2 = nI j) 8 (by omega) rfl (fun j u hj hu => ?_)) (fun _ _ => tt_some trivial)
  unfold B_X8_bits_4
  exact tt_ite (fun _ => tt_some (nx_r trivial)) (fun q => tt_some (nx_l (lt_of_lit (by decide) (by omega) hu q) (nx1 hu)))
theorem u_frozenOnes {K n : Nat} {g : Nat → Int32} (hK : 200000 ≤ K) (hn : n ≤ 8) : Tt (F_X8_frozenOnes K g (nI n)) (fun _ => True) := by
  unfold F_X8_frozenOnes
  refine tt_bd1 (P := fun _ => True) (tt_for (fun j u => u.2 = nI j) 8 (by omega) rfl (fun j u hj hu => ?_)) (fun _ _ => tt_some trivial)
  unfold B_X8_frozenOnes_4
  refine tt_ite (fun _ => tt_some (nx_r trivial)) (fun q => ?_)
  have jl := sl hn hj hu q
  rw [hu]
  exact tt_bd1 (u_isFrozen (by omega)) (fun _ _ => tt_ite (fun _ => tt_some (nx_l (by omega) (nx1 rfl))) (fun _ => tt_some (nx_l (by omega) (nx1 rfl))))
theorem u_whyFreeze {K n : Nat} {p1 : Int32} {g : Nat → Int32} (hK : 200000 ≤ K) (hn : n ≤ 8) : Tt (F_X8_whyFreeze K p1 g (nI n)) (Wy n p1) := by
  unfold F_X8_whyFreeze
  refine tt_bd1 (u_isSite hn) (fun r hr => tt_ite (fun _ => tt_some wy0) (fun r0 => ?_))
  obtain ⟨i, hi, rfl⟩ := hr r0
  exact tt_bd1 (u_isFrozen (by omega)) (fun _ _ => tt_ite (fun _ => tt_bd1 (u_frozenOnes hK hn) (fun _ _ => tt_bd1 (u_bitsT hK) (fun _ _ => tt_ite (fun _ => tt_some wy2) (fun _ => tt_some (wym hi))))) (fun _ => tt_some (wym hi)))
def Wn (n : Nat) (p1 p2 r : Int32) : Prop := R3 r ∧ (r = -1 → SiOK n p1 p2)
theorem u_whyNot {K n : Nat} {p1 p2 p3 p4 : Int32} {g : Nat → Int32} (hK : 200000 ≤ K) (hn : n ≤ 8) : Tt (F_X8_whyNot K p1 p2 p3 p4 g (nI n)) (Wn n p1 p2) := by
  unfold F_X8_whyNot
  refine tt_ite (fun c => tt_bd1 (u_whyMove hn) (fun _ h => tt_some ⟨h.1, fun z _ => h.2 z⟩)) (fun c0 => ?_)
  refine tt_ite (fun c => tt_bd1 u_isWatch (fun _ _ => tt_ite (fun _ => tt_some ⟨r30, fun z => absurd z (by decide)⟩) (fun _ => tt_some ⟨Or.inl rfl, fun _ h => ?_⟩))) (fun c1 => ?_)
  · rw [c] at h
    exact absurd h (by decide)
  refine tt_ite (fun c => tt_bd1 u_whySet (fun _ h => tt_some ⟨h, fun _ h => ?_⟩)) (fun c2 => ?_)
  · rw [c] at h
    exact absurd h (by decide)
  refine tt_ite (fun c => tt_bd1 u_whySet (fun _ h => tt_some ⟨h, fun _ h => ?_⟩)) (fun c3 => ?_)
  · rw [c] at h
    exact absurd h (by decide)
  refine tt_ite (fun c => tt_bd1 (u_whyAdd hn) (fun _ h => tt_some ⟨h.1, fun z _ => h.2 z⟩)) (fun c4 => ?_)
  refine tt_ite (fun c => tt_bd1 u_whySet (fun _ h => tt_some ⟨h, fun _ h => ?_⟩)) (fun c5 => ?_)
  · rw [c] at h
    exact absurd h (by decide)
  refine tt_ite (fun c => tt_bd1 (u_whyFreeze hK hn) (fun _ h => tt_some ⟨h.1, fun z _ => h.2 z⟩)) (fun c6 => ?_)
  refine tt_bd1 u_whySet (fun _ h => tt_some ⟨h, fun _ h => ?_⟩)
  rcases h with h | h | h
  · exact absurd h c0
  · exact absurd h c4
  · exact absurd h c6
theorem SgOK.to {n : Nat} {x y : Int32} (h : SgOK n x) (e : y = x) : SgOK n y := by rw [e]; exact h
/-- a row that can be gone on from -/
def RwK (n : Nat) (x84 x75 : Int32) : Prop := LgOK x84 ∧ SgOK n x75
/-- the kept rows -/
def KO (n : Nat) (kept : Nat → Int32) (a : Nat) : Prop := ∀ r, r < a → RwK n (kept (265 * r + 84)) (kept (265 * r + 75))
theorem u_keepJ {K n a : Nat} {g kept : Nat → Int32} (hK : 200000 ≤ K) (ha : a ≤ 39) (hk : KO n kept a) (hg : RwK n (g 84) (g 75)) : Tt (J_X8_keep_52 K g kept (nI a)) (fun x => ∃ b, b ≤ 40 ∧ x.2 = nI b ∧ KO n x.1 b) := by
  unfold J_X8_keep_52
  refine tt_bd1 (P := fun x => (∀ y, y < 265 * a → x y = kept y) ∧ ∀ y, y < 265 → x (265 * a + y) = g y) (tt_for (fun j u => u.1 = nI j ∧ (∀ y, y < 265 * a → u.2 y = kept y) ∧ ∀ y, y < j → u.2 (265 * a + y) = g y) 265 (by omega) ⟨rfl, fun _ _ => rfl, fun y hy => absurd hy (Nat.not_lt_zero _)⟩ (fun j u hj hu => ?_)) (fun w hw => tt_some ⟨a + 1, by omega, nx1 rfl, fun r hr => ?_⟩)
  · unfold B_X8_keep_54
    refine tt_ite (fun q => tt_some (nx_r ⟨hu.2.1, fun y hy => hu.2.2 y ?_⟩)) (fun q => ?_)
    · rw [hu.1] at q
      have := (nI_leI (a := 265) (b := j) (by omega) (by omega)).mp q
      omega
    · have jl : j < 265 := lt_of_lit (by decide) (by omega) hu.1 q
      have e1 : (265 : Int32) * nI a + nI j = nI (265 * a + j) := by rw [show (265 : Int32) = nI 265 from rfl, nI_mul, nI_add]
      rw [hu.1, e1, nI_clamp (show 265 * a + j < 2 ^ 31 by omega), nI_clamp (show j < 2 ^ 31 by omega)]
      refine tt_ixn jl (by decide) (tt_ixn (by omega) (by decide) (tt_nm (tt_some (nx_l jl ⟨nx1 rfl, fun y hy => (upd_no (by omega)).trans (hu.2.1 y hy), fun y hy => ?_⟩))))
      by_cases e : y = j
      · rw [e]
        exact upd_at
      · exact (upd_no (by omega)).trans (hu.2.2 y (by omega))
  · show RwK n (w (265 * r + 84)) (w (265 * r + 75))
    by_cases e : r = a
    · rw [e, hw.2 84 (by decide), hw.2 75 (by decide)]
      exact hg
    · rw [hw.1 _ (by omega), hw.1 _ (by omega)]
      exact hk r (by omega)
theorem u_keep {K n a : Nat} {g kept : Nat → Int32} (hK : 200000 ≤ K) (ha : a ≤ 40) (hk : KO n kept a) (hg : RwK n (g 84) (g 75)) : Tt (F_X8_keep K g kept (nI a)) (fun x => ∃ b, b ≤ 40 ∧ x.2 = nI b ∧ KO n x.1 b) := by
  unfold F_X8_keep
  refine tt_ite (fun c => ?_) (fun c => u_keepJ hK ?_ hk hg)
  · have a40 : a = 40 := (nI_eq (a := a) (b := 40) (by omega) (by omega)).mp c
    refine tt_bd1 (P := fun x => ∀ y, y < 10335 → x y = kept (y + 265)) (tt_for (fun j u => u.1 = nI (265 + j) ∧ (∀ y, y < j → u.2 y = kept (y + 265)) ∧ ∀ y, j ≤ y → u.2 y = kept y) 10335 (by omega) ⟨rfl, fun y hy => absurd hy (Nat.not_lt_zero _), fun _ _ => rfl⟩ (fun j u hj hu => ?_)) (fun w hw => ?_)
    · unfold B_X8_keep_13
      refine tt_ite (fun q => tt_some (nx_r (fun y hy => hu.2.1 y ?_))) (fun q => ?_)
      · rw [hu.1] at q
        have := (nI_leI (a := 10600) (b := 265 + j) (by omega) (by omega)).mp q
        omega
      · have jl : 265 + j < 10600 := lt_of_lit (by decide) (by omega) hu.1 q
        have e1 : nI (265 + j) - 265 = nI j := (xsub (a := 265 + j) (b := 265) (by omega)).trans (congrArg nI (show 265 + j - 265 = j by omega))
        rw [hu.1, e1, nI_clamp (show j < 2 ^ 31 by omega), nI_clamp (show 265 + j < 2 ^ 31 by omega)]
        refine tt_ixn jl (by decide) (tt_ixn (by omega) (by decide) (tt_nm (tt_some (nx_l (by omega) ⟨nx1 rfl, fun y hy => ?_, fun y hy => (upd_no (by omega)).trans (hu.2.2 y (by omega))⟩))))
        by_cases e : y = j
        · rw [e]
          exact upd_at.trans ((hu.2.2 _ (by omega)).trans (by rw [Nat.add_comm]))
        · exact (upd_no (by omega)).trans (hu.2.1 y (by omega))
    · rw [show nI a - 1 = nI (a - 1) from xsub (b := 1) (by omega)]
      refine u_keepJ hK (by omega) (fun r hr => ?_) hg
      rw [hw _ (by omega), hw _ (by omega), show 265 * r + 84 + 265 = 265 * (r + 1) + 84 by omega, show 265 * r + 75 + 265 = 265 * (r + 1) + 75 by omega]
      exact hk (r + 1) (by omega)
  · have := mt (nI_eq (a := a) (b := 40) (by omega) (by omega)).mpr c
    omega
/-- the reference's state between calls, as far as its methods' ends need it -/
def MI (n : Nat) (g : Nat → Int32) (ad : Int32) (kept : Nat → Int32) (ac : Int32) : Prop := RwK n (g 84) (g 75) ∧ Rw ad ∧ ∃ a, a ≤ 40 ∧ ac = nI a ∧ KO n kept a
theorem u_act {K n : Nat} {p1 p2 p3 p4 ad oc tk ac : Int32} {g sx sy ar kept : Nat → Int32} (hK : 200000 ≤ K) (hn : n ≤ 8) (hm : MI n g ad kept ac) (hp : SiOK n p1 p2) : Tt (F_X8_act K p1 p2 p3 p4 g (nI n) sx sy ad oc ar tk kept ac) (fun x => MI n x.2.1 x.2.2.2.2.1 x.2.2.2.2.2.2.2.2.1 x.2.2.2.2.2.2.2.2.2) := by
  obtain ⟨h1, h2, a, ha, rfl, h3⟩ := hm
  unfold F_X8_act
  refine tt_bd2 (u_keep hK ha h3 h1) (fun k' a' hk => tt_bd8 (u_doNow hK hn h1.2 h2 hp) (fun _ w _ _ _ _ _ _ hw => ?_))
  obtain ⟨b, hb, e, hk⟩ := hk
  have e : a' = nI b := e
  have l84 : LgOK (w 84) := by rw [show w 84 = g 84 from hw.1.1]; exact h1.1
  exact tt_ite (fun _ => tt_bd1 (u_note hK l84) (fun _ hx => tt_some ⟨⟨hx.1, SgOK.to hw.1.2 hx.2⟩, hw.2, b, hb, e, hk⟩)) (fun _ => tt_bd1 (u_note hK l84) (fun _ hx => tt_some ⟨⟨hx.1, SgOK.to hw.1.2 hx.2⟩, hw.2, b, hb, e, hk⟩))
theorem u_hand {K n : Nat} {p1 p2 p3 p4 p5 ad oc tk ac : Int32} {g re sx sy ar kept : Nat → Int32} (hK : 200000 ≤ K) (hn : n ≤ 8) (hm : MI n g ad kept ac) : Tt (F_X8_hand K p1 p2 p3 p4 p5 g re (nI n) sx sy ad oc ar tk kept ac) (fun x => MI n x.2.1 x.2.2.2.2.2.1 x.2.2.2.2.2.2.2.2.2.1 x.2.2.2.2.2.2.2.2.2.2) := by
  unfold F_X8_hand
  refine tt_bd1 (u_whyNot hK hn) (fun r hr => tt_ite (fun c => tt_bd10 (u_act hK hn hm (hr.2 c)) (fun _ _ _ _ _ _ _ _ _ _ hx => tt_some hx)) (fun c => ?_))
  rcases hr.1 with z | ⟨a, ha, rfl⟩
  · exact absurd z c
  · exact tt_ixn ha (by decide) (tt_ixn ha (by decide) (tt_nm (tt_some hm)))
end
-- 74.te
section
/-! the reference: its plain readers, the acts of the hand -/
theorem u_inN {p lo hi : Int32} {l h : Int64} (e1 : l = lo.toInt64) (e2 : h = hi.toInt64) : Tt (F_X8_in p.toInt64 l h) (fun r => ¬ r = 0 → lo ≤ p ∧ p ≤ hi) := by
  rw [e1, e2, m_inI]
  refine tt_some (fun z => ?_)
  by_cases c : lo ≤ p ∧ p ≤ hi
  · exact c
  · rw [if_neg c] at z
    exact absurd rfl z
theorem in_nat {p : Int32} {n : Nat} (hn : n < 2 ^ 31 - 1) (h : 0 ≤ p ∧ p ≤ nI n) : ∃ a, a < n + 1 ∧ p = nI a := by
  refine nnI (by omega) (fun q => lt_not.mp q h.1) (fun q => ?_)
  have := (nI_leI (a := n + 1) (b := n) (by omega) (by omega)).mp (Int32.le_trans q h.2)
  omega
theorem u_isWatchN {n : Nat} (hn : n ≤ 8) : Tt (F_X8_isWatch (nI n)) (fun r => ¬ r = 0 → 0 < n) := by
  unfold F_X8_isWatch
  refine tt_ite (fun _ => tt_some (fun z => absurd rfl z)) (fun q => tt_some (fun _ => ?_))
  have := mt (nI_leI (a := n) (b := 0) (by omega) (by omega)).mpr q
  omega
theorem u_sum0 {K n : Nat} {g : Nat → Int32} (hK : 200000 ≤ K) (hn : n ≤ 8) : Tt (F_X8_sum K 0 g (nI n)) (fun _ => True) := by
  exact u_sumN (b := 0) hK hn (by decide)
theorem u_sum8 {K n : Nat} {g : Nat → Int32} (hK : 200000 ≤ K) (hn : n ≤ 8) : Tt (F_X8_sum K 8 g (nI n)) (fun _ => True) := by
  exact u_sumN (b := 8) hK hn (by decide)
theorem u_sum32 {K n : Nat} {g : Nat → Int32} (hK : 200000 ≤ K) (hn : n ≤ 8) : Tt (F_X8_sum K 32 g (nI n)) (fun _ => True) := by
  exact u_sumN (b := 32) hK hn (by decide)
theorem u_sum40 {K n : Nat} {g : Nat → Int32} (hK : 200000 ≤ K) (hn : n ≤ 8) : Tt (F_X8_sum K 40 g (nI n)) (fun _ => True) := by
  exact u_sumN (b := 40) hK hn (by decide)
theorem u_all {p1 : Int32} {K n : Nat} {g : Nat → Int32} (hK : 200000 ≤ K) (hn : n ≤ 8) : Tt (F_X8_all K p1 g (nI n)) (fun _ => True) := by
  unfold F_X8_all
  exact tt_bd1 u_isWatch (fun _ _ => tt_ite (fun _ => tt_some trivial) (fun _ => tt_bd1 u_in (fun _ _ => tt_ite (fun _ => tt_some trivial) (fun _ => tt_ite (fun _ => tt_bd1 (u_sum16 hK hn) (fun _ _ => tt_some trivial)) (fun _ => tt_ite (fun _ => tt_bd1 (u_sum24 hK hn) (fun _ _ => tt_some trivial)) (fun _ => tt_ite (fun _ => tt_bd1 (u_sum0 hK hn) (fun _ _ => tt_some trivial)) (fun _ => tt_ite (fun _ => tt_bd1 (u_sum8 hK hn) (fun _ _ => tt_some trivial)) (fun _ => tt_ite (fun _ => tt_bd1 (u_sum16 hK hn) (fun _ _ => tt_bd1 (u_sum24 hK hn) (fun _ _ => tt_bd1 u_valueOf (fun _ _ => tt_some trivial)))) (fun _ => tt_bd1 (u_sum0 hK hn) (fun _ _ => tt_bd1 (u_sum8 hK hn) (fun _ _ => tt_bd1 u_valueOf (fun _ _ => tt_some trivial))))))))))))
theorem u_count {p1 : Int32} {K n : Nat} {g : Nat → Int32} (hK : 200000 ≤ K) (hn : n ≤ 8) : Tt (F_X8_count K p1 g (nI n)) (fun _ => True) := by
  unfold F_X8_count
  refine tt_bd1 (u_isWatchN hn) (fun r hr => tt_ite (fun _ => tt_some trivial) (fun r0 => ?_))
  have n0 := hr r0
  exact tt_bd1 u_in (fun _ _ => tt_ite (fun _ => tt_some trivial) (fun _ => tt_ite (fun _ => tt_some trivial) (fun _ => tt_ite (fun _ => tt_bd1 (u_step n0 hn) (fun _ _ => tt_some trivial)) (fun _ => tt_ite (fun _ => tt_some trivial) (fun _ => tt_ite (fun _ => tt_some trivial) (fun _ => tt_ite (fun _ => tt_bd1 u_isReached (fun _ _ => tt_ite (fun _ => tt_some trivial) (fun _ => tt_some trivial))) (fun _ => tt_bd1 (u_sum48 hK hn) (fun _ _ => tt_some trivial))))))))
theorem u_pointValue {i : Nat} (hi : i < 8) {K n : Nat} {g : Nat → Int32} (hK : 200000 ≤ K) (hn : n ≤ 8) : Tt (F_X8_pointValue K (nI i) g (nI n)) (fun _ => True) := by
  unfold F_X8_pointValue
  repeat' (first | (with_reducible refine tt_some ?_) | (with_reducible refine tt_nm ?_) | (with_reducible refine tt_ixn ?_ ?_ ?_) | (with_reducible refine tt_ite (fun _ => ?_) (fun _ => ?_)) | (with_reducible refine tt_bd1 (u_above) (fun _ _ => ?_)) | (with_reducible refine tt_bd1 (u_driftX ?_) (fun _ _ => ?_)) | (with_reducible refine tt_bd1 (u_driftY ?_) (fun _ _ => ?_)) | (with_reducible refine tt_bd1 (u_sum16 ?_ ?_) (fun _ _ => ?_)) | (with_reducible refine tt_bd1 (u_sum24 ?_ ?_) (fun _ _ => ?_)) | (with_reducible refine tt_bd1 (u_sum48 ?_ ?_) (fun _ _ => ?_)) | (with_reducible refine tt_bd1 (u_pointX ?_ ?_) (fun _ _ => ?_)) | (with_reducible refine tt_bd1 (u_pointY ?_ ?_) (fun _ _ => ?_)) | (with_reducible refine tt_bd1 (u_valueOf) (fun _ _ => ?_)) | (with_reducible refine tt_bd1 (u_isAllowed) (fun _ _ => ?_)) | (with_reducible refine tt_bd1 (u_isQuietBy ?_ ?_) (fun _ _ => ?_)) | (with_reducible refine tt_bd1 (u_isQuiet ?_ ?_ ?_) (fun _ _ => ?_)) | (with_reducible refine tt_bd1 (u_isFrozen ?_) (fun _ _ => ?_)) | (with_reducible refine tt_bd1 (u_has) (fun _ _ => ?_)) | (with_reducible refine tt_bd1 (u_bits ?_ ?_) (fun _ _ => ?_)) | (with_reducible refine tt_bd3 (u_shares ?_ ?_ ?_) (fun _ _ _ _ => ?_)) | (with_reducible refine tt_bd1 (u_takesShares ?_ ?_) (fun _ _ => ?_)) | (with_reducible refine tt_bd1 (u_hearsAll ?_ ?_) (fun _ _ => ?_)) | (with_reducible refine tt_bd7 (u_speaks ?_ ?_ ?_) (fun _ _ _ _ _ _ _ _ => ?_)) | (with_reducible refine tt_bd7 (u_movesNow ?_ ?_ ?_) (fun _ _ _ _ _ _ _ _ => ?_)) | (with_reducible refine tt_bd3 (u_sets65 ?_ ?_) (fun _ _ _ _ => ?_)) | (with_reducible refine tt_bd3 (u_sets64 ?_ ?_) (fun _ _ _ _ => ?_)) | (with_reducible refine tt_bd1 (u_step ?_ ?_) (fun _ _ => ?_)) | (with_reducible refine tt_bd1 (u_endsRound ?_ ?_) (fun _ _ => ?_)) | (with_reducible refine tt_bd2 (u_addsNow ?_ ?_ ?_ ?_) (fun _ _ _ => ?_)) | (with_reducible refine tt_bd2 (u_setsGoal ?_ ?_) (fun _ _ _ => ?_)) | (with_reducible refine tt_bd8 (u_doIt ?_ ?_ ?_ ?_ ?_) (fun _ _ _ _ _ _ _ _ _ => ?_)) | (with_reducible refine tt_bd8 (u_doNow ?_ ?_ ?_ ?_ ?_) (fun _ _ _ _ _ _ _ _ _ => ?_)) | (with_reducible refine tt_bd1 (u_note ?_ ?_) (fun _ _ => ?_)) | (with_reducible refine tt_bd1 (u_in) (fun _ _ => ?_)) | (with_reducible refine tt_bd1 (u_isWatch) (fun _ _ => ?_)) | (with_reducible refine tt_bd1 (u_isReached) (fun _ _ => ?_)) | (with_reducible refine tt_bd1 (u_frozenOnes ?_ ?_) (fun _ _ => ?_)) | (with_reducible refine tt_bd1 (u_sum0 ?_ ?_) (fun _ _ => ?_)) | (with_reducible refine tt_bd1 (u_sum8 ?_ ?_) (fun _ _ => ?_)) | (with_reducible refine tt_bd1 (u_sum32 ?_ ?_) (fun _ _ => ?_)) | (with_reducible refine tt_bd1 (u_sum40 ?_ ?_) (fun _ _ => ?_)))
  all_goals (first | trivial | assumption | omega | decide | (refine ⟨rfl, rfl⟩))
theorem u_slackOf {i : Nat} {g : Nat → Int32} (hi : i < 8) : Tt (F_X8_slackOf (nI i) g) (fun _ => True) := by
  unfold F_X8_slackOf
  simp only [i32, i40]
  repeat' (first | (with_reducible refine tt_some ?_) | (with_reducible refine tt_nm ?_) | (with_reducible refine tt_ixn ?_ ?_ ?_) | (with_reducible refine tt_ite (fun _ => ?_) (fun _ => ?_)) | (with_reducible refine tt_bd1 (u_above) (fun _ _ => ?_)) | (with_reducible refine tt_bd1 (u_driftX ?_) (fun _ _ => ?_)) | (with_reducible refine tt_bd1 (u_driftY ?_) (fun _ _ => ?_)) | (with_reducible refine tt_bd1 (u_sum16 ?_ ?_) (fun _ _ => ?_)) | (with_reducible refine tt_bd1 (u_sum24 ?_ ?_) (fun _ _ => ?_)) | (with_reducible refine tt_bd1 (u_sum48 ?_ ?_) (fun _ _ => ?_)) | (with_reducible refine tt_bd1 (u_pointX ?_ ?_) (fun _ _ => ?_)) | (with_reducible refine tt_bd1 (u_pointY ?_ ?_) (fun _ _ => ?_)) | (with_reducible refine tt_bd1 (u_valueOf) (fun _ _ => ?_)) | (with_reducible refine tt_bd1 (u_isAllowed) (fun _ _ => ?_)) | (with_reducible refine tt_bd1 (u_isQuietBy ?_ ?_) (fun _ _ => ?_)) | (with_reducible refine tt_bd1 (u_isQuiet ?_ ?_ ?_) (fun _ _ => ?_)) | (with_reducible refine tt_bd1 (u_isFrozen ?_) (fun _ _ => ?_)) | (with_reducible refine tt_bd1 (u_has) (fun _ _ => ?_)) | (with_reducible refine tt_bd1 (u_bits ?_ ?_) (fun _ _ => ?_)) | (with_reducible refine tt_bd3 (u_shares ?_ ?_ ?_) (fun _ _ _ _ => ?_)) | (with_reducible refine tt_bd1 (u_takesShares ?_ ?_) (fun _ _ => ?_)) | (with_reducible refine tt_bd1 (u_hearsAll ?_ ?_) (fun _ _ => ?_)) | (with_reducible refine tt_bd7 (u_speaks ?_ ?_ ?_) (fun _ _ _ _ _ _ _ _ => ?_)) | (with_reducible refine tt_bd7 (u_movesNow ?_ ?_ ?_) (fun _ _ _ _ _ _ _ _ => ?_)) | (with_reducible refine tt_bd3 (u_sets65 ?_ ?_) (fun _ _ _ _ => ?_)) | (with_reducible refine tt_bd3 (u_sets64 ?_ ?_) (fun _ _ _ _ => ?_)) | (with_reducible refine tt_bd1 (u_step ?_ ?_) (fun _ _ => ?_)) | (with_reducible refine tt_bd1 (u_endsRound ?_ ?_) (fun _ _ => ?_)) | (with_reducible refine tt_bd2 (u_addsNow ?_ ?_ ?_ ?_) (fun _ _ _ => ?_)) | (with_reducible refine tt_bd2 (u_setsGoal ?_ ?_) (fun _ _ _ => ?_)) | (with_reducible refine tt_bd8 (u_doIt ?_ ?_ ?_ ?_ ?_) (fun _ _ _ _ _ _ _ _ _ => ?_)) | (with_reducible refine tt_bd8 (u_doNow ?_ ?_ ?_ ?_ ?_) (fun _ _ _ _ _ _ _ _ _ => ?_)) | (with_reducible refine tt_bd1 (u_note ?_ ?_) (fun _ _ => ?_)) | (with_reducible refine tt_bd1 (u_in) (fun _ _ => ?_)) | (with_reducible refine tt_bd1 (u_isWatch) (fun _ _ => ?_)) | (with_reducible refine tt_bd1 (u_isReached) (fun _ _ => ?_)) | (with_reducible refine tt_bd1 (u_frozenOnes ?_ ?_) (fun _ _ => ?_)) | (with_reducible refine tt_bd1 (u_sum0 ?_ ?_) (fun _ _ => ?_)) | (with_reducible refine tt_bd1 (u_sum8 ?_ ?_) (fun _ _ => ?_)) | (with_reducible refine tt_bd1 (u_sum32 ?_ ?_) (fun _ _ => ?_)) | (with_reducible refine tt_bd1 (u_sum40 ?_ ?_) (fun _ _ => ?_)) | (with_reducible refine tt_bd1 (u_pointValue ?_ ?_ ?_) (fun _ _ => ?_)))
  all_goals (first | trivial | assumption | omega | decide | (refine ⟨rfl, rfl⟩))
theorem u_fair {p1 : Int32} {K n : Nat} {g : Nat → Int32} (hK : 200000 ≤ K) (hn : n ≤ 8) : Tt (F_X8_fair K p1 g (nI n)) (fun _ => True) := by
  unfold F_X8_fair
  refine tt_bd1 u_isWatch (fun _ _ => tt_ite (fun _ => tt_some trivial) (fun _ => tt_bd1 u_in (fun _ _ => tt_ite (fun _ => tt_some trivial) (fun _ => ?_))))
  refine tt_bd1 (P := fun _ => True) (tt_for (fun j u => u.2 = nI (j + 1) ∧ ∃ b, b < 8 ∧ u.1 = nI b) 8 (by omega) ⟨rfl, 0, by decide, rfl⟩ (fun j u hj hu => ?_)) (fun _ _ => tt_some trivial)
  obtain ⟨h1, b, hb, h2⟩ := hu
  unfold B_X8_fair_23
  refine tt_ite (fun _ => tt_some (nx_r trivial)) (fun q => ?_)
  have jl : j + 1 < n := lt_of_lit (by omega) (by omega) h1 q
  rw [h1, h2]
  refine tt_ite (fun _ => tt_bd1 (u_pointValue (by omega) hK hn) (fun _ _ => tt_bd1 (u_pointValue hb hK hn) (fun _ _ => tt_ite (fun _ => tt_some (nx_l (by omega) ⟨nx1 rfl, b, hb, rfl⟩)) (fun _ => tt_some (nx_l (by omega) ⟨nx1 rfl, j + 1, by omega, rfl⟩))))) (fun _ => ?_)
  exact tt_bd1 (u_slackOf (by omega)) (fun _ _ => tt_bd1 (u_slackOf hb) (fun _ _ => tt_ite (fun _ => tt_some (nx_l (by omega) ⟨nx1 rfl, b, hb, rfl⟩)) (fun _ => tt_some (nx_l (by omega) ⟨nx1 rfl, j + 1, by omega, rfl⟩))))
theorem u_held {p a b c d : Int32} {g : Nat → Int32} : Tt (F_X8_held p a b g c d) (fun _ => True) := by
  unfold F_X8_held
  repeat' (first | (with_reducible refine tt_some ?_) | (with_reducible refine tt_nm ?_) | (with_reducible refine tt_ixn ?_ ?_ ?_) | (with_reducible refine tt_ite (fun _ => ?_) (fun _ => ?_)) | (with_reducible refine tt_bd1 (u_above) (fun _ _ => ?_)) | (with_reducible refine tt_bd1 (u_driftX ?_) (fun _ _ => ?_)) | (with_reducible refine tt_bd1 (u_driftY ?_) (fun _ _ => ?_)) | (with_reducible refine tt_bd1 (u_sum16 ?_ ?_) (fun _ _ => ?_)) | (with_reducible refine tt_bd1 (u_sum24 ?_ ?_) (fun _ _ => ?_)) | (with_reducible refine tt_bd1 (u_sum48 ?_ ?_) (fun _ _ => ?_)) | (with_reducible refine tt_bd1 (u_pointX ?_ ?_) (fun _ _ => ?_)) | (with_reducible refine tt_bd1 (u_pointY ?_ ?_) (fun _ _ => ?_)) | (with_reducible refine tt_bd1 (u_valueOf) (fun _ _ => ?_)) | (with_reducible refine tt_bd1 (u_isAllowed) (fun _ _ => ?_)) | (with_reducible refine tt_bd1 (u_isQuietBy ?_ ?_) (fun _ _ => ?_)) | (with_reducible refine tt_bd1 (u_isQuiet ?_ ?_ ?_) (fun _ _ => ?_)) | (with_reducible refine tt_bd1 (u_isFrozen ?_) (fun _ _ => ?_)) | (with_reducible refine tt_bd1 (u_has) (fun _ _ => ?_)) | (with_reducible refine tt_bd1 (u_bits ?_ ?_) (fun _ _ => ?_)) | (with_reducible refine tt_bd3 (u_shares ?_ ?_ ?_) (fun _ _ _ _ => ?_)) | (with_reducible refine tt_bd1 (u_takesShares ?_ ?_) (fun _ _ => ?_)) | (with_reducible refine tt_bd1 (u_hearsAll ?_ ?_) (fun _ _ => ?_)) | (with_reducible refine tt_bd7 (u_speaks ?_ ?_ ?_) (fun _ _ _ _ _ _ _ _ => ?_)) | (with_reducible refine tt_bd7 (u_movesNow ?_ ?_ ?_) (fun _ _ _ _ _ _ _ _ => ?_)) | (with_reducible refine tt_bd3 (u_sets65 ?_ ?_) (fun _ _ _ _ => ?_)) | (with_reducible refine tt_bd3 (u_sets64 ?_ ?_) (fun _ _ _ _ => ?_)) | (with_reducible refine tt_bd1 (u_step ?_ ?_) (fun _ _ => ?_)) | (with_reducible refine tt_bd1 (u_endsRound ?_ ?_) (fun _ _ => ?_)) | (with_reducible refine tt_bd2 (u_addsNow ?_ ?_ ?_ ?_) (fun _ _ _ => ?_)) | (with_reducible refine tt_bd2 (u_setsGoal ?_ ?_) (fun _ _ _ => ?_)) | (with_reducible refine tt_bd8 (u_doIt ?_ ?_ ?_ ?_ ?_) (fun _ _ _ _ _ _ _ _ _ => ?_)) | (with_reducible refine tt_bd8 (u_doNow ?_ ?_ ?_ ?_ ?_) (fun _ _ _ _ _ _ _ _ _ => ?_)) | (with_reducible refine tt_bd1 (u_note ?_ ?_) (fun _ _ => ?_)) | (with_reducible refine tt_bd1 (u_in) (fun _ _ => ?_)) | (with_reducible refine tt_bd1 (u_isWatch) (fun _ _ => ?_)) | (with_reducible refine tt_bd1 (u_isReached) (fun _ _ => ?_)) | (with_reducible refine tt_bd1 (u_frozenOnes ?_ ?_) (fun _ _ => ?_)) | (with_reducible refine tt_bd1 (u_sum0 ?_ ?_) (fun _ _ => ?_)) | (with_reducible refine tt_bd1 (u_sum8 ?_ ?_) (fun _ _ => ?_)) | (with_reducible refine tt_bd1 (u_sum32 ?_ ?_) (fun _ _ => ?_)) | (with_reducible refine tt_bd1 (u_sum40 ?_ ?_) (fun _ _ => ?_)) | (with_reducible refine tt_bd1 (u_pointValue ?_ ?_ ?_) (fun _ _ => ?_)) | (with_reducible refine tt_bd1 (u_slackOf ?_) (fun _ _ => ?_)))
  all_goals (first | trivial | assumption | omega | decide | (refine ⟨rfl, rfl⟩))
theorem u_isWay {p q : Int32} : Tt (F_X8_isWay p q) (fun _ => True) := by
  unfold F_X8_isWay
  repeat' (first | (with_reducible refine tt_some ?_) | (with_reducible refine tt_nm ?_) | (with_reducible refine tt_ixn ?_ ?_ ?_) | (with_reducible refine tt_ite (fun _ => ?_) (fun _ => ?_)) | (with_reducible refine tt_bd1 (u_above) (fun _ _ => ?_)) | (with_reducible refine tt_bd1 (u_driftX ?_) (fun _ _ => ?_)) | (with_reducible refine tt_bd1 (u_driftY ?_) (fun _ _ => ?_)) | (with_reducible refine tt_bd1 (u_sum16 ?_ ?_) (fun _ _ => ?_)) | (with_reducible refine tt_bd1 (u_sum24 ?_ ?_) (fun _ _ => ?_)) | (with_reducible refine tt_bd1 (u_sum48 ?_ ?_) (fun _ _ => ?_)) | (with_reducible refine tt_bd1 (u_pointX ?_ ?_) (fun _ _ => ?_)) | (with_reducible refine tt_bd1 (u_pointY ?_ ?_) (fun _ _ => ?_)) | (with_reducible refine tt_bd1 (u_valueOf) (fun _ _ => ?_)) | (with_reducible refine tt_bd1 (u_isAllowed) (fun _ _ => ?_)) | (with_reducible refine tt_bd1 (u_isQuietBy ?_ ?_) (fun _ _ => ?_)) | (with_reducible refine tt_bd1 (u_isQuiet ?_ ?_ ?_) (fun _ _ => ?_)) | (with_reducible refine tt_bd1 (u_isFrozen ?_) (fun _ _ => ?_)) | (with_reducible refine tt_bd1 (u_has) (fun _ _ => ?_)) | (with_reducible refine tt_bd1 (u_bits ?_ ?_) (fun _ _ => ?_)) | (with_reducible refine tt_bd3 (u_shares ?_ ?_ ?_) (fun _ _ _ _ => ?_)) | (with_reducible refine tt_bd1 (u_takesShares ?_ ?_) (fun _ _ => ?_)) | (with_reducible refine tt_bd1 (u_hearsAll ?_ ?_) (fun _ _ => ?_)) | (with_reducible refine tt_bd7 (u_speaks ?_ ?_ ?_) (fun _ _ _ _ _ _ _ _ => ?_)) | (with_reducible refine tt_bd7 (u_movesNow ?_ ?_ ?_) (fun _ _ _ _ _ _ _ _ => ?_)) | (with_reducible refine tt_bd3 (u_sets65 ?_ ?_) (fun _ _ _ _ => ?_)) | (with_reducible refine tt_bd3 (u_sets64 ?_ ?_) (fun _ _ _ _ => ?_)) | (with_reducible refine tt_bd1 (u_step ?_ ?_) (fun _ _ => ?_)) | (with_reducible refine tt_bd1 (u_endsRound ?_ ?_) (fun _ _ => ?_)) | (with_reducible refine tt_bd2 (u_addsNow ?_ ?_ ?_ ?_) (fun _ _ _ => ?_)) | (with_reducible refine tt_bd2 (u_setsGoal ?_ ?_) (fun _ _ _ => ?_)) | (with_reducible refine tt_bd8 (u_doIt ?_ ?_ ?_ ?_ ?_) (fun _ _ _ _ _ _ _ _ _ => ?_)) | (with_reducible refine tt_bd8 (u_doNow ?_ ?_ ?_ ?_ ?_) (fun _ _ _ _ _ _ _ _ _ => ?_)) | (with_reducible refine tt_bd1 (u_note ?_ ?_) (fun _ _ => ?_)) | (with_reducible refine tt_bd1 (u_in) (fun _ _ => ?_)) | (with_reducible refine tt_bd1 (u_isWatch) (fun _ _ => ?_)) | (with_reducible refine tt_bd1 (u_isReached) (fun _ _ => ?_)) | (with_reducible refine tt_bd1 (u_frozenOnes ?_ ?_) (fun _ _ => ?_)) | (with_reducible refine tt_bd1 (u_sum0 ?_ ?_) (fun _ _ => ?_)) | (with_reducible refine tt_bd1 (u_sum8 ?_ ?_) (fun _ _ => ?_)) | (with_reducible refine tt_bd1 (u_sum32 ?_ ?_) (fun _ _ => ?_)) | (with_reducible refine tt_bd1 (u_sum40 ?_ ?_) (fun _ _ => ?_)) | (with_reducible refine tt_bd1 (u_pointValue ?_ ?_ ?_) (fun _ _ => ?_)) | (with_reducible refine tt_bd1 (u_slackOf ?_) (fun _ _ => ?_)))
  all_goals (first | trivial | assumption | omega | decide | (refine ⟨rfl, rfl⟩))
theorem u_quietOnes {K n : Nat} {g : Nat → Int32} (hK : 200000 ≤ K) (hn : n ≤ 8) : Tt (F_X8_quietOnes K g (nI n)) (fun _ => True) := by
  unfold F_X8_quietOnes
  refine tt_bd1 (P := fun _ => True) (tt_for (fun j u => u.2 = nI j) 8 (by omega) rfl (fun j u hj hu => ?_)) (fun _ _ => tt_some trivial)
  unfold B_X8_quietOnes_4
  refine tt_ite (fun _ => tt_some (nx_r trivial)) (fun q => ?_)
  have jl := sl hn hj hu q
  rw [hu]
  exact tt_bd1 (u_isQuiet (by omega) hK hn) (fun _ _ => tt_ite (fun _ => tt_some (nx_l (by omega) (nx1 rfl))) (fun _ => tt_some (nx_l (by omega) (nx1 rfl))))
theorem u_slackOnes {K n : Nat} {g : Nat → Int32} (hK : 200000 ≤ K) (hn : n ≤ 8) : Tt (F_X8_slackOnes K g (nI n)) (fun _ => True) := by
  unfold F_X8_slackOnes
  refine tt_bd1 (P := fun _ => True) (tt_for (fun j u => u.2 = nI j) 8 (by omega) rfl (fun j u hj hu => ?_)) (fun _ _ => tt_some trivial)
  unfold B_X8_slackOnes_4
  refine tt_ite (fun _ => tt_some (nx_r trivial)) (fun q => ?_)
  have jl := sl hn hj hu q
  rw [hu]
  exact tt_bd1 (u_slackOf (by omega)) (fun _ _ => tt_ite (fun _ => tt_some (nx_l (by omega) (nx1 rfl))) (fun _ => tt_some (nx_l (by omega) (nx1 rfl))))
theorem u_stillOnes {K n : Nat} {g : Nat → Int32} (hK : 200000 ≤ K) (hn : n ≤ 8) : Tt (F_X8_stillOnes K g (nI n)) (fun _ => True) := by
  unfold F_X8_stillOnes
  refine tt_bd1 (P := fun _ => True) (tt_for (fun j u => u.2 = nI j) 8 (by omega) rfl (fun j u hj hu => ?_)) (fun _ _ => tt_some trivial)
  unfold B_X8_stillOnes_4
  refine tt_ite (fun _ => tt_some (nx_r trivial)) (fun q => ?_)
  have jl := sl hn hj hu q
  rw [hu]
  simp only [i0, i8, i16, i24]
  exact tt_ixn (by omega) (by decide) (tt_ixn (by omega) (by decide) (tt_ite (fun _ => tt_ixn (by omega) (by decide) (tt_ixn (by omega) (by decide) (tt_ite (fun _ => tt_some (nx_l (by omega) (nx1 rfl))) (fun _ => tt_some (nx_l (by omega) (nx1 rfl)))))) (fun _ => tt_some (nx_l (by omega) (nx1 rfl)))))
theorem u_most {p1 : Int32} {K n : Nat} {g : Nat → Int32} (hK : 200000 ≤ K) (hn : n ≤ 8) : Tt (F_X8_most K p1 g (nI n)) (fun _ => True) := by
  unfold F_X8_most
  refine tt_bd1 u_isWatch (fun _ _ => tt_ite (fun _ => tt_some trivial) (fun _ => tt_bd1 (u_inN (lo := 0) (hi := 11) rfl rfl) (fun r hr => tt_ite (fun _ => tt_some trivial) (fun r0 => ?_))))
  obtain ⟨a, ha, rfl⟩ := in_nat (n := 11) (by decide) (hr r0)
  rw [show (67 : Int32) + nI a = nI (67 + a) from nI_add 67 a]
  exact tt_ite (fun _ => tt_bd1 (u_quietOnes hK hn) (fun _ _ => tt_some trivial)) (fun _ => tt_ite (fun _ => tt_bd1 (u_slackOnes hK hn) (fun _ _ => tt_some trivial)) (fun _ => tt_ite (fun _ => tt_bd1 (u_sum32 hK hn) (fun _ _ => tt_some trivial)) (fun _ => tt_ite (fun _ => tt_bd1 (u_sum40 hK hn) (fun _ _ => tt_some trivial)) (fun _ => tt_ite (fun _ => tt_bd1 (u_stillOnes hK hn) (fun _ _ => tt_some trivial)) (fun _ => tt_ite (fun _ => tt_bd1 (u_frozenOnes hK hn) (fun _ _ => tt_some trivial)) (fun _ => tt_ixn (by omega) (by decide) (tt_some trivial)))))))
theorem u_value {p1 p2 : Int32} {n : Nat} {g : Nat → Int32} : Tt (F_X8_value p1 p2 g (nI n)) (fun _ => True) := by
  unfold F_X8_value
  exact tt_bd1 u_isWatch (fun _ _ => tt_ite (fun _ => tt_some trivial) (fun _ => tt_bd1 u_in (fun _ _ => tt_ite (fun _ => tt_some trivial) (fun _ => tt_bd1 u_in (fun _ _ => tt_ite (fun _ => tt_some trivial) (fun _ => tt_bd1 u_valueOf (fun _ _ => tt_some trivial)))))))
theorem u_tells {p1 p2 : Int32} {n : Nat} {g : Nat → Int32} : Tt (F_X8_tells p1 p2 g (nI n)) (fun _ => True) := by
  unfold F_X8_tells
  exact tt_bd1 u_isWatch (fun _ _ => tt_ite (fun _ => tt_some trivial) (fun _ => tt_bd1 u_in (fun _ _ => tt_ite (fun _ => tt_some trivial) (fun _ => tt_bd1 u_in (fun _ _ => tt_ite (fun _ => tt_some trivial) (fun _ => tt_bd1 u_isAllowed (fun _ _ => tt_ite (fun _ => tt_some trivial) (fun _ => tt_some trivial))))))))
theorem u_needs {p1 p2 p3 : Int32} {K n : Nat} {g : Nat → Int32} (hK : 200000 ≤ K) (hn : n ≤ 8) : Tt (F_X8_needs K p1 p2 p3 g (nI n)) (fun _ => True) := by
  unfold F_X8_needs
  refine tt_bd1 (u_whyMove hn) (fun r hr => tt_ite (fun c => ?_) (fun _ => tt_some trivial))
  obtain ⟨i, hi, rfl⟩ := hr.2 c
  exact tt_bd1 (u_driftX (by omega)) (fun _ _ => tt_bd1 (u_pointX hK hn) (fun _ _ => tt_bd1 (u_driftY (by omega)) (fun _ _ => tt_bd1 (u_pointY hK hn) (fun _ _ => tt_bd1 u_valueOf (fun _ _ => tt_some trivial)))))
theorem u_rule {p1 : Int32} {n : Nat} {g : Nat → Int32} : Tt (F_X8_rule p1 g (nI n)) (fun _ => True) := by
  unfold F_X8_rule
  refine tt_bd1 u_isWatch (fun _ _ => tt_ite (fun _ => tt_some trivial) (fun _ => tt_bd1 (u_inN (lo := 0) (hi := 3) rfl rfl) (fun r hr => tt_ite (fun _ => tt_some trivial) (fun r0 => tt_ite (fun _ => tt_some trivial) (fun _ => ?_)))))
  obtain ⟨a, ha, rfl⟩ := in_nat (n := 3) (by decide) (hr r0)
  rw [show (64 : Int32) + nI a = nI (64 + a) from nI_add 64 a]
  exact tt_ixn (by omega) (by decide) (tt_some trivial)
theorem u_status {p1 : Int32} {re : Nat → Int32} : Tt (F_X8_status p1 re) (fun _ => True) := by
  unfold F_X8_status
  refine tt_bd1 (u_inN (lo := 0) (hi := 2) rfl rfl) (fun r hr => tt_ite (fun _ => tt_some trivial) (fun r0 => ?_))
  obtain ⟨a, ha, rfl⟩ := in_nat (n := 2) (by decide) (hr r0)
  exact tt_ixn (by omega) (by decide) (tt_some trivial)
theorem u_add {K n : Nat} {p1 p2 : Int32} {ad oc tk ac : Int32} {g re sx sy ar kept : Nat → Int32} (hK : 200000 ≤ K) (hn : n ≤ 8) (hm : MI n g ad kept ac) : Tt (F_X8_add K p1 p2 g re (nI n) sx sy ad oc ar tk kept ac) (fun x => MI n x.2.1 x.2.2.2.2.2.1 x.2.2.2.2.2.2.2.2.2.1 x.2.2.2.2.2.2.2.2.2.2) := by
  unfold F_X8_add
  exact tt_bd11 (u_hand hK hn hm) (fun _ _ _ _ _ _ _ _ _ _ _ hx => tt_some hx)
theorem u_bound {K n : Nat} {p1 : Int32} {ad oc tk ac : Int32} {g re sx sy ar kept : Nat → Int32} (hK : 200000 ≤ K) (hn : n ≤ 8) (hm : MI n g ad kept ac) : Tt (F_X8_bound K p1 g re (nI n) sx sy ad oc ar tk kept ac) (fun x => MI n x.2.1 x.2.2.2.2.2.1 x.2.2.2.2.2.2.2.2.2.1 x.2.2.2.2.2.2.2.2.2.2) := by
  unfold F_X8_bound
  exact tt_bd11 (u_hand hK hn hm) (fun _ _ _ _ _ _ _ _ _ _ _ hx => tt_some hx)
theorem u_freeze {K n : Nat} {p1 : Int32} {ad oc tk ac : Int32} {g re sx sy ar kept : Nat → Int32} (hK : 200000 ≤ K) (hn : n ≤ 8) (hm : MI n g ad kept ac) : Tt (F_X8_freeze K p1 g re (nI n) sx sy ad oc ar tk kept ac) (fun x => MI n x.2.1 x.2.2.2.2.2.1 x.2.2.2.2.2.2.2.2.2.1 x.2.2.2.2.2.2.2.2.2.2) := by
  unfold F_X8_freeze
  exact tt_bd11 (u_hand hK hn hm) (fun _ _ _ _ _ _ _ _ _ _ _ hx => tt_some hx)
theorem u_goal {K n : Nat} {p1 : Int32} {ad oc tk ac : Int32} {g re sx sy ar kept : Nat → Int32} (hK : 200000 ≤ K) (hn : n ≤ 8) (hm : MI n g ad kept ac) : Tt (F_X8_goal K p1 g re (nI n) sx sy ad oc ar tk kept ac) (fun x => MI n x.2.1 x.2.2.2.2.2.1 x.2.2.2.2.2.2.2.2.2.1 x.2.2.2.2.2.2.2.2.2.2) := by
  unfold F_X8_goal
  exact tt_bd11 (u_hand hK hn hm) (fun _ _ _ _ _ _ _ _ _ _ _ hx => tt_some hx)
theorem u_law {K n : Nat} {p1 : Int32} {ad oc tk ac : Int32} {g re sx sy ar kept : Nat → Int32} (hK : 200000 ≤ K) (hn : n ≤ 8) (hm : MI n g ad kept ac) : Tt (F_X8_law K p1 g re (nI n) sx sy ad oc ar tk kept ac) (fun x => MI n x.2.1 x.2.2.2.2.2.1 x.2.2.2.2.2.2.2.2.2.1 x.2.2.2.2.2.2.2.2.2.2) := by
  unfold F_X8_law
  exact tt_bd11 (u_hand hK hn hm) (fun _ _ _ _ _ _ _ _ _ _ _ hx => tt_some hx)
theorem u_move {K n : Nat} {p1 p2 p3 : Int32} {ad oc tk ac : Int32} {g re sx sy ar kept : Nat → Int32} (hK : 200000 ≤ K) (hn : n ≤ 8) (hm : MI n g ad kept ac) : Tt (F_X8_move K p1 p2 p3 g re (nI n) sx sy ad oc ar tk kept ac) (fun x => MI n x.2.1 x.2.2.2.2.2.1 x.2.2.2.2.2.2.2.2.2.1 x.2.2.2.2.2.2.2.2.2.2) := by
  unfold F_X8_move
  exact tt_bd11 (u_hand hK hn hm) (fun _ _ _ _ _ _ _ _ _ _ _ hx => tt_some hx)
theorem u_sync {K n : Nat} {ad oc tk ac : Int32} {g re sx sy ar kept : Nat → Int32} (hK : 200000 ≤ K) (hn : n ≤ 8) (hm : MI n g ad kept ac) : Tt (F_X8_sync K g re (nI n) sx sy ad oc ar tk kept ac) (fun x => MI n x.2.1 x.2.2.2.2.2.1 x.2.2.2.2.2.2.2.2.2.1 x.2.2.2.2.2.2.2.2.2.2) := by
  unfold F_X8_sync
  exact tt_bd11 (u_hand hK hn hm) (fun _ _ _ _ _ _ _ _ _ _ _ hx => tt_some hx)
theorem u_putAside {K : Nat} {g as : Nat → Int32} (hK : 200000 ≤ K) : Tt (F_X8_putAside K g as) (fun x => ∀ y, y < 84 → x y = g y) := by
  unfold F_X8_putAside
  refine tt_bd1 (P := fun x => ∀ y, y < 84 → x y = g y) (tt_for (fun j u => u.1 = nI j ∧ ∀ y, y < j → u.2 y = g y) 84 (by omega) ⟨rfl, fun y hy => absurd hy (Nat.not_lt_zero _)⟩ (fun j u hj hu => ?_)) (fun _ hx => tt_some hx)
  unfold B_X8_putAside_2
  refine tt_ite (fun q => tt_some (nx_r (fun y hy => hu.2 y ?_))) (fun q => ?_)
  · rw [hu.1] at q
    have := (nI_leI (a := 84) (b := j) (by omega) (by omega)).mp q
    omega
  · have jl : j < 84 := lt_of_lit (by decide) (by omega) hu.1 q
    rw [hu.1, nI_clamp (show j < 2 ^ 31 by omega)]
    refine tt_ixn (by omega) (by decide) (tt_ixn (by omega) (by decide) (tt_nm (tt_some (nx_l jl ⟨nx1 rfl, fun y hy => ?_⟩))))
    by_cases e : y = j
    · rw [e]
      exact upd_at
    · exact (upd_no (by omega)).trans (hu.2 y (by omega))
theorem u_bringBack {K : Nat} {g as : Nat → Int32} (hK : 200000 ≤ K) : Tt (F_X8_bringBack K g as) (fun x => (∀ y, y < 84 → x y = as y) ∧ ∀ y, 84 ≤ y → x y = g y) := by
  unfold F_X8_bringBack
  refine tt_bd1 (P := fun x => (∀ y, y < 84 → x y = as y) ∧ ∀ y, 84 ≤ y → x y = g y) (tt_for (fun j u => u.1 = nI j ∧ (∀ y, y < j → u.2 y = as y) ∧ ∀ y, 84 ≤ y → u.2 y = g y) 84 (by omega) ⟨rfl, fun y hy => absurd hy (Nat.not_lt_zero _), fun _ _ => rfl⟩ (fun j u hj hu => ?_)) (fun _ hx => tt_some hx)
  unfold B_X8_bringBack_2
  refine tt_ite (fun q => tt_some (nx_r ⟨fun y hy => hu.2.1 y ?_, hu.2.2⟩)) (fun q => ?_)
  · rw [hu.1] at q
    have := (nI_leI (a := 84) (b := j) (by omega) (by omega)).mp q
    omega
  · have jl : j < 84 := lt_of_lit (by decide) (by omega) hu.1 q
    rw [hu.1, nI_clamp (show j < 2 ^ 31 by omega)]
    refine tt_ixn (by omega) (by decide) (tt_ixn (by omega) (by decide) (tt_nm (tt_some (nx_l jl ⟨nx1 rfl, fun y hy => ?_, fun y hy => (upd_no (by omega)).trans (hu.2.2 y hy)⟩))))
    by_cases e : y = j
    · rw [e]
      exact upd_at
    · exact (upd_no (by omega)).trans (hu.2.1 y (by omega))
end
-- 75.tf
section
/-! the reference: image, undo, trials, years -/
def IM (n : Nat) (im : Nat → Int32) (h : Int32) : Prop := h = 0 ∨ RwK n (im 84) (im 75)
theorem RwK.to {n : Nat} {a b c d : Int32} (h : RwK n a b) (e1 : c = a) (e2 : d = b) : RwK n c d := by rw [e1, e2]; exact h
theorem u_image {K n : Nat} {g im : Nat → Int32} {h : Int32} (hK : 200000 ≤ K) (hg : RwK n (g 84) (g 75)) (hi : IM n im h) : Tt (F_X8_image K g (nI n) im h) (fun x => IM n x.2.1 x.2.2) := by
  unfold F_X8_image
  refine tt_bd1 u_isWatch (fun _ _ => tt_ite (fun _ => tt_some hi) (fun _ => ?_))
  refine tt_bd1 (P := fun x => ∀ y, y < 265 → x y = g y) (tt_for (fun j u => u.1 = nI j ∧ ∀ y, y < j → u.2 y = g y) 265 (by omega) ⟨rfl, fun y hy => absurd hy (Nat.not_lt_zero _)⟩ (fun j u hj hu => ?_)) (fun w hw => tt_some (Or.inr (hg.to (hw 84 (by decide)) (hw 75 (by decide)))))
  unfold B_X8_image_11
  refine tt_ite (fun q => tt_some (nx_r (fun y hy => hu.2 y ?_))) (fun q => ?_)
  · rw [hu.1] at q
    have := (nI_leI (a := 265) (b := j) (by omega) (by omega)).mp q
    omega
  · have jl : j < 265 := lt_of_lit (by decide) (by omega) hu.1 q
    rw [hu.1, nI_clamp (show j < 2 ^ 31 by omega)]
    refine tt_ixn (by omega) (by decide) (tt_ixn (by omega) (by decide) (tt_nm (tt_some (nx_l jl ⟨nx1 rfl, fun y hy => ?_⟩))))
    by_cases e : y = j
    · rw [e]
      exact upd_at
    · exact (upd_no (by omega)).trans (hu.2 y (by omega))
theorem u_back {K n : Nat} {g im : Nat → Int32} {ac h : Int32} (hK : 200000 ≤ K) (hg : RwK n (g 84) (g 75)) (hi : IM n im h) : Tt (F_X8_back K g ac im h) (fun x => RwK n (x.2.1 84) (x.2.1 75) ∧ (x.2.2 = ac ∨ x.2.2 = 0)) := by
  unfold F_X8_back
  refine tt_ite (fun _ => tt_some ⟨hg, Or.inl rfl⟩) (fun c => ?_)
  have hi' : RwK n (im 84) (im 75) := hi.elim (fun z => absurd z c) id
  refine tt_bd1 (P := fun x => ∀ y, y < 265 → x y = im y) (tt_for (fun j u => u.1 = nI j ∧ ∀ y, y < j → u.2 y = im y) 265 (by omega) ⟨rfl, fun y hy => absurd hy (Nat.not_lt_zero _)⟩ (fun j u hj hu => ?_)) (fun w hw => tt_some ⟨hi'.to (hw 84 (by decide)) (hw 75 (by decide)), Or.inr rfl⟩)
  unfold B_X8_back_11
  refine tt_ite (fun q => tt_some (nx_r (fun y hy => hu.2 y ?_))) (fun q => ?_)
  · rw [hu.1] at q
    have := (nI_leI (a := 265) (b := j) (by omega) (by omega)).mp q
    omega
  · have jl : j < 265 := lt_of_lit (by decide) (by omega) hu.1 q
    rw [hu.1, nI_clamp (show j < 2 ^ 31 by omega)]
    refine tt_ixn (by omega) (by decide) (tt_ixn (by omega) (by decide) (tt_nm (tt_some (nx_l jl ⟨nx1 rfl, fun y hy => ?_⟩))))
    by_cases e : y = j
    · rw [e]
      exact upd_at
    · exact (upd_no (by omega)).trans (hu.2 y (by omega))
theorem u_undo {K n : Nat} {g kept : Nat → Int32} {ad ac : Int32} (hK : 200000 ≤ K) (hm : MI n g ad kept ac) : Tt (F_X8_undo K g kept ac) (fun x => MI n x.2.1 ad kept x.2.2) := by
  have hm' := hm
  obtain ⟨h1, h2, a, ha, rfl, h3⟩ := hm
  unfold F_X8_undo
  refine tt_ite (fun _ => tt_some hm') (fun c => ?_)
  have a0 : 0 < a := Nat.pos_of_ne_zero (fun z => c (by rw [z]; rfl))
  rw [show nI a - 1 = nI (a - 1) from xsub (b := 1) a0]
  refine tt_bd1 (P := fun x => ∀ y, y < 265 → x y = kept (265 * (a - 1) + y)) (tt_for (fun j u => u.1 = nI j ∧ ∀ y, y < j → u.2 y = kept (265 * (a - 1) + y)) 265 (by omega) ⟨rfl, fun y hy => absurd hy (Nat.not_lt_zero _)⟩ (fun j u hj hu => ?_)) (fun w hw => tt_some ⟨(h3 (a - 1) (by omega)).to (hw 84 (by decide)) (hw 75 (by decide)), h2, a - 1, by omega, rfl, fun r hr => h3 r (by omega)⟩)
  unfold B_X8_undo_21
  refine tt_ite (fun q => tt_some (nx_r (fun y hy => hu.2 y ?_))) (fun q => ?_)
  · rw [hu.1] at q
    have := (nI_leI (a := 265) (b := j) (by omega) (by omega)).mp q
    omega
  · have jl : j < 265 := lt_of_lit (by decide) (by omega) hu.1 q
    have e1 : (265 : Int32) * nI (a - 1) + nI j = nI (265 * (a - 1) + j) := by rw [show (265 : Int32) = nI 265 from rfl, nI_mul, nI_add]
    rw [hu.1, e1, nI_clamp (show 265 * (a - 1) + j < 2 ^ 31 by omega), nI_clamp (show j < 2 ^ 31 by omega)]
    refine tt_ixn (by omega) (by decide) (tt_ixn (by omega) (by decide) (tt_nm (tt_some (nx_l jl ⟨nx1 rfl, fun y hy => ?_⟩))))
    by_cases e : y = j
    · rw [e]
      exact upd_at
    · exact (upd_no (by omega)).trans (hu.2 y (by omega))
theorem kp_back {g as w x : Nat → Int32} (h1 : ∀ y, y < 84 → as y = g y) (h2 : w 84 = g 84) (h3 : (∀ y, y < 84 → x y = as y) ∧ ∀ y, 84 ≤ y → x y = w y) : Kp x g := ⟨(h3.2 84 (Nat.le_refl _)).trans h2, (h3.1 75 (by decide)).trans (h1 75 (by decide))⟩
theorem u_would {K n : Nat} {p1 p2 p3 p4 ad oc : Int32} {g sx sy ar as : Nat → Int32} (hK : 200000 ≤ K) (hn : n ≤ 8) (ha : Rw ad) : Tt (F_X8_would K p1 p2 p3 p4 g (nI n) sx sy ad oc ar as) (fun x => Kp x.2.1 g ∧ Rw x.2.2.2.2.1) := by
  unfold F_X8_would
  refine tt_bd1 (u_whyMove hn) (fun r hr => tt_ite (fun c => tt_bd1 u_in (fun _ _ => tt_ite (fun _ => tt_some ⟨Kp.refl g, ha⟩) (fun _ => ?_))) (fun _ => tt_some ⟨Kp.refl g, ha⟩))
  obtain ⟨i, hi, rfl⟩ := hr.2 c
  refine tt_bd1 (u_putAside hK) (fun w8 h8 => tt_bd7 (u_movesNow hi hK hn) (fun _ w11 _ _ w14 _ _ hx => tt_bd1 (u_bringBack hK) (fun w18 h18 => ?_)))
  have k : Kp w18 g := kp_back h8 hx.1.1 h18
  have a14 : Rw w14 := hx.2
  exact tt_ite (fun _ => tt_some ⟨k, a14⟩) (fun _ => tt_ite (fun _ => tt_some ⟨k, a14⟩) (fun _ => tt_some ⟨k, a14⟩))
theorem u_asked {K n : Nat} {p1 p2 p3 p4 ad oc : Int32} {g sx sy ar as : Nat → Int32} (hK : 200000 ≤ K) (hn : n ≤ 8) (ha : Rw ad) : Tt (F_X8_asked K p1 p2 p3 p4 g (nI n) sx sy ad oc ar as) (fun x => Kp x.2.1 g ∧ Rw x.2.2.2.2.1) := by
  unfold F_X8_asked
  refine tt_bd8 (u_would hK hn ha) (fun _ w2 _ _ w5 _ _ _ hx => ?_)
  have k : Kp w2 g := hx.1
  have a5 : Rw w5 := hx.2
  refine tt_ite (fun _ => tt_some ⟨k, a5⟩) (fun _ => tt_bd1 (u_inN (lo := 0) (hi := w5 - 1) rfl rfl) (fun r hr => tt_ite (fun _ => tt_some ⟨k, a5⟩) (fun r0 => ?_)))
  have a5' := a5
  obtain ⟨b, hb, rfl⟩ := a5
  have c := hr r0
  have b0 : 0 < b := by
    rcases Nat.eq_zero_or_pos b with rfl | h
    · exact absurd (Int32.le_trans c.1 c.2) (by decide)
    · exact h
  rw [show nI b - 1 = nI (b - 1) from xsub (b := 1) b0] at c
  obtain ⟨q, hq, rfl⟩ := in_nat (n := b - 1) (by omega) c
  exact tt_ixn (by omega) (by decide) (tt_some ⟨k, a5'⟩)
abbrev WkI (g : Nat → Int32) (j : Nat) (u : Int32 × Int32 × (Nat → Int32) × (Nat → Int32) × (Nat → Int32) × Int32 × Int32 × (Nat → Int32)) : Prop := u.2.1 = nI j ∧ u.2.2.1 84 = g 84 ∧ Rw u.2.2.2.2.2.1
abbrev WkR (g : Nat → Int32) (u : Int32 × Int32 × (Nat → Int32) × (Nat → Int32) × (Nat → Int32) × Int32 × Int32 × (Nat → Int32)) : Prop := u.2.2.1 84 = g 84 ∧ Rw u.2.2.2.2.2.1
theorem u_walkB {K n j : Nat} {p1 p2 p3 p4 x6 x7 ad oc : Int32} {g w sx sy ar : Nat → Int32} (hK : 200000 ≤ K) (hn : n ≤ 8) (hj : j ≤ 99) (h4 : ¬ nI 99 < p4) (hu : WkI g j (x6, x7, w, sx, sy, ad, oc, ar)) : Tt (B_X8_walk_49 K p1 p2 p3 p4 (nI n) x6 x7 w sx sy ad oc ar) (Nx (WkI g) (WkR g) 99 j) := by
  obtain ⟨h1, h2, h3⟩ := hu
  have h1 : x7 = nI j := h1
  have e : WkR g (x6, x7, w, sx, sy, ad, oc, ar) := ⟨h2, h3⟩
  unfold B_X8_walk_49
  refine tt_ite (fun _ => tt_some (nx_r e)) (fun q => tt_bd1 (u_whyMove hn) (fun r hr => tt_ite (fun c => ?_) (fun _ => tt_some (nx_r e))))
  obtain ⟨i, hi, rfl⟩ := hr.2 c
  exact tt_bd7 (u_movesNow hi hK hn) (fun _ _ _ _ _ _ _ hx => tt_some (nx_l (lt_of_le (by omega) (by decide) h1 h4 q) ⟨nx1 h1, hx.1.1.trans h2, hx.2⟩))
theorem u_walk {K n : Nat} {p1 p2 p3 p4 p5 ad oc : Int32} {g sx sy ar as : Nat → Int32} (hK : 200000 ≤ K) (hn : n ≤ 8) (ha : Rw ad) : Tt (F_X8_walk K p1 p2 p3 p4 p5 g (nI n) sx sy ad oc ar as) (fun x => Kp x.2.1 g ∧ Rw x.2.2.2.2.1) := by
  unfold F_X8_walk
  have ok : Kp g g ∧ Rw ad := ⟨Kp.refl g, ha⟩
  refine tt_bd1 (u_whyMove hn) (fun _ _ => tt_ite (fun _ => tt_bd1 (u_inN (lo := 1) (hi := 99) rfl rfl) (fun r4 h4 => tt_ite (fun _ => tt_some ok) (fun r0 => tt_bd1 u_in (fun _ _ => tt_ite (fun _ => tt_some ok) (fun _ => tt_bd1 (u_putAside hK) (fun w12 h12 => ?_)))))) (fun _ => tt_some ok))
  have p99 : ¬ nI 99 < p4 := fun z => lt_not.mp z (h4 r0).2
  have s0 : WkI g 0 (0, 0, g, sx, sy, ad, oc, ar) := ⟨rfl, rfl, ha⟩
  refine tt_bd8 (P := WkR g) (tt_for (WkI g) 99 (by omega) s0 (fun j u hj hu => u_walkB hK hn hj p99 hu)) (fun _ _ w28 _ _ a31 _ _ hx => ?_)
  unfold J_X8_walk_85
  refine tt_bd1 (u_bringBack hK) (fun w35 h35 => ?_)
  have k : Kp w35 g ∧ Rw a31 := ⟨kp_back h12 hx.1 h35, hx.2⟩
  exact tt_ite (fun _ => tt_some k) (fun _ => tt_ite (fun _ => tt_some k) (fun _ => tt_some k))
theorem u_draw {p : Int32} {x : Int64} (h : ¬ p ≤ 0) : Tt (F_X8_draw p x) (fun _ => True) := by
  unfold F_X8_draw
  exact tt_nzL (l_ne0 h) (tt_some trivial)
theorem u_tryOne {K n : Nat} {p1 p2 p3 p4 ad oc tk ac : Int32} {g sx sy ar kept : Nat → Int32} (hK : 200000 ≤ K) (hn : n ≤ 8) (hm : MI n g ad kept ac) : Tt (F_X8_tryOne K p1 p2 p3 p4 g (nI n) sx sy ad oc ar tk kept ac) (fun x => MI n x.1 x.2.2.2.1 x.2.2.2.2.2.2.2.1 x.2.2.2.2.2.2.2.2) := by
  unfold F_X8_tryOne
  exact tt_bd1 (u_whyNot hK hn) (fun r hr => tt_ite (fun c => tt_bd10 (u_act hK hn hm (hr.2 c)) (fun _ _ _ _ _ _ _ _ _ _ hx => tt_some hx)) (fun _ => tt_some hm))
theorem u_drawYear {K n : Nat} {ad oc tk ac : Int32} {g sx sy ar kept : Nat → Int32} {x : Int64} (hK : 200000 ≤ K) (h0 : 0 < n) (hn : n ≤ 8) (hm : MI n g ad kept ac) : Tt (F_X8_drawYear K g (nI n) sx sy ad oc ar tk kept ac x) (fun x => MI n x.1 x.2.2.2.1 x.2.2.2.2.2.2.2.1 x.2.2.2.2.2.2.2.2.1) := by
  unfold F_X8_drawYear
  have nn : ¬ nI n ≤ 0 := fun z => by
    have := (nI_leI (a := n) (b := 0) (by omega) (by omega)).mp z
    omega
  refine tt_bd2 (u_draw (by decide)) (fun _ _ _ => tt_ite (fun _ => tt_bd9 (u_tryOne hK hn hm) (fun _ _ _ _ _ _ _ _ _ hx => tt_some hx)) (fun _ => tt_bd2 (u_draw nn) (fun _ _ _ => tt_ite (fun _ => ?_) (fun _ => ?_))))
  · exact tt_bd2 (u_draw (by decide)) (fun _ _ _ => tt_bd9 (u_tryOne hK hn hm) (fun _ _ _ _ _ _ _ _ _ hx => tt_some hx))
  · exact tt_bd2 (u_draw (by decide)) (fun _ _ _ => tt_bd2 (u_draw (by decide)) (fun _ _ _ => tt_bd9 (u_tryOne hK hn hm) (fun _ _ _ _ _ _ _ _ _ hx => tt_some hx)))
abbrev YrI (n j : Nat) (u : Int32 × (Nat → Int32) × (Nat → Int32) × (Nat → Int32) × Int32 × Int32 × (Nat → Int32) × Int32 × (Nat → Int32) × Int32 × Int64) : Prop := u.1 = nI j ∧ MI n u.2.1 u.2.2.2.2.1 u.2.2.2.2.2.2.2.2.1 u.2.2.2.2.2.2.2.2.2.1
abbrev YrR (n : Nat) (x : (Nat → Int32) × (Nat → Int32) × (Nat → Int32) × Int32 × Int32 × (Nat → Int32) × Int32 × (Nat → Int32) × Int32 × Int64) : Prop := MI n x.1 x.2.2.2.1 x.2.2.2.2.2.2.2.1 x.2.2.2.2.2.2.2.2.1
theorem u_yearsB {K n j : Nat} {p1 x4 ad oc tk ac : Int32} {g sx sy ar kept : Nat → Int32} {x : Int64} (hK : 200000 ≤ K) (h0 : 0 < n) (hn : n ≤ 8) (hj : j ≤ 40) (hp : ¬ nI 40 < p1) (hu : YrI n j (x4, g, sx, sy, ad, oc, ar, tk, kept, ac, x)) : Tt (B_X8_years_29 K p1 (nI n) x4 g sx sy ad oc ar tk kept ac x) (Nx (YrI n) (YrR n) 40 j) := by
  obtain ⟨h1, h2⟩ := hu
  have h1 : x4 = nI j := h1
  have h2 : MI n g ad kept ac := h2
  unfold B_X8_years_29
  exact tt_ite (fun _ => tt_some (nx_r h2)) (fun q => tt_bd10 (u_drawYear hK h0 hn h2) (fun _ _ _ _ _ _ _ _ _ _ hx => tt_some (nx_l (lt_of_le (by omega) (by decide) h1 hp q) ⟨nx1 h1, hx⟩)))
theorem u_years {K n : Nat} {p1 ad oc tk ac : Int32} {p2 x : Int64} {g sx sy ar kept : Nat → Int32} (hK : 200000 ≤ K) (hn : n ≤ 8) (hm : MI n g ad kept ac) : Tt (F_X8_years K p1 p2 g (nI n) sx sy ad oc ar tk kept ac x) (fun x => MI n x.2.1 x.2.2.2.2.1 x.2.2.2.2.2.2.2.2.1 x.2.2.2.2.2.2.2.2.2.1) := by
  unfold F_X8_years
  refine tt_bd1 (u_isWatchN hn) (fun r hr => tt_ite (fun _ => tt_some hm) (fun r0 => tt_bd1 (u_inN (lo := 1) (hi := 40) rfl rfl) (fun r5 h5 => tt_ite (fun _ => tt_some hm) (fun r1 => ?_))))
  have s0 : YrI n 0 (0, g, sx, sy, ad, oc, ar, tk, kept, ac, p2) := ⟨rfl, hm⟩
  exact tt_bd10 (P := YrR n) (tt_for (YrI n) 40 (by omega) s0 (fun j u hj hu => u_yearsB hK (hr r0) hn hj (fun z => lt_not.mp z (h5 r1).2) hu)) (fun _ _ _ _ _ _ _ _ _ _ hx => tt_some hx)
end
-- 76.tg
section
/-! the reference: scripts and the log -/
/-- the reference's scripts -/
def SlOK (lg : Nat → Int32) (c : Int32) : Prop := ∃ a, a ≤ 4 ∧ c = nI a ∧ ∀ j, j < a → ∃ l, l ≤ 12 ∧ lg j = nI l
theorem in_lt {p : Int32} {a : Nat} (ha : a ≤ 1000) (c : 0 ≤ p ∧ p ≤ nI a - 1) : ∃ b, b < a ∧ p = nI b := by
  have a0 : 0 < a := by
    rcases Nat.eq_zero_or_pos a with rfl | h
    · exact absurd (Int32.le_trans c.1 c.2) (by decide)
    · exact h
  rw [show nI a - 1 = nI (a - 1) from xsub (b := 1) a0] at c
  obtain ⟨b, hb, e⟩ := in_nat (n := a - 1) (by omega) c
  exact ⟨b, by omega, e⟩
theorem u_isScript {p c : Int32} {lg : Nat → Int32} (h : SlOK lg c) : Tt (F_X8_isScript p c) (fun r => ¬ r = 0 → ∃ b, (b < 4 ∧ ∃ l, l ≤ 12 ∧ lg b = nI l) ∧ p = nI b) := by
  unfold F_X8_isScript
  obtain ⟨a, ha, rfl, hl⟩ := h
  refine tt_bd1 (u_inN (lo := 0) (hi := nI a - 1) rfl rfl) (fun r hr => tt_some (fun r0 => ?_))
  obtain ⟨b, hb, e⟩ := in_lt (by omega) (hr r0)
  exact ⟨b, ⟨by omega, hl b hb⟩, e⟩
theorem u_step_ {p1 p2 p3 c : Int32} {sc lg : Nat → Int32} (h : SlOK lg c) : Tt (F_X8_step_ p1 p2 p3 sc lg c) (fun _ => True) := by
  unfold F_X8_step_
  refine tt_bd1 (u_isScript h) (fun r hr => tt_ite (fun _ => tt_some trivial) (fun r0 => ?_))
  obtain ⟨b, ⟨hb, l, hl, el⟩, rfl⟩ := hr r0
  rw [nI_clamp (show b < 2 ^ 31 by omega), el]
  refine tt_ixn (by omega) (by decide) (tt_bd1 (u_inN (lo := 0) (hi := nI l - 1) rfl rfl) (fun r hr => tt_ite (fun _ => tt_some trivial) (fun r1 => ?_)))
  obtain ⟨x, hx, rfl⟩ := in_lt (by omega) (hr r1)
  refine tt_bd1 (u_inN (lo := 0) (hi := 3) rfl rfl) (fun r hr => tt_ite (fun _ => tt_some trivial) (fun r2 => ?_))
  obtain ⟨y, hy, rfl⟩ := in_nat (n := 3) (by decide) (hr r2)
  rw [show (4 : Int32) * ((12 : Int32) * nI b + nI x) + nI y = nI (4 * (12 * b + x) + y) by rw [show (4 : Int32) = nI 4 from rfl, show (12 : Int32) = nI 12 from rfl, nI_mul, nI_add, nI_mul, nI_add]]
  exact tt_ixn (by omega) (by decide) (tt_some trivial)
theorem u_log {p1 p2 : Int32} {g : Nat → Int32} (h : LgOK (g 84)) : Tt (F_X8_log p1 p2 g) (fun _ => True) := by
  unfold F_X8_log
  obtain ⟨l, hl, el⟩ := h
  rw [el]
  refine tt_bd1 (u_inN (lo := 0) (hi := nI l - 1) rfl rfl) (fun r hr => tt_ite (fun _ => tt_some trivial) (fun r1 => ?_))
  obtain ⟨x, hx, rfl⟩ := in_lt (by omega) (hr r1)
  refine tt_bd1 (u_inN (lo := 0) (hi := 2) rfl rfl) (fun r hr => tt_ite (fun _ => tt_some trivial) (fun r2 => ?_))
  obtain ⟨y, hy, rfl⟩ := in_nat (n := 2) (by decide) (hr r2)
  rw [show (85 : Int32) + (3 : Int32) * (nI l - 1 - nI x) + nI y = nI (85 + 3 * (l - 1 - x) + y) by rw [show nI l - 1 = nI (l - 1) from xsub (b := 1) (by omega), xsub (show x ≤ l - 1 by omega), i85, nI_add]]
  exact tt_ixn (by omega) (by decide) (tt_some trivial)
theorem u_actOf {p : Int32} : Tt (F_X8_actOf p) (fun _ => True) := by
  unfold F_X8_actOf
  repeat' (first | (with_reducible refine tt_some ?_) | (with_reducible refine tt_nm ?_) | (with_reducible refine tt_ixn ?_ ?_ ?_) | (with_reducible refine tt_ite (fun _ => ?_) (fun _ => ?_)) | (with_reducible refine tt_bd1 (u_above) (fun _ _ => ?_)) | (with_reducible refine tt_bd1 (u_driftX ?_) (fun _ _ => ?_)) | (with_reducible refine tt_bd1 (u_driftY ?_) (fun _ _ => ?_)) | (with_reducible refine tt_bd1 (u_sum16 ?_ ?_) (fun _ _ => ?_)) | (with_reducible refine tt_bd1 (u_sum24 ?_ ?_) (fun _ _ => ?_)) | (with_reducible refine tt_bd1 (u_sum48 ?_ ?_) (fun _ _ => ?_)) | (with_reducible refine tt_bd1 (u_pointX ?_ ?_) (fun _ _ => ?_)) | (with_reducible refine tt_bd1 (u_pointY ?_ ?_) (fun _ _ => ?_)) | (with_reducible refine tt_bd1 (u_valueOf) (fun _ _ => ?_)) | (with_reducible refine tt_bd1 (u_isAllowed) (fun _ _ => ?_)) | (with_reducible refine tt_bd1 (u_isQuietBy ?_ ?_) (fun _ _ => ?_)) | (with_reducible refine tt_bd1 (u_isQuiet ?_ ?_ ?_) (fun _ _ => ?_)) | (with_reducible refine tt_bd1 (u_isFrozen ?_) (fun _ _ => ?_)) | (with_reducible refine tt_bd1 (u_has) (fun _ _ => ?_)) | (with_reducible refine tt_bd1 (u_bits ?_ ?_) (fun _ _ => ?_)) | (with_reducible refine tt_bd3 (u_shares ?_ ?_ ?_) (fun _ _ _ _ => ?_)) | (with_reducible refine tt_bd1 (u_takesShares ?_ ?_) (fun _ _ => ?_)) | (with_reducible refine tt_bd1 (u_hearsAll ?_ ?_) (fun _ _ => ?_)) | (with_reducible refine tt_bd7 (u_speaks ?_ ?_ ?_) (fun _ _ _ _ _ _ _ _ => ?_)) | (with_reducible refine tt_bd7 (u_movesNow ?_ ?_ ?_) (fun _ _ _ _ _ _ _ _ => ?_)) | (with_reducible refine tt_bd3 (u_sets65 ?_ ?_) (fun _ _ _ _ => ?_)) | (with_reducible refine tt_bd3 (u_sets64 ?_ ?_) (fun _ _ _ _ => ?_)) | (with_reducible refine tt_bd1 (u_step ?_ ?_) (fun _ _ => ?_)) | (with_reducible refine tt_bd1 (u_endsRound ?_ ?_) (fun _ _ => ?_)) | (with_reducible refine tt_bd2 (u_addsNow ?_ ?_ ?_ ?_) (fun _ _ _ => ?_)) | (with_reducible refine tt_bd2 (u_setsGoal ?_ ?_) (fun _ _ _ => ?_)) | (with_reducible refine tt_bd8 (u_doIt ?_ ?_ ?_ ?_ ?_) (fun _ _ _ _ _ _ _ _ _ => ?_)) | (with_reducible refine tt_bd8 (u_doNow ?_ ?_ ?_ ?_ ?_) (fun _ _ _ _ _ _ _ _ _ => ?_)) | (with_reducible refine tt_bd1 (u_note ?_ ?_) (fun _ _ => ?_)) | (with_reducible refine tt_bd1 (u_in) (fun _ _ => ?_)) | (with_reducible refine tt_bd1 (u_isWatch) (fun _ _ => ?_)) | (with_reducible refine tt_bd1 (u_isReached) (fun _ _ => ?_)) | (with_reducible refine tt_bd1 (u_frozenOnes ?_ ?_) (fun _ _ => ?_)) | (with_reducible refine tt_bd1 (u_sum0 ?_ ?_) (fun _ _ => ?_)) | (with_reducible refine tt_bd1 (u_sum8 ?_ ?_) (fun _ _ => ?_)) | (with_reducible refine tt_bd1 (u_sum32 ?_ ?_) (fun _ _ => ?_)) | (with_reducible refine tt_bd1 (u_sum40 ?_ ?_) (fun _ _ => ?_)) | (with_reducible refine tt_bd1 (u_pointValue ?_ ?_ ?_) (fun _ _ => ?_)) | (with_reducible refine tt_bd1 (u_slackOf ?_) (fun _ _ => ?_)) | (with_reducible refine tt_bd1 (u_isWay) (fun _ _ => ?_)) | (with_reducible refine tt_bd1 (u_quietOnes ?_ ?_) (fun _ _ => ?_)) | (with_reducible refine tt_bd1 (u_slackOnes ?_ ?_) (fun _ _ => ?_)) | (with_reducible refine tt_bd1 (u_stillOnes ?_ ?_) (fun _ _ => ?_)))
  all_goals trivial
abbrev GsI (n j : Nat) (u : Int32 × (Nat → Int32) × (Nat → Int32) × (Nat → Int32) × Int32 × Int32 × (Nat → Int32) × Int32 × (Nat → Int32) × Int32) : Prop := u.1 = nI j ∧ MI n u.2.1 u.2.2.2.2.1 u.2.2.2.2.2.2.2.2.1 u.2.2.2.2.2.2.2.2.2
abbrev GsR (n : Nat) (x : Nat × Int32 × (Nat → Int32) × (Nat → Int32) × (Nat → Int32) × Int32 × Int32 × (Nat → Int32) × Int32 × (Nat → Int32) × Int32) : Prop := x.1 < 2 ∧ MI n x.2.2.1 x.2.2.2.2.2.1 x.2.2.2.2.2.2.2.2.2.1 x.2.2.2.2.2.2.2.2.2.2
theorem u_goStepsB {K n j b l : Nat} {p2 x3 ad oc tk ac : Int32} {g sx sy ar kept sc lg : Nat → Int32} (hK : 200000 ≤ K) (hn : n ≤ 8) (hj : j ≤ 12) (hb : b < 4) (hl : l ≤ 12) (el : lg b = nI l) (hu : GsI n j (x3, g, sx, sy, ad, oc, ar, tk, kept, ac)) : Tt (B_X8_goSteps_2 K (nI b) p2 (nI n) sc lg x3 g sx sy ad oc ar tk kept ac) (Nx (GsI n) (GsR n) 12 j) := by
  obtain ⟨h1, h2⟩ := hu
  have h1 : x3 = nI j := h1
  have h2 : MI n g ad kept ac := h2
  have e0 : (4 : Int32) * ((12 : Int32) * nI b + nI j) = nI (4 * (12 * b + j)) := by rw [show (4 : Int32) = nI 4 from rfl, show (12 : Int32) = nI 12 from rfl, nI_mul, nI_add, nI_mul]
  unfold B_X8_goSteps_2
  rw [h1, e0, nI_clamp (show b < 2 ^ 31 by omega), el, show nI (4 * (12 * b + j)) + 1 = nI (4 * (12 * b + j) + 1) from nI_1 _, show nI (4 * (12 * b + j)) + 2 = nI (4 * (12 * b + j) + 2) from nI_add _ 2, show nI (4 * (12 * b + j)) + 3 = nI (4 * (12 * b + j) + 3) from nI_add _ 3]
  refine tt_ixn (by omega) (by decide) (tt_ite (fun _ => tt_some (nx_r ⟨Nat.lt_succ_self 1, h2⟩)) (fun q => ?_))
  have jl : j < l := lt_of_lit (by omega) (by omega) rfl q
  refine tt_ixn (by omega) (by decide) (tt_bd1 u_actOf (fun r4 _ => tt_ixn (by omega) (by decide) (tt_ixn (by omega) (by decide) (tt_ixn (by omega) (by decide) (tt_bd1 (u_whyNot hK hn) (fun r9 h9 => tt_ite (fun c => tt_ite (fun _ => ?_) (fun _ => ?_)) (fun _ => tt_some (nx_r ⟨Nat.zero_lt_succ 1, h2⟩))))))))
  · refine tt_ixn (by omega) (by decide) (tt_ixn (by omega) (by decide) (tt_ixn (by omega) (by decide) (tt_bd8 (u_doNow hK hn h2.1.2 h2.2.1 (h9.2 c)) (fun _ w _ _ _ _ _ _ hx => tt_some (nx_l (by omega) ⟨nx1 rfl, ⟨?_, hx.1.2⟩, hx.2, h2.2.2⟩)))))
    have hw : w 84 = g 84 := hx.1.1
    show LgOK (w 84)
    rw [hw]
    exact h2.1.1
  · exact tt_ixn (by omega) (by decide) (tt_ixn (by omega) (by decide) (tt_ixn (by omega) (by decide) (tt_bd10 (u_act hK hn h2 (h9.2 c)) (fun _ _ _ _ _ _ _ _ _ _ hx => tt_some (nx_l (by omega) ⟨nx1 rfl, hx⟩)))))
theorem u_goSteps {K n b : Nat} {p2 ad oc tk ac : Int32} {g sx sy ar kept sc lg : Nat → Int32} (hK : 200000 ≤ K) (hn : n ≤ 8) (hb : b < 4 ∧ ∃ l, l ≤ 12 ∧ lg b = nI l) (hm : MI n g ad kept ac) : Tt (F_X8_goSteps K (nI b) p2 sc lg g (nI n) sx sy ad oc ar tk kept ac) (fun x => MI n x.2.1 x.2.2.2.2.1 x.2.2.2.2.2.2.2.2.1 x.2.2.2.2.2.2.2.2.2) := by
  unfold F_X8_goSteps
  obtain ⟨hb, l, hl12, el⟩ := hb
  have s0 : GsI n 0 (0, g, sx, sy, ad, oc, ar, tk, kept, ac) := ⟨rfl, hm⟩
  refine tt_bd11 (P := GsR n) (tt_for (GsI n) 12 (by omega) s0 (fun j u hj hu => u_goStepsB hK hn hj hb hl12 el hu)) (fun t _ _ _ _ _ _ _ _ _ _ hx => tt_ite (fun _ => tt_some hx.2) (fun h0 => tt_ite (fun _ => tt_ixn (by omega) (by decide) (tt_some hx.2)) (fun h1 => ?_)))
  have ht : t < 2 := hx.1
  omega
theorem u_perform {K n : Nat} {p1 ad oc tk ac c : Int32} {g sx sy ar kept sc lg : Nat → Int32} (hK : 200000 ≤ K) (hn : n ≤ 8) (hl : SlOK lg c) (hm : MI n g ad kept ac) : Tt (F_X8_perform K p1 sc lg c g (nI n) sx sy ad oc ar tk kept ac) (fun x => MI n x.2.1 x.2.2.2.2.1 x.2.2.2.2.2.2.2.2.1 x.2.2.2.2.2.2.2.2.2) := by
  unfold F_X8_perform
  refine tt_bd1 (u_isScript hl) (fun r hr => tt_ite (fun _ => tt_some hm) (fun r0 => tt_bd1 u_isWatch (fun _ _ => tt_ite (fun _ => tt_some hm) (fun _ => ?_))))
  obtain ⟨b, hb, rfl⟩ := hr r0
  exact tt_bd10 (u_goSteps hK hn hb hm) (fun _ _ _ _ _ _ _ _ _ _ hx => tt_some hx)
end
-- 77.th
section
/-! the reference: run, partner, limit, span, site -/
theorem u_run {K n : Nat} {p1 p2 ad oc tk ac c : Int32} {g sx sy ar kept sc lg as : Nat → Int32} (hK : 200000 ≤ K) (hn : n ≤ 8) (hl : SlOK lg c) (hm : MI n g ad kept ac) : Tt (F_X8_run K p1 p2 sc lg c g (nI n) sx sy ad oc ar tk kept ac as) (fun x => MI n x.2.1 x.2.2.2.2.1 x.2.2.2.2.2.2.2.2.1 x.2.2.2.2.2.2.2.2.2.1) := by
  unfold F_X8_run
  refine tt_bd1 (u_isScript hl) (fun r hr => tt_ite (fun _ => tt_some hm) (fun r0 => tt_bd1 u_isWatch (fun _ _ => tt_ite (fun _ => tt_some hm) (fun _ => tt_bd1 u_in (fun _ _ => tt_ite (fun _ => tt_some hm) (fun _ => ?_))))))
  obtain ⟨b, hb, rfl⟩ := hr r0
  refine tt_bd1 (u_putAside hK) (fun w13 h13 => tt_bd10 (u_goSteps hK hn hb hm) (fun _ w16 _ _ w19 _ _ _ w23 w24 hx => tt_bd1 (u_bringBack hK) (fun w26 h26 => ?_)))
  have h16 : MI n w16 w19 w23 w24 := hx
  have m : MI n w26 w19 w23 w24 := ⟨⟨by rw [show w26 84 = w16 84 from h26.2 84 (Nat.le_refl _)]; exact h16.1.1, by rw [show w26 75 = g 75 from (h26.1 75 (by decide)).trans (h13 75 (by decide))]; exact hm.1.2⟩, h16.2⟩
  exact tt_ite (fun _ => tt_some m) (fun _ => tt_ixn (by omega) (by decide) (tt_ite (fun _ => tt_some m) (fun _ => tt_some m)))
theorem u_partnerB {K n i j : Nat} {x4 x5 : Int32} {g sx sy : Nat → Int32} (hK : 200000 ≤ K) (hn : n ≤ 8) (hi : i < n) (hj : j ≤ 8) (hu : x5 = nI j) : Tt (B_X8_partner_48 K (nI i) (nI n) g x4 x5 sx sy) (Nx (fun j (u : Int32 × Int32 × (Nat → Int32) × (Nat → Int32)) => u.2.1 = nI j) (fun _ : Int32 × (Nat → Int32) × (Nat → Int32) => True) 8 j) := by
  unfold B_X8_partner_48
  refine tt_ite (fun _ => tt_some (nx_r trivial)) (fun q => ?_)
  have jl := sl hn hj hu q
  have j8 : j < 8 := by omega
  rw [hu]
  refine tt_ite (fun _ => tt_bd1 (u_isQuiet (by omega) hK hn) (fun _ _ => tt_ite (fun _ => tt_ite (fun _ => tt_ite (fun _ => tt_some (nx_l j8 (nx1 rfl))) (fun _ => ?_)) (fun _ => tt_some (nx_l j8 (nx1 rfl)))) (fun _ => tt_some (nx_r trivial)))) (fun _ => tt_some (nx_r trivial))
  exact tt_bd1 (u_isFrozen j8) (fun _ _ => tt_ite (fun _ => tt_bd3 (u_shares hK hn (Ht.bit i (by omega)).orl) (fun _ _ _ _ => tt_ite (fun _ => tt_some (nx_l j8 (nx1 rfl))) (fun _ => tt_some (nx_l j8 (nx1 rfl))))) (fun _ => tt_some (nx_l j8 (nx1 rfl))))
theorem u_partner {K n : Nat} {p1 p2 p3 : Int32} {g sx sy as : Nat → Int32} (hK : 200000 ≤ K) (hn : n ≤ 8) : Tt (F_X8_partner K p1 p2 p3 g (nI n) sx sy as) (fun x => Kp x.2.1 g) := by
  unfold F_X8_partner
  refine tt_bd1 (u_whyMove hn) (fun r hr => tt_ite (fun c => ?_) (fun _ => tt_some (Kp.refl g)))
  obtain ⟨i, hi, rfl⟩ := hr.2 c
  rw [i0, i8, nI_clamp (show 0 + i < 2 ^ 31 by omega), nI_clamp (show 8 + i < 2 ^ 31 by omega)]
  refine tt_bd1 (u_putAside hK) (fun w4 h4 => tt_ixn (by omega) (by decide) (tt_ixn (by omega) (by decide) (tt_nm (tt_ixn (by omega) (by decide) (tt_ixn (by omega) (by decide) (tt_nm ?_))))))
  refine tt_bd3 (P := fun _ => True) (tt_for (fun j u => u.2.1 = nI j) 8 (by omega) rfl (fun j u hj hu => u_partnerB hK hn hi hj hu)) (fun _ _ _ _ => tt_bd1 (u_bringBack hK) (fun w34 h34 => tt_some (kp_back h4 ?_ h34)))
  rw [upd_no (by omega), upd_no (by omega)]
theorem u_canStand {i : Nat} {g : Nat → Int32} (hi : i < 8) : Tt (F_X8_canStand (nI i) g) (fun _ => True) := by
  unfold F_X8_canStand
  rw [i0, i8]
  exact tt_ixn (by omega) (by decide) (tt_bd1 u_in (fun _ _ => tt_ite (fun _ => tt_some trivial) (fun _ => tt_ixn (by omega) (by decide) (tt_bd1 u_in (fun _ _ => tt_ite (fun _ => tt_some trivial) (fun _ => tt_some trivial))))))
theorem u_limitB {K n i j : Nat} {p2 p3 x4 x5 : Int32} {g w : Nat → Int32} (hK : 200000 ≤ K) (hn : n ≤ 8) (hi : i < n) (hj : j ≤ 201) (hu : x4 + 1 = nI j) (hw : w 84 = g 84) : Tt (B_X8_limit_36 K (nI i) p2 p3 (nI n) x4 x5 w) (Nx (fun j (u : Int32 × Int32 × (Nat → Int32)) => u.1 + 1 = nI j ∧ u.2.2 84 = g 84) (fun x : Int32 × (Nat → Int32) => x.2 84 = g 84) 201 j) := by
  unfold B_X8_limit_36
  refine tt_ite (fun _ => tt_some (nx_r hw)) (fun _ => tt_ite (fun _ => tt_some (nx_r hw)) (fun q => ?_))
  have jl : j < 201 := by
    rcases Nat.eq_zero_or_pos j with h | h
    · omega
    · have e : x4 = nI (j - 1) := by
        have e1 : x4 = nI j - 1 := by rw [← hu]; exact (Int32.add_sub_cancel _ _).symm
        rw [e1]
        exact xsub (b := 1) h
      have : j - 1 < 200 := lt_of_lit (by decide) (by omega) e q
      omega
  rw [i0, i8, nI_clamp (show 0 + i < 2 ^ 31 by omega), nI_clamp (show 8 + i < 2 ^ 31 by omega)]
  refine tt_ixn (by omega) (by decide) (tt_ixn (by omega) (by decide) (tt_nm (tt_ixn (by omega) (by decide) (tt_ixn (by omega) (by decide) (tt_nm ?_)))))
  have e84 : ∀ v v', upd (upd w (0 + i) v) (8 + i) v' 84 = g 84 := fun v v' => (upd_no (by omega)).trans ((upd_no (by omega)).trans hw)
  exact tt_bd1 (u_canStand (by omega)) (fun _ _ => tt_ite (fun _ => tt_some (nx_l jl ⟨nx1 hu, e84 _ _⟩)) (fun _ => tt_bd1 (u_isQuiet (by omega) hK hn) (fun _ _ => tt_ite (fun _ => tt_some (nx_l jl ⟨nx1 hu, e84 _ _⟩)) (fun _ => tt_some (nx_l jl ⟨nx1 hu, e84 _ _⟩)))))
theorem u_limit {K n : Nat} {p1 p2 p3 : Int32} {g as : Nat → Int32} (hK : 200000 ≤ K) (hn : n ≤ 8) : Tt (F_X8_limit K p1 p2 p3 g (nI n) as) (fun x => Kp x.2.1 g) := by
  unfold F_X8_limit
  refine tt_bd1 (u_isSite hn) (fun r hr => tt_ite (fun _ => tt_some (Kp.refl g)) (fun r0 => ?_))
  obtain ⟨i, hi, rfl⟩ := hr r0
  refine tt_bd1 u_isWay (fun _ _ => tt_ite (fun _ => tt_some (Kp.refl g)) (fun _ => tt_bd1 (u_isFrozen (by omega)) (fun _ _ => tt_ite (fun _ => tt_bd1 (u_putAside hK) (fun w13 h13 => ?_)) (fun _ => tt_some (Kp.refl g)))))
  exact tt_bd2 (P := fun x : Int32 × (Nat → Int32) => x.2 84 = g 84) (tt_for (fun j u => u.1 + 1 = nI j ∧ u.2.2 84 = g 84) 201 (by omega) ⟨(show (-1 : Int32) + 1 = nI 0 by decide), rfl⟩ (fun j u hj hu => u_limitB hK hn hi hj hu.1 hu.2)) (fun _ _ hx => tt_bd1 (u_bringBack hK) (fun w34 h34 => tt_some (kp_back h13 hx h34)))
theorem u_spanJ {K n i : Nat} {p2 k0 : Int32} {g : Nat → Int32} (hK : 200000 ≤ K) (hn : n ≤ 8) (hi : i < n) (hk : k0 * k0 = 1) : Tt (J_X8_span_38 K (nI i) p2 (nI n) g k0) (fun _ => True) := by
  unfold J_X8_span_38
  refine tt_bd1 (P := fun _ => True) (tt_for (fun j u => u * k0 = nI j) 200 (by omega) (Int32.zero_mul) (fun j u hj hu => ?_)) (fun _ _ => tt_some trivial)
  unfold B_X8_span_43 J_X8_span_73_r44
  refine tt_ite (fun _ => tt_some (nx_r trivial)) (fun q => ?_)
  have jl : j < 200 := lt_of_lit (by decide) (by omega) hu q
  have nx : (u + k0) * k0 = nI (j + 1) := by rw [Int32.add_mul, hu, hk, nI_1]
  have two : ∀ a b, Tt (bd1 (F_X8_isQuietBy K a b g (nI n)) (fun r => if r = (0 : Int32) then some (.inr u) else some (.inl (u + k0)))) (Nx (fun j u => u * k0 = nI j) (fun _ : Int32 => True) 200 j) := fun a b => tt_bd1 (u_isQuietBy hK hn) (fun _ _ => tt_ite (fun _ => tt_some (nx_r trivial)) (fun _ => tt_some (nx_l jl nx)))
  exact tt_bd1 (u_driftX (by omega)) (fun _ _ => tt_ite (fun _ => tt_bd1 (u_driftY (by omega)) (fun _ _ => tt_ite (fun _ => two _ _) (fun _ => two _ _))) (fun _ => tt_bd1 (u_driftY (by omega)) (fun _ _ => tt_ite (fun _ => two _ _) (fun _ => two _ _))))
theorem u_span {K n : Nat} {p1 p2 p3 : Int32} {g : Nat → Int32} (hK : 200000 ≤ K) (hn : n ≤ 8) : Tt (F_X8_span K p1 p2 p3 g (nI n)) (fun _ => True) := by
  unfold F_X8_span
  refine tt_bd1 (u_isSite hn) (fun r hr => tt_ite (fun _ => tt_some trivial) (fun r0 => ?_))
  obtain ⟨i, hi, rfl⟩ := hr r0
  exact tt_bd1 u_in (fun _ _ => tt_ite (fun _ => tt_some trivial) (fun _ => tt_bd1 (u_isQuiet (by omega) hK hn) (fun _ _ => tt_ite (fun _ => tt_some trivial) (fun _ => tt_ite (fun _ => u_spanJ hK hn hi (by decide)) (fun _ => u_spanJ hK hn hi (by decide))))))
end
-- 78.ti
section
/-! the reference: race, site -/
abbrev LrI (g : Nat → Int32) (j : Nat) (u : Int32 × Int32 × Int32 × (Nat → Int32) × Int32) : Prop := u.2.2.1 = nI j ∧ u.2.2.2.1 84 = g 84
abbrev LrR (g : Nat → Int32) (x : Int32 × (Nat → Int32) × Int32) : Prop := x.2.1 84 = g 84
theorem u_laysRaceB {K n j : Nat} {p1 p2 x3 x4 x5 rc : Int32} {g w : Nat → Int32} (hK : 200000 ≤ K) (h0 : 0 < n) (hn : n ≤ 8) (hj : j ≤ 1600) (hu : x5 = nI j) (hw : w 84 = g 84) : Tt (B_X8_laysRace_22 K p1 p2 (nI n) x3 x4 x5 w rc) (Nx (LrI g) (LrR g) 1600 j) := by
  have em : x5 - x5 / nI n * nI n = nI (j % n) := by rw [hu]; exact nI_mod (by omega) (by omega)
  have ml : j % n < n := Nat.mod_lt _ h0
  unfold B_X8_laysRace_22 J_X8_laysRace_109_r23
  rw [em]
  generalize j % n = m at ml
  have m8 : m < 8 := by omega
  refine tt_ite (fun _ => tt_some (nx_r hw)) (fun q => tt_ite (fun _ => tt_some (nx_r hw)) (fun _ => tt_nz (fun z => ?_) ?_))
  · have := (nI_eq (a := n) (b := 0) (by omega) (by omega)).mp z
    omega
  have jl : j < 1600 := by
    rw [show (200 : Int32) * nI n = nI (200 * n) from nI_mul 200 n] at q
    have : j < 200 * n := lt_of_lit (by omega) (by omega) hu q
    omega
  have J : ∀ k0 y v v', Tt (J_X8_laysRace_110_r23 k0 y x5 (nI m) (upd (upd w (0 + m) v) (8 + m) v') rc) (Nx (LrI g) (LrR g) 1600 j) := by
    intro k0 y v v'
    have e84 : upd (upd w (0 + m) v) (8 + m) v' 84 = g 84 := (upd_no (by omega)).trans ((upd_no (by omega)).trans hw)
    unfold J_X8_laysRace_110_r23
    exact tt_bd1 (u_canStand m8) (fun _ _ => tt_ite (fun _ => tt_some (nx_l jl ⟨nx1 hu, e84⟩)) (fun _ => tt_ite (fun _ => tt_some (nx_l jl ⟨nx1 hu, e84⟩)) (fun _ => tt_some (nx_l jl ⟨nx1 hu, e84⟩))))
  rw [i0, i8, nI_clamp (show 0 + m < 2 ^ 31 by omega), nI_clamp (show 8 + m < 2 ^ 31 by omega)]
  refine tt_bd1 (u_isFrozen m8) (fun _ _ => tt_ite (fun _ => ?_) (fun _ => tt_some (nx_l jl ⟨nx1 hu, hw⟩)))
  refine tt_ixn (by omega) (by decide) (tt_ixn (by omega) (by decide) (tt_nm (tt_ixn (by omega) (by decide) (tt_ixn (by omega) (by decide) (tt_nm ?_)))))
  exact tt_bd1 (u_canStand m8) (fun _ _ => tt_ite (fun _ => J _ _ _ _) (fun _ => tt_bd1 (u_isQuiet m8 hK hn) (fun _ _ => tt_ite (fun _ => J _ _ _ _) (fun _ => J _ _ _ _))))
theorem u_laysRace {K n : Nat} {p1 p2 rc rd : Int32} {g as : Nat → Int32} (hK : 200000 ≤ K) (h0 : 0 < n) (hn : n ≤ 8) : Tt (F_X8_laysRace K p1 p2 g (nI n) as rc rd) (fun x => Kp x.1 g) := by
  unfold F_X8_laysRace
  have s0 : LrI g 0 (1, 0, 0, g, -1) := ⟨rfl, rfl⟩
  refine tt_bd1 (u_putAside hK) (fun w1 h1 => tt_bd3 (P := LrR g) (tt_for (LrI g) 1600 (by omega) s0 (fun j u hj hu => u_laysRaceB hK h0 hn hj hu.1 hu.2)) (fun _ w _ hx => ?_))
  unfold J_X8_laysRace_143
  exact tt_ite (fun _ => tt_bd1 (u_bringBack hK) (fun _ h => tt_some (kp_back h1 hx h))) (fun _ => tt_bd1 (u_bringBack hK) (fun _ h => tt_some (kp_back h1 hx h)))
theorem u_race {K n : Nat} {p1 p2 p3 rc rd : Int32} {g as : Nat → Int32} (hK : 200000 ≤ K) (hn : n ≤ 8) : Tt (F_X8_race K p1 p2 p3 g (nI n) as rc rd) (fun x => Kp x.2.1 g) := by
  unfold F_X8_race
  exact tt_bd1 (u_isWatchN hn) (fun r hr => tt_ite (fun _ => tt_some (Kp.refl g)) (fun r0 => tt_bd1 u_isWay (fun _ _ => tt_ite (fun _ => tt_some (Kp.refl g)) (fun _ => tt_bd1 u_in (fun _ _ => tt_ite (fun _ => tt_some (Kp.refl g)) (fun _ => tt_bd4 (u_laysRace hK (hr r0) hn) (fun _ _ _ _ hx => tt_ite (fun _ => tt_some hx) (fun _ => tt_some hx))))))))
theorem u_site {K n : Nat} {p1 p2 t : Int32} {g : Nat → Int32} (hK : 200000 ≤ K) (hn : n ≤ 8) : Tt (F_X8_site K p1 p2 t g (nI n)) (fun _ => True) := by
  unfold F_X8_site J_X8_site_25
  have J1 : Tt (J_X8_site_26 K p1 p2 (nI n) g 1) (fun _ => True) := by
    unfold J_X8_site_26
    rw [if_pos rfl]
    exact tt_some trivial
  refine tt_bd1 (u_isSite hn) (fun r hr => tt_ite (fun _ => J1) (fun r0 => tt_bd1 (u_inN (lo := 0) (hi := 13) rfl rfl) (fun r2 hr2 => tt_ite (fun _ => J1) (fun r1 => ?_))))
  obtain ⟨i, hi, rfl⟩ := hr r0
  obtain ⟨a, ha, rfl⟩ := in_nat (n := 13) (by decide) (hr2 r1)
  have i7 : i < 8 := by omega
  unfold J_X8_site_26
  rw [i48, i56, i76, show (8 : Int32) * nI a + nI i = nI (8 * a + i) by rw [show (8 : Int32) = nI 8 from rfl, nI_mul, nI_add]]
  refine tt_ite (fun _ => tt_some trivial) (fun _ => tt_ite (fun _ => tt_bd1 (u_driftX i7) (fun _ _ => tt_some trivial)) (fun _ => tt_ite (fun _ => tt_bd1 (u_driftY i7) (fun _ _ => tt_some trivial)) (fun _ => ?_)))
  refine tt_ite (fun _ => tt_bd1 (u_driftX i7) (fun _ _ => tt_bd1 (u_pointX hK hn) (fun _ _ => tt_some trivial))) (fun _ => tt_ite (fun _ => tt_bd1 (u_driftY i7) (fun _ _ => tt_bd1 (u_pointY hK hn) (fun _ _ => tt_some trivial))) (fun _ => ?_))
  refine tt_ite (fun _ => tt_bd1 (u_isQuiet i7 hK hn) (fun _ _ => tt_ite (fun _ => tt_some trivial) (fun _ => tt_some trivial))) (fun _ => tt_ite (fun _ => tt_ixn (by omega) (by decide) (tt_some trivial)) (fun _ => ?_))
  exact tt_ite (fun _ => tt_ixn (by omega) (by decide) (tt_some trivial)) (fun _ => tt_ite (fun _ => tt_ixn (by omega) (by decide) (tt_some trivial)) (fun _ => tt_ixn (by omega) (by decide) (tt_some trivial)))
end
-- 79a.sp
section
/-! the reference's spell ends, whatever the places are: forty signs are enough -/
theorem u_spells {k : Nat} {p : Int32} {s : Nat → Int32} (hk : k < 40) : Tt (F_X8_spells p s (nI k)) (fun x => x.2 = nI (k + 1)) := by
  unfold F_X8_spells
  rw [nI_clamp (show k < 2 ^ 31 by omega)]
  exact tt_ixn hk (by decide) (tt_nm (tt_some (nI_1 k)))
theorem p10_mul {j : Nat} : nI (10 ^ j) * 10 = nI (10 ^ (j + 1)) := by
  rw [show (10 : Int32) = nI 10 from rfl, nI_mul, Nat.pow_succ]
theorem p10_nz : ∀ j, j < 10 → ¬ nI (10 ^ j) = 0 := by decide +kernel
theorem p10_pos : ∀ j, j < 10 → ¬ nI (10 ^ j) ≤ 0 := by decide +kernel
theorem p10_div : ∀ j, j < 9 → nI (10 ^ (j + 1)) / 10 = nI (10 ^ j) := by decide +kernel
theorem p10_last (x : Int32) : x / nI (10 ^ 9) ≤ 9 := by
  have h : (nI (10 ^ 9)).toInt = 1000000000 := by decide +kernel
  have h9 : (9 : Int32).toInt = 9 := by decide +kernel
  have a := Int32.toInt_lt x
  have b := Int32.le_toInt x
  have d := Int.mul_tdiv_add_tmod x.toInt 1000000000
  have m1 := Int.tmod_lt_of_pos x.toInt (show (0 : Int) < 1000000000 by decide)
  have m2 := Int.lt_tmod_of_pos x.toInt (show (0 : Int) < 1000000000 by decide)
  rw [Int32.le_iff_toInt_le, Int32.toInt_div, h, h9, Int.bmod_eq_of_le (by omega) (by omega)]
  omega
theorem u_sn1 {K : Nat} {r : Int32} (hK : 200000 ≤ K) : Tt (lpF (fun u9 : Int32 => B_X8_spellsNumber_17 r u9) K (1 : Int32)) (fun x => ∃ j, j < 10 ∧ x = nI (10 ^ j)) := by
  refine tt_for (fun j u => u = nI (10 ^ j)) 9 (by omega) (by decide) (fun j u hj hu => ?_)
  unfold B_X8_spellsNumber_17
  rw [hu]
  refine tt_nz (p10_nz j (by omega)) (tt_ite (fun _ => tt_some (nx_r ⟨j, by omega, rfl⟩)) (fun q => tt_some (nx_l ?_ p10_mul)))
  refine Nat.lt_of_le_of_ne hj (fun e => q ?_)
  rw [e]
  exact p10_last r
theorem u_sn2 {K j k : Nat} {r : Int32} {s : Nat → Int32} (hK : 200000 ≤ K) (hj : j < 10) (hk : k + j + 1 ≤ 40) : Tt (lpF (fun u9 : Int32 × (Nat → Int32) × Int32 => B_X8_spellsNumber_33 r u9.1 u9.2.1 u9.2.2) K (nI (10 ^ j), s, nI k)) (fun x => x.2 = nI (k + j + 1)) := by
  refine tt_for (fun t u => (∀ i, t + i = j → u.1 = nI (10 ^ i)) ∧ (t = j + 1 → u.1 = 0) ∧ u.2.2 = nI (k + t)) (j + 1) (by omega) ⟨fun i hi => by rw [show i = j by omega], fun h => by omega, rfl⟩ (fun t u ht hu => ?_)
  obtain ⟨h1, h2, h3⟩ := hu
  unfold B_X8_spellsNumber_33
  by_cases q : t = j + 1
  · rw [h2 q, if_pos (by decide)]
    exact tt_some (nx_r (by rw [show k + j + 1 = k + t by omega]; exact h3))
  · obtain ⟨i, hi⟩ : ∃ i, t + i = j := ⟨j - t, by omega⟩
    rw [h1 i hi, if_neg (p10_pos i (by omega)), h3]
    refine tt_nz (p10_nz i (by omega)) (tt_bd2 (u_spells (by omega)) (fun a b hb => tt_some (nx_l (by omega) ⟨fun i' hi' => ?_, fun h => ?_, hb⟩)))
    · show nI (10 ^ i) / 10 = nI (10 ^ i')
      rw [show i = i' + 1 by omega]
      exact p10_div i' (by omega)
    · show nI (10 ^ i) / 10 = 0
      rw [show i = 0 by omega]
      decide
theorem u_snJ {K k : Nat} {p : Int32} {s : Nat → Int32} (hK : 200000 ≤ K) (hk : k + 10 ≤ 40) : Tt (J_X8_spellsNumber_10 K p s (nI k)) (fun x => ∃ b, b ≤ k + 10 ∧ x.2 = nI b) := by
  unfold J_X8_spellsNumber_10
  refine tt_bd1 u_above (fun r _ => tt_bd1 (u_sn1 hK) (fun x3 h3 => ?_))
  obtain ⟨j, hj, rfl⟩ := h3
  exact tt_bd2 (u_sn2 hK hj (by omega)) (fun a b hb => tt_some ⟨k + j + 1, by omega, hb⟩)
theorem u_sn {K k : Nat} {p : Int32} {s : Nat → Int32} (hK : 200000 ≤ K) (hk : k + 11 ≤ 40) : Tt (F_X8_spellsNumber K p s (nI k)) (fun x => ∃ b, b ≤ k + 11 ∧ x.2 = nI b) := by
  unfold F_X8_spellsNumber
  refine tt_ite (fun _ => tt_mono (u_snJ hK (by omega)) (fun x hx => hx.elim (fun b h => ⟨b, by omega, h.2⟩))) (fun _ => tt_bd2 (u_spells (by omega)) (fun a b hb => ?_))
  have hb : b = nI (k + 1) := hb
  rw [hb]
  exact tt_mono (u_snJ hK (by omega)) (fun x hx => hx.elim (fun b h => ⟨b, by omega, h.2⟩))
theorem lt8_9 : ∀ i, i < 8 → nI i / 1 ≤ 9 := by decide +kernel
theorem u_sn0 {K k i : Nat} {s : Nat → Int32} (hK : 200000 ≤ K) (hi : i < 8) (hk : k < 40) : Tt (F_X8_spellsNumber K (nI i) s (nI k)) (fun x => x.2 = nI (k + 1)) := by
  have h0 : (0 : Int32) ≤ nI i := by rw [x0]; exact (nI_leI (by omega) (by omega)).mpr (Nat.zero_le _)
  have e1 : lpF (fun u9 : Int32 => B_X8_spellsNumber_17 (nI i) u9) K (1 : Int32) = some 1 := by
    obtain ⟨K', rfl⟩ : ∃ K', K = K' + 1 := ⟨K - 1, by omega⟩
    refine lp_end ?_
    show nzI (1 : Int32) (if nI i / 1 ≤ (9 : Int32) then some (Sum.inr (1 : Int32)) else some (Sum.inl ((1 : Int32) * (10 : Int32)))) = _
    unfold nzI
    rw [if_neg (by decide), if_pos (lt8_9 i hi)]
  unfold F_X8_spellsNumber J_X8_spellsNumber_10 F_X8_above
  rw [if_pos h0, if_pos h0, xb1, e1, xb1]
  exact tt_bd2 (u_sn2 (j := 0) hK (by decide) (by omega)) (fun a b hb => tt_some hb)
theorem u_spellJ {b : Nat} {p2 c : Int32} {s : Nat → Int32} (hb : b ≤ 40) (e : c = nI b) : Tt (J_X8_spell_119 p2 s c) (fun _ => True) := by
  unfold J_X8_spell_119
  refine tt_ite (fun _ => tt_some trivial) (fun _ => tt_bd1 (u_inN (lo := 0) (hi := c - 1) rfl rfl) (fun r hr => tt_ite (fun _ => tt_some trivial) (fun r0 => ?_)))
  have h := hr r0
  rw [e] at h
  obtain ⟨a, ha, rfl⟩ := in_lt (by omega) h
  exact tt_ixn (by omega) (by decide) (tt_some trivial)
theorem u_spell {K n : Nat} {p1 p2 m : Int32} {g s : Nat → Int32} (hK : 200000 ≤ K) (hn : n ≤ 8) : Tt (F_X8_spell K p1 p2 g (nI n) s m) (fun _ => True) := by
  unfold F_X8_spell
  refine tt_bd1 (u_isSite hn) (fun r hr => tt_ite (fun _ => tt_some trivial) (fun r0 => ?_))
  obtain ⟨i, hi, rfl⟩ := hr r0
  rw [i0, i8, nI_clamp (show 0 + i < 2 ^ 31 by omega), nI_clamp (show 8 + i < 2 ^ 31 by omega)]
  refine tt_bd2 (u_spells (k := 0) (by decide)) (fun s1 c1 e1 => ?_)
  obtain rfl : c1 = nI 1 := e1
  refine tt_bd2 (u_spells (by decide)) (fun s2 c2 e2 => ?_)
  obtain rfl : c2 = nI 2 := e2
  refine tt_bd2 (u_spells (by decide)) (fun s3 c3 e3 => ?_)
  obtain rfl : c3 = nI 3 := e3
  refine tt_bd2 (u_spells (by decide)) (fun s4 c4 e4 => ?_)
  obtain rfl : c4 = nI 4 := e4
  refine tt_bd2 (u_spells (by decide)) (fun s5 c5 e5 => ?_)
  obtain rfl : c5 = nI 5 := e5
  refine tt_bd2 (u_sn0 hK (by omega) (by decide)) (fun s6 c6 e6 => ?_)
  obtain rfl : c6 = nI 6 := e6
  refine tt_bd2 (u_spells (by decide)) (fun s7 c7 e7 => ?_)
  obtain rfl : c7 = nI 7 := e7
  refine tt_bd2 (u_spells (by decide)) (fun s8 c8 e8 => ?_)
  obtain rfl : c8 = nI 8 := e8
  refine tt_bd2 (u_spells (by decide)) (fun s9 c9 e9 => ?_)
  obtain rfl : c9 = nI 9 := e9
  refine tt_bd2 (u_spells (by decide)) (fun s10 c10 e10 => ?_)
  obtain rfl : c10 = nI 10 := e10
  refine tt_ixn (by omega) (by decide) (tt_bd2 (u_sn hK (by decide)) (fun s11 c11 e11 => ?_))
  obtain ⟨b, hb, rfl⟩ : ∃ b, b ≤ 21 ∧ c11 = nI b := e11
  refine tt_bd2 (u_spells (by omega)) (fun s12 c12 e12 => ?_)
  obtain rfl : c12 = nI (b + 1) := e12
  refine tt_ixn (by omega) (by decide) (tt_bd2 (u_sn hK (by omega)) (fun s13 c13 e13 => ?_))
  obtain ⟨d, hd, rfl⟩ : ∃ d, d ≤ b + 1 + 11 ∧ c13 = nI d := e13
  refine tt_bd1 (u_isQuiet (by omega) hK hn) (fun r2 _ => tt_ite (fun _ => tt_bd2 (u_spells (by omega)) (fun s14 c14 e14 => u_spellJ (b := d + 1) (by omega) e14)) (fun _ => u_spellJ (b := d) (by omega) rfl))
end
-- 79b.go
section
/-! the reference's goes ends, from any numbers: a round of signals brings KNOWN to the counts' sum, half the way at most -/
def sm (g : Nat → Int32) : Nat → Int32
  | 0 => 0
  | k + 1 => sm g k + g (48 + k)
theorem sm_eq {g h : Nat → Int32} (e : ∀ y, y < 56 → h y = g y) : ∀ n, n ≤ 8 → sm h n = sm g n := by
  intro n
  induction n with
  | zero => exact fun _ => rfl
  | succ k ih =>
    intro hk
    show sm h k + h (48 + k) = sm g k + g (48 + k)
    rw [ih (by omega), e (48 + k) (by omega)]
theorem sm_up {g : Nat → Int32} {i : Nat} : ∀ n, sm (upd g (48 + i) (g (48 + i) + 1)) n = if i < n then sm g n + 1 else sm g n := by
  intro n
  induction n with
  | zero => exact (if_neg (Nat.not_lt_zero _)).symm
  | succ k ih =>
    show sm (upd g (48 + i) (g (48 + i) + 1)) k + upd g (48 + i) (g (48 + i) + 1) (48 + k) = if i < k + 1 then (sm g k + g (48 + k)) + 1 else sm g k + g (48 + k)
    rw [ih]
    by_cases e : i = k
    · rw [e, if_neg (Nat.lt_irrefl _), if_pos (Nat.lt_succ_self _), upd_at, Int32.add_assoc]
    · rw [upd_no (by omega)]
      by_cases q : i < k
      · rw [if_pos q, if_pos (by omega), Int32.add_assoc, Int32.add_comm 1, Int32.add_assoc]
      · rw [if_neg q, if_neg (by omega)]
theorem m_sum48 {K n : Nat} {g : Nat → Int32} (hK : 200000 ≤ K) (hn : n ≤ 8) : F_X8_sum K 48 g (nI n) = some (sm g n) := by
  have h : lpF (fun u9 : Int32 × Int32 => B_X8_sum_4 48 (nI n) g u9.1 u9.2) K ((0 : Int32), (0 : Int32)) = some (sm g n) := by
    refine lp_for (fun j => (sm g j, nI j)) (n := n) (by omega) (fun j hj => ?_) ?_
    · show B_X8_sum_4 48 (nI n) g (sm g j) (nI j) = some (.inl (sm g j + g (48 + j), nI (j + 1)))
      unfold B_X8_sum_4
      rw [if_neg (mt (nI_leI (a := n) (b := j) (by omega) (by omega)).mp (by omega)), i48, xixn (by omega) (by decide), nI_clamp (by omega), nI_1]
    · show B_X8_sum_4 48 (nI n) g (sm g n) (nI n) = some (.inr (sm g n))
      unfold B_X8_sum_4
      rw [if_pos ((nI_leI (a := n) (b := n) (by omega) (by omega)).mpr (Nat.le_refl _))]
  unfold F_X8_sum
  rw [h, xb1]
def st (n : Nat) (g : Nat → Int32) : Nat := (g 66 - g 73).toInt.toNat / (2 * n)
theorem st_of {n : Nat} {g h : Nat → Int32} (e1 : h 66 = g 66) (e2 : h 73 = g 73) : st n h = st n g := by unfold st; rw [e1, e2]
theorem m_step {n : Nat} {g : Nat → Int32} (h0 : 0 < n) (hn : n ≤ 8) : F_X8_step g (nI n) = some (nI (st n g)) := by
  unfold F_X8_step st
  generalize g 66 - g 73 = x
  have z : (0 : Int32).toInt = 0 := rfl
  have hm : x.toInt.toNat < 2 ^ 31 := by have := Int32.toInt_lt x; omega
  by_cases q : x ≤ 0
  · have h : x.toInt ≤ 0 := by have := Int32.le_iff_toInt_le.mp q; omega
    rw [if_pos q, show x.toInt.toNat = 0 by omega, Nat.zero_div]
    rfl
  · have h : 0 < x.toInt := by have := mt Int32.le_iff_toInt_le.mpr q; omega
    have hx : x = nI x.toInt.toNat := by
      apply Int32.toInt_inj.mp
      rw [nI_toInt hm]
      omega
    have e2 : (2 : Int32) * nI n = nI (2 * n) := by rw [show (2 : Int32) = nI 2 from rfl, nI_mul]
    have ed : x / nI (2 * n) = nI (x.toInt.toNat / (2 * n)) := (congrArg (fun y => y / nI (2 * n)) hx).trans (Int32.ofNat_div hm (by omega)).symm
    have enz : ¬ nI (2 * n) = 0 := fun e => by
      have := (nI_eq (a := 2 * n) (b := 0) (by omega) (by omega)).mp e
      omega
    rw [if_neg q, e2]
    unfold nzI
    rw [if_neg enz, ed]
theorem st_lt {n : Nat} {g : Nat → Int32} (h0 : 0 < n) : n * st n g ≤ (g 66 - g 73).toInt.toNat ∧ 2 * (n * st n g) < 2 ^ 31 ∧ st n g < 2 ^ 30 := by
  have hm : (g 66 - g 73).toInt.toNat < 2 ^ 31 := by have := Int32.toInt_lt (g 66 - g 73); omega
  have h := Nat.div_mul_le_self (g 66 - g 73).toInt.toNat (2 * n)
  have e : st n g * (2 * n) = 2 * (n * st n g) := by rw [Nat.mul_comm, Nat.mul_assoc]
  have h2 : st n g * (2 * n) ≤ (g 66 - g 73).toInt.toNat := h
  have h3 : 1 * st n g ≤ n * st n g := Nat.mul_le_mul_right _ h0
  omega
theorem u_ends2 {K n : Nat} {g : Nat → Int32} (hK : 200000 ≤ K) (hn : n ≤ 8) : Tt (F_X8_endsRound K g (nI n)) (fun x => x 84 = g 84 ∧ x 66 = g 66 ∧ sm x n = sm g n ∧ x 73 = sm g n ∧ x 75 = 0 ∧ ∀ i, i < n → x (56 + i) = 0) := by
  unfold F_X8_endsRound
  rw [m_sum48 hK hn, xb1]
  refine tt_nm ?_
  refine tt_bd1 (P := fun x => (x 84 = g 84 ∧ x 66 = g 66 ∧ (∀ y, y < 56 → x y = g y) ∧ x 73 = sm g n) ∧ ∀ i, i < n → x (56 + i) = 0) (tt_for (fun j u => u.1 = nI j ∧ (u.2 84 = g 84 ∧ u.2 66 = g 66 ∧ (∀ y, y < 56 → u.2 y = g y) ∧ u.2 73 = sm g n) ∧ ∀ i, i < j → u.2 (56 + i) = 0) 8 (by omega) ⟨rfl, ⟨show upd g 73 (sm g n) 84 = g 84 from upd_no (by decide), show upd g 73 (sm g n) 66 = g 66 from upd_no (by decide), fun y hy => show upd g 73 (sm g n) y = g y from upd_no (by omega), show upd g 73 (sm g n) 73 = sm g n from upd_at⟩, fun i hi => absurd hi (Nat.not_lt_zero _)⟩ (fun j u hj hu => ?_)) (fun w hw => tt_nm (tt_nm (tt_some ?_)))
  · obtain ⟨h1, ⟨a1, a2, a3, a4⟩, h3⟩ := hu
    unfold B_X8_endsRound_15
    refine tt_ite (fun q => tt_some (nx_r ⟨⟨a1, a2, a3, a4⟩, fun i hi => h3 i ?_⟩)) (fun q => ?_)
    · rw [h1] at q
      have := (nI_leI (a := n) (b := j) (by omega) (by omega)).mp q
      omega
    · have jl := sl hn hj h1 q
      rw [h1, i56, nI_clamp (by omega)]
      refine tt_ixn (by omega) (by decide) (tt_nm (tt_some (nx_l (by omega) ⟨nx1 rfl, ⟨(upd_no (by omega)).trans a1, (upd_no (by omega)).trans a2, fun y hy => (upd_no (by omega)).trans (a3 y hy), (upd_no (by omega)).trans a4⟩, fun i hi => ?_⟩)))
      by_cases e : i = j
      · rw [e]
        exact upd_at
      · exact (upd_no (by omega)).trans (h3 i (by omega))
  · obtain ⟨⟨a1, a2, a3, a4⟩, h3⟩ := hw
    exact ⟨(upd_no (by decide)).trans ((upd_no (by decide)).trans a1), (upd_no (by decide)).trans ((upd_no (by decide)).trans a2), sm_eq (fun y hy => (upd_no (by omega)).trans ((upd_no (by omega)).trans (a3 y hy))) n hn, (upd_no (by decide)).trans ((upd_no (by decide)).trans a4), (upd_no (by decide)).trans upd_at, fun i hi => (upd_no (by omega)).trans ((upd_no (by omega)).trans (h3 i hi))⟩
abbrev AJ (n i s a : Nat) (h : Nat → Int32) (k : Nat) (u : Int32 × (Nat → Int32)) : Prop := u.2 84 = h 84 ∧ u.2 66 = h 66 ∧ sm u.2 n = sm h n ∧ ((u.2 73 = h 73 ∧ ∃ t, t < n ∧ u.2 75 = nI t ∧ k = n - t + 2 ∧ (0 ≤ (h (56 + i)).toInt → 0 ≤ (u.2 (56 + i)).toInt) ∧ (u.2 (56 + i)).toInt + ((t * a : Nat) : Int) = (h (56 + i)).toInt + ((s * a : Nat) : Int)) ∨ (k = 1 ∧ u.2 73 = sm u.2 n ∧ u.2 75 = 0 ∧ u.2 (56 + i) = 0 ∧ ((n * a : Nat) : Int) ≤ (h (56 + i)).toInt + ((s * a : Nat) : Int)))
def AR (n i s a : Nat) (h w : Nat → Int32) : Prop := w 84 = h 84 ∧ w 66 = h 66 ∧ sm w n = sm h n ∧ ((w 73 = h 73 ∧ ∃ t, t < n ∧ w 75 = nI t ∧ (w (56 + i)).toInt < (a : Int) ∧ (0 ≤ (h (56 + i)).toInt → 0 ≤ (w (56 + i)).toInt) ∧ (w (56 + i)).toInt + ((t * a : Nat) : Int) = (h (56 + i)).toInt + ((s * a : Nat) : Int)) ∨ (w 73 = sm w n ∧ w 75 = 0 ∧ w (56 + i) = 0 ∧ ((n * a : Nat) : Int) ≤ (h (56 + i)).toInt + ((s * a : Nat) : Int)))
theorem sub_toInt {x : Int32} {a : Nat} (ha : a < 2 ^ 30) (h : (a : Int) ≤ x.toInt) : (x - nI a).toInt = x.toInt - (a : Int) := by
  have h1 := Int32.toInt_lt x
  rw [Int32.toInt_sub, nI_toInt (by omega), Int.bmod_eq_of_le (by omega) (by omega)]
theorem u_add1B {K n i s a k : Nat} {h w : Nat → Int32} {x3 : Int32} (hi : i < n) (hK : 200000 ≤ K) (hn : n ≤ 8) (ha : a = st n h) (a0 : 0 < a) (hu : AJ n i s a h k (x3, w)) : Tt (B_X8_addsNow_48 K (nI i) (nI n) x3 w) (Dn (AJ n i s a h) (fun x : Int32 × (Nat → Int32) => AR n i s a h x.2) k) := by
  obtain ⟨h1, h2, h3, h4⟩ := hu
  have h1 : w 84 = h 84 := h1
  have h2 : w 66 = h 66 := h2
  have h3 : sm w n = sm h n := h3
  have hb : st n w < 2 ^ 30 := (st_lt (by omega)).2.2
  unfold B_X8_addsNow_48
  rw [i56, nI_clamp (show 56 + i < 2 ^ 31 by omega)]
  simp only [m_step (show 0 < n by omega) hn, xb1]
  rcases h4 with ⟨h5, t, ht, h6, h7, h8, h9⟩ | ⟨h5, h6, h7, h8, h9⟩
  · have h5 : w 73 = h 73 := h5
    have h6 : w 75 = nI t := h6
    have h8 : 0 ≤ (h (56 + i)).toInt → 0 ≤ (w (56 + i)).toInt := h8
    have h9 : (w (56 + i)).toInt + ((t * a : Nat) : Int) = (h (56 + i)).toInt + ((s * a : Nat) : Int) := h9
    have es : st n w = a := (st_of h2 h5).trans ha.symm
    rw [es] at hb ⊢
    refine tt_ite (fun q => absurd ((nI_leI (a := a) (b := 0) (by omega) (by omega)).mp q) (by omega)) (fun _ => tt_ixn (by omega) (by decide) (tt_ite (fun q => tt_some (dn_r ⟨h1, h2, h3, Or.inl ⟨h5, t, ht, h6, ?_, h8, h9⟩⟩)) (fun q => ?_)))
    · have := Int32.lt_iff_toInt_lt.mp q
      rw [nI_toInt (by omega)] at this
      exact this
    have qa : (a : Int) ≤ (w (56 + i)).toInt := by
      have := mt Int32.lt_iff_toInt_lt.mpr q
      rw [nI_toInt (by omega)] at this
      omega
    refine tt_ixn (by omega) (by decide) (tt_ixn (by omega) (by decide) (tt_nm (tt_nm ?_)))
    have f75 : upd (upd w (56 + i) (w (56 + i) - nI a)) 75 (upd w (56 + i) (w (56 + i) - nI a) 75 + 1) 75 = nI (t + 1) := by
      rw [upd_at, upd_no (by omega), h6, nI_1]
    have f84 : upd (upd w (56 + i) (w (56 + i) - nI a)) 75 (upd w (56 + i) (w (56 + i) - nI a) 75 + 1) 84 = h 84 := by
      rw [upd_no (by decide), upd_no (by omega), h1]
    have f66 : upd (upd w (56 + i) (w (56 + i) - nI a)) 75 (upd w (56 + i) (w (56 + i) - nI a) 75 + 1) 66 = h 66 := by
      rw [upd_no (by decide), upd_no (by omega), h2]
    have f73 : upd (upd w (56 + i) (w (56 + i) - nI a)) 75 (upd w (56 + i) (w (56 + i) - nI a) 75 + 1) 73 = h 73 := by
      rw [upd_no (by decide), upd_no (by omega), h5]
    have fsm : sm (upd (upd w (56 + i) (w (56 + i) - nI a)) 75 (upd w (56 + i) (w (56 + i) - nI a) 75 + 1)) n = sm h n := by
      rw [sm_eq (g := w) (fun y hy => by rw [upd_no (by omega), upd_no (by omega)]) n hn, h3]
    have f56 : (upd (upd w (56 + i) (w (56 + i) - nI a)) 75 (upd w (56 + i) (w (56 + i) - nI a) 75 + 1) (56 + i)).toInt = (w (56 + i)).toInt - (a : Int) := by
      rw [upd_no (by omega), upd_at, sub_toInt hb qa]
    have em : (t + 1) * a = t * a + a := Nat.succ_mul t a
    generalize upd (upd w (56 + i) (w (56 + i) - nI a)) 75 (upd w (56 + i) (w (56 + i) - nI a) 75 + 1) = v at f75 f84 f66 f73 fsm f56 ⊢
    refine tt_ite (fun c => tt_bd1 (u_ends2 hK hn) (fun w2 hw2 => tt_some (dn_l (k' := 1) (by omega) ?_))) (fun c => tt_some (dn_l (k' := n - (t + 1) + 2) (by omega) ⟨f84, f66, fsm, Or.inl ⟨f73, t + 1, ?_, f75, rfl, fun z => ?_, ?_⟩⟩))
    · obtain ⟨b1, b2, b3, b4, b5, b6⟩ := hw2
      rw [f75] at c
      have tn : t + 1 = n := (nI_eq (a := t + 1) (b := n) (by omega) (by omega)).mp c
      refine ⟨b1.trans f84, b2.trans f66, b3.trans fsm, Or.inr ⟨rfl, b4.trans b3.symm, b5, b6 i hi, ?_⟩⟩
      rw [← tn, em]
      omega
    · rw [f75] at c
      have := mt (nI_eq (a := t + 1) (b := n) (by omega) (by omega)).mpr c
      omega
    · show 0 ≤ (v (56 + i)).toInt
      rw [f56]
      omega
    · show (v (56 + i)).toInt + (((t + 1) * a : Nat) : Int) = _
      rw [f56, em]
      omega
  · have h6 : w 73 = sm w n := h6
    have h7 : w 75 = 0 := h7
    have h8 : w (56 + i) = 0 := h8
    have fin : AR n i s a h w := ⟨h1, h2, h3, Or.inr ⟨h6, h7, h8, h9⟩⟩
    refine tt_ite (fun _ => tt_some (dn_r fin)) (fun q => tt_ixn (by omega) (by decide) (tt_ite (fun _ => tt_some (dn_r fin)) (fun q2 => ?_)))
    exfalso
    apply q2
    rw [h8]
    exact lt_not.mpr q
def Ad1 (n i s : Nat) (g w : Nat → Int32) : Prop := w 84 = g 84 ∧ w 66 = g 66 ∧ sm w n = sm g n + 1 ∧ ((st n g = 0 ∧ w 73 = g 73 + 1 ∧ w 75 = g 75 ∧ w (56 + i) = g (56 + i)) ∨ (0 < st n g ∧ w 73 = g 73 ∧ ∃ t, t < n ∧ w 75 = nI t ∧ (w (56 + i)).toInt < (st n g : Int) ∧ (0 ≤ (g (56 + i) + 1).toInt → 0 ≤ (w (56 + i)).toInt) ∧ (w (56 + i)).toInt + ((t * st n g : Nat) : Int) = (g (56 + i) + 1).toInt + ((s * st n g : Nat) : Int)) ∨ (0 < st n g ∧ w 73 = sm w n ∧ w 75 = 0 ∧ w (56 + i) = 0 ∧ ((n * st n g : Nat) : Int) ≤ (g (56 + i) + 1).toInt + ((s * st n g : Nat) : Int)))
theorem u_add1 {K n i s : Nat} {g : Nat → Int32} (hi : i < n) (hK : 200000 ≤ K) (hn : n ≤ 8) (hs : s < n) (e75 : g 75 = nI s) : Tt (F_X8_addsNow K (nI i) 1 g (nI n)) (fun x => Ad1 n i s g x.2) := by
  unfold F_X8_addsNow
  simp only [i48, i56, nI_clamp (show 48 + i < 2 ^ 31 by omega), nI_clamp (show 56 + i < 2 ^ 31 by omega), m_step (show 0 < n by omega) hn, xb1]
  have hb : st n g < 2 ^ 30 := (st_lt (by omega)).2.2
  have s1 : st n (upd g (48 + i) (g (48 + i) + 1)) = st n g := st_of (upd_no (by omega)) (upd_no (by omega))
  have s2 : sm (upd g (48 + i) (g (48 + i) + 1)) n = sm g n + 1 := by rw [sm_up, if_pos hi]
  refine tt_ixn (by omega) (by decide) (tt_ixn (by omega) (by decide) (tt_nm ?_))
  rw [s1]
  refine tt_ite (fun c => tt_nm (tt_some ?_)) (fun c => tt_ixn (by omega) (by decide) (tt_ixn (by omega) (by decide) (tt_nm ?_)))
  · have c0 : st n g = 0 := (nI_eq (a := st n g) (b := 0) (by omega) (by omega)).mp c
    have r84 : upd (upd g (48 + i) (g (48 + i) + 1)) 73 (upd g (48 + i) (g (48 + i) + 1) 73 + 1) 84 = g 84 := by rw [upd_no (by decide), upd_no (by omega)]
    have r66 : upd (upd g (48 + i) (g (48 + i) + 1)) 73 (upd g (48 + i) (g (48 + i) + 1) 73 + 1) 66 = g 66 := by rw [upd_no (by decide), upd_no (by omega)]
    have r75 : upd (upd g (48 + i) (g (48 + i) + 1)) 73 (upd g (48 + i) (g (48 + i) + 1) 73 + 1) 75 = g 75 := by rw [upd_no (by decide), upd_no (by omega)]
    have r56 : upd (upd g (48 + i) (g (48 + i) + 1)) 73 (upd g (48 + i) (g (48 + i) + 1) 73 + 1) (56 + i) = g (56 + i) := by rw [upd_no (by omega), upd_no (by omega)]
    have r73 : upd (upd g (48 + i) (g (48 + i) + 1)) 73 (upd g (48 + i) (g (48 + i) + 1) 73 + 1) 73 = g 73 + 1 := by rw [upd_at, upd_no (by omega)]
    have rsm : sm (upd (upd g (48 + i) (g (48 + i) + 1)) 73 (upd g (48 + i) (g (48 + i) + 1) 73 + 1)) n = sm g n + 1 := by
      rw [sm_eq (g := upd g (48 + i) (g (48 + i) + 1)) (fun y hy => upd_no (by omega)) n hn, s2]
    exact ⟨r84, r66, rsm, Or.inl ⟨c0, r73, r75, r56⟩⟩
  · have a0 : 0 < st n g := Nat.pos_of_ne_zero (fun e => c (by rw [e]; rfl))
    have f66 : upd (upd g (48 + i) (g (48 + i) + 1)) (56 + i) (upd g (48 + i) (g (48 + i) + 1) (56 + i) + 1) 66 = g 66 := by rw [upd_no (by omega), upd_no (by omega)]
    have f73 : upd (upd g (48 + i) (g (48 + i) + 1)) (56 + i) (upd g (48 + i) (g (48 + i) + 1) (56 + i) + 1) 73 = g 73 := by rw [upd_no (by omega), upd_no (by omega)]
    have f84 : upd (upd g (48 + i) (g (48 + i) + 1)) (56 + i) (upd g (48 + i) (g (48 + i) + 1) (56 + i) + 1) 84 = g 84 := by rw [upd_no (by omega), upd_no (by omega)]
    have f75 : upd (upd g (48 + i) (g (48 + i) + 1)) (56 + i) (upd g (48 + i) (g (48 + i) + 1) (56 + i) + 1) 75 = nI s := by rw [upd_no (by omega), upd_no (by omega), e75]
    have f56 : upd (upd g (48 + i) (g (48 + i) + 1)) (56 + i) (upd g (48 + i) (g (48 + i) + 1) (56 + i) + 1) (56 + i) = g (56 + i) + 1 := by rw [upd_at, upd_no (by omega)]
    have fsm : sm (upd (upd g (48 + i) (g (48 + i) + 1)) (56 + i) (upd g (48 + i) (g (48 + i) + 1) (56 + i) + 1)) n = sm g n + 1 := by
      rw [sm_eq (g := upd g (48 + i) (g (48 + i) + 1)) (fun y hy => upd_no (by omega)) n hn, s2]
    generalize upd (upd g (48 + i) (g (48 + i) + 1)) (56 + i) (upd g (48 + i) (g (48 + i) + 1) (56 + i) + 1) = h at f66 f73 f84 f75 f56 fsm ⊢
    have sh : st n g = st n h := st_of f66.symm f73.symm
    refine tt_bd2 (tt_tot (AJ n i s (st n g) h) (fun k u hu => u_add1B hi hK hn sh a0 hu) K (n - s + 2) _ (by omega) ⟨rfl, rfl, rfl, Or.inl ⟨rfl, s, hs, f75, rfl, fun z => z, rfl⟩⟩) (fun x w hw => tt_some ?_)
    obtain ⟨b1, b2, b3, b4⟩ := hw
    rw [f56] at b4
    refine ⟨b1.trans f84, b2.trans f66, b3.trans fsm, ?_⟩
    rcases b4 with ⟨c1, t, c2, c3, c4, c5, c6⟩ | ⟨c1, c2, c3, c4⟩
    · exact Or.inr (Or.inl ⟨a0, c1.trans f73, t, c2, c3, c4, c5, c6⟩)
    · exact Or.inr (Or.inr ⟨a0, c1, c2, c3, c4⟩)
end
-- 79c.gw
section
/-! the loop of goes: what falls -/
def Lf (w : Nat → Int32) : Int := (w 66).toInt - (w 73).toInt
theorem Lf_hi (w : Nat → Int32) : Lf w < 4294967296 := by
  unfold Lf
  have := Int32.toInt_lt (w 66)
  have := Int32.le_toInt (w 73)
  omega
theorem st_lo {n : Nat} {w : Nat → Int32} (h : 0 ≤ Lf w) (h2 : Lf w < 2147483648) : st n w = (Lf w).toNat / (2 * n) := by
  unfold Lf at h h2
  unfold st Lf
  rw [Int32.toInt_sub, Int.bmod_eq_of_le (by omega) (by omega)]
theorem st_hi {n : Nat} {w : Nat → Int32} (h : 2147483648 ≤ Lf w) : st n w = 0 := by
  have h3 := Lf_hi w
  unfold Lf at h h3
  unfold st
  have e : ((w 66).toInt - (w 73).toInt).bmod (2 ^ 32) = ((w 66).toInt - (w 73).toInt - 4294967296) := by
    rw [Int.bmod_def]
    split <;> omega
  rw [Int32.toInt_sub, e, show ((w 66).toInt - (w 73).toInt - 4294967296).toNat = 0 by omega, Nat.zero_div]
theorem add1_toInt {x y : Int32} (h : x < y) : (x + 1).toInt = x.toInt + 1 := by
  have a := Int32.lt_iff_toInt_lt.mp h
  have b := Int32.toInt_lt y
  have c := Int32.le_toInt x
  have o : (1 : Int32).toInt = 1 := rfl
  rw [Int32.toInt_add, o, Int.bmod_eq_of_le (by omega) (by omega)]
theorem add1_toInt' {x : Int32} (h : x.toInt < 2147483647) : (x + 1).toInt = x.toInt + 1 := by
  have c := Int32.le_toInt x
  have o : (1 : Int32).toInt = 1 := rfl
  rw [Int32.toInt_add, o, Int.bmod_eq_of_le (by omega) (by omega)]
def GP (n i s k : Nat) (w : Nat → Int32) : Prop :=
  (st n w = 0 ∧ Lf w < 2147483648 ∧ k = (Lf w).toNat) ∨
  (0 < st n w ∧ (w (56 + i)).toInt < (st n w : Int) ∧ (k : Int) = 73786976294838206464 + (((n * st n w : Nat) : Int) - ((s * st n w : Nat) : Int) - (w (56 + i)).toInt)) ∨
  (0 < st n w ∧ k = 147573952589676412928) ∨
  (2147483648 ≤ Lf w ∧ (k : Int) = 295147905179352825856 + Lf w) ∨
  (∃ r, w (56 + i) = nI r ∧ (r < st n w ∨ (r = 0 ∧ s = 0)) ∧ w 73 + nI (s * st n w + r) = sm w n ∧ k = (Lf w * 4294967296 + ((n * st n w : Nat) : Int) - ((s * st n w + r : Nat) : Int)).toNat)
theorem sa_lt {s n a : Nat} (hs : s < n) : s * a + a ≤ n * a := by
  have := Nat.mul_le_mul_right a (show s + 1 ≤ n by omega)
  rw [Nat.succ_mul] at this
  exact this
theorem gp_end {n i : Nat} {v : Nat → Int32} (h0 : 0 < n) (v73 : v 73 = sm v n) (v56 : v (56 + i) = 0) : GP n i 0 (Lf v * 4294967296 + ((n * st n v : Nat) : Int)).toNat v := by
  refine Or.inr (Or.inr (Or.inr (Or.inr ⟨0, v56, Or.inr ⟨rfl, rfl⟩, ?_, ?_⟩)))
  · rw [Nat.zero_mul, v73]
    exact Int32.add_zero _
  · rw [Nat.zero_mul]
    congr 1
    omega
theorem gp_1 {n i s k : Nat} {w v : Nat → Int32} (h0 : 0 < n) (hn : n ≤ 8) (h : GP n i s k w) (hlt : w 73 < w 66) (v66 : v 66 = w 66) (vsm : sm v n = sm w n + 1) (a0 : st n w = 0) (v73 : v 73 = w 73 + 1) (v56 : v (56 + i) = w (56 + i)) : ∃ k', k' < k ∧ GP n i s k' v := by
  have hL : 0 < Lf w := by unfold Lf; have := Int32.lt_iff_toInt_lt.mp hlt; omega
  have hv : Lf v = Lf w - 1 := by
    unfold Lf
    rw [v66, v73, add1_toInt hlt]
    omega
  have hb := (st_lt (g := v) h0).2.1
  rcases h with ⟨-, b1, b2⟩ | ⟨b0, -⟩ | ⟨b0, -⟩ | ⟨b1, b2⟩ | ⟨r, b1, b2, b3, b4⟩
  · have e := st_lo (n := n) (w := w) (by omega) b1
    rw [a0] at e
    have q : (Lf w).toNat < 2 * n := by
      rcases Nat.lt_or_ge (Lf w).toNat (2 * n) with q | q
      · exact q
      · have := Nat.div_pos q (show 0 < 2 * n by omega)
        omega
    refine ⟨(Lf v).toNat, by omega, Or.inl ⟨?_, by omega, rfl⟩⟩
    rw [st_lo (by omega) (by omega)]
    exact Nat.div_eq_of_lt (by omega)
  · omega
  · omega
  · by_cases q : 2147483648 ≤ Lf v
    · exact ⟨k - 1, by omega, Or.inr (Or.inr (Or.inr (Or.inl ⟨q, by omega⟩)))⟩
    · refine ⟨147573952589676412928, by omega, Or.inr (Or.inr (Or.inl ⟨?_, rfl⟩))⟩
      rw [st_lo (by omega) (by omega)]
      exact Nat.div_pos (by omega) (by omega)
  · obtain ⟨rfl, rfl⟩ : r = 0 ∧ s = 0 := by
      rcases b2 with b2 | b2
      · omega
      · exact b2
    rw [Nat.zero_mul] at b3 b4
    have b3 : w 73 + nI 0 = sm w n := b3
    rw [show nI 0 = (0 : Int32) from rfl, Int32.add_zero] at b3
    rw [a0, Nat.mul_zero] at b4
    refine ⟨(Lf v * 4294967296 + ((n * st n v : Nat) : Int)).toNat, by omega, gp_end h0 ?_ (v56.trans b1)⟩
    rw [v73, vsm, b3]
theorem gp_2 {n i s t k : Nat} {w v : Nat → Int32} (h0 : 0 < n) (hn : n ≤ 8) (hs : s < n) (ht : t < n) (h : GP n i s k w) (hlt : w 73 < w 66) (v66 : v 66 = w 66) (vsm : sm v n = sm w n + 1) (a0 : 0 < st n w) (v73 : v 73 = w 73) (vlt : (v (56 + i)).toInt < (st n w : Int)) (vnn : 0 ≤ (w (56 + i) + 1).toInt → 0 ≤ (v (56 + i)).toInt) (veq : (v (56 + i)).toInt + ((t * st n w : Nat) : Int) = (w (56 + i) + 1).toInt + ((s * st n w : Nat) : Int)) : ∃ k', k' < k ∧ GP n i t k' v := by
  have hL : 0 < Lf w := by unfold Lf; have := Int32.lt_iff_toInt_lt.mp hlt; omega
  have hv : Lf v = Lf w := by unfold Lf; rw [v66, v73]
  have sv : st n v = st n w := st_of v66 v73
  have hb := st_lt (g := w) h0
  have hS := sa_lt (a := st n w) hs
  have hT := sa_lt (a := st n w) ht
  have lo := Int32.le_toInt (v (56 + i))
  rcases h with ⟨b0, -⟩ | ⟨-, b1, b2⟩ | ⟨-, b1⟩ | ⟨b1, -⟩ | ⟨r, b1, b2, b3, b4⟩
  · omega
  · rw [add1_toInt' (by omega)] at veq
    refine ⟨k - 1, by omega, Or.inr (Or.inl ?_)⟩
    rw [sv]
    exact ⟨a0, vlt, by omega⟩
  · refine ⟨(73786976294838206464 + (((n * st n w : Nat) : Int) - ((t * st n w : Nat) : Int) - (v (56 + i)).toInt)).toNat, by omega, Or.inr (Or.inl ?_)⟩
    rw [sv]
    exact ⟨a0, vlt, by omega⟩
  · have := st_hi (n := n) b1
    omega
  · have hr : r < st n w := by
      rcases b2 with b2 | b2
      · exact b2
      · omega
    have rt : (w (56 + i)).toInt = (r : Int) := by rw [b1, nI_toInt (by omega)]
    rw [add1_toInt' (by omega), rt] at veq vnn
    have nn := vnn (by omega)
    have rv : v (56 + i) = nI (v (56 + i)).toInt.toNat := by
      apply Int32.toInt_inj.mp
      rw [nI_toInt (by omega)]
      omega
    have et : t * st n w + (v (56 + i)).toInt.toNat = s * st n w + r + 1 := by omega
    refine ⟨k - 1, by omega, Or.inr (Or.inr (Or.inr (Or.inr ⟨(v (56 + i)).toInt.toNat, rv, Or.inl ?_, ?_, ?_⟩)))⟩
    · rw [sv]
      omega
    · rw [sv, et, vsm, v73, ← b3, ← nI_1, Int32.add_assoc]
    · rw [sv, et, hv]
      omega
theorem gp_3 {n i s k : Nat} {w v : Nat → Int32} (h0 : 0 < n) (hn : n ≤ 8) (hs : s < n) (h : GP n i s k w) (hlt : w 73 < w 66) (v66 : v 66 = w 66) (vsm : sm v n = sm w n + 1) (a0 : 0 < st n w) (v73 : v 73 = sm v n) (v56 : v (56 + i) = 0) (hge : ((n * st n w : Nat) : Int) ≤ (w (56 + i) + 1).toInt + ((s * st n w : Nat) : Int)) : ∃ k', k' < k ∧ GP n i 0 k' v := by
  have hL : 0 < Lf w := by unfold Lf; have := Int32.lt_iff_toInt_lt.mp hlt; omega
  have hb := st_lt (g := w) h0
  have hb2 := (st_lt (g := v) h0).2.1
  have hS := sa_lt (a := st n w) hs
  have hvh := Lf_hi v
  refine ⟨(Lf v * 4294967296 + ((n * st n v : Nat) : Int)).toNat, ?_, gp_end h0 v73 v56⟩
  rcases h with ⟨b0, -⟩ | ⟨-, b1, b2⟩ | ⟨-, b1⟩ | ⟨b1, -⟩ | ⟨r, b1, b2, b3, b4⟩
  · omega
  · omega
  · omega
  · have := st_hi (n := n) b1
    omega
  · have hr : r < st n w := by
      rcases b2 with b2 | b2
      · exact b2
      · omega
    have rt : (w (56 + i)).toInt = (r : Int) := by rw [b1, nI_toInt (by omega)]
    rw [add1_toInt' (by omega), rt] at hge
    have ep : s * st n w + r + 1 = n * st n w := by omega
    have hlo : Lf w < 2147483648 := by
      rcases Int.lt_or_le (Lf w) 2147483648 with q | q
      · exact q
      · have := st_hi (n := n) q
        omega
    have em : (w 66 - w 73).toInt = Lf w := by
      have h2 := hlo
      have h1 := hL
      unfold Lf at h1 h2 ⊢
      rw [Int32.toInt_sub, Int.bmod_eq_of_le (by omega) (by omega)]
    have e73 : v 73 = w 73 + nI (n * st n w) := by rw [v73, vsm, ← b3, ← ep, ← nI_1, Int32.add_assoc]
    have t73 : (v 73).toInt = (w 73).toInt + ((n * st n w : Nat) : Int) := by
      have c1 := Int32.le_toInt (w 73)
      have c2 := Int32.toInt_lt (w 66)
      have c3 : Lf w = (w 66).toInt - (w 73).toInt := rfl
      rw [e73, Int32.toInt_add, nI_toInt (by omega), Int.bmod_eq_of_le (by omega) (by omega)]
    have hv : Lf v = Lf w - ((n * st n w : Nat) : Int) := by
      unfold Lf
      rw [v66, t73]
      omega
    omega
abbrev GI (n i : Nat) (g : Nat → Int32) (k : Nat) (u : Int32 × Int32 × (Nat → Int32)) : Prop := u.2.2 84 = g 84 ∧ ∃ s, s < n ∧ u.2.2 75 = nI s ∧ GP n i s k u.2.2
theorem u_goesB {K n i k : Nat} {g w : Nat → Int32} {x3 x4 : Int32} (hi : i < n) (hK : 200000 ≤ K) (hn : n ≤ 8) (hu : GI n i g k (x3, x4, w)) : Tt (B_X8_goes_36 K (nI i) (nI n) x3 x4 w) (Dn (GI n i g) (fun x : Int32 × Int32 × (Nat → Int32) => x.2.2 84 = g 84) k) := by
  obtain ⟨h1, s, hs, h2, h3⟩ := hu
  have h1 : w 84 = g 84 := h1
  have h2 : w 75 = nI s := h2
  have h3 : GP n i s k w := h3
  have h0 : 0 < n := by omega
  unfold B_X8_goes_36 F_X8_isReached
  by_cases q : w 73 < w 66
  · rw [if_pos q, xb1, if_pos rfl]
    refine tt_bd2 (u_add1 hi hK hn hs h2) (fun r v hv => tt_some ?_)
    obtain ⟨v84, v66, vsm, cl⟩ := hv
    rcases cl with ⟨a0, v73, v75, v56⟩ | ⟨a0, v73, t, ht, v75, vlt, vnn, veq⟩ | ⟨a0, v73, v75, v56, hge⟩
    · obtain ⟨k', hk, hg⟩ := gp_1 h0 hn h3 q v66 vsm a0 v73 v56
      exact dn_l hk ⟨v84.trans h1, s, hs, v75.trans h2, hg⟩
    · obtain ⟨k', hk, hg⟩ := gp_2 h0 hn hs ht h3 q v66 vsm a0 v73 vlt vnn veq
      exact dn_l hk ⟨v84.trans h1, t, ht, v75, hg⟩
    · obtain ⟨k', hk, hg⟩ := gp_3 h0 hn hs h3 q v66 vsm a0 v73 v56 hge
      exact dn_l hk ⟨v84.trans h1, 0, h0, v75, hg⟩
  · rw [if_neg q, xb1, if_neg (by decide)]
    exact tt_some (dn_r h1)
theorem u_goes {K n : Nat} {p1 p2 : Int32} {g as : Nat → Int32} (hK : 590295810358705651712 ≤ K) (hn : n ≤ 8) (hs : SgOK n (g 75)) : Tt (F_X8_goes K p1 p2 g (nI n) as) (fun x => Kp x.2.1 g) := by
  have hK2 : 200000 ≤ K := by omega
  unfold F_X8_goes
  refine tt_bd1 (u_isSite hn) (fun r hr => tt_ite (fun _ => tt_some (Kp.refl g)) (fun r0 => ?_))
  obtain ⟨i, hi, rfl⟩ := hr r0
  obtain ⟨s, hs1, hs2⟩ := hs
  have hs1 : s < n := by omega
  refine tt_bd1 u_in (fun _ _ => tt_ite (fun _ => tt_some (Kp.refl g)) (fun _ => tt_bd1 (P := fun r => r = 0 → g 73 < g 66) ?_ (fun r9 h9 => tt_ite (fun c9 => tt_bd1 (u_putAside hK2) (fun w13 h13 => ?_)) (fun _ => tt_some (Kp.refl g)))))
  · unfold F_X8_isReached
    exact tt_ite (fun q => tt_some (fun _ => q)) (fun _ => tt_some (fun z => absurd z (by decide)))
  have hlt := h9 c9
  have hL : 0 < Lf g := by unfold Lf; have := Int32.lt_iff_toInt_lt.mp hlt; omega
  have hH := Lf_hi g
  obtain ⟨k, hk, hg⟩ : ∃ k, k < K ∧ GP n i s k g := by
    by_cases q : 0 < st n g
    · exact ⟨147573952589676412928, by omega, Or.inr (Or.inr (Or.inl ⟨q, rfl⟩))⟩
    · by_cases q2 : 2147483648 ≤ Lf g
      · exact ⟨(295147905179352825856 + Lf g).toNat, by omega, Or.inr (Or.inr (Or.inr (Or.inl ⟨q2, by omega⟩)))⟩
      · exact ⟨(Lf g).toNat, by omega, Or.inl ⟨by omega, by omega, rfl⟩⟩
  exact tt_bd3 (tt_tot (GI n i g) (fun k u hu => u_goesB hi hK2 hn hu) K k _ hk ⟨rfl, s, hs1, hs2, hg⟩) (fun _ _ _ hx => tt_bd1 (u_bringBack hK2) (fun w26 h26 => tt_ite (fun _ => tt_some (kp_back h13 hx h26)) (fun _ => tt_some (kp_back h13 hx h26))))
end
-- 80.ft
section
/-! fault: both answer alike -/
theorem ft_both {K n : Nat} {p : Int32} {bytes tape ru pl st rp sc lg : Nat → Int32} {c1 c2 c3 c4 c5 c6 c7 m1 m2 m3 m4 m5 m7 m8 m9 m10 : Int32} {m6 : Int64} (hK : 400 ≤ K) (h : TR n bytes tape) :
    ∃ v ru' pl' st' d1 d2 d3 d4 d5 d6 d7 e1 e2 e3 e4 e5 e6 e7 e8 e9 e10 rp' sc' lg', F_X7_fault K p bytes (nI n) ru pl st c1 c2 c3 c4 c5 c6 c7 = some (v, ru', pl', st', d1, d2, d3, d4, d5, d6, d7) ∧ F_X8_fault K p tape (nI n) m1 m2 m3 m4 m5 m6 m7 m8 m9 m10 rp sc lg = some (v, e1, e2, e3, e4, e5, e6, e7, e8, e9, e10, rp', sc', lg') ∧ (∀ j, j < 192 → sc' j = sc j) ∧ (∀ j, j < 4 → lg' j = lg j) := by
  by_cases q0 : p = 0
  · obtain ⟨r, ru', pl', s', st', m', ac', ws', nu', f', am', pa', fr', pn', wr', pw', la', bo', go', rs', rp', E1, E2, -⟩ := rw_both (K := K) (ru := ru) (pl := pl) (rp := rp) (c1 := c1) (c2 := c2) (c3 := c3) (c4 := c4) (c5 := c5) (c6 := c6) (c7 := c7) (m1 := m1) (m2 := m2) (m3 := m3) (m4 := m4) (m5 := m5) (m6 := m6) (m7 := m7) (m8 := m8) (m9 := m9) (m10 := m10) h.sg h.c h.m hK
    unfold F_X7_fault F_X8_fault
    rw [if_pos q0, if_pos q0, E1, E2, xb10, xb12]
    exact ⟨_, _, _, _, _, _, _, _, _, _, _, _, _, _, _, _, _, _, _, _, _, _, _, _, rfl, rfl, fun _ _ => rfl, fun _ _ => rfl⟩
  · by_cases q1 : p = 1
    · obtain ⟨r, ru', st', s', cn', m', ac', ws', nu', f', am', pa', fr', pn', wr', pw', sc', lg', E1, E2, -, k1, k2⟩ := rs_both (K := K) (p := 4) (ru := ru) (st := st) (sc := sc) (lg := lg) (c1 := c1) (c2 := c2) (c3 := c3) (c4 := c4) (c5 := c5) (c6 := c6) (c7 := c7) (m1 := m1) (m2 := m2) (m3 := m3) (m4 := m4) (m5 := m5) (m6 := m6) h.sg h.c h.m hK (Nat.le_refl 4)
      unfold F_X7_fault F_X8_fault
      rw [if_neg q0, if_neg q0, if_pos q1, if_pos q1, E1, show F_X8_readScript K 4 tape (nI n) m1 m2 m3 m4 m5 m6 sc lg = _ from E2, xb10, xb9]
      exact ⟨_, _, _, _, _, _, _, _, _, _, _, _, _, _, _, _, _, _, _, _, _, _, _, _, rfl, rfl, fun j hj => k1 j (Or.inl (by omega)), fun j hj => k2 j (by omega)⟩
    · unfold F_X7_fault F_X8_fault
      rw [if_neg q0, if_neg q0, if_neg q1, if_neg q1]
      exact ⟨_, _, _, _, _, _, _, _, _, _, _, _, _, _, _, _, _, _, _, _, _, _, _, _, rfl, rfl, fun _ _ => rfl, fun _ _ => rfl⟩
end
-- 81.tk
section
/-! the reference takes a watch -/
theorem u_takeWatch {K s : Nat} {la bo go si ac im : Int32} {rp g : Nat → Int32} (hK : 200000 ≤ K) (hs : s ≤ 8) : Tt (F_X8_takeWatch K la bo go (nI s) rp g si ac im) (fun x => x.1 = nI s ∧ (x.2.1 84 = 0 ∧ x.2.1 75 = 0) ∧ x.2.2.1 = nI s ∧ x.2.2.2.1 = 0 ∧ x.2.2.2.2 = 0) := by
  unfold F_X8_takeWatch
  refine tt_bd1 (P := fun x => ∀ y, y < 265 → x y = 0) (tt_for (fun j u => u.1 = nI j ∧ ∀ y, y < j → u.2 y = 0) 265 (by omega) ⟨rfl, fun y hy => absurd hy (Nat.not_lt_zero _)⟩ (fun j u hj hu => ?_)) (fun w0 h0 => ?_)
  · unfold B_X8_takeWatch_10
    refine tt_ite (fun q => tt_some (nx_r (fun y hy => hu.2 y ?_))) (fun q => ?_)
    · rw [hu.1] at q
      have := (nI_leI (a := 265) (b := j) (by omega) (by omega)).mp q
      omega
    · have jl : j < 265 := lt_of_lit (by decide) (by omega) hu.1 q
      rw [hu.1, nI_clamp (show j < 2 ^ 31 by omega)]
      refine tt_ixn jl (by decide) (tt_nm (tt_some (nx_l jl ⟨nx1 rfl, fun y hy => ?_⟩)))
      by_cases e : y = j
      · rw [e]
        exact upd_at
      · exact (upd_no (by omega)).trans (hu.2 y (by omega))
  · refine tt_bd1 (P := fun x => x 84 = 0 ∧ x 75 = 0) (tt_for (fun j u => u.1 = nI j ∧ u.2 84 = 0 ∧ u.2 75 = 0) 8 (by omega) ⟨rfl, h0 84 (by decide), h0 75 (by decide)⟩ (fun j u hj hu => ?_)) (fun w hw => ?_)
    · unfold B_X8_takeWatch_32
      refine tt_ite (fun _ => tt_some (nx_r hu.2)) (fun q => ?_)
      have jl := sl hs hj hu.1 q
      have e1 : (2 : Int32) * nI j = nI (2 * j) := nI_mul 2 j
      rw [hu.1, e1, show nI (2 * j) + 1 = nI (2 * j + 1) from nI_1 _, i0, i8, i16, i24, nI_clamp (show 0 + j < 2 ^ 31 by omega), nI_clamp (show 8 + j < 2 ^ 31 by omega), nI_clamp (show 16 + j < 2 ^ 31 by omega), nI_clamp (show 24 + j < 2 ^ 31 by omega)]
      refine tt_ixn (by omega) (by decide) (tt_ixn (by omega) (by decide) (tt_nm ?_))
      refine tt_ixn (by omega) (by decide) (tt_ixn (by omega) (by decide) (tt_nm ?_))
      refine tt_ixn (by omega) (by decide) (tt_ixn (by omega) (by decide) (tt_nm ?_))
      refine tt_ixn (by omega) (by decide) (tt_ixn (by omega) (by decide) (tt_nm (tt_some (nx_l (by omega) ⟨nx1 rfl, ?_, ?_⟩))))
      · exact (upd_no (by omega)).trans ((upd_no (by omega)).trans ((upd_no (by omega)).trans ((upd_no (by omega)).trans hu.2.1)))
      · exact (upd_no (by omega)).trans ((upd_no (by omega)).trans ((upd_no (by omega)).trans ((upd_no (by omega)).trans hu.2.2)))
    · have w84 : w 84 = 0 := hw.1
      have w75 : w 75 = 0 := hw.2
      refine tt_nm (tt_nm (tt_nm (tt_bd1 (u_sum16 hK hs) (fun _ _ => tt_bd1 (u_sum24 hK hs) (fun _ _ => tt_bd1 u_isAllowed (fun _ _ => ?_))))))
      exact tt_ite (fun _ => tt_nm (tt_some ⟨rfl, ⟨w84, w75⟩, rfl, rfl, rfl⟩)) (fun _ => tt_nm (tt_some ⟨rfl, ⟨w84, w75⟩, rfl, rfl, rfl⟩))
end
-- 82.sk
section
/-! scripts kept by both -/
theorem c_keep {k : Nat} {st co rs : Nat → Int32} {x : Int32} (hk : k < 4) : F_X4_keep st co (nI k) rs x = some (va_cpy rs st 0 (48 * k) 48, upd co k x, nI (k + 1)) := by
  unfold F_X4_keep F_X4_areFull
  have e : nI k * 48 = nI (48 * k) := by rw [show (48 : Int32) = nI 48 from rfl, nI_mul, Nat.mul_comm]
  have l48 : (48 : Int32).toNatClampNeg = 48 := rfl
  rw [if_pos (show nI k < (4 : Int32) from (nI_ltI (a := k) (b := 4) (by omega) (by omega)).mpr hk), xb1, if_pos rfl, e]
  unfold cpF
  rw [if_pos ⟨by decide, nI_pos (by omega), by decide, by decide, by rw [nI_clamp (by omega), l48]; omega⟩, xnm, xixn hk (by decide), xnm, nI_clamp (show k < 2 ^ 31 by omega), nI_clamp (show 48 * k < 2 ^ 31 by omega), nI_1, litz, l48]
/-- the first k scripts are the same in both -/
def SR (k : Nat) (st co sc lg : Nat → Int32) : Prop := ∀ r, r < k → ∃ c, 1 ≤ c ∧ c ≤ 12 ∧ co r = nI c ∧ lg r = nI c ∧ ∀ j, j < 4 * c → st (48 * r + j) = sc (48 * r + j)
theorem SR.keep {k c : Nat} {st co sc lg rs sc' lg' : Nat → Int32} (h : SR k st co sc lg) (hc1 : 1 ≤ c) (hc : c ≤ 12) (h1 : lg' k = nI c) (h2 : ScOK k c rs sc') (h3 : ∀ j, (j < 48 * k ∨ 48 * k + 48 ≤ j) → sc' j = sc j) (h4 : ∀ j, ¬ j = k → lg' j = lg j) : SR (k + 1) (va_cpy rs st 0 (48 * k) 48) (upd co k (nI c)) sc' lg' := by
  intro r hr
  by_cases e : r = k
  · subst e
    refine ⟨c, hc1, hc, upd_at, h1, fun j hj => ?_⟩
    show (if 48 * r ≤ 48 * r + j ∧ 48 * r + j < 48 * r + 48 then rs (0 + (48 * r + j - 48 * r)) else st (48 * r + j)) = _
    rw [if_pos ⟨by omega, by omega⟩, show 0 + (48 * r + j - 48 * r) = j by omega]
    exact h2 j hj
  · obtain ⟨d, d1, d2, d3, d4, d5⟩ := h r (by omega)
    refine ⟨d, d1, d2, (upd_no e).trans d3, (h4 r e).trans d4, fun j hj => ?_⟩
    show (if 48 * k ≤ 48 * r + j ∧ 48 * r + j < 48 * k + 48 then rs (0 + (48 * r + j - 48 * k)) else st (48 * r + j)) = _
    rw [if_neg (by omega), h3 _ (Or.inl (by omega))]
    exact d5 j hj
end
-- 83.tx
section
/-! text of both: the same answer; the tapes and the scripts stay alike; a new watch, or the rows as they were -/
theorem c_cut0 {n : Nat} (hn : n ≤ 320) : F_X6_cutTo 0 (nI n) = some (1, 0) := by
  unfold F_X6_cutTo
  rw [if_neg (by decide), if_pos (show (0 : Int32) ≤ nI n from (nI_leI (a := 0) (b := n) (by omega) (by omega)).mpr (Nat.zero_le _))]
theorem t_beginWatch {K s n : Nat} {ru pl row : Nat → Int32} {hh im : Int32} (hK : 200000 ≤ K) (hs : s ≤ 8) (hn : n ≤ 320) : Tt (F_X7_beginWatch K (nI n) ru pl (nI s) row hh im) (fun x => x.1 = nI s ∧ x.2.1 = 0 ∧ x.2.2.1 3 = nI s ∧ x.2.2.2.1 = 0 ∧ x.2.2.2.2 = 0) := by
  unfold F_X7_beginWatch F_X2_forget F_X5_sites
  rw [c_cut0 hn]
  refine tt_bd1 (t_begin hK hs) (fun w hw => ?_)
  rw [xb1, xb2, xb1]
  exact tt_some ⟨hw, rfl, hw, rfl, rfl⟩
theorem c_full {k : Nat} (hk : k ≤ 4) : F_X4_areFull (nI k) = some (if k < 4 then 0 else 1) := by
  unfold F_X4_areFull
  rw [show (4 : Int32) = nI 4 from rfl, xltn (by omega) (by omega)]
  split <;> rfl
theorem SR.of {k : Nat} {st co sc lg sc' lg' : Nat → Int32} (h : SR k st co sc lg) (h3 : ∀ j, j < 48 * k → sc' j = sc j) (h4 : ∀ j, j < k → lg' j = lg j) : SR k st co sc' lg' := by
  intro r hr
  obtain ⟨c, c1, c2, c3, c4, c5⟩ := h r hr
  refine ⟨c, c1, c2, c3, (h4 r hr).trans c4, fun j hj => ?_⟩
  rw [h3 (48 * r + j) (by omega)]
  exact c5 j hj
theorem SkOK.keep {k c : Nat} {co : Nat → Int32} {x : Int32} (h : SkOK co x) (hk : k < 4) (hc : c ≤ 12) : SkOK (upd co k (nI c)) (nI (k + 1)) := by
  refine ⟨⟨k + 1, by omega, rfl⟩, fun j hj => ?_⟩
  by_cases e : j = k
  · rw [e]
    exact ⟨c, hc, upd_at⟩
  · rw [upd_no e]
    exact h.2 j hj
def TxQ (bytes tape row : Nat → Int32) (hh im : Int32) (g : Nat → Int32) (si ac hi : Int32) (tl' : Int32) (sst' sco' : Nat → Int32) (hd' : Int32) (row' : Nat → Int32) (hh' im' tpd' : Int32) (sc' lg' : Nat → Int32) (scs' : Int32) (g' : Nat → Int32) (si' ac' hi' : Int32) : Prop :=
  (∃ n', TR n' bytes tape ∧ tl' = nI n' ∧ tpd' = nI n') ∧ (∃ k', k' ≤ 4 ∧ hd' = nI k' ∧ scs' = nI k' ∧ SR k' sst' sco' sc' lg' ∧ SkOK sco' (nI k')) ∧ ((row' = row ∧ hh' = hh ∧ im' = im ∧ g' = g ∧ si' = si ∧ ac' = ac ∧ hi' = hi) ∨ ∃ s, s ≤ 8 ∧ row' 3 = nI s ∧ hh' = 0 ∧ g' 84 = 0 ∧ g' 75 = 0 ∧ si' = nI s ∧ ac' = 0 ∧ hi' = 0)
theorem tx_both {K n k : Nat} {p : Int32} {bytes tape ru pl st rp sc lg sst sco row g : Nat → Int32} {c1 c2 c3 c4 c5 c6 c7 hh im m1 m2 m3 m4 m5 m7 m8 m9 m10 si ac hi : Int32} {m6 : Int64} (hK : 200000 ≤ K) (h : TR n bytes tape) (hk : k ≤ 4) (hs : SR k sst sco sc lg) (hq : SkOK sco (nI k)) :
    ∃ v tl' ru' pl' st' d1 d2 d3 d4 d5 d6 d7 sst' sco' hd' row' hh' im' tpd' e1 e2 e3 e4 e5 e6 e7 e8 e9 e10 rp' sc' lg' scs' g' si' ac' hi', F_X7_text K p bytes (nI n) ru pl st c1 c2 c3 c4 c5 c6 c7 sst sco (nI k) row hh im = some (v, tl', ru', pl', st', d1, d2, d3, d4, d5, d6, d7, sst', sco', hd', row', hh', im') ∧ F_X8_text K p tape (nI n) m1 m2 m3 m4 m5 m6 m7 m8 m9 m10 rp sc lg (nI k) g si ac hi = some (v, tpd', e1, e2, e3, e4, e5, e6, e7, e8, e9, e10, rp', sc', lg', scs', g', si', ac', hi') ∧ TxQ bytes tape row hh im g si ac hi tl' sst' sco' hd' row' hh' im' tpd' sc' lg' scs' g' si' ac' hi' := by
  have hn := h.1
  have base : TxQ bytes tape row hh im g si ac hi (nI n) sst sco (nI k) row hh im (nI n) sc lg (nI k) g si ac hi := ⟨⟨n, h, rfl, rfl⟩, ⟨k, hk, rfl, rfl, hs, hq⟩, Or.inl ⟨rfl, rfl, rfl, rfl, rfl, rfl, rfl⟩⟩
  have tr0 : TR 0 bytes tape := ⟨by omega, fun i hi => absurd hi (Nat.not_lt_zero _)⟩
  by_cases q0 : p = 0
  · obtain ⟨r, ru', pl', s', st', m', ac', ws', nu', f', am', pa', fr', pn', wr', pw', la', bo', go', rs', rp', E1, E2, hr⟩ := rw_both (K := K) (ru := ru) (pl := pl) (rp := rp) (c1 := c1) (c2 := c2) (c3 := c3) (c4 := c4) (c5 := c5) (c6 := c6) (c7 := c7) (m1 := m1) (m2 := m2) (m3 := m3) (m4 := m4) (m5 := m5) (m6 := m6) (m7 := m7) (m8 := m8) (m9 := m9) (m10 := m10) h.sg h.c h.m (by omega)
    unfold F_X7_text F_X8_text
    rw [if_pos q0, if_pos q0, E1, E2, xb10, xb12]
    by_cases q : r = -1
    · obtain ⟨s2, hs2, rfl, rfl, hrd⟩ := hr q
      obtain ⟨⟨a0, a1, a2, a3, a4⟩, B, b1, b2, b3, b4, b5⟩ := t_beginWatch (ru := ru') (pl := pl') (row := row) (hh := hh) (im := im) hK hrd.1 hn
      obtain ⟨⟨t0, t1, t2, t3, t4⟩, T, u1, ⟨u2, u3⟩, u4, u5, u6⟩ := u_takeWatch (la := la') (bo := bo') (go := go') (rp := rp') (g := g) (si := si) (ac := ac) (im := hi) hK hrd.1
      rw [if_pos q, if_pos q, B, T, xb5, xb5]
      obtain rfl : a0 = nI s2 := b1
      obtain rfl : t0 = nI s2 := u1
      exact ⟨_, _, _, _, _, _, _, _, _, _, _, _, _, _, _, _, _, _, _, _, _, _, _, _, _, _, _, _, _, _, _, _, _, _, _, _, _, rfl, rfl, ⟨0, tr0, b2, rfl⟩, ⟨k, hk, rfl, rfl, hs, hq⟩, Or.inr ⟨s2, hrd.1, b3, b4, u2, u3, u4, u5, u6⟩⟩
    · have p1 : ¬ p = 1 := by rw [q0]; decide
      unfold J_X7_text_20 J_X8_text_22
      rw [if_neg q, if_neg q, if_neg p1, if_neg p1]
      exact ⟨_, _, _, _, _, _, _, _, _, _, _, _, _, _, _, _, _, _, _, _, _, _, _, _, _, _, _, _, _, _, _, _, _, _, _, _, _, rfl, rfl, base⟩
  · unfold F_X7_text F_X8_text
    rw [if_neg q0, if_neg q0]
    unfold J_X7_text_20 J_X8_text_22
    by_cases q1 : p = 1
    · rw [if_pos q1, if_pos q1, c_full hk, xb1]
      by_cases q4 : k < 4
      · rw [if_pos q4, if_pos rfl, if_neg (show ¬ (4 : Int32) ≤ nI k from mt (nI_leI (a := 4) (b := k) (by omega) (by omega)).mp (by omega))]
        obtain ⟨r, ru', st', s', cn', m', ac', ws', nu', f', am', pa', fr', pn', wr', pw', sc', lg', E1, E2, hr, k1, k2⟩ := rs_both (K := K) (p := k) (ru := ru) (st := st) (sc := sc) (lg := lg) (c1 := c1) (c2 := c2) (c3 := c3) (c4 := c4) (c5 := c5) (c6 := c6) (c7 := c7) (m1 := m1) (m2 := m2) (m3 := m3) (m4 := m4) (m5 := m5) (m6 := m6) h.sg h.c h.m (by omega) hk
        rw [E1, E2, xb10, xb9]
        by_cases q : r = -1
        · obtain ⟨c, hc1, hc2, rfl, e2, e3, -⟩ := hr q
          unfold F_X7_keepScript
          rw [if_pos q, if_pos q, c_keep q4, xb3, c_cut0 hn, xb2, xb5, nI_1]
          exact ⟨_, _, _, _, _, _, _, _, _, _, _, _, _, _, _, _, _, _, _, _, _, _, _, _, _, _, _, _, _, _, _, _, _, _, _, _, _, rfl, rfl, ⟨0, tr0, rfl, rfl⟩, ⟨k + 1, by omega, rfl, rfl, hs.keep hc1 hc2 e2 e3 k1 k2, hq.keep q4 hc2⟩, Or.inl ⟨rfl, rfl, rfl, rfl, rfl, rfl, rfl⟩⟩
        · rw [if_neg q, if_neg q]
          exact ⟨_, _, _, _, _, _, _, _, _, _, _, _, _, _, _, _, _, _, _, _, _, _, _, _, _, _, _, _, _, _, _, _, _, _, _, _, _, rfl, rfl, ⟨n, h, rfl, rfl⟩, ⟨k, hk, rfl, rfl, hs.of (fun j hj => k1 j (Or.inl hj)) (fun j hj => k2 j (by omega)), hq⟩, Or.inl ⟨rfl, rfl, rfl, rfl, rfl, rfl, rfl⟩⟩
      · rw [if_neg q4, if_neg (by decide), if_pos (show (4 : Int32) ≤ nI k from (nI_leI (a := 4) (b := k) (by omega) (by omega)).mpr (by omega))]
        exact ⟨_, _, _, _, _, _, _, _, _, _, _, _, _, _, _, _, _, _, _, _, _, _, _, _, _, _, _, _, _, _, _, _, _, _, _, _, _, rfl, rfl, base⟩
    · rw [if_neg q1, if_neg q1]
      exact ⟨_, _, _, _, _, _, _, _, _, _, _, _, _, _, _, _, _, _, _, _, _, _, _, _, _, _, _, _, _, _, _, _, _, _, _, _, _, rfl, rfl, base⟩
end
-- 83c.01
section
/-! Stage B, 1: what the class's row functions and the reference's are, at a site; sums -/
/-- the sum of the first k -/
def sgm (a : Nat → Int32) : Nat → Int32
  | 0 => 0
  | k + 1 => sgm a k + a k
theorem sgm_eq {a b : Nat → Int32} : ∀ n, (∀ i, i < n → a i = b i) → sgm a n = sgm b n := by
  intro n
  induction n with
  | zero => exact fun _ => rfl
  | succ k ih =>
    intro h
    show sgm a k + a k = sgm b k + b k
    rw [ih (fun i hi => h i (by omega)), h k (by omega)]
theorem ix_of {i c : Nat} : ((17 : Int32) + (nI i * (8 : Int32))) + nI c = nI (17 + 8 * i + c) := by
  rw [show (17 : Int32) = nI 17 from rfl, show (8 : Int32) = nI 8 from rfl, nI_mul, nI_add, nI_add, Nat.mul_comm i 8]
theorem nn0 {i : Nat} (h : i < 2 ^ 31) : ¬ nI i < 0 := fun q => by
  have := (nI_ltI (a := i) (b := 0) h (by omega)).mp q
  omega
theorem b_of {i c : Nat} {f : Nat → Int32} (hi : i < 8) (hc : c < 8) : F_X5_of (nI i) (nI c) f = some (f (17 + 8 * i + c)) := by
  unfold F_X5_of
  rw [if_neg (nn0 (by omega)), if_neg (show ¬ (8 : Int32) ≤ nI i from mt (nI_leI (a := 8) (b := i) (by omega) (by omega)).mp (by omega)), if_neg (nn0 (by omega)), if_pos (show nI c < (8 : Int32) from (nI_ltI (a := c) (b := 8) (by omega) (by omega)).mpr hc), ix_of, xixn (by omega) (by decide), nI_clamp (by omega)]
theorem b_put {i c : Nat} {v : Int32} {f : Nat → Int32} (hi : i < 8) (hc : c < 8) : F_X5_put (nI i) (nI c) v f = some (upd f (17 + 8 * i + c) v) := by
  unfold F_X5_put
  rw [if_neg (nn0 (by omega)), if_neg (show ¬ (8 : Int32) ≤ nI i from mt (nI_leI (a := 8) (b := i) (by omega) (by omega)).mp (by omega)), if_neg (nn0 (by omega)), if_neg (show ¬ (8 : Int32) ≤ nI c from mt (nI_leI (a := 8) (b := c) (by omega) (by omega)).mp (by omega)), ix_of, xixn (by omega) (by decide), nI_clamp (by omega), xnm]
/-- a drift out of the class's row -/
def cdr (f : Nat → Int32) (i a : Nat) : Int32 := f (17 + 8 * i + a) - f (17 + 8 * i + (a + 2)) + f (17 + 8 * i + (a + 4))
theorem b_drift {i a : Nat} {f : Nat → Int32} (hi : i < 8) (ha : a < 2) : F_X5_drift (nI i) (nI a) f = some (cdr f i a) := by
  have k0 : (((17 : Int32) + (nI i * (8 : Int32))) + nI a) + (0 : Int32) = nI (17 + 8 * i + a) := by rw [ix_of, Int32.add_zero]
  have k2 : (((17 : Int32) + (nI i * (8 : Int32))) + nI a) + (2 : Int32) = nI (17 + 8 * i + (a + 2)) := by rw [ix_of]; exact nI_add _ 2
  have k4 : (((17 : Int32) + (nI i * (8 : Int32))) + nI a) + (4 : Int32) = nI (17 + 8 * i + (a + 4)) := by rw [ix_of]; exact nI_add _ 4
  unfold F_X5_drift
  rw [if_neg (nn0 (by omega)), if_neg (show ¬ (8 : Int32) ≤ nI i from mt (nI_leI (a := 8) (b := i) (by omega) (by omega)).mp (by omega)), if_neg (nn0 (by omega)), if_pos (show nI a ≤ (1 : Int32) from (nI_leI (a := a) (b := 1) (by omega) (by omega)).mpr (by omega)), k0, k2, k4, xixn (by omega) (by decide), xixn (by omega) (by decide), xixn (by omega) (by decide), nI_clamp (by omega), nI_clamp (by omega), nI_clamp (by omega)]
  rfl
theorem b_total {K n c : Nat} {f : Nat → Int32} (hK : 200000 ≤ K) (hn : n ≤ 8) (h3 : f 3 = nI n) (hc : c < 8) : F_X5_total K (nI c) f = some (sgm (fun i => f (17 + 8 * i + c)) n) := by
  have h : lpF (fun u9 : Int32 × Int32 => B_X5_total_4 (nI c) f u9.1 u9.2) K ((0 : Int32), (0 : Int32)) = some (sgm (fun i => f (17 + 8 * i + c)) n) := by
    refine lp_for (fun j => (sgm (fun i => f (17 + 8 * i + c)) j, nI j)) (n := n) (by omega) (fun j hj => ?_) ?_
    · show B_X5_total_4 (nI c) f (sgm (fun i => f (17 + 8 * i + c)) j) (nI j) = some (.inl (sgm (fun i => f (17 + 8 * i + c)) j + f (17 + 8 * j + c), nI (j + 1)))
      unfold B_X5_total_4 F_X5_sites
      rw [xb1, h3, if_neg (mt (nI_leI (a := n) (b := j) (by omega) (by omega)).mp (by omega)), b_of (by omega) hc, xb1, nI_1]
    · show B_X5_total_4 (nI c) f (sgm (fun i => f (17 + 8 * i + c)) n) (nI n) = some (.inr (sgm (fun i => f (17 + 8 * i + c)) n))
      unfold B_X5_total_4 F_X5_sites
      rw [xb1, h3, if_pos ((nI_leI (a := n) (b := n) (by omega) (by omega)).mpr (Nat.le_refl _))]
  unfold F_X5_total
  rw [h, xb1]
theorem bm_sum {K n b : Nat} {g : Nat → Int32} (hK : 200000 ≤ K) (hn : n ≤ 8) (hb : b ≤ 200) : F_X8_sum K (nI b) g (nI n) = some (sgm (fun i => g (b + i)) n) := by
  have h : lpF (fun u9 : Int32 × Int32 => B_X8_sum_4 (nI b) (nI n) g u9.1 u9.2) K ((0 : Int32), (0 : Int32)) = some (sgm (fun i => g (b + i)) n) := by
    refine lp_for (fun j => (sgm (fun i => g (b + i)) j, nI j)) (n := n) (by omega) (fun j hj => ?_) ?_
    · show B_X8_sum_4 (nI b) (nI n) g (sgm (fun i => g (b + i)) j) (nI j) = some (.inl (sgm (fun i => g (b + i)) j + g (b + j), nI (j + 1)))
      unfold B_X8_sum_4
      rw [if_neg (mt (nI_leI (a := n) (b := j) (by omega) (by omega)).mp (by omega)), nI_add, xixn (by omega) (by decide), nI_clamp (by omega), nI_1]
    · show B_X8_sum_4 (nI b) (nI n) g (sgm (fun i => g (b + i)) n) (nI n) = some (.inr (sgm (fun i => g (b + i)) n))
      unfold B_X8_sum_4
      rw [if_pos ((nI_leI (a := n) (b := n) (by omega) (by omega)).mpr (Nat.le_refl _))]
  unfold F_X8_sum
  rw [h, xb1]
end
