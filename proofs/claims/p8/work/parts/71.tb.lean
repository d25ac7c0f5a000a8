/-! the reference: its acts end -/
def Dn {σ ρ : Type} (I : Nat → σ → Prop) (R : ρ → Prop) (k : Nat) : σ ⊕ ρ → Prop
  | .inl u => ∃ k', k' < k ∧ I k' u
  | .inr r => R r
theorem dn_l {σ ρ : Type} {I : Nat → σ → Prop} {R : ρ → Prop} {k k' : Nat} {u : σ} (h1 : k' < k) (h2 : I k' u) : Dn I R k (.inl u) := ⟨k', h1, h2⟩
theorem dn_r {σ ρ : Type} {I : Nat → σ → Prop} {R : ρ → Prop} {k : Nat} {r : ρ} (h : R r) : Dn I R k (.inr r) := h
/-- a loop whose measure falls -/
theorem tt_tot {σ ρ : Type} {b : σ → Option (σ ⊕ ρ)} {R : ρ → Prop} (I : Nat → σ → Prop) (h : ∀ k u, I k u → Tt (b u) (Dn I R k)) : ∀ (K k : Nat) (u : σ), k < K → I k u → Tt (lpF b K u) R := by
  intro K
  induction K with
  | zero => intro k u h1; omega
  | succ K ih =>
    intro k u h1 h2
    obtain ⟨x, e, p⟩ := h k u h2
    cases x with
    | inl u' =>
      obtain ⟨k', hk', hI⟩ := p
      rw [lp_one e]
      exact ih k' u' (by omega) hI
    | inr r =>
      rw [lp_end e]
      exact ⟨r, rfl, p⟩
theorem tt_eq {α : Type} {x : Option α} {Q : α → Prop} (h : Tt x Q) : Tt x (fun r => x = some r) := h.elim (fun r z => ⟨r, z.1, z.1⟩)
theorem nI_mod {m n : Nat} (hm : m < 2 ^ 31) (hn : n < 2 ^ 31) : nI m - nI m / nI n * nI n = nI (m % n) := by
  rw [show nI m / nI n = nI (m / n) from (Int32.ofNat_div hm hn).symm, nI_mul, xsub (Nat.div_mul_le_self m n)]
  congr 1
  have := Nat.div_add_mod m n
  rw [Nat.mul_comm] at this
  omega
theorem u_takesShares {p : Int32} {sx sy : Nat → Int32} {K n : Nat} {g : Nat → Int32} (hK : 200000 ≤ K) (hn : n ≤ 8) : Tt (F_X8_takesShares K p g (nI n) sx sy) (fun x => Kp x g) := by
  unfold F_X8_takesShares
  refine tt_bd1 (P := fun x => Kp x g) (tt_for (fun j u => u.1 = nI j ∧ Kp u.2 g) 8 (by omega) ⟨rfl, Kp.refl g⟩ (fun j u hj hu => ?_)) (fun _ hx => tt_some hx)
  unfold B_X8_takesShares_2
  refine tt_ite (fun _ => tt_some (nx_r hu.2)) (fun q => tt_bd1 u_has (fun _ _ => ?_))
  have jl := sl hn hj hu.1 q
  have j8 : j < 8 := by omega
  refine tt_ite (fun _ => tt_some (nx_l j8 ⟨nx1 hu.1, hu.2⟩)) (fun _ => ?_)
  rw [hu.1]
  simp only [i32, i40, nI_clamp (show 32 + j < 2 ^ 31 by omega), nI_clamp (show 40 + j < 2 ^ 31 by omega)]
  exact tt_ixn (by omega) (by decide) (tt_ixn j8 (by decide) (tt_bd1 (u_driftX j8) (fun _ _ => tt_ixn (by omega) (by decide) (tt_nm (tt_ixn (by omega) (by decide) (tt_ixn j8 (by decide) (tt_bd1 (u_driftY j8) (fun _ _ => tt_ixn (by omega) (by decide) (tt_nm (tt_some (nx_l j8 ⟨nx1 rfl, (hu.2.up (by omega) (by omega)).up (by omega) (by omega)⟩)))))))))))
theorem u_hearsAll {K n : Nat} {g : Nat → Int32} (hK : 200000 ≤ K) (hn : n ≤ 8) : Tt (F_X8_hearsAll K g (nI n)) (fun x => Kp x g) := by
  unfold F_X8_hearsAll J_X8_hearsAll_106
  refine tt_bd1 (P := fun x => Kp x g) (tt_for (fun j u => u.1 = nI j ∧ Kp u.2 g) 8 (by omega) ⟨rfl, Kp.refl g⟩ (fun j u hj hu => ?_)) (fun w hw => ?_)
  · unfold B_X8_hearsAll_2
    refine tt_ite (fun _ => tt_some (nx_r hu.2)) (fun q => ?_)
    have jl := sl hn hj hu.1 q
    have j8 : j < 8 := by omega
    rw [hu.1]
    simp only [i0, i8, i16, i24, i32, i40, nI_clamp (show 0 + j < 2 ^ 31 by omega), nI_clamp (show 8 + j < 2 ^ 31 by omega), nI_clamp (show 16 + j < 2 ^ 31 by omega), nI_clamp (show 24 + j < 2 ^ 31 by omega), nI_clamp (show 32 + j < 2 ^ 31 by omega), nI_clamp (show 40 + j < 2 ^ 31 by omega)]
    refine tt_ixn (by omega) (by decide) (tt_ixn (by omega) (by decide) (tt_nm ?_))
    refine tt_ixn (by omega) (by decide) (tt_ixn (by omega) (by decide) (tt_nm ?_))
    refine tt_ixn (by omega) (by decide) (tt_nm ?_)
    refine tt_ixn (by omega) (by decide) (tt_nm (tt_some (nx_l j8 ⟨nx1 rfl, ?_⟩)))
    exact (((hu.2.up (by omega) (by omega)).up (by omega) (by omega)).up (by omega) (by omega)).up (by omega) (by omega)
  · have hw' : Kp w g := hw
    refine tt_nm (tt_bd1 (u_sum16 hK hn) (fun _ _ => tt_bd1 (u_sum24 hK hn) (fun _ _ => tt_bd1 u_isAllowed (fun _ _ => ?_))))
    have a1 := hw'.up (i := 70) (v := w 70 + 1) (by decide) (by decide)
    refine tt_ite (fun _ => tt_ite (fun _ => tt_nm (tt_nm (tt_some ?_))) (fun _ => tt_nm (tt_nm (tt_some ?_)))) (fun _ => tt_ite (fun _ => tt_nm (tt_nm (tt_some ?_))) (fun _ => tt_nm (tt_nm (tt_some ?_))))
    all_goals exact (a1.up (by decide) (by decide)).up (by decide) (by decide)
abbrev SpI (j : Nat) (u : Int32 × Int32 × Int32 × (Nat → Int32) × (Nat → Int32) × Int32 × (Nat → Int32)) : Prop := u.2.2.1 = nI (j + 1) ∧ Ht u.1 ∧ ∃ a, a ≤ j ∧ u.2.2.2.2.2.1 = nI a
abbrev SpR (x : Int32 × Int32 × (Nat → Int32) × (Nat → Int32) × Int32 × (Nat → Int32)) : Prop := Rw x.2.2.2.2.1
theorem spI {j a : Nat} {x2 x3 x4 ad : Int32} {sx sy ar : Nat → Int32} (h1 : x4 = nI (j + 1)) (h2 : Ht x2) (h3 : a ≤ j) (h4 : ad = nI a) : SpI j (x2, x3, x4, sx, sy, ad, ar) := ⟨h1, h2, a, h3, h4⟩
theorem u_speaksB {K i n j : Nat} {g sx sy ar : Nat → Int32} {x2 x3 x4 ad : Int32} (hi : i < n) (hK : 200000 ≤ K) (hn : n ≤ 8) (hj : j ≤ 8) (hu : SpI j (x2, x3, x4, sx, sy, ad, ar)) : Tt (B_X8_speaks_40 K (nI i) (nI n) g x2 x3 x4 sx sy ad ar) (Nx SpI SpR 8 j) := by
  obtain ⟨h1, h2, a, ha, h3⟩ := hu
  have h1 : x4 = nI (j + 1) := h1
  have h3 : ad = nI a := h3
  have h2 : Ht x2 := h2
  have e : SpR (x2, x3, sx, sy, ad, ar) := ⟨a, by omega, h3⟩
  unfold B_X8_speaks_40
  refine tt_ite (fun _ => tt_some (nx_r e)) (fun q => tt_ite (fun _ => tt_ite (fun _ => ?_) (fun _ => tt_some (nx_r e))) (fun _ => tt_some (nx_r e)))
  have jl : j + 1 < n := lt_of_lit (by omega) (by omega) h1 q
  have em : (nI i + x4) - (nI i + x4) / nI n * nI n = nI ((i + (j + 1)) % n) := by rw [h1, nI_add]; exact nI_mod (by omega) (by omega)
  have ml : (i + (j + 1)) % n < n := Nat.mod_lt _ (by omega)
  rw [em]
  generalize (i + (j + 1)) % n = m at ml
  refine tt_nz (fun z => ?_) (tt_bd1 (u_isFrozen (by omega)) (fun _ _ => tt_ite (fun _ => ?_) (fun _ => tt_some (nx_l (by omega) (spI (nx1 h1) h2 (a := a) (by omega) h3)))))
  · have := (nI_eq (a := n) (b := 0) (by omega) (by omega)).mp z
    omega
  · rw [h3]
    refine tt_ixn (by omega) (by decide) (tt_nm (tt_bd3 (u_shares hK hn h2.orl) (fun _ _ _ _ => tt_some (nx_l (by omega) ?_))))
    exact spI (nx1 h1) h2.orl (a := a + 1) (by omega) (nx1 rfl)
theorem u_speaks {i : Nat} {sx sy ar : Nat → Int32} {ad oc : Int32} {K n : Nat} {g : Nat → Int32} (hi : i < n) (hK : 200000 ≤ K) (hn : n ≤ 8) : Tt (F_X8_speaks K (nI i) g (nI n) sx sy ad oc ar) (fun x => Kp x.2.1 g ∧ Rw x.2.2.2.2.1) := by
  unfold F_X8_speaks
  refine tt_bd1 (u_isQuiet (by omega) hK hn) (fun _ _ => tt_ite (fun _ => tt_nm ?_) (fun _ => tt_some ⟨Kp.refl g, ⟨0, by decide, rfl⟩⟩))
  have k1 : Kp (upd g 68 (g 68 + 1)) g := (Kp.refl g).up (by decide) (by decide)
  have s0 : SpI 0 ((1 : Int32) <<< (nI i &&& 31), 0, 1, sx, sy, 0, ar) := spI (a := 0) rfl (Ht.bit i (by omega)) (Nat.le_refl _) rfl
  refine tt_bd6 (P := SpR) (tt_for SpI 8 (by omega) s0 (fun j u hj hu => u_speaksB hi hK hn hj hu)) (fun x2 x3 sx' sy' ad' ar' hx => ?_)
  have hx' : Rw ad' := hx
  unfold J_X8_speaks_123
  exact tt_ite (fun _ => tt_bd1 (u_hearsAll hK hn) (fun w hw => tt_some ⟨Kp.trans hw k1, hx'⟩)) (fun _ => tt_bd1 (u_takesShares hK hn) (fun w hw => tt_nm (tt_some ⟨(Kp.trans hw k1).up (by decide) (by decide), hx'⟩)))
theorem u_movesNow {i : Nat} {p2 p3 : Int32} {sx sy ar : Nat → Int32} {ad oc : Int32} {K n : Nat} {g : Nat → Int32} (hi : i < n) (hK : 200000 ≤ K) (hn : n ≤ 8) : Tt (F_X8_movesNow K (nI i) p2 p3 g (nI n) sx sy ad oc ar) (fun x => Kp x.2.1 g ∧ Rw x.2.2.2.2.1) := by
  unfold F_X8_movesNow
  simp only [i0, i8, nI_clamp (show 0 + i < 2 ^ 31 by omega), nI_clamp (show 8 + i < 2 ^ 31 by omega)]
  refine tt_ixn (by omega) (by decide) (tt_ixn (by omega) (by decide) (tt_nm (tt_ixn (by omega) (by decide) (tt_ixn (by omega) (by decide) (tt_nm (tt_bd7 (u_speaks hi hK hn) (fun _ _ _ _ _ _ _ hx => tt_some ⟨hx.1.trans ?_, hx.2⟩)))))))
  exact ((Kp.refl g).up (by omega) (by omega)).up (by omega) (by omega)
theorem u_sets65 {p2 t : Int32} {K n : Nat} {g : Nat → Int32} (hK : 200000 ≤ K) (hn : n ≤ 8) : Tt (F_X8_setsAnd K 65 p2 g (nI n) t) (fun x => Kp x.2.1 g) := by
  unfold F_X8_setsAnd
  exact tt_ix (nI_in (c := 65) (by decide) (by decide)) (tt_ix (nI_in (c := 65) (by decide) (by decide)) (tt_nm (tt_bd1 (u_hearsAll hK hn) (fun w hw => tt_some (Kp.trans hw ((Kp.refl g).up (by decide) (by decide)))))))
theorem u_sets64 {p2 t : Int32} {K n : Nat} {g : Nat → Int32} (hK : 200000 ≤ K) (hn : n ≤ 8) : Tt (F_X8_setsAnd K 64 p2 g (nI n) t) (fun x => Kp x.2.1 g) := by
  unfold F_X8_setsAnd
  exact tt_ix (nI_in (c := 64) (by decide) (by decide)) (tt_ix (nI_in (c := 64) (by decide) (by decide)) (tt_nm (tt_bd1 (u_hearsAll hK hn) (fun w hw => tt_some (Kp.trans hw ((Kp.refl g).up (by decide) (by decide)))))))
theorem u_step {n : Nat} {g : Nat → Int32} (h0 : 0 < n) (hn : n ≤ 8) : Tt (F_X8_step g (nI n)) (fun _ => True) := by
  unfold F_X8_step
  refine tt_ite (fun _ => tt_some trivial) (fun _ => tt_nz (fun z => ?_) (tt_some trivial))
  have := (nI_eq (a := 2 * n) (b := 0) (by omega) (by omega)).mp ((nI_mul 2 n).symm.trans z)
  omega
theorem u_endsRound {K n : Nat} {g : Nat → Int32} (hK : 200000 ≤ K) (hn : n ≤ 8) : Tt (F_X8_endsRound K g (nI n)) (fun x => x 84 = g 84 ∧ x 75 = 0 ∧ ∀ i, i < n → x (56 + i) = 0) := by
  unfold F_X8_endsRound
  refine tt_bd1 (u_sum48 hK hn) (fun r _ => tt_nm ?_)
  refine tt_bd1 (P := fun x => x 84 = g 84 ∧ ∀ i, i < n → x (56 + i) = 0) (tt_for (fun j u => u.1 = nI j ∧ u.2 84 = g 84 ∧ ∀ i, i < j → u.2 (56 + i) = 0) 8 (by omega) ⟨rfl, rfl, fun i hi => absurd hi (Nat.not_lt_zero _)⟩ (fun j u hj hu => ?_)) (fun w hw => tt_nm (tt_nm (tt_some ⟨?_, ?_, fun i hi => ?_⟩)))
  · unfold B_X8_endsRound_15
    refine tt_ite (fun q => tt_some (nx_r ⟨hu.2.1, fun i hi => hu.2.2 i ?_⟩)) (fun q => ?_)
    · rw [hu.1] at q
      have := (nI_leI (a := n) (b := j) (by omega) (by omega)).mp q
      omega
    · have jl := sl hn hj hu.1 q
      rw [hu.1, i56, nI_clamp (by omega)]
      refine tt_ixn (by omega) (by decide) (tt_nm (tt_some (nx_l (by omega) ⟨nx1 rfl, (upd_no (by omega)).trans hu.2.1, fun i hi => ?_⟩)))
      by_cases e : i = j
      · rw [e]
        exact upd_at
      · exact (upd_no (by omega)).trans (hu.2.2 i (by omega))
  · exact (upd_no (by decide)).trans ((upd_no (by decide)).trans hw.1)
  · exact (upd_no (by decide)).trans upd_at
  · exact (upd_no (by omega)).trans ((upd_no (by omega)).trans (hw.2 i hi))
