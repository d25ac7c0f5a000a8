
/-! what StringBuilder's functions answer, as far as spell needs it -/
theorem ss_J {K b : Nat} {x0 : Int32} (hK : 200000 ≤ K) (hb : b ≤ 1) : Tt (J_J6_stringSize_0f7a4_11 K (nI b) x0) (fun r => ∃ s, 1 ≤ s ∧ s ≤ 11 ∧ r = nI s) := by
  unfold J_J6_stringSize_0f7a4_11
  refine tt_bd2 (P := fun x : Nat × Int32 => x.1 < 2 ∧ ∃ a, 1 ≤ a ∧ a ≤ 10 ∧ x.2 = nI a) (tt_for (fun j u => u.2 = nI (j + 1)) 9 (by omega) rfl (fun j u hj hu => ?_)) (fun t x3 hx => ?_)
  · unfold B_J6_stringSize_0f7a4_16
    rw [hu]
    refine tt_ite (fun _ => tt_some (nx_r ⟨Nat.lt_succ_self 1, j + 1, by omega, by omega, rfl⟩)) (fun q => tt_ite (fun _ => tt_some (nx_l ?_ (nI_1 _))) (fun _ => tt_some (nx_r ⟨Nat.zero_lt_succ 1, j + 1, by omega, by omega, rfl⟩)))
    have := mt (nI_leI (a := 10) (b := j + 1) (by omega) (by omega)).mpr q
    omega
  · obtain ⟨ht, a, h1, h2, h3⟩ := hx
    have h3 : x3 = nI a := h3
    have ht : t < 2 := ht
    refine tt_ite (fun _ => tt_some ⟨a + b, by omega, by omega, by rw [h3, nI_add]⟩) (fun q => tt_ite (fun _ => tt_some ⟨10 + b, by omega, by omega, nI_add 10 b⟩) (fun q2 => ?_))
    omega
theorem ss_tot {K : Nat} {i : Int32} (hK : 200000 ≤ K) : Tt (F_J6_stringSize_0f7a4 K i) (fun r => ∃ s, 1 ≤ s ∧ s ≤ 11 ∧ r = nI s) := by
  unfold F_J6_stringSize_0f7a4
  exact tt_ite (fun _ => ss_J (b := 1) hK (by decide)) (fun _ => ss_J (b := 0) hK (by decide))
theorem ss_d1 : ∀ i, i < 8 → ¬ nI i < 0 := by decide +kernel
theorem ss_d2 : ∀ i, i < 8 → ¬ -(nI i) ≤ -10 := by decide +kernel
theorem ss_dig {K i : Nat} (hK : 200000 ≤ K) (hi : i < 8) : F_J6_stringSize_0f7a4 K (nI i) = some (nI 1) := by
  have e : lpF (fun u9 : Int32 × Int32 => B_J6_stringSize_0f7a4_16 (-(nI i)) u9.1 u9.2) K ((-10 : Int32), (1 : Int32)) = some (0, 1) := by
    obtain ⟨K', rfl⟩ : ∃ K', K = K' + 1 := ⟨K - 1, by omega⟩
    refine lp_end ?_
    show B_J6_stringSize_0f7a4_16 (-(nI i)) (-10) 1 = some (Sum.inr (0, 1))
    unfold B_J6_stringSize_0f7a4_16
    rw [if_neg (by decide), if_neg (ss_d2 i hi)]
  unfold F_J6_stringSize_0f7a4 J_J6_stringSize_0f7a4_11
  rw [if_neg (ss_d1 i hi), e, xb2, if_pos rfl]
  rfl
theorem dec1 {y : Nat} (h : 1 ≤ y) : nI y + (-1 : Int32) = nI (y - 1) := by
  obtain ⟨x, rfl⟩ : ∃ x, y = x + 1 := ⟨y - 1, by omega⟩
  rw [← nI_1, Int32.add_assoc, show (1 : Int32) + -1 = 0 by decide, Int32.add_zero]
  rfl
def gcT (m9 : Nat) (k0 x0 x5 : Int32) (c : Nat → Int32) : Option (Int32 × (Nat → Int32)) :=
  ixF (-x0) 100 (ixF (x5 + (-1 : Int32)) m9 (nmF (upd c (x5 + (-1 : Int32)).toNatClampNeg (vp_nar .byte (onesF (-x0).toNatClampNeg))) (fun f_16 => if (-9 : Int32) ≤ x0 then if k0 = (0 : Int32) then some (x5 + (-1 : Int32), f_16) else ixF ((x5 + (-1 : Int32)) + (-1 : Int32)) m9 (nmF (upd f_16 ((x5 + (-1 : Int32)) + (-1 : Int32)).toNatClampNeg (vp_nar .byte (45 : Int32))) (fun f_20 => some ((x5 + (-1 : Int32)) + (-1 : Int32), f_20))) else ixF (-x0) 100 (ixF ((x5 + (-1 : Int32)) + (-1 : Int32)) m9 (nmF (upd f_16 ((x5 + (-1 : Int32)) + (-1 : Int32)).toNatClampNeg (vp_nar .byte (tensF (-x0).toNatClampNeg))) (fun f_23 => if k0 = (0 : Int32) then some ((x5 + (-1 : Int32)) + (-1 : Int32), f_23) else ixF (((x5 + (-1 : Int32)) + (-1 : Int32)) + (-1 : Int32)) m9 (nmF (upd f_23 (((x5 + (-1 : Int32)) + (-1 : Int32)) + (-1 : Int32)).toNatClampNeg (vp_nar .byte (45 : Int32))) (fun f_26 => some (((x5 + (-1 : Int32)) + (-1 : Int32)) + (-1 : Int32), f_26))))))))) 
theorem gc_tail {mz d y : Nat} {k0 x0 x5 : Int32} {c : Nat → Int32} (hm : mz ≤ 34) (hf : sb_Fit c) (h0 : -x0 = nI d) (hd : d < 100) (h5 : x5 = nI y) (hy2 : y ≤ mz) (hy : 3 ≤ y ∨ (1 ≤ y ∧ k0 = 0 ∧ (-9 : Int32) ≤ x0)) : Tt (gcT mz k0 x0 x5 c) (fun x => sb_Fit x.2) := by
  unfold gcT
  have h1 : 1 ≤ y := by omega
  rw [h0, h5, dec1 h1]
  refine tt_ixn hd (by decide) (tt_ixn (by omega) (by omega) (tt_nm ?_))
  have f1 := sb_fitU (k := (nI (y - 1)).toNatClampNeg) hf (fit_nar (onesF (nI d).toNatClampNeg))
  refine tt_ite (fun q => tt_ite (fun _ => tt_some f1) (fun k => ?_)) (fun q => ?_)
  · have y3 : 3 ≤ y := by
      rcases hy with h | h
      · exact h
      · exact absurd h.2.1 k
    rw [dec1 (show 1 ≤ y - 1 by omega)]
    exact tt_ixn (by omega) (by omega) (tt_nm (tt_some (sb_fitU f1 (fit_nar _))))
  · have y3 : 3 ≤ y := by
      rcases hy with h | h
      · exact h
      · exact absurd h.2.2 q
    rw [dec1 (show 1 ≤ y - 1 by omega), dec1 (show 1 ≤ y - 1 - 1 by omega)]
    refine tt_ixn hd (by decide) (tt_ixn (by omega) (by omega) (tt_nm (tt_ite (fun _ => tt_some (sb_fitU f1 (fit_nar _))) (fun _ => tt_ixn (by omega) (by omega) (tt_nm (tt_some (sb_fitU (sb_fitU f1 (fit_nar _)) (fit_nar _))))))))
theorem gc_div {x : Int32} (h : x.toInt ≤ 0) : ∃ d, d < 100 ∧ x / 100 * 100 - x = nI d ∧ (x / 100).toInt ≤ 0 ∧ x.toInt = 100 * (x / 100).toInt - (d : Int) := by
  have lo := Int32.le_toInt x
  have h100 : (100 : Int32).toInt = 100 := by decide
  have hq : (x / 100).toInt = -((-x.toInt) / 100) := by
    rw [Int32.toInt_div, h100]
    rw [show x.toInt.tdiv 100 = -((-x.toInt) / 100) by
      rw [← Int.tdiv_eq_ediv_of_nonneg (show 0 ≤ -x.toInt by omega), Int.neg_tdiv, Int.neg_neg]]
    rw [Int.bmod_eq_of_le (by omega) (by omega)]
  have hr : (x / 100 * 100 - x).toInt = -((-x.toInt) / 100) * 100 - x.toInt := by
    rw [Int32.toInt_sub, Int32.toInt_mul, hq, h100, Int.bmod_eq_of_le (n := -((-x.toInt) / 100) * 100) (by omega) (by omega), Int.bmod_eq_of_le (by omega) (by omega)]
  refine ⟨(-((-x.toInt) / 100) * 100 - x.toInt).toNat, by omega, ?_, by omega, by omega⟩
  apply Int32.toInt_inj.mp
  rw [hr, nI_toInt (by omega)]
  omega
def gB : Nat → Int
  | 0 => 2147483648
  | 1 => 21474836
  | 2 => 214748
  | 3 => 2147
  | _ => 21
theorem gB_step : ∀ t, t < 4 → ∀ a b : Int, a ≤ gB t → 100 * b ≤ a → b ≤ gB (t + 1) := by
  intro t ht a b h1 h2
  match t, ht with
  | 0, _ => have h1 : a ≤ 2147483648 := h1; show b ≤ 21474836; omega
  | 1, _ => have h1 : a ≤ 21474836 := h1; show b ≤ 214748; omega
  | 2, _ => have h1 : a ≤ 214748 := h1; show b ≤ 2147; omega
  | 3, _ => have h1 : a ≤ 2147 := h1; show b ≤ 21; omega
  | t + 4, h => omega
theorem m100 : (-100 : Int32).toInt = -100 := by decide
theorem gc_loop {K mz y : Nat} {x : Int32} {c : Nat → Int32} (hK : 200000 ≤ K) (hm : mz ≤ 34) (hf : sb_Fit c) (hy : 11 ≤ y) (hy2 : y ≤ mz) (hx : x.toInt ≤ 0) : Tt (lpF (fun u9 : Int32 × Int32 × (Nat → Int32) => B_J6_getChars_ba4f3_22 mz u9.1 u9.2.1 u9.2.2) K (x, nI y, c)) (fun r => (∃ d, d < 100 ∧ -r.1 = nI d) ∧ (∃ a, 3 ≤ a ∧ a ≤ mz ∧ r.2.1 = nI a) ∧ sb_Fit r.2.2) := by
  refine tt_for (fun t u => u.1.toInt ≤ 0 ∧ -u.1.toInt ≤ gB t ∧ u.2.1 = nI (y - 2 * t) ∧ sb_Fit u.2.2) 4 (by omega) ⟨hx, ?_, rfl, hf⟩ (fun t u ht hu => ?_)
  · have := Int32.le_toInt x
    show -x.toInt ≤ 2147483648
    omega
  obtain ⟨h1, h2, h3, h4⟩ := hu
  unfold B_J6_getChars_ba4f3_22
  refine tt_ite (fun q => tt_some (nx_r ⟨?_, ⟨y - 2 * t, by omega, by omega, h3⟩, h4⟩)) (fun q => ?_)
  · have q1 := Int32.lt_iff_toInt_lt.mp q
    rw [m100] at q1
    refine ⟨(-u.1.toInt).toNat, by omega, ?_⟩
    show -u.1 = nI (-u.1.toInt).toNat
    apply Int32.toInt_inj.mp
    rw [Int32.toInt_neg, Int.bmod_eq_of_le (by omega) (by omega), nI_toInt (by omega)]
    omega
  · have q1 := mt Int32.lt_iff_toInt_lt.mpr q
    rw [m100] at q1
    obtain ⟨d, hd, e1, e2, e3⟩ := gc_div h1
    have t4 : t < 4 := by
      rcases Nat.lt_or_ge t 4 with z | z
      · exact z
      · have t5 : t = 4 := by omega
        rw [t5] at h2
        have h2 : -u.1.toInt ≤ 21 := h2
        omega
    have hb := gB_step t t4 (-u.1.toInt) (-(u.1 / 100).toInt) h2 (by omega)
    rw [e1, h3, dec1 (show 1 ≤ y - 2 * t by omega), dec1 (show 1 ≤ y - 2 * t - 1 by omega)]
    exact tt_ixn hd (by decide) (tt_ixn (by omega) (by omega) (tt_nm (tt_ixn hd (by decide) (tt_ixn (by omega) (by omega) (tt_nm (tt_some (nx_l t4 ⟨e2, hb, by rw [show y - 2 * t - 1 - 1 = y - 2 * (t + 1) by omega], sb_fitU (sb_fitU h4 (fit_nar _)) (fit_nar _)⟩)))))))
theorem gc_tot {K mz y : Nat} {i : Int32} {c : Nat → Int32} (hK : 200000 ≤ K) (hm : mz ≤ 34) (hf : sb_Fit c) (hy : 11 ≤ y) (hy2 : y ≤ mz) : Tt (F_J6_getChars_ba4f3 K i (nI y) c mz) (fun x => sb_Fit x.2) := by
  have z : (0 : Int32).toInt = 0 := rfl
  unfold F_J6_getChars_ba4f3 J_J6_getChars_ba4f3_12
  refine tt_ite (fun q => ?_) (fun q => ?_)
  · rw [if_pos rfl]
    have q0 := Int32.le_iff_toInt_le.mp q
    have lo := Int32.toInt_lt i
    refine tt_bd3 (gc_loop hK hm hf hy hy2 ?_) (fun x0 x5 c2 hr => ?_)
    · rw [Int32.toInt_neg, Int.bmod_eq_of_le (by omega) (by omega)]
      omega
    · obtain ⟨⟨d, hd, e0⟩, ⟨a, a1, a2, e5⟩, hf2⟩ := hr
      exact gc_tail hm hf2 e0 hd e5 a2 (Or.inl a1)
  · rw [if_neg (by decide)]
    have q0 := mt Int32.le_iff_toInt_le.mpr q
    refine tt_bd3 (gc_loop hK hm hf hy hy2 (by omega)) (fun x0 x5 c2 hr => ?_)
    obtain ⟨⟨d, hd, e0⟩, ⟨a, a1, a2, e5⟩, hf2⟩ := hr
    exact gc_tail hm hf2 e0 hd e5 a2 (Or.inl a1)
theorem gc_d1 : ∀ i, i < 8 → (0 : Int32) ≤ nI i := by decide +kernel
theorem gc_d2 : ∀ i, i < 8 → (-100 : Int32) < -(nI i) := by decide +kernel
theorem gc_d3 : ∀ i, i < 8 → (-9 : Int32) ≤ -(nI i) := by decide +kernel
theorem gc_d4 : ∀ i, i < 8 → -(-(nI i)) = nI i := by decide +kernel
theorem gc_dig {K mz y i : Nat} {c : Nat → Int32} (hK : 200000 ≤ K) (hi : i < 8) (hm : mz ≤ 34) (hf : sb_Fit c) (hy : 1 ≤ y) (hy2 : y ≤ mz) : Tt (F_J6_getChars_ba4f3 K (nI i) (nI y) c mz) (fun x => sb_Fit x.2) := by
  have e : lpF (fun u9 : Int32 × Int32 × (Nat → Int32) => B_J6_getChars_ba4f3_22 mz u9.1 u9.2.1 u9.2.2) K (-(nI i), nI y, c) = some (-(nI i), nI y, c) := by
    obtain ⟨K', rfl⟩ : ∃ K', K = K' + 1 := ⟨K - 1, by omega⟩
    refine lp_end ?_
    show B_J6_getChars_ba4f3_22 mz (-(nI i)) (nI y) c = some (Sum.inr (-(nI i), nI y, c))
    unfold B_J6_getChars_ba4f3_22
    rw [if_pos (gc_d2 i hi)]
  unfold F_J6_getChars_ba4f3 J_J6_getChars_ba4f3_12
  rw [if_pos (gc_d1 i hi), if_pos rfl, e, xb3]
  exact gc_tail hm hf (gc_d4 i hi) (show i < 100 by omega) rfl hy2 (Or.inr ⟨hy, rfl, gc_d3 i hi⟩)
theorem nc_ok : ∀ k, k < 35 → 16 < k → F_J5_newCapacity_0f7a4 (nI k) 0 16 = some 34 := by decide +kernel
theorem gb_ok {p w k mz : Nat} {c : Nat → Int32} (hp : (p = 12 ∧ w = 5) ∨ (p = 13 ∧ w = 4)) (hk : k + w ≤ mz) (hm : mz ≤ 34) : F_J0_getBytes_840e7 p (nI k) 0 c mz = some (va_cpy (fun j => (strB.getD p []).getD j 0) c 0 k w) := by
  have p15 : p < 15 := by omega
  have el : strL.getD p 0 = w := by rcases hp with ⟨rfl, rfl⟩ | ⟨rfl, rfl⟩ <;> rfl
  have hw : w ≤ 5 := by omega
  unfold F_J0_getBytes_840e7 F_J0_coder_7d493
  rw [xlt p15, xlt p15, xb1, if_pos rfl, xlt p15, xlt p15, xlt p15, xlt p15, sb_shl0, el]
  unfold cpF
  have c1 : (nI k).toNatClampNeg = k := nI_clamp (by omega)
  have c2 : (Int32.ofNat w).toNatClampNeg = w := nI_clamp (by omega)
  rw [c1, c2]
  rw [if_pos ⟨by decide, nI_pos (by omega), nI_pos (by omega), by rw [show (0 : Int32).toNatClampNeg = 0 from rfl]; omega, hk⟩]
  rfl
theorem ps_ok {p w k mz : Nat} {c : Nat → Int32} (hp : (p = 12 ∧ w = 5) ∨ (p = 13 ∧ w = 4)) (hk : k + w ≤ mz) (hm : mz ≤ 34) (hf : sb_Fit c) : ∃ c', F_J5_putStringAt_47b60 (nI k) p c 0 mz = some c' ∧ sb_Fit c' := by
  have p15 : p < 15 := by omega
  refine ⟨va_cpy (fun j => (strB.getD p []).getD j 0) c 0 k w, ?_, sb_fitC (fun j => strB_fit p j) hf⟩
  unfold F_J5_putStringAt_47b60 F_J5_inflateIfNeededFor_a7421 F_J0_coder_7d493
  rw [xlt p15, xlt p15, xb1, if_pos rfl, xb1, xlt p15, gb_ok hp hk hm, xb1]
theorem ln_ok {p w : Nat} (hp : (p = 12 ∧ w = 5) ∨ (p = 13 ∧ w = 4)) : F_J0_length_8abf5 p = some (nI w) := by
  have p15 : p < 15 := by omega
  have el : strL.getD p 0 = w := by rcases hp with ⟨rfl, rfl⟩ | ⟨rfl, rfl⟩ <;> rfl
  unfold F_J0_length_8abf5 F_J0_coder_7d493
  rw [xlt p15, xlt p15, xlt p15, xlt p15, xb1, sb_shr0, el]
  rfl
theorem ca_ok {n mz i : Nat} {c : Nat → Int32} (hi : i < n) (hn : n ≤ mz) (hm : mz ≤ 34) : Tt (F_J5_charAt_5068e (nI i) c 0 (nI n) mz) (fun _ => True) := by
  unfold F_J5_charAt_5068e F_J0_checkIndex_df160 F_J3_checkIndex_8e157null
  have e : minF (nI n) (Int32.ofNat mz >>> ((0 : Int32) &&& (31 : Int32))) = nI n := by
    rw [sb_shr0]
    unfold minF
    exact if_neg (nI_nlt hn (by omega))
  rw [e, if_neg (nI_pos (by omega)), if_pos (nI_lt hi (by omega)), xb1, xb1, if_pos rfl]
  exact tt_ixn (by omega) (by omega) (tt_some trivial)
