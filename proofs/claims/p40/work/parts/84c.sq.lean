-- 84c.sq
section

/-! what StringBuilder's functions answer, as far as spell needs it -/
theorem ss_J {K b : Nat} {x0 : Int32} (hK : 200000 ≤ K) (hb : b ≤ 1) : Tt (J_J6_stringSize_0f7a4_11 K (nI b) x0) (fun r => ∃ s, 1 ≤ s ∧ s ≤ 11 ∧ r = nI s) := by
  unfold J_J6_stringSize_0f7a4_11
  refine tt_bd2 (P := fun x : Nat × Int32 => x.1 < 2 ∧ ∃ a, 1 ≤ a ∧ a ≤ 10 ∧ x.2 = nI a) (tt_for (fun j u => u.2 = nI (j + 1)) 9 (by omega) rfl (fun j u hj hu => ?_)) (fun t x3 hx => ?_)
  · unfold B_J6_stringSize_0f7a4_16
    rw [hu]
    refine tt_ite (fun _ => tt_some (nx_r ⟨Nat.lt_succ_self 1, j + 1, by omega, by omega, rfl⟩)) (fun q => tt_ite (fun _ => tt_some (nx_l ?_ (nI_1 _))) (fun _ => tt_some (nx_r ⟨Nat.zero_lt_succ 1, j + 1, by omega, by omega, rfl⟩)))
    have := mt (nI_leI (a := 10) (b := j + 1) (by omega) (by omega)).mpr q
    omega
  · obtain ⟨ht, a, h1, h2, h3⟩ := hx
    have h3 : x3 = nI a := h3
    have ht : t < 2 := ht
    refine tt_ite (fun _ => tt_some ⟨a + b, by omega, by omega, by rw [h3, nI_add]⟩) (fun q => tt_ite (fun _ => tt_some ⟨10 + b, by omega, by omega, nI_add 10 b⟩) (fun q2 => ?_))
    omega
theorem ss_tot {K : Nat} {i : Int32} (hK : 200000 ≤ K) : Tt (F_J6_stringSize_0f7a4 K i) (fun r => ∃ s, 1 ≤ s ∧ s ≤ 11 ∧ r = nI s) := by
  unfold F_J6_stringSize_0f7a4
  exact tt_ite (fun _ => ss_J (b := 1) hK (by decide)) (fun _ => ss_J (b := 0) hK (by decide))
theorem ss_d1 : ∀ i, i < 8 → ¬ nI i < 0 := by decide +kernel
theorem ss_d2 : ∀ i, i < 8 → ¬ -(nI i) ≤ -10 := by decide +kernel
theorem ss_dig {K i : Nat} (hK : 200000 ≤ K) (hi : i < 8) : F_J6_stringSize_0f7a4 K (nI i) = some (nI 1) := by
  have e : lpF (fun u9 : Int32 × Int32 => B_J6_stringSize_0f7a4_16 (-(nI i)) u9.1 u9.2) K ((-10 : Int32), (1 : Int32)) = some (0, 1) := by
    obtain ⟨K', rfl⟩ : ∃ K', K = K' + 1 := ⟨K - 1, by omega⟩
    refine lp_end ?_
    show B_J6_stringSize_0f7a4_16 (-(nI i)) (-10) 1 = some (Sum.inr (0, 1))
    unfold B_J6_stringSize_0f7a4_16
    rw [if_neg (by decide), if_neg (ss_d2 i hi)]
  unfold F_J6_stringSize_0f7a4 J_J6_stringSize_0f7a4_11
  rw [if_neg (ss_d1 i hi), e, xb2, if_pos rfl]
  rfl
theorem dec1 {y : Nat} (h : 1 ≤ y) : nI y + (-1 : Int32) = nI (y - 1) := by
  obtain ⟨x, rfl⟩ : ∃ x, y = x + 1 := ⟨y - 1, by omega⟩
  rw [← nI_1, Int32.add_assoc, show (1 : Int32) + -1 = 0 by decide, Int32.add_zero]
  rfl
def gcT (m9 : Nat) (k0 x0 x5 : Int32) (c : Nat → Int32) : Option (Int32 × (Nat → Int32)) :=
  ixF (-x0) 100 (ixF (x5 + (-1 : Int32)) m9 (nmF (upd c (x5 + (-1 : Int32)).toNatClampNeg (vp_nar .byte (onesF (-x0).toNatClampNeg))) (fun f_16 => if (-9 : Int32) ≤ x0 then if k0 = (0 : Int32) then some (x5 + (-1 : Int32), f_16) else ixF ((x5 + (-1 : Int32)) + (-1 : Int32)) m9 (nmF (upd f_16 ((x5 + (-1 : Int32)) + (-1 : Int32)).toNatClampNeg (vp_nar .byte (45 : Int32))) (fun f_20 => some ((x5 + (-1 : Int32)) + (-1 : Int32), f_20))) else ixF (-x0) 100 (ixF ((x5 + (-1 : Int32)) + (-1 : Int32)) m9 (nmF (upd f_16 ((x5 + (-1 : Int32)) + (-1 : Int32)).toNatClampNeg (vp_nar .byte (tensF (-x0).toNatClampNeg))) (fun f_23 => if k0 = (0 : Int32) then some ((x5 + (-1 : Int32)) + (-1 : Int32), f_23) else ixF (((x5 + (-1 : Int32)) + (-1 : Int32)) + (-1 : Int32)) m9 (nmF (upd f_23 (((x5 + (-1 : Int32)) + (-1 : Int32)) + (-1 : Int32)).toNatClampNeg (vp_nar .byte (45 : Int32))) (fun f_26 => some (((x5 + (-1 : Int32)) + (-1 : Int32)) + (-1 : Int32), f_26))))))))) 
theorem gc_tail {mz d y : Nat} {k0 x0 x5 : Int32} {c : Nat → Int32} (hm : mz ≤ 34) (hf : sb_Fit c) (h0 : -x0 = nI d) (hd : d < 100) (h5 : x5 = nI y) (hy2 : y ≤ mz) (hy : 3 ≤ y ∨ (1 ≤ y ∧ k0 = 0 ∧ (-9 : Int32) ≤ x0)) : Tt (gcT mz k0 x0 x5 c) (fun x => sb_Fit x.2) := by
  unfold gcT
  have h1 : 1 ≤ y := by omega
  rw [h0, h5, dec1 h1]
  refine tt_ixn hd (by decide) (tt_ixn (by omega) (by omega) (tt_nm ?_))
  have f1 := sb_fitU (k := (nI (y - 1)).toNatClampNeg) hf (fit_nar (onesF (nI d).toNatClampNeg))
  refine tt_ite (fun q => tt_ite (fun _ => tt_some f1) (fun k => ?_)) (fun q => ?_)
  · have y3 : 3 ≤ y := by
      rcases hy with h | h
      · exact h
      · exact absurd h.2.1 k
    rw [dec1 (show 1 ≤ y - 1 by omega)]
    exact tt_ixn (by omega) (by omega) (tt_nm (tt_some (sb_fitU f1 (fit_nar _))))
  · have y3 : 3 ≤ y := by
      rcases hy with h | h
      · exact h
      · exact absurd h.2.2 q
    rw [dec1 (show 1 ≤ y - 1 by omega), dec1 (show 1 ≤ y - 1 - 1 by omega)]
    refine tt_ixn hd (by decide) (tt_ixn (by omega) (by omega) (tt_nm (tt_ite (fun _ => tt_some (sb_fitU f1 (fit_nar _))) (fun _ => tt_ixn (by omega) (by omega) (tt_nm (tt_some (sb_fitU (sb_fitU f1 (fit_nar _)) (fit_nar _))))))))
theorem gc_div {x : Int32} (h : x.toInt ≤ 0) : ∃ d, d < 100 ∧ x / 100 * 100 - x = nI d ∧ (x / 100).toInt ≤ 0 ∧ x.toInt = 100 * (x / 100).toInt - (d : Int) := by
  have lo := Int32.le_toInt x
  have h100 : (100 : Int32).toInt = 100 := by decide
  have hq : (x / 100).toInt = -((-x.toInt) / 100) := by
    rw [Int32.toInt_div, h100]
    rw [show x.toInt.tdiv 100 = -((-x.toInt) / 100) by
      rw [← Int.tdiv_eq_ediv_of_nonneg (show 0 ≤ -x.toInt by omega), Int.neg_tdiv, Int.neg_neg]]
    rw [Int.bmod_eq_of_le (by omega) (by omega)]
  have hr : (x / 100 * 100 - x).toInt = -((-x.toInt) / 100) * 100 - x.toInt := by
    rw [Int32.toInt_sub, Int32.toInt_mul, hq, h100, Int.bmod_eq_of_le (n := -((-x.toInt) / 100) * 100) (by omega) (by omega), Int.bmod_eq_of_le (by omega) (by omega)]
  refine ⟨(-((-x.toInt) / 100) * 100 - x.toInt).toNat, by omega, ?_, by omega, by omega⟩
  apply Int32.toInt_inj.mp
  rw [hr, nI_toInt (by omega)]
  omega
def gB : Nat → Int
  | 0 => 2147483648
  | 1 => 21474836
  | 2 => 214748
  | 3 => 2147
  | _ => 21
theorem gB_step : ∀ t, t < 4 → ∀ a b : Int, a ≤ gB t → 100 * b ≤ a → b ≤ gB (t + 1) := by
  intro t ht a b h1 h2
  match t, ht with
  | 0, _ => have h1 : a ≤ 2147483648 := h1; show b ≤ 21474836; omega
  | 1, _ => have h1 : a ≤ 21474836 := h1; show b ≤ 214748; omega
  | 2, _ => have h1 : a ≤ 214748 := h1; show b ≤ 2147; omega
  | 3, _ => have h1 : a ≤ 2147 := h1; show b ≤ 21; omega
  | t + 4, h => omega
theorem m100 : (-100 : Int32).toInt = -100 := by decide
theorem gc_loop {K mz y : Nat} {x : Int32} {c : Nat → Int32} (hK : 200000 ≤ K) (hm : mz ≤ 34) (hf : sb_Fit c) (hy : 11 ≤ y) (hy2 : y ≤ mz) (hx : x.toInt ≤ 0) : Tt (lpF (fun u9 : Int32 × Int32 × (Nat → Int32) => B_J6_getChars_ba4f3_22 mz u9.1 u9.2.1 u9.2.2) K (x, nI y, c)) (fun r => (∃ d, d < 100 ∧ -r.1 = nI d) ∧ (∃ a, 3 ≤ a ∧ a ≤ mz ∧ r.2.1 = nI a) ∧ sb_Fit r.2.2) := by
  refine tt_for (fun t u => u.1.toInt ≤ 0 ∧ -u.1.toInt ≤ gB t ∧ u.2.1 = nI (y - 2 * t) ∧ sb_Fit u.2.2) 4 (by omega) ⟨hx, ?_, rfl, hf⟩ (fun t u ht hu => ?_)
  · have := Int32.le_toInt x
    show -x.toInt ≤ 2147483648
    omega
  obtain ⟨h1, h2, h3, h4⟩ := hu
  unfold B_J6_getChars_ba4f3_22
  refine tt_ite (fun q => tt_some (nx_r ⟨?_, ⟨y - 2 * t, by omega, by omega, h3⟩, h4⟩)) (fun q => ?_)
  · have q1 := Int32.lt_iff_toInt_lt.mp q
    rw [m100] at q1
    refine ⟨(-u.1.toInt).toNat, by omega, ?_⟩
    show -u.1 = nI (-u.1.toInt).toNat
    apply Int32.toInt_inj.mp
    rw [Int32.toInt_neg, Int.bmod_eq_of_le (by omega) (by omega), nI_toInt (by omega)]
    omega
  · have q1 := mt Int32.lt_iff_toInt_lt.mpr q
    rw [m100] at q1
    obtain ⟨d, hd, e1, e2, e3⟩ := gc_div h1
    have t4 : t < 4 := by
      rcases Nat.lt_or_ge t 4 with z | z
      · exact z
      · have t5 : t = 4 := by omega
        rw [t5] at h2
        have h2 : -u.1.toInt ≤ 21 := h2
        omega
    have hb := gB_step t t4 (-u.1.toInt) (-(u.1 / 100).toInt) h2 (by omega)
    rw [e1, h3, dec1 (show 1 ≤ y - 2 * t by omega), dec1 (show 1 ≤ y - 2 * t - 1 by omega)]
    exact tt_ixn hd (by decide) (tt_ixn (by omega) (by omega) (tt_nm (tt_ixn hd (by decide) (tt_ixn (by omega) (by omega) (tt_nm (tt_some (nx_l t4 ⟨e2, hb, by rw [show y - 2 * t - 1 - 1 = y - 2 * (t + 1) by omega], sb_fitU (sb_fitU h4 (fit_nar _)) (fit_nar _)⟩)))))))
theorem gc_tot {K mz y : Nat} {i : Int32} {c : Nat → Int32} (hK : 200000 ≤ K) (hm : mz ≤ 34) (hf : sb_Fit c) (hy : 11 ≤ y) (hy2 : y ≤ mz) : Tt (F_J6_getChars_ba4f3 K i (nI y) c mz) (fun x => sb_Fit x.2) := by
  have z : (0 : Int32).toInt = 0 := rfl
  unfold F_J6_getChars_ba4f3 J_J6_getChars_ba4f3_12
  refine tt_ite (fun q => ?_) (fun q => ?_)
  · rw [if_pos rfl]
    have q0 := Int32.le_iff_toInt_le.mp q
    have lo := Int32.toInt_lt i
    refine tt_bd3 (gc_loop hK hm hf hy hy2 ?_) (fun x0 x5 c2 hr => ?_)
    · rw [Int32.toInt_neg, Int.bmod_eq_of_le (by omega) (by omega)]
      omega
    · obtain ⟨⟨d, hd, e0⟩, ⟨a, a1, a2, e5⟩, hf2⟩ := hr
      exact gc_tail hm hf2 e0 hd e5 a2 (Or.inl a1)
  · rw [if_neg (by decide)]
    have q0 := mt Int32.le_iff_toInt_le.mpr q
    refine tt_bd3 (gc_loop hK hm hf hy hy2 (by omega)) (fun x0 x5 c2 hr => ?_)
    obtain ⟨⟨d, hd, e0⟩, ⟨a, a1, a2, e5⟩, hf2⟩ := hr
    exact gc_tail hm hf2 e0 hd e5 a2 (Or.inl a1)
theorem gc_d1 : ∀ i, i < 8 → (0 : Int32) ≤ nI i := by decide +kernel
theorem gc_d2 : ∀ i, i < 8 → (-100 : Int32) < -(nI i) := by decide +kernel
theorem gc_d3 : ∀ i, i < 8 → (-9 : Int32) ≤ -(nI i) := by decide +kernel
theorem gc_d4 : ∀ i, i < 8 → -(-(nI i)) = nI i := by decide +kernel
theorem gc_dig {K mz y i : Nat} {c : Nat → Int32} (hK : 200000 ≤ K) (hi : i < 8) (hm : mz ≤ 34) (hf : sb_Fit c) (hy : 1 ≤ y) (hy2 : y ≤ mz) : Tt (F_J6_getChars_ba4f3 K (nI i) (nI y) c mz) (fun x => sb_Fit x.2) := by
  have e : lpF (fun u9 : Int32 × Int32 × (Nat → Int32) => B_J6_getChars_ba4f3_22 mz u9.1 u9.2.1 u9.2.2) K (-(nI i), nI y, c) = some (-(nI i), nI y, c) := by
    obtain ⟨K', rfl⟩ : ∃ K', K = K' + 1 := ⟨K - 1, by omega⟩
    refine lp_end ?_
    show B_J6_getChars_ba4f3_22 mz (-(nI i)) (nI y) c = some (Sum.inr (-(nI i), nI y, c))
    unfold B_J6_getChars_ba4f3_22
    rw [if_pos (gc_d2 i hi)]
  unfold F_J6_getChars_ba4f3 J_J6_getChars_ba4f3_12
  rw [if_pos (gc_d1 i hi), if_pos rfl, e, xb3]
  exact gc_tail hm hf (gc_d4 i hi) (show i < 100 by omega) rfl hy2 (Or.inr ⟨hy, rfl, gc_d3 i hi⟩)
theorem nc_ok : ∀ k, k < 35 → 16 < k → F_J5_newCapacity_0f7a4 (nI k) 0 16 = some 34 := by decide +kernel
theorem gb_ok {p w k mz : Nat} {c : Nat → Int32} (hp : (p = 12 ∧ w = 5) ∨ (p = 13 ∧ w = 4)) (hk : k + w ≤ mz) (hm : mz ≤ 34) : F_J0_getBytes_840e7 p (nI k) 0 c mz = some (va_cpy (fun j => (strB.getD p []).getD j 0) c 0 k w) := by
  have p15 : p < 15 := by omega
  have el : strL.getD p 0 = w := by rcases hp with ⟨rfl, rfl⟩ | ⟨rfl, rfl⟩ <;> rfl
  have hw : w ≤ 5 := by omega
  unfold F_J0_getBytes_840e7 F_J0_coder_7d493
  rw [xlt p15, xlt p15, xb1, if_pos rfl, xlt p15, xlt p15, xlt p15, xlt p15, sb_shl0, el]
  unfold cpF
  have c1 : (nI k).toNatClampNeg = k := nI_clamp (by omega)
  have c2 : (Int32.ofNat w).toNatClampNeg = w := nI_clamp (by omega)
  rw [c1, c2]
  rw [if_pos ⟨by decide, nI_pos (by omega), nI_pos (by omega), by rw [show (0 : Int32).toNatClampNeg = 0 from rfl]; omega, hk⟩]
  rfl
theorem ps_ok {p w k mz : Nat} {c : Nat → Int32} (hp : (p = 12 ∧ w = 5) ∨ (p = 13 ∧ w = 4)) (hk : k + w ≤ mz) (hm : mz ≤ 34) (hf : sb_Fit c) : ∃ c', F_J5_putStringAt_47b60 (nI k) p c 0 mz = some c' ∧ sb_Fit c' := by
  have p15 : p < 15 := by omega
  refine ⟨va_cpy (fun j => (strB.getD p []).getD j 0) c 0 k w, ?_, sb_fitC (fun j => strB_fit p j) hf⟩
  unfold F_J5_putStringAt_47b60 F_J5_inflateIfNeededFor_a7421 F_J0_coder_7d493
  rw [xlt p15, xlt p15, xb1, if_pos rfl, xb1, xlt p15, gb_ok hp hk hm, xb1]
theorem ln_ok {p w : Nat} (hp : (p = 12 ∧ w = 5) ∨ (p = 13 ∧ w = 4)) : F_J0_length_8abf5 p = some (nI w) := by
  have p15 : p < 15 := by omega
  have el : strL.getD p 0 = w := by rcases hp with ⟨rfl, rfl⟩ | ⟨rfl, rfl⟩ <;> rfl
  unfold F_J0_length_8abf5 F_J0_coder_7d493
  rw [xlt p15, xlt p15, xlt p15, xlt p15, xb1, sb_shr0, el]
  rfl
theorem ca_ok {n mz i : Nat} {c : Nat → Int32} (hi : i < n) (hn : n ≤ mz) (hm : mz ≤ 34) : Tt (F_J5_charAt_5068e (nI i) c 0 (nI n) mz) (fun _ => True) := by
  unfold F_J5_charAt_5068e F_J0_checkIndex_df160 F_J3_checkIndex_8e157null
  have e : minF (nI n) (Int32.ofNat mz >>> ((0 : Int32) &&& (31 : Int32))) = nI n := by
    rw [sb_shr0]
    unfold minF
    exact if_neg (nI_nlt hn (by omega))
  rw [e, if_neg (nI_pos (by omega)), if_pos (nI_lt hi (by omega)), xb1, xb1, if_pos rfl]
  exact tt_ixn (by omega) (by omega) (tt_some trivial)
end
-- 84d.sh
section
noncomputable def blJ4_length_8abf5_0 : List Nat := [42, 183, 1, 87, 172]
set_option maxRecDepth 100000 in
theorem bcJ4_length_8abf5_0 : ((cJ4_length_8abf5.data.toList.drop 0).take blJ4_length_8abf5_0.length).map UInt8.toNat = blJ4_length_8abf5_0 := by decide +kernel
noncomputable def blJ4_charAt_5068e_0 : List Nat := [42, 27, 183, 1, 73, 172]
set_option maxRecDepth 100000 in
theorem bcJ4_charAt_5068e_0 : ((cJ4_charAt_5068e.data.toList.drop 0).take blJ4_charAt_5068e_0.length).map UInt8.toNat = blJ4_charAt_5068e_0 := by decide +kernel
noncomputable def blJ7_copyOf_9075b_0 : List Nat := [27, 42, 190, 160, 0, 11, 42, 182, 1, 54, 192, 1, 55, 176, 27, 188, 8, 77, 42, 3, 44, 3, 42, 190, 27, 184, 1, 48, 184, 0, 150, 44, 176]
set_option maxRecDepth 100000 in
theorem bcJ7_copyOf_9075b_0 : ((cJ7_copyOf_9075b.data.toList.drop 0).take blJ7_copyOf_9075b_0.length).map UInt8.toNat = blJ7_copyOf_9075b_0 := by decide +kernel
noncomputable def blJ5_ensureCapacityInternal_d00df_0 : List Nat := [42, 180, 0, 15, 190, 42, 180, 0, 22, 122, 61, 27, 28, 100, 158, 0, 24, 42, 42, 180, 0, 15, 42, 27, 182, 0, 104, 42, 180, 0, 22, 120, 184, 0, 108, 181, 0, 15, 177]
set_option maxRecDepth 100000 in
theorem bcJ5_ensureCapacityInternal_d00df_0 : ((cJ5_ensureCapacityInternal_d00df.data.toList.drop 0).take blJ5_ensureCapacityInternal_d00df_0.length).map UInt8.toNat = blJ5_ensureCapacityInternal_d00df_0 := by decide +kernel
noncomputable def blJ5_append_3fe6f_0 : List Nat := [42, 42, 180, 0, 79, 4, 96, 182, 0, 100, 42, 182, 0, 83, 153, 0, 31, 27, 184, 0, 191, 153, 0, 24, 42, 180, 0, 15, 42, 89, 180, 0, 79, 90, 4, 96, 181, 0, 79, 27, 145, 84, 167, 0, 33, 42, 182, 0, 83, 153, 0]
set_option maxRecDepth 100000 in
theorem bcJ5_append_3fe6f_0 : ((cJ5_append_3fe6f.data.toList.drop 0).take blJ5_append_3fe6f_0.length).map UInt8.toNat = blJ5_append_3fe6f_0 := by decide +kernel
noncomputable def blJ5_append_3fe6f_1 : List Nat := [83, 153, 0, 7, 42, 182, 0, 195, 42, 180, 0, 15, 42, 89, 180, 0, 79, 90, 4, 96, 181, 0, 79, 27, 184, 0, 197, 42, 176]
set_option maxRecDepth 100000 in
theorem bcJ5_append_3fe6f_1 : ((cJ5_append_3fe6f.data.toList.drop 48).take blJ5_append_3fe6f_1.length).map UInt8.toNat = blJ5_append_3fe6f_1 := by decide +kernel
noncomputable def blJ5_append_c97b9_0 : List Nat := [42, 180, 0, 79, 61, 28, 27, 184, 0, 245, 96, 62, 42, 29, 182, 0, 100, 42, 182, 0, 83, 153, 0, 16, 27, 29, 42, 180, 0, 15, 184, 0, 248, 87, 167, 0, 14, 27, 28, 29, 42, 180, 0, 15, 184, 0, 251, 87, 42, 29, 181]
set_option maxRecDepth 100000 in
theorem bcJ5_append_c97b9_0 : ((cJ5_append_c97b9.data.toList.drop 0).take blJ5_append_c97b9_0.length).map UInt8.toNat = blJ5_append_c97b9_0 := by decide +kernel
noncomputable def blJ5_append_c97b9_1 : List Nat := [42, 29, 181, 0, 79, 42, 176]
set_option maxRecDepth 100000 in
theorem bcJ5_append_c97b9_1 : ((cJ5_append_c97b9.data.toList.drop 48).take blJ5_append_c97b9_1.length).map UInt8.toNat = blJ5_append_c97b9_1 := by decide +kernel
noncomputable def blJ5_append_cf1ce_0 : List Nat := [43, 199, 0, 8, 42, 182, 0, 204, 176, 43, 182, 0, 32, 61, 42, 42, 180, 0, 79, 28, 96, 182, 0, 100, 42, 42, 180, 0, 79, 43, 182, 0, 208, 42, 89, 180, 0, 79, 28, 96, 181, 0, 79, 42, 176]
set_option maxRecDepth 100000 in
theorem bcJ5_append_cf1ce_0 : ((cJ5_append_cf1ce.data.toList.drop 0).take blJ5_append_cf1ce_0.length).map UInt8.toNat = blJ5_append_cf1ce_0 := by decide +kernel
noncomputable def blJ4_append_cf468_0 : List Nat := [42, 27, 183, 0, 50, 87, 42, 176]
set_option maxRecDepth 100000 in
theorem bcJ4_append_cf468_0 : ((cJ4_append_cf468.data.toList.drop 0).take blJ4_append_cf468_0.length).map UInt8.toNat = blJ4_append_cf468_0 := by decide +kernel
noncomputable def blJ4_append_bf812_0 : List Nat := [42, 27, 183, 0, 53, 87, 42, 176]
set_option maxRecDepth 100000 in
theorem bcJ4_append_bf812_0 : ((cJ4_append_bf812.data.toList.drop 0).take blJ4_append_bf812_0.length).map UInt8.toNat = blJ4_append_bf812_0 := by decide +kernel
noncomputable def blJ4_append_15ec4_0 : List Nat := [42, 43, 183, 0, 29, 87, 42, 176]
set_option maxRecDepth 100000 in
theorem bcJ4_append_15ec4_0 : ((cJ4_append_15ec4.data.toList.drop 0).take blJ4_append_15ec4_0.length).map UInt8.toNat = blJ4_append_15ec4_0 := by decide +kernel
noncomputable def blJ5_init_d00df_0 : List Nat := [42, 183, 0, 3, 178, 0, 18, 153, 0, 18, 42, 27, 188, 8, 181, 0, 15, 42, 3, 181, 0, 22, 167, 0, 16, 42, 27, 184, 0, 26, 181, 0, 15, 42, 4, 181, 0, 22, 177]
set_option maxRecDepth 100000 in
theorem bcJ5_init_d00df_0 : ((cJ5_init_d00df.data.toList.drop 0).take blJ5_init_d00df_0.length).map UInt8.toNat = blJ5_init_d00df_0 := by decide +kernel
noncomputable def blJ4_init_da8c8_0 : List Nat := [42, 16, 16, 183, 0, 1, 177]
set_option maxRecDepth 100000 in
theorem bcJ4_init_da8c8_0 : ((cJ4_init_da8c8.data.toList.drop 0).take blJ4_init_da8c8_0.length).map UInt8.toNat = blJ4_init_da8c8_0 := by decide +kernel
def dl_J7_copyOf_9075b_84d_sh_0 : List (Nat × Instr × Nat) := [(15, .newarray .byte, 2)]
set_option maxRecDepth 100000 in
theorem dall_J7_copyOf_9075b_84d_sh_0 : dchk cJ7_copyOf_9075b dl_J7_copyOf_9075b_84d_sh_0 = true := by decide +kernel
theorem dJ7_copyOf_9075b_15 : decode cJ7_copyOf_9075b 15 = .ok (.newarray .byte, 2) := dchk_at dall_J7_copyOf_9075b_84d_sh_0 (k := 0) rfl
def dl_J5_init_d00df_84d_sh_0 : List (Nat × Instr × Nat) := [(12, .newarray .byte, 2)]
set_option maxRecDepth 100000 in
theorem dall_J5_init_d00df_84d_sh_0 : dchk cJ5_init_d00df dl_J5_init_d00df_84d_sh_0 = true := by decide +kernel
theorem dJ5_init_d00df_12 : decode cJ5_init_d00df 12 = .ok (.newarray .byte, 2) := dchk_at dall_J5_init_d00df_84d_sh_0 (k := 0) rfl
def F_J4_length_8abf5 (c_count : Int32) : Option (Int32) :=
  bd1 (F_J5_length_8abf5 c_count) (fun r_1 => some r_1)
abbrev w_J4_length_8abf5 (E : EE) (a_ a_value : Nat) (c_coder : Int32) (c_maybeLatin1 : Int32) (c_count : Int32) : va_W := [k_J4 a_ a_value c_coder c_maybeLatin1 c_count]
def v_f_J4_length_8abf5 : List Cond := List.cons (.code yJ4_length_8abf5 cJ4_length_8abf5 1 (some .int)) (HAppend.hAppend (α := List Cond) (β := List Cond) (γ := List Cond) [.methodLink RJ4 343 yJ5_length_8abf5, .sameMethod RJ5 RJ5 "length" "()I", .superclass RJ4 RJ5, .instanceMethod yJ5_length_8abf5, .initialized RJ5] (HAppend.hAppend (α := List Cond) (β := List Cond) (γ := List Cond) v_f_J5_length_8abf5 []))
theorem gw_f_J4_length_8abf5 : v_f_J4_length_8abf5.all goodWord = true := gw_c2 (by decide +kernel) (gw_ap gw_f_J5_length_8abf5 gw_nil)
theorem g_f_J4_length_8abf5_f_J5_length_8abf5_343 : GoodIn v_f_J4_length_8abf5 (va_wsSU RJ4 343 yJ5_length_8abf5 v_f_J5_length_8abf5) := goodIn_in gw_f_J4_length_8abf5 (in5 1 2 3 4 5 rfl rfl rfl rfl rfl (fun _ h => List.mem_cons_of_mem _ (List.mem_append_right _ (List.mem_append_left _ h))))
theorem hd_J4_length_8abf5 : yJ4_length_8abf5.cls = RJ4 ∧ yJ4_length_8abf5.cls ≠ "java/lang/invoke/MethodHandle" ∧ yJ4_length_8abf5.cls ≠ "java/lang/invoke/VarHandle" ∧ (parseMethodDescriptor yJ4_length_8abf5.desc).map (fun d => d.parameters.length) = some 0 := by decide +kernel
set_option maxHeartbeats 4000000 in
set_option maxRecDepth 100000 in
theorem f_J4_length_8abf5 (l : Launch) (E : EE) {a_ a_value : Nat} {c_coder : Int32} {c_maybeLatin1 : Int32} {c_count : Int32} {rr : Int32} (hF : F_J4_length_8abf5 c_count = some rr) : Met l yJ4_length_8abf5 v_f_J4_length_8abf5 (({ frames := 1, cells := 0, slots := 0, locals := 20 } : Room)) (va_Pc [.ref a_] (pP E (w_J4_length_8abf5 E a_ a_value c_coder c_maybeLatin1 c_count))) (vp_Si (fun q : Int32 => q = rr)) 0 0 (fun _ => False) := by
  refine Met.ofWF (cc := cJ4_length_8abf5) (maxL := 1) (ret := (some .int)) (by decide +kernel) rfl ?_
  intro p e s m args below meth c s₁ B hml hv
  obtain ⟨rfl, ⟨hK, hN⟩, hP⟩ := hv
  have hx := B.exec
  have hb := B.bytes
  have hr := B.returns
  have hts := atoms_spec (ws := v_f_J4_length_8abf5) B.pre
  have hown : s.vm.findClass RJ4 = some m.cls := own_of hd_J4_length_8abf5.1 (findClass_of_methodNamed B.named)
  have hlocks : meth.locks = false := B.notSynchronized
  replace hP : va_P E.1 vwCl [k_J4 a_ a_value c_coder c_maybeLatin1 c_count] s.heap := hP
  have hl := lv_entry ([.ref a_]) (n := 1) (Nat.le_of_ble_eq_true rfl)
  rw [lg_entry_eq]
  generalize (lg_sl ([.ref a_]) ++ List.replicate (1 - (lg_sl ([.ref a_])).length) Slot.unset).toArray = ls at hl ⊢
  have hl : lv_has ls 1 [(0, .ref a_)] := hl
  obtain ⟨Q, hQ⟩ : ∃ Q : State → Prop, Q = MQ below (vp_Si (fun q : Int32 => q = rr)) #[Value.ref a_] s 0 0 (fun _ => False) := ⟨_, rfl⟩
  rw [← hQ]
  change W p l e ({ frames := 1, cells := 0, slots := 0, locals := 20 } : Room) s m #[Value.ref a_] below meth c s.heap [] 0 0 Q (F0 m 0 ls [])
  unfold F_J4_length_8abf5 at hF
  refine lv_aload_n hx hb (dq_42 0 bcJ4_length_8abf5_0 (j := 0) rfl rfl) rfl (lv_at hl 0 rfl) ?_
  replace hF := bd1_s hF
  obtain ⟨r_1, hc_2, hF⟩ := hF
  have hPc : va_P E.1 vwCl (w_J5_length_8abf5 E a_ a_value c_coder c_maybeLatin1 c_count) s.heap := hP.sub (ws' := [k_J4 a_ a_value c_coder c_maybeLatin1 c_count]) [0] rfl
  have hrc := va_recv hK hPc (ci := 0) (q0 := 0) rfl rfl
  refine pE_i (va_runSU (As := []) (rest := []) (hK.1 0 (RJ4, TJ4, 4) rfl).2 ⟨hx, hb, hml, hown, hts⟩ (f_J5_length_8abf5 l E (a_ := a_) (a_value := a_value) (c_coder := c_coder) (c_maybeLatin1 := c_maybeLatin1) (c_count := c_count) hc_2) (va_cwSU 0 hts g_f_J4_length_8abf5_f_J5_length_8abf5_343 rfl rfl rfl (by decide +kernel) ⟨Nat.le_of_ble_eq_true rfl, Nat.le_of_ble_eq_true rfl⟩) ⟨pP.blind, hrc, (pP.pre ⟨hK, hN⟩ hPc)⟩ rfl rfl hl.1 rfl (lv_room (Nat.le_of_ble_eq_true rfl)) (dq_183 0 bcJ4_length_8abf5_0 (j := 1) (i := 343) rfl rfl rfl) ⟨Nat.le_of_ble_eq_true rfl, Nat.le_of_ble_eq_true rfl⟩) ?_
  rw [hQ]
  obtain e9_0 := inj1 hF
  exact W.iret (v := r_1) hx hb hr (fun tt ht hW => ⟨_, rfl, e9_0, ht⟩) (fun _ h => by cases h) (dq_172 0 bcJ4_length_8abf5_0 (j := 4) rfl rfl)

def F_J4_charAt_5068e (p1 : Int32) (c_value : Nat → Int32) (c_coder : Int32) (c_count : Int32) (m9 : Nat) : Option (Int32) :=
  bd1 (F_J5_charAt_5068e p1 c_value c_coder c_count m9) (fun r_1 => some r_1)
abbrev w_J4_charAt_5068e (E : EE) (a_ a_value : Nat) (c_coder : Int32) (c_maybeLatin1 : Int32) (c_count : Int32) (c_value : Nat → Int32) (m9 : Nat) : va_W := [k_J4 a_ a_value c_coder c_maybeLatin1 c_count, k_B E a_value m9 c_value]
def v_f_J4_charAt_5068e : List Cond := List.cons (.code yJ4_charAt_5068e cJ4_charAt_5068e 2 (some .char)) (HAppend.hAppend (α := List Cond) (β := List Cond) (γ := List Cond) [.methodLink RJ4 329 yJ5_charAt_5068e, .sameMethod RJ5 RJ5 "charAt" "(I)C", .superclass RJ4 RJ5, .instanceMethod yJ5_charAt_5068e, .initialized RJ5] (HAppend.hAppend (α := List Cond) (β := List Cond) (γ := List Cond) v_f_J5_charAt_5068e []))
theorem gw_f_J4_charAt_5068e : v_f_J4_charAt_5068e.all goodWord = true := gw_c2 (by decide +kernel) (gw_ap gw_f_J5_charAt_5068e gw_nil)
theorem g_f_J4_charAt_5068e_f_J5_charAt_5068e_329 : GoodIn v_f_J4_charAt_5068e (va_wsSU RJ4 329 yJ5_charAt_5068e v_f_J5_charAt_5068e) := goodIn_in gw_f_J4_charAt_5068e (in5 1 2 3 4 5 rfl rfl rfl rfl rfl (fun _ h => List.mem_cons_of_mem _ (List.mem_append_right _ (List.mem_append_left _ h))))
theorem hd_J4_charAt_5068e : yJ4_charAt_5068e.cls = RJ4 ∧ yJ4_charAt_5068e.cls ≠ "java/lang/invoke/MethodHandle" ∧ yJ4_charAt_5068e.cls ≠ "java/lang/invoke/VarHandle" ∧ (parseMethodDescriptor yJ4_charAt_5068e.desc).map (fun d => d.parameters.length) = some 1 := by decide +kernel
set_option maxHeartbeats 4000000 in
set_option maxRecDepth 100000 in
theorem f_J4_charAt_5068e (l : Launch) (E : EE) (z9 : Nat → Nat) {a_ a_value : Nat} {p1 : Int32} {c_coder : Int32} {c_maybeLatin1 : Int32} {c_count : Int32} {c_value : Nat → Int32} {m9 : Nat} {rr : Int32} (hF : F_J4_charAt_5068e p1 c_value c_coder c_count m9 = some rr) : Met l yJ4_charAt_5068e v_f_J4_charAt_5068e (({ frames := 3, cells := 0, slots := 0, locals := 67 } : Room)) (va_Pc [.ref a_, .int p1] (qPZ E z9 (w_J4_charAt_5068e E a_ a_value c_coder c_maybeLatin1 c_count c_value m9))) (vp_Si (fun q : Int32 => q = rr ∧ narrow .char (.int q) = .int q)) 0 0 (fun _ => False) := by
  refine Met.ofWF (cc := cJ4_charAt_5068e) (maxL := 2) (ret := (some .char)) (by decide +kernel) rfl ?_
  intro p e s m args below meth c s₁ B hml hv
  obtain ⟨rfl, ⟨hK, hN⟩, hP, hZ⟩ := hv
  have hx := B.exec
  have hb := B.bytes
  have hr := B.returns
  have hts := atoms_spec (ws := v_f_J4_charAt_5068e) B.pre
  have hown : s.vm.findClass RJ4 = some m.cls := own_of hd_J4_charAt_5068e.1 (findClass_of_methodNamed B.named)
  have hlocks : meth.locks = false := B.notSynchronized
  replace hP : va_P E.1 vwCl [k_J4 a_ a_value c_coder c_maybeLatin1 c_count, k_B E a_value m9 c_value] s.heap := hP
  have hl := lv_entry ([.ref a_, .int p1]) (n := 2) (Nat.le_of_ble_eq_true rfl)
  rw [lg_entry_eq]
  generalize (lg_sl ([.ref a_, .int p1]) ++ List.replicate (2 - (lg_sl ([.ref a_, .int p1])).length) Slot.unset).toArray = ls at hl ⊢
  have hl : lv_has ls 2 [(0, .ref a_), (1, .int p1)] := hl
  obtain ⟨Q, hQ⟩ : ∃ Q : State → Prop, Q = MQ below (vp_Si (fun q : Int32 => q = rr ∧ narrow .char (.int q) = .int q)) #[Value.ref a_, Value.int p1] s 0 0 (fun _ => False) := ⟨_, rfl⟩
  rw [← hQ]
  change W p l e ({ frames := 3, cells := 0, slots := 0, locals := 67 } : Room) s m #[Value.ref a_, Value.int p1] below meth c s.heap [] 0 0 Q (F0 m 0 ls [])
  unfold F_J4_charAt_5068e at hF
  refine lv_aload_n hx hb (dq_42 0 bcJ4_charAt_5068e_0 (j := 0) rfl rfl) rfl (lv_at hl 0 rfl) ?_
  refine lv_iload_n hx hb (dq_27 0 bcJ4_charAt_5068e_0 (j := 1) rfl rfl) rfl (lv_at hl 1 rfl) ?_
  replace hF := bd1_s hF
  obtain ⟨r_1, hc_2, hF⟩ := hF
  have hPc : va_P E.1 vwCl (w_J5_charAt_5068e E a_ a_value c_coder c_maybeLatin1 c_count c_value m9) s.heap := hP.sub (ws' := [k_J4 a_ a_value c_coder c_maybeLatin1 c_count, k_B E a_value m9 c_value]) [0, 1] rfl
  have hrc := va_recv hK hPc (ci := 0) (q0 := 0) rfl rfl
  refine pE_c (va_runSU (As := [.int p1]) (rest := []) (hK.1 0 (RJ4, TJ4, 4) rfl).2 ⟨hx, hb, hml, hown, hts⟩ (f_J5_charAt_5068e l E z9 (a_ := a_) (a_value := a_value) (p1 := p1) (c_coder := c_coder) (c_maybeLatin1 := c_maybeLatin1) (c_count := c_count) (c_value := c_value) (m9 := m9) hc_2) (va_cwSU 1 hts g_f_J4_charAt_5068e_f_J5_charAt_5068e_329 rfl rfl rfl (by decide +kernel) ⟨Nat.le_of_ble_eq_true rfl, Nat.le_of_ble_eq_true rfl⟩) ⟨qPZ.blind, hrc, (qPZ.pre0 ⟨hK, hN⟩ hPc hZ)⟩ rfl rfl hl.1 rfl (lv_room (Nat.le_of_ble_eq_true rfl)) (dq_183 0 bcJ4_charAt_5068e_0 (j := 2) (i := 329) rfl rfl rfl) ⟨Nat.le_of_ble_eq_true rfl, Nat.le_of_ble_eq_true rfl⟩) (fun hb_3 => ?_)
  rw [hQ]
  obtain e9_0 := inj1 hF
  exact W.zret (v := r_1) hx hb hr hb_3 (fun tt ht hW => ⟨_, rfl, ⟨e9_0, hb_3⟩, ht⟩) (fun _ h => by cases h) (dq_172 0 bcJ4_charAt_5068e_0 (j := 5) rfl rfl)
abbrev wSB (E : EE) (av vv mz : Nat) (ml nn : Int32) (fc : Nat → Int32) : va_W := [(av, .inr (0, [.ref vv, .int 0, .int ml, .int nn])), (vv, .inl (E.2.2.1, mz, .inl fc))]
def OKm (mz : Nat) : Prop := mz = 16 ∨ mz = 34
theorem OKm.le {mz : Nat} (h : OKm mz) : mz ≤ 34 := by unfold OKm at h; omega
theorem sub_le0 {k m : Nat} (hk : k ≤ 34) (hm : m ≤ 34) : (nI k - nI m ≤ 0) ↔ k ≤ m := by
  rw [Int32.le_iff_toInt_le, pk_sub_toInt (by omega) (by omega), Int32.toInt_zero]
  omega

def v_h_copy : List Cond := List.cons (.code yJ7_copyOf_9075b cJ7_copyOf_9075b 3 (some (.array .byte))) (HAppend.hAppend (α := List Cond) (β := List Cond) (γ := List Cond) [.arrayClass .byte, .methodLink RJ7 304 Lib.Math.min.name, .static Lib.Math.min.name, .initialized "java/lang/Math", .code Lib.Math.min.name Lib.Math.min.code 2 (some .int), .methodLink RJ7 150 arraycopyName, .native arraycopyName, .static arraycopyName, .initialized "java/lang/System"] [])
theorem gw_h_copy : v_h_copy.all goodWord = true := gw_c2 (by decide +kernel) gw_nil
set_option maxHeartbeats 4000000 in
set_option maxRecDepth 100000 in
theorem h_copy (l : Launch) (E : EE) (sz : Nat) {vv : Nat} {fc : Nat → Int32} (hf : sb_Fit fc) : Met l yJ7_copyOf_9075b v_h_copy (({ frames := 1, cells := 1, slots := 34, locals := 60 } : Room)) (va_Pc [.ref vv, .int (34 : Int32)] (pW E sz [(vv, .inl (E.2.2.1, 16, .inl fc))])) (va_Qr (fun (_u : Unit) => True) (fun (_u : Unit) (ra : Nat) tt => va_P E.1 vwCl [(vv, .inl (E.2.2.1, 16, .inl fc)), (ra, .inl (E.2.2.1, 34, .inl (va_cpy fc (fun _ => 0) 0 0 16)))] tt.heap ∧ va_D (va_A [(vv, .inl (E.2.2.1, 16, .inl fc))] sz) [(vv, .inl (E.2.2.1, 16, .inl fc)), (ra, .inl (E.2.2.1, 34, .inl (va_cpy fc (fun _ => 0) 0 0 16)))]) (va_A [(vv, .inl (E.2.2.1, 16, .inl fc))] sz)) 1 34 (va_A [(vv, .inl (E.2.2.1, 16, .inl fc))] sz) := by
  refine Met.ofWF (cc := cJ7_copyOf_9075b) (maxL := 3) (ret := (some (.array .byte))) (by decide +kernel) rfl ?_
  intro p e s m args below meth c s₁ B hml hv
  obtain ⟨rfl, hsz, ⟨hK, hN⟩, hP, hD0⟩ := hv
  have hx := B.exec
  have hb := B.bytes
  have hr := B.returns
  have hts := atoms_spec (ws := v_h_copy) B.pre
  have hown : s.vm.findClass RJ7 = some m.cls := own_of (by decide +kernel) (findClass_of_methodNamed B.named)
  have hlocks : meth.locks = false := B.notSynchronized
  subst hsz
  have hD := hD0.self (sz := s.heap.size)
  generalize hAe : va_A [(vv, .inl (E.2.2.1, 16, .inl fc))] s.heap.size = A at hD ⊢
  have hA : ∀ q : Nat, s.heap.size ≤ q → A q := fun q h => by rw [← hAe]; exact Or.inr h
  have hS : va_S A s.heap s.heap [] := va_S.rf
  have hl := lv_entry ([.ref vv, .int (34 : Int32)]) (n := 3) (Nat.le_of_ble_eq_true rfl)
  rw [lg_entry_eq]
  generalize (lg_sl ([.ref vv, .int (34 : Int32)]) ++ List.replicate (3 - (lg_sl ([.ref vv, .int (34 : Int32)])).length) Slot.unset).toArray = ls at hl ⊢
  have hl : lv_has ls 3 [(0, .ref vv), (1, .int (34 : Int32))] := hl
  obtain ⟨Q, hQ⟩ : ∃ Q : State → Prop, Q = MQ below (va_Qr (fun (_u : Unit) => True) (fun (_u : Unit) (ra : Nat) tt => va_P E.1 vwCl [(vv, .inl (E.2.2.1, 16, .inl fc)), (ra, .inl (E.2.2.1, 34, .inl (va_cpy fc (fun _ => 0) 0 0 16)))] tt.heap ∧ va_D A [(vv, .inl (E.2.2.1, 16, .inl fc)), (ra, .inl (E.2.2.1, 34, .inl (va_cpy fc (fun _ => 0) 0 0 16)))]) A) #[Value.ref vv, Value.int (34 : Int32)] s 1 34 A := ⟨_, rfl⟩
  rw [← hQ]
  change W p l e ({ frames := 1, cells := 1, slots := 34, locals := 60 } : Room) s m #[Value.ref vv, Value.int (34 : Int32)] below meth c s.heap [] 0 0 Q (F0 m 0 ls [])
  suffices hh9 : ∀ (H : Heap) (locs : List Loc), va_P E.1 vwCl [(vv, .inl (E.2.2.1, 16, .inl fc))] H → va_D A [(vv, .inl (E.2.2.1, 16, .inl fc))] → va_S A s.heap H locs → W p l e ({ frames := 1, cells := 1, slots := 34, locals := 60 } : Room) s m #[Value.ref vv, Value.int (34 : Int32)] below meth c H locs 0 0 Q (F0 m 0 ls []) from hh9 s.heap [] hP hD hS
  clear hP hD hS
  intro H locs hP hD hS
  have h9 := fixPD (ws' := [k_B E vv 16 fc]) hP hD rfl
  clear hP hD
  obtain ⟨hP, hD⟩ := h9
  refine lv_iload_n hx hb (dq_27 0 bcJ7_copyOf_9075b_0 (j := 0) rfl rfl) rfl (lv_at hl 1 rfl) ?_
  refine lv_aload_n hx hb (dq_42 0 bcJ7_copyOf_9075b_0 (j := 1) rfl rfl) rfl (lv_at hl 0 rfl) ?_
  refine va_alen (v := 16) hx hb hK hP 0 1 rfl rfl rfl (dq_190 0 bcJ7_copyOf_9075b_0 (j := 2) rfl rfl) ?_
  refine lv_icmp_ne (tgt := 14) hx hb (dq_160 0 bcJ7_copyOf_9075b_0 (j := 3) (i := 11) rfl rfl rfl) (by decide) (fun _ => ?_) (fun q => absurd q (by decide))
  refine lv_iload_n hx hb (dq_27 0 bcJ7_copyOf_9075b_0 (j := 14) rfl rfl) rfl (lv_at hl 1 rfl) ?_
  refine nw_arr (atype := .byte) (ty := .byte) (a0 := (34, .inl (fun _ => 0))) hx hb (hts (.arrayClass .byte) (List.mem_of_getElem? (i := 1) rfl)) rfl hK hP hD hS hA 1 rfl (fun _ _ a b => Option.some.inj (a.symm.trans b)) (fun _ => rfl) (by decide) rfl (Nat.le_of_ble_eq_true rfl) (Nat.le_of_ble_eq_true rfl) (Nat.le_of_ble_eq_true rfl) dJ7_copyOf_9075b_15 (fun q_1 H hP hD hS => ?_)
  have h9 := fixPD (ws' := [k_B E vv 16 fc, k_B E q_1 34 (fun _ => 0)]) hP hD rfl
  clear hP hD
  obtain ⟨hP, hD⟩ := h9
  refine W.widen (k := 1) (n := 34) (Nat.le_of_ble_eq_true rfl) (Nat.le_of_ble_eq_true rfl) ?_
  refine lv_astore_n (lv' := [(2, .ref q_1), (0, .ref vv), (1, .int (34 : Int32))]) hx hb (dq_77 0 bcJ7_copyOf_9075b_0 (j := 17) rfl rfl) rfl hl (by decide) rfl (fun ls hl => ?_)
  refine lv_aload_n hx hb (dq_42 0 bcJ7_copyOf_9075b_0 (j := 18) rfl rfl) rfl (lv_at hl 1 rfl) ?_
  refine lv_iconst (v := 0) hx hb (dq_3 0 bcJ7_copyOf_9075b_0 (j := 19) rfl rfl) (by decide) ?_
  refine lv_aload_n hx hb (dq_44 0 bcJ7_copyOf_9075b_0 (j := 20) rfl rfl) rfl (lv_at hl 0 rfl) ?_
  refine lv_iconst (v := 0) hx hb (dq_3 0 bcJ7_copyOf_9075b_0 (j := 21) rfl rfl) (by decide) ?_
  refine lv_aload_n hx hb (dq_42 0 bcJ7_copyOf_9075b_0 (j := 22) rfl rfl) rfl (lv_at hl 1 rfl) ?_
  refine va_alen (v := 16) hx hb hK hP 0 1 rfl rfl rfl (dq_190 0 bcJ7_copyOf_9075b_0 (j := 23) rfl rfl) ?_
  refine lv_iload_n hx hb (dq_27 0 bcJ7_copyOf_9075b_0 (j := 24) rfl rfl) rfl (lv_at hl 2 rfl) ?_
  refine va_mmin hx hb (hml.trans hl.1.symm) hown (hts (.methodLink RJ7 304 Lib.Math.min.name) (List.mem_of_getElem? (i := 2) rfl)) (hts (.static Lib.Math.min.name) (List.mem_of_getElem? (i := 3) rfl)) (hts (.initialized "java/lang/Math") (List.mem_of_getElem? (i := 4) rfl)) (hts (.code Lib.Math.min.name Lib.Math.min.code 2 (some .int)) (List.mem_of_getElem? (i := 5) rfl)) (Nat.le_of_ble_eq_true rfl) (Nat.le_of_ble_eq_true rfl) (Nat.le_of_ble_eq_true rfl) (Nat.le_of_ble_eq_true rfl) (dq_184 0 bcJ7_copyOf_9075b_0 (j := 25) (i := 304) rfl rfl rfl) ?_
  refine lv_topi (fun z_2 ez_2 => ?_)
  obtain rfl : z_2 = 16 := ez_2.trans (by decide)
  refine va_copyi hx hb (hml.trans hl.1.symm) hown (hts (.methodLink RJ7 150 arraycopyName) (List.mem_of_getElem? (i := 6) rfl)) (hts (.native arraycopyName) (List.mem_of_getElem? (i := 7) rfl)) (hts (.static arraycopyName) (List.mem_of_getElem? (i := 8) rfl)) (hts (.initialized "java/lang/System") (List.mem_of_getElem? (i := 9) rfl)) hK hP hD hS 0 1 1 1 rfl rfl rfl rfl rfl (by decide) (by decide) (by decide) (by decide) (by decide) (fun _ _ => hf _) (Nat.le_of_ble_eq_true rfl) (Nat.le_of_ble_eq_true rfl) (dq_184 0 bcJ7_copyOf_9075b_0 (j := 28) (i := 150) rfl rfl rfl) (fun H locs hP hD hS => ?_)
  have h9 := fixPD (ws' := [k_B E vv 16 fc, k_B E q_1 34 (va_cpy fc (fun _ => 0) 0 0 16)]) hP hD rfl
  clear hP hD
  obtain ⟨hP, hD⟩ := h9
  refine lv_aload_n hx hb (dq_44 0 bcJ7_copyOf_9075b_0 (j := 31) rfl rfl) rfl (lv_at hl 0 rfl) ?_
  have hP9 := hP.sub (ws' := [k_B E vv 16 fc, k_B E q_1 34 (va_cpy fc (fun _ => 0) 0 0 16)]) [0, 1] rfl
  have hD9 := hD.sub (ws' := [k_B E vv 16 fc, k_B E q_1 34 (va_cpy fc (fun _ => 0) 0 0 16)]) [0, 1] (by decide) rfl
  rw [hQ]
  exact W.aret (v := .ref q_1) hx hb hr (Or.inr ⟨_, rfl⟩) (Or.inr ⟨_, rfl⟩) (fun tt ht hW => ⟨⟨(), q_1, rfl, trivial, by rw [ht]; exact hP9, hD9⟩, hS.F ht⟩) hS.2.2 (dq_176 0 bcJ7_copyOf_9075b_0 (j := 32) rfl rfl)

def v_h_ens : List Cond := List.cons (.code yJ5_ensureCapacityInternal_d00df cJ5_ensureCapacityInternal_d00df 3 none) (HAppend.hAppend (α := List Cond) (β := List Cond) (γ := List Cond) [.fieldLink RJ5 15 "java/lang/AbstractStringBuilder" "value" "[B", .fieldLink RJ5 22 "java/lang/AbstractStringBuilder" "coder" "B", .methodLink RJ5 104 yJ5_newCapacity_0f7a4, .instanceMethod yJ5_newCapacity_0f7a4, .selects RJ4 yJ5_newCapacity_0f7a4 yJ5_newCapacity_0f7a4, .initialized RJ5, .methodLink RJ5 108 yJ7_copyOf_9075b, .static yJ7_copyOf_9075b, .initialized RJ7] (HAppend.hAppend (α := List Cond) (β := List Cond) (γ := List Cond) wsJ40 (HAppend.hAppend (α := List Cond) (β := List Cond) (γ := List Cond) v_f_J5_newCapacity_0f7a4 (HAppend.hAppend (α := List Cond) (β := List Cond) (γ := List Cond) v_h_copy []))))
theorem gw_h_ens : v_h_ens.all goodWord = true := gw_c2 (by decide +kernel) (gw_ap gw_wsJ40 (gw_ap gw_f_J5_newCapacity_0f7a4 (gw_ap gw_h_copy gw_nil)))
theorem i_h_ens_J4 : ∀ w ∈ wsJ40, w ∈ v_h_ens := fun _ h => List.mem_cons_of_mem _ (List.mem_append_right _ (List.mem_append_left _ h))
theorem g_h_ens_f_J5_newCapacity_0f7a4_104 : GoodIn v_h_ens (wsC RJ5 104 RJ4 yJ5_newCapacity_0f7a4 v_f_J5_newCapacity_0f7a4) := goodIn_in gw_h_ens (in4 3 4 5 6 rfl rfl rfl rfl (fun _ h => List.mem_cons_of_mem _ (List.mem_append_right _ (List.mem_append_right _ (List.mem_append_left _ h)))))
theorem g_h_ens_h_copy_108 : GoodIn v_h_ens (va_wsS RJ5 108 yJ7_copyOf_9075b v_h_copy) := goodIn_in gw_h_ens (in3 7 8 9 rfl rfl rfl (fun _ h => List.mem_cons_of_mem _ (List.mem_append_right _ (List.mem_append_right _ (List.mem_append_right _ (List.mem_append_left _ h))))))
set_option maxHeartbeats 4000000 in
set_option maxRecDepth 100000 in
theorem h_ens (l : Launch) (E : EE) (sz : Nat) {av vv mz kk : Nat} {ml nn : Int32} {fc : Nat → Int32} (hm : OKm mz) (hk : kk ≤ 34) (hf : sb_Fit fc) : Met l yJ5_ensureCapacityInternal_d00df v_h_ens (({ frames := 3, cells := 1, slots := 34, locals := 82 } : Room)) (va_Pc [.ref av, .int (nI kk)] (pW E sz (wSB E av vv mz ml nn fc))) (va_Qv (fun (u : Nat × Nat × (Nat → Int32)) => OKm u.2.1 ∧ kk ≤ u.2.1 ∧ mz ≤ u.2.1 ∧ sb_Fit u.2.2) (fun (u : Nat × Nat × (Nat → Int32)) tt => va_P E.1 vwCl (wSB E av u.1 u.2.1 ml nn u.2.2) tt.heap ∧ va_D (va_A (wSB E av vv mz ml nn fc) sz) (wSB E av u.1 u.2.1 ml nn u.2.2)) (va_A (wSB E av vv mz ml nn fc) sz)) 1 34 (va_A (wSB E av vv mz ml nn fc) sz) := by
  refine Met.ofWF (cc := cJ5_ensureCapacityInternal_d00df) (maxL := 3) (ret := none) (by decide +kernel) rfl ?_
  intro p e s m args below meth c s₁ B hml hv
  obtain ⟨rfl, hsz, ⟨hK, hN⟩, hP, hD0⟩ := hv
  have hx := B.exec
  have hb := B.bytes
  have hr := B.returns
  have hts := atoms_spec (ws := v_h_ens) B.pre
  have hown : s.vm.findClass RJ5 = some m.cls := own_of (by decide +kernel) (findClass_of_methodNamed B.named)
  have hlocks : meth.locks = false := B.notSynchronized
  subst hsz
  have hD := hD0.self (sz := s.heap.size)
  generalize hAe : va_A (wSB E av vv mz ml nn fc) s.heap.size = A at hD ⊢
  have hA : ∀ q : Nat, s.heap.size ≤ q → A q := fun q h => by rw [← hAe]; exact Or.inr h
  have hS : va_S A s.heap s.heap [] := va_S.rf
  have hl := lv_entry ([.ref av, .int (nI kk)]) (n := 3) (Nat.le_of_ble_eq_true rfl)
  rw [lg_entry_eq]
  generalize (lg_sl ([.ref av, .int (nI kk)]) ++ List.replicate (3 - (lg_sl ([.ref av, .int (nI kk)])).length) Slot.unset).toArray = ls at hl ⊢
  have hl : lv_has ls 3 [(0, .ref av), (1, .int (nI kk))] := hl
  obtain ⟨Q, hQ⟩ : ∃ Q : State → Prop, Q = MQ below (va_Qv (fun (u : Nat × Nat × (Nat → Int32)) => OKm u.2.1 ∧ kk ≤ u.2.1 ∧ mz ≤ u.2.1 ∧ sb_Fit u.2.2) (fun (u : Nat × Nat × (Nat → Int32)) tt => va_P E.1 vwCl (wSB E av u.1 u.2.1 ml nn u.2.2) tt.heap ∧ va_D A (wSB E av u.1 u.2.1 ml nn u.2.2)) A) #[Value.ref av, Value.int (nI kk)] s 1 34 A := ⟨_, rfl⟩
  rw [← hQ]
  change W p l e ({ frames := 3, cells := 1, slots := 34, locals := 82 } : Room) s m #[Value.ref av, Value.int (nI kk)] below meth c s.heap [] 0 0 Q (F0 m 0 ls [])
  suffices hh9 : ∀ (H : Heap) (locs : List Loc), va_P E.1 vwCl (wSB E av vv mz ml nn fc) H → va_D A (wSB E av vv mz ml nn fc) → va_S A s.heap H locs → W p l e ({ frames := 3, cells := 1, slots := 34, locals := 82 } : Room) s m #[Value.ref av, Value.int (nI kk)] below meth c H locs 0 0 Q (F0 m 0 ls []) from hh9 s.heap [] hP hD hS
  clear hP hD hS
  intro H locs hP hD hS
  have h9 := fixPD (ws' := [k_J4 av vv (0 : Int32) ml nn, k_B E vv mz fc]) hP hD rfl
  clear hP hD
  obtain ⟨hP, hD⟩ := h9
  refine lv_aload_n hx hb (dq_42 0 bcJ5_ensureCapacityInternal_d00df_0 (j := 0) rfl rfl) rfl (lv_at hl 0 rfl) ?_
  refine va_get (D := E.1) (ci := 0) (v := .ref vv) (C := RJ4) (T := TJ4) (N := 4) hx hb hts i_h_ens_J4 hown hK hP 0 rfl rfl 0 (by decide) (hts (.fieldLink RJ5 15 "java/lang/AbstractStringBuilder" "value" "[B") (List.mem_of_getElem? (i := 1) rfl)) (fun _ h9 => h9) rfl (dq_180 0 bcJ5_ensureCapacityInternal_d00df_0 (j := 1) (i := 15) rfl rfl rfl) ?_
  refine va_alen (v := (Int32.ofNat mz)) hx hb hK hP 1 1 rfl rfl rfl (dq_190 0 bcJ5_ensureCapacityInternal_d00df_0 (j := 4) rfl rfl) ?_
  refine lv_aload_n hx hb (dq_42 0 bcJ5_ensureCapacityInternal_d00df_0 (j := 5) rfl rfl) rfl (lv_at hl 0 rfl) ?_
  refine va_get (D := E.1) (ci := 0) (v := .int (0 : Int32)) (C := RJ4) (T := TJ4) (N := 4) hx hb hts i_h_ens_J4 hown hK hP 0 rfl rfl 1 (by decide) (hts (.fieldLink RJ5 22 "java/lang/AbstractStringBuilder" "coder" "B") (List.mem_of_getElem? (i := 2) rfl)) (fun _ h9 => h9) rfl (dq_180 0 bcJ5_ensureCapacityInternal_d00df_0 (j := 6) (i := 22) rfl rfl rfl) ?_
  refine lv_ishr hx hb (dq_122 0 bcJ5_ensureCapacityInternal_d00df_0 (j := 9) rfl rfl) ?_
  refine lv_topi (fun z_1 ez_1 => ?_)
  obtain rfl : z_1 = nI mz := ez_1.trans (sb_shr0 _)
  refine lv_istore_n (lv' := [(2, .int (nI mz)), (0, .ref av), (1, .int (nI kk))]) hx hb (dq_61 0 bcJ5_ensureCapacityInternal_d00df_0 (j := 10) rfl rfl) rfl hl (by decide) rfl (fun ls hl => ?_)
  refine lv_iload_n hx hb (dq_27 0 bcJ5_ensureCapacityInternal_d00df_0 (j := 11) rfl rfl) rfl (lv_at hl 2 rfl) ?_
  refine lv_iload_n hx hb (dq_28 0 bcJ5_ensureCapacityInternal_d00df_0 (j := 12) rfl rfl) rfl (lv_at hl 0 rfl) ?_
  refine lv_isub hx hb (dq_100 0 bcJ5_ensureCapacityInternal_d00df_0 (j := 13) rfl rfl) ?_
  refine lv_if_le (tgt := 38) hx hb (dq_158 0 bcJ5_ensureCapacityInternal_d00df_0 (j := 14) (i := 24) rfl rfl rfl) (by decide) (fun q => ?_) (fun q => ?_)
  ·
    have q1 : kk ≤ mz := (sub_le0 hk hm.le).mp q
    refine W.widen (k := 1) (n := 34) (Nat.le_of_ble_eq_true rfl) (Nat.le_of_ble_eq_true rfl) ?_
    have hP9 := hP.sub (ws' := [k_J4 av vv (0 : Int32) ml nn, k_B E vv mz fc]) [0, 1] rfl
    have hD9 := hD.sub (ws' := [k_J4 av vv (0 : Int32) ml nn, k_B E vv mz fc]) [0, 1] (by decide) rfl
    rw [hQ]
    exact W.vret hx hb hr (fun tt ht hW => ⟨⟨(vv, mz, fc), rfl, ⟨hm, q1, Nat.le_refl _, hf⟩, by rw [ht]; exact hP9, hD9⟩, hS.F ht⟩) hS.2.2 (dq_177 0 bcJ5_ensureCapacityInternal_d00df_0 (j := 38) rfl rfl)
  ·
    have q1 : ¬ kk ≤ mz := fun z => q ((sub_le0 hk hm.le).mpr z)
    obtain rfl : mz = 16 := by rcases hm with z | z <;> omega
    refine lv_aload_n hx hb (dq_42 0 bcJ5_ensureCapacityInternal_d00df_0 (j := 17) rfl rfl) rfl (lv_at hl 1 rfl) ?_
    refine lv_aload_n hx hb (dq_42 0 bcJ5_ensureCapacityInternal_d00df_0 (j := 18) rfl rfl) rfl (lv_at hl 1 rfl) ?_
    refine va_get (D := E.1) (ci := 0) (v := .ref vv) (C := RJ4) (T := TJ4) (N := 4) hx hb hts i_h_ens_J4 hown hK hP 0 rfl rfl 0 (by decide) (hts (.fieldLink RJ5 15 "java/lang/AbstractStringBuilder" "value" "[B") (List.mem_of_getElem? (i := 1) rfl)) (fun _ h9 => h9) rfl (dq_180 0 bcJ5_ensureCapacityInternal_d00df_0 (j := 19) (i := 15) rfl rfl rfl) ?_
    refine lv_aload_n hx hb (dq_42 0 bcJ5_ensureCapacityInternal_d00df_0 (j := 22) rfl rfl) rfl (lv_at hl 1 rfl) ?_
    refine lv_iload_n hx hb (dq_27 0 bcJ5_ensureCapacityInternal_d00df_0 (j := 23) rfl rfl) rfl (lv_at hl 2 rfl) ?_
    have hPc : va_P E.1 vwCl (w_J5_newCapacity_0f7a4 E av vv (0 : Int32) ml nn fc 16) H := hP.sub (ws' := [k_J4 av vv (0 : Int32) ml nn, k_B E vv 16 fc]) [0, 1] rfl
    have hrc := va_recv hK hPc (ci := 0) (q0 := 0) rfl rfl
    refine pE_i (va_runV (As := [.int (nI kk)]) (rest := [.ref vv, .ref av]) ⟨hx, hb, hml, hown, hts⟩ (f_J5_newCapacity_0f7a4 l E (a_ := av) (a_value := vv) (p1 := nI kk) (c_coder := (0 : Int32)) (c_maybeLatin1 := ml) (c_count := nn) (c_value := fc) (m9 := 16) (nc_ok kk (by omega) (by omega))) (cwC 1 hts g_h_ens_f_J5_newCapacity_0f7a4_104 rfl rfl rfl (by decide +kernel) ⟨Nat.le_of_ble_eq_true rfl, Nat.le_of_ble_eq_true rfl⟩) ⟨pP.blind, hrc, (pP.pre ⟨hK, hN⟩ hPc)⟩ rfl rfl hl.1 rfl (lv_room (Nat.le_of_ble_eq_true rfl)) (dq_182 0 bcJ5_ensureCapacityInternal_d00df_0 (j := 24) (i := 104) rfl rfl rfl) ⟨Nat.le_of_ble_eq_true rfl, Nat.le_of_ble_eq_true rfl⟩) ?_
    refine lv_aload_n hx hb (dq_42 0 bcJ5_ensureCapacityInternal_d00df_0 (j := 27) rfl rfl) rfl (lv_at hl 1 rfl) ?_
    refine va_get (D := E.1) (ci := 0) (v := .int (0 : Int32)) (C := RJ4) (T := TJ4) (N := 4) hx hb hts i_h_ens_J4 hown hK hP 0 rfl rfl 1 (by decide) (hts (.fieldLink RJ5 22 "java/lang/AbstractStringBuilder" "coder" "B") (List.mem_of_getElem? (i := 2) rfl)) (fun _ h9 => h9) rfl (dq_180 0 bcJ5_ensureCapacityInternal_d00df_0 (j := 28) (i := 22) rfl rfl rfl) ?_
    refine lv_ishl hx hb (dq_120 0 bcJ5_ensureCapacityInternal_d00df_0 (j := 31) rfl rfl) ?_
    refine lv_topi (fun z_2 ez_2 => ?_)
    obtain rfl : z_2 = 34 := ez_2.trans (by decide)
    obtain ⟨hPc, hDc, hFc⟩ := wcut (wc := [(vv, .inl (E.2.2.1, 16, .inl fc))]) hP hD hS hA [1] (by decide) rfl
    refine va_callr (va_runS (As := [.ref vv, .int (34 : Int32)]) (rest := [.ref av]) ⟨hx, hb, hml, hown, hts⟩ (h_copy l E H.size (vv := vv) (fc := fc) hf) (va_cwS 2 hts g_h_ens_h_copy_108 rfl rfl rfl (by decide +kernel) ⟨Nat.le_of_ble_eq_true rfl, Nat.le_of_ble_eq_true rfl⟩) ⟨pW.blind, (pW.pre ⟨hK, hN⟩ hPc hDc)⟩ rfl rfl hl.1 rfl (lv_room (Nat.le_of_ble_eq_true rfl)) (dq_184 0 bcJ5_ensureCapacityInternal_d00df_0 (j := 32) (i := 108) rfl rfl rfl) ⟨Nat.le_of_ble_eq_true rfl, Nat.le_of_ble_eq_true rfl⟩) hS (fun q _ h => hFc q h) hFc (fun u9 ra_3 tt H1 locs ht hvm hw hB hz1 hk1 hS => ?_)
    obtain ⟨hP1, hD1⟩ := hB
    rw [ht] at hP1
    obtain ⟨hP, hD⟩ := va_join (wr := [k_J4 av vv (0 : Int32) ml nn]) (w1 := [k_B E vv 16 fc, k_B E ra_3 34 (va_cpy fc (fun _ => 0) 0 0 16)]) hP hD [1] [0] rfl rfl (by decide) (by decide) hk1 hFc hP1 hD1
    generalize H1 = H at hP hS ⊢
    have h9 := fixPD (ws' := [k_J4 av vv (0 : Int32) ml nn, k_B E vv 16 fc, k_B E ra_3 34 (va_cpy fc (fun _ => 0) 0 0 16)]) hP hD rfl
    clear hP hD
    obtain ⟨hP, hD⟩ := h9
    refine W.widen (k := 1) (n := 34) (Nat.le_of_ble_eq_true rfl) (Nat.le_of_ble_eq_true rfl) ?_
    refine va_put (D := E.1) (ci := 0) (v := .ref ra_3) (ty := .array .byte) (C := RJ4) (T := TJ4) (N := 4) hx hb hts i_h_ens_J4 tyJ4 tyJ4_ok nmJ4 hown hK hP hD hS 0 rfl rfl 0 (by decide) (hts (.fieldLink RJ5 15 "java/lang/AbstractStringBuilder" "value" "[B") (List.mem_of_getElem? (i := 1) rfl)) (fun _ h9 => h9) rfl (by decide +kernel) rfl rfl (Nat.le_of_ble_eq_true rfl) (dq_181 0 bcJ5_ensureCapacityInternal_d00df_0 (j := 35) (i := 15) rfl rfl rfl) (fun H locs hP hD hS => ?_)
    have h9 := fixPD (ws' := [k_J4 av ra_3 (0 : Int32) ml nn, k_B E vv 16 fc, k_B E ra_3 34 (va_cpy fc (fun _ => 0) 0 0 16)]) hP hD rfl
    clear hP hD
    obtain ⟨hP, hD⟩ := h9
    have hP9 := hP.sub (ws' := [k_J4 av ra_3 (0 : Int32) ml nn, k_B E ra_3 34 (va_cpy fc (fun _ => 0) 0 0 16)]) [0, 2] rfl
    have hD9 := hD.sub (ws' := [k_J4 av ra_3 (0 : Int32) ml nn, k_B E ra_3 34 (va_cpy fc (fun _ => 0) 0 0 16)]) [0, 2] (by decide) rfl
    rw [hQ]
    exact W.vret hx hb hr (fun tt ht hW => ⟨⟨(ra_3, 34, va_cpy fc (fun _ => 0) 0 0 16), rfl, ⟨Or.inr rfl, hk, show (16 : Nat) ≤ 34 by decide, sb_fitC hf sb_fit0⟩, by rw [ht]; exact hP9, hD9⟩, hS.F ht⟩) hS.2.2 (dq_177 0 bcJ5_ensureCapacityInternal_d00df_0 (j := 38) rfl rfl)

def v_h_appC5 : List Cond := List.cons (.code yJ5_append_3fe6f cJ5_append_3fe6f 2 (some (.object "java/lang/AbstractStringBuilder"))) (HAppend.hAppend (α := List Cond) (β := List Cond) (γ := List Cond) [.fieldLink RJ5 79 "java/lang/AbstractStringBuilder" "count" "I", .fieldLink RJ5 15 "java/lang/AbstractStringBuilder" "value" "[B", .methodLink RJ5 100 yJ5_ensureCapacityInternal_d00df, .instanceMethod yJ5_ensureCapacityInternal_d00df, .selects RJ4 yJ5_ensureCapacityInternal_d00df yJ5_ensureCapacityInternal_d00df, .initialized RJ5, .methodLink RJ5 83 yJ5_isLatin1_aae02, .instanceMethod yJ5_isLatin1_aae02, .selects RJ4 yJ5_isLatin1_aae02 yJ5_isLatin1_aae02, .methodLink RJ5 191 yJ1_canEncode_fc78d, .static yJ1_canEncode_fc78d, .initialized RJ1] (HAppend.hAppend (α := List Cond) (β := List Cond) (γ := List Cond) wsJ40 (HAppend.hAppend (α := List Cond) (β := List Cond) (γ := List Cond) v_h_ens (HAppend.hAppend (α := List Cond) (β := List Cond) (γ := List Cond) v_f_J5_isLatin1_aae02 (HAppend.hAppend (α := List Cond) (β := List Cond) (γ := List Cond) v_f_J1_canEncode_fc78d [])))))
theorem gw_h_appC5 : v_h_appC5.all goodWord = true := gw_c2 (by decide +kernel) (gw_ap gw_wsJ40 (gw_ap gw_h_ens (gw_ap gw_f_J5_isLatin1_aae02 (gw_ap gw_f_J1_canEncode_fc78d gw_nil))))
theorem i_h_appC5_J4 : ∀ w ∈ wsJ40, w ∈ v_h_appC5 := fun _ h => List.mem_cons_of_mem _ (List.mem_append_right _ (List.mem_append_left _ h))
theorem g_h_appC5_h_ens_100 : GoodIn v_h_appC5 (wsC RJ5 100 RJ4 yJ5_ensureCapacityInternal_d00df v_h_ens) := goodIn_in gw_h_appC5 (in4 3 4 5 6 rfl rfl rfl rfl (fun _ h => List.mem_cons_of_mem _ (List.mem_append_right _ (List.mem_append_right _ (List.mem_append_left _ h)))))
theorem g_h_appC5_f_J5_isLatin1_aae02_83 : GoodIn v_h_appC5 (wsC RJ5 83 RJ4 yJ5_isLatin1_aae02 v_f_J5_isLatin1_aae02) := goodIn_in gw_h_appC5 (in4 7 8 9 6 rfl rfl rfl rfl (fun _ h => List.mem_cons_of_mem _ (List.mem_append_right _ (List.mem_append_right _ (List.mem_append_right _ (List.mem_append_left _ h))))))
theorem g_h_appC5_f_J1_canEncode_fc78d_191 : GoodIn v_h_appC5 (va_wsS RJ5 191 yJ1_canEncode_fc78d v_f_J1_canEncode_fc78d) := goodIn_in gw_h_appC5 (in3 10 11 12 rfl rfl rfl (fun _ h => List.mem_cons_of_mem _ (List.mem_append_right _ (List.mem_append_right _ (List.mem_append_right _ (List.mem_append_right _ (List.mem_append_left _ h)))))))
set_option maxHeartbeats 4000000 in
set_option maxRecDepth 100000 in
theorem h_appC5 (l : Launch) (E : EE) (sz : Nat) (z9 : Nat → Nat) {av vv mz kk : Nat} {ml : Int32} {fc : Nat → Int32} {ch : Int32} (hm : OKm mz) (hk : kk + 1 ≤ 34) (hf : sb_Fit fc) (hc : F_J1_canEncode_fc78d ch = some 1) : Met l yJ5_append_3fe6f v_h_appC5 (({ frames := 4, cells := 1, slots := 34, locals := 104 } : Room)) (va_Pc [.ref av, .int ch] (qWZ E z9 sz (wSB E av vv mz ml (nI kk) fc))) (va_Qr (fun (u : Nat × Nat × (Nat → Int32)) => OKm u.2.1 ∧ kk + 1 ≤ u.2.1 ∧ sb_Fit u.2.2) (fun (u : Nat × Nat × (Nat → Int32)) (ra : Nat) tt => ra = av ∧ va_P E.1 vwCl (wSB E av u.1 u.2.1 ml (nI (kk + 1)) u.2.2) tt.heap ∧ va_D (va_A (wSB E av vv mz ml (nI kk) fc) sz) (wSB E av u.1 u.2.1 ml (nI (kk + 1)) u.2.2)) (va_A (wSB E av vv mz ml (nI kk) fc) sz)) 1 34 (va_A (wSB E av vv mz ml (nI kk) fc) sz) := by
  refine Met.ofWF (cc := cJ5_append_3fe6f) (maxL := 2) (ret := (some (.object "java/lang/AbstractStringBuilder"))) (by decide +kernel) rfl ?_
  intro p e s m args below meth c s₁ B hml hv
  obtain ⟨rfl, hsz, ⟨hK, hN⟩, hP, hD0, hZ⟩ := hv
  have hx := B.exec
  have hb := B.bytes
  have hr := B.returns
  have hts := atoms_spec (ws := v_h_appC5) B.pre
  have hown : s.vm.findClass RJ5 = some m.cls := own_of (by decide +kernel) (findClass_of_methodNamed B.named)
  have hlocks : meth.locks = false := B.notSynchronized
  subst hsz
  have hD := hD0.self (sz := s.heap.size)
  generalize hAe : va_A (wSB E av vv mz ml (nI kk) fc) s.heap.size = A at hD hZ ⊢
  have hA : ∀ q : Nat, s.heap.size ≤ q → A q := fun q h => by rw [← hAe]; exact Or.inr h
  have hS : va_S A s.heap s.heap [] := va_S.rf
  have hl := lv_entry ([.ref av, .int ch]) (n := 2) (Nat.le_of_ble_eq_true rfl)
  rw [lg_entry_eq]
  generalize (lg_sl ([.ref av, .int ch]) ++ List.replicate (2 - (lg_sl ([.ref av, .int ch])).length) Slot.unset).toArray = ls at hl ⊢
  have hl : lv_has ls 2 [(0, .ref av), (1, .int ch)] := hl
  obtain ⟨Q, hQ⟩ : ∃ Q : State → Prop, Q = MQ below (va_Qr (fun (u : Nat × Nat × (Nat → Int32)) => OKm u.2.1 ∧ kk + 1 ≤ u.2.1 ∧ sb_Fit u.2.2) (fun (u : Nat × Nat × (Nat → Int32)) (ra : Nat) tt => ra = av ∧ va_P E.1 vwCl (wSB E av u.1 u.2.1 ml (nI (kk + 1)) u.2.2) tt.heap ∧ va_D A (wSB E av u.1 u.2.1 ml (nI (kk + 1)) u.2.2)) A) #[Value.ref av, Value.int ch] s 1 34 A := ⟨_, rfl⟩
  rw [← hQ]
  change W p l e ({ frames := 4, cells := 1, slots := 34, locals := 104 } : Room) s m #[Value.ref av, Value.int ch] below meth c s.heap [] 0 0 Q (F0 m 0 ls [])
  suffices hh9 : ∀ (H : Heap) (locs : List Loc), va_P E.1 vwCl (wSB E av vv mz ml (nI kk) fc) H → va_D A (wSB E av vv mz ml (nI kk) fc) → va_S A s.heap H locs → W p l e ({ frames := 4, cells := 1, slots := 34, locals := 104 } : Room) s m #[Value.ref av, Value.int ch] below meth c H locs 0 0 Q (F0 m 0 ls []) from hh9 s.heap [] hP hD hS
  clear hP hD hS
  intro H locs hP hD hS
  have h9 := fixPD (ws' := [k_J4 av vv (0 : Int32) ml (nI kk), k_B E vv mz fc]) hP hD rfl
  clear hP hD
  obtain ⟨hP, hD⟩ := h9
  refine lv_aload_n hx hb (dq_42 0 bcJ5_append_3fe6f_0 (j := 0) rfl rfl) rfl (lv_at hl 0 rfl) ?_
  refine lv_aload_n hx hb (dq_42 0 bcJ5_append_3fe6f_0 (j := 1) rfl rfl) rfl (lv_at hl 0 rfl) ?_
  refine va_get (D := E.1) (ci := 0) (v := .int (nI kk)) (C := RJ4) (T := TJ4) (N := 4) hx hb hts i_h_appC5_J4 hown hK hP 0 rfl rfl 3 (by decide) (hts (.fieldLink RJ5 79 "java/lang/AbstractStringBuilder" "count" "I") (List.mem_of_getElem? (i := 1) rfl)) (fun _ h9 => h9) rfl (dq_180 0 bcJ5_append_3fe6f_0 (j := 2) (i := 79) rfl rfl rfl) ?_
  refine lv_iconst (v := 1) hx hb (dq_4 0 bcJ5_append_3fe6f_0 (j := 5) rfl rfl) (by decide) ?_
  refine lv_iadd hx hb (dq_96 0 bcJ5_append_3fe6f_0 (j := 6) rfl rfl) ?_
  refine lv_topi (fun z_1 ez_1 => ?_)
  obtain rfl : z_1 = nI (kk + 1) := ez_1.trans (nI_1 kk)
  obtain ⟨hPc, hDc, hFc⟩ := wcut (wc := (wSB E av vv mz ml (nI kk) fc)) hP hD hS hA [0, 1] (by decide) rfl
  have hrc := va_recv hK hPc (ci := 0) (q0 := 0) rfl rfl
  refine va_callv (va_runV (As := [.int (nI (kk + 1))]) (rest := []) ⟨hx, hb, hml, hown, hts⟩ (h_ens l E H.size (av := av) (vv := vv) (mz := mz) (kk := kk + 1) (ml := ml) (nn := nI kk) (fc := fc) hm hk hf) (cwC 1 hts g_h_appC5_h_ens_100 rfl rfl rfl (by decide +kernel) ⟨Nat.le_of_ble_eq_true rfl, Nat.le_of_ble_eq_true rfl⟩) ⟨pW.blind, hrc, (pW.pre ⟨hK, hN⟩ hPc hDc)⟩ rfl rfl hl.1 rfl (lv_room (Nat.le_of_ble_eq_true rfl)) (dq_182 0 bcJ5_append_3fe6f_0 (j := 7) (i := 100) rfl rfl rfl) ⟨Nat.le_of_ble_eq_true rfl, Nat.le_of_ble_eq_true rfl⟩) hS (fun q _ h => hFc q h) hFc (fun u9  tt H1 locs ht hvm hw hB hz1 hk1 hS => ?_)
  obtain ⟨v1, m1, c1⟩ := u9
  obtain ⟨g1, g2, g3, g4⟩ := hw
  obtain ⟨hP1, hD1⟩ := hB
  rw [ht] at hP1
  obtain ⟨hP, hD⟩ := va_join (wr := []) (w1 := [k_J4 av v1 (0 : Int32) ml (nI kk), k_B E v1 m1 c1]) hP hD [0, 1] [] rfl rfl (by decide) (by decide) hk1 hFc hP1 hD1
  generalize H1 = H at hP hS ⊢
  have h9 := fixPD (ws' := [k_J4 av v1 (0 : Int32) ml (nI kk), k_B E v1 m1 c1]) hP hD rfl
  clear hP hD
  obtain ⟨hP, hD⟩ := h9
  refine W.widen (k := 1) (n := 34) (Nat.le_of_ble_eq_true rfl) (Nat.le_of_ble_eq_true rfl) ?_
  have g1 : OKm m1 := g1
  have g2 : kk + 1 ≤ m1 := g2
  have g4 : sb_Fit c1 := g4
  refine lv_aload_n hx hb (dq_42 0 bcJ5_append_3fe6f_0 (j := 10) rfl rfl) rfl (lv_at hl 0 rfl) ?_
  have hPc : va_P E.1 vwCl (w_J5_isLatin1_aae02 E av v1 (0 : Int32) ml (nI kk)) H := hP.sub (ws' := [k_J4 av v1 (0 : Int32) ml (nI kk)]) [0] rfl
  have hrc := va_recv hK hPc (ci := 0) (q0 := 0) rfl rfl
  refine pE_z (va_runV (As := []) (rest := []) ⟨hx, hb, hml, hown, hts⟩ (f_J5_isLatin1_aae02 l E z9 (a_ := av) (a_value := v1) (c_coder := (0 : Int32)) (c_maybeLatin1 := ml) (c_count := nI kk) (show F_J5_isLatin1_aae02 0 = some 1 from rfl)) (cwC 0 hts g_h_appC5_f_J5_isLatin1_aae02_83 rfl rfl rfl (by decide +kernel) ⟨Nat.le_of_ble_eq_true rfl, Nat.le_of_ble_eq_true rfl⟩) ⟨qPZ.blind, hrc, (qPZ.pre ⟨hK, hN⟩ hPc hZ hS)⟩ rfl rfl hl.1 rfl (lv_room (Nat.le_of_ble_eq_true rfl)) (dq_182 0 bcJ5_append_3fe6f_0 (j := 11) (i := 83) rfl rfl rfl) ⟨Nat.le_of_ble_eq_true rfl, Nat.le_of_ble_eq_true rfl⟩) (fun hb_3 => ?_)
  refine lv_if_eq (tgt := 45) hx hb (dq_153 0 bcJ5_append_3fe6f_0 (j := 14) (i := 31) rfl rfl rfl) (by decide) (fun q => absurd q (by decide)) (fun _ => ?_)
  refine lv_iload_n hx hb (dq_27 0 bcJ5_append_3fe6f_0 (j := 17) rfl rfl) rfl (lv_at hl 1 rfl) ?_
  have hPc : va_P E.1 vwCl [] H := fun k q h => by simp at h
  refine pE_z (va_runS (As := [.int ch]) (rest := []) ⟨hx, hb, hml, hown, hts⟩ (f_J1_canEncode_fc78d l E (p0 := ch) hc) (va_cwS 1 hts g_h_appC5_f_J1_canEncode_fc78d_191 rfl rfl rfl (by decide +kernel) ⟨Nat.le_of_ble_eq_true rfl, Nat.le_of_ble_eq_true rfl⟩) ⟨pP.blind, (pP.pre ⟨hK, hN⟩ hPc)⟩ rfl rfl hl.1 rfl (lv_room (Nat.le_of_ble_eq_true rfl)) (dq_184 0 bcJ5_append_3fe6f_0 (j := 18) (i := 191) rfl rfl rfl) ⟨Nat.le_of_ble_eq_true rfl, Nat.le_of_ble_eq_true rfl⟩) (fun hb_4 => ?_)
  refine lv_if_eq (tgt := 45) hx hb (dq_153 0 bcJ5_append_3fe6f_0 (j := 21) (i := 24) rfl rfl rfl) (by decide) (fun q => absurd q (by decide)) (fun _ => ?_)
  refine lv_aload_n hx hb (dq_42 0 bcJ5_append_3fe6f_0 (j := 24) rfl rfl) rfl (lv_at hl 0 rfl) ?_
  refine va_get (D := E.1) (ci := 0) (v := .ref v1) (C := RJ4) (T := TJ4) (N := 4) hx hb hts i_h_appC5_J4 hown hK hP 0 rfl rfl 0 (by decide) (hts (.fieldLink RJ5 15 "java/lang/AbstractStringBuilder" "value" "[B") (List.mem_of_getElem? (i := 2) rfl)) (fun _ h9 => h9) rfl (dq_180 0 bcJ5_append_3fe6f_0 (j := 25) (i := 15) rfl rfl rfl) ?_
  refine lv_aload_n hx hb (dq_42 0 bcJ5_append_3fe6f_0 (j := 28) rfl rfl) rfl (lv_at hl 0 rfl) ?_
  refine lv_dup hx hb (dq_89 0 bcJ5_append_3fe6f_0 (j := 29) rfl rfl) rfl ?_
  refine va_get (D := E.1) (ci := 0) (v := .int (nI kk)) (C := RJ4) (T := TJ4) (N := 4) hx hb hts i_h_appC5_J4 hown hK hP 0 rfl rfl 3 (by decide) (hts (.fieldLink RJ5 79 "java/lang/AbstractStringBuilder" "count" "I") (List.mem_of_getElem? (i := 1) rfl)) (fun _ h9 => h9) rfl (dq_180 0 bcJ5_append_3fe6f_0 (j := 30) (i := 79) rfl rfl rfl) ?_
  refine lv_dup_x1 hx hb (dq_90 0 bcJ5_append_3fe6f_0 (j := 33) rfl rfl) rfl rfl ?_
  refine lv_iconst (v := 1) hx hb (dq_4 0 bcJ5_append_3fe6f_0 (j := 34) rfl rfl) (by decide) ?_
  refine lv_iadd hx hb (dq_96 0 bcJ5_append_3fe6f_0 (j := 35) rfl rfl) ?_
  refine lv_topi (fun z_5 ez_5 => ?_)
  obtain rfl : z_5 = nI (kk + 1) := ez_5.trans (nI_1 kk)
  refine va_put (D := E.1) (ci := 0) (v := .int (nI (kk + 1))) (ty := .int) (C := RJ4) (T := TJ4) (N := 4) hx hb hts i_h_appC5_J4 tyJ4 tyJ4_ok nmJ4 hown hK hP hD hS 0 rfl rfl 3 (by decide) (hts (.fieldLink RJ5 79 "java/lang/AbstractStringBuilder" "count" "I") (List.mem_of_getElem? (i := 1) rfl)) (fun _ h9 => h9) rfl (by decide +kernel) rfl rfl (Nat.le_of_ble_eq_true rfl) (dq_181 0 bcJ5_append_3fe6f_0 (j := 36) (i := 79) rfl rfl rfl) (fun H locs hP hD hS => ?_)
  have h9 := fixPD (ws' := [k_J4 av v1 (0 : Int32) ml (nI (kk + 1)), k_B E v1 m1 c1]) hP hD rfl
  clear hP hD
  obtain ⟨hP, hD⟩ := h9
  refine lv_iload_n hx hb (dq_27 0 bcJ5_append_3fe6f_0 (j := 39) rfl rfl) rfl (lv_at hl 1 rfl) ?_
  refine lv_i2b (v := ch.toInt8.toInt32) hx hb (dq_145 0 bcJ5_append_3fe6f_0 (j := 40) rfl rfl) rfl ?_
  refine va_bast hx hb hK hP hD hS 1 1 rfl rfl (nI_in (show kk < m1 by omega) (show m1 < 2 ^ 31 by have := g1.le; omega)) (dq_84 0 bcJ5_append_3fe6f_0 (j := 41) rfl rfl) (fun H locs hP hD hS => ?_)
  have h9 := fixPD (ws' := [k_J4 av v1 (0 : Int32) ml (nI (kk + 1)), k_B E v1 m1 (upd c1 (nI kk).toNatClampNeg (vp_nar .byte ch.toInt8.toInt32))]) hP hD rfl
  clear hP hD
  obtain ⟨hP, hD⟩ := h9
  refine lv_goto (tgt := 75) hx hb (dq_167 0 bcJ5_append_3fe6f_0 (j := 42) (i := 33) rfl rfl rfl) (by decide) ?_
  refine lv_aload_n hx hb (dq_42 48 bcJ5_append_3fe6f_1 (j := 27) rfl rfl) rfl (lv_at hl 0 rfl) ?_
  have hP9 := hP.sub (ws' := [k_J4 av v1 (0 : Int32) ml (nI (kk + 1)), k_B E v1 m1 (upd c1 (nI kk).toNatClampNeg (vp_nar .byte ch.toInt8.toInt32))]) [0, 1] rfl
  have hD9 := hD.sub (ws' := [k_J4 av v1 (0 : Int32) ml (nI (kk + 1)), k_B E v1 m1 (upd c1 (nI kk).toNatClampNeg (vp_nar .byte ch.toInt8.toInt32))]) [0, 1] (by decide) rfl
  rw [hQ]
  exact W.aret (v := .ref av) hx hb hr (Or.inl ⟨_, rfl⟩) (Or.inr ⟨_, rfl⟩) (fun tt ht hW => ⟨⟨(v1, m1, upd c1 (nI kk).toNatClampNeg (vp_nar .byte ch.toInt8.toInt32)), av, rfl, ⟨g1, g2, sb_fitU g4 (fit_nar _)⟩, rfl, by rw [ht]; exact hP9, hD9⟩, hS.F ht⟩) hS.2.2 (dq_176 48 bcJ5_append_3fe6f_1 (j := 28) rfl rfl)

def v_h_appI5 : List Cond := List.cons (.code yJ5_append_c97b9 cJ5_append_c97b9 4 (some (.object "java/lang/AbstractStringBuilder"))) (HAppend.hAppend (α := List Cond) (β := List Cond) (γ := List Cond) [.fieldLink RJ5 79 "java/lang/AbstractStringBuilder" "count" "I", .fieldLink RJ5 15 "java/lang/AbstractStringBuilder" "value" "[B", .methodLink RJ5 245 yJ6_stringSize_0f7a4, .static yJ6_stringSize_0f7a4, .initialized RJ6, .methodLink RJ5 100 yJ5_ensureCapacityInternal_d00df, .instanceMethod yJ5_ensureCapacityInternal_d00df, .selects RJ4 yJ5_ensureCapacityInternal_d00df yJ5_ensureCapacityInternal_d00df, .initialized RJ5, .methodLink RJ5 83 yJ5_isLatin1_aae02, .instanceMethod yJ5_isLatin1_aae02, .selects RJ4 yJ5_isLatin1_aae02 yJ5_isLatin1_aae02, .methodLink RJ5 248 yJ6_getChars_ba4f3, .static yJ6_getChars_ba4f3] (HAppend.hAppend (α := List Cond) (β := List Cond) (γ := List Cond) wsJ40 (HAppend.hAppend (α := List Cond) (β := List Cond) (γ := List Cond) v_f_J6_stringSize_0f7a4 (HAppend.hAppend (α := List Cond) (β := List Cond) (γ := List Cond) v_h_ens (HAppend.hAppend (α := List Cond) (β := List Cond) (γ := List Cond) v_f_J5_isLatin1_aae02 (HAppend.hAppend (α := List Cond) (β := List Cond) (γ := List Cond) v_f_J6_getChars_ba4f3 []))))))
theorem gw_h_appI5 : v_h_appI5.all goodWord = true := gw_c2 (by decide +kernel) (gw_ap gw_wsJ40 (gw_ap gw_f_J6_stringSize_0f7a4 (gw_ap gw_h_ens (gw_ap gw_f_J5_isLatin1_aae02 (gw_ap gw_f_J6_getChars_ba4f3 gw_nil)))))
theorem i_h_appI5_J4 : ∀ w ∈ wsJ40, w ∈ v_h_appI5 := fun _ h => List.mem_cons_of_mem _ (List.mem_append_right _ (List.mem_append_left _ h))
theorem g_h_appI5_f_J6_stringSize_0f7a4_245 : GoodIn v_h_appI5 (va_wsS RJ5 245 yJ6_stringSize_0f7a4 v_f_J6_stringSize_0f7a4) := goodIn_in gw_h_appI5 (in3 3 4 5 rfl rfl rfl (fun _ h => List.mem_cons_of_mem _ (List.mem_append_right _ (List.mem_append_right _ (List.mem_append_left _ h)))))
theorem g_h_appI5_h_ens_100 : GoodIn v_h_appI5 (wsC RJ5 100 RJ4 yJ5_ensureCapacityInternal_d00df v_h_ens) := goodIn_in gw_h_appI5 (in4 6 7 8 9 rfl rfl rfl rfl (fun _ h => List.mem_cons_of_mem _ (List.mem_append_right _ (List.mem_append_right _ (List.mem_append_right _ (List.mem_append_left _ h))))))
theorem g_h_appI5_f_J5_isLatin1_aae02_83 : GoodIn v_h_appI5 (wsC RJ5 83 RJ4 yJ5_isLatin1_aae02 v_f_J5_isLatin1_aae02) := goodIn_in gw_h_appI5 (in4 10 11 12 9 rfl rfl rfl rfl (fun _ h => List.mem_cons_of_mem _ (List.mem_append_right _ (List.mem_append_right _ (List.mem_append_right _ (List.mem_append_right _ (List.mem_append_left _ h)))))))
theorem g_h_appI5_f_J6_getChars_ba4f3_248 : GoodIn v_h_appI5 (va_wsS RJ5 248 yJ6_getChars_ba4f3 v_f_J6_getChars_ba4f3) := goodIn_in gw_h_appI5 (in3 13 14 5 rfl rfl rfl (fun _ h => List.mem_cons_of_mem _ (List.mem_append_right _ (List.mem_append_right _ (List.mem_append_right _ (List.mem_append_right _ (List.mem_append_right _ (List.mem_append_left _ h))))))))
set_option maxHeartbeats 4000000 in
set_option maxRecDepth 100000 in
theorem h_appI5 (l : Launch) (E : EE) (sz : Nat) (K : Nat) (z9 : Nat → Nat) {av vv mz kk : Nat} {ml : Int32} {fc : Nat → Int32} {iv : Int32} {s9 : Nat} (hm : OKm mz) (hk : kk + s9 ≤ 34) (hf : sb_Fit fc) (hs9 : F_J6_stringSize_0f7a4 K iv = some (nI s9)) (hG : ∀ (m1 : Nat) (c1 : Nat → Int32), m1 ≤ 34 → kk + s9 ≤ m1 → sb_Fit c1 → ∃ r c2, F_J6_getChars_ba4f3 K iv (nI (kk + s9)) c1 m1 = some (r, c2) ∧ sb_Fit c2) : Met l yJ5_append_c97b9 v_h_appI5 (({ frames := 4, cells := 1, slots := 34, locals := 104 } : Room)) (va_Pc [.ref av, .int iv] (qWZ E z9 sz (wSB E av vv mz ml (nI kk) fc))) (va_Qr (fun (u : Nat × Nat × (Nat → Int32)) => OKm u.2.1 ∧ kk + s9 ≤ u.2.1 ∧ sb_Fit u.2.2) (fun (u : Nat × Nat × (Nat → Int32)) (ra : Nat) tt => ra = av ∧ va_P E.1 vwCl (wSB E av u.1 u.2.1 ml (nI (kk + s9)) u.2.2) tt.heap ∧ va_D (va_A (wSB E av vv mz ml (nI kk) fc) sz) (wSB E av u.1 u.2.1 ml (nI (kk + s9)) u.2.2)) (va_A (wSB E av vv mz ml (nI kk) fc) sz)) 1 34 (va_A (wSB E av vv mz ml (nI kk) fc) sz) := by
  refine Met.ofWF (cc := cJ5_append_c97b9) (maxL := 4) (ret := (some (.object "java/lang/AbstractStringBuilder"))) (by decide +kernel) rfl ?_
  intro p e s m args below meth c s₁ B hml hv
  obtain ⟨rfl, hsz, ⟨hK, hN⟩, hP, hD0, hZ⟩ := hv
  have hx := B.exec
  have hb := B.bytes
  have hr := B.returns
  have hts := atoms_spec (ws := v_h_appI5) B.pre
  have hown : s.vm.findClass RJ5 = some m.cls := own_of (by decide +kernel) (findClass_of_methodNamed B.named)
  have hlocks : meth.locks = false := B.notSynchronized
  subst hsz
  have hD := hD0.self (sz := s.heap.size)
  generalize hAe : va_A (wSB E av vv mz ml (nI kk) fc) s.heap.size = A at hD hZ ⊢
  have hA : ∀ q : Nat, s.heap.size ≤ q → A q := fun q h => by rw [← hAe]; exact Or.inr h
  have hS : va_S A s.heap s.heap [] := va_S.rf
  have hl := lv_entry ([.ref av, .int iv]) (n := 4) (Nat.le_of_ble_eq_true rfl)
  rw [lg_entry_eq]
  generalize (lg_sl ([.ref av, .int iv]) ++ List.replicate (4 - (lg_sl ([.ref av, .int iv])).length) Slot.unset).toArray = ls at hl ⊢
  have hl : lv_has ls 4 [(0, .ref av), (1, .int iv)] := hl
  obtain ⟨Q, hQ⟩ : ∃ Q : State → Prop, Q = MQ below (va_Qr (fun (u : Nat × Nat × (Nat → Int32)) => OKm u.2.1 ∧ kk + s9 ≤ u.2.1 ∧ sb_Fit u.2.2) (fun (u : Nat × Nat × (Nat → Int32)) (ra : Nat) tt => ra = av ∧ va_P E.1 vwCl (wSB E av u.1 u.2.1 ml (nI (kk + s9)) u.2.2) tt.heap ∧ va_D A (wSB E av u.1 u.2.1 ml (nI (kk + s9)) u.2.2)) A) #[Value.ref av, Value.int iv] s 1 34 A := ⟨_, rfl⟩
  rw [← hQ]
  change W p l e ({ frames := 4, cells := 1, slots := 34, locals := 104 } : Room) s m #[Value.ref av, Value.int iv] below meth c s.heap [] 0 0 Q (F0 m 0 ls [])
  suffices hh9 : ∀ (H : Heap) (locs : List Loc), va_P E.1 vwCl (wSB E av vv mz ml (nI kk) fc) H → va_D A (wSB E av vv mz ml (nI kk) fc) → va_S A s.heap H locs → W p l e ({ frames := 4, cells := 1, slots := 34, locals := 104 } : Room) s m #[Value.ref av, Value.int iv] below meth c H locs 0 0 Q (F0 m 0 ls []) from hh9 s.heap [] hP hD hS
  clear hP hD hS
  intro H locs hP hD hS
  have h9 := fixPD (ws' := [k_J4 av vv (0 : Int32) ml (nI kk), k_B E vv mz fc]) hP hD rfl
  clear hP hD
  obtain ⟨hP, hD⟩ := h9
  refine lv_aload_n hx hb (dq_42 0 bcJ5_append_c97b9_0 (j := 0) rfl rfl) rfl (lv_at hl 0 rfl) ?_
  refine va_get (D := E.1) (ci := 0) (v := .int (nI kk)) (C := RJ4) (T := TJ4) (N := 4) hx hb hts i_h_appI5_J4 hown hK hP 0 rfl rfl 3 (by decide) (hts (.fieldLink RJ5 79 "java/lang/AbstractStringBuilder" "count" "I") (List.mem_of_getElem? (i := 1) rfl)) (fun _ h9 => h9) rfl (dq_180 0 bcJ5_append_c97b9_0 (j := 1) (i := 79) rfl rfl rfl) ?_
  refine lv_istore_n (lv' := [(2, .int (nI kk)), (0, .ref av), (1, .int iv)]) hx hb (dq_61 0 bcJ5_append_c97b9_0 (j := 4) rfl rfl) rfl hl (by decide) rfl (fun ls hl => ?_)
  refine lv_iload_n hx hb (dq_28 0 bcJ5_append_c97b9_0 (j := 5) rfl rfl) rfl (lv_at hl 0 rfl) ?_
  refine lv_iload_n hx hb (dq_27 0 bcJ5_append_c97b9_0 (j := 6) rfl rfl) rfl (lv_at hl 2 rfl) ?_
  have hPc : va_P E.1 vwCl [] H := fun k q h => by simp at h
  refine pE_i (va_runS (As := [.int iv]) (rest := [.int (nI kk)]) ⟨hx, hb, hml, hown, hts⟩ (f_J6_stringSize_0f7a4 l E K (p0 := iv) hs9) (va_cwS 1 hts g_h_appI5_f_J6_stringSize_0f7a4_245 rfl rfl rfl (by decide +kernel) ⟨Nat.le_of_ble_eq_true rfl, Nat.le_of_ble_eq_true rfl⟩) ⟨pP.blind, (pP.pre ⟨hK, hN⟩ hPc)⟩ rfl rfl hl.1 rfl (lv_room (Nat.le_of_ble_eq_true rfl)) (dq_184 0 bcJ5_append_c97b9_0 (j := 7) (i := 245) rfl rfl rfl) ⟨Nat.le_of_ble_eq_true rfl, Nat.le_of_ble_eq_true rfl⟩) ?_
  refine lv_iadd hx hb (dq_96 0 bcJ5_append_c97b9_0 (j := 10) rfl rfl) ?_
  refine lv_topi (fun z_1 ez_1 => ?_)
  obtain rfl : z_1 = nI (kk + s9) := ez_1.trans (nI_add kk s9)
  refine lv_istore_n (lv' := [(3, .int (nI (kk + s9))), (2, .int (nI kk)), (0, .ref av), (1, .int iv)]) hx hb (dq_62 0 bcJ5_append_c97b9_0 (j := 11) rfl rfl) rfl hl (by decide) rfl (fun ls hl => ?_)
  refine lv_aload_n hx hb (dq_42 0 bcJ5_append_c97b9_0 (j := 12) rfl rfl) rfl (lv_at hl 2 rfl) ?_
  refine lv_iload_n hx hb (dq_29 0 bcJ5_append_c97b9_0 (j := 13) rfl rfl) rfl (lv_at hl 0 rfl) ?_
  obtain ⟨hPc, hDc, hFc⟩ := wcut (wc := (wSB E av vv mz ml (nI kk) fc)) hP hD hS hA [0, 1] (by decide) rfl
  have hrc := va_recv hK hPc (ci := 0) (q0 := 0) rfl rfl
  refine va_callv (va_runV (As := [.int (nI (kk + s9))]) (rest := []) ⟨hx, hb, hml, hown, hts⟩ (h_ens l E H.size (av := av) (vv := vv) (mz := mz) (kk := kk + s9) (ml := ml) (nn := nI kk) (fc := fc) hm hk hf) (cwC 1 hts g_h_appI5_h_ens_100 rfl rfl rfl (by decide +kernel) ⟨Nat.le_of_ble_eq_true rfl, Nat.le_of_ble_eq_true rfl⟩) ⟨pW.blind, hrc, (pW.pre ⟨hK, hN⟩ hPc hDc)⟩ rfl rfl hl.1 rfl (lv_room (Nat.le_of_ble_eq_true rfl)) (dq_182 0 bcJ5_append_c97b9_0 (j := 14) (i := 100) rfl rfl rfl) ⟨Nat.le_of_ble_eq_true rfl, Nat.le_of_ble_eq_true rfl⟩) hS (fun q _ h => hFc q h) hFc (fun u9  tt H1 locs ht hvm hw hB hz1 hk1 hS => ?_)
  obtain ⟨v1, m1, c1⟩ := u9
  obtain ⟨g1, g2, g3, g4⟩ := hw
  obtain ⟨hP1, hD1⟩ := hB
  rw [ht] at hP1
  obtain ⟨hP, hD⟩ := va_join (wr := []) (w1 := [k_J4 av v1 (0 : Int32) ml (nI kk), k_B E v1 m1 c1]) hP hD [0, 1] [] rfl rfl (by decide) (by decide) hk1 hFc hP1 hD1
  generalize H1 = H at hP hS ⊢
  have h9 := fixPD (ws' := [k_J4 av v1 (0 : Int32) ml (nI kk), k_B E v1 m1 c1]) hP hD rfl
  clear hP hD
  obtain ⟨hP, hD⟩ := h9
  refine W.widen (k := 1) (n := 34) (Nat.le_of_ble_eq_true rfl) (Nat.le_of_ble_eq_true rfl) ?_
  have g1 : OKm m1 := g1
  have g2 : kk + s9 ≤ m1 := g2
  have g4 : sb_Fit c1 := g4
  refine lv_aload_n hx hb (dq_42 0 bcJ5_append_c97b9_0 (j := 17) rfl rfl) rfl (lv_at hl 2 rfl) ?_
  have hPc : va_P E.1 vwCl (w_J5_isLatin1_aae02 E av v1 (0 : Int32) ml (nI kk)) H := hP.sub (ws' := [k_J4 av v1 (0 : Int32) ml (nI kk)]) [0] rfl
  have hrc := va_recv hK hPc (ci := 0) (q0 := 0) rfl rfl
  refine pE_z (va_runV (As := []) (rest := []) ⟨hx, hb, hml, hown, hts⟩ (f_J5_isLatin1_aae02 l E z9 (a_ := av) (a_value := v1) (c_coder := (0 : Int32)) (c_maybeLatin1 := ml) (c_count := nI kk) (show F_J5_isLatin1_aae02 0 = some 1 from rfl)) (cwC 0 hts g_h_appI5_f_J5_isLatin1_aae02_83 rfl rfl rfl (by decide +kernel) ⟨Nat.le_of_ble_eq_true rfl, Nat.le_of_ble_eq_true rfl⟩) ⟨qPZ.blind, hrc, (qPZ.pre ⟨hK, hN⟩ hPc hZ hS)⟩ rfl rfl hl.1 rfl (lv_room (Nat.le_of_ble_eq_true rfl)) (dq_182 0 bcJ5_append_c97b9_0 (j := 18) (i := 83) rfl rfl rfl) ⟨Nat.le_of_ble_eq_true rfl, Nat.le_of_ble_eq_true rfl⟩) (fun hb_3 => ?_)
  refine lv_if_eq (tgt := 37) hx hb (dq_153 0 bcJ5_append_c97b9_0 (j := 21) (i := 16) rfl rfl rfl) (by decide) (fun q => absurd q (by decide)) (fun _ => ?_)
  refine lv_iload_n hx hb (dq_27 0 bcJ5_append_c97b9_0 (j := 24) rfl rfl) rfl (lv_at hl 3 rfl) ?_
  refine lv_iload_n hx hb (dq_29 0 bcJ5_append_c97b9_0 (j := 25) rfl rfl) rfl (lv_at hl 0 rfl) ?_
  refine lv_aload_n hx hb (dq_42 0 bcJ5_append_c97b9_0 (j := 26) rfl rfl) rfl (lv_at hl 2 rfl) ?_
  refine va_get (D := E.1) (ci := 0) (v := .ref v1) (C := RJ4) (T := TJ4) (N := 4) hx hb hts i_h_appI5_J4 hown hK hP 0 rfl rfl 0 (by decide) (hts (.fieldLink RJ5 15 "java/lang/AbstractStringBuilder" "value" "[B") (List.mem_of_getElem? (i := 2) rfl)) (fun _ h9 => h9) rfl (dq_180 0 bcJ5_append_c97b9_0 (j := 27) (i := 15) rfl rfl rfl) ?_
  obtain ⟨r8, c2, hG1, hG2⟩ := hG m1 c1 g1.le g2 g4
  obtain ⟨hPc, hDc, hFc⟩ := wcut (wc := (w_J6_getChars_ba4f3 E v1 c1 m1)) hP hD hS hA [1] (by decide) rfl
  refine cE_i (wc := (w_J6_getChars_ba4f3 E v1 c1 m1)) (wr := [k_J4 av v1 (0 : Int32) ml (nI kk)]) (w1 := (w_J6_getChars_ba4f3 E v1 c2 m1)) (va_runS (As := [.int iv, .int (nI (kk + s9)), .ref v1]) (rest := []) ⟨hx, hb, hml, hown, hts⟩ (f_J6_getChars_ba4f3 l E H.size K z9 (a_o2 := v1) (p0 := iv) (p1 := nI (kk + s9)) (c_o2 := c1) (m9 := m1) hG1) (va_cwS 3 hts g_h_appI5_f_J6_getChars_ba4f3_248 rfl rfl rfl (by decide +kernel) ⟨Nat.le_of_ble_eq_true rfl, Nat.le_of_ble_eq_true rfl⟩) ⟨qWZ.blind, (qWZ.pre ⟨hK, hN⟩ hPc hDc hZ hS hFc)⟩ rfl rfl hl.1 rfl (lv_room (Nat.le_of_ble_eq_true rfl)) (dq_184 0 bcJ5_append_c97b9_0 (j := 30) (i := 248) rfl rfl rfl) ⟨Nat.le_of_ble_eq_true rfl, Nat.le_of_ble_eq_true rfl⟩) hS hFc hP hD [1] [0] rfl rfl (by decide) (by decide) (fun H locs hP hD hS => ?_)
  have h9 := fixPD (ws' := [k_J4 av v1 (0 : Int32) ml (nI kk), k_B E v1 m1 c2]) hP hD rfl
  clear hP hD
  obtain ⟨hP, hD⟩ := h9
  refine lv_pop hx hb (dq_87 0 bcJ5_append_c97b9_0 (j := 33) rfl rfl) rfl ?_
  refine lv_goto (tgt := 48) hx hb (dq_167 0 bcJ5_append_c97b9_0 (j := 34) (i := 14) rfl rfl rfl) (by decide) ?_
  refine lv_aload_n hx hb (dq_42 48 bcJ5_append_c97b9_1 (j := 0) rfl rfl) rfl (lv_at hl 2 rfl) ?_
  refine lv_iload_n hx hb (dq_29 48 bcJ5_append_c97b9_1 (j := 1) rfl rfl) rfl (lv_at hl 0 rfl) ?_
  refine va_put (D := E.1) (ci := 0) (v := .int (nI (kk + s9))) (ty := .int) (C := RJ4) (T := TJ4) (N := 4) hx hb hts i_h_appI5_J4 tyJ4 tyJ4_ok nmJ4 hown hK hP hD hS 0 rfl rfl 3 (by decide) (hts (.fieldLink RJ5 79 "java/lang/AbstractStringBuilder" "count" "I") (List.mem_of_getElem? (i := 1) rfl)) (fun _ h9 => h9) rfl (by decide +kernel) rfl rfl (Nat.le_of_ble_eq_true rfl) (dq_181 48 bcJ5_append_c97b9_1 (j := 2) (i := 79) rfl rfl rfl) (fun H locs hP hD hS => ?_)
  have h9 := fixPD (ws' := [k_J4 av v1 (0 : Int32) ml (nI (kk + s9)), k_B E v1 m1 c2]) hP hD rfl
  clear hP hD
  obtain ⟨hP, hD⟩ := h9
  refine lv_aload_n hx hb (dq_42 48 bcJ5_append_c97b9_1 (j := 5) rfl rfl) rfl (lv_at hl 2 rfl) ?_
  have hP9 := hP.sub (ws' := [k_J4 av v1 (0 : Int32) ml (nI (kk + s9)), k_B E v1 m1 c2]) [0, 1] rfl
  have hD9 := hD.sub (ws' := [k_J4 av v1 (0 : Int32) ml (nI (kk + s9)), k_B E v1 m1 c2]) [0, 1] (by decide) rfl
  rw [hQ]
  exact W.aret (v := .ref av) hx hb hr (Or.inl ⟨_, rfl⟩) (Or.inr ⟨_, rfl⟩) (fun tt ht hW => ⟨⟨(v1, m1, c2), av, rfl, ⟨g1, g2, hG2⟩, rfl, by rw [ht]; exact hP9, hD9⟩, hS.F ht⟩) hS.2.2 (dq_176 48 bcJ5_append_c97b9_1 (j := 6) rfl rfl)

def v_h_appS5 : List Cond := List.cons (.code yJ5_append_cf1ce cJ5_append_cf1ce 3 (some (.object "java/lang/AbstractStringBuilder"))) (HAppend.hAppend (α := List Cond) (β := List Cond) (γ := List Cond) [.fieldLink RJ5 79 "java/lang/AbstractStringBuilder" "count" "I", .methodLink RJ5 32 yJ0_length_8abf5, .instanceMethod yJ0_length_8abf5, .selects RJ0 yJ0_length_8abf5 yJ0_length_8abf5, .initialized RJ0, .methodLink RJ5 100 yJ5_ensureCapacityInternal_d00df, .instanceMethod yJ5_ensureCapacityInternal_d00df, .selects RJ4 yJ5_ensureCapacityInternal_d00df yJ5_ensureCapacityInternal_d00df, .initialized RJ5, .methodLink RJ5 208 yJ5_putStringAt_47b60, .instanceMethod yJ5_putStringAt_47b60, .selects RJ4 yJ5_putStringAt_47b60 yJ5_putStringAt_47b60] (HAppend.hAppend (α := List Cond) (β := List Cond) (γ := List Cond) v_f_J0_length_8abf5 (HAppend.hAppend (α := List Cond) (β := List Cond) (γ := List Cond) wsJ40 (HAppend.hAppend (α := List Cond) (β := List Cond) (γ := List Cond) v_h_ens (HAppend.hAppend (α := List Cond) (β := List Cond) (γ := List Cond) v_f_J5_putStringAt_47b60 [])))))
theorem gw_h_appS5 : v_h_appS5.all goodWord = true := gw_c2 (by decide +kernel) (gw_ap gw_f_J0_length_8abf5 (gw_ap gw_wsJ40 (gw_ap gw_h_ens (gw_ap gw_f_J5_putStringAt_47b60 gw_nil))))
theorem i_h_appS5_J4 : ∀ w ∈ wsJ40, w ∈ v_h_appS5 := fun _ h => List.mem_cons_of_mem _ (List.mem_append_right _ (List.mem_append_right _ (List.mem_append_left _ h)))
theorem g_h_appS5_f_J0_length_8abf5_32 : GoodIn v_h_appS5 (wsV RJ5 32 RJ0 yJ0_length_8abf5 v_f_J0_length_8abf5) := goodIn_in gw_h_appS5 (in4 2 3 4 5 rfl rfl rfl rfl (fun _ h => List.mem_cons_of_mem _ (List.mem_append_right _ (List.mem_append_left _ h))))
theorem g_h_appS5_h_ens_100 : GoodIn v_h_appS5 (wsC RJ5 100 RJ4 yJ5_ensureCapacityInternal_d00df v_h_ens) := goodIn_in gw_h_appS5 (in4 6 7 8 9 rfl rfl rfl rfl (fun _ h => List.mem_cons_of_mem _ (List.mem_append_right _ (List.mem_append_right _ (List.mem_append_right _ (List.mem_append_left _ h))))))
theorem g_h_appS5_f_J5_putStringAt_47b60_208 : GoodIn v_h_appS5 (wsC RJ5 208 RJ4 yJ5_putStringAt_47b60 v_f_J5_putStringAt_47b60) := goodIn_in gw_h_appS5 (in4 10 11 12 9 rfl rfl rfl rfl (fun _ h => List.mem_cons_of_mem _ (List.mem_append_right _ (List.mem_append_right _ (List.mem_append_right _ (List.mem_append_right _ (List.mem_append_left _ h)))))))
set_option maxHeartbeats 4000000 in
set_option maxRecDepth 100000 in
theorem h_appS5 (l : Launch) (E : EE) (sz : Nat) (z9 : Nat → Nat) {av vv mz kk pp w9 : Nat} {ml : Int32} {fc : Nat → Int32} (hm : OKm mz) (hk : kk + w9 ≤ 34) (hf : sb_Fit fc) (hp : (pp = 12 ∧ w9 = 5) ∨ (pp = 13 ∧ w9 = 4)) : Met l yJ5_append_cf1ce v_h_appS5 (({ frames := 4, cells := 1, slots := 34, locals := 105 } : Room)) (va_Pc [.ref av, .ref (z9 (20 + pp))] (qWZ E z9 sz (wSB E av vv mz ml (nI kk) fc))) (va_Qr (fun (u : Nat × Nat × (Nat → Int32)) => OKm u.2.1 ∧ kk + w9 ≤ u.2.1 ∧ sb_Fit u.2.2) (fun (u : Nat × Nat × (Nat → Int32)) (ra : Nat) tt => ra = av ∧ va_P E.1 vwCl (wSB E av u.1 u.2.1 ml (nI (kk + w9)) u.2.2) tt.heap ∧ va_D (va_A (wSB E av vv mz ml (nI kk) fc) sz) (wSB E av u.1 u.2.1 ml (nI (kk + w9)) u.2.2)) (va_A (wSB E av vv mz ml (nI kk) fc) sz)) 1 34 (va_A (wSB E av vv mz ml (nI kk) fc) sz) := by
  refine Met.ofWF (cc := cJ5_append_cf1ce) (maxL := 3) (ret := (some (.object "java/lang/AbstractStringBuilder"))) (by decide +kernel) rfl ?_
  intro p e s m args below meth c s₁ B hml hv
  obtain ⟨rfl, hsz, ⟨hK, hN⟩, hP, hD0, hZ⟩ := hv
  have hx := B.exec
  have hb := B.bytes
  have hr := B.returns
  have hts := atoms_spec (ws := v_h_appS5) B.pre
  have hown : s.vm.findClass RJ5 = some m.cls := own_of (by decide +kernel) (findClass_of_methodNamed B.named)
  have hlocks : meth.locks = false := B.notSynchronized
  subst hsz
  have hD := hD0.self (sz := s.heap.size)
  generalize hAe : va_A (wSB E av vv mz ml (nI kk) fc) s.heap.size = A at hD hZ ⊢
  have hA : ∀ q : Nat, s.heap.size ≤ q → A q := fun q h => by rw [← hAe]; exact Or.inr h
  have hS : va_S A s.heap s.heap [] := va_S.rf
  have hl := lv_entry ([.ref av, .ref (z9 (20 + pp))]) (n := 3) (Nat.le_of_ble_eq_true rfl)
  rw [lg_entry_eq]
  generalize (lg_sl ([.ref av, .ref (z9 (20 + pp))]) ++ List.replicate (3 - (lg_sl ([.ref av, .ref (z9 (20 + pp))])).length) Slot.unset).toArray = ls at hl ⊢
  have hl : lv_has ls 3 [(0, .ref av), (1, .ref (z9 (20 + pp)))] := hl
  obtain ⟨Q, hQ⟩ : ∃ Q : State → Prop, Q = MQ below (va_Qr (fun (u : Nat × Nat × (Nat → Int32)) => OKm u.2.1 ∧ kk + w9 ≤ u.2.1 ∧ sb_Fit u.2.2) (fun (u : Nat × Nat × (Nat → Int32)) (ra : Nat) tt => ra = av ∧ va_P E.1 vwCl (wSB E av u.1 u.2.1 ml (nI (kk + w9)) u.2.2) tt.heap ∧ va_D A (wSB E av u.1 u.2.1 ml (nI (kk + w9)) u.2.2)) A) #[Value.ref av, Value.ref (z9 (20 + pp))] s 1 34 A := ⟨_, rfl⟩
  rw [← hQ]
  change W p l e ({ frames := 4, cells := 1, slots := 34, locals := 105 } : Room) s m #[Value.ref av, Value.ref (z9 (20 + pp))] below meth c s.heap [] 0 0 Q (F0 m 0 ls [])
  suffices hh9 : ∀ (H : Heap) (locs : List Loc), va_P E.1 vwCl (wSB E av vv mz ml (nI kk) fc) H → va_D A (wSB E av vv mz ml (nI kk) fc) → va_S A s.heap H locs → W p l e ({ frames := 4, cells := 1, slots := 34, locals := 105 } : Room) s m #[Value.ref av, Value.ref (z9 (20 + pp))] below meth c H locs 0 0 Q (F0 m 0 ls []) from hh9 s.heap [] hP hD hS
  clear hP hD hS
  intro H locs hP hD hS
  have h9 := fixPD (ws' := [k_J4 av vv (0 : Int32) ml (nI kk), k_B E vv mz fc]) hP hD rfl
  clear hP hD
  obtain ⟨hP, hD⟩ := h9
  refine lv_aload_n hx hb (dq_43 0 bcJ5_append_cf1ce_0 (j := 0) rfl rfl) rfl (lv_at hl 1 rfl) ?_
  refine lv_ifnonnull (tgt := 9) hx hb (dq_199 0 bcJ5_append_cf1ce_0 (j := 1) (i := 8) rfl rfl rfl) (by decide) ?_
  refine lv_aload_n hx hb (dq_43 0 bcJ5_append_cf1ce_0 (j := 9) rfl rfl) rfl (lv_at hl 1 rfl) ?_
  have hPc : va_P E.1 vwCl [] H := fun k q h => by simp at h
  refine pE_i (va_runV (As := []) (rest := []) ⟨hx, hb, hml, hown, hts⟩ (f_J0_length_8abf5 l E z9 (p0 := pp) (ln_ok hp)) (cwV 0 hts g_h_appS5_f_J0_length_8abf5_32 rfl rfl rfl (by decide +kernel) ⟨Nat.le_of_ble_eq_true rfl, Nat.le_of_ble_eq_true rfl⟩) ⟨qPZ.blind, vk_recv hZ.2.2.2.1 (show pp < 15 by omega) hS, (qPZ.pre ⟨hK, hN⟩ hPc hZ hS)⟩ rfl rfl hl.1 rfl (lv_room (Nat.le_of_ble_eq_true rfl)) (dq_182 0 bcJ5_append_cf1ce_0 (j := 10) (i := 32) rfl rfl rfl) ⟨Nat.le_of_ble_eq_true rfl, Nat.le_of_ble_eq_true rfl⟩) ?_
  refine lv_istore_n (lv' := [(2, .int (nI w9)), (0, .ref av), (1, .ref (z9 (20 + pp)))]) hx hb (dq_61 0 bcJ5_append_cf1ce_0 (j := 13) rfl rfl) rfl hl (by decide) rfl (fun ls hl => ?_)
  refine lv_aload_n hx hb (dq_42 0 bcJ5_append_cf1ce_0 (j := 14) rfl rfl) rfl (lv_at hl 1 rfl) ?_
  refine lv_aload_n hx hb (dq_42 0 bcJ5_append_cf1ce_0 (j := 15) rfl rfl) rfl (lv_at hl 1 rfl) ?_
  refine va_get (D := E.1) (ci := 0) (v := .int (nI kk)) (C := RJ4) (T := TJ4) (N := 4) hx hb hts i_h_appS5_J4 hown hK hP 0 rfl rfl 3 (by decide) (hts (.fieldLink RJ5 79 "java/lang/AbstractStringBuilder" "count" "I") (List.mem_of_getElem? (i := 1) rfl)) (fun _ h9 => h9) rfl (dq_180 0 bcJ5_append_cf1ce_0 (j := 16) (i := 79) rfl rfl rfl) ?_
  refine lv_iload_n hx hb (dq_28 0 bcJ5_append_cf1ce_0 (j := 19) rfl rfl) rfl (lv_at hl 0 rfl) ?_
  refine lv_iadd hx hb (dq_96 0 bcJ5_append_cf1ce_0 (j := 20) rfl rfl) ?_
  refine lv_topi (fun z_1 ez_1 => ?_)
  obtain rfl : z_1 = nI (kk + w9) := ez_1.trans (nI_add kk w9)
  obtain ⟨hPc, hDc, hFc⟩ := wcut (wc := (wSB E av vv mz ml (nI kk) fc)) hP hD hS hA [0, 1] (by decide) rfl
  have hrc := va_recv hK hPc (ci := 0) (q0 := 0) rfl rfl
  refine va_callv (va_runV (As := [.int (nI (kk + w9))]) (rest := []) ⟨hx, hb, hml, hown, hts⟩ (h_ens l E H.size (av := av) (vv := vv) (mz := mz) (kk := kk + w9) (ml := ml) (nn := nI kk) (fc := fc) hm hk hf) (cwC 1 hts g_h_appS5_h_ens_100 rfl rfl rfl (by decide +kernel) ⟨Nat.le_of_ble_eq_true rfl, Nat.le_of_ble_eq_true rfl⟩) ⟨pW.blind, hrc, (pW.pre ⟨hK, hN⟩ hPc hDc)⟩ rfl rfl hl.1 rfl (lv_room (Nat.le_of_ble_eq_true rfl)) (dq_182 0 bcJ5_append_cf1ce_0 (j := 21) (i := 100) rfl rfl rfl) ⟨Nat.le_of_ble_eq_true rfl, Nat.le_of_ble_eq_true rfl⟩) hS (fun q _ h => hFc q h) hFc (fun u9  tt H1 locs ht hvm hw hB hz1 hk1 hS => ?_)
  obtain ⟨v1, m1, c1⟩ := u9
  obtain ⟨g1, g2, g3, g4⟩ := hw
  obtain ⟨hP1, hD1⟩ := hB
  rw [ht] at hP1
  obtain ⟨hP, hD⟩ := va_join (wr := []) (w1 := [k_J4 av v1 (0 : Int32) ml (nI kk), k_B E v1 m1 c1]) hP hD [0, 1] [] rfl rfl (by decide) (by decide) hk1 hFc hP1 hD1
  generalize H1 = H at hP hS ⊢
  have h9 := fixPD (ws' := [k_J4 av v1 (0 : Int32) ml (nI kk), k_B E v1 m1 c1]) hP hD rfl
  clear hP hD
  obtain ⟨hP, hD⟩ := h9
  refine W.widen (k := 1) (n := 34) (Nat.le_of_ble_eq_true rfl) (Nat.le_of_ble_eq_true rfl) ?_
  have g1 : OKm m1 := g1
  have g2 : kk + w9 ≤ m1 := g2
  have g4 : sb_Fit c1 := g4
  refine lv_aload_n hx hb (dq_42 0 bcJ5_append_cf1ce_0 (j := 24) rfl rfl) rfl (lv_at hl 1 rfl) ?_
  refine lv_aload_n hx hb (dq_42 0 bcJ5_append_cf1ce_0 (j := 25) rfl rfl) rfl (lv_at hl 1 rfl) ?_
  refine va_get (D := E.1) (ci := 0) (v := .int (nI kk)) (C := RJ4) (T := TJ4) (N := 4) hx hb hts i_h_appS5_J4 hown hK hP 0 rfl rfl 3 (by decide) (hts (.fieldLink RJ5 79 "java/lang/AbstractStringBuilder" "count" "I") (List.mem_of_getElem? (i := 1) rfl)) (fun _ h9 => h9) rfl (dq_180 0 bcJ5_append_cf1ce_0 (j := 26) (i := 79) rfl rfl rfl) ?_
  refine lv_aload_n hx hb (dq_43 0 bcJ5_append_cf1ce_0 (j := 29) rfl rfl) rfl (lv_at hl 2 rfl) ?_
  obtain ⟨c2, hG1, hG2⟩ := ps_ok hp g2 g1.le g4
  obtain ⟨hPc, hDc, hFc⟩ := wcut (wc := (w_J5_putStringAt_47b60 E av v1 (0 : Int32) ml (nI kk) c1 m1)) hP hD hS hA [0, 1] (by decide) rfl
  have hrc := va_recv hK hPc (ci := 0) (q0 := 0) rfl rfl
  refine cE_v (wc := (w_J5_putStringAt_47b60 E av v1 (0 : Int32) ml (nI kk) c1 m1)) (wr := []) (w1 := (w_J5_putStringAt_47b60 E av v1 (0 : Int32) ml (nI kk) c2 m1)) (va_runV (As := [.int (nI kk), .ref (z9 (20 + pp))]) (rest := []) ⟨hx, hb, hml, hown, hts⟩ (f_J5_putStringAt_47b60 l E H.size z9 (a_ := av) (a_value := v1) (p1 := nI kk) (p2 := pp) (c_coder := (0 : Int32)) (c_maybeLatin1 := ml) (c_count := nI kk) (c_value := c1) (m9 := m1) hG1) (cwC 2 hts g_h_appS5_f_J5_putStringAt_47b60_208 rfl rfl rfl (by decide +kernel) ⟨Nat.le_of_ble_eq_true rfl, Nat.le_of_ble_eq_true rfl⟩) ⟨qWZ.blind, hrc, (qWZ.pre ⟨hK, hN⟩ hPc hDc hZ hS hFc)⟩ rfl rfl hl.1 rfl (lv_room (Nat.le_of_ble_eq_true rfl)) (dq_182 0 bcJ5_append_cf1ce_0 (j := 30) (i := 208) rfl rfl rfl) ⟨Nat.le_of_ble_eq_true rfl, Nat.le_of_ble_eq_true rfl⟩) hS hFc hP hD [0, 1] [] rfl rfl (by decide) (by decide) (fun H locs hP hD hS => ?_)
  have h9 := fixPD (ws' := [k_J4 av v1 (0 : Int32) ml (nI kk), k_B E v1 m1 c2]) hP hD rfl
  clear hP hD
  obtain ⟨hP, hD⟩ := h9
  refine lv_aload_n hx hb (dq_42 0 bcJ5_append_cf1ce_0 (j := 33) rfl rfl) rfl (lv_at hl 1 rfl) ?_
  refine lv_dup hx hb (dq_89 0 bcJ5_append_cf1ce_0 (j := 34) rfl rfl) rfl ?_
  refine va_get (D := E.1) (ci := 0) (v := .int (nI kk)) (C := RJ4) (T := TJ4) (N := 4) hx hb hts i_h_appS5_J4 hown hK hP 0 rfl rfl 3 (by decide) (hts (.fieldLink RJ5 79 "java/lang/AbstractStringBuilder" "count" "I") (List.mem_of_getElem? (i := 1) rfl)) (fun _ h9 => h9) rfl (dq_180 0 bcJ5_append_cf1ce_0 (j := 35) (i := 79) rfl rfl rfl) ?_
  refine lv_iload_n hx hb (dq_28 0 bcJ5_append_cf1ce_0 (j := 38) rfl rfl) rfl (lv_at hl 0 rfl) ?_
  refine lv_iadd hx hb (dq_96 0 bcJ5_append_cf1ce_0 (j := 39) rfl rfl) ?_
  refine lv_topi (fun z_3 ez_3 => ?_)
  obtain rfl : z_3 = nI (kk + w9) := ez_3.trans (nI_add kk w9)
  refine va_put (D := E.1) (ci := 0) (v := .int (nI (kk + w9))) (ty := .int) (C := RJ4) (T := TJ4) (N := 4) hx hb hts i_h_appS5_J4 tyJ4 tyJ4_ok nmJ4 hown hK hP hD hS 0 rfl rfl 3 (by decide) (hts (.fieldLink RJ5 79 "java/lang/AbstractStringBuilder" "count" "I") (List.mem_of_getElem? (i := 1) rfl)) (fun _ h9 => h9) rfl (by decide +kernel) rfl rfl (Nat.le_of_ble_eq_true rfl) (dq_181 0 bcJ5_append_cf1ce_0 (j := 40) (i := 79) rfl rfl rfl) (fun H locs hP hD hS => ?_)
  have h9 := fixPD (ws' := [k_J4 av v1 (0 : Int32) ml (nI (kk + w9)), k_B E v1 m1 c2]) hP hD rfl
  clear hP hD
  obtain ⟨hP, hD⟩ := h9
  refine lv_aload_n hx hb (dq_42 0 bcJ5_append_cf1ce_0 (j := 43) rfl rfl) rfl (lv_at hl 1 rfl) ?_
  have hP9 := hP.sub (ws' := [k_J4 av v1 (0 : Int32) ml (nI (kk + w9)), k_B E v1 m1 c2]) [0, 1] rfl
  have hD9 := hD.sub (ws' := [k_J4 av v1 (0 : Int32) ml (nI (kk + w9)), k_B E v1 m1 c2]) [0, 1] (by decide) rfl
  rw [hQ]
  exact W.aret (v := .ref av) hx hb hr (Or.inl ⟨_, rfl⟩) (Or.inr ⟨_, rfl⟩) (fun tt ht hW => ⟨⟨(v1, m1, c2), av, rfl, ⟨g1, g2, hG2⟩, rfl, by rw [ht]; exact hP9, hD9⟩, hS.F ht⟩) hS.2.2 (dq_176 0 bcJ5_append_cf1ce_0 (j := 44) rfl rfl)

def v_h_appC : List Cond := List.cons (.code yJ4_append_cf468 cJ4_append_cf468 2 (some (.object "java/lang/StringBuilder"))) (HAppend.hAppend (α := List Cond) (β := List Cond) (γ := List Cond) [.methodLink RJ4 50 yJ5_append_3fe6f, .sameMethod RJ5 RJ5 "append" "(C)Ljava/lang/AbstractStringBuilder;", .superclass RJ4 RJ5, .instanceMethod yJ5_append_3fe6f, .initialized RJ5] (HAppend.hAppend (α := List Cond) (β := List Cond) (γ := List Cond) v_h_appC5 []))
theorem gw_h_appC : v_h_appC.all goodWord = true := gw_c2 (by decide +kernel) (gw_ap gw_h_appC5 gw_nil)
theorem g_h_appC_h_appC5_50 : GoodIn v_h_appC (va_wsSU RJ4 50 yJ5_append_3fe6f v_h_appC5) := goodIn_in gw_h_appC (in5 1 2 3 4 5 rfl rfl rfl rfl rfl (fun _ h => List.mem_cons_of_mem _ (List.mem_append_right _ (List.mem_append_left _ h))))
set_option maxHeartbeats 4000000 in
set_option maxRecDepth 100000 in
theorem h_appC (l : Launch) (E : EE) (sz : Nat) (z9 : Nat → Nat) {av vv mz kk : Nat} {ml : Int32} {fc : Nat → Int32} {ch : Int32} (hm : OKm mz) (hk : kk + 1 ≤ 34) (hf : sb_Fit fc) (hc : F_J1_canEncode_fc78d ch = some 1) : Met l yJ4_append_cf468 v_h_appC (({ frames := 5, cells := 1, slots := 34, locals := 125 } : Room)) (va_Pc [.ref av, .int ch] (qWZ E z9 sz (wSB E av vv mz ml (nI kk) fc))) (va_Qr (fun (u : Nat × Nat × (Nat → Int32)) => OKm u.2.1 ∧ kk + 1 ≤ u.2.1 ∧ sb_Fit u.2.2) (fun (u : Nat × Nat × (Nat → Int32)) (ra : Nat) tt => ra = av ∧ va_P E.1 vwCl (wSB E av u.1 u.2.1 ml (nI (kk + 1)) u.2.2) tt.heap ∧ va_D (va_A (wSB E av vv mz ml (nI kk) fc) sz) (wSB E av u.1 u.2.1 ml (nI (kk + 1)) u.2.2)) (va_A (wSB E av vv mz ml (nI kk) fc) sz)) 1 34 (va_A (wSB E av vv mz ml (nI kk) fc) sz) := by
  refine Met.ofWF (cc := cJ4_append_cf468) (maxL := 2) (ret := (some (.object "java/lang/StringBuilder"))) (by decide +kernel) rfl ?_
  intro p e s m args below meth c s₁ B hml hv
  obtain ⟨rfl, hsz, ⟨hK, hN⟩, hP, hD0, hZ⟩ := hv
  have hx := B.exec
  have hb := B.bytes
  have hr := B.returns
  have hts := atoms_spec (ws := v_h_appC) B.pre
  have hown : s.vm.findClass RJ4 = some m.cls := own_of (by decide +kernel) (findClass_of_methodNamed B.named)
  have hlocks : meth.locks = false := B.notSynchronized
  subst hsz
  have hD := hD0.self (sz := s.heap.size)
  generalize hAe : va_A (wSB E av vv mz ml (nI kk) fc) s.heap.size = A at hD hZ ⊢
  have hA : ∀ q : Nat, s.heap.size ≤ q → A q := fun q h => by rw [← hAe]; exact Or.inr h
  have hS : va_S A s.heap s.heap [] := va_S.rf
  have hl := lv_entry ([.ref av, .int ch]) (n := 2) (Nat.le_of_ble_eq_true rfl)
  rw [lg_entry_eq]
  generalize (lg_sl ([.ref av, .int ch]) ++ List.replicate (2 - (lg_sl ([.ref av, .int ch])).length) Slot.unset).toArray = ls at hl ⊢
  have hl : lv_has ls 2 [(0, .ref av), (1, .int ch)] := hl
  obtain ⟨Q, hQ⟩ : ∃ Q : State → Prop, Q = MQ below (va_Qr (fun (u : Nat × Nat × (Nat → Int32)) => OKm u.2.1 ∧ kk + 1 ≤ u.2.1 ∧ sb_Fit u.2.2) (fun (u : Nat × Nat × (Nat → Int32)) (ra : Nat) tt => ra = av ∧ va_P E.1 vwCl (wSB E av u.1 u.2.1 ml (nI (kk + 1)) u.2.2) tt.heap ∧ va_D A (wSB E av u.1 u.2.1 ml (nI (kk + 1)) u.2.2)) A) #[Value.ref av, Value.int ch] s 1 34 A := ⟨_, rfl⟩
  rw [← hQ]
  change W p l e ({ frames := 5, cells := 1, slots := 34, locals := 125 } : Room) s m #[Value.ref av, Value.int ch] below meth c s.heap [] 0 0 Q (F0 m 0 ls [])
  suffices hh9 : ∀ (H : Heap) (locs : List Loc), va_P E.1 vwCl (wSB E av vv mz ml (nI kk) fc) H → va_D A (wSB E av vv mz ml (nI kk) fc) → va_S A s.heap H locs → W p l e ({ frames := 5, cells := 1, slots := 34, locals := 125 } : Room) s m #[Value.ref av, Value.int ch] below meth c H locs 0 0 Q (F0 m 0 ls []) from hh9 s.heap [] hP hD hS
  clear hP hD hS
  intro H locs hP hD hS
  have h9 := fixPD (ws' := [k_J4 av vv (0 : Int32) ml (nI kk), k_B E vv mz fc]) hP hD rfl
  clear hP hD
  obtain ⟨hP, hD⟩ := h9
  refine lv_aload_n hx hb (dq_42 0 bcJ4_append_cf468_0 (j := 0) rfl rfl) rfl (lv_at hl 0 rfl) ?_
  refine lv_iload_n hx hb (dq_27 0 bcJ4_append_cf468_0 (j := 1) rfl rfl) rfl (lv_at hl 1 rfl) ?_
  obtain ⟨hPc, hDc, hFc⟩ := wcut (wc := (wSB E av vv mz ml (nI kk) fc)) hP hD hS hA [0, 1] (by decide) rfl
  refine va_callr (va_runSU (As := [.int ch]) (rest := []) (hK.1 0 (RJ4, TJ4, 4) rfl).2 ⟨hx, hb, hml, hown, hts⟩ (h_appC5 l E H.size z9 (av := av) (vv := vv) (mz := mz) (kk := kk) (ml := ml) (fc := fc) (ch := ch) hm hk hf hc) (va_cwSU 1 hts g_h_appC_h_appC5_50 rfl rfl rfl (by decide +kernel) ⟨Nat.le_of_ble_eq_true rfl, Nat.le_of_ble_eq_true rfl⟩) ⟨qWZ.blind, va_recv hK hPc (ci := 0) (q0 := 0) rfl rfl, (qWZ.pre ⟨hK, hN⟩ hPc hDc hZ hS hFc)⟩ rfl rfl hl.1 rfl (lv_room (Nat.le_of_ble_eq_true rfl)) (dq_183 0 bcJ4_append_cf468_0 (j := 2) (i := 50) rfl rfl rfl) ⟨Nat.le_of_ble_eq_true rfl, Nat.le_of_ble_eq_true rfl⟩) hS (fun q _ h => hFc q h) hFc (fun u9 ra_1 tt H1 locs ht hvm hw hB hz1 hk1 hS => ?_)
  obtain ⟨v1, m1, c1⟩ := u9
  obtain ⟨g1, g2, g4⟩ := hw
  obtain ⟨hra, hP1, hD1⟩ := hB
  rw [hra]
  rw [ht] at hP1
  obtain ⟨hP, hD⟩ := va_join (wr := []) (w1 := [k_J4 av v1 (0 : Int32) ml (nI (kk + 1)), k_B E v1 m1 c1]) hP hD [0, 1] [] rfl rfl (by decide) (by decide) hk1 hFc hP1 hD1
  generalize H1 = H at hP hS ⊢
  have h9 := fixPD (ws' := [k_J4 av v1 (0 : Int32) ml (nI (kk + 1)), k_B E v1 m1 c1]) hP hD rfl
  clear hP hD
  obtain ⟨hP, hD⟩ := h9
  refine W.widen (k := 1) (n := 34) (Nat.le_of_ble_eq_true rfl) (Nat.le_of_ble_eq_true rfl) ?_
  refine lv_pop hx hb (dq_87 0 bcJ4_append_cf468_0 (j := 5) rfl rfl) rfl ?_
  refine lv_aload_n hx hb (dq_42 0 bcJ4_append_cf468_0 (j := 6) rfl rfl) rfl (lv_at hl 0 rfl) ?_
  have hP9 := hP.sub (ws' := [k_J4 av v1 (0 : Int32) ml (nI (kk + 1)), k_B E v1 m1 c1]) [0, 1] rfl
  have hD9 := hD.sub (ws' := [k_J4 av v1 (0 : Int32) ml (nI (kk + 1)), k_B E v1 m1 c1]) [0, 1] (by decide) rfl
  rw [hQ]
  exact W.aret (v := .ref av) hx hb hr (Or.inl ⟨_, rfl⟩) (Or.inr ⟨_, rfl⟩) (fun tt ht hW => ⟨⟨(v1, m1, c1), av, rfl, ⟨g1, g2, g4⟩, rfl, by rw [ht]; exact hP9, hD9⟩, hS.F ht⟩) hS.2.2 (dq_176 0 bcJ4_append_cf468_0 (j := 7) rfl rfl)

def v_h_appI : List Cond := List.cons (.code yJ4_append_bf812 cJ4_append_bf812 2 (some (.object "java/lang/StringBuilder"))) (HAppend.hAppend (α := List Cond) (β := List Cond) (γ := List Cond) [.methodLink RJ4 53 yJ5_append_c97b9, .sameMethod RJ5 RJ5 "append" "(I)Ljava/lang/AbstractStringBuilder;", .superclass RJ4 RJ5, .instanceMethod yJ5_append_c97b9, .initialized RJ5] (HAppend.hAppend (α := List Cond) (β := List Cond) (γ := List Cond) v_h_appI5 []))
theorem gw_h_appI : v_h_appI.all goodWord = true := gw_c2 (by decide +kernel) (gw_ap gw_h_appI5 gw_nil)
theorem g_h_appI_h_appI5_53 : GoodIn v_h_appI (va_wsSU RJ4 53 yJ5_append_c97b9 v_h_appI5) := goodIn_in gw_h_appI (in5 1 2 3 4 5 rfl rfl rfl rfl rfl (fun _ h => List.mem_cons_of_mem _ (List.mem_append_right _ (List.mem_append_left _ h))))
set_option maxHeartbeats 4000000 in
set_option maxRecDepth 100000 in
theorem h_appI (l : Launch) (E : EE) (sz : Nat) (K : Nat) (z9 : Nat → Nat) {av vv mz kk : Nat} {ml : Int32} {fc : Nat → Int32} {iv : Int32} {s9 : Nat} (hm : OKm mz) (hk : kk + s9 ≤ 34) (hf : sb_Fit fc) (hs9 : F_J6_stringSize_0f7a4 K iv = some (nI s9)) (hG : ∀ (m1 : Nat) (c1 : Nat → Int32), m1 ≤ 34 → kk + s9 ≤ m1 → sb_Fit c1 → ∃ r c2, F_J6_getChars_ba4f3 K iv (nI (kk + s9)) c1 m1 = some (r, c2) ∧ sb_Fit c2) : Met l yJ4_append_bf812 v_h_appI (({ frames := 5, cells := 1, slots := 34, locals := 127 } : Room)) (va_Pc [.ref av, .int iv] (qWZ E z9 sz (wSB E av vv mz ml (nI kk) fc))) (va_Qr (fun (u : Nat × Nat × (Nat → Int32)) => OKm u.2.1 ∧ kk + s9 ≤ u.2.1 ∧ sb_Fit u.2.2) (fun (u : Nat × Nat × (Nat → Int32)) (ra : Nat) tt => ra = av ∧ va_P E.1 vwCl (wSB E av u.1 u.2.1 ml (nI (kk + s9)) u.2.2) tt.heap ∧ va_D (va_A (wSB E av vv mz ml (nI kk) fc) sz) (wSB E av u.1 u.2.1 ml (nI (kk + s9)) u.2.2)) (va_A (wSB E av vv mz ml (nI kk) fc) sz)) 1 34 (va_A (wSB E av vv mz ml (nI kk) fc) sz) := by
  refine Met.ofWF (cc := cJ4_append_bf812) (maxL := 2) (ret := (some (.object "java/lang/StringBuilder"))) (by decide +kernel) rfl ?_
  intro p e s m args below meth c s₁ B hml hv
  obtain ⟨rfl, hsz, ⟨hK, hN⟩, hP, hD0, hZ⟩ := hv
  have hx := B.exec
  have hb := B.bytes
  have hr := B.returns
  have hts := atoms_spec (ws := v_h_appI) B.pre
  have hown : s.vm.findClass RJ4 = some m.cls := own_of (by decide +kernel) (findClass_of_methodNamed B.named)
  have hlocks : meth.locks = false := B.notSynchronized
  subst hsz
  have hD := hD0.self (sz := s.heap.size)
  generalize hAe : va_A (wSB E av vv mz ml (nI kk) fc) s.heap.size = A at hD hZ ⊢
  have hA : ∀ q : Nat, s.heap.size ≤ q → A q := fun q h => by rw [← hAe]; exact Or.inr h
  have hS : va_S A s.heap s.heap [] := va_S.rf
  have hl := lv_entry ([.ref av, .int iv]) (n := 2) (Nat.le_of_ble_eq_true rfl)
  rw [lg_entry_eq]
  generalize (lg_sl ([.ref av, .int iv]) ++ List.replicate (2 - (lg_sl ([.ref av, .int iv])).length) Slot.unset).toArray = ls at hl ⊢
  have hl : lv_has ls 2 [(0, .ref av), (1, .int iv)] := hl
  obtain ⟨Q, hQ⟩ : ∃ Q : State → Prop, Q = MQ below (va_Qr (fun (u : Nat × Nat × (Nat → Int32)) => OKm u.2.1 ∧ kk + s9 ≤ u.2.1 ∧ sb_Fit u.2.2) (fun (u : Nat × Nat × (Nat → Int32)) (ra : Nat) tt => ra = av ∧ va_P E.1 vwCl (wSB E av u.1 u.2.1 ml (nI (kk + s9)) u.2.2) tt.heap ∧ va_D A (wSB E av u.1 u.2.1 ml (nI (kk + s9)) u.2.2)) A) #[Value.ref av, Value.int iv] s 1 34 A := ⟨_, rfl⟩
  rw [← hQ]
  change W p l e ({ frames := 5, cells := 1, slots := 34, locals := 127 } : Room) s m #[Value.ref av, Value.int iv] below meth c s.heap [] 0 0 Q (F0 m 0 ls [])
  suffices hh9 : ∀ (H : Heap) (locs : List Loc), va_P E.1 vwCl (wSB E av vv mz ml (nI kk) fc) H → va_D A (wSB E av vv mz ml (nI kk) fc) → va_S A s.heap H locs → W p l e ({ frames := 5, cells := 1, slots := 34, locals := 127 } : Room) s m #[Value.ref av, Value.int iv] below meth c H locs 0 0 Q (F0 m 0 ls []) from hh9 s.heap [] hP hD hS
  clear hP hD hS
  intro H locs hP hD hS
  have h9 := fixPD (ws' := [k_J4 av vv (0 : Int32) ml (nI kk), k_B E vv mz fc]) hP hD rfl
  clear hP hD
  obtain ⟨hP, hD⟩ := h9
  refine lv_aload_n hx hb (dq_42 0 bcJ4_append_bf812_0 (j := 0) rfl rfl) rfl (lv_at hl 0 rfl) ?_
  refine lv_iload_n hx hb (dq_27 0 bcJ4_append_bf812_0 (j := 1) rfl rfl) rfl (lv_at hl 1 rfl) ?_
  obtain ⟨hPc, hDc, hFc⟩ := wcut (wc := (wSB E av vv mz ml (nI kk) fc)) hP hD hS hA [0, 1] (by decide) rfl
  refine va_callr (va_runSU (As := [.int iv]) (rest := []) (hK.1 0 (RJ4, TJ4, 4) rfl).2 ⟨hx, hb, hml, hown, hts⟩ (h_appI5 l E H.size K z9 (av := av) (vv := vv) (mz := mz) (kk := kk) (ml := ml) (fc := fc) (iv := iv) (s9 := s9) hm hk hf hs9 hG) (va_cwSU 1 hts g_h_appI_h_appI5_53 rfl rfl rfl (by decide +kernel) ⟨Nat.le_of_ble_eq_true rfl, Nat.le_of_ble_eq_true rfl⟩) ⟨qWZ.blind, va_recv hK hPc (ci := 0) (q0 := 0) rfl rfl, (qWZ.pre ⟨hK, hN⟩ hPc hDc hZ hS hFc)⟩ rfl rfl hl.1 rfl (lv_room (Nat.le_of_ble_eq_true rfl)) (dq_183 0 bcJ4_append_bf812_0 (j := 2) (i := 53) rfl rfl rfl) ⟨Nat.le_of_ble_eq_true rfl, Nat.le_of_ble_eq_true rfl⟩) hS (fun q _ h => hFc q h) hFc (fun u9 ra_1 tt H1 locs ht hvm hw hB hz1 hk1 hS => ?_)
  obtain ⟨v1, m1, c1⟩ := u9
  obtain ⟨g1, g2, g4⟩ := hw
  obtain ⟨hra, hP1, hD1⟩ := hB
  rw [hra]
  rw [ht] at hP1
  obtain ⟨hP, hD⟩ := va_join (wr := []) (w1 := [k_J4 av v1 (0 : Int32) ml (nI (kk + s9)), k_B E v1 m1 c1]) hP hD [0, 1] [] rfl rfl (by decide) (by decide) hk1 hFc hP1 hD1
  generalize H1 = H at hP hS ⊢
  have h9 := fixPD (ws' := [k_J4 av v1 (0 : Int32) ml (nI (kk + s9)), k_B E v1 m1 c1]) hP hD rfl
  clear hP hD
  obtain ⟨hP, hD⟩ := h9
  refine W.widen (k := 1) (n := 34) (Nat.le_of_ble_eq_true rfl) (Nat.le_of_ble_eq_true rfl) ?_
  refine lv_pop hx hb (dq_87 0 bcJ4_append_bf812_0 (j := 5) rfl rfl) rfl ?_
  refine lv_aload_n hx hb (dq_42 0 bcJ4_append_bf812_0 (j := 6) rfl rfl) rfl (lv_at hl 0 rfl) ?_
  have hP9 := hP.sub (ws' := [k_J4 av v1 (0 : Int32) ml (nI (kk + s9)), k_B E v1 m1 c1]) [0, 1] rfl
  have hD9 := hD.sub (ws' := [k_J4 av v1 (0 : Int32) ml (nI (kk + s9)), k_B E v1 m1 c1]) [0, 1] (by decide) rfl
  rw [hQ]
  exact W.aret (v := .ref av) hx hb hr (Or.inl ⟨_, rfl⟩) (Or.inr ⟨_, rfl⟩) (fun tt ht hW => ⟨⟨(v1, m1, c1), av, rfl, ⟨g1, g2, g4⟩, rfl, by rw [ht]; exact hP9, hD9⟩, hS.F ht⟩) hS.2.2 (dq_176 0 bcJ4_append_bf812_0 (j := 7) rfl rfl)

def v_h_appS : List Cond := List.cons (.code yJ4_append_15ec4 cJ4_append_15ec4 2 (some (.object "java/lang/StringBuilder"))) (HAppend.hAppend (α := List Cond) (β := List Cond) (γ := List Cond) [.methodLink RJ4 29 yJ5_append_cf1ce, .sameMethod RJ5 RJ5 "append" "(Ljava/lang/String;)Ljava/lang/AbstractStringBuilder;", .superclass RJ4 RJ5, .instanceMethod yJ5_append_cf1ce, .initialized RJ5] (HAppend.hAppend (α := List Cond) (β := List Cond) (γ := List Cond) v_h_appS5 []))
theorem gw_h_appS : v_h_appS.all goodWord = true := gw_c2 (by decide +kernel) (gw_ap gw_h_appS5 gw_nil)
theorem g_h_appS_h_appS5_29 : GoodIn v_h_appS (va_wsSU RJ4 29 yJ5_append_cf1ce v_h_appS5) := goodIn_in gw_h_appS (in5 1 2 3 4 5 rfl rfl rfl rfl rfl (fun _ h => List.mem_cons_of_mem _ (List.mem_append_right _ (List.mem_append_left _ h))))
set_option maxHeartbeats 4000000 in
set_option maxRecDepth 100000 in
theorem h_appS (l : Launch) (E : EE) (sz : Nat) (z9 : Nat → Nat) {av vv mz kk pp w9 : Nat} {ml : Int32} {fc : Nat → Int32} (hm : OKm mz) (hk : kk + w9 ≤ 34) (hf : sb_Fit fc) (hp : (pp = 12 ∧ w9 = 5) ∨ (pp = 13 ∧ w9 = 4)) : Met l yJ4_append_15ec4 v_h_appS (({ frames := 5, cells := 1, slots := 34, locals := 127 } : Room)) (va_Pc [.ref av, .ref (z9 (20 + pp))] (qWZ E z9 sz (wSB E av vv mz ml (nI kk) fc))) (va_Qr (fun (u : Nat × Nat × (Nat → Int32)) => OKm u.2.1 ∧ kk + w9 ≤ u.2.1 ∧ sb_Fit u.2.2) (fun (u : Nat × Nat × (Nat → Int32)) (ra : Nat) tt => ra = av ∧ va_P E.1 vwCl (wSB E av u.1 u.2.1 ml (nI (kk + w9)) u.2.2) tt.heap ∧ va_D (va_A (wSB E av vv mz ml (nI kk) fc) sz) (wSB E av u.1 u.2.1 ml (nI (kk + w9)) u.2.2)) (va_A (wSB E av vv mz ml (nI kk) fc) sz)) 1 34 (va_A (wSB E av vv mz ml (nI kk) fc) sz) := by
  refine Met.ofWF (cc := cJ4_append_15ec4) (maxL := 2) (ret := (some (.object "java/lang/StringBuilder"))) (by decide +kernel) rfl ?_
  intro p e s m args below meth c s₁ B hml hv
  obtain ⟨rfl, hsz, ⟨hK, hN⟩, hP, hD0, hZ⟩ := hv
  have hx := B.exec
  have hb := B.bytes
  have hr := B.returns
  have hts := atoms_spec (ws := v_h_appS) B.pre
  have hown : s.vm.findClass RJ4 = some m.cls := own_of (by decide +kernel) (findClass_of_methodNamed B.named)
  have hlocks : meth.locks = false := B.notSynchronized
  subst hsz
  have hD := hD0.self (sz := s.heap.size)
  generalize hAe : va_A (wSB E av vv mz ml (nI kk) fc) s.heap.size = A at hD hZ ⊢
  have hA : ∀ q : Nat, s.heap.size ≤ q → A q := fun q h => by rw [← hAe]; exact Or.inr h
  have hS : va_S A s.heap s.heap [] := va_S.rf
  have hl := lv_entry ([.ref av, .ref (z9 (20 + pp))]) (n := 2) (Nat.le_of_ble_eq_true rfl)
  rw [lg_entry_eq]
  generalize (lg_sl ([.ref av, .ref (z9 (20 + pp))]) ++ List.replicate (2 - (lg_sl ([.ref av, .ref (z9 (20 + pp))])).length) Slot.unset).toArray = ls at hl ⊢
  have hl : lv_has ls 2 [(0, .ref av), (1, .ref (z9 (20 + pp)))] := hl
  obtain ⟨Q, hQ⟩ : ∃ Q : State → Prop, Q = MQ below (va_Qr (fun (u : Nat × Nat × (Nat → Int32)) => OKm u.2.1 ∧ kk + w9 ≤ u.2.1 ∧ sb_Fit u.2.2) (fun (u : Nat × Nat × (Nat → Int32)) (ra : Nat) tt => ra = av ∧ va_P E.1 vwCl (wSB E av u.1 u.2.1 ml (nI (kk + w9)) u.2.2) tt.heap ∧ va_D A (wSB E av u.1 u.2.1 ml (nI (kk + w9)) u.2.2)) A) #[Value.ref av, Value.ref (z9 (20 + pp))] s 1 34 A := ⟨_, rfl⟩
  rw [← hQ]
  change W p l e ({ frames := 5, cells := 1, slots := 34, locals := 127 } : Room) s m #[Value.ref av, Value.ref (z9 (20 + pp))] below meth c s.heap [] 0 0 Q (F0 m 0 ls [])
  suffices hh9 : ∀ (H : Heap) (locs : List Loc), va_P E.1 vwCl (wSB E av vv mz ml (nI kk) fc) H → va_D A (wSB E av vv mz ml (nI kk) fc) → va_S A s.heap H locs → W p l e ({ frames := 5, cells := 1, slots := 34, locals := 127 } : Room) s m #[Value.ref av, Value.ref (z9 (20 + pp))] below meth c H locs 0 0 Q (F0 m 0 ls []) from hh9 s.heap [] hP hD hS
  clear hP hD hS
  intro H locs hP hD hS
  have h9 := fixPD (ws' := [k_J4 av vv (0 : Int32) ml (nI kk), k_B E vv mz fc]) hP hD rfl
  clear hP hD
  obtain ⟨hP, hD⟩ := h9
  refine lv_aload_n hx hb (dq_42 0 bcJ4_append_15ec4_0 (j := 0) rfl rfl) rfl (lv_at hl 0 rfl) ?_
  refine lv_aload_n hx hb (dq_43 0 bcJ4_append_15ec4_0 (j := 1) rfl rfl) rfl (lv_at hl 1 rfl) ?_
  obtain ⟨hPc, hDc, hFc⟩ := wcut (wc := (wSB E av vv mz ml (nI kk) fc)) hP hD hS hA [0, 1] (by decide) rfl
  refine va_callr (va_runSU (As := [.ref (z9 (20 + pp))]) (rest := []) (hK.1 0 (RJ4, TJ4, 4) rfl).2 ⟨hx, hb, hml, hown, hts⟩ (h_appS5 l E H.size z9 (av := av) (vv := vv) (mz := mz) (kk := kk) (ml := ml) (fc := fc) (pp := pp) (w9 := w9) hm hk hf hp) (va_cwSU 1 hts g_h_appS_h_appS5_29 rfl rfl rfl (by decide +kernel) ⟨Nat.le_of_ble_eq_true rfl, Nat.le_of_ble_eq_true rfl⟩) ⟨qWZ.blind, va_recv hK hPc (ci := 0) (q0 := 0) rfl rfl, (qWZ.pre ⟨hK, hN⟩ hPc hDc hZ hS hFc)⟩ rfl rfl hl.1 rfl (lv_room (Nat.le_of_ble_eq_true rfl)) (dq_183 0 bcJ4_append_15ec4_0 (j := 2) (i := 29) rfl rfl rfl) ⟨Nat.le_of_ble_eq_true rfl, Nat.le_of_ble_eq_true rfl⟩) hS (fun q _ h => hFc q h) hFc (fun u9 ra_1 tt H1 locs ht hvm hw hB hz1 hk1 hS => ?_)
  obtain ⟨v1, m1, c1⟩ := u9
  obtain ⟨g1, g2, g4⟩ := hw
  obtain ⟨hra, hP1, hD1⟩ := hB
  rw [hra]
  rw [ht] at hP1
  obtain ⟨hP, hD⟩ := va_join (wr := []) (w1 := [k_J4 av v1 (0 : Int32) ml (nI (kk + w9)), k_B E v1 m1 c1]) hP hD [0, 1] [] rfl rfl (by decide) (by decide) hk1 hFc hP1 hD1
  generalize H1 = H at hP hS ⊢
  have h9 := fixPD (ws' := [k_J4 av v1 (0 : Int32) ml (nI (kk + w9)), k_B E v1 m1 c1]) hP hD rfl
  clear hP hD
  obtain ⟨hP, hD⟩ := h9
  refine W.widen (k := 1) (n := 34) (Nat.le_of_ble_eq_true rfl) (Nat.le_of_ble_eq_true rfl) ?_
  refine lv_pop hx hb (dq_87 0 bcJ4_append_15ec4_0 (j := 5) rfl rfl) rfl ?_
  refine lv_aload_n hx hb (dq_42 0 bcJ4_append_15ec4_0 (j := 6) rfl rfl) rfl (lv_at hl 0 rfl) ?_
  have hP9 := hP.sub (ws' := [k_J4 av v1 (0 : Int32) ml (nI (kk + w9)), k_B E v1 m1 c1]) [0, 1] rfl
  have hD9 := hD.sub (ws' := [k_J4 av v1 (0 : Int32) ml (nI (kk + w9)), k_B E v1 m1 c1]) [0, 1] (by decide) rfl
  rw [hQ]
  exact W.aret (v := .ref av) hx hb hr (Or.inl ⟨_, rfl⟩) (Or.inr ⟨_, rfl⟩) (fun tt ht hW => ⟨⟨(v1, m1, c1), av, rfl, ⟨g1, g2, g4⟩, rfl, by rw [ht]; exact hP9, hD9⟩, hS.F ht⟩) hS.2.2 (dq_176 0 bcJ4_append_15ec4_0 (j := 7) rfl rfl)

def v_h_init5 : List Cond := List.cons (.code yJ5_init_d00df cJ5_init_d00df 2 none) (HAppend.hAppend (α := List Cond) (β := List Cond) (γ := List Cond) [.methodLink RJ5 3 objectInit, .instanceMethod objectInit, .code objectInit ⟨#[0xb1]⟩ 1 none, .fieldLink RJ5 18 "java/lang/String" "COMPACT_STRINGS" "Z", .arrayClass .byte, .fieldLink RJ5 15 "java/lang/AbstractStringBuilder" "value" "[B", .fieldLink RJ5 22 "java/lang/AbstractStringBuilder" "coder" "B"] (HAppend.hAppend (α := List Cond) (β := List Cond) (γ := List Cond) wsJ40 []))
theorem gw_h_init5 : v_h_init5.all goodWord = true := gw_c2 (by decide +kernel) (gw_ap gw_wsJ40 gw_nil)
theorem i_h_init5_J4 : ∀ w ∈ wsJ40, w ∈ v_h_init5 := fun _ h => List.mem_cons_of_mem _ (List.mem_append_right _ (List.mem_append_left _ h))
set_option maxHeartbeats 4000000 in
set_option maxRecDepth 100000 in
theorem h_init5 (l : Launch) (E : EE) (sz : Nat) (z9 : Nat → Nat) {av : Nat}  : Met l yJ5_init_d00df v_h_init5 (({ frames := 1, cells := 1, slots := 16, locals := 20 } : Room)) (va_Pc [.ref av, .int (16 : Int32)] (qWZ E z9 sz [(av, .inr (0, [.null, .int 0, .int 0, .int 0]))])) (va_Qv (fun (_u : Nat) => True) (fun (u : Nat) tt => va_P E.1 vwCl (wSB E av u 16 0 0 (fun _ => 0)) tt.heap ∧ va_D (va_A [(av, .inr (0, [.null, .int 0, .int 0, .int 0]))] sz) (wSB E av u 16 0 0 (fun _ => 0))) (va_A [(av, .inr (0, [.null, .int 0, .int 0, .int 0]))] sz)) 1 16 (va_A [(av, .inr (0, [.null, .int 0, .int 0, .int 0]))] sz) := by
  refine Met.ofWF (cc := cJ5_init_d00df) (maxL := 2) (ret := none) (by decide +kernel) rfl ?_
  intro p e s m args below meth c s₁ B hml hv
  obtain ⟨rfl, hsz, ⟨hK, hN⟩, hP, hD0, hZ⟩ := hv
  have hx := B.exec
  have hb := B.bytes
  have hr := B.returns
  have hts := atoms_spec (ws := v_h_init5) B.pre
  have hown : s.vm.findClass RJ5 = some m.cls := own_of (by decide +kernel) (findClass_of_methodNamed B.named)
  have hlocks : meth.locks = false := B.notSynchronized
  have hin : meth.name = "<init>" := (name_of_methodNamed B.named B.method).1
  subst hsz
  have hD := hD0.self (sz := s.heap.size)
  generalize hAe : va_A [(av, .inr (0, [.null, .int 0, .int 0, .int 0]))] s.heap.size = A at hD hZ ⊢
  have hA : ∀ q : Nat, s.heap.size ≤ q → A q := fun q h => by rw [← hAe]; exact Or.inr h
  have hS : va_S A s.heap s.heap [] := va_S.rf
  have hl := lv_entry ([.ref av, .int (16 : Int32)]) (n := 2) (Nat.le_of_ble_eq_true rfl)
  rw [lg_entry_eq]
  generalize (lg_sl ([.ref av, .int (16 : Int32)]) ++ List.replicate (2 - (lg_sl ([.ref av, .int (16 : Int32)])).length) Slot.unset).toArray = ls at hl ⊢
  have hl : lv_has ls 2 [(0, .ref av), (1, .int (16 : Int32))] := hl
  obtain ⟨Q, hQ⟩ : ∃ Q : State → Prop, Q = MQ below (va_Qv (fun (_u : Nat) => True) (fun (u : Nat) tt => va_P E.1 vwCl (wSB E av u 16 0 0 (fun _ => 0)) tt.heap ∧ va_D A (wSB E av u 16 0 0 (fun _ => 0))) A) #[Value.ref av, Value.int (16 : Int32)] s 1 16 A := ⟨_, rfl⟩
  rw [← hQ]
  change W p l e ({ frames := 1, cells := 1, slots := 16, locals := 20 } : Room) s m #[Value.ref av, Value.int (16 : Int32)] below meth c s.heap [] 0 0 Q (F0 m 0 ls [])
  suffices hh9 : ∀ (H : Heap) (locs : List Loc), va_P E.1 vwCl [(av, .inr (0, [.null, .int 0, .int 0, .int 0]))] H → va_D A [(av, .inr (0, [.null, .int 0, .int 0, .int 0]))] → va_S A s.heap H locs → W p l e ({ frames := 1, cells := 1, slots := 16, locals := 20 } : Room) s m #[Value.ref av, Value.int (16 : Int32)] below meth c H locs 0 0 Q (F0 m 0 ls []) from hh9 s.heap [] hP hD hS
  clear hP hD hS
  intro H locs hP hD hS
  have h9 := fixPD (ws' := [(av, .inr (0, [.null, .int (0 : Int32), .int (0 : Int32), .int (0 : Int32)]))]) hP hD rfl
  clear hP hD
  obtain ⟨hP, hD⟩ := h9
  refine lv_aload_n hx hb (dq_42 0 bcJ5_init_d00df_0 (j := 0) rfl rfl) rfl (lv_at hl 0 rfl) ?_
  refine W.objInit hx hb hown (hts (.methodLink RJ5 3 objectInit) (List.mem_of_getElem? (i := 1) rfl)) (hts (.instanceMethod objectInit) (List.mem_of_getElem? (i := 2) rfl)) (hts (.code objectInit ⟨#[0xb1]⟩ 1 none) (List.mem_of_getElem? (i := 3) rfl)) rfl (by rw [hml]; exact hl.1) rfl (dq_183 0 bcJ5_init_d00df_0 (j := 1) (i := 3) rfl rfl rfl) (Nat.le_of_ble_eq_true rfl) (Nat.le_of_ble_eq_true rfl) ?_
  refine W.eq (g2 := F0 m 4 ls []) rfl ?_
  refine va_gets hx hb hZ.2.2.1.1 hS hown (hts (.fieldLink RJ5 18 "java/lang/String" "COMPACT_STRINGS" "Z") (List.mem_of_getElem? (i := 4) rfl)) (fun _ h9 => h9) (dq_178 0 bcJ5_init_d00df_0 (j := 4) (i := 18) rfl rfl rfl) ?_
  refine lv_if_eq (tgt := 25) hx hb (dq_153 0 bcJ5_init_d00df_0 (j := 7) (i := 18) rfl rfl rfl) (by decide) (fun q => absurd q (by decide)) (fun _ => ?_)
  refine lv_aload_n hx hb (dq_42 0 bcJ5_init_d00df_0 (j := 10) rfl rfl) rfl (lv_at hl 0 rfl) ?_
  refine lv_iload_n hx hb (dq_27 0 bcJ5_init_d00df_0 (j := 11) rfl rfl) rfl (lv_at hl 1 rfl) ?_
  refine nw_arr (atype := .byte) (ty := .byte) (a0 := (16, .inl (fun _ => 0))) hx hb (hts (.arrayClass .byte) (List.mem_of_getElem? (i := 5) rfl)) rfl hK hP hD hS hA 1 rfl (fun _ _ a b => Option.some.inj (a.symm.trans b)) (fun _ => rfl) (by decide) rfl (Nat.le_of_ble_eq_true rfl) (Nat.le_of_ble_eq_true rfl) (Nat.le_of_ble_eq_true rfl) dJ5_init_d00df_12 (fun q_1 H hP hD hS => ?_)
  have h9 := fixPD (ws' := [(av, .inr (0, [.null, .int (0 : Int32), .int (0 : Int32), .int (0 : Int32)])), k_B E q_1 16 (fun _ => 0)]) hP hD rfl
  clear hP hD
  obtain ⟨hP, hD⟩ := h9
  refine W.widen (k := 1) (n := 16) (Nat.le_of_ble_eq_true rfl) (Nat.le_of_ble_eq_true rfl) ?_
  refine va_put (D := E.1) (ci := 0) (v := .ref q_1) (ty := .array .byte) (C := RJ4) (T := TJ4) (N := 4) hx hb hts i_h_init5_J4 tyJ4 tyJ4_ok nmJ4 hown hK hP hD hS 0 rfl rfl 0 (by decide) (hts (.fieldLink RJ5 15 "java/lang/AbstractStringBuilder" "value" "[B") (List.mem_of_getElem? (i := 6) rfl)) (fun _ h9 => h9) rfl (by decide +kernel) rfl rfl (Nat.le_of_ble_eq_true rfl) (dq_181 0 bcJ5_init_d00df_0 (j := 14) (i := 15) rfl rfl rfl) (fun H locs hP hD hS => ?_)
  have h9 := fixPD (ws' := [k_J4 av q_1 (0 : Int32) (0 : Int32) (0 : Int32), k_B E q_1 16 (fun _ => 0)]) hP hD rfl
  clear hP hD
  obtain ⟨hP, hD⟩ := h9
  refine lv_aload_n hx hb (dq_42 0 bcJ5_init_d00df_0 (j := 17) rfl rfl) rfl (lv_at hl 0 rfl) ?_
  refine lv_iconst (v := 0) hx hb (dq_3 0 bcJ5_init_d00df_0 (j := 18) rfl rfl) (by decide) ?_
  refine va_put (D := E.1) (ci := 0) (v := .int (0 : Int32)) (ty := .byte) (C := RJ4) (T := TJ4) (N := 4) hx hb hts i_h_init5_J4 tyJ4 tyJ4_ok nmJ4 hown hK hP hD hS 0 rfl rfl 1 (by decide) (hts (.fieldLink RJ5 22 "java/lang/AbstractStringBuilder" "coder" "B") (List.mem_of_getElem? (i := 7) rfl)) (fun _ h9 => h9) rfl (by decide +kernel) rfl rfl (Nat.le_of_ble_eq_true rfl) (dq_181 0 bcJ5_init_d00df_0 (j := 19) (i := 22) rfl rfl rfl) (fun H locs hP hD hS => ?_)
  have h9 := fixPD (ws' := [k_J4 av q_1 (0 : Int32) (0 : Int32) (0 : Int32), k_B E q_1 16 (fun _ => 0)]) hP hD rfl
  clear hP hD
  obtain ⟨hP, hD⟩ := h9
  refine lv_goto (tgt := 38) hx hb (dq_167 0 bcJ5_init_d00df_0 (j := 22) (i := 16) rfl rfl rfl) (by decide) ?_
  have hP9 := hP.sub (ws' := [k_J4 av q_1 (0 : Int32) 0 0, k_B E q_1 16 (fun _ => 0)]) [0, 1] rfl
  have hD9 := hD.sub (ws' := [k_J4 av q_1 (0 : Int32) 0 0, k_B E q_1 16 (fun _ => 0)]) [0, 1] (by decide) rfl
  rw [hQ]
  exact W.vret hx hb hr (fun tt ht hW => ⟨⟨q_1, rfl, trivial, by rw [ht]; exact hP9, hD9⟩, hS.F ht⟩) hS.2.2 (dq_177 0 bcJ5_init_d00df_0 (j := 38) rfl rfl)

def v_h_init4 : List Cond := List.cons (.code yJ4_init_da8c8 cJ4_init_da8c8 1 none) (HAppend.hAppend (α := List Cond) (β := List Cond) (γ := List Cond) [.initialized RJ5, .methodLink RJ4 1 yJ5_init_d00df, .instanceMethod yJ5_init_d00df] (HAppend.hAppend (α := List Cond) (β := List Cond) (γ := List Cond) v_h_init5 []))
theorem gw_h_init4 : v_h_init4.all goodWord = true := gw_c2 (by decide +kernel) (gw_ap gw_h_init5 gw_nil)
theorem g_h_init4_h_init5_1 : GoodIn v_h_init4 v_h_init5 := goodIn_sub (fun _ h => List.mem_cons_of_mem _ (List.mem_append_right _ (List.mem_append_left _ h))) gw_h_init5
set_option maxHeartbeats 4000000 in
set_option maxRecDepth 100000 in
theorem h_init4 (l : Launch) (E : EE) (sz : Nat) (z9 : Nat → Nat) {av : Nat}  : Met l yJ4_init_da8c8 v_h_init4 (({ frames := 2, cells := 1, slots := 16, locals := 41 } : Room)) (va_Pc [.ref av] (qWZ E z9 sz [(av, .inr (0, [.null, .int 0, .int 0, .int 0]))])) (va_Qv (fun (_u : Nat) => True) (fun (u : Nat) tt => va_P E.1 vwCl (wSB E av u 16 0 0 (fun _ => 0)) tt.heap ∧ va_D (va_A [(av, .inr (0, [.null, .int 0, .int 0, .int 0]))] sz) (wSB E av u 16 0 0 (fun _ => 0))) (va_A [(av, .inr (0, [.null, .int 0, .int 0, .int 0]))] sz)) 1 16 (va_A [(av, .inr (0, [.null, .int 0, .int 0, .int 0]))] sz) := by
  refine Met.ofWF (cc := cJ4_init_da8c8) (maxL := 1) (ret := none) (by decide +kernel) rfl ?_
  intro p e s m args below meth c s₁ B hml hv
  obtain ⟨rfl, hsz, ⟨hK, hN⟩, hP, hD0, hZ⟩ := hv
  have hx := B.exec
  have hb := B.bytes
  have hr := B.returns
  have hts := atoms_spec (ws := v_h_init4) B.pre
  have hown : s.vm.findClass RJ4 = some m.cls := own_of (by decide +kernel) (findClass_of_methodNamed B.named)
  have hlocks : meth.locks = false := B.notSynchronized
  have hin : meth.name = "<init>" := (name_of_methodNamed B.named B.method).1
  subst hsz
  have hD := hD0.self (sz := s.heap.size)
  generalize hAe : va_A [(av, .inr (0, [.null, .int 0, .int 0, .int 0]))] s.heap.size = A at hD hZ ⊢
  have hA : ∀ q : Nat, s.heap.size ≤ q → A q := fun q h => by rw [← hAe]; exact Or.inr h
  have hS : va_S A s.heap s.heap [] := va_S.rf
  have hl := lv_entry ([.ref av]) (n := 1) (Nat.le_of_ble_eq_true rfl)
  rw [lg_entry_eq]
  generalize (lg_sl ([.ref av]) ++ List.replicate (1 - (lg_sl ([.ref av])).length) Slot.unset).toArray = ls at hl ⊢
  have hl : lv_has ls 1 [(0, .ref av)] := hl
  obtain ⟨Q, hQ⟩ : ∃ Q : State → Prop, Q = MQ below (va_Qv (fun (_u : Nat) => True) (fun (u : Nat) tt => va_P E.1 vwCl (wSB E av u 16 0 0 (fun _ => 0)) tt.heap ∧ va_D A (wSB E av u 16 0 0 (fun _ => 0))) A) #[Value.ref av] s 1 16 A := ⟨_, rfl⟩
  rw [← hQ]
  change W p l e ({ frames := 2, cells := 1, slots := 16, locals := 41 } : Room) s m #[Value.ref av] below meth c s.heap [] 0 0 Q (F0 m 0 ls [])
  suffices hh9 : ∀ (H : Heap) (locs : List Loc), va_P E.1 vwCl [(av, .inr (0, [.null, .int 0, .int 0, .int 0]))] H → va_D A [(av, .inr (0, [.null, .int 0, .int 0, .int 0]))] → va_S A s.heap H locs → W p l e ({ frames := 2, cells := 1, slots := 16, locals := 41 } : Room) s m #[Value.ref av] below meth c H locs 0 0 Q (F0 m 0 ls []) from hh9 s.heap [] hP hD hS
  clear hP hD hS
  intro H locs hP hD hS
  have h9 := fixPD (ws' := [(av, .inr (0, [.null, .int (0 : Int32), .int (0 : Int32), .int (0 : Int32)]))]) hP hD rfl
  clear hP hD
  obtain ⟨hP, hD⟩ := h9
  refine lv_aload_n hx hb (dq_42 0 bcJ4_init_da8c8_0 (j := 0) rfl rfl) rfl (lv_at hl 0 rfl) ?_
  refine lv_bipush (v := 16) hx hb (dq_16 0 bcJ4_init_da8c8_0 (j := 1) (i := 16) rfl rfl rfl) (by decide) ?_
  obtain ⟨hPc, hDc, hFc⟩ := wcut (wc := [(av, .inr (0, [.null, .int 0, .int 0, .int 0]))]) hP hD hS hA [0] (by decide) rfl
  refine va_callv (va_runI (As := [.int (16 : Int32)]) (rest := []) ⟨hx, hb, hml, hown, hts⟩ (h_init5 l E H.size z9 (av := av)) (cwI 1 hts g_h_init4_h_init5_1 rfl rfl rfl (hts (.initialized RJ5) (List.mem_of_getElem? (i := 1) rfl)) (hts (.methodLink RJ4 1 yJ5_init_d00df) (List.mem_of_getElem? (i := 2) rfl)) (hts (.instanceMethod yJ5_init_d00df) (List.mem_of_getElem? (i := 3) rfl)) rfl (by decide +kernel) ⟨Nat.le_of_ble_eq_true rfl, Nat.le_of_ble_eq_true rfl⟩) ⟨qWZ.blind, (qWZ.pre ⟨hK, hN⟩ hPc hDc hZ hS hFc)⟩ rfl rfl hl.1 rfl (lv_room (Nat.le_of_ble_eq_true rfl)) (dq_183 0 bcJ4_init_da8c8_0 (j := 3) (i := 1) rfl rfl rfl) ⟨Nat.le_of_ble_eq_true rfl, Nat.le_of_ble_eq_true rfl⟩) hS (fun q _ h => hFc q h) hFc (fun u9  tt H1 locs ht hvm hw hB hz1 hk1 hS => ?_)
  obtain ⟨hP1, hD1⟩ := hB
  rw [ht] at hP1
  obtain ⟨hP, hD⟩ := va_join (wr := []) (w1 := [k_J4 av u9 (0 : Int32) 0 0, k_B E u9 16 (fun _ => 0)]) hP hD [0] [] rfl rfl (by decide) (by decide) hk1 hFc hP1 hD1
  generalize H1 = H at hP hS ⊢
  have h9 := fixPD (ws' := [k_J4 av u9 (0 : Int32) 0 0, k_B E u9 16 (fun _ => 0)]) hP hD rfl
  clear hP hD
  obtain ⟨hP, hD⟩ := h9
  refine W.widen (k := 1) (n := 16) (Nat.le_of_ble_eq_true rfl) (Nat.le_of_ble_eq_true rfl) ?_
  have hP9 := hP.sub (ws' := [k_J4 av u9 (0 : Int32) 0 0, k_B E u9 16 (fun _ => 0)]) [0, 1] rfl
  have hD9 := hD.sub (ws' := [k_J4 av u9 (0 : Int32) 0 0, k_B E u9 16 (fun _ => 0)]) [0, 1] (by decide) rfl
  rw [hQ]
  exact W.vret hx hb hr (fun tt ht hW => ⟨⟨u9, rfl, trivial, by rw [ht]; exact hP9, hD9⟩, hS.F ht⟩) hS.2.2 (dq_177 0 bcJ4_init_da8c8_0 (j := 6) rfl rfl)
end
