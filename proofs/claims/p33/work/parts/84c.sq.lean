-- 84c.sq
section

/-! what StringBuilder's functions answer, as far as spell needs it -/
theorem ss_J {K b : Nat} {x0 : Int32} (hK : 200000 ≤ K) (hb : b ≤ 1) : Tt (J_J6_stringSize_0f7a4_11 K (nI b) x0) (fun r => ∃ s, 1 ≤ s ∧ s ≤ 11 ∧ r = nI s) := by
  unfold J_J6_stringSize_0f7a4_11
  refine tt_bd2 (P := fun x : Nat × Int32 => x.1 < 2 ∧ ∃ a, 1 ≤ a ∧ a ≤ 10 ∧ x.2 = nI a) (tt_for (fun j u => u.2 = nI (j + 1)) 9 (by omega) rfl (fun j u hj hu => ?_)) (fun t x3 hx => ?_)
  · unfold B_J6_stringSize_0f7a4_16
    rw [hu]
    refine tt_ite (fun _ => tt_some (nx_r ⟨Nat.lt_succ_self 1, j + 1, by omega, by omega, rfl⟩)) (fun q => tt_ite (fun _ => tt_some (nx_l ?_ (nI_1 _))) (fun _ => tt_some (nx_r ⟨Nat.zero_lt_succ 1, j + 1, by omega, by omega, rfl⟩)))
    have := mt (nI_leI (a := 10) (b := j + 1) (by omega) (by omega)).mpr q
    omega
  · obtain ⟨ht, a, h1, h2, h3⟩ := hx
    have h3 : x3 = nI a := h3
    have ht : t < 2 := ht
    refine tt_ite (fun _ => tt_some ⟨a + b, by omega, by omega, by rw [h3, nI_add]⟩) (fun q => tt_ite (fun _ => tt_some ⟨10 + b, by omega, by omega, nI_add 10 b⟩) (fun q2 => ?_))
    omega
theorem ss_tot {K : Nat} {i : Int32} (hK : 200000 ≤ K) : Tt (F_J6_stringSize_0f7a4 K i) (fun r => ∃ s, 1 ≤ s ∧ s ≤ 11 ∧ r = nI s) := by
  unfold F_J6_stringSize_0f7a4
  exact tt_ite (fun _ => ss_J (b := 1) hK (by decide)) (fun _ => ss_J (b := 0) hK (by decide))
theorem ss_d1 : ∀ i, i < 8 → ¬ nI i < 0 := by decide +kernel
theorem ss_d2 : ∀ i, i < 8 → ¬ -(nI i) ≤ -10 := by decide +kernel
theorem ss_dig {K i : Nat} (hK : 200000 ≤ K) (hi : i < 8) : F_J6_stringSize_0f7a4 K (nI i) = some (nI 1) := by
  have e : lpF (fun u9 : Int32 × Int32 => B_J6_stringSize_0f7a4_16 (-(nI i)) u9.1 u9.2) K ((-10 : Int32), (1 : Int32)) = some (0, 1) := by
    obtain ⟨K', rfl⟩ : ∃ K', K = K' + 1 := ⟨K - 1, by omega⟩
    refine lp_end ?_
    show B_J6_stringSize_0f7a4_16 (-(nI i)) (-10) 1 = some (Sum.inr (0, 1))
    unfold B_J6_stringSize_0f7a4_16
    rw [if_neg (by decide), if_neg (ss_d2 i hi)]
  unfold F_J6_stringSize_0f7a4 J_J6_stringSize_0f7a4_11
  rw [if_neg (ss_d1 i hi), e, xb2, if_pos rfl]
  rfl
theorem dec1 {y : Nat} (h : 1 ≤ y) : nI y + (-1 : Int32) = nI (y - 1) := by
  obtain ⟨x, rfl⟩ : ∃ x, y = x + 1 := ⟨y - 1, by omega⟩
  rw [← nI_1, Int32.add_assoc, show (1 : Int32) + -1 = 0 by decide, Int32.add_zero]
  rfl
def gcT (m9 : Nat) (k0 x0 x5 : Int32) (c : Nat → Int32) : Option (Int32 × (Nat → Int32)) :=
  ixF (-x0) 100 (ixF (x5 + (-1 : Int32)) m9 (nmF (upd c (x5 + (-1 : Int32)).toNatClampNeg (vp_nar .byte (onesF (-x0).toNatClampNeg))) (fun f_16 => if (-9 : Int32) ≤ x0 then if k0 = (0 : Int32) then some (x5 + (-1 : Int32), f_16) else ixF ((x5 + (-1 : Int32)) + (-1 : Int32)) m9 (nmF (upd f_16 ((x5 + (-1 : Int32)) + (-1 : Int32)).toNatClampNeg (vp_nar .byte (45 : Int32))) (fun f_20 => some ((x5 + (-1 : Int32)) + (-1 : Int32), f_20))) else ixF (-x0) 100 (ixF ((x5 + (-1 : Int32)) + (-1 : Int32)) m9 (nmF (upd f_16 ((x5 + (-1 : Int32)) + (-1 : Int32)).toNatClampNeg (vp_nar .byte (tensF (-x0).toNatClampNeg))) (fun f_23 => if k0 = (0 : Int32) then some ((x5 + (-1 : Int32)) + (-1 : Int32), f_23) else ixF (((x5 + (-1 : Int32)) + (-1 : Int32)) + (-1 : Int32)) m9 (nmF (upd f_23 (((x5 + (-1 : Int32)) + (-1 : Int32)) + (-1 : Int32)).toNatClampNeg (vp_nar .byte (45 : Int32))) (fun f_26 => some (((x5 + (-1 : Int32)) + (-1 : Int32)) + (-1 : Int32), f_26))))))))) 
theorem gc_tail {mz d y : Nat} {k0 x0 x5 : Int32} {c : Nat → Int32} (hm : mz ≤ 34) (hf : sb_Fit c) (h0 : -x0 = nI d) (hd : d < 100) (h5 : x5 = nI y) (hy2 : y ≤ mz) (hy : 3 ≤ y ∨ (1 ≤ y ∧ k0 = 0 ∧ (-9 : Int32) ≤ x0)) : Tt (gcT mz k0 x0 x5 c) (fun x => sb_Fit x.2) := by
  unfold gcT
  have h1 : 1 ≤ y := by omega
  rw [h0, h5, dec1 h1]
  refine tt_ixn hd (by decide) (tt_ixn (by omega) (by omega) (tt_nm ?_))
  have f1 := sb_fitU (k := (nI (y - 1)).toNatClampNeg) hf (fit_nar (onesF (nI d).toNatClampNeg))
  refine tt_ite (fun q => tt_ite (fun _ => tt_some f1) (fun k => ?_)) (fun q => ?_)
  · have y3 : 3 ≤ y := by
      rcases hy with h | h
      · exact h
      · exact absurd h.2.1 k
    rw [dec1 (show 1 ≤ y - 1 by omega)]
    exact tt_ixn (by omega) (by omega) (tt_nm (tt_some (sb_fitU f1 (fit_nar _))))
  · have y3 : 3 ≤ y := by
      rcases hy with h | h
      · exact h
      · exact absurd h.2.2 q
    rw [dec1 (show 1 ≤ y - 1 by omega), dec1 (show 1 ≤ y - 1 - 1 by omega)]
    refine tt_ixn hd (by decide) (tt_ixn (by omega) (by omega) (tt_nm (tt_ite (fun _ => tt_some (sb_fitU f1 (fit_nar _))) (fun _ => tt_ixn (by omega) (by omega) (tt_nm (tt_some (sb_fitU (sb_fitU f1 (fit_nar _)) (fit_nar _))))))))
theorem gc_div {x : Int32} (h : x.toInt ≤ 0) : ∃ d, d < 100 ∧ x / 100 * 100 - x = nI d ∧ (x / 100).toInt ≤ 0 ∧ x.toInt = 100 * (x / 100).toInt - (d : Int) := by
  have lo := Int32.le_toInt x
  have h100 : (100 : Int32).toInt = 100 := by decide
  have hq : (x / 100).toInt = -((-x.toInt) / 100) := by
    rw [Int32.toInt_div, h100]
    rw [show x.toInt.tdiv 100 = -((-x.toInt) / 100) by
      rw [← Int.tdiv_eq_ediv_of_nonneg (show 0 ≤ -x.toInt by omega), Int.neg_tdiv, Int.neg_neg]]
    rw [Int.bmod_eq_of_le (by omega) (by omega)]
  have hr : (x / 100 * 100 - x).toInt = -((-x.toInt) / 100) * 100 - x.toInt := by
    rw [Int32.toInt_sub, Int32.toInt_mul, hq, h100, Int.bmod_eq_of_le (n := -((-x.toInt) / 100) * 100) (by omega) (by omega), Int.bmod_eq_of_le (by omega) (by omega)]
  refine ⟨(-((-x.toInt) / 100) * 100 - x.toInt).toNat, by omega, ?_, by omega, by omega⟩
  apply Int32.toInt_inj.mp
  rw [hr, nI_toInt (by omega)]
  omega
def gB : Nat → Int
  | 0 => 2147483648
  | 1 => 21474836
  | 2 => 214748
  | 3 => 2147
  | _ => 21
theorem gB_step : ∀ t, t < 4 → ∀ a b : Int, a ≤ gB t → 100 * b ≤ a → b ≤ gB (t + 1) := by
  intro t ht a b h1 h2
  match t, ht with
  | 0, _ => have h1 : a ≤ 2147483648 := h1; show b ≤ 21474836; omega
  | 1, _ => have h1 : a ≤ 21474836 := h1; show b ≤ 214748; omega
  | 2, _ => have h1 : a ≤ 214748 := h1; show b ≤ 2147; omega
  | 3, _ => have h1 : a ≤ 2147 := h1; show b ≤ 21; omega
  | t + 4, h => omega
theorem m100 : (-100 : Int32).toInt = -100 := by decide
theorem gc_loop {K mz y : Nat} {x : Int32} {c : Nat → Int32} (hK : 200000 ≤ K) (hm : mz ≤ 34) (hf : sb_Fit c) (hy : 11 ≤ y) (hy2 : y ≤ mz) (hx : x.toInt ≤ 0) : Tt (lpF (fun u9 : Int32 × Int32 × (Nat → Int32) => B_J6_getChars_ba4f3_22 mz u9.1 u9.2.1 u9.2.2) K (x, nI y, c)) (fun r => (∃ d, d < 100 ∧ -r.1 = nI d) ∧ (∃ a, 3 ≤ a ∧ a ≤ mz ∧ r.2.1 = nI a) ∧ sb_Fit r.2.2) := by
  refine tt_for (fun t u => u.1.toInt ≤ 0 ∧ -u.1.toInt ≤ gB t ∧ u.2.1 = nI (y - 2 * t) ∧ sb_Fit u.2.2) 4 (by omega) ⟨hx, ?_, rfl, hf⟩ (fun t u ht hu => ?_)
  · have := Int32.le_toInt x
    show -x.toInt ≤ 2147483648
    omega
  obtain ⟨h1, h2, h3, h4⟩ := hu
  unfold B_J6_getChars_ba4f3_22
  refine tt_ite (fun q => tt_some (nx_r ⟨?_, ⟨y - 2 * t, by omega, by omega, h3⟩, h4⟩)) (fun q => ?_)
  · have q1 := Int32.lt_iff_toInt_lt.mp q
    rw [m100] at q1
    refine ⟨(-u.1.toInt).toNat, by omega, ?_⟩
    show -u.1 = nI (-u.1.toInt).toNat
    apply Int32.toInt_inj.mp
    rw [Int32.toInt_neg, Int.bmod_eq_of_le (by omega) (by omega), nI_toInt (by omega)]
    omega
  · have q1 := mt Int32.lt_iff_toInt_lt.mpr q
    rw [m100] at q1
    obtain ⟨d, hd, e1, e2, e3⟩ := gc_div h1
    have t4 : t < 4 := by
      rcases Nat.lt_or_ge t 4 with z | z
      · exact z
      · have t5 : t = 4 := by omega
        rw [t5] at h2
        have h2 : -u.1.toInt ≤ 21 := h2
        omega
    have hb := gB_step t t4 (-u.1.toInt) (-(u.1 / 100).toInt) h2 (by omega)
    rw [e1, h3, dec1 (show 1 ≤ y - 2 * t by omega), dec1 (show 1 ≤ y - 2 * t - 1 by omega)]
    exact tt_ixn hd (by decide) (tt_ixn (by omega) (by omega) (tt_nm (tt_ixn hd (by decide) (tt_ixn (by omega) (by omega) (tt_nm (tt_some (nx_l t4 ⟨e2, hb, by rw [show y - 2 * t - 1 - 1 = y - 2 * (t + 1) by omega], sb_fitU (sb_fitU h4 (fit_nar _)) (fit_nar _)⟩)))))))
theorem gc_tot {K mz y : Nat} {i : Int32} {c : Nat → Int32} (hK : 200000 ≤ K) (hm : mz ≤ 34) (hf : sb_Fit c) (hy : 11 ≤ y) (hy2 : y ≤ mz) : Tt (F_J6_getChars_ba4f3 K i (nI y) c mz) (fun x => sb_Fit x.2) := by
  have z : (0 : Int32).toInt = 0 := rfl
  unfold F_J6_getChars_ba4f3 J_J6_getChars_ba4f3_12
  refine tt_ite (fun q => ?_) (fun q => ?_)
  · rw [if_pos rfl]
    have q0 := Int32.le_iff_toInt_le.mp q
    have lo := Int32.toInt_lt i
    refine tt_bd3 (gc_loop hK hm hf hy hy2 ?_) (fun x0 x5 c2 hr => ?_)
    · rw [Int32.toInt_neg, Int.bmod_eq_of_le (by omega) (by omega)]
      omega
    · obtain ⟨⟨d, hd, e0⟩, ⟨a, a1, a2, e5⟩, hf2⟩ := hr
      exact gc_tail hm hf2 e0 hd e5 a2 (Or.inl a1)
  · rw [if_neg (by decide)]
    have q0 := mt Int32.le_iff_toInt_le.mpr q
    refine tt_bd3 (gc_loop hK hm hf hy hy2 (by omega)) (fun x0 x5 c2 hr => ?_)
    obtain ⟨⟨d, hd, e0⟩, ⟨a, a1, a2, e5⟩, hf2⟩ := hr
    exact gc_tail hm hf2 e0 hd e5 a2 (Or.inl a1)
theorem gc_d1 : ∀ i, i < 8 → (0 : Int32) ≤ nI i := by decide +kernel
theorem gc_d2 : ∀ i, i < 8 → (-100 : Int32) < -(nI i) := by decide +kernel
theorem gc_d3 : ∀ i, i < 8 → (-9 : Int32) ≤ -(nI i) := by decide +kernel
theorem gc_d4 : ∀ i, i < 8 → -(-(nI i)) = nI i := by decide +kernel
theorem gc_dig {K mz y i : Nat} {c : Nat → Int32} (hK : 200000 ≤ K) (hi : i < 8) (hm : mz ≤ 34) (hf : sb_Fit c) (hy : 1 ≤ y) (hy2 : y ≤ mz) : Tt (F_J6_getChars_ba4f3 K (nI i) (nI y) c mz) (fun x => sb_Fit x.2) := by
  have e : lpF (fun u9 : Int32 × Int32 × (Nat → Int32) => B_J6_getChars_ba4f3_22 mz u9.1 u9.2.1 u9.2.2) K (-(nI i), nI y, c) = some (-(nI i), nI y, c) := by
    obtain ⟨K', rfl⟩ : ∃ K', K = K' + 1 := ⟨K - 1, by omega⟩
    refine lp_end ?_
    show B_J6_getChars_ba4f3_22 mz (-(nI i)) (nI y) c = some (Sum.inr (-(nI i), nI y, c))
    unfold B_J6_getChars_ba4f3_22
    rw [if_pos (gc_d2 i hi)]
  unfold F_J6_getChars_ba4f3 J_J6_getChars_ba4f3_12
  rw [if_pos (gc_d1 i hi), if_pos rfl, e, xb3]
  exact gc_tail hm hf (gc_d4 i hi) (show i < 100 by omega) rfl hy2 (Or.inr ⟨hy, rfl, gc_d3 i hi⟩)
theorem nc_ok : ∀ k, k < 35 → 16 < k → F_J5_newCapacity_0f7a4 (nI k) 0 16 = some 34 := by decide +kernel
theorem gb_ok {p w k mz : Nat} {c : Nat → Int32} (hp : (p = 12 ∧ w = 5) ∨ (p = 13 ∧ w = 4)) (hk : k + w ≤ mz) (hm : mz ≤ 34) : F_J0_getBytes_840e7 p (nI k) 0 c mz = some (va_cpy (fun j => (strB.getD p []).getD j 0) c 0 k w) := by
  have p15 : p < 15 := by omega
  have el : strL.getD p 0 = w := by rcases hp with ⟨rfl, rfl⟩ | ⟨rfl, rfl⟩ <;> rfl
  have hw : w ≤ 5 := by omega
  unfold F_J0_getBytes_840e7 F_J0_coder_7d493
  rw [xlt p15, xlt p15, xb1, if_pos rfl, xlt p15, xlt p15, xlt p15, xlt p15, sb_shl0, el]
  unfold cpF
  have c1 : (nI k).toNatClampNeg = k := nI_clamp (by omega)
  have c2 : (Int32.ofNat w).toNatClampNeg = w := nI_clamp (by omega)
  rw [c1, c2]
  rw [if_pos ⟨by decide, nI_pos (by omega), nI_pos (by omega), by rw [show (0 : Int32).toNatClampNeg = 0 from rfl]; omega, hk⟩]
  rfl
theorem ps_ok {p w k mz : Nat} {c : Nat → Int32} (hp : (p = 12 ∧ w = 5) ∨ (p = 13 ∧ w = 4)) (hk : k + w ≤ mz) (hm : mz ≤ 34) (hf : sb_Fit c) : ∃ c', F_J5_putStringAt_47b60 (nI k) p c 0 mz = some c' ∧ sb_Fit c' := by
  have p15 : p < 15 := by omega
  refine ⟨va_cpy (fun j => (strB.getD p []).getD j 0) c 0 k w, ?_, sb_fitC (fun j => strB_fit p j) hf⟩
  unfold F_J5_putStringAt_47b60 F_J5_inflateIfNeededFor_a7421 F_J0_coder_7d493
  rw [xlt p15, xlt p15, xb1, if_pos rfl, xb1, xlt p15, gb_ok hp hk hm, xb1]
theorem ln_ok {p w : Nat} (hp : (p = 12 ∧ w = 5) ∨ (p = 13 ∧ w = 4)) : F_J0_length_8abf5 p = some (nI w) := by
  have p15 : p < 15 := by omega
  have el : strL.getD p 0 = w := by rcases hp with ⟨rfl, rfl⟩ | ⟨rfl, rfl⟩ <;> rfl
  unfold F_J0_length_8abf5 F_J0_coder_7d493
  rw [xlt p15, xlt p15, xlt p15, xlt p15, xb1, sb_shr0, el]
  rfl
theorem ca_ok {n mz i : Nat} {c : Nat → Int32} (hi : i < n) (hn : n ≤ mz) (hm : mz ≤ 34) : Tt (F_J5_charAt_5068e (nI i) c 0 (nI n) mz) (fun _ => True) := by
  unfold F_J5_charAt_5068e F_J0_checkIndex_df160 F_J3_checkIndex_8e157null
  have e : minF (nI n) (Int32.ofNat mz >>> ((0 : Int32) &&& (31 : Int32))) = nI n := by
    rw [sb_shr0]
    unfold minF
    exact if_neg (nI_nlt hn (by omega))
  rw [e, if_neg (nI_pos (by omega)), if_pos (nI_lt hi (by omega)), xb1, xb1, if_pos rfl]
  exact tt_ixn (by omega) (by omega) (tt_some trivial)
end
-- 84c0.l4
section
noncomputable def blJ4_length_8abf5_0 : List Nat := [42, 183, 1, 87, 172]
set_option maxRecDepth 100000 in
theorem bcJ4_length_8abf5_0 : ((cJ4_length_8abf5.data.toList.drop 0).take blJ4_length_8abf5_0.length).map UInt8.toNat = blJ4_length_8abf5_0 := by decide +kernel
noncomputable def blJ4_charAt_5068e_0 : List Nat := [42, 27, 183, 1, 73, 172]
set_option maxRecDepth 100000 in
theorem bcJ4_charAt_5068e_0 : ((cJ4_charAt_5068e.data.toList.drop 0).take blJ4_charAt_5068e_0.length).map UInt8.toNat = blJ4_charAt_5068e_0 := by decide +kernel

def F_J4_length_8abf5 (c_count : Int32) : Option (Int32) :=
  bd1 (F_J5_length_8abf5 c_count) (fun r_1 => some r_1)
abbrev w_J4_length_8abf5 (E : EE) (a_ a_value : Nat) (c_coder : Int32) (c_maybeLatin1 : Int32) (c_count : Int32) : va_W := [k_J4 a_ a_value c_coder c_maybeLatin1 c_count]
def v_f_J4_length_8abf5 : List Cond := List.cons (.code yJ4_length_8abf5 cJ4_length_8abf5 1 (some .int)) (HAppend.hAppend (α := List Cond) (β := List Cond) (γ := List Cond) [.methodLink RJ4 343 yJ5_length_8abf5, .sameMethod RJ5 RJ5 "length" "()I", .superclass RJ4 RJ5, .instanceMethod yJ5_length_8abf5, .initialized RJ5] (HAppend.hAppend (α := List Cond) (β := List Cond) (γ := List Cond) v_f_J5_length_8abf5 []))
theorem gw_f_J4_length_8abf5 : v_f_J4_length_8abf5.all goodWord = true := gw_c2 (by decide +kernel) (gw_ap gw_f_J5_length_8abf5 gw_nil)
theorem g_f_J4_length_8abf5_f_J5_length_8abf5_343 : GoodIn v_f_J4_length_8abf5 (va_wsSU RJ4 343 yJ5_length_8abf5 v_f_J5_length_8abf5) := goodIn_in gw_f_J4_length_8abf5 (in5 1 2 3 4 5 rfl rfl rfl rfl rfl (fun _ h => List.mem_cons_of_mem _ (List.mem_append_right _ (List.mem_append_left _ h))))
theorem hd_J4_length_8abf5 : yJ4_length_8abf5.cls = RJ4 ∧ yJ4_length_8abf5.cls ≠ "java/lang/invoke/MethodHandle" ∧ yJ4_length_8abf5.cls ≠ "java/lang/invoke/VarHandle" ∧ (parseMethodDescriptor yJ4_length_8abf5.desc).map (fun d => d.parameters.length) = some 0 := by decide +kernel
set_option maxHeartbeats 4000000 in
set_option maxRecDepth 100000 in
theorem f_J4_length_8abf5 (l : Launch) (E : EE) {a_ a_value : Nat} {c_coder : Int32} {c_maybeLatin1 : Int32} {c_count : Int32} {rr : Int32} (hF : F_J4_length_8abf5 c_count = some rr) : Met l yJ4_length_8abf5 v_f_J4_length_8abf5 (({ frames := 1, cells := 0, slots := 0, locals := 20 } : Room)) (va_Pc [.ref a_] (pP E (w_J4_length_8abf5 E a_ a_value c_coder c_maybeLatin1 c_count))) (vp_Si (fun q : Int32 => q = rr)) 0 0 (fun _ => False) := by
  refine Met.ofWF (cc := cJ4_length_8abf5) (maxL := 1) (ret := (some .int)) (by decide +kernel) rfl ?_
  intro p e s m args below meth c s₁ B hml hv
  obtain ⟨rfl, ⟨hK, hN⟩, hP⟩ := hv
  have hx := B.exec
  have hb := B.bytes
  have hr := B.returns
  have hts := atoms_spec (ws := v_f_J4_length_8abf5) B.pre
  have hown : s.vm.findClass RJ4 = some m.cls := own_of hd_J4_length_8abf5.1 (findClass_of_methodNamed B.named)
  have hlocks : meth.locks = false := B.notSynchronized
  replace hP : va_P E.1 vwCl [k_J4 a_ a_value c_coder c_maybeLatin1 c_count] s.heap := hP
  have hl := lv_entry ([.ref a_]) (n := 1) (Nat.le_of_ble_eq_true rfl)
  rw [lg_entry_eq]
  generalize (lg_sl ([.ref a_]) ++ List.replicate (1 - (lg_sl ([.ref a_])).length) Slot.unset).toArray = ls at hl ⊢
  have hl : lv_has ls 1 [(0, .ref a_)] := hl
  obtain ⟨Q, hQ⟩ : ∃ Q : State → Prop, Q = MQ below (vp_Si (fun q : Int32 => q = rr)) #[Value.ref a_] s 0 0 (fun _ => False) := ⟨_, rfl⟩
  rw [← hQ]
  change W p l e ({ frames := 1, cells := 0, slots := 0, locals := 20 } : Room) s m #[Value.ref a_] below meth c s.heap [] 0 0 Q (F0 m 0 ls [])
  unfold F_J4_length_8abf5 at hF
  refine lv_aload_n hx hb (dq_42 0 bcJ4_length_8abf5_0 (j := 0) rfl rfl) rfl (lv_at hl 0 rfl) ?_
  replace hF := bd1_s hF
  obtain ⟨r_1, hc_2, hF⟩ := hF
  have hPc : va_P E.1 vwCl (w_J5_length_8abf5 E a_ a_value c_coder c_maybeLatin1 c_count) s.heap := hP.sub (ws' := [k_J4 a_ a_value c_coder c_maybeLatin1 c_count]) [0] rfl
  have hrc := va_recv hK hPc (ci := 0) (q0 := 0) rfl rfl
  refine pE_i (va_runSU (As := []) (rest := []) (hK.1 0 (RJ4, TJ4, 4) rfl).2 ⟨hx, hb, hml, hown, hts⟩ (f_J5_length_8abf5 l E (a_ := a_) (a_value := a_value) (c_coder := c_coder) (c_maybeLatin1 := c_maybeLatin1) (c_count := c_count) hc_2) (va_cwSU 0 hts g_f_J4_length_8abf5_f_J5_length_8abf5_343 rfl rfl rfl (by decide +kernel) ⟨Nat.le_of_ble_eq_true rfl, Nat.le_of_ble_eq_true rfl⟩) ⟨pP.blind, hrc, (pP.pre ⟨hK, hN⟩ hPc)⟩ rfl rfl hl.1 rfl (lv_room (Nat.le_of_ble_eq_true rfl)) (dq_183 0 bcJ4_length_8abf5_0 (j := 1) (i := 343) rfl rfl rfl) ⟨Nat.le_of_ble_eq_true rfl, Nat.le_of_ble_eq_true rfl⟩) ?_
  rw [hQ]
  obtain e9_0 := inj1 hF
  exact W.iret (v := r_1) hx hb hr (fun tt ht hW => ⟨_, rfl, e9_0, ht⟩) (fun _ h => by cases h) (dq_172 0 bcJ4_length_8abf5_0 (j := 4) rfl rfl)

def F_J4_charAt_5068e (p1 : Int32) (c_value : Nat → Int32) (c_coder : Int32) (c_count : Int32) (m9 : Nat) : Option (Int32) :=
  bd1 (F_J5_charAt_5068e p1 c_value c_coder c_count m9) (fun r_1 => some r_1)
abbrev w_J4_charAt_5068e (E : EE) (a_ a_value : Nat) (c_coder : Int32) (c_maybeLatin1 : Int32) (c_count : Int32) (c_value : Nat → Int32) (m9 : Nat) : va_W := [k_J4 a_ a_value c_coder c_maybeLatin1 c_count, k_B E a_value m9 c_value]
def v_f_J4_charAt_5068e : List Cond := List.cons (.code yJ4_charAt_5068e cJ4_charAt_5068e 2 (some .char)) (HAppend.hAppend (α := List Cond) (β := List Cond) (γ := List Cond) [.methodLink RJ4 329 yJ5_charAt_5068e, .sameMethod RJ5 RJ5 "charAt" "(I)C", .superclass RJ4 RJ5, .instanceMethod yJ5_charAt_5068e, .initialized RJ5] (HAppend.hAppend (α := List Cond) (β := List Cond) (γ := List Cond) v_f_J5_charAt_5068e []))
theorem gw_f_J4_charAt_5068e : v_f_J4_charAt_5068e.all goodWord = true := gw_c2 (by decide +kernel) (gw_ap gw_f_J5_charAt_5068e gw_nil)
theorem g_f_J4_charAt_5068e_f_J5_charAt_5068e_329 : GoodIn v_f_J4_charAt_5068e (va_wsSU RJ4 329 yJ5_charAt_5068e v_f_J5_charAt_5068e) := goodIn_in gw_f_J4_charAt_5068e (in5 1 2 3 4 5 rfl rfl rfl rfl rfl (fun _ h => List.mem_cons_of_mem _ (List.mem_append_right _ (List.mem_append_left _ h))))
theorem hd_J4_charAt_5068e : yJ4_charAt_5068e.cls = RJ4 ∧ yJ4_charAt_5068e.cls ≠ "java/lang/invoke/MethodHandle" ∧ yJ4_charAt_5068e.cls ≠ "java/lang/invoke/VarHandle" ∧ (parseMethodDescriptor yJ4_charAt_5068e.desc).map (fun d => d.parameters.length) = some 1 := by decide +kernel
set_option maxHeartbeats 4000000 in
set_option maxRecDepth 100000 in
theorem f_J4_charAt_5068e (l : Launch) (E : EE) (z9 : Nat → Nat) {a_ a_value : Nat} {p1 : Int32} {c_coder : Int32} {c_maybeLatin1 : Int32} {c_count : Int32} {c_value : Nat → Int32} {m9 : Nat} {rr : Int32} (hF : F_J4_charAt_5068e p1 c_value c_coder c_count m9 = some rr) : Met l yJ4_charAt_5068e v_f_J4_charAt_5068e (({ frames := 3, cells := 0, slots := 0, locals := 67 } : Room)) (va_Pc [.ref a_, .int p1] (qPZ E z9 (w_J4_charAt_5068e E a_ a_value c_coder c_maybeLatin1 c_count c_value m9))) (vp_Si (fun q : Int32 => q = rr ∧ narrow .char (.int q) = .int q)) 0 0 (fun _ => False) := by
  refine Met.ofWF (cc := cJ4_charAt_5068e) (maxL := 2) (ret := (some .char)) (by decide +kernel) rfl ?_
  intro p e s m args below meth c s₁ B hml hv
  obtain ⟨rfl, ⟨hK, hN⟩, hP, hZ⟩ := hv
  have hx := B.exec
  have hb := B.bytes
  have hr := B.returns
  have hts := atoms_spec (ws := v_f_J4_charAt_5068e) B.pre
  have hown : s.vm.findClass RJ4 = some m.cls := own_of hd_J4_charAt_5068e.1 (findClass_of_methodNamed B.named)
  have hlocks : meth.locks = false := B.notSynchronized
  replace hP : va_P E.1 vwCl [k_J4 a_ a_value c_coder c_maybeLatin1 c_count, k_B E a_value m9 c_value] s.heap := hP
  have hl := lv_entry ([.ref a_, .int p1]) (n := 2) (Nat.le_of_ble_eq_true rfl)
  rw [lg_entry_eq]
  generalize (lg_sl ([.ref a_, .int p1]) ++ List.replicate (2 - (lg_sl ([.ref a_, .int p1])).length) Slot.unset).toArray = ls at hl ⊢
  have hl : lv_has ls 2 [(0, .ref a_), (1, .int p1)] := hl
  obtain ⟨Q, hQ⟩ : ∃ Q : State → Prop, Q = MQ below (vp_Si (fun q : Int32 => q = rr ∧ narrow .char (.int q) = .int q)) #[Value.ref a_, Value.int p1] s 0 0 (fun _ => False) := ⟨_, rfl⟩
  rw [← hQ]
  change W p l e ({ frames := 3, cells := 0, slots := 0, locals := 67 } : Room) s m #[Value.ref a_, Value.int p1] below meth c s.heap [] 0 0 Q (F0 m 0 ls [])
  unfold F_J4_charAt_5068e at hF
  refine lv_aload_n hx hb (dq_42 0 bcJ4_charAt_5068e_0 (j := 0) rfl rfl) rfl (lv_at hl 0 rfl) ?_
  refine lv_iload_n hx hb (dq_27 0 bcJ4_charAt_5068e_0 (j := 1) rfl rfl) rfl (lv_at hl 1 rfl) ?_
  replace hF := bd1_s hF
  obtain ⟨r_1, hc_2, hF⟩ := hF
  have hPc : va_P E.1 vwCl (w_J5_charAt_5068e E a_ a_value c_coder c_maybeLatin1 c_count c_value m9) s.heap := hP.sub (ws' := [k_J4 a_ a_value c_coder c_maybeLatin1 c_count, k_B E a_value m9 c_value]) [0, 1] rfl
  have hrc := va_recv hK hPc (ci := 0) (q0 := 0) rfl rfl
  refine pE_c (va_runSU (As := [.int p1]) (rest := []) (hK.1 0 (RJ4, TJ4, 4) rfl).2 ⟨hx, hb, hml, hown, hts⟩ (f_J5_charAt_5068e l E z9 (a_ := a_) (a_value := a_value) (p1 := p1) (c_coder := c_coder) (c_maybeLatin1 := c_maybeLatin1) (c_count := c_count) (c_value := c_value) (m9 := m9) hc_2) (va_cwSU 1 hts g_f_J4_charAt_5068e_f_J5_charAt_5068e_329 rfl rfl rfl (by decide +kernel) ⟨Nat.le_of_ble_eq_true rfl, Nat.le_of_ble_eq_true rfl⟩) ⟨qPZ.blind, hrc, (qPZ.pre0 ⟨hK, hN⟩ hPc hZ)⟩ rfl rfl hl.1 rfl (lv_room (Nat.le_of_ble_eq_true rfl)) (dq_183 0 bcJ4_charAt_5068e_0 (j := 2) (i := 329) rfl rfl rfl) ⟨Nat.le_of_ble_eq_true rfl, Nat.le_of_ble_eq_true rfl⟩) (fun hb_3 => ?_)
  rw [hQ]
  obtain e9_0 := inj1 hF
  exact W.zret (v := r_1) hx hb hr hb_3 (fun tt ht hW => ⟨_, rfl, ⟨e9_0, hb_3⟩, ht⟩) (fun _ h => by cases h) (dq_172 0 bcJ4_charAt_5068e_0 (j := 5) rfl rfl)
end
-- 84c1.px
section

/-! Spell, 1: signs and numbers, in both -/
/-- the first signs of f are those of L -/
def Tx (L : List Int32) (f : Nat → Int32) : Prop := ∀ j, j < L.length → L[j]? = some (f j)
theorem Tx.app {L M : List Int32} {f g : Nat → Int32} (h : Tx L f) (hl : ∀ j, j < L.length → g j = f j) (hm : ∀ j, j < M.length → M[j]? = some (g (L.length + j))) : Tx (L ++ M) g := by
  intro j hj
  rw [List.length_append] at hj
  by_cases c : j < L.length
  · rw [List.getElem?_append_left c, hl j c]
    exact h j c
  · rw [List.getElem?_append_right (by omega), hm (j - L.length) (by omega), show L.length + (j - L.length) = j by omega]
theorem Tx.snoc {L : List Int32} {f : Nat → Int32} (h : Tx L f) (c : Int32) : Tx (L ++ [c]) (upd f L.length c) := by
  refine h.app (fun j hj => upd_ne (by omega)) (fun j hj => ?_)
  have hj : j < 1 := hj
  have e : j = 0 := by omega
  rw [e, Nat.add_zero, upd_at]
  rfl
theorem Tx.one {L : List Int32} {f g : Nat → Int32} {j : Nat} (h : Tx L f) (h2 : Tx L g) (hj : j < L.length) : f j = g j := Option.some.inj ((h j hj).symm.trans (h2 j hj))
/-- the last n digits of a, the greatest first -/
def dgL (a : Nat) : Nat → List Int32
  | 0 => []
  | n + 1 => nI (48 + a / 10 ^ n % 10) :: dgL a n
theorem dgL_len {a : Nat} : ∀ n, (dgL a n).length = n := by
  intro n
  induction n with
  | zero => rfl
  | succ n ih =>
    show (dgL a n).length + 1 = n + 1
    rw [ih]
theorem dgL_at {a : Nat} : ∀ n j, j < n → (dgL a n)[j]? = some (nI (48 + a / 10 ^ (n - 1 - j) % 10)) := by
  intro n
  induction n with
  | zero => exact fun j h => absurd h (Nat.not_lt_zero _)
  | succ n ih =>
    intro j hj
    cases j with
    | zero => rfl
    | succ j =>
      show (dgL a n)[j]? = some (nI (48 + a / 10 ^ (n + 1 - 1 - (j + 1)) % 10))
      rw [ih j (by omega), show n + 1 - 1 - (j + 1) = n - 1 - j by omega]
/-- how many digits -/
def dgN (a : Nat) : Nat := if a < 10 then 1 else if a < 100 then 2 else if a < 1000 then 3 else if a < 10000 then 4 else 5
theorem dgN_c {a : Nat} (ha : a < 100000) : (dgN a = 1 ∧ a < 10) ∨ (dgN a = 2 ∧ 10 ≤ a ∧ a < 100) ∨ (dgN a = 3 ∧ 100 ≤ a ∧ a < 1000) ∨ (dgN a = 4 ∧ 1000 ≤ a ∧ a < 10000) ∨ (dgN a = 5 ∧ 10000 ≤ a) := by
  unfold dgN
  by_cases c1 : a < 10
  · rw [if_pos c1]
    exact Or.inl ⟨rfl, c1⟩
  by_cases c2 : a < 100
  · rw [if_neg c1, if_pos c2]
    exact Or.inr (Or.inl ⟨rfl, by omega, c2⟩)
  by_cases c3 : a < 1000
  · rw [if_neg c1, if_neg c2, if_pos c3]
    exact Or.inr (Or.inr (Or.inl ⟨rfl, by omega, c3⟩))
  by_cases c4 : a < 10000
  · rw [if_neg c1, if_neg c2, if_neg c3, if_pos c4]
    exact Or.inr (Or.inr (Or.inr (Or.inl ⟨rfl, by omega, c4⟩)))
  · rw [if_neg c1, if_neg c2, if_neg c3, if_neg c4]
    exact Or.inr (Or.inr (Or.inr (Or.inr ⟨rfl, by omega⟩)))
theorem dgN_lo {a : Nat} (ha : a < 100000) : ∀ j, j + 1 < dgN a → 10 ^ (j + 1) ≤ a := by
  intro j hj
  have z : ∀ k, k ≤ 3 → j ≤ k → 10 ^ (k + 1) ≤ a → 10 ^ (j + 1) ≤ a := fun k _ h1 h2 => Nat.le_trans (Nat.pow_le_pow_right (by decide) (by omega)) h2
  rcases dgN_c ha with ⟨e, c⟩ | ⟨e, c, d⟩ | ⟨e, c, d⟩ | ⟨e, c, d⟩ | ⟨e, c⟩
  · omega
  · exact z 0 (by omega) (by omega) (show 10 ≤ a from c)
  · exact z 1 (by omega) (by omega) (show 100 ≤ a from c)
  · exact z 2 (by omega) (by omega) (show 1000 ≤ a from c)
  · exact z 3 (by omega) (by omega) (show 10000 ≤ a from c)
theorem dgN_hi {a : Nat} (ha : a < 100000) : a < 10 ^ dgN a := by
  rcases dgN_c ha with ⟨e, c⟩ | ⟨e, c, d⟩ | ⟨e, c, d⟩ | ⟨e, c, d⟩ | ⟨e, c⟩
  · rw [e]
    show a < 10
    exact c
  · rw [e]
    show a < 100
    exact d
  · rw [e]
    show a < 1000
    exact d
  · rw [e]
    show a < 10000
    exact d
  · rw [e]
    show a < 100000
    exact ha
theorem dgN_b {a : Nat} (ha : a < 100000) : 1 ≤ dgN a ∧ dgN a ≤ 5 := by
  rcases dgN_c ha with ⟨e, c⟩ | ⟨e, c, d⟩ | ⟨e, c, d⟩ | ⟨e, c, d⟩ | ⟨e, c⟩ <;> omega
theorem p10 {j : Nat} (h : j ≤ 5) : 10 ^ j ≤ 100000 := Nat.le_trans (Nat.pow_le_pow_right (by decide) h) (show 10 ^ 5 ≤ 100000 by decide)
theorem p10p {j : Nat} : 0 < 10 ^ j := Nat.pow_pos (by decide)
/-- a number's signs -/
def numL (v : Int32) : List Int32 := if v < 0 then 45 :: dgL v.toInt.natAbs (dgN v.toInt.natAbs) else dgL v.toInt.natAbs (dgN v.toInt.natAbs)
theorem num_abs {v : Int32} (h1 : -99999 ≤ v.toInt) (h2 : v.toInt ≤ 99999) : v.toInt.natAbs < 100000 ∧ (v < 0 → -v = nI v.toInt.natAbs ∧ v = -(nI v.toInt.natAbs)) ∧ (¬ v < 0 → v = nI v.toInt.natAbs) := by
  have t0 : (0 : Int32).toInt = 0 := by decide
  refine ⟨by omega, fun c => ⟨?_, ?_⟩, fun c => ?_⟩
  · have c := Int32.lt_iff_toInt_lt.mp c
    rw [t0] at c
    apply Int32.toInt_inj.mp
    rw [Int32.toInt_neg, Int.bmod_eq_of_le (by omega) (by omega), nI_toInt (by omega)]
    omega
  · have c := Int32.lt_iff_toInt_lt.mp c
    rw [t0] at c
    apply Int32.toInt_inj.mp
    rw [Int32.toInt_neg, nI_toInt (by omega), Int.bmod_eq_of_le (by omega) (by omega)]
    omega
  · have c := mt Int32.lt_iff_toInt_lt.mpr c
    rw [t0] at c
    apply Int32.toInt_inj.mp
    rw [nI_toInt (by omega)]
    omega
theorem num_len {v : Int32} (h1 : -99999 ≤ v.toInt) (h2 : v.toInt ≤ 99999) : 1 ≤ (numL v).length ∧ (numL v).length ≤ 6 := by
  have b := dgN_b (num_abs h1 h2).1
  unfold numL
  by_cases c : v < 0
  · rw [if_pos c]
    show 1 ≤ (dgL v.toInt.natAbs (dgN v.toInt.natAbs)).length + 1 ∧ (dgL v.toInt.natAbs (dgN v.toInt.natAbs)).length + 1 ≤ 6
    rw [dgL_len]
    exact ⟨by omega, by omega⟩
  · rw [if_neg c, dgL_len]
    exact ⟨by omega, by omega⟩
/-- the reference spells a sign -/
theorem sp_one {n : Nat} {c : Int32} {sp : Nat → Int32} (hn : n < 40) : F_X8_spells c sp (nI n) = some (upd sp n c, nI (n + 1)) := by
  unfold F_X8_spells
  rw [xixn hn (by decide), xnm, nI_clamp (by omega), nI_1]
theorem sp_tx {L : List Int32} {c : Int32} {sp : Nat → Int32} (h : Tx L sp) (hn : L.length < 40) : ∃ sp', F_X8_spells c sp (nI L.length) = some (sp', nI (L ++ [c]).length) ∧ Tx (L ++ [c]) sp' := by
  refine ⟨_, ?_, h.snoc c⟩
  rw [sp_one hn, List.length_append]
  rfl
theorem sn_top {K a : Nat} (hK : 200000 ≤ K) (ha : a < 100000) : lpF (fun u9 : Int32 => B_X8_spellsNumber_17 (nI a) u9) K (1 : Int32) = some (nI (10 ^ (dgN a - 1))) := by
  have b := dgN_b ha
  have h : lpF (fun u9 : Int32 => B_X8_spellsNumber_17 (nI a) u9) K (nI (10 ^ 0)) = some (nI (10 ^ (dgN a - 1))) := by
    refine lp_for (fun j => nI (10 ^ j)) (n := dgN a - 1) (by omega) (fun j hj => ?_) ?_
    · show B_X8_spellsNumber_17 (nI a) (nI (10 ^ j)) = some (.inl (nI (10 ^ (j + 1))))
      have q1 := p10 (j := j) (by omega)
      have q0 := p10p (j := j)
      have lo := dgN_lo ha j (by omega)
      have dv : 9 < a / 10 ^ j := (Nat.le_div_iff_mul_le q0).mpr (by rw [Nat.pow_succ] at lo; omega)
      have dl : a / 10 ^ j ≤ a := Nat.div_le_self _ _
      unfold B_X8_spellsNumber_17
      rw [xnz (nI_ne0 q0 (by omega)), show nI a / nI (10 ^ j) = nI (a / 10 ^ j) from (Int32.ofNat_div (by omega) (by omega)).symm, if_neg (show ¬ nI (a / 10 ^ j) ≤ (9 : Int32) from mt (nI_leI (a := a / 10 ^ j) (b := 9) (by omega) (by omega)).mp (by omega)), show (10 : Int32) = nI 10 from rfl, nI_mul, ← Nat.pow_succ]
    · show B_X8_spellsNumber_17 (nI a) (nI (10 ^ (dgN a - 1))) = some (.inr (nI (10 ^ (dgN a - 1))))
      have q1 := p10 (j := dgN a - 1) (by omega)
      have q0 := p10p (j := dgN a - 1)
      have hi := dgN_hi ha
      have e10 : 10 ^ dgN a = 10 ^ (dgN a - 1) * 10 := by
        rw [← Nat.pow_succ]
        exact congrArg (fun z => 10 ^ z) (by omega)
      have dv : a / 10 ^ (dgN a - 1) < 10 := Nat.div_lt_of_lt_mul (by rw [← e10]; exact hi)
      unfold B_X8_spellsNumber_17
      rw [xnz (nI_ne0 q0 (by omega)), show nI a / nI (10 ^ (dgN a - 1)) = nI (a / 10 ^ (dgN a - 1)) from (Int32.ofNat_div (by omega) (by omega)).symm, if_pos (show nI (a / 10 ^ (dgN a - 1)) ≤ (9 : Int32) from (nI_leI (a := a / 10 ^ (dgN a - 1)) (b := 9) (by omega) (by omega)).mpr (by omega))]
  exact h
theorem sn_lp {a : Nat} (ha : a < 100000) : ∀ (n : Nat) (L : List Int32) (sp : Nat → Int32) (J : Nat), n ≤ 5 → n < J → Tx L sp → L.length + n ≤ 40 → ∃ sp', lpF (fun u9 : Int32 × (Nat → Int32) × Int32 => B_X8_spellsNumber_33 (nI a) u9.1 u9.2.1 u9.2.2) J (nI (if n = 0 then 0 else 10 ^ (n - 1)), sp, nI L.length) = some (sp', nI (L ++ dgL a n).length) ∧ Tx (L ++ dgL a n) sp' := by
  intro n
  induction n with
  | zero =>
    intro L sp J _ hJ h _
    obtain ⟨J2, rfl⟩ : ∃ J2, J = J2 + 1 := ⟨J - 1, by omega⟩
    refine ⟨sp, ?_, ?_⟩
    · refine lp_end ?_
      show B_X8_spellsNumber_33 (nI a) (nI 0) sp (nI L.length) = some (.inr (sp, nI (L ++ []).length))
      unfold B_X8_spellsNumber_33
      rw [if_pos (show nI 0 ≤ (0 : Int32) by decide), List.append_nil]
    · show Tx (L ++ []) sp
      rw [List.append_nil]
      exact h
  | succ n ih =>
    intro L sp J hn hJ h hL
    obtain ⟨J2, rfl⟩ : ∃ J2, J = J2 + 1 := ⟨J - 1, by omega⟩
    have q1 := p10 (j := n) (by omega)
    have q0 := p10p (j := n)
    have dl : a / 10 ^ n ≤ a := Nat.div_le_self _ _
    obtain ⟨sp', e1, e2⟩ := ih (L ++ [nI (48 + a / 10 ^ n % 10)]) _ J2 (by omega) (by omega) (h.snoc (nI (48 + a / 10 ^ n % 10))) (by rw [List.length_append]; show L.length + 1 + n ≤ 40; omega)
    have e : L ++ [nI (48 + a / 10 ^ n % 10)] ++ dgL a n = L ++ dgL a (n + 1) := by rw [List.append_assoc]; rfl
    rw [e] at e1 e2
    refine ⟨sp', ?_, e2⟩
    rw [lp_one (u' := (nI (if n = 0 then 0 else 10 ^ (n - 1)), upd sp L.length (nI (48 + a / 10 ^ n % 10)), nI (L ++ [nI (48 + a / 10 ^ n % 10)]).length)) ?_]
    · exact e1
    · show B_X8_spellsNumber_33 (nI a) (nI (if n + 1 = 0 then 0 else 10 ^ (n + 1 - 1))) sp (nI L.length) = _
      have dv : nI a / nI (10 ^ n) = nI (a / 10 ^ n) := (Int32.ofNat_div (by omega) (by omega)).symm
      have dt : nI (10 ^ n) / (10 : Int32) = nI (if n = 0 then 0 else 10 ^ (n - 1)) := by
        rw [show nI (10 ^ n) / (10 : Int32) = nI (10 ^ n / 10) from (Int32.ofNat_div (by omega) (by decide)).symm]
        cases n with
        | zero => rfl
        | succ n => rw [if_neg (by omega), Nat.pow_succ, Nat.mul_div_cancel _ (by decide)]; rfl
      have md : nI (a / 10 ^ n) - nI (a / 10 ^ n) / (10 : Int32) * (10 : Int32) = nI (a / 10 ^ n % 10) := nI_mod (n := 10) (by omega) (by decide)
      unfold B_X8_spellsNumber_33
      rw [if_neg (show ¬ n + 1 = 0 by omega), Nat.add_sub_cancel, if_neg (show ¬ nI (10 ^ n) ≤ (0 : Int32) from mt (nI_leI (a := 10 ^ n) (b := 0) (by omega) (by omega)).mp (by omega)), xnz (nI_ne0 q0 (by omega)), dv, md, show (48 : Int32) = nI 48 from rfl, nI_add, sp_one (by omega), xb2, dt, List.length_append]
      rfl
/-- the reference spells a number -/
theorem sn_num {K : Nat} {v : Int32} {L : List Int32} {sp : Nat → Int32} (hK : 200000 ≤ K) (h1 : -99999 ≤ v.toInt) (h2 : v.toInt ≤ 99999) (h : Tx L sp) (hL : L.length + 6 ≤ 40) : ∃ sp', F_X8_spellsNumber K v sp (nI L.length) = some (sp', nI (L ++ numL v).length) ∧ Tx (L ++ numL v) sp' := by
  obtain ⟨ha, hn, hp⟩ := num_abs h1 h2
  have b := dgN_b ha
  have J : ∀ (M : List Int32) (s : Nat → Int32), Tx M s → M.length + 5 ≤ 40 → ∃ sp', J_X8_spellsNumber_10 K v s (nI M.length) = some (sp', nI (M ++ dgL v.toInt.natAbs (dgN v.toInt.natAbs)).length) ∧ Tx (M ++ dgL v.toInt.natAbs (dgN v.toInt.natAbs)) sp' := by
    intro M s hM hl
    obtain ⟨sp', e1, e2⟩ := sn_lp ha (dgN v.toInt.natAbs) M s K (by omega) (by omega) hM (by omega)
    rw [if_neg (by omega)] at e1
    have ab : F_X8_above v = some (nI v.toInt.natAbs) := by
      unfold F_X8_above
      by_cases c : v < 0
      · rw [if_neg (lt_not.mp c), (hn c).1]
      · rw [if_pos (Int32.not_lt.mp c), ← hp c]
    refine ⟨sp', ?_, e2⟩
    unfold J_X8_spellsNumber_10
    rw [ab, xb1, sn_top hK ha, xb1, e1, xb2]
  unfold F_X8_spellsNumber numL
  by_cases c : v < 0
  · obtain ⟨s1, e1, e2⟩ := sp_tx (c := 45) h (by omega)
    obtain ⟨s2, e3, e4⟩ := J _ s1 e2 (by rw [List.length_append]; show L.length + 1 + 5 ≤ 40; omega)
    rw [List.append_assoc] at e3 e4
    rw [if_neg (lt_not.mp c), if_pos c, e1, xb2, e3]
    exact ⟨_, rfl, e4⟩
  · obtain ⟨s2, e3, e4⟩ := J L sp h (by omega)
    rw [if_pos (Int32.not_lt.mp c), if_neg c, e3]
    exact ⟨_, rfl, e4⟩
/-- StringBuilder: how long a number is -/
theorem ss_num {K : Nat} {v : Int32} (hK : 200000 ≤ K) (h1 : -99999 ≤ v.toInt) (h2 : v.toInt ≤ 99999) : F_J6_stringSize_0f7a4 K v = some (nI (numL v).length) := by
  obtain ⟨ha, hn, hp⟩ := num_abs h1 h2
  have b := dgN_b ha
  have ng : ∀ k, k < 2 ^ 30 → (-(nI k)).toInt = -(k : Int) := fun k hk => by
    rw [Int32.toInt_neg, nI_toInt (by omega), Int.bmod_eq_of_le (by omega) (by omega)]
  have J : ∀ s, s ≤ 1 → J_J6_stringSize_0f7a4_11 K (nI s) (-(nI v.toInt.natAbs)) = some (nI (dgN v.toInt.natAbs + s)) := by
    intro s hs
    generalize v.toInt.natAbs = a at ha b ⊢
    have h : lpF (fun u9 : Int32 × Int32 => B_J6_stringSize_0f7a4_16 (-(nI a)) u9.1 u9.2) K (-(nI (10 ^ (0 + 1))), nI (0 + 1)) = some (0, nI (dgN a)) := by
      refine lp_for (fun j => (-(nI (10 ^ (j + 1))), nI (j + 1))) (n := dgN a - 1) (by omega) (fun j hj => ?_) ?_
      · show B_J6_stringSize_0f7a4_16 (-(nI a)) (-(nI (10 ^ (j + 1)))) (nI (j + 1)) = some (.inl (-(nI (10 ^ (j + 1 + 1))), nI (j + 1 + 1)))
        have q1 := p10 (j := j + 1) (by omega)
        have lo := dgN_lo ha j (by omega)
        have m : (10 : Int32) * -(nI (10 ^ (j + 1))) = -(nI (10 ^ (j + 1 + 1))) := by
          rw [Int32.mul_neg, show (10 : Int32) = nI 10 from rfl, nI_mul, Nat.pow_succ 10 (j + 1), Nat.mul_comm 10]
        unfold B_J6_stringSize_0f7a4_16
        rw [if_neg (show ¬ (10 : Int32) ≤ nI (j + 1) from mt (nI_leI (a := 10) (b := j + 1) (by omega) (by omega)).mp (by omega)), if_pos (show -(nI a) ≤ -(nI (10 ^ (j + 1))) by rw [Int32.le_iff_toInt_le, ng _ (by omega), ng _ (by omega)]; omega), m, nI_1]
      · show B_J6_stringSize_0f7a4_16 (-(nI a)) (-(nI (10 ^ (dgN a - 1 + 1)))) (nI (dgN a - 1 + 1)) = some (.inr (0, nI (dgN a)))
        have hi := dgN_hi ha
        have q1 := p10 (j := dgN a) (by omega)
        rw [show dgN a - 1 + 1 = dgN a by omega]
        unfold B_J6_stringSize_0f7a4_16
        rw [if_neg (show ¬ (10 : Int32) ≤ nI (dgN a) from mt (nI_leI (a := 10) (b := dgN a) (by omega) (by omega)).mp (by omega)), if_neg (show ¬ -(nI a) ≤ -(nI (10 ^ dgN a)) by rw [Int32.le_iff_toInt_le, ng _ (by omega), ng _ (by omega)]; omega)]
    have h : lpF (fun u9 : Int32 × Int32 => B_J6_stringSize_0f7a4_16 (-(nI a)) u9.1 u9.2) K ((-10 : Int32), (1 : Int32)) = some (0, nI (dgN a)) := h
    unfold J_J6_stringSize_0f7a4_11
    rw [h, xb2, if_pos rfl, nI_add]
  unfold F_J6_stringSize_0f7a4 numL
  by_cases c : v < 0
  · have q := J 1 (by decide)
    rw [← (hn c).2] at q
    rw [if_pos c, if_pos c]
    show J_J6_stringSize_0f7a4_11 K (nI 1) v = some (nI ((dgL v.toInt.natAbs (dgN v.toInt.natAbs)).length + 1))
    rw [q, dgL_len]
  · have q := J 0 (by decide)
    rw [← hp c] at q
    rw [if_neg c, if_neg c, dgL_len]
    exact q
/-- digits put from the back: t of them below y -/
def Dg (y t : Nat) (c1 c : Nat → Int32) (a : Nat) : Prop := (∀ j, (j < y - t ∨ y ≤ j) → c1 j = c j) ∧ ∀ s, s < t → c1 (y - 1 - s) = nI (48 + a / 10 ^ s % 10)
theorem Dg.put {y t a : Nat} {v : Int32} {c1 c : Nat → Int32} (h : Dg y t c1 c a) (ht : t < y) (hv : v = nI (48 + a / 10 ^ t % 10)) : Dg y (t + 1) (upd c1 (y - 1 - t) v) c a := by
  refine ⟨fun j hj => ?_, fun s hs => ?_⟩
  · rw [upd_ne (by omega)]
    exact h.1 j (by omega)
  · by_cases e : s = t
    · rw [e, upd_at, hv]
    · rw [upd_ne (by omega)]
      exact h.2 s (by omega)
theorem Dg.join {y t s a : Nat} {c2 c1 c : Nat → Int32} (h1 : Dg y t c1 c a) (h2 : Dg (y - t) s c2 c1 (a / 10 ^ t)) (hy : t + s ≤ y) : Dg y (t + s) c2 c a := by
  refine ⟨fun j hj => ?_, fun i hi => ?_⟩
  · rw [h2.1 j (by omega)]
    exact h1.1 j (by omega)
  · by_cases e : i < t
    · rw [h2.1 (y - 1 - i) (by omega)]
      exact h1.2 i e
    · have q := h2.2 (i - t) (by omega)
      rw [show y - t - 1 - (i - t) = y - 1 - i by omega, Nat.div_div_eq_div_mul, ← Nat.pow_add, show t + (i - t) = i by omega] at q
      exact q
theorem od_t : ∀ d, d < 100 → vp_nar .byte (onesF d) = nI (48 + d % 10) ∧ vp_nar .byte (tensF d) = nI (48 + d / 10) := by decide +kernel
theorem nar_45 : vp_nar .byte (45 : Int32) = 45 := by decide +kernel
theorem ng_t {k : Nat} (hk : k < 2 ^ 30) : (-(nI k)).toInt = -(k : Int) := by rw [Int32.toInt_neg, nI_toInt (by omega), Int.bmod_eq_of_le (by omega) (by omega)]
theorem b22_go {mz y a : Nat} {c : Nat → Int32} (h : 100 ≤ a) (ha : a < 2 ^ 30) (hy : 2 ≤ y) (hy2 : y ≤ mz) (hm : mz ≤ 34) : ∃ c1, B_J6_getChars_ba4f3_22 mz (-(nI a)) (nI y) c = some (.inl (-(nI (a / 100)), nI (y - 2), c1)) ∧ Dg y 2 c1 c a := by
  have n1 := ng_t ha
  obtain ⟨d, hd, e1, e2, e3⟩ := gc_div (x := -(nI a)) (by omega)
  rw [n1] at e3
  have eq : -(nI a) / 100 = -(nI (a / 100)) := by
    apply Int32.toInt_inj.mp
    rw [ng_t (by omega)]
    omega
  have ed : d = a % 100 := by omega
  have q1 : ¬ (-100 : Int32) < -(nI a) := by
    rw [Int32.lt_iff_toInt_lt, m100, n1]
    omega
  obtain ⟨o1, o2⟩ := od_t d hd
  have D0 : Dg y 0 c c a := ⟨fun _ _ => rfl, fun s hs => absurd hs (Nat.not_lt_zero _)⟩
  have D1 := D0.put (v := vp_nar .byte (onesF d)) (by omega) (by rw [o1, ed, Nat.pow_zero, Nat.div_one, show a % 100 % 10 = a % 10 by omega])
  have D2 := D1.put (v := vp_nar .byte (tensF d)) (by omega) (by rw [o2, ed, show 10 ^ (0 + 1) = 10 from rfl, show a % 100 / 10 = a / 10 % 10 by omega])
  refine ⟨_, ?_, D2⟩
  unfold B_J6_getChars_ba4f3_22
  rw [if_neg q1, e1, eq, dec1 (show 1 ≤ y by omega), dec1 (show 1 ≤ y - 1 by omega)]
  simp only [xixn hd (show 100 < 2 ^ 31 by decide), xixn (show y - 1 < mz by omega) (show mz < 2 ^ 31 by omega), xixn (show y - 1 - 1 < mz by omega) (show mz < 2 ^ 31 by omega), xnm, nI_clamp (show d < 2 ^ 31 by omega), nI_clamp (show y - 1 < 2 ^ 31 by omega), nI_clamp (show y - 1 - 1 < 2 ^ 31 by omega)]
  rfl
theorem b22_end {mz y a : Nat} {c : Nat → Int32} (h : a < 100) : B_J6_getChars_ba4f3_22 mz (-(nI a)) (nI y) c = some (.inr (-(nI a), nI y, c)) := by
  unfold B_J6_getChars_ba4f3_22
  rw [if_pos (show (-100 : Int32) < -(nI a) by rw [Int32.lt_iff_toInt_lt, m100, ng_t (by omega)]; omega)]
theorem gl_lp {mz : Nat} (hm : mz ≤ 34) : ∀ (t a y : Nat) (c : Nat → Int32) (J : Nat), t ≤ 2 → a < 100 ^ (t + 1) → (t = 0 ∨ 100 ^ t ≤ a) → 2 * t ≤ y → y ≤ mz → t < J → ∃ c1, lpF (fun u9 : Int32 × Int32 × (Nat → Int32) => B_J6_getChars_ba4f3_22 mz u9.1 u9.2.1 u9.2.2) J (-(nI a), nI y, c) = some (-(nI (a / 100 ^ t)), nI (y - 2 * t), c1) ∧ Dg y (2 * t) c1 c a := by
  intro t
  induction t with
  | zero =>
    intro a y c J _ ha _ _ _ hJ
    obtain ⟨J2, rfl⟩ : ∃ J2, J = J2 + 1 := ⟨J - 1, by omega⟩
    refine ⟨c, ?_, fun _ _ => rfl, fun s hs => absurd hs (Nat.not_lt_zero _)⟩
    have ha : a < 100 := ha
    refine lp_end ?_
    show B_J6_getChars_ba4f3_22 mz (-(nI a)) (nI y) c = some (.inr (-(nI (a / 100 ^ 0)), nI (y - 2 * 0), c))
    rw [b22_end ha, Nat.pow_zero, Nat.div_one]
    rfl
  | succ t ih =>
    intro a y c J ht ha hp hy hy2 hJ
    obtain ⟨J2, rfl⟩ : ∃ J2, J = J2 + 1 := ⟨J - 1, by omega⟩
    have hp : 100 ^ (t + 1) ≤ a := by
      rcases hp with z | z
      · omega
      · exact z
    have p1 : 1 ≤ 100 ^ t := Nat.pow_pos (by decide)
    have p2 : 100 ^ (t + 1 + 1) ≤ 1000000 := Nat.le_trans (Nat.pow_le_pow_right (by decide) (show t + 1 + 1 ≤ 3 by omega)) (show 100 ^ 3 ≤ 1000000 by decide)
    have a1 : 100 ≤ a := by
      rw [Nat.pow_succ] at hp
      omega
    obtain ⟨c1, e1, D1⟩ := b22_go (c := c) a1 (show a < 2 ^ 30 by omega) (show 2 ≤ y by omega) hy2 hm
    obtain ⟨c2, e2, D2⟩ := ih (a / 100) (y - 2) c1 J2 (by omega) (Nat.div_lt_of_lt_mul (by rw [Nat.mul_comm, ← Nat.pow_succ]; exact ha)) (Or.inr ((Nat.le_div_iff_mul_le (by decide)).mpr (by rw [← Nat.pow_succ]; exact hp))) (by omega) (by omega) (by omega)
    refine ⟨c2, ?_, ?_⟩
    · rw [lp_one (u' := (-(nI (a / 100)), nI (y - 2), c1)) e1, e2, Nat.div_div_eq_div_mul, show 100 * 100 ^ t = 100 ^ (t + 1) by rw [Nat.pow_succ, Nat.mul_comm], show y - 2 - 2 * t = y - 2 * (t + 1) by omega]
    · have D3 := D1.join (s := 2 * t) (c2 := c2) (by rw [show 10 ^ 2 = 100 from rfl]; exact D2) (by omega)
      rw [show 2 + 2 * t = 2 * (t + 1) by omega] at D3
      exact D3
/-- the last one or two digits, and the - -/
theorem gc_val {mz y b : Nat} {k0 : Int32} {c : Nat → Int32} (hm : mz ≤ 34) (hb : b < 100) (hy2 : y ≤ mz) (hy : (if b ≤ 9 then 1 else 2) + (if k0 = 0 then 0 else 1) ≤ y) : ∃ r c1 c2, gcT mz k0 (-(nI b)) (nI y) c = some (r, c2) ∧ Dg y (if b ≤ 9 then 1 else 2) c1 c b ∧ (if k0 = 0 then c2 = c1 else c2 = upd c1 (y - (if b ≤ 9 then 1 else 2) - 1) 45) := by
  obtain ⟨o1, o2⟩ := od_t b hb
  have D0 : Dg y 0 c c b := ⟨fun _ _ => rfl, fun s hs => absurd hs (Nat.not_lt_zero _)⟩
  have y1 : 1 ≤ y := by
    by_cases q : b ≤ 9
    · rw [if_pos q] at hy
      omega
    · rw [if_neg q] at hy
      omega
  have D1 := D0.put (v := vp_nar .byte (onesF b)) (by omega) (by rw [o1, Nat.pow_zero, Nat.div_one])
  have m9 : (-9 : Int32).toInt = -9 := by decide
  have c9 : (-9 : Int32) ≤ -(nI b) ↔ b ≤ 9 := by
    rw [Int32.le_iff_toInt_le, m9, ng_t (by omega)]
    omega
  unfold gcT
  rw [Int32.neg_neg, dec1 y1]
  simp only [xixn hb (show 100 < 2 ^ 31 by decide), xixn (show y - 1 < mz by omega) (show mz < 2 ^ 31 by omega), xnm, nI_clamp (show b < 2 ^ 31 by omega), nI_clamp (show y - 1 < 2 ^ 31 by omega)]
  by_cases q : b ≤ 9
  · rw [if_pos q] at hy
    rw [if_pos (c9.mpr q), if_pos q]
    by_cases k : k0 = 0
    · simp only [if_pos k]
      exact ⟨_, _, _, rfl, D1, rfl⟩
    · rw [if_neg k] at hy
      simp only [if_neg k]
      rw [dec1 (show 1 ≤ y - 1 by omega), xixn (show y - 1 - 1 < mz by omega) (show mz < 2 ^ 31 by omega), nI_clamp (show y - 1 - 1 < 2 ^ 31 by omega), nar_45]
      exact ⟨_, _, _, rfl, D1, rfl⟩
  · rw [if_neg q] at hy
    have y2 : 2 ≤ y := by omega
    have D2 := D1.put (v := vp_nar .byte (tensF b)) (by omega) (by rw [o2, show 10 ^ (0 + 1) = 10 from rfl, show b / 10 % 10 = b / 10 by omega])
    rw [if_neg (mt c9.mp q), if_neg q, dec1 (show 1 ≤ y - 1 by omega), xixn (show y - 1 - 1 < mz by omega) (show mz < 2 ^ 31 by omega), nI_clamp (show y - 1 - 1 < 2 ^ 31 by omega)]
    by_cases k : k0 = 0
    · simp only [if_pos k]
      exact ⟨_, _, _, rfl, D2, rfl⟩
    · rw [if_neg k] at hy
      simp only [if_neg k]
      rw [dec1 (show 1 ≤ y - 1 - 1 by omega), xixn (show y - 1 - 1 - 1 < mz by omega) (show mz < 2 ^ 31 by omega), nI_clamp (show y - 1 - 1 - 1 < 2 ^ 31 by omega), nar_45]
      exact ⟨_, _, _, rfl, D2, rfl⟩
/-- StringBuilder lays a number -/
theorem gc_num {K mz : Nat} {v : Int32} {L : List Int32} {c : Nat → Int32} (hK : 200000 ≤ K) (h1 : -99999 ≤ v.toInt) (h2 : v.toInt ≤ 99999) (hm : mz ≤ 34) (hL : (L ++ numL v).length ≤ mz) (h : Tx L c) (hf : sb_Fit c) : ∃ r c2, F_J6_getChars_ba4f3 K v (nI (L ++ numL v).length) c mz = some (r, c2) ∧ Tx (L ++ numL v) c2 := by
  obtain ⟨ha, hn, hp⟩ := num_abs h1 h2
  have b := dgN_b ha
  have len : (L ++ numL v).length = L.length + (numL v).length := List.length_append
  have core : ∀ (k0 : Int32) (y : Nat), y = L.length + dgN v.toInt.natAbs + (if k0 = 0 then 0 else 1) → y ≤ mz → ∃ r c1 c2, bd3 (lpF (fun u9 : Int32 × Int32 × (Nat → Int32) => B_J6_getChars_ba4f3_22 mz u9.1 u9.2.1 u9.2.2) K (-(nI v.toInt.natAbs), nI y, c)) (fun x0 x5 c' => gcT mz k0 x0 x5 c') = some (r, c2) ∧ Dg y (dgN v.toInt.natAbs) c1 c v.toInt.natAbs ∧ (if k0 = 0 then c2 = c1 else c2 = upd c1 (y - dgN v.toInt.natAbs - 1) 45) := by
    intro k0 y hy hy2
    generalize v.toInt.natAbs = a at ha b hy ⊢
    obtain ⟨t, ht, hlt, hlo, hd⟩ : ∃ t, t ≤ 2 ∧ a < 100 ^ (t + 1) ∧ (t = 0 ∨ 100 ^ t ≤ a) ∧ dgN a = 2 * t + (if a / 100 ^ t ≤ 9 then 1 else 2) := by
      rcases dgN_c ha with ⟨e, c⟩ | ⟨e, c, d⟩ | ⟨e, c, d⟩ | ⟨e, c, d⟩ | ⟨e, c⟩
      · exact ⟨0, by omega, show a < 100 by omega, Or.inl rfl, by rw [e, Nat.pow_zero, Nat.div_one, if_pos (by omega)]⟩
      · exact ⟨0, by omega, show a < 100 by omega, Or.inl rfl, by rw [e, Nat.pow_zero, Nat.div_one, if_neg (by omega)]⟩
      · exact ⟨1, by omega, show a < 10000 by omega, Or.inr (show 100 ≤ a by omega), by rw [e, show 100 ^ 1 = 100 from rfl, if_pos (by omega)]⟩
      · exact ⟨1, by omega, show a < 10000 by omega, Or.inr (show 100 ≤ a by omega), by rw [e, show 100 ^ 1 = 100 from rfl, if_neg (by omega)]⟩
      · exact ⟨2, by omega, show a < 1000000 by omega, Or.inr (show 10000 ≤ a by omega), by rw [e, show 100 ^ 2 = 10000 from rfl, if_pos (by omega)]⟩
    obtain ⟨c1, e1, D1⟩ := gl_lp hm t a y c K ht hlt hlo (by omega) hy2 (by omega)
    have bl : a / 100 ^ t < 100 := Nat.div_lt_of_lt_mul (by rw [← Nat.pow_succ]; exact hlt)
    obtain ⟨r, c3, c2, e2, D2, e3⟩ := gc_val (k0 := k0) (y := y - 2 * t) (c := c1) hm bl (by omega) (by omega)
    have D3 := D1.join (s := if a / 100 ^ t ≤ 9 then 1 else 2) (c2 := c3) (by rw [show 10 ^ (2 * t) = 100 ^ t by rw [Nat.pow_mul]]; exact D2) (by omega)
    rw [← hd] at D3
    rw [e1, xb3, e2]
    refine ⟨r, c3, c2, rfl, D3, ?_⟩
    by_cases k : k0 = 0
    · rw [if_pos k] at e3 ⊢
      exact e3
    · rw [if_neg k] at e3 ⊢
      rw [e3, show y - 2 * t - (if a / 100 ^ t ≤ 9 then 1 else 2) - 1 = y - dgN a - 1 by omega]
  by_cases q : v < 0
  · have nl : numL v = 45 :: dgL v.toInt.natAbs (dgN v.toInt.natAbs) := by
      unfold numL
      rw [if_pos q]
    have ll : (numL v).length = dgN v.toInt.natAbs + 1 := by
      rw [nl]
      show (dgL v.toInt.natAbs (dgN v.toInt.natAbs)).length + 1 = _
      rw [dgL_len]
    obtain ⟨r, c1, c2, e1, D, e2⟩ := core 1 (L ++ numL v).length (by rw [len, ll, if_neg (by decide)]; omega) hL
    rw [if_neg (by decide)] at e2
    refine ⟨r, c2, ?_, ?_⟩
    · rw [← (hn q).2] at e1
      unfold F_J6_getChars_ba4f3 J_J6_getChars_ba4f3_12
      rw [if_neg (lt_not.mp q), if_neg (by decide)]
      exact e1
    · refine h.app (fun j hj => ?_) (fun j hj => ?_)
      · rw [e2, upd_ne (by omega)]
        exact D.1 j (by omega)
      · rw [nl]
        cases j with
        | zero =>
          rw [e2, show L.length + 0 = (L ++ numL v).length - dgN v.toInt.natAbs - 1 by omega, upd_at]
          rfl
        | succ j =>
          show (dgL v.toInt.natAbs (dgN v.toInt.natAbs))[j]? = _
          rw [dgL_at _ j (by omega), e2, upd_ne (by omega)]
          have w := D.2 (dgN v.toInt.natAbs - 1 - j) (by omega)
          rw [show (L ++ numL v).length - 1 - (dgN v.toInt.natAbs - 1 - j) = L.length + (j + 1) by omega] at w
          rw [w]
  · have nl : numL v = dgL v.toInt.natAbs (dgN v.toInt.natAbs) := by
      unfold numL
      rw [if_neg q]
    have ll : (numL v).length = dgN v.toInt.natAbs := by rw [nl, dgL_len]
    obtain ⟨r, c1, c2, e1, D, e2⟩ := core 0 (L ++ numL v).length (by rw [len, ll, if_pos rfl]; omega) hL
    rw [if_pos rfl] at e2
    refine ⟨r, c2, ?_, ?_⟩
    · rw [← hp q] at e1
      unfold F_J6_getChars_ba4f3 J_J6_getChars_ba4f3_12
      rw [if_pos (Int32.not_lt.mp q), if_pos rfl]
      exact e1
    · refine h.app (fun j hj => ?_) (fun j hj => ?_)
      · rw [e2]
        exact D.1 j (by omega)
      · rw [nl, dgL_at _ j (by omega), e2]
        have w := D.2 (dgN v.toInt.natAbs - 1 - j) (by omega)
        rw [show (L ++ numL v).length - 1 - (dgN v.toInt.natAbs - 1 - j) = L.length + j by omega] at w
        rw [w]
end
-- 84c2.px
section

/-! Spell, 2: what is spelled of a site, in both -/
theorem Tx.cg {L : List Int32} {f g : Nat → Int32} (h : Tx L f) (e : ∀ j, j < L.length → g j = f j) : Tx L g := fun j hj => by rw [e j hj]; exact h j hj
theorem cpy16 {fc : Nat → Int32} {j : Nat} (hj : j < 16) : va_cpy fc (fun _ => 0) 0 0 16 j = fc j := by
  unfold va_cpy
  rw [if_pos ⟨Nat.zero_le _, by omega⟩, Nat.zero_add, Nat.sub_zero]
theorem tx_c {L : List Int32} {c1 : Nat → Int32} {kk : Nat} {ch : Int32} (h : Tx L c1) (hl : L.length = kk) (hk : kk < 2 ^ 31) (hch : vp_nar .byte ch.toInt8.toInt32 = ch) : Tx (L ++ [ch]) (upd c1 (nI kk).toNatClampNeg (vp_nar .byte ch.toInt8.toInt32)) := by
  rw [nI_clamp hk, hch, ← hl]
  exact h.snoc ch
theorem ps_okT {p w k mz : Nat} {L : List Int32} {c : Nat → Int32} (hp : (p = 12 ∧ w = 5) ∨ (p = 13 ∧ w = 4)) (hk : k + w ≤ mz) (hm : mz ≤ 34) (hf : sb_Fit c) (hT : Tx L c) (hl : L.length = k) : ∃ c', F_J5_putStringAt_47b60 (nI k) p c 0 mz = some c' ∧ sb_Fit c' ∧ Tx (L ++ strB.getD p []) c' := by
  have p15 : p < 15 := by omega
  refine ⟨va_cpy (fun j => (strB.getD p []).getD j 0) c 0 k w, ?_, sb_fitC (fun j => strB_fit p j) hf, hT.app (fun j hj => ?_) (fun j hj => ?_)⟩
  · unfold F_J5_putStringAt_47b60 F_J5_inflateIfNeededFor_a7421 F_J0_coder_7d493
    rw [xlt p15, xlt p15, xb1, if_pos rfl, xb1, xlt p15, gb_ok hp hk hm, xb1]
  · unfold va_cpy
    rw [if_neg (by omega)]
  · rcases hp with ⟨rfl, rfl⟩ | ⟨rfl, rfl⟩
    · have hj : j < 5 := hj
      unfold va_cpy
      rw [if_pos ⟨by omega, by omega⟩, show 0 + (L.length + j - k) = j by omega]
      rcases (show j = 0 ∨ j = 1 ∨ j = 2 ∨ j = 3 ∨ j = 4 by omega) with rfl | rfl | rfl | rfl | rfl <;> rfl
    · have hj : j < 4 := hj
      unfold va_cpy
      rw [if_pos ⟨by omega, by omega⟩, show 0 + (L.length + j - k) = j by omega]
      rcases (show j = 0 ∨ j = 1 ∨ j = 2 ∨ j = 3 by omega) with rfl | rfl | rfl | rfl <;> rfl
theorem gc_ofN {K k : Nat} {v : Int32} {L : List Int32} (hK : 200000 ≤ K) (h1 : -99999 ≤ v.toInt) (h2 : v.toInt ≤ 99999) (hl : L.length = k) (hk : 11 ≤ k + (numL v).length) : ∀ (m1 : Nat) (c1 : Nat → Int32), m1 ≤ 34 → k + (numL v).length ≤ m1 → sb_Fit c1 → Tx L c1 → ∃ r c2, F_J6_getChars_ba4f3 K v (nI (k + (numL v).length)) c1 m1 = some (r, c2) ∧ sb_Fit c2 ∧ Tx (L ++ numL v) c2 := by
  intro m1 c1 a1 a2 a3 a4
  obtain ⟨⟨r, c2⟩, e, f⟩ := gc_tot (i := v) hK a1 a3 hk a2
  have len : (L ++ numL v).length = k + (numL v).length := by rw [List.length_append, hl]
  obtain ⟨r', c2', e', t⟩ := gc_num hK h1 h2 a1 (by rw [len]; exact a2) a4 a3
  rw [len, e] at e'
  cases e'
  exact ⟨r, c2, e, f, t⟩
theorem i8_b {i : Nat} (hi : i < 8) : -99999 ≤ (nI i).toInt ∧ (nI i).toInt ≤ 99999 := by
  rw [nI_toInt (by omega)]
  omega
theorem gc_ofD {K k i : Nat} {L : List Int32} (hK : 200000 ≤ K) (hi : i < 8) (hl : L.length = k) : ∀ (m1 : Nat) (c1 : Nat → Int32), m1 ≤ 34 → k + (numL (nI i)).length ≤ m1 → sb_Fit c1 → Tx L c1 → ∃ r c2, F_J6_getChars_ba4f3 K (nI i) (nI (k + (numL (nI i)).length)) c1 m1 = some (r, c2) ∧ sb_Fit c2 ∧ Tx (L ++ numL (nI i)) c2 := by
  intro m1 c1 a1 a2 a3 a4
  have b := i8_b hi
  have l := num_len b.1 b.2
  obtain ⟨⟨r, c2⟩, e, f⟩ := gc_dig hK hi a1 a3 (show 1 ≤ k + (numL (nI i)).length by omega) a2
  have len : (L ++ numL (nI i)).length = k + (numL (nI i)).length := by rw [List.length_append, hl]
  obtain ⟨r', c2', e', t⟩ := gc_num hK b.1 b.2 a1 (by rw [len]; exact a2) a4 a3
  rw [len, e] at e'
  cases e'
  exact ⟨r, c2, e, f, t⟩
/-- a sign of one byte, as charAt reads it -/
def OkS (s : Int32) : Prop := ((s &&& (255 : Int32)).toUInt32 % 65536).toInt32 = s
def OkL (L : List Int32) : Prop := ∀ s ∈ L, OkS s
theorem OkL.app {L M : List Int32} (h : OkL L) (h2 : OkL M) : OkL (L ++ M) := fun s hs => (List.mem_append.mp hs).elim (h s) (h2 s)
theorem ok_nil : OkL [] := fun s h => absurd h List.not_mem_nil
theorem ok_d : ∀ d, d < 10 → OkS (nI (48 + d)) := by unfold OkS; decide +kernel
theorem ok_dg {a : Nat} : ∀ n, OkL (dgL a n) := by
  intro n
  induction n with
  | zero => exact fun s hs => absurd hs List.not_mem_nil
  | succ n ih =>
    intro s hs
    have hs : s ∈ nI (48 + a / 10 ^ n % 10) :: dgL a n := hs
    rcases List.mem_cons.mp hs with e | e
    · rw [e]
      exact ok_d _ (by omega)
    · exact ih s e
theorem ok_1 {s : Int32} (h : OkS s) : OkL [s] := fun x hx => by
  rw [List.mem_singleton.mp hx]
  exact h
theorem ok_num {v : Int32} : OkL (numL v) := by
  unfold numL
  by_cases c : v < 0
  · rw [if_pos c]
    exact (ok_1 (s := 45) (by unfold OkS; decide +kernel)).app (ok_dg _)
  · rw [if_neg c]
    exact ok_dg _
theorem ok_s12 : OkL (strB.getD 12 []) := by unfold OkL OkS; decide +kernel
theorem ok_s13 : OkL (strB.getD 13 []) := by unfold OkL OkS; decide +kernel
theorem ok_44 : OkS 44 := by unfold OkS; decide +kernel
theorem ok_33 : OkS 33 := by unfold OkS; decide +kernel
/-- what is asked of what is spelled: how many, the i-th -/
def chL (L : List Int32) (p r : Int32) : Prop := (p = -1 → r = nI L.length) ∧ (¬ p = -1 → (p < 0 ∨ ¬ p < nI L.length) → r = -1) ∧ ∀ j, j < L.length → p = nI j → L[j]? = some r
theorem chL.all {L : List Int32} {p : Int32} (hl : L.length < 2 ^ 30) (h : p = -1) : chL L p (nI L.length) := ⟨fun _ => rfl, fun q => absurd h q, fun j hj e => absurd (e.symm.trans h) (nI_ne_m1 (by omega))⟩
theorem chL.no {L : List Int32} {p : Int32} (hl : L.length < 2 ^ 30) (h : ¬ p = -1) (h2 : p < 0 ∨ ¬ p < nI L.length) : chL L p (-1) := ⟨fun q => absurd q h, fun _ _ => rfl, fun j hj e => by
  exfalso
  rw [e] at h2
  rcases h2 with z | z
  · exact nn0 (by omega) z
  · exact z ((nI_ltI (a := j) (b := L.length) (by omega) (by omega)).mpr hj)⟩
theorem chL.is {L : List Int32} {j : Nat} {r : Int32} (hl : L.length < 2 ^ 30) (hj : j < L.length) (h : L[j]? = some r) : chL L (nI j) r := ⟨fun q => absurd q (nI_ne_m1 (by omega)), fun _ q => by
  exfalso
  rcases q with z | z
  · exact nn0 (by omega) z
  · exact z ((nI_ltI (a := j) (b := L.length) (by omega) (by omega)).mpr hj), fun i hi e => by
  have w : j = i := (nI_eq (a := j) (b := i) (by omega) (by omega)).mp e
  rw [← w]
  exact h⟩
theorem chL.uq {L : List Int32} {p r v : Int32} (hl : L.length < 2 ^ 30) (h : chL L p r) (h2 : chL L p v) : r = v := by
  by_cases c : p = -1
  · exact (h.1 c).trans (h2.1 c).symm
  by_cases d : p < 0 ∨ ¬ p < nI L.length
  · exact (h.2.1 c d).trans (h2.2.1 c d).symm
  · obtain ⟨j, hj, e⟩ := nnI (p := p) (n := L.length) (by omega) (fun z => d (Or.inl z)) (fun z => d (Or.inr (fun w => lt_not.mp w z)))
    exact Option.some.inj ((h.2.2 j hj e).symm.trans (h2.2.2 j hj e))
theorem ca_val {n mz i : Nat} {L : List Int32} {c : Nat → Int32} {r : Int32} (hi : i < n) (hn : n ≤ mz) (hm : mz ≤ 34) (hT : Tx L c) (hl : L.length = n) (ok : OkL L) (e : F_J4_charAt_5068e (nI i) c 0 (nI n) mz = some r) : L[i]? = some r := by
  have q := hT i (by omega)
  have s : OkS (c i) := ok (c i) (List.mem_of_getElem? q)
  unfold F_J4_charAt_5068e F_J5_charAt_5068e F_J0_checkIndex_df160 F_J3_checkIndex_8e157null at e
  have em : minF (nI n) (Int32.ofNat mz >>> ((0 : Int32) &&& (31 : Int32))) = nI n := by
    rw [sb_shr0]
    unfold minF
    exact if_neg (nI_nlt hn (by omega))
  rw [em, if_neg (nI_pos (by omega)), if_pos (nI_lt hi (by omega)), xb1, xb1, if_pos rfl, xixn (by omega) (by omega), nI_clamp (by omega), s, xb1] at e
  rw [q, e]
/-- what is spelled of a site -/
def spB (p x y : Int32) : List Int32 := ((((([] ++ strB.getD 12 []) ++ numL p) ++ strB.getD 13 []) ++ numL x) ++ [44]) ++ numL y
def spL (p x y u : Int32) : List Int32 := if u = 0 then spB p x y ++ [33] else spB p x y
/-- what the class answers -/
def SpA (p1 p2 : Int32) (f : Nat → Int32) (r : Int32) : Prop := ∀ h0, F_X5_hasSite p1 f = some h0 → (h0 = 0 → r = -1) ∧ (¬ h0 = 0 → ∃ x9 y9 u8, F_X5_of p1 0 f = some x9 ∧ F_X5_of p1 1 f = some y9 ∧ F_X5_isQuiet p1 f = some u8 ∧ chL (spL p1 x9 y9 u8) p2 r)
theorem SpA.no {p1 p2 h0 : Int32} {f : Nat → Int32} (e : F_X5_hasSite p1 f = some h0) (q : h0 = 0) : SpA p1 p2 f (-1) := fun h1 e1 => by
  rw [e] at e1
  have w := Option.some.inj e1
  exact ⟨fun _ => rfl, fun z => absurd (w.symm.trans q) z⟩
theorem SpA.yes {p1 p2 h0 x9 y9 u8 r : Int32} {f : Nat → Int32} (e : F_X5_hasSite p1 f = some h0) (q : ¬ h0 = 0) (hx : F_X5_of p1 0 f = some x9) (hy : F_X5_of p1 1 f = some y9) (hu : F_X5_isQuiet p1 f = some u8) (h : chL (spL p1 x9 y9 u8) p2 r) : SpA p1 p2 f r := fun h1 e1 => by
  rw [e] at e1
  have w := Option.some.inj e1
  exact ⟨fun z => absurd (w.trans z) q, fun _ => ⟨x9, y9, u8, hx, hy, hu, h⟩⟩
theorem sp_len {p x y : Int32} (hp : 1 ≤ (numL p).length ∧ (numL p).length ≤ 6) (hx : 1 ≤ (numL x).length ∧ (numL x).length ≤ 6) (hy : 1 ≤ (numL y).length ∧ (numL y).length ≤ 6) : (spB p x y).length = 0 + 5 + (numL p).length + 4 + (numL x).length + 1 + (numL y).length ∧ (spB p x y).length ≤ 28 := by
  have e : (spB p x y).length = 0 + 5 + (numL p).length + 4 + (numL x).length + 1 + (numL y).length := by
    unfold spB
    simp only [List.length_append]
    rfl
  exact ⟨e, by omega⟩
theorem sp4 {L : List Int32} : (((L ++ [32]) ++ [97]) ++ [116]) ++ [32] = L ++ strB.getD 13 [] := by
  rw [List.append_assoc, List.append_assoc, List.append_assoc]
  rfl
/-- spell: the reference's answer is what the class's must be -/
theorem p_spell {n K : Nat} {f g sp : Nat → Int32} {x y sm : Int32} (hK : 200000 ≤ K) (h : RowR n f g) (hI : RowI n g) : ∃ v sp' sm', F_X8_spell K x y g (nI n) sp sm = some (v, sp', sm') ∧ ∀ r, SpA x y f r → r = v := by
  have n8 := h.n8
  unfold F_X8_spell
  rcases hs_both (p := x) n8 h.sz with ⟨i, hi, rfl, c1, c2⟩ | ⟨-, c1, c2⟩
  · have bi := i8_b (i := i) (by omega)
    have X := (hI.2 (by omega)).1 i hi
    have bx := inR_int X.1
    have by_ := inR_int X.2
    have li := num_len bi.1 bi.2
    have lx := num_len bx.1 bx.2
    have ly := num_len by_.1 by_.2
    have T0 : Tx [] sp := fun j hj => absurd hj (Nat.not_lt_zero _)
    obtain ⟨s1, a1, t1⟩ := sp_tx (c := 115) T0 (by decide)
    obtain ⟨s2, a2, t2⟩ := sp_tx (c := 105) t1 (by decide)
    obtain ⟨s3, a3, t3⟩ := sp_tx (c := 116) t2 (by decide)
    obtain ⟨s4, a4, t4⟩ := sp_tx (c := 101) t3 (by decide)
    obtain ⟨s5, a5, t5⟩ := sp_tx (c := 32) t4 (by decide)
    have e12 : ((((([] ++ [115]) ++ [105]) ++ [116]) ++ [101]) ++ [32] : List Int32) = [] ++ strB.getD 12 [] := rfl
    rw [e12] at t5 a5
    have l5 : (([] : List Int32) ++ strB.getD 12 []).length = 5 := rfl
    obtain ⟨s6, a6, t6⟩ := sn_num hK bi.1 bi.2 t5 (by omega)
    have l6 : (([] : List Int32) ++ strB.getD 12 [] ++ numL (nI i)).length = 5 + (numL (nI i)).length := by rw [List.length_append, l5]
    obtain ⟨s7, a7, t7⟩ := sp_tx (c := 32) t6 (by omega)
    obtain ⟨s8, a8, t8⟩ := sp_tx (c := 97) t7 (by rw [List.length_append]; show _ + 1 < 40; omega)
    obtain ⟨s9, a9, t9⟩ := sp_tx (c := 116) t8 (by rw [List.length_append, List.length_append]; show _ + 1 + 1 < 40; omega)
    obtain ⟨s10, a10, t10⟩ := sp_tx (c := 32) t9 (by rw [List.length_append, List.length_append, List.length_append]; show _ + 1 + 1 + 1 < 40; omega)
    rw [sp4] at t10 a10
    have l10 : (([] : List Int32) ++ strB.getD 12 [] ++ numL (nI i) ++ strB.getD 13 []).length = 5 + (numL (nI i)).length + 4 := by rw [List.length_append, l6]; rfl
    obtain ⟨s11, a11, t11⟩ := sn_num (v := g (0 + i)) hK bx.1 bx.2 t10 (by omega)
    have l11 : (([] : List Int32) ++ strB.getD 12 [] ++ numL (nI i) ++ strB.getD 13 [] ++ numL (g (0 + i))).length = 5 + (numL (nI i)).length + 4 + (numL (g (0 + i))).length := by rw [List.length_append, l10]
    obtain ⟨s12, a12, t12⟩ := sp_tx (c := 44) t11 (by omega)
    have l12 : (([] : List Int32) ++ strB.getD 12 [] ++ numL (nI i) ++ strB.getD 13 [] ++ numL (g (0 + i)) ++ [44]).length = 5 + (numL (nI i)).length + 4 + (numL (g (0 + i))).length + 1 := by rw [List.length_append, l11]; rfl
    obtain ⟨s13, a13, t13⟩ := sn_num (v := g (8 + i)) hK by_.1 by_.2 t12 (by omega)
    have SB : ([] : List Int32) ++ strB.getD 12 [] ++ numL (nI i) ++ strB.getD 13 [] ++ numL (g (0 + i)) ++ [44] ++ numL (g (8 + i)) = spB (nI i) (g (0 + i)) (g (8 + i)) := rfl
    rw [SB] at t13 a13
    obtain ⟨l13, b13⟩ := sp_len (p := nI i) (x := g (0 + i)) (y := g (8 + i)) li lx ly
    have ox : F_X5_of (nI i) 0 f = some (g (0 + i)) := (bx_of (c := 0) (by rfl) (by omega) (by decide)).trans (congrArg some (h.1.2.2.1 i 0 hi (by decide)))
    have oy : F_X5_of (nI i) 1 f = some (g (8 + i)) := (bx_of (c := 1) (by rfl) (by omega) (by decide)).trans (congrArg some (h.1.2.2.1 i 1 hi (by decide)))
    obtain ⟨u1, u2⟩ := qs_both hK h hI.1 hi
    have J : ∀ (M : List Int32) (s : Nat → Int32), Tx M s → M.length ≤ 34 → 1 ≤ M.length → M = spL (nI i) (g (0 + i)) (g (8 + i)) (qvl f (cdr f i 0) (cdr f i 1)) → ∃ v sp' sm', J_X8_spell_119 y s (nI M.length) = some (v, sp', sm') ∧ ∀ r, SpA (nI i) y f r → r = v := by
      intro M s hM hl hl1 eM
      have fin : ∀ v, chL M y v → ∀ r, SpA (nI i) y f r → r = v := by
        intro v hv r hr
        obtain ⟨x9, y9, u9, q1, q2, q3, q4⟩ := (hr 1 c1).2 n10
        rw [ox] at q1
        rw [oy] at q2
        rw [u1] at q3
        rw [← Option.some.inj q1, ← Option.some.inj q2, ← Option.some.inj q3, ← eM] at q4
        exact chL.uq (by omega) q4 hv
      unfold J_X8_spell_119
      by_cases c : y = -1
      · rw [if_pos c]
        exact ⟨_, _, _, rfl, fin _ (chL.all (by omega) c)⟩
      · rw [if_neg c, show nI M.length - (1 : Int32) = nI (M.length - 1) from xsub (b := 1) hl1, m_in0 (m := M.length - 1) rfl, xb1]
        by_cases d : 0 ≤ y ∧ y ≤ nI (M.length - 1)
        · obtain ⟨j, hj, rfl⟩ := in_nat (n := M.length - 1) (by omega) d
          rw [if_pos d, if_neg n10, xixn (show j < 40 by omega) (by decide), nI_clamp (by omega)]
          exact ⟨_, _, _, rfl, fin _ (chL.is (by omega) (by omega) (hM j (by omega)))⟩
        · rw [if_neg d, if_pos rfl]
          refine ⟨_, _, _, rfl, fin _ (chL.no (by omega) c ?_)⟩
          by_cases z : y < 0
          · exact Or.inl z
          · refine Or.inr (fun w => d ⟨Int32.not_lt.mp z, ?_⟩)
            obtain ⟨j, hj, rfl⟩ := nnI (p := y) (n := M.length) (by omega) z (lt_not.mp w)
            exact (nI_leI (a := j) (b := M.length - 1) (by omega) (by omega)).mpr (by omega)
    have k0 : ((0 : Int32) + nI i) = nI (0 + i) := nI_add 0 i
    have k8 : ((8 : Int32) + nI i) = nI (8 + i) := nI_add 8 i
    have z0 : (0 : Int32) = nI ([] : List Int32).length := rfl
    rw [c2, xb1, if_neg n10, z0, a1, xb2, a2, xb2, a3, xb2, a4, xb2, a5, xb2, a6, xb2, a7, xb2, a8, xb2, a9, xb2, a10, xb2, ← z0, k0, xixn (by omega) (by decide), nI_clamp (show 0 + i < 2 ^ 31 by omega), a11, xb2, a12, xb2, k8, xixn (by omega) (by decide), nI_clamp (show 8 + i < 2 ^ 31 by omega), a13, xb2, u2, xb1]
    by_cases w : qvl f (cdr f i 0) (cdr f i 1) = 0
    · obtain ⟨s14, a14, t14⟩ := sp_tx (c := 33) t13 (by omega)
      rw [if_pos w, a14, xb2]
      exact J _ s14 t14 (by rw [List.length_append]; show _ + 1 ≤ 34; omega) (by rw [List.length_append]; show 1 ≤ _ + 1; omega) (by unfold spL; rw [if_pos w])
    · rw [if_neg w]
      exact J _ s13 t13 (by omega) (by omega) (by unfold spL; rw [if_neg w])
  · rw [c2, xb1, if_pos rfl]
    exact ⟨_, _, _, rfl, fun r hr => (hr 0 c1).1 rfl⟩
theorem sp_xy {n : Nat} {f g : Nat → Int32} {p1 : Int32} (h : RowR n f g) (hI : RowI n g) : ∀ (i9 : Nat) (v9 : Int32), i9 < 8 → p1 = nI i9 → ∀ h0, F_X5_hasSite p1 f = some h0 → ¬ h0 = 0 → (F_X5_of (nI i9) 0 f = some v9 ∨ F_X5_of (nI i9) 1 f = some v9) → -99999 ≤ v9.toInt ∧ v9.toInt ≤ 99999 := by
  intro i9 v9 h8 e h0 hh q hv
  have n8 := h.n8
  rcases hs_both (p := p1) n8 h.sz with ⟨i, hi, e2, c1, -⟩ | ⟨-, c1, -⟩
  · have ei : i9 = i := (nI_eq (a := i9) (b := i) (by omega) (by omega)).mp (e.symm.trans e2)
    subst ei
    have X := (hI.2 (by omega)).1 i9 hi
    rcases hv with z | z
    · rw [bx_of (c := 0) (by rfl) h8 (by decide)] at z
      rw [← Option.some.inj z, h.1.2.2.1 i9 0 hi (by decide)]
      exact inR_int X.1
    · rw [bx_of (c := 1) (by rfl) h8 (by decide)] at z
      rw [← Option.some.inj z, h.1.2.2.1 i9 1 hi (by decide)]
      exact inR_int X.2
  · rw [c1] at hh
    exact absurd (Option.some.inj hh).symm q
end
