/-! the loop of goes: what falls -/
def Lf (w : Nat → Int32) : Int := (w 66).toInt - (w 73).toInt
theorem Lf_hi (w : Nat → Int32) : Lf w < 4294967296 := by
  unfold Lf
  have := Int32.toInt_lt (w 66)
  have := Int32.le_toInt (w 73)
  omega
theorem st_lo {n : Nat} {w : Nat → Int32} (h : 0 ≤ Lf w) (h2 : Lf w < 2147483648) : st n w = (Lf w).toNat / (2 * n) := by
  unfold Lf at h h2
  unfold st Lf
  rw [Int32.toInt_sub, Int.bmod_eq_of_le (by omega) (by omega)]
theorem st_hi {n : Nat} {w : Nat → Int32} (h : 2147483648 ≤ Lf w) : st n w = 0 := by
  have h3 := Lf_hi w
  unfold Lf at h h3
  unfold st
  have e : ((w 66).toInt - (w 73).toInt).bmod (2 ^ 32) = ((w 66).toInt - (w 73).toInt - 4294967296) := by
    rw [Int.bmod_def]
    split <;> omega
  rw [Int32.toInt_sub, e, show ((w 66).toInt - (w 73).toInt - 4294967296).toNat = 0 by omega, Nat.zero_div]
theorem add1_toInt {x y : Int32} (h : x < y) : (x + 1).toInt = x.toInt + 1 := by
  have a := Int32.lt_iff_toInt_lt.mp h
  have b := Int32.toInt_lt y
  have c := Int32.le_toInt x
  have o : (1 : Int32).toInt = 1 := rfl
  rw [Int32.toInt_add, o, Int.bmod_eq_of_le (by omega) (by omega)]
theorem add1_toInt' {x : Int32} (h : x.toInt < 2147483647) : (x + 1).toInt = x.toInt + 1 := by
  have c := Int32.le_toInt x
  have o : (1 : Int32).toInt = 1 := rfl
  rw [Int32.toInt_add, o, Int.bmod_eq_of_le (by omega) (by omega)]
def GP (n i s k : Nat) (w : Nat → Int32) : Prop :=
  (st n w = 0 ∧ Lf w < 2147483648 ∧ k = (Lf w).toNat) ∨
  (0 < st n w ∧ (w (56 + i)).toInt < (st n w : Int) ∧ (k : Int) = 73786976294838206464 + (((n * st n w : Nat) : Int) - ((s * st n w : Nat) : Int) - (w (56 + i)).toInt)) ∨
  (0 < st n w ∧ k = 147573952589676412928) ∨
  (2147483648 ≤ Lf w ∧ (k : Int) = 295147905179352825856 + Lf w) ∨
  (∃ r, w (56 + i) = nI r ∧ (r < st n w ∨ (r = 0 ∧ s = 0)) ∧ w 73 + nI (s * st n w + r) = sm w n ∧ k = (Lf w * 4294967296 + ((n * st n w : Nat) : Int) - ((s * st n w + r : Nat) : Int)).toNat)
theorem sa_lt {s n a : Nat} (hs : s < n) : s * a + a ≤ n * a := by
  have := Nat.mul_le_mul_right a (show s + 1 ≤ n by omega)
  rw [Nat.succ_mul] at this
  exact this
theorem gp_end {n i : Nat} {v : Nat → Int32} (h0 : 0 < n) (v73 : v 73 = sm v n) (v56 : v (56 + i) = 0) : GP n i 0 (Lf v * 4294967296 + ((n * st n v : Nat) : Int)).toNat v := by
  refine Or.inr (Or.inr (Or.inr (Or.inr ⟨0, v56, Or.inr ⟨rfl, rfl⟩, ?_, ?_⟩)))
  · rw [Nat.zero_mul, v73]
    exact Int32.add_zero _
  · rw [Nat.zero_mul]
    congr 1
    omega
theorem gp_1 {n i s k : Nat} {w v : Nat → Int32} (h0 : 0 < n) (hn : n ≤ 8) (h : GP n i s k w) (hlt : w 73 < w 66) (v66 : v 66 = w 66) (vsm : sm v n = sm w n + 1) (a0 : st n w = 0) (v73 : v 73 = w 73 + 1) (v56 : v (56 + i) = w (56 + i)) : ∃ k', k' < k ∧ GP n i s k' v := by
  have hL : 0 < Lf w := by unfold Lf; have := Int32.lt_iff_toInt_lt.mp hlt; omega
  have hv : Lf v = Lf w - 1 := by
    unfold Lf
    rw [v66, v73, add1_toInt hlt]
    omega
  have hb := (st_lt (g := v) h0).2.1
  rcases h with ⟨-, b1, b2⟩ | ⟨b0, -⟩ | ⟨b0, -⟩ | ⟨b1, b2⟩ | ⟨r, b1, b2, b3, b4⟩
  · have e := st_lo (n := n) (w := w) (by omega) b1
    rw [a0] at e
    have q : (Lf w).toNat < 2 * n := by
      rcases Nat.lt_or_ge (Lf w).toNat (2 * n) with q | q
      · exact q
      · have := Nat.div_pos q (show 0 < 2 * n by omega)
        omega
    refine ⟨(Lf v).toNat, by omega, Or.inl ⟨?_, by omega, rfl⟩⟩
    rw [st_lo (by omega) (by omega)]
    exact Nat.div_eq_of_lt (by omega)
  · omega
  · omega
  · by_cases q : 2147483648 ≤ Lf v
    · exact ⟨k - 1, by omega, Or.inr (Or.inr (Or.inr (Or.inl ⟨q, by omega⟩)))⟩
    · refine ⟨147573952589676412928, by omega, Or.inr (Or.inr (Or.inl ⟨?_, rfl⟩))⟩
      rw [st_lo (by omega) (by omega)]
      exact Nat.div_pos (by omega) (by omega)
  · obtain ⟨rfl, rfl⟩ : r = 0 ∧ s = 0 := by
      rcases b2 with b2 | b2
      · omega
      · exact b2
    rw [Nat.zero_mul] at b3 b4
    have b3 : w 73 + nI 0 = sm w n := b3
    rw [show nI 0 = (0 : Int32) from rfl, Int32.add_zero] at b3
    rw [a0, Nat.mul_zero] at b4
    refine ⟨(Lf v * 4294967296 + ((n * st n v : Nat) : Int)).toNat, by omega, gp_end h0 ?_ (v56.trans b1)⟩
    rw [v73, vsm, b3]
theorem gp_2 {n i s t k : Nat} {w v : Nat → Int32} (h0 : 0 < n) (hn : n ≤ 8) (hs : s < n) (ht : t < n) (h : GP n i s k w) (hlt : w 73 < w 66) (v66 : v 66 = w 66) (vsm : sm v n = sm w n + 1) (a0 : 0 < st n w) (v73 : v 73 = w 73) (vlt : (v (56 + i)).toInt < (st n w : Int)) (vnn : 0 ≤ (w (56 + i) + 1).toInt → 0 ≤ (v (56 + i)).toInt) (veq : (v (56 + i)).toInt + ((t * st n w : Nat) : Int) = (w (56 + i) + 1).toInt + ((s * st n w : Nat) : Int)) : ∃ k', k' < k ∧ GP n i t k' v := by
  have hL : 0 < Lf w := by unfold Lf; have := Int32.lt_iff_toInt_lt.mp hlt; omega
  have hv : Lf v = Lf w := by unfold Lf; rw [v66, v73]
  have sv : st n v = st n w := st_of v66 v73
  have hb := st_lt (g := w) h0
  have hS := sa_lt (a := st n w) hs
  have hT := sa_lt (a := st n w) ht
  have lo := Int32.le_toInt (v (56 + i))
  rcases h with ⟨b0, -⟩ | ⟨-, b1, b2⟩ | ⟨-, b1⟩ | ⟨b1, -⟩ | ⟨r, b1, b2, b3, b4⟩
  · omega
  · rw [add1_toInt' (by omega)] at veq
    refine ⟨k - 1, by omega, Or.inr (Or.inl ?_)⟩
    rw [sv]
    exact ⟨a0, vlt, by omega⟩
  · refine ⟨(73786976294838206464 + (((n * st n w : Nat) : Int) - ((t * st n w : Nat) : Int) - (v (56 + i)).toInt)).toNat, by omega, Or.inr (Or.inl ?_)⟩
    rw [sv]
    exact ⟨a0, vlt, by omega⟩
  · have := st_hi (n := n) b1
    omega
  · have hr : r < st n w := by
      rcases b2 with b2 | b2
      · exact b2
      · omega
    have rt : (w (56 + i)).toInt = (r : Int) := by rw [b1, nI_toInt (by omega)]
    rw [add1_toInt' (by omega), rt] at veq vnn
    have nn := vnn (by omega)
    have rv : v (56 + i) = nI (v (56 + i)).toInt.toNat := by
      apply Int32.toInt_inj.mp
      rw [nI_toInt (by omega)]
      omega
    have et : t * st n w + (v (56 + i)).toInt.toNat = s * st n w + r + 1 := by omega
    refine ⟨k - 1, by omega, Or.inr (Or.inr (Or.inr (Or.inr ⟨(v (56 + i)).toInt.toNat, rv, Or.inl ?_, ?_, ?_⟩)))⟩
    · rw [sv]
      omega
    · rw [sv, et, vsm, v73, ← b3, ← nI_1, Int32.add_assoc]
    · rw [sv, et, hv]
      omega
theorem gp_3 {n i s k : Nat} {w v : Nat → Int32} (h0 : 0 < n) (hn : n ≤ 8) (hs : s < n) (h : GP n i s k w) (hlt : w 73 < w 66) (v66 : v 66 = w 66) (vsm : sm v n = sm w n + 1) (a0 : 0 < st n w) (v73 : v 73 = sm v n) (v56 : v (56 + i) = 0) (hge : ((n * st n w : Nat) : Int) ≤ (w (56 + i) + 1).toInt + ((s * st n w : Nat) : Int)) : ∃ k', k' < k ∧ GP n i 0 k' v := by
  have hL : 0 < Lf w := by unfold Lf; have := Int32.lt_iff_toInt_lt.mp hlt; omega
  have hb := st_lt (g := w) h0
  have hb2 := (st_lt (g := v) h0).2.1
  have hS := sa_lt (a := st n w) hs
  have hvh := Lf_hi v
  refine ⟨(Lf v * 4294967296 + ((n * st n v : Nat) : Int)).toNat, ?_, gp_end h0 v73 v56⟩
  rcases h with ⟨b0, -⟩ | ⟨-, b1, b2⟩ | ⟨-, b1⟩ | ⟨b1, -⟩ | ⟨r, b1, b2, b3, b4⟩
  · omega
  · omega
  · omega
  · have := st_hi (n := n) b1
    omega
  · have hr : r < st n w := by
      rcases b2 with b2 | b2
      · exact b2
      · omega
    have rt : (w (56 + i)).toInt = (r : Int) := by rw [b1, nI_toInt (by omega)]
    rw [add1_toInt' (by omega), rt] at hge
    have ep : s * st n w + r + 1 = n * st n w := by omega
    have hlo : Lf w < 2147483648 := by
      rcases Int.lt_or_le (Lf w) 2147483648 with q | q
      · exact q
      · have := st_hi (n := n) q
        omega
    have em : (w 66 - w 73).toInt = Lf w := by
      have h2 := hlo
      have h1 := hL
      unfold Lf at h1 h2 ⊢
      rw [Int32.toInt_sub, Int.bmod_eq_of_le (by omega) (by omega)]
    have e73 : v 73 = w 73 + nI (n * st n w) := by rw [v73, vsm, ← b3, ← ep, ← nI_1, Int32.add_assoc]
    have t73 : (v 73).toInt = (w 73).toInt + ((n * st n w : Nat) : Int) := by
      have c1 := Int32.le_toInt (w 73)
      have c2 := Int32.toInt_lt (w 66)
      have c3 : Lf w = (w 66).toInt - (w 73).toInt := rfl
      rw [e73, Int32.toInt_add, nI_toInt (by omega), Int.bmod_eq_of_le (by omega) (by omega)]
    have hv : Lf v = Lf w - ((n * st n w : Nat) : Int) := by
      unfold Lf
      rw [v66, t73]
      omega
    omega
abbrev GI (n i : Nat) (g : Nat → Int32) (k : Nat) (u : Int32 × Int32 × (Nat → Int32)) : Prop := u.2.2 84 = g 84 ∧ ∃ s, s < n ∧ u.2.2 75 = nI s ∧ GP n i s k u.2.2
theorem u_goesB {K n i k : Nat} {g w : Nat → Int32} {x3 x4 : Int32} (hi : i < n) (hK : 200000 ≤ K) (hn : n ≤ 8) (hu : GI n i g k (x3, x4, w)) : Tt (B_X8_goes_36 K (nI i) (nI n) x3 x4 w) (Dn (GI n i g) (fun x : Int32 × Int32 × (Nat → Int32) => x.2.2 84 = g 84) k) := by
  obtain ⟨h1, s, hs, h2, h3⟩ := hu
  have h1 : w 84 = g 84 := h1
  have h2 : w 75 = nI s := h2
  have h3 : GP n i s k w := h3
  have h0 : 0 < n := by omega
  unfold B_X8_goes_36 F_X8_isReached
  by_cases q : w 73 < w 66
  · rw [if_pos q, xb1, if_pos rfl]
    refine tt_bd2 (u_add1 hi hK hn hs h2) (fun r v hv => tt_some ?_)
    obtain ⟨v84, v66, vsm, cl⟩ := hv
    rcases cl with ⟨a0, v73, v75, v56⟩ | ⟨a0, v73, t, ht, v75, vlt, vnn, veq⟩ | ⟨a0, v73, v75, v56, hge⟩
    · obtain ⟨k', hk, hg⟩ := gp_1 h0 hn h3 q v66 vsm a0 v73 v56
      exact dn_l hk ⟨v84.trans h1, s, hs, v75.trans h2, hg⟩
    · obtain ⟨k', hk, hg⟩ := gp_2 h0 hn hs ht h3 q v66 vsm a0 v73 vlt vnn veq
      exact dn_l hk ⟨v84.trans h1, t, ht, v75, hg⟩
    · obtain ⟨k', hk, hg⟩ := gp_3 h0 hn hs h3 q v66 vsm a0 v73 v56 hge
      exact dn_l hk ⟨v84.trans h1, 0, h0, v75, hg⟩
  · rw [if_neg q, xb1, if_neg (by decide)]
    exact tt_some (dn_r h1)
theorem u_goes {K n : Nat} {p1 p2 : Int32} {g as : Nat → Int32} (hK : 590295810358705651712 ≤ K) (hn : n ≤ 8) (hs : SgOK n (g 75)) : Tt (F_X8_goes K p1 p2 g (nI n) as) (fun x => Kp x.2.1 g) := by
  have hK2 : 200000 ≤ K := by omega
  unfold F_X8_goes
  refine tt_bd1 (u_isSite hn) (fun r hr => tt_ite (fun _ => tt_some (Kp.refl g)) (fun r0 => ?_))
  obtain ⟨i, hi, rfl⟩ := hr r0
  obtain ⟨s, hs1, hs2⟩ := hs
  have hs1 : s < n := by omega
  refine tt_bd1 u_in (fun _ _ => tt_ite (fun _ => tt_some (Kp.refl g)) (fun _ => tt_bd1 (P := fun r => r = 0 → g 73 < g 66) ?_ (fun r9 h9 => tt_ite (fun c9 => tt_bd1 (u_putAside hK2) (fun w13 h13 => ?_)) (fun _ => tt_some (Kp.refl g)))))
  · unfold F_X8_isReached
    exact tt_ite (fun q => tt_some (fun _ => q)) (fun _ => tt_some (fun z => absurd z (by decide)))
  have hlt := h9 c9
  have hL : 0 < Lf g := by unfold Lf; have := Int32.lt_iff_toInt_lt.mp hlt; omega
  have hH := Lf_hi g
  obtain ⟨k, hk, hg⟩ : ∃ k, k < K ∧ GP n i s k g := by
    by_cases q : 0 < st n g
    · exact ⟨147573952589676412928, by omega, Or.inr (Or.inr (Or.inl ⟨q, rfl⟩))⟩
    · by_cases q2 : 2147483648 ≤ Lf g
      · exact ⟨(295147905179352825856 + Lf g).toNat, by omega, Or.inr (Or.inr (Or.inr (Or.inl ⟨q2, by omega⟩)))⟩
      · exact ⟨(Lf g).toNat, by omega, Or.inl ⟨by omega, by omega, rfl⟩⟩
  exact tt_bd3 (tt_tot (GI n i g) (fun k u hu => u_goesB hi hK2 hn hu) K k _ hk ⟨rfl, s, hs1, hs2, hg⟩) (fun _ _ _ hx => tt_bd1 (u_bringBack hK2) (fun w26 h26 => tt_ite (fun _ => tt_some (kp_back h13 hx h26)) (fun _ => tt_some (kp_back h13 hx h26))))
