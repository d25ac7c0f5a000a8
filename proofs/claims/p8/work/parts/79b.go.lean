/-! the reference's goes ends, from any numbers: a round of signals brings KNOWN to the counts' sum, half the way at most -/
def sm (g : Nat → Int32) : Nat → Int32
  | 0 => 0
  | k + 1 => sm g k + g (48 + k)
theorem sm_eq {g h : Nat → Int32} (e : ∀ y, y < 56 → h y = g y) : ∀ n, n ≤ 8 → sm h n = sm g n := by
  intro n
  induction n with
  | zero => exact fun _ => rfl
  | succ k ih =>
    intro hk
    show sm h k + h (48 + k) = sm g k + g (48 + k)
    rw [ih (by omega), e (48 + k) (by omega)]
theorem sm_up {g : Nat → Int32} {i : Nat} : ∀ n, sm (upd g (48 + i) (g (48 + i) + 1)) n = if i < n then sm g n + 1 else sm g n := by
  intro n
  induction n with
  | zero => exact (if_neg (Nat.not_lt_zero _)).symm
  | succ k ih =>
    show sm (upd g (48 + i) (g (48 + i) + 1)) k + upd g (48 + i) (g (48 + i) + 1) (48 + k) = if i < k + 1 then (sm g k + g (48 + k)) + 1 else sm g k + g (48 + k)
    rw [ih]
    by_cases e : i = k
    · rw [e, if_neg (Nat.lt_irrefl _), if_pos (Nat.lt_succ_self _), upd_at, Int32.add_assoc]
    · rw [upd_no (by omega)]
      by_cases q : i < k
      · rw [if_pos q, if_pos (by omega), Int32.add_assoc, Int32.add_comm 1, Int32.add_assoc]
      · rw [if_neg q, if_neg (by omega)]
theorem m_sum48 {K n : Nat} {g : Nat → Int32} (hK : 200000 ≤ K) (hn : n ≤ 8) : F_X8_sum K 48 g (nI n) = some (sm g n) := by
  have h : lpF (fun u9 : Int32 × Int32 => B_X8_sum_4 48 (nI n) g u9.1 u9.2) K ((0 : Int32), (0 : Int32)) = some (sm g n) := by
    refine lp_for (fun j => (sm g j, nI j)) (n := n) (by omega) (fun j hj => ?_) ?_
    · show B_X8_sum_4 48 (nI n) g (sm g j) (nI j) = some (.inl (sm g j + g (48 + j), nI (j + 1)))
      unfold B_X8_sum_4
      rw [if_neg (mt (nI_leI (a := n) (b := j) (by omega) (by omega)).mp (by omega)), i48, xixn (by omega) (by decide), nI_clamp (by omega), nI_1]
    · show B_X8_sum_4 48 (nI n) g (sm g n) (nI n) = some (.inr (sm g n))
      unfold B_X8_sum_4
      rw [if_pos ((nI_leI (a := n) (b := n) (by omega) (by omega)).mpr (Nat.le_refl _))]
  unfold F_X8_sum
  rw [h, xb1]
def st (n : Nat) (g : Nat → Int32) : Nat := (g 66 - g 73).toInt.toNat / (2 * n)
theorem st_of {n : Nat} {g h : Nat → Int32} (e1 : h 66 = g 66) (e2 : h 73 = g 73) : st n h = st n g := by unfold st; rw [e1, e2]
theorem m_step {n : Nat} {g : Nat → Int32} (h0 : 0 < n) (hn : n ≤ 8) : F_X8_step g (nI n) = some (nI (st n g)) := by
  unfold F_X8_step st
  generalize g 66 - g 73 = x
  have z : (0 : Int32).toInt = 0 := rfl
  have hm : x.toInt.toNat < 2 ^ 31 := by have := Int32.toInt_lt x; omega
  by_cases q : x ≤ 0
  · have h : x.toInt ≤ 0 := by have := Int32.le_iff_toInt_le.mp q; omega
    rw [if_pos q, show x.toInt.toNat = 0 by omega, Nat.zero_div]
    rfl
  · have h : 0 < x.toInt := by have := mt Int32.le_iff_toInt_le.mpr q; omega
    have hx : x = nI x.toInt.toNat := by
      apply Int32.toInt_inj.mp
      rw [nI_toInt hm]
      omega
    have e2 : (2 : Int32) * nI n = nI (2 * n) := by rw [show (2 : Int32) = nI 2 from rfl, nI_mul]
    have ed : x / nI (2 * n) = nI (x.toInt.toNat / (2 * n)) := (congrArg (fun y => y / nI (2 * n)) hx).trans (Int32.ofNat_div hm (by omega)).symm
    have enz : ¬ nI (2 * n) = 0 := fun e => by
      have := (nI_eq (a := 2 * n) (b := 0) (by omega) (by omega)).mp e
      omega
    rw [if_neg q, e2]
    unfold nzI
    rw [if_neg enz, ed]
theorem st_lt {n : Nat} {g : Nat → Int32} (h0 : 0 < n) : n * st n g ≤ (g 66 - g 73).toInt.toNat ∧ 2 * (n * st n g) < 2 ^ 31 ∧ st n g < 2 ^ 30 := by
  have hm : (g 66 - g 73).toInt.toNat < 2 ^ 31 := by have := Int32.toInt_lt (g 66 - g 73); omega
  have h := Nat.div_mul_le_self (g 66 - g 73).toInt.toNat (2 * n)
  have e : st n g * (2 * n) = 2 * (n * st n g) := by rw [Nat.mul_comm, Nat.mul_assoc]
  have h2 : st n g * (2 * n) ≤ (g 66 - g 73).toInt.toNat := h
  have h3 : 1 * st n g ≤ n * st n g := Nat.mul_le_mul_right _ h0
  omega
theorem u_ends2 {K n : Nat} {g : Nat → Int32} (hK : 200000 ≤ K) (hn : n ≤ 8) : Tt (F_X8_endsRound K g (nI n)) (fun x => x 84 = g 84 ∧ x 66 = g 66 ∧ sm x n = sm g n ∧ x 73 = sm g n ∧ x 75 = 0 ∧ ∀ i, i < n → x (56 + i) = 0) := by
  unfold F_X8_endsRound
  rw [m_sum48 hK hn, xb1]
  refine tt_nm ?_
  refine tt_bd1 (P := fun x => (x 84 = g 84 ∧ x 66 = g 66 ∧ (∀ y, y < 56 → x y = g y) ∧ x 73 = sm g n) ∧ ∀ i, i < n → x (56 + i) = 0) (tt_for (fun j u => u.1 = nI j ∧ (u.2 84 = g 84 ∧ u.2 66 = g 66 ∧ (∀ y, y < 56 → u.2 y = g y) ∧ u.2 73 = sm g n) ∧ ∀ i, i < j → u.2 (56 + i) = 0) 8 (by omega) ⟨rfl, ⟨show upd g 73 (sm g n) 84 = g 84 from upd_no (by decide), show upd g 73 (sm g n) 66 = g 66 from upd_no (by decide), fun y hy => show upd g 73 (sm g n) y = g y from upd_no (by omega), show upd g 73 (sm g n) 73 = sm g n from upd_at⟩, fun i hi => absurd hi (Nat.not_lt_zero _)⟩ (fun j u hj hu => ?_)) (fun w hw => tt_nm (tt_nm (tt_some ?_)))
  · obtain ⟨h1, ⟨a1, a2, a3, a4⟩, h3⟩ := hu
    unfold B_X8_endsRound_15
    refine tt_ite (fun q => tt_some (nx_r ⟨⟨a1, a2, a3, a4⟩, fun i hi => h3 i ?_⟩)) (fun q => ?_)
    · rw [h1] at q
      have := (nI_leI (a := n) (b := j) (by omega) (by omega)).mp q
      omega
    · have jl := sl hn hj h1 q
      rw [h1, i56, nI_clamp (by omega)]
      refine tt_ixn (by omega) (by decide) (tt_nm (tt_some (nx_l (by omega) ⟨nx1 rfl, ⟨(upd_no (by omega)).trans a1, (upd_no (by omega)).trans a2, fun y hy => (upd_no (by omega)).trans (a3 y hy), (upd_no (by omega)).trans a4⟩, fun i hi => ?_⟩)))
      by_cases e : i = j
      · rw [e]
        exact upd_at
      · exact (upd_no (by omega)).trans (h3 i (by omega))
  · obtain ⟨⟨a1, a2, a3, a4⟩, h3⟩ := hw
    exact ⟨(upd_no (by decide)).trans ((upd_no (by decide)).trans a1), (upd_no (by decide)).trans ((upd_no (by decide)).trans a2), sm_eq (fun y hy => (upd_no (by omega)).trans ((upd_no (by omega)).trans (a3 y hy))) n hn, (upd_no (by decide)).trans ((upd_no (by decide)).trans a4), (upd_no (by decide)).trans upd_at, fun i hi => (upd_no (by omega)).trans ((upd_no (by omega)).trans (h3 i hi))⟩
abbrev AJ (n i s a : Nat) (h : Nat → Int32) (k : Nat) (u : Int32 × (Nat → Int32)) : Prop := u.2 84 = h 84 ∧ u.2 66 = h 66 ∧ sm u.2 n = sm h n ∧ ((u.2 73 = h 73 ∧ ∃ t, t < n ∧ u.2 75 = nI t ∧ k = n - t + 2 ∧ (0 ≤ (h (56 + i)).toInt → 0 ≤ (u.2 (56 + i)).toInt) ∧ (u.2 (56 + i)).toInt + ((t * a : Nat) : Int) = (h (56 + i)).toInt + ((s * a : Nat) : Int)) ∨ (k = 1 ∧ u.2 73 = sm u.2 n ∧ u.2 75 = 0 ∧ u.2 (56 + i) = 0 ∧ ((n * a : Nat) : Int) ≤ (h (56 + i)).toInt + ((s * a : Nat) : Int)))
def AR (n i s a : Nat) (h w : Nat → Int32) : Prop := w 84 = h 84 ∧ w 66 = h 66 ∧ sm w n = sm h n ∧ ((w 73 = h 73 ∧ ∃ t, t < n ∧ w 75 = nI t ∧ (w (56 + i)).toInt < (a : Int) ∧ (0 ≤ (h (56 + i)).toInt → 0 ≤ (w (56 + i)).toInt) ∧ (w (56 + i)).toInt + ((t * a : Nat) : Int) = (h (56 + i)).toInt + ((s * a : Nat) : Int)) ∨ (w 73 = sm w n ∧ w 75 = 0 ∧ w (56 + i) = 0 ∧ ((n * a : Nat) : Int) ≤ (h (56 + i)).toInt + ((s * a : Nat) : Int)))
theorem sub_toInt {x : Int32} {a : Nat} (ha : a < 2 ^ 30) (h : (a : Int) ≤ x.toInt) : (x - nI a).toInt = x.toInt - (a : Int) := by
  have h1 := Int32.toInt_lt x
  rw [Int32.toInt_sub, nI_toInt (by omega), Int.bmod_eq_of_le (by omega) (by omega)]
theorem u_add1B {K n i s a k : Nat} {h w : Nat → Int32} {x3 : Int32} (hi : i < n) (hK : 200000 ≤ K) (hn : n ≤ 8) (ha : a = st n h) (a0 : 0 < a) (hu : AJ n i s a h k (x3, w)) : Tt (B_X8_addsNow_48 K (nI i) (nI n) x3 w) (Dn (AJ n i s a h) (fun x : Int32 × (Nat → Int32) => AR n i s a h x.2) k) := by
  obtain ⟨h1, h2, h3, h4⟩ := hu
  have h1 : w 84 = h 84 := h1
  have h2 : w 66 = h 66 := h2
  have h3 : sm w n = sm h n := h3
  have hb : st n w < 2 ^ 30 := (st_lt (by omega)).2.2
  unfold B_X8_addsNow_48
  rw [i56, nI_clamp (show 56 + i < 2 ^ 31 by omega)]
  simp only [m_step (show 0 < n by omega) hn, xb1]
  rcases h4 with ⟨h5, t, ht, h6, h7, h8, h9⟩ | ⟨h5, h6, h7, h8, h9⟩
  · have h5 : w 73 = h 73 := h5
    have h6 : w 75 = nI t := h6
    have h8 : 0 ≤ (h (56 + i)).toInt → 0 ≤ (w (56 + i)).toInt := h8
    have h9 : (w (56 + i)).toInt + ((t * a : Nat) : Int) = (h (56 + i)).toInt + ((s * a : Nat) : Int) := h9
    have es : st n w = a := (st_of h2 h5).trans ha.symm
    rw [es] at hb ⊢
    refine tt_ite (fun q => absurd ((nI_leI (a := a) (b := 0) (by omega) (by omega)).mp q) (by omega)) (fun _ => tt_ixn (by omega) (by decide) (tt_ite (fun q => tt_some (dn_r ⟨h1, h2, h3, Or.inl ⟨h5, t, ht, h6, ?_, h8, h9⟩⟩)) (fun q => ?_)))
    · have := Int32.lt_iff_toInt_lt.mp q
      rw [nI_toInt (by omega)] at this
      exact this
    have qa : (a : Int) ≤ (w (56 + i)).toInt := by
      have := mt Int32.lt_iff_toInt_lt.mpr q
      rw [nI_toInt (by omega)] at this
      omega
    refine tt_ixn (by omega) (by decide) (tt_ixn (by omega) (by decide) (tt_nm (tt_nm ?_)))
    have f75 : upd (upd w (56 + i) (w (56 + i) - nI a)) 75 (upd w (56 + i) (w (56 + i) - nI a) 75 + 1) 75 = nI (t + 1) := by
      rw [upd_at, upd_no (by omega), h6, nI_1]
    have f84 : upd (upd w (56 + i) (w (56 + i) - nI a)) 75 (upd w (56 + i) (w (56 + i) - nI a) 75 + 1) 84 = h 84 := by
      rw [upd_no (by decide), upd_no (by omega), h1]
    have f66 : upd (upd w (56 + i) (w (56 + i) - nI a)) 75 (upd w (56 + i) (w (56 + i) - nI a) 75 + 1) 66 = h 66 := by
      rw [upd_no (by decide), upd_no (by omega), h2]
    have f73 : upd (upd w (56 + i) (w (56 + i) - nI a)) 75 (upd w (56 + i) (w (56 + i) - nI a) 75 + 1) 73 = h 73 := by
      rw [upd_no (by decide), upd_no (by omega), h5]
    have fsm : sm (upd (upd w (56 + i) (w (56 + i) - nI a)) 75 (upd w (56 + i) (w (56 + i) - nI a) 75 + 1)) n = sm h n := by
      rw [sm_eq (g := w) (fun y hy => by rw [upd_no (by omega), upd_no (by omega)]) n hn, h3]
    have f56 : (upd (upd w (56 + i) (w (56 + i) - nI a)) 75 (upd w (56 + i) (w (56 + i) - nI a) 75 + 1) (56 + i)).toInt = (w (56 + i)).toInt - (a : Int) := by
      rw [upd_no (by omega), upd_at, sub_toInt hb qa]
    have em : (t + 1) * a = t * a + a := Nat.succ_mul t a
    generalize upd (upd w (56 + i) (w (56 + i) - nI a)) 75 (upd w (56 + i) (w (56 + i) - nI a) 75 + 1) = v at f75 f84 f66 f73 fsm f56 ⊢
    refine tt_ite (fun c => tt_bd1 (u_ends2 hK hn) (fun w2 hw2 => tt_some (dn_l (k' := 1) (by omega) ?_))) (fun c => tt_some (dn_l (k' := n - (t + 1) + 2) (by omega) ⟨f84, f66, fsm, Or.inl ⟨f73, t + 1, ?_, f75, rfl, fun z => ?_, ?_⟩⟩))
    · obtain ⟨b1, b2, b3, b4, b5, b6⟩ := hw2
      rw [f75] at c
      have tn : t + 1 = n := (nI_eq (a := t + 1) (b := n) (by omega) (by omega)).mp c
      refine ⟨b1.trans f84, b2.trans f66, b3.trans fsm, Or.inr ⟨rfl, b4.trans b3.symm, b5, b6 i hi, ?_⟩⟩
      rw [← tn, em]
      omega
    · rw [f75] at c
      have := mt (nI_eq (a := t + 1) (b := n) (by omega) (by omega)).mpr c
      omega
    · show 0 ≤ (v (56 + i)).toInt
      rw [f56]
      omega
    · show (v (56 + i)).toInt + (((t + 1) * a : Nat) : Int) = _
      rw [f56, em]
      omega
  · have h6 : w 73 = sm w n := h6
    have h7 : w 75 = 0 := h7
    have h8 : w (56 + i) = 0 := h8
    have fin : AR n i s a h w := ⟨h1, h2, h3, Or.inr ⟨h6, h7, h8, h9⟩⟩
    refine tt_ite (fun _ => tt_some (dn_r fin)) (fun q => tt_ixn (by omega) (by decide) (tt_ite (fun _ => tt_some (dn_r fin)) (fun q2 => ?_)))
    exfalso
    apply q2
    rw [h8]
    exact lt_not.mpr q
def Ad1 (n i s : Nat) (g w : Nat → Int32) : Prop := w 84 = g 84 ∧ w 66 = g 66 ∧ sm w n = sm g n + 1 ∧ ((st n g = 0 ∧ w 73 = g 73 + 1 ∧ w 75 = g 75 ∧ w (56 + i) = g (56 + i)) ∨ (0 < st n g ∧ w 73 = g 73 ∧ ∃ t, t < n ∧ w 75 = nI t ∧ (w (56 + i)).toInt < (st n g : Int) ∧ (0 ≤ (g (56 + i) + 1).toInt → 0 ≤ (w (56 + i)).toInt) ∧ (w (56 + i)).toInt + ((t * st n g : Nat) : Int) = (g (56 + i) + 1).toInt + ((s * st n g : Nat) : Int)) ∨ (0 < st n g ∧ w 73 = sm w n ∧ w 75 = 0 ∧ w (56 + i) = 0 ∧ ((n * st n g : Nat) : Int) ≤ (g (56 + i) + 1).toInt + ((s * st n g : Nat) : Int)))
theorem u_add1 {K n i s : Nat} {g : Nat → Int32} (hi : i < n) (hK : 200000 ≤ K) (hn : n ≤ 8) (hs : s < n) (e75 : g 75 = nI s) : Tt (F_X8_addsNow K (nI i) 1 g (nI n)) (fun x => Ad1 n i s g x.2) := by
  unfold F_X8_addsNow
  simp only [i48, i56, nI_clamp (show 48 + i < 2 ^ 31 by omega), nI_clamp (show 56 + i < 2 ^ 31 by omega), m_step (show 0 < n by omega) hn, xb1]
  have hb : st n g < 2 ^ 30 := (st_lt (by omega)).2.2
  have s1 : st n (upd g (48 + i) (g (48 + i) + 1)) = st n g := st_of (upd_no (by omega)) (upd_no (by omega))
  have s2 : sm (upd g (48 + i) (g (48 + i) + 1)) n = sm g n + 1 := by rw [sm_up, if_pos hi]
  refine tt_ixn (by omega) (by decide) (tt_ixn (by omega) (by decide) (tt_nm ?_))
  rw [s1]
  refine tt_ite (fun c => tt_nm (tt_some ?_)) (fun c => tt_ixn (by omega) (by decide) (tt_ixn (by omega) (by decide) (tt_nm ?_)))
  · have c0 : st n g = 0 := (nI_eq (a := st n g) (b := 0) (by omega) (by omega)).mp c
    have r84 : upd (upd g (48 + i) (g (48 + i) + 1)) 73 (upd g (48 + i) (g (48 + i) + 1) 73 + 1) 84 = g 84 := by rw [upd_no (by decide), upd_no (by omega)]
    have r66 : upd (upd g (48 + i) (g (48 + i) + 1)) 73 (upd g (48 + i) (g (48 + i) + 1) 73 + 1) 66 = g 66 := by rw [upd_no (by decide), upd_no (by omega)]
    have r75 : upd (upd g (48 + i) (g (48 + i) + 1)) 73 (upd g (48 + i) (g (48 + i) + 1) 73 + 1) 75 = g 75 := by rw [upd_no (by decide), upd_no (by omega)]
    have r56 : upd (upd g (48 + i) (g (48 + i) + 1)) 73 (upd g (48 + i) (g (48 + i) + 1) 73 + 1) (56 + i) = g (56 + i) := by rw [upd_no (by omega), upd_no (by omega)]
    have r73 : upd (upd g (48 + i) (g (48 + i) + 1)) 73 (upd g (48 + i) (g (48 + i) + 1) 73 + 1) 73 = g 73 + 1 := by rw [upd_at, upd_no (by omega)]
    have rsm : sm (upd (upd g (48 + i) (g (48 + i) + 1)) 73 (upd g (48 + i) (g (48 + i) + 1) 73 + 1)) n = sm g n + 1 := by
      rw [sm_eq (g := upd g (48 + i) (g (48 + i) + 1)) (fun y hy => upd_no (by omega)) n hn, s2]
    exact ⟨r84, r66, rsm, Or.inl ⟨c0, r73, r75, r56⟩⟩
  · have a0 : 0 < st n g := Nat.pos_of_ne_zero (fun e => c (by rw [e]; rfl))
    have f66 : upd (upd g (48 + i) (g (48 + i) + 1)) (56 + i) (upd g (48 + i) (g (48 + i) + 1) (56 + i) + 1) 66 = g 66 := by rw [upd_no (by omega), upd_no (by omega)]
    have f73 : upd (upd g (48 + i) (g (48 + i) + 1)) (56 + i) (upd g (48 + i) (g (48 + i) + 1) (56 + i) + 1) 73 = g 73 := by rw [upd_no (by omega), upd_no (by omega)]
    have f84 : upd (upd g (48 + i) (g (48 + i) + 1)) (56 + i) (upd g (48 + i) (g (48 + i) + 1) (56 + i) + 1) 84 = g 84 := by rw [upd_no (by omega), upd_no (by omega)]
    have f75 : upd (upd g (48 + i) (g (48 + i) + 1)) (56 + i) (upd g (48 + i) (g (48 + i) + 1) (56 + i) + 1) 75 = nI s := by rw [upd_no (by omega), upd_no (by omega), e75]
    have f56 : upd (upd g (48 + i) (g (48 + i) + 1)) (56 + i) (upd g (48 + i) (g (48 + i) + 1) (56 + i) + 1) (56 + i) = g (56 + i) + 1 := by rw [upd_at, upd_no (by omega)]
    have fsm : sm (upd (upd g (48 + i) (g (48 + i) + 1)) (56 + i) (upd g (48 + i) (g (48 + i) + 1) (56 + i) + 1)) n = sm g n + 1 := by
      rw [sm_eq (g := upd g (48 + i) (g (48 + i) + 1)) (fun y hy => upd_no (by omega)) n hn, s2]
    generalize upd (upd g (48 + i) (g (48 + i) + 1)) (56 + i) (upd g (48 + i) (g (48 + i) + 1) (56 + i) + 1) = h at f66 f73 f84 f75 f56 fsm ⊢
    have sh : st n g = st n h := st_of f66.symm f73.symm
    refine tt_bd2 (tt_tot (AJ n i s (st n g) h) (fun k u hu => u_add1B hi hK hn sh a0 hu) K (n - s + 2) _ (by omega) ⟨rfl, rfl, rfl, Or.inl ⟨rfl, s, hs, f75, rfl, fun z => z, rfl⟩⟩) (fun x w hw => tt_some ?_)
    obtain ⟨b1, b2, b3, b4⟩ := hw
    rw [f56] at b4
    refine ⟨b1.trans f84, b2.trans f66, b3.trans fsm, ?_⟩
    rcases b4 with ⟨c1, t, c2, c3, c4, c5, c6⟩ | ⟨c1, c2, c3, c4⟩
    · exact Or.inr (Or.inl ⟨a0, c1.trans f73, t, c2, c3, c4, c5, c6⟩)
    · exact Or.inr (Or.inr ⟨a0, c1, c2, c3, c4⟩)
