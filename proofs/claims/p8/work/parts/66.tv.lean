/-! the book, the draws, history and scripts -/
theorem l_ne0 {x : Int32} (h : ¬ x ≤ 0) : ¬ x.toInt64 = 0 := fun q => h (by
  have a := congrArg Int64.toInt q
  rw [Int32.toInt_toInt64] at a
  have t0 : (0 : Int32).toInt = 0 := by decide
  have t1 : (0 : Int64).toInt = 0 := by decide
  rw [Int32.le_iff_toInt_le, a, t1, t0]; decide)
theorem xor100_neg {x : Int32} : (x ^^^ 100) < 0 ↔ x < 0 := by
  rw [Int32.lt_iff_toBitVec_slt, Int32.lt_iff_toBitVec_slt]
  have h : ∀ b : BitVec 32, b.slt (0 : Int32).toBitVec = b.msb := fun b => by
    rw [BitVec.slt_eq_decide, BitVec.msb_eq_toInt]
    have : ((0 : Int32).toBitVec).toInt = 0 := by decide
    rw [this]
  rw [h, h, Int32.toBitVec_xor, BitVec.msb_xor]
  have : ((100 : Int32).toBitVec).msb = false := by decide
  rw [this, Bool.xor_false]
theorem rem100 {x z : Int32} (ez : z = x - x / 100 * 100) : z.toInt = x.toInt.tmod 100 := by
  have h2 : (100 : Int32).toInt = 100 := by decide
  have a1 : -2 ^ 31 ≤ x.toInt := Int32.le_toInt x
  have a2 : x.toInt < 2 ^ 31 := Int32.toInt_lt x
  have d : x.toInt = 100 * (x.toInt.tdiv 100) + x.toInt.tmod 100 := (Int.mul_tdiv_add_tmod x.toInt 100).symm
  have b1 := Int.lt_tmod_of_pos x.toInt (b := 100) (by decide)
  have b2 := Int.tmod_lt_of_pos x.toInt (b := 100) (by decide)
  have q : (x / 100).toInt = x.toInt.tdiv 100 := by
    rw [Int32.toInt_div, h2]
    exact Int.bmod_eq_of_le (by omega) (by omega)
  rw [ez, Int32.toInt_sub, Int32.toInt_mul, q, h2, Int.sub_bmod_bmod, Int.bmod_eq_of_le (by omega) (by omega)]
  omega
theorem fm100_a {x z y : Int32} (ez : z = x - x / 100 * 100) (ey : y = x ^^^ 100) (c : y ≥ 0) : ∃ k : Nat, k ≤ 99 ∧ z = nI k := by
  have r := rem100 ez
  have t0 : (0 : Int32).toInt = 0 := by decide
  have p : ¬ x < 0 := fun h => by
    have u := xor100_neg.mpr h
    rw [← ey] at u
    simp only [ge_iff_le, Int32.lt_iff_toInt_lt, Int32.le_iff_toInt_le, t0] at c u
    omega
  simp only [Int32.lt_iff_toInt_lt, t0] at p
  have b2 := Int.tmod_lt_of_pos x.toInt (b := 100) (by decide)
  have b1 := Int.tmod_nonneg 100 (a := x.toInt) (by omega)
  exact nat_rng (by rw [r]; omega)
theorem fm100_b {x z y q : Int32} (ez : z = x - x / 100 * 100) (ey : y = x ^^^ 100) (c : ¬ y ≥ 0) (n : ¬ z = 0) (eq : q = z + 100) : ∃ k : Nat, k ≤ 99 ∧ q = nI k := by
  have r := rem100 ez
  have t0 : (0 : Int32).toInt = 0 := by decide
  have t1 : (100 : Int32).toInt = 100 := by decide
  have p : x < 0 := xor100_neg.mp (by
    rw [← ey]
    simp only [ge_iff_le, Int32.lt_iff_toInt_lt, Int32.le_iff_toInt_le, t0] at c ⊢
    omega)
  simp only [Int32.lt_iff_toInt_lt, t0] at p
  have n0 : ¬ z.toInt = 0 := fun h => n (Int32.toInt_inj.mp (h.trans t0.symm))
  have b1 := Int.lt_tmod_of_pos x.toInt (b := 100) (by decide)
  have d : x.toInt = 100 * (x.toInt.tdiv 100) + x.toInt.tmod 100 := (Int.mul_tdiv_add_tmod x.toInt 100).symm
  have b2 : x.toInt.tmod 100 ≤ 0 := by
    have := Int.tmod_nonneg 100 (a := -x.toInt) (by omega)
    rw [Int.neg_tmod] at this
    omega
  refine nat_rng ?_
  rw [eq, Int32.toInt_add, t1, r, Int.bmod_eq_of_le (by omega) (by omega)]
  omega
theorem t_fm100 {x : Int32} : Tt (F_J9_floorMod_7cf53 x 100) (fun r => ∃ k : Nat, k ≤ 99 ∧ r = nI k) := by
  unfold F_J9_floorMod_7cf53
  refine tt_nz (by decide) (tt_ite (fun c => tt_some (fm100_a rfl rfl c)) (fun c => tt_ite (fun n => tt_some ⟨0, by decide, n⟩) (fun n => tt_some (fm100_b rfl rfl c n rfl))))
theorem t_bRead {p1 p2 : Int32} {f : Nat → Int32} : Tt (F_X0_read p1 p2 f) (fun _ => True) := by
  unfold F_X0_read
  refine tt_ite (fun _ => tt_some trivial) (fun a1 => tt_ite (fun _ => tt_some trivial) (fun a2 => tt_bd1 t_fm100 (fun r hr => ?_)))
  obtain ⟨a, ha, rfl⟩ := nnI (n := 3) (by decide) a1 a2
  obtain ⟨k, hk, rfl⟩ := hr
  rw [show (3 : Int32) = nI 3 from rfl, nI_mul, nI_add]
  exact tt_ixn (by omega) (by decide) (tt_some trivial)
theorem t_bWrite {p1 p2 p3 p4 : Int32} {f : Nat → Int32} : Tt (F_X0_write p1 p2 p3 p4 f) (fun _ => True) := by
  unfold F_X0_write
  refine tt_bd1 t_fm100 (fun r hr => ?_)
  obtain ⟨k, hk, rfl⟩ := hr
  rw [show (3 : Int32) = nI 3 from rfl, show (1 : Int32) = nI 1 from rfl, show (2 : Int32) = nI 2 from rfl, nI_mul, nI_add, nI_add]
  exact tt_ixn (by omega) (by decide) (tt_nm (tt_ixn (by omega) (by decide) (tt_nm (tt_ixn (by omega) (by decide) (tt_nm (tt_some trivial))))))
theorem t_bCopy {f g : Nat → Int32} : Tt (F_X0_copyFrom f g) (fun _ => True) := by
  unfold F_X0_copyFrom
  exact tt_cp (by decide) (tt_nm (tt_some trivial))
theorem t_dNext {p1 : Int32} {x : Int64} : Tt (F_X1_next p1 x) (fun _ => True) := by
  unfold F_X1_next
  exact tt_ite (fun _ => tt_some trivial) (fun q => tt_nzL (l_ne0 q) (tt_some trivial))
theorem t_pickAct {p1 a b c d : Int32} {x : Int64} : Tt (F_X1_pickAct p1 x a b c d) (fun _ => True) := by
  unfold F_X1_pickAct
  repeat' (first | (with_reducible refine tt_some ?_) | (with_reducible refine tt_nm ?_) | (with_reducible refine tt_ite (fun _ => ?_) (fun _ => ?_)) | (with_reducible refine tt_bd1 (t_floorDiv ?_) (fun _ _ => ?_)) | (with_reducible refine tt_bd1 (t_floorMod ?_) (fun _ _ => ?_)) | (with_reducible refine tt_bd1 (t_hasSite) (fun _ _ => ?_)) | (with_reducible refine tt_bd1 (t_of) (fun _ _ => ?_)) | (with_reducible refine tt_bd1 (t_isReached) (fun _ _ => ?_)) | (with_reducible refine tt_bd1 (t_addRefusal) (fun _ _ => ?_)) | (with_reducible refine tt_bd1 (t_put) (fun _ _ => ?_)) | (with_reducible refine tt_bd1 (t_stepFrom) (fun _ _ => ?_)) | (with_reducible refine tt_bd1 (t_sites) (fun _ _ => ?_)) | (with_reducible refine tt_bd1 (t_total ?_ ?_) (fun _ _ => ?_)) | (with_reducible refine tt_bd1 (t_endRound ?_ ?_) (fun _ _ => ?_)) | (with_reducible refine tt_bd2 (t_addTo ?_ ?_) (fun _ _ _ => ?_)) | (with_reducible refine tt_bd1 (t_valueOf) (fun _ _ => ?_)) | (with_reducible refine tt_bd1 (t_allows) (fun _ _ => ?_)) | (with_reducible refine tt_bd1 (t_aloneToGoal ?_ ?_) (fun _ _ => ?_)) | (with_reducible refine tt_bd1 (t_shareOf) (fun _ _ => ?_)) | (with_reducible refine tt_bd1 (t_drift) (fun _ _ => ?_)) | (with_reducible refine tt_bd3 (t_balance ?_ ?_) (fun _ _ _ _ => ?_)) | (with_reducible refine tt_bd1 (t_hearPlaces ?_ ?_) (fun _ _ => ?_)) | (with_reducible refine tt_bd1 (t_bitCount) (fun _ _ => ?_)) | (with_reducible refine tt_bd2 (t_measureShares ?_ ?_) (fun _ _ _ => ?_)) | (with_reducible refine tt_bd1 (t_isAbove) (fun _ _ => ?_)) | (with_reducible refine tt_bd1 (t_isQuietDrift) (fun _ _ => ?_)) | (with_reducible refine tt_bd3 (t_canShare ?_ ?_) (fun _ _ _ _ => ?_)) | (with_reducible refine tt_bd1 (t_copyFrom) (fun _ _ => ?_)) | (with_reducible refine tt_bd1 (t_shift) (fun _ _ => ?_)) | (with_reducible refine tt_bd1 (t_isQuiet) (fun _ _ => ?_)) | (with_reducible refine tt_bd1 (t_isFrozen) (fun _ _ => ?_)) | (with_reducible refine tt_bd2 (t_noteAsked ?_) (fun _ _ _ => ?_)) | (with_reducible refine tt_bd1 (t_hearAll ?_ ?_) (fun _ _ => ?_)) | (with_reducible refine tt_bd7 (t_moveSite ?_ ?_) (fun _ _ _ _ _ _ _ _ => ?_)) | (with_reducible refine tt_bd2 (t_hearByHand ?_ ?_) (fun _ _ _ => ?_)) | (with_reducible refine tt_bd1 (t_startCounts ?_ ?_) (fun _ _ => ?_)) | (with_reducible refine tt_bd7 (t_doAct ?_ ?_ ?_) (fun _ _ _ _ _ _ _ _ => ?_)) | (with_reducible refine tt_bd1 (t_freezeRefusal) (fun _ _ => ?_)) | (with_reducible refine tt_bd1 (t_hasRoom) (fun _ _ => ?_)) | (with_reducible refine tt_bd1 (t_isQuietWith) (fun _ _ => ?_)) | (with_reducible refine tt_bd1 (t_isMovable) (fun _ _ => ?_)) | (with_reducible refine tt_bd1 (t_moveRefusal) (fun _ _ => ?_)) | (with_reducible refine tt_bd1 (t_point) (fun _ _ => ?_)) | (with_reducible refine tt_bd1 (t_pointValue) (fun _ _ => ?_)) | (with_reducible refine tt_bd1 (t_quietSites ?_ ?_) (fun _ _ => ?_)) | (with_reducible refine tt_bd1 (t_stands) (fun _ _ => ?_)) | (with_reducible refine tt_bd1 (t_setRefusal) (fun _ _ => ?_)) | (with_reducible refine tt_bd1 (t_refusal) (fun _ _ => ?_)) | (with_reducible refine tt_bd1 (t_slackLength) (fun _ _ => ?_)) | (with_reducible refine tt_bd1 (t_slackSites ?_ ?_) (fun _ _ => ?_)) | (with_reducible refine tt_bd1 (t_unmovedSites ?_ ?_) (fun _ _ => ?_)) | (with_reducible refine tt_bd1 (t_bRead) (fun _ _ => ?_)) | (with_reducible refine tt_bd1 (t_bWrite) (fun _ _ => ?_)) | (with_reducible refine tt_bd1 (t_bCopy) (fun _ _ => ?_)) | (with_reducible refine tt_bd2 (t_dNext) (fun _ _ _ => ?_)))
  all_goals (first | trivial | assumption | (simp [upd, *]; done))
/-- the history's rows, where the next is written, how many are held -/
def HsOK (h : Nat → Int32) (nx hd : Int32) : Prop := (∀ j, j < 40 → Rw (h (81 * j + 3))) ∧ (∃ a, a ≤ 39 ∧ nx = nI a) ∧ (∃ b, b ≤ 40 ∧ hd = nI b)
theorem Rw.to {x y : Int32} (h : Rw x) (e : y = x) : Rw y := by rw [e]; exact h
theorem t_hForget {p : Int32} : Tt (F_X2_forget p) (fun r => r = 0) := by
  exact tt_some rfl
theorem cp81 {a : Nat} (h : a ≤ 39) : nI a * 81 = nI (81 * a) := by rw [show (81 : Int32) = nI 81 from rfl, nI_mul, Nat.mul_comm]
theorem lit81 : (81 : Int32).toNatClampNeg = 81 := rfl
theorem litz : (0 : Int32).toNatClampNeg = 0 := rfl
theorem t_hKeep {h f : Nat → Int32} {nx hd : Int32} (hh : HsOK h nx hd) (hr : Rw (f 3)) : Tt (F_X2_keep h nx hd f) (fun x => HsOK x.1 x.2.1 x.2.2) := by
  unfold F_X2_keep
  obtain ⟨h1, ⟨a, ha, rfl⟩, ⟨b, hb, rfl⟩⟩ := hh
  rw [cp81 ha]
  refine tt_cp ⟨by decide, nI_pos (by omega), by decide, by decide, by rw [nI_clamp (by omega), lit81]; omega⟩ (tt_nm ?_)
  have hrows : ∀ j, j < 40 → Rw (va_cpy f h (0 : Int32).toNatClampNeg (nI (81 * a)).toNatClampNeg (81 : Int32).toNatClampNeg (81 * j + 3)) := by
    intro j hj
    rw [nI_clamp (by omega), lit81, litz]
    show Rw (if 81 * a ≤ 81 * j + 3 ∧ 81 * j + 3 < 81 * a + 81 then f (0 + (81 * j + 3 - 81 * a)) else h (81 * j + 3))
    by_cases e : j = a
    · rw [if_pos ⟨by omega, by omega⟩, show 0 + (81 * j + 3 - 81 * a) = 3 by omega]
      exact hr
    · rw [if_neg (by omega)]
      exact h1 j hj
  have hheld : ∃ c, c ≤ 40 ∧ minF (nI b + 1) 40 = nI c := by
    rw [nI_1, show (40 : Int32) = nI 40 from rfl]
    unfold minF
    by_cases q : nI 40 < nI (b + 1)
    · exact ⟨40, by decide, if_pos q⟩
    · have := mt (nI_ltI (a := 40) (b := b + 1) (by omega) (by omega)).mpr q
      exact ⟨b + 1, by omega, if_neg q⟩
  refine tt_ite (fun _ => tt_some ⟨hrows, ⟨0, by decide, rfl⟩, hheld⟩) (fun q => tt_some ⟨hrows, ⟨a + 1, ?_, nx1 rfl⟩, hheld⟩)
  rw [nI_1] at q
  have : a + 1 < 40 := lt_of_lit (by decide) (by omega) rfl q
  omega
theorem t_hBack {h f : Nat → Int32} {nx hd : Int32} (hh : HsOK h nx hd) (hr : Rw (f 3)) : Tt (F_X2_bringBack h nx hd f) (fun x => Rw (x.2.2.2 3) ∧ HsOK h x.2.1 x.2.2.1) := by
  unfold F_X2_bringBack
  have hh' := hh
  obtain ⟨h1, ⟨a, ha, rfl⟩, ⟨b, hb, rfl⟩⟩ := hh
  refine tt_ite (fun _ => tt_some ⟨hr, hh'⟩) (fun b0 => ?_)
  have bp : 1 ≤ b := Nat.pos_of_ne_zero (fun z => b0 (by rw [z]; rfl))
  have J : ∀ c, c ≤ 39 → Tt (J_X2_bringBack_28 h (nI c) (nI b) f) (fun x => Rw (x.2.2.2 3) ∧ HsOK h x.2.1 x.2.2.1) := by
    intro c hc
    unfold J_X2_bringBack_28
    rw [cp81 hc]
    refine tt_cp ⟨nI_pos (by omega), by decide, by decide, by rw [nI_clamp (by omega), lit81]; omega, by decide⟩ (tt_nm (tt_some ⟨?_, h1, ⟨c, hc, rfl⟩, ⟨b - 1, by omega, ?_⟩⟩))
    · rw [nI_clamp (by omega), lit81, litz]
      show Rw (if 0 ≤ 3 ∧ 3 < 0 + 81 then h (81 * c + (3 - 0)) else f 3)
      rw [if_pos (by decide)]
      exact h1 c (by omega)
    · exact (show nI b - nI 1 = nI (b - 1) from xsub bp)
  refine tt_ite (fun _ => J 39 (by decide)) (fun q => ?_)
  have ap : 0 < a := by
    have := mt (nI_leI (a := a) (b := 0) (by omega) (by omega)).mpr q
    omega
  rw [show nI a - 1 = nI (a - 1) from xsub (b := 1) ap]
  exact J (a - 1) (by omega)
/-- the scripts kept -/
def SkOK (co : Nat → Int32) (hd : Int32) : Prop := (∃ a, a ≤ 4 ∧ hd = nI a) ∧ (∀ j, j < 4 → ∃ c, c ≤ 12 ∧ co j = nI c)
theorem t_areFull {p : Int32} : Tt (F_X4_areFull p) (fun _ => True) := by
  unfold F_X4_areFull
  repeat' (first | (with_reducible refine tt_some ?_) | (with_reducible refine tt_nm ?_) | (with_reducible refine tt_ite (fun _ => ?_) (fun _ => ?_)) | (with_reducible refine tt_bd1 (t_floorDiv ?_) (fun _ _ => ?_)) | (with_reducible refine tt_bd1 (t_floorMod ?_) (fun _ _ => ?_)) | (with_reducible refine tt_bd1 (t_hasSite) (fun _ _ => ?_)) | (with_reducible refine tt_bd1 (t_of) (fun _ _ => ?_)) | (with_reducible refine tt_bd1 (t_isReached) (fun _ _ => ?_)) | (with_reducible refine tt_bd1 (t_addRefusal) (fun _ _ => ?_)) | (with_reducible refine tt_bd1 (t_put) (fun _ _ => ?_)) | (with_reducible refine tt_bd1 (t_stepFrom) (fun _ _ => ?_)) | (with_reducible refine tt_bd1 (t_sites) (fun _ _ => ?_)) | (with_reducible refine tt_bd1 (t_total ?_ ?_) (fun _ _ => ?_)) | (with_reducible refine tt_bd1 (t_endRound ?_ ?_) (fun _ _ => ?_)) | (with_reducible refine tt_bd2 (t_addTo ?_ ?_) (fun _ _ _ => ?_)) | (with_reducible refine tt_bd1 (t_valueOf) (fun _ _ => ?_)) | (with_reducible refine tt_bd1 (t_allows) (fun _ _ => ?_)) | (with_reducible refine tt_bd1 (t_aloneToGoal ?_ ?_) (fun _ _ => ?_)) | (with_reducible refine tt_bd1 (t_shareOf) (fun _ _ => ?_)) | (with_reducible refine tt_bd1 (t_drift) (fun _ _ => ?_)) | (with_reducible refine tt_bd3 (t_balance ?_ ?_) (fun _ _ _ _ => ?_)) | (with_reducible refine tt_bd1 (t_hearPlaces ?_ ?_) (fun _ _ => ?_)) | (with_reducible refine tt_bd1 (t_bitCount) (fun _ _ => ?_)) | (with_reducible refine tt_bd2 (t_measureShares ?_ ?_) (fun _ _ _ => ?_)) | (with_reducible refine tt_bd1 (t_isAbove) (fun _ _ => ?_)) | (with_reducible refine tt_bd1 (t_isQuietDrift) (fun _ _ => ?_)) | (with_reducible refine tt_bd3 (t_canShare ?_ ?_) (fun _ _ _ _ => ?_)) | (with_reducible refine tt_bd1 (t_copyFrom) (fun _ _ => ?_)) | (with_reducible refine tt_bd1 (t_shift) (fun _ _ => ?_)) | (with_reducible refine tt_bd1 (t_isQuiet) (fun _ _ => ?_)) | (with_reducible refine tt_bd1 (t_isFrozen) (fun _ _ => ?_)) | (with_reducible refine tt_bd2 (t_noteAsked ?_) (fun _ _ _ => ?_)) | (with_reducible refine tt_bd1 (t_hearAll ?_ ?_) (fun _ _ => ?_)) | (with_reducible refine tt_bd7 (t_moveSite ?_ ?_) (fun _ _ _ _ _ _ _ _ => ?_)) | (with_reducible refine tt_bd2 (t_hearByHand ?_ ?_) (fun _ _ _ => ?_)) | (with_reducible refine tt_bd1 (t_startCounts ?_ ?_) (fun _ _ => ?_)) | (with_reducible refine tt_bd7 (t_doAct ?_ ?_ ?_) (fun _ _ _ _ _ _ _ _ => ?_)) | (with_reducible refine tt_bd1 (t_freezeRefusal) (fun _ _ => ?_)) | (with_reducible refine tt_bd1 (t_hasRoom) (fun _ _ => ?_)) | (with_reducible refine tt_bd1 (t_isQuietWith) (fun _ _ => ?_)) | (with_reducible refine tt_bd1 (t_isMovable) (fun _ _ => ?_)) | (with_reducible refine tt_bd1 (t_moveRefusal) (fun _ _ => ?_)) | (with_reducible refine tt_bd1 (t_point) (fun _ _ => ?_)) | (with_reducible refine tt_bd1 (t_pointValue) (fun _ _ => ?_)) | (with_reducible refine tt_bd1 (t_quietSites ?_ ?_) (fun _ _ => ?_)) | (with_reducible refine tt_bd1 (t_stands) (fun _ _ => ?_)) | (with_reducible refine tt_bd1 (t_setRefusal) (fun _ _ => ?_)) | (with_reducible refine tt_bd1 (t_refusal) (fun _ _ => ?_)) | (with_reducible refine tt_bd1 (t_slackLength) (fun _ _ => ?_)) | (with_reducible refine tt_bd1 (t_slackSites ?_ ?_) (fun _ _ => ?_)) | (with_reducible refine tt_bd1 (t_unmovedSites ?_ ?_) (fun _ _ => ?_)) | (with_reducible refine tt_bd1 (t_bRead) (fun _ _ => ?_)) | (with_reducible refine tt_bd1 (t_bWrite) (fun _ _ => ?_)) | (with_reducible refine tt_bd1 (t_bCopy) (fun _ _ => ?_)) | (with_reducible refine tt_bd2 (t_dNext) (fun _ _ _ => ?_)) | (with_reducible refine tt_bd5 (t_pickAct) (fun _ _ _ _ _ _ => ?_)) | (with_reducible refine tt_bd1 (t_hForget) (fun _ _ => ?_)) | (with_reducible refine tt_bd3 (t_hKeep ?_ ?_) (fun _ _ _ _ => ?_)) | (with_reducible refine tt_bd4 (t_hBack ?_ ?_) (fun _ _ _ _ _ => ?_)))
  all_goals (first | trivial | assumption | (simp [upd, *]; done))
theorem t_sHas {p q : Int32} : Tt (F_X4_has p q) (fun r => ¬ r = 0 → ∃ a, a < 4 ∧ p = nI a) := by
  unfold F_X4_has
  refine tt_ite (fun _ => tt_some (fun z => absurd rfl z)) (fun a1 => tt_ite (fun _ => tt_some (fun z => absurd rfl z)) (fun _ => tt_ite (fun _ => tt_some (fun z => absurd rfl z)) (fun a2 => tt_some (fun _ => ?_))))
  exact nnI (n := 4) (by decide) a1 a2
theorem t_stepsOf {p hd : Int32} {co : Nat → Int32} (h : SkOK co hd) : Tt (F_X4_stepsOf p co hd) (fun r => (∃ c, c ≤ 12 ∧ r = nI c) ∧ (¬ r = 0 → ∃ a, a < 4 ∧ p = nI a)) := by
  unfold F_X4_stepsOf
  refine tt_bd1 t_sHas (fun r hr => tt_ite (fun _ => tt_some ⟨⟨0, by decide, rfl⟩, fun z => absurd rfl z⟩) (fun r0 => ?_))
  obtain ⟨a, ha, rfl⟩ := hr r0
  refine tt_ixn ha (by decide) (tt_some ⟨?_, fun _ => ⟨a, ha, rfl⟩⟩)
  rw [nI_clamp (by omega)]
  exact h.2 a ha
theorem t_sRead {p1 p2 p3 hd : Int32} {st co : Nat → Int32} (h : SkOK co hd) : Tt (F_X4_read p1 p2 p3 st co hd) (fun _ => True) := by
  unfold F_X4_read
  refine tt_ite (fun _ => tt_some trivial) (fun a1 => tt_bd1 (t_stepsOf h) (fun r hr => tt_ite (fun _ => tt_some trivial) (fun a2 => tt_ite (fun _ => tt_some trivial) (fun b1 => tt_ite (fun b2 => ?_) (fun _ => tt_some trivial)))))
  obtain ⟨⟨c, hc, rfl⟩, h2⟩ := hr
  obtain ⟨x, hx, rfl⟩ := nnI (n := c) (by omega) a1 a2
  obtain ⟨y, hy, rfl⟩ := nnI (n := 4) (by decide) b1 (lt_not.mp b2)
  obtain ⟨a, ha, rfl⟩ := h2 (fun z => by
    have : c = 0 := (nI_eq (a := c) (b := 0) (by omega) (by omega)).mp z
    omega)
  rw [show (48 : Int32) = nI 48 from rfl, show (4 : Int32) = nI 4 from rfl, nI_mul, nI_mul, nI_add, nI_add]
  exact tt_ixn (by omega) (by decide) (tt_some trivial)
theorem t_sortOf {p1 p2 hd : Int32} {st co : Nat → Int32} (h : SkOK co hd) : Tt (F_X4_sortOf p1 p2 st co hd) (fun _ => True) := by
  unfold F_X4_sortOf
  refine tt_bd1 (t_sRead h) (fun r _ => tt_ite (fun _ => tt_some trivial) (fun a1 => tt_ite (fun _ => tt_some trivial) (fun a2 => ?_)))
  obtain ⟨a, ha, rfl⟩ := nnI (n := 7) (by decide) a1 a2
  exact tt_ixn ha (by decide) (tt_some trivial)
