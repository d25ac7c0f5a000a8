/-! Stage B, 10: groups: their bits, how many, what they drift in all -/
/-- how many of the first k -/
def bcn (m : Nat) : Nat → Nat
  | 0 => 0
  | k + 1 => bcn m k + m / 2 ^ k % 2
theorem bcn_le (m : Nat) : ∀ k, bcn m k ≤ k := by
  intro k
  induction k with
  | zero => exact Nat.le_refl _
  | succ k ih =>
    show bcn m k + m / 2 ^ k % 2 ≤ k + 1
    omega
theorem bits_c : ∀ m, m < 256 → F_J6_bitCount_0f7a4 (nI m) = some (nI (bcn m 8)) := by decide +kernel
theorem bits_m {K m : Nat} (hK : 200000 ≤ K) (hm : m < 256) : F_X8_bits K (nI m) = some (nI (bcn m 8)) := by
  have h : lpF (fun u9 : Int32 × Int32 => B_X8_bits_4 (nI m) u9.1 u9.2) K ((0 : Int32), (0 : Int32)) = some (nI (bcn m 8)) := by
    refine lp_for (fun j => (nI (bcn m j), nI j)) (n := 8) (by omega) (fun j hj => ?_) ?_
    · show B_X8_bits_4 (nI m) (nI (bcn m j)) (nI j) = some (.inl (nI (bcn m j + m / 2 ^ j % 2), nI (j + 1)))
      unfold B_X8_bits_4
      rw [if_neg (show ¬ (8 : Int32) ≤ nI j from mt (nI_leI (a := 8) (b := j) (by omega) (by omega)).mp (by omega)), bit_at m hm j hj, nI_add, nI_1]
    · show B_X8_bits_4 (nI m) (nI (bcn m 8)) (nI 8) = some (.inr (nI (bcn m 8)))
      unfold B_X8_bits_4
      rw [if_pos (show (8 : Int32) ≤ nI 8 by decide)]
  unfold F_X8_bits
  rw [h, xb1]
theorem gb_z {m k : Nat} : nI (m / 2 ^ k % 2) = (0 : Int32) ↔ m / 2 ^ k % 2 = 0 := nI_eq (a := m / 2 ^ k % 2) (b := 0) (by omega) (by omega)
theorem gm_has {m k : Nat} (hm : m < 256) (hk : k < 8) : F_X8_has (nI m) (nI k) = some (nI (m / 2 ^ k % 2)) := by
  unfold F_X8_has
  rw [bit_at m hm k hk]
  rcases (show m / 2 ^ k % 2 = 0 ∨ m / 2 ^ k % 2 = 1 by omega) with e | e
  · rw [e, if_neg (by decide)]
    rfl
  · rw [e, if_pos (by decide)]
    rfl
theorem xor_neg {x : Int32} {b : Nat} (hb : b < 2 ^ 31) : (x ^^^ nI b) < 0 ↔ x < 0 := by
  rw [Int32.lt_iff_toBitVec_slt, Int32.lt_iff_toBitVec_slt]
  have h : ∀ b : BitVec 32, b.slt (0 : Int32).toBitVec = b.msb := fun b => by
    rw [BitVec.slt_eq_decide, BitVec.msb_eq_toInt]
    have : ((0 : Int32).toBitVec).toInt = 0 := by decide
    rw [this]
  have q : ((nI b).toBitVec).msb = false := by
    rw [BitVec.msb_eq_toInt]
    show decide ((nI b).toInt < 0) = false
    rw [nI_toInt hb]
    exact decide_eq_false (by omega)
  rw [h, h, Int32.toBitVec_xor, BitVec.msb_xor, q, Bool.xor_false]
theorem rem_n {x : Int32} {b : Nat} (hb : b = 1 ∨ b = 2 ∨ b = 3 ∨ b = 4 ∨ b = 5 ∨ b = 6 ∨ b = 7 ∨ b = 8) : (x - x / nI b * nI b).toInt = x.toInt.tmod b := by
  have h2 : (nI b).toInt = b := nI_toInt (by omega)
  have a1 : -2 ^ 31 ≤ x.toInt := Int32.le_toInt x
  have a2 : x.toInt < 2 ^ 31 := Int32.toInt_lt x
  have d : x.toInt = b * (x.toInt.tdiv b) + x.toInt.tmod b := (Int.mul_tdiv_add_tmod x.toInt b).symm
  have b1 := Int.lt_tmod_of_pos x.toInt (b := (b : Int)) (by omega)
  have b2 := Int.tmod_lt_of_pos x.toInt (b := (b : Int)) (by omega)
  have q : (x / nI b).toInt = x.toInt.tdiv b := by
    rw [Int32.toInt_div, h2]
    refine Int.bmod_eq_of_le ?_ ?_
    all_goals
      generalize x.toInt.tdiv b = t at d ⊢
      generalize x.toInt.tmod b = r at d b1 b2
      rcases hb with rfl | rfl | rfl | rfl | rfl | rfl | rfl | rfl <;> omega
  have e : (b : Int) * x.toInt.tdiv b = x.toInt - x.toInt.tmod b := by omega
  rw [Int32.toInt_sub, Int32.toInt_mul, q, h2, Int.sub_bmod_bmod, Int.mul_comm, e, Int.bmod_eq_of_le (by omega) (by omega)]
  omega
/-- the rest of a division by a count of sites -/
theorem fm_n {x : Int32} {b : Nat} (hb : b = 1 ∨ b = 2 ∨ b = 3 ∨ b = 4 ∨ b = 5 ∨ b = 6 ∨ b = 7 ∨ b = 8) : ∃ r, r < b ∧ F_J9_floorMod_7cf53 x (nI b) = some (nI r) := by
  have r := rem_n (x := x) hb
  have nz : ¬ nI b = 0 := nI_ne0 (by omega) (by omega)
  have t0 : (0 : Int32).toInt = 0 := by decide
  have e : (0 : Int32) ≤ x ^^^ nI b ↔ 0 ≤ x.toInt := by
    have u := xor_neg (x := x) (b := b) (by omega)
    simp only [Int32.lt_iff_toInt_lt, Int32.le_iff_toInt_le, t0] at u ⊢
    omega
  have b1 := Int.lt_tmod_of_pos x.toInt (b := (b : Int)) (by omega)
  have b2 := Int.tmod_lt_of_pos x.toInt (b := (b : Int)) (by omega)
  unfold F_J9_floorMod_7cf53 nzI
  rw [if_neg nz]
  by_cases c : 0 ≤ x.toInt
  · rw [if_pos (e.mpr c)]
    have b3 := Int.tmod_nonneg (b : Int) (a := x.toInt) c
    obtain ⟨j, hj, q⟩ := nat_rng (x := x - x / nI b * nI b) (n := b - 1) (by rw [r]; omega)
    exact ⟨j, by omega, by rw [q]⟩
  · rw [if_neg (fun z => c (e.mp z))]
    by_cases d : x - x / nI b * nI b = 0
    · rw [if_pos d, d]
      exact ⟨0, by omega, rfl⟩
    · rw [if_neg d]
      have n0 : ¬ (x - x / nI b * nI b).toInt = 0 := fun h => d (Int32.toInt_inj.mp (h.trans t0.symm))
      have b4 : x.toInt.tmod b ≤ 0 := by
        have := Int.tmod_nonneg (b : Int) (a := -x.toInt) (by omega)
        rw [Int.neg_tmod] at this
        omega
      rw [r] at n0
      obtain ⟨j, hj, q⟩ := nat_rng (x := x - x / nI b * nI b + nI b) (n := b - 1) (by
        rw [Int32.toInt_add, r, nI_toInt (by omega), Int.bmod_eq_of_le (by omega) (by omega)]
        omega)
      exact ⟨j, by omega, by rw [q]⟩
/-- what those of a group have, added up -/
def gsm (d : Nat → Int32) (m : Nat) : Nat → Int32
  | 0 => 0
  | k + 1 => gsm d m k + (if m / 2 ^ k % 2 = 0 then 0 else d k)
theorem gsm_eq {d e : Nat → Int32} {m : Nat} : ∀ n, (∀ i, i < n → d i = e i) → gsm d m n = gsm e m n := by
  intro n
  induction n with
  | zero => exact fun _ => rfl
  | succ k ih =>
    intro h
    show gsm d m k + (if m / 2 ^ k % 2 = 0 then 0 else d k) = gsm e m k + (if m / 2 ^ k % 2 = 0 then 0 else e k)
    rw [ih (fun i hi => h i (by omega)), h k (by omega)]
/-- drifts out of the reference's row -/
def mdx (g : Nat → Int32) (i : Nat) : Int32 := g (0 + i) - g (16 + i) + g (32 + i)
def mdy (g : Nat → Int32) (i : Nat) : Int32 := g (8 + i) - g (24 + i) + g (40 + i)
theorem m_drX {i : Nat} {g : Nat → Int32} (hi : i < 8) : F_X8_driftX (nI i) g = some (mdx g i) := by
  unfold F_X8_driftX
  simp only [bm_ix (A := (0 : Int32)) (a := 0) rfl (show 0 + i < 265 by omega), bm_ix (A := (16 : Int32)) (a := 16) rfl (show 16 + i < 265 by omega), bm_ix (A := (32 : Int32)) (a := 32) rfl (show 32 + i < 265 by omega), bm_cl (A := (0 : Int32)) (a := 0) rfl (show 0 + i < 265 by omega), bm_cl (A := (16 : Int32)) (a := 16) rfl (show 16 + i < 265 by omega), bm_cl (A := (32 : Int32)) (a := 32) rfl (show 32 + i < 265 by omega)]
  rfl
theorem m_drY {i : Nat} {g : Nat → Int32} (hi : i < 8) : F_X8_driftY (nI i) g = some (mdy g i) := by
  unfold F_X8_driftY
  simp only [bm_ix (A := (8 : Int32)) (a := 8) rfl (show 8 + i < 265 by omega), bm_ix (A := (24 : Int32)) (a := 24) rfl (show 24 + i < 265 by omega), bm_ix (A := (40 : Int32)) (a := 40) rfl (show 40 + i < 265 by omega), bm_cl (A := (8 : Int32)) (a := 8) rfl (show 8 + i < 265 by omega), bm_cl (A := (24 : Int32)) (a := 24) rfl (show 24 + i < 265 by omega), bm_cl (A := (40 : Int32)) (a := 40) rfl (show 40 + i < 265 by omega)]
  rfl
theorem dr_both {n i : Nat} {f g : Nat → Int32} (h : StB n f g) (hi : i < n) : cdr f i 0 = mdx g i ∧ cdr f i 1 = mdy g i := by
  have e0 : f (17 + 8 * i + 0) = g (0 + i) := h i 0 hi (by decide)
  have e1 : f (17 + 8 * i + (0 + 2)) = g (16 + i) := h i 2 hi (by decide)
  have e2 : f (17 + 8 * i + (0 + 4)) = g (32 + i) := h i 4 hi (by decide)
  have e3 : f (17 + 8 * i + 1) = g (8 + i) := h i 1 hi (by decide)
  have e4 : f (17 + 8 * i + (1 + 2)) = g (24 + i) := h i 3 hi (by decide)
  have e5 : f (17 + 8 * i + (1 + 4)) = g (40 + i) := h i 5 hi (by decide)
  unfold cdr mdx mdy
  rw [e0, e1, e2, e3, e4, e5]
  exact ⟨rfl, rfl⟩
theorem c_msum {K n m a : Nat} {A : Int32} {f : Nat → Int32} (eA : A = nI a) (hK : 200000 ≤ K) (hm : m < 256) (n8 : n ≤ 8) (h3 : f 3 = nI n) (ha : a < 2) : lpF (fun u9 : Int32 × Int32 => B_X5_measureShares_23 (nI m) f A u9.1 u9.2) K ((0 : Int32), (0 : Int32)) = some (gsm (fun i => cdr f i a) m n) := by
  refine lp_for (fun j => (gsm (fun i => cdr f i a) m j, nI j)) (n := n) (by omega) (fun j hj => ?_) ?_
  · show B_X5_measureShares_23 (nI m) f A (gsm (fun i => cdr f i a) m j) (nI j) = some (.inl (gsm (fun i => cdr f i a) m j + (if m / 2 ^ j % 2 = 0 then 0 else cdr f j a), nI (j + 1)))
    unfold B_X5_measureShares_23 F_X5_sites
    rw [xb1, h3, if_neg (mt (nI_leI (a := n) (b := j) (by omega) (by omega)).mp (by omega)), bit_at m hm j (by omega), eA, b_drift (by omega) ha, xb1, nI_1]
    by_cases c : m / 2 ^ j % 2 = 0
    · rw [if_pos (gb_z.mpr c), if_pos c]
    · rw [if_neg (mt gb_z.mp c), if_neg c]
  · show B_X5_measureShares_23 (nI m) f A (gsm (fun i => cdr f i a) m n) (nI n) = some (.inr (gsm (fun i => cdr f i a) m n))
    unfold B_X5_measureShares_23 F_X5_sites
    rw [xb1, h3, if_pos ((nI_leI (a := n) (b := n) (by omega) (by omega)).mpr (Nat.le_refl _))]
theorem m_msum {K n m : Nat} {g : Nat → Int32} (hK : 200000 ≤ K) (hm : m < 256) (n8 : n ≤ 8) : lpF (fun u9 : Int32 × Int32 × Int32 => B_X8_shares_13 (nI m) (nI n) g u9.1 u9.2.1 u9.2.2) K ((0 : Int32), (0 : Int32), (0 : Int32)) = some (gsm (mdx g) m n, gsm (mdy g) m n) := by
  refine lp_for (fun j => (gsm (mdx g) m j, gsm (mdy g) m j, nI j)) (n := n) (by omega) (fun j hj => ?_) ?_
  · show B_X8_shares_13 (nI m) (nI n) g (gsm (mdx g) m j) (gsm (mdy g) m j) (nI j) = some (.inl (gsm (mdx g) m j + (if m / 2 ^ j % 2 = 0 then 0 else mdx g j), gsm (mdy g) m j + (if m / 2 ^ j % 2 = 0 then 0 else mdy g j), nI (j + 1)))
    unfold B_X8_shares_13 J_X8_shares_42_r14
    simp only [gm_has hm (show j < 8 by omega), m_drX (g := g) (show j < 8 by omega), m_drY (g := g) (show j < 8 by omega), xb1, nI_1]
    rw [if_neg (mt (nI_leI (a := n) (b := j) (by omega) (by omega)).mp (by omega))]
    by_cases c : m / 2 ^ j % 2 = 0
    · simp only [if_pos (gb_z.mpr c), if_pos c]
    · simp only [if_neg (mt gb_z.mp c), if_neg c]
  · show B_X8_shares_13 (nI m) (nI n) g (gsm (mdx g) m n) (gsm (mdy g) m n) (nI n) = some (.inr (gsm (mdx g) m n, gsm (mdy g) m n))
    unfold B_X8_shares_13
    rw [if_pos ((nI_leI (a := n) (b := n) (by omega) (by omega)).mpr (Nat.le_refl _))]
