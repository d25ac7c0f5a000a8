/-! Stage B, 6: the step of a round, and who is frozen, in both -/
theorem cs_step {n a b : Nat} {f g : Nat → Int32} (h0 : 0 < n) (h : RowR n f g) (ha : a < 2 ^ 30) (hb : b < 2 ^ 30) (e66 : g 66 = nI a) (e73 : g 73 = nI b) : F_X5_stepFrom (f 8) f = some (nI (st n g)) := by
  have n8 := h.n8
  have f2 : f 2 = nI a := (h.sc (2, 66) (by decide)).trans e66
  have f8 : f 8 = nI b := (h.sc (8, 73) (by decide)).trans e73
  have e2 : (2 : Int32) * nI n = nI (2 * n) := by rw [show (2 : Int32) = nI 2 from rfl, nI_mul]
  have es : (nI a - nI b).toInt = (a : Int) - b := pk_sub_toInt ha hb
  have est : st n g = (a - b) / (2 * n) := by
    unfold st
    rw [e66, e73, es, show ((a : Int) - b).toNat = a - b by omega]
  have enz : ¬ nI (2 * n) = 0 := fun e => by
    have := (nI_eq (a := 2 * n) (b := 0) (by omega) (by omega)).mp e
    omega
  unfold F_X5_stepFrom
  rw [h.sz, f2, f8, e2, if_neg (show ¬ nI (2 * n) ≤ (0 : Int32) from mt (nI_leI (a := 2 * n) (b := 0) (by omega) (by omega)).mp (by omega))]
  by_cases c : b < a
  · have ed : nI (a - b) / nI (2 * n) = nI ((a - b) / (2 * n)) := (Int32.ofNat_div (by omega) (by omega)).symm
    rw [if_pos ((nI_ltI (a := b) (b := a) (by omega) (by omega)).mpr c), xsub (by omega), est]
    unfold nzI
    rw [if_neg enz, ed]
  · rw [if_neg (mt (nI_ltI (a := b) (b := a) (by omega) (by omega)).mp c), est, show a - b = 0 by omega, Nat.zero_div]
    rfl
/-- the frozen ones as a number -/
def row_mk (g : Nat → Int32) : Nat → Nat
  | 0 => 0
  | k + 1 => row_mk g k + (if g (76 + k) = 1 then 2 ^ k else 0)
theorem row_mk_lt {g : Nat → Int32} : ∀ n, row_mk g n < 2 ^ n := by
  intro n
  induction n with
  | zero => exact Nat.one_pos
  | succ k ih =>
    show row_mk g k + (if g (76 + k) = 1 then 2 ^ k else 0) < 2 ^ (k + 1)
    rw [Nat.pow_succ]
    split <;> omega
theorem bit_or : ∀ k, k < 8 → ∀ m, m < 2 ^ k → nI m ||| ((1 : Int32) <<< (nI k &&& 31)) = nI (m + 2 ^ k) := by decide +kernel
theorem bit_at : ∀ m, m < 256 → ∀ k, k < 8 → (nI m >>> (nI k &&& 31)) &&& 1 = nI (m / 2 ^ k % 2) := by decide +kernel
theorem bit_up : ∀ k, k < 8 → ∀ m, m < 2 ^ k → (∀ i, i < k → (m + 2 ^ k) / 2 ^ i % 2 = m / 2 ^ i % 2) ∧ m / 2 ^ k % 2 = 0 ∧ (m + 2 ^ k) / 2 ^ k % 2 = 1 := by decide +kernel
theorem row_frz_mk {g : Nat → Int32} : ∀ n, n ≤ 8 → row_frz g n = nI (row_mk g n) := by
  intro n
  induction n with
  | zero => exact fun _ => rfl
  | succ k ih =>
    intro hk
    show row_frz g k ||| (if g (76 + k) = 1 then (1 : Int32) <<< (nI k &&& 31) else 0) = nI (row_mk g k + (if g (76 + k) = 1 then 2 ^ k else 0))
    rw [ih (by omega)]
    by_cases c : g (76 + k) = 1
    · rw [if_pos c, if_pos c]
      exact bit_or k (by omega) _ (row_mk_lt k)
    · rw [if_neg c, if_neg c, Int32.or_zero, Nat.add_zero]
theorem row_mk_at {g : Nat → Int32} : ∀ n, n ≤ 8 → ∀ i, i < n → row_mk g n / 2 ^ i % 2 = if g (76 + i) = 1 then 1 else 0 := by
  intro n
  induction n with
  | zero => exact fun _ i hi => absurd hi (Nat.not_lt_zero _)
  | succ k ih =>
    intro hk i hi
    obtain ⟨u1, u2, u3⟩ := bit_up k (by omega) (row_mk g k) (row_mk_lt k)
    show (row_mk g k + (if g (76 + k) = 1 then 2 ^ k else 0)) / 2 ^ i % 2 = _
    by_cases e : i = k
    · rw [e]
      by_cases c : g (76 + k) = 1
      · rw [if_pos c, if_pos c, u3]
      · rw [if_neg c, if_neg c, Nat.add_zero, u2]
    · have hik : i < k := by omega
      by_cases c : g (76 + k) = 1
      · rw [if_pos c, u1 i hik]
        exact ih (by omega) i hik
      · rw [if_neg c, Nat.add_zero]
        exact ih (by omega) i hik
theorem cs_has {n i : Nat} {f : Nat → Int32} (n8 : n ≤ 8) (h3 : f 3 = nI n) (hi : i < n) : F_X5_hasSite (nI i) f = some 1 := by
  unfold F_X5_hasSite
  rw [if_neg (nn0 (by omega)), h3, if_neg (mt (nI_leI (a := n) (b := i) (by omega) (by omega)).mp (by omega)), if_neg (show ¬ (8 : Int32) ≤ nI i from mt (nI_leI (a := 8) (b := i) (by omega) (by omega)).mp (by omega))]
/-- frozen: both alike -/
theorem fz_c {n i : Nat} {f g : Nat → Int32} (h : RowB n f g) (hi : i < n) : F_X5_isFrozen (nI i) f = some (if g (76 + i) = 1 then 1 else 0) := by
  have n8 := h.n8
  have lt : row_mk g n < 256 := Nat.lt_of_lt_of_le (row_mk_lt n) (Nat.pow_le_pow_right (by decide) n8)
  unfold F_X5_isFrozen
  rw [cs_has n8 h.sz hi, xb1, if_neg (by decide), h.fr, row_frz_mk n n8, bit_at _ lt i (by omega), row_mk_at n n8 i hi]
  by_cases c : g (76 + i) = 1
  · rw [if_pos c, if_pos c, if_neg (by decide)]
  · rw [if_neg c, if_neg c, if_pos (by decide)]
theorem fz_m {i : Nat} {g : Nat → Int32} (hi : i < 8) : F_X8_isFrozen (nI i) g = some (if g (76 + i) = 1 then 1 else 0) := by
  unfold F_X8_isFrozen
  rw [bm_ix (a := 76) (by rfl) (by omega), bm_cl (a := 76) (by rfl) (by omega)]
  by_cases c : g (76 + i) = 1
  · rw [if_pos c, if_pos c]
  · rw [if_neg c, if_neg c]
