/-! Stage B, 1: what the class's row functions and the reference's are, at a site; sums -/
/-- the sum of the first k -/
def sgm (a : Nat → Int32) : Nat → Int32
  | 0 => 0
  | k + 1 => sgm a k + a k
theorem sgm_eq {a b : Nat → Int32} : ∀ n, (∀ i, i < n → a i = b i) → sgm a n = sgm b n := by
  intro n
  induction n with
  | zero => exact fun _ => rfl
  | succ k ih =>
    intro h
    show sgm a k + a k = sgm b k + b k
    rw [ih (fun i hi => h i (by omega)), h k (by omega)]
theorem ix_of {i c : Nat} : ((17 : Int32) + (nI i * (8 : Int32))) + nI c = nI (17 + 8 * i + c) := by
  rw [show (17 : Int32) = nI 17 from rfl, show (8 : Int32) = nI 8 from rfl, nI_mul, nI_add, nI_add, Nat.mul_comm i 8]
theorem nn0 {i : Nat} (h : i < 2 ^ 31) : ¬ nI i < 0 := fun q => by
  have := (nI_ltI (a := i) (b := 0) h (by omega)).mp q
  omega
theorem b_of {i c : Nat} {f : Nat → Int32} (hi : i < 8) (hc : c < 8) : F_X5_of (nI i) (nI c) f = some (f (17 + 8 * i + c)) := by
  unfold F_X5_of
  rw [if_neg (nn0 (by omega)), if_neg (show ¬ (8 : Int32) ≤ nI i from mt (nI_leI (a := 8) (b := i) (by omega) (by omega)).mp (by omega)), if_neg (nn0 (by omega)), if_pos (show nI c < (8 : Int32) from (nI_ltI (a := c) (b := 8) (by omega) (by omega)).mpr hc), ix_of, xixn (by omega) (by decide), nI_clamp (by omega)]
theorem b_put {i c : Nat} {v : Int32} {f : Nat → Int32} (hi : i < 8) (hc : c < 8) : F_X5_put (nI i) (nI c) v f = some (upd f (17 + 8 * i + c) v) := by
  unfold F_X5_put
  rw [if_neg (nn0 (by omega)), if_neg (show ¬ (8 : Int32) ≤ nI i from mt (nI_leI (a := 8) (b := i) (by omega) (by omega)).mp (by omega)), if_neg (nn0 (by omega)), if_neg (show ¬ (8 : Int32) ≤ nI c from mt (nI_leI (a := 8) (b := c) (by omega) (by omega)).mp (by omega)), ix_of, xixn (by omega) (by decide), nI_clamp (by omega), xnm]
/-- a drift out of the class's row -/
def cdr (f : Nat → Int32) (i a : Nat) : Int32 := f (17 + 8 * i + a) - f (17 + 8 * i + (a + 2)) + f (17 + 8 * i + (a + 4))
theorem b_drift {i a : Nat} {f : Nat → Int32} (hi : i < 8) (ha : a < 2) : F_X5_drift (nI i) (nI a) f = some (cdr f i a) := by
  have k0 : (((17 : Int32) + (nI i * (8 : Int32))) + nI a) + (0 : Int32) = nI (17 + 8 * i + a) := by rw [ix_of, Int32.add_zero]
  have k2 : (((17 : Int32) + (nI i * (8 : Int32))) + nI a) + (2 : Int32) = nI (17 + 8 * i + (a + 2)) := by rw [ix_of]; exact nI_add _ 2
  have k4 : (((17 : Int32) + (nI i * (8 : Int32))) + nI a) + (4 : Int32) = nI (17 + 8 * i + (a + 4)) := by rw [ix_of]; exact nI_add _ 4
  unfold F_X5_drift
  rw [if_neg (nn0 (by omega)), if_neg (show ¬ (8 : Int32) ≤ nI i from mt (nI_leI (a := 8) (b := i) (by omega) (by omega)).mp (by omega)), if_neg (nn0 (by omega)), if_pos (show nI a ≤ (1 : Int32) from (nI_leI (a := a) (b := 1) (by omega) (by omega)).mpr (by omega)), k0, k2, k4, xixn (by omega) (by decide), xixn (by omega) (by decide), xixn (by omega) (by decide), nI_clamp (by omega), nI_clamp (by omega), nI_clamp (by omega)]
  rfl
theorem b_total {K n c : Nat} {f : Nat → Int32} (hK : 200000 ≤ K) (hn : n ≤ 8) (h3 : f 3 = nI n) (hc : c < 8) : F_X5_total K (nI c) f = some (sgm (fun i => f (17 + 8 * i + c)) n) := by
  have h : lpF (fun u9 : Int32 × Int32 => B_X5_total_4 (nI c) f u9.1 u9.2) K ((0 : Int32), (0 : Int32)) = some (sgm (fun i => f (17 + 8 * i + c)) n) := by
    refine lp_for (fun j => (sgm (fun i => f (17 + 8 * i + c)) j, nI j)) (n := n) (by omega) (fun j hj => ?_) ?_
    · show B_X5_total_4 (nI c) f (sgm (fun i => f (17 + 8 * i + c)) j) (nI j) = some (.inl (sgm (fun i => f (17 + 8 * i + c)) j + f (17 + 8 * j + c), nI (j + 1)))
      unfold B_X5_total_4 F_X5_sites
      rw [xb1, h3, if_neg (mt (nI_leI (a := n) (b := j) (by omega) (by omega)).mp (by omega)), b_of (by omega) hc, xb1, nI_1]
    · show B_X5_total_4 (nI c) f (sgm (fun i => f (17 + 8 * i + c)) n) (nI n) = some (.inr (sgm (fun i => f (17 + 8 * i + c)) n))
      unfold B_X5_total_4 F_X5_sites
      rw [xb1, h3, if_pos ((nI_leI (a := n) (b := n) (by omega) (by omega)).mpr (Nat.le_refl _))]
  unfold F_X5_total
  rw [h, xb1]
theorem bm_sum {K n b : Nat} {g : Nat → Int32} (hK : 200000 ≤ K) (hn : n ≤ 8) (hb : b ≤ 200) : F_X8_sum K (nI b) g (nI n) = some (sgm (fun i => g (b + i)) n) := by
  have h : lpF (fun u9 : Int32 × Int32 => B_X8_sum_4 (nI b) (nI n) g u9.1 u9.2) K ((0 : Int32), (0 : Int32)) = some (sgm (fun i => g (b + i)) n) := by
    refine lp_for (fun j => (sgm (fun i => g (b + i)) j, nI j)) (n := n) (by omega) (fun j hj => ?_) ?_
    · show B_X8_sum_4 (nI b) (nI n) g (sgm (fun i => g (b + i)) j) (nI j) = some (.inl (sgm (fun i => g (b + i)) j + g (b + j), nI (j + 1)))
      unfold B_X8_sum_4
      rw [if_neg (mt (nI_leI (a := n) (b := j) (by omega) (by omega)).mp (by omega)), nI_add, xixn (by omega) (by decide), nI_clamp (by omega), nI_1]
    · show B_X8_sum_4 (nI b) (nI n) g (sgm (fun i => g (b + i)) n) (nI n) = some (.inr (sgm (fun i => g (b + i)) n))
      unfold B_X8_sum_4
      rw [if_pos ((nI_leI (a := n) (b := n) (by omega) (by omega)).mpr (Nat.le_refl _))]
  unfold F_X8_sum
  rw [h, xb1]
