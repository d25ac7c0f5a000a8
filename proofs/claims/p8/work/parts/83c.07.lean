/-! Stage B, 7: one is frozen or let go, in both -/
theorem bit_tog : ∀ m, m < 256 → ∀ k, k < 8 → nI m ^^^ ((1 : Int32) <<< (nI k &&& 31)) = nI (if m / 2 ^ k % 2 = 1 then m - 2 ^ k else m + 2 ^ k) := by decide +kernel
theorem row_mk_eq {g g' : Nat → Int32} : ∀ n, (∀ i, i < n → g (76 + i) = g' (76 + i)) → row_mk g n = row_mk g' n := by
  intro n
  induction n with
  | zero => exact fun _ => rfl
  | succ k ih =>
    intro h
    show row_mk g k + (if g (76 + k) = 1 then 2 ^ k else 0) = row_mk g' k + (if g' (76 + k) = 1 then 2 ^ k else 0)
    rw [ih (fun i hi => h i (by omega)), h k (by omega)]
theorem row_mk_tog {g : Nat → Int32} {i : Nat} (hb : g (76 + i) = 0 ∨ g (76 + i) = 1) : ∀ n, i < n → (g (76 + i) = 1 → row_mk (upd g (76 + i) (1 - g (76 + i))) n + 2 ^ i = row_mk g n) ∧ (g (76 + i) = 0 → row_mk (upd g (76 + i) (1 - g (76 + i))) n = row_mk g n + 2 ^ i) := by
  intro n
  induction n with
  | zero => exact fun h => absurd h (Nat.not_lt_zero _)
  | succ k ih =>
    intro h
    have u1 : row_mk (upd g (76 + i) (1 - g (76 + i))) (k + 1) = row_mk (upd g (76 + i) (1 - g (76 + i))) k + (if upd g (76 + i) (1 - g (76 + i)) (76 + k) = 1 then 2 ^ k else 0) := rfl
    have u2 : row_mk g (k + 1) = row_mk g k + (if g (76 + k) = 1 then 2 ^ k else 0) := rfl
    rw [u1, u2]
    by_cases e : i = k
    · have q : row_mk (upd g (76 + i) (1 - g (76 + i))) k = row_mk g k := row_mk_eq k (fun j hj => upd_ne (by omega))
      rw [q]
      rw [← e, upd_at]
      rcases hb with b | b
      · rw [b, if_pos (show (1 : Int32) - 0 = 1 by decide), if_neg (show ¬ (0 : Int32) = 1 by decide)]
        exact ⟨fun z => absurd z (by decide), fun _ => by omega⟩
      · rw [b, if_neg (show ¬ (1 : Int32) - 1 = 1 by decide), if_pos rfl]
        exact ⟨fun _ => by omega, fun z => absurd z (by decide)⟩
    · obtain ⟨i1, i2⟩ := ih (by omega)
      rw [upd_ne (show ¬ 76 + k = 76 + i by omega)]
      exact ⟨fun z => by have := i1 z; omega, fun z => by have := i2 z; omega⟩
/-- frozen or let go -/
theorem fr_both {n i : Nat} {f g : Nat → Int32} (h : RowR n f g) (hi : i < n) (hb : g (76 + i) = 0 ∨ g (76 + i) = 1) : RowR n (upd f 7 (f 7 ^^^ ((1 : Int32) <<< (nI i &&& 31)))) (upd g (76 + i) (1 - g (76 + i))) := by
  have n8 := h.n8
  have lt : row_mk g n < 256 := Nat.lt_of_lt_of_le (row_mk_lt n) (Nat.pow_le_pow_right (by decide) n8)
  obtain ⟨t1, t0⟩ := row_mk_tog hb n hi
  refine ⟨⟨n8, ?_, ?_, ?_, ?_⟩, ?_, ?_⟩
  · rw [upd_ne (by decide)]
    exact h.sz
  · intro j d hj hd
    rw [upd_ne (by omega), upd_ne (by omega)]
    exact h.toRowB.st j d hj hd
  · intro p hp
    obtain ⟨b1, b2, b3, b4, b5, b6, b7⟩ := rowScl_b p hp
    rw [upd_ne b5, upd_ne (by omega)]
    exact h.sc p hp
  · rw [upd_at, h.toRowB.fr, row_frz_mk n n8, row_frz_mk n n8, bit_tog _ lt i (by omega), row_mk_at n n8 i hi]
    rcases hb with b | b
    · rw [if_neg (show ¬ g (76 + i) = 1 by rw [b]; decide), if_neg (by decide), t0 b]
    · rw [if_pos b, if_pos rfl, show row_mk g n - 2 ^ i = row_mk (upd g (76 + i) (1 - g (76 + i))) n by have := t1 b; omega]
  · rw [upd_ne (by decide), h.sx]
    exact sgm_eq n (fun k hk => (upd_ne (show ¬ 16 + k = 76 + i by omega)).symm)
  · rw [upd_ne (by decide), h.sy]
    exact sgm_eq n (fun k hk => (upd_ne (show ¬ 24 + k = 76 + i by omega)).symm)
