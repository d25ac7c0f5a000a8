/-! scripts kept by both -/
theorem c_keep {k : Nat} {st co rs : Nat → Int32} {x : Int32} (hk : k < 4) : F_X4_keep st co (nI k) rs x = some (va_cpy rs st 0 (48 * k) 48, upd co k x, nI (k + 1)) := by
  unfold F_X4_keep F_X4_areFull
  have e : nI k * 48 = nI (48 * k) := by rw [show (48 : Int32) = nI 48 from rfl, nI_mul, Nat.mul_comm]
  have l48 : (48 : Int32).toNatClampNeg = 48 := rfl
  rw [if_pos (show nI k < (4 : Int32) from (nI_ltI (a := k) (b := 4) (by omega) (by omega)).mpr hk), xb1, if_pos rfl, e]
  unfold cpF
  rw [if_pos ⟨by decide, nI_pos (by omega), by decide, by decide, by rw [nI_clamp (by omega), l48]; omega⟩, xnm, xixn hk (by decide), xnm, nI_clamp (show k < 2 ^ 31 by omega), nI_clamp (show 48 * k < 2 ^ 31 by omega), nI_1, litz, l48]
/-- the first k scripts are the same in both -/
def SR (k : Nat) (st co sc lg : Nat → Int32) : Prop := ∀ r, r < k → ∃ c, 1 ≤ c ∧ c ≤ 12 ∧ co r = nI c ∧ lg r = nI c ∧ ∀ j, j < 4 * c → st (48 * r + j) = sc (48 * r + j)
theorem SR.keep {k c : Nat} {st co sc lg rs sc' lg' : Nat → Int32} (h : SR k st co sc lg) (hc1 : 1 ≤ c) (hc : c ≤ 12) (h1 : lg' k = nI c) (h2 : ScOK k c rs sc') (h3 : ∀ j, (j < 48 * k ∨ 48 * k + 48 ≤ j) → sc' j = sc j) (h4 : ∀ j, ¬ j = k → lg' j = lg j) : SR (k + 1) (va_cpy rs st 0 (48 * k) 48) (upd co k (nI c)) sc' lg' := by
  intro r hr
  by_cases e : r = k
  · subst e
    refine ⟨c, hc1, hc, upd_at, h1, fun j hj => ?_⟩
    show (if 48 * r ≤ 48 * r + j ∧ 48 * r + j < 48 * r + 48 then rs (0 + (48 * r + j - 48 * r)) else st (48 * r + j)) = _
    rw [if_pos ⟨by omega, by omega⟩, show 0 + (48 * r + j - 48 * r) = j by omega]
    exact h2 j hj
  · obtain ⟨d, d1, d2, d3, d4, d5⟩ := h r (by omega)
    refine ⟨d, d1, d2, (upd_no e).trans d3, (h4 r e).trans d4, fun j hj => ?_⟩
    show (if 48 * k ≤ 48 * r + j ∧ 48 * r + j < 48 * k + 48 then rs (0 + (48 * r + j - 48 * k)) else st (48 * r + j)) = _
    rw [if_neg (by omega), h3 _ (Or.inl (by omega))]
    exact d5 j hj
