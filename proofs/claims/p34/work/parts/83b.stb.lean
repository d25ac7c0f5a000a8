/-! step of both: the same answer, out of the scripts that are alike (for p34) -/
theorem ge0 {p : Int32} (q : ¬ 0 ≤ p) : p < 0 := lt_not.mpr q
theorem st_both {k : Nat} {p1 p2 p3 : Int32} {st co sc lg : Nat → Int32} (hk : k ≤ 4) (h : SR k st co sc lg) : ∃ v, F_X7_step p1 p2 p3 st co (nI k) = some v ∧ F_X8_step_ p1 p2 p3 sc lg (nI k) = some v := by
  have eS : F_X8_isScript p1 (nI k) = some (if 0 ≤ p1 ∧ p1 ≤ nI k - 1 then 1 else 0) := by
    unfold F_X8_isScript
    rw [show (0 : Int64) = (0 : Int32).toInt64 from rfl, m_inI, xb1]
  by_cases a : 0 ≤ p1 ∧ p1 ≤ nI k - 1
  · obtain ⟨r, hr, rfl⟩ := in_lt (by omega) a
    obtain ⟨c, c1, c2, c3, c4, c5⟩ := h r hr
    have nr : ¬ nI r < 0 := fun q => lt_not.mp q a.1
    have eh : F_X4_has (nI r) (nI k) = some 1 := by
      unfold F_X4_has
      rw [if_neg nr, if_neg (mt (nI_leI (a := k) (b := r) (by omega) (by omega)).mp (by omega)), if_neg (show ¬ (4 : Int32) ≤ nI r from mt (nI_leI (a := 4) (b := r) (by omega) (by omega)).mp (by omega))]
    have es : F_X4_stepsOf (nI r) co (nI k) = some (nI c) := by
      unfold F_X4_stepsOf
      rw [eh, xb1, if_neg (by decide), xixn (by omega) (by decide), nI_clamp (by omega), c3]
    have e2 : F_X8_in p2.toInt64 (0 : Int64) ((nI c - (1 : Int32)).toInt64) = some (if 0 ≤ p2 ∧ p2 ≤ nI c - 1 then 1 else 0) := by
      rw [show (0 : Int64) = (0 : Int32).toInt64 from rfl, m_inI]
    have e3 : F_X8_in p3.toInt64 (0 : Int64) (3 : Int64) = some (if 0 ≤ p3 ∧ p3 ≤ 3 then 1 else 0) := by
      rw [show (0 : Int64) = (0 : Int32).toInt64 from rfl, show (3 : Int64) = (3 : Int32).toInt64 from rfl, m_inI]
    have E8 : F_X8_step_ (nI r) p2 p3 sc lg (nI k) = (if (0 ≤ p2 ∧ p2 ≤ nI c - 1) ∧ (0 ≤ p3 ∧ p3 ≤ 3) then ixF (((4 : Int32) * (((12 : Int32) * nI r) + p2)) + p3) 240 (some (sc (((4 : Int32) * (((12 : Int32) * nI r) + p2)) + p3).toNatClampNeg)) else some (-100000000)) := by
      unfold F_X8_step_
      rw [eS, xb1, if_pos a, if_neg (by decide), xixn (by omega) (by decide), nI_clamp (show r < 2 ^ 31 by omega), c4, e2, xb1, e3]
      by_cases b : 0 ≤ p2 ∧ p2 ≤ nI c - 1
      · rw [if_pos b, if_neg (by decide), xb1]
        by_cases d : 0 ≤ p3 ∧ p3 ≤ 3
        · rw [if_pos d, if_neg (by decide), if_pos ⟨b, d⟩]
        · rw [if_neg d, if_pos rfl, if_neg (fun z => d z.2)]
      · rw [if_neg b, if_pos rfl, if_neg (fun z => b z.1)]
    have E7 : F_X7_step (nI r) p2 p3 st co (nI k) = (if (0 ≤ p2 ∧ p2 ≤ nI c - 1) ∧ (0 ≤ p3 ∧ p3 ≤ 3) then bd1 (ixF (((nI r * (48 : Int32)) + (p2 * (4 : Int32))) + p3) 192 (some (st (((nI r * (48 : Int32)) + (p2 * (4 : Int32))) + p3).toNatClampNeg))) (fun r_1 => some r_1) else some (-100000000)) := by
      have hc1 : nI c - 1 = nI (c - 1) := xsub (b := 1) c1
      unfold F_X7_step F_X4_read
      rw [es, xb1]
      by_cases b0 : p2 < 0
      · rw [if_pos b0, xb1, if_neg (fun z => lt_not.mp b0 z.1.1)]
      · rw [if_neg b0]
        by_cases b1 : nI c ≤ p2
        · rw [if_pos b1, xb1, if_neg (fun z => ?_)]
          have z2 := Int32.le_trans b1 z.1.2
          rw [hc1] at z2
          have := (nI_leI (a := c) (b := c - 1) (by omega) (by omega)).mp z2
          omega
        · obtain ⟨i, hi, rfl⟩ := nnI (n := c) (by omega) b0 b1
          have bi : 0 ≤ nI i ∧ nI i ≤ nI c - 1 := ⟨(nI_leI (a := 0) (b := i) (by omega) (by omega)).mpr (Nat.zero_le _), by rw [hc1]; exact (nI_leI (a := i) (b := c - 1) (by omega) (by omega)).mpr (by omega)⟩
          rw [if_neg b1]
          by_cases d0 : p3 < 0
          · rw [if_pos d0, xb1, if_neg (fun z => lt_not.mp d0 z.2.1)]
          · rw [if_neg d0]
            by_cases d1 : p3 < 4
            · obtain ⟨w, hw, rfl⟩ := nnI (n := 4) (by omega) d0 (lt_not.mp d1)
              have dw : 0 ≤ nI w ∧ nI w ≤ (3 : Int32) := ⟨(nI_leI (a := 0) (b := w) (by omega) (by omega)).mpr (Nat.zero_le _), (nI_leI (a := w) (b := 3) (by omega) (by omega)).mpr (by omega)⟩
              rw [if_pos d1, if_pos ⟨bi, dw⟩]
            · rw [if_neg d1, xb1, if_neg (fun z => ?_)]
              apply d1
              exact Int32.lt_of_le_of_lt z.2.2 (by decide)
    rw [E7, E8]
    by_cases q : (0 ≤ p2 ∧ p2 ≤ nI c - 1) ∧ (0 ≤ p3 ∧ p3 ≤ 3)
    · obtain ⟨i, hi, rfl⟩ := in_lt (by omega) q.1
      obtain ⟨w, hw, rfl⟩ := in_nat (n := 3) (by decide) q.2
      rw [if_pos q, if_pos q]
      have x1 : nI r * (48 : Int32) + nI i * (4 : Int32) + nI w = nI (48 * r + (4 * i + w)) := by
        rw [show (48 : Int32) = nI 48 from rfl, show (4 : Int32) = nI 4 from rfl, nI_mul, nI_mul, nI_add, nI_add]
        congr 1
        omega
      have x2 : (4 : Int32) * ((12 : Int32) * nI r + nI i) + nI w = nI (48 * r + (4 * i + w)) := by
        rw [show (12 : Int32) = nI 12 from rfl, show (4 : Int32) = nI 4 from rfl, nI_mul, nI_add, nI_mul, nI_add]
        congr 1
        omega
      rw [x1, x2, xixn (by omega) (by decide), xixn (by omega) (by decide), nI_clamp (by omega), xb1, c5 (4 * i + w) (by omega)]
      exact ⟨_, rfl, rfl⟩
    · rw [if_neg q, if_neg q]
      exact ⟨_, rfl, rfl⟩
  · refine ⟨-100000000, ?_, ?_⟩
    · unfold F_X7_step F_X4_read F_X4_stepsOf F_X4_has
      by_cases b0 : p2 < 0
      · rw [if_pos b0, xb1]
      · rw [if_neg b0]
        have z0 : ∀ x : Int32, x = 0 → (if x ≤ p2 then some (-100000000 : Int32) else if p3 < (0 : Int32) then some (-100000000 : Int32) else if p3 < (4 : Int32) then ixF (((p1 * (48 : Int32)) + (p2 * (4 : Int32))) + p3) 192 (some (st (((p1 * (48 : Int32)) + (p2 * (4 : Int32))) + p3).toNatClampNeg)) else some (-100000000 : Int32)) = some (-100000000 : Int32) := fun x hx => by
          rw [hx, if_pos (Classical.byContradiction (fun z => b0 (ge0 z)))]
        by_cases a0 : p1 < 0
        · rw [if_pos a0, xb1, if_pos rfl, xb1, z0 0 rfl, xb1]
        · rw [if_neg a0]
          by_cases a1 : nI k ≤ p1
          · rw [if_pos a1, xb1, if_pos rfl, xb1, z0 0 rfl, xb1]
          · exfalso
            obtain ⟨r, hr, rfl⟩ := nnI (n := k) (by omega) a0 a1
            apply a
            exact ⟨(nI_leI (a := 0) (b := r) (by omega) (by omega)).mpr (Nat.zero_le _), by rw [show nI k - 1 = nI (k - 1) from xsub (b := 1) (by omega)]; exact (nI_leI (a := r) (b := k - 1) (by omega) (by omega)).mpr (by omega)⟩
    · unfold F_X8_step_
      rw [eS, xb1, if_neg a, if_pos rfl]
