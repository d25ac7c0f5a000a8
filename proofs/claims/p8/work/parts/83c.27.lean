/-! Stage B, 27: the fairest, spans, in both -/
theorem m_abv {v : Int32} : F_X8_above v = some (absF v) := by
  unfold F_X8_above absF
  by_cases c : 0 ≤ v
  · rw [if_pos c, if_pos c]
  · rw [if_neg c, if_neg c, Int32.zero_sub]
theorem sl_both {n i : Nat} {f g : Nat → Int32} (h : RowR n f g) (hi : i < n) : F_X5_slackLength (nI i) f = some (absF (g (32 + i)) + absF (g (40 + i))) ∧ F_X8_slackOf (nI i) g = some (absF (g (32 + i)) + absF (g (40 + i))) := by
  have n8 := h.n8
  have e4 : f (17 + 8 * i + 4) = g (32 + i) := h.1.2.2.1 i 4 hi (by decide)
  have e5 : f (17 + 8 * i + 5) = g (40 + i) := h.1.2.2.1 i 5 hi (by decide)
  unfold F_X5_slackLength F_X8_slackOf
  rw [bx_of (c := 4) (by rfl) (by omega) (by decide), xb1, bx_of (c := 5) (by rfl) (by omega) (by decide), xb1, e4, e5, bm_ix (a := 32) (by rfl) (by omega), bm_cl (a := 32) (by rfl) (by omega), m_abv, xb1, bm_ix (a := 40) (by rfl) (by omega), bm_cl (a := 40) (by rfl) (by omega), m_abv, xb1]
  exact ⟨rfl, rfl⟩
theorem pv0_both {n i K : Nat} {f g : Nat → Int32} (hK : 200000 ≤ K) (h : RowR n f g) (hg : RowG g) (hi : i < n) : ∃ v, F_X5_pointValue (nI i) 0 0 f = some v ∧ F_X8_pointValue K (nI i) g (nI n) = some v := by
  have n8 := h.n8
  obtain ⟨v, v1, v2, v3, v4⟩ := pv_both (x := 0) (y := 0) hK h hg hi
  rw [Int32.add_zero] at v2 v3 v4
  rw [Int32.add_zero] at v4
  refine ⟨v, v1, ?_⟩
  unfold F_X8_pointValue
  rw [m_drX (by omega), xb1, v2, xb1, m_drY (by omega), xb1, v3, xb1, v4, xb1]
def FrR (n : Nat) (j : Nat) (s t : Int32 × Int32) : Prop := ∃ b, b < n ∧ s = (nI b, nI (j + 1)) ∧ t = (nI b, nI (j + 1))
theorem p_fair {n K : Nat} {f g : Nat → Int32} {x : Int32} (hK : 200000 ≤ K) (h : RowR n f g) (hg : RowG g) : ∃ v, F_X7_fair K x f = some v ∧ F_X8_fair K x g (nI n) = some v := by
  have n8 := h.n8
  obtain ⟨s1, s2⟩ := sd_both n8 h.sz
  unfold F_X7_fair F_X8_fair
  by_cases z : n = 0
  · rw [s1, s2, if_pos z, xb1, xb1, if_pos rfl, if_pos rfl]
    exact ⟨_, rfl, rfl⟩
  · rw [s1, s2, if_neg z, xb1, xb1, if_neg n10, if_neg n10, m_in0 (m := 1) (by decide), xb1, ite10, rng_d]
    by_cases d : 0 ≤ x ∧ x ≤ nI 1
    · rw [if_pos (show 0 ≤ x ∧ x ≤ (1 : Int32) from d), if_pos d]
      have st : ∀ j s t, j < n - 1 → FrR n j s t → (∃ s' t', (fun u9 : Int32 × Int32 => B_X7_fair_25 x f u9.1 u9.2) s = some (.inl s') ∧ (fun u9 : Int32 × Int32 => B_X8_fair_23 K x (nI n) g u9.1 u9.2) t = some (.inl t') ∧ FrR n (j + 1) s' t') ∨ (∃ r u, (fun u9 : Int32 × Int32 => B_X7_fair_25 x f u9.1 u9.2) s = some (.inr r) ∧ (fun u9 : Int32 × Int32 => B_X8_fair_23 K x (nI n) g u9.1 u9.2) t = some (.inr u) ∧ r = u) := by
        intro j s t hj q
        obtain ⟨b, hb, rfl, rfl⟩ := q
        have lt : ¬ nI n ≤ nI (j + 1) := mt (nI_leI (a := n) (b := j + 1) (by omega) (by omega)).mp (by omega)
        obtain ⟨v, v1, v2⟩ := pv0_both hK h hg (show j + 1 < n by omega)
        obtain ⟨w, w1, w2⟩ := pv0_both hK h hg hb
        obtain ⟨p1, p2⟩ := sl_both h (show j + 1 < n by omega)
        obtain ⟨q1, q2⟩ := sl_both h hb
        refine Or.inl ?_
        show ∃ s' t', B_X7_fair_25 x f (nI b) (nI (j + 1)) = some (.inl s') ∧ B_X8_fair_23 K x (nI n) g (nI b) (nI (j + 1)) = some (.inl t') ∧ FrR n (j + 1) s' t'
        unfold B_X7_fair_25 B_X8_fair_23 F_X5_sites
        rw [xb1, h.sz, if_neg lt, if_neg lt, v1, v2, w1, w2, p1, p2, q1, q2]
        simp only [xb1, nI_1]
        by_cases c : x = 0
        · rw [if_pos c]
          by_cases e : lg_cmp v w ≤ (0 : Int32)
          · rw [if_pos e]
            exact ⟨_, _, rfl, rfl, b, hb, rfl, rfl⟩
          · rw [if_neg e]
            exact ⟨_, _, rfl, rfl, j + 1, by omega, rfl, rfl⟩
        · rw [if_neg c]
          by_cases e : absF (g (32 + (j + 1))) + absF (g (40 + (j + 1))) ≤ absF (g (32 + b)) + absF (g (40 + b))
          · rw [if_pos e]
            exact ⟨_, _, rfl, rfl, b, hb, rfl, rfl⟩
          · rw [if_neg e]
            exact ⟨_, _, rfl, rfl, j + 1, by omega, rfl, rfl⟩
      have he : ∀ s t, FrR n (n - 1) s t → ∃ r u, (fun u9 : Int32 × Int32 => B_X7_fair_25 x f u9.1 u9.2) s = some (.inr r) ∧ (fun u9 : Int32 × Int32 => B_X8_fair_23 K x (nI n) g u9.1 u9.2) t = some (.inr u) ∧ r = u := by
        intro s t q
        obtain ⟨b, hb, rfl, rfl⟩ := q
        rw [show n - 1 + 1 = n by omega]
        have le : nI n ≤ nI n := (nI_leI (a := n) (b := n) (by omega) (by omega)).mpr (Nat.le_refl _)
        show ∃ r u, B_X7_fair_25 x f (nI b) (nI n) = some (.inr r) ∧ B_X8_fair_23 K x (nI n) g (nI b) (nI n) = some (.inr u) ∧ r = u
        unfold B_X7_fair_25 B_X8_fair_23 F_X5_sites
        rw [xb1, h.sz, if_pos le, if_pos le]
        exact ⟨_, _, rfl, rfl, rfl⟩
      obtain ⟨r, u, l1, l2, e⟩ := lp_two (FrR n) (fun r u => r = u) (n := n - 1) (K := K) (K' := K) (by omega) (by omega) st he (s := ((0 : Int32), (1 : Int32))) (t := ((0 : Int32), (1 : Int32))) ⟨0, by omega, rfl, rfl⟩
      rw [l1, l2, xb1, xb1, e]
      exact ⟨_, rfl, rfl⟩
    · rw [if_neg (show ¬ (0 ≤ x ∧ x ≤ (1 : Int32)) from d), if_neg d]
      exact ⟨_, rfl, rfl⟩
theorem sq_1 {w x : Int32} (hw : w = 1 ∨ w = -1) : w * x * w = x := by
  rcases hw with rfl | rfl
  · rw [Int32.one_mul, Int32.mul_one]
  · rw [Int32.mul_comm, ← Int32.mul_assoc, show (-1 : Int32) * -1 = 1 by decide, Int32.one_mul]
theorem c_qw {n i : Nat} {f : Nat → Int32} {x y : Int32} (n8 : n ≤ 8) (hi : i < n) : F_X5_isQuietWith (nI i) x y f = some (qvl f (cdr f i 0 + x) (cdr f i 1 + y)) := by
  have b0 : F_X5_drift (nI i) (0 : Int32) f = some (cdr f i 0) := b_drift (a := 0) (by omega) (by decide)
  have b1 : F_X5_drift (nI i) (1 : Int32) f = some (cdr f i 1) := b_drift (a := 1) (by omega) (by decide)
  unfold F_X5_isQuietWith
  rw [b0, xb1, b1, xb1, qvl_is, xb1]
theorem sn_both {n i a K : Nat} {f g : Nat → Int32} {w : Int32} (hK : 200000 ≤ K) (h : RowR n f g) (hg : RowG g) (hi : i < n) (ha : a < 2) (hw : w = 1 ∨ w = -1) : ∃ v, J_X7_span_43 K (nI i) (nI a) f w = some v ∧ J_X8_span_38 K (nI i) (nI a) (nI n) g w = some v := by
  have n8 := h.n8
  obtain ⟨d0, d1⟩ := dr_both h.1.2.2.1 hi
  have st : ∀ j s t, j < 200 → (s = (w * nI j, nI (j + 1)) ∧ t = w * nI j) → (∃ s' t', (fun u9 : Int32 × Int32 => B_X7_span_51 (nI i) (nI a) f w u9.1 u9.2) s = some (.inl s') ∧ (fun u9 : Int32 => B_X8_span_43 K (nI i) (nI a) (nI n) g w u9) t = some (.inl t') ∧ (s' = (w * nI (j + 1), nI (j + 1 + 1)) ∧ t' = w * nI (j + 1))) ∨ (∃ r u, (fun u9 : Int32 × Int32 => B_X7_span_51 (nI i) (nI a) f w u9.1 u9.2) s = some (.inr r) ∧ (fun u9 : Int32 => B_X8_span_43 K (nI i) (nI a) (nI n) g w u9) t = some (.inr u) ∧ (r.1 < 2 ∧ r.2 = u)) := by
    intro j s t hj q
    obtain ⟨rfl, rfl⟩ := q
    have e1 : w * nI j + w = w * nI (j + 1) := by rw [← nI_1, Int32.mul_add, Int32.mul_one]
    have c1 : ¬ (200 : Int32) < nI (j + 1) := mt (nI_ltI (a := 200) (b := j + 1) (by omega) (by omega)).mp (by omega)
    have c2 : ¬ (200 : Int32) ≤ nI j := mt (nI_leI (a := 200) (b := j) (by omega) (by omega)).mp (by omega)
    show (∃ s' t', B_X7_span_51 (nI i) (nI a) f w (w * nI j) (nI (j + 1)) = some (.inl s') ∧ B_X8_span_43 K (nI i) (nI a) (nI n) g w (w * nI j) = some (.inl t') ∧ _) ∨ (∃ r u, B_X7_span_51 (nI i) (nI a) f w (w * nI j) (nI (j + 1)) = some (.inr r) ∧ B_X8_span_43 K (nI i) (nI a) (nI n) g w (w * nI j) = some (.inr u) ∧ _)
    unfold B_X7_span_51 B_X8_span_43 J_X7_span_81_r52 J_X8_span_73_r44
    rw [if_neg c1, sq_1 hw, if_neg c2, m_drX (by omega), xb1, m_drY (by omega)]
    simp only [xb1, e1, nI_1, c_qw n8 hi]
    rcases (show a = 0 ∨ a = 1 by omega) with rfl | rfl
    · simp only [if_pos (show nI 0 = (0 : Int32) from rfl), if_neg (show ¬ nI 0 = (1 : Int32) by decide), ← q_both hK h hg, qvl_is, xb1, d0, d1]
      by_cases c : qvl f (mdx g i + w * nI (j + 1)) (mdy g i + 0) = 0
      · rw [if_pos c, if_pos c]
        exact Or.inr ⟨_, _, rfl, rfl, Nat.zero_lt_succ 1, rfl⟩
      · rw [if_neg c, if_neg c]
        exact Or.inl ⟨_, _, rfl, rfl, rfl, rfl⟩
    · simp only [if_neg (show ¬ nI 1 = (0 : Int32) by decide), if_pos (show nI 1 = (1 : Int32) from rfl), ← q_both hK h hg, qvl_is, xb1, d0, d1]
      by_cases c : qvl f (mdx g i + 0) (mdy g i + w * nI (j + 1)) = 0
      · rw [if_pos c, if_pos c]
        exact Or.inr ⟨_, _, rfl, rfl, Nat.zero_lt_succ 1, rfl⟩
      · rw [if_neg c, if_neg c]
        exact Or.inl ⟨_, _, rfl, rfl, rfl, rfl⟩
  have he : ∀ s t, (s = (w * nI 200, nI (200 + 1)) ∧ t = w * nI 200) → ∃ r u, (fun u9 : Int32 × Int32 => B_X7_span_51 (nI i) (nI a) f w u9.1 u9.2) s = some (.inr r) ∧ (fun u9 : Int32 => B_X8_span_43 K (nI i) (nI a) (nI n) g w u9) t = some (.inr u) ∧ (r.1 < 2 ∧ r.2 = u) := by
    intro s t q
    obtain ⟨rfl, rfl⟩ := q
    show ∃ r u, B_X7_span_51 (nI i) (nI a) f w (w * nI 200) (nI (200 + 1)) = some (.inr r) ∧ B_X8_span_43 K (nI i) (nI a) (nI n) g w (w * nI 200) = some (.inr u) ∧ _
    unfold B_X7_span_51 B_X8_span_43
    rw [if_pos (by decide), sq_1 hw, if_pos (by decide)]
    exact ⟨_, _, rfl, rfl, Nat.lt_succ_self 1, rfl⟩
  obtain ⟨r, u, l1, l2, e1, e2⟩ := lp_two (fun j s t => s = (w * nI j, nI (j + 1)) ∧ t = w * nI j) (fun (r : Nat × Int32) (u : Int32) => r.1 < 2 ∧ r.2 = u) (n := 200) (K := K) (K' := K) (by omega) (by omega) st he (s := ((0 : Int32), (1 : Int32))) (t := (0 : Int32)) ⟨by rw [show nI 0 = (0 : Int32) from rfl, Int32.mul_zero]; rfl, by rw [show nI 0 = (0 : Int32) from rfl, Int32.mul_zero]⟩
  obtain ⟨tg, y⟩ := r
  have e1 : tg < 2 := e1
  have e2 : y = u := e2
  unfold J_X7_span_43 J_X8_span_38
  rw [l1, l2, xb2, xb1, e2]
  rcases (show tg = 0 ∨ tg = 1 by omega) with e | e
  · rw [e, if_pos rfl]
    exact ⟨_, rfl, rfl⟩
  · rw [e, if_neg (by decide), if_pos rfl]
    exact ⟨_, rfl, rfl⟩
theorem p_span {n K : Nat} {f g : Nat → Int32} {x y z : Int32} (hK : 200000 ≤ K) (h : RowR n f g) (hg : RowG g) : ∃ v, F_X7_span K x y z f = some v ∧ F_X8_span K x y z g (nI n) = some v := by
  have n8 := h.n8
  unfold F_X7_span F_X8_span
  rcases hs_both (p := x) n8 h.sz with ⟨i, hi, rfl, c1, c2⟩ | ⟨-, c1, c2⟩
  · obtain ⟨q1, q2⟩ := qs_both hK h hg hi
    rw [c1, c2, xb1, xb1, if_neg n10, if_neg n10, m_in0 (m := 1) (by decide), xb1, ite10, rng_c, q1, q2, xb1, xb1]
    by_cases d : 0 ≤ y ∧ y ≤ nI 1
    · rw [if_pos (show 0 ≤ y ∧ y ≤ (1 : Int32) from d), if_pos d]
      obtain ⟨a, ha, rfl⟩ := in_nat (n := 1) (by decide) d
      by_cases c : qvl f (cdr f i 0) (cdr f i 1) = 0
      · rw [if_pos c, if_pos c]
        exact ⟨_, rfl, rfl⟩
      · rw [if_neg c, if_neg c]
        by_cases e : z = 0
        · rw [if_pos e, if_pos e]
          exact sn_both hK h hg hi ha (Or.inr rfl)
        · rw [if_neg e, if_neg e]
          exact sn_both hK h hg hi ha (Or.inl rfl)
    · rw [if_neg (show ¬ (0 ≤ y ∧ y ≤ (1 : Int32)) from d), if_neg d]
      exact ⟨_, rfl, rfl⟩
  · rw [c1, c2, xb1, xb1, if_pos rfl, if_pos rfl]
    exact ⟨_, rfl, rfl⟩
