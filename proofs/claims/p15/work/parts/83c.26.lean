-- 83c.26
section
/-! Stage B, 26: what is told of a watch, in both -/
theorem m_in0 {x : Int32} {m : Nat} {H : Int64} (e : H = (nI m).toInt64) : F_X8_in x.toInt64 (0 : Int64) H = some (if 0 ≤ x ∧ x ≤ nI m then 1 else 0) := by
  rw [e, show (0 : Int64) = (0 : Int32).toInt64 from rfl, m_inI]
theorem not_of {x : Int32} {m : Nat} (d : ¬ (0 ≤ x ∧ x ≤ nI m)) (k : Nat) (hk : k ≤ m) (hm : m < 2 ^ 31) : ¬ x = nI k := fun e => d (by
  rw [e]
  exact ⟨nI_nn (by omega), (nI_leI (a := k) (b := m) (by omega) hm).mpr hk⟩)
theorem tot_both {n K c : Nat} {f g : Nat → Int32} (hK : 200000 ≤ K) (h : RowR n f g) (hc : c < 8) : F_X5_total K (nI c) f = some (sgm (fun i => g (8 * c + i)) n) ∧ F_X8_sum K (nI (8 * c)) g (nI n) = some (sgm (fun i => g (8 * c + i)) n) := by
  have n8 := h.n8
  refine ⟨?_, bm_sum hK n8 (by omega)⟩
  rw [b_total hK n8 h.sz hc]
  exact congrArg some (sgm_eq n (fun i hi => h.1.2.2.1 i c hi hc))
theorem p_rule {n : Nat} {f g : Nat → Int32} {x : Int32} (h : RowR n f g) : ∃ v, F_X7_rule x f = some v ∧ F_X8_rule x g (nI n) = some v := by
  have n8 := h.n8
  obtain ⟨s1, s2⟩ := sd_both n8 h.sz
  unfold F_X7_rule F_X8_rule F_X5_sites
  by_cases z : n = 0
  · rw [s1, s2, if_pos z, xb1, if_pos rfl, xb1, if_pos rfl]
    exact ⟨_, rfl, rfl⟩
  · rw [s1, s2, if_neg z, xb1, if_neg n10, xb1, xb1, if_neg n10, h.sz, m_in0 (m := 3) (by decide), xb1, ite10]
    by_cases d : 0 ≤ x ∧ x ≤ nI 3
    · rw [if_pos d]
      obtain ⟨w, hw, rfl⟩ := in_nat (n := 3) (by decide) d
      rcases (show w = 0 ∨ w = 1 ∨ w = 2 ∨ w = 3 by omega) with rfl | rfl | rfl | rfl
      · rw [if_pos (by decide), if_neg (by decide), bm_ix (a := 64) (by rfl) (by decide), bm_cl (a := 64) (by rfl) (by decide), show f 0 = g 64 from h.sc (0, 64) (by decide)]
        exact ⟨_, rfl, rfl⟩
      · rw [if_neg (by decide), if_pos (by decide), if_neg (by decide), bm_ix (a := 64) (by rfl) (by decide), bm_cl (a := 64) (by rfl) (by decide), show f 1 = g 65 from h.sc (1, 65) (by decide)]
        exact ⟨_, rfl, rfl⟩
      · rw [if_neg (by decide), if_neg (by decide), if_pos (by decide), if_neg (by decide), bm_ix (a := 64) (by rfl) (by decide), bm_cl (a := 64) (by rfl) (by decide), show f 2 = g 66 from h.sc (2, 66) (by decide)]
        exact ⟨_, rfl, rfl⟩
      · rw [if_neg (by decide), if_neg (by decide), if_neg (by decide), if_pos (by decide), if_pos (by decide)]
        exact ⟨_, rfl, rfl⟩
    · have q := not_of d
      rw [if_neg d, if_neg (show ¬ x = (0 : Int32) from q 0 (by decide) (by decide)), if_neg (show ¬ x = (1 : Int32) from q 1 (by decide) (by decide)), if_neg (show ¬ x = (2 : Int32) from q 2 (by decide) (by decide)), if_neg (show ¬ x = (3 : Int32) from q 3 (by decide) (by decide))]
      exact ⟨_, rfl, rfl⟩
abbrev inM (v : Int32) : Prop := (-1000000 : Int32) ≤ v ∧ v ≤ (1000000 : Int32)
theorem m_inM {x : Int32} : F_X8_in x.toInt64 (-1000000 : Int64) (1000000 : Int64) = some (if inM x then 1 else 0) := by
  rw [show (-1000000 : Int64) = (-1000000 : Int32).toInt64 by decide, show (1000000 : Int64) = (1000000 : Int32).toInt64 by decide, m_inI]
theorem c_ask {n : Nat} {f : Nat → Int32} {x y : Int32} (n8 : n ≤ 8) (h3 : f 3 = nI n) : F_X7_canBeAsked x y f = some (if ¬ n = 0 ∧ inM x ∧ inM y then 1 else 0) := by
  obtain ⟨s1, s2⟩ := sd_both n8 h3
  unfold F_X7_canBeAsked
  by_cases z : n = 0
  · rw [s1, if_pos z, xb1, if_pos rfl, if_neg (fun w => w.1 z)]
  · rw [s1, if_neg z, xb1, if_neg n10, rng_c, rng_c]
    by_cases a : inM x
    · rw [if_pos (show (-1000000 : Int32) ≤ x ∧ x ≤ (1000000 : Int32) from a)]
      by_cases b : inM y
      · rw [if_pos (show (-1000000 : Int32) ≤ y ∧ y ≤ (1000000 : Int32) from b), if_pos (show ¬ n = 0 ∧ inM x ∧ inM y from ⟨z, a, b⟩)]
      · rw [if_neg (show ¬ ((-1000000 : Int32) ≤ y ∧ y ≤ (1000000 : Int32)) from b), if_neg (show ¬ (¬ n = 0 ∧ inM x ∧ inM y) from fun w => b w.2.2)]
    · rw [if_neg (show ¬ ((-1000000 : Int32) ≤ x ∧ x ≤ (1000000 : Int32)) from a), if_neg (show ¬ (¬ n = 0 ∧ inM x ∧ inM y) from fun w => a w.2.1)]
theorem p_value {n : Nat} {f g : Nat → Int32} {x y : Int32} (h : RowR n f g) (hg : RowG g) : ∃ v, F_X7_value x y f = some v ∧ F_X8_value x y g (nI n) = some v := by
  have n8 := h.n8
  obtain ⟨s1, s2⟩ := sd_both n8 h.sz
  obtain ⟨v, ev, -⟩ := t_valueOf (p1 := x.toInt64) (p2 := y.toInt64) (f := f)
  have ev2 : F_X8_valueOf x.toInt64 y.toInt64 g = some v := by rw [← h.1.val hg]; exact ev
  unfold F_X7_value F_X8_value
  rw [c_ask n8 h.sz, xb1, ite10, s2, xb1, m_inM, xb1, ite10, m_inM, xb1, ite10, ev, xb1, ev2, xb1]
  by_cases z : n = 0
  · rw [if_neg (show ¬ (¬ n = 0 ∧ inM x ∧ inM y) from fun w => w.1 z), if_pos z, if_pos rfl]
    exact ⟨_, rfl, rfl⟩
  · rw [if_neg z, if_neg n10]
    by_cases a : inM x
    · rw [if_pos (show inM x from a)]
      by_cases b : inM y
      · rw [if_pos (show inM y from b), if_pos (show ¬ n = 0 ∧ inM x ∧ inM y from ⟨z, a, b⟩)]
        exact ⟨_, rfl, rfl⟩
      · rw [if_neg (show ¬ inM y from b), if_neg (show ¬ (¬ n = 0 ∧ inM x ∧ inM y) from fun w => b w.2.2)]
        exact ⟨_, rfl, rfl⟩
    · rw [if_neg (show ¬ inM x from a), if_neg (show ¬ (¬ n = 0 ∧ inM x ∧ inM y) from fun w => a w.2.1)]
      exact ⟨_, rfl, rfl⟩
theorem p_tells {n : Nat} {f g : Nat → Int32} {x y : Int32} (h : RowR n f g) (hg : RowG g) : ∃ v, F_X7_tells x y f = some v ∧ F_X8_tells x y g (nI n) = some v := by
  have n8 := h.n8
  obtain ⟨s1, s2⟩ := sd_both n8 h.sz
  obtain ⟨v, ev, -⟩ := u_isAllowed (p1 := x) (p2 := y) (g := g)
  have ev2 : F_X5_allows x.toInt64 y.toInt64 f = some v := by rw [alw_both h.1 hg]; exact ev
  unfold F_X7_tells F_X8_tells
  rw [c_ask n8 h.sz, xb1, ite10, s2, xb1, m_inM, xb1, ite10, m_inM, xb1, ite10, ev, xb1, ev2, xb1]
  by_cases z : n = 0
  · rw [if_neg (show ¬ (¬ n = 0 ∧ inM x ∧ inM y) from fun w => w.1 z), if_pos z, if_pos rfl]
    exact ⟨_, rfl, rfl⟩
  · rw [if_neg z, if_neg n10]
    by_cases a : inM x
    · rw [if_pos (show inM x from a)]
      by_cases b : inM y
      · rw [if_pos (show inM y from b), if_pos (show ¬ n = 0 ∧ inM x ∧ inM y from ⟨z, a, b⟩)]
        by_cases c : v = 0
        · rw [if_pos c]
          exact ⟨_, rfl, rfl⟩
        · rw [if_neg c]
          exact ⟨_, rfl, rfl⟩
      · rw [if_neg (show ¬ inM y from b), if_neg (show ¬ (¬ n = 0 ∧ inM x ∧ inM y) from fun w => b w.2.2)]
        exact ⟨_, rfl, rfl⟩
    · rw [if_neg (show ¬ inM x from a), if_neg (show ¬ (¬ n = 0 ∧ inM x ∧ inM y) from fun w => a w.2.1)]
      exact ⟨_, rfl, rfl⟩
theorem p_all {n K : Nat} {f g : Nat → Int32} {x : Int32} (hK : 200000 ≤ K) (h : RowR n f g) (hg : RowG g) : ∃ v, F_X7_all K x f = some v ∧ F_X8_all K x g (nI n) = some v := by
  have n8 := h.n8
  obtain ⟨s1, s2⟩ := sd_both n8 h.sz
  have e16 : F_X8_sum K (16 : Int32) g (nI n) = some (f 4) := by rw [h.sx]; exact bm_sum hK n8 (b := 16) (by decide)
  have e24 : F_X8_sum K (24 : Int32) g (nI n) = some (f 5) := by rw [h.sy]; exact bm_sum hK n8 (b := 24) (by decide)
  obtain ⟨t0, u0⟩ := tot_both hK h (c := 0) (by decide)
  obtain ⟨t1, u1⟩ := tot_both hK h (c := 1) (by decide)
  have t0 : F_X5_total K (0 : Int32) f = some (sgm (fun i => g (8 * 0 + i)) n) := t0
  have u0 : F_X8_sum K (0 : Int32) g (nI n) = some (sgm (fun i => g (8 * 0 + i)) n) := u0
  have t1 : F_X5_total K (1 : Int32) f = some (sgm (fun i => g (8 * 1 + i)) n) := t1
  have u1 : F_X8_sum K (8 : Int32) g (nI n) = some (sgm (fun i => g (8 * 1 + i)) n) := u1
  generalize sgm (fun i => g (8 * 0 + i)) n = A at t0 u0
  generalize sgm (fun i => g (8 * 1 + i)) n = B at t1 u1
  obtain ⟨v, ev, -⟩ := t_valueOf (p1 := (f 4).toInt64) (p2 := (f 5).toInt64) (f := f)
  have ev2 : F_X8_valueOf (f 4).toInt64 (f 5).toInt64 g = some v := by rw [← h.1.val hg]; exact ev
  obtain ⟨w, ew, -⟩ := t_valueOf (p1 := A.toInt64) (p2 := B.toInt64) (f := f)
  have ew2 : F_X8_valueOf A.toInt64 B.toInt64 g = some w := by rw [← h.1.val hg]; exact ew
  unfold F_X7_all F_X8_all
  by_cases z : n = 0
  · rw [s1, s2, if_pos z, xb1, xb1, if_pos rfl, if_pos rfl]
    exact ⟨_, rfl, rfl⟩
  · rw [s1, s2, if_neg z, xb1, xb1, if_neg n10, if_neg n10, m_in0 (m := 5) (by decide), xb1, ite10]
    by_cases d : 0 ≤ x ∧ x ≤ nI 5
    · rw [if_pos d]
      obtain ⟨k, hk, rfl⟩ := in_nat (n := 5) (by decide) d
      rcases (show k = 0 ∨ k = 1 ∨ k = 2 ∨ k = 3 ∨ k = 4 ∨ k = 5 by omega) with rfl | rfl | rfl | rfl | rfl | rfl
      · rw [if_pos (by decide), if_pos (by decide), show (4 : Int32) + nI 0 = nI 4 by decide, xixn (by decide) (by decide), nI_clamp (by decide), e16, xb1]
        exact ⟨_, rfl, rfl⟩
      · rw [if_neg (by decide), if_pos (by decide), show (4 : Int32) + nI 1 = nI 5 by decide, xixn (by decide) (by decide), nI_clamp (by decide), if_neg (by decide), if_pos (by decide), e24, xb1]
        exact ⟨_, rfl, rfl⟩
      · rw [if_neg (by decide), if_neg (by decide), if_pos (by decide), show ((0 : Int32) + nI 2) - (2 : Int32) = 0 by decide, t0, xb1, if_neg (by decide), if_neg (by decide), if_pos (by decide), u0, xb1]
        exact ⟨_, rfl, rfl⟩
      · rw [if_neg (by decide), if_neg (by decide), if_neg (by decide), if_pos (by decide), show ((0 : Int32) + nI 3) - (2 : Int32) = 1 by decide, t1, xb1, if_neg (by decide), if_neg (by decide), if_neg (by decide), if_pos (by decide), u1, xb1]
        exact ⟨_, rfl, rfl⟩
      · rw [if_neg (by decide), if_neg (by decide), if_neg (by decide), if_neg (by decide), if_pos (by decide), ev, xb1, if_neg (by decide), if_neg (by decide), if_neg (by decide), if_neg (by decide), if_pos (by decide), e16, xb1, e24, xb1, ev2, xb1]
        exact ⟨_, rfl, rfl⟩
      · rw [if_neg (by decide), if_neg (by decide), if_neg (by decide), if_neg (by decide), if_neg (by decide), if_pos (by decide), t0, xb1, t1, xb1, ew, xb1, if_neg (by decide), if_neg (by decide), if_neg (by decide), if_neg (by decide), if_neg (by decide), u0, xb1, u1, xb1, ew2, xb1]
        exact ⟨_, rfl, rfl⟩
    · have q := not_of d
      rw [if_neg d, if_neg (show ¬ x = (0 : Int32) from q 0 (by decide) (by decide)), if_neg (show ¬ x = (1 : Int32) from q 1 (by decide) (by decide)), if_neg (show ¬ x = (2 : Int32) from q 2 (by decide) (by decide)), if_neg (show ¬ x = (3 : Int32) from q 3 (by decide) (by decide)), if_neg (show ¬ x = (4 : Int32) from q 4 (by decide) (by decide)), if_neg (show ¬ x = (5 : Int32) from q 5 (by decide) (by decide))]
      exact ⟨_, rfl, rfl⟩
theorem p_count {n K : Nat} {f g : Nat → Int32} {x : Int32} (hK : 200000 ≤ K) (h : RowR n f g) (hI : RowI n g) : ∃ v, F_X7_count K x f = some v ∧ F_X8_count K x g (nI n) = some v := by
  have n8 := h.n8
  obtain ⟨s1, s2⟩ := sd_both n8 h.sz
  obtain ⟨t6, u6⟩ := tot_both hK h (c := 6) (by decide)
  have t6 : F_X5_total K (6 : Int32) f = some (sgm (fun i => g (8 * 6 + i)) n) := t6
  have u6 : F_X8_sum K (48 : Int32) g (nI n) = some (sgm (fun i => g (8 * 6 + i)) n) := u6
  obtain ⟨r1, r2⟩ := re_both h
  unfold F_X7_count F_X8_count
  by_cases z : n = 0
  · rw [s1, s2, if_pos z, xb1, xb1, if_pos rfl, if_pos rfl]
    exact ⟨_, rfl, rfl⟩
  · obtain ⟨-, -, a, b, q, a1, a9, e66, b9, e73, -⟩ := hI.2 (by omega)
    rw [s1, s2, if_neg z, xb1, xb1, if_neg n10, if_neg n10, m_in0 (m := 5) (by decide), xb1, ite10]
    by_cases d : 0 ≤ x ∧ x ≤ nI 5
    · rw [if_pos d]
      obtain ⟨k, hk, rfl⟩ := in_nat (n := 5) (by decide) d
      rcases (show k = 0 ∨ k = 1 ∨ k = 2 ∨ k = 3 ∨ k = 4 ∨ k = 5 by omega) with rfl | rfl | rfl | rfl | rfl | rfl
      · rw [if_pos (by decide), if_pos (by decide), show f 8 = g 73 from h.sc (8, 73) (by decide)]
        exact ⟨_, rfl, rfl⟩
      · rw [if_neg (by decide), if_pos (by decide), cs_step (by omega) h (by omega) (by omega) e66 e73, xb1, if_neg (by decide), if_pos (by decide), m_step (by omega) n8, xb1]
        exact ⟨_, rfl, rfl⟩
      · rw [if_neg (by decide), if_neg (by decide), if_pos (by decide), if_neg (by decide), if_neg (by decide), if_pos (by decide), show f 9 = g 75 from h.sc (9, 75) (by decide)]
        exact ⟨_, rfl, rfl⟩
      · rw [if_neg (by decide), if_neg (by decide), if_neg (by decide), if_pos (by decide), if_neg (by decide), if_neg (by decide), if_neg (by decide), if_pos (by decide), show f 10 = g 74 from h.sc (10, 74) (by decide)]
        exact ⟨_, rfl, rfl⟩
      · rw [if_neg (by decide), if_neg (by decide), if_neg (by decide), if_neg (by decide), if_pos (by decide), r1, xb1]
        by_cases c : g 73 < g 66
        · rw [if_pos c, if_pos rfl, if_neg (by decide), if_neg (by decide), if_neg (by decide), if_neg (by decide), if_pos (by decide), r2, xb1, if_pos c, if_pos rfl]
          exact ⟨_, rfl, rfl⟩
        · rw [if_neg c, if_neg n10, if_neg (by decide), if_neg (by decide), if_neg (by decide), if_neg (by decide), if_pos (by decide), r2, xb1, if_neg c, if_neg n10]
          exact ⟨_, rfl, rfl⟩
      · rw [if_neg (by decide), if_neg (by decide), if_neg (by decide), if_neg (by decide), if_neg (by decide), if_pos (by decide), t6, xb1, if_neg (by decide), if_neg (by decide), if_neg (by decide), if_neg (by decide), if_neg (by decide), u6, xb1]
        exact ⟨_, rfl, rfl⟩
    · have q := not_of d
      rw [if_neg d, if_neg (show ¬ x = (0 : Int32) from q 0 (by decide) (by decide)), if_neg (show ¬ x = (1 : Int32) from q 1 (by decide) (by decide)), if_neg (show ¬ x = (2 : Int32) from q 2 (by decide) (by decide)), if_neg (show ¬ x = (3 : Int32) from q 3 (by decide) (by decide)), if_neg (show ¬ x = (4 : Int32) from q 4 (by decide) (by decide)), if_neg (show ¬ x = (5 : Int32) from q 5 (by decide) (by decide))]
      exact ⟨_, rfl, rfl⟩
/-- points of the class -/
theorem c_pt {n i : Nat} {f : Nat → Int32} (n8 : n ≤ 8) (h3 : f 3 = nI n) (hi : i < n) : F_X5_point (nI i) (0 : Int32) f = some (f 4 + nI n * cdr f i 0) ∧ F_X5_point (nI i) (1 : Int32) f = some (f 5 + nI n * cdr f i 1) := by
  have b0 : F_X5_drift (nI i) (0 : Int32) f = some (cdr f i 0) := b_drift (a := 0) (by omega) (by decide)
  have b1 : F_X5_drift (nI i) (1 : Int32) f = some (cdr f i 1) := b_drift (a := 1) (by omega) (by decide)
  unfold F_X5_point J_X5_point_19
  rw [if_pos rfl, if_neg n10, b0, xb1, b1, xb1, h3]
  exact ⟨rfl, rfl⟩
theorem pv_both {n i K : Nat} {f g : Nat → Int32} {x y : Int32} (hK : 200000 ≤ K) (h : RowR n f g) (hg : RowG g) (hi : i < n) : ∃ v, F_X5_pointValue (nI i) x y f = some v ∧ F_X8_pointX K (mdx g i + x) g (nI n) = some (f 4 + nI n * (mdx g i + x)) ∧ F_X8_pointY K (mdy g i + y) g (nI n) = some (f 5 + nI n * (mdy g i + y)) ∧ F_X8_valueOf (f 4 + nI n * (mdx g i + x)).toInt64 (f 5 + nI n * (mdy g i + y)).toInt64 g = some v := by
  have n8 := h.n8
  obtain ⟨c0, c1⟩ := c_pt n8 h.sz hi
  obtain ⟨d0, d1⟩ := dr_both h.1.2.2.1 hi
  obtain ⟨v, ev, -⟩ := t_valueOf (p1 := (f 4 + nI n * (mdx g i + x)).toInt64) (p2 := (f 5 + nI n * (mdy g i + y)).toInt64) (f := f)
  refine ⟨v, ?_, (pt_both hK h).1, (pt_both hK h).2, by rw [← h.1.val hg]; exact ev⟩
  have a0 : (f 4 + nI n * cdr f i 0) + nI n * x = f 4 + nI n * (mdx g i + x) := by rw [d0, Int32.mul_add, Int32.add_assoc]
  have a1 : (f 5 + nI n * cdr f i 1) + nI n * y = f 5 + nI n * (mdy g i + y) := by rw [d1, Int32.mul_add, Int32.add_assoc]
  unfold F_X5_pointValue
  rw [c0, xb1, c1, xb1, h.sz, a0, a1, ev, xb1]
theorem wm_of {K : Nat} {x y z s : Int32} {g : Nat → Int32} : F_X8_whyNot K 0 x y z g s = F_X8_whyMove x y z g s := by
  unfold F_X8_whyNot
  rw [if_pos rfl, bd1_id]
theorem p_needs {n K : Nat} {f g : Nat → Int32} {x y z : Int32} (hK : 200000 ≤ K) (h : RowR n f g) (hI : RowI n g) : ∃ v, F_X7_needs x y z f = some v ∧ F_X8_needs K x y z g (nI n) = some v := by
  have n8 := h.n8
  obtain ⟨r, e1, e2, e3, e4⟩ := rf_both (s := 0) (S := 0) (a := x) (b := y) (c := z) rfl (by decide) hK h hI.x
  rw [wm_of] at e2
  unfold F_X7_needs F_X8_needs
  rw [e1, e2, xb1, xb1]
  by_cases c : r = -1
  · obtain ⟨i, hi, rfl, -⟩ := (e4 c).2.1 rfl
    obtain ⟨v, v1, v2, v3, v4⟩ := pv_both (x := y) (y := z) hK h hI.1 hi
    rw [if_pos c, if_pos c, v1, xb1, m_drX (by omega), xb1, v2, xb1, m_drY (by omega), xb1, v3, xb1, v4, xb1]
    exact ⟨_, rfl, rfl⟩
  · rw [if_neg c, if_neg c]
    exact ⟨_, rfl, rfl⟩
end
-- 83c.27
section
/-! Stage B, 27: the fairest, spans, in both -/
theorem m_abv {v : Int32} : F_X8_above v = some (absF v) := by
  unfold F_X8_above absF
  by_cases c : 0 ≤ v
  · rw [if_pos c, if_pos c]
  · rw [if_neg c, if_neg c, Int32.zero_sub]
theorem sl_both {n i : Nat} {f g : Nat → Int32} (h : RowR n f g) (hi : i < n) : F_X5_slackLength (nI i) f = some (absF (g (32 + i)) + absF (g (40 + i))) ∧ F_X8_slackOf (nI i) g = some (absF (g (32 + i)) + absF (g (40 + i))) := by
  have n8 := h.n8
  have e4 : f (17 + 8 * i + 4) = g (32 + i) := h.1.2.2.1 i 4 hi (by decide)
  have e5 : f (17 + 8 * i + 5) = g (40 + i) := h.1.2.2.1 i 5 hi (by decide)
  unfold F_X5_slackLength F_X8_slackOf
  rw [bx_of (c := 4) (by rfl) (by omega) (by decide), xb1, bx_of (c := 5) (by rfl) (by omega) (by decide), xb1, e4, e5, bm_ix (a := 32) (by rfl) (by omega), bm_cl (a := 32) (by rfl) (by omega), m_abv, xb1, bm_ix (a := 40) (by rfl) (by omega), bm_cl (a := 40) (by rfl) (by omega), m_abv, xb1]
  exact ⟨rfl, rfl⟩
theorem pv0_both {n i K : Nat} {f g : Nat → Int32} (hK : 200000 ≤ K) (h : RowR n f g) (hg : RowG g) (hi : i < n) : ∃ v, F_X5_pointValue (nI i) 0 0 f = some v ∧ F_X8_pointValue K (nI i) g (nI n) = some v := by
  have n8 := h.n8
  obtain ⟨v, v1, v2, v3, v4⟩ := pv_both (x := 0) (y := 0) hK h hg hi
  rw [Int32.add_zero] at v2 v3 v4
  rw [Int32.add_zero] at v4
  refine ⟨v, v1, ?_⟩
  unfold F_X8_pointValue
  rw [m_drX (by omega), xb1, v2, xb1, m_drY (by omega), xb1, v3, xb1, v4, xb1]
def FrR (n : Nat) (j : Nat) (s t : Int32 × Int32) : Prop := ∃ b, b < n ∧ s = (nI b, nI (j + 1)) ∧ t = (nI b, nI (j + 1))
theorem p_fair {n K : Nat} {f g : Nat → Int32} {x : Int32} (hK : 200000 ≤ K) (h : RowR n f g) (hg : RowG g) : ∃ v, F_X7_fair K x f = some v ∧ F_X8_fair K x g (nI n) = some v := by
  have n8 := h.n8
  obtain ⟨s1, s2⟩ := sd_both n8 h.sz
  unfold F_X7_fair F_X8_fair
  by_cases z : n = 0
  · rw [s1, s2, if_pos z, xb1, xb1, if_pos rfl, if_pos rfl]
    exact ⟨_, rfl, rfl⟩
  · rw [s1, s2, if_neg z, xb1, xb1, if_neg n10, if_neg n10, m_in0 (m := 1) (by decide), xb1, ite10, rng_d]
    by_cases d : 0 ≤ x ∧ x ≤ nI 1
    · rw [if_pos (show 0 ≤ x ∧ x ≤ (1 : Int32) from d), if_pos d]
      have st : ∀ j s t, j < n - 1 → FrR n j s t → (∃ s' t', (fun u9 : Int32 × Int32 => B_X7_fair_25 x f u9.1 u9.2) s = some (.inl s') ∧ (fun u9 : Int32 × Int32 => B_X8_fair_23 K x (nI n) g u9.1 u9.2) t = some (.inl t') ∧ FrR n (j + 1) s' t') ∨ (∃ r u, (fun u9 : Int32 × Int32 => B_X7_fair_25 x f u9.1 u9.2) s = some (.inr r) ∧ (fun u9 : Int32 × Int32 => B_X8_fair_23 K x (nI n) g u9.1 u9.2) t = some (.inr u) ∧ r = u) := by
        intro j s t hj q
        obtain ⟨b, hb, rfl, rfl⟩ := q
        have lt : ¬ nI n ≤ nI (j + 1) := mt (nI_leI (a := n) (b := j + 1) (by omega) (by omega)).mp (by omega)
        obtain ⟨v, v1, v2⟩ := pv0_both hK h hg (show j + 1 < n by omega)
        obtain ⟨w, w1, w2⟩ := pv0_both hK h hg hb
        obtain ⟨p1, p2⟩ := sl_both h (show j + 1 < n by omega)
        obtain ⟨q1, q2⟩ := sl_both h hb
        refine Or.inl ?_
        show ∃ s' t', B_X7_fair_25 x f (nI b) (nI (j + 1)) = some (.inl s') ∧ B_X8_fair_23 K x (nI n) g (nI b) (nI (j + 1)) = some (.inl t') ∧ FrR n (j + 1) s' t'
        unfold B_X7_fair_25 B_X8_fair_23 F_X5_sites
        rw [xb1, h.sz, if_neg lt, if_neg lt, v1, v2, w1, w2, p1, p2, q1, q2]
        simp only [xb1, nI_1]
        by_cases c : x = 0
        · rw [if_pos c]
          by_cases e : lg_cmp v w ≤ (0 : Int32)
          · rw [if_pos e]
            exact ⟨_, _, rfl, rfl, b, hb, rfl, rfl⟩
          · rw [if_neg e]
            exact ⟨_, _, rfl, rfl, j + 1, by omega, rfl, rfl⟩
        · rw [if_neg c]
          by_cases e : absF (g (32 + (j + 1))) + absF (g (40 + (j + 1))) ≤ absF (g (32 + b)) + absF (g (40 + b))
          · rw [if_pos e]
            exact ⟨_, _, rfl, rfl, b, hb, rfl, rfl⟩
          · rw [if_neg e]
            exact ⟨_, _, rfl, rfl, j + 1, by omega, rfl, rfl⟩
      have he : ∀ s t, FrR n (n - 1) s t → ∃ r u, (fun u9 : Int32 × Int32 => B_X7_fair_25 x f u9.1 u9.2) s = some (.inr r) ∧ (fun u9 : Int32 × Int32 => B_X8_fair_23 K x (nI n) g u9.1 u9.2) t = some (.inr u) ∧ r = u := by
        intro s t q
        obtain ⟨b, hb, rfl, rfl⟩ := q
        rw [show n - 1 + 1 = n by omega]
        have le : nI n ≤ nI n := (nI_leI (a := n) (b := n) (by omega) (by omega)).mpr (Nat.le_refl _)
        show ∃ r u, B_X7_fair_25 x f (nI b) (nI n) = some (.inr r) ∧ B_X8_fair_23 K x (nI n) g (nI b) (nI n) = some (.inr u) ∧ r = u
        unfold B_X7_fair_25 B_X8_fair_23 F_X5_sites
        rw [xb1, h.sz, if_pos le, if_pos le]
        exact ⟨_, _, rfl, rfl, rfl⟩
      obtain ⟨r, u, l1, l2, e⟩ := lp_two (FrR n) (fun r u => r = u) (n := n - 1) (K := K) (K' := K) (by omega) (by omega) st he (s := ((0 : Int32), (1 : Int32))) (t := ((0 : Int32), (1 : Int32))) ⟨0, by omega, rfl, rfl⟩
      rw [l1, l2, xb1, xb1, e]
      exact ⟨_, rfl, rfl⟩
    · rw [if_neg (show ¬ (0 ≤ x ∧ x ≤ (1 : Int32)) from d), if_neg d]
      exact ⟨_, rfl, rfl⟩
theorem sq_1 {w x : Int32} (hw : w = 1 ∨ w = -1) : w * x * w = x := by
  rcases hw with rfl | rfl
  · rw [Int32.one_mul, Int32.mul_one]
  · rw [Int32.mul_comm, ← Int32.mul_assoc, show (-1 : Int32) * -1 = 1 by decide, Int32.one_mul]
theorem c_qw {n i : Nat} {f : Nat → Int32} {x y : Int32} (n8 : n ≤ 8) (hi : i < n) : F_X5_isQuietWith (nI i) x y f = some (qvl f (cdr f i 0 + x) (cdr f i 1 + y)) := by
  have b0 : F_X5_drift (nI i) (0 : Int32) f = some (cdr f i 0) := b_drift (a := 0) (by omega) (by decide)
  have b1 : F_X5_drift (nI i) (1 : Int32) f = some (cdr f i 1) := b_drift (a := 1) (by omega) (by decide)
  unfold F_X5_isQuietWith
  rw [b0, xb1, b1, xb1, qvl_is, xb1]
theorem sn_both {n i a K : Nat} {f g : Nat → Int32} {w : Int32} (hK : 200000 ≤ K) (h : RowR n f g) (hg : RowG g) (hi : i < n) (ha : a < 2) (hw : w = 1 ∨ w = -1) : ∃ v, J_X7_span_43 K (nI i) (nI a) f w = some v ∧ J_X8_span_38 K (nI i) (nI a) (nI n) g w = some v := by
  have n8 := h.n8
  obtain ⟨d0, d1⟩ := dr_both h.1.2.2.1 hi
  have st : ∀ j s t, j < 200 → (s = (w * nI j, nI (j + 1)) ∧ t = w * nI j) → (∃ s' t', (fun u9 : Int32 × Int32 => B_X7_span_51 (nI i) (nI a) f w u9.1 u9.2) s = some (.inl s') ∧ (fun u9 : Int32 => B_X8_span_43 K (nI i) (nI a) (nI n) g w u9) t = some (.inl t') ∧ (s' = (w * nI (j + 1), nI (j + 1 + 1)) ∧ t' = w * nI (j + 1))) ∨ (∃ r u, (fun u9 : Int32 × Int32 => B_X7_span_51 (nI i) (nI a) f w u9.1 u9.2) s = some (.inr r) ∧ (fun u9 : Int32 => B_X8_span_43 K (nI i) (nI a) (nI n) g w u9) t = some (.inr u) ∧ (r.1 < 2 ∧ r.2 = u)) := by
    intro j s t hj q
    obtain ⟨rfl, rfl⟩ := q
    have e1 : w * nI j + w = w * nI (j + 1) := by rw [← nI_1, Int32.mul_add, Int32.mul_one]
    have c1 : ¬ (200 : Int32) < nI (j + 1) := mt (nI_ltI (a := 200) (b := j + 1) (by omega) (by omega)).mp (by omega)
    have c2 : ¬ (200 : Int32) ≤ nI j := mt (nI_leI (a := 200) (b := j) (by omega) (by omega)).mp (by omega)
    show (∃ s' t', B_X7_span_51 (nI i) (nI a) f w (w * nI j) (nI (j + 1)) = some (.inl s') ∧ B_X8_span_43 K (nI i) (nI a) (nI n) g w (w * nI j) = some (.inl t') ∧ _) ∨ (∃ r u, B_X7_span_51 (nI i) (nI a) f w (w * nI j) (nI (j + 1)) = some (.inr r) ∧ B_X8_span_43 K (nI i) (nI a) (nI n) g w (w * nI j) = some (.inr u) ∧ _)
    unfold B_X7_span_51 B_X8_span_43 J_X7_span_81_r52 J_X8_span_73_r44
    rw [if_neg c1, sq_1 hw, if_neg c2, m_drX (by omega), xb1, m_drY (by omega)]
    simp only [xb1, e1, nI_1, c_qw n8 hi]
    rcases (show a = 0 ∨ a = 1 by omega) with rfl | rfl
    · simp only [if_pos (show nI 0 = (0 : Int32) from rfl), if_neg (show ¬ nI 0 = (1 : Int32) by decide), ← q_both hK h hg, qvl_is, xb1, d0, d1]
      by_cases c : qvl f (mdx g i + w * nI (j + 1)) (mdy g i + 0) = 0
      · rw [if_pos c, if_pos c]
        exact Or.inr ⟨_, _, rfl, rfl, Nat.zero_lt_succ 1, rfl⟩
      · rw [if_neg c, if_neg c]
        exact Or.inl ⟨_, _, rfl, rfl, rfl, rfl⟩
    · simp only [if_neg (show ¬ nI 1 = (0 : Int32) by decide), if_pos (show nI 1 = (1 : Int32) from rfl), ← q_both hK h hg, qvl_is, xb1, d0, d1]
      by_cases c : qvl f (mdx g i + 0) (mdy g i + w * nI (j + 1)) = 0
      · rw [if_pos c, if_pos c]
        exact Or.inr ⟨_, _, rfl, rfl, Nat.zero_lt_succ 1, rfl⟩
      · rw [if_neg c, if_neg c]
        exact Or.inl ⟨_, _, rfl, rfl, rfl, rfl⟩
  have he : ∀ s t, (s = (w * nI 200, nI (200 + 1)) ∧ t = w * nI 200) → ∃ r u, (fun u9 : Int32 × Int32 => B_X7_span_51 (nI i) (nI a) f w u9.1 u9.2) s = some (.inr r) ∧ (fun u9 : Int32 => B_X8_span_43 K (nI i) (nI a) (nI n) g w u9) t = some (.inr u) ∧ (r.1 < 2 ∧ r.2 = u) := by
    intro s t q
    obtain ⟨rfl, rfl⟩ := q
    show ∃ r u, B_X7_span_51 (nI i) (nI a) f w (w * nI 200) (nI (200 + 1)) = some (.inr r) ∧ B_X8_span_43 K (nI i) (nI a) (nI n) g w (w * nI 200) = some (.inr u) ∧ _
    unfold B_X7_span_51 B_X8_span_43
    rw [if_pos (by decide), sq_1 hw, if_pos (by decide)]
    exact ⟨_, _, rfl, rfl, Nat.lt_succ_self 1, rfl⟩
  obtain ⟨r, u, l1, l2, e1, e2⟩ := lp_two (fun j s t => s = (w * nI j, nI (j + 1)) ∧ t = w * nI j) (fun (r : Nat × Int32) (u : Int32) => r.1 < 2 ∧ r.2 = u) (n := 200) (K := K) (K' := K) (by omega) (by omega) st he (s := ((0 : Int32), (1 : Int32))) (t := (0 : Int32)) ⟨by rw [show nI 0 = (0 : Int32) from rfl, Int32.mul_zero]; rfl, by rw [show nI 0 = (0 : Int32) from rfl, Int32.mul_zero]⟩
  obtain ⟨tg, y⟩ := r
  have e1 : tg < 2 := e1
  have e2 : y = u := e2
  unfold J_X7_span_43 J_X8_span_38
  rw [l1, l2, xb2, xb1, e2]
  rcases (show tg = 0 ∨ tg = 1 by omega) with e | e
  · rw [e, if_pos rfl]
    exact ⟨_, rfl, rfl⟩
  · rw [e, if_neg (by decide), if_pos rfl]
    exact ⟨_, rfl, rfl⟩
theorem p_span {n K : Nat} {f g : Nat → Int32} {x y z : Int32} (hK : 200000 ≤ K) (h : RowR n f g) (hg : RowG g) : ∃ v, F_X7_span K x y z f = some v ∧ F_X8_span K x y z g (nI n) = some v := by
  have n8 := h.n8
  unfold F_X7_span F_X8_span
  rcases hs_both (p := x) n8 h.sz with ⟨i, hi, rfl, c1, c2⟩ | ⟨-, c1, c2⟩
  · obtain ⟨q1, q2⟩ := qs_both hK h hg hi
    rw [c1, c2, xb1, xb1, if_neg n10, if_neg n10, m_in0 (m := 1) (by decide), xb1, ite10, rng_c, q1, q2, xb1, xb1]
    by_cases d : 0 ≤ y ∧ y ≤ nI 1
    · rw [if_pos (show 0 ≤ y ∧ y ≤ (1 : Int32) from d), if_pos d]
      obtain ⟨a, ha, rfl⟩ := in_nat (n := 1) (by decide) d
      by_cases c : qvl f (cdr f i 0) (cdr f i 1) = 0
      · rw [if_pos c, if_pos c]
        exact ⟨_, rfl, rfl⟩
      · rw [if_neg c, if_neg c]
        by_cases e : z = 0
        · rw [if_pos e, if_pos e]
          exact sn_both hK h hg hi ha (Or.inr rfl)
        · rw [if_neg e, if_neg e]
          exact sn_both hK h hg hi ha (Or.inl rfl)
    · rw [if_neg (show ¬ (0 ≤ y ∧ y ≤ (1 : Int32)) from d), if_neg d]
      exact ⟨_, rfl, rfl⟩
  · rw [c1, c2, xb1, xb1, if_pos rfl, if_pos rfl]
    exact ⟨_, rfl, rfl⟩
end
-- 83c.28
section
/-! Stage B, 28: what would be, in both: nothing of it stays -/
theorem lp_twoXNA {σ τ ρ υ : Type} {b : σ → Option (σ ⊕ ρ)} {d : τ → Option (τ ⊕ υ)} (M : Nat) (R : Nat → σ → τ → Prop) (Q : ρ → υ → Prop) {n : Nat} (hs : ∀ i s t, i ≤ n → R i s t → (i < n ∧ ∃ s' t', b s = some (.inl s') ∧ d t = some (.inl t') ∧ R (i + 1) s' t') ∨ (∃ r u, b s = some (.inr r) ∧ (∀ J, M ≤ J → lpF d J t = some u) ∧ Q r u)) : ∀ (k i : Nat) (s : σ) (t : τ) (K K' : Nat), i + k = n → k < K → k + M < K' → R i s t → ∃ r u, lpF b K s = some r ∧ lpF d K' t = some u ∧ Q r u := by
  intro k
  induction k with
  | zero =>
    intro i s t K K' h1 h2 h3 h4
    obtain ⟨K2, rfl⟩ : ∃ K2, K = K2 + 1 := ⟨K - 1, by omega⟩
    rcases hs i s t (by omega) h4 with ⟨hlt, -⟩ | ⟨r, u, e1, e2, q⟩
    · omega
    · exact ⟨r, u, lp_end e1, e2 K' (by omega), q⟩
  | succ k ih =>
    intro i s t K K' h1 h2 h3 h4
    obtain ⟨K2, rfl⟩ : ∃ K2, K = K2 + 1 := ⟨K - 1, by omega⟩
    rcases hs i s t (by omega) h4 with ⟨-, s', t', e1, e2, q⟩ | ⟨r, u, e1, e2, q⟩
    · obtain ⟨K3, rfl⟩ : ∃ K3, K' = K3 + 1 := ⟨K' - 1, by omega⟩
      rw [lp_one e1, lp_one e2]
      exact ih (i + 1) s' t' K2 K3 (by omega) (by omega) (by omega) q
    · exact ⟨r, u, lp_end e1, e2 K' (by omega), q⟩
/-- two loops in step, the second goes on for less than M -/
theorem lp_twoXN {σ τ ρ υ : Type} {b : σ → Option (σ ⊕ ρ)} {d : τ → Option (τ ⊕ υ)} (M : Nat) (R : Nat → σ → τ → Prop) (Q : ρ → υ → Prop) {n K K' : Nat} (hK : n < K) (hK' : n + M < K') (hs : ∀ i s t, i ≤ n → R i s t → (i < n ∧ ∃ s' t', b s = some (.inl s') ∧ d t = some (.inl t') ∧ R (i + 1) s' t') ∨ (∃ r u, b s = some (.inr r) ∧ (∀ J, M ≤ J → lpF d J t = some u) ∧ Q r u)) {s : σ} {t : τ} (h0 : R 0 s t) : ∃ r u, lpF b K s = some r ∧ lpF d K' t = some u ∧ Q r u := lp_twoXNA M R Q hs n 0 s t K K' (by omega) hK hK' h0
theorem m_aside {K : Nat} {g as : Nat → Int32} (hK : 200000 ≤ K) : F_X8_putAside K g as = some (va_cpy g as 0 0 84) := by
  have h : lpF (fun u9 : Int32 × (Nat → Int32) => B_X8_putAside_2 g u9.1 u9.2) K (nI 0, va_cpy g as 0 0 0) = some (va_cpy g as 0 0 84) := by
    refine lp_for (fun j => (nI j, va_cpy g as 0 0 j)) (n := 84) (by omega) (fun j hj => ?_) ?_
    · show B_X8_putAside_2 g (nI j) (va_cpy g as 0 0 j) = some (.inl (nI (j + 1), va_cpy g as 0 0 (j + 1)))
      have e := cpy_st (g := as) (kp := g) (o := 0) (j := j)
      rw [Nat.zero_add] at e
      unfold B_X8_putAside_2
      rw [if_neg (show ¬ (84 : Int32) ≤ nI j from mt (nI_leI (a := 84) (b := j) (by omega) (by omega)).mp (by omega)), xixn (by omega) (by decide), xixn (by omega) (by decide), xnm, nI_clamp (by omega), e, nI_1]
    · show B_X8_putAside_2 g (nI 84) (va_cpy g as 0 0 84) = _
      unfold B_X8_putAside_2
      rw [if_pos (by decide)]
  rw [cpy_0] at h
  unfold F_X8_putAside
  rw [show (0 : Int32) = nI 0 from rfl, h, xb1]
/-- what was put aside is brought back -/
theorem m_bring {K : Nat} {g w as : Nat → Int32} (hK : 200000 ≤ K) (hw : ∀ k, 84 ≤ k → w k = g k) : F_X8_bringBack K w (va_cpy g as 0 0 84) = some g := by
  have h : lpF (fun u9 : Int32 × (Nat → Int32) => B_X8_bringBack_2 (va_cpy g as 0 0 84) u9.1 u9.2) K (nI 0, va_cpy (va_cpy g as 0 0 84) w 0 0 0) = some (va_cpy (va_cpy g as 0 0 84) w 0 0 84) := by
    refine lp_for (fun j => (nI j, va_cpy (va_cpy g as 0 0 84) w 0 0 j)) (n := 84) (by omega) (fun j hj => ?_) ?_
    · show B_X8_bringBack_2 (va_cpy g as 0 0 84) (nI j) (va_cpy (va_cpy g as 0 0 84) w 0 0 j) = some (.inl (nI (j + 1), va_cpy (va_cpy g as 0 0 84) w 0 0 (j + 1)))
      have e := cpy_st (g := w) (kp := va_cpy g as 0 0 84) (o := 0) (j := j)
      rw [Nat.zero_add] at e
      unfold B_X8_bringBack_2
      rw [if_neg (show ¬ (84 : Int32) ≤ nI j from mt (nI_leI (a := 84) (b := j) (by omega) (by omega)).mp (by omega)), xixn (by omega) (by decide), xixn (by omega) (by decide), xnm, nI_clamp (by omega), e, nI_1]
    · show B_X8_bringBack_2 (va_cpy g as 0 0 84) (nI 84) (va_cpy (va_cpy g as 0 0 84) w 0 0 84) = _
      unfold B_X8_bringBack_2
      rw [if_pos (by decide)]
  rw [cpy_0] at h
  have e : va_cpy (va_cpy g as 0 0 84) w 0 0 84 = g := by
    funext k
    by_cases c : k < 84
    · rw [gcpy_at c, Nat.zero_add, gcpy_at c, Nat.zero_add]
    · rw [pk_cpy_out (by omega)]
      exact hw k (by omega)
  rw [e] at h
  unfold F_X8_bringBack
  rw [show (0 : Int32) = nI 0 from rfl, h, xb1]
theorem aside_at {g as : Nat → Int32} {k : Nat} (h : k < 84) : va_cpy g as 0 0 84 k = g k := by rw [gcpy_at h, Nat.zero_add]
/-- a move that is tried -/
theorem tm_both {n i K : Nat} {f g tr P A sh lo sx sy : Nat → Int32} {x y ac oc as ou : Int32} (hK : 200000 ≤ K) (h : RowR n f g) (hg : RowG g) (hi : i < n) : ∃ (r o : Int32) (a : Nat) (f' g' P' A' sh' lo' sx' sy' : Nat → Int32), F_X7_tryMove K (nI i) x y f tr P ac oc sh lo = some (r, f', P', nI a, o, sh', lo') ∧ F_X8_movesNow K (nI i) x y g (nI n) sx sy as ou A = some (r, g', sx', sy', nI a, o, A') ∧ a < 8 ∧ (∀ j, j < a → P' j = A' j) ∧ ∀ k, 84 ≤ k → g' k = g k := by
  have n8 := h.n8
  have h2 : RowR n (va_cpy f tr 0 0 81) g := h.cg (fun k hk => by rw [gcpy_at hk, Nat.zero_add]) (fun k hk => rfl)
  obtain ⟨r, o, a, f1, g1, P1, A1, sh1, lo1, sx1, sy1, e1, e2, ha, hPA, -, -, -, fr⟩ := mv_both (x := x) (y := y) (P := P) (A := A) (sh := sh) (lo := lo) (sx := sx) (sy := sy) (ac := ac) (oc := oc) (as := as) (ou := ou) hK h2 hg hi
  unfold F_X7_tryMove F_X5_doAct
  rw [c_cpF, xb1, if_pos rfl, e1, xb7, xnm]
  refine ⟨r, o, a, _, g1, P1, A1, sh1, lo1, sx1, sy1, rfl, e2, ha, hPA, fun k hk => ?_⟩
  rw [fr k (by omega) (by omega) (by omega) (by omega) (by omega) (by omega)]
  unfold mvG
  rw [upd_ne (by omega), upd_ne (by omega)]
/-- what a move would come to -/
theorem p_would {n K : Nat} {f g tr P A sh lo sx sy asd : Nat → Int32} {x y z w ac oc as ou : Int32} (hK : 200000 ≤ K) (h : RowR n f g) (hI : RowI n g) : ∃ (v ac' oc' as' ou' : Int32) (tr' P' A' sh' lo' sx' sy' asd' : Nat → Int32), F_X7_would K x y z w f tr P ac oc sh lo = some (v, tr', P', ac', oc', sh', lo') ∧ F_X8_would K x y z w g (nI n) sx sy as ou A asd = some (v, g, sx', sy', as', ou', A', asd') := by
  have n8 := h.n8
  obtain ⟨r, e1, e2, e3, e4⟩ := rf_both (s := 0) (S := 0) (a := x) (b := y) (c := z) rfl (by decide) hK h hI.x
  rw [wm_of] at e2
  unfold F_X7_would F_X8_would
  rw [e1, e2, xb1, xb1]
  by_cases c : r = -1
  · obtain ⟨i, hi, rfl, -⟩ := (e4 c).2.1 rfl
    obtain ⟨m, o, a, f1, g1, P1, A1, sh1, lo1, sx1, sy1, t1, t2, ha, hPA, fr⟩ := tm_both (tr := tr) (P := P) (A := A) (sh := sh) (lo := lo) (sx := sx) (sy := sy) (x := y) (y := z) (ac := ac) (oc := oc) (as := as) (ou := ou) hK h hI.1 hi
    rw [if_pos c, if_pos c, t1, xb7, m_in0 (m := 2) (by decide), xb1, ite10, m_aside hK, xb1, t2, xb7, m_bring hK fr, xb1]
    by_cases d : 0 ≤ w ∧ w ≤ nI 2
    · rw [if_pos d]
      obtain ⟨k, hk, rfl⟩ := in_nat (n := 2) (by decide) d
      rcases (show k = 0 ∨ k = 1 ∨ k = 2 by omega) with rfl | rfl | rfl
      · rw [if_pos (by decide), if_pos (by decide)]
        exact ⟨_, _, _, _, _, _, _, _, _, _, _, _, _, rfl, rfl⟩
      · rw [if_neg (by decide), if_pos (by decide), if_neg (by decide), if_pos (by decide)]
        exact ⟨_, _, _, _, _, _, _, _, _, _, _, _, _, rfl, rfl⟩
      · rw [if_neg (by decide), if_neg (by decide), if_pos (by decide), if_neg (by decide), if_neg (by decide)]
        exact ⟨_, _, _, _, _, _, _, _, _, _, _, _, _, rfl, rfl⟩
    · have q := not_of d
      rw [if_neg d, if_neg (show ¬ w = (0 : Int32) from q 0 (by decide) (by decide)), if_neg (show ¬ w = (1 : Int32) from q 1 (by decide) (by decide)), if_neg (show ¬ w = (2 : Int32) from q 2 (by decide) (by decide))]
      exact ⟨_, _, _, _, _, _, _, _, _, _, _, _, _, rfl, rfl⟩
  · rw [if_neg c, if_neg c]
    exact ⟨_, _, _, _, _, _, _, _, _, _, _, _, _, rfl, rfl⟩
/-- whom a move would ask -/
theorem p_asked {n K : Nat} {f g tr P A sh lo sx sy asd : Nat → Int32} {x y z w ac oc as ou : Int32} (hK : 200000 ≤ K) (h : RowR n f g) (hI : RowI n g) : ∃ (v ac' oc' as' ou' : Int32) (tr' P' A' sh' lo' sx' sy' asd' : Nat → Int32), F_X7_asked K x y z w f tr P ac oc sh lo = some (v, tr', P', ac', oc', sh', lo') ∧ F_X8_asked K x y z w g (nI n) sx sy as ou A asd = some (v, g, sx', sy', as', ou', A', asd') := by
  have n8 := h.n8
  obtain ⟨r, e1, e2, e3, e4⟩ := rf_both (s := 0) (S := 0) (a := x) (b := y) (c := z) rfl (by decide) hK h hI.x
  rw [wm_of] at e2
  unfold F_X7_asked F_X8_asked F_X8_would
  rw [e1, e2, xb1, xb1]
  by_cases c : r = -1
  · obtain ⟨i, hi, rfl, -⟩ := (e4 c).2.1 rfl
    obtain ⟨m, o, a, f1, g1, P1, A1, sh1, lo1, sx1, sy1, t1, t2, ha, hPA, fr⟩ := tm_both (tr := tr) (P := P) (A := A) (sh := sh) (lo := lo) (sx := sx) (sy := sy) (x := y) (y := z) (ac := ac) (oc := oc) (as := as) (ou := ou) hK h hI.1 hi
    have i1 : F_X8_in (1 : Int32).toInt64 (0 : Int64) (2 : Int64) = some 1 := by decide
    have ei : F_X8_in w.toInt64 (0 : Int64) ((nI a - (1 : Int32)).toInt64) = some (if 0 ≤ w ∧ w ≤ nI a - 1 then 1 else 0) := by
      rw [show (0 : Int64) = (0 : Int32).toInt64 from rfl, m_inI]
    rw [if_pos c, if_pos c, t1, xb7, i1, xb1, if_neg n10, m_aside hK, xb1, t2, xb7, m_bring hK fr, xb1, if_neg n10, if_pos rfl, xb8, if_neg (nI_ne_m1 (by omega)), ei, xb1, ite10]
    by_cases d : 0 ≤ w ∧ w ≤ nI a - 1
    · rw [if_pos d]
      obtain ⟨k, hk, rfl⟩ := in_lt (by omega) d
      rw [if_neg (nn0 (by omega)), if_neg (mt (nI_leI (a := a) (b := k) (by omega) (by omega)).mp (by omega)), if_neg (show ¬ (8 : Int32) ≤ nI k from mt (nI_leI (a := 8) (b := k) (by omega) (by omega)).mp (by omega)), xixn (by omega) (by decide), xixn (by omega) (by decide), nI_clamp (by omega), hPA k hk]
      exact ⟨_, _, _, _, _, _, _, _, _, _, _, _, _, rfl, rfl⟩
    · rw [if_neg d]
      refine ⟨-1, nI a, o, _, _, f1, P1, _, sh1, lo1, _, _, _, ?_, rfl⟩
      by_cases b1 : w < 0
      · rw [if_pos b1]
      · rw [if_neg b1, if_pos]
        refine Decidable.byContradiction (fun b2 => ?_)
        obtain ⟨k, hk, rfl⟩ := nnI (n := a) (by omega) b1 b2
        apply d
        rw [show nI a - (1 : Int32) = nI (a - 1) from xsub (b := 1) (by omega)]
        exact ⟨nI_nn (by omega), (nI_leI (a := k) (b := a - 1) (by omega) (by omega)).mpr (by omega)⟩
  · rw [if_neg c, if_neg c, xb8, if_pos rfl]
    exact ⟨_, _, _, _, _, _, _, _, _, _, _, _, _, rfl, rfl⟩
end
-- 83c.29
section
/-! Stage B, 29: a way, in both -/
theorem mv_I {n i : Nat} {g g1 : Nat → Int32} {b c : Int32} (n8 : n ≤ 8) (hI : RowI n g) (hi : i < n) (x1 : inR (g (0 + i) + b)) (x2 : inR (g (8 + i) + c)) (G : RowG g1) (fr : ∀ k, (k < 16 ∨ 48 ≤ k) → ¬ k = 68 → ¬ k = 69 → ¬ k = 70 → ¬ k = 71 → ¬ k = 72 → g1 k = mvG i b c g k) : RowI n g1 := by
  obtain ⟨hX, hF, hC⟩ := hI.2 (by omega)
  have fr2 : ∀ k, 16 ≤ k → mvG i b c g k = g k := fun k hk => by
    unfold mvG
    rw [upd_ne (by omega), upd_ne (by omega)]
  refine ⟨G, fun _ => ⟨fun j hj => ?_, fun j hj => ?_, hC.of n8 (fun k hk => ?_)⟩⟩
  · rw [fr (0 + j) (by omega) (by omega) (by omega) (by omega) (by omega) (by omega), fr (8 + j) (by omega) (by omega) (by omega) (by omega) (by omega) (by omega)]
    unfold mvG
    by_cases e : j = i
    · rw [e, upd_ne (show ¬ 0 + i = 8 + i by omega), upd_at, upd_at, upd_ne (show ¬ 8 + i = 0 + i by omega)]
      exact ⟨x1, x2⟩
    · rw [upd_ne (by omega), upd_ne (by omega), upd_ne (by omega), upd_ne (by omega)]
      exact hX j hj
  · rw [fr (76 + j) (by omega) (by omega) (by omega) (by omega) (by omega) (by omega), fr2 _ (by omega)]
    exact hF j hj
  · rw [fr k (by omega) (by omega) (by omega) (by omega) (by omega) (by omega), fr2 _ (by omega)]
theorem RowR.m11 {n : Nat} {f g : Nat → Int32} (h : RowR n f g) (v : Int32) : RowR n (upd f 11 v) g := by
  have := h.fr11 v (g 67)
  rw [row_self] at this
  exact this
theorem sub_addc {a b r : Int32} : a - b + r = a + r - b := by rw [Int32.sub_eq_add_neg, Int32.sub_eq_add_neg, Int32.add_assoc, Int32.add_comm (-b) r, ← Int32.add_assoc]
abbrev WwX : Type := Int32 × Int32 × (Nat → Int32) × (Nat → Int32) × Int32 × Int32 × (Nat → Int32) × (Nat → Int32)
abbrev WwM : Type := Int32 × Int32 × (Nat → Int32) × (Nat → Int32) × (Nat → Int32) × Int32 × Int32 × (Nat → Int32)
def WwR (n : Nat) (f g : Nat → Int32) (j : Nat) (s : WwX) (t : WwM) : Prop := ∃ (ac oc as ou : Int32) (q w P A sh lo sx sy : Nat → Int32), s = (nI j, nI j, q, P, ac, oc, sh, lo) ∧ t = (q 11 - f 11, nI j, w, sx, sy, as, ou, A) ∧ RowR n q w ∧ RowI n w ∧ ∀ k, 84 ≤ k → w k = g k
def WwQ (n : Nat) (f g : Nat → Int32) (r : Int32 × (Nat → Int32) × (Nat → Int32) × Int32 × Int32 × (Nat → Int32) × (Nat → Int32)) (u : WwM) : Prop := ∃ j, WwR n f g j (r.1, nI j, r.2) u
theorem WwR.step {n j m K : Nat} {f g : Nat → Int32} {x y z : Int32} {s : WwX} {t : WwM} (hK : 200000 ≤ K) (hm : m ≤ 99) (hj : j < m) (q : WwR n f g j s t) : (∃ s' t', B_X7_walk_47 K x y z (nI m) s.1 s.2.1 s.2.2.1 s.2.2.2.1 s.2.2.2.2.1 s.2.2.2.2.2.1 s.2.2.2.2.2.2.1 s.2.2.2.2.2.2.2 = some (.inl s') ∧ B_X8_walk_49 K x y z (nI m) (nI n) t.1 t.2.1 t.2.2.1 t.2.2.2.1 t.2.2.2.2.1 t.2.2.2.2.2.1 t.2.2.2.2.2.2.1 t.2.2.2.2.2.2.2 = some (.inl t') ∧ WwR n f g (j + 1) s' t') ∨ (∃ r u, B_X7_walk_47 K x y z (nI m) s.1 s.2.1 s.2.2.1 s.2.2.2.1 s.2.2.2.2.1 s.2.2.2.2.2.1 s.2.2.2.2.2.2.1 s.2.2.2.2.2.2.2 = some (.inr r) ∧ B_X8_walk_49 K x y z (nI m) (nI n) t.1 t.2.1 t.2.2.1 t.2.2.2.1 t.2.2.2.2.1 t.2.2.2.2.2.1 t.2.2.2.2.2.2.1 t.2.2.2.2.2.2.2 = some (.inr u) ∧ WwQ n f g r u) := by
  obtain ⟨ac, oc, as, ou, q, w, P, A, sh, lo, sx, sy, rfl, rfl, h, hI, fr0⟩ := q
  have n8 := h.n8
  show (∃ s' t', B_X7_walk_47 K x y z (nI m) (nI j) (nI j) q P ac oc sh lo = some (.inl s') ∧ B_X8_walk_49 K x y z (nI m) (nI n) (q 11 - f 11) (nI j) w sx sy as ou A = some (.inl t') ∧ WwR n f g (j + 1) s' t') ∨ (∃ r u, B_X7_walk_47 K x y z (nI m) (nI j) (nI j) q P ac oc sh lo = some (.inr r) ∧ B_X8_walk_49 K x y z (nI m) (nI n) (q 11 - f 11) (nI j) w sx sy as ou A = some (.inr u) ∧ WwQ n f g r u)
  obtain ⟨r, e1, e2, e3, e4⟩ := rf_both (s := 0) (S := 0) (a := x) (b := y) (c := z) rfl (by decide) hK h hI.x
  rw [wm_of] at e2
  have lm : ¬ nI m ≤ nI j := mt (nI_leI (a := m) (b := j) (by omega) (by omega)).mp (by omega)
  unfold B_X7_walk_47 B_X8_walk_49
  rw [if_neg lm, if_neg lm, e1, e2, xb1, xb1]
  by_cases c : r = -1
  · obtain ⟨i, hi, rfl, -, -, x1, x2, -⟩ := (e4 c).2.1 rfl
    obtain ⟨mm, o, a, f1, g1, P1, A1, sh1, lo1, sx1, sy1, d1, d2, ha, hPA, R, G, -, fr⟩ := mv_both (x := y) (y := z) (P := P) (A := A) (sh := sh) (lo := lo) (sx := sx) (sy := sy) (ac := ac) (oc := oc) (as := as) (ou := ou) hK h hI.1 hi
    have f11 : f1 11 = q 11 := by
      obtain ⟨p, ep, hp⟩ := e_moveSite (p1 := nI i) (p2 := y) (p3 := z) (ac := ac) (oc := oc) (f := q) (pa := P) (sh := sh) (lo := lo) hK ⟨n, n8, h.sz⟩
      rw [d1] at ep
      rw [← Option.some.inj ep] at hp
      exact hp.2.2
    have frk : ∀ k, 84 ≤ k → g1 k = g k := fun k hk => by
      rw [fr k (by omega) (by omega) (by omega) (by omega) (by omega) (by omega)]
      unfold mvG
      rw [upd_ne (by omega), upd_ne (by omega)]
      exact fr0 k hk
    unfold F_X5_doAct
    rw [if_pos c, if_pos c, if_pos rfl, d1, xb7, xnm, xb7, d2, xb7, nI_1]
    refine Or.inl ⟨_, _, rfl, rfl, nI a, o, nI a, o, upd f1 11 (f1 11 + mm), g1, P1, A1, sh1, lo1, sx1, sy1, rfl, ?_, R.m11 _, mv_I n8 hI hi x1 x2 G fr, frk⟩
    rw [upd_at, f11, sub_addc]
  · rw [if_neg c, if_neg c]
    exact Or.inr ⟨_, _, rfl, rfl, j, _, _, _, _, q, w, _, _, _, _, _, _, rfl, rfl, h, hI, fr0⟩
/-- a way -/
theorem p_walk {n K : Nat} {f g tr P A sh lo sx sy asd : Nat → Int32} {x y z w v ac oc as ou : Int32} (hK : 200000 ≤ K) (h : RowR n f g) (hI : RowI n g) : ∃ (r ac' oc' as' ou' : Int32) (tr' P' A' sh' lo' sx' sy' asd' : Nat → Int32), F_X7_walk K x y z w v f tr P ac oc sh lo = some (r, tr', P', ac', oc', sh', lo') ∧ F_X8_walk K x y z w v g (nI n) sx sy as ou A asd = some (r, g, sx', sy', as', ou', A', asd') := by
  have n8 := h.n8
  obtain ⟨r, e1, e2, e3, e4⟩ := rf_both (s := 0) (S := 0) (a := x) (b := y) (c := z) rfl (by decide) hK h hI.x
  rw [wm_of] at e2
  have ei : F_X8_in w.toInt64 (1 : Int64) (99 : Int64) = some (if (1 : Int32) ≤ w ∧ w ≤ (99 : Int32) then 1 else 0) := by
    rw [show (1 : Int64) = (1 : Int32).toInt64 from rfl, show (99 : Int64) = (99 : Int32).toInt64 by decide, m_inI]
  unfold F_X7_walk F_X8_walk
  rw [rng_c, e1, e2, xb1, xb1, ei, xb1, ite10, m_in0 (m := 2) (by decide), xb1, ite10]
  by_cases c : r = -1
  · rw [if_pos c, if_pos c]
    by_cases d : (1 : Int32) ≤ w ∧ w ≤ (99 : Int32)
    · obtain ⟨m, hm, rfl⟩ := in_nat (p := w) (n := 99) (by decide) ⟨Int32.le_trans (by decide) d.1, d.2⟩
      have h2 : RowR n (va_cpy f tr 0 0 81) g := h.cg (fun k hk => by rw [gcpy_at hk, Nat.zero_add]) (fun k hk => rfl)
      have t11 : (va_cpy f tr 0 0 81) 11 = f 11 := by rw [gcpy_at (by decide), Nat.zero_add]
      have hz : WwR n f g 0 ((0 : Int32), (0 : Int32), va_cpy f tr 0 0 81, P, ac, oc, sh, lo) ((0 : Int32), (0 : Int32), g, sx, sy, as, ou, A) := ⟨ac, oc, as, ou, va_cpy f tr 0 0 81, g, P, A, sh, lo, sx, sy, rfl, by rw [t11, Int32.sub_self]; rfl, h2, hI, fun _ _ => rfl⟩
      have he : ∀ s t, WwR n f g m s t → ∃ r u, (fun u9 : Int32 × Int32 × (Nat → Int32) × (Nat → Int32) × Int32 × Int32 × (Nat → Int32) × (Nat → Int32) => B_X7_walk_47 K x y z (nI m) u9.1 u9.2.1 u9.2.2.1 u9.2.2.2.1 u9.2.2.2.2.1 u9.2.2.2.2.2.1 u9.2.2.2.2.2.2.1 u9.2.2.2.2.2.2.2) s = some (.inr r) ∧ (fun u9 : Int32 × Int32 × (Nat → Int32) × (Nat → Int32) × (Nat → Int32) × Int32 × Int32 × (Nat → Int32) => B_X8_walk_49 K x y z (nI m) (nI n) u9.1 u9.2.1 u9.2.2.1 u9.2.2.2.1 u9.2.2.2.2.1 u9.2.2.2.2.2.1 u9.2.2.2.2.2.2.1 u9.2.2.2.2.2.2.2) t = some (.inr u) ∧ WwQ n f g r u := by
        intro s t q
        obtain ⟨ac, oc, as, ou, q, w, P, A, sh, lo, sx, sy, rfl, rfl, h, hI, fr0⟩ := q
        have le : nI m ≤ nI m := (nI_leI (a := m) (b := m) (by omega) (by omega)).mpr (Nat.le_refl _)
        refine ⟨(nI m, q, P, ac, oc, sh, lo), (q 11 - f 11, nI m, w, sx, sy, as, ou, A), ?_, ?_, m, _, _, _, _, q, w, _, _, _, _, _, _, rfl, rfl, h, hI, fr0⟩
        · show B_X7_walk_47 K x y z (nI m) (nI m) (nI m) q P ac oc sh lo = _
          unfold B_X7_walk_47
          rw [if_pos le]
        · show B_X8_walk_49 K x y z (nI m) (nI n) (q 11 - f 11) (nI m) w sx sy as ou A = _
          unfold B_X8_walk_49
          rw [if_pos le]
      obtain ⟨u, t, l1, l2, j, ac1, oc1, as1, ou1, q1, w1, P1, A1, sh1, lo1, sx1, sy1, y3, y4, R, I1, fr⟩ := lp_two (WwR n f g) (WwQ n f g) (n := m) (K := K) (K' := K) (by omega) (by omega) (fun i s t hi q => WwR.step hK (by omega) hi q) he hz
      have y5 : u = (nI j, q1, P1, ac1, oc1, sh1, lo1) := congrArg (fun w : WwX => (w.1, w.2.2)) y3
      rw [if_pos d, if_pos d, c_cpF, xb1, l1, m_aside hK, xb1, l2, y5, y4, xb7, xb8]
      unfold J_X7_walk_90 J_X8_walk_85
      rw [m_bring hK fr, xb1, aside_at (by decide), show q1 12 = w1 68 from R.sc (12, 68) (by decide), show f 12 = g 68 from h.sc (12, 68) (by decide)]
      by_cases b : 0 ≤ v ∧ v ≤ nI 2
      · obtain ⟨k, hk, rfl⟩ := in_nat (n := 2) (by decide) b
        rw [if_pos b]
        rcases (show k = 0 ∨ k = 1 ∨ k = 2 by omega) with rfl | rfl | rfl
        · rw [if_pos (by decide), if_pos (by decide)]
          exact ⟨_, _, _, _, _, _, _, _, _, _, _, _, _, rfl, rfl⟩
        · rw [if_neg (by decide), if_pos (by decide), if_neg (by decide), if_pos (by decide)]
          exact ⟨_, _, _, _, _, _, _, _, _, _, _, _, _, rfl, rfl⟩
        · rw [if_neg (by decide), if_neg (by decide), if_pos (by decide), if_neg (by decide), if_neg (by decide)]
          exact ⟨_, _, _, _, _, _, _, _, _, _, _, _, _, rfl, rfl⟩
      · have q := not_of b
        rw [if_neg b, if_neg (show ¬ v = (0 : Int32) from q 0 (by decide) (by decide)), if_neg (show ¬ v = (1 : Int32) from q 1 (by decide) (by decide)), if_neg (show ¬ v = (2 : Int32) from q 2 (by decide) (by decide))]
        exact ⟨_, _, _, _, _, _, _, _, _, _, _, _, _, rfl, rfl⟩
    · rw [if_neg d, if_neg d]
      exact ⟨_, _, _, _, _, _, _, _, _, _, _, _, _, rfl, rfl⟩
  · rw [if_neg c, if_neg c]
    refine ⟨-1, ac, oc, _, _, tr, P, _, sh, lo, _, _, _, ?_, rfl⟩
    split <;> rfl
end
-- 83c.30
section
/-! Stage B, 30: limits and partners, in both -/
theorem c_way {x y : Int32} : F_X7_isWay x y = some (if (in9 x ∧ in9 y) ∧ ¬ (x = 0 ∧ y = 0) then 1 else 0) := by
  unfold F_X7_isWay
  rw [c_mov, xb1, ite10]
  by_cases a : in9 x ∧ in9 y
  · rw [if_pos a]
    by_cases z1 : x = 0
    · rw [if_pos z1]
      by_cases z2 : y = 0
      · rw [if_pos z2, if_neg (show ¬ ((in9 x ∧ in9 y) ∧ ¬ (x = 0 ∧ y = 0)) from fun q => q.2 ⟨z1, z2⟩)]
      · rw [if_neg z2, if_pos (show (in9 x ∧ in9 y) ∧ ¬ (x = 0 ∧ y = 0) from ⟨a, fun q => z2 q.2⟩)]
    · rw [if_neg z1, if_pos (show (in9 x ∧ in9 y) ∧ ¬ (x = 0 ∧ y = 0) from ⟨a, fun q => z1 q.1⟩)]
  · rw [if_neg a, if_neg (show ¬ ((in9 x ∧ in9 y) ∧ ¬ (x = 0 ∧ y = 0)) from fun q => a q.1)]
theorem m_way {x y : Int32} : F_X8_isWay x y = some (if (in9 x ∧ in9 y) ∧ ¬ (x = 0 ∧ y = 0) then 1 else 0) := by
  unfold F_X8_isWay
  rw [m_in9, xb1, ite10, m_in9, xb1, ite10]
  by_cases a : in9 x
  · rw [if_pos (show in9 x from a)]
    by_cases b : in9 y
    · rw [if_pos (show in9 y from b)]
      by_cases z1 : x = 0
      · rw [if_pos z1]
        by_cases z2 : y = 0
        · rw [if_pos z2, if_neg (show ¬ ((in9 x ∧ in9 y) ∧ ¬ (x = 0 ∧ y = 0)) from fun q => q.2 ⟨z1, z2⟩)]
        · rw [if_neg z2, if_pos (show (in9 x ∧ in9 y) ∧ ¬ (x = 0 ∧ y = 0) from ⟨⟨a, b⟩, fun q => z2 q.2⟩)]
      · rw [if_neg z1, if_pos (show (in9 x ∧ in9 y) ∧ ¬ (x = 0 ∧ y = 0) from ⟨⟨a, b⟩, fun q => z1 q.1⟩)]
    · rw [if_neg (show ¬ in9 y from b), if_neg (show ¬ ((in9 x ∧ in9 y) ∧ ¬ (x = 0 ∧ y = 0)) from fun q => b q.1.2)]
  · rw [if_neg (show ¬ in9 x from a), if_neg (show ¬ ((in9 x ∧ in9 y) ∧ ¬ (x = 0 ∧ y = 0)) from fun q => a q.1.1)]
theorem m_stand {i : Nat} {g : Nat → Int32} (hi : i < 8) : F_X8_canStand (nI i) g = some (if inR (g (0 + i)) ∧ inR (g (8 + i)) then 1 else 0) := by
  unfold F_X8_canStand
  rw [bm_ix (a := 0) (by rfl) (by omega), bm_cl (a := 0) (by rfl) (by omega), m_inR, xb1, ite10, bm_ix (a := 8) (by rfl) (by omega), bm_cl (a := 8) (by rfl) (by omega), m_inR, xb1, ite10]
  by_cases a : inR (g (0 + i))
  · rw [if_pos (show inR (g (0 + i)) from a)]
    by_cases b : inR (g (8 + i))
    · rw [if_pos (show inR (g (8 + i)) from b), if_pos (show inR (g (0 + i)) ∧ inR (g (8 + i)) from ⟨a, b⟩)]
    · rw [if_neg (show ¬ inR (g (8 + i)) from b), if_neg (show ¬ (inR (g (0 + i)) ∧ inR (g (8 + i))) from fun q => b q.2)]
  · rw [if_neg (show ¬ inR (g (0 + i)) from a), if_neg (show ¬ (inR (g (0 + i)) ∧ inR (g (8 + i))) from fun q => a q.1)]
/-- quiet by a drift: what the places hold doesn't matter -/
theorem qb_cg {n K : Nat} {g g' : Nat → Int32} {p q : Int32} (hK : 200000 ≤ K) (n8 : n ≤ 8) (h : ∀ k, 16 ≤ k → g' k = g k) : F_X8_isQuietBy K p q g' (nI n) = F_X8_isQuietBy K p q g (nI n) := by
  have e16 : F_X8_sum K (16 : Int32) g' (nI n) = F_X8_sum K (16 : Int32) g (nI n) := by
    rw [show (16 : Int32) = nI 16 from rfl, bm_sum hK n8 (by decide), bm_sum hK n8 (by decide)]
    exact congrArg some (sgm_eq n (fun i hi => h _ (by omega)))
  have e24 : F_X8_sum K (24 : Int32) g' (nI n) = F_X8_sum K (24 : Int32) g (nI n) := by
    rw [show (24 : Int32) = nI 24 from rfl, bm_sum hK n8 (by decide), bm_sum hK n8 (by decide)]
    exact congrArg some (sgm_eq n (fun i hi => h _ (by omega)))
  unfold F_X8_isQuietBy F_X8_pointX F_X8_pointY F_X8_isAllowed F_X8_valueOf J_X8_valueOf_12 J_X8_valueOf_26
  rw [e16, e24]
  simp only [h 72 (by decide), h 64 (by decide), h 65 (by decide)]
theorem dsh {a b c d : Int32} : (a + b) - c + d = (a - c + d) + b := by
  rw [Int32.sub_eq_add_neg, Int32.sub_eq_add_neg, Int32.add_assoc a b, Int32.add_comm b, ← Int32.add_assoc a, Int32.add_assoc (a + -c), Int32.add_comm b, ← Int32.add_assoc (a + -c)]
/-- quiet, of one that stands so much farther -/
theorem iq_sh {n i K : Nat} {f g g' : Nat → Int32} {a b : Int32} (hK : 200000 ≤ K) (h : RowR n f g) (hg : RowG g) (hi : i < n) (fr : ∀ k, 16 ≤ k → g' k = g k) (hx : g' (0 + i) = g (0 + i) + a) (hy : g' (8 + i) = g (8 + i) + b) : F_X8_isQuiet K (nI i) g' (nI n) = some (qvl f (cdr f i 0 + a) (cdr f i 1 + b)) := by
  have n8 := h.n8
  obtain ⟨d0, d1⟩ := dr_both h.1.2.2.1 hi
  have m0 : mdx g' i = mdx g i + a := by
    unfold mdx
    rw [hx, fr (16 + i) (by omega), fr (32 + i) (by omega), dsh]
  have m1 : mdy g' i = mdy g i + b := by
    unfold mdy
    rw [hy, fr (24 + i) (by omega), fr (40 + i) (by omega), dsh]
  unfold F_X8_isQuiet
  rw [m_drX (by omega), xb1, m_drY (by omega), xb1, qb_cg hK n8 fr, ← q_both hK h hg, qvl_is, xb1, m0, m1, d0, d1]
theorem ml_rng {m : Nat} {x : Int32} (hm : m ≤ 201) (hx : in9 x) : (nI m * x).toInt = m * x.toInt ∧ -3000000 ≤ (nI m * x).toInt ∧ (nI m * x).toInt ≤ 3000000 := by
  obtain ⟨l, u⟩ := in9_int hx
  have a1 : (m : Int) * x.toInt ≤ m * 9999 := Int.mul_le_mul_of_nonneg_left u (by omega)
  have a2 : (m : Int) * -9999 ≤ m * x.toInt := Int.mul_le_mul_of_nonneg_left l (by omega)
  have e : (nI m * x).toInt = m * x.toInt := by
    rw [Int32.toInt_mul, nI_toInt (by omega)]
    exact Int.bmod_eq_of_le (by omega) (by omega)
  rw [e]
  exact ⟨rfl, by omega, by omega⟩
theorem ml_st {j : Nat} {a x : Int32} : a + nI j * x + x = a + nI (j + 1) * x := by
  rw [← nI_1 j, Int32.add_mul, Int32.one_mul, Int32.add_assoc]
/-- the row of one that was moved j times -/
def LmW (i j : Nat) (x y : Int32) (g w : Nat → Int32) : Prop := (∀ k, ¬ k = 0 + i → ¬ k = 8 + i → w k = g k) ∧ w (0 + i) = g (0 + i) + nI j * x ∧ w (8 + i) = g (8 + i) + nI j * y
theorem LmW.st {i j : Nat} {x y : Int32} {g w : Nat → Int32} (h : LmW i j x y g w) : LmW i (j + 1) x y g (mvG i x y w) := by
  obtain ⟨h1, h2, h3⟩ := h
  unfold mvG
  refine ⟨fun k a b => ?_, ?_, ?_⟩
  · rw [upd_ne b, upd_ne a]
    exact h1 k a b
  · rw [upd_ne (by omega), upd_at, h2, ml_st]
  · rw [upd_at, upd_ne (by omega), h3, ml_st]
theorem m_limB {n i j K : Nat} {f g w : Nat → Int32} {x y X : Int32} (hK : 200000 ≤ K) (h : RowR n f g) (hg : RowG g) (hi : i < n) (hX : ¬ (200 : Int32) ≤ X) (q : LmW i j x y g w) : B_X8_limit_36 K (nI i) x y (nI n) X 1 w = some (.inl (X + 1, (if inR (g (0 + i) + nI (j + 1) * x) ∧ inR (g (8 + i) + nI (j + 1) * y) then (if qvl f (cdr f i 0 + nI (j + 1) * x) (cdr f i 1 + nI (j + 1) * y) = 0 then 0 else 1) else 0), mvG i x y w)) := by
  have n8 := h.n8
  obtain ⟨q1, q2, q3⟩ := q.st
  unfold B_X8_limit_36
  rw [if_neg n10, if_neg hX]
  simp only [bm_ix (A := (0 : Int32)) (a := 0) rfl (show 0 + i < 265 by omega), bm_ix (A := (8 : Int32)) (a := 8) rfl (show 8 + i < 265 by omega), bm_cl (A := (0 : Int32)) (a := 0) rfl (show 0 + i < 265 by omega), bm_cl (A := (8 : Int32)) (a := 8) rfl (show 8 + i < 265 by omega), xnm]
  rw [show upd (upd w (0 + i) (w (0 + i) + x)) (8 + i) (upd w (0 + i) (w (0 + i) + x) (8 + i) + y) = mvG i x y w from rfl]
  rw [m_stand (by omega), xb1, ite10, q2, q3, iq_sh hK h hg hi (fun k hk => q1 k (by omega) (by omega)) q2 q3, xb1]
  by_cases c : inR (g (0 + i) + nI (j + 1) * x) ∧ inR (g (8 + i) + nI (j + 1) * y)
  · rw [if_pos c, if_pos c]
    by_cases d : qvl f (cdr f i 0 + nI (j + 1) * x) (cdr f i 1 + nI (j + 1) * y) = 0
    · rw [if_pos d, if_pos d]
    · rw [if_neg d, if_neg d]
  · rw [if_neg c, if_neg c]
def LmR (i : Nat) (x y : Int32) (g : Nat → Int32) (j : Nat) (s : Int32 × Int32) (t : Int32 × Int32 × (Nat → Int32)) : Prop := ∃ w, s = (nI j, nI (j + 1)) ∧ t = (nI j - 1, 1, w) ∧ LmW i j x y g w
theorem lm_both {n i K : Nat} {f g : Nat → Int32} {x y : Int32} (hK : 200000 ≤ K) (h : RowR n f g) (hI : RowI n g) (hi : i < n) (hx : in9 x) (hy : in9 y) : ∃ (r : Nat × Int32) (u : Int32 × (Nat → Int32)), lpF (fun u9 : Int32 × Int32 => B_X7_limit_38 (nI i) x y f u9.1 u9.2) K ((0 : Int32), (1 : Int32)) = some r ∧ lpF (fun u9 : Int32 × Int32 × (Nat → Int32) => B_X8_limit_36 K (nI i) x y (nI n) u9.1 u9.2.1 u9.2.2) K ((-1 : Int32), (1 : Int32), g) = some u ∧ r.1 < 2 ∧ r.2 = u.1 ∧ ∀ k, 84 ≤ k → u.2 k = g k := by
  have n8 := h.n8
  refine lp_twoXN 2 (LmR i x y g) (fun (r : Nat × Int32) (u : Int32 × (Nat → Int32)) => r.1 < 2 ∧ r.2 = u.1 ∧ ∀ k, 84 ≤ k → u.2 k = g k) (n := 200) (by omega) (by omega) (fun j s t hj q => ?_) ⟨g, rfl, rfl, fun _ _ _ => rfl, by rw [show nI 0 = (0 : Int32) from rfl, Int32.zero_mul, Int32.add_zero], by rw [show nI 0 = (0 : Int32) from rfl, Int32.zero_mul, Int32.add_zero]⟩
  obtain ⟨w, rfl, rfl, q⟩ := q
  have j1 : nI j - 1 + 1 = nI j := Int32.sub_add_cancel _ _
  have nX : ¬ (200 : Int32) ≤ nI j - 1 := fun z => by
    have z2 := Int32.le_iff_toInt_le.mp z
    rw [show (nI j - 1).toInt = (j : Int) - (1 : Nat) from pk_sub_toInt (a := j) (b := 1) (by omega) (by omega), show (200 : Int32).toInt = 200 by decide] at z2
    omega
  have M := m_limB hK h hI.1 hi nX q
  rw [j1] at M
  have fr : ∀ k, 84 ≤ k → mvG i x y w k = g k := fun k hk => q.st.1 k (by omega) (by omega)
  have tail : ∀ b : Int32, (b = 0 ∨ j = 200) → B_X8_limit_36 K (nI i) x y (nI n) (nI j - 1) 1 w = some (.inl (nI j, b, mvG i x y w)) → ∀ J, 2 ≤ J → lpF (fun u9 : Int32 × Int32 × (Nat → Int32) => B_X8_limit_36 K (nI i) x y (nI n) u9.1 u9.2.1 u9.2.2) J (nI j - 1, 1, w) = some (nI j, mvG i x y w) := by
    intro b hb e J hJ
    obtain ⟨J2, rfl⟩ : ∃ J2, J = J2 + 1 + 1 := ⟨J - 2, by omega⟩
    rw [lp_one (u' := (nI j, b, mvG i x y w)) e]
    refine lp_end ?_
    show B_X8_limit_36 K (nI i) x y (nI n) (nI j) b (mvG i x y w) = _
    unfold B_X8_limit_36
    by_cases z : b = 0
    · rw [if_pos z]
    · have z2 : j = 200 := hb.resolve_left z
      rw [if_neg z, z2, if_pos (by decide)]
  show (j < 200 ∧ ∃ s' t', B_X7_limit_38 (nI i) x y f (nI j) (nI (j + 1)) = some (.inl s') ∧ B_X8_limit_36 K (nI i) x y (nI n) (nI j - 1) 1 w = some (.inl t') ∧ LmR i x y g (j + 1) s' t') ∨ (∃ r u, B_X7_limit_38 (nI i) x y f (nI j) (nI (j + 1)) = some (.inr r) ∧ (∀ J, 2 ≤ J → lpF (fun u9 : Int32 × Int32 × (Nat → Int32) => B_X8_limit_36 K (nI i) x y (nI n) u9.1 u9.2.1 u9.2.2) J (nI j - 1, 1, w) = some u) ∧ (r.1 < 2 ∧ r.2 = u.1 ∧ ∀ k, 84 ≤ k → u.2 k = g k))
  by_cases e : j = 200
  · refine Or.inr ⟨(1, nI j), (nI j, mvG i x y w), ?_, tail _ (Or.inr e) M, Nat.lt_succ_self 1, rfl, fr⟩
    unfold B_X7_limit_38
    rw [if_pos (show (200 : Int32) < nI (j + 1) from (nI_ltI (a := 200) (b := j + 1) (by omega) (by omega)).mpr (by omega))]
  · have hX := (hI.2 (by omega)).1 i hi
    obtain ⟨-, r1, r2⟩ := ml_rng (m := j + 1) (by omega) hx
    obtain ⟨-, r3, r4⟩ := ml_rng (m := j + 1) (by omega) hy
    have k1 := inR_add hX.1 ⟨r1, r2⟩
    have k2 := inR_add hX.2 ⟨r3, r4⟩
    have l3 := inR_int hX.1
    have l4 := inR_int hX.2
    have C : B_X7_limit_38 (nI i) x y f (nI j) (nI (j + 1)) = if inR (g (0 + i) + nI (j + 1) * x) ∧ inR (g (8 + i) + nI (j + 1) * y) then (if qvl f (cdr f i 0 + nI (j + 1) * x) (cdr f i 1 + nI (j + 1) * y) = 0 then some (.inr (0, nI j)) else some (.inl (nI (j + 1), nI (j + 1 + 1)))) else some (.inr (1, nI j)) := by
      unfold B_X7_limit_38
      rw [if_neg (show ¬ (200 : Int32) < nI (j + 1) from mt (nI_ltI (a := 200) (b := j + 1) (by omega) (by omega)).mp (by omega)), c_room h hi (by omega) (by omega), xb1, ite10, c_qw n8 hi, xb1, nI_1]
    by_cases c : inR (g (0 + i) + nI (j + 1) * x) ∧ inR (g (8 + i) + nI (j + 1) * y)
    · rw [if_pos c] at C M
      by_cases d : qvl f (cdr f i 0 + nI (j + 1) * x) (cdr f i 1 + nI (j + 1) * y) = 0
      · rw [if_pos d] at C M
        exact Or.inr ⟨_, _, C, tail _ (Or.inl rfl) M, Nat.zero_lt_succ 1, rfl, fr⟩
      · rw [if_neg d] at C M
        exact Or.inl ⟨by omega, _, _, C, M, mvG i x y w, rfl, by rw [nI_pred], q.st⟩
    · rw [if_neg c] at C M
      exact Or.inr ⟨_, _, C, tail _ (Or.inl rfl) M, Nat.lt_succ_self 1, rfl, fr⟩
/-- how far one may go unheard -/
theorem p_limit {n K : Nat} {f g asd : Nat → Int32} {x y z : Int32} (hK : 200000 ≤ K) (h : RowR n f g) (hI : RowI n g) : ∃ v asd', F_X7_limit K x y z f = some v ∧ F_X8_limit K x y z g (nI n) asd = some (v, g, asd') := by
  have n8 := h.n8
  unfold F_X7_limit F_X8_limit
  rcases hs_both (p := x) n8 h.sz with ⟨i, hi, rfl, c1, c2⟩ | ⟨-, c1, c2⟩
  · rw [c1, c2, xb1, xb1, if_neg n10, if_neg n10, c_way, m_way, xb1, xb1, ite10, ite10, fz_c h.1 hi, fz_m (by omega), xb1, xb1, ite10, ite10]
    by_cases a : (in9 y ∧ in9 z) ∧ ¬ (y = 0 ∧ z = 0)
    · rw [if_pos a, if_pos a]
      by_cases b : g (76 + i) = 1
      · rw [if_pos b, if_pos b]
        exact ⟨_, _, rfl, rfl⟩
      · obtain ⟨⟨tg, v⟩, ⟨v2, w⟩, l1, l2, l3, l4, fr⟩ := lm_both hK h hI hi a.1.1 a.1.2
        have l3 : tg < 2 := l3
        have l4 : v = v2 := l4
        have fr : ∀ k, 84 ≤ k → w k = g k := fr
        rw [if_neg b, if_neg b, l1, m_aside hK, xb1, l2, xb2, xb2, m_bring hK fr, xb1, l4]
        rcases (show tg = 0 ∨ tg = 1 by omega) with e | e
        · rw [e, if_pos rfl]
          exact ⟨_, _, rfl, rfl⟩
        · rw [e, if_neg (by decide), if_pos rfl]
          exact ⟨_, _, rfl, rfl⟩
    · rw [if_neg a, if_neg a]
      exact ⟨_, _, rfl, rfl⟩
  · rw [c1, c2, xb1, xb1, if_pos rfl, if_pos rfl]
    exact ⟨_, _, rfl, rfl⟩
end
-- 83c.31
section
/-! Stage B, 31: partners, and what a script would cost, in both -/
def PnR (i : Nat) (j : Nat) (s : Int32 × (Nat → Int32) × (Nat → Int32)) (t : Int32 × Int32 × (Nat → Int32) × (Nat → Int32)) : Prop := ∃ sh lo sx sy, s = (nI j, sh, lo) ∧ t = (-1, nI j, sx, sy)
def PnQ (r : Nat × Int32 × (Nat → Int32) × (Nat → Int32)) (u : Int32 × (Nat → Int32) × (Nat → Int32)) : Prop := (r.1 = 0 ∧ u.1 = r.2.1) ∨ (r.1 = 1 ∧ u.1 = -1)
theorem pn_both {n i K : Nat} {f g sh lo sx sy : Nat → Int32} (hK : 200000 ≤ K) (h : RowR n f g) (hg : RowG g) (hi : i < n) (h72 : g 72 = 0) (hq : F_X8_isQuiet K (nI i) g (nI n) = some 0) : ∃ r u, lpF (fun u9 : Int32 × (Nat → Int32) × (Nat → Int32) => B_X7_partner_64 K (nI i) f u9.1 u9.2.1 u9.2.2) K ((0 : Int32), sh, lo) = some r ∧ lpF (fun u9 : Int32 × Int32 × (Nat → Int32) × (Nat → Int32) => B_X8_partner_48 K (nI i) (nI n) g u9.1 u9.2.1 u9.2.2.1 u9.2.2.2) K ((-1 : Int32), (0 : Int32), sx, sy) = some u ∧ PnQ r u := by
  have n8 := h.n8
  refine lp_twoXN 10 (PnR i) PnQ (n := n) (by omega) (by omega) (fun j s t hj q => ?_) ⟨sh, lo, sx, sy, rfl, rfl⟩
  obtain ⟨sh, lo, sx, sy, rfl, rfl⟩ := q
  show (j < n ∧ ∃ s' t', B_X7_partner_64 K (nI i) f (nI j) sh lo = some (.inl s') ∧ B_X8_partner_48 K (nI i) (nI n) g (-1) (nI j) sx sy = some (.inl t') ∧ PnR i (j + 1) s' t') ∨ (∃ r u, B_X7_partner_64 K (nI i) f (nI j) sh lo = some (.inr r) ∧ (∀ J, 10 ≤ J → lpF (fun u9 : Int32 × Int32 × (Nat → Int32) × (Nat → Int32) => B_X8_partner_48 K (nI i) (nI n) g u9.1 u9.2.1 u9.2.2.1 u9.2.2.2) J (-1, nI j, sx, sy) = some u) ∧ PnQ r u)
  by_cases e : j = n
  · have le : nI n ≤ nI j := (nI_leI (a := n) (b := j) (by omega) (by omega)).mpr (by omega)
    refine Or.inr ⟨(1, nI j, sh, lo), (-1, sx, sy), ?_, ?_, Or.inr ⟨rfl, rfl⟩⟩
    · unfold B_X7_partner_64 F_X5_sites
      rw [xb1, h.sz, if_pos le]
    · intro J hJ
      obtain ⟨J2, rfl⟩ : ∃ J2, J = J2 + 1 := ⟨J - 1, by omega⟩
      refine lp_end ?_
      show B_X8_partner_48 K (nI i) (nI n) g (-1) (nI j) sx sy = _
      unfold B_X8_partner_48
      rw [if_pos le]
  · have jn : j < n := by omega
    have lt : ¬ nI n ≤ nI j := mt (nI_leI (a := n) (b := j) (by omega) (by omega)).mp (by omega)
    have C0 : B_X7_partner_64 K (nI i) f (nI j) sh lo = if nI j = nI i then some (.inl (nI j + 1, sh, lo)) else if g (76 + j) = 1 then some (.inl (nI j + 1, sh, lo)) else bd3 (F_X5_canShare K (((1 : Int32) <<< (nI i &&& (31 : Int32))) ||| ((1 : Int32) <<< (nI j &&& (31 : Int32)))) f sh lo) (fun r_24 w_25 w_26 => if r_24 = (0 : Int32) then some (.inl (nI j + (1 : Int32), w_25, w_26)) else some (.inr (0, nI j, w_25, w_26))) := by
      unfold B_X7_partner_64 F_X5_sites
      rw [xb1, h.sz, if_neg lt, fz_c h.1 jn, xb1, ite10]
    have M0 : B_X8_partner_48 K (nI i) (nI n) g (-1) (nI j) sx sy = if nI j = nI i then some (.inl (-1, nI j + 1, sx, sy)) else if g (76 + j) = 1 then some (.inl (-1, nI j + 1, sx, sy)) else bd3 (F_X8_shares K (((1 : Int32) <<< (nI i &&& (31 : Int32))) ||| ((1 : Int32) <<< (nI j &&& (31 : Int32)))) g (nI n) sx sy) (fun r_24 w_25 w_26 => if r_24 = (0 : Int32) then some (.inl (-1, nI j + (1 : Int32), w_25, w_26)) else some (.inl (nI j, nI j + (1 : Int32), w_25, w_26))) := by
      unfold B_X8_partner_48
      rw [if_neg lt, if_pos h72, hq, xb1, if_pos rfl, if_pos rfl, fz_m (by omega), xb1, ite10]
    by_cases c : j = i
    · rw [if_pos (show nI j = nI i by rw [c]), nI_1] at C0 M0
      exact Or.inl ⟨jn, _, _, C0, M0, _, _, _, _, rfl, rfl⟩
    · have cn : ¬ nI j = nI i := fun z => c ((nI_eq (a := j) (b := i) (by omega) (by omega)).mp z)
      rw [if_neg cn] at C0 M0
      by_cases d : g (76 + j) = 1
      · rw [if_pos d, nI_1] at C0 M0
        exact Or.inl ⟨jn, _, _, C0, M0, _, _, _, _, rfl, rfl⟩
      · rw [if_neg d] at C0 M0
        obtain ⟨p1, p2, p3⟩ := grp_1 i (by omega)
        have pb : 2 ^ i / 2 ^ j % 2 = 0 := Decidable.byContradiction (fun z => c (p3 j (by omega) z))
        have pl : 2 ^ i < 256 := Nat.lt_of_lt_of_le (Nat.pow_lt_pow_right (by decide) (show i < 8 by omega)) (by decide)
        obtain ⟨g1, g2, g3⟩ := grp_or (2 ^ i) pl j (by omega) pb
        have m2 : 2 ^ i + 2 ^ j < 2 ^ 8 := grp_lt 8 (by decide) (2 ^ i) pl j (by omega) pb
        obtain ⟨v, q0, q1, r0, r1, sh', lo', sx', sy', hv, hr0, hr1, c1, c2, c3, c4⟩ := sh_both (sh := sh) (lo := lo) (sx := sx) (sy := sy) hK h hg h72 m2 (by omega)
        rw [p1, g1, c1, xb3, nI_1] at C0
        rw [p1, g1, c2, xb3, nI_1] at M0
        rcases hv with v0 | v1
        · rw [v0, if_pos rfl] at C0 M0
          exact Or.inl ⟨jn, _, _, C0, M0, _, _, _, _, rfl, rfl⟩
        · rw [v1, if_neg n10] at C0 M0
          refine Or.inr ⟨_, (nI j, sx', sy'), C0, ?_, Or.inl ⟨rfl, rfl⟩⟩
          intro J hJ
          obtain ⟨J2, rfl⟩ : ∃ J2, J = J2 + 1 := ⟨J - 1, by omega⟩
          rw [lp_one (u' := (nI j, nI (j + 1), sx', sy')) M0]
          refine lp_forA (b := fun u9 : Int32 × Int32 × (Nat → Int32) × (Nat → Int32) => B_X8_partner_48 K (nI i) (nI n) g u9.1 u9.2.1 u9.2.2.1 u9.2.2.2) (S := fun k => (nI j, nI k, sx', sy')) (n := n) (fun k hk => ?_) ?_ (n - (j + 1)) (j + 1) J2 (by omega) (by omega)
          · show B_X8_partner_48 K (nI i) (nI n) g (nI j) (nI k) sx' sy' = some (.inl (nI j, nI (k + 1), sx', sy'))
            unfold B_X8_partner_48
            rw [if_neg (mt (nI_leI (a := n) (b := k) (by omega) (by omega)).mp (by omega)), if_pos h72, hq, xb1, if_pos rfl, if_neg (nI_ne_m1 (by omega)), nI_1]
          · show B_X8_partner_48 K (nI i) (nI n) g (nI j) (nI n) sx' sy' = some (.inr (nI j, sx', sy'))
            unfold B_X8_partner_48
            rw [if_pos ((nI_leI (a := n) (b := n) (by omega) (by omega)).mpr (Nat.le_refl _))]
/-- whom a move would need -/
theorem p_partner {n K : Nat} {f g tr sh lo sx sy asd : Nat → Int32} {x y z : Int32} (hK : 200000 ≤ K) (h : RowR n f g) (hI : RowI n g) : ∃ (v : Int32) (tr' sh' lo' sx' sy' asd' : Nat → Int32), F_X7_partner K x y z f tr sh lo = some (v, tr', sh', lo') ∧ F_X8_partner K x y z g (nI n) sx sy asd = some (v, g, sx', sy', asd') := by
  have n8 := h.n8
  obtain ⟨r, e1, e2, e3, e4⟩ := rf_both (s := 0) (S := 0) (a := x) (b := y) (c := z) rfl (by decide) hK h hI.x
  rw [wm_of] at e2
  unfold F_X7_partner F_X8_partner
  rw [e1, e2, xb1, xb1]
  by_cases c : r = -1
  · obtain ⟨i, hi, rfl, -⟩ := (e4 c).2.1 rfl
    have fr16 : ∀ k, 16 ≤ k → mvG i y z g k = g k := fun k hk => by
      unfold mvG
      rw [upd_ne (by omega), upd_ne (by omega)]
    have gx : mvG i y z g (0 + i) = g (0 + i) + y := by
      unfold mvG
      rw [upd_ne (by omega), upd_at]
    have gy : mvG i y z g (8 + i) = g (8 + i) + z := by
      unfold mvG
      rw [upd_at, upd_ne (by omega)]
    have iq := iq_sh hK h hI.1 hi fr16 gx gy
    have e6 : f 6 = g 72 := h.sc (6, 72) (by decide)
    rw [if_pos c, if_pos c, m_aside hK, xb1]
    simp only [bm_ix (A := (0 : Int32)) (a := 0) rfl (show 0 + i < 265 by omega), bm_ix (A := (8 : Int32)) (a := 8) rfl (show 8 + i < 265 by omega), bm_cl (A := (0 : Int32)) (a := 0) rfl (show 0 + i < 265 by omega), bm_cl (A := (8 : Int32)) (a := 8) rfl (show 8 + i < 265 by omega), xnm]
    have V : ∀ {w : Nat → Int32}, upd (upd g (0 + i) (g (0 + i) + y)) (8 + i) (upd g (0 + i) (g (0 + i) + y) (8 + i) + z) = w → mvG i y z g = w := fun e => e
    generalize hw : upd (upd g (0 + i) (g (0 + i) + y)) (8 + i) (upd g (0 + i) (g (0 + i) + y) (8 + i) + z) = W
    have hW := V hw
    rw [hW] at fr16 gx gy iq
    have bb := m_bring (K := K) (g := g) (w := W) (as := asd) hK (fun k hk => fr16 k (by omega))
    have stop : ∀ {A B : Option Int32}, (W 72 = 0 → ¬ qvl f (cdr f i 0 + y) (cdr f i 1 + z) = 0) → lpF (fun u9 : Int32 × Int32 × (Nat → Int32) × (Nat → Int32) => B_X8_partner_48 K (nI i) (nI n) W u9.1 u9.2.1 u9.2.2.1 u9.2.2.2) K ((-1 : Int32), (0 : Int32), sx, sy) = some (-1, sx, sy) := fun {A B} hh => by
      obtain ⟨J, rfl⟩ : ∃ J, K = J + 1 := ⟨K - 1, by omega⟩
      refine lp_end ?_
      show B_X8_partner_48 (J + 1) (nI i) (nI n) W (-1) 0 sx sy = _
      unfold B_X8_partner_48
      rw [if_neg (nI_nle (by omega) (by omega))]
      by_cases z2 : W 72 = 0
      · rw [if_pos z2, iq, xb1, if_neg (hh z2)]
      · rw [if_neg z2]
    unfold F_X5_isAbove
    rw [e6, c_qw n8 hi, xb1]
    by_cases z2 : g 72 = 0
    · rw [if_pos z2, xb1, if_pos rfl]
      by_cases z3 : qvl f (cdr f i 0 + y) (cdr f i 1 + z) = 0
      · rw [if_pos z3, c_cpF, xb1]
        have h2 : RowR n (va_cpy f tr 0 0 81) g := h.cg (fun k hk => by rw [gcpy_at hk, Nat.zero_add]) (fun k hk => rfl)
        obtain ⟨f2, s1, R2⟩ := sf_both (x := y) (y := z) h2 hi
        rw [hW] at R2
        rw [z3] at iq
        obtain ⟨⟨tg, v1, sh1, lo1⟩, ⟨v2, sx1, sy1⟩, l1, l2, hQ⟩ := pn_both (sh := sh) (lo := lo) (sx := sx) (sy := sy) hK R2 (hI.1.of (fr16 64 (by decide)) (fr16 72 (by decide))) hi ((fr16 72 (by decide)).trans z2) iq
        rw [s1, xb1, l1, xb4, l2, xb3, bb, xb1]
        rcases hQ with ⟨w1, w2⟩ | ⟨w1, w2⟩
        · have w1 : tg = 0 := w1
          have w2 : v2 = v1 := w2
          rw [w1, w2, if_pos rfl]
          exact ⟨_, _, _, _, _, _, _, rfl, rfl⟩
        · have w1 : tg = 1 := w1
          have w2 : v2 = -1 := w2
          rw [w1, w2, if_neg (by decide), if_pos rfl]
          exact ⟨_, _, _, _, _, _, _, rfl, rfl⟩
      · rw [if_neg z3, stop (A := none) (B := none) (fun _ => z3), xb3, bb, xb1]
        exact ⟨_, _, _, _, _, _, _, rfl, rfl⟩
    · rw [if_neg z2, xb1, if_neg n10, stop (A := none) (B := none) (fun w => absurd ((fr16 72 (by decide)).symm.trans w) z2), xb3, bb, xb1]
      exact ⟨_, _, _, _, _, _, _, rfl, rfl⟩
  · rw [if_neg c, if_neg c]
    exact ⟨_, _, _, _, _, _, _, rfl, rfl⟩
abbrev RnX : Type := Int32 × (Nat → Int32) × (Nat → Int32) × Int32 × Int32 × (Nat → Int32) × (Nat → Int32)
def RnR (n c : Nat) (g kp : Nat → Int32) (ka : Int32) (i : Nat) (s : RnX) (t : PfM) : Prop := ∃ (ac oc as ou tk : Int32) (q w P A sh lo sx sy : Nat → Int32), s = (nI i, q, P, ac, oc, sh, lo) ∧ t = (nI i, w, sx, sy, as, ou, A, tk, kp, ka) ∧ RowR n q w ∧ RowI n w ∧ q 11 = w 67 ∧ (∀ k, 84 ≤ k → w k = g k) ∧ i ≤ c
def RnQ (n c : Nat) (g kp : Nat → Int32) (ka : Int32) (s : RnX) (t : Nat × PfM) : Prop := ∃ i, ((t.1 = 0 ∧ i < c) ∨ (t.1 = 1 ∧ i = c)) ∧ RnR n c g kp ka i s t.2
theorem RnR.step {n k r c i K : Nat} {g kp st co sc lg : Nat → Int32} {ka : Int32} {s : RnX} {t : PfM} (hK : 200000 ≤ K) (hk : k ≤ 4) (hr : r < k) (hS : SR k st co sc lg) (hkd : KdS k st co) (e : co r = nI c) (el : lg r = nI c) (hc : c ≤ 12) (q : RnR n c g kp ka i s t) : (i < c ∧ ∃ s' t', B_X7_run_56 K (nI r) (nI k) st co (nI c) s.1 s.2.1 s.2.2.1 s.2.2.2.1 s.2.2.2.2.1 s.2.2.2.2.2.1 s.2.2.2.2.2.2 = some (.inl s') ∧ B_X8_goSteps_2 K (nI r) 0 (nI n) sc lg t.1 t.2.1 t.2.2.1 t.2.2.2.1 t.2.2.2.2.1 t.2.2.2.2.2.1 t.2.2.2.2.2.2.1 t.2.2.2.2.2.2.2.1 t.2.2.2.2.2.2.2.2.1 t.2.2.2.2.2.2.2.2.2 = some (.inl t') ∧ RnR n c g kp ka (i + 1) s' t') ∨ (∃ r' u', B_X7_run_56 K (nI r) (nI k) st co (nI c) s.1 s.2.1 s.2.2.1 s.2.2.2.1 s.2.2.2.2.1 s.2.2.2.2.2.1 s.2.2.2.2.2.2 = some (.inr r') ∧ B_X8_goSteps_2 K (nI r) 0 (nI n) sc lg t.1 t.2.1 t.2.2.1 t.2.2.2.1 t.2.2.2.2.1 t.2.2.2.2.2.1 t.2.2.2.2.2.2.1 t.2.2.2.2.2.2.2.1 t.2.2.2.2.2.2.2.2.1 t.2.2.2.2.2.2.2.2.2 = some (.inr u') ∧ RnQ n c g kp ka r' u') := by
  obtain ⟨ac, oc, as, ou, tk, q, w, P, A, sh, lo, sx, sy, rfl, rfl, h, hI, q11, fr, hi⟩ := q
  have n8 := h.n8
  by_cases z : i = c
  · refine Or.inr ⟨(nI i, q, P, ac, oc, sh, lo), (1, nI i, w, sx, sy, as, ou, A, tk, kp, ka), ?_, ?_, i, Or.inr ⟨rfl, z⟩, ac, oc, as, ou, tk, q, w, P, A, sh, lo, sx, sy, rfl, rfl, h, hI, q11, fr, hi⟩
    · show B_X7_run_56 K (nI r) (nI k) st co (nI c) (nI i) q P ac oc sh lo = _
      unfold B_X7_run_56
      rw [if_pos ((nI_leI (a := c) (b := i) (by omega) (by omega)).mpr (by omega))]
    · show B_X8_goSteps_2 K (nI r) 0 (nI n) sc lg (nI i) w sx sy as ou A tk kp ka = _
      unfold B_X8_goSteps_2
      rw [xixn (by omega) (by decide), nI_clamp (by omega), el, if_pos ((nI_leI (a := c) (b := i) (by omega) (by omega)).mpr (by omega))]
  · have hic : i < c := by omega
    obtain ⟨s, s6, p0, p1, p2, p3, p4⟩ := sp_both hk hr hS hkd e hc hic
    obtain ⟨v, e1, e2, e3, e4⟩ := rf_both (s := s) (S := nI s) (a := sc (48 * r + 4 * i + 1)) (b := sc (48 * r + 4 * i + 2)) (c := sc (48 * r + 4 * i + 3)) rfl s6 hK h hI.x
    have C : B_X7_run_56 K (nI r) (nI k) st co (nI c) (nI i) q P ac oc sh lo = bd7 (if v = -1 then bd7 (F_X5_doAct K (nI s) (sc (48 * r + 4 * i + 1)) (sc (48 * r + 4 * i + 2)) (sc (48 * r + 4 * i + 3)) q P ac oc sh lo) (fun r_12 w_13 w_14 w_15 w_16 w_17 w_18 => some ((1 : Int32), w_13, w_14, w_15, w_16, w_17, w_18)) else some ((0 : Int32), q, P, ac, oc, sh, lo)) (fun r_16 w_17 w_18 w_19 w_20 w_21 w_22 => if r_16 = (0 : Int32) then some (.inr (nI i, w_17, w_18, w_19, w_20, w_21, w_22)) else some (.inl (nI i + (1 : Int32), w_17, w_18, w_19, w_20, w_21, w_22))) := by
      unfold B_X7_run_56 F_X7_tryStep
      rw [if_neg (mt (nI_leI (a := c) (b := i) (by omega) (by omega)).mp (by omega)), p0, xb1, p2, xb1, p3, xb1, p4, xb1, e1, xb1]
    have i1 : nI (48 * r + 4 * i) + (1 : Int32) = nI (48 * r + 4 * i + 1) := nI_1 _
    have i2 : nI (48 * r + 4 * i) + (2 : Int32) = nI (48 * r + 4 * i + 2) := nI_add _ 2
    have i3 : nI (48 * r + 4 * i) + (3 : Int32) = nI (48 * r + 4 * i + 3) := nI_add _ 3
    have M : B_X8_goSteps_2 K (nI r) 0 (nI n) sc lg (nI i) w sx sy as ou A tk kp ka = bd1 (F_X8_whyNot K (nI s) (sc (48 * r + 4 * i + 1)) (sc (48 * r + 4 * i + 2)) (sc (48 * r + 4 * i + 3)) w (nI n)) (fun r_9 => if r_9 = (-1 : Int32) then bd8 (F_X8_doNow K (nI s) (sc (48 * r + 4 * i + 1)) (sc (48 * r + 4 * i + 2)) (sc (48 * r + 4 * i + 3)) w (nI n) sx sy as ou A tk) (fun r_16 w_17 w_18 w_19 w_20 w_21 w_22 w_23 => some (.inl (nI i + (1 : Int32), w_17, w_18, w_19, w_20, w_21, w_22, w_23, kp, ka))) else some (.inr (0, nI i, w, sx, sy, as, ou, A, tk, kp, ka))) := by
      unfold B_X8_goSteps_2
      rw [xixn (show r < 5 by omega) (by decide), nI_clamp (show r < 2 ^ 31 by omega), el, if_neg (mt (nI_leI (a := c) (b := i) (by omega) (by omega)).mp (by omega))]
      simp only [i_sc, i1, i2, i3, xixn (show 48 * r + 4 * i < 240 by omega) (by decide), xixn (show 48 * r + 4 * i + 1 < 240 by omega) (by decide), xixn (show 48 * r + 4 * i + 2 < 240 by omega) (by decide), xixn (show 48 * r + 4 * i + 3 < 240 by omega) (by decide), nI_clamp (show 48 * r + 4 * i < 2 ^ 31 by omega), nI_clamp (show 48 * r + 4 * i + 1 < 2 ^ 31 by omega), nI_clamp (show 48 * r + 4 * i + 2 < 2 ^ 31 by omega), nI_clamp (show 48 * r + 4 * i + 3 < 2 ^ 31 by omega), p1, xb1, if_pos]
    rw [e2, xb1] at M
    by_cases cv : v = -1
    · obtain ⟨m, vv, ac1, oc1, as1, ou1, f1, g1, P1, A1, sh1, lo1, sx1, sy1, d1, d2, R, I1, g67, fr1, hm, -⟩ := da_both (P := P) (A := A) (sh := sh) (lo := lo) (sx := sx) (sy := sy) (ac := ac) (oc := oc) (as := as) (ou := ou) (tk := tk) rfl s6 hK h hI (e4 cv)
      have f11 : f1 11 = g1 67 := by
        obtain ⟨p, ep, hp⟩ := e_doAct (p1 := nI s) (p2 := sc (48 * r + 4 * i + 1)) (p3 := sc (48 * r + 4 * i + 2)) (p4 := sc (48 * r + 4 * i + 3)) (ac := ac) (oc := oc) (f := q) (pa := P) (sh := sh) (lo := lo) hK ⟨n, n8, h.sz⟩
        rw [d1] at ep
        rw [← Option.some.inj ep] at hp
        rw [g67, ← q11]
        exact hp.2.2
      rw [if_pos cv, d1, xb7, xb7, if_neg n10, nI_1] at C
      rw [if_pos cv, d2, xb8, nI_1] at M
      exact Or.inl ⟨hic, _, _, C, M, _, _, _, _, _, f1, g1, _, _, _, _, _, _, rfl, rfl, R, I1, f11, fun k hk => (fr1 k hk).trans (fr k hk), by omega⟩
    · rw [if_neg cv, xb7, if_pos rfl] at C
      rw [if_neg cv] at M
      exact Or.inr ⟨_, _, C, M, i, Or.inl ⟨rfl, hic⟩, ac, oc, as, ou, tk, q, w, P, A, sh, lo, sx, sy, rfl, rfl, h, hI, q11, fr, hi⟩
/-- what a script would cost -/
theorem p_run {n k K : Nat} {f g tr P A sh lo sx sy kp asd st co sc lg : Nat → Int32} {x y ac oc as ou tk ka : Int32} (hK : 200000 ≤ K) (hk : k ≤ 4) (hS : SR k st co sc lg) (hkd : KdS k st co) (h : RowR n f g) (hI : RowI n g) (h11 : f 11 = g 67) : ∃ (v ac' oc' as' ou' tk' : Int32) (tr' P' A' sh' lo' sx' sy' asd' : Nat → Int32), F_X7_run K x y st co (nI k) f tr P ac oc sh lo = some (v, tr', P', ac', oc', sh', lo') ∧ F_X8_run K x y sc lg (nI k) g (nI n) sx sy as ou A tk kp ka asd = some (v, g, sx', sy', as', ou', A', tk', kp, ka, asd') := by
  have n8 := h.n8
  obtain ⟨s1, s2⟩ := sd_both n8 h.sz
  have eS : F_X8_isScript x (nI k) = some (if 0 ≤ x ∧ x ≤ nI k - 1 then 1 else 0) := by
    unfold F_X8_isScript
    rw [show (0 : Int64) = (0 : Int32).toInt64 from rfl, m_inI, xb1]
  unfold F_X7_run F_X8_run
  by_cases c : 0 ≤ x ∧ x ≤ nI k - 1
  · obtain ⟨r, hr', rfl⟩ := in_lt (by omega) c
    obtain ⟨l, l1, l2, l3, l4, l5⟩ := hS r hr'
    rw [eS, if_pos c, xb1, if_neg n10, c_has4 hk hr', xb1, if_neg n10, s1, s2, xb1, xb1]
    by_cases z : n = 0
    · rw [if_pos z, if_pos rfl, if_pos rfl]
      exact ⟨_, _, _, _, _, _, _, _, _, _, _, _, _, _, rfl, rfl⟩
    · rw [if_neg z, if_neg n10, if_neg n10, m_in0 (m := 1) (by decide), xb1, ite10, rng_d]
      by_cases d : 0 ≤ y ∧ y ≤ nI 1
      · obtain ⟨b, hb, rfl⟩ := in_nat (n := 1) (by decide) d
        have h2 : RowR n (va_cpy f tr 0 0 81) g := h.cg (fun k hk => by rw [gcpy_at hk, Nat.zero_add]) (fun k hk => rfl)
        have t11 : (va_cpy f tr 0 0 81) 11 = g 67 := by rw [gcpy_at (by decide), Nat.zero_add, h11]
        have hz : RnR n l g kp ka 0 ((0 : Int32), va_cpy f tr 0 0 81, P, ac, oc, sh, lo) ((0 : Int32), g, sx, sy, as, ou, A, tk, kp, ka) := ⟨_, _, _, _, _, _, g, _, _, _, _, _, _, rfl, rfl, h2, hI, t11, fun _ _ => rfl, by omega⟩
        obtain ⟨u, t, x1, x2, i, y2, ac1, oc1, as1, ou1, tk1, q1, w1, P1, A1, sh1, lo1, sx1, sy1, y3, y4, R, I1, q11, fr, y7⟩ := lp_two (b := fun u9 : Int32 × (Nat → Int32) × (Nat → Int32) × Int32 × Int32 × (Nat → Int32) × (Nat → Int32) => B_X7_run_56 K (nI r) (nI k) st co (nI l) u9.1 u9.2.1 u9.2.2.1 u9.2.2.2.1 u9.2.2.2.2.1 u9.2.2.2.2.2.1 u9.2.2.2.2.2.2) (d := fun u9 : Int32 × (Nat → Int32) × (Nat → Int32) × (Nat → Int32) × Int32 × Int32 × (Nat → Int32) × Int32 × (Nat → Int32) × Int32 => B_X8_goSteps_2 K (nI r) 0 (nI n) sc lg u9.1 u9.2.1 u9.2.2.1 u9.2.2.2.1 u9.2.2.2.2.1 u9.2.2.2.2.2.1 u9.2.2.2.2.2.2.1 u9.2.2.2.2.2.2.2.1 u9.2.2.2.2.2.2.2.2.1 u9.2.2.2.2.2.2.2.2.2) (RnR n l g kp ka) (RnQ n l g kp ka) (n := l) (K := K) (K' := K) (by omega) (by omega) (fun i s t hi q => (RnR.step hK hk hr' hS hkd l3 l4 l2 q).imp (fun w => w.2) id) (fun s t q => (RnR.step hK hk hr' hS hkd l3 l4 l2 q).elim (fun w => absurd w.1 (Nat.lt_irrefl _)) id) hz
        obtain ⟨t1, t2⟩ := t
        have y4 : t2 = _ := y4
        subst y3 y4
        have y2 : (t1 = 0 ∧ i < l) ∨ (t1 = 1 ∧ i = l) := y2
        unfold F_X8_goSteps
        rw [if_pos (show 0 ≤ nI b ∧ nI b ≤ (1 : Int32) from d), if_pos d, c_cpF, xb1, c_stepsOf hk hr' l3, xb1, x1, m_aside hK, xb1, x2, xb7, xb11]
        have G : (if t1 = 0 then some (nI i, w1, sx1, sy1, as1, ou1, A1, tk1, kp, ka) else if t1 = 1 then ixF (nI r) 5 (some (lg (nI r).toNatClampNeg, w1, sx1, sy1, as1, ou1, A1, tk1, kp, ka)) else none) = some (nI i, w1, sx1, sy1, as1, ou1, A1, tk1, kp, ka) := by
          rcases y2 with ⟨w1, w2⟩ | ⟨w1, w2⟩
          · rw [w1, if_pos rfl]
          · rw [w1, if_neg (by decide), if_pos rfl, xixn (by omega) (by decide), nI_clamp (by omega), l4, w2]
        rw [G, xb10, m_bring hK fr, xb1, aside_at (by decide), xixn (by omega) (by decide), nI_clamp (by omega), l4]
        unfold J_X7_run_78
        rw [q11, h11]
        rcases (show b = 0 ∨ b = 1 by omega) with rfl | rfl
        · rw [if_neg (show ¬ nI 0 = (1 : Int32) by decide), if_neg (show ¬ nI 0 = (1 : Int32) by decide)]
          by_cases e : i = l
          · rw [if_pos ((nI_leI (a := l) (b := i) (by omega) (by omega)).mpr (by omega)), if_pos (show nI i = nI l by rw [e])]
            exact ⟨_, _, _, _, _, _, _, _, _, _, _, _, _, _, rfl, rfl⟩
          · rw [if_neg (mt (nI_leI (a := l) (b := i) (by omega) (by omega)).mp (by omega)), if_neg (show ¬ nI i = nI l from fun q => e ((nI_eq (a := i) (b := l) (by omega) (by omega)).mp q))]
            exact ⟨_, _, _, _, _, _, _, _, _, _, _, _, _, _, rfl, rfl⟩
        · rw [if_pos (by decide), if_pos (by decide)]
          exact ⟨_, _, _, _, _, _, _, _, _, _, _, _, _, _, rfl, rfl⟩
      · rw [if_neg (show ¬ (0 ≤ y ∧ y ≤ (1 : Int32)) from d), if_neg d]
        exact ⟨_, _, _, _, _, _, _, _, _, _, _, _, _, _, rfl, rfl⟩
  · have c7 : F_X4_has x (nI k) = some 0 := by
      unfold F_X4_has
      by_cases b1 : x < 0
      · rw [if_pos b1]
      · rw [if_neg b1, if_pos]
        refine Decidable.byContradiction (fun b2 => ?_)
        obtain ⟨w, hw, rfl⟩ := nnI (n := k) (by omega) b1 b2
        apply c
        rw [show nI k - (1 : Int32) = nI (k - 1) from xsub (b := 1) (by omega)]
        exact ⟨nI_nn (by omega), (nI_leI (a := w) (b := k - 1) (by omega) (by omega)).mpr (by omega)⟩
    rw [eS, if_neg c, xb1, if_pos rfl, c7, xb1, if_pos rfl]
    exact ⟨_, _, _, _, _, _, _, _, _, _, _, _, _, _, rfl, rfl⟩
end
-- 83c.32
section
/-! Stage B, 32: races and goals leave the reference's row as it was -/
/-- if it ends, then so -/
def Pc {α : Type} (x : Option α) (Q : α → Prop) : Prop := ∀ r, x = some r → Q r
def NxP {σ ρ : Type} (I : σ → Prop) (Q : ρ → Prop) : σ ⊕ ρ → Prop
  | .inl s => I s
  | .inr r => Q r
theorem pc_some {α : Type} {r : α} {Q : α → Prop} (h : Q r) : Pc (some r) Q := fun _ e => by cases e; exact h
theorem pc_ite {α : Type} {c : Prop} {d : Decidable c} {a b : Option α} {Q : α → Prop} (h1 : c → Pc a Q) (h2 : ¬ c → Pc b Q) : Pc (@ite (Option α) c d a b) Q := by
  by_cases q : c
  · rw [if_pos q]; exact h1 q
  · rw [if_neg q]; exact h2 q
theorem pc_nm {α β : Type} {x : α} {g : α → Option β} {Q : β → Prop} (h : Pc (g x) Q) : Pc (nmF x g) Q := h
theorem pc_ix {α : Type} {i : Int32} {n : Nat} {g : Option α} {Q : α → Prop} (h : Pc g Q) : Pc (ixF i n g) Q := fun r e => h r (ix_s e).2
theorem pc_nz {α : Type} {d : Int32} {g : Option α} {Q : α → Prop} (h : Pc g Q) : Pc (nzI d g) Q := fun r e => h r (nzI_s e).2
theorem pc_bd1 {t0 β : Type} {x : Option t0} {f : t0 → Option β} {P : t0 → Prop} {Q : β → Prop} (h1 : Pc x P) (h2 : ∀ a, P a → Pc (f a) Q) : Pc (bd1 x f) Q := fun r e => by
  obtain ⟨y0, q1, q2⟩ := bd1_s e
  exact h2 y0 (h1 _ q1) r q2
theorem pc_bd2 {t0 t1 β : Type} {x : Option (t0 × t1)} {f : t0 → t1 → Option β} {P : t0 × t1 → Prop} {Q : β → Prop} (h1 : Pc x P) (h2 : ∀ a b, P (a, b) → Pc (f a b) Q) : Pc (bd2 x f) Q := fun r e => by
  obtain ⟨y0, y1, q1, q2⟩ := bd2_s e
  exact h2 y0 y1 (h1 _ q1) r q2
theorem pc_bd3 {t0 t1 t2 β : Type} {x : Option (t0 × t1 × t2)} {f : t0 → t1 → t2 → Option β} {P : t0 × t1 × t2 → Prop} {Q : β → Prop} (h1 : Pc x P) (h2 : ∀ a b c, P (a, b, c) → Pc (f a b c) Q) : Pc (bd3 x f) Q := fun r e => by
  obtain ⟨y0, y1, y2, q1, q2⟩ := bd3_s e
  exact h2 y0 y1 y2 (h1 _ q1) r q2
theorem pc_bd4 {t0 t1 t2 t3 β : Type} {x : Option (t0 × t1 × t2 × t3)} {f : t0 → t1 → t2 → t3 → Option β} {P : t0 × t1 × t2 × t3 → Prop} {Q : β → Prop} (h1 : Pc x P) (h2 : ∀ a b c d, P (a, b, c, d) → Pc (f a b c d) Q) : Pc (bd4 x f) Q := fun r e => by
  obtain ⟨y0, y1, y2, y3, q1, q2⟩ := bd4_s e
  exact h2 y0 y1 y2 y3 (h1 _ q1) r q2
theorem pc_T {α : Type} {x : Option α} : Pc x (fun _ => True) := fun _ _ => trivial
theorem pc_lp {σ ρ : Type} {b : σ → Option (σ ⊕ ρ)} (I : σ → Prop) (Q : ρ → Prop) (h : ∀ s, I s → Pc (b s) (NxP I Q)) : ∀ (K : Nat) (s : σ), I s → Pc (lpF b K s) Q := by
  intro K
  induction K with
  | zero => intro s _ r e; cases e
  | succ K ih =>
    intro s hs r e
    cases q : b s with
    | none =>
      have e2 : (match b s with | none => none | some (.inl u') => lpF b K u' | some (.inr r) => some r) = some r := e
      rw [q] at e2
      cases e2
    | some x =>
      cases x with
      | inl s' =>
        rw [lp_one q] at e
        exact ih s' (h s hs _ q) r e
      | inr r' =>
        rw [lp_end q] at e
        cases e
        exact h s hs _ q
/-- the log is as it was -/
def F84 (w g : Nat → Int32) : Prop := ∀ k, 84 ≤ k → w k = g k
theorem F84.up {w g : Nat → Int32} {i : Nat} {v : Int32} (h : F84 w g) (hi : i < 84) : F84 (upd w i v) g := fun k hk => (upd_ne (by omega)).trans (h k hk)
theorem pc_ends {n K : Nat} {w g : Nat → Int32} (n8 : n ≤ 8) (h : F84 w g) : Pc (F_X8_endsRound K w (nI n)) (fun x => F84 x g) := by
  unfold F_X8_endsRound
  refine pc_bd1 pc_T (fun r _ => pc_nm (pc_bd1 (P := fun x => F84 x g) (pc_lp (fun u : Int32 × (Nat → Int32) => (∃ j, j ≤ 8 ∧ u.1 = nI j) ∧ F84 u.2 g) _ (fun u hu => ?_) K _ ⟨⟨0, by omega, rfl⟩, h.up (by decide)⟩) (fun x hx => pc_nm (pc_nm (pc_some ?_)))))
  · obtain ⟨⟨j, hj, e⟩, hF⟩ := hu
    unfold B_X8_endsRound_15
    rw [e]
    refine pc_ite (fun _ => pc_some hF) (fun q => pc_ix (pc_nm (pc_some ⟨⟨j + 1, ?_, nI_1 j⟩, ?_⟩)))
    · have := mt (nI_leI (a := n) (b := j) (by omega) (by omega)).mpr q
      omega
    · have jl := mt (nI_leI (a := n) (b := j) (by omega) (by omega)).mpr q
      rw [bm_cl (a := 56) (by rfl) (by omega)]
      exact hF.up (by omega)
  · have hx : F84 x g := hx
    exact (hx.up (by decide)).up (by decide)
theorem pc_adds {n i K : Nat} {w g : Nat → Int32} {p : Int32} (n8 : n ≤ 8) (hi : i < 8) (h : F84 w g) : Pc (F_X8_addsNow K (nI i) p w (nI n)) (fun x => F84 x.2 g) := by
  unfold F_X8_addsNow
  rw [bm_cl (a := 48) (by rfl) (by omega), bm_cl (a := 56) (by rfl) (by omega)]
  refine pc_ix (pc_ix (pc_nm (pc_bd1 pc_T (fun r _ => pc_ite (fun _ => pc_nm (pc_some ((h.up (by omega)).up (by decide)))) (fun _ => pc_ix (pc_ix (pc_nm (pc_bd2 (P := fun x : Int32 × (Nat → Int32) => F84 x.2 g) (pc_lp (fun u : Int32 × (Nat → Int32) => F84 u.2 g) _ (fun u hu => ?_) K _ ((h.up (by omega)).up (by omega))) (fun a b hb => pc_some hb)))))))))
  unfold B_X8_addsNow_48
  rw [bm_cl (a := 56) (by rfl) (by omega)]
  refine pc_bd1 pc_T (fun r _ => pc_ite (fun _ => pc_some hu) (fun _ => pc_ix (pc_bd1 pc_T (fun r2 _ => pc_ite (fun _ => pc_some hu) (fun _ => pc_ix (pc_bd1 pc_T (fun r3 _ => pc_ix (pc_nm (pc_nm (pc_ite (fun _ => pc_bd1 (pc_ends n8 ((hu.up (by omega)).up (by decide))) (fun x hx => pc_some hx)) (fun _ => pc_some ((hu.up (by omega)).up (by decide))))))))))))) 
theorem pc_goes {n K : Nat} {g asd : Nat → Int32} {x y : Int32} (hK : 200000 ≤ K) (n8 : n ≤ 8) : Pc (F_X8_goes K x y g (nI n) asd) (fun r => r.2.1 = g) := by
  unfold F_X8_goes
  rw [gm_site, xb1, ite10]
  refine pc_ite (fun c => ?_) (fun _ => pc_some rfl)
  obtain ⟨i, hi, rfl⟩ := in_lt (by omega) c
  refine pc_bd1 pc_T (fun r _ => pc_ite (fun _ => pc_some rfl) (fun _ => pc_bd1 pc_T (fun r2 _ => pc_ite (fun _ => ?_) (fun _ => pc_some rfl))))
  rw [m_aside hK, xb1]
  refine pc_bd3 (P := fun u : Int32 × Int32 × (Nat → Int32) => F84 u.2.2 g) (pc_lp (fun u : Int32 × Int32 × (Nat → Int32) => F84 u.2.2 g) _ (fun u hu => ?_) K _ (fun _ _ => rfl)) (fun a b w hw => ?_)
  · unfold B_X8_goes_36
    exact pc_bd1 pc_T (fun r _ => pc_ite (fun _ => pc_bd2 (pc_adds n8 (by omega) hu) (fun a b hb => pc_some hb)) (fun _ => pc_some hu))
  · have hw : F84 w g := hw
    rw [m_bring hK hw, xb1]
    exact pc_ite (fun _ => pc_some rfl) (fun _ => pc_some rfl)
theorem pc_race {n K : Nat} {g asd : Nat → Int32} {x y z rc rd : Int32} (hK : 200000 ≤ K) (n8 : n ≤ 8) : Pc (F_X8_race K x y z g (nI n) asd rc rd) (fun r => r.2.1 = g) := by
  unfold F_X8_race F_X8_isWatch
  by_cases c : nI n ≤ (0 : Int32)
  · rw [if_pos c, xb1, if_pos rfl]
    exact pc_some rfl
  · have h0 : 0 < n := by
      refine Nat.pos_of_ne_zero (fun e => c ?_)
      rw [e]
      decide
    rw [if_neg c, xb1, if_neg n10]
    refine pc_bd1 pc_T (fun r _ => pc_ite (fun _ => pc_some rfl) (fun _ => pc_bd1 pc_T (fun r2 _ => pc_ite (fun _ => pc_some rfl) (fun _ => ?_))))
    refine pc_bd4 (P := fun u : (Nat → Int32) × (Nat → Int32) × Int32 × Int32 => u.1 = g) ?_ (fun a b c d hw => ?_)
    · unfold F_X8_laysRace
      rw [m_aside hK, xb1]
      refine pc_bd3 (P := fun u : Int32 × (Nat → Int32) × Int32 => F84 u.2.1 g) (pc_lp (fun u : Int32 × Int32 × Int32 × (Nat → Int32) × Int32 => (∃ m, m ≤ 1600 ∧ u.2.2.1 = nI m) ∧ F84 u.2.2.2.1 g) _ (fun u hu => ?_) K _ ⟨⟨0, by omega, rfl⟩, fun _ _ => rfl⟩) (fun a w b hw => ?_)
      · obtain ⟨⟨m, hm, e⟩, hF⟩ := hu
        unfold B_X8_laysRace_22
        rw [e, nI_mod (by omega) (by omega)]
        have e2 : (200 : Int32) * nI n = nI (200 * n) := by rw [show (200 : Int32) = nI 200 from rfl, nI_mul]
        rw [e2]
        refine pc_ite (fun _ => pc_some hF) (fun q => pc_ite (fun _ => pc_some hF) (fun _ => pc_nz (pc_bd1 pc_T (fun r _ => ?_))))
        have ml := mt (nI_leI (a := 200 * n) (b := m) (by omega) (by omega)).mpr q
        have hmod : m % n < n := Nat.mod_lt _ h0
        have nx : (∃ k, k ≤ 1600 ∧ nI m + 1 = nI k) := ⟨m + 1, by omega, nI_1 m⟩
        refine pc_ite (fun _ => pc_ix (pc_ix (pc_nm (pc_ix (pc_ix (pc_nm (pc_bd1 pc_T (fun r2 _ => ?_)))))))) (fun _ => pc_some ⟨nx, hF⟩)
        rw [bm_cl (a := 0) (by rfl) (show 0 + m % n < 265 by omega), bm_cl (a := 8) (by rfl) (show 8 + m % n < 265 by omega)]
        have hF2 : F84 (upd (upd u.2.2.2.1 (0 + m % n) (u.2.2.2.1 (0 + m % n) + x)) (8 + m % n) (upd u.2.2.2.1 (0 + m % n) (u.2.2.2.1 (0 + m % n) + x) (8 + m % n) + y)) g := (hF.up (by omega)).up (by omega)
        have J : ∀ (k0 x4 x6 c9 : Int32) (w : Nat → Int32), F84 w g → Pc (J_X8_laysRace_110_r23 k0 x4 (nI m) x6 w c9) (NxP (fun u : Int32 × Int32 × Int32 × (Nat → Int32) × Int32 => (∃ m, m ≤ 1600 ∧ u.2.2.1 = nI m) ∧ F84 u.2.2.2.1 g) (fun u : Int32 × (Nat → Int32) × Int32 => F84 u.2.1 g)) := by
          intro k0 x4 x6 c9 w hw
          unfold J_X8_laysRace_110_r23
          exact pc_bd1 pc_T (fun r _ => pc_ite (fun _ => pc_some ⟨nx, hw⟩) (fun _ => pc_ite (fun _ => pc_some ⟨nx, hw⟩) (fun _ => pc_some ⟨nx, hw⟩)))
        unfold J_X8_laysRace_109_r23
        exact pc_ite (fun _ => J _ _ _ _ _ hF2) (fun _ => pc_bd1 pc_T (fun r3 _ => pc_ite (fun _ => J _ _ _ _ _ hF2) (fun _ => J _ _ _ _ _ hF2)))
      · have hw : F84 w g := hw
        unfold J_X8_laysRace_143
        rw [m_bring hK hw, xb1, xb1]
        exact pc_ite (fun _ => pc_some rfl) (fun _ => pc_some rfl)
    · have hw : a = g := hw
      exact pc_ite (fun _ => pc_some hw) (fun _ => pc_some hw)
end
-- 83c.33
section
/-! Stage B, 33: races, in both -/
/-- the row in turn t + 1, where the first j have moved -/
def RcW (n t j : Nat) (x y : Int32) (g w : Nat → Int32) : Prop := (∀ k, 16 ≤ k → w k = g k) ∧ ∀ i, i < n → (g (76 + i) = 1 → w (0 + i) = g (0 + i) ∧ w (8 + i) = g (8 + i)) ∧ (¬ g (76 + i) = 1 → w (0 + i) = g (0 + i) + nI (if i < j then t + 1 else t) * x ∧ w (8 + i) = g (8 + i) + nI (if i < j then t + 1 else t) * y)
theorem RcW.nxt {n t : Nat} {x y : Int32} {g w : Nat → Int32} (h : RcW n t n x y g w) : RcW n (t + 1) 0 x y g w := by
  refine ⟨h.1, fun i hi => ⟨(h.2 i hi).1, fun c => ?_⟩⟩
  have := (h.2 i hi).2 c
  rw [if_pos hi] at this
  rw [if_neg (Nat.not_lt_zero _)]
  exact this
theorem RcW.frz {n t j : Nat} {x y : Int32} {g w : Nat → Int32} (h : RcW n t j x y g w) (c : g (76 + j) = 1) : RcW n t (j + 1) x y g w := by
  refine ⟨h.1, fun i hi => ⟨(h.2 i hi).1, fun d => ?_⟩⟩
  have ne : ¬ i = j := fun e => d (by rw [e]; exact c)
  have := (h.2 i hi).2 d
  by_cases q : i < j
  · rw [if_pos q] at this
    rw [if_pos (by omega)]
    exact this
  · rw [if_neg q] at this
    rw [if_neg (by omega)]
    exact this
theorem RcW.mv {n t j : Nat} {x y : Int32} {g w : Nat → Int32} (n8 : n ≤ 8) (hj : j < n) (h : RcW n t j x y g w) (c : ¬ g (76 + j) = 1) : RcW n t (j + 1) x y g (mvG j x y w) ∧ mvG j x y w (0 + j) = g (0 + j) + nI (t + 1) * x ∧ mvG j x y w (8 + j) = g (8 + j) + nI (t + 1) * y := by
  have q := (h.2 j hj).2 c
  rw [if_neg (Nat.lt_irrefl _)] at q
  have e0 : mvG j x y w (0 + j) = g (0 + j) + nI (t + 1) * x := by
    unfold mvG
    rw [upd_ne (by omega), upd_at, q.1, ml_st]
  have e8 : mvG j x y w (8 + j) = g (8 + j) + nI (t + 1) * y := by
    unfold mvG
    rw [upd_at, upd_ne (by omega), q.2, ml_st]
  have eo : ∀ k, ¬ k = 0 + j → ¬ k = 8 + j → mvG j x y w k = w k := fun k a b => by
    unfold mvG
    rw [upd_ne b, upd_ne a]
  refine ⟨⟨fun k hk => (eo k (by omega) (by omega)).trans (h.1 k hk), fun i hi => ?_⟩, e0, e8⟩
  by_cases e : i = j
  · rw [e, if_pos (Nat.lt_succ_self _)]
    exact ⟨fun d => absurd d c, fun _ => ⟨e0, e8⟩⟩
  · rw [eo (0 + i) (by omega) (by omega), eo (8 + i) (by omega) (by omega)]
    have r := h.2 i hi
    by_cases q : i < j
    · rw [if_pos q] at r
      rw [if_pos (by omega)]
      exact r
    · rw [if_neg q] at r
      rw [if_neg (by omega)]
      exact r
/-- the reference's body -/
abbrev rcD (K n : Nat) (x y : Int32) : Int32 × Int32 × Int32 × (Nat → Int32) × Int32 → Option ((Int32 × Int32 × Int32 × (Nat → Int32) × Int32) ⊕ (Int32 × (Nat → Int32) × Int32)) := fun u9 => B_X8_laysRace_22 K x y (nI n) u9.1 u9.2.1 u9.2.2.1 u9.2.2.2.1 u9.2.2.2.2
theorem m_rcB {n t j K mv : Nat} {f g w : Nat → Int32} {x y : Int32} (hK : 200000 ≤ K) (h : RowR n f g) (hg : RowG g) (hj : j < n) (ht : t < 200) (q : RcW n t j x y g w) : B_X8_laysRace_22 K x y (nI n) 1 (nI mv) (nI (t * n + j)) w (-1) = if g (76 + j) = 1 then some (.inl (1, nI mv, nI (t * n + j + 1), w, -1)) else some (.inl (if inR (g (0 + j) + nI (t + 1) * x) ∧ inR (g (8 + j) + nI (t + 1) * y) then (if qvl f (cdr f j 0 + nI (t + 1) * x) (cdr f j 1 + nI (t + 1) * y) = 0 then (0, nI (mv + 1), nI (t * n + j + 1), mvG j x y w, nI j) else (1, nI (mv + 1), nI (t * n + j + 1), mvG j x y w, -1)) else (0, nI (mv + 1), nI (t * n + j + 1), mvG j x y w, -1))) := by
  have n8 := h.n8
  have tn : t * n ≤ 199 * n := Nat.mul_le_mul_right n (by omega)
  have tn2 : t * n ≤ 199 * 8 := Nat.le_trans tn (Nat.mul_le_mul_left 199 n8)
  have e2 : (200 : Int32) * nI n = nI (200 * n) := by rw [show (200 : Int32) = nI 200 from rfl, nI_mul]
  have md : (t * n + j) % n = j := by rw [Nat.mul_add_mod', Nat.mod_eq_of_lt hj]
  have ix : nI (t * n + j) - nI (t * n + j) / nI n * nI n = nI j := by rw [nI_mod (by omega) (by omega), md]
  have nz : ¬ nI n = (0 : Int32) := nI_ne0 (by omega) (by omega)
  have w76 : w (76 + j) = g (76 + j) := q.1 _ (by omega)
  unfold B_X8_laysRace_22
  rw [e2, if_neg (mt (nI_leI (a := 200 * n) (b := t * n + j) (by omega) (by omega)).mp (by omega)), if_neg n10, xnz nz, ix, fz_m (by omega), xb1, ite10, w76, nI_1]
  by_cases c : g (76 + j) = 1
  · rw [if_pos c, if_pos c]
  · rw [if_neg c, if_neg c]
    obtain ⟨q2, m0, m8⟩ := q.mv n8 hj c
    simp only [bm_ix (A := (0 : Int32)) (a := 0) rfl (show 0 + j < 265 by omega), bm_ix (A := (8 : Int32)) (a := 8) rfl (show 8 + j < 265 by omega), bm_cl (A := (0 : Int32)) (a := 0) rfl (show 0 + j < 265 by omega), bm_cl (A := (8 : Int32)) (a := 8) rfl (show 8 + j < 265 by omega), xnm]
    show bd1 (F_X8_canStand (nI j) (mvG j x y w)) (fun r_16 => if r_16 = (0 : Int32) then J_X8_laysRace_109_r23 (nI mv + (1 : Int32)) (nI (t * n + j)) (nI j) (mvG j x y w) (-1) else bd1 (F_X8_isQuiet K (nI j) (mvG j x y w) (nI n)) (fun r_25 => if r_25 = (0 : Int32) then J_X8_laysRace_109_r23 (nI mv + (1 : Int32)) (nI (t * n + j)) (nI j) (mvG j x y w) (-1) else J_X8_laysRace_110_r23 (1 : Int32) (nI mv + (1 : Int32)) (nI (t * n + j)) (nI j) (mvG j x y w) (-1))) = _
    unfold J_X8_laysRace_109_r23 J_X8_laysRace_110_r23
    rw [m_stand (by omega), xb1, ite10, m0, m8, iq_sh hK h hg hj q2.1 m0 m8, xb1, nI_1, nI_1]
    simp only [xb1, ite10]
    by_cases d : inR (g (0 + j) + nI (t + 1) * x) ∧ inR (g (8 + j) + nI (t + 1) * y)
    · simp only [if_pos d]
      by_cases e : qvl f (cdr f j 0 + nI (t + 1) * x) (cdr f j 1 + nI (t + 1) * y) = 0
      · rw [if_pos e, if_pos e, if_pos trivial]
      · rw [if_neg e, if_neg e, if_neg n10]
    · simp only [if_neg d]
theorem c_rcB {n t j mv : Nat} {f g : Nat → Int32} {x y : Int32} (h : RowR n f g) (hI : RowI n g) (hj : j < n) (ht : t < 200) (hx : in9 x) (hy : in9 y) : B_X7_race_46 x y f (nI (t + 1)) (nI mv) (nI j) = if g (76 + j) = 1 then some (.inl (nI mv, nI (j + 1))) else if inR (g (0 + j) + nI (t + 1) * x) ∧ inR (g (8 + j) + nI (t + 1) * y) then (if qvl f (cdr f j 0 + nI (t + 1) * x) (cdr f j 1 + nI (t + 1) * y) = 0 then some (.inr (1, nI (mv + 1), nI j)) else some (.inl (nI (mv + 1), nI (j + 1)))) else some (.inr (0, nI mv, nI j)) := by
  have n8 := h.n8
  have hX := (hI.2 (by omega)).1 j hj
  obtain ⟨-, r1, r2⟩ := ml_rng (m := t + 1) (by omega) hx
  obtain ⟨-, r3, r4⟩ := ml_rng (m := t + 1) (by omega) hy
  have k1 := inR_add hX.1 ⟨r1, r2⟩
  have k2 := inR_add hX.2 ⟨r3, r4⟩
  have l3 := inR_int hX.1
  have l4 := inR_int hX.2
  unfold B_X7_race_46 F_X5_sites
  rw [xb1, h.sz, if_neg (mt (nI_leI (a := n) (b := j) (by omega) (by omega)).mp (by omega)), fz_c h.1 hj, xb1, ite10, c_room h hj (by omega) (by omega), xb1, ite10, c_qw n8 hj, xb1, nI_1, nI_1]
/-- how a race ends: nobody, or one with so many moves -/
def RcE (g : Nat → Int32) (tg : Nat) (a b : Int32) (u : Int32 × (Nat → Int32) × Int32) : Prop := (∀ k, 84 ≤ k → u.2.1 k = g k) ∧ ((tg = 0 ∧ u.2.2 = -1) ∨ (tg = 1 ∧ u.2.2 = b ∧ u.1 = a ∧ ¬ b = -1))
theorem rc_in {n t K : Nat} {f g : Nat → Int32} {x y : Int32} (hK : 200000 ≤ K) (h : RowR n f g) (hI : RowI n g) (ht : t < 200) (hx : in9 x) (hy : in9 y) : ∀ (k j mv : Nat) (w : Nat → Int32), j + k = n → RcW n t j x y g w → (∃ mv' w', (∀ J, k < J → lpF (fun u9 : Int32 × Int32 => B_X7_race_46 x y f (nI (t + 1)) u9.1 u9.2) J (nI mv, nI j) = some (2, nI mv', nI n)) ∧ (∀ J, lpF (rcD K n x y) (k + J) (1, nI mv, nI (t * n + j), w, -1) = lpF (rcD K n x y) J (1, nI mv', nI (t * n + n), w', -1)) ∧ RcW n t n x y g w') ∨ (∃ tg a b u, (∀ J, k < J → lpF (fun u9 : Int32 × Int32 => B_X7_race_46 x y f (nI (t + 1)) u9.1 u9.2) J (nI mv, nI j) = some (tg, a, b)) ∧ (∀ J, 2 ≤ J → lpF (rcD K n x y) (k + J) (1, nI mv, nI (t * n + j), w, -1) = some u) ∧ RcE g tg a b u) := by
  have n8 := h.n8
  intro k
  induction k with
  | zero =>
    intro j mv w hj q
    obtain rfl : n = j := by omega
    refine Or.inl ⟨mv, w, fun J hJ => ?_, fun J => by rw [Nat.zero_add], q⟩
    obtain ⟨J2, rfl⟩ : ∃ J2, J = J2 + 1 := ⟨J - 1, by omega⟩
    refine lp_end ?_
    show B_X7_race_46 x y f (nI (t + 1)) (nI mv) (nI n) = _
    unfold B_X7_race_46 F_X5_sites
    rw [xb1, h.sz, if_pos ((nI_leI (a := n) (b := n) (by omega) (by omega)).mpr (Nat.le_refl _))]
  | succ k ih =>
    intro j mv w hj q
    have jn : j < n := by omega
    have C := c_rcB (mv := mv) h hI jn ht hx hy
    have M := m_rcB (mv := mv) hK h hI.1 jn ht q
    have go : ∀ (mv1 : Nat) (w1 : Nat → Int32), B_X7_race_46 x y f (nI (t + 1)) (nI mv) (nI j) = some (.inl (nI mv1, nI (j + 1))) → B_X8_laysRace_22 K x y (nI n) 1 (nI mv) (nI (t * n + j)) w (-1) = some (.inl (1, nI mv1, nI (t * n + j + 1), w1, -1)) → RcW n t (j + 1) x y g w1 → (∃ mv' w', (∀ J, k + 1 < J → lpF (fun u9 : Int32 × Int32 => B_X7_race_46 x y f (nI (t + 1)) u9.1 u9.2) J (nI mv, nI j) = some (2, nI mv', nI n)) ∧ (∀ J, lpF (rcD K n x y) (k + 1 + J) (1, nI mv, nI (t * n + j), w, -1) = lpF (rcD K n x y) J (1, nI mv', nI (t * n + n), w', -1)) ∧ RcW n t n x y g w') ∨ (∃ tg a b u, (∀ J, k + 1 < J → lpF (fun u9 : Int32 × Int32 => B_X7_race_46 x y f (nI (t + 1)) u9.1 u9.2) J (nI mv, nI j) = some (tg, a, b)) ∧ (∀ J, 2 ≤ J → lpF (rcD K n x y) (k + 1 + J) (1, nI mv, nI (t * n + j), w, -1) = some u) ∧ RcE g tg a b u) := by
      intro mv1 w1 e1 e2 q1
      have s1 : ∀ J, k + 1 < J → lpF (fun u9 : Int32 × Int32 => B_X7_race_46 x y f (nI (t + 1)) u9.1 u9.2) J (nI mv, nI j) = lpF (fun u9 : Int32 × Int32 => B_X7_race_46 x y f (nI (t + 1)) u9.1 u9.2) (J - 1) (nI mv1, nI (j + 1)) := fun J hJ => by
        obtain ⟨J2, rfl⟩ : ∃ J2, J = J2 + 1 := ⟨J - 1, by omega⟩
        rw [lp_one (u' := (nI mv1, nI (j + 1))) e1]
        rfl
      have s2 : ∀ J, lpF (rcD K n x y) (k + 1 + J) (1, nI mv, nI (t * n + j), w, -1) = lpF (rcD K n x y) (k + J) (1, nI mv1, nI (t * n + (j + 1)), w1, -1) := fun J => by
        rw [show k + 1 + J = (k + J) + 1 by omega, lp_one (u' := (1, nI mv1, nI (t * n + j + 1), w1, -1)) e2, Nat.add_assoc]
      rcases ih (j + 1) mv1 w1 (by omega) q1 with ⟨mv', w', a1, a2, a3⟩ | ⟨tg, a, b, u, a1, a2, a3⟩
      · exact Or.inl ⟨mv', w', fun J hJ => (s1 J hJ).trans (a1 _ (by omega)), fun J => (s2 J).trans (a2 J), a3⟩
      · exact Or.inr ⟨tg, a, b, u, fun J hJ => (s1 J hJ).trans (a1 _ (by omega)), fun J hJ => (s2 J).trans (a2 J hJ), a3⟩
    have stop : ∀ (mv1 : Nat) (w1 : Nat → Int32) (rc : Int32) (tg : Nat) (a b : Int32), B_X7_race_46 x y f (nI (t + 1)) (nI mv) (nI j) = some (.inr (tg, a, b)) → B_X8_laysRace_22 K x y (nI n) 1 (nI mv) (nI (t * n + j)) w (-1) = some (.inl (0, nI mv1, nI (t * n + j + 1), w1, rc)) → RcE g tg a b (nI mv1, w1, rc) → (∃ tg a b u, (∀ J, k + 1 < J → lpF (fun u9 : Int32 × Int32 => B_X7_race_46 x y f (nI (t + 1)) u9.1 u9.2) J (nI mv, nI j) = some (tg, a, b)) ∧ (∀ J, 2 ≤ J → lpF (rcD K n x y) (k + 1 + J) (1, nI mv, nI (t * n + j), w, -1) = some u) ∧ RcE g tg a b u) := by
      intro mv1 w1 rc tg a b e1 e2 q1
      refine ⟨tg, a, b, (nI mv1, w1, rc), fun J hJ => ?_, fun J hJ => ?_, q1⟩
      · obtain ⟨J2, rfl⟩ : ∃ J2, J = J2 + 1 := ⟨J - 1, by omega⟩
        exact lp_end e1
      · obtain ⟨J2, hJ2⟩ : ∃ J2, k + 1 + J = J2 + 1 + 1 := ⟨k + J - 1, by omega⟩
        rw [hJ2, lp_one (u' := (0, nI mv1, nI (t * n + j + 1), w1, rc)) e2]
        refine lp_end ?_
        show B_X8_laysRace_22 K x y (nI n) 0 (nI mv1) (nI (t * n + j + 1)) w1 rc = _
        unfold B_X8_laysRace_22
        by_cases z : (200 : Int32) * nI n ≤ nI (t * n + j + 1)
        · rw [if_pos z]
        · rw [if_neg z, if_pos rfl]
    by_cases c : g (76 + j) = 1
    · rw [if_pos c] at C M
      exact go mv w C M (q.frz c)
    · rw [if_neg c] at C M
      obtain ⟨q2, m0, m8⟩ := q.mv n8 jn c
      by_cases d : inR (g (0 + j) + nI (t + 1) * x) ∧ inR (g (8 + j) + nI (t + 1) * y)
      · rw [if_pos d] at C M
        by_cases e : qvl f (cdr f j 0 + nI (t + 1) * x) (cdr f j 1 + nI (t + 1) * y) = 0
        · rw [if_pos e] at C M
          exact Or.inr (stop _ _ _ _ _ _ C M ⟨fun k hk => q2.1 k (by omega), Or.inr ⟨rfl, rfl, rfl, nI_ne_m1 (by omega)⟩⟩)
        · rw [if_neg e] at C M
          exact go (mv + 1) _ C M q2
      · rw [if_neg d] at C M
        exact Or.inr (stop _ _ _ _ _ _ C M ⟨fun k hk => q2.1 k (by omega), Or.inl ⟨rfl, rfl⟩⟩)
/-- how the whole race ends -/
def RcF (g : Nat → Int32) (r : Nat × Int32 × Int32) (u : Int32 × (Nat → Int32) × Int32) : Prop := (∀ k, 84 ≤ k → u.2.1 k = g k) ∧ (((r.1 = 0 ∨ r.1 = 2) ∧ u.2.2 = -1) ∨ (r.1 = 1 ∧ u.2.2 = r.2.2 ∧ u.1 = r.2.1 ∧ ¬ u.2.2 = -1))
theorem rc_out {n K : Nat} {f g : Nat → Int32} {x y : Int32} (hK : 200000 ≤ K) (h : RowR n f g) (hI : RowI n g) (h0 : 0 < n) (hx : in9 x) (hy : in9 y) : ∀ (k t mv : Nat) (w : Nat → Int32), t + k = 200 → RcW n t 0 x y g w → ∃ r u, (∀ J, k < J → lpF (fun u9 : Int32 × Int32 => B_X7_race_35 K x y f u9.1 u9.2) J (nI mv, nI (t + 1)) = some r) ∧ (∀ J, 2 ≤ J → lpF (rcD K n x y) (k * n + J) (1, nI mv, nI (t * n), w, -1) = some u) ∧ RcF g r u := by
  have n8 := h.n8
  intro k
  induction k with
  | zero =>
    intro t mv w ht q
    refine ⟨(2, nI mv, 0), (nI mv, w, -1), fun J hJ => ?_, fun J hJ => ?_, fun k hk => q.1 k (by omega), Or.inl ⟨Or.inr rfl, rfl⟩⟩
    · obtain ⟨J2, rfl⟩ : ∃ J2, J = J2 + 1 := ⟨J - 1, by omega⟩
      refine lp_end ?_
      show B_X7_race_35 K x y f (nI mv) (nI (t + 1)) = _
      unfold B_X7_race_35
      rw [if_pos (show (200 : Int32) < nI (t + 1) from (nI_ltI (a := 200) (b := t + 1) (by omega) (by omega)).mpr (by omega))]
    · obtain ⟨J2, hJ2⟩ : ∃ J2, 0 * n + J = J2 + 1 := ⟨J - 1, by omega⟩
      rw [hJ2]
      refine lp_end ?_
      show B_X8_laysRace_22 K x y (nI n) 1 (nI mv) (nI (t * n)) w (-1) = _
      unfold B_X8_laysRace_22
      rw [show (200 : Int32) * nI n = nI (200 * n) by rw [show (200 : Int32) = nI 200 from rfl, nI_mul], show t = 200 by omega, if_pos ((nI_leI (a := 200 * n) (b := 200 * n) (by omega) (by omega)).mpr (Nat.le_refl _))]
  | succ k ih =>
    intro t mv w ht q
    have kn : (k + 1) * n = n + k * n := by rw [Nat.add_mul, Nat.one_mul, Nat.add_comm]
    have c1 : ¬ (200 : Int32) < nI (t + 1) := mt (nI_ltI (a := 200) (b := t + 1) (by omega) (by omega)).mp (by omega)
    rcases rc_in hK h hI (show t < 200 by omega) hx hy n 0 mv w (by omega) q with ⟨mv', w', a1, a2, a3⟩ | ⟨tg, a, b, u, a1, a2, fr, a3⟩
    · obtain ⟨r, u, b1, b2, b3⟩ := ih (t + 1) mv' w' (by omega) a3.nxt
      refine ⟨r, u, fun J hJ => ?_, fun J hJ => ?_, b3⟩
      · obtain ⟨J2, rfl⟩ : ∃ J2, J = J2 + 1 := ⟨J - 1, by omega⟩
        rw [lp_one (u' := (nI mv', nI (t + 1 + 1))) (show (fun u9 : Int32 × Int32 => B_X7_race_35 K x y f u9.1 u9.2) (nI mv, nI (t + 1)) = _ by
          show B_X7_race_35 K x y f (nI mv) (nI (t + 1)) = _
          unfold B_X7_race_35
          rw [if_neg c1, show ((nI mv, (0 : Int32)) : Int32 × Int32) = (nI mv, nI 0) from rfl, a1 K (by omega), xb3, if_neg (by decide), if_neg (by decide), if_pos rfl, nI_1])]
        exact b1 J2 (by omega)
      · have z := a2 (k * n + J)
        rw [Nat.add_zero, show t * n + n = (t + 1) * n by rw [Nat.add_mul, Nat.one_mul]] at z
        rw [kn, Nat.add_assoc, z]
        exact b2 J hJ
    · have hz := a2 (k * n + 2) (by omega)
      refine ⟨(tg, (if tg = 0 then 0 else a), (if tg = 0 then 0 else b)), u, fun J hJ => ?_, fun J hJ => ?_, fr, ?_⟩
      · obtain ⟨J2, rfl⟩ : ∃ J2, J = J2 + 1 := ⟨J - 1, by omega⟩
        refine lp_end ?_
        show B_X7_race_35 K x y f (nI mv) (nI (t + 1)) = _
        unfold B_X7_race_35
        rw [if_neg c1, show ((nI mv, (0 : Int32)) : Int32 × Int32) = (nI mv, nI 0) from rfl, a1 K (by omega), xb3]
        rcases a3 with ⟨e, -⟩ | ⟨e, -⟩
        · rw [e, if_pos rfl, if_pos rfl, if_pos rfl]
        · rw [e, if_neg (by decide), if_pos rfl, if_neg (by decide), if_neg (by decide)]
      · have z := a2 (k * n + J) (by omega)
        rw [Nat.add_zero] at z
        rw [kn, Nat.add_assoc]
        exact z
      · rcases a3 with ⟨e, e2⟩ | ⟨e, e2, e3, e4⟩
        · exact Or.inl ⟨Or.inl e, e2⟩
        · refine Or.inr ⟨e, ?_, ?_, by rw [e2]; exact e4⟩
          · show u.2.2 = if tg = 0 then 0 else b
            rw [e, if_neg (by decide), e2]
          · show u.1 = if tg = 0 then 0 else a
            rw [e, if_neg (by decide), e3]
/-- a race -/
theorem p_race {n K : Nat} {f g asd : Nat → Int32} {x y z rc rd : Int32} (hK : 200000 ≤ K) (h : RowR n f g) (hI : RowI n g) : ∃ (v rc' rd' : Int32) (asd' : Nat → Int32), F_X7_race K x y z f = some v ∧ F_X8_race K x y z g (nI n) asd rc rd = some (v, g, asd', rc', rd') := by
  have n8 := h.n8
  obtain ⟨s1, s2⟩ := sd_both n8 h.sz
  unfold F_X7_race F_X8_race
  by_cases e : n = 0
  · rw [s1, s2, if_pos e, xb1, xb1, if_pos rfl, if_pos rfl]
    exact ⟨_, _, _, _, rfl, rfl⟩
  · rw [s1, s2, if_neg e, xb1, xb1, if_neg n10, if_neg n10, c_way, m_way, xb1, xb1, ite10, ite10, m_in0 (m := 1) (by decide), xb1, ite10, rng_d]
    by_cases a : (in9 x ∧ in9 y) ∧ ¬ (x = 0 ∧ y = 0)
    · rw [if_pos a, if_pos a]
      by_cases d : 0 ≤ z ∧ z ≤ nI 1
      · rw [if_pos (show 0 ≤ z ∧ z ≤ (1 : Int32) from d), if_pos d]
        have q0 : RcW n 0 0 x y g g := ⟨fun _ _ => rfl, fun i hi => ⟨fun _ => ⟨rfl, rfl⟩, fun _ => by rw [if_neg (Nat.not_lt_zero _), show nI 0 = (0 : Int32) from rfl, Int32.zero_mul, Int32.zero_mul, Int32.add_zero, Int32.add_zero]; exact ⟨rfl, rfl⟩⟩⟩
        obtain ⟨⟨tg, va, vb⟩, ⟨u1, w, u2⟩, l1, l2, fr, hQ⟩ := rc_out hK h hI (by omega) a.1.1 a.1.2 200 0 0 g (by omega) q0
        have l1 := l1 K (by omega)
        have l2 := l2 (K - 200 * n) (by omega)
        rw [show 200 * n + (K - 200 * n) = K by omega, Nat.zero_mul] at l2
        have fr : ∀ k, 84 ≤ k → w k = g k := fr
        have l1 : lpF (fun u9 : Int32 × Int32 => B_X7_race_35 K x y f u9.1 u9.2) K ((0 : Int32), (1 : Int32)) = some (tg, va, vb) := l1
        have l2 : lpF (fun u9 : Int32 × Int32 × Int32 × (Nat → Int32) × Int32 => B_X8_laysRace_22 K x y (nI n) u9.1 u9.2.1 u9.2.2.1 u9.2.2.2.1 u9.2.2.2.2) K ((1 : Int32), (0 : Int32), (0 : Int32), g, (-1 : Int32)) = some (u1, w, u2) := l2
        unfold F_X8_laysRace J_X8_laysRace_143
        rw [l1, xb3, m_aside hK, xb1, l2, xb3, m_bring hK fr, xb1, xb1]
        obtain ⟨b, hb, rfl⟩ := in_nat (n := 1) (by decide) d
        rcases hQ with ⟨e1, e2⟩ | ⟨e1, e2, e3, e4⟩
        · have e1 : tg = 0 ∨ tg = 2 := e1
          have e2 : u2 = -1 := e2
          rw [e2, if_pos rfl, xb4]
          have L : (if tg = 0 then some (-1 : Int32) else if tg = 1 then if nI b = (0 : Int32) then some vb else some va else if tg = 2 then some (-1 : Int32) else none) = some (-1) := by
            rcases e1 with e1 | e1
            · rw [e1, if_pos rfl]
            · rw [e1, if_neg (by decide), if_neg (by decide), if_pos rfl]
          rw [L]
          by_cases q : nI b = (0 : Int32)
          · rw [if_pos q]
            exact ⟨_, _, _, _, rfl, rfl⟩
          · rw [if_neg q]
            exact ⟨_, _, _, _, rfl, rfl⟩
        · have e1 : tg = 1 := e1
          have e2 : u2 = vb := e2
          have e3 : u1 = va := e3
          have e4 : ¬ u2 = -1 := e4
          rw [if_neg e4, xb4, e1, if_neg (by decide), if_pos rfl, e2, e3]
          by_cases q : nI b = (0 : Int32)
          · rw [if_pos q, if_pos q]
            exact ⟨_, _, _, _, rfl, rfl⟩
          · rw [if_neg q, if_neg q]
            exact ⟨_, _, _, _, rfl, rfl⟩
      · rw [if_neg (show ¬ (0 ≤ z ∧ z ≤ (1 : Int32)) from d), if_neg d]
        exact ⟨_, _, _, _, rfl, rfl⟩
    · rw [if_neg a, if_neg a]
      exact ⟨_, _, _, _, rfl, rfl⟩
end
-- 83c.34
section
/-! Stage B, 34: one after the other is added to a site, till the goal is reached -/
theorem gpx0 {σ ρ : Type} {b : σ → Option (σ ⊕ ρ)} {K : Nat} {u0 : σ} {r : ρ} (hK : 0 < K) (h0 : b u0 = some (.inr r)) : lpF b K u0 = some r := by
  obtain ⟨J, rfl⟩ : ∃ J, K = J + 1 := ⟨K - 1, by omega⟩
  exact lp_end h0
theorem gpx1 {σ ρ : Type} {b : σ → Option (σ ⊕ ρ)} {K : Nat} {u0 u1 : σ} {r : ρ} (hK : 1 < K) (h0 : b u0 = some (.inl u1)) (h1 : b u1 = some (.inr r)) : lpF b K u0 = some r := by
  obtain ⟨J, rfl⟩ : ∃ J, K = J + 1 + 1 := ⟨K - 2, by omega⟩
  exact (lp_one h0).trans (lp_end h1)
theorem sgm_at {g : Nat → Int32} {i : Nat} {d : Int32} : ∀ n, i < n → sgm (fun j => upd g (48 + i) (g (48 + i) + d) (48 + j)) n = sgm (fun j => g (48 + j)) n + d := by
  intro n
  induction n with
  | zero => exact fun h => absurd h (Nat.not_lt_zero _)
  | succ m ih =>
    intro hi
    show sgm (fun j => upd g (48 + i) (g (48 + i) + d) (48 + j)) m + upd g (48 + i) (g (48 + i) + d) (48 + m) = sgm (fun j => g (48 + j)) m + g (48 + m) + d
    by_cases e : i = m
    · subst e
      have E : sgm (fun j => upd g (48 + i) (g (48 + i) + d) (48 + j)) i = sgm (fun j => g (48 + j)) i := sgm_eq i (fun j hj => upd_ne (by omega))
      rw [upd_at, E]
      exact (Int32.add_assoc _ _ _).symm
    · rw [ih (by omega), upd_ne (show ¬ 48 + m = 48 + i by omega)]
      generalize sgm (fun j => g (48 + j)) m = S
      generalize g (48 + m) = x
      rw [Int32.add_assoc S d x, Int32.add_comm d x, Int32.add_assoc S x d]
/-- the counts of a row, as numbers: goal, known, signals, rest of site i, all counts; the rest as at first -/
def GD (n i G k s r T : Nat) (g0 g : Nat → Int32) : Prop := (∃ f, RowR n f g) ∧ g 66 = nI G ∧ g 73 = nI k ∧ g 75 = nI s ∧ g (56 + i) = nI r ∧ sgm (fun j => g (48 + j)) n = nI T ∧ ∀ j, 84 ≤ j → g j = g0 j
theorem GD.n8 {n i G k s r T : Nat} {g0 g : Nat → Int32} (h : GD n i G k s r T g0 g) : n ≤ 8 := by
  obtain ⟨⟨f, hR⟩, -⟩ := h
  exact hR.n8
theorem GD.stp {n i G k s r T : Nat} {g0 g : Nat → Int32} (h : GD n i G k s r T g0 g) (hG : G < 2 ^ 30) (hk : k < 2 ^ 30) : st n g = (G - k) / (2 * n) := by
  obtain ⟨-, e66, e73, -⟩ := h
  unfold st
  rw [e66, e73, pk_sub_toInt hG hk, show ((G : Int) - k).toNat = G - k by omega]
theorem GD.put {n i G k s r T : Nat} {g0 g : Nat → Int32} (h : GD n i G k s r T g0 g) (hi : i < n) : GD n i G k s r (T + 1) g0 (upd g (48 + i) (g (48 + i) + 1)) := by
  have n8 := h.n8
  obtain ⟨⟨f, hR⟩, e66, e73, e75, e56, eT, fr⟩ := h
  have R1 : RowR n (upd f (17 + 8 * i + 6) (g (48 + i) + 1)) (upd g (48 + i) (g (48 + i) + 1)) := hR.put (c := 6) hi (by decide) (by decide) (by decide) (g (48 + i) + 1)
  exact ⟨⟨_, R1⟩, (upd_ne (by omega)).trans e66, (upd_ne (by omega)).trans e73, (upd_ne (by omega)).trans e75, (upd_ne (by omega)).trans e56, (sgm_at n hi).trans (by rw [eT]; exact nI_1 T), fun j hj => (upd_ne (by omega)).trans (fr j hj)⟩
theorem GD.rest {n i G k s r T : Nat} {g0 g : Nat → Int32} (h : GD n i G k s r T g0 g) (hi : i < n) (q : Nat) : GD n i G k s q T g0 (upd g (56 + i) (nI q)) := by
  have n8 := h.n8
  obtain ⟨⟨f, hR⟩, e66, e73, e75, e56, eT, fr⟩ := h
  have R1 : RowR n (upd f (17 + 8 * i + 7) (nI q)) (upd g (56 + i) (nI q)) := hR.put (c := 7) hi (by decide) (by decide) (by decide) (nI q)
  exact ⟨⟨_, R1⟩, (upd_ne (by omega)).trans e66, (upd_ne (by omega)).trans e73, (upd_ne (by omega)).trans e75, upd_at, (sgm_eq n (fun j hj => upd_ne (by omega))).trans eT, fun j hj => (upd_ne (by omega)).trans (fr j hj)⟩
theorem GD.sig {n i G k s r T : Nat} {g0 g : Nat → Int32} (h : GD n i G k s r T g0 g) (hi : i < n) (q : Nat) : GD n i G k q r T g0 (upd g 75 (nI q)) := by
  have n8 := h.n8
  obtain ⟨⟨f, hR⟩, e66, e73, e75, e56, eT, fr⟩ := h
  have R1 : RowR n (upd f 9 (nI q)) (upd g 75 (nI q)) := hR.scal (by decide) (nI q)
  exact ⟨⟨_, R1⟩, (upd_ne (by omega)).trans e66, (upd_ne (by omega)).trans e73, upd_at, (upd_ne (by omega)).trans e56, (sgm_eq n (fun j hj => upd_ne (by omega))).trans eT, fun j hj => (upd_ne (by omega)).trans (fr j hj)⟩
theorem GD.known {n i G k s r T : Nat} {g0 g : Nat → Int32} (h : GD n i G k s r T g0 g) (hi : i < n) (q : Nat) : GD n i G q s r T g0 (upd g 73 (nI q)) := by
  have n8 := h.n8
  obtain ⟨⟨f, hR⟩, e66, e73, e75, e56, eT, fr⟩ := h
  have R1 : RowR n (upd f 8 (nI q)) (upd g 73 (nI q)) := hR.scal (by decide) (nI q)
  exact ⟨⟨_, R1⟩, (upd_ne (by omega)).trans e66, upd_at, (upd_ne (by omega)).trans e75, (upd_ne (by omega)).trans e56, (sgm_eq n (fun j hj => upd_ne (by omega))).trans eT, fun j hj => (upd_ne (by omega)).trans (fr j hj)⟩
theorem ad_zero {n i G k s r T K : Nat} {g0 g : Nat → Int32} (h : GD n i G k s r T g0 g) (hi : i < n) (hG : G < 2 ^ 30) (hk : k < 2 ^ 30) (hz : (G - k) / (2 * n) = 0) : ∃ g', F_X8_addsNow K (nI i) 1 g (nI n) = some (nI 1, g') ∧ GD n i G (k + 1) s r (T + 1) g0 g' := by
  have n8 := h.n8
  have h1 := h.put hi
  unfold F_X8_addsNow
  rw [bm_ix (a := 48) (by rfl) (by omega), bm_ix (a := 48) (by rfl) (by omega), bm_cl (a := 48) (by rfl) (by omega)]
  simp only [xnm]
  generalize upd g (48 + i) (g (48 + i) + 1) = g1 at h1 ⊢
  have e73 : g1 73 = nI k := h1.2.2.1
  rw [m_step (by omega) n8, xb1, h1.stp hG hk, hz, if_pos (show nI 0 = (0 : Int32) from rfl), e73, nI_1]
  exact ⟨_, rfl, h1.known hi (k + 1)⟩
theorem ad_pre {n i G k s r T K : Nat} {g0 g : Nat → Int32} (h : GD n i G k s r T g0 g) (hi : i < n) (hG : G < 2 ^ 30) (hk : k < 2 ^ 30) (hz : 0 < (G - k) / (2 * n)) : ∃ g2, F_X8_addsNow K (nI i) 1 g (nI n) = bd2 (lpF (fun u9 : Int32 × (Nat → Int32) => B_X8_addsNow_48 K (nI i) (nI n) u9.1 u9.2) K ((0 : Int32), g2)) (fun a b => some (a, b)) ∧ GD n i G k s (r + 1) (T + 1) g0 g2 := by
  have n8 := h.n8
  have h1 := h.put hi
  have lt : (G - k) / (2 * n) < 2 ^ 30 := Nat.lt_of_le_of_lt (Nat.div_le_self _ _) (by omega)
  unfold F_X8_addsNow
  rw [bm_ix (a := 48) (by rfl) (by omega), bm_ix (a := 48) (by rfl) (by omega), bm_cl (a := 48) (by rfl) (by omega)]
  simp only [xnm]
  generalize upd g (48 + i) (g (48 + i) + 1) = g1 at h1 ⊢
  have e56 : g1 (56 + i) = nI r := h1.2.2.2.2.1
  have nz : ¬ nI ((G - k) / (2 * n)) = (0 : Int32) := fun e => by
    have := (nI_eq (a := (G - k) / (2 * n)) (b := 0) (by omega) (by omega)).mp e
    omega
  rw [m_step (by omega) n8, xb1, h1.stp hG hk, if_neg nz, bm_ix (a := 56) (by rfl) (by omega), bm_ix (a := 56) (by rfl) (by omega), bm_cl (a := 56) (by rfl) (by omega), e56, nI_1]
  exact ⟨_, rfl, h1.rest hi (r + 1)⟩
theorem b48_stop {n i G k s r T K : Nat} {x : Int32} {g0 g : Nat → Int32} (h : GD n i G k s r T g0 g) (hi : i < n) (hG : G < 2 ^ 30) (hk : k < 2 ^ 30) (hr : r < (G - k) / (2 * n) ∨ (G - k) / (2 * n) = 0) : B_X8_addsNow_48 K (nI i) (nI n) x g = some (.inr (x, g)) := by
  have n8 := h.n8
  have lt : (G - k) / (2 * n) < 2 ^ 30 := Nat.lt_of_le_of_lt (Nat.div_le_self _ _) (by omega)
  have es : F_X8_step g (nI n) = some (nI ((G - k) / (2 * n))) := by rw [m_step (by omega) n8, h.stp hG hk]
  have e56 : g (56 + i) = nI r := h.2.2.2.2.1
  unfold B_X8_addsNow_48
  simp only [es, xb1, bm_ix (A := (56 : Int32)) (a := 56) rfl (show 56 + i < 265 by omega), bm_cl (A := (56 : Int32)) (a := 56) rfl (show 56 + i < 265 by omega)]
  by_cases z : (G - k) / (2 * n) = 0
  · rw [z, if_pos (show nI 0 ≤ (0 : Int32) by decide)]
  · rw [if_neg (show ¬ nI ((G - k) / (2 * n)) ≤ (0 : Int32) from mt (nI_leI (a := (G - k) / (2 * n)) (b := 0) (by omega) (by omega)).mp (by omega)), e56, if_pos ((nI_ltI (a := r) (b := (G - k) / (2 * n)) (by omega) (by omega)).mpr (by omega))]
theorem b48_go {n i G k s T S K : Nat} {x : Int32} {g0 g : Nat → Int32} (h : GD n i G k s S T g0 g) (hi : i < n) (hG : G < 2 ^ 30) (hk : k < 2 ^ 30) (eS : (G - k) / (2 * n) = S) (hS : 0 < S) : B_X8_addsNow_48 K (nI i) (nI n) x g = if (upd (upd g (56 + i) (nI 0)) 75 (nI (s + 1))) 75 = nI n then bd1 (F_X8_endsRound K (upd (upd g (56 + i) (nI 0)) 75 (nI (s + 1))) (nI n)) (fun w => some (.inl (x + (1 : Int32) + (2 : Int32) * nI n, w))) else some (.inl (x + (1 : Int32), upd (upd g (56 + i) (nI 0)) 75 (nI (s + 1)))) := by
  have n8 := h.n8
  have lt : S < 2 ^ 30 := by rw [← eS]; exact Nat.lt_of_le_of_lt (Nat.div_le_self _ _) (by omega)
  have es : F_X8_step g (nI n) = some (nI S) := by rw [m_step (by omega) n8, h.stp hG hk, eS]
  have e56 : g (56 + i) = nI S := h.2.2.2.2.1
  have e75 : g 75 = nI s := h.2.2.2.1
  unfold B_X8_addsNow_48
  simp only [es, xb1, bm_ix (A := (56 : Int32)) (a := 56) rfl (show 56 + i < 265 by omega), bm_cl (A := (56 : Int32)) (a := 56) rfl (show 56 + i < 265 by omega), xnm]
  rw [if_neg (show ¬ nI S ≤ (0 : Int32) from mt (nI_leI (a := S) (b := 0) (by omega) (by omega)).mp (by omega)), e56, if_neg (show ¬ nI S < nI S from mt (nI_ltI (a := S) (b := S) (by omega) (by omega)).mp (by omega)), xsub (Nat.le_refl S), Nat.sub_self, show (upd g (56 + i) (nI 0)) 75 = nI s from (upd_ne (by omega)).trans e75, nI_1]
/-- one more, no signal yet -/
theorem ad_more {n i G k s r T K : Nat} {g0 g : Nat → Int32} (hK : 200000 ≤ K) (h : GD n i G k s r T g0 g) (hi : i < n) (hG : G < 2 ^ 30) (hk : k < 2 ^ 30) (hr : r + 1 < (G - k) / (2 * n)) : ∃ g', F_X8_addsNow K (nI i) 1 g (nI n) = some (nI 0, g') ∧ GD n i G k s (r + 1) (T + 1) g0 g' := by
  obtain ⟨g2, e, h2⟩ := ad_pre (K := K) h hi hG hk (by omega)
  rw [e, gpx0 (by omega) (show (fun u9 : Int32 × (Nat → Int32) => B_X8_addsNow_48 K (nI i) (nI n) u9.1 u9.2) ((0 : Int32), g2) = some (.inr ((0 : Int32), g2)) from b48_stop h2 hi hG hk (Or.inl hr)), xb2]
  exact ⟨_, rfl, h2⟩
/-- one more, and a signal -/
theorem ad_one {n i G k s r T K : Nat} {g0 g : Nat → Int32} (hK : 200000 ≤ K) (h : GD n i G k s r T g0 g) (hi : i < n) (hG : G < 2 ^ 30) (hk : k < 2 ^ 30) (hr : r + 1 = (G - k) / (2 * n)) (hs : s + 1 < n) : ∃ g', F_X8_addsNow K (nI i) 1 g (nI n) = some (nI 1, g') ∧ GD n i G k (s + 1) 0 (T + 1) g0 g' := by
  have n8 := h.n8
  obtain ⟨g2, e, h2⟩ := ad_pre (K := K) h hi hG hk (by omega)
  have h3 := (h2.rest hi 0).sig hi (s + 1)
  have G0 := b48_go (K := K) (x := 0) h2 hi hG hk hr.symm (by omega)
  rw [upd_at, if_neg (show ¬ nI (s + 1) = nI n from fun q => by
    have := (nI_eq (a := s + 1) (b := n) (by omega) (by omega)).mp q
    omega)] at G0
  rw [e, gpx1 (by omega) (show (fun u9 : Int32 × (Nat → Int32) => B_X8_addsNow_48 K (nI i) (nI n) u9.1 u9.2) ((0 : Int32), g2) = _ from G0) (show (fun u9 : Int32 × (Nat → Int32) => B_X8_addsNow_48 K (nI i) (nI n) u9.1 u9.2) _ = _ from b48_stop h3 hi hG hk (Or.inl (by omega))), xb2]
  exact ⟨_, rfl, h3⟩
/-- one more, a signal, and the round ends -/
theorem ad_end {n i G k s r T K : Nat} {g0 g : Nat → Int32} (hK : 200000 ≤ K) (h : GD n i G k s r T g0 g) (hi : i < n) (hG : G < 2 ^ 30) (hk : k < 2 ^ 30) (hT : T + 1 < 2 ^ 30) (hr : r + 1 = (G - k) / (2 * n)) (hs : s + 1 = n) : ∃ g', F_X8_addsNow K (nI i) 1 g (nI n) = some (nI (1 + 2 * n), g') ∧ GD n i G (T + 1) 0 0 (T + 1) g0 g' := by
  have n8 := h.n8
  obtain ⟨g2, e, h2⟩ := ad_pre (K := K) h hi hG hk (by omega)
  have h3 := (h2.rest hi 0).sig hi (s + 1)
  have G0 := b48_go (K := K) (x := 0) h2 hi hG hk hr.symm (by omega)
  rw [upd_at, if_pos (show nI (s + 1) = nI n by rw [hs])] at G0
  generalize upd (upd g2 (56 + i) (nI 0)) 75 (nI (s + 1)) = g3 at G0 h3
  obtain ⟨⟨f3, R3⟩, e66, e73, e75, e56, eT, fr⟩ := h3
  obtain ⟨f4, g4, -, q2, R4, q4, q5, q6, q7⟩ := er_both hK R3
  have h4 : GD n i G (T + 1) 0 0 (T + 1) g0 g4 := ⟨⟨f4, R4⟩, (q4 66 (by omega) (by decide) (by decide) (by decide)).trans e66, q5.trans eT, q6, q7 i hi, (sgm_eq n (fun j hj => q4 (48 + j) (by omega) (by omega) (by omega) (by omega))).trans eT, fun j hj => (q4 j (by omega) (by omega) (by omega) (by omega)).trans (fr j hj)⟩
  rw [q2, xb1] at G0
  have hz : 0 < (G - (T + 1)) / (2 * n) ∨ (G - (T + 1)) / (2 * n) = 0 := (Nat.eq_zero_or_pos _).symm
  rw [e, gpx1 (by omega) (show (fun u9 : Int32 × (Nat → Int32) => B_X8_addsNow_48 K (nI i) (nI n) u9.1 u9.2) ((0 : Int32), g2) = _ from G0) (show (fun u9 : Int32 × (Nat → Int32) => B_X8_addsNow_48 K (nI i) (nI n) u9.1 u9.2) _ = _ from b48_stop h4 hi hG hT hz), xb2]
  refine ⟨g4, ?_, h4⟩
  rw [show (0 : Int32) + 1 = nI 1 from rfl, show (2 : Int32) = nI 2 from rfl, nI_mul, nI_add]
end
-- 83c.35
section
/-! Stage B, 35: goes, in both -/
theorem x_add {x : Int32} {a b : Nat} : x + nI a + nI b = x + nI (a + b) := by rw [Int32.add_assoc, nI_add]
theorem x_add0 {x : Int32} : x + nI 0 = x := by rw [show nI 0 = (0 : Int32) from rfl, Int32.add_zero]
/-- c times one is added, with m messages -/
def Gt (K n i c m : Nat) (g g' : Nat → Int32) : Prop := ∀ (x y : Int32) (J : Nat), lpF (fun u9 : Int32 × Int32 × (Nat → Int32) => B_X8_goes_36 K (nI i) (nI n) u9.1 u9.2.1 u9.2.2) (J + c) (x, y, g) = lpF (fun u9 : Int32 × Int32 × (Nat → Int32) => B_X8_goes_36 K (nI i) (nI n) u9.1 u9.2.1 u9.2.2) J (x + nI c, y + nI m, g')
theorem Gt.zero {K n i : Nat} {g : Nat → Int32} : Gt K n i 0 0 g g := fun x y J => by
  show lpF (fun u9 : Int32 × Int32 × (Nat → Int32) => B_X8_goes_36 K (nI i) (nI n) u9.1 u9.2.1 u9.2.2) J (x, y, g) = lpF (fun u9 : Int32 × Int32 × (Nat → Int32) => B_X8_goes_36 K (nI i) (nI n) u9.1 u9.2.1 u9.2.2) J (x + nI 0, y + nI 0, g)
  rw [x_add0, x_add0]
theorem Gt.trans {K n i c d m e : Nat} {g g' g2 : Nat → Int32} (h1 : Gt K n i c m g g') (h2 : Gt K n i d e g' g2) : Gt K n i (c + d) (m + e) g g2 := fun x y J => by
  rw [show J + (c + d) = J + d + c by omega, h1 x y (J + d), h2 _ _ J, x_add, x_add]
theorem Gt.one {K n i G k s r T m : Nat} {g0 g g' : Nat → Int32} (h : GD n i G k s r T g0 g) (hk : k < G) (hG : G < 2 ^ 30) (ha : F_X8_addsNow K (nI i) 1 g (nI n) = some (nI m, g')) : Gt K n i 1 m g g' := fun x y J => lp_one (by
  show B_X8_goes_36 K (nI i) (nI n) x y g = some (.inl (x + 1, y + nI m, g'))
  unfold B_X8_goes_36 F_X8_isReached
  rw [h.2.2.1, h.2.1, if_pos ((nI_ltI (a := k) (b := G) (by omega) (by omega)).mpr hk), xb1, if_pos rfl, ha, xb2])
theorem go_sig {n i G k s S K : Nat} {g0 : Nat → Int32} (hK : 200000 ≤ K) (hi : i < n) (hG : G ≤ 9999) (hk : k < G) (eS : (G - k) / (2 * n) = S) (hs : s < n) : ∀ d r T g, r + (d + 1) = S → T + (d + 1) < 2 ^ 30 → GD n i G k s r T g0 g → ∃ m k' s' g', Gt K n i (d + 1) m g g' ∧ GD n i G k' s' 0 (T + (d + 1)) g0 g' ∧ ((s + 1 < n ∧ m = 1 ∧ k' = k ∧ s' = s + 1) ∨ (s + 1 = n ∧ m = 1 + 2 * n ∧ k' = T + (d + 1) ∧ s' = 0)) := by
  intro d
  induction d with
  | zero =>
    intro r T g hr hT h
    rcases (show s + 1 < n ∨ s + 1 = n by omega) with c | c
    · obtain ⟨g', ha, h'⟩ := ad_one hK h hi (by omega) (by omega) (by omega) c
      exact ⟨1, k, s + 1, g', Gt.one h hk (by omega) ha, h', Or.inl ⟨c, rfl, rfl, rfl⟩⟩
    · obtain ⟨g', ha, h'⟩ := ad_end hK h hi (by omega) (by omega) (by omega) (by omega) c
      exact ⟨1 + 2 * n, T + 1, 0, g', Gt.one h hk (by omega) ha, h', Or.inr ⟨c, rfl, rfl, rfl⟩⟩
  | succ d ih =>
    intro r T g hr hT h
    obtain ⟨g1, ha, h1⟩ := ad_more hK h hi (by omega) (by omega) (by omega)
    obtain ⟨m, k', s', g', q1, q2, q3⟩ := ih (r + 1) (T + 1) g1 (by omega) (by omega) h1
    have q := (Gt.one h hk (by omega) ha).trans q1
    rw [show 1 + (d + 1) = d + 1 + 1 by omega, Nat.zero_add] at q
    rw [show T + 1 + (d + 1) = T + (d + 1 + 1) by omega] at q2 q3
    exact ⟨m, k', s', g', q, q2, q3⟩
theorem go_round {n i G k S K : Nat} {g0 : Nat → Int32} (hK : 200000 ≤ K) (hi : i < n) (hG : G ≤ 9999) (hk : k < G) (eS : (G - k) / (2 * n) = S) (hS : 0 < S) : ∀ e s r T g c, s + (e + 1) = n → r < S → c + r = (e + 1) * S → T + c < 2 ^ 30 → GD n i G k s r T g0 g → ∃ g', Gt K n i c (e + 1 + 2 * n) g g' ∧ GD n i G (T + c) 0 0 (T + c) g0 g' := by
  intro e
  induction e with
  | zero =>
    intro s r T g c hs hr hc hT h
    have e1 : (0 + 1) * S = S := by rw [Nat.zero_add, Nat.one_mul]
    rw [e1] at hc
    obtain ⟨d, rfl⟩ : ∃ d, c = d + 1 := ⟨c - 1, by omega⟩
    obtain ⟨m, k', s', g', q1, q2, q3⟩ := go_sig hK hi hG hk eS (by omega) d r T g (by omega) hT h
    rcases q3 with ⟨a, -⟩ | ⟨-, z1, z2, z3⟩
    · omega
    · rw [z1, show 1 + 2 * n = 0 + 1 + 2 * n by omega] at q1
      rw [z2, z3] at q2
      exact ⟨g', q1, q2⟩
  | succ e ih =>
    intro s r T g c hs hr hc hT h
    have e1 : (e + 1 + 1) * S = (e + 1) * S + S := Nat.succ_mul (e + 1) S
    rw [e1] at hc
    obtain ⟨d, hd⟩ : ∃ d, r + (d + 1) = S := ⟨S - r - 1, by omega⟩
    obtain ⟨m, k', s', g1, q1, q2, q3⟩ := go_sig hK hi hG hk eS (by omega) d r T g hd (by omega) h
    rcases q3 with ⟨a, z1, z2, z3⟩ | ⟨a, -⟩
    · rw [z1] at q1
      rw [z2, z3] at q2
      obtain ⟨g', p1, p2⟩ := ih (s + 1) 0 (T + (d + 1)) g1 ((e + 1) * S) (by omega) hS (Nat.add_zero _) (by omega) q2
      have q := q1.trans p1
      rw [show d + 1 + (e + 1) * S = c by omega, show 1 + (e + 1 + 2 * n) = e + 1 + 1 + 2 * n by omega] at q
      rw [show T + (d + 1) + (e + 1) * S = T + c by omega] at p2
      exact ⟨g', q, p2⟩
    · omega
theorem go_last {n i G s r K : Nat} {g0 : Nat → Int32} (hi : i < n) (hG : G ≤ 9999) : ∀ d k T g, k + d = G → G < k + 2 * n → GD n i G k s r T g0 g → ∃ g', Gt K n i d d g g' ∧ GD n i G G s r (T + d) g0 g' := by
  intro d
  induction d with
  | zero =>
    intro k T g hd _ h
    rw [show k = G by omega] at h
    exact ⟨g, Gt.zero, h⟩
  | succ d ih =>
    intro k T g hd hl h
    obtain ⟨g1, ha, h1⟩ := ad_zero (K := K) h hi (by omega) (by omega) (Nat.div_eq_of_lt (by omega))
    obtain ⟨g', q1, q2⟩ := ih (k + 1) (T + 1) g1 (by omega) (by omega) h1
    have q := (Gt.one h (by omega) (by omega) ha).trans q1
    rw [show 1 + d = d + 1 by omega] at q
    rw [show T + 1 + d = T + (d + 1) by omega] at q2
    exact ⟨g', q, q2⟩
theorem cs_stepV {n G b : Nat} {f : Nat → Int32} (h0 : 0 < n) (n8 : n ≤ 8) (f2 : f 2 = nI G) (f3 : f 3 = nI n) (hG : G < 2 ^ 30) (hb : b < 2 ^ 30) : F_X5_stepFrom (nI b) f = some (nI ((G - b) / (2 * n))) := by
  have e2 : (2 : Int32) * nI n = nI (2 * n) := by rw [show (2 : Int32) = nI 2 from rfl, nI_mul]
  have enz : ¬ nI (2 * n) = 0 := fun e => by
    have := (nI_eq (a := 2 * n) (b := 0) (by omega) (by omega)).mp e
    omega
  unfold F_X5_stepFrom
  rw [f3, f2, e2, if_neg (show ¬ nI (2 * n) ≤ (0 : Int32) from mt (nI_leI (a := 2 * n) (b := 0) (by omega) (by omega)).mp (by omega))]
  by_cases c : b < G
  · have ed : nI (G - b) / nI (2 * n) = nI ((G - b) / (2 * n)) := (Int32.ofNat_div (by omega) (by omega)).symm
    rw [if_pos ((nI_ltI (a := b) (b := G) (by omega) (by omega)).mpr c), xsub (by omega)]
    unfold nzI
    rw [if_neg enz, ed]
  · rw [if_neg (mt (nI_ltI (a := b) (b := G) (by omega) (by omega)).mp c), show G - b = 0 by omega, Nat.zero_div]
    rfl
/-- how both loops end -/
def GvQ (n i G K d : Nat) (f g0 : Nat → Int32) (u : Int32 × Int32 × Int32 × Int32 × Int32 × Int32) (x y : Int32) (g : Nat → Int32) : Prop := ∃ (kf xf yf : Nat) (g' : Nat → Int32), (∀ J, lpF (fun u9 : Int32 × Int32 × Int32 × Int32 × Int32 × Int32 × Int32 × Int32 => B_X5_aloneToGoal_50 f u9.1 u9.2.1 u9.2.2.1 u9.2.2.2.1 u9.2.2.2.2.1 u9.2.2.2.2.2.1 u9.2.2.2.2.2.2.1 u9.2.2.2.2.2.2.2) (J + (d + 1)) (u.1, u.2.1, u.2.2.1, u.2.2.2.1, x, y, u.2.2.2.2.1, u.2.2.2.2.2) = some (nI kf, x + nI xf, y + nI yf)) ∧ Gt K n i (xf + (G - kf)) (yf + (G - kf)) g g' ∧ (¬ g' 73 < g' 66) ∧ (∀ q, 84 ≤ q → g' q = g0 q) ∧ xf + (G - kf) ≤ 9999 * (d + 1) ∧ kf ≤ 999999
theorem go_stop {n i G K d j k s r T : Nat} {f g0 g : Nat → Int32} {x y : Int32} (hi : i < n) (hG : G ≤ 9999) (hk : k ≤ 990000) (z : (G - k) / (2 * n) = 0) (h : GD n i G k s r T g0 g) : GvQ n i G K d f g0 (nI k, nI T, nI r, nI s, nI ((G - k) / (2 * n)), nI j) x y g := by
  have B0 : (fun u9 : Int32 × Int32 × Int32 × Int32 × Int32 × Int32 × Int32 × Int32 => B_X5_aloneToGoal_50 f u9.1 u9.2.1 u9.2.2.1 u9.2.2.2.1 u9.2.2.2.2.1 u9.2.2.2.2.2.1 u9.2.2.2.2.2.2.1 u9.2.2.2.2.2.2.2) (nI k, nI T, nI r, nI s, x, y, nI ((G - k) / (2 * n)), nI j) = some (.inr (nI k, x, y)) := by
    show B_X5_aloneToGoal_50 f (nI k) (nI T) (nI r) (nI s) x y (nI ((G - k) / (2 * n))) (nI j) = some (.inr (nI k, x, y))
    unfold B_X5_aloneToGoal_50
    by_cases c : (9999 : Int32) ≤ nI j
    · rw [if_pos c]
    · rw [if_neg c, z, if_pos (show nI 0 ≤ (0 : Int32) by decide)]
  have L : ∀ J, lpF (fun u9 : Int32 × Int32 × Int32 × Int32 × Int32 × Int32 × Int32 × Int32 => B_X5_aloneToGoal_50 f u9.1 u9.2.1 u9.2.2.1 u9.2.2.2.1 u9.2.2.2.2.1 u9.2.2.2.2.2.1 u9.2.2.2.2.2.2.1 u9.2.2.2.2.2.2.2) (J + (d + 1)) (nI k, nI T, nI r, nI s, x, y, nI ((G - k) / (2 * n)), nI j) = some (nI k, x + nI 0, y + nI 0) := fun J => by
    rw [x_add0, x_add0]
    exact gpx0 (by omega) B0
  by_cases c : k < G
  · have lt : G - k < 2 * n := by
      rcases Nat.lt_or_ge (G - k) (2 * n) with a | a
      · exact a
      · exact absurd z (Nat.ne_of_gt (Nat.div_pos a (by omega)))
    obtain ⟨g', q1, q2⟩ := go_last (K := K) hi hG (G - k) k T g (by omega) (by omega) h
    refine ⟨k, 0, 0, g', L, ?_, ?_, q2.2.2.2.2.2.2, by omega, by omega⟩
    · rw [Nat.zero_add]
      exact q1
    · rw [q2.2.2.1, q2.2.1]
      exact mt (nI_ltI (a := G) (b := G) (by omega) (by omega)).mp (by omega)
  · refine ⟨k, 0, 0, g, L, ?_, ?_, h.2.2.2.2.2.2, by omega, by omega⟩
    · rw [show 0 + (G - k) = 0 by omega]
      exact Gt.zero
    · rw [h.2.2.1, h.2.1]
      exact mt (nI_ltI (a := k) (b := G) (by omega) (by omega)).mp (by omega)
theorem go_both {n i G K : Nat} {f g0 : Nat → Int32} (hK : 200000 ≤ K) (n8 : n ≤ 8) (hi : i < n) (hG : G ≤ 9999) (h2 : f 2 = nI G) (h3 : f 3 = nI n) : ∀ d j k s r T g x y, 10000 ≤ d + j → j ≤ T → (j = 0 ∨ k = T) → s < n → (r = 0 ∨ r < (G - k) / (2 * n)) → T ≤ 990000 → (j = 0 → T ≤ 900000) → k ≤ 990000 → GD n i G k s r T g0 g → GvQ n i G K d f g0 (nI k, nI T, nI r, nI s, nI ((G - k) / (2 * n)), nI j) x y g := by
  intro d
  induction d with
  | zero =>
    intro j k s r T g x y hd hj hjk hs hr hT hT0 hk h
    have z : (G - k) / (2 * n) = 0 := by rw [show G - k = 0 by omega, Nat.zero_div]
    exact go_stop hi hG hk z h
  | succ d ih =>
    intro j k s r T g x y hd hj hjk hs hr hT hT0 hk h
    by_cases z : (G - k) / (2 * n) = 0
    · exact go_stop hi hG hk z h
    · obtain ⟨S, eS⟩ : ∃ S, (G - k) / (2 * n) = S := ⟨_, rfl⟩
      have hkG : k < G := by
        rcases Nat.lt_or_ge k G with a | a
        · exact a
        · exact absurd (show (G - k) / (2 * n) = 0 by rw [show G - k = 0 by omega, Nat.zero_div]) z
      have m1 : 2 * n * ((G - k) / (2 * n)) ≤ G - k := Nat.mul_div_le (G - k) (2 * n)
      rw [eS] at z hr m1 ⊢
      have hS : 0 < S := by omega
      obtain ⟨e, he⟩ : ∃ e, s + (e + 1) = n := ⟨n - s - 1, by omega⟩
      have m2 : (e + 1) * S ≤ 2 * n * S := Nat.mul_le_mul_right S (by omega)
      have m3 : S ≤ (e + 1) * S := Nat.le_mul_of_pos_left S (by omega)
      have hrS : r < S := by omega
      obtain ⟨c, hc⟩ : ∃ c, c + r = (e + 1) * S := ⟨(e + 1) * S - r, by omega⟩
      have c9 : c ≤ 9999 := by omega
      have c1 : 1 ≤ c := by omega
      obtain ⟨g1, q1, q2⟩ := go_round hK hi hG hkG eS hS e s r T g c he hrS hc (by omega) h
      have ec : ((nI n - nI s) * nI S) - nI r = nI c := by rw [xsub (by omega), nI_mul, show n - s = e + 1 by omega, ← hc, xsub (by omega), Nat.add_sub_cancel]
      have em : (nI n - nI s) + (2 : Int32) * nI n = nI (e + 1 + 2 * n) := by rw [xsub (by omega), show n - s = e + 1 by omega, show (2 : Int32) = nI 2 from rfl, nI_mul, nI_add]
      have B1 : (fun u9 : Int32 × Int32 × Int32 × Int32 × Int32 × Int32 × Int32 × Int32 => B_X5_aloneToGoal_50 f u9.1 u9.2.1 u9.2.2.1 u9.2.2.2.1 u9.2.2.2.2.1 u9.2.2.2.2.2.1 u9.2.2.2.2.2.2.1 u9.2.2.2.2.2.2.2) (nI k, nI T, nI r, nI s, x, y, nI S, nI j) = some (.inl (nI (T + c), nI (T + c), nI 0, nI 0, x + nI c, y + nI (e + 1 + 2 * n), nI ((G - (T + c)) / (2 * n)), nI (j + 1))) := by
        show B_X5_aloneToGoal_50 f (nI k) (nI T) (nI r) (nI s) x y (nI S) (nI j) = some (.inl (nI (T + c), nI (T + c), (0 : Int32), (0 : Int32), x + nI c, y + nI (e + 1 + 2 * n), nI ((G - (T + c)) / (2 * n)), nI (j + 1)))
        unfold B_X5_aloneToGoal_50
        rw [if_neg (show ¬ (9999 : Int32) ≤ nI j from mt (nI_leI (a := 9999) (b := j) (by omega) (by omega)).mp (by omega)), if_neg (show ¬ nI S ≤ (0 : Int32) from mt (nI_leI (a := S) (b := 0) (by omega) (by omega)).mp (by omega)), h3, ec, em, nI_add, cs_stepV (by omega) n8 h2 h3 (by omega) (by omega), xb1, nI_1]
      obtain ⟨kf, xf, yf, g', L, W, nr, fr, bd, kb⟩ := ih (j + 1) (T + c) 0 0 (T + c) g1 (x + nI c) (y + nI (e + 1 + 2 * n)) (by omega) (by omega) (Or.inr rfl) (by omega) (Or.inl rfl) (by omega) (fun q => absurd q (by omega)) (by omega) q2
      have q := q1.trans W
      rw [show c + (xf + (G - kf)) = c + xf + (G - kf) by omega, show e + 1 + 2 * n + (yf + (G - kf)) = e + 1 + 2 * n + yf + (G - kf) by omega] at q
      refine ⟨kf, c + xf, e + 1 + 2 * n + yf, g', fun J => ?_, q, nr, fr, by omega, kb⟩
      rw [← x_add, ← x_add]
      exact (lp_one (j := J + (d + 1)) B1).trans (L J)
theorem mx_0 {a b : Nat} (ha : a < 2 ^ 30) (hb : b < 2 ^ 30) : maxF (nI a - nI b) (0 : Int32) = nI (a - b) := by
  unfold maxF
  have es : (nI a - nI b).toInt = (a : Int) - b := pk_sub_toInt ha hb
  by_cases c : a < b
  · rw [if_pos (show nI a - nI b < 0 by
      rw [Int32.lt_iff_toInt_lt, es]
      show (a : Int) - b < 0
      omega), show a - b = 0 by omega]
    rfl
  · rw [xsub (by omega), if_neg (nn0 (by omega))]
theorem p_goes {n K : Nat} {f g asd : Nat → Int32} {x y : Int32} (hK : 1000000000 ≤ K) (h : RowR n f g) (hI : RowI n g) : ∃ v asd', F_X7_goes K x y f = some v ∧ F_X8_goes K x y g (nI n) asd = some (v, g, asd') := by
  have n8 := h.n8
  have hK2 : 200000 ≤ K := by omega
  obtain ⟨r1, r2⟩ := re_both h
  unfold F_X7_goes F_X8_goes
  rcases hs_both (p := x) n8 h.sz with ⟨i, hi, rfl, c1, c2⟩ | ⟨-, c1, c2⟩
  · rw [c1, c2, xb1, xb1, if_neg n10, if_neg n10, m_in0 (m := 1) (by decide), xb1, ite10, rng_c]
    by_cases d : 0 ≤ y ∧ y ≤ nI 1
    · rw [if_pos (show 0 ≤ y ∧ y ≤ (1 : Int32) from d), if_pos d, r1, r2, xb1, xb1]
      by_cases c : g 73 < g 66
      · rw [if_pos c, if_pos rfl, if_pos rfl]
        obtain ⟨-, -, a, b, q, a1, a9, e66, b9, e73, hq, e75, hcs, hrs⟩ := hI.2 (by omega)
        obtain ⟨B, hB, eB⟩ := sgm_nat (a := fun j => g (48 + j)) n hcs
        obtain ⟨r, er, hr⟩ := hrs i hi
        have D0 : GD n i a b q r B g g := ⟨⟨f, h⟩, e66, e73, e75, er, eB, fun _ _ => rfl⟩
        rw [D0.stp (by omega) (by omega)] at hr
        have f2 : f 2 = nI a := (h.sc (2, 66) (by decide)).trans e66
        have f8 : f 8 = nI b := (h.sc (8, 73) (by decide)).trans e73
        have f9 : f 9 = nI q := (h.sc (9, 75) (by decide)).trans e75
        have e7 : f (17 + 8 * i + 7) = nI r := (h.1.2.2.1 i 7 hi (by decide)).trans er
        have t6 := (tot_both hK2 h (c := 6) (by decide)).1
        have t6 : F_X5_total K (6 : Int32) f = some (sgm (fun j => g (48 + j)) n) := t6
        obtain ⟨kf, xf, yf, g', L, W, nr, fr, bd, kb⟩ := go_both hK2 n8 hi a9 f2 h.sz 10000 0 b q r B g 0 0 (by omega) (Nat.zero_le _) (Or.inl rfl) hq hr (by omega) (fun _ => by omega) (by omega) D0
        have L1 := L (K - 10001)
        rw [show K - 10001 + (10000 + 1) = K by omega] at L1
        have L1 : lpF (fun u9 : Int32 × Int32 × Int32 × Int32 × Int32 × Int32 × Int32 × Int32 => B_X5_aloneToGoal_50 f u9.1 u9.2.1 u9.2.2.1 u9.2.2.2.1 u9.2.2.2.2.1 u9.2.2.2.2.2.1 u9.2.2.2.2.2.2.1 u9.2.2.2.2.2.2.2) K (nI b, nI B, nI r, nI q, (0 : Int32), (0 : Int32), nI ((a - b) / (2 * n)), (0 : Int32)) = some (nI kf, (0 : Int32) + nI xf, (0 : Int32) + nI yf) := L1
        have W1 := W 0 0 (K - (xf + (a - kf)))
        rw [Nat.sub_add_cancel (by omega), Int32.zero_add, Int32.zero_add] at W1
        have W2 : lpF (fun u9 : Int32 × Int32 × (Nat → Int32) => B_X8_goes_36 K (nI i) (nI n) u9.1 u9.2.1 u9.2.2) K ((0 : Int32), (0 : Int32), g) = some (nI (xf + (a - kf)), nI (yf + (a - kf)), g') := by
          refine W1.trans (gpx0 (by omega) ?_)
          show B_X8_goes_36 K (nI i) (nI n) (nI (xf + (a - kf))) (nI (yf + (a - kf))) g' = some (.inr (nI (xf + (a - kf)), nI (yf + (a - kf)), g'))
          unfold B_X8_goes_36 F_X8_isReached
          rw [if_neg nr, xb1, if_neg n10]
        have A : ∀ p, F_X5_aloneToGoal K (nI i) p f = some (if p = 0 then nI (xf + (a - kf)) else nI (yf + (a - kf))) := fun p => by
          unfold F_X5_aloneToGoal J_X5_aloneToGoal_136
          rw [t6, xb1, eB, bx_of (c := 7) (by rfl) (by omega) (by decide), xb1, e7, f8, cs_stepV (by omega) n8 f2 h.sz (by omega) (by omega), xb1, f9, L1, xb3, f2, mx_0 (by omega) (by omega), Int32.zero_add, Int32.zero_add, nI_add, nI_add]
          by_cases e : p = 0
          · rw [if_pos e, if_pos e]
          · rw [if_neg e, if_neg e]
        rw [m_aside hK2, xb1, W2, xb3, m_bring hK2 fr, xb1, A, A, xb1, xb1]
        obtain ⟨m, hm, rfl⟩ := in_lt (p := y) (a := 2) (by omega) (by rw [show nI 2 - 1 = nI 1 by decide]; exact d)
        rcases (show m = 0 ∨ m = 1 by omega) with e | e
        · rw [e, if_neg (show ¬ nI 0 = (1 : Int32) by decide), if_pos (show (0 : Int32) = 0 from rfl), if_pos (show nI 0 = (0 : Int32) from rfl)]
          exact ⟨_, _, rfl, rfl⟩
        · rw [e, if_pos (show nI 1 = (1 : Int32) from rfl), if_neg (show ¬ (1 : Int32) = 0 by decide), if_neg (show ¬ nI 1 = (0 : Int32) by decide)]
          exact ⟨_, _, rfl, rfl⟩
      · rw [if_neg c, if_neg n10, if_neg n10]
        exact ⟨_, _, rfl, rfl⟩
    · rw [if_neg (show ¬ (0 ≤ y ∧ y ≤ (1 : Int32)) from d), if_neg d]
      exact ⟨_, _, rfl, rfl⟩
  · rw [c1, c2, xb1, xb1, if_pos rfl, if_pos rfl]
    exact ⟨_, _, rfl, rfl⟩
end
-- 84a.sb0
section

/-! calls at an object of a class below the method's own; the texts' bytes -/
def wsC (own : String) (idx : Nat) (C : String) (y : MethodName) (ws : List Cond) : List Cond := ([.methodLink own idx y, .instanceMethod y, .selects C y y, .initialized y.cls] : List Cond) ++ ws
theorem cwC {R : Room} {s : State} {args : Array Value} {own C : String} {index maxL mc ms : Nat} {y : MethodName} {bytes : ByteArray} {ret : Option FieldType} {Ts ws ws' : List Cond} {rm : Room} (n : Nat) (ht : ∀ w ∈ Ts, w.before args s = true) (hT : GoodIn Ts (wsC own index C y ws)) (hw : ws = Cond.code y bytes maxL ret :: ws') (hrc : rm.cells = mc) (hrs : rm.slots = ms)
    (hd : y.cls ≠ "java/lang/invoke/MethodHandle" ∧ y.cls ≠ "java/lang/invoke/VarHandle" ∧ (parseMethodDescriptor y.desc).map (fun d => d.parameters.length) = some n) (hR : rm.frames + 1 ≤ R.frames ∧ 8 + (maxL + 11) + rm.locals ≤ R.locals) :
    CallW R s args own C index y bytes maxL ret ws rm mc ms n := by
  have ok : ∀ w ∈ wsC own index C y ws, w.before args s = true := fun w h => ht w (hT w h).1
  exact ⟨callB_of n ht (fun w h => hT w (by unfold wsC; exact List.mem_append_right _ h)) hw hrc hrs (ok _ (by simp [wsC])) (ok _ (by simp [wsC])) hd hR, ok _ (by simp [wsC]), ok _ (by simp [wsC])⟩
theorem strB_fitA : ∀ l ∈ strB, ∀ x ∈ l, fits .byte (.int x) = true := by decide
theorem strB_fit (p j : Nat) : fits .byte (.int ((strB.getD p []).getD j 0)) = true := by
  rw [List.getD_eq_getElem?_getD, List.getD_eq_getElem?_getD]
  cases h : strB[p]? with
  | none => exact (by decide : fits .byte (.int 0) = true)
  | some l =>
    show fits .byte (.int (l[j]?.getD 0)) = true
    cases h2 : l[j]? with
    | none => exact (by decide : fits .byte (.int 0) = true)
    | some x => exact strB_fitA l (List.mem_of_getElem? h) x (List.mem_of_getElem? h2)
theorem fit_nar (x : Int32) : fits .byte (.int (vp_nar .byte x)) = true := by rw [vp_nar_byte]; exact pk_fb _
end
-- 84b.sb
section
noncomputable def blJ6_stringSize_0f7a4_0 : List Nat := [4, 60, 26, 155, 0, 8, 3, 60, 26, 116, 59, 16, 246, 61, 4, 62, 29, 16, 10, 162, 0, 23, 26, 28, 164, 0, 7, 29, 27, 96, 172, 16, 10, 28, 104, 61, 132, 3, 1, 167, 255, 233, 16, 10, 27, 96, 172]
set_option maxRecDepth 100000 in
theorem bcJ6_stringSize_0f7a4_0 : ((cJ6_stringSize_0f7a4.data.toList.drop 0).take blJ6_stringSize_0f7a4_0.length).map UInt8.toNat = blJ6_stringSize_0f7a4_0 := by decide +kernel
noncomputable def blJ6_getChars_ba4f3_0 : List Nat := [27, 54, 5, 26, 156, 0, 7, 4, 167, 0, 4, 3, 54, 6, 21, 6, 154, 0, 6, 26, 116, 59, 26, 16, 156, 163, 0, 47, 26, 16, 100, 108, 62, 29, 16, 100, 104, 26, 100, 54, 4, 29, 59, 44, 132, 5, 255, 21, 5, 178, 0]
set_option maxRecDepth 100000 in
theorem bcJ6_getChars_ba4f3_0 : ((cJ6_getChars_ba4f3.data.toList.drop 0).take blJ6_getChars_ba4f3_0.length).map UInt8.toNat = blJ6_getChars_ba4f3_0 := by decide +kernel
noncomputable def blJ6_getChars_ba4f3_1 : List Nat := [5, 178, 0, 83, 21, 4, 51, 84, 44, 132, 5, 255, 21, 5, 178, 0, 87, 21, 4, 51, 84, 167, 255, 209, 44, 132, 5, 255, 21, 5, 178, 0, 83, 26, 116, 51, 84, 26, 16, 247, 162, 0, 16, 44, 132, 5, 255, 21, 5, 178, 0]
set_option maxRecDepth 100000 in
theorem bcJ6_getChars_ba4f3_1 : ((cJ6_getChars_ba4f3.data.toList.drop 48).take blJ6_getChars_ba4f3_1.length).map UInt8.toNat = blJ6_getChars_ba4f3_1 := by decide +kernel
noncomputable def blJ6_getChars_ba4f3_2 : List Nat := [5, 178, 0, 87, 26, 116, 51, 84, 21, 6, 153, 0, 12, 44, 132, 5, 255, 21, 5, 16, 45, 84, 21, 5, 172]
set_option maxRecDepth 100000 in
theorem bcJ6_getChars_ba4f3_2 : ((cJ6_getChars_ba4f3.data.toList.drop 96).take blJ6_getChars_ba4f3_2.length).map UInt8.toNat = blJ6_getChars_ba4f3_2 := by decide +kernel
noncomputable def blJ5_length_8abf5_0 : List Nat := [42, 180, 0, 79, 172]
set_option maxRecDepth 100000 in
theorem bcJ5_length_8abf5_0 : ((cJ5_length_8abf5.data.toList.drop 0).take blJ5_length_8abf5_0.length).map UInt8.toNat = blJ5_length_8abf5_0 := by decide +kernel
noncomputable def blJ5_isLatin1_aae02_0 : List Nat := [178, 0, 18, 153, 0, 14, 42, 180, 0, 22, 154, 0, 7, 4, 167, 0, 4, 3, 172]
set_option maxRecDepth 100000 in
theorem bcJ5_isLatin1_aae02_0 : ((cJ5_isLatin1_aae02.data.toList.drop 0).take blJ5_isLatin1_aae02_0.length).map UInt8.toNat = blJ5_isLatin1_aae02_0 := by decide +kernel
noncomputable def blJ1_canEncode_fc78d_0 : List Nat := [26, 17, 0, 255, 163, 0, 7, 4, 167, 0, 4, 3, 172]
set_option maxRecDepth 100000 in
theorem bcJ1_canEncode_fc78d_0 : ((cJ1_canEncode_fc78d.data.toList.drop 0).take blJ1_canEncode_fc78d_0.length).map UInt8.toNat = blJ1_canEncode_fc78d_0 := by decide +kernel
noncomputable def blJ8_newLength_cabcc_0 : List Nat := [26, 27, 28, 184, 0, 194, 96, 62, 3, 29, 162, 0, 11, 29, 18, 200, 163, 0, 5, 29, 172, 26, 27, 184, 0, 201, 172]
set_option maxRecDepth 100000 in
theorem bcJ8_newLength_cabcc_0 : ((cJ8_newLength_cabcc.data.toList.drop 0).take blJ8_newLength_cabcc_0.length).map UInt8.toNat = blJ8_newLength_cabcc_0 := by decide +kernel
noncomputable def blJ5_newCapacity_0f7a4_0 : List Nat := [42, 180, 0, 15, 190, 61, 27, 42, 180, 0, 22, 120, 62, 29, 28, 100, 54, 4, 28, 21, 4, 28, 5, 42, 180, 0, 22, 120, 96, 184, 0, 114, 54, 5, 21, 5, 18, 39, 160, 0, 13, 187, 0, 120, 89, 18, 122, 183, 0, 124, 191]
set_option maxRecDepth 100000 in
theorem bcJ5_newCapacity_0f7a4_0 : ((cJ5_newCapacity_0f7a4.data.toList.drop 0).take blJ5_newCapacity_0f7a4_0.length).map UInt8.toNat = blJ5_newCapacity_0f7a4_0 := by decide +kernel
noncomputable def blJ5_newCapacity_0f7a4_1 : List Nat := [0, 124, 191, 21, 5, 42, 180, 0, 22, 122, 172]
set_option maxRecDepth 100000 in
theorem bcJ5_newCapacity_0f7a4_1 : ((cJ5_newCapacity_0f7a4.data.toList.drop 48).take blJ5_newCapacity_0f7a4_1.length).map UInt8.toNat = blJ5_newCapacity_0f7a4_1 := by decide +kernel
noncomputable def blJ5_charAt_5068e_0 : List Nat := [42, 180, 0, 22, 61, 42, 180, 0, 15, 78, 42, 180, 0, 79, 45, 190, 28, 122, 184, 0, 138, 54, 4, 27, 21, 4, 184, 0, 144, 28, 154, 0, 12, 45, 27, 51, 17, 0, 255, 126, 146, 172, 45, 27, 184, 0, 148, 172]
set_option maxRecDepth 100000 in
theorem bcJ5_charAt_5068e_0 : ((cJ5_charAt_5068e.data.toList.drop 0).take blJ5_charAt_5068e_0.length).map UInt8.toNat = blJ5_charAt_5068e_0 := by decide +kernel
noncomputable def blJ5_inflateIfNeededFor_a7421_0 : List Nat := [178, 0, 18, 153, 0, 18, 42, 180, 0, 22, 43, 182, 0, 40, 159, 0, 7, 42, 182, 0, 195, 177]
set_option maxRecDepth 100000 in
theorem bcJ5_inflateIfNeededFor_a7421_0 : ((cJ5_inflateIfNeededFor_a7421.data.toList.drop 0).take blJ5_inflateIfNeededFor_a7421_0.length).map UInt8.toNat = blJ5_inflateIfNeededFor_a7421_0 := by decide +kernel
noncomputable def blJ0_getBytes_840e7_0 : List Nat := [42, 182, 1, 79, 29, 160, 0, 23, 42, 180, 0, 9, 3, 43, 28, 29, 120, 42, 180, 0, 9, 190, 184, 0, 212, 167, 0, 18, 42, 180, 0, 9, 3, 43, 28, 42, 180, 0, 9, 190, 184, 0, 106, 177]
set_option maxRecDepth 100000 in
theorem bcJ0_getBytes_840e7_0 : ((cJ0_getBytes_840e7.data.toList.drop 0).take blJ0_getBytes_840e7_0.length).map UInt8.toNat = blJ0_getBytes_840e7_0 := by decide +kernel
noncomputable def blJ5_putStringAt_47b60_0 : List Nat := [42, 44, 182, 1, 141, 44, 42, 180, 0, 15, 27, 42, 180, 0, 22, 182, 1, 143, 177]
set_option maxRecDepth 100000 in
theorem bcJ5_putStringAt_47b60_0 : ((cJ5_putStringAt_47b60.data.toList.drop 0).take blJ5_putStringAt_47b60_0.length).map UInt8.toNat = blJ5_putStringAt_47b60_0 := by decide +kernel

def B_J6_stringSize_0f7a4_16 (x0 : Int32) (x2 : Int32) (x3 : Int32) : Option ((Int32 × Int32) ⊕ (Nat × Int32)) :=
  if (10 : Int32) ≤ x3 then some (.inr (1, x3)) else if x0 ≤ x2 then some (.inl ((10 : Int32) * x2, x3 + (1 : Int32))) else some (.inr (0, x3))
def J_J6_stringSize_0f7a4_11 (K : Nat) (x1 : Int32) (x0 : Int32) : Option (Int32) :=
  bd2 (lpF (fun u9 : Int32 × Int32 => B_J6_stringSize_0f7a4_16 x0 u9.1 u9.2) K ((-10 : Int32), (1 : Int32))) (fun t_4 x3_5 => if t_4 = 0 then some (x3_5 + x1) else if t_4 = 1 then some ((10 : Int32) + x1) else none)
def F_J6_stringSize_0f7a4 (K : Nat) (p0 : Int32) : Option (Int32) :=
  if p0 < (0 : Int32) then J_J6_stringSize_0f7a4_11 K (1 : Int32) p0 else J_J6_stringSize_0f7a4_11 K (0 : Int32) (-p0)

def v_f_J6_stringSize_0f7a4 : List Cond := List.cons (.code yJ6_stringSize_0f7a4 cJ6_stringSize_0f7a4 4 (some .int)) (HAppend.hAppend (α := List Cond) (β := List Cond) (γ := List Cond) [] [])
theorem gw_f_J6_stringSize_0f7a4 : v_f_J6_stringSize_0f7a4.all goodWord = true := gw_c2 (by decide +kernel) gw_nil
theorem hd_J6_stringSize_0f7a4 : yJ6_stringSize_0f7a4.cls = RJ6 ∧ yJ6_stringSize_0f7a4.cls ≠ "java/lang/invoke/MethodHandle" ∧ yJ6_stringSize_0f7a4.cls ≠ "java/lang/invoke/VarHandle" ∧ (parseMethodDescriptor yJ6_stringSize_0f7a4.desc).map (fun d => d.parameters.length) = some 1 := by decide +kernel
set_option maxHeartbeats 4000000 in
set_option maxRecDepth 100000 in
theorem wb_J6_stringSize_0f7a4_16 {p : Program} (l : Launch) {e : Env} {s : State} {m : MethodId} {below : List Frame} {meth : Method} {c : Code} {Q : State → Prop} (E : EE) (K : Nat) {p0 : Int32} {x0 : Int32} {x1 : Int32} {x2 : Int32} {x3 : Int32} (hx : p.tables.exec = Jvm.exec) (hb : c.code = cJ6_stringSize_0f7a4) (hml : c.maxLocals = 4) (hown : s.vm.findClass RJ6 = some m.cls) (hts : ∀ w ∈ v_f_J6_stringSize_0f7a4, w.before #[Value.int p0] s = true) (hK : va_K E.1 vwCl (TY E) s) (hN : NX s) {xx : (Int32 × Int32) ⊕ (Nat × Int32)} (hC : ∀ (x2 : Int32), ∀ (x3 : Int32), xx = .inl (x2, x3) → ∀ (ls : Array Slot), lv_has ls 4 [(0, .int x0), (1, .int x1), (2, .int x2), (3, .int x3)] → W p l e ({ frames := 0, cells := 0, slots := 0, locals := 0 } : Room) s m #[Value.int p0] below meth c s.heap [] 0 0 Q (F0 m 16 ls [])) (hE : ∀ (t9 : Nat), ∀ (x3 : Int32), xx = .inr (t9, x3) → ((t9 = 0 → ∀ (ls : Array Slot), lv_has ls 4 [(1, .int x1), (3, .int x3)] → W p l e ({ frames := 0, cells := 0, slots := 0, locals := 0 } : Room) s m #[Value.int p0] below meth c s.heap [] 0 0 Q (F0 m 27 ls [])) ∧ (t9 = 1 → ∀ (ls : Array Slot), lv_has ls 4 [(1, .int x1)] → W p l e ({ frames := 0, cells := 0, slots := 0, locals := 0 } : Room) s m #[Value.int p0] below meth c s.heap [] 0 0 Q (F0 m 42 ls [])))) (hF : B_J6_stringSize_0f7a4_16 x0 x2 x3 = some xx) (hP : va_P E.1 vwCl [] s.heap) : ∀ (ls : Array Slot), lv_has ls 4 [(0, .int x0), (1, .int x1), (2, .int x2), (3, .int x3)] → W p l e ({ frames := 0, cells := 0, slots := 0, locals := 0 } : Room) s m #[Value.int p0] below meth c s.heap [] 0 0 Q (F0 m 16 ls []) := by
  unfold B_J6_stringSize_0f7a4_16 at hF
  replace hP : va_P E.1 vwCl [] s.heap := hP
  intro ls hl
  refine lv_iload_n hx hb (dq_29 0 bcJ6_stringSize_0f7a4_0 (j := 16) rfl rfl) rfl (lv_at hl 3 rfl) ?_
  refine lv_bipush (v := 10) hx hb (dq_16 0 bcJ6_stringSize_0f7a4_0 (j := 17) (i := 10) rfl rfl rfl) (by decide) ?_
  refine lv_icmp_ge (tgt := 42) hx hb (dq_162 0 bcJ6_stringSize_0f7a4_0 (j := 19) (i := 23) rfl rfl rfl) (by decide) (fun c_2 => ?_) (fun c_2 => ?_)
  ·
    replace hF := ip c_2 hF
    cases hF
    exact (hE 1 x3 rfl).2 rfl ls (lv_sub hl [1] rfl)
  ·
    replace hF := inn c_2 hF
    refine lv_iload_n hx hb (dq_26 0 bcJ6_stringSize_0f7a4_0 (j := 22) rfl rfl) rfl (lv_at hl 0 rfl) ?_
    refine lv_iload_n hx hb (dq_28 0 bcJ6_stringSize_0f7a4_0 (j := 23) rfl rfl) rfl (lv_at hl 2 rfl) ?_
    refine lv_icmp_le (tgt := 31) hx hb (dq_164 0 bcJ6_stringSize_0f7a4_0 (j := 24) (i := 7) rfl rfl rfl) (by decide) (fun c_3 => ?_) (fun c_3 => ?_)
    ·
      replace hF := ip c_3 hF
      refine lv_bipush (v := 10) hx hb (dq_16 0 bcJ6_stringSize_0f7a4_0 (j := 31) (i := 10) rfl rfl rfl) (by decide) ?_
      refine lv_iload_n hx hb (dq_28 0 bcJ6_stringSize_0f7a4_0 (j := 33) rfl rfl) rfl (lv_at hl 2 rfl) ?_
      refine lv_imul hx hb (dq_104 0 bcJ6_stringSize_0f7a4_0 (j := 34) rfl rfl) ?_
      refine lv_istore_n (lv' := [(2, .int ((10 : Int32) * x2)), (0, .int x0), (1, .int x1), (3, .int x3)]) hx hb (dq_61 0 bcJ6_stringSize_0f7a4_0 (j := 35) rfl rfl) rfl hl (by decide) rfl (fun ls hl => ?_)
      refine lv_iinc (v := x3 + (1 : Int32)) (lv' := [(3, .int (x3 + (1 : Int32))), (2, .int ((10 : Int32) * x2)), (0, .int x0), (1, .int x1)]) hx hb (dq_132 0 bcJ6_stringSize_0f7a4_0 (j := 36) (i := 1) rfl rfl rfl) hl (k := 3) rfl (rfl) (by decide) rfl (fun ls hl => ?_)
      refine lv_goto (tgt := 16) hx hb (dq_167 0 bcJ6_stringSize_0f7a4_0 (j := 39) (i := -23) rfl rfl rfl) (by decide) ?_
      cases hF
      exact hC ((10 : Int32) * x2) (x3 + (1 : Int32)) rfl ls (lv_sub hl [2, 3, 1, 0] rfl)
    ·
      replace hF := inn c_3 hF
      cases hF
      exact (hE 0 x3 rfl).1 rfl ls (lv_sub hl [1, 3] rfl)

set_option maxHeartbeats 4000000 in
set_option maxRecDepth 100000 in
theorem lw_J6_stringSize_0f7a4_16 {p : Program} (l : Launch) {e : Env} {s : State} {m : MethodId} {below : List Frame} {meth : Method} {c : Code} {Q : State → Prop} (E : EE) (K : Nat) {p0 : Int32} {x0 : Int32} {x1 : Int32} (hx : p.tables.exec = Jvm.exec) (hb : c.code = cJ6_stringSize_0f7a4) (hml : c.maxLocals = 4) (hown : s.vm.findClass RJ6 = some m.cls) (hts : ∀ w ∈ v_f_J6_stringSize_0f7a4, w.before #[Value.int p0] s = true) (hK : va_K E.1 vwCl (TY E) s) (hN : NX s) (hP : va_P E.1 vwCl [] s.heap) (j9 : Nat) (x2 : Int32) (x3 : Int32) (t9' : Nat) (x3' : Int32) (hL : lpF (fun u9 : Int32 × Int32 => B_J6_stringSize_0f7a4_16 x0 u9.1 u9.2) j9 (x2, x3) = some (t9', x3')) (hX : (t9' = 0 → ∀ (ls : Array Slot), lv_has ls 4 [(1, .int x1), (3, .int x3')] → W p l e ({ frames := 0, cells := 0, slots := 0, locals := 0 } : Room) s m #[Value.int p0] below meth c s.heap [] 0 0 Q (F0 m 27 ls [])) ∧ (t9' = 1 → ∀ (ls : Array Slot), lv_has ls 4 [(1, .int x1)] → W p l e ({ frames := 0, cells := 0, slots := 0, locals := 0 } : Room) s m #[Value.int p0] below meth c s.heap [] 0 0 Q (F0 m 42 ls []))) : ∀ (ls : Array Slot), lv_has ls 4 [(0, .int x0), (1, .int x1), (2, .int x2), (3, .int x3)] → W p l e ({ frames := 0, cells := 0, slots := 0, locals := 0 } : Room) s m #[Value.int p0] below meth c s.heap [] 0 0 Q (F0 m 16 ls []) := by
  exact lp_rule (P := (fun u9 : Int32 × Int32 => ∀ (ls : Array Slot), lv_has ls 4 [(0, .int x0), (1, .int x1), (2, .int u9.1), (3, .int u9.2)] → W p l e ({ frames := 0, cells := 0, slots := 0, locals := 0 } : Room) s m #[Value.int p0] below meth c s.heap [] 0 0 Q (F0 m 16 ls []))) (R := (fun r9 : Nat × Int32 => (r9.1 = 0 → ∀ (ls : Array Slot), lv_has ls 4 [(1, .int x1), (3, .int r9.2)] → W p l e ({ frames := 0, cells := 0, slots := 0, locals := 0 } : Room) s m #[Value.int p0] below meth c s.heap [] 0 0 Q (F0 m 27 ls [])) ∧ (r9.1 = 1 → ∀ (ls : Array Slot), lv_has ls 4 [(1, .int x1)] → W p l e ({ frames := 0, cells := 0, slots := 0, locals := 0 } : Room) s m #[Value.int p0] below meth c s.heap [] 0 0 Q (F0 m 42 ls [])))) (fun u9 xx hF hC hE => wb_J6_stringSize_0f7a4_16 l E K (p0 := p0) (x0 := x0) (x1 := x1) (x2 := u9.1) (x3 := u9.2) hx hb hml hown hts hK hN (fun x2 x3 q9 => hC _ q9) (fun t9 x3 q9 => hE _ q9) hF hP) j9 (x2, x3) (t9', x3') hL hX

set_option maxHeartbeats 4000000 in
set_option maxRecDepth 100000 in
theorem j_J6_stringSize_0f7a4_11 {p : Program} (l : Launch) {e : Env} {s : State} {m : MethodId} {below : List Frame} {meth : Method} {c : Code} {Q : State → Prop} (E : EE) (K : Nat) {p0 : Int32} {x1 : Int32} {x0 : Int32} (hx : p.tables.exec = Jvm.exec) (hb : c.code = cJ6_stringSize_0f7a4) (hml : c.maxLocals = 4) (hown : s.vm.findClass RJ6 = some m.cls) (hts : ∀ w ∈ v_f_J6_stringSize_0f7a4, w.before #[Value.int p0] s = true) (hK : va_K E.1 vwCl (TY E) s) (hN : NX s) {rr : Int32} (hr : meth.sig.returnType = (some .int)) (hlocks : meth.locks = false) (hQ : Q = MQ below (vp_Si (fun q : Int32 => q = rr)) #[Value.int p0] s 0 0 (fun _ => False)) (hF : J_J6_stringSize_0f7a4_11 K x1 x0 = some rr) (hP : va_P E.1 vwCl [] s.heap) : ∀ (ls : Array Slot), lv_has ls 4 [(0, .int x0), (1, .int x1)] → W p l e ({ frames := 0, cells := 0, slots := 0, locals := 0 } : Room) s m #[Value.int p0] below meth c s.heap [] 0 0 Q (F0 m 11 ls []) := by
  unfold J_J6_stringSize_0f7a4_11 at hF
  replace hP : va_P E.1 vwCl [] s.heap := hP
  intro ls hl
  refine lv_bipush (v := -10) hx hb (dq_16 0 bcJ6_stringSize_0f7a4_0 (j := 11) (i := -10) rfl rfl rfl) (by decide) ?_
  refine lv_istore_n (lv' := [(2, .int (-10 : Int32)), (0, .int x0), (1, .int x1)]) hx hb (dq_61 0 bcJ6_stringSize_0f7a4_0 (j := 13) rfl rfl) rfl hl (by decide) rfl (fun ls hl => ?_)
  refine lv_iconst (v := 1) hx hb (dq_4 0 bcJ6_stringSize_0f7a4_0 (j := 14) rfl rfl) (by decide) ?_
  refine lv_istore_n (lv' := [(3, .int (1 : Int32)), (2, .int (-10 : Int32)), (0, .int x0), (1, .int x1)]) hx hb (dq_62 0 bcJ6_stringSize_0f7a4_0 (j := 15) rfl rfl) rfl hl (by decide) rfl (fun ls hl => ?_)
  replace hF := bd2_s hF
  obtain ⟨t_4, x3_5, hL_6, hF⟩ := hF
  refine lw_J6_stringSize_0f7a4_16 l E K (p0 := p0) (x0 := x0) (x1 := x1) hx hb hml hown hts hK hN hP K (-10 : Int32) (1 : Int32) t_4 x3_5 hL_6 ⟨?_, ?_⟩ ls (lv_sub hl [2, 3, 1, 0] rfl)
  ·
    intro t9
    replace hF := ip t9 hF
    intro ls hl
    refine lv_iload_n hx hb (dq_29 0 bcJ6_stringSize_0f7a4_0 (j := 27) rfl rfl) rfl (lv_at hl 1 rfl) ?_
    refine lv_iload_n hx hb (dq_27 0 bcJ6_stringSize_0f7a4_0 (j := 28) rfl rfl) rfl (lv_at hl 0 rfl) ?_
    refine lv_iadd hx hb (dq_96 0 bcJ6_stringSize_0f7a4_0 (j := 29) rfl rfl) ?_
    rw [hQ]
    obtain e9_0 := inj1 hF
    exact W.iret (v := x3_5 + x1) hx hb hr (fun tt ht hW => ⟨_, rfl, e9_0, ht⟩) (fun _ h => by cases h) (dq_172 0 bcJ6_stringSize_0f7a4_0 (j := 30) rfl rfl)
  ·
    intro t9
    replace hF := inn (show ¬ t_4 = 0 by omega) hF
    replace hF := ip t9 hF
    intro ls hl
    refine lv_bipush (v := 10) hx hb (dq_16 0 bcJ6_stringSize_0f7a4_0 (j := 42) (i := 10) rfl rfl rfl) (by decide) ?_
    refine lv_iload_n hx hb (dq_27 0 bcJ6_stringSize_0f7a4_0 (j := 44) rfl rfl) rfl (lv_at hl 0 rfl) ?_
    refine lv_iadd hx hb (dq_96 0 bcJ6_stringSize_0f7a4_0 (j := 45) rfl rfl) ?_
    rw [hQ]
    obtain e9_0 := inj1 hF
    exact W.iret (v := (10 : Int32) + x1) hx hb hr (fun tt ht hW => ⟨_, rfl, e9_0, ht⟩) (fun _ h => by cases h) (dq_172 0 bcJ6_stringSize_0f7a4_0 (j := 46) rfl rfl)

set_option maxHeartbeats 4000000 in
set_option maxRecDepth 100000 in
theorem f_J6_stringSize_0f7a4 (l : Launch) (E : EE) (K : Nat) {p0 : Int32} {rr : Int32} (hF : F_J6_stringSize_0f7a4 K p0 = some rr) : Met l yJ6_stringSize_0f7a4 v_f_J6_stringSize_0f7a4 (({ frames := 0, cells := 0, slots := 0, locals := 0 } : Room)) (va_Pc [.int p0] (pP E [])) (vp_Si (fun q : Int32 => q = rr)) 0 0 (fun _ => False) := by
  refine Met.ofWF (cc := cJ6_stringSize_0f7a4) (maxL := 4) (ret := (some .int)) (by decide +kernel) rfl ?_
  intro p e s m args below meth c s₁ B hml hv
  obtain ⟨rfl, ⟨hK, hN⟩, hP⟩ := hv
  have hx := B.exec
  have hb := B.bytes
  have hr := B.returns
  have hts := atoms_spec (ws := v_f_J6_stringSize_0f7a4) B.pre
  have hown : s.vm.findClass RJ6 = some m.cls := own_of hd_J6_stringSize_0f7a4.1 (findClass_of_methodNamed B.named)
  have hlocks : meth.locks = false := B.notSynchronized
  replace hP : va_P E.1 vwCl [] s.heap := hP
  have hl := lv_entry ([.int p0]) (n := 4) (Nat.le_of_ble_eq_true rfl)
  rw [lg_entry_eq]
  generalize (lg_sl ([.int p0]) ++ List.replicate (4 - (lg_sl ([.int p0])).length) Slot.unset).toArray = ls at hl ⊢
  have hl : lv_has ls 4 [(0, .int p0)] := hl
  obtain ⟨Q, hQ⟩ : ∃ Q : State → Prop, Q = MQ below (vp_Si (fun q : Int32 => q = rr)) #[Value.int p0] s 0 0 (fun _ => False) := ⟨_, rfl⟩
  rw [← hQ]
  change W p l e ({ frames := 0, cells := 0, slots := 0, locals := 0 } : Room) s m #[Value.int p0] below meth c s.heap [] 0 0 Q (F0 m 0 ls [])
  unfold F_J6_stringSize_0f7a4 at hF
  refine lv_iconst (v := 1) hx hb (dq_4 0 bcJ6_stringSize_0f7a4_0 (j := 0) rfl rfl) (by decide) ?_
  refine lv_istore_n (lv' := [(1, .int (1 : Int32)), (0, .int p0)]) hx hb (dq_60 0 bcJ6_stringSize_0f7a4_0 (j := 1) rfl rfl) rfl hl (by decide) rfl (fun ls hl => ?_)
  refine lv_iload_n hx hb (dq_26 0 bcJ6_stringSize_0f7a4_0 (j := 2) rfl rfl) rfl (lv_at hl 1 rfl) ?_
  refine lv_if_lt (tgt := 11) hx hb (dq_155 0 bcJ6_stringSize_0f7a4_0 (j := 3) (i := 8) rfl rfl rfl) (by decide) (fun c_1 => ?_) (fun c_1 => ?_)
  ·
    replace hF := ip c_1 hF
    exact j_J6_stringSize_0f7a4_11 l E K (p0 := p0) (x1 := (1 : Int32)) (x0 := p0) hx hb hml hown hts hK hN hr hlocks hQ hF hP ls (lv_sub hl [1, 0] rfl)
  ·
    replace hF := inn c_1 hF
    refine lv_iconst (v := 0) hx hb (dq_3 0 bcJ6_stringSize_0f7a4_0 (j := 6) rfl rfl) (by decide) ?_
    refine lv_istore_n (lv' := [(1, .int (0 : Int32)), (0, .int p0)]) hx hb (dq_60 0 bcJ6_stringSize_0f7a4_0 (j := 7) rfl rfl) rfl hl (by decide) rfl (fun ls hl => ?_)
    refine lv_iload_n hx hb (dq_26 0 bcJ6_stringSize_0f7a4_0 (j := 8) rfl rfl) rfl (lv_at hl 1 rfl) ?_
    refine lv_ineg hx hb (dq_116 0 bcJ6_stringSize_0f7a4_0 (j := 9) rfl rfl) ?_
    refine lv_istore_n (lv' := [(0, .int (-p0)), (1, .int (0 : Int32))]) hx hb (dq_59 0 bcJ6_stringSize_0f7a4_0 (j := 10) rfl rfl) rfl hl (by decide) rfl (fun ls hl => ?_)
    exact j_J6_stringSize_0f7a4_11 l E K (p0 := p0) (x1 := (0 : Int32)) (x0 := -p0) hx hb hml hown hts hK hN hr hlocks hQ hF hP ls (lv_sub hl [0, 1] rfl)

def B_J6_getChars_ba4f3_22 (m9 : Nat) (x0 : Int32) (x5 : Int32) (c_o2 : Nat → Int32) : Option ((Int32 × Int32 × (Nat → Int32)) ⊕ (Int32 × Int32 × (Nat → Int32))) :=
  if (-100 : Int32) < x0 then some (.inr (x0, x5, c_o2)) else ixF (((x0 / (100 : Int32)) * (100 : Int32)) - x0) 100 (ixF (x5 + (-1 : Int32)) m9 (nmF (upd c_o2 (x5 + (-1 : Int32)).toNatClampNeg (vp_nar .byte (onesF (((x0 / (100 : Int32)) * (100 : Int32)) - x0).toNatClampNeg))) (fun f_6 => ixF (((x0 / (100 : Int32)) * (100 : Int32)) - x0) 100 (ixF ((x5 + (-1 : Int32)) + (-1 : Int32)) m9 (nmF (upd f_6 ((x5 + (-1 : Int32)) + (-1 : Int32)).toNatClampNeg (vp_nar .byte (tensF (((x0 / (100 : Int32)) * (100 : Int32)) - x0).toNatClampNeg))) (fun f_9 => some (.inl (x0 / (100 : Int32), (x5 + (-1 : Int32)) + (-1 : Int32), f_9))))))))
def J_J6_getChars_ba4f3_12 (K : Nat) (m9 : Nat) (k0 : Int32) (x0 : Int32) (x5 : Int32) (c_o2 : Nat → Int32) : Option (Int32 × (Nat → Int32)) :=
  if k0 = (0 : Int32) then bd3 (lpF (fun u9 : Int32 × Int32 × (Nat → Int32) => B_J6_getChars_ba4f3_22 m9 u9.1 u9.2.1 u9.2.2) K (-x0, x5, c_o2)) (fun x0_27 x5_28 c_o2_29 => ixF (-x0_27) 100 (ixF (x5_28 + (-1 : Int32)) m9 (nmF (upd c_o2_29 (x5_28 + (-1 : Int32)).toNatClampNeg (vp_nar .byte (onesF (-x0_27).toNatClampNeg))) (fun f_33 => if (-9 : Int32) ≤ x0_27 then if k0 = (0 : Int32) then some (x5_28 + (-1 : Int32), f_33) else ixF ((x5_28 + (-1 : Int32)) + (-1 : Int32)) m9 (nmF (upd f_33 ((x5_28 + (-1 : Int32)) + (-1 : Int32)).toNatClampNeg (vp_nar .byte (45 : Int32))) (fun f_37 => some ((x5_28 + (-1 : Int32)) + (-1 : Int32), f_37))) else ixF (-x0_27) 100 (ixF ((x5_28 + (-1 : Int32)) + (-1 : Int32)) m9 (nmF (upd f_33 ((x5_28 + (-1 : Int32)) + (-1 : Int32)).toNatClampNeg (vp_nar .byte (tensF (-x0_27).toNatClampNeg))) (fun f_40 => if k0 = (0 : Int32) then some ((x5_28 + (-1 : Int32)) + (-1 : Int32), f_40) else ixF (((x5_28 + (-1 : Int32)) + (-1 : Int32)) + (-1 : Int32)) m9 (nmF (upd f_40 (((x5_28 + (-1 : Int32)) + (-1 : Int32)) + (-1 : Int32)).toNatClampNeg (vp_nar .byte (45 : Int32))) (fun f_43 => some (((x5_28 + (-1 : Int32)) + (-1 : Int32)) + (-1 : Int32), f_43)))))))))) else bd3 (lpF (fun u9 : Int32 × Int32 × (Nat → Int32) => B_J6_getChars_ba4f3_22 m9 u9.1 u9.2.1 u9.2.2) K (x0, x5, c_o2)) (fun x0_10 x5_11 c_o2_12 => ixF (-x0_10) 100 (ixF (x5_11 + (-1 : Int32)) m9 (nmF (upd c_o2_12 (x5_11 + (-1 : Int32)).toNatClampNeg (vp_nar .byte (onesF (-x0_10).toNatClampNeg))) (fun f_16 => if (-9 : Int32) ≤ x0_10 then if k0 = (0 : Int32) then some (x5_11 + (-1 : Int32), f_16) else ixF ((x5_11 + (-1 : Int32)) + (-1 : Int32)) m9 (nmF (upd f_16 ((x5_11 + (-1 : Int32)) + (-1 : Int32)).toNatClampNeg (vp_nar .byte (45 : Int32))) (fun f_20 => some ((x5_11 + (-1 : Int32)) + (-1 : Int32), f_20))) else ixF (-x0_10) 100 (ixF ((x5_11 + (-1 : Int32)) + (-1 : Int32)) m9 (nmF (upd f_16 ((x5_11 + (-1 : Int32)) + (-1 : Int32)).toNatClampNeg (vp_nar .byte (tensF (-x0_10).toNatClampNeg))) (fun f_23 => if k0 = (0 : Int32) then some ((x5_11 + (-1 : Int32)) + (-1 : Int32), f_23) else ixF (((x5_11 + (-1 : Int32)) + (-1 : Int32)) + (-1 : Int32)) m9 (nmF (upd f_23 (((x5_11 + (-1 : Int32)) + (-1 : Int32)) + (-1 : Int32)).toNatClampNeg (vp_nar .byte (45 : Int32))) (fun f_26 => some (((x5_11 + (-1 : Int32)) + (-1 : Int32)) + (-1 : Int32), f_26))))))))))
def F_J6_getChars_ba4f3 (K : Nat) (p0 : Int32) (p1 : Int32) (c_o2 : Nat → Int32) (m9 : Nat) : Option (Int32 × (Nat → Int32)) :=
  if (0 : Int32) ≤ p0 then J_J6_getChars_ba4f3_12 K m9 (0 : Int32) p0 p1 c_o2 else J_J6_getChars_ba4f3_12 K m9 (1 : Int32) p0 p1 c_o2
abbrev w_J6_getChars_ba4f3 (E : EE) (a_o2 : Nat) (c_o2 : Nat → Int32) (m9 : Nat) : va_W := [k_B E a_o2 m9 c_o2]
def v_f_J6_getChars_ba4f3 : List Cond := List.cons (.code yJ6_getChars_ba4f3 cJ6_getChars_ba4f3 7 (some .int)) (HAppend.hAppend (α := List Cond) (β := List Cond) (γ := List Cond) [.fieldLink RJ6 83 "java/lang/Integer" "DigitOnes" "[B", .fieldLink RJ6 87 "java/lang/Integer" "DigitTens" "[B"] [])
theorem gw_f_J6_getChars_ba4f3 : v_f_J6_getChars_ba4f3.all goodWord = true := gw_c2 (by decide +kernel) gw_nil
theorem hd_J6_getChars_ba4f3 : yJ6_getChars_ba4f3.cls = RJ6 ∧ yJ6_getChars_ba4f3.cls ≠ "java/lang/invoke/MethodHandle" ∧ yJ6_getChars_ba4f3.cls ≠ "java/lang/invoke/VarHandle" ∧ (parseMethodDescriptor yJ6_getChars_ba4f3.desc).map (fun d => d.parameters.length) = some 3 := by decide +kernel
set_option maxHeartbeats 4000000 in
set_option maxRecDepth 100000 in
theorem wb_J6_getChars_ba4f3_22 {p : Program} (l : Launch) {e : Env} {s : State} {m : MethodId} {below : List Frame} {meth : Method} {c : Code} {Q : State → Prop} (E : EE) (K : Nat) {z9 : Nat → Nat} {a_o2 : Nat} {p0 : Int32} {p1 : Int32} {m9 : Nat} {x0 : Int32} {x5 : Int32} {x6 : Int32} {c_o2 : Nat → Int32} (hx : p.tables.exec = Jvm.exec) (hb : c.code = cJ6_getChars_ba4f3) (hml : c.maxLocals = 7) (hown : s.vm.findClass RJ6 = some m.cls) (hts : ∀ w ∈ v_f_J6_getChars_ba4f3, w.before #[Value.int p0, Value.int p1, Value.ref a_o2] s = true) (hK : va_K E.1 vwCl (TY E) s) (hN : NX s) {A : Nat → Prop} (hA : ∀ q : Nat, s.heap.size ≤ q → A q) (hZ : ZZ z9 A s s.heap) {xx : (Int32 × Int32 × (Nat → Int32)) ⊕ (Int32 × Int32 × (Nat → Int32))} (hC : ∀ (x0 : Int32), ∀ (x5 : Int32), ∀ (c_o2 : Nat → Int32), xx = .inl (x0, x5, c_o2) → ∀ (H : Heap) (locs : List Loc) (ls : Array Slot), va_P E.1 vwCl (w_J6_getChars_ba4f3 E a_o2 c_o2 m9) H → va_D A (w_J6_getChars_ba4f3 E a_o2 c_o2 m9) → va_S A s.heap H locs → lv_has ls 7 [(0, .int x0), (2, .ref a_o2), (5, .int x5), (6, .int x6)] → W p l e ({ frames := 0, cells := 0, slots := 0, locals := 0 } : Room) s m #[Value.int p0, Value.int p1, Value.ref a_o2] below meth c H locs 0 0 Q (F0 m 22 ls [])) (hE : ∀ (x0 : Int32), ∀ (x5 : Int32), ∀ (c_o2 : Nat → Int32), xx = .inr (x0, x5, c_o2) → ((∀ (H : Heap) (locs : List Loc) (ls : Array Slot), va_P E.1 vwCl (w_J6_getChars_ba4f3 E a_o2 c_o2 m9) H → va_D A (w_J6_getChars_ba4f3 E a_o2 c_o2 m9) → va_S A s.heap H locs → lv_has ls 7 [(0, .int x0), (2, .ref a_o2), (5, .int x5), (6, .int x6)] → W p l e ({ frames := 0, cells := 0, slots := 0, locals := 0 } : Room) s m #[Value.int p0, Value.int p1, Value.ref a_o2] below meth c H locs 0 0 Q (F0 m 72 ls [])))) (hF : B_J6_getChars_ba4f3_22 m9 x0 x5 c_o2 = some xx) : ∀ (H : Heap) (locs : List Loc) (ls : Array Slot), va_P E.1 vwCl (w_J6_getChars_ba4f3 E a_o2 c_o2 m9) H → va_D A (w_J6_getChars_ba4f3 E a_o2 c_o2 m9) → va_S A s.heap H locs → lv_has ls 7 [(0, .int x0), (2, .ref a_o2), (5, .int x5), (6, .int x6)] → W p l e ({ frames := 0, cells := 0, slots := 0, locals := 0 } : Room) s m #[Value.int p0, Value.int p1, Value.ref a_o2] below meth c H locs 0 0 Q (F0 m 22 ls []) := by
  unfold B_J6_getChars_ba4f3_22 at hF
  intro H locs ls hP hD hS hl
  have h9 := fixPD (ws' := [k_B E a_o2 m9 c_o2]) hP hD rfl
  clear hP hD
  obtain ⟨hP, hD⟩ := h9
  refine lv_iload_n hx hb (dq_26 0 bcJ6_getChars_ba4f3_0 (j := 22) rfl rfl) rfl (lv_at hl 0 rfl) ?_
  refine lv_bipush (v := -100) hx hb (dq_16 0 bcJ6_getChars_ba4f3_0 (j := 23) (i := -100) rfl rfl rfl) (by decide) ?_
  refine lv_icmp_gt (tgt := 72) hx hb (dq_163 0 bcJ6_getChars_ba4f3_0 (j := 25) (i := 47) rfl rfl rfl) (by decide) (fun c_3 => ?_) (fun c_3 => ?_)
  ·
    replace hF := ip c_3 hF
    cases hF
    exact hE x0 x5 c_o2 rfl H locs ls (hP.sub [0] rfl) (hD.sub [0] (by decide) rfl) hS (lv_sub hl [0, 1, 2, 3] rfl)
  ·
    replace hF := inn c_3 hF
    refine lv_iload_n hx hb (dq_26 0 bcJ6_getChars_ba4f3_0 (j := 28) rfl rfl) rfl (lv_at hl 0 rfl) ?_
    refine lv_bipush (v := 100) hx hb (dq_16 0 bcJ6_getChars_ba4f3_0 (j := 29) (i := 100) rfl rfl rfl) (by decide) ?_
    refine lv_idiv hx hb (dq_108 0 bcJ6_getChars_ba4f3_0 (j := 31) rfl rfl) (by decide) ?_
    refine lv_istore_n (lv' := [(3, .int (x0 / (100 : Int32))), (0, .int x0), (2, .ref a_o2), (5, .int x5), (6, .int x6)]) hx hb (dq_62 0 bcJ6_getChars_ba4f3_0 (j := 32) rfl rfl) rfl hl (by decide) rfl (fun ls hl => ?_)
    refine lv_iload_n hx hb (dq_29 0 bcJ6_getChars_ba4f3_0 (j := 33) rfl rfl) rfl (lv_at hl 0 rfl) ?_
    refine lv_bipush (v := 100) hx hb (dq_16 0 bcJ6_getChars_ba4f3_0 (j := 34) (i := 100) rfl rfl rfl) (by decide) ?_
    refine lv_imul hx hb (dq_104 0 bcJ6_getChars_ba4f3_0 (j := 36) rfl rfl) ?_
    refine lv_iload_n hx hb (dq_26 0 bcJ6_getChars_ba4f3_0 (j := 37) rfl rfl) rfl (lv_at hl 1 rfl) ?_
    refine lv_isub hx hb (dq_100 0 bcJ6_getChars_ba4f3_0 (j := 38) rfl rfl) ?_
    refine lv_istore (lv' := [(4, .int (((x0 / (100 : Int32)) * (100 : Int32)) - x0)), (3, .int (x0 / (100 : Int32))), (0, .int x0), (2, .ref a_o2), (5, .int x5), (6, .int x6)]) hx hb (dq_54 0 bcJ6_getChars_ba4f3_0 (j := 39) (i := 4) rfl rfl) hl (by decide) rfl (fun ls hl => ?_)
    refine lv_iload_n hx hb (dq_29 0 bcJ6_getChars_ba4f3_0 (j := 41) rfl rfl) rfl (lv_at hl 1 rfl) ?_
    refine lv_istore_n (lv' := [(0, .int (x0 / (100 : Int32))), (4, .int (((x0 / (100 : Int32)) * (100 : Int32)) - x0)), (3, .int (x0 / (100 : Int32))), (2, .ref a_o2), (5, .int x5), (6, .int x6)]) hx hb (dq_59 0 bcJ6_getChars_ba4f3_0 (j := 42) rfl rfl) rfl hl (by decide) rfl (fun ls hl => ?_)
    refine lv_aload_n hx hb (dq_44 0 bcJ6_getChars_ba4f3_0 (j := 43) rfl rfl) rfl (lv_at hl 3 rfl) ?_
    refine lv_iinc (v := x5 + (-1 : Int32)) (lv' := [(5, .int (x5 + (-1 : Int32))), (0, .int (x0 / (100 : Int32))), (4, .int (((x0 / (100 : Int32)) * (100 : Int32)) - x0)), (3, .int (x0 / (100 : Int32))), (2, .ref a_o2), (6, .int x6)]) hx hb (dq_132 0 bcJ6_getChars_ba4f3_0 (j := 44) (i := -1) rfl rfl rfl) hl (k := 4) rfl (by exact rfl) (by decide) rfl (fun ls hl => ?_)
    refine lv_iload hx hb (dq_21 0 bcJ6_getChars_ba4f3_0 (j := 47) (i := 5) rfl rfl) (lv_at hl 0 rfl) ?_
    refine va_gets hx hb hZ.2.2.1.2.1 hS hown (hts (.fieldLink RJ6 83 "java/lang/Integer" "DigitOnes" "[B") (List.mem_of_getElem? (i := 1) rfl)) (fun _ h9 => h9) (dq_178 48 bcJ6_getChars_ba4f3_1 (j := 1) (i := 83) rfl rfl rfl) ?_
    refine lv_iload hx hb (dq_21 48 bcJ6_getChars_ba4f3_1 (j := 4) (i := 4) rfl rfl) (lv_at hl 2 rfl) ?_
    replace hF := ix_s hF
    obtain ⟨hi_4, hF⟩ := hF
    refine va_tb (v := .int (onesF (((x0 / (100 : Int32)) * (100 : Int32)) - x0).toNatClampNeg)) hx hb (hZ.2.2.1.2.2.1) hS hi_4 rfl (dq_51 48 bcJ6_getChars_ba4f3_1 (j := 6) rfl rfl) ?_
    replace hF := ix_s hF
    obtain ⟨hi_5, hF⟩ := hF
    refine va_bast hx hb hK hP hD hS 0 1 rfl rfl hi_5 (dq_84 48 bcJ6_getChars_ba4f3_1 (j := 7) rfl rfl) (fun H locs hP hD hS => ?_)
    have h9 := fixPD (ws' := [k_B E a_o2 m9 (upd c_o2 (x5 + (-1 : Int32)).toNatClampNeg (vp_nar .byte (onesF (((x0 / (100 : Int32)) * (100 : Int32)) - x0).toNatClampNeg)))]) hP hD rfl
    clear hP hD
    obtain ⟨hP, hD⟩ := h9
    replace hF := nm_s hF
    obtain ⟨f_6, hf_6, hF⟩ := hF
    rw [← hf_6] at hP hD
    refine lv_aload_n hx hb (dq_44 48 bcJ6_getChars_ba4f3_1 (j := 8) rfl rfl) rfl (lv_at hl 4 rfl) ?_
    refine lv_iinc (v := (x5 + (-1 : Int32)) + (-1 : Int32)) (lv' := [(5, .int ((x5 + (-1 : Int32)) + (-1 : Int32))), (0, .int (x0 / (100 : Int32))), (4, .int (((x0 / (100 : Int32)) * (100 : Int32)) - x0)), (3, .int (x0 / (100 : Int32))), (2, .ref a_o2), (6, .int x6)]) hx hb (dq_132 48 bcJ6_getChars_ba4f3_1 (j := 9) (i := -1) rfl rfl rfl) hl (k := 0) rfl (by exact rfl) (by decide) rfl (fun ls hl => ?_)
    refine lv_iload hx hb (dq_21 48 bcJ6_getChars_ba4f3_1 (j := 12) (i := 5) rfl rfl) (lv_at hl 0 rfl) ?_
    refine va_gets hx hb hZ.2.2.1.2.2.2.1 hS hown (hts (.fieldLink RJ6 87 "java/lang/Integer" "DigitTens" "[B") (List.mem_of_getElem? (i := 2) rfl)) (fun _ h9 => h9) (dq_178 48 bcJ6_getChars_ba4f3_1 (j := 14) (i := 87) rfl rfl rfl) ?_
    refine lv_iload hx hb (dq_21 48 bcJ6_getChars_ba4f3_1 (j := 17) (i := 4) rfl rfl) (lv_at hl 2 rfl) ?_
    replace hF := ix_s hF
    obtain ⟨hi_7, hF⟩ := hF
    refine va_tb (v := .int (tensF (((x0 / (100 : Int32)) * (100 : Int32)) - x0).toNatClampNeg)) hx hb (hZ.2.2.1.2.2.2.2.1) hS hi_7 rfl (dq_51 48 bcJ6_getChars_ba4f3_1 (j := 19) rfl rfl) ?_
    replace hF := ix_s hF
    obtain ⟨hi_8, hF⟩ := hF
    refine va_bast hx hb hK hP hD hS 0 1 rfl rfl hi_8 (dq_84 48 bcJ6_getChars_ba4f3_1 (j := 20) rfl rfl) (fun H locs hP hD hS => ?_)
    have h9 := fixPD (ws' := [k_B E a_o2 m9 (upd f_6 ((x5 + (-1 : Int32)) + (-1 : Int32)).toNatClampNeg (vp_nar .byte (tensF (((x0 / (100 : Int32)) * (100 : Int32)) - x0).toNatClampNeg)))]) hP hD rfl
    clear hP hD
    obtain ⟨hP, hD⟩ := h9
    replace hF := nm_s hF
    obtain ⟨f_9, hf_9, hF⟩ := hF
    rw [← hf_9] at hP hD
    refine lv_goto (tgt := 22) hx hb (dq_167 48 bcJ6_getChars_ba4f3_1 (j := 21) (i := -47) rfl rfl rfl) (by decide) ?_
    cases hF
    exact hC (x0 / (100 : Int32)) ((x5 + (-1 : Int32)) + (-1 : Int32)) f_9 rfl H locs ls (hP.sub [0] rfl) (hD.sub [0] (by decide) rfl) hS (lv_sub hl [1, 4, 0, 5] rfl)

set_option maxHeartbeats 4000000 in
set_option maxRecDepth 100000 in
theorem lw_J6_getChars_ba4f3_22 {p : Program} (l : Launch) {e : Env} {s : State} {m : MethodId} {below : List Frame} {meth : Method} {c : Code} {Q : State → Prop} (E : EE) (K : Nat) {z9 : Nat → Nat} {a_o2 : Nat} {p0 : Int32} {p1 : Int32} {m9 : Nat} {x6 : Int32} (hx : p.tables.exec = Jvm.exec) (hb : c.code = cJ6_getChars_ba4f3) (hml : c.maxLocals = 7) (hown : s.vm.findClass RJ6 = some m.cls) (hts : ∀ w ∈ v_f_J6_getChars_ba4f3, w.before #[Value.int p0, Value.int p1, Value.ref a_o2] s = true) (hK : va_K E.1 vwCl (TY E) s) (hN : NX s) {A : Nat → Prop} (hA : ∀ q : Nat, s.heap.size ≤ q → A q) (hZ : ZZ z9 A s s.heap) (j9 : Nat) (x0 : Int32) (x5 : Int32) (c_o2 : Nat → Int32) (x0' : Int32) (x5' : Int32) (c_o2' : Nat → Int32) (hL : lpF (fun u9 : Int32 × Int32 × (Nat → Int32) => B_J6_getChars_ba4f3_22 m9 u9.1 u9.2.1 u9.2.2) j9 (x0, x5, c_o2) = some (x0', x5', c_o2')) (hX : (∀ (H : Heap) (locs : List Loc) (ls : Array Slot), va_P E.1 vwCl (w_J6_getChars_ba4f3 E a_o2 c_o2' m9) H → va_D A (w_J6_getChars_ba4f3 E a_o2 c_o2' m9) → va_S A s.heap H locs → lv_has ls 7 [(0, .int x0'), (2, .ref a_o2), (5, .int x5'), (6, .int x6)] → W p l e ({ frames := 0, cells := 0, slots := 0, locals := 0 } : Room) s m #[Value.int p0, Value.int p1, Value.ref a_o2] below meth c H locs 0 0 Q (F0 m 72 ls []))) : ∀ (H : Heap) (locs : List Loc) (ls : Array Slot), va_P E.1 vwCl (w_J6_getChars_ba4f3 E a_o2 c_o2 m9) H → va_D A (w_J6_getChars_ba4f3 E a_o2 c_o2 m9) → va_S A s.heap H locs → lv_has ls 7 [(0, .int x0), (2, .ref a_o2), (5, .int x5), (6, .int x6)] → W p l e ({ frames := 0, cells := 0, slots := 0, locals := 0 } : Room) s m #[Value.int p0, Value.int p1, Value.ref a_o2] below meth c H locs 0 0 Q (F0 m 22 ls []) := by
  exact lp_rule (P := (fun u9 : Int32 × Int32 × (Nat → Int32) => ∀ (H : Heap) (locs : List Loc) (ls : Array Slot), va_P E.1 vwCl (w_J6_getChars_ba4f3 E a_o2 u9.2.2 m9) H → va_D A (w_J6_getChars_ba4f3 E a_o2 u9.2.2 m9) → va_S A s.heap H locs → lv_has ls 7 [(0, .int u9.1), (2, .ref a_o2), (5, .int u9.2.1), (6, .int x6)] → W p l e ({ frames := 0, cells := 0, slots := 0, locals := 0 } : Room) s m #[Value.int p0, Value.int p1, Value.ref a_o2] below meth c H locs 0 0 Q (F0 m 22 ls []))) (R := (fun r9 : Int32 × Int32 × (Nat → Int32) => (∀ (H : Heap) (locs : List Loc) (ls : Array Slot), va_P E.1 vwCl (w_J6_getChars_ba4f3 E a_o2 r9.2.2 m9) H → va_D A (w_J6_getChars_ba4f3 E a_o2 r9.2.2 m9) → va_S A s.heap H locs → lv_has ls 7 [(0, .int r9.1), (2, .ref a_o2), (5, .int r9.2.1), (6, .int x6)] → W p l e ({ frames := 0, cells := 0, slots := 0, locals := 0 } : Room) s m #[Value.int p0, Value.int p1, Value.ref a_o2] below meth c H locs 0 0 Q (F0 m 72 ls [])))) (fun u9 xx hF hC hE => wb_J6_getChars_ba4f3_22 l E K (p0 := p0) (p1 := p1) (m9 := m9) (x0 := u9.1) (x5 := u9.2.1) (x6 := x6) (c_o2 := u9.2.2) hx hb hml hown hts hK hN hA hZ (fun x0 x5 c_o2 q9 => hC _ q9) (fun x0 x5 c_o2 q9 => hE _ q9) hF) j9 (x0, x5, c_o2) (x0', x5', c_o2') hL hX

set_option maxHeartbeats 4000000 in
set_option maxRecDepth 100000 in
theorem j_J6_getChars_ba4f3_12 {p : Program} (l : Launch) {e : Env} {s : State} {m : MethodId} {below : List Frame} {meth : Method} {c : Code} {Q : State → Prop} (E : EE) (K : Nat) {z9 : Nat → Nat} {a_o2 : Nat} {p0 : Int32} {p1 : Int32} {m9 : Nat} {k0 : Int32} {x0 : Int32} {x5 : Int32} {c_o2 : Nat → Int32} (hx : p.tables.exec = Jvm.exec) (hb : c.code = cJ6_getChars_ba4f3) (hml : c.maxLocals = 7) (hown : s.vm.findClass RJ6 = some m.cls) (hts : ∀ w ∈ v_f_J6_getChars_ba4f3, w.before #[Value.int p0, Value.int p1, Value.ref a_o2] s = true) (hK : va_K E.1 vwCl (TY E) s) (hN : NX s) {A : Nat → Prop} (hA : ∀ q : Nat, s.heap.size ≤ q → A q) (hZ : ZZ z9 A s s.heap) {rr : Int32} {n_o2 : Nat → Int32} (hr : meth.sig.returnType = (some .int)) (hlocks : meth.locks = false) (hQ : Q = MQ below (va_Qi (fun (q : Int32) (_u : Unit) => q = rr) (fun (_u : Unit) tt => va_P E.1 vwCl (w_J6_getChars_ba4f3 E a_o2 n_o2 m9) tt.heap ∧ va_D A (w_J6_getChars_ba4f3 E a_o2 n_o2 m9)) A) #[Value.int p0, Value.int p1, Value.ref a_o2] s 0 0 A) (hF : J_J6_getChars_ba4f3_12 K m9 k0 x0 x5 c_o2 = some (rr, n_o2)) : ∀ (H : Heap) (locs : List Loc) (ls : Array Slot), va_P E.1 vwCl (w_J6_getChars_ba4f3 E a_o2 c_o2 m9) H → va_D A (w_J6_getChars_ba4f3 E a_o2 c_o2 m9) → va_S A s.heap H locs → lv_has ls 7 [(0, .int x0), (2, .ref a_o2), (5, .int x5)] → W p l e ({ frames := 0, cells := 0, slots := 0, locals := 0 } : Room) s m #[Value.int p0, Value.int p1, Value.ref a_o2] below meth c H locs 0 0 Q (F0 m 12 ls [.int k0]) := by
  unfold J_J6_getChars_ba4f3_12 at hF
  intro H locs ls hP hD hS hl
  have h9 := fixPD (ws' := [k_B E a_o2 m9 c_o2]) hP hD rfl
  clear hP hD
  obtain ⟨hP, hD⟩ := h9
  refine lv_istore (lv' := [(6, .int k0), (0, .int x0), (2, .ref a_o2), (5, .int x5)]) hx hb (dq_54 0 bcJ6_getChars_ba4f3_0 (j := 12) (i := 6) rfl rfl) hl (by decide) rfl (fun ls hl => ?_)
  refine lv_iload hx hb (dq_21 0 bcJ6_getChars_ba4f3_0 (j := 14) (i := 6) rfl rfl) (lv_at hl 0 rfl) ?_
  refine lv_if_ne (tgt := 22) hx hb (dq_154 0 bcJ6_getChars_ba4f3_0 (j := 16) (i := 6) rfl rfl rfl) (by decide) (fun c_2 => ?_) (fun c_2 => ?_)
  ·
    replace hF := inn c_2 hF
    replace hF := bd3_s hF
    obtain ⟨x0_10, x5_11, c_o2_12, hL_13, hF⟩ := hF
    refine lw_J6_getChars_ba4f3_22 l E K (p0 := p0) (p1 := p1) (m9 := m9) (x6 := k0) hx hb hml hown hts hK hN hA hZ K x0 x5 c_o2 x0_10 x5_11 c_o2_12 hL_13 ?_ H locs ls (hP.sub [0] rfl) (hD.sub [0] (by decide) rfl) hS (lv_sub hl [1, 2, 3, 0] rfl)
    ·
      intro H locs ls hP hD hS hl
      have h9 := fixPD (ws' := [k_B E a_o2 m9 c_o2_12]) hP hD rfl
      clear hP hD
      obtain ⟨hP, hD⟩ := h9
      refine lv_aload_n hx hb (dq_44 48 bcJ6_getChars_ba4f3_1 (j := 24) rfl rfl) rfl (lv_at hl 1 rfl) ?_
      refine lv_iinc (v := x5_11 + (-1 : Int32)) (lv' := [(5, .int (x5_11 + (-1 : Int32))), (0, .int x0_10), (2, .ref a_o2), (6, .int k0)]) hx hb (dq_132 48 bcJ6_getChars_ba4f3_1 (j := 25) (i := -1) rfl rfl rfl) hl (k := 2) rfl (by exact rfl) (by decide) rfl (fun ls hl => ?_)
      refine lv_iload hx hb (dq_21 48 bcJ6_getChars_ba4f3_1 (j := 28) (i := 5) rfl rfl) (lv_at hl 0 rfl) ?_
      refine va_gets hx hb hZ.2.2.1.2.1 hS hown (hts (.fieldLink RJ6 83 "java/lang/Integer" "DigitOnes" "[B") (List.mem_of_getElem? (i := 1) rfl)) (fun _ h9 => h9) (dq_178 48 bcJ6_getChars_ba4f3_1 (j := 30) (i := 83) rfl rfl rfl) ?_
      refine lv_iload_n hx hb (dq_26 48 bcJ6_getChars_ba4f3_1 (j := 33) rfl rfl) rfl (lv_at hl 1 rfl) ?_
      refine lv_ineg hx hb (dq_116 48 bcJ6_getChars_ba4f3_1 (j := 34) rfl rfl) ?_
      replace hF := ix_s hF
      obtain ⟨hi_14, hF⟩ := hF
      refine va_tb (v := .int (onesF (-x0_10).toNatClampNeg)) hx hb (hZ.2.2.1.2.2.1) hS hi_14 rfl (dq_51 48 bcJ6_getChars_ba4f3_1 (j := 35) rfl rfl) ?_
      replace hF := ix_s hF
      obtain ⟨hi_15, hF⟩ := hF
      refine va_bast hx hb hK hP hD hS 0 1 rfl rfl hi_15 (dq_84 48 bcJ6_getChars_ba4f3_1 (j := 36) rfl rfl) (fun H locs hP hD hS => ?_)
      have h9 := fixPD (ws' := [k_B E a_o2 m9 (upd c_o2_12 (x5_11 + (-1 : Int32)).toNatClampNeg (vp_nar .byte (onesF (-x0_10).toNatClampNeg)))]) hP hD rfl
      clear hP hD
      obtain ⟨hP, hD⟩ := h9
      replace hF := nm_s hF
      obtain ⟨f_16, hf_16, hF⟩ := hF
      rw [← hf_16] at hP hD
      refine lv_iload_n hx hb (dq_26 48 bcJ6_getChars_ba4f3_1 (j := 37) rfl rfl) rfl (lv_at hl 1 rfl) ?_
      refine lv_bipush (v := -9) hx hb (dq_16 48 bcJ6_getChars_ba4f3_1 (j := 38) (i := -9) rfl rfl rfl) (by decide) ?_
      refine lv_icmp_ge (tgt := 104) hx hb (dq_162 48 bcJ6_getChars_ba4f3_1 (j := 40) (i := 16) rfl rfl rfl) (by decide) (fun c_17 => ?_) (fun c_17 => ?_)
      ·
        replace hF := ip c_17 hF
        refine lv_iload hx hb (dq_21 96 bcJ6_getChars_ba4f3_2 (j := 8) (i := 6) rfl rfl) (lv_at hl 3 rfl) ?_
        refine lv_if_eq (tgt := 118) hx hb (dq_153 96 bcJ6_getChars_ba4f3_2 (j := 10) (i := 12) rfl rfl rfl) (by decide) (fun c_18 => ?_) (fun c_18 => ?_)
        ·
          replace hF := ip c_18 hF
          refine lv_iload hx hb (dq_21 96 bcJ6_getChars_ba4f3_2 (j := 22) (i := 5) rfl rfl) (lv_at hl 0 rfl) ?_
          rw [hQ]
          have h9 := fin9 (P := fun u9 : Int32 × (Nat → Int32) => (x5_11 + (-1 : Int32)) = u9.1 ∧ va_P E.1 vwCl (w_J6_getChars_ba4f3 E a_o2 u9.2 m9) H ∧ va_D A (w_J6_getChars_ba4f3 E a_o2 u9.2 m9)) hF ⟨rfl, hP, hD⟩
          obtain ⟨e9_0, hP9, hD9⟩ := h9
          exact W.iret (v := x5_11 + (-1 : Int32)) hx hb hr (fun tt ht hW => ⟨⟨_, (), rfl, e9_0, ht ▸ hP9, hD9⟩, hS.F ht⟩) hS.2.2 (dq_172 96 bcJ6_getChars_ba4f3_2 (j := 24) rfl rfl)
        ·
          replace hF := inn c_18 hF
          refine lv_aload_n hx hb (dq_44 96 bcJ6_getChars_ba4f3_2 (j := 13) rfl rfl) rfl (lv_at hl 2 rfl) ?_
          refine lv_iinc (v := (x5_11 + (-1 : Int32)) + (-1 : Int32)) (lv' := [(5, .int ((x5_11 + (-1 : Int32)) + (-1 : Int32))), (0, .int x0_10), (2, .ref a_o2), (6, .int k0)]) hx hb (dq_132 96 bcJ6_getChars_ba4f3_2 (j := 14) (i := -1) rfl rfl rfl) hl (k := 0) rfl (by exact rfl) (by decide) rfl (fun ls hl => ?_)
          refine lv_iload hx hb (dq_21 96 bcJ6_getChars_ba4f3_2 (j := 17) (i := 5) rfl rfl) (lv_at hl 0 rfl) ?_
          refine lv_bipush (v := 45) hx hb (dq_16 96 bcJ6_getChars_ba4f3_2 (j := 19) (i := 45) rfl rfl rfl) (by decide) ?_
          replace hF := ix_s hF
          obtain ⟨hi_19, hF⟩ := hF
          refine va_bast hx hb hK hP hD hS 0 1 rfl rfl hi_19 (dq_84 96 bcJ6_getChars_ba4f3_2 (j := 21) rfl rfl) (fun H locs hP hD hS => ?_)
          have h9 := fixPD (ws' := [k_B E a_o2 m9 (upd f_16 ((x5_11 + (-1 : Int32)) + (-1 : Int32)).toNatClampNeg (vp_nar .byte (45 : Int32)))]) hP hD rfl
          clear hP hD
          obtain ⟨hP, hD⟩ := h9
          replace hF := nm_s hF
          obtain ⟨f_20, hf_20, hF⟩ := hF
          rw [← hf_20] at hP hD
          refine lv_iload hx hb (dq_21 96 bcJ6_getChars_ba4f3_2 (j := 22) (i := 5) rfl rfl) (lv_at hl 0 rfl) ?_
          rw [hQ]
          have h9 := fin9 (P := fun u9 : Int32 × (Nat → Int32) => ((x5_11 + (-1 : Int32)) + (-1 : Int32)) = u9.1 ∧ va_P E.1 vwCl (w_J6_getChars_ba4f3 E a_o2 u9.2 m9) H ∧ va_D A (w_J6_getChars_ba4f3 E a_o2 u9.2 m9)) hF ⟨rfl, hP, hD⟩
          obtain ⟨e9_0, hP9, hD9⟩ := h9
          exact W.iret (v := (x5_11 + (-1 : Int32)) + (-1 : Int32)) hx hb hr (fun tt ht hW => ⟨⟨_, (), rfl, e9_0, ht ▸ hP9, hD9⟩, hS.F ht⟩) hS.2.2 (dq_172 96 bcJ6_getChars_ba4f3_2 (j := 24) rfl rfl)
      ·
        replace hF := inn c_17 hF
        refine lv_aload_n hx hb (dq_44 48 bcJ6_getChars_ba4f3_1 (j := 43) rfl rfl) rfl (lv_at hl 2 rfl) ?_
        refine lv_iinc (v := (x5_11 + (-1 : Int32)) + (-1 : Int32)) (lv' := [(5, .int ((x5_11 + (-1 : Int32)) + (-1 : Int32))), (0, .int x0_10), (2, .ref a_o2), (6, .int k0)]) hx hb (dq_132 48 bcJ6_getChars_ba4f3_1 (j := 44) (i := -1) rfl rfl rfl) hl (k := 0) rfl (by exact rfl) (by decide) rfl (fun ls hl => ?_)
        refine lv_iload hx hb (dq_21 48 bcJ6_getChars_ba4f3_1 (j := 47) (i := 5) rfl rfl) (lv_at hl 0 rfl) ?_
        refine va_gets hx hb hZ.2.2.1.2.2.2.1 hS hown (hts (.fieldLink RJ6 87 "java/lang/Integer" "DigitTens" "[B") (List.mem_of_getElem? (i := 2) rfl)) (fun _ h9 => h9) (dq_178 96 bcJ6_getChars_ba4f3_2 (j := 1) (i := 87) rfl rfl rfl) ?_
        refine lv_iload_n hx hb (dq_26 96 bcJ6_getChars_ba4f3_2 (j := 4) rfl rfl) rfl (lv_at hl 1 rfl) ?_
        refine lv_ineg hx hb (dq_116 96 bcJ6_getChars_ba4f3_2 (j := 5) rfl rfl) ?_
        replace hF := ix_s hF
        obtain ⟨hi_21, hF⟩ := hF
        refine va_tb (v := .int (tensF (-x0_10).toNatClampNeg)) hx hb (hZ.2.2.1.2.2.2.2.1) hS hi_21 rfl (dq_51 96 bcJ6_getChars_ba4f3_2 (j := 6) rfl rfl) ?_
        replace hF := ix_s hF
        obtain ⟨hi_22, hF⟩ := hF
        refine va_bast hx hb hK hP hD hS 0 1 rfl rfl hi_22 (dq_84 96 bcJ6_getChars_ba4f3_2 (j := 7) rfl rfl) (fun H locs hP hD hS => ?_)
        have h9 := fixPD (ws' := [k_B E a_o2 m9 (upd f_16 ((x5_11 + (-1 : Int32)) + (-1 : Int32)).toNatClampNeg (vp_nar .byte (tensF (-x0_10).toNatClampNeg)))]) hP hD rfl
        clear hP hD
        obtain ⟨hP, hD⟩ := h9
        replace hF := nm_s hF
        obtain ⟨f_23, hf_23, hF⟩ := hF
        rw [← hf_23] at hP hD
        refine lv_iload hx hb (dq_21 96 bcJ6_getChars_ba4f3_2 (j := 8) (i := 6) rfl rfl) (lv_at hl 3 rfl) ?_
        refine lv_if_eq (tgt := 118) hx hb (dq_153 96 bcJ6_getChars_ba4f3_2 (j := 10) (i := 12) rfl rfl rfl) (by decide) (fun c_24 => ?_) (fun c_24 => ?_)
        ·
          replace hF := ip c_24 hF
          refine lv_iload hx hb (dq_21 96 bcJ6_getChars_ba4f3_2 (j := 22) (i := 5) rfl rfl) (lv_at hl 0 rfl) ?_
          rw [hQ]
          have h9 := fin9 (P := fun u9 : Int32 × (Nat → Int32) => ((x5_11 + (-1 : Int32)) + (-1 : Int32)) = u9.1 ∧ va_P E.1 vwCl (w_J6_getChars_ba4f3 E a_o2 u9.2 m9) H ∧ va_D A (w_J6_getChars_ba4f3 E a_o2 u9.2 m9)) hF ⟨rfl, hP, hD⟩
          obtain ⟨e9_0, hP9, hD9⟩ := h9
          exact W.iret (v := (x5_11 + (-1 : Int32)) + (-1 : Int32)) hx hb hr (fun tt ht hW => ⟨⟨_, (), rfl, e9_0, ht ▸ hP9, hD9⟩, hS.F ht⟩) hS.2.2 (dq_172 96 bcJ6_getChars_ba4f3_2 (j := 24) rfl rfl)
        ·
          replace hF := inn c_24 hF
          refine lv_aload_n hx hb (dq_44 96 bcJ6_getChars_ba4f3_2 (j := 13) rfl rfl) rfl (lv_at hl 2 rfl) ?_
          refine lv_iinc (v := ((x5_11 + (-1 : Int32)) + (-1 : Int32)) + (-1 : Int32)) (lv' := [(5, .int (((x5_11 + (-1 : Int32)) + (-1 : Int32)) + (-1 : Int32))), (0, .int x0_10), (2, .ref a_o2), (6, .int k0)]) hx hb (dq_132 96 bcJ6_getChars_ba4f3_2 (j := 14) (i := -1) rfl rfl rfl) hl (k := 0) rfl (by exact rfl) (by decide) rfl (fun ls hl => ?_)
          refine lv_iload hx hb (dq_21 96 bcJ6_getChars_ba4f3_2 (j := 17) (i := 5) rfl rfl) (lv_at hl 0 rfl) ?_
          refine lv_bipush (v := 45) hx hb (dq_16 96 bcJ6_getChars_ba4f3_2 (j := 19) (i := 45) rfl rfl rfl) (by decide) ?_
          replace hF := ix_s hF
          obtain ⟨hi_25, hF⟩ := hF
          refine va_bast hx hb hK hP hD hS 0 1 rfl rfl hi_25 (dq_84 96 bcJ6_getChars_ba4f3_2 (j := 21) rfl rfl) (fun H locs hP hD hS => ?_)
          have h9 := fixPD (ws' := [k_B E a_o2 m9 (upd f_23 (((x5_11 + (-1 : Int32)) + (-1 : Int32)) + (-1 : Int32)).toNatClampNeg (vp_nar .byte (45 : Int32)))]) hP hD rfl
          clear hP hD
          obtain ⟨hP, hD⟩ := h9
          replace hF := nm_s hF
          obtain ⟨f_26, hf_26, hF⟩ := hF
          rw [← hf_26] at hP hD
          refine lv_iload hx hb (dq_21 96 bcJ6_getChars_ba4f3_2 (j := 22) (i := 5) rfl rfl) (lv_at hl 0 rfl) ?_
          rw [hQ]
          have h9 := fin9 (P := fun u9 : Int32 × (Nat → Int32) => (((x5_11 + (-1 : Int32)) + (-1 : Int32)) + (-1 : Int32)) = u9.1 ∧ va_P E.1 vwCl (w_J6_getChars_ba4f3 E a_o2 u9.2 m9) H ∧ va_D A (w_J6_getChars_ba4f3 E a_o2 u9.2 m9)) hF ⟨rfl, hP, hD⟩
          obtain ⟨e9_0, hP9, hD9⟩ := h9
          exact W.iret (v := ((x5_11 + (-1 : Int32)) + (-1 : Int32)) + (-1 : Int32)) hx hb hr (fun tt ht hW => ⟨⟨_, (), rfl, e9_0, ht ▸ hP9, hD9⟩, hS.F ht⟩) hS.2.2 (dq_172 96 bcJ6_getChars_ba4f3_2 (j := 24) rfl rfl)
  ·
    replace hF := ip c_2 hF
    refine lv_iload_n hx hb (dq_26 0 bcJ6_getChars_ba4f3_0 (j := 19) rfl rfl) rfl (lv_at hl 1 rfl) ?_
    refine lv_ineg hx hb (dq_116 0 bcJ6_getChars_ba4f3_0 (j := 20) rfl rfl) ?_
    refine lv_istore_n (lv' := [(0, .int (-x0)), (6, .int k0), (2, .ref a_o2), (5, .int x5)]) hx hb (dq_59 0 bcJ6_getChars_ba4f3_0 (j := 21) rfl rfl) rfl hl (by decide) rfl (fun ls hl => ?_)
    replace hF := bd3_s hF
    obtain ⟨x0_27, x5_28, c_o2_29, hL_30, hF⟩ := hF
    refine lw_J6_getChars_ba4f3_22 l E K (p0 := p0) (p1 := p1) (m9 := m9) (x6 := k0) hx hb hml hown hts hK hN hA hZ K (-x0) x5 c_o2 x0_27 x5_28 c_o2_29 hL_30 ?_ H locs ls (hP.sub [0] rfl) (hD.sub [0] (by decide) rfl) hS (lv_sub hl [0, 2, 3, 1] rfl)
    ·
      intro H locs ls hP hD hS hl
      have h9 := fixPD (ws' := [k_B E a_o2 m9 c_o2_29]) hP hD rfl
      clear hP hD
      obtain ⟨hP, hD⟩ := h9
      refine lv_aload_n hx hb (dq_44 48 bcJ6_getChars_ba4f3_1 (j := 24) rfl rfl) rfl (lv_at hl 1 rfl) ?_
      refine lv_iinc (v := x5_28 + (-1 : Int32)) (lv' := [(5, .int (x5_28 + (-1 : Int32))), (0, .int x0_27), (2, .ref a_o2), (6, .int k0)]) hx hb (dq_132 48 bcJ6_getChars_ba4f3_1 (j := 25) (i := -1) rfl rfl rfl) hl (k := 2) rfl (by exact rfl) (by decide) rfl (fun ls hl => ?_)
      refine lv_iload hx hb (dq_21 48 bcJ6_getChars_ba4f3_1 (j := 28) (i := 5) rfl rfl) (lv_at hl 0 rfl) ?_
      refine va_gets hx hb hZ.2.2.1.2.1 hS hown (hts (.fieldLink RJ6 83 "java/lang/Integer" "DigitOnes" "[B") (List.mem_of_getElem? (i := 1) rfl)) (fun _ h9 => h9) (dq_178 48 bcJ6_getChars_ba4f3_1 (j := 30) (i := 83) rfl rfl rfl) ?_
      refine lv_iload_n hx hb (dq_26 48 bcJ6_getChars_ba4f3_1 (j := 33) rfl rfl) rfl (lv_at hl 1 rfl) ?_
      refine lv_ineg hx hb (dq_116 48 bcJ6_getChars_ba4f3_1 (j := 34) rfl rfl) ?_
      replace hF := ix_s hF
      obtain ⟨hi_31, hF⟩ := hF
      refine va_tb (v := .int (onesF (-x0_27).toNatClampNeg)) hx hb (hZ.2.2.1.2.2.1) hS hi_31 rfl (dq_51 48 bcJ6_getChars_ba4f3_1 (j := 35) rfl rfl) ?_
      replace hF := ix_s hF
      obtain ⟨hi_32, hF⟩ := hF
      refine va_bast hx hb hK hP hD hS 0 1 rfl rfl hi_32 (dq_84 48 bcJ6_getChars_ba4f3_1 (j := 36) rfl rfl) (fun H locs hP hD hS => ?_)
      have h9 := fixPD (ws' := [k_B E a_o2 m9 (upd c_o2_29 (x5_28 + (-1 : Int32)).toNatClampNeg (vp_nar .byte (onesF (-x0_27).toNatClampNeg)))]) hP hD rfl
      clear hP hD
      obtain ⟨hP, hD⟩ := h9
      replace hF := nm_s hF
      obtain ⟨f_33, hf_33, hF⟩ := hF
      rw [← hf_33] at hP hD
      refine lv_iload_n hx hb (dq_26 48 bcJ6_getChars_ba4f3_1 (j := 37) rfl rfl) rfl (lv_at hl 1 rfl) ?_
      refine lv_bipush (v := -9) hx hb (dq_16 48 bcJ6_getChars_ba4f3_1 (j := 38) (i := -9) rfl rfl rfl) (by decide) ?_
      refine lv_icmp_ge (tgt := 104) hx hb (dq_162 48 bcJ6_getChars_ba4f3_1 (j := 40) (i := 16) rfl rfl rfl) (by decide) (fun c_34 => ?_) (fun c_34 => ?_)
      ·
        replace hF := ip c_34 hF
        refine lv_iload hx hb (dq_21 96 bcJ6_getChars_ba4f3_2 (j := 8) (i := 6) rfl rfl) (lv_at hl 3 rfl) ?_
        refine lv_if_eq (tgt := 118) hx hb (dq_153 96 bcJ6_getChars_ba4f3_2 (j := 10) (i := 12) rfl rfl rfl) (by decide) (fun c_35 => ?_) (fun c_35 => ?_)
        ·
          replace hF := ip c_35 hF
          refine lv_iload hx hb (dq_21 96 bcJ6_getChars_ba4f3_2 (j := 22) (i := 5) rfl rfl) (lv_at hl 0 rfl) ?_
          rw [hQ]
          have h9 := fin9 (P := fun u9 : Int32 × (Nat → Int32) => (x5_28 + (-1 : Int32)) = u9.1 ∧ va_P E.1 vwCl (w_J6_getChars_ba4f3 E a_o2 u9.2 m9) H ∧ va_D A (w_J6_getChars_ba4f3 E a_o2 u9.2 m9)) hF ⟨rfl, hP, hD⟩
          obtain ⟨e9_0, hP9, hD9⟩ := h9
          exact W.iret (v := x5_28 + (-1 : Int32)) hx hb hr (fun tt ht hW => ⟨⟨_, (), rfl, e9_0, ht ▸ hP9, hD9⟩, hS.F ht⟩) hS.2.2 (dq_172 96 bcJ6_getChars_ba4f3_2 (j := 24) rfl rfl)
        ·
          replace hF := inn c_35 hF
          refine lv_aload_n hx hb (dq_44 96 bcJ6_getChars_ba4f3_2 (j := 13) rfl rfl) rfl (lv_at hl 2 rfl) ?_
          refine lv_iinc (v := (x5_28 + (-1 : Int32)) + (-1 : Int32)) (lv' := [(5, .int ((x5_28 + (-1 : Int32)) + (-1 : Int32))), (0, .int x0_27), (2, .ref a_o2), (6, .int k0)]) hx hb (dq_132 96 bcJ6_getChars_ba4f3_2 (j := 14) (i := -1) rfl rfl rfl) hl (k := 0) rfl (by exact rfl) (by decide) rfl (fun ls hl => ?_)
          refine lv_iload hx hb (dq_21 96 bcJ6_getChars_ba4f3_2 (j := 17) (i := 5) rfl rfl) (lv_at hl 0 rfl) ?_
          refine lv_bipush (v := 45) hx hb (dq_16 96 bcJ6_getChars_ba4f3_2 (j := 19) (i := 45) rfl rfl rfl) (by decide) ?_
          replace hF := ix_s hF
          obtain ⟨hi_36, hF⟩ := hF
          refine va_bast hx hb hK hP hD hS 0 1 rfl rfl hi_36 (dq_84 96 bcJ6_getChars_ba4f3_2 (j := 21) rfl rfl) (fun H locs hP hD hS => ?_)
          have h9 := fixPD (ws' := [k_B E a_o2 m9 (upd f_33 ((x5_28 + (-1 : Int32)) + (-1 : Int32)).toNatClampNeg (vp_nar .byte (45 : Int32)))]) hP hD rfl
          clear hP hD
          obtain ⟨hP, hD⟩ := h9
          replace hF := nm_s hF
          obtain ⟨f_37, hf_37, hF⟩ := hF
          rw [← hf_37] at hP hD
          refine lv_iload hx hb (dq_21 96 bcJ6_getChars_ba4f3_2 (j := 22) (i := 5) rfl rfl) (lv_at hl 0 rfl) ?_
          rw [hQ]
          have h9 := fin9 (P := fun u9 : Int32 × (Nat → Int32) => ((x5_28 + (-1 : Int32)) + (-1 : Int32)) = u9.1 ∧ va_P E.1 vwCl (w_J6_getChars_ba4f3 E a_o2 u9.2 m9) H ∧ va_D A (w_J6_getChars_ba4f3 E a_o2 u9.2 m9)) hF ⟨rfl, hP, hD⟩
          obtain ⟨e9_0, hP9, hD9⟩ := h9
          exact W.iret (v := (x5_28 + (-1 : Int32)) + (-1 : Int32)) hx hb hr (fun tt ht hW => ⟨⟨_, (), rfl, e9_0, ht ▸ hP9, hD9⟩, hS.F ht⟩) hS.2.2 (dq_172 96 bcJ6_getChars_ba4f3_2 (j := 24) rfl rfl)
      ·
        replace hF := inn c_34 hF
        refine lv_aload_n hx hb (dq_44 48 bcJ6_getChars_ba4f3_1 (j := 43) rfl rfl) rfl (lv_at hl 2 rfl) ?_
        refine lv_iinc (v := (x5_28 + (-1 : Int32)) + (-1 : Int32)) (lv' := [(5, .int ((x5_28 + (-1 : Int32)) + (-1 : Int32))), (0, .int x0_27), (2, .ref a_o2), (6, .int k0)]) hx hb (dq_132 48 bcJ6_getChars_ba4f3_1 (j := 44) (i := -1) rfl rfl rfl) hl (k := 0) rfl (by exact rfl) (by decide) rfl (fun ls hl => ?_)
        refine lv_iload hx hb (dq_21 48 bcJ6_getChars_ba4f3_1 (j := 47) (i := 5) rfl rfl) (lv_at hl 0 rfl) ?_
        refine va_gets hx hb hZ.2.2.1.2.2.2.1 hS hown (hts (.fieldLink RJ6 87 "java/lang/Integer" "DigitTens" "[B") (List.mem_of_getElem? (i := 2) rfl)) (fun _ h9 => h9) (dq_178 96 bcJ6_getChars_ba4f3_2 (j := 1) (i := 87) rfl rfl rfl) ?_
        refine lv_iload_n hx hb (dq_26 96 bcJ6_getChars_ba4f3_2 (j := 4) rfl rfl) rfl (lv_at hl 1 rfl) ?_
        refine lv_ineg hx hb (dq_116 96 bcJ6_getChars_ba4f3_2 (j := 5) rfl rfl) ?_
        replace hF := ix_s hF
        obtain ⟨hi_38, hF⟩ := hF
        refine va_tb (v := .int (tensF (-x0_27).toNatClampNeg)) hx hb (hZ.2.2.1.2.2.2.2.1) hS hi_38 rfl (dq_51 96 bcJ6_getChars_ba4f3_2 (j := 6) rfl rfl) ?_
        replace hF := ix_s hF
        obtain ⟨hi_39, hF⟩ := hF
        refine va_bast hx hb hK hP hD hS 0 1 rfl rfl hi_39 (dq_84 96 bcJ6_getChars_ba4f3_2 (j := 7) rfl rfl) (fun H locs hP hD hS => ?_)
        have h9 := fixPD (ws' := [k_B E a_o2 m9 (upd f_33 ((x5_28 + (-1 : Int32)) + (-1 : Int32)).toNatClampNeg (vp_nar .byte (tensF (-x0_27).toNatClampNeg)))]) hP hD rfl
        clear hP hD
        obtain ⟨hP, hD⟩ := h9
        replace hF := nm_s hF
        obtain ⟨f_40, hf_40, hF⟩ := hF
        rw [← hf_40] at hP hD
        refine lv_iload hx hb (dq_21 96 bcJ6_getChars_ba4f3_2 (j := 8) (i := 6) rfl rfl) (lv_at hl 3 rfl) ?_
        refine lv_if_eq (tgt := 118) hx hb (dq_153 96 bcJ6_getChars_ba4f3_2 (j := 10) (i := 12) rfl rfl rfl) (by decide) (fun c_41 => ?_) (fun c_41 => ?_)
        ·
          replace hF := ip c_41 hF
          refine lv_iload hx hb (dq_21 96 bcJ6_getChars_ba4f3_2 (j := 22) (i := 5) rfl rfl) (lv_at hl 0 rfl) ?_
          rw [hQ]
          have h9 := fin9 (P := fun u9 : Int32 × (Nat → Int32) => ((x5_28 + (-1 : Int32)) + (-1 : Int32)) = u9.1 ∧ va_P E.1 vwCl (w_J6_getChars_ba4f3 E a_o2 u9.2 m9) H ∧ va_D A (w_J6_getChars_ba4f3 E a_o2 u9.2 m9)) hF ⟨rfl, hP, hD⟩
          obtain ⟨e9_0, hP9, hD9⟩ := h9
          exact W.iret (v := (x5_28 + (-1 : Int32)) + (-1 : Int32)) hx hb hr (fun tt ht hW => ⟨⟨_, (), rfl, e9_0, ht ▸ hP9, hD9⟩, hS.F ht⟩) hS.2.2 (dq_172 96 bcJ6_getChars_ba4f3_2 (j := 24) rfl rfl)
        ·
          replace hF := inn c_41 hF
          refine lv_aload_n hx hb (dq_44 96 bcJ6_getChars_ba4f3_2 (j := 13) rfl rfl) rfl (lv_at hl 2 rfl) ?_
          refine lv_iinc (v := ((x5_28 + (-1 : Int32)) + (-1 : Int32)) + (-1 : Int32)) (lv' := [(5, .int (((x5_28 + (-1 : Int32)) + (-1 : Int32)) + (-1 : Int32))), (0, .int x0_27), (2, .ref a_o2), (6, .int k0)]) hx hb (dq_132 96 bcJ6_getChars_ba4f3_2 (j := 14) (i := -1) rfl rfl rfl) hl (k := 0) rfl (by exact rfl) (by decide) rfl (fun ls hl => ?_)
          refine lv_iload hx hb (dq_21 96 bcJ6_getChars_ba4f3_2 (j := 17) (i := 5) rfl rfl) (lv_at hl 0 rfl) ?_
          refine lv_bipush (v := 45) hx hb (dq_16 96 bcJ6_getChars_ba4f3_2 (j := 19) (i := 45) rfl rfl rfl) (by decide) ?_
          replace hF := ix_s hF
          obtain ⟨hi_42, hF⟩ := hF
          refine va_bast hx hb hK hP hD hS 0 1 rfl rfl hi_42 (dq_84 96 bcJ6_getChars_ba4f3_2 (j := 21) rfl rfl) (fun H locs hP hD hS => ?_)
          have h9 := fixPD (ws' := [k_B E a_o2 m9 (upd f_40 (((x5_28 + (-1 : Int32)) + (-1 : Int32)) + (-1 : Int32)).toNatClampNeg (vp_nar .byte (45 : Int32)))]) hP hD rfl
          clear hP hD
          obtain ⟨hP, hD⟩ := h9
          replace hF := nm_s hF
          obtain ⟨f_43, hf_43, hF⟩ := hF
          rw [← hf_43] at hP hD
          refine lv_iload hx hb (dq_21 96 bcJ6_getChars_ba4f3_2 (j := 22) (i := 5) rfl rfl) (lv_at hl 0 rfl) ?_
          rw [hQ]
          have h9 := fin9 (P := fun u9 : Int32 × (Nat → Int32) => (((x5_28 + (-1 : Int32)) + (-1 : Int32)) + (-1 : Int32)) = u9.1 ∧ va_P E.1 vwCl (w_J6_getChars_ba4f3 E a_o2 u9.2 m9) H ∧ va_D A (w_J6_getChars_ba4f3 E a_o2 u9.2 m9)) hF ⟨rfl, hP, hD⟩
          obtain ⟨e9_0, hP9, hD9⟩ := h9
          exact W.iret (v := ((x5_28 + (-1 : Int32)) + (-1 : Int32)) + (-1 : Int32)) hx hb hr (fun tt ht hW => ⟨⟨_, (), rfl, e9_0, ht ▸ hP9, hD9⟩, hS.F ht⟩) hS.2.2 (dq_172 96 bcJ6_getChars_ba4f3_2 (j := 24) rfl rfl)

set_option maxHeartbeats 4000000 in
set_option maxRecDepth 100000 in
theorem f_J6_getChars_ba4f3 (l : Launch) (E : EE) (sz : Nat) (K : Nat) (z9 : Nat → Nat) {a_o2 : Nat} {p0 : Int32} {p1 : Int32} {c_o2 : Nat → Int32} {m9 : Nat} {rr : Int32} {n_o2 : Nat → Int32} (hF : F_J6_getChars_ba4f3 K p0 p1 c_o2 m9 = some (rr, n_o2)) : Met l yJ6_getChars_ba4f3 v_f_J6_getChars_ba4f3 (({ frames := 0, cells := 0, slots := 0, locals := 0 } : Room)) (va_Pc [.int p0, .int p1, .ref a_o2] (qWZ E z9 sz (w_J6_getChars_ba4f3 E a_o2 c_o2 m9))) (va_Qi (fun (q : Int32) (_u : Unit) => q = rr) (fun (_u : Unit) tt => va_P E.1 vwCl (w_J6_getChars_ba4f3 E a_o2 n_o2 m9) tt.heap ∧ va_D (va_A (w_J6_getChars_ba4f3 E a_o2 c_o2 m9) sz) (w_J6_getChars_ba4f3 E a_o2 n_o2 m9)) (va_A (w_J6_getChars_ba4f3 E a_o2 c_o2 m9) sz)) 0 0 (va_A (w_J6_getChars_ba4f3 E a_o2 c_o2 m9) sz) := by
  refine Met.ofWF (cc := cJ6_getChars_ba4f3) (maxL := 7) (ret := (some .int)) (by decide +kernel) rfl ?_
  intro p e s m args below meth c s₁ B hml hv
  obtain ⟨rfl, hsz, ⟨hK, hN⟩, hP, hD0, hZ⟩ := hv
  have hx := B.exec
  have hb := B.bytes
  have hr := B.returns
  have hts := atoms_spec (ws := v_f_J6_getChars_ba4f3) B.pre
  have hown : s.vm.findClass RJ6 = some m.cls := own_of hd_J6_getChars_ba4f3.1 (findClass_of_methodNamed B.named)
  have hlocks : meth.locks = false := B.notSynchronized
  subst hsz
  have hD := hD0.self (sz := s.heap.size)
  generalize hAe : va_A (w_J6_getChars_ba4f3 E a_o2 c_o2 m9) s.heap.size = A at hD hZ ⊢
  have hA : ∀ q : Nat, s.heap.size ≤ q → A q := fun q h => by rw [← hAe]; exact Or.inr h
  have hS : va_S A s.heap s.heap [] := va_S.rf
  have hl := lv_entry ([.int p0, .int p1, .ref a_o2]) (n := 7) (Nat.le_of_ble_eq_true rfl)
  rw [lg_entry_eq]
  generalize (lg_sl ([.int p0, .int p1, .ref a_o2]) ++ List.replicate (7 - (lg_sl ([.int p0, .int p1, .ref a_o2])).length) Slot.unset).toArray = ls at hl ⊢
  have hl : lv_has ls 7 [(0, .int p0), (1, .int p1), (2, .ref a_o2)] := hl
  obtain ⟨Q, hQ⟩ : ∃ Q : State → Prop, Q = MQ below (va_Qi (fun (q : Int32) (_u : Unit) => q = rr) (fun (_u : Unit) tt => va_P E.1 vwCl (w_J6_getChars_ba4f3 E a_o2 n_o2 m9) tt.heap ∧ va_D A (w_J6_getChars_ba4f3 E a_o2 n_o2 m9)) A) #[Value.int p0, Value.int p1, Value.ref a_o2] s 0 0 A := ⟨_, rfl⟩
  rw [← hQ]
  change W p l e ({ frames := 0, cells := 0, slots := 0, locals := 0 } : Room) s m #[Value.int p0, Value.int p1, Value.ref a_o2] below meth c s.heap [] 0 0 Q (F0 m 0 ls [])
  suffices hh9 : ∀ (H : Heap) (locs : List Loc), va_P E.1 vwCl (w_J6_getChars_ba4f3 E a_o2 c_o2 m9) H → va_D A (w_J6_getChars_ba4f3 E a_o2 c_o2 m9) → va_S A s.heap H locs → W p l e ({ frames := 0, cells := 0, slots := 0, locals := 0 } : Room) s m #[Value.int p0, Value.int p1, Value.ref a_o2] below meth c H locs 0 0 Q (F0 m 0 ls []) from hh9 s.heap [] hP hD hS
  clear hP hD hS
  intro H locs hP hD hS
  have h9 := fixPD (ws' := [k_B E a_o2 m9 c_o2]) hP hD rfl
  clear hP hD
  obtain ⟨hP, hD⟩ := h9
  unfold F_J6_getChars_ba4f3 at hF
  refine lv_iload_n hx hb (dq_27 0 bcJ6_getChars_ba4f3_0 (j := 0) rfl rfl) rfl (lv_at hl 1 rfl) ?_
  refine lv_istore (lv' := [(5, .int p1), (0, .int p0), (1, .int p1), (2, .ref a_o2)]) hx hb (dq_54 0 bcJ6_getChars_ba4f3_0 (j := 1) (i := 5) rfl rfl) hl (by decide) rfl (fun ls hl => ?_)
  refine lv_iload_n hx hb (dq_26 0 bcJ6_getChars_ba4f3_0 (j := 3) rfl rfl) rfl (lv_at hl 1 rfl) ?_
  refine lv_if_ge (tgt := 11) hx hb (dq_156 0 bcJ6_getChars_ba4f3_0 (j := 4) (i := 7) rfl rfl rfl) (by decide) (fun c_1 => ?_) (fun c_1 => ?_)
  ·
    replace hF := ip c_1 hF
    refine lv_iconst (v := 0) hx hb (dq_3 0 bcJ6_getChars_ba4f3_0 (j := 11) rfl rfl) (by decide) ?_
    exact j_J6_getChars_ba4f3_12 l E K (p0 := p0) (p1 := p1) (m9 := m9) (k0 := (0 : Int32)) (x0 := p0) (x5 := p1) (c_o2 := c_o2) hx hb hml hown hts hK hN hA hZ hr hlocks hQ hF H locs ls (hP.sub [0] rfl) (hD.sub [0] (by decide) rfl) hS (lv_sub hl [1, 3, 0] rfl)
  ·
    replace hF := inn c_1 hF
    refine lv_iconst (v := 1) hx hb (dq_4 0 bcJ6_getChars_ba4f3_0 (j := 7) rfl rfl) (by decide) ?_
    refine lv_goto (tgt := 12) hx hb (dq_167 0 bcJ6_getChars_ba4f3_0 (j := 8) (i := 4) rfl rfl rfl) (by decide) ?_
    exact j_J6_getChars_ba4f3_12 l E K (p0 := p0) (p1 := p1) (m9 := m9) (k0 := (1 : Int32)) (x0 := p0) (x5 := p1) (c_o2 := c_o2) hx hb hml hown hts hK hN hA hZ hr hlocks hQ hF H locs ls (hP.sub [0] rfl) (hD.sub [0] (by decide) rfl) hS (lv_sub hl [1, 3, 0] rfl)

def F_J5_length_8abf5 (c_count : Int32) : Option (Int32) :=
  some c_count
theorem gw_wsJ40 : wsJ40.all goodWord = true := by decide +kernel
abbrev w_J5_length_8abf5 (E : EE) (a_ a_value : Nat) (c_coder : Int32) (c_maybeLatin1 : Int32) (c_count : Int32) : va_W := [k_J4 a_ a_value c_coder c_maybeLatin1 c_count]
def v_f_J5_length_8abf5 : List Cond := List.cons (.code yJ5_length_8abf5 cJ5_length_8abf5 1 (some .int)) (HAppend.hAppend (α := List Cond) (β := List Cond) (γ := List Cond) [.fieldLink RJ5 79 "java/lang/AbstractStringBuilder" "count" "I"] (HAppend.hAppend (α := List Cond) (β := List Cond) (γ := List Cond) wsJ40 []))
theorem gw_f_J5_length_8abf5 : v_f_J5_length_8abf5.all goodWord = true := gw_c2 (by decide +kernel) (gw_ap gw_wsJ40 gw_nil)
theorem i_f_J5_length_8abf5_J4 : ∀ w ∈ wsJ40, w ∈ v_f_J5_length_8abf5 := fun _ h => List.mem_cons_of_mem _ (List.mem_append_right _ (List.mem_append_left _ h))
theorem hd_J5_length_8abf5 : yJ5_length_8abf5.cls = RJ5 ∧ yJ5_length_8abf5.cls ≠ "java/lang/invoke/MethodHandle" ∧ yJ5_length_8abf5.cls ≠ "java/lang/invoke/VarHandle" ∧ (parseMethodDescriptor yJ5_length_8abf5.desc).map (fun d => d.parameters.length) = some 0 := by decide +kernel
set_option maxHeartbeats 4000000 in
set_option maxRecDepth 100000 in
theorem f_J5_length_8abf5 (l : Launch) (E : EE) {a_ a_value : Nat} {c_coder : Int32} {c_maybeLatin1 : Int32} {c_count : Int32} {rr : Int32} (hF : F_J5_length_8abf5 c_count = some rr) : Met l yJ5_length_8abf5 v_f_J5_length_8abf5 (({ frames := 0, cells := 0, slots := 0, locals := 0 } : Room)) (va_Pc [.ref a_] (pP E (w_J5_length_8abf5 E a_ a_value c_coder c_maybeLatin1 c_count))) (vp_Si (fun q : Int32 => q = rr)) 0 0 (fun _ => False) := by
  refine Met.ofWF (cc := cJ5_length_8abf5) (maxL := 1) (ret := (some .int)) (by decide +kernel) rfl ?_
  intro p e s m args below meth c s₁ B hml hv
  obtain ⟨rfl, ⟨hK, hN⟩, hP⟩ := hv
  have hx := B.exec
  have hb := B.bytes
  have hr := B.returns
  have hts := atoms_spec (ws := v_f_J5_length_8abf5) B.pre
  have hown : s.vm.findClass RJ5 = some m.cls := own_of hd_J5_length_8abf5.1 (findClass_of_methodNamed B.named)
  have hlocks : meth.locks = false := B.notSynchronized
  replace hP : va_P E.1 vwCl [k_J4 a_ a_value c_coder c_maybeLatin1 c_count] s.heap := hP
  have hl := lv_entry ([.ref a_]) (n := 1) (Nat.le_of_ble_eq_true rfl)
  rw [lg_entry_eq]
  generalize (lg_sl ([.ref a_]) ++ List.replicate (1 - (lg_sl ([.ref a_])).length) Slot.unset).toArray = ls at hl ⊢
  have hl : lv_has ls 1 [(0, .ref a_)] := hl
  obtain ⟨Q, hQ⟩ : ∃ Q : State → Prop, Q = MQ below (vp_Si (fun q : Int32 => q = rr)) #[Value.ref a_] s 0 0 (fun _ => False) := ⟨_, rfl⟩
  rw [← hQ]
  change W p l e ({ frames := 0, cells := 0, slots := 0, locals := 0 } : Room) s m #[Value.ref a_] below meth c s.heap [] 0 0 Q (F0 m 0 ls [])
  unfold F_J5_length_8abf5 at hF
  refine lv_aload_n hx hb (dq_42 0 bcJ5_length_8abf5_0 (j := 0) rfl rfl) rfl (lv_at hl 0 rfl) ?_
  refine gt_J4_3 (v := .int c_count) hx hb hts i_f_J5_length_8abf5_J4 hown hK hP 0 rfl (hts (.fieldLink RJ5 79 "java/lang/AbstractStringBuilder" "count" "I") (List.mem_of_getElem? (i := 1) rfl)) rfl (dq_180 0 bcJ5_length_8abf5_0 (j := 1) (i := 79) rfl rfl rfl) ?_
  rw [hQ]
  obtain e9_0 := inj1 hF
  exact W.iret (v := c_count) hx hb hr (fun tt ht hW => ⟨_, rfl, e9_0, ht⟩) (fun _ h => by cases h) (dq_172 0 bcJ5_length_8abf5_0 (j := 4) rfl rfl)

def F_J5_isLatin1_aae02 (c_coder : Int32) : Option (Int32) :=
  if c_coder = (0 : Int32) then some (1 : Int32) else some (0 : Int32)
abbrev w_J5_isLatin1_aae02 (E : EE) (a_ a_value : Nat) (c_coder : Int32) (c_maybeLatin1 : Int32) (c_count : Int32) : va_W := [k_J4 a_ a_value c_coder c_maybeLatin1 c_count]
def v_f_J5_isLatin1_aae02 : List Cond := List.cons (.code yJ5_isLatin1_aae02 cJ5_isLatin1_aae02 1 (some .boolean)) (HAppend.hAppend (α := List Cond) (β := List Cond) (γ := List Cond) [.fieldLink RJ5 18 "java/lang/String" "COMPACT_STRINGS" "Z", .fieldLink RJ5 22 "java/lang/AbstractStringBuilder" "coder" "B"] (HAppend.hAppend (α := List Cond) (β := List Cond) (γ := List Cond) wsJ40 []))
theorem gw_f_J5_isLatin1_aae02 : v_f_J5_isLatin1_aae02.all goodWord = true := gw_c2 (by decide +kernel) (gw_ap gw_wsJ40 gw_nil)
theorem i_f_J5_isLatin1_aae02_J4 : ∀ w ∈ wsJ40, w ∈ v_f_J5_isLatin1_aae02 := fun _ h => List.mem_cons_of_mem _ (List.mem_append_right _ (List.mem_append_left _ h))
theorem hd_J5_isLatin1_aae02 : yJ5_isLatin1_aae02.cls = RJ5 ∧ yJ5_isLatin1_aae02.cls ≠ "java/lang/invoke/MethodHandle" ∧ yJ5_isLatin1_aae02.cls ≠ "java/lang/invoke/VarHandle" ∧ (parseMethodDescriptor yJ5_isLatin1_aae02.desc).map (fun d => d.parameters.length) = some 0 := by decide +kernel
set_option maxHeartbeats 4000000 in
set_option maxRecDepth 100000 in
theorem f_J5_isLatin1_aae02 (l : Launch) (E : EE) (z9 : Nat → Nat) {a_ a_value : Nat} {c_coder : Int32} {c_maybeLatin1 : Int32} {c_count : Int32} {rr : Int32} (hF : F_J5_isLatin1_aae02 c_coder = some rr) : Met l yJ5_isLatin1_aae02 v_f_J5_isLatin1_aae02 (({ frames := 0, cells := 0, slots := 0, locals := 0 } : Room)) (va_Pc [.ref a_] (qPZ E z9 (w_J5_isLatin1_aae02 E a_ a_value c_coder c_maybeLatin1 c_count))) (vp_Si (fun q : Int32 => q = rr ∧ (q = 0 ∨ q = 1))) 0 0 (fun _ => False) := by
  refine Met.ofWF (cc := cJ5_isLatin1_aae02) (maxL := 1) (ret := (some .boolean)) (by decide +kernel) rfl ?_
  intro p e s m args below meth c s₁ B hml hv
  obtain ⟨rfl, ⟨hK, hN⟩, hP, hZ⟩ := hv
  have hx := B.exec
  have hb := B.bytes
  have hr := B.returns
  have hts := atoms_spec (ws := v_f_J5_isLatin1_aae02) B.pre
  have hown : s.vm.findClass RJ5 = some m.cls := own_of hd_J5_isLatin1_aae02.1 (findClass_of_methodNamed B.named)
  have hlocks : meth.locks = false := B.notSynchronized
  replace hP : va_P E.1 vwCl [k_J4 a_ a_value c_coder c_maybeLatin1 c_count] s.heap := hP
  have hl := lv_entry ([.ref a_]) (n := 1) (Nat.le_of_ble_eq_true rfl)
  rw [lg_entry_eq]
  generalize (lg_sl ([.ref a_]) ++ List.replicate (1 - (lg_sl ([.ref a_])).length) Slot.unset).toArray = ls at hl ⊢
  have hl : lv_has ls 1 [(0, .ref a_)] := hl
  obtain ⟨Q, hQ⟩ : ∃ Q : State → Prop, Q = MQ below (vp_Si (fun q : Int32 => q = rr ∧ (q = 0 ∨ q = 1))) #[Value.ref a_] s 0 0 (fun _ => False) := ⟨_, rfl⟩
  rw [← hQ]
  change W p l e ({ frames := 0, cells := 0, slots := 0, locals := 0 } : Room) s m #[Value.ref a_] below meth c s.heap [] 0 0 Q (F0 m 0 ls [])
  unfold F_J5_isLatin1_aae02 at hF
  refine va_gets hx hb hZ.2.2.1.1 (va_S.rf) hown (hts (.fieldLink RJ5 18 "java/lang/String" "COMPACT_STRINGS" "Z") (List.mem_of_getElem? (i := 1) rfl)) (fun _ h9 => h9) (dq_178 0 bcJ5_isLatin1_aae02_0 (j := 0) (i := 18) rfl rfl rfl) ?_
  refine lv_if_eq (tgt := 17) hx hb (dq_153 0 bcJ5_isLatin1_aae02_0 (j := 3) (i := 14) rfl rfl rfl) (by decide) (fun q => absurd q (by decide)) (fun _ => ?_)
  refine lv_aload_n hx hb (dq_42 0 bcJ5_isLatin1_aae02_0 (j := 6) rfl rfl) rfl (lv_at hl 0 rfl) ?_
  refine gt_J4_1 (v := .int c_coder) hx hb hts i_f_J5_isLatin1_aae02_J4 hown hK hP 0 rfl (hts (.fieldLink RJ5 22 "java/lang/AbstractStringBuilder" "coder" "B") (List.mem_of_getElem? (i := 2) rfl)) rfl (dq_180 0 bcJ5_isLatin1_aae02_0 (j := 7) (i := 22) rfl rfl rfl) ?_
  refine lv_if_ne (tgt := 17) hx hb (dq_154 0 bcJ5_isLatin1_aae02_0 (j := 10) (i := 7) rfl rfl rfl) (by decide) (fun c_1 => ?_) (fun c_1 => ?_)
  ·
    replace hF := inn c_1 hF
    refine lv_iconst (v := 0) hx hb (dq_3 0 bcJ5_isLatin1_aae02_0 (j := 17) rfl rfl) (by decide) ?_
    rw [hQ]
    obtain e9_0 := inj1 hF
    exact W.zret (v := (0 : Int32)) hx hb hr rfl (fun tt ht hW => ⟨_, rfl, ⟨e9_0, Or.inl rfl⟩, ht⟩) (fun _ h => by cases h) (dq_172 0 bcJ5_isLatin1_aae02_0 (j := 18) rfl rfl)
  ·
    replace hF := ip c_1 hF
    refine lv_iconst (v := 1) hx hb (dq_4 0 bcJ5_isLatin1_aae02_0 (j := 13) rfl rfl) (by decide) ?_
    refine lv_goto (tgt := 18) hx hb (dq_167 0 bcJ5_isLatin1_aae02_0 (j := 14) (i := 4) rfl rfl rfl) (by decide) ?_
    rw [hQ]
    obtain e9_0 := inj1 hF
    exact W.zret (v := (1 : Int32)) hx hb hr rfl (fun tt ht hW => ⟨_, rfl, ⟨e9_0, Or.inr rfl⟩, ht⟩) (fun _ h => by cases h) (dq_172 0 bcJ5_isLatin1_aae02_0 (j := 18) rfl rfl)

def F_J1_canEncode_fc78d (p0 : Int32) : Option (Int32) :=
  if (255 : Int32) < p0 then some (0 : Int32) else some (1 : Int32)

def v_f_J1_canEncode_fc78d : List Cond := List.cons (.code yJ1_canEncode_fc78d cJ1_canEncode_fc78d 1 (some .boolean)) (HAppend.hAppend (α := List Cond) (β := List Cond) (γ := List Cond) [] [])
theorem gw_f_J1_canEncode_fc78d : v_f_J1_canEncode_fc78d.all goodWord = true := gw_c2 (by decide +kernel) gw_nil
theorem hd_J1_canEncode_fc78d : yJ1_canEncode_fc78d.cls = RJ1 ∧ yJ1_canEncode_fc78d.cls ≠ "java/lang/invoke/MethodHandle" ∧ yJ1_canEncode_fc78d.cls ≠ "java/lang/invoke/VarHandle" ∧ (parseMethodDescriptor yJ1_canEncode_fc78d.desc).map (fun d => d.parameters.length) = some 1 := by decide +kernel
set_option maxHeartbeats 4000000 in
set_option maxRecDepth 100000 in
theorem f_J1_canEncode_fc78d (l : Launch) (E : EE) {p0 : Int32} {rr : Int32} (hF : F_J1_canEncode_fc78d p0 = some rr) : Met l yJ1_canEncode_fc78d v_f_J1_canEncode_fc78d (({ frames := 0, cells := 0, slots := 0, locals := 0 } : Room)) (va_Pc [.int p0] (pP E [])) (vp_Si (fun q : Int32 => q = rr ∧ (q = 0 ∨ q = 1))) 0 0 (fun _ => False) := by
  refine Met.ofWF (cc := cJ1_canEncode_fc78d) (maxL := 1) (ret := (some .boolean)) (by decide +kernel) rfl ?_
  intro p e s m args below meth c s₁ B hml hv
  obtain ⟨rfl, ⟨hK, hN⟩, hP⟩ := hv
  have hx := B.exec
  have hb := B.bytes
  have hr := B.returns
  have hts := atoms_spec (ws := v_f_J1_canEncode_fc78d) B.pre
  have hown : s.vm.findClass RJ1 = some m.cls := own_of hd_J1_canEncode_fc78d.1 (findClass_of_methodNamed B.named)
  have hlocks : meth.locks = false := B.notSynchronized
  replace hP : va_P E.1 vwCl [] s.heap := hP
  have hl := lv_entry ([.int p0]) (n := 1) (Nat.le_of_ble_eq_true rfl)
  rw [lg_entry_eq]
  generalize (lg_sl ([.int p0]) ++ List.replicate (1 - (lg_sl ([.int p0])).length) Slot.unset).toArray = ls at hl ⊢
  have hl : lv_has ls 1 [(0, .int p0)] := hl
  obtain ⟨Q, hQ⟩ : ∃ Q : State → Prop, Q = MQ below (vp_Si (fun q : Int32 => q = rr ∧ (q = 0 ∨ q = 1))) #[Value.int p0] s 0 0 (fun _ => False) := ⟨_, rfl⟩
  rw [← hQ]
  change W p l e ({ frames := 0, cells := 0, slots := 0, locals := 0 } : Room) s m #[Value.int p0] below meth c s.heap [] 0 0 Q (F0 m 0 ls [])
  unfold F_J1_canEncode_fc78d at hF
  refine lv_iload_n hx hb (dq_26 0 bcJ1_canEncode_fc78d_0 (j := 0) rfl rfl) rfl (lv_at hl 0 rfl) ?_
  refine lv_sipush (v := 255) hx hb (dq_17 0 bcJ1_canEncode_fc78d_0 (j := 1) (i := 255) rfl rfl rfl) (by decide) ?_
  refine lv_icmp_gt (tgt := 11) hx hb (dq_163 0 bcJ1_canEncode_fc78d_0 (j := 4) (i := 7) rfl rfl rfl) (by decide) (fun c_1 => ?_) (fun c_1 => ?_)
  ·
    replace hF := ip c_1 hF
    refine lv_iconst (v := 0) hx hb (dq_3 0 bcJ1_canEncode_fc78d_0 (j := 11) rfl rfl) (by decide) ?_
    rw [hQ]
    obtain e9_0 := inj1 hF
    exact W.zret (v := (0 : Int32)) hx hb hr rfl (fun tt ht hW => ⟨_, rfl, ⟨e9_0, Or.inl rfl⟩, ht⟩) (fun _ h => by cases h) (dq_172 0 bcJ1_canEncode_fc78d_0 (j := 12) rfl rfl)
  ·
    replace hF := inn c_1 hF
    refine lv_iconst (v := 1) hx hb (dq_4 0 bcJ1_canEncode_fc78d_0 (j := 7) rfl rfl) (by decide) ?_
    refine lv_goto (tgt := 12) hx hb (dq_167 0 bcJ1_canEncode_fc78d_0 (j := 8) (i := 4) rfl rfl rfl) (by decide) ?_
    rw [hQ]
    obtain e9_0 := inj1 hF
    exact W.zret (v := (1 : Int32)) hx hb hr rfl (fun tt ht hW => ⟨_, rfl, ⟨e9_0, Or.inr rfl⟩, ht⟩) (fun _ h => by cases h) (dq_172 0 bcJ1_canEncode_fc78d_0 (j := 12) rfl rfl)

def F_J8_newLength_cabcc (p0 : Int32) (p1 : Int32) (p2 : Int32) : Option (Int32) :=
  if p0 + (maxF p1 p2) ≤ (0 : Int32) then none else if (2147483639 : Int32) < p0 + (maxF p1 p2) then none else some (p0 + (maxF p1 p2))

def v_f_J8_newLength_cabcc : List Cond := List.cons (.code yJ8_newLength_cabcc cJ8_newLength_cabcc 4 (some .int)) (HAppend.hAppend (α := List Cond) (β := List Cond) (γ := List Cond) [.methodLink RJ8 194 Lib.Math.max.name, .static Lib.Math.max.name, .initialized "java/lang/Math", .code Lib.Math.max.name Lib.Math.max.code 2 (some .int), .constant RJ8 200 (2147483639)] [])
theorem gw_f_J8_newLength_cabcc : v_f_J8_newLength_cabcc.all goodWord = true := gw_c2 (by decide +kernel) gw_nil
theorem hd_J8_newLength_cabcc : yJ8_newLength_cabcc.cls = RJ8 ∧ yJ8_newLength_cabcc.cls ≠ "java/lang/invoke/MethodHandle" ∧ yJ8_newLength_cabcc.cls ≠ "java/lang/invoke/VarHandle" ∧ (parseMethodDescriptor yJ8_newLength_cabcc.desc).map (fun d => d.parameters.length) = some 3 := by decide +kernel
set_option maxHeartbeats 4000000 in
set_option maxRecDepth 100000 in
theorem f_J8_newLength_cabcc (l : Launch) (E : EE) {p0 : Int32} {p1 : Int32} {p2 : Int32} {rr : Int32} (hF : F_J8_newLength_cabcc p0 p1 p2 = some rr) : Met l yJ8_newLength_cabcc v_f_J8_newLength_cabcc (({ frames := 1, cells := 0, slots := 0, locals := 21 } : Room)) (va_Pc [.int p0, .int p1, .int p2] (pP E [])) (vp_Si (fun q : Int32 => q = rr)) 0 0 (fun _ => False) := by
  refine Met.ofWF (cc := cJ8_newLength_cabcc) (maxL := 4) (ret := (some .int)) (by decide +kernel) rfl ?_
  intro p e s m args below meth c s₁ B hml hv
  obtain ⟨rfl, ⟨hK, hN⟩, hP⟩ := hv
  have hx := B.exec
  have hb := B.bytes
  have hr := B.returns
  have hts := atoms_spec (ws := v_f_J8_newLength_cabcc) B.pre
  have hown : s.vm.findClass RJ8 = some m.cls := own_of hd_J8_newLength_cabcc.1 (findClass_of_methodNamed B.named)
  have hlocks : meth.locks = false := B.notSynchronized
  replace hP : va_P E.1 vwCl [] s.heap := hP
  have hl := lv_entry ([.int p0, .int p1, .int p2]) (n := 4) (Nat.le_of_ble_eq_true rfl)
  rw [lg_entry_eq]
  generalize (lg_sl ([.int p0, .int p1, .int p2]) ++ List.replicate (4 - (lg_sl ([.int p0, .int p1, .int p2])).length) Slot.unset).toArray = ls at hl ⊢
  have hl : lv_has ls 4 [(0, .int p0), (1, .int p1), (2, .int p2)] := hl
  obtain ⟨Q, hQ⟩ : ∃ Q : State → Prop, Q = MQ below (vp_Si (fun q : Int32 => q = rr)) #[Value.int p0, Value.int p1, Value.int p2] s 0 0 (fun _ => False) := ⟨_, rfl⟩
  rw [← hQ]
  change W p l e ({ frames := 1, cells := 0, slots := 0, locals := 21 } : Room) s m #[Value.int p0, Value.int p1, Value.int p2] below meth c s.heap [] 0 0 Q (F0 m 0 ls [])
  unfold F_J8_newLength_cabcc at hF
  refine lv_iload_n hx hb (dq_26 0 bcJ8_newLength_cabcc_0 (j := 0) rfl rfl) rfl (lv_at hl 0 rfl) ?_
  refine lv_iload_n hx hb (dq_27 0 bcJ8_newLength_cabcc_0 (j := 1) rfl rfl) rfl (lv_at hl 1 rfl) ?_
  refine lv_iload_n hx hb (dq_28 0 bcJ8_newLength_cabcc_0 (j := 2) rfl rfl) rfl (lv_at hl 2 rfl) ?_
  refine va_mmax hx hb (hml.trans hl.1.symm) hown (hts (.methodLink RJ8 194 Lib.Math.max.name) (List.mem_of_getElem? (i := 1) rfl)) (hts (.static Lib.Math.max.name) (List.mem_of_getElem? (i := 2) rfl)) (hts (.initialized "java/lang/Math") (List.mem_of_getElem? (i := 3) rfl)) (hts (.code Lib.Math.max.name Lib.Math.max.code 2 (some .int)) (List.mem_of_getElem? (i := 4) rfl)) (Nat.le_of_ble_eq_true rfl) (Nat.le_of_ble_eq_true rfl) (Nat.le_of_ble_eq_true rfl) (Nat.le_of_ble_eq_true rfl) (dq_184 0 bcJ8_newLength_cabcc_0 (j := 3) (i := 194) rfl rfl rfl) ?_
  refine W.eq (g2 := F0 m 6 ls [.int (maxF p1 p2), .int p0]) rfl ?_
  refine lv_iadd hx hb (dq_96 0 bcJ8_newLength_cabcc_0 (j := 6) rfl rfl) ?_
  refine lv_istore_n (lv' := [(3, .int (p0 + (maxF p1 p2))), (0, .int p0), (1, .int p1), (2, .int p2)]) hx hb (dq_62 0 bcJ8_newLength_cabcc_0 (j := 7) rfl rfl) rfl hl (by decide) rfl (fun ls hl => ?_)
  refine lv_iconst (v := 0) hx hb (dq_3 0 bcJ8_newLength_cabcc_0 (j := 8) rfl rfl) (by decide) ?_
  refine lv_iload_n hx hb (dq_29 0 bcJ8_newLength_cabcc_0 (j := 9) rfl rfl) rfl (lv_at hl 0 rfl) ?_
  refine lv_icmp_ge (tgt := 21) hx hb (dq_162 0 bcJ8_newLength_cabcc_0 (j := 10) (i := 11) rfl rfl rfl) (by decide) (fun c_1 => ?_) (fun c_1 => ?_)
  ·
    replace hF := ip c_1 hF
    cases hF
  ·
    replace hF := inn c_1 hF
    refine lv_iload_n hx hb (dq_29 0 bcJ8_newLength_cabcc_0 (j := 13) rfl rfl) rfl (lv_at hl 0 rfl) ?_
    refine lv_ldc (v := 2147483639) hx hb hown (hts (.constant RJ8 200 (2147483639)) (List.mem_of_getElem? (i := 5) rfl)) (dq_18 0 bcJ8_newLength_cabcc_0 (j := 14) (i := 200) rfl rfl) ?_
    refine lv_icmp_gt (tgt := 21) hx hb (dq_163 0 bcJ8_newLength_cabcc_0 (j := 16) (i := 5) rfl rfl rfl) (by decide) (fun c_2 => ?_) (fun c_2 => ?_)
    ·
      replace hF := ip c_2 hF
      cases hF
    ·
      replace hF := inn c_2 hF
      refine lv_iload_n hx hb (dq_29 0 bcJ8_newLength_cabcc_0 (j := 19) rfl rfl) rfl (lv_at hl 0 rfl) ?_
      rw [hQ]
      obtain e9_0 := inj1 hF
      exact W.iret (v := p0 + (maxF p1 p2)) hx hb hr (fun tt ht hW => ⟨_, rfl, e9_0, ht⟩) (fun _ h => by cases h) (dq_172 0 bcJ8_newLength_cabcc_0 (j := 20) rfl rfl)

def F_J5_newCapacity_0f7a4 (p1 : Int32) (c_coder : Int32) (m9 : Nat) : Option (Int32) :=
  bd1 (F_J8_newLength_cabcc (Int32.ofNat m9) ((p1 <<< (c_coder &&& (31 : Int32))) - (Int32.ofNat m9)) ((Int32.ofNat m9) + ((2 : Int32) <<< (c_coder &&& (31 : Int32))))) (fun r_1 => if r_1 = (2147483647 : Int32) then none else some (r_1 >>> (c_coder &&& (31 : Int32))))
abbrev w_J5_newCapacity_0f7a4 (E : EE) (a_ a_value : Nat) (c_coder : Int32) (c_maybeLatin1 : Int32) (c_count : Int32) (c_value : Nat → Int32) (m9 : Nat) : va_W := [k_J4 a_ a_value c_coder c_maybeLatin1 c_count, k_B E a_value m9 c_value]
def v_f_J5_newCapacity_0f7a4 : List Cond := List.cons (.code yJ5_newCapacity_0f7a4 cJ5_newCapacity_0f7a4 6 (some .int)) (HAppend.hAppend (α := List Cond) (β := List Cond) (γ := List Cond) [.fieldLink RJ5 15 "java/lang/AbstractStringBuilder" "value" "[B", .fieldLink RJ5 22 "java/lang/AbstractStringBuilder" "coder" "B", .constant RJ5 39 (2147483647), .methodLink RJ5 114 yJ8_newLength_cabcc, .static yJ8_newLength_cabcc, .initialized RJ8] (HAppend.hAppend (α := List Cond) (β := List Cond) (γ := List Cond) wsJ40 (HAppend.hAppend (α := List Cond) (β := List Cond) (γ := List Cond) v_f_J8_newLength_cabcc [])))
theorem gw_f_J5_newCapacity_0f7a4 : v_f_J5_newCapacity_0f7a4.all goodWord = true := gw_c2 (by decide +kernel) (gw_ap gw_wsJ40 (gw_ap gw_f_J8_newLength_cabcc gw_nil))
theorem i_f_J5_newCapacity_0f7a4_J4 : ∀ w ∈ wsJ40, w ∈ v_f_J5_newCapacity_0f7a4 := fun _ h => List.mem_cons_of_mem _ (List.mem_append_right _ (List.mem_append_left _ h))
theorem g_f_J5_newCapacity_0f7a4_f_J8_newLength_cabcc_114 : GoodIn v_f_J5_newCapacity_0f7a4 (va_wsS RJ5 114 yJ8_newLength_cabcc v_f_J8_newLength_cabcc) := goodIn_in gw_f_J5_newCapacity_0f7a4 (in3 4 5 6 rfl rfl rfl (fun _ h => List.mem_cons_of_mem _ (List.mem_append_right _ (List.mem_append_right _ (List.mem_append_left _ h)))))
theorem hd_J5_newCapacity_0f7a4 : yJ5_newCapacity_0f7a4.cls = RJ5 ∧ yJ5_newCapacity_0f7a4.cls ≠ "java/lang/invoke/MethodHandle" ∧ yJ5_newCapacity_0f7a4.cls ≠ "java/lang/invoke/VarHandle" ∧ (parseMethodDescriptor yJ5_newCapacity_0f7a4.desc).map (fun d => d.parameters.length) = some 1 := by decide +kernel
set_option maxHeartbeats 4000000 in
set_option maxRecDepth 100000 in
theorem f_J5_newCapacity_0f7a4 (l : Launch) (E : EE) {a_ a_value : Nat} {p1 : Int32} {c_coder : Int32} {c_maybeLatin1 : Int32} {c_count : Int32} {c_value : Nat → Int32} {m9 : Nat} {rr : Int32} (hF : F_J5_newCapacity_0f7a4 p1 c_coder m9 = some rr) : Met l yJ5_newCapacity_0f7a4 v_f_J5_newCapacity_0f7a4 (({ frames := 2, cells := 0, slots := 0, locals := 44 } : Room)) (va_Pc [.ref a_, .int p1] (pP E (w_J5_newCapacity_0f7a4 E a_ a_value c_coder c_maybeLatin1 c_count c_value m9))) (vp_Si (fun q : Int32 => q = rr)) 0 0 (fun _ => False) := by
  refine Met.ofWF (cc := cJ5_newCapacity_0f7a4) (maxL := 6) (ret := (some .int)) (by decide +kernel) rfl ?_
  intro p e s m args below meth c s₁ B hml hv
  obtain ⟨rfl, ⟨hK, hN⟩, hP⟩ := hv
  have hx := B.exec
  have hb := B.bytes
  have hr := B.returns
  have hts := atoms_spec (ws := v_f_J5_newCapacity_0f7a4) B.pre
  have hown : s.vm.findClass RJ5 = some m.cls := own_of hd_J5_newCapacity_0f7a4.1 (findClass_of_methodNamed B.named)
  have hlocks : meth.locks = false := B.notSynchronized
  replace hP : va_P E.1 vwCl [k_J4 a_ a_value c_coder c_maybeLatin1 c_count, k_B E a_value m9 c_value] s.heap := hP
  have hl := lv_entry ([.ref a_, .int p1]) (n := 6) (Nat.le_of_ble_eq_true rfl)
  rw [lg_entry_eq]
  generalize (lg_sl ([.ref a_, .int p1]) ++ List.replicate (6 - (lg_sl ([.ref a_, .int p1])).length) Slot.unset).toArray = ls at hl ⊢
  have hl : lv_has ls 6 [(0, .ref a_), (1, .int p1)] := hl
  obtain ⟨Q, hQ⟩ : ∃ Q : State → Prop, Q = MQ below (vp_Si (fun q : Int32 => q = rr)) #[Value.ref a_, Value.int p1] s 0 0 (fun _ => False) := ⟨_, rfl⟩
  rw [← hQ]
  change W p l e ({ frames := 2, cells := 0, slots := 0, locals := 44 } : Room) s m #[Value.ref a_, Value.int p1] below meth c s.heap [] 0 0 Q (F0 m 0 ls [])
  unfold F_J5_newCapacity_0f7a4 at hF
  refine lv_aload_n hx hb (dq_42 0 bcJ5_newCapacity_0f7a4_0 (j := 0) rfl rfl) rfl (lv_at hl 0 rfl) ?_
  refine gt_J4_0 (v := .ref a_value) hx hb hts i_f_J5_newCapacity_0f7a4_J4 hown hK hP 0 rfl (hts (.fieldLink RJ5 15 "java/lang/AbstractStringBuilder" "value" "[B") (List.mem_of_getElem? (i := 1) rfl)) rfl (dq_180 0 bcJ5_newCapacity_0f7a4_0 (j := 1) (i := 15) rfl rfl rfl) ?_
  refine va_alen (v := (Int32.ofNat m9)) hx hb hK hP 1 1 rfl rfl rfl (dq_190 0 bcJ5_newCapacity_0f7a4_0 (j := 4) rfl rfl) ?_
  refine lv_istore_n (lv' := [(2, .int (Int32.ofNat m9)), (0, .ref a_), (1, .int p1)]) hx hb (dq_61 0 bcJ5_newCapacity_0f7a4_0 (j := 5) rfl rfl) rfl hl (by decide) rfl (fun ls hl => ?_)
  refine lv_iload_n hx hb (dq_27 0 bcJ5_newCapacity_0f7a4_0 (j := 6) rfl rfl) rfl (lv_at hl 2 rfl) ?_
  refine lv_aload_n hx hb (dq_42 0 bcJ5_newCapacity_0f7a4_0 (j := 7) rfl rfl) rfl (lv_at hl 1 rfl) ?_
  refine gt_J4_1 (v := .int c_coder) hx hb hts i_f_J5_newCapacity_0f7a4_J4 hown hK hP 0 rfl (hts (.fieldLink RJ5 22 "java/lang/AbstractStringBuilder" "coder" "B") (List.mem_of_getElem? (i := 2) rfl)) rfl (dq_180 0 bcJ5_newCapacity_0f7a4_0 (j := 8) (i := 22) rfl rfl rfl) ?_
  refine lv_ishl hx hb (dq_120 0 bcJ5_newCapacity_0f7a4_0 (j := 11) rfl rfl) ?_
  refine lv_istore_n (lv' := [(3, .int (p1 <<< (c_coder &&& (31 : Int32)))), (2, .int (Int32.ofNat m9)), (0, .ref a_), (1, .int p1)]) hx hb (dq_62 0 bcJ5_newCapacity_0f7a4_0 (j := 12) rfl rfl) rfl hl (by decide) rfl (fun ls hl => ?_)
  refine lv_iload_n hx hb (dq_29 0 bcJ5_newCapacity_0f7a4_0 (j := 13) rfl rfl) rfl (lv_at hl 0 rfl) ?_
  refine lv_iload_n hx hb (dq_28 0 bcJ5_newCapacity_0f7a4_0 (j := 14) rfl rfl) rfl (lv_at hl 1 rfl) ?_
  refine lv_isub hx hb (dq_100 0 bcJ5_newCapacity_0f7a4_0 (j := 15) rfl rfl) ?_
  refine lv_istore (lv' := [(4, .int ((p1 <<< (c_coder &&& (31 : Int32))) - (Int32.ofNat m9))), (3, .int (p1 <<< (c_coder &&& (31 : Int32)))), (2, .int (Int32.ofNat m9)), (0, .ref a_), (1, .int p1)]) hx hb (dq_54 0 bcJ5_newCapacity_0f7a4_0 (j := 16) (i := 4) rfl rfl) hl (by decide) rfl (fun ls hl => ?_)
  refine lv_iload_n hx hb (dq_28 0 bcJ5_newCapacity_0f7a4_0 (j := 18) rfl rfl) rfl (lv_at hl 2 rfl) ?_
  refine lv_iload hx hb (dq_21 0 bcJ5_newCapacity_0f7a4_0 (j := 19) (i := 4) rfl rfl) (lv_at hl 0 rfl) ?_
  refine lv_iload_n hx hb (dq_28 0 bcJ5_newCapacity_0f7a4_0 (j := 21) rfl rfl) rfl (lv_at hl 2 rfl) ?_
  refine lv_iconst (v := 2) hx hb (dq_5 0 bcJ5_newCapacity_0f7a4_0 (j := 22) rfl rfl) (by decide) ?_
  refine lv_aload_n hx hb (dq_42 0 bcJ5_newCapacity_0f7a4_0 (j := 23) rfl rfl) rfl (lv_at hl 3 rfl) ?_
  refine gt_J4_1 (v := .int c_coder) hx hb hts i_f_J5_newCapacity_0f7a4_J4 hown hK hP 0 rfl (hts (.fieldLink RJ5 22 "java/lang/AbstractStringBuilder" "coder" "B") (List.mem_of_getElem? (i := 2) rfl)) rfl (dq_180 0 bcJ5_newCapacity_0f7a4_0 (j := 24) (i := 22) rfl rfl rfl) ?_
  refine lv_ishl hx hb (dq_120 0 bcJ5_newCapacity_0f7a4_0 (j := 27) rfl rfl) ?_
  refine lv_iadd hx hb (dq_96 0 bcJ5_newCapacity_0f7a4_0 (j := 28) rfl rfl) ?_
  replace hF := bd1_s hF
  obtain ⟨r_1, hc_2, hF⟩ := hF
  have hPc : va_P E.1 vwCl [] s.heap := fun k q h => by simp at h
  refine pE_i (va_runS (As := [.int (Int32.ofNat m9), .int ((p1 <<< (c_coder &&& (31 : Int32))) - (Int32.ofNat m9)), .int ((Int32.ofNat m9) + ((2 : Int32) <<< (c_coder &&& (31 : Int32))))]) (rest := [])  ⟨hx, hb, hml, hown, hts⟩ (f_J8_newLength_cabcc l E (p0 := (Int32.ofNat m9)) (p1 := (p1 <<< (c_coder &&& (31 : Int32))) - (Int32.ofNat m9)) (p2 := (Int32.ofNat m9) + ((2 : Int32) <<< (c_coder &&& (31 : Int32)))) hc_2) (va_cwS 3 hts g_f_J5_newCapacity_0f7a4_f_J8_newLength_cabcc_114 rfl rfl rfl hd_J8_newLength_cabcc.2 ⟨Nat.le_of_ble_eq_true rfl, Nat.le_of_ble_eq_true rfl⟩) ⟨pP.blind, (pP.pre ⟨hK, hN⟩ hPc)⟩ rfl rfl hl.1 rfl (lv_room (Nat.le_of_ble_eq_true rfl)) (dq_184 0 bcJ5_newCapacity_0f7a4_0 (j := 29) (i := 114) rfl rfl rfl) ⟨Nat.le_of_ble_eq_true rfl, Nat.le_of_ble_eq_true rfl⟩) ?_
  refine lv_istore (lv' := [(5, .int r_1), (4, .int ((p1 <<< (c_coder &&& (31 : Int32))) - (Int32.ofNat m9))), (3, .int (p1 <<< (c_coder &&& (31 : Int32)))), (2, .int (Int32.ofNat m9)), (0, .ref a_), (1, .int p1)]) hx hb (dq_54 0 bcJ5_newCapacity_0f7a4_0 (j := 32) (i := 5) rfl rfl) hl (by decide) rfl (fun ls hl => ?_)
  refine lv_iload hx hb (dq_21 0 bcJ5_newCapacity_0f7a4_0 (j := 34) (i := 5) rfl rfl) (lv_at hl 0 rfl) ?_
  refine lv_ldc (v := 2147483647) hx hb hown (hts (.constant RJ5 39 (2147483647)) (List.mem_of_getElem? (i := 3) rfl)) (dq_18 0 bcJ5_newCapacity_0f7a4_0 (j := 36) (i := 39) rfl rfl) ?_
  refine lv_icmp_ne (tgt := 51) hx hb (dq_160 0 bcJ5_newCapacity_0f7a4_0 (j := 38) (i := 13) rfl rfl rfl) (by decide) (fun c_3 => ?_) (fun c_3 => ?_)
  ·
    replace hF := inn c_3 hF
    refine lv_iload hx hb (dq_21 48 bcJ5_newCapacity_0f7a4_1 (j := 3) (i := 5) rfl rfl) (lv_at hl 0 rfl) ?_
    refine lv_aload_n hx hb (dq_42 48 bcJ5_newCapacity_0f7a4_1 (j := 5) rfl rfl) rfl (lv_at hl 4 rfl) ?_
    refine gt_J4_1 (v := .int c_coder) hx hb hts i_f_J5_newCapacity_0f7a4_J4 hown hK hP 0 rfl (hts (.fieldLink RJ5 22 "java/lang/AbstractStringBuilder" "coder" "B") (List.mem_of_getElem? (i := 2) rfl)) rfl (dq_180 48 bcJ5_newCapacity_0f7a4_1 (j := 6) (i := 22) rfl rfl rfl) ?_
    refine lv_ishr hx hb (dq_122 48 bcJ5_newCapacity_0f7a4_1 (j := 9) rfl rfl) ?_
    rw [hQ]
    obtain e9_0 := inj1 hF
    exact W.iret (v := r_1 >>> (c_coder &&& (31 : Int32))) hx hb hr (fun tt ht hW => ⟨_, rfl, e9_0, ht⟩) (fun _ h => by cases h) (dq_172 48 bcJ5_newCapacity_0f7a4_1 (j := 10) rfl rfl)
  ·
    replace hF := ip c_3 hF
    cases hF

def F_J5_charAt_5068e (p1 : Int32) (c_value : Nat → Int32) (c_coder : Int32) (c_count : Int32) (m9 : Nat) : Option (Int32) :=
  bd1 (F_J0_checkIndex_df160 p1 (minF c_count ((Int32.ofNat m9) >>> (c_coder &&& (31 : Int32))))) (fun u_1 => if c_coder = (0 : Int32) then ixF p1 m9 (some ((((c_value p1.toNatClampNeg) &&& (255 : Int32)).toUInt32 % 65536).toInt32)) else none)
abbrev w_J5_charAt_5068e (E : EE) (a_ a_value : Nat) (c_coder : Int32) (c_maybeLatin1 : Int32) (c_count : Int32) (c_value : Nat → Int32) (m9 : Nat) : va_W := [k_J4 a_ a_value c_coder c_maybeLatin1 c_count, k_B E a_value m9 c_value]
def v_f_J5_charAt_5068e : List Cond := List.cons (.code yJ5_charAt_5068e cJ5_charAt_5068e 5 (some .char)) (HAppend.hAppend (α := List Cond) (β := List Cond) (γ := List Cond) [.fieldLink RJ5 22 "java/lang/AbstractStringBuilder" "coder" "B", .fieldLink RJ5 15 "java/lang/AbstractStringBuilder" "value" "[B", .fieldLink RJ5 79 "java/lang/AbstractStringBuilder" "count" "I", .methodLink RJ5 138 Lib.Math.min.name, .static Lib.Math.min.name, .initialized "java/lang/Math", .code Lib.Math.min.name Lib.Math.min.code 2 (some .int), .methodLink RJ5 144 yJ0_checkIndex_df160, .static yJ0_checkIndex_df160, .initialized RJ0] (HAppend.hAppend (α := List Cond) (β := List Cond) (γ := List Cond) wsJ40 (HAppend.hAppend (α := List Cond) (β := List Cond) (γ := List Cond) v_f_J0_checkIndex_df160 [])))
theorem gw_f_J5_charAt_5068e : v_f_J5_charAt_5068e.all goodWord = true := gw_c2 (by decide +kernel) (gw_ap gw_wsJ40 (gw_ap gw_f_J0_checkIndex_df160 gw_nil))
theorem i_f_J5_charAt_5068e_J4 : ∀ w ∈ wsJ40, w ∈ v_f_J5_charAt_5068e := fun _ h => List.mem_cons_of_mem _ (List.mem_append_right _ (List.mem_append_left _ h))
theorem g_f_J5_charAt_5068e_f_J0_checkIndex_df160_144 : GoodIn v_f_J5_charAt_5068e (va_wsS RJ5 144 yJ0_checkIndex_df160 v_f_J0_checkIndex_df160) := goodIn_in gw_f_J5_charAt_5068e (in3 8 9 10 rfl rfl rfl (fun _ h => List.mem_cons_of_mem _ (List.mem_append_right _ (List.mem_append_right _ (List.mem_append_left _ h)))))
theorem hd_J5_charAt_5068e : yJ5_charAt_5068e.cls = RJ5 ∧ yJ5_charAt_5068e.cls ≠ "java/lang/invoke/MethodHandle" ∧ yJ5_charAt_5068e.cls ≠ "java/lang/invoke/VarHandle" ∧ (parseMethodDescriptor yJ5_charAt_5068e.desc).map (fun d => d.parameters.length) = some 1 := by decide +kernel
set_option maxHeartbeats 4000000 in
set_option maxRecDepth 100000 in
theorem f_J5_charAt_5068e (l : Launch) (E : EE) (z9 : Nat → Nat) {a_ a_value : Nat} {p1 : Int32} {c_coder : Int32} {c_maybeLatin1 : Int32} {c_count : Int32} {c_value : Nat → Int32} {m9 : Nat} {rr : Int32} (hF : F_J5_charAt_5068e p1 c_value c_coder c_count m9 = some rr) : Met l yJ5_charAt_5068e v_f_J5_charAt_5068e (({ frames := 2, cells := 0, slots := 0, locals := 43 } : Room)) (va_Pc [.ref a_, .int p1] (qPZ E z9 (w_J5_charAt_5068e E a_ a_value c_coder c_maybeLatin1 c_count c_value m9))) (vp_Si (fun q : Int32 => q = rr ∧ narrow .char (.int q) = .int q)) 0 0 (fun _ => False) := by
  refine Met.ofWF (cc := cJ5_charAt_5068e) (maxL := 5) (ret := (some .char)) (by decide +kernel) rfl ?_
  intro p e s m args below meth c s₁ B hml hv
  obtain ⟨rfl, ⟨hK, hN⟩, hP, hZ⟩ := hv
  have hx := B.exec
  have hb := B.bytes
  have hr := B.returns
  have hts := atoms_spec (ws := v_f_J5_charAt_5068e) B.pre
  have hown : s.vm.findClass RJ5 = some m.cls := own_of hd_J5_charAt_5068e.1 (findClass_of_methodNamed B.named)
  have hlocks : meth.locks = false := B.notSynchronized
  replace hP : va_P E.1 vwCl [k_J4 a_ a_value c_coder c_maybeLatin1 c_count, k_B E a_value m9 c_value] s.heap := hP
  have hl := lv_entry ([.ref a_, .int p1]) (n := 5) (Nat.le_of_ble_eq_true rfl)
  rw [lg_entry_eq]
  generalize (lg_sl ([.ref a_, .int p1]) ++ List.replicate (5 - (lg_sl ([.ref a_, .int p1])).length) Slot.unset).toArray = ls at hl ⊢
  have hl : lv_has ls 5 [(0, .ref a_), (1, .int p1)] := hl
  obtain ⟨Q, hQ⟩ : ∃ Q : State → Prop, Q = MQ below (vp_Si (fun q : Int32 => q = rr ∧ narrow .char (.int q) = .int q)) #[Value.ref a_, Value.int p1] s 0 0 (fun _ => False) := ⟨_, rfl⟩
  rw [← hQ]
  change W p l e ({ frames := 2, cells := 0, slots := 0, locals := 43 } : Room) s m #[Value.ref a_, Value.int p1] below meth c s.heap [] 0 0 Q (F0 m 0 ls [])
  unfold F_J5_charAt_5068e at hF
  refine lv_aload_n hx hb (dq_42 0 bcJ5_charAt_5068e_0 (j := 0) rfl rfl) rfl (lv_at hl 0 rfl) ?_
  refine gt_J4_1 (v := .int c_coder) hx hb hts i_f_J5_charAt_5068e_J4 hown hK hP 0 rfl (hts (.fieldLink RJ5 22 "java/lang/AbstractStringBuilder" "coder" "B") (List.mem_of_getElem? (i := 1) rfl)) rfl (dq_180 0 bcJ5_charAt_5068e_0 (j := 1) (i := 22) rfl rfl rfl) ?_
  refine lv_istore_n (lv' := [(2, .int c_coder), (0, .ref a_), (1, .int p1)]) hx hb (dq_61 0 bcJ5_charAt_5068e_0 (j := 4) rfl rfl) rfl hl (by decide) rfl (fun ls hl => ?_)
  refine lv_aload_n hx hb (dq_42 0 bcJ5_charAt_5068e_0 (j := 5) rfl rfl) rfl (lv_at hl 1 rfl) ?_
  refine gt_J4_0 (v := .ref a_value) hx hb hts i_f_J5_charAt_5068e_J4 hown hK hP 0 rfl (hts (.fieldLink RJ5 15 "java/lang/AbstractStringBuilder" "value" "[B") (List.mem_of_getElem? (i := 2) rfl)) rfl (dq_180 0 bcJ5_charAt_5068e_0 (j := 6) (i := 15) rfl rfl rfl) ?_
  refine lv_astore_n (lv' := [(3, .ref a_value), (2, .int c_coder), (0, .ref a_), (1, .int p1)]) hx hb (dq_78 0 bcJ5_charAt_5068e_0 (j := 9) rfl rfl) rfl hl (by decide) rfl (fun ls hl => ?_)
  refine lv_aload_n hx hb (dq_42 0 bcJ5_charAt_5068e_0 (j := 10) rfl rfl) rfl (lv_at hl 2 rfl) ?_
  refine gt_J4_3 (v := .int c_count) hx hb hts i_f_J5_charAt_5068e_J4 hown hK hP 0 rfl (hts (.fieldLink RJ5 79 "java/lang/AbstractStringBuilder" "count" "I") (List.mem_of_getElem? (i := 3) rfl)) rfl (dq_180 0 bcJ5_charAt_5068e_0 (j := 11) (i := 79) rfl rfl rfl) ?_
  refine lv_aload_n hx hb (dq_45 0 bcJ5_charAt_5068e_0 (j := 14) rfl rfl) rfl (lv_at hl 0 rfl) ?_
  refine va_alen (v := (Int32.ofNat m9)) hx hb hK hP 1 1 rfl rfl rfl (dq_190 0 bcJ5_charAt_5068e_0 (j := 15) rfl rfl) ?_
  refine lv_iload_n hx hb (dq_28 0 bcJ5_charAt_5068e_0 (j := 16) rfl rfl) rfl (lv_at hl 1 rfl) ?_
  refine lv_ishr hx hb (dq_122 0 bcJ5_charAt_5068e_0 (j := 17) rfl rfl) ?_
  refine va_mmin hx hb (hml.trans hl.1.symm) hown (hts (.methodLink RJ5 138 Lib.Math.min.name) (List.mem_of_getElem? (i := 4) rfl)) (hts (.static Lib.Math.min.name) (List.mem_of_getElem? (i := 5) rfl)) (hts (.initialized "java/lang/Math") (List.mem_of_getElem? (i := 6) rfl)) (hts (.code Lib.Math.min.name Lib.Math.min.code 2 (some .int)) (List.mem_of_getElem? (i := 7) rfl)) (Nat.le_of_ble_eq_true rfl) (Nat.le_of_ble_eq_true rfl) (Nat.le_of_ble_eq_true rfl) (Nat.le_of_ble_eq_true rfl) (dq_184 0 bcJ5_charAt_5068e_0 (j := 18) (i := 138) rfl rfl rfl) ?_
  refine W.eq (g2 := F0 m 21 ls [.int (minF c_count ((Int32.ofNat m9) >>> (c_coder &&& (31 : Int32))))]) rfl ?_
  refine lv_istore (lv' := [(4, .int (minF c_count ((Int32.ofNat m9) >>> (c_coder &&& (31 : Int32))))), (3, .ref a_value), (2, .int c_coder), (0, .ref a_), (1, .int p1)]) hx hb (dq_54 0 bcJ5_charAt_5068e_0 (j := 21) (i := 4) rfl rfl) hl (by decide) rfl (fun ls hl => ?_)
  refine lv_iload_n hx hb (dq_27 0 bcJ5_charAt_5068e_0 (j := 23) rfl rfl) rfl (lv_at hl 4 rfl) ?_
  refine lv_iload hx hb (dq_21 0 bcJ5_charAt_5068e_0 (j := 24) (i := 4) rfl rfl) (lv_at hl 0 rfl) ?_
  replace hF := bd1_s hF
  obtain ⟨u_1, hc_2, hF⟩ := hF
  have hPc : va_P E.1 vwCl [] s.heap := fun k q h => by simp at h
  refine pc_v (va_runS (As := [.int p1, .int (minF c_count ((Int32.ofNat m9) >>> (c_coder &&& (31 : Int32))))]) (rest := [])  ⟨hx, hb, hml, hown, hts⟩ (f_J0_checkIndex_df160 l E z9 (p0 := p1) (p1 := (minF c_count ((Int32.ofNat m9) >>> (c_coder &&& (31 : Int32))))) hc_2) (va_cwS 2 hts g_f_J5_charAt_5068e_f_J0_checkIndex_df160_144 rfl rfl rfl hd_J0_checkIndex_df160.2 ⟨Nat.le_of_ble_eq_true rfl, Nat.le_of_ble_eq_true rfl⟩) ⟨qPZ.blind, (qPZ.pre0 ⟨hK, hN⟩ hPc hZ)⟩ rfl rfl hl.1 rfl (lv_room (Nat.le_of_ble_eq_true rfl)) (dq_184 0 bcJ5_charAt_5068e_0 (j := 26) (i := 144) rfl rfl rfl) ⟨Nat.le_of_ble_eq_true rfl, Nat.le_of_ble_eq_true rfl⟩) ?_
  refine lv_iload_n hx hb (dq_28 0 bcJ5_charAt_5068e_0 (j := 29) rfl rfl) rfl (lv_at hl 2 rfl) ?_
  refine lv_if_ne (tgt := 42) hx hb (dq_154 0 bcJ5_charAt_5068e_0 (j := 30) (i := 12) rfl rfl rfl) (by decide) (fun c_3 => ?_) (fun c_3 => ?_)
  ·
    replace hF := inn c_3 hF
    cases hF
  ·
    replace hF := ip c_3 hF
    refine lv_aload_n hx hb (dq_45 0 bcJ5_charAt_5068e_0 (j := 33) rfl rfl) rfl (lv_at hl 1 rfl) ?_
    refine lv_iload_n hx hb (dq_27 0 bcJ5_charAt_5068e_0 (j := 34) rfl rfl) rfl (lv_at hl 4 rfl) ?_
    replace hF := ix_s hF
    obtain ⟨hi_4, hF⟩ := hF
    refine va_bald hx hb hK hP 1 1 rfl rfl hi_4 (dq_51 0 bcJ5_charAt_5068e_0 (j := 35) rfl rfl) ?_
    refine lv_sipush (v := 255) hx hb (dq_17 0 bcJ5_charAt_5068e_0 (j := 36) (i := 255) rfl rfl rfl) (by decide) ?_
    refine lv_iand hx hb (dq_126 0 bcJ5_charAt_5068e_0 (j := 39) rfl rfl) ?_
    refine lv_i2c (v := (((c_value p1.toNatClampNeg) &&& (255 : Int32)).toUInt32 % 65536).toInt32) hx hb (dq_146 0 bcJ5_charAt_5068e_0 (j := 40) rfl rfl) rfl ?_
    rw [hQ]
    obtain e9_0 := inj1 hF
    exact W.zret (v := (((c_value p1.toNatClampNeg) &&& (255 : Int32)).toUInt32 % 65536).toInt32) hx hb hr (nar_c _) (fun tt ht hW => ⟨_, rfl, ⟨e9_0, (nar_c _)⟩, ht⟩) (fun _ h => by cases h) (dq_172 0 bcJ5_charAt_5068e_0 (j := 41) rfl rfl)

def F_J5_inflateIfNeededFor_a7421 (p1 : Nat) (c_coder : Int32) : Option (Unit) :=
  ltF p1 15 (bd1 (F_J0_coder_7d493 p1) (fun r_1 => if c_coder = r_1 then some () else none))
abbrev w_J5_inflateIfNeededFor_a7421 (E : EE) (a_ a_value : Nat) (c_coder : Int32) (c_maybeLatin1 : Int32) (c_count : Int32) : va_W := [k_J4 a_ a_value c_coder c_maybeLatin1 c_count]
def v_f_J5_inflateIfNeededFor_a7421 : List Cond := List.cons (.code yJ5_inflateIfNeededFor_a7421 cJ5_inflateIfNeededFor_a7421 2 none) (HAppend.hAppend (α := List Cond) (β := List Cond) (γ := List Cond) [.fieldLink RJ5 18 "java/lang/String" "COMPACT_STRINGS" "Z", .fieldLink RJ5 22 "java/lang/AbstractStringBuilder" "coder" "B", .methodLink RJ5 40 yJ0_coder_7d493, .instanceMethod yJ0_coder_7d493, .selects RJ0 yJ0_coder_7d493 yJ0_coder_7d493, .initialized RJ0] (HAppend.hAppend (α := List Cond) (β := List Cond) (γ := List Cond) wsJ40 (HAppend.hAppend (α := List Cond) (β := List Cond) (γ := List Cond) v_f_J0_coder_7d493 [])))
theorem gw_f_J5_inflateIfNeededFor_a7421 : v_f_J5_inflateIfNeededFor_a7421.all goodWord = true := gw_c2 (by decide +kernel) (gw_ap gw_wsJ40 (gw_ap gw_f_J0_coder_7d493 gw_nil))
theorem i_f_J5_inflateIfNeededFor_a7421_J4 : ∀ w ∈ wsJ40, w ∈ v_f_J5_inflateIfNeededFor_a7421 := fun _ h => List.mem_cons_of_mem _ (List.mem_append_right _ (List.mem_append_left _ h))
theorem g_f_J5_inflateIfNeededFor_a7421_f_J0_coder_7d493_40 : GoodIn v_f_J5_inflateIfNeededFor_a7421 (wsV RJ5 40 RJ0 yJ0_coder_7d493 v_f_J0_coder_7d493) := goodIn_in gw_f_J5_inflateIfNeededFor_a7421 (in4 3 4 5 6 rfl rfl rfl rfl (fun _ h => List.mem_cons_of_mem _ (List.mem_append_right _ (List.mem_append_right _ (List.mem_append_left _ h)))))
theorem hd_J5_inflateIfNeededFor_a7421 : yJ5_inflateIfNeededFor_a7421.cls = RJ5 ∧ yJ5_inflateIfNeededFor_a7421.cls ≠ "java/lang/invoke/MethodHandle" ∧ yJ5_inflateIfNeededFor_a7421.cls ≠ "java/lang/invoke/VarHandle" ∧ (parseMethodDescriptor yJ5_inflateIfNeededFor_a7421.desc).map (fun d => d.parameters.length) = some 1 := by decide +kernel
set_option maxHeartbeats 4000000 in
set_option maxRecDepth 100000 in
theorem f_J5_inflateIfNeededFor_a7421 (l : Launch) (E : EE) (z9 : Nat → Nat) {a_ a_value : Nat} {p1 : Nat} {c_coder : Int32} {c_maybeLatin1 : Int32} {c_count : Int32} (hF : F_J5_inflateIfNeededFor_a7421 p1 c_coder = some ()) : Met l yJ5_inflateIfNeededFor_a7421 v_f_J5_inflateIfNeededFor_a7421 (({ frames := 1, cells := 0, slots := 0, locals := 20 } : Room)) (va_Pc [.ref a_, .ref (z9 (20 + p1))] (qPZ E z9 (w_J5_inflateIfNeededFor_a7421 E a_ a_value c_coder c_maybeLatin1 c_count))) (va_Sv (fun _ => True)) 0 0 (fun _ => False) := by
  refine Met.ofWF (cc := cJ5_inflateIfNeededFor_a7421) (maxL := 2) (ret := none) (by decide +kernel) rfl ?_
  intro p e s m args below meth c s₁ B hml hv
  obtain ⟨rfl, ⟨hK, hN⟩, hP, hZ⟩ := hv
  have hx := B.exec
  have hb := B.bytes
  have hr := B.returns
  have hts := atoms_spec (ws := v_f_J5_inflateIfNeededFor_a7421) B.pre
  have hown : s.vm.findClass RJ5 = some m.cls := own_of hd_J5_inflateIfNeededFor_a7421.1 (findClass_of_methodNamed B.named)
  have hlocks : meth.locks = false := B.notSynchronized
  replace hP : va_P E.1 vwCl [k_J4 a_ a_value c_coder c_maybeLatin1 c_count] s.heap := hP
  have hl := lv_entry ([.ref a_, .ref (z9 (20 + p1))]) (n := 2) (Nat.le_of_ble_eq_true rfl)
  rw [lg_entry_eq]
  generalize (lg_sl ([.ref a_, .ref (z9 (20 + p1))]) ++ List.replicate (2 - (lg_sl ([.ref a_, .ref (z9 (20 + p1))])).length) Slot.unset).toArray = ls at hl ⊢
  have hl : lv_has ls 2 [(0, .ref a_), (1, .ref (z9 (20 + p1)))] := hl
  obtain ⟨Q, hQ⟩ : ∃ Q : State → Prop, Q = MQ below (va_Sv (fun _ => True)) #[Value.ref a_, Value.ref (z9 (20 + p1))] s 0 0 (fun _ => False) := ⟨_, rfl⟩
  rw [← hQ]
  change W p l e ({ frames := 1, cells := 0, slots := 0, locals := 20 } : Room) s m #[Value.ref a_, Value.ref (z9 (20 + p1))] below meth c s.heap [] 0 0 Q (F0 m 0 ls [])
  unfold F_J5_inflateIfNeededFor_a7421 at hF
  refine va_gets hx hb hZ.2.2.1.1 (va_S.rf) hown (hts (.fieldLink RJ5 18 "java/lang/String" "COMPACT_STRINGS" "Z") (List.mem_of_getElem? (i := 1) rfl)) (fun _ h9 => h9) (dq_178 0 bcJ5_inflateIfNeededFor_a7421_0 (j := 0) (i := 18) rfl rfl rfl) ?_
  refine lv_if_eq (tgt := 21) hx hb (dq_153 0 bcJ5_inflateIfNeededFor_a7421_0 (j := 3) (i := 18) rfl rfl rfl) (by decide) (fun q => absurd q (by decide)) (fun _ => ?_)
  refine lv_aload_n hx hb (dq_42 0 bcJ5_inflateIfNeededFor_a7421_0 (j := 6) rfl rfl) rfl (lv_at hl 0 rfl) ?_
  refine gt_J4_1 (v := .int c_coder) hx hb hts i_f_J5_inflateIfNeededFor_a7421_J4 hown hK hP 0 rfl (hts (.fieldLink RJ5 22 "java/lang/AbstractStringBuilder" "coder" "B") (List.mem_of_getElem? (i := 2) rfl)) rfl (dq_180 0 bcJ5_inflateIfNeededFor_a7421_0 (j := 7) (i := 22) rfl rfl rfl) ?_
  refine lv_aload_n hx hb (dq_43 0 bcJ5_inflateIfNeededFor_a7421_0 (j := 10) rfl rfl) rfl (lv_at hl 1 rfl) ?_
  replace hF := ltF_s hF
  obtain ⟨hs_2, hF⟩ := hF
  replace hF := bd1_s hF
  obtain ⟨r_1, hc_3, hF⟩ := hF
  have hPc : va_P E.1 vwCl [] s.heap := fun k q h => by simp at h
  refine pE_b (va_runV (As := []) (rest := [.int c_coder])  ⟨hx, hb, hml, hown, hts⟩ (f_J0_coder_7d493 l E z9 (p0 := p1) hc_3) (cwV 0 hts g_f_J5_inflateIfNeededFor_a7421_f_J0_coder_7d493_40 rfl rfl rfl hd_J0_coder_7d493 ⟨Nat.le_of_ble_eq_true rfl, Nat.le_of_ble_eq_true rfl⟩) ⟨qPZ.blind, vk_recv hZ.2.2.2.1 hs_2 (va_S.rf), (qPZ.pre0 ⟨hK, hN⟩ hPc hZ)⟩ rfl rfl hl.1 rfl (lv_room (Nat.le_of_ble_eq_true rfl)) (dq_182 0 bcJ5_inflateIfNeededFor_a7421_0 (j := 11) (i := 40) rfl rfl rfl) ⟨Nat.le_of_ble_eq_true rfl, Nat.le_of_ble_eq_true rfl⟩) (fun hb_4 => ?_)
  refine lv_icmp_eq (tgt := 21) hx hb (dq_159 0 bcJ5_inflateIfNeededFor_a7421_0 (j := 14) (i := 7) rfl rfl rfl) (by decide) (fun c_5 => ?_) (fun c_5 => ?_)
  ·
    replace hF := ip c_5 hF
    rw [hQ]
    exact W.vret hx hb hr (fun tt ht hW => ⟨rfl, trivial, ht⟩) (fun _ h => by cases h) (dq_177 0 bcJ5_inflateIfNeededFor_a7421_0 (j := 21) rfl rfl)
  ·
    replace hF := inn c_5 hF
    cases hF

def F_J0_getBytes_840e7 (p0 : Nat) (p2 : Int32) (p3 : Int32) (c_o1 : Nat → Int32) (m9 : Nat) : Option ((Nat → Int32)) :=
  ltF p0 15 (bd1 (F_J0_coder_7d493 p0) (fun r_1 => if r_1 = p3 then ltF p0 15 (ltF p0 15 (ltF p0 15 (ltF p0 15 (cpF (0 : Int32) (p2 <<< (p3 &&& (31 : Int32))) (Int32.ofNat (strL.getD p0 0)) (strL.getD p0 0) m9 (nmF (va_cpy (fun j => (strB.getD p0 []).getD j 0) c_o1 (0 : Int32).toNatClampNeg (p2 <<< (p3 &&& (31 : Int32))).toNatClampNeg (Int32.ofNat (strL.getD p0 0)).toNatClampNeg) (fun f_11 => some f_11)))))) else none))
abbrev w_J0_getBytes_840e7 (E : EE) (a_o1 : Nat) (c_o1 : Nat → Int32) (m9 : Nat) : va_W := [k_B E a_o1 m9 c_o1]
def v_f_J0_getBytes_840e7 : List Cond := List.cons (.code yJ0_getBytes_840e7 cJ0_getBytes_840e7 4 none) (HAppend.hAppend (α := List Cond) (β := List Cond) (γ := List Cond) [.fieldLink RJ0 9 "java/lang/String" "value" "[B", .methodLink RJ0 212 arraycopyName, .native arraycopyName, .static arraycopyName, .initialized "java/lang/System", .methodLink RJ0 335 yJ0_coder_7d493, .instanceMethod yJ0_coder_7d493, .selects RJ0 yJ0_coder_7d493 yJ0_coder_7d493, .initialized RJ0] (HAppend.hAppend (α := List Cond) (β := List Cond) (γ := List Cond) v_f_J0_coder_7d493 []))
theorem gw_f_J0_getBytes_840e7 : v_f_J0_getBytes_840e7.all goodWord = true := gw_c2 (by decide +kernel) (gw_ap gw_f_J0_coder_7d493 gw_nil)
theorem g_f_J0_getBytes_840e7_f_J0_coder_7d493_335 : GoodIn v_f_J0_getBytes_840e7 (wsV RJ0 335 RJ0 yJ0_coder_7d493 v_f_J0_coder_7d493) := goodIn_in gw_f_J0_getBytes_840e7 (in4 6 7 8 9 rfl rfl rfl rfl (fun _ h => List.mem_cons_of_mem _ (List.mem_append_right _ (List.mem_append_left _ h))))
theorem hd_J0_getBytes_840e7 : yJ0_getBytes_840e7.cls = RJ0 ∧ yJ0_getBytes_840e7.cls ≠ "java/lang/invoke/MethodHandle" ∧ yJ0_getBytes_840e7.cls ≠ "java/lang/invoke/VarHandle" ∧ (parseMethodDescriptor yJ0_getBytes_840e7.desc).map (fun d => d.parameters.length) = some 3 := by decide +kernel
set_option maxHeartbeats 4000000 in
set_option maxRecDepth 100000 in
theorem f_J0_getBytes_840e7 (l : Launch) (E : EE) (sz : Nat) (z9 : Nat → Nat) {a_o1 : Nat} {p0 : Nat} {p2 : Int32} {p3 : Int32} {c_o1 : Nat → Int32} {m9 : Nat} {n_o1 : Nat → Int32} (hF : F_J0_getBytes_840e7 p0 p2 p3 c_o1 m9 = some n_o1) : Met l yJ0_getBytes_840e7 v_f_J0_getBytes_840e7 (({ frames := 1, cells := 0, slots := 0, locals := 60 } : Room)) (va_Pc [.ref (z9 (20 + p0)), .ref a_o1, .int p2, .int p3] (qWZ E z9 sz (w_J0_getBytes_840e7 E a_o1 c_o1 m9))) (va_Qv (fun (_u : Unit) => True) (fun (_u : Unit) tt => va_P E.1 vwCl (w_J0_getBytes_840e7 E a_o1 n_o1 m9) tt.heap ∧ va_D (va_A (w_J0_getBytes_840e7 E a_o1 c_o1 m9) sz) (w_J0_getBytes_840e7 E a_o1 n_o1 m9)) (va_A (w_J0_getBytes_840e7 E a_o1 c_o1 m9) sz)) 0 0 (va_A (w_J0_getBytes_840e7 E a_o1 c_o1 m9) sz) := by
  refine Met.ofWF (cc := cJ0_getBytes_840e7) (maxL := 4) (ret := none) (by decide +kernel) rfl ?_
  intro p e s m args below meth c s₁ B hml hv
  obtain ⟨rfl, hsz, ⟨hK, hN⟩, hP, hD0, hZ⟩ := hv
  have hx := B.exec
  have hb := B.bytes
  have hr := B.returns
  have hts := atoms_spec (ws := v_f_J0_getBytes_840e7) B.pre
  have hown : s.vm.findClass RJ0 = some m.cls := own_of hd_J0_getBytes_840e7.1 (findClass_of_methodNamed B.named)
  have hlocks : meth.locks = false := B.notSynchronized
  subst hsz
  have hD := hD0.self (sz := s.heap.size)
  generalize hAe : va_A (w_J0_getBytes_840e7 E a_o1 c_o1 m9) s.heap.size = A at hD hZ ⊢
  have hA : ∀ q : Nat, s.heap.size ≤ q → A q := fun q h => by rw [← hAe]; exact Or.inr h
  have hS : va_S A s.heap s.heap [] := va_S.rf
  have hl := lv_entry ([.ref (z9 (20 + p0)), .ref a_o1, .int p2, .int p3]) (n := 4) (Nat.le_of_ble_eq_true rfl)
  rw [lg_entry_eq]
  generalize (lg_sl ([.ref (z9 (20 + p0)), .ref a_o1, .int p2, .int p3]) ++ List.replicate (4 - (lg_sl ([.ref (z9 (20 + p0)), .ref a_o1, .int p2, .int p3])).length) Slot.unset).toArray = ls at hl ⊢
  have hl : lv_has ls 4 [(0, .ref (z9 (20 + p0))), (1, .ref a_o1), (2, .int p2), (3, .int p3)] := hl
  obtain ⟨Q, hQ⟩ : ∃ Q : State → Prop, Q = MQ below (va_Qv (fun (_u : Unit) => True) (fun (_u : Unit) tt => va_P E.1 vwCl (w_J0_getBytes_840e7 E a_o1 n_o1 m9) tt.heap ∧ va_D A (w_J0_getBytes_840e7 E a_o1 n_o1 m9)) A) #[Value.ref (z9 (20 + p0)), Value.ref a_o1, Value.int p2, Value.int p3] s 0 0 A := ⟨_, rfl⟩
  rw [← hQ]
  change W p l e ({ frames := 1, cells := 0, slots := 0, locals := 60 } : Room) s m #[Value.ref (z9 (20 + p0)), Value.ref a_o1, Value.int p2, Value.int p3] below meth c s.heap [] 0 0 Q (F0 m 0 ls [])
  suffices hh9 : ∀ (H : Heap) (locs : List Loc), va_P E.1 vwCl (w_J0_getBytes_840e7 E a_o1 c_o1 m9) H → va_D A (w_J0_getBytes_840e7 E a_o1 c_o1 m9) → va_S A s.heap H locs → W p l e ({ frames := 1, cells := 0, slots := 0, locals := 60 } : Room) s m #[Value.ref (z9 (20 + p0)), Value.ref a_o1, Value.int p2, Value.int p3] below meth c H locs 0 0 Q (F0 m 0 ls []) from hh9 s.heap [] hP hD hS
  clear hP hD hS
  intro H locs hP hD hS
  have h9 := fixPD (ws' := [k_B E a_o1 m9 c_o1]) hP hD rfl
  clear hP hD
  obtain ⟨hP, hD⟩ := h9
  unfold F_J0_getBytes_840e7 at hF
  refine lv_aload_n hx hb (dq_42 0 bcJ0_getBytes_840e7_0 (j := 0) rfl rfl) rfl (lv_at hl 0 rfl) ?_
  replace hF := ltF_s hF
  obtain ⟨hs_2, hF⟩ := hF
  replace hF := bd1_s hF
  obtain ⟨r_1, hc_3, hF⟩ := hF
  have hPc : va_P E.1 vwCl [] H := fun k q h => by simp at h
  refine pE_b (va_runV (As := []) (rest := [])  ⟨hx, hb, hml, hown, hts⟩ (f_J0_coder_7d493 l E z9 (p0 := p0) hc_3) (cwV 0 hts g_f_J0_getBytes_840e7_f_J0_coder_7d493_335 rfl rfl rfl hd_J0_coder_7d493 ⟨Nat.le_of_ble_eq_true rfl, Nat.le_of_ble_eq_true rfl⟩) ⟨qPZ.blind, vk_recv hZ.2.2.2.1 hs_2 hS, (qPZ.pre ⟨hK, hN⟩ hPc hZ hS)⟩ rfl rfl hl.1 rfl (lv_room (Nat.le_of_ble_eq_true rfl)) (dq_182 0 bcJ0_getBytes_840e7_0 (j := 1) (i := 335) rfl rfl rfl) ⟨Nat.le_of_ble_eq_true rfl, Nat.le_of_ble_eq_true rfl⟩) (fun hb_4 => ?_)
  refine lv_iload_n hx hb (dq_29 0 bcJ0_getBytes_840e7_0 (j := 4) rfl rfl) rfl (lv_at hl 3 rfl) ?_
  refine lv_icmp_ne (tgt := 28) hx hb (dq_160 0 bcJ0_getBytes_840e7_0 (j := 5) (i := 23) rfl rfl rfl) (by decide) (fun c_5 => ?_) (fun c_5 => ?_)
  ·
    replace hF := inn c_5 hF
    cases hF
  ·
    replace hF := ip c_5 hF
    refine lv_aload_n hx hb (dq_42 0 bcJ0_getBytes_840e7_0 (j := 8) rfl rfl) rfl (lv_at hl 0 rfl) ?_
    replace hF := ltF_s hF
    obtain ⟨hs_6, hF⟩ := hF
    refine vk_getf (v := .ref (z9 (40 + p0))) hx hb ((hZ.2.2.2.1.1 p0 hs_6).2.2.1) hS hown (hts (.fieldLink RJ0 9 "java/lang/String" "value" "[B") (List.mem_of_getElem? (i := 1) rfl)) (fun _ h9 => h9) (dq_180 0 bcJ0_getBytes_840e7_0 (j := 9) (i := 9) rfl rfl rfl) ?_
    refine lv_iconst (v := 0) hx hb (dq_3 0 bcJ0_getBytes_840e7_0 (j := 12) rfl rfl) (by decide) ?_
    refine lv_aload_n hx hb (dq_43 0 bcJ0_getBytes_840e7_0 (j := 13) rfl rfl) rfl (lv_at hl 1 rfl) ?_
    refine lv_iload_n hx hb (dq_28 0 bcJ0_getBytes_840e7_0 (j := 14) rfl rfl) rfl (lv_at hl 2 rfl) ?_
    refine lv_iload_n hx hb (dq_29 0 bcJ0_getBytes_840e7_0 (j := 15) rfl rfl) rfl (lv_at hl 3 rfl) ?_
    refine lv_ishl hx hb (dq_120 0 bcJ0_getBytes_840e7_0 (j := 16) rfl rfl) ?_
    refine lv_aload_n hx hb (dq_42 0 bcJ0_getBytes_840e7_0 (j := 17) rfl rfl) rfl (lv_at hl 0 rfl) ?_
    replace hF := ltF_s hF
    obtain ⟨hs_7, hF⟩ := hF
    refine vk_getf (v := .ref (z9 (40 + p0))) hx hb ((hZ.2.2.2.1.1 p0 hs_7).2.2.1) hS hown (hts (.fieldLink RJ0 9 "java/lang/String" "value" "[B") (List.mem_of_getElem? (i := 1) rfl)) (fun _ h9 => h9) (dq_180 0 bcJ0_getBytes_840e7_0 (j := 18) (i := 9) rfl rfl rfl) ?_
    replace hF := ltF_s hF
    obtain ⟨hs_8, hF⟩ := hF
    refine va_tlen (v := (Int32.ofNat (strL.getD p0 0))) hx hb ((hZ.2.2.2.1.1 p0 hs_8).2.2.2) hS rfl (dq_190 0 bcJ0_getBytes_840e7_0 (j := 21) rfl rfl) ?_
    replace hF := ltF_s hF
    obtain ⟨hs_9, hF⟩ := hF
    replace hF := cp_s hF
    obtain ⟨hy_10, hF⟩ := hF
    refine vk_copyt (f := fun j => (strB.getD p0 []).getD j 0) hx hb (hml.trans hl.1.symm) hown (hts (.methodLink RJ0 212 arraycopyName) (List.mem_of_getElem? (i := 2) rfl)) (hts (.native arraycopyName) (List.mem_of_getElem? (i := 3) rfl)) (hts (.static arraycopyName) (List.mem_of_getElem? (i := 4) rfl)) (hts (.initialized "java/lang/System") (List.mem_of_getElem? (i := 5) rfl)) hK hP hD hS ((hZ.2.2.2.1.1 p0 hs_9).2.2.2) 0 1 rfl rfl hy_10.1 hy_10.2.1 hy_10.2.2.1 hy_10.2.2.2.1 hy_10.2.2.2.2 (fun _ _ => strB_fit _ _) (Nat.le_of_ble_eq_true rfl) (Nat.le_of_ble_eq_true rfl) (dq_184 0 bcJ0_getBytes_840e7_0 (j := 22) (i := 212) rfl rfl rfl) (fun H locs hP hD hS => ?_)
    have h9 := fixPD (ws' := [k_B E a_o1 m9 (va_cpy (fun j => (strB.getD p0 []).getD j 0) c_o1 (0 : Int32).toNatClampNeg (p2 <<< (p3 &&& (31 : Int32))).toNatClampNeg (Int32.ofNat (strL.getD p0 0)).toNatClampNeg)]) hP hD rfl
    clear hP hD
    obtain ⟨hP, hD⟩ := h9
    replace hF := nm_s hF
    obtain ⟨f_11, hf_11, hF⟩ := hF
    rw [← hf_11] at hP hD
    refine lv_goto (tgt := 43) hx hb (dq_167 0 bcJ0_getBytes_840e7_0 (j := 25) (i := 18) rfl rfl rfl) (by decide) ?_
    rw [hQ]
    have h9 := fin9 (P := fun u9 : (Nat → Int32) => va_P E.1 vwCl (w_J0_getBytes_840e7 E a_o1 u9 m9) H ∧ va_D A (w_J0_getBytes_840e7 E a_o1 u9 m9)) hF ⟨hP, hD⟩
    obtain ⟨hP9, hD9⟩ := h9
    exact W.vret hx hb hr (fun tt ht hW => ⟨⟨(), rfl, trivial, ht ▸ hP9, hD9⟩, hS.F ht⟩) hS.2.2 (dq_177 0 bcJ0_getBytes_840e7_0 (j := 43) rfl rfl)

def F_J5_putStringAt_47b60 (p1 : Int32) (p2 : Nat) (c_value : Nat → Int32) (c_coder : Int32) (m9 : Nat) : Option ((Nat → Int32)) :=
  bd1 (F_J5_inflateIfNeededFor_a7421 p2 c_coder) (fun u_1 => ltF p2 15 (bd1 (F_J0_getBytes_840e7 p2 p1 c_coder c_value m9) (fun w_3 => some w_3)))
abbrev w_J5_putStringAt_47b60 (E : EE) (a_ a_value : Nat) (c_coder : Int32) (c_maybeLatin1 : Int32) (c_count : Int32) (c_value : Nat → Int32) (m9 : Nat) : va_W := [k_J4 a_ a_value c_coder c_maybeLatin1 c_count, k_B E a_value m9 c_value]
def v_f_J5_putStringAt_47b60 : List Cond := List.cons (.code yJ5_putStringAt_47b60 cJ5_putStringAt_47b60 3 none) (HAppend.hAppend (α := List Cond) (β := List Cond) (γ := List Cond) [.fieldLink RJ5 15 "java/lang/AbstractStringBuilder" "value" "[B", .fieldLink RJ5 22 "java/lang/AbstractStringBuilder" "coder" "B", .methodLink RJ5 397 yJ5_inflateIfNeededFor_a7421, .instanceMethod yJ5_inflateIfNeededFor_a7421, .selects RJ4 yJ5_inflateIfNeededFor_a7421 yJ5_inflateIfNeededFor_a7421, .initialized RJ5, .methodLink RJ5 399 yJ0_getBytes_840e7, .instanceMethod yJ0_getBytes_840e7, .selects RJ0 yJ0_getBytes_840e7 yJ0_getBytes_840e7, .initialized RJ0] (HAppend.hAppend (α := List Cond) (β := List Cond) (γ := List Cond) v_f_J5_inflateIfNeededFor_a7421 (HAppend.hAppend (α := List Cond) (β := List Cond) (γ := List Cond) wsJ40 (HAppend.hAppend (α := List Cond) (β := List Cond) (γ := List Cond) v_f_J0_getBytes_840e7 []))))
theorem gw_f_J5_putStringAt_47b60 : v_f_J5_putStringAt_47b60.all goodWord = true := gw_c2 (by decide +kernel) (gw_ap gw_f_J5_inflateIfNeededFor_a7421 (gw_ap gw_wsJ40 (gw_ap gw_f_J0_getBytes_840e7 gw_nil)))
theorem i_f_J5_putStringAt_47b60_J4 : ∀ w ∈ wsJ40, w ∈ v_f_J5_putStringAt_47b60 := fun _ h => List.mem_cons_of_mem _ (List.mem_append_right _ (List.mem_append_right _ (List.mem_append_left _ h)))
theorem g_f_J5_putStringAt_47b60_f_J5_inflateIfNeededFor_a7421_397 : GoodIn v_f_J5_putStringAt_47b60 (wsC RJ5 397 RJ4 yJ5_inflateIfNeededFor_a7421 v_f_J5_inflateIfNeededFor_a7421) := goodIn_in gw_f_J5_putStringAt_47b60 (in4 3 4 5 6 rfl rfl rfl rfl (fun _ h => List.mem_cons_of_mem _ (List.mem_append_right _ (List.mem_append_left _ h))))
theorem g_f_J5_putStringAt_47b60_f_J0_getBytes_840e7_399 : GoodIn v_f_J5_putStringAt_47b60 (wsV RJ5 399 RJ0 yJ0_getBytes_840e7 v_f_J0_getBytes_840e7) := goodIn_in gw_f_J5_putStringAt_47b60 (in4 7 8 9 10 rfl rfl rfl rfl (fun _ h => List.mem_cons_of_mem _ (List.mem_append_right _ (List.mem_append_right _ (List.mem_append_right _ (List.mem_append_left _ h))))))
theorem hd_J5_putStringAt_47b60 : yJ5_putStringAt_47b60.cls = RJ5 ∧ yJ5_putStringAt_47b60.cls ≠ "java/lang/invoke/MethodHandle" ∧ yJ5_putStringAt_47b60.cls ≠ "java/lang/invoke/VarHandle" ∧ (parseMethodDescriptor yJ5_putStringAt_47b60.desc).map (fun d => d.parameters.length) = some 2 := by decide +kernel
set_option maxHeartbeats 4000000 in
set_option maxRecDepth 100000 in
theorem f_J5_putStringAt_47b60 (l : Launch) (E : EE) (sz : Nat) (z9 : Nat → Nat) {a_ a_value : Nat} {p1 : Int32} {p2 : Nat} {c_coder : Int32} {c_maybeLatin1 : Int32} {c_count : Int32} {c_value : Nat → Int32} {m9 : Nat} {n_value : Nat → Int32} (hF : F_J5_putStringAt_47b60 p1 p2 c_value c_coder m9 = some n_value) : Met l yJ5_putStringAt_47b60 v_f_J5_putStringAt_47b60 (({ frames := 2, cells := 0, slots := 0, locals := 83 } : Room)) (va_Pc [.ref a_, .int p1, .ref (z9 (20 + p2))] (qWZ E z9 sz (w_J5_putStringAt_47b60 E a_ a_value c_coder c_maybeLatin1 c_count c_value m9))) (va_Qv (fun (_u : Unit) => True) (fun (_u : Unit) tt => va_P E.1 vwCl (w_J5_putStringAt_47b60 E a_ a_value c_coder c_maybeLatin1 c_count n_value m9) tt.heap ∧ va_D (va_A (w_J5_putStringAt_47b60 E a_ a_value c_coder c_maybeLatin1 c_count c_value m9) sz) (w_J5_putStringAt_47b60 E a_ a_value c_coder c_maybeLatin1 c_count n_value m9)) (va_A (w_J5_putStringAt_47b60 E a_ a_value c_coder c_maybeLatin1 c_count c_value m9) sz)) 0 0 (va_A (w_J5_putStringAt_47b60 E a_ a_value c_coder c_maybeLatin1 c_count c_value m9) sz) := by
  refine Met.ofWF (cc := cJ5_putStringAt_47b60) (maxL := 3) (ret := none) (by decide +kernel) rfl ?_
  intro p e s m args below meth c s₁ B hml hv
  obtain ⟨rfl, hsz, ⟨hK, hN⟩, hP, hD0, hZ⟩ := hv
  have hx := B.exec
  have hb := B.bytes
  have hr := B.returns
  have hts := atoms_spec (ws := v_f_J5_putStringAt_47b60) B.pre
  have hown : s.vm.findClass RJ5 = some m.cls := own_of hd_J5_putStringAt_47b60.1 (findClass_of_methodNamed B.named)
  have hlocks : meth.locks = false := B.notSynchronized
  subst hsz
  have hD := hD0.self (sz := s.heap.size)
  generalize hAe : va_A (w_J5_putStringAt_47b60 E a_ a_value c_coder c_maybeLatin1 c_count c_value m9) s.heap.size = A at hD hZ ⊢
  have hA : ∀ q : Nat, s.heap.size ≤ q → A q := fun q h => by rw [← hAe]; exact Or.inr h
  have hS : va_S A s.heap s.heap [] := va_S.rf
  have hl := lv_entry ([.ref a_, .int p1, .ref (z9 (20 + p2))]) (n := 3) (Nat.le_of_ble_eq_true rfl)
  rw [lg_entry_eq]
  generalize (lg_sl ([.ref a_, .int p1, .ref (z9 (20 + p2))]) ++ List.replicate (3 - (lg_sl ([.ref a_, .int p1, .ref (z9 (20 + p2))])).length) Slot.unset).toArray = ls at hl ⊢
  have hl : lv_has ls 3 [(0, .ref a_), (1, .int p1), (2, .ref (z9 (20 + p2)))] := hl
  obtain ⟨Q, hQ⟩ : ∃ Q : State → Prop, Q = MQ below (va_Qv (fun (_u : Unit) => True) (fun (_u : Unit) tt => va_P E.1 vwCl (w_J5_putStringAt_47b60 E a_ a_value c_coder c_maybeLatin1 c_count n_value m9) tt.heap ∧ va_D A (w_J5_putStringAt_47b60 E a_ a_value c_coder c_maybeLatin1 c_count n_value m9)) A) #[Value.ref a_, Value.int p1, Value.ref (z9 (20 + p2))] s 0 0 A := ⟨_, rfl⟩
  rw [← hQ]
  change W p l e ({ frames := 2, cells := 0, slots := 0, locals := 83 } : Room) s m #[Value.ref a_, Value.int p1, Value.ref (z9 (20 + p2))] below meth c s.heap [] 0 0 Q (F0 m 0 ls [])
  suffices hh9 : ∀ (H : Heap) (locs : List Loc), va_P E.1 vwCl (w_J5_putStringAt_47b60 E a_ a_value c_coder c_maybeLatin1 c_count c_value m9) H → va_D A (w_J5_putStringAt_47b60 E a_ a_value c_coder c_maybeLatin1 c_count c_value m9) → va_S A s.heap H locs → W p l e ({ frames := 2, cells := 0, slots := 0, locals := 83 } : Room) s m #[Value.ref a_, Value.int p1, Value.ref (z9 (20 + p2))] below meth c H locs 0 0 Q (F0 m 0 ls []) from hh9 s.heap [] hP hD hS
  clear hP hD hS
  intro H locs hP hD hS
  have h9 := fixPD (ws' := [k_J4 a_ a_value c_coder c_maybeLatin1 c_count, k_B E a_value m9 c_value]) hP hD rfl
  clear hP hD
  obtain ⟨hP, hD⟩ := h9
  unfold F_J5_putStringAt_47b60 at hF
  refine lv_aload_n hx hb (dq_42 0 bcJ5_putStringAt_47b60_0 (j := 0) rfl rfl) rfl (lv_at hl 0 rfl) ?_
  refine lv_aload_n hx hb (dq_44 0 bcJ5_putStringAt_47b60_0 (j := 1) rfl rfl) rfl (lv_at hl 2 rfl) ?_
  replace hF := bd1_s hF
  obtain ⟨u_1, hc_2, hF⟩ := hF
  have hPc : va_P E.1 vwCl (w_J5_inflateIfNeededFor_a7421 E a_ a_value c_coder c_maybeLatin1 c_count) H := hP.sub (ws' := [k_J4 a_ a_value c_coder c_maybeLatin1 c_count]) [0] rfl
  have hrc := va_recv hK hPc (ci := 0) (q0 := 0) rfl rfl
  refine pc_v (va_runV (As := [.ref (z9 (20 + p2))]) (rest := [])  ⟨hx, hb, hml, hown, hts⟩ (f_J5_inflateIfNeededFor_a7421 l E z9 (a_ := a_) (a_value := a_value) (p1 := p2) (c_coder := c_coder) (c_maybeLatin1 := c_maybeLatin1) (c_count := c_count) hc_2) (cwC 1 hts g_f_J5_putStringAt_47b60_f_J5_inflateIfNeededFor_a7421_397 rfl rfl rfl hd_J5_inflateIfNeededFor_a7421.2 ⟨Nat.le_of_ble_eq_true rfl, Nat.le_of_ble_eq_true rfl⟩) ⟨qPZ.blind, hrc, (qPZ.pre ⟨hK, hN⟩ hPc hZ hS)⟩ rfl rfl hl.1 rfl (lv_room (Nat.le_of_ble_eq_true rfl)) (dq_182 0 bcJ5_putStringAt_47b60_0 (j := 2) (i := 397) rfl rfl rfl) ⟨Nat.le_of_ble_eq_true rfl, Nat.le_of_ble_eq_true rfl⟩) ?_
  refine lv_aload_n hx hb (dq_44 0 bcJ5_putStringAt_47b60_0 (j := 5) rfl rfl) rfl (lv_at hl 2 rfl) ?_
  refine lv_aload_n hx hb (dq_42 0 bcJ5_putStringAt_47b60_0 (j := 6) rfl rfl) rfl (lv_at hl 0 rfl) ?_
  refine gt_J4_0 (v := .ref a_value) hx hb hts i_f_J5_putStringAt_47b60_J4 hown hK hP 0 rfl (hts (.fieldLink RJ5 15 "java/lang/AbstractStringBuilder" "value" "[B") (List.mem_of_getElem? (i := 1) rfl)) rfl (dq_180 0 bcJ5_putStringAt_47b60_0 (j := 7) (i := 15) rfl rfl rfl) ?_
  refine lv_iload_n hx hb (dq_27 0 bcJ5_putStringAt_47b60_0 (j := 10) rfl rfl) rfl (lv_at hl 1 rfl) ?_
  refine lv_aload_n hx hb (dq_42 0 bcJ5_putStringAt_47b60_0 (j := 11) rfl rfl) rfl (lv_at hl 0 rfl) ?_
  refine gt_J4_1 (v := .int c_coder) hx hb hts i_f_J5_putStringAt_47b60_J4 hown hK hP 0 rfl (hts (.fieldLink RJ5 22 "java/lang/AbstractStringBuilder" "coder" "B") (List.mem_of_getElem? (i := 2) rfl)) rfl (dq_180 0 bcJ5_putStringAt_47b60_0 (j := 12) (i := 22) rfl rfl rfl) ?_
  replace hF := ltF_s hF
  obtain ⟨hs_4, hF⟩ := hF
  replace hF := bd1_s hF
  obtain ⟨w_3, hc_5, hF⟩ := hF
  obtain ⟨hPc, hDc, hFc⟩ := wcut (wc := (w_J0_getBytes_840e7 E a_value c_value m9)) hP hD hS hA [1] (by decide) rfl
  refine cE_v (wc := (w_J0_getBytes_840e7 E a_value c_value m9)) (wr := [k_J4 a_ a_value c_coder c_maybeLatin1 c_count]) (w1 := (w_J0_getBytes_840e7 E a_value w_3 m9)) (va_runV (As := [.ref a_value, .int p1, .int c_coder]) (rest := [])  ⟨hx, hb, hml, hown, hts⟩ (f_J0_getBytes_840e7 l E H.size z9 (a_o1 := a_value) (p0 := p2) (p2 := p1) (p3 := c_coder) (c_o1 := c_value) (m9 := m9) hc_5) (cwV 3 hts g_f_J5_putStringAt_47b60_f_J0_getBytes_840e7_399 rfl rfl rfl hd_J0_getBytes_840e7 ⟨Nat.le_of_ble_eq_true rfl, Nat.le_of_ble_eq_true rfl⟩) ⟨qWZ.blind, vk_recv hZ.2.2.2.1 hs_4 hS, (qWZ.pre ⟨hK, hN⟩ hPc hDc hZ hS hFc)⟩ rfl rfl hl.1 rfl (lv_room (Nat.le_of_ble_eq_true rfl)) (dq_182 0 bcJ5_putStringAt_47b60_0 (j := 15) (i := 399) rfl rfl rfl) ⟨Nat.le_of_ble_eq_true rfl, Nat.le_of_ble_eq_true rfl⟩) hS hFc hP hD [1] [0] rfl rfl (by decide) (by decide) (fun H locs hP hD hS => ?_)
  have h9 := fixPD (ws' := [k_J4 a_ a_value c_coder c_maybeLatin1 c_count, k_B E a_value m9 w_3]) hP hD rfl
  clear hP hD
  obtain ⟨hP, hD⟩ := h9
  rw [hQ]
  have h9 := fin9 (P := fun u9 : (Nat → Int32) => va_P E.1 vwCl (w_J5_putStringAt_47b60 E a_ a_value c_coder c_maybeLatin1 c_count u9 m9) H ∧ va_D A (w_J5_putStringAt_47b60 E a_ a_value c_coder c_maybeLatin1 c_count u9 m9)) hF ⟨hP, hD⟩
  obtain ⟨hP9, hD9⟩ := h9
  exact W.vret hx hb hr (fun tt ht hW => ⟨⟨(), rfl, trivial, ht ▸ hP9, hD9⟩, hS.F ht⟩) hS.2.2 (dq_177 0 bcJ5_putStringAt_47b60_0 (j := 18) rfl rfl)
end
-- 84c.sq
section

/-! what StringBuilder's functions answer, as far as spell needs it -/
theorem ss_J {K b : Nat} {x0 : Int32} (hK : 200000 ≤ K) (hb : b ≤ 1) : Tt (J_J6_stringSize_0f7a4_11 K (nI b) x0) (fun r => ∃ s, 1 ≤ s ∧ s ≤ 11 ∧ r = nI s) := by
  unfold J_J6_stringSize_0f7a4_11
  refine tt_bd2 (P := fun x : Nat × Int32 => x.1 < 2 ∧ ∃ a, 1 ≤ a ∧ a ≤ 10 ∧ x.2 = nI a) (tt_for (fun j u => u.2 = nI (j + 1)) 9 (by omega) rfl (fun j u hj hu => ?_)) (fun t x3 hx => ?_)
  · unfold B_J6_stringSize_0f7a4_16
    rw [hu]
    refine tt_ite (fun _ => tt_some (nx_r ⟨Nat.lt_succ_self 1, j + 1, by omega, by omega, rfl⟩)) (fun q => tt_ite (fun _ => tt_some (nx_l ?_ (nI_1 _))) (fun _ => tt_some (nx_r ⟨Nat.zero_lt_succ 1, j + 1, by omega, by omega, rfl⟩)))
    have := mt (nI_leI (a := 10) (b := j + 1) (by omega) (by omega)).mpr q
    omega
  · obtain ⟨ht, a, h1, h2, h3⟩ := hx
    have h3 : x3 = nI a := h3
    have ht : t < 2 := ht
    refine tt_ite (fun _ => tt_some ⟨a + b, by omega, by omega, by rw [h3, nI_add]⟩) (fun q => tt_ite (fun _ => tt_some ⟨10 + b, by omega, by omega, nI_add 10 b⟩) (fun q2 => ?_))
    omega
theorem ss_tot {K : Nat} {i : Int32} (hK : 200000 ≤ K) : Tt (F_J6_stringSize_0f7a4 K i) (fun r => ∃ s, 1 ≤ s ∧ s ≤ 11 ∧ r = nI s) := by
  unfold F_J6_stringSize_0f7a4
  exact tt_ite (fun _ => ss_J (b := 1) hK (by decide)) (fun _ => ss_J (b := 0) hK (by decide))
theorem ss_d1 : ∀ i, i < 8 → ¬ nI i < 0 := by decide +kernel
theorem ss_d2 : ∀ i, i < 8 → ¬ -(nI i) ≤ -10 := by decide +kernel
theorem ss_dig {K i : Nat} (hK : 200000 ≤ K) (hi : i < 8) : F_J6_stringSize_0f7a4 K (nI i) = some (nI 1) := by
  have e : lpF (fun u9 : Int32 × Int32 => B_J6_stringSize_0f7a4_16 (-(nI i)) u9.1 u9.2) K ((-10 : Int32), (1 : Int32)) = some (0, 1) := by
    obtain ⟨K', rfl⟩ : ∃ K', K = K' + 1 := ⟨K - 1, by omega⟩
    refine lp_end ?_
    show B_J6_stringSize_0f7a4_16 (-(nI i)) (-10) 1 = some (Sum.inr (0, 1))
    unfold B_J6_stringSize_0f7a4_16
    rw [if_neg (by decide), if_neg (ss_d2 i hi)]
  unfold F_J6_stringSize_0f7a4 J_J6_stringSize_0f7a4_11
  rw [if_neg (ss_d1 i hi), e, xb2, if_pos rfl]
  rfl
theorem dec1 {y : Nat} (h : 1 ≤ y) : nI y + (-1 : Int32) = nI (y - 1) := by
  obtain ⟨x, rfl⟩ : ∃ x, y = x + 1 := ⟨y - 1, by omega⟩
  rw [← nI_1, Int32.add_assoc, show (1 : Int32) + -1 = 0 by decide, Int32.add_zero]
  rfl
def gcT (m9 : Nat) (k0 x0 x5 : Int32) (c : Nat → Int32) : Option (Int32 × (Nat → Int32)) :=
  ixF (-x0) 100 (ixF (x5 + (-1 : Int32)) m9 (nmF (upd c (x5 + (-1 : Int32)).toNatClampNeg (vp_nar .byte (onesF (-x0).toNatClampNeg))) (fun f_16 => if (-9 : Int32) ≤ x0 then if k0 = (0 : Int32) then some (x5 + (-1 : Int32), f_16) else ixF ((x5 + (-1 : Int32)) + (-1 : Int32)) m9 (nmF (upd f_16 ((x5 + (-1 : Int32)) + (-1 : Int32)).toNatClampNeg (vp_nar .byte (45 : Int32))) (fun f_20 => some ((x5 + (-1 : Int32)) + (-1 : Int32), f_20))) else ixF (-x0) 100 (ixF ((x5 + (-1 : Int32)) + (-1 : Int32)) m9 (nmF (upd f_16 ((x5 + (-1 : Int32)) + (-1 : Int32)).toNatClampNeg (vp_nar .byte (tensF (-x0).toNatClampNeg))) (fun f_23 => if k0 = (0 : Int32) then some ((x5 + (-1 : Int32)) + (-1 : Int32), f_23) else ixF (((x5 + (-1 : Int32)) + (-1 : Int32)) + (-1 : Int32)) m9 (nmF (upd f_23 (((x5 + (-1 : Int32)) + (-1 : Int32)) + (-1 : Int32)).toNatClampNeg (vp_nar .byte (45 : Int32))) (fun f_26 => some (((x5 + (-1 : Int32)) + (-1 : Int32)) + (-1 : Int32), f_26))))))))) 
theorem gc_tail {mz d y : Nat} {k0 x0 x5 : Int32} {c : Nat → Int32} (hm : mz ≤ 34) (hf : sb_Fit c) (h0 : -x0 = nI d) (hd : d < 100) (h5 : x5 = nI y) (hy2 : y ≤ mz) (hy : 3 ≤ y ∨ (1 ≤ y ∧ k0 = 0 ∧ (-9 : Int32) ≤ x0)) : Tt (gcT mz k0 x0 x5 c) (fun x => sb_Fit x.2) := by
  unfold gcT
  have h1 : 1 ≤ y := by omega
  rw [h0, h5, dec1 h1]
  refine tt_ixn hd (by decide) (tt_ixn (by omega) (by omega) (tt_nm ?_))
  have f1 := sb_fitU (k := (nI (y - 1)).toNatClampNeg) hf (fit_nar (onesF (nI d).toNatClampNeg))
  refine tt_ite (fun q => tt_ite (fun _ => tt_some f1) (fun k => ?_)) (fun q => ?_)
  · have y3 : 3 ≤ y := by
      rcases hy with h | h
      · exact h
      · exact absurd h.2.1 k
    rw [dec1 (show 1 ≤ y - 1 by omega)]
    exact tt_ixn (by omega) (by omega) (tt_nm (tt_some (sb_fitU f1 (fit_nar _))))
  · have y3 : 3 ≤ y := by
      rcases hy with h | h
      · exact h
      · exact absurd h.2.2 q
    rw [dec1 (show 1 ≤ y - 1 by omega), dec1 (show 1 ≤ y - 1 - 1 by omega)]
    refine tt_ixn hd (by decide) (tt_ixn (by omega) (by omega) (tt_nm (tt_ite (fun _ => tt_some (sb_fitU f1 (fit_nar _))) (fun _ => tt_ixn (by omega) (by omega) (tt_nm (tt_some (sb_fitU (sb_fitU f1 (fit_nar _)) (fit_nar _))))))))
theorem gc_div {x : Int32} (h : x.toInt ≤ 0) : ∃ d, d < 100 ∧ x / 100 * 100 - x = nI d ∧ (x / 100).toInt ≤ 0 ∧ x.toInt = 100 * (x / 100).toInt - (d : Int) := by
  have lo := Int32.le_toInt x
  have h100 : (100 : Int32).toInt = 100 := by decide
  have hq : (x / 100).toInt = -((-x.toInt) / 100) := by
    rw [Int32.toInt_div, h100]
    rw [show x.toInt.tdiv 100 = -((-x.toInt) / 100) by
      rw [← Int.tdiv_eq_ediv_of_nonneg (show 0 ≤ -x.toInt by omega), Int.neg_tdiv, Int.neg_neg]]
    rw [Int.bmod_eq_of_le (by omega) (by omega)]
  have hr : (x / 100 * 100 - x).toInt = -((-x.toInt) / 100) * 100 - x.toInt := by
    rw [Int32.toInt_sub, Int32.toInt_mul, hq, h100, Int.bmod_eq_of_le (n := -((-x.toInt) / 100) * 100) (by omega) (by omega), Int.bmod_eq_of_le (by omega) (by omega)]
  refine ⟨(-((-x.toInt) / 100) * 100 - x.toInt).toNat, by omega, ?_, by omega, by omega⟩
  apply Int32.toInt_inj.mp
  rw [hr, nI_toInt (by omega)]
  omega
def gB : Nat → Int
  | 0 => 2147483648
  | 1 => 21474836
  | 2 => 214748
  | 3 => 2147
  | _ => 21
theorem gB_step : ∀ t, t < 4 → ∀ a b : Int, a ≤ gB t → 100 * b ≤ a → b ≤ gB (t + 1) := by
  intro t ht a b h1 h2
  match t, ht with
  | 0, _ => have h1 : a ≤ 2147483648 := h1; show b ≤ 21474836; omega
  | 1, _ => have h1 : a ≤ 21474836 := h1; show b ≤ 214748; omega
  | 2, _ => have h1 : a ≤ 214748 := h1; show b ≤ 2147; omega
  | 3, _ => have h1 : a ≤ 2147 := h1; show b ≤ 21; omega
  | t + 4, h => omega
theorem m100 : (-100 : Int32).toInt = -100 := by decide
theorem gc_loop {K mz y : Nat} {x : Int32} {c : Nat → Int32} (hK : 200000 ≤ K) (hm : mz ≤ 34) (hf : sb_Fit c) (hy : 11 ≤ y) (hy2 : y ≤ mz) (hx : x.toInt ≤ 0) : Tt (lpF (fun u9 : Int32 × Int32 × (Nat → Int32) => B_J6_getChars_ba4f3_22 mz u9.1 u9.2.1 u9.2.2) K (x, nI y, c)) (fun r => (∃ d, d < 100 ∧ -r.1 = nI d) ∧ (∃ a, 3 ≤ a ∧ a ≤ mz ∧ r.2.1 = nI a) ∧ sb_Fit r.2.2) := by
  refine tt_for (fun t u => u.1.toInt ≤ 0 ∧ -u.1.toInt ≤ gB t ∧ u.2.1 = nI (y - 2 * t) ∧ sb_Fit u.2.2) 4 (by omega) ⟨hx, ?_, rfl, hf⟩ (fun t u ht hu => ?_)
  · have := Int32.le_toInt x
    show -x.toInt ≤ 2147483648
    omega
  obtain ⟨h1, h2, h3, h4⟩ := hu
  unfold B_J6_getChars_ba4f3_22
  refine tt_ite (fun q => tt_some (nx_r ⟨?_, ⟨y - 2 * t, by omega, by omega, h3⟩, h4⟩)) (fun q => ?_)
  · have q1 := Int32.lt_iff_toInt_lt.mp q
    rw [m100] at q1
    refine ⟨(-u.1.toInt).toNat, by omega, ?_⟩
    show -u.1 = nI (-u.1.toInt).toNat
    apply Int32.toInt_inj.mp
    rw [Int32.toInt_neg, Int.bmod_eq_of_le (by omega) (by omega), nI_toInt (by omega)]
    omega
  · have q1 := mt Int32.lt_iff_toInt_lt.mpr q
    rw [m100] at q1
    obtain ⟨d, hd, e1, e2, e3⟩ := gc_div h1
    have t4 : t < 4 := by
      rcases Nat.lt_or_ge t 4 with z | z
      · exact z
      · have t5 : t = 4 := by omega
        rw [t5] at h2
        have h2 : -u.1.toInt ≤ 21 := h2
        omega
    have hb := gB_step t t4 (-u.1.toInt) (-(u.1 / 100).toInt) h2 (by omega)
    rw [e1, h3, dec1 (show 1 ≤ y - 2 * t by omega), dec1 (show 1 ≤ y - 2 * t - 1 by omega)]
    exact tt_ixn hd (by decide) (tt_ixn (by omega) (by omega) (tt_nm (tt_ixn hd (by decide) (tt_ixn (by omega) (by omega) (tt_nm (tt_some (nx_l t4 ⟨e2, hb, by rw [show y - 2 * t - 1 - 1 = y - 2 * (t + 1) by omega], sb_fitU (sb_fitU h4 (fit_nar _)) (fit_nar _)⟩)))))))
theorem gc_tot {K mz y : Nat} {i : Int32} {c : Nat → Int32} (hK : 200000 ≤ K) (hm : mz ≤ 34) (hf : sb_Fit c) (hy : 11 ≤ y) (hy2 : y ≤ mz) : Tt (F_J6_getChars_ba4f3 K i (nI y) c mz) (fun x => sb_Fit x.2) := by
  have z : (0 : Int32).toInt = 0 := rfl
  unfold F_J6_getChars_ba4f3 J_J6_getChars_ba4f3_12
  refine tt_ite (fun q => ?_) (fun q => ?_)
  · rw [if_pos rfl]
    have q0 := Int32.le_iff_toInt_le.mp q
    have lo := Int32.toInt_lt i
    refine tt_bd3 (gc_loop hK hm hf hy hy2 ?_) (fun x0 x5 c2 hr => ?_)
    · rw [Int32.toInt_neg, Int.bmod_eq_of_le (by omega) (by omega)]
      omega
    · obtain ⟨⟨d, hd, e0⟩, ⟨a, a1, a2, e5⟩, hf2⟩ := hr
      exact gc_tail hm hf2 e0 hd e5 a2 (Or.inl a1)
  · rw [if_neg (by decide)]
    have q0 := mt Int32.le_iff_toInt_le.mpr q
    refine tt_bd3 (gc_loop hK hm hf hy hy2 (by omega)) (fun x0 x5 c2 hr => ?_)
    obtain ⟨⟨d, hd, e0⟩, ⟨a, a1, a2, e5⟩, hf2⟩ := hr
    exact gc_tail hm hf2 e0 hd e5 a2 (Or.inl a1)
theorem gc_d1 : ∀ i, i < 8 → (0 : Int32) ≤ nI i := by decide +kernel
theorem gc_d2 : ∀ i, i < 8 → (-100 : Int32) < -(nI i) := by decide +kernel
theorem gc_d3 : ∀ i, i < 8 → (-9 : Int32) ≤ -(nI i) := by decide +kernel
theorem gc_d4 : ∀ i, i < 8 → -(-(nI i)) = nI i := by decide +kernel
theorem gc_dig {K mz y i : Nat} {c : Nat → Int32} (hK : 200000 ≤ K) (hi : i < 8) (hm : mz ≤ 34) (hf : sb_Fit c) (hy : 1 ≤ y) (hy2 : y ≤ mz) : Tt (F_J6_getChars_ba4f3 K (nI i) (nI y) c mz) (fun x => sb_Fit x.2) := by
  have e : lpF (fun u9 : Int32 × Int32 × (Nat → Int32) => B_J6_getChars_ba4f3_22 mz u9.1 u9.2.1 u9.2.2) K (-(nI i), nI y, c) = some (-(nI i), nI y, c) := by
    obtain ⟨K', rfl⟩ : ∃ K', K = K' + 1 := ⟨K - 1, by omega⟩
    refine lp_end ?_
    show B_J6_getChars_ba4f3_22 mz (-(nI i)) (nI y) c = some (Sum.inr (-(nI i), nI y, c))
    unfold B_J6_getChars_ba4f3_22
    rw [if_pos (gc_d2 i hi)]
  unfold F_J6_getChars_ba4f3 J_J6_getChars_ba4f3_12
  rw [if_pos (gc_d1 i hi), if_pos rfl, e, xb3]
  exact gc_tail hm hf (gc_d4 i hi) (show i < 100 by omega) rfl hy2 (Or.inr ⟨hy, rfl, gc_d3 i hi⟩)
theorem nc_ok : ∀ k, k < 35 → 16 < k → F_J5_newCapacity_0f7a4 (nI k) 0 16 = some 34 := by decide +kernel
theorem gb_ok {p w k mz : Nat} {c : Nat → Int32} (hp : (p = 12 ∧ w = 5) ∨ (p = 13 ∧ w = 4)) (hk : k + w ≤ mz) (hm : mz ≤ 34) : F_J0_getBytes_840e7 p (nI k) 0 c mz = some (va_cpy (fun j => (strB.getD p []).getD j 0) c 0 k w) := by
  have p15 : p < 15 := by omega
  have el : strL.getD p 0 = w := by rcases hp with ⟨rfl, rfl⟩ | ⟨rfl, rfl⟩ <;> rfl
  have hw : w ≤ 5 := by omega
  unfold F_J0_getBytes_840e7 F_J0_coder_7d493
  rw [xlt p15, xlt p15, xb1, if_pos rfl, xlt p15, xlt p15, xlt p15, xlt p15, sb_shl0, el]
  unfold cpF
  have c1 : (nI k).toNatClampNeg = k := nI_clamp (by omega)
  have c2 : (Int32.ofNat w).toNatClampNeg = w := nI_clamp (by omega)
  rw [c1, c2]
  rw [if_pos ⟨by decide, nI_pos (by omega), nI_pos (by omega), by rw [show (0 : Int32).toNatClampNeg = 0 from rfl]; omega, hk⟩]
  rfl
theorem ps_ok {p w k mz : Nat} {c : Nat → Int32} (hp : (p = 12 ∧ w = 5) ∨ (p = 13 ∧ w = 4)) (hk : k + w ≤ mz) (hm : mz ≤ 34) (hf : sb_Fit c) : ∃ c', F_J5_putStringAt_47b60 (nI k) p c 0 mz = some c' ∧ sb_Fit c' := by
  have p15 : p < 15 := by omega
  refine ⟨va_cpy (fun j => (strB.getD p []).getD j 0) c 0 k w, ?_, sb_fitC (fun j => strB_fit p j) hf⟩
  unfold F_J5_putStringAt_47b60 F_J5_inflateIfNeededFor_a7421 F_J0_coder_7d493
  rw [xlt p15, xlt p15, xb1, if_pos rfl, xb1, xlt p15, gb_ok hp hk hm, xb1]
theorem ln_ok {p w : Nat} (hp : (p = 12 ∧ w = 5) ∨ (p = 13 ∧ w = 4)) : F_J0_length_8abf5 p = some (nI w) := by
  have p15 : p < 15 := by omega
  have el : strL.getD p 0 = w := by rcases hp with ⟨rfl, rfl⟩ | ⟨rfl, rfl⟩ <;> rfl
  unfold F_J0_length_8abf5 F_J0_coder_7d493
  rw [xlt p15, xlt p15, xlt p15, xlt p15, xb1, sb_shr0, el]
  rfl
theorem ca_ok {n mz i : Nat} {c : Nat → Int32} (hi : i < n) (hn : n ≤ mz) (hm : mz ≤ 34) : Tt (F_J5_charAt_5068e (nI i) c 0 (nI n) mz) (fun _ => True) := by
  unfold F_J5_charAt_5068e F_J0_checkIndex_df160 F_J3_checkIndex_8e157null
  have e : minF (nI n) (Int32.ofNat mz >>> ((0 : Int32) &&& (31 : Int32))) = nI n := by
    rw [sb_shr0]
    unfold minF
    exact if_neg (nI_nlt hn (by omega))
  rw [e, if_neg (nI_pos (by omega)), if_pos (nI_lt hi (by omega)), xb1, xb1, if_pos rfl]
  exact tt_ixn (by omega) (by omega) (tt_some trivial)
end
