/-! Stage B, 26: what is told of a watch, in both -/
theorem m_in0 {x : Int32} {m : Nat} {H : Int64} (e : H = (nI m).toInt64) : F_X8_in x.toInt64 (0 : Int64) H = some (if 0 ≤ x ∧ x ≤ nI m then 1 else 0) := by
  rw [e, show (0 : Int64) = (0 : Int32).toInt64 from rfl, m_inI]
theorem not_of {x : Int32} {m : Nat} (d : ¬ (0 ≤ x ∧ x ≤ nI m)) (k : Nat) (hk : k ≤ m) (hm : m < 2 ^ 31) : ¬ x = nI k := fun e => d (by
  rw [e]
  exact ⟨nI_nn (by omega), (nI_leI (a := k) (b := m) (by omega) hm).mpr hk⟩)
theorem tot_both {n K c : Nat} {f g : Nat → Int32} (hK : 200000 ≤ K) (h : RowR n f g) (hc : c < 8) : F_X5_total K (nI c) f = some (sgm (fun i => g (8 * c + i)) n) ∧ F_X8_sum K (nI (8 * c)) g (nI n) = some (sgm (fun i => g (8 * c + i)) n) := by
  have n8 := h.n8
  refine ⟨?_, bm_sum hK n8 (by omega)⟩
  rw [b_total hK n8 h.sz hc]
  exact congrArg some (sgm_eq n (fun i hi => h.1.2.2.1 i c hi hc))
theorem p_rule {n : Nat} {f g : Nat → Int32} {x : Int32} (h : RowR n f g) : ∃ v, F_X7_rule x f = some v ∧ F_X8_rule x g (nI n) = some v := by
  have n8 := h.n8
  obtain ⟨s1, s2⟩ := sd_both n8 h.sz
  unfold F_X7_rule F_X8_rule F_X5_sites
  by_cases z : n = 0
  · rw [s1, s2, if_pos z, xb1, if_pos rfl, xb1, if_pos rfl]
    exact ⟨_, rfl, rfl⟩
  · rw [s1, s2, if_neg z, xb1, if_neg n10, xb1, xb1, if_neg n10, h.sz, m_in0 (m := 3) (by decide), xb1, ite10]
    by_cases d : 0 ≤ x ∧ x ≤ nI 3
    · rw [if_pos d]
      obtain ⟨w, hw, rfl⟩ := in_nat (n := 3) (by decide) d
      rcases (show w = 0 ∨ w = 1 ∨ w = 2 ∨ w = 3 by omega) with rfl | rfl | rfl | rfl
      · rw [if_pos (by decide), if_neg (by decide), bm_ix (a := 64) (by rfl) (by decide), bm_cl (a := 64) (by rfl) (by decide), show f 0 = g 64 from h.sc (0, 64) (by decide)]
        exact ⟨_, rfl, rfl⟩
      · rw [if_neg (by decide), if_pos (by decide), if_neg (by decide), bm_ix (a := 64) (by rfl) (by decide), bm_cl (a := 64) (by rfl) (by decide), show f 1 = g 65 from h.sc (1, 65) (by decide)]
        exact ⟨_, rfl, rfl⟩
      · rw [if_neg (by decide), if_neg (by decide), if_pos (by decide), if_neg (by decide), bm_ix (a := 64) (by rfl) (by decide), bm_cl (a := 64) (by rfl) (by decide), show f 2 = g 66 from h.sc (2, 66) (by decide)]
        exact ⟨_, rfl, rfl⟩
      · rw [if_neg (by decide), if_neg (by decide), if_neg (by decide), if_pos (by decide), if_pos (by decide)]
        exact ⟨_, rfl, rfl⟩
    · have q := not_of d
      rw [if_neg d, if_neg (show ¬ x = (0 : Int32) from q 0 (by decide) (by decide)), if_neg (show ¬ x = (1 : Int32) from q 1 (by decide) (by decide)), if_neg (show ¬ x = (2 : Int32) from q 2 (by decide) (by decide)), if_neg (show ¬ x = (3 : Int32) from q 3 (by decide) (by decide))]
      exact ⟨_, rfl, rfl⟩
abbrev inM (v : Int32) : Prop := (-1000000 : Int32) ≤ v ∧ v ≤ (1000000 : Int32)
theorem m_inM {x : Int32} : F_X8_in x.toInt64 (-1000000 : Int64) (1000000 : Int64) = some (if inM x then 1 else 0) := by
  rw [show (-1000000 : Int64) = (-1000000 : Int32).toInt64 by decide, show (1000000 : Int64) = (1000000 : Int32).toInt64 by decide, m_inI]
theorem c_ask {n : Nat} {f : Nat → Int32} {x y : Int32} (n8 : n ≤ 8) (h3 : f 3 = nI n) : F_X7_canBeAsked x y f = some (if ¬ n = 0 ∧ inM x ∧ inM y then 1 else 0) := by
  obtain ⟨s1, s2⟩ := sd_both n8 h3
  unfold F_X7_canBeAsked
  by_cases z : n = 0
  · rw [s1, if_pos z, xb1, if_pos rfl, if_neg (fun w => w.1 z)]
  · rw [s1, if_neg z, xb1, if_neg n10, rng_c, rng_c]
    by_cases a : inM x
    · rw [if_pos (show (-1000000 : Int32) ≤ x ∧ x ≤ (1000000 : Int32) from a)]
      by_cases b : inM y
      · rw [if_pos (show (-1000000 : Int32) ≤ y ∧ y ≤ (1000000 : Int32) from b), if_pos (show ¬ n = 0 ∧ inM x ∧ inM y from ⟨z, a, b⟩)]
      · rw [if_neg (show ¬ ((-1000000 : Int32) ≤ y ∧ y ≤ (1000000 : Int32)) from b), if_neg (show ¬ (¬ n = 0 ∧ inM x ∧ inM y) from fun w => b w.2.2)]
    · rw [if_neg (show ¬ ((-1000000 : Int32) ≤ x ∧ x ≤ (1000000 : Int32)) from a), if_neg (show ¬ (¬ n = 0 ∧ inM x ∧ inM y) from fun w => a w.2.1)]
theorem p_value {n : Nat} {f g : Nat → Int32} {x y : Int32} (h : RowR n f g) (hg : RowG g) : ∃ v, F_X7_value x y f = some v ∧ F_X8_value x y g (nI n) = some v := by
  have n8 := h.n8
  obtain ⟨s1, s2⟩ := sd_both n8 h.sz
  obtain ⟨v, ev, -⟩ := t_valueOf (p1 := x.toInt64) (p2 := y.toInt64) (f := f)
  have ev2 : F_X8_valueOf x.toInt64 y.toInt64 g = some v := by rw [← h.1.val hg]; exact ev
  unfold F_X7_value F_X8_value
  rw [c_ask n8 h.sz, xb1, ite10, s2, xb1, m_inM, xb1, ite10, m_inM, xb1, ite10, ev, xb1, ev2, xb1]
  by_cases z : n = 0
  · rw [if_neg (show ¬ (¬ n = 0 ∧ inM x ∧ inM y) from fun w => w.1 z), if_pos z, if_pos rfl]
    exact ⟨_, rfl, rfl⟩
  · rw [if_neg z, if_neg n10]
    by_cases a : inM x
    · rw [if_pos (show inM x from a)]
      by_cases b : inM y
      · rw [if_pos (show inM y from b), if_pos (show ¬ n = 0 ∧ inM x ∧ inM y from ⟨z, a, b⟩)]
        exact ⟨_, rfl, rfl⟩
      · rw [if_neg (show ¬ inM y from b), if_neg (show ¬ (¬ n = 0 ∧ inM x ∧ inM y) from fun w => b w.2.2)]
        exact ⟨_, rfl, rfl⟩
    · rw [if_neg (show ¬ inM x from a), if_neg (show ¬ (¬ n = 0 ∧ inM x ∧ inM y) from fun w => a w.2.1)]
      exact ⟨_, rfl, rfl⟩
theorem p_tells {n : Nat} {f g : Nat → Int32} {x y : Int32} (h : RowR n f g) (hg : RowG g) : ∃ v, F_X7_tells x y f = some v ∧ F_X8_tells x y g (nI n) = some v := by
  have n8 := h.n8
  obtain ⟨s1, s2⟩ := sd_both n8 h.sz
  obtain ⟨v, ev, -⟩ := u_isAllowed (p1 := x) (p2 := y) (g := g)
  have ev2 : F_X5_allows x.toInt64 y.toInt64 f = some v := by rw [alw_both h.1 hg]; exact ev
  unfold F_X7_tells F_X8_tells
  rw [c_ask n8 h.sz, xb1, ite10, s2, xb1, m_inM, xb1, ite10, m_inM, xb1, ite10, ev, xb1, ev2, xb1]
  by_cases z : n = 0
  · rw [if_neg (show ¬ (¬ n = 0 ∧ inM x ∧ inM y) from fun w => w.1 z), if_pos z, if_pos rfl]
    exact ⟨_, rfl, rfl⟩
  · rw [if_neg z, if_neg n10]
    by_cases a : inM x
    · rw [if_pos (show inM x from a)]
      by_cases b : inM y
      · rw [if_pos (show inM y from b), if_pos (show ¬ n = 0 ∧ inM x ∧ inM y from ⟨z, a, b⟩)]
        by_cases c : v = 0
        · rw [if_pos c]
          exact ⟨_, rfl, rfl⟩
        · rw [if_neg c]
          exact ⟨_, rfl, rfl⟩
      · rw [if_neg (show ¬ inM y from b), if_neg (show ¬ (¬ n = 0 ∧ inM x ∧ inM y) from fun w => b w.2.2)]
        exact ⟨_, rfl, rfl⟩
    · rw [if_neg (show ¬ inM x from a), if_neg (show ¬ (¬ n = 0 ∧ inM x ∧ inM y) from fun w => a w.2.1)]
      exact ⟨_, rfl, rfl⟩
theorem p_all {n K : Nat} {f g : Nat → Int32} {x : Int32} (hK : 200000 ≤ K) (h : RowR n f g) (hg : RowG g) : ∃ v, F_X7_all K x f = some v ∧ F_X8_all K x g (nI n) = some v := by
  have n8 := h.n8
  obtain ⟨s1, s2⟩ := sd_both n8 h.sz
  have e16 : F_X8_sum K (16 : Int32) g (nI n) = some (f 4) := by rw [h.sx]; exact bm_sum hK n8 (b := 16) (by decide)
  have e24 : F_X8_sum K (24 : Int32) g (nI n) = some (f 5) := by rw [h.sy]; exact bm_sum hK n8 (b := 24) (by decide)
  obtain ⟨t0, u0⟩ := tot_both hK h (c := 0) (by decide)
  obtain ⟨t1, u1⟩ := tot_both hK h (c := 1) (by decide)
  have t0 : F_X5_total K (0 : Int32) f = some (sgm (fun i => g (8 * 0 + i)) n) := t0
  have u0 : F_X8_sum K (0 : Int32) g (nI n) = some (sgm (fun i => g (8 * 0 + i)) n) := u0
  have t1 : F_X5_total K (1 : Int32) f = some (sgm (fun i => g (8 * 1 + i)) n) := t1
  have u1 : F_X8_sum K (8 : Int32) g (nI n) = some (sgm (fun i => g (8 * 1 + i)) n) := u1
  generalize sgm (fun i => g (8 * 0 + i)) n = A at t0 u0
  generalize sgm (fun i => g (8 * 1 + i)) n = B at t1 u1
  obtain ⟨v, ev, -⟩ := t_valueOf (p1 := (f 4).toInt64) (p2 := (f 5).toInt64) (f := f)
  have ev2 : F_X8_valueOf (f 4).toInt64 (f 5).toInt64 g = some v := by rw [← h.1.val hg]; exact ev
  obtain ⟨w, ew, -⟩ := t_valueOf (p1 := A.toInt64) (p2 := B.toInt64) (f := f)
  have ew2 : F_X8_valueOf A.toInt64 B.toInt64 g = some w := by rw [← h.1.val hg]; exact ew
  unfold F_X7_all F_X8_all
  by_cases z : n = 0
  · rw [s1, s2, if_pos z, xb1, xb1, if_pos rfl, if_pos rfl]
    exact ⟨_, rfl, rfl⟩
  · rw [s1, s2, if_neg z, xb1, xb1, if_neg n10, if_neg n10, m_in0 (m := 5) (by decide), xb1, ite10]
    by_cases d : 0 ≤ x ∧ x ≤ nI 5
    · rw [if_pos d]
      obtain ⟨k, hk, rfl⟩ := in_nat (n := 5) (by decide) d
      rcases (show k = 0 ∨ k = 1 ∨ k = 2 ∨ k = 3 ∨ k = 4 ∨ k = 5 by omega) with rfl | rfl | rfl | rfl | rfl | rfl
      · rw [if_pos (by decide), if_pos (by decide), show (4 : Int32) + nI 0 = nI 4 by decide, xixn (by decide) (by decide), nI_clamp (by decide), e16, xb1]
        exact ⟨_, rfl, rfl⟩
      · rw [if_neg (by decide), if_pos (by decide), show (4 : Int32) + nI 1 = nI 5 by decide, xixn (by decide) (by decide), nI_clamp (by decide), if_neg (by decide), if_pos (by decide), e24, xb1]
        exact ⟨_, rfl, rfl⟩
      · rw [if_neg (by decide), if_neg (by decide), if_pos (by decide), show ((0 : Int32) + nI 2) - (2 : Int32) = 0 by decide, t0, xb1, if_neg (by decide), if_neg (by decide), if_pos (by decide), u0, xb1]
        exact ⟨_, rfl, rfl⟩
      · rw [if_neg (by decide), if_neg (by decide), if_neg (by decide), if_pos (by decide), show ((0 : Int32) + nI 3) - (2 : Int32) = 1 by decide, t1, xb1, if_neg (by decide), if_neg (by decide), if_neg (by decide), if_pos (by decide), u1, xb1]
        exact ⟨_, rfl, rfl⟩
      · rw [if_neg (by decide), if_neg (by decide), if_neg (by decide), if_neg (by decide), if_pos (by decide), ev, xb1, if_neg (by decide), if_neg (by decide), if_neg (by decide), if_neg (by decide), if_pos (by decide), e16, xb1, e24, xb1, ev2, xb1]
        exact ⟨_, rfl, rfl⟩
      · rw [if_neg (by decide), if_neg (by decide), if_neg (by decide), if_neg (by decide), if_neg (by decide), if_pos (by decide), t0, xb1, t1, xb1, ew, xb1, if_neg (by decide), if_neg (by decide), if_neg (by decide), if_neg (by decide), if_neg (by decide), u0, xb1, u1, xb1, ew2, xb1]
        exact ⟨_, rfl, rfl⟩
    · have q := not_of d
      rw [if_neg d, if_neg (show ¬ x = (0 : Int32) from q 0 (by decide) (by decide)), if_neg (show ¬ x = (1 : Int32) from q 1 (by decide) (by decide)), if_neg (show ¬ x = (2 : Int32) from q 2 (by decide) (by decide)), if_neg (show ¬ x = (3 : Int32) from q 3 (by decide) (by decide)), if_neg (show ¬ x = (4 : Int32) from q 4 (by decide) (by decide)), if_neg (show ¬ x = (5 : Int32) from q 5 (by decide) (by decide))]
      exact ⟨_, rfl, rfl⟩
theorem p_count {n K : Nat} {f g : Nat → Int32} {x : Int32} (hK : 200000 ≤ K) (h : RowR n f g) (hI : RowI n g) : ∃ v, F_X7_count K x f = some v ∧ F_X8_count K x g (nI n) = some v := by
  have n8 := h.n8
  obtain ⟨s1, s2⟩ := sd_both n8 h.sz
  obtain ⟨t6, u6⟩ := tot_both hK h (c := 6) (by decide)
  have t6 : F_X5_total K (6 : Int32) f = some (sgm (fun i => g (8 * 6 + i)) n) := t6
  have u6 : F_X8_sum K (48 : Int32) g (nI n) = some (sgm (fun i => g (8 * 6 + i)) n) := u6
  obtain ⟨r1, r2⟩ := re_both h
  unfold F_X7_count F_X8_count
  by_cases z : n = 0
  · rw [s1, s2, if_pos z, xb1, xb1, if_pos rfl, if_pos rfl]
    exact ⟨_, rfl, rfl⟩
  · obtain ⟨-, -, a, b, q, a1, a9, e66, b9, e73, -⟩ := hI.2 (by omega)
    rw [s1, s2, if_neg z, xb1, xb1, if_neg n10, if_neg n10, m_in0 (m := 5) (by decide), xb1, ite10]
    by_cases d : 0 ≤ x ∧ x ≤ nI 5
    · rw [if_pos d]
      obtain ⟨k, hk, rfl⟩ := in_nat (n := 5) (by decide) d
      rcases (show k = 0 ∨ k = 1 ∨ k = 2 ∨ k = 3 ∨ k = 4 ∨ k = 5 by omega) with rfl | rfl | rfl | rfl | rfl | rfl
      · rw [if_pos (by decide), if_pos (by decide), show f 8 = g 73 from h.sc (8, 73) (by decide)]
        exact ⟨_, rfl, rfl⟩
      · rw [if_neg (by decide), if_pos (by decide), cs_step (by omega) h (by omega) (by omega) e66 e73, xb1, if_neg (by decide), if_pos (by decide), m_step (by omega) n8, xb1]
        exact ⟨_, rfl, rfl⟩
      · rw [if_neg (by decide), if_neg (by decide), if_pos (by decide), if_neg (by decide), if_neg (by decide), if_pos (by decide), show f 9 = g 75 from h.sc (9, 75) (by decide)]
        exact ⟨_, rfl, rfl⟩
      · rw [if_neg (by decide), if_neg (by decide), if_neg (by decide), if_pos (by decide), if_neg (by decide), if_neg (by decide), if_neg (by decide), if_pos (by decide), show f 10 = g 74 from h.sc (10, 74) (by decide)]
        exact ⟨_, rfl, rfl⟩
      · rw [if_neg (by decide), if_neg (by decide), if_neg (by decide), if_neg (by decide), if_pos (by decide), r1, xb1]
        by_cases c : g 73 < g 66
        · rw [if_pos c, if_pos rfl, if_neg (by decide), if_neg (by decide), if_neg (by decide), if_neg (by decide), if_pos (by decide), r2, xb1, if_pos c, if_pos rfl]
          exact ⟨_, rfl, rfl⟩
        · rw [if_neg c, if_neg n10, if_neg (by decide), if_neg (by decide), if_neg (by decide), if_neg (by decide), if_pos (by decide), r2, xb1, if_neg c, if_neg n10]
          exact ⟨_, rfl, rfl⟩
      · rw [if_neg (by decide), if_neg (by decide), if_neg (by decide), if_neg (by decide), if_neg (by decide), if_pos (by decide), t6, xb1, if_neg (by decide), if_neg (by decide), if_neg (by decide), if_neg (by decide), if_neg (by decide), u6, xb1]
        exact ⟨_, rfl, rfl⟩
    · have q := not_of d
      rw [if_neg d, if_neg (show ¬ x = (0 : Int32) from q 0 (by decide) (by decide)), if_neg (show ¬ x = (1 : Int32) from q 1 (by decide) (by decide)), if_neg (show ¬ x = (2 : Int32) from q 2 (by decide) (by decide)), if_neg (show ¬ x = (3 : Int32) from q 3 (by decide) (by decide)), if_neg (show ¬ x = (4 : Int32) from q 4 (by decide) (by decide)), if_neg (show ¬ x = (5 : Int32) from q 5 (by decide) (by decide))]
      exact ⟨_, rfl, rfl⟩
/-- points of the class -/
theorem c_pt {n i : Nat} {f : Nat → Int32} (n8 : n ≤ 8) (h3 : f 3 = nI n) (hi : i < n) : F_X5_point (nI i) (0 : Int32) f = some (f 4 + nI n * cdr f i 0) ∧ F_X5_point (nI i) (1 : Int32) f = some (f 5 + nI n * cdr f i 1) := by
  have b0 : F_X5_drift (nI i) (0 : Int32) f = some (cdr f i 0) := b_drift (a := 0) (by omega) (by decide)
  have b1 : F_X5_drift (nI i) (1 : Int32) f = some (cdr f i 1) := b_drift (a := 1) (by omega) (by decide)
  unfold F_X5_point J_X5_point_19
  rw [if_pos rfl, if_neg n10, b0, xb1, b1, xb1, h3]
  exact ⟨rfl, rfl⟩
theorem pv_both {n i K : Nat} {f g : Nat → Int32} {x y : Int32} (hK : 200000 ≤ K) (h : RowR n f g) (hg : RowG g) (hi : i < n) : ∃ v, F_X5_pointValue (nI i) x y f = some v ∧ F_X8_pointX K (mdx g i + x) g (nI n) = some (f 4 + nI n * (mdx g i + x)) ∧ F_X8_pointY K (mdy g i + y) g (nI n) = some (f 5 + nI n * (mdy g i + y)) ∧ F_X8_valueOf (f 4 + nI n * (mdx g i + x)).toInt64 (f 5 + nI n * (mdy g i + y)).toInt64 g = some v := by
  have n8 := h.n8
  obtain ⟨c0, c1⟩ := c_pt n8 h.sz hi
  obtain ⟨d0, d1⟩ := dr_both h.1.2.2.1 hi
  obtain ⟨v, ev, -⟩ := t_valueOf (p1 := (f 4 + nI n * (mdx g i + x)).toInt64) (p2 := (f 5 + nI n * (mdy g i + y)).toInt64) (f := f)
  refine ⟨v, ?_, (pt_both hK h).1, (pt_both hK h).2, by rw [← h.1.val hg]; exact ev⟩
  have a0 : (f 4 + nI n * cdr f i 0) + nI n * x = f 4 + nI n * (mdx g i + x) := by rw [d0, Int32.mul_add, Int32.add_assoc]
  have a1 : (f 5 + nI n * cdr f i 1) + nI n * y = f 5 + nI n * (mdy g i + y) := by rw [d1, Int32.mul_add, Int32.add_assoc]
  unfold F_X5_pointValue
  rw [c0, xb1, c1, xb1, h.sz, a0, a1, ev, xb1]
theorem wm_of {K : Nat} {x y z s : Int32} {g : Nat → Int32} : F_X8_whyNot K 0 x y z g s = F_X8_whyMove x y z g s := by
  unfold F_X8_whyNot
  rw [if_pos rfl, bd1_id]
theorem p_needs {n K : Nat} {f g : Nat → Int32} {x y z : Int32} (hK : 200000 ≤ K) (h : RowR n f g) (hI : RowI n g) : ∃ v, F_X7_needs x y z f = some v ∧ F_X8_needs K x y z g (nI n) = some v := by
  have n8 := h.n8
  obtain ⟨r, e1, e2, e3, e4⟩ := rf_both (s := 0) (S := 0) (a := x) (b := y) (c := z) rfl (by decide) hK h hI.x
  rw [wm_of] at e2
  unfold F_X7_needs F_X8_needs
  rw [e1, e2, xb1, xb1]
  by_cases c : r = -1
  · obtain ⟨i, hi, rfl, -⟩ := (e4 c).2.1 rfl
    obtain ⟨v, v1, v2, v3, v4⟩ := pv_both (x := y) (y := z) hK h hI.1 hi
    rw [if_pos c, if_pos c, v1, xb1, m_drX (by omega), xb1, v2, xb1, m_drY (by omega), xb1, v3, xb1, v4, xb1]
    exact ⟨_, rfl, rfl⟩
  · rw [if_neg c, if_neg c]
    exact ⟨_, rfl, rfl⟩
