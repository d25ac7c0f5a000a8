-- 83c.14
section
/-! Stage B, 14: why an act can't be, in both -/
/-- what a row of n sites may hold -/
abbrev inR (v : Int32) : Prop := (-99999 : Int32) ≤ v ∧ v ≤ (99999 : Int32)
abbrev RowX (n : Nat) (g : Nat → Int32) : Prop := ∀ j, j < n → inR (g (0 + j)) ∧ inR (g (8 + j))
abbrev RowF (n : Nat) (g : Nat → Int32) : Prop := ∀ j, j < n → g (76 + j) = 0 ∨ g (76 + j) = 1
theorem inR_int {v : Int32} (h : inR v) : -99999 ≤ v.toInt ∧ v.toInt ≤ 99999 := by
  have h1 := Int32.le_iff_toInt_le.mp h.1
  have h2 := Int32.le_iff_toInt_le.mp h.2
  have t1 : (-99999 : Int32).toInt = -99999 := by decide
  have t2 : (99999 : Int32).toInt = 99999 := by decide
  rw [t1] at h1
  rw [t2] at h2
  exact ⟨h1, h2⟩
theorem inR_add {v x : Int32} (h : inR v) (hx : -3000000 ≤ x.toInt ∧ x.toInt ≤ 3000000) : (v + x).toInt = v.toInt + x.toInt := by
  obtain ⟨a, b⟩ := inR_int h
  rw [Int32.toInt_add]
  exact Int.bmod_eq_of_le (by omega) (by omega)
theorem ab_in {v : Int32} (h : -2147483648 < v.toInt) : (99999 : Int32) < absF v ↔ ¬ inR v := by
  have t1 : (-99999 : Int32).toInt = -99999 := by decide
  have t2 : (99999 : Int32).toInt = 99999 := by decide
  have t0 : (0 : Int32).toInt = 0 := by decide
  have a2 : v.toInt < 2 ^ 31 := Int32.toInt_lt v
  unfold inR absF
  by_cases c : 0 ≤ v
  · rw [if_pos c]
    simp only [Int32.le_iff_toInt_le, Int32.lt_iff_toInt_lt, t0, t1, t2] at c ⊢
    omega
  · rw [if_neg c]
    simp only [Int32.le_iff_toInt_le, Int32.lt_iff_toInt_lt, t0, t1, t2, Int32.toInt_sub] at c ⊢
    rw [Int.bmod_eq_of_le (by omega) (by omega)]
    omega
theorem rng_c {α : Type} {x lo hi : Int32} {A B : α} : (if x < lo then A else if hi < x then A else B) = if lo ≤ x ∧ x ≤ hi then B else A := by
  by_cases h1 : lo ≤ x
  · rw [if_neg (fun q => lt_not.mp q h1)]
    by_cases h2 : x ≤ hi
    · rw [if_neg (fun q => lt_not.mp q h2), if_pos ⟨h1, h2⟩]
    · rw [if_pos (lt_not.mpr h2), if_neg (fun q => h2 q.2)]
  · rw [if_pos (lt_not.mpr h1), if_neg (fun q => h1 q.1)]
theorem rng_d {α : Type} {x lo hi : Int32} {A B : α} : (if x < lo then A else if x ≤ hi then B else A) = if lo ≤ x ∧ x ≤ hi then B else A := by
  by_cases h1 : lo ≤ x
  · rw [if_neg (fun q => lt_not.mp q h1)]
    by_cases h2 : x ≤ hi
    · rw [if_pos h2, if_pos ⟨h1, h2⟩]
    · rw [if_neg h2, if_neg (fun q => h2 q.2)]
  · rw [if_pos (lt_not.mpr h1), if_neg (fun q => h1 q.1)]
/-- a place that may be moved by so much -/
abbrev in9 (v : Int32) : Prop := (-9999 : Int32) ≤ v ∧ v ≤ (9999 : Int32)
theorem in9_int {v : Int32} (h : in9 v) : -9999 ≤ v.toInt ∧ v.toInt ≤ 9999 := by
  have h1 := Int32.le_iff_toInt_le.mp h.1
  have h2 := Int32.le_iff_toInt_le.mp h.2
  have t1 : (-9999 : Int32).toInt = -9999 := by decide
  have t2 : (9999 : Int32).toInt = 9999 := by decide
  rw [t1] at h1
  rw [t2] at h2
  exact ⟨h1, h2⟩
theorem c_mov {x y : Int32} : F_X7_isMovable x y = some (if in9 x ∧ in9 y then 1 else 0) := by
  unfold F_X7_isMovable in9
  rw [rng_c, rng_c]
  by_cases a : (-9999 : Int32) ≤ x ∧ x ≤ (9999 : Int32)
  · rw [if_pos a]
    by_cases b : (-9999 : Int32) ≤ y ∧ y ≤ (9999 : Int32)
    · rw [if_pos b, if_pos ⟨a, b⟩]
    · rw [if_neg b, if_neg (fun z => b z.2)]
  · rw [if_neg a, if_neg (fun z => a z.1)]
theorem m_in9 {x : Int32} : F_X8_in x.toInt64 (-9999 : Int64) (9999 : Int64) = some (if in9 x then 1 else 0) := by
  rw [show (-9999 : Int64) = (-9999 : Int32).toInt64 by decide, show (9999 : Int64) = (9999 : Int32).toInt64 by decide, m_inI]
theorem m_inR {x : Int32} : F_X8_in x.toInt64 (-99999 : Int64) (99999 : Int64) = some (if inR x then 1 else 0) := by
  rw [show (-99999 : Int64) = (-99999 : Int32).toInt64 by decide, show (99999 : Int64) = (99999 : Int32).toInt64 by decide, m_inI]
theorem gm_site {n : Nat} {p : Int32} : F_X8_isSite p (nI n) = some (if 0 ≤ p ∧ p ≤ nI n - 1 then 1 else 0) := by
  unfold F_X8_isSite
  rw [show (0 : Int64) = (0 : Int32).toInt64 from rfl, m_inI, xb1]
/-- a site, or none, in both -/
theorem hs_both {n : Nat} {p : Int32} {f : Nat → Int32} (n8 : n ≤ 8) (h3 : f 3 = nI n) : (∃ i, i < n ∧ p = nI i ∧ F_X5_hasSite p f = some 1 ∧ F_X8_isSite p (nI n) = some 1) ∨ ((¬ ∃ i, i < n ∧ p = nI i) ∧ F_X5_hasSite p f = some 0 ∧ F_X8_isSite p (nI n) = some 0) := by
  by_cases a : 0 ≤ p ∧ p ≤ nI n - 1
  · obtain ⟨i, hi, rfl⟩ := in_lt (by omega) a
    exact Or.inl ⟨i, hi, rfl, cs_has n8 h3 hi, by rw [gm_site, if_pos a]⟩
  · have no : ¬ ∃ i, i < n ∧ p = nI i := by
      intro ⟨i, hi, e⟩
      apply a
      rw [e, show nI n - 1 = nI (n - 1) from xsub (b := 1) (by omega)]
      exact ⟨(nI_leI (a := 0) (b := i) (by omega) (by omega)).mpr (Nat.zero_le _), (nI_leI (a := i) (b := n - 1) (by omega) (by omega)).mpr (by omega)⟩
    refine Or.inr ⟨no, ?_, by rw [gm_site, if_neg a]⟩
    unfold F_X5_hasSite
    by_cases b : p < 0
    · rw [if_pos b]
    · rw [if_neg b, h3]
      by_cases c : nI n ≤ p
      · rw [if_pos c]
      · obtain ⟨i, hi, e⟩ := nnI (n := n) (by omega) b c
        exact absurd ⟨i, hi, e⟩ no
theorem sd_both {n : Nat} {f : Nat → Int32} (n8 : n ≤ 8) (h3 : f 3 = nI n) : F_X5_stands f = some (if n = 0 then 0 else 1) ∧ F_X8_isWatch (nI n) = some (if n = 0 then 0 else 1) := by
  unfold F_X5_stands F_X8_isWatch
  rw [h3]
  by_cases c : n = 0
  · rw [if_pos c, c, if_pos (by decide)]
    exact ⟨rfl, rfl⟩
  · rw [if_neg c, if_neg (nI_nle (by omega) (by omega))]
    exact ⟨rfl, rfl⟩
theorem c_room {n i : Nat} {f g : Nat → Int32} {x y : Int32} (h : RowR n f g) (hi : i < n) (h1 : -2147483648 < (g (0 + i) + x).toInt) (h2 : -2147483648 < (g (8 + i) + y).toInt) : F_X5_hasRoom (nI i) x y f = some (if inR (g (0 + i) + x) ∧ inR (g (8 + i) + y) then 1 else 0) := by
  have n8 := h.n8
  have e0 : f (17 + 8 * i + 0) = g (0 + i) := h.1.2.2.1 i 0 hi (by decide)
  have e1 : f (17 + 8 * i + 1) = g (8 + i) := h.1.2.2.1 i 1 hi (by decide)
  unfold F_X5_hasRoom
  rw [bx_of (c := 0) (by rfl) (by omega) (by decide), xb1, bx_of (c := 1) (by rfl) (by omega) (by decide), xb1, e0, e1]
  by_cases a : inR (g (0 + i) + x)
  · rw [if_neg (fun z => (ab_in h1).mp z a)]
    by_cases b : inR (g (8 + i) + y)
    · rw [if_neg (fun z => (ab_in h2).mp z b), if_pos ⟨a, b⟩]
    · rw [if_pos ((ab_in h2).mpr b), if_neg (fun z => b z.2)]
  · rw [if_pos ((ab_in h1).mpr a), if_neg (fun z => a z.1)]
theorem ite10 {α : Type} {c : Prop} {d : Decidable c} {d2 : Decidable ((@ite Int32 c d 1 0) = 0)} {A B : α} : (@ite α ((@ite Int32 c d 1 0) = 0) d2 A B) = @ite α c d B A := by
  by_cases h : c
  · rw [if_neg (show ¬ (@ite Int32 c d 1 0) = 0 by rw [if_pos h]; decide), if_pos h]
  · rw [if_pos (show (@ite Int32 c d 1 0) = 0 from if_neg h), if_neg h]
theorem n10 : ¬ (1 : Int32) = 0 := by decide
/-- why a move can't be -/
theorem mr_both {n : Nat} {f g : Nat → Int32} {p x y : Int32} (h : RowR n f g) (hX : RowX n g) : ∃ r, F_X5_moveRefusal p x y f = some r ∧ F_X8_whyMove p x y g (nI n) = some r ∧ R3 r ∧ (r = -1 → ∃ i, i < n ∧ p = nI i ∧ in9 x ∧ in9 y ∧ inR (g (0 + i) + x) ∧ inR (g (8 + i) + y) ∧ ¬ g (76 + i) = 1) := by
  have n8 := h.n8
  rcases hs_both (p := p) n8 h.sz with ⟨i, hi, rfl, c1, c2⟩ | ⟨-, c1, c2⟩
  · have j89 : J_X8_whyMove_89 (nI i) x y g = some 1 := by
      unfold J_X8_whyMove_89 J_X8_whyMove_90
      rw [if_pos rfl]
    have j90 : J_X8_whyMove_90 (nI i) x y g 1 = if x = 0 then if y = 0 then some 2 else if g (76 + i) = 1 then some 2 else some (-1) else if g (76 + i) = 1 then some 2 else some (-1) := by
      unfold J_X8_whyMove_90
      rw [if_neg n10, fz_m (by omega), xb1, ite10]
    have C : F_X5_moveRefusal (nI i) x y f = if in9 x ∧ in9 y then bd1 (F_X5_hasRoom (nI i) x y f) (fun r_9 => if r_9 = (0 : Int32) then some (1 : Int32) else if x = 0 then if y = 0 then some 2 else if g (76 + i) = 1 then some 2 else some (-1) else if g (76 + i) = 1 then some 2 else some (-1)) else some 1 := by
      unfold F_X5_moveRefusal
      rw [c1, xb1, if_neg n10, c_mov, xb1, ite10]
      simp only [fz_c h.1 hi, xb1, ite10]
    have M : F_X8_whyMove (nI i) x y g (nI n) = if in9 x then if in9 y then if inR (g (0 + i) + x) then if inR (g (8 + i) + y) then J_X8_whyMove_90 (nI i) x y g 1 else some 1 else some 1 else some 1 else some 1 := by
      unfold F_X8_whyMove
      rw [c2, xb1, if_neg n10, m_in9, xb1, ite10, m_in9, xb1, ite10, bm_ix (a := 0) (by rfl) (by omega), bm_cl (a := 0) (by rfl) (by omega), m_inR, xb1, ite10, bm_ix (a := 8) (by rfl) (by omega), bm_cl (a := 8) (by rfl) (by omega), m_inR, xb1, ite10, j89]
    rw [C, M, j90]
    by_cases a : in9 x
    · by_cases b : in9 y
      · have k1 : (g (0 + i) + x).toInt = (g (0 + i)).toInt + x.toInt := inR_add (hX i hi).1 (by have := in9_int a; omega)
        have k2 : (g (8 + i) + y).toInt = (g (8 + i)).toInt + y.toInt := inR_add (hX i hi).2 (by have := in9_int b; omega)
        have l1 := in9_int a
        have l2 := in9_int b
        have l3 := inR_int (hX i hi).1
        have l4 := inR_int (hX i hi).2
        rw [if_pos (show in9 x ∧ in9 y from ⟨a, b⟩), if_pos (show in9 x from a), if_pos (show in9 y from b), c_room h hi (by omega) (by omega), xb1, ite10]
        by_cases c : inR (g (0 + i) + x)
        · by_cases d : inR (g (8 + i) + y)
          · rw [if_pos (show inR (g (0 + i) + x) ∧ inR (g (8 + i) + y) from ⟨c, d⟩), if_pos (show inR (g (0 + i) + x) from c), if_pos (show inR (g (8 + i) + y) from d)]
            by_cases z : x = 0 ∧ y = 0
            · rw [if_pos z.1, if_pos z.2]
              exact ⟨2, rfl, rfl, r32, fun q => absurd q (by decide)⟩
            · have e : ∀ A B : Option Int32, (if x = 0 then (if y = 0 then A else B) else B) = B := fun A B => by
                by_cases z1 : x = 0
                · rw [if_pos z1, if_neg (fun z2 => z ⟨z1, z2⟩)]
                · rw [if_neg z1]
              rw [e]
              by_cases w : g (76 + i) = 1
              · rw [if_pos w]
                exact ⟨2, rfl, rfl, r32, fun q => absurd q (by decide)⟩
              · rw [if_neg w]
                exact ⟨-1, rfl, rfl, Or.inl rfl, fun _ => ⟨i, hi, rfl, a, b, c, d, w⟩⟩
          · rw [if_neg (show ¬ (inR (g (0 + i) + x) ∧ inR (g (8 + i) + y)) from fun z => d z.2), if_pos (show inR (g (0 + i) + x) from c), if_neg (show ¬ inR (g (8 + i) + y) from d)]
            exact ⟨1, rfl, rfl, r31, fun q => absurd q (by decide)⟩
        · rw [if_neg (show ¬ (inR (g (0 + i) + x) ∧ inR (g (8 + i) + y)) from fun z => c z.1), if_neg (show ¬ inR (g (0 + i) + x) from c)]
          exact ⟨1, rfl, rfl, r31, fun q => absurd q (by decide)⟩
      · rw [if_neg (show ¬ (in9 x ∧ in9 y) from fun z => b z.2), if_pos (show in9 x from a), if_neg (show ¬ in9 y from b)]
        exact ⟨1, rfl, rfl, r31, fun q => absurd q (by decide)⟩
    · rw [if_neg (show ¬ (in9 x ∧ in9 y) from fun z => a z.1), if_neg (show ¬ in9 x from a)]
      exact ⟨1, rfl, rfl, r31, fun q => absurd q (by decide)⟩
  · unfold F_X5_moveRefusal F_X8_whyMove
    rw [c1, c2, xb1, xb1, if_pos rfl, if_pos rfl]
    exact ⟨0, rfl, rfl, r30, fun q => absurd q (by decide)⟩
/-- why something can't be set -/
theorem sr_both {n : Nat} {p lo hi is : Int32} (n8 : n ≤ 8) (h0 : 0 < n) : ∃ r, F_X5_setRefusal p lo hi is = some r ∧ F_X8_whySet p lo hi is (nI n) = some r ∧ R3 r ∧ (r = -1 → lo ≤ p ∧ p ≤ hi) := by
  have w : F_X8_isWatch (nI n) = some 1 := by
    unfold F_X8_isWatch
    rw [if_neg (nI_nle h0 (by omega))]
  unfold F_X5_setRefusal F_X8_whySet
  rw [rng_d, w, xb1, if_neg (show ¬ (1 : Int32) = 0 by decide), m_inI, xb1]
  by_cases a : lo ≤ p ∧ p ≤ hi
  · rw [if_pos a, if_pos a, if_neg (show ¬ (1 : Int32) = 0 by decide)]
    by_cases b : p = is
    · rw [if_pos b]
      exact ⟨2, rfl, rfl, r32, fun q => absurd q (by decide)⟩
    · rw [if_neg b]
      exact ⟨-1, rfl, rfl, Or.inl rfl, fun _ => a⟩
  · rw [if_neg a, if_neg a, if_pos rfl]
    exact ⟨1, rfl, rfl, r31, fun q => absurd q (by decide)⟩
theorem re_both {n : Nat} {f g : Nat → Int32} (h : RowR n f g) : F_X5_isReached f = some (if g 73 < g 66 then 0 else 1) ∧ F_X8_isReached g = some (if g 73 < g 66 then 0 else 1) := by
  unfold F_X5_isReached F_X8_isReached
  rw [show f 8 = g 73 from h.1.2.2.2.1 (8, 73) (by decide), show f 2 = g 66 from h.1.2.2.2.1 (2, 66) (by decide)]
  by_cases c : g 73 < g 66
  · rw [if_pos c, if_pos c]
    exact ⟨rfl, rfl⟩
  · rw [if_neg c, if_neg c]
    exact ⟨rfl, rfl⟩
/-- why nothing can be added -/
theorem wa_both {n : Nat} {f g : Nat → Int32} {p k : Int32} (h : RowR n f g) : ∃ r, F_X5_addRefusal p k f = some r ∧ F_X8_whyAdd p k g (nI n) = some r ∧ R3 r ∧ (r = -1 → ∃ i, i < n ∧ p = nI i ∧ ((1 : Int32) ≤ k ∧ k ≤ (999 : Int32)) ∧ g (48 + i) + k ≤ (99999 : Int32) ∧ g 73 < g 66) := by
  have n8 := h.n8
  obtain ⟨r1, r2⟩ := re_both h
  rcases hs_both (p := p) n8 h.sz with ⟨i, hi, rfl, c1, c2⟩ | ⟨-, c1, c2⟩
  · have e6 : f (17 + 8 * i + 6) = g (48 + i) := h.1.2.2.1 i 6 hi (by decide)
    have ei : F_X8_in k.toInt64 (1 : Int64) (999 : Int64) = some (if (1 : Int32) ≤ k ∧ k ≤ (999 : Int32) then 1 else 0) := by
      rw [show (1 : Int64) = (1 : Int32).toInt64 from rfl, show (999 : Int64) = (999 : Int32).toInt64 by decide, m_inI]
    unfold F_X5_addRefusal F_X8_whyAdd
    rw [c1, c2, xb1, xb1, if_neg (show ¬ (1 : Int32) = 0 by decide), if_neg (show ¬ (1 : Int32) = 0 by decide), rng_c, ei, xb1, bx_of (c := 6) (by rfl) (by omega) (by decide), xb1, e6, bm_ix (a := 48) (by rfl) (by omega), bm_cl (a := 48) (by rfl) (by omega), r1, r2, xb1]
    by_cases a : (1 : Int32) ≤ k ∧ k ≤ (999 : Int32)
    · rw [if_pos a, if_pos a, if_neg (show ¬ (1 : Int32) = 0 by decide)]
      by_cases b : g (48 + i) + k ≤ (99999 : Int32)
      · rw [if_pos b]
        by_cases c : g 73 < g 66
        · rw [if_pos c, if_pos rfl]
          exact ⟨-1, rfl, rfl, Or.inl rfl, fun _ => ⟨i, hi, rfl, a, b, c⟩⟩
        · rw [if_neg c, if_neg (show ¬ (1 : Int32) = 0 by decide)]
          exact ⟨2, rfl, rfl, r32, fun q => absurd q (by decide)⟩
      · rw [if_neg b]
        exact ⟨1, rfl, rfl, r31, fun q => absurd q (by decide)⟩
    · rw [if_neg a, if_neg a, if_pos rfl]
      exact ⟨1, rfl, rfl, r31, fun q => absurd q (by decide)⟩
  · unfold F_X5_addRefusal F_X8_whyAdd
    rw [c1, c2, xb1, xb1, if_pos rfl, if_pos rfl]
    exact ⟨0, rfl, rfl, r30, fun q => absurd q (by decide)⟩
theorem m_frz {K n : Nat} {g : Nat → Int32} (hK : 200000 ≤ K) (n8 : n ≤ 8) : F_X8_frozenOnes K g (nI n) = some (nI (row_mk g n)) := by
  have h : lpF (fun u9 : Int32 × Int32 => B_X8_frozenOnes_4 (nI n) g u9.1 u9.2) K ((0 : Int32), (0 : Int32)) = some (row_frz g n) := by
    refine lp_for (fun j => (row_frz g j, nI j)) (n := n) (by omega) (fun j hj => ?_) ?_
    · show B_X8_frozenOnes_4 (nI n) g (row_frz g j) (nI j) = some (.inl (row_frz g j ||| (if g (76 + j) = 1 then (1 : Int32) <<< (nI j &&& 31) else 0), nI (j + 1)))
      unfold B_X8_frozenOnes_4
      rw [if_neg (mt (nI_leI (a := n) (b := j) (by omega) (by omega)).mp (by omega)), fz_m (by omega), xb1, nI_1]
      by_cases c : g (76 + j) = 1
      · rw [if_pos c, if_pos c, if_neg (by decide)]
      · rw [if_neg c, if_neg c, if_pos rfl]
    · show B_X8_frozenOnes_4 (nI n) g (row_frz g n) (nI n) = some (.inr (row_frz g n))
      unfold B_X8_frozenOnes_4
      rw [if_pos ((nI_leI (a := n) (b := n) (by omega) (by omega)).mpr (Nat.le_refl _))]
  unfold F_X8_frozenOnes
  rw [h, xb1, row_frz_mk n n8]
theorem frz_all : ∀ n, n < 9 → ∀ m, m < 2 ^ n → ∀ i, i < n → m / 2 ^ i % 2 = 0 → (nI m ||| ((1 : Int32) <<< (nI i &&& 31)) = ((1 : Int32) <<< (nI n &&& 31)) - 1 ↔ nI (bcn m 8) = nI n - 1) := by decide +kernel
/-- why one can't be frozen -/
theorem wf_both {n K : Nat} {f g : Nat → Int32} {p : Int32} (hK : 200000 ≤ K) (h : RowR n f g) : ∃ r, F_X5_freezeRefusal p f = some r ∧ F_X8_whyFreeze K p g (nI n) = some r ∧ R3 r ∧ (r = -1 → ∃ i, i < n ∧ p = nI i) := by
  have n8 := h.n8
  rcases hs_both (p := p) n8 h.sz with ⟨i, hi, rfl, c1, c2⟩ | ⟨-, c1, c2⟩
  · have lt : row_mk g n < 256 := Nat.lt_of_lt_of_le (row_mk_lt n) (Nat.pow_le_pow_right (by decide) n8)
    have fa := frz_all n (by omega) (row_mk g n) (row_mk_lt n) i hi
    rw [row_mk_at n n8 i hi] at fa
    unfold F_X5_freezeRefusal F_X8_whyFreeze
    rw [c1, c2, xb1, xb1, if_neg (show ¬ (1 : Int32) = 0 by decide), if_neg (show ¬ (1 : Int32) = 0 by decide), fz_c h.1 hi, xb1, fz_m (by omega), xb1, m_frz hK n8, xb1, bits_m hK lt, xb1, h.1.fr, h.sz, row_frz_mk n n8]
    by_cases c : g (76 + i) = 1
    · rw [if_pos c, if_neg (show ¬ (1 : Int32) = 0 by decide), if_neg (show ¬ (1 : Int32) = 0 by decide)]
      refine ⟨-1, ?_, rfl, Or.inl rfl, fun _ => ⟨i, hi, rfl⟩⟩
      split <;> rfl
    · rw [if_neg c] at fa
      have fb := fa rfl
      rw [if_neg c, if_pos rfl, if_pos rfl]
      by_cases d : nI (bcn (row_mk g n) 8) = nI n - 1
      · rw [if_pos (fb.mpr d), if_pos d]
        exact ⟨2, rfl, rfl, r32, fun q => absurd q (by decide)⟩
      · rw [if_neg (fun z => d (fb.mp z)), if_neg d]
        exact ⟨-1, rfl, rfl, Or.inl rfl, fun _ => ⟨i, hi, rfl⟩⟩
  · unfold F_X5_freezeRefusal F_X8_whyFreeze
    rw [c1, c2, xb1, xb1, if_pos rfl, if_pos rfl]
    exact ⟨0, rfl, rfl, r30, fun q => absurd q (by decide)⟩
/-- an act that can be -/
abbrev ActOk (n s : Nat) (a b c : Int32) (g : Nat → Int32) : Prop := 0 < n ∧ (s = 0 → ∃ i, i < n ∧ a = nI i ∧ in9 b ∧ in9 c ∧ inR (g (0 + i) + b) ∧ inR (g (8 + i) + c) ∧ ¬ g (76 + i) = 1) ∧ (s = 3 → (0 : Int32) ≤ a ∧ a ≤ (3 : Int32)) ∧ (s = 4 → ∃ i, i < n ∧ a = nI i ∧ ((1 : Int32) ≤ b ∧ b ≤ (999 : Int32)) ∧ g (48 + i) + b ≤ (99999 : Int32) ∧ g 73 < g 66) ∧ (s = 5 → (1 : Int32) ≤ a ∧ a ≤ (9999 : Int32)) ∧ (s = 6 → ∃ i, i < n ∧ a = nI i)
/-- why an act can't be -/
theorem rf_both {n K s : Nat} {f g : Nat → Int32} {S a b c : Int32} (eS : S = nI s) (hs : s ≤ 6) (hK : 200000 ≤ K) (h : RowR n f g) (hX : RowX n g) : ∃ r, F_X5_refusal S a b c f = some r ∧ F_X8_whyNot K S a b c g (nI n) = some r ∧ R3 r ∧ (r = -1 → ActOk n s a b c g) := by
  have n8 := h.n8
  obtain ⟨s1, s2⟩ := sd_both n8 h.sz
  have w0 : n = 0 → ∀ {x lo hi is : Int32}, F_X8_whySet x lo hi is (nI n) = some 0 := fun z x lo hi is => by
    unfold F_X8_whySet
    rw [s2, if_pos z, xb1, if_pos rfl]
  have nos : n = 0 → F_X8_isSite a (nI n) = some 0 := fun z => by
    rcases hs_both (p := a) n8 h.sz with ⟨i, hi, -⟩ | ⟨-, -, c2⟩
    · omega
    · exact c2
  unfold F_X5_refusal F_X8_whyNot
  rw [s1, xb1, eS]
  by_cases z : n = 0
  · rw [if_pos z, if_pos rfl]
    refine ⟨0, rfl, ?_, r30, fun q => absurd q (by decide)⟩
    rcases (show s = 0 ∨ s = 1 ∨ s = 2 ∨ s = 3 ∨ s = 4 ∨ s = 5 ∨ s = 6 by omega) with rfl | rfl | rfl | rfl | rfl | rfl | rfl
    · rw [if_pos (by decide)]
      unfold F_X8_whyMove
      rw [nos z, xb1, if_pos rfl, xb1]
    · rw [if_neg (by decide), if_pos (by decide), s2, if_pos z, xb1, if_pos rfl]
    · rw [if_neg (by decide), if_neg (by decide), if_pos (by decide), w0 z, xb1]
    · rw [if_neg (by decide), if_neg (by decide), if_neg (by decide), if_pos (by decide), w0 z, xb1]
    · rw [if_neg (by decide), if_neg (by decide), if_neg (by decide), if_neg (by decide), if_pos (by decide)]
      unfold F_X8_whyAdd
      rw [nos z, xb1, if_pos rfl, xb1]
    · rw [if_neg (by decide), if_neg (by decide), if_neg (by decide), if_neg (by decide), if_neg (by decide), if_pos (by decide), w0 z, xb1]
    · rw [if_neg (by decide), if_neg (by decide), if_neg (by decide), if_neg (by decide), if_neg (by decide), if_neg (by decide), if_pos (by decide)]
      unfold F_X8_whyFreeze
      rw [nos z, xb1, if_pos rfl, xb1]
  · rw [if_neg z, if_neg (show ¬ (1 : Int32) = 0 by decide)]
    have h0 : 0 < n := by omega
    rcases (show s = 0 ∨ s = 1 ∨ s = 2 ∨ s = 3 ∨ s = 4 ∨ s = 5 ∨ s = 6 by omega) with rfl | rfl | rfl | rfl | rfl | rfl | rfl
    · obtain ⟨r, e1, e2, e3, e4⟩ := mr_both (p := a) (x := b) (y := c) h hX
      rw [if_pos (by decide), if_pos (by decide), e1, e2]
      exact ⟨r, rfl, rfl, e3, fun q => ⟨h0, fun _ => e4 q, by omega, by omega, by omega, by omega⟩⟩
    · rw [if_neg (by decide), if_pos (by decide), if_neg (by decide), if_pos (by decide), s2, if_neg z, xb1, if_neg (show ¬ (1 : Int32) = 0 by decide)]
      exact ⟨-1, rfl, rfl, Or.inl rfl, fun _ => ⟨h0, by omega, by omega, by omega, by omega, by omega⟩⟩
    · obtain ⟨r, e1, e2, e3, e4⟩ := sr_both (p := a) (lo := (-9999999 : Int32)) (hi := (9999999 : Int32)) (is := g 65) n8 h0
      rw [if_neg (by decide), if_neg (by decide), if_pos (by decide), if_neg (by decide), if_neg (by decide), if_pos (by decide), show f 1 = g 65 from h.1.2.2.2.1 (1, 65) (by decide), e1, e2]
      exact ⟨r, rfl, rfl, e3, fun _ => ⟨h0, by omega, by omega, by omega, by omega, by omega⟩⟩
    · obtain ⟨r, e1, e2, e3, e4⟩ := sr_both (p := a) (lo := (0 : Int32)) (hi := (3 : Int32)) (is := g 64) n8 h0
      rw [if_neg (by decide), if_neg (by decide), if_neg (by decide), if_pos (by decide), if_neg (by decide), if_neg (by decide), if_neg (by decide), if_pos (by decide), show f 0 = g 64 from h.1.2.2.2.1 (0, 64) (by decide), e1, e2]
      exact ⟨r, rfl, rfl, e3, fun q => ⟨h0, by omega, fun _ => e4 q, by omega, by omega, by omega⟩⟩
    · obtain ⟨r, e1, e2, e3, e4⟩ := wa_both (p := a) (k := b) h
      rw [if_neg (by decide), if_neg (by decide), if_neg (by decide), if_neg (by decide), if_pos (by decide), if_neg (by decide), if_neg (by decide), if_neg (by decide), if_neg (by decide), if_pos (by decide), e1, e2]
      exact ⟨r, rfl, rfl, e3, fun q => ⟨h0, by omega, by omega, fun _ => e4 q, by omega, by omega⟩⟩
    · have w1 : F_X8_isWatch (nI n) = some 1 := by rw [s2, if_neg z]
      have M : F_X8_whySet a (1 : Int32) (9999 : Int32) (-1 : Int32) (nI n) = some (if (1 : Int32) ≤ a ∧ a ≤ (9999 : Int32) then -1 else 1) := by
        unfold F_X8_whySet
        rw [w1, xb1, if_neg n10, m_inI, xb1, ite10]
        by_cases k : (1 : Int32) ≤ a ∧ a ≤ (9999 : Int32)
        · have ne : ¬ a = -1 := fun e => absurd k.1 (by rw [e]; decide)
          rw [if_pos k, if_pos k, if_neg ne]
        · rw [if_neg k, if_neg k]
      rw [if_neg (by decide), if_neg (by decide), if_neg (by decide), if_neg (by decide), if_neg (by decide), if_pos (by decide), rng_d]
      refine ⟨if (1 : Int32) ≤ a ∧ a ≤ (9999 : Int32) then -1 else 1, ?_, ?_, ?_, ?_⟩
      · by_cases k : (1 : Int32) ≤ a ∧ a ≤ (9999 : Int32)
        · rw [if_pos k, if_pos k]
        · rw [if_neg k, if_neg k]
      · rw [if_neg (by decide), if_neg (by decide), if_neg (by decide), if_neg (by decide), if_neg (by decide), if_pos (by decide), M, xb1]
      · by_cases k : (1 : Int32) ≤ a ∧ a ≤ (9999 : Int32)
        · rw [if_pos k]
          exact Or.inl rfl
        · rw [if_neg k]
          exact r31
      · intro q
        have k : (1 : Int32) ≤ a ∧ a ≤ (9999 : Int32) := Decidable.byContradiction (fun k => by
          rw [if_neg k] at q
          exact absurd q (by decide))
        exact ⟨h0, by omega, by omega, by omega, fun _ => k, by omega⟩
    · obtain ⟨r, e1, e2, e3, e4⟩ := wf_both (p := a) hK h
      rw [if_neg (by decide), if_neg (by decide), if_neg (by decide), if_neg (by decide), if_neg (by decide), if_neg (by decide), if_pos (by decide), if_neg (by decide), if_neg (by decide), if_neg (by decide), if_neg (by decide), if_neg (by decide), if_neg (by decide), if_pos (by decide), e1, e2]
      exact ⟨r, rfl, rfl, e3, fun q => ⟨h0, by omega, by omega, by omega, by omega, fun _ => e4 q⟩⟩
end
-- 83c.15
section
/-! Stage B, 15: what acts leave of the class's row: its sites and the acts' count -/
def E3 (g f : Nat → Int32) : Prop := g 3 = f 3 ∧ g 16 = f 16 ∧ g 11 = f 11
theorem E3.tr {a b c : Nat → Int32} (h1 : E3 a b) (h2 : E3 b c) : E3 a c := ⟨h1.1.trans h2.1, h1.2.1.trans h2.2.1, h1.2.2.trans h2.2.2⟩
theorem e_put {p1 p2 p3 : Int32} {f : Nat → Int32} : Tt (F_X5_put p1 p2 p3 f) (fun g => E3 g f) := by
  unfold F_X5_put
  refine tt_ite (fun _ => tt_some ⟨rfl, rfl, rfl⟩) (fun a1 => ?_)
  refine tt_ite (fun _ => tt_some ⟨rfl, rfl, rfl⟩) (fun a2 => ?_)
  refine tt_ite (fun _ => tt_some ⟨rfl, rfl, rfl⟩) (fun b1 => ?_)
  refine tt_ite (fun _ => tt_some ⟨rfl, rfl, rfl⟩) (fun b2 => ?_)
  obtain ⟨a, ha, rfl⟩ := nnI (n := 8) (by decide) a1 a2
  obtain ⟨b, hb, rfl⟩ := nnI (n := 8) (by decide) b1 b2
  rw [sx]
  refine tt_ixn (by omega) (by decide) (tt_nm (tt_some ?_))
  rw [nI_clamp (by omega)]
  exact ⟨upd_no (by omega), upd_no (by omega), upd_no (by omega)⟩
theorem e_endRound {K : Nat} {f : Nat → Int32} (hK : 200000 ≤ K) (hr : Rw (f 3)) : Tt (F_X5_endRound K f) (fun g => E3 g f) := by
  unfold F_X5_endRound
  refine tt_bd1 (t_total hK hr) (fun r _ => tt_nm (tt_nm (tt_nm ?_)))
  refine tt_bd1 (P := fun g => E3 g f) (tt_for (fun j u => u.1 = nI j ∧ E3 u.2 f) 8 (by omega) ⟨rfl, rfl, rfl, rfl⟩ (fun j u hj hu => ?_)) (fun g hg => tt_some hg)
  unfold B_X5_endRound_34
  refine tt_bd1 t_sites (fun r hs => tt_ite (fun _ => tt_some (nx_r hu.2)) (fun q => tt_bd1 e_put (fun g hg => tt_some (nx_l (rw_lt hr (hs.trans hu.2.1) hu.1 hj q) ⟨nx1 hu.1, E3.tr hg hu.2⟩))))
theorem e_addTo {K : Nat} {p1 p2 : Int32} {f : Nat → Int32} (hK : 200000 ≤ K) (hr : Rw (f 3)) : Tt (F_X5_addTo K p1 p2 f) (fun x => E3 x.2 f) := by
  unfold F_X5_addTo
  refine tt_bd1 t_of (fun r _ => tt_bd1 e_put (fun w hw => tt_bd1 t_stepFrom (fun s _ => ?_)))
  have hw : E3 w f := hw
  refine tt_ite (fun _ => tt_nm (tt_some (E3.tr (b := w) ⟨rfl, rfl, rfl⟩ hw))) (fun _ => tt_bd1 t_of (fun r8 _ => tt_bd1 e_put (fun w1 hw1 => ?_)))
  refine tt_bd3 (P := fun x : Nat × Int32 × (Nat → Int32) => x.1 < 2 ∧ E3 x.2.2 f) (tt_for (fun j u => u.2.1 = nI j ∧ E3 u.2.2 f) 8 (by omega) ⟨rfl, E3.tr hw1 hw⟩ (fun j u hj hu => ?_)) (fun t x4 g hg => ?_)
  · unfold B_X5_addTo_67
    refine tt_ite (fun _ => tt_some (nx_r ⟨Nat.lt_succ_self 1, hu.2⟩)) (fun q => tt_bd1 t_of (fun r _ => tt_ite (fun _ => tt_some (nx_r ⟨Nat.lt_succ_self 1, hu.2⟩)) (fun _ => tt_bd1 t_of (fun r _ => tt_bd1 e_put (fun g hg => tt_nm ?_)))))
    have jl : j < 8 := by
      rw [hu.1, show (8 : Int32) = nI 8 from rfl] at q
      have := mt (nI_leI (a := 8) (b := j) (by omega) (by omega)).mpr q
      omega
    have hg : E3 g u.2.2 := hg
    have hz : E3 (upd g 9 (g 9 + 1)) f := E3.tr (b := g) ⟨rfl, rfl, rfl⟩ (E3.tr hg hu.2)
    exact tt_ite (fun _ => tt_some (nx_l jl ⟨nx1 hu.1, hz⟩)) (fun _ => tt_some (nx_r ⟨Nat.zero_lt_succ 1, hz⟩))
  · have hg2 : E3 g f := hg.2
    have ht : t < 2 := hg.1
    refine tt_ite (fun _ => tt_bd1 (e_endRound hK (by rw [hg2.1]; exact hr)) (fun w hw => tt_some (E3.tr hw hg2))) (fun h0 => tt_ite (fun _ => tt_some hg2) (fun h1 => ?_))
    omega
theorem e_balance {K : Nat} {p1 ac oc : Int32} {f sh lo : Nat → Int32} (hK : 200000 ≤ K) (hr : Rw (f 3)) : Tt (F_X5_balance K p1 f ac oc sh lo) (fun x => E3 x.2.1 f) := by
  unfold F_X5_balance
  refine tt_nm (tt_bd2 (P := fun x : Int32 × (Nat → Int32) => E3 x.2 f) (tt_for (fun j u => u.2.1 = nI j ∧ E3 u.2.2 f) 8 (by omega) ⟨rfl, rfl, rfl, rfl⟩ (fun j u hj hu => ?_)) (fun x2 g hg => tt_some hg))
  unfold B_X5_balance_20
  refine tt_bd1 t_sites (fun r hs => tt_ite (fun _ => tt_some (nx_r hu.2)) (fun q => ?_))
  have jl := rw_lt hr (hs.trans hu.2.1) hu.1 hj q
  refine tt_ite (fun _ => tt_some (nx_l jl ⟨nx1 hu.1, hu.2⟩)) (fun _ => ?_)
  refine tt_bd1 (P := fun g => E3 g f) (tt_for (fun j u => u.1 = nI j ∧ E3 u.2 f) 2 (by omega) ⟨rfl, hu.2⟩ (fun i v hi hv => ?_)) (fun g hg => tt_some (nx_l jl ⟨nx1 hu.1, hg⟩))
  unfold B_X5_balance_42
  refine tt_ite (fun _ => tt_some (nx_r hv.2)) (fun q => tt_bd1 t_shareOf (fun _ _ => tt_bd1 t_drift (fun _ _ => tt_bd1 t_of (fun _ _ => tt_bd1 e_put (fun g hg => tt_some (nx_l ?_ ⟨nx1 hv.1, E3.tr hg hv.2⟩))))))
  rw [hv.1, show (2 : Int32) = nI 2 from rfl] at q
  have := mt (nI_leI (a := 2) (b := i) (by omega) (by omega)).mpr q
  omega
theorem e_hearPlaces {K : Nat} {f : Nat → Int32} (hK : 200000 ≤ K) (hr : Rw (f 3)) : Tt (F_X5_hearPlaces K f) (fun g => E3 g f) := by
  unfold F_X5_hearPlaces
  refine tt_nm (tt_nm (tt_bd1 (P := fun g => E3 g f) (tt_for (fun j u => u.1 = nI j ∧ E3 u.2 f) 8 (by omega) ⟨rfl, rfl, rfl, rfl⟩ (fun j u hj hu => ?_)) (fun g hg => tt_some hg)))
  unfold B_X5_hearPlaces_16
  refine tt_bd1 t_sites (fun r hs => tt_ite (fun _ => tt_some (nx_r hu.2)) (fun q => ?_))
  have jl := rw_lt hr (hs.trans hu.2.1) hu.1 hj q
  refine tt_bd1 t_of (fun _ _ => tt_bd1 e_put (fun g1 h1 => tt_bd1 t_of (fun _ _ => tt_bd1 e_put (fun g2 h2 => tt_bd1 e_put (fun g3 h3 => tt_bd1 e_put (fun g4 h4 => tt_bd1 t_of (fun _ _ => tt_nm (tt_bd1 t_of (fun _ _ => tt_nm (tt_some (nx_l jl ⟨nx1 hu.1, ?_⟩)))))))))))
  exact E3.tr (b := g4) ⟨rfl, rfl, rfl⟩ (E3.tr h4 (E3.tr h3 (E3.tr h2 (E3.tr h1 hu.2))))
theorem e_shift {p1 p2 p3 : Int32} {f : Nat → Int32} : Tt (F_X5_shift p1 p2 p3 f) (fun g => E3 g f) := by
  unfold F_X5_shift
  exact tt_bd1 t_of (fun _ _ => tt_bd1 e_put (fun g1 h1 => tt_bd1 t_of (fun _ _ => tt_bd1 e_put (fun g2 h2 => tt_some (E3.tr h2 h1)))))
theorem e_hearAll {K : Nat} {f : Nat → Int32} (hK : 200000 ≤ K) (hr : Rw (f 3)) : Tt (F_X5_hearAll K f) (fun g => E3 g f) := by
  have J : ∀ (k0 : Int32) (w : Nat → Int32), E3 w f → Tt (J_X5_hearAll_41 k0 w) (fun g => E3 g f) := by
    intro k0 w hw
    unfold J_X5_hearAll_41
    exact tt_ite (fun _ => tt_nm (tt_some (E3.tr (b := w) ⟨rfl, rfl, rfl⟩ hw))) (fun _ => tt_nm (tt_nm (tt_some (E3.tr (b := w) ⟨rfl, rfl, rfl⟩ hw))))
  unfold F_X5_hearAll
  refine tt_bd1 (e_hearPlaces hK hr) (fun w hw => tt_nm (tt_bd1 t_allows (fun _ _ => ?_)))
  have hw : E3 w f := hw
  exact tt_ite (fun _ => J _ _ (E3.tr (b := w) ⟨rfl, rfl, rfl⟩ hw)) (fun _ => J _ _ (E3.tr (b := w) ⟨rfl, rfl, rfl⟩ hw))
theorem e_moveSite {K : Nat} {p1 p2 p3 ac oc : Int32} {f pa sh lo : Nat → Int32} (hK : 200000 ≤ K) (hr : Rw (f 3)) : Tt (F_X5_moveSite K p1 p2 p3 f pa ac oc sh lo) (fun x => E3 x.2.1 f) := by
  unfold F_X5_moveSite
  refine tt_bd1 e_shift (fun w hw => tt_bd1 t_isQuiet (fun r _ => ?_))
  have hw' : E3 w f := hw
  have hr' : Rw (upd w 12 (w 12 + 1) 3) := by rw [show upd w 12 (w 12 + 1) 3 = w 3 from rfl, hw'.1]; exact hr
  have hu' : E3 (upd w 12 (w 12 + 1)) f := E3.tr (b := w) ⟨rfl, rfl, rfl⟩ hw'
  refine tt_ite (fun _ => tt_nm ?_) (fun _ => tt_some hw')
  refine tt_bd6 (P := fun x : Nat × Int32 × (Nat → Int32) × Int32 × (Nat → Int32) × (Nat → Int32) => x.1 < 2 ∧ Rw x.2.2.2.1) (tt_for (fun j u => u.2.1 = nI (j + 1) ∧ Rw u.2.2.2.1) 8 (by omega) ⟨rfl, ⟨0, by decide, rfl⟩⟩ (fun j u hj hu => ?_)) (fun t x4 pa' ac' sh' lo' hx => ?_)
  · have J : ∀ k0, j < 8 → Tt (J_X5_moveSite_102_r47 K k0 u.1 u.2.1 (upd w 12 (w 12 + 1)) u.2.2.1 u.2.2.2.1 u.2.2.2.2.1 u.2.2.2.2.2) (Nx (fun j u => u.2.1 = nI (j + 1) ∧ Rw u.2.2.2.1) (fun x : Nat × Int32 × (Nat → Int32) × Int32 × (Nat → Int32) × (Nat → Int32) => x.1 < 2 ∧ Rw x.2.2.2.1) 8 j) := by
      intro k0 jl
      unfold J_X5_moveSite_102_r47
      exact tt_bd1 t_isFrozen (fun _ _ => tt_ite (fun _ => tt_bd2 (t_noteAsked hu.2) (fun c1 a1 h1 => tt_bd3 (t_canShare hK hr') (fun _ _ _ _ => tt_ite (fun _ => tt_some (nx_l jl ⟨nx1 hu.1, h1⟩)) (fun _ => tt_some (nx_r ⟨Nat.zero_lt_succ 1, h1⟩))))) (fun _ => tt_some (nx_l jl ⟨nx1 hu.1, hu.2⟩)))
    unfold B_X5_moveSite_46
    refine tt_ite (fun _ => tt_some (nx_r ⟨Nat.lt_succ_self 1, hu.2⟩)) (fun _ => tt_ite (fun _ => tt_some (nx_r ⟨Nat.lt_succ_self 1, hu.2⟩)) (fun q => ?_))
    have jl : j + 1 < 8 := lt_of_lit (by decide) (by omega) hu.1 q
    exact tt_bd1 t_isAbove (fun _ _ => tt_ite (fun _ => tt_ite (fun _ => J _ (by omega)) (fun _ => J _ (by omega))) (fun _ => tt_some (nx_r ⟨Nat.lt_succ_self 1, hu.2⟩)))
  · have ht : t < 2 := hx.1
    refine tt_ite (fun _ => tt_bd3 (e_balance hK hr') (fun _ g _ hg => tt_some (E3.tr hg hu'))) (fun h0 => tt_ite (fun _ => ?_) (fun h1 => ?_))
    · unfold J_X5_moveSite_153
      exact tt_bd1 (e_hearAll hK hr') (fun g hg => tt_some (E3.tr hg hu'))
    · omega
theorem e_hearByHand {K : Nat} {f : Nat → Int32} (hK : 200000 ≤ K) (hr : Rw (f 3)) : Tt (F_X5_hearByHand K f) (fun x => E3 x.2 f) := by
  unfold F_X5_hearByHand
  exact tt_bd1 (e_hearAll hK hr) (fun g hg => tt_some hg)
theorem e_startCounts {K : Nat} {p1 : Int32} {f : Nat → Int32} (hK : 200000 ≤ K) (hr : Rw (f 3)) : Tt (F_X5_startCounts K p1 f) (fun g => E3 g f) := by
  unfold F_X5_startCounts
  refine tt_nm (tt_nm (tt_nm (tt_nm (tt_bd1 (P := fun g => E3 g f) (tt_for (fun j u => u.1 = nI j ∧ E3 u.2 f) 8 (by omega) ⟨rfl, rfl, rfl, rfl⟩ (fun j u hj hu => ?_)) (fun g hg => tt_some hg)))))
  unfold B_X5_startCounts_33
  exact tt_bd1 t_sites (fun r hs => tt_ite (fun _ => tt_some (nx_r hu.2)) (fun q => tt_bd1 e_put (fun g1 h1 => tt_bd1 e_put (fun g2 h2 => tt_some (nx_l (rw_lt hr (hs.trans hu.2.1) hu.1 hj q) ⟨nx1 hu.1, E3.tr h2 (E3.tr h1 hu.2)⟩)))))
/-- sites and acts as they were, r messages more -/
def E4 (r : Int32) (g f : Nat → Int32) : Prop := g 3 = f 3 ∧ g 16 = f 16 ∧ g 11 = f 11 + r
theorem e_doAct {K : Nat} {p1 p2 p3 p4 ac oc : Int32} {f pa sh lo : Nat → Int32} (hK : 200000 ≤ K) (hr : Rw (f 3)) : Tt (F_X5_doAct K p1 p2 p3 p4 f pa ac oc sh lo) (fun x => E4 x.1 x.2.1 f) := by
  have up : ∀ {w : Nat → Int32} {v : Int32}, E3 w f → E4 v (upd w 11 (w 11 + v)) f := fun {w v} hw => ⟨hw.1, hw.2.1, by rw [upd_at, hw.2.2]⟩
  unfold F_X5_doAct
  refine tt_ite (fun _ => tt_bd7 (e_moveSite hK hr) (fun _ w _ _ _ _ _ hw => tt_nm (tt_some (up hw)))) (fun _ => ?_)
  refine tt_ite (fun _ => tt_bd2 (e_hearByHand hK hr) (fun _ w hw => tt_nm (tt_some (up hw)))) (fun _ => ?_)
  refine tt_ite (fun _ => tt_nm (tt_bd2 (e_hearByHand (f := upd f 1 p2) hK hr) (fun _ w hw => tt_nm (tt_some (up (E3.tr (b := upd f 1 p2) hw ⟨rfl, rfl, rfl⟩)))))) (fun _ => ?_)
  refine tt_ite (fun _ => tt_nm (tt_bd2 (e_hearByHand (f := upd f 0 p2) hK hr) (fun _ w hw => tt_nm (tt_some (up (E3.tr (b := upd f 0 p2) hw ⟨rfl, rfl, rfl⟩)))))) (fun _ => ?_)
  refine tt_ite (fun _ => tt_bd2 (e_addTo hK hr) (fun _ w hw => tt_nm (tt_some (up hw)))) (fun _ => ?_)
  refine tt_ite (fun _ => tt_bd1 (e_startCounts hK hr) (fun w hw => tt_nm (tt_some (up hw)))) (fun _ => ?_)
  exact tt_ite (fun _ => tt_nm (tt_nm (tt_some (up (w := upd f 7 (f 7 ^^^ ((1 : Int32) <<< (p2 &&& (31 : Int32))))) ⟨rfl, rfl, rfl⟩)))) (fun _ => tt_nm (tt_some (up (w := f) ⟨rfl, rfl, rfl⟩)))
end
-- 83c.16
section
/-! Stage B, 16: an act that can be, in both -/
abbrev RowI (n : Nat) (g : Nat → Int32) : Prop := RowG g ∧ (0 < n → RowX n g ∧ RowF n g ∧ RowC n g)
theorem RowC.of {n : Nat} {g g' : Nat → Int32} (h : RowC n g) (n8 : n ≤ 8) (fr : ∀ k, ((48 ≤ k ∧ k < 64) ∨ k = 66 ∨ k = 73 ∨ k = 75) → g' k = g k) : RowC n g' := by
  obtain ⟨a, b, q, a1, a9, e66, b9, e73, hq, e75, hcs, hrs⟩ := h
  have e : st n g' = st n g := st_of (fr 66 (by omega)) (fr 73 (by omega))
  refine ⟨a, b, q, a1, a9, (fr 66 (by omega)).trans e66, b9, (fr 73 (by omega)).trans e73, hq, (fr 75 (by omega)).trans e75, fun j hj => ?_, fun j hj => ?_⟩
  · rw [fr (48 + j) (by omega)]
    exact hcs j hj
  · rw [fr (56 + j) (by omega), e]
    exact hrs j hj
theorem RowI.of {n : Nat} {g g' : Nat → Int32} (h : RowI n g) (n8 : n ≤ 8) (G : RowG g') (fr : ∀ k, (k < 16 ∨ (48 ≤ k ∧ k < 64) ∨ k = 66 ∨ k = 73 ∨ k = 75 ∨ (76 ≤ k ∧ k < 84)) → g' k = g k) : RowI n g' := by
  refine ⟨G, fun h0 => ?_⟩
  obtain ⟨hX, hF, hC⟩ := h.2 h0
  refine ⟨fun j hj => ?_, fun j hj => ?_, hC.of n8 (fun k hk => fr k (by omega))⟩
  · rw [fr (0 + j) (by omega), fr (8 + j) (by omega)]
    exact hX j hj
  · rw [fr (76 + j) (by omega)]
    exact hF j hj
theorem RowI.msg {n : Nat} {g : Nat → Int32} (h : RowI n g) (n8 : n ≤ 8) (v : Int32) : RowI n (upd g 67 v) := h.of n8 (h.1.of (upd_ne (by decide)) (upd_ne (by decide))) (fun k hk => upd_ne (by omega))
/-- what an act leaves, and what it tells: r messages, v the reference's answer -/
def DaQ (n s : Nat) (a : Int32) (g : Nat → Int32) (r v : Int32) (f' g' : Nat → Int32) : Prop := RowR n f' g' ∧ RowI n g' ∧ g' 67 = g 67 + r ∧ (∀ k, 84 ≤ k → g' k = g k) ∧ (∃ m, m ≤ 100 ∧ r = nI m) ∧ (s = 0 ∨ s = 1 ∨ s = 4 → v = r) ∧ (s = 2 → v = g 65) ∧ (s = 3 → v = g 64) ∧ (s = 5 → v = g 66) ∧ (s = 6 → ∀ i, i < n → a = nI i → v = g' (76 + i))
theorem hh_both {n K : Nat} {f g : Nat → Int32} (hK : 200000 ≤ K) (h : RowR n f g) (hI : RowI n g) (hl : ∃ a, a < 4 ∧ g 64 = nI a) : ∃ f' g', F_X5_hearByHand K f = some (nI (2 * n), f') ∧ F_X8_hearsAll K g (nI n) = some g' ∧ (2 : Int32) * nI n = nI (2 * n) ∧ RowR n f' g' ∧ RowI n g' ∧ ∀ k, (84 ≤ k ∨ k = 67) → g' k = g k := by
  have n8 := h.n8
  obtain ⟨f1, g1, e1, e2, R, G, fr⟩ := ha_both hK h.1 hl
  have e : (2 : Int32) * nI n = nI (2 * n) := by rw [show (2 : Int32) = nI 2 from rfl, nI_mul]
  refine ⟨f1, g1, ?_, e2, e, R, hI.of n8 G (fun k hk => fr k (by omega) (by omega) (by omega) (by omega)), fun k hk => fr k (by omega) (by omega) (by omega) (by omega)⟩
  unfold F_X5_hearByHand
  rw [e1, xb1, show f1 3 = nI n from R.1.2.1, e]
theorem RowR.msg {n : Nat} {f g : Nat → Int32} {r : Int32} (h : RowR n f g) : RowR n (upd f 11 (f 11 + r)) (upd g 67 (g 67 + r)) := h.fr11 _ _
theorem da_both {n K s : Nat} {f g P A sh lo sx sy : Nat → Int32} {S a b c ac oc as ou tk : Int32} (eS : S = nI s) (hs : s ≤ 6) (hK : 200000 ≤ K) (h : RowR n f g) (hI : RowI n g) (ok : ActOk n s a b c g) : ∃ (r v ac' oc' as' ou' : Int32) (f' g' P' A' sh' lo' sx' sy' : Nat → Int32), F_X5_doAct K S a b c f P ac oc sh lo = some (r, f', P', ac', oc', sh', lo') ∧ F_X8_doNow K S a b c g (nI n) sx sy as ou A tk = some (v, g', sx', sy', as', ou', A', r) ∧ DaQ n s a g r v f' g' := by
  have n8 := h.n8
  obtain ⟨h0, ok0, ok3, ok4, ok5, ok6⟩ := ok
  obtain ⟨hX, hF, hC⟩ := hI.2 h0
  unfold F_X5_doAct F_X8_doNow F_X8_doIt
  rw [eS]
  rcases (show s = 0 ∨ s = 1 ∨ s = 2 ∨ s = 3 ∨ s = 4 ∨ s = 5 ∨ s = 6 by omega) with rfl | rfl | rfl | rfl | rfl | rfl | rfl
  · obtain ⟨i, hi, rfl, -, -, x1, x2, -⟩ := ok0 rfl
    obtain ⟨r, o, m, f1, g1, P1, A1, sh1, lo1, sx1, sy1, e1, e2, -, -, R, G, hm, fr⟩ := mv_both (x := b) (y := c) (P := P) (A := A) (sh := sh) (lo := lo) (sx := sx) (sy := sy) (ac := ac) (oc := oc) (as := as) (ou := ou) hK h hI.1 hi
    rw [if_pos (by decide), if_pos (by decide), e1, e2, xb7, xb7, xnm, xb8, xnm]
    have fr2 : ∀ k, 16 ≤ k → mvG i b c g k = g k := fun k hk => by
      unfold mvG
      rw [upd_ne (by omega), upd_ne (by omega)]
    have I1 : RowI n g1 := by
      refine ⟨G, fun _ => ⟨fun j hj => ?_, fun j hj => ?_, hC.of n8 (fun k hk => ?_)⟩⟩
      · rw [fr (0 + j) (by omega) (by omega) (by omega) (by omega) (by omega) (by omega), fr (8 + j) (by omega) (by omega) (by omega) (by omega) (by omega) (by omega)]
        unfold mvG
        by_cases e : j = i
        · rw [e, upd_ne (show ¬ 0 + i = 8 + i by omega), upd_at, upd_at, upd_ne (show ¬ 8 + i = 0 + i by omega)]
          exact ⟨x1, x2⟩
        · rw [upd_ne (by omega), upd_ne (by omega), upd_ne (by omega), upd_ne (by omega)]
          exact hX j hj
      · rw [fr (76 + j) (by omega) (by omega) (by omega) (by omega) (by omega) (by omega), fr2 _ (by omega)]
        exact hF j hj
      · rw [fr k (by omega) (by omega) (by omega) (by omega) (by omega) (by omega), fr2 _ (by omega)]
    refine ⟨r, r, _, _, _, _, _, _, _, _, _, _, _, _, rfl, rfl, R.msg, I1.msg n8 _, by rw [upd_at, fr 67 (by omega) (by omega) (by omega) (by omega) (by omega) (by omega), fr2 _ (by omega)], fun k hk => ?_, hm, fun _ => rfl, by omega, by omega, by omega, by omega⟩
    rw [upd_ne (by omega), fr k (by omega) (by omega) (by omega) (by omega) (by omega) (by omega), fr2 _ (by omega)]
  · obtain ⟨f1, g1, e1, e2, e3, R, I1, fr⟩ := hh_both hK h hI hI.1.1
    rw [if_neg (by decide), if_pos (by decide), if_neg (by decide), if_pos (by decide), e1, e2, xb1, xb2, xnm, xb8, xnm, e3]
    exact ⟨_, _, _, _, _, _, _, _, _, _, _, _, _, _, rfl, rfl, R.msg, I1.msg n8 _, by rw [upd_at, fr 67 (Or.inr rfl)], fun k hk => (upd_ne (by omega)).trans (fr k (Or.inl hk)), ⟨2 * n, by omega, rfl⟩, fun _ => rfl, by omega, by omega, by omega, by omega⟩
  · have R0 : RowR n (upd f 1 a) (upd g 65 a) := h.scal (by decide) a
    have I0 : RowI n (upd g 65 a) := hI.of n8 (hI.1.of (upd_ne (by decide)) (upd_ne (by decide))) (fun k hk => upd_ne (by omega))
    obtain ⟨f1, g1, e1, e2, e3, R, I1, fr⟩ := hh_both hK R0 I0 I0.1.1
    unfold F_X8_setsAnd
    rw [if_neg (by decide), if_neg (by decide), if_pos (by decide), if_neg (by decide), if_neg (by decide), if_pos (by decide), xix (show vp_in (65 : Int32) 265 from nI_in (c := 65) (by decide) (by decide)), xix (show vp_in (65 : Int32) 265 from nI_in (c := 65) (by decide) (by decide)), xnm, xnm]
    rw [show (65 : Int32).toNatClampNeg = 65 by decide, e1, e2, xb1, xb2, xnm, xb3, xb8, xnm, e3]
    exact ⟨_, _, _, _, _, _, _, _, _, _, _, _, _, _, rfl, rfl, R.msg, I1.msg n8 _, by rw [upd_at, fr 67 (Or.inr rfl), upd_ne (by decide)], fun k hk => (upd_ne (by omega)).trans ((fr k (Or.inl hk)).trans (upd_ne (by omega))), ⟨2 * n, by omega, rfl⟩, by omega, fun _ => rfl, by omega, by omega, by omega⟩
  · obtain ⟨k3, hk3, ek3⟩ := in_nat (p := a) (n := 3) (by decide) (ok3 rfl)
    have R0 : RowR n (upd f 0 a) (upd g 64 a) := h.scal (by decide) a
    have I0 : RowI n (upd g 64 a) := hI.of n8 ⟨⟨k3, by omega, by rw [upd_at]; exact ek3⟩, by rw [upd_ne (by decide)]; exact hI.1.2⟩ (fun k hk => upd_ne (by omega))
    obtain ⟨f1, g1, e1, e2, e3, R, I1, fr⟩ := hh_both hK R0 I0 I0.1.1
    unfold F_X8_setsAnd
    rw [if_neg (by decide), if_neg (by decide), if_neg (by decide), if_pos (by decide), if_neg (by decide), if_neg (by decide), if_neg (by decide), if_pos (by decide), xix (show vp_in (64 : Int32) 265 from nI_in (c := 64) (by decide) (by decide)), xix (show vp_in (64 : Int32) 265 from nI_in (c := 64) (by decide) (by decide)), xnm, xnm]
    rw [show (64 : Int32).toNatClampNeg = 64 by decide, e1, e2, xb1, xb2, xnm, xb3, xb8, xnm, e3]
    exact ⟨_, _, _, _, _, _, _, _, _, _, _, _, _, _, rfl, rfl, R.msg, I1.msg n8 _, by rw [upd_at, fr 67 (Or.inr rfl), upd_ne (by decide)], fun k hk => (upd_ne (by omega)).trans ((fr k (Or.inl hk)).trans (upd_ne (by omega))), ⟨2 * n, by omega, rfl⟩, by omega, by omega, fun _ => rfl, by omega, by omega⟩
  · obtain ⟨i, hi, rfl, ⟨b1, b9⟩, hc, hr⟩ := ok4 rfl
    obtain ⟨k, hk9, rfl⟩ := in_nat (p := b) (n := 999) (by decide) ⟨Int32.le_trans (by decide) b1, b9⟩
    have hk1 : 1 ≤ k := (nI_leI (a := 1) (b := k) (by omega) (by omega)).mp b1
    have hcc : ∃ c, c + k ≤ 99999 ∧ g (48 + i) = nI c := by
      obtain ⟨-, -, -, -, -, -, -, -, -, -, hcs, -⟩ := id hC
      obtain ⟨c, hc9, ec⟩ := hcs i hi
      rw [ec, nI_add] at hc
      exact ⟨c, (nI_leI (a := c + k) (b := 99999) (by omega) (by omega)).mp hc, ec⟩
    obtain ⟨r, f1, g1, e1, e2, R, C1, hm, fr⟩ := ad_both hK h hC hi hk1 (by omega) hcc hr
    rw [if_neg (by decide), if_neg (by decide), if_neg (by decide), if_neg (by decide), if_pos (by decide), if_neg (by decide), if_neg (by decide), if_neg (by decide), if_neg (by decide), if_pos (by decide), e1, e2, xb2, xb2, xnm, xb8, xnm]
    have I1 : RowI n g1 := by
      refine ⟨hI.1.of (fr 64 (by omega) (by decide) (by decide) (by decide)) (fr 72 (by omega) (by decide) (by decide) (by decide)), fun _ => ⟨fun j hj => ?_, fun j hj => ?_, C1⟩⟩
      · rw [fr (0 + j) (by omega) (by omega) (by omega) (by omega), fr (8 + j) (by omega) (by omega) (by omega) (by omega)]
        exact hX j hj
      · rw [fr (76 + j) (by omega) (by omega) (by omega) (by omega)]
        exact hF j hj
    exact ⟨_, _, _, _, _, _, _, _, _, _, _, _, _, _, rfl, rfl, R.msg, I1.msg n8 _, by rw [upd_at, fr 67 (by omega) (by omega) (by omega) (by omega)], fun k hk => (upd_ne (by omega)).trans (fr k (by omega) (by omega) (by omega) (by omega)), hm, fun _ => rfl, by omega, by omega, by omega, by omega⟩
  · obtain ⟨a1, a9⟩ := ok5 rfl
    obtain ⟨k, hk9, rfl⟩ := in_nat (p := a) (n := 9999) (by decide) ⟨Int32.le_trans (by decide) a1, a9⟩
    have hk1 : 1 ≤ k := (nI_leI (a := 1) (b := k) (by omega) (by omega)).mp a1
    obtain ⟨f1, g1, e1, e2, R, fr, z66, z73, z75, zc⟩ := sg_both (p := nI k) hK h
    rw [if_neg (by decide), if_neg (by decide), if_neg (by decide), if_neg (by decide), if_neg (by decide), if_pos (by decide), if_neg (by decide), if_neg (by decide), if_neg (by decide), if_neg (by decide), if_neg (by decide), if_pos (by decide), e1, e2, xb1, xb2, xnm, xb8, xnm]
    have I1 : RowI n g1 := by
      refine ⟨hI.1.of (fr 64 (by omega) (by decide) (by decide) (by decide) (by decide)) (fr 72 (by omega) (by decide) (by decide) (by decide) (by decide)), fun _ => ⟨fun j hj => ?_, fun j hj => ?_, ?_⟩⟩
      · rw [fr (0 + j) (by omega) (by omega) (by omega) (by omega) (by omega), fr (8 + j) (by omega) (by omega) (by omega) (by omega) (by omega)]
        exact hX j hj
      · rw [fr (76 + j) (by omega) (by omega) (by omega) (by omega) (by omega)]
        exact hF j hj
      · exact ⟨k, 0, 0, hk1, by omega, z66, by omega, z73, h0, z75, fun j hj => ⟨0, by omega, (zc j hj).1⟩, fun j hj => ⟨0, (zc j hj).2, Or.inl rfl⟩⟩
    exact ⟨_, _, _, _, _, _, _, _, _, _, _, _, _, _, rfl, rfl, R.msg, I1.msg n8 _, by rw [upd_at, fr 67 (by omega) (by omega) (by omega) (by omega) (by omega)], fun k hk => (upd_ne (by omega)).trans (fr k (by omega) (by omega) (by omega) (by omega) (by omega)), ⟨0, by omega, rfl⟩, by omega, by omega, by omega, fun _ => rfl, by omega⟩
  · obtain ⟨i, hi, rfl⟩ := ok6 rfl
    have R := fr_both h hi (hF i hi)
    rw [if_neg (by decide), if_neg (by decide), if_neg (by decide), if_neg (by decide), if_neg (by decide), if_neg (by decide), if_pos (by decide), if_neg (by decide), if_neg (by decide), if_neg (by decide), if_neg (by decide), if_neg (by decide), if_neg (by decide), if_pos (by decide), xnm, xnm, bm_ix (a := 76) (by rfl) (by omega), bm_ix (a := 76) (by rfl) (by omega), xnm, bm_ix (a := 76) (by rfl) (by omega), xb8, xnm, bm_cl (a := 76) (by rfl) (by omega)]
    have I1 : RowI n (upd g (76 + i) (1 - g (76 + i))) := by
      refine ⟨hI.1.of (upd_ne (by omega)) (upd_ne (by omega)), fun _ => ⟨fun j hj => ?_, fun j hj => ?_, hC.of n8 (fun k hk => upd_ne (by omega))⟩⟩
      · rw [upd_ne (by omega), upd_ne (by omega)]
        exact hX j hj
      · by_cases e : j = i
        · rw [e, upd_at]
          rcases hF i hi with w | w
          · rw [w]
            exact Or.inr (by decide)
          · rw [w]
            exact Or.inl (by decide)
        · rw [upd_ne (by omega)]
          exact hF j hj
    refine ⟨_, _, _, _, _, _, _, _, _, _, _, _, _, _, rfl, rfl, R.msg, I1.msg n8 _, by rw [upd_at, upd_ne (by omega)], fun k hk => (upd_ne (by omega)).trans (upd_ne (by omega)), ⟨0, by omega, rfl⟩, by omega, by omega, by omega, by omega, fun _ j hj e => ?_⟩
    have e2 : i = j := (nI_eq (a := i) (b := j) (by omega) (by omega)).mp e
    rw [e2, upd_ne (show ¬ 76 + j = 67 by omega)]
end
-- 83c.17
section
/-! Stage B, 17: the log, in both -/
theorem fm_100 {a : Nat} (ha : a < 2 ^ 30) : F_J9_floorMod_7cf53 (nI a) (100 : Int32) = some (nI (a % 100)) := by
  have e : (0 : Int32) ≤ nI a ^^^ (100 : Int32) := by
    have u := xor_neg (x := nI a) (b := 100) (by decide)
    have v : ¬ (nI a ^^^ nI 100) < 0 := fun z => nn0 (by omega) (u.mp z)
    exact Decidable.byContradiction (fun z => v (lt_not.mpr z))
  unfold F_J9_floorMod_7cf53 nzI
  rw [if_neg (by decide), if_pos e]
  exact congrArg some (nI_mod (m := a) (n := 100) (by omega) (by decide))
/-- the log's lines of an act -/
def wrB (bk : Nat → Int32) (a : Nat) (s m t : Int32) : Nat → Int32 := upd (upd (upd bk (a % 100 * 3) s) (a % 100 * 3 + 1) m) (a % 100 * 3 + 2) t
theorem c_write {a : Nat} {s m t : Int32} {bk : Nat → Int32} (ha : a < 2 ^ 30) : F_X0_write (nI a) s m t bk = some (wrB bk a s m t) := by
  have hm : a % 100 < 100 := Nat.mod_lt _ (by decide)
  have e0 : nI (a % 100) * (3 : Int32) = nI (a % 100 * 3) := by rw [show (3 : Int32) = nI 3 from rfl, nI_mul]
  have e1 : nI (a % 100 * 3) + (1 : Int32) = nI (a % 100 * 3 + 1) := nI_1 _
  have e2 : nI (a % 100 * 3) + (2 : Int32) = nI (a % 100 * 3 + 2) := nI_add _ 2
  unfold F_X0_write
  rw [fm_100 ha, xb1, e0, e1, e2, xixn (by omega) (by decide), xnm, xixn (by omega) (by decide), xnm, xixn (by omega) (by decide), xnm, nI_clamp (by omega), nI_clamp (by omega), nI_clamp (by omega)]
  rfl
theorem wrB_ne {bk : Nat → Int32} {a b w : Nat} {s m t : Int32} (hw : w < 3) (h : ¬ b % 100 = a % 100) : wrB bk a s m t (b % 100 * 3 + w) = bk (b % 100 * 3 + w) := by
  unfold wrB
  rw [upd_ne (by omega), upd_ne (by omega), upd_ne (by omega)]
theorem wrB_at {bk : Nat → Int32} {a : Nat} {s m t : Int32} : wrB bk a s m t (a % 100 * 3 + 0) = s ∧ wrB bk a s m t (a % 100 * 3 + 1) = m ∧ wrB bk a s m t (a % 100 * 3 + 2) = t := by
  unfold wrB
  refine ⟨?_, ?_, upd_at⟩
  · rw [upd_ne (by omega), upd_ne (by omega), Nat.add_zero, upd_at]
  · rw [upd_ne (by omega), upd_at]
/-- how many acts the log tells -/
def lgN (a : Nat) : Nat := if a < 60 then a else 60
theorem lgN_le (a : Nat) : lgN a ≤ 60 ∧ lgN a ≤ a := by unfold lgN; split <;> omega
/-- the log of a acts -/
def LogR (bk : Nat → Int32) (a : Nat) (g : Nat → Int32) : Prop := g 84 = nI (lgN a) ∧ ∀ e w, e < lgN a → w < 3 → g (85 + 3 * e + w) = bk ((a - lgN a + e) % 100 * 3 + w)
theorem LogR.of {bk g g' : Nat → Int32} {a : Nat} (h : LogR bk a g) (hg : ∀ k, 84 ≤ k → k < 265 → g' k = g k) : LogR bk a g' := by
  have l := lgN_le a
  refine ⟨(hg 84 (by omega) (by omega)).trans h.1, fun e w he hw => ?_⟩
  rw [hg _ (by omega) (by omega)]
  exact h.2 e w he hw
theorem LogR.wr {bk g : Nat → Int32} {a b : Nat} {s m t : Int32} (h : LogR bk b g) (h1 : b ≤ a) (h2 : a ≤ b + 39) : LogR (wrB bk a s m t) b g := by
  have l := lgN_le b
  refine ⟨h.1, fun e w he hw => ?_⟩
  rw [wrB_ne hw (by omega)]
  exact h.2 e w he hw
/-- the reference's log, moved down by one -/
def shL (g : Nat → Int32) (j : Nat) : Nat → Int32 := fun k => if 85 ≤ k ∧ k < 85 + j then g (k + 3) else g k
theorem m_shift {K : Nat} {g : Nat → Int32} (hK : 200000 ≤ K) : lpF (fun u9 : Int32 × (Nat → Int32) => B_X8_note_14 u9.1 u9.2) K ((3 : Int32), g) = some (shL g 177) := by
  have z : g = shL g 0 := by
    funext k
    unfold shL
    rw [if_neg (by omega)]
  have h : lpF (fun u9 : Int32 × (Nat → Int32) => B_X8_note_14 u9.1 u9.2) K (nI (3 + 0), shL g 0) = some (shL g 177) := by
    refine lp_for (fun j => (nI (3 + j), shL g j)) (n := 177) (by omega) (fun j hj => ?_) ?_
    · show B_X8_note_14 (nI (3 + j)) (shL g j) = some (.inl (nI (3 + (j + 1)), shL g (j + 1)))
      have e1 : (85 : Int32) + nI (3 + j) = nI (88 + j) := by rw [show (85 : Int32) = nI 85 from rfl, nI_add]; congr 1; omega
      have e2 : nI (88 + j) - (3 : Int32) = nI (85 + j) := by rw [show (3 : Int32) = nI 3 from rfl, xsub (by omega)]; congr 1; omega
      have e3 : upd (shL g j) (85 + j) (shL g j (88 + j)) = shL g (j + 1) := by
        funext k
        by_cases c : k = 85 + j
        · rw [c, upd_at]
          unfold shL
          rw [if_neg (by omega), if_pos (by omega)]
          congr 1
          omega
        · rw [upd_ne c]
          unfold shL
          by_cases d : 85 ≤ k ∧ k < 85 + j
          · rw [if_pos d, if_pos (by omega)]
          · rw [if_neg d, if_neg (by omega)]
      unfold B_X8_note_14
      rw [if_neg (show ¬ (180 : Int32) ≤ nI (3 + j) from mt (nI_leI (a := 180) (b := 3 + j) (by omega) (by omega)).mp (by omega)), e1, e2, xixn (by omega) (by decide), xixn (by omega) (by decide), xnm, nI_clamp (by omega), nI_clamp (by omega), e3, nI_1]
      rfl
    · show B_X8_note_14 (nI 180) (shL g 177) = some (.inr (shL g 177))
      unfold B_X8_note_14
      rw [if_pos (by decide)]
  rw [← z] at h
  exact h
theorem m_noteJ {g : Nat → Int32} {l : Nat} {s m t : Int32} (hl : l < 60) (e84 : g 84 = nI l) : J_X8_note_58 s m t g = some (upd (upd (upd (upd g (85 + 3 * l) s) (85 + 3 * l + 1) m) (85 + 3 * l + 2) t) 84 (nI (l + 1))) := by
  have e0 : (85 : Int32) + ((3 : Int32) * nI l) = nI (85 + 3 * l) := by rw [show (85 : Int32) = nI 85 from rfl, show (3 : Int32) = nI 3 from rfl, nI_mul, nI_add]
  have e1 : nI (85 + 3 * l) + (1 : Int32) = nI (85 + 3 * l + 1) := nI_1 _
  have e2 : nI (85 + 3 * l) + (2 : Int32) = nI (85 + 3 * l + 2) := nI_add _ 2
  have e4 : (upd (upd (upd g (85 + 3 * l) s) (85 + 3 * l + 1) m) (85 + 3 * l + 2) t) 84 = nI l := by rw [upd_ne (by omega), upd_ne (by omega), upd_ne (by omega), e84]
  unfold J_X8_note_58
  rw [e84, e0, e1, e2, xixn (by omega) (by decide), xnm, xixn (by omega) (by decide), xnm, xixn (by omega) (by decide), xnm, xnm, nI_clamp (by omega), nI_clamp (by omega), nI_clamp (by omega), e4, nI_1]
/-- an act is noted, in both -/
theorem nt_both {K a : Nat} {bk g : Nat → Int32} {s m t : Int32} (hK : 200000 ≤ K) (h : LogR bk a g) : ∃ g', F_X8_note K s m g t = some g' ∧ (∀ k, k < 84 → g' k = g k) ∧ LogR (wrB bk a s m t) (a + 1) g' := by
  have l := lgN_le a
  unfold F_X8_note
  rw [h.1]
  by_cases c : a < 60
  · have la : lgN a = a := by unfold lgN; rw [if_pos c]
    have la1 : lgN (a + 1) = a + 1 := by unfold lgN; split <;> omega
    rw [la, if_neg (show ¬ nI a = (60 : Int32) from fun z => by have := (nI_eq (a := a) (b := 60) (by omega) (by omega)).mp z; omega), m_noteJ (l := a) c (by rw [h.1, la])]
    refine ⟨_, rfl, fun k hk => ?_, ?_, fun e w he hw => ?_⟩
    · rw [upd_ne (by omega), upd_ne (by omega), upd_ne (by omega), upd_ne (by omega)]
    · rw [upd_at, la1]
    · rw [la1] at he ⊢
      rw [show a + 1 - (a + 1) + e = e by omega]
      by_cases d : e = a
      · obtain ⟨w0, w1, w2⟩ := wrB_at (bk := bk) (a := a) (s := s) (m := m) (t := t)
        rw [d]
        rcases (show w = 0 ∨ w = 1 ∨ w = 2 by omega) with rfl | rfl | rfl
        · rw [w0, upd_ne (by omega), upd_ne (by omega), upd_ne (by omega), Nat.add_zero, upd_at]
        · rw [w1, upd_ne (by omega), upd_ne (by omega), upd_at]
        · rw [w2, upd_ne (by omega), upd_at]
      · rw [wrB_ne hw (by omega), upd_ne (by omega), upd_ne (by omega), upd_ne (by omega), upd_ne (by omega)]
        have := h.2 e w (by omega) hw
        rw [la, show a - a + e = e by omega] at this
        exact this
  · have la : lgN a = 60 := by unfold lgN; rw [if_neg c]
    have la1 : lgN (a + 1) = 60 := by unfold lgN; rw [if_neg (by omega)]
    have s84 : shL g 177 84 = nI 60 := by
      unfold shL
      rw [if_neg (by omega), h.1, la]
    have v84 : (upd (shL g 177) 84 (nI 60 - 1)) 84 = nI 59 := by rw [upd_at]; rfl
    rw [la, if_pos (by decide), m_shift hK, xb1, xnm, s84, m_noteJ (l := 59) (by decide) v84]
    refine ⟨_, rfl, fun k hk => ?_, ?_, fun e w he hw => ?_⟩
    · rw [upd_ne (by omega), upd_ne (by omega), upd_ne (by omega), upd_ne (by omega), upd_ne (by omega)]
      unfold shL
      rw [if_neg (by omega)]
    · rw [upd_at, la1]
    · rw [la1] at he ⊢
      by_cases d : e = 59
      · obtain ⟨w0, w1, w2⟩ := wrB_at (bk := bk) (a := a) (s := s) (m := m) (t := t)
        rw [d, show a + 1 - 60 + 59 = a by omega]
        rcases (show w = 0 ∨ w = 1 ∨ w = 2 by omega) with rfl | rfl | rfl
        · rw [w0, upd_ne (by omega), upd_ne (by omega), upd_ne (by omega), Nat.add_zero, upd_at]
        · rw [w1, upd_ne (by omega), upd_ne (by omega), upd_at]
        · rw [w2, upd_ne (by omega), upd_at]
      · rw [wrB_ne hw (by omega), upd_ne (by omega), upd_ne (by omega), upd_ne (by omega), upd_ne (by omega), upd_ne (by omega)]
        unfold shL
        rw [if_pos (by omega), show 85 + 3 * e + w + 3 = 85 + 3 * (e + 1) + w by omega]
        have := h.2 (e + 1) w (by omega) hw
        rw [la] at this
        rw [this]
        congr 3
        omega
end
-- 83c.18
section
/-! Stage B, 18: rows that are kept, in both -/
/-- a row of each: they say the same, b acts are behind them, the log is right -/
def KRow (n : Nat) (bk : Nat → Int32) (b : Nat) (f g : Nat → Int32) : Prop := RowR n f g ∧ RowI n g ∧ f 16 = nI b ∧ LogR bk b g ∧ f 11 = g 67
theorem RowR.cg {n : Nat} {f g f' g' : Nat → Int32} (h : RowR n f g) (hf : ∀ k, k < 81 → f' k = f k) (hg : ∀ k, k < 265 → g' k = g k) : RowR n f' g' := by
  have n8 := h.n8
  refine h.of (fun i c hi hc => ?_) (hf 3 (by decide)) (fun p hp => ?_) (hf 4 (by decide)) (hf 5 (by decide)) (hf 7 (by decide)) (fun i hi => hg _ (by omega)) (fun k a b => hg k (by omega))
  · rw [hf _ (by omega), hg _ (by omega)]
    exact h.1.2.2.1 i c hi hc
  · obtain ⟨b1, -, -, -, -, b6, b7⟩ := rowScl_b p hp
    rw [hf _ (by omega), hg _ (by omega)]
    exact h.sc p hp
theorem RowI.cg {n : Nat} {g g' : Nat → Int32} (h : RowI n g) (n8 : n ≤ 8) (hg : ∀ k, k < 84 → g' k = g k) : RowI n g' := h.of n8 (h.1.of (hg 64 (by decide)) (hg 72 (by decide))) (fun k hk => hg k (by omega))
theorem KRow.cg {n b : Nat} {bk f g f' g' : Nat → Int32} (h : KRow n bk b f g) (hf : ∀ k, k < 81 → f' k = f k) (hg : ∀ k, k < 265 → g' k = g k) : KRow n bk b f' g' := ⟨h.1.cg hf hg, h.2.1.cg h.1.n8 (fun k hk => hg k (by omega)), (hf 16 (by decide)).trans h.2.2.1, h.2.2.2.1.of (fun k _ hk => hg k hk), (hf 11 (by decide)).trans (h.2.2.2.2.trans (hg 67 (by decide)).symm)⟩
theorem KRow.wr {n a b : Nat} {bk f g : Nat → Int32} {s m t : Int32} (h : KRow n bk b f g) (h1 : b ≤ a) (h2 : a ≤ b + 39) : KRow n (wrB bk a s m t) b f g := ⟨h.1, h.2.1, h.2.2.1, h.2.2.2.1.wr h1 h2, h.2.2.2.2⟩
/-- the kept rows: a acts so far, hd of them can be undone -/
def KeepR (n a hd nx : Nat) (bk hr kp : Nat → Int32) : Prop := hd ≤ 40 ∧ hd ≤ a ∧ nx < 40 ∧ ∀ d, d < hd → KRow n bk (a - 1 - d) (fun k => hr (81 * ((nx + 39 - d) % 40) + k)) (fun k => kp (265 * (hd - 1 - d) + k))
def nxH (nx : Nat) : Nat := if 40 ≤ nx + 1 then 0 else nx + 1
def hdH (hd : Nat) : Nat := if hd < 40 then hd + 1 else 40
theorem c_hkeep {nx hd : Nat} {hr f : Nat → Int32} (h1 : nx < 40) (h2 : hd ≤ 40) : F_X2_keep hr (nI nx) (nI hd) f = some (va_cpy f hr 0 (81 * nx) 81, nI (nxH nx), nI (hdH hd)) := by
  have e : nI nx * (81 : Int32) = nI (81 * nx) := by rw [show (81 : Int32) = nI 81 from rfl, nI_mul, Nat.mul_comm]
  have c81 : (81 : Int32).toNatClampNeg = 81 := by decide
  have c0 : (0 : Int32).toNatClampNeg = 0 := by decide
  have em : minF (nI hd + (1 : Int32)) (40 : Int32) = nI (hdH hd) := by
    unfold minF hdH
    rw [nI_1]
    by_cases c : hd < 40
    · rw [if_pos c, if_neg (show ¬ (40 : Int32) < nI (hd + 1) from mt (nI_ltI (a := 40) (b := hd + 1) (by omega) (by omega)).mp (by omega))]
    · rw [if_neg c, if_pos (show (40 : Int32) < nI (hd + 1) from (nI_ltI (a := 40) (b := hd + 1) (by omega) (by omega)).mpr (by omega))]
      rfl
  unfold F_X2_keep cpF
  rw [e, c81, c0, nI_clamp (by omega), if_pos ⟨by decide, nn0 (by omega), by decide, by omega, by omega⟩, xnm, em, nI_1]
  unfold nxH
  by_cases c : 40 ≤ nx + 1
  · rw [if_pos c, if_pos (show (40 : Int32) ≤ nI (nx + 1) from (nI_leI (a := 40) (b := nx + 1) (by omega) (by omega)).mpr c)]
    rfl
  · rw [if_neg c, if_neg (show ¬ (40 : Int32) ≤ nI (nx + 1) from mt (nI_leI (a := 40) (b := nx + 1) (by omega) (by omega)).mp c)]
/-- the reference's kept rows, the oldest dropped -/
def shK (kp : Nat → Int32) (j : Nat) : Nat → Int32 := fun k => if k < j then kp (k + 265) else kp k
theorem m_kshift {K : Nat} {kp : Nat → Int32} (hK : 200000 ≤ K) : lpF (fun u9 : Int32 × (Nat → Int32) => B_X8_keep_13 u9.1 u9.2) K ((265 : Int32), kp) = some (shK kp 10335) := by
  have z : kp = shK kp 0 := by
    funext k
    unfold shK
    rw [if_neg (by omega)]
  have h : lpF (fun u9 : Int32 × (Nat → Int32) => B_X8_keep_13 u9.1 u9.2) K (nI (265 + 0), shK kp 0) = some (shK kp 10335) := by
    refine lp_for (fun j => (nI (265 + j), shK kp j)) (n := 10335) (by omega) (fun j hj => ?_) ?_
    · show B_X8_keep_13 (nI (265 + j)) (shK kp j) = some (.inl (nI (265 + (j + 1)), shK kp (j + 1)))
      have e2 : nI (265 + j) - (265 : Int32) = nI j := by rw [show (265 : Int32) = nI 265 from rfl, xsub (by omega), show 265 + j - 265 = j by omega]
      have e3 : upd (shK kp j) j (shK kp j (265 + j)) = shK kp (j + 1) := by
        funext k
        by_cases c : k = j
        · rw [c, upd_at]
          unfold shK
          rw [if_neg (by omega), if_pos (by omega), Nat.add_comm]
        · rw [upd_ne c]
          unfold shK
          by_cases d : k < j
          · rw [if_pos d, if_pos (by omega)]
          · rw [if_neg d, if_neg (by omega)]
      unfold B_X8_keep_13
      rw [if_neg (show ¬ (10600 : Int32) ≤ nI (265 + j) from mt (nI_leI (a := 10600) (b := 265 + j) (by omega) (by omega)).mp (by omega)), e2, xixn (by omega) (by decide), xixn (by omega) (by decide), xnm, nI_clamp (by omega), nI_clamp (by omega), e3, nI_1]
      rfl
    · show B_X8_keep_13 (nI 10600) (shK kp 10335) = some (.inr (shK kp 10335))
      unfold B_X8_keep_13
      rw [if_pos (by decide)]
  rw [← z] at h
  exact h
theorem m_kput {K e : Nat} {g kp : Nat → Int32} (hK : 200000 ≤ K) (he : e < 40) : J_X8_keep_52 K g kp (nI e) = some (va_cpy g kp 0 (265 * e) 265, nI (e + 1)) := by
  have ci : ∀ j, va_cpy g kp 0 (265 * e) j (265 * e + j) = kp (265 * e + j) := fun j => pk_cpy_out (by omega)
  have h : lpF (fun u9 : Int32 × (Nat → Int32) => B_X8_keep_54 g (nI e) u9.1 u9.2) K (nI 0, va_cpy g kp 0 (265 * e) 0) = some (va_cpy g kp 0 (265 * e) 265) := by
    refine lp_for (fun j => (nI j, va_cpy g kp 0 (265 * e) j)) (n := 265) (by omega) (fun j hj => ?_) ?_
    · show B_X8_keep_54 g (nI e) (nI j) (va_cpy g kp 0 (265 * e) j) = some (.inl (nI (j + 1), va_cpy g kp 0 (265 * e) (j + 1)))
      have e1 : ((265 : Int32) * nI e) + nI j = nI (265 * e + j) := by rw [show (265 : Int32) = nI 265 from rfl, nI_mul, nI_add]
      have e3 : upd (va_cpy g kp 0 (265 * e) j) (265 * e + j) (g j) = va_cpy g kp 0 (265 * e) (j + 1) := by
        funext k
        by_cases c : k = 265 * e + j
        · rw [c, upd_at, pk_cpy_in (by omega) (by omega)]
          congr 1
          omega
        · rw [upd_ne c]
          by_cases d : 265 * e ≤ k ∧ k < 265 * e + j
          · rw [pk_cpy_in d.1 d.2, pk_cpy_in (by omega) (by omega)]
          · rw [pk_cpy_out (by omega), pk_cpy_out (by omega)]
      unfold B_X8_keep_54
      rw [if_neg (show ¬ (265 : Int32) ≤ nI j from mt (nI_leI (a := 265) (b := j) (by omega) (by omega)).mp (by omega)), xixn (by omega) (by decide), e1, xixn (by omega) (by decide), xnm, nI_clamp (by omega), nI_clamp (by omega), e3, nI_1]
    · show B_X8_keep_54 g (nI e) (nI 265) (va_cpy g kp 0 (265 * e) 265) = some (.inr (va_cpy g kp 0 (265 * e) 265))
      unfold B_X8_keep_54
      rw [if_pos (by decide)]
  have z : va_cpy g kp 0 (265 * e) 0 = kp := by
    funext k
    exact pk_cpy_out (by omega)
  rw [z] at h
  unfold J_X8_keep_52
  rw [show (0 : Int32) = nI 0 from rfl, h, xb1, nI_1]
/-- a row is kept, in both -/
theorem kp_both {n a hd nx K : Nat} {bk hr kp f g : Nat → Int32} (hK : 200000 ≤ K) (h : KeepR n a hd nx bk hr kp) (hw : KRow n bk a f g) : ∃ kp', F_X2_keep hr (nI nx) (nI hd) f = some (va_cpy f hr 0 (81 * nx) 81, nI (nxH nx), nI (hdH hd)) ∧ F_X8_keep K g kp (nI hd) = some (kp', nI (hdH hd)) ∧ KeepR n (a + 1) (hdH hd) (nxH nx) bk (va_cpy f hr 0 (81 * nx) 81) kp' := by
  obtain ⟨h1, h2, h3, hR⟩ := h
  have base : ∀ kp' : Nat → Int32, (∀ k, k < 265 → kp' (265 * (hdH hd - 1) + k) = g k) → (∀ d, d < hd → d < 39 → ∀ k, k < 265 → kp' (265 * (hdH hd - 1 - (d + 1)) + k) = kp (265 * (hd - 1 - d) + k)) → KeepR n (a + 1) (hdH hd) (nxH nx) bk (va_cpy f hr 0 (81 * nx) 81) kp' := by
    intro kp' z1 z2
    have q1 : hdH hd ≤ 40 ∧ hdH hd ≤ hd + 1 := by unfold hdH; split <;> omega
    have q2 : nxH nx < 40 := by unfold nxH; split <;> omega
    refine ⟨q1.1, by omega, q2, fun d hd' => ?_⟩
    by_cases c : d = 0
    · have p : (nxH nx + 39 - d) % 40 = nx := by unfold nxH; rw [c]; split <;> omega
      rw [p, c]
      refine KRow.cg (show KRow n bk (a + 1 - 1 - 0) f g by rw [show a + 1 - 1 - 0 = a by omega]; exact hw) (fun k hk => ?_) (fun k hk => z1 k hk)
      show va_cpy f hr 0 (81 * nx) 81 (81 * nx + k) = f k
      rw [pk_cpy_in (by omega) (by omega)]
      congr 1
      omega
    · obtain ⟨e, rfl⟩ : ∃ e, d = e + 1 := ⟨d - 1, by omega⟩
      have e1 : e < hd ∧ e < 39 := by omega
      have p : (nxH nx + 39 - (e + 1)) % 40 = (nx + 39 - e) % 40 := by unfold nxH; split <;> omega
      rw [p, show a + 1 - 1 - (e + 1) = a - 1 - e by omega]
      refine KRow.cg (hR e e1.1) (fun k hk => ?_) (fun k hk => z2 e e1.1 e1.2 k hk)
      show va_cpy f hr 0 (81 * nx) 81 (81 * ((nx + 39 - e) % 40) + k) = hr (81 * ((nx + 39 - e) % 40) + k)
      have ne : ¬ (nx + 39 - e) % 40 = nx := by omega
      have lt : (nx + 39 - e) % 40 < 40 := Nat.mod_lt _ (by decide)
      generalize (nx + 39 - e) % 40 = y at ne lt
      exact pk_cpy_out (by omega)
  have C := c_hkeep (hr := hr) (f := f) h3 h1
  unfold F_X8_keep
  by_cases c : hd = 40
  · have hh : hdH hd = 40 := by unfold hdH; rw [if_neg (by omega)]
    have e39 : nI hd - (1 : Int32) = nI 39 := by rw [c]; rfl
    rw [if_pos (by rw [c]; rfl), m_kshift hK, xb1, e39, m_kput hK (by decide)]
    refine ⟨_, C, by rw [hh], base _ (fun k hk => ?_) (fun d q1 q2 k hk => ?_)⟩
    · rw [hh]
      show va_cpy g (shK kp 10335) 0 (265 * 39) 265 (265 * 39 + k) = g k
      rw [pk_cpy_in (by omega) (by omega), show 0 + (265 * 39 + k - 265 * 39) = k by omega]
    · rw [hh, pk_cpy_out (by omega)]
      unfold shK
      rw [if_pos (by omega), show 265 * (40 - 1 - (d + 1)) + k + 265 = 265 * (hd - 1 - d) + k by omega]
  · have hh : hdH hd = hd + 1 := by unfold hdH; rw [if_pos (by omega)]
    rw [if_neg (show ¬ nI hd = (40 : Int32) from fun z => c ((nI_eq (a := hd) (b := 40) (by omega) (by omega)).mp z)), m_kput hK (by omega)]
    refine ⟨_, C, by rw [hh], base _ (fun k hk => ?_) (fun d q1 q2 k hk => ?_)⟩
    · rw [hh, show hd + 1 - 1 = hd by omega, pk_cpy_in (by omega) (by omega)]
      congr 1
      omega
    · rw [hh, show hd + 1 - 1 - (d + 1) = hd - 1 - d by omega, pk_cpy_out (by omega)]
end
-- 83c.19
section
/-! Stage B, 19: acts by hand, in both -/
def ActR (n a hd nx : Nat) (f g bk hr kp : Nat → Int32) : Prop := KRow n bk a f g ∧ KeepR n a hd nx bk hr kp
/-- what an act tells -/
def TelQ (n s : Nat) (x : Int32) (g : Nat → Int32) (r v : Int32) (g' : Nat → Int32) : Prop := (∃ m, m ≤ 100 ∧ r = nI m) ∧ (s = 0 ∨ s = 1 ∨ s = 4 → v = r) ∧ (s = 2 → v = g 65) ∧ (s = 3 → v = g 64) ∧ (s = 5 → v = g 66) ∧ (s = 6 → ∀ i, i < n → x = nI i → v = g' (76 + i))
theorem at_both {n a hd nx K s : Nat} {f g bk hr kp rf P A sh lo sx sy : Nat → Int32} {S x y z h5 ac oc as ou tk : Int32} (eS : S = nI s) (hs : s ≤ 6) (hK : 200000 ≤ K) (ha : a < 2 ^ 29) (h : ActR n a hd nx f g bk hr kp) (er : F_X5_refusal S x y z f = some (-1)) (ok : ActOk n s x y z g) : ∃ (r v ac' oc' as' ou' : Int32) (hd' nx' : Nat) (f' g' bk' hr' kp' P' A' sh' lo' sx' sy' : Nat → Int32), F_X7_act K S x y z h5 f P ac oc sh lo bk hr (nI nx) (nI hd) rf = some (r, f', P', ac', oc', sh', lo', bk', hr', nI nx', nI hd', rf) ∧ F_X8_act K S x y z g (nI n) sx sy as ou A tk kp (nI hd) = some (v, g', sx', sy', as', ou', A', r, kp', nI hd') ∧ ActR n (a + 1) hd' nx' f' g' bk' hr' kp' ∧ TelQ n s x g r v g' := by
  obtain ⟨hw, hk⟩ := h
  obtain ⟨kp1, k1, k2, k3⟩ := kp_both hK hk hw
  have n8 := hw.1.n8
  obtain ⟨r, v, ac1, oc1, as1, ou1, f1, g1, P1, A1, sh1, lo1, sx1, sy1, d1, d2, R, I1, g67, fr, hm, v0, v2, v3, v5, v6⟩ := da_both (P := P) (A := A) (sh := sh) (lo := lo) (sx := sx) (sy := sy) (ac := ac) (oc := oc) (as := as) (ou := ou) (tk := tk) eS hs hK hw.1 hw.2.1 ok
  have f16 : f1 16 = nI a ∧ f1 11 = g1 67 := by
    obtain ⟨q, e, hq⟩ := e_doAct (p1 := S) (p2 := x) (p3 := y) (p4 := z) (ac := ac) (oc := oc) (f := f) (pa := P) (sh := sh) (lo := lo) hK ⟨n, n8, hw.1.sz⟩
    rw [d1] at e
    have e2 := Option.some.inj e
    rw [← e2] at hq
    exact ⟨hq.2.1.trans hw.2.2.1, by rw [g67, ← hw.2.2.2.2]; exact hq.2.2⟩
  obtain ⟨f16, f11⟩ := f16
  have L1 : LogR bk a g1 := hw.2.2.2.1.of (fun k q1 _ => fr k q1)
  have kw : ∀ {s' m' t' : Int32}, KeepR n (a + 1) (hdH hd) (nxH nx) (wrB bk a s' m' t') (va_cpy f hr 0 (81 * nx) 81) kp1 := fun {s' m' t'} => by
    obtain ⟨w1, w2, w3, w4⟩ := k3
    exact ⟨w1, w2, w3, fun d q => (w4 d q).wr (by omega) (by omega)⟩
  have fin : ∀ mm : Int32, ∃ g2, F_X8_note K S mm g1 r = some g2 ∧ (∃ f2, J_X7_act_103 mm S (f1 16) r f1 P1 ac1 oc1 sh1 lo1 bk (va_cpy f hr 0 (81 * nx) 81) (nI (nxH nx)) (nI (hdH hd)) rf = some (r, f2, P1, ac1, oc1, sh1, lo1, wrB bk a S mm r, va_cpy f hr 0 (81 * nx) 81, nI (nxH nx), nI (hdH hd), rf) ∧ ActR n (a + 1) (hdH hd) (nxH nx) f2 g2 (wrB bk a S mm r) (va_cpy f hr 0 (81 * nx) 81) kp1) ∧ ∀ k, k < 84 → g2 k = g1 k := by
    intro mm
    obtain ⟨g2, n1, n2, n3⟩ := nt_both (s := S) (m := mm) (t := r) hK L1
    refine ⟨g2, n1, ⟨upd f1 16 (nI (a + 1)), ?_, ⟨?_, I1.cg n8 n2, upd_at, n3, ?_⟩, kw⟩, n2⟩
    · unfold J_X7_act_103
      rw [f16, c_write (by omega), xb1, xnm, nI_1]
    · have R1 : RowR n (upd f1 16 (nI (a + 1))) g1 := by
        refine R.of (fun i c hi hc => ?_) (upd_ne (by decide)) (fun p hp => ?_) (upd_ne (by decide)) (upd_ne (by decide)) (upd_ne (by decide)) (fun _ _ => rfl) (fun _ _ _ => rfl)
        · rw [upd_ne (by omega)]
          exact R.1.2.2.1 i c hi hc
        · have q16 : ¬ p.1 = 16 := by
            revert p
            decide
          rw [upd_ne q16]
          exact R.sc p hp
      refine R1.of (fun i c hi hc => ?_) rfl (fun p hp => ?_) rfl rfl rfl (fun i hi => n2 _ (by omega)) (fun k q1 q2 => n2 k (by omega))
      · rw [n2 _ (by omega)]
        exact R1.1.2.2.1 i c hi hc
      · obtain ⟨-, -, -, -, -, b6, b7⟩ := rowScl_b p hp
        rw [n2 _ (by omega)]
        exact R1.sc p hp
    · rw [upd_ne (by decide), n2 67 (by decide)]
      exact f11
  unfold F_X7_act F_X8_act
  rw [er, xb1, if_pos rfl, k1, xb3, k2, xb2, d1, xb7, d2, xb8]
  by_cases c : S = 1
  · obtain ⟨g2, n1, ⟨f2, j1, j2⟩, n2⟩ := fin (-1)
    rw [if_pos c, if_pos c, j1, n1, xb1]
    exact ⟨_, _, _, _, _, _, _, _, _, _, _, _, _, _, _, _, _, _, _, rfl, rfl, j2, hm, v0, v2, v3, v5, fun w i hi e => by rw [n2 _ (by omega)]; exact v6 w i hi e⟩
  · obtain ⟨g2, n1, ⟨f2, j1, j2⟩, n2⟩ := fin x
    rw [if_neg c, if_neg c, j1, n1, xb1]
    exact ⟨_, _, _, _, _, _, _, _, _, _, _, _, _, _, _, _, _, _, _, rfl, rfl, j2, hm, v0, v2, v3, v5, fun w i hi e => by rw [n2 _ (by omega)]; exact v6 w i hi e⟩
theorem RowI.x {n : Nat} {g : Nat → Int32} (h : RowI n g) : RowX n g := fun j hj => (h.2 (by omega)).1 j hj
/-- an act by hand -/
theorem hn_both {n a hd nx K s : Nat} {f g bk hr kp rf mrf P A sh lo sx sy : Nat → Int32} {S x y z no ac oc as ou tk : Int32} (eS : S = nI s) (hs : s ≤ 6) (hK : 200000 ≤ K) (ha : a < 2 ^ 29) (h : ActR n a hd nx f g bk hr kp) (hrf : ∀ i, i < 3 → rf i = mrf i) : ∃ (r v ac' oc' as' ou' tk' : Int32) (a' hd' nx' : Nat) (f' g' bk' hr' kp' rf' mrf' P' A' sh' lo' sx' sy' : Nat → Int32), F_X7_act K S x y z 1 f P ac oc sh lo bk hr (nI nx) (nI hd) rf = some (r, f', P', ac', oc', sh', lo', bk', hr', nI nx', nI hd', rf') ∧ F_X8_hand K no S x y z g mrf (nI n) sx sy as ou A tk kp (nI hd) = some (v, g', mrf', sx', sy', as', ou', A', tk', kp', nI hd') ∧ ActR n a' hd' nx' f' g' bk' hr' kp' ∧ a' ≤ a + 1 ∧ (∀ i, i < 3 → rf' i = mrf' i) ∧ ((r = -1 ∧ v = no ∧ f' = f ∧ g' = g) ∨ (ActOk n s x y z g ∧ TelQ n s x g r v g')) := by
  obtain ⟨w, e1, e2, e3, e4⟩ := rf_both (a := x) (b := y) (c := z) eS hs hK h.1.1 h.1.2.1.x
  by_cases c : w = -1
  · rw [c] at e1 e2
    obtain ⟨r, v, ac1, oc1, as1, ou1, hd1, nx1, f1, g1, bk1, hr1, kp1, P1, A1, sh1, lo1, sx1, sy1, d1, d2, d3, d4⟩ := at_both (rf := rf) (P := P) (A := A) (sh := sh) (lo := lo) (sx := sx) (sy := sy) (h5 := 1) (ac := ac) (oc := oc) (as := as) (ou := ou) (tk := tk) eS hs hK ha h e1 (e4 c)
    unfold F_X8_hand
    rw [d1, e2, xb1, if_pos rfl, d2]
    exact ⟨_, _, _, _, _, _, _, a + 1, _, _, _, _, _, _, _, _, _, _, _, _, _, _, _, rfl, rfl, d3, Nat.le_refl _, hrf, Or.inr ⟨e4 c, d4⟩⟩
  · rcases e3 with e3 | ⟨i, hi, e3⟩
    · exact absurd e3 c
    · unfold F_X7_act F_X8_hand
      rw [e1, xb1, if_neg c, e2, xb1, if_neg c, if_neg (show ¬ (1 : Int32) = 0 by decide), e3, if_neg (nn0 (by omega)), if_neg (show ¬ (3 : Int32) ≤ nI i from mt (nI_leI (a := 3) (b := i) (by omega) (by omega)).mp (by omega)), xixn (by omega) (by decide), xixn (by omega) (by decide), xnm, xixn (by omega) (by decide), xixn (by omega) (by decide), xnm, nI_clamp (by omega)]
      refine ⟨_, _, _, _, _, _, _, a, _, _, _, _, _, _, _, _, _, _, _, _, _, _, _, rfl, rfl, h, Nat.le_succ _, fun j hj => ?_, Or.inl ⟨rfl, rfl, rfl, rfl⟩⟩
      by_cases e : j = i
      · rw [e, upd_at, upd_at, hrf i hi]
      · rw [upd_ne e, upd_ne e, hrf j hj]
end
-- 83c.20
section
/-! Stage B, 20: the calls that act, in both -/
abbrev PubX : Type := Int32 × (Nat → Int32) × (Nat → Int32) × Int32 × Int32 × (Nat → Int32) × (Nat → Int32) × (Nat → Int32) × (Nat → Int32) × Int32 × Int32 × (Nat → Int32)
abbrev PubM : Type := Int32 × (Nat → Int32) × (Nat → Int32) × (Nat → Int32) × (Nat → Int32) × Int32 × Int32 × (Nat → Int32) × Int32 × (Nat → Int32) × Int32
/-- both answer the same, and what they leave says the same -/
def PubQ (n a : Nat) (X : Option PubX) (M : Option PubM) : Prop := ∃ (v ac' oc' as' ou' tk' : Int32) (a' hd' nx' : Nat) (f' g' bk' hr' kp' rf' mrf' P' A' sh' lo' sx' sy' : Nat → Int32), X = some (v, f', P', ac', oc', sh', lo', bk', hr', nI nx', nI hd', rf') ∧ M = some (v, g', mrf', sx', sy', as', ou', A', tk', kp', nI hd') ∧ ActR n a' hd' nx' f' g' bk' hr' kp' ∧ a' ≤ a + 1 ∧ ∀ i, i < 3 → rf' i = mrf' i
theorem nI_nn {m : Nat} (h : m < 2 ^ 31) : (0 : Int32) ≤ nI m := (nI_leI (a := 0) (b := m) (by omega) h).mpr (Nat.zero_le _)
theorem irr_1 {K : Nat} {x y z x' y' z' h5 ac oc : Int32} {f P sh lo bk hr rf : Nat → Int32} {nx hd : Int32} : F_X7_act K 1 x y z h5 f P ac oc sh lo bk hr nx hd rf = F_X7_act K 1 x' y' z' h5 f P ac oc sh lo bk hr nx hd rf := by
  have e1 : F_X5_refusal 1 x y z f = F_X5_refusal 1 x' y' z' f := by
    unfold F_X5_refusal
    obtain ⟨r, e, -⟩ := t_stands (f := f)
    rw [e, xb1, xb1]
    by_cases c : r = 0
    · rw [if_pos c, if_pos c]
    · rw [if_neg c, if_neg c, if_neg (show ¬ (1 : Int32) = 0 by decide), if_pos rfl, if_neg (show ¬ (1 : Int32) = 0 by decide), if_pos rfl]
  have e2 : F_X5_doAct K 1 x y z f P ac oc sh lo = F_X5_doAct K 1 x' y' z' f P ac oc sh lo := by
    unfold F_X5_doAct
    rw [if_neg (show ¬ (1 : Int32) = 0 by decide), if_pos rfl, if_neg (show ¬ (1 : Int32) = 0 by decide), if_pos rfl]
  unfold F_X7_act
  rw [e1, e2]
  simp only [if_true]
theorem irr_4 {K : Nat} {x y z z' h5 ac oc : Int32} {f P sh lo bk hr rf : Nat → Int32} {nx hd : Int32} : F_X7_act K 4 x y z h5 f P ac oc sh lo bk hr nx hd rf = F_X7_act K 4 x y z' h5 f P ac oc sh lo bk hr nx hd rf := by
  have e1 : F_X5_refusal 4 x y z f = F_X5_refusal 4 x y z' f := by
    unfold F_X5_refusal
    obtain ⟨r, e, -⟩ := t_stands (f := f)
    rw [e, xb1, xb1]
    by_cases c : r = 0
    · rw [if_pos c, if_pos c]
    · rw [if_neg c, if_neg c, if_neg (show ¬ (4 : Int32) = 0 by decide), if_neg (show ¬ (4 : Int32) = 1 by decide), if_neg (show ¬ (4 : Int32) = 2 by decide), if_neg (show ¬ (4 : Int32) = 3 by decide), if_pos rfl, if_neg (show ¬ (4 : Int32) = 0 by decide)]
  have e2 : F_X5_doAct K 4 x y z f P ac oc sh lo = F_X5_doAct K 4 x y z' f P ac oc sh lo := by
    unfold F_X5_doAct
    rw [if_neg (show ¬ (4 : Int32) = 0 by decide), if_neg (show ¬ (4 : Int32) = 1 by decide), if_neg (show ¬ (4 : Int32) = 2 by decide), if_neg (show ¬ (4 : Int32) = 3 by decide), if_pos rfl, if_neg (show ¬ (4 : Int32) = 0 by decide)]
  unfold F_X7_act
  rw [e1, e2]
theorem p_move {n a hd nx K : Nat} {f g bk hr kp rf mrf P A sh lo sx sy : Nat → Int32} {x y z ac oc as ou tk : Int32} (hK : 200000 ≤ K) (ha : a < 2 ^ 29) (h : ActR n a hd nx f g bk hr kp) (hrf : ∀ i, i < 3 → rf i = mrf i) : PubQ n a (F_X7_move K x y z f P ac oc sh lo bk hr (nI nx) (nI hd) rf) (F_X8_move K x y z g mrf (nI n) sx sy as ou A tk kp (nI hd)) := by
  obtain ⟨r, v, ac1, oc1, as1, ou1, tk1, a1, hd1, nx1, f1, g1, bk1, hr1, kp1, rf1, mrf1, P1, A1, sh1, lo1, sx1, sy1, e1, e2, q1, q2, q3, q4⟩ := hn_both (s := 0) (S := 0) (x := x) (y := y) (z := z) (no := -1) (P := P) (A := A) (sh := sh) (lo := lo) (sx := sx) (sy := sy) (ac := ac) (oc := oc) (as := as) (ou := ou) (tk := tk) rfl (by decide) hK ha h hrf
  have ev : v = r := by
    rcases q4 with ⟨w1, w2, -⟩ | ⟨-, w⟩
    · rw [w1, w2]
    · exact w.2.1 (Or.inl rfl)
  unfold F_X7_move F_X8_move
  rw [e1, e2, xb12, xb11, ev]
  exact ⟨_, _, _, _, _, _, _, _, _, _, _, _, _, _, _, _, _, _, _, _, _, _, rfl, rfl, q1, q2, q3⟩
theorem p_sync {n a hd nx K : Nat} {f g bk hr kp rf mrf P A sh lo sx sy : Nat → Int32} {ac oc as ou tk : Int32} (hK : 200000 ≤ K) (ha : a < 2 ^ 29) (h : ActR n a hd nx f g bk hr kp) (hrf : ∀ i, i < 3 → rf i = mrf i) : PubQ n a (F_X7_sync K f P ac oc sh lo bk hr (nI nx) (nI hd) rf) (F_X8_sync K g mrf (nI n) sx sy as ou A tk kp (nI hd)) := by
  obtain ⟨r, v, ac1, oc1, as1, ou1, tk1, a1, hd1, nx1, f1, g1, bk1, hr1, kp1, rf1, mrf1, P1, A1, sh1, lo1, sx1, sy1, e1, e2, q1, q2, q3, q4⟩ := hn_both (s := 1) (S := 1) (x := 0) (y := 0) (z := 0) (no := -1) (P := P) (A := A) (sh := sh) (lo := lo) (sx := sx) (sy := sy) (ac := ac) (oc := oc) (as := as) (ou := ou) (tk := tk) rfl (by decide) hK ha h hrf
  have ev : v = r := by
    rcases q4 with ⟨w1, w2, -⟩ | ⟨-, w⟩
    · rw [w1, w2]
    · exact w.2.1 (Or.inr (Or.inl rfl))
  unfold F_X7_sync F_X8_sync
  rw [irr_1 (x := -1) (y := 0) (z := 0) (x' := 0) (y' := 0) (z' := 0), e1, e2, xb12, xb11, ev]
  exact ⟨_, _, _, _, _, _, _, _, _, _, _, _, _, _, _, _, _, _, _, _, _, _, rfl, rfl, q1, q2, q3⟩
theorem p_add {n a hd nx K : Nat} {f g bk hr kp rf mrf P A sh lo sx sy : Nat → Int32} {x y ac oc as ou tk : Int32} (hK : 200000 ≤ K) (ha : a < 2 ^ 29) (h : ActR n a hd nx f g bk hr kp) (hrf : ∀ i, i < 3 → rf i = mrf i) : PubQ n a (F_X7_add K x y f P ac oc sh lo bk hr (nI nx) (nI hd) rf) (F_X8_add K x y g mrf (nI n) sx sy as ou A tk kp (nI hd)) := by
  obtain ⟨r, v, ac1, oc1, as1, ou1, tk1, a1, hd1, nx1, f1, g1, bk1, hr1, kp1, rf1, mrf1, P1, A1, sh1, lo1, sx1, sy1, e1, e2, q1, q2, q3, q4⟩ := hn_both (s := 4) (S := 4) (x := x) (y := y) (z := 0) (no := -1) (P := P) (A := A) (sh := sh) (lo := lo) (sx := sx) (sy := sy) (ac := ac) (oc := oc) (as := as) (ou := ou) (tk := tk) rfl (by decide) hK ha h hrf
  have ev : v = r := by
    rcases q4 with ⟨w1, w2, -⟩ | ⟨-, w⟩
    · rw [w1, w2]
    · exact w.2.1 (Or.inr (Or.inr rfl))
  unfold F_X7_add F_X8_add
  rw [e1, e2, xb12, xb11, ev]
  exact ⟨_, _, _, _, _, _, _, _, _, _, _, _, _, _, _, _, _, _, _, _, _, _, rfl, rfl, q1, q2, q3⟩
theorem p_bound {n a hd nx K : Nat} {f g bk hr kp rf mrf P A sh lo sx sy : Nat → Int32} {x ac oc as ou tk : Int32} (hK : 200000 ≤ K) (ha : a < 2 ^ 29) (h : ActR n a hd nx f g bk hr kp) (hrf : ∀ i, i < 3 → rf i = mrf i) : PubQ n a (F_X7_bound K x f P ac oc sh lo bk hr (nI nx) (nI hd) rf) (F_X8_bound K x g mrf (nI n) sx sy as ou A tk kp (nI hd)) := by
  obtain ⟨r, v, ac1, oc1, as1, ou1, tk1, a1, hd1, nx1, f1, g1, bk1, hr1, kp1, rf1, mrf1, P1, A1, sh1, lo1, sx1, sy1, e1, e2, q1, q2, q3, q4⟩ := hn_both (s := 2) (S := 2) (x := x) (y := 0) (z := 0) (no := -100000000) (P := P) (A := A) (sh := sh) (lo := lo) (sx := sx) (sy := sy) (ac := ac) (oc := oc) (as := as) (ou := ou) (tk := tk) rfl (by decide) hK ha h hrf
  unfold F_X7_bound F_X8_bound
  rw [e1, e2, xb12, xb11]
  rcases q4 with ⟨w1, w2, -⟩ | ⟨-, ⟨m, hm, w1⟩, -, w2, -⟩
  · rw [w1, w2, if_neg (by decide)]
    exact ⟨_, _, _, _, _, _, _, _, _, _, _, _, _, _, _, _, _, _, _, _, _, _, rfl, rfl, q1, q2, q3⟩
  · rw [w1, if_pos (nI_nn (by omega)), w2 rfl, show f 1 = g 65 from h.1.1.sc (1, 65) (by decide)]
    exact ⟨_, _, _, _, _, _, _, _, _, _, _, _, _, _, _, _, _, _, _, _, _, _, rfl, rfl, q1, q2, q3⟩
theorem p_law {n a hd nx K : Nat} {f g bk hr kp rf mrf P A sh lo sx sy : Nat → Int32} {x ac oc as ou tk : Int32} (hK : 200000 ≤ K) (ha : a < 2 ^ 29) (h : ActR n a hd nx f g bk hr kp) (hrf : ∀ i, i < 3 → rf i = mrf i) : PubQ n a (F_X7_law K x f P ac oc sh lo bk hr (nI nx) (nI hd) rf) (F_X8_law K x g mrf (nI n) sx sy as ou A tk kp (nI hd)) := by
  obtain ⟨r, v, ac1, oc1, as1, ou1, tk1, a1, hd1, nx1, f1, g1, bk1, hr1, kp1, rf1, mrf1, P1, A1, sh1, lo1, sx1, sy1, e1, e2, q1, q2, q3, q4⟩ := hn_both (s := 3) (S := 3) (x := x) (y := 0) (z := 0) (no := -1) (P := P) (A := A) (sh := sh) (lo := lo) (sx := sx) (sy := sy) (ac := ac) (oc := oc) (as := as) (ou := ou) (tk := tk) rfl (by decide) hK ha h hrf
  unfold F_X7_law F_X8_law
  rw [e1, e2, xb12, xb11]
  rcases q4 with ⟨w1, w2, -⟩ | ⟨-, ⟨m, hm, w1⟩, -, -, w2, -⟩
  · rw [w1, w2, if_neg (by decide)]
    exact ⟨_, _, _, _, _, _, _, _, _, _, _, _, _, _, _, _, _, _, _, _, _, _, rfl, rfl, q1, q2, q3⟩
  · rw [w1, if_pos (nI_nn (by omega)), w2 rfl, show f 0 = g 64 from h.1.1.sc (0, 64) (by decide)]
    exact ⟨_, _, _, _, _, _, _, _, _, _, _, _, _, _, _, _, _, _, _, _, _, _, rfl, rfl, q1, q2, q3⟩
theorem p_goal {n a hd nx K : Nat} {f g bk hr kp rf mrf P A sh lo sx sy : Nat → Int32} {x ac oc as ou tk : Int32} (hK : 200000 ≤ K) (ha : a < 2 ^ 29) (h : ActR n a hd nx f g bk hr kp) (hrf : ∀ i, i < 3 → rf i = mrf i) : PubQ n a (F_X7_goal K x f P ac oc sh lo bk hr (nI nx) (nI hd) rf) (F_X8_goal K x g mrf (nI n) sx sy as ou A tk kp (nI hd)) := by
  obtain ⟨r, v, ac1, oc1, as1, ou1, tk1, a1, hd1, nx1, f1, g1, bk1, hr1, kp1, rf1, mrf1, P1, A1, sh1, lo1, sx1, sy1, e1, e2, q1, q2, q3, q4⟩ := hn_both (s := 5) (S := 5) (x := x) (y := 0) (z := 0) (no := -1) (P := P) (A := A) (sh := sh) (lo := lo) (sx := sx) (sy := sy) (ac := ac) (oc := oc) (as := as) (ou := ou) (tk := tk) rfl (by decide) hK ha h hrf
  unfold F_X7_goal F_X8_goal
  rw [e1, e2, xb12, xb11]
  rcases q4 with ⟨w1, w2, -⟩ | ⟨-, ⟨m, hm, w1⟩, -, -, -, w2, -⟩
  · rw [w1, w2, if_neg (by decide)]
    exact ⟨_, _, _, _, _, _, _, _, _, _, _, _, _, _, _, _, _, _, _, _, _, _, rfl, rfl, q1, q2, q3⟩
  · rw [w1, if_pos (nI_nn (by omega)), w2 rfl, show f 2 = g 66 from h.1.1.sc (2, 66) (by decide)]
    exact ⟨_, _, _, _, _, _, _, _, _, _, _, _, _, _, _, _, _, _, _, _, _, _, rfl, rfl, q1, q2, q3⟩
theorem p_freeze {n a hd nx K : Nat} {f g bk hr kp rf mrf P A sh lo sx sy : Nat → Int32} {x ac oc as ou tk : Int32} (hK : 200000 ≤ K) (ha : a < 2 ^ 29) (h : ActR n a hd nx f g bk hr kp) (hrf : ∀ i, i < 3 → rf i = mrf i) : PubQ n a (F_X7_freeze K x f P ac oc sh lo bk hr (nI nx) (nI hd) rf) (F_X8_freeze K x g mrf (nI n) sx sy as ou A tk kp (nI hd)) := by
  obtain ⟨r, v, ac1, oc1, as1, ou1, tk1, a1, hd1, nx1, f1, g1, bk1, hr1, kp1, rf1, mrf1, P1, A1, sh1, lo1, sx1, sy1, e1, e2, q1, q2, q3, q4⟩ := hn_both (s := 6) (S := 6) (x := x) (y := 0) (z := 0) (no := -1) (P := P) (A := A) (sh := sh) (lo := lo) (sx := sx) (sy := sy) (ac := ac) (oc := oc) (as := as) (ou := ou) (tk := tk) rfl (by decide) hK ha h hrf
  unfold F_X7_freeze F_X8_freeze
  rw [e1, e2, xb12, xb11]
  rcases q4 with ⟨w1, w2, -⟩ | ⟨ok, ⟨m, hm, w1⟩, -, -, -, -, w2⟩
  · rw [w1, w2, if_neg (by decide)]
    exact ⟨_, _, _, _, _, _, _, _, _, _, _, _, _, _, _, _, _, _, _, _, _, _, rfl, rfl, q1, q2, q3⟩
  · obtain ⟨i, hi, rfl⟩ := ok.2.2.2.2.2 rfl
    have ev := w2 rfl i hi rfl
    have h0 : 0 < n := by omega
    rw [w1, if_pos (nI_nn (by omega)), fz_c q1.1.1.1 hi, xb1, ite10, ev]
    rcases (q1.1.2.1.2 h0).2.1 i hi with u | u
    · rw [if_neg (show ¬ g1 (76 + i) = 1 by rw [u]; decide), u]
      exact ⟨_, _, _, _, _, _, _, _, _, _, _, _, _, _, _, _, _, _, _, _, _, _, rfl, rfl, q1, q2, q3⟩
    · rw [if_pos u, u]
      exact ⟨_, _, _, _, _, _, _, _, _, _, _, _, _, _, _, _, _, _, _, _, _, _, rfl, rfl, q1, q2, q3⟩
end
-- 83c.21
section
/-! Stage B, 21: undoing, the log, the status, images, in both -/
theorem cpy_st {g kp : Nat → Int32} {o j : Nat} : upd (va_cpy kp g o 0 j) j (kp (o + j)) = va_cpy kp g o 0 (j + 1) := by
  funext k
  by_cases c : k = j
  · rw [c, upd_at, pk_cpy_in (by omega) (by omega), Nat.sub_zero]
  · rw [upd_ne c]
    by_cases d : k < j
    · rw [pk_cpy_in (by omega) (by omega), pk_cpy_in (by omega) (by omega)]
    · rw [pk_cpy_out (by omega), pk_cpy_out (by omega)]
theorem cpy_0 {g kp : Nat → Int32} {o : Nat} : va_cpy kp g o 0 0 = g := by
  funext k
  exact pk_cpy_out (by omega)
theorem gcpy_at {g kp : Nat → Int32} {o m k : Nat} (h : k < m) : va_cpy kp g o 0 m k = kp (o + k) := by
  rw [pk_cpy_in (by omega) (by omega), Nat.sub_zero]
theorem m_undo {K e : Nat} {g kp : Nat → Int32} (hK : 200000 ≤ K) (he : e < 40) : lpF (fun u9 : Int32 × (Nat → Int32) => B_X8_undo_21 kp (nI e) u9.1 u9.2) K ((0 : Int32), g) = some (va_cpy kp g (265 * e) 0 265) := by
  have h : lpF (fun u9 : Int32 × (Nat → Int32) => B_X8_undo_21 kp (nI e) u9.1 u9.2) K (nI 0, va_cpy kp g (265 * e) 0 0) = some (va_cpy kp g (265 * e) 0 265) := by
    refine lp_for (fun j => (nI j, va_cpy kp g (265 * e) 0 j)) (n := 265) (by omega) (fun j hj => ?_) ?_
    · show B_X8_undo_21 kp (nI e) (nI j) (va_cpy kp g (265 * e) 0 j) = some (.inl (nI (j + 1), va_cpy kp g (265 * e) 0 (j + 1)))
      have e1 : ((265 : Int32) * nI e) + nI j = nI (265 * e + j) := by rw [show (265 : Int32) = nI 265 from rfl, nI_mul, nI_add]
      unfold B_X8_undo_21
      rw [if_neg (show ¬ (265 : Int32) ≤ nI j from mt (nI_leI (a := 265) (b := j) (by omega) (by omega)).mp (by omega)), e1, xixn (by omega) (by decide), xixn (by omega) (by decide), xnm, nI_clamp (by omega), nI_clamp (by omega), cpy_st, nI_1]
    · show B_X8_undo_21 kp (nI e) (nI 265) (va_cpy kp g (265 * e) 0 265) = _
      unfold B_X8_undo_21
      rw [if_pos (by decide)]
  rw [cpy_0] at h
  exact h
theorem m_image {K : Nat} {g im : Nat → Int32} (hK : 200000 ≤ K) : lpF (fun u9 : Int32 × (Nat → Int32) => B_X8_image_11 g u9.1 u9.2) K ((0 : Int32), im) = some (va_cpy g im 0 0 265) := by
  have h : lpF (fun u9 : Int32 × (Nat → Int32) => B_X8_image_11 g u9.1 u9.2) K (nI 0, va_cpy g im 0 0 0) = some (va_cpy g im 0 0 265) := by
    refine lp_for (fun j => (nI j, va_cpy g im 0 0 j)) (n := 265) (by omega) (fun j hj => ?_) ?_
    · show B_X8_image_11 g (nI j) (va_cpy g im 0 0 j) = some (.inl (nI (j + 1), va_cpy g im 0 0 (j + 1)))
      have e := cpy_st (g := im) (kp := g) (o := 0) (j := j)
      rw [Nat.zero_add] at e
      unfold B_X8_image_11
      rw [if_neg (show ¬ (265 : Int32) ≤ nI j from mt (nI_leI (a := 265) (b := j) (by omega) (by omega)).mp (by omega)), xixn (by omega) (by decide), xixn (by omega) (by decide), xnm, nI_clamp (by omega), e, nI_1]
    · show B_X8_image_11 g (nI 265) (va_cpy g im 0 0 265) = _
      unfold B_X8_image_11
      rw [if_pos (by decide)]
  rw [cpy_0] at h
  exact h
theorem m_back {K : Nat} {g im : Nat → Int32} (hK : 200000 ≤ K) : lpF (fun u9 : Int32 × (Nat → Int32) => B_X8_back_11 im u9.1 u9.2) K ((0 : Int32), g) = some (va_cpy im g 0 0 265) := by
  have h : lpF (fun u9 : Int32 × (Nat → Int32) => B_X8_back_11 im u9.1 u9.2) K (nI 0, va_cpy im g 0 0 0) = some (va_cpy im g 0 0 265) := by
    refine lp_for (fun j => (nI j, va_cpy im g 0 0 j)) (n := 265) (by omega) (fun j hj => ?_) ?_
    · show B_X8_back_11 im (nI j) (va_cpy im g 0 0 j) = some (.inl (nI (j + 1), va_cpy im g 0 0 (j + 1)))
      have e := cpy_st (g := g) (kp := im) (o := 0) (j := j)
      rw [Nat.zero_add] at e
      unfold B_X8_back_11
      rw [if_neg (show ¬ (265 : Int32) ≤ nI j from mt (nI_leI (a := 265) (b := j) (by omega) (by omega)).mp (by omega)), xixn (by omega) (by decide), xixn (by omega) (by decide), xnm, nI_clamp (by omega), e, nI_1]
    · show B_X8_back_11 im (nI 265) (va_cpy im g 0 0 265) = _
      unfold B_X8_back_11
      rw [if_pos (by decide)]
  rw [cpy_0] at h
  exact h
theorem c_bring {p hd : Nat} {hr f : Nat → Int32} {k0 : Int32} (e0 : k0 = nI p) (hp : p < 40) (h0 : 0 < hd) (h4 : hd ≤ 40) : J_X2_bringBack_28 hr k0 (nI hd) f = some (1, nI p, nI (hd - 1), va_cpy hr f (81 * p) 0 81) := by
  have e : nI p * (81 : Int32) = nI (81 * p) := by rw [show (81 : Int32) = nI 81 from rfl, nI_mul, Nat.mul_comm]
  unfold J_X2_bringBack_28 cpF
  rw [e0, e, show (81 : Int32).toNatClampNeg = 81 by decide, show (0 : Int32).toNatClampNeg = 0 by decide, nI_clamp (by omega), if_pos ⟨nn0 (by omega), by decide, by decide, by omega, by omega⟩, xnm, show nI hd - (1 : Int32) = nI (hd - 1) from xsub (b := 1) (by omega)]
/-- the latest act is undone -/
theorem p_undo {n a hd nx K : Nat} {f g bk hr kp : Nat → Int32} (hK : 200000 ≤ K) (h : ActR n a hd nx f g bk hr kp) : ∃ (v : Int32) (f' g' : Nat → Int32) (a' hd' nx' : Nat), F_X7_undo f hr (nI nx) (nI hd) = some (v, f', nI nx', nI hd') ∧ F_X8_undo K g kp (nI hd) = some (v, g', nI hd') ∧ ActR n a' hd' nx' f' g' bk hr kp ∧ a' ≤ a := by
  obtain ⟨hw, h1, h2, h3, hR⟩ := h
  unfold F_X7_undo F_X8_undo F_X2_bringBack
  by_cases c : hd = 0
  · rw [c, if_pos (by rfl), if_pos (by rfl), xb4, if_pos rfl]
    exact ⟨-1, f, g, a, 0, nx, rfl, rfl, ⟨hw, by omega, by omega, h3, fun d q => absurd q (Nat.not_lt_zero _)⟩, Nat.le_refl _⟩
  · have h0 : 0 < hd := by omega
    have nz : ¬ nI hd = (0 : Int32) := nI_ne0 h0 (by omega)
    have C : (if nI nx ≤ (0 : Int32) then J_X2_bringBack_28 hr (39 : Int32) (nI hd) f else J_X2_bringBack_28 hr (nI nx - (1 : Int32)) (nI hd) f) = some (1, nI ((nx + 39) % 40), nI (hd - 1), va_cpy hr f (81 * ((nx + 39) % 40)) 0 81) := by
      by_cases d : nx = 0
      · rw [if_pos (by rw [d]; decide), c_bring (p := 39) (by rfl) (by decide) h0 h1, d]
      · rw [if_neg (nI_nle (by omega) (by omega)), c_bring (p := nx - 1) (show nI nx - (1 : Int32) = nI (nx - 1) from xsub (b := 1) (by omega)) (by omega) h0 h1, show (nx + 39) % 40 = nx - 1 by omega]
    rw [if_neg nz, if_neg nz, C, xb4, if_neg (show ¬ (1 : Int32) = 0 by decide), show nI hd - (1 : Int32) = nI (hd - 1) from xsub (b := 1) (by omega), m_undo hK (by omega), xb1]
    refine ⟨_, _, _, a - 1, hd - 1, (nx + 39) % 40, rfl, rfl, ⟨?_, by omega, by omega, Nat.mod_lt _ (by decide), fun d q => ?_⟩, by omega⟩
    · have r := hR 0 h0
      rw [show a - 1 - 0 = a - 1 by omega, show nx + 39 - 0 = nx + 39 by omega, show hd - 1 - 0 = hd - 1 by omega] at r
      exact r.cg (fun k hk => gcpy_at hk) (fun k hk => gcpy_at hk)
    · have r := hR (d + 1) (by omega)
      rw [show a - 1 - (d + 1) = a - 1 - 1 - d by omega, show (nx + 39 - (d + 1)) % 40 = ((nx + 39) % 40 + 39 - d) % 40 by omega, show hd - 1 - (d + 1) = hd - 1 - 1 - d by omega] at r
      exact r
theorem c_lgN {a : Nat} (ha : a < 2 ^ 30) : minF (nI a) (60 : Int32) = nI (lgN a) := by
  unfold minF lgN
  by_cases c : a < 60
  · rw [if_pos c, if_neg (show ¬ (60 : Int32) < nI a from mt (nI_ltI (a := 60) (b := a) (by omega) (by omega)).mp (by omega))]
  · rw [if_neg c]
    by_cases d : a = 60
    · rw [d]
      decide
    · rw [if_pos (show (60 : Int32) < nI a from (nI_ltI (a := 60) (b := a) (by omega) (by omega)).mpr (by omega))]
      rfl
/-- what the log tells -/
theorem p_log {n a : Nat} {f g bk : Nat → Int32} {x y : Int32} (ha : a < 2 ^ 29) (h : KRow n bk a f g) : ∃ v, F_X7_log x y f bk = some v ∧ F_X8_log x y g = some v := by
  have l := lgN_le a
  have e84 := h.2.2.2.1.1
  have e1 : F_X8_in x.toInt64 (0 : Int64) ((nI (lgN a) - (1 : Int32)).toInt64) = some (if 0 ≤ x ∧ x ≤ nI (lgN a) - 1 then 1 else 0) := by
    rw [show (0 : Int64) = (0 : Int32).toInt64 from rfl, m_inI]
  have e2 : F_X8_in y.toInt64 (0 : Int64) (2 : Int64) = some (if 0 ≤ y ∧ y ≤ (2 : Int32) then 1 else 0) := by
    rw [show (0 : Int64) = (0 : Int32).toInt64 from rfl, show (2 : Int64) = (2 : Int32).toInt64 from rfl, m_inI]
  unfold F_X7_log F_X8_log F_X7_loggedActs
  rw [e84, e1, xb1, e2, xb1, xb1, h.2.2.1, c_lgN (by omega)]
  by_cases c : 0 ≤ x ∧ x ≤ nI (lgN a) - 1
  · obtain ⟨i, hi, rfl⟩ := in_lt (by omega) c
    rw [if_pos c, if_neg (show ¬ (1 : Int32) = 0 by decide), if_neg (nn0 (by omega)), if_neg (mt (nI_leI (a := lgN a) (b := i) (by omega) (by omega)).mp (by omega))]
    by_cases d : 0 ≤ y ∧ y ≤ (2 : Int32)
    · obtain ⟨w, hw, rfl⟩ := in_nat (n := 2) (by decide) d
      have k1 : (nI (lgN a) - (1 : Int32)) - nI i = nI (lgN a - 1 - i) := by rw [show nI (lgN a) - (1 : Int32) = nI (lgN a - 1) from xsub (b := 1) (by omega), xsub (by omega)]
      have k2 : (nI a - (1 : Int32)) - nI i = nI (a - 1 - i) := by rw [show nI a - (1 : Int32) = nI (a - 1) from xsub (b := 1) (by omega), xsub (by omega)]
      have k3 : ((85 : Int32) + ((3 : Int32) * nI (lgN a - 1 - i))) + nI w = nI (85 + 3 * (lgN a - 1 - i) + w) := by rw [show (85 : Int32) = nI 85 from rfl, show (3 : Int32) = nI 3 from rfl, nI_mul, nI_add, nI_add]
      have m1 : (a - 1 - i) % 100 < 100 := Nat.mod_lt _ (by decide)
      have k4 : nI ((a - 1 - i) % 100) * (3 : Int32) + nI w = nI ((a - 1 - i) % 100 * 3 + w) := by rw [show (3 : Int32) = nI 3 from rfl, nI_mul, nI_add]
      have lr := h.2.2.2.1.2 (lgN a - 1 - i) w (by omega) hw
      rw [show a - lgN a + (lgN a - 1 - i) = a - 1 - i by omega] at lr
      unfold F_X0_read
      rw [if_pos d, if_neg (show ¬ (1 : Int32) = 0 by decide), if_neg (nn0 (by omega)), if_pos (show nI w < (3 : Int32) from (nI_ltI (a := w) (b := 3) (by omega) (by omega)).mpr hw), k1, k2, k3, if_neg (nn0 (by omega)), if_neg (show ¬ (3 : Int32) ≤ nI w from mt (nI_leI (a := 3) (b := w) (by omega) (by omega)).mp (by omega)), fm_100 (by omega), xb1, k4, xixn (by omega) (by decide), xb1, xixn (by omega) (by decide), nI_clamp (by omega), nI_clamp (by omega), lr]
      exact ⟨_, rfl, rfl⟩
    · rw [if_neg d, if_pos rfl]
      refine ⟨_, ?_, rfl⟩
      by_cases b1 : y < 0
      · rw [if_pos b1]
      · rw [if_neg b1, if_neg]
        intro b2
        obtain ⟨w, hw, rfl⟩ := nnI (n := 3) (by decide) b1 (lt_not.mp b2)
        exact d ⟨nI_nn (by omega), (nI_leI (a := w) (b := 2) (by omega) (by omega)).mpr (by omega)⟩
  · rw [if_neg c, if_pos rfl]
    refine ⟨_, ?_, rfl⟩
    by_cases b1 : x < 0
    · rw [if_pos b1]
    · rw [if_neg b1, if_pos]
      refine Decidable.byContradiction (fun b2 => ?_)
      obtain ⟨w, hw, rfl⟩ := nnI (n := lgN a) (by omega) b1 b2
      apply c
      rw [show nI (lgN a) - (1 : Int32) = nI (lgN a - 1) from xsub (b := 1) (by omega)]
      exact ⟨nI_nn (by omega), (nI_leI (a := w) (b := lgN a - 1) (by omega) (by omega)).mpr (by omega)⟩
theorem p_status {rf mrf : Nat → Int32} {x : Int32} (h : ∀ i, i < 3 → rf i = mrf i) : ∃ v, F_X7_status x rf = some v ∧ F_X8_status x mrf = some v := by
  have e2 : F_X8_in x.toInt64 (0 : Int64) (2 : Int64) = some (if 0 ≤ x ∧ x ≤ (2 : Int32) then 1 else 0) := by
    rw [show (0 : Int64) = (0 : Int32).toInt64 from rfl, show (2 : Int64) = (2 : Int32).toInt64 from rfl, m_inI]
  unfold F_X7_status F_X8_status
  rw [e2, xb1]
  by_cases d : 0 ≤ x ∧ x ≤ (2 : Int32)
  · obtain ⟨w, hw, rfl⟩ := in_nat (n := 2) (by decide) d
    rw [if_pos d, if_neg (show ¬ (1 : Int32) = 0 by decide), if_neg (nn0 (by omega)), if_neg (show ¬ (3 : Int32) ≤ nI w from mt (nI_leI (a := 3) (b := w) (by omega) (by omega)).mp (by omega)), xixn (by omega) (by decide), xixn (by omega) (by decide), nI_clamp (by omega), h w (by omega)]
    exact ⟨_, rfl, rfl⟩
  · rw [if_neg d, if_pos rfl]
    refine ⟨_, ?_, rfl⟩
    by_cases b1 : x < 0
    · rw [if_pos b1]
    · rw [if_neg b1, if_pos]
      refine Decidable.byContradiction (fun b2 => ?_)
      obtain ⟨w, hw, rfl⟩ := nnI (n := 3) (by decide) b1 b2
      exact d ⟨nI_nn (by omega), (nI_leI (a := w) (b := 2) (by omega) (by omega)).mpr (by omega)⟩
/-- the image -/
def ImR (n B : Nat) (kf im kbk : Nat → Int32) (xi hi : Int32) : Prop := (xi = 0 ∧ hi = 0) ∨ (xi = 1 ∧ hi = 1 ∧ ∃ b, b ≤ B ∧ KRow n kbk b kf im)
theorem ImR.up {n B B' : Nat} {kf im kbk : Nat → Int32} {xi hi : Int32} (h : ImR n B kf im kbk xi hi) (hB : B ≤ B') : ImR n B' kf im kbk xi hi := by
  rcases h with h | ⟨h1, h2, b, hb, h3⟩
  · exact Or.inl h
  · exact Or.inr ⟨h1, h2, b, by omega, h3⟩
theorem KRow.bk {n b : Nat} {bk bk' f g : Nat → Int32} (h : KRow n bk b f g) (hb : ∀ k, k < 300 → bk' k = bk k) : KRow n bk' b f g := by
  refine ⟨h.1, h.2.1, h.2.2.1, ⟨h.2.2.2.1.1, fun e w he hw => ?_⟩, h.2.2.2.2⟩
  have m1 : (b - lgN b + e) % 100 < 100 := Nat.mod_lt _ (by decide)
  rw [hb _ (by omega)]
  exact h.2.2.2.1.2 e w he hw
theorem c_cpF {f g : Nat → Int32} : F_X5_copyFrom f g = some (va_cpy g f 0 0 81) := by
  unfold F_X5_copyFrom cpF
  rw [if_pos ⟨by decide, by decide, by decide, by decide, by decide⟩, xnm]
  rfl
theorem c_cpB {f g : Nat → Int32} : F_X0_copyFrom f g = some (va_cpy g f 0 0 300) := by
  unfold F_X0_copyFrom cpF
  rw [if_pos ⟨by decide, by decide, by decide, by decide, by decide⟩, xnm]
  rfl
theorem p_image {n a B K : Nat} {f g bk kf im kbk : Nat → Int32} {xi hi : Int32} (hK : 200000 ≤ K) (h : KRow n bk a f g) (ha : a ≤ B) (hi' : ImR n B kf im kbk xi hi) : ∃ (v xi' hi2 : Int32) (kf' im' kbk' : Nat → Int32), F_X7_image f kf bk kbk xi = some (v, kf', kbk', xi') ∧ F_X8_image K g (nI n) im hi = some (v, im', hi2) ∧ ImR n B kf' im' kbk' xi' hi2 := by
  have n8 := h.1.n8
  obtain ⟨s1, s2⟩ := sd_both n8 h.1.sz
  unfold F_X7_image F_X8_image
  rw [s1, s2, xb1, xb1]
  by_cases c : n = 0
  · rw [if_pos c, if_pos rfl]
    exact ⟨_, _, _, _, _, _, rfl, rfl, hi'⟩
  · rw [if_neg c, if_neg (show ¬ (1 : Int32) = 0 by decide), c_cpF, xb1, c_cpB, xb1, m_image hK, xb1, h.2.2.2.2]
    refine ⟨_, _, _, _, _, _, rfl, rfl, Or.inr ⟨rfl, rfl, a, ha, ?_⟩⟩
    exact (h.bk (bk' := va_cpy bk kbk 0 0 300) (fun k hk => by rw [gcpy_at hk, Nat.zero_add])).cg (fun k hk => by rw [gcpy_at hk, Nat.zero_add]) (fun k hk => by rw [gcpy_at hk, Nat.zero_add])
theorem p_back {n a hd nx B K : Nat} {f g bk hr kp kf im kbk : Nat → Int32} {xi hi : Int32} (hK : 200000 ≤ K) (h : ActR n a hd nx f g bk hr kp) (ha : a ≤ B) (hi' : ImR n B kf im kbk xi hi) : ∃ (v : Int32) (f' g' bk' : Nat → Int32) (a' hd' : Nat), F_X7_back f kf bk kbk (nI hd) xi = some (v, f', bk', nI hd') ∧ F_X8_back K g (nI hd) im hi = some (v, g', nI hd') ∧ ActR n a' hd' nx f' g' bk' hr kp ∧ a' ≤ B := by
  unfold F_X7_back F_X8_back
  rcases hi' with ⟨q1, q2⟩ | ⟨q1, q2, b, hb, q3⟩
  · rw [q1, q2, if_pos rfl, if_pos rfl]
    exact ⟨_, _, _, _, a, hd, rfl, rfl, h, ha⟩
  · unfold F_X2_forget
    have K1 : KRow n (va_cpy kbk bk 0 0 300) b (va_cpy kf f 0 0 81) (va_cpy im g 0 0 265) := (q3.bk (bk' := va_cpy kbk bk 0 0 300) (fun k hk => by rw [gcpy_at hk, Nat.zero_add])).cg (fun k hk => by rw [gcpy_at hk, Nat.zero_add]) (fun k hk => by rw [gcpy_at hk, Nat.zero_add])
    rw [q1, q2, if_neg (show ¬ (1 : Int32) = 0 by decide), if_neg (show ¬ (1 : Int32) = 0 by decide), c_cpF, xb1, c_cpB, xb1, xb1, m_back hK, xb1, show (va_cpy kf f 0 0 81) 11 = (va_cpy im g 0 0 265) 67 from K1.2.2.2.2]
    exact ⟨_, _, _, _, b, 0, rfl, rfl, ⟨K1, by omega, by omega, h.2.2.2.1, fun d q => absurd q (Nat.not_lt_zero _)⟩, hb⟩
theorem p_held {n a hd : Nat} {f g bk : Nat → Int32} {x t k : Int32} (ha : a < 2 ^ 29) (h : KRow n bk a f g) : ∃ v, F_X7_held x t k f (nI hd) = some v ∧ F_X8_held x t k g (nI n) (nI hd) = some v := by
  unfold F_X7_held F_X8_held F_X5_sites F_X7_loggedActs
  rw [xb1, xb1, h.1.sz, h.2.2.1, c_lgN (by omega), h.2.2.2.1.1]
  by_cases c0 : x = 0
  · rw [if_pos c0]; exact ⟨_, rfl, rfl⟩
  rw [if_neg c0]
  by_cases c1 : x = 1
  · rw [if_pos c1]; exact ⟨_, rfl, rfl⟩
  rw [if_neg c1]
  by_cases c2 : x = 2
  · rw [if_pos c2]; exact ⟨_, rfl, rfl⟩
  rw [if_neg c2]
  by_cases c3 : x = 3
  · rw [if_pos c3]; exact ⟨_, rfl, rfl⟩
  rw [if_neg c3]
  by_cases c4 : x = 4
  · rw [if_pos c4]; exact ⟨_, rfl, rfl⟩
  rw [if_neg c4]
  exact ⟨_, rfl, rfl⟩
end
-- 83c.22
section
/-! Stage B, 22: a new watch, in both -/
def zrF (f : Nat → Int32) (j : Nat) : Nat → Int32 := fun k => if k < j then 0 else f k
theorem zrF_st {f : Nat → Int32} {j : Nat} : upd (zrF f j) j 0 = zrF f (j + 1) := by
  funext k
  by_cases c : k = j
  · rw [c, upd_at]
    unfold zrF
    rw [if_pos (by omega)]
  · rw [upd_ne c]
    unfold zrF
    by_cases d : k < j
    · rw [if_pos d, if_pos (by omega)]
    · rw [if_neg d, if_neg (by omega)]
theorem zrF_0 {f : Nat → Int32} : zrF f 0 = f := by
  funext k
  unfold zrF
  rw [if_neg (by omega)]
theorem zrF_lt {f : Nat → Int32} {j k : Nat} (h : k < j) : zrF f j k = 0 := by unfold zrF; rw [if_pos h]
theorem c_zero {K : Nat} {f : Nat → Int32} (hK : 200000 ≤ K) : lpF (fun u9 : Int32 × (Nat → Int32) => B_X5_begin_2 u9.1 u9.2) K ((0 : Int32), f) = some (zrF f 81) := by
  have h : lpF (fun u9 : Int32 × (Nat → Int32) => B_X5_begin_2 u9.1 u9.2) K (nI 0, zrF f 0) = some (zrF f 81) := by
    refine lp_for (fun j => (nI j, zrF f j)) (n := 81) (by omega) (fun j hj => ?_) ?_
    · show B_X5_begin_2 (nI j) (zrF f j) = some (.inl (nI (j + 1), zrF f (j + 1)))
      unfold B_X5_begin_2
      rw [if_neg (show ¬ (81 : Int32) ≤ nI j from mt (nI_leI (a := 81) (b := j) (by omega) (by omega)).mp (by omega)), xixn (by omega) (by decide), xnm, nI_clamp (by omega), zrF_st, nI_1]
    · show B_X5_begin_2 (nI 81) (zrF f 81) = _
      unfold B_X5_begin_2
      rw [if_pos (by decide)]
  rw [zrF_0] at h
  exact h
theorem m_zero {K : Nat} {g : Nat → Int32} (hK : 200000 ≤ K) : lpF (fun u9 : Int32 × (Nat → Int32) => B_X8_takeWatch_10 u9.1 u9.2) K ((0 : Int32), g) = some (zrF g 265) := by
  have h : lpF (fun u9 : Int32 × (Nat → Int32) => B_X8_takeWatch_10 u9.1 u9.2) K (nI 0, zrF g 0) = some (zrF g 265) := by
    refine lp_for (fun j => (nI j, zrF g j)) (n := 265) (by omega) (fun j hj => ?_) ?_
    · show B_X8_takeWatch_10 (nI j) (zrF g j) = some (.inl (nI (j + 1), zrF g (j + 1)))
      unfold B_X8_takeWatch_10
      rw [if_neg (show ¬ (265 : Int32) ≤ nI j from mt (nI_leI (a := 265) (b := j) (by omega) (by omega)).mp (by omega)), xixn (by omega) (by decide), xnm, nI_clamp (by omega), zrF_st, nI_1]
    · show B_X8_takeWatch_10 (nI 265) (zrF g 265) = _
      unfold B_X8_takeWatch_10
      rw [if_pos (by decide)]
  rw [zrF_0] at h
  exact h
/-- the places, put one behind the other -/
def plcF (pl f : Nat → Int32) : Nat → Nat → Int32
  | 0 => f
  | i + 1 => upd (upd (plcF pl f i) (17 + 8 * i + 0) (pl (2 * i))) (17 + 8 * i + 1) (pl (2 * i + 1))
theorem plcF_low {pl f : Nat → Int32} {k : Nat} : ∀ i, (k < 17 ∨ ¬ (k - 17) % 8 < 2 ∨ 17 + 8 * i ≤ k) → plcF pl f i k = f k := by
  intro i
  induction i with
  | zero => exact fun _ => rfl
  | succ i ih =>
    intro h
    show upd (upd (plcF pl f i) (17 + 8 * i + 0) (pl (2 * i))) (17 + 8 * i + 1) (pl (2 * i + 1)) k = f k
    rw [upd_ne (by omega), upd_ne (by omega)]
    exact ih (by omega)
theorem plcF_at {pl f : Nat → Int32} {j : Nat} : ∀ i, j < i → plcF pl f i (17 + 8 * j + 0) = pl (2 * j) ∧ plcF pl f i (17 + 8 * j + 1) = pl (2 * j + 1) := by
  intro i
  induction i with
  | zero => exact fun h => absurd h (Nat.not_lt_zero _)
  | succ i ih =>
    intro h
    show upd (upd (plcF pl f i) (17 + 8 * i + 0) (pl (2 * i))) (17 + 8 * i + 1) (pl (2 * i + 1)) (17 + 8 * j + 0) = pl (2 * j) ∧ upd (upd (plcF pl f i) (17 + 8 * i + 0) (pl (2 * i))) (17 + 8 * i + 1) (pl (2 * i + 1)) (17 + 8 * j + 1) = pl (2 * j + 1)
    by_cases e : j = i
    · rw [e, upd_ne (by omega), upd_at, upd_at]
      exact ⟨rfl, rfl⟩
    · rw [upd_ne (by omega), upd_ne (by omega), upd_ne (by omega), upd_ne (by omega)]
      exact ih (by omega)
theorem c_places {K s : Nat} {pl f : Nat → Int32} (hK : 200000 ≤ K) (hs : s ≤ 8) (h3 : f 3 = nI s) : lpF (fun u9 : Int32 × (Nat → Int32) => B_X5_begin_74 pl u9.1 u9.2) K ((0 : Int32), f) = some (plcF pl f s) := by
  refine lp_for (fun j => (nI j, plcF pl f j)) (n := s) (by omega) (fun j hj => ?_) ?_
  · show B_X5_begin_74 pl (nI j) (plcF pl f j) = some (.inl (nI (j + 1), upd (upd (plcF pl f j) (17 + 8 * j + 0) (pl (2 * j))) (17 + 8 * j + 1) (pl (2 * j + 1))))
    have e1 : (2 : Int32) * nI j = nI (2 * j) := by rw [show (2 : Int32) = nI 2 from rfl, nI_mul]
    have e2 : nI (2 * j) + (1 : Int32) = nI (2 * j + 1) := nI_1 _
    unfold B_X5_begin_74 F_X5_sites
    rw [xb1, plcF_low j (Or.inl (by decide)), h3, if_neg (mt (nI_leI (a := s) (b := j) (by omega) (by omega)).mp (by omega)), e1, e2, xixn (by omega) (by decide), nI_clamp (by omega), nI_clamp (by omega), bx_put (c := 0) (by rfl) (by omega) (by decide), xb1, xixn (by omega) (by decide), bx_put (c := 1) (by rfl) (by omega) (by decide), xb1, nI_1]
  · show B_X5_begin_74 pl (nI s) (plcF pl f s) = _
    unfold B_X5_begin_74 F_X5_sites
    rw [xb1, plcF_low s (Or.inl (by decide)), h3, if_pos ((nI_leI (a := s) (b := s) (by omega) (by omega)).mpr (Nat.le_refl _))]
/-- a site of a new watch: the reference's row -/
def twM (i : Nat) (rp g : Nat → Int32) : Nat → Int32 := upd (upd (upd (upd g (0 + i) (rp (2 * i))) (8 + i) (rp (2 * i + 1))) (16 + i) (rp (2 * i))) (24 + i) (rp (2 * i + 1))
theorem m_tw {i s : Nat} {rp g : Nat → Int32} (hi : i < s) (hs : s ≤ 8) : B_X8_takeWatch_32 rp (nI s) (nI i) g = some (.inl (nI (i + 1), twM i rp g)) := by
  have e1 : (2 : Int32) * nI i = nI (2 * i) := by rw [show (2 : Int32) = nI 2 from rfl, nI_mul]
  have e2 : nI (2 * i) + (1 : Int32) = nI (2 * i + 1) := nI_1 _
  have v1 : upd (upd g (0 + i) (rp (2 * i))) (8 + i) (rp (2 * i + 1)) (0 + i) = rp (2 * i) := by rw [upd_ne (by omega), upd_at]
  have v2 : upd (upd (upd g (0 + i) (rp (2 * i))) (8 + i) (rp (2 * i + 1))) (16 + i) (rp (2 * i)) (8 + i) = rp (2 * i + 1) := by rw [upd_ne (by omega), upd_at]
  unfold B_X8_takeWatch_32
  rw [if_neg (mt (nI_leI (a := s) (b := i) (by omega) (by omega)).mp (by omega)), e1, e2]
  simp only [xixn (show 2 * i < 16 by omega) (by decide), xixn (show 2 * i + 1 < 16 by omega) (by decide), bm_ix (A := (0 : Int32)) (a := 0) rfl (show 0 + i < 265 by omega), bm_ix (A := (8 : Int32)) (a := 8) rfl (show 8 + i < 265 by omega), bm_ix (A := (16 : Int32)) (a := 16) rfl (show 16 + i < 265 by omega), bm_ix (A := (24 : Int32)) (a := 24) rfl (show 24 + i < 265 by omega), bm_cl (A := (0 : Int32)) (a := 0) rfl (show 0 + i < 265 by omega), bm_cl (A := (8 : Int32)) (a := 8) rfl (show 8 + i < 265 by omega), bm_cl (A := (16 : Int32)) (a := 16) rfl (show 16 + i < 265 by omega), bm_cl (A := (24 : Int32)) (a := 24) rfl (show 24 + i < 265 by omega), nI_clamp (show 2 * i < 2 ^ 31 by omega), nI_clamp (show 2 * i + 1 < 2 ^ 31 by omega), xnm, v1, v2, nI_1]
  rfl
def BgR (s : Nat) (pl rp f : Nat → Int32) (i : Nat) (u t : Int32 × (Nat → Int32)) : Prop := u.1 = nI i ∧ t.1 = nI i ∧ (∀ j c, j < i → c < 8 → u.2 (17 + 8 * j + c) = t.2 (8 * c + j)) ∧ (∀ k, 17 + 8 * i ≤ k → u.2 k = f k) ∧ (∀ k, k < 17 → ¬ k = 4 → ¬ k = 5 → u.2 k = f k) ∧ (∀ j c, i ≤ j → j < 8 → c < 8 → t.2 (8 * c + j) = 0) ∧ (∀ k, 64 ≤ k → k < 265 → t.2 k = 0) ∧ u.2 4 = sgm (fun k => t.2 (16 + k)) i ∧ u.2 5 = sgm (fun k => t.2 (24 + k)) i ∧ ∀ j, j < i → t.2 (0 + j) = rp (2 * j) ∧ t.2 (8 + j) = rp (2 * j + 1) ∧ t.2 (48 + j) = 0 ∧ t.2 (56 + j) = 0
theorem BgR.step {s i : Nat} {pl rp f : Nat → Int32} {u t : Int32 × (Nat → Int32)} (s8 : s ≤ 8) (h3 : f 3 = nI s) (hi : i < s) (hpl : ∀ j, j < s → f (17 + 8 * j + 0) = rp (2 * j) ∧ f (17 + 8 * j + 1) = rp (2 * j + 1) ∧ ∀ c, 2 ≤ c → c < 8 → f (17 + 8 * j + c) = 0) (h : BgR s pl rp f i u t) : ∃ u' t', B_X5_hearPlaces_16 u.1 u.2 = some (.inl u') ∧ B_X8_takeWatch_32 rp (nI s) t.1 t.2 = some (.inl t') ∧ BgR s pl rp f (i + 1) u' t' := by
  obtain ⟨x, f1⟩ := u
  obtain ⟨y, g1⟩ := t
  obtain ⟨e1, e2, a1, a2, a3, a4, a5, a6, a7, a8⟩ := h
  have e1 : x = nI i := e1
  have e2 : y = nI i := e2
  subst e1 e2
  have a1 : ∀ j c, j < i → c < 8 → f1 (17 + 8 * j + c) = g1 (8 * c + j) := a1
  have a2 : ∀ k, 17 + 8 * i ≤ k → f1 k = f k := a2
  have a3 : ∀ k, k < 17 → ¬ k = 4 → ¬ k = 5 → f1 k = f k := a3
  have a4 : ∀ j c, i ≤ j → j < 8 → c < 8 → g1 (8 * c + j) = 0 := a4
  have a5 : ∀ k, 64 ≤ k → k < 265 → g1 k = 0 := a5
  have a6 : f1 4 = sgm (fun k => g1 (16 + k)) i := a6
  have a7 : f1 5 = sgm (fun k => g1 (24 + k)) i := a7
  have a8 : ∀ j, j < i → g1 (0 + j) = rp (2 * j) ∧ g1 (8 + j) = rp (2 * j + 1) ∧ g1 (48 + j) = 0 ∧ g1 (56 + j) = 0 := a8
  obtain ⟨p0, p1, p2⟩ := hpl i hi
  have x0 : f1 (17 + 8 * i + 0) = rp (2 * i) := (a2 _ (by omega)).trans p0
  have x1 : f1 (17 + 8 * i + 1) = rp (2 * i + 1) := (a2 _ (by omega)).trans p1
  have W1 : upd f1 (17 + 8 * i + 2) (f1 (17 + 8 * i + 0)) (17 + 8 * i + 1) = rp (2 * i + 1) := (upd_ne (by omega)).trans x1
  have w0 : hrW i f1 (17 + 8 * i + 0) = rp (2 * i) := by
    unfold hrW
    rw [upd_ne (by omega), upd_ne (by omega), upd_ne (by omega), upd_ne (by omega), x0]
  have w1 : hrW i f1 (17 + 8 * i + 1) = rp (2 * i + 1) := by
    unfold hrW
    rw [upd_ne (by omega), upd_ne (by omega), upd_ne (by omega), upd_ne (by omega), x1]
  have w4 : hrW i f1 4 = f1 4 := by
    unfold hrW
    rw [upd_ne (by omega), upd_ne (by omega), upd_ne (by omega), upd_ne (by omega)]
  have w5 : hrW i f1 5 = f1 5 := by
    unfold hrW
    rw [upd_ne (by omega), upd_ne (by omega), upd_ne (by omega), upd_ne (by omega)]
  have C : ∀ k, ¬ k = 4 → ¬ k = 5 → hrC i f1 k = hrW i f1 k := fun k k4 k5 => by
    unfold hrC
    rw [upd_ne k5, upd_ne k4]
  have Wo : ∀ k, (k < 17 + 8 * i + 2 ∨ 17 + 8 * i + 6 ≤ k) → hrW i f1 k = f1 k := fun k hk => by
    unfold hrW
    rw [upd_ne (by omega), upd_ne (by omega), upd_ne (by omega), upd_ne (by omega)]
  have W2 : hrW i f1 (17 + 8 * i + 2) = rp (2 * i) ∧ hrW i f1 (17 + 8 * i + 3) = rp (2 * i + 1) ∧ hrW i f1 (17 + 8 * i + 4) = 0 ∧ hrW i f1 (17 + 8 * i + 5) = 0 := by
    unfold hrW
    refine ⟨?_, ?_, ?_, upd_at⟩
    · rw [upd_ne (by omega), upd_ne (by omega), upd_ne (by omega), upd_at, x0]
    · rw [upd_ne (by omega), upd_ne (by omega), upd_at, W1]
    · rw [upd_ne (by omega), upd_at]
  have T : ∀ k, ¬ k = 0 + i → ¬ k = 8 + i → ¬ k = 16 + i → ¬ k = 24 + i → twM i rp g1 k = g1 k := fun k k0 k1 k2 k3 => by
    unfold twM
    rw [upd_ne k3, upd_ne k2, upd_ne k1, upd_ne k0]
  have T4 : twM i rp g1 (0 + i) = rp (2 * i) ∧ twM i rp g1 (8 + i) = rp (2 * i + 1) ∧ twM i rp g1 (16 + i) = rp (2 * i) ∧ twM i rp g1 (24 + i) = rp (2 * i + 1) := by
    unfold twM
    refine ⟨?_, ?_, ?_, upd_at⟩
    · rw [upd_ne (by omega), upd_ne (by omega), upd_ne (by omega), upd_at]
    · rw [upd_ne (by omega), upd_ne (by omega), upd_at]
    · rw [upd_ne (by omega), upd_at]
  refine ⟨(nI (i + 1), hrC i f1), (nI (i + 1), twM i rp g1), b_hear hi s8 ((a3 3 (by decide) (by decide) (by decide)).trans h3), m_tw hi s8, rfl, rfl, ?_, ?_, ?_, ?_, ?_, ?_, ?_, ?_⟩
  · intro j c hj hc
    show hrC i f1 (17 + 8 * j + c) = twM i rp g1 (8 * c + j)
    rw [C _ (by omega) (by omega)]
    by_cases e : j = i
    · rw [e]
      rcases (show c = 0 ∨ c = 1 ∨ c = 2 ∨ c = 3 ∨ c = 4 ∨ c = 5 ∨ c = 6 ∨ c = 7 by omega) with rfl | rfl | rfl | rfl | rfl | rfl | rfl | rfl
      · exact w0.trans T4.1.symm
      · exact w1.trans T4.2.1.symm
      · exact W2.1.trans T4.2.2.1.symm
      · exact W2.2.1.trans T4.2.2.2.symm
      · rw [W2.2.2.1, T _ (by omega) (by omega) (by omega) (by omega), a4 i 4 (by omega) (by omega) (by omega)]
      · rw [W2.2.2.2, T _ (by omega) (by omega) (by omega) (by omega), a4 i 5 (by omega) (by omega) (by omega)]
      · rw [Wo _ (by omega), T _ (by omega) (by omega) (by omega) (by omega), a4 i 6 (by omega) (by omega) (by omega), a2 _ (by omega), p2 6 (by omega) (by omega)]
      · rw [Wo _ (by omega), T _ (by omega) (by omega) (by omega) (by omega), a4 i 7 (by omega) (by omega) (by omega), a2 _ (by omega), p2 7 (by omega) (by omega)]
    · rw [Wo _ (by omega), T _ (by omega) (by omega) (by omega) (by omega)]
      exact a1 j c (by omega) hc
  · intro k hk
    show hrC i f1 k = f k
    rw [C _ (by omega) (by omega), Wo _ (by omega)]
    exact a2 k (by omega)
  · intro k k1 k4 k5
    show hrC i f1 k = f k
    rw [C _ k4 k5, Wo _ (by omega)]
    exact a3 k k1 k4 k5
  · intro j c hj h8 hc
    show twM i rp g1 (8 * c + j) = 0
    rw [T _ (by omega) (by omega) (by omega) (by omega)]
    exact a4 j c (by omega) h8 hc
  · intro k k1 k2
    show twM i rp g1 k = 0
    rw [T _ (by omega) (by omega) (by omega) (by omega)]
    exact a5 k k1 k2
  · show hrC i f1 4 = sgm (fun k => twM i rp g1 (16 + k)) i + twM i rp g1 (16 + i)
    have q : sgm (fun k => twM i rp g1 (16 + k)) i = sgm (fun k => g1 (16 + k)) i := sgm_eq i (fun k hk => T _ (by omega) (by omega) (by omega) (by omega))
    rw [q, ← a6, T4.2.2.1]
    unfold hrC
    rw [upd_ne (by decide), upd_at, w4, w0]
  · show hrC i f1 5 = sgm (fun k => twM i rp g1 (24 + k)) i + twM i rp g1 (24 + i)
    have q : sgm (fun k => twM i rp g1 (24 + k)) i = sgm (fun k => g1 (24 + k)) i := sgm_eq i (fun k hk => T _ (by omega) (by omega) (by omega) (by omega))
    rw [q, ← a7, T4.2.2.2]
    unfold hrC
    rw [upd_at, upd_ne (by decide), upd_ne (by omega), w5, w1]
  · intro j hj
    show twM i rp g1 (0 + j) = rp (2 * j) ∧ twM i rp g1 (8 + j) = rp (2 * j + 1) ∧ twM i rp g1 (48 + j) = 0 ∧ twM i rp g1 (56 + j) = 0
    by_cases e : j = i
    · rw [e]
      exact ⟨T4.1, T4.2.1, (T _ (by omega) (by omega) (by omega) (by omega)).trans (a4 i 6 (by omega) (by omega) (by omega)), (T _ (by omega) (by omega) (by omega) (by omega)).trans (a4 i 7 (by omega) (by omega) (by omega))⟩
    · rw [T _ (by omega) (by omega) (by omega) (by omega), T _ (by omega) (by omega) (by omega) (by omega), T _ (by omega) (by omega) (by omega) (by omega), T _ (by omega) (by omega) (by omega) (by omega)]
      exact a8 j (by omega)
theorem row_frz_0 {g : Nat → Int32} : ∀ n, (∀ j, j < n → g (76 + j) = 0) → row_frz g n = 0 := by
  intro n
  induction n with
  | zero => exact fun _ => rfl
  | succ k ih =>
    intro h
    show row_frz g k ||| (if g (76 + k) = 1 then (1 : Int32) <<< (nI k &&& 31) else 0) = 0
    rw [ih (fun j hj => h j (by omega)), h k (by omega), if_neg (by decide)]
    rfl
theorem in999 {v : Int32} (h : (-999 : Int32) ≤ v ∧ v ≤ (999 : Int32)) : inR v := ⟨Int32.le_trans (by decide) h.1, Int32.le_trans h.2 (by decide)⟩
/-- a new watch -/
theorem bg_both {K s : Nat} {ru pl rp f g bk : Nat → Int32} {la bo go si ac im : Int32} (hK : 200000 ≤ K) (h2 : 2 ≤ s) (h : RdOK s ru pl rp la bo go) : ∃ f' g', F_X5_begin K f ru pl (nI s) = some f' ∧ F_X8_takeWatch K la bo go (nI s) rp g si ac im = some (nI s, g', nI s, 0, 0) ∧ KRow s bk 0 f' g' := by
  obtain ⟨s8, r0, r1, r2, hp, hla, hbo, hgo, hrp⟩ := h
  have em : minF (nI s) (8 : Int32) = nI s := by
    unfold minF
    rw [if_neg (show ¬ (8 : Int32) < nI s from mt (nI_ltI (a := 8) (b := s) (by omega) (by omega)).mp (by omega))]
  unfold F_X5_begin F_X8_takeWatch
  rw [c_zero hK, xb1, xnm, xnm, xnm, xnm, r0, r1, r2, em, m_zero hK, xb1]
  have fx : ∀ k, 4 ≤ k → k < 81 → (upd (upd (upd (upd (zrF f 81) 0 la) 1 bo) 2 go) 3 (nI s)) k = 0 := fun k k1 k2 => by rw [upd_ne (by omega), upd_ne (by omega), upd_ne (by omega), upd_ne (by omega), zrF_lt (by omega)]
  have f0 : (upd (upd (upd (upd (zrF f 81) 0 la) 1 bo) 2 go) 3 (nI s)) 0 = la := by rw [upd_ne (by decide), upd_ne (by decide), upd_ne (by decide), upd_at]
  have f1 : (upd (upd (upd (upd (zrF f 81) 0 la) 1 bo) 2 go) 3 (nI s)) 1 = bo := by rw [upd_ne (by decide), upd_ne (by decide), upd_at]
  have f2 : (upd (upd (upd (upd (zrF f 81) 0 la) 1 bo) 2 go) 3 (nI s)) 2 = go := by rw [upd_ne (by decide), upd_at]
  have f3 : (upd (upd (upd (upd (zrF f 81) 0 la) 1 bo) 2 go) 3 (nI s)) 3 = nI s := upd_at
  generalize upd (upd (upd (upd (zrF f 81) 0 la) 1 bo) 2 go) 3 (nI s) = fa at fx f0 f1 f2 f3 ⊢
  rw [c_places hK s8 f3, xb1]
  have gl : ∀ k, k < 17 → plcF pl fa s k = fa k := fun k hk => plcF_low s (Or.inl hk)
  have gp : ∀ j, j < s → plcF pl fa s (17 + 8 * j + 0) = rp (2 * j) ∧ plcF pl fa s (17 + 8 * j + 1) = rp (2 * j + 1) ∧ ∀ c, 2 ≤ c → c < 8 → plcF pl fa s (17 + 8 * j + c) = 0 := fun j hj => by
    obtain ⟨w1, w2⟩ := plcF_at (pl := pl) (f := fa) s hj
    refine ⟨w1.trans (hp _ (by omega)), w2.trans (hp _ (by omega)), fun c c1 c2 => ?_⟩
    rw [plcF_low s (Or.inr (Or.inl (by omega)))]
    exact fx _ (by omega) (by omega)
  have g3 : plcF pl fa s 3 = nI s := (gl 3 (by decide)).trans f3
  have g4 : plcF pl fa s 4 = 0 := (gl 4 (by decide)).trans (fx 4 (by omega) (by omega))
  generalize plcF pl fa s = fb at gl gp g3 g4 ⊢
  have he : ∀ u t, BgR s pl rp (upd (upd fb 4 0) 5 0) s u t → ∃ r v, (fun u9 : Int32 × (Nat → Int32) => B_X5_hearPlaces_16 u9.1 u9.2) u = some (.inr r) ∧ (fun u9 : Int32 × (Nat → Int32) => B_X8_takeWatch_32 rp (nI s) u9.1 u9.2) t = some (.inr v) ∧ BgR s pl rp (upd (upd fb 4 0) 5 0) s (nI s, r) (nI s, v) := by
    intro u t q
    obtain ⟨x, p1⟩ := u
    obtain ⟨y, p2⟩ := t
    obtain ⟨e1, e2, q⟩ := q
    have e1 : x = nI s := e1
    have e2 : y = nI s := e2
    subst e1 e2
    have le : nI s ≤ nI s := (nI_leI (a := s) (b := s) (by omega) (by omega)).mpr (Nat.le_refl _)
    refine ⟨p1, p2, ?_, ?_, rfl, rfl, q⟩
    · show B_X5_hearPlaces_16 (nI s) p1 = _
      have p3 : p1 3 = nI s := by
        have := q.2.2.1 3 (by decide) (by decide) (by decide)
        rw [upd_ne (by decide), upd_ne (by decide)] at this
        exact this.trans g3
      unfold B_X5_hearPlaces_16 F_X5_sites
      rw [xb1, p3, if_pos le]
    · show B_X8_takeWatch_32 rp (nI s) (nI s) p2 = _
      unfold B_X8_takeWatch_32
      rw [if_pos le]
  have h0 : BgR s pl rp (upd (upd fb 4 0) 5 0) 0 ((0 : Int32), upd (upd fb 4 0) 5 0) ((0 : Int32), zrF g 265) := ⟨rfl, rfl, fun j c hj _ => absurd hj (Nat.not_lt_zero _), fun _ _ => rfl, fun _ _ _ _ => rfl, fun j c _ h8 hc => zrF_lt (by omega), fun k k1 k2 => zrF_lt k2, by show upd (upd fb 4 0) 5 0 4 = 0; rw [upd_ne (by decide), upd_at], by show upd (upd fb 4 0) 5 0 5 = 0; rw [upd_at], fun j hj => absurd hj (Nat.not_lt_zero _)⟩
  obtain ⟨fc, gc, l1, l2, -, -, a1, a2, a3, a4, a5, a6, a7, a8⟩ := lp_two (b := fun u9 : Int32 × (Nat → Int32) => B_X5_hearPlaces_16 u9.1 u9.2) (d := fun u9 : Int32 × (Nat → Int32) => B_X8_takeWatch_32 rp (nI s) u9.1 u9.2) (BgR s pl rp (upd (upd fb 4 0) 5 0)) (fun r v => BgR s pl rp (upd (upd fb 4 0) 5 0) s (nI s, r) (nI s, v)) (n := s) (K := K) (K' := K) (by omega) (by omega) (fun i u t hi q => Or.inl (BgR.step s8 (by rw [upd_ne (by decide), upd_ne (by decide)]; exact g3) hi (fun j hj => by
    rw [upd_ne (by omega), upd_ne (by omega), upd_ne (by omega), upd_ne (by omega)]
    refine ⟨(gp j hj).1, (gp j hj).2.1, fun c c1 c2 => ?_⟩
    rw [upd_ne (by omega), upd_ne (by omega)]
    exact (gp j hj).2.2 c c1 c2) q)) he h0
  have a1 : ∀ j c, j < s → c < 8 → fc (17 + 8 * j + c) = gc (8 * c + j) := a1
  have a3 : ∀ k, k < 17 → ¬ k = 4 → ¬ k = 5 → fc k = (upd (upd fb 4 0) 5 0) k := a3
  have a5 : ∀ k, 64 ≤ k → k < 265 → gc k = 0 := a5
  have a6 : fc 4 = sgm (fun k => gc (16 + k)) s := a6
  have a7 : fc 5 = sgm (fun k => gc (24 + k)) s := a7
  have a8 : ∀ j, j < s → gc (0 + j) = rp (2 * j) ∧ gc (8 + j) = rp (2 * j + 1) ∧ gc (48 + j) = 0 ∧ gc (56 + j) = 0 := a8
  have fc0 : ∀ k, k < 17 → ¬ k = 4 → ¬ k = 5 → fc k = fa k := fun k k1 k2 k3 => by rw [a3 k k1 k2 k3, upd_ne k3, upd_ne k2, gl k k1]
  unfold F_X5_hearPlaces
  rw [xnm, xnm, l1, xb1, l2, xb1, xb1]
  simp only [xnm]
  have z64 : (upd (upd (upd gc 64 la) 65 bo) 66 go) 64 = la := by rw [upd_ne (by decide), upd_ne (by decide), upd_at]
  have z65 : (upd (upd (upd gc 64 la) 65 bo) 66 go) 65 = bo := by rw [upd_ne (by decide), upd_at]
  have z66 : (upd (upd (upd gc 64 la) 65 bo) 66 go) 66 = go := upd_at
  have zz : ∀ k, ¬ k = 64 → ¬ k = 65 → ¬ k = 66 → (upd (upd (upd gc 64 la) 65 bo) 66 go) k = gc k := fun k k1 k2 k3 => by rw [upd_ne k3, upd_ne k2, upd_ne k1]
  generalize upd (upd (upd gc 64 la) 65 bo) 66 go = gd at z64 z65 z66 zz ⊢
  have zr : ∀ k, 67 ≤ k → k < 265 → gd k = 0 := fun k k1 k2 => (zz k (by omega) (by omega) (by omega)).trans (a5 k (by omega) k2)
  have B : RowB s fc gd := by
    refine ⟨s8, (fc0 3 (by decide) (by decide) (by decide)).trans f3, fun j c hj hc => ?_, fun p hq => ?_, ?_⟩
    · rw [zz _ (by omega) (by omega) (by omega)]
      exact a1 j c hj hc
    · obtain ⟨b1, b2, b3, b4, b5, b6, b7⟩ := rowScl_b p hq
      have u0 := rowScl_u p hq (0, 64) (by decide)
      have u1 := rowScl_u p hq (1, 65) (by decide)
      have u2 := rowScl_u p hq (2, 66) (by decide)
      rw [fc0 _ b1 b3 b4]
      by_cases c0 : p.1 = 0
      · rw [c0, show p.2 = 64 from u0.mp c0, f0, z64]
      by_cases c1 : p.1 = 1
      · rw [c1, show p.2 = 65 from u1.mp c1, f1, z65]
      by_cases c2 : p.1 = 2
      · rw [c2, show p.2 = 66 from u2.mp c2, f2, z66]
      have n64 : ¬ p.2 = 64 := fun z => c0 (u0.mpr z)
      have n65 : ¬ p.2 = 65 := fun z => c1 (u1.mpr z)
      have n66 : ¬ p.2 = 66 := fun z => c2 (u2.mpr z)
      rw [fx _ (by omega) (by omega), zr _ (by omega) (by omega)]
    · rw [fc0 7 (by decide) (by decide) (by decide), fx 7 (by omega) (by omega), row_frz_0 s (fun j hj => zr _ (by omega) (by omega))]
  obtain ⟨k3, hk3, ek3⟩ := in_nat (p := la) (n := 3) (by decide) hla
  obtain ⟨kg, hkg, ekg⟩ := in_nat (p := go) (n := 9999) (by decide) ⟨Int32.le_trans (by decide) hgo.1, hgo.2⟩
  have hkg1 : 1 ≤ kg := (nI_leI (a := 1) (b := kg) (by omega) (by omega)).mp (by rw [← ekg]; exact hgo.1)
  have G : RowG gd := ⟨⟨k3, by omega, z64.trans ek3⟩, Or.inl (zr 72 (by omega) (by omega))⟩
  have R : RowR s fc gd := by
    refine ⟨B, ?_, ?_⟩
    · rw [a6]
      exact sgm_eq s (fun k hk => (zz _ (by omega) (by omega) (by omega)).symm)
    · rw [a7]
      exact sgm_eq s (fun k hk => (zz _ (by omega) (by omega) (by omega)).symm)
  have e16 : F_X8_sum K (16 : Int32) gd (nI s) = some (fc 4) := by rw [R.sx]; exact bm_sum hK s8 (b := 16) (by decide)
  have e24 : F_X8_sum K (24 : Int32) gd (nI s) = some (fc 5) := by rw [R.sy]; exact bm_sum hK s8 (b := 24) (by decide)
  obtain ⟨v, ev, -⟩ := u_isAllowed (p1 := fc 4) (p2 := fc 5) (g := gd)
  rw [e16, xb1, e24, xb1, alw_both B G, ev, xb1, xb1]
  have fin : ∀ k0 : Int32, (k0 = 0 ∨ k0 = 1) → KRow s bk 0 (upd fc 6 k0) (upd gd 72 k0) := by
    intro k0 hk0
    refine ⟨R.scal (by decide) k0, ⟨⟨by rw [upd_ne (by decide)]; exact G.1, by rw [upd_at]; exact hk0⟩, fun _ => ⟨fun j hj => ?_, fun j hj => ?_, ?_⟩⟩, ?_, ⟨?_, fun e w he hw => ?_⟩, ?_⟩
    · rw [upd_ne (by omega), upd_ne (by omega), zz _ (by omega) (by omega) (by omega), zz _ (by omega) (by omega) (by omega), (a8 j hj).1, (a8 j hj).2.1]
      exact ⟨in999 (hrp _ (by omega)), in999 (hrp _ (by omega))⟩
    · rw [upd_ne (by omega)]
      exact Or.inl (zr _ (by omega) (by omega))
    · refine ⟨kg, 0, 0, hkg1, by omega, by rw [upd_ne (by decide), z66, ekg], by omega, by rw [upd_ne (by decide)]; exact zr 73 (by omega) (by omega), by omega, by rw [upd_ne (by decide)]; exact zr 75 (by omega) (by omega), fun j hj => ⟨0, by omega, ?_⟩, fun j hj => ⟨0, ?_, Or.inl rfl⟩⟩
      · rw [upd_ne (by omega), zz _ (by omega) (by omega) (by omega)]
        exact (a8 j hj).2.2.1
      · rw [upd_ne (by omega), zz _ (by omega) (by omega) (by omega)]
        exact (a8 j hj).2.2.2
    · rw [upd_ne (by decide), fc0 16 (by decide) (by decide) (by decide)]
      exact fx 16 (by omega) (by omega)
    · rw [upd_ne (by decide)]
      exact zr 84 (by omega) (by omega)
    · exact absurd he (Nat.not_lt_zero _)
    · rw [upd_ne (by decide), upd_ne (by decide), fc0 11 (by decide) (by decide) (by decide), zr 67 (by omega) (by omega)]
      exact fx 11 (by omega) (by omega)
  by_cases c : v = 0
  · rw [if_pos c, if_pos c]
    exact ⟨_, _, rfl, rfl, fin 1 (Or.inr rfl)⟩
  · rw [if_neg c, if_neg c]
    exact ⟨_, _, rfl, rfl, fin 0 (Or.inl rfl)⟩
end
-- 83c.23
section
/-! Stage B, 23: text, in both: a new watch, or all as it was -/
def TxB (row : Nat → Int32) (hh im : Int32) (g : Nat → Int32) (si ac hi : Int32) (bk row' : Nat → Int32) (hh' im' : Int32) (g' : Nat → Int32) (si' ac' hi' : Int32) : Prop := (row' = row ∧ hh' = hh ∧ im' = im ∧ g' = g ∧ si' = si ∧ ac' = ac ∧ hi' = hi) ∨ ∃ s, 2 ≤ s ∧ s ≤ 8 ∧ KRow s bk 0 row' g' ∧ hh' = 0 ∧ im' = 0 ∧ si' = nI s ∧ ac' = 0 ∧ hi' = 0
/-- the kinds of the steps that are kept -/
def KdS (k : Nat) (st co : Nat → Int32) : Prop := ∀ r, r < k → ∀ c, co r = nI c → c ≤ 12 → KdOK c (fun j => st (48 * r + j))
theorem KdS.keep {k c : Nat} {st co rs : Nat → Int32} (h : KdS k st co) (hk : k < 4) (hc : c ≤ 12) (hr : KdOK c rs) : KdS (k + 1) (va_cpy rs st 0 (48 * k) 48) (upd co k (nI c)) := by
  intro r hrk c' e hc' i hi
  by_cases q : r = k
  · rw [q, upd_at] at e
    have ec : c = c' := (nI_eq (a := c) (b := c') (by omega) (by omega)).mp e
    obtain ⟨κ, h1, h2⟩ := hr i (by omega)
    refine ⟨κ, h1, ?_⟩
    show va_cpy rs st 0 (48 * k) 48 (48 * r + 4 * i) = nI κ
    rw [q, pk_cpy_in (by omega) (by omega), show 0 + (48 * k + 4 * i - 48 * k) = 4 * i by omega]
    exact h2
  · rw [upd_ne q] at e
    obtain ⟨κ, h1, h2⟩ := h r (by omega) c' e hc' i hi
    refine ⟨κ, h1, ?_⟩
    show va_cpy rs st 0 (48 * k) 48 (48 * r + 4 * i) = nI κ
    rw [pk_cpy_out (by omega)]
    exact h2
theorem txB_both {K n k : Nat} {p : Int32} {bytes tape ru pl st rp sc lg sst sco row g bk : Nat → Int32} {c1 c2 c3 c4 c5 c6 c7 hh im m1 m2 m3 m4 m5 m7 m8 m9 m10 si ac hi : Int32} {m6 : Int64} (hK : 200000 ≤ K) (h : TR n bytes tape) (hk : k ≤ 4) (hs : SR k sst sco sc lg) (hq : SkOK sco (nI k)) (hkd : KdS k sst sco) :
    ∃ v tl' ru' pl' st' d1 d2 d3 d4 d5 d6 d7 sst' sco' hd' row' hh' im' tpd' e1 e2 e3 e4 e5 e6 e7 e8 e9 e10 rp' sc' lg' scs' g' si' ac' hi', F_X7_text K p bytes (nI n) ru pl st c1 c2 c3 c4 c5 c6 c7 sst sco (nI k) row hh im = some (v, tl', ru', pl', st', d1, d2, d3, d4, d5, d6, d7, sst', sco', hd', row', hh', im') ∧ F_X8_text K p tape (nI n) m1 m2 m3 m4 m5 m6 m7 m8 m9 m10 rp sc lg (nI k) g si ac hi = some (v, tpd', e1, e2, e3, e4, e5, e6, e7, e8, e9, e10, rp', sc', lg', scs', g', si', ac', hi') ∧ TxB row hh im g si ac hi bk row' hh' im' g' si' ac' hi' ∧ ∃ k', k' ≤ 4 ∧ hd' = nI k' ∧ KdS k' sst' sco' := by
  have hn := h.1
  have base : TxB row hh im g si ac hi bk row hh im g si ac hi := Or.inl ⟨rfl, rfl, rfl, rfl, rfl, rfl, rfl⟩
  by_cases q0 : p = 0
  · obtain ⟨r, ru', pl', s', st', m', ac', ws', nu', f', am', pa', fr', pn', wr', pw', la', bo', go', rs', rp', E1, E2, hr⟩ := rw_both (K := K) (ru := ru) (pl := pl) (rp := rp) (c1 := c1) (c2 := c2) (c3 := c3) (c4 := c4) (c5 := c5) (c6 := c6) (c7 := c7) (m1 := m1) (m2 := m2) (m3 := m3) (m4 := m4) (m5 := m5) (m6 := m6) (m7 := m7) (m8 := m8) (m9 := m9) (m10 := m10) h.sg h.c h.m (by omega)
    unfold F_X7_text F_X8_text
    rw [if_pos q0, if_pos q0, E1, E2, xb10, xb12]
    by_cases q : r = -1
    · obtain ⟨s2, hs2, rfl, rfl, hrd⟩ := hr q
      obtain ⟨f', g', B1, T, K1⟩ := bg_both (f := row) (g := g) (bk := bk) (si := si) (ac := ac) (im := hi) hK hs2 hrd
      have B : F_X7_beginWatch K (nI n) ru' pl' (nI s2) row hh im = some (nI s2, 0, f', 0, 0) := by
        unfold F_X7_beginWatch F_X2_forget F_X5_sites
        rw [c_cut0 hn, B1, xb1, xb1, xb2, xb1, K1.1.sz]
      rw [if_pos q, if_pos q, B, T, xb5, xb5]
      exact ⟨_, _, _, _, _, _, _, _, _, _, _, _, _, _, _, _, _, _, _, _, _, _, _, _, _, _, _, _, _, _, _, _, _, _, _, _, _, rfl, rfl, Or.inr ⟨s2, hs2, hrd.1, K1, rfl, rfl, rfl, rfl, rfl⟩, k, hk, rfl, hkd⟩
    · have p1 : ¬ p = 1 := by rw [q0]; decide
      unfold J_X7_text_20 J_X8_text_22
      rw [if_neg q, if_neg q, if_neg p1, if_neg p1]
      exact ⟨_, _, _, _, _, _, _, _, _, _, _, _, _, _, _, _, _, _, _, _, _, _, _, _, _, _, _, _, _, _, _, _, _, _, _, _, _, rfl, rfl, base, k, hk, rfl, hkd⟩
  · unfold F_X7_text F_X8_text
    rw [if_neg q0, if_neg q0]
    unfold J_X7_text_20 J_X8_text_22
    by_cases q1 : p = 1
    · rw [if_pos q1, if_pos q1, c_full hk, xb1]
      by_cases q4 : k < 4
      · rw [if_pos q4, if_pos rfl, if_neg (show ¬ (4 : Int32) ≤ nI k from mt (nI_leI (a := 4) (b := k) (by omega) (by omega)).mp (by omega))]
        obtain ⟨r, ru', st', s', cn', m', ac', ws', nu', f', am', pa', fr', pn', wr', pw', sc', lg', E1, E2, hr, k1, k2⟩ := rs_both (K := K) (p := k) (ru := ru) (st := st) (sc := sc) (lg := lg) (c1 := c1) (c2 := c2) (c3 := c3) (c4 := c4) (c5 := c5) (c6 := c6) (c7 := c7) (m1 := m1) (m2 := m2) (m3 := m3) (m4 := m4) (m5 := m5) (m6 := m6) h.sg h.c h.m (by omega) hk
        rw [E1, E2, xb10, xb9]
        by_cases q : r = -1
        · obtain ⟨c, hc1, hc2, rfl, e2, e3, e4⟩ := hr q
          unfold F_X7_keepScript
          rw [if_pos q, if_pos q, c_keep q4, xb3, c_cut0 hn, xb2, xb5, nI_1]
          exact ⟨_, _, _, _, _, _, _, _, _, _, _, _, _, _, _, _, _, _, _, _, _, _, _, _, _, _, _, _, _, _, _, _, _, _, _, _, _, rfl, rfl, base, k + 1, by omega, rfl, hkd.keep q4 hc2 e4⟩
        · rw [if_neg q, if_neg q]
          exact ⟨_, _, _, _, _, _, _, _, _, _, _, _, _, _, _, _, _, _, _, _, _, _, _, _, _, _, _, _, _, _, _, _, _, _, _, _, _, rfl, rfl, base, k, hk, rfl, hkd⟩
      · rw [if_neg q4, if_neg (by decide), if_pos (show (4 : Int32) ≤ nI k from (nI_leI (a := 4) (b := k) (by omega) (by omega)).mpr (by omega))]
        exact ⟨_, _, _, _, _, _, _, _, _, _, _, _, _, _, _, _, _, _, _, _, _, _, _, _, _, _, _, _, _, _, _, _, _, _, _, _, _, rfl, rfl, base, k, hk, rfl, hkd⟩
    · rw [if_neg q1, if_neg q1]
      exact ⟨_, _, _, _, _, _, _, _, _, _, _, _, _, _, _, _, _, _, _, _, _, _, _, _, _, _, _, _, _, _, _, _, _, _, _, _, _, rfl, rfl, base, k, hk, rfl, hkd⟩
end
-- 83c.24
section
/-! Stage B, 24: acts of a script, in both -/
/-- an act that is tried: not by hand -/
theorem a0_both {n a hd nx K s : Nat} {f g bk hr kp rf P A sh lo sx sy : Nat → Int32} {S x y z ac oc as ou tk : Int32} (eS : S = nI s) (hs : s ≤ 6) (hK : 200000 ≤ K) (ha : a < 2 ^ 29) (h : ActR n a hd nx f g bk hr kp) : ∃ w, F_X8_whyNot K S x y z g (nI n) = some w ∧ ((¬ w = -1 ∧ F_X7_act K S x y z 0 f P ac oc sh lo bk hr (nI nx) (nI hd) rf = some (-1, f, P, ac, oc, sh, lo, bk, hr, nI nx, nI hd, rf)) ∨ (w = -1 ∧ ∃ (r v ac' oc' as' ou' : Int32) (hd' nx' : Nat) (f' g' bk' hr' kp' P' A' sh' lo' sx' sy' : Nat → Int32), ¬ r = -1 ∧ F_X7_act K S x y z 0 f P ac oc sh lo bk hr (nI nx) (nI hd) rf = some (r, f', P', ac', oc', sh', lo', bk', hr', nI nx', nI hd', rf) ∧ F_X8_act K S x y z g (nI n) sx sy as ou A tk kp (nI hd) = some (v, g', sx', sy', as', ou', A', r, kp', nI hd') ∧ ActR n (a + 1) hd' nx' f' g' bk' hr' kp')) := by
  obtain ⟨w, e1, e2, e3, e4⟩ := rf_both (a := x) (b := y) (c := z) eS hs hK h.1.1 h.1.2.1.x
  refine ⟨w, e2, ?_⟩
  by_cases c : w = -1
  · rw [c] at e1
    obtain ⟨r, v, ac1, oc1, as1, ou1, hd1, nx1, f1, g1, bk1, hr1, kp1, P1, A1, sh1, lo1, sx1, sy1, d1, d2, d3, ⟨m, hm, d4⟩, -⟩ := at_both (rf := rf) (P := P) (A := A) (sh := sh) (lo := lo) (sx := sx) (sy := sy) (h5 := 0) (ac := ac) (oc := oc) (as := as) (ou := ou) (tk := tk) eS hs hK ha h e1 (e4 c)
    exact Or.inr ⟨c, r, v, ac1, oc1, as1, ou1, hd1, nx1, f1, g1, bk1, hr1, kp1, P1, A1, sh1, lo1, sx1, sy1, by rw [d4]; exact nI_ne_m1 (by omega), d1, d2, d3⟩
  · refine Or.inl ⟨c, ?_⟩
    unfold F_X7_act
    rw [e1, xb1, if_neg c, if_pos rfl]
theorem sort_both : ∀ k, k < 7 → ∃ s, s ≤ 6 ∧ sosF k = nI s ∧ F_X8_actOf (nI k) = some (nI s) := by
  intro k hk
  rcases (show k = 0 ∨ k = 1 ∨ k = 2 ∨ k = 3 ∨ k = 4 ∨ k = 5 ∨ k = 6 by omega) with rfl | rfl | rfl | rfl | rfl | rfl | rfl
  · exact ⟨0, by decide, by decide, by decide⟩
  · exact ⟨4, by decide, by decide, by decide⟩
  · exact ⟨2, by decide, by decide, by decide⟩
  · exact ⟨3, by decide, by decide, by decide⟩
  · exact ⟨1, by decide, by decide, by decide⟩
  · exact ⟨5, by decide, by decide, by decide⟩
  · exact ⟨6, by decide, by decide, by decide⟩
theorem c_has4 {k r : Nat} (hk : k ≤ 4) (hr : r < k) : F_X4_has (nI r) (nI k) = some 1 := by
  unfold F_X4_has
  rw [if_neg (nn0 (by omega)), if_neg (mt (nI_leI (a := k) (b := r) (by omega) (by omega)).mp (by omega)), if_neg (show ¬ (4 : Int32) ≤ nI r from mt (nI_leI (a := 4) (b := r) (by omega) (by omega)).mp (by omega))]
theorem c_stepsOf {k r c : Nat} {co : Nat → Int32} (hk : k ≤ 4) (hr : r < k) (e : co r = nI c) : F_X4_stepsOf (nI r) co (nI k) = some (nI c) := by
  unfold F_X4_stepsOf
  rw [c_has4 hk hr, xb1, if_neg (by decide), xixn (by omega) (by decide), nI_clamp (by omega), e]
theorem c_read4 {k r c i w : Nat} {W : Int32} {st co : Nat → Int32} (eW : W = nI w) (hk : k ≤ 4) (hr : r < k) (e : co r = nI c) (hc : c ≤ 12) (hi : i < c) (hw : w < 4) : F_X4_read (nI r) (nI i) W st co (nI k) = some (st (48 * r + 4 * i + w)) := by
  have e1 : ((nI r * (48 : Int32)) + (nI i * (4 : Int32))) + nI w = nI (48 * r + 4 * i + w) := by rw [show (48 : Int32) = nI 48 from rfl, show (4 : Int32) = nI 4 from rfl, nI_mul, nI_mul, nI_add, nI_add, Nat.mul_comm r 48, Nat.mul_comm i 4]
  unfold F_X4_read
  rw [eW, if_neg (nn0 (by omega)), c_stepsOf hk hr e, xb1, if_neg (mt (nI_leI (a := c) (b := i) (by omega) (by omega)).mp (by omega)), if_neg (nn0 (by omega)), if_pos (show nI w < (4 : Int32) from (nI_ltI (a := w) (b := 4) (by omega) (by omega)).mpr hw), e1, xixn (by omega) (by decide), nI_clamp (by omega)]
/-- a step of a script, as both read it -/
theorem sp_both {k r c i : Nat} {st co sc lg : Nat → Int32} (hk : k ≤ 4) (hr : r < k) (h : SR k st co sc lg) (hkd : KdS k st co) (e : co r = nI c) (hc : c ≤ 12) (hi : i < c) : ∃ s, s ≤ 6 ∧ F_X4_sortOf (nI r) (nI i) st co (nI k) = some (nI s) ∧ F_X8_actOf (sc (48 * r + 4 * i)) = some (nI s) ∧ F_X4_read (nI r) (nI i) 1 st co (nI k) = some (sc (48 * r + 4 * i + 1)) ∧ F_X4_read (nI r) (nI i) 2 st co (nI k) = some (sc (48 * r + 4 * i + 2)) ∧ F_X4_read (nI r) (nI i) 3 st co (nI k) = some (sc (48 * r + 4 * i + 3)) := by
  obtain ⟨c', c1, c2, c3, c4, c5⟩ := h r hr
  have ec : c = c' := (nI_eq (a := c) (b := c') (by omega) (by omega)).mp (e.symm.trans c3)
  obtain ⟨κ, k7, ek⟩ := hkd r hr c e hc i hi
  have ek : st (48 * r + 4 * i) = nI κ := ek
  obtain ⟨s, s6, s1, s2⟩ := sort_both κ k7
  have q : ∀ w, w < 4 → st (48 * r + 4 * i + w) = sc (48 * r + 4 * i + w) := fun w hw => by
    have := c5 (4 * i + w) (by omega)
    rw [← Nat.add_assoc] at this
    exact this
  have q0 : st (48 * r + 4 * i) = sc (48 * r + 4 * i) := q 0 (by decide)
  refine ⟨s, s6, ?_, ?_, ?_, ?_, ?_⟩
  · unfold F_X4_sortOf
    rw [c_read4 (w := 0) (by rfl) hk hr e hc hi (by decide), xb1, Nat.add_zero, ek, if_neg (nn0 (by omega)), if_neg (show ¬ (7 : Int32) ≤ nI κ from mt (nI_leI (a := 7) (b := κ) (by omega) (by omega)).mp (by omega)), xixn (by omega) (by decide), nI_clamp (by omega), s1]
  · rw [← q0, ek, s2]
  · rw [c_read4 (w := 1) (by rfl) hk hr e hc hi (by decide), q 1 (by decide)]
  · rw [c_read4 (w := 2) (by rfl) hk hr e hc hi (by decide), q 2 (by decide)]
  · rw [c_read4 (w := 3) (by rfl) hk hr e hc hi (by decide), q 3 (by decide)]
theorem i_sc {r i : Nat} : (4 : Int32) * (((12 : Int32) * nI r) + nI i) = nI (48 * r + 4 * i) := by
  rw [show (4 : Int32) = nI 4 from rfl, show (12 : Int32) = nI 12 from rfl, nI_mul, nI_add, nI_mul]
  congr 1
  omega
abbrev PfX : Type := Int32 × (Nat → Int32) × (Nat → Int32) × Int32 × Int32 × (Nat → Int32) × (Nat → Int32) × (Nat → Int32) × (Nat → Int32) × Int32 × Int32 × (Nat → Int32)
abbrev PfM : Type := Int32 × (Nat → Int32) × (Nat → Int32) × (Nat → Int32) × Int32 × Int32 × (Nat → Int32) × Int32 × (Nat → Int32) × Int32
def PfR (n a c : Nat) (rf : Nat → Int32) (i : Nat) (s : PfX) (t : PfM) : Prop := ∃ (ac oc as ou tk : Int32) (a' hd nx : Nat) (f g bk hr kp P A sh lo sx sy : Nat → Int32), s = (nI i, f, P, ac, oc, sh, lo, bk, hr, nI nx, nI hd, rf) ∧ t = (nI i, g, sx, sy, as, ou, A, tk, kp, nI hd) ∧ ActR n a' hd nx f g bk hr kp ∧ a' ≤ a + i ∧ i ≤ c
def PfQ (n a c : Nat) (rf : Nat → Int32) (s : Nat × PfX) (t : Nat × PfM) : Prop := ∃ i, s.1 = t.1 ∧ (s.1 = 0 ∨ (s.1 = 1 ∧ i = c)) ∧ PfR n a c rf i s.2 t.2
theorem PfR.step {n a k r c i K : Nat} {rf st co sc lg : Nat → Int32} {s : PfX} {t : PfM} (hK : 200000 ≤ K) (ha : a + 20 < 2 ^ 29) (hk : k ≤ 4) (hr : r < k) (hS : SR k st co sc lg) (hkd : KdS k st co) (e : co r = nI c) (el : lg r = nI c) (hc : c ≤ 12) (q : PfR n a c rf i s t) : (i < c ∧ ∃ s' t', B_X7_perform_34 K (nI r) (nI k) st co (nI c) s.1 s.2.1 s.2.2.1 s.2.2.2.1 s.2.2.2.2.1 s.2.2.2.2.2.1 s.2.2.2.2.2.2.1 s.2.2.2.2.2.2.2.1 s.2.2.2.2.2.2.2.2.1 s.2.2.2.2.2.2.2.2.2.1 s.2.2.2.2.2.2.2.2.2.2.1 s.2.2.2.2.2.2.2.2.2.2.2 = some (.inl s') ∧ B_X8_goSteps_2 K (nI r) 1 (nI n) sc lg t.1 t.2.1 t.2.2.1 t.2.2.2.1 t.2.2.2.2.1 t.2.2.2.2.2.1 t.2.2.2.2.2.2.1 t.2.2.2.2.2.2.2.1 t.2.2.2.2.2.2.2.2.1 t.2.2.2.2.2.2.2.2.2 = some (.inl t') ∧ PfR n a c rf (i + 1) s' t') ∨ (∃ r' u', B_X7_perform_34 K (nI r) (nI k) st co (nI c) s.1 s.2.1 s.2.2.1 s.2.2.2.1 s.2.2.2.2.1 s.2.2.2.2.2.1 s.2.2.2.2.2.2.1 s.2.2.2.2.2.2.2.1 s.2.2.2.2.2.2.2.2.1 s.2.2.2.2.2.2.2.2.2.1 s.2.2.2.2.2.2.2.2.2.2.1 s.2.2.2.2.2.2.2.2.2.2.2 = some (.inr r') ∧ B_X8_goSteps_2 K (nI r) 1 (nI n) sc lg t.1 t.2.1 t.2.2.1 t.2.2.2.1 t.2.2.2.2.1 t.2.2.2.2.2.1 t.2.2.2.2.2.2.1 t.2.2.2.2.2.2.2.1 t.2.2.2.2.2.2.2.2.1 t.2.2.2.2.2.2.2.2.2 = some (.inr u') ∧ PfQ n a c rf r' u') := by
  obtain ⟨ac, oc, as, ou, tk, a', hd, nx, f, g, bk, hr', kp, P, A, sh, lo, sx, sy, rfl, rfl, h, ha', hi⟩ := q
  by_cases z : i = c
  · refine Or.inr ⟨(1, nI i, f, P, ac, oc, sh, lo, bk, hr', nI nx, nI hd, rf), (1, nI i, g, sx, sy, as, ou, A, tk, kp, nI hd), ?_, ?_, i, rfl, Or.inr ⟨rfl, z⟩, ac, oc, as, ou, tk, a', hd, nx, f, g, bk, hr', kp, P, A, sh, lo, sx, sy, rfl, rfl, h, ha', hi⟩
    · show B_X7_perform_34 K (nI r) (nI k) st co (nI c) (nI i) f P ac oc sh lo bk hr' (nI nx) (nI hd) rf = _
      unfold B_X7_perform_34
      rw [if_pos ((nI_leI (a := c) (b := i) (by omega) (by omega)).mpr (by omega))]
    · show B_X8_goSteps_2 K (nI r) 1 (nI n) sc lg (nI i) g sx sy as ou A tk kp (nI hd) = _
      unfold B_X8_goSteps_2
      rw [xixn (by omega) (by decide), nI_clamp (by omega), el, if_pos ((nI_leI (a := c) (b := i) (by omega) (by omega)).mpr (by omega))]
  · have hic : i < c := by omega
    obtain ⟨s, s6, p0, p1, p2, p3, p4⟩ := sp_both hk hr hS hkd e hc hic
    obtain ⟨w, e2, q⟩ := a0_both (s := s) (S := nI s) (x := sc (48 * r + 4 * i + 1)) (y := sc (48 * r + 4 * i + 2)) (z := sc (48 * r + 4 * i + 3)) (rf := rf) (P := P) (A := A) (sh := sh) (lo := lo) (sx := sx) (sy := sy) (ac := ac) (oc := oc) (as := as) (ou := ou) (tk := tk) rfl s6 hK (show a' < 2 ^ 29 by omega) h
    have C : B_X7_perform_34 K (nI r) (nI k) st co (nI c) (nI i) f P ac oc sh lo bk hr' (nI nx) (nI hd) rf = bd12 (F_X7_act K (nI s) (sc (48 * r + 4 * i + 1)) (sc (48 * r + 4 * i + 2)) (sc (48 * r + 4 * i + 3)) 0 f P ac oc sh lo bk hr' (nI nx) (nI hd) rf) (fun r_20 w_21 w_22 w_23 w_24 w_25 w_26 w_27 w_28 w_29 w_30 w_31 => if r_20 = (-1 : Int32) then some (.inr (0, nI i, w_21, w_22, w_23, w_24, w_25, w_26, w_27, w_28, w_29, w_30, w_31)) else some (.inl (nI i + (1 : Int32), w_21, w_22, w_23, w_24, w_25, w_26, w_27, w_28, w_29, w_30, w_31))) := by
      unfold B_X7_perform_34
      rw [if_neg (mt (nI_leI (a := c) (b := i) (by omega) (by omega)).mp (by omega)), p0, xb1, p2, xb1, p3, xb1, p4, xb1]
    have i1 : nI (48 * r + 4 * i) + (1 : Int32) = nI (48 * r + 4 * i + 1) := nI_1 _
    have i2 : nI (48 * r + 4 * i) + (2 : Int32) = nI (48 * r + 4 * i + 2) := nI_add _ 2
    have i3 : nI (48 * r + 4 * i) + (3 : Int32) = nI (48 * r + 4 * i + 3) := nI_add _ 3
    have M : B_X8_goSteps_2 K (nI r) 1 (nI n) sc lg (nI i) g sx sy as ou A tk kp (nI hd) = bd1 (F_X8_whyNot K (nI s) (sc (48 * r + 4 * i + 1)) (sc (48 * r + 4 * i + 2)) (sc (48 * r + 4 * i + 3)) g (nI n)) (fun r_9 => if r_9 = (-1 : Int32) then bd10 (F_X8_act K (nI s) (sc (48 * r + 4 * i + 1)) (sc (48 * r + 4 * i + 2)) (sc (48 * r + 4 * i + 3)) g (nI n) sx sy as ou A tk kp (nI hd)) (fun r_28 w_29 w_30 w_31 w_32 w_33 w_34 w_35 w_36 w_37 => some (.inl (nI i + (1 : Int32), w_29, w_30, w_31, w_32, w_33, w_34, w_35, w_36, w_37))) else some (.inr (0, nI i, g, sx, sy, as, ou, A, tk, kp, nI hd))) := by
      unfold B_X8_goSteps_2
      rw [xixn (show r < 5 by omega) (by decide), nI_clamp (show r < 2 ^ 31 by omega), el, if_neg (mt (nI_leI (a := c) (b := i) (by omega) (by omega)).mp (by omega))]
      simp only [i_sc, i1, i2, i3, xixn (show 48 * r + 4 * i < 240 by omega) (by decide), xixn (show 48 * r + 4 * i + 1 < 240 by omega) (by decide), xixn (show 48 * r + 4 * i + 2 < 240 by omega) (by decide), xixn (show 48 * r + 4 * i + 3 < 240 by omega) (by decide), nI_clamp (show 48 * r + 4 * i < 2 ^ 31 by omega), nI_clamp (show 48 * r + 4 * i + 1 < 2 ^ 31 by omega), nI_clamp (show 48 * r + 4 * i + 2 < 2 ^ 31 by omega), nI_clamp (show 48 * r + 4 * i + 3 < 2 ^ 31 by omega), p1, xb1, if_neg (show ¬ (1 : Int32) = 0 by decide)]
    rw [e2, xb1] at M
    rcases q with ⟨q1, q2⟩ | ⟨q1, r', v, ac1, oc1, as1, ou1, hd1, nx1, f1, g1, bk1, hr1, kp1, P1, A1, sh1, lo1, sx1, sy1, q2, q3, q4, q5⟩
    · rw [q2, xb12, if_pos rfl] at C
      rw [if_neg q1] at M
      exact Or.inr ⟨_, _, C, M, i, rfl, Or.inl rfl, ac, oc, as, ou, tk, a', hd, nx, f, g, bk, hr', kp, P, A, sh, lo, sx, sy, rfl, rfl, h, ha', hi⟩
    · rw [q3, xb12, if_neg q2, nI_1] at C
      rw [if_pos q1, q4, xb10, nI_1] at M
      exact Or.inl ⟨hic, _, _, C, M, _, _, _, _, _, _, _, _, _, _, _, _, _, _, _, _, _, _, _, rfl, rfl, q5, by omega, by omega⟩
/-- a script is performed -/
theorem p_perform {n a hd nx k K : Nat} {f g bk hr kp rf P A sh lo sx sy st co sc lg : Nat → Int32} {x ac oc as ou tk : Int32} (hK : 200000 ≤ K) (ha : a + 20 < 2 ^ 29) (hk : k ≤ 4) (hS : SR k st co sc lg) (hkd : KdS k st co) (h : ActR n a hd nx f g bk hr kp) : ∃ (v ac' oc' as' ou' tk' : Int32) (a' hd' nx' : Nat) (f' g' bk' hr' kp' P' A' sh' lo' sx' sy' : Nat → Int32), F_X7_perform K x st co (nI k) f P ac oc sh lo bk hr (nI nx) (nI hd) rf = some (v, f', P', ac', oc', sh', lo', bk', hr', nI nx', nI hd', rf) ∧ F_X8_perform K x sc lg (nI k) g (nI n) sx sy as ou A tk kp (nI hd) = some (v, g', sx', sy', as', ou', A', tk', kp', nI hd') ∧ ActR n a' hd' nx' f' g' bk' hr' kp' ∧ a' ≤ a + 12 := by
  have n8 := h.1.1.n8
  obtain ⟨s1, s2⟩ := sd_both n8 h.1.1.sz
  have eS : F_X8_isScript x (nI k) = some (if 0 ≤ x ∧ x ≤ nI k - 1 then 1 else 0) := by
    unfold F_X8_isScript
    rw [show (0 : Int64) = (0 : Int32).toInt64 from rfl, m_inI, xb1]
  unfold F_X7_perform F_X8_perform
  by_cases c : 0 ≤ x ∧ x ≤ nI k - 1
  · obtain ⟨r, hr', rfl⟩ := in_lt (by omega) c
    obtain ⟨l, l1, l2, l3, l4, l5⟩ := hS r hr'
    rw [eS, if_pos c, xb1, if_neg (show ¬ (1 : Int32) = 0 by decide), c_has4 hk hr', xb1, if_neg (show ¬ (1 : Int32) = 0 by decide), s1, s2, xb1, xb1]
    by_cases z : n = 0
    · rw [if_pos z, if_pos rfl]
      exact ⟨_, _, _, _, _, _, a, _, _, _, _, _, _, _, _, _, _, _, _, _, rfl, rfl, h, by omega⟩
    · rw [if_neg z, if_neg n10, if_neg n10, c_stepsOf hk hr' l3, xb1]
      unfold F_X8_goSteps
      have h0 : PfR n a l rf 0 ((0 : Int32), f, P, ac, oc, sh, lo, bk, hr, nI nx, nI hd, rf) ((0 : Int32), g, sx, sy, as, ou, A, tk, kp, nI hd) := ⟨_, _, _, _, _, a, hd, nx, _, _, _, _, _, _, _, _, _, _, _, rfl, rfl, h, by omega, by omega⟩
      obtain ⟨u, t, x1, x2, i, y1, y2, ac1, oc1, as1, ou1, tk1, a1, hd1, nx1, f1, g1, bk1, hr1, kp1, P1, A1, sh1, lo1, sx1, sy1, y3, y4, y5, y6, y7⟩ := lp_two (b := fun u9 : Int32 × (Nat → Int32) × (Nat → Int32) × Int32 × Int32 × (Nat → Int32) × (Nat → Int32) × (Nat → Int32) × (Nat → Int32) × Int32 × Int32 × (Nat → Int32) => B_X7_perform_34 K (nI r) (nI k) st co (nI l) u9.1 u9.2.1 u9.2.2.1 u9.2.2.2.1 u9.2.2.2.2.1 u9.2.2.2.2.2.1 u9.2.2.2.2.2.2.1 u9.2.2.2.2.2.2.2.1 u9.2.2.2.2.2.2.2.2.1 u9.2.2.2.2.2.2.2.2.2.1 u9.2.2.2.2.2.2.2.2.2.2.1 u9.2.2.2.2.2.2.2.2.2.2.2) (d := fun u9 : Int32 × (Nat → Int32) × (Nat → Int32) × (Nat → Int32) × Int32 × Int32 × (Nat → Int32) × Int32 × (Nat → Int32) × Int32 => B_X8_goSteps_2 K (nI r) 1 (nI n) sc lg u9.1 u9.2.1 u9.2.2.1 u9.2.2.2.1 u9.2.2.2.2.1 u9.2.2.2.2.2.1 u9.2.2.2.2.2.2.1 u9.2.2.2.2.2.2.2.1 u9.2.2.2.2.2.2.2.2.1 u9.2.2.2.2.2.2.2.2.2) (PfR n a l rf) (PfQ n a l rf) (n := l) (K := K) (K' := K) (by omega) (by omega) (fun i s t hi q => (PfR.step hK ha hk hr' hS hkd l3 l4 l2 q).imp (fun w => w.2) id) (fun s t q => (PfR.step hK ha hk hr' hS hkd l3 l4 l2 q).elim (fun w => absurd w.1 (Nat.lt_irrefl _)) id) h0
      obtain ⟨t1, u2⟩ := u
      obtain ⟨t2, t3⟩ := t
      have y1 : t1 = t2 := y1
      have y3 : u2 = _ := y3
      have y4 : t3 = _ := y4
      subst y1 y3 y4
      have y2 : t1 = 0 ∨ (t1 = 1 ∧ i = l) := y2
      rw [x1, x2]
      rcases y2 with y2 | ⟨y2, y8⟩
      · rw [y2]
        exact ⟨_, _, _, _, _, _, a1, _, _, _, _, _, _, _, _, _, _, _, _, _, rfl, rfl, y5, by omega⟩
      · rw [y2]
        refine ⟨nI l, ac1, oc1, as1, ou1, tk1, a1, hd1, nx1, f1, g1, bk1, hr1, kp1, P1, A1, sh1, lo1, sx1, sy1, rfl, ?_, y5, by omega⟩
        rw [xb11, if_neg (show ¬ (1 : Nat) = 0 by decide), if_pos rfl, xixn (by omega) (by decide), nI_clamp (by omega), l4]
        rfl
  · have c7 : F_X4_has x (nI k) = some 0 := by
      unfold F_X4_has
      by_cases b1 : x < 0
      · rw [if_pos b1]
      · rw [if_neg b1, if_pos]
        refine Decidable.byContradiction (fun b2 => ?_)
        obtain ⟨w, hw, rfl⟩ := nnI (n := k) (by omega) b1 b2
        apply c
        rw [show nI k - (1 : Int32) = nI (k - 1) from xsub (b := 1) (by omega)]
        exact ⟨nI_nn (by omega), (nI_leI (a := w) (b := k - 1) (by omega) (by omega)).mpr (by omega)⟩
    rw [eS, if_neg c, xb1, if_pos rfl, c7, xb1, if_pos rfl]
    exact ⟨_, _, _, _, _, _, a, _, _, _, _, _, _, _, _, _, _, _, _, _, rfl, rfl, h, by omega⟩
end
