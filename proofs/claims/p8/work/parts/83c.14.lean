/-! Stage B, 14: why an act can't be, in both -/
/-- what a row of n sites may hold -/
abbrev inR (v : Int32) : Prop := (-99999 : Int32) ≤ v ∧ v ≤ (99999 : Int32)
abbrev RowX (n : Nat) (g : Nat → Int32) : Prop := ∀ j, j < n → inR (g (0 + j)) ∧ inR (g (8 + j))
abbrev RowF (n : Nat) (g : Nat → Int32) : Prop := ∀ j, j < n → g (76 + j) = 0 ∨ g (76 + j) = 1
theorem inR_int {v : Int32} (h : inR v) : -99999 ≤ v.toInt ∧ v.toInt ≤ 99999 := by
  have h1 := Int32.le_iff_toInt_le.mp h.1
  have h2 := Int32.le_iff_toInt_le.mp h.2
  have t1 : (-99999 : Int32).toInt = -99999 := by decide
  have t2 : (99999 : Int32).toInt = 99999 := by decide
  rw [t1] at h1
  rw [t2] at h2
  exact ⟨h1, h2⟩
theorem inR_add {v x : Int32} (h : inR v) (hx : -3000000 ≤ x.toInt ∧ x.toInt ≤ 3000000) : (v + x).toInt = v.toInt + x.toInt := by
  obtain ⟨a, b⟩ := inR_int h
  rw [Int32.toInt_add]
  exact Int.bmod_eq_of_le (by omega) (by omega)
theorem ab_in {v : Int32} (h : -2147483648 < v.toInt) : (99999 : Int32) < absF v ↔ ¬ inR v := by
  have t1 : (-99999 : Int32).toInt = -99999 := by decide
  have t2 : (99999 : Int32).toInt = 99999 := by decide
  have t0 : (0 : Int32).toInt = 0 := by decide
  have a2 : v.toInt < 2 ^ 31 := Int32.toInt_lt v
  unfold inR absF
  by_cases c : 0 ≤ v
  · rw [if_pos c]
    simp only [Int32.le_iff_toInt_le, Int32.lt_iff_toInt_lt, t0, t1, t2] at c ⊢
    omega
  · rw [if_neg c]
    simp only [Int32.le_iff_toInt_le, Int32.lt_iff_toInt_lt, t0, t1, t2, Int32.toInt_sub] at c ⊢
    rw [Int.bmod_eq_of_le (by omega) (by omega)]
    omega
theorem rng_c {α : Type} {x lo hi : Int32} {A B : α} : (if x < lo then A else if hi < x then A else B) = if lo ≤ x ∧ x ≤ hi then B else A := by
  by_cases h1 : lo ≤ x
  · rw [if_neg (fun q => lt_not.mp q h1)]
    by_cases h2 : x ≤ hi
    · rw [if_neg (fun q => lt_not.mp q h2), if_pos ⟨h1, h2⟩]
    · rw [if_pos (lt_not.mpr h2), if_neg (fun q => h2 q.2)]
  · rw [if_pos (lt_not.mpr h1), if_neg (fun q => h1 q.1)]
theorem rng_d {α : Type} {x lo hi : Int32} {A B : α} : (if x < lo then A else if x ≤ hi then B else A) = if lo ≤ x ∧ x ≤ hi then B else A := by
  by_cases h1 : lo ≤ x
  · rw [if_neg (fun q => lt_not.mp q h1)]
    by_cases h2 : x ≤ hi
    · rw [if_pos h2, if_pos ⟨h1, h2⟩]
    · rw [if_neg h2, if_neg (fun q => h2 q.2)]
  · rw [if_pos (lt_not.mpr h1), if_neg (fun q => h1 q.1)]
/-- a place that may be moved by so much -/
abbrev in9 (v : Int32) : Prop := (-9999 : Int32) ≤ v ∧ v ≤ (9999 : Int32)
theorem in9_int {v : Int32} (h : in9 v) : -9999 ≤ v.toInt ∧ v.toInt ≤ 9999 := by
  have h1 := Int32.le_iff_toInt_le.mp h.1
  have h2 := Int32.le_iff_toInt_le.mp h.2
  have t1 : (-9999 : Int32).toInt = -9999 := by decide
  have t2 : (9999 : Int32).toInt = 9999 := by decide
  rw [t1] at h1
  rw [t2] at h2
  exact ⟨h1, h2⟩
theorem c_mov {x y : Int32} : F_X7_isMovable x y = some (if in9 x ∧ in9 y then 1 else 0) := by
  unfold F_X7_isMovable in9
  rw [rng_c, rng_c]
  by_cases a : (-9999 : Int32) ≤ x ∧ x ≤ (9999 : Int32)
  · rw [if_pos a]
    by_cases b : (-9999 : Int32) ≤ y ∧ y ≤ (9999 : Int32)
    · rw [if_pos b, if_pos ⟨a, b⟩]
    · rw [if_neg b, if_neg (fun z => b z.2)]
  · rw [if_neg a, if_neg (fun z => a z.1)]
theorem m_in9 {x : Int32} : F_X8_in x.toInt64 (-9999 : Int64) (9999 : Int64) = some (if in9 x then 1 else 0) := by
  rw [show (-9999 : Int64) = (-9999 : Int32).toInt64 by decide, show (9999 : Int64) = (9999 : Int32).toInt64 by decide, m_inI]
theorem m_inR {x : Int32} : F_X8_in x.toInt64 (-99999 : Int64) (99999 : Int64) = some (if inR x then 1 else 0) := by
  rw [show (-99999 : Int64) = (-99999 : Int32).toInt64 by decide, show (99999 : Int64) = (99999 : Int32).toInt64 by decide, m_inI]
theorem gm_site {n : Nat} {p : Int32} : F_X8_isSite p (nI n) = some (if 0 ≤ p ∧ p ≤ nI n - 1 then 1 else 0) := by
  unfold F_X8_isSite
  rw [show (0 : Int64) = (0 : Int32).toInt64 from rfl, m_inI, xb1]
/-- a site, or none, in both -/
theorem hs_both {n : Nat} {p : Int32} {f : Nat → Int32} (n8 : n ≤ 8) (h3 : f 3 = nI n) : (∃ i, i < n ∧ p = nI i ∧ F_X5_hasSite p f = some 1 ∧ F_X8_isSite p (nI n) = some 1) ∨ ((¬ ∃ i, i < n ∧ p = nI i) ∧ F_X5_hasSite p f = some 0 ∧ F_X8_isSite p (nI n) = some 0) := by
  by_cases a : 0 ≤ p ∧ p ≤ nI n - 1
  · obtain ⟨i, hi, rfl⟩ := in_lt (by omega) a
    exact Or.inl ⟨i, hi, rfl, cs_has n8 h3 hi, by rw [gm_site, if_pos a]⟩
  · have no : ¬ ∃ i, i < n ∧ p = nI i := by
      intro ⟨i, hi, e⟩
      apply a
      rw [e, show nI n - 1 = nI (n - 1) from xsub (b := 1) (by omega)]
      exact ⟨(nI_leI (a := 0) (b := i) (by omega) (by omega)).mpr (Nat.zero_le _), (nI_leI (a := i) (b := n - 1) (by omega) (by omega)).mpr (by omega)⟩
    refine Or.inr ⟨no, ?_, by rw [gm_site, if_neg a]⟩
    unfold F_X5_hasSite
    by_cases b : p < 0
    · rw [if_pos b]
    · rw [if_neg b, h3]
      by_cases c : nI n ≤ p
      · rw [if_pos c]
      · obtain ⟨i, hi, e⟩ := nnI (n := n) (by omega) b c
        exact absurd ⟨i, hi, e⟩ no
theorem sd_both {n : Nat} {f : Nat → Int32} (n8 : n ≤ 8) (h3 : f 3 = nI n) : F_X5_stands f = some (if n = 0 then 0 else 1) ∧ F_X8_isWatch (nI n) = some (if n = 0 then 0 else 1) := by
  unfold F_X5_stands F_X8_isWatch
  rw [h3]
  by_cases c : n = 0
  · rw [if_pos c, c, if_pos (by decide)]
    exact ⟨rfl, rfl⟩
  · rw [if_neg c, if_neg (nI_nle (by omega) (by omega))]
    exact ⟨rfl, rfl⟩
theorem c_room {n i : Nat} {f g : Nat → Int32} {x y : Int32} (h : RowR n f g) (hi : i < n) (h1 : -2147483648 < (g (0 + i) + x).toInt) (h2 : -2147483648 < (g (8 + i) + y).toInt) : F_X5_hasRoom (nI i) x y f = some (if inR (g (0 + i) + x) ∧ inR (g (8 + i) + y) then 1 else 0) := by
  have n8 := h.n8
  have e0 : f (17 + 8 * i + 0) = g (0 + i) := h.1.2.2.1 i 0 hi (by decide)
  have e1 : f (17 + 8 * i + 1) = g (8 + i) := h.1.2.2.1 i 1 hi (by decide)
  unfold F_X5_hasRoom
  rw [bx_of (c := 0) (by rfl) (by omega) (by decide), xb1, bx_of (c := 1) (by rfl) (by omega) (by decide), xb1, e0, e1]
  by_cases a : inR (g (0 + i) + x)
  · rw [if_neg (fun z => (ab_in h1).mp z a)]
    by_cases b : inR (g (8 + i) + y)
    · rw [if_neg (fun z => (ab_in h2).mp z b), if_pos ⟨a, b⟩]
    · rw [if_pos ((ab_in h2).mpr b), if_neg (fun z => b z.2)]
  · rw [if_pos ((ab_in h1).mpr a), if_neg (fun z => a z.1)]
theorem ite10 {α : Type} {c : Prop} {d : Decidable c} {d2 : Decidable ((@ite Int32 c d 1 0) = 0)} {A B : α} : (@ite α ((@ite Int32 c d 1 0) = 0) d2 A B) = @ite α c d B A := by
  by_cases h : c
  · rw [if_neg (show ¬ (@ite Int32 c d 1 0) = 0 by rw [if_pos h]; decide), if_pos h]
  · rw [if_pos (show (@ite Int32 c d 1 0) = 0 from if_neg h), if_neg h]
theorem n10 : ¬ (1 : Int32) = 0 := by decide
/-- why a move can't be -/
theorem mr_both {n : Nat} {f g : Nat → Int32} {p x y : Int32} (h : RowR n f g) (hX : RowX n g) : ∃ r, F_X5_moveRefusal p x y f = some r ∧ F_X8_whyMove p x y g (nI n) = some r ∧ R3 r ∧ (r = -1 → ∃ i, i < n ∧ p = nI i ∧ in9 x ∧ in9 y ∧ inR (g (0 + i) + x) ∧ inR (g (8 + i) + y) ∧ ¬ g (76 + i) = 1) := by
  have n8 := h.n8
  rcases hs_both (p := p) n8 h.sz with ⟨i, hi, rfl, c1, c2⟩ | ⟨-, c1, c2⟩
  · have j89 : J_X8_whyMove_89 (nI i) x y g = some 1 := by
      unfold J_X8_whyMove_89 J_X8_whyMove_90
      rw [if_pos rfl]
    have j90 : J_X8_whyMove_90 (nI i) x y g 1 = if x = 0 then if y = 0 then some 2 else if g (76 + i) = 1 then some 2 else some (-1) else if g (76 + i) = 1 then some 2 else some (-1) := by
      unfold J_X8_whyMove_90
      rw [if_neg n10, fz_m (by omega), xb1, ite10]
    have C : F_X5_moveRefusal (nI i) x y f = if in9 x ∧ in9 y then bd1 (F_X5_hasRoom (nI i) x y f) (fun r_9 => if r_9 = (0 : Int32) then some (1 : Int32) else if x = 0 then if y = 0 then some 2 else if g (76 + i) = 1 then some 2 else some (-1) else if g (76 + i) = 1 then some 2 else some (-1)) else some 1 := by
      unfold F_X5_moveRefusal
      rw [c1, xb1, if_neg n10, c_mov, xb1, ite10]
      simp only [fz_c h.1 hi, xb1, ite10]
    have M : F_X8_whyMove (nI i) x y g (nI n) = if in9 x then if in9 y then if inR (g (0 + i) + x) then if inR (g (8 + i) + y) then J_X8_whyMove_90 (nI i) x y g 1 else some 1 else some 1 else some 1 else some 1 := by
      unfold F_X8_whyMove
      rw [c2, xb1, if_neg n10, m_in9, xb1, ite10, m_in9, xb1, ite10, bm_ix (a := 0) (by rfl) (by omega), bm_cl (a := 0) (by rfl) (by omega), m_inR, xb1, ite10, bm_ix (a := 8) (by rfl) (by omega), bm_cl (a := 8) (by rfl) (by omega), m_inR, xb1, ite10, j89]
    rw [C, M, j90]
    by_cases a : in9 x
    · by_cases b : in9 y
      · have k1 : (g (0 + i) + x).toInt = (g (0 + i)).toInt + x.toInt := inR_add (hX i hi).1 (by have := in9_int a; omega)
        have k2 : (g (8 + i) + y).toInt = (g (8 + i)).toInt + y.toInt := inR_add (hX i hi).2 (by have := in9_int b; omega)
        have l1 := in9_int a
        have l2 := in9_int b
        have l3 := inR_int (hX i hi).1
        have l4 := inR_int (hX i hi).2
        rw [if_pos (show in9 x ∧ in9 y from ⟨a, b⟩), if_pos (show in9 x from a), if_pos (show in9 y from b), c_room h hi (by omega) (by omega), xb1, ite10]
        by_cases c : inR (g (0 + i) + x)
        · by_cases d : inR (g (8 + i) + y)
          · rw [if_pos (show inR (g (0 + i) + x) ∧ inR (g (8 + i) + y) from ⟨c, d⟩), if_pos (show inR (g (0 + i) + x) from c), if_pos (show inR (g (8 + i) + y) from d)]
            by_cases z : x = 0 ∧ y = 0
            · rw [if_pos z.1, if_pos z.2]
              exact ⟨2, rfl, rfl, r32, fun q => absurd q (by decide)⟩
            · have e : ∀ A B : Option Int32, (if x = 0 then (if y = 0 then A else B) else B) = B := fun A B => by
                by_cases z1 : x = 0
                · rw [if_pos z1, if_neg (fun z2 => z ⟨z1, z2⟩)]
                · rw [if_neg z1]
              rw [e]
              by_cases w : g (76 + i) = 1
              · rw [if_pos w]
                exact ⟨2, rfl, rfl, r32, fun q => absurd q (by decide)⟩
              · rw [if_neg w]
                exact ⟨-1, rfl, rfl, Or.inl rfl, fun _ => ⟨i, hi, rfl, a, b, c, d, w⟩⟩
          · rw [if_neg (show ¬ (inR (g (0 + i) + x) ∧ inR (g (8 + i) + y)) from fun z => d z.2), if_pos (show inR (g (0 + i) + x) from c), if_neg (show ¬ inR (g (8 + i) + y) from d)]
            exact ⟨1, rfl, rfl, r31, fun q => absurd q (by decide)⟩
        · rw [if_neg (show ¬ (inR (g (0 + i) + x) ∧ inR (g (8 + i) + y)) from fun z => c z.1), if_neg (show ¬ inR (g (0 + i) + x) from c)]
          exact ⟨1, rfl, rfl, r31, fun q => absurd q (by decide)⟩
      · rw [if_neg (show ¬ (in9 x ∧ in9 y) from fun z => b z.2), if_pos (show in9 x from a), if_neg (show ¬ in9 y from b)]
        exact ⟨1, rfl, rfl, r31, fun q => absurd q (by decide)⟩
    · rw [if_neg (show ¬ (in9 x ∧ in9 y) from fun z => a z.1), if_neg (show ¬ in9 x from a)]
      exact ⟨1, rfl, rfl, r31, fun q => absurd q (by decide)⟩
  · unfold F_X5_moveRefusal F_X8_whyMove
    rw [c1, c2, xb1, xb1, if_pos rfl, if_pos rfl]
    exact ⟨0, rfl, rfl, r30, fun q => absurd q (by decide)⟩
/-- why something can't be set -/
theorem sr_both {n : Nat} {p lo hi is : Int32} (n8 : n ≤ 8) (h0 : 0 < n) : ∃ r, F_X5_setRefusal p lo hi is = some r ∧ F_X8_whySet p lo hi is (nI n) = some r ∧ R3 r ∧ (r = -1 → lo ≤ p ∧ p ≤ hi) := by
  have w : F_X8_isWatch (nI n) = some 1 := by
    unfold F_X8_isWatch
    rw [if_neg (nI_nle h0 (by omega))]
  unfold F_X5_setRefusal F_X8_whySet
  rw [rng_d, w, xb1, if_neg (show ¬ (1 : Int32) = 0 by decide), m_inI, xb1]
  by_cases a : lo ≤ p ∧ p ≤ hi
  · rw [if_pos a, if_pos a, if_neg (show ¬ (1 : Int32) = 0 by decide)]
    by_cases b : p = is
    · rw [if_pos b]
      exact ⟨2, rfl, rfl, r32, fun q => absurd q (by decide)⟩
    · rw [if_neg b]
      exact ⟨-1, rfl, rfl, Or.inl rfl, fun _ => a⟩
  · rw [if_neg a, if_neg a, if_pos rfl]
    exact ⟨1, rfl, rfl, r31, fun q => absurd q (by decide)⟩
theorem re_both {n : Nat} {f g : Nat → Int32} (h : RowR n f g) : F_X5_isReached f = some (if g 73 < g 66 then 0 else 1) ∧ F_X8_isReached g = some (if g 73 < g 66 then 0 else 1) := by
  unfold F_X5_isReached F_X8_isReached
  rw [show f 8 = g 73 from h.1.2.2.2.1 (8, 73) (by decide), show f 2 = g 66 from h.1.2.2.2.1 (2, 66) (by decide)]
  by_cases c : g 73 < g 66
  · rw [if_pos c, if_pos c]
    exact ⟨rfl, rfl⟩
  · rw [if_neg c, if_neg c]
    exact ⟨rfl, rfl⟩
/-- why nothing can be added -/
theorem wa_both {n : Nat} {f g : Nat → Int32} {p k : Int32} (h : RowR n f g) : ∃ r, F_X5_addRefusal p k f = some r ∧ F_X8_whyAdd p k g (nI n) = some r ∧ R3 r ∧ (r = -1 → ∃ i, i < n ∧ p = nI i ∧ ((1 : Int32) ≤ k ∧ k ≤ (999 : Int32)) ∧ g (48 + i) + k ≤ (99999 : Int32) ∧ g 73 < g 66) := by
  have n8 := h.n8
  obtain ⟨r1, r2⟩ := re_both h
  rcases hs_both (p := p) n8 h.sz with ⟨i, hi, rfl, c1, c2⟩ | ⟨-, c1, c2⟩
  · have e6 : f (17 + 8 * i + 6) = g (48 + i) := h.1.2.2.1 i 6 hi (by decide)
    have ei : F_X8_in k.toInt64 (1 : Int64) (999 : Int64) = some (if (1 : Int32) ≤ k ∧ k ≤ (999 : Int32) then 1 else 0) := by
      rw [show (1 : Int64) = (1 : Int32).toInt64 from rfl, show (999 : Int64) = (999 : Int32).toInt64 by decide, m_inI]
    unfold F_X5_addRefusal F_X8_whyAdd
    rw [c1, c2, xb1, xb1, if_neg (show ¬ (1 : Int32) = 0 by decide), if_neg (show ¬ (1 : Int32) = 0 by decide), rng_c, ei, xb1, bx_of (c := 6) (by rfl) (by omega) (by decide), xb1, e6, bm_ix (a := 48) (by rfl) (by omega), bm_cl (a := 48) (by rfl) (by omega), r1, r2, xb1]
    by_cases a : (1 : Int32) ≤ k ∧ k ≤ (999 : Int32)
    · rw [if_pos a, if_pos a, if_neg (show ¬ (1 : Int32) = 0 by decide)]
      by_cases b : g (48 + i) + k ≤ (99999 : Int32)
      · rw [if_pos b]
        by_cases c : g 73 < g 66
        · rw [if_pos c, if_pos rfl]
          exact ⟨-1, rfl, rfl, Or.inl rfl, fun _ => ⟨i, hi, rfl, a, b, c⟩⟩
        · rw [if_neg c, if_neg (show ¬ (1 : Int32) = 0 by decide)]
          exact ⟨2, rfl, rfl, r32, fun q => absurd q (by decide)⟩
      · rw [if_neg b]
        exact ⟨1, rfl, rfl, r31, fun q => absurd q (by decide)⟩
    · rw [if_neg a, if_neg a, if_pos rfl]
      exact ⟨1, rfl, rfl, r31, fun q => absurd q (by decide)⟩
  · unfold F_X5_addRefusal F_X8_whyAdd
    rw [c1, c2, xb1, xb1, if_pos rfl, if_pos rfl]
    exact ⟨0, rfl, rfl, r30, fun q => absurd q (by decide)⟩
theorem m_frz {K n : Nat} {g : Nat → Int32} (hK : 200000 ≤ K) (n8 : n ≤ 8) : F_X8_frozenOnes K g (nI n) = some (nI (row_mk g n)) := by
  have h : lpF (fun u9 : Int32 × Int32 => B_X8_frozenOnes_4 (nI n) g u9.1 u9.2) K ((0 : Int32), (0 : Int32)) = some (row_frz g n) := by
    refine lp_for (fun j => (row_frz g j, nI j)) (n := n) (by omega) (fun j hj => ?_) ?_
    · show B_X8_frozenOnes_4 (nI n) g (row_frz g j) (nI j) = some (.inl (row_frz g j ||| (if g (76 + j) = 1 then (1 : Int32) <<< (nI j &&& 31) else 0), nI (j + 1)))
      unfold B_X8_frozenOnes_4
      rw [if_neg (mt (nI_leI (a := n) (b := j) (by omega) (by omega)).mp (by omega)), fz_m (by omega), xb1, nI_1]
      by_cases c : g (76 + j) = 1
      · rw [if_pos c, if_pos c, if_neg (by decide)]
      · rw [if_neg c, if_neg c, if_pos rfl]
    · show B_X8_frozenOnes_4 (nI n) g (row_frz g n) (nI n) = some (.inr (row_frz g n))
      unfold B_X8_frozenOnes_4
      rw [if_pos ((nI_leI (a := n) (b := n) (by omega) (by omega)).mpr (Nat.le_refl _))]
  unfold F_X8_frozenOnes
  rw [h, xb1, row_frz_mk n n8]
theorem frz_all : ∀ n, n < 9 → ∀ m, m < 2 ^ n → ∀ i, i < n → m / 2 ^ i % 2 = 0 → (nI m ||| ((1 : Int32) <<< (nI i &&& 31)) = ((1 : Int32) <<< (nI n &&& 31)) - 1 ↔ nI (bcn m 8) = nI n - 1) := by decide +kernel
/-- why one can't be frozen -/
theorem wf_both {n K : Nat} {f g : Nat → Int32} {p : Int32} (hK : 200000 ≤ K) (h : RowR n f g) : ∃ r, F_X5_freezeRefusal p f = some r ∧ F_X8_whyFreeze K p g (nI n) = some r ∧ R3 r ∧ (r = -1 → ∃ i, i < n ∧ p = nI i) := by
  have n8 := h.n8
  rcases hs_both (p := p) n8 h.sz with ⟨i, hi, rfl, c1, c2⟩ | ⟨-, c1, c2⟩
  · have lt : row_mk g n < 256 := Nat.lt_of_lt_of_le (row_mk_lt n) (Nat.pow_le_pow_right (by decide) n8)
    have fa := frz_all n (by omega) (row_mk g n) (row_mk_lt n) i hi
    rw [row_mk_at n n8 i hi] at fa
    unfold F_X5_freezeRefusal F_X8_whyFreeze
    rw [c1, c2, xb1, xb1, if_neg (show ¬ (1 : Int32) = 0 by decide), if_neg (show ¬ (1 : Int32) = 0 by decide), fz_c h.1 hi, xb1, fz_m (by omega), xb1, m_frz hK n8, xb1, bits_m hK lt, xb1, h.1.fr, h.sz, row_frz_mk n n8]
    by_cases c : g (76 + i) = 1
    · rw [if_pos c, if_neg (show ¬ (1 : Int32) = 0 by decide), if_neg (show ¬ (1 : Int32) = 0 by decide)]
      refine ⟨-1, ?_, rfl, Or.inl rfl, fun _ => ⟨i, hi, rfl⟩⟩
      split <;> rfl
    · rw [if_neg c] at fa
      have fb := fa rfl
      rw [if_neg c, if_pos rfl, if_pos rfl]
      by_cases d : nI (bcn (row_mk g n) 8) = nI n - 1
      · rw [if_pos (fb.mpr d), if_pos d]
        exact ⟨2, rfl, rfl, r32, fun q => absurd q (by decide)⟩
      · rw [if_neg (fun z => d (fb.mp z)), if_neg d]
        exact ⟨-1, rfl, rfl, Or.inl rfl, fun _ => ⟨i, hi, rfl⟩⟩
  · unfold F_X5_freezeRefusal F_X8_whyFreeze
    rw [c1, c2, xb1, xb1, if_pos rfl, if_pos rfl]
    exact ⟨0, rfl, rfl, r30, fun q => absurd q (by decide)⟩
/-- an act that can be -/
abbrev ActOk (n s : Nat) (a b c : Int32) (g : Nat → Int32) : Prop := 0 < n ∧ (s = 0 → ∃ i, i < n ∧ a = nI i ∧ in9 b ∧ in9 c ∧ inR (g (0 + i) + b) ∧ inR (g (8 + i) + c) ∧ ¬ g (76 + i) = 1) ∧ (s = 3 → (0 : Int32) ≤ a ∧ a ≤ (3 : Int32)) ∧ (s = 4 → ∃ i, i < n ∧ a = nI i ∧ ((1 : Int32) ≤ b ∧ b ≤ (999 : Int32)) ∧ g (48 + i) + b ≤ (99999 : Int32) ∧ g 73 < g 66) ∧ (s = 5 → (1 : Int32) ≤ a ∧ a ≤ (9999 : Int32)) ∧ (s = 6 → ∃ i, i < n ∧ a = nI i)
/-- why an act can't be -/
theorem rf_both {n K s : Nat} {f g : Nat → Int32} {S a b c : Int32} (eS : S = nI s) (hs : s ≤ 6) (hK : 200000 ≤ K) (h : RowR n f g) (hX : RowX n g) : ∃ r, F_X5_refusal S a b c f = some r ∧ F_X8_whyNot K S a b c g (nI n) = some r ∧ R3 r ∧ (r = -1 → ActOk n s a b c g) := by
  have n8 := h.n8
  obtain ⟨s1, s2⟩ := sd_both n8 h.sz
  have w0 : n = 0 → ∀ {x lo hi is : Int32}, F_X8_whySet x lo hi is (nI n) = some 0 := fun z x lo hi is => by
    unfold F_X8_whySet
    rw [s2, if_pos z, xb1, if_pos rfl]
  have nos : n = 0 → F_X8_isSite a (nI n) = some 0 := fun z => by
    rcases hs_both (p := a) n8 h.sz with ⟨i, hi, -⟩ | ⟨-, -, c2⟩
    · omega
    · exact c2
  unfold F_X5_refusal F_X8_whyNot
  rw [s1, xb1, eS]
  by_cases z : n = 0
  · rw [if_pos z, if_pos rfl]
    refine ⟨0, rfl, ?_, r30, fun q => absurd q (by decide)⟩
    rcases (show s = 0 ∨ s = 1 ∨ s = 2 ∨ s = 3 ∨ s = 4 ∨ s = 5 ∨ s = 6 by omega) with rfl | rfl | rfl | rfl | rfl | rfl | rfl
    · rw [if_pos (by decide)]
      unfold F_X8_whyMove
      rw [nos z, xb1, if_pos rfl, xb1]
    · rw [if_neg (by decide), if_pos (by decide), s2, if_pos z, xb1, if_pos rfl]
    · rw [if_neg (by decide), if_neg (by decide), if_pos (by decide), w0 z, xb1]
    · rw [if_neg (by decide), if_neg (by decide), if_neg (by decide), if_pos (by decide), w0 z, xb1]
    · rw [if_neg (by decide), if_neg (by decide), if_neg (by decide), if_neg (by decide), if_pos (by decide)]
      unfold F_X8_whyAdd
      rw [nos z, xb1, if_pos rfl, xb1]
    · rw [if_neg (by decide), if_neg (by decide), if_neg (by decide), if_neg (by decide), if_neg (by decide), if_pos (by decide), w0 z, xb1]
    · rw [if_neg (by decide), if_neg (by decide), if_neg (by decide), if_neg (by decide), if_neg (by decide), if_neg (by decide), if_pos (by decide)]
      unfold F_X8_whyFreeze
      rw [nos z, xb1, if_pos rfl, xb1]
  · rw [if_neg z, if_neg (show ¬ (1 : Int32) = 0 by decide)]
    have h0 : 0 < n := by omega
    rcases (show s = 0 ∨ s = 1 ∨ s = 2 ∨ s = 3 ∨ s = 4 ∨ s = 5 ∨ s = 6 by omega) with rfl | rfl | rfl | rfl | rfl | rfl | rfl
    · obtain ⟨r, e1, e2, e3, e4⟩ := mr_both (p := a) (x := b) (y := c) h hX
      rw [if_pos (by decide), if_pos (by decide), e1, e2]
      exact ⟨r, rfl, rfl, e3, fun q => ⟨h0, fun _ => e4 q, by omega, by omega, by omega, by omega⟩⟩
    · rw [if_neg (by decide), if_pos (by decide), if_neg (by decide), if_pos (by decide), s2, if_neg z, xb1, if_neg (show ¬ (1 : Int32) = 0 by decide)]
      exact ⟨-1, rfl, rfl, Or.inl rfl, fun _ => ⟨h0, by omega, by omega, by omega, by omega, by omega⟩⟩
    · obtain ⟨r, e1, e2, e3, e4⟩ := sr_both (p := a) (lo := (-9999999 : Int32)) (hi := (9999999 : Int32)) (is := g 65) n8 h0
      rw [if_neg (by decide), if_neg (by decide), if_pos (by decide), if_neg (by decide), if_neg (by decide), if_pos (by decide), show f 1 = g 65 from h.1.2.2.2.1 (1, 65) (by decide), e1, e2]
      exact ⟨r, rfl, rfl, e3, fun _ => ⟨h0, by omega, by omega, by omega, by omega, by omega⟩⟩
    · obtain ⟨r, e1, e2, e3, e4⟩ := sr_both (p := a) (lo := (0 : Int32)) (hi := (3 : Int32)) (is := g 64) n8 h0
      rw [if_neg (by decide), if_neg (by decide), if_neg (by decide), if_pos (by decide), if_neg (by decide), if_neg (by decide), if_neg (by decide), if_pos (by decide), show f 0 = g 64 from h.1.2.2.2.1 (0, 64) (by decide), e1, e2]
      exact ⟨r, rfl, rfl, e3, fun q => ⟨h0, by omega, fun _ => e4 q, by omega, by omega, by omega⟩⟩
    · obtain ⟨r, e1, e2, e3, e4⟩ := wa_both (p := a) (k := b) h
      rw [if_neg (by decide), if_neg (by decide), if_neg (by decide), if_neg (by decide), if_pos (by decide), if_neg (by decide), if_neg (by decide), if_neg (by decide), if_neg (by decide), if_pos (by decide), e1, e2]
      exact ⟨r, rfl, rfl, e3, fun q => ⟨h0, by omega, by omega, fun _ => e4 q, by omega, by omega⟩⟩
    · have w1 : F_X8_isWatch (nI n) = some 1 := by rw [s2, if_neg z]
      have M : F_X8_whySet a (1 : Int32) (9999 : Int32) (-1 : Int32) (nI n) = some (if (1 : Int32) ≤ a ∧ a ≤ (9999 : Int32) then -1 else 1) := by
        unfold F_X8_whySet
        rw [w1, xb1, if_neg n10, m_inI, xb1, ite10]
        by_cases k : (1 : Int32) ≤ a ∧ a ≤ (9999 : Int32)
        · have ne : ¬ a = -1 := fun e => absurd k.1 (by rw [e]; decide)
          rw [if_pos k, if_pos k, if_neg ne]
        · rw [if_neg k, if_neg k]
      rw [if_neg (by decide), if_neg (by decide), if_neg (by decide), if_neg (by decide), if_neg (by decide), if_pos (by decide), rng_d]
      refine ⟨if (1 : Int32) ≤ a ∧ a ≤ (9999 : Int32) then -1 else 1, ?_, ?_, ?_, ?_⟩
      · by_cases k : (1 : Int32) ≤ a ∧ a ≤ (9999 : Int32)
        · rw [if_pos k, if_pos k]
        · rw [if_neg k, if_neg k]
      · rw [if_neg (by decide), if_neg (by decide), if_neg (by decide), if_neg (by decide), if_neg (by decide), if_pos (by decide), M, xb1]
      · by_cases k : (1 : Int32) ≤ a ∧ a ≤ (9999 : Int32)
        · rw [if_pos k]
          exact Or.inl rfl
        · rw [if_neg k]
          exact r31
      · intro q
        have k : (1 : Int32) ≤ a ∧ a ≤ (9999 : Int32) := Decidable.byContradiction (fun k => by
          rw [if_neg k] at q
          exact absurd q (by decide))
        exact ⟨h0, by omega, by omega, by omega, fun _ => k, by omega⟩
    · obtain ⟨r, e1, e2, e3, e4⟩ := wf_both (p := a) hK h
      rw [if_neg (by decide), if_neg (by decide), if_neg (by decide), if_neg (by decide), if_neg (by decide), if_neg (by decide), if_pos (by decide), if_neg (by decide), if_neg (by decide), if_neg (by decide), if_neg (by decide), if_neg (by decide), if_neg (by decide), if_pos (by decide), e1, e2]
      exact ⟨r, rfl, rfl, e3, fun q => ⟨h0, by omega, by omega, by omega, by omega, fun _ => e4 q⟩⟩
