/-! Stage B, 30: limits and partners, in both -/
theorem c_way {x y : Int32} : F_X7_isWay x y = some (if (in9 x ∧ in9 y) ∧ ¬ (x = 0 ∧ y = 0) then 1 else 0) := by
  unfold F_X7_isWay
  rw [c_mov, xb1, ite10]
  by_cases a : in9 x ∧ in9 y
  · rw [if_pos a]
    by_cases z1 : x = 0
    · rw [if_pos z1]
      by_cases z2 : y = 0
      · rw [if_pos z2, if_neg (show ¬ ((in9 x ∧ in9 y) ∧ ¬ (x = 0 ∧ y = 0)) from fun q => q.2 ⟨z1, z2⟩)]
      · rw [if_neg z2, if_pos (show (in9 x ∧ in9 y) ∧ ¬ (x = 0 ∧ y = 0) from ⟨a, fun q => z2 q.2⟩)]
    · rw [if_neg z1, if_pos (show (in9 x ∧ in9 y) ∧ ¬ (x = 0 ∧ y = 0) from ⟨a, fun q => z1 q.1⟩)]
  · rw [if_neg a, if_neg (show ¬ ((in9 x ∧ in9 y) ∧ ¬ (x = 0 ∧ y = 0)) from fun q => a q.1)]
theorem m_way {x y : Int32} : F_X8_isWay x y = some (if (in9 x ∧ in9 y) ∧ ¬ (x = 0 ∧ y = 0) then 1 else 0) := by
  unfold F_X8_isWay
  rw [m_in9, xb1, ite10, m_in9, xb1, ite10]
  by_cases a : in9 x
  · rw [if_pos (show in9 x from a)]
    by_cases b : in9 y
    · rw [if_pos (show in9 y from b)]
      by_cases z1 : x = 0
      · rw [if_pos z1]
        by_cases z2 : y = 0
        · rw [if_pos z2, if_neg (show ¬ ((in9 x ∧ in9 y) ∧ ¬ (x = 0 ∧ y = 0)) from fun q => q.2 ⟨z1, z2⟩)]
        · rw [if_neg z2, if_pos (show (in9 x ∧ in9 y) ∧ ¬ (x = 0 ∧ y = 0) from ⟨⟨a, b⟩, fun q => z2 q.2⟩)]
      · rw [if_neg z1, if_pos (show (in9 x ∧ in9 y) ∧ ¬ (x = 0 ∧ y = 0) from ⟨⟨a, b⟩, fun q => z1 q.1⟩)]
    · rw [if_neg (show ¬ in9 y from b), if_neg (show ¬ ((in9 x ∧ in9 y) ∧ ¬ (x = 0 ∧ y = 0)) from fun q => b q.1.2)]
  · rw [if_neg (show ¬ in9 x from a), if_neg (show ¬ ((in9 x ∧ in9 y) ∧ ¬ (x = 0 ∧ y = 0)) from fun q => a q.1.1)]
theorem m_stand {i : Nat} {g : Nat → Int32} (hi : i < 8) : F_X8_canStand (nI i) g = some (if inR (g (0 + i)) ∧ inR (g (8 + i)) then 1 else 0) := by
  unfold F_X8_canStand
  rw [bm_ix (a := 0) (by rfl) (by omega), bm_cl (a := 0) (by rfl) (by omega), m_inR, xb1, ite10, bm_ix (a := 8) (by rfl) (by omega), bm_cl (a := 8) (by rfl) (by omega), m_inR, xb1, ite10]
  by_cases a : inR (g (0 + i))
  · rw [if_pos (show inR (g (0 + i)) from a)]
    by_cases b : inR (g (8 + i))
    · rw [if_pos (show inR (g (8 + i)) from b), if_pos (show inR (g (0 + i)) ∧ inR (g (8 + i)) from ⟨a, b⟩)]
    · rw [if_neg (show ¬ inR (g (8 + i)) from b), if_neg (show ¬ (inR (g (0 + i)) ∧ inR (g (8 + i))) from fun q => b q.2)]
  · rw [if_neg (show ¬ inR (g (0 + i)) from a), if_neg (show ¬ (inR (g (0 + i)) ∧ inR (g (8 + i))) from fun q => a q.1)]
/-- quiet by a drift: what the places hold doesn't matter -/
theorem qb_cg {n K : Nat} {g g' : Nat → Int32} {p q : Int32} (hK : 200000 ≤ K) (n8 : n ≤ 8) (h : ∀ k, 16 ≤ k → g' k = g k) : F_X8_isQuietBy K p q g' (nI n) = F_X8_isQuietBy K p q g (nI n) := by
  have e16 : F_X8_sum K (16 : Int32) g' (nI n) = F_X8_sum K (16 : Int32) g (nI n) := by
    rw [show (16 : Int32) = nI 16 from rfl, bm_sum hK n8 (by decide), bm_sum hK n8 (by decide)]
    exact congrArg some (sgm_eq n (fun i hi => h _ (by omega)))
  have e24 : F_X8_sum K (24 : Int32) g' (nI n) = F_X8_sum K (24 : Int32) g (nI n) := by
    rw [show (24 : Int32) = nI 24 from rfl, bm_sum hK n8 (by decide), bm_sum hK n8 (by decide)]
    exact congrArg some (sgm_eq n (fun i hi => h _ (by omega)))
  unfold F_X8_isQuietBy F_X8_pointX F_X8_pointY F_X8_isAllowed F_X8_valueOf J_X8_valueOf_12 J_X8_valueOf_26
  rw [e16, e24]
  simp only [h 72 (by decide), h 64 (by decide), h 65 (by decide)]
theorem dsh {a b c d : Int32} : (a + b) - c + d = (a - c + d) + b := by
  rw [Int32.sub_eq_add_neg, Int32.sub_eq_add_neg, Int32.add_assoc a b, Int32.add_comm b, ← Int32.add_assoc a, Int32.add_assoc (a + -c), Int32.add_comm b, ← Int32.add_assoc (a + -c)]
/-- quiet, of one that stands so much farther -/
theorem iq_sh {n i K : Nat} {f g g' : Nat → Int32} {a b : Int32} (hK : 200000 ≤ K) (h : RowR n f g) (hg : RowG g) (hi : i < n) (fr : ∀ k, 16 ≤ k → g' k = g k) (hx : g' (0 + i) = g (0 + i) + a) (hy : g' (8 + i) = g (8 + i) + b) : F_X8_isQuiet K (nI i) g' (nI n) = some (qvl f (cdr f i 0 + a) (cdr f i 1 + b)) := by
  have n8 := h.n8
  obtain ⟨d0, d1⟩ := dr_both h.1.2.2.1 hi
  have m0 : mdx g' i = mdx g i + a := by
    unfold mdx
    rw [hx, fr (16 + i) (by omega), fr (32 + i) (by omega), dsh]
  have m1 : mdy g' i = mdy g i + b := by
    unfold mdy
    rw [hy, fr (24 + i) (by omega), fr (40 + i) (by omega), dsh]
  unfold F_X8_isQuiet
  rw [m_drX (by omega), xb1, m_drY (by omega), xb1, qb_cg hK n8 fr, ← q_both hK h hg, qvl_is, xb1, m0, m1, d0, d1]
theorem ml_rng {m : Nat} {x : Int32} (hm : m ≤ 201) (hx : in9 x) : (nI m * x).toInt = m * x.toInt ∧ -3000000 ≤ (nI m * x).toInt ∧ (nI m * x).toInt ≤ 3000000 := by
  obtain ⟨l, u⟩ := in9_int hx
  have a1 : (m : Int) * x.toInt ≤ m * 9999 := Int.mul_le_mul_of_nonneg_left u (by omega)
  have a2 : (m : Int) * -9999 ≤ m * x.toInt := Int.mul_le_mul_of_nonneg_left l (by omega)
  have e : (nI m * x).toInt = m * x.toInt := by
    rw [Int32.toInt_mul, nI_toInt (by omega)]
    exact Int.bmod_eq_of_le (by omega) (by omega)
  rw [e]
  exact ⟨rfl, by omega, by omega⟩
theorem ml_st {j : Nat} {a x : Int32} : a + nI j * x + x = a + nI (j + 1) * x := by
  rw [← nI_1 j, Int32.add_mul, Int32.one_mul, Int32.add_assoc]
/-- the row of one that was moved j times -/
def LmW (i j : Nat) (x y : Int32) (g w : Nat → Int32) : Prop := (∀ k, ¬ k = 0 + i → ¬ k = 8 + i → w k = g k) ∧ w (0 + i) = g (0 + i) + nI j * x ∧ w (8 + i) = g (8 + i) + nI j * y
theorem LmW.st {i j : Nat} {x y : Int32} {g w : Nat → Int32} (h : LmW i j x y g w) : LmW i (j + 1) x y g (mvG i x y w) := by
  obtain ⟨h1, h2, h3⟩ := h
  unfold mvG
  refine ⟨fun k a b => ?_, ?_, ?_⟩
  · rw [upd_ne b, upd_ne a]
    exact h1 k a b
  · rw [upd_ne (by omega), upd_at, h2, ml_st]
  · rw [upd_at, upd_ne (by omega), h3, ml_st]
theorem m_limB {n i j K : Nat} {f g w : Nat → Int32} {x y X : Int32} (hK : 200000 ≤ K) (h : RowR n f g) (hg : RowG g) (hi : i < n) (hX : ¬ (200 : Int32) ≤ X) (q : LmW i j x y g w) : B_X8_limit_36 K (nI i) x y (nI n) X 1 w = some (.inl (X + 1, (if inR (g (0 + i) + nI (j + 1) * x) ∧ inR (g (8 + i) + nI (j + 1) * y) then (if qvl f (cdr f i 0 + nI (j + 1) * x) (cdr f i 1 + nI (j + 1) * y) = 0 then 0 else 1) else 0), mvG i x y w)) := by
  have n8 := h.n8
  obtain ⟨q1, q2, q3⟩ := q.st
  unfold B_X8_limit_36
  rw [if_neg n10, if_neg hX]
  simp only [bm_ix (A := (0 : Int32)) (a := 0) rfl (show 0 + i < 265 by omega), bm_ix (A := (8 : Int32)) (a := 8) rfl (show 8 + i < 265 by omega), bm_cl (A := (0 : Int32)) (a := 0) rfl (show 0 + i < 265 by omega), bm_cl (A := (8 : Int32)) (a := 8) rfl (show 8 + i < 265 by omega), xnm]
  rw [show upd (upd w (0 + i) (w (0 + i) + x)) (8 + i) (upd w (0 + i) (w (0 + i) + x) (8 + i) + y) = mvG i x y w from rfl]
  rw [m_stand (by omega), xb1, ite10, q2, q3, iq_sh hK h hg hi (fun k hk => q1 k (by omega) (by omega)) q2 q3, xb1]
  by_cases c : inR (g (0 + i) + nI (j + 1) * x) ∧ inR (g (8 + i) + nI (j + 1) * y)
  · rw [if_pos c, if_pos c]
    by_cases d : qvl f (cdr f i 0 + nI (j + 1) * x) (cdr f i 1 + nI (j + 1) * y) = 0
    · rw [if_pos d, if_pos d]
    · rw [if_neg d, if_neg d]
  · rw [if_neg c, if_neg c]
def LmR (i : Nat) (x y : Int32) (g : Nat → Int32) (j : Nat) (s : Int32 × Int32) (t : Int32 × Int32 × (Nat → Int32)) : Prop := ∃ w, s = (nI j, nI (j + 1)) ∧ t = (nI j - 1, 1, w) ∧ LmW i j x y g w
theorem lm_both {n i K : Nat} {f g : Nat → Int32} {x y : Int32} (hK : 200000 ≤ K) (h : RowR n f g) (hI : RowI n g) (hi : i < n) (hx : in9 x) (hy : in9 y) : ∃ (r : Nat × Int32) (u : Int32 × (Nat → Int32)), lpF (fun u9 : Int32 × Int32 => B_X7_limit_38 (nI i) x y f u9.1 u9.2) K ((0 : Int32), (1 : Int32)) = some r ∧ lpF (fun u9 : Int32 × Int32 × (Nat → Int32) => B_X8_limit_36 K (nI i) x y (nI n) u9.1 u9.2.1 u9.2.2) K ((-1 : Int32), (1 : Int32), g) = some u ∧ r.1 < 2 ∧ r.2 = u.1 ∧ ∀ k, 84 ≤ k → u.2 k = g k := by
  have n8 := h.n8
  refine lp_twoXN 2 (LmR i x y g) (fun (r : Nat × Int32) (u : Int32 × (Nat → Int32)) => r.1 < 2 ∧ r.2 = u.1 ∧ ∀ k, 84 ≤ k → u.2 k = g k) (n := 200) (by omega) (by omega) (fun j s t hj q => ?_) ⟨g, rfl, rfl, fun _ _ _ => rfl, by rw [show nI 0 = (0 : Int32) from rfl, Int32.zero_mul, Int32.add_zero], by rw [show nI 0 = (0 : Int32) from rfl, Int32.zero_mul, Int32.add_zero]⟩
  obtain ⟨w, rfl, rfl, q⟩ := q
  have j1 : nI j - 1 + 1 = nI j := Int32.sub_add_cancel _ _
  have nX : ¬ (200 : Int32) ≤ nI j - 1 := fun z => by
    have z2 := Int32.le_iff_toInt_le.mp z
    rw [show (nI j - 1).toInt = (j : Int) - (1 : Nat) from pk_sub_toInt (a := j) (b := 1) (by omega) (by omega), show (200 : Int32).toInt = 200 by decide] at z2
    omega
  have M := m_limB hK h hI.1 hi nX q
  rw [j1] at M
  have fr : ∀ k, 84 ≤ k → mvG i x y w k = g k := fun k hk => q.st.1 k (by omega) (by omega)
  have tail : ∀ b : Int32, (b = 0 ∨ j = 200) → B_X8_limit_36 K (nI i) x y (nI n) (nI j - 1) 1 w = some (.inl (nI j, b, mvG i x y w)) → ∀ J, 2 ≤ J → lpF (fun u9 : Int32 × Int32 × (Nat → Int32) => B_X8_limit_36 K (nI i) x y (nI n) u9.1 u9.2.1 u9.2.2) J (nI j - 1, 1, w) = some (nI j, mvG i x y w) := by
    intro b hb e J hJ
    obtain ⟨J2, rfl⟩ : ∃ J2, J = J2 + 1 + 1 := ⟨J - 2, by omega⟩
    rw [lp_one (u' := (nI j, b, mvG i x y w)) e]
    refine lp_end ?_
    show B_X8_limit_36 K (nI i) x y (nI n) (nI j) b (mvG i x y w) = _
    unfold B_X8_limit_36
    by_cases z : b = 0
    · rw [if_pos z]
    · have z2 : j = 200 := hb.resolve_left z
      rw [if_neg z, z2, if_pos (by decide)]
  show (j < 200 ∧ ∃ s' t', B_X7_limit_38 (nI i) x y f (nI j) (nI (j + 1)) = some (.inl s') ∧ B_X8_limit_36 K (nI i) x y (nI n) (nI j - 1) 1 w = some (.inl t') ∧ LmR i x y g (j + 1) s' t') ∨ (∃ r u, B_X7_limit_38 (nI i) x y f (nI j) (nI (j + 1)) = some (.inr r) ∧ (∀ J, 2 ≤ J → lpF (fun u9 : Int32 × Int32 × (Nat → Int32) => B_X8_limit_36 K (nI i) x y (nI n) u9.1 u9.2.1 u9.2.2) J (nI j - 1, 1, w) = some u) ∧ (r.1 < 2 ∧ r.2 = u.1 ∧ ∀ k, 84 ≤ k → u.2 k = g k))
  by_cases e : j = 200
  · refine Or.inr ⟨(1, nI j), (nI j, mvG i x y w), ?_, tail _ (Or.inr e) M, Nat.lt_succ_self 1, rfl, fr⟩
    unfold B_X7_limit_38
    rw [if_pos (show (200 : Int32) < nI (j + 1) from (nI_ltI (a := 200) (b := j + 1) (by omega) (by omega)).mpr (by omega))]
  · have hX := (hI.2 (by omega)).1 i hi
    obtain ⟨-, r1, r2⟩ := ml_rng (m := j + 1) (by omega) hx
    obtain ⟨-, r3, r4⟩ := ml_rng (m := j + 1) (by omega) hy
    have k1 := inR_add hX.1 ⟨r1, r2⟩
    have k2 := inR_add hX.2 ⟨r3, r4⟩
    have l3 := inR_int hX.1
    have l4 := inR_int hX.2
    have C : B_X7_limit_38 (nI i) x y f (nI j) (nI (j + 1)) = if inR (g (0 + i) + nI (j + 1) * x) ∧ inR (g (8 + i) + nI (j + 1) * y) then (if qvl f (cdr f i 0 + nI (j + 1) * x) (cdr f i 1 + nI (j + 1) * y) = 0 then some (.inr (0, nI j)) else some (.inl (nI (j + 1), nI (j + 1 + 1)))) else some (.inr (1, nI j)) := by
      unfold B_X7_limit_38
      rw [if_neg (show ¬ (200 : Int32) < nI (j + 1) from mt (nI_ltI (a := 200) (b := j + 1) (by omega) (by omega)).mp (by omega)), c_room h hi (by omega) (by omega), xb1, ite10, c_qw n8 hi, xb1, nI_1]
    by_cases c : inR (g (0 + i) + nI (j + 1) * x) ∧ inR (g (8 + i) + nI (j + 1) * y)
    · rw [if_pos c] at C M
      by_cases d : qvl f (cdr f i 0 + nI (j + 1) * x) (cdr f i 1 + nI (j + 1) * y) = 0
      · rw [if_pos d] at C M
        exact Or.inr ⟨_, _, C, tail _ (Or.inl rfl) M, Nat.zero_lt_succ 1, rfl, fr⟩
      · rw [if_neg d] at C M
        exact Or.inl ⟨by omega, _, _, C, M, mvG i x y w, rfl, by rw [nI_pred], q.st⟩
    · rw [if_neg c] at C M
      exact Or.inr ⟨_, _, C, tail _ (Or.inl rfl) M, Nat.lt_succ_self 1, rfl, fr⟩
/-- how far one may go unheard -/
theorem p_limit {n K : Nat} {f g asd : Nat → Int32} {x y z : Int32} (hK : 200000 ≤ K) (h : RowR n f g) (hI : RowI n g) : ∃ v asd', F_X7_limit K x y z f = some v ∧ F_X8_limit K x y z g (nI n) asd = some (v, g, asd') := by
  have n8 := h.n8
  unfold F_X7_limit F_X8_limit
  rcases hs_both (p := x) n8 h.sz with ⟨i, hi, rfl, c1, c2⟩ | ⟨-, c1, c2⟩
  · rw [c1, c2, xb1, xb1, if_neg n10, if_neg n10, c_way, m_way, xb1, xb1, ite10, ite10, fz_c h.1 hi, fz_m (by omega), xb1, xb1, ite10, ite10]
    by_cases a : (in9 y ∧ in9 z) ∧ ¬ (y = 0 ∧ z = 0)
    · rw [if_pos a, if_pos a]
      by_cases b : g (76 + i) = 1
      · rw [if_pos b, if_pos b]
        exact ⟨_, _, rfl, rfl⟩
      · obtain ⟨⟨tg, v⟩, ⟨v2, w⟩, l1, l2, l3, l4, fr⟩ := lm_both hK h hI hi a.1.1 a.1.2
        have l3 : tg < 2 := l3
        have l4 : v = v2 := l4
        have fr : ∀ k, 84 ≤ k → w k = g k := fr
        rw [if_neg b, if_neg b, l1, m_aside hK, xb1, l2, xb2, xb2, m_bring hK fr, xb1, l4]
        rcases (show tg = 0 ∨ tg = 1 by omega) with e | e
        · rw [e, if_pos rfl]
          exact ⟨_, _, rfl, rfl⟩
        · rw [e, if_neg (by decide), if_pos rfl]
          exact ⟨_, _, rfl, rfl⟩
    · rw [if_neg a, if_neg a]
      exact ⟨_, _, rfl, rfl⟩
  · rw [c1, c2, xb1, xb1, if_pos rfl, if_pos rfl]
    exact ⟨_, _, rfl, rfl⟩
