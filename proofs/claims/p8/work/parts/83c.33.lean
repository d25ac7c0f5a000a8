/-! Stage B, 33: races, in both -/
/-- the row in turn t + 1, where the first j have moved -/
def RcW (n t j : Nat) (x y : Int32) (g w : Nat → Int32) : Prop := (∀ k, 16 ≤ k → w k = g k) ∧ ∀ i, i < n → (g (76 + i) = 1 → w (0 + i) = g (0 + i) ∧ w (8 + i) = g (8 + i)) ∧ (¬ g (76 + i) = 1 → w (0 + i) = g (0 + i) + nI (if i < j then t + 1 else t) * x ∧ w (8 + i) = g (8 + i) + nI (if i < j then t + 1 else t) * y)
theorem RcW.nxt {n t : Nat} {x y : Int32} {g w : Nat → Int32} (h : RcW n t n x y g w) : RcW n (t + 1) 0 x y g w := by
  refine ⟨h.1, fun i hi => ⟨(h.2 i hi).1, fun c => ?_⟩⟩
  have := (h.2 i hi).2 c
  rw [if_pos hi] at this
  rw [if_neg (Nat.not_lt_zero _)]
  exact this
theorem RcW.frz {n t j : Nat} {x y : Int32} {g w : Nat → Int32} (h : RcW n t j x y g w) (c : g (76 + j) = 1) : RcW n t (j + 1) x y g w := by
  refine ⟨h.1, fun i hi => ⟨(h.2 i hi).1, fun d => ?_⟩⟩
  have ne : ¬ i = j := fun e => d (by rw [e]; exact c)
  have := (h.2 i hi).2 d
  by_cases q : i < j
  · rw [if_pos q] at this
    rw [if_pos (by omega)]
    exact this
  · rw [if_neg q] at this
    rw [if_neg (by omega)]
    exact this
theorem RcW.mv {n t j : Nat} {x y : Int32} {g w : Nat → Int32} (n8 : n ≤ 8) (hj : j < n) (h : RcW n t j x y g w) (c : ¬ g (76 + j) = 1) : RcW n t (j + 1) x y g (mvG j x y w) ∧ mvG j x y w (0 + j) = g (0 + j) + nI (t + 1) * x ∧ mvG j x y w (8 + j) = g (8 + j) + nI (t + 1) * y := by
  have q := (h.2 j hj).2 c
  rw [if_neg (Nat.lt_irrefl _)] at q
  have e0 : mvG j x y w (0 + j) = g (0 + j) + nI (t + 1) * x := by
    unfold mvG
    rw [upd_ne (by omega), upd_at, q.1, ml_st]
  have e8 : mvG j x y w (8 + j) = g (8 + j) + nI (t + 1) * y := by
    unfold mvG
    rw [upd_at, upd_ne (by omega), q.2, ml_st]
  have eo : ∀ k, ¬ k = 0 + j → ¬ k = 8 + j → mvG j x y w k = w k := fun k a b => by
    unfold mvG
    rw [upd_ne b, upd_ne a]
  refine ⟨⟨fun k hk => (eo k (by omega) (by omega)).trans (h.1 k hk), fun i hi => ?_⟩, e0, e8⟩
  by_cases e : i = j
  · rw [e, if_pos (Nat.lt_succ_self _)]
    exact ⟨fun d => absurd d c, fun _ => ⟨e0, e8⟩⟩
  · rw [eo (0 + i) (by omega) (by omega), eo (8 + i) (by omega) (by omega)]
    have r := h.2 i hi
    by_cases q : i < j
    · rw [if_pos q] at r
      rw [if_pos (by omega)]
      exact r
    · rw [if_neg q] at r
      rw [if_neg (by omega)]
      exact r
/-- the reference's body -/
abbrev rcD (K n : Nat) (x y : Int32) : Int32 × Int32 × Int32 × (Nat → Int32) × Int32 → Option ((Int32 × Int32 × Int32 × (Nat → Int32) × Int32) ⊕ (Int32 × (Nat → Int32) × Int32)) := fun u9 => B_X8_laysRace_22 K x y (nI n) u9.1 u9.2.1 u9.2.2.1 u9.2.2.2.1 u9.2.2.2.2
theorem m_rcB {n t j K mv : Nat} {f g w : Nat → Int32} {x y : Int32} (hK : 200000 ≤ K) (h : RowR n f g) (hg : RowG g) (hj : j < n) (ht : t < 200) (q : RcW n t j x y g w) : B_X8_laysRace_22 K x y (nI n) 1 (nI mv) (nI (t * n + j)) w (-1) = if g (76 + j) = 1 then some (.inl (1, nI mv, nI (t * n + j + 1), w, -1)) else some (.inl (if inR (g (0 + j) + nI (t + 1) * x) ∧ inR (g (8 + j) + nI (t + 1) * y) then (if qvl f (cdr f j 0 + nI (t + 1) * x) (cdr f j 1 + nI (t + 1) * y) = 0 then (0, nI (mv + 1), nI (t * n + j + 1), mvG j x y w, nI j) else (1, nI (mv + 1), nI (t * n + j + 1), mvG j x y w, -1)) else (0, nI (mv + 1), nI (t * n + j + 1), mvG j x y w, -1))) := by
  have n8 := h.n8
  have tn : t * n ≤ 199 * n := Nat.mul_le_mul_right n (by omega)
  have tn2 : t * n ≤ 199 * 8 := Nat.le_trans tn (Nat.mul_le_mul_left 199 n8)
  have e2 : (200 : Int32) * nI n = nI (200 * n) := by rw [show (200 : Int32) = nI 200 from rfl, nI_mul]
  have md : (t * n + j) % n = j := by rw [Nat.mul_add_mod', Nat.mod_eq_of_lt hj]
  have ix : nI (t * n + j) - nI (t * n + j) / nI n * nI n = nI j := by rw [nI_mod (by omega) (by omega), md]
  have nz : ¬ nI n = (0 : Int32) := nI_ne0 (by omega) (by omega)
  have w76 : w (76 + j) = g (76 + j) := q.1 _ (by omega)
  unfold B_X8_laysRace_22
  rw [e2, if_neg (mt (nI_leI (a := 200 * n) (b := t * n + j) (by omega) (by omega)).mp (by omega)), if_neg n10, xnz nz, ix, fz_m (by omega), xb1, ite10, w76, nI_1]
  by_cases c : g (76 + j) = 1
  · rw [if_pos c, if_pos c]
  · rw [if_neg c, if_neg c]
    obtain ⟨q2, m0, m8⟩ := q.mv n8 hj c
    simp only [bm_ix (A := (0 : Int32)) (a := 0) rfl (show 0 + j < 265 by omega), bm_ix (A := (8 : Int32)) (a := 8) rfl (show 8 + j < 265 by omega), bm_cl (A := (0 : Int32)) (a := 0) rfl (show 0 + j < 265 by omega), bm_cl (A := (8 : Int32)) (a := 8) rfl (show 8 + j < 265 by omega), xnm]
    show bd1 (F_X8_canStand (nI j) (mvG j x y w)) (fun r_16 => if r_16 = (0 : Int32) then J_X8_laysRace_109_r23 (nI mv + (1 : Int32)) (nI (t * n + j)) (nI j) (mvG j x y w) (-1) else bd1 (F_X8_isQuiet K (nI j) (mvG j x y w) (nI n)) (fun r_25 => if r_25 = (0 : Int32) then J_X8_laysRace_109_r23 (nI mv + (1 : Int32)) (nI (t * n + j)) (nI j) (mvG j x y w) (-1) else J_X8_laysRace_110_r23 (1 : Int32) (nI mv + (1 : Int32)) (nI (t * n + j)) (nI j) (mvG j x y w) (-1))) = _
    unfold J_X8_laysRace_109_r23 J_X8_laysRace_110_r23
    rw [m_stand (by omega), xb1, ite10, m0, m8, iq_sh hK h hg hj q2.1 m0 m8, xb1, nI_1, nI_1]
    simp only [xb1, ite10]
    by_cases d : inR (g (0 + j) + nI (t + 1) * x) ∧ inR (g (8 + j) + nI (t + 1) * y)
    · simp only [if_pos d]
      by_cases e : qvl f (cdr f j 0 + nI (t + 1) * x) (cdr f j 1 + nI (t + 1) * y) = 0
      · rw [if_pos e, if_pos e, if_pos trivial]
      · rw [if_neg e, if_neg e, if_neg n10]
    · simp only [if_neg d]
theorem c_rcB {n t j mv : Nat} {f g : Nat → Int32} {x y : Int32} (h : RowR n f g) (hI : RowI n g) (hj : j < n) (ht : t < 200) (hx : in9 x) (hy : in9 y) : B_X7_race_46 x y f (nI (t + 1)) (nI mv) (nI j) = if g (76 + j) = 1 then some (.inl (nI mv, nI (j + 1))) else if inR (g (0 + j) + nI (t + 1) * x) ∧ inR (g (8 + j) + nI (t + 1) * y) then (if qvl f (cdr f j 0 + nI (t + 1) * x) (cdr f j 1 + nI (t + 1) * y) = 0 then some (.inr (1, nI (mv + 1), nI j)) else some (.inl (nI (mv + 1), nI (j + 1)))) else some (.inr (0, nI mv, nI j)) := by
  have n8 := h.n8
  have hX := (hI.2 (by omega)).1 j hj
  obtain ⟨-, r1, r2⟩ := ml_rng (m := t + 1) (by omega) hx
  obtain ⟨-, r3, r4⟩ := ml_rng (m := t + 1) (by omega) hy
  have k1 := inR_add hX.1 ⟨r1, r2⟩
  have k2 := inR_add hX.2 ⟨r3, r4⟩
  have l3 := inR_int hX.1
  have l4 := inR_int hX.2
  unfold B_X7_race_46 F_X5_sites
  rw [xb1, h.sz, if_neg (mt (nI_leI (a := n) (b := j) (by omega) (by omega)).mp (by omega)), fz_c h.1 hj, xb1, ite10, c_room h hj (by omega) (by omega), xb1, ite10, c_qw n8 hj, xb1, nI_1, nI_1]
/-- how a race ends: nobody, or one with so many moves -/
def RcE (g : Nat → Int32) (tg : Nat) (a b : Int32) (u : Int32 × (Nat → Int32) × Int32) : Prop := (∀ k, 84 ≤ k → u.2.1 k = g k) ∧ ((tg = 0 ∧ u.2.2 = -1) ∨ (tg = 1 ∧ u.2.2 = b ∧ u.1 = a ∧ ¬ b = -1))
theorem rc_in {n t K : Nat} {f g : Nat → Int32} {x y : Int32} (hK : 200000 ≤ K) (h : RowR n f g) (hI : RowI n g) (ht : t < 200) (hx : in9 x) (hy : in9 y) : ∀ (k j mv : Nat) (w : Nat → Int32), j + k = n → RcW n t j x y g w → (∃ mv' w', (∀ J, k < J → lpF (fun u9 : Int32 × Int32 => B_X7_race_46 x y f (nI (t + 1)) u9.1 u9.2) J (nI mv, nI j) = some (2, nI mv', nI n)) ∧ (∀ J, lpF (rcD K n x y) (k + J) (1, nI mv, nI (t * n + j), w, -1) = lpF (rcD K n x y) J (1, nI mv', nI (t * n + n), w', -1)) ∧ RcW n t n x y g w') ∨ (∃ tg a b u, (∀ J, k < J → lpF (fun u9 : Int32 × Int32 => B_X7_race_46 x y f (nI (t + 1)) u9.1 u9.2) J (nI mv, nI j) = some (tg, a, b)) ∧ (∀ J, 2 ≤ J → lpF (rcD K n x y) (k + J) (1, nI mv, nI (t * n + j), w, -1) = some u) ∧ RcE g tg a b u) := by
  have n8 := h.n8
  intro k
  induction k with
  | zero =>
    intro j mv w hj q
    obtain rfl : n = j := by omega
    refine Or.inl ⟨mv, w, fun J hJ => ?_, fun J => by rw [Nat.zero_add], q⟩
    obtain ⟨J2, rfl⟩ : ∃ J2, J = J2 + 1 := ⟨J - 1, by omega⟩
    refine lp_end ?_
    show B_X7_race_46 x y f (nI (t + 1)) (nI mv) (nI n) = _
    unfold B_X7_race_46 F_X5_sites
    rw [xb1, h.sz, if_pos ((nI_leI (a := n) (b := n) (by omega) (by omega)).mpr (Nat.le_refl _))]
  | succ k ih =>
    intro j mv w hj q
    have jn : j < n := by omega
    have C := c_rcB (mv := mv) h hI jn ht hx hy
    have M := m_rcB (mv := mv) hK h hI.1 jn ht q
    have go : ∀ (mv1 : Nat) (w1 : Nat → Int32), B_X7_race_46 x y f (nI (t + 1)) (nI mv) (nI j) = some (.inl (nI mv1, nI (j + 1))) → B_X8_laysRace_22 K x y (nI n) 1 (nI mv) (nI (t * n + j)) w (-1) = some (.inl (1, nI mv1, nI (t * n + j + 1), w1, -1)) → RcW n t (j + 1) x y g w1 → (∃ mv' w', (∀ J, k + 1 < J → lpF (fun u9 : Int32 × Int32 => B_X7_race_46 x y f (nI (t + 1)) u9.1 u9.2) J (nI mv, nI j) = some (2, nI mv', nI n)) ∧ (∀ J, lpF (rcD K n x y) (k + 1 + J) (1, nI mv, nI (t * n + j), w, -1) = lpF (rcD K n x y) J (1, nI mv', nI (t * n + n), w', -1)) ∧ RcW n t n x y g w') ∨ (∃ tg a b u, (∀ J, k + 1 < J → lpF (fun u9 : Int32 × Int32 => B_X7_race_46 x y f (nI (t + 1)) u9.1 u9.2) J (nI mv, nI j) = some (tg, a, b)) ∧ (∀ J, 2 ≤ J → lpF (rcD K n x y) (k + 1 + J) (1, nI mv, nI (t * n + j), w, -1) = some u) ∧ RcE g tg a b u) := by
      intro mv1 w1 e1 e2 q1
      have s1 : ∀ J, k + 1 < J → lpF (fun u9 : Int32 × Int32 => B_X7_race_46 x y f (nI (t + 1)) u9.1 u9.2) J (nI mv, nI j) = lpF (fun u9 : Int32 × Int32 => B_X7_race_46 x y f (nI (t + 1)) u9.1 u9.2) (J - 1) (nI mv1, nI (j + 1)) := fun J hJ => by
        obtain ⟨J2, rfl⟩ : ∃ J2, J = J2 + 1 := ⟨J - 1, by omega⟩
        rw [lp_one (u' := (nI mv1, nI (j + 1))) e1]
        rfl
      have s2 : ∀ J, lpF (rcD K n x y) (k + 1 + J) (1, nI mv, nI (t * n + j), w, -1) = lpF (rcD K n x y) (k + J) (1, nI mv1, nI (t * n + (j + 1)), w1, -1) := fun J => by
        rw [show k + 1 + J = (k + J) + 1 by omega, lp_one (u' := (1, nI mv1, nI (t * n + j + 1), w1, -1)) e2, Nat.add_assoc]
      rcases ih (j + 1) mv1 w1 (by omega) q1 with ⟨mv', w', a1, a2, a3⟩ | ⟨tg, a, b, u, a1, a2, a3⟩
      · exact Or.inl ⟨mv', w', fun J hJ => (s1 J hJ).trans (a1 _ (by omega)), fun J => (s2 J).trans (a2 J), a3⟩
      · exact Or.inr ⟨tg, a, b, u, fun J hJ => (s1 J hJ).trans (a1 _ (by omega)), fun J hJ => (s2 J).trans (a2 J hJ), a3⟩
    have stop : ∀ (mv1 : Nat) (w1 : Nat → Int32) (rc : Int32) (tg : Nat) (a b : Int32), B_X7_race_46 x y f (nI (t + 1)) (nI mv) (nI j) = some (.inr (tg, a, b)) → B_X8_laysRace_22 K x y (nI n) 1 (nI mv) (nI (t * n + j)) w (-1) = some (.inl (0, nI mv1, nI (t * n + j + 1), w1, rc)) → RcE g tg a b (nI mv1, w1, rc) → (∃ tg a b u, (∀ J, k + 1 < J → lpF (fun u9 : Int32 × Int32 => B_X7_race_46 x y f (nI (t + 1)) u9.1 u9.2) J (nI mv, nI j) = some (tg, a, b)) ∧ (∀ J, 2 ≤ J → lpF (rcD K n x y) (k + 1 + J) (1, nI mv, nI (t * n + j), w, -1) = some u) ∧ RcE g tg a b u) := by
      intro mv1 w1 rc tg a b e1 e2 q1
      refine ⟨tg, a, b, (nI mv1, w1, rc), fun J hJ => ?_, fun J hJ => ?_, q1⟩
      · obtain ⟨J2, rfl⟩ : ∃ J2, J = J2 + 1 := ⟨J - 1, by omega⟩
        exact lp_end e1
      · obtain ⟨J2, hJ2⟩ : ∃ J2, k + 1 + J = J2 + 1 + 1 := ⟨k + J - 1, by omega⟩
        rw [hJ2, lp_one (u' := (0, nI mv1, nI (t * n + j + 1), w1, rc)) e2]
        refine lp_end ?_
        show B_X8_laysRace_22 K x y (nI n) 0 (nI mv1) (nI (t * n + j + 1)) w1 rc = _
        unfold B_X8_laysRace_22
        by_cases z : (200 : Int32) * nI n ≤ nI (t * n + j + 1)
        · rw [if_pos z]
        · rw [if_neg z, if_pos rfl]
    by_cases c : g (76 + j) = 1
    · rw [if_pos c] at C M
      exact go mv w C M (q.frz c)
    · rw [if_neg c] at C M
      obtain ⟨q2, m0, m8⟩ := q.mv n8 jn c
      by_cases d : inR (g (0 + j) + nI (t + 1) * x) ∧ inR (g (8 + j) + nI (t + 1) * y)
      · rw [if_pos d] at C M
        by_cases e : qvl f (cdr f j 0 + nI (t + 1) * x) (cdr f j 1 + nI (t + 1) * y) = 0
        · rw [if_pos e] at C M
          exact Or.inr (stop _ _ _ _ _ _ C M ⟨fun k hk => q2.1 k (by omega), Or.inr ⟨rfl, rfl, rfl, nI_ne_m1 (by omega)⟩⟩)
        · rw [if_neg e] at C M
          exact go (mv + 1) _ C M q2
      · rw [if_neg d] at C M
        exact Or.inr (stop _ _ _ _ _ _ C M ⟨fun k hk => q2.1 k (by omega), Or.inl ⟨rfl, rfl⟩⟩)
/-- how the whole race ends -/
def RcF (g : Nat → Int32) (r : Nat × Int32 × Int32) (u : Int32 × (Nat → Int32) × Int32) : Prop := (∀ k, 84 ≤ k → u.2.1 k = g k) ∧ (((r.1 = 0 ∨ r.1 = 2) ∧ u.2.2 = -1) ∨ (r.1 = 1 ∧ u.2.2 = r.2.2 ∧ u.1 = r.2.1 ∧ ¬ u.2.2 = -1))
theorem rc_out {n K : Nat} {f g : Nat → Int32} {x y : Int32} (hK : 200000 ≤ K) (h : RowR n f g) (hI : RowI n g) (h0 : 0 < n) (hx : in9 x) (hy : in9 y) : ∀ (k t mv : Nat) (w : Nat → Int32), t + k = 200 → RcW n t 0 x y g w → ∃ r u, (∀ J, k < J → lpF (fun u9 : Int32 × Int32 => B_X7_race_35 K x y f u9.1 u9.2) J (nI mv, nI (t + 1)) = some r) ∧ (∀ J, 2 ≤ J → lpF (rcD K n x y) (k * n + J) (1, nI mv, nI (t * n), w, -1) = some u) ∧ RcF g r u := by
  have n8 := h.n8
  intro k
  induction k with
  | zero =>
    intro t mv w ht q
    refine ⟨(2, nI mv, 0), (nI mv, w, -1), fun J hJ => ?_, fun J hJ => ?_, fun k hk => q.1 k (by omega), Or.inl ⟨Or.inr rfl, rfl⟩⟩
    · obtain ⟨J2, rfl⟩ : ∃ J2, J = J2 + 1 := ⟨J - 1, by omega⟩
      refine lp_end ?_
      show B_X7_race_35 K x y f (nI mv) (nI (t + 1)) = _
      unfold B_X7_race_35
      rw [if_pos (show (200 : Int32) < nI (t + 1) from (nI_ltI (a := 200) (b := t + 1) (by omega) (by omega)).mpr (by omega))]
    · obtain ⟨J2, hJ2⟩ : ∃ J2, 0 * n + J = J2 + 1 := ⟨J - 1, by omega⟩
      rw [hJ2]
      refine lp_end ?_
      show B_X8_laysRace_22 K x y (nI n) 1 (nI mv) (nI (t * n)) w (-1) = _
      unfold B_X8_laysRace_22
      rw [show (200 : Int32) * nI n = nI (200 * n) by rw [show (200 : Int32) = nI 200 from rfl, nI_mul], show t = 200 by omega, if_pos ((nI_leI (a := 200 * n) (b := 200 * n) (by omega) (by omega)).mpr (Nat.le_refl _))]
  | succ k ih =>
    intro t mv w ht q
    have kn : (k + 1) * n = n + k * n := by rw [Nat.add_mul, Nat.one_mul, Nat.add_comm]
    have c1 : ¬ (200 : Int32) < nI (t + 1) := mt (nI_ltI (a := 200) (b := t + 1) (by omega) (by omega)).mp (by omega)
    rcases rc_in hK h hI (show t < 200 by omega) hx hy n 0 mv w (by omega) q with ⟨mv', w', a1, a2, a3⟩ | ⟨tg, a, b, u, a1, a2, fr, a3⟩
    · obtain ⟨r, u, b1, b2, b3⟩ := ih (t + 1) mv' w' (by omega) a3.nxt
      refine ⟨r, u, fun J hJ => ?_, fun J hJ => ?_, b3⟩
      · obtain ⟨J2, rfl⟩ : ∃ J2, J = J2 + 1 := ⟨J - 1, by omega⟩
        rw [lp_one (u' := (nI mv', nI (t + 1 + 1))) (show (fun u9 : Int32 × Int32 => B_X7_race_35 K x y f u9.1 u9.2) (nI mv, nI (t + 1)) = _ by
          show B_X7_race_35 K x y f (nI mv) (nI (t + 1)) = _
          unfold B_X7_race_35
          rw [if_neg c1, show ((nI mv, (0 : Int32)) : Int32 × Int32) = (nI mv, nI 0) from rfl, a1 K (by omega), xb3, if_neg (by decide), if_neg (by decide), if_pos rfl, nI_1])]
        exact b1 J2 (by omega)
      · have z := a2 (k * n + J)
        rw [Nat.add_zero, show t * n + n = (t + 1) * n by rw [Nat.add_mul, Nat.one_mul]] at z
        rw [kn, Nat.add_assoc, z]
        exact b2 J hJ
    · have hz := a2 (k * n + 2) (by omega)
      refine ⟨(tg, (if tg = 0 then 0 else a), (if tg = 0 then 0 else b)), u, fun J hJ => ?_, fun J hJ => ?_, fr, ?_⟩
      · obtain ⟨J2, rfl⟩ : ∃ J2, J = J2 + 1 := ⟨J - 1, by omega⟩
        refine lp_end ?_
        show B_X7_race_35 K x y f (nI mv) (nI (t + 1)) = _
        unfold B_X7_race_35
        rw [if_neg c1, show ((nI mv, (0 : Int32)) : Int32 × Int32) = (nI mv, nI 0) from rfl, a1 K (by omega), xb3]
        rcases a3 with ⟨e, -⟩ | ⟨e, -⟩
        · rw [e, if_pos rfl, if_pos rfl, if_pos rfl]
        · rw [e, if_neg (by decide), if_pos rfl, if_neg (by decide), if_neg (by decide)]
      · have z := a2 (k * n + J) (by omega)
        rw [Nat.add_zero] at z
        rw [kn, Nat.add_assoc]
        exact z
      · rcases a3 with ⟨e, e2⟩ | ⟨e, e2, e3, e4⟩
        · exact Or.inl ⟨Or.inl e, e2⟩
        · refine Or.inr ⟨e, ?_, ?_, by rw [e2]; exact e4⟩
          · show u.2.2 = if tg = 0 then 0 else b
            rw [e, if_neg (by decide), e2]
          · show u.1 = if tg = 0 then 0 else a
            rw [e, if_neg (by decide), e3]
/-- a race -/
theorem p_race {n K : Nat} {f g asd : Nat → Int32} {x y z rc rd : Int32} (hK : 200000 ≤ K) (h : RowR n f g) (hI : RowI n g) : ∃ (v rc' rd' : Int32) (asd' : Nat → Int32), F_X7_race K x y z f = some v ∧ F_X8_race K x y z g (nI n) asd rc rd = some (v, g, asd', rc', rd') := by
  have n8 := h.n8
  obtain ⟨s1, s2⟩ := sd_both n8 h.sz
  unfold F_X7_race F_X8_race
  by_cases e : n = 0
  · rw [s1, s2, if_pos e, xb1, xb1, if_pos rfl, if_pos rfl]
    exact ⟨_, _, _, _, rfl, rfl⟩
  · rw [s1, s2, if_neg e, xb1, xb1, if_neg n10, if_neg n10, c_way, m_way, xb1, xb1, ite10, ite10, m_in0 (m := 1) (by decide), xb1, ite10, rng_d]
    by_cases a : (in9 x ∧ in9 y) ∧ ¬ (x = 0 ∧ y = 0)
    · rw [if_pos a, if_pos a]
      by_cases d : 0 ≤ z ∧ z ≤ nI 1
      · rw [if_pos (show 0 ≤ z ∧ z ≤ (1 : Int32) from d), if_pos d]
        have q0 : RcW n 0 0 x y g g := ⟨fun _ _ => rfl, fun i hi => ⟨fun _ => ⟨rfl, rfl⟩, fun _ => by rw [if_neg (Nat.not_lt_zero _), show nI 0 = (0 : Int32) from rfl, Int32.zero_mul, Int32.zero_mul, Int32.add_zero, Int32.add_zero]; exact ⟨rfl, rfl⟩⟩⟩
        obtain ⟨⟨tg, va, vb⟩, ⟨u1, w, u2⟩, l1, l2, fr, hQ⟩ := rc_out hK h hI (by omega) a.1.1 a.1.2 200 0 0 g (by omega) q0
        have l1 := l1 K (by omega)
        have l2 := l2 (K - 200 * n) (by omega)
        rw [show 200 * n + (K - 200 * n) = K by omega, Nat.zero_mul] at l2
        have fr : ∀ k, 84 ≤ k → w k = g k := fr
        have l1 : lpF (fun u9 : Int32 × Int32 => B_X7_race_35 K x y f u9.1 u9.2) K ((0 : Int32), (1 : Int32)) = some (tg, va, vb) := l1
        have l2 : lpF (fun u9 : Int32 × Int32 × Int32 × (Nat → Int32) × Int32 => B_X8_laysRace_22 K x y (nI n) u9.1 u9.2.1 u9.2.2.1 u9.2.2.2.1 u9.2.2.2.2) K ((1 : Int32), (0 : Int32), (0 : Int32), g, (-1 : Int32)) = some (u1, w, u2) := l2
        unfold F_X8_laysRace J_X8_laysRace_143
        rw [l1, xb3, m_aside hK, xb1, l2, xb3, m_bring hK fr, xb1, xb1]
        obtain ⟨b, hb, rfl⟩ := in_nat (n := 1) (by decide) d
        rcases hQ with ⟨e1, e2⟩ | ⟨e1, e2, e3, e4⟩
        · have e1 : tg = 0 ∨ tg = 2 := e1
          have e2 : u2 = -1 := e2
          rw [e2, if_pos rfl, xb4]
          have L : (if tg = 0 then some (-1 : Int32) else if tg = 1 then if nI b = (0 : Int32) then some vb else some va else if tg = 2 then some (-1 : Int32) else none) = some (-1) := by
            rcases e1 with e1 | e1
            · rw [e1, if_pos rfl]
            · rw [e1, if_neg (by decide), if_neg (by decide), if_pos rfl]
          rw [L]
          by_cases q : nI b = (0 : Int32)
          · rw [if_pos q]
            exact ⟨_, _, _, _, rfl, rfl⟩
          · rw [if_neg q]
            exact ⟨_, _, _, _, rfl, rfl⟩
        · have e1 : tg = 1 := e1
          have e2 : u2 = vb := e2
          have e3 : u1 = va := e3
          have e4 : ¬ u2 = -1 := e4
          rw [if_neg e4, xb4, e1, if_neg (by decide), if_pos rfl, e2, e3]
          by_cases q : nI b = (0 : Int32)
          · rw [if_pos q, if_pos q]
            exact ⟨_, _, _, _, rfl, rfl⟩
          · rw [if_neg q, if_neg q]
            exact ⟨_, _, _, _, rfl, rfl⟩
      · rw [if_neg (show ¬ (0 ≤ z ∧ z ≤ (1 : Int32)) from d), if_neg d]
        exact ⟨_, _, _, _, rfl, rfl⟩
    · rw [if_neg a, if_neg a]
      exact ⟨_, _, _, _, rfl, rfl⟩
