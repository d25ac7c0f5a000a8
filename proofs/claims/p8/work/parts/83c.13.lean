/-! Stage B, 13: one moves, speaks and asks, in both -/
/-- whom one asks, i behind itself -/
def nxp (n p i : Nat) : Nat := if n ≤ p + i then p + i - n else p + i
theorem nxp_lt {n p i : Nat} (hp : p < n) (hi : i < n) : nxp n p i < n := by unfold nxp; split <;> omega
theorem nxp_mod {n p i : Nat} (hp : p < n) (hi : i < n) : (p + i) % n = nxp n p i := by
  unfold nxp
  by_cases c : n ≤ p + i
  · rw [if_pos c, Nat.mod_eq_sub_mod c, Nat.mod_eq_of_lt (by omega)]
  · rw [if_neg c, Nat.mod_eq_of_lt (by omega)]
theorem nxp_ne {n p i j : Nat} (hp : p < n) (hi : i < n) (hj : j < i) : ¬ nxp n p i = nxp n p j := by unfold nxp; split <;> split <;> omega
theorem nxp_0 {n p : Nat} (hp : p < n) : nxp n p 0 = p := by unfold nxp; rw [if_neg (by omega), Nat.add_zero]
theorem grp_1 : ∀ k, k < 8 → (1 : Int32) <<< (nI k &&& 31) = nI (2 ^ k) ∧ bcn (2 ^ k) 8 = 1 ∧ ∀ j, j < 8 → ¬ 2 ^ k / 2 ^ j % 2 = 0 → j = k := by decide +kernel
theorem grp_orA : ∀ m, m < 256 → ∀ k, k < 8 → m / 2 ^ k % 2 = 0 → nI m ||| ((1 : Int32) <<< (nI k &&& 31)) = nI (m + 2 ^ k) := by decide +kernel
theorem grp_orB : ∀ m, m < 256 → ∀ k, k < 8 → m / 2 ^ k % 2 = 0 → bcn (m + 2 ^ k) 8 = bcn m 8 + 1 := by decide +kernel
theorem grp_orC : ∀ m, m < 256 → ∀ k, k < 8 → ∀ j, j < 8 → ¬ m / 2 ^ k % 2 = 0 ∨ (m + 2 ^ k) / 2 ^ j % 2 = 0 ∨ j = k ∨ m / 2 ^ j % 2 = 1 := by decide +kernel
theorem grp_or (m : Nat) (hm : m < 256) (k : Nat) (hk : k < 8) (hb : m / 2 ^ k % 2 = 0) : nI m ||| ((1 : Int32) <<< (nI k &&& 31)) = nI (m + 2 ^ k) ∧ bcn (m + 2 ^ k) 8 = bcn m 8 + 1 ∧ ∀ j, j < 8 → ¬ (m + 2 ^ k) / 2 ^ j % 2 = 0 → j = k ∨ ¬ m / 2 ^ j % 2 = 0 := by
  refine ⟨grp_orA m hm k hk hb, grp_orB m hm k hk hb, fun j hj h => ?_⟩
  rcases grp_orC m hm k hk j hj with e | e | e | e
  · exact absurd hb e
  · exact absurd e h
  · exact Or.inl e
  · exact Or.inr (by omega)
theorem grp_lt : ∀ n, n < 9 → ∀ m, m < 2 ^ n → ∀ k, k < n → m / 2 ^ k % 2 = 0 → m + 2 ^ k < 2 ^ n := by decide +kernel
theorem grp_n : ∀ n, n < 9 → ∀ m, m < 2 ^ n → bcn m n = bcn m 8 := by decide +kernel
def SqR (n p : Nat) (i : Nat) (s : Int32 × Int32 × (Nat → Int32) × Int32 × (Nat → Int32) × (Nat → Int32)) (t : Int32 × Int32 × Int32 × (Nat → Int32) × (Nat → Int32) × Int32 × (Nat → Int32)) : Prop := ∃ m a, m < 2 ^ n ∧ s.1 = nI m ∧ t.1 = nI m ∧ s.2.1 = nI (i + 1) ∧ t.2.2.1 = nI (i + 1) ∧ t.2.1 = 0 ∧ s.2.2.2.1 = nI a ∧ t.2.2.2.2.2.1 = nI a ∧ a ≤ i ∧ i < n ∧ bcn m 8 = a + 1 ∧ (∀ j, j < a → s.2.2.1 j = t.2.2.2.2.2.2 j) ∧ ∀ j, j < 8 → ¬ m / 2 ^ j % 2 = 0 → ∃ o, o < i + 1 ∧ j = nxp n p o
/-- how the search ends -/
def SqQ (n : Nat) (r : Nat × Int32 × (Nat → Int32) × Int32 × (Nat → Int32) × (Nat → Int32)) (u : Int32 × Int32 × (Nat → Int32) × (Nat → Int32) × Int32 × (Nat → Int32)) : Prop := ∃ m a, m < 2 ^ n ∧ r.2.1 = nI m ∧ u.1 = nI m ∧ r.2.2.2.1 = nI a ∧ u.2.2.2.2.1 = nI a ∧ a < n ∧ (∀ j, j < a → r.2.2.1 j = u.2.2.2.2.2 j) ∧ ((r.1 = 1 ∧ u.2.1 = 0) ∨ (r.1 = 0 ∧ u.2.1 = 1 ∧ bcn m 8 = a + 1 ∧ ∃ (q0 q1 : Int32) (r0 r1 : Nat), r0 < 8 ∧ r1 < 8 ∧ (r.2.2.2.2.1 0 = q0 ∧ r.2.2.2.2.1 1 = q1 ∧ r.2.2.2.2.2 0 = nI r0 ∧ r.2.2.2.2.2 1 = nI r1) ∧ ∀ j, j < n → ¬ m / 2 ^ j % 2 = 0 → u.2.2.1 j = shv q0 r0 (bcn m j) ∧ u.2.2.2.1 j = shv q1 r1 (bcn m j)))
theorem SqR.step {n p i K : Nat} {f g : Nat → Int32} {s : Int32 × Int32 × (Nat → Int32) × Int32 × (Nat → Int32) × (Nat → Int32)} {t : Int32 × Int32 × Int32 × (Nat → Int32) × (Nat → Int32) × Int32 × (Nat → Int32)} (hK : 200000 ≤ K) (h : RowR n f g) (hg : RowG g) (hp : p < n) (q : SqR n p i s t) : (i < 8 ∧ ∃ s' t', B_X5_moveSite_46 K (nI p) f s.1 s.2.1 s.2.2.1 s.2.2.2.1 s.2.2.2.2.1 s.2.2.2.2.2 = some (.inl s') ∧ B_X8_speaks_40 K (nI p) (nI n) g t.1 t.2.1 t.2.2.1 t.2.2.2.1 t.2.2.2.2.1 t.2.2.2.2.2.1 t.2.2.2.2.2.2 = some (.inl t') ∧ SqR n p (i + 1) s' t') ∨ (∃ r u, B_X5_moveSite_46 K (nI p) f s.1 s.2.1 s.2.2.1 s.2.2.2.1 s.2.2.2.2.1 s.2.2.2.2.2 = some (.inr r) ∧ (∀ J, 2 ≤ J → lpF (fun u9 : Int32 × Int32 × Int32 × (Nat → Int32) × (Nat → Int32) × Int32 × (Nat → Int32) => B_X8_speaks_40 K (nI p) (nI n) g u9.1 u9.2.1 u9.2.2.1 u9.2.2.2.1 u9.2.2.2.2.1 u9.2.2.2.2.2.1 u9.2.2.2.2.2.2) J t = some u) ∧ SqQ n r u) := by
  obtain ⟨x4, x5, P, ac, sh, lo⟩ := s
  obtain ⟨y2, y3, y4, sx, sy, as, A⟩ := t
  obtain ⟨m, a, hm, e1, e2, e3, e4, e5, e6, e7, ha, hin, hbc, hPA, hmm⟩ := q
  have e1 : x4 = nI m := e1
  have e2 : y2 = nI m := e2
  have e3 : x5 = nI (i + 1) := e3
  have e4 : y4 = nI (i + 1) := e4
  have e5 : y3 = 0 := e5
  have e6 : ac = nI a := e6
  have e7 : as = nI a := e7
  have hPA : ∀ j, j < a → P j = A j := hPA
  subst e1 e2 e3 e4 e5 e6 e7
  have n8 : n ≤ 8 := h.1.1
  have m8 : m < 256 := Nat.lt_of_lt_of_le hm (Nat.pow_le_pow_right (by decide) n8)
  have h3 : f 3 = nI n := h.1.2.1
  have e672 : f 6 = g 72 := h.1.2.2.2.1 (6, 72) (by decide)
  have goE : ∀ {u : Int32 × Int32 × (Nat → Int32) × (Nat → Int32) × Int32 × (Nat → Int32)}, B_X8_speaks_40 K (nI p) (nI n) g (nI m) 0 (nI (i + 1)) sx sy (nI a) A = some (.inr u) → ∀ J, 2 ≤ J → lpF (fun u9 : Int32 × Int32 × Int32 × (Nat → Int32) × (Nat → Int32) × Int32 × (Nat → Int32) => B_X8_speaks_40 K (nI p) (nI n) g u9.1 u9.2.1 u9.2.2.1 u9.2.2.2.1 u9.2.2.2.2.1 u9.2.2.2.2.2.1 u9.2.2.2.2.2.2) J (nI m, 0, nI (i + 1), sx, sy, nI a, A) = some u := by
    intro u hu J hJ
    obtain ⟨J2, rfl⟩ : ∃ J2, J = J2 + 1 := ⟨J - 1, by omega⟩
    exact lp_end hu
  by_cases c : n ≤ i + 1
  · refine Or.inr ⟨(1, nI m, P, nI a, sh, lo), (nI m, 0, sx, sy, nI a, A), ?_, goE ?_, m, a, hm, rfl, rfl, rfl, rfl, by omega, hPA, Or.inl ⟨rfl, rfl⟩⟩
    · show B_X5_moveSite_46 K (nI p) f (nI m) (nI (i + 1)) P (nI a) sh lo = _
      unfold B_X5_moveSite_46
      rw [h3, if_pos ((nI_leI (a := n) (b := i + 1) (by omega) (by omega)).mpr c)]
    · unfold B_X8_speaks_40
      rw [if_pos ((nI_leI (a := n) (b := i + 1) (by omega) (by omega)).mpr c)]
  have kl := nxp_lt (n := n) (p := p) (i := i + 1) hp (by omega)
  have C : B_X5_moveSite_46 K (nI p) f (nI m) (nI (i + 1)) P (nI a) sh lo = if g 72 = 0 then J_X5_moveSite_102_r47 K (nI (nxp n p (i + 1))) (nI m) (nI (i + 1)) f P (nI a) sh lo else some (.inr (1, nI m, P, nI a, sh, lo)) := by
    unfold B_X5_moveSite_46 F_X5_isAbove
    rw [h3, if_neg (mt (nI_leI (a := n) (b := i + 1) (by omega) (by omega)).mp c), if_neg (show ¬ (8 : Int32) ≤ nI (i + 1) from mt (nI_leI (a := 8) (b := i + 1) (by omega) (by omega)).mp (by omega)), e672, nI_add]
    by_cases d : g 72 = 0
    · rw [if_pos d, if_pos d, xb1, if_pos rfl]
      unfold nxp
      by_cases k : n ≤ p + (i + 1)
      · rw [if_pos k, if_pos ((nI_leI (a := n) (b := p + (i + 1)) (by omega) (by omega)).mpr k), xsub k]
      · rw [if_neg k, if_neg (mt (nI_leI (a := n) (b := p + (i + 1)) (by omega) (by omega)).mp k)]
    · rw [if_neg d, if_neg d, xb1, if_neg (by decide)]
  have kk : (nI p + nI (i + 1)) - (nI p + nI (i + 1)) / nI n * nI n = nI (nxp n p (i + 1)) := by
    rw [nI_add, nI_mod (by omega) (by omega), nxp_mod hp (by omega)]
  have nz : ¬ nI n = (0 : Int32) := nI_ne0 (by omega) (by omega)
  by_cases d : g 72 = 0
  · rw [if_pos d] at C
    generalize hk : nxp n p (i + 1) = k at C kk kl
    have kn : ¬ ∃ o, o < i + 1 ∧ k = nxp n p o := fun ⟨o, ho, e⟩ => nxp_ne hp (show i + 1 < n by omega) ho (hk.trans e)
    have kb : m / 2 ^ k % 2 = 0 := Decidable.byContradiction (fun z => kn (hmm k (by omega) z))
    have M : B_X8_speaks_40 K (nI p) (nI n) g (nI m) 0 (nI (i + 1)) sx sy (nI a) A = (bd1 (F_X8_isFrozen (nI k) g) (fun r_10 => if r_10 = (0 : Int32) then ixF (nI a) 8 (nmF (upd A (nI a).toNatClampNeg (nI k)) (fun f_15 => bd3 (F_X8_shares K (nI m ||| ((1 : Int32) <<< (nI k &&& (31 : Int32)))) g (nI n) sx sy) (fun r_16 w_17 w_18 => some (.inl (nI m ||| ((1 : Int32) <<< (nI k &&& (31 : Int32))), r_16, nI (i + 1) + (1 : Int32), w_17, w_18, nI a + (1 : Int32), f_15))))) else some (.inl (nI m, 0, nI (i + 1) + (1 : Int32), sx, sy, nI a, A)))) := by
      unfold B_X8_speaks_40
      rw [if_neg (mt (nI_leI (a := n) (b := i + 1) (by omega) (by omega)).mp c), if_pos d, if_pos rfl, xnz nz, kk]
    unfold J_X5_moveSite_102_r47 at C
    rw [fz_c h.1 kl, xb1] at C
    rw [fz_m (show k < 8 by omega), xb1] at M
    by_cases z : g (76 + k) = 1
    · rw [if_pos z, if_neg (by decide), nI_1] at C
      rw [if_pos z, if_neg (by decide), nI_1] at M
      refine Or.inl ⟨by omega, _, _, C, M, m, a, hm, rfl, rfl, rfl, rfl, rfl, rfl, rfl, by omega, by omega, hbc, hPA, ?_⟩
      intro j hj hb
      obtain ⟨o, ho, e⟩ := hmm j hj hb
      exact ⟨o, by omega, e⟩
    · obtain ⟨g1, g2, g3⟩ := grp_or m m8 k (by omega) kb
      have m2 : m + 2 ^ k < 2 ^ n := grp_lt n (by omega) m hm k kl kb
      have m28 : m + 2 ^ k < 256 := Nat.lt_of_lt_of_le m2 (Nat.pow_le_pow_right (by decide) n8)
      obtain ⟨v, q0, q1, r0, r1, sh', lo', sx', sy', hv, hr0, hr1, c1, c2, c3, c4⟩ := sh_both (sh := sh) (lo := lo) (sx := sx) (sy := sy) hK h hg d m28 (by omega)
      have N : F_X5_noteAsked (nI k) P (nI a) = some (upd P a (nI k), nI (a + 1)) := by
        unfold F_X5_noteAsked
        rw [if_neg (show ¬ (8 : Int32) ≤ nI a from mt (nI_leI (a := 8) (b := a) (by omega) (by omega)).mp (by omega)), xixn (by omega) (by decide), nI_clamp (by omega), xnm, nI_1]
      rw [if_neg z, if_pos rfl, N, xb2, g1, c1, xb3, nI_1] at C
      rw [if_neg z, if_pos rfl, xixn (show a < 8 by omega) (by decide), nI_clamp (show a < 2 ^ 31 by omega), xnm, g1, c2, xb3, nI_1, nI_1] at M
      have PA : ∀ j, j < a + 1 → upd P a (nI k) j = upd A a (nI k) j := fun j hj => by
        by_cases e : j = a
        · rw [e, upd_at, upd_at]
        · rw [upd_ne e, upd_ne e]
          exact hPA j (by omega)
      have hmm2 : ∀ j, j < 8 → ¬ (m + 2 ^ k) / 2 ^ j % 2 = 0 → ∃ o, o < i + 1 + 1 ∧ j = nxp n p o := fun j hj hb => by
        rcases g3 j hj hb with e | e
        · exact ⟨i + 1, by omega, e.trans hk.symm⟩
        · obtain ⟨o, ho, e2⟩ := hmm j hj e
          exact ⟨o, by omega, e2⟩
      rcases hv with v0 | v1
      · rw [v0, if_pos rfl] at C
        rw [v0] at M
        exact Or.inl ⟨by omega, _, _, C, M, m + 2 ^ k, a + 1, m2, rfl, rfl, rfl, rfl, rfl, rfl, rfl, by omega, by omega, by omega, PA, hmm2⟩
      · rw [v1, if_neg (by decide)] at C
        rw [v1] at M
        refine Or.inr ⟨_, (nI (m + 2 ^ k), 1, sx', sy', nI (a + 1), upd A a (nI k)), C, ?_, m + 2 ^ k, a + 1, m2, rfl, rfl, rfl, rfl, by omega, PA, Or.inr ⟨rfl, rfl, by omega, q0, q1, r0, r1, hr0, hr1, c3, c4⟩⟩
        intro J hJ
        obtain ⟨J2, rfl⟩ : ∃ J2, J = J2 + 1 + 1 := ⟨J - 2, by omega⟩
        rw [lp_one (u' := (nI (m + 2 ^ k), 1, nI (i + 1 + 1), sx', sy', nI (a + 1), upd A a (nI k))) (show (fun u9 : Int32 × Int32 × Int32 × (Nat → Int32) × (Nat → Int32) × Int32 × (Nat → Int32) => B_X8_speaks_40 K (nI p) (nI n) g u9.1 u9.2.1 u9.2.2.1 u9.2.2.2.1 u9.2.2.2.2.1 u9.2.2.2.2.2.1 u9.2.2.2.2.2.2) (nI m, 0, nI (i + 1), sx, sy, nI a, A) = _ from M)]
        refine lp_end ?_
        show B_X8_speaks_40 K (nI p) (nI n) g (nI (m + 2 ^ k)) 1 (nI (i + 1 + 1)) sx' sy' (nI (a + 1)) (upd A a (nI k)) = _
        unfold B_X8_speaks_40
        rw [if_pos d, if_neg (show ¬ (1 : Int32) = 0 by decide)]
        by_cases w : nI n ≤ nI (i + 1 + 1)
        · rw [if_pos w]
        · rw [if_neg w]
  · rw [if_neg d] at C
    refine Or.inr ⟨(1, nI m, P, nI a, sh, lo), (nI m, 0, sx, sy, nI a, A), C, goE ?_, m, a, hm, rfl, rfl, rfl, rfl, by omega, hPA, Or.inl ⟨rfl, rfl⟩⟩
    unfold B_X8_speaks_40
    rw [if_neg (mt (nI_leI (a := n) (b := i + 1) (by omega) (by omega)).mp c), if_neg d]
/-- a move's shift of the reference's row -/
def mvG (i : Nat) (x y : Int32) (g : Nat → Int32) : Nat → Int32 := upd (upd g (0 + i) (g (0 + i) + x)) (8 + i) (upd g (0 + i) (g (0 + i) + x) (8 + i) + y)
theorem RowG.of {g g' : Nat → Int32} (h : RowG g) (h1 : g' 64 = g 64) (h2 : g' 72 = g 72) : RowG g' := ⟨by rw [h1]; exact h.law, by rw [h2]; exact h.abv⟩
theorem sf_both {n i : Nat} {f g : Nat → Int32} {x y : Int32} (h : RowR n f g) (hi : i < n) : ∃ f', F_X5_shift (nI i) x y f = some f' ∧ RowR n f' (mvG i x y g) := by
  have n8 := h.n8
  have e0 : f (17 + 8 * i + 0) = g (0 + i) := h.1.2.2.1 i 0 hi (by decide)
  have r1 : RowR n (upd f (17 + 8 * i + 0) (g (0 + i) + x)) (upd g (0 + i) (g (0 + i) + x)) := h.put (c := 0) hi (by decide) (by decide) (by decide) (g (0 + i) + x)
  have e1 : upd f (17 + 8 * i + 0) (g (0 + i) + x) (17 + 8 * i + 1) = upd g (0 + i) (g (0 + i) + x) (8 + i) := r1.1.2.2.1 i 1 hi (by decide)
  have r2 : RowR n (upd (upd f (17 + 8 * i + 0) (g (0 + i) + x)) (17 + 8 * i + 1) (upd g (0 + i) (g (0 + i) + x) (8 + i) + y)) (mvG i x y g) := r1.put (c := 1) hi (by decide) (by decide) (by decide) (upd g (0 + i) (g (0 + i) + x) (8 + i) + y)
  refine ⟨_, ?_, r2⟩
  unfold F_X5_shift
  rw [bx_of (c := 0) (by rfl) (by omega) (by decide), xb1, e0, bx_put (c := 0) (by rfl) (by omega) (by decide), xb1, bx_of (c := 1) (by rfl) (by omega) (by decide), xb1, e1, bx_put (c := 1) (by rfl) (by omega) (by decide), xb1]
theorem qs_both {n i K : Nat} {f g : Nat → Int32} (hK : 200000 ≤ K) (h : RowR n f g) (hg : RowG g) (hi : i < n) : F_X5_isQuiet (nI i) f = some (qvl f (cdr f i 0) (cdr f i 1)) ∧ F_X8_isQuiet K (nI i) g (nI n) = some (qvl f (cdr f i 0) (cdr f i 1)) := by
  have n8 := h.n8
  have b0 : F_X5_drift (nI i) (0 : Int32) f = some (cdr f i 0) := b_drift (a := 0) (by omega) (by decide)
  have b1 : F_X5_drift (nI i) (1 : Int32) f = some (cdr f i 1) := b_drift (a := 1) (by omega) (by decide)
  obtain ⟨d0, d1⟩ := dr_both h.1.2.2.1 hi
  constructor
  · unfold F_X5_isQuiet
    rw [b0, xb1, b1, xb1, qvl_is, xb1]
  · unfold F_X8_isQuiet
    rw [m_drX (by omega), xb1, m_drY (by omega), xb1, ← q_both hK h hg, qvl_is, xb1, d0, d1]
/-- a move -/
theorem mv_both {n i K : Nat} {f g P A sh lo sx sy : Nat → Int32} {x y ac oc as ou : Int32} (hK : 200000 ≤ K) (h : RowR n f g) (hg : RowG g) (hi : i < n) : ∃ (r o : Int32) (a : Nat) (f' g' P' A' sh' lo' sx' sy' : Nat → Int32), F_X5_moveSite K (nI i) x y f P ac oc sh lo = some (r, f', P', nI a, o, sh', lo') ∧ F_X8_movesNow K (nI i) x y g (nI n) sx sy as ou A = some (r, g', sx', sy', nI a, o, A') ∧ a < 8 ∧ (∀ j, j < a → P' j = A' j) ∧ RowR n f' g' ∧ RowG g' ∧ (∃ m, m ≤ 100 ∧ r = nI m) ∧ ∀ k, (k < 16 ∨ 48 ≤ k) → ¬ k = 68 → ¬ k = 69 → ¬ k = 70 → ¬ k = 71 → ¬ k = 72 → g' k = mvG i x y g k := by
  have n8 := h.n8
  obtain ⟨f1, s1, R1⟩ := sf_both (x := x) (y := y) h hi
  have G1 : RowG (mvG i x y g) := hg.of (by unfold mvG; rw [upd_ne (by omega), upd_ne (by omega)]) (by unfold mvG; rw [upd_ne (by omega), upd_ne (by omega)])
  have M : F_X8_movesNow K (nI i) x y g (nI n) sx sy as ou A = F_X8_speaks K (nI i) (mvG i x y g) (nI n) sx sy as ou A := by
    unfold F_X8_movesNow
    simp only [bm_ix (A := (0 : Int32)) (a := 0) rfl (show 0 + i < 265 by omega), bm_ix (A := (8 : Int32)) (a := 8) rfl (show 8 + i < 265 by omega), bm_cl (A := (0 : Int32)) (a := 0) rfl (show 0 + i < 265 by omega), bm_cl (A := (8 : Int32)) (a := 8) rfl (show 8 + i < 265 by omega), xnm]
    show bd7 (F_X8_speaks K (nI i) (mvG i x y g) (nI n) sx sy as ou A) (fun r_7 w_8 w_9 w_10 w_11 w_12 w_13 => some (r_7, w_8, w_9, w_10, w_11, w_12, w_13)) = _
    cases F_X8_speaks K (nI i) (mvG i x y g) (nI n) sx sy as ou A <;> rfl
  rw [M]
  obtain ⟨c1, c2⟩ := qs_both hK R1 G1 hi
  unfold F_X5_moveSite F_X8_speaks
  rw [s1, xb1, c1, xb1, c2, xb1]
  generalize mvG i x y g = g1 at R1 G1 ⊢
  by_cases c : qvl f1 (cdr f1 i 0) (cdr f1 i 1) = 0
  · rw [if_pos c, if_pos c, xnm, xnm]
    have q12 : f1 12 = g1 68 := R1.1.2.2.2.1 (12, 68) (by decide)
    have R2 : RowR n (upd f1 12 (f1 12 + 1)) (upd g1 68 (g1 68 + 1)) := by
      rw [q12]
      exact R1.scal (by decide) _
    have G2 : RowG (upd g1 68 (g1 68 + 1)) := G1.of (upd_ne (by decide)) (upd_ne (by decide))
    have fr2 : ∀ k, ¬ k = 68 → upd g1 68 (g1 68 + 1) k = g1 k := fun k hk => upd_ne hk
    generalize upd f1 12 (f1 12 + 1) = f2 at R2 ⊢
    generalize upd g1 68 (g1 68 + 1) = g2 at R2 G2 fr2 ⊢
    obtain ⟨p1, p2, p3⟩ := grp_1 i (by omega)
    rw [p1]
    have h0 : SqR n i 0 (nI (2 ^ i), (1 : Int32), P, (0 : Int32), sh, lo) (nI (2 ^ i), (0 : Int32), (1 : Int32), sx, sy, (0 : Int32), A) := ⟨2 ^ i, 0, Nat.pow_lt_pow_right (by decide) hi, rfl, rfl, rfl, rfl, rfl, rfl, rfl, Nat.le_refl _, by omega, p2, fun j hj => absurd hj (Nat.not_lt_zero _), fun j hj hb => ⟨0, by omega, (p3 j hj hb).trans (nxp_0 hi).symm⟩⟩
    obtain ⟨r, u, l1, l2, m, a, hm, k1, k2, k3, k4, ha, hPA, hQ⟩ := lp_twoXA (b := fun u9 : Int32 × Int32 × (Nat → Int32) × Int32 × (Nat → Int32) × (Nat → Int32) => B_X5_moveSite_46 K (nI i) f2 u9.1 u9.2.1 u9.2.2.1 u9.2.2.2.1 u9.2.2.2.2.1 u9.2.2.2.2.2) (d := fun u9 : Int32 × Int32 × Int32 × (Nat → Int32) × (Nat → Int32) × Int32 × (Nat → Int32) => B_X8_speaks_40 K (nI i) (nI n) g2 u9.1 u9.2.1 u9.2.2.1 u9.2.2.2.1 u9.2.2.2.2.1 u9.2.2.2.2.2.1 u9.2.2.2.2.2.2) (SqR n i) (SqQ n) (n := 8) (fun j s t _ q9 => SqR.step hK R2 G2 hi q9) 8 0 _ _ K K (by omega) (by omega) (by omega) h0
    obtain ⟨tg, x4, P', ac', sh', lo'⟩ := r
    obtain ⟨x2, x3, sx', sy', as', A'⟩ := u
    have k1 : x4 = nI m := k1
    have k2 : x2 = nI m := k2
    have k3 : ac' = nI a := k3
    have k4 : as' = nI a := k4
    subst k1 k2 k3 k4
    have hPA : ∀ j, j < a → P' j = A' j := hPA
    rw [l1, l2, xb6, xb6]
    unfold J_X8_speaks_123
    rcases hQ with ⟨z1, z2⟩ | ⟨z1, z2, z3, q0, q1, r0, r1, hr0, hr1, ⟨w1, w2, w3, w4⟩, hs⟩
    · have z1 : tg = 1 := z1
      have z2 : x3 = 0 := z2
      obtain ⟨f3, g3, a1, a2, R3, G3, fr3⟩ := ha_both hK R2.1 G2.law
      unfold J_X5_moveSite_153
      rw [z1, z2, if_neg (by decide), if_pos rfl, if_pos rfl, a1, xb1, a2, xb1, show f3 3 = nI n from R3.1.2.1]
      refine ⟨_, _, a, f3, g3, P', A', sh', lo', sx', sy', rfl, rfl, by omega, hPA, R3, G3, ⟨1 + 2 * a + (n - 1 - a) + n, by omega, ?_⟩, ?_⟩
      · rw [show (1 : Int32) = nI 1 from rfl, show (2 : Int32) = nI 2 from rfl, nI_mul, nI_add, xsub (show 1 ≤ n by omega), xsub (show a ≤ n - 1 by omega), nI_add, nI_add]
      intro k b0 b1 b2 b3 b4 b5
      rw [fr3 k b0 b3 b4 b5, fr2 k b1]
    · have z1 : tg = 0 := z1
      have z2 : x3 = 1 := z2
      have m8 : m < 256 := Nat.lt_of_lt_of_le hm (Nat.pow_le_pow_right (by decide) n8)
      have bn : bcn m n = a + 1 := (grp_n n (by omega) m hm).trans z3
      obtain ⟨f3, g3, a1, a2, R3, fr3⟩ := bl_both (ac := nI a) (oc := 0) hK R2 m8 hr0 hr1 w1 w2 w3 w4 hs
      rw [z1, z2, if_pos rfl, a1, xb3, if_neg (show ¬ (1 : Int32) = 0 by decide), a2, xb1, xnm, bn]
      refine ⟨_, _, a, f3, _, P', A', sh', lo', sx', sy', rfl, ?_, by omega, hPA, R3, ?_, ⟨1 + 2 * a + (a + 1), by omega, ?_⟩, ?_⟩
      · rw [← nI_1 a, Int32.add_assoc]
      · exact G2.of ((upd_ne (by decide)).trans (fr3 64 (by omega))) ((upd_ne (by decide)).trans (fr3 72 (by omega)))
      · rw [show (1 : Int32) = nI 1 from rfl, show (2 : Int32) = nI 2 from rfl, nI_mul, nI_add, nI_add]
      · intro k b0 b1 b2 b3 b4 b5
        rw [upd_ne b2, fr3 k (by omega), fr2 k b1]
  · rw [if_neg c, if_neg c]
    exact ⟨_, _, 0, f1, g1, P, A, sh, lo, sx, sy, rfl, rfl, by omega, fun j hj => absurd hj (Nat.not_lt_zero _), R1, G1, ⟨0, by omega, rfl⟩, fun k _ _ _ _ _ _ => rfl⟩
