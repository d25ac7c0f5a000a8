/-! Stage B, 22: a new watch, in both -/
def zrF (f : Nat → Int32) (j : Nat) : Nat → Int32 := fun k => if k < j then 0 else f k
theorem zrF_st {f : Nat → Int32} {j : Nat} : upd (zrF f j) j 0 = zrF f (j + 1) := by
  funext k
  by_cases c : k = j
  · rw [c, upd_at]
    unfold zrF
    rw [if_pos (by omega)]
  · rw [upd_ne c]
    unfold zrF
    by_cases d : k < j
    · rw [if_pos d, if_pos (by omega)]
    · rw [if_neg d, if_neg (by omega)]
theorem zrF_0 {f : Nat → Int32} : zrF f 0 = f := by
  funext k
  unfold zrF
  rw [if_neg (by omega)]
theorem zrF_lt {f : Nat → Int32} {j k : Nat} (h : k < j) : zrF f j k = 0 := by unfold zrF; rw [if_pos h]
theorem c_zero {K : Nat} {f : Nat → Int32} (hK : 200000 ≤ K) : lpF (fun u9 : Int32 × (Nat → Int32) => B_X5_begin_2 u9.1 u9.2) K ((0 : Int32), f) = some (zrF f 81) := by
  have h : lpF (fun u9 : Int32 × (Nat → Int32) => B_X5_begin_2 u9.1 u9.2) K (nI 0, zrF f 0) = some (zrF f 81) := by
    refine lp_for (fun j => (nI j, zrF f j)) (n := 81) (by omega) (fun j hj => ?_) ?_
    · show B_X5_begin_2 (nI j) (zrF f j) = some (.inl (nI (j + 1), zrF f (j + 1)))
      unfold B_X5_begin_2
      rw [if_neg (show ¬ (81 : Int32) ≤ nI j from mt (nI_leI (a := 81) (b := j) (by omega) (by omega)).mp (by omega)), xixn (by omega) (by decide), xnm, nI_clamp (by omega), zrF_st, nI_1]
    · show B_X5_begin_2 (nI 81) (zrF f 81) = _
      unfold B_X5_begin_2
      rw [if_pos (by decide)]
  rw [zrF_0] at h
  exact h
theorem m_zero {K : Nat} {g : Nat → Int32} (hK : 200000 ≤ K) : lpF (fun u9 : Int32 × (Nat → Int32) => B_X8_takeWatch_10 u9.1 u9.2) K ((0 : Int32), g) = some (zrF g 265) := by
  have h : lpF (fun u9 : Int32 × (Nat → Int32) => B_X8_takeWatch_10 u9.1 u9.2) K (nI 0, zrF g 0) = some (zrF g 265) := by
    refine lp_for (fun j => (nI j, zrF g j)) (n := 265) (by omega) (fun j hj => ?_) ?_
    · show B_X8_takeWatch_10 (nI j) (zrF g j) = some (.inl (nI (j + 1), zrF g (j + 1)))
      unfold B_X8_takeWatch_10
      rw [if_neg (show ¬ (265 : Int32) ≤ nI j from mt (nI_leI (a := 265) (b := j) (by omega) (by omega)).mp (by omega)), xixn (by omega) (by decide), xnm, nI_clamp (by omega), zrF_st, nI_1]
    · show B_X8_takeWatch_10 (nI 265) (zrF g 265) = _
      unfold B_X8_takeWatch_10
      rw [if_pos (by decide)]
  rw [zrF_0] at h
  exact h
/-- the places, put one behind the other -/
def plcF (pl f : Nat → Int32) : Nat → Nat → Int32
  | 0 => f
  | i + 1 => upd (upd (plcF pl f i) (17 + 8 * i + 0) (pl (2 * i))) (17 + 8 * i + 1) (pl (2 * i + 1))
theorem plcF_low {pl f : Nat → Int32} {k : Nat} : ∀ i, (k < 17 ∨ ¬ (k - 17) % 8 < 2 ∨ 17 + 8 * i ≤ k) → plcF pl f i k = f k := by
  intro i
  induction i with
  | zero => exact fun _ => rfl
  | succ i ih =>
    intro h
    show upd (upd (plcF pl f i) (17 + 8 * i + 0) (pl (2 * i))) (17 + 8 * i + 1) (pl (2 * i + 1)) k = f k
    rw [upd_ne (by omega), upd_ne (by omega)]
    exact ih (by omega)
theorem plcF_at {pl f : Nat → Int32} {j : Nat} : ∀ i, j < i → plcF pl f i (17 + 8 * j + 0) = pl (2 * j) ∧ plcF pl f i (17 + 8 * j + 1) = pl (2 * j + 1) := by
  intro i
  induction i with
  | zero => exact fun h => absurd h (Nat.not_lt_zero _)
  | succ i ih =>
    intro h
    show upd (upd (plcF pl f i) (17 + 8 * i + 0) (pl (2 * i))) (17 + 8 * i + 1) (pl (2 * i + 1)) (17 + 8 * j + 0) = pl (2 * j) ∧ upd (upd (plcF pl f i) (17 + 8 * i + 0) (pl (2 * i))) (17 + 8 * i + 1) (pl (2 * i + 1)) (17 + 8 * j + 1) = pl (2 * j + 1)
    by_cases e : j = i
    · rw [e, upd_ne (by omega), upd_at, upd_at]
      exact ⟨rfl, rfl⟩
    · rw [upd_ne (by omega), upd_ne (by omega), upd_ne (by omega), upd_ne (by omega)]
      exact ih (by omega)
theorem c_places {K s : Nat} {pl f : Nat → Int32} (hK : 200000 ≤ K) (hs : s ≤ 8) (h3 : f 3 = nI s) : lpF (fun u9 : Int32 × (Nat → Int32) => B_X5_begin_74 pl u9.1 u9.2) K ((0 : Int32), f) = some (plcF pl f s) := by
  refine lp_for (fun j => (nI j, plcF pl f j)) (n := s) (by omega) (fun j hj => ?_) ?_
  · show B_X5_begin_74 pl (nI j) (plcF pl f j) = some (.inl (nI (j + 1), upd (upd (plcF pl f j) (17 + 8 * j + 0) (pl (2 * j))) (17 + 8 * j + 1) (pl (2 * j + 1))))
    have e1 : (2 : Int32) * nI j = nI (2 * j) := by rw [show (2 : Int32) = nI 2 from rfl, nI_mul]
    have e2 : nI (2 * j) + (1 : Int32) = nI (2 * j + 1) := nI_1 _
    unfold B_X5_begin_74 F_X5_sites
    rw [xb1, plcF_low j (Or.inl (by decide)), h3, if_neg (mt (nI_leI (a := s) (b := j) (by omega) (by omega)).mp (by omega)), e1, e2, xixn (by omega) (by decide), nI_clamp (by omega), nI_clamp (by omega), bx_put (c := 0) (by rfl) (by omega) (by decide), xb1, xixn (by omega) (by decide), bx_put (c := 1) (by rfl) (by omega) (by decide), xb1, nI_1]
  · show B_X5_begin_74 pl (nI s) (plcF pl f s) = _
    unfold B_X5_begin_74 F_X5_sites
    rw [xb1, plcF_low s (Or.inl (by decide)), h3, if_pos ((nI_leI (a := s) (b := s) (by omega) (by omega)).mpr (Nat.le_refl _))]
/-- a site of a new watch: the reference's row -/
def twM (i : Nat) (rp g : Nat → Int32) : Nat → Int32 := upd (upd (upd (upd g (0 + i) (rp (2 * i))) (8 + i) (rp (2 * i + 1))) (16 + i) (rp (2 * i))) (24 + i) (rp (2 * i + 1))
theorem m_tw {i s : Nat} {rp g : Nat → Int32} (hi : i < s) (hs : s ≤ 8) : B_X8_takeWatch_32 rp (nI s) (nI i) g = some (.inl (nI (i + 1), twM i rp g)) := by
  have e1 : (2 : Int32) * nI i = nI (2 * i) := by rw [show (2 : Int32) = nI 2 from rfl, nI_mul]
  have e2 : nI (2 * i) + (1 : Int32) = nI (2 * i + 1) := nI_1 _
  have v1 : upd (upd g (0 + i) (rp (2 * i))) (8 + i) (rp (2 * i + 1)) (0 + i) = rp (2 * i) := by rw [upd_ne (by omega), upd_at]
  have v2 : upd (upd (upd g (0 + i) (rp (2 * i))) (8 + i) (rp (2 * i + 1))) (16 + i) (rp (2 * i)) (8 + i) = rp (2 * i + 1) := by rw [upd_ne (by omega), upd_at]
  unfold B_X8_takeWatch_32
  rw [if_neg (mt (nI_leI (a := s) (b := i) (by omega) (by omega)).mp (by omega)), e1, e2]
  simp only [xixn (show 2 * i < 16 by omega) (by decide), xixn (show 2 * i + 1 < 16 by omega) (by decide), bm_ix (A := (0 : Int32)) (a := 0) rfl (show 0 + i < 265 by omega), bm_ix (A := (8 : Int32)) (a := 8) rfl (show 8 + i < 265 by omega), bm_ix (A := (16 : Int32)) (a := 16) rfl (show 16 + i < 265 by omega), bm_ix (A := (24 : Int32)) (a := 24) rfl (show 24 + i < 265 by omega), bm_cl (A := (0 : Int32)) (a := 0) rfl (show 0 + i < 265 by omega), bm_cl (A := (8 : Int32)) (a := 8) rfl (show 8 + i < 265 by omega), bm_cl (A := (16 : Int32)) (a := 16) rfl (show 16 + i < 265 by omega), bm_cl (A := (24 : Int32)) (a := 24) rfl (show 24 + i < 265 by omega), nI_clamp (show 2 * i < 2 ^ 31 by omega), nI_clamp (show 2 * i + 1 < 2 ^ 31 by omega), xnm, v1, v2, nI_1]
  rfl
def BgR (s : Nat) (pl rp f : Nat → Int32) (i : Nat) (u t : Int32 × (Nat → Int32)) : Prop := u.1 = nI i ∧ t.1 = nI i ∧ (∀ j c, j < i → c < 8 → u.2 (17 + 8 * j + c) = t.2 (8 * c + j)) ∧ (∀ k, 17 + 8 * i ≤ k → u.2 k = f k) ∧ (∀ k, k < 17 → ¬ k = 4 → ¬ k = 5 → u.2 k = f k) ∧ (∀ j c, i ≤ j → j < 8 → c < 8 → t.2 (8 * c + j) = 0) ∧ (∀ k, 64 ≤ k → k < 265 → t.2 k = 0) ∧ u.2 4 = sgm (fun k => t.2 (16 + k)) i ∧ u.2 5 = sgm (fun k => t.2 (24 + k)) i ∧ ∀ j, j < i → t.2 (0 + j) = rp (2 * j) ∧ t.2 (8 + j) = rp (2 * j + 1) ∧ t.2 (48 + j) = 0 ∧ t.2 (56 + j) = 0
theorem BgR.step {s i : Nat} {pl rp f : Nat → Int32} {u t : Int32 × (Nat → Int32)} (s8 : s ≤ 8) (h3 : f 3 = nI s) (hi : i < s) (hpl : ∀ j, j < s → f (17 + 8 * j + 0) = rp (2 * j) ∧ f (17 + 8 * j + 1) = rp (2 * j + 1) ∧ ∀ c, 2 ≤ c → c < 8 → f (17 + 8 * j + c) = 0) (h : BgR s pl rp f i u t) : ∃ u' t', B_X5_hearPlaces_16 u.1 u.2 = some (.inl u') ∧ B_X8_takeWatch_32 rp (nI s) t.1 t.2 = some (.inl t') ∧ BgR s pl rp f (i + 1) u' t' := by
  obtain ⟨x, f1⟩ := u
  obtain ⟨y, g1⟩ := t
  obtain ⟨e1, e2, a1, a2, a3, a4, a5, a6, a7, a8⟩ := h
  have e1 : x = nI i := e1
  have e2 : y = nI i := e2
  subst e1 e2
  have a1 : ∀ j c, j < i → c < 8 → f1 (17 + 8 * j + c) = g1 (8 * c + j) := a1
  have a2 : ∀ k, 17 + 8 * i ≤ k → f1 k = f k := a2
  have a3 : ∀ k, k < 17 → ¬ k = 4 → ¬ k = 5 → f1 k = f k := a3
  have a4 : ∀ j c, i ≤ j → j < 8 → c < 8 → g1 (8 * c + j) = 0 := a4
  have a5 : ∀ k, 64 ≤ k → k < 265 → g1 k = 0 := a5
  have a6 : f1 4 = sgm (fun k => g1 (16 + k)) i := a6
  have a7 : f1 5 = sgm (fun k => g1 (24 + k)) i := a7
  have a8 : ∀ j, j < i → g1 (0 + j) = rp (2 * j) ∧ g1 (8 + j) = rp (2 * j + 1) ∧ g1 (48 + j) = 0 ∧ g1 (56 + j) = 0 := a8
  obtain ⟨p0, p1, p2⟩ := hpl i hi
  have x0 : f1 (17 + 8 * i + 0) = rp (2 * i) := (a2 _ (by omega)).trans p0
  have x1 : f1 (17 + 8 * i + 1) = rp (2 * i + 1) := (a2 _ (by omega)).trans p1
  have W1 : upd f1 (17 + 8 * i + 2) (f1 (17 + 8 * i + 0)) (17 + 8 * i + 1) = rp (2 * i + 1) := (upd_ne (by omega)).trans x1
  have w0 : hrW i f1 (17 + 8 * i + 0) = rp (2 * i) := by
    unfold hrW
    rw [upd_ne (by omega), upd_ne (by omega), upd_ne (by omega), upd_ne (by omega), x0]
  have w1 : hrW i f1 (17 + 8 * i + 1) = rp (2 * i + 1) := by
    unfold hrW
    rw [upd_ne (by omega), upd_ne (by omega), upd_ne (by omega), upd_ne (by omega), x1]
  have w4 : hrW i f1 4 = f1 4 := by
    unfold hrW
    rw [upd_ne (by omega), upd_ne (by omega), upd_ne (by omega), upd_ne (by omega)]
  have w5 : hrW i f1 5 = f1 5 := by
    unfold hrW
    rw [upd_ne (by omega), upd_ne (by omega), upd_ne (by omega), upd_ne (by omega)]
  have C : ∀ k, ¬ k = 4 → ¬ k = 5 → hrC i f1 k = hrW i f1 k := fun k k4 k5 => by
    unfold hrC
    rw [upd_ne k5, upd_ne k4]
  have Wo : ∀ k, (k < 17 + 8 * i + 2 ∨ 17 + 8 * i + 6 ≤ k) → hrW i f1 k = f1 k := fun k hk => by
    unfold hrW
    rw [upd_ne (by omega), upd_ne (by omega), upd_ne (by omega), upd_ne (by omega)]
  have W2 : hrW i f1 (17 + 8 * i + 2) = rp (2 * i) ∧ hrW i f1 (17 + 8 * i + 3) = rp (2 * i + 1) ∧ hrW i f1 (17 + 8 * i + 4) = 0 ∧ hrW i f1 (17 + 8 * i + 5) = 0 := by
    unfold hrW
    refine ⟨?_, ?_, ?_, upd_at⟩
    · rw [upd_ne (by omega), upd_ne (by omega), upd_ne (by omega), upd_at, x0]
    · rw [upd_ne (by omega), upd_ne (by omega), upd_at, W1]
    · rw [upd_ne (by omega), upd_at]
  have T : ∀ k, ¬ k = 0 + i → ¬ k = 8 + i → ¬ k = 16 + i → ¬ k = 24 + i → twM i rp g1 k = g1 k := fun k k0 k1 k2 k3 => by
    unfold twM
    rw [upd_ne k3, upd_ne k2, upd_ne k1, upd_ne k0]
  have T4 : twM i rp g1 (0 + i) = rp (2 * i) ∧ twM i rp g1 (8 + i) = rp (2 * i + 1) ∧ twM i rp g1 (16 + i) = rp (2 * i) ∧ twM i rp g1 (24 + i) = rp (2 * i + 1) := by
    unfold twM
    refine ⟨?_, ?_, ?_, upd_at⟩
    · rw [upd_ne (by omega), upd_ne (by omega), upd_ne (by omega), upd_at]
    · rw [upd_ne (by omega), upd_ne (by omega), upd_at]
    · rw [upd_ne (by omega), upd_at]
  refine ⟨(nI (i + 1), hrC i f1), (nI (i + 1), twM i rp g1), b_hear hi s8 ((a3 3 (by decide) (by decide) (by decide)).trans h3), m_tw hi s8, rfl, rfl, ?_, ?_, ?_, ?_, ?_, ?_, ?_, ?_⟩
  · intro j c hj hc
    show hrC i f1 (17 + 8 * j + c) = twM i rp g1 (8 * c + j)
    rw [C _ (by omega) (by omega)]
    by_cases e : j = i
    · rw [e]
      rcases (show c = 0 ∨ c = 1 ∨ c = 2 ∨ c = 3 ∨ c = 4 ∨ c = 5 ∨ c = 6 ∨ c = 7 by omega) with rfl | rfl | rfl | rfl | rfl | rfl | rfl | rfl
      · exact w0.trans T4.1.symm
      · exact w1.trans T4.2.1.symm
      · exact W2.1.trans T4.2.2.1.symm
      · exact W2.2.1.trans T4.2.2.2.symm
      · rw [W2.2.2.1, T _ (by omega) (by omega) (by omega) (by omega), a4 i 4 (by omega) (by omega) (by omega)]
      · rw [W2.2.2.2, T _ (by omega) (by omega) (by omega) (by omega), a4 i 5 (by omega) (by omega) (by omega)]
      · rw [Wo _ (by omega), T _ (by omega) (by omega) (by omega) (by omega), a4 i 6 (by omega) (by omega) (by omega), a2 _ (by omega), p2 6 (by omega) (by omega)]
      · rw [Wo _ (by omega), T _ (by omega) (by omega) (by omega) (by omega), a4 i 7 (by omega) (by omega) (by omega), a2 _ (by omega), p2 7 (by omega) (by omega)]
    · rw [Wo _ (by omega), T _ (by omega) (by omega) (by omega) (by omega)]
      exact a1 j c (by omega) hc
  · intro k hk
    show hrC i f1 k = f k
    rw [C _ (by omega) (by omega), Wo _ (by omega)]
    exact a2 k (by omega)
  · intro k k1 k4 k5
    show hrC i f1 k = f k
    rw [C _ k4 k5, Wo _ (by omega)]
    exact a3 k k1 k4 k5
  · intro j c hj h8 hc
    show twM i rp g1 (8 * c + j) = 0
    rw [T _ (by omega) (by omega) (by omega) (by omega)]
    exact a4 j c (by omega) h8 hc
  · intro k k1 k2
    show twM i rp g1 k = 0
    rw [T _ (by omega) (by omega) (by omega) (by omega)]
    exact a5 k k1 k2
  · show hrC i f1 4 = sgm (fun k => twM i rp g1 (16 + k)) i + twM i rp g1 (16 + i)
    have q : sgm (fun k => twM i rp g1 (16 + k)) i = sgm (fun k => g1 (16 + k)) i := sgm_eq i (fun k hk => T _ (by omega) (by omega) (by omega) (by omega))
    rw [q, ← a6, T4.2.2.1]
    unfold hrC
    rw [upd_ne (by decide), upd_at, w4, w0]
  · show hrC i f1 5 = sgm (fun k => twM i rp g1 (24 + k)) i + twM i rp g1 (24 + i)
    have q : sgm (fun k => twM i rp g1 (24 + k)) i = sgm (fun k => g1 (24 + k)) i := sgm_eq i (fun k hk => T _ (by omega) (by omega) (by omega) (by omega))
    rw [q, ← a7, T4.2.2.2]
    unfold hrC
    rw [upd_at, upd_ne (by decide), upd_ne (by omega), w5, w1]
  · intro j hj
    show twM i rp g1 (0 + j) = rp (2 * j) ∧ twM i rp g1 (8 + j) = rp (2 * j + 1) ∧ twM i rp g1 (48 + j) = 0 ∧ twM i rp g1 (56 + j) = 0
    by_cases e : j = i
    · rw [e]
      exact ⟨T4.1, T4.2.1, (T _ (by omega) (by omega) (by omega) (by omega)).trans (a4 i 6 (by omega) (by omega) (by omega)), (T _ (by omega) (by omega) (by omega) (by omega)).trans (a4 i 7 (by omega) (by omega) (by omega))⟩
    · rw [T _ (by omega) (by omega) (by omega) (by omega), T _ (by omega) (by omega) (by omega) (by omega), T _ (by omega) (by omega) (by omega) (by omega), T _ (by omega) (by omega) (by omega) (by omega)]
      exact a8 j (by omega)
theorem row_frz_0 {g : Nat → Int32} : ∀ n, (∀ j, j < n → g (76 + j) = 0) → row_frz g n = 0 := by
  intro n
  induction n with
  | zero => exact fun _ => rfl
  | succ k ih =>
    intro h
    show row_frz g k ||| (if g (76 + k) = 1 then (1 : Int32) <<< (nI k &&& 31) else 0) = 0
    rw [ih (fun j hj => h j (by omega)), h k (by omega), if_neg (by decide)]
    rfl
theorem in999 {v : Int32} (h : (-999 : Int32) ≤ v ∧ v ≤ (999 : Int32)) : inR v := ⟨Int32.le_trans (by decide) h.1, Int32.le_trans h.2 (by decide)⟩
/-- a new watch -/
theorem bg_both {K s : Nat} {ru pl rp f g bk : Nat → Int32} {la bo go si ac im : Int32} (hK : 200000 ≤ K) (h2 : 2 ≤ s) (h : RdOK s ru pl rp la bo go) : ∃ f' g', F_X5_begin K f ru pl (nI s) = some f' ∧ F_X8_takeWatch K la bo go (nI s) rp g si ac im = some (nI s, g', nI s, 0, 0) ∧ KRow s bk 0 f' g' := by
  obtain ⟨s8, r0, r1, r2, hp, hla, hbo, hgo, hrp⟩ := h
  have em : minF (nI s) (8 : Int32) = nI s := by
    unfold minF
    rw [if_neg (show ¬ (8 : Int32) < nI s from mt (nI_ltI (a := 8) (b := s) (by omega) (by omega)).mp (by omega))]
  unfold F_X5_begin F_X8_takeWatch
  rw [c_zero hK, xb1, xnm, xnm, xnm, xnm, r0, r1, r2, em, m_zero hK, xb1]
  have fx : ∀ k, 4 ≤ k → k < 81 → (upd (upd (upd (upd (zrF f 81) 0 la) 1 bo) 2 go) 3 (nI s)) k = 0 := fun k k1 k2 => by rw [upd_ne (by omega), upd_ne (by omega), upd_ne (by omega), upd_ne (by omega), zrF_lt (by omega)]
  have f0 : (upd (upd (upd (upd (zrF f 81) 0 la) 1 bo) 2 go) 3 (nI s)) 0 = la := by rw [upd_ne (by decide), upd_ne (by decide), upd_ne (by decide), upd_at]
  have f1 : (upd (upd (upd (upd (zrF f 81) 0 la) 1 bo) 2 go) 3 (nI s)) 1 = bo := by rw [upd_ne (by decide), upd_ne (by decide), upd_at]
  have f2 : (upd (upd (upd (upd (zrF f 81) 0 la) 1 bo) 2 go) 3 (nI s)) 2 = go := by rw [upd_ne (by decide), upd_at]
  have f3 : (upd (upd (upd (upd (zrF f 81) 0 la) 1 bo) 2 go) 3 (nI s)) 3 = nI s := upd_at
  generalize upd (upd (upd (upd (zrF f 81) 0 la) 1 bo) 2 go) 3 (nI s) = fa at fx f0 f1 f2 f3 ⊢
  rw [c_places hK s8 f3, xb1]
  have gl : ∀ k, k < 17 → plcF pl fa s k = fa k := fun k hk => plcF_low s (Or.inl hk)
  have gp : ∀ j, j < s → plcF pl fa s (17 + 8 * j + 0) = rp (2 * j) ∧ plcF pl fa s (17 + 8 * j + 1) = rp (2 * j + 1) ∧ ∀ c, 2 ≤ c → c < 8 → plcF pl fa s (17 + 8 * j + c) = 0 := fun j hj => by
    obtain ⟨w1, w2⟩ := plcF_at (pl := pl) (f := fa) s hj
    refine ⟨w1.trans (hp _ (by omega)), w2.trans (hp _ (by omega)), fun c c1 c2 => ?_⟩
    rw [plcF_low s (Or.inr (Or.inl (by omega)))]
    exact fx _ (by omega) (by omega)
  have g3 : plcF pl fa s 3 = nI s := (gl 3 (by decide)).trans f3
  have g4 : plcF pl fa s 4 = 0 := (gl 4 (by decide)).trans (fx 4 (by omega) (by omega))
  generalize plcF pl fa s = fb at gl gp g3 g4 ⊢
  have he : ∀ u t, BgR s pl rp (upd (upd fb 4 0) 5 0) s u t → ∃ r v, (fun u9 : Int32 × (Nat → Int32) => B_X5_hearPlaces_16 u9.1 u9.2) u = some (.inr r) ∧ (fun u9 : Int32 × (Nat → Int32) => B_X8_takeWatch_32 rp (nI s) u9.1 u9.2) t = some (.inr v) ∧ BgR s pl rp (upd (upd fb 4 0) 5 0) s (nI s, r) (nI s, v) := by
    intro u t q
    obtain ⟨x, p1⟩ := u
    obtain ⟨y, p2⟩ := t
    obtain ⟨e1, e2, q⟩ := q
    have e1 : x = nI s := e1
    have e2 : y = nI s := e2
    subst e1 e2
    have le : nI s ≤ nI s := (nI_leI (a := s) (b := s) (by omega) (by omega)).mpr (Nat.le_refl _)
    refine ⟨p1, p2, ?_, ?_, rfl, rfl, q⟩
    · show B_X5_hearPlaces_16 (nI s) p1 = _
      have p3 : p1 3 = nI s := by
        have := q.2.2.1 3 (by decide) (by decide) (by decide)
        rw [upd_ne (by decide), upd_ne (by decide)] at this
        exact this.trans g3
      unfold B_X5_hearPlaces_16 F_X5_sites
      rw [xb1, p3, if_pos le]
    · show B_X8_takeWatch_32 rp (nI s) (nI s) p2 = _
      unfold B_X8_takeWatch_32
      rw [if_pos le]
  have h0 : BgR s pl rp (upd (upd fb 4 0) 5 0) 0 ((0 : Int32), upd (upd fb 4 0) 5 0) ((0 : Int32), zrF g 265) := ⟨rfl, rfl, fun j c hj _ => absurd hj (Nat.not_lt_zero _), fun _ _ => rfl, fun _ _ _ _ => rfl, fun j c _ h8 hc => zrF_lt (by omega), fun k k1 k2 => zrF_lt k2, by show upd (upd fb 4 0) 5 0 4 = 0; rw [upd_ne (by decide), upd_at], by show upd (upd fb 4 0) 5 0 5 = 0; rw [upd_at], fun j hj => absurd hj (Nat.not_lt_zero _)⟩
  obtain ⟨fc, gc, l1, l2, -, -, a1, a2, a3, a4, a5, a6, a7, a8⟩ := lp_two (b := fun u9 : Int32 × (Nat → Int32) => B_X5_hearPlaces_16 u9.1 u9.2) (d := fun u9 : Int32 × (Nat → Int32) => B_X8_takeWatch_32 rp (nI s) u9.1 u9.2) (BgR s pl rp (upd (upd fb 4 0) 5 0)) (fun r v => BgR s pl rp (upd (upd fb 4 0) 5 0) s (nI s, r) (nI s, v)) (n := s) (K := K) (K' := K) (by omega) (by omega) (fun i u t hi q => Or.inl (BgR.step s8 (by rw [upd_ne (by decide), upd_ne (by decide)]; exact g3) hi (fun j hj => by
    rw [upd_ne (by omega), upd_ne (by omega), upd_ne (by omega), upd_ne (by omega)]
    refine ⟨(gp j hj).1, (gp j hj).2.1, fun c c1 c2 => ?_⟩
    rw [upd_ne (by omega), upd_ne (by omega)]
    exact (gp j hj).2.2 c c1 c2) q)) he h0
  have a1 : ∀ j c, j < s → c < 8 → fc (17 + 8 * j + c) = gc (8 * c + j) := a1
  have a3 : ∀ k, k < 17 → ¬ k = 4 → ¬ k = 5 → fc k = (upd (upd fb 4 0) 5 0) k := a3
  have a5 : ∀ k, 64 ≤ k → k < 265 → gc k = 0 := a5
  have a6 : fc 4 = sgm (fun k => gc (16 + k)) s := a6
  have a7 : fc 5 = sgm (fun k => gc (24 + k)) s := a7
  have a8 : ∀ j, j < s → gc (0 + j) = rp (2 * j) ∧ gc (8 + j) = rp (2 * j + 1) ∧ gc (48 + j) = 0 ∧ gc (56 + j) = 0 := a8
  have fc0 : ∀ k, k < 17 → ¬ k = 4 → ¬ k = 5 → fc k = fa k := fun k k1 k2 k3 => by rw [a3 k k1 k2 k3, upd_ne k3, upd_ne k2, gl k k1]
  unfold F_X5_hearPlaces
  rw [xnm, xnm, l1, xb1, l2, xb1, xb1]
  simp only [xnm]
  have z64 : (upd (upd (upd gc 64 la) 65 bo) 66 go) 64 = la := by rw [upd_ne (by decide), upd_ne (by decide), upd_at]
  have z65 : (upd (upd (upd gc 64 la) 65 bo) 66 go) 65 = bo := by rw [upd_ne (by decide), upd_at]
  have z66 : (upd (upd (upd gc 64 la) 65 bo) 66 go) 66 = go := upd_at
  have zz : ∀ k, ¬ k = 64 → ¬ k = 65 → ¬ k = 66 → (upd (upd (upd gc 64 la) 65 bo) 66 go) k = gc k := fun k k1 k2 k3 => by rw [upd_ne k3, upd_ne k2, upd_ne k1]
  generalize upd (upd (upd gc 64 la) 65 bo) 66 go = gd at z64 z65 z66 zz ⊢
  have zr : ∀ k, 67 ≤ k → k < 265 → gd k = 0 := fun k k1 k2 => (zz k (by omega) (by omega) (by omega)).trans (a5 k (by omega) k2)
  have B : RowB s fc gd := by
    refine ⟨s8, (fc0 3 (by decide) (by decide) (by decide)).trans f3, fun j c hj hc => ?_, fun p hq => ?_, ?_⟩
    · rw [zz _ (by omega) (by omega) (by omega)]
      exact a1 j c hj hc
    · obtain ⟨b1, b2, b3, b4, b5, b6, b7⟩ := rowScl_b p hq
      have u0 := rowScl_u p hq (0, 64) (by decide)
      have u1 := rowScl_u p hq (1, 65) (by decide)
      have u2 := rowScl_u p hq (2, 66) (by decide)
      rw [fc0 _ b1 b3 b4]
      by_cases c0 : p.1 = 0
      · rw [c0, show p.2 = 64 from u0.mp c0, f0, z64]
      by_cases c1 : p.1 = 1
      · rw [c1, show p.2 = 65 from u1.mp c1, f1, z65]
      by_cases c2 : p.1 = 2
      · rw [c2, show p.2 = 66 from u2.mp c2, f2, z66]
      have n64 : ¬ p.2 = 64 := fun z => c0 (u0.mpr z)
      have n65 : ¬ p.2 = 65 := fun z => c1 (u1.mpr z)
      have n66 : ¬ p.2 = 66 := fun z => c2 (u2.mpr z)
      rw [fx _ (by omega) (by omega), zr _ (by omega) (by omega)]
    · rw [fc0 7 (by decide) (by decide) (by decide), fx 7 (by omega) (by omega), row_frz_0 s (fun j hj => zr _ (by omega) (by omega))]
  obtain ⟨k3, hk3, ek3⟩ := in_nat (p := la) (n := 3) (by decide) hla
  obtain ⟨kg, hkg, ekg⟩ := in_nat (p := go) (n := 9999) (by decide) ⟨Int32.le_trans (by decide) hgo.1, hgo.2⟩
  have hkg1 : 1 ≤ kg := (nI_leI (a := 1) (b := kg) (by omega) (by omega)).mp (by rw [← ekg]; exact hgo.1)
  have G : RowG gd := ⟨⟨k3, by omega, z64.trans ek3⟩, Or.inl (zr 72 (by omega) (by omega))⟩
  have R : RowR s fc gd := by
    refine ⟨B, ?_, ?_⟩
    · rw [a6]
      exact sgm_eq s (fun k hk => (zz _ (by omega) (by omega) (by omega)).symm)
    · rw [a7]
      exact sgm_eq s (fun k hk => (zz _ (by omega) (by omega) (by omega)).symm)
  have e16 : F_X8_sum K (16 : Int32) gd (nI s) = some (fc 4) := by rw [R.sx]; exact bm_sum hK s8 (b := 16) (by decide)
  have e24 : F_X8_sum K (24 : Int32) gd (nI s) = some (fc 5) := by rw [R.sy]; exact bm_sum hK s8 (b := 24) (by decide)
  obtain ⟨v, ev, -⟩ := u_isAllowed (p1 := fc 4) (p2 := fc 5) (g := gd)
  rw [e16, xb1, e24, xb1, alw_both B G, ev, xb1, xb1]
  have fin : ∀ k0 : Int32, (k0 = 0 ∨ k0 = 1) → KRow s bk 0 (upd fc 6 k0) (upd gd 72 k0) := by
    intro k0 hk0
    refine ⟨R.scal (by decide) k0, ⟨⟨by rw [upd_ne (by decide)]; exact G.1, by rw [upd_at]; exact hk0⟩, fun _ => ⟨fun j hj => ?_, fun j hj => ?_, ?_⟩⟩, ?_, ⟨?_, fun e w he hw => ?_⟩, ?_⟩
    · rw [upd_ne (by omega), upd_ne (by omega), zz _ (by omega) (by omega) (by omega), zz _ (by omega) (by omega) (by omega), (a8 j hj).1, (a8 j hj).2.1]
      exact ⟨in999 (hrp _ (by omega)), in999 (hrp _ (by omega))⟩
    · rw [upd_ne (by omega)]
      exact Or.inl (zr _ (by omega) (by omega))
    · refine ⟨kg, 0, 0, hkg1, by omega, by rw [upd_ne (by decide), z66, ekg], by omega, by rw [upd_ne (by decide)]; exact zr 73 (by omega) (by omega), by omega, by rw [upd_ne (by decide)]; exact zr 75 (by omega) (by omega), fun j hj => ⟨0, by omega, ?_⟩, fun j hj => ⟨0, ?_, Or.inl rfl⟩⟩
      · rw [upd_ne (by omega), zz _ (by omega) (by omega) (by omega)]
        exact (a8 j hj).2.2.1
      · rw [upd_ne (by omega), zz _ (by omega) (by omega) (by omega)]
        exact (a8 j hj).2.2.2
    · rw [upd_ne (by decide), fc0 16 (by decide) (by decide) (by decide)]
      exact fx 16 (by omega) (by omega)
    · rw [upd_ne (by decide)]
      exact zr 84 (by omega) (by omega)
    · exact absurd he (Nat.not_lt_zero _)
    · rw [upd_ne (by decide), upd_ne (by decide), fc0 11 (by decide) (by decide) (by decide), zr 67 (by omega) (by omega)]
      exact fx 11 (by omega) (by omega)
  by_cases c : v = 0
  · rw [if_pos c, if_pos c]
    exact ⟨_, _, rfl, rfl, fin 1 (Or.inr rfl)⟩
  · rw [if_neg c, if_neg c]
    exact ⟨_, _, rfl, rfl, fin 0 (Or.inl rfl)⟩
