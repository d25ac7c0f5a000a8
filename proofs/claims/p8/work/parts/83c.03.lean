/-! Stage B, 3: all are heard, in both -/
theorem row_self {f : Nat → Int32} {i : Nat} : upd f i (f i) = f := by
  funext j
  by_cases e : j = i
  · rw [e, upd_at]
  · rw [upd_ne e]
theorem RowR.scal {n a b : Nat} {f g : Nat → Int32} (h : RowR n f g) (hp : (a, b) ∈ rowScl) (v : Int32) : RowR n (upd f a v) (upd g b v) := by
  have n8 := h.n8
  obtain ⟨c1, c2, c3, c4, c5, c6, c7⟩ := rowScl_b _ hp
  have c6 : 64 ≤ b := c6
  refine ⟨h.toRowB.scal hp v, ?_, ?_⟩
  · rw [upd_ne (fun z => c3 z.symm), h.sx]
    exact sgm_eq n (fun k hk => (upd_ne (show ¬ 16 + k = b by omega)).symm)
  · rw [upd_ne (fun z => c4 z.symm), h.sy]
    exact sgm_eq n (fun k hk => (upd_ne (show ¬ 24 + k = b by omega)).symm)
/-- a site is heard: the class's row -/
def hrW (i : Nat) (f : Nat → Int32) : Nat → Int32 := upd (upd (upd (upd f (17 + 8 * i + 2) (f (17 + 8 * i + 0))) (17 + 8 * i + 3) (upd f (17 + 8 * i + 2) (f (17 + 8 * i + 0)) (17 + 8 * i + 1))) (17 + 8 * i + 4) 0) (17 + 8 * i + 5) 0
def hrC (i : Nat) (f : Nat → Int32) : Nat → Int32 := upd (upd (hrW i f) 4 (hrW i f 4 + hrW i f (17 + 8 * i + 0))) 5 (upd (hrW i f) 4 (hrW i f 4 + hrW i f (17 + 8 * i + 0)) 5 + upd (hrW i f) 4 (hrW i f 4 + hrW i f (17 + 8 * i + 0)) (17 + 8 * i + 1))
/-- a site is heard: the reference's row -/
def hrM (i : Nat) (g : Nat → Int32) : Nat → Int32 := upd (upd (upd (upd g (16 + i) (g (0 + i))) (24 + i) (upd g (16 + i) (g (0 + i)) (8 + i))) (32 + i) 0) (40 + i) 0
theorem b_hear {i n : Nat} {f : Nat → Int32} (hi : i < n) (hn : n ≤ 8) (h3 : f 3 = nI n) : B_X5_hearPlaces_16 (nI i) f = some (.inl (nI (i + 1), hrC i f)) := by
  unfold B_X5_hearPlaces_16 F_X5_sites
  rw [xb1, h3, if_neg (mt (nI_leI (a := n) (b := i) (by omega) (by omega)).mp (by omega)), bx_of (c := 0) (by rfl) (by omega) (by decide), xb1, bx_put (c := 2) (by rfl) (by omega) (by decide), xb1, bx_of (c := 1) (by rfl) (by omega) (by decide), xb1, bx_put (c := 3) (by rfl) (by omega) (by decide), xb1, bx_put (c := 4) (by rfl) (by omega) (by decide), xb1, bx_put (c := 5) (by rfl) (by omega) (by decide), xb1, bx_of (c := 0) (by rfl) (by omega) (by decide), xb1, xnm, bx_of (c := 1) (by rfl) (by omega) (by decide), xb1, xnm, nI_1]
  rfl
theorem m_hear {i n : Nat} {g : Nat → Int32} (hi : i < n) (hn : n ≤ 8) : B_X8_hearsAll_2 (nI n) (nI i) g = some (.inl (nI (i + 1), hrM i g)) := by
  unfold B_X8_hearsAll_2
  rw [if_neg (mt (nI_leI (a := n) (b := i) (by omega) (by omega)).mp (by omega))]
  simp only [bm_ix (A := (0 : Int32)) (a := 0) rfl (show 0 + i < 265 by omega), bm_ix (A := (8 : Int32)) (a := 8) rfl (show 8 + i < 265 by omega), bm_ix (A := (16 : Int32)) (a := 16) rfl (show 16 + i < 265 by omega), bm_ix (A := (24 : Int32)) (a := 24) rfl (show 24 + i < 265 by omega), bm_ix (A := (32 : Int32)) (a := 32) rfl (show 32 + i < 265 by omega), bm_ix (A := (40 : Int32)) (a := 40) rfl (show 40 + i < 265 by omega), bm_cl (A := (0 : Int32)) (a := 0) rfl (show 0 + i < 265 by omega), bm_cl (A := (8 : Int32)) (a := 8) rfl (show 8 + i < 265 by omega), bm_cl (A := (16 : Int32)) (a := 16) rfl (show 16 + i < 265 by omega), bm_cl (A := (24 : Int32)) (a := 24) rfl (show 24 + i < 265 by omega), bm_cl (A := (32 : Int32)) (a := 32) rfl (show 32 + i < 265 by omega), bm_cl (A := (40 : Int32)) (a := 40) rfl (show 40 + i < 265 by omega), xnm, nI_1]
  rfl
theorem hr_RB {n i : Nat} {f g : Nat → Int32} (h : RowB n f g) (hi : i < n) : RowB n (hrC i f) (hrM i g) := by
  have r1 := h.put (c := 2) hi (by decide) (f (17 + 8 * i + 0))
  have r2 := r1.put (c := 3) hi (by decide) (upd f (17 + 8 * i + 2) (f (17 + 8 * i + 0)) (17 + 8 * i + 1))
  have r3 := r2.put (c := 4) hi (by decide) 0
  have r4 := r3.put (c := 5) hi (by decide) 0
  have e1 : upd f (17 + 8 * i + 2) (f (17 + 8 * i + 0)) (17 + 8 * i + 1) = upd g (16 + i) (f (17 + 8 * i + 0)) (8 + i) := r1.st i 1 hi (by decide)
  have e0 : f (17 + 8 * i + 0) = g (0 + i) := h.st i 0 hi (by decide)
  have eM : hrM i g = upd (upd (upd (upd g (8 * 2 + i) (f (17 + 8 * i + 0))) (8 * 3 + i) (upd f (17 + 8 * i + 2) (f (17 + 8 * i + 0)) (17 + 8 * i + 1))) (8 * 4 + i) 0) (8 * 5 + i) 0 := by
    rw [e1, e0]
    rfl
  rw [eM]
  exact (r4.sums (Or.inl rfl) _).sums (Or.inr (Or.inl rfl)) _
def HrR (n : Nat) (g : Nat → Int32) (i : Nat) (s t : Int32 × (Nat → Int32)) : Prop := s.1 = nI i ∧ t.1 = nI i ∧ RowB n s.2 t.2 ∧ s.2 4 = sgm (fun k => t.2 (16 + k)) i ∧ s.2 5 = sgm (fun k => t.2 (24 + k)) i ∧ ∀ k, (k < 16 ∨ 48 ≤ k) → t.2 k = g k
theorem HrR.step {n i : Nat} {g : Nat → Int32} {s t : Int32 × (Nat → Int32)} (hi : i < n) (h : HrR n g i s t) : ∃ s' t', B_X5_hearPlaces_16 s.1 s.2 = some (.inl s') ∧ B_X8_hearsAll_2 (nI n) t.1 t.2 = some (.inl t') ∧ HrR n g (i + 1) s' t' := by
  obtain ⟨x, f⟩ := s
  obtain ⟨y, g1⟩ := t
  obtain ⟨e1, e2, hB, h4, h5, hg⟩ := h
  have e1 : x = nI i := e1
  have e2 : y = nI i := e2
  have hB : RowB n f g1 := hB
  have h4 : f 4 = sgm (fun k => g1 (16 + k)) i := h4
  have h5 : f 5 = sgm (fun k => g1 (24 + k)) i := h5
  subst e1 e2
  have n8 := hB.n8
  have e0 : f (17 + 8 * i + 0) = g1 (0 + i) := hB.st i 0 hi (by decide)
  have e8 : f (17 + 8 * i + 1) = g1 (8 + i) := hB.st i 1 hi (by decide)
  refine ⟨(nI (i + 1), hrC i f), (nI (i + 1), hrM i g1), b_hear hi n8 hB.sz, m_hear hi n8, rfl, rfl, hr_RB hB hi, ?_, ?_, ?_⟩
  · show hrC i f 4 = sgm (fun k => hrM i g1 (16 + k)) i + hrM i g1 (16 + i)
    have a1 : hrC i f 4 = f 4 + f (17 + 8 * i + 0) := by
      unfold hrC
      rw [upd_ne (by omega), upd_at]
      unfold hrW
      repeat rw [upd_ne (by omega)]
    have a2 : hrM i g1 (16 + i) = g1 (0 + i) := by
      unfold hrM
      rw [upd_ne (by omega), upd_ne (by omega), upd_ne (by omega), upd_at]
    have a3 : sgm (fun k => hrM i g1 (16 + k)) i = sgm (fun k => g1 (16 + k)) i := sgm_eq i (fun k hk => by
      show hrM i g1 (16 + k) = g1 (16 + k)
      unfold hrM
      repeat rw [upd_ne (by omega)])
    rw [a1, a2, a3, ← h4, e0]
  · show hrC i f 5 = sgm (fun k => hrM i g1 (24 + k)) i + hrM i g1 (24 + i)
    have a1 : hrC i f 5 = f 5 + f (17 + 8 * i + 1) := by
      unfold hrC
      rw [upd_at, upd_ne (by omega), upd_ne (by omega)]
      unfold hrW
      repeat rw [upd_ne (by omega)]
    have a2 : hrM i g1 (24 + i) = g1 (8 + i) := by
      unfold hrM
      rw [upd_ne (by omega), upd_ne (by omega), upd_at, upd_ne (by omega)]
    have a3 : sgm (fun k => hrM i g1 (24 + k)) i = sgm (fun k => g1 (24 + k)) i := sgm_eq i (fun k hk => by
      show hrM i g1 (24 + k) = g1 (24 + k)
      unfold hrM
      repeat rw [upd_ne (by omega)])
    rw [a1, a2, a3, ← h5, e8]
  · intro k hk
    show hrM i g1 k = g k
    unfold hrM
    rw [upd_ne (by omega), upd_ne (by omega), upd_ne (by omega), upd_ne (by omega)]
    exact hg k hk
theorem hp_both {n K : Nat} {f g : Nat → Int32} (hK : 200000 ≤ K) (h : RowB n f g) : ∃ f' g', F_X5_hearPlaces K f = some f' ∧ lpF (fun u9 : Int32 × (Nat → Int32) => B_X8_hearsAll_2 (nI n) u9.1 u9.2) K ((0 : Int32), g) = some g' ∧ RowR n f' g' ∧ ∀ k, (k < 16 ∨ 48 ≤ k) → g' k = g k := by
  have n8 := h.n8
  have he : ∀ s t, HrR n g n s t → ∃ r u, (fun u9 : Int32 × (Nat → Int32) => B_X5_hearPlaces_16 u9.1 u9.2) s = some (.inr r) ∧ (fun u9 : Int32 × (Nat → Int32) => B_X8_hearsAll_2 (nI n) u9.1 u9.2) t = some (.inr u) ∧ (RowR n r u ∧ ∀ k, (k < 16 ∨ 48 ≤ k) → u k = g k) := by
    intro s t q
    obtain ⟨x, f1⟩ := s
    obtain ⟨y, g1⟩ := t
    obtain ⟨e1, e2, hB, h4, h5, hg⟩ := q
    have e1 : x = nI n := e1
    have e2 : y = nI n := e2
    have hB : RowB n f1 g1 := hB
    subst e1 e2
    have le : nI n ≤ nI n := (nI_leI (a := n) (b := n) (by omega) (by omega)).mpr (Nat.le_refl _)
    refine ⟨f1, g1, ?_, ?_, ⟨hB, h4, h5⟩, hg⟩
    · show B_X5_hearPlaces_16 (nI n) f1 = _
      unfold B_X5_hearPlaces_16 F_X5_sites
      rw [xb1, show f1 3 = nI n from hB.sz, if_pos le]
    · show B_X8_hearsAll_2 (nI n) (nI n) g1 = _
      unfold B_X8_hearsAll_2
      rw [if_pos le]
  have h0 : HrR n g 0 ((0 : Int32), upd (upd f 4 0) 5 0) ((0 : Int32), g) := ⟨rfl, rfl, (h.sums (Or.inl rfl) 0).sums (Or.inr (Or.inl rfl)) 0, by show upd (upd f 4 0) 5 0 4 = 0; rw [upd_ne (by decide), upd_at], by show upd (upd f 4 0) 5 0 5 = 0; rw [upd_at], fun _ _ => rfl⟩
  obtain ⟨r, u, e1, e2, q1, q2⟩ := lp_two (HrR n g) (fun r u => RowR n r u ∧ ∀ k, (k < 16 ∨ 48 ≤ k) → u k = g k) (n := n) (K := K) (K' := K) (by omega) (by omega) (fun i s t hi q => Or.inl (HrR.step hi q)) he h0
  refine ⟨r, u, ?_, e2, q1, q2⟩
  unfold F_X5_hearPlaces
  rw [xnm, xnm, e1, xb1]
/-- all are heard -/
theorem ha_both {n K : Nat} {f g : Nat → Int32} (hK : 200000 ≤ K) (h : RowB n f g) (hl : ∃ a, a < 4 ∧ g 64 = nI a) : ∃ f' g', F_X5_hearAll K f = some f' ∧ F_X8_hearsAll K g (nI n) = some g' ∧ RowR n f' g' ∧ RowG g' ∧ ∀ k, (k < 16 ∨ 48 ≤ k) → ¬ k = 70 → ¬ k = 71 → ¬ k = 72 → g' k = g k := by
  have n8 := h.n8
  obtain ⟨f1, g1, e1, e2, hR, hg1⟩ := hp_both hK h
  have q14 : f1 14 = g1 70 := hR.sc (14, 70) (by decide)
  have R2 : RowR n (upd f1 14 (f1 14 + 1)) (upd g1 70 (g1 70 + 1)) := by
    rw [← q14]
    exact hR.scal (by decide) _
  have hl2 : ∃ a, a < 4 ∧ (upd g1 70 (g1 70 + 1)) 64 = nI a := by
    rw [upd_ne (by decide), hg1 64 (by omega)]
    exact hl
  have fr : ∀ k, (k < 16 ∨ 48 ≤ k) → ¬ k = 70 → upd g1 70 (g1 70 + 1) k = g k := fun k hk h7 => by
    rw [upd_ne h7]
    exact hg1 k hk
  unfold F_X5_hearAll F_X8_hearsAll
  rw [e1, xb1, xnm, e2, xb1, xnm]
  generalize upd f1 14 (f1 14 + 1) = f2 at R2 ⊢
  generalize upd g1 70 (g1 70 + 1) = g2 at R2 hl2 fr ⊢
  have e16 : F_X8_sum K (16 : Int32) g2 (nI n) = some (f2 4) := by rw [R2.sx]; exact bm_sum hK n8 (b := 16) (by decide)
  have e24 : F_X8_sum K (24 : Int32) g2 (nI n) = some (f2 5) := by rw [R2.sy]; exact bm_sum hK n8 (b := 24) (by decide)
  have ea : F_X5_allows (f2 4).toInt64 (f2 5).toInt64 f2 = F_X8_isAllowed (f2 4) (f2 5) g2 := by
    obtain ⟨a, ha, e⟩ := hl2
    unfold F_X5_allows F_X8_isAllowed
    rw [val_both ha ((R2.sc (0, 64) (by decide)).trans e) e, show f2 1 = g2 65 from R2.sc (1, 65) (by decide)]
  obtain ⟨v, ev, -⟩ := u_isAllowed (p1 := f2 4) (p2 := f2 5) (g := g2)
  rw [e16, xb1, e24, xb1, ea, ev, xb1, xb1]
  have q15 : f2 15 = g2 71 := R2.sc (15, 71) (by decide)
  have q6 : f2 6 = g2 72 := R2.sc (6, 72) (by decide)
  have fin : ∀ k0 : Int32, (k0 = 0 ∨ k0 = 1) → ∃ f' g', J_X5_hearAll_41 k0 f2 = some f' ∧ J_X8_hearsAll_106 k0 g2 = some g' ∧ RowR n f' g' ∧ RowG g' ∧ ∀ k, (k < 16 ∨ 48 ≤ k) → ¬ k = 70 → ¬ k = 71 → ¬ k = 72 → g' k = g k := by
    intro k0 hk0
    unfold J_X5_hearAll_41 J_X8_hearsAll_106
    rw [q6]
    by_cases c : k0 = g2 72
    · rw [if_pos c, if_pos c, xnm, xnm, xnm, Int32.add_zero, row_self]
      refine ⟨_, _, rfl, rfl, R2.scal (by decide) k0, ⟨?_, ?_⟩, ?_⟩
      · rw [upd_ne (by decide)]
        exact hl2
      · rw [upd_at]
        exact hk0
      · intro k a1 a2 a3 a4
        rw [upd_ne a4]
        exact fr k a1 a2
    · rw [if_neg c, if_neg c, xnm, xnm, xnm, xnm, q15]
      refine ⟨_, _, rfl, rfl, (R2.scal (a := 15) (b := 71) (by decide) (g2 71 + 1)).scal (by decide) k0, ⟨?_, ?_⟩, ?_⟩
      · rw [upd_ne (by decide), upd_ne (by decide)]
        exact hl2
      · rw [upd_at]
        exact hk0
      · intro k a1 a2 a3 a4
        rw [upd_ne a4, upd_ne a3]
        exact fr k a1 a2
  by_cases c : v = 0
  · rw [if_pos c, if_pos c]
    exact fin 1 (Or.inr rfl)
  · rw [if_neg c, if_neg c]
    exact fin 0 (Or.inl rfl)
