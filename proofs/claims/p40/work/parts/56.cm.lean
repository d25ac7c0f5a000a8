-- 56.cm
section
/-! a clause in the reference, and what a good clause says -/
theorem xb10 {t0 t1 t2 t3 t4 t5 t6 t7 t8 t9 β : Type} {a0 : t0} {a1 : t1} {a2 : t2} {a3 : t3} {a4 : t4} {a5 : t5} {a6 : t6} {a7 : t7} {a8 : t8} {a9 : t9} {f : t0 → t1 → t2 → t3 → t4 → t5 → t6 → t7 → t8 → t9 → Option β} : bd10 (some (a0, a1, a2, a3, a4, a5, a6, a7, a8, a9)) f = f a0 a1 a2 a3 a4 a5 a6 a7 a8 a9 := rfl
theorem xb11 {t0 t1 t2 t3 t4 t5 t6 t7 t8 t9 t10 β : Type} {a0 : t0} {a1 : t1} {a2 : t2} {a3 : t3} {a4 : t4} {a5 : t5} {a6 : t6} {a7 : t7} {a8 : t8} {a9 : t9} {a10 : t10} {f : t0 → t1 → t2 → t3 → t4 → t5 → t6 → t7 → t8 → t9 → t10 → Option β} : bd11 (some (a0, a1, a2, a3, a4, a5, a6, a7, a8, a9, a10)) f = f a0 a1 a2 a3 a4 a5 a6 a7 a8 a9 a10 := rfl
theorem xb12 {t0 t1 t2 t3 t4 t5 t6 t7 t8 t9 t10 t11 β : Type} {a0 : t0} {a1 : t1} {a2 : t2} {a3 : t3} {a4 : t4} {a5 : t5} {a6 : t6} {a7 : t7} {a8 : t8} {a9 : t9} {a10 : t10} {a11 : t11} {f : t0 → t1 → t2 → t3 → t4 → t5 → t6 → t7 → t8 → t9 → t10 → t11 → Option β} : bd12 (some (a0, a1, a2, a3, a4, a5, a6, a7, a8, a9, a10, a11)) f = f a0 a1 a2 a3 a4 a5 a6 a7 a8 a9 a10 a11 := rfl
theorem bit_m3 : ∀ g, g < 16 → nI g ||| (1 <<< ((3 : Int32) &&& 31)) = nI (g ||| 8) ∧ (g ||| 8) < 16 ∧ (g ||| 8) % 8 = g % 8 := by decide +kernel
theorem bit_mS : ∀ g, g < 16 → ∀ k, k < 3 → (g ||| (1 <<< k)) < 16 ∧ (g ||| (1 <<< k)) % 8 = mS (g % 8) k := by decide +kernel
theorem bit_mL : ∀ m, m < 8 → ∀ k, k < 4 → mS m k < 8 := by decide +kernel
theorem m_has {g k : Nat} (hg : g < 16) (hk : k < 3) : F_X8_has (nI g) (nI k) = some (if (g % 8).testBit k = true then 1 else 0) := by
  unfold F_X8_has
  have b := (bit_m g hg k hk).1
  by_cases t : (g % 8).testBit k = true
  · rw [if_pos (b.mpr t), if_pos t]
  · rw [if_neg (fun y => t (b.mp y)), if_neg t]
theorem m_clause {K n b g s : Nat} {sg tape rp : Nat → Int32} {at' pa fr pn la bo go : Int32} {pw : Int64} (h : Sg n sg) (hb : TpM n sg tape) (hK : 400 ≤ K) (hbn : b ≤ n) (hg : g < 16) (hs : s ≤ 8) (hl : LA n sg b at' pa fr pn pw) : ∃ g' a2 p2 f2 n2 wr w2 la' bo' go' s' rp', F_X8_clause K (nI g) tape (nI n) at' pa fr pn (-1) pw la bo go (nI s) rp = some (g', a2, p2, f2, n2, wr, w2, la', bo', go', s', rp') ∧ (∀ p, clS n sg b (g % 8) s = .inl p → wr = nI p) ∧ (∀ e k v1 v2, clS n sg b (g % 8) s = .inr (e, k, v1, v2) → wr = -1 ∧ LA n sg (skp n sg e) a2 p2 f2 n2 w2 ∧ (∃ g2, g2 < 16 ∧ g' = nI g2 ∧ g2 % 8 = mS (g % 8) k) ∧ s' = nI (sS s k) ∧ la' = (if k = 0 then v1 else la) ∧ bo' = (if k = 1 then v1 else bo) ∧ go' = (if k = 2 then v1 else go) ∧ rp' = plS rp s k v1 v2) := by
  have h1 := h.1
  obtain ⟨e1, e2, e3, e4, e5⟩ := id hl
  have h3 := wE_le h hbn
  have h4 := skp_le h h3
  have adv : (97 ≤ sg b ∧ sg b ≤ 122) → ∃ a2 p2 f2 n2 w2, F_X8_next K tape (nI n) at' pa fr pn pw = some (a2, p2, f2, n2, w2) ∧ LA n sg (skp n sg (wE n sg b)) a2 p2 f2 n2 w2 := fun q => by
    obtain ⟨a2, p2, f2, n2, w2, x1, x2⟩ := m_adv h hb hK hbn hl
    rw [te_w q] at x2
    exact ⟨a2, p2, f2, n2, w2, x1, x2⟩
  have bad : ∀ k0 : Int32, F_X8_bad fr (-1) = some (nI b) := fun _ => by rw [m_bad, if_pos rfl, e3]
  have c1 : (12343 : Int64) = cdF 1 := by decide
  have c2 : (2610628 : Int64) = cdF 2 := by decide
  have c3 : (244780 : Int64) = cdF 3 := by decide
  have c0 : (632453 : Int64) = cdF 0 := by decide
  unfold F_X8_clause
  rw [c1, c2, c3, c0, m_isX h hbn (by decide) hl, xb1, m_isX h hbn (by decide) hl, xb1, m_isX h hbn (by decide) hl, xb1, m_isX h hbn (by decide) hl, xb1]
  unfold clS
  by_cases z1 : wd n sg 1 b = true
  · have z0 : ¬ wd n sg 0 b = true := fun z => absurd (wd_excl h hbn (by decide) (by decide) z z1) (by decide)
    rw [if_pos z1, if_neg (by decide), if_neg z0, if_pos z1]
    unfold J_X8_clause_57
    rw [if_neg (by decide), if_neg (by decide), show F_X8_has (nI g) (0 : Int32) = _ from m_has (k := 0) hg (by decide), xb1]
    by_cases t : (g % 8).testBit 0 = true
    · rw [if_pos t, if_neg (by decide), bad 0, xb1, if_pos t]
      refine ⟨_, _, _, _, _, _, _, _, _, _, _, _, rfl, fun p e => ?_, fun e k v1 v2 hq => by cases hq⟩
      cases e
      rfl
    · rw [if_neg t, if_pos (by decide), if_neg t]
      unfold J_X8_clause_76
      rw [if_neg (by decide)]
      unfold J_X8_clause_96
      obtain ⟨a2, p2, f2, n2, w2, x1, x2⟩ := adv (wd_letter h hbn (by decide) z1)
      rw [x1, xb5, if_pos (by decide)]
      by_cases y : lw n sg (skp n sg (wE n sg b)) = -1
      · rw [(m_lawWord h hb hK h4 x2).1 y, xb7, if_pos y]
        refine ⟨_, _, _, _, _, _, _, _, _, _, _, _, rfl, fun p e => ?_, fun e k v1 v2 hq => by cases hq⟩
        cases e
        rfl
      · obtain ⟨a3, p3, f3, n3, w3, E, L⟩ := (m_lawWord h hb hK h4 x2).2 y
        rw [E, xb7, if_neg y]
        refine ⟨_, _, _, _, _, _, _, _, _, _, _, _, rfl, fun p e => (by cases e), fun e k v1 v2 hq => ?_⟩
        cases hq
        exact ⟨rfl, L, ⟨_, (bit_mS g hg 0 (by decide)).1, (bit_m g hg 0 (by decide)).2, (bit_mS g hg 0 (by decide)).2⟩, rfl, rfl, rfl, rfl, rfl⟩
  · rw [if_neg z1, if_pos rfl]
    by_cases z2 : wd n sg 2 b = true
    · have z0 : ¬ wd n sg 0 b = true := fun z => absurd (wd_excl h hbn (by decide) (by decide) z z2) (by decide)
      rw [if_pos z2, if_neg (by decide), if_neg z0, if_neg z1, if_pos z2]
      unfold J_X8_clause_57
      rw [if_neg (by decide), if_neg (by decide), show F_X8_has (nI g) (1 : Int32) = _ from m_has (k := 1) hg (by decide), xb1]
      by_cases t : (g % 8).testBit 1 = true
      · rw [if_pos t, if_neg (by decide), bad 0, xb1, if_pos t]
        refine ⟨_, _, _, _, _, _, _, _, _, _, _, _, rfl, fun p e => ?_, fun e k v1 v2 hq => by cases hq⟩
        cases e
        rfl
      · rw [if_neg t, if_pos rfl, if_neg t]
        unfold J_X8_clause_76
        rw [if_neg (by decide)]
        unfold J_X8_clause_96
        obtain ⟨a2, p2, f2, n2, w2, x1, x2⟩ := adv (wd_letter h hbn (by decide) z2)
        rw [x1, xb5, if_neg (by decide), if_pos (by decide)]
        by_cases y : okN n sg (-9999999) 9999999 (skp n sg (wE n sg b))
        · obtain ⟨a3, p3, f3, n3, w3, E, L⟩ := (m_number h hb hK h4 x2).2 y
          rw [E, xb7, if_pos y]
          refine ⟨_, _, _, _, _, _, _, _, _, _, _, _, rfl, fun p e => (by cases e), fun e k v1 v2 hq => ?_⟩
          cases hq
          exact ⟨rfl, L, ⟨_, (bit_mS g hg 1 (by decide)).1, (bit_m g hg 1 (by decide)).2, (bit_mS g hg 1 (by decide)).2⟩, rfl, rfl, rfl, rfl, rfl⟩
        · rw [(m_number h hb hK h4 x2).1 y, xb7, if_neg y]
          refine ⟨_, _, _, _, _, _, _, _, _, _, _, _, rfl, fun p e => ?_, fun e k v1 v2 hq => by cases hq⟩
          cases e
          rfl
    · rw [if_neg z2, if_pos rfl]
      by_cases z3 : wd n sg 3 b = true
      · have z0 : ¬ wd n sg 0 b = true := fun z => absurd (wd_excl h hbn (by decide) (by decide) z z3) (by decide)
        rw [if_pos z3, if_neg (by decide), if_neg z0, if_neg z1, if_neg z2, if_pos z3]
        unfold J_X8_clause_57
        rw [if_neg (by decide), if_neg (by decide), show F_X8_has (nI g) (2 : Int32) = _ from m_has (k := 2) hg (by decide), xb1]
        by_cases t : (g % 8).testBit 2 = true
        · rw [if_pos t, if_neg (by decide), bad 0, xb1, if_pos t]
          refine ⟨_, _, _, _, _, _, _, _, _, _, _, _, rfl, fun p e => ?_, fun e k v1 v2 hq => by cases hq⟩
          cases e
          rfl
        · rw [if_neg t, if_pos rfl, if_neg t]
          unfold J_X8_clause_76
          rw [if_neg (by decide)]
          unfold J_X8_clause_96
          obtain ⟨a2, p2, f2, n2, w2, x1, x2⟩ := adv (wd_letter h hbn (by decide) z3)
          rw [x1, xb5, if_neg (by decide), if_neg (by decide), if_pos (by decide)]
          by_cases y : okN n sg 1 9999 (skp n sg (wE n sg b))
          · obtain ⟨a3, p3, f3, n3, w3, E, L⟩ := (m_number h hb hK h4 x2).2 y
            rw [E, xb7, if_pos y]
            refine ⟨_, _, _, _, _, _, _, _, _, _, _, _, rfl, fun p e => (by cases e), fun e k v1 v2 hq => ?_⟩
            cases hq
            exact ⟨rfl, L, ⟨_, (bit_mS g hg 2 (by decide)).1, (bit_m g hg 2 (by decide)).2, (bit_mS g hg 2 (by decide)).2⟩, rfl, rfl, rfl, rfl, rfl⟩
          · rw [(m_number h hb hK h4 x2).1 y, xb7, if_neg y]
            refine ⟨_, _, _, _, _, _, _, _, _, _, _, _, rfl, fun p e => ?_, fun e k v1 v2 hq => by cases hq⟩
            cases e
            rfl
      · rw [if_neg z3, if_pos rfl]
        by_cases z0 : wd n sg 0 b = true
        · rw [if_pos z0, if_neg (by decide), if_pos z0]
          unfold J_X8_clause_57
          rw [if_neg (by decide), if_pos (by decide)]
          unfold J_X8_clause_76
          rw [if_pos rfl, x8, xeq (by omega) (by decide)]
          by_cases hs8 : 8 ≤ s
          · rw [if_pos (by omega), bad 0, xb1, if_pos hs8]
            refine ⟨_, _, _, _, _, _, _, _, _, _, _, _, rfl, fun p e => ?_, fun e k v1 v2 hq => by cases hq⟩
            cases e
            rfl
          · rw [if_neg (by omega), if_neg hs8]
            unfold J_X8_clause_96
            obtain ⟨a2, p2, f2, n2, w2, x1, x2⟩ := adv (wd_letter h hbn (by decide) z0)
            rw [x1, xb5, if_neg (by decide), if_neg (by decide), if_neg (by decide)]
            obtain ⟨a3, p3, f3, n3, wr, w3, rp2, E, A, B⟩ := m_readSite (rp := rp) (s := s) h hb hK h4 (by omega) x2
            rw [E, xb8]
            refine ⟨_, _, _, _, _, _, _, _, _, _, _, _, rfl, fun p e => ?_, fun e k v1 v2 hq => ?_⟩
            · cases hsi : siS n sg (skp n sg (wE n sg b)) with
              | inl p' => rw [hsi] at e; cases e; exact A _ hsi
              | inr x => obtain ⟨e1, v1, v2⟩ := x; rw [hsi] at e; cases e
            · cases hsi : siS n sg (skp n sg (wE n sg b)) with
              | inl p' => rw [hsi] at hq; cases hq
              | inr x =>
                obtain ⟨e1, u1, u2⟩ := x
                rw [hsi] at hq
                cases hq
                obtain ⟨c1, c2, c3⟩ := B _ _ _ hsi
                have bm := bit_m3 g hg
                exact ⟨c1, c2, ⟨_, bm.2.1, bm.1, bm.2.2⟩, rfl, rfl, rfl, rfl, c3⟩
        · rw [if_neg z0, if_pos rfl, if_neg z0, if_neg z1, if_neg z2, if_neg z3]
          unfold J_X8_clause_57
          rw [if_pos rfl, bad 0, xb1]
          refine ⟨_, _, _, _, _, _, _, _, _, _, _, _, rfl, fun p e => ?_, fun e k v1 v2 hq => by cases hq⟩
          cases e
          rfl
/-- what a good clause has -/
theorem siS_ok {n b e : Nat} {sg : Nat → Int32} {v1 v2 : Int32} (h : Sg n sg) (hbn : b ≤ n) (q : siS n sg b = .inr (e, v1, v2)) : b ≤ e ∧ e ≤ n ∧ (-999 ≤ v1 ∧ v1 ≤ 999) ∧ (-999 ≤ v2 ∧ v2 ≤ 999) := by
  unfold siS at q
  by_cases q1 : okN n sg (-999) 999 b
  · rw [if_pos q1] at q
    have h3 := dE_le h hbn
    have h3' := dE_ge h hbn
    have h3'' := d0_ge (b := b) (sg := sg)
    have h4 := skp_le h h3
    have h4' := skp_ge h h3
    by_cases q2 : sg (skp n sg (dE n sg b)) = 44
    · rw [if_pos q2] at q
      have h5 := sg44_lt h (by decide) q2
      have h6 := skp_le h (show skp n sg (dE n sg b) + 1 ≤ n by omega)
      have h6' := skp_ge h (show skp n sg (dE n sg b) + 1 ≤ n by omega)
      by_cases q3 : okN n sg (-999) 999 (skp n sg (skp n sg (dE n sg b) + 1))
      · rw [if_pos q3] at q
        have h7 := dE_le h h6
        have h7' := dE_ge h h6
        have h7'' := d0_ge (b := skp n sg (skp n sg (dE n sg b) + 1)) (sg := sg)
        cases q
        exact ⟨by omega, h7, q1.2.2, q3.2.2⟩
      · rw [if_neg q3] at q; cases q
    · rw [if_neg q2] at q; cases q
  · rw [if_neg q1] at q; cases q
theorem lw_rng {n b : Nat} {sg : Nat → Int32} (q : ¬ lw n sg b = -1) : 0 ≤ lw n sg b ∧ lw n sg b ≤ 3 := by
  unfold lw at q ⊢
  by_cases z4 : wd n sg 4 b = true
  · rw [if_pos z4]; decide
  · rw [if_neg z4] at q ⊢
    by_cases z5 : wd n sg 5 b = true
    · rw [if_pos z5]; decide
    · rw [if_neg z5] at q ⊢
      by_cases z6 : wd n sg 6 b = true
      · rw [if_pos z6]; decide
      · rw [if_neg z6] at q ⊢
        by_cases z7 : wd n sg 7 b = true
        · rw [if_pos z7]; decide
        · rw [if_neg z7] at q
          exact absurd rfl q
theorem clS_ok {n b m s e k : Nat} {sg : Nat → Int32} {v1 v2 : Int32} (h : Sg n sg) (hbn : b ≤ n) (q : clS n sg b m s = .inr (e, k, v1, v2)) : b < e ∧ e ≤ n ∧ k < 4 ∧ (k = 3 → s < 8) ∧ (k = 0 → 0 ≤ v1 ∧ v1 ≤ 3) ∧ (k = 1 → -9999999 ≤ v1 ∧ v1 ≤ 9999999) ∧ (k = 2 → 1 ≤ v1 ∧ v1 ≤ 9999) ∧ (k = 3 → (-999 ≤ v1 ∧ v1 ≤ 999) ∧ (-999 ≤ v2 ∧ v2 ≤ 999)) := by
  have h3 := wE_le h hbn
  have h3' := wE_ge h hbn
  have h4 := skp_le h h3
  have h4' := skp_ge h h3
  have lt : ∀ i, i < 12 → wd n sg i b = true → b < wE n sg b := fun i hi z => (wE_lt h hbn).mpr (wd_letter h hbn hi z)
  unfold clS at q
  by_cases z0 : wd n sg 0 b = true
  · have l0 := lt 0 (by decide) z0
    rw [if_pos z0] at q
    by_cases hs8 : 8 ≤ s
    · rw [if_pos hs8] at q; cases q
    · rw [if_neg hs8] at q
      cases hsi : siS n sg (skp n sg (wE n sg b)) with
      | inl p' => rw [hsi] at q; cases q
      | inr x =>
        obtain ⟨e1, u1, u2⟩ := x
        rw [hsi] at q
        cases q
        obtain ⟨c1, c2, c3, c4⟩ := siS_ok h h4 hsi
        exact ⟨by omega, c2, by decide, fun _ => by omega, fun y => (by cases y), fun y => (by cases y), fun y => (by cases y), fun _ => ⟨c3, c4⟩⟩
  · rw [if_neg z0] at q
    by_cases z1 : wd n sg 1 b = true
    · have l0 := lt 1 (by decide) z1
      rw [if_pos z1] at q
      by_cases t : m.testBit 0 = true
      · rw [if_pos t] at q; cases q
      · rw [if_neg t] at q
        by_cases y : lw n sg (skp n sg (wE n sg b)) = -1
        · rw [if_pos y] at q; cases q
        · rw [if_neg y] at q
          cases q
          have h5 := wE_le h h4
          have h5' := wE_ge h h4
          exact ⟨by omega, h5, by decide, fun y => (by cases y), fun _ => lw_rng y, fun y => (by cases y), fun y => (by cases y), fun y => by cases y⟩
    · rw [if_neg z1] at q
      by_cases z2 : wd n sg 2 b = true
      · have l0 := lt 2 (by decide) z2
        rw [if_pos z2] at q
        by_cases t : m.testBit 1 = true
        · rw [if_pos t] at q; cases q
        · rw [if_neg t] at q
          by_cases y : okN n sg (-9999999) 9999999 (skp n sg (wE n sg b))
          · rw [if_pos y] at q
            cases q
            have h5 := dE_le h h4
            have h5' := dE_ge h h4
            have h5'' := d0_ge (b := skp n sg (wE n sg b)) (sg := sg)
            exact ⟨by omega, h5, by decide, fun y => (by cases y), fun y => (by cases y), fun _ => y.2.2, fun y => (by cases y), fun y => by cases y⟩
          · rw [if_neg y] at q; cases q
      · rw [if_neg z2] at q
        by_cases z3 : wd n sg 3 b = true
        · have l0 := lt 3 (by decide) z3
          rw [if_pos z3] at q
          by_cases t : m.testBit 2 = true
          · rw [if_pos t] at q; cases q
          · rw [if_neg t] at q
            by_cases y : okN n sg 1 9999 (skp n sg (wE n sg b))
            · rw [if_pos y] at q
              cases q
              have h5 := dE_le h h4
              have h5' := dE_ge h h4
              have h5'' := d0_ge (b := skp n sg (wE n sg b)) (sg := sg)
              exact ⟨by omega, h5, by decide, fun y => (by cases y), fun y => (by cases y), fun y => (by cases y), fun _ => y.2.2, fun y => by cases y⟩
            · rw [if_neg y] at q; cases q
        · rw [if_neg z3] at q; cases q
theorem siS_fail {n b p : Nat} {sg : Nat → Int32} (h : Sg n sg) (hbn : b ≤ n) (q : siS n sg b = .inl p) : p ≤ n := by
  unfold siS at q
  by_cases q1 : okN n sg (-999) 999 b
  · rw [if_pos q1] at q
    have h3 := dE_le h hbn
    have h4 := skp_le h h3
    by_cases q2 : sg (skp n sg (dE n sg b)) = 44
    · rw [if_pos q2] at q
      have h5 := sg44_lt h (by decide) q2
      have h6 := skp_le h (show skp n sg (dE n sg b) + 1 ≤ n by omega)
      by_cases q3 : okN n sg (-999) 999 (skp n sg (skp n sg (dE n sg b) + 1))
      · rw [if_pos q3] at q; cases q
      · rw [if_neg q3] at q; cases q; exact h6
    · rw [if_neg q2] at q; cases q; exact h4
  · rw [if_neg q1] at q; cases q; exact hbn
theorem clS_fail {n b m s p : Nat} {sg : Nat → Int32} (h : Sg n sg) (hbn : b ≤ n) (q : clS n sg b m s = .inl p) : p ≤ n := by
  have h3 := wE_le h hbn
  have h4 := skp_le h h3
  unfold clS at q
  by_cases z0 : wd n sg 0 b = true
  · rw [if_pos z0] at q
    by_cases hs8 : 8 ≤ s
    · rw [if_pos hs8] at q; cases q; exact hbn
    · rw [if_neg hs8] at q
      cases hsi : siS n sg (skp n sg (wE n sg b)) with
      | inl p' => rw [hsi] at q; cases q; exact siS_fail h h4 hsi
      | inr x => obtain ⟨e1, u1, u2⟩ := x; rw [hsi] at q; cases q
  · rw [if_neg z0] at q
    by_cases z1 : wd n sg 1 b = true
    · rw [if_pos z1] at q
      by_cases t : m.testBit 0 = true
      · rw [if_pos t] at q; cases q; exact hbn
      · rw [if_neg t] at q
        by_cases y : lw n sg (skp n sg (wE n sg b)) = -1
        · rw [if_pos y] at q; cases q; exact h4
        · rw [if_neg y] at q; cases q
    · rw [if_neg z1] at q
      by_cases z2 : wd n sg 2 b = true
      · rw [if_pos z2] at q
        by_cases t : m.testBit 1 = true
        · rw [if_pos t] at q; cases q; exact hbn
        · rw [if_neg t] at q
          by_cases y : okN n sg (-9999999) 9999999 (skp n sg (wE n sg b))
          · rw [if_pos y] at q; cases q
          · rw [if_neg y] at q; cases q; exact h4
      · rw [if_neg z2] at q
        by_cases z3 : wd n sg 3 b = true
        · rw [if_pos z3] at q
          by_cases t : m.testBit 2 = true
          · rw [if_pos t] at q; cases q; exact hbn
          · rw [if_neg t] at q
            by_cases y : okN n sg 1 9999 (skp n sg (wE n sg b))
            · rw [if_pos y] at q; cases q
            · rw [if_neg y] at q; cases q; exact h4
        · rw [if_neg z3] at q; cases q; exact hbn
end
-- 57.rw
section
/-! a watch's text in both readers -/
theorem x3 : (3 : Int32) = nI 3 := by decide
/-- what both have read agrees -/
def RdOK (s : Nat) (ru pl rp : Nat → Int32) (la bo go : Int32) : Prop := s ≤ 8 ∧ ru 0 = la ∧ ru 1 = bo ∧ ru 2 = go ∧ (∀ j, j < 2 * s → pl j = rp j) ∧ (0 ≤ la ∧ la ≤ 3) ∧ (-9999999 ≤ bo ∧ bo ≤ 9999999) ∧ (1 ≤ go ∧ go ≤ 9999) ∧ (∀ j, j < 2 * s → -999 ≤ rp j ∧ rp j ≤ 999)
theorem RdOK.step {n b m s e k : Nat} {sg ru pl rp : Nat → Int32} {la bo go v1 v2 : Int32} (h : Sg n sg) (hbn : b ≤ n) (q : clS n sg b m s = .inr (e, k, v1, v2)) (r : RdOK s ru pl rp la bo go) : RdOK (sS s k) (ruS ru k v1) (plS pl s k v1 v2) (plS rp s k v1 v2) (if k = 0 then v1 else la) (if k = 1 then v1 else bo) (if k = 2 then v1 else go) := by
  obtain ⟨r1, r2, r3, r4, r5, r6, r7, r8, r9⟩ := r
  obtain ⟨c1, c2, c3, c4, c5, c6, c7, c8⟩ := clS_ok h hbn q
  have hk : k = 0 ∨ k = 1 ∨ k = 2 ∨ k = 3 := by omega
  rcases hk with rfl | rfl | rfl | rfl
  · exact ⟨r1, rfl, r3, r4, r5, c5 rfl, r7, r8, r9⟩
  · exact ⟨r1, r2, rfl, r4, r5, r6, c6 rfl, r8, r9⟩
  · exact ⟨r1, r2, r3, rfl, r5, r6, r7, c7 rfl, r9⟩
  · have hs := c4 rfl
    obtain ⟨d1, d2⟩ := c8 rfl
    refine ⟨by show s + 1 ≤ 8; omega, r2, r3, r4, fun j hj => ?_, r6, r7, r8, fun j hj => ?_⟩
    · show upd (upd pl (2 * s) v1) (2 * s + 1) v2 j = upd (upd rp (2 * s) v1) (2 * s + 1) v2 j
      have hj' : j < 2 * (s + 1) := hj
      unfold upd
      by_cases e1 : j = 2 * s + 1
      · rw [if_pos e1, if_pos e1]
      · rw [if_neg e1, if_neg e1]
        by_cases e2 : j = 2 * s
        · rw [if_pos e2, if_pos e2]
        · rw [if_neg e2, if_neg e2]; exact r5 j (by omega)
    · show -999 ≤ upd (upd rp (2 * s) v1) (2 * s + 1) v2 j ∧ upd (upd rp (2 * s) v1) (2 * s + 1) v2 j ≤ 999
      have hj' : j < 2 * (s + 1) := hj
      unfold upd
      by_cases e1 : j = 2 * s + 1
      · rw [if_pos e1]; exact d2
      · rw [if_neg e1]
        by_cases e2 : j = 2 * s
        · rw [if_pos e2]; exact d1
        · rw [if_neg e2]; exact r9 j (by omega)
def rC (n t : Nat) (s f at' : Int32) : Int32 := if t = 0 then f else if t = 1 then (if 2 ≤ s then -1 else nI n) else if t = 2 then f else at'
def rM (wr pa rs fr : Int32) : Int32 := if wr = -1 then (if pa = 0 then (if 2 ≤ rs then -1 else fr) else fr) else wr
abbrev TC9 : Type := Int32 × (Nat → Int32) × (Nat → Int32) × Int32 × Int32 × Int32 × Int32 × Int32 × Int32
abbrev RC9 : Type := Nat × (Nat → Int32) × (Nat → Int32) × Int32 × Int32 × Int32 × Int32 × Int32 × Int32
abbrev TM13 : Type := Int32 × Int32 × Int32 × Int32 × Int32 × Int32 × Int32 × Int64 × Int32 × Int32 × Int32 × Int32 × (Nat → Int32)
abbrev RM11 : Type := Int32 × Int32 × Int32 × Int32 × Int32 × Int64 × Int32 × Int32 × Int32 × Int32 × (Nat → Int32)
abbrev bC (K n : Nat) (bytes : Nat → Int32) : TC9 → Option (TC9 ⊕ RC9) := fun u9 => B_X3_readWatch_6 K (nI n) bytes u9.1 u9.2.1 u9.2.2.1 u9.2.2.2.1 u9.2.2.2.2.1 u9.2.2.2.2.2.1 u9.2.2.2.2.2.2.1 u9.2.2.2.2.2.2.2.1 u9.2.2.2.2.2.2.2.2
abbrev bM (K n : Nat) (tape : Nat → Int32) : TM13 → Option (TM13 ⊕ RM11) := fun u9 => B_X8_readWatch_31 K (nI n) tape u9.1 u9.2.1 u9.2.2.1 u9.2.2.2.1 u9.2.2.2.2.1 u9.2.2.2.2.2.1 u9.2.2.2.2.2.2.1 u9.2.2.2.2.2.2.2.1 u9.2.2.2.2.2.2.2.2.1 u9.2.2.2.2.2.2.2.2.2.1 u9.2.2.2.2.2.2.2.2.2.2.1 u9.2.2.2.2.2.2.2.2.2.2.2.1 u9.2.2.2.2.2.2.2.2.2.2.2.2
theorem rw_sync {K n : Nat} {sg bytes tape : Nat → Int32} (h : Sg n sg) (hc : TpC n sg bytes) (ht : TpM n sg tape) (hK : 400 ≤ K) : ∀ (d a c g s : Nat) (ru pl rp : Nat → Int32) (ws nu f at' pa fr pn la bo go : Int32) (pw : Int64) (Kc Km : Nat), n - a < d → a ≤ n → 2 * c ≤ a → g < 16 → RdOK s ru pl rp la bo go → LA n sg (skp n sg a) at' pa fr pn pw → d < Kc → d + 1 < Km →
    ∃ t ru' pl' s' m' ac' ws' nu' f' am' pa' fr' pn' wr' pw' la' bo' go' rs' rp', lpF (bC K n bytes) Kc (nI c, ru, pl, nI s, nI (g % 8), nI a, ws, nu, f) = some (t, ru', pl', s', m', ac', ws', nu', f') ∧ lpF (bM K n tape) Km (nI g, 1, at', pa, fr, pn, -1, pw, la, bo, go, nI s, rp) = some (am', pa', fr', pn', wr', pw', la', bo', go', rs', rp') ∧ t < 4 ∧ rC n t s' f' ac' = rM wr' pa' rs' fr' ∧ (rC n t s' f' ac' = -1 → t = 1 ∧ wr' = -1 ∧ pa' = 0 ∧ ∃ s2, 2 ≤ s2 ∧ s' = nI s2 ∧ rs' = nI s2 ∧ RdOK s2 ru' pl' rp' la' bo' go') := by
  have h1 := h.1
  intro d
  induction d with
  | zero => intro a c g s ru pl rp ws nu f at' pa fr pn la bo go pw Kc Km h2; omega
  | succ d ih =>
    intro a c g s ru pl rp ws nu f at' pa fr pn la bo go pw Kc Km h2 ha hc2 hg hr hl hKc hKm
    obtain ⟨Kc', rfl⟩ : ∃ k, Kc = k + 1 := ⟨Kc - 1, by omega⟩
    obtain ⟨Km', rfl⟩ : ∃ k, Km = k + 2 := ⟨Km - 2, by omega⟩
    have hb := skp_le h ha
    have hb' := skp_ge h ha
    have hg8 : g % 8 < 8 := Nat.mod_lt _ (by decide)
    obtain ⟨r, ru1, pl1, s1, m1, ac1, ws1, nu1, f1, E, A, B⟩ := c_clause (ru := ru) (pl := pl) (ws := ws) (nu := nu) (f := f) h hc hK ha hg8 hr.1
    obtain ⟨g1, a2, p2, f2, n2, wr, w2, la1, bo1, go1, s2, rp1, Em, Am, Bm⟩ := m_clause (rp := rp) (la := la) (bo := bo) (go := go) (s := s) h ht hK hb hg hr.1 hl
    have bc : bC K n bytes (nI c, ru, pl, nI s, nI (g % 8), nI a, ws, nu, f) = bd9 (F_X3_readClause K bytes (nI n) ru pl (nI s) (nI (g % 8)) (nI a) ws nu f) (fun r_9 w_10 w_11 w_12 w_13 w_14 w_15 w_16 w_17 => if r_9 = (0 : Int32) then some (.inr (0, w_10, w_11, w_12, w_13, w_14, w_15, w_16, w_17)) else bd2 (F_X3_isAtEnd K bytes (nI n) w_14) (fun r_21 w_22 => if r_21 = (0 : Int32) then bd3 (F_X3_readSign K (59 : Int32) bytes (nI n) w_22 w_17) (fun r_26 w_27 w_28 => if r_26 = (0 : Int32) then some (.inr (2, w_10, w_11, w_12, w_13, w_27, w_15, w_16, w_28)) else some (.inl (nI c + (1 : Int32), w_10, w_11, w_12, w_13, w_27, w_15, w_16, w_28))) else some (.inr (1, w_10, w_11, w_12, w_13, w_22, w_15, w_16, w_17)))) := by
      show B_X3_readWatch_6 K (nI n) bytes (nI c) ru pl (nI s) (nI (g % 8)) (nI a) ws nu f = _
      unfold B_X3_readWatch_6
      rw [x320, xle (by decide) (by omega), if_neg (by omega)]
    have bm : bM K n tape (nI g, 1, at', pa, fr, pn, -1, pw, la, bo, go, nI s, rp) = bd12 (F_X8_clause K (nI g) tape (nI n) at' pa fr pn (-1) pw la bo go (nI s) rp) (fun r_9 w_10 w_11 w_12 w_13 w_14 w_15 w_16 w_17 w_18 w_19 w_20 => if w_14 = (-1 : Int32) then if w_11 = (4 : Int32) then bd5 (F_X8_next K tape (nI n) w_10 w_11 w_12 w_13 w_15) (fun w_24 w_25 w_26 w_27 w_28 => some (.inl (r_9, (1 : Int32), w_24, w_25, w_26, w_27, w_14, w_28, w_16, w_17, w_18, w_19, w_20))) else some (.inl (r_9, (0 : Int32), w_10, w_11, w_12, w_13, w_14, w_15, w_16, w_17, w_18, w_19, w_20)) else some (.inl (r_9, (0 : Int32), w_10, w_11, w_12, w_13, w_14, w_15, w_16, w_17, w_18, w_19, w_20))) := by
      show B_X8_readWatch_31 K (nI n) tape (nI g) 1 at' pa fr pn (-1) pw la bo go (nI s) rp = _
      unfold B_X8_readWatch_31
      rw [if_neg (by decide)]
    have stop : ∀ (Km : Nat) (g0 am pa0 fr0 pn0 wr0 la0 bo0 go0 rs0 : Int32) (pw0 : Int64) (rp0 : Nat → Int32), lpF (bM K n tape) (Km + 1) (g0, 0, am, pa0, fr0, pn0, wr0, pw0, la0, bo0, go0, rs0, rp0) = some (am, pa0, fr0, pn0, wr0, pw0, la0, bo0, go0, rs0, rp0) := fun Km g0 am pa0 fr0 pn0 wr0 la0 bo0 go0 rs0 pw0 rp0 => by
      refine lp_end ?_
      show B_X8_readWatch_31 K (nI n) tape g0 0 am pa0 fr0 pn0 wr0 pw0 la0 bo0 go0 rs0 rp0 = _
      unfold B_X8_readWatch_31
      rw [if_pos rfl]
    rw [E, xb9] at bc
    rw [Em, xb12] at bm
    cases hcl : clS n sg (skp n sg a) (g % 8) s with
    | inl p =>
      obtain ⟨rfl, rfl⟩ := A p hcl
      have ew := Am p hcl
      subst ew
      have hp : p ≤ n := clS_fail h hb hcl
      rw [if_pos rfl] at bc
      rw [if_neg (nI_ne_m1 (by omega))] at bm
      refine ⟨_, _, _, _, _, _, _, _, _, _, _, _, _, _, _, _, _, _, _, _, lp_end bc, (lp_one bm).trans (stop _ _ _ _ _ _ _ _ _ _ _ _ _), by decide, ?_, ?_⟩
      · show nI p = (if nI p = -1 then _ else nI p)
        rw [if_neg (nI_ne_m1 (by omega))]
      · intro z
        exact absurd (show nI p = -1 from z) (nI_ne_m1 (by omega))
    | inr x =>
      obtain ⟨e, k, v1, v2⟩ := x
      obtain ⟨rfl, rfl, rfl, rfl, rfl, rfl, rfl⟩ := B e k v1 v2 hcl
      obtain ⟨rfl, L, ⟨g2, hg2, rfl, eg⟩, rfl, rfl, rfl, rfl, rfl⟩ := Bm e k v1 v2 hcl
      obtain ⟨c1, c2, -⟩ := clS_ok h hb hcl
      have hr2 := hr.step h hb hcl
      have hb2 := skp_le h c2
      have hb2' := skp_ge h c2
      obtain ⟨l1, l2, l3, -⟩ := id L
      rw [if_neg (by decide), c_isAtEnd h hc hK c2, xb2] at bc
      rw [if_pos rfl] at bm
      by_cases q0 : sg (skp n sg e) = -1
      · rw [if_pos q0, if_neg (by decide)] at bc
        rw [l2, if_neg (fun z => by rw [tk4.mp z] at q0; exact absurd q0 (by decide))] at bm
        have en : skp n sg e = n := by
          have : ¬ skp n sg e < n := fun z => h.2.2 _ z q0
          omega
        have hs8 := hr2.1
        refine ⟨_, _, _, _, _, _, _, _, _, _, _, _, _, _, _, _, _, _, _, _, lp_end bc, (lp_one bm).trans (stop _ _ _ _ _ _ _ _ _ _ _ _ _), by decide, ?_, ?_⟩
        · show (if 2 ≤ nI (sS s k) then -1 else nI n) = (if (-1 : Int32) = -1 then (if tk n sg (skp n sg e) = 0 then (if 2 ≤ nI (sS s k) then -1 else f2) else f2) else -1)
          rw [if_pos rfl, if_pos (tk0.mpr q0), l3, en]
        · intro z
          have z2 : (if 2 ≤ nI (sS s k) then -1 else nI n) = -1 := z
          by_cases y : 2 ≤ nI (sS s k)
          · rw [x2c, ple (by decide) (by omega)] at y
            exact ⟨rfl, rfl, tk0.mpr q0, sS s k, y, rfl, rfl, hr2⟩
          · rw [if_neg y] at z2
            exact absurd z2 (nI_ne_m1 (by omega))
      · rw [if_neg q0, if_pos rfl, c_readSign h hc hK hb2, skp_idem h c2] at bc
        by_cases q4 : sg (skp n sg e) = 59
        · rw [if_pos q4, xb3, if_neg (by decide), nI_1] at bc
          have hlt := sg44_lt h (by decide) q4
          obtain ⟨a3, p3, f3, n3, w3, x1, x2⟩ := m_adv h ht hK hb2 L
          rw [te_s q4 (Or.inr rfl)] at x2
          rw [if_pos (l2.trans (tk4.mpr q4)), x1, xb5] at bm
          have := ih (skp n sg e + 1) (c + 1) g2 (sS s k) (ruS ru k v1) (plS pl s k v1 v2) (plS rp s k v1 v2) ws1 nu1 f1 a3 p3 f3 n3 (if k = 0 then v1 else la) (if k = 1 then v1 else bo) (if k = 2 then v1 else go) w3 Kc' (Km' + 1) (by omega) (by omega) (by omega) hg2 hr2 x2 (by omega) (by omega)
          rw [eg] at this
          rw [lp_one bc, lp_one bm]
          exact this
        · rw [if_neg q4, xb3, if_pos rfl] at bc
          rw [if_neg (fun z => q4 (tk4.mp (l2.symm.trans z)))] at bm
          refine ⟨_, _, _, _, _, _, _, _, _, _, _, _, _, _, _, _, _, _, _, _, lp_end bc, (lp_one bm).trans (stop _ _ _ _ _ _ _ _ _ _ _ _ _), by decide, ?_, ?_⟩
          · show nI (skp n sg e) = (if (-1 : Int32) = -1 then (if p2 = 0 then (if 2 ≤ nI (sS s k) then -1 else f2) else f2) else -1)
            rw [if_pos rfl, if_neg (fun z => q0 (tk0.mp (l2.symm.trans z))), l3]
          · intro z
            exact absurd (show nI (skp n sg e) = -1 from z) (nI_ne_m1 (by omega))
/-- both read a watch alike -/
theorem rw_both {K n : Nat} {sg bytes tape ru pl rp : Nat → Int32} {c1 c2 c3 c4 c5 c6 c7 m1 m2 m3 m4 m5 m7 m8 m9 m10 : Int32} {m6 : Int64} (h : Sg n sg) (hc : TpC n sg bytes) (ht : TpM n sg tape) (hK : 400 ≤ K) :
    ∃ r ru' pl' s' st' m' ac' ws' nu' f' am' pa' fr' pn' wr' pw' la' bo' go' rs' rp', F_X3_readWatch K bytes (nI n) ru pl c1 c2 c3 c4 c5 c6 c7 = some (r, ru', pl', s', st', m', ac', ws', nu', f') ∧ F_X8_readWatch K tape (nI n) m1 m2 m3 m4 m5 m6 m7 m8 m9 m10 rp = some (r, am', pa', fr', pn', wr', pw', la', bo', go', rs', rp') ∧ (r = -1 → ∃ s2, 2 ≤ s2 ∧ s' = nI s2 ∧ rs' = nI s2 ∧ RdOK s2 ru' pl' rp' la' bo' go') := by
  have h1 := h.1
  obtain ⟨at', pa, fr, pn, pw, E, L⟩ := m_next (a := 0) (pa := m2) (fr := m3) (pn := m4) (pw := m6) h ht hK (by omega)
  obtain ⟨t, ru', pl', s', m', ac', ws', nu', f', am', pa', fr', pn', wr', pw', la', bo', go', rs', rp', X1, X2, X3, X4, X5⟩ := rw_sync h hc ht hK (n + 1) 0 0 0 0 (upd (upd (upd ru 0 0) 1 1000) 2 100) pl rp c5 c6 (-1) at' pa fr pn 0 1000 100 pw K K (by omega) (by omega) (by omega) (by decide) ⟨by omega, rfl, rfl, rfl, fun j hj => by omega, by decide, by decide, by decide, fun j hj => by omega⟩ L (by omega) (by omega)
  have EC : F_X3_readWatch K bytes (nI n) ru pl c1 c2 c3 c4 c5 c6 c7 = some (rC n t s' f' ac', ru', pl', s', 0, m', ac', ws', nu', f') := by
    unfold F_X3_readWatch F_X3_start
    rw [xnm, xnm, xnm, xb6]
    rw [show lpF (fun u9 : Int32 × (Nat → Int32) × (Nat → Int32) × Int32 × Int32 × Int32 × Int32 × Int32 × Int32 => B_X3_readWatch_6 K (nI n) bytes u9.1 u9.2.1 u9.2.2.1 u9.2.2.2.1 u9.2.2.2.2.1 u9.2.2.2.2.2.1 u9.2.2.2.2.2.2.1 u9.2.2.2.2.2.2.2.1 u9.2.2.2.2.2.2.2.2) K ((0 : Int32), upd (upd (upd ru 0 0) 1 1000) 2 100, pl, (0 : Int32), (0 : Int32), (0 : Int32), c5, c6, (-1 : Int32)) = some (t, ru', pl', s', m', ac', ws', nu', f') from X1, xb9]
    unfold rC
    rcases (show t = 0 ∨ t = 1 ∨ t = 2 ∨ t = 3 by omega) with rfl | rfl | rfl | rfl
    · rfl
    · show (if (2 : Int32) ≤ s' then _ else _) = _
      by_cases q : (2 : Int32) ≤ s'
      · rw [if_pos q]; show _ = some (if (2 : Int32) ≤ s' then _ else _, _); rw [if_pos q]
      · rw [if_neg q]; show _ = some (if (2 : Int32) ≤ s' then _ else _, _); rw [if_neg q]
    · rfl
    · rfl
  have EM : F_X8_readWatch K tape (nI n) m1 m2 m3 m4 m5 m6 m7 m8 m9 m10 rp = some (rM wr' pa' rs' fr', am', pa', fr', pn', rM wr' pa' rs' fr', pw', la', bo', go', rs', rp') := by
    unfold F_X8_readWatch F_X8_begins
    rw [show F_X8_next K tape (nI n) (0 : Int32) m2 m3 m4 m6 = some (at', pa, fr, pn, pw) from E, xb5, xb6]
    rw [show lpF (fun u9 : Int32 × Int32 × Int32 × Int32 × Int32 × Int32 × Int32 × Int64 × Int32 × Int32 × Int32 × Int32 × (Nat → Int32) => B_X8_readWatch_31 K (nI n) tape u9.1 u9.2.1 u9.2.2.1 u9.2.2.2.1 u9.2.2.2.2.1 u9.2.2.2.2.2.1 u9.2.2.2.2.2.2.1 u9.2.2.2.2.2.2.2.1 u9.2.2.2.2.2.2.2.2.1 u9.2.2.2.2.2.2.2.2.2.1 u9.2.2.2.2.2.2.2.2.2.2.1 u9.2.2.2.2.2.2.2.2.2.2.2.1 u9.2.2.2.2.2.2.2.2.2.2.2.2) K ((0 : Int32), (1 : Int32), at', pa, fr, pn, (-1 : Int32), pw, (0 : Int32), (1000 : Int32), (100 : Int32), (0 : Int32), rp) = some (am', pa', fr', pn', wr', pw', la', bo', go', rs', rp') from X2, xb11]
    unfold rM
    by_cases q1 : wr' = -1
    · rw [if_pos q1, if_pos q1]
      by_cases q2 : pa' = 0
      · rw [if_pos q2, if_pos q2]
        by_cases q3 : 2 ≤ rs'
        · rw [if_pos q3, if_pos q3, q1]
        · rw [if_neg q3, if_neg q3, m_bad, if_pos q1, xb1]
      · rw [if_neg q2, if_neg q2, m_bad, if_pos q1, xb1]
    · rw [if_neg q1, if_neg q1]
  refine ⟨_, _, _, _, _, _, _, _, _, _, _, _, _, _, _, _, _, _, _, _, _, EC, by rw [X4]; exact EM, fun z => ?_⟩
  obtain ⟨-, -, -, s2, y⟩ := X5 z
  exact ⟨s2, y⟩
end
-- 58.st
section
/-! a script's step in both readers -/
def hidI : Int32 := -100000000
/-- which step the word at b names -/
def skd (n : Nat) (sg : Nat → Int32) (b : Nat) : Int32 := if wd n sg 8 b = true then 0 else if wd n sg 9 b = true then 1 else if wd n sg 2 b = true then 2 else if wd n sg 1 b = true then 3 else if wd n sg 10 b = true then 4 else if wd n sg 3 b = true then 5 else if wd n sg 11 b = true then 6 else -1
abbrev okA (n : Nat) (sg : Nat → Int32) (b : Nat) : Prop := okN n sg (-9999999) 9999999 b
/-- a step at b: where it fails, or its end and its numbers -/
def stS (n : Nat) (sg : Nat → Int32) (b : Nat) : Nat ⊕ (Nat × Int32 × Int32 × Int32) :=
  if skd n sg b = -1 then .inl b
  else if skd n sg b = 4 then .inr (wE n sg b, hidI, hidI, hidI)
  else if skd n sg b = 3 then (if lw n sg (skp n sg (wE n sg b)) = -1 then .inl (skp n sg (wE n sg b)) else .inr (wE n sg (skp n sg (wE n sg b)), lw n sg (skp n sg (wE n sg b)), hidI, hidI))
  else if okA n sg (skp n sg (wE n sg b)) then (if 2 ≤ skd n sg b then .inr (dE n sg (skp n sg (wE n sg b)), nN n sg (skp n sg (wE n sg b)), hidI, hidI)
    else if sg (skp n sg (dE n sg (skp n sg (wE n sg b)))) = 44 then (if okA n sg (skp n sg (skp n sg (dE n sg (skp n sg (wE n sg b))) + 1)) then (if skd n sg b = 1 then .inr (dE n sg (skp n sg (skp n sg (dE n sg (skp n sg (wE n sg b))) + 1)), nN n sg (skp n sg (wE n sg b)), nN n sg (skp n sg (skp n sg (dE n sg (skp n sg (wE n sg b))) + 1)), hidI)
        else if sg (skp n sg (dE n sg (skp n sg (skp n sg (dE n sg (skp n sg (wE n sg b))) + 1)))) = 44 then (if okA n sg (skp n sg (skp n sg (dE n sg (skp n sg (skp n sg (dE n sg (skp n sg (wE n sg b))) + 1))) + 1)) then .inr (dE n sg (skp n sg (skp n sg (dE n sg (skp n sg (skp n sg (dE n sg (skp n sg (wE n sg b))) + 1))) + 1)), nN n sg (skp n sg (wE n sg b)), nN n sg (skp n sg (skp n sg (dE n sg (skp n sg (wE n sg b))) + 1)), nN n sg (skp n sg (skp n sg (dE n sg (skp n sg (skp n sg (dE n sg (skp n sg (wE n sg b))) + 1))) + 1))) else .inl (skp n sg (skp n sg (dE n sg (skp n sg (skp n sg (dE n sg (skp n sg (wE n sg b))) + 1))) + 1)))
        else .inl (skp n sg (dE n sg (skp n sg (skp n sg (dE n sg (skp n sg (wE n sg b))) + 1)))))
      else .inl (skp n sg (skp n sg (dE n sg (skp n sg (wE n sg b))) + 1)))
    else .inl (skp n sg (dE n sg (skp n sg (wE n sg b)))))
  else .inl (skp n sg (wE n sg b))
theorem c_stepOfWord {K n b : Nat} {sg bytes : Nat → Int32} (h : Sg n sg) (hb : TpC n sg bytes) (hK : 400 ≤ K) (hbn : b ≤ n) : F_X3_stepOfWord K bytes (nI n) (nI (wE n sg b)) (nI b) = some (skd n sg b) := by
  unfold F_X3_stepOfWord skd
  rw [c_isWord h hb hK hbn (by decide), xb1, c_isWord h hb hK hbn (by decide), xb1, c_isWord h hb hK hbn (by decide), xb1, c_isWord h hb hK hbn (by decide), xb1, c_isWord h hb hK hbn (by decide), xb1, c_isWord h hb hK hbn (by decide), xb1, c_isWord h hb hK hbn (by decide), xb1]
  by_cases z0 : wd n sg 8 b = true
  · rw [if_pos z0, if_pos z0]; rfl
  · rw [if_neg z0, if_neg z0, if_pos rfl]
    by_cases z1 : wd n sg 9 b = true
    · rw [if_pos z1, if_pos z1]; rfl
    · rw [if_neg z1, if_neg z1, if_pos rfl]
      by_cases z2 : wd n sg 2 b = true
      · rw [if_pos z2, if_pos z2]; rfl
      · rw [if_neg z2, if_neg z2, if_pos rfl]
        by_cases z3 : wd n sg 1 b = true
        · rw [if_pos z3, if_pos z3]; rfl
        · rw [if_neg z3, if_neg z3, if_pos rfl]
          by_cases z4 : wd n sg 10 b = true
          · rw [if_pos z4, if_pos z4]; rfl
          · rw [if_neg z4, if_neg z4, if_pos rfl]
            by_cases z5 : wd n sg 3 b = true
            · rw [if_pos z5, if_pos z5]; rfl
            · rw [if_neg z5, if_neg z5, if_pos rfl]
              by_cases z6 : wd n sg 11 b = true
              · rw [if_pos z6, if_pos z6]; rfl
              · rw [if_neg z6, if_neg z6]; rfl
/-- the step's word is one of seven, or none -/
theorem skd_cases {n b : Nat} {sg : Nat → Int32} (h : Sg n sg) (hbn : b ≤ n) : skd n sg b = -1 ∨ (∃ k, k < 7 ∧ skd n sg b = nI k) ∧ (97 ≤ sg b ∧ sg b ≤ 122) := by
  unfold skd
  by_cases z0 : wd n sg 8 b = true
  · rw [if_pos z0]; exact Or.inr ⟨⟨0, by decide, rfl⟩, wd_letter h hbn (by decide) z0⟩
  · rw [if_neg z0]
    by_cases z1 : wd n sg 9 b = true
    · rw [if_pos z1]; exact Or.inr ⟨⟨1, by decide, rfl⟩, wd_letter h hbn (by decide) z1⟩
    · rw [if_neg z1]
      by_cases z2 : wd n sg 2 b = true
      · rw [if_pos z2]; exact Or.inr ⟨⟨2, by decide, rfl⟩, wd_letter h hbn (by decide) z2⟩
      · rw [if_neg z2]
        by_cases z3 : wd n sg 1 b = true
        · rw [if_pos z3]; exact Or.inr ⟨⟨3, by decide, rfl⟩, wd_letter h hbn (by decide) z3⟩
        · rw [if_neg z3]
          by_cases z4 : wd n sg 10 b = true
          · rw [if_pos z4]; exact Or.inr ⟨⟨4, by decide, rfl⟩, wd_letter h hbn (by decide) z4⟩
          · rw [if_neg z4]
            by_cases z5 : wd n sg 3 b = true
            · rw [if_pos z5]; exact Or.inr ⟨⟨5, by decide, rfl⟩, wd_letter h hbn (by decide) z5⟩
            · rw [if_neg z5]
              by_cases z6 : wd n sg 11 b = true
              · rw [if_pos z6]; exact Or.inr ⟨⟨6, by decide, rfl⟩, wd_letter h hbn (by decide) z6⟩
              · rw [if_neg z6]; exact Or.inl rfl
theorem x4 : (4 : Int32) = nI 4 := by decide
theorem c_put {c i : Nat} {st : Nat → Int32} {v : Int32} (hc : c < 12) (hi : i < 4) : F_X3_putInStep (nI i) v st (nI c) = some (upd st (c * 4 + i) v) := by
  unfold F_X3_putInStep
  rw [x12, xle (by decide) (by omega), if_neg (by omega), if_neg (nI_pos (by omega)), x4, xle (by decide) (by omega), if_neg (by omega), nI_mul, nI_add, xixn (by omega) (by decide), xnm, nI_clamp (by omega)]
theorem c_startStep {K c : Nat} {st : Nat → Int32} {p : Int32} (hK : 400 ≤ K) (hc : c < 12) : F_X3_startStep K p st (nI c) = some (upd (upd (upd (upd st (c * 4 + 0) p) (c * 4 + 1) hidI) (c * 4 + 2) hidI) (c * 4 + 3) hidI) := by
  obtain ⟨k, rfl⟩ : ∃ k, K = k + 10 := ⟨K - 10, by omega⟩
  unfold F_X3_startStep
  rw [x0, c_put hc (by decide), xb1]
  have one : ∀ (i : Nat) (s0 : Nat → Int32), i < 4 → B_X3_startStep_8 (nI c) (nI i) s0 = some (.inl (nI (i + 1), upd s0 (c * 4 + i) hidI)) := fun i s0 hi => by
    unfold B_X3_startStep_8
    rw [x4, xle (by decide) (by omega), if_neg (by omega), c_put hc hi, xb1, nI_1]
    rfl
  rw [x1, lp_one (u' := ((nI 2, _) : Int32 × (Nat → Int32))) (one 1 _ (by decide)), lp_one (u' := ((nI 3, _) : Int32 × (Nat → Int32))) (one 2 _ (by decide)), lp_one (u' := ((nI 4, _) : Int32 × (Nat → Int32))) (one 3 _ (by decide)), lp_end (r := _) (by show B_X3_startStep_8 (nI c) (nI 4) _ = _; unfold B_X3_startStep_8; rw [x4, if_pos (by decide)])]
  rfl
/-- a number of a step: i is its place -/
theorem c_num {K n a c i k : Nat} {sg bytes st : Nat → Int32} {ws nu f : Int32} (h : Sg n sg) (hb : TpC n sg bytes) (hK : 400 ≤ K) (ha : a ≤ n) (hc : c < 12) (hi : i < 4) (hk : k < 7) (hk3 : ¬ k = 3) : (¬ okA n sg (skp n sg a) → ∃ x y, J_X3_readStep_67_r43 K (nI c) (nI n) bytes (nI k) (nI i) st (nI a) ws nu f = some (.inr (1, st, x, ws, y, nI (skp n sg a)))) ∧ (okA n sg (skp n sg a) → J_X3_readStep_67_r43 K (nI c) (nI n) bytes (nI k) (nI i) st (nI a) ws nu f = some (.inl (nI (i + 1), upd st (c * 4 + i) (nN n sg (skp n sg a)), nI (dE n sg (skp n sg a)), ws, nN n sg (skp n sg a), f))) := by
  unfold J_X3_readStep_67_r43
  obtain ⟨at', nu', E, A⟩ := c_readNumber (lo := -9999999) (hi := 9999999) (nu := nu) (f := f) h hb hK ha
  rw [x3, xeq (by omega) (by decide), if_neg hk3, E, xb4]
  refine ⟨fun q => ?_, fun q => ?_⟩
  · rw [if_neg q, if_neg q, if_pos rfl]
    exact ⟨at', nu', rfl⟩
  · obtain ⟨rfl, rfl⟩ := A q
    rw [if_pos q, if_pos q, if_neg (by decide), c_put hc hi, xb1, nI_1]
def nosN (k : Nat) : Nat := ([3, 2, 1, 1, 0, 1, 1] : List Nat).getD k 0
theorem nos_eq : ∀ k, k < 7 → nosF k = nI (nosN k) := by decide +kernel
theorem nos_le : ∀ k, k < 7 → nosN k ≤ 3 := by decide +kernel
theorem c_b1 {K n c k : Nat} {bytes st : Nat → Int32} {at' ws nu f : Int32} (hk : k < 7) (h1 : 1 ≤ nosN k) : B_X3_readStep_42 K (nI c) (nI n) bytes (nI k) (nI 1) st at' ws nu f = J_X3_readStep_67_r43 K (nI c) (nI n) bytes (nI k) (nI 1) st at' ws nu f := by
  have := nos_le k hk
  unfold B_X3_readStep_42
  rw [xixn (by omega) (by decide), nI_clamp (by omega), nos_eq k hk, xltn (by omega) (by decide), if_neg (by omega), x1, xle (by decide) (by decide), if_pos (by decide)]
theorem c_bN {K n c k i : Nat} {bytes st : Nat → Int32} {at' ws nu f : Int32} (hk : k < 7) (hi : 2 ≤ i) (h1 : i ≤ nosN k) : B_X3_readStep_42 K (nI c) (nI n) bytes (nI k) (nI i) st at' ws nu f = bd3 (F_X3_readSign K (44 : Int32) bytes (nI n) at' f) (fun r_41 w_42 w_43 => if r_41 = (0 : Int32) then some (.inr (0, st, w_42, ws, nu, w_43)) else J_X3_readStep_67_r43 K (nI c) (nI n) bytes (nI k) (nI i) st w_42 ws nu w_43) := by
  have := nos_le k hk
  unfold B_X3_readStep_42
  rw [xixn (by omega) (by decide), nI_clamp (by omega), nos_eq k hk, xltn (by omega) (by omega), if_neg (by omega), x1, xle (by omega) (by decide), if_neg (by omega)]
theorem c_bE {K n c k i : Nat} {bytes st : Nat → Int32} {at' ws nu f : Int32} (hk : k < 7) (hi : i < 5) (h1 : nosN k < i) : B_X3_readStep_42 K (nI c) (nI n) bytes (nI k) (nI i) st at' ws nu f = some (.inr (2, st, at', ws, nu, f)) := by
  have := nos_le k hk
  unfold B_X3_readStep_42
  rw [xixn (by omega) (by decide), nI_clamp (by omega), nos_eq k hk, xltn (by omega) (by omega), if_pos h1]
/-- a comma, then a number -/
theorem c_cnum {K n a c i k : Nat} {sg bytes st : Nat → Int32} {ws nu f : Int32} (h : Sg n sg) (hb : TpC n sg bytes) (hK : 400 ≤ K) (ha : a ≤ n) (hc : c < 12) (hi : 2 ≤ i) (hk : k < 7) (hk3 : ¬ k = 3) (h1 : i ≤ nosN k) :
    (¬ sg (skp n sg a) = 44 → ∃ x y, B_X3_readStep_42 K (nI c) (nI n) bytes (nI k) (nI i) st (nI a) ws nu f = some (.inr (0, st, x, ws, y, nI (skp n sg a)))) ∧
    (sg (skp n sg a) = 44 → ¬ okA n sg (skp n sg (skp n sg a + 1)) → ∃ x y, B_X3_readStep_42 K (nI c) (nI n) bytes (nI k) (nI i) st (nI a) ws nu f = some (.inr (1, st, x, ws, y, nI (skp n sg (skp n sg a + 1))))) ∧
    (sg (skp n sg a) = 44 → okA n sg (skp n sg (skp n sg a + 1)) → B_X3_readStep_42 K (nI c) (nI n) bytes (nI k) (nI i) st (nI a) ws nu f = some (.inl (nI (i + 1), upd st (c * 4 + i) (nN n sg (skp n sg (skp n sg a + 1))), nI (dE n sg (skp n sg (skp n sg a + 1))), ws, nN n sg (skp n sg (skp n sg a + 1)), f))) := by
  have := nos_le k hk
  rw [c_bN hk hi h1, c_readSign h hb hK ha]
  refine ⟨fun q => ?_, fun q z => ?_, fun q z => ?_⟩
  · rw [if_neg q, xb3, if_pos rfl]
    exact ⟨_, _, rfl⟩
  · have hl := sg44_lt h (by decide) q
    rw [if_pos q, xb3, if_neg (by decide)]
    exact (c_num h hb hK (by omega) hc (by omega) hk hk3).1 z
  · have hl := sg44_lt h (by decide) q
    rw [if_pos q, xb3, if_neg (by decide)]
    exact (c_num h hb hK (by omega) hc (by omega) hk hk3).2 z
def q4 (v0 v1 v2 v3 : Int32) (j : Nat) : Int32 := if j = 0 then v0 else if j = 1 then v1 else if j = 2 then v2 else v3
/-- a row with four numbers laid from t on -/
def l4 (st : Nat → Int32) (t : Nat) (v0 v1 v2 v3 : Int32) : Nat → Int32 := upd (upd (upd (upd st (t + 0) v0) (t + 1) v1) (t + 2) v2) (t + 3) v3
theorem l4_1 {st : Nat → Int32} {t : Nat} {v0 v1 v2 v3 w : Int32} : upd (l4 st t v0 v1 v2 v3) (t + 1) w = l4 st t v0 w v2 v3 := by
  funext j
  unfold l4 upd
  by_cases e3 : j = t + 3 <;> by_cases e2 : j = t + 2 <;> by_cases e1 : j = t + 1 <;> simp [e1, e2, e3]
theorem l4_2 {st : Nat → Int32} {t : Nat} {v0 v1 v2 v3 w : Int32} : upd (l4 st t v0 v1 v2 v3) (t + 2) w = l4 st t v0 v1 w v3 := by
  funext j
  unfold l4 upd
  by_cases e3 : j = t + 3 <;> by_cases e2 : j = t + 2 <;> by_cases e1 : j = t + 1 <;> simp [e1, e2, e3]
theorem l4_3 {st : Nat → Int32} {t : Nat} {v0 v1 v2 v3 w : Int32} : upd (l4 st t v0 v1 v2 v3) (t + 3) w = l4 st t v0 v1 v2 w := by
  funext j
  unfold l4 upd
  by_cases e3 : j = t + 3 <;> by_cases e2 : j = t + 2 <;> by_cases e1 : j = t + 1 <;> simp [e1, e2, e3]
abbrev TS6 : Type := Int32 × (Nat → Int32) × Int32 × Int32 × Int32 × Int32
abbrev RS6 : Type := Nat × (Nat → Int32) × Int32 × Int32 × Int32 × Int32
abbrev bS (K n c k : Nat) (bytes : Nat → Int32) : TS6 → Option (TS6 ⊕ RS6) := fun u9 => B_X3_readStep_42 K (nI c) (nI n) bytes (nI k) u9.1 u9.2.1 u9.2.2.1 u9.2.2.2.1 u9.2.2.2.2.1 u9.2.2.2.2.2
theorem s_bE {K n c k i : Nat} {bytes st : Nat → Int32} {at' ws nu f : Int32} (hk : k < 7) (hi : i < 5) (h1 : nosN k < i) : bS K n c k bytes (nI i, st, at', ws, nu, f) = some (.inr (2, st, at', ws, nu, f)) := c_bE hk hi h1
/-- where the loop over a step's numbers ends -/
def NumE (n : Nat) (sg st : Nat → Int32) (b c k : Nat) (f : Int32) (r : RS6) : Prop := (∀ p, stS n sg b = .inl p → r.1 < 2 ∧ r.2.2.2.2.2 = nI p) ∧ (∀ e v1 v2 v3, stS n sg b = .inr (e, v1, v2, v3) → r.1 = 2 ∧ r.2.2.2.2.2 = f ∧ r.2.2.1 = nI e ∧ r.2.1 = l4 st (c * 4) (nI k) v1 v2 v3)
theorem NumE.bad {n b c k p t : Nat} {sg st st' : Nat → Int32} {f x w y : Int32} (hs : stS n sg b = .inl p) (ht : t < 2) : NumE n sg st b c k f (t, st', x, w, y, nI p) := ⟨fun p' e => (by rw [hs] at e; cases e; exact ⟨ht, rfl⟩), fun e v1 v2 v3 q => by rw [hs] at q; cases q⟩
theorem NumE.good {n b c k e : Nat} {sg st : Nat → Int32} {f w y v1 v2 v3 : Int32} (hs : stS n sg b = .inr (e, v1, v2, v3)) : NumE n sg st b c k f (2, l4 st (c * 4) (nI k) v1 v2 v3, nI e, w, y, f) := ⟨fun p' q => (by rw [hs] at q; cases q), fun e v1 v2 v3 q => by rw [hs] at q; cases q; exact ⟨rfl, rfl, rfl, rfl⟩⟩
/-- the loop over a step's numbers: it ends with 2 (good) or less (bad), as stS says -/
theorem c_nums {K n b c k : Nat} {sg bytes st : Nat → Int32} {ws nu f : Int32} (h : Sg n sg) (hb : TpC n sg bytes) (hK : 400 ≤ K) (hbn : b ≤ n) (hc : c < 12) (hk : k < 7) (hsk : skd n sg b = nI k) : ∃ r, lpF (bS K n c k bytes) K (nI 1, l4 st (c * 4) (nI k) hidI hidI hidI, nI (wE n sg b), ws, nu, f) = some r ∧ NumE n sg st b c k f r := by
  obtain ⟨K', rfl⟩ : ∃ k, K = k + 10 := ⟨K - 10, by omega⟩
  have h3 := wE_le h hbn
  have h4 := skp_le h h3
  have h5 := dE_le h h4
  have h6 := skp_le h h5
  have km1 : ¬ nI k = -1 := nI_ne_m1 (by omega)
  have k4 : (nI k = 4) ↔ k = 4 := by rw [x4, nI_eq (by omega) (by decide)]
  have k3 : (nI k = 3) ↔ k = 3 := by rw [x3, nI_eq (by omega) (by decide)]
  have k1 : (nI k = 1) ↔ k = 1 := by rw [x1, nI_eq (by omega) (by decide)]
  have k2 : ((2 : Int32) ≤ nI k) ↔ 2 ≤ k := by rw [x2c, nI_leI (by decide) (by omega)]
  by_cases e4 : k = 4
  · exact ⟨_, lp_end (s_bE hk (by decide) (by rw [e4]; decide)), NumE.good (by unfold stS; rw [hsk, if_neg km1, if_pos (k4.mpr e4)])⟩
  · have m4 : ¬ nI k = 4 := fun z => e4 (k4.mp z)
    have n1 : 1 ≤ nosN k := by
      rcases (show k = 0 ∨ k = 1 ∨ k = 2 ∨ k = 3 ∨ k = 5 ∨ k = 6 by omega) with rfl | rfl | rfl | rfl | rfl | rfl <;> decide
    by_cases e3 : k = 3
    · obtain ⟨at', w', nu', E, A⟩ := c_readLaw (w := ws) (nu := nu) (f := f) h hb hK h3
      have bb : bS (K' + 10) n c k bytes (nI 1, l4 st (c * 4) (nI k) hidI hidI hidI, nI (wE n sg b), ws, nu, f) = (if (if lw n sg (skp n sg (wE n sg b)) = -1 then (0 : Int32) else 1) = 0 then some (.inr (1, l4 st (c * 4) (nI k) hidI hidI hidI, at', w', nu', if lw n sg (skp n sg (wE n sg b)) = -1 then nI (skp n sg (wE n sg b)) else f)) else bd1 (F_X3_putInStep (nI 1) nu' (l4 st (c * 4) (nI k) hidI hidI hidI) (nI c)) (fun w_39 => some (.inl (nI 1 + (1 : Int32), w_39, at', w', nu', if lw n sg (skp n sg (wE n sg b)) = -1 then nI (skp n sg (wE n sg b)) else f)))) := by
        show B_X3_readStep_42 (K' + 10) (nI c) (nI n) bytes (nI k) (nI 1) (l4 st (c * 4) (nI k) hidI hidI hidI) (nI (wE n sg b)) ws nu f = _
        rw [c_b1 hk n1]
        unfold J_X3_readStep_67_r43
        rw [if_pos (k3.mpr e3), E, xb5]
      by_cases y : lw n sg (skp n sg (wE n sg b)) = -1
      · rw [if_pos y, if_pos y, if_pos rfl] at bb
        exact ⟨_, lp_end bb, NumE.bad (by unfold stS; rw [hsk, if_neg km1, if_neg m4, if_pos (k3.mpr e3), if_pos y]) (by decide)⟩
      · obtain ⟨rfl, rfl⟩ := A y
        rw [if_neg y, if_neg y, if_neg (by decide), c_put hc (by decide), xb1, l4_1, nI_1] at bb
        exact ⟨_, (lp_one bb).trans (lp_end (s_bE hk (by decide) (by rw [e3]; decide))), NumE.good (by unfold stS; rw [hsk, if_neg km1, if_neg m4, if_pos (k3.mpr e3), if_neg y])⟩
    · have m3 : ¬ nI k = 3 := fun z => e3 (k3.mp z)
      have N := c_num (st := l4 st (c * 4) (nI k) hidI hidI hidI) (ws := ws) (nu := nu) (f := f) (i := 1) h hb hK h3 hc (by decide) hk e3
      by_cases y1 : okA n sg (skp n sg (wE n sg b))
      · have B1 : bS (K' + 10) n c k bytes (nI 1, l4 st (c * 4) (nI k) hidI hidI hidI, nI (wE n sg b), ws, nu, f) = some (.inl (nI 2, l4 st (c * 4) (nI k) (nN n sg (skp n sg (wE n sg b))) hidI hidI, nI (dE n sg (skp n sg (wE n sg b))), ws, nN n sg (skp n sg (wE n sg b)), f)) := by
          have B := (c_b1 hk n1).trans (N.2 y1)
          rw [l4_1] at B
          exact B
        by_cases g2 : 2 ≤ k
        · exact ⟨_, (lp_one B1).trans (lp_end (s_bE hk (by decide) (by rcases (show k = 2 ∨ k = 5 ∨ k = 6 by omega) with rfl | rfl | rfl <;> decide))), NumE.good (by unfold stS; rw [hsk, if_neg km1, if_neg m4, if_neg m3, if_pos y1, if_pos (k2.mpr g2)])⟩
        · have m2 : ¬ (2 : Int32) ≤ nI k := fun z => g2 (k2.mp z)
          have n2 : 2 ≤ nosN k := by rcases (show k = 0 ∨ k = 1 by omega) with rfl | rfl <;> decide
          have C2 := c_cnum (st := l4 st (c * 4) (nI k) (nN n sg (skp n sg (wE n sg b))) hidI hidI) (ws := ws) (nu := nN n sg (skp n sg (wE n sg b))) (f := f) (i := 2) h hb hK h5 hc (by decide) hk e3 n2
          by_cases q2 : sg (skp n sg (dE n sg (skp n sg (wE n sg b)))) = 44
          · have hl := sg44_lt h (by decide) q2
            have h7 := skp_le h (show skp n sg (dE n sg (skp n sg (wE n sg b))) + 1 ≤ n by omega)
            have h8 := dE_le h h7
            by_cases y2 : okA n sg (skp n sg (skp n sg (dE n sg (skp n sg (wE n sg b))) + 1))
            · have B2 : bS (K' + 10) n c k bytes (nI 2, l4 st (c * 4) (nI k) (nN n sg (skp n sg (wE n sg b))) hidI hidI, nI (dE n sg (skp n sg (wE n sg b))), ws, nN n sg (skp n sg (wE n sg b)), f) = some (.inl (nI 3, l4 st (c * 4) (nI k) (nN n sg (skp n sg (wE n sg b))) (nN n sg (skp n sg (skp n sg (dE n sg (skp n sg (wE n sg b))) + 1))) hidI, nI (dE n sg (skp n sg (skp n sg (dE n sg (skp n sg (wE n sg b))) + 1))), ws, nN n sg (skp n sg (skp n sg (dE n sg (skp n sg (wE n sg b))) + 1)), f)) := by
                have B := C2.2.2 q2 y2
                rw [l4_2] at B
                exact B
              by_cases g1 : k = 1
              · exact ⟨_, (lp_one B1).trans ((lp_one B2).trans (lp_end (s_bE hk (by decide) (by rw [g1]; decide)))), NumE.good (by unfold stS; rw [hsk, if_neg km1, if_neg m4, if_neg m3, if_pos y1, if_neg m2, if_pos q2, if_pos y2, if_pos (k1.mpr g1)])⟩
              · have m1 : ¬ nI k = 1 := fun z => g1 (k1.mp z)
                have e0 : k = 0 := by omega
                have C3 := c_cnum (st := l4 st (c * 4) (nI k) (nN n sg (skp n sg (wE n sg b))) (nN n sg (skp n sg (skp n sg (dE n sg (skp n sg (wE n sg b))) + 1))) hidI) (ws := ws) (nu := nN n sg (skp n sg (skp n sg (dE n sg (skp n sg (wE n sg b))) + 1))) (f := f) (i := 3) h hb hK h8 hc (by decide) hk e3 (by rw [e0]; decide)
                by_cases q3 : sg (skp n sg (dE n sg (skp n sg (skp n sg (dE n sg (skp n sg (wE n sg b))) + 1)))) = 44
                · by_cases y3 : okA n sg (skp n sg (skp n sg (dE n sg (skp n sg (skp n sg (dE n sg (skp n sg (wE n sg b))) + 1))) + 1))
                  · have B3 : bS (K' + 10) n c k bytes (nI 3, l4 st (c * 4) (nI k) (nN n sg (skp n sg (wE n sg b))) (nN n sg (skp n sg (skp n sg (dE n sg (skp n sg (wE n sg b))) + 1))) hidI, nI (dE n sg (skp n sg (skp n sg (dE n sg (skp n sg (wE n sg b))) + 1))), ws, nN n sg (skp n sg (skp n sg (dE n sg (skp n sg (wE n sg b))) + 1)), f) = some (.inl (nI 4, l4 st (c * 4) (nI k) (nN n sg (skp n sg (wE n sg b))) (nN n sg (skp n sg (skp n sg (dE n sg (skp n sg (wE n sg b))) + 1))) (nN n sg (skp n sg (skp n sg (dE n sg (skp n sg (skp n sg (dE n sg (skp n sg (wE n sg b))) + 1))) + 1))), nI (dE n sg (skp n sg (skp n sg (dE n sg (skp n sg (skp n sg (dE n sg (skp n sg (wE n sg b))) + 1))) + 1))), ws, nN n sg (skp n sg (skp n sg (dE n sg (skp n sg (skp n sg (dE n sg (skp n sg (wE n sg b))) + 1))) + 1)), f)) := by
                      have B := C3.2.2 q3 y3
                      rw [l4_3] at B
                      exact B
                    exact ⟨_, (lp_one B1).trans ((lp_one B2).trans ((lp_one B3).trans (lp_end (s_bE hk (by decide) (by rw [e0]; decide))))), NumE.good (by unfold stS; rw [hsk, if_neg km1, if_neg m4, if_neg m3, if_pos y1, if_neg m2, if_pos q2, if_pos y2, if_neg m1, if_pos q3, if_pos y3])⟩
                  · obtain ⟨x, y, B3⟩ := C3.2.1 q3 y3
                    exact ⟨_, (lp_one B1).trans ((lp_one B2).trans (lp_end (b := bS (K' + 10) n c k bytes) B3)), NumE.bad (by unfold stS; rw [hsk, if_neg km1, if_neg m4, if_neg m3, if_pos y1, if_neg m2, if_pos q2, if_pos y2, if_neg m1, if_pos q3, if_neg y3]) (by decide)⟩
                · obtain ⟨x, y, B3⟩ := C3.1 q3
                  exact ⟨_, (lp_one B1).trans ((lp_one B2).trans (lp_end (b := bS (K' + 10) n c k bytes) B3)), NumE.bad (by unfold stS; rw [hsk, if_neg km1, if_neg m4, if_neg m3, if_pos y1, if_neg m2, if_pos q2, if_pos y2, if_neg m1, if_neg q3]) (by decide)⟩
            · obtain ⟨x, y, B2⟩ := C2.2.1 q2 y2
              exact ⟨_, (lp_one B1).trans (lp_end (b := bS (K' + 10) n c k bytes) B2), NumE.bad (by unfold stS; rw [hsk, if_neg km1, if_neg m4, if_neg m3, if_pos y1, if_neg m2, if_pos q2, if_neg y2]) (by decide)⟩
          · obtain ⟨x, y, B2⟩ := C2.1 q2
            exact ⟨_, (lp_one B1).trans (lp_end (b := bS (K' + 10) n c k bytes) B2), NumE.bad (by unfold stS; rw [hsk, if_neg km1, if_neg m4, if_neg m3, if_pos y1, if_neg m2, if_neg q2]) (by decide)⟩
      · obtain ⟨x, y, B1⟩ := N.1 y1
        exact ⟨_, lp_end (b := bS (K' + 10) n c k bytes) ((c_b1 hk n1).trans B1), NumE.bad (by unfold stS; rw [hsk, if_neg km1, if_neg m4, if_neg m3, if_neg y1]) (by decide)⟩
theorem c_readStep {K n a c : Nat} {sg bytes st : Nat → Int32} {ws nu f : Int32} (h : Sg n sg) (hb : TpC n sg bytes) (hK : 400 ≤ K) (ha : a ≤ n) (hc : c < 12) : ∃ r st' at' ws' nu' f', F_X3_readStep K bytes (nI n) st (nI c) (nI a) ws nu f = some (r, st', at', ws', nu', f') ∧ (∀ p, stS n sg (skp n sg a) = .inl p → r = 0 ∧ f' = nI p) ∧ (∀ e v1 v2 v3, stS n sg (skp n sg a) = .inr (e, v1, v2, v3) → r = 1 ∧ f' = f ∧ at' = nI e ∧ st' = l4 st (c * 4) (skd n sg (skp n sg a)) v1 v2 v3) := by
  have h2 := skp_le h ha
  unfold F_X3_readStep
  rw [c_readWord h hb hK ha]
  generalize skp n sg a = b at h2 ⊢
  rcases skd_cases h h2 with q | ⟨⟨k, hk, q⟩, z⟩
  · have S : stS n sg b = .inl b := by unfold stS; rw [if_pos q]
    by_cases y : b < wE n sg b
    · rw [if_pos y, xb4, if_neg (by decide), c_stepOfWord h hb hK h2, xb1, q, if_pos (by decide)]
      refine ⟨_, _, _, _, _, _, rfl, fun p e => ?_, fun e v1 v2 v3 e2 => ?_⟩
      · rw [S] at e; cases e; exact ⟨rfl, rfl⟩
      · rw [S] at e2; cases e2
    · rw [if_neg y, xb4, if_pos rfl]
      refine ⟨_, _, _, _, _, _, rfl, fun p e => ?_, fun e v1 v2 v3 e2 => ?_⟩
      · rw [S] at e; cases e; exact ⟨rfl, rfl⟩
      · rw [S] at e2; cases e2
  · rw [if_pos ((wE_lt h h2).mpr z), xb4, if_neg (by decide), c_stepOfWord h hb hK h2, xb1, q, if_neg (nI_pos (by omega)), x7, xltn (by omega) (by decide), if_pos hk, c_startStep hK hc, xb1]
    obtain ⟨⟨t, st', at', ws', nu', f'⟩, E, A, B⟩ := c_nums (st := st) (ws := nI b) (nu := nu) (f := f) h hb hK h2 hc hk q
    rw [show lpF (fun u9 : Int32 × (Nat → Int32) × Int32 × Int32 × Int32 × Int32 => B_X3_readStep_42 K (nI c) (nI n) bytes (nI k) u9.1 u9.2.1 u9.2.2.1 u9.2.2.2.1 u9.2.2.2.2.1 u9.2.2.2.2.2) K ((1 : Int32), upd (upd (upd (upd st (c * 4 + 0) (nI k)) (c * 4 + 1) hidI) (c * 4 + 2) hidI) (c * 4 + 3) hidI, nI (wE n sg b), nI b, nu, f) = some (t, st', at', ws', nu', f') from E, xb6]
    cases hst : stS n sg b with
    | inl p =>
      obtain ⟨ht, rfl⟩ := A p hst
      rcases (show t = 0 ∨ t = 1 by omega) with rfl | rfl
      · refine ⟨_, _, _, _, _, _, rfl, fun p' e => ?_, fun e v1 v2 v3 e2 => by cases e2⟩
        cases e; exact ⟨rfl, rfl⟩
      · refine ⟨_, _, _, _, _, _, rfl, fun p' e => ?_, fun e v1 v2 v3 e2 => by cases e2⟩
        cases e; exact ⟨rfl, rfl⟩
    | inr x =>
      obtain ⟨e, v1, v2, v3⟩ := x
      obtain ⟨rfl, rfl, rfl, rfl⟩ := B e v1 v2 v3 hst
      refine ⟨_, _, _, _, _, _, rfl, fun p' e => (by cases e), fun e v1 v2 v3 e2 => ?_⟩
      cases e2
      exact ⟨rfl, rfl, rfl, rfl⟩
end
-- 59.sm
section
/-! a script's step in the reference -/
def limN (k : Nat) : Nat := if k = 0 then 3 else if k = 1 then 2 else 1
abbrev TT8 : Type := Int32 × Int32 × Int32 × Int32 × Int32 × Int32 × Int64 × (Nat → Int32)
abbrev RT7 : Type := Int32 × Int32 × Int32 × Int32 × Int32 × Int64 × (Nat → Int32)
abbrev bT (K n t k : Nat) (tape : Nat → Int32) : TT8 → Option (TT8 ⊕ RT7) := fun u9 => B_X8_readStep_177 K (nI t) (nI n) tape (nI k) u9.1 u9.2.1 u9.2.2.1 u9.2.2.2.1 u9.2.2.2.2.1 u9.2.2.2.2.2.1 u9.2.2.2.2.2.2.1 u9.2.2.2.2.2.2.2
theorem m_t0 {K n t k i : Nat} {tape sc : Nat → Int32} {at' pa fr pn wr : Int32} {pw : Int64} (hk : k < 7) : B_X8_readStep_177 K (nI t) (nI n) tape (nI k) (nI i) at' pa fr pn wr pw sc = J_X8_readStep_196_r178 K (nI t) (nI n) tape (nI (limN k)) (nI i) (nI i) at' pa fr pn wr pw sc := by
  unfold B_X8_readStep_177 limN
  rw [x0, xeq (by omega) (by decide), x1, xeq (by omega) (by decide)]
  by_cases e0 : k = 0
  · rw [if_pos e0, if_pos e0]; rfl
  · rw [if_neg e0, if_neg e0]
    by_cases e1 : k = 1
    · rw [if_pos e1, if_pos e1]; rfl
    · rw [if_neg e1, if_neg e1]
theorem lim_le {k : Nat} : limN k ≤ 3 := by
  unfold limN
  split
  · decide
  · split <;> decide
theorem m_tE {K n t k i : Nat} {tape sc : Nat → Int32} {at' pa fr pn wr : Int32} {pw : Int64} (hk : k < 7) (hi : i < 5) (h1 : limN k < i) : B_X8_readStep_177 K (nI t) (nI n) tape (nI k) (nI i) at' pa fr pn wr pw sc = some (.inr (at', pa, fr, pn, wr, pw, sc)) := by
  have := lim_le (k := k)
  rw [m_t0 hk]
  unfold J_X8_readStep_196_r178
  rw [xltn (by omega) (by omega), if_pos h1]
theorem m_anyW {K : Nat} {tape : Nat → Int32} {td at' pa fr pn wr : Int32} {pw : Int64} (hw : ¬ wr = -1) : F_X8_anyNumber K tape td at' pa fr pn wr pw = some (-9999999, at', pa, fr, pn, wr, pw) := by
  unfold F_X8_anyNumber
  rw [m_numberW hw, xb7]
theorem m_any {K n b : Nat} {sg tape : Nat → Int32} {at' pa fr pn : Int32} {pw : Int64} (h : Sg n sg) (hb : TpM n sg tape) (hK : 400 ≤ K) (hbn : b ≤ n) (hl : LA n sg b at' pa fr pn pw) : (¬ okA n sg b → F_X8_anyNumber K tape (nI n) at' pa fr pn (-1) pw = some (-9999999, at', pa, fr, pn, nI b, pw)) ∧ (okA n sg b → ∃ a2 p2 f2 n2 w2, F_X8_anyNumber K tape (nI n) at' pa fr pn (-1) pw = some (nN n sg b, a2, p2, f2, n2, -1, w2) ∧ LA n sg (skp n sg (dE n sg b)) a2 p2 f2 n2 w2) := by
  have M := m_number (lo := -9999999) (hi := 9999999) h hb hK hbn hl
  unfold F_X8_anyNumber
  refine ⟨fun q => by rw [M.1 q, xb7], fun q => ?_⟩
  obtain ⟨a2, p2, f2, n2, w2, E, L⟩ := M.2 q
  rw [E, xb7]
  exact ⟨a2, p2, f2, n2, w2, rfl, L⟩
theorem m_tW {K n t k i : Nat} {tape sc : Nat → Int32} {at' pa fr pn wr : Int32} {pw : Int64} (hk : k < 7) (ht : t ≤ 236) (hi : i ≤ limN k) (hw : ¬ wr = -1) : B_X8_readStep_177 K (nI t) (nI n) tape (nI k) (nI i) at' pa fr pn wr pw sc = some (.inl (nI (i + 1), at', pa, fr, pn, wr, pw, upd sc (t + i) (-9999999))) := by
  have := lim_le (k := k)
  rw [m_t0 hk]
  unfold J_X8_readStep_196_r178
  rw [xltn (by omega) (by omega), if_neg (by omega), m_commaW hw, xb6, m_anyW hw, xb7, nI_add, xixn (by omega) (by decide), xnm, nI_clamp (by omega), nI_1]
theorem s_tE {K n t k i : Nat} {tape sc : Nat → Int32} {at' pa fr pn wr : Int32} {pw : Int64} (hk : k < 7) (hi : i < 5) (h1 : limN k < i) : bT K n t k tape (nI i, at', pa, fr, pn, wr, pw, sc) = some (.inr (at', pa, fr, pn, wr, pw, sc)) := m_tE hk hi h1
theorem s_tW {K n t k i : Nat} {tape sc : Nat → Int32} {at' pa fr pn wr : Int32} {pw : Int64} (hk : k < 7) (ht : t ≤ 236) (hi : i ≤ limN k) (hw : ¬ wr = -1) : bT K n t k tape (nI i, at', pa, fr, pn, wr, pw, sc) = some (.inl (nI (i + 1), at', pa, fr, pn, wr, pw, upd sc (t + i) (-9999999))) := m_tW hk ht hi hw
/-- a wrong script goes on to the step's end -/
theorem m_wrong {K n t k : Nat} {tape : Nat → Int32} {wr : Int32} (hk : k < 7) (ht : t ≤ 236) (hw : ¬ wr = -1) : ∀ (d i : Nat) (sc : Nat → Int32) (at' pa fr pn : Int32) (pw : Int64) (Kt : Nat), i + d = limN k + 1 → d < Kt → ∃ sc', lpF (bT K n t k tape) Kt (nI i, at', pa, fr, pn, wr, pw, sc) = some (at', pa, fr, pn, wr, pw, sc') ∧ ∀ j, (j < t ∨ t + 4 ≤ j) → sc' j = sc j := by
  have hl := lim_le (k := k)
  intro d
  induction d with
  | zero =>
    intro i sc at' pa fr pn pw Kt h1 h2
    obtain ⟨Kt', rfl⟩ : ∃ q, Kt = q + 1 := ⟨Kt - 1, by omega⟩
    exact ⟨sc, lp_end (s_tE hk (by omega) (by omega)), fun j _ => rfl⟩
  | succ d ih =>
    intro i sc at' pa fr pn pw Kt h1 h2
    obtain ⟨Kt', rfl⟩ : ∃ q, Kt = q + 1 := ⟨Kt - 1, by omega⟩
    obtain ⟨sc', E, F⟩ := ih (i + 1) (upd sc (t + i) (-9999999)) at' pa fr pn pw Kt' (by omega) (by omega)
    refine ⟨sc', (lp_one (s_tW hk ht (by omega) hw)).trans E, fun j hj => ?_⟩
    rw [F j hj]
    exact upd_ne (by omega)
/-- a comma, then a number -/
theorem m_cnum {K n t k i b : Nat} {sg tape sc : Nat → Int32} {at' pa fr pn : Int32} {pw : Int64} (h : Sg n sg) (hb : TpM n sg tape) (hK : 400 ≤ K) (hbn : b ≤ n) (hk : k < 7) (ht : t ≤ 236) (hi : i ≤ limN k) (hl : LA n sg b at' pa fr pn pw) :
    (¬ sg b = 44 → B_X8_readStep_177 K (nI t) (nI n) tape (nI k) (nI i) at' pa fr pn (-1) pw sc = some (.inl (nI (i + 1), at', pa, fr, pn, nI b, pw, upd sc (t + i) (-9999999)))) ∧
    (sg b = 44 → ¬ okA n sg (skp n sg (b + 1)) → ∃ a2 p2 f2 n2 w2, B_X8_readStep_177 K (nI t) (nI n) tape (nI k) (nI i) at' pa fr pn (-1) pw sc = some (.inl (nI (i + 1), a2, p2, f2, n2, nI (skp n sg (b + 1)), w2, upd sc (t + i) (-9999999)))) ∧
    (sg b = 44 → okA n sg (skp n sg (b + 1)) → ∃ a2 p2 f2 n2 w2, B_X8_readStep_177 K (nI t) (nI n) tape (nI k) (nI i) at' pa fr pn (-1) pw sc = some (.inl (nI (i + 1), a2, p2, f2, n2, -1, w2, upd sc (t + i) (nN n sg (skp n sg (b + 1))))) ∧ LA n sg (skp n sg (dE n sg (skp n sg (b + 1)))) a2 p2 f2 n2 w2) := by
  have := lim_le (k := k)
  have h1 := h.1
  rw [m_t0 hk]
  unfold J_X8_readStep_196_r178
  rw [xltn (by omega) (by omega), if_neg (by omega)]
  have M := m_comma h hb hK hbn hl
  refine ⟨fun q => ?_, fun q z => ?_, fun q z => ?_⟩
  · rw [M.1 q, xb6, m_anyW (nI_ne_m1 (by omega)), xb7, nI_add, xixn (by omega) (by decide), xnm, nI_clamp (by omega), nI_1]
  · obtain ⟨a2, p2, f2, n2, w2, E, L⟩ := M.2 q
    have hlt := sg44_lt h (by decide) q
    have h7 := skp_le h (show b + 1 ≤ n by omega)
    rw [E, xb6, (m_any h hb hK h7 L).1 z, xb7, nI_add, xixn (by omega) (by decide), xnm, nI_clamp (by omega), nI_1]
    exact ⟨_, _, _, _, _, rfl⟩
  · obtain ⟨a2, p2, f2, n2, w2, E, L⟩ := M.2 q
    have hlt := sg44_lt h (by decide) q
    have h7 := skp_le h (show b + 1 ≤ n by omega)
    obtain ⟨a3, p3, f3, n3, w3, E3, L3⟩ := (m_any h hb hK h7 L).2 z
    rw [E, xb6, E3, xb7, nI_add, xixn (by omega) (by decide), xnm, nI_clamp (by omega), nI_1]
    exact ⟨_, _, _, _, _, rfl, L3⟩
theorem s_cnum {K n t k i b : Nat} {sg tape sc : Nat → Int32} {at' pa fr pn : Int32} {pw : Int64} (h : Sg n sg) (hb : TpM n sg tape) (hK : 400 ≤ K) (hbn : b ≤ n) (hk : k < 7) (ht : t ≤ 236) (hi : i ≤ limN k) (hl : LA n sg b at' pa fr pn pw) :
    (¬ sg b = 44 → bT K n t k tape (nI i, at', pa, fr, pn, -1, pw, sc) = some (.inl (nI (i + 1), at', pa, fr, pn, nI b, pw, upd sc (t + i) (-9999999)))) ∧
    (sg b = 44 → ¬ okA n sg (skp n sg (b + 1)) → ∃ a2 p2 f2 n2 w2, bT K n t k tape (nI i, at', pa, fr, pn, -1, pw, sc) = some (.inl (nI (i + 1), a2, p2, f2, n2, nI (skp n sg (b + 1)), w2, upd sc (t + i) (-9999999)))) ∧
    (sg b = 44 → okA n sg (skp n sg (b + 1)) → ∃ a2 p2 f2 n2 w2, bT K n t k tape (nI i, at', pa, fr, pn, -1, pw, sc) = some (.inl (nI (i + 1), a2, p2, f2, n2, -1, w2, upd sc (t + i) (nN n sg (skp n sg (b + 1))))) ∧ LA n sg (skp n sg (dE n sg (skp n sg (b + 1)))) a2 p2 f2 n2 w2) := m_cnum h hb hK hbn hk ht hi hl
theorem l4_out {st : Nat → Int32} {t j : Nat} {v0 v1 v2 v3 : Int32} (h : j < t ∨ t + 4 ≤ j) : l4 st t v0 v1 v2 v3 j = st j := by
  unfold l4
  rw [upd_ne (by omega), upd_ne (by omega), upd_ne (by omega), upd_ne (by omega)]
/-- J_174: the first number is there; the others -/
theorem m_more {K n t k b : Nat} {sg tape sc : Nat → Int32} {at' pa fr pn v : Int32} {pw : Int64} (h : Sg n sg) (hb : TpM n sg tape) (hK : 400 ≤ K) (hbn : b ≤ n) (hk : k < 7) (ht : t ≤ 236) (hl : LA n sg b at' pa fr pn pw) : ∃ a2 p2 f2 n2 wr w2 sc', J_X8_readStep_174 K (nI t) (nI n) tape v (nI t + 1) (nI k) at' pa fr pn (-1) pw (l4 sc t (nI k) hidI hidI hidI) = some (a2, p2, f2, n2, wr, w2, sc') ∧ (∀ j, (j < t ∨ t + 4 ≤ j) → sc' j = sc j) ∧
    (2 ≤ k → wr = -1 ∧ LA n sg b a2 p2 f2 n2 w2 ∧ sc' = l4 sc t (nI k) v hidI hidI) ∧
    (k < 2 → ¬ sg b = 44 → wr = nI b) ∧
    (k < 2 → sg b = 44 → ¬ okA n sg (skp n sg (b + 1)) → wr = nI (skp n sg (b + 1))) ∧
    (k = 1 → sg b = 44 → okA n sg (skp n sg (b + 1)) → wr = -1 ∧ LA n sg (skp n sg (dE n sg (skp n sg (b + 1)))) a2 p2 f2 n2 w2 ∧ sc' = l4 sc t (nI k) v (nN n sg (skp n sg (b + 1))) hidI) ∧
    (k = 0 → sg b = 44 → okA n sg (skp n sg (b + 1)) → ¬ sg (skp n sg (dE n sg (skp n sg (b + 1)))) = 44 → wr = nI (skp n sg (dE n sg (skp n sg (b + 1))))) ∧
    (k = 0 → sg b = 44 → okA n sg (skp n sg (b + 1)) → sg (skp n sg (dE n sg (skp n sg (b + 1)))) = 44 → ¬ okA n sg (skp n sg (skp n sg (dE n sg (skp n sg (b + 1))) + 1)) → wr = nI (skp n sg (skp n sg (dE n sg (skp n sg (b + 1))) + 1))) ∧
    (k = 0 → sg b = 44 → okA n sg (skp n sg (b + 1)) → sg (skp n sg (dE n sg (skp n sg (b + 1)))) = 44 → okA n sg (skp n sg (skp n sg (dE n sg (skp n sg (b + 1))) + 1)) → wr = -1 ∧ LA n sg (skp n sg (dE n sg (skp n sg (skp n sg (dE n sg (skp n sg (b + 1))) + 1)))) a2 p2 f2 n2 w2 ∧ sc' = l4 sc t (nI k) v (nN n sg (skp n sg (b + 1))) (nN n sg (skp n sg (skp n sg (dE n sg (skp n sg (b + 1))) + 1)))) := by
  have h1 := h.1
  obtain ⟨K', rfl⟩ : ∃ k, K = k + 10 := ⟨K - 10, by omega⟩
  have J : J_X8_readStep_174 (K' + 10) (nI t) (nI n) tape v (nI t + 1) (nI k) at' pa fr pn (-1) pw (l4 sc t (nI k) hidI hidI hidI) = bd7 (lpF (bT (K' + 10) n t k tape) (K' + 10) (nI 2, at', pa, fr, pn, -1, pw, l4 sc t (nI k) v hidI hidI)) (fun c1 c2 c3 c4 c5 c6 c7 => some (c1, c2, c3, c4, c5, c6, c7)) := by
    unfold J_X8_readStep_174
    rw [nI_1, xixn (by omega) (by decide), xnm, nI_clamp (by omega), l4_1]
    rfl
  rw [J]
  by_cases g2 : 2 ≤ k
  · have hlim : limN k = 1 := by unfold limN; rw [if_neg (by omega), if_neg (by omega)]
    rw [lp_end (s_tE hk (by decide) (by omega)), xb7]
    refine ⟨_, _, _, _, _, _, _, rfl, fun j hj => l4_out hj, fun _ => ⟨rfl, hl, rfl⟩, fun z => by omega, fun z => by omega, fun z => by omega, fun z => by omega, fun z => by omega, fun z => by omega⟩
  · have hlim : 2 ≤ limN k := by rcases (show k = 0 ∨ k = 1 by omega) with rfl | rfl <;> decide
    have C2 := s_cnum (sc := l4 sc t (nI k) v hidI hidI) (i := 2) h hb hK hbn hk ht hlim hl
    have wrong : ∀ (i d : Nat) (wr a2 p2 f2 n2 : Int32) (w2 : Int64) (s0 : Nat → Int32) (Kt : Nat), ¬ wr = -1 → i + d = limN k + 1 → d < Kt → (∀ j, (j < t ∨ t + 4 ≤ j) → s0 j = sc j) → ∃ sc', lpF (bT (K' + 10) n t k tape) Kt (nI i, a2, p2, f2, n2, wr, w2, s0) = some (a2, p2, f2, n2, wr, w2, sc') ∧ ∀ j, (j < t ∨ t + 4 ≤ j) → sc' j = sc j := fun i d wr a2 p2 f2 n2 w2 s0 Kt hw h2 h3 h4 => by
      obtain ⟨sc', E, F⟩ := m_wrong (K := K' + 10) (n := n) (tape := tape) hk ht hw d i s0 a2 p2 f2 n2 w2 Kt h2 h3
      exact ⟨sc', E, fun j hj => (F j hj).trans (h4 j hj)⟩
    have hl3 := lim_le (k := k)
    by_cases q2 : sg b = 44
    · have hlt := sg44_lt h (by decide) q2
      have h7 := skp_le h (show b + 1 ≤ n by omega)
      have h8 := dE_le h h7
      have h9 := skp_le h h8
      by_cases y2 : okA n sg (skp n sg (b + 1))
      · obtain ⟨a2, p2, f2, n2, w2, B2, L2⟩ := C2.2.2 q2 y2
        rw [l4_2] at B2
        by_cases g1 : k = 1
        · have hlim2 : limN k = 2 := by rw [g1]; decide
          rw [(lp_one B2).trans (lp_end (s_tE hk (by decide) (by omega))), xb7]
          exact ⟨_, _, _, _, _, _, _, rfl, fun j hj => l4_out hj, fun z => by omega, fun _ z => absurd q2 z, fun _ _ z => absurd y2 z, fun _ _ _ => ⟨rfl, L2, rfl⟩, fun z => by omega, fun z => by omega, fun z => by omega⟩
        · have e0 : k = 0 := by omega
          have hlim3 : limN k = 3 := by rw [e0]; decide
          have C3 := s_cnum (sc := l4 sc t (nI k) v (nN n sg (skp n sg (b + 1))) hidI) (i := 3) h hb hK h9 hk ht (by omega) L2
          by_cases q3 : sg (skp n sg (dE n sg (skp n sg (b + 1)))) = 44
          · by_cases y3 : okA n sg (skp n sg (skp n sg (dE n sg (skp n sg (b + 1))) + 1))
            · obtain ⟨a3, p3, f3, n3, w3, B3, L3⟩ := C3.2.2 q3 y3
              rw [l4_3] at B3
              rw [(lp_one B2).trans ((lp_one B3).trans (lp_end (s_tE hk (by decide) (by omega)))), xb7]
              exact ⟨_, _, _, _, _, _, _, rfl, fun j hj => l4_out hj, fun z => by omega, fun _ z => absurd q2 z, fun _ _ z => absurd y2 z, fun z => absurd z g1, fun _ _ _ z => absurd q3 z, fun _ _ _ _ z => absurd y3 z, fun _ _ _ _ _ => ⟨rfl, L3, rfl⟩⟩
            · obtain ⟨a3, p3, f3, n3, w3, B3⟩ := C3.2.1 q3 y3
              have hlt3 := sg44_lt h (by decide) q3
              have h10 := skp_le h (show skp n sg (dE n sg (skp n sg (b + 1))) + 1 ≤ n by omega)
              obtain ⟨sc', E, F⟩ := wrong 4 0 (nI (skp n sg (skp n sg (dE n sg (skp n sg (b + 1))) + 1))) a3 p3 f3 n3 w3 (upd (l4 sc t (nI k) v (nN n sg (skp n sg (b + 1))) hidI) (t + 3) (-9999999)) (K' + 8) (nI_ne_m1 (by omega)) (by omega) (by omega) (fun j hj => (upd_ne (by omega)).trans (l4_out (v0 := nI k) (v1 := v) (v2 := nN n sg (skp n sg (b + 1))) (v3 := hidI) hj))
              rw [(lp_one B2).trans ((lp_one B3).trans E), xb7]
              exact ⟨_, _, _, _, _, _, _, rfl, F, fun z => by omega, fun _ z => absurd q2 z, fun _ _ z => absurd y2 z, fun z => absurd z g1, fun _ _ _ z => absurd q3 z, fun _ _ _ _ _ => rfl, fun _ _ _ _ z => absurd z y3⟩
          · have B3 := C3.1 q3
            obtain ⟨sc', E, F⟩ := wrong 4 0 (nI (skp n sg (dE n sg (skp n sg (b + 1))))) a2 p2 f2 n2 w2 (upd (l4 sc t (nI k) v (nN n sg (skp n sg (b + 1))) hidI) (t + 3) (-9999999)) (K' + 8) (nI_ne_m1 (by omega)) (by omega) (by omega) (fun j hj => (upd_ne (by omega)).trans (l4_out (v0 := nI k) (v1 := v) (v2 := nN n sg (skp n sg (b + 1))) (v3 := hidI) hj))
            rw [(lp_one B2).trans ((lp_one B3).trans E), xb7]
            exact ⟨_, _, _, _, _, _, _, rfl, F, fun z => by omega, fun _ z => absurd q2 z, fun _ _ z => absurd y2 z, fun z => absurd z g1, fun _ _ _ _ => rfl, fun _ _ _ z => absurd z q3, fun _ _ _ z => absurd z q3⟩
      · obtain ⟨a2, p2, f2, n2, w2, B2⟩ := C2.2.1 q2 y2
        obtain ⟨sc', E, F⟩ := wrong 3 (limN k - 2) (nI (skp n sg (b + 1))) a2 p2 f2 n2 w2 (upd (l4 sc t (nI k) v hidI hidI) (t + 2) (-9999999)) (K' + 9) (nI_ne_m1 (by omega)) (by omega) (by omega) (fun j hj => (upd_ne (by omega)).trans (l4_out (v0 := nI k) (v1 := v) (v2 := hidI) (v3 := hidI) hj))
        rw [(lp_one B2).trans E, xb7]
        exact ⟨_, _, _, _, _, _, _, rfl, F, fun z => by omega, fun _ z => absurd q2 z, fun _ _ _ => rfl, fun _ _ z => absurd z y2, fun _ _ z => absurd z y2, fun _ _ z => absurd z y2, fun _ _ z => absurd z y2⟩
    · have B2 := C2.1 q2
      obtain ⟨sc', E, F⟩ := wrong 3 (limN k - 2) (nI b) at' pa fr pn pw (upd (l4 sc t (nI k) v hidI hidI) (t + 2) (-9999999)) (K' + 9) (nI_ne_m1 (by omega)) (by omega) (by omega) (fun j hj => (upd_ne (by omega)).trans (l4_out (v0 := nI k) (v1 := v) (v2 := hidI) (v3 := hidI) hj))
      rw [(lp_one B2).trans E, xb7]
      exact ⟨_, _, _, _, _, _, _, rfl, F, fun z => by omega, fun _ _ => rfl, fun _ z => absurd z q2, fun _ z => absurd z q2, fun _ z => absurd z q2, fun _ z => absurd z q2, fun _ z => absurd z q2⟩
end
-- 60.sr
section
/-! a script's step in the reference, whole -/
theorem m_moreW {K n t k : Nat} {tape sc : Nat → Int32} {at' pa fr pn v wr : Int32} {pw : Int64} (hK : 400 ≤ K) (hk : k < 7) (ht : t ≤ 236) (hw : ¬ wr = -1) : ∃ sc', J_X8_readStep_174 K (nI t) (nI n) tape v (nI t + 1) (nI k) at' pa fr pn wr pw (l4 sc t (nI k) hidI hidI hidI) = some (at', pa, fr, pn, wr, pw, sc') ∧ (∀ j, (j < t ∨ t + 4 ≤ j) → sc' j = sc j) := by
  have hl := lim_le (k := k)
  have hl1 : 1 ≤ limN k := by
    unfold limN
    split
    · decide
    · split <;> decide
  have J : J_X8_readStep_174 K (nI t) (nI n) tape v (nI t + 1) (nI k) at' pa fr pn wr pw (l4 sc t (nI k) hidI hidI hidI) = bd7 (lpF (bT K n t k tape) K (nI 2, at', pa, fr, pn, wr, pw, l4 sc t (nI k) v hidI hidI)) (fun c1 c2 c3 c4 c5 c6 c7 => some (c1, c2, c3, c4, c5, c6, c7)) := by
    unfold J_X8_readStep_174
    rw [nI_1, xixn (by omega) (by decide), xnm, nI_clamp (by omega), l4_1]
    rfl
  obtain ⟨sc', E, F⟩ := m_wrong (K := K) (n := n) (tape := tape) hk ht hw (limN k - 1) 2 (l4 sc t (nI k) v hidI hidI) at' pa fr pn pw K (by omega) (by omega)
  rw [J, E, xb7]
  exact ⟨sc', rfl, fun j hj => (F j hj).trans (l4_out hj)⟩
theorem m_start {K t : Nat} {sc : Nat → Int32} {v : Int32} (hK : 400 ≤ K) (ht : t ≤ 236) : lpF (fun u9 : Int32 × (Nat → Int32) => B_X8_readStep_124 (nI t) u9.1 u9.2) K ((1 : Int32), upd sc t v) = some (l4 sc t v hidI hidI hidI) := by
  obtain ⟨k, rfl⟩ : ∃ k, K = k + 10 := ⟨K - 10, by omega⟩
  have one : ∀ (i : Nat) (s0 : Nat → Int32), i < 4 → (fun u9 : Int32 × (Nat → Int32) => B_X8_readStep_124 (nI t) u9.1 u9.2) (nI i, s0) = some (.inl (nI (i + 1), upd s0 (t + i) hidI)) := fun i s0 hi => by
    show B_X8_readStep_124 (nI t) (nI i) s0 = _
    unfold B_X8_readStep_124
    rw [x4, xle (by decide) (by omega), if_neg (by omega), nI_add, xixn (by omega) (by decide), xnm, nI_clamp (by omega), nI_1]
    rfl
  have fin : ∀ s0 : Nat → Int32, (fun u9 : Int32 × (Nat → Int32) => B_X8_readStep_124 (nI t) u9.1 u9.2) (nI 4, s0) = some (.inr s0) := fun s0 => by
    show B_X8_readStep_124 (nI t) (nI 4) s0 = _
    unfold B_X8_readStep_124
    rw [x4, if_pos (by decide)]
  exact (lp_one (one 1 _ (by decide))).trans ((lp_one (one 2 _ (by decide))).trans ((lp_one (one 3 _ (by decide))).trans (lp_end (fin _))))
/-- what a step of the reference leaves -/
def StE (n : Nat) (sg sc : Nat → Int32) (b t : Nat) (a2 p2 f2 n2 wr : Int32) (w2 : Int64) (sc' : Nat → Int32) : Prop := (∀ j, (j < t ∨ t + 4 ≤ j) → sc' j = sc j) ∧ (∀ p, stS n sg b = .inl p → wr = nI p) ∧ (∀ e v1 v2 v3, stS n sg b = .inr (e, v1, v2, v3) → wr = -1 ∧ LA n sg (skp n sg e) a2 p2 f2 n2 w2 ∧ sc' = l4 sc t (skd n sg b) v1 v2 v3)
theorem StE.bad {n b t p : Nat} {sg sc sc' : Nat → Int32} {a2 p2 f2 n2 wr : Int32} {w2 : Int64} (hs : stS n sg b = .inl p) (ho : ∀ j, (j < t ∨ t + 4 ≤ j) → sc' j = sc j) (hw : wr = nI p) : StE n sg sc b t a2 p2 f2 n2 wr w2 sc' := ⟨ho, fun p' e => (by rw [hs] at e; cases e; exact hw), fun e v1 v2 v3 q => (by rw [hs] at q; cases q)⟩
theorem StE.good {n b t e : Nat} {sg sc : Nat → Int32} {a2 p2 f2 n2 v1 v2 v3 : Int32} {w2 : Int64} (hs : stS n sg b = .inr (e, v1, v2, v3)) (hl : LA n sg (skp n sg e) a2 p2 f2 n2 w2) : StE n sg sc b t a2 p2 f2 n2 (-1) w2 (l4 sc t (skd n sg b) v1 v2 v3) := ⟨fun j hj => l4_out hj, fun p' q => (by rw [hs] at q; cases q), fun e v1 v2 v3 q => (by rw [hs] at q; cases q; exact ⟨rfl, hl, rfl⟩)⟩
theorem m_stepJ {K n b t : Nat} {sg tape sc : Nat → Int32} {at' pa fr pn : Int32} {pw : Int64} (h : Sg n sg) (hbn : b ≤ n) (hl : LA n sg b at' pa fr pn pw) : F_X8_readStep K (nI t) tape (nI n) at' pa fr pn (-1) pw sc = J_X8_readStep_100 K (nI t) (nI n) tape (skd n sg b) at' pa fr pn (-1) pw sc := by
  have c1 : (12343 : Int64) = cdF 1 := by decide
  have c2 : (2610628 : Int64) = cdF 2 := by decide
  have c3 : (244780 : Int64) = cdF 3 := by decide
  have c8 : (442053 : Int64) = cdF 8 := by decide
  have c9 : (1156 : Int64) = cdF 9 := by decide
  have c10 : (648643 : Int64) = cdF 10 := by decide
  have c11 : (220370757 : Int64) = cdF 11 := by decide
  unfold F_X8_readStep skd
  rw [c8, c9, c2, c1, c10, c3, c11, m_isX h hbn (by decide) hl, xb1, m_isX h hbn (by decide) hl, xb1, m_isX h hbn (by decide) hl, xb1, m_isX h hbn (by decide) hl, xb1, m_isX h hbn (by decide) hl, xb1, m_isX h hbn (by decide) hl, xb1, m_isX h hbn (by decide) hl, xb1]
  by_cases z0 : wd n sg 8 b = true
  · rw [if_pos z0, if_pos z0, if_neg (by decide)]
  · rw [if_neg z0, if_neg z0, if_pos rfl]
    by_cases z1 : wd n sg 9 b = true
    · rw [if_pos z1, if_pos z1, if_neg (by decide)]
    · rw [if_neg z1, if_neg z1, if_pos rfl]
      by_cases z2 : wd n sg 2 b = true
      · rw [if_pos z2, if_pos z2, if_neg (by decide)]
      · rw [if_neg z2, if_neg z2, if_pos rfl]
        by_cases z3 : wd n sg 1 b = true
        · rw [if_pos z3, if_pos z3, if_neg (by decide)]
        · rw [if_neg z3, if_neg z3, if_pos rfl]
          by_cases z4 : wd n sg 10 b = true
          · rw [if_pos z4, if_pos z4, if_neg (by decide)]
          · rw [if_neg z4, if_neg z4, if_pos rfl]
            by_cases z5 : wd n sg 3 b = true
            · rw [if_pos z5, if_pos z5, if_neg (by decide)]
            · rw [if_neg z5, if_neg z5, if_pos rfl]
              by_cases z6 : wd n sg 11 b = true
              · rw [if_pos z6, if_pos z6, if_neg (by decide)]
              · rw [if_neg z6, if_neg z6, if_pos rfl]
theorem m_readStep {K n b t : Nat} {sg tape sc : Nat → Int32} {at' pa fr pn : Int32} {pw : Int64} (h : Sg n sg) (hb : TpM n sg tape) (hK : 400 ≤ K) (hbn : b ≤ n) (ht : t ≤ 236) (hl : LA n sg b at' pa fr pn pw) : ∃ a2 p2 f2 n2 wr w2 sc', F_X8_readStep K (nI t) tape (nI n) at' pa fr pn (-1) pw sc = some (a2, p2, f2, n2, wr, w2, sc') ∧ StE n sg sc b t a2 p2 f2 n2 wr w2 sc' := by
  have h1 := h.1
  have h3 := wE_le h hbn
  have h4 := skp_le h h3
  have h5 := dE_le h h4
  have h6 := skp_le h h5
  obtain ⟨e1, e2, e3, e4, e5⟩ := id hl
  rw [m_stepJ h hbn hl]
  unfold J_X8_readStep_100
  rcases skd_cases h hbn with q | ⟨⟨k, hk, q⟩, z⟩
  · rw [if_pos q, m_bad, if_pos rfl, xb1]
    exact ⟨_, _, _, _, _, _, _, rfl, StE.bad (by unfold stS; rw [if_pos q]) (fun j _ => rfl) e3⟩
  · have km1 : ¬ skd n sg b = -1 := fun y => nI_ne_m1 (p := k) (by omega) (q.symm.trans y)
    obtain ⟨a2, p2, f2, n2, w2, x1, x2⟩ := m_adv h hb hK hbn hl
    rw [te_w z] at x2
    rw [if_neg km1, x1, xb5, xixn (by omega) (by decide), xnm, nI_clamp (by omega), m_start hK ht, xb1]
    by_cases g4 : skd n sg b = 4
    · rw [if_pos g4]
      exact ⟨_, _, _, _, _, _, _, rfl, StE.good (by unfold stS; rw [if_neg km1, if_pos g4]) x2⟩
    · rw [if_neg g4]
      by_cases g3 : skd n sg b = 3
      · rw [if_pos g3]
        by_cases y : lw n sg (skp n sg (wE n sg b)) = -1
        · rw [(m_lawWord h hb hK h4 x2).1 y, xb7, q]
          obtain ⟨sc', E, F⟩ := m_moreW (K := K) (n := n) (t := t) (tape := tape) (sc := sc) (v := 0) (at' := a2) (pa := p2) (fr := f2) (pn := n2) (pw := w2) hK hk ht (nI_ne_m1 (p := skp n sg (wE n sg b)) (by omega))
          rw [E]
          exact ⟨_, _, _, _, _, _, _, rfl, StE.bad (by unfold stS; rw [if_neg km1, if_neg g4, if_pos g3, if_pos y]) F rfl⟩
        · obtain ⟨a3, p3, f3, n3, w3, E3, L3⟩ := (m_lawWord h hb hK h4 x2).2 y
          have h7 := skp_le h (wE_le h h4)
          rw [E3, xb7, q]
          obtain ⟨a4, p4, f4, n4, wr, w4, sc', E, F, G, -⟩ := m_more (K := K) (sc := sc) (v := lw n sg (skp n sg (wE n sg b))) h hb hK h7 hk ht L3
          have k3 : k = 3 := (nI_eq (by omega) (by decide)).mp (show nI k = nI 3 from q.symm.trans g3)
          obtain ⟨rfl, L4, rfl⟩ := G (by omega)
          rw [E]
          refine ⟨_, _, _, _, _, _, _, rfl, ?_⟩
          rw [← q]
          exact StE.good (by unfold stS; rw [if_neg km1, if_neg g4, if_pos g3, if_neg y]) L4
      · rw [if_neg g3]
        have k3 : ¬ k = 3 := fun y => g3 (by rw [q, y]; rfl)
        have k4 : ¬ k = 4 := fun y => g4 (by rw [q, y]; rfl)
        have k2 : ((2 : Int32) ≤ skd n sg b) ↔ 2 ≤ k := by rw [q, x2c, nI_leI (by decide) (by omega)]
        have k1 : (skd n sg b = 1) ↔ k = 1 := by rw [q, show (1 : Int32) = nI 1 by decide, nI_eq (by omega) (by decide)]
        by_cases y1 : okA n sg (skp n sg (wE n sg b))
        · obtain ⟨a3, p3, f3, n3, w3, E3, L3⟩ := (m_any h hb hK h4 x2).2 y1
          rw [E3, xb7, q]
          obtain ⟨a4, p4, f4, n4, wr, w4, sc', E, F, G1, G2, G3, G4, G5, G6, G7⟩ := m_more (K := K) (sc := sc) (v := nN n sg (skp n sg (wE n sg b))) h hb hK h6 hk ht L3
          rw [E]
          refine ⟨_, _, _, _, _, _, _, rfl, ?_⟩
          by_cases g2 : 2 ≤ k
          · obtain ⟨rfl, L4, rfl⟩ := G1 g2
            rw [← q]
            exact StE.good (by unfold stS; rw [if_neg km1, if_neg g4, if_neg g3, if_pos y1, if_pos (k2.mpr g2)]) L4
          · have m2 : ¬ (2 : Int32) ≤ skd n sg b := fun y => g2 (k2.mp y)
            by_cases q2 : sg (skp n sg (dE n sg (skp n sg (wE n sg b)))) = 44
            · by_cases y2 : okA n sg (skp n sg (skp n sg (dE n sg (skp n sg (wE n sg b))) + 1))
              · by_cases g1 : k = 1
                · obtain ⟨rfl, L4, rfl⟩ := G4 g1 q2 y2
                  rw [← q]
                  exact StE.good (by unfold stS; rw [if_neg km1, if_neg g4, if_neg g3, if_pos y1, if_neg m2, if_pos q2, if_pos y2, if_pos (k1.mpr g1)]) L4
                · have m1 : ¬ skd n sg b = 1 := fun y => g1 (k1.mp y)
                  have e0 : k = 0 := by omega
                  by_cases q3 : sg (skp n sg (dE n sg (skp n sg (skp n sg (dE n sg (skp n sg (wE n sg b))) + 1)))) = 44
                  · by_cases y3 : okA n sg (skp n sg (skp n sg (dE n sg (skp n sg (skp n sg (dE n sg (skp n sg (wE n sg b))) + 1))) + 1))
                    · obtain ⟨rfl, L4, rfl⟩ := G7 e0 q2 y2 q3 y3
                      rw [← q]
                      exact StE.good (by unfold stS; rw [if_neg km1, if_neg g4, if_neg g3, if_pos y1, if_neg m2, if_pos q2, if_pos y2, if_neg m1, if_pos q3, if_pos y3]) L4
                    · exact StE.bad (by unfold stS; rw [if_neg km1, if_neg g4, if_neg g3, if_pos y1, if_neg m2, if_pos q2, if_pos y2, if_neg m1, if_pos q3, if_neg y3]) F (G6 e0 q2 y2 q3 y3)
                  · exact StE.bad (by unfold stS; rw [if_neg km1, if_neg g4, if_neg g3, if_pos y1, if_neg m2, if_pos q2, if_pos y2, if_neg m1, if_neg q3]) F (G5 e0 q2 y2 q3)
              · exact StE.bad (by unfold stS; rw [if_neg km1, if_neg g4, if_neg g3, if_pos y1, if_neg m2, if_pos q2, if_neg y2]) F (G3 (by omega) q2 y2)
            · exact StE.bad (by unfold stS; rw [if_neg km1, if_neg g4, if_neg g3, if_pos y1, if_neg m2, if_neg q2]) F (G2 (by omega) q2)
        · rw [(m_any h hb hK h4 x2).1 y1, xb7, q]
          obtain ⟨sc', E, F⟩ := m_moreW (K := K) (n := n) (t := t) (tape := tape) (sc := sc) (v := -9999999) (at' := a2) (pa := p2) (fr := f2) (pn := n2) (pw := w2) hK hk ht (nI_ne_m1 (p := skp n sg (wE n sg b)) (by omega))
          rw [E]
          exact ⟨_, _, _, _, _, _, _, rfl, StE.bad (by unfold stS; rw [if_neg km1, if_neg g4, if_neg g3, if_neg y1]) F rfl⟩
/-- ends and fails of a step lie on the tape -/
theorem stS_ok {n b e : Nat} {sg : Nat → Int32} {v1 v2 v3 : Int32} (h : Sg n sg) (hbn : b ≤ n) (q : stS n sg b = .inr (e, v1, v2, v3)) : b < e ∧ e ≤ n ∧ ∃ k, k < 7 ∧ skd n sg b = nI k := by
  have h3 := wE_le h hbn
  have h4 := skp_le h h3
  have h4' := skp_ge h h3
  have h5 := dE_le h h4
  have h5' := dE_ge h h4
  have h5'' := d0_ge (b := skp n sg (wE n sg b)) (sg := sg)
  have h6 := skp_le h h5
  have h6' := skp_ge h h5
  unfold stS at q
  rcases skd_cases h hbn with y | ⟨y, z⟩
  · rw [if_pos y] at q; cases q
  · have lt := (wE_lt h hbn).mpr z
    have fin : b < e ∧ e ≤ n → b < e ∧ e ≤ n ∧ ∃ k, k < 7 ∧ skd n sg b = nI k := fun w => ⟨w.1, w.2, y⟩
    refine fin ?_
    have km1 : ¬ skd n sg b = -1 := by
      obtain ⟨k, hk, y⟩ := y
      rw [y]
      exact nI_ne_m1 (by omega)
    rw [if_neg km1] at q
    by_cases g4 : skd n sg b = 4
    · rw [if_pos g4] at q; cases q; exact ⟨by omega, by omega⟩
    · rw [if_neg g4] at q
      by_cases g3 : skd n sg b = 3
      · rw [if_pos g3] at q
        by_cases y : lw n sg (skp n sg (wE n sg b)) = -1
        · rw [if_pos y] at q; cases q
        · rw [if_neg y] at q
          have a1 := wE_le h h4
          have a2 := wE_ge h h4
          cases q
          exact ⟨by omega, by omega⟩
      · rw [if_neg g3] at q
        by_cases y1 : okA n sg (skp n sg (wE n sg b))
        · rw [if_pos y1] at q
          by_cases m2 : (2 : Int32) ≤ skd n sg b
          · rw [if_pos m2] at q; cases q; exact ⟨by omega, by omega⟩
          · rw [if_neg m2] at q
            by_cases q2 : sg (skp n sg (dE n sg (skp n sg (wE n sg b)))) = 44
            · rw [if_pos q2] at q
              have hl := sg44_lt h (by decide) q2
              have h7 := skp_le h (show skp n sg (dE n sg (skp n sg (wE n sg b))) + 1 ≤ n by omega)
              have h7' := skp_ge h (show skp n sg (dE n sg (skp n sg (wE n sg b))) + 1 ≤ n by omega)
              have h8 := dE_le h h7
              have h8' := dE_ge h h7
              have h8'' := d0_ge (b := skp n sg (skp n sg (dE n sg (skp n sg (wE n sg b))) + 1)) (sg := sg)
              have h9 := skp_le h h8
              have h9' := skp_ge h h8
              by_cases y2 : okA n sg (skp n sg (skp n sg (dE n sg (skp n sg (wE n sg b))) + 1))
              · rw [if_pos y2] at q
                by_cases m1 : skd n sg b = 1
                · rw [if_pos m1] at q; cases q; exact ⟨by omega, by omega⟩
                · rw [if_neg m1] at q
                  by_cases q3 : sg (skp n sg (dE n sg (skp n sg (skp n sg (dE n sg (skp n sg (wE n sg b))) + 1)))) = 44
                  · rw [if_pos q3] at q
                    have hl3 := sg44_lt h (by decide) q3
                    have h10 := skp_le h (show skp n sg (dE n sg (skp n sg (skp n sg (dE n sg (skp n sg (wE n sg b))) + 1))) + 1 ≤ n by omega)
                    have h10' := skp_ge h (show skp n sg (dE n sg (skp n sg (skp n sg (dE n sg (skp n sg (wE n sg b))) + 1))) + 1 ≤ n by omega)
                    have h11 := dE_le h h10
                    have h11' := dE_ge h h10
                    have h11'' := d0_ge (b := skp n sg (skp n sg (dE n sg (skp n sg (skp n sg (dE n sg (skp n sg (wE n sg b))) + 1))) + 1)) (sg := sg)
                    by_cases y3 : okA n sg (skp n sg (skp n sg (dE n sg (skp n sg (skp n sg (dE n sg (skp n sg (wE n sg b))) + 1))) + 1))
                    · rw [if_pos y3] at q; cases q; exact ⟨by omega, by omega⟩
                    · rw [if_neg y3] at q; cases q
                  · rw [if_neg q3] at q; cases q
              · rw [if_neg y2] at q; cases q
            · rw [if_neg q2] at q; cases q
        · rw [if_neg y1] at q; cases q
theorem stS_fail {n b p : Nat} {sg : Nat → Int32} (h : Sg n sg) (hbn : b ≤ n) (q : stS n sg b = .inl p) : p ≤ n := by
  have h3 := wE_le h hbn
  have h4 := skp_le h h3
  have h5 := dE_le h h4
  have h6 := skp_le h h5
  unfold stS at q
  by_cases km1 : skd n sg b = -1
  · rw [if_pos km1] at q; cases q; exact hbn
  · rw [if_neg km1] at q
    by_cases g4 : skd n sg b = 4
    · rw [if_pos g4] at q; cases q
    · rw [if_neg g4] at q
      by_cases g3 : skd n sg b = 3
      · rw [if_pos g3] at q
        by_cases y : lw n sg (skp n sg (wE n sg b)) = -1
        · rw [if_pos y] at q; cases q; exact h4
        · rw [if_neg y] at q; cases q
      · rw [if_neg g3] at q
        by_cases y1 : okA n sg (skp n sg (wE n sg b))
        · rw [if_pos y1] at q
          by_cases m2 : (2 : Int32) ≤ skd n sg b
          · rw [if_pos m2] at q; cases q
          · rw [if_neg m2] at q
            by_cases q2 : sg (skp n sg (dE n sg (skp n sg (wE n sg b)))) = 44
            · rw [if_pos q2] at q
              have hl := sg44_lt h (by decide) q2
              have h7 := skp_le h (show skp n sg (dE n sg (skp n sg (wE n sg b))) + 1 ≤ n by omega)
              have h8 := dE_le h h7
              have h9 := skp_le h h8
              by_cases y2 : okA n sg (skp n sg (skp n sg (dE n sg (skp n sg (wE n sg b))) + 1))
              · rw [if_pos y2] at q
                by_cases m1 : skd n sg b = 1
                · rw [if_pos m1] at q; cases q
                · rw [if_neg m1] at q
                  by_cases q3 : sg (skp n sg (dE n sg (skp n sg (skp n sg (dE n sg (skp n sg (wE n sg b))) + 1)))) = 44
                  · rw [if_pos q3] at q
                    have hl3 := sg44_lt h (by decide) q3
                    have h10 := skp_le h (show skp n sg (dE n sg (skp n sg (skp n sg (dE n sg (skp n sg (wE n sg b))) + 1))) + 1 ≤ n by omega)
                    by_cases y3 : okA n sg (skp n sg (skp n sg (dE n sg (skp n sg (skp n sg (dE n sg (skp n sg (wE n sg b))) + 1))) + 1))
                    · rw [if_pos y3] at q; cases q
                    · rw [if_neg y3] at q; cases q; exact h10
                  · rw [if_neg q3] at q; cases q; exact h9
              · rw [if_neg y2] at q; cases q; exact h7
            · rw [if_neg q2] at q; cases q; exact h6
        · rw [if_neg y1] at q; cases q; exact h4
end
-- 61.rs
section
/-! a script's text in both readers -/
theorem l4_at {st : Nat → Int32} {t i : Nat} {v0 v1 v2 v3 : Int32} (hi : i < 4) : l4 st t v0 v1 v2 v3 (t + i) = q4 v0 v1 v2 v3 i := by
  unfold l4 q4 upd
  rcases (show i = 0 ∨ i = 1 ∨ i = 2 ∨ i = 3 by omega) with rfl | rfl | rfl | rfl <;> simp
abbrev TQ7 : Type := Int32 × (Nat → Int32) × Int32 × Int32 × Int32 × Int32 × Int32
abbrev RQ7 : Type := Nat × (Nat → Int32) × Int32 × Int32 × Int32 × Int32 × Int32
abbrev TP9 : Type := Int32 × Int32 × Int32 × Int32 × Int32 × Int32 × Int64 × (Nat → Int32) × (Nat → Int32)
abbrev RP8 : Type := Int32 × Int32 × Int32 × Int32 × Int32 × Int64 × (Nat → Int32) × (Nat → Int32)
abbrev bQ (K n : Nat) (bytes : Nat → Int32) : TQ7 → Option (TQ7 ⊕ RQ7) := fun u9 => B_X3_readScript_6 K (nI n) bytes u9.1 u9.2.1 u9.2.2.1 u9.2.2.2.1 u9.2.2.2.2.1 u9.2.2.2.2.2.1 u9.2.2.2.2.2.2
abbrev bP (K n p : Nat) (tape : Nat → Int32) : TP9 → Option (TP9 ⊕ RP8) := fun u9 => B_X8_readScript_13 K (nI p) (nI n) tape u9.1 u9.2.1 u9.2.2.1 u9.2.2.2.1 u9.2.2.2.2.1 u9.2.2.2.2.2.1 u9.2.2.2.2.2.2.1 u9.2.2.2.2.2.2.2.1 u9.2.2.2.2.2.2.2.2
def rC2 (t : Nat) (f at' : Int32) : Int32 := if t = 0 then f else if t = 1 then -1 else at'
def rM2 (wr pa fr : Int32) : Int32 := if wr = -1 then (if pa = 0 then -1 else fr) else wr
/-- p's steps, c of them, agree -/
def ScOK (p c : Nat) (st sc : Nat → Int32) : Prop := ∀ j, j < 4 * c → st j = sc (48 * p + j)
/-- the first number of each step is one of seven kinds -/
def KdOK (c : Nat) (st : Nat → Int32) : Prop := ∀ i, i < c → ∃ k, k < 7 ∧ st (4 * i) = nI k
theorem ScOK.step {p c : Nat} {st sc : Nat → Int32} {v0 v1 v2 v3 : Int32} (h : ScOK p c st sc) : ScOK p (c + 1) (l4 st (c * 4) v0 v1 v2 v3) (l4 sc (48 * p + 4 * c) v0 v1 v2 v3) := by
  intro j hj
  by_cases q : j < 4 * c
  · rw [l4_out (by omega), l4_out (by omega)]; exact h j q
  · obtain ⟨i, hi, rfl⟩ : ∃ i, i < 4 ∧ j = c * 4 + i := ⟨j - c * 4, by omega, by omega⟩
    rw [l4_at hi, show 48 * p + (c * 4 + i) = 48 * p + 4 * c + i by omega, l4_at hi]
theorem KdOK.step {c k : Nat} {st : Nat → Int32} {v0 v1 v2 v3 : Int32} (h : KdOK c st) (hk : k < 7) (hv : v0 = nI k) : KdOK (c + 1) (l4 st (c * 4) v0 v1 v2 v3) := by
  intro i hi
  by_cases q : i < c
  · obtain ⟨k, hk, e⟩ := h i q
    exact ⟨k, hk, by rw [l4_out (by omega)]; exact e⟩
  · refine ⟨k, hk, ?_⟩
    rw [show 4 * i = c * 4 + 0 by omega, l4_at (by decide)]
    exact hv
theorem m_stop {K n p : Nat} {tape : Nat → Int32} (Km : Nat) (am pa0 fr0 pn0 wr0 : Int32) (pw0 : Int64) (sc0 lg0 : Nat → Int32) : lpF (bP K n p tape) (Km + 1) (0, am, pa0, fr0, pn0, wr0, pw0, sc0, lg0) = some (am, pa0, fr0, pn0, wr0, pw0, sc0, lg0) := by
  refine lp_end ?_
  show B_X8_readScript_13 K (nI p) (nI n) tape 0 am pa0 fr0 pn0 wr0 pw0 sc0 lg0 = _
  unfold B_X8_readScript_13
  rw [if_pos rfl]
/-- what both loops over a script's steps come to -/
def RsE (p : Nat) (sc lg : Nat → Int32) (x : RQ7) (y : RP8) : Prop := x.1 < 4 ∧ rC2 x.1 x.2.2.2.2.2.2 x.2.2.2.1 = rM2 y.2.2.2.2.1 y.2.1 y.2.2.1 ∧ (rC2 x.1 x.2.2.2.2.2.2 x.2.2.2.1 = -1 → ∃ c, 1 ≤ c ∧ c ≤ 12 ∧ x.2.2.1 = nI c ∧ y.2.2.2.2.2.2.2 p = nI c ∧ ScOK p c x.2.1 y.2.2.2.2.2.2.1 ∧ KdOK c x.2.1) ∧ (∀ j, (j < 48 * p ∨ 48 * p + 48 ≤ j) → y.2.2.2.2.2.2.1 j = sc j) ∧ (∀ j, ¬ j = p → y.2.2.2.2.2.2.2 j = lg j)
theorem rs_sync {K n p : Nat} {sg bytes tape : Nat → Int32} (h : Sg n sg) (hc : TpC n sg bytes) (ht : TpM n sg tape) (hK : 400 ≤ K) (hp : p ≤ 4) : ∀ (d a c : Nat) (st sc lg sc0 lg0 : Nat → Int32) (ws nu f at' pa fr pn : Int32) (pw : Int64) (Kc Km : Nat), n - a < d → a ≤ n → c < 12 → ScOK p c st sc → KdOK c st → lg p = nI c → (∀ j, (j < 48 * p ∨ 48 * p + 48 ≤ j) → sc j = sc0 j) → (∀ j, ¬ j = p → lg j = lg0 j) → LA n sg (skp n sg a) at' pa fr pn pw → d < Kc → d + 1 < Km →
    ∃ x y, lpF (bQ K n bytes) Kc (nI c, st, nI c, nI a, ws, nu, f) = some x ∧ lpF (bP K n p tape) Km (1, at', pa, fr, pn, -1, pw, sc, lg) = some y ∧ RsE p sc0 lg0 x y := by
  have h1 := h.1
  intro d
  induction d with
  | zero => intro a c st sc lg sc0 lg0 ws nu f at' pa fr pn pw Kc Km h2; omega
  | succ d ih =>
    intro a c st sc lg sc0 lg0 ws nu f at' pa fr pn pw Kc Km h2 ha hc12 hS hKd hlg ho1 ho2 hl hKc hKm
    obtain ⟨Kc', rfl⟩ : ∃ k, Kc = k + 1 := ⟨Kc - 1, by omega⟩
    obtain ⟨Km', rfl⟩ : ∃ k, Km = k + 2 := ⟨Km - 2, by omega⟩
    have hb := skp_le h ha
    have hb' := skp_ge h ha
    obtain ⟨r, st1, ac1, ws1, nu1, f1, E, A, B⟩ := c_readStep (st := st) (ws := ws) (nu := nu) (f := f) (c := c) h hc hK ha hc12
    obtain ⟨a2, p2, f2, n2, wr, w2, sc1, Em, Ho, Am, Bm⟩ := m_readStep (sc := sc) (t := 48 * p + 4 * c) h ht hK hb (by omega) hl
    have ti : (4 : Int32) * ((12 : Int32) * nI p + lg p) = nI (48 * p + 4 * c) := by
      rw [hlg, x12, nI_mul, nI_add, x4, nI_mul]
      congr 1
      omega
    have bc : bQ K n bytes (nI c, st, nI c, nI a, ws, nu, f) = bd6 (F_X3_readStep K bytes (nI n) st (nI c) (nI a) ws nu f) (fun r_9 w_10 w_11 w_12 w_13 w_14 => if r_9 = (0 : Int32) then some (.inr (0, w_10, nI c, w_11, w_12, w_13, w_14)) else bd2 (F_X3_isAtEnd K bytes (nI n) w_11) (fun r_18 w_19 => if r_18 = (0 : Int32) then if nI c + (1 : Int32) = (12 : Int32) then some (.inr (2, w_10, nI c + (1 : Int32), w_19, w_12, w_13, w_14)) else bd3 (F_X3_readSign K (59 : Int32) bytes (nI n) w_19 w_14) (fun r_24 w_25 w_26 => if r_24 = (0 : Int32) then some (.inr (2, w_10, nI c + (1 : Int32), w_25, w_12, w_13, w_26)) else some (.inl (nI c + (1 : Int32), w_10, nI c + (1 : Int32), w_25, w_12, w_13, w_26))) else some (.inr (1, w_10, nI c + (1 : Int32), w_19, w_12, w_13, w_14)))) := by
      show B_X3_readScript_6 K (nI n) bytes (nI c) st (nI c) (nI a) ws nu f = _
      unfold B_X3_readScript_6
      rw [if_neg (show ¬ (12 : Int32) ≤ nI c by rw [x12, ple (by decide) (by omega)]; omega)]
    have bm : bP K n p tape (1, at', pa, fr, pn, -1, pw, sc, lg) = bd7 (F_X8_readStep K (nI (48 * p + 4 * c)) tape (nI n) at' pa fr pn (-1) pw sc) (fun w_12 w_13 w_14 w_15 w_16 w_17 w_18 => if w_16 = (-1 : Int32) then if w_13 = (4 : Int32) then (if (12 : Int32) ≤ nI (c + 1) then some (.inl ((0 : Int32), w_12, w_13, w_14, w_15, w_16, w_17, w_18, upd lg p (nI (c + 1)))) else bd5 (F_X8_next K tape (nI n) w_12 w_13 w_14 w_15 w_17) (fun w_27 w_28 w_29 w_30 w_31 => some (.inl ((1 : Int32), w_27, w_28, w_29, w_30, w_16, w_31, w_18, upd lg p (nI (c + 1)))))) else some (.inl ((0 : Int32), w_12, w_13, w_14, w_15, w_16, w_17, w_18, upd lg p (nI (c + 1)))) else some (.inl ((0 : Int32), w_12, w_13, w_14, w_15, w_16, w_17, w_18, upd lg p (nI (c + 1))))) := by
      show B_X8_readScript_13 K (nI p) (nI n) tape 1 at' pa fr pn (-1) pw sc lg = _
      unfold B_X8_readScript_13
      rw [if_neg (by decide), xixn (by omega) (by decide), nI_clamp (by omega), ti, hlg, nI_1]
      congr 1
      funext w_12 w_13 w_14 w_15 w_16 w_17 w_18
      rw [xixn (by omega) (by decide), xixn (by omega) (by decide), xnm, xixn (by omega) (by decide), upd_at]
    have hlg1 : upd lg p (nI (c + 1)) p = nI (c + 1) := upd_at
    have hlo : ∀ j, ¬ j = p → upd lg p (nI (c + 1)) j = lg0 j := fun j hj => (upd_ne hj).trans (ho2 j hj)
    have hso : ∀ j, (j < 48 * p ∨ 48 * p + 48 ≤ j) → sc1 j = sc0 j := fun j hj => (Ho j (by omega)).trans (ho1 j hj)
    rw [E, xb6] at bc
    rw [Em, xb7] at bm
    cases hcl : stS n sg (skp n sg a) with
    | inl q =>
      obtain ⟨rfl, rfl⟩ := A q hcl
      have ew := Am q hcl
      subst ew
      have hq : q ≤ n := stS_fail h hb hcl
      have nq := nI_ne_m1 (p := q) (by omega)
      rw [if_pos rfl] at bc
      rw [if_neg nq] at bm
      refine ⟨_, _, lp_end bc, (lp_one bm).trans (m_stop _ _ _ _ _ _ _ _ _), Nat.le_of_ble_eq_true rfl, ?_, fun z => ?_, hso, hlo⟩
      · show nI q = rM2 (nI q) _ _
        unfold rM2
        rw [if_neg nq]
      · exact absurd (show nI q = -1 from z) nq
    | inr x =>
      obtain ⟨e, v1, v2, v3⟩ := x
      obtain ⟨rfl, rfl, rfl, rfl⟩ := B e v1 v2 v3 hcl
      obtain ⟨rfl, L, rfl⟩ := Bm e v1 v2 v3 hcl
      obtain ⟨c1, c2, k, hk, ek⟩ := stS_ok h hb hcl
      have hS2 := hS.step (v0 := skd n sg (skp n sg a)) (v1 := v1) (v2 := v2) (v3 := v3)
      have hK2 := hKd.step (v1 := v1) (v2 := v2) (v3 := v3) hk ek
      have hb2 := skp_le h c2
      have hb2' := skp_ge h c2
      obtain ⟨l1, l2, l3, -⟩ := id L
      have nb := nI_ne_m1 (p := skp n sg e) (by omega)
      rw [if_neg (by decide), c_isAtEnd h hc hK c2, xb2, nI_1] at bc
      rw [if_pos rfl] at bm
      by_cases q0 : sg (skp n sg e) = -1
      · rw [if_pos q0, if_neg (by decide)] at bc
        rw [if_neg (fun z => by rw [tk4.mp (l2.symm.trans z)] at q0; exact absurd q0 (by decide))] at bm
        have p0 : p2 = 0 := l2.trans (tk0.mpr q0)
        refine ⟨_, _, lp_end bc, (lp_one bm).trans (m_stop _ _ _ _ _ _ _ _ _), Nat.le_of_ble_eq_true rfl, ?_, fun z => ?_, hso, hlo⟩
        · show (-1 : Int32) = rM2 (-1) p2 f2
          unfold rM2
          rw [if_pos rfl, if_pos p0]
        · exact ⟨c + 1, by omega, by omega, rfl, hlg1, hS2, hK2⟩
      · rw [if_neg q0, if_pos rfl] at bc
        have p0 : ¬ p2 = 0 := fun z => q0 (tk0.mp (l2.symm.trans z))
        by_cases e12 : c + 1 = 12
        · rw [if_pos (show nI (c + 1) = 12 by rw [e12]; rfl)] at bc
          rw [if_pos (show (12 : Int32) ≤ nI (c + 1) by rw [e12]; decide)] at bm
          have bm' : bP K n p tape (1, at', pa, fr, pn, -1, pw, sc, lg) = some (.inl ((0 : Int32), a2, p2, f2, n2, -1, w2, l4 sc (48 * p + 4 * c) (skd n sg (skp n sg a)) v1 v2 v3, upd lg p (nI (c + 1)))) := by
            rw [bm]
            split <;> rfl
          refine ⟨_, _, lp_end bc, (lp_one bm').trans (m_stop _ _ _ _ _ _ _ _ _), Nat.le_of_ble_eq_true rfl, ?_, fun z => ?_, hso, hlo⟩
          · show nI (skp n sg e) = rM2 (-1) p2 f2
            unfold rM2
            rw [if_pos rfl, if_neg p0, l3]
          · exact absurd (show nI (skp n sg e) = -1 from z) nb
        · rw [if_neg (show ¬ nI (c + 1) = 12 by rw [x12, peq (by omega) (by decide)]; exact e12), c_readSign h hc hK hb2, skp_idem h c2] at bc
          rw [if_neg (show ¬ (12 : Int32) ≤ nI (c + 1) by rw [x12, ple (by decide) (by omega)]; omega)] at bm
          by_cases q4 : sg (skp n sg e) = 59
          · rw [if_pos q4, xb3, if_neg (by decide)] at bc
            have hlt := sg44_lt h (by decide) q4
            obtain ⟨a3, p3, f3, n3, w3, y1, y2⟩ := m_adv h ht hK hb2 L
            rw [te_s q4 (Or.inr rfl)] at y2
            rw [if_pos (l2.trans (tk4.mpr q4)), y1, xb5] at bm
            have := ih (skp n sg e + 1) (c + 1) _ _ (upd lg p (nI (c + 1))) sc0 lg0 ws1 nu1 f1 a3 p3 f3 n3 w3 Kc' (Km' + 1) (by omega) (by omega) (by omega) hS2 hK2 hlg1 hso hlo y2 (by omega) (by omega)
            rw [lp_one bc, lp_one bm]
            exact this
          · rw [if_neg q4, xb3, if_pos rfl] at bc
            rw [if_neg (fun z => q4 (tk4.mp (l2.symm.trans z)))] at bm
            refine ⟨_, _, lp_end bc, (lp_one bm).trans (m_stop _ _ _ _ _ _ _ _ _), Nat.le_of_ble_eq_true rfl, ?_, fun z => ?_, hso, hlo⟩
            · show nI (skp n sg e) = rM2 (-1) p2 f2
              unfold rM2
              rw [if_pos rfl, if_neg p0, l3]
            · exact absurd (show nI (skp n sg e) = -1 from z) nb
/-- both read a script alike -/
theorem rs_both {K n p : Nat} {sg bytes tape ru st sc lg : Nat → Int32} {c1 c2 c3 c4 c5 c6 c7 m1 m2 m3 m4 m5 : Int32} {m6 : Int64} (h : Sg n sg) (hc : TpC n sg bytes) (ht : TpM n sg tape) (hK : 400 ≤ K) (hp : p ≤ 4) :
    ∃ r ru' st' s' cn' m' ac' ws' nu' f' am' pa' fr' pn' wr' pw' sc' lg', F_X3_readScript K bytes (nI n) ru st c1 c2 c3 c4 c5 c6 c7 = some (r, ru', st', s', cn', m', ac', ws', nu', f') ∧ F_X8_readScript K (nI p) tape (nI n) m1 m2 m3 m4 m5 m6 sc lg = some (r, am', pa', fr', pn', wr', pw', sc', lg') ∧ (r = -1 → ∃ c, 1 ≤ c ∧ c ≤ 12 ∧ cn' = nI c ∧ lg' p = nI c ∧ ScOK p c st' sc' ∧ KdOK c st') ∧ (∀ j, (j < 48 * p ∨ 48 * p + 48 ≤ j) → sc' j = sc j) ∧ (∀ j, ¬ j = p → lg' j = lg j) := by
  have h1 := h.1
  obtain ⟨at', pa, fr, pn, pw, E, L⟩ := m_next (a := 0) (pa := m2) (fr := m3) (pn := m4) (pw := m6) h ht hK (by omega)
  obtain ⟨⟨t, st', cn', ac', ws', nu', f'⟩, ⟨am', pa', fr', pn', wr', pw', sc', lg'⟩, X1, X2, X3, X4, X5, X6, X7⟩ := rs_sync (p := p) h hc ht hK hp (n + 1) 0 0 st sc (upd lg p 0) sc lg c5 c6 (-1) at' pa fr pn pw K K (by omega) (by omega) (by omega) (fun j hj => by omega) (fun i hi => by omega) upd_at (fun j _ => rfl) (fun j hj => upd_ne hj) L (by omega) (by omega)
  have EC : F_X3_readScript K bytes (nI n) ru st c1 c2 c3 c4 c5 c6 c7 = some (rC2 t f' ac', upd (upd (upd ru 0 0) 1 1000) 2 100, st', 0, cn', 0, ac', ws', nu', f') := by
    unfold F_X3_readScript F_X3_start
    rw [xnm, xnm, xnm, xb6]
    rw [show lpF (fun u9 : Int32 × (Nat → Int32) × Int32 × Int32 × Int32 × Int32 × Int32 => B_X3_readScript_6 K (nI n) bytes u9.1 u9.2.1 u9.2.2.1 u9.2.2.2.1 u9.2.2.2.2.1 u9.2.2.2.2.2.1 u9.2.2.2.2.2.2) K ((0 : Int32), st, (0 : Int32), (0 : Int32), c5, c6, (-1 : Int32)) = some (t, st', cn', ac', ws', nu', f') from X1, xb7]
    have X3' : t < 4 := X3
    unfold rC2
    rcases (show t = 0 ∨ t = 1 ∨ t = 2 ∨ t = 3 by omega) with rfl | rfl | rfl | rfl <;> rfl
  have EM : F_X8_readScript K (nI p) tape (nI n) m1 m2 m3 m4 m5 m6 sc lg = some (rM2 wr' pa' fr', am', pa', fr', pn', rM2 wr' pa' fr', pw', sc', lg') := by
    unfold F_X8_readScript F_X8_begins
    rw [show F_X8_next K tape (nI n) (0 : Int32) m2 m3 m4 m6 = some (at', pa, fr, pn, pw) from E, xb5, xb6, xixn (by omega) (by decide), nI_clamp (by omega), xnm]
    rw [show lpF (fun u9 : Int32 × Int32 × Int32 × Int32 × Int32 × Int32 × Int64 × (Nat → Int32) × (Nat → Int32) => B_X8_readScript_13 K (nI p) (nI n) tape u9.1 u9.2.1 u9.2.2.1 u9.2.2.2.1 u9.2.2.2.2.1 u9.2.2.2.2.2.1 u9.2.2.2.2.2.2.1 u9.2.2.2.2.2.2.2.1 u9.2.2.2.2.2.2.2.2) K ((1 : Int32), at', pa, fr, pn, (-1 : Int32), pw, sc, upd lg p 0) = some (am', pa', fr', pn', wr', pw', sc', lg') from X2, xb8]
    unfold rM2
    by_cases q1 : wr' = -1
    · rw [if_pos q1, if_pos q1]
      by_cases q2 : pa' = 0
      · rw [if_pos q2, if_pos q2, q1]
      · rw [if_neg q2, if_neg q2, m_bad, if_pos q1, xb1]
    · rw [if_neg q1, if_neg q1]
  have X4' : rC2 t f' ac' = rM2 wr' pa' fr' := X4
  refine ⟨_, _, _, _, _, _, _, _, _, _, _, _, _, _, _, _, _, _, EC, by rw [X4']; exact EM, X5, X6, X7⟩
end
-- 62.fd
section
/-! feed and end: the tape in both -/
theorem b255 {i : Nat} (h : 8 ≤ i) : (255#32).getLsbD i = false := by
  rw [BitVec.getLsbD_ofNat, Nat.testBit_lt_two_pow (Nat.lt_of_lt_of_le (by decide : 255 < 2 ^ 8) (Nat.pow_le_pow_right (by decide) h)), Bool.and_false]
theorem shB (x : BitVec 32) (s : Nat) (hs : s ≤ 24) : (x.sshiftRight s) &&& 255#32 = (x >>> s) &&& 255#32 := by
  apply BitVec.eq_of_getLsbD_eq
  intro i hi
  rw [BitVec.getLsbD_and, BitVec.getLsbD_and]
  by_cases h8 : i < 8
  · rw [BitVec.getLsbD_sshiftRight, BitVec.getLsbD_ushiftRight, if_pos (show s + i < 32 by omega), decide_eq_false (show ¬ 32 ≤ i by omega)]
    rfl
  · rw [b255 (by omega), Bool.and_false, Bool.and_false]
theorem sh24 (w : Int32) : (w >>> ((24 : Int32) &&& 31)) &&& 255 = ushrF w 24 &&& 255 := Int32.toBitVec_inj.mp (shB w.toBitVec 24 (by decide))
theorem sh16 (w : Int32) : (w >>> ((16 : Int32) &&& 31)) &&& 255 = ushrF w 16 &&& 255 := Int32.toBitVec_inj.mp (shB w.toBitVec 16 (by decide))
theorem sh8 (w : Int32) : (w >>> ((8 : Int32) &&& 31)) &&& 255 = ushrF w 8 &&& 255 := Int32.toBitVec_inj.mp (shB w.toBitVec 8 (by decide))
theorem sh0 (w : Int32) : (w >>> ((0 : Int32) &&& 31)) &&& 255 = ushrF w 0 &&& 255 := Int32.toBitVec_inj.mp (shB w.toBitVec 0 (by decide))
theorem and255 (x : Int32) : ∃ m, m < 256 ∧ x &&& 255 = nI m := by
  refine ⟨(x &&& 255).toBitVec.toNat, ?_, Int32.toBitVec_inj.mp ?_⟩
  · show (x.toBitVec &&& 255#32).toNat < 256
    rw [BitVec.toNat_and]
    exact Nat.lt_of_le_of_lt Nat.and_le_right (by decide)
  · show (x &&& 255).toBitVec = BitVec.ofNat 32 _
    rw [BitVec.ofNat_toNat, BitVec.setWidth_eq]
theorem nar255 : ∀ m, m < 256 → vp_nar .byte ((nI m).toInt8.toInt32) &&& 255 = nI m := by decide +kernel
/-- a word's bytes, from above -/
def shF (j : Nat) : Int32 := ([24, 16, 8, 0, -8] : List Int32).getD j 0
def byF (w : Int32) (j : Nat) : Int32 := ushrF w (shF j) &&& 255
/-- the twenty bytes of five words -/
def btF (a b c d e : Int32) (k : Nat) : Int32 := byF (if k < 4 then a else if k < 8 then b else if k < 12 then c else if k < 16 then d else e) (k % 4)
def cn (bt : Nat → Int32) : Nat → Nat
  | 0 => 0
  | k + 1 => if bt k = 0 then cn bt k else cn bt k + 1
theorem cn_le {bt : Nat → Int32} : ∀ k, cn bt k ≤ k
  | 0 => Nat.le_refl _
  | k + 1 => by
    have := cn_le (bt := bt) k
    show (if bt k = 0 then cn bt k else cn bt k + 1) ≤ k + 1
    split <;> omega
theorem cn_mono {bt : Nat → Int32} {k : Nat} : ∀ d, cn bt k ≤ cn bt (k + d)
  | 0 => Nat.le_refl _
  | d + 1 => by
    have := cn_mono (bt := bt) (k := k) d
    show cn bt k ≤ (if bt (k + d) = 0 then cn bt (k + d) else cn bt (k + d) + 1)
    split <;> omega
/-- the rows behind k bytes, begun with n signs -/
def pcF (bt : Nat → Int32) (n : Nat) (f : Nat → Int32) : Nat → Nat → Int32
  | 0 => f
  | k + 1 => if bt k = 0 then pcF bt n f k else upd (pcF bt n f k) (n + cn bt k) (vp_nar .byte ((bt k).toInt8.toInt32))
def pmF (bt : Nat → Int32) (n : Nat) (f : Nat → Int32) : Nat → Nat → Int32
  | 0 => f
  | k + 1 => if bt k = 0 then pmF bt n f k else upd (pmF bt n f k) (n + cn bt k) (bt k)
theorem shF_step : ∀ j, j < 4 → shF j + (-8) = shF (j + 1) ∧ ¬ shF j < 0 := by decide +kernel
theorem c_bytesIn {K w : Nat} {x : Int32} {bt : Nat → Int32} (hK : 400 ≤ K) (hb : ∀ j, j < 4 → bt (4 * w + j) = byF x j) : F_X6_bytesIn K x = some (nI (cn bt (4 * w + 4) - cn bt (4 * w))) := by
  unfold F_X6_bytesIn
  rw [show lpF (fun u9 : Int32 × Int32 => B_X6_bytesIn_5 x u9.1 u9.2) K ((0 : Int32), (24 : Int32)) = some (nI (cn bt (4 * w + 4) - cn bt (4 * w))) from ?_]
  · rfl
  have S0 : ((0 : Int32), (24 : Int32)) = ((nI (cn bt (4 * w + 0) - cn bt (4 * w)), shF 0) : Int32 × Int32) := by
    rw [show 4 * w + 0 = 4 * w from rfl, Nat.sub_self]
    rfl
  rw [S0]
  refine lp_for (fun j => ((nI (cn bt (4 * w + j) - cn bt (4 * w)), shF j) : Int32 × Int32)) (n := 4) (by omega) (fun j hj => ?_) ?_
  · show B_X6_bytesIn_5 x (nI (cn bt (4 * w + j) - cn bt (4 * w))) (shF j) = some (.inl (nI ((if bt (4 * w + j) = 0 then cn bt (4 * w + j) else cn bt (4 * w + j) + 1) - cn bt (4 * w)), shF (j + 1)))
    have sj := shF_step j hj
    have mono := cn_mono (bt := bt) (k := 4 * w) j
    unfold B_X6_bytesIn_5
    rw [if_neg sj.2, sj.1, hb j hj]
    by_cases q : byF x j = 0
    · rw [if_pos q, if_pos (show ushrF x (shF j) &&& 255 = 0 from q)]
    · rw [if_neg q, if_neg (show ¬ ushrF x (shF j) &&& 255 = 0 from q), nI_1, show cn bt (4 * w + j) - cn bt (4 * w) + 1 = cn bt (4 * w + j) + 1 - cn bt (4 * w) by omega]
  · show B_X6_bytesIn_5 x _ (shF 4) = _
    unfold B_X6_bytesIn_5
    rw [if_pos (by decide)]
theorem c_take {K w n : Nat} {x : Int32} {bt f : Nat → Int32} (hK : 400 ≤ K) (hb : ∀ j, j < 4 → bt (4 * w + j) = byF x j) (hn : n + cn bt (4 * w + 4) ≤ 320) : F_X6_take K x (pcF bt n f (4 * w)) (nI (n + cn bt (4 * w))) = some (pcF bt n f (4 * w + 4), nI (n + cn bt (4 * w + 4))) := by
  unfold F_X6_take
  rw [show lpF (fun u9 : Int32 × (Nat → Int32) × Int32 => B_X6_take_3 x u9.1 u9.2.1 u9.2.2) K ((24 : Int32), pcF bt n f (4 * w), nI (n + cn bt (4 * w))) = some (pcF bt n f (4 * w + 4), nI (n + cn bt (4 * w + 4))) from ?_]
  · rfl
  refine lp_for (fun j => ((shF j, pcF bt n f (4 * w + j), nI (n + cn bt (4 * w + j))) : Int32 × (Nat → Int32) × Int32)) (n := 4) (by omega) (fun j hj => ?_) ?_
  · show B_X6_take_3 x (shF j) (pcF bt n f (4 * w + j)) (nI (n + cn bt (4 * w + j))) = some (.inl (shF (j + 1), (if bt (4 * w + j) = 0 then pcF bt n f (4 * w + j) else upd (pcF bt n f (4 * w + j)) (n + cn bt (4 * w + j)) (vp_nar .byte ((bt (4 * w + j)).toInt8.toInt32))), nI (n + (if bt (4 * w + j) = 0 then cn bt (4 * w + j) else cn bt (4 * w + j) + 1))))
    have sj := shF_step j hj
    have m1 : cn bt (4 * w + j + 1) ≤ cn bt (4 * w + 4) := by
      have := cn_mono (bt := bt) (k := 4 * w + j + 1) (3 - j)
      rw [show 4 * w + j + 1 + (3 - j) = 4 * w + 4 by omega] at this
      exact this
    unfold B_X6_take_3
    rw [if_neg sj.2, sj.1, hb j hj]
    by_cases q : byF x j = 0
    · rw [if_pos q, if_pos q, if_pos (show ushrF x (shF j) &&& 255 = 0 from q)]
    · have m2 : cn bt (4 * w + j) + 1 ≤ cn bt (4 * w + 4) := by
        have e : cn bt (4 * w + j + 1) = cn bt (4 * w + j) + 1 := by
          show (if bt (4 * w + j) = 0 then cn bt (4 * w + j) else cn bt (4 * w + j) + 1) = _
          rw [hb j hj, if_neg q]
        omega
      rw [if_neg q, if_neg q, if_neg (show ¬ ushrF x (shF j) &&& 255 = 0 from q), if_neg (show ¬ (320 : Int32) ≤ nI (n + cn bt (4 * w + j)) by rw [x320, ple (by decide) (by omega)]; omega), xixn (by omega) (by decide), xnm, nI_clamp (by omega), nI_1, Nat.add_assoc]
      rfl
  · show B_X6_take_3 x (shF 4) _ _ = _
    unfold B_X6_take_3
    rw [if_pos (by decide)]
theorem bt_w {a b c d e : Int32} {w j : Nat} (hw : w < 5) (hj : j < 4) : btF a b c d e (4 * w + j) = byF (if w = 0 then a else if w = 1 then b else if w = 2 then c else if w = 3 then d else e) j := by
  unfold btF
  rw [show (4 * w + j) % 4 = j by omega]
  rcases (show w = 0 ∨ w = 1 ∨ w = 2 ∨ w = 3 ∨ w = 4 by omega) with rfl | rfl | rfl | rfl | rfl
  · rw [if_pos (by omega), if_pos rfl]
  · rw [if_neg (by omega), if_pos (by omega), if_neg (by decide), if_pos rfl]
  · rw [if_neg (by omega), if_neg (by omega), if_pos (by omega), if_neg (by decide), if_neg (by decide), if_pos rfl]
  · rw [if_neg (by omega), if_neg (by omega), if_neg (by omega), if_pos (by omega), if_neg (by decide), if_neg (by decide), if_neg (by decide), if_pos rfl]
  · rw [if_neg (by omega), if_neg (by omega), if_neg (by omega), if_neg (by omega), if_neg (by decide), if_neg (by decide), if_neg (by decide), if_neg (by decide)]
theorem c_feed {K n : Nat} {a b c d e : Int32} {f : Nat → Int32} (hK : 400 ≤ K) (hn : n ≤ 320) : F_X7_feed K a b c d e f (nI n) = some (if n + cn (btF a b c d e) 20 ≤ 320 then (nI (n + cn (btF a b c d e) 20), pcF (btF a b c d e) n f 20, nI (n + cn (btF a b c d e) 20)) else (-1, f, nI n)) := by
  have b0 : ∀ j, j < 4 → btF a b c d e (4 * 0 + j) = byF a j := fun j hj => bt_w (a := a) (b := b) (c := c) (d := d) (e := e) (w := 0) (j := j) (by decide) hj
  have b1 : ∀ j, j < 4 → btF a b c d e (4 * 1 + j) = byF b j := fun j hj => bt_w (a := a) (b := b) (c := c) (d := d) (e := e) (w := 1) (j := j) (by decide) hj
  have b2 : ∀ j, j < 4 → btF a b c d e (4 * 2 + j) = byF c j := fun j hj => bt_w (a := a) (b := b) (c := c) (d := d) (e := e) (w := 2) (j := j) (by decide) hj
  have b3 : ∀ j, j < 4 → btF a b c d e (4 * 3 + j) = byF d j := fun j hj => bt_w (a := a) (b := b) (c := c) (d := d) (e := e) (w := 3) (j := j) (by decide) hj
  have b4 : ∀ j, j < 4 → btF a b c d e (4 * 4 + j) = byF e j := fun j hj => bt_w (a := a) (b := b) (c := c) (d := d) (e := e) (w := 4) (j := j) (by decide) hj
  generalize btF a b c d e = bt at b0 b1 b2 b3 b4 ⊢
  have m0 := cn_mono (bt := bt) (k := 0) 4
  have m1 := cn_mono (bt := bt) (k := 4) 4
  have m2 := cn_mono (bt := bt) (k := 8) 4
  have m3 := cn_mono (bt := bt) (k := 12) 4
  have m4 := cn_mono (bt := bt) (k := 16) 4
  have m5 := cn_le (bt := bt) 20
  have h5 : n + (cn bt 4 - cn bt 0 + (cn bt 8 - cn bt 4) + (cn bt 12 - cn bt 8) + (cn bt 16 - cn bt 12) + (cn bt 20 - cn bt 16)) = n + cn bt 20 := by
    have z : cn bt 0 = 0 := rfl
    have k1 : cn bt 4 ≤ cn bt 8 := m1
    have k2 : cn bt 8 ≤ cn bt 12 := m2
    have k3 : cn bt 12 ≤ cn bt 16 := m3
    have k4 : cn bt 16 ≤ cn bt 20 := m4
    omega
  unfold F_X7_feed
  rw [c_bytesIn (w := 0) hK b0, xb1, c_bytesIn (w := 1) hK b1, xb1, c_bytesIn (w := 2) hK b2, xb1, c_bytesIn (w := 3) hK b3, xb1, c_bytesIn (w := 4) hK b4, xb1, nI_add, nI_add, nI_add, nI_add, nI_add, x320, show n + (cn bt (4 * 0 + 4) - cn bt (4 * 0) + (cn bt (4 * 1 + 4) - cn bt (4 * 1)) + (cn bt (4 * 2 + 4) - cn bt (4 * 2)) + (cn bt (4 * 3 + 4) - cn bt (4 * 3)) + (cn bt (4 * 4 + 4) - cn bt (4 * 4))) = n + cn bt 20 from h5, xle (by omega) (by decide)]
  by_cases q : n + cn bt 20 ≤ 320
  · rw [if_pos q, if_pos q]
    rw [show F_X6_take K a f (nI n) = _ from c_take (w := 0) (f := f) hK b0 (by show n + cn bt 4 ≤ 320; have : cn bt 4 ≤ cn bt 8 := m1; have : cn bt 8 ≤ cn bt 12 := m2; have : cn bt 12 ≤ cn bt 16 := m3; have : cn bt 16 ≤ cn bt 20 := m4; omega), xb2]
    rw [show F_X6_take K b (pcF bt n f (4 * 0 + 4)) (nI (n + cn bt (4 * 0 + 4))) = _ from c_take (w := 1) (f := f) hK b1 (by show n + cn bt 8 ≤ 320; have : cn bt 8 ≤ cn bt 12 := m2; have : cn bt 12 ≤ cn bt 16 := m3; have : cn bt 16 ≤ cn bt 20 := m4; omega), xb2]
    rw [show F_X6_take K c (pcF bt n f (4 * 1 + 4)) (nI (n + cn bt (4 * 1 + 4))) = _ from c_take (w := 2) (f := f) hK b2 (by show n + cn bt 12 ≤ 320; have : cn bt 12 ≤ cn bt 16 := m3; have : cn bt 16 ≤ cn bt 20 := m4; omega), xb2]
    rw [show F_X6_take K d (pcF bt n f (4 * 2 + 4)) (nI (n + cn bt (4 * 2 + 4))) = _ from c_take (w := 3) (f := f) hK b3 (by show n + cn bt 16 ≤ 320; have : cn bt 16 ≤ cn bt 20 := m4; omega), xb2]
    rw [show F_X6_take K e (pcF bt n f (4 * 3 + 4)) (nI (n + cn bt (4 * 3 + 4))) = _ from c_take (w := 4) (f := f) hK b4 q, xb2]
  · rw [if_neg q, if_neg q]

theorem bo_sh : ∀ k, k < 20 → (24 : Int32) - ((8 : Int32) * (nI k - nI k / (4 : Int32) * (4 : Int32))) = shF (k % 4) := by decide +kernel
theorem bo_j {k : Nat} {w : Int32} (hk : k < 20) : J_X8_byteOf_45 (nI k) w = some (byF w (k % 4)) := by
  unfold J_X8_byteOf_45
  rw [bo_sh k hk]
  have h4 : k % 4 < 4 := Nat.mod_lt _ (by decide)
  generalize k % 4 = j at h4 ⊢
  rcases (show j = 0 ∨ j = 1 ∨ j = 2 ∨ j = 3 by omega) with rfl | rfl | rfl | rfl
  · exact congrArg some (sh24 w)
  · exact congrArg some (sh16 w)
  · exact congrArg some (sh8 w)
  · exact congrArg some (sh0 w)
theorem bo {a b c d e : Int32} {k : Nat} (hk : k < 20) : F_X8_byteOf a b c d e (nI k) = some (btF a b c d e k) := by
  unfold F_X8_byteOf btF
  rw [bo_j hk, bo_j hk, bo_j hk, bo_j hk, bo_j hk]
  rw [show (4 : Int32) = nI 4 from rfl, show (8 : Int32) = nI 8 from rfl, show (12 : Int32) = nI 12 from rfl, show (16 : Int32) = nI 16 from rfl, xle (by decide) (by omega), xle (by decide) (by omega), xle (by decide) (by omega), xle (by decide) (by omega)]
  by_cases h1 : k < 4
  · rw [if_neg (by omega), if_pos h1]
  · rw [if_pos (by omega), if_neg h1]
    by_cases h2 : k < 8
    · rw [if_neg (by omega), if_pos h2]
    · rw [if_pos (by omega), if_neg h2]
      by_cases h3 : k < 12
      · rw [if_neg (by omega), if_pos h3]
      · rw [if_pos (by omega), if_neg h3]
        by_cases h4 : k < 16
        · rw [if_neg (by omega), if_pos h4]
        · rw [if_pos (by omega), if_neg h4]
theorem m_feed {K n : Nat} {a b c d e : Int32} {f : Nat → Int32} (hK : 400 ≤ K) (hn : n ≤ 320) : F_X8_feed K a b c d e f (nI n) = some (if n + cn (btF a b c d e) 20 ≤ 320 then (nI (n + cn (btF a b c d e) 20), pmF (btF a b c d e) n f 20, nI (n + cn (btF a b c d e) 20)) else (-1, f, nI n)) := by
  have hb : ∀ k, k < 20 → F_X8_byteOf a b c d e (nI k) = some (btF a b c d e k) := fun k hk => bo hk
  generalize btF a b c d e = bt at hb ⊢
  have m5 := cn_le (bt := bt) 20
  have L1 : lpF (fun u9 : Int32 × Int32 => B_X8_feed_6 a b c d e u9.1 u9.2) K ((0 : Int32), (0 : Int32)) = some (nI (cn bt 20)) := by
    refine lp_for (fun k => ((nI (cn bt k), nI k) : Int32 × Int32)) (n := 20) (by omega) (fun k hk => ?_) ?_
    · show B_X8_feed_6 a b c d e (nI (cn bt k)) (nI k) = some (.inl (nI (if bt k = 0 then cn bt k else cn bt k + 1), nI (k + 1)))
      unfold B_X8_feed_6
      rw [hb k hk, xb1, if_neg (show ¬ (20 : Int32) ≤ nI k by rw [show (20 : Int32) = nI 20 from rfl, ple (by decide) (by omega)]; omega), nI_1, nI_1]
      by_cases q : bt k = 0
      · rw [if_pos q, if_pos q, show nI (cn bt k) + 0 = nI (cn bt k) from Int32.add_zero _]
      · rw [if_neg q, if_neg q]
    · show B_X8_feed_6 a b c d e (nI (cn bt 20)) (nI 20) = _
      unfold B_X8_feed_6
      rw [if_pos (by decide)]
  unfold F_X8_feed
  rw [L1, xb1, nI_add, x320, xle (by omega) (by decide)]
  by_cases q : n + cn bt 20 ≤ 320
  · rw [if_pos q, if_pos q]
    rw [show lpF (fun u9 : Int32 × (Nat → Int32) × Int32 => B_X8_feed_62 a b c d e u9.1 u9.2.1 u9.2.2) K ((0 : Int32), f, nI n) = some (pmF bt n f 20, nI (n + cn bt 20)) from ?_, xb2]
    refine lp_for (fun k => ((nI k, pmF bt n f k, nI (n + cn bt k)) : Int32 × (Nat → Int32) × Int32)) (n := 20) (by omega) (fun k hk => ?_) ?_
    · show B_X8_feed_62 a b c d e (nI k) (pmF bt n f k) (nI (n + cn bt k)) = some (.inl (nI (k + 1), (if bt k = 0 then pmF bt n f k else upd (pmF bt n f k) (n + cn bt k) (bt k)), nI (n + (if bt k = 0 then cn bt k else cn bt k + 1))))
      have m1 : cn bt (k + 1) ≤ cn bt 20 := by
        have := cn_mono (bt := bt) (k := k + 1) (19 - k)
        rw [show k + 1 + (19 - k) = 20 by omega] at this
        exact this
      unfold B_X8_feed_62
      rw [hb k hk, xb1, if_neg (show ¬ (20 : Int32) ≤ nI k by rw [show (20 : Int32) = nI 20 from rfl, ple (by decide) (by omega)]; omega), nI_1]
      by_cases q : bt k = 0
      · rw [if_pos q, if_pos q, if_pos q]
      · have m2 : cn bt k + 1 ≤ cn bt 20 := by
          have e : cn bt (k + 1) = cn bt k + 1 := by
            show (if bt k = 0 then cn bt k else cn bt k + 1) = _
            rw [if_neg q]
          omega
        rw [if_neg q, if_neg q, if_neg q, xixn (by omega) (by decide), xnm, nI_clamp (by omega), nI_1, Nat.add_assoc]
    · show B_X8_feed_62 a b c d e (nI 20) _ _ = _
      unfold B_X8_feed_62
      rw [if_pos (by decide)]
  · rw [if_neg q, if_neg q]
/-- both tapes hold the same n signs -/
def TR (n : Nat) (bytes tape : Nat → Int32) : Prop := n ≤ 320 ∧ ∀ i, i < n → ∃ m, 1 ≤ m ∧ m < 256 ∧ tape i = nI m ∧ bytes i &&& 255 = nI m
def sgO (n : Nat) (tape : Nat → Int32) (i : Nat) : Int32 := if i < n then tape i else -1
theorem TR.sg {n : Nat} {bytes tape : Nat → Int32} (h : TR n bytes tape) : Sg n (sgO n tape) := by
  refine ⟨h.1, fun i hi => if_neg (by omega), fun i hi => ?_⟩
  obtain ⟨m, h1, h2, h3, _⟩ := h.2 i hi
  unfold sgO
  rw [if_pos hi, h3]
  exact nI_ne_m1 (by omega)
theorem TR.c {n : Nat} {bytes tape : Nat → Int32} (h : TR n bytes tape) : TpC n (sgO n tape) bytes := by
  intro i hi
  obtain ⟨m, h1, h2, h3, h4⟩ := h.2 i hi
  unfold sgO
  rw [if_pos hi, h3, h4]
theorem TR.m {n : Nat} {bytes tape : Nat → Int32} (_ : TR n bytes tape) : TpM n (sgO n tape) tape := by
  intro i hi
  unfold sgO
  rw [if_pos hi]
theorem upd_no {f : Nat → Int32} {i j : Nat} {x : Int32} (h : ¬ j = i) : upd f i x j = f j := by unfold upd; exact if_neg h
theorem TR.fed {n : Nat} {bt bytes tape : Nat → Int32} (hb : ∀ k, ∃ m, m < 256 ∧ bt k = nI m) (h : TR n bytes tape) : ∀ k, n + cn bt k ≤ 320 → TR (n + cn bt k) (pcF bt n bytes k) (pmF bt n tape k) := by
  intro k
  induction k with
  | zero => exact fun _ => h
  | succ k ih =>
    show n + (if bt k = 0 then cn bt k else cn bt k + 1) ≤ 320 → TR (n + (if bt k = 0 then cn bt k else cn bt k + 1)) (if bt k = 0 then pcF bt n bytes k else upd (pcF bt n bytes k) (n + cn bt k) (vp_nar .byte ((bt k).toInt8.toInt32))) (if bt k = 0 then pmF bt n tape k else upd (pmF bt n tape k) (n + cn bt k) (bt k))
    by_cases q : bt k = 0
    · rw [if_pos q, if_pos q, if_pos q]
      exact ih
    · rw [if_neg q, if_neg q, if_neg q]
      intro hl
      have i1 := ih (by omega)
      obtain ⟨m, hm, e⟩ := hb k
      refine ⟨by omega, fun i hi => ?_⟩
      by_cases z : i = n + cn bt k
      · refine ⟨m, ?_, hm, ?_, ?_⟩
        · exact Nat.pos_of_ne_zero (fun m0 => q (by rw [e, m0]; rfl))
        · rw [z, upd_at, e]
        · rw [z, upd_at, e]
          exact nar255 m hm
      · rw [upd_no z, upd_no z]
        exact i1.2 i (by omega)
theorem bt_ok {a b c d e : Int32} (k : Nat) : ∃ m, m < 256 ∧ btF a b c d e k = nI m := by
  unfold btF byF
  exact and255 _
/-- both take signs alike -/
theorem fd_both {K n : Nat} {a b c d e : Int32} {bytes tape : Nat → Int32} (hK : 400 ≤ K) (h : TR n bytes tape) : ∃ v n' bytes' tape', F_X7_feed K a b c d e bytes (nI n) = some (v, bytes', nI n') ∧ F_X8_feed K a b c d e tape (nI n) = some (v, tape', nI n') ∧ TR n' bytes' tape' := by
  rw [c_feed hK h.1, m_feed hK h.1]
  by_cases q : n + cn (btF a b c d e) 20 ≤ 320
  · rw [if_pos q, if_pos q]
    exact ⟨_, _, _, _, rfl, rfl, h.fed bt_ok 20 q⟩
  · rw [if_neg q, if_neg q]
    exact ⟨_, _, _, _, rfl, rfl, h⟩
theorem c_end {n : Nat} {p : Int32} (hn : n ≤ 320) : F_X7_end p (nI n) = some (if 0 ≤ p ∧ p ≤ nI n then (1, p) else (0, nI n)) := by
  unfold F_X7_end F_X6_cutTo
  by_cases h1 : p < 0
  · rw [if_pos h1, xb2, if_neg (fun q => lt_not.mp h1 q.1)]
  · rw [if_neg h1]
    have h1' : 0 ≤ p := Decidable.byContradiction (fun q => h1 (lt_not.mpr q))
    by_cases h2 : p ≤ nI n
    · rw [if_pos h2, xb2, if_pos ⟨h1', h2⟩]
    · rw [if_neg h2, xb2, if_neg (fun q => h2 q.2)]
theorem m_end {n : Nat} {p : Int32} (hn : n ≤ 320) : F_X8_end p (nI n) = some (if 0 ≤ p ∧ p ≤ nI n then (1, p) else (0, nI n)) := by
  unfold F_X8_end
  rw [show (0 : Int64) = (0 : Int32).toInt64 from rfl, m_inI, xb1]
  by_cases h1 : 0 ≤ p ∧ p ≤ nI n
  · rw [if_pos h1, if_pos h1, if_neg (by decide)]
  · rw [if_neg h1, if_neg h1, if_pos rfl]
theorem en_both {n : Nat} {p : Int32} {bytes tape : Nat → Int32} (h : TR n bytes tape) : ∃ v n', F_X7_end p (nI n) = some (v, nI n') ∧ F_X8_end p (nI n) = some (v, nI n') ∧ TR n' bytes tape := by
  rw [c_end h.1, m_end h.1]
  have hn := h.1
  by_cases q : 0 ≤ p ∧ p ≤ nI n
  · rw [if_pos q]
    have e : p = nI p.toNatClampNeg := by
      have := Int32.le_iff_toInt_le.mp q.1
      apply Int32.toInt_inj.mp
      rw [nI_toInt (by have := Int32.toInt_lt p; unfold Int32.toNatClampNeg; omega)]
      unfold Int32.toNatClampNeg
      have z : (0 : Int32).toInt = 0 := rfl
      omega
    generalize hm : p.toNatClampNeg = m at e
    have ml : m ≤ n := by
      have h2 := q.2
      have hb : m < 2 ^ 31 := by rw [← hm]; have := Int32.toInt_lt p; unfold Int32.toNatClampNeg; omega
      rw [e] at h2
      exact (nI_leI hb (by omega)).mp h2
    exact ⟨1, m, by rw [← e], by rw [← e], by omega, fun i hi => h.2 i (by omega)⟩
  · rw [if_neg q]
    exact ⟨_, _, rfl, rfl, h⟩
end
-- 63.tt
section
/-! Tt x Q: x is some r, and Q r -/
def Tt {α : Type} (x : Option α) (Q : α → Prop) : Prop := ∃ r, x = some r ∧ Q r
theorem tt_some {α : Type} {r : α} {Q : α → Prop} (h : Q r) : Tt (some r) Q := ⟨r, rfl, h⟩
theorem tt_mono {α : Type} {x : Option α} {P Q : α → Prop} (h : Tt x P) (hq : ∀ r, P r → Q r) : Tt x Q := h.elim (fun r z => ⟨r, z.1, hq r z.2⟩)
theorem tt_ite {α : Type} {c : Prop} {d : Decidable c} {a b : Option α} {Q : α → Prop} (h1 : c → Tt a Q) (h2 : ¬ c → Tt b Q) : Tt (@ite (Option α) c d a b) Q := by
  by_cases q : c
  · rw [if_pos q]; exact h1 q
  · rw [if_neg q]; exact h2 q
theorem tt_nm {α β : Type} {x : α} {g : α → Option β} {Q : β → Prop} (h : Tt (g x) Q) : Tt (nmF x g) Q := h
theorem tt_ix {α : Type} {i : Int32} {n : Nat} {g : Option α} {Q : α → Prop} (hi : vp_in i n) (h : Tt g Q) : Tt (ixF i n g) Q := by rw [xix hi]; exact h
theorem tt_ixn {α : Type} {i n : Nat} {g : Option α} {Q : α → Prop} (hi : i < n) (hn : n < 2 ^ 31) (h : Tt g Q) : Tt (ixF (nI i) n g) Q := by rw [xixn hi hn]; exact h
theorem tt_cp {α : Type} {sp dp k : Int32} {n0 n1 : Nat} {g : Option α} {Q : α → Prop} (hc : ¬ sp < 0 ∧ ¬ dp < 0 ∧ ¬ k < 0 ∧ sp.toNatClampNeg + k.toNatClampNeg ≤ n0 ∧ dp.toNatClampNeg + k.toNatClampNeg ≤ n1) (h : Tt g Q) : Tt (cpF sp dp k n0 n1 g) Q := by unfold cpF; rw [if_pos hc]; exact h
theorem tt_bd1 {t0 β : Type} {x : Option (t0)} {f : t0 → Option β} {P : t0 → Prop} {Q : β → Prop} (h : Tt x P) (hf : ∀ (a0 : t0), P a0 → Tt (f a0) Q) : Tt (bd1 x f) Q := by
  obtain ⟨a0, e, p⟩ := h
  rw [e]
  exact hf a0 p
theorem tt_bd2 {t0 t1 β : Type} {x : Option (t0 × t1)} {f : t0 → t1 → Option β} {P : t0 × t1 → Prop} {Q : β → Prop} (h : Tt x P) (hf : ∀ (a0 : t0) (a1 : t1), P (a0, a1) → Tt (f a0 a1) Q) : Tt (bd2 x f) Q := by
  obtain ⟨⟨a0, a1⟩, e, p⟩ := h
  rw [e]
  exact hf a0 a1 p
theorem tt_bd3 {t0 t1 t2 β : Type} {x : Option (t0 × t1 × t2)} {f : t0 → t1 → t2 → Option β} {P : t0 × t1 × t2 → Prop} {Q : β → Prop} (h : Tt x P) (hf : ∀ (a0 : t0) (a1 : t1) (a2 : t2), P (a0, a1, a2) → Tt (f a0 a1 a2) Q) : Tt (bd3 x f) Q := by
  obtain ⟨⟨a0, a1, a2⟩, e, p⟩ := h
  rw [e]
  exact hf a0 a1 a2 p
theorem tt_bd4 {t0 t1 t2 t3 β : Type} {x : Option (t0 × t1 × t2 × t3)} {f : t0 → t1 → t2 → t3 → Option β} {P : t0 × t1 × t2 × t3 → Prop} {Q : β → Prop} (h : Tt x P) (hf : ∀ (a0 : t0) (a1 : t1) (a2 : t2) (a3 : t3), P (a0, a1, a2, a3) → Tt (f a0 a1 a2 a3) Q) : Tt (bd4 x f) Q := by
  obtain ⟨⟨a0, a1, a2, a3⟩, e, p⟩ := h
  rw [e]
  exact hf a0 a1 a2 a3 p
theorem tt_bd5 {t0 t1 t2 t3 t4 β : Type} {x : Option (t0 × t1 × t2 × t3 × t4)} {f : t0 → t1 → t2 → t3 → t4 → Option β} {P : t0 × t1 × t2 × t3 × t4 → Prop} {Q : β → Prop} (h : Tt x P) (hf : ∀ (a0 : t0) (a1 : t1) (a2 : t2) (a3 : t3) (a4 : t4), P (a0, a1, a2, a3, a4) → Tt (f a0 a1 a2 a3 a4) Q) : Tt (bd5 x f) Q := by
  obtain ⟨⟨a0, a1, a2, a3, a4⟩, e, p⟩ := h
  rw [e]
  exact hf a0 a1 a2 a3 a4 p
theorem tt_bd6 {t0 t1 t2 t3 t4 t5 β : Type} {x : Option (t0 × t1 × t2 × t3 × t4 × t5)} {f : t0 → t1 → t2 → t3 → t4 → t5 → Option β} {P : t0 × t1 × t2 × t3 × t4 × t5 → Prop} {Q : β → Prop} (h : Tt x P) (hf : ∀ (a0 : t0) (a1 : t1) (a2 : t2) (a3 : t3) (a4 : t4) (a5 : t5), P (a0, a1, a2, a3, a4, a5) → Tt (f a0 a1 a2 a3 a4 a5) Q) : Tt (bd6 x f) Q := by
  obtain ⟨⟨a0, a1, a2, a3, a4, a5⟩, e, p⟩ := h
  rw [e]
  exact hf a0 a1 a2 a3 a4 a5 p
theorem tt_bd7 {t0 t1 t2 t3 t4 t5 t6 β : Type} {x : Option (t0 × t1 × t2 × t3 × t4 × t5 × t6)} {f : t0 → t1 → t2 → t3 → t4 → t5 → t6 → Option β} {P : t0 × t1 × t2 × t3 × t4 × t5 × t6 → Prop} {Q : β → Prop} (h : Tt x P) (hf : ∀ (a0 : t0) (a1 : t1) (a2 : t2) (a3 : t3) (a4 : t4) (a5 : t5) (a6 : t6), P (a0, a1, a2, a3, a4, a5, a6) → Tt (f a0 a1 a2 a3 a4 a5 a6) Q) : Tt (bd7 x f) Q := by
  obtain ⟨⟨a0, a1, a2, a3, a4, a5, a6⟩, e, p⟩ := h
  rw [e]
  exact hf a0 a1 a2 a3 a4 a5 a6 p
theorem tt_bd8 {t0 t1 t2 t3 t4 t5 t6 t7 β : Type} {x : Option (t0 × t1 × t2 × t3 × t4 × t5 × t6 × t7)} {f : t0 → t1 → t2 → t3 → t4 → t5 → t6 → t7 → Option β} {P : t0 × t1 × t2 × t3 × t4 × t5 × t6 × t7 → Prop} {Q : β → Prop} (h : Tt x P) (hf : ∀ (a0 : t0) (a1 : t1) (a2 : t2) (a3 : t3) (a4 : t4) (a5 : t5) (a6 : t6) (a7 : t7), P (a0, a1, a2, a3, a4, a5, a6, a7) → Tt (f a0 a1 a2 a3 a4 a5 a6 a7) Q) : Tt (bd8 x f) Q := by
  obtain ⟨⟨a0, a1, a2, a3, a4, a5, a6, a7⟩, e, p⟩ := h
  rw [e]
  exact hf a0 a1 a2 a3 a4 a5 a6 a7 p
theorem tt_bd9 {t0 t1 t2 t3 t4 t5 t6 t7 t8 β : Type} {x : Option (t0 × t1 × t2 × t3 × t4 × t5 × t6 × t7 × t8)} {f : t0 → t1 → t2 → t3 → t4 → t5 → t6 → t7 → t8 → Option β} {P : t0 × t1 × t2 × t3 × t4 × t5 × t6 × t7 × t8 → Prop} {Q : β → Prop} (h : Tt x P) (hf : ∀ (a0 : t0) (a1 : t1) (a2 : t2) (a3 : t3) (a4 : t4) (a5 : t5) (a6 : t6) (a7 : t7) (a8 : t8), P (a0, a1, a2, a3, a4, a5, a6, a7, a8) → Tt (f a0 a1 a2 a3 a4 a5 a6 a7 a8) Q) : Tt (bd9 x f) Q := by
  obtain ⟨⟨a0, a1, a2, a3, a4, a5, a6, a7, a8⟩, e, p⟩ := h
  rw [e]
  exact hf a0 a1 a2 a3 a4 a5 a6 a7 a8 p
theorem tt_bd10 {t0 t1 t2 t3 t4 t5 t6 t7 t8 t9 β : Type} {x : Option (t0 × t1 × t2 × t3 × t4 × t5 × t6 × t7 × t8 × t9)} {f : t0 → t1 → t2 → t3 → t4 → t5 → t6 → t7 → t8 → t9 → Option β} {P : t0 × t1 × t2 × t3 × t4 × t5 × t6 × t7 × t8 × t9 → Prop} {Q : β → Prop} (h : Tt x P) (hf : ∀ (a0 : t0) (a1 : t1) (a2 : t2) (a3 : t3) (a4 : t4) (a5 : t5) (a6 : t6) (a7 : t7) (a8 : t8) (a9 : t9), P (a0, a1, a2, a3, a4, a5, a6, a7, a8, a9) → Tt (f a0 a1 a2 a3 a4 a5 a6 a7 a8 a9) Q) : Tt (bd10 x f) Q := by
  obtain ⟨⟨a0, a1, a2, a3, a4, a5, a6, a7, a8, a9⟩, e, p⟩ := h
  rw [e]
  exact hf a0 a1 a2 a3 a4 a5 a6 a7 a8 a9 p
theorem tt_bd11 {t0 t1 t2 t3 t4 t5 t6 t7 t8 t9 t10 β : Type} {x : Option (t0 × t1 × t2 × t3 × t4 × t5 × t6 × t7 × t8 × t9 × t10)} {f : t0 → t1 → t2 → t3 → t4 → t5 → t6 → t7 → t8 → t9 → t10 → Option β} {P : t0 × t1 × t2 × t3 × t4 × t5 × t6 × t7 × t8 × t9 × t10 → Prop} {Q : β → Prop} (h : Tt x P) (hf : ∀ (a0 : t0) (a1 : t1) (a2 : t2) (a3 : t3) (a4 : t4) (a5 : t5) (a6 : t6) (a7 : t7) (a8 : t8) (a9 : t9) (a10 : t10), P (a0, a1, a2, a3, a4, a5, a6, a7, a8, a9, a10) → Tt (f a0 a1 a2 a3 a4 a5 a6 a7 a8 a9 a10) Q) : Tt (bd11 x f) Q := by
  obtain ⟨⟨a0, a1, a2, a3, a4, a5, a6, a7, a8, a9, a10⟩, e, p⟩ := h
  rw [e]
  exact hf a0 a1 a2 a3 a4 a5 a6 a7 a8 a9 a10 p
theorem tt_bd12 {t0 t1 t2 t3 t4 t5 t6 t7 t8 t9 t10 t11 β : Type} {x : Option (t0 × t1 × t2 × t3 × t4 × t5 × t6 × t7 × t8 × t9 × t10 × t11)} {f : t0 → t1 → t2 → t3 → t4 → t5 → t6 → t7 → t8 → t9 → t10 → t11 → Option β} {P : t0 × t1 × t2 × t3 × t4 × t5 × t6 × t7 × t8 × t9 × t10 × t11 → Prop} {Q : β → Prop} (h : Tt x P) (hf : ∀ (a0 : t0) (a1 : t1) (a2 : t2) (a3 : t3) (a4 : t4) (a5 : t5) (a6 : t6) (a7 : t7) (a8 : t8) (a9 : t9) (a10 : t10) (a11 : t11), P (a0, a1, a2, a3, a4, a5, a6, a7, a8, a9, a10, a11) → Tt (f a0 a1 a2 a3 a4 a5 a6 a7 a8 a9 a10 a11) Q) : Tt (bd12 x f) Q := by
  obtain ⟨⟨a0, a1, a2, a3, a4, a5, a6, a7, a8, a9, a10, a11⟩, e, p⟩ := h
  rw [e]
  exact hf a0 a1 a2 a3 a4 a5 a6 a7 a8 a9 a10 a11 p
theorem tt_bd13 {t0 t1 t2 t3 t4 t5 t6 t7 t8 t9 t10 t11 t12 β : Type} {x : Option (t0 × t1 × t2 × t3 × t4 × t5 × t6 × t7 × t8 × t9 × t10 × t11 × t12)} {f : t0 → t1 → t2 → t3 → t4 → t5 → t6 → t7 → t8 → t9 → t10 → t11 → t12 → Option β} {P : t0 × t1 × t2 × t3 × t4 × t5 × t6 × t7 × t8 × t9 × t10 × t11 × t12 → Prop} {Q : β → Prop} (h : Tt x P) (hf : ∀ (a0 : t0) (a1 : t1) (a2 : t2) (a3 : t3) (a4 : t4) (a5 : t5) (a6 : t6) (a7 : t7) (a8 : t8) (a9 : t9) (a10 : t10) (a11 : t11) (a12 : t12), P (a0, a1, a2, a3, a4, a5, a6, a7, a8, a9, a10, a11, a12) → Tt (f a0 a1 a2 a3 a4 a5 a6 a7 a8 a9 a10 a11 a12) Q) : Tt (bd13 x f) Q := by
  obtain ⟨⟨a0, a1, a2, a3, a4, a5, a6, a7, a8, a9, a10, a11, a12⟩, e, p⟩ := h
  rw [e]
  exact hf a0 a1 a2 a3 a4 a5 a6 a7 a8 a9 a10 a11 a12 p
theorem tt_bd14 {t0 t1 t2 t3 t4 t5 t6 t7 t8 t9 t10 t11 t12 t13 β : Type} {x : Option (t0 × t1 × t2 × t3 × t4 × t5 × t6 × t7 × t8 × t9 × t10 × t11 × t12 × t13)} {f : t0 → t1 → t2 → t3 → t4 → t5 → t6 → t7 → t8 → t9 → t10 → t11 → t12 → t13 → Option β} {P : t0 × t1 × t2 × t3 × t4 × t5 × t6 × t7 × t8 × t9 × t10 × t11 × t12 × t13 → Prop} {Q : β → Prop} (h : Tt x P) (hf : ∀ (a0 : t0) (a1 : t1) (a2 : t2) (a3 : t3) (a4 : t4) (a5 : t5) (a6 : t6) (a7 : t7) (a8 : t8) (a9 : t9) (a10 : t10) (a11 : t11) (a12 : t12) (a13 : t13), P (a0, a1, a2, a3, a4, a5, a6, a7, a8, a9, a10, a11, a12, a13) → Tt (f a0 a1 a2 a3 a4 a5 a6 a7 a8 a9 a10 a11 a12 a13) Q) : Tt (bd14 x f) Q := by
  obtain ⟨⟨a0, a1, a2, a3, a4, a5, a6, a7, a8, a9, a10, a11, a12, a13⟩, e, p⟩ := h
  rw [e]
  exact hf a0 a1 a2 a3 a4 a5 a6 a7 a8 a9 a10 a11 a12 a13 p
theorem tt_bd15 {t0 t1 t2 t3 t4 t5 t6 t7 t8 t9 t10 t11 t12 t13 t14 β : Type} {x : Option (t0 × t1 × t2 × t3 × t4 × t5 × t6 × t7 × t8 × t9 × t10 × t11 × t12 × t13 × t14)} {f : t0 → t1 → t2 → t3 → t4 → t5 → t6 → t7 → t8 → t9 → t10 → t11 → t12 → t13 → t14 → Option β} {P : t0 × t1 × t2 × t3 × t4 × t5 × t6 × t7 × t8 × t9 × t10 × t11 × t12 × t13 × t14 → Prop} {Q : β → Prop} (h : Tt x P) (hf : ∀ (a0 : t0) (a1 : t1) (a2 : t2) (a3 : t3) (a4 : t4) (a5 : t5) (a6 : t6) (a7 : t7) (a8 : t8) (a9 : t9) (a10 : t10) (a11 : t11) (a12 : t12) (a13 : t13) (a14 : t14), P (a0, a1, a2, a3, a4, a5, a6, a7, a8, a9, a10, a11, a12, a13, a14) → Tt (f a0 a1 a2 a3 a4 a5 a6 a7 a8 a9 a10 a11 a12 a13 a14) Q) : Tt (bd15 x f) Q := by
  obtain ⟨⟨a0, a1, a2, a3, a4, a5, a6, a7, a8, a9, a10, a11, a12, a13, a14⟩, e, p⟩ := h
  rw [e]
  exact hf a0 a1 a2 a3 a4 a5 a6 a7 a8 a9 a10 a11 a12 a13 a14 p
theorem tt_bd16 {t0 t1 t2 t3 t4 t5 t6 t7 t8 t9 t10 t11 t12 t13 t14 t15 β : Type} {x : Option (t0 × t1 × t2 × t3 × t4 × t5 × t6 × t7 × t8 × t9 × t10 × t11 × t12 × t13 × t14 × t15)} {f : t0 → t1 → t2 → t3 → t4 → t5 → t6 → t7 → t8 → t9 → t10 → t11 → t12 → t13 → t14 → t15 → Option β} {P : t0 × t1 × t2 × t3 × t4 × t5 × t6 × t7 × t8 × t9 × t10 × t11 × t12 × t13 × t14 × t15 → Prop} {Q : β → Prop} (h : Tt x P) (hf : ∀ (a0 : t0) (a1 : t1) (a2 : t2) (a3 : t3) (a4 : t4) (a5 : t5) (a6 : t6) (a7 : t7) (a8 : t8) (a9 : t9) (a10 : t10) (a11 : t11) (a12 : t12) (a13 : t13) (a14 : t14) (a15 : t15), P (a0, a1, a2, a3, a4, a5, a6, a7, a8, a9, a10, a11, a12, a13, a14, a15) → Tt (f a0 a1 a2 a3 a4 a5 a6 a7 a8 a9 a10 a11 a12 a13 a14 a15) Q) : Tt (bd16 x f) Q := by
  obtain ⟨⟨a0, a1, a2, a3, a4, a5, a6, a7, a8, a9, a10, a11, a12, a13, a14, a15⟩, e, p⟩ := h
  rw [e]
  exact hf a0 a1 a2 a3 a4 a5 a6 a7 a8 a9 a10 a11 a12 a13 a14 a15 p
theorem tt_bd17 {t0 t1 t2 t3 t4 t5 t6 t7 t8 t9 t10 t11 t12 t13 t14 t15 t16 β : Type} {x : Option (t0 × t1 × t2 × t3 × t4 × t5 × t6 × t7 × t8 × t9 × t10 × t11 × t12 × t13 × t14 × t15 × t16)} {f : t0 → t1 → t2 → t3 → t4 → t5 → t6 → t7 → t8 → t9 → t10 → t11 → t12 → t13 → t14 → t15 → t16 → Option β} {P : t0 × t1 × t2 × t3 × t4 × t5 × t6 × t7 × t8 × t9 × t10 × t11 × t12 × t13 × t14 × t15 × t16 → Prop} {Q : β → Prop} (h : Tt x P) (hf : ∀ (a0 : t0) (a1 : t1) (a2 : t2) (a3 : t3) (a4 : t4) (a5 : t5) (a6 : t6) (a7 : t7) (a8 : t8) (a9 : t9) (a10 : t10) (a11 : t11) (a12 : t12) (a13 : t13) (a14 : t14) (a15 : t15) (a16 : t16), P (a0, a1, a2, a3, a4, a5, a6, a7, a8, a9, a10, a11, a12, a13, a14, a15, a16) → Tt (f a0 a1 a2 a3 a4 a5 a6 a7 a8 a9 a10 a11 a12 a13 a14 a15 a16) Q) : Tt (bd17 x f) Q := by
  obtain ⟨⟨a0, a1, a2, a3, a4, a5, a6, a7, a8, a9, a10, a11, a12, a13, a14, a15, a16⟩, e, p⟩ := h
  rw [e]
  exact hf a0 a1 a2 a3 a4 a5 a6 a7 a8 a9 a10 a11 a12 a13 a14 a15 a16 p
theorem tt_bd18 {t0 t1 t2 t3 t4 t5 t6 t7 t8 t9 t10 t11 t12 t13 t14 t15 t16 t17 β : Type} {x : Option (t0 × t1 × t2 × t3 × t4 × t5 × t6 × t7 × t8 × t9 × t10 × t11 × t12 × t13 × t14 × t15 × t16 × t17)} {f : t0 → t1 → t2 → t3 → t4 → t5 → t6 → t7 → t8 → t9 → t10 → t11 → t12 → t13 → t14 → t15 → t16 → t17 → Option β} {P : t0 × t1 × t2 × t3 × t4 × t5 × t6 × t7 × t8 × t9 × t10 × t11 × t12 × t13 × t14 × t15 × t16 × t17 → Prop} {Q : β → Prop} (h : Tt x P) (hf : ∀ (a0 : t0) (a1 : t1) (a2 : t2) (a3 : t3) (a4 : t4) (a5 : t5) (a6 : t6) (a7 : t7) (a8 : t8) (a9 : t9) (a10 : t10) (a11 : t11) (a12 : t12) (a13 : t13) (a14 : t14) (a15 : t15) (a16 : t16) (a17 : t17), P (a0, a1, a2, a3, a4, a5, a6, a7, a8, a9, a10, a11, a12, a13, a14, a15, a16, a17) → Tt (f a0 a1 a2 a3 a4 a5 a6 a7 a8 a9 a10 a11 a12 a13 a14 a15 a16 a17) Q) : Tt (bd18 x f) Q := by
  obtain ⟨⟨a0, a1, a2, a3, a4, a5, a6, a7, a8, a9, a10, a11, a12, a13, a14, a15, a16, a17⟩, e, p⟩ := h
  rw [e]
  exact hf a0 a1 a2 a3 a4 a5 a6 a7 a8 a9 a10 a11 a12 a13 a14 a15 a16 a17 p
theorem tt_bd19 {t0 t1 t2 t3 t4 t5 t6 t7 t8 t9 t10 t11 t12 t13 t14 t15 t16 t17 t18 β : Type} {x : Option (t0 × t1 × t2 × t3 × t4 × t5 × t6 × t7 × t8 × t9 × t10 × t11 × t12 × t13 × t14 × t15 × t16 × t17 × t18)} {f : t0 → t1 → t2 → t3 → t4 → t5 → t6 → t7 → t8 → t9 → t10 → t11 → t12 → t13 → t14 → t15 → t16 → t17 → t18 → Option β} {P : t0 × t1 × t2 × t3 × t4 × t5 × t6 × t7 × t8 × t9 × t10 × t11 × t12 × t13 × t14 × t15 × t16 × t17 × t18 → Prop} {Q : β → Prop} (h : Tt x P) (hf : ∀ (a0 : t0) (a1 : t1) (a2 : t2) (a3 : t3) (a4 : t4) (a5 : t5) (a6 : t6) (a7 : t7) (a8 : t8) (a9 : t9) (a10 : t10) (a11 : t11) (a12 : t12) (a13 : t13) (a14 : t14) (a15 : t15) (a16 : t16) (a17 : t17) (a18 : t18), P (a0, a1, a2, a3, a4, a5, a6, a7, a8, a9, a10, a11, a12, a13, a14, a15, a16, a17, a18) → Tt (f a0 a1 a2 a3 a4 a5 a6 a7 a8 a9 a10 a11 a12 a13 a14 a15 a16 a17 a18) Q) : Tt (bd19 x f) Q := by
  obtain ⟨⟨a0, a1, a2, a3, a4, a5, a6, a7, a8, a9, a10, a11, a12, a13, a14, a15, a16, a17, a18⟩, e, p⟩ := h
  rw [e]
  exact hf a0 a1 a2 a3 a4 a5 a6 a7 a8 a9 a10 a11 a12 a13 a14 a15 a16 a17 a18 p
def Nx {σ ρ : Type} (I : Nat → σ → Prop) (R : ρ → Prop) (n j : Nat) : σ ⊕ ρ → Prop
  | .inl u => j < n ∧ I (j + 1) u
  | .inr r => R r
theorem nx_l {σ ρ : Type} {I : Nat → σ → Prop} {R : ρ → Prop} {n j : Nat} {u : σ} (h1 : j < n) (h2 : I (j + 1) u) : Nx I R n j (.inl u) := ⟨h1, h2⟩
theorem nx_r {σ ρ : Type} {I : Nat → σ → Prop} {R : ρ → Prop} {n j : Nat} {r : ρ} (h : R r) : Nx I R n j (.inr r) := h
theorem tt_forA {σ ρ : Type} {b : σ → Option (σ ⊕ ρ)} {R : ρ → Prop} (I : Nat → σ → Prop) {n : Nat} (h : ∀ j u, j ≤ n → I j u → Tt (b u) (Nx I R n j)) : ∀ (K j : Nat) (u : σ), j ≤ n → n - j < K → I j u → Tt (lpF b K u) R := by
  intro K
  induction K with
  | zero => intro j u h0 h1; omega
  | succ K ih =>
    intro j u h0 h1 h2
    obtain ⟨x, e, p⟩ := h j u h0 h2
    cases x with
    | inl u' =>
      rw [lp_one e]
      have p1 : j < n := p.1
      exact ih (j + 1) u' (by omega) (by omega) p.2
    | inr r =>
      rw [lp_end e]
      exact ⟨r, rfl, p⟩
/-- a loop that counts -/
theorem tt_for {σ ρ : Type} {b : σ → Option (σ ⊕ ρ)} {R : ρ → Prop} (I : Nat → σ → Prop) (n : Nat) {K : Nat} {u : σ} (hK : n < K) (h0 : I 0 u) (h : ∀ j u, j ≤ n → I j u → Tt (b u) (Nx I R n j)) : Tt (lpF b K u) R := tt_forA I h K 0 u (Nat.zero_le _) (by omega) h0
/-- a number of sites -/
def Rw (x : Int32) : Prop := ∃ k, k ≤ 8 ∧ x = nI k
theorem rw_lt {f3 r x : Int32} {j : Nat} (h : Rw f3) (hr : r = f3) (hx : x = nI j) (hj : j ≤ 8) (q : ¬ r ≤ x) : j < 8 := by
  obtain ⟨k, hk, e⟩ := h
  rw [hr, e, hx] at q
  have := mt (nI_leI (a := k) (b := j) (by omega) (by omega)).mpr q
  omega
theorem nx1 {x : Int32} {j : Nat} (hx : x = nI j) : x + 1 = nI (j + 1) := by rw [hx, nI_1]
theorem nnI {p : Int32} {n : Nat} (hn : n < 2 ^ 31) (h1 : ¬ p < 0) (h2 : ¬ nI n ≤ p) : ∃ a, a < n ∧ p = nI a := by
  have z : (0 : Int32).toInt = 0 := rfl
  have h0 : 0 ≤ p.toInt := by
    have := mt Int32.lt_iff_toInt_lt.mpr h1
    omega
  have e : p = nI p.toNatClampNeg := by
    apply Int32.toInt_inj.mp
    rw [nI_toInt (by have := Int32.toInt_lt p; unfold Int32.toNatClampNeg; omega)]
    unfold Int32.toNatClampNeg
    omega
  refine ⟨p.toNatClampNeg, ?_, e⟩
  have hb : p.toNatClampNeg < 2 ^ 31 := by have := Int32.toInt_lt p; unfold Int32.toNatClampNeg; omega
  rw [e] at h2
  have := mt (nI_leI (a := n) (b := p.toNatClampNeg) hn hb).mpr h2
  omega
end
