/-! a clause in the reference, and what a good clause says -/
theorem xb10 {t0 t1 t2 t3 t4 t5 t6 t7 t8 t9 β : Type} {a0 : t0} {a1 : t1} {a2 : t2} {a3 : t3} {a4 : t4} {a5 : t5} {a6 : t6} {a7 : t7} {a8 : t8} {a9 : t9} {f : t0 → t1 → t2 → t3 → t4 → t5 → t6 → t7 → t8 → t9 → Option β} : bd10 (some (a0, a1, a2, a3, a4, a5, a6, a7, a8, a9)) f = f a0 a1 a2 a3 a4 a5 a6 a7 a8 a9 := rfl
theorem xb11 {t0 t1 t2 t3 t4 t5 t6 t7 t8 t9 t10 β : Type} {a0 : t0} {a1 : t1} {a2 : t2} {a3 : t3} {a4 : t4} {a5 : t5} {a6 : t6} {a7 : t7} {a8 : t8} {a9 : t9} {a10 : t10} {f : t0 → t1 → t2 → t3 → t4 → t5 → t6 → t7 → t8 → t9 → t10 → Option β} : bd11 (some (a0, a1, a2, a3, a4, a5, a6, a7, a8, a9, a10)) f = f a0 a1 a2 a3 a4 a5 a6 a7 a8 a9 a10 := rfl
theorem xb12 {t0 t1 t2 t3 t4 t5 t6 t7 t8 t9 t10 t11 β : Type} {a0 : t0} {a1 : t1} {a2 : t2} {a3 : t3} {a4 : t4} {a5 : t5} {a6 : t6} {a7 : t7} {a8 : t8} {a9 : t9} {a10 : t10} {a11 : t11} {f : t0 → t1 → t2 → t3 → t4 → t5 → t6 → t7 → t8 → t9 → t10 → t11 → Option β} : bd12 (some (a0, a1, a2, a3, a4, a5, a6, a7, a8, a9, a10, a11)) f = f a0 a1 a2 a3 a4 a5 a6 a7 a8 a9 a10 a11 := rfl
theorem bit_m3 : ∀ g, g < 16 → nI g ||| (1 <<< ((3 : Int32) &&& 31)) = nI (g ||| 8) ∧ (g ||| 8) < 16 ∧ (g ||| 8) % 8 = g % 8 := by decide +kernel
theorem bit_mS : ∀ g, g < 16 → ∀ k, k < 3 → (g ||| (1 <<< k)) < 16 ∧ (g ||| (1 <<< k)) % 8 = mS (g % 8) k := by decide +kernel
theorem bit_mL : ∀ m, m < 8 → ∀ k, k < 4 → mS m k < 8 := by decide +kernel
theorem m_has {g k : Nat} (hg : g < 16) (hk : k < 3) : F_X8_has (nI g) (nI k) = some (if (g % 8).testBit k = true then 1 else 0) := by
  unfold F_X8_has
  have b := (bit_m g hg k hk).1
  by_cases t : (g % 8).testBit k = true
  · rw [if_pos (b.mpr t), if_pos t]
  · rw [if_neg (fun y => t (b.mp y)), if_neg t]
theorem m_clause {K n b g s : Nat} {sg tape rp : Nat → Int32} {at' pa fr pn la bo go : Int32} {pw : Int64} (h : Sg n sg) (hb : TpM n sg tape) (hK : 400 ≤ K) (hbn : b ≤ n) (hg : g < 16) (hs : s ≤ 8) (hl : LA n sg b at' pa fr pn pw) : ∃ g' a2 p2 f2 n2 wr w2 la' bo' go' s' rp', F_X8_clause K (nI g) tape (nI n) at' pa fr pn (-1) pw la bo go (nI s) rp = some (g', a2, p2, f2, n2, wr, w2, la', bo', go', s', rp') ∧ (∀ p, clS n sg b (g % 8) s = .inl p → wr = nI p) ∧ (∀ e k v1 v2, clS n sg b (g % 8) s = .inr (e, k, v1, v2) → wr = -1 ∧ LA n sg (skp n sg e) a2 p2 f2 n2 w2 ∧ (∃ g2, g2 < 16 ∧ g' = nI g2 ∧ g2 % 8 = mS (g % 8) k) ∧ s' = nI (sS s k) ∧ la' = (if k = 0 then v1 else la) ∧ bo' = (if k = 1 then v1 else bo) ∧ go' = (if k = 2 then v1 else go) ∧ rp' = plS rp s k v1 v2) := by
  have h1 := h.1
  obtain ⟨e1, e2, e3, e4, e5⟩ := id hl
  have h3 := wE_le h hbn
  have h4 := skp_le h h3
  have adv : (97 ≤ sg b ∧ sg b ≤ 122) → ∃ a2 p2 f2 n2 w2, F_X8_next K tape (nI n) at' pa fr pn pw = some (a2, p2, f2, n2, w2) ∧ LA n sg (skp n sg (wE n sg b)) a2 p2 f2 n2 w2 := fun q => by
    obtain ⟨a2, p2, f2, n2, w2, x1, x2⟩ := m_adv h hb hK hbn hl
    rw [te_w q] at x2
    exact ⟨a2, p2, f2, n2, w2, x1, x2⟩
  have bad : ∀ k0 : Int32, F_X8_bad fr (-1) = some (nI b) := fun _ => by rw [m_bad, if_pos rfl, e3]
  have c1 : (12343 : Int64) = cdF 1 := by decide
  have c2 : (2610628 : Int64) = cdF 2 := by decide
  have c3 : (244780 : Int64) = cdF 3 := by decide
  have c0 : (632453 : Int64) = cdF 0 := by decide
  unfold F_X8_clause
  rw [c1, c2, c3, c0, m_isX h hbn (by decide) hl, xb1, m_isX h hbn (by decide) hl, xb1, m_isX h hbn (by decide) hl, xb1, m_isX h hbn (by decide) hl, xb1]
  unfold clS
  by_cases z1 : wd n sg 1 b = true
  · have z0 : ¬ wd n sg 0 b = true := fun z => absurd (wd_excl h hbn (by decide) (by decide) z z1) (by decide)
    rw [if_pos z1, if_neg (by decide), if_neg z0, if_pos z1]
    unfold J_X8_clause_57
    rw [if_neg (by decide), if_neg (by decide), show F_X8_has (nI g) (0 : Int32) = _ from m_has (k := 0) hg (by decide), xb1]
    by_cases t : (g % 8).testBit 0 = true
    · rw [if_pos t, if_neg (by decide), bad 0, xb1, if_pos t]
      refine ⟨_, _, _, _, _, _, _, _, _, _, _, _, rfl, fun p e => ?_, fun e k v1 v2 hq => by cases hq⟩
      cases e
      rfl
    · rw [if_neg t, if_pos (by decide), if_neg t]
      unfold J_X8_clause_76
      rw [if_neg (by decide)]
      unfold J_X8_clause_96
      obtain ⟨a2, p2, f2, n2, w2, x1, x2⟩ := adv (wd_letter h hbn (by decide) z1)
      rw [x1, xb5, if_pos (by decide)]
      by_cases y : lw n sg (skp n sg (wE n sg b)) = -1
      · rw [(m_lawWord h hb hK h4 x2).1 y, xb7, if_pos y]
        refine ⟨_, _, _, _, _, _, _, _, _, _, _, _, rfl, fun p e => ?_, fun e k v1 v2 hq => by cases hq⟩
        cases e
        rfl
      · obtain ⟨a3, p3, f3, n3, w3, E, L⟩ := (m_lawWord h hb hK h4 x2).2 y
        rw [E, xb7, if_neg y]
        refine ⟨_, _, _, _, _, _, _, _, _, _, _, _, rfl, fun p e => (by cases e), fun e k v1 v2 hq => ?_⟩
        cases hq
        exact ⟨rfl, L, ⟨_, (bit_mS g hg 0 (by decide)).1, (bit_m g hg 0 (by decide)).2, (bit_mS g hg 0 (by decide)).2⟩, rfl, rfl, rfl, rfl, rfl⟩
  · rw [if_neg z1, if_pos rfl]
    by_cases z2 : wd n sg 2 b = true
    · have z0 : ¬ wd n sg 0 b = true := fun z => absurd (wd_excl h hbn (by decide) (by decide) z z2) (by decide)
      rw [if_pos z2, if_neg (by decide), if_neg z0, if_neg z1, if_pos z2]
      unfold J_X8_clause_57
      rw [if_neg (by decide), if_neg (by decide), show F_X8_has (nI g) (1 : Int32) = _ from m_has (k := 1) hg (by decide), xb1]
      by_cases t : (g % 8).testBit 1 = true
      · rw [if_pos t, if_neg (by decide), bad 0, xb1, if_pos t]
        refine ⟨_, _, _, _, _, _, _, _, _, _, _, _, rfl, fun p e => ?_, fun e k v1 v2 hq => by cases hq⟩
        cases e
        rfl
      · rw [if_neg t, if_pos rfl, if_neg t]
        unfold J_X8_clause_76
        rw [if_neg (by decide)]
        unfold J_X8_clause_96
        obtain ⟨a2, p2, f2, n2, w2, x1, x2⟩ := adv (wd_letter h hbn (by decide) z2)
        rw [x1, xb5, if_neg (by decide), if_pos (by decide)]
        by_cases y : okN n sg (-9999999) 9999999 (skp n sg (wE n sg b))
        · obtain ⟨a3, p3, f3, n3, w3, E, L⟩ := (m_number h hb hK h4 x2).2 y
          rw [E, xb7, if_pos y]
          refine ⟨_, _, _, _, _, _, _, _, _, _, _, _, rfl, fun p e => (by cases e), fun e k v1 v2 hq => ?_⟩
          cases hq
          exact ⟨rfl, L, ⟨_, (bit_mS g hg 1 (by decide)).1, (bit_m g hg 1 (by decide)).2, (bit_mS g hg 1 (by decide)).2⟩, rfl, rfl, rfl, rfl, rfl⟩
        · rw [(m_number h hb hK h4 x2).1 y, xb7, if_neg y]
          refine ⟨_, _, _, _, _, _, _, _, _, _, _, _, rfl, fun p e => ?_, fun e k v1 v2 hq => by cases hq⟩
          cases e
          rfl
    · rw [if_neg z2, if_pos rfl]
      by_cases z3 : wd n sg 3 b = true
      · have z0 : ¬ wd n sg 0 b = true := fun z => absurd (wd_excl h hbn (by decide) (by decide) z z3) (by decide)
        rw [if_pos z3, if_neg (by decide), if_neg z0, if_neg z1, if_neg z2, if_pos z3]
        unfold J_X8_clause_57
        rw [if_neg (by decide), if_neg (by decide), show F_X8_has (nI g) (2 : Int32) = _ from m_has (k := 2) hg (by decide), xb1]
        by_cases t : (g % 8).testBit 2 = true
        · rw [if_pos t, if_neg (by decide), bad 0, xb1, if_pos t]
          refine ⟨_, _, _, _, _, _, _, _, _, _, _, _, rfl, fun p e => ?_, fun e k v1 v2 hq => by cases hq⟩
          cases e
          rfl
        · rw [if_neg t, if_pos rfl, if_neg t]
          unfold J_X8_clause_76
          rw [if_neg (by decide)]
          unfold J_X8_clause_96
          obtain ⟨a2, p2, f2, n2, w2, x1, x2⟩ := adv (wd_letter h hbn (by decide) z3)
          rw [x1, xb5, if_neg (by decide), if_neg (by decide), if_pos (by decide)]
          by_cases y : okN n sg 1 9999 (skp n sg (wE n sg b))
          · obtain ⟨a3, p3, f3, n3, w3, E, L⟩ := (m_number h hb hK h4 x2).2 y
            rw [E, xb7, if_pos y]
            refine ⟨_, _, _, _, _, _, _, _, _, _, _, _, rfl, fun p e => (by cases e), fun e k v1 v2 hq => ?_⟩
            cases hq
            exact ⟨rfl, L, ⟨_, (bit_mS g hg 2 (by decide)).1, (bit_m g hg 2 (by decide)).2, (bit_mS g hg 2 (by decide)).2⟩, rfl, rfl, rfl, rfl, rfl⟩
          · rw [(m_number h hb hK h4 x2).1 y, xb7, if_neg y]
            refine ⟨_, _, _, _, _, _, _, _, _, _, _, _, rfl, fun p e => ?_, fun e k v1 v2 hq => by cases hq⟩
            cases e
            rfl
      · rw [if_neg z3, if_pos rfl]
        by_cases z0 : wd n sg 0 b = true
        · rw [if_pos z0, if_neg (by decide), if_pos z0]
          unfold J_X8_clause_57
          rw [if_neg (by decide), if_pos (by decide)]
          unfold J_X8_clause_76
          rw [if_pos rfl, x8, xeq (by omega) (by decide)]
          by_cases hs8 : 8 ≤ s
          · rw [if_pos (by omega), bad 0, xb1, if_pos hs8]
            refine ⟨_, _, _, _, _, _, _, _, _, _, _, _, rfl, fun p e => ?_, fun e k v1 v2 hq => by cases hq⟩
            cases e
            rfl
          · rw [if_neg (by omega), if_neg hs8]
            unfold J_X8_clause_96
            obtain ⟨a2, p2, f2, n2, w2, x1, x2⟩ := adv (wd_letter h hbn (by decide) z0)
            rw [x1, xb5, if_neg (by decide), if_neg (by decide), if_neg (by decide)]
            obtain ⟨a3, p3, f3, n3, wr, w3, rp2, E, A, B⟩ := m_readSite (rp := rp) (s := s) h hb hK h4 (by omega) x2
            rw [E, xb8]
            refine ⟨_, _, _, _, _, _, _, _, _, _, _, _, rfl, fun p e => ?_, fun e k v1 v2 hq => ?_⟩
            · cases hsi : siS n sg (skp n sg (wE n sg b)) with
              | inl p' => rw [hsi] at e; cases e; exact A _ hsi
              | inr x => obtain ⟨e1, v1, v2⟩ := x; rw [hsi] at e; cases e
            · cases hsi : siS n sg (skp n sg (wE n sg b)) with
              | inl p' => rw [hsi] at hq; cases hq
              | inr x =>
                obtain ⟨e1, u1, u2⟩ := x
                rw [hsi] at hq
                cases hq
                obtain ⟨c1, c2, c3⟩ := B _ _ _ hsi
                have bm := bit_m3 g hg
                exact ⟨c1, c2, ⟨_, bm.2.1, bm.1, bm.2.2⟩, rfl, rfl, rfl, rfl, c3⟩
        · rw [if_neg z0, if_pos rfl, if_neg z0, if_neg z1, if_neg z2, if_neg z3]
          unfold J_X8_clause_57
          rw [if_pos rfl, bad 0, xb1]
          refine ⟨_, _, _, _, _, _, _, _, _, _, _, _, rfl, fun p e => ?_, fun e k v1 v2 hq => by cases hq⟩
          cases e
          rfl
/-- what a good clause has -/
theorem siS_ok {n b e : Nat} {sg : Nat → Int32} {v1 v2 : Int32} (h : Sg n sg) (hbn : b ≤ n) (q : siS n sg b = .inr (e, v1, v2)) : b ≤ e ∧ e ≤ n ∧ (-999 ≤ v1 ∧ v1 ≤ 999) ∧ (-999 ≤ v2 ∧ v2 ≤ 999) := by
  unfold siS at q
  by_cases q1 : okN n sg (-999) 999 b
  · rw [if_pos q1] at q
    have h3 := dE_le h hbn
    have h3' := dE_ge h hbn
    have h3'' := d0_ge (b := b) (sg := sg)
    have h4 := skp_le h h3
    have h4' := skp_ge h h3
    by_cases q2 : sg (skp n sg (dE n sg b)) = 44
    · rw [if_pos q2] at q
      have h5 := sg44_lt h (by decide) q2
      have h6 := skp_le h (show skp n sg (dE n sg b) + 1 ≤ n by omega)
      have h6' := skp_ge h (show skp n sg (dE n sg b) + 1 ≤ n by omega)
      by_cases q3 : okN n sg (-999) 999 (skp n sg (skp n sg (dE n sg b) + 1))
      · rw [if_pos q3] at q
        have h7 := dE_le h h6
        have h7' := dE_ge h h6
        have h7'' := d0_ge (b := skp n sg (skp n sg (dE n sg b) + 1)) (sg := sg)
        cases q
        exact ⟨by omega, h7, q1.2.2, q3.2.2⟩
      · rw [if_neg q3] at q; cases q
    · rw [if_neg q2] at q; cases q
  · rw [if_neg q1] at q; cases q
theorem lw_rng {n b : Nat} {sg : Nat → Int32} (q : ¬ lw n sg b = -1) : 0 ≤ lw n sg b ∧ lw n sg b ≤ 3 := by
  unfold lw at q ⊢
  by_cases z4 : wd n sg 4 b = true
  · rw [if_pos z4]; decide
  · rw [if_neg z4] at q ⊢
    by_cases z5 : wd n sg 5 b = true
    · rw [if_pos z5]; decide
    · rw [if_neg z5] at q ⊢
      by_cases z6 : wd n sg 6 b = true
      · rw [if_pos z6]; decide
      · rw [if_neg z6] at q ⊢
        by_cases z7 : wd n sg 7 b = true
        · rw [if_pos z7]; decide
        · rw [if_neg z7] at q
          exact absurd rfl q
theorem clS_ok {n b m s e k : Nat} {sg : Nat → Int32} {v1 v2 : Int32} (h : Sg n sg) (hbn : b ≤ n) (q : clS n sg b m s = .inr (e, k, v1, v2)) : b < e ∧ e ≤ n ∧ k < 4 ∧ (k = 3 → s < 8) ∧ (k = 0 → 0 ≤ v1 ∧ v1 ≤ 3) ∧ (k = 1 → -9999999 ≤ v1 ∧ v1 ≤ 9999999) ∧ (k = 2 → 1 ≤ v1 ∧ v1 ≤ 9999) ∧ (k = 3 → (-999 ≤ v1 ∧ v1 ≤ 999) ∧ (-999 ≤ v2 ∧ v2 ≤ 999)) := by
  have h3 := wE_le h hbn
  have h3' := wE_ge h hbn
  have h4 := skp_le h h3
  have h4' := skp_ge h h3
  have lt : ∀ i, i < 12 → wd n sg i b = true → b < wE n sg b := fun i hi z => (wE_lt h hbn).mpr (wd_letter h hbn hi z)
  unfold clS at q
  by_cases z0 : wd n sg 0 b = true
  · have l0 := lt 0 (by decide) z0
    rw [if_pos z0] at q
    by_cases hs8 : 8 ≤ s
    · rw [if_pos hs8] at q; cases q
    · rw [if_neg hs8] at q
      cases hsi : siS n sg (skp n sg (wE n sg b)) with
      | inl p' => rw [hsi] at q; cases q
      | inr x =>
        obtain ⟨e1, u1, u2⟩ := x
        rw [hsi] at q
        cases q
        obtain ⟨c1, c2, c3, c4⟩ := siS_ok h h4 hsi
        exact ⟨by omega, c2, by decide, fun _ => by omega, fun y => (by cases y), fun y => (by cases y), fun y => (by cases y), fun _ => ⟨c3, c4⟩⟩
  · rw [if_neg z0] at q
    by_cases z1 : wd n sg 1 b = true
    · have l0 := lt 1 (by decide) z1
      rw [if_pos z1] at q
      by_cases t : m.testBit 0 = true
      · rw [if_pos t] at q; cases q
      · rw [if_neg t] at q
        by_cases y : lw n sg (skp n sg (wE n sg b)) = -1
        · rw [if_pos y] at q; cases q
        · rw [if_neg y] at q
          cases q
          have h5 := wE_le h h4
          have h5' := wE_ge h h4
          exact ⟨by omega, h5, by decide, fun y => (by cases y), fun _ => lw_rng y, fun y => (by cases y), fun y => (by cases y), fun y => by cases y⟩
    · rw [if_neg z1] at q
      by_cases z2 : wd n sg 2 b = true
      · have l0 := lt 2 (by decide) z2
        rw [if_pos z2] at q
        by_cases t : m.testBit 1 = true
        · rw [if_pos t] at q; cases q
        · rw [if_neg t] at q
          by_cases y : okN n sg (-9999999) 9999999 (skp n sg (wE n sg b))
          · rw [if_pos y] at q
            cases q
            have h5 := dE_le h h4
            have h5' := dE_ge h h4
            have h5'' := d0_ge (b := skp n sg (wE n sg b)) (sg := sg)
            exact ⟨by omega, h5, by decide, fun y => (by cases y), fun y => (by cases y), fun _ => y.2.2, fun y => (by cases y), fun y => by cases y⟩
          · rw [if_neg y] at q; cases q
      · rw [if_neg z2] at q
        by_cases z3 : wd n sg 3 b = true
        · have l0 := lt 3 (by decide) z3
          rw [if_pos z3] at q
          by_cases t : m.testBit 2 = true
          · rw [if_pos t] at q; cases q
          · rw [if_neg t] at q
            by_cases y : okN n sg 1 9999 (skp n sg (wE n sg b))
            · rw [if_pos y] at q
              cases q
              have h5 := dE_le h h4
              have h5' := dE_ge h h4
              have h5'' := d0_ge (b := skp n sg (wE n sg b)) (sg := sg)
              exact ⟨by omega, h5, by decide, fun y => (by cases y), fun y => (by cases y), fun y => (by cases y), fun _ => y.2.2, fun y => by cases y⟩
            · rw [if_neg y] at q; cases q
        · rw [if_neg z3] at q; cases q
theorem siS_fail {n b p : Nat} {sg : Nat → Int32} (h : Sg n sg) (hbn : b ≤ n) (q : siS n sg b = .inl p) : p ≤ n := by
  unfold siS at q
  by_cases q1 : okN n sg (-999) 999 b
  · rw [if_pos q1] at q
    have h3 := dE_le h hbn
    have h4 := skp_le h h3
    by_cases q2 : sg (skp n sg (dE n sg b)) = 44
    · rw [if_pos q2] at q
      have h5 := sg44_lt h (by decide) q2
      have h6 := skp_le h (show skp n sg (dE n sg b) + 1 ≤ n by omega)
      by_cases q3 : okN n sg (-999) 999 (skp n sg (skp n sg (dE n sg b) + 1))
      · rw [if_pos q3] at q; cases q
      · rw [if_neg q3] at q; cases q; exact h6
    · rw [if_neg q2] at q; cases q; exact h4
  · rw [if_neg q1] at q; cases q; exact hbn
theorem clS_fail {n b m s p : Nat} {sg : Nat → Int32} (h : Sg n sg) (hbn : b ≤ n) (q : clS n sg b m s = .inl p) : p ≤ n := by
  have h3 := wE_le h hbn
  have h4 := skp_le h h3
  unfold clS at q
  by_cases z0 : wd n sg 0 b = true
  · rw [if_pos z0] at q
    by_cases hs8 : 8 ≤ s
    · rw [if_pos hs8] at q; cases q; exact hbn
    · rw [if_neg hs8] at q
      cases hsi : siS n sg (skp n sg (wE n sg b)) with
      | inl p' => rw [hsi] at q; cases q; exact siS_fail h h4 hsi
      | inr x => obtain ⟨e1, u1, u2⟩ := x; rw [hsi] at q; cases q
  · rw [if_neg z0] at q
    by_cases z1 : wd n sg 1 b = true
    · rw [if_pos z1] at q
      by_cases t : m.testBit 0 = true
      · rw [if_pos t] at q; cases q; exact hbn
      · rw [if_neg t] at q
        by_cases y : lw n sg (skp n sg (wE n sg b)) = -1
        · rw [if_pos y] at q; cases q; exact h4
        · rw [if_neg y] at q; cases q
    · rw [if_neg z1] at q
      by_cases z2 : wd n sg 2 b = true
      · rw [if_pos z2] at q
        by_cases t : m.testBit 1 = true
        · rw [if_pos t] at q; cases q; exact hbn
        · rw [if_neg t] at q
          by_cases y : okN n sg (-9999999) 9999999 (skp n sg (wE n sg b))
          · rw [if_pos y] at q; cases q
          · rw [if_neg y] at q; cases q; exact h4
      · rw [if_neg z2] at q
        by_cases z3 : wd n sg 3 b = true
        · rw [if_pos z3] at q
          by_cases t : m.testBit 2 = true
          · rw [if_pos t] at q; cases q; exact hbn
          · rw [if_neg t] at q
            by_cases y : okN n sg 1 9999 (skp n sg (wE n sg b))
            · rw [if_pos y] at q; cases q
            · rw [if_neg y] at q; cases q; exact h4
        · rw [if_neg z3] at q; cases q; exact hbn
