/-! a clause in both readers -/
theorem nI_ne_m1 {p : Nat} (h : p < 2 ^ 31) : ¬ nI p = -1 := fun q => by
  have e := congrArg Int32.toInt q
  rw [nI_toInt h, show (-1 : Int32).toInt = -1 by decide] at e
  omega
theorem m_readSite {K n b s : Nat} {sg tape rp : Nat → Int32} {at' pa fr pn : Int32} {pw : Int64} (h : Sg n sg) (hb : TpM n sg tape) (hK : 400 ≤ K) (hbn : b ≤ n) (hs : s < 8) (hl : LA n sg b at' pa fr pn pw) : ∃ a2 p2 f2 n2 wr w2 rp2, F_X8_readSite K tape (nI n) at' pa fr pn (-1) pw (nI s) rp = some (a2, p2, f2, n2, wr, w2, nI (s + 1), rp2) ∧ (∀ p, siS n sg b = .inl p → wr = nI p) ∧ (∀ e v1 v2, siS n sg b = .inr (e, v1, v2) → wr = -1 ∧ LA n sg (skp n sg e) a2 p2 f2 n2 w2 ∧ rp2 = upd (upd rp (2 * s) v1) (2 * s + 1) v2) := by
  have h1 := h.1
  have i0 : (2 : Int32) * nI s = nI (2 * s) := by rw [x2c, nI_mulc]
  unfold F_X8_readSite
  rw [i0, nI_1, nI_clamp (by omega), nI_clamp (by omega), nI_1]
  unfold siS
  by_cases q1 : okN n sg (-999) 999 b
  · obtain ⟨a2, p2, f2, n2, w2, E1, L1⟩ := (m_number (lo := -999) (hi := 999) h hb hK hbn hl).2 q1
    rw [E1, xb7, xixn (by omega) (by decide), xnm, if_pos q1]
    have h3 := dE_le h hbn
    have h4 := skp_le h h3
    by_cases q2 : sg (skp n sg (dE n sg b)) = 44
    · obtain ⟨a3, p3, f3, n3, w3, E2, L2⟩ := (m_comma h hb hK h4 L1).2 q2
      have h5 := sg44_lt h (by decide) q2
      have h6 := skp_le h (show skp n sg (dE n sg b) + 1 ≤ n by omega)
      rw [E2, xb6, if_pos q2]
      by_cases q3 : okN n sg (-999) 999 (skp n sg (skp n sg (dE n sg b) + 1))
      · obtain ⟨a4, p4, f4, n4, w4, E3, L3⟩ := (m_number (lo := -999) (hi := 999) h hb hK h6 L2).2 q3
        rw [E3, xb7, xixn (by omega) (by decide), xnm, if_pos q3]
        refine ⟨_, _, _, _, _, _, _, rfl, fun p e => (by cases e), fun e v1 v2 hq => ?_⟩
        cases hq
        exact ⟨rfl, L3, rfl⟩
      · rw [(m_number (lo := -999) (hi := 999) h hb hK h6 L2).1 q3, xb7, xixn (by omega) (by decide), xnm, if_neg q3]
        refine ⟨_, _, _, _, _, _, _, rfl, fun p e => ?_, fun e v1 v2 hq => by cases hq⟩
        cases e
        rfl
    · rw [(m_comma h hb hK h4 L1).1 q2, xb6, m_numberW (nI_ne_m1 (by omega)), xb7, xixn (by omega) (by decide), xnm, if_neg q2]
      refine ⟨_, _, _, _, _, _, _, rfl, fun p e => ?_, fun e v1 v2 hq => by cases hq⟩
      cases e
      rfl
  · rw [(m_number (lo := -999) (hi := 999) h hb hK hbn hl).1 q1, xb7, xixn (by omega) (by decide), xnm, m_commaW (nI_ne_m1 (by omega)), xb6, m_numberW (nI_ne_m1 (by omega)), xb7, xixn (by omega) (by decide), xnm, if_neg q1]
    refine ⟨_, _, _, _, _, _, _, rfl, fun p e => ?_, fun e v1 v2 hq => by cases hq⟩
    cases e
    rfl
/-- a clause at b, with the rules m seen and s sites: where it fails, or its end, its sort, its numbers -/
def clS (n : Nat) (sg : Nat → Int32) (b m s : Nat) : Nat ⊕ (Nat × Nat × Int32 × Int32) :=
  if wd n sg 0 b = true then (if 8 ≤ s then .inl b else match siS n sg (skp n sg (wE n sg b)) with | .inl p => .inl p | .inr (e, v1, v2) => .inr (e, 3, v1, v2))
  else if wd n sg 1 b = true then (if m.testBit 0 = true then .inl b else if lw n sg (skp n sg (wE n sg b)) = -1 then .inl (skp n sg (wE n sg b)) else .inr (wE n sg (skp n sg (wE n sg b)), 0, lw n sg (skp n sg (wE n sg b)), 0))
  else if wd n sg 2 b = true then (if m.testBit 1 = true then .inl b else if okN n sg (-9999999) 9999999 (skp n sg (wE n sg b)) then .inr (dE n sg (skp n sg (wE n sg b)), 1, nN n sg (skp n sg (wE n sg b)), 0) else .inl (skp n sg (wE n sg b)))
  else if wd n sg 3 b = true then (if m.testBit 2 = true then .inl b else if okN n sg 1 9999 (skp n sg (wE n sg b)) then .inr (dE n sg (skp n sg (wE n sg b)), 2, nN n sg (skp n sg (wE n sg b)), 0) else .inl (skp n sg (wE n sg b)))
  else .inl b
/-- what a clause of sort k leaves -/
def mS (m k : Nat) : Nat := if k < 3 then m ||| (1 <<< k) else m
def sS (s k : Nat) : Nat := if k = 3 then s + 1 else s
def ruS (ru : Nat → Int32) (k : Nat) (v : Int32) : Nat → Int32 := if k < 3 then upd ru k v else ru
def plS (pl : Nat → Int32) (s k : Nat) (v1 v2 : Int32) : Nat → Int32 := if k = 3 then upd (upd pl (2 * s) v1) (2 * s + 1) v2 else pl
theorem bit_c : ∀ m, m < 8 → ∀ k, k < 3 → (((nI m >>> (nI k &&& 31)) &&& 1 = 0) ↔ ¬ m.testBit k = true) ∧ nI m ||| (1 <<< (nI k &&& 31)) = nI (m ||| (1 <<< k)) := by decide +kernel
theorem bit_m : ∀ m, m < 16 → ∀ k, k < 3 → (((nI m >>> (nI k &&& 31)) &&& 1 = 1) ↔ (m % 8).testBit k = true) ∧ nI m ||| (1 <<< (nI k &&& 31)) = nI (m ||| (1 <<< k)) := by decide +kernel
theorem c_ruleOfWord {K n b : Nat} {sg bytes : Nat → Int32} (h : Sg n sg) (hb : TpC n sg bytes) (hK : 400 ≤ K) (hbn : b ≤ n) : F_X3_ruleOfWord K bytes (nI n) (nI (wE n sg b)) (nI b) = some (if wd n sg 1 b = true then 0 else if wd n sg 2 b = true then 1 else if wd n sg 3 b = true then 2 else -1) := by
  unfold F_X3_ruleOfWord
  rw [c_isWord h hb hK hbn (by decide), xb1, c_isWord h hb hK hbn (by decide), xb1, c_isWord h hb hK hbn (by decide), xb1]
  by_cases z4 : wd n sg 1 b = true
  · rw [if_pos z4, if_pos z4]; rfl
  · rw [if_neg z4, if_neg z4, if_pos rfl]
    by_cases z5 : wd n sg 2 b = true
    · rw [if_pos z5, if_pos z5]; rfl
    · rw [if_neg z5, if_neg z5, if_pos rfl]
      by_cases z6 : wd n sg 3 b = true
      · rw [if_pos z6, if_pos z6]; rfl
      · rw [if_neg z6, if_neg z6]; rfl
theorem c_clause {K n a m s : Nat} {sg bytes ru pl : Nat → Int32} {ws nu f : Int32} (h : Sg n sg) (hb : TpC n sg bytes) (hK : 400 ≤ K) (ha : a ≤ n) (hm : m < 8) (hs : s ≤ 8) : ∃ r ru' pl' s' m' at' ws' nu' f', F_X3_readClause K bytes (nI n) ru pl (nI s) (nI m) (nI a) ws nu f = some (r, ru', pl', s', m', at', ws', nu', f') ∧ (∀ p, clS n sg (skp n sg a) m s = .inl p → r = 0 ∧ f' = nI p) ∧ (∀ e k v1 v2, clS n sg (skp n sg a) m s = .inr (e, k, v1, v2) → r = 1 ∧ f' = f ∧ at' = nI e ∧ s' = nI (sS s k) ∧ m' = nI (mS m k) ∧ ru' = ruS ru k v1 ∧ pl' = plS pl s k v1 v2) := by
  have h1 := h.1
  have h2 := skp_le h ha
  unfold F_X3_readClause
  rw [c_readWord h hb hK ha]
  generalize skp n sg a = b at h2 ⊢
  have h3 := wE_le h h2
  have h4 := skp_le h h3
  by_cases q : b < wE n sg b
  · rw [if_pos q, xb4, if_neg (by decide), c_isWord h hb hK h2 (by decide), xb1]
    unfold clS
    by_cases z0 : wd n sg 0 b = true
    · rw [if_pos z0, if_neg (by decide), if_pos z0]
      by_cases hs8 : 8 ≤ s
      · rw [if_pos hs8]
        have E : F_X3_readSite K bytes (nI n) pl (nI s) (nI (wE n sg b)) (nI b) nu f = some (0, pl, nI s, nI (wE n sg b), nu, nI b) := by
          unfold F_X3_readSite
          rw [x8, xltn (by omega) (by decide), if_neg (by omega)]
          rfl
        rw [E, xb6]
        refine ⟨_, _, _, _, _, _, _, _, _, rfl, fun p e => ?_, fun e k v1 v2 hq => by cases hq⟩
        cases e
        exact ⟨rfl, rfl⟩
      · rw [if_neg hs8]
        obtain ⟨pl', at', nu', f', r, s', E, A, B⟩ := c_readSite (pl := pl) (ws := nI b) (nu := nu) (f := f) (s := s) h hb hK h3 (by omega)
        rw [E, xb6]
        refine ⟨_, _, _, _, _, _, _, _, _, rfl, fun p e => ?_, fun e k v1 v2 hq => ?_⟩
        · cases hsi : siS n sg (skp n sg (wE n sg b)) with
          | inl p' => rw [hsi] at e; cases e; exact A _ hsi
          | inr x => obtain ⟨e1, v1, v2⟩ := x; rw [hsi] at e; cases e
        · cases hsi : siS n sg (skp n sg (wE n sg b)) with
          | inl p' => rw [hsi] at hq; cases hq
          | inr x =>
            obtain ⟨e1, u1, u2⟩ := x
            rw [hsi] at hq
            cases hq
            obtain ⟨c1, c2, c3, c4, c5⟩ := B _ _ _ hsi
            exact ⟨c1, c2, c4, c3, rfl, rfl, c5⟩
    · rw [if_neg z0, if_pos rfl, if_neg z0, c_ruleOfWord h hb hK h2, xb1]
      by_cases z1 : wd n sg 1 b = true
      · rw [if_pos z1, if_pos z1, if_neg (by decide), if_neg (by decide)]
        have bc : (((nI m >>> ((0 : Int32) &&& 31)) &&& 1 = 0) ↔ ¬ m.testBit 0 = true) ∧ nI m ||| (1 <<< ((0 : Int32) &&& 31)) = nI (m ||| (1 <<< 0)) := bit_c m hm 0 (by decide)
        by_cases t : m.testBit 0 = true
        · rw [if_neg (fun y => bc.1.mp y t), if_pos t]
          refine ⟨_, _, _, _, _, _, _, _, _, rfl, fun p e => ?_, fun e k v1 v2 hq => by cases hq⟩
          cases e
          exact ⟨rfl, rfl⟩
        · rw [if_pos (bc.1.mpr t), if_neg t, if_pos rfl]
          obtain ⟨at', w', nu', E, A⟩ := c_readLaw (w := nI b) (nu := nu) (f := f) h hb hK h3
          rw [E, xb5]
          unfold J_X3_readClause_108
          by_cases y : lw n sg (skp n sg (wE n sg b)) = -1
          · rw [if_pos y, if_pos rfl, if_pos y, if_pos y]
            refine ⟨_, _, _, _, _, _, _, _, _, rfl, fun p e => ?_, fun e k v1 v2 hq => by cases hq⟩
            cases e
            exact ⟨rfl, rfl⟩
          · obtain ⟨rfl, rfl⟩ := A y
            rw [if_neg y, if_neg (by decide), if_neg y, if_neg y]
            refine ⟨_, _, _, _, _, _, _, _, _, rfl, fun p e => (by cases e), fun e k v1 v2 hq => ?_⟩
            cases hq
            exact ⟨rfl, rfl, rfl, rfl, bc.2, rfl, rfl⟩
      · rw [if_neg z1, if_neg z1]
        by_cases z2 : wd n sg 2 b = true
        · rw [if_pos z2, if_pos z2, if_neg (by decide), if_neg (by decide)]
          have bc : (((nI m >>> ((1 : Int32) &&& 31)) &&& 1 = 0) ↔ ¬ m.testBit 1 = true) ∧ nI m ||| (1 <<< ((1 : Int32) &&& 31)) = nI (m ||| (1 <<< 1)) := bit_c m hm 1 (by decide)
          by_cases t : m.testBit 1 = true
          · rw [if_neg (fun y => bc.1.mp y t), if_pos t]
            refine ⟨_, _, _, _, _, _, _, _, _, rfl, fun p e => ?_, fun e k v1 v2 hq => by cases hq⟩
            cases e
            exact ⟨rfl, rfl⟩
          · rw [if_pos (bc.1.mpr t), if_neg t, if_neg (by decide), if_pos rfl]
            obtain ⟨at', nu', E, A⟩ := c_readNumber (lo := -9999999) (hi := 9999999) (nu := nu) (f := f) h hb hK h3
            rw [E, xb4]
            unfold J_X3_readClause_108
            by_cases y : okN n sg (-9999999) 9999999 (skp n sg (wE n sg b))
            · obtain ⟨rfl, rfl⟩ := A y
              rw [if_pos y, if_neg (by decide), if_pos y, if_pos y]
              refine ⟨_, _, _, _, _, _, _, _, _, rfl, fun p e => (by cases e), fun e k v1 v2 hq => ?_⟩
              cases hq
              exact ⟨rfl, rfl, rfl, rfl, bc.2, rfl, rfl⟩
            · rw [if_neg y, if_pos rfl, if_neg y, if_neg y]
              refine ⟨_, _, _, _, _, _, _, _, _, rfl, fun p e => ?_, fun e k v1 v2 hq => by cases hq⟩
              cases e
              exact ⟨rfl, rfl⟩
        · rw [if_neg z2, if_neg z2]
          by_cases z3 : wd n sg 3 b = true
          · rw [if_pos z3, if_pos z3, if_neg (by decide), if_neg (by decide)]
            have bc : (((nI m >>> ((2 : Int32) &&& 31)) &&& 1 = 0) ↔ ¬ m.testBit 2 = true) ∧ nI m ||| (1 <<< ((2 : Int32) &&& 31)) = nI (m ||| (1 <<< 2)) := bit_c m hm 2 (by decide)
            by_cases t : m.testBit 2 = true
            · rw [if_neg (fun y => bc.1.mp y t), if_pos t]
              refine ⟨_, _, _, _, _, _, _, _, _, rfl, fun p e => ?_, fun e k v1 v2 hq => by cases hq⟩
              cases e
              exact ⟨rfl, rfl⟩
            · rw [if_pos (bc.1.mpr t), if_neg t, if_neg (by decide), if_neg (by decide)]
              obtain ⟨at', nu', E, A⟩ := c_readNumber (lo := 1) (hi := 9999) (nu := nu) (f := f) h hb hK h3
              rw [E, xb4]
              unfold J_X3_readClause_108
              by_cases y : okN n sg 1 9999 (skp n sg (wE n sg b))
              · obtain ⟨rfl, rfl⟩ := A y
                rw [if_pos y, if_neg (by decide), if_pos y, if_pos y]
                refine ⟨_, _, _, _, _, _, _, _, _, rfl, fun p e => (by cases e), fun e k v1 v2 hq => ?_⟩
                cases hq
                exact ⟨rfl, rfl, rfl, rfl, bc.2, rfl, rfl⟩
              · rw [if_neg y, if_pos rfl, if_neg y, if_neg y]
                refine ⟨_, _, _, _, _, _, _, _, _, rfl, fun p e => ?_, fun e k v1 v2 hq => by cases hq⟩
                cases e
                exact ⟨rfl, rfl⟩
          · rw [if_neg z3, if_neg z3, if_pos (by decide)]
            refine ⟨_, _, _, _, _, _, _, _, _, rfl, fun p e => ?_, fun e k v1 v2 hq => by cases hq⟩
            cases e
            exact ⟨rfl, rfl⟩
  · rw [if_neg q, xb4, if_pos rfl]
    have nz : ∀ i, i < 12 → ¬ wd n sg i b = true := fun i hi z => q ((wE_lt h h2).mpr (wd_letter h h2 hi z))
    unfold clS
    rw [if_neg (nz 0 (by decide)), if_neg (nz 1 (by decide)), if_neg (nz 2 (by decide)), if_neg (nz 3 (by decide))]
    refine ⟨_, _, _, _, _, _, _, _, _, rfl, fun p e => ?_, fun e k v1 v2 hq => by cases hq⟩
    cases e
    exact ⟨rfl, rfl⟩
