/-! a watch's text in both readers -/
theorem x3 : (3 : Int32) = nI 3 := by decide
/-- what both have read agrees -/
def RdOK (s : Nat) (ru pl rp : Nat → Int32) (la bo go : Int32) : Prop := s ≤ 8 ∧ ru 0 = la ∧ ru 1 = bo ∧ ru 2 = go ∧ (∀ j, j < 2 * s → pl j = rp j) ∧ (0 ≤ la ∧ la ≤ 3) ∧ (-9999999 ≤ bo ∧ bo ≤ 9999999) ∧ (1 ≤ go ∧ go ≤ 9999) ∧ (∀ j, j < 2 * s → -999 ≤ rp j ∧ rp j ≤ 999)
theorem RdOK.step {n b m s e k : Nat} {sg ru pl rp : Nat → Int32} {la bo go v1 v2 : Int32} (h : Sg n sg) (hbn : b ≤ n) (q : clS n sg b m s = .inr (e, k, v1, v2)) (r : RdOK s ru pl rp la bo go) : RdOK (sS s k) (ruS ru k v1) (plS pl s k v1 v2) (plS rp s k v1 v2) (if k = 0 then v1 else la) (if k = 1 then v1 else bo) (if k = 2 then v1 else go) := by
  obtain ⟨r1, r2, r3, r4, r5, r6, r7, r8, r9⟩ := r
  obtain ⟨c1, c2, c3, c4, c5, c6, c7, c8⟩ := clS_ok h hbn q
  have hk : k = 0 ∨ k = 1 ∨ k = 2 ∨ k = 3 := by omega
  rcases hk with rfl | rfl | rfl | rfl
  · exact ⟨r1, rfl, r3, r4, r5, c5 rfl, r7, r8, r9⟩
  · exact ⟨r1, r2, rfl, r4, r5, r6, c6 rfl, r8, r9⟩
  · exact ⟨r1, r2, r3, rfl, r5, r6, r7, c7 rfl, r9⟩
  · have hs := c4 rfl
    obtain ⟨d1, d2⟩ := c8 rfl
    refine ⟨by show s + 1 ≤ 8; omega, r2, r3, r4, fun j hj => ?_, r6, r7, r8, fun j hj => ?_⟩
    · show upd (upd pl (2 * s) v1) (2 * s + 1) v2 j = upd (upd rp (2 * s) v1) (2 * s + 1) v2 j
      have hj' : j < 2 * (s + 1) := hj
      unfold upd
      by_cases e1 : j = 2 * s + 1
      · rw [if_pos e1, if_pos e1]
      · rw [if_neg e1, if_neg e1]
        by_cases e2 : j = 2 * s
        · rw [if_pos e2, if_pos e2]
        · rw [if_neg e2, if_neg e2]; exact r5 j (by omega)
    · show -999 ≤ upd (upd rp (2 * s) v1) (2 * s + 1) v2 j ∧ upd (upd rp (2 * s) v1) (2 * s + 1) v2 j ≤ 999
      have hj' : j < 2 * (s + 1) := hj
      unfold upd
      by_cases e1 : j = 2 * s + 1
      · rw [if_pos e1]; exact d2
      · rw [if_neg e1]
        by_cases e2 : j = 2 * s
        · rw [if_pos e2]; exact d1
        · rw [if_neg e2]; exact r9 j (by omega)
def rC (n t : Nat) (s f at' : Int32) : Int32 := if t = 0 then f else if t = 1 then (if 2 ≤ s then -1 else nI n) else if t = 2 then f else at'
def rM (wr pa rs fr : Int32) : Int32 := if wr = -1 then (if pa = 0 then (if 2 ≤ rs then -1 else fr) else fr) else wr
abbrev TC9 : Type := Int32 × (Nat → Int32) × (Nat → Int32) × Int32 × Int32 × Int32 × Int32 × Int32 × Int32
abbrev RC9 : Type := Nat × (Nat → Int32) × (Nat → Int32) × Int32 × Int32 × Int32 × Int32 × Int32 × Int32
abbrev TM13 : Type := Int32 × Int32 × Int32 × Int32 × Int32 × Int32 × Int32 × Int64 × Int32 × Int32 × Int32 × Int32 × (Nat → Int32)
abbrev RM11 : Type := Int32 × Int32 × Int32 × Int32 × Int32 × Int64 × Int32 × Int32 × Int32 × Int32 × (Nat → Int32)
abbrev bC (K n : Nat) (bytes : Nat → Int32) : TC9 → Option (TC9 ⊕ RC9) := fun u9 => B_X3_readWatch_6 K (nI n) bytes u9.1 u9.2.1 u9.2.2.1 u9.2.2.2.1 u9.2.2.2.2.1 u9.2.2.2.2.2.1 u9.2.2.2.2.2.2.1 u9.2.2.2.2.2.2.2.1 u9.2.2.2.2.2.2.2.2
abbrev bM (K n : Nat) (tape : Nat → Int32) : TM13 → Option (TM13 ⊕ RM11) := fun u9 => B_X8_readWatch_31 K (nI n) tape u9.1 u9.2.1 u9.2.2.1 u9.2.2.2.1 u9.2.2.2.2.1 u9.2.2.2.2.2.1 u9.2.2.2.2.2.2.1 u9.2.2.2.2.2.2.2.1 u9.2.2.2.2.2.2.2.2.1 u9.2.2.2.2.2.2.2.2.2.1 u9.2.2.2.2.2.2.2.2.2.2.1 u9.2.2.2.2.2.2.2.2.2.2.2.1 u9.2.2.2.2.2.2.2.2.2.2.2.2
theorem rw_sync {K n : Nat} {sg bytes tape : Nat → Int32} (h : Sg n sg) (hc : TpC n sg bytes) (ht : TpM n sg tape) (hK : 400 ≤ K) : ∀ (d a c g s : Nat) (ru pl rp : Nat → Int32) (ws nu f at' pa fr pn la bo go : Int32) (pw : Int64) (Kc Km : Nat), n - a < d → a ≤ n → 2 * c ≤ a → g < 16 → RdOK s ru pl rp la bo go → LA n sg (skp n sg a) at' pa fr pn pw → d < Kc → d + 1 < Km →
    ∃ t ru' pl' s' m' ac' ws' nu' f' am' pa' fr' pn' wr' pw' la' bo' go' rs' rp', lpF (bC K n bytes) Kc (nI c, ru, pl, nI s, nI (g % 8), nI a, ws, nu, f) = some (t, ru', pl', s', m', ac', ws', nu', f') ∧ lpF (bM K n tape) Km (nI g, 1, at', pa, fr, pn, -1, pw, la, bo, go, nI s, rp) = some (am', pa', fr', pn', wr', pw', la', bo', go', rs', rp') ∧ t < 4 ∧ rC n t s' f' ac' = rM wr' pa' rs' fr' ∧ (rC n t s' f' ac' = -1 → t = 1 ∧ wr' = -1 ∧ pa' = 0 ∧ ∃ s2, 2 ≤ s2 ∧ s' = nI s2 ∧ rs' = nI s2 ∧ RdOK s2 ru' pl' rp' la' bo' go') := by
  have h1 := h.1
  intro d
  induction d with
  | zero => intro a c g s ru pl rp ws nu f at' pa fr pn la bo go pw Kc Km h2; omega
  | succ d ih =>
    intro a c g s ru pl rp ws nu f at' pa fr pn la bo go pw Kc Km h2 ha hc2 hg hr hl hKc hKm
    obtain ⟨Kc', rfl⟩ : ∃ k, Kc = k + 1 := ⟨Kc - 1, by omega⟩
    obtain ⟨Km', rfl⟩ : ∃ k, Km = k + 2 := ⟨Km - 2, by omega⟩
    have hb := skp_le h ha
    have hb' := skp_ge h ha
    have hg8 : g % 8 < 8 := Nat.mod_lt _ (by decide)
    obtain ⟨r, ru1, pl1, s1, m1, ac1, ws1, nu1, f1, E, A, B⟩ := c_clause (ru := ru) (pl := pl) (ws := ws) (nu := nu) (f := f) h hc hK ha hg8 hr.1
    obtain ⟨g1, a2, p2, f2, n2, wr, w2, la1, bo1, go1, s2, rp1, Em, Am, Bm⟩ := m_clause (rp := rp) (la := la) (bo := bo) (go := go) (s := s) h ht hK hb hg hr.1 hl
    have bc : bC K n bytes (nI c, ru, pl, nI s, nI (g % 8), nI a, ws, nu, f) = bd9 (F_X3_readClause K bytes (nI n) ru pl (nI s) (nI (g % 8)) (nI a) ws nu f) (fun r_9 w_10 w_11 w_12 w_13 w_14 w_15 w_16 w_17 => if r_9 = (0 : Int32) then some (.inr (0, w_10, w_11, w_12, w_13, w_14, w_15, w_16, w_17)) else bd2 (F_X3_isAtEnd K bytes (nI n) w_14) (fun r_21 w_22 => if r_21 = (0 : Int32) then bd3 (F_X3_readSign K (59 : Int32) bytes (nI n) w_22 w_17) (fun r_26 w_27 w_28 => if r_26 = (0 : Int32) then some (.inr (2, w_10, w_11, w_12, w_13, w_27, w_15, w_16, w_28)) else some (.inl (nI c + (1 : Int32), w_10, w_11, w_12, w_13, w_27, w_15, w_16, w_28))) else some (.inr (1, w_10, w_11, w_12, w_13, w_22, w_15, w_16, w_17)))) := by
      show B_X3_readWatch_6 K (nI n) bytes (nI c) ru pl (nI s) (nI (g % 8)) (nI a) ws nu f = _
      unfold B_X3_readWatch_6
      rw [x320, xle (by decide) (by omega), if_neg (by omega)]
    have bm : bM K n tape (nI g, 1, at', pa, fr, pn, -1, pw, la, bo, go, nI s, rp) = bd12 (F_X8_clause K (nI g) tape (nI n) at' pa fr pn (-1) pw la bo go (nI s) rp) (fun r_9 w_10 w_11 w_12 w_13 w_14 w_15 w_16 w_17 w_18 w_19 w_20 => if w_14 = (-1 : Int32) then if w_11 = (4 : Int32) then bd5 (F_X8_next K tape (nI n) w_10 w_11 w_12 w_13 w_15) (fun w_24 w_25 w_26 w_27 w_28 => some (.inl (r_9, (1 : Int32), w_24, w_25, w_26, w_27, w_14, w_28, w_16, w_17, w_18, w_19, w_20))) else some (.inl (r_9, (0 : Int32), w_10, w_11, w_12, w_13, w_14, w_15, w_16, w_17, w_18, w_19, w_20)) else some (.inl (r_9, (0 : Int32), w_10, w_11, w_12, w_13, w_14, w_15, w_16, w_17, w_18, w_19, w_20))) := by
      show B_X8_readWatch_31 K (nI n) tape (nI g) 1 at' pa fr pn (-1) pw la bo go (nI s) rp = _
      unfold B_X8_readWatch_31
      rw [if_neg (by decide)]
    have stop : ∀ (Km : Nat) (g0 am pa0 fr0 pn0 wr0 la0 bo0 go0 rs0 : Int32) (pw0 : Int64) (rp0 : Nat → Int32), lpF (bM K n tape) (Km + 1) (g0, 0, am, pa0, fr0, pn0, wr0, pw0, la0, bo0, go0, rs0, rp0) = some (am, pa0, fr0, pn0, wr0, pw0, la0, bo0, go0, rs0, rp0) := fun Km g0 am pa0 fr0 pn0 wr0 la0 bo0 go0 rs0 pw0 rp0 => by
      refine lp_end ?_
      show B_X8_readWatch_31 K (nI n) tape g0 0 am pa0 fr0 pn0 wr0 pw0 la0 bo0 go0 rs0 rp0 = _
      unfold B_X8_readWatch_31
      rw [if_pos rfl]
    rw [E, xb9] at bc
    rw [Em, xb12] at bm
    cases hcl : clS n sg (skp n sg a) (g % 8) s with
    | inl p =>
      obtain ⟨rfl, rfl⟩ := A p hcl
      have ew := Am p hcl
      subst ew
      have hp : p ≤ n := clS_fail h hb hcl
      rw [if_pos rfl] at bc
      rw [if_neg (nI_ne_m1 (by omega))] at bm
      refine ⟨_, _, _, _, _, _, _, _, _, _, _, _, _, _, _, _, _, _, _, _, lp_end bc, (lp_one bm).trans (stop _ _ _ _ _ _ _ _ _ _ _ _ _), by decide, ?_, ?_⟩
      · show nI p = (if nI p = -1 then _ else nI p)
        rw [if_neg (nI_ne_m1 (by omega))]
      · intro z
        exact absurd (show nI p = -1 from z) (nI_ne_m1 (by omega))
    | inr x =>
      obtain ⟨e, k, v1, v2⟩ := x
      obtain ⟨rfl, rfl, rfl, rfl, rfl, rfl, rfl⟩ := B e k v1 v2 hcl
      obtain ⟨rfl, L, ⟨g2, hg2, rfl, eg⟩, rfl, rfl, rfl, rfl, rfl⟩ := Bm e k v1 v2 hcl
      obtain ⟨c1, c2, -⟩ := clS_ok h hb hcl
      have hr2 := hr.step h hb hcl
      have hb2 := skp_le h c2
      have hb2' := skp_ge h c2
      obtain ⟨l1, l2, l3, -⟩ := id L
      rw [if_neg (by decide), c_isAtEnd h hc hK c2, xb2] at bc
      rw [if_pos rfl] at bm
      by_cases q0 : sg (skp n sg e) = -1
      · rw [if_pos q0, if_neg (by decide)] at bc
        rw [l2, if_neg (fun z => by rw [tk4.mp z] at q0; exact absurd q0 (by decide))] at bm
        have en : skp n sg e = n := by
          have : ¬ skp n sg e < n := fun z => h.2.2 _ z q0
          omega
        have hs8 := hr2.1
        refine ⟨_, _, _, _, _, _, _, _, _, _, _, _, _, _, _, _, _, _, _, _, lp_end bc, (lp_one bm).trans (stop _ _ _ _ _ _ _ _ _ _ _ _ _), by decide, ?_, ?_⟩
        · show (if 2 ≤ nI (sS s k) then -1 else nI n) = (if (-1 : Int32) = -1 then (if tk n sg (skp n sg e) = 0 then (if 2 ≤ nI (sS s k) then -1 else f2) else f2) else -1)
          rw [if_pos rfl, if_pos (tk0.mpr q0), l3, en]
        · intro z
          have z2 : (if 2 ≤ nI (sS s k) then -1 else nI n) = -1 := z
          by_cases y : 2 ≤ nI (sS s k)
          · rw [x2c, ple (by decide) (by omega)] at y
            exact ⟨rfl, rfl, tk0.mpr q0, sS s k, y, rfl, rfl, hr2⟩
          · rw [if_neg y] at z2
            exact absurd z2 (nI_ne_m1 (by omega))
      · rw [if_neg q0, if_pos rfl, c_readSign h hc hK hb2, skp_idem h c2] at bc
        by_cases q4 : sg (skp n sg e) = 59
        · rw [if_pos q4, xb3, if_neg (by decide), nI_1] at bc
          have hlt := sg44_lt h (by decide) q4
          obtain ⟨a3, p3, f3, n3, w3, x1, x2⟩ := m_adv h ht hK hb2 L
          rw [te_s q4 (Or.inr rfl)] at x2
          rw [if_pos (l2.trans (tk4.mpr q4)), x1, xb5] at bm
          have := ih (skp n sg e + 1) (c + 1) g2 (sS s k) (ruS ru k v1) (plS pl s k v1 v2) (plS rp s k v1 v2) ws1 nu1 f1 a3 p3 f3 n3 (if k = 0 then v1 else la) (if k = 1 then v1 else bo) (if k = 2 then v1 else go) w3 Kc' (Km' + 1) (by omega) (by omega) (by omega) hg2 hr2 x2 (by omega) (by omega)
          rw [eg] at this
          rw [lp_one bc, lp_one bm]
          exact this
        · rw [if_neg q4, xb3, if_pos rfl] at bc
          rw [if_neg (fun z => q4 (tk4.mp (l2.symm.trans z)))] at bm
          refine ⟨_, _, _, _, _, _, _, _, _, _, _, _, _, _, _, _, _, _, _, _, lp_end bc, (lp_one bm).trans (stop _ _ _ _ _ _ _ _ _ _ _ _ _), by decide, ?_, ?_⟩
          · show nI (skp n sg e) = (if (-1 : Int32) = -1 then (if p2 = 0 then (if 2 ≤ nI (sS s k) then -1 else f2) else f2) else -1)
            rw [if_pos rfl, if_neg (fun z => q0 (tk0.mp (l2.symm.trans z))), l3]
          · intro z
            exact absurd (show nI (skp n sg e) = -1 from z) (nI_ne_m1 (by omega))
/-- both read a watch alike -/
theorem rw_both {K n : Nat} {sg bytes tape ru pl rp : Nat → Int32} {c1 c2 c3 c4 c5 c6 c7 m1 m2 m3 m4 m5 m7 m8 m9 m10 : Int32} {m6 : Int64} (h : Sg n sg) (hc : TpC n sg bytes) (ht : TpM n sg tape) (hK : 400 ≤ K) :
    ∃ r ru' pl' s' st' m' ac' ws' nu' f' am' pa' fr' pn' wr' pw' la' bo' go' rs' rp', F_X3_readWatch K bytes (nI n) ru pl c1 c2 c3 c4 c5 c6 c7 = some (r, ru', pl', s', st', m', ac', ws', nu', f') ∧ F_X8_readWatch K tape (nI n) m1 m2 m3 m4 m5 m6 m7 m8 m9 m10 rp = some (r, am', pa', fr', pn', wr', pw', la', bo', go', rs', rp') ∧ (r = -1 → ∃ s2, 2 ≤ s2 ∧ s' = nI s2 ∧ rs' = nI s2 ∧ RdOK s2 ru' pl' rp' la' bo' go') := by
  have h1 := h.1
  obtain ⟨at', pa, fr, pn, pw, E, L⟩ := m_next (a := 0) (pa := m2) (fr := m3) (pn := m4) (pw := m6) h ht hK (by omega)
  obtain ⟨t, ru', pl', s', m', ac', ws', nu', f', am', pa', fr', pn', wr', pw', la', bo', go', rs', rp', X1, X2, X3, X4, X5⟩ := rw_sync h hc ht hK (n + 1) 0 0 0 0 (upd (upd (upd ru 0 0) 1 1000) 2 100) pl rp c5 c6 (-1) at' pa fr pn 0 1000 100 pw K K (by omega) (by omega) (by omega) (by decide) ⟨by omega, rfl, rfl, rfl, fun j hj => by omega, by decide, by decide, by decide, fun j hj => by omega⟩ L (by omega) (by omega)
  have EC : F_X3_readWatch K bytes (nI n) ru pl c1 c2 c3 c4 c5 c6 c7 = some (rC n t s' f' ac', ru', pl', s', 0, m', ac', ws', nu', f') := by
    unfold F_X3_readWatch F_X3_start
    rw [xnm, xnm, xnm, xb6]
    rw [show lpF (fun u9 : Int32 × (Nat → Int32) × (Nat → Int32) × Int32 × Int32 × Int32 × Int32 × Int32 × Int32 => B_X3_readWatch_6 K (nI n) bytes u9.1 u9.2.1 u9.2.2.1 u9.2.2.2.1 u9.2.2.2.2.1 u9.2.2.2.2.2.1 u9.2.2.2.2.2.2.1 u9.2.2.2.2.2.2.2.1 u9.2.2.2.2.2.2.2.2) K ((0 : Int32), upd (upd (upd ru 0 0) 1 1000) 2 100, pl, (0 : Int32), (0 : Int32), (0 : Int32), c5, c6, (-1 : Int32)) = some (t, ru', pl', s', m', ac', ws', nu', f') from X1, xb9]
    unfold rC
    rcases (show t = 0 ∨ t = 1 ∨ t = 2 ∨ t = 3 by omega) with rfl | rfl | rfl | rfl
    · rfl
    · show (if (2 : Int32) ≤ s' then _ else _) = _
      by_cases q : (2 : Int32) ≤ s'
      · rw [if_pos q]; show _ = some (if (2 : Int32) ≤ s' then _ else _, _); rw [if_pos q]
      · rw [if_neg q]; show _ = some (if (2 : Int32) ≤ s' then _ else _, _); rw [if_neg q]
    · rfl
    · rfl
  have EM : F_X8_readWatch K tape (nI n) m1 m2 m3 m4 m5 m6 m7 m8 m9 m10 rp = some (rM wr' pa' rs' fr', am', pa', fr', pn', rM wr' pa' rs' fr', pw', la', bo', go', rs', rp') := by
    unfold F_X8_readWatch F_X8_begins
    rw [show F_X8_next K tape (nI n) (0 : Int32) m2 m3 m4 m6 = some (at', pa, fr, pn, pw) from E, xb5, xb6]
    rw [show lpF (fun u9 : Int32 × Int32 × Int32 × Int32 × Int32 × Int32 × Int32 × Int64 × Int32 × Int32 × Int32 × Int32 × (Nat → Int32) => B_X8_readWatch_31 K (nI n) tape u9.1 u9.2.1 u9.2.2.1 u9.2.2.2.1 u9.2.2.2.2.1 u9.2.2.2.2.2.1 u9.2.2.2.2.2.2.1 u9.2.2.2.2.2.2.2.1 u9.2.2.2.2.2.2.2.2.1 u9.2.2.2.2.2.2.2.2.2.1 u9.2.2.2.2.2.2.2.2.2.2.1 u9.2.2.2.2.2.2.2.2.2.2.2.1 u9.2.2.2.2.2.2.2.2.2.2.2.2) K ((0 : Int32), (1 : Int32), at', pa, fr, pn, (-1 : Int32), pw, (0 : Int32), (1000 : Int32), (100 : Int32), (0 : Int32), rp) = some (am', pa', fr', pn', wr', pw', la', bo', go', rs', rp') from X2, xb11]
    unfold rM
    by_cases q1 : wr' = -1
    · rw [if_pos q1, if_pos q1]
      by_cases q2 : pa' = 0
      · rw [if_pos q2, if_pos q2]
        by_cases q3 : 2 ≤ rs'
        · rw [if_pos q3, if_pos q3, q1]
        · rw [if_neg q3, if_neg q3, m_bad, if_pos q1, xb1]
      · rw [if_neg q2, if_neg q2, m_bad, if_pos q1, xb1]
    · rw [if_neg q1, if_neg q1]
  refine ⟨_, _, _, _, _, _, _, _, _, _, _, _, _, _, _, _, _, _, _, _, _, EC, by rw [X4]; exact EM, fun z => ?_⟩
  obtain ⟨-, -, -, s2, y⟩ := X5 z
  exact ⟨s2, y⟩
