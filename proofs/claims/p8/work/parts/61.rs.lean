/-! a script's text in both readers -/
theorem l4_at {st : Nat → Int32} {t i : Nat} {v0 v1 v2 v3 : Int32} (hi : i < 4) : l4 st t v0 v1 v2 v3 (t + i) = q4 v0 v1 v2 v3 i := by
  unfold l4 q4 upd
  rcases (show i = 0 ∨ i = 1 ∨ i = 2 ∨ i = 3 by omega) with rfl | rfl | rfl | rfl <;> simp
abbrev TQ7 : Type := Int32 × (Nat → Int32) × Int32 × Int32 × Int32 × Int32 × Int32
abbrev RQ7 : Type := Nat × (Nat → Int32) × Int32 × Int32 × Int32 × Int32 × Int32
abbrev TP9 : Type := Int32 × Int32 × Int32 × Int32 × Int32 × Int32 × Int64 × (Nat → Int32) × (Nat → Int32)
abbrev RP8 : Type := Int32 × Int32 × Int32 × Int32 × Int32 × Int64 × (Nat → Int32) × (Nat → Int32)
abbrev bQ (K n : Nat) (bytes : Nat → Int32) : TQ7 → Option (TQ7 ⊕ RQ7) := fun u9 => B_X3_readScript_6 K (nI n) bytes u9.1 u9.2.1 u9.2.2.1 u9.2.2.2.1 u9.2.2.2.2.1 u9.2.2.2.2.2.1 u9.2.2.2.2.2.2
abbrev bP (K n p : Nat) (tape : Nat → Int32) : TP9 → Option (TP9 ⊕ RP8) := fun u9 => B_X8_readScript_13 K (nI p) (nI n) tape u9.1 u9.2.1 u9.2.2.1 u9.2.2.2.1 u9.2.2.2.2.1 u9.2.2.2.2.2.1 u9.2.2.2.2.2.2.1 u9.2.2.2.2.2.2.2.1 u9.2.2.2.2.2.2.2.2
def rC2 (t : Nat) (f at' : Int32) : Int32 := if t = 0 then f else if t = 1 then -1 else at'
def rM2 (wr pa fr : Int32) : Int32 := if wr = -1 then (if pa = 0 then -1 else fr) else wr
/-- p's steps, c of them, agree -/
def ScOK (p c : Nat) (st sc : Nat → Int32) : Prop := ∀ j, j < 4 * c → st j = sc (48 * p + j)
/-- the first number of each step is one of seven kinds -/
def KdOK (c : Nat) (st : Nat → Int32) : Prop := ∀ i, i < c → ∃ k, k < 7 ∧ st (4 * i) = nI k
theorem ScOK.step {p c : Nat} {st sc : Nat → Int32} {v0 v1 v2 v3 : Int32} (h : ScOK p c st sc) : ScOK p (c + 1) (l4 st (c * 4) v0 v1 v2 v3) (l4 sc (48 * p + 4 * c) v0 v1 v2 v3) := by
  intro j hj
  by_cases q : j < 4 * c
  · rw [l4_out (by omega), l4_out (by omega)]; exact h j q
  · obtain ⟨i, hi, rfl⟩ : ∃ i, i < 4 ∧ j = c * 4 + i := ⟨j - c * 4, by omega, by omega⟩
    rw [l4_at hi, show 48 * p + (c * 4 + i) = 48 * p + 4 * c + i by omega, l4_at hi]
theorem KdOK.step {c k : Nat} {st : Nat → Int32} {v0 v1 v2 v3 : Int32} (h : KdOK c st) (hk : k < 7) (hv : v0 = nI k) : KdOK (c + 1) (l4 st (c * 4) v0 v1 v2 v3) := by
  intro i hi
  by_cases q : i < c
  · obtain ⟨k, hk, e⟩ := h i q
    exact ⟨k, hk, by rw [l4_out (by omega)]; exact e⟩
  · refine ⟨k, hk, ?_⟩
    rw [show 4 * i = c * 4 + 0 by omega, l4_at (by decide)]
    exact hv
theorem m_stop {K n p : Nat} {tape : Nat → Int32} (Km : Nat) (am pa0 fr0 pn0 wr0 : Int32) (pw0 : Int64) (sc0 lg0 : Nat → Int32) : lpF (bP K n p tape) (Km + 1) (0, am, pa0, fr0, pn0, wr0, pw0, sc0, lg0) = some (am, pa0, fr0, pn0, wr0, pw0, sc0, lg0) := by
  refine lp_end ?_
  show B_X8_readScript_13 K (nI p) (nI n) tape 0 am pa0 fr0 pn0 wr0 pw0 sc0 lg0 = _
  unfold B_X8_readScript_13
  rw [if_pos rfl]
/-- what both loops over a script's steps come to -/
def RsE (p : Nat) (sc lg : Nat → Int32) (x : RQ7) (y : RP8) : Prop := x.1 < 4 ∧ rC2 x.1 x.2.2.2.2.2.2 x.2.2.2.1 = rM2 y.2.2.2.2.1 y.2.1 y.2.2.1 ∧ (rC2 x.1 x.2.2.2.2.2.2 x.2.2.2.1 = -1 → ∃ c, 1 ≤ c ∧ c ≤ 12 ∧ x.2.2.1 = nI c ∧ y.2.2.2.2.2.2.2 p = nI c ∧ ScOK p c x.2.1 y.2.2.2.2.2.2.1 ∧ KdOK c x.2.1) ∧ (∀ j, (j < 48 * p ∨ 48 * p + 48 ≤ j) → y.2.2.2.2.2.2.1 j = sc j) ∧ (∀ j, ¬ j = p → y.2.2.2.2.2.2.2 j = lg j)
theorem rs_sync {K n p : Nat} {sg bytes tape : Nat → Int32} (h : Sg n sg) (hc : TpC n sg bytes) (ht : TpM n sg tape) (hK : 400 ≤ K) (hp : p ≤ 4) : ∀ (d a c : Nat) (st sc lg sc0 lg0 : Nat → Int32) (ws nu f at' pa fr pn : Int32) (pw : Int64) (Kc Km : Nat), n - a < d → a ≤ n → c < 12 → ScOK p c st sc → KdOK c st → lg p = nI c → (∀ j, (j < 48 * p ∨ 48 * p + 48 ≤ j) → sc j = sc0 j) → (∀ j, ¬ j = p → lg j = lg0 j) → LA n sg (skp n sg a) at' pa fr pn pw → d < Kc → d + 1 < Km →
    ∃ x y, lpF (bQ K n bytes) Kc (nI c, st, nI c, nI a, ws, nu, f) = some x ∧ lpF (bP K n p tape) Km (1, at', pa, fr, pn, -1, pw, sc, lg) = some y ∧ RsE p sc0 lg0 x y := by
  have h1 := h.1
  intro d
  induction d with
  | zero => intro a c st sc lg sc0 lg0 ws nu f at' pa fr pn pw Kc Km h2; omega
  | succ d ih =>
    intro a c st sc lg sc0 lg0 ws nu f at' pa fr pn pw Kc Km h2 ha hc12 hS hKd hlg ho1 ho2 hl hKc hKm
    obtain ⟨Kc', rfl⟩ : ∃ k, Kc = k + 1 := ⟨Kc - 1, by omega⟩
    obtain ⟨Km', rfl⟩ : ∃ k, Km = k + 2 := ⟨Km - 2, by omega⟩
    have hb := skp_le h ha
    have hb' := skp_ge h ha
    obtain ⟨r, st1, ac1, ws1, nu1, f1, E, A, B⟩ := c_readStep (st := st) (ws := ws) (nu := nu) (f := f) (c := c) h hc hK ha hc12
    obtain ⟨a2, p2, f2, n2, wr, w2, sc1, Em, Ho, Am, Bm⟩ := m_readStep (sc := sc) (t := 48 * p + 4 * c) h ht hK hb (by omega) hl
    have ti : (4 : Int32) * ((12 : Int32) * nI p + lg p) = nI (48 * p + 4 * c) := by
      rw [hlg, x12, nI_mul, nI_add, x4, nI_mul]
      congr 1
      omega
    have bc : bQ K n bytes (nI c, st, nI c, nI a, ws, nu, f) = bd6 (F_X3_readStep K bytes (nI n) st (nI c) (nI a) ws nu f) (fun r_9 w_10 w_11 w_12 w_13 w_14 => if r_9 = (0 : Int32) then some (.inr (0, w_10, nI c, w_11, w_12, w_13, w_14)) else bd2 (F_X3_isAtEnd K bytes (nI n) w_11) (fun r_18 w_19 => if r_18 = (0 : Int32) then if nI c + (1 : Int32) = (12 : Int32) then some (.inr (2, w_10, nI c + (1 : Int32), w_19, w_12, w_13, w_14)) else bd3 (F_X3_readSign K (59 : Int32) bytes (nI n) w_19 w_14) (fun r_24 w_25 w_26 => if r_24 = (0 : Int32) then some (.inr (2, w_10, nI c + (1 : Int32), w_25, w_12, w_13, w_26)) else some (.inl (nI c + (1 : Int32), w_10, nI c + (1 : Int32), w_25, w_12, w_13, w_26))) else some (.inr (1, w_10, nI c + (1 : Int32), w_19, w_12, w_13, w_14)))) := by
      show B_X3_readScript_6 K (nI n) bytes (nI c) st (nI c) (nI a) ws nu f = _
      unfold B_X3_readScript_6
      rw [if_neg (show ¬ (12 : Int32) ≤ nI c by rw [x12, ple (by decide) (by omega)]; omega)]
    have bm : bP K n p tape (1, at', pa, fr, pn, -1, pw, sc, lg) = bd7 (F_X8_readStep K (nI (48 * p + 4 * c)) tape (nI n) at' pa fr pn (-1) pw sc) (fun w_12 w_13 w_14 w_15 w_16 w_17 w_18 => if w_16 = (-1 : Int32) then if w_13 = (4 : Int32) then (if (12 : Int32) ≤ nI (c + 1) then some (.inl ((0 : Int32), w_12, w_13, w_14, w_15, w_16, w_17, w_18, upd lg p (nI (c + 1)))) else bd5 (F_X8_next K tape (nI n) w_12 w_13 w_14 w_15 w_17) (fun w_27 w_28 w_29 w_30 w_31 => some (.inl ((1 : Int32), w_27, w_28, w_29, w_30, w_16, w_31, w_18, upd lg p (nI (c + 1)))))) else some (.inl ((0 : Int32), w_12, w_13, w_14, w_15, w_16, w_17, w_18, upd lg p (nI (c + 1)))) else some (.inl ((0 : Int32), w_12, w_13, w_14, w_15, w_16, w_17, w_18, upd lg p (nI (c + 1))))) := by
      show B_X8_readScript_13 K (nI p) (nI n) tape 1 at' pa fr pn (-1) pw sc lg = _
      unfold B_X8_readScript_13
      rw [if_neg (by decide), xixn (by omega) (by decide), nI_clamp (by omega), ti, hlg, nI_1]
      congr 1
      funext w_12 w_13 w_14 w_15 w_16 w_17 w_18
      rw [xixn (by omega) (by decide), xixn (by omega) (by decide), xnm, xixn (by omega) (by decide), upd_at]
    have hlg1 : upd lg p (nI (c + 1)) p = nI (c + 1) := upd_at
    have hlo : ∀ j, ¬ j = p → upd lg p (nI (c + 1)) j = lg0 j := fun j hj => (upd_ne hj).trans (ho2 j hj)
    have hso : ∀ j, (j < 48 * p ∨ 48 * p + 48 ≤ j) → sc1 j = sc0 j := fun j hj => (Ho j (by omega)).trans (ho1 j hj)
    rw [E, xb6] at bc
    rw [Em, xb7] at bm
    cases hcl : stS n sg (skp n sg a) with
    | inl q =>
      obtain ⟨rfl, rfl⟩ := A q hcl
      have ew := Am q hcl
      subst ew
      have hq : q ≤ n := stS_fail h hb hcl
      have nq := nI_ne_m1 (p := q) (by omega)
      rw [if_pos rfl] at bc
      rw [if_neg nq] at bm
      refine ⟨_, _, lp_end bc, (lp_one bm).trans (m_stop _ _ _ _ _ _ _ _ _), Nat.le_of_ble_eq_true rfl, ?_, fun z => ?_, hso, hlo⟩
      · show nI q = rM2 (nI q) _ _
        unfold rM2
        rw [if_neg nq]
      · exact absurd (show nI q = -1 from z) nq
    | inr x =>
      obtain ⟨e, v1, v2, v3⟩ := x
      obtain ⟨rfl, rfl, rfl, rfl⟩ := B e v1 v2 v3 hcl
      obtain ⟨rfl, L, rfl⟩ := Bm e v1 v2 v3 hcl
      obtain ⟨c1, c2, k, hk, ek⟩ := stS_ok h hb hcl
      have hS2 := hS.step (v0 := skd n sg (skp n sg a)) (v1 := v1) (v2 := v2) (v3 := v3)
      have hK2 := hKd.step (v1 := v1) (v2 := v2) (v3 := v3) hk ek
      have hb2 := skp_le h c2
      have hb2' := skp_ge h c2
      obtain ⟨l1, l2, l3, -⟩ := id L
      have nb := nI_ne_m1 (p := skp n sg e) (by omega)
      rw [if_neg (by decide), c_isAtEnd h hc hK c2, xb2, nI_1] at bc
      rw [if_pos rfl] at bm
      by_cases q0 : sg (skp n sg e) = -1
      · rw [if_pos q0, if_neg (by decide)] at bc
        rw [if_neg (fun z => by rw [tk4.mp (l2.symm.trans z)] at q0; exact absurd q0 (by decide))] at bm
        have p0 : p2 = 0 := l2.trans (tk0.mpr q0)
        refine ⟨_, _, lp_end bc, (lp_one bm).trans (m_stop _ _ _ _ _ _ _ _ _), Nat.le_of_ble_eq_true rfl, ?_, fun z => ?_, hso, hlo⟩
        · show (-1 : Int32) = rM2 (-1) p2 f2
          unfold rM2
          rw [if_pos rfl, if_pos p0]
        · exact ⟨c + 1, by omega, by omega, rfl, hlg1, hS2, hK2⟩
      · rw [if_neg q0, if_pos rfl] at bc
        have p0 : ¬ p2 = 0 := fun z => q0 (tk0.mp (l2.symm.trans z))
        by_cases e12 : c + 1 = 12
        · rw [if_pos (show nI (c + 1) = 12 by rw [e12]; rfl)] at bc
          rw [if_pos (show (12 : Int32) ≤ nI (c + 1) by rw [e12]; decide)] at bm
          have bm' : bP K n p tape (1, at', pa, fr, pn, -1, pw, sc, lg) = some (.inl ((0 : Int32), a2, p2, f2, n2, -1, w2, l4 sc (48 * p + 4 * c) (skd n sg (skp n sg a)) v1 v2 v3, upd lg p (nI (c + 1)))) := by
            rw [bm]
            split <;> rfl
          refine ⟨_, _, lp_end bc, (lp_one bm').trans (m_stop _ _ _ _ _ _ _ _ _), Nat.le_of_ble_eq_true rfl, ?_, fun z => ?_, hso, hlo⟩
          · show nI (skp n sg e) = rM2 (-1) p2 f2
            unfold rM2
            rw [if_pos rfl, if_neg p0, l3]
          · exact absurd (show nI (skp n sg e) = -1 from z) nb
        · rw [if_neg (show ¬ nI (c + 1) = 12 by rw [x12, peq (by omega) (by decide)]; exact e12), c_readSign h hc hK hb2, skp_idem h c2] at bc
          rw [if_neg (show ¬ (12 : Int32) ≤ nI (c + 1) by rw [x12, ple (by decide) (by omega)]; omega)] at bm
          by_cases q4 : sg (skp n sg e) = 59
          · rw [if_pos q4, xb3, if_neg (by decide)] at bc
            have hlt := sg44_lt h (by decide) q4
            obtain ⟨a3, p3, f3, n3, w3, y1, y2⟩ := m_adv h ht hK hb2 L
            rw [te_s q4 (Or.inr rfl)] at y2
            rw [if_pos (l2.trans (tk4.mpr q4)), y1, xb5] at bm
            have := ih (skp n sg e + 1) (c + 1) _ _ (upd lg p (nI (c + 1))) sc0 lg0 ws1 nu1 f1 a3 p3 f3 n3 w3 Kc' (Km' + 1) (by omega) (by omega) (by omega) hS2 hK2 hlg1 hso hlo y2 (by omega) (by omega)
            rw [lp_one bc, lp_one bm]
            exact this
          · rw [if_neg q4, xb3, if_pos rfl] at bc
            rw [if_neg (fun z => q4 (tk4.mp (l2.symm.trans z)))] at bm
            refine ⟨_, _, lp_end bc, (lp_one bm).trans (m_stop _ _ _ _ _ _ _ _ _), Nat.le_of_ble_eq_true rfl, ?_, fun z => ?_, hso, hlo⟩
            · show nI (skp n sg e) = rM2 (-1) p2 f2
              unfold rM2
              rw [if_pos rfl, if_neg p0, l3]
            · exact absurd (show nI (skp n sg e) = -1 from z) nb
/-- both read a script alike -/
theorem rs_both {K n p : Nat} {sg bytes tape ru st sc lg : Nat → Int32} {c1 c2 c3 c4 c5 c6 c7 m1 m2 m3 m4 m5 : Int32} {m6 : Int64} (h : Sg n sg) (hc : TpC n sg bytes) (ht : TpM n sg tape) (hK : 400 ≤ K) (hp : p ≤ 4) :
    ∃ r ru' st' s' cn' m' ac' ws' nu' f' am' pa' fr' pn' wr' pw' sc' lg', F_X3_readScript K bytes (nI n) ru st c1 c2 c3 c4 c5 c6 c7 = some (r, ru', st', s', cn', m', ac', ws', nu', f') ∧ F_X8_readScript K (nI p) tape (nI n) m1 m2 m3 m4 m5 m6 sc lg = some (r, am', pa', fr', pn', wr', pw', sc', lg') ∧ (r = -1 → ∃ c, 1 ≤ c ∧ c ≤ 12 ∧ cn' = nI c ∧ lg' p = nI c ∧ ScOK p c st' sc' ∧ KdOK c st') ∧ (∀ j, (j < 48 * p ∨ 48 * p + 48 ≤ j) → sc' j = sc j) ∧ (∀ j, ¬ j = p → lg' j = lg j) := by
  have h1 := h.1
  obtain ⟨at', pa, fr, pn, pw, E, L⟩ := m_next (a := 0) (pa := m2) (fr := m3) (pn := m4) (pw := m6) h ht hK (by omega)
  obtain ⟨⟨t, st', cn', ac', ws', nu', f'⟩, ⟨am', pa', fr', pn', wr', pw', sc', lg'⟩, X1, X2, X3, X4, X5, X6, X7⟩ := rs_sync (p := p) h hc ht hK hp (n + 1) 0 0 st sc (upd lg p 0) sc lg c5 c6 (-1) at' pa fr pn pw K K (by omega) (by omega) (by omega) (fun j hj => by omega) (fun i hi => by omega) upd_at (fun j _ => rfl) (fun j hj => upd_ne hj) L (by omega) (by omega)
  have EC : F_X3_readScript K bytes (nI n) ru st c1 c2 c3 c4 c5 c6 c7 = some (rC2 t f' ac', upd (upd (upd ru 0 0) 1 1000) 2 100, st', 0, cn', 0, ac', ws', nu', f') := by
    unfold F_X3_readScript F_X3_start
    rw [xnm, xnm, xnm, xb6]
    rw [show lpF (fun u9 : Int32 × (Nat → Int32) × Int32 × Int32 × Int32 × Int32 × Int32 => B_X3_readScript_6 K (nI n) bytes u9.1 u9.2.1 u9.2.2.1 u9.2.2.2.1 u9.2.2.2.2.1 u9.2.2.2.2.2.1 u9.2.2.2.2.2.2) K ((0 : Int32), st, (0 : Int32), (0 : Int32), c5, c6, (-1 : Int32)) = some (t, st', cn', ac', ws', nu', f') from X1, xb7]
    have X3' : t < 4 := X3
    unfold rC2
    rcases (show t = 0 ∨ t = 1 ∨ t = 2 ∨ t = 3 by omega) with rfl | rfl | rfl | rfl <;> rfl
  have EM : F_X8_readScript K (nI p) tape (nI n) m1 m2 m3 m4 m5 m6 sc lg = some (rM2 wr' pa' fr', am', pa', fr', pn', rM2 wr' pa' fr', pw', sc', lg') := by
    unfold F_X8_readScript F_X8_begins
    rw [show F_X8_next K tape (nI n) (0 : Int32) m2 m3 m4 m6 = some (at', pa, fr, pn, pw) from E, xb5, xb6, xixn (by omega) (by decide), nI_clamp (by omega), xnm]
    rw [show lpF (fun u9 : Int32 × Int32 × Int32 × Int32 × Int32 × Int32 × Int64 × (Nat → Int32) × (Nat → Int32) => B_X8_readScript_13 K (nI p) (nI n) tape u9.1 u9.2.1 u9.2.2.1 u9.2.2.2.1 u9.2.2.2.2.1 u9.2.2.2.2.2.1 u9.2.2.2.2.2.2.1 u9.2.2.2.2.2.2.2.1 u9.2.2.2.2.2.2.2.2) K ((1 : Int32), at', pa, fr, pn, (-1 : Int32), pw, sc, upd lg p 0) = some (am', pa', fr', pn', wr', pw', sc', lg') from X2, xb8]
    unfold rM2
    by_cases q1 : wr' = -1
    · rw [if_pos q1, if_pos q1]
      by_cases q2 : pa' = 0
      · rw [if_pos q2, if_pos q2, q1]
      · rw [if_neg q2, if_neg q2, m_bad, if_pos q1, xb1]
    · rw [if_neg q1, if_neg q1]
  have X4' : rC2 t f' ac' = rM2 wr' pa' fr' := X4
  refine ⟨_, _, _, _, _, _, _, _, _, _, _, _, _, _, _, _, _, _, EC, by rw [X4']; exact EM, X5, X6, X7⟩
