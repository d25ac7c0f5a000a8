/-! both readers, number by number, word by word -/
theorem strL_ge : ∀ i, i < 12 → 3 ≤ strL.getD i 0 := by decide +kernel
theorem cd_inj : ∀ i, i < 12 → ∀ j, j < 12 → cdF i = cdF j → i = j := by decide +kernel
theorem wd_letter {n b i : Nat} {sg : Nat → Int32} (h : Sg n sg) (hbn : b ≤ n) (hi : i < 12) (q : wd n sg i b = true) : 97 ≤ sg b ∧ sg b ≤ 122 := by
  obtain ⟨e1, -⟩ := of_decide_eq_true (show decide _ = true from q)
  have := strL_ge i hi
  exact (wE_lt h hbn).mp (by omega)
theorem wd_excl {n b i j : Nat} {sg : Nat → Int32} (h : Sg n sg) (hbn : b ≤ n) (hi : i < 12) (hj : j < 12) (q1 : wd n sg i b = true) (q2 : wd n sg j b = true) : i = j := cd_inj i hi j hj (((wEq h hbn hi).mpr q1).symm.trans ((wEq h hbn hj).mpr q2))
theorem m_isX {n b i : Nat} {sg : Nat → Int32} {at' pa fr pn : Int32} {pw : Int64} (h : Sg n sg) (hbn : b ≤ n) (hi : i < 12) (hl : LA n sg b at' pa fr pn pw) : F_X8_isWord (cdF i) pa pw = some (if wd n sg i b = true then 1 else 0) := by
  rw [m_isW h hbn hi hl]
  by_cases z : wd n sg i b = true
  · rw [if_pos ⟨wd_letter h hbn hi z, z⟩, if_pos z]
  · rw [if_neg (fun y => z y.2), if_neg z]
/-- which law the word at b names -/
def lw (n : Nat) (sg : Nat → Int32) (b : Nat) : Int32 := if wd n sg 4 b = true then 0 else if wd n sg 5 b = true then 1 else if wd n sg 6 b = true then 2 else if wd n sg 7 b = true then 3 else -1
theorem lw_letter {n b : Nat} {sg : Nat → Int32} (h : Sg n sg) (hbn : b ≤ n) (q : ¬ lw n sg b = -1) : 97 ≤ sg b ∧ sg b ≤ 122 := by
  unfold lw at q
  by_cases z4 : wd n sg 4 b = true
  · exact wd_letter h hbn (by decide) z4
  · rw [if_neg z4] at q
    by_cases z5 : wd n sg 5 b = true
    · exact wd_letter h hbn (by decide) z5
    · rw [if_neg z5] at q
      by_cases z6 : wd n sg 6 b = true
      · exact wd_letter h hbn (by decide) z6
      · rw [if_neg z6] at q
        by_cases z7 : wd n sg 7 b = true
        · exact wd_letter h hbn (by decide) z7
        · rw [if_neg z7] at q
          exact absurd rfl q
theorem c_lawOfWord {K n b : Nat} {sg bytes : Nat → Int32} (h : Sg n sg) (hb : TpC n sg bytes) (hK : 400 ≤ K) (hbn : b ≤ n) : F_X3_lawOfWord K bytes (nI n) (nI (wE n sg b)) (nI b) = some (lw n sg b) := by
  unfold F_X3_lawOfWord lw
  rw [c_isWord h hb hK hbn (by decide), xb1, c_isWord h hb hK hbn (by decide), xb1, c_isWord h hb hK hbn (by decide), xb1, c_isWord h hb hK hbn (by decide), xb1]
  by_cases z4 : wd n sg 4 b = true
  · rw [if_pos z4, if_pos z4]; rfl
  · rw [if_neg z4, if_neg z4, if_pos rfl]
    by_cases z5 : wd n sg 5 b = true
    · rw [if_pos z5, if_pos z5]; rfl
    · rw [if_neg z5, if_neg z5, if_pos rfl]
      by_cases z6 : wd n sg 6 b = true
      · rw [if_pos z6, if_pos z6]; rfl
      · rw [if_neg z6, if_neg z6, if_pos rfl]
        by_cases z7 : wd n sg 7 b = true
        · rw [if_pos z7, if_pos z7]; rfl
        · rw [if_neg z7, if_neg z7]; rfl
theorem c_readLaw {K n a : Nat} {sg bytes : Nat → Int32} {w nu f : Int32} (h : Sg n sg) (hb : TpC n sg bytes) (hK : 400 ≤ K) (ha : a ≤ n) : ∃ at' w' nu', F_X3_readLaw K bytes (nI n) (nI a) w nu f = some (if lw n sg (skp n sg a) = -1 then 0 else 1, at', w', nu', if lw n sg (skp n sg a) = -1 then nI (skp n sg a) else f) ∧ (¬ lw n sg (skp n sg a) = -1 → at' = nI (wE n sg (skp n sg a)) ∧ nu' = lw n sg (skp n sg a)) := by
  have h2 := skp_le h ha
  unfold F_X3_readLaw
  rw [c_readWord h hb hK ha]
  generalize skp n sg a = b at h2 ⊢
  by_cases q : b < wE n sg b
  · rw [if_pos q, xb4, if_neg (by decide), c_lawOfWord h hb hK h2, xb1]
    by_cases z : lw n sg b = -1
    · rw [if_pos z, if_pos z, if_pos z]
      exact ⟨_, _, _, rfl, fun y => absurd z y⟩
    · rw [if_neg z, if_neg z, if_neg z]
      exact ⟨_, _, _, rfl, fun _ => ⟨rfl, rfl⟩⟩
  · rw [if_neg q, xb4, if_pos rfl]
    have z : lw n sg b = -1 := Classical.byContradiction (fun y => q ((wE_lt h h2).mpr (lw_letter h h2 y)))
    rw [if_pos z, if_pos z]
    exact ⟨_, _, _, rfl, fun y => absurd z y⟩
theorem m_word4 {K : Nat} (hK : 400 ≤ K) : F_X8_word K 115 117 109 0 0 0 = some (cdF 4) := by
  obtain ⟨k, rfl⟩ : ∃ k, K = k + 10 := ⟨K - 10, by omega⟩
  rfl
theorem m_word5 {K : Nat} (hK : 400 ≤ K) : F_X8_word K 115 113 117 97 114 101 = some (cdF 5) := by
  obtain ⟨k, rfl⟩ : ∃ k, K = k + 10 := ⟨K - 10, by omega⟩
  rfl
theorem m_word6 {K : Nat} (hK : 400 ≤ K) : F_X8_word K 109 111 115 116 0 0 = some (cdF 6) := by
  obtain ⟨k, rfl⟩ : ∃ k, K = k + 10 := ⟨K - 10, by omega⟩
  rfl
theorem m_word7 {K : Nat} (hK : 400 ≤ K) : F_X8_word K 116 97 120 105 0 0 = some (cdF 7) := by
  obtain ⟨k, rfl⟩ : ∃ k, K = k + 10 := ⟨K - 10, by omega⟩
  rfl
theorem m_bad {fr wr : Int32} : F_X8_bad fr wr = some (if wr = -1 then fr else wr) := by
  unfold F_X8_bad
  by_cases q : wr = -1
  · rw [if_pos q, if_pos q]
  · rw [if_neg q, if_neg q]
theorem m_adv {K n b : Nat} {sg tape : Nat → Int32} {at' pa fr pn : Int32} {pw : Int64} (h : Sg n sg) (hb : TpM n sg tape) (hK : 400 ≤ K) (hbn : b ≤ n) (hl : LA n sg b at' pa fr pn pw) : ∃ a2 p2 f2 n2 w2, F_X8_next K tape (nI n) at' pa fr pn pw = some (a2, p2, f2, n2, w2) ∧ LA n sg (skp n sg (te n sg b)) a2 p2 f2 n2 w2 := by
  rw [hl.1]
  exact m_next h hb hK (te_le h hbn)
theorem m_number {K n b : Nat} {sg tape : Nat → Int32} {lo hi at' pa fr pn : Int32} {pw : Int64} (h : Sg n sg) (hb : TpM n sg tape) (hK : 400 ≤ K) (hbn : b ≤ n) (hl : LA n sg b at' pa fr pn pw) : (¬ okN n sg lo hi b → F_X8_number K lo hi tape (nI n) at' pa fr pn (-1) pw = some (lo, at', pa, fr, pn, nI b, pw)) ∧ (okN n sg lo hi b → ∃ a2 p2 f2 n2 w2, F_X8_number K lo hi tape (nI n) at' pa fr pn (-1) pw = some (nN n sg b, a2, p2, f2, n2, -1, w2) ∧ LA n sg (skp n sg (dE n sg b)) a2 p2 f2 n2 w2) := by
  unfold F_X8_number
  rw [if_pos rfl, m_bad, if_pos rfl, xb1, m_inI, xb1]
  obtain ⟨e1, e2, e3, e4, e5⟩ := id hl
  by_cases q : tk n sg b = 2
  · have q2 := tk2.mp q
    rw [e2, if_pos q, e4 q]
    by_cases z : lo ≤ nN n sg b ∧ nN n sg b ≤ hi
    · have ok : okN n sg lo hi b := ⟨q2.1, q2.2, z.1, z.2⟩
      refine ⟨fun y => absurd ok y, fun _ => ?_⟩
      rw [if_pos z, if_neg (by decide)]
      obtain ⟨a2, p2, f2, n2, w2, x1, x2⟩ := m_adv h hb hK hbn (show LA n sg b at' (tk n sg b) fr (nN n sg b) pw from ⟨e1, rfl, e3, fun _ => rfl, e5⟩)
      rw [x1, xb5]
      rw [te_n q2.1] at x2
      exact ⟨a2, p2, f2, n2, w2, rfl, x2⟩
    · refine ⟨fun _ => ?_, fun y => absurd ⟨y.2.2.1, y.2.2.2⟩ z⟩
      rw [if_neg z, if_pos rfl, e3]
  · refine ⟨fun _ => ?_, fun y => absurd (tk2.mpr ⟨y.1, y.2.1⟩) q⟩
    rw [e2, if_neg q, e3]
theorem m_numberW {K : Nat} {tape : Nat → Int32} {lo hi td at' pa fr pn wr : Int32} {pw : Int64} (hw : ¬ wr = -1) : F_X8_number K lo hi tape td at' pa fr pn wr pw = some (lo, at', pa, fr, pn, wr, pw) := by
  unfold F_X8_number
  rw [if_neg hw, m_bad, if_neg hw, xb1]
theorem m_comma {K n b : Nat} {sg tape : Nat → Int32} {at' pa fr pn : Int32} {pw : Int64} (h : Sg n sg) (hb : TpM n sg tape) (hK : 400 ≤ K) (hbn : b ≤ n) (hl : LA n sg b at' pa fr pn pw) : (¬ sg b = 44 → F_X8_comma K tape (nI n) at' pa fr pn (-1) pw = some (at', pa, fr, pn, nI b, pw)) ∧ (sg b = 44 → ∃ a2 p2 f2 n2 w2, F_X8_comma K tape (nI n) at' pa fr pn (-1) pw = some (a2, p2, f2, n2, -1, w2) ∧ LA n sg (skp n sg (b + 1)) a2 p2 f2 n2 w2) := by
  unfold F_X8_comma
  rw [if_pos rfl, m_bad, if_pos rfl, xb1]
  obtain ⟨e1, e2, e3, e4, e5⟩ := id hl
  by_cases q : sg b = 44
  · refine ⟨fun y => absurd q y, fun _ => ?_⟩
    rw [if_pos (e2.trans (tk3.mpr q))]
    obtain ⟨a2, p2, f2, n2, w2, x1, x2⟩ := m_adv h hb hK hbn hl
    rw [x1, xb5]
    rw [te_s q (Or.inl rfl)] at x2
    exact ⟨a2, p2, f2, n2, w2, rfl, x2⟩
  · refine ⟨fun _ => ?_, fun y => absurd y q⟩
    rw [if_neg (fun y => q (tk3.mp (e2.symm.trans y))), e3]
theorem m_commaW {K : Nat} {tape : Nat → Int32} {td at' pa fr pn wr : Int32} {pw : Int64} (hw : ¬ wr = -1) : F_X8_comma K tape td at' pa fr pn wr pw = some (at', pa, fr, pn, wr, pw) := by
  unfold F_X8_comma
  rw [if_neg hw, m_bad, if_neg hw, xb1]
theorem m_lawWord {K n b : Nat} {sg tape : Nat → Int32} {at' pa fr pn : Int32} {pw : Int64} (h : Sg n sg) (hb : TpM n sg tape) (hK : 400 ≤ K) (hbn : b ≤ n) (hl : LA n sg b at' pa fr pn pw) : (lw n sg b = -1 → F_X8_lawWord K tape (nI n) at' pa fr pn (-1) pw = some (0, at', pa, fr, pn, nI b, pw)) ∧ (¬ lw n sg b = -1 → ∃ a2 p2 f2 n2 w2, F_X8_lawWord K tape (nI n) at' pa fr pn (-1) pw = some (lw n sg b, a2, p2, f2, n2, -1, w2) ∧ LA n sg (skp n sg (wE n sg b)) a2 p2 f2 n2 w2) := by
  obtain ⟨e1, e2, e3, e4, e5⟩ := id hl
  have J : ∀ k0 : Int32, (k0 = -1 → J_X8_lawWord_98 K (nI n) tape k0 at' pa fr pn (-1) pw = some (0, at', pa, fr, pn, nI b, pw)) ∧ (¬ k0 = -1 → (97 ≤ sg b ∧ sg b ≤ 122) → ∃ a2 p2 f2 n2 w2, J_X8_lawWord_98 K (nI n) tape k0 at' pa fr pn (-1) pw = some (k0, a2, p2, f2, n2, -1, w2) ∧ LA n sg (skp n sg (wE n sg b)) a2 p2 f2 n2 w2) := by
    intro k0
    unfold J_X8_lawWord_98
    rw [if_pos rfl, m_bad, if_pos rfl, xb1]
    refine ⟨fun q => by rw [if_pos q, e3], fun q z => ?_⟩
    rw [if_neg q]
    obtain ⟨a2, p2, f2, n2, w2, x1, x2⟩ := m_adv h hb hK hbn hl
    rw [x1, xb5]
    rw [te_w z] at x2
    exact ⟨a2, p2, f2, n2, w2, rfl, x2⟩
  have E : F_X8_lawWord K tape (nI n) at' pa fr pn (-1) pw = J_X8_lawWord_98 K (nI n) tape (lw n sg b) at' pa fr pn (-1) pw := by
    unfold F_X8_lawWord lw
    rw [m_word4 hK, xb1, m_isX h hbn (by decide) hl, xb1, m_word5 hK, xb1, m_isX h hbn (by decide) hl, xb1, m_word6 hK, xb1, m_isX h hbn (by decide) hl, xb1, m_word7 hK, xb1, m_isX h hbn (by decide) hl, xb1]
    by_cases z4 : wd n sg 4 b = true
    · rw [if_pos z4, if_pos z4, if_neg (by decide)]
    · rw [if_neg z4, if_neg z4, if_pos rfl]
      by_cases z5 : wd n sg 5 b = true
      · rw [if_pos z5, if_pos z5, if_neg (by decide)]
      · rw [if_neg z5, if_neg z5, if_pos rfl]
        by_cases z6 : wd n sg 6 b = true
        · rw [if_pos z6, if_pos z6, if_neg (by decide)]
        · rw [if_neg z6, if_neg z6, if_pos rfl]
          by_cases z7 : wd n sg 7 b = true
          · rw [if_pos z7, if_pos z7, if_neg (by decide)]
          · rw [if_neg z7, if_neg z7, if_pos rfl]
  rw [E]
  exact ⟨fun q => (J _).1 q, fun q => (J _).2 q (lw_letter h hbn q)⟩
/-- two numbers with a comma, from b on: where it fails, or its end and the numbers -/
def siS (n : Nat) (sg : Nat → Int32) (b : Nat) : Nat ⊕ (Nat × Int32 × Int32) := if okN n sg (-999) 999 b then (if sg (skp n sg (dE n sg b)) = 44 then (if okN n sg (-999) 999 (skp n sg (skp n sg (dE n sg b) + 1)) then .inr (dE n sg (skp n sg (skp n sg (dE n sg b) + 1)), nN n sg b, nN n sg (skp n sg (skp n sg (dE n sg b) + 1))) else .inl (skp n sg (skp n sg (dE n sg b) + 1))) else .inl (skp n sg (dE n sg b))) else .inl b
theorem sg44_lt {n b : Nat} {sg : Nat → Int32} (h : Sg n sg) {p : Int32} (hp : ¬ p = -1) (q : sg b = p) : b < n := Nat.lt_of_not_le (fun z => hp (q.symm.trans (h.2.1 b z)))
theorem nI_mulc (k : Nat) (a : Nat) : nI k * nI a = nI (k * a) := nI_mul k a
theorem x2c : (2 : Int32) = nI 2 := by decide
theorem c_readSite {K n a s : Nat} {sg bytes pl : Nat → Int32} {ws nu f : Int32} (h : Sg n sg) (hb : TpC n sg bytes) (hK : 400 ≤ K) (ha : a ≤ n) (hs : s < 8) : ∃ pl' at' nu' f' r s', F_X3_readSite K bytes (nI n) pl (nI s) (nI a) ws nu f = some (r, pl', s', at', nu', f') ∧ (∀ p, siS n sg (skp n sg a) = .inl p → r = 0 ∧ f' = nI p) ∧ (∀ e v1 v2, siS n sg (skp n sg a) = .inr (e, v1, v2) → r = 1 ∧ f' = f ∧ s' = nI (s + 1) ∧ at' = nI e ∧ pl' = upd (upd pl (2 * s) v1) (2 * s + 1) v2) := by
  have h1 := h.1
  have h2 := skp_le h ha
  obtain ⟨k, rfl⟩ : ∃ k, K = k + 400 := ⟨K - 400, by omega⟩
  unfold F_X3_readSite
  rw [x8, xltn (by omega) (by decide), if_pos hs]
  obtain ⟨at1, nu1, R1, R1o⟩ := c_readNumber (lo := -999) (hi := 999) (nu := nu) (f := f) h hb hK ha
  generalize hbe : skp n sg a = b at h2 R1 R1o ⊢
  have i0 : (2 : Int32) * nI s + 0 = nI (2 * s) := by rw [x2c, nI_mulc, x0, nI_add]; rfl
  have i1 : (2 : Int32) * nI s + 1 = nI (2 * s + 1) := by rw [x2c, nI_mulc, nI_1]
  have b0 : B_X3_readSite_20 (k + 400) (nI n) bytes (nI s) 0 pl (nI a) nu f = J_X3_readSite_41_r21 (k + 400) (nI n) bytes 0 pl (nI s) (nI a) nu f := by
    unfold B_X3_readSite_20
    rw [if_neg (by decide), if_neg (by decide)]
  by_cases q1 : okN n sg (-999) 999 b
  · obtain ⟨rfl, rfl⟩ := R1o q1
    rw [if_pos q1, if_pos q1] at R1
    have h3 := dE_le h h2
    have e0 : B_X3_readSite_20 (k + 400) (nI n) bytes (nI s) 0 pl (nI a) nu f = some (.inl (0 + 1, upd pl (2 * s) (nN n sg b), nI (dE n sg b), nN n sg b, f)) := by
      rw [b0]
      unfold J_X3_readSite_41_r21
      rw [R1, xb4, if_neg (by decide), i0, xixn (by omega) (by decide), xnm, nI_clamp (by omega)]
    have h4 := skp_le h h3
    have b1 : B_X3_readSite_20 (k + 400) (nI n) bytes (nI s) (0 + 1) (upd pl (2 * s) (nN n sg b)) (nI (dE n sg b)) (nN n sg b) f = bd3 (F_X3_readSign (k + 400) 44 bytes (nI n) (nI (dE n sg b)) f) (fun r_13 w_14 w_15 => if r_13 = (0 : Int32) then some (.inr (0, upd pl (2 * s) (nN n sg b), w_14, nN n sg b, w_15)) else J_X3_readSite_41_r21 (k + 400) (nI n) bytes (0 + 1) (upd pl (2 * s) (nN n sg b)) (nI s) w_14 (nN n sg b) w_15) := by
      unfold B_X3_readSite_20
      rw [if_neg (by decide), if_pos (by decide)]
    rw [c_readSign h hb hK h3] at b1
    by_cases q2 : sg (skp n sg (dE n sg b)) = 44
    · rw [if_pos q2, xb3, if_neg (by decide)] at b1
      have h5 := sg44_lt h (by decide) q2
      obtain ⟨at2, nu2, R2, R2o⟩ := c_readNumber (lo := -999) (hi := 999) (nu := nN n sg b) (f := f) h hb hK (show skp n sg (dE n sg b) + 1 ≤ n by omega)
      have h6 := skp_le h (show skp n sg (dE n sg b) + 1 ≤ n by omega)
      by_cases q3 : okN n sg (-999) 999 (skp n sg (skp n sg (dE n sg b) + 1))
      · obtain ⟨rfl, rfl⟩ := R2o q3
        rw [if_pos q3, if_pos q3] at R2
        have e1 : B_X3_readSite_20 (k + 400) (nI n) bytes (nI s) (0 + 1) (upd pl (2 * s) (nN n sg b)) (nI (dE n sg b)) (nN n sg b) f = some (.inl (0 + 1 + 1, upd (upd pl (2 * s) (nN n sg b)) (2 * s + 1) (nN n sg (skp n sg (skp n sg (dE n sg b) + 1))), nI (dE n sg (skp n sg (skp n sg (dE n sg b) + 1))), nN n sg (skp n sg (skp n sg (dE n sg b) + 1)), f)) := by
          rw [b1]
          unfold J_X3_readSite_41_r21
          rw [R2, xb4, if_neg (by decide), show (2 : Int32) * nI s + (0 + 1) = nI (2 * s + 1) from i1, xixn (by omega) (by decide), xnm, nI_clamp (by omega)]
        rw [lp_one (u' := ((0 + 1, upd pl (2 * s) (nN n sg b), nI (dE n sg b), nN n sg b, f) : Int32 × (Nat → Int32) × Int32 × Int32 × Int32)) e0]
        rw [lp_one (u' := ((0 + 1 + 1, upd (upd pl (2 * s) (nN n sg b)) (2 * s + 1) (nN n sg (skp n sg (skp n sg (dE n sg b) + 1))), nI (dE n sg (skp n sg (skp n sg (dE n sg b) + 1))), nN n sg (skp n sg (skp n sg (dE n sg b) + 1)), f) : Int32 × (Nat → Int32) × Int32 × Int32 × Int32)) e1]
        rw [lp_end (r := ((2, upd (upd pl (2 * s) (nN n sg b)) (2 * s + 1) (nN n sg (skp n sg (skp n sg (dE n sg b) + 1))), nI (dE n sg (skp n sg (skp n sg (dE n sg b) + 1))), nN n sg (skp n sg (skp n sg (dE n sg b) + 1)), f) : Nat × (Nat → Int32) × Int32 × Int32 × Int32)) (by show B_X3_readSite_20 (k + 400) (nI n) bytes (nI s) (0 + 1 + 1) _ _ _ _ = _; unfold B_X3_readSite_20; rw [if_pos (show (2 : Int32) ≤ 0 + 1 + 1 by decide)])]
        refine ⟨_, _, _, _, _, _, rfl, fun p e => ?_, fun e v1 v2 hq => ?_⟩
        · unfold siS at e
          rw [if_pos q1, if_pos q2, if_pos q3] at e
          cases e
        · unfold siS at hq
          rw [if_pos q1, if_pos q2, if_pos q3] at hq
          cases hq
          exact ⟨rfl, rfl, by rw [nI_1], rfl, rfl⟩
      · rw [if_neg q3, if_neg q3] at R2
        have e1 : B_X3_readSite_20 (k + 400) (nI n) bytes (nI s) (0 + 1) (upd pl (2 * s) (nN n sg b)) (nI (dE n sg b)) (nN n sg b) f = some (.inr (1, upd pl (2 * s) (nN n sg b), at2, nu2, nI (skp n sg (skp n sg (dE n sg b) + 1)))) := by
          rw [b1]
          unfold J_X3_readSite_41_r21
          rw [R2, xb4, if_pos rfl]
        rw [lp_one (u' := ((0 + 1, upd pl (2 * s) (nN n sg b), nI (dE n sg b), nN n sg b, f) : Int32 × (Nat → Int32) × Int32 × Int32 × Int32)) e0, lp_end (r := ((1, upd pl (2 * s) (nN n sg b), at2, nu2, nI (skp n sg (skp n sg (dE n sg b) + 1))) : Nat × (Nat → Int32) × Int32 × Int32 × Int32)) e1]
        refine ⟨_, _, _, _, _, _, rfl, fun p e => ?_, fun e v1 v2 hq => ?_⟩
        · unfold siS at e
          rw [if_pos q1, if_pos q2, if_neg q3] at e
          cases e
          exact ⟨rfl, rfl⟩
        · unfold siS at hq
          rw [if_pos q1, if_pos q2, if_neg q3] at hq
          cases hq
    · rw [if_neg q2, xb3, if_pos rfl] at b1
      rw [lp_one (u' := ((0 + 1, upd pl (2 * s) (nN n sg b), nI (dE n sg b), nN n sg b, f) : Int32 × (Nat → Int32) × Int32 × Int32 × Int32)) e0, lp_end (r := ((0, upd pl (2 * s) (nN n sg b), nI (skp n sg (dE n sg b)), nN n sg b, nI (skp n sg (dE n sg b))) : Nat × (Nat → Int32) × Int32 × Int32 × Int32)) b1]
      refine ⟨_, _, _, _, _, _, rfl, fun p e => ?_, fun e v1 v2 hq => ?_⟩
      · unfold siS at e
        rw [if_pos q1, if_neg q2] at e
        cases e
        exact ⟨rfl, rfl⟩
      · unfold siS at hq
        rw [if_pos q1, if_neg q2] at hq
        cases hq
  · rw [if_neg q1, if_neg q1] at R1
    have e0 : B_X3_readSite_20 (k + 400) (nI n) bytes (nI s) 0 pl (nI a) nu f = some (.inr (1, pl, at1, nu1, nI b)) := by
      rw [b0]
      unfold J_X3_readSite_41_r21
      rw [R1, xb4, if_pos rfl]
    rw [lp_end (r := ((1, pl, at1, nu1, nI b) : Nat × (Nat → Int32) × Int32 × Int32 × Int32)) e0]
    refine ⟨_, _, _, _, _, _, rfl, fun p e => ?_, fun e v1 v2 hq => ?_⟩
    · unfold siS at e
      rw [if_neg q1] at e
      cases e
      exact ⟨rfl, rfl⟩
    · unfold siS at hq
      rw [if_neg q1] at hq
      cases hq
