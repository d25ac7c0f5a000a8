/-! a script's step in the reference -/
def limN (k : Nat) : Nat := if k = 0 then 3 else if k = 1 then 2 else 1
abbrev TT8 : Type := Int32 × Int32 × Int32 × Int32 × Int32 × Int32 × Int64 × (Nat → Int32)
abbrev RT7 : Type := Int32 × Int32 × Int32 × Int32 × Int32 × Int64 × (Nat → Int32)
abbrev bT (K n t k : Nat) (tape : Nat → Int32) : TT8 → Option (TT8 ⊕ RT7) := fun u9 => B_X8_readStep_177 K (nI t) (nI n) tape (nI k) u9.1 u9.2.1 u9.2.2.1 u9.2.2.2.1 u9.2.2.2.2.1 u9.2.2.2.2.2.1 u9.2.2.2.2.2.2.1 u9.2.2.2.2.2.2.2
theorem m_t0 {K n t k i : Nat} {tape sc : Nat → Int32} {at' pa fr pn wr : Int32} {pw : Int64} (hk : k < 7) : B_X8_readStep_177 K (nI t) (nI n) tape (nI k) (nI i) at' pa fr pn wr pw sc = J_X8_readStep_196_r178 K (nI t) (nI n) tape (nI (limN k)) (nI i) (nI i) at' pa fr pn wr pw sc := by
  unfold B_X8_readStep_177 limN
  rw [x0, xeq (by omega) (by decide), x1, xeq (by omega) (by decide)]
  by_cases e0 : k = 0
  · rw [if_pos e0, if_pos e0]; rfl
  · rw [if_neg e0, if_neg e0]
    by_cases e1 : k = 1
    · rw [if_pos e1, if_pos e1]; rfl
    · rw [if_neg e1, if_neg e1]
theorem lim_le {k : Nat} : limN k ≤ 3 := by
  unfold limN
  split
  · decide
  · split <;> decide
theorem m_tE {K n t k i : Nat} {tape sc : Nat → Int32} {at' pa fr pn wr : Int32} {pw : Int64} (hk : k < 7) (hi : i < 5) (h1 : limN k < i) : B_X8_readStep_177 K (nI t) (nI n) tape (nI k) (nI i) at' pa fr pn wr pw sc = some (.inr (at', pa, fr, pn, wr, pw, sc)) := by
  have := lim_le (k := k)
  rw [m_t0 hk]
  unfold J_X8_readStep_196_r178
  rw [xltn (by omega) (by omega), if_pos h1]
theorem m_anyW {K : Nat} {tape : Nat → Int32} {td at' pa fr pn wr : Int32} {pw : Int64} (hw : ¬ wr = -1) : F_X8_anyNumber K tape td at' pa fr pn wr pw = some (-9999999, at', pa, fr, pn, wr, pw) := by
  unfold F_X8_anyNumber
  rw [m_numberW hw, xb7]
theorem m_any {K n b : Nat} {sg tape : Nat → Int32} {at' pa fr pn : Int32} {pw : Int64} (h : Sg n sg) (hb : TpM n sg tape) (hK : 400 ≤ K) (hbn : b ≤ n) (hl : LA n sg b at' pa fr pn pw) : (¬ okA n sg b → F_X8_anyNumber K tape (nI n) at' pa fr pn (-1) pw = some (-9999999, at', pa, fr, pn, nI b, pw)) ∧ (okA n sg b → ∃ a2 p2 f2 n2 w2, F_X8_anyNumber K tape (nI n) at' pa fr pn (-1) pw = some (nN n sg b, a2, p2, f2, n2, -1, w2) ∧ LA n sg (skp n sg (dE n sg b)) a2 p2 f2 n2 w2) := by
  have M := m_number (lo := -9999999) (hi := 9999999) h hb hK hbn hl
  unfold F_X8_anyNumber
  refine ⟨fun q => by rw [M.1 q, xb7], fun q => ?_⟩
  obtain ⟨a2, p2, f2, n2, w2, E, L⟩ := M.2 q
  rw [E, xb7]
  exact ⟨a2, p2, f2, n2, w2, rfl, L⟩
theorem m_tW {K n t k i : Nat} {tape sc : Nat → Int32} {at' pa fr pn wr : Int32} {pw : Int64} (hk : k < 7) (ht : t ≤ 236) (hi : i ≤ limN k) (hw : ¬ wr = -1) : B_X8_readStep_177 K (nI t) (nI n) tape (nI k) (nI i) at' pa fr pn wr pw sc = some (.inl (nI (i + 1), at', pa, fr, pn, wr, pw, upd sc (t + i) (-9999999))) := by
  have := lim_le (k := k)
  rw [m_t0 hk]
  unfold J_X8_readStep_196_r178
  rw [xltn (by omega) (by omega), if_neg (by omega), m_commaW hw, xb6, m_anyW hw, xb7, nI_add, xixn (by omega) (by decide), xnm, nI_clamp (by omega), nI_1]
theorem s_tE {K n t k i : Nat} {tape sc : Nat → Int32} {at' pa fr pn wr : Int32} {pw : Int64} (hk : k < 7) (hi : i < 5) (h1 : limN k < i) : bT K n t k tape (nI i, at', pa, fr, pn, wr, pw, sc) = some (.inr (at', pa, fr, pn, wr, pw, sc)) := m_tE hk hi h1
theorem s_tW {K n t k i : Nat} {tape sc : Nat → Int32} {at' pa fr pn wr : Int32} {pw : Int64} (hk : k < 7) (ht : t ≤ 236) (hi : i ≤ limN k) (hw : ¬ wr = -1) : bT K n t k tape (nI i, at', pa, fr, pn, wr, pw, sc) = some (.inl (nI (i + 1), at', pa, fr, pn, wr, pw, upd sc (t + i) (-9999999))) := m_tW hk ht hi hw
/-- a wrong script goes on to the step's end -/
theorem m_wrong {K n t k : Nat} {tape : Nat → Int32} {wr : Int32} (hk : k < 7) (ht : t ≤ 236) (hw : ¬ wr = -1) : ∀ (d i : Nat) (sc : Nat → Int32) (at' pa fr pn : Int32) (pw : Int64) (Kt : Nat), i + d = limN k + 1 → d < Kt → ∃ sc', lpF (bT K n t k tape) Kt (nI i, at', pa, fr, pn, wr, pw, sc) = some (at', pa, fr, pn, wr, pw, sc') ∧ ∀ j, (j < t ∨ t + 4 ≤ j) → sc' j = sc j := by
  have hl := lim_le (k := k)
  intro d
  induction d with
  | zero =>
    intro i sc at' pa fr pn pw Kt h1 h2
    obtain ⟨Kt', rfl⟩ : ∃ q, Kt = q + 1 := ⟨Kt - 1, by omega⟩
    exact ⟨sc, lp_end (s_tE hk (by omega) (by omega)), fun j _ => rfl⟩
  | succ d ih =>
    intro i sc at' pa fr pn pw Kt h1 h2
    obtain ⟨Kt', rfl⟩ : ∃ q, Kt = q + 1 := ⟨Kt - 1, by omega⟩
    obtain ⟨sc', E, F⟩ := ih (i + 1) (upd sc (t + i) (-9999999)) at' pa fr pn pw Kt' (by omega) (by omega)
    refine ⟨sc', (lp_one (s_tW hk ht (by omega) hw)).trans E, fun j hj => ?_⟩
    rw [F j hj]
    exact upd_ne (by omega)
/-- a comma, then a number -/
theorem m_cnum {K n t k i b : Nat} {sg tape sc : Nat → Int32} {at' pa fr pn : Int32} {pw : Int64} (h : Sg n sg) (hb : TpM n sg tape) (hK : 400 ≤ K) (hbn : b ≤ n) (hk : k < 7) (ht : t ≤ 236) (hi : i ≤ limN k) (hl : LA n sg b at' pa fr pn pw) :
    (¬ sg b = 44 → B_X8_readStep_177 K (nI t) (nI n) tape (nI k) (nI i) at' pa fr pn (-1) pw sc = some (.inl (nI (i + 1), at', pa, fr, pn, nI b, pw, upd sc (t + i) (-9999999)))) ∧
    (sg b = 44 → ¬ okA n sg (skp n sg (b + 1)) → ∃ a2 p2 f2 n2 w2, B_X8_readStep_177 K (nI t) (nI n) tape (nI k) (nI i) at' pa fr pn (-1) pw sc = some (.inl (nI (i + 1), a2, p2, f2, n2, nI (skp n sg (b + 1)), w2, upd sc (t + i) (-9999999)))) ∧
    (sg b = 44 → okA n sg (skp n sg (b + 1)) → ∃ a2 p2 f2 n2 w2, B_X8_readStep_177 K (nI t) (nI n) tape (nI k) (nI i) at' pa fr pn (-1) pw sc = some (.inl (nI (i + 1), a2, p2, f2, n2, -1, w2, upd sc (t + i) (nN n sg (skp n sg (b + 1))))) ∧ LA n sg (skp n sg (dE n sg (skp n sg (b + 1)))) a2 p2 f2 n2 w2) := by
  have := lim_le (k := k)
  have h1 := h.1
  rw [m_t0 hk]
  unfold J_X8_readStep_196_r178
  rw [xltn (by omega) (by omega), if_neg (by omega)]
  have M := m_comma h hb hK hbn hl
  refine ⟨fun q => ?_, fun q z => ?_, fun q z => ?_⟩
  · rw [M.1 q, xb6, m_anyW (nI_ne_m1 (by omega)), xb7, nI_add, xixn (by omega) (by decide), xnm, nI_clamp (by omega), nI_1]
  · obtain ⟨a2, p2, f2, n2, w2, E, L⟩ := M.2 q
    have hlt := sg44_lt h (by decide) q
    have h7 := skp_le h (show b + 1 ≤ n by omega)
    rw [E, xb6, (m_any h hb hK h7 L).1 z, xb7, nI_add, xixn (by omega) (by decide), xnm, nI_clamp (by omega), nI_1]
    exact ⟨_, _, _, _, _, rfl⟩
  · obtain ⟨a2, p2, f2, n2, w2, E, L⟩ := M.2 q
    have hlt := sg44_lt h (by decide) q
    have h7 := skp_le h (show b + 1 ≤ n by omega)
    obtain ⟨a3, p3, f3, n3, w3, E3, L3⟩ := (m_any h hb hK h7 L).2 z
    rw [E, xb6, E3, xb7, nI_add, xixn (by omega) (by decide), xnm, nI_clamp (by omega), nI_1]
    exact ⟨_, _, _, _, _, rfl, L3⟩
theorem s_cnum {K n t k i b : Nat} {sg tape sc : Nat → Int32} {at' pa fr pn : Int32} {pw : Int64} (h : Sg n sg) (hb : TpM n sg tape) (hK : 400 ≤ K) (hbn : b ≤ n) (hk : k < 7) (ht : t ≤ 236) (hi : i ≤ limN k) (hl : LA n sg b at' pa fr pn pw) :
    (¬ sg b = 44 → bT K n t k tape (nI i, at', pa, fr, pn, -1, pw, sc) = some (.inl (nI (i + 1), at', pa, fr, pn, nI b, pw, upd sc (t + i) (-9999999)))) ∧
    (sg b = 44 → ¬ okA n sg (skp n sg (b + 1)) → ∃ a2 p2 f2 n2 w2, bT K n t k tape (nI i, at', pa, fr, pn, -1, pw, sc) = some (.inl (nI (i + 1), a2, p2, f2, n2, nI (skp n sg (b + 1)), w2, upd sc (t + i) (-9999999)))) ∧
    (sg b = 44 → okA n sg (skp n sg (b + 1)) → ∃ a2 p2 f2 n2 w2, bT K n t k tape (nI i, at', pa, fr, pn, -1, pw, sc) = some (.inl (nI (i + 1), a2, p2, f2, n2, -1, w2, upd sc (t + i) (nN n sg (skp n sg (b + 1))))) ∧ LA n sg (skp n sg (dE n sg (skp n sg (b + 1)))) a2 p2 f2 n2 w2) := m_cnum h hb hK hbn hk ht hi hl
theorem l4_out {st : Nat → Int32} {t j : Nat} {v0 v1 v2 v3 : Int32} (h : j < t ∨ t + 4 ≤ j) : l4 st t v0 v1 v2 v3 j = st j := by
  unfold l4
  rw [upd_ne (by omega), upd_ne (by omega), upd_ne (by omega), upd_ne (by omega)]
/-- J_174: the first number is there; the others -/
theorem m_more {K n t k b : Nat} {sg tape sc : Nat → Int32} {at' pa fr pn v : Int32} {pw : Int64} (h : Sg n sg) (hb : TpM n sg tape) (hK : 400 ≤ K) (hbn : b ≤ n) (hk : k < 7) (ht : t ≤ 236) (hl : LA n sg b at' pa fr pn pw) : ∃ a2 p2 f2 n2 wr w2 sc', J_X8_readStep_174 K (nI t) (nI n) tape v (nI t + 1) (nI k) at' pa fr pn (-1) pw (l4 sc t (nI k) hidI hidI hidI) = some (a2, p2, f2, n2, wr, w2, sc') ∧ (∀ j, (j < t ∨ t + 4 ≤ j) → sc' j = sc j) ∧
    (2 ≤ k → wr = -1 ∧ LA n sg b a2 p2 f2 n2 w2 ∧ sc' = l4 sc t (nI k) v hidI hidI) ∧
    (k < 2 → ¬ sg b = 44 → wr = nI b) ∧
    (k < 2 → sg b = 44 → ¬ okA n sg (skp n sg (b + 1)) → wr = nI (skp n sg (b + 1))) ∧
    (k = 1 → sg b = 44 → okA n sg (skp n sg (b + 1)) → wr = -1 ∧ LA n sg (skp n sg (dE n sg (skp n sg (b + 1)))) a2 p2 f2 n2 w2 ∧ sc' = l4 sc t (nI k) v (nN n sg (skp n sg (b + 1))) hidI) ∧
    (k = 0 → sg b = 44 → okA n sg (skp n sg (b + 1)) → ¬ sg (skp n sg (dE n sg (skp n sg (b + 1)))) = 44 → wr = nI (skp n sg (dE n sg (skp n sg (b + 1))))) ∧
    (k = 0 → sg b = 44 → okA n sg (skp n sg (b + 1)) → sg (skp n sg (dE n sg (skp n sg (b + 1)))) = 44 → ¬ okA n sg (skp n sg (skp n sg (dE n sg (skp n sg (b + 1))) + 1)) → wr = nI (skp n sg (skp n sg (dE n sg (skp n sg (b + 1))) + 1))) ∧
    (k = 0 → sg b = 44 → okA n sg (skp n sg (b + 1)) → sg (skp n sg (dE n sg (skp n sg (b + 1)))) = 44 → okA n sg (skp n sg (skp n sg (dE n sg (skp n sg (b + 1))) + 1)) → wr = -1 ∧ LA n sg (skp n sg (dE n sg (skp n sg (skp n sg (dE n sg (skp n sg (b + 1))) + 1)))) a2 p2 f2 n2 w2 ∧ sc' = l4 sc t (nI k) v (nN n sg (skp n sg (b + 1))) (nN n sg (skp n sg (skp n sg (dE n sg (skp n sg (b + 1))) + 1)))) := by
  have h1 := h.1
  obtain ⟨K', rfl⟩ : ∃ k, K = k + 10 := ⟨K - 10, by omega⟩
  have J : J_X8_readStep_174 (K' + 10) (nI t) (nI n) tape v (nI t + 1) (nI k) at' pa fr pn (-1) pw (l4 sc t (nI k) hidI hidI hidI) = bd7 (lpF (bT (K' + 10) n t k tape) (K' + 10) (nI 2, at', pa, fr, pn, -1, pw, l4 sc t (nI k) v hidI hidI)) (fun c1 c2 c3 c4 c5 c6 c7 => some (c1, c2, c3, c4, c5, c6, c7)) := by
    unfold J_X8_readStep_174
    rw [nI_1, xixn (by omega) (by decide), xnm, nI_clamp (by omega), l4_1]
    rfl
  rw [J]
  by_cases g2 : 2 ≤ k
  · have hlim : limN k = 1 := by unfold limN; rw [if_neg (by omega), if_neg (by omega)]
    rw [lp_end (s_tE hk (by decide) (by omega)), xb7]
    refine ⟨_, _, _, _, _, _, _, rfl, fun j hj => l4_out hj, fun _ => ⟨rfl, hl, rfl⟩, fun z => by omega, fun z => by omega, fun z => by omega, fun z => by omega, fun z => by omega, fun z => by omega⟩
  · have hlim : 2 ≤ limN k := by rcases (show k = 0 ∨ k = 1 by omega) with rfl | rfl <;> decide
    have C2 := s_cnum (sc := l4 sc t (nI k) v hidI hidI) (i := 2) h hb hK hbn hk ht hlim hl
    have wrong : ∀ (i d : Nat) (wr a2 p2 f2 n2 : Int32) (w2 : Int64) (s0 : Nat → Int32) (Kt : Nat), ¬ wr = -1 → i + d = limN k + 1 → d < Kt → (∀ j, (j < t ∨ t + 4 ≤ j) → s0 j = sc j) → ∃ sc', lpF (bT (K' + 10) n t k tape) Kt (nI i, a2, p2, f2, n2, wr, w2, s0) = some (a2, p2, f2, n2, wr, w2, sc') ∧ ∀ j, (j < t ∨ t + 4 ≤ j) → sc' j = sc j := fun i d wr a2 p2 f2 n2 w2 s0 Kt hw h2 h3 h4 => by
      obtain ⟨sc', E, F⟩ := m_wrong (K := K' + 10) (n := n) (tape := tape) hk ht hw d i s0 a2 p2 f2 n2 w2 Kt h2 h3
      exact ⟨sc', E, fun j hj => (F j hj).trans (h4 j hj)⟩
    have hl3 := lim_le (k := k)
    by_cases q2 : sg b = 44
    · have hlt := sg44_lt h (by decide) q2
      have h7 := skp_le h (show b + 1 ≤ n by omega)
      have h8 := dE_le h h7
      have h9 := skp_le h h8
      by_cases y2 : okA n sg (skp n sg (b + 1))
      · obtain ⟨a2, p2, f2, n2, w2, B2, L2⟩ := C2.2.2 q2 y2
        rw [l4_2] at B2
        by_cases g1 : k = 1
        · have hlim2 : limN k = 2 := by rw [g1]; decide
          rw [(lp_one B2).trans (lp_end (s_tE hk (by decide) (by omega))), xb7]
          exact ⟨_, _, _, _, _, _, _, rfl, fun j hj => l4_out hj, fun z => by omega, fun _ z => absurd q2 z, fun _ _ z => absurd y2 z, fun _ _ _ => ⟨rfl, L2, rfl⟩, fun z => by omega, fun z => by omega, fun z => by omega⟩
        · have e0 : k = 0 := by omega
          have hlim3 : limN k = 3 := by rw [e0]; decide
          have C3 := s_cnum (sc := l4 sc t (nI k) v (nN n sg (skp n sg (b + 1))) hidI) (i := 3) h hb hK h9 hk ht (by omega) L2
          by_cases q3 : sg (skp n sg (dE n sg (skp n sg (b + 1)))) = 44
          · by_cases y3 : okA n sg (skp n sg (skp n sg (dE n sg (skp n sg (b + 1))) + 1))
            · obtain ⟨a3, p3, f3, n3, w3, B3, L3⟩ := C3.2.2 q3 y3
              rw [l4_3] at B3
              rw [(lp_one B2).trans ((lp_one B3).trans (lp_end (s_tE hk (by decide) (by omega)))), xb7]
              exact ⟨_, _, _, _, _, _, _, rfl, fun j hj => l4_out hj, fun z => by omega, fun _ z => absurd q2 z, fun _ _ z => absurd y2 z, fun z => absurd z g1, fun _ _ _ z => absurd q3 z, fun _ _ _ _ z => absurd y3 z, fun _ _ _ _ _ => ⟨rfl, L3, rfl⟩⟩
            · obtain ⟨a3, p3, f3, n3, w3, B3⟩ := C3.2.1 q3 y3
              have hlt3 := sg44_lt h (by decide) q3
              have h10 := skp_le h (show skp n sg (dE n sg (skp n sg (b + 1))) + 1 ≤ n by omega)
              obtain ⟨sc', E, F⟩ := wrong 4 0 (nI (skp n sg (skp n sg (dE n sg (skp n sg (b + 1))) + 1))) a3 p3 f3 n3 w3 (upd (l4 sc t (nI k) v (nN n sg (skp n sg (b + 1))) hidI) (t + 3) (-9999999)) (K' + 8) (nI_ne_m1 (by omega)) (by omega) (by omega) (fun j hj => (upd_ne (by omega)).trans (l4_out (v0 := nI k) (v1 := v) (v2 := nN n sg (skp n sg (b + 1))) (v3 := hidI) hj))
              rw [(lp_one B2).trans ((lp_one B3).trans E), xb7]
              exact ⟨_, _, _, _, _, _, _, rfl, F, fun z => by omega, fun _ z => absurd q2 z, fun _ _ z => absurd y2 z, fun z => absurd z g1, fun _ _ _ z => absurd q3 z, fun _ _ _ _ _ => rfl, fun _ _ _ _ z => absurd z y3⟩
          · have B3 := C3.1 q3
            obtain ⟨sc', E, F⟩ := wrong 4 0 (nI (skp n sg (dE n sg (skp n sg (b + 1))))) a2 p2 f2 n2 w2 (upd (l4 sc t (nI k) v (nN n sg (skp n sg (b + 1))) hidI) (t + 3) (-9999999)) (K' + 8) (nI_ne_m1 (by omega)) (by omega) (by omega) (fun j hj => (upd_ne (by omega)).trans (l4_out (v0 := nI k) (v1 := v) (v2 := nN n sg (skp n sg (b + 1))) (v3 := hidI) hj))
            rw [(lp_one B2).trans ((lp_one B3).trans E), xb7]
            exact ⟨_, _, _, _, _, _, _, rfl, F, fun z => by omega, fun _ z => absurd q2 z, fun _ _ z => absurd y2 z, fun z => absurd z g1, fun _ _ _ _ => rfl, fun _ _ _ z => absurd z q3, fun _ _ _ z => absurd z q3⟩
      · obtain ⟨a2, p2, f2, n2, w2, B2⟩ := C2.2.1 q2 y2
        obtain ⟨sc', E, F⟩ := wrong 3 (limN k - 2) (nI (skp n sg (b + 1))) a2 p2 f2 n2 w2 (upd (l4 sc t (nI k) v hidI hidI) (t + 2) (-9999999)) (K' + 9) (nI_ne_m1 (by omega)) (by omega) (by omega) (fun j hj => (upd_ne (by omega)).trans (l4_out (v0 := nI k) (v1 := v) (v2 := hidI) (v3 := hidI) hj))
        rw [(lp_one B2).trans E, xb7]
        exact ⟨_, _, _, _, _, _, _, rfl, F, fun z => by omega, fun _ z => absurd q2 z, fun _ _ _ => rfl, fun _ _ z => absurd z y2, fun _ _ z => absurd z y2, fun _ _ z => absurd z y2, fun _ _ z => absurd z y2⟩
    · have B2 := C2.1 q2
      obtain ⟨sc', E, F⟩ := wrong 3 (limN k - 2) (nI b) at' pa fr pn pw (upd (l4 sc t (nI k) v hidI hidI) (t + 2) (-9999999)) (K' + 9) (nI_ne_m1 (by omega)) (by omega) (by omega) (fun j hj => (upd_ne (by omega)).trans (l4_out (v0 := nI k) (v1 := v) (v2 := hidI) (v3 := hidI) hj))
      rw [(lp_one B2).trans E, xb7]
      exact ⟨_, _, _, _, _, _, _, rfl, F, fun z => by omega, fun _ _ => rfl, fun _ z => absurd z q2, fun _ z => absurd z q2, fun _ z => absurd z q2, fun _ z => absurd z q2, fun _ z => absurd z q2⟩
