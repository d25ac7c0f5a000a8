/-! the tape's signs, tokens: what both readers see -/
/-- n signs sg (1 .. 255), -1 beyond -/
def Sg (n : Nat) (sg : Nat → Int32) : Prop := n ≤ 320 ∧ (∀ i, n ≤ i → sg i = -1) ∧ (∀ i, i < n → ¬ sg i = -1)
def TpC (n : Nat) (sg bytes : Nat → Int32) : Prop := ∀ i, i < n → bytes i &&& 255 = sg i
def TpM (n : Nat) (sg tape : Nat → Int32) : Prop := ∀ i, i < n → tape i = sg i
theorem Sg.n {n : Nat} {sg : Nat → Int32} (h : Sg n sg) : n ≤ 320 := h.1
theorem x320 : (320 : Int32) = nI 320 := by decide
theorem x0 : (0 : Int32) = nI 0 := by decide
theorem x1 : (1 : Int32) = nI 1 := by decide
theorem x7 : (7 : Int32) = nI 7 := by decide
theorem x8 : (8 : Int32) = nI 8 := by decide
theorem x12 : (12 : Int32) = nI 12 := by decide
theorem c_sign {n i : Nat} {sg bytes : Nat → Int32} (h : Sg n sg) (hb : TpC n sg bytes) (hi : i ≤ 400) : F_X6_signAt (nI i) bytes (nI n) = some (sg i) := by
  have h1 := h.1
  unfold F_X6_signAt
  rw [if_neg (nI_pos (by omega)), x320, xle (by omega) (by omega), xle (by omega) (by omega)]
  by_cases q : n ≤ i
  · rw [if_pos q, h.2.1 i q]
  · rw [if_neg q, if_neg (by omega), xixn (by omega) (by omega), nI_clamp (by omega), hb i (by omega)]
theorem m_here {n i : Nat} {sg tape : Nat → Int32} (h : Sg n sg) (hb : TpM n sg tape) (hi : i ≤ 400) : F_X8_here tape (nI n) (nI i) = some (sg i) := by
  have h1 := h.1
  unfold F_X8_here
  rw [xle (by omega) (by omega)]
  by_cases q : n ≤ i
  · rw [if_pos q, h.2.1 i q]
  · rw [if_neg q, xixn (by omega) (by omega), nI_clamp (by omega), hb i (by omega)]
def isB (sg : Nat → Int32) (i : Nat) : Bool := decide (sg i = 32)
def isL (sg : Nat → Int32) (i : Nat) : Bool := decide (97 ≤ sg i ∧ sg i ≤ 122)
def isD (sg : Nat → Int32) (i : Nat) : Bool := decide (48 ≤ sg i ∧ sg i ≤ 57)
theorem isB_n {n : Nat} {sg : Nat → Int32} (h : Sg n sg) : ∀ i, n ≤ i → isB sg i = false := fun i hi => by unfold isB; rw [h.2.1 i hi]; decide
theorem isL_n {n : Nat} {sg : Nat → Int32} (h : Sg n sg) : ∀ i, n ≤ i → isL sg i = false := fun i hi => by unfold isL; rw [h.2.1 i hi]; decide
theorem isD_n {n : Nat} {sg : Nat → Int32} (h : Sg n sg) : ∀ i, n ≤ i → isD sg i = false := fun i hi => by unfold isD; rw [h.2.1 i hi]; decide
theorem lt_not {x y : Int32} : x < y ↔ ¬ y ≤ x := by
  rw [Int32.lt_iff_toInt_lt, Int32.le_iff_toInt_le]
  omega
theorem rng3 {x lo hi : Int32} : (if x < lo then some (0 : Int32) else if hi < x then some 0 else some 1) = some (if lo ≤ x ∧ x ≤ hi then 1 else 0) := by
  by_cases h1 : lo ≤ x
  · rw [if_neg (fun q => lt_not.mp q h1)]
    by_cases h2 : x ≤ hi
    · rw [if_neg (fun q => lt_not.mp q h2), if_pos ⟨h1, h2⟩]
    · rw [if_pos (lt_not.mpr h2), if_neg (fun q => h2 q.2)]
  · rw [if_pos (lt_not.mpr h1), if_neg (fun q => h1 q.1)]
theorem c_isLetter {x : Int32} : F_X3_isLetter x = some (if 97 ≤ x ∧ x ≤ 122 then 1 else 0) := rng3
theorem c_isDigit {x : Int32} : F_X3_isDigit x = some (if 48 ≤ x ∧ x ≤ 57 then 1 else 0) := rng3
theorem m_isLetter {x : Int32} : F_X8_isLetter x = some (if 97 ≤ x ∧ x ≤ 122 then 1 else 0) := rng3
theorem m_isDigit {x : Int32} : F_X8_isDigit x = some (if 48 ≤ x ∧ x ≤ 57 then 1 else 0) := rng3
theorem ite01 {c : Prop} {d : Decidable c} (h : c) : (@ite Int32 c d 1 0) = 1 := if_pos h
/-- where blanks end -/
def skp (n : Nat) (sg : Nat → Int32) (a : Nat) : Nat := sc (isB sg) n a
theorem skp_ge {n a : Nat} {sg : Nat → Int32} (h : Sg n sg) (ha : a ≤ n) : a ≤ skp n sg a := sc_ge (isB_n h) ha
theorem skp_le {n a : Nat} {sg : Nat → Int32} (h : Sg n sg) (ha : a ≤ n) : skp n sg a ≤ n := sc_le (isB_n h) ha
theorem skp_idem {n a : Nat} {sg : Nat → Int32} (h : Sg n sg) (ha : a ≤ n) : skp n sg (skp n sg a) = skp n sg a := sc_idem (isB_n h) ha
theorem skp_nb {n a : Nat} {sg : Nat → Int32} (h : Sg n sg) (ha : a ≤ n) : ¬ sg (skp n sg a) = 32 := fun q => by
  have e := sc_end (isB_n h) ha
  unfold isB at e
  exact absurd q (of_decide_eq_false e)
theorem c_skip {K n a : Nat} {sg bytes : Nat → Int32} (h : Sg n sg) (hb : TpC n sg bytes) (hK : 400 ≤ K) (ha : a ≤ n) : F_X3_skipBlanks K bytes (nI n) (nI a) = some (nI (skp n sg a)) := by
  have h1 := h.1
  unfold F_X3_skipBlanks
  rw [show lpF (fun u9 : Int32 => B_X3_skipBlanks_0 (nI n) bytes u9) K (nI a) = some (nI (skp n sg a)) from lp_sc (isB_n h) ha (by omega) (fun i hi hp => ?_) (fun i hi hp => ?_)]
  · rfl
  · unfold isB at hp
    show B_X3_skipBlanks_0 (nI n) bytes (nI i) = _
    unfold B_X3_skipBlanks_0
    rw [xle (by omega) (by omega), if_neg (by omega), c_sign h hb (by omega), xb1, if_pos (of_decide_eq_true hp), nI_1]
  · unfold isB at hp
    show B_X3_skipBlanks_0 (nI n) bytes (nI i) = _
    unfold B_X3_skipBlanks_0
    rw [c_sign h hb (by omega), xb1, if_neg (of_decide_eq_false hp)]
    split <;> rfl
theorem m_skip {K n a : Nat} {sg tape : Nat → Int32} (h : Sg n sg) (hb : TpM n sg tape) (hK : 400 ≤ K) (ha : a ≤ n) : lpF (fun u9 : Int32 => B_X8_next_0 (nI n) tape u9) K (nI a) = some (nI (skp n sg a)) := by
  have h1 := h.1
  refine lp_sc (isB_n h) ha (by omega) (fun i hi hp => ?_) (fun i hi hp => ?_)
  · unfold isB at hp
    show B_X8_next_0 (nI n) tape (nI i) = _
    unfold B_X8_next_0
    rw [m_here h hb (by omega), xb1, if_pos (of_decide_eq_true hp), nI_1]
  · unfold isB at hp
    show B_X8_next_0 (nI n) tape (nI i) = _
    unfold B_X8_next_0
    rw [m_here h hb (by omega), xb1, if_neg (of_decide_eq_false hp)]
/-- where letters end -/
def wE (n : Nat) (sg : Nat → Int32) (b : Nat) : Nat := sc (isL sg) n b
theorem wE_ge {n a : Nat} {sg : Nat → Int32} (h : Sg n sg) (ha : a ≤ n) : a ≤ wE n sg a := sc_ge (isL_n h) ha
theorem wE_le {n a : Nat} {sg : Nat → Int32} (h : Sg n sg) (ha : a ≤ n) : wE n sg a ≤ n := sc_le (isL_n h) ha
theorem wE_in {n a i : Nat} {sg : Nat → Int32} (h : Sg n sg) (ha : a ≤ n) (h1 : a ≤ i) (h2 : i < wE n sg a) : 97 ≤ sg i ∧ sg i ≤ 122 := of_decide_eq_true (sc_in (isL_n h) ha h1 h2)
theorem wE_end {n a : Nat} {sg : Nat → Int32} (h : Sg n sg) (ha : a ≤ n) : ¬ (97 ≤ sg (wE n sg a) ∧ sg (wE n sg a) ≤ 122) := of_decide_eq_false (sc_end (isL_n h) ha)
theorem wE_lt {n b : Nat} {sg : Nat → Int32} (h : Sg n sg) (hb : b ≤ n) : b < wE n sg b ↔ (97 ≤ sg b ∧ sg b ≤ 122) := by
  constructor
  · intro q; exact wE_in h hb (Nat.le_refl _) q
  · intro q
    have hlt : b < n := Nat.lt_of_not_le (fun z => by rw [h.2.1 b z] at q; exact absurd q (by decide))
    have e : wE n sg b = wE n sg (b + 1) := sc_yes hlt (by unfold isL; exact decide_eq_true q)
    have := wE_ge h (a := b + 1) (by omega)
    omega
theorem c_letters {K n b : Nat} {sg bytes : Nat → Int32} (h : Sg n sg) (hb : TpC n sg bytes) (hK : 400 ≤ K) (ha : b ≤ n) : lpF (fun u9 : Int32 => B_X3_readWord_12 (nI n) bytes u9) K (nI b) = some (nI (wE n sg b)) := by
  have h1 := h.1
  refine lp_sc (isL_n h) ha (by omega) (fun i hi hp => ?_) (fun i hi hp => ?_)
  · unfold isL at hp
    show B_X3_readWord_12 (nI n) bytes (nI i) = _
    unfold B_X3_readWord_12
    rw [xle (by omega) (by omega), if_neg (by omega), c_sign h hb (by omega), xb1, c_isLetter, xb1, if_pos (of_decide_eq_true hp), if_neg (by decide), nI_1]
  · unfold isL at hp
    show B_X3_readWord_12 (nI n) bytes (nI i) = _
    unfold B_X3_readWord_12
    rw [c_sign h hb (by omega), xb1, c_isLetter, xb1, if_neg (of_decide_eq_false hp), if_pos rfl]
    split <;> rfl
/-- readWord of the class: it stands at a, blanks end at b -/
theorem c_readWord {K n a : Nat} {sg bytes : Nat → Int32} {w f : Int32} (h : Sg n sg) (hb : TpC n sg bytes) (hK : 400 ≤ K) (ha : a ≤ n) : F_X3_readWord K bytes (nI n) (nI a) w f = some (if skp n sg a < wE n sg (skp n sg a) then (1, nI (wE n sg (skp n sg a)), nI (skp n sg a), f) else (0, nI (wE n sg (skp n sg a)), nI (skp n sg a), nI (skp n sg a))) := by
  have h1 := h.1
  have h2 := skp_le h ha
  have h3 := wE_le h h2
  have h4 := wE_ge h h2
  unfold F_X3_readWord
  rw [c_skip h hb hK ha, xb1, c_letters h hb hK h2, xb1]
  unfold J_X3_readWord_56
  rw [xltn (by omega) (by omega)]
  by_cases q : skp n sg a < wE n sg (skp n sg a)
  · rw [if_pos q, if_pos q]
  · rw [if_neg q, if_neg q]
    unfold F_X3_failAt
    rw [xb2, if_pos rfl, show wE n sg (skp n sg a) = skp n sg a by omega]
theorem c_readSign {K n a : Nat} {sg bytes : Nat → Int32} {p f : Int32} (h : Sg n sg) (hb : TpC n sg bytes) (hK : 400 ≤ K) (ha : a ≤ n) : F_X3_readSign K p bytes (nI n) (nI a) f = some (if sg (skp n sg a) = p then (1, nI (skp n sg a + 1), f) else (0, nI (skp n sg a), nI (skp n sg a))) := by
  have h1 := h.1
  have h2 := skp_le h ha
  unfold F_X3_readSign
  rw [c_skip h hb hK ha, xb1, c_sign h hb (by omega), xb1]
  by_cases q : sg (skp n sg a) = p
  · rw [if_pos q, if_pos q, nI_1]
  · rw [if_neg q, if_neg q]
    rfl
theorem c_isAtEnd {K n a : Nat} {sg bytes : Nat → Int32} (h : Sg n sg) (hb : TpC n sg bytes) (hK : 400 ≤ K) (ha : a ≤ n) : F_X3_isAtEnd K bytes (nI n) (nI a) = some (if sg (skp n sg a) = -1 then 1 else 0, nI (skp n sg a)) := by
  have h1 := h.1
  have h2 := skp_le h ha
  unfold F_X3_isAtEnd
  rw [c_skip h hb hK ha, xb1, xltn (by omega) (by omega)]
  by_cases q : skp n sg a < n
  · rw [if_pos q, if_neg (h.2.2 _ q)]
  · rw [if_neg q, if_pos (h.2.1 _ (by omega))]
