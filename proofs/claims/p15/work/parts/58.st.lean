-- 58.st
section
/-! a script's step in both readers -/
def hidI : Int32 := -100000000
/-- which step the word at b names -/
def skd (n : Nat) (sg : Nat → Int32) (b : Nat) : Int32 := if wd n sg 8 b = true then 0 else if wd n sg 9 b = true then 1 else if wd n sg 2 b = true then 2 else if wd n sg 1 b = true then 3 else if wd n sg 10 b = true then 4 else if wd n sg 3 b = true then 5 else if wd n sg 11 b = true then 6 else -1
abbrev okA (n : Nat) (sg : Nat → Int32) (b : Nat) : Prop := okN n sg (-9999999) 9999999 b
/-- a step at b: where it fails, or its end and its numbers -/
def stS (n : Nat) (sg : Nat → Int32) (b : Nat) : Nat ⊕ (Nat × Int32 × Int32 × Int32) :=
  if skd n sg b = -1 then .inl b
  else if skd n sg b = 4 then .inr (wE n sg b, hidI, hidI, hidI)
  else if skd n sg b = 3 then (if lw n sg (skp n sg (wE n sg b)) = -1 then .inl (skp n sg (wE n sg b)) else .inr (wE n sg (skp n sg (wE n sg b)), lw n sg (skp n sg (wE n sg b)), hidI, hidI))
  else if okA n sg (skp n sg (wE n sg b)) then (if 2 ≤ skd n sg b then .inr (dE n sg (skp n sg (wE n sg b)), nN n sg (skp n sg (wE n sg b)), hidI, hidI)
    else if sg (skp n sg (dE n sg (skp n sg (wE n sg b)))) = 44 then (if okA n sg (skp n sg (skp n sg (dE n sg (skp n sg (wE n sg b))) + 1)) then (if skd n sg b = 1 then .inr (dE n sg (skp n sg (skp n sg (dE n sg (skp n sg (wE n sg b))) + 1)), nN n sg (skp n sg (wE n sg b)), nN n sg (skp n sg (skp n sg (dE n sg (skp n sg (wE n sg b))) + 1)), hidI)
        else if sg (skp n sg (dE n sg (skp n sg (skp n sg (dE n sg (skp n sg (wE n sg b))) + 1)))) = 44 then (if okA n sg (skp n sg (skp n sg (dE n sg (skp n sg (skp n sg (dE n sg (skp n sg (wE n sg b))) + 1))) + 1)) then .inr (dE n sg (skp n sg (skp n sg (dE n sg (skp n sg (skp n sg (dE n sg (skp n sg (wE n sg b))) + 1))) + 1)), nN n sg (skp n sg (wE n sg b)), nN n sg (skp n sg (skp n sg (dE n sg (skp n sg (wE n sg b))) + 1)), nN n sg (skp n sg (skp n sg (dE n sg (skp n sg (skp n sg (dE n sg (skp n sg (wE n sg b))) + 1))) + 1))) else .inl (skp n sg (skp n sg (dE n sg (skp n sg (skp n sg (dE n sg (skp n sg (wE n sg b))) + 1))) + 1)))
        else .inl (skp n sg (dE n sg (skp n sg (skp n sg (dE n sg (skp n sg (wE n sg b))) + 1)))))
      else .inl (skp n sg (skp n sg (dE n sg (skp n sg (wE n sg b))) + 1)))
    else .inl (skp n sg (dE n sg (skp n sg (wE n sg b)))))
  else .inl (skp n sg (wE n sg b))
theorem c_stepOfWord {K n b : Nat} {sg bytes : Nat → Int32} (h : Sg n sg) (hb : TpC n sg bytes) (hK : 400 ≤ K) (hbn : b ≤ n) : F_X3_stepOfWord K bytes (nI n) (nI (wE n sg b)) (nI b) = some (skd n sg b) := by
  unfold F_X3_stepOfWord skd
  rw [c_isWord h hb hK hbn (by decide), xb1, c_isWord h hb hK hbn (by decide), xb1, c_isWord h hb hK hbn (by decide), xb1, c_isWord h hb hK hbn (by decide), xb1, c_isWord h hb hK hbn (by decide), xb1, c_isWord h hb hK hbn (by decide), xb1, c_isWord h hb hK hbn (by decide), xb1]
  by_cases z0 : wd n sg 8 b = true
  · rw [if_pos z0, if_pos z0]; rfl
  · rw [if_neg z0, if_neg z0, if_pos rfl]
    by_cases z1 : wd n sg 9 b = true
    · rw [if_pos z1, if_pos z1]; rfl
    · rw [if_neg z1, if_neg z1, if_pos rfl]
      by_cases z2 : wd n sg 2 b = true
      · rw [if_pos z2, if_pos z2]; rfl
      · rw [if_neg z2, if_neg z2, if_pos rfl]
        by_cases z3 : wd n sg 1 b = true
        · rw [if_pos z3, if_pos z3]; rfl
        · rw [if_neg z3, if_neg z3, if_pos rfl]
          by_cases z4 : wd n sg 10 b = true
          · rw [if_pos z4, if_pos z4]; rfl
          · rw [if_neg z4, if_neg z4, if_pos rfl]
            by_cases z5 : wd n sg 3 b = true
            · rw [if_pos z5, if_pos z5]; rfl
            · rw [if_neg z5, if_neg z5, if_pos rfl]
              by_cases z6 : wd n sg 11 b = true
              · rw [if_pos z6, if_pos z6]; rfl
              · rw [if_neg z6, if_neg z6]; rfl
/-- the step's word is one of seven, or none -/
theorem skd_cases {n b : Nat} {sg : Nat → Int32} (h : Sg n sg) (hbn : b ≤ n) : skd n sg b = -1 ∨ (∃ k, k < 7 ∧ skd n sg b = nI k) ∧ (97 ≤ sg b ∧ sg b ≤ 122) := by
  unfold skd
  by_cases z0 : wd n sg 8 b = true
  · rw [if_pos z0]; exact Or.inr ⟨⟨0, by decide, rfl⟩, wd_letter h hbn (by decide) z0⟩
  · rw [if_neg z0]
    by_cases z1 : wd n sg 9 b = true
    · rw [if_pos z1]; exact Or.inr ⟨⟨1, by decide, rfl⟩, wd_letter h hbn (by decide) z1⟩
    · rw [if_neg z1]
      by_cases z2 : wd n sg 2 b = true
      · rw [if_pos z2]; exact Or.inr ⟨⟨2, by decide, rfl⟩, wd_letter h hbn (by decide) z2⟩
      · rw [if_neg z2]
        by_cases z3 : wd n sg 1 b = true
        · rw [if_pos z3]; exact Or.inr ⟨⟨3, by decide, rfl⟩, wd_letter h hbn (by decide) z3⟩
        · rw [if_neg z3]
          by_cases z4 : wd n sg 10 b = true
          · rw [if_pos z4]; exact Or.inr ⟨⟨4, by decide, rfl⟩, wd_letter h hbn (by decide) z4⟩
          · rw [if_neg z4]
            by_cases z5 : wd n sg 3 b = true
            · rw [if_pos z5]; exact Or.inr ⟨⟨5, by decide, rfl⟩, wd_letter h hbn (by decide) z5⟩
            · rw [if_neg z5]
              by_cases z6 : wd n sg 11 b = true
              · rw [if_pos z6]; exact Or.inr ⟨⟨6, by decide, rfl⟩, wd_letter h hbn (by decide) z6⟩
              · rw [if_neg z6]; exact Or.inl rfl
theorem x4 : (4 : Int32) = nI 4 := by decide
theorem c_put {c i : Nat} {st : Nat → Int32} {v : Int32} (hc : c < 12) (hi : i < 4) : F_X3_putInStep (nI i) v st (nI c) = some (upd st (c * 4 + i) v) := by
  unfold F_X3_putInStep
  rw [x12, xle (by decide) (by omega), if_neg (by omega), if_neg (nI_pos (by omega)), x4, xle (by decide) (by omega), if_neg (by omega), nI_mul, nI_add, xixn (by omega) (by decide), xnm, nI_clamp (by omega)]
theorem c_startStep {K c : Nat} {st : Nat → Int32} {p : Int32} (hK : 400 ≤ K) (hc : c < 12) : F_X3_startStep K p st (nI c) = some (upd (upd (upd (upd st (c * 4 + 0) p) (c * 4 + 1) hidI) (c * 4 + 2) hidI) (c * 4 + 3) hidI) := by
  obtain ⟨k, rfl⟩ : ∃ k, K = k + 10 := ⟨K - 10, by omega⟩
  unfold F_X3_startStep
  rw [x0, c_put hc (by decide), xb1]
  have one : ∀ (i : Nat) (s0 : Nat → Int32), i < 4 → B_X3_startStep_8 (nI c) (nI i) s0 = some (.inl (nI (i + 1), upd s0 (c * 4 + i) hidI)) := fun i s0 hi => by
    unfold B_X3_startStep_8
    rw [x4, xle (by decide) (by omega), if_neg (by omega), c_put hc hi, xb1, nI_1]
    rfl
  rw [x1, lp_one (u' := ((nI 2, _) : Int32 × (Nat → Int32))) (one 1 _ (by decide)), lp_one (u' := ((nI 3, _) : Int32 × (Nat → Int32))) (one 2 _ (by decide)), lp_one (u' := ((nI 4, _) : Int32 × (Nat → Int32))) (one 3 _ (by decide)), lp_end (r := _) (by show B_X3_startStep_8 (nI c) (nI 4) _ = _; unfold B_X3_startStep_8; rw [x4, if_pos (by decide)])]
  rfl
/-- a number of a step: i is its place -/
theorem c_num {K n a c i k : Nat} {sg bytes st : Nat → Int32} {ws nu f : Int32} (h : Sg n sg) (hb : TpC n sg bytes) (hK : 400 ≤ K) (ha : a ≤ n) (hc : c < 12) (hi : i < 4) (hk : k < 7) (hk3 : ¬ k = 3) : (¬ okA n sg (skp n sg a) → ∃ x y, J_X3_readStep_67_r43 K (nI c) (nI n) bytes (nI k) (nI i) st (nI a) ws nu f = some (.inr (1, st, x, ws, y, nI (skp n sg a)))) ∧ (okA n sg (skp n sg a) → J_X3_readStep_67_r43 K (nI c) (nI n) bytes (nI k) (nI i) st (nI a) ws nu f = some (.inl (nI (i + 1), upd st (c * 4 + i) (nN n sg (skp n sg a)), nI (dE n sg (skp n sg a)), ws, nN n sg (skp n sg a), f))) := by
  unfold J_X3_readStep_67_r43
  obtain ⟨at', nu', E, A⟩ := c_readNumber (lo := -9999999) (hi := 9999999) (nu := nu) (f := f) h hb hK ha
  rw [x3, xeq (by omega) (by decide), if_neg hk3, E, xb4]
  refine ⟨fun q => ?_, fun q => ?_⟩
  · rw [if_neg q, if_neg q, if_pos rfl]
    exact ⟨at', nu', rfl⟩
  · obtain ⟨rfl, rfl⟩ := A q
    rw [if_pos q, if_pos q, if_neg (by decide), c_put hc hi, xb1, nI_1]
def nosN (k : Nat) : Nat := ([3, 2, 1, 1, 0, 1, 1] : List Nat).getD k 0
theorem nos_eq : ∀ k, k < 7 → nosF k = nI (nosN k) := by decide +kernel
theorem nos_le : ∀ k, k < 7 → nosN k ≤ 3 := by decide +kernel
theorem c_b1 {K n c k : Nat} {bytes st : Nat → Int32} {at' ws nu f : Int32} (hk : k < 7) (h1 : 1 ≤ nosN k) : B_X3_readStep_42 K (nI c) (nI n) bytes (nI k) (nI 1) st at' ws nu f = J_X3_readStep_67_r43 K (nI c) (nI n) bytes (nI k) (nI 1) st at' ws nu f := by
  have := nos_le k hk
  unfold B_X3_readStep_42
  rw [xixn (by omega) (by decide), nI_clamp (by omega), nos_eq k hk, xltn (by omega) (by decide), if_neg (by omega), x1, xle (by decide) (by decide), if_pos (by decide)]
theorem c_bN {K n c k i : Nat} {bytes st : Nat → Int32} {at' ws nu f : Int32} (hk : k < 7) (hi : 2 ≤ i) (h1 : i ≤ nosN k) : B_X3_readStep_42 K (nI c) (nI n) bytes (nI k) (nI i) st at' ws nu f = bd3 (F_X3_readSign K (44 : Int32) bytes (nI n) at' f) (fun r_41 w_42 w_43 => if r_41 = (0 : Int32) then some (.inr (0, st, w_42, ws, nu, w_43)) else J_X3_readStep_67_r43 K (nI c) (nI n) bytes (nI k) (nI i) st w_42 ws nu w_43) := by
  have := nos_le k hk
  unfold B_X3_readStep_42
  rw [xixn (by omega) (by decide), nI_clamp (by omega), nos_eq k hk, xltn (by omega) (by omega), if_neg (by omega), x1, xle (by omega) (by decide), if_neg (by omega)]
theorem c_bE {K n c k i : Nat} {bytes st : Nat → Int32} {at' ws nu f : Int32} (hk : k < 7) (hi : i < 5) (h1 : nosN k < i) : B_X3_readStep_42 K (nI c) (nI n) bytes (nI k) (nI i) st at' ws nu f = some (.inr (2, st, at', ws, nu, f)) := by
  have := nos_le k hk
  unfold B_X3_readStep_42
  rw [xixn (by omega) (by decide), nI_clamp (by omega), nos_eq k hk, xltn (by omega) (by omega), if_pos h1]
/-- a comma, then a number -/
theorem c_cnum {K n a c i k : Nat} {sg bytes st : Nat → Int32} {ws nu f : Int32} (h : Sg n sg) (hb : TpC n sg bytes) (hK : 400 ≤ K) (ha : a ≤ n) (hc : c < 12) (hi : 2 ≤ i) (hk : k < 7) (hk3 : ¬ k = 3) (h1 : i ≤ nosN k) :
    (¬ sg (skp n sg a) = 44 → ∃ x y, B_X3_readStep_42 K (nI c) (nI n) bytes (nI k) (nI i) st (nI a) ws nu f = some (.inr (0, st, x, ws, y, nI (skp n sg a)))) ∧
    (sg (skp n sg a) = 44 → ¬ okA n sg (skp n sg (skp n sg a + 1)) → ∃ x y, B_X3_readStep_42 K (nI c) (nI n) bytes (nI k) (nI i) st (nI a) ws nu f = some (.inr (1, st, x, ws, y, nI (skp n sg (skp n sg a + 1))))) ∧
    (sg (skp n sg a) = 44 → okA n sg (skp n sg (skp n sg a + 1)) → B_X3_readStep_42 K (nI c) (nI n) bytes (nI k) (nI i) st (nI a) ws nu f = some (.inl (nI (i + 1), upd st (c * 4 + i) (nN n sg (skp n sg (skp n sg a + 1))), nI (dE n sg (skp n sg (skp n sg a + 1))), ws, nN n sg (skp n sg (skp n sg a + 1)), f))) := by
  have := nos_le k hk
  rw [c_bN hk hi h1, c_readSign h hb hK ha]
  refine ⟨fun q => ?_, fun q z => ?_, fun q z => ?_⟩
  · rw [if_neg q, xb3, if_pos rfl]
    exact ⟨_, _, rfl⟩
  · have hl := sg44_lt h (by decide) q
    rw [if_pos q, xb3, if_neg (by decide)]
    exact (c_num h hb hK (by omega) hc (by omega) hk hk3).1 z
  · have hl := sg44_lt h (by decide) q
    rw [if_pos q, xb3, if_neg (by decide)]
    exact (c_num h hb hK (by omega) hc (by omega) hk hk3).2 z
def q4 (v0 v1 v2 v3 : Int32) (j : Nat) : Int32 := if j = 0 then v0 else if j = 1 then v1 else if j = 2 then v2 else v3
/-- a row with four numbers laid from t on -/
def l4 (st : Nat → Int32) (t : Nat) (v0 v1 v2 v3 : Int32) : Nat → Int32 := upd (upd (upd (upd st (t + 0) v0) (t + 1) v1) (t + 2) v2) (t + 3) v3
theorem l4_1 {st : Nat → Int32} {t : Nat} {v0 v1 v2 v3 w : Int32} : upd (l4 st t v0 v1 v2 v3) (t + 1) w = l4 st t v0 w v2 v3 := by
  funext j
  unfold l4 upd
  by_cases e3 : j = t + 3 <;> by_cases e2 : j = t + 2 <;> by_cases e1 : j = t + 1 <;> simp [e1, e2, e3]
theorem l4_2 {st : Nat → Int32} {t : Nat} {v0 v1 v2 v3 w : Int32} : upd (l4 st t v0 v1 v2 v3) (t + 2) w = l4 st t v0 v1 w v3 := by
  funext j
  unfold l4 upd
  by_cases e3 : j = t + 3 <;> by_cases e2 : j = t + 2 <;> by_cases e1 : j = t + 1 <;> simp [e1, e2, e3]
theorem l4_3 {st : Nat → Int32} {t : Nat} {v0 v1 v2 v3 w : Int32} : upd (l4 st t v0 v1 v2 v3) (t + 3) w = l4 st t v0 v1 v2 w := by
  funext j
  unfold l4 upd
  by_cases e3 : j = t + 3 <;> by_cases e2 : j = t + 2 <;> by_cases e1 : j = t + 1 <;> simp [e1, e2, e3]
abbrev TS6 : Type := Int32 × (Nat → Int32) × Int32 × Int32 × Int32 × Int32
abbrev RS6 : Type := Nat × (Nat → Int32) × Int32 × Int32 × Int32 × Int32
abbrev bS (K n c k : Nat) (bytes : Nat → Int32) : TS6 → Option (TS6 ⊕ RS6) := fun u9 => B_X3_readStep_42 K (nI c) (nI n) bytes (nI k) u9.1 u9.2.1 u9.2.2.1 u9.2.2.2.1 u9.2.2.2.2.1 u9.2.2.2.2.2
theorem s_bE {K n c k i : Nat} {bytes st : Nat → Int32} {at' ws nu f : Int32} (hk : k < 7) (hi : i < 5) (h1 : nosN k < i) : bS K n c k bytes (nI i, st, at', ws, nu, f) = some (.inr (2, st, at', ws, nu, f)) := c_bE hk hi h1
/-- where the loop over a step's numbers ends -/
def NumE (n : Nat) (sg st : Nat → Int32) (b c k : Nat) (f : Int32) (r : RS6) : Prop := (∀ p, stS n sg b = .inl p → r.1 < 2 ∧ r.2.2.2.2.2 = nI p) ∧ (∀ e v1 v2 v3, stS n sg b = .inr (e, v1, v2, v3) → r.1 = 2 ∧ r.2.2.2.2.2 = f ∧ r.2.2.1 = nI e ∧ r.2.1 = l4 st (c * 4) (nI k) v1 v2 v3)
theorem NumE.bad {n b c k p t : Nat} {sg st st' : Nat → Int32} {f x w y : Int32} (hs : stS n sg b = .inl p) (ht : t < 2) : NumE n sg st b c k f (t, st', x, w, y, nI p) := ⟨fun p' e => (by rw [hs] at e; cases e; exact ⟨ht, rfl⟩), fun e v1 v2 v3 q => by rw [hs] at q; cases q⟩
theorem NumE.good {n b c k e : Nat} {sg st : Nat → Int32} {f w y v1 v2 v3 : Int32} (hs : stS n sg b = .inr (e, v1, v2, v3)) : NumE n sg st b c k f (2, l4 st (c * 4) (nI k) v1 v2 v3, nI e, w, y, f) := ⟨fun p' q => (by rw [hs] at q; cases q), fun e v1 v2 v3 q => by rw [hs] at q; cases q; exact ⟨rfl, rfl, rfl, rfl⟩⟩
/-- the loop over a step's numbers: it ends with 2 (good) or less (bad), as stS says -/
theorem c_nums {K n b c k : Nat} {sg bytes st : Nat → Int32} {ws nu f : Int32} (h : Sg n sg) (hb : TpC n sg bytes) (hK : 400 ≤ K) (hbn : b ≤ n) (hc : c < 12) (hk : k < 7) (hsk : skd n sg b = nI k) : ∃ r, lpF (bS K n c k bytes) K (nI 1, l4 st (c * 4) (nI k) hidI hidI hidI, nI (wE n sg b), ws, nu, f) = some r ∧ NumE n sg st b c k f r := by
  obtain ⟨K', rfl⟩ : ∃ k, K = k + 10 := ⟨K - 10, by omega⟩
  have h3 := wE_le h hbn
  have h4 := skp_le h h3
  have h5 := dE_le h h4
  have h6 := skp_le h h5
  have km1 : ¬ nI k = -1 := nI_ne_m1 (by omega)
  have k4 : (nI k = 4) ↔ k = 4 := by rw [x4, nI_eq (by omega) (by decide)]
  have k3 : (nI k = 3) ↔ k = 3 := by rw [x3, nI_eq (by omega) (by decide)]
  have k1 : (nI k = 1) ↔ k = 1 := by rw [x1, nI_eq (by omega) (by decide)]
  have k2 : ((2 : Int32) ≤ nI k) ↔ 2 ≤ k := by rw [x2c, nI_leI (by decide) (by omega)]
  by_cases e4 : k = 4
  · exact ⟨_, lp_end (s_bE hk (by decide) (by rw [e4]; decide)), NumE.good (by unfold stS; rw [hsk, if_neg km1, if_pos (k4.mpr e4)])⟩
  · have m4 : ¬ nI k = 4 := fun z => e4 (k4.mp z)
    have n1 : 1 ≤ nosN k := by
      rcases (show k = 0 ∨ k = 1 ∨ k = 2 ∨ k = 3 ∨ k = 5 ∨ k = 6 by omega) with rfl | rfl | rfl | rfl | rfl | rfl <;> decide
    by_cases e3 : k = 3
    · obtain ⟨at', w', nu', E, A⟩ := c_readLaw (w := ws) (nu := nu) (f := f) h hb hK h3
      have bb : bS (K' + 10) n c k bytes (nI 1, l4 st (c * 4) (nI k) hidI hidI hidI, nI (wE n sg b), ws, nu, f) = (if (if lw n sg (skp n sg (wE n sg b)) = -1 then (0 : Int32) else 1) = 0 then some (.inr (1, l4 st (c * 4) (nI k) hidI hidI hidI, at', w', nu', if lw n sg (skp n sg (wE n sg b)) = -1 then nI (skp n sg (wE n sg b)) else f)) else bd1 (F_X3_putInStep (nI 1) nu' (l4 st (c * 4) (nI k) hidI hidI hidI) (nI c)) (fun w_39 => some (.inl (nI 1 + (1 : Int32), w_39, at', w', nu', if lw n sg (skp n sg (wE n sg b)) = -1 then nI (skp n sg (wE n sg b)) else f)))) := by
        show B_X3_readStep_42 (K' + 10) (nI c) (nI n) bytes (nI k) (nI 1) (l4 st (c * 4) (nI k) hidI hidI hidI) (nI (wE n sg b)) ws nu f = _
        rw [c_b1 hk n1]
        unfold J_X3_readStep_67_r43
        rw [if_pos (k3.mpr e3), E, xb5]
      by_cases y : lw n sg (skp n sg (wE n sg b)) = -1
      · rw [if_pos y, if_pos y, if_pos rfl] at bb
        exact ⟨_, lp_end bb, NumE.bad (by unfold stS; rw [hsk, if_neg km1, if_neg m4, if_pos (k3.mpr e3), if_pos y]) (by decide)⟩
      · obtain ⟨rfl, rfl⟩ := A y
        rw [if_neg y, if_neg y, if_neg (by decide), c_put hc (by decide), xb1, l4_1, nI_1] at bb
        exact ⟨_, (lp_one bb).trans (lp_end (s_bE hk (by decide) (by rw [e3]; decide))), NumE.good (by unfold stS; rw [hsk, if_neg km1, if_neg m4, if_pos (k3.mpr e3), if_neg y])⟩
    · have m3 : ¬ nI k = 3 := fun z => e3 (k3.mp z)
      have N := c_num (st := l4 st (c * 4) (nI k) hidI hidI hidI) (ws := ws) (nu := nu) (f := f) (i := 1) h hb hK h3 hc (by decide) hk e3
      by_cases y1 : okA n sg (skp n sg (wE n sg b))
      · have B1 : bS (K' + 10) n c k bytes (nI 1, l4 st (c * 4) (nI k) hidI hidI hidI, nI (wE n sg b), ws, nu, f) = some (.inl (nI 2, l4 st (c * 4) (nI k) (nN n sg (skp n sg (wE n sg b))) hidI hidI, nI (dE n sg (skp n sg (wE n sg b))), ws, nN n sg (skp n sg (wE n sg b)), f)) := by
          have B := (c_b1 hk n1).trans (N.2 y1)
          rw [l4_1] at B
          exact B
        by_cases g2 : 2 ≤ k
        · exact ⟨_, (lp_one B1).trans (lp_end (s_bE hk (by decide) (by rcases (show k = 2 ∨ k = 5 ∨ k = 6 by omega) with rfl | rfl | rfl <;> decide))), NumE.good (by unfold stS; rw [hsk, if_neg km1, if_neg m4, if_neg m3, if_pos y1, if_pos (k2.mpr g2)])⟩
        · have m2 : ¬ (2 : Int32) ≤ nI k := fun z => g2 (k2.mp z)
          have n2 : 2 ≤ nosN k := by rcases (show k = 0 ∨ k = 1 by omega) with rfl | rfl <;> decide
          have C2 := c_cnum (st := l4 st (c * 4) (nI k) (nN n sg (skp n sg (wE n sg b))) hidI hidI) (ws := ws) (nu := nN n sg (skp n sg (wE n sg b))) (f := f) (i := 2) h hb hK h5 hc (by decide) hk e3 n2
          by_cases q2 : sg (skp n sg (dE n sg (skp n sg (wE n sg b)))) = 44
          · have hl := sg44_lt h (by decide) q2
            have h7 := skp_le h (show skp n sg (dE n sg (skp n sg (wE n sg b))) + 1 ≤ n by omega)
            have h8 := dE_le h h7
            by_cases y2 : okA n sg (skp n sg (skp n sg (dE n sg (skp n sg (wE n sg b))) + 1))
            · have B2 : bS (K' + 10) n c k bytes (nI 2, l4 st (c * 4) (nI k) (nN n sg (skp n sg (wE n sg b))) hidI hidI, nI (dE n sg (skp n sg (wE n sg b))), ws, nN n sg (skp n sg (wE n sg b)), f) = some (.inl (nI 3, l4 st (c * 4) (nI k) (nN n sg (skp n sg (wE n sg b))) (nN n sg (skp n sg (skp n sg (dE n sg (skp n sg (wE n sg b))) + 1))) hidI, nI (dE n sg (skp n sg (skp n sg (dE n sg (skp n sg (wE n sg b))) + 1))), ws, nN n sg (skp n sg (skp n sg (dE n sg (skp n sg (wE n sg b))) + 1)), f)) := by
                have B := C2.2.2 q2 y2
                rw [l4_2] at B
                exact B
              by_cases g1 : k = 1
              · exact ⟨_, (lp_one B1).trans ((lp_one B2).trans (lp_end (s_bE hk (by decide) (by rw [g1]; decide)))), NumE.good (by unfold stS; rw [hsk, if_neg km1, if_neg m4, if_neg m3, if_pos y1, if_neg m2, if_pos q2, if_pos y2, if_pos (k1.mpr g1)])⟩
              · have m1 : ¬ nI k = 1 := fun z => g1 (k1.mp z)
                have e0 : k = 0 := by omega
                have C3 := c_cnum (st := l4 st (c * 4) (nI k) (nN n sg (skp n sg (wE n sg b))) (nN n sg (skp n sg (skp n sg (dE n sg (skp n sg (wE n sg b))) + 1))) hidI) (ws := ws) (nu := nN n sg (skp n sg (skp n sg (dE n sg (skp n sg (wE n sg b))) + 1))) (f := f) (i := 3) h hb hK h8 hc (by decide) hk e3 (by rw [e0]; decide)
                by_cases q3 : sg (skp n sg (dE n sg (skp n sg (skp n sg (dE n sg (skp n sg (wE n sg b))) + 1)))) = 44
                · by_cases y3 : okA n sg (skp n sg (skp n sg (dE n sg (skp n sg (skp n sg (dE n sg (skp n sg (wE n sg b))) + 1))) + 1))
                  · have B3 : bS (K' + 10) n c k bytes (nI 3, l4 st (c * 4) (nI k) (nN n sg (skp n sg (wE n sg b))) (nN n sg (skp n sg (skp n sg (dE n sg (skp n sg (wE n sg b))) + 1))) hidI, nI (dE n sg (skp n sg (skp n sg (dE n sg (skp n sg (wE n sg b))) + 1))), ws, nN n sg (skp n sg (skp n sg (dE n sg (skp n sg (wE n sg b))) + 1)), f) = some (.inl (nI 4, l4 st (c * 4) (nI k) (nN n sg (skp n sg (wE n sg b))) (nN n sg (skp n sg (skp n sg (dE n sg (skp n sg (wE n sg b))) + 1))) (nN n sg (skp n sg (skp n sg (dE n sg (skp n sg (skp n sg (dE n sg (skp n sg (wE n sg b))) + 1))) + 1))), nI (dE n sg (skp n sg (skp n sg (dE n sg (skp n sg (skp n sg (dE n sg (skp n sg (wE n sg b))) + 1))) + 1))), ws, nN n sg (skp n sg (skp n sg (dE n sg (skp n sg (skp n sg (dE n sg (skp n sg (wE n sg b))) + 1))) + 1)), f)) := by
                      have B := C3.2.2 q3 y3
                      rw [l4_3] at B
                      exact B
                    exact ⟨_, (lp_one B1).trans ((lp_one B2).trans ((lp_one B3).trans (lp_end (s_bE hk (by decide) (by rw [e0]; decide))))), NumE.good (by unfold stS; rw [hsk, if_neg km1, if_neg m4, if_neg m3, if_pos y1, if_neg m2, if_pos q2, if_pos y2, if_neg m1, if_pos q3, if_pos y3])⟩
                  · obtain ⟨x, y, B3⟩ := C3.2.1 q3 y3
                    exact ⟨_, (lp_one B1).trans ((lp_one B2).trans (lp_end (b := bS (K' + 10) n c k bytes) B3)), NumE.bad (by unfold stS; rw [hsk, if_neg km1, if_neg m4, if_neg m3, if_pos y1, if_neg m2, if_pos q2, if_pos y2, if_neg m1, if_pos q3, if_neg y3]) (by decide)⟩
                · obtain ⟨x, y, B3⟩ := C3.1 q3
                  exact ⟨_, (lp_one B1).trans ((lp_one B2).trans (lp_end (b := bS (K' + 10) n c k bytes) B3)), NumE.bad (by unfold stS; rw [hsk, if_neg km1, if_neg m4, if_neg m3, if_pos y1, if_neg m2, if_pos q2, if_pos y2, if_neg m1, if_neg q3]) (by decide)⟩
            · obtain ⟨x, y, B2⟩ := C2.2.1 q2 y2
              exact ⟨_, (lp_one B1).trans (lp_end (b := bS (K' + 10) n c k bytes) B2), NumE.bad (by unfold stS; rw [hsk, if_neg km1, if_neg m4, if_neg m3, if_pos y1, if_neg m2, if_pos q2, if_neg y2]) (by decide)⟩
          · obtain ⟨x, y, B2⟩ := C2.1 q2
            exact ⟨_, (lp_one B1).trans (lp_end (b := bS (K' + 10) n c k bytes) B2), NumE.bad (by unfold stS; rw [hsk, if_neg km1, if_neg m4, if_neg m3, if_pos y1, if_neg m2, if_neg q2]) (by decide)⟩
      · obtain ⟨x, y, B1⟩ := N.1 y1
        exact ⟨_, lp_end (b := bS (K' + 10) n c k bytes) ((c_b1 hk n1).trans B1), NumE.bad (by unfold stS; rw [hsk, if_neg km1, if_neg m4, if_neg m3, if_neg y1]) (by decide)⟩
theorem c_readStep {K n a c : Nat} {sg bytes st : Nat → Int32} {ws nu f : Int32} (h : Sg n sg) (hb : TpC n sg bytes) (hK : 400 ≤ K) (ha : a ≤ n) (hc : c < 12) : ∃ r st' at' ws' nu' f', F_X3_readStep K bytes (nI n) st (nI c) (nI a) ws nu f = some (r, st', at', ws', nu', f') ∧ (∀ p, stS n sg (skp n sg a) = .inl p → r = 0 ∧ f' = nI p) ∧ (∀ e v1 v2 v3, stS n sg (skp n sg a) = .inr (e, v1, v2, v3) → r = 1 ∧ f' = f ∧ at' = nI e ∧ st' = l4 st (c * 4) (skd n sg (skp n sg a)) v1 v2 v3) := by
  have h2 := skp_le h ha
  unfold F_X3_readStep
  rw [c_readWord h hb hK ha]
  generalize skp n sg a = b at h2 ⊢
  rcases skd_cases h h2 with q | ⟨⟨k, hk, q⟩, z⟩
  · have S : stS n sg b = .inl b := by unfold stS; rw [if_pos q]
    by_cases y : b < wE n sg b
    · rw [if_pos y, xb4, if_neg (by decide), c_stepOfWord h hb hK h2, xb1, q, if_pos (by decide)]
      refine ⟨_, _, _, _, _, _, rfl, fun p e => ?_, fun e v1 v2 v3 e2 => ?_⟩
      · rw [S] at e; cases e; exact ⟨rfl, rfl⟩
      · rw [S] at e2; cases e2
    · rw [if_neg y, xb4, if_pos rfl]
      refine ⟨_, _, _, _, _, _, rfl, fun p e => ?_, fun e v1 v2 v3 e2 => ?_⟩
      · rw [S] at e; cases e; exact ⟨rfl, rfl⟩
      · rw [S] at e2; cases e2
  · rw [if_pos ((wE_lt h h2).mpr z), xb4, if_neg (by decide), c_stepOfWord h hb hK h2, xb1, q, if_neg (nI_pos (by omega)), x7, xltn (by omega) (by decide), if_pos hk, c_startStep hK hc, xb1]
    obtain ⟨⟨t, st', at', ws', nu', f'⟩, E, A, B⟩ := c_nums (st := st) (ws := nI b) (nu := nu) (f := f) h hb hK h2 hc hk q
    rw [show lpF (fun u9 : Int32 × (Nat → Int32) × Int32 × Int32 × Int32 × Int32 => B_X3_readStep_42 K (nI c) (nI n) bytes (nI k) u9.1 u9.2.1 u9.2.2.1 u9.2.2.2.1 u9.2.2.2.2.1 u9.2.2.2.2.2) K ((1 : Int32), upd (upd (upd (upd st (c * 4 + 0) (nI k)) (c * 4 + 1) hidI) (c * 4 + 2) hidI) (c * 4 + 3) hidI, nI (wE n sg b), nI b, nu, f) = some (t, st', at', ws', nu', f') from E, xb6]
    cases hst : stS n sg b with
    | inl p =>
      obtain ⟨ht, rfl⟩ := A p hst
      rcases (show t = 0 ∨ t = 1 by omega) with rfl | rfl
      · refine ⟨_, _, _, _, _, _, rfl, fun p' e => ?_, fun e v1 v2 v3 e2 => by cases e2⟩
        cases e; exact ⟨rfl, rfl⟩
      · refine ⟨_, _, _, _, _, _, rfl, fun p' e => ?_, fun e v1 v2 v3 e2 => by cases e2⟩
        cases e; exact ⟨rfl, rfl⟩
    | inr x =>
      obtain ⟨e, v1, v2, v3⟩ := x
      obtain ⟨rfl, rfl, rfl, rfl⟩ := B e v1 v2 v3 hst
      refine ⟨_, _, _, _, _, _, rfl, fun p' e => (by cases e), fun e v1 v2 v3 e2 => ?_⟩
      cases e2
      exact ⟨rfl, rfl, rfl, rfl⟩
end
-- 59.sm
section
/-! a script's step in the reference -/
def limN (k : Nat) : Nat := if k = 0 then 3 else if k = 1 then 2 else 1
abbrev TT8 : Type := Int32 × Int32 × Int32 × Int32 × Int32 × Int32 × Int64 × (Nat → Int32)
abbrev RT7 : Type := Int32 × Int32 × Int32 × Int32 × Int32 × Int64 × (Nat → Int32)
abbrev bT (K n t k : Nat) (tape : Nat → Int32) : TT8 → Option (TT8 ⊕ RT7) := fun u9 => B_X8_readStep_177 K (nI t) (nI n) tape (nI k) u9.1 u9.2.1 u9.2.2.1 u9.2.2.2.1 u9.2.2.2.2.1 u9.2.2.2.2.2.1 u9.2.2.2.2.2.2.1 u9.2.2.2.2.2.2.2
theorem m_t0 {K n t k i : Nat} {tape sc : Nat → Int32} {at' pa fr pn wr : Int32} {pw : Int64} (hk : k < 7) : B_X8_readStep_177 K (nI t) (nI n) tape (nI k) (nI i) at' pa fr pn wr pw sc = J_X8_readStep_196_r178 K (nI t) (nI n) tape (nI (limN k)) (nI i) (nI i) at' pa fr pn wr pw sc := by
  unfold B_X8_readStep_177 limN
  rw [x0, xeq (by omega) (by decide), x1, xeq (by omega) (by decide)]
  by_cases e0 : k = 0
  · rw [if_pos e0, if_pos e0]; rfl
  · rw [if_neg e0, if_neg e0]
    by_cases e1 : k = 1
    · rw [if_pos e1, if_pos e1]; rfl
    · rw [if_neg e1, if_neg e1]
theorem lim_le {k : Nat} : limN k ≤ 3 := by
  unfold limN
  split
  · decide
  · split <;> decide
theorem m_tE {K n t k i : Nat} {tape sc : Nat → Int32} {at' pa fr pn wr : Int32} {pw : Int64} (hk : k < 7) (hi : i < 5) (h1 : limN k < i) : B_X8_readStep_177 K (nI t) (nI n) tape (nI k) (nI i) at' pa fr pn wr pw sc = some (.inr (at', pa, fr, pn, wr, pw, sc)) := by
  have := lim_le (k := k)
  rw [m_t0 hk]
  unfold J_X8_readStep_196_r178
  rw [xltn (by omega) (by omega), if_pos h1]
theorem m_anyW {K : Nat} {tape : Nat → Int32} {td at' pa fr pn wr : Int32} {pw : Int64} (hw : ¬ wr = -1) : F_X8_anyNumber K tape td at' pa fr pn wr pw = some (-9999999, at', pa, fr, pn, wr, pw) := by
  unfold F_X8_anyNumber
  rw [m_numberW hw, xb7]
theorem m_any {K n b : Nat} {sg tape : Nat → Int32} {at' pa fr pn : Int32} {pw : Int64} (h : Sg n sg) (hb : TpM n sg tape) (hK : 400 ≤ K) (hbn : b ≤ n) (hl : LA n sg b at' pa fr pn pw) : (¬ okA n sg b → F_X8_anyNumber K tape (nI n) at' pa fr pn (-1) pw = some (-9999999, at', pa, fr, pn, nI b, pw)) ∧ (okA n sg b → ∃ a2 p2 f2 n2 w2, F_X8_anyNumber K tape (nI n) at' pa fr pn (-1) pw = some (nN n sg b, a2, p2, f2, n2, -1, w2) ∧ LA n sg (skp n sg (dE n sg b)) a2 p2 f2 n2 w2) := by
  have M := m_number (lo := -9999999) (hi := 9999999) h hb hK hbn hl
  unfold F_X8_anyNumber
  refine ⟨fun q => by rw [M.1 q, xb7], fun q => ?_⟩
  obtain ⟨a2, p2, f2, n2, w2, E, L⟩ := M.2 q
  rw [E, xb7]
  exact ⟨a2, p2, f2, n2, w2, rfl, L⟩
theorem m_tW {K n t k i : Nat} {tape sc : Nat → Int32} {at' pa fr pn wr : Int32} {pw : Int64} (hk : k < 7) (ht : t ≤ 236) (hi : i ≤ limN k) (hw : ¬ wr = -1) : B_X8_readStep_177 K (nI t) (nI n) tape (nI k) (nI i) at' pa fr pn wr pw sc = some (.inl (nI (i + 1), at', pa, fr, pn, wr, pw, upd sc (t + i) (-9999999))) := by
  have := lim_le (k := k)
  rw [m_t0 hk]
  unfold J_X8_readStep_196_r178
  rw [xltn (by omega) (by omega), if_neg (by omega), m_commaW hw, xb6, m_anyW hw, xb7, nI_add, xixn (by omega) (by decide), xnm, nI_clamp (by omega), nI_1]
theorem s_tE {K n t k i : Nat} {tape sc : Nat → Int32} {at' pa fr pn wr : Int32} {pw : Int64} (hk : k < 7) (hi : i < 5) (h1 : limN k < i) : bT K n t k tape (nI i, at', pa, fr, pn, wr, pw, sc) = some (.inr (at', pa, fr, pn, wr, pw, sc)) := m_tE hk hi h1
theorem s_tW {K n t k i : Nat} {tape sc : Nat → Int32} {at' pa fr pn wr : Int32} {pw : Int64} (hk : k < 7) (ht : t ≤ 236) (hi : i ≤ limN k) (hw : ¬ wr = -1) : bT K n t k tape (nI i, at', pa, fr, pn, wr, pw, sc) = some (.inl (nI (i + 1), at', pa, fr, pn, wr, pw, upd sc (t + i) (-9999999))) := m_tW hk ht hi hw
/-- a wrong script goes on to the step's end -/
theorem m_wrong {K n t k : Nat} {tape : Nat → Int32} {wr : Int32} (hk : k < 7) (ht : t ≤ 236) (hw : ¬ wr = -1) : ∀ (d i : Nat) (sc : Nat → Int32) (at' pa fr pn : Int32) (pw : Int64) (Kt : Nat), i + d = limN k + 1 → d < Kt → ∃ sc', lpF (bT K n t k tape) Kt (nI i, at', pa, fr, pn, wr, pw, sc) = some (at', pa, fr, pn, wr, pw, sc') ∧ ∀ j, (j < t ∨ t + 4 ≤ j) → sc' j = sc j := by
  have hl := lim_le (k := k)
  intro d
  induction d with
  | zero =>
    intro i sc at' pa fr pn pw Kt h1 h2
    obtain ⟨Kt', rfl⟩ : ∃ q, Kt = q + 1 := ⟨Kt - 1, by omega⟩
    exact ⟨sc, lp_end (s_tE hk (by omega) (by omega)), fun j _ => rfl⟩
  | succ d ih =>
    intro i sc at' pa fr pn pw Kt h1 h2
    obtain ⟨Kt', rfl⟩ : ∃ q, Kt = q + 1 := ⟨Kt - 1, by omega⟩
    obtain ⟨sc', E, F⟩ := ih (i + 1) (upd sc (t + i) (-9999999)) at' pa fr pn pw Kt' (by omega) (by omega)
    refine ⟨sc', (lp_one (s_tW hk ht (by omega) hw)).trans E, fun j hj => ?_⟩
    rw [F j hj]
    exact upd_ne (by omega)
/-- a comma, then a number -/
theorem m_cnum {K n t k i b : Nat} {sg tape sc : Nat → Int32} {at' pa fr pn : Int32} {pw : Int64} (h : Sg n sg) (hb : TpM n sg tape) (hK : 400 ≤ K) (hbn : b ≤ n) (hk : k < 7) (ht : t ≤ 236) (hi : i ≤ limN k) (hl : LA n sg b at' pa fr pn pw) :
    (¬ sg b = 44 → B_X8_readStep_177 K (nI t) (nI n) tape (nI k) (nI i) at' pa fr pn (-1) pw sc = some (.inl (nI (i + 1), at', pa, fr, pn, nI b, pw, upd sc (t + i) (-9999999)))) ∧
    (sg b = 44 → ¬ okA n sg (skp n sg (b + 1)) → ∃ a2 p2 f2 n2 w2, B_X8_readStep_177 K (nI t) (nI n) tape (nI k) (nI i) at' pa fr pn (-1) pw sc = some (.inl (nI (i + 1), a2, p2, f2, n2, nI (skp n sg (b + 1)), w2, upd sc (t + i) (-9999999)))) ∧
    (sg b = 44 → okA n sg (skp n sg (b + 1)) → ∃ a2 p2 f2 n2 w2, B_X8_readStep_177 K (nI t) (nI n) tape (nI k) (nI i) at' pa fr pn (-1) pw sc = some (.inl (nI (i + 1), a2, p2, f2, n2, -1, w2, upd sc (t + i) (nN n sg (skp n sg (b + 1))))) ∧ LA n sg (skp n sg (dE n sg (skp n sg (b + 1)))) a2 p2 f2 n2 w2) := by
  have := lim_le (k := k)
  have h1 := h.1
  rw [m_t0 hk]
  unfold J_X8_readStep_196_r178
  rw [xltn (by omega) (by omega), if_neg (by omega)]
  have M := m_comma h hb hK hbn hl
  refine ⟨fun q => ?_, fun q z => ?_, fun q z => ?_⟩
  · rw [M.1 q, xb6, m_anyW (nI_ne_m1 (by omega)), xb7, nI_add, xixn (by omega) (by decide), xnm, nI_clamp (by omega), nI_1]
  · obtain ⟨a2, p2, f2, n2, w2, E, L⟩ := M.2 q
    have hlt := sg44_lt h (by decide) q
    have h7 := skp_le h (show b + 1 ≤ n by omega)
    rw [E, xb6, (m_any h hb hK h7 L).1 z, xb7, nI_add, xixn (by omega) (by decide), xnm, nI_clamp (by omega), nI_1]
    exact ⟨_, _, _, _, _, rfl⟩
  · obtain ⟨a2, p2, f2, n2, w2, E, L⟩ := M.2 q
    have hlt := sg44_lt h (by decide) q
    have h7 := skp_le h (show b + 1 ≤ n by omega)
    obtain ⟨a3, p3, f3, n3, w3, E3, L3⟩ := (m_any h hb hK h7 L).2 z
    rw [E, xb6, E3, xb7, nI_add, xixn (by omega) (by decide), xnm, nI_clamp (by omega), nI_1]
    exact ⟨_, _, _, _, _, rfl, L3⟩
theorem s_cnum {K n t k i b : Nat} {sg tape sc : Nat → Int32} {at' pa fr pn : Int32} {pw : Int64} (h : Sg n sg) (hb : TpM n sg tape) (hK : 400 ≤ K) (hbn : b ≤ n) (hk : k < 7) (ht : t ≤ 236) (hi : i ≤ limN k) (hl : LA n sg b at' pa fr pn pw) :
    (¬ sg b = 44 → bT K n t k tape (nI i, at', pa, fr, pn, -1, pw, sc) = some (.inl (nI (i + 1), at', pa, fr, pn, nI b, pw, upd sc (t + i) (-9999999)))) ∧
    (sg b = 44 → ¬ okA n sg (skp n sg (b + 1)) → ∃ a2 p2 f2 n2 w2, bT K n t k tape (nI i, at', pa, fr, pn, -1, pw, sc) = some (.inl (nI (i + 1), a2, p2, f2, n2, nI (skp n sg (b + 1)), w2, upd sc (t + i) (-9999999)))) ∧
    (sg b = 44 → okA n sg (skp n sg (b + 1)) → ∃ a2 p2 f2 n2 w2, bT K n t k tape (nI i, at', pa, fr, pn, -1, pw, sc) = some (.inl (nI (i + 1), a2, p2, f2, n2, -1, w2, upd sc (t + i) (nN n sg (skp n sg (b + 1))))) ∧ LA n sg (skp n sg (dE n sg (skp n sg (b + 1)))) a2 p2 f2 n2 w2) := m_cnum h hb hK hbn hk ht hi hl
theorem l4_out {st : Nat → Int32} {t j : Nat} {v0 v1 v2 v3 : Int32} (h : j < t ∨ t + 4 ≤ j) : l4 st t v0 v1 v2 v3 j = st j := by
  unfold l4
  rw [upd_ne (by omega), upd_ne (by omega), upd_ne (by omega), upd_ne (by omega)]
/-- J_174: the first number is there; the others -/
theorem m_more {K n t k b : Nat} {sg tape sc : Nat → Int32} {at' pa fr pn v : Int32} {pw : Int64} (h : Sg n sg) (hb : TpM n sg tape) (hK : 400 ≤ K) (hbn : b ≤ n) (hk : k < 7) (ht : t ≤ 236) (hl : LA n sg b at' pa fr pn pw) : ∃ a2 p2 f2 n2 wr w2 sc', J_X8_readStep_174 K (nI t) (nI n) tape v (nI t + 1) (nI k) at' pa fr pn (-1) pw (l4 sc t (nI k) hidI hidI hidI) = some (a2, p2, f2, n2, wr, w2, sc') ∧ (∀ j, (j < t ∨ t + 4 ≤ j) → sc' j = sc j) ∧
    (2 ≤ k → wr = -1 ∧ LA n sg b a2 p2 f2 n2 w2 ∧ sc' = l4 sc t (nI k) v hidI hidI) ∧
    (k < 2 → ¬ sg b = 44 → wr = nI b) ∧
    (k < 2 → sg b = 44 → ¬ okA n sg (skp n sg (b + 1)) → wr = nI (skp n sg (b + 1))) ∧
    (k = 1 → sg b = 44 → okA n sg (skp n sg (b + 1)) → wr = -1 ∧ LA n sg (skp n sg (dE n sg (skp n sg (b + 1)))) a2 p2 f2 n2 w2 ∧ sc' = l4 sc t (nI k) v (nN n sg (skp n sg (b + 1))) hidI) ∧
    (k = 0 → sg b = 44 → okA n sg (skp n sg (b + 1)) → ¬ sg (skp n sg (dE n sg (skp n sg (b + 1)))) = 44 → wr = nI (skp n sg (dE n sg (skp n sg (b + 1))))) ∧
    (k = 0 → sg b = 44 → okA n sg (skp n sg (b + 1)) → sg (skp n sg (dE n sg (skp n sg (b + 1)))) = 44 → ¬ okA n sg (skp n sg (skp n sg (dE n sg (skp n sg (b + 1))) + 1)) → wr = nI (skp n sg (skp n sg (dE n sg (skp n sg (b + 1))) + 1))) ∧
    (k = 0 → sg b = 44 → okA n sg (skp n sg (b + 1)) → sg (skp n sg (dE n sg (skp n sg (b + 1)))) = 44 → okA n sg (skp n sg (skp n sg (dE n sg (skp n sg (b + 1))) + 1)) → wr = -1 ∧ LA n sg (skp n sg (dE n sg (skp n sg (skp n sg (dE n sg (skp n sg (b + 1))) + 1)))) a2 p2 f2 n2 w2 ∧ sc' = l4 sc t (nI k) v (nN n sg (skp n sg (b + 1))) (nN n sg (skp n sg (skp n sg (dE n sg (skp n sg (b + 1))) + 1)))) := by
  have h1 := h.1
  obtain ⟨K', rfl⟩ : ∃ k, K = k + 10 := ⟨K - 10, by omega⟩
  have J : J_X8_readStep_174 (K' + 10) (nI t) (nI n) tape v (nI t + 1) (nI k) at' pa fr pn (-1) pw (l4 sc t (nI k) hidI hidI hidI) = bd7 (lpF (bT (K' + 10) n t k tape) (K' + 10) (nI 2, at', pa, fr, pn, -1, pw, l4 sc t (nI k) v hidI hidI)) (fun c1 c2 c3 c4 c5 c6 c7 => some (c1, c2, c3, c4, c5, c6, c7)) := by
    unfold J_X8_readStep_174
    rw [nI_1, xixn (by omega) (by decide), xnm, nI_clamp (by omega), l4_1]
    rfl
  rw [J]
  by_cases g2 : 2 ≤ k
  · have hlim : limN k = 1 := by unfold limN; rw [if_neg (by omega), if_neg (by omega)]
    rw [lp_end (s_tE hk (by decide) (by omega)), xb7]
    refine ⟨_, _, _, _, _, _, _, rfl, fun j hj => l4_out hj, fun _ => ⟨rfl, hl, rfl⟩, fun z => by omega, fun z => by omega, fun z => by omega, fun z => by omega, fun z => by omega, fun z => by omega⟩
  · have hlim : 2 ≤ limN k := by rcases (show k = 0 ∨ k = 1 by omega) with rfl | rfl <;> decide
    have C2 := s_cnum (sc := l4 sc t (nI k) v hidI hidI) (i := 2) h hb hK hbn hk ht hlim hl
    have wrong : ∀ (i d : Nat) (wr a2 p2 f2 n2 : Int32) (w2 : Int64) (s0 : Nat → Int32) (Kt : Nat), ¬ wr = -1 → i + d = limN k + 1 → d < Kt → (∀ j, (j < t ∨ t + 4 ≤ j) → s0 j = sc j) → ∃ sc', lpF (bT (K' + 10) n t k tape) Kt (nI i, a2, p2, f2, n2, wr, w2, s0) = some (a2, p2, f2, n2, wr, w2, sc') ∧ ∀ j, (j < t ∨ t + 4 ≤ j) → sc' j = sc j := fun i d wr a2 p2 f2 n2 w2 s0 Kt hw h2 h3 h4 => by
      obtain ⟨sc', E, F⟩ := m_wrong (K := K' + 10) (n := n) (tape := tape) hk ht hw d i s0 a2 p2 f2 n2 w2 Kt h2 h3
      exact ⟨sc', E, fun j hj => (F j hj).trans (h4 j hj)⟩
    have hl3 := lim_le (k := k)
    by_cases q2 : sg b = 44
    · have hlt := sg44_lt h (by decide) q2
      have h7 := skp_le h (show b + 1 ≤ n by omega)
      have h8 := dE_le h h7
      have h9 := skp_le h h8
      by_cases y2 : okA n sg (skp n sg (b + 1))
      · obtain ⟨a2, p2, f2, n2, w2, B2, L2⟩ := C2.2.2 q2 y2
        rw [l4_2] at B2
        by_cases g1 : k = 1
        · have hlim2 : limN k = 2 := by rw [g1]; decide
          rw [(lp_one B2).trans (lp_end (s_tE hk (by decide) (by omega))), xb7]
          exact ⟨_, _, _, _, _, _, _, rfl, fun j hj => l4_out hj, fun z => by omega, fun _ z => absurd q2 z, fun _ _ z => absurd y2 z, fun _ _ _ => ⟨rfl, L2, rfl⟩, fun z => by omega, fun z => by omega, fun z => by omega⟩
        · have e0 : k = 0 := by omega
          have hlim3 : limN k = 3 := by rw [e0]; decide
          have C3 := s_cnum (sc := l4 sc t (nI k) v (nN n sg (skp n sg (b + 1))) hidI) (i := 3) h hb hK h9 hk ht (by omega) L2
          by_cases q3 : sg (skp n sg (dE n sg (skp n sg (b + 1)))) = 44
          · by_cases y3 : okA n sg (skp n sg (skp n sg (dE n sg (skp n sg (b + 1))) + 1))
            · obtain ⟨a3, p3, f3, n3, w3, B3, L3⟩ := C3.2.2 q3 y3
              rw [l4_3] at B3
              rw [(lp_one B2).trans ((lp_one B3).trans (lp_end (s_tE hk (by decide) (by omega)))), xb7]
              exact ⟨_, _, _, _, _, _, _, rfl, fun j hj => l4_out hj, fun z => by omega, fun _ z => absurd q2 z, fun _ _ z => absurd y2 z, fun z => absurd z g1, fun _ _ _ z => absurd q3 z, fun _ _ _ _ z => absurd y3 z, fun _ _ _ _ _ => ⟨rfl, L3, rfl⟩⟩
            · obtain ⟨a3, p3, f3, n3, w3, B3⟩ := C3.2.1 q3 y3
              have hlt3 := sg44_lt h (by decide) q3
              have h10 := skp_le h (show skp n sg (dE n sg (skp n sg (b + 1))) + 1 ≤ n by omega)
              obtain ⟨sc', E, F⟩ := wrong 4 0 (nI (skp n sg (skp n sg (dE n sg (skp n sg (b + 1))) + 1))) a3 p3 f3 n3 w3 (upd (l4 sc t (nI k) v (nN n sg (skp n sg (b + 1))) hidI) (t + 3) (-9999999)) (K' + 8) (nI_ne_m1 (by omega)) (by omega) (by omega) (fun j hj => (upd_ne (by omega)).trans (l4_out (v0 := nI k) (v1 := v) (v2 := nN n sg (skp n sg (b + 1))) (v3 := hidI) hj))
              rw [(lp_one B2).trans ((lp_one B3).trans E), xb7]
              exact ⟨_, _, _, _, _, _, _, rfl, F, fun z => by omega, fun _ z => absurd q2 z, fun _ _ z => absurd y2 z, fun z => absurd z g1, fun _ _ _ z => absurd q3 z, fun _ _ _ _ _ => rfl, fun _ _ _ _ z => absurd z y3⟩
          · have B3 := C3.1 q3
            obtain ⟨sc', E, F⟩ := wrong 4 0 (nI (skp n sg (dE n sg (skp n sg (b + 1))))) a2 p2 f2 n2 w2 (upd (l4 sc t (nI k) v (nN n sg (skp n sg (b + 1))) hidI) (t + 3) (-9999999)) (K' + 8) (nI_ne_m1 (by omega)) (by omega) (by omega) (fun j hj => (upd_ne (by omega)).trans (l4_out (v0 := nI k) (v1 := v) (v2 := nN n sg (skp n sg (b + 1))) (v3 := hidI) hj))
            rw [(lp_one B2).trans ((lp_one B3).trans E), xb7]
            exact ⟨_, _, _, _, _, _, _, rfl, F, fun z => by omega, fun _ z => absurd q2 z, fun _ _ z => absurd y2 z, fun z => absurd z g1, fun _ _ _ _ => rfl, fun _ _ _ z => absurd z q3, fun _ _ _ z => absurd z q3⟩
      · obtain ⟨a2, p2, f2, n2, w2, B2⟩ := C2.2.1 q2 y2
        obtain ⟨sc', E, F⟩ := wrong 3 (limN k - 2) (nI (skp n sg (b + 1))) a2 p2 f2 n2 w2 (upd (l4 sc t (nI k) v hidI hidI) (t + 2) (-9999999)) (K' + 9) (nI_ne_m1 (by omega)) (by omega) (by omega) (fun j hj => (upd_ne (by omega)).trans (l4_out (v0 := nI k) (v1 := v) (v2 := hidI) (v3 := hidI) hj))
        rw [(lp_one B2).trans E, xb7]
        exact ⟨_, _, _, _, _, _, _, rfl, F, fun z => by omega, fun _ z => absurd q2 z, fun _ _ _ => rfl, fun _ _ z => absurd z y2, fun _ _ z => absurd z y2, fun _ _ z => absurd z y2, fun _ _ z => absurd z y2⟩
    · have B2 := C2.1 q2
      obtain ⟨sc', E, F⟩ := wrong 3 (limN k - 2) (nI b) at' pa fr pn pw (upd (l4 sc t (nI k) v hidI hidI) (t + 2) (-9999999)) (K' + 9) (nI_ne_m1 (by omega)) (by omega) (by omega) (fun j hj => (upd_ne (by omega)).trans (l4_out (v0 := nI k) (v1 := v) (v2 := hidI) (v3 := hidI) hj))
      rw [(lp_one B2).trans E, xb7]
      exact ⟨_, _, _, _, _, _, _, rfl, F, fun z => by omega, fun _ _ => rfl, fun _ z => absurd z q2, fun _ z => absurd z q2, fun _ z => absurd z q2, fun _ z => absurd z q2, fun _ z => absurd z q2⟩
end
-- 60.sr
section
/-! a script's step in the reference, whole -/
theorem m_moreW {K n t k : Nat} {tape sc : Nat → Int32} {at' pa fr pn v wr : Int32} {pw : Int64} (hK : 400 ≤ K) (hk : k < 7) (ht : t ≤ 236) (hw : ¬ wr = -1) : ∃ sc', J_X8_readStep_174 K (nI t) (nI n) tape v (nI t + 1) (nI k) at' pa fr pn wr pw (l4 sc t (nI k) hidI hidI hidI) = some (at', pa, fr, pn, wr, pw, sc') ∧ (∀ j, (j < t ∨ t + 4 ≤ j) → sc' j = sc j) := by
  have hl := lim_le (k := k)
  have hl1 : 1 ≤ limN k := by
    unfold limN
    split
    · decide
    · split <;> decide
  have J : J_X8_readStep_174 K (nI t) (nI n) tape v (nI t + 1) (nI k) at' pa fr pn wr pw (l4 sc t (nI k) hidI hidI hidI) = bd7 (lpF (bT K n t k tape) K (nI 2, at', pa, fr, pn, wr, pw, l4 sc t (nI k) v hidI hidI)) (fun c1 c2 c3 c4 c5 c6 c7 => some (c1, c2, c3, c4, c5, c6, c7)) := by
    unfold J_X8_readStep_174
    rw [nI_1, xixn (by omega) (by decide), xnm, nI_clamp (by omega), l4_1]
    rfl
  obtain ⟨sc', E, F⟩ := m_wrong (K := K) (n := n) (tape := tape) hk ht hw (limN k - 1) 2 (l4 sc t (nI k) v hidI hidI) at' pa fr pn pw K (by omega) (by omega)
  rw [J, E, xb7]
  exact ⟨sc', rfl, fun j hj => (F j hj).trans (l4_out hj)⟩
theorem m_start {K t : Nat} {sc : Nat → Int32} {v : Int32} (hK : 400 ≤ K) (ht : t ≤ 236) : lpF (fun u9 : Int32 × (Nat → Int32) => B_X8_readStep_124 (nI t) u9.1 u9.2) K ((1 : Int32), upd sc t v) = some (l4 sc t v hidI hidI hidI) := by
  obtain ⟨k, rfl⟩ : ∃ k, K = k + 10 := ⟨K - 10, by omega⟩
  have one : ∀ (i : Nat) (s0 : Nat → Int32), i < 4 → (fun u9 : Int32 × (Nat → Int32) => B_X8_readStep_124 (nI t) u9.1 u9.2) (nI i, s0) = some (.inl (nI (i + 1), upd s0 (t + i) hidI)) := fun i s0 hi => by
    show B_X8_readStep_124 (nI t) (nI i) s0 = _
    unfold B_X8_readStep_124
    rw [x4, xle (by decide) (by omega), if_neg (by omega), nI_add, xixn (by omega) (by decide), xnm, nI_clamp (by omega), nI_1]
    rfl
  have fin : ∀ s0 : Nat → Int32, (fun u9 : Int32 × (Nat → Int32) => B_X8_readStep_124 (nI t) u9.1 u9.2) (nI 4, s0) = some (.inr s0) := fun s0 => by
    show B_X8_readStep_124 (nI t) (nI 4) s0 = _
    unfold B_X8_readStep_124
    rw [x4, if_pos (by decide)]
  exact (lp_one (one 1 _ (by decide))).trans ((lp_one (one 2 _ (by decide))).trans ((lp_one (one 3 _ (by decide))).trans (lp_end (fin _))))
/-- what a step of the reference leaves -/
def StE (n : Nat) (sg sc : Nat → Int32) (b t : Nat) (a2 p2 f2 n2 wr : Int32) (w2 : Int64) (sc' : Nat → Int32) : Prop := (∀ j, (j < t ∨ t + 4 ≤ j) → sc' j = sc j) ∧ (∀ p, stS n sg b = .inl p → wr = nI p) ∧ (∀ e v1 v2 v3, stS n sg b = .inr (e, v1, v2, v3) → wr = -1 ∧ LA n sg (skp n sg e) a2 p2 f2 n2 w2 ∧ sc' = l4 sc t (skd n sg b) v1 v2 v3)
theorem StE.bad {n b t p : Nat} {sg sc sc' : Nat → Int32} {a2 p2 f2 n2 wr : Int32} {w2 : Int64} (hs : stS n sg b = .inl p) (ho : ∀ j, (j < t ∨ t + 4 ≤ j) → sc' j = sc j) (hw : wr = nI p) : StE n sg sc b t a2 p2 f2 n2 wr w2 sc' := ⟨ho, fun p' e => (by rw [hs] at e; cases e; exact hw), fun e v1 v2 v3 q => (by rw [hs] at q; cases q)⟩
theorem StE.good {n b t e : Nat} {sg sc : Nat → Int32} {a2 p2 f2 n2 v1 v2 v3 : Int32} {w2 : Int64} (hs : stS n sg b = .inr (e, v1, v2, v3)) (hl : LA n sg (skp n sg e) a2 p2 f2 n2 w2) : StE n sg sc b t a2 p2 f2 n2 (-1) w2 (l4 sc t (skd n sg b) v1 v2 v3) := ⟨fun j hj => l4_out hj, fun p' q => (by rw [hs] at q; cases q), fun e v1 v2 v3 q => (by rw [hs] at q; cases q; exact ⟨rfl, hl, rfl⟩)⟩
theorem m_stepJ {K n b t : Nat} {sg tape sc : Nat → Int32} {at' pa fr pn : Int32} {pw : Int64} (h : Sg n sg) (hbn : b ≤ n) (hl : LA n sg b at' pa fr pn pw) : F_X8_readStep K (nI t) tape (nI n) at' pa fr pn (-1) pw sc = J_X8_readStep_100 K (nI t) (nI n) tape (skd n sg b) at' pa fr pn (-1) pw sc := by
  have c1 : (12343 : Int64) = cdF 1 := by decide
  have c2 : (2610628 : Int64) = cdF 2 := by decide
  have c3 : (244780 : Int64) = cdF 3 := by decide
  have c8 : (442053 : Int64) = cdF 8 := by decide
  have c9 : (1156 : Int64) = cdF 9 := by decide
  have c10 : (648643 : Int64) = cdF 10 := by decide
  have c11 : (220370757 : Int64) = cdF 11 := by decide
  unfold F_X8_readStep skd
  rw [c8, c9, c2, c1, c10, c3, c11, m_isX h hbn (by decide) hl, xb1, m_isX h hbn (by decide) hl, xb1, m_isX h hbn (by decide) hl, xb1, m_isX h hbn (by decide) hl, xb1, m_isX h hbn (by decide) hl, xb1, m_isX h hbn (by decide) hl, xb1, m_isX h hbn (by decide) hl, xb1]
  by_cases z0 : wd n sg 8 b = true
  · rw [if_pos z0, if_pos z0, if_neg (by decide)]
  · rw [if_neg z0, if_neg z0, if_pos rfl]
    by_cases z1 : wd n sg 9 b = true
    · rw [if_pos z1, if_pos z1, if_neg (by decide)]
    · rw [if_neg z1, if_neg z1, if_pos rfl]
      by_cases z2 : wd n sg 2 b = true
      · rw [if_pos z2, if_pos z2, if_neg (by decide)]
      · rw [if_neg z2, if_neg z2, if_pos rfl]
        by_cases z3 : wd n sg 1 b = true
        · rw [if_pos z3, if_pos z3, if_neg (by decide)]
        · rw [if_neg z3, if_neg z3, if_pos rfl]
          by_cases z4 : wd n sg 10 b = true
          · rw [if_pos z4, if_pos z4, if_neg (by decide)]
          · rw [if_neg z4, if_neg z4, if_pos rfl]
            by_cases z5 : wd n sg 3 b = true
            · rw [if_pos z5, if_pos z5, if_neg (by decide)]
            · rw [if_neg z5, if_neg z5, if_pos rfl]
              by_cases z6 : wd n sg 11 b = true
              · rw [if_pos z6, if_pos z6, if_neg (by decide)]
              · rw [if_neg z6, if_neg z6, if_pos rfl]
theorem m_readStep {K n b t : Nat} {sg tape sc : Nat → Int32} {at' pa fr pn : Int32} {pw : Int64} (h : Sg n sg) (hb : TpM n sg tape) (hK : 400 ≤ K) (hbn : b ≤ n) (ht : t ≤ 236) (hl : LA n sg b at' pa fr pn pw) : ∃ a2 p2 f2 n2 wr w2 sc', F_X8_readStep K (nI t) tape (nI n) at' pa fr pn (-1) pw sc = some (a2, p2, f2, n2, wr, w2, sc') ∧ StE n sg sc b t a2 p2 f2 n2 wr w2 sc' := by
  have h1 := h.1
  have h3 := wE_le h hbn
  have h4 := skp_le h h3
  have h5 := dE_le h h4
  have h6 := skp_le h h5
  obtain ⟨e1, e2, e3, e4, e5⟩ := id hl
  rw [m_stepJ h hbn hl]
  unfold J_X8_readStep_100
  rcases skd_cases h hbn with q | ⟨⟨k, hk, q⟩, z⟩
  · rw [if_pos q, m_bad, if_pos rfl, xb1]
    exact ⟨_, _, _, _, _, _, _, rfl, StE.bad (by unfold stS; rw [if_pos q]) (fun j _ => rfl) e3⟩
  · have km1 : ¬ skd n sg b = -1 := fun y => nI_ne_m1 (p := k) (by omega) (q.symm.trans y)
    obtain ⟨a2, p2, f2, n2, w2, x1, x2⟩ := m_adv h hb hK hbn hl
    rw [te_w z] at x2
    rw [if_neg km1, x1, xb5, xixn (by omega) (by decide), xnm, nI_clamp (by omega), m_start hK ht, xb1]
    by_cases g4 : skd n sg b = 4
    · rw [if_pos g4]
      exact ⟨_, _, _, _, _, _, _, rfl, StE.good (by unfold stS; rw [if_neg km1, if_pos g4]) x2⟩
    · rw [if_neg g4]
      by_cases g3 : skd n sg b = 3
      · rw [if_pos g3]
        by_cases y : lw n sg (skp n sg (wE n sg b)) = -1
        · rw [(m_lawWord h hb hK h4 x2).1 y, xb7, q]
          obtain ⟨sc', E, F⟩ := m_moreW (K := K) (n := n) (t := t) (tape := tape) (sc := sc) (v := 0) (at' := a2) (pa := p2) (fr := f2) (pn := n2) (pw := w2) hK hk ht (nI_ne_m1 (p := skp n sg (wE n sg b)) (by omega))
          rw [E]
          exact ⟨_, _, _, _, _, _, _, rfl, StE.bad (by unfold stS; rw [if_neg km1, if_neg g4, if_pos g3, if_pos y]) F rfl⟩
        · obtain ⟨a3, p3, f3, n3, w3, E3, L3⟩ := (m_lawWord h hb hK h4 x2).2 y
          have h7 := skp_le h (wE_le h h4)
          rw [E3, xb7, q]
          obtain ⟨a4, p4, f4, n4, wr, w4, sc', E, F, G, -⟩ := m_more (K := K) (sc := sc) (v := lw n sg (skp n sg (wE n sg b))) h hb hK h7 hk ht L3
          have k3 : k = 3 := (nI_eq (by omega) (by decide)).mp (show nI k = nI 3 from q.symm.trans g3)
          obtain ⟨rfl, L4, rfl⟩ := G (by omega)
          rw [E]
          refine ⟨_, _, _, _, _, _, _, rfl, ?_⟩
          rw [← q]
          exact StE.good (by unfold stS; rw [if_neg km1, if_neg g4, if_pos g3, if_neg y]) L4
      · rw [if_neg g3]
        have k3 : ¬ k = 3 := fun y => g3 (by rw [q, y]; rfl)
        have k4 : ¬ k = 4 := fun y => g4 (by rw [q, y]; rfl)
        have k2 : ((2 : Int32) ≤ skd n sg b) ↔ 2 ≤ k := by rw [q, x2c, nI_leI (by decide) (by omega)]
        have k1 : (skd n sg b = 1) ↔ k = 1 := by rw [q, show (1 : Int32) = nI 1 by decide, nI_eq (by omega) (by decide)]
        by_cases y1 : okA n sg (skp n sg (wE n sg b))
        · obtain ⟨a3, p3, f3, n3, w3, E3, L3⟩ := (m_any h hb hK h4 x2).2 y1
          rw [E3, xb7, q]
          obtain ⟨a4, p4, f4, n4, wr, w4, sc', E, F, G1, G2, G3, G4, G5, G6, G7⟩ := m_more (K := K) (sc := sc) (v := nN n sg (skp n sg (wE n sg b))) h hb hK h6 hk ht L3
          rw [E]
          refine ⟨_, _, _, _, _, _, _, rfl, ?_⟩
          by_cases g2 : 2 ≤ k
          · obtain ⟨rfl, L4, rfl⟩ := G1 g2
            rw [← q]
            exact StE.good (by unfold stS; rw [if_neg km1, if_neg g4, if_neg g3, if_pos y1, if_pos (k2.mpr g2)]) L4
          · have m2 : ¬ (2 : Int32) ≤ skd n sg b := fun y => g2 (k2.mp y)
            by_cases q2 : sg (skp n sg (dE n sg (skp n sg (wE n sg b)))) = 44
            · by_cases y2 : okA n sg (skp n sg (skp n sg (dE n sg (skp n sg (wE n sg b))) + 1))
              · by_cases g1 : k = 1
                · obtain ⟨rfl, L4, rfl⟩ := G4 g1 q2 y2
                  rw [← q]
                  exact StE.good (by unfold stS; rw [if_neg km1, if_neg g4, if_neg g3, if_pos y1, if_neg m2, if_pos q2, if_pos y2, if_pos (k1.mpr g1)]) L4
                · have m1 : ¬ skd n sg b = 1 := fun y => g1 (k1.mp y)
                  have e0 : k = 0 := by omega
                  by_cases q3 : sg (skp n sg (dE n sg (skp n sg (skp n sg (dE n sg (skp n sg (wE n sg b))) + 1)))) = 44
                  · by_cases y3 : okA n sg (skp n sg (skp n sg (dE n sg (skp n sg (skp n sg (dE n sg (skp n sg (wE n sg b))) + 1))) + 1))
                    · obtain ⟨rfl, L4, rfl⟩ := G7 e0 q2 y2 q3 y3
                      rw [← q]
                      exact StE.good (by unfold stS; rw [if_neg km1, if_neg g4, if_neg g3, if_pos y1, if_neg m2, if_pos q2, if_pos y2, if_neg m1, if_pos q3, if_pos y3]) L4
                    · exact StE.bad (by unfold stS; rw [if_neg km1, if_neg g4, if_neg g3, if_pos y1, if_neg m2, if_pos q2, if_pos y2, if_neg m1, if_pos q3, if_neg y3]) F (G6 e0 q2 y2 q3 y3)
                  · exact StE.bad (by unfold stS; rw [if_neg km1, if_neg g4, if_neg g3, if_pos y1, if_neg m2, if_pos q2, if_pos y2, if_neg m1, if_neg q3]) F (G5 e0 q2 y2 q3)
              · exact StE.bad (by unfold stS; rw [if_neg km1, if_neg g4, if_neg g3, if_pos y1, if_neg m2, if_pos q2, if_neg y2]) F (G3 (by omega) q2 y2)
            · exact StE.bad (by unfold stS; rw [if_neg km1, if_neg g4, if_neg g3, if_pos y1, if_neg m2, if_neg q2]) F (G2 (by omega) q2)
        · rw [(m_any h hb hK h4 x2).1 y1, xb7, q]
          obtain ⟨sc', E, F⟩ := m_moreW (K := K) (n := n) (t := t) (tape := tape) (sc := sc) (v := -9999999) (at' := a2) (pa := p2) (fr := f2) (pn := n2) (pw := w2) hK hk ht (nI_ne_m1 (p := skp n sg (wE n sg b)) (by omega))
          rw [E]
          exact ⟨_, _, _, _, _, _, _, rfl, StE.bad (by unfold stS; rw [if_neg km1, if_neg g4, if_neg g3, if_neg y1]) F rfl⟩
/-- ends and fails of a step lie on the tape -/
theorem stS_ok {n b e : Nat} {sg : Nat → Int32} {v1 v2 v3 : Int32} (h : Sg n sg) (hbn : b ≤ n) (q : stS n sg b = .inr (e, v1, v2, v3)) : b < e ∧ e ≤ n ∧ ∃ k, k < 7 ∧ skd n sg b = nI k := by
  have h3 := wE_le h hbn
  have h4 := skp_le h h3
  have h4' := skp_ge h h3
  have h5 := dE_le h h4
  have h5' := dE_ge h h4
  have h5'' := d0_ge (b := skp n sg (wE n sg b)) (sg := sg)
  have h6 := skp_le h h5
  have h6' := skp_ge h h5
  unfold stS at q
  rcases skd_cases h hbn with y | ⟨y, z⟩
  · rw [if_pos y] at q; cases q
  · have lt := (wE_lt h hbn).mpr z
    have fin : b < e ∧ e ≤ n → b < e ∧ e ≤ n ∧ ∃ k, k < 7 ∧ skd n sg b = nI k := fun w => ⟨w.1, w.2, y⟩
    refine fin ?_
    have km1 : ¬ skd n sg b = -1 := by
      obtain ⟨k, hk, y⟩ := y
      rw [y]
      exact nI_ne_m1 (by omega)
    rw [if_neg km1] at q
    by_cases g4 : skd n sg b = 4
    · rw [if_pos g4] at q; cases q; exact ⟨by omega, by omega⟩
    · rw [if_neg g4] at q
      by_cases g3 : skd n sg b = 3
      · rw [if_pos g3] at q
        by_cases y : lw n sg (skp n sg (wE n sg b)) = -1
        · rw [if_pos y] at q; cases q
        · rw [if_neg y] at q
          have a1 := wE_le h h4
          have a2 := wE_ge h h4
          cases q
          exact ⟨by omega, by omega⟩
      · rw [if_neg g3] at q
        by_cases y1 : okA n sg (skp n sg (wE n sg b))
        · rw [if_pos y1] at q
          by_cases m2 : (2 : Int32) ≤ skd n sg b
          · rw [if_pos m2] at q; cases q; exact ⟨by omega, by omega⟩
          · rw [if_neg m2] at q
            by_cases q2 : sg (skp n sg (dE n sg (skp n sg (wE n sg b)))) = 44
            · rw [if_pos q2] at q
              have hl := sg44_lt h (by decide) q2
              have h7 := skp_le h (show skp n sg (dE n sg (skp n sg (wE n sg b))) + 1 ≤ n by omega)
              have h7' := skp_ge h (show skp n sg (dE n sg (skp n sg (wE n sg b))) + 1 ≤ n by omega)
              have h8 := dE_le h h7
              have h8' := dE_ge h h7
              have h8'' := d0_ge (b := skp n sg (skp n sg (dE n sg (skp n sg (wE n sg b))) + 1)) (sg := sg)
              have h9 := skp_le h h8
              have h9' := skp_ge h h8
              by_cases y2 : okA n sg (skp n sg (skp n sg (dE n sg (skp n sg (wE n sg b))) + 1))
              · rw [if_pos y2] at q
                by_cases m1 : skd n sg b = 1
                · rw [if_pos m1] at q; cases q; exact ⟨by omega, by omega⟩
                · rw [if_neg m1] at q
                  by_cases q3 : sg (skp n sg (dE n sg (skp n sg (skp n sg (dE n sg (skp n sg (wE n sg b))) + 1)))) = 44
                  · rw [if_pos q3] at q
                    have hl3 := sg44_lt h (by decide) q3
                    have h10 := skp_le h (show skp n sg (dE n sg (skp n sg (skp n sg (dE n sg (skp n sg (wE n sg b))) + 1))) + 1 ≤ n by omega)
                    have h10' := skp_ge h (show skp n sg (dE n sg (skp n sg (skp n sg (dE n sg (skp n sg (wE n sg b))) + 1))) + 1 ≤ n by omega)
                    have h11 := dE_le h h10
                    have h11' := dE_ge h h10
                    have h11'' := d0_ge (b := skp n sg (skp n sg (dE n sg (skp n sg (skp n sg (dE n sg (skp n sg (wE n sg b))) + 1))) + 1)) (sg := sg)
                    by_cases y3 : okA n sg (skp n sg (skp n sg (dE n sg (skp n sg (skp n sg (dE n sg (skp n sg (wE n sg b))) + 1))) + 1))
                    · rw [if_pos y3] at q; cases q; exact ⟨by omega, by omega⟩
                    · rw [if_neg y3] at q; cases q
                  · rw [if_neg q3] at q; cases q
              · rw [if_neg y2] at q; cases q
            · rw [if_neg q2] at q; cases q
        · rw [if_neg y1] at q; cases q
theorem stS_fail {n b p : Nat} {sg : Nat → Int32} (h : Sg n sg) (hbn : b ≤ n) (q : stS n sg b = .inl p) : p ≤ n := by
  have h3 := wE_le h hbn
  have h4 := skp_le h h3
  have h5 := dE_le h h4
  have h6 := skp_le h h5
  unfold stS at q
  by_cases km1 : skd n sg b = -1
  · rw [if_pos km1] at q; cases q; exact hbn
  · rw [if_neg km1] at q
    by_cases g4 : skd n sg b = 4
    · rw [if_pos g4] at q; cases q
    · rw [if_neg g4] at q
      by_cases g3 : skd n sg b = 3
      · rw [if_pos g3] at q
        by_cases y : lw n sg (skp n sg (wE n sg b)) = -1
        · rw [if_pos y] at q; cases q; exact h4
        · rw [if_neg y] at q; cases q
      · rw [if_neg g3] at q
        by_cases y1 : okA n sg (skp n sg (wE n sg b))
        · rw [if_pos y1] at q
          by_cases m2 : (2 : Int32) ≤ skd n sg b
          · rw [if_pos m2] at q; cases q
          · rw [if_neg m2] at q
            by_cases q2 : sg (skp n sg (dE n sg (skp n sg (wE n sg b)))) = 44
            · rw [if_pos q2] at q
              have hl := sg44_lt h (by decide) q2
              have h7 := skp_le h (show skp n sg (dE n sg (skp n sg (wE n sg b))) + 1 ≤ n by omega)
              have h8 := dE_le h h7
              have h9 := skp_le h h8
              by_cases y2 : okA n sg (skp n sg (skp n sg (dE n sg (skp n sg (wE n sg b))) + 1))
              · rw [if_pos y2] at q
                by_cases m1 : skd n sg b = 1
                · rw [if_pos m1] at q; cases q
                · rw [if_neg m1] at q
                  by_cases q3 : sg (skp n sg (dE n sg (skp n sg (skp n sg (dE n sg (skp n sg (wE n sg b))) + 1)))) = 44
                  · rw [if_pos q3] at q
                    have hl3 := sg44_lt h (by decide) q3
                    have h10 := skp_le h (show skp n sg (dE n sg (skp n sg (skp n sg (dE n sg (skp n sg (wE n sg b))) + 1))) + 1 ≤ n by omega)
                    by_cases y3 : okA n sg (skp n sg (skp n sg (dE n sg (skp n sg (skp n sg (dE n sg (skp n sg (wE n sg b))) + 1))) + 1))
                    · rw [if_pos y3] at q; cases q
                    · rw [if_neg y3] at q; cases q; exact h10
                  · rw [if_neg q3] at q; cases q; exact h9
              · rw [if_neg y2] at q; cases q; exact h7
            · rw [if_neg q2] at q; cases q; exact h6
        · rw [if_neg y1] at q; cases q; exact h4
end
-- 61.rs
section
/-! a script's text in both readers -/
theorem l4_at {st : Nat → Int32} {t i : Nat} {v0 v1 v2 v3 : Int32} (hi : i < 4) : l4 st t v0 v1 v2 v3 (t + i) = q4 v0 v1 v2 v3 i := by
  unfold l4 q4 upd
  rcases (show i = 0 ∨ i = 1 ∨ i = 2 ∨ i = 3 by omega) with rfl | rfl | rfl | rfl <;> simp
abbrev TQ7 : Type := Int32 × (Nat → Int32) × Int32 × Int32 × Int32 × Int32 × Int32
abbrev RQ7 : Type := Nat × (Nat → Int32) × Int32 × Int32 × Int32 × Int32 × Int32
abbrev TP9 : Type := Int32 × Int32 × Int32 × Int32 × Int32 × Int32 × Int64 × (Nat → Int32) × (Nat → Int32)
abbrev RP8 : Type := Int32 × Int32 × Int32 × Int32 × Int32 × Int64 × (Nat → Int32) × (Nat → Int32)
abbrev bQ (K n : Nat) (bytes : Nat → Int32) : TQ7 → Option (TQ7 ⊕ RQ7) := fun u9 => B_X3_readScript_6 K (nI n) bytes u9.1 u9.2.1 u9.2.2.1 u9.2.2.2.1 u9.2.2.2.2.1 u9.2.2.2.2.2.1 u9.2.2.2.2.2.2
abbrev bP (K n p : Nat) (tape : Nat → Int32) : TP9 → Option (TP9 ⊕ RP8) := fun u9 => B_X8_readScript_13 K (nI p) (nI n) tape u9.1 u9.2.1 u9.2.2.1 u9.2.2.2.1 u9.2.2.2.2.1 u9.2.2.2.2.2.1 u9.2.2.2.2.2.2.1 u9.2.2.2.2.2.2.2.1 u9.2.2.2.2.2.2.2.2
def rC2 (t : Nat) (f at' : Int32) : Int32 := if t = 0 then f else if t = 1 then -1 else at'
def rM2 (wr pa fr : Int32) : Int32 := if wr = -1 then (if pa = 0 then -1 else fr) else wr
/-- p's steps, c of them, agree -/
def ScOK (p c : Nat) (st sc : Nat → Int32) : Prop := ∀ j, j < 4 * c → st j = sc (48 * p + j)
/-- the first number of each step is one of seven kinds -/
def KdOK (c : Nat) (st : Nat → Int32) : Prop := ∀ i, i < c → ∃ k, k < 7 ∧ st (4 * i) = nI k
theorem ScOK.step {p c : Nat} {st sc : Nat → Int32} {v0 v1 v2 v3 : Int32} (h : ScOK p c st sc) : ScOK p (c + 1) (l4 st (c * 4) v0 v1 v2 v3) (l4 sc (48 * p + 4 * c) v0 v1 v2 v3) := by
  intro j hj
  by_cases q : j < 4 * c
  · rw [l4_out (by omega), l4_out (by omega)]; exact h j q
  · obtain ⟨i, hi, rfl⟩ : ∃ i, i < 4 ∧ j = c * 4 + i := ⟨j - c * 4, by omega, by omega⟩
    rw [l4_at hi, show 48 * p + (c * 4 + i) = 48 * p + 4 * c + i by omega, l4_at hi]
theorem KdOK.step {c k : Nat} {st : Nat → Int32} {v0 v1 v2 v3 : Int32} (h : KdOK c st) (hk : k < 7) (hv : v0 = nI k) : KdOK (c + 1) (l4 st (c * 4) v0 v1 v2 v3) := by
  intro i hi
  by_cases q : i < c
  · obtain ⟨k, hk, e⟩ := h i q
    exact ⟨k, hk, by rw [l4_out (by omega)]; exact e⟩
  · refine ⟨k, hk, ?_⟩
    rw [show 4 * i = c * 4 + 0 by omega, l4_at (by decide)]
    exact hv
theorem m_stop {K n p : Nat} {tape : Nat → Int32} (Km : Nat) (am pa0 fr0 pn0 wr0 : Int32) (pw0 : Int64) (sc0 lg0 : Nat → Int32) : lpF (bP K n p tape) (Km + 1) (0, am, pa0, fr0, pn0, wr0, pw0, sc0, lg0) = some (am, pa0, fr0, pn0, wr0, pw0, sc0, lg0) := by
  refine lp_end ?_
  show B_X8_readScript_13 K (nI p) (nI n) tape 0 am pa0 fr0 pn0 wr0 pw0 sc0 lg0 = _
  unfold B_X8_readScript_13
  rw [if_pos rfl]
/-- what both loops over a script's steps come to -/
def RsE (p : Nat) (sc lg : Nat → Int32) (x : RQ7) (y : RP8) : Prop := x.1 < 4 ∧ rC2 x.1 x.2.2.2.2.2.2 x.2.2.2.1 = rM2 y.2.2.2.2.1 y.2.1 y.2.2.1 ∧ (rC2 x.1 x.2.2.2.2.2.2 x.2.2.2.1 = -1 → ∃ c, 1 ≤ c ∧ c ≤ 12 ∧ x.2.2.1 = nI c ∧ y.2.2.2.2.2.2.2 p = nI c ∧ ScOK p c x.2.1 y.2.2.2.2.2.2.1 ∧ KdOK c x.2.1) ∧ (∀ j, (j < 48 * p ∨ 48 * p + 48 ≤ j) → y.2.2.2.2.2.2.1 j = sc j) ∧ (∀ j, ¬ j = p → y.2.2.2.2.2.2.2 j = lg j)
theorem rs_sync {K n p : Nat} {sg bytes tape : Nat → Int32} (h : Sg n sg) (hc : TpC n sg bytes) (ht : TpM n sg tape) (hK : 400 ≤ K) (hp : p ≤ 4) : ∀ (d a c : Nat) (st sc lg sc0 lg0 : Nat → Int32) (ws nu f at' pa fr pn : Int32) (pw : Int64) (Kc Km : Nat), n - a < d → a ≤ n → c < 12 → ScOK p c st sc → KdOK c st → lg p = nI c → (∀ j, (j < 48 * p ∨ 48 * p + 48 ≤ j) → sc j = sc0 j) → (∀ j, ¬ j = p → lg j = lg0 j) → LA n sg (skp n sg a) at' pa fr pn pw → d < Kc → d + 1 < Km →
    ∃ x y, lpF (bQ K n bytes) Kc (nI c, st, nI c, nI a, ws, nu, f) = some x ∧ lpF (bP K n p tape) Km (1, at', pa, fr, pn, -1, pw, sc, lg) = some y ∧ RsE p sc0 lg0 x y := by
  have h1 := h.1
  intro d
  induction d with
  | zero => intro a c st sc lg sc0 lg0 ws nu f at' pa fr pn pw Kc Km h2; omega
  | succ d ih =>
    intro a c st sc lg sc0 lg0 ws nu f at' pa fr pn pw Kc Km h2 ha hc12 hS hKd hlg ho1 ho2 hl hKc hKm
    obtain ⟨Kc', rfl⟩ : ∃ k, Kc = k + 1 := ⟨Kc - 1, by omega⟩
    obtain ⟨Km', rfl⟩ : ∃ k, Km = k + 2 := ⟨Km - 2, by omega⟩
    have hb := skp_le h ha
    have hb' := skp_ge h ha
    obtain ⟨r, st1, ac1, ws1, nu1, f1, E, A, B⟩ := c_readStep (st := st) (ws := ws) (nu := nu) (f := f) (c := c) h hc hK ha hc12
    obtain ⟨a2, p2, f2, n2, wr, w2, sc1, Em, Ho, Am, Bm⟩ := m_readStep (sc := sc) (t := 48 * p + 4 * c) h ht hK hb (by omega) hl
    have ti : (4 : Int32) * ((12 : Int32) * nI p + lg p) = nI (48 * p + 4 * c) := by
      rw [hlg, x12, nI_mul, nI_add, x4, nI_mul]
      congr 1
      omega
    have bc : bQ K n bytes (nI c, st, nI c, nI a, ws, nu, f) = bd6 (F_X3_readStep K bytes (nI n) st (nI c) (nI a) ws nu f) (fun r_9 w_10 w_11 w_12 w_13 w_14 => if r_9 = (0 : Int32) then some (.inr (0, w_10, nI c, w_11, w_12, w_13, w_14)) else bd2 (F_X3_isAtEnd K bytes (nI n) w_11) (fun r_18 w_19 => if r_18 = (0 : Int32) then if nI c + (1 : Int32) = (12 : Int32) then some (.inr (2, w_10, nI c + (1 : Int32), w_19, w_12, w_13, w_14)) else bd3 (F_X3_readSign K (59 : Int32) bytes (nI n) w_19 w_14) (fun r_24 w_25 w_26 => if r_24 = (0 : Int32) then some (.inr (2, w_10, nI c + (1 : Int32), w_25, w_12, w_13, w_26)) else some (.inl (nI c + (1 : Int32), w_10, nI c + (1 : Int32), w_25, w_12, w_13, w_26))) else some (.inr (1, w_10, nI c + (1 : Int32), w_19, w_12, w_13, w_14)))) := by
      show B_X3_readScript_6 K (nI n) bytes (nI c) st (nI c) (nI a) ws nu f = _
      unfold B_X3_readScript_6
      rw [if_neg (show ¬ (12 : Int32) ≤ nI c by rw [x12, ple (by decide) (by omega)]; omega)]
    have bm : bP K n p tape (1, at', pa, fr, pn, -1, pw, sc, lg) = bd7 (F_X8_readStep K (nI (48 * p + 4 * c)) tape (nI n) at' pa fr pn (-1) pw sc) (fun w_12 w_13 w_14 w_15 w_16 w_17 w_18 => if w_16 = (-1 : Int32) then if w_13 = (4 : Int32) then (if (12 : Int32) ≤ nI (c + 1) then some (.inl ((0 : Int32), w_12, w_13, w_14, w_15, w_16, w_17, w_18, upd lg p (nI (c + 1)))) else bd5 (F_X8_next K tape (nI n) w_12 w_13 w_14 w_15 w_17) (fun w_27 w_28 w_29 w_30 w_31 => some (.inl ((1 : Int32), w_27, w_28, w_29, w_30, w_16, w_31, w_18, upd lg p (nI (c + 1)))))) else some (.inl ((0 : Int32), w_12, w_13, w_14, w_15, w_16, w_17, w_18, upd lg p (nI (c + 1)))) else some (.inl ((0 : Int32), w_12, w_13, w_14, w_15, w_16, w_17, w_18, upd lg p (nI (c + 1))))) := by
      show B_X8_readScript_13 K (nI p) (nI n) tape 1 at' pa fr pn (-1) pw sc lg = _
      unfold B_X8_readScript_13
      rw [if_neg (by decide), xixn (by omega) (by decide), nI_clamp (by omega), ti, hlg, nI_1]
      congr 1
      funext w_12 w_13 w_14 w_15 w_16 w_17 w_18
      rw [xixn (by omega) (by decide), xixn (by omega) (by decide), xnm, xixn (by omega) (by decide), upd_at]
    have hlg1 : upd lg p (nI (c + 1)) p = nI (c + 1) := upd_at
    have hlo : ∀ j, ¬ j = p → upd lg p (nI (c + 1)) j = lg0 j := fun j hj => (upd_ne hj).trans (ho2 j hj)
    have hso : ∀ j, (j < 48 * p ∨ 48 * p + 48 ≤ j) → sc1 j = sc0 j := fun j hj => (Ho j (by omega)).trans (ho1 j hj)
    rw [E, xb6] at bc
    rw [Em, xb7] at bm
    cases hcl : stS n sg (skp n sg a) with
    | inl q =>
      obtain ⟨rfl, rfl⟩ := A q hcl
      have ew := Am q hcl
      subst ew
      have hq : q ≤ n := stS_fail h hb hcl
      have nq := nI_ne_m1 (p := q) (by omega)
      rw [if_pos rfl] at bc
      rw [if_neg nq] at bm
      refine ⟨_, _, lp_end bc, (lp_one bm).trans (m_stop _ _ _ _ _ _ _ _ _), Nat.le_of_ble_eq_true rfl, ?_, fun z => ?_, hso, hlo⟩
      · show nI q = rM2 (nI q) _ _
        unfold rM2
        rw [if_neg nq]
      · exact absurd (show nI q = -1 from z) nq
    | inr x =>
      obtain ⟨e, v1, v2, v3⟩ := x
      obtain ⟨rfl, rfl, rfl, rfl⟩ := B e v1 v2 v3 hcl
      obtain ⟨rfl, L, rfl⟩ := Bm e v1 v2 v3 hcl
      obtain ⟨c1, c2, k, hk, ek⟩ := stS_ok h hb hcl
      have hS2 := hS.step (v0 := skd n sg (skp n sg a)) (v1 := v1) (v2 := v2) (v3 := v3)
      have hK2 := hKd.step (v1 := v1) (v2 := v2) (v3 := v3) hk ek
      have hb2 := skp_le h c2
      have hb2' := skp_ge h c2
      obtain ⟨l1, l2, l3, -⟩ := id L
      have nb := nI_ne_m1 (p := skp n sg e) (by omega)
      rw [if_neg (by decide), c_isAtEnd h hc hK c2, xb2, nI_1] at bc
      rw [if_pos rfl] at bm
      by_cases q0 : sg (skp n sg e) = -1
      · rw [if_pos q0, if_neg (by decide)] at bc
        rw [if_neg (fun z => by rw [tk4.mp (l2.symm.trans z)] at q0; exact absurd q0 (by decide))] at bm
        have p0 : p2 = 0 := l2.trans (tk0.mpr q0)
        refine ⟨_, _, lp_end bc, (lp_one bm).trans (m_stop _ _ _ _ _ _ _ _ _), Nat.le_of_ble_eq_true rfl, ?_, fun z => ?_, hso, hlo⟩
        · show (-1 : Int32) = rM2 (-1) p2 f2
          unfold rM2
          rw [if_pos rfl, if_pos p0]
        · exact ⟨c + 1, by omega, by omega, rfl, hlg1, hS2, hK2⟩
      · rw [if_neg q0, if_pos rfl] at bc
        have p0 : ¬ p2 = 0 := fun z => q0 (tk0.mp (l2.symm.trans z))
        by_cases e12 : c + 1 = 12
        · rw [if_pos (show nI (c + 1) = 12 by rw [e12]; rfl)] at bc
          rw [if_pos (show (12 : Int32) ≤ nI (c + 1) by rw [e12]; decide)] at bm
          have bm' : bP K n p tape (1, at', pa, fr, pn, -1, pw, sc, lg) = some (.inl ((0 : Int32), a2, p2, f2, n2, -1, w2, l4 sc (48 * p + 4 * c) (skd n sg (skp n sg a)) v1 v2 v3, upd lg p (nI (c + 1)))) := by
            rw [bm]
            split <;> rfl
          refine ⟨_, _, lp_end bc, (lp_one bm').trans (m_stop _ _ _ _ _ _ _ _ _), Nat.le_of_ble_eq_true rfl, ?_, fun z => ?_, hso, hlo⟩
          · show nI (skp n sg e) = rM2 (-1) p2 f2
            unfold rM2
            rw [if_pos rfl, if_neg p0, l3]
          · exact absurd (show nI (skp n sg e) = -1 from z) nb
        · rw [if_neg (show ¬ nI (c + 1) = 12 by rw [x12, peq (by omega) (by decide)]; exact e12), c_readSign h hc hK hb2, skp_idem h c2] at bc
          rw [if_neg (show ¬ (12 : Int32) ≤ nI (c + 1) by rw [x12, ple (by decide) (by omega)]; omega)] at bm
          by_cases q4 : sg (skp n sg e) = 59
          · rw [if_pos q4, xb3, if_neg (by decide)] at bc
            have hlt := sg44_lt h (by decide) q4
            obtain ⟨a3, p3, f3, n3, w3, y1, y2⟩ := m_adv h ht hK hb2 L
            rw [te_s q4 (Or.inr rfl)] at y2
            rw [if_pos (l2.trans (tk4.mpr q4)), y1, xb5] at bm
            have := ih (skp n sg e + 1) (c + 1) _ _ (upd lg p (nI (c + 1))) sc0 lg0 ws1 nu1 f1 a3 p3 f3 n3 w3 Kc' (Km' + 1) (by omega) (by omega) (by omega) hS2 hK2 hlg1 hso hlo y2 (by omega) (by omega)
            rw [lp_one bc, lp_one bm]
            exact this
          · rw [if_neg q4, xb3, if_pos rfl] at bc
            rw [if_neg (fun z => q4 (tk4.mp (l2.symm.trans z)))] at bm
            refine ⟨_, _, lp_end bc, (lp_one bm).trans (m_stop _ _ _ _ _ _ _ _ _), Nat.le_of_ble_eq_true rfl, ?_, fun z => ?_, hso, hlo⟩
            · show nI (skp n sg e) = rM2 (-1) p2 f2
              unfold rM2
              rw [if_pos rfl, if_neg p0, l3]
            · exact absurd (show nI (skp n sg e) = -1 from z) nb
/-- both read a script alike -/
theorem rs_both {K n p : Nat} {sg bytes tape ru st sc lg : Nat → Int32} {c1 c2 c3 c4 c5 c6 c7 m1 m2 m3 m4 m5 : Int32} {m6 : Int64} (h : Sg n sg) (hc : TpC n sg bytes) (ht : TpM n sg tape) (hK : 400 ≤ K) (hp : p ≤ 4) :
    ∃ r ru' st' s' cn' m' ac' ws' nu' f' am' pa' fr' pn' wr' pw' sc' lg', F_X3_readScript K bytes (nI n) ru st c1 c2 c3 c4 c5 c6 c7 = some (r, ru', st', s', cn', m', ac', ws', nu', f') ∧ F_X8_readScript K (nI p) tape (nI n) m1 m2 m3 m4 m5 m6 sc lg = some (r, am', pa', fr', pn', wr', pw', sc', lg') ∧ (r = -1 → ∃ c, 1 ≤ c ∧ c ≤ 12 ∧ cn' = nI c ∧ lg' p = nI c ∧ ScOK p c st' sc' ∧ KdOK c st') ∧ (∀ j, (j < 48 * p ∨ 48 * p + 48 ≤ j) → sc' j = sc j) ∧ (∀ j, ¬ j = p → lg' j = lg j) := by
  have h1 := h.1
  obtain ⟨at', pa, fr, pn, pw, E, L⟩ := m_next (a := 0) (pa := m2) (fr := m3) (pn := m4) (pw := m6) h ht hK (by omega)
  obtain ⟨⟨t, st', cn', ac', ws', nu', f'⟩, ⟨am', pa', fr', pn', wr', pw', sc', lg'⟩, X1, X2, X3, X4, X5, X6, X7⟩ := rs_sync (p := p) h hc ht hK hp (n + 1) 0 0 st sc (upd lg p 0) sc lg c5 c6 (-1) at' pa fr pn pw K K (by omega) (by omega) (by omega) (fun j hj => by omega) (fun i hi => by omega) upd_at (fun j _ => rfl) (fun j hj => upd_ne hj) L (by omega) (by omega)
  have EC : F_X3_readScript K bytes (nI n) ru st c1 c2 c3 c4 c5 c6 c7 = some (rC2 t f' ac', upd (upd (upd ru 0 0) 1 1000) 2 100, st', 0, cn', 0, ac', ws', nu', f') := by
    unfold F_X3_readScript F_X3_start
    rw [xnm, xnm, xnm, xb6]
    rw [show lpF (fun u9 : Int32 × (Nat → Int32) × Int32 × Int32 × Int32 × Int32 × Int32 => B_X3_readScript_6 K (nI n) bytes u9.1 u9.2.1 u9.2.2.1 u9.2.2.2.1 u9.2.2.2.2.1 u9.2.2.2.2.2.1 u9.2.2.2.2.2.2) K ((0 : Int32), st, (0 : Int32), (0 : Int32), c5, c6, (-1 : Int32)) = some (t, st', cn', ac', ws', nu', f') from X1, xb7]
    have X3' : t < 4 := X3
    unfold rC2
    rcases (show t = 0 ∨ t = 1 ∨ t = 2 ∨ t = 3 by omega) with rfl | rfl | rfl | rfl <;> rfl
  have EM : F_X8_readScript K (nI p) tape (nI n) m1 m2 m3 m4 m5 m6 sc lg = some (rM2 wr' pa' fr', am', pa', fr', pn', rM2 wr' pa' fr', pw', sc', lg') := by
    unfold F_X8_readScript F_X8_begins
    rw [show F_X8_next K tape (nI n) (0 : Int32) m2 m3 m4 m6 = some (at', pa, fr, pn, pw) from E, xb5, xb6, xixn (by omega) (by decide), nI_clamp (by omega), xnm]
    rw [show lpF (fun u9 : Int32 × Int32 × Int32 × Int32 × Int32 × Int32 × Int64 × (Nat → Int32) × (Nat → Int32) => B_X8_readScript_13 K (nI p) (nI n) tape u9.1 u9.2.1 u9.2.2.1 u9.2.2.2.1 u9.2.2.2.2.1 u9.2.2.2.2.2.1 u9.2.2.2.2.2.2.1 u9.2.2.2.2.2.2.2.1 u9.2.2.2.2.2.2.2.2) K ((1 : Int32), at', pa, fr, pn, (-1 : Int32), pw, sc, upd lg p 0) = some (am', pa', fr', pn', wr', pw', sc', lg') from X2, xb8]
    unfold rM2
    by_cases q1 : wr' = -1
    · rw [if_pos q1, if_pos q1]
      by_cases q2 : pa' = 0
      · rw [if_pos q2, if_pos q2, q1]
      · rw [if_neg q2, if_neg q2, m_bad, if_pos q1, xb1]
    · rw [if_neg q1, if_neg q1]
  have X4' : rC2 t f' ac' = rM2 wr' pa' fr' := X4
  refine ⟨_, _, _, _, _, _, _, _, _, _, _, _, _, _, _, _, _, _, EC, by rw [X4']; exact EM, X5, X6, X7⟩
end
-- 62.fd
section
/-! feed and end: the tape in both -/
theorem b255 {i : Nat} (h : 8 ≤ i) : (255#32).getLsbD i = false := by
  rw [BitVec.getLsbD_ofNat, Nat.testBit_lt_two_pow (Nat.lt_of_lt_of_le (by decide : 255 < 2 ^ 8) (Nat.pow_le_pow_right (by decide) h)), Bool.and_false]
theorem shB (x : BitVec 32) (s : Nat) (hs : s ≤ 24) : (x.sshiftRight s) &&& 255#32 = (x >>> s) &&& 255#32 := by
  apply BitVec.eq_of_getLsbD_eq
  intro i hi
  rw [BitVec.getLsbD_and, BitVec.getLsbD_and]
  by_cases h8 : i < 8
  · rw [BitVec.getLsbD_sshiftRight, BitVec.getLsbD_ushiftRight, if_pos (show s + i < 32 by omega), decide_eq_false (show ¬ 32 ≤ i by omega)]
    rfl
  · rw [b255 (by omega), Bool.and_false, Bool.and_false]
theorem sh24 (w : Int32) : (w >>> ((24 : Int32) &&& 31)) &&& 255 = ushrF w 24 &&& 255 := Int32.toBitVec_inj.mp (shB w.toBitVec 24 (by decide))
theorem sh16 (w : Int32) : (w >>> ((16 : Int32) &&& 31)) &&& 255 = ushrF w 16 &&& 255 := Int32.toBitVec_inj.mp (shB w.toBitVec 16 (by decide))
theorem sh8 (w : Int32) : (w >>> ((8 : Int32) &&& 31)) &&& 255 = ushrF w 8 &&& 255 := Int32.toBitVec_inj.mp (shB w.toBitVec 8 (by decide))
theorem sh0 (w : Int32) : (w >>> ((0 : Int32) &&& 31)) &&& 255 = ushrF w 0 &&& 255 := Int32.toBitVec_inj.mp (shB w.toBitVec 0 (by decide))
theorem and255 (x : Int32) : ∃ m, m < 256 ∧ x &&& 255 = nI m := by
  refine ⟨(x &&& 255).toBitVec.toNat, ?_, Int32.toBitVec_inj.mp ?_⟩
  · show (x.toBitVec &&& 255#32).toNat < 256
    rw [BitVec.toNat_and]
    exact Nat.lt_of_le_of_lt Nat.and_le_right (by decide)
  · show (x &&& 255).toBitVec = BitVec.ofNat 32 _
    rw [BitVec.ofNat_toNat, BitVec.setWidth_eq]
theorem nar255 : ∀ m, m < 256 → vp_nar .byte ((nI m).toInt8.toInt32) &&& 255 = nI m := by decide +kernel
/-- a word's bytes, from above -/
def shF (j : Nat) : Int32 := ([24, 16, 8, 0, -8] : List Int32).getD j 0
def byF (w : Int32) (j : Nat) : Int32 := ushrF w (shF j) &&& 255
/-- the twenty bytes of five words -/
def btF (a b c d e : Int32) (k : Nat) : Int32 := byF (if k < 4 then a else if k < 8 then b else if k < 12 then c else if k < 16 then d else e) (k % 4)
def cn (bt : Nat → Int32) : Nat → Nat
  | 0 => 0
  | k + 1 => if bt k = 0 then cn bt k else cn bt k + 1
theorem cn_le {bt : Nat → Int32} : ∀ k, cn bt k ≤ k
  | 0 => Nat.le_refl _
  | k + 1 => by
    have := cn_le (bt := bt) k
    show (if bt k = 0 then cn bt k else cn bt k + 1) ≤ k + 1
    split <;> omega
theorem cn_mono {bt : Nat → Int32} {k : Nat} : ∀ d, cn bt k ≤ cn bt (k + d)
  | 0 => Nat.le_refl _
  | d + 1 => by
    have := cn_mono (bt := bt) (k := k) d
    show cn bt k ≤ (if bt (k + d) = 0 then cn bt (k + d) else cn bt (k + d) + 1)
    split <;> omega
/-- the rows behind k bytes, begun with n signs -/
def pcF (bt : Nat → Int32) (n : Nat) (f : Nat → Int32) : Nat → Nat → Int32
  | 0 => f
  | k + 1 => if bt k = 0 then pcF bt n f k else upd (pcF bt n f k) (n + cn bt k) (vp_nar .byte ((bt k).toInt8.toInt32))
def pmF (bt : Nat → Int32) (n : Nat) (f : Nat → Int32) : Nat → Nat → Int32
  | 0 => f
  | k + 1 => if bt k = 0 then pmF bt n f k else upd (pmF bt n f k) (n + cn bt k) (bt k)
theorem shF_step : ∀ j, j < 4 → shF j + (-8) = shF (j + 1) ∧ ¬ shF j < 0 := by decide +kernel
theorem c_bytesIn {K w : Nat} {x : Int32} {bt : Nat → Int32} (hK : 400 ≤ K) (hb : ∀ j, j < 4 → bt (4 * w + j) = byF x j) : F_X6_bytesIn K x = some (nI (cn bt (4 * w + 4) - cn bt (4 * w))) := by
  unfold F_X6_bytesIn
  rw [show lpF (fun u9 : Int32 × Int32 => B_X6_bytesIn_5 x u9.1 u9.2) K ((0 : Int32), (24 : Int32)) = some (nI (cn bt (4 * w + 4) - cn bt (4 * w))) from ?_]
  · rfl
  have S0 : ((0 : Int32), (24 : Int32)) = ((nI (cn bt (4 * w + 0) - cn bt (4 * w)), shF 0) : Int32 × Int32) := by
    rw [show 4 * w + 0 = 4 * w from rfl, Nat.sub_self]
    rfl
  rw [S0]
  refine lp_for (fun j => ((nI (cn bt (4 * w + j) - cn bt (4 * w)), shF j) : Int32 × Int32)) (n := 4) (by omega) (fun j hj => ?_) ?_
  · show B_X6_bytesIn_5 x (nI (cn bt (4 * w + j) - cn bt (4 * w))) (shF j) = some (.inl (nI ((if bt (4 * w + j) = 0 then cn bt (4 * w + j) else cn bt (4 * w + j) + 1) - cn bt (4 * w)), shF (j + 1)))
    have sj := shF_step j hj
    have mono := cn_mono (bt := bt) (k := 4 * w) j
    unfold B_X6_bytesIn_5
    rw [if_neg sj.2, sj.1, hb j hj]
    by_cases q : byF x j = 0
    · rw [if_pos q, if_pos (show ushrF x (shF j) &&& 255 = 0 from q)]
    · rw [if_neg q, if_neg (show ¬ ushrF x (shF j) &&& 255 = 0 from q), nI_1, show cn bt (4 * w + j) - cn bt (4 * w) + 1 = cn bt (4 * w + j) + 1 - cn bt (4 * w) by omega]
  · show B_X6_bytesIn_5 x _ (shF 4) = _
    unfold B_X6_bytesIn_5
    rw [if_pos (by decide)]
theorem c_take {K w n : Nat} {x : Int32} {bt f : Nat → Int32} (hK : 400 ≤ K) (hb : ∀ j, j < 4 → bt (4 * w + j) = byF x j) (hn : n + cn bt (4 * w + 4) ≤ 320) : F_X6_take K x (pcF bt n f (4 * w)) (nI (n + cn bt (4 * w))) = some (pcF bt n f (4 * w + 4), nI (n + cn bt (4 * w + 4))) := by
  unfold F_X6_take
  rw [show lpF (fun u9 : Int32 × (Nat → Int32) × Int32 => B_X6_take_3 x u9.1 u9.2.1 u9.2.2) K ((24 : Int32), pcF bt n f (4 * w), nI (n + cn bt (4 * w))) = some (pcF bt n f (4 * w + 4), nI (n + cn bt (4 * w + 4))) from ?_]
  · rfl
  refine lp_for (fun j => ((shF j, pcF bt n f (4 * w + j), nI (n + cn bt (4 * w + j))) : Int32 × (Nat → Int32) × Int32)) (n := 4) (by omega) (fun j hj => ?_) ?_
  · show B_X6_take_3 x (shF j) (pcF bt n f (4 * w + j)) (nI (n + cn bt (4 * w + j))) = some (.inl (shF (j + 1), (if bt (4 * w + j) = 0 then pcF bt n f (4 * w + j) else upd (pcF bt n f (4 * w + j)) (n + cn bt (4 * w + j)) (vp_nar .byte ((bt (4 * w + j)).toInt8.toInt32))), nI (n + (if bt (4 * w + j) = 0 then cn bt (4 * w + j) else cn bt (4 * w + j) + 1))))
    have sj := shF_step j hj
    have m1 : cn bt (4 * w + j + 1) ≤ cn bt (4 * w + 4) := by
      have := cn_mono (bt := bt) (k := 4 * w + j + 1) (3 - j)
      rw [show 4 * w + j + 1 + (3 - j) = 4 * w + 4 by omega] at this
      exact this
    unfold B_X6_take_3
    rw [if_neg sj.2, sj.1, hb j hj]
    by_cases q : byF x j = 0
    · rw [if_pos q, if_pos q, if_pos (show ushrF x (shF j) &&& 255 = 0 from q)]
    · have m2 : cn bt (4 * w + j) + 1 ≤ cn bt (4 * w + 4) := by
        have e : cn bt (4 * w + j + 1) = cn bt (4 * w + j) + 1 := by
          show (if bt (4 * w + j) = 0 then cn bt (4 * w + j) else cn bt (4 * w + j) + 1) = _
          rw [hb j hj, if_neg q]
        omega
      rw [if_neg q, if_neg q, if_neg (show ¬ ushrF x (shF j) &&& 255 = 0 from q), if_neg (show ¬ (320 : Int32) ≤ nI (n + cn bt (4 * w + j)) by rw [x320, ple (by decide) (by omega)]; omega), xixn (by omega) (by decide), xnm, nI_clamp (by omega), nI_1, Nat.add_assoc]
      rfl
  · show B_X6_take_3 x (shF 4) _ _ = _
    unfold B_X6_take_3
    rw [if_pos (by decide)]
theorem bt_w {a b c d e : Int32} {w j : Nat} (hw : w < 5) (hj : j < 4) : btF a b c d e (4 * w + j) = byF (if w = 0 then a else if w = 1 then b else if w = 2 then c else if w = 3 then d else e) j := by
  unfold btF
  rw [show (4 * w + j) % 4 = j by omega]
  rcases (show w = 0 ∨ w = 1 ∨ w = 2 ∨ w = 3 ∨ w = 4 by omega) with rfl | rfl | rfl | rfl | rfl
  · rw [if_pos (by omega), if_pos rfl]
  · rw [if_neg (by omega), if_pos (by omega), if_neg (by decide), if_pos rfl]
  · rw [if_neg (by omega), if_neg (by omega), if_pos (by omega), if_neg (by decide), if_neg (by decide), if_pos rfl]
  · rw [if_neg (by omega), if_neg (by omega), if_neg (by omega), if_pos (by omega), if_neg (by decide), if_neg (by decide), if_neg (by decide), if_pos rfl]
  · rw [if_neg (by omega), if_neg (by omega), if_neg (by omega), if_neg (by omega), if_neg (by decide), if_neg (by decide), if_neg (by decide), if_neg (by decide)]
theorem c_feed {K n : Nat} {a b c d e : Int32} {f : Nat → Int32} (hK : 400 ≤ K) (hn : n ≤ 320) : F_X7_feed K a b c d e f (nI n) = some (if n + cn (btF a b c d e) 20 ≤ 320 then (nI (n + cn (btF a b c d e) 20), pcF (btF a b c d e) n f 20, nI (n + cn (btF a b c d e) 20)) else (-1, f, nI n)) := by
  have b0 : ∀ j, j < 4 → btF a b c d e (4 * 0 + j) = byF a j := fun j hj => bt_w (a := a) (b := b) (c := c) (d := d) (e := e) (w := 0) (j := j) (by decide) hj
  have b1 : ∀ j, j < 4 → btF a b c d e (4 * 1 + j) = byF b j := fun j hj => bt_w (a := a) (b := b) (c := c) (d := d) (e := e) (w := 1) (j := j) (by decide) hj
  have b2 : ∀ j, j < 4 → btF a b c d e (4 * 2 + j) = byF c j := fun j hj => bt_w (a := a) (b := b) (c := c) (d := d) (e := e) (w := 2) (j := j) (by decide) hj
  have b3 : ∀ j, j < 4 → btF a b c d e (4 * 3 + j) = byF d j := fun j hj => bt_w (a := a) (b := b) (c := c) (d := d) (e := e) (w := 3) (j := j) (by decide) hj
  have b4 : ∀ j, j < 4 → btF a b c d e (4 * 4 + j) = byF e j := fun j hj => bt_w (a := a) (b := b) (c := c) (d := d) (e := e) (w := 4) (j := j) (by decide) hj
  generalize btF a b c d e = bt at b0 b1 b2 b3 b4 ⊢
  have m0 := cn_mono (bt := bt) (k := 0) 4
  have m1 := cn_mono (bt := bt) (k := 4) 4
  have m2 := cn_mono (bt := bt) (k := 8) 4
  have m3 := cn_mono (bt := bt) (k := 12) 4
  have m4 := cn_mono (bt := bt) (k := 16) 4
  have m5 := cn_le (bt := bt) 20
  have h5 : n + (cn bt 4 - cn bt 0 + (cn bt 8 - cn bt 4) + (cn bt 12 - cn bt 8) + (cn bt 16 - cn bt 12) + (cn bt 20 - cn bt 16)) = n + cn bt 20 := by
    have z : cn bt 0 = 0 := rfl
    have k1 : cn bt 4 ≤ cn bt 8 := m1
    have k2 : cn bt 8 ≤ cn bt 12 := m2
    have k3 : cn bt 12 ≤ cn bt 16 := m3
    have k4 : cn bt 16 ≤ cn bt 20 := m4
    omega
  unfold F_X7_feed
  rw [c_bytesIn (w := 0) hK b0, xb1, c_bytesIn (w := 1) hK b1, xb1, c_bytesIn (w := 2) hK b2, xb1, c_bytesIn (w := 3) hK b3, xb1, c_bytesIn (w := 4) hK b4, xb1, nI_add, nI_add, nI_add, nI_add, nI_add, x320, show n + (cn bt (4 * 0 + 4) - cn bt (4 * 0) + (cn bt (4 * 1 + 4) - cn bt (4 * 1)) + (cn bt (4 * 2 + 4) - cn bt (4 * 2)) + (cn bt (4 * 3 + 4) - cn bt (4 * 3)) + (cn bt (4 * 4 + 4) - cn bt (4 * 4))) = n + cn bt 20 from h5, xle (by omega) (by decide)]
  by_cases q : n + cn bt 20 ≤ 320
  · rw [if_pos q, if_pos q]
    rw [show F_X6_take K a f (nI n) = _ from c_take (w := 0) (f := f) hK b0 (by show n + cn bt 4 ≤ 320; have : cn bt 4 ≤ cn bt 8 := m1; have : cn bt 8 ≤ cn bt 12 := m2; have : cn bt 12 ≤ cn bt 16 := m3; have : cn bt 16 ≤ cn bt 20 := m4; omega), xb2]
    rw [show F_X6_take K b (pcF bt n f (4 * 0 + 4)) (nI (n + cn bt (4 * 0 + 4))) = _ from c_take (w := 1) (f := f) hK b1 (by show n + cn bt 8 ≤ 320; have : cn bt 8 ≤ cn bt 12 := m2; have : cn bt 12 ≤ cn bt 16 := m3; have : cn bt 16 ≤ cn bt 20 := m4; omega), xb2]
    rw [show F_X6_take K c (pcF bt n f (4 * 1 + 4)) (nI (n + cn bt (4 * 1 + 4))) = _ from c_take (w := 2) (f := f) hK b2 (by show n + cn bt 12 ≤ 320; have : cn bt 12 ≤ cn bt 16 := m3; have : cn bt 16 ≤ cn bt 20 := m4; omega), xb2]
    rw [show F_X6_take K d (pcF bt n f (4 * 2 + 4)) (nI (n + cn bt (4 * 2 + 4))) = _ from c_take (w := 3) (f := f) hK b3 (by show n + cn bt 16 ≤ 320; have : cn bt 16 ≤ cn bt 20 := m4; omega), xb2]
    rw [show F_X6_take K e (pcF bt n f (4 * 3 + 4)) (nI (n + cn bt (4 * 3 + 4))) = _ from c_take (w := 4) (f := f) hK b4 q, xb2]
  · rw [if_neg q, if_neg q]

theorem bo_sh : ∀ k, k < 20 → (24 : Int32) - ((8 : Int32) * (nI k - nI k / (4 : Int32) * (4 : Int32))) = shF (k % 4) := by decide +kernel
theorem bo_j {k : Nat} {w : Int32} (hk : k < 20) : J_X8_byteOf_45 (nI k) w = some (byF w (k % 4)) := by
  unfold J_X8_byteOf_45
  rw [bo_sh k hk]
  have h4 : k % 4 < 4 := Nat.mod_lt _ (by decide)
  generalize k % 4 = j at h4 ⊢
  rcases (show j = 0 ∨ j = 1 ∨ j = 2 ∨ j = 3 by omega) with rfl | rfl | rfl | rfl
  · exact congrArg some (sh24 w)
  · exact congrArg some (sh16 w)
  · exact congrArg some (sh8 w)
  · exact congrArg some (sh0 w)
theorem bo {a b c d e : Int32} {k : Nat} (hk : k < 20) : F_X8_byteOf a b c d e (nI k) = some (btF a b c d e k) := by
  unfold F_X8_byteOf btF
  rw [bo_j hk, bo_j hk, bo_j hk, bo_j hk, bo_j hk]
  rw [show (4 : Int32) = nI 4 from rfl, show (8 : Int32) = nI 8 from rfl, show (12 : Int32) = nI 12 from rfl, show (16 : Int32) = nI 16 from rfl, xle (by decide) (by omega), xle (by decide) (by omega), xle (by decide) (by omega), xle (by decide) (by omega)]
  by_cases h1 : k < 4
  · rw [if_neg (by omega), if_pos h1]
  · rw [if_pos (by omega), if_neg h1]
    by_cases h2 : k < 8
    · rw [if_neg (by omega), if_pos h2]
    · rw [if_pos (by omega), if_neg h2]
      by_cases h3 : k < 12
      · rw [if_neg (by omega), if_pos h3]
      · rw [if_pos (by omega), if_neg h3]
        by_cases h4 : k < 16
        · rw [if_neg (by omega), if_pos h4]
        · rw [if_pos (by omega), if_neg h4]
theorem m_feed {K n : Nat} {a b c d e : Int32} {f : Nat → Int32} (hK : 400 ≤ K) (hn : n ≤ 320) : F_X8_feed K a b c d e f (nI n) = some (if n + cn (btF a b c d e) 20 ≤ 320 then (nI (n + cn (btF a b c d e) 20), pmF (btF a b c d e) n f 20, nI (n + cn (btF a b c d e) 20)) else (-1, f, nI n)) := by
  have hb : ∀ k, k < 20 → F_X8_byteOf a b c d e (nI k) = some (btF a b c d e k) := fun k hk => bo hk
  generalize btF a b c d e = bt at hb ⊢
  have m5 := cn_le (bt := bt) 20
  have L1 : lpF (fun u9 : Int32 × Int32 => B_X8_feed_6 a b c d e u9.1 u9.2) K ((0 : Int32), (0 : Int32)) = some (nI (cn bt 20)) := by
    refine lp_for (fun k => ((nI (cn bt k), nI k) : Int32 × Int32)) (n := 20) (by omega) (fun k hk => ?_) ?_
    · show B_X8_feed_6 a b c d e (nI (cn bt k)) (nI k) = some (.inl (nI (if bt k = 0 then cn bt k else cn bt k + 1), nI (k + 1)))
      unfold B_X8_feed_6
      rw [hb k hk, xb1, if_neg (show ¬ (20 : Int32) ≤ nI k by rw [show (20 : Int32) = nI 20 from rfl, ple (by decide) (by omega)]; omega), nI_1, nI_1]
      by_cases q : bt k = 0
      · rw [if_pos q, if_pos q, show nI (cn bt k) + 0 = nI (cn bt k) from Int32.add_zero _]
      · rw [if_neg q, if_neg q]
    · show B_X8_feed_6 a b c d e (nI (cn bt 20)) (nI 20) = _
      unfold B_X8_feed_6
      rw [if_pos (by decide)]
  unfold F_X8_feed
  rw [L1, xb1, nI_add, x320, xle (by omega) (by decide)]
  by_cases q : n + cn bt 20 ≤ 320
  · rw [if_pos q, if_pos q]
    rw [show lpF (fun u9 : Int32 × (Nat → Int32) × Int32 => B_X8_feed_62 a b c d e u9.1 u9.2.1 u9.2.2) K ((0 : Int32), f, nI n) = some (pmF bt n f 20, nI (n + cn bt 20)) from ?_, xb2]
    refine lp_for (fun k => ((nI k, pmF bt n f k, nI (n + cn bt k)) : Int32 × (Nat → Int32) × Int32)) (n := 20) (by omega) (fun k hk => ?_) ?_
    · show B_X8_feed_62 a b c d e (nI k) (pmF bt n f k) (nI (n + cn bt k)) = some (.inl (nI (k + 1), (if bt k = 0 then pmF bt n f k else upd (pmF bt n f k) (n + cn bt k) (bt k)), nI (n + (if bt k = 0 then cn bt k else cn bt k + 1))))
      have m1 : cn bt (k + 1) ≤ cn bt 20 := by
        have := cn_mono (bt := bt) (k := k + 1) (19 - k)
        rw [show k + 1 + (19 - k) = 20 by omega] at this
        exact this
      unfold B_X8_feed_62
      rw [hb k hk, xb1, if_neg (show ¬ (20 : Int32) ≤ nI k by rw [show (20 : Int32) = nI 20 from rfl, ple (by decide) (by omega)]; omega), nI_1]
      by_cases q : bt k = 0
      · rw [if_pos q, if_pos q, if_pos q]
      · have m2 : cn bt k + 1 ≤ cn bt 20 := by
          have e : cn bt (k + 1) = cn bt k + 1 := by
            show (if bt k = 0 then cn bt k else cn bt k + 1) = _
            rw [if_neg q]
          omega
        rw [if_neg q, if_neg q, if_neg q, xixn (by omega) (by decide), xnm, nI_clamp (by omega), nI_1, Nat.add_assoc]
    · show B_X8_feed_62 a b c d e (nI 20) _ _ = _
      unfold B_X8_feed_62
      rw [if_pos (by decide)]
  · rw [if_neg q, if_neg q]
/-- both tapes hold the same n signs -/
def TR (n : Nat) (bytes tape : Nat → Int32) : Prop := n ≤ 320 ∧ ∀ i, i < n → ∃ m, 1 ≤ m ∧ m < 256 ∧ tape i = nI m ∧ bytes i &&& 255 = nI m
def sgO (n : Nat) (tape : Nat → Int32) (i : Nat) : Int32 := if i < n then tape i else -1
theorem TR.sg {n : Nat} {bytes tape : Nat → Int32} (h : TR n bytes tape) : Sg n (sgO n tape) := by
  refine ⟨h.1, fun i hi => if_neg (by omega), fun i hi => ?_⟩
  obtain ⟨m, h1, h2, h3, _⟩ := h.2 i hi
  unfold sgO
  rw [if_pos hi, h3]
  exact nI_ne_m1 (by omega)
theorem TR.c {n : Nat} {bytes tape : Nat → Int32} (h : TR n bytes tape) : TpC n (sgO n tape) bytes := by
  intro i hi
  obtain ⟨m, h1, h2, h3, h4⟩ := h.2 i hi
  unfold sgO
  rw [if_pos hi, h3, h4]
theorem TR.m {n : Nat} {bytes tape : Nat → Int32} (_ : TR n bytes tape) : TpM n (sgO n tape) tape := by
  intro i hi
  unfold sgO
  rw [if_pos hi]
theorem upd_no {f : Nat → Int32} {i j : Nat} {x : Int32} (h : ¬ j = i) : upd f i x j = f j := by unfold upd; exact if_neg h
theorem TR.fed {n : Nat} {bt bytes tape : Nat → Int32} (hb : ∀ k, ∃ m, m < 256 ∧ bt k = nI m) (h : TR n bytes tape) : ∀ k, n + cn bt k ≤ 320 → TR (n + cn bt k) (pcF bt n bytes k) (pmF bt n tape k) := by
  intro k
  induction k with
  | zero => exact fun _ => h
  | succ k ih =>
    show n + (if bt k = 0 then cn bt k else cn bt k + 1) ≤ 320 → TR (n + (if bt k = 0 then cn bt k else cn bt k + 1)) (if bt k = 0 then pcF bt n bytes k else upd (pcF bt n bytes k) (n + cn bt k) (vp_nar .byte ((bt k).toInt8.toInt32))) (if bt k = 0 then pmF bt n tape k else upd (pmF bt n tape k) (n + cn bt k) (bt k))
    by_cases q : bt k = 0
    · rw [if_pos q, if_pos q, if_pos q]
      exact ih
    · rw [if_neg q, if_neg q, if_neg q]
      intro hl
      have i1 := ih (by omega)
      obtain ⟨m, hm, e⟩ := hb k
      refine ⟨by omega, fun i hi => ?_⟩
      by_cases z : i = n + cn bt k
      · refine ⟨m, ?_, hm, ?_, ?_⟩
        · exact Nat.pos_of_ne_zero (fun m0 => q (by rw [e, m0]; rfl))
        · rw [z, upd_at, e]
        · rw [z, upd_at, e]
          exact nar255 m hm
      · rw [upd_no z, upd_no z]
        exact i1.2 i (by omega)
theorem bt_ok {a b c d e : Int32} (k : Nat) : ∃ m, m < 256 ∧ btF a b c d e k = nI m := by
  unfold btF byF
  exact and255 _
/-- both take signs alike -/
theorem fd_both {K n : Nat} {a b c d e : Int32} {bytes tape : Nat → Int32} (hK : 400 ≤ K) (h : TR n bytes tape) : ∃ v n' bytes' tape', F_X7_feed K a b c d e bytes (nI n) = some (v, bytes', nI n') ∧ F_X8_feed K a b c d e tape (nI n) = some (v, tape', nI n') ∧ TR n' bytes' tape' := by
  rw [c_feed hK h.1, m_feed hK h.1]
  by_cases q : n + cn (btF a b c d e) 20 ≤ 320
  · rw [if_pos q, if_pos q]
    exact ⟨_, _, _, _, rfl, rfl, h.fed bt_ok 20 q⟩
  · rw [if_neg q, if_neg q]
    exact ⟨_, _, _, _, rfl, rfl, h⟩
theorem c_end {n : Nat} {p : Int32} (hn : n ≤ 320) : F_X7_end p (nI n) = some (if 0 ≤ p ∧ p ≤ nI n then (1, p) else (0, nI n)) := by
  unfold F_X7_end F_X6_cutTo
  by_cases h1 : p < 0
  · rw [if_pos h1, xb2, if_neg (fun q => lt_not.mp h1 q.1)]
  · rw [if_neg h1]
    have h1' : 0 ≤ p := Decidable.byContradiction (fun q => h1 (lt_not.mpr q))
    by_cases h2 : p ≤ nI n
    · rw [if_pos h2, xb2, if_pos ⟨h1', h2⟩]
    · rw [if_neg h2, xb2, if_neg (fun q => h2 q.2)]
theorem m_end {n : Nat} {p : Int32} (hn : n ≤ 320) : F_X8_end p (nI n) = some (if 0 ≤ p ∧ p ≤ nI n then (1, p) else (0, nI n)) := by
  unfold F_X8_end
  rw [show (0 : Int64) = (0 : Int32).toInt64 from rfl, m_inI, xb1]
  by_cases h1 : 0 ≤ p ∧ p ≤ nI n
  · rw [if_pos h1, if_pos h1, if_neg (by decide)]
  · rw [if_neg h1, if_neg h1, if_pos rfl]
theorem en_both {n : Nat} {p : Int32} {bytes tape : Nat → Int32} (h : TR n bytes tape) : ∃ v n', F_X7_end p (nI n) = some (v, nI n') ∧ F_X8_end p (nI n) = some (v, nI n') ∧ TR n' bytes tape := by
  rw [c_end h.1, m_end h.1]
  have hn := h.1
  by_cases q : 0 ≤ p ∧ p ≤ nI n
  · rw [if_pos q]
    have e : p = nI p.toNatClampNeg := by
      have := Int32.le_iff_toInt_le.mp q.1
      apply Int32.toInt_inj.mp
      rw [nI_toInt (by have := Int32.toInt_lt p; unfold Int32.toNatClampNeg; omega)]
      unfold Int32.toNatClampNeg
      have z : (0 : Int32).toInt = 0 := rfl
      omega
    generalize hm : p.toNatClampNeg = m at e
    have ml : m ≤ n := by
      have h2 := q.2
      have hb : m < 2 ^ 31 := by rw [← hm]; have := Int32.toInt_lt p; unfold Int32.toNatClampNeg; omega
      rw [e] at h2
      exact (nI_leI hb (by omega)).mp h2
    exact ⟨1, m, by rw [← e], by rw [← e], by omega, fun i hi => h.2 i (by omega)⟩
  · rw [if_neg q]
    exact ⟨_, _, rfl, rfl, h⟩
end
-- 63.tt
section
/-! Tt x Q: x is some r, and Q r -/
def Tt {α : Type} (x : Option α) (Q : α → Prop) : Prop := ∃ r, x = some r ∧ Q r
theorem tt_some {α : Type} {r : α} {Q : α → Prop} (h : Q r) : Tt (some r) Q := ⟨r, rfl, h⟩
theorem tt_mono {α : Type} {x : Option α} {P Q : α → Prop} (h : Tt x P) (hq : ∀ r, P r → Q r) : Tt x Q := h.elim (fun r z => ⟨r, z.1, hq r z.2⟩)
theorem tt_ite {α : Type} {c : Prop} {d : Decidable c} {a b : Option α} {Q : α → Prop} (h1 : c → Tt a Q) (h2 : ¬ c → Tt b Q) : Tt (@ite (Option α) c d a b) Q := by
  by_cases q : c
  · rw [if_pos q]; exact h1 q
  · rw [if_neg q]; exact h2 q
theorem tt_nm {α β : Type} {x : α} {g : α → Option β} {Q : β → Prop} (h : Tt (g x) Q) : Tt (nmF x g) Q := h
theorem tt_ix {α : Type} {i : Int32} {n : Nat} {g : Option α} {Q : α → Prop} (hi : vp_in i n) (h : Tt g Q) : Tt (ixF i n g) Q := by rw [xix hi]; exact h
theorem tt_ixn {α : Type} {i n : Nat} {g : Option α} {Q : α → Prop} (hi : i < n) (hn : n < 2 ^ 31) (h : Tt g Q) : Tt (ixF (nI i) n g) Q := by rw [xixn hi hn]; exact h
theorem tt_cp {α : Type} {sp dp k : Int32} {n0 n1 : Nat} {g : Option α} {Q : α → Prop} (hc : ¬ sp < 0 ∧ ¬ dp < 0 ∧ ¬ k < 0 ∧ sp.toNatClampNeg + k.toNatClampNeg ≤ n0 ∧ dp.toNatClampNeg + k.toNatClampNeg ≤ n1) (h : Tt g Q) : Tt (cpF sp dp k n0 n1 g) Q := by unfold cpF; rw [if_pos hc]; exact h
theorem tt_bd1 {t0 β : Type} {x : Option (t0)} {f : t0 → Option β} {P : t0 → Prop} {Q : β → Prop} (h : Tt x P) (hf : ∀ (a0 : t0), P a0 → Tt (f a0) Q) : Tt (bd1 x f) Q := by
  obtain ⟨a0, e, p⟩ := h
  rw [e]
  exact hf a0 p
theorem tt_bd2 {t0 t1 β : Type} {x : Option (t0 × t1)} {f : t0 → t1 → Option β} {P : t0 × t1 → Prop} {Q : β → Prop} (h : Tt x P) (hf : ∀ (a0 : t0) (a1 : t1), P (a0, a1) → Tt (f a0 a1) Q) : Tt (bd2 x f) Q := by
  obtain ⟨⟨a0, a1⟩, e, p⟩ := h
  rw [e]
  exact hf a0 a1 p
theorem tt_bd3 {t0 t1 t2 β : Type} {x : Option (t0 × t1 × t2)} {f : t0 → t1 → t2 → Option β} {P : t0 × t1 × t2 → Prop} {Q : β → Prop} (h : Tt x P) (hf : ∀ (a0 : t0) (a1 : t1) (a2 : t2), P (a0, a1, a2) → Tt (f a0 a1 a2) Q) : Tt (bd3 x f) Q := by
  obtain ⟨⟨a0, a1, a2⟩, e, p⟩ := h
  rw [e]
  exact hf a0 a1 a2 p
theorem tt_bd4 {t0 t1 t2 t3 β : Type} {x : Option (t0 × t1 × t2 × t3)} {f : t0 → t1 → t2 → t3 → Option β} {P : t0 × t1 × t2 × t3 → Prop} {Q : β → Prop} (h : Tt x P) (hf : ∀ (a0 : t0) (a1 : t1) (a2 : t2) (a3 : t3), P (a0, a1, a2, a3) → Tt (f a0 a1 a2 a3) Q) : Tt (bd4 x f) Q := by
  obtain ⟨⟨a0, a1, a2, a3⟩, e, p⟩ := h
  rw [e]
  exact hf a0 a1 a2 a3 p
theorem tt_bd5 {t0 t1 t2 t3 t4 β : Type} {x : Option (t0 × t1 × t2 × t3 × t4)} {f : t0 → t1 → t2 → t3 → t4 → Option β} {P : t0 × t1 × t2 × t3 × t4 → Prop} {Q : β → Prop} (h : Tt x P) (hf : ∀ (a0 : t0) (a1 : t1) (a2 : t2) (a3 : t3) (a4 : t4), P (a0, a1, a2, a3, a4) → Tt (f a0 a1 a2 a3 a4) Q) : Tt (bd5 x f) Q := by
  obtain ⟨⟨a0, a1, a2, a3, a4⟩, e, p⟩ := h
  rw [e]
  exact hf a0 a1 a2 a3 a4 p
theorem tt_bd6 {t0 t1 t2 t3 t4 t5 β : Type} {x : Option (t0 × t1 × t2 × t3 × t4 × t5)} {f : t0 → t1 → t2 → t3 → t4 → t5 → Option β} {P : t0 × t1 × t2 × t3 × t4 × t5 → Prop} {Q : β → Prop} (h : Tt x P) (hf : ∀ (a0 : t0) (a1 : t1) (a2 : t2) (a3 : t3) (a4 : t4) (a5 : t5), P (a0, a1, a2, a3, a4, a5) → Tt (f a0 a1 a2 a3 a4 a5) Q) : Tt (bd6 x f) Q := by
  obtain ⟨⟨a0, a1, a2, a3, a4, a5⟩, e, p⟩ := h
  rw [e]
  exact hf a0 a1 a2 a3 a4 a5 p
theorem tt_bd7 {t0 t1 t2 t3 t4 t5 t6 β : Type} {x : Option (t0 × t1 × t2 × t3 × t4 × t5 × t6)} {f : t0 → t1 → t2 → t3 → t4 → t5 → t6 → Option β} {P : t0 × t1 × t2 × t3 × t4 × t5 × t6 → Prop} {Q : β → Prop} (h : Tt x P) (hf : ∀ (a0 : t0) (a1 : t1) (a2 : t2) (a3 : t3) (a4 : t4) (a5 : t5) (a6 : t6), P (a0, a1, a2, a3, a4, a5, a6) → Tt (f a0 a1 a2 a3 a4 a5 a6) Q) : Tt (bd7 x f) Q := by
  obtain ⟨⟨a0, a1, a2, a3, a4, a5, a6⟩, e, p⟩ := h
  rw [e]
  exact hf a0 a1 a2 a3 a4 a5 a6 p
theorem tt_bd8 {t0 t1 t2 t3 t4 t5 t6 t7 β : Type} {x : Option (t0 × t1 × t2 × t3 × t4 × t5 × t6 × t7)} {f : t0 → t1 → t2 → t3 → t4 → t5 → t6 → t7 → Option β} {P : t0 × t1 × t2 × t3 × t4 × t5 × t6 × t7 → Prop} {Q : β → Prop} (h : Tt x P) (hf : ∀ (a0 : t0) (a1 : t1) (a2 : t2) (a3 : t3) (a4 : t4) (a5 : t5) (a6 : t6) (a7 : t7), P (a0, a1, a2, a3, a4, a5, a6, a7) → Tt (f a0 a1 a2 a3 a4 a5 a6 a7) Q) : Tt (bd8 x f) Q := by
  obtain ⟨⟨a0, a1, a2, a3, a4, a5, a6, a7⟩, e, p⟩ := h
  rw [e]
  exact hf a0 a1 a2 a3 a4 a5 a6 a7 p
theorem tt_bd9 {t0 t1 t2 t3 t4 t5 t6 t7 t8 β : Type} {x : Option (t0 × t1 × t2 × t3 × t4 × t5 × t6 × t7 × t8)} {f : t0 → t1 → t2 → t3 → t4 → t5 → t6 → t7 → t8 → Option β} {P : t0 × t1 × t2 × t3 × t4 × t5 × t6 × t7 × t8 → Prop} {Q : β → Prop} (h : Tt x P) (hf : ∀ (a0 : t0) (a1 : t1) (a2 : t2) (a3 : t3) (a4 : t4) (a5 : t5) (a6 : t6) (a7 : t7) (a8 : t8), P (a0, a1, a2, a3, a4, a5, a6, a7, a8) → Tt (f a0 a1 a2 a3 a4 a5 a6 a7 a8) Q) : Tt (bd9 x f) Q := by
  obtain ⟨⟨a0, a1, a2, a3, a4, a5, a6, a7, a8⟩, e, p⟩ := h
  rw [e]
  exact hf a0 a1 a2 a3 a4 a5 a6 a7 a8 p
theorem tt_bd10 {t0 t1 t2 t3 t4 t5 t6 t7 t8 t9 β : Type} {x : Option (t0 × t1 × t2 × t3 × t4 × t5 × t6 × t7 × t8 × t9)} {f : t0 → t1 → t2 → t3 → t4 → t5 → t6 → t7 → t8 → t9 → Option β} {P : t0 × t1 × t2 × t3 × t4 × t5 × t6 × t7 × t8 × t9 → Prop} {Q : β → Prop} (h : Tt x P) (hf : ∀ (a0 : t0) (a1 : t1) (a2 : t2) (a3 : t3) (a4 : t4) (a5 : t5) (a6 : t6) (a7 : t7) (a8 : t8) (a9 : t9), P (a0, a1, a2, a3, a4, a5, a6, a7, a8, a9) → Tt (f a0 a1 a2 a3 a4 a5 a6 a7 a8 a9) Q) : Tt (bd10 x f) Q := by
  obtain ⟨⟨a0, a1, a2, a3, a4, a5, a6, a7, a8, a9⟩, e, p⟩ := h
  rw [e]
  exact hf a0 a1 a2 a3 a4 a5 a6 a7 a8 a9 p
theorem tt_bd11 {t0 t1 t2 t3 t4 t5 t6 t7 t8 t9 t10 β : Type} {x : Option (t0 × t1 × t2 × t3 × t4 × t5 × t6 × t7 × t8 × t9 × t10)} {f : t0 → t1 → t2 → t3 → t4 → t5 → t6 → t7 → t8 → t9 → t10 → Option β} {P : t0 × t1 × t2 × t3 × t4 × t5 × t6 × t7 × t8 × t9 × t10 → Prop} {Q : β → Prop} (h : Tt x P) (hf : ∀ (a0 : t0) (a1 : t1) (a2 : t2) (a3 : t3) (a4 : t4) (a5 : t5) (a6 : t6) (a7 : t7) (a8 : t8) (a9 : t9) (a10 : t10), P (a0, a1, a2, a3, a4, a5, a6, a7, a8, a9, a10) → Tt (f a0 a1 a2 a3 a4 a5 a6 a7 a8 a9 a10) Q) : Tt (bd11 x f) Q := by
  obtain ⟨⟨a0, a1, a2, a3, a4, a5, a6, a7, a8, a9, a10⟩, e, p⟩ := h
  rw [e]
  exact hf a0 a1 a2 a3 a4 a5 a6 a7 a8 a9 a10 p
theorem tt_bd12 {t0 t1 t2 t3 t4 t5 t6 t7 t8 t9 t10 t11 β : Type} {x : Option (t0 × t1 × t2 × t3 × t4 × t5 × t6 × t7 × t8 × t9 × t10 × t11)} {f : t0 → t1 → t2 → t3 → t4 → t5 → t6 → t7 → t8 → t9 → t10 → t11 → Option β} {P : t0 × t1 × t2 × t3 × t4 × t5 × t6 × t7 × t8 × t9 × t10 × t11 → Prop} {Q : β → Prop} (h : Tt x P) (hf : ∀ (a0 : t0) (a1 : t1) (a2 : t2) (a3 : t3) (a4 : t4) (a5 : t5) (a6 : t6) (a7 : t7) (a8 : t8) (a9 : t9) (a10 : t10) (a11 : t11), P (a0, a1, a2, a3, a4, a5, a6, a7, a8, a9, a10, a11) → Tt (f a0 a1 a2 a3 a4 a5 a6 a7 a8 a9 a10 a11) Q) : Tt (bd12 x f) Q := by
  obtain ⟨⟨a0, a1, a2, a3, a4, a5, a6, a7, a8, a9, a10, a11⟩, e, p⟩ := h
  rw [e]
  exact hf a0 a1 a2 a3 a4 a5 a6 a7 a8 a9 a10 a11 p
theorem tt_bd13 {t0 t1 t2 t3 t4 t5 t6 t7 t8 t9 t10 t11 t12 β : Type} {x : Option (t0 × t1 × t2 × t3 × t4 × t5 × t6 × t7 × t8 × t9 × t10 × t11 × t12)} {f : t0 → t1 → t2 → t3 → t4 → t5 → t6 → t7 → t8 → t9 → t10 → t11 → t12 → Option β} {P : t0 × t1 × t2 × t3 × t4 × t5 × t6 × t7 × t8 × t9 × t10 × t11 × t12 → Prop} {Q : β → Prop} (h : Tt x P) (hf : ∀ (a0 : t0) (a1 : t1) (a2 : t2) (a3 : t3) (a4 : t4) (a5 : t5) (a6 : t6) (a7 : t7) (a8 : t8) (a9 : t9) (a10 : t10) (a11 : t11) (a12 : t12), P (a0, a1, a2, a3, a4, a5, a6, a7, a8, a9, a10, a11, a12) → Tt (f a0 a1 a2 a3 a4 a5 a6 a7 a8 a9 a10 a11 a12) Q) : Tt (bd13 x f) Q := by
  obtain ⟨⟨a0, a1, a2, a3, a4, a5, a6, a7, a8, a9, a10, a11, a12⟩, e, p⟩ := h
  rw [e]
  exact hf a0 a1 a2 a3 a4 a5 a6 a7 a8 a9 a10 a11 a12 p
theorem tt_bd14 {t0 t1 t2 t3 t4 t5 t6 t7 t8 t9 t10 t11 t12 t13 β : Type} {x : Option (t0 × t1 × t2 × t3 × t4 × t5 × t6 × t7 × t8 × t9 × t10 × t11 × t12 × t13)} {f : t0 → t1 → t2 → t3 → t4 → t5 → t6 → t7 → t8 → t9 → t10 → t11 → t12 → t13 → Option β} {P : t0 × t1 × t2 × t3 × t4 × t5 × t6 × t7 × t8 × t9 × t10 × t11 × t12 × t13 → Prop} {Q : β → Prop} (h : Tt x P) (hf : ∀ (a0 : t0) (a1 : t1) (a2 : t2) (a3 : t3) (a4 : t4) (a5 : t5) (a6 : t6) (a7 : t7) (a8 : t8) (a9 : t9) (a10 : t10) (a11 : t11) (a12 : t12) (a13 : t13), P (a0, a1, a2, a3, a4, a5, a6, a7, a8, a9, a10, a11, a12, a13) → Tt (f a0 a1 a2 a3 a4 a5 a6 a7 a8 a9 a10 a11 a12 a13) Q) : Tt (bd14 x f) Q := by
  obtain ⟨⟨a0, a1, a2, a3, a4, a5, a6, a7, a8, a9, a10, a11, a12, a13⟩, e, p⟩ := h
  rw [e]
  exact hf a0 a1 a2 a3 a4 a5 a6 a7 a8 a9 a10 a11 a12 a13 p
theorem tt_bd15 {t0 t1 t2 t3 t4 t5 t6 t7 t8 t9 t10 t11 t12 t13 t14 β : Type} {x : Option (t0 × t1 × t2 × t3 × t4 × t5 × t6 × t7 × t8 × t9 × t10 × t11 × t12 × t13 × t14)} {f : t0 → t1 → t2 → t3 → t4 → t5 → t6 → t7 → t8 → t9 → t10 → t11 → t12 → t13 → t14 → Option β} {P : t0 × t1 × t2 × t3 × t4 × t5 × t6 × t7 × t8 × t9 × t10 × t11 × t12 × t13 × t14 → Prop} {Q : β → Prop} (h : Tt x P) (hf : ∀ (a0 : t0) (a1 : t1) (a2 : t2) (a3 : t3) (a4 : t4) (a5 : t5) (a6 : t6) (a7 : t7) (a8 : t8) (a9 : t9) (a10 : t10) (a11 : t11) (a12 : t12) (a13 : t13) (a14 : t14), P (a0, a1, a2, a3, a4, a5, a6, a7, a8, a9, a10, a11, a12, a13, a14) → Tt (f a0 a1 a2 a3 a4 a5 a6 a7 a8 a9 a10 a11 a12 a13 a14) Q) : Tt (bd15 x f) Q := by
  obtain ⟨⟨a0, a1, a2, a3, a4, a5, a6, a7, a8, a9, a10, a11, a12, a13, a14⟩, e, p⟩ := h
  rw [e]
  exact hf a0 a1 a2 a3 a4 a5 a6 a7 a8 a9 a10 a11 a12 a13 a14 p
theorem tt_bd16 {t0 t1 t2 t3 t4 t5 t6 t7 t8 t9 t10 t11 t12 t13 t14 t15 β : Type} {x : Option (t0 × t1 × t2 × t3 × t4 × t5 × t6 × t7 × t8 × t9 × t10 × t11 × t12 × t13 × t14 × t15)} {f : t0 → t1 → t2 → t3 → t4 → t5 → t6 → t7 → t8 → t9 → t10 → t11 → t12 → t13 → t14 → t15 → Option β} {P : t0 × t1 × t2 × t3 × t4 × t5 × t6 × t7 × t8 × t9 × t10 × t11 × t12 × t13 × t14 × t15 → Prop} {Q : β → Prop} (h : Tt x P) (hf : ∀ (a0 : t0) (a1 : t1) (a2 : t2) (a3 : t3) (a4 : t4) (a5 : t5) (a6 : t6) (a7 : t7) (a8 : t8) (a9 : t9) (a10 : t10) (a11 : t11) (a12 : t12) (a13 : t13) (a14 : t14) (a15 : t15), P (a0, a1, a2, a3, a4, a5, a6, a7, a8, a9, a10, a11, a12, a13, a14, a15) → Tt (f a0 a1 a2 a3 a4 a5 a6 a7 a8 a9 a10 a11 a12 a13 a14 a15) Q) : Tt (bd16 x f) Q := by
  obtain ⟨⟨a0, a1, a2, a3, a4, a5, a6, a7, a8, a9, a10, a11, a12, a13, a14, a15⟩, e, p⟩ := h
  rw [e]
  exact hf a0 a1 a2 a3 a4 a5 a6 a7 a8 a9 a10 a11 a12 a13 a14 a15 p
theorem tt_bd17 {t0 t1 t2 t3 t4 t5 t6 t7 t8 t9 t10 t11 t12 t13 t14 t15 t16 β : Type} {x : Option (t0 × t1 × t2 × t3 × t4 × t5 × t6 × t7 × t8 × t9 × t10 × t11 × t12 × t13 × t14 × t15 × t16)} {f : t0 → t1 → t2 → t3 → t4 → t5 → t6 → t7 → t8 → t9 → t10 → t11 → t12 → t13 → t14 → t15 → t16 → Option β} {P : t0 × t1 × t2 × t3 × t4 × t5 × t6 × t7 × t8 × t9 × t10 × t11 × t12 × t13 × t14 × t15 × t16 → Prop} {Q : β → Prop} (h : Tt x P) (hf : ∀ (a0 : t0) (a1 : t1) (a2 : t2) (a3 : t3) (a4 : t4) (a5 : t5) (a6 : t6) (a7 : t7) (a8 : t8) (a9 : t9) (a10 : t10) (a11 : t11) (a12 : t12) (a13 : t13) (a14 : t14) (a15 : t15) (a16 : t16), P (a0, a1, a2, a3, a4, a5, a6, a7, a8, a9, a10, a11, a12, a13, a14, a15, a16) → Tt (f a0 a1 a2 a3 a4 a5 a6 a7 a8 a9 a10 a11 a12 a13 a14 a15 a16) Q) : Tt (bd17 x f) Q := by
  obtain ⟨⟨a0, a1, a2, a3, a4, a5, a6, a7, a8, a9, a10, a11, a12, a13, a14, a15, a16⟩, e, p⟩ := h
  rw [e]
  exact hf a0 a1 a2 a3 a4 a5 a6 a7 a8 a9 a10 a11 a12 a13 a14 a15 a16 p
theorem tt_bd18 {t0 t1 t2 t3 t4 t5 t6 t7 t8 t9 t10 t11 t12 t13 t14 t15 t16 t17 β : Type} {x : Option (t0 × t1 × t2 × t3 × t4 × t5 × t6 × t7 × t8 × t9 × t10 × t11 × t12 × t13 × t14 × t15 × t16 × t17)} {f : t0 → t1 → t2 → t3 → t4 → t5 → t6 → t7 → t8 → t9 → t10 → t11 → t12 → t13 → t14 → t15 → t16 → t17 → Option β} {P : t0 × t1 × t2 × t3 × t4 × t5 × t6 × t7 × t8 × t9 × t10 × t11 × t12 × t13 × t14 × t15 × t16 × t17 → Prop} {Q : β → Prop} (h : Tt x P) (hf : ∀ (a0 : t0) (a1 : t1) (a2 : t2) (a3 : t3) (a4 : t4) (a5 : t5) (a6 : t6) (a7 : t7) (a8 : t8) (a9 : t9) (a10 : t10) (a11 : t11) (a12 : t12) (a13 : t13) (a14 : t14) (a15 : t15) (a16 : t16) (a17 : t17), P (a0, a1, a2, a3, a4, a5, a6, a7, a8, a9, a10, a11, a12, a13, a14, a15, a16, a17) → Tt (f a0 a1 a2 a3 a4 a5 a6 a7 a8 a9 a10 a11 a12 a13 a14 a15 a16 a17) Q) : Tt (bd18 x f) Q := by
  obtain ⟨⟨a0, a1, a2, a3, a4, a5, a6, a7, a8, a9, a10, a11, a12, a13, a14, a15, a16, a17⟩, e, p⟩ := h
  rw [e]
  exact hf a0 a1 a2 a3 a4 a5 a6 a7 a8 a9 a10 a11 a12 a13 a14 a15 a16 a17 p
theorem tt_bd19 {t0 t1 t2 t3 t4 t5 t6 t7 t8 t9 t10 t11 t12 t13 t14 t15 t16 t17 t18 β : Type} {x : Option (t0 × t1 × t2 × t3 × t4 × t5 × t6 × t7 × t8 × t9 × t10 × t11 × t12 × t13 × t14 × t15 × t16 × t17 × t18)} {f : t0 → t1 → t2 → t3 → t4 → t5 → t6 → t7 → t8 → t9 → t10 → t11 → t12 → t13 → t14 → t15 → t16 → t17 → t18 → Option β} {P : t0 × t1 × t2 × t3 × t4 × t5 × t6 × t7 × t8 × t9 × t10 × t11 × t12 × t13 × t14 × t15 × t16 × t17 × t18 → Prop} {Q : β → Prop} (h : Tt x P) (hf : ∀ (a0 : t0) (a1 : t1) (a2 : t2) (a3 : t3) (a4 : t4) (a5 : t5) (a6 : t6) (a7 : t7) (a8 : t8) (a9 : t9) (a10 : t10) (a11 : t11) (a12 : t12) (a13 : t13) (a14 : t14) (a15 : t15) (a16 : t16) (a17 : t17) (a18 : t18), P (a0, a1, a2, a3, a4, a5, a6, a7, a8, a9, a10, a11, a12, a13, a14, a15, a16, a17, a18) → Tt (f a0 a1 a2 a3 a4 a5 a6 a7 a8 a9 a10 a11 a12 a13 a14 a15 a16 a17 a18) Q) : Tt (bd19 x f) Q := by
  obtain ⟨⟨a0, a1, a2, a3, a4, a5, a6, a7, a8, a9, a10, a11, a12, a13, a14, a15, a16, a17, a18⟩, e, p⟩ := h
  rw [e]
  exact hf a0 a1 a2 a3 a4 a5 a6 a7 a8 a9 a10 a11 a12 a13 a14 a15 a16 a17 a18 p
def Nx {σ ρ : Type} (I : Nat → σ → Prop) (R : ρ → Prop) (n j : Nat) : σ ⊕ ρ → Prop
  | .inl u => j < n ∧ I (j + 1) u
  | .inr r => R r
theorem nx_l {σ ρ : Type} {I : Nat → σ → Prop} {R : ρ → Prop} {n j : Nat} {u : σ} (h1 : j < n) (h2 : I (j + 1) u) : Nx I R n j (.inl u) := ⟨h1, h2⟩
theorem nx_r {σ ρ : Type} {I : Nat → σ → Prop} {R : ρ → Prop} {n j : Nat} {r : ρ} (h : R r) : Nx I R n j (.inr r) := h
theorem tt_forA {σ ρ : Type} {b : σ → Option (σ ⊕ ρ)} {R : ρ → Prop} (I : Nat → σ → Prop) {n : Nat} (h : ∀ j u, j ≤ n → I j u → Tt (b u) (Nx I R n j)) : ∀ (K j : Nat) (u : σ), j ≤ n → n - j < K → I j u → Tt (lpF b K u) R := by
  intro K
  induction K with
  | zero => intro j u h0 h1; omega
  | succ K ih =>
    intro j u h0 h1 h2
    obtain ⟨x, e, p⟩ := h j u h0 h2
    cases x with
    | inl u' =>
      rw [lp_one e]
      have p1 : j < n := p.1
      exact ih (j + 1) u' (by omega) (by omega) p.2
    | inr r =>
      rw [lp_end e]
      exact ⟨r, rfl, p⟩
/-- a loop that counts -/
theorem tt_for {σ ρ : Type} {b : σ → Option (σ ⊕ ρ)} {R : ρ → Prop} (I : Nat → σ → Prop) (n : Nat) {K : Nat} {u : σ} (hK : n < K) (h0 : I 0 u) (h : ∀ j u, j ≤ n → I j u → Tt (b u) (Nx I R n j)) : Tt (lpF b K u) R := tt_forA I h K 0 u (Nat.zero_le _) (by omega) h0
/-- a number of sites -/
def Rw (x : Int32) : Prop := ∃ k, k ≤ 8 ∧ x = nI k
theorem rw_lt {f3 r x : Int32} {j : Nat} (h : Rw f3) (hr : r = f3) (hx : x = nI j) (hj : j ≤ 8) (q : ¬ r ≤ x) : j < 8 := by
  obtain ⟨k, hk, e⟩ := h
  rw [hr, e, hx] at q
  have := mt (nI_leI (a := k) (b := j) (by omega) (by omega)).mpr q
  omega
theorem nx1 {x : Int32} {j : Nat} (hx : x = nI j) : x + 1 = nI (j + 1) := by rw [hx, nI_1]
theorem nnI {p : Int32} {n : Nat} (hn : n < 2 ^ 31) (h1 : ¬ p < 0) (h2 : ¬ nI n ≤ p) : ∃ a, a < n ∧ p = nI a := by
  have z : (0 : Int32).toInt = 0 := rfl
  have h0 : 0 ≤ p.toInt := by
    have := mt Int32.lt_iff_toInt_lt.mpr h1
    omega
  have e : p = nI p.toNatClampNeg := by
    apply Int32.toInt_inj.mp
    rw [nI_toInt (by have := Int32.toInt_lt p; unfold Int32.toNatClampNeg; omega)]
    unfold Int32.toNatClampNeg
    omega
  refine ⟨p.toNatClampNeg, ?_, e⟩
  have hb : p.toNatClampNeg < 2 ^ 31 := by have := Int32.toInt_lt p; unfold Int32.toNatClampNeg; omega
  rw [e] at h2
  have := mt (nI_leI (a := n) (b := p.toNatClampNeg) hn hb).mpr h2
  omega
end
-- 64.ts
section
/-! State: every method ends, and leaves the number of sites -/
theorem sx {a b : Nat} : (17 : Int32) + nI a * 8 + nI b = nI (17 + a * 8 + b) := by rw [show (17 : Int32) = nI 17 from rfl, show (8 : Int32) = nI 8 from rfl, nI_mul, nI_add, nI_add]
theorem tt_nz {α : Type} {d : Int32} {g : Option α} {Q : α → Prop} (hd : ¬ d = 0) (h : Tt g Q) : Tt (nzI d g) Q := by unfold nzI; rw [if_neg hd]; exact h
theorem tt_nzL {α : Type} {d : Int64} {g : Option α} {Q : α → Prop} (hd : ¬ d = 0) (h : Tt g Q) : Tt (nzL d g) Q := by unfold nzL; rw [if_neg hd]; exact h
theorem t_floorDiv {a b : Int32} (h : ¬ b = 0) : Tt (F_J9_floorDiv_7cf53 a b) (fun _ => True) := by
  unfold F_J9_floorDiv_7cf53
  refine tt_nz h ?_
  repeat' (first | (with_reducible refine tt_some ?_) | (with_reducible refine tt_nm ?_) | (with_reducible refine tt_ite (fun _ => ?_) (fun _ => ?_)))
  all_goals (first | trivial | assumption | (simp [upd, *]; done))
theorem t_floorMod {a b : Int32} (h : ¬ b = 0) : Tt (F_J9_floorMod_7cf53 a b) (fun _ => True) := by
  unfold F_J9_floorMod_7cf53
  refine tt_nz h ?_
  repeat' (first | (with_reducible refine tt_some ?_) | (with_reducible refine tt_nm ?_) | (with_reducible refine tt_ite (fun _ => ?_) (fun _ => ?_)))
  all_goals (first | trivial | assumption | (simp [upd, *]; done))
theorem t_hasSite {p1 : Int32} {f : Nat → Int32} : Tt (F_X5_hasSite p1 f) (fun _ => True) := by
  unfold F_X5_hasSite
  repeat' (first | (with_reducible refine tt_some ?_) | (with_reducible refine tt_nm ?_) | (with_reducible refine tt_ite (fun _ => ?_) (fun _ => ?_)) | (with_reducible refine tt_bd1 (t_floorDiv ?_) (fun _ _ => ?_)) | (with_reducible refine tt_bd1 (t_floorMod ?_) (fun _ _ => ?_)))
  all_goals (first | trivial | assumption | (simp [upd, *]; done))
theorem t_of {p1 p2 : Int32} {f : Nat → Int32} : Tt (F_X5_of p1 p2 f) (fun _ => True) := by
  unfold F_X5_of
  refine tt_ite (fun _ => tt_some trivial) (fun a1 => ?_)
  refine tt_ite (fun _ => tt_some trivial) (fun a2 => ?_)
  refine tt_ite (fun _ => tt_some trivial) (fun b1 => ?_)
  refine tt_ite (fun b2 => ?_) (fun _ => tt_some trivial)
  obtain ⟨a, ha, rfl⟩ := nnI (n := 8) (by decide) a1 a2
  obtain ⟨b, hb, rfl⟩ := nnI (n := 8) (by decide) b1 (lt_not.mp b2)
  rw [sx]
  exact tt_ixn (by omega) (by decide) (tt_some trivial)
theorem t_isReached {f : Nat → Int32} : Tt (F_X5_isReached f) (fun _ => True) := by
  unfold F_X5_isReached
  repeat' (first | (with_reducible refine tt_some ?_) | (with_reducible refine tt_nm ?_) | (with_reducible refine tt_ite (fun _ => ?_) (fun _ => ?_)) | (with_reducible refine tt_bd1 (t_floorDiv ?_) (fun _ _ => ?_)) | (with_reducible refine tt_bd1 (t_floorMod ?_) (fun _ _ => ?_)) | (with_reducible refine tt_bd1 (t_hasSite) (fun _ _ => ?_)) | (with_reducible refine tt_bd1 (t_of) (fun _ _ => ?_)))
  all_goals (first | trivial | assumption | (simp [upd, *]; done))
theorem t_addRefusal {p1 p2 : Int32} {f : Nat → Int32} : Tt (F_X5_addRefusal p1 p2 f) (fun _ => True) := by
  unfold F_X5_addRefusal
  repeat' (first | (with_reducible refine tt_some ?_) | (with_reducible refine tt_nm ?_) | (with_reducible refine tt_ite (fun _ => ?_) (fun _ => ?_)) | (with_reducible refine tt_bd1 (t_floorDiv ?_) (fun _ _ => ?_)) | (with_reducible refine tt_bd1 (t_floorMod ?_) (fun _ _ => ?_)) | (with_reducible refine tt_bd1 (t_hasSite) (fun _ _ => ?_)) | (with_reducible refine tt_bd1 (t_of) (fun _ _ => ?_)) | (with_reducible refine tt_bd1 (t_isReached) (fun _ _ => ?_)))
  all_goals (first | trivial | assumption | (simp [upd, *]; done))
theorem t_put {p1 p2 p3 : Int32} {f : Nat → Int32} : Tt (F_X5_put p1 p2 p3 f) (fun g => g 3 = f 3) := by
  unfold F_X5_put
  refine tt_ite (fun _ => tt_some rfl) (fun a1 => ?_)
  refine tt_ite (fun _ => tt_some rfl) (fun a2 => ?_)
  refine tt_ite (fun _ => tt_some rfl) (fun b1 => ?_)
  refine tt_ite (fun _ => tt_some rfl) (fun b2 => ?_)
  obtain ⟨a, ha, rfl⟩ := nnI (n := 8) (by decide) a1 a2
  obtain ⟨b, hb, rfl⟩ := nnI (n := 8) (by decide) b1 b2
  rw [sx]
  refine tt_ixn (by omega) (by decide) (tt_nm (tt_some ?_))
  rw [nI_clamp (by omega)]
  exact upd_no (by omega)
theorem t_stepFrom {p1 : Int32} {f : Nat → Int32} : Tt (F_X5_stepFrom p1 f) (fun _ => True) := by
  unfold F_X5_stepFrom
  refine tt_ite (fun _ => tt_some trivial) (fun a1 => ?_)
  refine tt_ite (fun _ => ?_) (fun _ => tt_some trivial)
  refine tt_nz (fun z => a1 ?_) (tt_some trivial)
  rw [z]
  exact Int32.le_refl 0
theorem t_sites {f : Nat → Int32} : Tt (F_X5_sites f) (fun r => r = f 3) := by
  exact tt_some rfl
theorem t_total {K : Nat} {f : Nat → Int32} {p1 : Int32} (hK : 200000 ≤ K) (hr : Rw (f 3)) : Tt (F_X5_total K p1 f) (fun _ => True) := by
  unfold F_X5_total
  refine tt_bd1 (P := fun _ => True) (tt_for (fun j u => u.2 = nI j) 8 (by omega) rfl (fun j u hj hu => ?_)) (fun _ _ => tt_some trivial)
  unfold B_X5_total_4
  refine tt_bd1 t_sites (fun r hs => tt_ite (fun _ => tt_some (nx_r trivial)) (fun q => tt_bd1 t_of (fun _ _ => tt_some (nx_l (rw_lt hr hs hu hj q) (nx1 hu)))))
theorem t_endRound {K : Nat} {f : Nat → Int32} (hK : 200000 ≤ K) (hr : Rw (f 3)) : Tt (F_X5_endRound K f) (fun g => g 3 = f 3) := by
  unfold F_X5_endRound
  refine tt_bd1 (t_total hK hr) (fun r _ => tt_nm (tt_nm (tt_nm ?_)))
  refine tt_bd1 (P := fun g => g 3 = f 3) (tt_for (fun j u => u.1 = nI j ∧ u.2 3 = f 3) 8 (by omega) ⟨rfl, rfl⟩ (fun j u hj hu => ?_)) (fun g hg => tt_some hg)
  unfold B_X5_endRound_34
  refine tt_bd1 t_sites (fun r hs => tt_ite (fun _ => tt_some (nx_r hu.2)) (fun q => tt_bd1 t_put (fun g hg => tt_some (nx_l (rw_lt hr (hs.trans hu.2) hu.1 hj q) ⟨nx1 hu.1, hg.trans hu.2⟩))))
theorem t_addTo {K : Nat} {p1 p2 : Int32} {f : Nat → Int32} (hK : 200000 ≤ K) (hr : Rw (f 3)) : Tt (F_X5_addTo K p1 p2 f) (fun x => x.2 3 = f 3) := by
  unfold F_X5_addTo
  refine tt_bd1 t_of (fun r _ => tt_bd1 t_put (fun w hw => tt_bd1 t_stepFrom (fun s _ => ?_)))
  refine tt_ite (fun _ => tt_nm (tt_some hw)) (fun _ => tt_bd1 t_of (fun r8 _ => tt_bd1 t_put (fun w1 hw1 => ?_)))
  refine tt_bd3 (P := fun x : Nat × Int32 × (Nat → Int32) => x.1 < 2 ∧ x.2.2 3 = f 3) (tt_for (fun j u => u.2.1 = nI j ∧ u.2.2 3 = f 3) 8 (by omega) ⟨rfl, hw1.trans hw⟩ (fun j u hj hu => ?_)) (fun t x4 g hg => ?_)
  · unfold B_X5_addTo_67
    refine tt_ite (fun _ => tt_some (nx_r ⟨Nat.lt_succ_self 1, hu.2⟩)) (fun q => tt_bd1 t_of (fun r _ => tt_ite (fun _ => tt_some (nx_r ⟨Nat.lt_succ_self 1, hu.2⟩)) (fun _ => tt_bd1 t_of (fun r _ => tt_bd1 t_put (fun g hg => tt_nm ?_)))))
    have jl : j < 8 := by
      rw [hu.1, show (8 : Int32) = nI 8 from rfl] at q
      have := mt (nI_leI (a := 8) (b := j) (by omega) (by omega)).mpr q
      omega
    exact tt_ite (fun _ => tt_some (nx_l jl ⟨nx1 hu.1, hg.trans hu.2⟩)) (fun _ => tt_some (nx_r ⟨Nat.zero_lt_succ 1, hg.trans hu.2⟩))
  · have hg2 : g 3 = f 3 := hg.2
    have ht : t < 2 := hg.1
    refine tt_ite (fun _ => tt_bd1 (t_endRound hK (by rw [hg2]; exact hr)) (fun w hw => tt_some (Eq.trans hw hg2))) (fun h0 => tt_ite (fun _ => tt_some hg2) (fun h1 => ?_))
    omega
theorem t_valueOf {p1 p2 : Int64} {f : Nat → Int32} : Tt (F_X5_valueOf p1 p2 f) (fun _ => True) := by
  unfold F_X5_valueOf J_X5_valueOf_12 J_X5_valueOf_26
  repeat' (first | (with_reducible refine tt_some ?_) | (with_reducible refine tt_nm ?_) | (with_reducible refine tt_ite (fun _ => ?_) (fun _ => ?_)) | (with_reducible refine tt_bd1 (t_floorDiv ?_) (fun _ _ => ?_)) | (with_reducible refine tt_bd1 (t_floorMod ?_) (fun _ _ => ?_)) | (with_reducible refine tt_bd1 (t_hasSite) (fun _ _ => ?_)) | (with_reducible refine tt_bd1 (t_of) (fun _ _ => ?_)) | (with_reducible refine tt_bd1 (t_isReached) (fun _ _ => ?_)) | (with_reducible refine tt_bd1 (t_addRefusal) (fun _ _ => ?_)) | (with_reducible refine tt_bd1 (t_put) (fun _ _ => ?_)) | (with_reducible refine tt_bd1 (t_stepFrom) (fun _ _ => ?_)) | (with_reducible refine tt_bd1 (t_sites) (fun _ _ => ?_)) | (with_reducible refine tt_bd1 (t_total ?_ ?_) (fun _ _ => ?_)) | (with_reducible refine tt_bd1 (t_endRound ?_ ?_) (fun _ _ => ?_)) | (with_reducible refine tt_bd2 (t_addTo ?_ ?_) (fun _ _ _ => ?_)))
  all_goals (first | trivial | assumption | (simp [upd, *]; done))
theorem t_allows {p1 p2 : Int64} {f : Nat → Int32} : Tt (F_X5_allows p1 p2 f) (fun _ => True) := by
  unfold F_X5_allows
  repeat' (first | (with_reducible refine tt_some ?_) | (with_reducible refine tt_nm ?_) | (with_reducible refine tt_ite (fun _ => ?_) (fun _ => ?_)) | (with_reducible refine tt_bd1 (t_floorDiv ?_) (fun _ _ => ?_)) | (with_reducible refine tt_bd1 (t_floorMod ?_) (fun _ _ => ?_)) | (with_reducible refine tt_bd1 (t_hasSite) (fun _ _ => ?_)) | (with_reducible refine tt_bd1 (t_of) (fun _ _ => ?_)) | (with_reducible refine tt_bd1 (t_isReached) (fun _ _ => ?_)) | (with_reducible refine tt_bd1 (t_addRefusal) (fun _ _ => ?_)) | (with_reducible refine tt_bd1 (t_put) (fun _ _ => ?_)) | (with_reducible refine tt_bd1 (t_stepFrom) (fun _ _ => ?_)) | (with_reducible refine tt_bd1 (t_sites) (fun _ _ => ?_)) | (with_reducible refine tt_bd1 (t_total ?_ ?_) (fun _ _ => ?_)) | (with_reducible refine tt_bd1 (t_endRound ?_ ?_) (fun _ _ => ?_)) | (with_reducible refine tt_bd2 (t_addTo ?_ ?_) (fun _ _ _ => ?_)) | (with_reducible refine tt_bd1 (t_valueOf) (fun _ _ => ?_)))
  all_goals (first | trivial | assumption | (simp [upd, *]; done))
theorem t_aloneToGoal {K : Nat} {p1 p2 : Int32} {f : Nat → Int32} (hK : 200000 ≤ K) (hr : Rw (f 3)) : Tt (F_X5_aloneToGoal K p1 p2 f) (fun _ => True) := by
  unfold F_X5_aloneToGoal
  refine tt_bd1 (t_total hK hr) (fun r _ => tt_bd1 t_of (fun r3 _ => tt_bd1 t_stepFrom (fun r5 _ => ?_)))
  refine tt_bd3 (P := fun _ => True) (tt_for (fun j u => u.2.2.2.2.2.2.2 = nI j) 9999 (by omega) rfl (fun j u hj hu => ?_)) (fun _ _ _ _ => ?_)
  · unfold B_X5_aloneToGoal_50
    refine tt_ite (fun _ => tt_some (nx_r trivial)) (fun q => tt_ite (fun _ => tt_some (nx_r trivial)) (fun _ => tt_bd1 t_stepFrom (fun r9 _ => tt_some (nx_l ?_ (nx1 hu)))))
    rw [hu, show (9999 : Int32) = nI 9999 from rfl] at q
    have := mt (nI_leI (a := 9999) (b := j) (by omega) (by omega)).mpr q
    omega
  · unfold J_X5_aloneToGoal_136
    exact tt_ite (fun _ => tt_some trivial) (fun _ => tt_some trivial)
theorem t_shareOf {p1 p2 : Int32} {a b : Nat → Int32} : Tt (F_X5_shareOf p1 p2 a b) (fun _ => True) := by
  unfold F_X5_shareOf
  refine tt_ite (fun _ => tt_some trivial) (fun a1 => tt_ite (fun a2 => ?_) (fun _ => tt_some trivial))
  obtain ⟨c, hc, rfl⟩ := nnI (n := 2) (by decide) a1 (fun z => absurd (Int32.le_trans (show (2 : Int32) ≤ p2 from z) a2) (by decide))
  exact tt_ixn hc (by decide) (tt_ite (fun _ => tt_ixn hc (by decide) (tt_some trivial)) (fun _ => tt_ixn hc (by decide) (tt_some trivial)))
theorem t_drift {p1 p2 : Int32} {f : Nat → Int32} : Tt (F_X5_drift p1 p2 f) (fun _ => True) := by
  unfold F_X5_drift
  refine tt_ite (fun _ => tt_some trivial) (fun a1 => ?_)
  refine tt_ite (fun _ => tt_some trivial) (fun a2 => ?_)
  refine tt_ite (fun _ => tt_some trivial) (fun b1 => tt_ite (fun b2 => ?_) (fun _ => tt_some trivial))
  obtain ⟨a, ha, rfl⟩ := nnI (n := 8) (by decide) a1 a2
  obtain ⟨b, hb, rfl⟩ := nnI (n := 2) (by decide) b1 (fun z => absurd (Int32.le_trans (show (2 : Int32) ≤ p2 from z) b2) (by decide))
  rw [sx, show (0 : Int32) = nI 0 from rfl, show (2 : Int32) = nI 2 from rfl, show (4 : Int32) = nI 4 from rfl, nI_add, nI_add, nI_add]
  exact tt_ixn (by omega) (by decide) (tt_ixn (by omega) (by decide) (tt_ixn (by omega) (by decide) (tt_some trivial)))
theorem t_balance {K : Nat} {p1 ac oc : Int32} {f sh lo : Nat → Int32} (hK : 200000 ≤ K) (hr : Rw (f 3)) : Tt (F_X5_balance K p1 f ac oc sh lo) (fun x => x.2.1 3 = f 3) := by
  unfold F_X5_balance
  refine tt_nm (tt_bd2 (P := fun x : Int32 × (Nat → Int32) => x.2 3 = f 3) (tt_for (fun j u => u.2.1 = nI j ∧ u.2.2 3 = f 3) 8 (by omega) ⟨rfl, rfl⟩ (fun j u hj hu => ?_)) (fun x2 g hg => tt_some hg))
  unfold B_X5_balance_20
  refine tt_bd1 t_sites (fun r hs => tt_ite (fun _ => tt_some (nx_r hu.2)) (fun q => ?_))
  have jl := rw_lt hr (hs.trans hu.2) hu.1 hj q
  refine tt_ite (fun _ => tt_some (nx_l jl ⟨nx1 hu.1, hu.2⟩)) (fun _ => ?_)
  refine tt_bd1 (P := fun g => g 3 = f 3) (tt_for (fun j u => u.1 = nI j ∧ u.2 3 = f 3) 2 (by omega) ⟨rfl, hu.2⟩ (fun i v hi hv => ?_)) (fun g hg => tt_some (nx_l jl ⟨nx1 hu.1, hg⟩))
  unfold B_X5_balance_42
  refine tt_ite (fun _ => tt_some (nx_r hv.2)) (fun q => tt_bd1 t_shareOf (fun _ _ => tt_bd1 t_drift (fun _ _ => tt_bd1 t_of (fun _ _ => tt_bd1 t_put (fun g hg => tt_some (nx_l ?_ ⟨nx1 hv.1, hg.trans hv.2⟩))))))
  rw [hv.1, show (2 : Int32) = nI 2 from rfl] at q
  have := mt (nI_leI (a := 2) (b := i) (by omega) (by omega)).mpr q
  omega
theorem t_hearPlaces {K : Nat} {f : Nat → Int32} (hK : 200000 ≤ K) (hr : Rw (f 3)) : Tt (F_X5_hearPlaces K f) (fun g => g 3 = f 3) := by
  unfold F_X5_hearPlaces
  refine tt_nm (tt_nm (tt_bd1 (P := fun g => g 3 = f 3) (tt_for (fun j u => u.1 = nI j ∧ u.2 3 = f 3) 8 (by omega) ⟨rfl, rfl⟩ (fun j u hj hu => ?_)) (fun g hg => tt_some hg)))
  unfold B_X5_hearPlaces_16
  refine tt_bd1 t_sites (fun r hs => tt_ite (fun _ => tt_some (nx_r hu.2)) (fun q => ?_))
  have jl := rw_lt hr (hs.trans hu.2) hu.1 hj q
  exact tt_bd1 t_of (fun _ _ => tt_bd1 t_put (fun g1 h1 => tt_bd1 t_of (fun _ _ => tt_bd1 t_put (fun g2 h2 => tt_bd1 t_put (fun g3 h3 => tt_bd1 t_put (fun g4 h4 => tt_bd1 t_of (fun _ _ => tt_nm (tt_bd1 t_of (fun _ _ => tt_nm (tt_some (nx_l jl ⟨nx1 hu.1, h4.trans (h3.trans (h2.trans (h1.trans hu.2)))⟩)))))))))))
theorem t_begin {K : Nat} {f ru pl : Nat → Int32} {s : Nat} (hK : 200000 ≤ K) (hs : s ≤ 8) : Tt (F_X5_begin K f ru pl (nI s)) (fun g => g 3 = nI s) := by
  unfold F_X5_begin
  have hm : minF (nI s) 8 = nI s := by
    unfold minF
    refine if_neg (fun z => ?_)
    rw [show (8 : Int32) = nI 8 from rfl] at z
    have := (nI_ltI (a := 8) (b := s) (by omega) (by omega)).mp z
    omega
  refine tt_bd1 (P := fun _ => True) (tt_for (fun j u => u.1 = nI j) 81 (by omega) rfl (fun j u hj hu => ?_)) (fun g _ => tt_nm (tt_nm (tt_nm (tt_nm ?_))))
  · unfold B_X5_begin_2
    refine tt_ite (fun _ => tt_some (nx_r trivial)) (fun q => ?_)
    have jl : j < 81 := by
      rw [hu, show (81 : Int32) = nI 81 from rfl] at q
      have := mt (nI_leI (a := 81) (b := j) (by omega) (by omega)).mpr q
      omega
    rw [hu]
    exact tt_ixn jl (by decide) (tt_nm (tt_some (nx_l jl (nx1 rfl))))
  · have hr : Rw (nI s) := ⟨s, hs, rfl⟩
    refine tt_bd1 (P := fun g => g 3 = nI s) (tt_for (fun j u => u.1 = nI j ∧ u.2 3 = nI s) 8 (by omega) ⟨rfl, hm⟩ (fun j u hj hu => ?_)) (fun g hg => tt_bd1 (t_hearPlaces hK (by rw [show g 3 = nI s from hg]; exact hr)) (fun w hw => tt_bd1 t_allows (fun _ _ => tt_ite (fun _ => tt_nm (tt_some (Eq.trans hw hg))) (fun _ => tt_nm (tt_some (Eq.trans hw hg))))))
    unfold B_X5_begin_74
    refine tt_bd1 t_sites (fun r hs => tt_ite (fun _ => tt_some (nx_r hu.2)) (fun q => ?_))
    have jl := rw_lt hr (hs.trans hu.2) hu.1 hj q
    have e1 : (2 : Int32) * u.1 = nI (2 * j) := by rw [hu.1]; exact nI_mul 2 j
    have e2 : (2 : Int32) * u.1 + 1 = nI (2 * j + 1) := nx1 e1
    rw [e2, e1]
    exact tt_ixn (by omega) (by decide) (tt_bd1 t_put (fun g1 h1 => tt_ixn (by omega) (by decide) (tt_bd1 t_put (fun g2 h2 => tt_some (nx_l jl ⟨nx1 hu.1, h2.trans (h1.trans hu.2)⟩)))))
end
-- 65.tu
section
/-! State, its second half; the draw, history and scripts -/
theorem lt_of_lit {x : Int32} {n j : Nat} (hn : n < 2 ^ 31) (hj : j < 2 ^ 31) (hx : x = nI j) (q : ¬ nI n ≤ x) : j < n := by
  rw [hx] at q
  have := mt (nI_leI (a := n) (b := j) hn hj).mpr q
  omega
theorem t_bitCount {p : Int32} : Tt (F_J6_bitCount_0f7a4 p) (fun _ => True) := by
  exact tt_some trivial
theorem t_measureShares {K : Nat} {p1 : Int32} {f a b : Nat → Int32} (hK : 200000 ≤ K) (hr : Rw (f 3)) : Tt (F_X5_measureShares K p1 f a b) (fun _ => True) := by
  unfold F_X5_measureShares
  refine tt_bd1 t_bitCount (fun r _ => tt_ite (fun _ => tt_some trivial) (fun r0 => ?_))
  refine tt_bd2 (P := fun _ => True) (tt_for (fun j u => u.1 = nI j) 2 (by omega) rfl (fun j u hj hu => ?_)) (fun _ _ _ => tt_some trivial)
  unfold B_X5_measureShares_12
  refine tt_ite (fun _ => tt_some (nx_r trivial)) (fun q => ?_)
  have jl : j < 2 := lt_of_lit (by decide) (by omega) hu q
  refine tt_bd1 (P := fun _ => True) (tt_for (fun j u => u.2 = nI j) 8 (by omega) rfl (fun i v hi hv => ?_)) (fun x4 _ => ?_)
  · unfold B_X5_measureShares_23
    refine tt_bd1 t_sites (fun r hs => tt_ite (fun _ => tt_some (nx_r trivial)) (fun q => ?_))
    have il := rw_lt hr hs hv hi q
    exact tt_ite (fun _ => tt_some (nx_l il (nx1 hv))) (fun _ => tt_bd1 t_drift (fun _ _ => tt_some (nx_l il (nx1 hv))))
  · rw [hu]
    exact tt_bd1 (t_floorDiv r0) (fun _ _ => tt_ixn jl (by decide) (tt_nm (tt_bd1 (t_floorMod r0) (fun _ _ => tt_ixn jl (by decide) (tt_nm (tt_some (nx_l jl (nx1 rfl))))))))
theorem t_isAbove {f : Nat → Int32} : Tt (F_X5_isAbove f) (fun _ => True) := by
  unfold F_X5_isAbove
  repeat' (first | (with_reducible refine tt_some ?_) | (with_reducible refine tt_nm ?_) | (with_reducible refine tt_ite (fun _ => ?_) (fun _ => ?_)) | (with_reducible refine tt_bd1 (t_floorDiv ?_) (fun _ _ => ?_)) | (with_reducible refine tt_bd1 (t_floorMod ?_) (fun _ _ => ?_)) | (with_reducible refine tt_bd1 (t_hasSite) (fun _ _ => ?_)) | (with_reducible refine tt_bd1 (t_of) (fun _ _ => ?_)) | (with_reducible refine tt_bd1 (t_isReached) (fun _ _ => ?_)) | (with_reducible refine tt_bd1 (t_addRefusal) (fun _ _ => ?_)) | (with_reducible refine tt_bd1 (t_put) (fun _ _ => ?_)) | (with_reducible refine tt_bd1 (t_stepFrom) (fun _ _ => ?_)) | (with_reducible refine tt_bd1 (t_sites) (fun _ _ => ?_)) | (with_reducible refine tt_bd1 (t_total ?_ ?_) (fun _ _ => ?_)) | (with_reducible refine tt_bd1 (t_endRound ?_ ?_) (fun _ _ => ?_)) | (with_reducible refine tt_bd2 (t_addTo ?_ ?_) (fun _ _ _ => ?_)) | (with_reducible refine tt_bd1 (t_valueOf) (fun _ _ => ?_)) | (with_reducible refine tt_bd1 (t_allows) (fun _ _ => ?_)) | (with_reducible refine tt_bd1 (t_aloneToGoal ?_ ?_) (fun _ _ => ?_)) | (with_reducible refine tt_bd1 (t_shareOf) (fun _ _ => ?_)) | (with_reducible refine tt_bd1 (t_drift) (fun _ _ => ?_)) | (with_reducible refine tt_bd3 (t_balance ?_ ?_) (fun _ _ _ _ => ?_)) | (with_reducible refine tt_bd1 (t_hearPlaces ?_ ?_) (fun _ _ => ?_)) | (with_reducible refine tt_bd1 (t_bitCount) (fun _ _ => ?_)) | (with_reducible refine tt_bd2 (t_measureShares ?_ ?_) (fun _ _ _ => ?_)))
  all_goals (first | trivial | assumption | (simp [upd, *]; done))
theorem t_isQuietDrift {p1 p2 : Int32} {f : Nat → Int32} : Tt (F_X5_isQuietDrift p1 p2 f) (fun _ => True) := by
  unfold F_X5_isQuietDrift
  repeat' (first | (with_reducible refine tt_some ?_) | (with_reducible refine tt_nm ?_) | (with_reducible refine tt_ite (fun _ => ?_) (fun _ => ?_)) | (with_reducible refine tt_bd1 (t_floorDiv ?_) (fun _ _ => ?_)) | (with_reducible refine tt_bd1 (t_floorMod ?_) (fun _ _ => ?_)) | (with_reducible refine tt_bd1 (t_hasSite) (fun _ _ => ?_)) | (with_reducible refine tt_bd1 (t_of) (fun _ _ => ?_)) | (with_reducible refine tt_bd1 (t_isReached) (fun _ _ => ?_)) | (with_reducible refine tt_bd1 (t_addRefusal) (fun _ _ => ?_)) | (with_reducible refine tt_bd1 (t_put) (fun _ _ => ?_)) | (with_reducible refine tt_bd1 (t_stepFrom) (fun _ _ => ?_)) | (with_reducible refine tt_bd1 (t_sites) (fun _ _ => ?_)) | (with_reducible refine tt_bd1 (t_total ?_ ?_) (fun _ _ => ?_)) | (with_reducible refine tt_bd1 (t_endRound ?_ ?_) (fun _ _ => ?_)) | (with_reducible refine tt_bd2 (t_addTo ?_ ?_) (fun _ _ _ => ?_)) | (with_reducible refine tt_bd1 (t_valueOf) (fun _ _ => ?_)) | (with_reducible refine tt_bd1 (t_allows) (fun _ _ => ?_)) | (with_reducible refine tt_bd1 (t_aloneToGoal ?_ ?_) (fun _ _ => ?_)) | (with_reducible refine tt_bd1 (t_shareOf) (fun _ _ => ?_)) | (with_reducible refine tt_bd1 (t_drift) (fun _ _ => ?_)) | (with_reducible refine tt_bd3 (t_balance ?_ ?_) (fun _ _ _ _ => ?_)) | (with_reducible refine tt_bd1 (t_hearPlaces ?_ ?_) (fun _ _ => ?_)) | (with_reducible refine tt_bd1 (t_bitCount) (fun _ _ => ?_)) | (with_reducible refine tt_bd2 (t_measureShares ?_ ?_) (fun _ _ _ => ?_)) | (with_reducible refine tt_bd1 (t_isAbove) (fun _ _ => ?_)))
  all_goals (first | trivial | assumption | (simp [upd, *]; done))
theorem t_canShare {K : Nat} {p1 : Int32} {f a b : Nat → Int32} (hK : 200000 ≤ K) (hr : Rw (f 3)) : Tt (F_X5_canShare K p1 f a b) (fun _ => True) := by
  unfold F_X5_canShare
  refine tt_bd2 (t_measureShares hK hr) (fun a1 b1 _ => ?_)
  refine tt_bd1 (P := fun t => t < 2) (tt_for (fun j u => u.2 = nI j) 8 (by omega) rfl (fun j u hj hu => ?_)) (fun t ht => tt_ite (fun _ => tt_some trivial) (fun h0 => tt_ite (fun _ => tt_some trivial) (fun h1 => ?_)))
  · unfold B_X5_canShare_9
    refine tt_bd1 t_sites (fun r hs => tt_ite (fun _ => tt_some (nx_r (Nat.lt_succ_self 1))) (fun q => ?_))
    have jl := rw_lt hr hs hu hj q
    exact tt_ite (fun _ => tt_some (nx_l jl (nx1 hu))) (fun _ => tt_bd1 t_shareOf (fun _ _ => tt_bd1 t_shareOf (fun _ _ => tt_bd1 t_isQuietDrift (fun _ _ => tt_ite (fun _ => tt_some (nx_r (Nat.zero_lt_succ 1))) (fun _ => tt_some (nx_l jl (nx1 hu)))))))
  · have ht' : t < 2 := ht
    omega
theorem t_copyFrom {f g : Nat → Int32} : Tt (F_X5_copyFrom f g) (fun h => h 3 = g 3) := by
  unfold F_X5_copyFrom
  exact tt_cp (by decide) (tt_nm (tt_some rfl))
theorem t_shift {p1 p2 p3 : Int32} {f : Nat → Int32} : Tt (F_X5_shift p1 p2 p3 f) (fun g => g 3 = f 3) := by
  unfold F_X5_shift
  repeat' (first | (with_reducible refine tt_some ?_) | (with_reducible refine tt_nm ?_) | (with_reducible refine tt_ite (fun _ => ?_) (fun _ => ?_)) | (with_reducible refine tt_bd1 (t_floorDiv ?_) (fun _ _ => ?_)) | (with_reducible refine tt_bd1 (t_floorMod ?_) (fun _ _ => ?_)) | (with_reducible refine tt_bd1 (t_hasSite) (fun _ _ => ?_)) | (with_reducible refine tt_bd1 (t_of) (fun _ _ => ?_)) | (with_reducible refine tt_bd1 (t_isReached) (fun _ _ => ?_)) | (with_reducible refine tt_bd1 (t_addRefusal) (fun _ _ => ?_)) | (with_reducible refine tt_bd1 (t_put) (fun _ _ => ?_)) | (with_reducible refine tt_bd1 (t_stepFrom) (fun _ _ => ?_)) | (with_reducible refine tt_bd1 (t_sites) (fun _ _ => ?_)) | (with_reducible refine tt_bd1 (t_total ?_ ?_) (fun _ _ => ?_)) | (with_reducible refine tt_bd1 (t_endRound ?_ ?_) (fun _ _ => ?_)) | (with_reducible refine tt_bd2 (t_addTo ?_ ?_) (fun _ _ _ => ?_)) | (with_reducible refine tt_bd1 (t_valueOf) (fun _ _ => ?_)) | (with_reducible refine tt_bd1 (t_allows) (fun _ _ => ?_)) | (with_reducible refine tt_bd1 (t_aloneToGoal ?_ ?_) (fun _ _ => ?_)) | (with_reducible refine tt_bd1 (t_shareOf) (fun _ _ => ?_)) | (with_reducible refine tt_bd1 (t_drift) (fun _ _ => ?_)) | (with_reducible refine tt_bd3 (t_balance ?_ ?_) (fun _ _ _ _ => ?_)) | (with_reducible refine tt_bd1 (t_hearPlaces ?_ ?_) (fun _ _ => ?_)) | (with_reducible refine tt_bd1 (t_bitCount) (fun _ _ => ?_)) | (with_reducible refine tt_bd2 (t_measureShares ?_ ?_) (fun _ _ _ => ?_)) | (with_reducible refine tt_bd1 (t_isAbove) (fun _ _ => ?_)) | (with_reducible refine tt_bd1 (t_isQuietDrift) (fun _ _ => ?_)) | (with_reducible refine tt_bd3 (t_canShare ?_ ?_) (fun _ _ _ _ => ?_)) | (with_reducible refine tt_bd1 (t_copyFrom) (fun _ _ => ?_)))
  all_goals (first | trivial | assumption | (simp [upd, *]; done))
theorem t_isQuiet {p1 : Int32} {f : Nat → Int32} : Tt (F_X5_isQuiet p1 f) (fun _ => True) := by
  unfold F_X5_isQuiet
  repeat' (first | (with_reducible refine tt_some ?_) | (with_reducible refine tt_nm ?_) | (with_reducible refine tt_ite (fun _ => ?_) (fun _ => ?_)) | (with_reducible refine tt_bd1 (t_floorDiv ?_) (fun _ _ => ?_)) | (with_reducible refine tt_bd1 (t_floorMod ?_) (fun _ _ => ?_)) | (with_reducible refine tt_bd1 (t_hasSite) (fun _ _ => ?_)) | (with_reducible refine tt_bd1 (t_of) (fun _ _ => ?_)) | (with_reducible refine tt_bd1 (t_isReached) (fun _ _ => ?_)) | (with_reducible refine tt_bd1 (t_addRefusal) (fun _ _ => ?_)) | (with_reducible refine tt_bd1 (t_put) (fun _ _ => ?_)) | (with_reducible refine tt_bd1 (t_stepFrom) (fun _ _ => ?_)) | (with_reducible refine tt_bd1 (t_sites) (fun _ _ => ?_)) | (with_reducible refine tt_bd1 (t_total ?_ ?_) (fun _ _ => ?_)) | (with_reducible refine tt_bd1 (t_endRound ?_ ?_) (fun _ _ => ?_)) | (with_reducible refine tt_bd2 (t_addTo ?_ ?_) (fun _ _ _ => ?_)) | (with_reducible refine tt_bd1 (t_valueOf) (fun _ _ => ?_)) | (with_reducible refine tt_bd1 (t_allows) (fun _ _ => ?_)) | (with_reducible refine tt_bd1 (t_aloneToGoal ?_ ?_) (fun _ _ => ?_)) | (with_reducible refine tt_bd1 (t_shareOf) (fun _ _ => ?_)) | (with_reducible refine tt_bd1 (t_drift) (fun _ _ => ?_)) | (with_reducible refine tt_bd3 (t_balance ?_ ?_) (fun _ _ _ _ => ?_)) | (with_reducible refine tt_bd1 (t_hearPlaces ?_ ?_) (fun _ _ => ?_)) | (with_reducible refine tt_bd1 (t_bitCount) (fun _ _ => ?_)) | (with_reducible refine tt_bd2 (t_measureShares ?_ ?_) (fun _ _ _ => ?_)) | (with_reducible refine tt_bd1 (t_isAbove) (fun _ _ => ?_)) | (with_reducible refine tt_bd1 (t_isQuietDrift) (fun _ _ => ?_)) | (with_reducible refine tt_bd3 (t_canShare ?_ ?_) (fun _ _ _ _ => ?_)) | (with_reducible refine tt_bd1 (t_copyFrom) (fun _ _ => ?_)) | (with_reducible refine tt_bd1 (t_shift) (fun _ _ => ?_)))
  all_goals (first | trivial | assumption | (simp [upd, *]; done))
theorem t_isFrozen {p1 : Int32} {f : Nat → Int32} : Tt (F_X5_isFrozen p1 f) (fun _ => True) := by
  unfold F_X5_isFrozen
  repeat' (first | (with_reducible refine tt_some ?_) | (with_reducible refine tt_nm ?_) | (with_reducible refine tt_ite (fun _ => ?_) (fun _ => ?_)) | (with_reducible refine tt_bd1 (t_floorDiv ?_) (fun _ _ => ?_)) | (with_reducible refine tt_bd1 (t_floorMod ?_) (fun _ _ => ?_)) | (with_reducible refine tt_bd1 (t_hasSite) (fun _ _ => ?_)) | (with_reducible refine tt_bd1 (t_of) (fun _ _ => ?_)) | (with_reducible refine tt_bd1 (t_isReached) (fun _ _ => ?_)) | (with_reducible refine tt_bd1 (t_addRefusal) (fun _ _ => ?_)) | (with_reducible refine tt_bd1 (t_put) (fun _ _ => ?_)) | (with_reducible refine tt_bd1 (t_stepFrom) (fun _ _ => ?_)) | (with_reducible refine tt_bd1 (t_sites) (fun _ _ => ?_)) | (with_reducible refine tt_bd1 (t_total ?_ ?_) (fun _ _ => ?_)) | (with_reducible refine tt_bd1 (t_endRound ?_ ?_) (fun _ _ => ?_)) | (with_reducible refine tt_bd2 (t_addTo ?_ ?_) (fun _ _ _ => ?_)) | (with_reducible refine tt_bd1 (t_valueOf) (fun _ _ => ?_)) | (with_reducible refine tt_bd1 (t_allows) (fun _ _ => ?_)) | (with_reducible refine tt_bd1 (t_aloneToGoal ?_ ?_) (fun _ _ => ?_)) | (with_reducible refine tt_bd1 (t_shareOf) (fun _ _ => ?_)) | (with_reducible refine tt_bd1 (t_drift) (fun _ _ => ?_)) | (with_reducible refine tt_bd3 (t_balance ?_ ?_) (fun _ _ _ _ => ?_)) | (with_reducible refine tt_bd1 (t_hearPlaces ?_ ?_) (fun _ _ => ?_)) | (with_reducible refine tt_bd1 (t_bitCount) (fun _ _ => ?_)) | (with_reducible refine tt_bd2 (t_measureShares ?_ ?_) (fun _ _ _ => ?_)) | (with_reducible refine tt_bd1 (t_isAbove) (fun _ _ => ?_)) | (with_reducible refine tt_bd1 (t_isQuietDrift) (fun _ _ => ?_)) | (with_reducible refine tt_bd3 (t_canShare ?_ ?_) (fun _ _ _ _ => ?_)) | (with_reducible refine tt_bd1 (t_copyFrom) (fun _ _ => ?_)) | (with_reducible refine tt_bd1 (t_shift) (fun _ _ => ?_)) | (with_reducible refine tt_bd1 (t_isQuiet) (fun _ _ => ?_)))
  all_goals (first | trivial | assumption | (simp [upd, *]; done))
theorem t_noteAsked {p1 ac : Int32} {c : Nat → Int32} (ha : Rw ac) : Tt (F_X5_noteAsked p1 c ac) (fun x => Rw x.2) := by
  unfold F_X5_noteAsked
  refine tt_ite (fun _ => tt_some ha) (fun q => ?_)
  obtain ⟨a, h8, rfl⟩ := ha
  have al : a < 8 := lt_of_lit (by decide) (by omega) rfl q
  exact tt_ixn al (by decide) (tt_nm (tt_some ⟨a + 1, by omega, nx1 rfl⟩))
theorem t_hearAll {K : Nat} {f : Nat → Int32} (hK : 200000 ≤ K) (hr : Rw (f 3)) : Tt (F_X5_hearAll K f) (fun g => g 3 = f 3) := by
  unfold F_X5_hearAll J_X5_hearAll_41
  repeat' (first | (with_reducible refine tt_some ?_) | (with_reducible refine tt_nm ?_) | (with_reducible refine tt_ite (fun _ => ?_) (fun _ => ?_)) | (with_reducible refine tt_bd1 (t_floorDiv ?_) (fun _ _ => ?_)) | (with_reducible refine tt_bd1 (t_floorMod ?_) (fun _ _ => ?_)) | (with_reducible refine tt_bd1 (t_hasSite) (fun _ _ => ?_)) | (with_reducible refine tt_bd1 (t_of) (fun _ _ => ?_)) | (with_reducible refine tt_bd1 (t_isReached) (fun _ _ => ?_)) | (with_reducible refine tt_bd1 (t_addRefusal) (fun _ _ => ?_)) | (with_reducible refine tt_bd1 (t_put) (fun _ _ => ?_)) | (with_reducible refine tt_bd1 (t_stepFrom) (fun _ _ => ?_)) | (with_reducible refine tt_bd1 (t_sites) (fun _ _ => ?_)) | (with_reducible refine tt_bd1 (t_total ?_ ?_) (fun _ _ => ?_)) | (with_reducible refine tt_bd1 (t_endRound ?_ ?_) (fun _ _ => ?_)) | (with_reducible refine tt_bd2 (t_addTo ?_ ?_) (fun _ _ _ => ?_)) | (with_reducible refine tt_bd1 (t_valueOf) (fun _ _ => ?_)) | (with_reducible refine tt_bd1 (t_allows) (fun _ _ => ?_)) | (with_reducible refine tt_bd1 (t_aloneToGoal ?_ ?_) (fun _ _ => ?_)) | (with_reducible refine tt_bd1 (t_shareOf) (fun _ _ => ?_)) | (with_reducible refine tt_bd1 (t_drift) (fun _ _ => ?_)) | (with_reducible refine tt_bd3 (t_balance ?_ ?_) (fun _ _ _ _ => ?_)) | (with_reducible refine tt_bd1 (t_hearPlaces ?_ ?_) (fun _ _ => ?_)) | (with_reducible refine tt_bd1 (t_bitCount) (fun _ _ => ?_)) | (with_reducible refine tt_bd2 (t_measureShares ?_ ?_) (fun _ _ _ => ?_)) | (with_reducible refine tt_bd1 (t_isAbove) (fun _ _ => ?_)) | (with_reducible refine tt_bd1 (t_isQuietDrift) (fun _ _ => ?_)) | (with_reducible refine tt_bd3 (t_canShare ?_ ?_) (fun _ _ _ _ => ?_)) | (with_reducible refine tt_bd1 (t_copyFrom) (fun _ _ => ?_)) | (with_reducible refine tt_bd1 (t_shift) (fun _ _ => ?_)) | (with_reducible refine tt_bd1 (t_isQuiet) (fun _ _ => ?_)) | (with_reducible refine tt_bd1 (t_isFrozen) (fun _ _ => ?_)) | (with_reducible refine tt_bd2 (t_noteAsked ?_) (fun _ _ _ => ?_)))
  all_goals (first | trivial | assumption | (simp [upd, *]; done))
theorem t_moveSite {K : Nat} {p1 p2 p3 ac oc : Int32} {f pa sh lo : Nat → Int32} (hK : 200000 ≤ K) (hr : Rw (f 3)) : Tt (F_X5_moveSite K p1 p2 p3 f pa ac oc sh lo) (fun x => x.2.1 3 = f 3 ∧ Rw x.2.2.2.1) := by
  unfold F_X5_moveSite
  refine tt_bd1 t_shift (fun w hw => tt_bd1 t_isQuiet (fun r _ => ?_))
  have hw' : w 3 = f 3 := hw
  have hr' : Rw (upd w 12 (w 12 + 1) 3) := by rw [show upd w 12 (w 12 + 1) 3 = w 3 from rfl, hw']; exact hr
  refine tt_ite (fun _ => tt_nm ?_) (fun _ => tt_some ⟨hw', ⟨0, by decide, rfl⟩⟩)
  refine tt_bd6 (P := fun x : Nat × Int32 × (Nat → Int32) × Int32 × (Nat → Int32) × (Nat → Int32) => x.1 < 2 ∧ Rw x.2.2.2.1) (tt_for (fun j u => u.2.1 = nI (j + 1) ∧ Rw u.2.2.2.1) 8 (by omega) ⟨rfl, ⟨0, by decide, rfl⟩⟩ (fun j u hj hu => ?_)) (fun t x4 pa' ac' sh' lo' hx => ?_)
  · have J : ∀ k0, j < 8 → Tt (J_X5_moveSite_102_r47 K k0 u.1 u.2.1 (upd w 12 (w 12 + 1)) u.2.2.1 u.2.2.2.1 u.2.2.2.2.1 u.2.2.2.2.2) (Nx (fun j u => u.2.1 = nI (j + 1) ∧ Rw u.2.2.2.1) (fun x : Nat × Int32 × (Nat → Int32) × Int32 × (Nat → Int32) × (Nat → Int32) => x.1 < 2 ∧ Rw x.2.2.2.1) 8 j) := by
      intro k0 jl
      unfold J_X5_moveSite_102_r47
      exact tt_bd1 t_isFrozen (fun _ _ => tt_ite (fun _ => tt_bd2 (t_noteAsked hu.2) (fun c1 a1 h1 => tt_bd3 (t_canShare hK hr') (fun _ _ _ _ => tt_ite (fun _ => tt_some (nx_l jl ⟨nx1 hu.1, h1⟩)) (fun _ => tt_some (nx_r ⟨Nat.zero_lt_succ 1, h1⟩))))) (fun _ => tt_some (nx_l jl ⟨nx1 hu.1, hu.2⟩)))
    unfold B_X5_moveSite_46
    refine tt_ite (fun _ => tt_some (nx_r ⟨Nat.lt_succ_self 1, hu.2⟩)) (fun _ => tt_ite (fun _ => tt_some (nx_r ⟨Nat.lt_succ_self 1, hu.2⟩)) (fun q => ?_))
    have jl : j + 1 < 8 := lt_of_lit (by decide) (by omega) hu.1 q
    exact tt_bd1 t_isAbove (fun _ _ => tt_ite (fun _ => tt_ite (fun _ => J _ (by omega)) (fun _ => J _ (by omega))) (fun _ => tt_some (nx_r ⟨Nat.lt_succ_self 1, hu.2⟩)))
  · have ht : t < 2 := hx.1
    have ha : Rw ac' := hx.2
    refine tt_ite (fun _ => tt_bd3 (t_balance hK hr') (fun _ g _ hg => tt_some ⟨Eq.trans hg hw', ha⟩)) (fun h0 => tt_ite (fun _ => ?_) (fun h1 => ?_))
    · unfold J_X5_moveSite_153
      exact tt_bd1 (t_hearAll hK hr') (fun g hg => tt_some ⟨Eq.trans hg hw', ha⟩)
    · omega
theorem t_hearByHand {K : Nat} {f : Nat → Int32} (hK : 200000 ≤ K) (hr : Rw (f 3)) : Tt (F_X5_hearByHand K f) (fun x => x.2 3 = f 3) := by
  unfold F_X5_hearByHand
  repeat' (first | (with_reducible refine tt_some ?_) | (with_reducible refine tt_nm ?_) | (with_reducible refine tt_ite (fun _ => ?_) (fun _ => ?_)) | (with_reducible refine tt_bd1 (t_floorDiv ?_) (fun _ _ => ?_)) | (with_reducible refine tt_bd1 (t_floorMod ?_) (fun _ _ => ?_)) | (with_reducible refine tt_bd1 (t_hasSite) (fun _ _ => ?_)) | (with_reducible refine tt_bd1 (t_of) (fun _ _ => ?_)) | (with_reducible refine tt_bd1 (t_isReached) (fun _ _ => ?_)) | (with_reducible refine tt_bd1 (t_addRefusal) (fun _ _ => ?_)) | (with_reducible refine tt_bd1 (t_put) (fun _ _ => ?_)) | (with_reducible refine tt_bd1 (t_stepFrom) (fun _ _ => ?_)) | (with_reducible refine tt_bd1 (t_sites) (fun _ _ => ?_)) | (with_reducible refine tt_bd1 (t_total ?_ ?_) (fun _ _ => ?_)) | (with_reducible refine tt_bd1 (t_endRound ?_ ?_) (fun _ _ => ?_)) | (with_reducible refine tt_bd2 (t_addTo ?_ ?_) (fun _ _ _ => ?_)) | (with_reducible refine tt_bd1 (t_valueOf) (fun _ _ => ?_)) | (with_reducible refine tt_bd1 (t_allows) (fun _ _ => ?_)) | (with_reducible refine tt_bd1 (t_aloneToGoal ?_ ?_) (fun _ _ => ?_)) | (with_reducible refine tt_bd1 (t_shareOf) (fun _ _ => ?_)) | (with_reducible refine tt_bd1 (t_drift) (fun _ _ => ?_)) | (with_reducible refine tt_bd3 (t_balance ?_ ?_) (fun _ _ _ _ => ?_)) | (with_reducible refine tt_bd1 (t_hearPlaces ?_ ?_) (fun _ _ => ?_)) | (with_reducible refine tt_bd1 (t_bitCount) (fun _ _ => ?_)) | (with_reducible refine tt_bd2 (t_measureShares ?_ ?_) (fun _ _ _ => ?_)) | (with_reducible refine tt_bd1 (t_isAbove) (fun _ _ => ?_)) | (with_reducible refine tt_bd1 (t_isQuietDrift) (fun _ _ => ?_)) | (with_reducible refine tt_bd3 (t_canShare ?_ ?_) (fun _ _ _ _ => ?_)) | (with_reducible refine tt_bd1 (t_copyFrom) (fun _ _ => ?_)) | (with_reducible refine tt_bd1 (t_shift) (fun _ _ => ?_)) | (with_reducible refine tt_bd1 (t_isQuiet) (fun _ _ => ?_)) | (with_reducible refine tt_bd1 (t_isFrozen) (fun _ _ => ?_)) | (with_reducible refine tt_bd2 (t_noteAsked ?_) (fun _ _ _ => ?_)) | (with_reducible refine tt_bd1 (t_hearAll ?_ ?_) (fun _ _ => ?_)) | (with_reducible refine tt_bd7 (t_moveSite ?_ ?_) (fun _ _ _ _ _ _ _ _ => ?_)))
  all_goals (first | trivial | assumption | (simp [upd, *]; done))
theorem t_startCounts {K : Nat} {p1 : Int32} {f : Nat → Int32} (hK : 200000 ≤ K) (hr : Rw (f 3)) : Tt (F_X5_startCounts K p1 f) (fun g => g 3 = f 3) := by
  unfold F_X5_startCounts
  refine tt_nm (tt_nm (tt_nm (tt_nm (tt_bd1 (P := fun g => g 3 = f 3) (tt_for (fun j u => u.1 = nI j ∧ u.2 3 = f 3) 8 (by omega) ⟨rfl, rfl⟩ (fun j u hj hu => ?_)) (fun g hg => tt_some hg)))))
  unfold B_X5_startCounts_33
  exact tt_bd1 t_sites (fun r hs => tt_ite (fun _ => tt_some (nx_r hu.2)) (fun q => tt_bd1 t_put (fun g1 h1 => tt_bd1 t_put (fun g2 h2 => tt_some (nx_l (rw_lt hr (hs.trans hu.2) hu.1 hj q) ⟨nx1 hu.1, h2.trans (h1.trans hu.2)⟩)))))
theorem t_doAct {K : Nat} {p1 p2 p3 p4 ac oc : Int32} {f pa sh lo : Nat → Int32} (hK : 200000 ≤ K) (hr : Rw (f 3)) (ha : Rw ac) : Tt (F_X5_doAct K p1 p2 p3 p4 f pa ac oc sh lo) (fun x => x.2.1 3 = f 3 ∧ Rw x.2.2.2.1) := by
  unfold F_X5_doAct
  repeat' (first | (with_reducible refine tt_some ?_) | (with_reducible refine tt_nm ?_) | (with_reducible refine tt_ite (fun _ => ?_) (fun _ => ?_)) | (with_reducible refine tt_bd1 (t_floorDiv ?_) (fun _ _ => ?_)) | (with_reducible refine tt_bd1 (t_floorMod ?_) (fun _ _ => ?_)) | (with_reducible refine tt_bd1 (t_hasSite) (fun _ _ => ?_)) | (with_reducible refine tt_bd1 (t_of) (fun _ _ => ?_)) | (with_reducible refine tt_bd1 (t_isReached) (fun _ _ => ?_)) | (with_reducible refine tt_bd1 (t_addRefusal) (fun _ _ => ?_)) | (with_reducible refine tt_bd1 (t_put) (fun _ _ => ?_)) | (with_reducible refine tt_bd1 (t_stepFrom) (fun _ _ => ?_)) | (with_reducible refine tt_bd1 (t_sites) (fun _ _ => ?_)) | (with_reducible refine tt_bd1 (t_total ?_ ?_) (fun _ _ => ?_)) | (with_reducible refine tt_bd1 (t_endRound ?_ ?_) (fun _ _ => ?_)) | (with_reducible refine tt_bd2 (t_addTo ?_ ?_) (fun _ _ _ => ?_)) | (with_reducible refine tt_bd1 (t_valueOf) (fun _ _ => ?_)) | (with_reducible refine tt_bd1 (t_allows) (fun _ _ => ?_)) | (with_reducible refine tt_bd1 (t_aloneToGoal ?_ ?_) (fun _ _ => ?_)) | (with_reducible refine tt_bd1 (t_shareOf) (fun _ _ => ?_)) | (with_reducible refine tt_bd1 (t_drift) (fun _ _ => ?_)) | (with_reducible refine tt_bd3 (t_balance ?_ ?_) (fun _ _ _ _ => ?_)) | (with_reducible refine tt_bd1 (t_hearPlaces ?_ ?_) (fun _ _ => ?_)) | (with_reducible refine tt_bd1 (t_bitCount) (fun _ _ => ?_)) | (with_reducible refine tt_bd2 (t_measureShares ?_ ?_) (fun _ _ _ => ?_)) | (with_reducible refine tt_bd1 (t_isAbove) (fun _ _ => ?_)) | (with_reducible refine tt_bd1 (t_isQuietDrift) (fun _ _ => ?_)) | (with_reducible refine tt_bd3 (t_canShare ?_ ?_) (fun _ _ _ _ => ?_)) | (with_reducible refine tt_bd1 (t_copyFrom) (fun _ _ => ?_)) | (with_reducible refine tt_bd1 (t_shift) (fun _ _ => ?_)) | (with_reducible refine tt_bd1 (t_isQuiet) (fun _ _ => ?_)) | (with_reducible refine tt_bd1 (t_isFrozen) (fun _ _ => ?_)) | (with_reducible refine tt_bd2 (t_noteAsked ?_) (fun _ _ _ => ?_)) | (with_reducible refine tt_bd1 (t_hearAll ?_ ?_) (fun _ _ => ?_)) | (with_reducible refine tt_bd7 (t_moveSite ?_ ?_) (fun _ _ _ _ _ _ _ _ => ?_)) | (with_reducible refine tt_bd2 (t_hearByHand ?_ ?_) (fun _ _ _ => ?_)) | (with_reducible refine tt_bd1 (t_startCounts ?_ ?_) (fun _ _ => ?_)))
  all_goals (first | trivial | assumption | (simp_all [upd]; done))
theorem t_freezeRefusal {p1 : Int32} {f : Nat → Int32} : Tt (F_X5_freezeRefusal p1 f) (fun _ => True) := by
  unfold F_X5_freezeRefusal
  repeat' (first | (with_reducible refine tt_some ?_) | (with_reducible refine tt_nm ?_) | (with_reducible refine tt_ite (fun _ => ?_) (fun _ => ?_)) | (with_reducible refine tt_bd1 (t_floorDiv ?_) (fun _ _ => ?_)) | (with_reducible refine tt_bd1 (t_floorMod ?_) (fun _ _ => ?_)) | (with_reducible refine tt_bd1 (t_hasSite) (fun _ _ => ?_)) | (with_reducible refine tt_bd1 (t_of) (fun _ _ => ?_)) | (with_reducible refine tt_bd1 (t_isReached) (fun _ _ => ?_)) | (with_reducible refine tt_bd1 (t_addRefusal) (fun _ _ => ?_)) | (with_reducible refine tt_bd1 (t_put) (fun _ _ => ?_)) | (with_reducible refine tt_bd1 (t_stepFrom) (fun _ _ => ?_)) | (with_reducible refine tt_bd1 (t_sites) (fun _ _ => ?_)) | (with_reducible refine tt_bd1 (t_total ?_ ?_) (fun _ _ => ?_)) | (with_reducible refine tt_bd1 (t_endRound ?_ ?_) (fun _ _ => ?_)) | (with_reducible refine tt_bd2 (t_addTo ?_ ?_) (fun _ _ _ => ?_)) | (with_reducible refine tt_bd1 (t_valueOf) (fun _ _ => ?_)) | (with_reducible refine tt_bd1 (t_allows) (fun _ _ => ?_)) | (with_reducible refine tt_bd1 (t_aloneToGoal ?_ ?_) (fun _ _ => ?_)) | (with_reducible refine tt_bd1 (t_shareOf) (fun _ _ => ?_)) | (with_reducible refine tt_bd1 (t_drift) (fun _ _ => ?_)) | (with_reducible refine tt_bd3 (t_balance ?_ ?_) (fun _ _ _ _ => ?_)) | (with_reducible refine tt_bd1 (t_hearPlaces ?_ ?_) (fun _ _ => ?_)) | (with_reducible refine tt_bd1 (t_bitCount) (fun _ _ => ?_)) | (with_reducible refine tt_bd2 (t_measureShares ?_ ?_) (fun _ _ _ => ?_)) | (with_reducible refine tt_bd1 (t_isAbove) (fun _ _ => ?_)) | (with_reducible refine tt_bd1 (t_isQuietDrift) (fun _ _ => ?_)) | (with_reducible refine tt_bd3 (t_canShare ?_ ?_) (fun _ _ _ _ => ?_)) | (with_reducible refine tt_bd1 (t_copyFrom) (fun _ _ => ?_)) | (with_reducible refine tt_bd1 (t_shift) (fun _ _ => ?_)) | (with_reducible refine tt_bd1 (t_isQuiet) (fun _ _ => ?_)) | (with_reducible refine tt_bd1 (t_isFrozen) (fun _ _ => ?_)) | (with_reducible refine tt_bd2 (t_noteAsked ?_) (fun _ _ _ => ?_)) | (with_reducible refine tt_bd1 (t_hearAll ?_ ?_) (fun _ _ => ?_)) | (with_reducible refine tt_bd7 (t_moveSite ?_ ?_) (fun _ _ _ _ _ _ _ _ => ?_)) | (with_reducible refine tt_bd2 (t_hearByHand ?_ ?_) (fun _ _ _ => ?_)) | (with_reducible refine tt_bd1 (t_startCounts ?_ ?_) (fun _ _ => ?_)) | (with_reducible refine tt_bd7 (t_doAct ?_ ?_ ?_) (fun _ _ _ _ _ _ _ _ => ?_)))
  all_goals (first | trivial | assumption | (simp [upd, *]; done))
theorem t_hasRoom {p1 p2 p3 : Int32} {f : Nat → Int32} : Tt (F_X5_hasRoom p1 p2 p3 f) (fun _ => True) := by
  unfold F_X5_hasRoom
  repeat' (first | (with_reducible refine tt_some ?_) | (with_reducible refine tt_nm ?_) | (with_reducible refine tt_ite (fun _ => ?_) (fun _ => ?_)) | (with_reducible refine tt_bd1 (t_floorDiv ?_) (fun _ _ => ?_)) | (with_reducible refine tt_bd1 (t_floorMod ?_) (fun _ _ => ?_)) | (with_reducible refine tt_bd1 (t_hasSite) (fun _ _ => ?_)) | (with_reducible refine tt_bd1 (t_of) (fun _ _ => ?_)) | (with_reducible refine tt_bd1 (t_isReached) (fun _ _ => ?_)) | (with_reducible refine tt_bd1 (t_addRefusal) (fun _ _ => ?_)) | (with_reducible refine tt_bd1 (t_put) (fun _ _ => ?_)) | (with_reducible refine tt_bd1 (t_stepFrom) (fun _ _ => ?_)) | (with_reducible refine tt_bd1 (t_sites) (fun _ _ => ?_)) | (with_reducible refine tt_bd1 (t_total ?_ ?_) (fun _ _ => ?_)) | (with_reducible refine tt_bd1 (t_endRound ?_ ?_) (fun _ _ => ?_)) | (with_reducible refine tt_bd2 (t_addTo ?_ ?_) (fun _ _ _ => ?_)) | (with_reducible refine tt_bd1 (t_valueOf) (fun _ _ => ?_)) | (with_reducible refine tt_bd1 (t_allows) (fun _ _ => ?_)) | (with_reducible refine tt_bd1 (t_aloneToGoal ?_ ?_) (fun _ _ => ?_)) | (with_reducible refine tt_bd1 (t_shareOf) (fun _ _ => ?_)) | (with_reducible refine tt_bd1 (t_drift) (fun _ _ => ?_)) | (with_reducible refine tt_bd3 (t_balance ?_ ?_) (fun _ _ _ _ => ?_)) | (with_reducible refine tt_bd1 (t_hearPlaces ?_ ?_) (fun _ _ => ?_)) | (with_reducible refine tt_bd1 (t_bitCount) (fun _ _ => ?_)) | (with_reducible refine tt_bd2 (t_measureShares ?_ ?_) (fun _ _ _ => ?_)) | (with_reducible refine tt_bd1 (t_isAbove) (fun _ _ => ?_)) | (with_reducible refine tt_bd1 (t_isQuietDrift) (fun _ _ => ?_)) | (with_reducible refine tt_bd3 (t_canShare ?_ ?_) (fun _ _ _ _ => ?_)) | (with_reducible refine tt_bd1 (t_copyFrom) (fun _ _ => ?_)) | (with_reducible refine tt_bd1 (t_shift) (fun _ _ => ?_)) | (with_reducible refine tt_bd1 (t_isQuiet) (fun _ _ => ?_)) | (with_reducible refine tt_bd1 (t_isFrozen) (fun _ _ => ?_)) | (with_reducible refine tt_bd2 (t_noteAsked ?_) (fun _ _ _ => ?_)) | (with_reducible refine tt_bd1 (t_hearAll ?_ ?_) (fun _ _ => ?_)) | (with_reducible refine tt_bd7 (t_moveSite ?_ ?_) (fun _ _ _ _ _ _ _ _ => ?_)) | (with_reducible refine tt_bd2 (t_hearByHand ?_ ?_) (fun _ _ _ => ?_)) | (with_reducible refine tt_bd1 (t_startCounts ?_ ?_) (fun _ _ => ?_)) | (with_reducible refine tt_bd7 (t_doAct ?_ ?_ ?_) (fun _ _ _ _ _ _ _ _ => ?_)) | (with_reducible refine tt_bd1 (t_freezeRefusal) (fun _ _ => ?_)))
  all_goals (first | trivial | assumption | (simp [upd, *]; done))
theorem t_isQuietWith {p1 p2 p3 : Int32} {f : Nat → Int32} : Tt (F_X5_isQuietWith p1 p2 p3 f) (fun _ => True) := by
  unfold F_X5_isQuietWith
  repeat' (first | (with_reducible refine tt_some ?_) | (with_reducible refine tt_nm ?_) | (with_reducible refine tt_ite (fun _ => ?_) (fun _ => ?_)) | (with_reducible refine tt_bd1 (t_floorDiv ?_) (fun _ _ => ?_)) | (with_reducible refine tt_bd1 (t_floorMod ?_) (fun _ _ => ?_)) | (with_reducible refine tt_bd1 (t_hasSite) (fun _ _ => ?_)) | (with_reducible refine tt_bd1 (t_of) (fun _ _ => ?_)) | (with_reducible refine tt_bd1 (t_isReached) (fun _ _ => ?_)) | (with_reducible refine tt_bd1 (t_addRefusal) (fun _ _ => ?_)) | (with_reducible refine tt_bd1 (t_put) (fun _ _ => ?_)) | (with_reducible refine tt_bd1 (t_stepFrom) (fun _ _ => ?_)) | (with_reducible refine tt_bd1 (t_sites) (fun _ _ => ?_)) | (with_reducible refine tt_bd1 (t_total ?_ ?_) (fun _ _ => ?_)) | (with_reducible refine tt_bd1 (t_endRound ?_ ?_) (fun _ _ => ?_)) | (with_reducible refine tt_bd2 (t_addTo ?_ ?_) (fun _ _ _ => ?_)) | (with_reducible refine tt_bd1 (t_valueOf) (fun _ _ => ?_)) | (with_reducible refine tt_bd1 (t_allows) (fun _ _ => ?_)) | (with_reducible refine tt_bd1 (t_aloneToGoal ?_ ?_) (fun _ _ => ?_)) | (with_reducible refine tt_bd1 (t_shareOf) (fun _ _ => ?_)) | (with_reducible refine tt_bd1 (t_drift) (fun _ _ => ?_)) | (with_reducible refine tt_bd3 (t_balance ?_ ?_) (fun _ _ _ _ => ?_)) | (with_reducible refine tt_bd1 (t_hearPlaces ?_ ?_) (fun _ _ => ?_)) | (with_reducible refine tt_bd1 (t_bitCount) (fun _ _ => ?_)) | (with_reducible refine tt_bd2 (t_measureShares ?_ ?_) (fun _ _ _ => ?_)) | (with_reducible refine tt_bd1 (t_isAbove) (fun _ _ => ?_)) | (with_reducible refine tt_bd1 (t_isQuietDrift) (fun _ _ => ?_)) | (with_reducible refine tt_bd3 (t_canShare ?_ ?_) (fun _ _ _ _ => ?_)) | (with_reducible refine tt_bd1 (t_copyFrom) (fun _ _ => ?_)) | (with_reducible refine tt_bd1 (t_shift) (fun _ _ => ?_)) | (with_reducible refine tt_bd1 (t_isQuiet) (fun _ _ => ?_)) | (with_reducible refine tt_bd1 (t_isFrozen) (fun _ _ => ?_)) | (with_reducible refine tt_bd2 (t_noteAsked ?_) (fun _ _ _ => ?_)) | (with_reducible refine tt_bd1 (t_hearAll ?_ ?_) (fun _ _ => ?_)) | (with_reducible refine tt_bd7 (t_moveSite ?_ ?_) (fun _ _ _ _ _ _ _ _ => ?_)) | (with_reducible refine tt_bd2 (t_hearByHand ?_ ?_) (fun _ _ _ => ?_)) | (with_reducible refine tt_bd1 (t_startCounts ?_ ?_) (fun _ _ => ?_)) | (with_reducible refine tt_bd7 (t_doAct ?_ ?_ ?_) (fun _ _ _ _ _ _ _ _ => ?_)) | (with_reducible refine tt_bd1 (t_freezeRefusal) (fun _ _ => ?_)) | (with_reducible refine tt_bd1 (t_hasRoom) (fun _ _ => ?_)))
  all_goals (first | trivial | assumption | (simp [upd, *]; done))
theorem t_isMovable {p1 p2 : Int32} : Tt (F_X7_isMovable p1 p2) (fun _ => True) := by
  unfold F_X7_isMovable
  repeat' (first | (with_reducible refine tt_some ?_) | (with_reducible refine tt_nm ?_) | (with_reducible refine tt_ite (fun _ => ?_) (fun _ => ?_)) | (with_reducible refine tt_bd1 (t_floorDiv ?_) (fun _ _ => ?_)) | (with_reducible refine tt_bd1 (t_floorMod ?_) (fun _ _ => ?_)) | (with_reducible refine tt_bd1 (t_hasSite) (fun _ _ => ?_)) | (with_reducible refine tt_bd1 (t_of) (fun _ _ => ?_)) | (with_reducible refine tt_bd1 (t_isReached) (fun _ _ => ?_)) | (with_reducible refine tt_bd1 (t_addRefusal) (fun _ _ => ?_)) | (with_reducible refine tt_bd1 (t_put) (fun _ _ => ?_)) | (with_reducible refine tt_bd1 (t_stepFrom) (fun _ _ => ?_)) | (with_reducible refine tt_bd1 (t_sites) (fun _ _ => ?_)) | (with_reducible refine tt_bd1 (t_total ?_ ?_) (fun _ _ => ?_)) | (with_reducible refine tt_bd1 (t_endRound ?_ ?_) (fun _ _ => ?_)) | (with_reducible refine tt_bd2 (t_addTo ?_ ?_) (fun _ _ _ => ?_)) | (with_reducible refine tt_bd1 (t_valueOf) (fun _ _ => ?_)) | (with_reducible refine tt_bd1 (t_allows) (fun _ _ => ?_)) | (with_reducible refine tt_bd1 (t_aloneToGoal ?_ ?_) (fun _ _ => ?_)) | (with_reducible refine tt_bd1 (t_shareOf) (fun _ _ => ?_)) | (with_reducible refine tt_bd1 (t_drift) (fun _ _ => ?_)) | (with_reducible refine tt_bd3 (t_balance ?_ ?_) (fun _ _ _ _ => ?_)) | (with_reducible refine tt_bd1 (t_hearPlaces ?_ ?_) (fun _ _ => ?_)) | (with_reducible refine tt_bd1 (t_bitCount) (fun _ _ => ?_)) | (with_reducible refine tt_bd2 (t_measureShares ?_ ?_) (fun _ _ _ => ?_)) | (with_reducible refine tt_bd1 (t_isAbove) (fun _ _ => ?_)) | (with_reducible refine tt_bd1 (t_isQuietDrift) (fun _ _ => ?_)) | (with_reducible refine tt_bd3 (t_canShare ?_ ?_) (fun _ _ _ _ => ?_)) | (with_reducible refine tt_bd1 (t_copyFrom) (fun _ _ => ?_)) | (with_reducible refine tt_bd1 (t_shift) (fun _ _ => ?_)) | (with_reducible refine tt_bd1 (t_isQuiet) (fun _ _ => ?_)) | (with_reducible refine tt_bd1 (t_isFrozen) (fun _ _ => ?_)) | (with_reducible refine tt_bd2 (t_noteAsked ?_) (fun _ _ _ => ?_)) | (with_reducible refine tt_bd1 (t_hearAll ?_ ?_) (fun _ _ => ?_)) | (with_reducible refine tt_bd7 (t_moveSite ?_ ?_) (fun _ _ _ _ _ _ _ _ => ?_)) | (with_reducible refine tt_bd2 (t_hearByHand ?_ ?_) (fun _ _ _ => ?_)) | (with_reducible refine tt_bd1 (t_startCounts ?_ ?_) (fun _ _ => ?_)) | (with_reducible refine tt_bd7 (t_doAct ?_ ?_ ?_) (fun _ _ _ _ _ _ _ _ => ?_)) | (with_reducible refine tt_bd1 (t_freezeRefusal) (fun _ _ => ?_)) | (with_reducible refine tt_bd1 (t_hasRoom) (fun _ _ => ?_)) | (with_reducible refine tt_bd1 (t_isQuietWith) (fun _ _ => ?_)))
  all_goals (first | trivial | assumption | (simp [upd, *]; done))
theorem t_moveRefusal {p1 p2 p3 : Int32} {f : Nat → Int32} : Tt (F_X5_moveRefusal p1 p2 p3 f) (fun _ => True) := by
  unfold F_X5_moveRefusal
  repeat' (first | (with_reducible refine tt_some ?_) | (with_reducible refine tt_nm ?_) | (with_reducible refine tt_ite (fun _ => ?_) (fun _ => ?_)) | (with_reducible refine tt_bd1 (t_floorDiv ?_) (fun _ _ => ?_)) | (with_reducible refine tt_bd1 (t_floorMod ?_) (fun _ _ => ?_)) | (with_reducible refine tt_bd1 (t_hasSite) (fun _ _ => ?_)) | (with_reducible refine tt_bd1 (t_of) (fun _ _ => ?_)) | (with_reducible refine tt_bd1 (t_isReached) (fun _ _ => ?_)) | (with_reducible refine tt_bd1 (t_addRefusal) (fun _ _ => ?_)) | (with_reducible refine tt_bd1 (t_put) (fun _ _ => ?_)) | (with_reducible refine tt_bd1 (t_stepFrom) (fun _ _ => ?_)) | (with_reducible refine tt_bd1 (t_sites) (fun _ _ => ?_)) | (with_reducible refine tt_bd1 (t_total ?_ ?_) (fun _ _ => ?_)) | (with_reducible refine tt_bd1 (t_endRound ?_ ?_) (fun _ _ => ?_)) | (with_reducible refine tt_bd2 (t_addTo ?_ ?_) (fun _ _ _ => ?_)) | (with_reducible refine tt_bd1 (t_valueOf) (fun _ _ => ?_)) | (with_reducible refine tt_bd1 (t_allows) (fun _ _ => ?_)) | (with_reducible refine tt_bd1 (t_aloneToGoal ?_ ?_) (fun _ _ => ?_)) | (with_reducible refine tt_bd1 (t_shareOf) (fun _ _ => ?_)) | (with_reducible refine tt_bd1 (t_drift) (fun _ _ => ?_)) | (with_reducible refine tt_bd3 (t_balance ?_ ?_) (fun _ _ _ _ => ?_)) | (with_reducible refine tt_bd1 (t_hearPlaces ?_ ?_) (fun _ _ => ?_)) | (with_reducible refine tt_bd1 (t_bitCount) (fun _ _ => ?_)) | (with_reducible refine tt_bd2 (t_measureShares ?_ ?_) (fun _ _ _ => ?_)) | (with_reducible refine tt_bd1 (t_isAbove) (fun _ _ => ?_)) | (with_reducible refine tt_bd1 (t_isQuietDrift) (fun _ _ => ?_)) | (with_reducible refine tt_bd3 (t_canShare ?_ ?_) (fun _ _ _ _ => ?_)) | (with_reducible refine tt_bd1 (t_copyFrom) (fun _ _ => ?_)) | (with_reducible refine tt_bd1 (t_shift) (fun _ _ => ?_)) | (with_reducible refine tt_bd1 (t_isQuiet) (fun _ _ => ?_)) | (with_reducible refine tt_bd1 (t_isFrozen) (fun _ _ => ?_)) | (with_reducible refine tt_bd2 (t_noteAsked ?_) (fun _ _ _ => ?_)) | (with_reducible refine tt_bd1 (t_hearAll ?_ ?_) (fun _ _ => ?_)) | (with_reducible refine tt_bd7 (t_moveSite ?_ ?_) (fun _ _ _ _ _ _ _ _ => ?_)) | (with_reducible refine tt_bd2 (t_hearByHand ?_ ?_) (fun _ _ _ => ?_)) | (with_reducible refine tt_bd1 (t_startCounts ?_ ?_) (fun _ _ => ?_)) | (with_reducible refine tt_bd7 (t_doAct ?_ ?_ ?_) (fun _ _ _ _ _ _ _ _ => ?_)) | (with_reducible refine tt_bd1 (t_freezeRefusal) (fun _ _ => ?_)) | (with_reducible refine tt_bd1 (t_hasRoom) (fun _ _ => ?_)) | (with_reducible refine tt_bd1 (t_isQuietWith) (fun _ _ => ?_)) | (with_reducible refine tt_bd1 (t_isMovable) (fun _ _ => ?_)))
  all_goals (first | trivial | assumption | (simp [upd, *]; done))
theorem t_point {p1 p2 : Int32} {f : Nat → Int32} : Tt (F_X5_point p1 p2 f) (fun _ => True) := by
  unfold F_X5_point J_X5_point_19
  repeat' (first | (with_reducible refine tt_some ?_) | (with_reducible refine tt_nm ?_) | (with_reducible refine tt_ite (fun _ => ?_) (fun _ => ?_)) | (with_reducible refine tt_bd1 (t_floorDiv ?_) (fun _ _ => ?_)) | (with_reducible refine tt_bd1 (t_floorMod ?_) (fun _ _ => ?_)) | (with_reducible refine tt_bd1 (t_hasSite) (fun _ _ => ?_)) | (with_reducible refine tt_bd1 (t_of) (fun _ _ => ?_)) | (with_reducible refine tt_bd1 (t_isReached) (fun _ _ => ?_)) | (with_reducible refine tt_bd1 (t_addRefusal) (fun _ _ => ?_)) | (with_reducible refine tt_bd1 (t_put) (fun _ _ => ?_)) | (with_reducible refine tt_bd1 (t_stepFrom) (fun _ _ => ?_)) | (with_reducible refine tt_bd1 (t_sites) (fun _ _ => ?_)) | (with_reducible refine tt_bd1 (t_total ?_ ?_) (fun _ _ => ?_)) | (with_reducible refine tt_bd1 (t_endRound ?_ ?_) (fun _ _ => ?_)) | (with_reducible refine tt_bd2 (t_addTo ?_ ?_) (fun _ _ _ => ?_)) | (with_reducible refine tt_bd1 (t_valueOf) (fun _ _ => ?_)) | (with_reducible refine tt_bd1 (t_allows) (fun _ _ => ?_)) | (with_reducible refine tt_bd1 (t_aloneToGoal ?_ ?_) (fun _ _ => ?_)) | (with_reducible refine tt_bd1 (t_shareOf) (fun _ _ => ?_)) | (with_reducible refine tt_bd1 (t_drift) (fun _ _ => ?_)) | (with_reducible refine tt_bd3 (t_balance ?_ ?_) (fun _ _ _ _ => ?_)) | (with_reducible refine tt_bd1 (t_hearPlaces ?_ ?_) (fun _ _ => ?_)) | (with_reducible refine tt_bd1 (t_bitCount) (fun _ _ => ?_)) | (with_reducible refine tt_bd2 (t_measureShares ?_ ?_) (fun _ _ _ => ?_)) | (with_reducible refine tt_bd1 (t_isAbove) (fun _ _ => ?_)) | (with_reducible refine tt_bd1 (t_isQuietDrift) (fun _ _ => ?_)) | (with_reducible refine tt_bd3 (t_canShare ?_ ?_) (fun _ _ _ _ => ?_)) | (with_reducible refine tt_bd1 (t_copyFrom) (fun _ _ => ?_)) | (with_reducible refine tt_bd1 (t_shift) (fun _ _ => ?_)) | (with_reducible refine tt_bd1 (t_isQuiet) (fun _ _ => ?_)) | (with_reducible refine tt_bd1 (t_isFrozen) (fun _ _ => ?_)) | (with_reducible refine tt_bd2 (t_noteAsked ?_) (fun _ _ _ => ?_)) | (with_reducible refine tt_bd1 (t_hearAll ?_ ?_) (fun _ _ => ?_)) | (with_reducible refine tt_bd7 (t_moveSite ?_ ?_) (fun _ _ _ _ _ _ _ _ => ?_)) | (with_reducible refine tt_bd2 (t_hearByHand ?_ ?_) (fun _ _ _ => ?_)) | (with_reducible refine tt_bd1 (t_startCounts ?_ ?_) (fun _ _ => ?_)) | (with_reducible refine tt_bd7 (t_doAct ?_ ?_ ?_) (fun _ _ _ _ _ _ _ _ => ?_)) | (with_reducible refine tt_bd1 (t_freezeRefusal) (fun _ _ => ?_)) | (with_reducible refine tt_bd1 (t_hasRoom) (fun _ _ => ?_)) | (with_reducible refine tt_bd1 (t_isQuietWith) (fun _ _ => ?_)) | (with_reducible refine tt_bd1 (t_isMovable) (fun _ _ => ?_)) | (with_reducible refine tt_bd1 (t_moveRefusal) (fun _ _ => ?_)))
  all_goals (first | trivial | assumption | (simp [upd, *]; done))
theorem t_pointValue {p1 p2 p3 : Int32} {f : Nat → Int32} : Tt (F_X5_pointValue p1 p2 p3 f) (fun _ => True) := by
  unfold F_X5_pointValue
  repeat' (first | (with_reducible refine tt_some ?_) | (with_reducible refine tt_nm ?_) | (with_reducible refine tt_ite (fun _ => ?_) (fun _ => ?_)) | (with_reducible refine tt_bd1 (t_floorDiv ?_) (fun _ _ => ?_)) | (with_reducible refine tt_bd1 (t_floorMod ?_) (fun _ _ => ?_)) | (with_reducible refine tt_bd1 (t_hasSite) (fun _ _ => ?_)) | (with_reducible refine tt_bd1 (t_of) (fun _ _ => ?_)) | (with_reducible refine tt_bd1 (t_isReached) (fun _ _ => ?_)) | (with_reducible refine tt_bd1 (t_addRefusal) (fun _ _ => ?_)) | (with_reducible refine tt_bd1 (t_put) (fun _ _ => ?_)) | (with_reducible refine tt_bd1 (t_stepFrom) (fun _ _ => ?_)) | (with_reducible refine tt_bd1 (t_sites) (fun _ _ => ?_)) | (with_reducible refine tt_bd1 (t_total ?_ ?_) (fun _ _ => ?_)) | (with_reducible refine tt_bd1 (t_endRound ?_ ?_) (fun _ _ => ?_)) | (with_reducible refine tt_bd2 (t_addTo ?_ ?_) (fun _ _ _ => ?_)) | (with_reducible refine tt_bd1 (t_valueOf) (fun _ _ => ?_)) | (with_reducible refine tt_bd1 (t_allows) (fun _ _ => ?_)) | (with_reducible refine tt_bd1 (t_aloneToGoal ?_ ?_) (fun _ _ => ?_)) | (with_reducible refine tt_bd1 (t_shareOf) (fun _ _ => ?_)) | (with_reducible refine tt_bd1 (t_drift) (fun _ _ => ?_)) | (with_reducible refine tt_bd3 (t_balance ?_ ?_) (fun _ _ _ _ => ?_)) | (with_reducible refine tt_bd1 (t_hearPlaces ?_ ?_) (fun _ _ => ?_)) | (with_reducible refine tt_bd1 (t_bitCount) (fun _ _ => ?_)) | (with_reducible refine tt_bd2 (t_measureShares ?_ ?_) (fun _ _ _ => ?_)) | (with_reducible refine tt_bd1 (t_isAbove) (fun _ _ => ?_)) | (with_reducible refine tt_bd1 (t_isQuietDrift) (fun _ _ => ?_)) | (with_reducible refine tt_bd3 (t_canShare ?_ ?_) (fun _ _ _ _ => ?_)) | (with_reducible refine tt_bd1 (t_copyFrom) (fun _ _ => ?_)) | (with_reducible refine tt_bd1 (t_shift) (fun _ _ => ?_)) | (with_reducible refine tt_bd1 (t_isQuiet) (fun _ _ => ?_)) | (with_reducible refine tt_bd1 (t_isFrozen) (fun _ _ => ?_)) | (with_reducible refine tt_bd2 (t_noteAsked ?_) (fun _ _ _ => ?_)) | (with_reducible refine tt_bd1 (t_hearAll ?_ ?_) (fun _ _ => ?_)) | (with_reducible refine tt_bd7 (t_moveSite ?_ ?_) (fun _ _ _ _ _ _ _ _ => ?_)) | (with_reducible refine tt_bd2 (t_hearByHand ?_ ?_) (fun _ _ _ => ?_)) | (with_reducible refine tt_bd1 (t_startCounts ?_ ?_) (fun _ _ => ?_)) | (with_reducible refine tt_bd7 (t_doAct ?_ ?_ ?_) (fun _ _ _ _ _ _ _ _ => ?_)) | (with_reducible refine tt_bd1 (t_freezeRefusal) (fun _ _ => ?_)) | (with_reducible refine tt_bd1 (t_hasRoom) (fun _ _ => ?_)) | (with_reducible refine tt_bd1 (t_isQuietWith) (fun _ _ => ?_)) | (with_reducible refine tt_bd1 (t_isMovable) (fun _ _ => ?_)) | (with_reducible refine tt_bd1 (t_moveRefusal) (fun _ _ => ?_)) | (with_reducible refine tt_bd1 (t_point) (fun _ _ => ?_)))
  all_goals (first | trivial | assumption | (simp [upd, *]; done))
theorem t_quietSites {K : Nat} {f : Nat → Int32} (hK : 200000 ≤ K) (hr : Rw (f 3)) : Tt (F_X5_quietSites K f) (fun _ => True) := by
  unfold F_X5_quietSites
  refine tt_bd1 (P := fun _ => True) (tt_for (fun j u => u.2 = nI j) 8 (by omega) rfl (fun j u hj hu => ?_)) (fun _ _ => tt_some trivial)
  unfold B_X5_quietSites_4
  refine tt_bd1 t_sites (fun r hs => tt_ite (fun _ => tt_some (nx_r trivial)) (fun q => ?_))
  have jl := rw_lt hr hs hu hj q
  repeat' (first | (with_reducible refine tt_some ?_) | (with_reducible refine tt_nm ?_) | (with_reducible refine tt_ite (fun _ => ?_) (fun _ => ?_)) | (with_reducible refine tt_bd1 (t_floorDiv ?_) (fun _ _ => ?_)) | (with_reducible refine tt_bd1 (t_floorMod ?_) (fun _ _ => ?_)) | (with_reducible refine tt_bd1 (t_hasSite) (fun _ _ => ?_)) | (with_reducible refine tt_bd1 (t_of) (fun _ _ => ?_)) | (with_reducible refine tt_bd1 (t_isReached) (fun _ _ => ?_)) | (with_reducible refine tt_bd1 (t_addRefusal) (fun _ _ => ?_)) | (with_reducible refine tt_bd1 (t_put) (fun _ _ => ?_)) | (with_reducible refine tt_bd1 (t_stepFrom) (fun _ _ => ?_)) | (with_reducible refine tt_bd1 (t_sites) (fun _ _ => ?_)) | (with_reducible refine tt_bd1 (t_total ?_ ?_) (fun _ _ => ?_)) | (with_reducible refine tt_bd1 (t_endRound ?_ ?_) (fun _ _ => ?_)) | (with_reducible refine tt_bd2 (t_addTo ?_ ?_) (fun _ _ _ => ?_)) | (with_reducible refine tt_bd1 (t_valueOf) (fun _ _ => ?_)) | (with_reducible refine tt_bd1 (t_allows) (fun _ _ => ?_)) | (with_reducible refine tt_bd1 (t_aloneToGoal ?_ ?_) (fun _ _ => ?_)) | (with_reducible refine tt_bd1 (t_shareOf) (fun _ _ => ?_)) | (with_reducible refine tt_bd1 (t_drift) (fun _ _ => ?_)) | (with_reducible refine tt_bd3 (t_balance ?_ ?_) (fun _ _ _ _ => ?_)) | (with_reducible refine tt_bd1 (t_hearPlaces ?_ ?_) (fun _ _ => ?_)) | (with_reducible refine tt_bd1 (t_bitCount) (fun _ _ => ?_)) | (with_reducible refine tt_bd2 (t_measureShares ?_ ?_) (fun _ _ _ => ?_)) | (with_reducible refine tt_bd1 (t_isAbove) (fun _ _ => ?_)) | (with_reducible refine tt_bd1 (t_isQuietDrift) (fun _ _ => ?_)) | (with_reducible refine tt_bd3 (t_canShare ?_ ?_) (fun _ _ _ _ => ?_)) | (with_reducible refine tt_bd1 (t_copyFrom) (fun _ _ => ?_)) | (with_reducible refine tt_bd1 (t_shift) (fun _ _ => ?_)) | (with_reducible refine tt_bd1 (t_isQuiet) (fun _ _ => ?_)) | (with_reducible refine tt_bd1 (t_isFrozen) (fun _ _ => ?_)) | (with_reducible refine tt_bd2 (t_noteAsked ?_) (fun _ _ _ => ?_)) | (with_reducible refine tt_bd1 (t_hearAll ?_ ?_) (fun _ _ => ?_)) | (with_reducible refine tt_bd7 (t_moveSite ?_ ?_) (fun _ _ _ _ _ _ _ _ => ?_)) | (with_reducible refine tt_bd2 (t_hearByHand ?_ ?_) (fun _ _ _ => ?_)) | (with_reducible refine tt_bd1 (t_startCounts ?_ ?_) (fun _ _ => ?_)) | (with_reducible refine tt_bd7 (t_doAct ?_ ?_ ?_) (fun _ _ _ _ _ _ _ _ => ?_)) | (with_reducible refine tt_bd1 (t_freezeRefusal) (fun _ _ => ?_)) | (with_reducible refine tt_bd1 (t_hasRoom) (fun _ _ => ?_)) | (with_reducible refine tt_bd1 (t_isQuietWith) (fun _ _ => ?_)) | (with_reducible refine tt_bd1 (t_isMovable) (fun _ _ => ?_)) | (with_reducible refine tt_bd1 (t_moveRefusal) (fun _ _ => ?_)) | (with_reducible refine tt_bd1 (t_point) (fun _ _ => ?_)) | (with_reducible refine tt_bd1 (t_pointValue) (fun _ _ => ?_)))
  all_goals (exact nx_l jl (nx1 hu))
theorem t_stands {f : Nat → Int32} : Tt (F_X5_stands f) (fun _ => True) := by
  unfold F_X5_stands
  repeat' (first | (with_reducible refine tt_some ?_) | (with_reducible refine tt_nm ?_) | (with_reducible refine tt_ite (fun _ => ?_) (fun _ => ?_)) | (with_reducible refine tt_bd1 (t_floorDiv ?_) (fun _ _ => ?_)) | (with_reducible refine tt_bd1 (t_floorMod ?_) (fun _ _ => ?_)) | (with_reducible refine tt_bd1 (t_hasSite) (fun _ _ => ?_)) | (with_reducible refine tt_bd1 (t_of) (fun _ _ => ?_)) | (with_reducible refine tt_bd1 (t_isReached) (fun _ _ => ?_)) | (with_reducible refine tt_bd1 (t_addRefusal) (fun _ _ => ?_)) | (with_reducible refine tt_bd1 (t_put) (fun _ _ => ?_)) | (with_reducible refine tt_bd1 (t_stepFrom) (fun _ _ => ?_)) | (with_reducible refine tt_bd1 (t_sites) (fun _ _ => ?_)) | (with_reducible refine tt_bd1 (t_total ?_ ?_) (fun _ _ => ?_)) | (with_reducible refine tt_bd1 (t_endRound ?_ ?_) (fun _ _ => ?_)) | (with_reducible refine tt_bd2 (t_addTo ?_ ?_) (fun _ _ _ => ?_)) | (with_reducible refine tt_bd1 (t_valueOf) (fun _ _ => ?_)) | (with_reducible refine tt_bd1 (t_allows) (fun _ _ => ?_)) | (with_reducible refine tt_bd1 (t_aloneToGoal ?_ ?_) (fun _ _ => ?_)) | (with_reducible refine tt_bd1 (t_shareOf) (fun _ _ => ?_)) | (with_reducible refine tt_bd1 (t_drift) (fun _ _ => ?_)) | (with_reducible refine tt_bd3 (t_balance ?_ ?_) (fun _ _ _ _ => ?_)) | (with_reducible refine tt_bd1 (t_hearPlaces ?_ ?_) (fun _ _ => ?_)) | (with_reducible refine tt_bd1 (t_bitCount) (fun _ _ => ?_)) | (with_reducible refine tt_bd2 (t_measureShares ?_ ?_) (fun _ _ _ => ?_)) | (with_reducible refine tt_bd1 (t_isAbove) (fun _ _ => ?_)) | (with_reducible refine tt_bd1 (t_isQuietDrift) (fun _ _ => ?_)) | (with_reducible refine tt_bd3 (t_canShare ?_ ?_) (fun _ _ _ _ => ?_)) | (with_reducible refine tt_bd1 (t_copyFrom) (fun _ _ => ?_)) | (with_reducible refine tt_bd1 (t_shift) (fun _ _ => ?_)) | (with_reducible refine tt_bd1 (t_isQuiet) (fun _ _ => ?_)) | (with_reducible refine tt_bd1 (t_isFrozen) (fun _ _ => ?_)) | (with_reducible refine tt_bd2 (t_noteAsked ?_) (fun _ _ _ => ?_)) | (with_reducible refine tt_bd1 (t_hearAll ?_ ?_) (fun _ _ => ?_)) | (with_reducible refine tt_bd7 (t_moveSite ?_ ?_) (fun _ _ _ _ _ _ _ _ => ?_)) | (with_reducible refine tt_bd2 (t_hearByHand ?_ ?_) (fun _ _ _ => ?_)) | (with_reducible refine tt_bd1 (t_startCounts ?_ ?_) (fun _ _ => ?_)) | (with_reducible refine tt_bd7 (t_doAct ?_ ?_ ?_) (fun _ _ _ _ _ _ _ _ => ?_)) | (with_reducible refine tt_bd1 (t_freezeRefusal) (fun _ _ => ?_)) | (with_reducible refine tt_bd1 (t_hasRoom) (fun _ _ => ?_)) | (with_reducible refine tt_bd1 (t_isQuietWith) (fun _ _ => ?_)) | (with_reducible refine tt_bd1 (t_isMovable) (fun _ _ => ?_)) | (with_reducible refine tt_bd1 (t_moveRefusal) (fun _ _ => ?_)) | (with_reducible refine tt_bd1 (t_point) (fun _ _ => ?_)) | (with_reducible refine tt_bd1 (t_pointValue) (fun _ _ => ?_)) | (with_reducible refine tt_bd1 (t_quietSites ?_ ?_) (fun _ _ => ?_)))
  all_goals (first | trivial | assumption | (simp [upd, *]; done))
theorem t_setRefusal {p1 p2 p3 p4 : Int32} : Tt (F_X5_setRefusal p1 p2 p3 p4) (fun _ => True) := by
  unfold F_X5_setRefusal
  repeat' (first | (with_reducible refine tt_some ?_) | (with_reducible refine tt_nm ?_) | (with_reducible refine tt_ite (fun _ => ?_) (fun _ => ?_)) | (with_reducible refine tt_bd1 (t_floorDiv ?_) (fun _ _ => ?_)) | (with_reducible refine tt_bd1 (t_floorMod ?_) (fun _ _ => ?_)) | (with_reducible refine tt_bd1 (t_hasSite) (fun _ _ => ?_)) | (with_reducible refine tt_bd1 (t_of) (fun _ _ => ?_)) | (with_reducible refine tt_bd1 (t_isReached) (fun _ _ => ?_)) | (with_reducible refine tt_bd1 (t_addRefusal) (fun _ _ => ?_)) | (with_reducible refine tt_bd1 (t_put) (fun _ _ => ?_)) | (with_reducible refine tt_bd1 (t_stepFrom) (fun _ _ => ?_)) | (with_reducible refine tt_bd1 (t_sites) (fun _ _ => ?_)) | (with_reducible refine tt_bd1 (t_total ?_ ?_) (fun _ _ => ?_)) | (with_reducible refine tt_bd1 (t_endRound ?_ ?_) (fun _ _ => ?_)) | (with_reducible refine tt_bd2 (t_addTo ?_ ?_) (fun _ _ _ => ?_)) | (with_reducible refine tt_bd1 (t_valueOf) (fun _ _ => ?_)) | (with_reducible refine tt_bd1 (t_allows) (fun _ _ => ?_)) | (with_reducible refine tt_bd1 (t_aloneToGoal ?_ ?_) (fun _ _ => ?_)) | (with_reducible refine tt_bd1 (t_shareOf) (fun _ _ => ?_)) | (with_reducible refine tt_bd1 (t_drift) (fun _ _ => ?_)) | (with_reducible refine tt_bd3 (t_balance ?_ ?_) (fun _ _ _ _ => ?_)) | (with_reducible refine tt_bd1 (t_hearPlaces ?_ ?_) (fun _ _ => ?_)) | (with_reducible refine tt_bd1 (t_bitCount) (fun _ _ => ?_)) | (with_reducible refine tt_bd2 (t_measureShares ?_ ?_) (fun _ _ _ => ?_)) | (with_reducible refine tt_bd1 (t_isAbove) (fun _ _ => ?_)) | (with_reducible refine tt_bd1 (t_isQuietDrift) (fun _ _ => ?_)) | (with_reducible refine tt_bd3 (t_canShare ?_ ?_) (fun _ _ _ _ => ?_)) | (with_reducible refine tt_bd1 (t_copyFrom) (fun _ _ => ?_)) | (with_reducible refine tt_bd1 (t_shift) (fun _ _ => ?_)) | (with_reducible refine tt_bd1 (t_isQuiet) (fun _ _ => ?_)) | (with_reducible refine tt_bd1 (t_isFrozen) (fun _ _ => ?_)) | (with_reducible refine tt_bd2 (t_noteAsked ?_) (fun _ _ _ => ?_)) | (with_reducible refine tt_bd1 (t_hearAll ?_ ?_) (fun _ _ => ?_)) | (with_reducible refine tt_bd7 (t_moveSite ?_ ?_) (fun _ _ _ _ _ _ _ _ => ?_)) | (with_reducible refine tt_bd2 (t_hearByHand ?_ ?_) (fun _ _ _ => ?_)) | (with_reducible refine tt_bd1 (t_startCounts ?_ ?_) (fun _ _ => ?_)) | (with_reducible refine tt_bd7 (t_doAct ?_ ?_ ?_) (fun _ _ _ _ _ _ _ _ => ?_)) | (with_reducible refine tt_bd1 (t_freezeRefusal) (fun _ _ => ?_)) | (with_reducible refine tt_bd1 (t_hasRoom) (fun _ _ => ?_)) | (with_reducible refine tt_bd1 (t_isQuietWith) (fun _ _ => ?_)) | (with_reducible refine tt_bd1 (t_isMovable) (fun _ _ => ?_)) | (with_reducible refine tt_bd1 (t_moveRefusal) (fun _ _ => ?_)) | (with_reducible refine tt_bd1 (t_point) (fun _ _ => ?_)) | (with_reducible refine tt_bd1 (t_pointValue) (fun _ _ => ?_)) | (with_reducible refine tt_bd1 (t_quietSites ?_ ?_) (fun _ _ => ?_)) | (with_reducible refine tt_bd1 (t_stands) (fun _ _ => ?_)))
  all_goals (first | trivial | assumption | (simp [upd, *]; done))
theorem t_refusal {p1 p2 p3 p4 : Int32} {f : Nat → Int32} : Tt (F_X5_refusal p1 p2 p3 p4 f) (fun _ => True) := by
  unfold F_X5_refusal
  repeat' (first | (with_reducible refine tt_some ?_) | (with_reducible refine tt_nm ?_) | (with_reducible refine tt_ite (fun _ => ?_) (fun _ => ?_)) | (with_reducible refine tt_bd1 (t_floorDiv ?_) (fun _ _ => ?_)) | (with_reducible refine tt_bd1 (t_floorMod ?_) (fun _ _ => ?_)) | (with_reducible refine tt_bd1 (t_hasSite) (fun _ _ => ?_)) | (with_reducible refine tt_bd1 (t_of) (fun _ _ => ?_)) | (with_reducible refine tt_bd1 (t_isReached) (fun _ _ => ?_)) | (with_reducible refine tt_bd1 (t_addRefusal) (fun _ _ => ?_)) | (with_reducible refine tt_bd1 (t_put) (fun _ _ => ?_)) | (with_reducible refine tt_bd1 (t_stepFrom) (fun _ _ => ?_)) | (with_reducible refine tt_bd1 (t_sites) (fun _ _ => ?_)) | (with_reducible refine tt_bd1 (t_total ?_ ?_) (fun _ _ => ?_)) | (with_reducible refine tt_bd1 (t_endRound ?_ ?_) (fun _ _ => ?_)) | (with_reducible refine tt_bd2 (t_addTo ?_ ?_) (fun _ _ _ => ?_)) | (with_reducible refine tt_bd1 (t_valueOf) (fun _ _ => ?_)) | (with_reducible refine tt_bd1 (t_allows) (fun _ _ => ?_)) | (with_reducible refine tt_bd1 (t_aloneToGoal ?_ ?_) (fun _ _ => ?_)) | (with_reducible refine tt_bd1 (t_shareOf) (fun _ _ => ?_)) | (with_reducible refine tt_bd1 (t_drift) (fun _ _ => ?_)) | (with_reducible refine tt_bd3 (t_balance ?_ ?_) (fun _ _ _ _ => ?_)) | (with_reducible refine tt_bd1 (t_hearPlaces ?_ ?_) (fun _ _ => ?_)) | (with_reducible refine tt_bd1 (t_bitCount) (fun _ _ => ?_)) | (with_reducible refine tt_bd2 (t_measureShares ?_ ?_) (fun _ _ _ => ?_)) | (with_reducible refine tt_bd1 (t_isAbove) (fun _ _ => ?_)) | (with_reducible refine tt_bd1 (t_isQuietDrift) (fun _ _ => ?_)) | (with_reducible refine tt_bd3 (t_canShare ?_ ?_) (fun _ _ _ _ => ?_)) | (with_reducible refine tt_bd1 (t_copyFrom) (fun _ _ => ?_)) | (with_reducible refine tt_bd1 (t_shift) (fun _ _ => ?_)) | (with_reducible refine tt_bd1 (t_isQuiet) (fun _ _ => ?_)) | (with_reducible refine tt_bd1 (t_isFrozen) (fun _ _ => ?_)) | (with_reducible refine tt_bd2 (t_noteAsked ?_) (fun _ _ _ => ?_)) | (with_reducible refine tt_bd1 (t_hearAll ?_ ?_) (fun _ _ => ?_)) | (with_reducible refine tt_bd7 (t_moveSite ?_ ?_) (fun _ _ _ _ _ _ _ _ => ?_)) | (with_reducible refine tt_bd2 (t_hearByHand ?_ ?_) (fun _ _ _ => ?_)) | (with_reducible refine tt_bd1 (t_startCounts ?_ ?_) (fun _ _ => ?_)) | (with_reducible refine tt_bd7 (t_doAct ?_ ?_ ?_) (fun _ _ _ _ _ _ _ _ => ?_)) | (with_reducible refine tt_bd1 (t_freezeRefusal) (fun _ _ => ?_)) | (with_reducible refine tt_bd1 (t_hasRoom) (fun _ _ => ?_)) | (with_reducible refine tt_bd1 (t_isQuietWith) (fun _ _ => ?_)) | (with_reducible refine tt_bd1 (t_isMovable) (fun _ _ => ?_)) | (with_reducible refine tt_bd1 (t_moveRefusal) (fun _ _ => ?_)) | (with_reducible refine tt_bd1 (t_point) (fun _ _ => ?_)) | (with_reducible refine tt_bd1 (t_pointValue) (fun _ _ => ?_)) | (with_reducible refine tt_bd1 (t_quietSites ?_ ?_) (fun _ _ => ?_)) | (with_reducible refine tt_bd1 (t_stands) (fun _ _ => ?_)) | (with_reducible refine tt_bd1 (t_setRefusal) (fun _ _ => ?_)))
  all_goals (first | trivial | assumption | (simp [upd, *]; done))
theorem t_slackLength {p1 : Int32} {f : Nat → Int32} : Tt (F_X5_slackLength p1 f) (fun _ => True) := by
  unfold F_X5_slackLength
  repeat' (first | (with_reducible refine tt_some ?_) | (with_reducible refine tt_nm ?_) | (with_reducible refine tt_ite (fun _ => ?_) (fun _ => ?_)) | (with_reducible refine tt_bd1 (t_floorDiv ?_) (fun _ _ => ?_)) | (with_reducible refine tt_bd1 (t_floorMod ?_) (fun _ _ => ?_)) | (with_reducible refine tt_bd1 (t_hasSite) (fun _ _ => ?_)) | (with_reducible refine tt_bd1 (t_of) (fun _ _ => ?_)) | (with_reducible refine tt_bd1 (t_isReached) (fun _ _ => ?_)) | (with_reducible refine tt_bd1 (t_addRefusal) (fun _ _ => ?_)) | (with_reducible refine tt_bd1 (t_put) (fun _ _ => ?_)) | (with_reducible refine tt_bd1 (t_stepFrom) (fun _ _ => ?_)) | (with_reducible refine tt_bd1 (t_sites) (fun _ _ => ?_)) | (with_reducible refine tt_bd1 (t_total ?_ ?_) (fun _ _ => ?_)) | (with_reducible refine tt_bd1 (t_endRound ?_ ?_) (fun _ _ => ?_)) | (with_reducible refine tt_bd2 (t_addTo ?_ ?_) (fun _ _ _ => ?_)) | (with_reducible refine tt_bd1 (t_valueOf) (fun _ _ => ?_)) | (with_reducible refine tt_bd1 (t_allows) (fun _ _ => ?_)) | (with_reducible refine tt_bd1 (t_aloneToGoal ?_ ?_) (fun _ _ => ?_)) | (with_reducible refine tt_bd1 (t_shareOf) (fun _ _ => ?_)) | (with_reducible refine tt_bd1 (t_drift) (fun _ _ => ?_)) | (with_reducible refine tt_bd3 (t_balance ?_ ?_) (fun _ _ _ _ => ?_)) | (with_reducible refine tt_bd1 (t_hearPlaces ?_ ?_) (fun _ _ => ?_)) | (with_reducible refine tt_bd1 (t_bitCount) (fun _ _ => ?_)) | (with_reducible refine tt_bd2 (t_measureShares ?_ ?_) (fun _ _ _ => ?_)) | (with_reducible refine tt_bd1 (t_isAbove) (fun _ _ => ?_)) | (with_reducible refine tt_bd1 (t_isQuietDrift) (fun _ _ => ?_)) | (with_reducible refine tt_bd3 (t_canShare ?_ ?_) (fun _ _ _ _ => ?_)) | (with_reducible refine tt_bd1 (t_copyFrom) (fun _ _ => ?_)) | (with_reducible refine tt_bd1 (t_shift) (fun _ _ => ?_)) | (with_reducible refine tt_bd1 (t_isQuiet) (fun _ _ => ?_)) | (with_reducible refine tt_bd1 (t_isFrozen) (fun _ _ => ?_)) | (with_reducible refine tt_bd2 (t_noteAsked ?_) (fun _ _ _ => ?_)) | (with_reducible refine tt_bd1 (t_hearAll ?_ ?_) (fun _ _ => ?_)) | (with_reducible refine tt_bd7 (t_moveSite ?_ ?_) (fun _ _ _ _ _ _ _ _ => ?_)) | (with_reducible refine tt_bd2 (t_hearByHand ?_ ?_) (fun _ _ _ => ?_)) | (with_reducible refine tt_bd1 (t_startCounts ?_ ?_) (fun _ _ => ?_)) | (with_reducible refine tt_bd7 (t_doAct ?_ ?_ ?_) (fun _ _ _ _ _ _ _ _ => ?_)) | (with_reducible refine tt_bd1 (t_freezeRefusal) (fun _ _ => ?_)) | (with_reducible refine tt_bd1 (t_hasRoom) (fun _ _ => ?_)) | (with_reducible refine tt_bd1 (t_isQuietWith) (fun _ _ => ?_)) | (with_reducible refine tt_bd1 (t_isMovable) (fun _ _ => ?_)) | (with_reducible refine tt_bd1 (t_moveRefusal) (fun _ _ => ?_)) | (with_reducible refine tt_bd1 (t_point) (fun _ _ => ?_)) | (with_reducible refine tt_bd1 (t_pointValue) (fun _ _ => ?_)) | (with_reducible refine tt_bd1 (t_quietSites ?_ ?_) (fun _ _ => ?_)) | (with_reducible refine tt_bd1 (t_stands) (fun _ _ => ?_)) | (with_reducible refine tt_bd1 (t_setRefusal) (fun _ _ => ?_)) | (with_reducible refine tt_bd1 (t_refusal) (fun _ _ => ?_)))
  all_goals (first | trivial | assumption | (simp [upd, *]; done))
theorem t_slackSites {K : Nat} {f : Nat → Int32} (hK : 200000 ≤ K) (hr : Rw (f 3)) : Tt (F_X5_slackSites K f) (fun _ => True) := by
  unfold F_X5_slackSites
  refine tt_bd1 (P := fun _ => True) (tt_for (fun j u => u.2 = nI j) 8 (by omega) rfl (fun j u hj hu => ?_)) (fun _ _ => tt_some trivial)
  unfold B_X5_slackSites_4
  refine tt_bd1 t_sites (fun r hs => tt_ite (fun _ => tt_some (nx_r trivial)) (fun q => ?_))
  have jl := rw_lt hr hs hu hj q
  repeat' (first | (with_reducible refine tt_some ?_) | (with_reducible refine tt_nm ?_) | (with_reducible refine tt_ite (fun _ => ?_) (fun _ => ?_)) | (with_reducible refine tt_bd1 (t_floorDiv ?_) (fun _ _ => ?_)) | (with_reducible refine tt_bd1 (t_floorMod ?_) (fun _ _ => ?_)) | (with_reducible refine tt_bd1 (t_hasSite) (fun _ _ => ?_)) | (with_reducible refine tt_bd1 (t_of) (fun _ _ => ?_)) | (with_reducible refine tt_bd1 (t_isReached) (fun _ _ => ?_)) | (with_reducible refine tt_bd1 (t_addRefusal) (fun _ _ => ?_)) | (with_reducible refine tt_bd1 (t_put) (fun _ _ => ?_)) | (with_reducible refine tt_bd1 (t_stepFrom) (fun _ _ => ?_)) | (with_reducible refine tt_bd1 (t_sites) (fun _ _ => ?_)) | (with_reducible refine tt_bd1 (t_total ?_ ?_) (fun _ _ => ?_)) | (with_reducible refine tt_bd1 (t_endRound ?_ ?_) (fun _ _ => ?_)) | (with_reducible refine tt_bd2 (t_addTo ?_ ?_) (fun _ _ _ => ?_)) | (with_reducible refine tt_bd1 (t_valueOf) (fun _ _ => ?_)) | (with_reducible refine tt_bd1 (t_allows) (fun _ _ => ?_)) | (with_reducible refine tt_bd1 (t_aloneToGoal ?_ ?_) (fun _ _ => ?_)) | (with_reducible refine tt_bd1 (t_shareOf) (fun _ _ => ?_)) | (with_reducible refine tt_bd1 (t_drift) (fun _ _ => ?_)) | (with_reducible refine tt_bd3 (t_balance ?_ ?_) (fun _ _ _ _ => ?_)) | (with_reducible refine tt_bd1 (t_hearPlaces ?_ ?_) (fun _ _ => ?_)) | (with_reducible refine tt_bd1 (t_bitCount) (fun _ _ => ?_)) | (with_reducible refine tt_bd2 (t_measureShares ?_ ?_) (fun _ _ _ => ?_)) | (with_reducible refine tt_bd1 (t_isAbove) (fun _ _ => ?_)) | (with_reducible refine tt_bd1 (t_isQuietDrift) (fun _ _ => ?_)) | (with_reducible refine tt_bd3 (t_canShare ?_ ?_) (fun _ _ _ _ => ?_)) | (with_reducible refine tt_bd1 (t_copyFrom) (fun _ _ => ?_)) | (with_reducible refine tt_bd1 (t_shift) (fun _ _ => ?_)) | (with_reducible refine tt_bd1 (t_isQuiet) (fun _ _ => ?_)) | (with_reducible refine tt_bd1 (t_isFrozen) (fun _ _ => ?_)) | (with_reducible refine tt_bd2 (t_noteAsked ?_) (fun _ _ _ => ?_)) | (with_reducible refine tt_bd1 (t_hearAll ?_ ?_) (fun _ _ => ?_)) | (with_reducible refine tt_bd7 (t_moveSite ?_ ?_) (fun _ _ _ _ _ _ _ _ => ?_)) | (with_reducible refine tt_bd2 (t_hearByHand ?_ ?_) (fun _ _ _ => ?_)) | (with_reducible refine tt_bd1 (t_startCounts ?_ ?_) (fun _ _ => ?_)) | (with_reducible refine tt_bd7 (t_doAct ?_ ?_ ?_) (fun _ _ _ _ _ _ _ _ => ?_)) | (with_reducible refine tt_bd1 (t_freezeRefusal) (fun _ _ => ?_)) | (with_reducible refine tt_bd1 (t_hasRoom) (fun _ _ => ?_)) | (with_reducible refine tt_bd1 (t_isQuietWith) (fun _ _ => ?_)) | (with_reducible refine tt_bd1 (t_isMovable) (fun _ _ => ?_)) | (with_reducible refine tt_bd1 (t_moveRefusal) (fun _ _ => ?_)) | (with_reducible refine tt_bd1 (t_point) (fun _ _ => ?_)) | (with_reducible refine tt_bd1 (t_pointValue) (fun _ _ => ?_)) | (with_reducible refine tt_bd1 (t_quietSites ?_ ?_) (fun _ _ => ?_)) | (with_reducible refine tt_bd1 (t_stands) (fun _ _ => ?_)) | (with_reducible refine tt_bd1 (t_setRefusal) (fun _ _ => ?_)) | (with_reducible refine tt_bd1 (t_refusal) (fun _ _ => ?_)) | (with_reducible refine tt_bd1 (t_slackLength) (fun _ _ => ?_)))
  all_goals (exact nx_l jl (nx1 hu))
theorem t_unmovedSites {K : Nat} {f : Nat → Int32} (hK : 200000 ≤ K) (hr : Rw (f 3)) : Tt (F_X5_unmovedSites K f) (fun _ => True) := by
  unfold F_X5_unmovedSites
  refine tt_bd1 (P := fun _ => True) (tt_for (fun j u => u.2 = nI j) 8 (by omega) rfl (fun j u hj hu => ?_)) (fun _ _ => tt_some trivial)
  unfold B_X5_unmovedSites_4 J_X5_unmovedSites_46_r5 J_X5_unmovedSites_47_r5
  refine tt_bd1 t_sites (fun r hs => tt_ite (fun _ => tt_some (nx_r trivial)) (fun q => ?_))
  have jl := rw_lt hr hs hu hj q
  repeat' (first | (with_reducible refine tt_some ?_) | (with_reducible refine tt_nm ?_) | (with_reducible refine tt_ite (fun _ => ?_) (fun _ => ?_)) | (with_reducible refine tt_bd1 (t_floorDiv ?_) (fun _ _ => ?_)) | (with_reducible refine tt_bd1 (t_floorMod ?_) (fun _ _ => ?_)) | (with_reducible refine tt_bd1 (t_hasSite) (fun _ _ => ?_)) | (with_reducible refine tt_bd1 (t_of) (fun _ _ => ?_)) | (with_reducible refine tt_bd1 (t_isReached) (fun _ _ => ?_)) | (with_reducible refine tt_bd1 (t_addRefusal) (fun _ _ => ?_)) | (with_reducible refine tt_bd1 (t_put) (fun _ _ => ?_)) | (with_reducible refine tt_bd1 (t_stepFrom) (fun _ _ => ?_)) | (with_reducible refine tt_bd1 (t_sites) (fun _ _ => ?_)) | (with_reducible refine tt_bd1 (t_total ?_ ?_) (fun _ _ => ?_)) | (with_reducible refine tt_bd1 (t_endRound ?_ ?_) (fun _ _ => ?_)) | (with_reducible refine tt_bd2 (t_addTo ?_ ?_) (fun _ _ _ => ?_)) | (with_reducible refine tt_bd1 (t_valueOf) (fun _ _ => ?_)) | (with_reducible refine tt_bd1 (t_allows) (fun _ _ => ?_)) | (with_reducible refine tt_bd1 (t_aloneToGoal ?_ ?_) (fun _ _ => ?_)) | (with_reducible refine tt_bd1 (t_shareOf) (fun _ _ => ?_)) | (with_reducible refine tt_bd1 (t_drift) (fun _ _ => ?_)) | (with_reducible refine tt_bd3 (t_balance ?_ ?_) (fun _ _ _ _ => ?_)) | (with_reducible refine tt_bd1 (t_hearPlaces ?_ ?_) (fun _ _ => ?_)) | (with_reducible refine tt_bd1 (t_bitCount) (fun _ _ => ?_)) | (with_reducible refine tt_bd2 (t_measureShares ?_ ?_) (fun _ _ _ => ?_)) | (with_reducible refine tt_bd1 (t_isAbove) (fun _ _ => ?_)) | (with_reducible refine tt_bd1 (t_isQuietDrift) (fun _ _ => ?_)) | (with_reducible refine tt_bd3 (t_canShare ?_ ?_) (fun _ _ _ _ => ?_)) | (with_reducible refine tt_bd1 (t_copyFrom) (fun _ _ => ?_)) | (with_reducible refine tt_bd1 (t_shift) (fun _ _ => ?_)) | (with_reducible refine tt_bd1 (t_isQuiet) (fun _ _ => ?_)) | (with_reducible refine tt_bd1 (t_isFrozen) (fun _ _ => ?_)) | (with_reducible refine tt_bd2 (t_noteAsked ?_) (fun _ _ _ => ?_)) | (with_reducible refine tt_bd1 (t_hearAll ?_ ?_) (fun _ _ => ?_)) | (with_reducible refine tt_bd7 (t_moveSite ?_ ?_) (fun _ _ _ _ _ _ _ _ => ?_)) | (with_reducible refine tt_bd2 (t_hearByHand ?_ ?_) (fun _ _ _ => ?_)) | (with_reducible refine tt_bd1 (t_startCounts ?_ ?_) (fun _ _ => ?_)) | (with_reducible refine tt_bd7 (t_doAct ?_ ?_ ?_) (fun _ _ _ _ _ _ _ _ => ?_)) | (with_reducible refine tt_bd1 (t_freezeRefusal) (fun _ _ => ?_)) | (with_reducible refine tt_bd1 (t_hasRoom) (fun _ _ => ?_)) | (with_reducible refine tt_bd1 (t_isQuietWith) (fun _ _ => ?_)) | (with_reducible refine tt_bd1 (t_isMovable) (fun _ _ => ?_)) | (with_reducible refine tt_bd1 (t_moveRefusal) (fun _ _ => ?_)) | (with_reducible refine tt_bd1 (t_point) (fun _ _ => ?_)) | (with_reducible refine tt_bd1 (t_pointValue) (fun _ _ => ?_)) | (with_reducible refine tt_bd1 (t_quietSites ?_ ?_) (fun _ _ => ?_)) | (with_reducible refine tt_bd1 (t_stands) (fun _ _ => ?_)) | (with_reducible refine tt_bd1 (t_setRefusal) (fun _ _ => ?_)) | (with_reducible refine tt_bd1 (t_refusal) (fun _ _ => ?_)) | (with_reducible refine tt_bd1 (t_slackLength) (fun _ _ => ?_)) | (with_reducible refine tt_bd1 (t_slackSites ?_ ?_) (fun _ _ => ?_)))
  all_goals (exact nx_l jl (nx1 hu))
end
-- 66.tv
section
/-! the book, the draws, history and scripts -/
theorem l_ne0 {x : Int32} (h : ¬ x ≤ 0) : ¬ x.toInt64 = 0 := fun q => h (by
  have a := congrArg Int64.toInt q
  rw [Int32.toInt_toInt64] at a
  have t0 : (0 : Int32).toInt = 0 := by decide
  have t1 : (0 : Int64).toInt = 0 := by decide
  rw [Int32.le_iff_toInt_le, a, t1, t0]; decide)
theorem xor100_neg {x : Int32} : (x ^^^ 100) < 0 ↔ x < 0 := by
  rw [Int32.lt_iff_toBitVec_slt, Int32.lt_iff_toBitVec_slt]
  have h : ∀ b : BitVec 32, b.slt (0 : Int32).toBitVec = b.msb := fun b => by
    rw [BitVec.slt_eq_decide, BitVec.msb_eq_toInt]
    have : ((0 : Int32).toBitVec).toInt = 0 := by decide
    rw [this]
  rw [h, h, Int32.toBitVec_xor, BitVec.msb_xor]
  have : ((100 : Int32).toBitVec).msb = false := by decide
  rw [this, Bool.xor_false]
theorem rem100 {x z : Int32} (ez : z = x - x / 100 * 100) : z.toInt = x.toInt.tmod 100 := by
  have h2 : (100 : Int32).toInt = 100 := by decide
  have a1 : -2 ^ 31 ≤ x.toInt := Int32.le_toInt x
  have a2 : x.toInt < 2 ^ 31 := Int32.toInt_lt x
  have d : x.toInt = 100 * (x.toInt.tdiv 100) + x.toInt.tmod 100 := (Int.mul_tdiv_add_tmod x.toInt 100).symm
  have b1 := Int.lt_tmod_of_pos x.toInt (b := 100) (by decide)
  have b2 := Int.tmod_lt_of_pos x.toInt (b := 100) (by decide)
  have q : (x / 100).toInt = x.toInt.tdiv 100 := by
    rw [Int32.toInt_div, h2]
    exact Int.bmod_eq_of_le (by omega) (by omega)
  rw [ez, Int32.toInt_sub, Int32.toInt_mul, q, h2, Int.sub_bmod_bmod, Int.bmod_eq_of_le (by omega) (by omega)]
  omega
theorem fm100_a {x z y : Int32} (ez : z = x - x / 100 * 100) (ey : y = x ^^^ 100) (c : y ≥ 0) : ∃ k : Nat, k ≤ 99 ∧ z = nI k := by
  have r := rem100 ez
  have t0 : (0 : Int32).toInt = 0 := by decide
  have p : ¬ x < 0 := fun h => by
    have u := xor100_neg.mpr h
    rw [← ey] at u
    simp only [ge_iff_le, Int32.lt_iff_toInt_lt, Int32.le_iff_toInt_le, t0] at c u
    omega
  simp only [Int32.lt_iff_toInt_lt, t0] at p
  have b2 := Int.tmod_lt_of_pos x.toInt (b := 100) (by decide)
  have b1 := Int.tmod_nonneg 100 (a := x.toInt) (by omega)
  exact nat_rng (by rw [r]; omega)
theorem fm100_b {x z y q : Int32} (ez : z = x - x / 100 * 100) (ey : y = x ^^^ 100) (c : ¬ y ≥ 0) (n : ¬ z = 0) (eq : q = z + 100) : ∃ k : Nat, k ≤ 99 ∧ q = nI k := by
  have r := rem100 ez
  have t0 : (0 : Int32).toInt = 0 := by decide
  have t1 : (100 : Int32).toInt = 100 := by decide
  have p : x < 0 := xor100_neg.mp (by
    rw [← ey]
    simp only [ge_iff_le, Int32.lt_iff_toInt_lt, Int32.le_iff_toInt_le, t0] at c ⊢
    omega)
  simp only [Int32.lt_iff_toInt_lt, t0] at p
  have n0 : ¬ z.toInt = 0 := fun h => n (Int32.toInt_inj.mp (h.trans t0.symm))
  have b1 := Int.lt_tmod_of_pos x.toInt (b := 100) (by decide)
  have d : x.toInt = 100 * (x.toInt.tdiv 100) + x.toInt.tmod 100 := (Int.mul_tdiv_add_tmod x.toInt 100).symm
  have b2 : x.toInt.tmod 100 ≤ 0 := by
    have := Int.tmod_nonneg 100 (a := -x.toInt) (by omega)
    rw [Int.neg_tmod] at this
    omega
  refine nat_rng ?_
  rw [eq, Int32.toInt_add, t1, r, Int.bmod_eq_of_le (by omega) (by omega)]
  omega
theorem t_fm100 {x : Int32} : Tt (F_J9_floorMod_7cf53 x 100) (fun r => ∃ k : Nat, k ≤ 99 ∧ r = nI k) := by
  unfold F_J9_floorMod_7cf53
  refine tt_nz (by decide) (tt_ite (fun c => tt_some (fm100_a rfl rfl c)) (fun c => tt_ite (fun n => tt_some ⟨0, by decide, n⟩) (fun n => tt_some (fm100_b rfl rfl c n rfl))))
theorem t_bRead {p1 p2 : Int32} {f : Nat → Int32} : Tt (F_X0_read p1 p2 f) (fun _ => True) := by
  unfold F_X0_read
  refine tt_ite (fun _ => tt_some trivial) (fun a1 => tt_ite (fun _ => tt_some trivial) (fun a2 => tt_bd1 t_fm100 (fun r hr => ?_)))
  obtain ⟨a, ha, rfl⟩ := nnI (n := 3) (by decide) a1 a2
  obtain ⟨k, hk, rfl⟩ := hr
  rw [show (3 : Int32) = nI 3 from rfl, nI_mul, nI_add]
  exact tt_ixn (by omega) (by decide) (tt_some trivial)
theorem t_bWrite {p1 p2 p3 p4 : Int32} {f : Nat → Int32} : Tt (F_X0_write p1 p2 p3 p4 f) (fun _ => True) := by
  unfold F_X0_write
  refine tt_bd1 t_fm100 (fun r hr => ?_)
  obtain ⟨k, hk, rfl⟩ := hr
  rw [show (3 : Int32) = nI 3 from rfl, show (1 : Int32) = nI 1 from rfl, show (2 : Int32) = nI 2 from rfl, nI_mul, nI_add, nI_add]
  exact tt_ixn (by omega) (by decide) (tt_nm (tt_ixn (by omega) (by decide) (tt_nm (tt_ixn (by omega) (by decide) (tt_nm (tt_some trivial))))))
theorem t_bCopy {f g : Nat → Int32} : Tt (F_X0_copyFrom f g) (fun _ => True) := by
  unfold F_X0_copyFrom
  exact tt_cp (by decide) (tt_nm (tt_some trivial))
theorem t_dNext {p1 : Int32} {x : Int64} : Tt (F_X1_next p1 x) (fun _ => True) := by
  unfold F_X1_next
  exact tt_ite (fun _ => tt_some trivial) (fun q => tt_nzL (l_ne0 q) (tt_some trivial))
theorem t_pickAct {p1 a b c d : Int32} {x : Int64} : Tt (F_X1_pickAct p1 x a b c d) (fun _ => True) := by
  unfold F_X1_pickAct
  repeat' (first | (with_reducible refine tt_some ?_) | (with_reducible refine tt_nm ?_) | (with_reducible refine tt_ite (fun _ => ?_) (fun _ => ?_)) | (with_reducible refine tt_bd1 (t_floorDiv ?_) (fun _ _ => ?_)) | (with_reducible refine tt_bd1 (t_floorMod ?_) (fun _ _ => ?_)) | (with_reducible refine tt_bd1 (t_hasSite) (fun _ _ => ?_)) | (with_reducible refine tt_bd1 (t_of) (fun _ _ => ?_)) | (with_reducible refine tt_bd1 (t_isReached) (fun _ _ => ?_)) | (with_reducible refine tt_bd1 (t_addRefusal) (fun _ _ => ?_)) | (with_reducible refine tt_bd1 (t_put) (fun _ _ => ?_)) | (with_reducible refine tt_bd1 (t_stepFrom) (fun _ _ => ?_)) | (with_reducible refine tt_bd1 (t_sites) (fun _ _ => ?_)) | (with_reducible refine tt_bd1 (t_total ?_ ?_) (fun _ _ => ?_)) | (with_reducible refine tt_bd1 (t_endRound ?_ ?_) (fun _ _ => ?_)) | (with_reducible refine tt_bd2 (t_addTo ?_ ?_) (fun _ _ _ => ?_)) | (with_reducible refine tt_bd1 (t_valueOf) (fun _ _ => ?_)) | (with_reducible refine tt_bd1 (t_allows) (fun _ _ => ?_)) | (with_reducible refine tt_bd1 (t_aloneToGoal ?_ ?_) (fun _ _ => ?_)) | (with_reducible refine tt_bd1 (t_shareOf) (fun _ _ => ?_)) | (with_reducible refine tt_bd1 (t_drift) (fun _ _ => ?_)) | (with_reducible refine tt_bd3 (t_balance ?_ ?_) (fun _ _ _ _ => ?_)) | (with_reducible refine tt_bd1 (t_hearPlaces ?_ ?_) (fun _ _ => ?_)) | (with_reducible refine tt_bd1 (t_bitCount) (fun _ _ => ?_)) | (with_reducible refine tt_bd2 (t_measureShares ?_ ?_) (fun _ _ _ => ?_)) | (with_reducible refine tt_bd1 (t_isAbove) (fun _ _ => ?_)) | (with_reducible refine tt_bd1 (t_isQuietDrift) (fun _ _ => ?_)) | (with_reducible refine tt_bd3 (t_canShare ?_ ?_) (fun _ _ _ _ => ?_)) | (with_reducible refine tt_bd1 (t_copyFrom) (fun _ _ => ?_)) | (with_reducible refine tt_bd1 (t_shift) (fun _ _ => ?_)) | (with_reducible refine tt_bd1 (t_isQuiet) (fun _ _ => ?_)) | (with_reducible refine tt_bd1 (t_isFrozen) (fun _ _ => ?_)) | (with_reducible refine tt_bd2 (t_noteAsked ?_) (fun _ _ _ => ?_)) | (with_reducible refine tt_bd1 (t_hearAll ?_ ?_) (fun _ _ => ?_)) | (with_reducible refine tt_bd7 (t_moveSite ?_ ?_) (fun _ _ _ _ _ _ _ _ => ?_)) | (with_reducible refine tt_bd2 (t_hearByHand ?_ ?_) (fun _ _ _ => ?_)) | (with_reducible refine tt_bd1 (t_startCounts ?_ ?_) (fun _ _ => ?_)) | (with_reducible refine tt_bd7 (t_doAct ?_ ?_ ?_) (fun _ _ _ _ _ _ _ _ => ?_)) | (with_reducible refine tt_bd1 (t_freezeRefusal) (fun _ _ => ?_)) | (with_reducible refine tt_bd1 (t_hasRoom) (fun _ _ => ?_)) | (with_reducible refine tt_bd1 (t_isQuietWith) (fun _ _ => ?_)) | (with_reducible refine tt_bd1 (t_isMovable) (fun _ _ => ?_)) | (with_reducible refine tt_bd1 (t_moveRefusal) (fun _ _ => ?_)) | (with_reducible refine tt_bd1 (t_point) (fun _ _ => ?_)) | (with_reducible refine tt_bd1 (t_pointValue) (fun _ _ => ?_)) | (with_reducible refine tt_bd1 (t_quietSites ?_ ?_) (fun _ _ => ?_)) | (with_reducible refine tt_bd1 (t_stands) (fun _ _ => ?_)) | (with_reducible refine tt_bd1 (t_setRefusal) (fun _ _ => ?_)) | (with_reducible refine tt_bd1 (t_refusal) (fun _ _ => ?_)) | (with_reducible refine tt_bd1 (t_slackLength) (fun _ _ => ?_)) | (with_reducible refine tt_bd1 (t_slackSites ?_ ?_) (fun _ _ => ?_)) | (with_reducible refine tt_bd1 (t_unmovedSites ?_ ?_) (fun _ _ => ?_)) | (with_reducible refine tt_bd1 (t_bRead) (fun _ _ => ?_)) | (with_reducible refine tt_bd1 (t_bWrite) (fun _ _ => ?_)) | (with_reducible refine tt_bd1 (t_bCopy) (fun _ _ => ?_)) | (with_reducible refine tt_bd2 (t_dNext) (fun _ _ _ => ?_)))
  all_goals (first | trivial | assumption | (simp [upd, *]; done))
/-- the history's rows, where the next is written, how many are held -/
def HsOK (h : Nat → Int32) (nx hd : Int32) : Prop := (∀ j, j < 40 → Rw (h (81 * j + 3))) ∧ (∃ a, a ≤ 39 ∧ nx = nI a) ∧ (∃ b, b ≤ 40 ∧ hd = nI b)
theorem Rw.to {x y : Int32} (h : Rw x) (e : y = x) : Rw y := by rw [e]; exact h
theorem t_hForget {p : Int32} : Tt (F_X2_forget p) (fun r => r = 0) := by
  exact tt_some rfl
theorem cp81 {a : Nat} (h : a ≤ 39) : nI a * 81 = nI (81 * a) := by rw [show (81 : Int32) = nI 81 from rfl, nI_mul, Nat.mul_comm]
theorem lit81 : (81 : Int32).toNatClampNeg = 81 := rfl
theorem litz : (0 : Int32).toNatClampNeg = 0 := rfl
theorem t_hKeep {h f : Nat → Int32} {nx hd : Int32} (hh : HsOK h nx hd) (hr : Rw (f 3)) : Tt (F_X2_keep h nx hd f) (fun x => HsOK x.1 x.2.1 x.2.2) := by
  unfold F_X2_keep
  obtain ⟨h1, ⟨a, ha, rfl⟩, ⟨b, hb, rfl⟩⟩ := hh
  rw [cp81 ha]
  refine tt_cp ⟨by decide, nI_pos (by omega), by decide, by decide, by rw [nI_clamp (by omega), lit81]; omega⟩ (tt_nm ?_)
  have hrows : ∀ j, j < 40 → Rw (va_cpy f h (0 : Int32).toNatClampNeg (nI (81 * a)).toNatClampNeg (81 : Int32).toNatClampNeg (81 * j + 3)) := by
    intro j hj
    rw [nI_clamp (by omega), lit81, litz]
    show Rw (if 81 * a ≤ 81 * j + 3 ∧ 81 * j + 3 < 81 * a + 81 then f (0 + (81 * j + 3 - 81 * a)) else h (81 * j + 3))
    by_cases e : j = a
    · rw [if_pos ⟨by omega, by omega⟩, show 0 + (81 * j + 3 - 81 * a) = 3 by omega]
      exact hr
    · rw [if_neg (by omega)]
      exact h1 j hj
  have hheld : ∃ c, c ≤ 40 ∧ minF (nI b + 1) 40 = nI c := by
    rw [nI_1, show (40 : Int32) = nI 40 from rfl]
    unfold minF
    by_cases q : nI 40 < nI (b + 1)
    · exact ⟨40, by decide, if_pos q⟩
    · have := mt (nI_ltI (a := 40) (b := b + 1) (by omega) (by omega)).mpr q
      exact ⟨b + 1, by omega, if_neg q⟩
  refine tt_ite (fun _ => tt_some ⟨hrows, ⟨0, by decide, rfl⟩, hheld⟩) (fun q => tt_some ⟨hrows, ⟨a + 1, ?_, nx1 rfl⟩, hheld⟩)
  rw [nI_1] at q
  have : a + 1 < 40 := lt_of_lit (by decide) (by omega) rfl q
  omega
theorem t_hBack {h f : Nat → Int32} {nx hd : Int32} (hh : HsOK h nx hd) (hr : Rw (f 3)) : Tt (F_X2_bringBack h nx hd f) (fun x => Rw (x.2.2.2 3) ∧ HsOK h x.2.1 x.2.2.1) := by
  unfold F_X2_bringBack
  have hh' := hh
  obtain ⟨h1, ⟨a, ha, rfl⟩, ⟨b, hb, rfl⟩⟩ := hh
  refine tt_ite (fun _ => tt_some ⟨hr, hh'⟩) (fun b0 => ?_)
  have bp : 1 ≤ b := Nat.pos_of_ne_zero (fun z => b0 (by rw [z]; rfl))
  have J : ∀ c, c ≤ 39 → Tt (J_X2_bringBack_28 h (nI c) (nI b) f) (fun x => Rw (x.2.2.2 3) ∧ HsOK h x.2.1 x.2.2.1) := by
    intro c hc
    unfold J_X2_bringBack_28
    rw [cp81 hc]
    refine tt_cp ⟨nI_pos (by omega), by decide, by decide, by rw [nI_clamp (by omega), lit81]; omega, by decide⟩ (tt_nm (tt_some ⟨?_, h1, ⟨c, hc, rfl⟩, ⟨b - 1, by omega, ?_⟩⟩))
    · rw [nI_clamp (by omega), lit81, litz]
      show Rw (if 0 ≤ 3 ∧ 3 < 0 + 81 then h (81 * c + (3 - 0)) else f 3)
      rw [if_pos (by decide)]
      exact h1 c (by omega)
    · exact (show nI b - nI 1 = nI (b - 1) from xsub bp)
  refine tt_ite (fun _ => J 39 (by decide)) (fun q => ?_)
  have ap : 0 < a := by
    have := mt (nI_leI (a := a) (b := 0) (by omega) (by omega)).mpr q
    omega
  rw [show nI a - 1 = nI (a - 1) from xsub (b := 1) ap]
  exact J (a - 1) (by omega)
/-- the scripts kept -/
def SkOK (co : Nat → Int32) (hd : Int32) : Prop := (∃ a, a ≤ 4 ∧ hd = nI a) ∧ (∀ j, j < 4 → ∃ c, c ≤ 12 ∧ co j = nI c)
theorem t_areFull {p : Int32} : Tt (F_X4_areFull p) (fun _ => True) := by
  unfold F_X4_areFull
  repeat' (first | (with_reducible refine tt_some ?_) | (with_reducible refine tt_nm ?_) | (with_reducible refine tt_ite (fun _ => ?_) (fun _ => ?_)) | (with_reducible refine tt_bd1 (t_floorDiv ?_) (fun _ _ => ?_)) | (with_reducible refine tt_bd1 (t_floorMod ?_) (fun _ _ => ?_)) | (with_reducible refine tt_bd1 (t_hasSite) (fun _ _ => ?_)) | (with_reducible refine tt_bd1 (t_of) (fun _ _ => ?_)) | (with_reducible refine tt_bd1 (t_isReached) (fun _ _ => ?_)) | (with_reducible refine tt_bd1 (t_addRefusal) (fun _ _ => ?_)) | (with_reducible refine tt_bd1 (t_put) (fun _ _ => ?_)) | (with_reducible refine tt_bd1 (t_stepFrom) (fun _ _ => ?_)) | (with_reducible refine tt_bd1 (t_sites) (fun _ _ => ?_)) | (with_reducible refine tt_bd1 (t_total ?_ ?_) (fun _ _ => ?_)) | (with_reducible refine tt_bd1 (t_endRound ?_ ?_) (fun _ _ => ?_)) | (with_reducible refine tt_bd2 (t_addTo ?_ ?_) (fun _ _ _ => ?_)) | (with_reducible refine tt_bd1 (t_valueOf) (fun _ _ => ?_)) | (with_reducible refine tt_bd1 (t_allows) (fun _ _ => ?_)) | (with_reducible refine tt_bd1 (t_aloneToGoal ?_ ?_) (fun _ _ => ?_)) | (with_reducible refine tt_bd1 (t_shareOf) (fun _ _ => ?_)) | (with_reducible refine tt_bd1 (t_drift) (fun _ _ => ?_)) | (with_reducible refine tt_bd3 (t_balance ?_ ?_) (fun _ _ _ _ => ?_)) | (with_reducible refine tt_bd1 (t_hearPlaces ?_ ?_) (fun _ _ => ?_)) | (with_reducible refine tt_bd1 (t_bitCount) (fun _ _ => ?_)) | (with_reducible refine tt_bd2 (t_measureShares ?_ ?_) (fun _ _ _ => ?_)) | (with_reducible refine tt_bd1 (t_isAbove) (fun _ _ => ?_)) | (with_reducible refine tt_bd1 (t_isQuietDrift) (fun _ _ => ?_)) | (with_reducible refine tt_bd3 (t_canShare ?_ ?_) (fun _ _ _ _ => ?_)) | (with_reducible refine tt_bd1 (t_copyFrom) (fun _ _ => ?_)) | (with_reducible refine tt_bd1 (t_shift) (fun _ _ => ?_)) | (with_reducible refine tt_bd1 (t_isQuiet) (fun _ _ => ?_)) | (with_reducible refine tt_bd1 (t_isFrozen) (fun _ _ => ?_)) | (with_reducible refine tt_bd2 (t_noteAsked ?_) (fun _ _ _ => ?_)) | (with_reducible refine tt_bd1 (t_hearAll ?_ ?_) (fun _ _ => ?_)) | (with_reducible refine tt_bd7 (t_moveSite ?_ ?_) (fun _ _ _ _ _ _ _ _ => ?_)) | (with_reducible refine tt_bd2 (t_hearByHand ?_ ?_) (fun _ _ _ => ?_)) | (with_reducible refine tt_bd1 (t_startCounts ?_ ?_) (fun _ _ => ?_)) | (with_reducible refine tt_bd7 (t_doAct ?_ ?_ ?_) (fun _ _ _ _ _ _ _ _ => ?_)) | (with_reducible refine tt_bd1 (t_freezeRefusal) (fun _ _ => ?_)) | (with_reducible refine tt_bd1 (t_hasRoom) (fun _ _ => ?_)) | (with_reducible refine tt_bd1 (t_isQuietWith) (fun _ _ => ?_)) | (with_reducible refine tt_bd1 (t_isMovable) (fun _ _ => ?_)) | (with_reducible refine tt_bd1 (t_moveRefusal) (fun _ _ => ?_)) | (with_reducible refine tt_bd1 (t_point) (fun _ _ => ?_)) | (with_reducible refine tt_bd1 (t_pointValue) (fun _ _ => ?_)) | (with_reducible refine tt_bd1 (t_quietSites ?_ ?_) (fun _ _ => ?_)) | (with_reducible refine tt_bd1 (t_stands) (fun _ _ => ?_)) | (with_reducible refine tt_bd1 (t_setRefusal) (fun _ _ => ?_)) | (with_reducible refine tt_bd1 (t_refusal) (fun _ _ => ?_)) | (with_reducible refine tt_bd1 (t_slackLength) (fun _ _ => ?_)) | (with_reducible refine tt_bd1 (t_slackSites ?_ ?_) (fun _ _ => ?_)) | (with_reducible refine tt_bd1 (t_unmovedSites ?_ ?_) (fun _ _ => ?_)) | (with_reducible refine tt_bd1 (t_bRead) (fun _ _ => ?_)) | (with_reducible refine tt_bd1 (t_bWrite) (fun _ _ => ?_)) | (with_reducible refine tt_bd1 (t_bCopy) (fun _ _ => ?_)) | (with_reducible refine tt_bd2 (t_dNext) (fun _ _ _ => ?_)) | (with_reducible refine tt_bd5 (t_pickAct) (fun _ _ _ _ _ _ => ?_)) | (with_reducible refine tt_bd1 (t_hForget) (fun _ _ => ?_)) | (with_reducible refine tt_bd3 (t_hKeep ?_ ?_) (fun _ _ _ _ => ?_)) | (with_reducible refine tt_bd4 (t_hBack ?_ ?_) (fun _ _ _ _ _ => ?_)))
  all_goals (first | trivial | assumption | (simp [upd, *]; done))
theorem t_sHas {p q : Int32} : Tt (F_X4_has p q) (fun r => ¬ r = 0 → ∃ a, a < 4 ∧ p = nI a) := by
  unfold F_X4_has
  refine tt_ite (fun _ => tt_some (fun z => absurd rfl z)) (fun a1 => tt_ite (fun _ => tt_some (fun z => absurd rfl z)) (fun _ => tt_ite (fun _ => tt_some (fun z => absurd rfl z)) (fun a2 => tt_some (fun _ => ?_))))
  exact nnI (n := 4) (by decide) a1 a2
theorem t_stepsOf {p hd : Int32} {co : Nat → Int32} (h : SkOK co hd) : Tt (F_X4_stepsOf p co hd) (fun r => (∃ c, c ≤ 12 ∧ r = nI c) ∧ (¬ r = 0 → ∃ a, a < 4 ∧ p = nI a)) := by
  unfold F_X4_stepsOf
  refine tt_bd1 t_sHas (fun r hr => tt_ite (fun _ => tt_some ⟨⟨0, by decide, rfl⟩, fun z => absurd rfl z⟩) (fun r0 => ?_))
  obtain ⟨a, ha, rfl⟩ := hr r0
  refine tt_ixn ha (by decide) (tt_some ⟨?_, fun _ => ⟨a, ha, rfl⟩⟩)
  rw [nI_clamp (by omega)]
  exact h.2 a ha
theorem t_sRead {p1 p2 p3 hd : Int32} {st co : Nat → Int32} (h : SkOK co hd) : Tt (F_X4_read p1 p2 p3 st co hd) (fun _ => True) := by
  unfold F_X4_read
  refine tt_ite (fun _ => tt_some trivial) (fun a1 => tt_bd1 (t_stepsOf h) (fun r hr => tt_ite (fun _ => tt_some trivial) (fun a2 => tt_ite (fun _ => tt_some trivial) (fun b1 => tt_ite (fun b2 => ?_) (fun _ => tt_some trivial)))))
  obtain ⟨⟨c, hc, rfl⟩, h2⟩ := hr
  obtain ⟨x, hx, rfl⟩ := nnI (n := c) (by omega) a1 a2
  obtain ⟨y, hy, rfl⟩ := nnI (n := 4) (by decide) b1 (lt_not.mp b2)
  obtain ⟨a, ha, rfl⟩ := h2 (fun z => by
    have : c = 0 := (nI_eq (a := c) (b := 0) (by omega) (by omega)).mp z
    omega)
  rw [show (48 : Int32) = nI 48 from rfl, show (4 : Int32) = nI 4 from rfl, nI_mul, nI_mul, nI_add, nI_add]
  exact tt_ixn (by omega) (by decide) (tt_some trivial)
theorem t_sortOf {p1 p2 hd : Int32} {st co : Nat → Int32} (h : SkOK co hd) : Tt (F_X4_sortOf p1 p2 st co hd) (fun _ => True) := by
  unfold F_X4_sortOf
  refine tt_bd1 (t_sRead h) (fun r _ => tt_ite (fun _ => tt_some trivial) (fun a1 => tt_ite (fun _ => tt_some trivial) (fun a2 => ?_)))
  obtain ⟨a, ha, rfl⟩ := nnI (n := 7) (by decide) a1 a2
  exact tt_ixn ha (by decide) (tt_some trivial)
end
