/-! a script's step in both readers -/
def hidI : Int32 := -100000000
/-- which step the word at b names -/
def skd (n : Nat) (sg : Nat → Int32) (b : Nat) : Int32 := if wd n sg 8 b = true then 0 else if wd n sg 9 b = true then 1 else if wd n sg 2 b = true then 2 else if wd n sg 1 b = true then 3 else if wd n sg 10 b = true then 4 else if wd n sg 3 b = true then 5 else if wd n sg 11 b = true then 6 else -1
abbrev okA (n : Nat) (sg : Nat → Int32) (b : Nat) : Prop := okN n sg (-9999999) 9999999 b
/-- a step at b: where it fails, or its end and its numbers -/
def stS (n : Nat) (sg : Nat → Int32) (b : Nat) : Nat ⊕ (Nat × Int32 × Int32 × Int32) :=
  if skd n sg b = -1 then .inl b
  else if skd n sg b = 4 then .inr (wE n sg b, hidI, hidI, hidI)
  else if skd n sg b = 3 then (if lw n sg (skp n sg (wE n sg b)) = -1 then .inl (skp n sg (wE n sg b)) else .inr (wE n sg (skp n sg (wE n sg b)), lw n sg (skp n sg (wE n sg b)), hidI, hidI))
  else if okA n sg (skp n sg (wE n sg b)) then (if 2 ≤ skd n sg b then .inr (dE n sg (skp n sg (wE n sg b)), nN n sg (skp n sg (wE n sg b)), hidI, hidI)
    else if sg (skp n sg (dE n sg (skp n sg (wE n sg b)))) = 44 then (if okA n sg (skp n sg (skp n sg (dE n sg (skp n sg (wE n sg b))) + 1)) then (if skd n sg b = 1 then .inr (dE n sg (skp n sg (skp n sg (dE n sg (skp n sg (wE n sg b))) + 1)), nN n sg (skp n sg (wE n sg b)), nN n sg (skp n sg (skp n sg (dE n sg (skp n sg (wE n sg b))) + 1)), hidI)
        else if sg (skp n sg (dE n sg (skp n sg (skp n sg (dE n sg (skp n sg (wE n sg b))) + 1)))) = 44 then (if okA n sg (skp n sg (skp n sg (dE n sg (skp n sg (skp n sg (dE n sg (skp n sg (wE n sg b))) + 1))) + 1)) then .inr (dE n sg (skp n sg (skp n sg (dE n sg (skp n sg (skp n sg (dE n sg (skp n sg (wE n sg b))) + 1))) + 1)), nN n sg (skp n sg (wE n sg b)), nN n sg (skp n sg (skp n sg (dE n sg (skp n sg (wE n sg b))) + 1)), nN n sg (skp n sg (skp n sg (dE n sg (skp n sg (skp n sg (dE n sg (skp n sg (wE n sg b))) + 1))) + 1))) else .inl (skp n sg (skp n sg (dE n sg (skp n sg (skp n sg (dE n sg (skp n sg (wE n sg b))) + 1))) + 1)))
        else .inl (skp n sg (dE n sg (skp n sg (skp n sg (dE n sg (skp n sg (wE n sg b))) + 1)))))
      else .inl (skp n sg (skp n sg (dE n sg (skp n sg (wE n sg b))) + 1)))
    else .inl (skp n sg (dE n sg (skp n sg (wE n sg b)))))
  else .inl (skp n sg (wE n sg b))
theorem c_stepOfWord {K n b : Nat} {sg bytes : Nat → Int32} (h : Sg n sg) (hb : TpC n sg bytes) (hK : 400 ≤ K) (hbn : b ≤ n) : F_X3_stepOfWord K bytes (nI n) (nI (wE n sg b)) (nI b) = some (skd n sg b) := by
  unfold F_X3_stepOfWord skd
  rw [c_isWord h hb hK hbn (by decide), xb1, c_isWord h hb hK hbn (by decide), xb1, c_isWord h hb hK hbn (by decide), xb1, c_isWord h hb hK hbn (by decide), xb1, c_isWord h hb hK hbn (by decide), xb1, c_isWord h hb hK hbn (by decide), xb1, c_isWord h hb hK hbn (by decide), xb1]
  by_cases z0 : wd n sg 8 b = true
  · rw [if_pos z0, if_pos z0]; rfl
  · rw [if_neg z0, if_neg z0, if_pos rfl]
    by_cases z1 : wd n sg 9 b = true
    · rw [if_pos z1, if_pos z1]; rfl
    · rw [if_neg z1, if_neg z1, if_pos rfl]
      by_cases z2 : wd n sg 2 b = true
      · rw [if_pos z2, if_pos z2]; rfl
      · rw [if_neg z2, if_neg z2, if_pos rfl]
        by_cases z3 : wd n sg 1 b = true
        · rw [if_pos z3, if_pos z3]; rfl
        · rw [if_neg z3, if_neg z3, if_pos rfl]
          by_cases z4 : wd n sg 10 b = true
          · rw [if_pos z4, if_pos z4]; rfl
          · rw [if_neg z4, if_neg z4, if_pos rfl]
            by_cases z5 : wd n sg 3 b = true
            · rw [if_pos z5, if_pos z5]; rfl
            · rw [if_neg z5, if_neg z5, if_pos rfl]
              by_cases z6 : wd n sg 11 b = true
              · rw [if_pos z6, if_pos z6]; rfl
              · rw [if_neg z6, if_neg z6]; rfl
/-- the step's word is one of seven, or none -/
theorem skd_cases {n b : Nat} {sg : Nat → Int32} (h : Sg n sg) (hbn : b ≤ n) : skd n sg b = -1 ∨ (∃ k, k < 7 ∧ skd n sg b = nI k) ∧ (97 ≤ sg b ∧ sg b ≤ 122) := by
  unfold skd
  by_cases z0 : wd n sg 8 b = true
  · rw [if_pos z0]; exact Or.inr ⟨⟨0, by decide, rfl⟩, wd_letter h hbn (by decide) z0⟩
  · rw [if_neg z0]
    by_cases z1 : wd n sg 9 b = true
    · rw [if_pos z1]; exact Or.inr ⟨⟨1, by decide, rfl⟩, wd_letter h hbn (by decide) z1⟩
    · rw [if_neg z1]
      by_cases z2 : wd n sg 2 b = true
      · rw [if_pos z2]; exact Or.inr ⟨⟨2, by decide, rfl⟩, wd_letter h hbn (by decide) z2⟩
      · rw [if_neg z2]
        by_cases z3 : wd n sg 1 b = true
        · rw [if_pos z3]; exact Or.inr ⟨⟨3, by decide, rfl⟩, wd_letter h hbn (by decide) z3⟩
        · rw [if_neg z3]
          by_cases z4 : wd n sg 10 b = true
          · rw [if_pos z4]; exact Or.inr ⟨⟨4, by decide, rfl⟩, wd_letter h hbn (by decide) z4⟩
          · rw [if_neg z4]
            by_cases z5 : wd n sg 3 b = true
            · rw [if_pos z5]; exact Or.inr ⟨⟨5, by decide, rfl⟩, wd_letter h hbn (by decide) z5⟩
            · rw [if_neg z5]
              by_cases z6 : wd n sg 11 b = true
              · rw [if_pos z6]; exact Or.inr ⟨⟨6, by decide, rfl⟩, wd_letter h hbn (by decide) z6⟩
              · rw [if_neg z6]; exact Or.inl rfl
theorem x4 : (4 : Int32) = nI 4 := by decide
theorem c_put {c i : Nat} {st : Nat → Int32} {v : Int32} (hc : c < 12) (hi : i < 4) : F_X3_putInStep (nI i) v st (nI c) = some (upd st (c * 4 + i) v) := by
  unfold F_X3_putInStep
  rw [x12, xle (by decide) (by omega), if_neg (by omega), if_neg (nI_pos (by omega)), x4, xle (by decide) (by omega), if_neg (by omega), nI_mul, nI_add, xixn (by omega) (by decide), xnm, nI_clamp (by omega)]
theorem c_startStep {K c : Nat} {st : Nat → Int32} {p : Int32} (hK : 400 ≤ K) (hc : c < 12) : F_X3_startStep K p st (nI c) = some (upd (upd (upd (upd st (c * 4 + 0) p) (c * 4 + 1) hidI) (c * 4 + 2) hidI) (c * 4 + 3) hidI) := by
  obtain ⟨k, rfl⟩ : ∃ k, K = k + 10 := ⟨K - 10, by omega⟩
  unfold F_X3_startStep
  rw [x0, c_put hc (by decide), xb1]
  have one : ∀ (i : Nat) (s0 : Nat → Int32), i < 4 → B_X3_startStep_8 (nI c) (nI i) s0 = some (.inl (nI (i + 1), upd s0 (c * 4 + i) hidI)) := fun i s0 hi => by
    unfold B_X3_startStep_8
    rw [x4, xle (by decide) (by omega), if_neg (by omega), c_put hc hi, xb1, nI_1]
    rfl
  rw [x1, lp_one (u' := ((nI 2, _) : Int32 × (Nat → Int32))) (one 1 _ (by decide)), lp_one (u' := ((nI 3, _) : Int32 × (Nat → Int32))) (one 2 _ (by decide)), lp_one (u' := ((nI 4, _) : Int32 × (Nat → Int32))) (one 3 _ (by decide)), lp_end (r := _) (by show B_X3_startStep_8 (nI c) (nI 4) _ = _; unfold B_X3_startStep_8; rw [x4, if_pos (by decide)])]
  rfl
/-- a number of a step: i is its place -/
theorem c_num {K n a c i k : Nat} {sg bytes st : Nat → Int32} {ws nu f : Int32} (h : Sg n sg) (hb : TpC n sg bytes) (hK : 400 ≤ K) (ha : a ≤ n) (hc : c < 12) (hi : i < 4) (hk : k < 7) (hk3 : ¬ k = 3) : (¬ okA n sg (skp n sg a) → ∃ x y, J_X3_readStep_67_r43 K (nI c) (nI n) bytes (nI k) (nI i) st (nI a) ws nu f = some (.inr (1, st, x, ws, y, nI (skp n sg a)))) ∧ (okA n sg (skp n sg a) → J_X3_readStep_67_r43 K (nI c) (nI n) bytes (nI k) (nI i) st (nI a) ws nu f = some (.inl (nI (i + 1), upd st (c * 4 + i) (nN n sg (skp n sg a)), nI (dE n sg (skp n sg a)), ws, nN n sg (skp n sg a), f))) := by
  unfold J_X3_readStep_67_r43
  obtain ⟨at', nu', E, A⟩ := c_readNumber (lo := -9999999) (hi := 9999999) (nu := nu) (f := f) h hb hK ha
  rw [x3, xeq (by omega) (by decide), if_neg hk3, E, xb4]
  refine ⟨fun q => ?_, fun q => ?_⟩
  · rw [if_neg q, if_neg q, if_pos rfl]
    exact ⟨at', nu', rfl⟩
  · obtain ⟨rfl, rfl⟩ := A q
    rw [if_pos q, if_pos q, if_neg (by decide), c_put hc hi, xb1, nI_1]
def nosN (k : Nat) : Nat := ([3, 2, 1, 1, 0, 1, 1] : List Nat).getD k 0
theorem nos_eq : ∀ k, k < 7 → nosF k = nI (nosN k) := by decide +kernel
theorem nos_le : ∀ k, k < 7 → nosN k ≤ 3 := by decide +kernel
theorem c_b1 {K n c k : Nat} {bytes st : Nat → Int32} {at' ws nu f : Int32} (hk : k < 7) (h1 : 1 ≤ nosN k) : B_X3_readStep_42 K (nI c) (nI n) bytes (nI k) (nI 1) st at' ws nu f = J_X3_readStep_67_r43 K (nI c) (nI n) bytes (nI k) (nI 1) st at' ws nu f := by
  have := nos_le k hk
  unfold B_X3_readStep_42
  rw [xixn (by omega) (by decide), nI_clamp (by omega), nos_eq k hk, xltn (by omega) (by decide), if_neg (by omega), x1, xle (by decide) (by decide), if_pos (by decide)]
theorem c_bN {K n c k i : Nat} {bytes st : Nat → Int32} {at' ws nu f : Int32} (hk : k < 7) (hi : 2 ≤ i) (h1 : i ≤ nosN k) : B_X3_readStep_42 K (nI c) (nI n) bytes (nI k) (nI i) st at' ws nu f = bd3 (F_X3_readSign K (44 : Int32) bytes (nI n) at' f) (fun r_41 w_42 w_43 => if r_41 = (0 : Int32) then some (.inr (0, st, w_42, ws, nu, w_43)) else J_X3_readStep_67_r43 K (nI c) (nI n) bytes (nI k) (nI i) st w_42 ws nu w_43) := by
  have := nos_le k hk
  unfold B_X3_readStep_42
  rw [xixn (by omega) (by decide), nI_clamp (by omega), nos_eq k hk, xltn (by omega) (by omega), if_neg (by omega), x1, xle (by omega) (by decide), if_neg (by omega)]
theorem c_bE {K n c k i : Nat} {bytes st : Nat → Int32} {at' ws nu f : Int32} (hk : k < 7) (hi : i < 5) (h1 : nosN k < i) : B_X3_readStep_42 K (nI c) (nI n) bytes (nI k) (nI i) st at' ws nu f = some (.inr (2, st, at', ws, nu, f)) := by
  have := nos_le k hk
  unfold B_X3_readStep_42
  rw [xixn (by omega) (by decide), nI_clamp (by omega), nos_eq k hk, xltn (by omega) (by omega), if_pos h1]
/-- a comma, then a number -/
theorem c_cnum {K n a c i k : Nat} {sg bytes st : Nat → Int32} {ws nu f : Int32} (h : Sg n sg) (hb : TpC n sg bytes) (hK : 400 ≤ K) (ha : a ≤ n) (hc : c < 12) (hi : 2 ≤ i) (hk : k < 7) (hk3 : ¬ k = 3) (h1 : i ≤ nosN k) :
    (¬ sg (skp n sg a) = 44 → ∃ x y, B_X3_readStep_42 K (nI c) (nI n) bytes (nI k) (nI i) st (nI a) ws nu f = some (.inr (0, st, x, ws, y, nI (skp n sg a)))) ∧
    (sg (skp n sg a) = 44 → ¬ okA n sg (skp n sg (skp n sg a + 1)) → ∃ x y, B_X3_readStep_42 K (nI c) (nI n) bytes (nI k) (nI i) st (nI a) ws nu f = some (.inr (1, st, x, ws, y, nI (skp n sg (skp n sg a + 1))))) ∧
    (sg (skp n sg a) = 44 → okA n sg (skp n sg (skp n sg a + 1)) → B_X3_readStep_42 K (nI c) (nI n) bytes (nI k) (nI i) st (nI a) ws nu f = some (.inl (nI (i + 1), upd st (c * 4 + i) (nN n sg (skp n sg (skp n sg a + 1))), nI (dE n sg (skp n sg (skp n sg a + 1))), ws, nN n sg (skp n sg (skp n sg a + 1)), f))) := by
  have := nos_le k hk
  rw [c_bN hk hi h1, c_readSign h hb hK ha]
  refine ⟨fun q => ?_, fun q z => ?_, fun q z => ?_⟩
  · rw [if_neg q, xb3, if_pos rfl]
    exact ⟨_, _, rfl⟩
  · have hl := sg44_lt h (by decide) q
    rw [if_pos q, xb3, if_neg (by decide)]
    exact (c_num h hb hK (by omega) hc (by omega) hk hk3).1 z
  · have hl := sg44_lt h (by decide) q
    rw [if_pos q, xb3, if_neg (by decide)]
    exact (c_num h hb hK (by omega) hc (by omega) hk hk3).2 z
def q4 (v0 v1 v2 v3 : Int32) (j : Nat) : Int32 := if j = 0 then v0 else if j = 1 then v1 else if j = 2 then v2 else v3
/-- a row with four numbers laid from t on -/
def l4 (st : Nat → Int32) (t : Nat) (v0 v1 v2 v3 : Int32) : Nat → Int32 := upd (upd (upd (upd st (t + 0) v0) (t + 1) v1) (t + 2) v2) (t + 3) v3
theorem l4_1 {st : Nat → Int32} {t : Nat} {v0 v1 v2 v3 w : Int32} : upd (l4 st t v0 v1 v2 v3) (t + 1) w = l4 st t v0 w v2 v3 := by
  funext j
  unfold l4 upd
  by_cases e3 : j = t + 3 <;> by_cases e2 : j = t + 2 <;> by_cases e1 : j = t + 1 <;> simp [e1, e2, e3]
theorem l4_2 {st : Nat → Int32} {t : Nat} {v0 v1 v2 v3 w : Int32} : upd (l4 st t v0 v1 v2 v3) (t + 2) w = l4 st t v0 v1 w v3 := by
  funext j
  unfold l4 upd
  by_cases e3 : j = t + 3 <;> by_cases e2 : j = t + 2 <;> by_cases e1 : j = t + 1 <;> simp [e1, e2, e3]
theorem l4_3 {st : Nat → Int32} {t : Nat} {v0 v1 v2 v3 w : Int32} : upd (l4 st t v0 v1 v2 v3) (t + 3) w = l4 st t v0 v1 v2 w := by
  funext j
  unfold l4 upd
  by_cases e3 : j = t + 3 <;> by_cases e2 : j = t + 2 <;> by_cases e1 : j = t + 1 <;> simp [e1, e2, e3]
abbrev TS6 : Type := Int32 × (Nat → Int32) × Int32 × Int32 × Int32 × Int32
abbrev RS6 : Type := Nat × (Nat → Int32) × Int32 × Int32 × Int32 × Int32
abbrev bS (K n c k : Nat) (bytes : Nat → Int32) : TS6 → Option (TS6 ⊕ RS6) := fun u9 => B_X3_readStep_42 K (nI c) (nI n) bytes (nI k) u9.1 u9.2.1 u9.2.2.1 u9.2.2.2.1 u9.2.2.2.2.1 u9.2.2.2.2.2
theorem s_bE {K n c k i : Nat} {bytes st : Nat → Int32} {at' ws nu f : Int32} (hk : k < 7) (hi : i < 5) (h1 : nosN k < i) : bS K n c k bytes (nI i, st, at', ws, nu, f) = some (.inr (2, st, at', ws, nu, f)) := c_bE hk hi h1
/-- where the loop over a step's numbers ends -/
def NumE (n : Nat) (sg st : Nat → Int32) (b c k : Nat) (f : Int32) (r : RS6) : Prop := (∀ p, stS n sg b = .inl p → r.1 < 2 ∧ r.2.2.2.2.2 = nI p) ∧ (∀ e v1 v2 v3, stS n sg b = .inr (e, v1, v2, v3) → r.1 = 2 ∧ r.2.2.2.2.2 = f ∧ r.2.2.1 = nI e ∧ r.2.1 = l4 st (c * 4) (nI k) v1 v2 v3)
theorem NumE.bad {n b c k p t : Nat} {sg st st' : Nat → Int32} {f x w y : Int32} (hs : stS n sg b = .inl p) (ht : t < 2) : NumE n sg st b c k f (t, st', x, w, y, nI p) := ⟨fun p' e => (by rw [hs] at e; cases e; exact ⟨ht, rfl⟩), fun e v1 v2 v3 q => by rw [hs] at q; cases q⟩
theorem NumE.good {n b c k e : Nat} {sg st : Nat → Int32} {f w y v1 v2 v3 : Int32} (hs : stS n sg b = .inr (e, v1, v2, v3)) : NumE n sg st b c k f (2, l4 st (c * 4) (nI k) v1 v2 v3, nI e, w, y, f) := ⟨fun p' q => (by rw [hs] at q; cases q), fun e v1 v2 v3 q => by rw [hs] at q; cases q; exact ⟨rfl, rfl, rfl, rfl⟩⟩
/-- the loop over a step's numbers: it ends with 2 (good) or less (bad), as stS says -/
theorem c_nums {K n b c k : Nat} {sg bytes st : Nat → Int32} {ws nu f : Int32} (h : Sg n sg) (hb : TpC n sg bytes) (hK : 400 ≤ K) (hbn : b ≤ n) (hc : c < 12) (hk : k < 7) (hsk : skd n sg b = nI k) : ∃ r, lpF (bS K n c k bytes) K (nI 1, l4 st (c * 4) (nI k) hidI hidI hidI, nI (wE n sg b), ws, nu, f) = some r ∧ NumE n sg st b c k f r := by
  obtain ⟨K', rfl⟩ : ∃ k, K = k + 10 := ⟨K - 10, by omega⟩
  have h3 := wE_le h hbn
  have h4 := skp_le h h3
  have h5 := dE_le h h4
  have h6 := skp_le h h5
  have km1 : ¬ nI k = -1 := nI_ne_m1 (by omega)
  have k4 : (nI k = 4) ↔ k = 4 := by rw [x4, nI_eq (by omega) (by decide)]
  have k3 : (nI k = 3) ↔ k = 3 := by rw [x3, nI_eq (by omega) (by decide)]
  have k1 : (nI k = 1) ↔ k = 1 := by rw [x1, nI_eq (by omega) (by decide)]
  have k2 : ((2 : Int32) ≤ nI k) ↔ 2 ≤ k := by rw [x2c, nI_leI (by decide) (by omega)]
  by_cases e4 : k = 4
  · exact ⟨_, lp_end (s_bE hk (by decide) (by rw [e4]; decide)), NumE.good (by unfold stS; rw [hsk, if_neg km1, if_pos (k4.mpr e4)])⟩
  · have m4 : ¬ nI k = 4 := fun z => e4 (k4.mp z)
    have n1 : 1 ≤ nosN k := by
      rcases (show k = 0 ∨ k = 1 ∨ k = 2 ∨ k = 3 ∨ k = 5 ∨ k = 6 by omega) with rfl | rfl | rfl | rfl | rfl | rfl <;> decide
    by_cases e3 : k = 3
    · obtain ⟨at', w', nu', E, A⟩ := c_readLaw (w := ws) (nu := nu) (f := f) h hb hK h3
      have bb : bS (K' + 10) n c k bytes (nI 1, l4 st (c * 4) (nI k) hidI hidI hidI, nI (wE n sg b), ws, nu, f) = (if (if lw n sg (skp n sg (wE n sg b)) = -1 then (0 : Int32) else 1) = 0 then some (.inr (1, l4 st (c * 4) (nI k) hidI hidI hidI, at', w', nu', if lw n sg (skp n sg (wE n sg b)) = -1 then nI (skp n sg (wE n sg b)) else f)) else bd1 (F_X3_putInStep (nI 1) nu' (l4 st (c * 4) (nI k) hidI hidI hidI) (nI c)) (fun w_39 => some (.inl (nI 1 + (1 : Int32), w_39, at', w', nu', if lw n sg (skp n sg (wE n sg b)) = -1 then nI (skp n sg (wE n sg b)) else f)))) := by
        show B_X3_readStep_42 (K' + 10) (nI c) (nI n) bytes (nI k) (nI 1) (l4 st (c * 4) (nI k) hidI hidI hidI) (nI (wE n sg b)) ws nu f = _
        rw [c_b1 hk n1]
        unfold J_X3_readStep_67_r43
        rw [if_pos (k3.mpr e3), E, xb5]
      by_cases y : lw n sg (skp n sg (wE n sg b)) = -1
      · rw [if_pos y, if_pos y, if_pos rfl] at bb
        exact ⟨_, lp_end bb, NumE.bad (by unfold stS; rw [hsk, if_neg km1, if_neg m4, if_pos (k3.mpr e3), if_pos y]) (by decide)⟩
      · obtain ⟨rfl, rfl⟩ := A y
        rw [if_neg y, if_neg y, if_neg (by decide), c_put hc (by decide), xb1, l4_1, nI_1] at bb
        exact ⟨_, (lp_one bb).trans (lp_end (s_bE hk (by decide) (by rw [e3]; decide))), NumE.good (by unfold stS; rw [hsk, if_neg km1, if_neg m4, if_pos (k3.mpr e3), if_neg y])⟩
    · have m3 : ¬ nI k = 3 := fun z => e3 (k3.mp z)
      have N := c_num (st := l4 st (c * 4) (nI k) hidI hidI hidI) (ws := ws) (nu := nu) (f := f) (i := 1) h hb hK h3 hc (by decide) hk e3
      by_cases y1 : okA n sg (skp n sg (wE n sg b))
      · have B1 : bS (K' + 10) n c k bytes (nI 1, l4 st (c * 4) (nI k) hidI hidI hidI, nI (wE n sg b), ws, nu, f) = some (.inl (nI 2, l4 st (c * 4) (nI k) (nN n sg (skp n sg (wE n sg b))) hidI hidI, nI (dE n sg (skp n sg (wE n sg b))), ws, nN n sg (skp n sg (wE n sg b)), f)) := by
          have B := (c_b1 hk n1).trans (N.2 y1)
          rw [l4_1] at B
          exact B
        by_cases g2 : 2 ≤ k
        · exact ⟨_, (lp_one B1).trans (lp_end (s_bE hk (by decide) (by rcases (show k = 2 ∨ k = 5 ∨ k = 6 by omega) with rfl | rfl | rfl <;> decide))), NumE.good (by unfold stS; rw [hsk, if_neg km1, if_neg m4, if_neg m3, if_pos y1, if_pos (k2.mpr g2)])⟩
        · have m2 : ¬ (2 : Int32) ≤ nI k := fun z => g2 (k2.mp z)
          have n2 : 2 ≤ nosN k := by rcases (show k = 0 ∨ k = 1 by omega) with rfl | rfl <;> decide
          have C2 := c_cnum (st := l4 st (c * 4) (nI k) (nN n sg (skp n sg (wE n sg b))) hidI hidI) (ws := ws) (nu := nN n sg (skp n sg (wE n sg b))) (f := f) (i := 2) h hb hK h5 hc (by decide) hk e3 n2
          by_cases q2 : sg (skp n sg (dE n sg (skp n sg (wE n sg b)))) = 44
          · have hl := sg44_lt h (by decide) q2
            have h7 := skp_le h (show skp n sg (dE n sg (skp n sg (wE n sg b))) + 1 ≤ n by omega)
            have h8 := dE_le h h7
            by_cases y2 : okA n sg (skp n sg (skp n sg (dE n sg (skp n sg (wE n sg b))) + 1))
            · have B2 : bS (K' + 10) n c k bytes (nI 2, l4 st (c * 4) (nI k) (nN n sg (skp n sg (wE n sg b))) hidI hidI, nI (dE n sg (skp n sg (wE n sg b))), ws, nN n sg (skp n sg (wE n sg b)), f) = some (.inl (nI 3, l4 st (c * 4) (nI k) (nN n sg (skp n sg (wE n sg b))) (nN n sg (skp n sg (skp n sg (dE n sg (skp n sg (wE n sg b))) + 1))) hidI, nI (dE n sg (skp n sg (skp n sg (dE n sg (skp n sg (wE n sg b))) + 1))), ws, nN n sg (skp n sg (skp n sg (dE n sg (skp n sg (wE n sg b))) + 1)), f)) := by
                have B := C2.2.2 q2 y2
                rw [l4_2] at B
                exact B
              by_cases g1 : k = 1
              · exact ⟨_, (lp_one B1).trans ((lp_one B2).trans (lp_end (s_bE hk (by decide) (by rw [g1]; decide)))), NumE.good (by unfold stS; rw [hsk, if_neg km1, if_neg m4, if_neg m3, if_pos y1, if_neg m2, if_pos q2, if_pos y2, if_pos (k1.mpr g1)])⟩
              · have m1 : ¬ nI k = 1 := fun z => g1 (k1.mp z)
                have e0 : k = 0 := by omega
                have C3 := c_cnum (st := l4 st (c * 4) (nI k) (nN n sg (skp n sg (wE n sg b))) (nN n sg (skp n sg (skp n sg (dE n sg (skp n sg (wE n sg b))) + 1))) hidI) (ws := ws) (nu := nN n sg (skp n sg (skp n sg (dE n sg (skp n sg (wE n sg b))) + 1))) (f := f) (i := 3) h hb hK h8 hc (by decide) hk e3 (by rw [e0]; decide)
                by_cases q3 : sg (skp n sg (dE n sg (skp n sg (skp n sg (dE n sg (skp n sg (wE n sg b))) + 1)))) = 44
                · by_cases y3 : okA n sg (skp n sg (skp n sg (dE n sg (skp n sg (skp n sg (dE n sg (skp n sg (wE n sg b))) + 1))) + 1))
                  · have B3 : bS (K' + 10) n c k bytes (nI 3, l4 st (c * 4) (nI k) (nN n sg (skp n sg (wE n sg b))) (nN n sg (skp n sg (skp n sg (dE n sg (skp n sg (wE n sg b))) + 1))) hidI, nI (dE n sg (skp n sg (skp n sg (dE n sg (skp n sg (wE n sg b))) + 1))), ws, nN n sg (skp n sg (skp n sg (dE n sg (skp n sg (wE n sg b))) + 1)), f) = some (.inl (nI 4, l4 st (c * 4) (nI k) (nN n sg (skp n sg (wE n sg b))) (nN n sg (skp n sg (skp n sg (dE n sg (skp n sg (wE n sg b))) + 1))) (nN n sg (skp n sg (skp n sg (dE n sg (skp n sg (skp n sg (dE n sg (skp n sg (wE n sg b))) + 1))) + 1))), nI (dE n sg (skp n sg (skp n sg (dE n sg (skp n sg (skp n sg (dE n sg (skp n sg (wE n sg b))) + 1))) + 1))), ws, nN n sg (skp n sg (skp n sg (dE n sg (skp n sg (skp n sg (dE n sg (skp n sg (wE n sg b))) + 1))) + 1)), f)) := by
                      have B := C3.2.2 q3 y3
                      rw [l4_3] at B
                      exact B
                    exact ⟨_, (lp_one B1).trans ((lp_one B2).trans ((lp_one B3).trans (lp_end (s_bE hk (by decide) (by rw [e0]; decide))))), NumE.good (by unfold stS; rw [hsk, if_neg km1, if_neg m4, if_neg m3, if_pos y1, if_neg m2, if_pos q2, if_pos y2, if_neg m1, if_pos q3, if_pos y3])⟩
                  · obtain ⟨x, y, B3⟩ := C3.2.1 q3 y3
                    exact ⟨_, (lp_one B1).trans ((lp_one B2).trans (lp_end (b := bS (K' + 10) n c k bytes) B3)), NumE.bad (by unfold stS; rw [hsk, if_neg km1, if_neg m4, if_neg m3, if_pos y1, if_neg m2, if_pos q2, if_pos y2, if_neg m1, if_pos q3, if_neg y3]) (by decide)⟩
                · obtain ⟨x, y, B3⟩ := C3.1 q3
                  exact ⟨_, (lp_one B1).trans ((lp_one B2).trans (lp_end (b := bS (K' + 10) n c k bytes) B3)), NumE.bad (by unfold stS; rw [hsk, if_neg km1, if_neg m4, if_neg m3, if_pos y1, if_neg m2, if_pos q2, if_pos y2, if_neg m1, if_neg q3]) (by decide)⟩
            · obtain ⟨x, y, B2⟩ := C2.2.1 q2 y2
              exact ⟨_, (lp_one B1).trans (lp_end (b := bS (K' + 10) n c k bytes) B2), NumE.bad (by unfold stS; rw [hsk, if_neg km1, if_neg m4, if_neg m3, if_pos y1, if_neg m2, if_pos q2, if_neg y2]) (by decide)⟩
          · obtain ⟨x, y, B2⟩ := C2.1 q2
            exact ⟨_, (lp_one B1).trans (lp_end (b := bS (K' + 10) n c k bytes) B2), NumE.bad (by unfold stS; rw [hsk, if_neg km1, if_neg m4, if_neg m3, if_pos y1, if_neg m2, if_neg q2]) (by decide)⟩
      · obtain ⟨x, y, B1⟩ := N.1 y1
        exact ⟨_, lp_end (b := bS (K' + 10) n c k bytes) ((c_b1 hk n1).trans B1), NumE.bad (by unfold stS; rw [hsk, if_neg km1, if_neg m4, if_neg m3, if_neg y1]) (by decide)⟩
theorem c_readStep {K n a c : Nat} {sg bytes st : Nat → Int32} {ws nu f : Int32} (h : Sg n sg) (hb : TpC n sg bytes) (hK : 400 ≤ K) (ha : a ≤ n) (hc : c < 12) : ∃ r st' at' ws' nu' f', F_X3_readStep K bytes (nI n) st (nI c) (nI a) ws nu f = some (r, st', at', ws', nu', f') ∧ (∀ p, stS n sg (skp n sg a) = .inl p → r = 0 ∧ f' = nI p) ∧ (∀ e v1 v2 v3, stS n sg (skp n sg a) = .inr (e, v1, v2, v3) → r = 1 ∧ f' = f ∧ at' = nI e ∧ st' = l4 st (c * 4) (skd n sg (skp n sg a)) v1 v2 v3) := by
  have h2 := skp_le h ha
  unfold F_X3_readStep
  rw [c_readWord h hb hK ha]
  generalize skp n sg a = b at h2 ⊢
  rcases skd_cases h h2 with q | ⟨⟨k, hk, q⟩, z⟩
  · have S : stS n sg b = .inl b := by unfold stS; rw [if_pos q]
    by_cases y : b < wE n sg b
    · rw [if_pos y, xb4, if_neg (by decide), c_stepOfWord h hb hK h2, xb1, q, if_pos (by decide)]
      refine ⟨_, _, _, _, _, _, rfl, fun p e => ?_, fun e v1 v2 v3 e2 => ?_⟩
      · rw [S] at e; cases e; exact ⟨rfl, rfl⟩
      · rw [S] at e2; cases e2
    · rw [if_neg y, xb4, if_pos rfl]
      refine ⟨_, _, _, _, _, _, rfl, fun p e => ?_, fun e v1 v2 v3 e2 => ?_⟩
      · rw [S] at e; cases e; exact ⟨rfl, rfl⟩
      · rw [S] at e2; cases e2
  · rw [if_pos ((wE_lt h h2).mpr z), xb4, if_neg (by decide), c_stepOfWord h hb hK h2, xb1, q, if_neg (nI_pos (by omega)), x7, xltn (by omega) (by decide), if_pos hk, c_startStep hK hc, xb1]
    obtain ⟨⟨t, st', at', ws', nu', f'⟩, E, A, B⟩ := c_nums (st := st) (ws := nI b) (nu := nu) (f := f) h hb hK h2 hc hk q
    rw [show lpF (fun u9 : Int32 × (Nat → Int32) × Int32 × Int32 × Int32 × Int32 => B_X3_readStep_42 K (nI c) (nI n) bytes (nI k) u9.1 u9.2.1 u9.2.2.1 u9.2.2.2.1 u9.2.2.2.2.1 u9.2.2.2.2.2) K ((1 : Int32), upd (upd (upd (upd st (c * 4 + 0) (nI k)) (c * 4 + 1) hidI) (c * 4 + 2) hidI) (c * 4 + 3) hidI, nI (wE n sg b), nI b, nu, f) = some (t, st', at', ws', nu', f') from E, xb6]
    cases hst : stS n sg b with
    | inl p =>
      obtain ⟨ht, rfl⟩ := A p hst
      rcases (show t = 0 ∨ t = 1 by omega) with rfl | rfl
      · refine ⟨_, _, _, _, _, _, rfl, fun p' e => ?_, fun e v1 v2 v3 e2 => by cases e2⟩
        cases e; exact ⟨rfl, rfl⟩
      · refine ⟨_, _, _, _, _, _, rfl, fun p' e => ?_, fun e v1 v2 v3 e2 => by cases e2⟩
        cases e; exact ⟨rfl, rfl⟩
    | inr x =>
      obtain ⟨e, v1, v2, v3⟩ := x
      obtain ⟨rfl, rfl, rfl, rfl⟩ := B e v1 v2 v3 hst
      refine ⟨_, _, _, _, _, _, rfl, fun p' e => (by cases e), fun e v1 v2 v3 e2 => ?_⟩
      cases e2
      exact ⟨rfl, rfl, rfl, rfl⟩
