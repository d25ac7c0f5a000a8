/-! the reference: scripts and the log -/
/-- the reference's scripts -/
def SlOK (lg : Nat → Int32) (c : Int32) : Prop := ∃ a, a ≤ 4 ∧ c = nI a ∧ ∀ j, j < a → ∃ l, l ≤ 12 ∧ lg j = nI l
theorem in_lt {p : Int32} {a : Nat} (ha : a ≤ 1000) (c : 0 ≤ p ∧ p ≤ nI a - 1) : ∃ b, b < a ∧ p = nI b := by
  have a0 : 0 < a := by
    rcases Nat.eq_zero_or_pos a with rfl | h
    · exact absurd (Int32.le_trans c.1 c.2) (by decide)
    · exact h
  rw [show nI a - 1 = nI (a - 1) from xsub (b := 1) a0] at c
  obtain ⟨b, hb, e⟩ := in_nat (n := a - 1) (by omega) c
  exact ⟨b, by omega, e⟩
theorem u_isScript {p c : Int32} {lg : Nat → Int32} (h : SlOK lg c) : Tt (F_X8_isScript p c) (fun r => ¬ r = 0 → ∃ b, (b < 4 ∧ ∃ l, l ≤ 12 ∧ lg b = nI l) ∧ p = nI b) := by
  unfold F_X8_isScript
  obtain ⟨a, ha, rfl, hl⟩ := h
  refine tt_bd1 (u_inN (lo := 0) (hi := nI a - 1) rfl rfl) (fun r hr => tt_some (fun r0 => ?_))
  obtain ⟨b, hb, e⟩ := in_lt (by omega) (hr r0)
  exact ⟨b, ⟨by omega, hl b hb⟩, e⟩
theorem u_step_ {p1 p2 p3 c : Int32} {sc lg : Nat → Int32} (h : SlOK lg c) : Tt (F_X8_step_ p1 p2 p3 sc lg c) (fun _ => True) := by
  unfold F_X8_step_
  refine tt_bd1 (u_isScript h) (fun r hr => tt_ite (fun _ => tt_some trivial) (fun r0 => ?_))
  obtain ⟨b, ⟨hb, l, hl, el⟩, rfl⟩ := hr r0
  rw [nI_clamp (show b < 2 ^ 31 by omega), el]
  refine tt_ixn (by omega) (by decide) (tt_bd1 (u_inN (lo := 0) (hi := nI l - 1) rfl rfl) (fun r hr => tt_ite (fun _ => tt_some trivial) (fun r1 => ?_)))
  obtain ⟨x, hx, rfl⟩ := in_lt (by omega) (hr r1)
  refine tt_bd1 (u_inN (lo := 0) (hi := 3) rfl rfl) (fun r hr => tt_ite (fun _ => tt_some trivial) (fun r2 => ?_))
  obtain ⟨y, hy, rfl⟩ := in_nat (n := 3) (by decide) (hr r2)
  rw [show (4 : Int32) * ((12 : Int32) * nI b + nI x) + nI y = nI (4 * (12 * b + x) + y) by rw [show (4 : Int32) = nI 4 from rfl, show (12 : Int32) = nI 12 from rfl, nI_mul, nI_add, nI_mul, nI_add]]
  exact tt_ixn (by omega) (by decide) (tt_some trivial)
theorem u_log {p1 p2 : Int32} {g : Nat → Int32} (h : LgOK (g 84)) : Tt (F_X8_log p1 p2 g) (fun _ => True) := by
  unfold F_X8_log
  obtain ⟨l, hl, el⟩ := h
  rw [el]
  refine tt_bd1 (u_inN (lo := 0) (hi := nI l - 1) rfl rfl) (fun r hr => tt_ite (fun _ => tt_some trivial) (fun r1 => ?_))
  obtain ⟨x, hx, rfl⟩ := in_lt (by omega) (hr r1)
  refine tt_bd1 (u_inN (lo := 0) (hi := 2) rfl rfl) (fun r hr => tt_ite (fun _ => tt_some trivial) (fun r2 => ?_))
  obtain ⟨y, hy, rfl⟩ := in_nat (n := 2) (by decide) (hr r2)
  rw [show (85 : Int32) + (3 : Int32) * (nI l - 1 - nI x) + nI y = nI (85 + 3 * (l - 1 - x) + y) by rw [show nI l - 1 = nI (l - 1) from xsub (b := 1) (by omega), xsub (show x ≤ l - 1 by omega), i85, nI_add]]
  exact tt_ixn (by omega) (by decide) (tt_some trivial)
theorem u_actOf {p : Int32} : Tt (F_X8_actOf p) (fun _ => True) := by
  unfold F_X8_actOf
  repeat' (first | (with_reducible refine tt_some ?_) | (with_reducible refine tt_nm ?_) | (with_reducible refine tt_ixn ?_ ?_ ?_) | (with_reducible refine tt_ite (fun _ => ?_) (fun _ => ?_)) | (with_reducible refine tt_bd1 (u_above) (fun _ _ => ?_)) | (with_reducible refine tt_bd1 (u_driftX ?_) (fun _ _ => ?_)) | (with_reducible refine tt_bd1 (u_driftY ?_) (fun _ _ => ?_)) | (with_reducible refine tt_bd1 (u_sum16 ?_ ?_) (fun _ _ => ?_)) | (with_reducible refine tt_bd1 (u_sum24 ?_ ?_) (fun _ _ => ?_)) | (with_reducible refine tt_bd1 (u_sum48 ?_ ?_) (fun _ _ => ?_)) | (with_reducible refine tt_bd1 (u_pointX ?_ ?_) (fun _ _ => ?_)) | (with_reducible refine tt_bd1 (u_pointY ?_ ?_) (fun _ _ => ?_)) | (with_reducible refine tt_bd1 (u_valueOf) (fun _ _ => ?_)) | (with_reducible refine tt_bd1 (u_isAllowed) (fun _ _ => ?_)) | (with_reducible refine tt_bd1 (u_isQuietBy ?_ ?_) (fun _ _ => ?_)) | (with_reducible refine tt_bd1 (u_isQuiet ?_ ?_ ?_) (fun _ _ => ?_)) | (with_reducible refine tt_bd1 (u_isFrozen ?_) (fun _ _ => ?_)) | (with_reducible refine tt_bd1 (u_has) (fun _ _ => ?_)) | (with_reducible refine tt_bd1 (u_bits ?_ ?_) (fun _ _ => ?_)) | (with_reducible refine tt_bd3 (u_shares ?_ ?_ ?_) (fun _ _ _ _ => ?_)) | (with_reducible refine tt_bd1 (u_takesShares ?_ ?_) (fun _ _ => ?_)) | (with_reducible refine tt_bd1 (u_hearsAll ?_ ?_) (fun _ _ => ?_)) | (with_reducible refine tt_bd7 (u_speaks ?_ ?_ ?_) (fun _ _ _ _ _ _ _ _ => ?_)) | (with_reducible refine tt_bd7 (u_movesNow ?_ ?_ ?_) (fun _ _ _ _ _ _ _ _ => ?_)) | (with_reducible refine tt_bd3 (u_sets65 ?_ ?_) (fun _ _ _ _ => ?_)) | (with_reducible refine tt_bd3 (u_sets64 ?_ ?_) (fun _ _ _ _ => ?_)) | (with_reducible refine tt_bd1 (u_step ?_ ?_) (fun _ _ => ?_)) | (with_reducible refine tt_bd1 (u_endsRound ?_ ?_) (fun _ _ => ?_)) | (with_reducible refine tt_bd2 (u_addsNow ?_ ?_ ?_ ?_) (fun _ _ _ => ?_)) | (with_reducible refine tt_bd2 (u_setsGoal ?_ ?_) (fun _ _ _ => ?_)) | (with_reducible refine tt_bd8 (u_doIt ?_ ?_ ?_ ?_ ?_) (fun _ _ _ _ _ _ _ _ _ => ?_)) | (with_reducible refine tt_bd8 (u_doNow ?_ ?_ ?_ ?_ ?_) (fun _ _ _ _ _ _ _ _ _ => ?_)) | (with_reducible refine tt_bd1 (u_note ?_ ?_) (fun _ _ => ?_)) | (with_reducible refine tt_bd1 (u_in) (fun _ _ => ?_)) | (with_reducible refine tt_bd1 (u_isWatch) (fun _ _ => ?_)) | (with_reducible refine tt_bd1 (u_isReached) (fun _ _ => ?_)) | (with_reducible refine tt_bd1 (u_frozenOnes ?_ ?_) (fun _ _ => ?_)) | (with_reducible refine tt_bd1 (u_sum0 ?_ ?_) (fun _ _ => ?_)) | (with_reducible refine tt_bd1 (u_sum8 ?_ ?_) (fun _ _ => ?_)) | (with_reducible refine tt_bd1 (u_sum32 ?_ ?_) (fun _ _ => ?_)) | (with_reducible refine tt_bd1 (u_sum40 ?_ ?_) (fun _ _ => ?_)) | (with_reducible refine tt_bd1 (u_pointValue ?_ ?_ ?_) (fun _ _ => ?_)) | (with_reducible refine tt_bd1 (u_slackOf ?_) (fun _ _ => ?_)) | (with_reducible refine tt_bd1 (u_isWay) (fun _ _ => ?_)) | (with_reducible refine tt_bd1 (u_quietOnes ?_ ?_) (fun _ _ => ?_)) | (with_reducible refine tt_bd1 (u_slackOnes ?_ ?_) (fun _ _ => ?_)) | (with_reducible refine tt_bd1 (u_stillOnes ?_ ?_) (fun _ _ => ?_)))
  all_goals trivial
abbrev GsI (n j : Nat) (u : Int32 × (Nat → Int32) × (Nat → Int32) × (Nat → Int32) × Int32 × Int32 × (Nat → Int32) × Int32 × (Nat → Int32) × Int32) : Prop := u.1 = nI j ∧ MI n u.2.1 u.2.2.2.2.1 u.2.2.2.2.2.2.2.2.1 u.2.2.2.2.2.2.2.2.2
abbrev GsR (n : Nat) (x : Nat × Int32 × (Nat → Int32) × (Nat → Int32) × (Nat → Int32) × Int32 × Int32 × (Nat → Int32) × Int32 × (Nat → Int32) × Int32) : Prop := x.1 < 2 ∧ MI n x.2.2.1 x.2.2.2.2.2.1 x.2.2.2.2.2.2.2.2.2.1 x.2.2.2.2.2.2.2.2.2.2
theorem u_goStepsB {K n j b l : Nat} {p2 x3 ad oc tk ac : Int32} {g sx sy ar kept sc lg : Nat → Int32} (hK : 200000 ≤ K) (hn : n ≤ 8) (hj : j ≤ 12) (hb : b < 4) (hl : l ≤ 12) (el : lg b = nI l) (hu : GsI n j (x3, g, sx, sy, ad, oc, ar, tk, kept, ac)) : Tt (B_X8_goSteps_2 K (nI b) p2 (nI n) sc lg x3 g sx sy ad oc ar tk kept ac) (Nx (GsI n) (GsR n) 12 j) := by
  obtain ⟨h1, h2⟩ := hu
  have h1 : x3 = nI j := h1
  have h2 : MI n g ad kept ac := h2
  have e0 : (4 : Int32) * ((12 : Int32) * nI b + nI j) = nI (4 * (12 * b + j)) := by rw [show (4 : Int32) = nI 4 from rfl, show (12 : Int32) = nI 12 from rfl, nI_mul, nI_add, nI_mul]
  unfold B_X8_goSteps_2
  rw [h1, e0, nI_clamp (show b < 2 ^ 31 by omega), el, show nI (4 * (12 * b + j)) + 1 = nI (4 * (12 * b + j) + 1) from nI_1 _, show nI (4 * (12 * b + j)) + 2 = nI (4 * (12 * b + j) + 2) from nI_add _ 2, show nI (4 * (12 * b + j)) + 3 = nI (4 * (12 * b + j) + 3) from nI_add _ 3]
  refine tt_ixn (by omega) (by decide) (tt_ite (fun _ => tt_some (nx_r ⟨Nat.lt_succ_self 1, h2⟩)) (fun q => ?_))
  have jl : j < l := lt_of_lit (by omega) (by omega) rfl q
  refine tt_ixn (by omega) (by decide) (tt_bd1 u_actOf (fun r4 _ => tt_ixn (by omega) (by decide) (tt_ixn (by omega) (by decide) (tt_ixn (by omega) (by decide) (tt_bd1 (u_whyNot hK hn) (fun r9 h9 => tt_ite (fun c => tt_ite (fun _ => ?_) (fun _ => ?_)) (fun _ => tt_some (nx_r ⟨Nat.zero_lt_succ 1, h2⟩))))))))
  · refine tt_ixn (by omega) (by decide) (tt_ixn (by omega) (by decide) (tt_ixn (by omega) (by decide) (tt_bd8 (u_doNow hK hn h2.1.2 h2.2.1 (h9.2 c)) (fun _ w _ _ _ _ _ _ hx => tt_some (nx_l (by omega) ⟨nx1 rfl, ⟨?_, hx.1.2⟩, hx.2, h2.2.2⟩)))))
    have hw : w 84 = g 84 := hx.1.1
    show LgOK (w 84)
    rw [hw]
    exact h2.1.1
  · exact tt_ixn (by omega) (by decide) (tt_ixn (by omega) (by decide) (tt_ixn (by omega) (by decide) (tt_bd10 (u_act hK hn h2 (h9.2 c)) (fun _ _ _ _ _ _ _ _ _ _ hx => tt_some (nx_l (by omega) ⟨nx1 rfl, hx⟩)))))
theorem u_goSteps {K n b : Nat} {p2 ad oc tk ac : Int32} {g sx sy ar kept sc lg : Nat → Int32} (hK : 200000 ≤ K) (hn : n ≤ 8) (hb : b < 4 ∧ ∃ l, l ≤ 12 ∧ lg b = nI l) (hm : MI n g ad kept ac) : Tt (F_X8_goSteps K (nI b) p2 sc lg g (nI n) sx sy ad oc ar tk kept ac) (fun x => MI n x.2.1 x.2.2.2.2.1 x.2.2.2.2.2.2.2.2.1 x.2.2.2.2.2.2.2.2.2) := by
  unfold F_X8_goSteps
  obtain ⟨hb, l, hl12, el⟩ := hb
  have s0 : GsI n 0 (0, g, sx, sy, ad, oc, ar, tk, kept, ac) := ⟨rfl, hm⟩
  refine tt_bd11 (P := GsR n) (tt_for (GsI n) 12 (by omega) s0 (fun j u hj hu => u_goStepsB hK hn hj hb hl12 el hu)) (fun t _ _ _ _ _ _ _ _ _ _ hx => tt_ite (fun _ => tt_some hx.2) (fun h0 => tt_ite (fun _ => tt_ixn (by omega) (by decide) (tt_some hx.2)) (fun h1 => ?_)))
  have ht : t < 2 := hx.1
  omega
theorem u_perform {K n : Nat} {p1 ad oc tk ac c : Int32} {g sx sy ar kept sc lg : Nat → Int32} (hK : 200000 ≤ K) (hn : n ≤ 8) (hl : SlOK lg c) (hm : MI n g ad kept ac) : Tt (F_X8_perform K p1 sc lg c g (nI n) sx sy ad oc ar tk kept ac) (fun x => MI n x.2.1 x.2.2.2.2.1 x.2.2.2.2.2.2.2.2.1 x.2.2.2.2.2.2.2.2.2) := by
  unfold F_X8_perform
  refine tt_bd1 (u_isScript hl) (fun r hr => tt_ite (fun _ => tt_some hm) (fun r0 => tt_bd1 u_isWatch (fun _ _ => tt_ite (fun _ => tt_some hm) (fun _ => ?_))))
  obtain ⟨b, hb, rfl⟩ := hr r0
  exact tt_bd10 (u_goSteps hK hn hb hm) (fun _ _ _ _ _ _ _ _ _ _ hx => tt_some hx)
