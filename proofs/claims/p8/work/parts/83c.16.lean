/-! Stage B, 16: an act that can be, in both -/
abbrev RowI (n : Nat) (g : Nat → Int32) : Prop := RowG g ∧ (0 < n → RowX n g ∧ RowF n g ∧ RowC n g)
theorem RowC.of {n : Nat} {g g' : Nat → Int32} (h : RowC n g) (n8 : n ≤ 8) (fr : ∀ k, ((48 ≤ k ∧ k < 64) ∨ k = 66 ∨ k = 73 ∨ k = 75) → g' k = g k) : RowC n g' := by
  obtain ⟨a, b, q, a1, a9, e66, b9, e73, hq, e75, hcs, hrs⟩ := h
  have e : st n g' = st n g := st_of (fr 66 (by omega)) (fr 73 (by omega))
  refine ⟨a, b, q, a1, a9, (fr 66 (by omega)).trans e66, b9, (fr 73 (by omega)).trans e73, hq, (fr 75 (by omega)).trans e75, fun j hj => ?_, fun j hj => ?_⟩
  · rw [fr (48 + j) (by omega)]
    exact hcs j hj
  · rw [fr (56 + j) (by omega), e]
    exact hrs j hj
theorem RowI.of {n : Nat} {g g' : Nat → Int32} (h : RowI n g) (n8 : n ≤ 8) (G : RowG g') (fr : ∀ k, (k < 16 ∨ (48 ≤ k ∧ k < 64) ∨ k = 66 ∨ k = 73 ∨ k = 75 ∨ (76 ≤ k ∧ k < 84)) → g' k = g k) : RowI n g' := by
  refine ⟨G, fun h0 => ?_⟩
  obtain ⟨hX, hF, hC⟩ := h.2 h0
  refine ⟨fun j hj => ?_, fun j hj => ?_, hC.of n8 (fun k hk => fr k (by omega))⟩
  · rw [fr (0 + j) (by omega), fr (8 + j) (by omega)]
    exact hX j hj
  · rw [fr (76 + j) (by omega)]
    exact hF j hj
theorem RowI.msg {n : Nat} {g : Nat → Int32} (h : RowI n g) (n8 : n ≤ 8) (v : Int32) : RowI n (upd g 67 v) := h.of n8 (h.1.of (upd_ne (by decide)) (upd_ne (by decide))) (fun k hk => upd_ne (by omega))
/-- what an act leaves, and what it tells: r messages, v the reference's answer -/
def DaQ (n s : Nat) (a : Int32) (g : Nat → Int32) (r v : Int32) (f' g' : Nat → Int32) : Prop := RowR n f' g' ∧ RowI n g' ∧ g' 67 = g 67 + r ∧ (∀ k, 84 ≤ k → g' k = g k) ∧ (∃ m, m ≤ 100 ∧ r = nI m) ∧ (s = 0 ∨ s = 1 ∨ s = 4 → v = r) ∧ (s = 2 → v = g 65) ∧ (s = 3 → v = g 64) ∧ (s = 5 → v = g 66) ∧ (s = 6 → ∀ i, i < n → a = nI i → v = g' (76 + i))
theorem hh_both {n K : Nat} {f g : Nat → Int32} (hK : 200000 ≤ K) (h : RowR n f g) (hI : RowI n g) (hl : ∃ a, a < 4 ∧ g 64 = nI a) : ∃ f' g', F_X5_hearByHand K f = some (nI (2 * n), f') ∧ F_X8_hearsAll K g (nI n) = some g' ∧ (2 : Int32) * nI n = nI (2 * n) ∧ RowR n f' g' ∧ RowI n g' ∧ ∀ k, (84 ≤ k ∨ k = 67) → g' k = g k := by
  have n8 := h.n8
  obtain ⟨f1, g1, e1, e2, R, G, fr⟩ := ha_both hK h.1 hl
  have e : (2 : Int32) * nI n = nI (2 * n) := by rw [show (2 : Int32) = nI 2 from rfl, nI_mul]
  refine ⟨f1, g1, ?_, e2, e, R, hI.of n8 G (fun k hk => fr k (by omega) (by omega) (by omega) (by omega)), fun k hk => fr k (by omega) (by omega) (by omega) (by omega)⟩
  unfold F_X5_hearByHand
  rw [e1, xb1, show f1 3 = nI n from R.1.2.1, e]
theorem RowR.msg {n : Nat} {f g : Nat → Int32} {r : Int32} (h : RowR n f g) : RowR n (upd f 11 (f 11 + r)) (upd g 67 (g 67 + r)) := h.fr11 _ _
theorem da_both {n K s : Nat} {f g P A sh lo sx sy : Nat → Int32} {S a b c ac oc as ou tk : Int32} (eS : S = nI s) (hs : s ≤ 6) (hK : 200000 ≤ K) (h : RowR n f g) (hI : RowI n g) (ok : ActOk n s a b c g) : ∃ (r v ac' oc' as' ou' : Int32) (f' g' P' A' sh' lo' sx' sy' : Nat → Int32), F_X5_doAct K S a b c f P ac oc sh lo = some (r, f', P', ac', oc', sh', lo') ∧ F_X8_doNow K S a b c g (nI n) sx sy as ou A tk = some (v, g', sx', sy', as', ou', A', r) ∧ DaQ n s a g r v f' g' := by
  have n8 := h.n8
  obtain ⟨h0, ok0, ok3, ok4, ok5, ok6⟩ := ok
  obtain ⟨hX, hF, hC⟩ := hI.2 h0
  unfold F_X5_doAct F_X8_doNow F_X8_doIt
  rw [eS]
  rcases (show s = 0 ∨ s = 1 ∨ s = 2 ∨ s = 3 ∨ s = 4 ∨ s = 5 ∨ s = 6 by omega) with rfl | rfl | rfl | rfl | rfl | rfl | rfl
  · obtain ⟨i, hi, rfl, -, -, x1, x2, -⟩ := ok0 rfl
    obtain ⟨r, o, m, f1, g1, P1, A1, sh1, lo1, sx1, sy1, e1, e2, -, -, R, G, hm, fr⟩ := mv_both (x := b) (y := c) (P := P) (A := A) (sh := sh) (lo := lo) (sx := sx) (sy := sy) (ac := ac) (oc := oc) (as := as) (ou := ou) hK h hI.1 hi
    rw [if_pos (by decide), if_pos (by decide), e1, e2, xb7, xb7, xnm, xb8, xnm]
    have fr2 : ∀ k, 16 ≤ k → mvG i b c g k = g k := fun k hk => by
      unfold mvG
      rw [upd_ne (by omega), upd_ne (by omega)]
    have I1 : RowI n g1 := by
      refine ⟨G, fun _ => ⟨fun j hj => ?_, fun j hj => ?_, hC.of n8 (fun k hk => ?_)⟩⟩
      · rw [fr (0 + j) (by omega) (by omega) (by omega) (by omega) (by omega) (by omega), fr (8 + j) (by omega) (by omega) (by omega) (by omega) (by omega) (by omega)]
        unfold mvG
        by_cases e : j = i
        · rw [e, upd_ne (show ¬ 0 + i = 8 + i by omega), upd_at, upd_at, upd_ne (show ¬ 8 + i = 0 + i by omega)]
          exact ⟨x1, x2⟩
        · rw [upd_ne (by omega), upd_ne (by omega), upd_ne (by omega), upd_ne (by omega)]
          exact hX j hj
      · rw [fr (76 + j) (by omega) (by omega) (by omega) (by omega) (by omega) (by omega), fr2 _ (by omega)]
        exact hF j hj
      · rw [fr k (by omega) (by omega) (by omega) (by omega) (by omega) (by omega), fr2 _ (by omega)]
    refine ⟨r, r, _, _, _, _, _, _, _, _, _, _, _, _, rfl, rfl, R.msg, I1.msg n8 _, by rw [upd_at, fr 67 (by omega) (by omega) (by omega) (by omega) (by omega) (by omega), fr2 _ (by omega)], fun k hk => ?_, hm, fun _ => rfl, by omega, by omega, by omega, by omega⟩
    rw [upd_ne (by omega), fr k (by omega) (by omega) (by omega) (by omega) (by omega) (by omega), fr2 _ (by omega)]
  · obtain ⟨f1, g1, e1, e2, e3, R, I1, fr⟩ := hh_both hK h hI hI.1.1
    rw [if_neg (by decide), if_pos (by decide), if_neg (by decide), if_pos (by decide), e1, e2, xb1, xb2, xnm, xb8, xnm, e3]
    exact ⟨_, _, _, _, _, _, _, _, _, _, _, _, _, _, rfl, rfl, R.msg, I1.msg n8 _, by rw [upd_at, fr 67 (Or.inr rfl)], fun k hk => (upd_ne (by omega)).trans (fr k (Or.inl hk)), ⟨2 * n, by omega, rfl⟩, fun _ => rfl, by omega, by omega, by omega, by omega⟩
  · have R0 : RowR n (upd f 1 a) (upd g 65 a) := h.scal (by decide) a
    have I0 : RowI n (upd g 65 a) := hI.of n8 (hI.1.of (upd_ne (by decide)) (upd_ne (by decide))) (fun k hk => upd_ne (by omega))
    obtain ⟨f1, g1, e1, e2, e3, R, I1, fr⟩ := hh_both hK R0 I0 I0.1.1
    unfold F_X8_setsAnd
    rw [if_neg (by decide), if_neg (by decide), if_pos (by decide), if_neg (by decide), if_neg (by decide), if_pos (by decide), xix (show vp_in (65 : Int32) 265 from nI_in (c := 65) (by decide) (by decide)), xix (show vp_in (65 : Int32) 265 from nI_in (c := 65) (by decide) (by decide)), xnm, xnm]
    rw [show (65 : Int32).toNatClampNeg = 65 by decide, e1, e2, xb1, xb2, xnm, xb3, xb8, xnm, e3]
    exact ⟨_, _, _, _, _, _, _, _, _, _, _, _, _, _, rfl, rfl, R.msg, I1.msg n8 _, by rw [upd_at, fr 67 (Or.inr rfl), upd_ne (by decide)], fun k hk => (upd_ne (by omega)).trans ((fr k (Or.inl hk)).trans (upd_ne (by omega))), ⟨2 * n, by omega, rfl⟩, by omega, fun _ => rfl, by omega, by omega, by omega⟩
  · obtain ⟨k3, hk3, ek3⟩ := in_nat (p := a) (n := 3) (by decide) (ok3 rfl)
    have R0 : RowR n (upd f 0 a) (upd g 64 a) := h.scal (by decide) a
    have I0 : RowI n (upd g 64 a) := hI.of n8 ⟨⟨k3, by omega, by rw [upd_at]; exact ek3⟩, by rw [upd_ne (by decide)]; exact hI.1.2⟩ (fun k hk => upd_ne (by omega))
    obtain ⟨f1, g1, e1, e2, e3, R, I1, fr⟩ := hh_both hK R0 I0 I0.1.1
    unfold F_X8_setsAnd
    rw [if_neg (by decide), if_neg (by decide), if_neg (by decide), if_pos (by decide), if_neg (by decide), if_neg (by decide), if_neg (by decide), if_pos (by decide), xix (show vp_in (64 : Int32) 265 from nI_in (c := 64) (by decide) (by decide)), xix (show vp_in (64 : Int32) 265 from nI_in (c := 64) (by decide) (by decide)), xnm, xnm]
    rw [show (64 : Int32).toNatClampNeg = 64 by decide, e1, e2, xb1, xb2, xnm, xb3, xb8, xnm, e3]
    exact ⟨_, _, _, _, _, _, _, _, _, _, _, _, _, _, rfl, rfl, R.msg, I1.msg n8 _, by rw [upd_at, fr 67 (Or.inr rfl), upd_ne (by decide)], fun k hk => (upd_ne (by omega)).trans ((fr k (Or.inl hk)).trans (upd_ne (by omega))), ⟨2 * n, by omega, rfl⟩, by omega, by omega, fun _ => rfl, by omega, by omega⟩
  · obtain ⟨i, hi, rfl, ⟨b1, b9⟩, hc, hr⟩ := ok4 rfl
    obtain ⟨k, hk9, rfl⟩ := in_nat (p := b) (n := 999) (by decide) ⟨Int32.le_trans (by decide) b1, b9⟩
    have hk1 : 1 ≤ k := (nI_leI (a := 1) (b := k) (by omega) (by omega)).mp b1
    have hcc : ∃ c, c + k ≤ 99999 ∧ g (48 + i) = nI c := by
      obtain ⟨-, -, -, -, -, -, -, -, -, -, hcs, -⟩ := id hC
      obtain ⟨c, hc9, ec⟩ := hcs i hi
      rw [ec, nI_add] at hc
      exact ⟨c, (nI_leI (a := c + k) (b := 99999) (by omega) (by omega)).mp hc, ec⟩
    obtain ⟨r, f1, g1, e1, e2, R, C1, hm, fr⟩ := ad_both hK h hC hi hk1 (by omega) hcc hr
    rw [if_neg (by decide), if_neg (by decide), if_neg (by decide), if_neg (by decide), if_pos (by decide), if_neg (by decide), if_neg (by decide), if_neg (by decide), if_neg (by decide), if_pos (by decide), e1, e2, xb2, xb2, xnm, xb8, xnm]
    have I1 : RowI n g1 := by
      refine ⟨hI.1.of (fr 64 (by omega) (by decide) (by decide) (by decide)) (fr 72 (by omega) (by decide) (by decide) (by decide)), fun _ => ⟨fun j hj => ?_, fun j hj => ?_, C1⟩⟩
      · rw [fr (0 + j) (by omega) (by omega) (by omega) (by omega), fr (8 + j) (by omega) (by omega) (by omega) (by omega)]
        exact hX j hj
      · rw [fr (76 + j) (by omega) (by omega) (by omega) (by omega)]
        exact hF j hj
    exact ⟨_, _, _, _, _, _, _, _, _, _, _, _, _, _, rfl, rfl, R.msg, I1.msg n8 _, by rw [upd_at, fr 67 (by omega) (by omega) (by omega) (by omega)], fun k hk => (upd_ne (by omega)).trans (fr k (by omega) (by omega) (by omega) (by omega)), hm, fun _ => rfl, by omega, by omega, by omega, by omega⟩
  · obtain ⟨a1, a9⟩ := ok5 rfl
    obtain ⟨k, hk9, rfl⟩ := in_nat (p := a) (n := 9999) (by decide) ⟨Int32.le_trans (by decide) a1, a9⟩
    have hk1 : 1 ≤ k := (nI_leI (a := 1) (b := k) (by omega) (by omega)).mp a1
    obtain ⟨f1, g1, e1, e2, R, fr, z66, z73, z75, zc⟩ := sg_both (p := nI k) hK h
    rw [if_neg (by decide), if_neg (by decide), if_neg (by decide), if_neg (by decide), if_neg (by decide), if_pos (by decide), if_neg (by decide), if_neg (by decide), if_neg (by decide), if_neg (by decide), if_neg (by decide), if_pos (by decide), e1, e2, xb1, xb2, xnm, xb8, xnm]
    have I1 : RowI n g1 := by
      refine ⟨hI.1.of (fr 64 (by omega) (by decide) (by decide) (by decide) (by decide)) (fr 72 (by omega) (by decide) (by decide) (by decide) (by decide)), fun _ => ⟨fun j hj => ?_, fun j hj => ?_, ?_⟩⟩
      · rw [fr (0 + j) (by omega) (by omega) (by omega) (by omega) (by omega), fr (8 + j) (by omega) (by omega) (by omega) (by omega) (by omega)]
        exact hX j hj
      · rw [fr (76 + j) (by omega) (by omega) (by omega) (by omega) (by omega)]
        exact hF j hj
      · exact ⟨k, 0, 0, hk1, by omega, z66, by omega, z73, h0, z75, fun j hj => ⟨0, by omega, (zc j hj).1⟩, fun j hj => ⟨0, (zc j hj).2, Or.inl rfl⟩⟩
    exact ⟨_, _, _, _, _, _, _, _, _, _, _, _, _, _, rfl, rfl, R.msg, I1.msg n8 _, by rw [upd_at, fr 67 (by omega) (by omega) (by omega) (by omega) (by omega)], fun k hk => (upd_ne (by omega)).trans (fr k (by omega) (by omega) (by omega) (by omega) (by omega)), ⟨0, by omega, rfl⟩, by omega, by omega, by omega, fun _ => rfl, by omega⟩
  · obtain ⟨i, hi, rfl⟩ := ok6 rfl
    have R := fr_both h hi (hF i hi)
    rw [if_neg (by decide), if_neg (by decide), if_neg (by decide), if_neg (by decide), if_neg (by decide), if_neg (by decide), if_pos (by decide), if_neg (by decide), if_neg (by decide), if_neg (by decide), if_neg (by decide), if_neg (by decide), if_neg (by decide), if_pos (by decide), xnm, xnm, bm_ix (a := 76) (by rfl) (by omega), bm_ix (a := 76) (by rfl) (by omega), xnm, bm_ix (a := 76) (by rfl) (by omega), xb8, xnm, bm_cl (a := 76) (by rfl) (by omega)]
    have I1 : RowI n (upd g (76 + i) (1 - g (76 + i))) := by
      refine ⟨hI.1.of (upd_ne (by omega)) (upd_ne (by omega)), fun _ => ⟨fun j hj => ?_, fun j hj => ?_, hC.of n8 (fun k hk => upd_ne (by omega))⟩⟩
      · rw [upd_ne (by omega), upd_ne (by omega)]
        exact hX j hj
      · by_cases e : j = i
        · rw [e, upd_at]
          rcases hF i hi with w | w
          · rw [w]
            exact Or.inr (by decide)
          · rw [w]
            exact Or.inl (by decide)
        · rw [upd_ne (by omega)]
          exact hF j hj
    refine ⟨_, _, _, _, _, _, _, _, _, _, _, _, _, _, rfl, rfl, R.msg, I1.msg n8 _, by rw [upd_at, upd_ne (by omega)], fun k hk => (upd_ne (by omega)).trans (upd_ne (by omega)), ⟨0, by omega, rfl⟩, by omega, by omega, by omega, by omega, fun _ j hj e => ?_⟩
    have e2 : i = j := (nI_eq (a := i) (b := j) (by omega) (by omega)).mp e
    rw [e2, upd_ne (show ¬ 76 + j = 67 by omega)]
