/-! Stage B, 20: the calls that act, in both -/
abbrev PubX : Type := Int32 × (Nat → Int32) × (Nat → Int32) × Int32 × Int32 × (Nat → Int32) × (Nat → Int32) × (Nat → Int32) × (Nat → Int32) × Int32 × Int32 × (Nat → Int32)
abbrev PubM : Type := Int32 × (Nat → Int32) × (Nat → Int32) × (Nat → Int32) × (Nat → Int32) × Int32 × Int32 × (Nat → Int32) × Int32 × (Nat → Int32) × Int32
/-- both answer the same, and what they leave says the same -/
def PubQ (n a : Nat) (X : Option PubX) (M : Option PubM) : Prop := ∃ (v ac' oc' as' ou' tk' : Int32) (a' hd' nx' : Nat) (f' g' bk' hr' kp' rf' mrf' P' A' sh' lo' sx' sy' : Nat → Int32), X = some (v, f', P', ac', oc', sh', lo', bk', hr', nI nx', nI hd', rf') ∧ M = some (v, g', mrf', sx', sy', as', ou', A', tk', kp', nI hd') ∧ ActR n a' hd' nx' f' g' bk' hr' kp' ∧ a' ≤ a + 1 ∧ ∀ i, i < 3 → rf' i = mrf' i
theorem nI_nn {m : Nat} (h : m < 2 ^ 31) : (0 : Int32) ≤ nI m := (nI_leI (a := 0) (b := m) (by omega) h).mpr (Nat.zero_le _)
theorem irr_1 {K : Nat} {x y z x' y' z' h5 ac oc : Int32} {f P sh lo bk hr rf : Nat → Int32} {nx hd : Int32} : F_X7_act K 1 x y z h5 f P ac oc sh lo bk hr nx hd rf = F_X7_act K 1 x' y' z' h5 f P ac oc sh lo bk hr nx hd rf := by
  have e1 : F_X5_refusal 1 x y z f = F_X5_refusal 1 x' y' z' f := by
    unfold F_X5_refusal
    obtain ⟨r, e, -⟩ := t_stands (f := f)
    rw [e, xb1, xb1]
    by_cases c : r = 0
    · rw [if_pos c, if_pos c]
    · rw [if_neg c, if_neg c, if_neg (show ¬ (1 : Int32) = 0 by decide), if_pos rfl, if_neg (show ¬ (1 : Int32) = 0 by decide), if_pos rfl]
  have e2 : F_X5_doAct K 1 x y z f P ac oc sh lo = F_X5_doAct K 1 x' y' z' f P ac oc sh lo := by
    unfold F_X5_doAct
    rw [if_neg (show ¬ (1 : Int32) = 0 by decide), if_pos rfl, if_neg (show ¬ (1 : Int32) = 0 by decide), if_pos rfl]
  unfold F_X7_act
  rw [e1, e2]
  simp only [if_true]
theorem irr_4 {K : Nat} {x y z z' h5 ac oc : Int32} {f P sh lo bk hr rf : Nat → Int32} {nx hd : Int32} : F_X7_act K 4 x y z h5 f P ac oc sh lo bk hr nx hd rf = F_X7_act K 4 x y z' h5 f P ac oc sh lo bk hr nx hd rf := by
  have e1 : F_X5_refusal 4 x y z f = F_X5_refusal 4 x y z' f := by
    unfold F_X5_refusal
    obtain ⟨r, e, -⟩ := t_stands (f := f)
    rw [e, xb1, xb1]
    by_cases c : r = 0
    · rw [if_pos c, if_pos c]
    · rw [if_neg c, if_neg c, if_neg (show ¬ (4 : Int32) = 0 by decide), if_neg (show ¬ (4 : Int32) = 1 by decide), if_neg (show ¬ (4 : Int32) = 2 by decide), if_neg (show ¬ (4 : Int32) = 3 by decide), if_pos rfl, if_neg (show ¬ (4 : Int32) = 0 by decide)]
  have e2 : F_X5_doAct K 4 x y z f P ac oc sh lo = F_X5_doAct K 4 x y z' f P ac oc sh lo := by
    unfold F_X5_doAct
    rw [if_neg (show ¬ (4 : Int32) = 0 by decide), if_neg (show ¬ (4 : Int32) = 1 by decide), if_neg (show ¬ (4 : Int32) = 2 by decide), if_neg (show ¬ (4 : Int32) = 3 by decide), if_pos rfl, if_neg (show ¬ (4 : Int32) = 0 by decide)]
  unfold F_X7_act
  rw [e1, e2]
theorem p_move {n a hd nx K : Nat} {f g bk hr kp rf mrf P A sh lo sx sy : Nat → Int32} {x y z ac oc as ou tk : Int32} (hK : 200000 ≤ K) (ha : a < 2 ^ 29) (h : ActR n a hd nx f g bk hr kp) (hrf : ∀ i, i < 3 → rf i = mrf i) : PubQ n a (F_X7_move K x y z f P ac oc sh lo bk hr (nI nx) (nI hd) rf) (F_X8_move K x y z g mrf (nI n) sx sy as ou A tk kp (nI hd)) := by
  obtain ⟨r, v, ac1, oc1, as1, ou1, tk1, a1, hd1, nx1, f1, g1, bk1, hr1, kp1, rf1, mrf1, P1, A1, sh1, lo1, sx1, sy1, e1, e2, q1, q2, q3, q4⟩ := hn_both (s := 0) (S := 0) (x := x) (y := y) (z := z) (no := -1) (P := P) (A := A) (sh := sh) (lo := lo) (sx := sx) (sy := sy) (ac := ac) (oc := oc) (as := as) (ou := ou) (tk := tk) rfl (by decide) hK ha h hrf
  have ev : v = r := by
    rcases q4 with ⟨w1, w2, -⟩ | ⟨-, w⟩
    · rw [w1, w2]
    · exact w.2.1 (Or.inl rfl)
  unfold F_X7_move F_X8_move
  rw [e1, e2, xb12, xb11, ev]
  exact ⟨_, _, _, _, _, _, _, _, _, _, _, _, _, _, _, _, _, _, _, _, _, _, rfl, rfl, q1, q2, q3⟩
theorem p_sync {n a hd nx K : Nat} {f g bk hr kp rf mrf P A sh lo sx sy : Nat → Int32} {ac oc as ou tk : Int32} (hK : 200000 ≤ K) (ha : a < 2 ^ 29) (h : ActR n a hd nx f g bk hr kp) (hrf : ∀ i, i < 3 → rf i = mrf i) : PubQ n a (F_X7_sync K f P ac oc sh lo bk hr (nI nx) (nI hd) rf) (F_X8_sync K g mrf (nI n) sx sy as ou A tk kp (nI hd)) := by
  obtain ⟨r, v, ac1, oc1, as1, ou1, tk1, a1, hd1, nx1, f1, g1, bk1, hr1, kp1, rf1, mrf1, P1, A1, sh1, lo1, sx1, sy1, e1, e2, q1, q2, q3, q4⟩ := hn_both (s := 1) (S := 1) (x := 0) (y := 0) (z := 0) (no := -1) (P := P) (A := A) (sh := sh) (lo := lo) (sx := sx) (sy := sy) (ac := ac) (oc := oc) (as := as) (ou := ou) (tk := tk) rfl (by decide) hK ha h hrf
  have ev : v = r := by
    rcases q4 with ⟨w1, w2, -⟩ | ⟨-, w⟩
    · rw [w1, w2]
    · exact w.2.1 (Or.inr (Or.inl rfl))
  unfold F_X7_sync F_X8_sync
  rw [irr_1 (x := -1) (y := 0) (z := 0) (x' := 0) (y' := 0) (z' := 0), e1, e2, xb12, xb11, ev]
  exact ⟨_, _, _, _, _, _, _, _, _, _, _, _, _, _, _, _, _, _, _, _, _, _, rfl, rfl, q1, q2, q3⟩
theorem p_add {n a hd nx K : Nat} {f g bk hr kp rf mrf P A sh lo sx sy : Nat → Int32} {x y ac oc as ou tk : Int32} (hK : 200000 ≤ K) (ha : a < 2 ^ 29) (h : ActR n a hd nx f g bk hr kp) (hrf : ∀ i, i < 3 → rf i = mrf i) : PubQ n a (F_X7_add K x y f P ac oc sh lo bk hr (nI nx) (nI hd) rf) (F_X8_add K x y g mrf (nI n) sx sy as ou A tk kp (nI hd)) := by
  obtain ⟨r, v, ac1, oc1, as1, ou1, tk1, a1, hd1, nx1, f1, g1, bk1, hr1, kp1, rf1, mrf1, P1, A1, sh1, lo1, sx1, sy1, e1, e2, q1, q2, q3, q4⟩ := hn_both (s := 4) (S := 4) (x := x) (y := y) (z := 0) (no := -1) (P := P) (A := A) (sh := sh) (lo := lo) (sx := sx) (sy := sy) (ac := ac) (oc := oc) (as := as) (ou := ou) (tk := tk) rfl (by decide) hK ha h hrf
  have ev : v = r := by
    rcases q4 with ⟨w1, w2, -⟩ | ⟨-, w⟩
    · rw [w1, w2]
    · exact w.2.1 (Or.inr (Or.inr rfl))
  unfold F_X7_add F_X8_add
  rw [e1, e2, xb12, xb11, ev]
  exact ⟨_, _, _, _, _, _, _, _, _, _, _, _, _, _, _, _, _, _, _, _, _, _, rfl, rfl, q1, q2, q3⟩
theorem p_bound {n a hd nx K : Nat} {f g bk hr kp rf mrf P A sh lo sx sy : Nat → Int32} {x ac oc as ou tk : Int32} (hK : 200000 ≤ K) (ha : a < 2 ^ 29) (h : ActR n a hd nx f g bk hr kp) (hrf : ∀ i, i < 3 → rf i = mrf i) : PubQ n a (F_X7_bound K x f P ac oc sh lo bk hr (nI nx) (nI hd) rf) (F_X8_bound K x g mrf (nI n) sx sy as ou A tk kp (nI hd)) := by
  obtain ⟨r, v, ac1, oc1, as1, ou1, tk1, a1, hd1, nx1, f1, g1, bk1, hr1, kp1, rf1, mrf1, P1, A1, sh1, lo1, sx1, sy1, e1, e2, q1, q2, q3, q4⟩ := hn_both (s := 2) (S := 2) (x := x) (y := 0) (z := 0) (no := -100000000) (P := P) (A := A) (sh := sh) (lo := lo) (sx := sx) (sy := sy) (ac := ac) (oc := oc) (as := as) (ou := ou) (tk := tk) rfl (by decide) hK ha h hrf
  unfold F_X7_bound F_X8_bound
  rw [e1, e2, xb12, xb11]
  rcases q4 with ⟨w1, w2, -⟩ | ⟨-, ⟨m, hm, w1⟩, -, w2, -⟩
  · rw [w1, w2, if_neg (by decide)]
    exact ⟨_, _, _, _, _, _, _, _, _, _, _, _, _, _, _, _, _, _, _, _, _, _, rfl, rfl, q1, q2, q3⟩
  · rw [w1, if_pos (nI_nn (by omega)), w2 rfl, show f 1 = g 65 from h.1.1.sc (1, 65) (by decide)]
    exact ⟨_, _, _, _, _, _, _, _, _, _, _, _, _, _, _, _, _, _, _, _, _, _, rfl, rfl, q1, q2, q3⟩
theorem p_law {n a hd nx K : Nat} {f g bk hr kp rf mrf P A sh lo sx sy : Nat → Int32} {x ac oc as ou tk : Int32} (hK : 200000 ≤ K) (ha : a < 2 ^ 29) (h : ActR n a hd nx f g bk hr kp) (hrf : ∀ i, i < 3 → rf i = mrf i) : PubQ n a (F_X7_law K x f P ac oc sh lo bk hr (nI nx) (nI hd) rf) (F_X8_law K x g mrf (nI n) sx sy as ou A tk kp (nI hd)) := by
  obtain ⟨r, v, ac1, oc1, as1, ou1, tk1, a1, hd1, nx1, f1, g1, bk1, hr1, kp1, rf1, mrf1, P1, A1, sh1, lo1, sx1, sy1, e1, e2, q1, q2, q3, q4⟩ := hn_both (s := 3) (S := 3) (x := x) (y := 0) (z := 0) (no := -1) (P := P) (A := A) (sh := sh) (lo := lo) (sx := sx) (sy := sy) (ac := ac) (oc := oc) (as := as) (ou := ou) (tk := tk) rfl (by decide) hK ha h hrf
  unfold F_X7_law F_X8_law
  rw [e1, e2, xb12, xb11]
  rcases q4 with ⟨w1, w2, -⟩ | ⟨-, ⟨m, hm, w1⟩, -, -, w2, -⟩
  · rw [w1, w2, if_neg (by decide)]
    exact ⟨_, _, _, _, _, _, _, _, _, _, _, _, _, _, _, _, _, _, _, _, _, _, rfl, rfl, q1, q2, q3⟩
  · rw [w1, if_pos (nI_nn (by omega)), w2 rfl, show f 0 = g 64 from h.1.1.sc (0, 64) (by decide)]
    exact ⟨_, _, _, _, _, _, _, _, _, _, _, _, _, _, _, _, _, _, _, _, _, _, rfl, rfl, q1, q2, q3⟩
theorem p_goal {n a hd nx K : Nat} {f g bk hr kp rf mrf P A sh lo sx sy : Nat → Int32} {x ac oc as ou tk : Int32} (hK : 200000 ≤ K) (ha : a < 2 ^ 29) (h : ActR n a hd nx f g bk hr kp) (hrf : ∀ i, i < 3 → rf i = mrf i) : PubQ n a (F_X7_goal K x f P ac oc sh lo bk hr (nI nx) (nI hd) rf) (F_X8_goal K x g mrf (nI n) sx sy as ou A tk kp (nI hd)) := by
  obtain ⟨r, v, ac1, oc1, as1, ou1, tk1, a1, hd1, nx1, f1, g1, bk1, hr1, kp1, rf1, mrf1, P1, A1, sh1, lo1, sx1, sy1, e1, e2, q1, q2, q3, q4⟩ := hn_both (s := 5) (S := 5) (x := x) (y := 0) (z := 0) (no := -1) (P := P) (A := A) (sh := sh) (lo := lo) (sx := sx) (sy := sy) (ac := ac) (oc := oc) (as := as) (ou := ou) (tk := tk) rfl (by decide) hK ha h hrf
  unfold F_X7_goal F_X8_goal
  rw [e1, e2, xb12, xb11]
  rcases q4 with ⟨w1, w2, -⟩ | ⟨-, ⟨m, hm, w1⟩, -, -, -, w2, -⟩
  · rw [w1, w2, if_neg (by decide)]
    exact ⟨_, _, _, _, _, _, _, _, _, _, _, _, _, _, _, _, _, _, _, _, _, _, rfl, rfl, q1, q2, q3⟩
  · rw [w1, if_pos (nI_nn (by omega)), w2 rfl, show f 2 = g 66 from h.1.1.sc (2, 66) (by decide)]
    exact ⟨_, _, _, _, _, _, _, _, _, _, _, _, _, _, _, _, _, _, _, _, _, _, rfl, rfl, q1, q2, q3⟩
theorem p_freeze {n a hd nx K : Nat} {f g bk hr kp rf mrf P A sh lo sx sy : Nat → Int32} {x ac oc as ou tk : Int32} (hK : 200000 ≤ K) (ha : a < 2 ^ 29) (h : ActR n a hd nx f g bk hr kp) (hrf : ∀ i, i < 3 → rf i = mrf i) : PubQ n a (F_X7_freeze K x f P ac oc sh lo bk hr (nI nx) (nI hd) rf) (F_X8_freeze K x g mrf (nI n) sx sy as ou A tk kp (nI hd)) := by
  obtain ⟨r, v, ac1, oc1, as1, ou1, tk1, a1, hd1, nx1, f1, g1, bk1, hr1, kp1, rf1, mrf1, P1, A1, sh1, lo1, sx1, sy1, e1, e2, q1, q2, q3, q4⟩ := hn_both (s := 6) (S := 6) (x := x) (y := 0) (z := 0) (no := -1) (P := P) (A := A) (sh := sh) (lo := lo) (sx := sx) (sy := sy) (ac := ac) (oc := oc) (as := as) (ou := ou) (tk := tk) rfl (by decide) hK ha h hrf
  unfold F_X7_freeze F_X8_freeze
  rw [e1, e2, xb12, xb11]
  rcases q4 with ⟨w1, w2, -⟩ | ⟨ok, ⟨m, hm, w1⟩, -, -, -, -, w2⟩
  · rw [w1, w2, if_neg (by decide)]
    exact ⟨_, _, _, _, _, _, _, _, _, _, _, _, _, _, _, _, _, _, _, _, _, _, rfl, rfl, q1, q2, q3⟩
  · obtain ⟨i, hi, rfl⟩ := ok.2.2.2.2.2 rfl
    have ev := w2 rfl i hi rfl
    have h0 : 0 < n := by omega
    rw [w1, if_pos (nI_nn (by omega)), fz_c q1.1.1.1 hi, xb1, ite10, ev]
    rcases (q1.1.2.1.2 h0).2.1 i hi with u | u
    · rw [if_neg (show ¬ g1 (76 + i) = 1 by rw [u]; decide), u]
      exact ⟨_, _, _, _, _, _, _, _, _, _, _, _, _, _, _, _, _, _, _, _, _, _, rfl, rfl, q1, q2, q3⟩
    · rw [if_pos u, u]
      exact ⟨_, _, _, _, _, _, _, _, _, _, _, _, _, _, _, _, _, _, _, _, _, _, rfl, rfl, q1, q2, q3⟩
