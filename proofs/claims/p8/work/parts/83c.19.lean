/-! Stage B, 19: acts by hand, in both -/
def ActR (n a hd nx : Nat) (f g bk hr kp : Nat → Int32) : Prop := KRow n bk a f g ∧ KeepR n a hd nx bk hr kp
/-- what an act tells -/
def TelQ (n s : Nat) (x : Int32) (g : Nat → Int32) (r v : Int32) (g' : Nat → Int32) : Prop := (∃ m, m ≤ 100 ∧ r = nI m) ∧ (s = 0 ∨ s = 1 ∨ s = 4 → v = r) ∧ (s = 2 → v = g 65) ∧ (s = 3 → v = g 64) ∧ (s = 5 → v = g 66) ∧ (s = 6 → ∀ i, i < n → x = nI i → v = g' (76 + i))
theorem at_both {n a hd nx K s : Nat} {f g bk hr kp rf P A sh lo sx sy : Nat → Int32} {S x y z h5 ac oc as ou tk : Int32} (eS : S = nI s) (hs : s ≤ 6) (hK : 200000 ≤ K) (ha : a < 2 ^ 29) (h : ActR n a hd nx f g bk hr kp) (er : F_X5_refusal S x y z f = some (-1)) (ok : ActOk n s x y z g) : ∃ (r v ac' oc' as' ou' : Int32) (hd' nx' : Nat) (f' g' bk' hr' kp' P' A' sh' lo' sx' sy' : Nat → Int32), F_X7_act K S x y z h5 f P ac oc sh lo bk hr (nI nx) (nI hd) rf = some (r, f', P', ac', oc', sh', lo', bk', hr', nI nx', nI hd', rf) ∧ F_X8_act K S x y z g (nI n) sx sy as ou A tk kp (nI hd) = some (v, g', sx', sy', as', ou', A', r, kp', nI hd') ∧ ActR n (a + 1) hd' nx' f' g' bk' hr' kp' ∧ TelQ n s x g r v g' := by
  obtain ⟨hw, hk⟩ := h
  obtain ⟨kp1, k1, k2, k3⟩ := kp_both hK hk hw
  have n8 := hw.1.n8
  obtain ⟨r, v, ac1, oc1, as1, ou1, f1, g1, P1, A1, sh1, lo1, sx1, sy1, d1, d2, R, I1, g67, fr, hm, v0, v2, v3, v5, v6⟩ := da_both (P := P) (A := A) (sh := sh) (lo := lo) (sx := sx) (sy := sy) (ac := ac) (oc := oc) (as := as) (ou := ou) (tk := tk) eS hs hK hw.1 hw.2.1 ok
  have f16 : f1 16 = nI a ∧ f1 11 = g1 67 := by
    obtain ⟨q, e, hq⟩ := e_doAct (p1 := S) (p2 := x) (p3 := y) (p4 := z) (ac := ac) (oc := oc) (f := f) (pa := P) (sh := sh) (lo := lo) hK ⟨n, n8, hw.1.sz⟩
    rw [d1] at e
    have e2 := Option.some.inj e
    rw [← e2] at hq
    exact ⟨hq.2.1.trans hw.2.2.1, by rw [g67, ← hw.2.2.2.2]; exact hq.2.2⟩
  obtain ⟨f16, f11⟩ := f16
  have L1 : LogR bk a g1 := hw.2.2.2.1.of (fun k q1 _ => fr k q1)
  have kw : ∀ {s' m' t' : Int32}, KeepR n (a + 1) (hdH hd) (nxH nx) (wrB bk a s' m' t') (va_cpy f hr 0 (81 * nx) 81) kp1 := fun {s' m' t'} => by
    obtain ⟨w1, w2, w3, w4⟩ := k3
    exact ⟨w1, w2, w3, fun d q => (w4 d q).wr (by omega) (by omega)⟩
  have fin : ∀ mm : Int32, ∃ g2, F_X8_note K S mm g1 r = some g2 ∧ (∃ f2, J_X7_act_103 mm S (f1 16) r f1 P1 ac1 oc1 sh1 lo1 bk (va_cpy f hr 0 (81 * nx) 81) (nI (nxH nx)) (nI (hdH hd)) rf = some (r, f2, P1, ac1, oc1, sh1, lo1, wrB bk a S mm r, va_cpy f hr 0 (81 * nx) 81, nI (nxH nx), nI (hdH hd), rf) ∧ ActR n (a + 1) (hdH hd) (nxH nx) f2 g2 (wrB bk a S mm r) (va_cpy f hr 0 (81 * nx) 81) kp1) ∧ ∀ k, k < 84 → g2 k = g1 k := by
    intro mm
    obtain ⟨g2, n1, n2, n3⟩ := nt_both (s := S) (m := mm) (t := r) hK L1
    refine ⟨g2, n1, ⟨upd f1 16 (nI (a + 1)), ?_, ⟨?_, I1.cg n8 n2, upd_at, n3, ?_⟩, kw⟩, n2⟩
    · unfold J_X7_act_103
      rw [f16, c_write (by omega), xb1, xnm, nI_1]
    · have R1 : RowR n (upd f1 16 (nI (a + 1))) g1 := by
        refine R.of (fun i c hi hc => ?_) (upd_ne (by decide)) (fun p hp => ?_) (upd_ne (by decide)) (upd_ne (by decide)) (upd_ne (by decide)) (fun _ _ => rfl) (fun _ _ _ => rfl)
        · rw [upd_ne (by omega)]
          exact R.1.2.2.1 i c hi hc
        · have q16 : ¬ p.1 = 16 := by
            revert p
            decide
          rw [upd_ne q16]
          exact R.sc p hp
      refine R1.of (fun i c hi hc => ?_) rfl (fun p hp => ?_) rfl rfl rfl (fun i hi => n2 _ (by omega)) (fun k q1 q2 => n2 k (by omega))
      · rw [n2 _ (by omega)]
        exact R1.1.2.2.1 i c hi hc
      · obtain ⟨-, -, -, -, -, b6, b7⟩ := rowScl_b p hp
        rw [n2 _ (by omega)]
        exact R1.sc p hp
    · rw [upd_ne (by decide), n2 67 (by decide)]
      exact f11
  unfold F_X7_act F_X8_act
  rw [er, xb1, if_pos rfl, k1, xb3, k2, xb2, d1, xb7, d2, xb8]
  by_cases c : S = 1
  · obtain ⟨g2, n1, ⟨f2, j1, j2⟩, n2⟩ := fin (-1)
    rw [if_pos c, if_pos c, j1, n1, xb1]
    exact ⟨_, _, _, _, _, _, _, _, _, _, _, _, _, _, _, _, _, _, _, rfl, rfl, j2, hm, v0, v2, v3, v5, fun w i hi e => by rw [n2 _ (by omega)]; exact v6 w i hi e⟩
  · obtain ⟨g2, n1, ⟨f2, j1, j2⟩, n2⟩ := fin x
    rw [if_neg c, if_neg c, j1, n1, xb1]
    exact ⟨_, _, _, _, _, _, _, _, _, _, _, _, _, _, _, _, _, _, _, rfl, rfl, j2, hm, v0, v2, v3, v5, fun w i hi e => by rw [n2 _ (by omega)]; exact v6 w i hi e⟩
theorem RowI.x {n : Nat} {g : Nat → Int32} (h : RowI n g) : RowX n g := fun j hj => (h.2 (by omega)).1 j hj
/-- an act by hand -/
theorem hn_both {n a hd nx K s : Nat} {f g bk hr kp rf mrf P A sh lo sx sy : Nat → Int32} {S x y z no ac oc as ou tk : Int32} (eS : S = nI s) (hs : s ≤ 6) (hK : 200000 ≤ K) (ha : a < 2 ^ 29) (h : ActR n a hd nx f g bk hr kp) (hrf : ∀ i, i < 3 → rf i = mrf i) : ∃ (r v ac' oc' as' ou' tk' : Int32) (a' hd' nx' : Nat) (f' g' bk' hr' kp' rf' mrf' P' A' sh' lo' sx' sy' : Nat → Int32), F_X7_act K S x y z 1 f P ac oc sh lo bk hr (nI nx) (nI hd) rf = some (r, f', P', ac', oc', sh', lo', bk', hr', nI nx', nI hd', rf') ∧ F_X8_hand K no S x y z g mrf (nI n) sx sy as ou A tk kp (nI hd) = some (v, g', mrf', sx', sy', as', ou', A', tk', kp', nI hd') ∧ ActR n a' hd' nx' f' g' bk' hr' kp' ∧ a' ≤ a + 1 ∧ (∀ i, i < 3 → rf' i = mrf' i) ∧ ((r = -1 ∧ v = no ∧ f' = f ∧ g' = g) ∨ (ActOk n s x y z g ∧ TelQ n s x g r v g')) := by
  obtain ⟨w, e1, e2, e3, e4⟩ := rf_both (a := x) (b := y) (c := z) eS hs hK h.1.1 h.1.2.1.x
  by_cases c : w = -1
  · rw [c] at e1 e2
    obtain ⟨r, v, ac1, oc1, as1, ou1, hd1, nx1, f1, g1, bk1, hr1, kp1, P1, A1, sh1, lo1, sx1, sy1, d1, d2, d3, d4⟩ := at_both (rf := rf) (P := P) (A := A) (sh := sh) (lo := lo) (sx := sx) (sy := sy) (h5 := 1) (ac := ac) (oc := oc) (as := as) (ou := ou) (tk := tk) eS hs hK ha h e1 (e4 c)
    unfold F_X8_hand
    rw [d1, e2, xb1, if_pos rfl, d2]
    exact ⟨_, _, _, _, _, _, _, a + 1, _, _, _, _, _, _, _, _, _, _, _, _, _, _, _, rfl, rfl, d3, Nat.le_refl _, hrf, Or.inr ⟨e4 c, d4⟩⟩
  · rcases e3 with e3 | ⟨i, hi, e3⟩
    · exact absurd e3 c
    · unfold F_X7_act F_X8_hand
      rw [e1, xb1, if_neg c, e2, xb1, if_neg c, if_neg (show ¬ (1 : Int32) = 0 by decide), e3, if_neg (nn0 (by omega)), if_neg (show ¬ (3 : Int32) ≤ nI i from mt (nI_leI (a := 3) (b := i) (by omega) (by omega)).mp (by omega)), xixn (by omega) (by decide), xixn (by omega) (by decide), xnm, xixn (by omega) (by decide), xixn (by omega) (by decide), xnm, nI_clamp (by omega)]
      refine ⟨_, _, _, _, _, _, _, a, _, _, _, _, _, _, _, _, _, _, _, _, _, _, _, rfl, rfl, h, Nat.le_succ _, fun j hj => ?_, Or.inl ⟨rfl, rfl, rfl, rfl⟩⟩
      by_cases e : j = i
      · rw [e, upd_at, upd_at, hrf i hi]
      · rw [upd_ne e, upd_ne e, hrf j hj]
