-- 83c.35
section
/-! Stage B, 35: goes, in both -/
theorem x_add {x : Int32} {a b : Nat} : x + nI a + nI b = x + nI (a + b) := by rw [Int32.add_assoc, nI_add]
theorem x_add0 {x : Int32} : x + nI 0 = x := by rw [show nI 0 = (0 : Int32) from rfl, Int32.add_zero]
/-- c times one is added, with m messages -/
def Gt (K n i c m : Nat) (g g' : Nat → Int32) : Prop := ∀ (x y : Int32) (J : Nat), lpF (fun u9 : Int32 × Int32 × (Nat → Int32) => B_X8_goes_36 K (nI i) (nI n) u9.1 u9.2.1 u9.2.2) (J + c) (x, y, g) = lpF (fun u9 : Int32 × Int32 × (Nat → Int32) => B_X8_goes_36 K (nI i) (nI n) u9.1 u9.2.1 u9.2.2) J (x + nI c, y + nI m, g')
theorem Gt.zero {K n i : Nat} {g : Nat → Int32} : Gt K n i 0 0 g g := fun x y J => by
  show lpF (fun u9 : Int32 × Int32 × (Nat → Int32) => B_X8_goes_36 K (nI i) (nI n) u9.1 u9.2.1 u9.2.2) J (x, y, g) = lpF (fun u9 : Int32 × Int32 × (Nat → Int32) => B_X8_goes_36 K (nI i) (nI n) u9.1 u9.2.1 u9.2.2) J (x + nI 0, y + nI 0, g)
  rw [x_add0, x_add0]
theorem Gt.trans {K n i c d m e : Nat} {g g' g2 : Nat → Int32} (h1 : Gt K n i c m g g') (h2 : Gt K n i d e g' g2) : Gt K n i (c + d) (m + e) g g2 := fun x y J => by
  rw [show J + (c + d) = J + d + c by omega, h1 x y (J + d), h2 _ _ J, x_add, x_add]
theorem Gt.one {K n i G k s r T m : Nat} {g0 g g' : Nat → Int32} (h : GD n i G k s r T g0 g) (hk : k < G) (hG : G < 2 ^ 30) (ha : F_X8_addsNow K (nI i) 1 g (nI n) = some (nI m, g')) : Gt K n i 1 m g g' := fun x y J => lp_one (by
  show B_X8_goes_36 K (nI i) (nI n) x y g = some (.inl (x + 1, y + nI m, g'))
  unfold B_X8_goes_36 F_X8_isReached
  rw [h.2.2.1, h.2.1, if_pos ((nI_ltI (a := k) (b := G) (by omega) (by omega)).mpr hk), xb1, if_pos rfl, ha, xb2])
theorem go_sig {n i G k s S K : Nat} {g0 : Nat → Int32} (hK : 200000 ≤ K) (hi : i < n) (hG : G ≤ 9999) (hk : k < G) (eS : (G - k) / (2 * n) = S) (hs : s < n) : ∀ d r T g, r + (d + 1) = S → T + (d + 1) < 2 ^ 30 → GD n i G k s r T g0 g → ∃ m k' s' g', Gt K n i (d + 1) m g g' ∧ GD n i G k' s' 0 (T + (d + 1)) g0 g' ∧ ((s + 1 < n ∧ m = 1 ∧ k' = k ∧ s' = s + 1) ∨ (s + 1 = n ∧ m = 1 + 2 * n ∧ k' = T + (d + 1) ∧ s' = 0)) := by
  intro d
  induction d with
  | zero =>
    intro r T g hr hT h
    rcases (show s + 1 < n ∨ s + 1 = n by omega) with c | c
    · obtain ⟨g', ha, h'⟩ := ad_one hK h hi (by omega) (by omega) (by omega) c
      exact ⟨1, k, s + 1, g', Gt.one h hk (by omega) ha, h', Or.inl ⟨c, rfl, rfl, rfl⟩⟩
    · obtain ⟨g', ha, h'⟩ := ad_end hK h hi (by omega) (by omega) (by omega) (by omega) c
      exact ⟨1 + 2 * n, T + 1, 0, g', Gt.one h hk (by omega) ha, h', Or.inr ⟨c, rfl, rfl, rfl⟩⟩
  | succ d ih =>
    intro r T g hr hT h
    obtain ⟨g1, ha, h1⟩ := ad_more hK h hi (by omega) (by omega) (by omega)
    obtain ⟨m, k', s', g', q1, q2, q3⟩ := ih (r + 1) (T + 1) g1 (by omega) (by omega) h1
    have q := (Gt.one h hk (by omega) ha).trans q1
    rw [show 1 + (d + 1) = d + 1 + 1 by omega, Nat.zero_add] at q
    rw [show T + 1 + (d + 1) = T + (d + 1 + 1) by omega] at q2 q3
    exact ⟨m, k', s', g', q, q2, q3⟩
theorem go_round {n i G k S K : Nat} {g0 : Nat → Int32} (hK : 200000 ≤ K) (hi : i < n) (hG : G ≤ 9999) (hk : k < G) (eS : (G - k) / (2 * n) = S) (hS : 0 < S) : ∀ e s r T g c, s + (e + 1) = n → r < S → c + r = (e + 1) * S → T + c < 2 ^ 30 → GD n i G k s r T g0 g → ∃ g', Gt K n i c (e + 1 + 2 * n) g g' ∧ GD n i G (T + c) 0 0 (T + c) g0 g' := by
  intro e
  induction e with
  | zero =>
    intro s r T g c hs hr hc hT h
    have e1 : (0 + 1) * S = S := by rw [Nat.zero_add, Nat.one_mul]
    rw [e1] at hc
    obtain ⟨d, rfl⟩ : ∃ d, c = d + 1 := ⟨c - 1, by omega⟩
    obtain ⟨m, k', s', g', q1, q2, q3⟩ := go_sig hK hi hG hk eS (by omega) d r T g (by omega) hT h
    rcases q3 with ⟨a, -⟩ | ⟨-, z1, z2, z3⟩
    · omega
    · rw [z1, show 1 + 2 * n = 0 + 1 + 2 * n by omega] at q1
      rw [z2, z3] at q2
      exact ⟨g', q1, q2⟩
  | succ e ih =>
    intro s r T g c hs hr hc hT h
    have e1 : (e + 1 + 1) * S = (e + 1) * S + S := Nat.succ_mul (e + 1) S
    rw [e1] at hc
    obtain ⟨d, hd⟩ : ∃ d, r + (d + 1) = S := ⟨S - r - 1, by omega⟩
    obtain ⟨m, k', s', g1, q1, q2, q3⟩ := go_sig hK hi hG hk eS (by omega) d r T g hd (by omega) h
    rcases q3 with ⟨a, z1, z2, z3⟩ | ⟨a, -⟩
    · rw [z1] at q1
      rw [z2, z3] at q2
      obtain ⟨g', p1, p2⟩ := ih (s + 1) 0 (T + (d + 1)) g1 ((e + 1) * S) (by omega) hS (Nat.add_zero _) (by omega) q2
      have q := q1.trans p1
      rw [show d + 1 + (e + 1) * S = c by omega, show 1 + (e + 1 + 2 * n) = e + 1 + 1 + 2 * n by omega] at q
      rw [show T + (d + 1) + (e + 1) * S = T + c by omega] at p2
      exact ⟨g', q, p2⟩
    · omega
theorem go_last {n i G s r K : Nat} {g0 : Nat → Int32} (hi : i < n) (hG : G ≤ 9999) : ∀ d k T g, k + d = G → G < k + 2 * n → GD n i G k s r T g0 g → ∃ g', Gt K n i d d g g' ∧ GD n i G G s r (T + d) g0 g' := by
  intro d
  induction d with
  | zero =>
    intro k T g hd _ h
    rw [show k = G by omega] at h
    exact ⟨g, Gt.zero, h⟩
  | succ d ih =>
    intro k T g hd hl h
    obtain ⟨g1, ha, h1⟩ := ad_zero (K := K) h hi (by omega) (by omega) (Nat.div_eq_of_lt (by omega))
    obtain ⟨g', q1, q2⟩ := ih (k + 1) (T + 1) g1 (by omega) (by omega) h1
    have q := (Gt.one h (by omega) (by omega) ha).trans q1
    rw [show 1 + d = d + 1 by omega] at q
    rw [show T + 1 + d = T + (d + 1) by omega] at q2
    exact ⟨g', q, q2⟩
theorem cs_stepV {n G b : Nat} {f : Nat → Int32} (h0 : 0 < n) (n8 : n ≤ 8) (f2 : f 2 = nI G) (f3 : f 3 = nI n) (hG : G < 2 ^ 30) (hb : b < 2 ^ 30) : F_X5_stepFrom (nI b) f = some (nI ((G - b) / (2 * n))) := by
  have e2 : (2 : Int32) * nI n = nI (2 * n) := by rw [show (2 : Int32) = nI 2 from rfl, nI_mul]
  have enz : ¬ nI (2 * n) = 0 := fun e => by
    have := (nI_eq (a := 2 * n) (b := 0) (by omega) (by omega)).mp e
    omega
  unfold F_X5_stepFrom
  rw [f3, f2, e2, if_neg (show ¬ nI (2 * n) ≤ (0 : Int32) from mt (nI_leI (a := 2 * n) (b := 0) (by omega) (by omega)).mp (by omega))]
  by_cases c : b < G
  · have ed : nI (G - b) / nI (2 * n) = nI ((G - b) / (2 * n)) := (Int32.ofNat_div (by omega) (by omega)).symm
    rw [if_pos ((nI_ltI (a := b) (b := G) (by omega) (by omega)).mpr c), xsub (by omega)]
    unfold nzI
    rw [if_neg enz, ed]
  · rw [if_neg (mt (nI_ltI (a := b) (b := G) (by omega) (by omega)).mp c), show G - b = 0 by omega, Nat.zero_div]
    rfl
/-- how both loops end -/
def GvQ (n i G K d : Nat) (f g0 : Nat → Int32) (u : Int32 × Int32 × Int32 × Int32 × Int32 × Int32) (x y : Int32) (g : Nat → Int32) : Prop := ∃ (kf xf yf : Nat) (g' : Nat → Int32), (∀ J, lpF (fun u9 : Int32 × Int32 × Int32 × Int32 × Int32 × Int32 × Int32 × Int32 => B_X5_aloneToGoal_50 f u9.1 u9.2.1 u9.2.2.1 u9.2.2.2.1 u9.2.2.2.2.1 u9.2.2.2.2.2.1 u9.2.2.2.2.2.2.1 u9.2.2.2.2.2.2.2) (J + (d + 1)) (u.1, u.2.1, u.2.2.1, u.2.2.2.1, x, y, u.2.2.2.2.1, u.2.2.2.2.2) = some (nI kf, x + nI xf, y + nI yf)) ∧ Gt K n i (xf + (G - kf)) (yf + (G - kf)) g g' ∧ (¬ g' 73 < g' 66) ∧ (∀ q, 84 ≤ q → g' q = g0 q) ∧ xf + (G - kf) ≤ 9999 * (d + 1) ∧ kf ≤ 999999
theorem go_stop {n i G K d j k s r T : Nat} {f g0 g : Nat → Int32} {x y : Int32} (hi : i < n) (hG : G ≤ 9999) (hk : k ≤ 990000) (z : (G - k) / (2 * n) = 0) (h : GD n i G k s r T g0 g) : GvQ n i G K d f g0 (nI k, nI T, nI r, nI s, nI ((G - k) / (2 * n)), nI j) x y g := by
  have B0 : (fun u9 : Int32 × Int32 × Int32 × Int32 × Int32 × Int32 × Int32 × Int32 => B_X5_aloneToGoal_50 f u9.1 u9.2.1 u9.2.2.1 u9.2.2.2.1 u9.2.2.2.2.1 u9.2.2.2.2.2.1 u9.2.2.2.2.2.2.1 u9.2.2.2.2.2.2.2) (nI k, nI T, nI r, nI s, x, y, nI ((G - k) / (2 * n)), nI j) = some (.inr (nI k, x, y)) := by
    show B_X5_aloneToGoal_50 f (nI k) (nI T) (nI r) (nI s) x y (nI ((G - k) / (2 * n))) (nI j) = some (.inr (nI k, x, y))
    unfold B_X5_aloneToGoal_50
    by_cases c : (9999 : Int32) ≤ nI j
    · rw [if_pos c]
    · rw [if_neg c, z, if_pos (show nI 0 ≤ (0 : Int32) by decide)]
  have L : ∀ J, lpF (fun u9 : Int32 × Int32 × Int32 × Int32 × Int32 × Int32 × Int32 × Int32 => B_X5_aloneToGoal_50 f u9.1 u9.2.1 u9.2.2.1 u9.2.2.2.1 u9.2.2.2.2.1 u9.2.2.2.2.2.1 u9.2.2.2.2.2.2.1 u9.2.2.2.2.2.2.2) (J + (d + 1)) (nI k, nI T, nI r, nI s, x, y, nI ((G - k) / (2 * n)), nI j) = some (nI k, x + nI 0, y + nI 0) := fun J => by
    rw [x_add0, x_add0]
    exact gpx0 (by omega) B0
  by_cases c : k < G
  · have lt : G - k < 2 * n := by
      rcases Nat.lt_or_ge (G - k) (2 * n) with a | a
      · exact a
      · exact absurd z (Nat.ne_of_gt (Nat.div_pos a (by omega)))
    obtain ⟨g', q1, q2⟩ := go_last (K := K) hi hG (G - k) k T g (by omega) (by omega) h
    refine ⟨k, 0, 0, g', L, ?_, ?_, q2.2.2.2.2.2.2, by omega, by omega⟩
    · rw [Nat.zero_add]
      exact q1
    · rw [q2.2.2.1, q2.2.1]
      exact mt (nI_ltI (a := G) (b := G) (by omega) (by omega)).mp (by omega)
  · refine ⟨k, 0, 0, g, L, ?_, ?_, h.2.2.2.2.2.2, by omega, by omega⟩
    · rw [show 0 + (G - k) = 0 by omega]
      exact Gt.zero
    · rw [h.2.2.1, h.2.1]
      exact mt (nI_ltI (a := k) (b := G) (by omega) (by omega)).mp (by omega)
theorem go_both {n i G K : Nat} {f g0 : Nat → Int32} (hK : 200000 ≤ K) (n8 : n ≤ 8) (hi : i < n) (hG : G ≤ 9999) (h2 : f 2 = nI G) (h3 : f 3 = nI n) : ∀ d j k s r T g x y, 10000 ≤ d + j → j ≤ T → (j = 0 ∨ k = T) → s < n → (r = 0 ∨ r < (G - k) / (2 * n)) → T ≤ 990000 → (j = 0 → T ≤ 900000) → k ≤ 990000 → GD n i G k s r T g0 g → GvQ n i G K d f g0 (nI k, nI T, nI r, nI s, nI ((G - k) / (2 * n)), nI j) x y g := by
  intro d
  induction d with
  | zero =>
    intro j k s r T g x y hd hj hjk hs hr hT hT0 hk h
    have z : (G - k) / (2 * n) = 0 := by rw [show G - k = 0 by omega, Nat.zero_div]
    exact go_stop hi hG hk z h
  | succ d ih =>
    intro j k s r T g x y hd hj hjk hs hr hT hT0 hk h
    by_cases z : (G - k) / (2 * n) = 0
    · exact go_stop hi hG hk z h
    · obtain ⟨S, eS⟩ : ∃ S, (G - k) / (2 * n) = S := ⟨_, rfl⟩
      have hkG : k < G := by
        rcases Nat.lt_or_ge k G with a | a
        · exact a
        · exact absurd (show (G - k) / (2 * n) = 0 by rw [show G - k = 0 by omega, Nat.zero_div]) z
      have m1 : 2 * n * ((G - k) / (2 * n)) ≤ G - k := Nat.mul_div_le (G - k) (2 * n)
      rw [eS] at z hr m1 ⊢
      have hS : 0 < S := by omega
      obtain ⟨e, he⟩ : ∃ e, s + (e + 1) = n := ⟨n - s - 1, by omega⟩
      have m2 : (e + 1) * S ≤ 2 * n * S := Nat.mul_le_mul_right S (by omega)
      have m3 : S ≤ (e + 1) * S := Nat.le_mul_of_pos_left S (by omega)
      have hrS : r < S := by omega
      obtain ⟨c, hc⟩ : ∃ c, c + r = (e + 1) * S := ⟨(e + 1) * S - r, by omega⟩
      have c9 : c ≤ 9999 := by omega
      have c1 : 1 ≤ c := by omega
      obtain ⟨g1, q1, q2⟩ := go_round hK hi hG hkG eS hS e s r T g c he hrS hc (by omega) h
      have ec : ((nI n - nI s) * nI S) - nI r = nI c := by rw [xsub (by omega), nI_mul, show n - s = e + 1 by omega, ← hc, xsub (by omega), Nat.add_sub_cancel]
      have em : (nI n - nI s) + (2 : Int32) * nI n = nI (e + 1 + 2 * n) := by rw [xsub (by omega), show n - s = e + 1 by omega, show (2 : Int32) = nI 2 from rfl, nI_mul, nI_add]
      have B1 : (fun u9 : Int32 × Int32 × Int32 × Int32 × Int32 × Int32 × Int32 × Int32 => B_X5_aloneToGoal_50 f u9.1 u9.2.1 u9.2.2.1 u9.2.2.2.1 u9.2.2.2.2.1 u9.2.2.2.2.2.1 u9.2.2.2.2.2.2.1 u9.2.2.2.2.2.2.2) (nI k, nI T, nI r, nI s, x, y, nI S, nI j) = some (.inl (nI (T + c), nI (T + c), nI 0, nI 0, x + nI c, y + nI (e + 1 + 2 * n), nI ((G - (T + c)) / (2 * n)), nI (j + 1))) := by
        show B_X5_aloneToGoal_50 f (nI k) (nI T) (nI r) (nI s) x y (nI S) (nI j) = some (.inl (nI (T + c), nI (T + c), (0 : Int32), (0 : Int32), x + nI c, y + nI (e + 1 + 2 * n), nI ((G - (T + c)) / (2 * n)), nI (j + 1)))
        unfold B_X5_aloneToGoal_50
        rw [if_neg (show ¬ (9999 : Int32) ≤ nI j from mt (nI_leI (a := 9999) (b := j) (by omega) (by omega)).mp (by omega)), if_neg (show ¬ nI S ≤ (0 : Int32) from mt (nI_leI (a := S) (b := 0) (by omega) (by omega)).mp (by omega)), h3, ec, em, nI_add, cs_stepV (by omega) n8 h2 h3 (by omega) (by omega), xb1, nI_1]
      obtain ⟨kf, xf, yf, g', L, W, nr, fr, bd, kb⟩ := ih (j + 1) (T + c) 0 0 (T + c) g1 (x + nI c) (y + nI (e + 1 + 2 * n)) (by omega) (by omega) (Or.inr rfl) (by omega) (Or.inl rfl) (by omega) (fun q => absurd q (by omega)) (by omega) q2
      have q := q1.trans W
      rw [show c + (xf + (G - kf)) = c + xf + (G - kf) by omega, show e + 1 + 2 * n + (yf + (G - kf)) = e + 1 + 2 * n + yf + (G - kf) by omega] at q
      refine ⟨kf, c + xf, e + 1 + 2 * n + yf, g', fun J => ?_, q, nr, fr, by omega, kb⟩
      rw [← x_add, ← x_add]
      exact (lp_one (j := J + (d + 1)) B1).trans (L J)
theorem mx_0 {a b : Nat} (ha : a < 2 ^ 30) (hb : b < 2 ^ 30) : maxF (nI a - nI b) (0 : Int32) = nI (a - b) := by
  unfold maxF
  have es : (nI a - nI b).toInt = (a : Int) - b := pk_sub_toInt ha hb
  by_cases c : a < b
  · rw [if_pos (show nI a - nI b < 0 by
      rw [Int32.lt_iff_toInt_lt, es]
      show (a : Int) - b < 0
      omega), show a - b = 0 by omega]
    rfl
  · rw [xsub (by omega), if_neg (nn0 (by omega))]
theorem p_goes {n K : Nat} {f g asd : Nat → Int32} {x y : Int32} (hK : 1000000000 ≤ K) (h : RowR n f g) (hI : RowI n g) : ∃ v asd', F_X7_goes K x y f = some v ∧ F_X8_goes K x y g (nI n) asd = some (v, g, asd') := by
  have n8 := h.n8
  have hK2 : 200000 ≤ K := by omega
  obtain ⟨r1, r2⟩ := re_both h
  unfold F_X7_goes F_X8_goes
  rcases hs_both (p := x) n8 h.sz with ⟨i, hi, rfl, c1, c2⟩ | ⟨-, c1, c2⟩
  · rw [c1, c2, xb1, xb1, if_neg n10, if_neg n10, m_in0 (m := 1) (by decide), xb1, ite10, rng_c]
    by_cases d : 0 ≤ y ∧ y ≤ nI 1
    · rw [if_pos (show 0 ≤ y ∧ y ≤ (1 : Int32) from d), if_pos d, r1, r2, xb1, xb1]
      by_cases c : g 73 < g 66
      · rw [if_pos c, if_pos rfl, if_pos rfl]
        obtain ⟨-, -, a, b, q, a1, a9, e66, b9, e73, hq, e75, hcs, hrs⟩ := hI.2 (by omega)
        obtain ⟨B, hB, eB⟩ := sgm_nat (a := fun j => g (48 + j)) n hcs
        obtain ⟨r, er, hr⟩ := hrs i hi
        have D0 : GD n i a b q r B g g := ⟨⟨f, h⟩, e66, e73, e75, er, eB, fun _ _ => rfl⟩
        rw [D0.stp (by omega) (by omega)] at hr
        have f2 : f 2 = nI a := (h.sc (2, 66) (by decide)).trans e66
        have f8 : f 8 = nI b := (h.sc (8, 73) (by decide)).trans e73
        have f9 : f 9 = nI q := (h.sc (9, 75) (by decide)).trans e75
        have e7 : f (17 + 8 * i + 7) = nI r := (h.1.2.2.1 i 7 hi (by decide)).trans er
        have t6 := (tot_both hK2 h (c := 6) (by decide)).1
        have t6 : F_X5_total K (6 : Int32) f = some (sgm (fun j => g (48 + j)) n) := t6
        obtain ⟨kf, xf, yf, g', L, W, nr, fr, bd, kb⟩ := go_both hK2 n8 hi a9 f2 h.sz 10000 0 b q r B g 0 0 (by omega) (Nat.zero_le _) (Or.inl rfl) hq hr (by omega) (fun _ => by omega) (by omega) D0
        have L1 := L (K - 10001)
        rw [show K - 10001 + (10000 + 1) = K by omega] at L1
        have L1 : lpF (fun u9 : Int32 × Int32 × Int32 × Int32 × Int32 × Int32 × Int32 × Int32 => B_X5_aloneToGoal_50 f u9.1 u9.2.1 u9.2.2.1 u9.2.2.2.1 u9.2.2.2.2.1 u9.2.2.2.2.2.1 u9.2.2.2.2.2.2.1 u9.2.2.2.2.2.2.2) K (nI b, nI B, nI r, nI q, (0 : Int32), (0 : Int32), nI ((a - b) / (2 * n)), (0 : Int32)) = some (nI kf, (0 : Int32) + nI xf, (0 : Int32) + nI yf) := L1
        have W1 := W 0 0 (K - (xf + (a - kf)))
        rw [Nat.sub_add_cancel (by omega), Int32.zero_add, Int32.zero_add] at W1
        have W2 : lpF (fun u9 : Int32 × Int32 × (Nat → Int32) => B_X8_goes_36 K (nI i) (nI n) u9.1 u9.2.1 u9.2.2) K ((0 : Int32), (0 : Int32), g) = some (nI (xf + (a - kf)), nI (yf + (a - kf)), g') := by
          refine W1.trans (gpx0 (by omega) ?_)
          show B_X8_goes_36 K (nI i) (nI n) (nI (xf + (a - kf))) (nI (yf + (a - kf))) g' = some (.inr (nI (xf + (a - kf)), nI (yf + (a - kf)), g'))
          unfold B_X8_goes_36 F_X8_isReached
          rw [if_neg nr, xb1, if_neg n10]
        have A : ∀ p, F_X5_aloneToGoal K (nI i) p f = some (if p = 0 then nI (xf + (a - kf)) else nI (yf + (a - kf))) := fun p => by
          unfold F_X5_aloneToGoal J_X5_aloneToGoal_136
          rw [t6, xb1, eB, bx_of (c := 7) (by rfl) (by omega) (by decide), xb1, e7, f8, cs_stepV (by omega) n8 f2 h.sz (by omega) (by omega), xb1, f9, L1, xb3, f2, mx_0 (by omega) (by omega), Int32.zero_add, Int32.zero_add, nI_add, nI_add]
          by_cases e : p = 0
          · rw [if_pos e, if_pos e]
          · rw [if_neg e, if_neg e]
        rw [m_aside hK2, xb1, W2, xb3, m_bring hK2 fr, xb1, A, A, xb1, xb1]
        obtain ⟨m, hm, rfl⟩ := in_lt (p := y) (a := 2) (by omega) (by rw [show nI 2 - 1 = nI 1 by decide]; exact d)
        rcases (show m = 0 ∨ m = 1 by omega) with e | e
        · rw [e, if_neg (show ¬ nI 0 = (1 : Int32) by decide), if_pos (show (0 : Int32) = 0 from rfl), if_pos (show nI 0 = (0 : Int32) from rfl)]
          exact ⟨_, _, rfl, rfl⟩
        · rw [e, if_pos (show nI 1 = (1 : Int32) from rfl), if_neg (show ¬ (1 : Int32) = 0 by decide), if_neg (show ¬ nI 1 = (0 : Int32) by decide)]
          exact ⟨_, _, rfl, rfl⟩
      · rw [if_neg c, if_neg n10, if_neg n10]
        exact ⟨_, _, rfl, rfl⟩
    · rw [if_neg (show ¬ (0 ≤ y ∧ y ≤ (1 : Int32)) from d), if_neg d]
      exact ⟨_, _, rfl, rfl⟩
  · rw [c1, c2, xb1, xb1, if_pos rfl, if_pos rfl]
    exact ⟨_, _, rfl, rfl⟩
end
-- 84a.sb0
section

/-! calls at an object of a class below the method's own; the texts' bytes -/
def wsC (own : String) (idx : Nat) (C : String) (y : MethodName) (ws : List Cond) : List Cond := ([.methodLink own idx y, .instanceMethod y, .selects C y y, .initialized y.cls] : List Cond) ++ ws
theorem cwC {R : Room} {s : State} {args : Array Value} {own C : String} {index maxL mc ms : Nat} {y : MethodName} {bytes : ByteArray} {ret : Option FieldType} {Ts ws ws' : List Cond} {rm : Room} (n : Nat) (ht : ∀ w ∈ Ts, w.before args s = true) (hT : GoodIn Ts (wsC own index C y ws)) (hw : ws = Cond.code y bytes maxL ret :: ws') (hrc : rm.cells = mc) (hrs : rm.slots = ms)
    (hd : y.cls ≠ "java/lang/invoke/MethodHandle" ∧ y.cls ≠ "java/lang/invoke/VarHandle" ∧ (parseMethodDescriptor y.desc).map (fun d => d.parameters.length) = some n) (hR : rm.frames + 1 ≤ R.frames ∧ 8 + (maxL + 11) + rm.locals ≤ R.locals) :
    CallW R s args own C index y bytes maxL ret ws rm mc ms n := by
  have ok : ∀ w ∈ wsC own index C y ws, w.before args s = true := fun w h => ht w (hT w h).1
  exact ⟨callB_of n ht (fun w h => hT w (by unfold wsC; exact List.mem_append_right _ h)) hw hrc hrs (ok _ (by simp [wsC])) (ok _ (by simp [wsC])) hd hR, ok _ (by simp [wsC]), ok _ (by simp [wsC])⟩
theorem strB_fitA : ∀ l ∈ strB, ∀ x ∈ l, fits .byte (.int x) = true := by decide
theorem strB_fit (p j : Nat) : fits .byte (.int ((strB.getD p []).getD j 0)) = true := by
  rw [List.getD_eq_getElem?_getD, List.getD_eq_getElem?_getD]
  cases h : strB[p]? with
  | none => exact (by decide : fits .byte (.int 0) = true)
  | some l =>
    show fits .byte (.int (l[j]?.getD 0)) = true
    cases h2 : l[j]? with
    | none => exact (by decide : fits .byte (.int 0) = true)
    | some x => exact strB_fitA l (List.mem_of_getElem? h) x (List.mem_of_getElem? h2)
theorem fit_nar (x : Int32) : fits .byte (.int (vp_nar .byte x)) = true := by rw [vp_nar_byte]; exact pk_fb _
end
