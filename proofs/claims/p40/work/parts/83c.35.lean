-- 83c.35
section
/-! Stage B, 35: goes, in both -/
theorem x_add {x : Int32} {a b : Nat} : x + nI a + nI b = x + nI (a + b) := by rw [Int32.add_assoc, nI_add]
theorem x_add0 {x : Int32} : x + nI 0 = x := by rw [show nI 0 = (0 : Int32) from rfl, Int32.add_zero]
/-- c times one is added, with m messages -/
def Gt (K n i c m : Nat) (g g' : Nat → Int32) : Prop := ∀ (x y : Int32) (J : Nat), lpF (fun u9 : Int32 × Int32 × (Nat → Int32) => B_X8_goes_36 K (nI i) (nI n) u9.1 u9.2.1 u9.2.2) (J + c) (x, y, g) = lpF (fun u9 : Int32 × Int32 × (Nat → Int32) => B_X8_goes_36 K (nI i) (nI n) u9.1 u9.2.1 u9.2.2) J (x + nI c, y + nI m, g')
theorem Gt.zero {K n i : Nat} {g : Nat → Int32} : Gt K n i 0 0 g g := fun x y J => by
  show lpF (fun u9 : Int32 × Int32 × (Nat → Int32) => B_X8_goes_36 K (nI i) (nI n) u9.1 u9.2.1 u9.2.2) J (x, y, g) = lpF (fun u9 : Int32 × Int32 × (Nat → Int32) => B_X8_goes_36 K (nI i) (nI n) u9.1 u9.2.1 u9.2.2) J (x + nI 0, y + nI 0, g)
  rw [x_add0, x_add0]
theorem Gt.trans {K n i c d m e : Nat} {g g' g2 : Nat → Int32} (h1 : Gt K n i c m g g') (h2 : Gt K n i d e g' g2) : Gt K n i (c + d) (m + e) g g2 := fun x y J => by
  rw [show J + (c + d) = J + d + c by omega, h1 x y (J + d), h2 _ _ J, x_add, x_add]
theorem Gt.one {K n i G k s r T m : Nat} {g0 g g' : Nat → Int32} (h : GD n i G k s r T g0 g) (hk : k < G) (hG : G < 2 ^ 30) (ha : F_X8_addsNow K (nI i) 1 g (nI n) = some (nI m, g')) : Gt K n i 1 m g g' := fun x y J => lp_one (by
  show B_X8_goes_36 K (nI i) (nI n) x y g = some (.inl (x + 1, y + nI m, g'))
  unfold B_X8_goes_36 F_X8_isReached
  rw [h.2.2.1, h.2.1, if_pos ((nI_ltI (a := k) (b := G) (by omega) (by omega)).mpr hk), xb1, if_pos rfl, ha, xb2])
theorem go_sig {n i G k s S K : Nat} {g0 : Nat → Int32} (hK : 200000 ≤ K) (hi : i < n) (hG : G ≤ 9999) (hk : k < G) (eS : (G - k) / (2 * n) = S) (hs : s < n) : ∀ d r T g, r + (d + 1) = S → T + (d + 1) < 2 ^ 30 → GD n i G k s r T g0 g → ∃ m k' s' g', Gt K n i (d + 1) m g g' ∧ GD n i G k' s' 0 (T + (d + 1)) g0 g' ∧ ((s + 1 < n ∧ m = 1 ∧ k' = k ∧ s' = s + 1) ∨ (s + 1 = n ∧ m = 1 + 2 * n ∧ k' = T + (d + 1) ∧ s' = 0)) := by
  intro d
  induction d with
  | zero =>
    intro r T g hr hT h
    rcases (show s + 1 < n ∨ s + 1 = n by omega) with c | c
    · obtain ⟨g', ha, h'⟩ := ad_one hK h hi (by omega) (by omega) (by omega) c
      exact ⟨1, k, s + 1, g', Gt.one h hk (by omega) ha, h', Or.inl ⟨c, rfl, rfl, rfl⟩⟩
    · obtain ⟨g', ha, h'⟩ := ad_end hK h hi (by omega) (by omega) (by omega) (by omega) c
      exact ⟨1 + 2 * n, T + 1, 0, g', Gt.one h hk (by omega) ha, h', Or.inr ⟨c, rfl, rfl, rfl⟩⟩
  | succ d ih =>
    intro r T g hr hT h
    obtain ⟨g1, ha, h1⟩ := ad_more hK h hi (by omega) (by omega) (by omega)
    obtain ⟨m, k', s', g', q1, q2, q3⟩ := ih (r + 1) (T + 1) g1 (by omega) (by omega) h1
    have q := (Gt.one h hk (by omega) ha).trans q1
    rw [show 1 + (d + 1) = d + 1 + 1 by omega, Nat.zero_add] at q
    rw [show T + 1 + (d + 1) = T + (d + 1 + 1) by omega] at q2 q3
    exact ⟨m, k', s', g', q, q2, q3⟩
theorem go_round {n i G k S K : Nat} {g0 : Nat → Int32} (hK : 200000 ≤ K) (hi : i < n) (hG : G ≤ 9999) (hk : k < G) (eS : (G - k) / (2 * n) = S) (hS : 0 < S) : ∀ e s r T g c, s + (e + 1) = n → r < S → c + r = (e + 1) * S → T + c < 2 ^ 30 → GD n i G k s r T g0 g → ∃ g', Gt K n i c (e + 1 + 2 * n) g g' ∧ GD n i G (T + c) 0 0 (T + c) g0 g' := by
  intro e
  induction e with
  | zero =>
    intro s r T g c hs hr hc hT h
    have e1 : (0 + 1) * S = S := by rw [Nat.zero_add, Nat.one_mul]
    rw [e1] at hc
    obtain ⟨d, rfl⟩ : ∃ d, c = d + 1 := ⟨c - 1, by omega⟩
    obtain ⟨m, k', s', g', q1, q2, q3⟩ := go_sig hK hi hG hk eS (by omega) d r T g (by omega) hT h
    rcases q3 with ⟨a, -⟩ | ⟨-, z1, z2, z3⟩
    · omega
    · rw [z1, show 1 + 2 * n = 0 + 1 + 2 * n by omega] at q1
      rw [z2, z3] at q2
      exact ⟨g', q1, q2⟩
  | succ e ih =>
    intro s r T g c hs hr hc hT h
    have e1 : (e + 1 + 1) * S = (e + 1) * S + S := Nat.succ_mul (e + 1) S
    rw [e1] at hc
    obtain ⟨d, hd⟩ : ∃ d, r + (d + 1) = S := ⟨S - r - 1, by omega⟩
    obtain ⟨m, k', s', g1, q1, q2, q3⟩ := go_sig hK hi hG hk eS (by omega) d r T g hd (by omega) h
    rcases q3 with ⟨a, z1, z2, z3⟩ | ⟨a, -⟩
    · rw [z1] at q1
      rw [z2, z3] at q2
      obtain ⟨g', p1, p2⟩ := ih (s + 1) 0 (T + (d + 1)) g1 ((e + 1) * S) (by omega) hS (Nat.add_zero _) (by omega) q2
      have q := q1.trans p1
      rw [show d + 1 + (e + 1) * S = c by omega, show 1 + (e + 1 + 2 * n) = e + 1 + 1 + 2 * n by omega] at q
      rw [show T + (d + 1) + (e + 1) * S = T + c by omega] at p2
      exact ⟨g', q, p2⟩
    · omega
theorem go_last {n i G s r K : Nat} {g0 : Nat → Int32} (hi : i < n) (hG : G ≤ 9999) : ∀ d k T g, k + d = G → G < k + 2 * n → GD n i G k s r T g0 g → ∃ g', Gt K n i d d g g' ∧ GD n i G G s r (T + d) g0 g' := by
  intro d
  induction d with
  | zero =>
    intro k T g hd _ h
    rw [show k = G by omega] at h
    exact ⟨g, Gt.zero, h⟩
  | succ d ih =>
    intro k T g hd hl h
    obtain ⟨g1, ha, h1⟩ := ad_zero (K := K) h hi (by omega) (by omega) (Nat.div_eq_of_lt (by omega))
    obtain ⟨g', q1, q2⟩ := ih (k + 1) (T + 1) g1 (by omega) (by omega) h1
    have q := (Gt.one h (by omega) (by omega) ha).trans q1
    rw [show 1 + d = d + 1 by omega] at q
    rw [show T + 1 + d = T + (d + 1) by omega] at q2
    exact ⟨g', q, q2⟩
theorem cs_stepV {n G b : Nat} {f : Nat → Int32} (h0 : 0 < n) (n8 : n ≤ 8) (f2 : f 2 = nI G) (f3 : f 3 = nI n) (hG : G < 2 ^ 30) (hb : b < 2 ^ 30) : F_X5_stepFrom (nI b) f = some (nI ((G - b) / (2 * n))) := by
  have e2 : (2 : Int32) * nI n = nI (2 * n) := by rw [show (2 : Int32) = nI 2 from rfl, nI_mul]
  have enz : ¬ nI (2 * n) = 0 := fun e => by
    have := (nI_eq (a := 2 * n) (b := 0) (by omega) (by omega)).mp e
    omega
  unfold F_X5_stepFrom
  rw [f3, f2, e2, if_neg (show ¬ nI (2 * n) ≤ (0 : Int32) from mt (nI_leI (a := 2 * n) (b := 0) (by omega) (by omega)).mp (by omega))]
  by_cases c : b < G
  · have ed : nI (G - b) / nI (2 * n) = nI ((G - b) / (2 * n)) := (Int32.ofNat_div (by omega) (by omega)).symm
    rw [if_pos ((nI_ltI (a := b) (b := G) (by omega) (by omega)).mpr c), xsub (by omega)]
    unfold nzI
    rw [if_neg enz, ed]
  · rw [if_neg (mt (nI_ltI (a := b) (b := G) (by omega) (by omega)).mp c), show G - b = 0 by omega, Nat.zero_div]
    rfl
/-- how both loops end -/
def GvQ (n i G K d : Nat) (f g0 : Nat → Int32) (u : Int32 × Int32 × Int32 × Int32 × Int32 × Int32) (x y : Int32) (g : Nat → Int32) : Prop := ∃ (kf xf yf : Nat) (g' : Nat → Int32), (∀ J, lpF (fun u9 : Int32 × Int32 × Int32 × Int32 × Int32 × Int32 × Int32 × Int32 => B_X5_aloneToGoal_50 f u9.1 u9.2.1 u9.2.2.1 u9.2.2.2.1 u9.2.2.2.2.1 u9.2.2.2.2.2.1 u9.2.2.2.2.2.2.1 u9.2.2.2.2.2.2.2) (J + (d + 1)) (u.1, u.2.1, u.2.2.1, u.2.2.2.1, x, y, u.2.2.2.2.1, u.2.2.2.2.2) = some (nI kf, x + nI xf, y + nI yf)) ∧ Gt K n i (xf + (G - kf)) (yf + (G - kf)) g g' ∧ (¬ g' 73 < g' 66) ∧ (∀ q, 84 ≤ q → g' q = g0 q) ∧ xf + (G - kf) ≤ 9999 * (d + 1) ∧ kf ≤ 999999
theorem go_stop {n i G K d j k s r T : Nat} {f g0 g : Nat → Int32} {x y : Int32} (hi : i < n) (hG : G ≤ 9999) (hk : k ≤ 990000) (z : (G - k) / (2 * n) = 0) (h : GD n i G k s r T g0 g) : GvQ n i G K d f g0 (nI k, nI T, nI r, nI s, nI ((G - k) / (2 * n)), nI j) x y g := by
  have B0 : (fun u9 : Int32 × Int32 × Int32 × Int32 × Int32 × Int32 × Int32 × Int32 => B_X5_aloneToGoal_50 f u9.1 u9.2.1 u9.2.2.1 u9.2.2.2.1 u9.2.2.2.2.1 u9.2.2.2.2.2.1 u9.2.2.2.2.2.2.1 u9.2.2.2.2.2.2.2) (nI k, nI T, nI r, nI s, x, y, nI ((G - k) / (2 * n)), nI j) = some (.inr (nI k, x, y)) := by
    show B_X5_aloneToGoal_50 f (nI k) (nI T) (nI r) (nI s) x y (nI ((G - k) / (2 * n))) (nI j) = some (.inr (nI k, x, y))
    unfold B_X5_aloneToGoal_50
    by_cases c : (9999 : Int32) ≤ nI j
    · rw [if_pos c]
    · rw [if_neg c, z, if_pos (show nI 0 ≤ (0 : Int32) by decide)]
  have L : ∀ J, lpF (fun u9 : Int32 × Int32 × Int32 × Int32 × Int32 × Int32 × Int32 × Int32 => B_X5_aloneToGoal_50 f u9.1 u9.2.1 u9.2.2.1 u9.2.2.2.1 u9.2.2.2.2.1 u9.2.2.2.2.2.1 u9.2.2.2.2.2.2.1 u9.2.2.2.2.2.2.2) (J + (d + 1)) (nI k, nI T, nI r, nI s, x, y, nI ((G - k) / (2 * n)), nI j) = some (nI k, x + nI 0, y + nI 0) := fun J => by
    rw [x_add0, x_add0]
    exact gpx0 (by omega) B0
  by_cases c : k < G
  · have lt : G - k < 2 * n := by
      rcases Nat.lt_or_ge (G - k) (2 * n) with a | a
      · exact a
      · exact absurd z (Nat.ne_of_gt (Nat.div_pos a (by omega)))
    obtain ⟨g', q1, q2⟩ := go_last (K := K) hi hG (G - k) k T g (by omega) (by omega) h
    refine ⟨k, 0, 0, g', L, ?_, ?_, q2.2.2.2.2.2.2, by omega, by omega⟩
    · rw [Nat.zero_add]
      exact q1
    · rw [q2.2.2.1, q2.2.1]
      exact mt (nI_ltI (a := G) (b := G) (by omega) (by omega)).mp (by omega)
  · refine ⟨k, 0, 0, g, L, ?_, ?_, h.2.2.2.2.2.2, by omega, by omega⟩
    · rw [show 0 + (G - k) = 0 by omega]
      exact Gt.zero
    · rw [h.2.2.1, h.2.1]
      exact mt (nI_ltI (a := k) (b := G) (by omega) (by omega)).mp (by omega)
theorem go_both {n i G K : Nat} {f g0 : Nat → Int32} (hK : 200000 ≤ K) (n8 : n ≤ 8) (hi : i < n) (hG : G ≤ 9999) (h2 : f 2 = nI G) (h3 : f 3 = nI n) : ∀ d j k s r T g x y, 10000 ≤ d + j → j ≤ T → (j = 0 ∨ k = T) → s < n → (r = 0 ∨ r < (G - k) / (2 * n)) → T ≤ 990000 → (j = 0 → T ≤ 900000) → k ≤ 990000 → GD n i G k s r T g0 g → GvQ n i G K d f g0 (nI k, nI T, nI r, nI s, nI ((G - k) / (2 * n)), nI j) x y g := by
  intro d
  induction d with
  | zero =>
    intro j k s r T g x y hd hj hjk hs hr hT hT0 hk h
    have z : (G - k) / (2 * n) = 0 := by rw [show G - k = 0 by omega, Nat.zero_div]
    exact go_stop hi hG hk z h
  | succ d ih =>
    intro j k s r T g x y hd hj hjk hs hr hT hT0 hk h
    by_cases z : (G - k) / (2 * n) = 0
    · exact go_stop hi hG hk z h
    · obtain ⟨S, eS⟩ : ∃ S, (G - k) / (2 * n) = S := ⟨_, rfl⟩
      have hkG : k < G := by
        rcases Nat.lt_or_ge k G with a | a
        · exact a
        · exact absurd (show (G - k) / (2 * n) = 0 by rw [show G - k = 0 by omega, Nat.zero_div]) z
      have m1 : 2 * n * ((G - k) / (2 * n)) ≤ G - k := Nat.mul_div_le (G - k) (2 * n)
      rw [eS] at z hr m1 ⊢
      have hS : 0 < S := by omega
      obtain ⟨e, he⟩ : ∃ e, s + (e + 1) = n := ⟨n - s - 1, by omega⟩
      have m2 : (e + 1) * S ≤ 2 * n * S := Nat.mul_le_mul_right S (by omega)
      have m3 : S ≤ (e + 1) * S := Nat.le_mul_of_pos_left S (by omega)
      have hrS : r < S := by omega
      obtain ⟨c, hc⟩ : ∃ c, c + r = (e + 1) * S := ⟨(e + 1) * S - r, by omega⟩
      have c9 : c ≤ 9999 := by omega
      have c1 : 1 ≤ c := by omega
      obtain ⟨g1, q1, q2⟩ := go_round hK hi hG hkG eS hS e s r T g c he hrS hc (by omega) h
      have ec : ((nI n - nI s) * nI S) - nI r = nI c := by rw [xsub (by omega), nI_mul, show n - s = e + 1 by omega, ← hc, xsub (by omega), Nat.add_sub_cancel]
      have em : (nI n - nI s) + (2 : Int32) * nI n = nI (e + 1 + 2 * n) := by rw [xsub (by omega), show n - s = e + 1 by omega, show (2 : Int32) = nI 2 from rfl, nI_mul, nI_add]
      have B1 : (fun u9 : Int32 × Int32 × Int32 × Int32 × Int32 × Int32 × Int32 × Int32 => B_X5_aloneToGoal_50 f u9.1 u9.2.1 u9.2.2.1 u9.2.2.2.1 u9.2.2.2.2.1 u9.2.2.2.2.2.1 u9.2.2.2.2.2.2.1 u9.2.2.2.2.2.2.2) (nI k, nI T, nI r, nI s, x, y, nI S, nI j) = some (.inl (nI (T + c), nI (T + c), nI 0, nI 0, x + nI c, y + nI (e + 1 + 2 * n), nI ((G - (T + c)) / (2 * n)), nI (j + 1))) := by
        show B_X5_aloneToGoal_50 f (nI k) (nI T) (nI r) (nI s) x y (nI S) (nI j) = some (.inl (nI (T + c), nI (T + c), (0 : Int32), (0 : Int32), x + nI c, y + nI (e + 1 + 2 * n), nI ((G - (T + c)) / (2 * n)), nI (j + 1)))
        unfold B_X5_aloneToGoal_50
        rw [if_neg (show ¬ (9999 : Int32) ≤ nI j from mt (nI_leI (a := 9999) (b := j) (by omega) (by omega)).mp (by omega)), if_neg (show ¬ nI S ≤ (0 : Int32) from mt (nI_leI (a := S) (b := 0) (by omega) (by omega)).mp (by omega)), h3, ec, em, nI_add, cs_stepV (by omega) n8 h2 h3 (by omega) (by omega), xb1, nI_1]
      obtain ⟨kf, xf, yf, g', L, W, nr, fr, bd, kb⟩ := ih (j + 1) (T + c) 0 0 (T + c) g1 (x + nI c) (y + nI (e + 1 + 2 * n)) (by omega) (by omega) (Or.inr rfl) (by omega) (Or.inl rfl) (by omega) (fun q => absurd q (by omega)) (by omega) q2
      have q := q1.trans W
      rw [show c + (xf + (G - kf)) = c + xf + (G - kf) by omega, show e + 1 + 2 * n + (yf + (G - kf)) = e + 1 + 2 * n + yf + (G - kf) by omega] at q
      refine ⟨kf, c + xf, e + 1 + 2 * n + yf, g', fun J => ?_, q, nr, fr, by omega, kb⟩
      rw [← x_add, ← x_add]
      exact (lp_one (j := J + (d + 1)) B1).trans (L J)
theorem mx_0 {a b : Nat} (ha : a < 2 ^ 30) (hb : b < 2 ^ 30) : maxF (nI a - nI b) (0 : Int32) = nI (a - b) := by
  unfold maxF
  have es : (nI a - nI b).toInt = (a : Int) - b := pk_sub_toInt ha hb
  by_cases c : a < b
  · rw [if_pos (show nI a - nI b < 0 by
      rw [Int32.lt_iff_toInt_lt, es]
      show (a : Int) - b < 0
      omega), show a - b = 0 by omega]
    rfl
  · rw [xsub (by omega), if_neg (nn0 (by omega))]
theorem p_goes {n K : Nat} {f g asd : Nat → Int32} {x y : Int32} (hK : 1000000000 ≤ K) (h : RowR n f g) (hI : RowI n g) : ∃ v asd', F_X7_goes K x y f = some v ∧ F_X8_goes K x y g (nI n) asd = some (v, g, asd') := by
  have n8 := h.n8
  have hK2 : 200000 ≤ K := by omega
  obtain ⟨r1, r2⟩ := re_both h
  unfold F_X7_goes F_X8_goes
  rcases hs_both (p := x) n8 h.sz with ⟨i, hi, rfl, c1, c2⟩ | ⟨-, c1, c2⟩
  · rw [c1, c2, xb1, xb1, if_neg n10, if_neg n10, m_in0 (m := 1) (by decide), xb1, ite10, rng_c]
    by_cases d : 0 ≤ y ∧ y ≤ nI 1
    · rw [if_pos (show 0 ≤ y ∧ y ≤ (1 : Int32) from d), if_pos d, r1, r2, xb1, xb1]
      by_cases c : g 73 < g 66
      · rw [if_pos c, if_pos rfl, if_pos rfl]
        obtain ⟨-, -, a, b, q, a1, a9, e66, b9, e73, hq, e75, hcs, hrs⟩ := hI.2 (by omega)
        obtain ⟨B, hB, eB⟩ := sgm_nat (a := fun j => g (48 + j)) n hcs
        obtain ⟨r, er, hr⟩ := hrs i hi
        have D0 : GD n i a b q r B g g := ⟨⟨f, h⟩, e66, e73, e75, er, eB, fun _ _ => rfl⟩
        rw [D0.stp (by omega) (by omega)] at hr
        have f2 : f 2 = nI a := (h.sc (2, 66) (by decide)).trans e66
        have f8 : f 8 = nI b := (h.sc (8, 73) (by decide)).trans e73
        have f9 : f 9 = nI q := (h.sc (9, 75) (by decide)).trans e75
        have e7 : f (17 + 8 * i + 7) = nI r := (h.1.2.2.1 i 7 hi (by decide)).trans er
        have t6 := (tot_both hK2 h (c := 6) (by decide)).1
        have t6 : F_X5_total K (6 : Int32) f = some (sgm (fun j => g (48 + j)) n) := t6
        obtain ⟨kf, xf, yf, g', L, W, nr, fr, bd, kb⟩ := go_both hK2 n8 hi a9 f2 h.sz 10000 0 b q r B g 0 0 (by omega) (Nat.zero_le _) (Or.inl rfl) hq hr (by omega) (fun _ => by omega) (by omega) D0
        have L1 := L (K - 10001)
        rw [show K - 10001 + (10000 + 1) = K by omega] at L1
        have L1 : lpF (fun u9 : Int32 × Int32 × Int32 × Int32 × Int32 × Int32 × Int32 × Int32 => B_X5_aloneToGoal_50 f u9.1 u9.2.1 u9.2.2.1 u9.2.2.2.1 u9.2.2.2.2.1 u9.2.2.2.2.2.1 u9.2.2.2.2.2.2.1 u9.2.2.2.2.2.2.2) K (nI b, nI B, nI r, nI q, (0 : Int32), (0 : Int32), nI ((a - b) / (2 * n)), (0 : Int32)) = some (nI kf, (0 : Int32) + nI xf, (0 : Int32) + nI yf) := L1
        have W1 := W 0 0 (K - (xf + (a - kf)))
        rw [Nat.sub_add_cancel (by omega), Int32.zero_add, Int32.zero_add] at W1
        have W2 : lpF (fun u9 : Int32 × Int32 × (Nat → Int32) => B_X8_goes_36 K (nI i) (nI n) u9.1 u9.2.1 u9.2.2) K ((0 : Int32), (0 : Int32), g) = some (nI (xf + (a - kf)), nI (yf + (a - kf)), g') := by
          refine W1.trans (gpx0 (by omega) ?_)
          show B_X8_goes_36 K (nI i) (nI n) (nI (xf + (a - kf))) (nI (yf + (a - kf))) g' = some (.inr (nI (xf + (a - kf)), nI (yf + (a - kf)), g'))
          unfold B_X8_goes_36 F_X8_isReached
          rw [if_neg nr, xb1, if_neg n10]
        have A : ∀ p, F_X5_aloneToGoal K (nI i) p f = some (if p = 0 then nI (xf + (a - kf)) else nI (yf + (a - kf))) := fun p => by
          unfold F_X5_aloneToGoal J_X5_aloneToGoal_136
          rw [t6, xb1, eB, bx_of (c := 7) (by rfl) (by omega) (by decide), xb1, e7, f8, cs_stepV (by omega) n8 f2 h.sz (by omega) (by omega), xb1, f9, L1, xb3, f2, mx_0 (by omega) (by omega), Int32.zero_add, Int32.zero_add, nI_add, nI_add]
          by_cases e : p = 0
          · rw [if_pos e, if_pos e]
          · rw [if_neg e, if_neg e]
        rw [m_aside hK2, xb1, W2, xb3, m_bring hK2 fr, xb1, A, A, xb1, xb1]
        obtain ⟨m, hm, rfl⟩ := in_lt (p := y) (a := 2) (by omega) (by rw [show nI 2 - 1 = nI 1 by decide]; exact d)
        rcases (show m = 0 ∨ m = 1 by omega) with e | e
        · rw [e, if_neg (show ¬ nI 0 = (1 : Int32) by decide), if_pos (show (0 : Int32) = 0 from rfl), if_pos (show nI 0 = (0 : Int32) from rfl)]
          exact ⟨_, _, rfl, rfl⟩
        · rw [e, if_pos (show nI 1 = (1 : Int32) from rfl), if_neg (show ¬ (1 : Int32) = 0 by decide), if_neg (show ¬ nI 1 = (0 : Int32) by decide)]
          exact ⟨_, _, rfl, rfl⟩
      · rw [if_neg c, if_neg n10, if_neg n10]
        exact ⟨_, _, rfl, rfl⟩
    · rw [if_neg (show ¬ (0 ≤ y ∧ y ≤ (1 : Int32)) from d), if_neg d]
      exact ⟨_, _, rfl, rfl⟩
  · rw [c1, c2, xb1, xb1, if_pos rfl, if_pos rfl]
    exact ⟨_, _, rfl, rfl⟩
end
-- 84a.sb0
section

/-! calls at an object of a class below the method's own; the texts' bytes -/
def wsC (own : String) (idx : Nat) (C : String) (y : MethodName) (ws : List Cond) : List Cond := ([.methodLink own idx y, .instanceMethod y, .selects C y y, .initialized y.cls] : List Cond) ++ ws
theorem cwC {R : Room} {s : State} {args : Array Value} {own C : String} {index maxL mc ms : Nat} {y : MethodName} {bytes : ByteArray} {ret : Option FieldType} {Ts ws ws' : List Cond} {rm : Room} (n : Nat) (ht : ∀ w ∈ Ts, w.before args s = true) (hT : GoodIn Ts (wsC own index C y ws)) (hw : ws = Cond.code y bytes maxL ret :: ws') (hrc : rm.cells = mc) (hrs : rm.slots = ms)
    (hd : y.cls ≠ "java/lang/invoke/MethodHandle" ∧ y.cls ≠ "java/lang/invoke/VarHandle" ∧ (parseMethodDescriptor y.desc).map (fun d => d.parameters.length) = some n) (hR : rm.frames + 1 ≤ R.frames ∧ 8 + (maxL + 11) + rm.locals ≤ R.locals) :
    CallW R s args own C index y bytes maxL ret ws rm mc ms n := by
  have ok : ∀ w ∈ wsC own index C y ws, w.before args s = true := fun w h => ht w (hT w h).1
  exact ⟨callB_of n ht (fun w h => hT w (by unfold wsC; exact List.mem_append_right _ h)) hw hrc hrs (ok _ (by simp [wsC])) (ok _ (by simp [wsC])) hd hR, ok _ (by simp [wsC]), ok _ (by simp [wsC])⟩
theorem strB_fitA : ∀ l ∈ strB, ∀ x ∈ l, fits .byte (.int x) = true := by decide
theorem strB_fit (p j : Nat) : fits .byte (.int ((strB.getD p []).getD j 0)) = true := by
  rw [List.getD_eq_getElem?_getD, List.getD_eq_getElem?_getD]
  cases h : strB[p]? with
  | none => exact (by decide : fits .byte (.int 0) = true)
  | some l =>
    show fits .byte (.int (l[j]?.getD 0)) = true
    cases h2 : l[j]? with
    | none => exact (by decide : fits .byte (.int 0) = true)
    | some x => exact strB_fitA l (List.mem_of_getElem? h) x (List.mem_of_getElem? h2)
theorem fit_nar (x : Int32) : fits .byte (.int (vp_nar .byte x)) = true := by rw [vp_nar_byte]; exact pk_fb _
end
-- 84b.sb
section
noncomputable def blJ6_stringSize_0f7a4_0 : List Nat := [4, 60, 26, 155, 0, 8, 3, 60, 26, 116, 59, 16, 246, 61, 4, 62, 29, 16, 10, 162, 0, 23, 26, 28, 164, 0, 7, 29, 27, 96, 172, 16, 10, 28, 104, 61, 132, 3, 1, 167, 255, 233, 16, 10, 27, 96, 172]
set_option maxRecDepth 100000 in
theorem bcJ6_stringSize_0f7a4_0 : ((cJ6_stringSize_0f7a4.data.toList.drop 0).take blJ6_stringSize_0f7a4_0.length).map UInt8.toNat = blJ6_stringSize_0f7a4_0 := by decide +kernel
noncomputable def blJ6_getChars_ba4f3_0 : List Nat := [27, 54, 5, 26, 156, 0, 7, 4, 167, 0, 4, 3, 54, 6, 21, 6, 154, 0, 6, 26, 116, 59, 26, 16, 156, 163, 0, 47, 26, 16, 100, 108, 62, 29, 16, 100, 104, 26, 100, 54, 4, 29, 59, 44, 132, 5, 255, 21, 5, 178, 0]
set_option maxRecDepth 100000 in
theorem bcJ6_getChars_ba4f3_0 : ((cJ6_getChars_ba4f3.data.toList.drop 0).take blJ6_getChars_ba4f3_0.length).map UInt8.toNat = blJ6_getChars_ba4f3_0 := by decide +kernel
noncomputable def blJ6_getChars_ba4f3_1 : List Nat := [5, 178, 0, 83, 21, 4, 51, 84, 44, 132, 5, 255, 21, 5, 178, 0, 87, 21, 4, 51, 84, 167, 255, 209, 44, 132, 5, 255, 21, 5, 178, 0, 83, 26, 116, 51, 84, 26, 16, 247, 162, 0, 16, 44, 132, 5, 255, 21, 5, 178, 0]
set_option maxRecDepth 100000 in
theorem bcJ6_getChars_ba4f3_1 : ((cJ6_getChars_ba4f3.data.toList.drop 48).take blJ6_getChars_ba4f3_1.length).map UInt8.toNat = blJ6_getChars_ba4f3_1 := by decide +kernel
noncomputable def blJ6_getChars_ba4f3_2 : List Nat := [5, 178, 0, 87, 26, 116, 51, 84, 21, 6, 153, 0, 12, 44, 132, 5, 255, 21, 5, 16, 45, 84, 21, 5, 172]
set_option maxRecDepth 100000 in
theorem bcJ6_getChars_ba4f3_2 : ((cJ6_getChars_ba4f3.data.toList.drop 96).take blJ6_getChars_ba4f3_2.length).map UInt8.toNat = blJ6_getChars_ba4f3_2 := by decide +kernel
noncomputable def blJ5_length_8abf5_0 : List Nat := [42, 180, 0, 79, 172]
set_option maxRecDepth 100000 in
theorem bcJ5_length_8abf5_0 : ((cJ5_length_8abf5.data.toList.drop 0).take blJ5_length_8abf5_0.length).map UInt8.toNat = blJ5_length_8abf5_0 := by decide +kernel
noncomputable def blJ5_isLatin1_aae02_0 : List Nat := [178, 0, 18, 153, 0, 14, 42, 180, 0, 22, 154, 0, 7, 4, 167, 0, 4, 3, 172]
set_option maxRecDepth 100000 in
theorem bcJ5_isLatin1_aae02_0 : ((cJ5_isLatin1_aae02.data.toList.drop 0).take blJ5_isLatin1_aae02_0.length).map UInt8.toNat = blJ5_isLatin1_aae02_0 := by decide +kernel
noncomputable def blJ1_canEncode_fc78d_0 : List Nat := [26, 17, 0, 255, 163, 0, 7, 4, 167, 0, 4, 3, 172]
set_option maxRecDepth 100000 in
theorem bcJ1_canEncode_fc78d_0 : ((cJ1_canEncode_fc78d.data.toList.drop 0).take blJ1_canEncode_fc78d_0.length).map UInt8.toNat = blJ1_canEncode_fc78d_0 := by decide +kernel
noncomputable def blJ8_newLength_cabcc_0 : List Nat := [26, 27, 28, 184, 0, 194, 96, 62, 3, 29, 162, 0, 11, 29, 18, 200, 163, 0, 5, 29, 172, 26, 27, 184, 0, 201, 172]
set_option maxRecDepth 100000 in
theorem bcJ8_newLength_cabcc_0 : ((cJ8_newLength_cabcc.data.toList.drop 0).take blJ8_newLength_cabcc_0.length).map UInt8.toNat = blJ8_newLength_cabcc_0 := by decide +kernel
noncomputable def blJ5_newCapacity_0f7a4_0 : List Nat := [42, 180, 0, 15, 190, 61, 27, 42, 180, 0, 22, 120, 62, 29, 28, 100, 54, 4, 28, 21, 4, 28, 5, 42, 180, 0, 22, 120, 96, 184, 0, 114, 54, 5, 21, 5, 18, 39, 160, 0, 13, 187, 0, 120, 89, 18, 122, 183, 0, 124, 191]
set_option maxRecDepth 100000 in
theorem bcJ5_newCapacity_0f7a4_0 : ((cJ5_newCapacity_0f7a4.data.toList.drop 0).take blJ5_newCapacity_0f7a4_0.length).map UInt8.toNat = blJ5_newCapacity_0f7a4_0 := by decide +kernel
noncomputable def blJ5_newCapacity_0f7a4_1 : List Nat := [0, 124, 191, 21, 5, 42, 180, 0, 22, 122, 172]
set_option maxRecDepth 100000 in
theorem bcJ5_newCapacity_0f7a4_1 : ((cJ5_newCapacity_0f7a4.data.toList.drop 48).take blJ5_newCapacity_0f7a4_1.length).map UInt8.toNat = blJ5_newCapacity_0f7a4_1 := by decide +kernel
noncomputable def blJ5_charAt_5068e_0 : List Nat := [42, 180, 0, 22, 61, 42, 180, 0, 15, 78, 42, 180, 0, 79, 45, 190, 28, 122, 184, 0, 138, 54, 4, 27, 21, 4, 184, 0, 144, 28, 154, 0, 12, 45, 27, 51, 17, 0, 255, 126, 146, 172, 45, 27, 184, 0, 148, 172]
set_option maxRecDepth 100000 in
theorem bcJ5_charAt_5068e_0 : ((cJ5_charAt_5068e.data.toList.drop 0).take blJ5_charAt_5068e_0.length).map UInt8.toNat = blJ5_charAt_5068e_0 := by decide +kernel
noncomputable def blJ5_inflateIfNeededFor_a7421_0 : List Nat := [178, 0, 18, 153, 0, 18, 42, 180, 0, 22, 43, 182, 0, 40, 159, 0, 7, 42, 182, 0, 195, 177]
set_option maxRecDepth 100000 in
theorem bcJ5_inflateIfNeededFor_a7421_0 : ((cJ5_inflateIfNeededFor_a7421.data.toList.drop 0).take blJ5_inflateIfNeededFor_a7421_0.length).map UInt8.toNat = blJ5_inflateIfNeededFor_a7421_0 := by decide +kernel
noncomputable def blJ0_getBytes_840e7_0 : List Nat := [42, 182, 1, 79, 29, 160, 0, 23, 42, 180, 0, 9, 3, 43, 28, 29, 120, 42, 180, 0, 9, 190, 184, 0, 212, 167, 0, 18, 42, 180, 0, 9, 3, 43, 28, 42, 180, 0, 9, 190, 184, 0, 106, 177]
set_option maxRecDepth 100000 in
theorem bcJ0_getBytes_840e7_0 : ((cJ0_getBytes_840e7.data.toList.drop 0).take blJ0_getBytes_840e7_0.length).map UInt8.toNat = blJ0_getBytes_840e7_0 := by decide +kernel
noncomputable def blJ5_putStringAt_47b60_0 : List Nat := [42, 44, 182, 1, 141, 44, 42, 180, 0, 15, 27, 42, 180, 0, 22, 182, 1, 143, 177]
set_option maxRecDepth 100000 in
theorem bcJ5_putStringAt_47b60_0 : ((cJ5_putStringAt_47b60.data.toList.drop 0).take blJ5_putStringAt_47b60_0.length).map UInt8.toNat = blJ5_putStringAt_47b60_0 := by decide +kernel

def B_J6_stringSize_0f7a4_16 (x0 : Int32) (x2 : Int32) (x3 : Int32) : Option ((Int32 × Int32) ⊕ (Nat × Int32)) :=
  if (10 : Int32) ≤ x3 then some (.inr (1, x3)) else if x0 ≤ x2 then some (.inl ((10 : Int32) * x2, x3 + (1 : Int32))) else some (.inr (0, x3))
def J_J6_stringSize_0f7a4_11 (K : Nat) (x1 : Int32) (x0 : Int32) : Option (Int32) :=
  bd2 (lpF (fun u9 : Int32 × Int32 => B_J6_stringSize_0f7a4_16 x0 u9.1 u9.2) K ((-10 : Int32), (1 : Int32))) (fun t_4 x3_5 => if t_4 = 0 then some (x3_5 + x1) else if t_4 = 1 then some ((10 : Int32) + x1) else none)
def F_J6_stringSize_0f7a4 (K : Nat) (p0 : Int32) : Option (Int32) :=
  if p0 < (0 : Int32) then J_J6_stringSize_0f7a4_11 K (1 : Int32) p0 else J_J6_stringSize_0f7a4_11 K (0 : Int32) (-p0)

def v_f_J6_stringSize_0f7a4 : List Cond := List.cons (.code yJ6_stringSize_0f7a4 cJ6_stringSize_0f7a4 4 (some .int)) (HAppend.hAppend (α := List Cond) (β := List Cond) (γ := List Cond) [] [])
theorem gw_f_J6_stringSize_0f7a4 : v_f_J6_stringSize_0f7a4.all goodWord = true := gw_c2 (by decide +kernel) gw_nil
theorem hd_J6_stringSize_0f7a4 : yJ6_stringSize_0f7a4.cls = RJ6 ∧ yJ6_stringSize_0f7a4.cls ≠ "java/lang/invoke/MethodHandle" ∧ yJ6_stringSize_0f7a4.cls ≠ "java/lang/invoke/VarHandle" ∧ (parseMethodDescriptor yJ6_stringSize_0f7a4.desc).map (fun d => d.parameters.length) = some 1 := by decide +kernel
set_option maxHeartbeats 4000000 in
set_option maxRecDepth 100000 in
theorem wb_J6_stringSize_0f7a4_16 {p : Program} (l : Launch) {e : Env} {s : State} {m : MethodId} {below : List Frame} {meth : Method} {c : Code} {Q : State → Prop} (E : EE) (K : Nat) {p0 : Int32} {x0 : Int32} {x1 : Int32} {x2 : Int32} {x3 : Int32} (hx : p.tables.exec = Jvm.exec) (hb : c.code = cJ6_stringSize_0f7a4) (hml : c.maxLocals = 4) (hown : s.vm.findClass RJ6 = some m.cls) (hts : ∀ w ∈ v_f_J6_stringSize_0f7a4, w.before #[Value.int p0] s = true) (hK : va_K E.1 vwCl (TY E) s) (hN : NX s) {xx : (Int32 × Int32) ⊕ (Nat × Int32)} (hC : ∀ (x2 : Int32), ∀ (x3 : Int32), xx = .inl (x2, x3) → ∀ (ls : Array Slot), lv_has ls 4 [(0, .int x0), (1, .int x1), (2, .int x2), (3, .int x3)] → W p l e ({ frames := 0, cells := 0, slots := 0, locals := 0 } : Room) s m #[Value.int p0] below meth c s.heap [] 0 0 Q (F0 m 16 ls [])) (hE : ∀ (t9 : Nat), ∀ (x3 : Int32), xx = .inr (t9, x3) → ((t9 = 0 → ∀ (ls : Array Slot), lv_has ls 4 [(1, .int x1), (3, .int x3)] → W p l e ({ frames := 0, cells := 0, slots := 0, locals := 0 } : Room) s m #[Value.int p0] below meth c s.heap [] 0 0 Q (F0 m 27 ls [])) ∧ (t9 = 1 → ∀ (ls : Array Slot), lv_has ls 4 [(1, .int x1)] → W p l e ({ frames := 0, cells := 0, slots := 0, locals := 0 } : Room) s m #[Value.int p0] below meth c s.heap [] 0 0 Q (F0 m 42 ls [])))) (hF : B_J6_stringSize_0f7a4_16 x0 x2 x3 = some xx) (hP : va_P E.1 vwCl [] s.heap) : ∀ (ls : Array Slot), lv_has ls 4 [(0, .int x0), (1, .int x1), (2, .int x2), (3, .int x3)] → W p l e ({ frames := 0, cells := 0, slots := 0, locals := 0 } : Room) s m #[Value.int p0] below meth c s.heap [] 0 0 Q (F0 m 16 ls []) := by
  unfold B_J6_stringSize_0f7a4_16 at hF
  replace hP : va_P E.1 vwCl [] s.heap := hP
  intro ls hl
  refine lv_iload_n hx hb (dq_29 0 bcJ6_stringSize_0f7a4_0 (j := 16) rfl rfl) rfl (lv_at hl 3 rfl) ?_
  refine lv_bipush (v := 10) hx hb (dq_16 0 bcJ6_stringSize_0f7a4_0 (j := 17) (i := 10) rfl rfl rfl) (by decide) ?_
  refine lv_icmp_ge (tgt := 42) hx hb (dq_162 0 bcJ6_stringSize_0f7a4_0 (j := 19) (i := 23) rfl rfl rfl) (by decide) (fun c_2 => ?_) (fun c_2 => ?_)
  ·
    replace hF := ip c_2 hF
    cases hF
    exact (hE 1 x3 rfl).2 rfl ls (lv_sub hl [1] rfl)
  ·
    replace hF := inn c_2 hF
    refine lv_iload_n hx hb (dq_26 0 bcJ6_stringSize_0f7a4_0 (j := 22) rfl rfl) rfl (lv_at hl 0 rfl) ?_
    refine lv_iload_n hx hb (dq_28 0 bcJ6_stringSize_0f7a4_0 (j := 23) rfl rfl) rfl (lv_at hl 2 rfl) ?_
    refine lv_icmp_le (tgt := 31) hx hb (dq_164 0 bcJ6_stringSize_0f7a4_0 (j := 24) (i := 7) rfl rfl rfl) (by decide) (fun c_3 => ?_) (fun c_3 => ?_)
    ·
      replace hF := ip c_3 hF
      refine lv_bipush (v := 10) hx hb (dq_16 0 bcJ6_stringSize_0f7a4_0 (j := 31) (i := 10) rfl rfl rfl) (by decide) ?_
      refine lv_iload_n hx hb (dq_28 0 bcJ6_stringSize_0f7a4_0 (j := 33) rfl rfl) rfl (lv_at hl 2 rfl) ?_
      refine lv_imul hx hb (dq_104 0 bcJ6_stringSize_0f7a4_0 (j := 34) rfl rfl) ?_
      refine lv_istore_n (lv' := [(2, .int ((10 : Int32) * x2)), (0, .int x0), (1, .int x1), (3, .int x3)]) hx hb (dq_61 0 bcJ6_stringSize_0f7a4_0 (j := 35) rfl rfl) rfl hl (by decide) rfl (fun ls hl => ?_)
      refine lv_iinc (v := x3 + (1 : Int32)) (lv' := [(3, .int (x3 + (1 : Int32))), (2, .int ((10 : Int32) * x2)), (0, .int x0), (1, .int x1)]) hx hb (dq_132 0 bcJ6_stringSize_0f7a4_0 (j := 36) (i := 1) rfl rfl rfl) hl (k := 3) rfl (rfl) (by decide) rfl (fun ls hl => ?_)
      refine lv_goto (tgt := 16) hx hb (dq_167 0 bcJ6_stringSize_0f7a4_0 (j := 39) (i := -23) rfl rfl rfl) (by decide) ?_
      cases hF
      exact hC ((10 : Int32) * x2) (x3 + (1 : Int32)) rfl ls (lv_sub hl [2, 3, 1, 0] rfl)
    ·
      replace hF := inn c_3 hF
      cases hF
      exact (hE 0 x3 rfl).1 rfl ls (lv_sub hl [1, 3] rfl)

set_option maxHeartbeats 4000000 in
set_option maxRecDepth 100000 in
theorem lw_J6_stringSize_0f7a4_16 {p : Program} (l : Launch) {e : Env} {s : State} {m : MethodId} {below : List Frame} {meth : Method} {c : Code} {Q : State → Prop} (E : EE) (K : Nat) {p0 : Int32} {x0 : Int32} {x1 : Int32} (hx : p.tables.exec = Jvm.exec) (hb : c.code = cJ6_stringSize_0f7a4) (hml : c.maxLocals = 4) (hown : s.vm.findClass RJ6 = some m.cls) (hts : ∀ w ∈ v_f_J6_stringSize_0f7a4, w.before #[Value.int p0] s = true) (hK : va_K E.1 vwCl (TY E) s) (hN : NX s) (hP : va_P E.1 vwCl [] s.heap) (j9 : Nat) (x2 : Int32) (x3 : Int32) (t9' : Nat) (x3' : Int32) (hL : lpF (fun u9 : Int32 × Int32 => B_J6_stringSize_0f7a4_16 x0 u9.1 u9.2) j9 (x2, x3) = some (t9', x3')) (hX : (t9' = 0 → ∀ (ls : Array Slot), lv_has ls 4 [(1, .int x1), (3, .int x3')] → W p l e ({ frames := 0, cells := 0, slots := 0, locals := 0 } : Room) s m #[Value.int p0] below meth c s.heap [] 0 0 Q (F0 m 27 ls [])) ∧ (t9' = 1 → ∀ (ls : Array Slot), lv_has ls 4 [(1, .int x1)] → W p l e ({ frames := 0, cells := 0, slots := 0, locals := 0 } : Room) s m #[Value.int p0] below meth c s.heap [] 0 0 Q (F0 m 42 ls []))) : ∀ (ls : Array Slot), lv_has ls 4 [(0, .int x0), (1, .int x1), (2, .int x2), (3, .int x3)] → W p l e ({ frames := 0, cells := 0, slots := 0, locals := 0 } : Room) s m #[Value.int p0] below meth c s.heap [] 0 0 Q (F0 m 16 ls []) := by
  exact lp_rule (P := (fun u9 : Int32 × Int32 => ∀ (ls : Array Slot), lv_has ls 4 [(0, .int x0), (1, .int x1), (2, .int u9.1), (3, .int u9.2)] → W p l e ({ frames := 0, cells := 0, slots := 0, locals := 0 } : Room) s m #[Value.int p0] below meth c s.heap [] 0 0 Q (F0 m 16 ls []))) (R := (fun r9 : Nat × Int32 => (r9.1 = 0 → ∀ (ls : Array Slot), lv_has ls 4 [(1, .int x1), (3, .int r9.2)] → W p l e ({ frames := 0, cells := 0, slots := 0, locals := 0 } : Room) s m #[Value.int p0] below meth c s.heap [] 0 0 Q (F0 m 27 ls [])) ∧ (r9.1 = 1 → ∀ (ls : Array Slot), lv_has ls 4 [(1, .int x1)] → W p l e ({ frames := 0, cells := 0, slots := 0, locals := 0 } : Room) s m #[Value.int p0] below meth c s.heap [] 0 0 Q (F0 m 42 ls [])))) (fun u9 xx hF hC hE => wb_J6_stringSize_0f7a4_16 l E K (p0 := p0) (x0 := x0) (x1 := x1) (x2 := u9.1) (x3 := u9.2) hx hb hml hown hts hK hN (fun x2 x3 q9 => hC _ q9) (fun t9 x3 q9 => hE _ q9) hF hP) j9 (x2, x3) (t9', x3') hL hX

set_option maxHeartbeats 4000000 in
set_option maxRecDepth 100000 in
theorem j_J6_stringSize_0f7a4_11 {p : Program} (l : Launch) {e : Env} {s : State} {m : MethodId} {below : List Frame} {meth : Method} {c : Code} {Q : State → Prop} (E : EE) (K : Nat) {p0 : Int32} {x1 : Int32} {x0 : Int32} (hx : p.tables.exec = Jvm.exec) (hb : c.code = cJ6_stringSize_0f7a4) (hml : c.maxLocals = 4) (hown : s.vm.findClass RJ6 = some m.cls) (hts : ∀ w ∈ v_f_J6_stringSize_0f7a4, w.before #[Value.int p0] s = true) (hK : va_K E.1 vwCl (TY E) s) (hN : NX s) {rr : Int32} (hr : meth.sig.returnType = (some .int)) (hlocks : meth.locks = false) (hQ : Q = MQ below (vp_Si (fun q : Int32 => q = rr)) #[Value.int p0] s 0 0 (fun _ => False)) (hF : J_J6_stringSize_0f7a4_11 K x1 x0 = some rr) (hP : va_P E.1 vwCl [] s.heap) : ∀ (ls : Array Slot), lv_has ls 4 [(0, .int x0), (1, .int x1)] → W p l e ({ frames := 0, cells := 0, slots := 0, locals := 0 } : Room) s m #[Value.int p0] below meth c s.heap [] 0 0 Q (F0 m 11 ls []) := by
  unfold J_J6_stringSize_0f7a4_11 at hF
  replace hP : va_P E.1 vwCl [] s.heap := hP
  intro ls hl
  refine lv_bipush (v := -10) hx hb (dq_16 0 bcJ6_stringSize_0f7a4_0 (j := 11) (i := -10) rfl rfl rfl) (by decide) ?_
  refine lv_istore_n (lv' := [(2, .int (-10 : Int32)), (0, .int x0), (1, .int x1)]) hx hb (dq_61 0 bcJ6_stringSize_0f7a4_0 (j := 13) rfl rfl) rfl hl (by decide) rfl (fun ls hl => ?_)
  refine lv_iconst (v := 1) hx hb (dq_4 0 bcJ6_stringSize_0f7a4_0 (j := 14) rfl rfl) (by decide) ?_
  refine lv_istore_n (lv' := [(3, .int (1 : Int32)), (2, .int (-10 : Int32)), (0, .int x0), (1, .int x1)]) hx hb (dq_62 0 bcJ6_stringSize_0f7a4_0 (j := 15) rfl rfl) rfl hl (by decide) rfl (fun ls hl => ?_)
  replace hF := bd2_s hF
  obtain ⟨t_4, x3_5, hL_6, hF⟩ := hF
  refine lw_J6_stringSize_0f7a4_16 l E K (p0 := p0) (x0 := x0) (x1 := x1) hx hb hml hown hts hK hN hP K (-10 : Int32) (1 : Int32) t_4 x3_5 hL_6 ⟨?_, ?_⟩ ls (lv_sub hl [2, 3, 1, 0] rfl)
  ·
    intro t9
    replace hF := ip t9 hF
    intro ls hl
    refine lv_iload_n hx hb (dq_29 0 bcJ6_stringSize_0f7a4_0 (j := 27) rfl rfl) rfl (lv_at hl 1 rfl) ?_
    refine lv_iload_n hx hb (dq_27 0 bcJ6_stringSize_0f7a4_0 (j := 28) rfl rfl) rfl (lv_at hl 0 rfl) ?_
    refine lv_iadd hx hb (dq_96 0 bcJ6_stringSize_0f7a4_0 (j := 29) rfl rfl) ?_
    rw [hQ]
    obtain e9_0 := inj1 hF
    exact W.iret (v := x3_5 + x1) hx hb hr (fun tt ht hW => ⟨_, rfl, e9_0, ht⟩) (fun _ h => by cases h) (dq_172 0 bcJ6_stringSize_0f7a4_0 (j := 30) rfl rfl)
  ·
    intro t9
    replace hF := inn (show ¬ t_4 = 0 by omega) hF
    replace hF := ip t9 hF
    intro ls hl
    refine lv_bipush (v := 10) hx hb (dq_16 0 bcJ6_stringSize_0f7a4_0 (j := 42) (i := 10) rfl rfl rfl) (by decide) ?_
    refine lv_iload_n hx hb (dq_27 0 bcJ6_stringSize_0f7a4_0 (j := 44) rfl rfl) rfl (lv_at hl 0 rfl) ?_
    refine lv_iadd hx hb (dq_96 0 bcJ6_stringSize_0f7a4_0 (j := 45) rfl rfl) ?_
    rw [hQ]
    obtain e9_0 := inj1 hF
    exact W.iret (v := (10 : Int32) + x1) hx hb hr (fun tt ht hW => ⟨_, rfl, e9_0, ht⟩) (fun _ h => by cases h) (dq_172 0 bcJ6_stringSize_0f7a4_0 (j := 46) rfl rfl)

set_option maxHeartbeats 4000000 in
set_option maxRecDepth 100000 in
theorem f_J6_stringSize_0f7a4 (l : Launch) (E : EE) (K : Nat) {p0 : Int32} {rr : Int32} (hF : F_J6_stringSize_0f7a4 K p0 = some rr) : Met l yJ6_stringSize_0f7a4 v_f_J6_stringSize_0f7a4 (({ frames := 0, cells := 0, slots := 0, locals := 0 } : Room)) (va_Pc [.int p0] (pP E [])) (vp_Si (fun q : Int32 => q = rr)) 0 0 (fun _ => False) := by
  refine Met.ofWF (cc := cJ6_stringSize_0f7a4) (maxL := 4) (ret := (some .int)) (by decide +kernel) rfl ?_
  intro p e s m args below meth c s₁ B hml hv
  obtain ⟨rfl, ⟨hK, hN⟩, hP⟩ := hv
  have hx := B.exec
  have hb := B.bytes
  have hr := B.returns
  have hts := atoms_spec (ws := v_f_J6_stringSize_0f7a4) B.pre
  have hown : s.vm.findClass RJ6 = some m.cls := own_of hd_J6_stringSize_0f7a4.1 (findClass_of_methodNamed B.named)
  have hlocks : meth.locks = false := B.notSynchronized
  replace hP : va_P E.1 vwCl [] s.heap := hP
  have hl := lv_entry ([.int p0]) (n := 4) (Nat.le_of_ble_eq_true rfl)
  rw [lg_entry_eq]
  generalize (lg_sl ([.int p0]) ++ List.replicate (4 - (lg_sl ([.int p0])).length) Slot.unset).toArray = ls at hl ⊢
  have hl : lv_has ls 4 [(0, .int p0)] := hl
  obtain ⟨Q, hQ⟩ : ∃ Q : State → Prop, Q = MQ below (vp_Si (fun q : Int32 => q = rr)) #[Value.int p0] s 0 0 (fun _ => False) := ⟨_, rfl⟩
  rw [← hQ]
  change W p l e ({ frames := 0, cells := 0, slots := 0, locals := 0 } : Room) s m #[Value.int p0] below meth c s.heap [] 0 0 Q (F0 m 0 ls [])
  unfold F_J6_stringSize_0f7a4 at hF
  refine lv_iconst (v := 1) hx hb (dq_4 0 bcJ6_stringSize_0f7a4_0 (j := 0) rfl rfl) (by decide) ?_
  refine lv_istore_n (lv' := [(1, .int (1 : Int32)), (0, .int p0)]) hx hb (dq_60 0 bcJ6_stringSize_0f7a4_0 (j := 1) rfl rfl) rfl hl (by decide) rfl (fun ls hl => ?_)
  refine lv_iload_n hx hb (dq_26 0 bcJ6_stringSize_0f7a4_0 (j := 2) rfl rfl) rfl (lv_at hl 1 rfl) ?_
  refine lv_if_lt (tgt := 11) hx hb (dq_155 0 bcJ6_stringSize_0f7a4_0 (j := 3) (i := 8) rfl rfl rfl) (by decide) (fun c_1 => ?_) (fun c_1 => ?_)
  ·
    replace hF := ip c_1 hF
    exact j_J6_stringSize_0f7a4_11 l E K (p0 := p0) (x1 := (1 : Int32)) (x0 := p0) hx hb hml hown hts hK hN hr hlocks hQ hF hP ls (lv_sub hl [1, 0] rfl)
  ·
    replace hF := inn c_1 hF
    refine lv_iconst (v := 0) hx hb (dq_3 0 bcJ6_stringSize_0f7a4_0 (j := 6) rfl rfl) (by decide) ?_
    refine lv_istore_n (lv' := [(1, .int (0 : Int32)), (0, .int p0)]) hx hb (dq_60 0 bcJ6_stringSize_0f7a4_0 (j := 7) rfl rfl) rfl hl (by decide) rfl (fun ls hl => ?_)
    refine lv_iload_n hx hb (dq_26 0 bcJ6_stringSize_0f7a4_0 (j := 8) rfl rfl) rfl (lv_at hl 1 rfl) ?_
    refine lv_ineg hx hb (dq_116 0 bcJ6_stringSize_0f7a4_0 (j := 9) rfl rfl) ?_
    refine lv_istore_n (lv' := [(0, .int (-p0)), (1, .int (0 : Int32))]) hx hb (dq_59 0 bcJ6_stringSize_0f7a4_0 (j := 10) rfl rfl) rfl hl (by decide) rfl (fun ls hl => ?_)
    exact j_J6_stringSize_0f7a4_11 l E K (p0 := p0) (x1 := (0 : Int32)) (x0 := -p0) hx hb hml hown hts hK hN hr hlocks hQ hF hP ls (lv_sub hl [0, 1] rfl)

def B_J6_getChars_ba4f3_22 (m9 : Nat) (x0 : Int32) (x5 : Int32) (c_o2 : Nat → Int32) : Option ((Int32 × Int32 × (Nat → Int32)) ⊕ (Int32 × Int32 × (Nat → Int32))) :=
  if (-100 : Int32) < x0 then some (.inr (x0, x5, c_o2)) else ixF (((x0 / (100 : Int32)) * (100 : Int32)) - x0) 100 (ixF (x5 + (-1 : Int32)) m9 (nmF (upd c_o2 (x5 + (-1 : Int32)).toNatClampNeg (vp_nar .byte (onesF (((x0 / (100 : Int32)) * (100 : Int32)) - x0).toNatClampNeg))) (fun f_6 => ixF (((x0 / (100 : Int32)) * (100 : Int32)) - x0) 100 (ixF ((x5 + (-1 : Int32)) + (-1 : Int32)) m9 (nmF (upd f_6 ((x5 + (-1 : Int32)) + (-1 : Int32)).toNatClampNeg (vp_nar .byte (tensF (((x0 / (100 : Int32)) * (100 : Int32)) - x0).toNatClampNeg))) (fun f_9 => some (.inl (x0 / (100 : Int32), (x5 + (-1 : Int32)) + (-1 : Int32), f_9))))))))
def J_J6_getChars_ba4f3_12 (K : Nat) (m9 : Nat) (k0 : Int32) (x0 : Int32) (x5 : Int32) (c_o2 : Nat → Int32) : Option (Int32 × (Nat → Int32)) :=
  if k0 = (0 : Int32) then bd3 (lpF (fun u9 : Int32 × Int32 × (Nat → Int32) => B_J6_getChars_ba4f3_22 m9 u9.1 u9.2.1 u9.2.2) K (-x0, x5, c_o2)) (fun x0_27 x5_28 c_o2_29 => ixF (-x0_27) 100 (ixF (x5_28 + (-1 : Int32)) m9 (nmF (upd c_o2_29 (x5_28 + (-1 : Int32)).toNatClampNeg (vp_nar .byte (onesF (-x0_27).toNatClampNeg))) (fun f_33 => if (-9 : Int32) ≤ x0_27 then if k0 = (0 : Int32) then some (x5_28 + (-1 : Int32), f_33) else ixF ((x5_28 + (-1 : Int32)) + (-1 : Int32)) m9 (nmF (upd f_33 ((x5_28 + (-1 : Int32)) + (-1 : Int32)).toNatClampNeg (vp_nar .byte (45 : Int32))) (fun f_37 => some ((x5_28 + (-1 : Int32)) + (-1 : Int32), f_37))) else ixF (-x0_27) 100 (ixF ((x5_28 + (-1 : Int32)) + (-1 : Int32)) m9 (nmF (upd f_33 ((x5_28 + (-1 : Int32)) + (-1 : Int32)).toNatClampNeg (vp_nar .byte (tensF (-x0_27).toNatClampNeg))) (fun f_40 => if k0 = (0 : Int32) then some ((x5_28 + (-1 : Int32)) + (-1 : Int32), f_40) else ixF (((x5_28 + (-1 : Int32)) + (-1 : Int32)) + (-1 : Int32)) m9 (nmF (upd f_40 (((x5_28 + (-1 : Int32)) + (-1 : Int32)) + (-1 : Int32)).toNatClampNeg (vp_nar .byte (45 : Int32))) (fun f_43 => some (((x5_28 + (-1 : Int32)) + (-1 : Int32)) + (-1 : Int32), f_43)))))))))) else bd3 (lpF (fun u9 : Int32 × Int32 × (Nat → Int32) => B_J6_getChars_ba4f3_22 m9 u9.1 u9.2.1 u9.2.2) K (x0, x5, c_o2)) (fun x0_10 x5_11 c_o2_12 => ixF (-x0_10) 100 (ixF (x5_11 + (-1 : Int32)) m9 (nmF (upd c_o2_12 (x5_11 + (-1 : Int32)).toNatClampNeg (vp_nar .byte (onesF (-x0_10).toNatClampNeg))) (fun f_16 => if (-9 : Int32) ≤ x0_10 then if k0 = (0 : Int32) then some (x5_11 + (-1 : Int32), f_16) else ixF ((x5_11 + (-1 : Int32)) + (-1 : Int32)) m9 (nmF (upd f_16 ((x5_11 + (-1 : Int32)) + (-1 : Int32)).toNatClampNeg (vp_nar .byte (45 : Int32))) (fun f_20 => some ((x5_11 + (-1 : Int32)) + (-1 : Int32), f_20))) else ixF (-x0_10) 100 (ixF ((x5_11 + (-1 : Int32)) + (-1 : Int32)) m9 (nmF (upd f_16 ((x5_11 + (-1 : Int32)) + (-1 : Int32)).toNatClampNeg (vp_nar .byte (tensF (-x0_10).toNatClampNeg))) (fun f_23 => if k0 = (0 : Int32) then some ((x5_11 + (-1 : Int32)) + (-1 : Int32), f_23) else ixF (((x5_11 + (-1 : Int32)) + (-1 : Int32)) + (-1 : Int32)) m9 (nmF (upd f_23 (((x5_11 + (-1 : Int32)) + (-1 : Int32)) + (-1 : Int32)).toNatClampNeg (vp_nar .byte (45 : Int32))) (fun f_26 => some (((x5_11 + (-1 : Int32)) + (-1 : Int32)) + (-1 : Int32), f_26))))))))))
def F_J6_getChars_ba4f3 (K : Nat) (p0 : Int32) (p1 : Int32) (c_o2 : Nat → Int32) (m9 : Nat) : Option (Int32 × (Nat → Int32)) :=
  if (0 : Int32) ≤ p0 then J_J6_getChars_ba4f3_12 K m9 (0 : Int32) p0 p1 c_o2 else J_J6_getChars_ba4f3_12 K m9 (1 : Int32) p0 p1 c_o2
abbrev w_J6_getChars_ba4f3 (E : EE) (a_o2 : Nat) (c_o2 : Nat → Int32) (m9 : Nat) : va_W := [k_B E a_o2 m9 c_o2]
def v_f_J6_getChars_ba4f3 : List Cond := List.cons (.code yJ6_getChars_ba4f3 cJ6_getChars_ba4f3 7 (some .int)) (HAppend.hAppend (α := List Cond) (β := List Cond) (γ := List Cond) [.fieldLink RJ6 83 "java/lang/Integer" "DigitOnes" "[B", .fieldLink RJ6 87 "java/lang/Integer" "DigitTens" "[B"] [])
theorem gw_f_J6_getChars_ba4f3 : v_f_J6_getChars_ba4f3.all goodWord = true := gw_c2 (by decide +kernel) gw_nil
theorem hd_J6_getChars_ba4f3 : yJ6_getChars_ba4f3.cls = RJ6 ∧ yJ6_getChars_ba4f3.cls ≠ "java/lang/invoke/MethodHandle" ∧ yJ6_getChars_ba4f3.cls ≠ "java/lang/invoke/VarHandle" ∧ (parseMethodDescriptor yJ6_getChars_ba4f3.desc).map (fun d => d.parameters.length) = some 3 := by decide +kernel
set_option maxHeartbeats 4000000 in
set_option maxRecDepth 100000 in
theorem wb_J6_getChars_ba4f3_22 {p : Program} (l : Launch) {e : Env} {s : State} {m : MethodId} {below : List Frame} {meth : Method} {c : Code} {Q : State → Prop} (E : EE) (K : Nat) {z9 : Nat → Nat} {a_o2 : Nat} {p0 : Int32} {p1 : Int32} {m9 : Nat} {x0 : Int32} {x5 : Int32} {x6 : Int32} {c_o2 : Nat → Int32} (hx : p.tables.exec = Jvm.exec) (hb : c.code = cJ6_getChars_ba4f3) (hml : c.maxLocals = 7) (hown : s.vm.findClass RJ6 = some m.cls) (hts : ∀ w ∈ v_f_J6_getChars_ba4f3, w.before #[Value.int p0, Value.int p1, Value.ref a_o2] s = true) (hK : va_K E.1 vwCl (TY E) s) (hN : NX s) {A : Nat → Prop} (hA : ∀ q : Nat, s.heap.size ≤ q → A q) (hZ : ZZ z9 A s s.heap) {xx : (Int32 × Int32 × (Nat → Int32)) ⊕ (Int32 × Int32 × (Nat → Int32))} (hC : ∀ (x0 : Int32), ∀ (x5 : Int32), ∀ (c_o2 : Nat → Int32), xx = .inl (x0, x5, c_o2) → ∀ (H : Heap) (locs : List Loc) (ls : Array Slot), va_P E.1 vwCl (w_J6_getChars_ba4f3 E a_o2 c_o2 m9) H → va_D A (w_J6_getChars_ba4f3 E a_o2 c_o2 m9) → va_S A s.heap H locs → lv_has ls 7 [(0, .int x0), (2, .ref a_o2), (5, .int x5), (6, .int x6)] → W p l e ({ frames := 0, cells := 0, slots := 0, locals := 0 } : Room) s m #[Value.int p0, Value.int p1, Value.ref a_o2] below meth c H locs 0 0 Q (F0 m 22 ls [])) (hE : ∀ (x0 : Int32), ∀ (x5 : Int32), ∀ (c_o2 : Nat → Int32), xx = .inr (x0, x5, c_o2) → ((∀ (H : Heap) (locs : List Loc) (ls : Array Slot), va_P E.1 vwCl (w_J6_getChars_ba4f3 E a_o2 c_o2 m9) H → va_D A (w_J6_getChars_ba4f3 E a_o2 c_o2 m9) → va_S A s.heap H locs → lv_has ls 7 [(0, .int x0), (2, .ref a_o2), (5, .int x5), (6, .int x6)] → W p l e ({ frames := 0, cells := 0, slots := 0, locals := 0 } : Room) s m #[Value.int p0, Value.int p1, Value.ref a_o2] below meth c H locs 0 0 Q (F0 m 72 ls [])))) (hF : B_J6_getChars_ba4f3_22 m9 x0 x5 c_o2 = some xx) : ∀ (H : Heap) (locs : List Loc) (ls : Array Slot), va_P E.1 vwCl (w_J6_getChars_ba4f3 E a_o2 c_o2 m9) H → va_D A (w_J6_getChars_ba4f3 E a_o2 c_o2 m9) → va_S A s.heap H locs → lv_has ls 7 [(0, .int x0), (2, .ref a_o2), (5, .int x5), (6, .int x6)] → W p l e ({ frames := 0, cells := 0, slots := 0, locals := 0 } : Room) s m #[Value.int p0, Value.int p1, Value.ref a_o2] below meth c H locs 0 0 Q (F0 m 22 ls []) := by
  unfold B_J6_getChars_ba4f3_22 at hF
  intro H locs ls hP hD hS hl
  have h9 := fixPD (ws' := [k_B E a_o2 m9 c_o2]) hP hD rfl
  clear hP hD
  obtain ⟨hP, hD⟩ := h9
  refine lv_iload_n hx hb (dq_26 0 bcJ6_getChars_ba4f3_0 (j := 22) rfl rfl) rfl (lv_at hl 0 rfl) ?_
  refine lv_bipush (v := -100) hx hb (dq_16 0 bcJ6_getChars_ba4f3_0 (j := 23) (i := -100) rfl rfl rfl) (by decide) ?_
  refine lv_icmp_gt (tgt := 72) hx hb (dq_163 0 bcJ6_getChars_ba4f3_0 (j := 25) (i := 47) rfl rfl rfl) (by decide) (fun c_3 => ?_) (fun c_3 => ?_)
  ·
    replace hF := ip c_3 hF
    cases hF
    exact hE x0 x5 c_o2 rfl H locs ls (hP.sub [0] rfl) (hD.sub [0] (by decide) rfl) hS (lv_sub hl [0, 1, 2, 3] rfl)
  ·
    replace hF := inn c_3 hF
    refine lv_iload_n hx hb (dq_26 0 bcJ6_getChars_ba4f3_0 (j := 28) rfl rfl) rfl (lv_at hl 0 rfl) ?_
    refine lv_bipush (v := 100) hx hb (dq_16 0 bcJ6_getChars_ba4f3_0 (j := 29) (i := 100) rfl rfl rfl) (by decide) ?_
    refine lv_idiv hx hb (dq_108 0 bcJ6_getChars_ba4f3_0 (j := 31) rfl rfl) (by decide) ?_
    refine lv_istore_n (lv' := [(3, .int (x0 / (100 : Int32))), (0, .int x0), (2, .ref a_o2), (5, .int x5), (6, .int x6)]) hx hb (dq_62 0 bcJ6_getChars_ba4f3_0 (j := 32) rfl rfl) rfl hl (by decide) rfl (fun ls hl => ?_)
    refine lv_iload_n hx hb (dq_29 0 bcJ6_getChars_ba4f3_0 (j := 33) rfl rfl) rfl (lv_at hl 0 rfl) ?_
    refine lv_bipush (v := 100) hx hb (dq_16 0 bcJ6_getChars_ba4f3_0 (j := 34) (i := 100) rfl rfl rfl) (by decide) ?_
    refine lv_imul hx hb (dq_104 0 bcJ6_getChars_ba4f3_0 (j := 36) rfl rfl) ?_
    refine lv_iload_n hx hb (dq_26 0 bcJ6_getChars_ba4f3_0 (j := 37) rfl rfl) rfl (lv_at hl 1 rfl) ?_
    refine lv_isub hx hb (dq_100 0 bcJ6_getChars_ba4f3_0 (j := 38) rfl rfl) ?_
    refine lv_istore (lv' := [(4, .int (((x0 / (100 : Int32)) * (100 : Int32)) - x0)), (3, .int (x0 / (100 : Int32))), (0, .int x0), (2, .ref a_o2), (5, .int x5), (6, .int x6)]) hx hb (dq_54 0 bcJ6_getChars_ba4f3_0 (j := 39) (i := 4) rfl rfl) hl (by decide) rfl (fun ls hl => ?_)
    refine lv_iload_n hx hb (dq_29 0 bcJ6_getChars_ba4f3_0 (j := 41) rfl rfl) rfl (lv_at hl 1 rfl) ?_
    refine lv_istore_n (lv' := [(0, .int (x0 / (100 : Int32))), (4, .int (((x0 / (100 : Int32)) * (100 : Int32)) - x0)), (3, .int (x0 / (100 : Int32))), (2, .ref a_o2), (5, .int x5), (6, .int x6)]) hx hb (dq_59 0 bcJ6_getChars_ba4f3_0 (j := 42) rfl rfl) rfl hl (by decide) rfl (fun ls hl => ?_)
    refine lv_aload_n hx hb (dq_44 0 bcJ6_getChars_ba4f3_0 (j := 43) rfl rfl) rfl (lv_at hl 3 rfl) ?_
    refine lv_iinc (v := x5 + (-1 : Int32)) (lv' := [(5, .int (x5 + (-1 : Int32))), (0, .int (x0 / (100 : Int32))), (4, .int (((x0 / (100 : Int32)) * (100 : Int32)) - x0)), (3, .int (x0 / (100 : Int32))), (2, .ref a_o2), (6, .int x6)]) hx hb (dq_132 0 bcJ6_getChars_ba4f3_0 (j := 44) (i := -1) rfl rfl rfl) hl (k := 4) rfl (by exact rfl) (by decide) rfl (fun ls hl => ?_)
    refine lv_iload hx hb (dq_21 0 bcJ6_getChars_ba4f3_0 (j := 47) (i := 5) rfl rfl) (lv_at hl 0 rfl) ?_
    refine va_gets hx hb hZ.2.2.1.2.1 hS hown (hts (.fieldLink RJ6 83 "java/lang/Integer" "DigitOnes" "[B") (List.mem_of_getElem? (i := 1) rfl)) (fun _ h9 => h9) (dq_178 48 bcJ6_getChars_ba4f3_1 (j := 1) (i := 83) rfl rfl rfl) ?_
    refine lv_iload hx hb (dq_21 48 bcJ6_getChars_ba4f3_1 (j := 4) (i := 4) rfl rfl) (lv_at hl 2 rfl) ?_
    replace hF := ix_s hF
    obtain ⟨hi_4, hF⟩ := hF
    refine va_tb (v := .int (onesF (((x0 / (100 : Int32)) * (100 : Int32)) - x0).toNatClampNeg)) hx hb (hZ.2.2.1.2.2.1) hS hi_4 rfl (dq_51 48 bcJ6_getChars_ba4f3_1 (j := 6) rfl rfl) ?_
    replace hF := ix_s hF
    obtain ⟨hi_5, hF⟩ := hF
    refine va_bast hx hb hK hP hD hS 0 1 rfl rfl hi_5 (dq_84 48 bcJ6_getChars_ba4f3_1 (j := 7) rfl rfl) (fun H locs hP hD hS => ?_)
    have h9 := fixPD (ws' := [k_B E a_o2 m9 (upd c_o2 (x5 + (-1 : Int32)).toNatClampNeg (vp_nar .byte (onesF (((x0 / (100 : Int32)) * (100 : Int32)) - x0).toNatClampNeg)))]) hP hD rfl
    clear hP hD
    obtain ⟨hP, hD⟩ := h9
    replace hF := nm_s hF
    obtain ⟨f_6, hf_6, hF⟩ := hF
    rw [← hf_6] at hP hD
    refine lv_aload_n hx hb (dq_44 48 bcJ6_getChars_ba4f3_1 (j := 8) rfl rfl) rfl (lv_at hl 4 rfl) ?_
    refine lv_iinc (v := (x5 + (-1 : Int32)) + (-1 : Int32)) (lv' := [(5, .int ((x5 + (-1 : Int32)) + (-1 : Int32))), (0, .int (x0 / (100 : Int32))), (4, .int (((x0 / (100 : Int32)) * (100 : Int32)) - x0)), (3, .int (x0 / (100 : Int32))), (2, .ref a_o2), (6, .int x6)]) hx hb (dq_132 48 bcJ6_getChars_ba4f3_1 (j := 9) (i := -1) rfl rfl rfl) hl (k := 0) rfl (by exact rfl) (by decide) rfl (fun ls hl => ?_)
    refine lv_iload hx hb (dq_21 48 bcJ6_getChars_ba4f3_1 (j := 12) (i := 5) rfl rfl) (lv_at hl 0 rfl) ?_
    refine va_gets hx hb hZ.2.2.1.2.2.2.1 hS hown (hts (.fieldLink RJ6 87 "java/lang/Integer" "DigitTens" "[B") (List.mem_of_getElem? (i := 2) rfl)) (fun _ h9 => h9) (dq_178 48 bcJ6_getChars_ba4f3_1 (j := 14) (i := 87) rfl rfl rfl) ?_
    refine lv_iload hx hb (dq_21 48 bcJ6_getChars_ba4f3_1 (j := 17) (i := 4) rfl rfl) (lv_at hl 2 rfl) ?_
    replace hF := ix_s hF
    obtain ⟨hi_7, hF⟩ := hF
    refine va_tb (v := .int (tensF (((x0 / (100 : Int32)) * (100 : Int32)) - x0).toNatClampNeg)) hx hb (hZ.2.2.1.2.2.2.2.1) hS hi_7 rfl (dq_51 48 bcJ6_getChars_ba4f3_1 (j := 19) rfl rfl) ?_
    replace hF := ix_s hF
    obtain ⟨hi_8, hF⟩ := hF
    refine va_bast hx hb hK hP hD hS 0 1 rfl rfl hi_8 (dq_84 48 bcJ6_getChars_ba4f3_1 (j := 20) rfl rfl) (fun H locs hP hD hS => ?_)
    have h9 := fixPD (ws' := [k_B E a_o2 m9 (upd f_6 ((x5 + (-1 : Int32)) + (-1 : Int32)).toNatClampNeg (vp_nar .byte (tensF (((x0 / (100 : Int32)) * (100 : Int32)) - x0).toNatClampNeg)))]) hP hD rfl
    clear hP hD
    obtain ⟨hP, hD⟩ := h9
    replace hF := nm_s hF
    obtain ⟨f_9, hf_9, hF⟩ := hF
    rw [← hf_9] at hP hD
    refine lv_goto (tgt := 22) hx hb (dq_167 48 bcJ6_getChars_ba4f3_1 (j := 21) (i := -47) rfl rfl rfl) (by decide) ?_
    cases hF
    exact hC (x0 / (100 : Int32)) ((x5 + (-1 : Int32)) + (-1 : Int32)) f_9 rfl H locs ls (hP.sub [0] rfl) (hD.sub [0] (by decide) rfl) hS (lv_sub hl [1, 4, 0, 5] rfl)

set_option maxHeartbeats 4000000 in
set_option maxRecDepth 100000 in
theorem lw_J6_getChars_ba4f3_22 {p : Program} (l : Launch) {e : Env} {s : State} {m : MethodId} {below : List Frame} {meth : Method} {c : Code} {Q : State → Prop} (E : EE) (K : Nat) {z9 : Nat → Nat} {a_o2 : Nat} {p0 : Int32} {p1 : Int32} {m9 : Nat} {x6 : Int32} (hx : p.tables.exec = Jvm.exec) (hb : c.code = cJ6_getChars_ba4f3) (hml : c.maxLocals = 7) (hown : s.vm.findClass RJ6 = some m.cls) (hts : ∀ w ∈ v_f_J6_getChars_ba4f3, w.before #[Value.int p0, Value.int p1, Value.ref a_o2] s = true) (hK : va_K E.1 vwCl (TY E) s) (hN : NX s) {A : Nat → Prop} (hA : ∀ q : Nat, s.heap.size ≤ q → A q) (hZ : ZZ z9 A s s.heap) (j9 : Nat) (x0 : Int32) (x5 : Int32) (c_o2 : Nat → Int32) (x0' : Int32) (x5' : Int32) (c_o2' : Nat → Int32) (hL : lpF (fun u9 : Int32 × Int32 × (Nat → Int32) => B_J6_getChars_ba4f3_22 m9 u9.1 u9.2.1 u9.2.2) j9 (x0, x5, c_o2) = some (x0', x5', c_o2')) (hX : (∀ (H : Heap) (locs : List Loc) (ls : Array Slot), va_P E.1 vwCl (w_J6_getChars_ba4f3 E a_o2 c_o2' m9) H → va_D A (w_J6_getChars_ba4f3 E a_o2 c_o2' m9) → va_S A s.heap H locs → lv_has ls 7 [(0, .int x0'), (2, .ref a_o2), (5, .int x5'), (6, .int x6)] → W p l e ({ frames := 0, cells := 0, slots := 0, locals := 0 } : Room) s m #[Value.int p0, Value.int p1, Value.ref a_o2] below meth c H locs 0 0 Q (F0 m 72 ls []))) : ∀ (H : Heap) (locs : List Loc) (ls : Array Slot), va_P E.1 vwCl (w_J6_getChars_ba4f3 E a_o2 c_o2 m9) H → va_D A (w_J6_getChars_ba4f3 E a_o2 c_o2 m9) → va_S A s.heap H locs → lv_has ls 7 [(0, .int x0), (2, .ref a_o2), (5, .int x5), (6, .int x6)] → W p l e ({ frames := 0, cells := 0, slots := 0, locals := 0 } : Room) s m #[Value.int p0, Value.int p1, Value.ref a_o2] below meth c H locs 0 0 Q (F0 m 22 ls []) := by
  exact lp_rule (P := (fun u9 : Int32 × Int32 × (Nat → Int32) => ∀ (H : Heap) (locs : List Loc) (ls : Array Slot), va_P E.1 vwCl (w_J6_getChars_ba4f3 E a_o2 u9.2.2 m9) H → va_D A (w_J6_getChars_ba4f3 E a_o2 u9.2.2 m9) → va_S A s.heap H locs → lv_has ls 7 [(0, .int u9.1), (2, .ref a_o2), (5, .int u9.2.1), (6, .int x6)] → W p l e ({ frames := 0, cells := 0, slots := 0, locals := 0 } : Room) s m #[Value.int p0, Value.int p1, Value.ref a_o2] below meth c H locs 0 0 Q (F0 m 22 ls []))) (R := (fun r9 : Int32 × Int32 × (Nat → Int32) => (∀ (H : Heap) (locs : List Loc) (ls : Array Slot), va_P E.1 vwCl (w_J6_getChars_ba4f3 E a_o2 r9.2.2 m9) H → va_D A (w_J6_getChars_ba4f3 E a_o2 r9.2.2 m9) → va_S A s.heap H locs → lv_has ls 7 [(0, .int r9.1), (2, .ref a_o2), (5, .int r9.2.1), (6, .int x6)] → W p l e ({ frames := 0, cells := 0, slots := 0, locals := 0 } : Room) s m #[Value.int p0, Value.int p1, Value.ref a_o2] below meth c H locs 0 0 Q (F0 m 72 ls [])))) (fun u9 xx hF hC hE => wb_J6_getChars_ba4f3_22 l E K (p0 := p0) (p1 := p1) (m9 := m9) (x0 := u9.1) (x5 := u9.2.1) (x6 := x6) (c_o2 := u9.2.2) hx hb hml hown hts hK hN hA hZ (fun x0 x5 c_o2 q9 => hC _ q9) (fun x0 x5 c_o2 q9 => hE _ q9) hF) j9 (x0, x5, c_o2) (x0', x5', c_o2') hL hX

set_option maxHeartbeats 4000000 in
set_option maxRecDepth 100000 in
theorem j_J6_getChars_ba4f3_12 {p : Program} (l : Launch) {e : Env} {s : State} {m : MethodId} {below : List Frame} {meth : Method} {c : Code} {Q : State → Prop} (E : EE) (K : Nat) {z9 : Nat → Nat} {a_o2 : Nat} {p0 : Int32} {p1 : Int32} {m9 : Nat} {k0 : Int32} {x0 : Int32} {x5 : Int32} {c_o2 : Nat → Int32} (hx : p.tables.exec = Jvm.exec) (hb : c.code = cJ6_getChars_ba4f3) (hml : c.maxLocals = 7) (hown : s.vm.findClass RJ6 = some m.cls) (hts : ∀ w ∈ v_f_J6_getChars_ba4f3, w.before #[Value.int p0, Value.int p1, Value.ref a_o2] s = true) (hK : va_K E.1 vwCl (TY E) s) (hN : NX s) {A : Nat → Prop} (hA : ∀ q : Nat, s.heap.size ≤ q → A q) (hZ : ZZ z9 A s s.heap) {rr : Int32} {n_o2 : Nat → Int32} (hr : meth.sig.returnType = (some .int)) (hlocks : meth.locks = false) (hQ : Q = MQ below (va_Qi (fun (q : Int32) (_u : Unit) => q = rr) (fun (_u : Unit) tt => va_P E.1 vwCl (w_J6_getChars_ba4f3 E a_o2 n_o2 m9) tt.heap ∧ va_D A (w_J6_getChars_ba4f3 E a_o2 n_o2 m9)) A) #[Value.int p0, Value.int p1, Value.ref a_o2] s 0 0 A) (hF : J_J6_getChars_ba4f3_12 K m9 k0 x0 x5 c_o2 = some (rr, n_o2)) : ∀ (H : Heap) (locs : List Loc) (ls : Array Slot), va_P E.1 vwCl (w_J6_getChars_ba4f3 E a_o2 c_o2 m9) H → va_D A (w_J6_getChars_ba4f3 E a_o2 c_o2 m9) → va_S A s.heap H locs → lv_has ls 7 [(0, .int x0), (2, .ref a_o2), (5, .int x5)] → W p l e ({ frames := 0, cells := 0, slots := 0, locals := 0 } : Room) s m #[Value.int p0, Value.int p1, Value.ref a_o2] below meth c H locs 0 0 Q (F0 m 12 ls [.int k0]) := by
  unfold J_J6_getChars_ba4f3_12 at hF
  intro H locs ls hP hD hS hl
  have h9 := fixPD (ws' := [k_B E a_o2 m9 c_o2]) hP hD rfl
  clear hP hD
  obtain ⟨hP, hD⟩ := h9
  refine lv_istore (lv' := [(6, .int k0), (0, .int x0), (2, .ref a_o2), (5, .int x5)]) hx hb (dq_54 0 bcJ6_getChars_ba4f3_0 (j := 12) (i := 6) rfl rfl) hl (by decide) rfl (fun ls hl => ?_)
  refine lv_iload hx hb (dq_21 0 bcJ6_getChars_ba4f3_0 (j := 14) (i := 6) rfl rfl) (lv_at hl 0 rfl) ?_
  refine lv_if_ne (tgt := 22) hx hb (dq_154 0 bcJ6_getChars_ba4f3_0 (j := 16) (i := 6) rfl rfl rfl) (by decide) (fun c_2 => ?_) (fun c_2 => ?_)
  ·
    replace hF := inn c_2 hF
    replace hF := bd3_s hF
    obtain ⟨x0_10, x5_11, c_o2_12, hL_13, hF⟩ := hF
    refine lw_J6_getChars_ba4f3_22 l E K (p0 := p0) (p1 := p1) (m9 := m9) (x6 := k0) hx hb hml hown hts hK hN hA hZ K x0 x5 c_o2 x0_10 x5_11 c_o2_12 hL_13 ?_ H locs ls (hP.sub [0] rfl) (hD.sub [0] (by decide) rfl) hS (lv_sub hl [1, 2, 3, 0] rfl)
    ·
      intro H locs ls hP hD hS hl
      have h9 := fixPD (ws' := [k_B E a_o2 m9 c_o2_12]) hP hD rfl
      clear hP hD
      obtain ⟨hP, hD⟩ := h9
      refine lv_aload_n hx hb (dq_44 48 bcJ6_getChars_ba4f3_1 (j := 24) rfl rfl) rfl (lv_at hl 1 rfl) ?_
      refine lv_iinc (v := x5_11 + (-1 : Int32)) (lv' := [(5, .int (x5_11 + (-1 : Int32))), (0, .int x0_10), (2, .ref a_o2), (6, .int k0)]) hx hb (dq_132 48 bcJ6_getChars_ba4f3_1 (j := 25) (i := -1) rfl rfl rfl) hl (k := 2) rfl (by exact rfl) (by decide) rfl (fun ls hl => ?_)
      refine lv_iload hx hb (dq_21 48 bcJ6_getChars_ba4f3_1 (j := 28) (i := 5) rfl rfl) (lv_at hl 0 rfl) ?_
      refine va_gets hx hb hZ.2.2.1.2.1 hS hown (hts (.fieldLink RJ6 83 "java/lang/Integer" "DigitOnes" "[B") (List.mem_of_getElem? (i := 1) rfl)) (fun _ h9 => h9) (dq_178 48 bcJ6_getChars_ba4f3_1 (j := 30) (i := 83) rfl rfl rfl) ?_
      refine lv_iload_n hx hb (dq_26 48 bcJ6_getChars_ba4f3_1 (j := 33) rfl rfl) rfl (lv_at hl 1 rfl) ?_
      refine lv_ineg hx hb (dq_116 48 bcJ6_getChars_ba4f3_1 (j := 34) rfl rfl) ?_
      replace hF := ix_s hF
      obtain ⟨hi_14, hF⟩ := hF
      refine va_tb (v := .int (onesF (-x0_10).toNatClampNeg)) hx hb (hZ.2.2.1.2.2.1) hS hi_14 rfl (dq_51 48 bcJ6_getChars_ba4f3_1 (j := 35) rfl rfl) ?_
      replace hF := ix_s hF
      obtain ⟨hi_15, hF⟩ := hF
      refine va_bast hx hb hK hP hD hS 0 1 rfl rfl hi_15 (dq_84 48 bcJ6_getChars_ba4f3_1 (j := 36) rfl rfl) (fun H locs hP hD hS => ?_)
      have h9 := fixPD (ws' := [k_B E a_o2 m9 (upd c_o2_12 (x5_11 + (-1 : Int32)).toNatClampNeg (vp_nar .byte (onesF (-x0_10).toNatClampNeg)))]) hP hD rfl
      clear hP hD
      obtain ⟨hP, hD⟩ := h9
      replace hF := nm_s hF
      obtain ⟨f_16, hf_16, hF⟩ := hF
      rw [← hf_16] at hP hD
      refine lv_iload_n hx hb (dq_26 48 bcJ6_getChars_ba4f3_1 (j := 37) rfl rfl) rfl (lv_at hl 1 rfl) ?_
      refine lv_bipush (v := -9) hx hb (dq_16 48 bcJ6_getChars_ba4f3_1 (j := 38) (i := -9) rfl rfl rfl) (by decide) ?_
      refine lv_icmp_ge (tgt := 104) hx hb (dq_162 48 bcJ6_getChars_ba4f3_1 (j := 40) (i := 16) rfl rfl rfl) (by decide) (fun c_17 => ?_) (fun c_17 => ?_)
      ·
        replace hF := ip c_17 hF
        refine lv_iload hx hb (dq_21 96 bcJ6_getChars_ba4f3_2 (j := 8) (i := 6) rfl rfl) (lv_at hl 3 rfl) ?_
        refine lv_if_eq (tgt := 118) hx hb (dq_153 96 bcJ6_getChars_ba4f3_2 (j := 10) (i := 12) rfl rfl rfl) (by decide) (fun c_18 => ?_) (fun c_18 => ?_)
        ·
          replace hF := ip c_18 hF
          refine lv_iload hx hb (dq_21 96 bcJ6_getChars_ba4f3_2 (j := 22) (i := 5) rfl rfl) (lv_at hl 0 rfl) ?_
          rw [hQ]
          have h9 := fin9 (P := fun u9 : Int32 × (Nat → Int32) => (x5_11 + (-1 : Int32)) = u9.1 ∧ va_P E.1 vwCl (w_J6_getChars_ba4f3 E a_o2 u9.2 m9) H ∧ va_D A (w_J6_getChars_ba4f3 E a_o2 u9.2 m9)) hF ⟨rfl, hP, hD⟩
          obtain ⟨e9_0, hP9, hD9⟩ := h9
          exact W.iret (v := x5_11 + (-1 : Int32)) hx hb hr (fun tt ht hW => ⟨⟨_, (), rfl, e9_0, ht ▸ hP9, hD9⟩, hS.F ht⟩) hS.2.2 (dq_172 96 bcJ6_getChars_ba4f3_2 (j := 24) rfl rfl)
        ·
          replace hF := inn c_18 hF
          refine lv_aload_n hx hb (dq_44 96 bcJ6_getChars_ba4f3_2 (j := 13) rfl rfl) rfl (lv_at hl 2 rfl) ?_
          refine lv_iinc (v := (x5_11 + (-1 : Int32)) + (-1 : Int32)) (lv' := [(5, .int ((x5_11 + (-1 : Int32)) + (-1 : Int32))), (0, .int x0_10), (2, .ref a_o2), (6, .int k0)]) hx hb (dq_132 96 bcJ6_getChars_ba4f3_2 (j := 14) (i := -1) rfl rfl rfl) hl (k := 0) rfl (by exact rfl) (by decide) rfl (fun ls hl => ?_)
          refine lv_iload hx hb (dq_21 96 bcJ6_getChars_ba4f3_2 (j := 17) (i := 5) rfl rfl) (lv_at hl 0 rfl) ?_
          refine lv_bipush (v := 45) hx hb (dq_16 96 bcJ6_getChars_ba4f3_2 (j := 19) (i := 45) rfl rfl rfl) (by decide) ?_
          replace hF := ix_s hF
          obtain ⟨hi_19, hF⟩ := hF
          refine va_bast hx hb hK hP hD hS 0 1 rfl rfl hi_19 (dq_84 96 bcJ6_getChars_ba4f3_2 (j := 21) rfl rfl) (fun H locs hP hD hS => ?_)
          have h9 := fixPD (ws' := [k_B E a_o2 m9 (upd f_16 ((x5_11 + (-1 : Int32)) + (-1 : Int32)).toNatClampNeg (vp_nar .byte (45 : Int32)))]) hP hD rfl
          clear hP hD
          obtain ⟨hP, hD⟩ := h9
          replace hF := nm_s hF
          obtain ⟨f_20, hf_20, hF⟩ := hF
          rw [← hf_20] at hP hD
          refine lv_iload hx hb (dq_21 96 bcJ6_getChars_ba4f3_2 (j := 22) (i := 5) rfl rfl) (lv_at hl 0 rfl) ?_
          rw [hQ]
          have h9 := fin9 (P := fun u9 : Int32 × (Nat → Int32) => ((x5_11 + (-1 : Int32)) + (-1 : Int32)) = u9.1 ∧ va_P E.1 vwCl (w_J6_getChars_ba4f3 E a_o2 u9.2 m9) H ∧ va_D A (w_J6_getChars_ba4f3 E a_o2 u9.2 m9)) hF ⟨rfl, hP, hD⟩
          obtain ⟨e9_0, hP9, hD9⟩ := h9
          exact W.iret (v := (x5_11 + (-1 : Int32)) + (-1 : Int32)) hx hb hr (fun tt ht hW => ⟨⟨_, (), rfl, e9_0, ht ▸ hP9, hD9⟩, hS.F ht⟩) hS.2.2 (dq_172 96 bcJ6_getChars_ba4f3_2 (j := 24) rfl rfl)
      ·
        replace hF := inn c_17 hF
        refine lv_aload_n hx hb (dq_44 48 bcJ6_getChars_ba4f3_1 (j := 43) rfl rfl) rfl (lv_at hl 2 rfl) ?_
        refine lv_iinc (v := (x5_11 + (-1 : Int32)) + (-1 : Int32)) (lv' := [(5, .int ((x5_11 + (-1 : Int32)) + (-1 : Int32))), (0, .int x0_10), (2, .ref a_o2), (6, .int k0)]) hx hb (dq_132 48 bcJ6_getChars_ba4f3_1 (j := 44) (i := -1) rfl rfl rfl) hl (k := 0) rfl (by exact rfl) (by decide) rfl (fun ls hl => ?_)
        refine lv_iload hx hb (dq_21 48 bcJ6_getChars_ba4f3_1 (j := 47) (i := 5) rfl rfl) (lv_at hl 0 rfl) ?_
        refine va_gets hx hb hZ.2.2.1.2.2.2.1 hS hown (hts (.fieldLink RJ6 87 "java/lang/Integer" "DigitTens" "[B") (List.mem_of_getElem? (i := 2) rfl)) (fun _ h9 => h9) (dq_178 96 bcJ6_getChars_ba4f3_2 (j := 1) (i := 87) rfl rfl rfl) ?_
        refine lv_iload_n hx hb (dq_26 96 bcJ6_getChars_ba4f3_2 (j := 4) rfl rfl) rfl (lv_at hl 1 rfl) ?_
        refine lv_ineg hx hb (dq_116 96 bcJ6_getChars_ba4f3_2 (j := 5) rfl rfl) ?_
        replace hF := ix_s hF
        obtain ⟨hi_21, hF⟩ := hF
        refine va_tb (v := .int (tensF (-x0_10).toNatClampNeg)) hx hb (hZ.2.2.1.2.2.2.2.1) hS hi_21 rfl (dq_51 96 bcJ6_getChars_ba4f3_2 (j := 6) rfl rfl) ?_
        replace hF := ix_s hF
        obtain ⟨hi_22, hF⟩ := hF
        refine va_bast hx hb hK hP hD hS 0 1 rfl rfl hi_22 (dq_84 96 bcJ6_getChars_ba4f3_2 (j := 7) rfl rfl) (fun H locs hP hD hS => ?_)
        have h9 := fixPD (ws' := [k_B E a_o2 m9 (upd f_16 ((x5_11 + (-1 : Int32)) + (-1 : Int32)).toNatClampNeg (vp_nar .byte (tensF (-x0_10).toNatClampNeg)))]) hP hD rfl
        clear hP hD
        obtain ⟨hP, hD⟩ := h9
        replace hF := nm_s hF
        obtain ⟨f_23, hf_23, hF⟩ := hF
        rw [← hf_23] at hP hD
        refine lv_iload hx hb (dq_21 96 bcJ6_getChars_ba4f3_2 (j := 8) (i := 6) rfl rfl) (lv_at hl 3 rfl) ?_
        refine lv_if_eq (tgt := 118) hx hb (dq_153 96 bcJ6_getChars_ba4f3_2 (j := 10) (i := 12) rfl rfl rfl) (by decide) (fun c_24 => ?_) (fun c_24 => ?_)
        ·
          replace hF := ip c_24 hF
          refine lv_iload hx hb (dq_21 96 bcJ6_getChars_ba4f3_2 (j := 22) (i := 5) rfl rfl) (lv_at hl 0 rfl) ?_
          rw [hQ]
          have h9 := fin9 (P := fun u9 : Int32 × (Nat → Int32) => ((x5_11 + (-1 : Int32)) + (-1 : Int32)) = u9.1 ∧ va_P E.1 vwCl (w_J6_getChars_ba4f3 E a_o2 u9.2 m9) H ∧ va_D A (w_J6_getChars_ba4f3 E a_o2 u9.2 m9)) hF ⟨rfl, hP, hD⟩
          obtain ⟨e9_0, hP9, hD9⟩ := h9
          exact W.iret (v := (x5_11 + (-1 : Int32)) + (-1 : Int32)) hx hb hr (fun tt ht hW => ⟨⟨_, (), rfl, e9_0, ht ▸ hP9, hD9⟩, hS.F ht⟩) hS.2.2 (dq_172 96 bcJ6_getChars_ba4f3_2 (j := 24) rfl rfl)
        ·
          replace hF := inn c_24 hF
          refine lv_aload_n hx hb (dq_44 96 bcJ6_getChars_ba4f3_2 (j := 13) rfl rfl) rfl (lv_at hl 2 rfl) ?_
          refine lv_iinc (v := ((x5_11 + (-1 : Int32)) + (-1 : Int32)) + (-1 : Int32)) (lv' := [(5, .int (((x5_11 + (-1 : Int32)) + (-1 : Int32)) + (-1 : Int32))), (0, .int x0_10), (2, .ref a_o2), (6, .int k0)]) hx hb (dq_132 96 bcJ6_getChars_ba4f3_2 (j := 14) (i := -1) rfl rfl rfl) hl (k := 0) rfl (by exact rfl) (by decide) rfl (fun ls hl => ?_)
          refine lv_iload hx hb (dq_21 96 bcJ6_getChars_ba4f3_2 (j := 17) (i := 5) rfl rfl) (lv_at hl 0 rfl) ?_
          refine lv_bipush (v := 45) hx hb (dq_16 96 bcJ6_getChars_ba4f3_2 (j := 19) (i := 45) rfl rfl rfl) (by decide) ?_
          replace hF := ix_s hF
          obtain ⟨hi_25, hF⟩ := hF
          refine va_bast hx hb hK hP hD hS 0 1 rfl rfl hi_25 (dq_84 96 bcJ6_getChars_ba4f3_2 (j := 21) rfl rfl) (fun H locs hP hD hS => ?_)
          have h9 := fixPD (ws' := [k_B E a_o2 m9 (upd f_23 (((x5_11 + (-1 : Int32)) + (-1 : Int32)) + (-1 : Int32)).toNatClampNeg (vp_nar .byte (45 : Int32)))]) hP hD rfl
          clear hP hD
          obtain ⟨hP, hD⟩ := h9
          replace hF := nm_s hF
          obtain ⟨f_26, hf_26, hF⟩ := hF
          rw [← hf_26] at hP hD
          refine lv_iload hx hb (dq_21 96 bcJ6_getChars_ba4f3_2 (j := 22) (i := 5) rfl rfl) (lv_at hl 0 rfl) ?_
          rw [hQ]
          have h9 := fin9 (P := fun u9 : Int32 × (Nat → Int32) => (((x5_11 + (-1 : Int32)) + (-1 : Int32)) + (-1 : Int32)) = u9.1 ∧ va_P E.1 vwCl (w_J6_getChars_ba4f3 E a_o2 u9.2 m9) H ∧ va_D A (w_J6_getChars_ba4f3 E a_o2 u9.2 m9)) hF ⟨rfl, hP, hD⟩
          obtain ⟨e9_0, hP9, hD9⟩ := h9
          exact W.iret (v := ((x5_11 + (-1 : Int32)) + (-1 : Int32)) + (-1 : Int32)) hx hb hr (fun tt ht hW => ⟨⟨_, (), rfl, e9_0, ht ▸ hP9, hD9⟩, hS.F ht⟩) hS.2.2 (dq_172 96 bcJ6_getChars_ba4f3_2 (j := 24) rfl rfl)
  ·
    replace hF := ip c_2 hF
    refine lv_iload_n hx hb (dq_26 0 bcJ6_getChars_ba4f3_0 (j := 19) rfl rfl) rfl (lv_at hl 1 rfl) ?_
    refine lv_ineg hx hb (dq_116 0 bcJ6_getChars_ba4f3_0 (j := 20) rfl rfl) ?_
    refine lv_istore_n (lv' := [(0, .int (-x0)), (6, .int k0), (2, .ref a_o2), (5, .int x5)]) hx hb (dq_59 0 bcJ6_getChars_ba4f3_0 (j := 21) rfl rfl) rfl hl (by decide) rfl (fun ls hl => ?_)
    replace hF := bd3_s hF
    obtain ⟨x0_27, x5_28, c_o2_29, hL_30, hF⟩ := hF
    refine lw_J6_getChars_ba4f3_22 l E K (p0 := p0) (p1 := p1) (m9 := m9) (x6 := k0) hx hb hml hown hts hK hN hA hZ K (-x0) x5 c_o2 x0_27 x5_28 c_o2_29 hL_30 ?_ H locs ls (hP.sub [0] rfl) (hD.sub [0] (by decide) rfl) hS (lv_sub hl [0, 2, 3, 1] rfl)
    ·
      intro H locs ls hP hD hS hl
      have h9 := fixPD (ws' := [k_B E a_o2 m9 c_o2_29]) hP hD rfl
      clear hP hD
      obtain ⟨hP, hD⟩ := h9
      refine lv_aload_n hx hb (dq_44 48 bcJ6_getChars_ba4f3_1 (j := 24) rfl rfl) rfl (lv_at hl 1 rfl) ?_
      refine lv_iinc (v := x5_28 + (-1 : Int32)) (lv' := [(5, .int (x5_28 + (-1 : Int32))), (0, .int x0_27), (2, .ref a_o2), (6, .int k0)]) hx hb (dq_132 48 bcJ6_getChars_ba4f3_1 (j := 25) (i := -1) rfl rfl rfl) hl (k := 2) rfl (by exact rfl) (by decide) rfl (fun ls hl => ?_)
      refine lv_iload hx hb (dq_21 48 bcJ6_getChars_ba4f3_1 (j := 28) (i := 5) rfl rfl) (lv_at hl 0 rfl) ?_
      refine va_gets hx hb hZ.2.2.1.2.1 hS hown (hts (.fieldLink RJ6 83 "java/lang/Integer" "DigitOnes" "[B") (List.mem_of_getElem? (i := 1) rfl)) (fun _ h9 => h9) (dq_178 48 bcJ6_getChars_ba4f3_1 (j := 30) (i := 83) rfl rfl rfl) ?_
      refine lv_iload_n hx hb (dq_26 48 bcJ6_getChars_ba4f3_1 (j := 33) rfl rfl) rfl (lv_at hl 1 rfl) ?_
      refine lv_ineg hx hb (dq_116 48 bcJ6_getChars_ba4f3_1 (j := 34) rfl rfl) ?_
      replace hF := ix_s hF
      obtain ⟨hi_31, hF⟩ := hF
      refine va_tb (v := .int (onesF (-x0_27).toNatClampNeg)) hx hb (hZ.2.2.1.2.2.1) hS hi_31 rfl (dq_51 48 bcJ6_getChars_ba4f3_1 (j := 35) rfl rfl) ?_
      replace hF := ix_s hF
      obtain ⟨hi_32, hF⟩ := hF
      refine va_bast hx hb hK hP hD hS 0 1 rfl rfl hi_32 (dq_84 48 bcJ6_getChars_ba4f3_1 (j := 36) rfl rfl) (fun H locs hP hD hS => ?_)
      have h9 := fixPD (ws' := [k_B E a_o2 m9 (upd c_o2_29 (x5_28 + (-1 : Int32)).toNatClampNeg (vp_nar .byte (onesF (-x0_27).toNatClampNeg)))]) hP hD rfl
      clear hP hD
      obtain ⟨hP, hD⟩ := h9
      replace hF := nm_s hF
      obtain ⟨f_33, hf_33, hF⟩ := hF
      rw [← hf_33] at hP hD
      refine lv_iload_n hx hb (dq_26 48 bcJ6_getChars_ba4f3_1 (j := 37) rfl rfl) rfl (lv_at hl 1 rfl) ?_
      refine lv_bipush (v := -9) hx hb (dq_16 48 bcJ6_getChars_ba4f3_1 (j := 38) (i := -9) rfl rfl rfl) (by decide) ?_
      refine lv_icmp_ge (tgt := 104) hx hb (dq_162 48 bcJ6_getChars_ba4f3_1 (j := 40) (i := 16) rfl rfl rfl) (by decide) (fun c_34 => ?_) (fun c_34 => ?_)
      ·
        replace hF := ip c_34 hF
        refine lv_iload hx hb (dq_21 96 bcJ6_getChars_ba4f3_2 (j := 8) (i := 6) rfl rfl) (lv_at hl 3 rfl) ?_
        refine lv_if_eq (tgt := 118) hx hb (dq_153 96 bcJ6_getChars_ba4f3_2 (j := 10) (i := 12) rfl rfl rfl) (by decide) (fun c_35 => ?_) (fun c_35 => ?_)
        ·
          replace hF := ip c_35 hF
          refine lv_iload hx hb (dq_21 96 bcJ6_getChars_ba4f3_2 (j := 22) (i := 5) rfl rfl) (lv_at hl 0 rfl) ?_
          rw [hQ]
          have h9 := fin9 (P := fun u9 : Int32 × (Nat → Int32) => (x5_28 + (-1 : Int32)) = u9.1 ∧ va_P E.1 vwCl (w_J6_getChars_ba4f3 E a_o2 u9.2 m9) H ∧ va_D A (w_J6_getChars_ba4f3 E a_o2 u9.2 m9)) hF ⟨rfl, hP, hD⟩
          obtain ⟨e9_0, hP9, hD9⟩ := h9
          exact W.iret (v := x5_28 + (-1 : Int32)) hx hb hr (fun tt ht hW => ⟨⟨_, (), rfl, e9_0, ht ▸ hP9, hD9⟩, hS.F ht⟩) hS.2.2 (dq_172 96 bcJ6_getChars_ba4f3_2 (j := 24) rfl rfl)
        ·
          replace hF := inn c_35 hF
          refine lv_aload_n hx hb (dq_44 96 bcJ6_getChars_ba4f3_2 (j := 13) rfl rfl) rfl (lv_at hl 2 rfl) ?_
          refine lv_iinc (v := (x5_28 + (-1 : Int32)) + (-1 : Int32)) (lv' := [(5, .int ((x5_28 + (-1 : Int32)) + (-1 : Int32))), (0, .int x0_27), (2, .ref a_o2), (6, .int k0)]) hx hb (dq_132 96 bcJ6_getChars_ba4f3_2 (j := 14) (i := -1) rfl rfl rfl) hl (k := 0) rfl (by exact rfl) (by decide) rfl (fun ls hl => ?_)
          refine lv_iload hx hb (dq_21 96 bcJ6_getChars_ba4f3_2 (j := 17) (i := 5) rfl rfl) (lv_at hl 0 rfl) ?_
          refine lv_bipush (v := 45) hx hb (dq_16 96 bcJ6_getChars_ba4f3_2 (j := 19) (i := 45) rfl rfl rfl) (by decide) ?_
          replace hF := ix_s hF
          obtain ⟨hi_36, hF⟩ := hF
          refine va_bast hx hb hK hP hD hS 0 1 rfl rfl hi_36 (dq_84 96 bcJ6_getChars_ba4f3_2 (j := 21) rfl rfl) (fun H locs hP hD hS => ?_)
          have h9 := fixPD (ws' := [k_B E a_o2 m9 (upd f_33 ((x5_28 + (-1 : Int32)) + (-1 : Int32)).toNatClampNeg (vp_nar .byte (45 : Int32)))]) hP hD rfl
          clear hP hD
          obtain ⟨hP, hD⟩ := h9
          replace hF := nm_s hF
          obtain ⟨f_37, hf_37, hF⟩ := hF
          rw [← hf_37] at hP hD
          refine lv_iload hx hb (dq_21 96 bcJ6_getChars_ba4f3_2 (j := 22) (i := 5) rfl rfl) (lv_at hl 0 rfl) ?_
          rw [hQ]
          have h9 := fin9 (P := fun u9 : Int32 × (Nat → Int32) => ((x5_28 + (-1 : Int32)) + (-1 : Int32)) = u9.1 ∧ va_P E.1 vwCl (w_J6_getChars_ba4f3 E a_o2 u9.2 m9) H ∧ va_D A (w_J6_getChars_ba4f3 E a_o2 u9.2 m9)) hF ⟨rfl, hP, hD⟩
          obtain ⟨e9_0, hP9, hD9⟩ := h9
          exact W.iret (v := (x5_28 + (-1 : Int32)) + (-1 : Int32)) hx hb hr (fun tt ht hW => ⟨⟨_, (), rfl, e9_0, ht ▸ hP9, hD9⟩, hS.F ht⟩) hS.2.2 (dq_172 96 bcJ6_getChars_ba4f3_2 (j := 24) rfl rfl)
      ·
        replace hF := inn c_34 hF
        refine lv_aload_n hx hb (dq_44 48 bcJ6_getChars_ba4f3_1 (j := 43) rfl rfl) rfl (lv_at hl 2 rfl) ?_
        refine lv_iinc (v := (x5_28 + (-1 : Int32)) + (-1 : Int32)) (lv' := [(5, .int ((x5_28 + (-1 : Int32)) + (-1 : Int32))), (0, .int x0_27), (2, .ref a_o2), (6, .int k0)]) hx hb (dq_132 48 bcJ6_getChars_ba4f3_1 (j := 44) (i := -1) rfl rfl rfl) hl (k := 0) rfl (by exact rfl) (by decide) rfl (fun ls hl => ?_)
        refine lv_iload hx hb (dq_21 48 bcJ6_getChars_ba4f3_1 (j := 47) (i := 5) rfl rfl) (lv_at hl 0 rfl) ?_
        refine va_gets hx hb hZ.2.2.1.2.2.2.1 hS hown (hts (.fieldLink RJ6 87 "java/lang/Integer" "DigitTens" "[B") (List.mem_of_getElem? (i := 2) rfl)) (fun _ h9 => h9) (dq_178 96 bcJ6_getChars_ba4f3_2 (j := 1) (i := 87) rfl rfl rfl) ?_
        refine lv_iload_n hx hb (dq_26 96 bcJ6_getChars_ba4f3_2 (j := 4) rfl rfl) rfl (lv_at hl 1 rfl) ?_
        refine lv_ineg hx hb (dq_116 96 bcJ6_getChars_ba4f3_2 (j := 5) rfl rfl) ?_
        replace hF := ix_s hF
        obtain ⟨hi_38, hF⟩ := hF
        refine va_tb (v := .int (tensF (-x0_27).toNatClampNeg)) hx hb (hZ.2.2.1.2.2.2.2.1) hS hi_38 rfl (dq_51 96 bcJ6_getChars_ba4f3_2 (j := 6) rfl rfl) ?_
        replace hF := ix_s hF
        obtain ⟨hi_39, hF⟩ := hF
        refine va_bast hx hb hK hP hD hS 0 1 rfl rfl hi_39 (dq_84 96 bcJ6_getChars_ba4f3_2 (j := 7) rfl rfl) (fun H locs hP hD hS => ?_)
        have h9 := fixPD (ws' := [k_B E a_o2 m9 (upd f_33 ((x5_28 + (-1 : Int32)) + (-1 : Int32)).toNatClampNeg (vp_nar .byte (tensF (-x0_27).toNatClampNeg)))]) hP hD rfl
        clear hP hD
        obtain ⟨hP, hD⟩ := h9
        replace hF := nm_s hF
        obtain ⟨f_40, hf_40, hF⟩ := hF
        rw [← hf_40] at hP hD
        refine lv_iload hx hb (dq_21 96 bcJ6_getChars_ba4f3_2 (j := 8) (i := 6) rfl rfl) (lv_at hl 3 rfl) ?_
        refine lv_if_eq (tgt := 118) hx hb (dq_153 96 bcJ6_getChars_ba4f3_2 (j := 10) (i := 12) rfl rfl rfl) (by decide) (fun c_41 => ?_) (fun c_41 => ?_)
        ·
          replace hF := ip c_41 hF
          refine lv_iload hx hb (dq_21 96 bcJ6_getChars_ba4f3_2 (j := 22) (i := 5) rfl rfl) (lv_at hl 0 rfl) ?_
          rw [hQ]
          have h9 := fin9 (P := fun u9 : Int32 × (Nat → Int32) => ((x5_28 + (-1 : Int32)) + (-1 : Int32)) = u9.1 ∧ va_P E.1 vwCl (w_J6_getChars_ba4f3 E a_o2 u9.2 m9) H ∧ va_D A (w_J6_getChars_ba4f3 E a_o2 u9.2 m9)) hF ⟨rfl, hP, hD⟩
          obtain ⟨e9_0, hP9, hD9⟩ := h9
          exact W.iret (v := (x5_28 + (-1 : Int32)) + (-1 : Int32)) hx hb hr (fun tt ht hW => ⟨⟨_, (), rfl, e9_0, ht ▸ hP9, hD9⟩, hS.F ht⟩) hS.2.2 (dq_172 96 bcJ6_getChars_ba4f3_2 (j := 24) rfl rfl)
        ·
          replace hF := inn c_41 hF
          refine lv_aload_n hx hb (dq_44 96 bcJ6_getChars_ba4f3_2 (j := 13) rfl rfl) rfl (lv_at hl 2 rfl) ?_
          refine lv_iinc (v := ((x5_28 + (-1 : Int32)) + (-1 : Int32)) + (-1 : Int32)) (lv' := [(5, .int (((x5_28 + (-1 : Int32)) + (-1 : Int32)) + (-1 : Int32))), (0, .int x0_27), (2, .ref a_o2), (6, .int k0)]) hx hb (dq_132 96 bcJ6_getChars_ba4f3_2 (j := 14) (i := -1) rfl rfl rfl) hl (k := 0) rfl (by exact rfl) (by decide) rfl (fun ls hl => ?_)
          refine lv_iload hx hb (dq_21 96 bcJ6_getChars_ba4f3_2 (j := 17) (i := 5) rfl rfl) (lv_at hl 0 rfl) ?_
          refine lv_bipush (v := 45) hx hb (dq_16 96 bcJ6_getChars_ba4f3_2 (j := 19) (i := 45) rfl rfl rfl) (by decide) ?_
          replace hF := ix_s hF
          obtain ⟨hi_42, hF⟩ := hF
          refine va_bast hx hb hK hP hD hS 0 1 rfl rfl hi_42 (dq_84 96 bcJ6_getChars_ba4f3_2 (j := 21) rfl rfl) (fun H locs hP hD hS => ?_)
          have h9 := fixPD (ws' := [k_B E a_o2 m9 (upd f_40 (((x5_28 + (-1 : Int32)) + (-1 : Int32)) + (-1 : Int32)).toNatClampNeg (vp_nar .byte (45 : Int32)))]) hP hD rfl
          clear hP hD
          obtain ⟨hP, hD⟩ := h9
          replace hF := nm_s hF
          obtain ⟨f_43, hf_43, hF⟩ := hF
          rw [← hf_43] at hP hD
          refine lv_iload hx hb (dq_21 96 bcJ6_getChars_ba4f3_2 (j := 22) (i := 5) rfl rfl) (lv_at hl 0 rfl) ?_
          rw [hQ]
          have h9 := fin9 (P := fun u9 : Int32 × (Nat → Int32) => (((x5_28 + (-1 : Int32)) + (-1 : Int32)) + (-1 : Int32)) = u9.1 ∧ va_P E.1 vwCl (w_J6_getChars_ba4f3 E a_o2 u9.2 m9) H ∧ va_D A (w_J6_getChars_ba4f3 E a_o2 u9.2 m9)) hF ⟨rfl, hP, hD⟩
          obtain ⟨e9_0, hP9, hD9⟩ := h9
          exact W.iret (v := ((x5_28 + (-1 : Int32)) + (-1 : Int32)) + (-1 : Int32)) hx hb hr (fun tt ht hW => ⟨⟨_, (), rfl, e9_0, ht ▸ hP9, hD9⟩, hS.F ht⟩) hS.2.2 (dq_172 96 bcJ6_getChars_ba4f3_2 (j := 24) rfl rfl)

set_option maxHeartbeats 4000000 in
set_option maxRecDepth 100000 in
theorem f_J6_getChars_ba4f3 (l : Launch) (E : EE) (sz : Nat) (K : Nat) (z9 : Nat → Nat) {a_o2 : Nat} {p0 : Int32} {p1 : Int32} {c_o2 : Nat → Int32} {m9 : Nat} {rr : Int32} {n_o2 : Nat → Int32} (hF : F_J6_getChars_ba4f3 K p0 p1 c_o2 m9 = some (rr, n_o2)) : Met l yJ6_getChars_ba4f3 v_f_J6_getChars_ba4f3 (({ frames := 0, cells := 0, slots := 0, locals := 0 } : Room)) (va_Pc [.int p0, .int p1, .ref a_o2] (qWZ E z9 sz (w_J6_getChars_ba4f3 E a_o2 c_o2 m9))) (va_Qi (fun (q : Int32) (_u : Unit) => q = rr) (fun (_u : Unit) tt => va_P E.1 vwCl (w_J6_getChars_ba4f3 E a_o2 n_o2 m9) tt.heap ∧ va_D (va_A (w_J6_getChars_ba4f3 E a_o2 c_o2 m9) sz) (w_J6_getChars_ba4f3 E a_o2 n_o2 m9)) (va_A (w_J6_getChars_ba4f3 E a_o2 c_o2 m9) sz)) 0 0 (va_A (w_J6_getChars_ba4f3 E a_o2 c_o2 m9) sz) := by
  refine Met.ofWF (cc := cJ6_getChars_ba4f3) (maxL := 7) (ret := (some .int)) (by decide +kernel) rfl ?_
  intro p e s m args below meth c s₁ B hml hv
  obtain ⟨rfl, hsz, ⟨hK, hN⟩, hP, hD0, hZ⟩ := hv
  have hx := B.exec
  have hb := B.bytes
  have hr := B.returns
  have hts := atoms_spec (ws := v_f_J6_getChars_ba4f3) B.pre
  have hown : s.vm.findClass RJ6 = some m.cls := own_of hd_J6_getChars_ba4f3.1 (findClass_of_methodNamed B.named)
  have hlocks : meth.locks = false := B.notSynchronized
  subst hsz
  have hD := hD0.self (sz := s.heap.size)
  generalize hAe : va_A (w_J6_getChars_ba4f3 E a_o2 c_o2 m9) s.heap.size = A at hD hZ ⊢
  have hA : ∀ q : Nat, s.heap.size ≤ q → A q := fun q h => by rw [← hAe]; exact Or.inr h
  have hS : va_S A s.heap s.heap [] := va_S.rf
  have hl := lv_entry ([.int p0, .int p1, .ref a_o2]) (n := 7) (Nat.le_of_ble_eq_true rfl)
  rw [lg_entry_eq]
  generalize (lg_sl ([.int p0, .int p1, .ref a_o2]) ++ List.replicate (7 - (lg_sl ([.int p0, .int p1, .ref a_o2])).length) Slot.unset).toArray = ls at hl ⊢
  have hl : lv_has ls 7 [(0, .int p0), (1, .int p1), (2, .ref a_o2)] := hl
  obtain ⟨Q, hQ⟩ : ∃ Q : State → Prop, Q = MQ below (va_Qi (fun (q : Int32) (_u : Unit) => q = rr) (fun (_u : Unit) tt => va_P E.1 vwCl (w_J6_getChars_ba4f3 E a_o2 n_o2 m9) tt.heap ∧ va_D A (w_J6_getChars_ba4f3 E a_o2 n_o2 m9)) A) #[Value.int p0, Value.int p1, Value.ref a_o2] s 0 0 A := ⟨_, rfl⟩
  rw [← hQ]
  change W p l e ({ frames := 0, cells := 0, slots := 0, locals := 0 } : Room) s m #[Value.int p0, Value.int p1, Value.ref a_o2] below meth c s.heap [] 0 0 Q (F0 m 0 ls [])
  suffices hh9 : ∀ (H : Heap) (locs : List Loc), va_P E.1 vwCl (w_J6_getChars_ba4f3 E a_o2 c_o2 m9) H → va_D A (w_J6_getChars_ba4f3 E a_o2 c_o2 m9) → va_S A s.heap H locs → W p l e ({ frames := 0, cells := 0, slots := 0, locals := 0 } : Room) s m #[Value.int p0, Value.int p1, Value.ref a_o2] below meth c H locs 0 0 Q (F0 m 0 ls []) from hh9 s.heap [] hP hD hS
  clear hP hD hS
  intro H locs hP hD hS
  have h9 := fixPD (ws' := [k_B E a_o2 m9 c_o2]) hP hD rfl
  clear hP hD
  obtain ⟨hP, hD⟩ := h9
  unfold F_J6_getChars_ba4f3 at hF
  refine lv_iload_n hx hb (dq_27 0 bcJ6_getChars_ba4f3_0 (j := 0) rfl rfl) rfl (lv_at hl 1 rfl) ?_
  refine lv_istore (lv' := [(5, .int p1), (0, .int p0), (1, .int p1), (2, .ref a_o2)]) hx hb (dq_54 0 bcJ6_getChars_ba4f3_0 (j := 1) (i := 5) rfl rfl) hl (by decide) rfl (fun ls hl => ?_)
  refine lv_iload_n hx hb (dq_26 0 bcJ6_getChars_ba4f3_0 (j := 3) rfl rfl) rfl (lv_at hl 1 rfl) ?_
  refine lv_if_ge (tgt := 11) hx hb (dq_156 0 bcJ6_getChars_ba4f3_0 (j := 4) (i := 7) rfl rfl rfl) (by decide) (fun c_1 => ?_) (fun c_1 => ?_)
  ·
    replace hF := ip c_1 hF
    refine lv_iconst (v := 0) hx hb (dq_3 0 bcJ6_getChars_ba4f3_0 (j := 11) rfl rfl) (by decide) ?_
    exact j_J6_getChars_ba4f3_12 l E K (p0 := p0) (p1 := p1) (m9 := m9) (k0 := (0 : Int32)) (x0 := p0) (x5 := p1) (c_o2 := c_o2) hx hb hml hown hts hK hN hA hZ hr hlocks hQ hF H locs ls (hP.sub [0] rfl) (hD.sub [0] (by decide) rfl) hS (lv_sub hl [1, 3, 0] rfl)
  ·
    replace hF := inn c_1 hF
    refine lv_iconst (v := 1) hx hb (dq_4 0 bcJ6_getChars_ba4f3_0 (j := 7) rfl rfl) (by decide) ?_
    refine lv_goto (tgt := 12) hx hb (dq_167 0 bcJ6_getChars_ba4f3_0 (j := 8) (i := 4) rfl rfl rfl) (by decide) ?_
    exact j_J6_getChars_ba4f3_12 l E K (p0 := p0) (p1 := p1) (m9 := m9) (k0 := (1 : Int32)) (x0 := p0) (x5 := p1) (c_o2 := c_o2) hx hb hml hown hts hK hN hA hZ hr hlocks hQ hF H locs ls (hP.sub [0] rfl) (hD.sub [0] (by decide) rfl) hS (lv_sub hl [1, 3, 0] rfl)

def F_J5_length_8abf5 (c_count : Int32) : Option (Int32) :=
  some c_count
theorem gw_wsJ40 : wsJ40.all goodWord = true := by decide +kernel
abbrev w_J5_length_8abf5 (E : EE) (a_ a_value : Nat) (c_coder : Int32) (c_maybeLatin1 : Int32) (c_count : Int32) : va_W := [k_J4 a_ a_value c_coder c_maybeLatin1 c_count]
def v_f_J5_length_8abf5 : List Cond := List.cons (.code yJ5_length_8abf5 cJ5_length_8abf5 1 (some .int)) (HAppend.hAppend (α := List Cond) (β := List Cond) (γ := List Cond) [.fieldLink RJ5 79 "java/lang/AbstractStringBuilder" "count" "I"] (HAppend.hAppend (α := List Cond) (β := List Cond) (γ := List Cond) wsJ40 []))
theorem gw_f_J5_length_8abf5 : v_f_J5_length_8abf5.all goodWord = true := gw_c2 (by decide +kernel) (gw_ap gw_wsJ40 gw_nil)
theorem i_f_J5_length_8abf5_J4 : ∀ w ∈ wsJ40, w ∈ v_f_J5_length_8abf5 := fun _ h => List.mem_cons_of_mem _ (List.mem_append_right _ (List.mem_append_left _ h))
theorem hd_J5_length_8abf5 : yJ5_length_8abf5.cls = RJ5 ∧ yJ5_length_8abf5.cls ≠ "java/lang/invoke/MethodHandle" ∧ yJ5_length_8abf5.cls ≠ "java/lang/invoke/VarHandle" ∧ (parseMethodDescriptor yJ5_length_8abf5.desc).map (fun d => d.parameters.length) = some 0 := by decide +kernel
set_option maxHeartbeats 4000000 in
set_option maxRecDepth 100000 in
theorem f_J5_length_8abf5 (l : Launch) (E : EE) {a_ a_value : Nat} {c_coder : Int32} {c_maybeLatin1 : Int32} {c_count : Int32} {rr : Int32} (hF : F_J5_length_8abf5 c_count = some rr) : Met l yJ5_length_8abf5 v_f_J5_length_8abf5 (({ frames := 0, cells := 0, slots := 0, locals := 0 } : Room)) (va_Pc [.ref a_] (pP E (w_J5_length_8abf5 E a_ a_value c_coder c_maybeLatin1 c_count))) (vp_Si (fun q : Int32 => q = rr)) 0 0 (fun _ => False) := by
  refine Met.ofWF (cc := cJ5_length_8abf5) (maxL := 1) (ret := (some .int)) (by decide +kernel) rfl ?_
  intro p e s m args below meth c s₁ B hml hv
  obtain ⟨rfl, ⟨hK, hN⟩, hP⟩ := hv
  have hx := B.exec
  have hb := B.bytes
  have hr := B.returns
  have hts := atoms_spec (ws := v_f_J5_length_8abf5) B.pre
  have hown : s.vm.findClass RJ5 = some m.cls := own_of hd_J5_length_8abf5.1 (findClass_of_methodNamed B.named)
  have hlocks : meth.locks = false := B.notSynchronized
  replace hP : va_P E.1 vwCl [k_J4 a_ a_value c_coder c_maybeLatin1 c_count] s.heap := hP
  have hl := lv_entry ([.ref a_]) (n := 1) (Nat.le_of_ble_eq_true rfl)
  rw [lg_entry_eq]
  generalize (lg_sl ([.ref a_]) ++ List.replicate (1 - (lg_sl ([.ref a_])).length) Slot.unset).toArray = ls at hl ⊢
  have hl : lv_has ls 1 [(0, .ref a_)] := hl
  obtain ⟨Q, hQ⟩ : ∃ Q : State → Prop, Q = MQ below (vp_Si (fun q : Int32 => q = rr)) #[Value.ref a_] s 0 0 (fun _ => False) := ⟨_, rfl⟩
  rw [← hQ]
  change W p l e ({ frames := 0, cells := 0, slots := 0, locals := 0 } : Room) s m #[Value.ref a_] below meth c s.heap [] 0 0 Q (F0 m 0 ls [])
  unfold F_J5_length_8abf5 at hF
  refine lv_aload_n hx hb (dq_42 0 bcJ5_length_8abf5_0 (j := 0) rfl rfl) rfl (lv_at hl 0 rfl) ?_
  refine gt_J4_3 (v := .int c_count) hx hb hts i_f_J5_length_8abf5_J4 hown hK hP 0 rfl (hts (.fieldLink RJ5 79 "java/lang/AbstractStringBuilder" "count" "I") (List.mem_of_getElem? (i := 1) rfl)) rfl (dq_180 0 bcJ5_length_8abf5_0 (j := 1) (i := 79) rfl rfl rfl) ?_
  rw [hQ]
  obtain e9_0 := inj1 hF
  exact W.iret (v := c_count) hx hb hr (fun tt ht hW => ⟨_, rfl, e9_0, ht⟩) (fun _ h => by cases h) (dq_172 0 bcJ5_length_8abf5_0 (j := 4) rfl rfl)

def F_J5_isLatin1_aae02 (c_coder : Int32) : Option (Int32) :=
  if c_coder = (0 : Int32) then some (1 : Int32) else some (0 : Int32)
abbrev w_J5_isLatin1_aae02 (E : EE) (a_ a_value : Nat) (c_coder : Int32) (c_maybeLatin1 : Int32) (c_count : Int32) : va_W := [k_J4 a_ a_value c_coder c_maybeLatin1 c_count]
def v_f_J5_isLatin1_aae02 : List Cond := List.cons (.code yJ5_isLatin1_aae02 cJ5_isLatin1_aae02 1 (some .boolean)) (HAppend.hAppend (α := List Cond) (β := List Cond) (γ := List Cond) [.fieldLink RJ5 18 "java/lang/String" "COMPACT_STRINGS" "Z", .fieldLink RJ5 22 "java/lang/AbstractStringBuilder" "coder" "B"] (HAppend.hAppend (α := List Cond) (β := List Cond) (γ := List Cond) wsJ40 []))
theorem gw_f_J5_isLatin1_aae02 : v_f_J5_isLatin1_aae02.all goodWord = true := gw_c2 (by decide +kernel) (gw_ap gw_wsJ40 gw_nil)
theorem i_f_J5_isLatin1_aae02_J4 : ∀ w ∈ wsJ40, w ∈ v_f_J5_isLatin1_aae02 := fun _ h => List.mem_cons_of_mem _ (List.mem_append_right _ (List.mem_append_left _ h))
theorem hd_J5_isLatin1_aae02 : yJ5_isLatin1_aae02.cls = RJ5 ∧ yJ5_isLatin1_aae02.cls ≠ "java/lang/invoke/MethodHandle" ∧ yJ5_isLatin1_aae02.cls ≠ "java/lang/invoke/VarHandle" ∧ (parseMethodDescriptor yJ5_isLatin1_aae02.desc).map (fun d => d.parameters.length) = some 0 := by decide +kernel
set_option maxHeartbeats 4000000 in
set_option maxRecDepth 100000 in
theorem f_J5_isLatin1_aae02 (l : Launch) (E : EE) (z9 : Nat → Nat) {a_ a_value : Nat} {c_coder : Int32} {c_maybeLatin1 : Int32} {c_count : Int32} {rr : Int32} (hF : F_J5_isLatin1_aae02 c_coder = some rr) : Met l yJ5_isLatin1_aae02 v_f_J5_isLatin1_aae02 (({ frames := 0, cells := 0, slots := 0, locals := 0 } : Room)) (va_Pc [.ref a_] (qPZ E z9 (w_J5_isLatin1_aae02 E a_ a_value c_coder c_maybeLatin1 c_count))) (vp_Si (fun q : Int32 => q = rr ∧ (q = 0 ∨ q = 1))) 0 0 (fun _ => False) := by
  refine Met.ofWF (cc := cJ5_isLatin1_aae02) (maxL := 1) (ret := (some .boolean)) (by decide +kernel) rfl ?_
  intro p e s m args below meth c s₁ B hml hv
  obtain ⟨rfl, ⟨hK, hN⟩, hP, hZ⟩ := hv
  have hx := B.exec
  have hb := B.bytes
  have hr := B.returns
  have hts := atoms_spec (ws := v_f_J5_isLatin1_aae02) B.pre
  have hown : s.vm.findClass RJ5 = some m.cls := own_of hd_J5_isLatin1_aae02.1 (findClass_of_methodNamed B.named)
  have hlocks : meth.locks = false := B.notSynchronized
  replace hP : va_P E.1 vwCl [k_J4 a_ a_value c_coder c_maybeLatin1 c_count] s.heap := hP
  have hl := lv_entry ([.ref a_]) (n := 1) (Nat.le_of_ble_eq_true rfl)
  rw [lg_entry_eq]
  generalize (lg_sl ([.ref a_]) ++ List.replicate (1 - (lg_sl ([.ref a_])).length) Slot.unset).toArray = ls at hl ⊢
  have hl : lv_has ls 1 [(0, .ref a_)] := hl
  obtain ⟨Q, hQ⟩ : ∃ Q : State → Prop, Q = MQ below (vp_Si (fun q : Int32 => q = rr ∧ (q = 0 ∨ q = 1))) #[Value.ref a_] s 0 0 (fun _ => False) := ⟨_, rfl⟩
  rw [← hQ]
  change W p l e ({ frames := 0, cells := 0, slots := 0, locals := 0 } : Room) s m #[Value.ref a_] below meth c s.heap [] 0 0 Q (F0 m 0 ls [])
  unfold F_J5_isLatin1_aae02 at hF
  refine va_gets hx hb hZ.2.2.1.1 (va_S.rf) hown (hts (.fieldLink RJ5 18 "java/lang/String" "COMPACT_STRINGS" "Z") (List.mem_of_getElem? (i := 1) rfl)) (fun _ h9 => h9) (dq_178 0 bcJ5_isLatin1_aae02_0 (j := 0) (i := 18) rfl rfl rfl) ?_
  refine lv_if_eq (tgt := 17) hx hb (dq_153 0 bcJ5_isLatin1_aae02_0 (j := 3) (i := 14) rfl rfl rfl) (by decide) (fun q => absurd q (by decide)) (fun _ => ?_)
  refine lv_aload_n hx hb (dq_42 0 bcJ5_isLatin1_aae02_0 (j := 6) rfl rfl) rfl (lv_at hl 0 rfl) ?_
  refine gt_J4_1 (v := .int c_coder) hx hb hts i_f_J5_isLatin1_aae02_J4 hown hK hP 0 rfl (hts (.fieldLink RJ5 22 "java/lang/AbstractStringBuilder" "coder" "B") (List.mem_of_getElem? (i := 2) rfl)) rfl (dq_180 0 bcJ5_isLatin1_aae02_0 (j := 7) (i := 22) rfl rfl rfl) ?_
  refine lv_if_ne (tgt := 17) hx hb (dq_154 0 bcJ5_isLatin1_aae02_0 (j := 10) (i := 7) rfl rfl rfl) (by decide) (fun c_1 => ?_) (fun c_1 => ?_)
  ·
    replace hF := inn c_1 hF
    refine lv_iconst (v := 0) hx hb (dq_3 0 bcJ5_isLatin1_aae02_0 (j := 17) rfl rfl) (by decide) ?_
    rw [hQ]
    obtain e9_0 := inj1 hF
    exact W.zret (v := (0 : Int32)) hx hb hr rfl (fun tt ht hW => ⟨_, rfl, ⟨e9_0, Or.inl rfl⟩, ht⟩) (fun _ h => by cases h) (dq_172 0 bcJ5_isLatin1_aae02_0 (j := 18) rfl rfl)
  ·
    replace hF := ip c_1 hF
    refine lv_iconst (v := 1) hx hb (dq_4 0 bcJ5_isLatin1_aae02_0 (j := 13) rfl rfl) (by decide) ?_
    refine lv_goto (tgt := 18) hx hb (dq_167 0 bcJ5_isLatin1_aae02_0 (j := 14) (i := 4) rfl rfl rfl) (by decide) ?_
    rw [hQ]
    obtain e9_0 := inj1 hF
    exact W.zret (v := (1 : Int32)) hx hb hr rfl (fun tt ht hW => ⟨_, rfl, ⟨e9_0, Or.inr rfl⟩, ht⟩) (fun _ h => by cases h) (dq_172 0 bcJ5_isLatin1_aae02_0 (j := 18) rfl rfl)

def F_J1_canEncode_fc78d (p0 : Int32) : Option (Int32) :=
  if (255 : Int32) < p0 then some (0 : Int32) else some (1 : Int32)

def v_f_J1_canEncode_fc78d : List Cond := List.cons (.code yJ1_canEncode_fc78d cJ1_canEncode_fc78d 1 (some .boolean)) (HAppend.hAppend (α := List Cond) (β := List Cond) (γ := List Cond) [] [])
theorem gw_f_J1_canEncode_fc78d : v_f_J1_canEncode_fc78d.all goodWord = true := gw_c2 (by decide +kernel) gw_nil
theorem hd_J1_canEncode_fc78d : yJ1_canEncode_fc78d.cls = RJ1 ∧ yJ1_canEncode_fc78d.cls ≠ "java/lang/invoke/MethodHandle" ∧ yJ1_canEncode_fc78d.cls ≠ "java/lang/invoke/VarHandle" ∧ (parseMethodDescriptor yJ1_canEncode_fc78d.desc).map (fun d => d.parameters.length) = some 1 := by decide +kernel
set_option maxHeartbeats 4000000 in
set_option maxRecDepth 100000 in
theorem f_J1_canEncode_fc78d (l : Launch) (E : EE) {p0 : Int32} {rr : Int32} (hF : F_J1_canEncode_fc78d p0 = some rr) : Met l yJ1_canEncode_fc78d v_f_J1_canEncode_fc78d (({ frames := 0, cells := 0, slots := 0, locals := 0 } : Room)) (va_Pc [.int p0] (pP E [])) (vp_Si (fun q : Int32 => q = rr ∧ (q = 0 ∨ q = 1))) 0 0 (fun _ => False) := by
  refine Met.ofWF (cc := cJ1_canEncode_fc78d) (maxL := 1) (ret := (some .boolean)) (by decide +kernel) rfl ?_
  intro p e s m args below meth c s₁ B hml hv
  obtain ⟨rfl, ⟨hK, hN⟩, hP⟩ := hv
  have hx := B.exec
  have hb := B.bytes
  have hr := B.returns
  have hts := atoms_spec (ws := v_f_J1_canEncode_fc78d) B.pre
  have hown : s.vm.findClass RJ1 = some m.cls := own_of hd_J1_canEncode_fc78d.1 (findClass_of_methodNamed B.named)
  have hlocks : meth.locks = false := B.notSynchronized
  replace hP : va_P E.1 vwCl [] s.heap := hP
  have hl := lv_entry ([.int p0]) (n := 1) (Nat.le_of_ble_eq_true rfl)
  rw [lg_entry_eq]
  generalize (lg_sl ([.int p0]) ++ List.replicate (1 - (lg_sl ([.int p0])).length) Slot.unset).toArray = ls at hl ⊢
  have hl : lv_has ls 1 [(0, .int p0)] := hl
  obtain ⟨Q, hQ⟩ : ∃ Q : State → Prop, Q = MQ below (vp_Si (fun q : Int32 => q = rr ∧ (q = 0 ∨ q = 1))) #[Value.int p0] s 0 0 (fun _ => False) := ⟨_, rfl⟩
  rw [← hQ]
  change W p l e ({ frames := 0, cells := 0, slots := 0, locals := 0 } : Room) s m #[Value.int p0] below meth c s.heap [] 0 0 Q (F0 m 0 ls [])
  unfold F_J1_canEncode_fc78d at hF
  refine lv_iload_n hx hb (dq_26 0 bcJ1_canEncode_fc78d_0 (j := 0) rfl rfl) rfl (lv_at hl 0 rfl) ?_
  refine lv_sipush (v := 255) hx hb (dq_17 0 bcJ1_canEncode_fc78d_0 (j := 1) (i := 255) rfl rfl rfl) (by decide) ?_
  refine lv_icmp_gt (tgt := 11) hx hb (dq_163 0 bcJ1_canEncode_fc78d_0 (j := 4) (i := 7) rfl rfl rfl) (by decide) (fun c_1 => ?_) (fun c_1 => ?_)
  ·
    replace hF := ip c_1 hF
    refine lv_iconst (v := 0) hx hb (dq_3 0 bcJ1_canEncode_fc78d_0 (j := 11) rfl rfl) (by decide) ?_
    rw [hQ]
    obtain e9_0 := inj1 hF
    exact W.zret (v := (0 : Int32)) hx hb hr rfl (fun tt ht hW => ⟨_, rfl, ⟨e9_0, Or.inl rfl⟩, ht⟩) (fun _ h => by cases h) (dq_172 0 bcJ1_canEncode_fc78d_0 (j := 12) rfl rfl)
  ·
    replace hF := inn c_1 hF
    refine lv_iconst (v := 1) hx hb (dq_4 0 bcJ1_canEncode_fc78d_0 (j := 7) rfl rfl) (by decide) ?_
    refine lv_goto (tgt := 12) hx hb (dq_167 0 bcJ1_canEncode_fc78d_0 (j := 8) (i := 4) rfl rfl rfl) (by decide) ?_
    rw [hQ]
    obtain e9_0 := inj1 hF
    exact W.zret (v := (1 : Int32)) hx hb hr rfl (fun tt ht hW => ⟨_, rfl, ⟨e9_0, Or.inr rfl⟩, ht⟩) (fun _ h => by cases h) (dq_172 0 bcJ1_canEncode_fc78d_0 (j := 12) rfl rfl)

def F_J8_newLength_cabcc (p0 : Int32) (p1 : Int32) (p2 : Int32) : Option (Int32) :=
  if p0 + (maxF p1 p2) ≤ (0 : Int32) then none else if (2147483639 : Int32) < p0 + (maxF p1 p2) then none else some (p0 + (maxF p1 p2))

def v_f_J8_newLength_cabcc : List Cond := List.cons (.code yJ8_newLength_cabcc cJ8_newLength_cabcc 4 (some .int)) (HAppend.hAppend (α := List Cond) (β := List Cond) (γ := List Cond) [.methodLink RJ8 194 Lib.Math.max.name, .static Lib.Math.max.name, .initialized "java/lang/Math", .code Lib.Math.max.name Lib.Math.max.code 2 (some .int), .constant RJ8 200 (2147483639)] [])
theorem gw_f_J8_newLength_cabcc : v_f_J8_newLength_cabcc.all goodWord = true := gw_c2 (by decide +kernel) gw_nil
theorem hd_J8_newLength_cabcc : yJ8_newLength_cabcc.cls = RJ8 ∧ yJ8_newLength_cabcc.cls ≠ "java/lang/invoke/MethodHandle" ∧ yJ8_newLength_cabcc.cls ≠ "java/lang/invoke/VarHandle" ∧ (parseMethodDescriptor yJ8_newLength_cabcc.desc).map (fun d => d.parameters.length) = some 3 := by decide +kernel
set_option maxHeartbeats 4000000 in
set_option maxRecDepth 100000 in
theorem f_J8_newLength_cabcc (l : Launch) (E : EE) {p0 : Int32} {p1 : Int32} {p2 : Int32} {rr : Int32} (hF : F_J8_newLength_cabcc p0 p1 p2 = some rr) : Met l yJ8_newLength_cabcc v_f_J8_newLength_cabcc (({ frames := 1, cells := 0, slots := 0, locals := 21 } : Room)) (va_Pc [.int p0, .int p1, .int p2] (pP E [])) (vp_Si (fun q : Int32 => q = rr)) 0 0 (fun _ => False) := by
  refine Met.ofWF (cc := cJ8_newLength_cabcc) (maxL := 4) (ret := (some .int)) (by decide +kernel) rfl ?_
  intro p e s m args below meth c s₁ B hml hv
  obtain ⟨rfl, ⟨hK, hN⟩, hP⟩ := hv
  have hx := B.exec
  have hb := B.bytes
  have hr := B.returns
  have hts := atoms_spec (ws := v_f_J8_newLength_cabcc) B.pre
  have hown : s.vm.findClass RJ8 = some m.cls := own_of hd_J8_newLength_cabcc.1 (findClass_of_methodNamed B.named)
  have hlocks : meth.locks = false := B.notSynchronized
  replace hP : va_P E.1 vwCl [] s.heap := hP
  have hl := lv_entry ([.int p0, .int p1, .int p2]) (n := 4) (Nat.le_of_ble_eq_true rfl)
  rw [lg_entry_eq]
  generalize (lg_sl ([.int p0, .int p1, .int p2]) ++ List.replicate (4 - (lg_sl ([.int p0, .int p1, .int p2])).length) Slot.unset).toArray = ls at hl ⊢
  have hl : lv_has ls 4 [(0, .int p0), (1, .int p1), (2, .int p2)] := hl
  obtain ⟨Q, hQ⟩ : ∃ Q : State → Prop, Q = MQ below (vp_Si (fun q : Int32 => q = rr)) #[Value.int p0, Value.int p1, Value.int p2] s 0 0 (fun _ => False) := ⟨_, rfl⟩
  rw [← hQ]
  change W p l e ({ frames := 1, cells := 0, slots := 0, locals := 21 } : Room) s m #[Value.int p0, Value.int p1, Value.int p2] below meth c s.heap [] 0 0 Q (F0 m 0 ls [])
  unfold F_J8_newLength_cabcc at hF
  refine lv_iload_n hx hb (dq_26 0 bcJ8_newLength_cabcc_0 (j := 0) rfl rfl) rfl (lv_at hl 0 rfl) ?_
  refine lv_iload_n hx hb (dq_27 0 bcJ8_newLength_cabcc_0 (j := 1) rfl rfl) rfl (lv_at hl 1 rfl) ?_
  refine lv_iload_n hx hb (dq_28 0 bcJ8_newLength_cabcc_0 (j := 2) rfl rfl) rfl (lv_at hl 2 rfl) ?_
  refine va_mmax hx hb (hml.trans hl.1.symm) hown (hts (.methodLink RJ8 194 Lib.Math.max.name) (List.mem_of_getElem? (i := 1) rfl)) (hts (.static Lib.Math.max.name) (List.mem_of_getElem? (i := 2) rfl)) (hts (.initialized "java/lang/Math") (List.mem_of_getElem? (i := 3) rfl)) (hts (.code Lib.Math.max.name Lib.Math.max.code 2 (some .int)) (List.mem_of_getElem? (i := 4) rfl)) (Nat.le_of_ble_eq_true rfl) (Nat.le_of_ble_eq_true rfl) (Nat.le_of_ble_eq_true rfl) (Nat.le_of_ble_eq_true rfl) (dq_184 0 bcJ8_newLength_cabcc_0 (j := 3) (i := 194) rfl rfl rfl) ?_
  refine W.eq (g2 := F0 m 6 ls [.int (maxF p1 p2), .int p0]) rfl ?_
  refine lv_iadd hx hb (dq_96 0 bcJ8_newLength_cabcc_0 (j := 6) rfl rfl) ?_
  refine lv_istore_n (lv' := [(3, .int (p0 + (maxF p1 p2))), (0, .int p0), (1, .int p1), (2, .int p2)]) hx hb (dq_62 0 bcJ8_newLength_cabcc_0 (j := 7) rfl rfl) rfl hl (by decide) rfl (fun ls hl => ?_)
  refine lv_iconst (v := 0) hx hb (dq_3 0 bcJ8_newLength_cabcc_0 (j := 8) rfl rfl) (by decide) ?_
  refine lv_iload_n hx hb (dq_29 0 bcJ8_newLength_cabcc_0 (j := 9) rfl rfl) rfl (lv_at hl 0 rfl) ?_
  refine lv_icmp_ge (tgt := 21) hx hb (dq_162 0 bcJ8_newLength_cabcc_0 (j := 10) (i := 11) rfl rfl rfl) (by decide) (fun c_1 => ?_) (fun c_1 => ?_)
  ·
    replace hF := ip c_1 hF
    cases hF
  ·
    replace hF := inn c_1 hF
    refine lv_iload_n hx hb (dq_29 0 bcJ8_newLength_cabcc_0 (j := 13) rfl rfl) rfl (lv_at hl 0 rfl) ?_
    refine lv_ldc (v := 2147483639) hx hb hown (hts (.constant RJ8 200 (2147483639)) (List.mem_of_getElem? (i := 5) rfl)) (dq_18 0 bcJ8_newLength_cabcc_0 (j := 14) (i := 200) rfl rfl) ?_
    refine lv_icmp_gt (tgt := 21) hx hb (dq_163 0 bcJ8_newLength_cabcc_0 (j := 16) (i := 5) rfl rfl rfl) (by decide) (fun c_2 => ?_) (fun c_2 => ?_)
    ·
      replace hF := ip c_2 hF
      cases hF
    ·
      replace hF := inn c_2 hF
      refine lv_iload_n hx hb (dq_29 0 bcJ8_newLength_cabcc_0 (j := 19) rfl rfl) rfl (lv_at hl 0 rfl) ?_
      rw [hQ]
      obtain e9_0 := inj1 hF
      exact W.iret (v := p0 + (maxF p1 p2)) hx hb hr (fun tt ht hW => ⟨_, rfl, e9_0, ht⟩) (fun _ h => by cases h) (dq_172 0 bcJ8_newLength_cabcc_0 (j := 20) rfl rfl)

def F_J5_newCapacity_0f7a4 (p1 : Int32) (c_coder : Int32) (m9 : Nat) : Option (Int32) :=
  bd1 (F_J8_newLength_cabcc (Int32.ofNat m9) ((p1 <<< (c_coder &&& (31 : Int32))) - (Int32.ofNat m9)) ((Int32.ofNat m9) + ((2 : Int32) <<< (c_coder &&& (31 : Int32))))) (fun r_1 => if r_1 = (2147483647 : Int32) then none else some (r_1 >>> (c_coder &&& (31 : Int32))))
abbrev w_J5_newCapacity_0f7a4 (E : EE) (a_ a_value : Nat) (c_coder : Int32) (c_maybeLatin1 : Int32) (c_count : Int32) (c_value : Nat → Int32) (m9 : Nat) : va_W := [k_J4 a_ a_value c_coder c_maybeLatin1 c_count, k_B E a_value m9 c_value]
def v_f_J5_newCapacity_0f7a4 : List Cond := List.cons (.code yJ5_newCapacity_0f7a4 cJ5_newCapacity_0f7a4 6 (some .int)) (HAppend.hAppend (α := List Cond) (β := List Cond) (γ := List Cond) [.fieldLink RJ5 15 "java/lang/AbstractStringBuilder" "value" "[B", .fieldLink RJ5 22 "java/lang/AbstractStringBuilder" "coder" "B", .constant RJ5 39 (2147483647), .methodLink RJ5 114 yJ8_newLength_cabcc, .static yJ8_newLength_cabcc, .initialized RJ8] (HAppend.hAppend (α := List Cond) (β := List Cond) (γ := List Cond) wsJ40 (HAppend.hAppend (α := List Cond) (β := List Cond) (γ := List Cond) v_f_J8_newLength_cabcc [])))
theorem gw_f_J5_newCapacity_0f7a4 : v_f_J5_newCapacity_0f7a4.all goodWord = true := gw_c2 (by decide +kernel) (gw_ap gw_wsJ40 (gw_ap gw_f_J8_newLength_cabcc gw_nil))
theorem i_f_J5_newCapacity_0f7a4_J4 : ∀ w ∈ wsJ40, w ∈ v_f_J5_newCapacity_0f7a4 := fun _ h => List.mem_cons_of_mem _ (List.mem_append_right _ (List.mem_append_left _ h))
theorem g_f_J5_newCapacity_0f7a4_f_J8_newLength_cabcc_114 : GoodIn v_f_J5_newCapacity_0f7a4 (va_wsS RJ5 114 yJ8_newLength_cabcc v_f_J8_newLength_cabcc) := goodIn_in gw_f_J5_newCapacity_0f7a4 (in3 4 5 6 rfl rfl rfl (fun _ h => List.mem_cons_of_mem _ (List.mem_append_right _ (List.mem_append_right _ (List.mem_append_left _ h)))))
theorem hd_J5_newCapacity_0f7a4 : yJ5_newCapacity_0f7a4.cls = RJ5 ∧ yJ5_newCapacity_0f7a4.cls ≠ "java/lang/invoke/MethodHandle" ∧ yJ5_newCapacity_0f7a4.cls ≠ "java/lang/invoke/VarHandle" ∧ (parseMethodDescriptor yJ5_newCapacity_0f7a4.desc).map (fun d => d.parameters.length) = some 1 := by decide +kernel
set_option maxHeartbeats 4000000 in
set_option maxRecDepth 100000 in
theorem f_J5_newCapacity_0f7a4 (l : Launch) (E : EE) {a_ a_value : Nat} {p1 : Int32} {c_coder : Int32} {c_maybeLatin1 : Int32} {c_count : Int32} {c_value : Nat → Int32} {m9 : Nat} {rr : Int32} (hF : F_J5_newCapacity_0f7a4 p1 c_coder m9 = some rr) : Met l yJ5_newCapacity_0f7a4 v_f_J5_newCapacity_0f7a4 (({ frames := 2, cells := 0, slots := 0, locals := 44 } : Room)) (va_Pc [.ref a_, .int p1] (pP E (w_J5_newCapacity_0f7a4 E a_ a_value c_coder c_maybeLatin1 c_count c_value m9))) (vp_Si (fun q : Int32 => q = rr)) 0 0 (fun _ => False) := by
  refine Met.ofWF (cc := cJ5_newCapacity_0f7a4) (maxL := 6) (ret := (some .int)) (by decide +kernel) rfl ?_
  intro p e s m args below meth c s₁ B hml hv
  obtain ⟨rfl, ⟨hK, hN⟩, hP⟩ := hv
  have hx := B.exec
  have hb := B.bytes
  have hr := B.returns
  have hts := atoms_spec (ws := v_f_J5_newCapacity_0f7a4) B.pre
  have hown : s.vm.findClass RJ5 = some m.cls := own_of hd_J5_newCapacity_0f7a4.1 (findClass_of_methodNamed B.named)
  have hlocks : meth.locks = false := B.notSynchronized
  replace hP : va_P E.1 vwCl [k_J4 a_ a_value c_coder c_maybeLatin1 c_count, k_B E a_value m9 c_value] s.heap := hP
  have hl := lv_entry ([.ref a_, .int p1]) (n := 6) (Nat.le_of_ble_eq_true rfl)
  rw [lg_entry_eq]
  generalize (lg_sl ([.ref a_, .int p1]) ++ List.replicate (6 - (lg_sl ([.ref a_, .int p1])).length) Slot.unset).toArray = ls at hl ⊢
  have hl : lv_has ls 6 [(0, .ref a_), (1, .int p1)] := hl
  obtain ⟨Q, hQ⟩ : ∃ Q : State → Prop, Q = MQ below (vp_Si (fun q : Int32 => q = rr)) #[Value.ref a_, Value.int p1] s 0 0 (fun _ => False) := ⟨_, rfl⟩
  rw [← hQ]
  change W p l e ({ frames := 2, cells := 0, slots := 0, locals := 44 } : Room) s m #[Value.ref a_, Value.int p1] below meth c s.heap [] 0 0 Q (F0 m 0 ls [])
  unfold F_J5_newCapacity_0f7a4 at hF
  refine lv_aload_n hx hb (dq_42 0 bcJ5_newCapacity_0f7a4_0 (j := 0) rfl rfl) rfl (lv_at hl 0 rfl) ?_
  refine gt_J4_0 (v := .ref a_value) hx hb hts i_f_J5_newCapacity_0f7a4_J4 hown hK hP 0 rfl (hts (.fieldLink RJ5 15 "java/lang/AbstractStringBuilder" "value" "[B") (List.mem_of_getElem? (i := 1) rfl)) rfl (dq_180 0 bcJ5_newCapacity_0f7a4_0 (j := 1) (i := 15) rfl rfl rfl) ?_
  refine va_alen (v := (Int32.ofNat m9)) hx hb hK hP 1 1 rfl rfl rfl (dq_190 0 bcJ5_newCapacity_0f7a4_0 (j := 4) rfl rfl) ?_
  refine lv_istore_n (lv' := [(2, .int (Int32.ofNat m9)), (0, .ref a_), (1, .int p1)]) hx hb (dq_61 0 bcJ5_newCapacity_0f7a4_0 (j := 5) rfl rfl) rfl hl (by decide) rfl (fun ls hl => ?_)
  refine lv_iload_n hx hb (dq_27 0 bcJ5_newCapacity_0f7a4_0 (j := 6) rfl rfl) rfl (lv_at hl 2 rfl) ?_
  refine lv_aload_n hx hb (dq_42 0 bcJ5_newCapacity_0f7a4_0 (j := 7) rfl rfl) rfl (lv_at hl 1 rfl) ?_
  refine gt_J4_1 (v := .int c_coder) hx hb hts i_f_J5_newCapacity_0f7a4_J4 hown hK hP 0 rfl (hts (.fieldLink RJ5 22 "java/lang/AbstractStringBuilder" "coder" "B") (List.mem_of_getElem? (i := 2) rfl)) rfl (dq_180 0 bcJ5_newCapacity_0f7a4_0 (j := 8) (i := 22) rfl rfl rfl) ?_
  refine lv_ishl hx hb (dq_120 0 bcJ5_newCapacity_0f7a4_0 (j := 11) rfl rfl) ?_
  refine lv_istore_n (lv' := [(3, .int (p1 <<< (c_coder &&& (31 : Int32)))), (2, .int (Int32.ofNat m9)), (0, .ref a_), (1, .int p1)]) hx hb (dq_62 0 bcJ5_newCapacity_0f7a4_0 (j := 12) rfl rfl) rfl hl (by decide) rfl (fun ls hl => ?_)
  refine lv_iload_n hx hb (dq_29 0 bcJ5_newCapacity_0f7a4_0 (j := 13) rfl rfl) rfl (lv_at hl 0 rfl) ?_
  refine lv_iload_n hx hb (dq_28 0 bcJ5_newCapacity_0f7a4_0 (j := 14) rfl rfl) rfl (lv_at hl 1 rfl) ?_
  refine lv_isub hx hb (dq_100 0 bcJ5_newCapacity_0f7a4_0 (j := 15) rfl rfl) ?_
  refine lv_istore (lv' := [(4, .int ((p1 <<< (c_coder &&& (31 : Int32))) - (Int32.ofNat m9))), (3, .int (p1 <<< (c_coder &&& (31 : Int32)))), (2, .int (Int32.ofNat m9)), (0, .ref a_), (1, .int p1)]) hx hb (dq_54 0 bcJ5_newCapacity_0f7a4_0 (j := 16) (i := 4) rfl rfl) hl (by decide) rfl (fun ls hl => ?_)
  refine lv_iload_n hx hb (dq_28 0 bcJ5_newCapacity_0f7a4_0 (j := 18) rfl rfl) rfl (lv_at hl 2 rfl) ?_
  refine lv_iload hx hb (dq_21 0 bcJ5_newCapacity_0f7a4_0 (j := 19) (i := 4) rfl rfl) (lv_at hl 0 rfl) ?_
  refine lv_iload_n hx hb (dq_28 0 bcJ5_newCapacity_0f7a4_0 (j := 21) rfl rfl) rfl (lv_at hl 2 rfl) ?_
  refine lv_iconst (v := 2) hx hb (dq_5 0 bcJ5_newCapacity_0f7a4_0 (j := 22) rfl rfl) (by decide) ?_
  refine lv_aload_n hx hb (dq_42 0 bcJ5_newCapacity_0f7a4_0 (j := 23) rfl rfl) rfl (lv_at hl 3 rfl) ?_
  refine gt_J4_1 (v := .int c_coder) hx hb hts i_f_J5_newCapacity_0f7a4_J4 hown hK hP 0 rfl (hts (.fieldLink RJ5 22 "java/lang/AbstractStringBuilder" "coder" "B") (List.mem_of_getElem? (i := 2) rfl)) rfl (dq_180 0 bcJ5_newCapacity_0f7a4_0 (j := 24) (i := 22) rfl rfl rfl) ?_
  refine lv_ishl hx hb (dq_120 0 bcJ5_newCapacity_0f7a4_0 (j := 27) rfl rfl) ?_
  refine lv_iadd hx hb (dq_96 0 bcJ5_newCapacity_0f7a4_0 (j := 28) rfl rfl) ?_
  replace hF := bd1_s hF
  obtain ⟨r_1, hc_2, hF⟩ := hF
  have hPc : va_P E.1 vwCl [] s.heap := fun k q h => by simp at h
  refine pE_i (va_runS (As := [.int (Int32.ofNat m9), .int ((p1 <<< (c_coder &&& (31 : Int32))) - (Int32.ofNat m9)), .int ((Int32.ofNat m9) + ((2 : Int32) <<< (c_coder &&& (31 : Int32))))]) (rest := [])  ⟨hx, hb, hml, hown, hts⟩ (f_J8_newLength_cabcc l E (p0 := (Int32.ofNat m9)) (p1 := (p1 <<< (c_coder &&& (31 : Int32))) - (Int32.ofNat m9)) (p2 := (Int32.ofNat m9) + ((2 : Int32) <<< (c_coder &&& (31 : Int32)))) hc_2) (va_cwS 3 hts g_f_J5_newCapacity_0f7a4_f_J8_newLength_cabcc_114 rfl rfl rfl hd_J8_newLength_cabcc.2 ⟨Nat.le_of_ble_eq_true rfl, Nat.le_of_ble_eq_true rfl⟩) ⟨pP.blind, (pP.pre ⟨hK, hN⟩ hPc)⟩ rfl rfl hl.1 rfl (lv_room (Nat.le_of_ble_eq_true rfl)) (dq_184 0 bcJ5_newCapacity_0f7a4_0 (j := 29) (i := 114) rfl rfl rfl) ⟨Nat.le_of_ble_eq_true rfl, Nat.le_of_ble_eq_true rfl⟩) ?_
  refine lv_istore (lv' := [(5, .int r_1), (4, .int ((p1 <<< (c_coder &&& (31 : Int32))) - (Int32.ofNat m9))), (3, .int (p1 <<< (c_coder &&& (31 : Int32)))), (2, .int (Int32.ofNat m9)), (0, .ref a_), (1, .int p1)]) hx hb (dq_54 0 bcJ5_newCapacity_0f7a4_0 (j := 32) (i := 5) rfl rfl) hl (by decide) rfl (fun ls hl => ?_)
  refine lv_iload hx hb (dq_21 0 bcJ5_newCapacity_0f7a4_0 (j := 34) (i := 5) rfl rfl) (lv_at hl 0 rfl) ?_
  refine lv_ldc (v := 2147483647) hx hb hown (hts (.constant RJ5 39 (2147483647)) (List.mem_of_getElem? (i := 3) rfl)) (dq_18 0 bcJ5_newCapacity_0f7a4_0 (j := 36) (i := 39) rfl rfl) ?_
  refine lv_icmp_ne (tgt := 51) hx hb (dq_160 0 bcJ5_newCapacity_0f7a4_0 (j := 38) (i := 13) rfl rfl rfl) (by decide) (fun c_3 => ?_) (fun c_3 => ?_)
  ·
    replace hF := inn c_3 hF
    refine lv_iload hx hb (dq_21 48 bcJ5_newCapacity_0f7a4_1 (j := 3) (i := 5) rfl rfl) (lv_at hl 0 rfl) ?_
    refine lv_aload_n hx hb (dq_42 48 bcJ5_newCapacity_0f7a4_1 (j := 5) rfl rfl) rfl (lv_at hl 4 rfl) ?_
    refine gt_J4_1 (v := .int c_coder) hx hb hts i_f_J5_newCapacity_0f7a4_J4 hown hK hP 0 rfl (hts (.fieldLink RJ5 22 "java/lang/AbstractStringBuilder" "coder" "B") (List.mem_of_getElem? (i := 2) rfl)) rfl (dq_180 48 bcJ5_newCapacity_0f7a4_1 (j := 6) (i := 22) rfl rfl rfl) ?_
    refine lv_ishr hx hb (dq_122 48 bcJ5_newCapacity_0f7a4_1 (j := 9) rfl rfl) ?_
    rw [hQ]
    obtain e9_0 := inj1 hF
    exact W.iret (v := r_1 >>> (c_coder &&& (31 : Int32))) hx hb hr (fun tt ht hW => ⟨_, rfl, e9_0, ht⟩) (fun _ h => by cases h) (dq_172 48 bcJ5_newCapacity_0f7a4_1 (j := 10) rfl rfl)
  ·
    replace hF := ip c_3 hF
    cases hF

def F_J5_charAt_5068e (p1 : Int32) (c_value : Nat → Int32) (c_coder : Int32) (c_count : Int32) (m9 : Nat) : Option (Int32) :=
  bd1 (F_J0_checkIndex_df160 p1 (minF c_count ((Int32.ofNat m9) >>> (c_coder &&& (31 : Int32))))) (fun u_1 => if c_coder = (0 : Int32) then ixF p1 m9 (some ((((c_value p1.toNatClampNeg) &&& (255 : Int32)).toUInt32 % 65536).toInt32)) else none)
abbrev w_J5_charAt_5068e (E : EE) (a_ a_value : Nat) (c_coder : Int32) (c_maybeLatin1 : Int32) (c_count : Int32) (c_value : Nat → Int32) (m9 : Nat) : va_W := [k_J4 a_ a_value c_coder c_maybeLatin1 c_count, k_B E a_value m9 c_value]
def v_f_J5_charAt_5068e : List Cond := List.cons (.code yJ5_charAt_5068e cJ5_charAt_5068e 5 (some .char)) (HAppend.hAppend (α := List Cond) (β := List Cond) (γ := List Cond) [.fieldLink RJ5 22 "java/lang/AbstractStringBuilder" "coder" "B", .fieldLink RJ5 15 "java/lang/AbstractStringBuilder" "value" "[B", .fieldLink RJ5 79 "java/lang/AbstractStringBuilder" "count" "I", .methodLink RJ5 138 Lib.Math.min.name, .static Lib.Math.min.name, .initialized "java/lang/Math", .code Lib.Math.min.name Lib.Math.min.code 2 (some .int), .methodLink RJ5 144 yJ0_checkIndex_df160, .static yJ0_checkIndex_df160, .initialized RJ0] (HAppend.hAppend (α := List Cond) (β := List Cond) (γ := List Cond) wsJ40 (HAppend.hAppend (α := List Cond) (β := List Cond) (γ := List Cond) v_f_J0_checkIndex_df160 [])))
theorem gw_f_J5_charAt_5068e : v_f_J5_charAt_5068e.all goodWord = true := gw_c2 (by decide +kernel) (gw_ap gw_wsJ40 (gw_ap gw_f_J0_checkIndex_df160 gw_nil))
theorem i_f_J5_charAt_5068e_J4 : ∀ w ∈ wsJ40, w ∈ v_f_J5_charAt_5068e := fun _ h => List.mem_cons_of_mem _ (List.mem_append_right _ (List.mem_append_left _ h))
theorem g_f_J5_charAt_5068e_f_J0_checkIndex_df160_144 : GoodIn v_f_J5_charAt_5068e (va_wsS RJ5 144 yJ0_checkIndex_df160 v_f_J0_checkIndex_df160) := goodIn_in gw_f_J5_charAt_5068e (in3 8 9 10 rfl rfl rfl (fun _ h => List.mem_cons_of_mem _ (List.mem_append_right _ (List.mem_append_right _ (List.mem_append_left _ h)))))
theorem hd_J5_charAt_5068e : yJ5_charAt_5068e.cls = RJ5 ∧ yJ5_charAt_5068e.cls ≠ "java/lang/invoke/MethodHandle" ∧ yJ5_charAt_5068e.cls ≠ "java/lang/invoke/VarHandle" ∧ (parseMethodDescriptor yJ5_charAt_5068e.desc).map (fun d => d.parameters.length) = some 1 := by decide +kernel
set_option maxHeartbeats 4000000 in
set_option maxRecDepth 100000 in
theorem f_J5_charAt_5068e (l : Launch) (E : EE) (z9 : Nat → Nat) {a_ a_value : Nat} {p1 : Int32} {c_coder : Int32} {c_maybeLatin1 : Int32} {c_count : Int32} {c_value : Nat → Int32} {m9 : Nat} {rr : Int32} (hF : F_J5_charAt_5068e p1 c_value c_coder c_count m9 = some rr) : Met l yJ5_charAt_5068e v_f_J5_charAt_5068e (({ frames := 2, cells := 0, slots := 0, locals := 43 } : Room)) (va_Pc [.ref a_, .int p1] (qPZ E z9 (w_J5_charAt_5068e E a_ a_value c_coder c_maybeLatin1 c_count c_value m9))) (vp_Si (fun q : Int32 => q = rr ∧ narrow .char (.int q) = .int q)) 0 0 (fun _ => False) := by
  refine Met.ofWF (cc := cJ5_charAt_5068e) (maxL := 5) (ret := (some .char)) (by decide +kernel) rfl ?_
  intro p e s m args below meth c s₁ B hml hv
  obtain ⟨rfl, ⟨hK, hN⟩, hP, hZ⟩ := hv
  have hx := B.exec
  have hb := B.bytes
  have hr := B.returns
  have hts := atoms_spec (ws := v_f_J5_charAt_5068e) B.pre
  have hown : s.vm.findClass RJ5 = some m.cls := own_of hd_J5_charAt_5068e.1 (findClass_of_methodNamed B.named)
  have hlocks : meth.locks = false := B.notSynchronized
  replace hP : va_P E.1 vwCl [k_J4 a_ a_value c_coder c_maybeLatin1 c_count, k_B E a_value m9 c_value] s.heap := hP
  have hl := lv_entry ([.ref a_, .int p1]) (n := 5) (Nat.le_of_ble_eq_true rfl)
  rw [lg_entry_eq]
  generalize (lg_sl ([.ref a_, .int p1]) ++ List.replicate (5 - (lg_sl ([.ref a_, .int p1])).length) Slot.unset).toArray = ls at hl ⊢
  have hl : lv_has ls 5 [(0, .ref a_), (1, .int p1)] := hl
  obtain ⟨Q, hQ⟩ : ∃ Q : State → Prop, Q = MQ below (vp_Si (fun q : Int32 => q = rr ∧ narrow .char (.int q) = .int q)) #[Value.ref a_, Value.int p1] s 0 0 (fun _ => False) := ⟨_, rfl⟩
  rw [← hQ]
  change W p l e ({ frames := 2, cells := 0, slots := 0, locals := 43 } : Room) s m #[Value.ref a_, Value.int p1] below meth c s.heap [] 0 0 Q (F0 m 0 ls [])
  unfold F_J5_charAt_5068e at hF
  refine lv_aload_n hx hb (dq_42 0 bcJ5_charAt_5068e_0 (j := 0) rfl rfl) rfl (lv_at hl 0 rfl) ?_
  refine gt_J4_1 (v := .int c_coder) hx hb hts i_f_J5_charAt_5068e_J4 hown hK hP 0 rfl (hts (.fieldLink RJ5 22 "java/lang/AbstractStringBuilder" "coder" "B") (List.mem_of_getElem? (i := 1) rfl)) rfl (dq_180 0 bcJ5_charAt_5068e_0 (j := 1) (i := 22) rfl rfl rfl) ?_
  refine lv_istore_n (lv' := [(2, .int c_coder), (0, .ref a_), (1, .int p1)]) hx hb (dq_61 0 bcJ5_charAt_5068e_0 (j := 4) rfl rfl) rfl hl (by decide) rfl (fun ls hl => ?_)
  refine lv_aload_n hx hb (dq_42 0 bcJ5_charAt_5068e_0 (j := 5) rfl rfl) rfl (lv_at hl 1 rfl) ?_
  refine gt_J4_0 (v := .ref a_value) hx hb hts i_f_J5_charAt_5068e_J4 hown hK hP 0 rfl (hts (.fieldLink RJ5 15 "java/lang/AbstractStringBuilder" "value" "[B") (List.mem_of_getElem? (i := 2) rfl)) rfl (dq_180 0 bcJ5_charAt_5068e_0 (j := 6) (i := 15) rfl rfl rfl) ?_
  refine lv_astore_n (lv' := [(3, .ref a_value), (2, .int c_coder), (0, .ref a_), (1, .int p1)]) hx hb (dq_78 0 bcJ5_charAt_5068e_0 (j := 9) rfl rfl) rfl hl (by decide) rfl (fun ls hl => ?_)
  refine lv_aload_n hx hb (dq_42 0 bcJ5_charAt_5068e_0 (j := 10) rfl rfl) rfl (lv_at hl 2 rfl) ?_
  refine gt_J4_3 (v := .int c_count) hx hb hts i_f_J5_charAt_5068e_J4 hown hK hP 0 rfl (hts (.fieldLink RJ5 79 "java/lang/AbstractStringBuilder" "count" "I") (List.mem_of_getElem? (i := 3) rfl)) rfl (dq_180 0 bcJ5_charAt_5068e_0 (j := 11) (i := 79) rfl rfl rfl) ?_
  refine lv_aload_n hx hb (dq_45 0 bcJ5_charAt_5068e_0 (j := 14) rfl rfl) rfl (lv_at hl 0 rfl) ?_
  refine va_alen (v := (Int32.ofNat m9)) hx hb hK hP 1 1 rfl rfl rfl (dq_190 0 bcJ5_charAt_5068e_0 (j := 15) rfl rfl) ?_
  refine lv_iload_n hx hb (dq_28 0 bcJ5_charAt_5068e_0 (j := 16) rfl rfl) rfl (lv_at hl 1 rfl) ?_
  refine lv_ishr hx hb (dq_122 0 bcJ5_charAt_5068e_0 (j := 17) rfl rfl) ?_
  refine va_mmin hx hb (hml.trans hl.1.symm) hown (hts (.methodLink RJ5 138 Lib.Math.min.name) (List.mem_of_getElem? (i := 4) rfl)) (hts (.static Lib.Math.min.name) (List.mem_of_getElem? (i := 5) rfl)) (hts (.initialized "java/lang/Math") (List.mem_of_getElem? (i := 6) rfl)) (hts (.code Lib.Math.min.name Lib.Math.min.code 2 (some .int)) (List.mem_of_getElem? (i := 7) rfl)) (Nat.le_of_ble_eq_true rfl) (Nat.le_of_ble_eq_true rfl) (Nat.le_of_ble_eq_true rfl) (Nat.le_of_ble_eq_true rfl) (dq_184 0 bcJ5_charAt_5068e_0 (j := 18) (i := 138) rfl rfl rfl) ?_
  refine W.eq (g2 := F0 m 21 ls [.int (minF c_count ((Int32.ofNat m9) >>> (c_coder &&& (31 : Int32))))]) rfl ?_
  refine lv_istore (lv' := [(4, .int (minF c_count ((Int32.ofNat m9) >>> (c_coder &&& (31 : Int32))))), (3, .ref a_value), (2, .int c_coder), (0, .ref a_), (1, .int p1)]) hx hb (dq_54 0 bcJ5_charAt_5068e_0 (j := 21) (i := 4) rfl rfl) hl (by decide) rfl (fun ls hl => ?_)
  refine lv_iload_n hx hb (dq_27 0 bcJ5_charAt_5068e_0 (j := 23) rfl rfl) rfl (lv_at hl 4 rfl) ?_
  refine lv_iload hx hb (dq_21 0 bcJ5_charAt_5068e_0 (j := 24) (i := 4) rfl rfl) (lv_at hl 0 rfl) ?_
  replace hF := bd1_s hF
  obtain ⟨u_1, hc_2, hF⟩ := hF
  have hPc : va_P E.1 vwCl [] s.heap := fun k q h => by simp at h
  refine pc_v (va_runS (As := [.int p1, .int (minF c_count ((Int32.ofNat m9) >>> (c_coder &&& (31 : Int32))))]) (rest := [])  ⟨hx, hb, hml, hown, hts⟩ (f_J0_checkIndex_df160 l E z9 (p0 := p1) (p1 := (minF c_count ((Int32.ofNat m9) >>> (c_coder &&& (31 : Int32))))) hc_2) (va_cwS 2 hts g_f_J5_charAt_5068e_f_J0_checkIndex_df160_144 rfl rfl rfl hd_J0_checkIndex_df160.2 ⟨Nat.le_of_ble_eq_true rfl, Nat.le_of_ble_eq_true rfl⟩) ⟨qPZ.blind, (qPZ.pre0 ⟨hK, hN⟩ hPc hZ)⟩ rfl rfl hl.1 rfl (lv_room (Nat.le_of_ble_eq_true rfl)) (dq_184 0 bcJ5_charAt_5068e_0 (j := 26) (i := 144) rfl rfl rfl) ⟨Nat.le_of_ble_eq_true rfl, Nat.le_of_ble_eq_true rfl⟩) ?_
  refine lv_iload_n hx hb (dq_28 0 bcJ5_charAt_5068e_0 (j := 29) rfl rfl) rfl (lv_at hl 2 rfl) ?_
  refine lv_if_ne (tgt := 42) hx hb (dq_154 0 bcJ5_charAt_5068e_0 (j := 30) (i := 12) rfl rfl rfl) (by decide) (fun c_3 => ?_) (fun c_3 => ?_)
  ·
    replace hF := inn c_3 hF
    cases hF
  ·
    replace hF := ip c_3 hF
    refine lv_aload_n hx hb (dq_45 0 bcJ5_charAt_5068e_0 (j := 33) rfl rfl) rfl (lv_at hl 1 rfl) ?_
    refine lv_iload_n hx hb (dq_27 0 bcJ5_charAt_5068e_0 (j := 34) rfl rfl) rfl (lv_at hl 4 rfl) ?_
    replace hF := ix_s hF
    obtain ⟨hi_4, hF⟩ := hF
    refine va_bald hx hb hK hP 1 1 rfl rfl hi_4 (dq_51 0 bcJ5_charAt_5068e_0 (j := 35) rfl rfl) ?_
    refine lv_sipush (v := 255) hx hb (dq_17 0 bcJ5_charAt_5068e_0 (j := 36) (i := 255) rfl rfl rfl) (by decide) ?_
    refine lv_iand hx hb (dq_126 0 bcJ5_charAt_5068e_0 (j := 39) rfl rfl) ?_
    refine lv_i2c (v := (((c_value p1.toNatClampNeg) &&& (255 : Int32)).toUInt32 % 65536).toInt32) hx hb (dq_146 0 bcJ5_charAt_5068e_0 (j := 40) rfl rfl) rfl ?_
    rw [hQ]
    obtain e9_0 := inj1 hF
    exact W.zret (v := (((c_value p1.toNatClampNeg) &&& (255 : Int32)).toUInt32 % 65536).toInt32) hx hb hr (nar_c _) (fun tt ht hW => ⟨_, rfl, ⟨e9_0, (nar_c _)⟩, ht⟩) (fun _ h => by cases h) (dq_172 0 bcJ5_charAt_5068e_0 (j := 41) rfl rfl)

def F_J5_inflateIfNeededFor_a7421 (p1 : Nat) (c_coder : Int32) : Option (Unit) :=
  ltF p1 15 (bd1 (F_J0_coder_7d493 p1) (fun r_1 => if c_coder = r_1 then some () else none))
abbrev w_J5_inflateIfNeededFor_a7421 (E : EE) (a_ a_value : Nat) (c_coder : Int32) (c_maybeLatin1 : Int32) (c_count : Int32) : va_W := [k_J4 a_ a_value c_coder c_maybeLatin1 c_count]
def v_f_J5_inflateIfNeededFor_a7421 : List Cond := List.cons (.code yJ5_inflateIfNeededFor_a7421 cJ5_inflateIfNeededFor_a7421 2 none) (HAppend.hAppend (α := List Cond) (β := List Cond) (γ := List Cond) [.fieldLink RJ5 18 "java/lang/String" "COMPACT_STRINGS" "Z", .fieldLink RJ5 22 "java/lang/AbstractStringBuilder" "coder" "B", .methodLink RJ5 40 yJ0_coder_7d493, .instanceMethod yJ0_coder_7d493, .selects RJ0 yJ0_coder_7d493 yJ0_coder_7d493, .initialized RJ0] (HAppend.hAppend (α := List Cond) (β := List Cond) (γ := List Cond) wsJ40 (HAppend.hAppend (α := List Cond) (β := List Cond) (γ := List Cond) v_f_J0_coder_7d493 [])))
theorem gw_f_J5_inflateIfNeededFor_a7421 : v_f_J5_inflateIfNeededFor_a7421.all goodWord = true := gw_c2 (by decide +kernel) (gw_ap gw_wsJ40 (gw_ap gw_f_J0_coder_7d493 gw_nil))
theorem i_f_J5_inflateIfNeededFor_a7421_J4 : ∀ w ∈ wsJ40, w ∈ v_f_J5_inflateIfNeededFor_a7421 := fun _ h => List.mem_cons_of_mem _ (List.mem_append_right _ (List.mem_append_left _ h))
theorem g_f_J5_inflateIfNeededFor_a7421_f_J0_coder_7d493_40 : GoodIn v_f_J5_inflateIfNeededFor_a7421 (wsV RJ5 40 RJ0 yJ0_coder_7d493 v_f_J0_coder_7d493) := goodIn_in gw_f_J5_inflateIfNeededFor_a7421 (in4 3 4 5 6 rfl rfl rfl rfl (fun _ h => List.mem_cons_of_mem _ (List.mem_append_right _ (List.mem_append_right _ (List.mem_append_left _ h)))))
theorem hd_J5_inflateIfNeededFor_a7421 : yJ5_inflateIfNeededFor_a7421.cls = RJ5 ∧ yJ5_inflateIfNeededFor_a7421.cls ≠ "java/lang/invoke/MethodHandle" ∧ yJ5_inflateIfNeededFor_a7421.cls ≠ "java/lang/invoke/VarHandle" ∧ (parseMethodDescriptor yJ5_inflateIfNeededFor_a7421.desc).map (fun d => d.parameters.length) = some 1 := by decide +kernel
set_option maxHeartbeats 4000000 in
set_option maxRecDepth 100000 in
theorem f_J5_inflateIfNeededFor_a7421 (l : Launch) (E : EE) (z9 : Nat → Nat) {a_ a_value : Nat} {p1 : Nat} {c_coder : Int32} {c_maybeLatin1 : Int32} {c_count : Int32} (hF : F_J5_inflateIfNeededFor_a7421 p1 c_coder = some ()) : Met l yJ5_inflateIfNeededFor_a7421 v_f_J5_inflateIfNeededFor_a7421 (({ frames := 1, cells := 0, slots := 0, locals := 20 } : Room)) (va_Pc [.ref a_, .ref (z9 (20 + p1))] (qPZ E z9 (w_J5_inflateIfNeededFor_a7421 E a_ a_value c_coder c_maybeLatin1 c_count))) (va_Sv (fun _ => True)) 0 0 (fun _ => False) := by
  refine Met.ofWF (cc := cJ5_inflateIfNeededFor_a7421) (maxL := 2) (ret := none) (by decide +kernel) rfl ?_
  intro p e s m args below meth c s₁ B hml hv
  obtain ⟨rfl, ⟨hK, hN⟩, hP, hZ⟩ := hv
  have hx := B.exec
  have hb := B.bytes
  have hr := B.returns
  have hts := atoms_spec (ws := v_f_J5_inflateIfNeededFor_a7421) B.pre
  have hown : s.vm.findClass RJ5 = some m.cls := own_of hd_J5_inflateIfNeededFor_a7421.1 (findClass_of_methodNamed B.named)
  have hlocks : meth.locks = false := B.notSynchronized
  replace hP : va_P E.1 vwCl [k_J4 a_ a_value c_coder c_maybeLatin1 c_count] s.heap := hP
  have hl := lv_entry ([.ref a_, .ref (z9 (20 + p1))]) (n := 2) (Nat.le_of_ble_eq_true rfl)
  rw [lg_entry_eq]
  generalize (lg_sl ([.ref a_, .ref (z9 (20 + p1))]) ++ List.replicate (2 - (lg_sl ([.ref a_, .ref (z9 (20 + p1))])).length) Slot.unset).toArray = ls at hl ⊢
  have hl : lv_has ls 2 [(0, .ref a_), (1, .ref (z9 (20 + p1)))] := hl
  obtain ⟨Q, hQ⟩ : ∃ Q : State → Prop, Q = MQ below (va_Sv (fun _ => True)) #[Value.ref a_, Value.ref (z9 (20 + p1))] s 0 0 (fun _ => False) := ⟨_, rfl⟩
  rw [← hQ]
  change W p l e ({ frames := 1, cells := 0, slots := 0, locals := 20 } : Room) s m #[Value.ref a_, Value.ref (z9 (20 + p1))] below meth c s.heap [] 0 0 Q (F0 m 0 ls [])
  unfold F_J5_inflateIfNeededFor_a7421 at hF
  refine va_gets hx hb hZ.2.2.1.1 (va_S.rf) hown (hts (.fieldLink RJ5 18 "java/lang/String" "COMPACT_STRINGS" "Z") (List.mem_of_getElem? (i := 1) rfl)) (fun _ h9 => h9) (dq_178 0 bcJ5_inflateIfNeededFor_a7421_0 (j := 0) (i := 18) rfl rfl rfl) ?_
  refine lv_if_eq (tgt := 21) hx hb (dq_153 0 bcJ5_inflateIfNeededFor_a7421_0 (j := 3) (i := 18) rfl rfl rfl) (by decide) (fun q => absurd q (by decide)) (fun _ => ?_)
  refine lv_aload_n hx hb (dq_42 0 bcJ5_inflateIfNeededFor_a7421_0 (j := 6) rfl rfl) rfl (lv_at hl 0 rfl) ?_
  refine gt_J4_1 (v := .int c_coder) hx hb hts i_f_J5_inflateIfNeededFor_a7421_J4 hown hK hP 0 rfl (hts (.fieldLink RJ5 22 "java/lang/AbstractStringBuilder" "coder" "B") (List.mem_of_getElem? (i := 2) rfl)) rfl (dq_180 0 bcJ5_inflateIfNeededFor_a7421_0 (j := 7) (i := 22) rfl rfl rfl) ?_
  refine lv_aload_n hx hb (dq_43 0 bcJ5_inflateIfNeededFor_a7421_0 (j := 10) rfl rfl) rfl (lv_at hl 1 rfl) ?_
  replace hF := ltF_s hF
  obtain ⟨hs_2, hF⟩ := hF
  replace hF := bd1_s hF
  obtain ⟨r_1, hc_3, hF⟩ := hF
  have hPc : va_P E.1 vwCl [] s.heap := fun k q h => by simp at h
  refine pE_b (va_runV (As := []) (rest := [.int c_coder])  ⟨hx, hb, hml, hown, hts⟩ (f_J0_coder_7d493 l E z9 (p0 := p1) hc_3) (cwV 0 hts g_f_J5_inflateIfNeededFor_a7421_f_J0_coder_7d493_40 rfl rfl rfl hd_J0_coder_7d493 ⟨Nat.le_of_ble_eq_true rfl, Nat.le_of_ble_eq_true rfl⟩) ⟨qPZ.blind, vk_recv hZ.2.2.2.1 hs_2 (va_S.rf), (qPZ.pre0 ⟨hK, hN⟩ hPc hZ)⟩ rfl rfl hl.1 rfl (lv_room (Nat.le_of_ble_eq_true rfl)) (dq_182 0 bcJ5_inflateIfNeededFor_a7421_0 (j := 11) (i := 40) rfl rfl rfl) ⟨Nat.le_of_ble_eq_true rfl, Nat.le_of_ble_eq_true rfl⟩) (fun hb_4 => ?_)
  refine lv_icmp_eq (tgt := 21) hx hb (dq_159 0 bcJ5_inflateIfNeededFor_a7421_0 (j := 14) (i := 7) rfl rfl rfl) (by decide) (fun c_5 => ?_) (fun c_5 => ?_)
  ·
    replace hF := ip c_5 hF
    rw [hQ]
    exact W.vret hx hb hr (fun tt ht hW => ⟨rfl, trivial, ht⟩) (fun _ h => by cases h) (dq_177 0 bcJ5_inflateIfNeededFor_a7421_0 (j := 21) rfl rfl)
  ·
    replace hF := inn c_5 hF
    cases hF

def F_J0_getBytes_840e7 (p0 : Nat) (p2 : Int32) (p3 : Int32) (c_o1 : Nat → Int32) (m9 : Nat) : Option ((Nat → Int32)) :=
  ltF p0 15 (bd1 (F_J0_coder_7d493 p0) (fun r_1 => if r_1 = p3 then ltF p0 15 (ltF p0 15 (ltF p0 15 (ltF p0 15 (cpF (0 : Int32) (p2 <<< (p3 &&& (31 : Int32))) (Int32.ofNat (strL.getD p0 0)) (strL.getD p0 0) m9 (nmF (va_cpy (fun j => (strB.getD p0 []).getD j 0) c_o1 (0 : Int32).toNatClampNeg (p2 <<< (p3 &&& (31 : Int32))).toNatClampNeg (Int32.ofNat (strL.getD p0 0)).toNatClampNeg) (fun f_11 => some f_11)))))) else none))
abbrev w_J0_getBytes_840e7 (E : EE) (a_o1 : Nat) (c_o1 : Nat → Int32) (m9 : Nat) : va_W := [k_B E a_o1 m9 c_o1]
def v_f_J0_getBytes_840e7 : List Cond := List.cons (.code yJ0_getBytes_840e7 cJ0_getBytes_840e7 4 none) (HAppend.hAppend (α := List Cond) (β := List Cond) (γ := List Cond) [.fieldLink RJ0 9 "java/lang/String" "value" "[B", .methodLink RJ0 212 arraycopyName, .native arraycopyName, .static arraycopyName, .initialized "java/lang/System", .methodLink RJ0 335 yJ0_coder_7d493, .instanceMethod yJ0_coder_7d493, .selects RJ0 yJ0_coder_7d493 yJ0_coder_7d493, .initialized RJ0] (HAppend.hAppend (α := List Cond) (β := List Cond) (γ := List Cond) v_f_J0_coder_7d493 []))
theorem gw_f_J0_getBytes_840e7 : v_f_J0_getBytes_840e7.all goodWord = true := gw_c2 (by decide +kernel) (gw_ap gw_f_J0_coder_7d493 gw_nil)
theorem g_f_J0_getBytes_840e7_f_J0_coder_7d493_335 : GoodIn v_f_J0_getBytes_840e7 (wsV RJ0 335 RJ0 yJ0_coder_7d493 v_f_J0_coder_7d493) := goodIn_in gw_f_J0_getBytes_840e7 (in4 6 7 8 9 rfl rfl rfl rfl (fun _ h => List.mem_cons_of_mem _ (List.mem_append_right _ (List.mem_append_left _ h))))
theorem hd_J0_getBytes_840e7 : yJ0_getBytes_840e7.cls = RJ0 ∧ yJ0_getBytes_840e7.cls ≠ "java/lang/invoke/MethodHandle" ∧ yJ0_getBytes_840e7.cls ≠ "java/lang/invoke/VarHandle" ∧ (parseMethodDescriptor yJ0_getBytes_840e7.desc).map (fun d => d.parameters.length) = some 3 := by decide +kernel
set_option maxHeartbeats 4000000 in
set_option maxRecDepth 100000 in
theorem f_J0_getBytes_840e7 (l : Launch) (E : EE) (sz : Nat) (z9 : Nat → Nat) {a_o1 : Nat} {p0 : Nat} {p2 : Int32} {p3 : Int32} {c_o1 : Nat → Int32} {m9 : Nat} {n_o1 : Nat → Int32} (hF : F_J0_getBytes_840e7 p0 p2 p3 c_o1 m9 = some n_o1) : Met l yJ0_getBytes_840e7 v_f_J0_getBytes_840e7 (({ frames := 1, cells := 0, slots := 0, locals := 60 } : Room)) (va_Pc [.ref (z9 (20 + p0)), .ref a_o1, .int p2, .int p3] (qWZ E z9 sz (w_J0_getBytes_840e7 E a_o1 c_o1 m9))) (va_Qv (fun (_u : Unit) => True) (fun (_u : Unit) tt => va_P E.1 vwCl (w_J0_getBytes_840e7 E a_o1 n_o1 m9) tt.heap ∧ va_D (va_A (w_J0_getBytes_840e7 E a_o1 c_o1 m9) sz) (w_J0_getBytes_840e7 E a_o1 n_o1 m9)) (va_A (w_J0_getBytes_840e7 E a_o1 c_o1 m9) sz)) 0 0 (va_A (w_J0_getBytes_840e7 E a_o1 c_o1 m9) sz) := by
  refine Met.ofWF (cc := cJ0_getBytes_840e7) (maxL := 4) (ret := none) (by decide +kernel) rfl ?_
  intro p e s m args below meth c s₁ B hml hv
  obtain ⟨rfl, hsz, ⟨hK, hN⟩, hP, hD0, hZ⟩ := hv
  have hx := B.exec
  have hb := B.bytes
  have hr := B.returns
  have hts := atoms_spec (ws := v_f_J0_getBytes_840e7) B.pre
  have hown : s.vm.findClass RJ0 = some m.cls := own_of hd_J0_getBytes_840e7.1 (findClass_of_methodNamed B.named)
  have hlocks : meth.locks = false := B.notSynchronized
  subst hsz
  have hD := hD0.self (sz := s.heap.size)
  generalize hAe : va_A (w_J0_getBytes_840e7 E a_o1 c_o1 m9) s.heap.size = A at hD hZ ⊢
  have hA : ∀ q : Nat, s.heap.size ≤ q → A q := fun q h => by rw [← hAe]; exact Or.inr h
  have hS : va_S A s.heap s.heap [] := va_S.rf
  have hl := lv_entry ([.ref (z9 (20 + p0)), .ref a_o1, .int p2, .int p3]) (n := 4) (Nat.le_of_ble_eq_true rfl)
  rw [lg_entry_eq]
  generalize (lg_sl ([.ref (z9 (20 + p0)), .ref a_o1, .int p2, .int p3]) ++ List.replicate (4 - (lg_sl ([.ref (z9 (20 + p0)), .ref a_o1, .int p2, .int p3])).length) Slot.unset).toArray = ls at hl ⊢
  have hl : lv_has ls 4 [(0, .ref (z9 (20 + p0))), (1, .ref a_o1), (2, .int p2), (3, .int p3)] := hl
  obtain ⟨Q, hQ⟩ : ∃ Q : State → Prop, Q = MQ below (va_Qv (fun (_u : Unit) => True) (fun (_u : Unit) tt => va_P E.1 vwCl (w_J0_getBytes_840e7 E a_o1 n_o1 m9) tt.heap ∧ va_D A (w_J0_getBytes_840e7 E a_o1 n_o1 m9)) A) #[Value.ref (z9 (20 + p0)), Value.ref a_o1, Value.int p2, Value.int p3] s 0 0 A := ⟨_, rfl⟩
  rw [← hQ]
  change W p l e ({ frames := 1, cells := 0, slots := 0, locals := 60 } : Room) s m #[Value.ref (z9 (20 + p0)), Value.ref a_o1, Value.int p2, Value.int p3] below meth c s.heap [] 0 0 Q (F0 m 0 ls [])
  suffices hh9 : ∀ (H : Heap) (locs : List Loc), va_P E.1 vwCl (w_J0_getBytes_840e7 E a_o1 c_o1 m9) H → va_D A (w_J0_getBytes_840e7 E a_o1 c_o1 m9) → va_S A s.heap H locs → W p l e ({ frames := 1, cells := 0, slots := 0, locals := 60 } : Room) s m #[Value.ref (z9 (20 + p0)), Value.ref a_o1, Value.int p2, Value.int p3] below meth c H locs 0 0 Q (F0 m 0 ls []) from hh9 s.heap [] hP hD hS
  clear hP hD hS
  intro H locs hP hD hS
  have h9 := fixPD (ws' := [k_B E a_o1 m9 c_o1]) hP hD rfl
  clear hP hD
  obtain ⟨hP, hD⟩ := h9
  unfold F_J0_getBytes_840e7 at hF
  refine lv_aload_n hx hb (dq_42 0 bcJ0_getBytes_840e7_0 (j := 0) rfl rfl) rfl (lv_at hl 0 rfl) ?_
  replace hF := ltF_s hF
  obtain ⟨hs_2, hF⟩ := hF
  replace hF := bd1_s hF
  obtain ⟨r_1, hc_3, hF⟩ := hF
  have hPc : va_P E.1 vwCl [] H := fun k q h => by simp at h
  refine pE_b (va_runV (As := []) (rest := [])  ⟨hx, hb, hml, hown, hts⟩ (f_J0_coder_7d493 l E z9 (p0 := p0) hc_3) (cwV 0 hts g_f_J0_getBytes_840e7_f_J0_coder_7d493_335 rfl rfl rfl hd_J0_coder_7d493 ⟨Nat.le_of_ble_eq_true rfl, Nat.le_of_ble_eq_true rfl⟩) ⟨qPZ.blind, vk_recv hZ.2.2.2.1 hs_2 hS, (qPZ.pre ⟨hK, hN⟩ hPc hZ hS)⟩ rfl rfl hl.1 rfl (lv_room (Nat.le_of_ble_eq_true rfl)) (dq_182 0 bcJ0_getBytes_840e7_0 (j := 1) (i := 335) rfl rfl rfl) ⟨Nat.le_of_ble_eq_true rfl, Nat.le_of_ble_eq_true rfl⟩) (fun hb_4 => ?_)
  refine lv_iload_n hx hb (dq_29 0 bcJ0_getBytes_840e7_0 (j := 4) rfl rfl) rfl (lv_at hl 3 rfl) ?_
  refine lv_icmp_ne (tgt := 28) hx hb (dq_160 0 bcJ0_getBytes_840e7_0 (j := 5) (i := 23) rfl rfl rfl) (by decide) (fun c_5 => ?_) (fun c_5 => ?_)
  ·
    replace hF := inn c_5 hF
    cases hF
  ·
    replace hF := ip c_5 hF
    refine lv_aload_n hx hb (dq_42 0 bcJ0_getBytes_840e7_0 (j := 8) rfl rfl) rfl (lv_at hl 0 rfl) ?_
    replace hF := ltF_s hF
    obtain ⟨hs_6, hF⟩ := hF
    refine vk_getf (v := .ref (z9 (40 + p0))) hx hb ((hZ.2.2.2.1.1 p0 hs_6).2.2.1) hS hown (hts (.fieldLink RJ0 9 "java/lang/String" "value" "[B") (List.mem_of_getElem? (i := 1) rfl)) (fun _ h9 => h9) (dq_180 0 bcJ0_getBytes_840e7_0 (j := 9) (i := 9) rfl rfl rfl) ?_
    refine lv_iconst (v := 0) hx hb (dq_3 0 bcJ0_getBytes_840e7_0 (j := 12) rfl rfl) (by decide) ?_
    refine lv_aload_n hx hb (dq_43 0 bcJ0_getBytes_840e7_0 (j := 13) rfl rfl) rfl (lv_at hl 1 rfl) ?_
    refine lv_iload_n hx hb (dq_28 0 bcJ0_getBytes_840e7_0 (j := 14) rfl rfl) rfl (lv_at hl 2 rfl) ?_
    refine lv_iload_n hx hb (dq_29 0 bcJ0_getBytes_840e7_0 (j := 15) rfl rfl) rfl (lv_at hl 3 rfl) ?_
    refine lv_ishl hx hb (dq_120 0 bcJ0_getBytes_840e7_0 (j := 16) rfl rfl) ?_
    refine lv_aload_n hx hb (dq_42 0 bcJ0_getBytes_840e7_0 (j := 17) rfl rfl) rfl (lv_at hl 0 rfl) ?_
    replace hF := ltF_s hF
    obtain ⟨hs_7, hF⟩ := hF
    refine vk_getf (v := .ref (z9 (40 + p0))) hx hb ((hZ.2.2.2.1.1 p0 hs_7).2.2.1) hS hown (hts (.fieldLink RJ0 9 "java/lang/String" "value" "[B") (List.mem_of_getElem? (i := 1) rfl)) (fun _ h9 => h9) (dq_180 0 bcJ0_getBytes_840e7_0 (j := 18) (i := 9) rfl rfl rfl) ?_
    replace hF := ltF_s hF
    obtain ⟨hs_8, hF⟩ := hF
    refine va_tlen (v := (Int32.ofNat (strL.getD p0 0))) hx hb ((hZ.2.2.2.1.1 p0 hs_8).2.2.2) hS rfl (dq_190 0 bcJ0_getBytes_840e7_0 (j := 21) rfl rfl) ?_
    replace hF := ltF_s hF
    obtain ⟨hs_9, hF⟩ := hF
    replace hF := cp_s hF
    obtain ⟨hy_10, hF⟩ := hF
    refine vk_copyt (f := fun j => (strB.getD p0 []).getD j 0) hx hb (hml.trans hl.1.symm) hown (hts (.methodLink RJ0 212 arraycopyName) (List.mem_of_getElem? (i := 2) rfl)) (hts (.native arraycopyName) (List.mem_of_getElem? (i := 3) rfl)) (hts (.static arraycopyName) (List.mem_of_getElem? (i := 4) rfl)) (hts (.initialized "java/lang/System") (List.mem_of_getElem? (i := 5) rfl)) hK hP hD hS ((hZ.2.2.2.1.1 p0 hs_9).2.2.2) 0 1 rfl rfl hy_10.1 hy_10.2.1 hy_10.2.2.1 hy_10.2.2.2.1 hy_10.2.2.2.2 (fun _ _ => strB_fit _ _) (Nat.le_of_ble_eq_true rfl) (Nat.le_of_ble_eq_true rfl) (dq_184 0 bcJ0_getBytes_840e7_0 (j := 22) (i := 212) rfl rfl rfl) (fun H locs hP hD hS => ?_)
    have h9 := fixPD (ws' := [k_B E a_o1 m9 (va_cpy (fun j => (strB.getD p0 []).getD j 0) c_o1 (0 : Int32).toNatClampNeg (p2 <<< (p3 &&& (31 : Int32))).toNatClampNeg (Int32.ofNat (strL.getD p0 0)).toNatClampNeg)]) hP hD rfl
    clear hP hD
    obtain ⟨hP, hD⟩ := h9
    replace hF := nm_s hF
    obtain ⟨f_11, hf_11, hF⟩ := hF
    rw [← hf_11] at hP hD
    refine lv_goto (tgt := 43) hx hb (dq_167 0 bcJ0_getBytes_840e7_0 (j := 25) (i := 18) rfl rfl rfl) (by decide) ?_
    rw [hQ]
    have h9 := fin9 (P := fun u9 : (Nat → Int32) => va_P E.1 vwCl (w_J0_getBytes_840e7 E a_o1 u9 m9) H ∧ va_D A (w_J0_getBytes_840e7 E a_o1 u9 m9)) hF ⟨hP, hD⟩
    obtain ⟨hP9, hD9⟩ := h9
    exact W.vret hx hb hr (fun tt ht hW => ⟨⟨(), rfl, trivial, ht ▸ hP9, hD9⟩, hS.F ht⟩) hS.2.2 (dq_177 0 bcJ0_getBytes_840e7_0 (j := 43) rfl rfl)

def F_J5_putStringAt_47b60 (p1 : Int32) (p2 : Nat) (c_value : Nat → Int32) (c_coder : Int32) (m9 : Nat) : Option ((Nat → Int32)) :=
  bd1 (F_J5_inflateIfNeededFor_a7421 p2 c_coder) (fun u_1 => ltF p2 15 (bd1 (F_J0_getBytes_840e7 p2 p1 c_coder c_value m9) (fun w_3 => some w_3)))
abbrev w_J5_putStringAt_47b60 (E : EE) (a_ a_value : Nat) (c_coder : Int32) (c_maybeLatin1 : Int32) (c_count : Int32) (c_value : Nat → Int32) (m9 : Nat) : va_W := [k_J4 a_ a_value c_coder c_maybeLatin1 c_count, k_B E a_value m9 c_value]
def v_f_J5_putStringAt_47b60 : List Cond := List.cons (.code yJ5_putStringAt_47b60 cJ5_putStringAt_47b60 3 none) (HAppend.hAppend (α := List Cond) (β := List Cond) (γ := List Cond) [.fieldLink RJ5 15 "java/lang/AbstractStringBuilder" "value" "[B", .fieldLink RJ5 22 "java/lang/AbstractStringBuilder" "coder" "B", .methodLink RJ5 397 yJ5_inflateIfNeededFor_a7421, .instanceMethod yJ5_inflateIfNeededFor_a7421, .selects RJ4 yJ5_inflateIfNeededFor_a7421 yJ5_inflateIfNeededFor_a7421, .initialized RJ5, .methodLink RJ5 399 yJ0_getBytes_840e7, .instanceMethod yJ0_getBytes_840e7, .selects RJ0 yJ0_getBytes_840e7 yJ0_getBytes_840e7, .initialized RJ0] (HAppend.hAppend (α := List Cond) (β := List Cond) (γ := List Cond) v_f_J5_inflateIfNeededFor_a7421 (HAppend.hAppend (α := List Cond) (β := List Cond) (γ := List Cond) wsJ40 (HAppend.hAppend (α := List Cond) (β := List Cond) (γ := List Cond) v_f_J0_getBytes_840e7 []))))
theorem gw_f_J5_putStringAt_47b60 : v_f_J5_putStringAt_47b60.all goodWord = true := gw_c2 (by decide +kernel) (gw_ap gw_f_J5_inflateIfNeededFor_a7421 (gw_ap gw_wsJ40 (gw_ap gw_f_J0_getBytes_840e7 gw_nil)))
theorem i_f_J5_putStringAt_47b60_J4 : ∀ w ∈ wsJ40, w ∈ v_f_J5_putStringAt_47b60 := fun _ h => List.mem_cons_of_mem _ (List.mem_append_right _ (List.mem_append_right _ (List.mem_append_left _ h)))
theorem g_f_J5_putStringAt_47b60_f_J5_inflateIfNeededFor_a7421_397 : GoodIn v_f_J5_putStringAt_47b60 (wsC RJ5 397 RJ4 yJ5_inflateIfNeededFor_a7421 v_f_J5_inflateIfNeededFor_a7421) := goodIn_in gw_f_J5_putStringAt_47b60 (in4 3 4 5 6 rfl rfl rfl rfl (fun _ h => List.mem_cons_of_mem _ (List.mem_append_right _ (List.mem_append_left _ h))))
theorem g_f_J5_putStringAt_47b60_f_J0_getBytes_840e7_399 : GoodIn v_f_J5_putStringAt_47b60 (wsV RJ5 399 RJ0 yJ0_getBytes_840e7 v_f_J0_getBytes_840e7) := goodIn_in gw_f_J5_putStringAt_47b60 (in4 7 8 9 10 rfl rfl rfl rfl (fun _ h => List.mem_cons_of_mem _ (List.mem_append_right _ (List.mem_append_right _ (List.mem_append_right _ (List.mem_append_left _ h))))))
theorem hd_J5_putStringAt_47b60 : yJ5_putStringAt_47b60.cls = RJ5 ∧ yJ5_putStringAt_47b60.cls ≠ "java/lang/invoke/MethodHandle" ∧ yJ5_putStringAt_47b60.cls ≠ "java/lang/invoke/VarHandle" ∧ (parseMethodDescriptor yJ5_putStringAt_47b60.desc).map (fun d => d.parameters.length) = some 2 := by decide +kernel
set_option maxHeartbeats 4000000 in
set_option maxRecDepth 100000 in
theorem f_J5_putStringAt_47b60 (l : Launch) (E : EE) (sz : Nat) (z9 : Nat → Nat) {a_ a_value : Nat} {p1 : Int32} {p2 : Nat} {c_coder : Int32} {c_maybeLatin1 : Int32} {c_count : Int32} {c_value : Nat → Int32} {m9 : Nat} {n_value : Nat → Int32} (hF : F_J5_putStringAt_47b60 p1 p2 c_value c_coder m9 = some n_value) : Met l yJ5_putStringAt_47b60 v_f_J5_putStringAt_47b60 (({ frames := 2, cells := 0, slots := 0, locals := 83 } : Room)) (va_Pc [.ref a_, .int p1, .ref (z9 (20 + p2))] (qWZ E z9 sz (w_J5_putStringAt_47b60 E a_ a_value c_coder c_maybeLatin1 c_count c_value m9))) (va_Qv (fun (_u : Unit) => True) (fun (_u : Unit) tt => va_P E.1 vwCl (w_J5_putStringAt_47b60 E a_ a_value c_coder c_maybeLatin1 c_count n_value m9) tt.heap ∧ va_D (va_A (w_J5_putStringAt_47b60 E a_ a_value c_coder c_maybeLatin1 c_count c_value m9) sz) (w_J5_putStringAt_47b60 E a_ a_value c_coder c_maybeLatin1 c_count n_value m9)) (va_A (w_J5_putStringAt_47b60 E a_ a_value c_coder c_maybeLatin1 c_count c_value m9) sz)) 0 0 (va_A (w_J5_putStringAt_47b60 E a_ a_value c_coder c_maybeLatin1 c_count c_value m9) sz) := by
  refine Met.ofWF (cc := cJ5_putStringAt_47b60) (maxL := 3) (ret := none) (by decide +kernel) rfl ?_
  intro p e s m args below meth c s₁ B hml hv
  obtain ⟨rfl, hsz, ⟨hK, hN⟩, hP, hD0, hZ⟩ := hv
  have hx := B.exec
  have hb := B.bytes
  have hr := B.returns
  have hts := atoms_spec (ws := v_f_J5_putStringAt_47b60) B.pre
  have hown : s.vm.findClass RJ5 = some m.cls := own_of hd_J5_putStringAt_47b60.1 (findClass_of_methodNamed B.named)
  have hlocks : meth.locks = false := B.notSynchronized
  subst hsz
  have hD := hD0.self (sz := s.heap.size)
  generalize hAe : va_A (w_J5_putStringAt_47b60 E a_ a_value c_coder c_maybeLatin1 c_count c_value m9) s.heap.size = A at hD hZ ⊢
  have hA : ∀ q : Nat, s.heap.size ≤ q → A q := fun q h => by rw [← hAe]; exact Or.inr h
  have hS : va_S A s.heap s.heap [] := va_S.rf
  have hl := lv_entry ([.ref a_, .int p1, .ref (z9 (20 + p2))]) (n := 3) (Nat.le_of_ble_eq_true rfl)
  rw [lg_entry_eq]
  generalize (lg_sl ([.ref a_, .int p1, .ref (z9 (20 + p2))]) ++ List.replicate (3 - (lg_sl ([.ref a_, .int p1, .ref (z9 (20 + p2))])).length) Slot.unset).toArray = ls at hl ⊢
  have hl : lv_has ls 3 [(0, .ref a_), (1, .int p1), (2, .ref (z9 (20 + p2)))] := hl
  obtain ⟨Q, hQ⟩ : ∃ Q : State → Prop, Q = MQ below (va_Qv (fun (_u : Unit) => True) (fun (_u : Unit) tt => va_P E.1 vwCl (w_J5_putStringAt_47b60 E a_ a_value c_coder c_maybeLatin1 c_count n_value m9) tt.heap ∧ va_D A (w_J5_putStringAt_47b60 E a_ a_value c_coder c_maybeLatin1 c_count n_value m9)) A) #[Value.ref a_, Value.int p1, Value.ref (z9 (20 + p2))] s 0 0 A := ⟨_, rfl⟩
  rw [← hQ]
  change W p l e ({ frames := 2, cells := 0, slots := 0, locals := 83 } : Room) s m #[Value.ref a_, Value.int p1, Value.ref (z9 (20 + p2))] below meth c s.heap [] 0 0 Q (F0 m 0 ls [])
  suffices hh9 : ∀ (H : Heap) (locs : List Loc), va_P E.1 vwCl (w_J5_putStringAt_47b60 E a_ a_value c_coder c_maybeLatin1 c_count c_value m9) H → va_D A (w_J5_putStringAt_47b60 E a_ a_value c_coder c_maybeLatin1 c_count c_value m9) → va_S A s.heap H locs → W p l e ({ frames := 2, cells := 0, slots := 0, locals := 83 } : Room) s m #[Value.ref a_, Value.int p1, Value.ref (z9 (20 + p2))] below meth c H locs 0 0 Q (F0 m 0 ls []) from hh9 s.heap [] hP hD hS
  clear hP hD hS
  intro H locs hP hD hS
  have h9 := fixPD (ws' := [k_J4 a_ a_value c_coder c_maybeLatin1 c_count, k_B E a_value m9 c_value]) hP hD rfl
  clear hP hD
  obtain ⟨hP, hD⟩ := h9
  unfold F_J5_putStringAt_47b60 at hF
  refine lv_aload_n hx hb (dq_42 0 bcJ5_putStringAt_47b60_0 (j := 0) rfl rfl) rfl (lv_at hl 0 rfl) ?_
  refine lv_aload_n hx hb (dq_44 0 bcJ5_putStringAt_47b60_0 (j := 1) rfl rfl) rfl (lv_at hl 2 rfl) ?_
  replace hF := bd1_s hF
  obtain ⟨u_1, hc_2, hF⟩ := hF
  have hPc : va_P E.1 vwCl (w_J5_inflateIfNeededFor_a7421 E a_ a_value c_coder c_maybeLatin1 c_count) H := hP.sub (ws' := [k_J4 a_ a_value c_coder c_maybeLatin1 c_count]) [0] rfl
  have hrc := va_recv hK hPc (ci := 0) (q0 := 0) rfl rfl
  refine pc_v (va_runV (As := [.ref (z9 (20 + p2))]) (rest := [])  ⟨hx, hb, hml, hown, hts⟩ (f_J5_inflateIfNeededFor_a7421 l E z9 (a_ := a_) (a_value := a_value) (p1 := p2) (c_coder := c_coder) (c_maybeLatin1 := c_maybeLatin1) (c_count := c_count) hc_2) (cwC 1 hts g_f_J5_putStringAt_47b60_f_J5_inflateIfNeededFor_a7421_397 rfl rfl rfl hd_J5_inflateIfNeededFor_a7421.2 ⟨Nat.le_of_ble_eq_true rfl, Nat.le_of_ble_eq_true rfl⟩) ⟨qPZ.blind, hrc, (qPZ.pre ⟨hK, hN⟩ hPc hZ hS)⟩ rfl rfl hl.1 rfl (lv_room (Nat.le_of_ble_eq_true rfl)) (dq_182 0 bcJ5_putStringAt_47b60_0 (j := 2) (i := 397) rfl rfl rfl) ⟨Nat.le_of_ble_eq_true rfl, Nat.le_of_ble_eq_true rfl⟩) ?_
  refine lv_aload_n hx hb (dq_44 0 bcJ5_putStringAt_47b60_0 (j := 5) rfl rfl) rfl (lv_at hl 2 rfl) ?_
  refine lv_aload_n hx hb (dq_42 0 bcJ5_putStringAt_47b60_0 (j := 6) rfl rfl) rfl (lv_at hl 0 rfl) ?_
  refine gt_J4_0 (v := .ref a_value) hx hb hts i_f_J5_putStringAt_47b60_J4 hown hK hP 0 rfl (hts (.fieldLink RJ5 15 "java/lang/AbstractStringBuilder" "value" "[B") (List.mem_of_getElem? (i := 1) rfl)) rfl (dq_180 0 bcJ5_putStringAt_47b60_0 (j := 7) (i := 15) rfl rfl rfl) ?_
  refine lv_iload_n hx hb (dq_27 0 bcJ5_putStringAt_47b60_0 (j := 10) rfl rfl) rfl (lv_at hl 1 rfl) ?_
  refine lv_aload_n hx hb (dq_42 0 bcJ5_putStringAt_47b60_0 (j := 11) rfl rfl) rfl (lv_at hl 0 rfl) ?_
  refine gt_J4_1 (v := .int c_coder) hx hb hts i_f_J5_putStringAt_47b60_J4 hown hK hP 0 rfl (hts (.fieldLink RJ5 22 "java/lang/AbstractStringBuilder" "coder" "B") (List.mem_of_getElem? (i := 2) rfl)) rfl (dq_180 0 bcJ5_putStringAt_47b60_0 (j := 12) (i := 22) rfl rfl rfl) ?_
  replace hF := ltF_s hF
  obtain ⟨hs_4, hF⟩ := hF
  replace hF := bd1_s hF
  obtain ⟨w_3, hc_5, hF⟩ := hF
  obtain ⟨hPc, hDc, hFc⟩ := wcut (wc := (w_J0_getBytes_840e7 E a_value c_value m9)) hP hD hS hA [1] (by decide) rfl
  refine cE_v (wc := (w_J0_getBytes_840e7 E a_value c_value m9)) (wr := [k_J4 a_ a_value c_coder c_maybeLatin1 c_count]) (w1 := (w_J0_getBytes_840e7 E a_value w_3 m9)) (va_runV (As := [.ref a_value, .int p1, .int c_coder]) (rest := [])  ⟨hx, hb, hml, hown, hts⟩ (f_J0_getBytes_840e7 l E H.size z9 (a_o1 := a_value) (p0 := p2) (p2 := p1) (p3 := c_coder) (c_o1 := c_value) (m9 := m9) hc_5) (cwV 3 hts g_f_J5_putStringAt_47b60_f_J0_getBytes_840e7_399 rfl rfl rfl hd_J0_getBytes_840e7 ⟨Nat.le_of_ble_eq_true rfl, Nat.le_of_ble_eq_true rfl⟩) ⟨qWZ.blind, vk_recv hZ.2.2.2.1 hs_4 hS, (qWZ.pre ⟨hK, hN⟩ hPc hDc hZ hS hFc)⟩ rfl rfl hl.1 rfl (lv_room (Nat.le_of_ble_eq_true rfl)) (dq_182 0 bcJ5_putStringAt_47b60_0 (j := 15) (i := 399) rfl rfl rfl) ⟨Nat.le_of_ble_eq_true rfl, Nat.le_of_ble_eq_true rfl⟩) hS hFc hP hD [1] [0] rfl rfl (by decide) (by decide) (fun H locs hP hD hS => ?_)
  have h9 := fixPD (ws' := [k_J4 a_ a_value c_coder c_maybeLatin1 c_count, k_B E a_value m9 w_3]) hP hD rfl
  clear hP hD
  obtain ⟨hP, hD⟩ := h9
  rw [hQ]
  have h9 := fin9 (P := fun u9 : (Nat → Int32) => va_P E.1 vwCl (w_J5_putStringAt_47b60 E a_ a_value c_coder c_maybeLatin1 c_count u9 m9) H ∧ va_D A (w_J5_putStringAt_47b60 E a_ a_value c_coder c_maybeLatin1 c_count u9 m9)) hF ⟨hP, hD⟩
  obtain ⟨hP9, hD9⟩ := h9
  exact W.vret hx hb hr (fun tt ht hW => ⟨⟨(), rfl, trivial, ht ▸ hP9, hD9⟩, hS.F ht⟩) hS.2.2 (dq_177 0 bcJ5_putStringAt_47b60_0 (j := 18) rfl rfl)
end
