/-! Stage B, 21: undoing, the log, the status, images, in both -/
theorem cpy_st {g kp : Nat → Int32} {o j : Nat} : upd (va_cpy kp g o 0 j) j (kp (o + j)) = va_cpy kp g o 0 (j + 1) := by
  funext k
  by_cases c : k = j
  · rw [c, upd_at, pk_cpy_in (by omega) (by omega), Nat.sub_zero]
  · rw [upd_ne c]
    by_cases d : k < j
    · rw [pk_cpy_in (by omega) (by omega), pk_cpy_in (by omega) (by omega)]
    · rw [pk_cpy_out (by omega), pk_cpy_out (by omega)]
theorem cpy_0 {g kp : Nat → Int32} {o : Nat} : va_cpy kp g o 0 0 = g := by
  funext k
  exact pk_cpy_out (by omega)
theorem gcpy_at {g kp : Nat → Int32} {o m k : Nat} (h : k < m) : va_cpy kp g o 0 m k = kp (o + k) := by
  rw [pk_cpy_in (by omega) (by omega), Nat.sub_zero]
theorem m_undo {K e : Nat} {g kp : Nat → Int32} (hK : 200000 ≤ K) (he : e < 40) : lpF (fun u9 : Int32 × (Nat → Int32) => B_X8_undo_21 kp (nI e) u9.1 u9.2) K ((0 : Int32), g) = some (va_cpy kp g (265 * e) 0 265) := by
  have h : lpF (fun u9 : Int32 × (Nat → Int32) => B_X8_undo_21 kp (nI e) u9.1 u9.2) K (nI 0, va_cpy kp g (265 * e) 0 0) = some (va_cpy kp g (265 * e) 0 265) := by
    refine lp_for (fun j => (nI j, va_cpy kp g (265 * e) 0 j)) (n := 265) (by omega) (fun j hj => ?_) ?_
    · show B_X8_undo_21 kp (nI e) (nI j) (va_cpy kp g (265 * e) 0 j) = some (.inl (nI (j + 1), va_cpy kp g (265 * e) 0 (j + 1)))
      have e1 : ((265 : Int32) * nI e) + nI j = nI (265 * e + j) := by rw [show (265 : Int32) = nI 265 from rfl, nI_mul, nI_add]
      unfold B_X8_undo_21
      rw [if_neg (show ¬ (265 : Int32) ≤ nI j from mt (nI_leI (a := 265) (b := j) (by omega) (by omega)).mp (by omega)), e1, xixn (by omega) (by decide), xixn (by omega) (by decide), xnm, nI_clamp (by omega), nI_clamp (by omega), cpy_st, nI_1]
    · show B_X8_undo_21 kp (nI e) (nI 265) (va_cpy kp g (265 * e) 0 265) = _
      unfold B_X8_undo_21
      rw [if_pos (by decide)]
  rw [cpy_0] at h
  exact h
theorem m_image {K : Nat} {g im : Nat → Int32} (hK : 200000 ≤ K) : lpF (fun u9 : Int32 × (Nat → Int32) => B_X8_image_11 g u9.1 u9.2) K ((0 : Int32), im) = some (va_cpy g im 0 0 265) := by
  have h : lpF (fun u9 : Int32 × (Nat → Int32) => B_X8_image_11 g u9.1 u9.2) K (nI 0, va_cpy g im 0 0 0) = some (va_cpy g im 0 0 265) := by
    refine lp_for (fun j => (nI j, va_cpy g im 0 0 j)) (n := 265) (by omega) (fun j hj => ?_) ?_
    · show B_X8_image_11 g (nI j) (va_cpy g im 0 0 j) = some (.inl (nI (j + 1), va_cpy g im 0 0 (j + 1)))
      have e := cpy_st (g := im) (kp := g) (o := 0) (j := j)
      rw [Nat.zero_add] at e
      unfold B_X8_image_11
      rw [if_neg (show ¬ (265 : Int32) ≤ nI j from mt (nI_leI (a := 265) (b := j) (by omega) (by omega)).mp (by omega)), xixn (by omega) (by decide), xixn (by omega) (by decide), xnm, nI_clamp (by omega), e, nI_1]
    · show B_X8_image_11 g (nI 265) (va_cpy g im 0 0 265) = _
      unfold B_X8_image_11
      rw [if_pos (by decide)]
  rw [cpy_0] at h
  exact h
theorem m_back {K : Nat} {g im : Nat → Int32} (hK : 200000 ≤ K) : lpF (fun u9 : Int32 × (Nat → Int32) => B_X8_back_11 im u9.1 u9.2) K ((0 : Int32), g) = some (va_cpy im g 0 0 265) := by
  have h : lpF (fun u9 : Int32 × (Nat → Int32) => B_X8_back_11 im u9.1 u9.2) K (nI 0, va_cpy im g 0 0 0) = some (va_cpy im g 0 0 265) := by
    refine lp_for (fun j => (nI j, va_cpy im g 0 0 j)) (n := 265) (by omega) (fun j hj => ?_) ?_
    · show B_X8_back_11 im (nI j) (va_cpy im g 0 0 j) = some (.inl (nI (j + 1), va_cpy im g 0 0 (j + 1)))
      have e := cpy_st (g := g) (kp := im) (o := 0) (j := j)
      rw [Nat.zero_add] at e
      unfold B_X8_back_11
      rw [if_neg (show ¬ (265 : Int32) ≤ nI j from mt (nI_leI (a := 265) (b := j) (by omega) (by omega)).mp (by omega)), xixn (by omega) (by decide), xixn (by omega) (by decide), xnm, nI_clamp (by omega), e, nI_1]
    · show B_X8_back_11 im (nI 265) (va_cpy im g 0 0 265) = _
      unfold B_X8_back_11
      rw [if_pos (by decide)]
  rw [cpy_0] at h
  exact h
theorem c_bring {p hd : Nat} {hr f : Nat → Int32} {k0 : Int32} (e0 : k0 = nI p) (hp : p < 40) (h0 : 0 < hd) (h4 : hd ≤ 40) : J_X2_bringBack_28 hr k0 (nI hd) f = some (1, nI p, nI (hd - 1), va_cpy hr f (81 * p) 0 81) := by
  have e : nI p * (81 : Int32) = nI (81 * p) := by rw [show (81 : Int32) = nI 81 from rfl, nI_mul, Nat.mul_comm]
  unfold J_X2_bringBack_28 cpF
  rw [e0, e, show (81 : Int32).toNatClampNeg = 81 by decide, show (0 : Int32).toNatClampNeg = 0 by decide, nI_clamp (by omega), if_pos ⟨nn0 (by omega), by decide, by decide, by omega, by omega⟩, xnm, show nI hd - (1 : Int32) = nI (hd - 1) from xsub (b := 1) (by omega)]
/-- the latest act is undone -/
theorem p_undo {n a hd nx K : Nat} {f g bk hr kp : Nat → Int32} (hK : 200000 ≤ K) (h : ActR n a hd nx f g bk hr kp) : ∃ (v : Int32) (f' g' : Nat → Int32) (a' hd' nx' : Nat), F_X7_undo f hr (nI nx) (nI hd) = some (v, f', nI nx', nI hd') ∧ F_X8_undo K g kp (nI hd) = some (v, g', nI hd') ∧ ActR n a' hd' nx' f' g' bk hr kp ∧ a' ≤ a := by
  obtain ⟨hw, h1, h2, h3, hR⟩ := h
  unfold F_X7_undo F_X8_undo F_X2_bringBack
  by_cases c : hd = 0
  · rw [c, if_pos (by rfl), if_pos (by rfl), xb4, if_pos rfl]
    exact ⟨-1, f, g, a, 0, nx, rfl, rfl, ⟨hw, by omega, by omega, h3, fun d q => absurd q (Nat.not_lt_zero _)⟩, Nat.le_refl _⟩
  · have h0 : 0 < hd := by omega
    have nz : ¬ nI hd = (0 : Int32) := nI_ne0 h0 (by omega)
    have C : (if nI nx ≤ (0 : Int32) then J_X2_bringBack_28 hr (39 : Int32) (nI hd) f else J_X2_bringBack_28 hr (nI nx - (1 : Int32)) (nI hd) f) = some (1, nI ((nx + 39) % 40), nI (hd - 1), va_cpy hr f (81 * ((nx + 39) % 40)) 0 81) := by
      by_cases d : nx = 0
      · rw [if_pos (by rw [d]; decide), c_bring (p := 39) (by rfl) (by decide) h0 h1, d]
      · rw [if_neg (nI_nle (by omega) (by omega)), c_bring (p := nx - 1) (show nI nx - (1 : Int32) = nI (nx - 1) from xsub (b := 1) (by omega)) (by omega) h0 h1, show (nx + 39) % 40 = nx - 1 by omega]
    rw [if_neg nz, if_neg nz, C, xb4, if_neg (show ¬ (1 : Int32) = 0 by decide), show nI hd - (1 : Int32) = nI (hd - 1) from xsub (b := 1) (by omega), m_undo hK (by omega), xb1]
    refine ⟨_, _, _, a - 1, hd - 1, (nx + 39) % 40, rfl, rfl, ⟨?_, by omega, by omega, Nat.mod_lt _ (by decide), fun d q => ?_⟩, by omega⟩
    · have r := hR 0 h0
      rw [show a - 1 - 0 = a - 1 by omega, show nx + 39 - 0 = nx + 39 by omega, show hd - 1 - 0 = hd - 1 by omega] at r
      exact r.cg (fun k hk => gcpy_at hk) (fun k hk => gcpy_at hk)
    · have r := hR (d + 1) (by omega)
      rw [show a - 1 - (d + 1) = a - 1 - 1 - d by omega, show (nx + 39 - (d + 1)) % 40 = ((nx + 39) % 40 + 39 - d) % 40 by omega, show hd - 1 - (d + 1) = hd - 1 - 1 - d by omega] at r
      exact r
theorem c_lgN {a : Nat} (ha : a < 2 ^ 30) : minF (nI a) (60 : Int32) = nI (lgN a) := by
  unfold minF lgN
  by_cases c : a < 60
  · rw [if_pos c, if_neg (show ¬ (60 : Int32) < nI a from mt (nI_ltI (a := 60) (b := a) (by omega) (by omega)).mp (by omega))]
  · rw [if_neg c]
    by_cases d : a = 60
    · rw [d]
      decide
    · rw [if_pos (show (60 : Int32) < nI a from (nI_ltI (a := 60) (b := a) (by omega) (by omega)).mpr (by omega))]
      rfl
/-- what the log tells -/
theorem p_log {n a : Nat} {f g bk : Nat → Int32} {x y : Int32} (ha : a < 2 ^ 29) (h : KRow n bk a f g) : ∃ v, F_X7_log x y f bk = some v ∧ F_X8_log x y g = some v := by
  have l := lgN_le a
  have e84 := h.2.2.2.1.1
  have e1 : F_X8_in x.toInt64 (0 : Int64) ((nI (lgN a) - (1 : Int32)).toInt64) = some (if 0 ≤ x ∧ x ≤ nI (lgN a) - 1 then 1 else 0) := by
    rw [show (0 : Int64) = (0 : Int32).toInt64 from rfl, m_inI]
  have e2 : F_X8_in y.toInt64 (0 : Int64) (2 : Int64) = some (if 0 ≤ y ∧ y ≤ (2 : Int32) then 1 else 0) := by
    rw [show (0 : Int64) = (0 : Int32).toInt64 from rfl, show (2 : Int64) = (2 : Int32).toInt64 from rfl, m_inI]
  unfold F_X7_log F_X8_log F_X7_loggedActs
  rw [e84, e1, xb1, e2, xb1, xb1, h.2.2.1, c_lgN (by omega)]
  by_cases c : 0 ≤ x ∧ x ≤ nI (lgN a) - 1
  · obtain ⟨i, hi, rfl⟩ := in_lt (by omega) c
    rw [if_pos c, if_neg (show ¬ (1 : Int32) = 0 by decide), if_neg (nn0 (by omega)), if_neg (mt (nI_leI (a := lgN a) (b := i) (by omega) (by omega)).mp (by omega))]
    by_cases d : 0 ≤ y ∧ y ≤ (2 : Int32)
    · obtain ⟨w, hw, rfl⟩ := in_nat (n := 2) (by decide) d
      have k1 : (nI (lgN a) - (1 : Int32)) - nI i = nI (lgN a - 1 - i) := by rw [show nI (lgN a) - (1 : Int32) = nI (lgN a - 1) from xsub (b := 1) (by omega), xsub (by omega)]
      have k2 : (nI a - (1 : Int32)) - nI i = nI (a - 1 - i) := by rw [show nI a - (1 : Int32) = nI (a - 1) from xsub (b := 1) (by omega), xsub (by omega)]
      have k3 : ((85 : Int32) + ((3 : Int32) * nI (lgN a - 1 - i))) + nI w = nI (85 + 3 * (lgN a - 1 - i) + w) := by rw [show (85 : Int32) = nI 85 from rfl, show (3 : Int32) = nI 3 from rfl, nI_mul, nI_add, nI_add]
      have m1 : (a - 1 - i) % 100 < 100 := Nat.mod_lt _ (by decide)
      have k4 : nI ((a - 1 - i) % 100) * (3 : Int32) + nI w = nI ((a - 1 - i) % 100 * 3 + w) := by rw [show (3 : Int32) = nI 3 from rfl, nI_mul, nI_add]
      have lr := h.2.2.2.1.2 (lgN a - 1 - i) w (by omega) hw
      rw [show a - lgN a + (lgN a - 1 - i) = a - 1 - i by omega] at lr
      unfold F_X0_read
      rw [if_pos d, if_neg (show ¬ (1 : Int32) = 0 by decide), if_neg (nn0 (by omega)), if_pos (show nI w < (3 : Int32) from (nI_ltI (a := w) (b := 3) (by omega) (by omega)).mpr hw), k1, k2, k3, if_neg (nn0 (by omega)), if_neg (show ¬ (3 : Int32) ≤ nI w from mt (nI_leI (a := 3) (b := w) (by omega) (by omega)).mp (by omega)), fm_100 (by omega), xb1, k4, xixn (by omega) (by decide), xb1, xixn (by omega) (by decide), nI_clamp (by omega), nI_clamp (by omega), lr]
      exact ⟨_, rfl, rfl⟩
    · rw [if_neg d, if_pos rfl]
      refine ⟨_, ?_, rfl⟩
      by_cases b1 : y < 0
      · rw [if_pos b1]
      · rw [if_neg b1, if_neg]
        intro b2
        obtain ⟨w, hw, rfl⟩ := nnI (n := 3) (by decide) b1 (lt_not.mp b2)
        exact d ⟨nI_nn (by omega), (nI_leI (a := w) (b := 2) (by omega) (by omega)).mpr (by omega)⟩
  · rw [if_neg c, if_pos rfl]
    refine ⟨_, ?_, rfl⟩
    by_cases b1 : x < 0
    · rw [if_pos b1]
    · rw [if_neg b1, if_pos]
      refine Decidable.byContradiction (fun b2 => ?_)
      obtain ⟨w, hw, rfl⟩ := nnI (n := lgN a) (by omega) b1 b2
      apply c
      rw [show nI (lgN a) - (1 : Int32) = nI (lgN a - 1) from xsub (b := 1) (by omega)]
      exact ⟨nI_nn (by omega), (nI_leI (a := w) (b := lgN a - 1) (by omega) (by omega)).mpr (by omega)⟩
theorem p_status {rf mrf : Nat → Int32} {x : Int32} (h : ∀ i, i < 3 → rf i = mrf i) : ∃ v, F_X7_status x rf = some v ∧ F_X8_status x mrf = some v := by
  have e2 : F_X8_in x.toInt64 (0 : Int64) (2 : Int64) = some (if 0 ≤ x ∧ x ≤ (2 : Int32) then 1 else 0) := by
    rw [show (0 : Int64) = (0 : Int32).toInt64 from rfl, show (2 : Int64) = (2 : Int32).toInt64 from rfl, m_inI]
  unfold F_X7_status F_X8_status
  rw [e2, xb1]
  by_cases d : 0 ≤ x ∧ x ≤ (2 : Int32)
  · obtain ⟨w, hw, rfl⟩ := in_nat (n := 2) (by decide) d
    rw [if_pos d, if_neg (show ¬ (1 : Int32) = 0 by decide), if_neg (nn0 (by omega)), if_neg (show ¬ (3 : Int32) ≤ nI w from mt (nI_leI (a := 3) (b := w) (by omega) (by omega)).mp (by omega)), xixn (by omega) (by decide), xixn (by omega) (by decide), nI_clamp (by omega), h w (by omega)]
    exact ⟨_, rfl, rfl⟩
  · rw [if_neg d, if_pos rfl]
    refine ⟨_, ?_, rfl⟩
    by_cases b1 : x < 0
    · rw [if_pos b1]
    · rw [if_neg b1, if_pos]
      refine Decidable.byContradiction (fun b2 => ?_)
      obtain ⟨w, hw, rfl⟩ := nnI (n := 3) (by decide) b1 b2
      exact d ⟨nI_nn (by omega), (nI_leI (a := w) (b := 2) (by omega) (by omega)).mpr (by omega)⟩
/-- the image -/
def ImR (n B : Nat) (kf im kbk : Nat → Int32) (xi hi : Int32) : Prop := (xi = 0 ∧ hi = 0) ∨ (xi = 1 ∧ hi = 1 ∧ ∃ b, b ≤ B ∧ KRow n kbk b kf im)
theorem ImR.up {n B B' : Nat} {kf im kbk : Nat → Int32} {xi hi : Int32} (h : ImR n B kf im kbk xi hi) (hB : B ≤ B') : ImR n B' kf im kbk xi hi := by
  rcases h with h | ⟨h1, h2, b, hb, h3⟩
  · exact Or.inl h
  · exact Or.inr ⟨h1, h2, b, by omega, h3⟩
theorem KRow.bk {n b : Nat} {bk bk' f g : Nat → Int32} (h : KRow n bk b f g) (hb : ∀ k, k < 300 → bk' k = bk k) : KRow n bk' b f g := by
  refine ⟨h.1, h.2.1, h.2.2.1, ⟨h.2.2.2.1.1, fun e w he hw => ?_⟩, h.2.2.2.2⟩
  have m1 : (b - lgN b + e) % 100 < 100 := Nat.mod_lt _ (by decide)
  rw [hb _ (by omega)]
  exact h.2.2.2.1.2 e w he hw
theorem c_cpF {f g : Nat → Int32} : F_X5_copyFrom f g = some (va_cpy g f 0 0 81) := by
  unfold F_X5_copyFrom cpF
  rw [if_pos ⟨by decide, by decide, by decide, by decide, by decide⟩, xnm]
  rfl
theorem c_cpB {f g : Nat → Int32} : F_X0_copyFrom f g = some (va_cpy g f 0 0 300) := by
  unfold F_X0_copyFrom cpF
  rw [if_pos ⟨by decide, by decide, by decide, by decide, by decide⟩, xnm]
  rfl
theorem p_image {n a B K : Nat} {f g bk kf im kbk : Nat → Int32} {xi hi : Int32} (hK : 200000 ≤ K) (h : KRow n bk a f g) (ha : a ≤ B) (hi' : ImR n B kf im kbk xi hi) : ∃ (v xi' hi2 : Int32) (kf' im' kbk' : Nat → Int32), F_X7_image f kf bk kbk xi = some (v, kf', kbk', xi') ∧ F_X8_image K g (nI n) im hi = some (v, im', hi2) ∧ ImR n B kf' im' kbk' xi' hi2 := by
  have n8 := h.1.n8
  obtain ⟨s1, s2⟩ := sd_both n8 h.1.sz
  unfold F_X7_image F_X8_image
  rw [s1, s2, xb1, xb1]
  by_cases c : n = 0
  · rw [if_pos c, if_pos rfl]
    exact ⟨_, _, _, _, _, _, rfl, rfl, hi'⟩
  · rw [if_neg c, if_neg (show ¬ (1 : Int32) = 0 by decide), c_cpF, xb1, c_cpB, xb1, m_image hK, xb1, h.2.2.2.2]
    refine ⟨_, _, _, _, _, _, rfl, rfl, Or.inr ⟨rfl, rfl, a, ha, ?_⟩⟩
    exact (h.bk (bk' := va_cpy bk kbk 0 0 300) (fun k hk => by rw [gcpy_at hk, Nat.zero_add])).cg (fun k hk => by rw [gcpy_at hk, Nat.zero_add]) (fun k hk => by rw [gcpy_at hk, Nat.zero_add])
theorem p_back {n a hd nx B K : Nat} {f g bk hr kp kf im kbk : Nat → Int32} {xi hi : Int32} (hK : 200000 ≤ K) (h : ActR n a hd nx f g bk hr kp) (ha : a ≤ B) (hi' : ImR n B kf im kbk xi hi) : ∃ (v : Int32) (f' g' bk' : Nat → Int32) (a' hd' : Nat), F_X7_back f kf bk kbk (nI hd) xi = some (v, f', bk', nI hd') ∧ F_X8_back K g (nI hd) im hi = some (v, g', nI hd') ∧ ActR n a' hd' nx f' g' bk' hr kp ∧ a' ≤ B := by
  unfold F_X7_back F_X8_back
  rcases hi' with ⟨q1, q2⟩ | ⟨q1, q2, b, hb, q3⟩
  · rw [q1, q2, if_pos rfl, if_pos rfl]
    exact ⟨_, _, _, _, a, hd, rfl, rfl, h, ha⟩
  · unfold F_X2_forget
    have K1 : KRow n (va_cpy kbk bk 0 0 300) b (va_cpy kf f 0 0 81) (va_cpy im g 0 0 265) := (q3.bk (bk' := va_cpy kbk bk 0 0 300) (fun k hk => by rw [gcpy_at hk, Nat.zero_add])).cg (fun k hk => by rw [gcpy_at hk, Nat.zero_add]) (fun k hk => by rw [gcpy_at hk, Nat.zero_add])
    rw [q1, q2, if_neg (show ¬ (1 : Int32) = 0 by decide), if_neg (show ¬ (1 : Int32) = 0 by decide), c_cpF, xb1, c_cpB, xb1, xb1, m_back hK, xb1, show (va_cpy kf f 0 0 81) 11 = (va_cpy im g 0 0 265) 67 from K1.2.2.2.2]
    exact ⟨_, _, _, _, b, 0, rfl, rfl, ⟨K1, by omega, by omega, h.2.2.2.1, fun d q => absurd q (Nat.not_lt_zero _)⟩, hb⟩
theorem p_held {n a hd : Nat} {f g bk : Nat → Int32} {x t k : Int32} (ha : a < 2 ^ 29) (h : KRow n bk a f g) : ∃ v, F_X7_held x t k f (nI hd) = some v ∧ F_X8_held x t k g (nI n) (nI hd) = some v := by
  unfold F_X7_held F_X8_held F_X5_sites F_X7_loggedActs
  rw [xb1, xb1, h.1.sz, h.2.2.1, c_lgN (by omega), h.2.2.2.1.1]
  by_cases c0 : x = 0
  · rw [if_pos c0]; exact ⟨_, rfl, rfl⟩
  rw [if_neg c0]
  by_cases c1 : x = 1
  · rw [if_pos c1]; exact ⟨_, rfl, rfl⟩
  rw [if_neg c1]
  by_cases c2 : x = 2
  · rw [if_pos c2]; exact ⟨_, rfl, rfl⟩
  rw [if_neg c2]
  by_cases c3 : x = 3
  · rw [if_pos c3]; exact ⟨_, rfl, rfl⟩
  rw [if_neg c3]
  by_cases c4 : x = 4
  · rw [if_pos c4]; exact ⟨_, rfl, rfl⟩
  rw [if_neg c4]
  exact ⟨_, rfl, rfl⟩
