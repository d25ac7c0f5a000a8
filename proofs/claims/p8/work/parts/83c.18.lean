/-! Stage B, 18: rows that are kept, in both -/
/-- a row of each: they say the same, b acts are behind them, the log is right -/
def KRow (n : Nat) (bk : Nat → Int32) (b : Nat) (f g : Nat → Int32) : Prop := RowR n f g ∧ RowI n g ∧ f 16 = nI b ∧ LogR bk b g ∧ f 11 = g 67
theorem RowR.cg {n : Nat} {f g f' g' : Nat → Int32} (h : RowR n f g) (hf : ∀ k, k < 81 → f' k = f k) (hg : ∀ k, k < 265 → g' k = g k) : RowR n f' g' := by
  have n8 := h.n8
  refine h.of (fun i c hi hc => ?_) (hf 3 (by decide)) (fun p hp => ?_) (hf 4 (by decide)) (hf 5 (by decide)) (hf 7 (by decide)) (fun i hi => hg _ (by omega)) (fun k a b => hg k (by omega))
  · rw [hf _ (by omega), hg _ (by omega)]
    exact h.1.2.2.1 i c hi hc
  · obtain ⟨b1, -, -, -, -, b6, b7⟩ := rowScl_b p hp
    rw [hf _ (by omega), hg _ (by omega)]
    exact h.sc p hp
theorem RowI.cg {n : Nat} {g g' : Nat → Int32} (h : RowI n g) (n8 : n ≤ 8) (hg : ∀ k, k < 84 → g' k = g k) : RowI n g' := h.of n8 (h.1.of (hg 64 (by decide)) (hg 72 (by decide))) (fun k hk => hg k (by omega))
theorem KRow.cg {n b : Nat} {bk f g f' g' : Nat → Int32} (h : KRow n bk b f g) (hf : ∀ k, k < 81 → f' k = f k) (hg : ∀ k, k < 265 → g' k = g k) : KRow n bk b f' g' := ⟨h.1.cg hf hg, h.2.1.cg h.1.n8 (fun k hk => hg k (by omega)), (hf 16 (by decide)).trans h.2.2.1, h.2.2.2.1.of (fun k _ hk => hg k hk), (hf 11 (by decide)).trans (h.2.2.2.2.trans (hg 67 (by decide)).symm)⟩
theorem KRow.wr {n a b : Nat} {bk f g : Nat → Int32} {s m t : Int32} (h : KRow n bk b f g) (h1 : b ≤ a) (h2 : a ≤ b + 39) : KRow n (wrB bk a s m t) b f g := ⟨h.1, h.2.1, h.2.2.1, h.2.2.2.1.wr h1 h2, h.2.2.2.2⟩
/-- the kept rows: a acts so far, hd of them can be undone -/
def KeepR (n a hd nx : Nat) (bk hr kp : Nat → Int32) : Prop := hd ≤ 40 ∧ hd ≤ a ∧ nx < 40 ∧ ∀ d, d < hd → KRow n bk (a - 1 - d) (fun k => hr (81 * ((nx + 39 - d) % 40) + k)) (fun k => kp (265 * (hd - 1 - d) + k))
def nxH (nx : Nat) : Nat := if 40 ≤ nx + 1 then 0 else nx + 1
def hdH (hd : Nat) : Nat := if hd < 40 then hd + 1 else 40
theorem c_hkeep {nx hd : Nat} {hr f : Nat → Int32} (h1 : nx < 40) (h2 : hd ≤ 40) : F_X2_keep hr (nI nx) (nI hd) f = some (va_cpy f hr 0 (81 * nx) 81, nI (nxH nx), nI (hdH hd)) := by
  have e : nI nx * (81 : Int32) = nI (81 * nx) := by rw [show (81 : Int32) = nI 81 from rfl, nI_mul, Nat.mul_comm]
  have c81 : (81 : Int32).toNatClampNeg = 81 := by decide
  have c0 : (0 : Int32).toNatClampNeg = 0 := by decide
  have em : minF (nI hd + (1 : Int32)) (40 : Int32) = nI (hdH hd) := by
    unfold minF hdH
    rw [nI_1]
    by_cases c : hd < 40
    · rw [if_pos c, if_neg (show ¬ (40 : Int32) < nI (hd + 1) from mt (nI_ltI (a := 40) (b := hd + 1) (by omega) (by omega)).mp (by omega))]
    · rw [if_neg c, if_pos (show (40 : Int32) < nI (hd + 1) from (nI_ltI (a := 40) (b := hd + 1) (by omega) (by omega)).mpr (by omega))]
      rfl
  unfold F_X2_keep cpF
  rw [e, c81, c0, nI_clamp (by omega), if_pos ⟨by decide, nn0 (by omega), by decide, by omega, by omega⟩, xnm, em, nI_1]
  unfold nxH
  by_cases c : 40 ≤ nx + 1
  · rw [if_pos c, if_pos (show (40 : Int32) ≤ nI (nx + 1) from (nI_leI (a := 40) (b := nx + 1) (by omega) (by omega)).mpr c)]
    rfl
  · rw [if_neg c, if_neg (show ¬ (40 : Int32) ≤ nI (nx + 1) from mt (nI_leI (a := 40) (b := nx + 1) (by omega) (by omega)).mp c)]
/-- the reference's kept rows, the oldest dropped -/
def shK (kp : Nat → Int32) (j : Nat) : Nat → Int32 := fun k => if k < j then kp (k + 265) else kp k
theorem m_kshift {K : Nat} {kp : Nat → Int32} (hK : 200000 ≤ K) : lpF (fun u9 : Int32 × (Nat → Int32) => B_X8_keep_13 u9.1 u9.2) K ((265 : Int32), kp) = some (shK kp 10335) := by
  have z : kp = shK kp 0 := by
    funext k
    unfold shK
    rw [if_neg (by omega)]
  have h : lpF (fun u9 : Int32 × (Nat → Int32) => B_X8_keep_13 u9.1 u9.2) K (nI (265 + 0), shK kp 0) = some (shK kp 10335) := by
    refine lp_for (fun j => (nI (265 + j), shK kp j)) (n := 10335) (by omega) (fun j hj => ?_) ?_
    · show B_X8_keep_13 (nI (265 + j)) (shK kp j) = some (.inl (nI (265 + (j + 1)), shK kp (j + 1)))
      have e2 : nI (265 + j) - (265 : Int32) = nI j := by rw [show (265 : Int32) = nI 265 from rfl, xsub (by omega), show 265 + j - 265 = j by omega]
      have e3 : upd (shK kp j) j (shK kp j (265 + j)) = shK kp (j + 1) := by
        funext k
        by_cases c : k = j
        · rw [c, upd_at]
          unfold shK
          rw [if_neg (by omega), if_pos (by omega), Nat.add_comm]
        · rw [upd_ne c]
          unfold shK
          by_cases d : k < j
          · rw [if_pos d, if_pos (by omega)]
          · rw [if_neg d, if_neg (by omega)]
      unfold B_X8_keep_13
      rw [if_neg (show ¬ (10600 : Int32) ≤ nI (265 + j) from mt (nI_leI (a := 10600) (b := 265 + j) (by omega) (by omega)).mp (by omega)), e2, xixn (by omega) (by decide), xixn (by omega) (by decide), xnm, nI_clamp (by omega), nI_clamp (by omega), e3, nI_1]
      rfl
    · show B_X8_keep_13 (nI 10600) (shK kp 10335) = some (.inr (shK kp 10335))
      unfold B_X8_keep_13
      rw [if_pos (by decide)]
  rw [← z] at h
  exact h
theorem m_kput {K e : Nat} {g kp : Nat → Int32} (hK : 200000 ≤ K) (he : e < 40) : J_X8_keep_52 K g kp (nI e) = some (va_cpy g kp 0 (265 * e) 265, nI (e + 1)) := by
  have ci : ∀ j, va_cpy g kp 0 (265 * e) j (265 * e + j) = kp (265 * e + j) := fun j => pk_cpy_out (by omega)
  have h : lpF (fun u9 : Int32 × (Nat → Int32) => B_X8_keep_54 g (nI e) u9.1 u9.2) K (nI 0, va_cpy g kp 0 (265 * e) 0) = some (va_cpy g kp 0 (265 * e) 265) := by
    refine lp_for (fun j => (nI j, va_cpy g kp 0 (265 * e) j)) (n := 265) (by omega) (fun j hj => ?_) ?_
    · show B_X8_keep_54 g (nI e) (nI j) (va_cpy g kp 0 (265 * e) j) = some (.inl (nI (j + 1), va_cpy g kp 0 (265 * e) (j + 1)))
      have e1 : ((265 : Int32) * nI e) + nI j = nI (265 * e + j) := by rw [show (265 : Int32) = nI 265 from rfl, nI_mul, nI_add]
      have e3 : upd (va_cpy g kp 0 (265 * e) j) (265 * e + j) (g j) = va_cpy g kp 0 (265 * e) (j + 1) := by
        funext k
        by_cases c : k = 265 * e + j
        · rw [c, upd_at, pk_cpy_in (by omega) (by omega)]
          congr 1
          omega
        · rw [upd_ne c]
          by_cases d : 265 * e ≤ k ∧ k < 265 * e + j
          · rw [pk_cpy_in d.1 d.2, pk_cpy_in (by omega) (by omega)]
          · rw [pk_cpy_out (by omega), pk_cpy_out (by omega)]
      unfold B_X8_keep_54
      rw [if_neg (show ¬ (265 : Int32) ≤ nI j from mt (nI_leI (a := 265) (b := j) (by omega) (by omega)).mp (by omega)), xixn (by omega) (by decide), e1, xixn (by omega) (by decide), xnm, nI_clamp (by omega), nI_clamp (by omega), e3, nI_1]
    · show B_X8_keep_54 g (nI e) (nI 265) (va_cpy g kp 0 (265 * e) 265) = some (.inr (va_cpy g kp 0 (265 * e) 265))
      unfold B_X8_keep_54
      rw [if_pos (by decide)]
  have z : va_cpy g kp 0 (265 * e) 0 = kp := by
    funext k
    exact pk_cpy_out (by omega)
  rw [z] at h
  unfold J_X8_keep_52
  rw [show (0 : Int32) = nI 0 from rfl, h, xb1, nI_1]
/-- a row is kept, in both -/
theorem kp_both {n a hd nx K : Nat} {bk hr kp f g : Nat → Int32} (hK : 200000 ≤ K) (h : KeepR n a hd nx bk hr kp) (hw : KRow n bk a f g) : ∃ kp', F_X2_keep hr (nI nx) (nI hd) f = some (va_cpy f hr 0 (81 * nx) 81, nI (nxH nx), nI (hdH hd)) ∧ F_X8_keep K g kp (nI hd) = some (kp', nI (hdH hd)) ∧ KeepR n (a + 1) (hdH hd) (nxH nx) bk (va_cpy f hr 0 (81 * nx) 81) kp' := by
  obtain ⟨h1, h2, h3, hR⟩ := h
  have base : ∀ kp' : Nat → Int32, (∀ k, k < 265 → kp' (265 * (hdH hd - 1) + k) = g k) → (∀ d, d < hd → d < 39 → ∀ k, k < 265 → kp' (265 * (hdH hd - 1 - (d + 1)) + k) = kp (265 * (hd - 1 - d) + k)) → KeepR n (a + 1) (hdH hd) (nxH nx) bk (va_cpy f hr 0 (81 * nx) 81) kp' := by
    intro kp' z1 z2
    have q1 : hdH hd ≤ 40 ∧ hdH hd ≤ hd + 1 := by unfold hdH; split <;> omega
    have q2 : nxH nx < 40 := by unfold nxH; split <;> omega
    refine ⟨q1.1, by omega, q2, fun d hd' => ?_⟩
    by_cases c : d = 0
    · have p : (nxH nx + 39 - d) % 40 = nx := by unfold nxH; rw [c]; split <;> omega
      rw [p, c]
      refine KRow.cg (show KRow n bk (a + 1 - 1 - 0) f g by rw [show a + 1 - 1 - 0 = a by omega]; exact hw) (fun k hk => ?_) (fun k hk => z1 k hk)
      show va_cpy f hr 0 (81 * nx) 81 (81 * nx + k) = f k
      rw [pk_cpy_in (by omega) (by omega)]
      congr 1
      omega
    · obtain ⟨e, rfl⟩ : ∃ e, d = e + 1 := ⟨d - 1, by omega⟩
      have e1 : e < hd ∧ e < 39 := by omega
      have p : (nxH nx + 39 - (e + 1)) % 40 = (nx + 39 - e) % 40 := by unfold nxH; split <;> omega
      rw [p, show a + 1 - 1 - (e + 1) = a - 1 - e by omega]
      refine KRow.cg (hR e e1.1) (fun k hk => ?_) (fun k hk => z2 e e1.1 e1.2 k hk)
      show va_cpy f hr 0 (81 * nx) 81 (81 * ((nx + 39 - e) % 40) + k) = hr (81 * ((nx + 39 - e) % 40) + k)
      have ne : ¬ (nx + 39 - e) % 40 = nx := by omega
      have lt : (nx + 39 - e) % 40 < 40 := Nat.mod_lt _ (by decide)
      generalize (nx + 39 - e) % 40 = y at ne lt
      exact pk_cpy_out (by omega)
  have C := c_hkeep (hr := hr) (f := f) h3 h1
  unfold F_X8_keep
  by_cases c : hd = 40
  · have hh : hdH hd = 40 := by unfold hdH; rw [if_neg (by omega)]
    have e39 : nI hd - (1 : Int32) = nI 39 := by rw [c]; rfl
    rw [if_pos (by rw [c]; rfl), m_kshift hK, xb1, e39, m_kput hK (by decide)]
    refine ⟨_, C, by rw [hh], base _ (fun k hk => ?_) (fun d q1 q2 k hk => ?_)⟩
    · rw [hh]
      show va_cpy g (shK kp 10335) 0 (265 * 39) 265 (265 * 39 + k) = g k
      rw [pk_cpy_in (by omega) (by omega), show 0 + (265 * 39 + k - 265 * 39) = k by omega]
    · rw [hh, pk_cpy_out (by omega)]
      unfold shK
      rw [if_pos (by omega), show 265 * (40 - 1 - (d + 1)) + k + 265 = 265 * (hd - 1 - d) + k by omega]
  · have hh : hdH hd = hd + 1 := by unfold hdH; rw [if_pos (by omega)]
    rw [if_neg (show ¬ nI hd = (40 : Int32) from fun z => c ((nI_eq (a := hd) (b := 40) (by omega) (by omega)).mp z)), m_kput hK (by omega)]
    refine ⟨_, C, by rw [hh], base _ (fun k hk => ?_) (fun d q1 q2 k hk => ?_)⟩
    · rw [hh, show hd + 1 - 1 = hd by omega, pk_cpy_in (by omega) (by omega)]
      congr 1
      omega
    · rw [hh, show hd + 1 - 1 - (d + 1) = hd - 1 - d by omega, pk_cpy_out (by omega)]
