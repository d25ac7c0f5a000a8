/-! Stage B, 17: the log, in both -/
theorem fm_100 {a : Nat} (ha : a < 2 ^ 30) : F_J9_floorMod_7cf53 (nI a) (100 : Int32) = some (nI (a % 100)) := by
  have e : (0 : Int32) ≤ nI a ^^^ (100 : Int32) := by
    have u := xor_neg (x := nI a) (b := 100) (by decide)
    have v : ¬ (nI a ^^^ nI 100) < 0 := fun z => nn0 (by omega) (u.mp z)
    exact Decidable.byContradiction (fun z => v (lt_not.mpr z))
  unfold F_J9_floorMod_7cf53 nzI
  rw [if_neg (by decide), if_pos e]
  exact congrArg some (nI_mod (m := a) (n := 100) (by omega) (by decide))
/-- the log's lines of an act -/
def wrB (bk : Nat → Int32) (a : Nat) (s m t : Int32) : Nat → Int32 := upd (upd (upd bk (a % 100 * 3) s) (a % 100 * 3 + 1) m) (a % 100 * 3 + 2) t
theorem c_write {a : Nat} {s m t : Int32} {bk : Nat → Int32} (ha : a < 2 ^ 30) : F_X0_write (nI a) s m t bk = some (wrB bk a s m t) := by
  have hm : a % 100 < 100 := Nat.mod_lt _ (by decide)
  have e0 : nI (a % 100) * (3 : Int32) = nI (a % 100 * 3) := by rw [show (3 : Int32) = nI 3 from rfl, nI_mul]
  have e1 : nI (a % 100 * 3) + (1 : Int32) = nI (a % 100 * 3 + 1) := nI_1 _
  have e2 : nI (a % 100 * 3) + (2 : Int32) = nI (a % 100 * 3 + 2) := nI_add _ 2
  unfold F_X0_write
  rw [fm_100 ha, xb1, e0, e1, e2, xixn (by omega) (by decide), xnm, xixn (by omega) (by decide), xnm, xixn (by omega) (by decide), xnm, nI_clamp (by omega), nI_clamp (by omega), nI_clamp (by omega)]
  rfl
theorem wrB_ne {bk : Nat → Int32} {a b w : Nat} {s m t : Int32} (hw : w < 3) (h : ¬ b % 100 = a % 100) : wrB bk a s m t (b % 100 * 3 + w) = bk (b % 100 * 3 + w) := by
  unfold wrB
  rw [upd_ne (by omega), upd_ne (by omega), upd_ne (by omega)]
theorem wrB_at {bk : Nat → Int32} {a : Nat} {s m t : Int32} : wrB bk a s m t (a % 100 * 3 + 0) = s ∧ wrB bk a s m t (a % 100 * 3 + 1) = m ∧ wrB bk a s m t (a % 100 * 3 + 2) = t := by
  unfold wrB
  refine ⟨?_, ?_, upd_at⟩
  · rw [upd_ne (by omega), upd_ne (by omega), Nat.add_zero, upd_at]
  · rw [upd_ne (by omega), upd_at]
/-- how many acts the log tells -/
def lgN (a : Nat) : Nat := if a < 60 then a else 60
theorem lgN_le (a : Nat) : lgN a ≤ 60 ∧ lgN a ≤ a := by unfold lgN; split <;> omega
/-- the log of a acts -/
def LogR (bk : Nat → Int32) (a : Nat) (g : Nat → Int32) : Prop := g 84 = nI (lgN a) ∧ ∀ e w, e < lgN a → w < 3 → g (85 + 3 * e + w) = bk ((a - lgN a + e) % 100 * 3 + w)
theorem LogR.of {bk g g' : Nat → Int32} {a : Nat} (h : LogR bk a g) (hg : ∀ k, 84 ≤ k → k < 265 → g' k = g k) : LogR bk a g' := by
  have l := lgN_le a
  refine ⟨(hg 84 (by omega) (by omega)).trans h.1, fun e w he hw => ?_⟩
  rw [hg _ (by omega) (by omega)]
  exact h.2 e w he hw
theorem LogR.wr {bk g : Nat → Int32} {a b : Nat} {s m t : Int32} (h : LogR bk b g) (h1 : b ≤ a) (h2 : a ≤ b + 39) : LogR (wrB bk a s m t) b g := by
  have l := lgN_le b
  refine ⟨h.1, fun e w he hw => ?_⟩
  rw [wrB_ne hw (by omega)]
  exact h.2 e w he hw
/-- the reference's log, moved down by one -/
def shL (g : Nat → Int32) (j : Nat) : Nat → Int32 := fun k => if 85 ≤ k ∧ k < 85 + j then g (k + 3) else g k
theorem m_shift {K : Nat} {g : Nat → Int32} (hK : 200000 ≤ K) : lpF (fun u9 : Int32 × (Nat → Int32) => B_X8_note_14 u9.1 u9.2) K ((3 : Int32), g) = some (shL g 177) := by
  have z : g = shL g 0 := by
    funext k
    unfold shL
    rw [if_neg (by omega)]
  have h : lpF (fun u9 : Int32 × (Nat → Int32) => B_X8_note_14 u9.1 u9.2) K (nI (3 + 0), shL g 0) = some (shL g 177) := by
    refine lp_for (fun j => (nI (3 + j), shL g j)) (n := 177) (by omega) (fun j hj => ?_) ?_
    · show B_X8_note_14 (nI (3 + j)) (shL g j) = some (.inl (nI (3 + (j + 1)), shL g (j + 1)))
      have e1 : (85 : Int32) + nI (3 + j) = nI (88 + j) := by rw [show (85 : Int32) = nI 85 from rfl, nI_add]; congr 1; omega
      have e2 : nI (88 + j) - (3 : Int32) = nI (85 + j) := by rw [show (3 : Int32) = nI 3 from rfl, xsub (by omega)]; congr 1; omega
      have e3 : upd (shL g j) (85 + j) (shL g j (88 + j)) = shL g (j + 1) := by
        funext k
        by_cases c : k = 85 + j
        · rw [c, upd_at]
          unfold shL
          rw [if_neg (by omega), if_pos (by omega)]
          congr 1
          omega
        · rw [upd_ne c]
          unfold shL
          by_cases d : 85 ≤ k ∧ k < 85 + j
          · rw [if_pos d, if_pos (by omega)]
          · rw [if_neg d, if_neg (by omega)]
      unfold B_X8_note_14
      rw [if_neg (show ¬ (180 : Int32) ≤ nI (3 + j) from mt (nI_leI (a := 180) (b := 3 + j) (by omega) (by omega)).mp (by omega)), e1, e2, xixn (by omega) (by decide), xixn (by omega) (by decide), xnm, nI_clamp (by omega), nI_clamp (by omega), e3, nI_1]
      rfl
    · show B_X8_note_14 (nI 180) (shL g 177) = some (.inr (shL g 177))
      unfold B_X8_note_14
      rw [if_pos (by decide)]
  rw [← z] at h
  exact h
theorem m_noteJ {g : Nat → Int32} {l : Nat} {s m t : Int32} (hl : l < 60) (e84 : g 84 = nI l) : J_X8_note_58 s m t g = some (upd (upd (upd (upd g (85 + 3 * l) s) (85 + 3 * l + 1) m) (85 + 3 * l + 2) t) 84 (nI (l + 1))) := by
  have e0 : (85 : Int32) + ((3 : Int32) * nI l) = nI (85 + 3 * l) := by rw [show (85 : Int32) = nI 85 from rfl, show (3 : Int32) = nI 3 from rfl, nI_mul, nI_add]
  have e1 : nI (85 + 3 * l) + (1 : Int32) = nI (85 + 3 * l + 1) := nI_1 _
  have e2 : nI (85 + 3 * l) + (2 : Int32) = nI (85 + 3 * l + 2) := nI_add _ 2
  have e4 : (upd (upd (upd g (85 + 3 * l) s) (85 + 3 * l + 1) m) (85 + 3 * l + 2) t) 84 = nI l := by rw [upd_ne (by omega), upd_ne (by omega), upd_ne (by omega), e84]
  unfold J_X8_note_58
  rw [e84, e0, e1, e2, xixn (by omega) (by decide), xnm, xixn (by omega) (by decide), xnm, xixn (by omega) (by decide), xnm, xnm, nI_clamp (by omega), nI_clamp (by omega), nI_clamp (by omega), e4, nI_1]
/-- an act is noted, in both -/
theorem nt_both {K a : Nat} {bk g : Nat → Int32} {s m t : Int32} (hK : 200000 ≤ K) (h : LogR bk a g) : ∃ g', F_X8_note K s m g t = some g' ∧ (∀ k, k < 84 → g' k = g k) ∧ LogR (wrB bk a s m t) (a + 1) g' := by
  have l := lgN_le a
  unfold F_X8_note
  rw [h.1]
  by_cases c : a < 60
  · have la : lgN a = a := by unfold lgN; rw [if_pos c]
    have la1 : lgN (a + 1) = a + 1 := by unfold lgN; split <;> omega
    rw [la, if_neg (show ¬ nI a = (60 : Int32) from fun z => by have := (nI_eq (a := a) (b := 60) (by omega) (by omega)).mp z; omega), m_noteJ (l := a) c (by rw [h.1, la])]
    refine ⟨_, rfl, fun k hk => ?_, ?_, fun e w he hw => ?_⟩
    · rw [upd_ne (by omega), upd_ne (by omega), upd_ne (by omega), upd_ne (by omega)]
    · rw [upd_at, la1]
    · rw [la1] at he ⊢
      rw [show a + 1 - (a + 1) + e = e by omega]
      by_cases d : e = a
      · obtain ⟨w0, w1, w2⟩ := wrB_at (bk := bk) (a := a) (s := s) (m := m) (t := t)
        rw [d]
        rcases (show w = 0 ∨ w = 1 ∨ w = 2 by omega) with rfl | rfl | rfl
        · rw [w0, upd_ne (by omega), upd_ne (by omega), upd_ne (by omega), Nat.add_zero, upd_at]
        · rw [w1, upd_ne (by omega), upd_ne (by omega), upd_at]
        · rw [w2, upd_ne (by omega), upd_at]
      · rw [wrB_ne hw (by omega), upd_ne (by omega), upd_ne (by omega), upd_ne (by omega), upd_ne (by omega)]
        have := h.2 e w (by omega) hw
        rw [la, show a - a + e = e by omega] at this
        exact this
  · have la : lgN a = 60 := by unfold lgN; rw [if_neg c]
    have la1 : lgN (a + 1) = 60 := by unfold lgN; rw [if_neg (by omega)]
    have s84 : shL g 177 84 = nI 60 := by
      unfold shL
      rw [if_neg (by omega), h.1, la]
    have v84 : (upd (shL g 177) 84 (nI 60 - 1)) 84 = nI 59 := by rw [upd_at]; rfl
    rw [la, if_pos (by decide), m_shift hK, xb1, xnm, s84, m_noteJ (l := 59) (by decide) v84]
    refine ⟨_, rfl, fun k hk => ?_, ?_, fun e w he hw => ?_⟩
    · rw [upd_ne (by omega), upd_ne (by omega), upd_ne (by omega), upd_ne (by omega), upd_ne (by omega)]
      unfold shL
      rw [if_neg (by omega)]
    · rw [upd_at, la1]
    · rw [la1] at he ⊢
      by_cases d : e = 59
      · obtain ⟨w0, w1, w2⟩ := wrB_at (bk := bk) (a := a) (s := s) (m := m) (t := t)
        rw [d, show a + 1 - 60 + 59 = a by omega]
        rcases (show w = 0 ∨ w = 1 ∨ w = 2 by omega) with rfl | rfl | rfl
        · rw [w0, upd_ne (by omega), upd_ne (by omega), upd_ne (by omega), Nat.add_zero, upd_at]
        · rw [w1, upd_ne (by omega), upd_ne (by omega), upd_at]
        · rw [w2, upd_ne (by omega), upd_at]
      · rw [wrB_ne hw (by omega), upd_ne (by omega), upd_ne (by omega), upd_ne (by omega), upd_ne (by omega), upd_ne (by omega)]
        unfold shL
        rw [if_pos (by omega), show 85 + 3 * e + w + 3 = 85 + 3 * (e + 1) + w by omega]
        have := h.2 (e + 1) w (by omega) hw
        rw [la] at this
        rw [this]
        congr 3
        omega
