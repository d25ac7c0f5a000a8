/-! feed and end: the tape in both -/
theorem b255 {i : Nat} (h : 8 ≤ i) : (255#32).getLsbD i = false := by
  rw [BitVec.getLsbD_ofNat, Nat.testBit_lt_two_pow (Nat.lt_of_lt_of_le (by decide : 255 < 2 ^ 8) (Nat.pow_le_pow_right (by decide) h)), Bool.and_false]
theorem shB (x : BitVec 32) (s : Nat) (hs : s ≤ 24) : (x.sshiftRight s) &&& 255#32 = (x >>> s) &&& 255#32 := by
  apply BitVec.eq_of_getLsbD_eq
  intro i hi
  rw [BitVec.getLsbD_and, BitVec.getLsbD_and]
  by_cases h8 : i < 8
  · rw [BitVec.getLsbD_sshiftRight, BitVec.getLsbD_ushiftRight, if_pos (show s + i < 32 by omega), decide_eq_false (show ¬ 32 ≤ i by omega)]
    rfl
  · rw [b255 (by omega), Bool.and_false, Bool.and_false]
theorem sh24 (w : Int32) : (w >>> ((24 : Int32) &&& 31)) &&& 255 = ushrF w 24 &&& 255 := Int32.toBitVec_inj.mp (shB w.toBitVec 24 (by decide))
theorem sh16 (w : Int32) : (w >>> ((16 : Int32) &&& 31)) &&& 255 = ushrF w 16 &&& 255 := Int32.toBitVec_inj.mp (shB w.toBitVec 16 (by decide))
theorem sh8 (w : Int32) : (w >>> ((8 : Int32) &&& 31)) &&& 255 = ushrF w 8 &&& 255 := Int32.toBitVec_inj.mp (shB w.toBitVec 8 (by decide))
theorem sh0 (w : Int32) : (w >>> ((0 : Int32) &&& 31)) &&& 255 = ushrF w 0 &&& 255 := Int32.toBitVec_inj.mp (shB w.toBitVec 0 (by decide))
theorem and255 (x : Int32) : ∃ m, m < 256 ∧ x &&& 255 = nI m := by
  refine ⟨(x &&& 255).toBitVec.toNat, ?_, Int32.toBitVec_inj.mp ?_⟩
  · show (x.toBitVec &&& 255#32).toNat < 256
    rw [BitVec.toNat_and]
    exact Nat.lt_of_le_of_lt Nat.and_le_right (by decide)
  · show (x &&& 255).toBitVec = BitVec.ofNat 32 _
    rw [BitVec.ofNat_toNat, BitVec.setWidth_eq]
theorem nar255 : ∀ m, m < 256 → vp_nar .byte ((nI m).toInt8.toInt32) &&& 255 = nI m := by decide +kernel
/-- a word's bytes, from above -/
def shF (j : Nat) : Int32 := ([24, 16, 8, 0, -8] : List Int32).getD j 0
def byF (w : Int32) (j : Nat) : Int32 := ushrF w (shF j) &&& 255
/-- the twenty bytes of five words -/
def btF (a b c d e : Int32) (k : Nat) : Int32 := byF (if k < 4 then a else if k < 8 then b else if k < 12 then c else if k < 16 then d else e) (k % 4)
def cn (bt : Nat → Int32) : Nat → Nat
  | 0 => 0
  | k + 1 => if bt k = 0 then cn bt k else cn bt k + 1
theorem cn_le {bt : Nat → Int32} : ∀ k, cn bt k ≤ k
  | 0 => Nat.le_refl _
  | k + 1 => by
    have := cn_le (bt := bt) k
    show (if bt k = 0 then cn bt k else cn bt k + 1) ≤ k + 1
    split <;> omega
theorem cn_mono {bt : Nat → Int32} {k : Nat} : ∀ d, cn bt k ≤ cn bt (k + d)
  | 0 => Nat.le_refl _
  | d + 1 => by
    have := cn_mono (bt := bt) (k := k) d
    show cn bt k ≤ (if bt (k + d) = 0 then cn bt (k + d) else cn bt (k + d) + 1)
    split <;> omega
/-- the rows behind k bytes, begun with n signs -/
def pcF (bt : Nat → Int32) (n : Nat) (f : Nat → Int32) : Nat → Nat → Int32
  | 0 => f
  | k + 1 => if bt k = 0 then pcF bt n f k else upd (pcF bt n f k) (n + cn bt k) (vp_nar .byte ((bt k).toInt8.toInt32))
def pmF (bt : Nat → Int32) (n : Nat) (f : Nat → Int32) : Nat → Nat → Int32
  | 0 => f
  | k + 1 => if bt k = 0 then pmF bt n f k else upd (pmF bt n f k) (n + cn bt k) (bt k)
theorem shF_step : ∀ j, j < 4 → shF j + (-8) = shF (j + 1) ∧ ¬ shF j < 0 := by decide +kernel
theorem c_bytesIn {K w : Nat} {x : Int32} {bt : Nat → Int32} (hK : 400 ≤ K) (hb : ∀ j, j < 4 → bt (4 * w + j) = byF x j) : F_X6_bytesIn K x = some (nI (cn bt (4 * w + 4) - cn bt (4 * w))) := by
  unfold F_X6_bytesIn
  rw [show lpF (fun u9 : Int32 × Int32 => B_X6_bytesIn_5 x u9.1 u9.2) K ((0 : Int32), (24 : Int32)) = some (nI (cn bt (4 * w + 4) - cn bt (4 * w))) from ?_]
  · rfl
  have S0 : ((0 : Int32), (24 : Int32)) = ((nI (cn bt (4 * w + 0) - cn bt (4 * w)), shF 0) : Int32 × Int32) := by
    rw [show 4 * w + 0 = 4 * w from rfl, Nat.sub_self]
    rfl
  rw [S0]
  refine lp_for (fun j => ((nI (cn bt (4 * w + j) - cn bt (4 * w)), shF j) : Int32 × Int32)) (n := 4) (by omega) (fun j hj => ?_) ?_
  · show B_X6_bytesIn_5 x (nI (cn bt (4 * w + j) - cn bt (4 * w))) (shF j) = some (.inl (nI ((if bt (4 * w + j) = 0 then cn bt (4 * w + j) else cn bt (4 * w + j) + 1) - cn bt (4 * w)), shF (j + 1)))
    have sj := shF_step j hj
    have mono := cn_mono (bt := bt) (k := 4 * w) j
    unfold B_X6_bytesIn_5
    rw [if_neg sj.2, sj.1, hb j hj]
    by_cases q : byF x j = 0
    · rw [if_pos q, if_pos (show ushrF x (shF j) &&& 255 = 0 from q)]
    · rw [if_neg q, if_neg (show ¬ ushrF x (shF j) &&& 255 = 0 from q), nI_1, show cn bt (4 * w + j) - cn bt (4 * w) + 1 = cn bt (4 * w + j) + 1 - cn bt (4 * w) by omega]
  · show B_X6_bytesIn_5 x _ (shF 4) = _
    unfold B_X6_bytesIn_5
    rw [if_pos (by decide)]
theorem c_take {K w n : Nat} {x : Int32} {bt f : Nat → Int32} (hK : 400 ≤ K) (hb : ∀ j, j < 4 → bt (4 * w + j) = byF x j) (hn : n + cn bt (4 * w + 4) ≤ 320) : F_X6_take K x (pcF bt n f (4 * w)) (nI (n + cn bt (4 * w))) = some (pcF bt n f (4 * w + 4), nI (n + cn bt (4 * w + 4))) := by
  unfold F_X6_take
  rw [show lpF (fun u9 : Int32 × (Nat → Int32) × Int32 => B_X6_take_3 x u9.1 u9.2.1 u9.2.2) K ((24 : Int32), pcF bt n f (4 * w), nI (n + cn bt (4 * w))) = some (pcF bt n f (4 * w + 4), nI (n + cn bt (4 * w + 4))) from ?_]
  · rfl
  refine lp_for (fun j => ((shF j, pcF bt n f (4 * w + j), nI (n + cn bt (4 * w + j))) : Int32 × (Nat → Int32) × Int32)) (n := 4) (by omega) (fun j hj => ?_) ?_
  · show B_X6_take_3 x (shF j) (pcF bt n f (4 * w + j)) (nI (n + cn bt (4 * w + j))) = some (.inl (shF (j + 1), (if bt (4 * w + j) = 0 then pcF bt n f (4 * w + j) else upd (pcF bt n f (4 * w + j)) (n + cn bt (4 * w + j)) (vp_nar .byte ((bt (4 * w + j)).toInt8.toInt32))), nI (n + (if bt (4 * w + j) = 0 then cn bt (4 * w + j) else cn bt (4 * w + j) + 1))))
    have sj := shF_step j hj
    have m1 : cn bt (4 * w + j + 1) ≤ cn bt (4 * w + 4) := by
      have := cn_mono (bt := bt) (k := 4 * w + j + 1) (3 - j)
      rw [show 4 * w + j + 1 + (3 - j) = 4 * w + 4 by omega] at this
      exact this
    unfold B_X6_take_3
    rw [if_neg sj.2, sj.1, hb j hj]
    by_cases q : byF x j = 0
    · rw [if_pos q, if_pos q, if_pos (show ushrF x (shF j) &&& 255 = 0 from q)]
    · have m2 : cn bt (4 * w + j) + 1 ≤ cn bt (4 * w + 4) := by
        have e : cn bt (4 * w + j + 1) = cn bt (4 * w + j) + 1 := by
          show (if bt (4 * w + j) = 0 then cn bt (4 * w + j) else cn bt (4 * w + j) + 1) = _
          rw [hb j hj, if_neg q]
        omega
      rw [if_neg q, if_neg q, if_neg (show ¬ ushrF x (shF j) &&& 255 = 0 from q), if_neg (show ¬ (320 : Int32) ≤ nI (n + cn bt (4 * w + j)) by rw [x320, ple (by decide) (by omega)]; omega), xixn (by omega) (by decide), xnm, nI_clamp (by omega), nI_1, Nat.add_assoc]
      rfl
  · show B_X6_take_3 x (shF 4) _ _ = _
    unfold B_X6_take_3
    rw [if_pos (by decide)]
theorem bt_w {a b c d e : Int32} {w j : Nat} (hw : w < 5) (hj : j < 4) : btF a b c d e (4 * w + j) = byF (if w = 0 then a else if w = 1 then b else if w = 2 then c else if w = 3 then d else e) j := by
  unfold btF
  rw [show (4 * w + j) % 4 = j by omega]
  rcases (show w = 0 ∨ w = 1 ∨ w = 2 ∨ w = 3 ∨ w = 4 by omega) with rfl | rfl | rfl | rfl | rfl
  · rw [if_pos (by omega), if_pos rfl]
  · rw [if_neg (by omega), if_pos (by omega), if_neg (by decide), if_pos rfl]
  · rw [if_neg (by omega), if_neg (by omega), if_pos (by omega), if_neg (by decide), if_neg (by decide), if_pos rfl]
  · rw [if_neg (by omega), if_neg (by omega), if_neg (by omega), if_pos (by omega), if_neg (by decide), if_neg (by decide), if_neg (by decide), if_pos rfl]
  · rw [if_neg (by omega), if_neg (by omega), if_neg (by omega), if_neg (by omega), if_neg (by decide), if_neg (by decide), if_neg (by decide), if_neg (by decide)]
theorem c_feed {K n : Nat} {a b c d e : Int32} {f : Nat → Int32} (hK : 400 ≤ K) (hn : n ≤ 320) : F_X7_feed K a b c d e f (nI n) = some (if n + cn (btF a b c d e) 20 ≤ 320 then (nI (n + cn (btF a b c d e) 20), pcF (btF a b c d e) n f 20, nI (n + cn (btF a b c d e) 20)) else (-1, f, nI n)) := by
  have b0 : ∀ j, j < 4 → btF a b c d e (4 * 0 + j) = byF a j := fun j hj => bt_w (a := a) (b := b) (c := c) (d := d) (e := e) (w := 0) (j := j) (by decide) hj
  have b1 : ∀ j, j < 4 → btF a b c d e (4 * 1 + j) = byF b j := fun j hj => bt_w (a := a) (b := b) (c := c) (d := d) (e := e) (w := 1) (j := j) (by decide) hj
  have b2 : ∀ j, j < 4 → btF a b c d e (4 * 2 + j) = byF c j := fun j hj => bt_w (a := a) (b := b) (c := c) (d := d) (e := e) (w := 2) (j := j) (by decide) hj
  have b3 : ∀ j, j < 4 → btF a b c d e (4 * 3 + j) = byF d j := fun j hj => bt_w (a := a) (b := b) (c := c) (d := d) (e := e) (w := 3) (j := j) (by decide) hj
  have b4 : ∀ j, j < 4 → btF a b c d e (4 * 4 + j) = byF e j := fun j hj => bt_w (a := a) (b := b) (c := c) (d := d) (e := e) (w := 4) (j := j) (by decide) hj
  generalize btF a b c d e = bt at b0 b1 b2 b3 b4 ⊢
  have m0 := cn_mono (bt := bt) (k := 0) 4
  have m1 := cn_mono (bt := bt) (k := 4) 4
  have m2 := cn_mono (bt := bt) (k := 8) 4
  have m3 := cn_mono (bt := bt) (k := 12) 4
  have m4 := cn_mono (bt := bt) (k := 16) 4
  have m5 := cn_le (bt := bt) 20
  have h5 : n + (cn bt 4 - cn bt 0 + (cn bt 8 - cn bt 4) + (cn bt 12 - cn bt 8) + (cn bt 16 - cn bt 12) + (cn bt 20 - cn bt 16)) = n + cn bt 20 := by
    have z : cn bt 0 = 0 := rfl
    have k1 : cn bt 4 ≤ cn bt 8 := m1
    have k2 : cn bt 8 ≤ cn bt 12 := m2
    have k3 : cn bt 12 ≤ cn bt 16 := m3
    have k4 : cn bt 16 ≤ cn bt 20 := m4
    omega
  unfold F_X7_feed
  rw [c_bytesIn (w := 0) hK b0, xb1, c_bytesIn (w := 1) hK b1, xb1, c_bytesIn (w := 2) hK b2, xb1, c_bytesIn (w := 3) hK b3, xb1, c_bytesIn (w := 4) hK b4, xb1, nI_add, nI_add, nI_add, nI_add, nI_add, x320, show n + (cn bt (4 * 0 + 4) - cn bt (4 * 0) + (cn bt (4 * 1 + 4) - cn bt (4 * 1)) + (cn bt (4 * 2 + 4) - cn bt (4 * 2)) + (cn bt (4 * 3 + 4) - cn bt (4 * 3)) + (cn bt (4 * 4 + 4) - cn bt (4 * 4))) = n + cn bt 20 from h5, xle (by omega) (by decide)]
  by_cases q : n + cn bt 20 ≤ 320
  · rw [if_pos q, if_pos q]
    rw [show F_X6_take K a f (nI n) = _ from c_take (w := 0) (f := f) hK b0 (by show n + cn bt 4 ≤ 320; have : cn bt 4 ≤ cn bt 8 := m1; have : cn bt 8 ≤ cn bt 12 := m2; have : cn bt 12 ≤ cn bt 16 := m3; have : cn bt 16 ≤ cn bt 20 := m4; omega), xb2]
    rw [show F_X6_take K b (pcF bt n f (4 * 0 + 4)) (nI (n + cn bt (4 * 0 + 4))) = _ from c_take (w := 1) (f := f) hK b1 (by show n + cn bt 8 ≤ 320; have : cn bt 8 ≤ cn bt 12 := m2; have : cn bt 12 ≤ cn bt 16 := m3; have : cn bt 16 ≤ cn bt 20 := m4; omega), xb2]
    rw [show F_X6_take K c (pcF bt n f (4 * 1 + 4)) (nI (n + cn bt (4 * 1 + 4))) = _ from c_take (w := 2) (f := f) hK b2 (by show n + cn bt 12 ≤ 320; have : cn bt 12 ≤ cn bt 16 := m3; have : cn bt 16 ≤ cn bt 20 := m4; omega), xb2]
    rw [show F_X6_take K d (pcF bt n f (4 * 2 + 4)) (nI (n + cn bt (4 * 2 + 4))) = _ from c_take (w := 3) (f := f) hK b3 (by show n + cn bt 16 ≤ 320; have : cn bt 16 ≤ cn bt 20 := m4; omega), xb2]
    rw [show F_X6_take K e (pcF bt n f (4 * 3 + 4)) (nI (n + cn bt (4 * 3 + 4))) = _ from c_take (w := 4) (f := f) hK b4 q, xb2]
  · rw [if_neg q, if_neg q]

theorem bo_sh : ∀ k, k < 20 → (24 : Int32) - ((8 : Int32) * (nI k - nI k / (4 : Int32) * (4 : Int32))) = shF (k % 4) := by decide +kernel
theorem bo_j {k : Nat} {w : Int32} (hk : k < 20) : J_X8_byteOf_45 (nI k) w = some (byF w (k % 4)) := by
  unfold J_X8_byteOf_45
  rw [bo_sh k hk]
  have h4 : k % 4 < 4 := Nat.mod_lt _ (by decide)
  generalize k % 4 = j at h4 ⊢
  rcases (show j = 0 ∨ j = 1 ∨ j = 2 ∨ j = 3 by omega) with rfl | rfl | rfl | rfl
  · exact congrArg some (sh24 w)
  · exact congrArg some (sh16 w)
  · exact congrArg some (sh8 w)
  · exact congrArg some (sh0 w)
theorem bo {a b c d e : Int32} {k : Nat} (hk : k < 20) : F_X8_byteOf a b c d e (nI k) = some (btF a b c d e k) := by
  unfold F_X8_byteOf btF
  rw [bo_j hk, bo_j hk, bo_j hk, bo_j hk, bo_j hk]
  rw [show (4 : Int32) = nI 4 from rfl, show (8 : Int32) = nI 8 from rfl, show (12 : Int32) = nI 12 from rfl, show (16 : Int32) = nI 16 from rfl, xle (by decide) (by omega), xle (by decide) (by omega), xle (by decide) (by omega), xle (by decide) (by omega)]
  by_cases h1 : k < 4
  · rw [if_neg (by omega), if_pos h1]
  · rw [if_pos (by omega), if_neg h1]
    by_cases h2 : k < 8
    · rw [if_neg (by omega), if_pos h2]
    · rw [if_pos (by omega), if_neg h2]
      by_cases h3 : k < 12
      · rw [if_neg (by omega), if_pos h3]
      · rw [if_pos (by omega), if_neg h3]
        by_cases h4 : k < 16
        · rw [if_neg (by omega), if_pos h4]
        · rw [if_pos (by omega), if_neg h4]
theorem m_feed {K n : Nat} {a b c d e : Int32} {f : Nat → Int32} (hK : 400 ≤ K) (hn : n ≤ 320) : F_X8_feed K a b c d e f (nI n) = some (if n + cn (btF a b c d e) 20 ≤ 320 then (nI (n + cn (btF a b c d e) 20), pmF (btF a b c d e) n f 20, nI (n + cn (btF a b c d e) 20)) else (-1, f, nI n)) := by
  have hb : ∀ k, k < 20 → F_X8_byteOf a b c d e (nI k) = some (btF a b c d e k) := fun k hk => bo hk
  generalize btF a b c d e = bt at hb ⊢
  have m5 := cn_le (bt := bt) 20
  have L1 : lpF (fun u9 : Int32 × Int32 => B_X8_feed_6 a b c d e u9.1 u9.2) K ((0 : Int32), (0 : Int32)) = some (nI (cn bt 20)) := by
    refine lp_for (fun k => ((nI (cn bt k), nI k) : Int32 × Int32)) (n := 20) (by omega) (fun k hk => ?_) ?_
    · show B_X8_feed_6 a b c d e (nI (cn bt k)) (nI k) = some (.inl (nI (if bt k = 0 then cn bt k else cn bt k + 1), nI (k + 1)))
      unfold B_X8_feed_6
      rw [hb k hk, xb1, if_neg (show ¬ (20 : Int32) ≤ nI k by rw [show (20 : Int32) = nI 20 from rfl, ple (by decide) (by omega)]; omega), nI_1, nI_1]
      by_cases q : bt k = 0
      · rw [if_pos q, if_pos q, show nI (cn bt k) + 0 = nI (cn bt k) from Int32.add_zero _]
      · rw [if_neg q, if_neg q]
    · show B_X8_feed_6 a b c d e (nI (cn bt 20)) (nI 20) = _
      unfold B_X8_feed_6
      rw [if_pos (by decide)]
  unfold F_X8_feed
  rw [L1, xb1, nI_add, x320, xle (by omega) (by decide)]
  by_cases q : n + cn bt 20 ≤ 320
  · rw [if_pos q, if_pos q]
    rw [show lpF (fun u9 : Int32 × (Nat → Int32) × Int32 => B_X8_feed_62 a b c d e u9.1 u9.2.1 u9.2.2) K ((0 : Int32), f, nI n) = some (pmF bt n f 20, nI (n + cn bt 20)) from ?_, xb2]
    refine lp_for (fun k => ((nI k, pmF bt n f k, nI (n + cn bt k)) : Int32 × (Nat → Int32) × Int32)) (n := 20) (by omega) (fun k hk => ?_) ?_
    · show B_X8_feed_62 a b c d e (nI k) (pmF bt n f k) (nI (n + cn bt k)) = some (.inl (nI (k + 1), (if bt k = 0 then pmF bt n f k else upd (pmF bt n f k) (n + cn bt k) (bt k)), nI (n + (if bt k = 0 then cn bt k else cn bt k + 1))))
      have m1 : cn bt (k + 1) ≤ cn bt 20 := by
        have := cn_mono (bt := bt) (k := k + 1) (19 - k)
        rw [show k + 1 + (19 - k) = 20 by omega] at this
        exact this
      unfold B_X8_feed_62
      rw [hb k hk, xb1, if_neg (show ¬ (20 : Int32) ≤ nI k by rw [show (20 : Int32) = nI 20 from rfl, ple (by decide) (by omega)]; omega), nI_1]
      by_cases q : bt k = 0
      · rw [if_pos q, if_pos q, if_pos q]
      · have m2 : cn bt k + 1 ≤ cn bt 20 := by
          have e : cn bt (k + 1) = cn bt k + 1 := by
            show (if bt k = 0 then cn bt k else cn bt k + 1) = _
            rw [if_neg q]
          omega
        rw [if_neg q, if_neg q, if_neg q, xixn (by omega) (by decide), xnm, nI_clamp (by omega), nI_1, Nat.add_assoc]
    · show B_X8_feed_62 a b c d e (nI 20) _ _ = _
      unfold B_X8_feed_62
      rw [if_pos (by decide)]
  · rw [if_neg q, if_neg q]
/-- both tapes hold the same n signs -/
def TR (n : Nat) (bytes tape : Nat → Int32) : Prop := n ≤ 320 ∧ ∀ i, i < n → ∃ m, 1 ≤ m ∧ m < 256 ∧ tape i = nI m ∧ bytes i &&& 255 = nI m
def sgO (n : Nat) (tape : Nat → Int32) (i : Nat) : Int32 := if i < n then tape i else -1
theorem TR.sg {n : Nat} {bytes tape : Nat → Int32} (h : TR n bytes tape) : Sg n (sgO n tape) := by
  refine ⟨h.1, fun i hi => if_neg (by omega), fun i hi => ?_⟩
  obtain ⟨m, h1, h2, h3, _⟩ := h.2 i hi
  unfold sgO
  rw [if_pos hi, h3]
  exact nI_ne_m1 (by omega)
theorem TR.c {n : Nat} {bytes tape : Nat → Int32} (h : TR n bytes tape) : TpC n (sgO n tape) bytes := by
  intro i hi
  obtain ⟨m, h1, h2, h3, h4⟩ := h.2 i hi
  unfold sgO
  rw [if_pos hi, h3, h4]
theorem TR.m {n : Nat} {bytes tape : Nat → Int32} (_ : TR n bytes tape) : TpM n (sgO n tape) tape := by
  intro i hi
  unfold sgO
  rw [if_pos hi]
theorem upd_no {f : Nat → Int32} {i j : Nat} {x : Int32} (h : ¬ j = i) : upd f i x j = f j := by unfold upd; exact if_neg h
theorem TR.fed {n : Nat} {bt bytes tape : Nat → Int32} (hb : ∀ k, ∃ m, m < 256 ∧ bt k = nI m) (h : TR n bytes tape) : ∀ k, n + cn bt k ≤ 320 → TR (n + cn bt k) (pcF bt n bytes k) (pmF bt n tape k) := by
  intro k
  induction k with
  | zero => exact fun _ => h
  | succ k ih =>
    show n + (if bt k = 0 then cn bt k else cn bt k + 1) ≤ 320 → TR (n + (if bt k = 0 then cn bt k else cn bt k + 1)) (if bt k = 0 then pcF bt n bytes k else upd (pcF bt n bytes k) (n + cn bt k) (vp_nar .byte ((bt k).toInt8.toInt32))) (if bt k = 0 then pmF bt n tape k else upd (pmF bt n tape k) (n + cn bt k) (bt k))
    by_cases q : bt k = 0
    · rw [if_pos q, if_pos q, if_pos q]
      exact ih
    · rw [if_neg q, if_neg q, if_neg q]
      intro hl
      have i1 := ih (by omega)
      obtain ⟨m, hm, e⟩ := hb k
      refine ⟨by omega, fun i hi => ?_⟩
      by_cases z : i = n + cn bt k
      · refine ⟨m, ?_, hm, ?_, ?_⟩
        · exact Nat.pos_of_ne_zero (fun m0 => q (by rw [e, m0]; rfl))
        · rw [z, upd_at, e]
        · rw [z, upd_at, e]
          exact nar255 m hm
      · rw [upd_no z, upd_no z]
        exact i1.2 i (by omega)
theorem bt_ok {a b c d e : Int32} (k : Nat) : ∃ m, m < 256 ∧ btF a b c d e k = nI m := by
  unfold btF byF
  exact and255 _
/-- both take signs alike -/
theorem fd_both {K n : Nat} {a b c d e : Int32} {bytes tape : Nat → Int32} (hK : 400 ≤ K) (h : TR n bytes tape) : ∃ v n' bytes' tape', F_X7_feed K a b c d e bytes (nI n) = some (v, bytes', nI n') ∧ F_X8_feed K a b c d e tape (nI n) = some (v, tape', nI n') ∧ TR n' bytes' tape' := by
  rw [c_feed hK h.1, m_feed hK h.1]
  by_cases q : n + cn (btF a b c d e) 20 ≤ 320
  · rw [if_pos q, if_pos q]
    exact ⟨_, _, _, _, rfl, rfl, h.fed bt_ok 20 q⟩
  · rw [if_neg q, if_neg q]
    exact ⟨_, _, _, _, rfl, rfl, h⟩
theorem c_end {n : Nat} {p : Int32} (hn : n ≤ 320) : F_X7_end p (nI n) = some (if 0 ≤ p ∧ p ≤ nI n then (1, p) else (0, nI n)) := by
  unfold F_X7_end F_X6_cutTo
  by_cases h1 : p < 0
  · rw [if_pos h1, xb2, if_neg (fun q => lt_not.mp h1 q.1)]
  · rw [if_neg h1]
    have h1' : 0 ≤ p := Decidable.byContradiction (fun q => h1 (lt_not.mpr q))
    by_cases h2 : p ≤ nI n
    · rw [if_pos h2, xb2, if_pos ⟨h1', h2⟩]
    · rw [if_neg h2, xb2, if_neg (fun q => h2 q.2)]
theorem m_end {n : Nat} {p : Int32} (hn : n ≤ 320) : F_X8_end p (nI n) = some (if 0 ≤ p ∧ p ≤ nI n then (1, p) else (0, nI n)) := by
  unfold F_X8_end
  rw [show (0 : Int64) = (0 : Int32).toInt64 from rfl, m_inI, xb1]
  by_cases h1 : 0 ≤ p ∧ p ≤ nI n
  · rw [if_pos h1, if_pos h1, if_neg (by decide)]
  · rw [if_neg h1, if_neg h1, if_pos rfl]
theorem en_both {n : Nat} {p : Int32} {bytes tape : Nat → Int32} (h : TR n bytes tape) : ∃ v n', F_X7_end p (nI n) = some (v, nI n') ∧ F_X8_end p (nI n) = some (v, nI n') ∧ TR n' bytes tape := by
  rw [c_end h.1, m_end h.1]
  have hn := h.1
  by_cases q : 0 ≤ p ∧ p ≤ nI n
  · rw [if_pos q]
    have e : p = nI p.toNatClampNeg := by
      have := Int32.le_iff_toInt_le.mp q.1
      apply Int32.toInt_inj.mp
      rw [nI_toInt (by have := Int32.toInt_lt p; unfold Int32.toNatClampNeg; omega)]
      unfold Int32.toNatClampNeg
      have z : (0 : Int32).toInt = 0 := rfl
      omega
    generalize hm : p.toNatClampNeg = m at e
    have ml : m ≤ n := by
      have h2 := q.2
      have hb : m < 2 ^ 31 := by rw [← hm]; have := Int32.toInt_lt p; unfold Int32.toNatClampNeg; omega
      rw [e] at h2
      exact (nI_leI hb (by omega)).mp h2
    exact ⟨1, m, by rw [← e], by rw [← e], by omega, fun i hi => h.2 i (by omega)⟩
  · rw [if_neg q]
    exact ⟨_, _, rfl, rfl, h⟩
