/-! Stage B, 11: whether a group can share, in both -/
theorem xnz {α : Type} {d : Int32} {g : Option α} (h : ¬ d = 0) : nzI d g = g := by unfold nzI; exact if_neg h
theorem vp_02 : vp_in (0 : Int32) 2 := nI_in (c := 0) (by decide) (by decide)
theorem vp_12 : vp_in (1 : Int32) 2 := nI_in (c := 1) (by decide) (by decide)
theorem lp_2 {σ ρ : Type} {b : σ → Option (σ ⊕ ρ)} {K : Nat} {u0 u1 u2 : σ} {r : ρ} (hK : 2 < K) (h0 : b u0 = some (.inl u1)) (h1 : b u1 = some (.inl u2)) (h2 : b u2 = some (.inr r)) : lpF b K u0 = some r := by
  obtain ⟨K2, rfl⟩ : ∃ K2, K = K2 + 1 + 1 + 1 := ⟨K - 3, by omega⟩
  rw [lp_one h0, lp_one h1, lp_end h2]
/-- all of the first k -/
def alF (p : Nat → Bool) : Nat → Bool
  | 0 => true
  | k + 1 => alF p k && p k
theorem alF_no {p : Nat → Bool} {i : Nat} (h : p i = false) : ∀ n, i < n → alF p n = false := by
  intro n
  induction n with
  | zero => exact fun z => absurd z (Nat.not_lt_zero _)
  | succ k ih =>
    intro hk
    show (alF p k && p k) = false
    by_cases e : i = k
    · rw [← e, h, Bool.and_false]
    · rw [ih (by omega), Bool.false_and]
theorem lp_allA {σ ρ : Type} {b : σ → Option (σ ⊕ ρ)} {S : Nat → σ} {p : Nat → Bool} {n : Nat} {r0 r1 : ρ} (hs : ∀ i, i < n → p i = true → b (S i) = some (.inl (S (i + 1)))) (hx : ∀ i, i < n → p i = false → b (S i) = some (.inr r0)) (he : b (S n) = some (.inr r1)) : ∀ (k i K : Nat), i + k = n → k < K → alF p i = true → lpF b K (S i) = some (if alF p n = true then r1 else r0) := by
  intro k
  induction k with
  | zero =>
    intro i K h1 h2 h3
    obtain ⟨K', rfl⟩ : ∃ K', K = K' + 1 := ⟨K - 1, by omega⟩
    obtain rfl : i = n := by omega
    rw [if_pos h3]
    exact lp_end he
  | succ k ih =>
    intro i K h1 h2 h3
    obtain ⟨K', rfl⟩ : ∃ K', K = K' + 1 := ⟨K - 1, by omega⟩
    cases q : p i with
    | true =>
      rw [lp_one (hs i (by omega) q)]
      exact ih (i + 1) K' (by omega) (by omega) (show (alF p i && p i) = true by rw [h3, q]; rfl)
    | false =>
      rw [if_neg (by rw [alF_no q n (by omega)]; decide)]
      exact lp_end (hx i (by omega) q)
/-- a loop that ends at the first that isn't so -/
theorem lp_all {σ ρ : Type} {b : σ → Option (σ ⊕ ρ)} (S : Nat → σ) (p : Nat → Bool) {n K : Nat} {r0 r1 : ρ} (hK : n < K) (hs : ∀ i, i < n → p i = true → b (S i) = some (.inl (S (i + 1)))) (hx : ∀ i, i < n → p i = false → b (S i) = some (.inr r0)) (he : b (S n) = some (.inr r1)) : lpF b K (S 0) = some (if alF p n = true then r1 else r0) := lp_allA hs hx he n 0 K (by omega) hK rfl
/-- what one of a group has: its rank k -/
def shv (q : Int32) (r k : Nat) : Int32 := if r ≤ k then q else q + 1
theorem c_shareOf {q : Int32} {r k a : Nat} {A : Int32} {sh lo : Nat → Int32} (eA : A = nI a) (ha : a < 2) (hr : r < 2 ^ 30) (hk : k < 2 ^ 30) (e1 : sh a = q) (e2 : lo a = nI r) : F_X5_shareOf (nI k) A sh lo = some (shv q r k) := by
  unfold F_X5_shareOf shv
  rw [eA, if_neg (nn0 (by omega)), if_pos (show nI a ≤ (1 : Int32) from (nI_leI (a := a) (b := 1) (by omega) (by omega)).mpr (by omega)), nI_clamp (by omega), xixn (by omega) (by decide), xixn (by omega) (by decide), xixn (by omega) (by decide), e1, e2]
  by_cases c : r ≤ k
  · rw [if_pos c, if_pos ((nI_leI (a := r) (b := k) (by omega) (by omega)).mpr c)]
  · rw [if_neg c, if_neg (mt (nI_leI (a := r) (b := k) (by omega) (by omega)).mp c)]
theorem c_meas {K n m b : Nat} {f sh lo : Nat → Int32} {q0 q1 : Int32} {r0 r1 : Nat} (hK : 200000 ≤ K) (hm : m < 256) (n8 : n ≤ 8) (h3 : f 3 = nI n) (hb : bcn m 8 = b) (h0 : 0 < b) (e0 : F_J9_floorDiv_7cf53 (gsm (fun i => cdr f i 0) m n) (nI b) = some q0) (e1 : F_J9_floorDiv_7cf53 (gsm (fun i => cdr f i 1) m n) (nI b) = some q1) (d0 : F_J9_floorMod_7cf53 (gsm (fun i => cdr f i 0) m n) (nI b) = some (nI r0)) (d1 : F_J9_floorMod_7cf53 (gsm (fun i => cdr f i 1) m n) (nI b) = some (nI r1)) : F_X5_measureShares K (nI m) f sh lo = some (upd (upd sh 0 q0) 1 q1, upd (upd lo 0 (nI r0)) 1 (nI r1)) := by
  have b8 : b ≤ 8 := by rw [← hb]; exact bcn_le m 8
  have nz : ¬ nI b = (0 : Int32) := nI_ne0 h0 (by omega)
  have s0 : B_X5_measureShares_12 K (nI m) f (nI b) 0 sh lo = some (.inl ((1 : Int32), upd sh 0 q0, upd lo 0 (nI r0))) := by
    unfold B_X5_measureShares_12
    rw [if_neg (by decide), c_msum (a := 0) (by rfl) hK hm n8 h3 (by decide), xb1, e0, xb1, xix vp_02, xnm, d0, xb1, xix vp_02, xnm]
    rfl
  have s1 : B_X5_measureShares_12 K (nI m) f (nI b) 1 (upd sh 0 q0) (upd lo 0 (nI r0)) = some (.inl ((2 : Int32), upd (upd sh 0 q0) 1 q1, upd (upd lo 0 (nI r0)) 1 (nI r1))) := by
    unfold B_X5_measureShares_12
    rw [if_neg (by decide), c_msum (a := 1) (by rfl) hK hm n8 h3 (by decide), xb1, e1, xb1, xix vp_12, xnm, d1, xb1, xix vp_12, xnm]
    rfl
  have s2 : B_X5_measureShares_12 K (nI m) f (nI b) 2 (upd (upd sh 0 q0) 1 q1) (upd (upd lo 0 (nI r0)) 1 (nI r1)) = some (.inr (upd (upd sh 0 q0) 1 q1, upd (upd lo 0 (nI r0)) 1 (nI r1))) := by
    unfold B_X5_measureShares_12
    rw [if_pos (by decide)]
  unfold F_X5_measureShares
  rw [bits_c m hm, xb1, hb, if_neg nz, lp_2 (b := fun u9 : Int32 × (Nat → Int32) × (Nat → Int32) => B_X5_measureShares_12 K (nI m) f (nI b) u9.1 u9.2.1 u9.2.2) (u0 := ((0 : Int32), sh, lo)) (u1 := ((1 : Int32), upd sh 0 q0, upd lo 0 (nI r0))) (u2 := ((2 : Int32), upd (upd sh 0 q0) 1 q1, upd (upd lo 0 (nI r0)) 1 (nI r1))) (r := (upd (upd sh 0 q0) 1 q1, upd (upd lo 0 (nI r0)) 1 (nI r1))) (by omega) s0 s1 s2, xb2]
/-- quiet by what one has of the shares -/
def qvl (f : Nat → Int32) (a b : Int32) : Int32 := (F_X5_isQuietDrift a b f).getD 0
theorem qvl_is {f : Nat → Int32} {a b : Int32} : F_X5_isQuietDrift a b f = some (qvl f a b) := by
  obtain ⟨r, e, -⟩ := t_isQuietDrift (p1 := a) (p2 := b) (f := f)
  unfold qvl
  rw [e]
  rfl
def shp (f : Nat → Int32) (m : Nat) (q0 q1 : Int32) (r0 r1 : Nat) (j : Nat) : Bool := decide (m / 2 ^ j % 2 = 0) || decide (¬ qvl f (shv q0 r0 (bcn m j)) (shv q1 r1 (bcn m j)) = 0)
theorem c_can {K n m : Nat} {f sh lo : Nat → Int32} {q0 q1 : Int32} {r0 r1 : Nat} (hK : 200000 ≤ K) (hm : m < 256) (n8 : n ≤ 8) (h3 : f 3 = nI n) (hr0 : r0 < 2 ^ 30) (hr1 : r1 < 2 ^ 30) (s0 : sh 0 = q0) (s1 : sh 1 = q1) (l0 : lo 0 = nI r0) (l1 : lo 1 = nI r1) : lpF (fun u9 : Int32 × Int32 => B_X5_canShare_9 (nI m) f sh lo u9.1 u9.2) K ((0 : Int32), (0 : Int32)) = some (if alF (shp f m q0 q1 r0 r1) n = true then 1 else 0) := by
  have B : ∀ j, j < n → B_X5_canShare_9 (nI m) f sh lo (nI (bcn m j)) (nI j) = if m / 2 ^ j % 2 = 0 then some (.inl (nI (bcn m j), nI (j + 1))) else if qvl f (shv q0 r0 (bcn m j)) (shv q1 r1 (bcn m j)) = 0 then some (.inr 0) else some (.inl (nI (bcn m j + 1), nI (j + 1))) := by
    intro j hj
    have bl := bcn_le m j
    unfold B_X5_canShare_9 F_X5_sites
    rw [xb1, h3, if_neg (mt (nI_leI (a := n) (b := j) (by omega) (by omega)).mp (by omega)), bit_at m hm j (by omega), c_shareOf (a := 0) (by rfl) (by decide) hr0 (by omega) s0 l0, xb1, c_shareOf (a := 1) (by rfl) (by decide) hr1 (by omega) s1 l1, xb1, qvl_is, xb1, nI_1, nI_1]
    by_cases c : m / 2 ^ j % 2 = 0
    · rw [if_pos (gb_z.mpr c), if_pos c]
    · rw [if_neg (mt gb_z.mp c), if_neg c]
  refine lp_all (fun j => (nI (bcn m j), nI j)) (shp f m q0 q1 r0 r1) (n := n) (by omega) (fun j hj hp => ?_) (fun j hj hp => ?_) ?_
  · show B_X5_canShare_9 (nI m) f sh lo (nI (bcn m j)) (nI j) = some (.inl (nI (bcn m j + m / 2 ^ j % 2), nI (j + 1)))
    rw [B j hj]
    by_cases c : m / 2 ^ j % 2 = 0
    · rw [if_pos c, c, Nat.add_zero (bcn m j)]
    · have q : ¬ qvl f (shv q0 r0 (bcn m j)) (shv q1 r1 (bcn m j)) = 0 := by
        unfold shp at hp
        rw [decide_eq_false c, Bool.false_or] at hp
        exact of_decide_eq_true hp
      rw [if_neg c, if_neg q, show m / 2 ^ j % 2 = 1 by omega]
  · show B_X5_canShare_9 (nI m) f sh lo (nI (bcn m j)) (nI j) = some (.inr 0)
    unfold shp at hp
    rw [Bool.or_eq_false_iff] at hp
    have c : ¬ m / 2 ^ j % 2 = 0 := of_decide_eq_false hp.1
    have q : qvl f (shv q0 r0 (bcn m j)) (shv q1 r1 (bcn m j)) = 0 := Decidable.not_not.mp (of_decide_eq_false hp.2)
    rw [B j hj, if_neg c, if_pos q]
  · show B_X5_canShare_9 (nI m) f sh lo (nI (bcn m n)) (nI n) = some (.inr 1)
    unfold B_X5_canShare_9 F_X5_sites
    rw [xb1, h3, if_pos ((nI_leI (a := n) (b := n) (by omega) (by omega)).mpr (Nat.le_refl _))]
theorem gsub_le0 {a b : Nat} (ha : a < 2 ^ 30) (hb : b < 2 ^ 30) : nI a - nI b ≤ (0 : Int32) ↔ a ≤ b := by
  rw [Int32.le_iff_toInt_le, pk_sub_toInt ha hb, Int32.toInt_zero]
  omega
theorem sub_1 {a b : Nat} : nI a - nI b + (-1 : Int32) = nI a - nI (b + 1) := by
  rw [← nI_1 b, ← Int32.sub_sub, Int32.sub_eq_add_neg (nI a - nI b) 1]
/-- the shares as the reference lays them -/
def shu (w : Nat → Int32) (m : Nat) (s : Nat → Int32) : Nat → Nat → Int32
  | 0 => s
  | k + 1 => if m / 2 ^ k % 2 = 0 then shu w m s k else upd (shu w m s k) k (w k)
theorem shu_at {w s : Nat → Int32} {m j : Nat} (hb : ¬ m / 2 ^ j % 2 = 0) : ∀ n, j < n → shu w m s n j = w j := by
  intro n
  induction n with
  | zero => exact fun z => absurd z (Nat.not_lt_zero _)
  | succ k ih =>
    intro hk
    show (if m / 2 ^ k % 2 = 0 then shu w m s k else upd (shu w m s k) k (w k)) j = w j
    by_cases e : j = k
    · rw [← e, if_neg hb, upd_at]
    · by_cases c : m / 2 ^ k % 2 = 0
      · rw [if_pos c]
        exact ih (by omega)
      · rw [if_neg c, upd_ne e]
        exact ih (by omega)
/-- the reference's points, and whether what is there is allowed: the class's quiet -/
theorem pt_both {n K : Nat} {f g : Nat → Int32} (hK : 200000 ≤ K) (h : RowR n f g) {p : Int32} : F_X8_pointX K p g (nI n) = some (f 4 + nI n * p) ∧ F_X8_pointY K p g (nI n) = some (f 5 + nI n * p) := by
  have n8 := h.n8
  have e16 : F_X8_sum K (16 : Int32) g (nI n) = some (f 4) := by rw [h.sx]; exact bm_sum hK n8 (b := 16) (by decide)
  have e24 : F_X8_sum K (24 : Int32) g (nI n) = some (f 5) := by rw [h.sy]; exact bm_sum hK n8 (b := 24) (by decide)
  unfold F_X8_pointX F_X8_pointY
  rw [e16, e24, xb1, xb1]
  exact ⟨rfl, rfl⟩
theorem al_both {n K : Nat} {f g : Nat → Int32} (hK : 200000 ≤ K) (h : RowR n f g) (hg : RowG g) (h72 : g 72 = 0) {p1 p2 : Int32} : F_X8_isAllowed (f 4 + nI n * p1) (f 5 + nI n * p2) g = some (qvl f p1 p2) := by
  have q := q_both hK h hg (p1 := p1) (p2 := p2)
  rw [qvl_is] at q
  unfold F_X8_isQuietBy at q
  rw [h72, if_neg (by decide), (pt_both hK h).1, xb1, (pt_both hK h).2, xb1, bd1_id] at q
  exact q.symm
theorem m_shB {n m j K b : Nat} {f g sx sy : Nat → Int32} {x y q0 q1 : Int32} {r0 r1 : Nat} {v : Int32} (hK : 200000 ≤ K) (h : RowR n f g) (hg : RowG g) (h72 : g 72 = 0) (hm : m < 256) (hj : j < n) (hr0 : r0 < 2 ^ 30) (hr1 : r1 < 2 ^ 30) (e0 : F_J9_floorDiv_7cf53 x (nI b) = some q0) (e1 : F_J9_floorDiv_7cf53 y (nI b) = some q1) : B_X8_shares_95 K (nI m) (nI n) g (nI b) x y (nI r0 - nI (bcn m j)) (nI r1 - nI (bcn m j)) v (nI j) sx sy = some (.inl (if m / 2 ^ j % 2 = 0 then (nI r0 - nI (bcn m j), nI r1 - nI (bcn m j), v, nI (j + 1), sx, sy) else (nI r0 - nI (bcn m j + 1), nI r1 - nI (bcn m j + 1), (if v = 0 then 0 else if qvl f (shv q0 r0 (bcn m j)) (shv q1 r1 (bcn m j)) = 0 then 0 else 1), nI (j + 1), upd sx j (shv q0 r0 (bcn m j)), upd sy j (shv q1 r1 (bcn m j))))) := by
  have n8 := h.n8
  have bl := bcn_le m j
  have J2 : ∀ sx' : Nat → Int32, sx' j = shv q0 r0 (bcn m j) → J_X8_shares_158_r96 K (nI n) g (if r1 ≤ bcn m j then 0 else 1) q1 (nI j) (nI r0 - nI (bcn m j)) (nI r1 - nI (bcn m j)) v (nI j) sx' sy = some (.inl (nI r0 - nI (bcn m j + 1), nI r1 - nI (bcn m j + 1), (if v = 0 then 0 else if qvl f (shv q0 r0 (bcn m j)) (shv q1 r1 (bcn m j)) = 0 then 0 else 1), nI (j + 1), sx', upd sy j (shv q1 r1 (bcn m j)))) := by
    intro sx' hx
    have ey : q1 + (if r1 ≤ bcn m j then (0 : Int32) else 1) = shv q1 r1 (bcn m j) := by
      unfold shv
      by_cases c : r1 ≤ bcn m j
      · rw [if_pos c, if_pos c, Int32.add_zero]
      · rw [if_neg c, if_neg c]
    unfold J_X8_shares_158_r96
    simp only [xixn (show j < 8 by omega) (by decide), nI_clamp (show j < 2 ^ 31 by omega), xnm, upd_at, hx, ey, (pt_both hK h).1, (pt_both hK h).2, xb1, al_both hK h hg h72, sub_1, nI_1]
    by_cases c : v = 0
    · rw [if_pos c, if_pos c]
    · rw [if_neg c, if_neg c]
      by_cases d : qvl f (shv q0 r0 (bcn m j)) (shv q1 r1 (bcn m j)) = 0
      · rw [if_pos d, if_pos d]
      · rw [if_neg d, if_neg d]
  have J1 : J_X8_shares_134_r96 K (nI n) g (if r0 ≤ bcn m j then 0 else 1) q0 (nI j) (nI b) y (nI r0 - nI (bcn m j)) (nI r1 - nI (bcn m j)) v (nI j) sx sy = some (.inl (nI r0 - nI (bcn m j + 1), nI r1 - nI (bcn m j + 1), (if v = 0 then 0 else if qvl f (shv q0 r0 (bcn m j)) (shv q1 r1 (bcn m j)) = 0 then 0 else 1), nI (j + 1), upd sx j (shv q0 r0 (bcn m j)), upd sy j (shv q1 r1 (bcn m j)))) := by
    have ex : q0 + (if r0 ≤ bcn m j then (0 : Int32) else 1) = shv q0 r0 (bcn m j) := by
      unfold shv
      by_cases c : r0 ≤ bcn m j
      · rw [if_pos c, if_pos c, Int32.add_zero]
      · rw [if_neg c, if_neg c]
    unfold J_X8_shares_134_r96
    rw [xixn (show j < 8 by omega) (by decide), xnm, nI_clamp (show j < 2 ^ 31 by omega), ex, e1, xb1]
    have J3 := J2 (upd sx j (shv q0 r0 (bcn m j))) upd_at
    by_cases c : r1 ≤ bcn m j
    · rw [if_pos c] at J3
      rw [if_pos ((gsub_le0 hr1 (by omega)).mpr c)]
      exact J3
    · rw [if_neg c] at J3
      rw [if_neg (mt (gsub_le0 hr1 (by omega)).mp c)]
      exact J3
  unfold B_X8_shares_95
  rw [if_neg (mt (nI_leI (a := n) (b := j) (by omega) (by omega)).mp (by omega)), gm_has hm (by omega), xb1, e0, xb1]
  by_cases c : m / 2 ^ j % 2 = 0
  · rw [if_pos (gb_z.mpr c), if_pos c, nI_1]
  · rw [if_neg (mt gb_z.mp c), if_neg c]
    by_cases d : r0 ≤ bcn m j
    · rw [if_pos d] at J1
      rw [if_pos ((gsub_le0 hr0 (by omega)).mpr d)]
      exact J1
    · rw [if_neg d] at J1
      rw [if_neg (mt (gsub_le0 hr0 (by omega)).mp d)]
      exact J1
theorem m_can {n m K b : Nat} {f g sx sy : Nat → Int32} {x y q0 q1 : Int32} {r0 r1 : Nat} (hK : 200000 ≤ K) (h : RowR n f g) (hg : RowG g) (h72 : g 72 = 0) (hm : m < 256) (hr0 : r0 < 2 ^ 30) (hr1 : r1 < 2 ^ 30) (e0 : F_J9_floorDiv_7cf53 x (nI b) = some q0) (e1 : F_J9_floorDiv_7cf53 y (nI b) = some q1) : lpF (fun u9 : Int32 × Int32 × Int32 × Int32 × (Nat → Int32) × (Nat → Int32) => B_X8_shares_95 K (nI m) (nI n) g (nI b) x y u9.1 u9.2.1 u9.2.2.1 u9.2.2.2.1 u9.2.2.2.2.1 u9.2.2.2.2.2) K (nI r0, nI r1, (1 : Int32), (0 : Int32), sx, sy) = some ((if alF (shp f m q0 q1 r0 r1) n = true then 1 else 0), shu (fun j => shv q0 r0 (bcn m j)) m sx n, shu (fun j => shv q1 r1 (bcn m j)) m sy n) := by
  have n8 := h.n8
  have z0 : (nI r0, nI r1, (1 : Int32), (0 : Int32), sx, sy) = (nI r0 - nI (bcn m 0), nI r1 - nI (bcn m 0), (if alF (shp f m q0 q1 r0 r1) 0 = true then (1 : Int32) else 0), nI 0, shu (fun j => shv q0 r0 (bcn m j)) m sx 0, shu (fun j => shv q1 r1 (bcn m j)) m sy 0) := by
    show _ = (nI r0 - (0 : Int32), nI r1 - (0 : Int32), (if true = true then (1 : Int32) else 0), (0 : Int32), sx, sy)
    rw [Int32.sub_zero, Int32.sub_zero, if_pos rfl]
  rw [z0]
  refine lp_for (fun j => (nI r0 - nI (bcn m j), nI r1 - nI (bcn m j), (if alF (shp f m q0 q1 r0 r1) j = true then (1 : Int32) else 0), nI j, shu (fun j => shv q0 r0 (bcn m j)) m sx j, shu (fun j => shv q1 r1 (bcn m j)) m sy j)) (n := n) (by omega) (fun j hj => ?_) ?_
  · show B_X8_shares_95 K (nI m) (nI n) g (nI b) x y (nI r0 - nI (bcn m j)) (nI r1 - nI (bcn m j)) (if alF (shp f m q0 q1 r0 r1) j = true then (1 : Int32) else 0) (nI j) (shu (fun j => shv q0 r0 (bcn m j)) m sx j) (shu (fun j => shv q1 r1 (bcn m j)) m sy j) = some (.inl (nI r0 - nI (bcn m j + m / 2 ^ j % 2), nI r1 - nI (bcn m j + m / 2 ^ j % 2), (if (alF (shp f m q0 q1 r0 r1) j && shp f m q0 q1 r0 r1 j) = true then (1 : Int32) else 0), nI (j + 1), (if m / 2 ^ j % 2 = 0 then shu (fun j => shv q0 r0 (bcn m j)) m sx j else upd (shu (fun j => shv q0 r0 (bcn m j)) m sx j) j (shv q0 r0 (bcn m j))), (if m / 2 ^ j % 2 = 0 then shu (fun j => shv q1 r1 (bcn m j)) m sy j else upd (shu (fun j => shv q1 r1 (bcn m j)) m sy j) j (shv q1 r1 (bcn m j)))))
    rw [m_shB hK h hg h72 hm hj hr0 hr1 e0 e1]
    by_cases c : m / 2 ^ j % 2 = 0
    · have p1 : shp f m q0 q1 r0 r1 j = true := by
        unfold shp
        rw [decide_eq_true c, Bool.true_or]
      rw [if_pos c, if_pos c, if_pos c, c, Nat.add_zero (bcn m j), p1, Bool.and_true]
    · rw [if_neg c, if_neg c, if_neg c, show m / 2 ^ j % 2 = 1 by omega]
      have p1 : shp f m q0 q1 r0 r1 j = decide (¬ qvl f (shv q0 r0 (bcn m j)) (shv q1 r1 (bcn m j)) = 0) := by
        unfold shp
        rw [decide_eq_false c, Bool.false_or]
      rw [p1]
      cases alF (shp f m q0 q1 r0 r1) j with
      | false => rfl
      | true =>
        by_cases d : qvl f (shv q0 r0 (bcn m j)) (shv q1 r1 (bcn m j)) = 0
        · rw [if_pos d, decide_eq_false (fun z => z d)]
          rfl
        · rw [if_neg d, decide_eq_true d]
          rfl
  · show B_X8_shares_95 K (nI m) (nI n) g (nI b) x y (nI r0 - nI (bcn m n)) (nI r1 - nI (bcn m n)) (if alF (shp f m q0 q1 r0 r1) n = true then (1 : Int32) else 0) (nI n) (shu (fun j => shv q0 r0 (bcn m j)) m sx n) (shu (fun j => shv q1 r1 (bcn m j)) m sy n) = _
    unfold B_X8_shares_95
    rw [if_pos ((nI_leI (a := n) (b := n) (by omega) (by omega)).mpr (Nat.le_refl _))]
/-- whether a group can share -/
theorem sh_both {n m K : Nat} {f g sh lo sx sy : Nat → Int32} (hK : 200000 ≤ K) (h : RowR n f g) (hg : RowG g) (h72 : g 72 = 0) (hm : m < 256) (hb : 0 < bcn m 8) : ∃ (v q0 q1 : Int32) (r0 r1 : Nat) (sh' lo' sx' sy' : Nat → Int32), (v = 0 ∨ v = 1) ∧ r0 < 8 ∧ r1 < 8 ∧ F_X5_canShare K (nI m) f sh lo = some (v, sh', lo') ∧ F_X8_shares K (nI m) g (nI n) sx sy = some (v, sx', sy') ∧ (sh' 0 = q0 ∧ sh' 1 = q1 ∧ lo' 0 = nI r0 ∧ lo' 1 = nI r1) ∧ ∀ j, j < n → ¬ m / 2 ^ j % 2 = 0 → sx' j = shv q0 r0 (bcn m j) ∧ sy' j = shv q1 r1 (bcn m j) := by
  have n8 := h.n8
  have b8 := bcn_le m 8
  have gx : gsm (fun i => cdr f i 0) m n = gsm (mdx g) m n := gsm_eq n (fun i hi => (dr_both h.toRowB.st hi).1)
  have gy : gsm (fun i => cdr f i 1) m n = gsm (mdy g) m n := gsm_eq n (fun i hi => (dr_both h.toRowB.st hi).2)
  have bb : bcn m 8 = 1 ∨ bcn m 8 = 2 ∨ bcn m 8 = 3 ∨ bcn m 8 = 4 ∨ bcn m 8 = 5 ∨ bcn m 8 = 6 ∨ bcn m 8 = 7 ∨ bcn m 8 = 8 := by omega
  have nz : ¬ nI (bcn m 8) = (0 : Int32) := nI_ne0 hb (by omega)
  obtain ⟨q0, e0, -⟩ := t_floorDiv (a := gsm (mdx g) m n) nz
  obtain ⟨q1, e1, -⟩ := t_floorDiv (a := gsm (mdy g) m n) nz
  obtain ⟨r0, hr0, d0⟩ := fm_n (x := gsm (mdx g) m n) bb
  obtain ⟨r1, hr1, d1⟩ := fm_n (x := gsm (mdy g) m n) bb
  refine ⟨(if alF (shp f m q0 q1 r0 r1) n = true then 1 else 0), q0, q1, r0, r1, upd (upd sh 0 q0) 1 q1, upd (upd lo 0 (nI r0)) 1 (nI r1), shu (fun j => shv q0 r0 (bcn m j)) m sx n, shu (fun j => shv q1 r1 (bcn m j)) m sy n, ?_, by omega, by omega, ?_, ?_, ⟨?_, ?_, ?_, ?_⟩, ?_⟩
  · by_cases c : alF (shp f m q0 q1 r0 r1) n = true
    · exact Or.inr (if_pos c)
    · exact Or.inl (if_neg c)
  · unfold F_X5_canShare
    rw [c_meas hK hm n8 h.sz rfl hb (by rw [gx]; exact e0) (by rw [gy]; exact e1) (by rw [gx]; exact d0) (by rw [gy]; exact d1), xb2, c_can (q0 := q0) (q1 := q1) (r0 := r0) (r1 := r1) hK hm n8 h.sz (by omega) (by omega) (by rw [upd_ne (by decide), upd_at]) upd_at (by rw [upd_ne (by decide), upd_at]) upd_at, xb1]
    by_cases c : alF (shp f m q0 q1 r0 r1) n = true
    · rw [if_pos c, if_pos c, if_neg (by decide), if_pos rfl]
    · rw [if_neg c, if_neg c, if_pos rfl]
  · unfold F_X8_shares
    rw [bits_m hK hm, xb1, m_msum hK hm n8, xb2, d0, xb1, d1, xb1, m_can hK h hg h72 hm (by omega) (by omega) e0 e1, xb3]
    unfold zbF
    by_cases c : alF (shp f m q0 q1 r0 r1) n = true
    · rw [if_pos c, if_pos (Or.inr rfl)]
    · rw [if_neg c, if_pos (Or.inl rfl)]
  · rw [upd_ne (by decide), upd_at]
  · exact upd_at
  · rw [upd_ne (by decide), upd_at]
  · exact upd_at
  · intro j hj hbj
    exact ⟨shu_at hbj n hj, shu_at hbj n hj⟩
