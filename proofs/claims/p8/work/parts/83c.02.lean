/-! Stage B, 2: two loops in step; the two rows say the same -/
theorem lp_twoA {σ τ ρ υ : Type} {b : σ → Option (σ ⊕ ρ)} {d : τ → Option (τ ⊕ υ)} (R : Nat → σ → τ → Prop) (Q : ρ → υ → Prop) {n : Nat} (hs : ∀ i s t, i < n → R i s t → (∃ s' t', b s = some (.inl s') ∧ d t = some (.inl t') ∧ R (i + 1) s' t') ∨ (∃ r u, b s = some (.inr r) ∧ d t = some (.inr u) ∧ Q r u)) (he : ∀ s t, R n s t → ∃ r u, b s = some (.inr r) ∧ d t = some (.inr u) ∧ Q r u) : ∀ (k i : Nat) (s : σ) (t : τ) (K K' : Nat), i + k = n → k < K → k < K' → R i s t → ∃ r u, lpF b K s = some r ∧ lpF d K' t = some u ∧ Q r u := by
  intro k
  induction k with
  | zero =>
    intro i s t K K' h1 h2 h3 h4
    obtain ⟨K2, rfl⟩ : ∃ K2, K = K2 + 1 := ⟨K - 1, by omega⟩
    obtain ⟨K3, rfl⟩ : ∃ K3, K' = K3 + 1 := ⟨K' - 1, by omega⟩
    have e : i = n := by omega
    rw [e] at h4
    obtain ⟨r, u, e1, e2, q⟩ := he s t h4
    exact ⟨r, u, lp_end e1, lp_end e2, q⟩
  | succ k ih =>
    intro i s t K K' h1 h2 h3 h4
    obtain ⟨K2, rfl⟩ : ∃ K2, K = K2 + 1 := ⟨K - 1, by omega⟩
    obtain ⟨K3, rfl⟩ : ∃ K3, K' = K3 + 1 := ⟨K' - 1, by omega⟩
    rcases hs i s t (by omega) h4 with ⟨s', t', e1, e2, q⟩ | ⟨r, u, e1, e2, q⟩
    · rw [lp_one e1, lp_one e2]
      exact ih (i + 1) s' t' K2 K3 (by omega) (by omega) (by omega) q
    · exact ⟨r, u, lp_end e1, lp_end e2, q⟩
/-- two loops in step -/
theorem lp_two {σ τ ρ υ : Type} {b : σ → Option (σ ⊕ ρ)} {d : τ → Option (τ ⊕ υ)} (R : Nat → σ → τ → Prop) (Q : ρ → υ → Prop) {n K K' : Nat} (hK : n < K) (hK' : n < K') (hs : ∀ i s t, i < n → R i s t → (∃ s' t', b s = some (.inl s') ∧ d t = some (.inl t') ∧ R (i + 1) s' t') ∨ (∃ r u, b s = some (.inr r) ∧ d t = some (.inr u) ∧ Q r u)) (he : ∀ s t, R n s t → ∃ r u, b s = some (.inr r) ∧ d t = some (.inr u) ∧ Q r u) {s : σ} {t : τ} (h0 : R 0 s t) : ∃ r u, lpF b K s = some r ∧ lpF d K' t = some u ∧ Q r u := lp_twoA R Q hs he n 0 s t K K' (by omega) hK hK' h0
theorem bd1_id {α : Type} {x : Option α} : bd1 x (fun r => some r) = x := by cases x <;> rfl
theorem bx_of {i c : Nat} {C : Int32} {f : Nat → Int32} (e : C = nI c) (hi : i < 8) (hc : c < 8) : F_X5_of (nI i) C f = some (f (17 + 8 * i + c)) := by rw [e]; exact b_of hi hc
theorem bx_put {i c : Nat} {C v : Int32} {f : Nat → Int32} (e : C = nI c) (hi : i < 8) (hc : c < 8) : F_X5_put (nI i) C v f = some (upd f (17 + 8 * i + c) v) := by rw [e]; exact b_put hi hc
theorem bm_ix {α : Type} {a i : Nat} {A : Int32} {G : Option α} (e : A = nI a) (h : a + i < 265) : ixF (A + nI i) 265 G = G := by rw [e, nI_add]; exact xixn h (by decide)
theorem bm_cl {a i : Nat} {A : Int32} (e : A = nI a) (h : a + i < 265) : (A + nI i).toNatClampNeg = a + i := by rw [e, nI_add]; exact nI_clamp (by omega)
/-- the frozen ones as bits -/
def row_frz (g : Nat → Int32) : Nat → Int32
  | 0 => 0
  | k + 1 => row_frz g k ||| (if g (76 + k) = 1 then (1 : Int32) <<< (nI k &&& 31) else 0)
theorem row_frz_eq {g g' : Nat → Int32} : ∀ n, (∀ i, i < n → g (76 + i) = g' (76 + i)) → row_frz g n = row_frz g' n := by
  intro n
  induction n with
  | zero => exact fun _ => rfl
  | succ k ih =>
    intro h
    show row_frz g k ||| (if g (76 + k) = 1 then (1 : Int32) <<< (nI k &&& 31) else 0) = row_frz g' k ||| (if g' (76 + k) = 1 then (1 : Int32) <<< (nI k &&& 31) else 0)
    rw [ih (fun i hi => h i (by omega)), h k (by omega)]
/-- scalars: place in the class's row, place in the reference's -/
def rowScl : List (Nat × Nat) := [(0, 64), (1, 65), (2, 66), (6, 72), (8, 73), (9, 75), (10, 74), (12, 68), (13, 69), (14, 70), (15, 71)]
theorem rowScl_b : ∀ p ∈ rowScl, p.1 < 17 ∧ ¬ p.1 = 3 ∧ ¬ p.1 = 4 ∧ ¬ p.1 = 5 ∧ ¬ p.1 = 7 ∧ 64 ≤ p.2 ∧ p.2 < 76 := by decide
theorem rowScl_u : ∀ p ∈ rowScl, ∀ q ∈ rowScl, (p.1 = q.1 ↔ p.2 = q.2) := by decide
/-- the rows say the same of n sites (but for the sums) -/
abbrev RowB (n : Nat) (f g : Nat → Int32) : Prop := n ≤ 8 ∧ f 3 = nI n ∧ (∀ i c, i < n → c < 8 → f (17 + 8 * i + c) = g (8 * c + i)) ∧ (∀ p ∈ rowScl, f p.1 = g p.2) ∧ f 7 = row_frz g n
theorem RowB.n8 {n : Nat} {f g : Nat → Int32} (h : RowB n f g) : n ≤ 8 := h.1
theorem RowB.sz {n : Nat} {f g : Nat → Int32} (h : RowB n f g) : f 3 = nI n := h.2.1
theorem RowB.st {n : Nat} {f g : Nat → Int32} (h : RowB n f g) : ∀ i c, i < n → c < 8 → f (17 + 8 * i + c) = g (8 * c + i) := h.2.2.1
theorem RowB.sc {n : Nat} {f g : Nat → Int32} (h : RowB n f g) : ∀ p ∈ rowScl, f p.1 = g p.2 := h.2.2.2.1
theorem RowB.fr {n : Nat} {f g : Nat → Int32} (h : RowB n f g) : f 7 = row_frz g n := h.2.2.2.2
theorem RowB.put {n i c : Nat} {f g : Nat → Int32} (h : RowB n f g) (hi : i < n) (hc : c < 8) (v : Int32) : RowB n (upd f (17 + 8 * i + c) v) (upd g (8 * c + i) v) := by
  have n8 := h.n8
  refine ⟨h.n8, ?_, ?_, ?_, ?_⟩
  · rw [upd_ne (by omega)]; exact h.sz
  · intro j d hj hd
    by_cases e : j = i ∧ d = c
    · obtain ⟨e1, e2⟩ := e
      rw [e1, e2, upd_at, upd_at]
    · rw [upd_ne (by omega), upd_ne (by omega)]; exact h.st j d hj hd
  · intro p hp
    obtain ⟨b1, b2, b3, b4, b5, b6, b7⟩ := rowScl_b p hp
    rw [upd_ne (by omega), upd_ne (by omega)]; exact h.sc p hp
  · rw [upd_ne (by omega), h.fr]
    exact row_frz_eq n (fun k hk => (upd_ne (by omega)).symm)
theorem RowB.scal {n a b : Nat} {f g : Nat → Int32} (h : RowB n f g) (hp : (a, b) ∈ rowScl) (v : Int32) : RowB n (upd f a v) (upd g b v) := by
  have n8 := h.n8
  obtain ⟨c1, c2, c3, c4, c5, c6, c7⟩ := rowScl_b _ hp
  refine ⟨h.n8, ?_, ?_, ?_, ?_⟩
  · rw [upd_ne (fun z => c2 z.symm)]; exact h.sz
  · intro j d hj hd
    rw [upd_ne (show ¬ 17 + 8 * j + d = a by have : a < 17 := c1; omega), upd_ne (show ¬ 8 * d + j = b by have : 64 ≤ b := c6; omega)]
    exact h.st j d hj hd
  · intro p hq
    have u := rowScl_u p hq (a, b) hp
    by_cases e : p.1 = a
    · have e2 : p.2 = b := u.mp e
      rw [e, e2, upd_at, upd_at]
    · have e2 : ¬ p.2 = b := fun z => e (u.mpr z)
      rw [upd_ne e, upd_ne e2]; exact h.sc p hq
  · rw [upd_ne (fun z => c5 z.symm), h.fr]
    exact row_frz_eq n (fun k hk => (upd_ne (show ¬ 76 + k = b by have : b < 76 := c7; omega)).symm)
theorem RowB.sums {n a : Nat} {f g : Nat → Int32} (h : RowB n f g) (ha : a = 4 ∨ a = 5 ∨ a = 16) (v : Int32) : RowB n (upd f a v) g := by
  refine ⟨h.n8, ?_, ?_, ?_, ?_⟩
  · rw [upd_ne (by omega)]; exact h.sz
  · intro j d hj hd
    rw [upd_ne (by omega)]; exact h.st j d hj hd
  · intro p hp
    obtain ⟨b1, b2, b3, b4, b5, b6, b7⟩ := rowScl_b p hp
    have : ¬ p.1 = 16 := by
      revert p
      decide
    rw [upd_ne (by omega)]; exact h.sc p hp
  · rw [upd_ne (by omega)]; exact h.fr
/-- the rows say the same -/
abbrev RowR (n : Nat) (f g : Nat → Int32) : Prop := RowB n f g ∧ f 4 = sgm (fun i => g (16 + i)) n ∧ f 5 = sgm (fun i => g (24 + i)) n
theorem RowR.toRowB {n : Nat} {f g : Nat → Int32} (h : RowR n f g) : RowB n f g := h.1
theorem RowR.sx {n : Nat} {f g : Nat → Int32} (h : RowR n f g) : f 4 = sgm (fun i => g (16 + i)) n := h.2.1
theorem RowR.sy {n : Nat} {f g : Nat → Int32} (h : RowR n f g) : f 5 = sgm (fun i => g (24 + i)) n := h.2.2
theorem RowR.n8 {n : Nat} {f g : Nat → Int32} (h : RowR n f g) : n ≤ 8 := h.1.1
theorem RowR.sz {n : Nat} {f g : Nat → Int32} (h : RowR n f g) : f 3 = nI n := h.1.2.1
theorem RowR.sc {n : Nat} {f g : Nat → Int32} (h : RowR n f g) : ∀ p ∈ rowScl, f p.1 = g p.2 := h.1.2.2.2.1
theorem val_both {f g : Nat → Int32} {p1 p2 : Int64} {a : Nat} (ha : a < 4) (h1 : f 0 = nI a) (h2 : g 64 = nI a) : F_X5_valueOf p1 p2 f = F_X8_valueOf p1 p2 g := by
  have h : ∀ x k0, J_X5_valueOf_26 p1 p2 f k0 x = J_X8_valueOf_26 p1 p2 g k0 x := fun x k0 => by
    unfold J_X5_valueOf_26 J_X8_valueOf_26
    rw [h1, h2]
    rcases (show a = 0 ∨ a = 1 ∨ a = 2 ∨ a = 3 by omega) with rfl | rfl | rfl | rfl
    · rw [if_neg (show ¬ nI 0 = (1 : Int32) by decide), if_neg (show ¬ nI 0 = (2 : Int32) by decide), if_neg (show ¬ nI 0 = (3 : Int32) by decide), if_pos (show nI 0 = (0 : Int32) by decide)]
    · rw [if_pos (show nI 1 = (1 : Int32) by decide), if_neg (show ¬ nI 1 = (0 : Int32) by decide), if_pos (show nI 1 = (1 : Int32) by decide)]
    · rw [if_neg (show ¬ nI 2 = (1 : Int32) by decide), if_pos (show nI 2 = (2 : Int32) by decide), if_neg (show ¬ nI 2 = (0 : Int32) by decide), if_neg (show ¬ nI 2 = (1 : Int32) by decide), if_pos (show nI 2 = (2 : Int32) by decide)]
    · rw [if_neg (show ¬ nI 3 = (1 : Int32) by decide), if_neg (show ¬ nI 3 = (2 : Int32) by decide), if_pos (show nI 3 = (3 : Int32) by decide), if_neg (show ¬ nI 3 = (0 : Int32) by decide), if_neg (show ¬ nI 3 = (1 : Int32) by decide), if_neg (show ¬ nI 3 = (2 : Int32) by decide)]
  unfold F_X5_valueOf F_X8_valueOf J_X5_valueOf_12 J_X8_valueOf_12
  simp only [h]
/-- what the rows' cells may hold -/
abbrev RowG (g : Nat → Int32) : Prop := (∃ a, a < 4 ∧ g 64 = nI a) ∧ (g 72 = 0 ∨ g 72 = 1)
theorem RowG.law {g : Nat → Int32} (h : RowG g) : ∃ a, a < 4 ∧ g 64 = nI a := h.1
theorem RowG.abv {g : Nat → Int32} (h : RowG g) : g 72 = 0 ∨ g 72 = 1 := h.2
theorem RowB.val {n : Nat} {f g : Nat → Int32} (h : RowB n f g) (hg : RowG g) {p1 p2 : Int64} : F_X5_valueOf p1 p2 f = F_X8_valueOf p1 p2 g := by
  obtain ⟨a, ha, e⟩ := hg.law
  exact val_both ha ((h.sc (0, 64) (by decide)).trans e) e
theorem alw_both {n : Nat} {f g : Nat → Int32} (h : RowB n f g) (hg : RowG g) {p1 p2 : Int32} : F_X5_allows p1.toInt64 p2.toInt64 f = F_X8_isAllowed p1 p2 g := by
  unfold F_X5_allows F_X8_isAllowed
  rw [h.val hg, show f 1 = g 65 from h.sc (1, 65) (by decide)]
/-- quiet by a drift: both alike -/
theorem q_both {n K : Nat} {f g : Nat → Int32} (hK : 200000 ≤ K) (h : RowR n f g) (hg : RowG g) {p1 p2 : Int32} : F_X5_isQuietDrift p1 p2 f = F_X8_isQuietBy K p1 p2 g (nI n) := by
  have n8 := h.n8
  have e16 : F_X8_sum K (16 : Int32) g (nI n) = some (f 4) := by rw [h.sx]; exact bm_sum hK n8 (b := 16) (by decide)
  have e24 : F_X8_sum K (24 : Int32) g (nI n) = some (f 5) := by rw [h.sy]; exact bm_sum hK n8 (b := 24) (by decide)
  unfold F_X5_isQuietDrift F_X5_isAbove F_X8_isQuietBy F_X8_pointX F_X8_pointY
  rw [show f 6 = g 72 from h.sc (6, 72) (by decide)]
  rcases hg.abv with e | e
  · rw [e, if_pos rfl, xb1, if_pos rfl, if_neg (show ¬ (0 : Int32) = 1 by decide), e16, xb1, xb1, e24, xb1, xb1, bd1_id, h.sz, ← alw_both h.toRowB hg]
    rfl
  · rw [e, if_neg (show ¬ (1 : Int32) = 0 by decide), xb1, if_neg (show ¬ (1 : Int32) = 0 by decide), if_pos rfl]
