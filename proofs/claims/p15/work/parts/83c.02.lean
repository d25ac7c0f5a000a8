-- 83c.02
section
/-! Stage B, 2: two loops in step; the two rows say the same -/
theorem lp_twoA {σ τ ρ υ : Type} {b : σ → Option (σ ⊕ ρ)} {d : τ → Option (τ ⊕ υ)} (R : Nat → σ → τ → Prop) (Q : ρ → υ → Prop) {n : Nat} (hs : ∀ i s t, i < n → R i s t → (∃ s' t', b s = some (.inl s') ∧ d t = some (.inl t') ∧ R (i + 1) s' t') ∨ (∃ r u, b s = some (.inr r) ∧ d t = some (.inr u) ∧ Q r u)) (he : ∀ s t, R n s t → ∃ r u, b s = some (.inr r) ∧ d t = some (.inr u) ∧ Q r u) : ∀ (k i : Nat) (s : σ) (t : τ) (K K' : Nat), i + k = n → k < K → k < K' → R i s t → ∃ r u, lpF b K s = some r ∧ lpF d K' t = some u ∧ Q r u := by
  intro k
  induction k with
  | zero =>
    intro i s t K K' h1 h2 h3 h4
    obtain ⟨K2, rfl⟩ : ∃ K2, K = K2 + 1 := ⟨K - 1, by omega⟩
    obtain ⟨K3, rfl⟩ : ∃ K3, K' = K3 + 1 := ⟨K' - 1, by omega⟩
    have e : i = n := by omega
    rw [e] at h4
    obtain ⟨r, u, e1, e2, q⟩ := he s t h4
    exact ⟨r, u, lp_end e1, lp_end e2, q⟩
  | succ k ih =>
    intro i s t K K' h1 h2 h3 h4
    obtain ⟨K2, rfl⟩ : ∃ K2, K = K2 + 1 := ⟨K - 1, by omega⟩
    obtain ⟨K3, rfl⟩ : ∃ K3, K' = K3 + 1 := ⟨K' - 1, by omega⟩
    rcases hs i s t (by omega) h4 with ⟨s', t', e1, e2, q⟩ | ⟨r, u, e1, e2, q⟩
    · rw [lp_one e1, lp_one e2]
      exact ih (i + 1) s' t' K2 K3 (by omega) (by omega) (by omega) q
    · exact ⟨r, u, lp_end e1, lp_end e2, q⟩
/-- two loops in step -/
theorem lp_two {σ τ ρ υ : Type} {b : σ → Option (σ ⊕ ρ)} {d : τ → Option (τ ⊕ υ)} (R : Nat → σ → τ → Prop) (Q : ρ → υ → Prop) {n K K' : Nat} (hK : n < K) (hK' : n < K') (hs : ∀ i s t, i < n → R i s t → (∃ s' t', b s = some (.inl s') ∧ d t = some (.inl t') ∧ R (i + 1) s' t') ∨ (∃ r u, b s = some (.inr r) ∧ d t = some (.inr u) ∧ Q r u)) (he : ∀ s t, R n s t → ∃ r u, b s = some (.inr r) ∧ d t = some (.inr u) ∧ Q r u) {s : σ} {t : τ} (h0 : R 0 s t) : ∃ r u, lpF b K s = some r ∧ lpF d K' t = some u ∧ Q r u := lp_twoA R Q hs he n 0 s t K K' (by omega) hK hK' h0
theorem bd1_id {α : Type} {x : Option α} : bd1 x (fun r => some r) = x := by cases x <;> rfl
theorem bx_of {i c : Nat} {C : Int32} {f : Nat → Int32} (e : C = nI c) (hi : i < 8) (hc : c < 8) : F_X5_of (nI i) C f = some (f (17 + 8 * i + c)) := by rw [e]; exact b_of hi hc
theorem bx_put {i c : Nat} {C v : Int32} {f : Nat → Int32} (e : C = nI c) (hi : i < 8) (hc : c < 8) : F_X5_put (nI i) C v f = some (upd f (17 + 8 * i + c) v) := by rw [e]; exact b_put hi hc
theorem bm_ix {α : Type} {a i : Nat} {A : Int32} {G : Option α} (e : A = nI a) (h : a + i < 265) : ixF (A + nI i) 265 G = G := by rw [e, nI_add]; exact xixn h (by decide)
theorem bm_cl {a i : Nat} {A : Int32} (e : A = nI a) (h : a + i < 265) : (A + nI i).toNatClampNeg = a + i := by rw [e, nI_add]; exact nI_clamp (by omega)
/-- the frozen ones as bits -/
def row_frz (g : Nat → Int32) : Nat → Int32
  | 0 => 0
  | k + 1 => row_frz g k ||| (if g (76 + k) = 1 then (1 : Int32) <<< (nI k &&& 31) else 0)
theorem row_frz_eq {g g' : Nat → Int32} : ∀ n, (∀ i, i < n → g (76 + i) = g' (76 + i)) → row_frz g n = row_frz g' n := by
  intro n
  induction n with
  | zero => exact fun _ => rfl
  | succ k ih =>
    intro h
    show row_frz g k ||| (if g (76 + k) = 1 then (1 : Int32) <<< (nI k &&& 31) else 0) = row_frz g' k ||| (if g' (76 + k) = 1 then (1 : Int32) <<< (nI k &&& 31) else 0)
    rw [ih (fun i hi => h i (by omega)), h k (by omega)]
/-- scalars: place in the class's row, place in the reference's -/
def rowScl : List (Nat × Nat) := [(0, 64), (1, 65), (2, 66), (6, 72), (8, 73), (9, 75), (10, 74), (12, 68), (13, 69), (14, 70), (15, 71)]
theorem rowScl_b : ∀ p ∈ rowScl, p.1 < 17 ∧ ¬ p.1 = 3 ∧ ¬ p.1 = 4 ∧ ¬ p.1 = 5 ∧ ¬ p.1 = 7 ∧ 64 ≤ p.2 ∧ p.2 < 76 := by decide
theorem rowScl_u : ∀ p ∈ rowScl, ∀ q ∈ rowScl, (p.1 = q.1 ↔ p.2 = q.2) := by decide
/-- the rows say the same of n sites (but for the sums) -/
abbrev RowB (n : Nat) (f g : Nat → Int32) : Prop := n ≤ 8 ∧ f 3 = nI n ∧ (∀ i c, i < n → c < 8 → f (17 + 8 * i + c) = g (8 * c + i)) ∧ (∀ p ∈ rowScl, f p.1 = g p.2) ∧ f 7 = row_frz g n
theorem RowB.n8 {n : Nat} {f g : Nat → Int32} (h : RowB n f g) : n ≤ 8 := h.1
theorem RowB.sz {n : Nat} {f g : Nat → Int32} (h : RowB n f g) : f 3 = nI n := h.2.1
theorem RowB.st {n : Nat} {f g : Nat → Int32} (h : RowB n f g) : ∀ i c, i < n → c < 8 → f (17 + 8 * i + c) = g (8 * c + i) := h.2.2.1
theorem RowB.sc {n : Nat} {f g : Nat → Int32} (h : RowB n f g) : ∀ p ∈ rowScl, f p.1 = g p.2 := h.2.2.2.1
theorem RowB.fr {n : Nat} {f g : Nat → Int32} (h : RowB n f g) : f 7 = row_frz g n := h.2.2.2.2
theorem RowB.put {n i c : Nat} {f g : Nat → Int32} (h : RowB n f g) (hi : i < n) (hc : c < 8) (v : Int32) : RowB n (upd f (17 + 8 * i + c) v) (upd g (8 * c + i) v) := by
  have n8 := h.n8
  refine ⟨h.n8, ?_, ?_, ?_, ?_⟩
  · rw [upd_ne (by omega)]; exact h.sz
  · intro j d hj hd
    by_cases e : j = i ∧ d = c
    · obtain ⟨e1, e2⟩ := e
      rw [e1, e2, upd_at, upd_at]
    · rw [upd_ne (by omega), upd_ne (by omega)]; exact h.st j d hj hd
  · intro p hp
    obtain ⟨b1, b2, b3, b4, b5, b6, b7⟩ := rowScl_b p hp
    rw [upd_ne (by omega), upd_ne (by omega)]; exact h.sc p hp
  · rw [upd_ne (by omega), h.fr]
    exact row_frz_eq n (fun k hk => (upd_ne (by omega)).symm)
theorem RowB.scal {n a b : Nat} {f g : Nat → Int32} (h : RowB n f g) (hp : (a, b) ∈ rowScl) (v : Int32) : RowB n (upd f a v) (upd g b v) := by
  have n8 := h.n8
  obtain ⟨c1, c2, c3, c4, c5, c6, c7⟩ := rowScl_b _ hp
  refine ⟨h.n8, ?_, ?_, ?_, ?_⟩
  · rw [upd_ne (fun z => c2 z.symm)]; exact h.sz
  · intro j d hj hd
    rw [upd_ne (show ¬ 17 + 8 * j + d = a by have : a < 17 := c1; omega), upd_ne (show ¬ 8 * d + j = b by have : 64 ≤ b := c6; omega)]
    exact h.st j d hj hd
  · intro p hq
    have u := rowScl_u p hq (a, b) hp
    by_cases e : p.1 = a
    · have e2 : p.2 = b := u.mp e
      rw [e, e2, upd_at, upd_at]
    · have e2 : ¬ p.2 = b := fun z => e (u.mpr z)
      rw [upd_ne e, upd_ne e2]; exact h.sc p hq
  · rw [upd_ne (fun z => c5 z.symm), h.fr]
    exact row_frz_eq n (fun k hk => (upd_ne (show ¬ 76 + k = b by have : b < 76 := c7; omega)).symm)
theorem RowB.sums {n a : Nat} {f g : Nat → Int32} (h : RowB n f g) (ha : a = 4 ∨ a = 5 ∨ a = 16) (v : Int32) : RowB n (upd f a v) g := by
  refine ⟨h.n8, ?_, ?_, ?_, ?_⟩
  · rw [upd_ne (by omega)]; exact h.sz
  · intro j d hj hd
    rw [upd_ne (by omega)]; exact h.st j d hj hd
  · intro p hp
    obtain ⟨b1, b2, b3, b4, b5, b6, b7⟩ := rowScl_b p hp
    have : ¬ p.1 = 16 := by
      revert p
      decide
    rw [upd_ne (by omega)]; exact h.sc p hp
  · rw [upd_ne (by omega)]; exact h.fr
/-- the rows say the same -/
abbrev RowR (n : Nat) (f g : Nat → Int32) : Prop := RowB n f g ∧ f 4 = sgm (fun i => g (16 + i)) n ∧ f 5 = sgm (fun i => g (24 + i)) n
theorem RowR.toRowB {n : Nat} {f g : Nat → Int32} (h : RowR n f g) : RowB n f g := h.1
theorem RowR.sx {n : Nat} {f g : Nat → Int32} (h : RowR n f g) : f 4 = sgm (fun i => g (16 + i)) n := h.2.1
theorem RowR.sy {n : Nat} {f g : Nat → Int32} (h : RowR n f g) : f 5 = sgm (fun i => g (24 + i)) n := h.2.2
theorem RowR.n8 {n : Nat} {f g : Nat → Int32} (h : RowR n f g) : n ≤ 8 := h.1.1
theorem RowR.sz {n : Nat} {f g : Nat → Int32} (h : RowR n f g) : f 3 = nI n := h.1.2.1
theorem RowR.sc {n : Nat} {f g : Nat → Int32} (h : RowR n f g) : ∀ p ∈ rowScl, f p.1 = g p.2 := h.1.2.2.2.1
theorem val_both {f g : Nat → Int32} {p1 p2 : Int64} {a : Nat} (ha : a < 4) (h1 : f 0 = nI a) (h2 : g 64 = nI a) : F_X5_valueOf p1 p2 f = F_X8_valueOf p1 p2 g := by
  have h : ∀ x k0, J_X5_valueOf_26 p1 p2 f k0 x = J_X8_valueOf_26 p1 p2 g k0 x := fun x k0 => by
    unfold J_X5_valueOf_26 J_X8_valueOf_26
    rw [h1, h2]
    rcases (show a = 0 ∨ a = 1 ∨ a = 2 ∨ a = 3 by omega) with rfl | rfl | rfl | rfl
    · rw [if_neg (show ¬ nI 0 = (1 : Int32) by decide), if_neg (show ¬ nI 0 = (2 : Int32) by decide), if_neg (show ¬ nI 0 = (3 : Int32) by decide), if_pos (show nI 0 = (0 : Int32) by decide)]
    · rw [if_pos (show nI 1 = (1 : Int32) by decide), if_neg (show ¬ nI 1 = (0 : Int32) by decide), if_pos (show nI 1 = (1 : Int32) by decide)]
    · rw [if_neg (show ¬ nI 2 = (1 : Int32) by decide), if_pos (show nI 2 = (2 : Int32) by decide), if_neg (show ¬ nI 2 = (0 : Int32) by decide), if_neg (show ¬ nI 2 = (1 : Int32) by decide), if_pos (show nI 2 = (2 : Int32) by decide)]
    · rw [if_neg (show ¬ nI 3 = (1 : Int32) by decide), if_neg (show ¬ nI 3 = (2 : Int32) by decide), if_pos (show nI 3 = (3 : Int32) by decide), if_neg (show ¬ nI 3 = (0 : Int32) by decide), if_neg (show ¬ nI 3 = (1 : Int32) by decide), if_neg (show ¬ nI 3 = (2 : Int32) by decide)]
  unfold F_X5_valueOf F_X8_valueOf J_X5_valueOf_12 J_X8_valueOf_12
  simp only [h]
/-- what the rows' cells may hold -/
abbrev RowG (g : Nat → Int32) : Prop := (∃ a, a < 4 ∧ g 64 = nI a) ∧ (g 72 = 0 ∨ g 72 = 1)
theorem RowG.law {g : Nat → Int32} (h : RowG g) : ∃ a, a < 4 ∧ g 64 = nI a := h.1
theorem RowG.abv {g : Nat → Int32} (h : RowG g) : g 72 = 0 ∨ g 72 = 1 := h.2
theorem RowB.val {n : Nat} {f g : Nat → Int32} (h : RowB n f g) (hg : RowG g) {p1 p2 : Int64} : F_X5_valueOf p1 p2 f = F_X8_valueOf p1 p2 g := by
  obtain ⟨a, ha, e⟩ := hg.law
  exact val_both ha ((h.sc (0, 64) (by decide)).trans e) e
theorem alw_both {n : Nat} {f g : Nat → Int32} (h : RowB n f g) (hg : RowG g) {p1 p2 : Int32} : F_X5_allows p1.toInt64 p2.toInt64 f = F_X8_isAllowed p1 p2 g := by
  unfold F_X5_allows F_X8_isAllowed
  rw [h.val hg, show f 1 = g 65 from h.sc (1, 65) (by decide)]
/-- quiet by a drift: both alike -/
theorem q_both {n K : Nat} {f g : Nat → Int32} (hK : 200000 ≤ K) (h : RowR n f g) (hg : RowG g) {p1 p2 : Int32} : F_X5_isQuietDrift p1 p2 f = F_X8_isQuietBy K p1 p2 g (nI n) := by
  have n8 := h.n8
  have e16 : F_X8_sum K (16 : Int32) g (nI n) = some (f 4) := by rw [h.sx]; exact bm_sum hK n8 (b := 16) (by decide)
  have e24 : F_X8_sum K (24 : Int32) g (nI n) = some (f 5) := by rw [h.sy]; exact bm_sum hK n8 (b := 24) (by decide)
  unfold F_X5_isQuietDrift F_X5_isAbove F_X8_isQuietBy F_X8_pointX F_X8_pointY
  rw [show f 6 = g 72 from h.sc (6, 72) (by decide)]
  rcases hg.abv with e | e
  · rw [e, if_pos rfl, xb1, if_pos rfl, if_neg (show ¬ (0 : Int32) = 1 by decide), e16, xb1, xb1, e24, xb1, xb1, bd1_id, h.sz, ← alw_both h.toRowB hg]
    rfl
  · rw [e, if_neg (show ¬ (1 : Int32) = 0 by decide), xb1, if_neg (show ¬ (1 : Int32) = 0 by decide), if_pos rfl]
end
-- 83c.03
section
/-! Stage B, 3: all are heard, in both -/
theorem row_self {f : Nat → Int32} {i : Nat} : upd f i (f i) = f := by
  funext j
  by_cases e : j = i
  · rw [e, upd_at]
  · rw [upd_ne e]
theorem RowR.scal {n a b : Nat} {f g : Nat → Int32} (h : RowR n f g) (hp : (a, b) ∈ rowScl) (v : Int32) : RowR n (upd f a v) (upd g b v) := by
  have n8 := h.n8
  obtain ⟨c1, c2, c3, c4, c5, c6, c7⟩ := rowScl_b _ hp
  have c6 : 64 ≤ b := c6
  refine ⟨h.toRowB.scal hp v, ?_, ?_⟩
  · rw [upd_ne (fun z => c3 z.symm), h.sx]
    exact sgm_eq n (fun k hk => (upd_ne (show ¬ 16 + k = b by omega)).symm)
  · rw [upd_ne (fun z => c4 z.symm), h.sy]
    exact sgm_eq n (fun k hk => (upd_ne (show ¬ 24 + k = b by omega)).symm)
/-- a site is heard: the class's row -/
def hrW (i : Nat) (f : Nat → Int32) : Nat → Int32 := upd (upd (upd (upd f (17 + 8 * i + 2) (f (17 + 8 * i + 0))) (17 + 8 * i + 3) (upd f (17 + 8 * i + 2) (f (17 + 8 * i + 0)) (17 + 8 * i + 1))) (17 + 8 * i + 4) 0) (17 + 8 * i + 5) 0
def hrC (i : Nat) (f : Nat → Int32) : Nat → Int32 := upd (upd (hrW i f) 4 (hrW i f 4 + hrW i f (17 + 8 * i + 0))) 5 (upd (hrW i f) 4 (hrW i f 4 + hrW i f (17 + 8 * i + 0)) 5 + upd (hrW i f) 4 (hrW i f 4 + hrW i f (17 + 8 * i + 0)) (17 + 8 * i + 1))
/-- a site is heard: the reference's row -/
def hrM (i : Nat) (g : Nat → Int32) : Nat → Int32 := upd (upd (upd (upd g (16 + i) (g (0 + i))) (24 + i) (upd g (16 + i) (g (0 + i)) (8 + i))) (32 + i) 0) (40 + i) 0
theorem b_hear {i n : Nat} {f : Nat → Int32} (hi : i < n) (hn : n ≤ 8) (h3 : f 3 = nI n) : B_X5_hearPlaces_16 (nI i) f = some (.inl (nI (i + 1), hrC i f)) := by
  unfold B_X5_hearPlaces_16 F_X5_sites
  rw [xb1, h3, if_neg (mt (nI_leI (a := n) (b := i) (by omega) (by omega)).mp (by omega)), bx_of (c := 0) (by rfl) (by omega) (by decide), xb1, bx_put (c := 2) (by rfl) (by omega) (by decide), xb1, bx_of (c := 1) (by rfl) (by omega) (by decide), xb1, bx_put (c := 3) (by rfl) (by omega) (by decide), xb1, bx_put (c := 4) (by rfl) (by omega) (by decide), xb1, bx_put (c := 5) (by rfl) (by omega) (by decide), xb1, bx_of (c := 0) (by rfl) (by omega) (by decide), xb1, xnm, bx_of (c := 1) (by rfl) (by omega) (by decide), xb1, xnm, nI_1]
  rfl
theorem m_hear {i n : Nat} {g : Nat → Int32} (hi : i < n) (hn : n ≤ 8) : B_X8_hearsAll_2 (nI n) (nI i) g = some (.inl (nI (i + 1), hrM i g)) := by
  unfold B_X8_hearsAll_2
  rw [if_neg (mt (nI_leI (a := n) (b := i) (by omega) (by omega)).mp (by omega))]
  simp only [bm_ix (A := (0 : Int32)) (a := 0) rfl (show 0 + i < 265 by omega), bm_ix (A := (8 : Int32)) (a := 8) rfl (show 8 + i < 265 by omega), bm_ix (A := (16 : Int32)) (a := 16) rfl (show 16 + i < 265 by omega), bm_ix (A := (24 : Int32)) (a := 24) rfl (show 24 + i < 265 by omega), bm_ix (A := (32 : Int32)) (a := 32) rfl (show 32 + i < 265 by omega), bm_ix (A := (40 : Int32)) (a := 40) rfl (show 40 + i < 265 by omega), bm_cl (A := (0 : Int32)) (a := 0) rfl (show 0 + i < 265 by omega), bm_cl (A := (8 : Int32)) (a := 8) rfl (show 8 + i < 265 by omega), bm_cl (A := (16 : Int32)) (a := 16) rfl (show 16 + i < 265 by omega), bm_cl (A := (24 : Int32)) (a := 24) rfl (show 24 + i < 265 by omega), bm_cl (A := (32 : Int32)) (a := 32) rfl (show 32 + i < 265 by omega), bm_cl (A := (40 : Int32)) (a := 40) rfl (show 40 + i < 265 by omega), xnm, nI_1]
  rfl
theorem hr_RB {n i : Nat} {f g : Nat → Int32} (h : RowB n f g) (hi : i < n) : RowB n (hrC i f) (hrM i g) := by
  have r1 := h.put (c := 2) hi (by decide) (f (17 + 8 * i + 0))
  have r2 := r1.put (c := 3) hi (by decide) (upd f (17 + 8 * i + 2) (f (17 + 8 * i + 0)) (17 + 8 * i + 1))
  have r3 := r2.put (c := 4) hi (by decide) 0
  have r4 := r3.put (c := 5) hi (by decide) 0
  have e1 : upd f (17 + 8 * i + 2) (f (17 + 8 * i + 0)) (17 + 8 * i + 1) = upd g (16 + i) (f (17 + 8 * i + 0)) (8 + i) := r1.st i 1 hi (by decide)
  have e0 : f (17 + 8 * i + 0) = g (0 + i) := h.st i 0 hi (by decide)
  have eM : hrM i g = upd (upd (upd (upd g (8 * 2 + i) (f (17 + 8 * i + 0))) (8 * 3 + i) (upd f (17 + 8 * i + 2) (f (17 + 8 * i + 0)) (17 + 8 * i + 1))) (8 * 4 + i) 0) (8 * 5 + i) 0 := by
    rw [e1, e0]
    rfl
  rw [eM]
  exact (r4.sums (Or.inl rfl) _).sums (Or.inr (Or.inl rfl)) _
def HrR (n : Nat) (g : Nat → Int32) (i : Nat) (s t : Int32 × (Nat → Int32)) : Prop := s.1 = nI i ∧ t.1 = nI i ∧ RowB n s.2 t.2 ∧ s.2 4 = sgm (fun k => t.2 (16 + k)) i ∧ s.2 5 = sgm (fun k => t.2 (24 + k)) i ∧ ∀ k, (k < 16 ∨ 48 ≤ k) → t.2 k = g k
theorem HrR.step {n i : Nat} {g : Nat → Int32} {s t : Int32 × (Nat → Int32)} (hi : i < n) (h : HrR n g i s t) : ∃ s' t', B_X5_hearPlaces_16 s.1 s.2 = some (.inl s') ∧ B_X8_hearsAll_2 (nI n) t.1 t.2 = some (.inl t') ∧ HrR n g (i + 1) s' t' := by
  obtain ⟨x, f⟩ := s
  obtain ⟨y, g1⟩ := t
  obtain ⟨e1, e2, hB, h4, h5, hg⟩ := h
  have e1 : x = nI i := e1
  have e2 : y = nI i := e2
  have hB : RowB n f g1 := hB
  have h4 : f 4 = sgm (fun k => g1 (16 + k)) i := h4
  have h5 : f 5 = sgm (fun k => g1 (24 + k)) i := h5
  subst e1 e2
  have n8 := hB.n8
  have e0 : f (17 + 8 * i + 0) = g1 (0 + i) := hB.st i 0 hi (by decide)
  have e8 : f (17 + 8 * i + 1) = g1 (8 + i) := hB.st i 1 hi (by decide)
  refine ⟨(nI (i + 1), hrC i f), (nI (i + 1), hrM i g1), b_hear hi n8 hB.sz, m_hear hi n8, rfl, rfl, hr_RB hB hi, ?_, ?_, ?_⟩
  · show hrC i f 4 = sgm (fun k => hrM i g1 (16 + k)) i + hrM i g1 (16 + i)
    have a1 : hrC i f 4 = f 4 + f (17 + 8 * i + 0) := by
      unfold hrC
      rw [upd_ne (by omega), upd_at]
      unfold hrW
      repeat rw [upd_ne (by omega)]
    have a2 : hrM i g1 (16 + i) = g1 (0 + i) := by
      unfold hrM
      rw [upd_ne (by omega), upd_ne (by omega), upd_ne (by omega), upd_at]
    have a3 : sgm (fun k => hrM i g1 (16 + k)) i = sgm (fun k => g1 (16 + k)) i := sgm_eq i (fun k hk => by
      show hrM i g1 (16 + k) = g1 (16 + k)
      unfold hrM
      repeat rw [upd_ne (by omega)])
    rw [a1, a2, a3, ← h4, e0]
  · show hrC i f 5 = sgm (fun k => hrM i g1 (24 + k)) i + hrM i g1 (24 + i)
    have a1 : hrC i f 5 = f 5 + f (17 + 8 * i + 1) := by
      unfold hrC
      rw [upd_at, upd_ne (by omega), upd_ne (by omega)]
      unfold hrW
      repeat rw [upd_ne (by omega)]
    have a2 : hrM i g1 (24 + i) = g1 (8 + i) := by
      unfold hrM
      rw [upd_ne (by omega), upd_ne (by omega), upd_at, upd_ne (by omega)]
    have a3 : sgm (fun k => hrM i g1 (24 + k)) i = sgm (fun k => g1 (24 + k)) i := sgm_eq i (fun k hk => by
      show hrM i g1 (24 + k) = g1 (24 + k)
      unfold hrM
      repeat rw [upd_ne (by omega)])
    rw [a1, a2, a3, ← h5, e8]
  · intro k hk
    show hrM i g1 k = g k
    unfold hrM
    rw [upd_ne (by omega), upd_ne (by omega), upd_ne (by omega), upd_ne (by omega)]
    exact hg k hk
theorem hp_both {n K : Nat} {f g : Nat → Int32} (hK : 200000 ≤ K) (h : RowB n f g) : ∃ f' g', F_X5_hearPlaces K f = some f' ∧ lpF (fun u9 : Int32 × (Nat → Int32) => B_X8_hearsAll_2 (nI n) u9.1 u9.2) K ((0 : Int32), g) = some g' ∧ RowR n f' g' ∧ ∀ k, (k < 16 ∨ 48 ≤ k) → g' k = g k := by
  have n8 := h.n8
  have he : ∀ s t, HrR n g n s t → ∃ r u, (fun u9 : Int32 × (Nat → Int32) => B_X5_hearPlaces_16 u9.1 u9.2) s = some (.inr r) ∧ (fun u9 : Int32 × (Nat → Int32) => B_X8_hearsAll_2 (nI n) u9.1 u9.2) t = some (.inr u) ∧ (RowR n r u ∧ ∀ k, (k < 16 ∨ 48 ≤ k) → u k = g k) := by
    intro s t q
    obtain ⟨x, f1⟩ := s
    obtain ⟨y, g1⟩ := t
    obtain ⟨e1, e2, hB, h4, h5, hg⟩ := q
    have e1 : x = nI n := e1
    have e2 : y = nI n := e2
    have hB : RowB n f1 g1 := hB
    subst e1 e2
    have le : nI n ≤ nI n := (nI_leI (a := n) (b := n) (by omega) (by omega)).mpr (Nat.le_refl _)
    refine ⟨f1, g1, ?_, ?_, ⟨hB, h4, h5⟩, hg⟩
    · show B_X5_hearPlaces_16 (nI n) f1 = _
      unfold B_X5_hearPlaces_16 F_X5_sites
      rw [xb1, show f1 3 = nI n from hB.sz, if_pos le]
    · show B_X8_hearsAll_2 (nI n) (nI n) g1 = _
      unfold B_X8_hearsAll_2
      rw [if_pos le]
  have h0 : HrR n g 0 ((0 : Int32), upd (upd f 4 0) 5 0) ((0 : Int32), g) := ⟨rfl, rfl, (h.sums (Or.inl rfl) 0).sums (Or.inr (Or.inl rfl)) 0, by show upd (upd f 4 0) 5 0 4 = 0; rw [upd_ne (by decide), upd_at], by show upd (upd f 4 0) 5 0 5 = 0; rw [upd_at], fun _ _ => rfl⟩
  obtain ⟨r, u, e1, e2, q1, q2⟩ := lp_two (HrR n g) (fun r u => RowR n r u ∧ ∀ k, (k < 16 ∨ 48 ≤ k) → u k = g k) (n := n) (K := K) (K' := K) (by omega) (by omega) (fun i s t hi q => Or.inl (HrR.step hi q)) he h0
  refine ⟨r, u, ?_, e2, q1, q2⟩
  unfold F_X5_hearPlaces
  rw [xnm, xnm, e1, xb1]
/-- all are heard -/
theorem ha_both {n K : Nat} {f g : Nat → Int32} (hK : 200000 ≤ K) (h : RowB n f g) (hl : ∃ a, a < 4 ∧ g 64 = nI a) : ∃ f' g', F_X5_hearAll K f = some f' ∧ F_X8_hearsAll K g (nI n) = some g' ∧ RowR n f' g' ∧ RowG g' ∧ ∀ k, (k < 16 ∨ 48 ≤ k) → ¬ k = 70 → ¬ k = 71 → ¬ k = 72 → g' k = g k := by
  have n8 := h.n8
  obtain ⟨f1, g1, e1, e2, hR, hg1⟩ := hp_both hK h
  have q14 : f1 14 = g1 70 := hR.sc (14, 70) (by decide)
  have R2 : RowR n (upd f1 14 (f1 14 + 1)) (upd g1 70 (g1 70 + 1)) := by
    rw [← q14]
    exact hR.scal (by decide) _
  have hl2 : ∃ a, a < 4 ∧ (upd g1 70 (g1 70 + 1)) 64 = nI a := by
    rw [upd_ne (by decide), hg1 64 (by omega)]
    exact hl
  have fr : ∀ k, (k < 16 ∨ 48 ≤ k) → ¬ k = 70 → upd g1 70 (g1 70 + 1) k = g k := fun k hk h7 => by
    rw [upd_ne h7]
    exact hg1 k hk
  unfold F_X5_hearAll F_X8_hearsAll
  rw [e1, xb1, xnm, e2, xb1, xnm]
  generalize upd f1 14 (f1 14 + 1) = f2 at R2 ⊢
  generalize upd g1 70 (g1 70 + 1) = g2 at R2 hl2 fr ⊢
  have e16 : F_X8_sum K (16 : Int32) g2 (nI n) = some (f2 4) := by rw [R2.sx]; exact bm_sum hK n8 (b := 16) (by decide)
  have e24 : F_X8_sum K (24 : Int32) g2 (nI n) = some (f2 5) := by rw [R2.sy]; exact bm_sum hK n8 (b := 24) (by decide)
  have ea : F_X5_allows (f2 4).toInt64 (f2 5).toInt64 f2 = F_X8_isAllowed (f2 4) (f2 5) g2 := by
    obtain ⟨a, ha, e⟩ := hl2
    unfold F_X5_allows F_X8_isAllowed
    rw [val_both ha ((R2.sc (0, 64) (by decide)).trans e) e, show f2 1 = g2 65 from R2.sc (1, 65) (by decide)]
  obtain ⟨v, ev, -⟩ := u_isAllowed (p1 := f2 4) (p2 := f2 5) (g := g2)
  rw [e16, xb1, e24, xb1, ea, ev, xb1, xb1]
  have q15 : f2 15 = g2 71 := R2.sc (15, 71) (by decide)
  have q6 : f2 6 = g2 72 := R2.sc (6, 72) (by decide)
  have fin : ∀ k0 : Int32, (k0 = 0 ∨ k0 = 1) → ∃ f' g', J_X5_hearAll_41 k0 f2 = some f' ∧ J_X8_hearsAll_106 k0 g2 = some g' ∧ RowR n f' g' ∧ RowG g' ∧ ∀ k, (k < 16 ∨ 48 ≤ k) → ¬ k = 70 → ¬ k = 71 → ¬ k = 72 → g' k = g k := by
    intro k0 hk0
    unfold J_X5_hearAll_41 J_X8_hearsAll_106
    rw [q6]
    by_cases c : k0 = g2 72
    · rw [if_pos c, if_pos c, xnm, xnm, xnm, Int32.add_zero, row_self]
      refine ⟨_, _, rfl, rfl, R2.scal (by decide) k0, ⟨?_, ?_⟩, ?_⟩
      · rw [upd_ne (by decide)]
        exact hl2
      · rw [upd_at]
        exact hk0
      · intro k a1 a2 a3 a4
        rw [upd_ne a4]
        exact fr k a1 a2
    · rw [if_neg c, if_neg c, xnm, xnm, xnm, xnm, q15]
      refine ⟨_, _, rfl, rfl, (R2.scal (a := 15) (b := 71) (by decide) (g2 71 + 1)).scal (by decide) k0, ⟨?_, ?_⟩, ?_⟩
      · rw [upd_ne (by decide), upd_ne (by decide)]
        exact hl2
      · rw [upd_at]
        exact hk0
      · intro k a1 a2 a3 a4
        rw [upd_ne a4, upd_ne a3]
        exact fr k a1 a2
  by_cases c : v = 0
  · rw [if_pos c, if_pos c]
    exact fin 1 (Or.inr rfl)
  · rw [if_neg c, if_neg c]
    exact fin 0 (Or.inl rfl)
end
-- 83c.04
section
/-! Stage B, 4: the counts start anew, a round ends, in both -/
abbrev StB (n : Nat) (f g : Nat → Int32) : Prop := ∀ i c, i < n → c < 8 → f (17 + 8 * i + c) = g (8 * c + i)
theorem StB.put {n i c : Nat} {f g : Nat → Int32} (h : StB n f g) (n8 : n ≤ 8) (hi : i < n) (hc : c < 8) (v : Int32) : StB n (upd f (17 + 8 * i + c) v) (upd g (8 * c + i) v) := by
  intro j d hj hd
  by_cases e : j = i ∧ d = c
  · obtain ⟨e1, e2⟩ := e
    rw [e1, e2, upd_at, upd_at]
  · rw [upd_ne (by omega), upd_ne (by omega)]; exact h j d hj hd
theorem StB.low {n a : Nat} {f g : Nat → Int32} (h : StB n f g) (ha : a < 17) (v : Int32) : StB n (upd f a v) g := fun j d hj hd => by
  rw [upd_ne (by omega)]; exact h j d hj hd
theorem StB.high {n b : Nat} {f g : Nat → Int32} (h : StB n f g) (n8 : n ≤ 8) (hb : 64 ≤ b) (v : Int32) : StB n f (upd g b v) := fun j d hj hd => by
  rw [upd_ne (by omega)]; exact h j d hj hd
theorem RowR.of {n : Nat} {f g f' g' : Nat → Int32} (h : RowR n f g) (h1 : StB n f' g') (h2 : f' 3 = f 3) (h3 : ∀ p ∈ rowScl, f' p.1 = g' p.2) (h4 : f' 4 = f 4) (h5 : f' 5 = f 5) (h7 : f' 7 = f 7) (h8 : ∀ i, i < 8 → g' (76 + i) = g (76 + i)) (h9 : ∀ k, 16 ≤ k → k < 32 → g' k = g k) : RowR n f' g' := by
  have n8 := h.n8
  refine ⟨⟨n8, h2.trans h.sz, h1, h3, ?_⟩, ?_, ?_⟩
  · rw [h7, h.toRowB.fr]
    exact row_frz_eq n (fun k hk => (h8 k (by omega)).symm)
  · rw [h4, h.sx]
    exact sgm_eq n (fun k hk => (h9 (16 + k) (by omega) (by omega)).symm)
  · rw [h5, h.sy]
    exact sgm_eq n (fun k hk => (h9 (24 + k) (by omega) (by omega)).symm)
theorem rowScl_11 : ∀ p ∈ rowScl, ¬ p.1 = 11 ∧ ¬ p.2 = 67 := by decide
/-- the messages stand beside that -/
theorem RowR.fr11 {n : Nat} {f g : Nat → Int32} (h : RowR n f g) (v w : Int32) : RowR n (upd f 11 v) (upd g 67 w) := by
  have n8 := h.n8
  refine h.of (fun i c hi hc => ?_) (upd_ne (by decide)) (fun p hp => ?_) (upd_ne (by decide)) (upd_ne (by decide)) (upd_ne (by decide)) (fun i hi => upd_ne (by omega)) (fun k a b => upd_ne (by omega))
  · rw [upd_ne (by omega), upd_ne (by omega)]
    exact h.toRowB.st i c hi hc
  · obtain ⟨a, b⟩ := rowScl_11 p hp
    rw [upd_ne a, upd_ne b]
    exact h.sc p hp
theorem b_goal {i n : Nat} {f : Nat → Int32} (hi : i < n) (hn : n ≤ 8) (h3 : f 3 = nI n) : B_X5_startCounts_33 (nI i) f = some (.inl (nI (i + 1), upd (upd f (17 + 8 * i + 6) 0) (17 + 8 * i + 7) 0)) := by
  unfold B_X5_startCounts_33 F_X5_sites
  rw [xb1, h3, if_neg (mt (nI_leI (a := n) (b := i) (by omega) (by omega)).mp (by omega)), bx_put (c := 6) (by rfl) (by omega) (by decide), xb1, bx_put (c := 7) (by rfl) (by omega) (by decide), xb1, nI_1]
theorem m_goal {i n : Nat} {g : Nat → Int32} (hi : i < n) (hn : n ≤ 8) : B_X8_setsGoal_18 (nI n) (nI i) g = some (.inl (nI (i + 1), upd (upd g (48 + i) 0) (56 + i) 0)) := by
  unfold B_X8_setsGoal_18
  rw [if_neg (mt (nI_leI (a := n) (b := i) (by omega) (by omega)).mp (by omega))]
  simp only [bm_ix (A := (48 : Int32)) (a := 48) rfl (show 48 + i < 265 by omega), bm_ix (A := (56 : Int32)) (a := 56) rfl (show 56 + i < 265 by omega), bm_cl (A := (48 : Int32)) (a := 48) rfl (show 48 + i < 265 by omega), bm_cl (A := (56 : Int32)) (a := 56) rfl (show 56 + i < 265 by omega), xnm, nI_1]
def GoR (n : Nat) (f g : Nat → Int32) (i : Nat) (s t : Int32 × (Nat → Int32)) : Prop := s.1 = nI i ∧ t.1 = nI i ∧ StB n s.2 t.2 ∧ (∀ k, k < 17 → s.2 k = f k) ∧ (∀ k, (k < 48 ∨ 64 ≤ k) → t.2 k = g k) ∧ ∀ j, j < i → t.2 (48 + j) = 0 ∧ t.2 (56 + j) = 0
theorem GoR.step {n i : Nat} {f g : Nat → Int32} {s t : Int32 × (Nat → Int32)} (n8 : n ≤ 8) (h3 : f 3 = nI n) (hi : i < n) (h : GoR n f g i s t) : ∃ s' t', B_X5_startCounts_33 s.1 s.2 = some (.inl s') ∧ B_X8_setsGoal_18 (nI n) t.1 t.2 = some (.inl t') ∧ GoR n f g (i + 1) s' t' := by
  obtain ⟨x, f1⟩ := s
  obtain ⟨y, g1⟩ := t
  obtain ⟨e1, e2, hB, hf, hg, hz⟩ := h
  have e1 : x = nI i := e1
  have e2 : y = nI i := e2
  have hB : StB n f1 g1 := hB
  subst e1 e2
  refine ⟨_, _, b_goal hi n8 ((hf 3 (by decide)).trans h3), m_goal hi n8, rfl, rfl, (hB.put (c := 6) n8 hi (by decide) 0).put (c := 7) n8 hi (by decide) 0, ?_, ?_, ?_⟩
  · intro k hk
    show upd (upd f1 (17 + 8 * i + 6) 0) (17 + 8 * i + 7) 0 k = f k
    rw [upd_ne (by omega), upd_ne (by omega)]
    exact hf k hk
  · intro k hk
    show upd (upd g1 (48 + i) 0) (56 + i) 0 k = g k
    rw [upd_ne (by omega), upd_ne (by omega)]
    exact hg k hk
  · intro j hj
    show upd (upd g1 (48 + i) 0) (56 + i) 0 (48 + j) = 0 ∧ upd (upd g1 (48 + i) 0) (56 + i) 0 (56 + j) = 0
    by_cases c : j = i
    · rw [c, upd_ne (by omega), upd_at, upd_at]
      exact ⟨rfl, rfl⟩
    · rw [upd_ne (by omega), upd_ne (by omega), upd_ne (by omega), upd_ne (by omega)]
      exact hz j (by omega)
/-- a new goal -/
theorem sg_both {n K : Nat} {f g : Nat → Int32} {p : Int32} (hK : 200000 ≤ K) (h : RowR n f g) : ∃ f' g', F_X5_startCounts K p f = some f' ∧ F_X8_setsGoal K p g (nI n) = some (g 66, g') ∧ RowR n f' g' ∧ (∀ k, (k < 48 ∨ 64 ≤ k) → ¬ k = 66 → ¬ k = 73 → ¬ k = 74 → ¬ k = 75 → g' k = g k) ∧ g' 66 = p ∧ g' 73 = 0 ∧ g' 75 = 0 ∧ ∀ j, j < n → g' (48 + j) = 0 ∧ g' (56 + j) = 0 := by
  have n8 := h.n8
  have z3 : (upd (upd (upd (upd f 2 p) 8 0) 9 0) 10 0) 3 = nI n := by
    rw [upd_ne (by decide), upd_ne (by decide), upd_ne (by decide), upd_ne (by decide)]
    exact h.sz
  have he : ∀ s t, GoR n (upd (upd (upd (upd f 2 p) 8 0) 9 0) 10 0) (upd g 66 p) n s t → ∃ r u, (fun u9 : Int32 × (Nat → Int32) => B_X5_startCounts_33 u9.1 u9.2) s = some (.inr r) ∧ (fun u9 : Int32 × (Nat → Int32) => B_X8_setsGoal_18 (nI n) u9.1 u9.2) t = some (.inr u) ∧ GoR n (upd (upd (upd (upd f 2 p) 8 0) 9 0) 10 0) (upd g 66 p) n (nI n, r) (nI n, u) := by
    intro s t q
    obtain ⟨x, f1⟩ := s
    obtain ⟨y, g1⟩ := t
    obtain ⟨e1, e2, hB, hf, hg, hz⟩ := q
    have e1 : x = nI n := e1
    have e2 : y = nI n := e2
    subst e1 e2
    have le : nI n ≤ nI n := (nI_leI (a := n) (b := n) (by omega) (by omega)).mpr (Nat.le_refl _)
    refine ⟨f1, g1, ?_, ?_, rfl, rfl, hB, hf, hg, hz⟩
    · show B_X5_startCounts_33 (nI n) f1 = _
      unfold B_X5_startCounts_33 F_X5_sites
      rw [xb1, show f1 3 = nI n from (hf 3 (by decide)).trans z3, if_pos le]
    · show B_X8_setsGoal_18 (nI n) (nI n) g1 = _
      unfold B_X8_setsGoal_18
      rw [if_pos le]
  have h0 : GoR n (upd (upd (upd (upd f 2 p) 8 0) 9 0) 10 0) (upd g 66 p) 0 ((0 : Int32), upd (upd (upd (upd f 2 p) 8 0) 9 0) 10 0) ((0 : Int32), upd g 66 p) := ⟨rfl, rfl, ((((StB.low h.toRowB.st (by decide) p).low (by decide) 0).low (by decide) 0).low (by decide) 0).high n8 (by decide) p, fun _ _ => rfl, fun _ _ => rfl, fun j hj => absurd hj (Nat.not_lt_zero _)⟩
  obtain ⟨r, u, e1, e2, -, -, hB, hf, hg, hz⟩ := lp_two (GoR n (upd (upd (upd (upd f 2 p) 8 0) 9 0) 10 0) (upd g 66 p)) (fun r u => GoR n (upd (upd (upd (upd f 2 p) 8 0) 9 0) 10 0) (upd g 66 p) n (nI n, r) (nI n, u)) (n := n) (K := K) (K' := K) (by omega) (by omega) (fun i s t hi q => Or.inl (GoR.step n8 z3 hi q)) he h0
  have hB : StB n r u := hB
  have hf : ∀ k, k < 17 → r k = (upd (upd (upd (upd f 2 p) 8 0) 9 0) 10 0) k := hf
  have hg : ∀ k, (k < 48 ∨ 64 ≤ k) → u k = (upd g 66 p) k := hg
  have hz : ∀ j, j < n → u (48 + j) = 0 ∧ u (56 + j) = 0 := hz
  have fx : ∀ k, k < 17 → ¬ k = 2 → ¬ k = 8 → ¬ k = 9 → ¬ k = 10 → r k = f k := fun k hk a1 a2 a3 a4 => by
    rw [hf k hk, upd_ne a4, upd_ne a3, upd_ne a2, upd_ne a1]
  have gx : ∀ k, (k < 48 ∨ 64 ≤ k) → ¬ k = 66 → ¬ k = 73 → ¬ k = 74 → ¬ k = 75 → (upd (upd (upd u 73 0) 74 0) 75 0) k = g k := fun k hk a1 a2 a3 a4 => by
    rw [upd_ne a4, upd_ne a3, upd_ne a2, hg k hk, upd_ne a1]
  have g66 : (upd (upd (upd u 73 0) 74 0) 75 0) 66 = p := by rw [upd_ne (by decide), upd_ne (by decide), upd_ne (by decide), hg 66 (by omega), upd_at]
  have g73 : (upd (upd (upd u 73 0) 74 0) 75 0) 73 = 0 := by rw [upd_ne (by decide), upd_ne (by decide), upd_at]
  have g74 : (upd (upd (upd u 73 0) 74 0) 75 0) 74 = 0 := by rw [upd_ne (by decide), upd_at]
  have g75 : (upd (upd (upd u 73 0) 74 0) 75 0) 75 = 0 := upd_at
  refine ⟨r, upd (upd (upd u 73 0) 74 0) 75 0, ?_, ?_, h.of (((hB.high n8 (by decide) 0).high n8 (by decide) 0).high n8 (by decide) 0) (fx 3 (by decide) (by decide) (by decide) (by decide) (by decide)) ?_ (fx 4 (by decide) (by decide) (by decide) (by decide) (by decide)) (fx 5 (by decide) (by decide) (by decide) (by decide) (by decide)) (fx 7 (by decide) (by decide) (by decide) (by decide) (by decide)) (fun i hi => gx (76 + i) (by omega) (by omega) (by omega) (by omega) (by omega)) (fun k a b => gx k (by omega) (by omega) (by omega) (by omega) (by omega)), gx, g66, g73, g75, ?_⟩
  · unfold F_X5_startCounts
    rw [xnm, xnm, xnm, xnm, e1, xb1]
  · unfold F_X8_setsGoal
    rw [xnm, e2, xb1, xnm, xnm, xnm]
  · intro q hq
    obtain ⟨b1, b2, b3, b4, b5, b6, b7⟩ := rowScl_b q hq
    have u2 := rowScl_u q hq (2, 66) (by decide)
    have u8 := rowScl_u q hq (8, 73) (by decide)
    have u9 := rowScl_u q hq (9, 75) (by decide)
    have u10 := rowScl_u q hq (10, 74) (by decide)
    by_cases c2 : q.1 = 2
    · rw [c2, show q.2 = 66 from u2.mp c2, g66, hf 2 (by decide), upd_ne (by decide), upd_ne (by decide), upd_ne (by decide), upd_at]
    by_cases c8 : q.1 = 8
    · rw [c8, show q.2 = 73 from u8.mp c8, g73, hf 8 (by decide), upd_ne (by decide), upd_ne (by decide), upd_at]
    by_cases c9 : q.1 = 9
    · rw [c9, show q.2 = 75 from u9.mp c9, g75, hf 9 (by decide), upd_ne (by decide), upd_at]
    by_cases c10 : q.1 = 10
    · rw [c10, show q.2 = 74 from u10.mp c10, g74, hf 10 (by decide), upd_at]
    rw [fx q.1 b1 c2 c8 c9 c10, gx q.2 (Or.inr b6) (fun z => c2 (u2.mpr z)) (fun z => c8 (u8.mpr z)) (fun z => c10 (u10.mpr z)) (fun z => c9 (u9.mpr z))]
    exact h.sc q hq
  · intro j hj
    rw [upd_ne (by omega), upd_ne (by omega), upd_ne (by omega), upd_ne (by omega), upd_ne (by omega), upd_ne (by omega)]
    exact hz j hj
end
-- 83c.05
section
/-! Stage B, 5: a round ends, in both; two loops in step whose second may go on a while -/
theorem lp_twoXA {σ τ ρ υ : Type} {b : σ → Option (σ ⊕ ρ)} {d : τ → Option (τ ⊕ υ)} (R : Nat → σ → τ → Prop) (Q : ρ → υ → Prop) {n : Nat} (hs : ∀ i s t, i ≤ n → R i s t → (i < n ∧ ∃ s' t', b s = some (.inl s') ∧ d t = some (.inl t') ∧ R (i + 1) s' t') ∨ (∃ r u, b s = some (.inr r) ∧ (∀ J, 2 ≤ J → lpF d J t = some u) ∧ Q r u)) : ∀ (k i : Nat) (s : σ) (t : τ) (K K' : Nat), i + k = n → k < K → k + 1 < K' → R i s t → ∃ r u, lpF b K s = some r ∧ lpF d K' t = some u ∧ Q r u := by
  intro k
  induction k with
  | zero =>
    intro i s t K K' h1 h2 h3 h4
    obtain ⟨K2, rfl⟩ : ∃ K2, K = K2 + 1 := ⟨K - 1, by omega⟩
    rcases hs i s t (by omega) h4 with ⟨hlt, -⟩ | ⟨r, u, e1, e2, q⟩
    · omega
    · exact ⟨r, u, lp_end e1, e2 K' (by omega), q⟩
  | succ k ih =>
    intro i s t K K' h1 h2 h3 h4
    obtain ⟨K2, rfl⟩ : ∃ K2, K = K2 + 1 := ⟨K - 1, by omega⟩
    rcases hs i s t (by omega) h4 with ⟨-, s', t', e1, e2, q⟩ | ⟨r, u, e1, e2, q⟩
    · obtain ⟨K3, rfl⟩ : ∃ K3, K' = K3 + 1 := ⟨K' - 1, by omega⟩
      rw [lp_one e1, lp_one e2]
      exact ih (i + 1) s' t' K2 K3 (by omega) (by omega) (by omega) q
    · exact ⟨r, u, lp_end e1, e2 K' (by omega), q⟩
theorem bb_end {i n : Nat} {f : Nat → Int32} (hi : i < n) (hn : n ≤ 8) (h3 : f 3 = nI n) : B_X5_endRound_34 (nI i) f = some (.inl (nI (i + 1), upd f (17 + 8 * i + 7) 0)) := by
  unfold B_X5_endRound_34 F_X5_sites
  rw [xb1, h3, if_neg (mt (nI_leI (a := n) (b := i) (by omega) (by omega)).mp (by omega)), bx_put (c := 7) (by rfl) (by omega) (by decide), xb1, nI_1]
theorem bm_end {i n : Nat} {g : Nat → Int32} (hi : i < n) (hn : n ≤ 8) : B_X8_endsRound_15 (nI n) (nI i) g = some (.inl (nI (i + 1), upd g (56 + i) 0)) := by
  unfold B_X8_endsRound_15
  rw [if_neg (mt (nI_leI (a := n) (b := i) (by omega) (by omega)).mp (by omega))]
  simp only [bm_ix (A := (56 : Int32)) (a := 56) rfl (show 56 + i < 265 by omega), bm_cl (A := (56 : Int32)) (a := 56) rfl (show 56 + i < 265 by omega), xnm, nI_1]
def EnR (n : Nat) (f g : Nat → Int32) (i : Nat) (s t : Int32 × (Nat → Int32)) : Prop := s.1 = nI i ∧ t.1 = nI i ∧ StB n s.2 t.2 ∧ (∀ k, k < 17 → s.2 k = f k) ∧ (∀ k, (k < 56 ∨ 64 ≤ k) → t.2 k = g k) ∧ ∀ j, j < i → t.2 (56 + j) = 0
theorem EnR.step {n i : Nat} {f g : Nat → Int32} {s t : Int32 × (Nat → Int32)} (n8 : n ≤ 8) (h3 : f 3 = nI n) (hi : i < n) (h : EnR n f g i s t) : ∃ s' t', B_X5_endRound_34 s.1 s.2 = some (.inl s') ∧ B_X8_endsRound_15 (nI n) t.1 t.2 = some (.inl t') ∧ EnR n f g (i + 1) s' t' := by
  obtain ⟨x, f1⟩ := s
  obtain ⟨y, g1⟩ := t
  obtain ⟨e1, e2, hB, hf, hg, hz⟩ := h
  have e1 : x = nI i := e1
  have e2 : y = nI i := e2
  have hB : StB n f1 g1 := hB
  subst e1 e2
  refine ⟨_, _, bb_end hi n8 ((hf 3 (by decide)).trans h3), bm_end hi n8, rfl, rfl, hB.put (c := 7) n8 hi (by decide) 0, ?_, ?_, ?_⟩
  · intro k hk
    show upd f1 (17 + 8 * i + 7) 0 k = f k
    rw [upd_ne (by omega)]
    exact hf k hk
  · intro k hk
    show upd g1 (56 + i) 0 k = g k
    rw [upd_ne (by omega)]
    exact hg k hk
  · intro j hj
    show upd g1 (56 + i) 0 (56 + j) = 0
    by_cases c : j = i
    · rw [c, upd_at]
    · rw [upd_ne (by omega)]
      exact hz j (by omega)
theorem EnR.both {n K : Nat} {f g : Nat → Int32} (hK : 200000 ≤ K) (n8 : n ≤ 8) (h3 : f 3 = nI n) (h : StB n f g) : ∃ r u, lpF (fun u9 : Int32 × (Nat → Int32) => B_X5_endRound_34 u9.1 u9.2) K ((0 : Int32), f) = some r ∧ lpF (fun u9 : Int32 × (Nat → Int32) => B_X8_endsRound_15 (nI n) u9.1 u9.2) K ((0 : Int32), g) = some u ∧ StB n r u ∧ (∀ k, k < 17 → r k = f k) ∧ (∀ k, (k < 56 ∨ 64 ≤ k) → u k = g k) ∧ ∀ j, j < n → u (56 + j) = 0 := by
  have he : ∀ s t, EnR n f g n s t → ∃ r u, (fun u9 : Int32 × (Nat → Int32) => B_X5_endRound_34 u9.1 u9.2) s = some (.inr r) ∧ (fun u9 : Int32 × (Nat → Int32) => B_X8_endsRound_15 (nI n) u9.1 u9.2) t = some (.inr u) ∧ (StB n r u ∧ (∀ k, k < 17 → r k = f k) ∧ (∀ k, (k < 56 ∨ 64 ≤ k) → u k = g k) ∧ ∀ j, j < n → u (56 + j) = 0) := by
    intro s t q
    obtain ⟨x, f1⟩ := s
    obtain ⟨y, g1⟩ := t
    obtain ⟨e1, e2, hB, hf, hg, hz⟩ := q
    have e1 : x = nI n := e1
    have e2 : y = nI n := e2
    subst e1 e2
    have le : nI n ≤ nI n := (nI_leI (a := n) (b := n) (by omega) (by omega)).mpr (Nat.le_refl _)
    refine ⟨f1, g1, ?_, ?_, hB, hf, hg, hz⟩
    · show B_X5_endRound_34 (nI n) f1 = _
      unfold B_X5_endRound_34 F_X5_sites
      rw [xb1, show f1 3 = nI n from (hf 3 (by decide)).trans h3, if_pos le]
    · show B_X8_endsRound_15 (nI n) (nI n) g1 = _
      unfold B_X8_endsRound_15
      rw [if_pos le]
  have h0 : EnR n f g 0 ((0 : Int32), f) ((0 : Int32), g) := ⟨rfl, rfl, h, fun _ _ => rfl, fun _ _ => rfl, fun j hj => absurd hj (Nat.not_lt_zero _)⟩
  exact lp_two (EnR n f g) (fun r u => StB n r u ∧ (∀ k, k < 17 → r k = f k) ∧ (∀ k, (k < 56 ∨ 64 ≤ k) → u k = g k) ∧ ∀ j, j < n → u (56 + j) = 0) (n := n) (K := K) (K' := K) (by omega) (by omega) (fun i s t hi q => Or.inl (EnR.step n8 h3 hi q)) he h0
/-- a round ends -/
theorem er_both {n K : Nat} {f g : Nat → Int32} (hK : 200000 ≤ K) (h : RowR n f g) : ∃ f' g', F_X5_endRound K f = some f' ∧ F_X8_endsRound K g (nI n) = some g' ∧ RowR n f' g' ∧ (∀ k, (k < 56 ∨ 64 ≤ k) → ¬ k = 73 → ¬ k = 74 → ¬ k = 75 → g' k = g k) ∧ g' 73 = sgm (fun i => g (48 + i)) n ∧ g' 75 = 0 ∧ ∀ j, j < n → g' (56 + j) = 0 := by
  have n8 := h.n8
  have eS : sgm (fun i => f (17 + 8 * i + 6)) n = sgm (fun i => g (48 + i)) n := sgm_eq n (fun i hi => h.toRowB.st i 6 hi (by decide))
  have t6 : F_X5_total K (6 : Int32) f = some (sgm (fun i => g (48 + i)) n) := by rw [← eS]; exact b_total hK n8 h.sz (c := 6) (by decide)
  have t48 : F_X8_sum K (48 : Int32) g (nI n) = some (sgm (fun i => g (48 + i)) n) := bm_sum hK n8 (b := 48) (by decide)
  unfold F_X5_endRound F_X8_endsRound
  rw [t6, xb1, xnm, xnm, xnm, t48, xb1, xnm]
  generalize sgm (fun i => g (48 + i)) n = S
  have q10 : (upd (upd f 8 S) 9 0) 10 = f 10 := by rw [upd_ne (by decide), upd_ne (by decide)]
  rw [q10]
  have z3 : (upd (upd (upd f 8 S) 9 0) 10 (f 10 + 1)) 3 = nI n := by
    rw [upd_ne (by decide), upd_ne (by decide), upd_ne (by decide)]
    exact h.sz
  obtain ⟨r, u, e1, e2, hB, hf, hg, hz⟩ := EnR.both hK n8 z3 ((((StB.low h.toRowB.st (by decide) S).low (by decide) 0).low (by decide) (f 10 + 1)).high n8 (b := 73) (by decide) S)
  have fx : ∀ k, k < 17 → ¬ k = 8 → ¬ k = 9 → ¬ k = 10 → r k = f k := fun k hk a2 a3 a4 => by
    rw [hf k hk, upd_ne a4, upd_ne a3, upd_ne a2]
  have q74 : (upd u 75 0) 74 = g 74 := by rw [upd_ne (by decide), hg 74 (by omega), upd_ne (by decide)]
  rw [e1, xb1, e2, xb1, xnm, xnm, q74]
  have gx : ∀ k, (k < 56 ∨ 64 ≤ k) → ¬ k = 73 → ¬ k = 74 → ¬ k = 75 → (upd (upd u 75 0) 74 (g 74 + 1)) k = g k := fun k hk a2 a3 a4 => by
    rw [upd_ne a3, upd_ne a4, hg k hk, upd_ne a2]
  have g73 : (upd (upd u 75 0) 74 (g 74 + 1)) 73 = S := by rw [upd_ne (by decide), upd_ne (by decide), hg 73 (by omega), upd_at]
  have g74 : (upd (upd u 75 0) 74 (g 74 + 1)) 74 = g 74 + 1 := upd_at
  have g75 : (upd (upd u 75 0) 74 (g 74 + 1)) 75 = 0 := by rw [upd_ne (by decide), upd_at]
  refine ⟨r, _, rfl, rfl, h.of ((hB.high n8 (by decide) 0).high n8 (by decide) (g 74 + 1)) (fx 3 (by decide) (by decide) (by decide) (by decide)) ?_ (fx 4 (by decide) (by decide) (by decide) (by decide)) (fx 5 (by decide) (by decide) (by decide) (by decide)) (fx 7 (by decide) (by decide) (by decide) (by decide)) (fun i hi => gx (76 + i) (by omega) (by omega) (by omega) (by omega)) (fun k a b => gx k (by omega) (by omega) (by omega) (by omega)), gx, g73, g75, ?_⟩
  · intro q hq
    obtain ⟨b1, b2, b3, b4, b5, b6, b7⟩ := rowScl_b q hq
    have u8 := rowScl_u q hq (8, 73) (by decide)
    have u9 := rowScl_u q hq (9, 75) (by decide)
    have u10 := rowScl_u q hq (10, 74) (by decide)
    by_cases c8 : q.1 = 8
    · rw [c8, show q.2 = 73 from u8.mp c8, g73, hf 8 (by decide), upd_ne (by decide), upd_ne (by decide), upd_at]
    by_cases c9 : q.1 = 9
    · rw [c9, show q.2 = 75 from u9.mp c9, g75, hf 9 (by decide), upd_ne (by decide), upd_at]
    by_cases c10 : q.1 = 10
    · rw [c10, show q.2 = 74 from u10.mp c10, g74, hf 10 (by decide), upd_at, show f 10 = g 74 from h.sc (10, 74) (by decide)]
    rw [fx q.1 b1 c8 c9 c10, gx q.2 (Or.inr b6) (fun z => c8 (u8.mpr z)) (fun z => c10 (u10.mpr z)) (fun z => c9 (u9.mpr z))]
    exact h.sc q hq
  · intro j hj
    rw [upd_ne (by omega), upd_ne (by omega)]
    exact hz j hj
end
-- 83c.06
section
/-! Stage B, 6: the step of a round, and who is frozen, in both -/
theorem cs_step {n a b : Nat} {f g : Nat → Int32} (h0 : 0 < n) (h : RowR n f g) (ha : a < 2 ^ 30) (hb : b < 2 ^ 30) (e66 : g 66 = nI a) (e73 : g 73 = nI b) : F_X5_stepFrom (f 8) f = some (nI (st n g)) := by
  have n8 := h.n8
  have f2 : f 2 = nI a := (h.sc (2, 66) (by decide)).trans e66
  have f8 : f 8 = nI b := (h.sc (8, 73) (by decide)).trans e73
  have e2 : (2 : Int32) * nI n = nI (2 * n) := by rw [show (2 : Int32) = nI 2 from rfl, nI_mul]
  have es : (nI a - nI b).toInt = (a : Int) - b := pk_sub_toInt ha hb
  have est : st n g = (a - b) / (2 * n) := by
    unfold st
    rw [e66, e73, es, show ((a : Int) - b).toNat = a - b by omega]
  have enz : ¬ nI (2 * n) = 0 := fun e => by
    have := (nI_eq (a := 2 * n) (b := 0) (by omega) (by omega)).mp e
    omega
  unfold F_X5_stepFrom
  rw [h.sz, f2, f8, e2, if_neg (show ¬ nI (2 * n) ≤ (0 : Int32) from mt (nI_leI (a := 2 * n) (b := 0) (by omega) (by omega)).mp (by omega))]
  by_cases c : b < a
  · have ed : nI (a - b) / nI (2 * n) = nI ((a - b) / (2 * n)) := (Int32.ofNat_div (by omega) (by omega)).symm
    rw [if_pos ((nI_ltI (a := b) (b := a) (by omega) (by omega)).mpr c), xsub (by omega), est]
    unfold nzI
    rw [if_neg enz, ed]
  · rw [if_neg (mt (nI_ltI (a := b) (b := a) (by omega) (by omega)).mp c), est, show a - b = 0 by omega, Nat.zero_div]
    rfl
/-- the frozen ones as a number -/
def row_mk (g : Nat → Int32) : Nat → Nat
  | 0 => 0
  | k + 1 => row_mk g k + (if g (76 + k) = 1 then 2 ^ k else 0)
theorem row_mk_lt {g : Nat → Int32} : ∀ n, row_mk g n < 2 ^ n := by
  intro n
  induction n with
  | zero => exact Nat.one_pos
  | succ k ih =>
    show row_mk g k + (if g (76 + k) = 1 then 2 ^ k else 0) < 2 ^ (k + 1)
    rw [Nat.pow_succ]
    split <;> omega
theorem bit_or : ∀ k, k < 8 → ∀ m, m < 2 ^ k → nI m ||| ((1 : Int32) <<< (nI k &&& 31)) = nI (m + 2 ^ k) := by decide +kernel
theorem bit_at : ∀ m, m < 256 → ∀ k, k < 8 → (nI m >>> (nI k &&& 31)) &&& 1 = nI (m / 2 ^ k % 2) := by decide +kernel
theorem bit_up : ∀ k, k < 8 → ∀ m, m < 2 ^ k → (∀ i, i < k → (m + 2 ^ k) / 2 ^ i % 2 = m / 2 ^ i % 2) ∧ m / 2 ^ k % 2 = 0 ∧ (m + 2 ^ k) / 2 ^ k % 2 = 1 := by decide +kernel
theorem row_frz_mk {g : Nat → Int32} : ∀ n, n ≤ 8 → row_frz g n = nI (row_mk g n) := by
  intro n
  induction n with
  | zero => exact fun _ => rfl
  | succ k ih =>
    intro hk
    show row_frz g k ||| (if g (76 + k) = 1 then (1 : Int32) <<< (nI k &&& 31) else 0) = nI (row_mk g k + (if g (76 + k) = 1 then 2 ^ k else 0))
    rw [ih (by omega)]
    by_cases c : g (76 + k) = 1
    · rw [if_pos c, if_pos c]
      exact bit_or k (by omega) _ (row_mk_lt k)
    · rw [if_neg c, if_neg c, Int32.or_zero, Nat.add_zero]
theorem row_mk_at {g : Nat → Int32} : ∀ n, n ≤ 8 → ∀ i, i < n → row_mk g n / 2 ^ i % 2 = if g (76 + i) = 1 then 1 else 0 := by
  intro n
  induction n with
  | zero => exact fun _ i hi => absurd hi (Nat.not_lt_zero _)
  | succ k ih =>
    intro hk i hi
    obtain ⟨u1, u2, u3⟩ := bit_up k (by omega) (row_mk g k) (row_mk_lt k)
    show (row_mk g k + (if g (76 + k) = 1 then 2 ^ k else 0)) / 2 ^ i % 2 = _
    by_cases e : i = k
    · rw [e]
      by_cases c : g (76 + k) = 1
      · rw [if_pos c, if_pos c, u3]
      · rw [if_neg c, if_neg c, Nat.add_zero, u2]
    · have hik : i < k := by omega
      by_cases c : g (76 + k) = 1
      · rw [if_pos c, u1 i hik]
        exact ih (by omega) i hik
      · rw [if_neg c, Nat.add_zero]
        exact ih (by omega) i hik
theorem cs_has {n i : Nat} {f : Nat → Int32} (n8 : n ≤ 8) (h3 : f 3 = nI n) (hi : i < n) : F_X5_hasSite (nI i) f = some 1 := by
  unfold F_X5_hasSite
  rw [if_neg (nn0 (by omega)), h3, if_neg (mt (nI_leI (a := n) (b := i) (by omega) (by omega)).mp (by omega)), if_neg (show ¬ (8 : Int32) ≤ nI i from mt (nI_leI (a := 8) (b := i) (by omega) (by omega)).mp (by omega))]
/-- frozen: both alike -/
theorem fz_c {n i : Nat} {f g : Nat → Int32} (h : RowB n f g) (hi : i < n) : F_X5_isFrozen (nI i) f = some (if g (76 + i) = 1 then 1 else 0) := by
  have n8 := h.n8
  have lt : row_mk g n < 256 := Nat.lt_of_lt_of_le (row_mk_lt n) (Nat.pow_le_pow_right (by decide) n8)
  unfold F_X5_isFrozen
  rw [cs_has n8 h.sz hi, xb1, if_neg (by decide), h.fr, row_frz_mk n n8, bit_at _ lt i (by omega), row_mk_at n n8 i hi]
  by_cases c : g (76 + i) = 1
  · rw [if_pos c, if_pos c, if_neg (by decide)]
  · rw [if_neg c, if_neg c, if_pos (by decide)]
theorem fz_m {i : Nat} {g : Nat → Int32} (hi : i < 8) : F_X8_isFrozen (nI i) g = some (if g (76 + i) = 1 then 1 else 0) := by
  unfold F_X8_isFrozen
  rw [bm_ix (a := 76) (by rfl) (by omega), bm_cl (a := 76) (by rfl) (by omega)]
  by_cases c : g (76 + i) = 1
  · rw [if_pos c, if_pos c]
  · rw [if_neg c, if_neg c]
end
-- 83c.07
section
/-! Stage B, 7: one is frozen or let go, in both -/
theorem bit_tog : ∀ m, m < 256 → ∀ k, k < 8 → nI m ^^^ ((1 : Int32) <<< (nI k &&& 31)) = nI (if m / 2 ^ k % 2 = 1 then m - 2 ^ k else m + 2 ^ k) := by decide +kernel
theorem row_mk_eq {g g' : Nat → Int32} : ∀ n, (∀ i, i < n → g (76 + i) = g' (76 + i)) → row_mk g n = row_mk g' n := by
  intro n
  induction n with
  | zero => exact fun _ => rfl
  | succ k ih =>
    intro h
    show row_mk g k + (if g (76 + k) = 1 then 2 ^ k else 0) = row_mk g' k + (if g' (76 + k) = 1 then 2 ^ k else 0)
    rw [ih (fun i hi => h i (by omega)), h k (by omega)]
theorem row_mk_tog {g : Nat → Int32} {i : Nat} (hb : g (76 + i) = 0 ∨ g (76 + i) = 1) : ∀ n, i < n → (g (76 + i) = 1 → row_mk (upd g (76 + i) (1 - g (76 + i))) n + 2 ^ i = row_mk g n) ∧ (g (76 + i) = 0 → row_mk (upd g (76 + i) (1 - g (76 + i))) n = row_mk g n + 2 ^ i) := by
  intro n
  induction n with
  | zero => exact fun h => absurd h (Nat.not_lt_zero _)
  | succ k ih =>
    intro h
    have u1 : row_mk (upd g (76 + i) (1 - g (76 + i))) (k + 1) = row_mk (upd g (76 + i) (1 - g (76 + i))) k + (if upd g (76 + i) (1 - g (76 + i)) (76 + k) = 1 then 2 ^ k else 0) := rfl
    have u2 : row_mk g (k + 1) = row_mk g k + (if g (76 + k) = 1 then 2 ^ k else 0) := rfl
    rw [u1, u2]
    by_cases e : i = k
    · have q : row_mk (upd g (76 + i) (1 - g (76 + i))) k = row_mk g k := row_mk_eq k (fun j hj => upd_ne (by omega))
      rw [q]
      rw [← e, upd_at]
      rcases hb with b | b
      · rw [b, if_pos (show (1 : Int32) - 0 = 1 by decide), if_neg (show ¬ (0 : Int32) = 1 by decide)]
        exact ⟨fun z => absurd z (by decide), fun _ => by omega⟩
      · rw [b, if_neg (show ¬ (1 : Int32) - 1 = 1 by decide), if_pos rfl]
        exact ⟨fun _ => by omega, fun z => absurd z (by decide)⟩
    · obtain ⟨i1, i2⟩ := ih (by omega)
      rw [upd_ne (show ¬ 76 + k = 76 + i by omega)]
      exact ⟨fun z => by have := i1 z; omega, fun z => by have := i2 z; omega⟩
/-- frozen or let go -/
theorem fr_both {n i : Nat} {f g : Nat → Int32} (h : RowR n f g) (hi : i < n) (hb : g (76 + i) = 0 ∨ g (76 + i) = 1) : RowR n (upd f 7 (f 7 ^^^ ((1 : Int32) <<< (nI i &&& 31)))) (upd g (76 + i) (1 - g (76 + i))) := by
  have n8 := h.n8
  have lt : row_mk g n < 256 := Nat.lt_of_lt_of_le (row_mk_lt n) (Nat.pow_le_pow_right (by decide) n8)
  obtain ⟨t1, t0⟩ := row_mk_tog hb n hi
  refine ⟨⟨n8, ?_, ?_, ?_, ?_⟩, ?_, ?_⟩
  · rw [upd_ne (by decide)]
    exact h.sz
  · intro j d hj hd
    rw [upd_ne (by omega), upd_ne (by omega)]
    exact h.toRowB.st j d hj hd
  · intro p hp
    obtain ⟨b1, b2, b3, b4, b5, b6, b7⟩ := rowScl_b p hp
    rw [upd_ne b5, upd_ne (by omega)]
    exact h.sc p hp
  · rw [upd_at, h.toRowB.fr, row_frz_mk n n8, row_frz_mk n n8, bit_tog _ lt i (by omega), row_mk_at n n8 i hi]
    rcases hb with b | b
    · rw [if_neg (show ¬ g (76 + i) = 1 by rw [b]; decide), if_neg (by decide), t0 b]
    · rw [if_pos b, if_pos rfl, show row_mk g n - 2 ^ i = row_mk (upd g (76 + i) (1 - g (76 + i))) n by have := t1 b; omega]
  · rw [upd_ne (by decide), h.sx]
    exact sgm_eq n (fun k hk => (upd_ne (show ¬ 16 + k = 76 + i by omega)).symm)
  · rw [upd_ne (by decide), h.sy]
    exact sgm_eq n (fun k hk => (upd_ne (show ¬ 24 + k = 76 + i by omega)).symm)
end
-- 83c.08
section
/-! Stage B, 8: to a count is added, in both -/
theorem RowR.put {n i c : Nat} {f g : Nat → Int32} (h : RowR n f g) (hi : i < n) (hc : c < 8) (c2 : ¬ c = 2) (c3 : ¬ c = 3) (v : Int32) : RowR n (upd f (17 + 8 * i + c) v) (upd g (8 * c + i) v) := by
  have n8 := h.n8
  refine ⟨h.toRowB.put hi hc v, ?_, ?_⟩
  · rw [upd_ne (by omega), h.sx]
    exact sgm_eq n (fun k hk => (upd_ne (show ¬ 16 + k = 8 * c + i by omega)).symm)
  · rw [upd_ne (by omega), h.sy]
    exact sgm_eq n (fun k hk => (upd_ne (show ¬ 24 + k = 8 * c + i by omega)).symm)
/-- what a row's counts may be -/
abbrev RowC (n : Nat) (g : Nat → Int32) : Prop := ∃ a b q : Nat, 1 ≤ a ∧ a ≤ 9999 ∧ g 66 = nI a ∧ b ≤ 900000 ∧ g 73 = nI b ∧ q < n ∧ g 75 = nI q ∧ (∀ j, j < n → ∃ c, c ≤ 99999 ∧ g (48 + j) = nI c) ∧ ∀ j, j < n → ∃ r, g (56 + j) = nI r ∧ (r = 0 ∨ r < st n g)
def AdR (n i : Nat) (g0 : Nat → Int32) (j : Nat) (s : Int32 × Int32 × (Nat → Int32)) (t : Int32 × (Nat → Int32)) : Prop := s.1 = t.1 ∧ s.1 = nI j ∧ s.2.1 = nI j ∧ RowR n s.2.2 t.2 ∧ (∀ k, ¬ k = 56 + i → ¬ k = 75 → t.2 k = g0 k) ∧ (∃ r, r < 2 ^ 30 ∧ t.2 (56 + i) = nI r) ∧ ∃ q, q < n ∧ j ≤ q ∧ t.2 75 = nI q
/-- how the loops end: the class's round ends behind its loop -/
def AdQ (n i K S : Nat) (g0 : Nat → Int32) (r : Nat × Int32 × (Nat → Int32)) (u : Int32 × (Nat → Int32)) : Prop := (∃ w, w ≤ 8 ∧ r.2.1 = nI w) ∧ ((r.1 = 1 ∧ r.2.1 = u.1 ∧ RowR n r.2.2 u.2 ∧ (∀ k, ¬ k = 56 + i → ¬ k = 75 → u.2 k = g0 k) ∧ (∃ r, r < S ∧ u.2 (56 + i) = nI r) ∧ ∃ q, q < n ∧ u.2 75 = nI q) ∨ (r.1 = 0 ∧ ∃ f', F_X5_endRound K r.2.2 = some f' ∧ RowR n f' u.2 ∧ u.1 = r.2.1 + (2 : Int32) * nI n ∧ (∀ k, (k < 56 ∨ 64 ≤ k) → ¬ k = 73 → ¬ k = 74 → ¬ k = 75 → u.2 k = g0 k) ∧ u.2 73 = sgm (fun i => g0 (48 + i)) n ∧ u.2 75 = 0 ∧ ∀ j, j < n → u.2 (56 + j) = 0))
theorem AdR.step {n a b i j K S : Nat} {g0 : Nat → Int32} {s : Int32 × Int32 × (Nat → Int32)} {t : Int32 × (Nat → Int32)} (hK : 200000 ≤ K) (hi : i < n) (h0 : 0 < S) (hS : S < 2 ^ 30) (z66 : g0 66 = nI a) (z73 : g0 73 = nI b) (eS : ∀ g : Nat → Int32, g 66 = nI a → g 73 = nI b → st n g = S) (h : AdR n i g0 j s t) : (j < 8 ∧ ∃ s' t', B_X5_addTo_67 (nI i) (nI S) s.1 s.2.1 s.2.2 = some (.inl s') ∧ B_X8_addsNow_48 K (nI i) (nI n) t.1 t.2 = some (.inl t') ∧ AdR n i g0 (j + 1) s' t') ∨ (∃ r u, B_X5_addTo_67 (nI i) (nI S) s.1 s.2.1 s.2.2 = some (.inr r) ∧ (∀ J, 2 ≤ J → lpF (fun u9 : Int32 × (Nat → Int32) => B_X8_addsNow_48 K (nI i) (nI n) u9.1 u9.2) J t = some u) ∧ AdQ n i K S g0 r u) := by
  obtain ⟨x, y, f⟩ := s
  obtain ⟨x', g⟩ := t
  obtain ⟨e1, e0, e2, hR, hfr, ⟨ρ, hρ, e56⟩, q, hq, hj, h75⟩ := h
  have e1 : x = x' := e1
  have e0 : x = nI j := e0
  have e2 : y = nI j := e2
  subst e1 e2
  have e0 : x = nI j := e0
  have hR : RowR n f g := hR
  have n8 : n ≤ 8 := hR.1.1
  have hfr : ∀ k, ¬ k = 56 + i → ¬ k = 75 → g k = g0 k := hfr
  have e56 : g (56 + i) = nI ρ := e56
  have h66 : g 66 = nI a := (hfr 66 (by omega) (by decide)).trans z66
  have h73 : g 73 = nI b := (hfr 73 (by omega) (by decide)).trans z73
  have h75 : g 75 = nI q := h75
  have e7 : f (17 + 8 * i + 7) = g (56 + i) := hR.1.2.2.1 i 7 hi (by decide)
  have e9 : f 9 = g 75 := hR.1.2.2.2.1 (9, 75) (by decide)
  have es : F_X8_step g (nI n) = some (nI S) := by rw [m_step (by omega) n8, eS g h66 h73]
  have nle : ¬ nI S ≤ (0 : Int32) := mt (nI_leI (a := S) (b := 0) (by omega) (by omega)).mp (by omega)
  have C : B_X5_addTo_67 (nI i) (nI S) x (nI j) f = (if g (56 + i) < nI S then some (.inr (1, x, f)) else nmF (upd (upd f (17 + 8 * i + 7) (g (56 + i) - nI S)) 9 (g 75 + 1)) (fun f_20 => if f_20 9 < f_20 3 then some (.inl (x + (1 : Int32), nI j + (1 : Int32), f_20)) else some (.inr (0, x + (1 : Int32), f_20)))) := by
    unfold B_X5_addTo_67
    rw [if_neg (show ¬ (8 : Int32) ≤ nI j from mt (nI_leI (a := 8) (b := j) (by omega) (by omega)).mp (by omega)), bx_of (c := 7) (by rfl) (by omega) (by decide), xb1, e7, xb1, bx_put (c := 7) (by rfl) (by omega) (by decide), xb1, show (upd f (17 + 8 * i + 7) (g (56 + i) - nI S)) 9 = g 75 from (upd_ne (by omega)).trans e9]
  have M : B_X8_addsNow_48 K (nI i) (nI n) x g = (if g (56 + i) < nI S then some (.inr (x, g)) else nmF (upd (upd g (56 + i) (g (56 + i) - nI S)) 75 (g 75 + 1)) (fun f_22 => if f_22 75 = nI n then bd1 (F_X8_endsRound K f_22 (nI n)) (fun w_24 => some (.inl ((x + (1 : Int32)) + ((2 : Int32) * nI n), w_24))) else some (.inl (x + (1 : Int32), f_22)))) := by
    unfold B_X8_addsNow_48
    simp only [es, xb1, bm_ix (A := (56 : Int32)) (a := 56) rfl (show 56 + i < 265 by omega), bm_cl (A := (56 : Int32)) (a := 56) rfl (show 56 + i < 265 by omega), xnm]
    rw [if_neg nle, show (upd g (56 + i) (g (56 + i) - nI S)) 75 = g 75 from upd_ne (by omega)]
  by_cases c : g (56 + i) < nI S
  · have cS : ρ < S := (nI_ltI (a := ρ) (b := S) (by omega) (by omega)).mp (by rw [← e56]; exact c)
    refine Or.inr ⟨(1, x, f), (x, g), ?_, ?_, ⟨j, by omega, e0⟩, Or.inl ⟨rfl, rfl, hR, hfr, ⟨ρ, cS, e56⟩, q, hq, h75⟩⟩
    · show B_X5_addTo_67 (nI i) (nI S) x (nI j) f = _
      rw [C, if_pos c]
    · intro J hJ
      obtain ⟨J2, rfl⟩ : ∃ J2, J = J2 + 1 := ⟨J - 1, by omega⟩
      refine lp_end ?_
      show B_X8_addsNow_48 K (nI i) (nI n) x g = _
      rw [M, if_pos c]
  · have R2 : RowR n (upd (upd f (17 + 8 * i + 7) (g (56 + i) - nI S)) 9 (g 75 + 1)) (upd (upd g (56 + i) (g (56 + i) - nI S)) 75 (g 75 + 1)) := (hR.put (c := 7) hi (by decide) (by decide) (by decide) (g (56 + i) - nI S)).scal (by decide) (g 75 + 1)
    rw [if_neg c, xnm] at C
    rw [if_neg c, xnm] at M
    have cS : S ≤ ρ := Nat.not_lt.mp (fun z => c (by rw [e56]; exact (nI_ltI (a := ρ) (b := S) (by omega) (by omega)).mpr z))
    have v75 : (upd (upd g (56 + i) (g (56 + i) - nI S)) 75 (g 75 + 1)) 75 = nI (q + 1) := by rw [upd_at, h75, nI_1]
    have v9 : (upd (upd f (17 + 8 * i + 7) (g (56 + i) - nI S)) 9 (g 75 + 1)) 9 = nI (q + 1) := by rw [upd_at, h75, nI_1]
    have v56 : (upd (upd g (56 + i) (g (56 + i) - nI S)) 75 (g 75 + 1)) (56 + i) = nI (ρ - S) := by rw [upd_ne (by omega), upd_at, e56, xsub cS]
    have vfr : ∀ k, ¬ k = 56 + i → ¬ k = 75 → (upd (upd g (56 + i) (g (56 + i) - nI S)) 75 (g 75 + 1)) k = g0 k := fun k k1 k2 => by rw [upd_ne k2, upd_ne k1, hfr k k1 k2]
    rw [v9, R2.sz] at C
    rw [v75] at M
    generalize upd (upd f (17 + 8 * i + 7) (g (56 + i) - nI S)) 9 (g 75 + 1) = f2 at R2 C
    generalize upd (upd g (56 + i) (g (56 + i) - nI S)) 75 (g 75 + 1) = g2 at R2 M v75 v56 vfr
    by_cases d : q + 1 < n
    · rw [if_pos ((nI_ltI (a := q + 1) (b := n) (by omega) (by omega)).mpr d)] at C
      rw [if_neg (mt (nI_eq (a := q + 1) (b := n) (by omega) (by omega)).mp (by omega))] at M
      exact Or.inl ⟨by omega, _, _, C, M, rfl, (by rw [e0]; exact nI_1 j), nI_1 j, R2, vfr, ⟨ρ - S, by omega, v56⟩, q + 1, d, by omega, v75⟩
    · have dn : q + 1 = n := by omega
      rw [if_neg (mt (nI_ltI (a := q + 1) (b := n) (by omega) (by omega)).mp d)] at C
      obtain ⟨f3, g3, x1, x2, R3, y1, y2, y3, z⟩ := er_both hK R2
      rw [if_pos (show nI (q + 1) = nI n by rw [dn]), x2, xb1] at M
      refine Or.inr ⟨(0, x + 1, f2), ((x + 1) + (2 : Int32) * nI n, g3), C, ?_, ⟨j + 1, by omega, by show x + 1 = nI (j + 1); rw [e0, nI_1]⟩, Or.inr ⟨rfl, f3, x1, R3, rfl, ?_, ?_, y3, z⟩⟩
      · intro J hJ
        obtain ⟨J2, rfl⟩ : ∃ J2, J = J2 + 1 + 1 := ⟨J - 2, by omega⟩
        rw [lp_one (u' := ((x + 1) + (2 : Int32) * nI n, g3)) (show (fun u9 : Int32 × (Nat → Int32) => B_X8_addsNow_48 K (nI i) (nI n) u9.1 u9.2) (x, g) = _ from M)]
        refine lp_end ?_
        show B_X8_addsNow_48 K (nI i) (nI n) ((x + 1) + (2 : Int32) * nI n) g3 = _
        unfold B_X8_addsNow_48
        have hlt := (st_lt (n := n) (g := g3) (by omega)).2.2
        rw [m_step (by omega) n8, xb1]
        by_cases w : st n g3 = 0
        · rw [w, if_pos (by decide)]
        · rw [if_neg (show ¬ nI (st n g3) ≤ (0 : Int32) from mt (nI_leI (a := st n g3) (b := 0) (by omega) (by omega)).mp (by omega)), bm_ix (a := 56) (by rfl) (by omega), xb1, bm_cl (a := 56) (by rfl) (by omega), z i hi, if_pos (show (0 : Int32) < nI (st n g3) from (nI_ltI (a := 0) (b := st n g3) (by omega) (by omega)).mpr (by omega))]
      · intro k k1 k2 k3 k4
        show g3 k = g0 k
        rw [y1 k k1 k2 k3 k4]
        exact vfr k (by omega) k4
      · show g3 73 = sgm (fun i => g0 (48 + i)) n
        rw [y2]
        exact sgm_eq n (fun k hk => vfr (48 + k) (by omega) (by omega))
end
-- 83c.09
section
/-! Stage B, 9: to a count is added: the whole act -/
theorem sgm_nat {a : Nat → Int32} : ∀ n, (∀ j, j < n → ∃ c, c ≤ 99999 ∧ a j = nI c) → ∃ B, B ≤ 99999 * n ∧ sgm a n = nI B := by
  intro n
  induction n with
  | zero => exact fun _ => ⟨0, Nat.le_refl _, rfl⟩
  | succ k ih =>
    intro h
    obtain ⟨B, hB, e⟩ := ih (fun j hj => h j (by omega))
    obtain ⟨c, hc, e2⟩ := h k (by omega)
    refine ⟨B + c, by omega, ?_⟩
    show sgm a k + a k = nI (B + c)
    rw [e, e2, nI_add]
theorem ad_both {n i K k : Nat} {f g : Nat → Int32} (hK : 200000 ≤ K) (h : RowR n f g) (hC : RowC n g) (hi : i < n) (k1 : 1 ≤ k) (k9 : k ≤ 999) (hc : ∃ c, c + k ≤ 99999 ∧ g (48 + i) = nI c) (hr : g 73 < g 66) : ∃ r f' g', F_X5_addTo K (nI i) (nI k) f = some (r, f') ∧ F_X8_addsNow K (nI i) (nI k) g (nI n) = some (r, g') ∧ RowR n f' g' ∧ RowC n g' ∧ (∃ m, m ≤ 100 ∧ r = nI m) ∧ ∀ j, (j < 48 ∨ 64 ≤ j) → ¬ j = 73 → ¬ j = 74 → ¬ j = 75 → g' j = g j := by
  have n8 : n ≤ 8 := h.1.1
  obtain ⟨a, b, q, a1, a9, e66, b9, e73, hq, e75, hcs, hrs⟩ := id hC
  have hba : b < a := by
    rw [e73, e66] at hr
    exact (nI_ltI (a := b) (b := a) (by omega) (by omega)).mp hr
  obtain ⟨c, hcc, e48⟩ := hc
  have e6 : f (17 + 8 * i + 6) = g (48 + i) := h.1.2.2.1 i 6 hi (by decide)
  have R1 : RowR n (upd f (17 + 8 * i + 6) (g (48 + i) + nI k)) (upd g (48 + i) (g (48 + i) + nI k)) := h.put (c := 6) hi (by decide) (by decide) (by decide) (g (48 + i) + nI k)
  have F1 : ∀ j, ¬ j = 48 + i → (upd g (48 + i) (g (48 + i) + nI k)) j = g j := fun j hj => upd_ne hj
  have c48 : (upd g (48 + i) (g (48 + i) + nI k)) (48 + i) = nI (c + k) := by rw [upd_at, e48, nI_add]
  unfold F_X5_addTo F_X8_addsNow
  rw [bx_of (c := 6) (by rfl) (by omega) (by decide), xb1, e6, bx_put (c := 6) (by rfl) (by omega) (by decide), xb1, bm_ix (a := 48) (by rfl) (by omega), bm_ix (a := 48) (by rfl) (by omega), bm_cl (a := 48) (by rfl) (by omega)]
  simp only [xnm]
  generalize upd f (17 + 8 * i + 6) (g (48 + i) + nI k) = f1 at R1 ⊢
  generalize upd g (48 + i) (g (48 + i) + nI k) = g1 at R1 F1 c48 ⊢
  have a66 : g1 66 = nI a := (F1 66 (by omega)).trans e66
  have a73 : g1 73 = nI b := (F1 73 (by omega)).trans e73
  have a75 : g1 75 = nI q := (F1 75 (by omega)).trans e75
  have cs1 : ∀ j, j < n → ∃ c, c ≤ 99999 ∧ g1 (48 + j) = nI c := fun j hj => by
    by_cases e : j = i
    · rw [e, c48]
      exact ⟨c + k, by omega, rfl⟩
    · rw [F1 (48 + j) (by omega)]
      exact hcs j hj
  have st1 : st n g1 = st n g := st_of (F1 66 (by omega)) (F1 73 (by omega))
  have rs1 : ∀ j, j < n → ∃ r, g1 (56 + j) = nI r ∧ (r = 0 ∨ r < st n g1) := fun j hj => by
    rw [F1 (56 + j) (by omega), st1]
    exact hrs j hj
  have hlt := (st_lt (n := n) (g := g1) (by omega)).2.2
  rw [cs_step (by omega) R1 (by omega) (by omega) a66 a73, xb1, m_step (by omega) n8, xb1]
  by_cases z : st n g1 = 0
  · rw [z, if_pos (by decide), if_pos (by decide)]
    refine ⟨_, _, _, rfl, rfl, ?_, ?_, ⟨1, by omega, rfl⟩, ?_⟩
    · rw [show f1 8 = g1 73 from R1.sc (8, 73) (by decide)]
      exact R1.scal (by decide) _
    · refine ⟨a, b + k, q, a1, a9, (upd_ne (by decide)).trans a66, by omega, by rw [upd_at, a73, nI_add], hq, (upd_ne (by decide)).trans a75, fun j hj => ?_, fun j hj => ?_⟩
      · rw [upd_ne (by omega)]
        exact cs1 j hj
      · obtain ⟨r, er, hr⟩ := rs1 j hj
        rw [upd_ne (by omega)]
        exact ⟨r, er, Or.inl (by omega)⟩
    · intro j j1 j2 j3 j4
      rw [upd_ne j2]
      exact F1 j (by omega)
  · have nz : ¬ nI (st n g1) = (0 : Int32) := fun e => z ((nI_eq (a := st n g1) (b := 0) (by omega) (by omega)).mp e)
    have e7 : f1 (17 + 8 * i + 7) = g1 (56 + i) := R1.1.2.2.1 i 7 hi (by decide)
    have R2 : RowR n (upd f1 (17 + 8 * i + 7) (g1 (56 + i) + nI k)) (upd g1 (56 + i) (g1 (56 + i) + nI k)) := R1.put (c := 7) hi (by decide) (by decide) (by decide) (g1 (56 + i) + nI k)
    obtain ⟨ρ, eρ, hρ⟩ := rs1 i hi
    have z56 : (upd g1 (56 + i) (g1 (56 + i) + nI k)) (56 + i) = nI (ρ + k) := by rw [upd_at, eρ, nI_add]
    have F2 : ∀ j, ¬ j = 56 + i → (upd g1 (56 + i) (g1 (56 + i) + nI k)) j = g1 j := fun j hj => upd_ne hj
    rw [if_neg nz, if_neg nz, bx_of (c := 7) (by rfl) (by omega) (by decide), xb1, e7, bx_put (c := 7) (by rfl) (by omega) (by decide), xb1, bm_ix (a := 56) (by rfl) (by omega), bm_ix (a := 56) (by rfl) (by omega), bm_cl (a := 56) (by rfl) (by omega)]
    generalize upd f1 (17 + 8 * i + 7) (g1 (56 + i) + nI k) = f2 at R2 ⊢
    generalize upd g1 (56 + i) (g1 (56 + i) + nI k) = g2 at R2 z56 F2 ⊢
    have eS : ∀ g' : Nat → Int32, g' 66 = nI a → g' 73 = nI b → st n g' = st n g1 := fun g' x y => st_of (x.trans a66.symm) (y.trans a73.symm)
    have b66 : g2 66 = nI a := (F2 66 (by omega)).trans a66
    have b73 : g2 73 = nI b := (F2 73 (by omega)).trans a73
    have hst : st n g1 ≤ 9999 := by
      unfold st
      rw [a66, a73, pk_sub_toInt (by omega) (by omega)]
      exact Nat.le_trans (Nat.div_le_self _ _) (by omega)
    obtain ⟨r, u, l1, l2, hQ⟩ := lp_twoXA (b := fun u9 : Int32 × Int32 × (Nat → Int32) => B_X5_addTo_67 (nI i) (nI (st n g1)) u9.1 u9.2.1 u9.2.2) (d := fun u9 : Int32 × (Nat → Int32) => B_X8_addsNow_48 K (nI i) (nI n) u9.1 u9.2) (AdR n i g2) (AdQ n i K (st n g1) g2) (n := 8) (fun j s t _ q9 => AdR.step hK hi (by omega) hlt b66 b73 eS q9) 8 0 ((0 : Int32), (0 : Int32), f2) ((0 : Int32), g2) K K (by omega) (by omega) (by omega) ⟨rfl, rfl, rfl, R2, fun _ _ _ => rfl, ⟨ρ + k, by omega, z56⟩, q, hq, Nat.zero_le _, (F2 75 (by omega)).trans a75⟩
    obtain ⟨t, x, f3⟩ := r
    obtain ⟨x', g3⟩ := u
    rw [l1, l2, xb3, xb2]
    obtain ⟨⟨w, hw, ew⟩, hQ⟩ := hQ
    have ew : x = nI w := ew
    rcases hQ with ⟨q1, q2, q3, y1, ⟨r9, hr9, y2⟩, p, hp, y3⟩ | ⟨q1, f4, q2, q3, q4, y1, y2, y3, y4⟩
    · have q1 : t = 1 := q1
      have q2 : x = x' := q2
      have y1 : ∀ j, ¬ j = 56 + i → ¬ j = 75 → g3 j = g2 j := y1
      have y2 : g3 (56 + i) = nI r9 := y2
      have y3 : g3 75 = nI p := y3
      rw [q1, if_neg (by decide), if_pos rfl, ← q2]
      refine ⟨_, _, _, rfl, rfl, q3, ?_, ⟨w, by omega, ew⟩, ?_⟩
      · have c66 : g3 66 = nI a := (y1 66 (by omega) (by decide)).trans b66
        have c73 : g3 73 = nI b := (y1 73 (by omega) (by decide)).trans b73
        refine ⟨a, b, p, a1, a9, c66, b9, c73, hp, y3, fun j hj => ?_, fun j hj => ?_⟩
        · rw [y1 (48 + j) (by omega) (by omega), F2 (48 + j) (by omega)]
          exact cs1 j hj
        · rw [eS g3 c66 c73]
          by_cases e : j = i
          · rw [e, y2]
            exact ⟨r9, rfl, Or.inr hr9⟩
          · rw [y1 (56 + j) (by omega) (by omega), F2 (56 + j) (by omega)]
            exact rs1 j hj
      · intro j j1 j2 j3 j4
        show g3 j = g j
        rw [y1 j (by omega) j4, F2 j (by omega)]
        exact F1 j (by omega)
    · have q1 : t = 0 := q1
      have q2 : F_X5_endRound K f3 = some f4 := q2
      have q3 : RowR n f4 g3 := q3
      have q4 : x' = x + (2 : Int32) * nI n := q4
      have y1 : ∀ k, (k < 56 ∨ 64 ≤ k) → ¬ k = 73 → ¬ k = 74 → ¬ k = 75 → g3 k = g2 k := y1
      have y2 : g3 73 = sgm (fun i => g2 (48 + i)) n := y2
      have y3 : g3 75 = 0 := y3
      have y4 : ∀ j, j < n → g3 (56 + j) = 0 := y4
      have s3 : f4 3 = nI n := q3.1.2.1
      rw [q1, if_pos rfl, q2, xb1, s3, q4]
      refine ⟨_, _, _, rfl, rfl, q3, ?_, ⟨w + 2 * n, by omega, by rw [ew, show (2 : Int32) = nI 2 from rfl, nI_mul, nI_add]⟩, ?_⟩
      · have cs2 : ∀ j, j < n → ∃ c, c ≤ 99999 ∧ g2 (48 + j) = nI c := fun j hj => by
          rw [F2 (48 + j) (by omega)]
          exact cs1 j hj
        obtain ⟨B, hB, eB⟩ := sgm_nat (a := fun i => g2 (48 + i)) n cs2
        refine ⟨a, B, 0, a1, a9, (y1 66 (by omega) (by decide) (by decide) (by decide)).trans b66, by omega, y2.trans eB, by omega, y3, fun j hj => ?_, fun j hj => ⟨0, y4 j hj, Or.inl rfl⟩⟩
        rw [y1 (48 + j) (by omega) (by omega) (by omega) (by omega)]
        exact cs2 j hj
      · intro j j1 j2 j3 j4
        show g3 j = g j
        rcases j1 with j1 | j1
        · rw [y1 j (by omega) j2 j3 j4, F2 j (by omega)]
          exact F1 j (by omega)
        · rw [y1 j (by omega) j2 j3 j4, F2 j (by omega)]
          exact F1 j (by omega)
end
-- 83c.10
section
/-! Stage B, 10: groups: their bits, how many, what they drift in all -/
/-- how many of the first k -/
def bcn (m : Nat) : Nat → Nat
  | 0 => 0
  | k + 1 => bcn m k + m / 2 ^ k % 2
theorem bcn_le (m : Nat) : ∀ k, bcn m k ≤ k := by
  intro k
  induction k with
  | zero => exact Nat.le_refl _
  | succ k ih =>
    show bcn m k + m / 2 ^ k % 2 ≤ k + 1
    omega
theorem bits_c : ∀ m, m < 256 → F_J6_bitCount_0f7a4 (nI m) = some (nI (bcn m 8)) := by decide +kernel
theorem bits_m {K m : Nat} (hK : 200000 ≤ K) (hm : m < 256) : F_X8_bits K (nI m) = some (nI (bcn m 8)) := by
  have h : lpF (fun u9 : Int32 × Int32 => B_X8_bits_4 (nI m) u9.1 u9.2) K ((0 : Int32), (0 : Int32)) = some (nI (bcn m 8)) := by
    refine lp_for (fun j => (nI (bcn m j), nI j)) (n := 8) (by omega) (fun j hj => ?_) ?_
    · show B_X8_bits_4 (nI m) (nI (bcn m j)) (nI j) = some (.inl (nI (bcn m j + m / 2 ^ j % 2), nI (j + 1)))
      unfold B_X8_bits_4
      rw [if_neg (show ¬ (8 : Int32) ≤ nI j from mt (nI_leI (a := 8) (b := j) (by omega) (by omega)).mp (by omega)), bit_at m hm j hj, nI_add, nI_1]
    · show B_X8_bits_4 (nI m) (nI (bcn m 8)) (nI 8) = some (.inr (nI (bcn m 8)))
      unfold B_X8_bits_4
      rw [if_pos (show (8 : Int32) ≤ nI 8 by decide)]
  unfold F_X8_bits
  rw [h, xb1]
theorem gb_z {m k : Nat} : nI (m / 2 ^ k % 2) = (0 : Int32) ↔ m / 2 ^ k % 2 = 0 := nI_eq (a := m / 2 ^ k % 2) (b := 0) (by omega) (by omega)
theorem gm_has {m k : Nat} (hm : m < 256) (hk : k < 8) : F_X8_has (nI m) (nI k) = some (nI (m / 2 ^ k % 2)) := by
  unfold F_X8_has
  rw [bit_at m hm k hk]
  rcases (show m / 2 ^ k % 2 = 0 ∨ m / 2 ^ k % 2 = 1 by omega) with e | e
  · rw [e, if_neg (by decide)]
    rfl
  · rw [e, if_pos (by decide)]
    rfl
theorem xor_neg {x : Int32} {b : Nat} (hb : b < 2 ^ 31) : (x ^^^ nI b) < 0 ↔ x < 0 := by
  rw [Int32.lt_iff_toBitVec_slt, Int32.lt_iff_toBitVec_slt]
  have h : ∀ b : BitVec 32, b.slt (0 : Int32).toBitVec = b.msb := fun b => by
    rw [BitVec.slt_eq_decide, BitVec.msb_eq_toInt]
    have : ((0 : Int32).toBitVec).toInt = 0 := by decide
    rw [this]
  have q : ((nI b).toBitVec).msb = false := by
    rw [BitVec.msb_eq_toInt]
    show decide ((nI b).toInt < 0) = false
    rw [nI_toInt hb]
    exact decide_eq_false (by omega)
  rw [h, h, Int32.toBitVec_xor, BitVec.msb_xor, q, Bool.xor_false]
theorem rem_n {x : Int32} {b : Nat} (hb : b = 1 ∨ b = 2 ∨ b = 3 ∨ b = 4 ∨ b = 5 ∨ b = 6 ∨ b = 7 ∨ b = 8) : (x - x / nI b * nI b).toInt = x.toInt.tmod b := by
  have h2 : (nI b).toInt = b := nI_toInt (by omega)
  have a1 : -2 ^ 31 ≤ x.toInt := Int32.le_toInt x
  have a2 : x.toInt < 2 ^ 31 := Int32.toInt_lt x
  have d : x.toInt = b * (x.toInt.tdiv b) + x.toInt.tmod b := (Int.mul_tdiv_add_tmod x.toInt b).symm
  have b1 := Int.lt_tmod_of_pos x.toInt (b := (b : Int)) (by omega)
  have b2 := Int.tmod_lt_of_pos x.toInt (b := (b : Int)) (by omega)
  have q : (x / nI b).toInt = x.toInt.tdiv b := by
    rw [Int32.toInt_div, h2]
    refine Int.bmod_eq_of_le ?_ ?_
    all_goals
      generalize x.toInt.tdiv b = t at d ⊢
      generalize x.toInt.tmod b = r at d b1 b2
      rcases hb with rfl | rfl | rfl | rfl | rfl | rfl | rfl | rfl <;> omega
  have e : (b : Int) * x.toInt.tdiv b = x.toInt - x.toInt.tmod b := by omega
  rw [Int32.toInt_sub, Int32.toInt_mul, q, h2, Int.sub_bmod_bmod, Int.mul_comm, e, Int.bmod_eq_of_le (by omega) (by omega)]
  omega
/-- the rest of a division by a count of sites -/
theorem fm_n {x : Int32} {b : Nat} (hb : b = 1 ∨ b = 2 ∨ b = 3 ∨ b = 4 ∨ b = 5 ∨ b = 6 ∨ b = 7 ∨ b = 8) : ∃ r, r < b ∧ F_J9_floorMod_7cf53 x (nI b) = some (nI r) := by
  have r := rem_n (x := x) hb
  have nz : ¬ nI b = 0 := nI_ne0 (by omega) (by omega)
  have t0 : (0 : Int32).toInt = 0 := by decide
  have e : (0 : Int32) ≤ x ^^^ nI b ↔ 0 ≤ x.toInt := by
    have u := xor_neg (x := x) (b := b) (by omega)
    simp only [Int32.lt_iff_toInt_lt, Int32.le_iff_toInt_le, t0] at u ⊢
    omega
  have b1 := Int.lt_tmod_of_pos x.toInt (b := (b : Int)) (by omega)
  have b2 := Int.tmod_lt_of_pos x.toInt (b := (b : Int)) (by omega)
  unfold F_J9_floorMod_7cf53 nzI
  rw [if_neg nz]
  by_cases c : 0 ≤ x.toInt
  · rw [if_pos (e.mpr c)]
    have b3 := Int.tmod_nonneg (b : Int) (a := x.toInt) c
    obtain ⟨j, hj, q⟩ := nat_rng (x := x - x / nI b * nI b) (n := b - 1) (by rw [r]; omega)
    exact ⟨j, by omega, by rw [q]⟩
  · rw [if_neg (fun z => c (e.mp z))]
    by_cases d : x - x / nI b * nI b = 0
    · rw [if_pos d, d]
      exact ⟨0, by omega, rfl⟩
    · rw [if_neg d]
      have n0 : ¬ (x - x / nI b * nI b).toInt = 0 := fun h => d (Int32.toInt_inj.mp (h.trans t0.symm))
      have b4 : x.toInt.tmod b ≤ 0 := by
        have := Int.tmod_nonneg (b : Int) (a := -x.toInt) (by omega)
        rw [Int.neg_tmod] at this
        omega
      rw [r] at n0
      obtain ⟨j, hj, q⟩ := nat_rng (x := x - x / nI b * nI b + nI b) (n := b - 1) (by
        rw [Int32.toInt_add, r, nI_toInt (by omega), Int.bmod_eq_of_le (by omega) (by omega)]
        omega)
      exact ⟨j, by omega, by rw [q]⟩
/-- what those of a group have, added up -/
def gsm (d : Nat → Int32) (m : Nat) : Nat → Int32
  | 0 => 0
  | k + 1 => gsm d m k + (if m / 2 ^ k % 2 = 0 then 0 else d k)
theorem gsm_eq {d e : Nat → Int32} {m : Nat} : ∀ n, (∀ i, i < n → d i = e i) → gsm d m n = gsm e m n := by
  intro n
  induction n with
  | zero => exact fun _ => rfl
  | succ k ih =>
    intro h
    show gsm d m k + (if m / 2 ^ k % 2 = 0 then 0 else d k) = gsm e m k + (if m / 2 ^ k % 2 = 0 then 0 else e k)
    rw [ih (fun i hi => h i (by omega)), h k (by omega)]
/-- drifts out of the reference's row -/
def mdx (g : Nat → Int32) (i : Nat) : Int32 := g (0 + i) - g (16 + i) + g (32 + i)
def mdy (g : Nat → Int32) (i : Nat) : Int32 := g (8 + i) - g (24 + i) + g (40 + i)
theorem m_drX {i : Nat} {g : Nat → Int32} (hi : i < 8) : F_X8_driftX (nI i) g = some (mdx g i) := by
  unfold F_X8_driftX
  simp only [bm_ix (A := (0 : Int32)) (a := 0) rfl (show 0 + i < 265 by omega), bm_ix (A := (16 : Int32)) (a := 16) rfl (show 16 + i < 265 by omega), bm_ix (A := (32 : Int32)) (a := 32) rfl (show 32 + i < 265 by omega), bm_cl (A := (0 : Int32)) (a := 0) rfl (show 0 + i < 265 by omega), bm_cl (A := (16 : Int32)) (a := 16) rfl (show 16 + i < 265 by omega), bm_cl (A := (32 : Int32)) (a := 32) rfl (show 32 + i < 265 by omega)]
  rfl
theorem m_drY {i : Nat} {g : Nat → Int32} (hi : i < 8) : F_X8_driftY (nI i) g = some (mdy g i) := by
  unfold F_X8_driftY
  simp only [bm_ix (A := (8 : Int32)) (a := 8) rfl (show 8 + i < 265 by omega), bm_ix (A := (24 : Int32)) (a := 24) rfl (show 24 + i < 265 by omega), bm_ix (A := (40 : Int32)) (a := 40) rfl (show 40 + i < 265 by omega), bm_cl (A := (8 : Int32)) (a := 8) rfl (show 8 + i < 265 by omega), bm_cl (A := (24 : Int32)) (a := 24) rfl (show 24 + i < 265 by omega), bm_cl (A := (40 : Int32)) (a := 40) rfl (show 40 + i < 265 by omega)]
  rfl
theorem dr_both {n i : Nat} {f g : Nat → Int32} (h : StB n f g) (hi : i < n) : cdr f i 0 = mdx g i ∧ cdr f i 1 = mdy g i := by
  have e0 : f (17 + 8 * i + 0) = g (0 + i) := h i 0 hi (by decide)
  have e1 : f (17 + 8 * i + (0 + 2)) = g (16 + i) := h i 2 hi (by decide)
  have e2 : f (17 + 8 * i + (0 + 4)) = g (32 + i) := h i 4 hi (by decide)
  have e3 : f (17 + 8 * i + 1) = g (8 + i) := h i 1 hi (by decide)
  have e4 : f (17 + 8 * i + (1 + 2)) = g (24 + i) := h i 3 hi (by decide)
  have e5 : f (17 + 8 * i + (1 + 4)) = g (40 + i) := h i 5 hi (by decide)
  unfold cdr mdx mdy
  rw [e0, e1, e2, e3, e4, e5]
  exact ⟨rfl, rfl⟩
theorem c_msum {K n m a : Nat} {A : Int32} {f : Nat → Int32} (eA : A = nI a) (hK : 200000 ≤ K) (hm : m < 256) (n8 : n ≤ 8) (h3 : f 3 = nI n) (ha : a < 2) : lpF (fun u9 : Int32 × Int32 => B_X5_measureShares_23 (nI m) f A u9.1 u9.2) K ((0 : Int32), (0 : Int32)) = some (gsm (fun i => cdr f i a) m n) := by
  refine lp_for (fun j => (gsm (fun i => cdr f i a) m j, nI j)) (n := n) (by omega) (fun j hj => ?_) ?_
  · show B_X5_measureShares_23 (nI m) f A (gsm (fun i => cdr f i a) m j) (nI j) = some (.inl (gsm (fun i => cdr f i a) m j + (if m / 2 ^ j % 2 = 0 then 0 else cdr f j a), nI (j + 1)))
    unfold B_X5_measureShares_23 F_X5_sites
    rw [xb1, h3, if_neg (mt (nI_leI (a := n) (b := j) (by omega) (by omega)).mp (by omega)), bit_at m hm j (by omega), eA, b_drift (by omega) ha, xb1, nI_1]
    by_cases c : m / 2 ^ j % 2 = 0
    · rw [if_pos (gb_z.mpr c), if_pos c]
    · rw [if_neg (mt gb_z.mp c), if_neg c]
  · show B_X5_measureShares_23 (nI m) f A (gsm (fun i => cdr f i a) m n) (nI n) = some (.inr (gsm (fun i => cdr f i a) m n))
    unfold B_X5_measureShares_23 F_X5_sites
    rw [xb1, h3, if_pos ((nI_leI (a := n) (b := n) (by omega) (by omega)).mpr (Nat.le_refl _))]
theorem m_msum {K n m : Nat} {g : Nat → Int32} (hK : 200000 ≤ K) (hm : m < 256) (n8 : n ≤ 8) : lpF (fun u9 : Int32 × Int32 × Int32 => B_X8_shares_13 (nI m) (nI n) g u9.1 u9.2.1 u9.2.2) K ((0 : Int32), (0 : Int32), (0 : Int32)) = some (gsm (mdx g) m n, gsm (mdy g) m n) := by
  refine lp_for (fun j => (gsm (mdx g) m j, gsm (mdy g) m j, nI j)) (n := n) (by omega) (fun j hj => ?_) ?_
  · show B_X8_shares_13 (nI m) (nI n) g (gsm (mdx g) m j) (gsm (mdy g) m j) (nI j) = some (.inl (gsm (mdx g) m j + (if m / 2 ^ j % 2 = 0 then 0 else mdx g j), gsm (mdy g) m j + (if m / 2 ^ j % 2 = 0 then 0 else mdy g j), nI (j + 1)))
    unfold B_X8_shares_13 J_X8_shares_42_r14
    simp only [gm_has hm (show j < 8 by omega), m_drX (g := g) (show j < 8 by omega), m_drY (g := g) (show j < 8 by omega), xb1, nI_1]
    rw [if_neg (mt (nI_leI (a := n) (b := j) (by omega) (by omega)).mp (by omega))]
    by_cases c : m / 2 ^ j % 2 = 0
    · simp only [if_pos (gb_z.mpr c), if_pos c]
    · simp only [if_neg (mt gb_z.mp c), if_neg c]
  · show B_X8_shares_13 (nI m) (nI n) g (gsm (mdx g) m n) (gsm (mdy g) m n) (nI n) = some (.inr (gsm (mdx g) m n, gsm (mdy g) m n))
    unfold B_X8_shares_13
    rw [if_pos ((nI_leI (a := n) (b := n) (by omega) (by omega)).mpr (Nat.le_refl _))]
end
-- 83c.11
section
/-! Stage B, 11: whether a group can share, in both -/
theorem xnz {α : Type} {d : Int32} {g : Option α} (h : ¬ d = 0) : nzI d g = g := by unfold nzI; exact if_neg h
theorem vp_02 : vp_in (0 : Int32) 2 := nI_in (c := 0) (by decide) (by decide)
theorem vp_12 : vp_in (1 : Int32) 2 := nI_in (c := 1) (by decide) (by decide)
theorem lp_2 {σ ρ : Type} {b : σ → Option (σ ⊕ ρ)} {K : Nat} {u0 u1 u2 : σ} {r : ρ} (hK : 2 < K) (h0 : b u0 = some (.inl u1)) (h1 : b u1 = some (.inl u2)) (h2 : b u2 = some (.inr r)) : lpF b K u0 = some r := by
  obtain ⟨K2, rfl⟩ : ∃ K2, K = K2 + 1 + 1 + 1 := ⟨K - 3, by omega⟩
  rw [lp_one h0, lp_one h1, lp_end h2]
/-- all of the first k -/
def alF (p : Nat → Bool) : Nat → Bool
  | 0 => true
  | k + 1 => alF p k && p k
theorem alF_no {p : Nat → Bool} {i : Nat} (h : p i = false) : ∀ n, i < n → alF p n = false := by
  intro n
  induction n with
  | zero => exact fun z => absurd z (Nat.not_lt_zero _)
  | succ k ih =>
    intro hk
    show (alF p k && p k) = false
    by_cases e : i = k
    · rw [← e, h, Bool.and_false]
    · rw [ih (by omega), Bool.false_and]
theorem lp_allA {σ ρ : Type} {b : σ → Option (σ ⊕ ρ)} {S : Nat → σ} {p : Nat → Bool} {n : Nat} {r0 r1 : ρ} (hs : ∀ i, i < n → p i = true → b (S i) = some (.inl (S (i + 1)))) (hx : ∀ i, i < n → p i = false → b (S i) = some (.inr r0)) (he : b (S n) = some (.inr r1)) : ∀ (k i K : Nat), i + k = n → k < K → alF p i = true → lpF b K (S i) = some (if alF p n = true then r1 else r0) := by
  intro k
  induction k with
  | zero =>
    intro i K h1 h2 h3
    obtain ⟨K', rfl⟩ : ∃ K', K = K' + 1 := ⟨K - 1, by omega⟩
    obtain rfl : i = n := by omega
    rw [if_pos h3]
    exact lp_end he
  | succ k ih =>
    intro i K h1 h2 h3
    obtain ⟨K', rfl⟩ : ∃ K', K = K' + 1 := ⟨K - 1, by omega⟩
    cases q : p i with
    | true =>
      rw [lp_one (hs i (by omega) q)]
      exact ih (i + 1) K' (by omega) (by omega) (show (alF p i && p i) = true by rw [h3, q]; rfl)
    | false =>
      rw [if_neg (by rw [alF_no q n (by omega)]; decide)]
      exact lp_end (hx i (by omega) q)
/-- a loop that ends at the first that isn't so -/
theorem lp_all {σ ρ : Type} {b : σ → Option (σ ⊕ ρ)} (S : Nat → σ) (p : Nat → Bool) {n K : Nat} {r0 r1 : ρ} (hK : n < K) (hs : ∀ i, i < n → p i = true → b (S i) = some (.inl (S (i + 1)))) (hx : ∀ i, i < n → p i = false → b (S i) = some (.inr r0)) (he : b (S n) = some (.inr r1)) : lpF b K (S 0) = some (if alF p n = true then r1 else r0) := lp_allA hs hx he n 0 K (by omega) hK rfl
/-- what one of a group has: its rank k -/
def shv (q : Int32) (r k : Nat) : Int32 := if r ≤ k then q else q + 1
theorem c_shareOf {q : Int32} {r k a : Nat} {A : Int32} {sh lo : Nat → Int32} (eA : A = nI a) (ha : a < 2) (hr : r < 2 ^ 30) (hk : k < 2 ^ 30) (e1 : sh a = q) (e2 : lo a = nI r) : F_X5_shareOf (nI k) A sh lo = some (shv q r k) := by
  unfold F_X5_shareOf shv
  rw [eA, if_neg (nn0 (by omega)), if_pos (show nI a ≤ (1 : Int32) from (nI_leI (a := a) (b := 1) (by omega) (by omega)).mpr (by omega)), nI_clamp (by omega), xixn (by omega) (by decide), xixn (by omega) (by decide), xixn (by omega) (by decide), e1, e2]
  by_cases c : r ≤ k
  · rw [if_pos c, if_pos ((nI_leI (a := r) (b := k) (by omega) (by omega)).mpr c)]
  · rw [if_neg c, if_neg (mt (nI_leI (a := r) (b := k) (by omega) (by omega)).mp c)]
theorem c_meas {K n m b : Nat} {f sh lo : Nat → Int32} {q0 q1 : Int32} {r0 r1 : Nat} (hK : 200000 ≤ K) (hm : m < 256) (n8 : n ≤ 8) (h3 : f 3 = nI n) (hb : bcn m 8 = b) (h0 : 0 < b) (e0 : F_J9_floorDiv_7cf53 (gsm (fun i => cdr f i 0) m n) (nI b) = some q0) (e1 : F_J9_floorDiv_7cf53 (gsm (fun i => cdr f i 1) m n) (nI b) = some q1) (d0 : F_J9_floorMod_7cf53 (gsm (fun i => cdr f i 0) m n) (nI b) = some (nI r0)) (d1 : F_J9_floorMod_7cf53 (gsm (fun i => cdr f i 1) m n) (nI b) = some (nI r1)) : F_X5_measureShares K (nI m) f sh lo = some (upd (upd sh 0 q0) 1 q1, upd (upd lo 0 (nI r0)) 1 (nI r1)) := by
  have b8 : b ≤ 8 := by rw [← hb]; exact bcn_le m 8
  have nz : ¬ nI b = (0 : Int32) := nI_ne0 h0 (by omega)
  have s0 : B_X5_measureShares_12 K (nI m) f (nI b) 0 sh lo = some (.inl ((1 : Int32), upd sh 0 q0, upd lo 0 (nI r0))) := by
    unfold B_X5_measureShares_12
    rw [if_neg (by decide), c_msum (a := 0) (by rfl) hK hm n8 h3 (by decide), xb1, e0, xb1, xix vp_02, xnm, d0, xb1, xix vp_02, xnm]
    rfl
  have s1 : B_X5_measureShares_12 K (nI m) f (nI b) 1 (upd sh 0 q0) (upd lo 0 (nI r0)) = some (.inl ((2 : Int32), upd (upd sh 0 q0) 1 q1, upd (upd lo 0 (nI r0)) 1 (nI r1))) := by
    unfold B_X5_measureShares_12
    rw [if_neg (by decide), c_msum (a := 1) (by rfl) hK hm n8 h3 (by decide), xb1, e1, xb1, xix vp_12, xnm, d1, xb1, xix vp_12, xnm]
    rfl
  have s2 : B_X5_measureShares_12 K (nI m) f (nI b) 2 (upd (upd sh 0 q0) 1 q1) (upd (upd lo 0 (nI r0)) 1 (nI r1)) = some (.inr (upd (upd sh 0 q0) 1 q1, upd (upd lo 0 (nI r0)) 1 (nI r1))) := by
    unfold B_X5_measureShares_12
    rw [if_pos (by decide)]
  unfold F_X5_measureShares
  rw [bits_c m hm, xb1, hb, if_neg nz, lp_2 (b := fun u9 : Int32 × (Nat → Int32) × (Nat → Int32) => B_X5_measureShares_12 K (nI m) f (nI b) u9.1 u9.2.1 u9.2.2) (u0 := ((0 : Int32), sh, lo)) (u1 := ((1 : Int32), upd sh 0 q0, upd lo 0 (nI r0))) (u2 := ((2 : Int32), upd (upd sh 0 q0) 1 q1, upd (upd lo 0 (nI r0)) 1 (nI r1))) (r := (upd (upd sh 0 q0) 1 q1, upd (upd lo 0 (nI r0)) 1 (nI r1))) (by omega) s0 s1 s2, xb2]
/-- quiet by what one has of the shares -/
def qvl (f : Nat → Int32) (a b : Int32) : Int32 := (F_X5_isQuietDrift a b f).getD 0
theorem qvl_is {f : Nat → Int32} {a b : Int32} : F_X5_isQuietDrift a b f = some (qvl f a b) := by
  obtain ⟨r, e, -⟩ := t_isQuietDrift (p1 := a) (p2 := b) (f := f)
  unfold qvl
  rw [e]
  rfl
def shp (f : Nat → Int32) (m : Nat) (q0 q1 : Int32) (r0 r1 : Nat) (j : Nat) : Bool := decide (m / 2 ^ j % 2 = 0) || decide (¬ qvl f (shv q0 r0 (bcn m j)) (shv q1 r1 (bcn m j)) = 0)
theorem c_can {K n m : Nat} {f sh lo : Nat → Int32} {q0 q1 : Int32} {r0 r1 : Nat} (hK : 200000 ≤ K) (hm : m < 256) (n8 : n ≤ 8) (h3 : f 3 = nI n) (hr0 : r0 < 2 ^ 30) (hr1 : r1 < 2 ^ 30) (s0 : sh 0 = q0) (s1 : sh 1 = q1) (l0 : lo 0 = nI r0) (l1 : lo 1 = nI r1) : lpF (fun u9 : Int32 × Int32 => B_X5_canShare_9 (nI m) f sh lo u9.1 u9.2) K ((0 : Int32), (0 : Int32)) = some (if alF (shp f m q0 q1 r0 r1) n = true then 1 else 0) := by
  have B : ∀ j, j < n → B_X5_canShare_9 (nI m) f sh lo (nI (bcn m j)) (nI j) = if m / 2 ^ j % 2 = 0 then some (.inl (nI (bcn m j), nI (j + 1))) else if qvl f (shv q0 r0 (bcn m j)) (shv q1 r1 (bcn m j)) = 0 then some (.inr 0) else some (.inl (nI (bcn m j + 1), nI (j + 1))) := by
    intro j hj
    have bl := bcn_le m j
    unfold B_X5_canShare_9 F_X5_sites
    rw [xb1, h3, if_neg (mt (nI_leI (a := n) (b := j) (by omega) (by omega)).mp (by omega)), bit_at m hm j (by omega), c_shareOf (a := 0) (by rfl) (by decide) hr0 (by omega) s0 l0, xb1, c_shareOf (a := 1) (by rfl) (by decide) hr1 (by omega) s1 l1, xb1, qvl_is, xb1, nI_1, nI_1]
    by_cases c : m / 2 ^ j % 2 = 0
    · rw [if_pos (gb_z.mpr c), if_pos c]
    · rw [if_neg (mt gb_z.mp c), if_neg c]
  refine lp_all (fun j => (nI (bcn m j), nI j)) (shp f m q0 q1 r0 r1) (n := n) (by omega) (fun j hj hp => ?_) (fun j hj hp => ?_) ?_
  · show B_X5_canShare_9 (nI m) f sh lo (nI (bcn m j)) (nI j) = some (.inl (nI (bcn m j + m / 2 ^ j % 2), nI (j + 1)))
    rw [B j hj]
    by_cases c : m / 2 ^ j % 2 = 0
    · rw [if_pos c, c, Nat.add_zero (bcn m j)]
    · have q : ¬ qvl f (shv q0 r0 (bcn m j)) (shv q1 r1 (bcn m j)) = 0 := by
        unfold shp at hp
        rw [decide_eq_false c, Bool.false_or] at hp
        exact of_decide_eq_true hp
      rw [if_neg c, if_neg q, show m / 2 ^ j % 2 = 1 by omega]
  · show B_X5_canShare_9 (nI m) f sh lo (nI (bcn m j)) (nI j) = some (.inr 0)
    unfold shp at hp
    rw [Bool.or_eq_false_iff] at hp
    have c : ¬ m / 2 ^ j % 2 = 0 := of_decide_eq_false hp.1
    have q : qvl f (shv q0 r0 (bcn m j)) (shv q1 r1 (bcn m j)) = 0 := Decidable.not_not.mp (of_decide_eq_false hp.2)
    rw [B j hj, if_neg c, if_pos q]
  · show B_X5_canShare_9 (nI m) f sh lo (nI (bcn m n)) (nI n) = some (.inr 1)
    unfold B_X5_canShare_9 F_X5_sites
    rw [xb1, h3, if_pos ((nI_leI (a := n) (b := n) (by omega) (by omega)).mpr (Nat.le_refl _))]
theorem gsub_le0 {a b : Nat} (ha : a < 2 ^ 30) (hb : b < 2 ^ 30) : nI a - nI b ≤ (0 : Int32) ↔ a ≤ b := by
  rw [Int32.le_iff_toInt_le, pk_sub_toInt ha hb, Int32.toInt_zero]
  omega
theorem sub_1 {a b : Nat} : nI a - nI b + (-1 : Int32) = nI a - nI (b + 1) := by
  rw [← nI_1 b, ← Int32.sub_sub, Int32.sub_eq_add_neg (nI a - nI b) 1]
/-- the shares as the reference lays them -/
def shu (w : Nat → Int32) (m : Nat) (s : Nat → Int32) : Nat → Nat → Int32
  | 0 => s
  | k + 1 => if m / 2 ^ k % 2 = 0 then shu w m s k else upd (shu w m s k) k (w k)
theorem shu_at {w s : Nat → Int32} {m j : Nat} (hb : ¬ m / 2 ^ j % 2 = 0) : ∀ n, j < n → shu w m s n j = w j := by
  intro n
  induction n with
  | zero => exact fun z => absurd z (Nat.not_lt_zero _)
  | succ k ih =>
    intro hk
    show (if m / 2 ^ k % 2 = 0 then shu w m s k else upd (shu w m s k) k (w k)) j = w j
    by_cases e : j = k
    · rw [← e, if_neg hb, upd_at]
    · by_cases c : m / 2 ^ k % 2 = 0
      · rw [if_pos c]
        exact ih (by omega)
      · rw [if_neg c, upd_ne e]
        exact ih (by omega)
/-- the reference's points, and whether what is there is allowed: the class's quiet -/
theorem pt_both {n K : Nat} {f g : Nat → Int32} (hK : 200000 ≤ K) (h : RowR n f g) {p : Int32} : F_X8_pointX K p g (nI n) = some (f 4 + nI n * p) ∧ F_X8_pointY K p g (nI n) = some (f 5 + nI n * p) := by
  have n8 := h.n8
  have e16 : F_X8_sum K (16 : Int32) g (nI n) = some (f 4) := by rw [h.sx]; exact bm_sum hK n8 (b := 16) (by decide)
  have e24 : F_X8_sum K (24 : Int32) g (nI n) = some (f 5) := by rw [h.sy]; exact bm_sum hK n8 (b := 24) (by decide)
  unfold F_X8_pointX F_X8_pointY
  rw [e16, e24, xb1, xb1]
  exact ⟨rfl, rfl⟩
theorem al_both {n K : Nat} {f g : Nat → Int32} (hK : 200000 ≤ K) (h : RowR n f g) (hg : RowG g) (h72 : g 72 = 0) {p1 p2 : Int32} : F_X8_isAllowed (f 4 + nI n * p1) (f 5 + nI n * p2) g = some (qvl f p1 p2) := by
  have q := q_both hK h hg (p1 := p1) (p2 := p2)
  rw [qvl_is] at q
  unfold F_X8_isQuietBy at q
  rw [h72, if_neg (by decide), (pt_both hK h).1, xb1, (pt_both hK h).2, xb1, bd1_id] at q
  exact q.symm
theorem m_shB {n m j K b : Nat} {f g sx sy : Nat → Int32} {x y q0 q1 : Int32} {r0 r1 : Nat} {v : Int32} (hK : 200000 ≤ K) (h : RowR n f g) (hg : RowG g) (h72 : g 72 = 0) (hm : m < 256) (hj : j < n) (hr0 : r0 < 2 ^ 30) (hr1 : r1 < 2 ^ 30) (e0 : F_J9_floorDiv_7cf53 x (nI b) = some q0) (e1 : F_J9_floorDiv_7cf53 y (nI b) = some q1) : B_X8_shares_95 K (nI m) (nI n) g (nI b) x y (nI r0 - nI (bcn m j)) (nI r1 - nI (bcn m j)) v (nI j) sx sy = some (.inl (if m / 2 ^ j % 2 = 0 then (nI r0 - nI (bcn m j), nI r1 - nI (bcn m j), v, nI (j + 1), sx, sy) else (nI r0 - nI (bcn m j + 1), nI r1 - nI (bcn m j + 1), (if v = 0 then 0 else if qvl f (shv q0 r0 (bcn m j)) (shv q1 r1 (bcn m j)) = 0 then 0 else 1), nI (j + 1), upd sx j (shv q0 r0 (bcn m j)), upd sy j (shv q1 r1 (bcn m j))))) := by
  have n8 := h.n8
  have bl := bcn_le m j
  have J2 : ∀ sx' : Nat → Int32, sx' j = shv q0 r0 (bcn m j) → J_X8_shares_158_r96 K (nI n) g (if r1 ≤ bcn m j then 0 else 1) q1 (nI j) (nI r0 - nI (bcn m j)) (nI r1 - nI (bcn m j)) v (nI j) sx' sy = some (.inl (nI r0 - nI (bcn m j + 1), nI r1 - nI (bcn m j + 1), (if v = 0 then 0 else if qvl f (shv q0 r0 (bcn m j)) (shv q1 r1 (bcn m j)) = 0 then 0 else 1), nI (j + 1), sx', upd sy j (shv q1 r1 (bcn m j)))) := by
    intro sx' hx
    have ey : q1 + (if r1 ≤ bcn m j then (0 : Int32) else 1) = shv q1 r1 (bcn m j) := by
      unfold shv
      by_cases c : r1 ≤ bcn m j
      · rw [if_pos c, if_pos c, Int32.add_zero]
      · rw [if_neg c, if_neg c]
    unfold J_X8_shares_158_r96
    simp only [xixn (show j < 8 by omega) (by decide), nI_clamp (show j < 2 ^ 31 by omega), xnm, upd_at, hx, ey, (pt_both hK h).1, (pt_both hK h).2, xb1, al_both hK h hg h72, sub_1, nI_1]
    by_cases c : v = 0
    · rw [if_pos c, if_pos c]
    · rw [if_neg c, if_neg c]
      by_cases d : qvl f (shv q0 r0 (bcn m j)) (shv q1 r1 (bcn m j)) = 0
      · rw [if_pos d, if_pos d]
      · rw [if_neg d, if_neg d]
  have J1 : J_X8_shares_134_r96 K (nI n) g (if r0 ≤ bcn m j then 0 else 1) q0 (nI j) (nI b) y (nI r0 - nI (bcn m j)) (nI r1 - nI (bcn m j)) v (nI j) sx sy = some (.inl (nI r0 - nI (bcn m j + 1), nI r1 - nI (bcn m j + 1), (if v = 0 then 0 else if qvl f (shv q0 r0 (bcn m j)) (shv q1 r1 (bcn m j)) = 0 then 0 else 1), nI (j + 1), upd sx j (shv q0 r0 (bcn m j)), upd sy j (shv q1 r1 (bcn m j)))) := by
    have ex : q0 + (if r0 ≤ bcn m j then (0 : Int32) else 1) = shv q0 r0 (bcn m j) := by
      unfold shv
      by_cases c : r0 ≤ bcn m j
      · rw [if_pos c, if_pos c, Int32.add_zero]
      · rw [if_neg c, if_neg c]
    unfold J_X8_shares_134_r96
    rw [xixn (show j < 8 by omega) (by decide), xnm, nI_clamp (show j < 2 ^ 31 by omega), ex, e1, xb1]
    have J3 := J2 (upd sx j (shv q0 r0 (bcn m j))) upd_at
    by_cases c : r1 ≤ bcn m j
    · rw [if_pos c] at J3
      rw [if_pos ((gsub_le0 hr1 (by omega)).mpr c)]
      exact J3
    · rw [if_neg c] at J3
      rw [if_neg (mt (gsub_le0 hr1 (by omega)).mp c)]
      exact J3
  unfold B_X8_shares_95
  rw [if_neg (mt (nI_leI (a := n) (b := j) (by omega) (by omega)).mp (by omega)), gm_has hm (by omega), xb1, e0, xb1]
  by_cases c : m / 2 ^ j % 2 = 0
  · rw [if_pos (gb_z.mpr c), if_pos c, nI_1]
  · rw [if_neg (mt gb_z.mp c), if_neg c]
    by_cases d : r0 ≤ bcn m j
    · rw [if_pos d] at J1
      rw [if_pos ((gsub_le0 hr0 (by omega)).mpr d)]
      exact J1
    · rw [if_neg d] at J1
      rw [if_neg (mt (gsub_le0 hr0 (by omega)).mp d)]
      exact J1
theorem m_can {n m K b : Nat} {f g sx sy : Nat → Int32} {x y q0 q1 : Int32} {r0 r1 : Nat} (hK : 200000 ≤ K) (h : RowR n f g) (hg : RowG g) (h72 : g 72 = 0) (hm : m < 256) (hr0 : r0 < 2 ^ 30) (hr1 : r1 < 2 ^ 30) (e0 : F_J9_floorDiv_7cf53 x (nI b) = some q0) (e1 : F_J9_floorDiv_7cf53 y (nI b) = some q1) : lpF (fun u9 : Int32 × Int32 × Int32 × Int32 × (Nat → Int32) × (Nat → Int32) => B_X8_shares_95 K (nI m) (nI n) g (nI b) x y u9.1 u9.2.1 u9.2.2.1 u9.2.2.2.1 u9.2.2.2.2.1 u9.2.2.2.2.2) K (nI r0, nI r1, (1 : Int32), (0 : Int32), sx, sy) = some ((if alF (shp f m q0 q1 r0 r1) n = true then 1 else 0), shu (fun j => shv q0 r0 (bcn m j)) m sx n, shu (fun j => shv q1 r1 (bcn m j)) m sy n) := by
  have n8 := h.n8
  have z0 : (nI r0, nI r1, (1 : Int32), (0 : Int32), sx, sy) = (nI r0 - nI (bcn m 0), nI r1 - nI (bcn m 0), (if alF (shp f m q0 q1 r0 r1) 0 = true then (1 : Int32) else 0), nI 0, shu (fun j => shv q0 r0 (bcn m j)) m sx 0, shu (fun j => shv q1 r1 (bcn m j)) m sy 0) := by
    show _ = (nI r0 - (0 : Int32), nI r1 - (0 : Int32), (if true = true then (1 : Int32) else 0), (0 : Int32), sx, sy)
    rw [Int32.sub_zero, Int32.sub_zero, if_pos rfl]
  rw [z0]
  refine lp_for (fun j => (nI r0 - nI (bcn m j), nI r1 - nI (bcn m j), (if alF (shp f m q0 q1 r0 r1) j = true then (1 : Int32) else 0), nI j, shu (fun j => shv q0 r0 (bcn m j)) m sx j, shu (fun j => shv q1 r1 (bcn m j)) m sy j)) (n := n) (by omega) (fun j hj => ?_) ?_
  · show B_X8_shares_95 K (nI m) (nI n) g (nI b) x y (nI r0 - nI (bcn m j)) (nI r1 - nI (bcn m j)) (if alF (shp f m q0 q1 r0 r1) j = true then (1 : Int32) else 0) (nI j) (shu (fun j => shv q0 r0 (bcn m j)) m sx j) (shu (fun j => shv q1 r1 (bcn m j)) m sy j) = some (.inl (nI r0 - nI (bcn m j + m / 2 ^ j % 2), nI r1 - nI (bcn m j + m / 2 ^ j % 2), (if (alF (shp f m q0 q1 r0 r1) j && shp f m q0 q1 r0 r1 j) = true then (1 : Int32) else 0), nI (j + 1), (if m / 2 ^ j % 2 = 0 then shu (fun j => shv q0 r0 (bcn m j)) m sx j else upd (shu (fun j => shv q0 r0 (bcn m j)) m sx j) j (shv q0 r0 (bcn m j))), (if m / 2 ^ j % 2 = 0 then shu (fun j => shv q1 r1 (bcn m j)) m sy j else upd (shu (fun j => shv q1 r1 (bcn m j)) m sy j) j (shv q1 r1 (bcn m j)))))
    rw [m_shB hK h hg h72 hm hj hr0 hr1 e0 e1]
    by_cases c : m / 2 ^ j % 2 = 0
    · have p1 : shp f m q0 q1 r0 r1 j = true := by
        unfold shp
        rw [decide_eq_true c, Bool.true_or]
      rw [if_pos c, if_pos c, if_pos c, c, Nat.add_zero (bcn m j), p1, Bool.and_true]
    · rw [if_neg c, if_neg c, if_neg c, show m / 2 ^ j % 2 = 1 by omega]
      have p1 : shp f m q0 q1 r0 r1 j = decide (¬ qvl f (shv q0 r0 (bcn m j)) (shv q1 r1 (bcn m j)) = 0) := by
        unfold shp
        rw [decide_eq_false c, Bool.false_or]
      rw [p1]
      cases alF (shp f m q0 q1 r0 r1) j with
      | false => rfl
      | true =>
        by_cases d : qvl f (shv q0 r0 (bcn m j)) (shv q1 r1 (bcn m j)) = 0
        · rw [if_pos d, decide_eq_false (fun z => z d)]
          rfl
        · rw [if_neg d, decide_eq_true d]
          rfl
  · show B_X8_shares_95 K (nI m) (nI n) g (nI b) x y (nI r0 - nI (bcn m n)) (nI r1 - nI (bcn m n)) (if alF (shp f m q0 q1 r0 r1) n = true then (1 : Int32) else 0) (nI n) (shu (fun j => shv q0 r0 (bcn m j)) m sx n) (shu (fun j => shv q1 r1 (bcn m j)) m sy n) = _
    unfold B_X8_shares_95
    rw [if_pos ((nI_leI (a := n) (b := n) (by omega) (by omega)).mpr (Nat.le_refl _))]
/-- whether a group can share -/
theorem sh_both {n m K : Nat} {f g sh lo sx sy : Nat → Int32} (hK : 200000 ≤ K) (h : RowR n f g) (hg : RowG g) (h72 : g 72 = 0) (hm : m < 256) (hb : 0 < bcn m 8) : ∃ (v q0 q1 : Int32) (r0 r1 : Nat) (sh' lo' sx' sy' : Nat → Int32), (v = 0 ∨ v = 1) ∧ r0 < 8 ∧ r1 < 8 ∧ F_X5_canShare K (nI m) f sh lo = some (v, sh', lo') ∧ F_X8_shares K (nI m) g (nI n) sx sy = some (v, sx', sy') ∧ (sh' 0 = q0 ∧ sh' 1 = q1 ∧ lo' 0 = nI r0 ∧ lo' 1 = nI r1) ∧ ∀ j, j < n → ¬ m / 2 ^ j % 2 = 0 → sx' j = shv q0 r0 (bcn m j) ∧ sy' j = shv q1 r1 (bcn m j) := by
  have n8 := h.n8
  have b8 := bcn_le m 8
  have gx : gsm (fun i => cdr f i 0) m n = gsm (mdx g) m n := gsm_eq n (fun i hi => (dr_both h.toRowB.st hi).1)
  have gy : gsm (fun i => cdr f i 1) m n = gsm (mdy g) m n := gsm_eq n (fun i hi => (dr_both h.toRowB.st hi).2)
  have bb : bcn m 8 = 1 ∨ bcn m 8 = 2 ∨ bcn m 8 = 3 ∨ bcn m 8 = 4 ∨ bcn m 8 = 5 ∨ bcn m 8 = 6 ∨ bcn m 8 = 7 ∨ bcn m 8 = 8 := by omega
  have nz : ¬ nI (bcn m 8) = (0 : Int32) := nI_ne0 hb (by omega)
  obtain ⟨q0, e0, -⟩ := t_floorDiv (a := gsm (mdx g) m n) nz
  obtain ⟨q1, e1, -⟩ := t_floorDiv (a := gsm (mdy g) m n) nz
  obtain ⟨r0, hr0, d0⟩ := fm_n (x := gsm (mdx g) m n) bb
  obtain ⟨r1, hr1, d1⟩ := fm_n (x := gsm (mdy g) m n) bb
  refine ⟨(if alF (shp f m q0 q1 r0 r1) n = true then 1 else 0), q0, q1, r0, r1, upd (upd sh 0 q0) 1 q1, upd (upd lo 0 (nI r0)) 1 (nI r1), shu (fun j => shv q0 r0 (bcn m j)) m sx n, shu (fun j => shv q1 r1 (bcn m j)) m sy n, ?_, by omega, by omega, ?_, ?_, ⟨?_, ?_, ?_, ?_⟩, ?_⟩
  · by_cases c : alF (shp f m q0 q1 r0 r1) n = true
    · exact Or.inr (if_pos c)
    · exact Or.inl (if_neg c)
  · unfold F_X5_canShare
    rw [c_meas hK hm n8 h.sz rfl hb (by rw [gx]; exact e0) (by rw [gy]; exact e1) (by rw [gx]; exact d0) (by rw [gy]; exact d1), xb2, c_can (q0 := q0) (q1 := q1) (r0 := r0) (r1 := r1) hK hm n8 h.sz (by omega) (by omega) (by rw [upd_ne (by decide), upd_at]) upd_at (by rw [upd_ne (by decide), upd_at]) upd_at, xb1]
    by_cases c : alF (shp f m q0 q1 r0 r1) n = true
    · rw [if_pos c, if_pos c, if_neg (by decide), if_pos rfl]
    · rw [if_neg c, if_neg c, if_pos rfl]
  · unfold F_X8_shares
    rw [bits_m hK hm, xb1, m_msum hK hm n8, xb2, d0, xb1, d1, xb1, m_can hK h hg h72 hm (by omega) (by omega) e0 e1, xb3]
    unfold zbF
    by_cases c : alF (shp f m q0 q1 r0 r1) n = true
    · rw [if_pos c, if_pos (Or.inr rfl)]
    · rw [if_neg c, if_pos (Or.inl rfl)]
  · rw [upd_ne (by decide), upd_at]
  · exact upd_at
  · rw [upd_ne (by decide), upd_at]
  · exact upd_at
  · intro j hj hbj
    exact ⟨shu_at hbj n hj, shu_at hbj n hj⟩
end
-- 83c.12
section
/-! Stage B, 12: a group takes its shares, in both -/
theorem c_bal2 {K i k : Nat} {f sh lo : Nat → Int32} {q0 q1 : Int32} {r0 r1 : Nat} (hK : 200000 ≤ K) (hi : i < 8) (hk : k < 2 ^ 30) (hr0 : r0 < 8) (hr1 : r1 < 8) (s0 : sh 0 = q0) (s1 : sh 1 = q1) (l0 : lo 0 = nI r0) (l1 : lo 1 = nI r1) : lpF (fun u9 : Int32 × (Nat → Int32) => B_X5_balance_42 sh lo (nI k) (nI i) u9.1 u9.2) K ((0 : Int32), f) = some (upd (upd f (17 + 8 * i + 4) (f (17 + 8 * i + 4) + (shv q0 r0 k - cdr f i 0))) (17 + 8 * i + 5) (upd f (17 + 8 * i + 4) (f (17 + 8 * i + 4) + (shv q0 r0 k - cdr f i 0)) (17 + 8 * i + 5) + (shv q1 r1 k - cdr (upd f (17 + 8 * i + 4) (f (17 + 8 * i + 4) + (shv q0 r0 k - cdr f i 0))) i 1))) := by
  have t0 : B_X5_balance_42 sh lo (nI k) (nI i) 0 f = some (.inl ((1 : Int32), upd f (17 + 8 * i + 4) (f (17 + 8 * i + 4) + (shv q0 r0 k - cdr f i 0)))) := by
    unfold B_X5_balance_42
    rw [if_neg (by decide), c_shareOf (a := 0) (by rfl) (by decide) (by omega) hk s0 l0, xb1, show F_X5_drift (nI i) 0 f = some (cdr f i 0) from b_drift (a := 0) hi (by decide), xb1, bx_of (c := 4) (by rfl) hi (by decide), xb1, bx_put (c := 4) (by rfl) hi (by decide), xb1]
    rfl
  have t1 : ∀ f1 : Nat → Int32, B_X5_balance_42 sh lo (nI k) (nI i) 1 f1 = some (.inl ((2 : Int32), upd f1 (17 + 8 * i + 5) (f1 (17 + 8 * i + 5) + (shv q1 r1 k - cdr f1 i 1)))) := by
    intro f1
    unfold B_X5_balance_42
    rw [if_neg (by decide), c_shareOf (a := 1) (by rfl) (by decide) (by omega) hk s1 l1, xb1, show F_X5_drift (nI i) 1 f1 = some (cdr f1 i 1) from b_drift (a := 1) hi (by decide), xb1, bx_of (c := 5) (by rfl) hi (by decide), xb1, bx_put (c := 5) (by rfl) hi (by decide), xb1]
    rfl
  have t2 : ∀ f2 : Nat → Int32, B_X5_balance_42 sh lo (nI k) (nI i) 2 f2 = some (.inr f2) := by
    intro f2
    unfold B_X5_balance_42
    rw [if_pos (by decide)]
  exact lp_2 (b := fun u9 : Int32 × (Nat → Int32) => B_X5_balance_42 sh lo (nI k) (nI i) u9.1 u9.2) (by omega) t0 (t1 _) (t2 _)
theorem m_tak {n m i : Nat} {g sx sy : Nat → Int32} (hm : m < 256) (n8 : n ≤ 8) (hi : i < n) (hb : ¬ m / 2 ^ i % 2 = 0) : B_X8_takesShares_2 (nI m) (nI n) sx sy (nI i) g = some (.inl (nI (i + 1), upd (upd g (32 + i) (g (32 + i) + (sx i - mdx g i))) (40 + i) (upd g (32 + i) (g (32 + i) + (sx i - mdx g i)) (40 + i) + (sy i - mdy (upd g (32 + i) (g (32 + i) + (sx i - mdx g i))) i)))) := by
  unfold B_X8_takesShares_2
  rw [if_neg (mt (nI_leI (a := n) (b := i) (by omega) (by omega)).mp (by omega)), gm_has hm (by omega), xb1, if_neg (mt gb_z.mp hb)]
  simp only [bm_ix (A := (32 : Int32)) (a := 32) rfl (show 32 + i < 265 by omega), bm_ix (A := (40 : Int32)) (a := 40) rfl (show 40 + i < 265 by omega), bm_cl (A := (32 : Int32)) (a := 32) rfl (show 32 + i < 265 by omega), bm_cl (A := (40 : Int32)) (a := 40) rfl (show 40 + i < 265 by omega), xixn (show i < 8 by omega) (by decide), nI_clamp (show i < 2 ^ 31 by omega), m_drX (show i < 8 by omega), m_drY (show i < 8 by omega), xb1, xnm, nI_1]
def BlR (n m : Nat) (f g : Nat → Int32) (i : Nat) (s : Int32 × Int32 × (Nat → Int32)) (t : Int32 × (Nat → Int32)) : Prop := s.1 = nI (bcn m i) ∧ s.2.1 = nI i ∧ t.1 = nI i ∧ StB n s.2.2 t.2 ∧ (∀ k, k < 17 → s.2.2 k = f k) ∧ ∀ k, (k < 32 ∨ 48 ≤ k) → t.2 k = g k
theorem BlR.step {n m i K : Nat} {f g sh lo sx sy : Nat → Int32} {q0 q1 : Int32} {r0 r1 : Nat} {s : Int32 × Int32 × (Nat → Int32)} {t : Int32 × (Nat → Int32)} (hK : 200000 ≤ K) (n8 : n ≤ 8) (h3 : f 3 = nI n) (hm : m < 256) (hi : i < n) (hr0 : r0 < 8) (hr1 : r1 < 8) (s0 : sh 0 = q0) (s1 : sh 1 = q1) (l0 : lo 0 = nI r0) (l1 : lo 1 = nI r1) (hs : ∀ j, j < n → ¬ m / 2 ^ j % 2 = 0 → sx j = shv q0 r0 (bcn m j) ∧ sy j = shv q1 r1 (bcn m j)) (h : BlR n m f g i s t) : ∃ s' t', B_X5_balance_20 K (nI m) sh lo s.1 s.2.1 s.2.2 = some (.inl s') ∧ B_X8_takesShares_2 (nI m) (nI n) sx sy t.1 t.2 = some (.inl t') ∧ BlR n m f g (i + 1) s' t' := by
  obtain ⟨x, y, f1⟩ := s
  obtain ⟨z, g1⟩ := t
  obtain ⟨e1, e2, e3, hB, hf, hg⟩ := h
  have e1 : x = nI (bcn m i) := e1
  have e2 : y = nI i := e2
  have e3 : z = nI i := e3
  subst e1 e2 e3
  have hB : StB n f1 g1 := hB
  have hf : ∀ k, k < 17 → f1 k = f k := hf
  have hg : ∀ k, (k < 32 ∨ 48 ≤ k) → g1 k = g k := hg
  have bl := bcn_le m i
  have C : B_X5_balance_20 K (nI m) sh lo (nI (bcn m i)) (nI i) f1 = if m / 2 ^ i % 2 = 0 then some (.inl (nI (bcn m i), nI (i + 1), f1)) else some (.inl (nI (bcn m i + 1), nI (i + 1), upd (upd f1 (17 + 8 * i + 4) (f1 (17 + 8 * i + 4) + (shv q0 r0 (bcn m i) - cdr f1 i 0))) (17 + 8 * i + 5) (upd f1 (17 + 8 * i + 4) (f1 (17 + 8 * i + 4) + (shv q0 r0 (bcn m i) - cdr f1 i 0)) (17 + 8 * i + 5) + (shv q1 r1 (bcn m i) - cdr (upd f1 (17 + 8 * i + 4) (f1 (17 + 8 * i + 4) + (shv q0 r0 (bcn m i) - cdr f1 i 0))) i 1)))) := by
    unfold B_X5_balance_20 F_X5_sites
    rw [xb1, hf 3 (by decide), h3, if_neg (mt (nI_leI (a := n) (b := i) (by omega) (by omega)).mp (by omega)), bit_at m hm i (by omega), c_bal2 (q0 := q0) (q1 := q1) (r0 := r0) (r1 := r1) hK (by omega) (by omega) hr0 hr1 s0 s1 l0 l1, xb1, nI_1, nI_1]
    by_cases c : m / 2 ^ i % 2 = 0
    · rw [if_pos (gb_z.mpr c), if_pos c]
    · rw [if_neg (mt gb_z.mp c), if_neg c]
  by_cases c : m / 2 ^ i % 2 = 0
  · rw [if_pos c] at C
    refine ⟨_, (nI (i + 1), g1), C, ?_, ?_, rfl, rfl, hB, hf, hg⟩
    · show B_X8_takesShares_2 (nI m) (nI n) sx sy (nI i) g1 = _
      unfold B_X8_takesShares_2
      rw [if_neg (mt (nI_leI (a := n) (b := i) (by omega) (by omega)).mp (by omega)), gm_has hm (by omega), xb1, if_pos (gb_z.mpr c), nI_1]
    · show nI (bcn m i) = nI (bcn m i + m / 2 ^ i % 2)
      rw [c, Nat.add_zero (bcn m i)]
  · rw [if_neg c] at C
    have M := m_tak (g := g1) (sx := sx) (sy := sy) hm n8 hi c
    obtain ⟨w0, w1⟩ := hs i hi c
    rw [w0, w1] at M
    have k0 := (dr_both hB hi).1
    have c4 : f1 (17 + 8 * i + 4) = g1 (32 + i) := hB i 4 hi (by decide)
    rw [c4, k0] at C
    have B1 : StB n (upd f1 (17 + 8 * i + 4) (g1 (32 + i) + (shv q0 r0 (bcn m i) - mdx g1 i))) (upd g1 (32 + i) (g1 (32 + i) + (shv q0 r0 (bcn m i) - mdx g1 i))) := hB.put (c := 4) n8 hi (by decide) _
    have hf1 : ∀ k, k < 17 → upd f1 (17 + 8 * i + 4) (g1 (32 + i) + (shv q0 r0 (bcn m i) - mdx g1 i)) k = f k := fun k hk => (upd_ne (by omega)).trans (hf k hk)
    have hg1 : ∀ k, (k < 32 ∨ 48 ≤ k) → upd g1 (32 + i) (g1 (32 + i) + (shv q0 r0 (bcn m i) - mdx g1 i)) k = g k := fun k hk => (upd_ne (by omega)).trans (hg k hk)
    generalize upd f1 (17 + 8 * i + 4) (g1 (32 + i) + (shv q0 r0 (bcn m i) - mdx g1 i)) = f2 at C B1 hf1
    generalize upd g1 (32 + i) (g1 (32 + i) + (shv q0 r0 (bcn m i) - mdx g1 i)) = g2 at M B1 hg1
    have k1 := (dr_both B1 hi).2
    have c5 : f2 (17 + 8 * i + 5) = g2 (40 + i) := B1 i 5 hi (by decide)
    rw [c5, k1] at C
    refine ⟨_, _, C, M, ?_, rfl, rfl, B1.put (c := 5) n8 hi (by decide) _, fun k hk => (upd_ne (by omega)).trans (hf1 k hk), fun k hk => (upd_ne (by omega)).trans (hg1 k hk)⟩
    show nI (bcn m i + 1) = nI (bcn m i + m / 2 ^ i % 2)
    rw [show m / 2 ^ i % 2 = 1 by omega]
/-- a group takes its shares -/
theorem bl_both {n m K : Nat} {f g sh lo sx sy : Nat → Int32} {q0 q1 ac oc : Int32} {r0 r1 : Nat} (hK : 200000 ≤ K) (h : RowR n f g) (hm : m < 256) (hr0 : r0 < 8) (hr1 : r1 < 8) (s0 : sh 0 = q0) (s1 : sh 1 = q1) (l0 : lo 0 = nI r0) (l1 : lo 1 = nI r1) (hs : ∀ j, j < n → ¬ m / 2 ^ j % 2 = 0 → sx j = shv q0 r0 (bcn m j) ∧ sy j = shv q1 r1 (bcn m j)) : ∃ f' g', F_X5_balance K (nI m) f ac oc sh lo = some (((1 : Int32) + ((2 : Int32) * ac)) + nI (bcn m n), f', 1) ∧ F_X8_takesShares K (nI m) g (nI n) sx sy = some g' ∧ RowR n f' (upd g' 69 (g' 69 + 1)) ∧ ∀ k, (k < 32 ∨ 48 ≤ k) → g' k = g k := by
  have n8 := h.n8
  have e13 : f 13 = g 69 := h.sc (13, 69) (by decide)
  have z3 : (upd f 13 (f 13 + 1)) 3 = nI n := (upd_ne (by decide)).trans h.sz
  have he : ∀ s t, BlR n m (upd f 13 (f 13 + 1)) g n s t → ∃ r u, (fun u9 : Int32 × Int32 × (Nat → Int32) => B_X5_balance_20 K (nI m) sh lo u9.1 u9.2.1 u9.2.2) s = some (.inr r) ∧ (fun u9 : Int32 × (Nat → Int32) => B_X8_takesShares_2 (nI m) (nI n) sx sy u9.1 u9.2) t = some (.inr u) ∧ (r.1 = nI (bcn m n) ∧ StB n r.2 u ∧ (∀ k, k < 17 → r.2 k = (upd f 13 (f 13 + 1)) k) ∧ ∀ k, (k < 32 ∨ 48 ≤ k) → u k = g k) := by
    intro s t q
    obtain ⟨x, y, f1⟩ := s
    obtain ⟨z, g1⟩ := t
    obtain ⟨e1, e2, e3, hB, hf, hg⟩ := q
    have e1 : x = nI (bcn m n) := e1
    have e2 : y = nI n := e2
    have e3 : z = nI n := e3
    subst e1 e2 e3
    have le : nI n ≤ nI n := (nI_leI (a := n) (b := n) (by omega) (by omega)).mpr (Nat.le_refl _)
    refine ⟨(nI (bcn m n), f1), g1, ?_, ?_, rfl, hB, hf, hg⟩
    · show B_X5_balance_20 K (nI m) sh lo (nI (bcn m n)) (nI n) f1 = _
      unfold B_X5_balance_20 F_X5_sites
      rw [xb1, show f1 3 = nI n from (hf 3 (by decide)).trans z3, if_pos le]
    · show B_X8_takesShares_2 (nI m) (nI n) sx sy (nI n) g1 = _
      unfold B_X8_takesShares_2
      rw [if_pos le]
  have h0 : BlR n m (upd f 13 (f 13 + 1)) g 0 ((0 : Int32), (0 : Int32), upd f 13 (f 13 + 1)) ((0 : Int32), g) := ⟨rfl, rfl, rfl, StB.low h.toRowB.st (by decide) _, fun _ _ => rfl, fun _ _ => rfl⟩
  obtain ⟨r, u, l1', l2', hx, hB, hf, hg⟩ := lp_two (b := fun u9 : Int32 × Int32 × (Nat → Int32) => B_X5_balance_20 K (nI m) sh lo u9.1 u9.2.1 u9.2.2) (d := fun u9 : Int32 × (Nat → Int32) => B_X8_takesShares_2 (nI m) (nI n) sx sy u9.1 u9.2) (BlR n m (upd f 13 (f 13 + 1)) g) (fun r u => r.1 = nI (bcn m n) ∧ StB n r.2 u ∧ (∀ k, k < 17 → r.2 k = (upd f 13 (f 13 + 1)) k) ∧ ∀ k, (k < 32 ∨ 48 ≤ k) → u k = g k) (n := n) (K := K) (K' := K) (by omega) (by omega) (fun i s t hi q => Or.inl (BlR.step hK n8 z3 hm hi hr0 hr1 s0 s1 l0 l1 hs q)) he h0
  obtain ⟨x, f1⟩ := r
  have hx : x = nI (bcn m n) := hx
  have hB : StB n f1 u := hB
  have hf : ∀ k, k < 17 → f1 k = (upd f 13 (f 13 + 1)) k := hf
  have fx : ∀ k, k < 17 → ¬ k = 13 → f1 k = f k := fun k hk a => (hf k hk).trans (upd_ne a)
  refine ⟨f1, u, ?_, ?_, h.of (hB.high n8 (by decide) _) (fx 3 (by decide) (by decide)) ?_ (fx 4 (by decide) (by decide)) (fx 5 (by decide) (by decide)) (fx 7 (by decide) (by decide)) (fun i hi => (upd_ne (by omega)).trans (hg (76 + i) (by omega))) (fun k a b => (upd_ne (by omega)).trans (hg k (by omega))), hg⟩
  · unfold F_X5_balance
    rw [xnm, l1', xb2, hx]
  · unfold F_X8_takesShares
    rw [l2', xb1]
  · intro q hq
    obtain ⟨b1, b2, b3, b4, b5, b6, b7⟩ := rowScl_b q hq
    have u13 := rowScl_u q hq (13, 69) (by decide)
    by_cases c : q.1 = 13
    · rw [c, show q.2 = 69 from u13.mp c, upd_at, hf 13 (by decide), upd_at, hg 69 (by omega), e13]
    · rw [fx q.1 b1 c, upd_ne (fun z => c (u13.mpr z)), hg q.2 (Or.inr (by omega))]
      exact h.sc q hq
end
-- 83c.13
section
/-! Stage B, 13: one moves, speaks and asks, in both -/
/-- whom one asks, i behind itself -/
def nxp (n p i : Nat) : Nat := if n ≤ p + i then p + i - n else p + i
theorem nxp_lt {n p i : Nat} (hp : p < n) (hi : i < n) : nxp n p i < n := by unfold nxp; split <;> omega
theorem nxp_mod {n p i : Nat} (hp : p < n) (hi : i < n) : (p + i) % n = nxp n p i := by
  unfold nxp
  by_cases c : n ≤ p + i
  · rw [if_pos c, Nat.mod_eq_sub_mod c, Nat.mod_eq_of_lt (by omega)]
  · rw [if_neg c, Nat.mod_eq_of_lt (by omega)]
theorem nxp_ne {n p i j : Nat} (hp : p < n) (hi : i < n) (hj : j < i) : ¬ nxp n p i = nxp n p j := by unfold nxp; split <;> split <;> omega
theorem nxp_0 {n p : Nat} (hp : p < n) : nxp n p 0 = p := by unfold nxp; rw [if_neg (by omega), Nat.add_zero]
theorem grp_1 : ∀ k, k < 8 → (1 : Int32) <<< (nI k &&& 31) = nI (2 ^ k) ∧ bcn (2 ^ k) 8 = 1 ∧ ∀ j, j < 8 → ¬ 2 ^ k / 2 ^ j % 2 = 0 → j = k := by decide +kernel
theorem grp_orA : ∀ m, m < 256 → ∀ k, k < 8 → m / 2 ^ k % 2 = 0 → nI m ||| ((1 : Int32) <<< (nI k &&& 31)) = nI (m + 2 ^ k) := by decide +kernel
theorem grp_orB : ∀ m, m < 256 → ∀ k, k < 8 → m / 2 ^ k % 2 = 0 → bcn (m + 2 ^ k) 8 = bcn m 8 + 1 := by decide +kernel
theorem grp_orC : ∀ m, m < 256 → ∀ k, k < 8 → ∀ j, j < 8 → ¬ m / 2 ^ k % 2 = 0 ∨ (m + 2 ^ k) / 2 ^ j % 2 = 0 ∨ j = k ∨ m / 2 ^ j % 2 = 1 := by decide +kernel
theorem grp_or (m : Nat) (hm : m < 256) (k : Nat) (hk : k < 8) (hb : m / 2 ^ k % 2 = 0) : nI m ||| ((1 : Int32) <<< (nI k &&& 31)) = nI (m + 2 ^ k) ∧ bcn (m + 2 ^ k) 8 = bcn m 8 + 1 ∧ ∀ j, j < 8 → ¬ (m + 2 ^ k) / 2 ^ j % 2 = 0 → j = k ∨ ¬ m / 2 ^ j % 2 = 0 := by
  refine ⟨grp_orA m hm k hk hb, grp_orB m hm k hk hb, fun j hj h => ?_⟩
  rcases grp_orC m hm k hk j hj with e | e | e | e
  · exact absurd hb e
  · exact absurd e h
  · exact Or.inl e
  · exact Or.inr (by omega)
theorem grp_lt : ∀ n, n < 9 → ∀ m, m < 2 ^ n → ∀ k, k < n → m / 2 ^ k % 2 = 0 → m + 2 ^ k < 2 ^ n := by decide +kernel
theorem grp_n : ∀ n, n < 9 → ∀ m, m < 2 ^ n → bcn m n = bcn m 8 := by decide +kernel
def SqR (n p : Nat) (i : Nat) (s : Int32 × Int32 × (Nat → Int32) × Int32 × (Nat → Int32) × (Nat → Int32)) (t : Int32 × Int32 × Int32 × (Nat → Int32) × (Nat → Int32) × Int32 × (Nat → Int32)) : Prop := ∃ m a, m < 2 ^ n ∧ s.1 = nI m ∧ t.1 = nI m ∧ s.2.1 = nI (i + 1) ∧ t.2.2.1 = nI (i + 1) ∧ t.2.1 = 0 ∧ s.2.2.2.1 = nI a ∧ t.2.2.2.2.2.1 = nI a ∧ a ≤ i ∧ i < n ∧ bcn m 8 = a + 1 ∧ (∀ j, j < a → s.2.2.1 j = t.2.2.2.2.2.2 j) ∧ ∀ j, j < 8 → ¬ m / 2 ^ j % 2 = 0 → ∃ o, o < i + 1 ∧ j = nxp n p o
/-- how the search ends -/
def SqQ (n : Nat) (r : Nat × Int32 × (Nat → Int32) × Int32 × (Nat → Int32) × (Nat → Int32)) (u : Int32 × Int32 × (Nat → Int32) × (Nat → Int32) × Int32 × (Nat → Int32)) : Prop := ∃ m a, m < 2 ^ n ∧ r.2.1 = nI m ∧ u.1 = nI m ∧ r.2.2.2.1 = nI a ∧ u.2.2.2.2.1 = nI a ∧ a < n ∧ (∀ j, j < a → r.2.2.1 j = u.2.2.2.2.2 j) ∧ ((r.1 = 1 ∧ u.2.1 = 0) ∨ (r.1 = 0 ∧ u.2.1 = 1 ∧ bcn m 8 = a + 1 ∧ ∃ (q0 q1 : Int32) (r0 r1 : Nat), r0 < 8 ∧ r1 < 8 ∧ (r.2.2.2.2.1 0 = q0 ∧ r.2.2.2.2.1 1 = q1 ∧ r.2.2.2.2.2 0 = nI r0 ∧ r.2.2.2.2.2 1 = nI r1) ∧ ∀ j, j < n → ¬ m / 2 ^ j % 2 = 0 → u.2.2.1 j = shv q0 r0 (bcn m j) ∧ u.2.2.2.1 j = shv q1 r1 (bcn m j)))
theorem SqR.step {n p i K : Nat} {f g : Nat → Int32} {s : Int32 × Int32 × (Nat → Int32) × Int32 × (Nat → Int32) × (Nat → Int32)} {t : Int32 × Int32 × Int32 × (Nat → Int32) × (Nat → Int32) × Int32 × (Nat → Int32)} (hK : 200000 ≤ K) (h : RowR n f g) (hg : RowG g) (hp : p < n) (q : SqR n p i s t) : (i < 8 ∧ ∃ s' t', B_X5_moveSite_46 K (nI p) f s.1 s.2.1 s.2.2.1 s.2.2.2.1 s.2.2.2.2.1 s.2.2.2.2.2 = some (.inl s') ∧ B_X8_speaks_40 K (nI p) (nI n) g t.1 t.2.1 t.2.2.1 t.2.2.2.1 t.2.2.2.2.1 t.2.2.2.2.2.1 t.2.2.2.2.2.2 = some (.inl t') ∧ SqR n p (i + 1) s' t') ∨ (∃ r u, B_X5_moveSite_46 K (nI p) f s.1 s.2.1 s.2.2.1 s.2.2.2.1 s.2.2.2.2.1 s.2.2.2.2.2 = some (.inr r) ∧ (∀ J, 2 ≤ J → lpF (fun u9 : Int32 × Int32 × Int32 × (Nat → Int32) × (Nat → Int32) × Int32 × (Nat → Int32) => B_X8_speaks_40 K (nI p) (nI n) g u9.1 u9.2.1 u9.2.2.1 u9.2.2.2.1 u9.2.2.2.2.1 u9.2.2.2.2.2.1 u9.2.2.2.2.2.2) J t = some u) ∧ SqQ n r u) := by
  obtain ⟨x4, x5, P, ac, sh, lo⟩ := s
  obtain ⟨y2, y3, y4, sx, sy, as, A⟩ := t
  obtain ⟨m, a, hm, e1, e2, e3, e4, e5, e6, e7, ha, hin, hbc, hPA, hmm⟩ := q
  have e1 : x4 = nI m := e1
  have e2 : y2 = nI m := e2
  have e3 : x5 = nI (i + 1) := e3
  have e4 : y4 = nI (i + 1) := e4
  have e5 : y3 = 0 := e5
  have e6 : ac = nI a := e6
  have e7 : as = nI a := e7
  have hPA : ∀ j, j < a → P j = A j := hPA
  subst e1 e2 e3 e4 e5 e6 e7
  have n8 : n ≤ 8 := h.1.1
  have m8 : m < 256 := Nat.lt_of_lt_of_le hm (Nat.pow_le_pow_right (by decide) n8)
  have h3 : f 3 = nI n := h.1.2.1
  have e672 : f 6 = g 72 := h.1.2.2.2.1 (6, 72) (by decide)
  have goE : ∀ {u : Int32 × Int32 × (Nat → Int32) × (Nat → Int32) × Int32 × (Nat → Int32)}, B_X8_speaks_40 K (nI p) (nI n) g (nI m) 0 (nI (i + 1)) sx sy (nI a) A = some (.inr u) → ∀ J, 2 ≤ J → lpF (fun u9 : Int32 × Int32 × Int32 × (Nat → Int32) × (Nat → Int32) × Int32 × (Nat → Int32) => B_X8_speaks_40 K (nI p) (nI n) g u9.1 u9.2.1 u9.2.2.1 u9.2.2.2.1 u9.2.2.2.2.1 u9.2.2.2.2.2.1 u9.2.2.2.2.2.2) J (nI m, 0, nI (i + 1), sx, sy, nI a, A) = some u := by
    intro u hu J hJ
    obtain ⟨J2, rfl⟩ : ∃ J2, J = J2 + 1 := ⟨J - 1, by omega⟩
    exact lp_end hu
  by_cases c : n ≤ i + 1
  · refine Or.inr ⟨(1, nI m, P, nI a, sh, lo), (nI m, 0, sx, sy, nI a, A), ?_, goE ?_, m, a, hm, rfl, rfl, rfl, rfl, by omega, hPA, Or.inl ⟨rfl, rfl⟩⟩
    · show B_X5_moveSite_46 K (nI p) f (nI m) (nI (i + 1)) P (nI a) sh lo = _
      unfold B_X5_moveSite_46
      rw [h3, if_pos ((nI_leI (a := n) (b := i + 1) (by omega) (by omega)).mpr c)]
    · unfold B_X8_speaks_40
      rw [if_pos ((nI_leI (a := n) (b := i + 1) (by omega) (by omega)).mpr c)]
  have kl := nxp_lt (n := n) (p := p) (i := i + 1) hp (by omega)
  have C : B_X5_moveSite_46 K (nI p) f (nI m) (nI (i + 1)) P (nI a) sh lo = if g 72 = 0 then J_X5_moveSite_102_r47 K (nI (nxp n p (i + 1))) (nI m) (nI (i + 1)) f P (nI a) sh lo else some (.inr (1, nI m, P, nI a, sh, lo)) := by
    unfold B_X5_moveSite_46 F_X5_isAbove
    rw [h3, if_neg (mt (nI_leI (a := n) (b := i + 1) (by omega) (by omega)).mp c), if_neg (show ¬ (8 : Int32) ≤ nI (i + 1) from mt (nI_leI (a := 8) (b := i + 1) (by omega) (by omega)).mp (by omega)), e672, nI_add]
    by_cases d : g 72 = 0
    · rw [if_pos d, if_pos d, xb1, if_pos rfl]
      unfold nxp
      by_cases k : n ≤ p + (i + 1)
      · rw [if_pos k, if_pos ((nI_leI (a := n) (b := p + (i + 1)) (by omega) (by omega)).mpr k), xsub k]
      · rw [if_neg k, if_neg (mt (nI_leI (a := n) (b := p + (i + 1)) (by omega) (by omega)).mp k)]
    · rw [if_neg d, if_neg d, xb1, if_neg (by decide)]
  have kk : (nI p + nI (i + 1)) - (nI p + nI (i + 1)) / nI n * nI n = nI (nxp n p (i + 1)) := by
    rw [nI_add, nI_mod (by omega) (by omega), nxp_mod hp (by omega)]
  have nz : ¬ nI n = (0 : Int32) := nI_ne0 (by omega) (by omega)
  by_cases d : g 72 = 0
  · rw [if_pos d] at C
    generalize hk : nxp n p (i + 1) = k at C kk kl
    have kn : ¬ ∃ o, o < i + 1 ∧ k = nxp n p o := fun ⟨o, ho, e⟩ => nxp_ne hp (show i + 1 < n by omega) ho (hk.trans e)
    have kb : m / 2 ^ k % 2 = 0 := Decidable.byContradiction (fun z => kn (hmm k (by omega) z))
    have M : B_X8_speaks_40 K (nI p) (nI n) g (nI m) 0 (nI (i + 1)) sx sy (nI a) A = (bd1 (F_X8_isFrozen (nI k) g) (fun r_10 => if r_10 = (0 : Int32) then ixF (nI a) 8 (nmF (upd A (nI a).toNatClampNeg (nI k)) (fun f_15 => bd3 (F_X8_shares K (nI m ||| ((1 : Int32) <<< (nI k &&& (31 : Int32)))) g (nI n) sx sy) (fun r_16 w_17 w_18 => some (.inl (nI m ||| ((1 : Int32) <<< (nI k &&& (31 : Int32))), r_16, nI (i + 1) + (1 : Int32), w_17, w_18, nI a + (1 : Int32), f_15))))) else some (.inl (nI m, 0, nI (i + 1) + (1 : Int32), sx, sy, nI a, A)))) := by
      unfold B_X8_speaks_40
      rw [if_neg (mt (nI_leI (a := n) (b := i + 1) (by omega) (by omega)).mp c), if_pos d, if_pos rfl, xnz nz, kk]
    unfold J_X5_moveSite_102_r47 at C
    rw [fz_c h.1 kl, xb1] at C
    rw [fz_m (show k < 8 by omega), xb1] at M
    by_cases z : g (76 + k) = 1
    · rw [if_pos z, if_neg (by decide), nI_1] at C
      rw [if_pos z, if_neg (by decide), nI_1] at M
      refine Or.inl ⟨by omega, _, _, C, M, m, a, hm, rfl, rfl, rfl, rfl, rfl, rfl, rfl, by omega, by omega, hbc, hPA, ?_⟩
      intro j hj hb
      obtain ⟨o, ho, e⟩ := hmm j hj hb
      exact ⟨o, by omega, e⟩
    · obtain ⟨g1, g2, g3⟩ := grp_or m m8 k (by omega) kb
      have m2 : m + 2 ^ k < 2 ^ n := grp_lt n (by omega) m hm k kl kb
      have m28 : m + 2 ^ k < 256 := Nat.lt_of_lt_of_le m2 (Nat.pow_le_pow_right (by decide) n8)
      obtain ⟨v, q0, q1, r0, r1, sh', lo', sx', sy', hv, hr0, hr1, c1, c2, c3, c4⟩ := sh_both (sh := sh) (lo := lo) (sx := sx) (sy := sy) hK h hg d m28 (by omega)
      have N : F_X5_noteAsked (nI k) P (nI a) = some (upd P a (nI k), nI (a + 1)) := by
        unfold F_X5_noteAsked
        rw [if_neg (show ¬ (8 : Int32) ≤ nI a from mt (nI_leI (a := 8) (b := a) (by omega) (by omega)).mp (by omega)), xixn (by omega) (by decide), nI_clamp (by omega), xnm, nI_1]
      rw [if_neg z, if_pos rfl, N, xb2, g1, c1, xb3, nI_1] at C
      rw [if_neg z, if_pos rfl, xixn (show a < 8 by omega) (by decide), nI_clamp (show a < 2 ^ 31 by omega), xnm, g1, c2, xb3, nI_1, nI_1] at M
      have PA : ∀ j, j < a + 1 → upd P a (nI k) j = upd A a (nI k) j := fun j hj => by
        by_cases e : j = a
        · rw [e, upd_at, upd_at]
        · rw [upd_ne e, upd_ne e]
          exact hPA j (by omega)
      have hmm2 : ∀ j, j < 8 → ¬ (m + 2 ^ k) / 2 ^ j % 2 = 0 → ∃ o, o < i + 1 + 1 ∧ j = nxp n p o := fun j hj hb => by
        rcases g3 j hj hb with e | e
        · exact ⟨i + 1, by omega, e.trans hk.symm⟩
        · obtain ⟨o, ho, e2⟩ := hmm j hj e
          exact ⟨o, by omega, e2⟩
      rcases hv with v0 | v1
      · rw [v0, if_pos rfl] at C
        rw [v0] at M
        exact Or.inl ⟨by omega, _, _, C, M, m + 2 ^ k, a + 1, m2, rfl, rfl, rfl, rfl, rfl, rfl, rfl, by omega, by omega, by omega, PA, hmm2⟩
      · rw [v1, if_neg (by decide)] at C
        rw [v1] at M
        refine Or.inr ⟨_, (nI (m + 2 ^ k), 1, sx', sy', nI (a + 1), upd A a (nI k)), C, ?_, m + 2 ^ k, a + 1, m2, rfl, rfl, rfl, rfl, by omega, PA, Or.inr ⟨rfl, rfl, by omega, q0, q1, r0, r1, hr0, hr1, c3, c4⟩⟩
        intro J hJ
        obtain ⟨J2, rfl⟩ : ∃ J2, J = J2 + 1 + 1 := ⟨J - 2, by omega⟩
        rw [lp_one (u' := (nI (m + 2 ^ k), 1, nI (i + 1 + 1), sx', sy', nI (a + 1), upd A a (nI k))) (show (fun u9 : Int32 × Int32 × Int32 × (Nat → Int32) × (Nat → Int32) × Int32 × (Nat → Int32) => B_X8_speaks_40 K (nI p) (nI n) g u9.1 u9.2.1 u9.2.2.1 u9.2.2.2.1 u9.2.2.2.2.1 u9.2.2.2.2.2.1 u9.2.2.2.2.2.2) (nI m, 0, nI (i + 1), sx, sy, nI a, A) = _ from M)]
        refine lp_end ?_
        show B_X8_speaks_40 K (nI p) (nI n) g (nI (m + 2 ^ k)) 1 (nI (i + 1 + 1)) sx' sy' (nI (a + 1)) (upd A a (nI k)) = _
        unfold B_X8_speaks_40
        rw [if_pos d, if_neg (show ¬ (1 : Int32) = 0 by decide)]
        by_cases w : nI n ≤ nI (i + 1 + 1)
        · rw [if_pos w]
        · rw [if_neg w]
  · rw [if_neg d] at C
    refine Or.inr ⟨(1, nI m, P, nI a, sh, lo), (nI m, 0, sx, sy, nI a, A), C, goE ?_, m, a, hm, rfl, rfl, rfl, rfl, by omega, hPA, Or.inl ⟨rfl, rfl⟩⟩
    unfold B_X8_speaks_40
    rw [if_neg (mt (nI_leI (a := n) (b := i + 1) (by omega) (by omega)).mp c), if_neg d]
/-- a move's shift of the reference's row -/
def mvG (i : Nat) (x y : Int32) (g : Nat → Int32) : Nat → Int32 := upd (upd g (0 + i) (g (0 + i) + x)) (8 + i) (upd g (0 + i) (g (0 + i) + x) (8 + i) + y)
theorem RowG.of {g g' : Nat → Int32} (h : RowG g) (h1 : g' 64 = g 64) (h2 : g' 72 = g 72) : RowG g' := ⟨by rw [h1]; exact h.law, by rw [h2]; exact h.abv⟩
theorem sf_both {n i : Nat} {f g : Nat → Int32} {x y : Int32} (h : RowR n f g) (hi : i < n) : ∃ f', F_X5_shift (nI i) x y f = some f' ∧ RowR n f' (mvG i x y g) := by
  have n8 := h.n8
  have e0 : f (17 + 8 * i + 0) = g (0 + i) := h.1.2.2.1 i 0 hi (by decide)
  have r1 : RowR n (upd f (17 + 8 * i + 0) (g (0 + i) + x)) (upd g (0 + i) (g (0 + i) + x)) := h.put (c := 0) hi (by decide) (by decide) (by decide) (g (0 + i) + x)
  have e1 : upd f (17 + 8 * i + 0) (g (0 + i) + x) (17 + 8 * i + 1) = upd g (0 + i) (g (0 + i) + x) (8 + i) := r1.1.2.2.1 i 1 hi (by decide)
  have r2 : RowR n (upd (upd f (17 + 8 * i + 0) (g (0 + i) + x)) (17 + 8 * i + 1) (upd g (0 + i) (g (0 + i) + x) (8 + i) + y)) (mvG i x y g) := r1.put (c := 1) hi (by decide) (by decide) (by decide) (upd g (0 + i) (g (0 + i) + x) (8 + i) + y)
  refine ⟨_, ?_, r2⟩
  unfold F_X5_shift
  rw [bx_of (c := 0) (by rfl) (by omega) (by decide), xb1, e0, bx_put (c := 0) (by rfl) (by omega) (by decide), xb1, bx_of (c := 1) (by rfl) (by omega) (by decide), xb1, e1, bx_put (c := 1) (by rfl) (by omega) (by decide), xb1]
theorem qs_both {n i K : Nat} {f g : Nat → Int32} (hK : 200000 ≤ K) (h : RowR n f g) (hg : RowG g) (hi : i < n) : F_X5_isQuiet (nI i) f = some (qvl f (cdr f i 0) (cdr f i 1)) ∧ F_X8_isQuiet K (nI i) g (nI n) = some (qvl f (cdr f i 0) (cdr f i 1)) := by
  have n8 := h.n8
  have b0 : F_X5_drift (nI i) (0 : Int32) f = some (cdr f i 0) := b_drift (a := 0) (by omega) (by decide)
  have b1 : F_X5_drift (nI i) (1 : Int32) f = some (cdr f i 1) := b_drift (a := 1) (by omega) (by decide)
  obtain ⟨d0, d1⟩ := dr_both h.1.2.2.1 hi
  constructor
  · unfold F_X5_isQuiet
    rw [b0, xb1, b1, xb1, qvl_is, xb1]
  · unfold F_X8_isQuiet
    rw [m_drX (by omega), xb1, m_drY (by omega), xb1, ← q_both hK h hg, qvl_is, xb1, d0, d1]
/-- a move -/
theorem mv_both {n i K : Nat} {f g P A sh lo sx sy : Nat → Int32} {x y ac oc as ou : Int32} (hK : 200000 ≤ K) (h : RowR n f g) (hg : RowG g) (hi : i < n) : ∃ (r o : Int32) (a : Nat) (f' g' P' A' sh' lo' sx' sy' : Nat → Int32), F_X5_moveSite K (nI i) x y f P ac oc sh lo = some (r, f', P', nI a, o, sh', lo') ∧ F_X8_movesNow K (nI i) x y g (nI n) sx sy as ou A = some (r, g', sx', sy', nI a, o, A') ∧ a < 8 ∧ (∀ j, j < a → P' j = A' j) ∧ RowR n f' g' ∧ RowG g' ∧ (∃ m, m ≤ 100 ∧ r = nI m) ∧ ∀ k, (k < 16 ∨ 48 ≤ k) → ¬ k = 68 → ¬ k = 69 → ¬ k = 70 → ¬ k = 71 → ¬ k = 72 → g' k = mvG i x y g k := by
  have n8 := h.n8
  obtain ⟨f1, s1, R1⟩ := sf_both (x := x) (y := y) h hi
  have G1 : RowG (mvG i x y g) := hg.of (by unfold mvG; rw [upd_ne (by omega), upd_ne (by omega)]) (by unfold mvG; rw [upd_ne (by omega), upd_ne (by omega)])
  have M : F_X8_movesNow K (nI i) x y g (nI n) sx sy as ou A = F_X8_speaks K (nI i) (mvG i x y g) (nI n) sx sy as ou A := by
    unfold F_X8_movesNow
    simp only [bm_ix (A := (0 : Int32)) (a := 0) rfl (show 0 + i < 265 by omega), bm_ix (A := (8 : Int32)) (a := 8) rfl (show 8 + i < 265 by omega), bm_cl (A := (0 : Int32)) (a := 0) rfl (show 0 + i < 265 by omega), bm_cl (A := (8 : Int32)) (a := 8) rfl (show 8 + i < 265 by omega), xnm]
    show bd7 (F_X8_speaks K (nI i) (mvG i x y g) (nI n) sx sy as ou A) (fun r_7 w_8 w_9 w_10 w_11 w_12 w_13 => some (r_7, w_8, w_9, w_10, w_11, w_12, w_13)) = _
    cases F_X8_speaks K (nI i) (mvG i x y g) (nI n) sx sy as ou A <;> rfl
  rw [M]
  obtain ⟨c1, c2⟩ := qs_both hK R1 G1 hi
  unfold F_X5_moveSite F_X8_speaks
  rw [s1, xb1, c1, xb1, c2, xb1]
  generalize mvG i x y g = g1 at R1 G1 ⊢
  by_cases c : qvl f1 (cdr f1 i 0) (cdr f1 i 1) = 0
  · rw [if_pos c, if_pos c, xnm, xnm]
    have q12 : f1 12 = g1 68 := R1.1.2.2.2.1 (12, 68) (by decide)
    have R2 : RowR n (upd f1 12 (f1 12 + 1)) (upd g1 68 (g1 68 + 1)) := by
      rw [q12]
      exact R1.scal (by decide) _
    have G2 : RowG (upd g1 68 (g1 68 + 1)) := G1.of (upd_ne (by decide)) (upd_ne (by decide))
    have fr2 : ∀ k, ¬ k = 68 → upd g1 68 (g1 68 + 1) k = g1 k := fun k hk => upd_ne hk
    generalize upd f1 12 (f1 12 + 1) = f2 at R2 ⊢
    generalize upd g1 68 (g1 68 + 1) = g2 at R2 G2 fr2 ⊢
    obtain ⟨p1, p2, p3⟩ := grp_1 i (by omega)
    rw [p1]
    have h0 : SqR n i 0 (nI (2 ^ i), (1 : Int32), P, (0 : Int32), sh, lo) (nI (2 ^ i), (0 : Int32), (1 : Int32), sx, sy, (0 : Int32), A) := ⟨2 ^ i, 0, Nat.pow_lt_pow_right (by decide) hi, rfl, rfl, rfl, rfl, rfl, rfl, rfl, Nat.le_refl _, by omega, p2, fun j hj => absurd hj (Nat.not_lt_zero _), fun j hj hb => ⟨0, by omega, (p3 j hj hb).trans (nxp_0 hi).symm⟩⟩
    obtain ⟨r, u, l1, l2, m, a, hm, k1, k2, k3, k4, ha, hPA, hQ⟩ := lp_twoXA (b := fun u9 : Int32 × Int32 × (Nat → Int32) × Int32 × (Nat → Int32) × (Nat → Int32) => B_X5_moveSite_46 K (nI i) f2 u9.1 u9.2.1 u9.2.2.1 u9.2.2.2.1 u9.2.2.2.2.1 u9.2.2.2.2.2) (d := fun u9 : Int32 × Int32 × Int32 × (Nat → Int32) × (Nat → Int32) × Int32 × (Nat → Int32) => B_X8_speaks_40 K (nI i) (nI n) g2 u9.1 u9.2.1 u9.2.2.1 u9.2.2.2.1 u9.2.2.2.2.1 u9.2.2.2.2.2.1 u9.2.2.2.2.2.2) (SqR n i) (SqQ n) (n := 8) (fun j s t _ q9 => SqR.step hK R2 G2 hi q9) 8 0 _ _ K K (by omega) (by omega) (by omega) h0
    obtain ⟨tg, x4, P', ac', sh', lo'⟩ := r
    obtain ⟨x2, x3, sx', sy', as', A'⟩ := u
    have k1 : x4 = nI m := k1
    have k2 : x2 = nI m := k2
    have k3 : ac' = nI a := k3
    have k4 : as' = nI a := k4
    subst k1 k2 k3 k4
    have hPA : ∀ j, j < a → P' j = A' j := hPA
    rw [l1, l2, xb6, xb6]
    unfold J_X8_speaks_123
    rcases hQ with ⟨z1, z2⟩ | ⟨z1, z2, z3, q0, q1, r0, r1, hr0, hr1, ⟨w1, w2, w3, w4⟩, hs⟩
    · have z1 : tg = 1 := z1
      have z2 : x3 = 0 := z2
      obtain ⟨f3, g3, a1, a2, R3, G3, fr3⟩ := ha_both hK R2.1 G2.law
      unfold J_X5_moveSite_153
      rw [z1, z2, if_neg (by decide), if_pos rfl, if_pos rfl, a1, xb1, a2, xb1, show f3 3 = nI n from R3.1.2.1]
      refine ⟨_, _, a, f3, g3, P', A', sh', lo', sx', sy', rfl, rfl, by omega, hPA, R3, G3, ⟨1 + 2 * a + (n - 1 - a) + n, by omega, ?_⟩, ?_⟩
      · rw [show (1 : Int32) = nI 1 from rfl, show (2 : Int32) = nI 2 from rfl, nI_mul, nI_add, xsub (show 1 ≤ n by omega), xsub (show a ≤ n - 1 by omega), nI_add, nI_add]
      intro k b0 b1 b2 b3 b4 b5
      rw [fr3 k b0 b3 b4 b5, fr2 k b1]
    · have z1 : tg = 0 := z1
      have z2 : x3 = 1 := z2
      have m8 : m < 256 := Nat.lt_of_lt_of_le hm (Nat.pow_le_pow_right (by decide) n8)
      have bn : bcn m n = a + 1 := (grp_n n (by omega) m hm).trans z3
      obtain ⟨f3, g3, a1, a2, R3, fr3⟩ := bl_both (ac := nI a) (oc := 0) hK R2 m8 hr0 hr1 w1 w2 w3 w4 hs
      rw [z1, z2, if_pos rfl, a1, xb3, if_neg (show ¬ (1 : Int32) = 0 by decide), a2, xb1, xnm, bn]
      refine ⟨_, _, a, f3, _, P', A', sh', lo', sx', sy', rfl, ?_, by omega, hPA, R3, ?_, ⟨1 + 2 * a + (a + 1), by omega, ?_⟩, ?_⟩
      · rw [← nI_1 a, Int32.add_assoc]
      · exact G2.of ((upd_ne (by decide)).trans (fr3 64 (by omega))) ((upd_ne (by decide)).trans (fr3 72 (by omega)))
      · rw [show (1 : Int32) = nI 1 from rfl, show (2 : Int32) = nI 2 from rfl, nI_mul, nI_add, nI_add]
      · intro k b0 b1 b2 b3 b4 b5
        rw [upd_ne b2, fr3 k (by omega), fr2 k b1]
  · rw [if_neg c, if_neg c]
    exact ⟨_, _, 0, f1, g1, P, A, sh, lo, sx, sy, rfl, rfl, by omega, fun j hj => absurd hj (Nat.not_lt_zero _), R1, G1, ⟨0, by omega, rfl⟩, fun k _ _ _ _ _ _ => rfl⟩
end
-- 83c.14
section
/-! Stage B, 14: why an act can't be, in both -/
/-- what a row of n sites may hold -/
abbrev inR (v : Int32) : Prop := (-99999 : Int32) ≤ v ∧ v ≤ (99999 : Int32)
abbrev RowX (n : Nat) (g : Nat → Int32) : Prop := ∀ j, j < n → inR (g (0 + j)) ∧ inR (g (8 + j))
abbrev RowF (n : Nat) (g : Nat → Int32) : Prop := ∀ j, j < n → g (76 + j) = 0 ∨ g (76 + j) = 1
theorem inR_int {v : Int32} (h : inR v) : -99999 ≤ v.toInt ∧ v.toInt ≤ 99999 := by
  have h1 := Int32.le_iff_toInt_le.mp h.1
  have h2 := Int32.le_iff_toInt_le.mp h.2
  have t1 : (-99999 : Int32).toInt = -99999 := by decide
  have t2 : (99999 : Int32).toInt = 99999 := by decide
  rw [t1] at h1
  rw [t2] at h2
  exact ⟨h1, h2⟩
theorem inR_add {v x : Int32} (h : inR v) (hx : -3000000 ≤ x.toInt ∧ x.toInt ≤ 3000000) : (v + x).toInt = v.toInt + x.toInt := by
  obtain ⟨a, b⟩ := inR_int h
  rw [Int32.toInt_add]
  exact Int.bmod_eq_of_le (by omega) (by omega)
theorem ab_in {v : Int32} (h : -2147483648 < v.toInt) : (99999 : Int32) < absF v ↔ ¬ inR v := by
  have t1 : (-99999 : Int32).toInt = -99999 := by decide
  have t2 : (99999 : Int32).toInt = 99999 := by decide
  have t0 : (0 : Int32).toInt = 0 := by decide
  have a2 : v.toInt < 2 ^ 31 := Int32.toInt_lt v
  unfold inR absF
  by_cases c : 0 ≤ v
  · rw [if_pos c]
    simp only [Int32.le_iff_toInt_le, Int32.lt_iff_toInt_lt, t0, t1, t2] at c ⊢
    omega
  · rw [if_neg c]
    simp only [Int32.le_iff_toInt_le, Int32.lt_iff_toInt_lt, t0, t1, t2, Int32.toInt_sub] at c ⊢
    rw [Int.bmod_eq_of_le (by omega) (by omega)]
    omega
theorem rng_c {α : Type} {x lo hi : Int32} {A B : α} : (if x < lo then A else if hi < x then A else B) = if lo ≤ x ∧ x ≤ hi then B else A := by
  by_cases h1 : lo ≤ x
  · rw [if_neg (fun q => lt_not.mp q h1)]
    by_cases h2 : x ≤ hi
    · rw [if_neg (fun q => lt_not.mp q h2), if_pos ⟨h1, h2⟩]
    · rw [if_pos (lt_not.mpr h2), if_neg (fun q => h2 q.2)]
  · rw [if_pos (lt_not.mpr h1), if_neg (fun q => h1 q.1)]
theorem rng_d {α : Type} {x lo hi : Int32} {A B : α} : (if x < lo then A else if x ≤ hi then B else A) = if lo ≤ x ∧ x ≤ hi then B else A := by
  by_cases h1 : lo ≤ x
  · rw [if_neg (fun q => lt_not.mp q h1)]
    by_cases h2 : x ≤ hi
    · rw [if_pos h2, if_pos ⟨h1, h2⟩]
    · rw [if_neg h2, if_neg (fun q => h2 q.2)]
  · rw [if_pos (lt_not.mpr h1), if_neg (fun q => h1 q.1)]
/-- a place that may be moved by so much -/
abbrev in9 (v : Int32) : Prop := (-9999 : Int32) ≤ v ∧ v ≤ (9999 : Int32)
theorem in9_int {v : Int32} (h : in9 v) : -9999 ≤ v.toInt ∧ v.toInt ≤ 9999 := by
  have h1 := Int32.le_iff_toInt_le.mp h.1
  have h2 := Int32.le_iff_toInt_le.mp h.2
  have t1 : (-9999 : Int32).toInt = -9999 := by decide
  have t2 : (9999 : Int32).toInt = 9999 := by decide
  rw [t1] at h1
  rw [t2] at h2
  exact ⟨h1, h2⟩
theorem c_mov {x y : Int32} : F_X7_isMovable x y = some (if in9 x ∧ in9 y then 1 else 0) := by
  unfold F_X7_isMovable in9
  rw [rng_c, rng_c]
  by_cases a : (-9999 : Int32) ≤ x ∧ x ≤ (9999 : Int32)
  · rw [if_pos a]
    by_cases b : (-9999 : Int32) ≤ y ∧ y ≤ (9999 : Int32)
    · rw [if_pos b, if_pos ⟨a, b⟩]
    · rw [if_neg b, if_neg (fun z => b z.2)]
  · rw [if_neg a, if_neg (fun z => a z.1)]
theorem m_in9 {x : Int32} : F_X8_in x.toInt64 (-9999 : Int64) (9999 : Int64) = some (if in9 x then 1 else 0) := by
  rw [show (-9999 : Int64) = (-9999 : Int32).toInt64 by decide, show (9999 : Int64) = (9999 : Int32).toInt64 by decide, m_inI]
theorem m_inR {x : Int32} : F_X8_in x.toInt64 (-99999 : Int64) (99999 : Int64) = some (if inR x then 1 else 0) := by
  rw [show (-99999 : Int64) = (-99999 : Int32).toInt64 by decide, show (99999 : Int64) = (99999 : Int32).toInt64 by decide, m_inI]
theorem gm_site {n : Nat} {p : Int32} : F_X8_isSite p (nI n) = some (if 0 ≤ p ∧ p ≤ nI n - 1 then 1 else 0) := by
  unfold F_X8_isSite
  rw [show (0 : Int64) = (0 : Int32).toInt64 from rfl, m_inI, xb1]
/-- a site, or none, in both -/
theorem hs_both {n : Nat} {p : Int32} {f : Nat → Int32} (n8 : n ≤ 8) (h3 : f 3 = nI n) : (∃ i, i < n ∧ p = nI i ∧ F_X5_hasSite p f = some 1 ∧ F_X8_isSite p (nI n) = some 1) ∨ ((¬ ∃ i, i < n ∧ p = nI i) ∧ F_X5_hasSite p f = some 0 ∧ F_X8_isSite p (nI n) = some 0) := by
  by_cases a : 0 ≤ p ∧ p ≤ nI n - 1
  · obtain ⟨i, hi, rfl⟩ := in_lt (by omega) a
    exact Or.inl ⟨i, hi, rfl, cs_has n8 h3 hi, by rw [gm_site, if_pos a]⟩
  · have no : ¬ ∃ i, i < n ∧ p = nI i := by
      intro ⟨i, hi, e⟩
      apply a
      rw [e, show nI n - 1 = nI (n - 1) from xsub (b := 1) (by omega)]
      exact ⟨(nI_leI (a := 0) (b := i) (by omega) (by omega)).mpr (Nat.zero_le _), (nI_leI (a := i) (b := n - 1) (by omega) (by omega)).mpr (by omega)⟩
    refine Or.inr ⟨no, ?_, by rw [gm_site, if_neg a]⟩
    unfold F_X5_hasSite
    by_cases b : p < 0
    · rw [if_pos b]
    · rw [if_neg b, h3]
      by_cases c : nI n ≤ p
      · rw [if_pos c]
      · obtain ⟨i, hi, e⟩ := nnI (n := n) (by omega) b c
        exact absurd ⟨i, hi, e⟩ no
theorem sd_both {n : Nat} {f : Nat → Int32} (n8 : n ≤ 8) (h3 : f 3 = nI n) : F_X5_stands f = some (if n = 0 then 0 else 1) ∧ F_X8_isWatch (nI n) = some (if n = 0 then 0 else 1) := by
  unfold F_X5_stands F_X8_isWatch
  rw [h3]
  by_cases c : n = 0
  · rw [if_pos c, c, if_pos (by decide)]
    exact ⟨rfl, rfl⟩
  · rw [if_neg c, if_neg (nI_nle (by omega) (by omega))]
    exact ⟨rfl, rfl⟩
theorem c_room {n i : Nat} {f g : Nat → Int32} {x y : Int32} (h : RowR n f g) (hi : i < n) (h1 : -2147483648 < (g (0 + i) + x).toInt) (h2 : -2147483648 < (g (8 + i) + y).toInt) : F_X5_hasRoom (nI i) x y f = some (if inR (g (0 + i) + x) ∧ inR (g (8 + i) + y) then 1 else 0) := by
  have n8 := h.n8
  have e0 : f (17 + 8 * i + 0) = g (0 + i) := h.1.2.2.1 i 0 hi (by decide)
  have e1 : f (17 + 8 * i + 1) = g (8 + i) := h.1.2.2.1 i 1 hi (by decide)
  unfold F_X5_hasRoom
  rw [bx_of (c := 0) (by rfl) (by omega) (by decide), xb1, bx_of (c := 1) (by rfl) (by omega) (by decide), xb1, e0, e1]
  by_cases a : inR (g (0 + i) + x)
  · rw [if_neg (fun z => (ab_in h1).mp z a)]
    by_cases b : inR (g (8 + i) + y)
    · rw [if_neg (fun z => (ab_in h2).mp z b), if_pos ⟨a, b⟩]
    · rw [if_pos ((ab_in h2).mpr b), if_neg (fun z => b z.2)]
  · rw [if_pos ((ab_in h1).mpr a), if_neg (fun z => a z.1)]
theorem ite10 {α : Type} {c : Prop} {d : Decidable c} {d2 : Decidable ((@ite Int32 c d 1 0) = 0)} {A B : α} : (@ite α ((@ite Int32 c d 1 0) = 0) d2 A B) = @ite α c d B A := by
  by_cases h : c
  · rw [if_neg (show ¬ (@ite Int32 c d 1 0) = 0 by rw [if_pos h]; decide), if_pos h]
  · rw [if_pos (show (@ite Int32 c d 1 0) = 0 from if_neg h), if_neg h]
theorem n10 : ¬ (1 : Int32) = 0 := by decide
/-- why a move can't be -/
theorem mr_both {n : Nat} {f g : Nat → Int32} {p x y : Int32} (h : RowR n f g) (hX : RowX n g) : ∃ r, F_X5_moveRefusal p x y f = some r ∧ F_X8_whyMove p x y g (nI n) = some r ∧ R3 r ∧ (r = -1 → ∃ i, i < n ∧ p = nI i ∧ in9 x ∧ in9 y ∧ inR (g (0 + i) + x) ∧ inR (g (8 + i) + y) ∧ ¬ g (76 + i) = 1) := by
  have n8 := h.n8
  rcases hs_both (p := p) n8 h.sz with ⟨i, hi, rfl, c1, c2⟩ | ⟨-, c1, c2⟩
  · have j89 : J_X8_whyMove_89 (nI i) x y g = some 1 := by
      unfold J_X8_whyMove_89 J_X8_whyMove_90
      rw [if_pos rfl]
    have j90 : J_X8_whyMove_90 (nI i) x y g 1 = if x = 0 then if y = 0 then some 2 else if g (76 + i) = 1 then some 2 else some (-1) else if g (76 + i) = 1 then some 2 else some (-1) := by
      unfold J_X8_whyMove_90
      rw [if_neg n10, fz_m (by omega), xb1, ite10]
    have C : F_X5_moveRefusal (nI i) x y f = if in9 x ∧ in9 y then bd1 (F_X5_hasRoom (nI i) x y f) (fun r_9 => if r_9 = (0 : Int32) then some (1 : Int32) else if x = 0 then if y = 0 then some 2 else if g (76 + i) = 1 then some 2 else some (-1) else if g (76 + i) = 1 then some 2 else some (-1)) else some 1 := by
      unfold F_X5_moveRefusal
      rw [c1, xb1, if_neg n10, c_mov, xb1, ite10]
      simp only [fz_c h.1 hi, xb1, ite10]
    have M : F_X8_whyMove (nI i) x y g (nI n) = if in9 x then if in9 y then if inR (g (0 + i) + x) then if inR (g (8 + i) + y) then J_X8_whyMove_90 (nI i) x y g 1 else some 1 else some 1 else some 1 else some 1 := by
      unfold F_X8_whyMove
      rw [c2, xb1, if_neg n10, m_in9, xb1, ite10, m_in9, xb1, ite10, bm_ix (a := 0) (by rfl) (by omega), bm_cl (a := 0) (by rfl) (by omega), m_inR, xb1, ite10, bm_ix (a := 8) (by rfl) (by omega), bm_cl (a := 8) (by rfl) (by omega), m_inR, xb1, ite10, j89]
    rw [C, M, j90]
    by_cases a : in9 x
    · by_cases b : in9 y
      · have k1 : (g (0 + i) + x).toInt = (g (0 + i)).toInt + x.toInt := inR_add (hX i hi).1 (by have := in9_int a; omega)
        have k2 : (g (8 + i) + y).toInt = (g (8 + i)).toInt + y.toInt := inR_add (hX i hi).2 (by have := in9_int b; omega)
        have l1 := in9_int a
        have l2 := in9_int b
        have l3 := inR_int (hX i hi).1
        have l4 := inR_int (hX i hi).2
        rw [if_pos (show in9 x ∧ in9 y from ⟨a, b⟩), if_pos (show in9 x from a), if_pos (show in9 y from b), c_room h hi (by omega) (by omega), xb1, ite10]
        by_cases c : inR (g (0 + i) + x)
        · by_cases d : inR (g (8 + i) + y)
          · rw [if_pos (show inR (g (0 + i) + x) ∧ inR (g (8 + i) + y) from ⟨c, d⟩), if_pos (show inR (g (0 + i) + x) from c), if_pos (show inR (g (8 + i) + y) from d)]
            by_cases z : x = 0 ∧ y = 0
            · rw [if_pos z.1, if_pos z.2]
              exact ⟨2, rfl, rfl, r32, fun q => absurd q (by decide)⟩
            · have e : ∀ A B : Option Int32, (if x = 0 then (if y = 0 then A else B) else B) = B := fun A B => by
                by_cases z1 : x = 0
                · rw [if_pos z1, if_neg (fun z2 => z ⟨z1, z2⟩)]
                · rw [if_neg z1]
              rw [e]
              by_cases w : g (76 + i) = 1
              · rw [if_pos w]
                exact ⟨2, rfl, rfl, r32, fun q => absurd q (by decide)⟩
              · rw [if_neg w]
                exact ⟨-1, rfl, rfl, Or.inl rfl, fun _ => ⟨i, hi, rfl, a, b, c, d, w⟩⟩
          · rw [if_neg (show ¬ (inR (g (0 + i) + x) ∧ inR (g (8 + i) + y)) from fun z => d z.2), if_pos (show inR (g (0 + i) + x) from c), if_neg (show ¬ inR (g (8 + i) + y) from d)]
            exact ⟨1, rfl, rfl, r31, fun q => absurd q (by decide)⟩
        · rw [if_neg (show ¬ (inR (g (0 + i) + x) ∧ inR (g (8 + i) + y)) from fun z => c z.1), if_neg (show ¬ inR (g (0 + i) + x) from c)]
          exact ⟨1, rfl, rfl, r31, fun q => absurd q (by decide)⟩
      · rw [if_neg (show ¬ (in9 x ∧ in9 y) from fun z => b z.2), if_pos (show in9 x from a), if_neg (show ¬ in9 y from b)]
        exact ⟨1, rfl, rfl, r31, fun q => absurd q (by decide)⟩
    · rw [if_neg (show ¬ (in9 x ∧ in9 y) from fun z => a z.1), if_neg (show ¬ in9 x from a)]
      exact ⟨1, rfl, rfl, r31, fun q => absurd q (by decide)⟩
  · unfold F_X5_moveRefusal F_X8_whyMove
    rw [c1, c2, xb1, xb1, if_pos rfl, if_pos rfl]
    exact ⟨0, rfl, rfl, r30, fun q => absurd q (by decide)⟩
/-- why something can't be set -/
theorem sr_both {n : Nat} {p lo hi is : Int32} (n8 : n ≤ 8) (h0 : 0 < n) : ∃ r, F_X5_setRefusal p lo hi is = some r ∧ F_X8_whySet p lo hi is (nI n) = some r ∧ R3 r ∧ (r = -1 → lo ≤ p ∧ p ≤ hi) := by
  have w : F_X8_isWatch (nI n) = some 1 := by
    unfold F_X8_isWatch
    rw [if_neg (nI_nle h0 (by omega))]
  unfold F_X5_setRefusal F_X8_whySet
  rw [rng_d, w, xb1, if_neg (show ¬ (1 : Int32) = 0 by decide), m_inI, xb1]
  by_cases a : lo ≤ p ∧ p ≤ hi
  · rw [if_pos a, if_pos a, if_neg (show ¬ (1 : Int32) = 0 by decide)]
    by_cases b : p = is
    · rw [if_pos b]
      exact ⟨2, rfl, rfl, r32, fun q => absurd q (by decide)⟩
    · rw [if_neg b]
      exact ⟨-1, rfl, rfl, Or.inl rfl, fun _ => a⟩
  · rw [if_neg a, if_neg a, if_pos rfl]
    exact ⟨1, rfl, rfl, r31, fun q => absurd q (by decide)⟩
theorem re_both {n : Nat} {f g : Nat → Int32} (h : RowR n f g) : F_X5_isReached f = some (if g 73 < g 66 then 0 else 1) ∧ F_X8_isReached g = some (if g 73 < g 66 then 0 else 1) := by
  unfold F_X5_isReached F_X8_isReached
  rw [show f 8 = g 73 from h.1.2.2.2.1 (8, 73) (by decide), show f 2 = g 66 from h.1.2.2.2.1 (2, 66) (by decide)]
  by_cases c : g 73 < g 66
  · rw [if_pos c, if_pos c]
    exact ⟨rfl, rfl⟩
  · rw [if_neg c, if_neg c]
    exact ⟨rfl, rfl⟩
/-- why nothing can be added -/
theorem wa_both {n : Nat} {f g : Nat → Int32} {p k : Int32} (h : RowR n f g) : ∃ r, F_X5_addRefusal p k f = some r ∧ F_X8_whyAdd p k g (nI n) = some r ∧ R3 r ∧ (r = -1 → ∃ i, i < n ∧ p = nI i ∧ ((1 : Int32) ≤ k ∧ k ≤ (999 : Int32)) ∧ g (48 + i) + k ≤ (99999 : Int32) ∧ g 73 < g 66) := by
  have n8 := h.n8
  obtain ⟨r1, r2⟩ := re_both h
  rcases hs_both (p := p) n8 h.sz with ⟨i, hi, rfl, c1, c2⟩ | ⟨-, c1, c2⟩
  · have e6 : f (17 + 8 * i + 6) = g (48 + i) := h.1.2.2.1 i 6 hi (by decide)
    have ei : F_X8_in k.toInt64 (1 : Int64) (999 : Int64) = some (if (1 : Int32) ≤ k ∧ k ≤ (999 : Int32) then 1 else 0) := by
      rw [show (1 : Int64) = (1 : Int32).toInt64 from rfl, show (999 : Int64) = (999 : Int32).toInt64 by decide, m_inI]
    unfold F_X5_addRefusal F_X8_whyAdd
    rw [c1, c2, xb1, xb1, if_neg (show ¬ (1 : Int32) = 0 by decide), if_neg (show ¬ (1 : Int32) = 0 by decide), rng_c, ei, xb1, bx_of (c := 6) (by rfl) (by omega) (by decide), xb1, e6, bm_ix (a := 48) (by rfl) (by omega), bm_cl (a := 48) (by rfl) (by omega), r1, r2, xb1]
    by_cases a : (1 : Int32) ≤ k ∧ k ≤ (999 : Int32)
    · rw [if_pos a, if_pos a, if_neg (show ¬ (1 : Int32) = 0 by decide)]
      by_cases b : g (48 + i) + k ≤ (99999 : Int32)
      · rw [if_pos b]
        by_cases c : g 73 < g 66
        · rw [if_pos c, if_pos rfl]
          exact ⟨-1, rfl, rfl, Or.inl rfl, fun _ => ⟨i, hi, rfl, a, b, c⟩⟩
        · rw [if_neg c, if_neg (show ¬ (1 : Int32) = 0 by decide)]
          exact ⟨2, rfl, rfl, r32, fun q => absurd q (by decide)⟩
      · rw [if_neg b]
        exact ⟨1, rfl, rfl, r31, fun q => absurd q (by decide)⟩
    · rw [if_neg a, if_neg a, if_pos rfl]
      exact ⟨1, rfl, rfl, r31, fun q => absurd q (by decide)⟩
  · unfold F_X5_addRefusal F_X8_whyAdd
    rw [c1, c2, xb1, xb1, if_pos rfl, if_pos rfl]
    exact ⟨0, rfl, rfl, r30, fun q => absurd q (by decide)⟩
theorem m_frz {K n : Nat} {g : Nat → Int32} (hK : 200000 ≤ K) (n8 : n ≤ 8) : F_X8_frozenOnes K g (nI n) = some (nI (row_mk g n)) := by
  have h : lpF (fun u9 : Int32 × Int32 => B_X8_frozenOnes_4 (nI n) g u9.1 u9.2) K ((0 : Int32), (0 : Int32)) = some (row_frz g n) := by
    refine lp_for (fun j => (row_frz g j, nI j)) (n := n) (by omega) (fun j hj => ?_) ?_
    · show B_X8_frozenOnes_4 (nI n) g (row_frz g j) (nI j) = some (.inl (row_frz g j ||| (if g (76 + j) = 1 then (1 : Int32) <<< (nI j &&& 31) else 0), nI (j + 1)))
      unfold B_X8_frozenOnes_4
      rw [if_neg (mt (nI_leI (a := n) (b := j) (by omega) (by omega)).mp (by omega)), fz_m (by omega), xb1, nI_1]
      by_cases c : g (76 + j) = 1
      · rw [if_pos c, if_pos c, if_neg (by decide)]
      · rw [if_neg c, if_neg c, if_pos rfl]
    · show B_X8_frozenOnes_4 (nI n) g (row_frz g n) (nI n) = some (.inr (row_frz g n))
      unfold B_X8_frozenOnes_4
      rw [if_pos ((nI_leI (a := n) (b := n) (by omega) (by omega)).mpr (Nat.le_refl _))]
  unfold F_X8_frozenOnes
  rw [h, xb1, row_frz_mk n n8]
theorem frz_all : ∀ n, n < 9 → ∀ m, m < 2 ^ n → ∀ i, i < n → m / 2 ^ i % 2 = 0 → (nI m ||| ((1 : Int32) <<< (nI i &&& 31)) = ((1 : Int32) <<< (nI n &&& 31)) - 1 ↔ nI (bcn m 8) = nI n - 1) := by decide +kernel
/-- why one can't be frozen -/
theorem wf_both {n K : Nat} {f g : Nat → Int32} {p : Int32} (hK : 200000 ≤ K) (h : RowR n f g) : ∃ r, F_X5_freezeRefusal p f = some r ∧ F_X8_whyFreeze K p g (nI n) = some r ∧ R3 r ∧ (r = -1 → ∃ i, i < n ∧ p = nI i) := by
  have n8 := h.n8
  rcases hs_both (p := p) n8 h.sz with ⟨i, hi, rfl, c1, c2⟩ | ⟨-, c1, c2⟩
  · have lt : row_mk g n < 256 := Nat.lt_of_lt_of_le (row_mk_lt n) (Nat.pow_le_pow_right (by decide) n8)
    have fa := frz_all n (by omega) (row_mk g n) (row_mk_lt n) i hi
    rw [row_mk_at n n8 i hi] at fa
    unfold F_X5_freezeRefusal F_X8_whyFreeze
    rw [c1, c2, xb1, xb1, if_neg (show ¬ (1 : Int32) = 0 by decide), if_neg (show ¬ (1 : Int32) = 0 by decide), fz_c h.1 hi, xb1, fz_m (by omega), xb1, m_frz hK n8, xb1, bits_m hK lt, xb1, h.1.fr, h.sz, row_frz_mk n n8]
    by_cases c : g (76 + i) = 1
    · rw [if_pos c, if_neg (show ¬ (1 : Int32) = 0 by decide), if_neg (show ¬ (1 : Int32) = 0 by decide)]
      refine ⟨-1, ?_, rfl, Or.inl rfl, fun _ => ⟨i, hi, rfl⟩⟩
      split <;> rfl
    · rw [if_neg c] at fa
      have fb := fa rfl
      rw [if_neg c, if_pos rfl, if_pos rfl]
      by_cases d : nI (bcn (row_mk g n) 8) = nI n - 1
      · rw [if_pos (fb.mpr d), if_pos d]
        exact ⟨2, rfl, rfl, r32, fun q => absurd q (by decide)⟩
      · rw [if_neg (fun z => d (fb.mp z)), if_neg d]
        exact ⟨-1, rfl, rfl, Or.inl rfl, fun _ => ⟨i, hi, rfl⟩⟩
  · unfold F_X5_freezeRefusal F_X8_whyFreeze
    rw [c1, c2, xb1, xb1, if_pos rfl, if_pos rfl]
    exact ⟨0, rfl, rfl, r30, fun q => absurd q (by decide)⟩
/-- an act that can be -/
abbrev ActOk (n s : Nat) (a b c : Int32) (g : Nat → Int32) : Prop := 0 < n ∧ (s = 0 → ∃ i, i < n ∧ a = nI i ∧ in9 b ∧ in9 c ∧ inR (g (0 + i) + b) ∧ inR (g (8 + i) + c) ∧ ¬ g (76 + i) = 1) ∧ (s = 3 → (0 : Int32) ≤ a ∧ a ≤ (3 : Int32)) ∧ (s = 4 → ∃ i, i < n ∧ a = nI i ∧ ((1 : Int32) ≤ b ∧ b ≤ (999 : Int32)) ∧ g (48 + i) + b ≤ (99999 : Int32) ∧ g 73 < g 66) ∧ (s = 5 → (1 : Int32) ≤ a ∧ a ≤ (9999 : Int32)) ∧ (s = 6 → ∃ i, i < n ∧ a = nI i)
/-- why an act can't be -/
theorem rf_both {n K s : Nat} {f g : Nat → Int32} {S a b c : Int32} (eS : S = nI s) (hs : s ≤ 6) (hK : 200000 ≤ K) (h : RowR n f g) (hX : RowX n g) : ∃ r, F_X5_refusal S a b c f = some r ∧ F_X8_whyNot K S a b c g (nI n) = some r ∧ R3 r ∧ (r = -1 → ActOk n s a b c g) := by
  have n8 := h.n8
  obtain ⟨s1, s2⟩ := sd_both n8 h.sz
  have w0 : n = 0 → ∀ {x lo hi is : Int32}, F_X8_whySet x lo hi is (nI n) = some 0 := fun z x lo hi is => by
    unfold F_X8_whySet
    rw [s2, if_pos z, xb1, if_pos rfl]
  have nos : n = 0 → F_X8_isSite a (nI n) = some 0 := fun z => by
    rcases hs_both (p := a) n8 h.sz with ⟨i, hi, -⟩ | ⟨-, -, c2⟩
    · omega
    · exact c2
  unfold F_X5_refusal F_X8_whyNot
  rw [s1, xb1, eS]
  by_cases z : n = 0
  · rw [if_pos z, if_pos rfl]
    refine ⟨0, rfl, ?_, r30, fun q => absurd q (by decide)⟩
    rcases (show s = 0 ∨ s = 1 ∨ s = 2 ∨ s = 3 ∨ s = 4 ∨ s = 5 ∨ s = 6 by omega) with rfl | rfl | rfl | rfl | rfl | rfl | rfl
    · rw [if_pos (by decide)]
      unfold F_X8_whyMove
      rw [nos z, xb1, if_pos rfl, xb1]
    · rw [if_neg (by decide), if_pos (by decide), s2, if_pos z, xb1, if_pos rfl]
    · rw [if_neg (by decide), if_neg (by decide), if_pos (by decide), w0 z, xb1]
    · rw [if_neg (by decide), if_neg (by decide), if_neg (by decide), if_pos (by decide), w0 z, xb1]
    · rw [if_neg (by decide), if_neg (by decide), if_neg (by decide), if_neg (by decide), if_pos (by decide)]
      unfold F_X8_whyAdd
      rw [nos z, xb1, if_pos rfl, xb1]
    · rw [if_neg (by decide), if_neg (by decide), if_neg (by decide), if_neg (by decide), if_neg (by decide), if_pos (by decide), w0 z, xb1]
    · rw [if_neg (by decide), if_neg (by decide), if_neg (by decide), if_neg (by decide), if_neg (by decide), if_neg (by decide), if_pos (by decide)]
      unfold F_X8_whyFreeze
      rw [nos z, xb1, if_pos rfl, xb1]
  · rw [if_neg z, if_neg (show ¬ (1 : Int32) = 0 by decide)]
    have h0 : 0 < n := by omega
    rcases (show s = 0 ∨ s = 1 ∨ s = 2 ∨ s = 3 ∨ s = 4 ∨ s = 5 ∨ s = 6 by omega) with rfl | rfl | rfl | rfl | rfl | rfl | rfl
    · obtain ⟨r, e1, e2, e3, e4⟩ := mr_both (p := a) (x := b) (y := c) h hX
      rw [if_pos (by decide), if_pos (by decide), e1, e2]
      exact ⟨r, rfl, rfl, e3, fun q => ⟨h0, fun _ => e4 q, by omega, by omega, by omega, by omega⟩⟩
    · rw [if_neg (by decide), if_pos (by decide), if_neg (by decide), if_pos (by decide), s2, if_neg z, xb1, if_neg (show ¬ (1 : Int32) = 0 by decide)]
      exact ⟨-1, rfl, rfl, Or.inl rfl, fun _ => ⟨h0, by omega, by omega, by omega, by omega, by omega⟩⟩
    · obtain ⟨r, e1, e2, e3, e4⟩ := sr_both (p := a) (lo := (-9999999 : Int32)) (hi := (9999999 : Int32)) (is := g 65) n8 h0
      rw [if_neg (by decide), if_neg (by decide), if_pos (by decide), if_neg (by decide), if_neg (by decide), if_pos (by decide), show f 1 = g 65 from h.1.2.2.2.1 (1, 65) (by decide), e1, e2]
      exact ⟨r, rfl, rfl, e3, fun _ => ⟨h0, by omega, by omega, by omega, by omega, by omega⟩⟩
    · obtain ⟨r, e1, e2, e3, e4⟩ := sr_both (p := a) (lo := (0 : Int32)) (hi := (3 : Int32)) (is := g 64) n8 h0
      rw [if_neg (by decide), if_neg (by decide), if_neg (by decide), if_pos (by decide), if_neg (by decide), if_neg (by decide), if_neg (by decide), if_pos (by decide), show f 0 = g 64 from h.1.2.2.2.1 (0, 64) (by decide), e1, e2]
      exact ⟨r, rfl, rfl, e3, fun q => ⟨h0, by omega, fun _ => e4 q, by omega, by omega, by omega⟩⟩
    · obtain ⟨r, e1, e2, e3, e4⟩ := wa_both (p := a) (k := b) h
      rw [if_neg (by decide), if_neg (by decide), if_neg (by decide), if_neg (by decide), if_pos (by decide), if_neg (by decide), if_neg (by decide), if_neg (by decide), if_neg (by decide), if_pos (by decide), e1, e2]
      exact ⟨r, rfl, rfl, e3, fun q => ⟨h0, by omega, by omega, fun _ => e4 q, by omega, by omega⟩⟩
    · have w1 : F_X8_isWatch (nI n) = some 1 := by rw [s2, if_neg z]
      have M : F_X8_whySet a (1 : Int32) (9999 : Int32) (-1 : Int32) (nI n) = some (if (1 : Int32) ≤ a ∧ a ≤ (9999 : Int32) then -1 else 1) := by
        unfold F_X8_whySet
        rw [w1, xb1, if_neg n10, m_inI, xb1, ite10]
        by_cases k : (1 : Int32) ≤ a ∧ a ≤ (9999 : Int32)
        · have ne : ¬ a = -1 := fun e => absurd k.1 (by rw [e]; decide)
          rw [if_pos k, if_pos k, if_neg ne]
        · rw [if_neg k, if_neg k]
      rw [if_neg (by decide), if_neg (by decide), if_neg (by decide), if_neg (by decide), if_neg (by decide), if_pos (by decide), rng_d]
      refine ⟨if (1 : Int32) ≤ a ∧ a ≤ (9999 : Int32) then -1 else 1, ?_, ?_, ?_, ?_⟩
      · by_cases k : (1 : Int32) ≤ a ∧ a ≤ (9999 : Int32)
        · rw [if_pos k, if_pos k]
        · rw [if_neg k, if_neg k]
      · rw [if_neg (by decide), if_neg (by decide), if_neg (by decide), if_neg (by decide), if_neg (by decide), if_pos (by decide), M, xb1]
      · by_cases k : (1 : Int32) ≤ a ∧ a ≤ (9999 : Int32)
        · rw [if_pos k]
          exact Or.inl rfl
        · rw [if_neg k]
          exact r31
      · intro q
        have k : (1 : Int32) ≤ a ∧ a ≤ (9999 : Int32) := Decidable.byContradiction (fun k => by
          rw [if_neg k] at q
          exact absurd q (by decide))
        exact ⟨h0, by omega, by omega, by omega, fun _ => k, by omega⟩
    · obtain ⟨r, e1, e2, e3, e4⟩ := wf_both (p := a) hK h
      rw [if_neg (by decide), if_neg (by decide), if_neg (by decide), if_neg (by decide), if_neg (by decide), if_neg (by decide), if_pos (by decide), if_neg (by decide), if_neg (by decide), if_neg (by decide), if_neg (by decide), if_neg (by decide), if_neg (by decide), if_pos (by decide), e1, e2]
      exact ⟨r, rfl, rfl, e3, fun q => ⟨h0, by omega, by omega, by omega, by omega, fun _ => e4 q⟩⟩
end
-- 83c.15
section
/-! Stage B, 15: what acts leave of the class's row: its sites and the acts' count -/
def E3 (g f : Nat → Int32) : Prop := g 3 = f 3 ∧ g 16 = f 16 ∧ g 11 = f 11
theorem E3.tr {a b c : Nat → Int32} (h1 : E3 a b) (h2 : E3 b c) : E3 a c := ⟨h1.1.trans h2.1, h1.2.1.trans h2.2.1, h1.2.2.trans h2.2.2⟩
theorem e_put {p1 p2 p3 : Int32} {f : Nat → Int32} : Tt (F_X5_put p1 p2 p3 f) (fun g => E3 g f) := by
  unfold F_X5_put
  refine tt_ite (fun _ => tt_some ⟨rfl, rfl, rfl⟩) (fun a1 => ?_)
  refine tt_ite (fun _ => tt_some ⟨rfl, rfl, rfl⟩) (fun a2 => ?_)
  refine tt_ite (fun _ => tt_some ⟨rfl, rfl, rfl⟩) (fun b1 => ?_)
  refine tt_ite (fun _ => tt_some ⟨rfl, rfl, rfl⟩) (fun b2 => ?_)
  obtain ⟨a, ha, rfl⟩ := nnI (n := 8) (by decide) a1 a2
  obtain ⟨b, hb, rfl⟩ := nnI (n := 8) (by decide) b1 b2
  rw [sx]
  refine tt_ixn (by omega) (by decide) (tt_nm (tt_some ?_))
  rw [nI_clamp (by omega)]
  exact ⟨upd_no (by omega), upd_no (by omega), upd_no (by omega)⟩
theorem e_endRound {K : Nat} {f : Nat → Int32} (hK : 200000 ≤ K) (hr : Rw (f 3)) : Tt (F_X5_endRound K f) (fun g => E3 g f) := by
  unfold F_X5_endRound
  refine tt_bd1 (t_total hK hr) (fun r _ => tt_nm (tt_nm (tt_nm ?_)))
  refine tt_bd1 (P := fun g => E3 g f) (tt_for (fun j u => u.1 = nI j ∧ E3 u.2 f) 8 (by omega) ⟨rfl, rfl, rfl, rfl⟩ (fun j u hj hu => ?_)) (fun g hg => tt_some hg)
  unfold B_X5_endRound_34
  refine tt_bd1 t_sites (fun r hs => tt_ite (fun _ => tt_some (nx_r hu.2)) (fun q => tt_bd1 e_put (fun g hg => tt_some (nx_l (rw_lt hr (hs.trans hu.2.1) hu.1 hj q) ⟨nx1 hu.1, E3.tr hg hu.2⟩))))
theorem e_addTo {K : Nat} {p1 p2 : Int32} {f : Nat → Int32} (hK : 200000 ≤ K) (hr : Rw (f 3)) : Tt (F_X5_addTo K p1 p2 f) (fun x => E3 x.2 f) := by
  unfold F_X5_addTo
  refine tt_bd1 t_of (fun r _ => tt_bd1 e_put (fun w hw => tt_bd1 t_stepFrom (fun s _ => ?_)))
  have hw : E3 w f := hw
  refine tt_ite (fun _ => tt_nm (tt_some (E3.tr (b := w) ⟨rfl, rfl, rfl⟩ hw))) (fun _ => tt_bd1 t_of (fun r8 _ => tt_bd1 e_put (fun w1 hw1 => ?_)))
  refine tt_bd3 (P := fun x : Nat × Int32 × (Nat → Int32) => x.1 < 2 ∧ E3 x.2.2 f) (tt_for (fun j u => u.2.1 = nI j ∧ E3 u.2.2 f) 8 (by omega) ⟨rfl, E3.tr hw1 hw⟩ (fun j u hj hu => ?_)) (fun t x4 g hg => ?_)
  · unfold B_X5_addTo_67
    refine tt_ite (fun _ => tt_some (nx_r ⟨Nat.lt_succ_self 1, hu.2⟩)) (fun q => tt_bd1 t_of (fun r _ => tt_ite (fun _ => tt_some (nx_r ⟨Nat.lt_succ_self 1, hu.2⟩)) (fun _ => tt_bd1 t_of (fun r _ => tt_bd1 e_put (fun g hg => tt_nm ?_)))))
    have jl : j < 8 := by
      rw [hu.1, show (8 : Int32) = nI 8 from rfl] at q
      have := mt (nI_leI (a := 8) (b := j) (by omega) (by omega)).mpr q
      omega
    have hg : E3 g u.2.2 := hg
    have hz : E3 (upd g 9 (g 9 + 1)) f := E3.tr (b := g) ⟨rfl, rfl, rfl⟩ (E3.tr hg hu.2)
    exact tt_ite (fun _ => tt_some (nx_l jl ⟨nx1 hu.1, hz⟩)) (fun _ => tt_some (nx_r ⟨Nat.zero_lt_succ 1, hz⟩))
  · have hg2 : E3 g f := hg.2
    have ht : t < 2 := hg.1
    refine tt_ite (fun _ => tt_bd1 (e_endRound hK (by rw [hg2.1]; exact hr)) (fun w hw => tt_some (E3.tr hw hg2))) (fun h0 => tt_ite (fun _ => tt_some hg2) (fun h1 => ?_))
    omega
theorem e_balance {K : Nat} {p1 ac oc : Int32} {f sh lo : Nat → Int32} (hK : 200000 ≤ K) (hr : Rw (f 3)) : Tt (F_X5_balance K p1 f ac oc sh lo) (fun x => E3 x.2.1 f) := by
  unfold F_X5_balance
  refine tt_nm (tt_bd2 (P := fun x : Int32 × (Nat → Int32) => E3 x.2 f) (tt_for (fun j u => u.2.1 = nI j ∧ E3 u.2.2 f) 8 (by omega) ⟨rfl, rfl, rfl, rfl⟩ (fun j u hj hu => ?_)) (fun x2 g hg => tt_some hg))
  unfold B_X5_balance_20
  refine tt_bd1 t_sites (fun r hs => tt_ite (fun _ => tt_some (nx_r hu.2)) (fun q => ?_))
  have jl := rw_lt hr (hs.trans hu.2.1) hu.1 hj q
  refine tt_ite (fun _ => tt_some (nx_l jl ⟨nx1 hu.1, hu.2⟩)) (fun _ => ?_)
  refine tt_bd1 (P := fun g => E3 g f) (tt_for (fun j u => u.1 = nI j ∧ E3 u.2 f) 2 (by omega) ⟨rfl, hu.2⟩ (fun i v hi hv => ?_)) (fun g hg => tt_some (nx_l jl ⟨nx1 hu.1, hg⟩))
  unfold B_X5_balance_42
  refine tt_ite (fun _ => tt_some (nx_r hv.2)) (fun q => tt_bd1 t_shareOf (fun _ _ => tt_bd1 t_drift (fun _ _ => tt_bd1 t_of (fun _ _ => tt_bd1 e_put (fun g hg => tt_some (nx_l ?_ ⟨nx1 hv.1, E3.tr hg hv.2⟩))))))
  rw [hv.1, show (2 : Int32) = nI 2 from rfl] at q
  have := mt (nI_leI (a := 2) (b := i) (by omega) (by omega)).mpr q
  omega
theorem e_hearPlaces {K : Nat} {f : Nat → Int32} (hK : 200000 ≤ K) (hr : Rw (f 3)) : Tt (F_X5_hearPlaces K f) (fun g => E3 g f) := by
  unfold F_X5_hearPlaces
  refine tt_nm (tt_nm (tt_bd1 (P := fun g => E3 g f) (tt_for (fun j u => u.1 = nI j ∧ E3 u.2 f) 8 (by omega) ⟨rfl, rfl, rfl, rfl⟩ (fun j u hj hu => ?_)) (fun g hg => tt_some hg)))
  unfold B_X5_hearPlaces_16
  refine tt_bd1 t_sites (fun r hs => tt_ite (fun _ => tt_some (nx_r hu.2)) (fun q => ?_))
  have jl := rw_lt hr (hs.trans hu.2.1) hu.1 hj q
  refine tt_bd1 t_of (fun _ _ => tt_bd1 e_put (fun g1 h1 => tt_bd1 t_of (fun _ _ => tt_bd1 e_put (fun g2 h2 => tt_bd1 e_put (fun g3 h3 => tt_bd1 e_put (fun g4 h4 => tt_bd1 t_of (fun _ _ => tt_nm (tt_bd1 t_of (fun _ _ => tt_nm (tt_some (nx_l jl ⟨nx1 hu.1, ?_⟩)))))))))))
  exact E3.tr (b := g4) ⟨rfl, rfl, rfl⟩ (E3.tr h4 (E3.tr h3 (E3.tr h2 (E3.tr h1 hu.2))))
theorem e_shift {p1 p2 p3 : Int32} {f : Nat → Int32} : Tt (F_X5_shift p1 p2 p3 f) (fun g => E3 g f) := by
  unfold F_X5_shift
  exact tt_bd1 t_of (fun _ _ => tt_bd1 e_put (fun g1 h1 => tt_bd1 t_of (fun _ _ => tt_bd1 e_put (fun g2 h2 => tt_some (E3.tr h2 h1)))))
theorem e_hearAll {K : Nat} {f : Nat → Int32} (hK : 200000 ≤ K) (hr : Rw (f 3)) : Tt (F_X5_hearAll K f) (fun g => E3 g f) := by
  have J : ∀ (k0 : Int32) (w : Nat → Int32), E3 w f → Tt (J_X5_hearAll_41 k0 w) (fun g => E3 g f) := by
    intro k0 w hw
    unfold J_X5_hearAll_41
    exact tt_ite (fun _ => tt_nm (tt_some (E3.tr (b := w) ⟨rfl, rfl, rfl⟩ hw))) (fun _ => tt_nm (tt_nm (tt_some (E3.tr (b := w) ⟨rfl, rfl, rfl⟩ hw))))
  unfold F_X5_hearAll
  refine tt_bd1 (e_hearPlaces hK hr) (fun w hw => tt_nm (tt_bd1 t_allows (fun _ _ => ?_)))
  have hw : E3 w f := hw
  exact tt_ite (fun _ => J _ _ (E3.tr (b := w) ⟨rfl, rfl, rfl⟩ hw)) (fun _ => J _ _ (E3.tr (b := w) ⟨rfl, rfl, rfl⟩ hw))
theorem e_moveSite {K : Nat} {p1 p2 p3 ac oc : Int32} {f pa sh lo : Nat → Int32} (hK : 200000 ≤ K) (hr : Rw (f 3)) : Tt (F_X5_moveSite K p1 p2 p3 f pa ac oc sh lo) (fun x => E3 x.2.1 f) := by
  unfold F_X5_moveSite
  refine tt_bd1 e_shift (fun w hw => tt_bd1 t_isQuiet (fun r _ => ?_))
  have hw' : E3 w f := hw
  have hr' : Rw (upd w 12 (w 12 + 1) 3) := by rw [show upd w 12 (w 12 + 1) 3 = w 3 from rfl, hw'.1]; exact hr
  have hu' : E3 (upd w 12 (w 12 + 1)) f := E3.tr (b := w) ⟨rfl, rfl, rfl⟩ hw'
  refine tt_ite (fun _ => tt_nm ?_) (fun _ => tt_some hw')
  refine tt_bd6 (P := fun x : Nat × Int32 × (Nat → Int32) × Int32 × (Nat → Int32) × (Nat → Int32) => x.1 < 2 ∧ Rw x.2.2.2.1) (tt_for (fun j u => u.2.1 = nI (j + 1) ∧ Rw u.2.2.2.1) 8 (by omega) ⟨rfl, ⟨0, by decide, rfl⟩⟩ (fun j u hj hu => ?_)) (fun t x4 pa' ac' sh' lo' hx => ?_)
  · have J : ∀ k0, j < 8 → Tt (J_X5_moveSite_102_r47 K k0 u.1 u.2.1 (upd w 12 (w 12 + 1)) u.2.2.1 u.2.2.2.1 u.2.2.2.2.1 u.2.2.2.2.2) (Nx (fun j u => u.2.1 = nI (j + 1) ∧ Rw u.2.2.2.1) (fun x : Nat × Int32 × (Nat → Int32) × Int32 × (Nat → Int32) × (Nat → Int32) => x.1 < 2 ∧ Rw x.2.2.2.1) 8 j) := by
      intro k0 jl
      unfold J_X5_moveSite_102_r47
      exact tt_bd1 t_isFrozen (fun _ _ => tt_ite (fun _ => tt_bd2 (t_noteAsked hu.2) (fun c1 a1 h1 => tt_bd3 (t_canShare hK hr') (fun _ _ _ _ => tt_ite (fun _ => tt_some (nx_l jl ⟨nx1 hu.1, h1⟩)) (fun _ => tt_some (nx_r ⟨Nat.zero_lt_succ 1, h1⟩))))) (fun _ => tt_some (nx_l jl ⟨nx1 hu.1, hu.2⟩)))
    unfold B_X5_moveSite_46
    refine tt_ite (fun _ => tt_some (nx_r ⟨Nat.lt_succ_self 1, hu.2⟩)) (fun _ => tt_ite (fun _ => tt_some (nx_r ⟨Nat.lt_succ_self 1, hu.2⟩)) (fun q => ?_))
    have jl : j + 1 < 8 := lt_of_lit (by decide) (by omega) hu.1 q
    exact tt_bd1 t_isAbove (fun _ _ => tt_ite (fun _ => tt_ite (fun _ => J _ (by omega)) (fun _ => J _ (by omega))) (fun _ => tt_some (nx_r ⟨Nat.lt_succ_self 1, hu.2⟩)))
  · have ht : t < 2 := hx.1
    refine tt_ite (fun _ => tt_bd3 (e_balance hK hr') (fun _ g _ hg => tt_some (E3.tr hg hu'))) (fun h0 => tt_ite (fun _ => ?_) (fun h1 => ?_))
    · unfold J_X5_moveSite_153
      exact tt_bd1 (e_hearAll hK hr') (fun g hg => tt_some (E3.tr hg hu'))
    · omega
theorem e_hearByHand {K : Nat} {f : Nat → Int32} (hK : 200000 ≤ K) (hr : Rw (f 3)) : Tt (F_X5_hearByHand K f) (fun x => E3 x.2 f) := by
  unfold F_X5_hearByHand
  exact tt_bd1 (e_hearAll hK hr) (fun g hg => tt_some hg)
theorem e_startCounts {K : Nat} {p1 : Int32} {f : Nat → Int32} (hK : 200000 ≤ K) (hr : Rw (f 3)) : Tt (F_X5_startCounts K p1 f) (fun g => E3 g f) := by
  unfold F_X5_startCounts
  refine tt_nm (tt_nm (tt_nm (tt_nm (tt_bd1 (P := fun g => E3 g f) (tt_for (fun j u => u.1 = nI j ∧ E3 u.2 f) 8 (by omega) ⟨rfl, rfl, rfl, rfl⟩ (fun j u hj hu => ?_)) (fun g hg => tt_some hg)))))
  unfold B_X5_startCounts_33
  exact tt_bd1 t_sites (fun r hs => tt_ite (fun _ => tt_some (nx_r hu.2)) (fun q => tt_bd1 e_put (fun g1 h1 => tt_bd1 e_put (fun g2 h2 => tt_some (nx_l (rw_lt hr (hs.trans hu.2.1) hu.1 hj q) ⟨nx1 hu.1, E3.tr h2 (E3.tr h1 hu.2)⟩)))))
/-- sites and acts as they were, r messages more -/
def E4 (r : Int32) (g f : Nat → Int32) : Prop := g 3 = f 3 ∧ g 16 = f 16 ∧ g 11 = f 11 + r
theorem e_doAct {K : Nat} {p1 p2 p3 p4 ac oc : Int32} {f pa sh lo : Nat → Int32} (hK : 200000 ≤ K) (hr : Rw (f 3)) : Tt (F_X5_doAct K p1 p2 p3 p4 f pa ac oc sh lo) (fun x => E4 x.1 x.2.1 f) := by
  have up : ∀ {w : Nat → Int32} {v : Int32}, E3 w f → E4 v (upd w 11 (w 11 + v)) f := fun {w v} hw => ⟨hw.1, hw.2.1, by rw [upd_at, hw.2.2]⟩
  unfold F_X5_doAct
  refine tt_ite (fun _ => tt_bd7 (e_moveSite hK hr) (fun _ w _ _ _ _ _ hw => tt_nm (tt_some (up hw)))) (fun _ => ?_)
  refine tt_ite (fun _ => tt_bd2 (e_hearByHand hK hr) (fun _ w hw => tt_nm (tt_some (up hw)))) (fun _ => ?_)
  refine tt_ite (fun _ => tt_nm (tt_bd2 (e_hearByHand (f := upd f 1 p2) hK hr) (fun _ w hw => tt_nm (tt_some (up (E3.tr (b := upd f 1 p2) hw ⟨rfl, rfl, rfl⟩)))))) (fun _ => ?_)
  refine tt_ite (fun _ => tt_nm (tt_bd2 (e_hearByHand (f := upd f 0 p2) hK hr) (fun _ w hw => tt_nm (tt_some (up (E3.tr (b := upd f 0 p2) hw ⟨rfl, rfl, rfl⟩)))))) (fun _ => ?_)
  refine tt_ite (fun _ => tt_bd2 (e_addTo hK hr) (fun _ w hw => tt_nm (tt_some (up hw)))) (fun _ => ?_)
  refine tt_ite (fun _ => tt_bd1 (e_startCounts hK hr) (fun w hw => tt_nm (tt_some (up hw)))) (fun _ => ?_)
  exact tt_ite (fun _ => tt_nm (tt_nm (tt_some (up (w := upd f 7 (f 7 ^^^ ((1 : Int32) <<< (p2 &&& (31 : Int32))))) ⟨rfl, rfl, rfl⟩)))) (fun _ => tt_nm (tt_some (up (w := f) ⟨rfl, rfl, rfl⟩)))
end
-- 83c.16
section
/-! Stage B, 16: an act that can be, in both -/
abbrev RowI (n : Nat) (g : Nat → Int32) : Prop := RowG g ∧ (0 < n → RowX n g ∧ RowF n g ∧ RowC n g)
theorem RowC.of {n : Nat} {g g' : Nat → Int32} (h : RowC n g) (n8 : n ≤ 8) (fr : ∀ k, ((48 ≤ k ∧ k < 64) ∨ k = 66 ∨ k = 73 ∨ k = 75) → g' k = g k) : RowC n g' := by
  obtain ⟨a, b, q, a1, a9, e66, b9, e73, hq, e75, hcs, hrs⟩ := h
  have e : st n g' = st n g := st_of (fr 66 (by omega)) (fr 73 (by omega))
  refine ⟨a, b, q, a1, a9, (fr 66 (by omega)).trans e66, b9, (fr 73 (by omega)).trans e73, hq, (fr 75 (by omega)).trans e75, fun j hj => ?_, fun j hj => ?_⟩
  · rw [fr (48 + j) (by omega)]
    exact hcs j hj
  · rw [fr (56 + j) (by omega), e]
    exact hrs j hj
theorem RowI.of {n : Nat} {g g' : Nat → Int32} (h : RowI n g) (n8 : n ≤ 8) (G : RowG g') (fr : ∀ k, (k < 16 ∨ (48 ≤ k ∧ k < 64) ∨ k = 66 ∨ k = 73 ∨ k = 75 ∨ (76 ≤ k ∧ k < 84)) → g' k = g k) : RowI n g' := by
  refine ⟨G, fun h0 => ?_⟩
  obtain ⟨hX, hF, hC⟩ := h.2 h0
  refine ⟨fun j hj => ?_, fun j hj => ?_, hC.of n8 (fun k hk => fr k (by omega))⟩
  · rw [fr (0 + j) (by omega), fr (8 + j) (by omega)]
    exact hX j hj
  · rw [fr (76 + j) (by omega)]
    exact hF j hj
theorem RowI.msg {n : Nat} {g : Nat → Int32} (h : RowI n g) (n8 : n ≤ 8) (v : Int32) : RowI n (upd g 67 v) := h.of n8 (h.1.of (upd_ne (by decide)) (upd_ne (by decide))) (fun k hk => upd_ne (by omega))
/-- what an act leaves, and what it tells: r messages, v the reference's answer -/
def DaQ (n s : Nat) (a : Int32) (g : Nat → Int32) (r v : Int32) (f' g' : Nat → Int32) : Prop := RowR n f' g' ∧ RowI n g' ∧ g' 67 = g 67 + r ∧ (∀ k, 84 ≤ k → g' k = g k) ∧ (∃ m, m ≤ 100 ∧ r = nI m) ∧ (s = 0 ∨ s = 1 ∨ s = 4 → v = r) ∧ (s = 2 → v = g 65) ∧ (s = 3 → v = g 64) ∧ (s = 5 → v = g 66) ∧ (s = 6 → ∀ i, i < n → a = nI i → v = g' (76 + i))
theorem hh_both {n K : Nat} {f g : Nat → Int32} (hK : 200000 ≤ K) (h : RowR n f g) (hI : RowI n g) (hl : ∃ a, a < 4 ∧ g 64 = nI a) : ∃ f' g', F_X5_hearByHand K f = some (nI (2 * n), f') ∧ F_X8_hearsAll K g (nI n) = some g' ∧ (2 : Int32) * nI n = nI (2 * n) ∧ RowR n f' g' ∧ RowI n g' ∧ ∀ k, (84 ≤ k ∨ k = 67) → g' k = g k := by
  have n8 := h.n8
  obtain ⟨f1, g1, e1, e2, R, G, fr⟩ := ha_both hK h.1 hl
  have e : (2 : Int32) * nI n = nI (2 * n) := by rw [show (2 : Int32) = nI 2 from rfl, nI_mul]
  refine ⟨f1, g1, ?_, e2, e, R, hI.of n8 G (fun k hk => fr k (by omega) (by omega) (by omega) (by omega)), fun k hk => fr k (by omega) (by omega) (by omega) (by omega)⟩
  unfold F_X5_hearByHand
  rw [e1, xb1, show f1 3 = nI n from R.1.2.1, e]
theorem RowR.msg {n : Nat} {f g : Nat → Int32} {r : Int32} (h : RowR n f g) : RowR n (upd f 11 (f 11 + r)) (upd g 67 (g 67 + r)) := h.fr11 _ _
theorem da_both {n K s : Nat} {f g P A sh lo sx sy : Nat → Int32} {S a b c ac oc as ou tk : Int32} (eS : S = nI s) (hs : s ≤ 6) (hK : 200000 ≤ K) (h : RowR n f g) (hI : RowI n g) (ok : ActOk n s a b c g) : ∃ (r v ac' oc' as' ou' : Int32) (f' g' P' A' sh' lo' sx' sy' : Nat → Int32), F_X5_doAct K S a b c f P ac oc sh lo = some (r, f', P', ac', oc', sh', lo') ∧ F_X8_doNow K S a b c g (nI n) sx sy as ou A tk = some (v, g', sx', sy', as', ou', A', r) ∧ DaQ n s a g r v f' g' := by
  have n8 := h.n8
  obtain ⟨h0, ok0, ok3, ok4, ok5, ok6⟩ := ok
  obtain ⟨hX, hF, hC⟩ := hI.2 h0
  unfold F_X5_doAct F_X8_doNow F_X8_doIt
  rw [eS]
  rcases (show s = 0 ∨ s = 1 ∨ s = 2 ∨ s = 3 ∨ s = 4 ∨ s = 5 ∨ s = 6 by omega) with rfl | rfl | rfl | rfl | rfl | rfl | rfl
  · obtain ⟨i, hi, rfl, -, -, x1, x2, -⟩ := ok0 rfl
    obtain ⟨r, o, m, f1, g1, P1, A1, sh1, lo1, sx1, sy1, e1, e2, -, -, R, G, hm, fr⟩ := mv_both (x := b) (y := c) (P := P) (A := A) (sh := sh) (lo := lo) (sx := sx) (sy := sy) (ac := ac) (oc := oc) (as := as) (ou := ou) hK h hI.1 hi
    rw [if_pos (by decide), if_pos (by decide), e1, e2, xb7, xb7, xnm, xb8, xnm]
    have fr2 : ∀ k, 16 ≤ k → mvG i b c g k = g k := fun k hk => by
      unfold mvG
      rw [upd_ne (by omega), upd_ne (by omega)]
    have I1 : RowI n g1 := by
      refine ⟨G, fun _ => ⟨fun j hj => ?_, fun j hj => ?_, hC.of n8 (fun k hk => ?_)⟩⟩
      · rw [fr (0 + j) (by omega) (by omega) (by omega) (by omega) (by omega) (by omega), fr (8 + j) (by omega) (by omega) (by omega) (by omega) (by omega) (by omega)]
        unfold mvG
        by_cases e : j = i
        · rw [e, upd_ne (show ¬ 0 + i = 8 + i by omega), upd_at, upd_at, upd_ne (show ¬ 8 + i = 0 + i by omega)]
          exact ⟨x1, x2⟩
        · rw [upd_ne (by omega), upd_ne (by omega), upd_ne (by omega), upd_ne (by omega)]
          exact hX j hj
      · rw [fr (76 + j) (by omega) (by omega) (by omega) (by omega) (by omega) (by omega), fr2 _ (by omega)]
        exact hF j hj
      · rw [fr k (by omega) (by omega) (by omega) (by omega) (by omega) (by omega), fr2 _ (by omega)]
    refine ⟨r, r, _, _, _, _, _, _, _, _, _, _, _, _, rfl, rfl, R.msg, I1.msg n8 _, by rw [upd_at, fr 67 (by omega) (by omega) (by omega) (by omega) (by omega) (by omega), fr2 _ (by omega)], fun k hk => ?_, hm, fun _ => rfl, by omega, by omega, by omega, by omega⟩
    rw [upd_ne (by omega), fr k (by omega) (by omega) (by omega) (by omega) (by omega) (by omega), fr2 _ (by omega)]
  · obtain ⟨f1, g1, e1, e2, e3, R, I1, fr⟩ := hh_both hK h hI hI.1.1
    rw [if_neg (by decide), if_pos (by decide), if_neg (by decide), if_pos (by decide), e1, e2, xb1, xb2, xnm, xb8, xnm, e3]
    exact ⟨_, _, _, _, _, _, _, _, _, _, _, _, _, _, rfl, rfl, R.msg, I1.msg n8 _, by rw [upd_at, fr 67 (Or.inr rfl)], fun k hk => (upd_ne (by omega)).trans (fr k (Or.inl hk)), ⟨2 * n, by omega, rfl⟩, fun _ => rfl, by omega, by omega, by omega, by omega⟩
  · have R0 : RowR n (upd f 1 a) (upd g 65 a) := h.scal (by decide) a
    have I0 : RowI n (upd g 65 a) := hI.of n8 (hI.1.of (upd_ne (by decide)) (upd_ne (by decide))) (fun k hk => upd_ne (by omega))
    obtain ⟨f1, g1, e1, e2, e3, R, I1, fr⟩ := hh_both hK R0 I0 I0.1.1
    unfold F_X8_setsAnd
    rw [if_neg (by decide), if_neg (by decide), if_pos (by decide), if_neg (by decide), if_neg (by decide), if_pos (by decide), xix (show vp_in (65 : Int32) 265 from nI_in (c := 65) (by decide) (by decide)), xix (show vp_in (65 : Int32) 265 from nI_in (c := 65) (by decide) (by decide)), xnm, xnm]
    rw [show (65 : Int32).toNatClampNeg = 65 by decide, e1, e2, xb1, xb2, xnm, xb3, xb8, xnm, e3]
    exact ⟨_, _, _, _, _, _, _, _, _, _, _, _, _, _, rfl, rfl, R.msg, I1.msg n8 _, by rw [upd_at, fr 67 (Or.inr rfl), upd_ne (by decide)], fun k hk => (upd_ne (by omega)).trans ((fr k (Or.inl hk)).trans (upd_ne (by omega))), ⟨2 * n, by omega, rfl⟩, by omega, fun _ => rfl, by omega, by omega, by omega⟩
  · obtain ⟨k3, hk3, ek3⟩ := in_nat (p := a) (n := 3) (by decide) (ok3 rfl)
    have R0 : RowR n (upd f 0 a) (upd g 64 a) := h.scal (by decide) a
    have I0 : RowI n (upd g 64 a) := hI.of n8 ⟨⟨k3, by omega, by rw [upd_at]; exact ek3⟩, by rw [upd_ne (by decide)]; exact hI.1.2⟩ (fun k hk => upd_ne (by omega))
    obtain ⟨f1, g1, e1, e2, e3, R, I1, fr⟩ := hh_both hK R0 I0 I0.1.1
    unfold F_X8_setsAnd
    rw [if_neg (by decide), if_neg (by decide), if_neg (by decide), if_pos (by decide), if_neg (by decide), if_neg (by decide), if_neg (by decide), if_pos (by decide), xix (show vp_in (64 : Int32) 265 from nI_in (c := 64) (by decide) (by decide)), xix (show vp_in (64 : Int32) 265 from nI_in (c := 64) (by decide) (by decide)), xnm, xnm]
    rw [show (64 : Int32).toNatClampNeg = 64 by decide, e1, e2, xb1, xb2, xnm, xb3, xb8, xnm, e3]
    exact ⟨_, _, _, _, _, _, _, _, _, _, _, _, _, _, rfl, rfl, R.msg, I1.msg n8 _, by rw [upd_at, fr 67 (Or.inr rfl), upd_ne (by decide)], fun k hk => (upd_ne (by omega)).trans ((fr k (Or.inl hk)).trans (upd_ne (by omega))), ⟨2 * n, by omega, rfl⟩, by omega, by omega, fun _ => rfl, by omega, by omega⟩
  · obtain ⟨i, hi, rfl, ⟨b1, b9⟩, hc, hr⟩ := ok4 rfl
    obtain ⟨k, hk9, rfl⟩ := in_nat (p := b) (n := 999) (by decide) ⟨Int32.le_trans (by decide) b1, b9⟩
    have hk1 : 1 ≤ k := (nI_leI (a := 1) (b := k) (by omega) (by omega)).mp b1
    have hcc : ∃ c, c + k ≤ 99999 ∧ g (48 + i) = nI c := by
      obtain ⟨-, -, -, -, -, -, -, -, -, -, hcs, -⟩ := id hC
      obtain ⟨c, hc9, ec⟩ := hcs i hi
      rw [ec, nI_add] at hc
      exact ⟨c, (nI_leI (a := c + k) (b := 99999) (by omega) (by omega)).mp hc, ec⟩
    obtain ⟨r, f1, g1, e1, e2, R, C1, hm, fr⟩ := ad_both hK h hC hi hk1 (by omega) hcc hr
    rw [if_neg (by decide), if_neg (by decide), if_neg (by decide), if_neg (by decide), if_pos (by decide), if_neg (by decide), if_neg (by decide), if_neg (by decide), if_neg (by decide), if_pos (by decide), e1, e2, xb2, xb2, xnm, xb8, xnm]
    have I1 : RowI n g1 := by
      refine ⟨hI.1.of (fr 64 (by omega) (by decide) (by decide) (by decide)) (fr 72 (by omega) (by decide) (by decide) (by decide)), fun _ => ⟨fun j hj => ?_, fun j hj => ?_, C1⟩⟩
      · rw [fr (0 + j) (by omega) (by omega) (by omega) (by omega), fr (8 + j) (by omega) (by omega) (by omega) (by omega)]
        exact hX j hj
      · rw [fr (76 + j) (by omega) (by omega) (by omega) (by omega)]
        exact hF j hj
    exact ⟨_, _, _, _, _, _, _, _, _, _, _, _, _, _, rfl, rfl, R.msg, I1.msg n8 _, by rw [upd_at, fr 67 (by omega) (by omega) (by omega) (by omega)], fun k hk => (upd_ne (by omega)).trans (fr k (by omega) (by omega) (by omega) (by omega)), hm, fun _ => rfl, by omega, by omega, by omega, by omega⟩
  · obtain ⟨a1, a9⟩ := ok5 rfl
    obtain ⟨k, hk9, rfl⟩ := in_nat (p := a) (n := 9999) (by decide) ⟨Int32.le_trans (by decide) a1, a9⟩
    have hk1 : 1 ≤ k := (nI_leI (a := 1) (b := k) (by omega) (by omega)).mp a1
    obtain ⟨f1, g1, e1, e2, R, fr, z66, z73, z75, zc⟩ := sg_both (p := nI k) hK h
    rw [if_neg (by decide), if_neg (by decide), if_neg (by decide), if_neg (by decide), if_neg (by decide), if_pos (by decide), if_neg (by decide), if_neg (by decide), if_neg (by decide), if_neg (by decide), if_neg (by decide), if_pos (by decide), e1, e2, xb1, xb2, xnm, xb8, xnm]
    have I1 : RowI n g1 := by
      refine ⟨hI.1.of (fr 64 (by omega) (by decide) (by decide) (by decide) (by decide)) (fr 72 (by omega) (by decide) (by decide) (by decide) (by decide)), fun _ => ⟨fun j hj => ?_, fun j hj => ?_, ?_⟩⟩
      · rw [fr (0 + j) (by omega) (by omega) (by omega) (by omega) (by omega), fr (8 + j) (by omega) (by omega) (by omega) (by omega) (by omega)]
        exact hX j hj
      · rw [fr (76 + j) (by omega) (by omega) (by omega) (by omega) (by omega)]
        exact hF j hj
      · exact ⟨k, 0, 0, hk1, by omega, z66, by omega, z73, h0, z75, fun j hj => ⟨0, by omega, (zc j hj).1⟩, fun j hj => ⟨0, (zc j hj).2, Or.inl rfl⟩⟩
    exact ⟨_, _, _, _, _, _, _, _, _, _, _, _, _, _, rfl, rfl, R.msg, I1.msg n8 _, by rw [upd_at, fr 67 (by omega) (by omega) (by omega) (by omega) (by omega)], fun k hk => (upd_ne (by omega)).trans (fr k (by omega) (by omega) (by omega) (by omega) (by omega)), ⟨0, by omega, rfl⟩, by omega, by omega, by omega, fun _ => rfl, by omega⟩
  · obtain ⟨i, hi, rfl⟩ := ok6 rfl
    have R := fr_both h hi (hF i hi)
    rw [if_neg (by decide), if_neg (by decide), if_neg (by decide), if_neg (by decide), if_neg (by decide), if_neg (by decide), if_pos (by decide), if_neg (by decide), if_neg (by decide), if_neg (by decide), if_neg (by decide), if_neg (by decide), if_neg (by decide), if_pos (by decide), xnm, xnm, bm_ix (a := 76) (by rfl) (by omega), bm_ix (a := 76) (by rfl) (by omega), xnm, bm_ix (a := 76) (by rfl) (by omega), xb8, xnm, bm_cl (a := 76) (by rfl) (by omega)]
    have I1 : RowI n (upd g (76 + i) (1 - g (76 + i))) := by
      refine ⟨hI.1.of (upd_ne (by omega)) (upd_ne (by omega)), fun _ => ⟨fun j hj => ?_, fun j hj => ?_, hC.of n8 (fun k hk => upd_ne (by omega))⟩⟩
      · rw [upd_ne (by omega), upd_ne (by omega)]
        exact hX j hj
      · by_cases e : j = i
        · rw [e, upd_at]
          rcases hF i hi with w | w
          · rw [w]
            exact Or.inr (by decide)
          · rw [w]
            exact Or.inl (by decide)
        · rw [upd_ne (by omega)]
          exact hF j hj
    refine ⟨_, _, _, _, _, _, _, _, _, _, _, _, _, _, rfl, rfl, R.msg, I1.msg n8 _, by rw [upd_at, upd_ne (by omega)], fun k hk => (upd_ne (by omega)).trans (upd_ne (by omega)), ⟨0, by omega, rfl⟩, by omega, by omega, by omega, by omega, fun _ j hj e => ?_⟩
    have e2 : i = j := (nI_eq (a := i) (b := j) (by omega) (by omega)).mp e
    rw [e2, upd_ne (show ¬ 76 + j = 67 by omega)]
end
-- 83c.17
section
/-! Stage B, 17: the log, in both -/
theorem fm_100 {a : Nat} (ha : a < 2 ^ 30) : F_J9_floorMod_7cf53 (nI a) (100 : Int32) = some (nI (a % 100)) := by
  have e : (0 : Int32) ≤ nI a ^^^ (100 : Int32) := by
    have u := xor_neg (x := nI a) (b := 100) (by decide)
    have v : ¬ (nI a ^^^ nI 100) < 0 := fun z => nn0 (by omega) (u.mp z)
    exact Decidable.byContradiction (fun z => v (lt_not.mpr z))
  unfold F_J9_floorMod_7cf53 nzI
  rw [if_neg (by decide), if_pos e]
  exact congrArg some (nI_mod (m := a) (n := 100) (by omega) (by decide))
/-- the log's lines of an act -/
def wrB (bk : Nat → Int32) (a : Nat) (s m t : Int32) : Nat → Int32 := upd (upd (upd bk (a % 100 * 3) s) (a % 100 * 3 + 1) m) (a % 100 * 3 + 2) t
theorem c_write {a : Nat} {s m t : Int32} {bk : Nat → Int32} (ha : a < 2 ^ 30) : F_X0_write (nI a) s m t bk = some (wrB bk a s m t) := by
  have hm : a % 100 < 100 := Nat.mod_lt _ (by decide)
  have e0 : nI (a % 100) * (3 : Int32) = nI (a % 100 * 3) := by rw [show (3 : Int32) = nI 3 from rfl, nI_mul]
  have e1 : nI (a % 100 * 3) + (1 : Int32) = nI (a % 100 * 3 + 1) := nI_1 _
  have e2 : nI (a % 100 * 3) + (2 : Int32) = nI (a % 100 * 3 + 2) := nI_add _ 2
  unfold F_X0_write
  rw [fm_100 ha, xb1, e0, e1, e2, xixn (by omega) (by decide), xnm, xixn (by omega) (by decide), xnm, xixn (by omega) (by decide), xnm, nI_clamp (by omega), nI_clamp (by omega), nI_clamp (by omega)]
  rfl
theorem wrB_ne {bk : Nat → Int32} {a b w : Nat} {s m t : Int32} (hw : w < 3) (h : ¬ b % 100 = a % 100) : wrB bk a s m t (b % 100 * 3 + w) = bk (b % 100 * 3 + w) := by
  unfold wrB
  rw [upd_ne (by omega), upd_ne (by omega), upd_ne (by omega)]
theorem wrB_at {bk : Nat → Int32} {a : Nat} {s m t : Int32} : wrB bk a s m t (a % 100 * 3 + 0) = s ∧ wrB bk a s m t (a % 100 * 3 + 1) = m ∧ wrB bk a s m t (a % 100 * 3 + 2) = t := by
  unfold wrB
  refine ⟨?_, ?_, upd_at⟩
  · rw [upd_ne (by omega), upd_ne (by omega), Nat.add_zero, upd_at]
  · rw [upd_ne (by omega), upd_at]
/-- how many acts the log tells -/
def lgN (a : Nat) : Nat := if a < 60 then a else 60
theorem lgN_le (a : Nat) : lgN a ≤ 60 ∧ lgN a ≤ a := by unfold lgN; split <;> omega
/-- the log of a acts -/
def LogR (bk : Nat → Int32) (a : Nat) (g : Nat → Int32) : Prop := g 84 = nI (lgN a) ∧ ∀ e w, e < lgN a → w < 3 → g (85 + 3 * e + w) = bk ((a - lgN a + e) % 100 * 3 + w)
theorem LogR.of {bk g g' : Nat → Int32} {a : Nat} (h : LogR bk a g) (hg : ∀ k, 84 ≤ k → k < 265 → g' k = g k) : LogR bk a g' := by
  have l := lgN_le a
  refine ⟨(hg 84 (by omega) (by omega)).trans h.1, fun e w he hw => ?_⟩
  rw [hg _ (by omega) (by omega)]
  exact h.2 e w he hw
theorem LogR.wr {bk g : Nat → Int32} {a b : Nat} {s m t : Int32} (h : LogR bk b g) (h1 : b ≤ a) (h2 : a ≤ b + 39) : LogR (wrB bk a s m t) b g := by
  have l := lgN_le b
  refine ⟨h.1, fun e w he hw => ?_⟩
  rw [wrB_ne hw (by omega)]
  exact h.2 e w he hw
/-- the reference's log, moved down by one -/
def shL (g : Nat → Int32) (j : Nat) : Nat → Int32 := fun k => if 85 ≤ k ∧ k < 85 + j then g (k + 3) else g k
theorem m_shift {K : Nat} {g : Nat → Int32} (hK : 200000 ≤ K) : lpF (fun u9 : Int32 × (Nat → Int32) => B_X8_note_14 u9.1 u9.2) K ((3 : Int32), g) = some (shL g 177) := by
  have z : g = shL g 0 := by
    funext k
    unfold shL
    rw [if_neg (by omega)]
  have h : lpF (fun u9 : Int32 × (Nat → Int32) => B_X8_note_14 u9.1 u9.2) K (nI (3 + 0), shL g 0) = some (shL g 177) := by
    refine lp_for (fun j => (nI (3 + j), shL g j)) (n := 177) (by omega) (fun j hj => ?_) ?_
    · show B_X8_note_14 (nI (3 + j)) (shL g j) = some (.inl (nI (3 + (j + 1)), shL g (j + 1)))
      have e1 : (85 : Int32) + nI (3 + j) = nI (88 + j) := by rw [show (85 : Int32) = nI 85 from rfl, nI_add]; congr 1; omega
      have e2 : nI (88 + j) - (3 : Int32) = nI (85 + j) := by rw [show (3 : Int32) = nI 3 from rfl, xsub (by omega)]; congr 1; omega
      have e3 : upd (shL g j) (85 + j) (shL g j (88 + j)) = shL g (j + 1) := by
        funext k
        by_cases c : k = 85 + j
        · rw [c, upd_at]
          unfold shL
          rw [if_neg (by omega), if_pos (by omega)]
          congr 1
          omega
        · rw [upd_ne c]
          unfold shL
          by_cases d : 85 ≤ k ∧ k < 85 + j
          · rw [if_pos d, if_pos (by omega)]
          · rw [if_neg d, if_neg (by omega)]
      unfold B_X8_note_14
      rw [if_neg (show ¬ (180 : Int32) ≤ nI (3 + j) from mt (nI_leI (a := 180) (b := 3 + j) (by omega) (by omega)).mp (by omega)), e1, e2, xixn (by omega) (by decide), xixn (by omega) (by decide), xnm, nI_clamp (by omega), nI_clamp (by omega), e3, nI_1]
      rfl
    · show B_X8_note_14 (nI 180) (shL g 177) = some (.inr (shL g 177))
      unfold B_X8_note_14
      rw [if_pos (by decide)]
  rw [← z] at h
  exact h
theorem m_noteJ {g : Nat → Int32} {l : Nat} {s m t : Int32} (hl : l < 60) (e84 : g 84 = nI l) : J_X8_note_58 s m t g = some (upd (upd (upd (upd g (85 + 3 * l) s) (85 + 3 * l + 1) m) (85 + 3 * l + 2) t) 84 (nI (l + 1))) := by
  have e0 : (85 : Int32) + ((3 : Int32) * nI l) = nI (85 + 3 * l) := by rw [show (85 : Int32) = nI 85 from rfl, show (3 : Int32) = nI 3 from rfl, nI_mul, nI_add]
  have e1 : nI (85 + 3 * l) + (1 : Int32) = nI (85 + 3 * l + 1) := nI_1 _
  have e2 : nI (85 + 3 * l) + (2 : Int32) = nI (85 + 3 * l + 2) := nI_add _ 2
  have e4 : (upd (upd (upd g (85 + 3 * l) s) (85 + 3 * l + 1) m) (85 + 3 * l + 2) t) 84 = nI l := by rw [upd_ne (by omega), upd_ne (by omega), upd_ne (by omega), e84]
  unfold J_X8_note_58
  rw [e84, e0, e1, e2, xixn (by omega) (by decide), xnm, xixn (by omega) (by decide), xnm, xixn (by omega) (by decide), xnm, xnm, nI_clamp (by omega), nI_clamp (by omega), nI_clamp (by omega), e4, nI_1]
/-- an act is noted, in both -/
theorem nt_both {K a : Nat} {bk g : Nat → Int32} {s m t : Int32} (hK : 200000 ≤ K) (h : LogR bk a g) : ∃ g', F_X8_note K s m g t = some g' ∧ (∀ k, k < 84 → g' k = g k) ∧ LogR (wrB bk a s m t) (a + 1) g' := by
  have l := lgN_le a
  unfold F_X8_note
  rw [h.1]
  by_cases c : a < 60
  · have la : lgN a = a := by unfold lgN; rw [if_pos c]
    have la1 : lgN (a + 1) = a + 1 := by unfold lgN; split <;> omega
    rw [la, if_neg (show ¬ nI a = (60 : Int32) from fun z => by have := (nI_eq (a := a) (b := 60) (by omega) (by omega)).mp z; omega), m_noteJ (l := a) c (by rw [h.1, la])]
    refine ⟨_, rfl, fun k hk => ?_, ?_, fun e w he hw => ?_⟩
    · rw [upd_ne (by omega), upd_ne (by omega), upd_ne (by omega), upd_ne (by omega)]
    · rw [upd_at, la1]
    · rw [la1] at he ⊢
      rw [show a + 1 - (a + 1) + e = e by omega]
      by_cases d : e = a
      · obtain ⟨w0, w1, w2⟩ := wrB_at (bk := bk) (a := a) (s := s) (m := m) (t := t)
        rw [d]
        rcases (show w = 0 ∨ w = 1 ∨ w = 2 by omega) with rfl | rfl | rfl
        · rw [w0, upd_ne (by omega), upd_ne (by omega), upd_ne (by omega), Nat.add_zero, upd_at]
        · rw [w1, upd_ne (by omega), upd_ne (by omega), upd_at]
        · rw [w2, upd_ne (by omega), upd_at]
      · rw [wrB_ne hw (by omega), upd_ne (by omega), upd_ne (by omega), upd_ne (by omega), upd_ne (by omega)]
        have := h.2 e w (by omega) hw
        rw [la, show a - a + e = e by omega] at this
        exact this
  · have la : lgN a = 60 := by unfold lgN; rw [if_neg c]
    have la1 : lgN (a + 1) = 60 := by unfold lgN; rw [if_neg (by omega)]
    have s84 : shL g 177 84 = nI 60 := by
      unfold shL
      rw [if_neg (by omega), h.1, la]
    have v84 : (upd (shL g 177) 84 (nI 60 - 1)) 84 = nI 59 := by rw [upd_at]; rfl
    rw [la, if_pos (by decide), m_shift hK, xb1, xnm, s84, m_noteJ (l := 59) (by decide) v84]
    refine ⟨_, rfl, fun k hk => ?_, ?_, fun e w he hw => ?_⟩
    · rw [upd_ne (by omega), upd_ne (by omega), upd_ne (by omega), upd_ne (by omega), upd_ne (by omega)]
      unfold shL
      rw [if_neg (by omega)]
    · rw [upd_at, la1]
    · rw [la1] at he ⊢
      by_cases d : e = 59
      · obtain ⟨w0, w1, w2⟩ := wrB_at (bk := bk) (a := a) (s := s) (m := m) (t := t)
        rw [d, show a + 1 - 60 + 59 = a by omega]
        rcases (show w = 0 ∨ w = 1 ∨ w = 2 by omega) with rfl | rfl | rfl
        · rw [w0, upd_ne (by omega), upd_ne (by omega), upd_ne (by omega), Nat.add_zero, upd_at]
        · rw [w1, upd_ne (by omega), upd_ne (by omega), upd_at]
        · rw [w2, upd_ne (by omega), upd_at]
      · rw [wrB_ne hw (by omega), upd_ne (by omega), upd_ne (by omega), upd_ne (by omega), upd_ne (by omega), upd_ne (by omega)]
        unfold shL
        rw [if_pos (by omega), show 85 + 3 * e + w + 3 = 85 + 3 * (e + 1) + w by omega]
        have := h.2 (e + 1) w (by omega) hw
        rw [la] at this
        rw [this]
        congr 3
        omega
end
-- 83c.18
section
/-! Stage B, 18: rows that are kept, in both -/
/-- a row of each: they say the same, b acts are behind them, the log is right -/
def KRow (n : Nat) (bk : Nat → Int32) (b : Nat) (f g : Nat → Int32) : Prop := RowR n f g ∧ RowI n g ∧ f 16 = nI b ∧ LogR bk b g ∧ f 11 = g 67
theorem RowR.cg {n : Nat} {f g f' g' : Nat → Int32} (h : RowR n f g) (hf : ∀ k, k < 81 → f' k = f k) (hg : ∀ k, k < 265 → g' k = g k) : RowR n f' g' := by
  have n8 := h.n8
  refine h.of (fun i c hi hc => ?_) (hf 3 (by decide)) (fun p hp => ?_) (hf 4 (by decide)) (hf 5 (by decide)) (hf 7 (by decide)) (fun i hi => hg _ (by omega)) (fun k a b => hg k (by omega))
  · rw [hf _ (by omega), hg _ (by omega)]
    exact h.1.2.2.1 i c hi hc
  · obtain ⟨b1, -, -, -, -, b6, b7⟩ := rowScl_b p hp
    rw [hf _ (by omega), hg _ (by omega)]
    exact h.sc p hp
theorem RowI.cg {n : Nat} {g g' : Nat → Int32} (h : RowI n g) (n8 : n ≤ 8) (hg : ∀ k, k < 84 → g' k = g k) : RowI n g' := h.of n8 (h.1.of (hg 64 (by decide)) (hg 72 (by decide))) (fun k hk => hg k (by omega))
theorem KRow.cg {n b : Nat} {bk f g f' g' : Nat → Int32} (h : KRow n bk b f g) (hf : ∀ k, k < 81 → f' k = f k) (hg : ∀ k, k < 265 → g' k = g k) : KRow n bk b f' g' := ⟨h.1.cg hf hg, h.2.1.cg h.1.n8 (fun k hk => hg k (by omega)), (hf 16 (by decide)).trans h.2.2.1, h.2.2.2.1.of (fun k _ hk => hg k hk), (hf 11 (by decide)).trans (h.2.2.2.2.trans (hg 67 (by decide)).symm)⟩
theorem KRow.wr {n a b : Nat} {bk f g : Nat → Int32} {s m t : Int32} (h : KRow n bk b f g) (h1 : b ≤ a) (h2 : a ≤ b + 39) : KRow n (wrB bk a s m t) b f g := ⟨h.1, h.2.1, h.2.2.1, h.2.2.2.1.wr h1 h2, h.2.2.2.2⟩
/-- the kept rows: a acts so far, hd of them can be undone -/
def KeepR (n a hd nx : Nat) (bk hr kp : Nat → Int32) : Prop := hd ≤ 40 ∧ hd ≤ a ∧ nx < 40 ∧ ∀ d, d < hd → KRow n bk (a - 1 - d) (fun k => hr (81 * ((nx + 39 - d) % 40) + k)) (fun k => kp (265 * (hd - 1 - d) + k))
def nxH (nx : Nat) : Nat := if 40 ≤ nx + 1 then 0 else nx + 1
def hdH (hd : Nat) : Nat := if hd < 40 then hd + 1 else 40
theorem c_hkeep {nx hd : Nat} {hr f : Nat → Int32} (h1 : nx < 40) (h2 : hd ≤ 40) : F_X2_keep hr (nI nx) (nI hd) f = some (va_cpy f hr 0 (81 * nx) 81, nI (nxH nx), nI (hdH hd)) := by
  have e : nI nx * (81 : Int32) = nI (81 * nx) := by rw [show (81 : Int32) = nI 81 from rfl, nI_mul, Nat.mul_comm]
  have c81 : (81 : Int32).toNatClampNeg = 81 := by decide
  have c0 : (0 : Int32).toNatClampNeg = 0 := by decide
  have em : minF (nI hd + (1 : Int32)) (40 : Int32) = nI (hdH hd) := by
    unfold minF hdH
    rw [nI_1]
    by_cases c : hd < 40
    · rw [if_pos c, if_neg (show ¬ (40 : Int32) < nI (hd + 1) from mt (nI_ltI (a := 40) (b := hd + 1) (by omega) (by omega)).mp (by omega))]
    · rw [if_neg c, if_pos (show (40 : Int32) < nI (hd + 1) from (nI_ltI (a := 40) (b := hd + 1) (by omega) (by omega)).mpr (by omega))]
      rfl
  unfold F_X2_keep cpF
  rw [e, c81, c0, nI_clamp (by omega), if_pos ⟨by decide, nn0 (by omega), by decide, by omega, by omega⟩, xnm, em, nI_1]
  unfold nxH
  by_cases c : 40 ≤ nx + 1
  · rw [if_pos c, if_pos (show (40 : Int32) ≤ nI (nx + 1) from (nI_leI (a := 40) (b := nx + 1) (by omega) (by omega)).mpr c)]
    rfl
  · rw [if_neg c, if_neg (show ¬ (40 : Int32) ≤ nI (nx + 1) from mt (nI_leI (a := 40) (b := nx + 1) (by omega) (by omega)).mp c)]
/-- the reference's kept rows, the oldest dropped -/
def shK (kp : Nat → Int32) (j : Nat) : Nat → Int32 := fun k => if k < j then kp (k + 265) else kp k
theorem m_kshift {K : Nat} {kp : Nat → Int32} (hK : 200000 ≤ K) : lpF (fun u9 : Int32 × (Nat → Int32) => B_X8_keep_13 u9.1 u9.2) K ((265 : Int32), kp) = some (shK kp 10335) := by
  have z : kp = shK kp 0 := by
    funext k
    unfold shK
    rw [if_neg (by omega)]
  have h : lpF (fun u9 : Int32 × (Nat → Int32) => B_X8_keep_13 u9.1 u9.2) K (nI (265 + 0), shK kp 0) = some (shK kp 10335) := by
    refine lp_for (fun j => (nI (265 + j), shK kp j)) (n := 10335) (by omega) (fun j hj => ?_) ?_
    · show B_X8_keep_13 (nI (265 + j)) (shK kp j) = some (.inl (nI (265 + (j + 1)), shK kp (j + 1)))
      have e2 : nI (265 + j) - (265 : Int32) = nI j := by rw [show (265 : Int32) = nI 265 from rfl, xsub (by omega), show 265 + j - 265 = j by omega]
      have e3 : upd (shK kp j) j (shK kp j (265 + j)) = shK kp (j + 1) := by
        funext k
        by_cases c : k = j
        · rw [c, upd_at]
          unfold shK
          rw [if_neg (by omega), if_pos (by omega), Nat.add_comm]
        · rw [upd_ne c]
          unfold shK
          by_cases d : k < j
          · rw [if_pos d, if_pos (by omega)]
          · rw [if_neg d, if_neg (by omega)]
      unfold B_X8_keep_13
      rw [if_neg (show ¬ (10600 : Int32) ≤ nI (265 + j) from mt (nI_leI (a := 10600) (b := 265 + j) (by omega) (by omega)).mp (by omega)), e2, xixn (by omega) (by decide), xixn (by omega) (by decide), xnm, nI_clamp (by omega), nI_clamp (by omega), e3, nI_1]
      rfl
    · show B_X8_keep_13 (nI 10600) (shK kp 10335) = some (.inr (shK kp 10335))
      unfold B_X8_keep_13
      rw [if_pos (by decide)]
  rw [← z] at h
  exact h
theorem m_kput {K e : Nat} {g kp : Nat → Int32} (hK : 200000 ≤ K) (he : e < 40) : J_X8_keep_52 K g kp (nI e) = some (va_cpy g kp 0 (265 * e) 265, nI (e + 1)) := by
  have ci : ∀ j, va_cpy g kp 0 (265 * e) j (265 * e + j) = kp (265 * e + j) := fun j => pk_cpy_out (by omega)
  have h : lpF (fun u9 : Int32 × (Nat → Int32) => B_X8_keep_54 g (nI e) u9.1 u9.2) K (nI 0, va_cpy g kp 0 (265 * e) 0) = some (va_cpy g kp 0 (265 * e) 265) := by
    refine lp_for (fun j => (nI j, va_cpy g kp 0 (265 * e) j)) (n := 265) (by omega) (fun j hj => ?_) ?_
    · show B_X8_keep_54 g (nI e) (nI j) (va_cpy g kp 0 (265 * e) j) = some (.inl (nI (j + 1), va_cpy g kp 0 (265 * e) (j + 1)))
      have e1 : ((265 : Int32) * nI e) + nI j = nI (265 * e + j) := by rw [show (265 : Int32) = nI 265 from rfl, nI_mul, nI_add]
      have e3 : upd (va_cpy g kp 0 (265 * e) j) (265 * e + j) (g j) = va_cpy g kp 0 (265 * e) (j + 1) := by
        funext k
        by_cases c : k = 265 * e + j
        · rw [c, upd_at, pk_cpy_in (by omega) (by omega)]
          congr 1
          omega
        · rw [upd_ne c]
          by_cases d : 265 * e ≤ k ∧ k < 265 * e + j
          · rw [pk_cpy_in d.1 d.2, pk_cpy_in (by omega) (by omega)]
          · rw [pk_cpy_out (by omega), pk_cpy_out (by omega)]
      unfold B_X8_keep_54
      rw [if_neg (show ¬ (265 : Int32) ≤ nI j from mt (nI_leI (a := 265) (b := j) (by omega) (by omega)).mp (by omega)), xixn (by omega) (by decide), e1, xixn (by omega) (by decide), xnm, nI_clamp (by omega), nI_clamp (by omega), e3, nI_1]
    · show B_X8_keep_54 g (nI e) (nI 265) (va_cpy g kp 0 (265 * e) 265) = some (.inr (va_cpy g kp 0 (265 * e) 265))
      unfold B_X8_keep_54
      rw [if_pos (by decide)]
  have z : va_cpy g kp 0 (265 * e) 0 = kp := by
    funext k
    exact pk_cpy_out (by omega)
  rw [z] at h
  unfold J_X8_keep_52
  rw [show (0 : Int32) = nI 0 from rfl, h, xb1, nI_1]
/-- a row is kept, in both -/
theorem kp_both {n a hd nx K : Nat} {bk hr kp f g : Nat → Int32} (hK : 200000 ≤ K) (h : KeepR n a hd nx bk hr kp) (hw : KRow n bk a f g) : ∃ kp', F_X2_keep hr (nI nx) (nI hd) f = some (va_cpy f hr 0 (81 * nx) 81, nI (nxH nx), nI (hdH hd)) ∧ F_X8_keep K g kp (nI hd) = some (kp', nI (hdH hd)) ∧ KeepR n (a + 1) (hdH hd) (nxH nx) bk (va_cpy f hr 0 (81 * nx) 81) kp' := by
  obtain ⟨h1, h2, h3, hR⟩ := h
  have base : ∀ kp' : Nat → Int32, (∀ k, k < 265 → kp' (265 * (hdH hd - 1) + k) = g k) → (∀ d, d < hd → d < 39 → ∀ k, k < 265 → kp' (265 * (hdH hd - 1 - (d + 1)) + k) = kp (265 * (hd - 1 - d) + k)) → KeepR n (a + 1) (hdH hd) (nxH nx) bk (va_cpy f hr 0 (81 * nx) 81) kp' := by
    intro kp' z1 z2
    have q1 : hdH hd ≤ 40 ∧ hdH hd ≤ hd + 1 := by unfold hdH; split <;> omega
    have q2 : nxH nx < 40 := by unfold nxH; split <;> omega
    refine ⟨q1.1, by omega, q2, fun d hd' => ?_⟩
    by_cases c : d = 0
    · have p : (nxH nx + 39 - d) % 40 = nx := by unfold nxH; rw [c]; split <;> omega
      rw [p, c]
      refine KRow.cg (show KRow n bk (a + 1 - 1 - 0) f g by rw [show a + 1 - 1 - 0 = a by omega]; exact hw) (fun k hk => ?_) (fun k hk => z1 k hk)
      show va_cpy f hr 0 (81 * nx) 81 (81 * nx + k) = f k
      rw [pk_cpy_in (by omega) (by omega)]
      congr 1
      omega
    · obtain ⟨e, rfl⟩ : ∃ e, d = e + 1 := ⟨d - 1, by omega⟩
      have e1 : e < hd ∧ e < 39 := by omega
      have p : (nxH nx + 39 - (e + 1)) % 40 = (nx + 39 - e) % 40 := by unfold nxH; split <;> omega
      rw [p, show a + 1 - 1 - (e + 1) = a - 1 - e by omega]
      refine KRow.cg (hR e e1.1) (fun k hk => ?_) (fun k hk => z2 e e1.1 e1.2 k hk)
      show va_cpy f hr 0 (81 * nx) 81 (81 * ((nx + 39 - e) % 40) + k) = hr (81 * ((nx + 39 - e) % 40) + k)
      have ne : ¬ (nx + 39 - e) % 40 = nx := by omega
      have lt : (nx + 39 - e) % 40 < 40 := Nat.mod_lt _ (by decide)
      generalize (nx + 39 - e) % 40 = y at ne lt
      exact pk_cpy_out (by omega)
  have C := c_hkeep (hr := hr) (f := f) h3 h1
  unfold F_X8_keep
  by_cases c : hd = 40
  · have hh : hdH hd = 40 := by unfold hdH; rw [if_neg (by omega)]
    have e39 : nI hd - (1 : Int32) = nI 39 := by rw [c]; rfl
    rw [if_pos (by rw [c]; rfl), m_kshift hK, xb1, e39, m_kput hK (by decide)]
    refine ⟨_, C, by rw [hh], base _ (fun k hk => ?_) (fun d q1 q2 k hk => ?_)⟩
    · rw [hh]
      show va_cpy g (shK kp 10335) 0 (265 * 39) 265 (265 * 39 + k) = g k
      rw [pk_cpy_in (by omega) (by omega), show 0 + (265 * 39 + k - 265 * 39) = k by omega]
    · rw [hh, pk_cpy_out (by omega)]
      unfold shK
      rw [if_pos (by omega), show 265 * (40 - 1 - (d + 1)) + k + 265 = 265 * (hd - 1 - d) + k by omega]
  · have hh : hdH hd = hd + 1 := by unfold hdH; rw [if_pos (by omega)]
    rw [if_neg (show ¬ nI hd = (40 : Int32) from fun z => c ((nI_eq (a := hd) (b := 40) (by omega) (by omega)).mp z)), m_kput hK (by omega)]
    refine ⟨_, C, by rw [hh], base _ (fun k hk => ?_) (fun d q1 q2 k hk => ?_)⟩
    · rw [hh, show hd + 1 - 1 = hd by omega, pk_cpy_in (by omega) (by omega)]
      congr 1
      omega
    · rw [hh, show hd + 1 - 1 - (d + 1) = hd - 1 - d by omega, pk_cpy_out (by omega)]
end
-- 83c.19
section
/-! Stage B, 19: acts by hand, in both -/
def ActR (n a hd nx : Nat) (f g bk hr kp : Nat → Int32) : Prop := KRow n bk a f g ∧ KeepR n a hd nx bk hr kp
/-- what an act tells -/
def TelQ (n s : Nat) (x : Int32) (g : Nat → Int32) (r v : Int32) (g' : Nat → Int32) : Prop := (∃ m, m ≤ 100 ∧ r = nI m) ∧ (s = 0 ∨ s = 1 ∨ s = 4 → v = r) ∧ (s = 2 → v = g 65) ∧ (s = 3 → v = g 64) ∧ (s = 5 → v = g 66) ∧ (s = 6 → ∀ i, i < n → x = nI i → v = g' (76 + i))
theorem at_both {n a hd nx K s : Nat} {f g bk hr kp rf P A sh lo sx sy : Nat → Int32} {S x y z h5 ac oc as ou tk : Int32} (eS : S = nI s) (hs : s ≤ 6) (hK : 200000 ≤ K) (ha : a < 2 ^ 29) (h : ActR n a hd nx f g bk hr kp) (er : F_X5_refusal S x y z f = some (-1)) (ok : ActOk n s x y z g) : ∃ (r v ac' oc' as' ou' : Int32) (hd' nx' : Nat) (f' g' bk' hr' kp' P' A' sh' lo' sx' sy' : Nat → Int32), F_X7_act K S x y z h5 f P ac oc sh lo bk hr (nI nx) (nI hd) rf = some (r, f', P', ac', oc', sh', lo', bk', hr', nI nx', nI hd', rf) ∧ F_X8_act K S x y z g (nI n) sx sy as ou A tk kp (nI hd) = some (v, g', sx', sy', as', ou', A', r, kp', nI hd') ∧ ActR n (a + 1) hd' nx' f' g' bk' hr' kp' ∧ TelQ n s x g r v g' := by
  obtain ⟨hw, hk⟩ := h
  obtain ⟨kp1, k1, k2, k3⟩ := kp_both hK hk hw
  have n8 := hw.1.n8
  obtain ⟨r, v, ac1, oc1, as1, ou1, f1, g1, P1, A1, sh1, lo1, sx1, sy1, d1, d2, R, I1, g67, fr, hm, v0, v2, v3, v5, v6⟩ := da_both (P := P) (A := A) (sh := sh) (lo := lo) (sx := sx) (sy := sy) (ac := ac) (oc := oc) (as := as) (ou := ou) (tk := tk) eS hs hK hw.1 hw.2.1 ok
  have f16 : f1 16 = nI a ∧ f1 11 = g1 67 := by
    obtain ⟨q, e, hq⟩ := e_doAct (p1 := S) (p2 := x) (p3 := y) (p4 := z) (ac := ac) (oc := oc) (f := f) (pa := P) (sh := sh) (lo := lo) hK ⟨n, n8, hw.1.sz⟩
    rw [d1] at e
    have e2 := Option.some.inj e
    rw [← e2] at hq
    exact ⟨hq.2.1.trans hw.2.2.1, by rw [g67, ← hw.2.2.2.2]; exact hq.2.2⟩
  obtain ⟨f16, f11⟩ := f16
  have L1 : LogR bk a g1 := hw.2.2.2.1.of (fun k q1 _ => fr k q1)
  have kw : ∀ {s' m' t' : Int32}, KeepR n (a + 1) (hdH hd) (nxH nx) (wrB bk a s' m' t') (va_cpy f hr 0 (81 * nx) 81) kp1 := fun {s' m' t'} => by
    obtain ⟨w1, w2, w3, w4⟩ := k3
    exact ⟨w1, w2, w3, fun d q => (w4 d q).wr (by omega) (by omega)⟩
  have fin : ∀ mm : Int32, ∃ g2, F_X8_note K S mm g1 r = some g2 ∧ (∃ f2, J_X7_act_103 mm S (f1 16) r f1 P1 ac1 oc1 sh1 lo1 bk (va_cpy f hr 0 (81 * nx) 81) (nI (nxH nx)) (nI (hdH hd)) rf = some (r, f2, P1, ac1, oc1, sh1, lo1, wrB bk a S mm r, va_cpy f hr 0 (81 * nx) 81, nI (nxH nx), nI (hdH hd), rf) ∧ ActR n (a + 1) (hdH hd) (nxH nx) f2 g2 (wrB bk a S mm r) (va_cpy f hr 0 (81 * nx) 81) kp1) ∧ ∀ k, k < 84 → g2 k = g1 k := by
    intro mm
    obtain ⟨g2, n1, n2, n3⟩ := nt_both (s := S) (m := mm) (t := r) hK L1
    refine ⟨g2, n1, ⟨upd f1 16 (nI (a + 1)), ?_, ⟨?_, I1.cg n8 n2, upd_at, n3, ?_⟩, kw⟩, n2⟩
    · unfold J_X7_act_103
      rw [f16, c_write (by omega), xb1, xnm, nI_1]
    · have R1 : RowR n (upd f1 16 (nI (a + 1))) g1 := by
        refine R.of (fun i c hi hc => ?_) (upd_ne (by decide)) (fun p hp => ?_) (upd_ne (by decide)) (upd_ne (by decide)) (upd_ne (by decide)) (fun _ _ => rfl) (fun _ _ _ => rfl)
        · rw [upd_ne (by omega)]
          exact R.1.2.2.1 i c hi hc
        · have q16 : ¬ p.1 = 16 := by
            revert p
            decide
          rw [upd_ne q16]
          exact R.sc p hp
      refine R1.of (fun i c hi hc => ?_) rfl (fun p hp => ?_) rfl rfl rfl (fun i hi => n2 _ (by omega)) (fun k q1 q2 => n2 k (by omega))
      · rw [n2 _ (by omega)]
        exact R1.1.2.2.1 i c hi hc
      · obtain ⟨-, -, -, -, -, b6, b7⟩ := rowScl_b p hp
        rw [n2 _ (by omega)]
        exact R1.sc p hp
    · rw [upd_ne (by decide), n2 67 (by decide)]
      exact f11
  unfold F_X7_act F_X8_act
  rw [er, xb1, if_pos rfl, k1, xb3, k2, xb2, d1, xb7, d2, xb8]
  by_cases c : S = 1
  · obtain ⟨g2, n1, ⟨f2, j1, j2⟩, n2⟩ := fin (-1)
    rw [if_pos c, if_pos c, j1, n1, xb1]
    exact ⟨_, _, _, _, _, _, _, _, _, _, _, _, _, _, _, _, _, _, _, rfl, rfl, j2, hm, v0, v2, v3, v5, fun w i hi e => by rw [n2 _ (by omega)]; exact v6 w i hi e⟩
  · obtain ⟨g2, n1, ⟨f2, j1, j2⟩, n2⟩ := fin x
    rw [if_neg c, if_neg c, j1, n1, xb1]
    exact ⟨_, _, _, _, _, _, _, _, _, _, _, _, _, _, _, _, _, _, _, rfl, rfl, j2, hm, v0, v2, v3, v5, fun w i hi e => by rw [n2 _ (by omega)]; exact v6 w i hi e⟩
theorem RowI.x {n : Nat} {g : Nat → Int32} (h : RowI n g) : RowX n g := fun j hj => (h.2 (by omega)).1 j hj
/-- an act by hand -/
theorem hn_both {n a hd nx K s : Nat} {f g bk hr kp rf mrf P A sh lo sx sy : Nat → Int32} {S x y z no ac oc as ou tk : Int32} (eS : S = nI s) (hs : s ≤ 6) (hK : 200000 ≤ K) (ha : a < 2 ^ 29) (h : ActR n a hd nx f g bk hr kp) (hrf : ∀ i, i < 3 → rf i = mrf i) : ∃ (r v ac' oc' as' ou' tk' : Int32) (a' hd' nx' : Nat) (f' g' bk' hr' kp' rf' mrf' P' A' sh' lo' sx' sy' : Nat → Int32), F_X7_act K S x y z 1 f P ac oc sh lo bk hr (nI nx) (nI hd) rf = some (r, f', P', ac', oc', sh', lo', bk', hr', nI nx', nI hd', rf') ∧ F_X8_hand K no S x y z g mrf (nI n) sx sy as ou A tk kp (nI hd) = some (v, g', mrf', sx', sy', as', ou', A', tk', kp', nI hd') ∧ ActR n a' hd' nx' f' g' bk' hr' kp' ∧ a' ≤ a + 1 ∧ (∀ i, i < 3 → rf' i = mrf' i) ∧ ((r = -1 ∧ v = no ∧ f' = f ∧ g' = g) ∨ (ActOk n s x y z g ∧ TelQ n s x g r v g')) := by
  obtain ⟨w, e1, e2, e3, e4⟩ := rf_both (a := x) (b := y) (c := z) eS hs hK h.1.1 h.1.2.1.x
  by_cases c : w = -1
  · rw [c] at e1 e2
    obtain ⟨r, v, ac1, oc1, as1, ou1, hd1, nx1, f1, g1, bk1, hr1, kp1, P1, A1, sh1, lo1, sx1, sy1, d1, d2, d3, d4⟩ := at_both (rf := rf) (P := P) (A := A) (sh := sh) (lo := lo) (sx := sx) (sy := sy) (h5 := 1) (ac := ac) (oc := oc) (as := as) (ou := ou) (tk := tk) eS hs hK ha h e1 (e4 c)
    unfold F_X8_hand
    rw [d1, e2, xb1, if_pos rfl, d2]
    exact ⟨_, _, _, _, _, _, _, a + 1, _, _, _, _, _, _, _, _, _, _, _, _, _, _, _, rfl, rfl, d3, Nat.le_refl _, hrf, Or.inr ⟨e4 c, d4⟩⟩
  · rcases e3 with e3 | ⟨i, hi, e3⟩
    · exact absurd e3 c
    · unfold F_X7_act F_X8_hand
      rw [e1, xb1, if_neg c, e2, xb1, if_neg c, if_neg (show ¬ (1 : Int32) = 0 by decide), e3, if_neg (nn0 (by omega)), if_neg (show ¬ (3 : Int32) ≤ nI i from mt (nI_leI (a := 3) (b := i) (by omega) (by omega)).mp (by omega)), xixn (by omega) (by decide), xixn (by omega) (by decide), xnm, xixn (by omega) (by decide), xixn (by omega) (by decide), xnm, nI_clamp (by omega)]
      refine ⟨_, _, _, _, _, _, _, a, _, _, _, _, _, _, _, _, _, _, _, _, _, _, _, rfl, rfl, h, Nat.le_succ _, fun j hj => ?_, Or.inl ⟨rfl, rfl, rfl, rfl⟩⟩
      by_cases e : j = i
      · rw [e, upd_at, upd_at, hrf i hi]
      · rw [upd_ne e, upd_ne e, hrf j hj]
end
-- 83c.20
section
/-! Stage B, 20: the calls that act, in both -/
abbrev PubX : Type := Int32 × (Nat → Int32) × (Nat → Int32) × Int32 × Int32 × (Nat → Int32) × (Nat → Int32) × (Nat → Int32) × (Nat → Int32) × Int32 × Int32 × (Nat → Int32)
abbrev PubM : Type := Int32 × (Nat → Int32) × (Nat → Int32) × (Nat → Int32) × (Nat → Int32) × Int32 × Int32 × (Nat → Int32) × Int32 × (Nat → Int32) × Int32
/-- both answer the same, and what they leave says the same -/
def PubQ (n a : Nat) (X : Option PubX) (M : Option PubM) : Prop := ∃ (v ac' oc' as' ou' tk' : Int32) (a' hd' nx' : Nat) (f' g' bk' hr' kp' rf' mrf' P' A' sh' lo' sx' sy' : Nat → Int32), X = some (v, f', P', ac', oc', sh', lo', bk', hr', nI nx', nI hd', rf') ∧ M = some (v, g', mrf', sx', sy', as', ou', A', tk', kp', nI hd') ∧ ActR n a' hd' nx' f' g' bk' hr' kp' ∧ a' ≤ a + 1 ∧ ∀ i, i < 3 → rf' i = mrf' i
theorem nI_nn {m : Nat} (h : m < 2 ^ 31) : (0 : Int32) ≤ nI m := (nI_leI (a := 0) (b := m) (by omega) h).mpr (Nat.zero_le _)
theorem irr_1 {K : Nat} {x y z x' y' z' h5 ac oc : Int32} {f P sh lo bk hr rf : Nat → Int32} {nx hd : Int32} : F_X7_act K 1 x y z h5 f P ac oc sh lo bk hr nx hd rf = F_X7_act K 1 x' y' z' h5 f P ac oc sh lo bk hr nx hd rf := by
  have e1 : F_X5_refusal 1 x y z f = F_X5_refusal 1 x' y' z' f := by
    unfold F_X5_refusal
    obtain ⟨r, e, -⟩ := t_stands (f := f)
    rw [e, xb1, xb1]
    by_cases c : r = 0
    · rw [if_pos c, if_pos c]
    · rw [if_neg c, if_neg c, if_neg (show ¬ (1 : Int32) = 0 by decide), if_pos rfl, if_neg (show ¬ (1 : Int32) = 0 by decide), if_pos rfl]
  have e2 : F_X5_doAct K 1 x y z f P ac oc sh lo = F_X5_doAct K 1 x' y' z' f P ac oc sh lo := by
    unfold F_X5_doAct
    rw [if_neg (show ¬ (1 : Int32) = 0 by decide), if_pos rfl, if_neg (show ¬ (1 : Int32) = 0 by decide), if_pos rfl]
  unfold F_X7_act
  rw [e1, e2]
  simp only [if_true]
theorem irr_4 {K : Nat} {x y z z' h5 ac oc : Int32} {f P sh lo bk hr rf : Nat → Int32} {nx hd : Int32} : F_X7_act K 4 x y z h5 f P ac oc sh lo bk hr nx hd rf = F_X7_act K 4 x y z' h5 f P ac oc sh lo bk hr nx hd rf := by
  have e1 : F_X5_refusal 4 x y z f = F_X5_refusal 4 x y z' f := by
    unfold F_X5_refusal
    obtain ⟨r, e, -⟩ := t_stands (f := f)
    rw [e, xb1, xb1]
    by_cases c : r = 0
    · rw [if_pos c, if_pos c]
    · rw [if_neg c, if_neg c, if_neg (show ¬ (4 : Int32) = 0 by decide), if_neg (show ¬ (4 : Int32) = 1 by decide), if_neg (show ¬ (4 : Int32) = 2 by decide), if_neg (show ¬ (4 : Int32) = 3 by decide), if_pos rfl, if_neg (show ¬ (4 : Int32) = 0 by decide)]
  have e2 : F_X5_doAct K 4 x y z f P ac oc sh lo = F_X5_doAct K 4 x y z' f P ac oc sh lo := by
    unfold F_X5_doAct
    rw [if_neg (show ¬ (4 : Int32) = 0 by decide), if_neg (show ¬ (4 : Int32) = 1 by decide), if_neg (show ¬ (4 : Int32) = 2 by decide), if_neg (show ¬ (4 : Int32) = 3 by decide), if_pos rfl, if_neg (show ¬ (4 : Int32) = 0 by decide)]
  unfold F_X7_act
  rw [e1, e2]
theorem p_move {n a hd nx K : Nat} {f g bk hr kp rf mrf P A sh lo sx sy : Nat → Int32} {x y z ac oc as ou tk : Int32} (hK : 200000 ≤ K) (ha : a < 2 ^ 29) (h : ActR n a hd nx f g bk hr kp) (hrf : ∀ i, i < 3 → rf i = mrf i) : PubQ n a (F_X7_move K x y z f P ac oc sh lo bk hr (nI nx) (nI hd) rf) (F_X8_move K x y z g mrf (nI n) sx sy as ou A tk kp (nI hd)) := by
  obtain ⟨r, v, ac1, oc1, as1, ou1, tk1, a1, hd1, nx1, f1, g1, bk1, hr1, kp1, rf1, mrf1, P1, A1, sh1, lo1, sx1, sy1, e1, e2, q1, q2, q3, q4⟩ := hn_both (s := 0) (S := 0) (x := x) (y := y) (z := z) (no := -1) (P := P) (A := A) (sh := sh) (lo := lo) (sx := sx) (sy := sy) (ac := ac) (oc := oc) (as := as) (ou := ou) (tk := tk) rfl (by decide) hK ha h hrf
  have ev : v = r := by
    rcases q4 with ⟨w1, w2, -⟩ | ⟨-, w⟩
    · rw [w1, w2]
    · exact w.2.1 (Or.inl rfl)
  unfold F_X7_move F_X8_move
  rw [e1, e2, xb12, xb11, ev]
  exact ⟨_, _, _, _, _, _, _, _, _, _, _, _, _, _, _, _, _, _, _, _, _, _, rfl, rfl, q1, q2, q3⟩
theorem p_sync {n a hd nx K : Nat} {f g bk hr kp rf mrf P A sh lo sx sy : Nat → Int32} {ac oc as ou tk : Int32} (hK : 200000 ≤ K) (ha : a < 2 ^ 29) (h : ActR n a hd nx f g bk hr kp) (hrf : ∀ i, i < 3 → rf i = mrf i) : PubQ n a (F_X7_sync K f P ac oc sh lo bk hr (nI nx) (nI hd) rf) (F_X8_sync K g mrf (nI n) sx sy as ou A tk kp (nI hd)) := by
  obtain ⟨r, v, ac1, oc1, as1, ou1, tk1, a1, hd1, nx1, f1, g1, bk1, hr1, kp1, rf1, mrf1, P1, A1, sh1, lo1, sx1, sy1, e1, e2, q1, q2, q3, q4⟩ := hn_both (s := 1) (S := 1) (x := 0) (y := 0) (z := 0) (no := -1) (P := P) (A := A) (sh := sh) (lo := lo) (sx := sx) (sy := sy) (ac := ac) (oc := oc) (as := as) (ou := ou) (tk := tk) rfl (by decide) hK ha h hrf
  have ev : v = r := by
    rcases q4 with ⟨w1, w2, -⟩ | ⟨-, w⟩
    · rw [w1, w2]
    · exact w.2.1 (Or.inr (Or.inl rfl))
  unfold F_X7_sync F_X8_sync
  rw [irr_1 (x := -1) (y := 0) (z := 0) (x' := 0) (y' := 0) (z' := 0), e1, e2, xb12, xb11, ev]
  exact ⟨_, _, _, _, _, _, _, _, _, _, _, _, _, _, _, _, _, _, _, _, _, _, rfl, rfl, q1, q2, q3⟩
theorem p_add {n a hd nx K : Nat} {f g bk hr kp rf mrf P A sh lo sx sy : Nat → Int32} {x y ac oc as ou tk : Int32} (hK : 200000 ≤ K) (ha : a < 2 ^ 29) (h : ActR n a hd nx f g bk hr kp) (hrf : ∀ i, i < 3 → rf i = mrf i) : PubQ n a (F_X7_add K x y f P ac oc sh lo bk hr (nI nx) (nI hd) rf) (F_X8_add K x y g mrf (nI n) sx sy as ou A tk kp (nI hd)) := by
  obtain ⟨r, v, ac1, oc1, as1, ou1, tk1, a1, hd1, nx1, f1, g1, bk1, hr1, kp1, rf1, mrf1, P1, A1, sh1, lo1, sx1, sy1, e1, e2, q1, q2, q3, q4⟩ := hn_both (s := 4) (S := 4) (x := x) (y := y) (z := 0) (no := -1) (P := P) (A := A) (sh := sh) (lo := lo) (sx := sx) (sy := sy) (ac := ac) (oc := oc) (as := as) (ou := ou) (tk := tk) rfl (by decide) hK ha h hrf
  have ev : v = r := by
    rcases q4 with ⟨w1, w2, -⟩ | ⟨-, w⟩
    · rw [w1, w2]
    · exact w.2.1 (Or.inr (Or.inr rfl))
  unfold F_X7_add F_X8_add
  rw [e1, e2, xb12, xb11, ev]
  exact ⟨_, _, _, _, _, _, _, _, _, _, _, _, _, _, _, _, _, _, _, _, _, _, rfl, rfl, q1, q2, q3⟩
theorem p_bound {n a hd nx K : Nat} {f g bk hr kp rf mrf P A sh lo sx sy : Nat → Int32} {x ac oc as ou tk : Int32} (hK : 200000 ≤ K) (ha : a < 2 ^ 29) (h : ActR n a hd nx f g bk hr kp) (hrf : ∀ i, i < 3 → rf i = mrf i) : PubQ n a (F_X7_bound K x f P ac oc sh lo bk hr (nI nx) (nI hd) rf) (F_X8_bound K x g mrf (nI n) sx sy as ou A tk kp (nI hd)) := by
  obtain ⟨r, v, ac1, oc1, as1, ou1, tk1, a1, hd1, nx1, f1, g1, bk1, hr1, kp1, rf1, mrf1, P1, A1, sh1, lo1, sx1, sy1, e1, e2, q1, q2, q3, q4⟩ := hn_both (s := 2) (S := 2) (x := x) (y := 0) (z := 0) (no := -100000000) (P := P) (A := A) (sh := sh) (lo := lo) (sx := sx) (sy := sy) (ac := ac) (oc := oc) (as := as) (ou := ou) (tk := tk) rfl (by decide) hK ha h hrf
  unfold F_X7_bound F_X8_bound
  rw [e1, e2, xb12, xb11]
  rcases q4 with ⟨w1, w2, -⟩ | ⟨-, ⟨m, hm, w1⟩, -, w2, -⟩
  · rw [w1, w2, if_neg (by decide)]
    exact ⟨_, _, _, _, _, _, _, _, _, _, _, _, _, _, _, _, _, _, _, _, _, _, rfl, rfl, q1, q2, q3⟩
  · rw [w1, if_pos (nI_nn (by omega)), w2 rfl, show f 1 = g 65 from h.1.1.sc (1, 65) (by decide)]
    exact ⟨_, _, _, _, _, _, _, _, _, _, _, _, _, _, _, _, _, _, _, _, _, _, rfl, rfl, q1, q2, q3⟩
theorem p_law {n a hd nx K : Nat} {f g bk hr kp rf mrf P A sh lo sx sy : Nat → Int32} {x ac oc as ou tk : Int32} (hK : 200000 ≤ K) (ha : a < 2 ^ 29) (h : ActR n a hd nx f g bk hr kp) (hrf : ∀ i, i < 3 → rf i = mrf i) : PubQ n a (F_X7_law K x f P ac oc sh lo bk hr (nI nx) (nI hd) rf) (F_X8_law K x g mrf (nI n) sx sy as ou A tk kp (nI hd)) := by
  obtain ⟨r, v, ac1, oc1, as1, ou1, tk1, a1, hd1, nx1, f1, g1, bk1, hr1, kp1, rf1, mrf1, P1, A1, sh1, lo1, sx1, sy1, e1, e2, q1, q2, q3, q4⟩ := hn_both (s := 3) (S := 3) (x := x) (y := 0) (z := 0) (no := -1) (P := P) (A := A) (sh := sh) (lo := lo) (sx := sx) (sy := sy) (ac := ac) (oc := oc) (as := as) (ou := ou) (tk := tk) rfl (by decide) hK ha h hrf
  unfold F_X7_law F_X8_law
  rw [e1, e2, xb12, xb11]
  rcases q4 with ⟨w1, w2, -⟩ | ⟨-, ⟨m, hm, w1⟩, -, -, w2, -⟩
  · rw [w1, w2, if_neg (by decide)]
    exact ⟨_, _, _, _, _, _, _, _, _, _, _, _, _, _, _, _, _, _, _, _, _, _, rfl, rfl, q1, q2, q3⟩
  · rw [w1, if_pos (nI_nn (by omega)), w2 rfl, show f 0 = g 64 from h.1.1.sc (0, 64) (by decide)]
    exact ⟨_, _, _, _, _, _, _, _, _, _, _, _, _, _, _, _, _, _, _, _, _, _, rfl, rfl, q1, q2, q3⟩
theorem p_goal {n a hd nx K : Nat} {f g bk hr kp rf mrf P A sh lo sx sy : Nat → Int32} {x ac oc as ou tk : Int32} (hK : 200000 ≤ K) (ha : a < 2 ^ 29) (h : ActR n a hd nx f g bk hr kp) (hrf : ∀ i, i < 3 → rf i = mrf i) : PubQ n a (F_X7_goal K x f P ac oc sh lo bk hr (nI nx) (nI hd) rf) (F_X8_goal K x g mrf (nI n) sx sy as ou A tk kp (nI hd)) := by
  obtain ⟨r, v, ac1, oc1, as1, ou1, tk1, a1, hd1, nx1, f1, g1, bk1, hr1, kp1, rf1, mrf1, P1, A1, sh1, lo1, sx1, sy1, e1, e2, q1, q2, q3, q4⟩ := hn_both (s := 5) (S := 5) (x := x) (y := 0) (z := 0) (no := -1) (P := P) (A := A) (sh := sh) (lo := lo) (sx := sx) (sy := sy) (ac := ac) (oc := oc) (as := as) (ou := ou) (tk := tk) rfl (by decide) hK ha h hrf
  unfold F_X7_goal F_X8_goal
  rw [e1, e2, xb12, xb11]
  rcases q4 with ⟨w1, w2, -⟩ | ⟨-, ⟨m, hm, w1⟩, -, -, -, w2, -⟩
  · rw [w1, w2, if_neg (by decide)]
    exact ⟨_, _, _, _, _, _, _, _, _, _, _, _, _, _, _, _, _, _, _, _, _, _, rfl, rfl, q1, q2, q3⟩
  · rw [w1, if_pos (nI_nn (by omega)), w2 rfl, show f 2 = g 66 from h.1.1.sc (2, 66) (by decide)]
    exact ⟨_, _, _, _, _, _, _, _, _, _, _, _, _, _, _, _, _, _, _, _, _, _, rfl, rfl, q1, q2, q3⟩
theorem p_freeze {n a hd nx K : Nat} {f g bk hr kp rf mrf P A sh lo sx sy : Nat → Int32} {x ac oc as ou tk : Int32} (hK : 200000 ≤ K) (ha : a < 2 ^ 29) (h : ActR n a hd nx f g bk hr kp) (hrf : ∀ i, i < 3 → rf i = mrf i) : PubQ n a (F_X7_freeze K x f P ac oc sh lo bk hr (nI nx) (nI hd) rf) (F_X8_freeze K x g mrf (nI n) sx sy as ou A tk kp (nI hd)) := by
  obtain ⟨r, v, ac1, oc1, as1, ou1, tk1, a1, hd1, nx1, f1, g1, bk1, hr1, kp1, rf1, mrf1, P1, A1, sh1, lo1, sx1, sy1, e1, e2, q1, q2, q3, q4⟩ := hn_both (s := 6) (S := 6) (x := x) (y := 0) (z := 0) (no := -1) (P := P) (A := A) (sh := sh) (lo := lo) (sx := sx) (sy := sy) (ac := ac) (oc := oc) (as := as) (ou := ou) (tk := tk) rfl (by decide) hK ha h hrf
  unfold F_X7_freeze F_X8_freeze
  rw [e1, e2, xb12, xb11]
  rcases q4 with ⟨w1, w2, -⟩ | ⟨ok, ⟨m, hm, w1⟩, -, -, -, -, w2⟩
  · rw [w1, w2, if_neg (by decide)]
    exact ⟨_, _, _, _, _, _, _, _, _, _, _, _, _, _, _, _, _, _, _, _, _, _, rfl, rfl, q1, q2, q3⟩
  · obtain ⟨i, hi, rfl⟩ := ok.2.2.2.2.2 rfl
    have ev := w2 rfl i hi rfl
    have h0 : 0 < n := by omega
    rw [w1, if_pos (nI_nn (by omega)), fz_c q1.1.1.1 hi, xb1, ite10, ev]
    rcases (q1.1.2.1.2 h0).2.1 i hi with u | u
    · rw [if_neg (show ¬ g1 (76 + i) = 1 by rw [u]; decide), u]
      exact ⟨_, _, _, _, _, _, _, _, _, _, _, _, _, _, _, _, _, _, _, _, _, _, rfl, rfl, q1, q2, q3⟩
    · rw [if_pos u, u]
      exact ⟨_, _, _, _, _, _, _, _, _, _, _, _, _, _, _, _, _, _, _, _, _, _, rfl, rfl, q1, q2, q3⟩
end
-- 83c.21
section
/-! Stage B, 21: undoing, the log, the status, images, in both -/
theorem cpy_st {g kp : Nat → Int32} {o j : Nat} : upd (va_cpy kp g o 0 j) j (kp (o + j)) = va_cpy kp g o 0 (j + 1) := by
  funext k
  by_cases c : k = j
  · rw [c, upd_at, pk_cpy_in (by omega) (by omega), Nat.sub_zero]
  · rw [upd_ne c]
    by_cases d : k < j
    · rw [pk_cpy_in (by omega) (by omega), pk_cpy_in (by omega) (by omega)]
    · rw [pk_cpy_out (by omega), pk_cpy_out (by omega)]
theorem cpy_0 {g kp : Nat → Int32} {o : Nat} : va_cpy kp g o 0 0 = g := by
  funext k
  exact pk_cpy_out (by omega)
theorem gcpy_at {g kp : Nat → Int32} {o m k : Nat} (h : k < m) : va_cpy kp g o 0 m k = kp (o + k) := by
  rw [pk_cpy_in (by omega) (by omega), Nat.sub_zero]
theorem m_undo {K e : Nat} {g kp : Nat → Int32} (hK : 200000 ≤ K) (he : e < 40) : lpF (fun u9 : Int32 × (Nat → Int32) => B_X8_undo_21 kp (nI e) u9.1 u9.2) K ((0 : Int32), g) = some (va_cpy kp g (265 * e) 0 265) := by
  have h : lpF (fun u9 : Int32 × (Nat → Int32) => B_X8_undo_21 kp (nI e) u9.1 u9.2) K (nI 0, va_cpy kp g (265 * e) 0 0) = some (va_cpy kp g (265 * e) 0 265) := by
    refine lp_for (fun j => (nI j, va_cpy kp g (265 * e) 0 j)) (n := 265) (by omega) (fun j hj => ?_) ?_
    · show B_X8_undo_21 kp (nI e) (nI j) (va_cpy kp g (265 * e) 0 j) = some (.inl (nI (j + 1), va_cpy kp g (265 * e) 0 (j + 1)))
      have e1 : ((265 : Int32) * nI e) + nI j = nI (265 * e + j) := by rw [show (265 : Int32) = nI 265 from rfl, nI_mul, nI_add]
      unfold B_X8_undo_21
      rw [if_neg (show ¬ (265 : Int32) ≤ nI j from mt (nI_leI (a := 265) (b := j) (by omega) (by omega)).mp (by omega)), e1, xixn (by omega) (by decide), xixn (by omega) (by decide), xnm, nI_clamp (by omega), nI_clamp (by omega), cpy_st, nI_1]
    · show B_X8_undo_21 kp (nI e) (nI 265) (va_cpy kp g (265 * e) 0 265) = _
      unfold B_X8_undo_21
      rw [if_pos (by decide)]
  rw [cpy_0] at h
  exact h
theorem m_image {K : Nat} {g im : Nat → Int32} (hK : 200000 ≤ K) : lpF (fun u9 : Int32 × (Nat → Int32) => B_X8_image_11 g u9.1 u9.2) K ((0 : Int32), im) = some (va_cpy g im 0 0 265) := by
  have h : lpF (fun u9 : Int32 × (Nat → Int32) => B_X8_image_11 g u9.1 u9.2) K (nI 0, va_cpy g im 0 0 0) = some (va_cpy g im 0 0 265) := by
    refine lp_for (fun j => (nI j, va_cpy g im 0 0 j)) (n := 265) (by omega) (fun j hj => ?_) ?_
    · show B_X8_image_11 g (nI j) (va_cpy g im 0 0 j) = some (.inl (nI (j + 1), va_cpy g im 0 0 (j + 1)))
      have e := cpy_st (g := im) (kp := g) (o := 0) (j := j)
      rw [Nat.zero_add] at e
      unfold B_X8_image_11
      rw [if_neg (show ¬ (265 : Int32) ≤ nI j from mt (nI_leI (a := 265) (b := j) (by omega) (by omega)).mp (by omega)), xixn (by omega) (by decide), xixn (by omega) (by decide), xnm, nI_clamp (by omega), e, nI_1]
    · show B_X8_image_11 g (nI 265) (va_cpy g im 0 0 265) = _
      unfold B_X8_image_11
      rw [if_pos (by decide)]
  rw [cpy_0] at h
  exact h
theorem m_back {K : Nat} {g im : Nat → Int32} (hK : 200000 ≤ K) : lpF (fun u9 : Int32 × (Nat → Int32) => B_X8_back_11 im u9.1 u9.2) K ((0 : Int32), g) = some (va_cpy im g 0 0 265) := by
  have h : lpF (fun u9 : Int32 × (Nat → Int32) => B_X8_back_11 im u9.1 u9.2) K (nI 0, va_cpy im g 0 0 0) = some (va_cpy im g 0 0 265) := by
    refine lp_for (fun j => (nI j, va_cpy im g 0 0 j)) (n := 265) (by omega) (fun j hj => ?_) ?_
    · show B_X8_back_11 im (nI j) (va_cpy im g 0 0 j) = some (.inl (nI (j + 1), va_cpy im g 0 0 (j + 1)))
      have e := cpy_st (g := g) (kp := im) (o := 0) (j := j)
      rw [Nat.zero_add] at e
      unfold B_X8_back_11
      rw [if_neg (show ¬ (265 : Int32) ≤ nI j from mt (nI_leI (a := 265) (b := j) (by omega) (by omega)).mp (by omega)), xixn (by omega) (by decide), xixn (by omega) (by decide), xnm, nI_clamp (by omega), e, nI_1]
    · show B_X8_back_11 im (nI 265) (va_cpy im g 0 0 265) = _
      unfold B_X8_back_11
      rw [if_pos (by decide)]
  rw [cpy_0] at h
  exact h
theorem c_bring {p hd : Nat} {hr f : Nat → Int32} {k0 : Int32} (e0 : k0 = nI p) (hp : p < 40) (h0 : 0 < hd) (h4 : hd ≤ 40) : J_X2_bringBack_28 hr k0 (nI hd) f = some (1, nI p, nI (hd - 1), va_cpy hr f (81 * p) 0 81) := by
  have e : nI p * (81 : Int32) = nI (81 * p) := by rw [show (81 : Int32) = nI 81 from rfl, nI_mul, Nat.mul_comm]
  unfold J_X2_bringBack_28 cpF
  rw [e0, e, show (81 : Int32).toNatClampNeg = 81 by decide, show (0 : Int32).toNatClampNeg = 0 by decide, nI_clamp (by omega), if_pos ⟨nn0 (by omega), by decide, by decide, by omega, by omega⟩, xnm, show nI hd - (1 : Int32) = nI (hd - 1) from xsub (b := 1) (by omega)]
/-- the latest act is undone -/
theorem p_undo {n a hd nx K : Nat} {f g bk hr kp : Nat → Int32} (hK : 200000 ≤ K) (h : ActR n a hd nx f g bk hr kp) : ∃ (v : Int32) (f' g' : Nat → Int32) (a' hd' nx' : Nat), F_X7_undo f hr (nI nx) (nI hd) = some (v, f', nI nx', nI hd') ∧ F_X8_undo K g kp (nI hd) = some (v, g', nI hd') ∧ ActR n a' hd' nx' f' g' bk hr kp ∧ a' ≤ a := by
  obtain ⟨hw, h1, h2, h3, hR⟩ := h
  unfold F_X7_undo F_X8_undo F_X2_bringBack
  by_cases c : hd = 0
  · rw [c, if_pos (by rfl), if_pos (by rfl), xb4, if_pos rfl]
    exact ⟨-1, f, g, a, 0, nx, rfl, rfl, ⟨hw, by omega, by omega, h3, fun d q => absurd q (Nat.not_lt_zero _)⟩, Nat.le_refl _⟩
  · have h0 : 0 < hd := by omega
    have nz : ¬ nI hd = (0 : Int32) := nI_ne0 h0 (by omega)
    have C : (if nI nx ≤ (0 : Int32) then J_X2_bringBack_28 hr (39 : Int32) (nI hd) f else J_X2_bringBack_28 hr (nI nx - (1 : Int32)) (nI hd) f) = some (1, nI ((nx + 39) % 40), nI (hd - 1), va_cpy hr f (81 * ((nx + 39) % 40)) 0 81) := by
      by_cases d : nx = 0
      · rw [if_pos (by rw [d]; decide), c_bring (p := 39) (by rfl) (by decide) h0 h1, d]
      · rw [if_neg (nI_nle (by omega) (by omega)), c_bring (p := nx - 1) (show nI nx - (1 : Int32) = nI (nx - 1) from xsub (b := 1) (by omega)) (by omega) h0 h1, show (nx + 39) % 40 = nx - 1 by omega]
    rw [if_neg nz, if_neg nz, C, xb4, if_neg (show ¬ (1 : Int32) = 0 by decide), show nI hd - (1 : Int32) = nI (hd - 1) from xsub (b := 1) (by omega), m_undo hK (by omega), xb1]
    refine ⟨_, _, _, a - 1, hd - 1, (nx + 39) % 40, rfl, rfl, ⟨?_, by omega, by omega, Nat.mod_lt _ (by decide), fun d q => ?_⟩, by omega⟩
    · have r := hR 0 h0
      rw [show a - 1 - 0 = a - 1 by omega, show nx + 39 - 0 = nx + 39 by omega, show hd - 1 - 0 = hd - 1 by omega] at r
      exact r.cg (fun k hk => gcpy_at hk) (fun k hk => gcpy_at hk)
    · have r := hR (d + 1) (by omega)
      rw [show a - 1 - (d + 1) = a - 1 - 1 - d by omega, show (nx + 39 - (d + 1)) % 40 = ((nx + 39) % 40 + 39 - d) % 40 by omega, show hd - 1 - (d + 1) = hd - 1 - 1 - d by omega] at r
      exact r
theorem c_lgN {a : Nat} (ha : a < 2 ^ 30) : minF (nI a) (60 : Int32) = nI (lgN a) := by
  unfold minF lgN
  by_cases c : a < 60
  · rw [if_pos c, if_neg (show ¬ (60 : Int32) < nI a from mt (nI_ltI (a := 60) (b := a) (by omega) (by omega)).mp (by omega))]
  · rw [if_neg c]
    by_cases d : a = 60
    · rw [d]
      decide
    · rw [if_pos (show (60 : Int32) < nI a from (nI_ltI (a := 60) (b := a) (by omega) (by omega)).mpr (by omega))]
      rfl
/-- what the log tells -/
theorem p_log {n a : Nat} {f g bk : Nat → Int32} {x y : Int32} (ha : a < 2 ^ 29) (h : KRow n bk a f g) : ∃ v, F_X7_log x y f bk = some v ∧ F_X8_log x y g = some v := by
  have l := lgN_le a
  have e84 := h.2.2.2.1.1
  have e1 : F_X8_in x.toInt64 (0 : Int64) ((nI (lgN a) - (1 : Int32)).toInt64) = some (if 0 ≤ x ∧ x ≤ nI (lgN a) - 1 then 1 else 0) := by
    rw [show (0 : Int64) = (0 : Int32).toInt64 from rfl, m_inI]
  have e2 : F_X8_in y.toInt64 (0 : Int64) (2 : Int64) = some (if 0 ≤ y ∧ y ≤ (2 : Int32) then 1 else 0) := by
    rw [show (0 : Int64) = (0 : Int32).toInt64 from rfl, show (2 : Int64) = (2 : Int32).toInt64 from rfl, m_inI]
  unfold F_X7_log F_X8_log F_X7_loggedActs
  rw [e84, e1, xb1, e2, xb1, xb1, h.2.2.1, c_lgN (by omega)]
  by_cases c : 0 ≤ x ∧ x ≤ nI (lgN a) - 1
  · obtain ⟨i, hi, rfl⟩ := in_lt (by omega) c
    rw [if_pos c, if_neg (show ¬ (1 : Int32) = 0 by decide), if_neg (nn0 (by omega)), if_neg (mt (nI_leI (a := lgN a) (b := i) (by omega) (by omega)).mp (by omega))]
    by_cases d : 0 ≤ y ∧ y ≤ (2 : Int32)
    · obtain ⟨w, hw, rfl⟩ := in_nat (n := 2) (by decide) d
      have k1 : (nI (lgN a) - (1 : Int32)) - nI i = nI (lgN a - 1 - i) := by rw [show nI (lgN a) - (1 : Int32) = nI (lgN a - 1) from xsub (b := 1) (by omega), xsub (by omega)]
      have k2 : (nI a - (1 : Int32)) - nI i = nI (a - 1 - i) := by rw [show nI a - (1 : Int32) = nI (a - 1) from xsub (b := 1) (by omega), xsub (by omega)]
      have k3 : ((85 : Int32) + ((3 : Int32) * nI (lgN a - 1 - i))) + nI w = nI (85 + 3 * (lgN a - 1 - i) + w) := by rw [show (85 : Int32) = nI 85 from rfl, show (3 : Int32) = nI 3 from rfl, nI_mul, nI_add, nI_add]
      have m1 : (a - 1 - i) % 100 < 100 := Nat.mod_lt _ (by decide)
      have k4 : nI ((a - 1 - i) % 100) * (3 : Int32) + nI w = nI ((a - 1 - i) % 100 * 3 + w) := by rw [show (3 : Int32) = nI 3 from rfl, nI_mul, nI_add]
      have lr := h.2.2.2.1.2 (lgN a - 1 - i) w (by omega) hw
      rw [show a - lgN a + (lgN a - 1 - i) = a - 1 - i by omega] at lr
      unfold F_X0_read
      rw [if_pos d, if_neg (show ¬ (1 : Int32) = 0 by decide), if_neg (nn0 (by omega)), if_pos (show nI w < (3 : Int32) from (nI_ltI (a := w) (b := 3) (by omega) (by omega)).mpr hw), k1, k2, k3, if_neg (nn0 (by omega)), if_neg (show ¬ (3 : Int32) ≤ nI w from mt (nI_leI (a := 3) (b := w) (by omega) (by omega)).mp (by omega)), fm_100 (by omega), xb1, k4, xixn (by omega) (by decide), xb1, xixn (by omega) (by decide), nI_clamp (by omega), nI_clamp (by omega), lr]
      exact ⟨_, rfl, rfl⟩
    · rw [if_neg d, if_pos rfl]
      refine ⟨_, ?_, rfl⟩
      by_cases b1 : y < 0
      · rw [if_pos b1]
      · rw [if_neg b1, if_neg]
        intro b2
        obtain ⟨w, hw, rfl⟩ := nnI (n := 3) (by decide) b1 (lt_not.mp b2)
        exact d ⟨nI_nn (by omega), (nI_leI (a := w) (b := 2) (by omega) (by omega)).mpr (by omega)⟩
  · rw [if_neg c, if_pos rfl]
    refine ⟨_, ?_, rfl⟩
    by_cases b1 : x < 0
    · rw [if_pos b1]
    · rw [if_neg b1, if_pos]
      refine Decidable.byContradiction (fun b2 => ?_)
      obtain ⟨w, hw, rfl⟩ := nnI (n := lgN a) (by omega) b1 b2
      apply c
      rw [show nI (lgN a) - (1 : Int32) = nI (lgN a - 1) from xsub (b := 1) (by omega)]
      exact ⟨nI_nn (by omega), (nI_leI (a := w) (b := lgN a - 1) (by omega) (by omega)).mpr (by omega)⟩
theorem p_status {rf mrf : Nat → Int32} {x : Int32} (h : ∀ i, i < 3 → rf i = mrf i) : ∃ v, F_X7_status x rf = some v ∧ F_X8_status x mrf = some v := by
  have e2 : F_X8_in x.toInt64 (0 : Int64) (2 : Int64) = some (if 0 ≤ x ∧ x ≤ (2 : Int32) then 1 else 0) := by
    rw [show (0 : Int64) = (0 : Int32).toInt64 from rfl, show (2 : Int64) = (2 : Int32).toInt64 from rfl, m_inI]
  unfold F_X7_status F_X8_status
  rw [e2, xb1]
  by_cases d : 0 ≤ x ∧ x ≤ (2 : Int32)
  · obtain ⟨w, hw, rfl⟩ := in_nat (n := 2) (by decide) d
    rw [if_pos d, if_neg (show ¬ (1 : Int32) = 0 by decide), if_neg (nn0 (by omega)), if_neg (show ¬ (3 : Int32) ≤ nI w from mt (nI_leI (a := 3) (b := w) (by omega) (by omega)).mp (by omega)), xixn (by omega) (by decide), xixn (by omega) (by decide), nI_clamp (by omega), h w (by omega)]
    exact ⟨_, rfl, rfl⟩
  · rw [if_neg d, if_pos rfl]
    refine ⟨_, ?_, rfl⟩
    by_cases b1 : x < 0
    · rw [if_pos b1]
    · rw [if_neg b1, if_pos]
      refine Decidable.byContradiction (fun b2 => ?_)
      obtain ⟨w, hw, rfl⟩ := nnI (n := 3) (by decide) b1 b2
      exact d ⟨nI_nn (by omega), (nI_leI (a := w) (b := 2) (by omega) (by omega)).mpr (by omega)⟩
/-- the image -/
def ImR (n B : Nat) (kf im kbk : Nat → Int32) (xi hi : Int32) : Prop := (xi = 0 ∧ hi = 0) ∨ (xi = 1 ∧ hi = 1 ∧ ∃ b, b ≤ B ∧ KRow n kbk b kf im)
theorem ImR.up {n B B' : Nat} {kf im kbk : Nat → Int32} {xi hi : Int32} (h : ImR n B kf im kbk xi hi) (hB : B ≤ B') : ImR n B' kf im kbk xi hi := by
  rcases h with h | ⟨h1, h2, b, hb, h3⟩
  · exact Or.inl h
  · exact Or.inr ⟨h1, h2, b, by omega, h3⟩
theorem KRow.bk {n b : Nat} {bk bk' f g : Nat → Int32} (h : KRow n bk b f g) (hb : ∀ k, k < 300 → bk' k = bk k) : KRow n bk' b f g := by
  refine ⟨h.1, h.2.1, h.2.2.1, ⟨h.2.2.2.1.1, fun e w he hw => ?_⟩, h.2.2.2.2⟩
  have m1 : (b - lgN b + e) % 100 < 100 := Nat.mod_lt _ (by decide)
  rw [hb _ (by omega)]
  exact h.2.2.2.1.2 e w he hw
theorem c_cpF {f g : Nat → Int32} : F_X5_copyFrom f g = some (va_cpy g f 0 0 81) := by
  unfold F_X5_copyFrom cpF
  rw [if_pos ⟨by decide, by decide, by decide, by decide, by decide⟩, xnm]
  rfl
theorem c_cpB {f g : Nat → Int32} : F_X0_copyFrom f g = some (va_cpy g f 0 0 300) := by
  unfold F_X0_copyFrom cpF
  rw [if_pos ⟨by decide, by decide, by decide, by decide, by decide⟩, xnm]
  rfl
theorem p_image {n a B K : Nat} {f g bk kf im kbk : Nat → Int32} {xi hi : Int32} (hK : 200000 ≤ K) (h : KRow n bk a f g) (ha : a ≤ B) (hi' : ImR n B kf im kbk xi hi) : ∃ (v xi' hi2 : Int32) (kf' im' kbk' : Nat → Int32), F_X7_image f kf bk kbk xi = some (v, kf', kbk', xi') ∧ F_X8_image K g (nI n) im hi = some (v, im', hi2) ∧ ImR n B kf' im' kbk' xi' hi2 := by
  have n8 := h.1.n8
  obtain ⟨s1, s2⟩ := sd_both n8 h.1.sz
  unfold F_X7_image F_X8_image
  rw [s1, s2, xb1, xb1]
  by_cases c : n = 0
  · rw [if_pos c, if_pos rfl]
    exact ⟨_, _, _, _, _, _, rfl, rfl, hi'⟩
  · rw [if_neg c, if_neg (show ¬ (1 : Int32) = 0 by decide), c_cpF, xb1, c_cpB, xb1, m_image hK, xb1, h.2.2.2.2]
    refine ⟨_, _, _, _, _, _, rfl, rfl, Or.inr ⟨rfl, rfl, a, ha, ?_⟩⟩
    exact (h.bk (bk' := va_cpy bk kbk 0 0 300) (fun k hk => by rw [gcpy_at hk, Nat.zero_add])).cg (fun k hk => by rw [gcpy_at hk, Nat.zero_add]) (fun k hk => by rw [gcpy_at hk, Nat.zero_add])
theorem p_back {n a hd nx B K : Nat} {f g bk hr kp kf im kbk : Nat → Int32} {xi hi : Int32} (hK : 200000 ≤ K) (h : ActR n a hd nx f g bk hr kp) (ha : a ≤ B) (hi' : ImR n B kf im kbk xi hi) : ∃ (v : Int32) (f' g' bk' : Nat → Int32) (a' hd' : Nat), F_X7_back f kf bk kbk (nI hd) xi = some (v, f', bk', nI hd') ∧ F_X8_back K g (nI hd) im hi = some (v, g', nI hd') ∧ ActR n a' hd' nx f' g' bk' hr kp ∧ a' ≤ B := by
  unfold F_X7_back F_X8_back
  rcases hi' with ⟨q1, q2⟩ | ⟨q1, q2, b, hb, q3⟩
  · rw [q1, q2, if_pos rfl, if_pos rfl]
    exact ⟨_, _, _, _, a, hd, rfl, rfl, h, ha⟩
  · unfold F_X2_forget
    have K1 : KRow n (va_cpy kbk bk 0 0 300) b (va_cpy kf f 0 0 81) (va_cpy im g 0 0 265) := (q3.bk (bk' := va_cpy kbk bk 0 0 300) (fun k hk => by rw [gcpy_at hk, Nat.zero_add])).cg (fun k hk => by rw [gcpy_at hk, Nat.zero_add]) (fun k hk => by rw [gcpy_at hk, Nat.zero_add])
    rw [q1, q2, if_neg (show ¬ (1 : Int32) = 0 by decide), if_neg (show ¬ (1 : Int32) = 0 by decide), c_cpF, xb1, c_cpB, xb1, xb1, m_back hK, xb1, show (va_cpy kf f 0 0 81) 11 = (va_cpy im g 0 0 265) 67 from K1.2.2.2.2]
    exact ⟨_, _, _, _, b, 0, rfl, rfl, ⟨K1, by omega, by omega, h.2.2.2.1, fun d q => absurd q (Nat.not_lt_zero _)⟩, hb⟩
theorem p_held {n a hd : Nat} {f g bk : Nat → Int32} {x t k : Int32} (ha : a < 2 ^ 29) (h : KRow n bk a f g) : ∃ v, F_X7_held x t k f (nI hd) = some v ∧ F_X8_held x t k g (nI n) (nI hd) = some v := by
  unfold F_X7_held F_X8_held F_X5_sites F_X7_loggedActs
  rw [xb1, xb1, h.1.sz, h.2.2.1, c_lgN (by omega), h.2.2.2.1.1]
  by_cases c0 : x = 0
  · rw [if_pos c0]; exact ⟨_, rfl, rfl⟩
  rw [if_neg c0]
  by_cases c1 : x = 1
  · rw [if_pos c1]; exact ⟨_, rfl, rfl⟩
  rw [if_neg c1]
  by_cases c2 : x = 2
  · rw [if_pos c2]; exact ⟨_, rfl, rfl⟩
  rw [if_neg c2]
  by_cases c3 : x = 3
  · rw [if_pos c3]; exact ⟨_, rfl, rfl⟩
  rw [if_neg c3]
  by_cases c4 : x = 4
  · rw [if_pos c4]; exact ⟨_, rfl, rfl⟩
  rw [if_neg c4]
  exact ⟨_, rfl, rfl⟩
end
-- 83c.22
section
/-! Stage B, 22: a new watch, in both -/
def zrF (f : Nat → Int32) (j : Nat) : Nat → Int32 := fun k => if k < j then 0 else f k
theorem zrF_st {f : Nat → Int32} {j : Nat} : upd (zrF f j) j 0 = zrF f (j + 1) := by
  funext k
  by_cases c : k = j
  · rw [c, upd_at]
    unfold zrF
    rw [if_pos (by omega)]
  · rw [upd_ne c]
    unfold zrF
    by_cases d : k < j
    · rw [if_pos d, if_pos (by omega)]
    · rw [if_neg d, if_neg (by omega)]
theorem zrF_0 {f : Nat → Int32} : zrF f 0 = f := by
  funext k
  unfold zrF
  rw [if_neg (by omega)]
theorem zrF_lt {f : Nat → Int32} {j k : Nat} (h : k < j) : zrF f j k = 0 := by unfold zrF; rw [if_pos h]
theorem c_zero {K : Nat} {f : Nat → Int32} (hK : 200000 ≤ K) : lpF (fun u9 : Int32 × (Nat → Int32) => B_X5_begin_2 u9.1 u9.2) K ((0 : Int32), f) = some (zrF f 81) := by
  have h : lpF (fun u9 : Int32 × (Nat → Int32) => B_X5_begin_2 u9.1 u9.2) K (nI 0, zrF f 0) = some (zrF f 81) := by
    refine lp_for (fun j => (nI j, zrF f j)) (n := 81) (by omega) (fun j hj => ?_) ?_
    · show B_X5_begin_2 (nI j) (zrF f j) = some (.inl (nI (j + 1), zrF f (j + 1)))
      unfold B_X5_begin_2
      rw [if_neg (show ¬ (81 : Int32) ≤ nI j from mt (nI_leI (a := 81) (b := j) (by omega) (by omega)).mp (by omega)), xixn (by omega) (by decide), xnm, nI_clamp (by omega), zrF_st, nI_1]
    · show B_X5_begin_2 (nI 81) (zrF f 81) = _
      unfold B_X5_begin_2
      rw [if_pos (by decide)]
  rw [zrF_0] at h
  exact h
theorem m_zero {K : Nat} {g : Nat → Int32} (hK : 200000 ≤ K) : lpF (fun u9 : Int32 × (Nat → Int32) => B_X8_takeWatch_10 u9.1 u9.2) K ((0 : Int32), g) = some (zrF g 265) := by
  have h : lpF (fun u9 : Int32 × (Nat → Int32) => B_X8_takeWatch_10 u9.1 u9.2) K (nI 0, zrF g 0) = some (zrF g 265) := by
    refine lp_for (fun j => (nI j, zrF g j)) (n := 265) (by omega) (fun j hj => ?_) ?_
    · show B_X8_takeWatch_10 (nI j) (zrF g j) = some (.inl (nI (j + 1), zrF g (j + 1)))
      unfold B_X8_takeWatch_10
      rw [if_neg (show ¬ (265 : Int32) ≤ nI j from mt (nI_leI (a := 265) (b := j) (by omega) (by omega)).mp (by omega)), xixn (by omega) (by decide), xnm, nI_clamp (by omega), zrF_st, nI_1]
    · show B_X8_takeWatch_10 (nI 265) (zrF g 265) = _
      unfold B_X8_takeWatch_10
      rw [if_pos (by decide)]
  rw [zrF_0] at h
  exact h
/-- the places, put one behind the other -/
def plcF (pl f : Nat → Int32) : Nat → Nat → Int32
  | 0 => f
  | i + 1 => upd (upd (plcF pl f i) (17 + 8 * i + 0) (pl (2 * i))) (17 + 8 * i + 1) (pl (2 * i + 1))
theorem plcF_low {pl f : Nat → Int32} {k : Nat} : ∀ i, (k < 17 ∨ ¬ (k - 17) % 8 < 2 ∨ 17 + 8 * i ≤ k) → plcF pl f i k = f k := by
  intro i
  induction i with
  | zero => exact fun _ => rfl
  | succ i ih =>
    intro h
    show upd (upd (plcF pl f i) (17 + 8 * i + 0) (pl (2 * i))) (17 + 8 * i + 1) (pl (2 * i + 1)) k = f k
    rw [upd_ne (by omega), upd_ne (by omega)]
    exact ih (by omega)
theorem plcF_at {pl f : Nat → Int32} {j : Nat} : ∀ i, j < i → plcF pl f i (17 + 8 * j + 0) = pl (2 * j) ∧ plcF pl f i (17 + 8 * j + 1) = pl (2 * j + 1) := by
  intro i
  induction i with
  | zero => exact fun h => absurd h (Nat.not_lt_zero _)
  | succ i ih =>
    intro h
    show upd (upd (plcF pl f i) (17 + 8 * i + 0) (pl (2 * i))) (17 + 8 * i + 1) (pl (2 * i + 1)) (17 + 8 * j + 0) = pl (2 * j) ∧ upd (upd (plcF pl f i) (17 + 8 * i + 0) (pl (2 * i))) (17 + 8 * i + 1) (pl (2 * i + 1)) (17 + 8 * j + 1) = pl (2 * j + 1)
    by_cases e : j = i
    · rw [e, upd_ne (by omega), upd_at, upd_at]
      exact ⟨rfl, rfl⟩
    · rw [upd_ne (by omega), upd_ne (by omega), upd_ne (by omega), upd_ne (by omega)]
      exact ih (by omega)
theorem c_places {K s : Nat} {pl f : Nat → Int32} (hK : 200000 ≤ K) (hs : s ≤ 8) (h3 : f 3 = nI s) : lpF (fun u9 : Int32 × (Nat → Int32) => B_X5_begin_74 pl u9.1 u9.2) K ((0 : Int32), f) = some (plcF pl f s) := by
  refine lp_for (fun j => (nI j, plcF pl f j)) (n := s) (by omega) (fun j hj => ?_) ?_
  · show B_X5_begin_74 pl (nI j) (plcF pl f j) = some (.inl (nI (j + 1), upd (upd (plcF pl f j) (17 + 8 * j + 0) (pl (2 * j))) (17 + 8 * j + 1) (pl (2 * j + 1))))
    have e1 : (2 : Int32) * nI j = nI (2 * j) := by rw [show (2 : Int32) = nI 2 from rfl, nI_mul]
    have e2 : nI (2 * j) + (1 : Int32) = nI (2 * j + 1) := nI_1 _
    unfold B_X5_begin_74 F_X5_sites
    rw [xb1, plcF_low j (Or.inl (by decide)), h3, if_neg (mt (nI_leI (a := s) (b := j) (by omega) (by omega)).mp (by omega)), e1, e2, xixn (by omega) (by decide), nI_clamp (by omega), nI_clamp (by omega), bx_put (c := 0) (by rfl) (by omega) (by decide), xb1, xixn (by omega) (by decide), bx_put (c := 1) (by rfl) (by omega) (by decide), xb1, nI_1]
  · show B_X5_begin_74 pl (nI s) (plcF pl f s) = _
    unfold B_X5_begin_74 F_X5_sites
    rw [xb1, plcF_low s (Or.inl (by decide)), h3, if_pos ((nI_leI (a := s) (b := s) (by omega) (by omega)).mpr (Nat.le_refl _))]
/-- a site of a new watch: the reference's row -/
def twM (i : Nat) (rp g : Nat → Int32) : Nat → Int32 := upd (upd (upd (upd g (0 + i) (rp (2 * i))) (8 + i) (rp (2 * i + 1))) (16 + i) (rp (2 * i))) (24 + i) (rp (2 * i + 1))
theorem m_tw {i s : Nat} {rp g : Nat → Int32} (hi : i < s) (hs : s ≤ 8) : B_X8_takeWatch_32 rp (nI s) (nI i) g = some (.inl (nI (i + 1), twM i rp g)) := by
  have e1 : (2 : Int32) * nI i = nI (2 * i) := by rw [show (2 : Int32) = nI 2 from rfl, nI_mul]
  have e2 : nI (2 * i) + (1 : Int32) = nI (2 * i + 1) := nI_1 _
  have v1 : upd (upd g (0 + i) (rp (2 * i))) (8 + i) (rp (2 * i + 1)) (0 + i) = rp (2 * i) := by rw [upd_ne (by omega), upd_at]
  have v2 : upd (upd (upd g (0 + i) (rp (2 * i))) (8 + i) (rp (2 * i + 1))) (16 + i) (rp (2 * i)) (8 + i) = rp (2 * i + 1) := by rw [upd_ne (by omega), upd_at]
  unfold B_X8_takeWatch_32
  rw [if_neg (mt (nI_leI (a := s) (b := i) (by omega) (by omega)).mp (by omega)), e1, e2]
  simp only [xixn (show 2 * i < 16 by omega) (by decide), xixn (show 2 * i + 1 < 16 by omega) (by decide), bm_ix (A := (0 : Int32)) (a := 0) rfl (show 0 + i < 265 by omega), bm_ix (A := (8 : Int32)) (a := 8) rfl (show 8 + i < 265 by omega), bm_ix (A := (16 : Int32)) (a := 16) rfl (show 16 + i < 265 by omega), bm_ix (A := (24 : Int32)) (a := 24) rfl (show 24 + i < 265 by omega), bm_cl (A := (0 : Int32)) (a := 0) rfl (show 0 + i < 265 by omega), bm_cl (A := (8 : Int32)) (a := 8) rfl (show 8 + i < 265 by omega), bm_cl (A := (16 : Int32)) (a := 16) rfl (show 16 + i < 265 by omega), bm_cl (A := (24 : Int32)) (a := 24) rfl (show 24 + i < 265 by omega), nI_clamp (show 2 * i < 2 ^ 31 by omega), nI_clamp (show 2 * i + 1 < 2 ^ 31 by omega), xnm, v1, v2, nI_1]
  rfl
def BgR (s : Nat) (pl rp f : Nat → Int32) (i : Nat) (u t : Int32 × (Nat → Int32)) : Prop := u.1 = nI i ∧ t.1 = nI i ∧ (∀ j c, j < i → c < 8 → u.2 (17 + 8 * j + c) = t.2 (8 * c + j)) ∧ (∀ k, 17 + 8 * i ≤ k → u.2 k = f k) ∧ (∀ k, k < 17 → ¬ k = 4 → ¬ k = 5 → u.2 k = f k) ∧ (∀ j c, i ≤ j → j < 8 → c < 8 → t.2 (8 * c + j) = 0) ∧ (∀ k, 64 ≤ k → k < 265 → t.2 k = 0) ∧ u.2 4 = sgm (fun k => t.2 (16 + k)) i ∧ u.2 5 = sgm (fun k => t.2 (24 + k)) i ∧ ∀ j, j < i → t.2 (0 + j) = rp (2 * j) ∧ t.2 (8 + j) = rp (2 * j + 1) ∧ t.2 (48 + j) = 0 ∧ t.2 (56 + j) = 0
theorem BgR.step {s i : Nat} {pl rp f : Nat → Int32} {u t : Int32 × (Nat → Int32)} (s8 : s ≤ 8) (h3 : f 3 = nI s) (hi : i < s) (hpl : ∀ j, j < s → f (17 + 8 * j + 0) = rp (2 * j) ∧ f (17 + 8 * j + 1) = rp (2 * j + 1) ∧ ∀ c, 2 ≤ c → c < 8 → f (17 + 8 * j + c) = 0) (h : BgR s pl rp f i u t) : ∃ u' t', B_X5_hearPlaces_16 u.1 u.2 = some (.inl u') ∧ B_X8_takeWatch_32 rp (nI s) t.1 t.2 = some (.inl t') ∧ BgR s pl rp f (i + 1) u' t' := by
  obtain ⟨x, f1⟩ := u
  obtain ⟨y, g1⟩ := t
  obtain ⟨e1, e2, a1, a2, a3, a4, a5, a6, a7, a8⟩ := h
  have e1 : x = nI i := e1
  have e2 : y = nI i := e2
  subst e1 e2
  have a1 : ∀ j c, j < i → c < 8 → f1 (17 + 8 * j + c) = g1 (8 * c + j) := a1
  have a2 : ∀ k, 17 + 8 * i ≤ k → f1 k = f k := a2
  have a3 : ∀ k, k < 17 → ¬ k = 4 → ¬ k = 5 → f1 k = f k := a3
  have a4 : ∀ j c, i ≤ j → j < 8 → c < 8 → g1 (8 * c + j) = 0 := a4
  have a5 : ∀ k, 64 ≤ k → k < 265 → g1 k = 0 := a5
  have a6 : f1 4 = sgm (fun k => g1 (16 + k)) i := a6
  have a7 : f1 5 = sgm (fun k => g1 (24 + k)) i := a7
  have a8 : ∀ j, j < i → g1 (0 + j) = rp (2 * j) ∧ g1 (8 + j) = rp (2 * j + 1) ∧ g1 (48 + j) = 0 ∧ g1 (56 + j) = 0 := a8
  obtain ⟨p0, p1, p2⟩ := hpl i hi
  have x0 : f1 (17 + 8 * i + 0) = rp (2 * i) := (a2 _ (by omega)).trans p0
  have x1 : f1 (17 + 8 * i + 1) = rp (2 * i + 1) := (a2 _ (by omega)).trans p1
  have W1 : upd f1 (17 + 8 * i + 2) (f1 (17 + 8 * i + 0)) (17 + 8 * i + 1) = rp (2 * i + 1) := (upd_ne (by omega)).trans x1
  have w0 : hrW i f1 (17 + 8 * i + 0) = rp (2 * i) := by
    unfold hrW
    rw [upd_ne (by omega), upd_ne (by omega), upd_ne (by omega), upd_ne (by omega), x0]
  have w1 : hrW i f1 (17 + 8 * i + 1) = rp (2 * i + 1) := by
    unfold hrW
    rw [upd_ne (by omega), upd_ne (by omega), upd_ne (by omega), upd_ne (by omega), x1]
  have w4 : hrW i f1 4 = f1 4 := by
    unfold hrW
    rw [upd_ne (by omega), upd_ne (by omega), upd_ne (by omega), upd_ne (by omega)]
  have w5 : hrW i f1 5 = f1 5 := by
    unfold hrW
    rw [upd_ne (by omega), upd_ne (by omega), upd_ne (by omega), upd_ne (by omega)]
  have C : ∀ k, ¬ k = 4 → ¬ k = 5 → hrC i f1 k = hrW i f1 k := fun k k4 k5 => by
    unfold hrC
    rw [upd_ne k5, upd_ne k4]
  have Wo : ∀ k, (k < 17 + 8 * i + 2 ∨ 17 + 8 * i + 6 ≤ k) → hrW i f1 k = f1 k := fun k hk => by
    unfold hrW
    rw [upd_ne (by omega), upd_ne (by omega), upd_ne (by omega), upd_ne (by omega)]
  have W2 : hrW i f1 (17 + 8 * i + 2) = rp (2 * i) ∧ hrW i f1 (17 + 8 * i + 3) = rp (2 * i + 1) ∧ hrW i f1 (17 + 8 * i + 4) = 0 ∧ hrW i f1 (17 + 8 * i + 5) = 0 := by
    unfold hrW
    refine ⟨?_, ?_, ?_, upd_at⟩
    · rw [upd_ne (by omega), upd_ne (by omega), upd_ne (by omega), upd_at, x0]
    · rw [upd_ne (by omega), upd_ne (by omega), upd_at, W1]
    · rw [upd_ne (by omega), upd_at]
  have T : ∀ k, ¬ k = 0 + i → ¬ k = 8 + i → ¬ k = 16 + i → ¬ k = 24 + i → twM i rp g1 k = g1 k := fun k k0 k1 k2 k3 => by
    unfold twM
    rw [upd_ne k3, upd_ne k2, upd_ne k1, upd_ne k0]
  have T4 : twM i rp g1 (0 + i) = rp (2 * i) ∧ twM i rp g1 (8 + i) = rp (2 * i + 1) ∧ twM i rp g1 (16 + i) = rp (2 * i) ∧ twM i rp g1 (24 + i) = rp (2 * i + 1) := by
    unfold twM
    refine ⟨?_, ?_, ?_, upd_at⟩
    · rw [upd_ne (by omega), upd_ne (by omega), upd_ne (by omega), upd_at]
    · rw [upd_ne (by omega), upd_ne (by omega), upd_at]
    · rw [upd_ne (by omega), upd_at]
  refine ⟨(nI (i + 1), hrC i f1), (nI (i + 1), twM i rp g1), b_hear hi s8 ((a3 3 (by decide) (by decide) (by decide)).trans h3), m_tw hi s8, rfl, rfl, ?_, ?_, ?_, ?_, ?_, ?_, ?_, ?_⟩
  · intro j c hj hc
    show hrC i f1 (17 + 8 * j + c) = twM i rp g1 (8 * c + j)
    rw [C _ (by omega) (by omega)]
    by_cases e : j = i
    · rw [e]
      rcases (show c = 0 ∨ c = 1 ∨ c = 2 ∨ c = 3 ∨ c = 4 ∨ c = 5 ∨ c = 6 ∨ c = 7 by omega) with rfl | rfl | rfl | rfl | rfl | rfl | rfl | rfl
      · exact w0.trans T4.1.symm
      · exact w1.trans T4.2.1.symm
      · exact W2.1.trans T4.2.2.1.symm
      · exact W2.2.1.trans T4.2.2.2.symm
      · rw [W2.2.2.1, T _ (by omega) (by omega) (by omega) (by omega), a4 i 4 (by omega) (by omega) (by omega)]
      · rw [W2.2.2.2, T _ (by omega) (by omega) (by omega) (by omega), a4 i 5 (by omega) (by omega) (by omega)]
      · rw [Wo _ (by omega), T _ (by omega) (by omega) (by omega) (by omega), a4 i 6 (by omega) (by omega) (by omega), a2 _ (by omega), p2 6 (by omega) (by omega)]
      · rw [Wo _ (by omega), T _ (by omega) (by omega) (by omega) (by omega), a4 i 7 (by omega) (by omega) (by omega), a2 _ (by omega), p2 7 (by omega) (by omega)]
    · rw [Wo _ (by omega), T _ (by omega) (by omega) (by omega) (by omega)]
      exact a1 j c (by omega) hc
  · intro k hk
    show hrC i f1 k = f k
    rw [C _ (by omega) (by omega), Wo _ (by omega)]
    exact a2 k (by omega)
  · intro k k1 k4 k5
    show hrC i f1 k = f k
    rw [C _ k4 k5, Wo _ (by omega)]
    exact a3 k k1 k4 k5
  · intro j c hj h8 hc
    show twM i rp g1 (8 * c + j) = 0
    rw [T _ (by omega) (by omega) (by omega) (by omega)]
    exact a4 j c (by omega) h8 hc
  · intro k k1 k2
    show twM i rp g1 k = 0
    rw [T _ (by omega) (by omega) (by omega) (by omega)]
    exact a5 k k1 k2
  · show hrC i f1 4 = sgm (fun k => twM i rp g1 (16 + k)) i + twM i rp g1 (16 + i)
    have q : sgm (fun k => twM i rp g1 (16 + k)) i = sgm (fun k => g1 (16 + k)) i := sgm_eq i (fun k hk => T _ (by omega) (by omega) (by omega) (by omega))
    rw [q, ← a6, T4.2.2.1]
    unfold hrC
    rw [upd_ne (by decide), upd_at, w4, w0]
  · show hrC i f1 5 = sgm (fun k => twM i rp g1 (24 + k)) i + twM i rp g1 (24 + i)
    have q : sgm (fun k => twM i rp g1 (24 + k)) i = sgm (fun k => g1 (24 + k)) i := sgm_eq i (fun k hk => T _ (by omega) (by omega) (by omega) (by omega))
    rw [q, ← a7, T4.2.2.2]
    unfold hrC
    rw [upd_at, upd_ne (by decide), upd_ne (by omega), w5, w1]
  · intro j hj
    show twM i rp g1 (0 + j) = rp (2 * j) ∧ twM i rp g1 (8 + j) = rp (2 * j + 1) ∧ twM i rp g1 (48 + j) = 0 ∧ twM i rp g1 (56 + j) = 0
    by_cases e : j = i
    · rw [e]
      exact ⟨T4.1, T4.2.1, (T _ (by omega) (by omega) (by omega) (by omega)).trans (a4 i 6 (by omega) (by omega) (by omega)), (T _ (by omega) (by omega) (by omega) (by omega)).trans (a4 i 7 (by omega) (by omega) (by omega))⟩
    · rw [T _ (by omega) (by omega) (by omega) (by omega), T _ (by omega) (by omega) (by omega) (by omega), T _ (by omega) (by omega) (by omega) (by omega), T _ (by omega) (by omega) (by omega) (by omega)]
      exact a8 j (by omega)
theorem row_frz_0 {g : Nat → Int32} : ∀ n, (∀ j, j < n → g (76 + j) = 0) → row_frz g n = 0 := by
  intro n
  induction n with
  | zero => exact fun _ => rfl
  | succ k ih =>
    intro h
    show row_frz g k ||| (if g (76 + k) = 1 then (1 : Int32) <<< (nI k &&& 31) else 0) = 0
    rw [ih (fun j hj => h j (by omega)), h k (by omega), if_neg (by decide)]
    rfl
theorem in999 {v : Int32} (h : (-999 : Int32) ≤ v ∧ v ≤ (999 : Int32)) : inR v := ⟨Int32.le_trans (by decide) h.1, Int32.le_trans h.2 (by decide)⟩
/-- a new watch -/
theorem bg_both {K s : Nat} {ru pl rp f g bk : Nat → Int32} {la bo go si ac im : Int32} (hK : 200000 ≤ K) (h2 : 2 ≤ s) (h : RdOK s ru pl rp la bo go) : ∃ f' g', F_X5_begin K f ru pl (nI s) = some f' ∧ F_X8_takeWatch K la bo go (nI s) rp g si ac im = some (nI s, g', nI s, 0, 0) ∧ KRow s bk 0 f' g' := by
  obtain ⟨s8, r0, r1, r2, hp, hla, hbo, hgo, hrp⟩ := h
  have em : minF (nI s) (8 : Int32) = nI s := by
    unfold minF
    rw [if_neg (show ¬ (8 : Int32) < nI s from mt (nI_ltI (a := 8) (b := s) (by omega) (by omega)).mp (by omega))]
  unfold F_X5_begin F_X8_takeWatch
  rw [c_zero hK, xb1, xnm, xnm, xnm, xnm, r0, r1, r2, em, m_zero hK, xb1]
  have fx : ∀ k, 4 ≤ k → k < 81 → (upd (upd (upd (upd (zrF f 81) 0 la) 1 bo) 2 go) 3 (nI s)) k = 0 := fun k k1 k2 => by rw [upd_ne (by omega), upd_ne (by omega), upd_ne (by omega), upd_ne (by omega), zrF_lt (by omega)]
  have f0 : (upd (upd (upd (upd (zrF f 81) 0 la) 1 bo) 2 go) 3 (nI s)) 0 = la := by rw [upd_ne (by decide), upd_ne (by decide), upd_ne (by decide), upd_at]
  have f1 : (upd (upd (upd (upd (zrF f 81) 0 la) 1 bo) 2 go) 3 (nI s)) 1 = bo := by rw [upd_ne (by decide), upd_ne (by decide), upd_at]
  have f2 : (upd (upd (upd (upd (zrF f 81) 0 la) 1 bo) 2 go) 3 (nI s)) 2 = go := by rw [upd_ne (by decide), upd_at]
  have f3 : (upd (upd (upd (upd (zrF f 81) 0 la) 1 bo) 2 go) 3 (nI s)) 3 = nI s := upd_at
  generalize upd (upd (upd (upd (zrF f 81) 0 la) 1 bo) 2 go) 3 (nI s) = fa at fx f0 f1 f2 f3 ⊢
  rw [c_places hK s8 f3, xb1]
  have gl : ∀ k, k < 17 → plcF pl fa s k = fa k := fun k hk => plcF_low s (Or.inl hk)
  have gp : ∀ j, j < s → plcF pl fa s (17 + 8 * j + 0) = rp (2 * j) ∧ plcF pl fa s (17 + 8 * j + 1) = rp (2 * j + 1) ∧ ∀ c, 2 ≤ c → c < 8 → plcF pl fa s (17 + 8 * j + c) = 0 := fun j hj => by
    obtain ⟨w1, w2⟩ := plcF_at (pl := pl) (f := fa) s hj
    refine ⟨w1.trans (hp _ (by omega)), w2.trans (hp _ (by omega)), fun c c1 c2 => ?_⟩
    rw [plcF_low s (Or.inr (Or.inl (by omega)))]
    exact fx _ (by omega) (by omega)
  have g3 : plcF pl fa s 3 = nI s := (gl 3 (by decide)).trans f3
  have g4 : plcF pl fa s 4 = 0 := (gl 4 (by decide)).trans (fx 4 (by omega) (by omega))
  generalize plcF pl fa s = fb at gl gp g3 g4 ⊢
  have he : ∀ u t, BgR s pl rp (upd (upd fb 4 0) 5 0) s u t → ∃ r v, (fun u9 : Int32 × (Nat → Int32) => B_X5_hearPlaces_16 u9.1 u9.2) u = some (.inr r) ∧ (fun u9 : Int32 × (Nat → Int32) => B_X8_takeWatch_32 rp (nI s) u9.1 u9.2) t = some (.inr v) ∧ BgR s pl rp (upd (upd fb 4 0) 5 0) s (nI s, r) (nI s, v) := by
    intro u t q
    obtain ⟨x, p1⟩ := u
    obtain ⟨y, p2⟩ := t
    obtain ⟨e1, e2, q⟩ := q
    have e1 : x = nI s := e1
    have e2 : y = nI s := e2
    subst e1 e2
    have le : nI s ≤ nI s := (nI_leI (a := s) (b := s) (by omega) (by omega)).mpr (Nat.le_refl _)
    refine ⟨p1, p2, ?_, ?_, rfl, rfl, q⟩
    · show B_X5_hearPlaces_16 (nI s) p1 = _
      have p3 : p1 3 = nI s := by
        have := q.2.2.1 3 (by decide) (by decide) (by decide)
        rw [upd_ne (by decide), upd_ne (by decide)] at this
        exact this.trans g3
      unfold B_X5_hearPlaces_16 F_X5_sites
      rw [xb1, p3, if_pos le]
    · show B_X8_takeWatch_32 rp (nI s) (nI s) p2 = _
      unfold B_X8_takeWatch_32
      rw [if_pos le]
  have h0 : BgR s pl rp (upd (upd fb 4 0) 5 0) 0 ((0 : Int32), upd (upd fb 4 0) 5 0) ((0 : Int32), zrF g 265) := ⟨rfl, rfl, fun j c hj _ => absurd hj (Nat.not_lt_zero _), fun _ _ => rfl, fun _ _ _ _ => rfl, fun j c _ h8 hc => zrF_lt (by omega), fun k k1 k2 => zrF_lt k2, by show upd (upd fb 4 0) 5 0 4 = 0; rw [upd_ne (by decide), upd_at], by show upd (upd fb 4 0) 5 0 5 = 0; rw [upd_at], fun j hj => absurd hj (Nat.not_lt_zero _)⟩
  obtain ⟨fc, gc, l1, l2, -, -, a1, a2, a3, a4, a5, a6, a7, a8⟩ := lp_two (b := fun u9 : Int32 × (Nat → Int32) => B_X5_hearPlaces_16 u9.1 u9.2) (d := fun u9 : Int32 × (Nat → Int32) => B_X8_takeWatch_32 rp (nI s) u9.1 u9.2) (BgR s pl rp (upd (upd fb 4 0) 5 0)) (fun r v => BgR s pl rp (upd (upd fb 4 0) 5 0) s (nI s, r) (nI s, v)) (n := s) (K := K) (K' := K) (by omega) (by omega) (fun i u t hi q => Or.inl (BgR.step s8 (by rw [upd_ne (by decide), upd_ne (by decide)]; exact g3) hi (fun j hj => by
    rw [upd_ne (by omega), upd_ne (by omega), upd_ne (by omega), upd_ne (by omega)]
    refine ⟨(gp j hj).1, (gp j hj).2.1, fun c c1 c2 => ?_⟩
    rw [upd_ne (by omega), upd_ne (by omega)]
    exact (gp j hj).2.2 c c1 c2) q)) he h0
  have a1 : ∀ j c, j < s → c < 8 → fc (17 + 8 * j + c) = gc (8 * c + j) := a1
  have a3 : ∀ k, k < 17 → ¬ k = 4 → ¬ k = 5 → fc k = (upd (upd fb 4 0) 5 0) k := a3
  have a5 : ∀ k, 64 ≤ k → k < 265 → gc k = 0 := a5
  have a6 : fc 4 = sgm (fun k => gc (16 + k)) s := a6
  have a7 : fc 5 = sgm (fun k => gc (24 + k)) s := a7
  have a8 : ∀ j, j < s → gc (0 + j) = rp (2 * j) ∧ gc (8 + j) = rp (2 * j + 1) ∧ gc (48 + j) = 0 ∧ gc (56 + j) = 0 := a8
  have fc0 : ∀ k, k < 17 → ¬ k = 4 → ¬ k = 5 → fc k = fa k := fun k k1 k2 k3 => by rw [a3 k k1 k2 k3, upd_ne k3, upd_ne k2, gl k k1]
  unfold F_X5_hearPlaces
  rw [xnm, xnm, l1, xb1, l2, xb1, xb1]
  simp only [xnm]
  have z64 : (upd (upd (upd gc 64 la) 65 bo) 66 go) 64 = la := by rw [upd_ne (by decide), upd_ne (by decide), upd_at]
  have z65 : (upd (upd (upd gc 64 la) 65 bo) 66 go) 65 = bo := by rw [upd_ne (by decide), upd_at]
  have z66 : (upd (upd (upd gc 64 la) 65 bo) 66 go) 66 = go := upd_at
  have zz : ∀ k, ¬ k = 64 → ¬ k = 65 → ¬ k = 66 → (upd (upd (upd gc 64 la) 65 bo) 66 go) k = gc k := fun k k1 k2 k3 => by rw [upd_ne k3, upd_ne k2, upd_ne k1]
  generalize upd (upd (upd gc 64 la) 65 bo) 66 go = gd at z64 z65 z66 zz ⊢
  have zr : ∀ k, 67 ≤ k → k < 265 → gd k = 0 := fun k k1 k2 => (zz k (by omega) (by omega) (by omega)).trans (a5 k (by omega) k2)
  have B : RowB s fc gd := by
    refine ⟨s8, (fc0 3 (by decide) (by decide) (by decide)).trans f3, fun j c hj hc => ?_, fun p hq => ?_, ?_⟩
    · rw [zz _ (by omega) (by omega) (by omega)]
      exact a1 j c hj hc
    · obtain ⟨b1, b2, b3, b4, b5, b6, b7⟩ := rowScl_b p hq
      have u0 := rowScl_u p hq (0, 64) (by decide)
      have u1 := rowScl_u p hq (1, 65) (by decide)
      have u2 := rowScl_u p hq (2, 66) (by decide)
      rw [fc0 _ b1 b3 b4]
      by_cases c0 : p.1 = 0
      · rw [c0, show p.2 = 64 from u0.mp c0, f0, z64]
      by_cases c1 : p.1 = 1
      · rw [c1, show p.2 = 65 from u1.mp c1, f1, z65]
      by_cases c2 : p.1 = 2
      · rw [c2, show p.2 = 66 from u2.mp c2, f2, z66]
      have n64 : ¬ p.2 = 64 := fun z => c0 (u0.mpr z)
      have n65 : ¬ p.2 = 65 := fun z => c1 (u1.mpr z)
      have n66 : ¬ p.2 = 66 := fun z => c2 (u2.mpr z)
      rw [fx _ (by omega) (by omega), zr _ (by omega) (by omega)]
    · rw [fc0 7 (by decide) (by decide) (by decide), fx 7 (by omega) (by omega), row_frz_0 s (fun j hj => zr _ (by omega) (by omega))]
  obtain ⟨k3, hk3, ek3⟩ := in_nat (p := la) (n := 3) (by decide) hla
  obtain ⟨kg, hkg, ekg⟩ := in_nat (p := go) (n := 9999) (by decide) ⟨Int32.le_trans (by decide) hgo.1, hgo.2⟩
  have hkg1 : 1 ≤ kg := (nI_leI (a := 1) (b := kg) (by omega) (by omega)).mp (by rw [← ekg]; exact hgo.1)
  have G : RowG gd := ⟨⟨k3, by omega, z64.trans ek3⟩, Or.inl (zr 72 (by omega) (by omega))⟩
  have R : RowR s fc gd := by
    refine ⟨B, ?_, ?_⟩
    · rw [a6]
      exact sgm_eq s (fun k hk => (zz _ (by omega) (by omega) (by omega)).symm)
    · rw [a7]
      exact sgm_eq s (fun k hk => (zz _ (by omega) (by omega) (by omega)).symm)
  have e16 : F_X8_sum K (16 : Int32) gd (nI s) = some (fc 4) := by rw [R.sx]; exact bm_sum hK s8 (b := 16) (by decide)
  have e24 : F_X8_sum K (24 : Int32) gd (nI s) = some (fc 5) := by rw [R.sy]; exact bm_sum hK s8 (b := 24) (by decide)
  obtain ⟨v, ev, -⟩ := u_isAllowed (p1 := fc 4) (p2 := fc 5) (g := gd)
  rw [e16, xb1, e24, xb1, alw_both B G, ev, xb1, xb1]
  have fin : ∀ k0 : Int32, (k0 = 0 ∨ k0 = 1) → KRow s bk 0 (upd fc 6 k0) (upd gd 72 k0) := by
    intro k0 hk0
    refine ⟨R.scal (by decide) k0, ⟨⟨by rw [upd_ne (by decide)]; exact G.1, by rw [upd_at]; exact hk0⟩, fun _ => ⟨fun j hj => ?_, fun j hj => ?_, ?_⟩⟩, ?_, ⟨?_, fun e w he hw => ?_⟩, ?_⟩
    · rw [upd_ne (by omega), upd_ne (by omega), zz _ (by omega) (by omega) (by omega), zz _ (by omega) (by omega) (by omega), (a8 j hj).1, (a8 j hj).2.1]
      exact ⟨in999 (hrp _ (by omega)), in999 (hrp _ (by omega))⟩
    · rw [upd_ne (by omega)]
      exact Or.inl (zr _ (by omega) (by omega))
    · refine ⟨kg, 0, 0, hkg1, by omega, by rw [upd_ne (by decide), z66, ekg], by omega, by rw [upd_ne (by decide)]; exact zr 73 (by omega) (by omega), by omega, by rw [upd_ne (by decide)]; exact zr 75 (by omega) (by omega), fun j hj => ⟨0, by omega, ?_⟩, fun j hj => ⟨0, ?_, Or.inl rfl⟩⟩
      · rw [upd_ne (by omega), zz _ (by omega) (by omega) (by omega)]
        exact (a8 j hj).2.2.1
      · rw [upd_ne (by omega), zz _ (by omega) (by omega) (by omega)]
        exact (a8 j hj).2.2.2
    · rw [upd_ne (by decide), fc0 16 (by decide) (by decide) (by decide)]
      exact fx 16 (by omega) (by omega)
    · rw [upd_ne (by decide)]
      exact zr 84 (by omega) (by omega)
    · exact absurd he (Nat.not_lt_zero _)
    · rw [upd_ne (by decide), upd_ne (by decide), fc0 11 (by decide) (by decide) (by decide), zr 67 (by omega) (by omega)]
      exact fx 11 (by omega) (by omega)
  by_cases c : v = 0
  · rw [if_pos c, if_pos c]
    exact ⟨_, _, rfl, rfl, fin 1 (Or.inr rfl)⟩
  · rw [if_neg c, if_neg c]
    exact ⟨_, _, rfl, rfl, fin 0 (Or.inl rfl)⟩
end
-- 83c.23
section
/-! Stage B, 23: text, in both: a new watch, or all as it was -/
def TxB (row : Nat → Int32) (hh im : Int32) (g : Nat → Int32) (si ac hi : Int32) (bk row' : Nat → Int32) (hh' im' : Int32) (g' : Nat → Int32) (si' ac' hi' : Int32) : Prop := (row' = row ∧ hh' = hh ∧ im' = im ∧ g' = g ∧ si' = si ∧ ac' = ac ∧ hi' = hi) ∨ ∃ s, 2 ≤ s ∧ s ≤ 8 ∧ KRow s bk 0 row' g' ∧ hh' = 0 ∧ im' = 0 ∧ si' = nI s ∧ ac' = 0 ∧ hi' = 0
/-- the kinds of the steps that are kept -/
def KdS (k : Nat) (st co : Nat → Int32) : Prop := ∀ r, r < k → ∀ c, co r = nI c → c ≤ 12 → KdOK c (fun j => st (48 * r + j))
theorem KdS.keep {k c : Nat} {st co rs : Nat → Int32} (h : KdS k st co) (hk : k < 4) (hc : c ≤ 12) (hr : KdOK c rs) : KdS (k + 1) (va_cpy rs st 0 (48 * k) 48) (upd co k (nI c)) := by
  intro r hrk c' e hc' i hi
  by_cases q : r = k
  · rw [q, upd_at] at e
    have ec : c = c' := (nI_eq (a := c) (b := c') (by omega) (by omega)).mp e
    obtain ⟨κ, h1, h2⟩ := hr i (by omega)
    refine ⟨κ, h1, ?_⟩
    show va_cpy rs st 0 (48 * k) 48 (48 * r + 4 * i) = nI κ
    rw [q, pk_cpy_in (by omega) (by omega), show 0 + (48 * k + 4 * i - 48 * k) = 4 * i by omega]
    exact h2
  · rw [upd_ne q] at e
    obtain ⟨κ, h1, h2⟩ := h r (by omega) c' e hc' i hi
    refine ⟨κ, h1, ?_⟩
    show va_cpy rs st 0 (48 * k) 48 (48 * r + 4 * i) = nI κ
    rw [pk_cpy_out (by omega)]
    exact h2
theorem txB_both {K n k : Nat} {p : Int32} {bytes tape ru pl st rp sc lg sst sco row g bk : Nat → Int32} {c1 c2 c3 c4 c5 c6 c7 hh im m1 m2 m3 m4 m5 m7 m8 m9 m10 si ac hi : Int32} {m6 : Int64} (hK : 200000 ≤ K) (h : TR n bytes tape) (hk : k ≤ 4) (hs : SR k sst sco sc lg) (hq : SkOK sco (nI k)) (hkd : KdS k sst sco) :
    ∃ v tl' ru' pl' st' d1 d2 d3 d4 d5 d6 d7 sst' sco' hd' row' hh' im' tpd' e1 e2 e3 e4 e5 e6 e7 e8 e9 e10 rp' sc' lg' scs' g' si' ac' hi', F_X7_text K p bytes (nI n) ru pl st c1 c2 c3 c4 c5 c6 c7 sst sco (nI k) row hh im = some (v, tl', ru', pl', st', d1, d2, d3, d4, d5, d6, d7, sst', sco', hd', row', hh', im') ∧ F_X8_text K p tape (nI n) m1 m2 m3 m4 m5 m6 m7 m8 m9 m10 rp sc lg (nI k) g si ac hi = some (v, tpd', e1, e2, e3, e4, e5, e6, e7, e8, e9, e10, rp', sc', lg', scs', g', si', ac', hi') ∧ TxB row hh im g si ac hi bk row' hh' im' g' si' ac' hi' ∧ ∃ k', k' ≤ 4 ∧ hd' = nI k' ∧ KdS k' sst' sco' := by
  have hn := h.1
  have base : TxB row hh im g si ac hi bk row hh im g si ac hi := Or.inl ⟨rfl, rfl, rfl, rfl, rfl, rfl, rfl⟩
  by_cases q0 : p = 0
  · obtain ⟨r, ru', pl', s', st', m', ac', ws', nu', f', am', pa', fr', pn', wr', pw', la', bo', go', rs', rp', E1, E2, hr⟩ := rw_both (K := K) (ru := ru) (pl := pl) (rp := rp) (c1 := c1) (c2 := c2) (c3 := c3) (c4 := c4) (c5 := c5) (c6 := c6) (c7 := c7) (m1 := m1) (m2 := m2) (m3 := m3) (m4 := m4) (m5 := m5) (m6 := m6) (m7 := m7) (m8 := m8) (m9 := m9) (m10 := m10) h.sg h.c h.m (by omega)
    unfold F_X7_text F_X8_text
    rw [if_pos q0, if_pos q0, E1, E2, xb10, xb12]
    by_cases q : r = -1
    · obtain ⟨s2, hs2, rfl, rfl, hrd⟩ := hr q
      obtain ⟨f', g', B1, T, K1⟩ := bg_both (f := row) (g := g) (bk := bk) (si := si) (ac := ac) (im := hi) hK hs2 hrd
      have B : F_X7_beginWatch K (nI n) ru' pl' (nI s2) row hh im = some (nI s2, 0, f', 0, 0) := by
        unfold F_X7_beginWatch F_X2_forget F_X5_sites
        rw [c_cut0 hn, B1, xb1, xb1, xb2, xb1, K1.1.sz]
      rw [if_pos q, if_pos q, B, T, xb5, xb5]
      exact ⟨_, _, _, _, _, _, _, _, _, _, _, _, _, _, _, _, _, _, _, _, _, _, _, _, _, _, _, _, _, _, _, _, _, _, _, _, _, rfl, rfl, Or.inr ⟨s2, hs2, hrd.1, K1, rfl, rfl, rfl, rfl, rfl⟩, k, hk, rfl, hkd⟩
    · have p1 : ¬ p = 1 := by rw [q0]; decide
      unfold J_X7_text_20 J_X8_text_22
      rw [if_neg q, if_neg q, if_neg p1, if_neg p1]
      exact ⟨_, _, _, _, _, _, _, _, _, _, _, _, _, _, _, _, _, _, _, _, _, _, _, _, _, _, _, _, _, _, _, _, _, _, _, _, _, rfl, rfl, base, k, hk, rfl, hkd⟩
  · unfold F_X7_text F_X8_text
    rw [if_neg q0, if_neg q0]
    unfold J_X7_text_20 J_X8_text_22
    by_cases q1 : p = 1
    · rw [if_pos q1, if_pos q1, c_full hk, xb1]
      by_cases q4 : k < 4
      · rw [if_pos q4, if_pos rfl, if_neg (show ¬ (4 : Int32) ≤ nI k from mt (nI_leI (a := 4) (b := k) (by omega) (by omega)).mp (by omega))]
        obtain ⟨r, ru', st', s', cn', m', ac', ws', nu', f', am', pa', fr', pn', wr', pw', sc', lg', E1, E2, hr, k1, k2⟩ := rs_both (K := K) (p := k) (ru := ru) (st := st) (sc := sc) (lg := lg) (c1 := c1) (c2 := c2) (c3 := c3) (c4 := c4) (c5 := c5) (c6 := c6) (c7 := c7) (m1 := m1) (m2 := m2) (m3 := m3) (m4 := m4) (m5 := m5) (m6 := m6) h.sg h.c h.m (by omega) hk
        rw [E1, E2, xb10, xb9]
        by_cases q : r = -1
        · obtain ⟨c, hc1, hc2, rfl, e2, e3, e4⟩ := hr q
          unfold F_X7_keepScript
          rw [if_pos q, if_pos q, c_keep q4, xb3, c_cut0 hn, xb2, xb5, nI_1]
          exact ⟨_, _, _, _, _, _, _, _, _, _, _, _, _, _, _, _, _, _, _, _, _, _, _, _, _, _, _, _, _, _, _, _, _, _, _, _, _, rfl, rfl, base, k + 1, by omega, rfl, hkd.keep q4 hc2 e4⟩
        · rw [if_neg q, if_neg q]
          exact ⟨_, _, _, _, _, _, _, _, _, _, _, _, _, _, _, _, _, _, _, _, _, _, _, _, _, _, _, _, _, _, _, _, _, _, _, _, _, rfl, rfl, base, k, hk, rfl, hkd⟩
      · rw [if_neg q4, if_neg (by decide), if_pos (show (4 : Int32) ≤ nI k from (nI_leI (a := 4) (b := k) (by omega) (by omega)).mpr (by omega))]
        exact ⟨_, _, _, _, _, _, _, _, _, _, _, _, _, _, _, _, _, _, _, _, _, _, _, _, _, _, _, _, _, _, _, _, _, _, _, _, _, rfl, rfl, base, k, hk, rfl, hkd⟩
    · rw [if_neg q1, if_neg q1]
      exact ⟨_, _, _, _, _, _, _, _, _, _, _, _, _, _, _, _, _, _, _, _, _, _, _, _, _, _, _, _, _, _, _, _, _, _, _, _, _, rfl, rfl, base, k, hk, rfl, hkd⟩
end
-- 83c.24
section
/-! Stage B, 24: acts of a script, in both -/
/-- an act that is tried: not by hand -/
theorem a0_both {n a hd nx K s : Nat} {f g bk hr kp rf P A sh lo sx sy : Nat → Int32} {S x y z ac oc as ou tk : Int32} (eS : S = nI s) (hs : s ≤ 6) (hK : 200000 ≤ K) (ha : a < 2 ^ 29) (h : ActR n a hd nx f g bk hr kp) : ∃ w, F_X8_whyNot K S x y z g (nI n) = some w ∧ ((¬ w = -1 ∧ F_X7_act K S x y z 0 f P ac oc sh lo bk hr (nI nx) (nI hd) rf = some (-1, f, P, ac, oc, sh, lo, bk, hr, nI nx, nI hd, rf)) ∨ (w = -1 ∧ ∃ (r v ac' oc' as' ou' : Int32) (hd' nx' : Nat) (f' g' bk' hr' kp' P' A' sh' lo' sx' sy' : Nat → Int32), ¬ r = -1 ∧ F_X7_act K S x y z 0 f P ac oc sh lo bk hr (nI nx) (nI hd) rf = some (r, f', P', ac', oc', sh', lo', bk', hr', nI nx', nI hd', rf) ∧ F_X8_act K S x y z g (nI n) sx sy as ou A tk kp (nI hd) = some (v, g', sx', sy', as', ou', A', r, kp', nI hd') ∧ ActR n (a + 1) hd' nx' f' g' bk' hr' kp')) := by
  obtain ⟨w, e1, e2, e3, e4⟩ := rf_both (a := x) (b := y) (c := z) eS hs hK h.1.1 h.1.2.1.x
  refine ⟨w, e2, ?_⟩
  by_cases c : w = -1
  · rw [c] at e1
    obtain ⟨r, v, ac1, oc1, as1, ou1, hd1, nx1, f1, g1, bk1, hr1, kp1, P1, A1, sh1, lo1, sx1, sy1, d1, d2, d3, ⟨m, hm, d4⟩, -⟩ := at_both (rf := rf) (P := P) (A := A) (sh := sh) (lo := lo) (sx := sx) (sy := sy) (h5 := 0) (ac := ac) (oc := oc) (as := as) (ou := ou) (tk := tk) eS hs hK ha h e1 (e4 c)
    exact Or.inr ⟨c, r, v, ac1, oc1, as1, ou1, hd1, nx1, f1, g1, bk1, hr1, kp1, P1, A1, sh1, lo1, sx1, sy1, by rw [d4]; exact nI_ne_m1 (by omega), d1, d2, d3⟩
  · refine Or.inl ⟨c, ?_⟩
    unfold F_X7_act
    rw [e1, xb1, if_neg c, if_pos rfl]
theorem sort_both : ∀ k, k < 7 → ∃ s, s ≤ 6 ∧ sosF k = nI s ∧ F_X8_actOf (nI k) = some (nI s) := by
  intro k hk
  rcases (show k = 0 ∨ k = 1 ∨ k = 2 ∨ k = 3 ∨ k = 4 ∨ k = 5 ∨ k = 6 by omega) with rfl | rfl | rfl | rfl | rfl | rfl | rfl
  · exact ⟨0, by decide, by decide, by decide⟩
  · exact ⟨4, by decide, by decide, by decide⟩
  · exact ⟨2, by decide, by decide, by decide⟩
  · exact ⟨3, by decide, by decide, by decide⟩
  · exact ⟨1, by decide, by decide, by decide⟩
  · exact ⟨5, by decide, by decide, by decide⟩
  · exact ⟨6, by decide, by decide, by decide⟩
theorem c_has4 {k r : Nat} (hk : k ≤ 4) (hr : r < k) : F_X4_has (nI r) (nI k) = some 1 := by
  unfold F_X4_has
  rw [if_neg (nn0 (by omega)), if_neg (mt (nI_leI (a := k) (b := r) (by omega) (by omega)).mp (by omega)), if_neg (show ¬ (4 : Int32) ≤ nI r from mt (nI_leI (a := 4) (b := r) (by omega) (by omega)).mp (by omega))]
theorem c_stepsOf {k r c : Nat} {co : Nat → Int32} (hk : k ≤ 4) (hr : r < k) (e : co r = nI c) : F_X4_stepsOf (nI r) co (nI k) = some (nI c) := by
  unfold F_X4_stepsOf
  rw [c_has4 hk hr, xb1, if_neg (by decide), xixn (by omega) (by decide), nI_clamp (by omega), e]
theorem c_read4 {k r c i w : Nat} {W : Int32} {st co : Nat → Int32} (eW : W = nI w) (hk : k ≤ 4) (hr : r < k) (e : co r = nI c) (hc : c ≤ 12) (hi : i < c) (hw : w < 4) : F_X4_read (nI r) (nI i) W st co (nI k) = some (st (48 * r + 4 * i + w)) := by
  have e1 : ((nI r * (48 : Int32)) + (nI i * (4 : Int32))) + nI w = nI (48 * r + 4 * i + w) := by rw [show (48 : Int32) = nI 48 from rfl, show (4 : Int32) = nI 4 from rfl, nI_mul, nI_mul, nI_add, nI_add, Nat.mul_comm r 48, Nat.mul_comm i 4]
  unfold F_X4_read
  rw [eW, if_neg (nn0 (by omega)), c_stepsOf hk hr e, xb1, if_neg (mt (nI_leI (a := c) (b := i) (by omega) (by omega)).mp (by omega)), if_neg (nn0 (by omega)), if_pos (show nI w < (4 : Int32) from (nI_ltI (a := w) (b := 4) (by omega) (by omega)).mpr hw), e1, xixn (by omega) (by decide), nI_clamp (by omega)]
/-- a step of a script, as both read it -/
theorem sp_both {k r c i : Nat} {st co sc lg : Nat → Int32} (hk : k ≤ 4) (hr : r < k) (h : SR k st co sc lg) (hkd : KdS k st co) (e : co r = nI c) (hc : c ≤ 12) (hi : i < c) : ∃ s, s ≤ 6 ∧ F_X4_sortOf (nI r) (nI i) st co (nI k) = some (nI s) ∧ F_X8_actOf (sc (48 * r + 4 * i)) = some (nI s) ∧ F_X4_read (nI r) (nI i) 1 st co (nI k) = some (sc (48 * r + 4 * i + 1)) ∧ F_X4_read (nI r) (nI i) 2 st co (nI k) = some (sc (48 * r + 4 * i + 2)) ∧ F_X4_read (nI r) (nI i) 3 st co (nI k) = some (sc (48 * r + 4 * i + 3)) := by
  obtain ⟨c', c1, c2, c3, c4, c5⟩ := h r hr
  have ec : c = c' := (nI_eq (a := c) (b := c') (by omega) (by omega)).mp (e.symm.trans c3)
  obtain ⟨κ, k7, ek⟩ := hkd r hr c e hc i hi
  have ek : st (48 * r + 4 * i) = nI κ := ek
  obtain ⟨s, s6, s1, s2⟩ := sort_both κ k7
  have q : ∀ w, w < 4 → st (48 * r + 4 * i + w) = sc (48 * r + 4 * i + w) := fun w hw => by
    have := c5 (4 * i + w) (by omega)
    rw [← Nat.add_assoc] at this
    exact this
  have q0 : st (48 * r + 4 * i) = sc (48 * r + 4 * i) := q 0 (by decide)
  refine ⟨s, s6, ?_, ?_, ?_, ?_, ?_⟩
  · unfold F_X4_sortOf
    rw [c_read4 (w := 0) (by rfl) hk hr e hc hi (by decide), xb1, Nat.add_zero, ek, if_neg (nn0 (by omega)), if_neg (show ¬ (7 : Int32) ≤ nI κ from mt (nI_leI (a := 7) (b := κ) (by omega) (by omega)).mp (by omega)), xixn (by omega) (by decide), nI_clamp (by omega), s1]
  · rw [← q0, ek, s2]
  · rw [c_read4 (w := 1) (by rfl) hk hr e hc hi (by decide), q 1 (by decide)]
  · rw [c_read4 (w := 2) (by rfl) hk hr e hc hi (by decide), q 2 (by decide)]
  · rw [c_read4 (w := 3) (by rfl) hk hr e hc hi (by decide), q 3 (by decide)]
theorem i_sc {r i : Nat} : (4 : Int32) * (((12 : Int32) * nI r) + nI i) = nI (48 * r + 4 * i) := by
  rw [show (4 : Int32) = nI 4 from rfl, show (12 : Int32) = nI 12 from rfl, nI_mul, nI_add, nI_mul]
  congr 1
  omega
abbrev PfX : Type := Int32 × (Nat → Int32) × (Nat → Int32) × Int32 × Int32 × (Nat → Int32) × (Nat → Int32) × (Nat → Int32) × (Nat → Int32) × Int32 × Int32 × (Nat → Int32)
abbrev PfM : Type := Int32 × (Nat → Int32) × (Nat → Int32) × (Nat → Int32) × Int32 × Int32 × (Nat → Int32) × Int32 × (Nat → Int32) × Int32
def PfR (n a c : Nat) (rf : Nat → Int32) (i : Nat) (s : PfX) (t : PfM) : Prop := ∃ (ac oc as ou tk : Int32) (a' hd nx : Nat) (f g bk hr kp P A sh lo sx sy : Nat → Int32), s = (nI i, f, P, ac, oc, sh, lo, bk, hr, nI nx, nI hd, rf) ∧ t = (nI i, g, sx, sy, as, ou, A, tk, kp, nI hd) ∧ ActR n a' hd nx f g bk hr kp ∧ a' ≤ a + i ∧ i ≤ c
def PfQ (n a c : Nat) (rf : Nat → Int32) (s : Nat × PfX) (t : Nat × PfM) : Prop := ∃ i, s.1 = t.1 ∧ (s.1 = 0 ∨ (s.1 = 1 ∧ i = c)) ∧ PfR n a c rf i s.2 t.2
theorem PfR.step {n a k r c i K : Nat} {rf st co sc lg : Nat → Int32} {s : PfX} {t : PfM} (hK : 200000 ≤ K) (ha : a + 20 < 2 ^ 29) (hk : k ≤ 4) (hr : r < k) (hS : SR k st co sc lg) (hkd : KdS k st co) (e : co r = nI c) (el : lg r = nI c) (hc : c ≤ 12) (q : PfR n a c rf i s t) : (i < c ∧ ∃ s' t', B_X7_perform_34 K (nI r) (nI k) st co (nI c) s.1 s.2.1 s.2.2.1 s.2.2.2.1 s.2.2.2.2.1 s.2.2.2.2.2.1 s.2.2.2.2.2.2.1 s.2.2.2.2.2.2.2.1 s.2.2.2.2.2.2.2.2.1 s.2.2.2.2.2.2.2.2.2.1 s.2.2.2.2.2.2.2.2.2.2.1 s.2.2.2.2.2.2.2.2.2.2.2 = some (.inl s') ∧ B_X8_goSteps_2 K (nI r) 1 (nI n) sc lg t.1 t.2.1 t.2.2.1 t.2.2.2.1 t.2.2.2.2.1 t.2.2.2.2.2.1 t.2.2.2.2.2.2.1 t.2.2.2.2.2.2.2.1 t.2.2.2.2.2.2.2.2.1 t.2.2.2.2.2.2.2.2.2 = some (.inl t') ∧ PfR n a c rf (i + 1) s' t') ∨ (∃ r' u', B_X7_perform_34 K (nI r) (nI k) st co (nI c) s.1 s.2.1 s.2.2.1 s.2.2.2.1 s.2.2.2.2.1 s.2.2.2.2.2.1 s.2.2.2.2.2.2.1 s.2.2.2.2.2.2.2.1 s.2.2.2.2.2.2.2.2.1 s.2.2.2.2.2.2.2.2.2.1 s.2.2.2.2.2.2.2.2.2.2.1 s.2.2.2.2.2.2.2.2.2.2.2 = some (.inr r') ∧ B_X8_goSteps_2 K (nI r) 1 (nI n) sc lg t.1 t.2.1 t.2.2.1 t.2.2.2.1 t.2.2.2.2.1 t.2.2.2.2.2.1 t.2.2.2.2.2.2.1 t.2.2.2.2.2.2.2.1 t.2.2.2.2.2.2.2.2.1 t.2.2.2.2.2.2.2.2.2 = some (.inr u') ∧ PfQ n a c rf r' u') := by
  obtain ⟨ac, oc, as, ou, tk, a', hd, nx, f, g, bk, hr', kp, P, A, sh, lo, sx, sy, rfl, rfl, h, ha', hi⟩ := q
  by_cases z : i = c
  · refine Or.inr ⟨(1, nI i, f, P, ac, oc, sh, lo, bk, hr', nI nx, nI hd, rf), (1, nI i, g, sx, sy, as, ou, A, tk, kp, nI hd), ?_, ?_, i, rfl, Or.inr ⟨rfl, z⟩, ac, oc, as, ou, tk, a', hd, nx, f, g, bk, hr', kp, P, A, sh, lo, sx, sy, rfl, rfl, h, ha', hi⟩
    · show B_X7_perform_34 K (nI r) (nI k) st co (nI c) (nI i) f P ac oc sh lo bk hr' (nI nx) (nI hd) rf = _
      unfold B_X7_perform_34
      rw [if_pos ((nI_leI (a := c) (b := i) (by omega) (by omega)).mpr (by omega))]
    · show B_X8_goSteps_2 K (nI r) 1 (nI n) sc lg (nI i) g sx sy as ou A tk kp (nI hd) = _
      unfold B_X8_goSteps_2
      rw [xixn (by omega) (by decide), nI_clamp (by omega), el, if_pos ((nI_leI (a := c) (b := i) (by omega) (by omega)).mpr (by omega))]
  · have hic : i < c := by omega
    obtain ⟨s, s6, p0, p1, p2, p3, p4⟩ := sp_both hk hr hS hkd e hc hic
    obtain ⟨w, e2, q⟩ := a0_both (s := s) (S := nI s) (x := sc (48 * r + 4 * i + 1)) (y := sc (48 * r + 4 * i + 2)) (z := sc (48 * r + 4 * i + 3)) (rf := rf) (P := P) (A := A) (sh := sh) (lo := lo) (sx := sx) (sy := sy) (ac := ac) (oc := oc) (as := as) (ou := ou) (tk := tk) rfl s6 hK (show a' < 2 ^ 29 by omega) h
    have C : B_X7_perform_34 K (nI r) (nI k) st co (nI c) (nI i) f P ac oc sh lo bk hr' (nI nx) (nI hd) rf = bd12 (F_X7_act K (nI s) (sc (48 * r + 4 * i + 1)) (sc (48 * r + 4 * i + 2)) (sc (48 * r + 4 * i + 3)) 0 f P ac oc sh lo bk hr' (nI nx) (nI hd) rf) (fun r_20 w_21 w_22 w_23 w_24 w_25 w_26 w_27 w_28 w_29 w_30 w_31 => if r_20 = (-1 : Int32) then some (.inr (0, nI i, w_21, w_22, w_23, w_24, w_25, w_26, w_27, w_28, w_29, w_30, w_31)) else some (.inl (nI i + (1 : Int32), w_21, w_22, w_23, w_24, w_25, w_26, w_27, w_28, w_29, w_30, w_31))) := by
      unfold B_X7_perform_34
      rw [if_neg (mt (nI_leI (a := c) (b := i) (by omega) (by omega)).mp (by omega)), p0, xb1, p2, xb1, p3, xb1, p4, xb1]
    have i1 : nI (48 * r + 4 * i) + (1 : Int32) = nI (48 * r + 4 * i + 1) := nI_1 _
    have i2 : nI (48 * r + 4 * i) + (2 : Int32) = nI (48 * r + 4 * i + 2) := nI_add _ 2
    have i3 : nI (48 * r + 4 * i) + (3 : Int32) = nI (48 * r + 4 * i + 3) := nI_add _ 3
    have M : B_X8_goSteps_2 K (nI r) 1 (nI n) sc lg (nI i) g sx sy as ou A tk kp (nI hd) = bd1 (F_X8_whyNot K (nI s) (sc (48 * r + 4 * i + 1)) (sc (48 * r + 4 * i + 2)) (sc (48 * r + 4 * i + 3)) g (nI n)) (fun r_9 => if r_9 = (-1 : Int32) then bd10 (F_X8_act K (nI s) (sc (48 * r + 4 * i + 1)) (sc (48 * r + 4 * i + 2)) (sc (48 * r + 4 * i + 3)) g (nI n) sx sy as ou A tk kp (nI hd)) (fun r_28 w_29 w_30 w_31 w_32 w_33 w_34 w_35 w_36 w_37 => some (.inl (nI i + (1 : Int32), w_29, w_30, w_31, w_32, w_33, w_34, w_35, w_36, w_37))) else some (.inr (0, nI i, g, sx, sy, as, ou, A, tk, kp, nI hd))) := by
      unfold B_X8_goSteps_2
      rw [xixn (show r < 5 by omega) (by decide), nI_clamp (show r < 2 ^ 31 by omega), el, if_neg (mt (nI_leI (a := c) (b := i) (by omega) (by omega)).mp (by omega))]
      simp only [i_sc, i1, i2, i3, xixn (show 48 * r + 4 * i < 240 by omega) (by decide), xixn (show 48 * r + 4 * i + 1 < 240 by omega) (by decide), xixn (show 48 * r + 4 * i + 2 < 240 by omega) (by decide), xixn (show 48 * r + 4 * i + 3 < 240 by omega) (by decide), nI_clamp (show 48 * r + 4 * i < 2 ^ 31 by omega), nI_clamp (show 48 * r + 4 * i + 1 < 2 ^ 31 by omega), nI_clamp (show 48 * r + 4 * i + 2 < 2 ^ 31 by omega), nI_clamp (show 48 * r + 4 * i + 3 < 2 ^ 31 by omega), p1, xb1, if_neg (show ¬ (1 : Int32) = 0 by decide)]
    rw [e2, xb1] at M
    rcases q with ⟨q1, q2⟩ | ⟨q1, r', v, ac1, oc1, as1, ou1, hd1, nx1, f1, g1, bk1, hr1, kp1, P1, A1, sh1, lo1, sx1, sy1, q2, q3, q4, q5⟩
    · rw [q2, xb12, if_pos rfl] at C
      rw [if_neg q1] at M
      exact Or.inr ⟨_, _, C, M, i, rfl, Or.inl rfl, ac, oc, as, ou, tk, a', hd, nx, f, g, bk, hr', kp, P, A, sh, lo, sx, sy, rfl, rfl, h, ha', hi⟩
    · rw [q3, xb12, if_neg q2, nI_1] at C
      rw [if_pos q1, q4, xb10, nI_1] at M
      exact Or.inl ⟨hic, _, _, C, M, _, _, _, _, _, _, _, _, _, _, _, _, _, _, _, _, _, _, _, rfl, rfl, q5, by omega, by omega⟩
/-- a script is performed -/
theorem p_perform {n a hd nx k K : Nat} {f g bk hr kp rf P A sh lo sx sy st co sc lg : Nat → Int32} {x ac oc as ou tk : Int32} (hK : 200000 ≤ K) (ha : a + 20 < 2 ^ 29) (hk : k ≤ 4) (hS : SR k st co sc lg) (hkd : KdS k st co) (h : ActR n a hd nx f g bk hr kp) : ∃ (v ac' oc' as' ou' tk' : Int32) (a' hd' nx' : Nat) (f' g' bk' hr' kp' P' A' sh' lo' sx' sy' : Nat → Int32), F_X7_perform K x st co (nI k) f P ac oc sh lo bk hr (nI nx) (nI hd) rf = some (v, f', P', ac', oc', sh', lo', bk', hr', nI nx', nI hd', rf) ∧ F_X8_perform K x sc lg (nI k) g (nI n) sx sy as ou A tk kp (nI hd) = some (v, g', sx', sy', as', ou', A', tk', kp', nI hd') ∧ ActR n a' hd' nx' f' g' bk' hr' kp' ∧ a' ≤ a + 12 := by
  have n8 := h.1.1.n8
  obtain ⟨s1, s2⟩ := sd_both n8 h.1.1.sz
  have eS : F_X8_isScript x (nI k) = some (if 0 ≤ x ∧ x ≤ nI k - 1 then 1 else 0) := by
    unfold F_X8_isScript
    rw [show (0 : Int64) = (0 : Int32).toInt64 from rfl, m_inI, xb1]
  unfold F_X7_perform F_X8_perform
  by_cases c : 0 ≤ x ∧ x ≤ nI k - 1
  · obtain ⟨r, hr', rfl⟩ := in_lt (by omega) c
    obtain ⟨l, l1, l2, l3, l4, l5⟩ := hS r hr'
    rw [eS, if_pos c, xb1, if_neg (show ¬ (1 : Int32) = 0 by decide), c_has4 hk hr', xb1, if_neg (show ¬ (1 : Int32) = 0 by decide), s1, s2, xb1, xb1]
    by_cases z : n = 0
    · rw [if_pos z, if_pos rfl]
      exact ⟨_, _, _, _, _, _, a, _, _, _, _, _, _, _, _, _, _, _, _, _, rfl, rfl, h, by omega⟩
    · rw [if_neg z, if_neg n10, if_neg n10, c_stepsOf hk hr' l3, xb1]
      unfold F_X8_goSteps
      have h0 : PfR n a l rf 0 ((0 : Int32), f, P, ac, oc, sh, lo, bk, hr, nI nx, nI hd, rf) ((0 : Int32), g, sx, sy, as, ou, A, tk, kp, nI hd) := ⟨_, _, _, _, _, a, hd, nx, _, _, _, _, _, _, _, _, _, _, _, rfl, rfl, h, by omega, by omega⟩
      obtain ⟨u, t, x1, x2, i, y1, y2, ac1, oc1, as1, ou1, tk1, a1, hd1, nx1, f1, g1, bk1, hr1, kp1, P1, A1, sh1, lo1, sx1, sy1, y3, y4, y5, y6, y7⟩ := lp_two (b := fun u9 : Int32 × (Nat → Int32) × (Nat → Int32) × Int32 × Int32 × (Nat → Int32) × (Nat → Int32) × (Nat → Int32) × (Nat → Int32) × Int32 × Int32 × (Nat → Int32) => B_X7_perform_34 K (nI r) (nI k) st co (nI l) u9.1 u9.2.1 u9.2.2.1 u9.2.2.2.1 u9.2.2.2.2.1 u9.2.2.2.2.2.1 u9.2.2.2.2.2.2.1 u9.2.2.2.2.2.2.2.1 u9.2.2.2.2.2.2.2.2.1 u9.2.2.2.2.2.2.2.2.2.1 u9.2.2.2.2.2.2.2.2.2.2.1 u9.2.2.2.2.2.2.2.2.2.2.2) (d := fun u9 : Int32 × (Nat → Int32) × (Nat → Int32) × (Nat → Int32) × Int32 × Int32 × (Nat → Int32) × Int32 × (Nat → Int32) × Int32 => B_X8_goSteps_2 K (nI r) 1 (nI n) sc lg u9.1 u9.2.1 u9.2.2.1 u9.2.2.2.1 u9.2.2.2.2.1 u9.2.2.2.2.2.1 u9.2.2.2.2.2.2.1 u9.2.2.2.2.2.2.2.1 u9.2.2.2.2.2.2.2.2.1 u9.2.2.2.2.2.2.2.2.2) (PfR n a l rf) (PfQ n a l rf) (n := l) (K := K) (K' := K) (by omega) (by omega) (fun i s t hi q => (PfR.step hK ha hk hr' hS hkd l3 l4 l2 q).imp (fun w => w.2) id) (fun s t q => (PfR.step hK ha hk hr' hS hkd l3 l4 l2 q).elim (fun w => absurd w.1 (Nat.lt_irrefl _)) id) h0
      obtain ⟨t1, u2⟩ := u
      obtain ⟨t2, t3⟩ := t
      have y1 : t1 = t2 := y1
      have y3 : u2 = _ := y3
      have y4 : t3 = _ := y4
      subst y1 y3 y4
      have y2 : t1 = 0 ∨ (t1 = 1 ∧ i = l) := y2
      rw [x1, x2]
      rcases y2 with y2 | ⟨y2, y8⟩
      · rw [y2]
        exact ⟨_, _, _, _, _, _, a1, _, _, _, _, _, _, _, _, _, _, _, _, _, rfl, rfl, y5, by omega⟩
      · rw [y2]
        refine ⟨nI l, ac1, oc1, as1, ou1, tk1, a1, hd1, nx1, f1, g1, bk1, hr1, kp1, P1, A1, sh1, lo1, sx1, sy1, rfl, ?_, y5, by omega⟩
        rw [xb11, if_neg (show ¬ (1 : Nat) = 0 by decide), if_pos rfl, xixn (by omega) (by decide), nI_clamp (by omega), l4]
        rfl
  · have c7 : F_X4_has x (nI k) = some 0 := by
      unfold F_X4_has
      by_cases b1 : x < 0
      · rw [if_pos b1]
      · rw [if_neg b1, if_pos]
        refine Decidable.byContradiction (fun b2 => ?_)
        obtain ⟨w, hw, rfl⟩ := nnI (n := k) (by omega) b1 b2
        apply c
        rw [show nI k - (1 : Int32) = nI (k - 1) from xsub (b := 1) (by omega)]
        exact ⟨nI_nn (by omega), (nI_leI (a := w) (b := k - 1) (by omega) (by omega)).mpr (by omega)⟩
    rw [eS, if_neg c, xb1, if_pos rfl, c7, xb1, if_pos rfl]
    exact ⟨_, _, _, _, _, _, a, _, _, _, _, _, _, _, _, _, _, _, _, _, rfl, rfl, h, by omega⟩
end
-- 83c.25
section
/-! Stage B, 25: years, in both: what they leave (their answers are another matter) -/
theorem l_ne0w {x : Int32} (h : ¬ x ≤ 0) : ¬ x.toInt64 = 0 := fun q => h (by
  have a := congrArg Int64.toInt q
  rw [Int32.toInt_toInt64] at a
  have t0 : (0 : Int32).toInt = 0 := by decide
  have t1 : (0 : Int64).toInt = 0 := by decide
  rw [Int32.le_iff_toInt_le, a, t1, t0]
  decide)
theorem dn_both {p : Int32} {x : Int64} (h : ¬ p ≤ 0) : ∃ r x', F_X1_next p x = some (r, x') ∧ F_X8_draw p x = some (r, x') := by
  unfold F_X1_next F_X8_draw nzL
  rw [if_neg h, if_neg (l_ne0w h)]
  exact ⟨_, _, rfl, rfl⟩
theorem t0_both {n a hd nx K s : Nat} {f g bk hr kp rf P A sh lo sx sy : Nat → Int32} {S x y z ac oc as ou tk : Int32} (eS : S = nI s) (hs : s ≤ 6) (hK : 200000 ≤ K) (ha : a < 2 ^ 29) (h : ActR n a hd nx f g bk hr kp) : ∃ (r ac' oc' as' ou' tk' : Int32) (a' hd' nx' : Nat) (f' g' bk' hr' kp' P' A' sh' lo' sx' sy' : Nat → Int32), F_X7_act K S x y z 0 f P ac oc sh lo bk hr (nI nx) (nI hd) rf = some (r, f', P', ac', oc', sh', lo', bk', hr', nI nx', nI hd', rf) ∧ F_X8_tryOne K S x y z g (nI n) sx sy as ou A tk kp (nI hd) = some (g', sx', sy', as', ou', A', tk', kp', nI hd') ∧ ActR n a' hd' nx' f' g' bk' hr' kp' ∧ a' ≤ a + 1 := by
  obtain ⟨w, e2, q⟩ := a0_both (x := x) (y := y) (z := z) (rf := rf) (P := P) (A := A) (sh := sh) (lo := lo) (sx := sx) (sy := sy) (ac := ac) (oc := oc) (as := as) (ou := ou) (tk := tk) eS hs hK ha h
  unfold F_X8_tryOne
  rw [e2, xb1]
  rcases q with ⟨q1, q2⟩ | ⟨q1, r', v, ac1, oc1, as1, ou1, hd1, nx1, f1, g1, bk1, hr1, kp1, P1, A1, sh1, lo1, sx1, sy1, q2, q3, q4, q5⟩
  · rw [if_neg q1, q2]
    exact ⟨_, _, _, _, _, _, a, _, _, _, _, _, _, _, _, _, _, _, _, _, rfl, rfl, h, by omega⟩
  · rw [if_pos q1, q3, q4, xb10]
    exact ⟨_, _, _, _, _, _, a + 1, _, _, _, _, _, _, _, _, _, _, _, _, _, rfl, rfl, q5, by omega⟩
abbrev YrX : Type := Int32 × Int32 × (Nat → Int32) × (Nat → Int32) × Int32 × Int32 × (Nat → Int32) × (Nat → Int32) × (Nat → Int32) × (Nat → Int32) × Int32 × Int32 × Int64 × Int32 × Int32 × Int32 × Int32 × (Nat → Int32)
abbrev YrM : Type := Int32 × (Nat → Int32) × (Nat → Int32) × (Nat → Int32) × Int32 × Int32 × (Nat → Int32) × Int32 × (Nat → Int32) × Int32 × Int64
def YsR (n a : Nat) (rf : Nat → Int32) (i : Nat) (s : YrX) (t : YrM) : Prop := ∃ (v ac oc as ou tk d1 d2 d3 d4 : Int32) (dx : Int64) (a' hd nx : Nat) (f g bk hr kp P A sh lo sx sy : Nat → Int32), s = (v, nI i, f, P, ac, oc, sh, lo, bk, hr, nI nx, nI hd, dx, d1, d2, d3, d4, rf) ∧ t = (nI i, g, sx, sy, as, ou, A, tk, kp, nI hd, dx) ∧ ActR n a' hd nx f g bk hr kp ∧ a' ≤ a + i
theorem YsR.step {n a m i K : Nat} {rf : Nat → Int32} {s : YrX} {t : YrM} (hK : 200000 ≤ K) (ha : a + 50 < 2 ^ 29) (h0 : 0 < n) (hm : m ≤ 40) (hi : i < m) (q : YsR n a rf i s t) : ∃ s' t', B_X7_years_37 K (nI m) s.1 s.2.1 s.2.2.1 s.2.2.2.1 s.2.2.2.2.1 s.2.2.2.2.2.1 s.2.2.2.2.2.2.1 s.2.2.2.2.2.2.2.1 s.2.2.2.2.2.2.2.2.1 s.2.2.2.2.2.2.2.2.2.1 s.2.2.2.2.2.2.2.2.2.2.1 s.2.2.2.2.2.2.2.2.2.2.2.1 s.2.2.2.2.2.2.2.2.2.2.2.2.1 s.2.2.2.2.2.2.2.2.2.2.2.2.2.1 s.2.2.2.2.2.2.2.2.2.2.2.2.2.2.1 s.2.2.2.2.2.2.2.2.2.2.2.2.2.2.2.1 s.2.2.2.2.2.2.2.2.2.2.2.2.2.2.2.2.1 s.2.2.2.2.2.2.2.2.2.2.2.2.2.2.2.2.2 = some (.inl s') ∧ B_X8_years_29 K (nI m) (nI n) t.1 t.2.1 t.2.2.1 t.2.2.2.1 t.2.2.2.2.1 t.2.2.2.2.2.1 t.2.2.2.2.2.2.1 t.2.2.2.2.2.2.2.1 t.2.2.2.2.2.2.2.2.1 t.2.2.2.2.2.2.2.2.2.1 t.2.2.2.2.2.2.2.2.2.2 = some (.inl t') ∧ YsR n a rf (i + 1) s' t' := by
  obtain ⟨v, ac, oc, as, ou, tk, d1, d2, d3, d4, dx, a', hd, nx, f, g, bk, hr, kp, P, A, sh, lo, sx, sy, rfl, rfl, h, ha'⟩ := q
  have n8 := h.1.1.n8
  show ∃ s' t', B_X7_years_37 K (nI m) v (nI i) f P ac oc sh lo bk hr (nI nx) (nI hd) dx d1 d2 d3 d4 rf = some (.inl s') ∧ B_X8_years_29 K (nI m) (nI n) (nI i) g sx sy as ou A tk kp (nI hd) dx = some (.inl t') ∧ YsR n a rf (i + 1) s' t'
  have lm : ¬ nI m ≤ nI i := mt (nI_leI (a := m) (b := i) (by omega) (by omega)).mp (by omega)
  unfold B_X7_years_37 B_X8_years_29 F_X5_sites F_X1_pickAct F_X8_drawYear
  rw [if_neg lm, if_neg lm, xb1, h.1.1.sz, nI_1]
  obtain ⟨w1, x1, e1, e1'⟩ := dn_both (p := 8) (x := dx) (by decide)
  rw [e1, e1', xb2, xb2]
  by_cases c7 : w1 = 7
  · obtain ⟨r, ac1, oc1, as1, ou1, tk1, a1, hd1, nx1, f1, g1, bk1, hr1, kp1, P1, A1, sh1, lo1, sx1, sy1, q1, q2, q3, q4⟩ := t0_both (s := 1) (S := 1) (x := 0) (y := 0) (z := 0) (rf := rf) (P := P) (A := A) (sh := sh) (lo := lo) (sx := sx) (sy := sy) (ac := ac) (oc := oc) (as := as) (ou := ou) (tk := tk) rfl (by decide) hK (show a' < 2 ^ 29 by omega) h
    rw [if_pos c7, if_pos c7, xb5, irr_1 (x' := 0) (y' := 0) (z' := 0), q1, xb12, q2, xb9, xb10]
    exact ⟨_, _, rfl, rfl, _, _, _, _, _, _, _, _, _, _, _, a1, _, _, _, _, _, _, _, _, _, _, _, _, _, rfl, rfl, q3, by omega⟩
  · obtain ⟨w2, x2, e2, e2'⟩ := dn_both (p := nI n) (x := x1) (nI_nle h0 (by omega))
    rw [if_neg c7, if_neg c7, e2, e2', xb2, xb2]
    by_cases c6 : w1 = 6
    · obtain ⟨w3, x3, e3, e3'⟩ := dn_both (p := 9) (x := x2) (by decide)
      obtain ⟨r, ac1, oc1, as1, ou1, tk1, a1, hd1, nx1, f1, g1, bk1, hr1, kp1, P1, A1, sh1, lo1, sx1, sy1, q1, q2, q3, q4⟩ := t0_both (s := 4) (S := 4) (x := w2) (y := w3 + 1) (z := 0) (rf := rf) (P := P) (A := A) (sh := sh) (lo := lo) (sx := sx) (sy := sy) (ac := ac) (oc := oc) (as := as) (ou := ou) (tk := tk) rfl (by decide) hK (show a' < 2 ^ 29 by omega) h
      rw [if_pos c6, if_pos c6, e3, e3', xb2, xb2, xb5, irr_4 (z' := 0), q1, xb12, q2, xb9, xb10]
      exact ⟨_, _, rfl, rfl, _, _, _, _, _, _, _, _, _, _, _, a1, _, _, _, _, _, _, _, _, _, _, _, _, _, rfl, rfl, q3, by omega⟩
    · obtain ⟨w3, x3, e3, e3'⟩ := dn_both (p := 21) (x := x2) (by decide)
      obtain ⟨w4, x4, e4, e4'⟩ := dn_both (p := 21) (x := x3) (by decide)
      obtain ⟨r, ac1, oc1, as1, ou1, tk1, a1, hd1, nx1, f1, g1, bk1, hr1, kp1, P1, A1, sh1, lo1, sx1, sy1, q1, q2, q3, q4⟩ := t0_both (s := 0) (S := 0) (x := w2) (y := w3 - 10) (z := w4 - 10) (rf := rf) (P := P) (A := A) (sh := sh) (lo := lo) (sx := sx) (sy := sy) (ac := ac) (oc := oc) (as := as) (ou := ou) (tk := tk) rfl (by decide) hK (show a' < 2 ^ 29 by omega) h
      rw [if_neg c6, if_neg c6, e3, e3', xb2, xb2, e4, e4', xb2, xb2, xb5, q1, xb12, q2, xb9, xb10]
      exact ⟨_, _, rfl, rfl, _, _, _, _, _, _, _, _, _, _, _, a1, _, _, _, _, _, _, _, _, _, _, _, _, _, rfl, rfl, q3, by omega⟩
theorem p_years {n a hd nx K : Nat} {f g bk hr kp rf P A sh lo sx sy : Nat → Int32} {x ac oc as ou tk d1 d2 d3 d4 : Int32} {y dx dm : Int64} (hK : 200000 ≤ K) (ha : a + 50 < 2 ^ 29) (h : ActR n a hd nx f g bk hr kp) : ∃ (v w ac' oc' as' ou' tk' d1' d2' d3' d4' : Int32) (dx' dm' : Int64) (a' hd' nx' : Nat) (f' g' bk' hr' kp' P' A' sh' lo' sx' sy' : Nat → Int32), F_X7_years K x y f P ac oc sh lo bk hr (nI nx) (nI hd) dx d1 d2 d3 d4 rf = some (v, f', P', ac', oc', sh', lo', bk', hr', nI nx', nI hd', dx', d1', d2', d3', d4', rf) ∧ F_X8_years K x y g (nI n) sx sy as ou A tk kp (nI hd) dm = some (w, g', sx', sy', as', ou', A', tk', kp', nI hd', dm') ∧ ActR n a' hd' nx' f' g' bk' hr' kp' ∧ a' ≤ a + 40 := by
  have n8 := h.1.1.n8
  obtain ⟨s1, s2⟩ := sd_both n8 h.1.1.sz
  have ei : F_X8_in x.toInt64 (1 : Int64) (40 : Int64) = some (if (1 : Int32) ≤ x ∧ x ≤ (40 : Int32) then 1 else 0) := by
    rw [show (1 : Int64) = (1 : Int32).toInt64 from rfl, show (40 : Int64) = (40 : Int32).toInt64 by decide, m_inI]
  unfold F_X7_years F_X8_years
  rw [s1, s2, xb1, xb1]
  by_cases z : n = 0
  · rw [if_pos z, if_pos rfl, if_pos rfl]
    exact ⟨_, _, _, _, _, _, _, _, _, _, _, _, _, a, _, _, _, _, _, _, _, _, _, _, _, _, _, rfl, rfl, h, by omega⟩
  · rw [if_neg z, if_neg (show ¬ (1 : Int32) = 0 by decide), if_neg (show ¬ (1 : Int32) = 0 by decide), rng_d, ei, xb1]
    by_cases c : (1 : Int32) ≤ x ∧ x ≤ (40 : Int32)
    · obtain ⟨m, hm, rfl⟩ := in_nat (p := x) (n := 40) (by decide) ⟨Int32.le_trans (by decide) c.1, c.2⟩
      rw [if_pos c, if_pos c, if_neg (show ¬ (1 : Int32) = 0 by decide)]
      have hz : YsR n a rf 0 ((0 : Int32), (0 : Int32), f, P, ac, oc, sh, lo, bk, hr, nI nx, nI hd, y, d1, d2, d3, d4, rf) ((0 : Int32), g, sx, sy, as, ou, A, tk, kp, nI hd, y) := ⟨_, _, _, _, _, _, _, _, _, _, _, a, _, _, _, _, _, _, _, _, _, _, _, _, _, rfl, rfl, h, by omega⟩
      have he : ∀ s t, YsR n a rf m s t → ∃ r u, (fun u9 : Int32 × Int32 × (Nat → Int32) × (Nat → Int32) × Int32 × Int32 × (Nat → Int32) × (Nat → Int32) × (Nat → Int32) × (Nat → Int32) × Int32 × Int32 × Int64 × Int32 × Int32 × Int32 × Int32 × (Nat → Int32) => B_X7_years_37 K (nI m) u9.1 u9.2.1 u9.2.2.1 u9.2.2.2.1 u9.2.2.2.2.1 u9.2.2.2.2.2.1 u9.2.2.2.2.2.2.1 u9.2.2.2.2.2.2.2.1 u9.2.2.2.2.2.2.2.2.1 u9.2.2.2.2.2.2.2.2.2.1 u9.2.2.2.2.2.2.2.2.2.2.1 u9.2.2.2.2.2.2.2.2.2.2.2.1 u9.2.2.2.2.2.2.2.2.2.2.2.2.1 u9.2.2.2.2.2.2.2.2.2.2.2.2.2.1 u9.2.2.2.2.2.2.2.2.2.2.2.2.2.2.1 u9.2.2.2.2.2.2.2.2.2.2.2.2.2.2.2.1 u9.2.2.2.2.2.2.2.2.2.2.2.2.2.2.2.2.1 u9.2.2.2.2.2.2.2.2.2.2.2.2.2.2.2.2.2) s = some (.inr r) ∧ (fun u9 : Int32 × (Nat → Int32) × (Nat → Int32) × (Nat → Int32) × Int32 × Int32 × (Nat → Int32) × Int32 × (Nat → Int32) × Int32 × Int64 => B_X8_years_29 K (nI m) (nI n) u9.1 u9.2.1 u9.2.2.1 u9.2.2.2.1 u9.2.2.2.2.1 u9.2.2.2.2.2.1 u9.2.2.2.2.2.2.1 u9.2.2.2.2.2.2.2.1 u9.2.2.2.2.2.2.2.2.1 u9.2.2.2.2.2.2.2.2.2.1 u9.2.2.2.2.2.2.2.2.2.2) t = some (.inr u) ∧ YsR n a rf m (r.1, nI m, r.2) (nI m, u) := by
        intro s t q
        obtain ⟨v, ac, oc, as, ou, tk, d1, d2, d3, d4, dx, a', hd, nx, f, g, bk, hr, kp, P, A, sh, lo, sx, sy, rfl, rfl, h, ha'⟩ := q
        have le : nI m ≤ nI m := (nI_leI (a := m) (b := m) (by omega) (by omega)).mpr (Nat.le_refl _)
        refine ⟨(v, f, P, ac, oc, sh, lo, bk, hr, nI nx, nI hd, dx, d1, d2, d3, d4, rf), (g, sx, sy, as, ou, A, tk, kp, nI hd, dx), ?_, ?_, _, _, _, _, _, _, _, _, _, _, _, a', _, _, _, _, _, _, _, _, _, _, _, _, _, rfl, rfl, h, ha'⟩
        · show B_X7_years_37 K (nI m) v (nI m) f P ac oc sh lo bk hr (nI nx) (nI hd) dx d1 d2 d3 d4 rf = _
          unfold B_X7_years_37
          rw [if_pos le]
        · show B_X8_years_29 K (nI m) (nI n) (nI m) g sx sy as ou A tk kp (nI hd) dx = _
          unfold B_X8_years_29
          rw [if_pos le]
      obtain ⟨u, t, x1, x2, v1, ac1, oc1, as1, ou1, tk1, p1, p2, p3, p4, dx1, a1, hd1, nx1, f1, g1, bk1, hr1, kp1, P1, A1, sh1, lo1, sx1, sy1, y3, y4, y5, y6⟩ := lp_two (YsR n a rf) (fun r u => YsR n a rf m (r.1, nI m, r.2) (nI m, u)) (n := m) (K := K) (K' := K) (by omega) (by omega) (fun i s t hi q => Or.inl (YsR.step hK ha (by omega) (by omega) hi q)) he hz
      have y7 : u = (v1, f1, P1, ac1, oc1, sh1, lo1, bk1, hr1, nI nx1, nI hd1, dx1, p1, p2, p3, p4, rf) := by
        obtain ⟨u1, u2⟩ := u
        have e := congrArg (fun w : YrX => (w.1, w.2.2)) y3
        exact e
      have y8 : t = (g1, sx1, sy1, as1, ou1, A1, tk1, kp1, nI hd1, dx1) := congrArg (fun w : YrM => w.2) y4
      rw [x1, x2, y7, y8]
      exact ⟨_, _, _, _, _, _, _, _, _, _, _, _, _, a1, _, _, _, _, _, _, _, _, _, _, _, _, _, rfl, rfl, y5, by omega⟩
    · rw [if_neg c, if_neg c, if_pos rfl]
      exact ⟨_, _, _, _, _, _, _, _, _, _, _, _, _, a, _, _, _, _, _, _, _, _, _, _, _, _, _, rfl, rfl, h, by omega⟩
end
