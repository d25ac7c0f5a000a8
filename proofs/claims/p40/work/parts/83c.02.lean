-- 83c.02
section
/-! Stage B, 2: two loops in step; the two rows say the same -/
theorem lp_twoA {σ τ ρ υ : Type} {b : σ → Option (σ ⊕ ρ)} {d : τ → Option (τ ⊕ υ)} (R : Nat → σ → τ → Prop) (Q : ρ → υ → Prop) {n : Nat} (hs : ∀ i s t, i < n → R i s t → (∃ s' t', b s = some (.inl s') ∧ d t = some (.inl t') ∧ R (i + 1) s' t') ∨ (∃ r u, b s = some (.inr r) ∧ d t = some (.inr u) ∧ Q r u)) (he : ∀ s t, R n s t → ∃ r u, b s = some (.inr r) ∧ d t = some (.inr u) ∧ Q r u) : ∀ (k i : Nat) (s : σ) (t : τ) (K K' : Nat), i + k = n → k < K → k < K' → R i s t → ∃ r u, lpF b K s = some r ∧ lpF d K' t = some u ∧ Q r u := by
  intro k
  induction k with
  | zero =>
    intro i s t K K' h1 h2 h3 h4
    obtain ⟨K2, rfl⟩ : ∃ K2, K = K2 + 1 := ⟨K - 1, by omega⟩
    obtain ⟨K3, rfl⟩ : ∃ K3, K' = K3 + 1 := ⟨K' - 1, by omega⟩
    have e : i = n := by omega
    rw [e] at h4
    obtain ⟨r, u, e1, e2, q⟩ := he s t h4
    exact ⟨r, u, lp_end e1, lp_end e2, q⟩
  | succ k ih =>
    intro i s t K K' h1 h2 h3 h4
    obtain ⟨K2, rfl⟩ : ∃ K2, K = K2 + 1 := ⟨K - 1, by omega⟩
    obtain ⟨K3, rfl⟩ : ∃ K3, K' = K3 + 1 := ⟨K' - 1, by omega⟩
    rcases hs i s t (by omega) h4 with ⟨s', t', e1, e2, q⟩ | ⟨r, u, e1, e2, q⟩
    · rw [lp_one e1, lp_one e2]
      exact ih (i + 1) s' t' K2 K3 (by omega) (by omega) (by omega) q
    · exact ⟨r, u, lp_end e1, lp_end e2, q⟩
/-- two loops in step -/
theorem lp_two {σ τ ρ υ : Type} {b : σ → Option (σ ⊕ ρ)} {d : τ → Option (τ ⊕ υ)} (R : Nat → σ → τ → Prop) (Q : ρ → υ → Prop) {n K K' : Nat} (hK : n < K) (hK' : n < K') (hs : ∀ i s t, i < n → R i s t → (∃ s' t', b s = some (.inl s') ∧ d t = some (.inl t') ∧ R (i + 1) s' t') ∨ (∃ r u, b s = some (.inr r) ∧ d t = some (.inr u) ∧ Q r u)) (he : ∀ s t, R n s t → ∃ r u, b s = some (.inr r) ∧ d t = some (.inr u) ∧ Q r u) {s : σ} {t : τ} (h0 : R 0 s t) : ∃ r u, lpF b K s = some r ∧ lpF d K' t = some u ∧ Q r u := lp_twoA R Q hs he n 0 s t K K' (by omega) hK hK' h0
theorem bd1_id {α : Type} {x : Option α} : bd1 x (fun r => some r) = x := by cases x <;> rfl
theorem bx_of {i c : Nat} {C : Int32} {f : Nat → Int32} (e : C = nI c) (hi : i < 8) (hc : c < 8) : F_X5_of (nI i) C f = some (f (17 + 8 * i + c)) := by rw [e]; exact b_of hi hc
theorem bx_put {i c : Nat} {C v : Int32} {f : Nat → Int32} (e : C = nI c) (hi : i < 8) (hc : c < 8) : F_X5_put (nI i) C v f = some (upd f (17 + 8 * i + c) v) := by rw [e]; exact b_put hi hc
theorem bm_ix {α : Type} {a i : Nat} {A : Int32} {G : Option α} (e : A = nI a) (h : a + i < 265) : ixF (A + nI i) 265 G = G := by rw [e, nI_add]; exact xixn h (by decide)
theorem bm_cl {a i : Nat} {A : Int32} (e : A = nI a) (h : a + i < 265) : (A + nI i).toNatClampNeg = a + i := by rw [e, nI_add]; exact nI_clamp (by omega)
/-- the frozen ones as bits -/
def row_frz (g : Nat → Int32) : Nat → Int32
  | 0 => 0
  | k + 1 => row_frz g k ||| (if g (76 + k) = 1 then (1 : Int32) <<< (nI k &&& 31) else 0)
theorem row_frz_eq {g g' : Nat → Int32} : ∀ n, (∀ i, i < n → g (76 + i) = g' (76 + i)) → row_frz g n = row_frz g' n := by
  intro n
  induction n with
  | zero => exact fun _ => rfl
  | succ k ih =>
    intro h
    show row_frz g k ||| (if g (76 + k) = 1 then (1 : Int32) <<< (nI k &&& 31) else 0) = row_frz g' k ||| (if g' (76 + k) = 1 then (1 : Int32) <<< (nI k &&& 31) else 0)
    rw [ih (fun i hi => h i (by omega)), h k (by omega)]
/-- scalars: place in the class's row, place in the reference's -/
def rowScl : List (Nat × Nat) := [(0, 64), (1, 65), (2, 66), (6, 72), (8, 73), (9, 75), (10, 74), (12, 68), (13, 69), (14, 70), (15, 71)]
theorem rowScl_b : ∀ p ∈ rowScl, p.1 < 17 ∧ ¬ p.1 = 3 ∧ ¬ p.1 = 4 ∧ ¬ p.1 = 5 ∧ ¬ p.1 = 7 ∧ 64 ≤ p.2 ∧ p.2 < 76 := by decide
theorem rowScl_u : ∀ p ∈ rowScl, ∀ q ∈ rowScl, (p.1 = q.1 ↔ p.2 = q.2) := by decide
/-- the rows say the same of n sites (but for the sums) -/
abbrev RowB (n : Nat) (f g : Nat → Int32) : Prop := n ≤ 8 ∧ f 3 = nI n ∧ (∀ i c, i < n → c < 8 → f (17 + 8 * i + c) = g (8 * c + i)) ∧ (∀ p ∈ rowScl, f p.1 = g p.2) ∧ f 7 = row_frz g n
theorem RowB.n8 {n : Nat} {f g : Nat → Int32} (h : RowB n f g) : n ≤ 8 := h.1
theorem RowB.sz {n : Nat} {f g : Nat → Int32} (h : RowB n f g) : f 3 = nI n := h.2.1
theorem RowB.st {n : Nat} {f g : Nat → Int32} (h : RowB n f g) : ∀ i c, i < n → c < 8 → f (17 + 8 * i + c) = g (8 * c + i) := h.2.2.1
theorem RowB.sc {n : Nat} {f g : Nat → Int32} (h : RowB n f g) : ∀ p ∈ rowScl, f p.1 = g p.2 := h.2.2.2.1
theorem RowB.fr {n : Nat} {f g : Nat → Int32} (h : RowB n f g) : f 7 = row_frz g n := h.2.2.2.2
theorem RowB.put {n i c : Nat} {f g : Nat → Int32} (h : RowB n f g) (hi : i < n) (hc : c < 8) (v : Int32) : RowB n (upd f (17 + 8 * i + c) v) (upd g (8 * c + i) v) := by
  have n8 := h.n8
  refine ⟨h.n8, ?_, ?_, ?_, ?_⟩
  · rw [upd_ne (by omega)]; exact h.sz
  · intro j d hj hd
    by_cases e : j = i ∧ d = c
    · obtain ⟨e1, e2⟩ := e
      rw [e1, e2, upd_at, upd_at]
    · rw [upd_ne (by omega), upd_ne (by omega)]; exact h.st j d hj hd
  · intro p hp
    obtain ⟨b1, b2, b3, b4, b5, b6, b7⟩ := rowScl_b p hp
    rw [upd_ne (by omega), upd_ne (by omega)]; exact h.sc p hp
  · rw [upd_ne (by omega), h.fr]
    exact row_frz_eq n (fun k hk => (upd_ne (by omega)).symm)
theorem RowB.scal {n a b : Nat} {f g : Nat → Int32} (h : RowB n f g) (hp : (a, b) ∈ rowScl) (v : Int32) : RowB n (upd f a v) (upd g b v) := by
  have n8 := h.n8
  obtain ⟨c1, c2, c3, c4, c5, c6, c7⟩ := rowScl_b _ hp
  refine ⟨h.n8, ?_, ?_, ?_, ?_⟩
  · rw [upd_ne (fun z => c2 z.symm)]; exact h.sz
  · intro j d hj hd
    rw [upd_ne (show ¬ 17 + 8 * j + d = a by have : a < 17 := c1; omega), upd_ne (show ¬ 8 * d + j = b by have : 64 ≤ b := c6; omega)]
    exact h.st j d hj hd
  · intro p hq
    have u := rowScl_u p hq (a, b) hp
    by_cases e : p.1 = a
    · have e2 : p.2 = b := u.mp e
      rw [e, e2, upd_at, upd_at]
    · have e2 : ¬ p.2 = b := fun z => e (u.mpr z)
      rw [upd_ne e, upd_ne e2]; exact h.sc p hq
  · rw [upd_ne (fun z => c5 z.symm), h.fr]
    exact row_frz_eq n (fun k hk => (upd_ne (show ¬ 76 + k = b by have : b < 76 := c7; omega)).symm)
theorem RowB.sums {n a : Nat} {f g : Nat → Int32} (h : RowB n f g) (ha : a = 4 ∨ a = 5 ∨ a = 16) (v : Int32) : RowB n (upd f a v) g := by
  refine ⟨h.n8, ?_, ?_, ?_, ?_⟩
  · rw [upd_ne (by omega)]; exact h.sz
  · intro j d hj hd
    rw [upd_ne (by omega)]; exact h.st j d hj hd
  · intro p hp
    obtain ⟨b1, b2, b3, b4, b5, b6, b7⟩ := rowScl_b p hp
    have : ¬ p.1 = 16 := by
      revert p
      decide
    rw [upd_ne (by omega)]; exact h.sc p hp
  · rw [upd_ne (by omega)]; exact h.fr
/-- the rows say the same -/
abbrev RowR (n : Nat) (f g : Nat → Int32) : Prop := RowB n f g ∧ f 4 = sgm (fun i => g (16 + i)) n ∧ f 5 = sgm (fun i => g (24 + i)) n
theorem RowR.toRowB {n : Nat} {f g : Nat → Int32} (h : RowR n f g) : RowB n f g := h.1
theorem RowR.sx {n : Nat} {f g : Nat → Int32} (h : RowR n f g) : f 4 = sgm (fun i => g (16 + i)) n := h.2.1
theorem RowR.sy {n : Nat} {f g : Nat → Int32} (h : RowR n f g) : f 5 = sgm (fun i => g (24 + i)) n := h.2.2
theorem RowR.n8 {n : Nat} {f g : Nat → Int32} (h : RowR n f g) : n ≤ 8 := h.1.1
theorem RowR.sz {n : Nat} {f g : Nat → Int32} (h : RowR n f g) : f 3 = nI n := h.1.2.1
theorem RowR.sc {n : Nat} {f g : Nat → Int32} (h : RowR n f g) : ∀ p ∈ rowScl, f p.1 = g p.2 := h.1.2.2.2.1
theorem val_both {f g : Nat → Int32} {p1 p2 : Int64} {a : Nat} (ha : a < 4) (h1 : f 0 = nI a) (h2 : g 64 = nI a) : F_X5_valueOf p1 p2 f = F_X8_valueOf p1 p2 g := by
  have h : ∀ x k0, J_X5_valueOf_26 p1 p2 f k0 x = J_X8_valueOf_26 p1 p2 g k0 x := fun x k0 => by
    unfold J_X5_valueOf_26 J_X8_valueOf_26
    rw [h1, h2]
    rcases (show a = 0 ∨ a = 1 ∨ a = 2 ∨ a = 3 by omega) with rfl | rfl | rfl | rfl
    · rw [if_neg (show ¬ nI 0 = (1 : Int32) by decide), if_neg (show ¬ nI 0 = (2 : Int32) by decide), if_neg (show ¬ nI 0 = (3 : Int32) by decide), if_pos (show nI 0 = (0 : Int32) by decide)]
    · rw [if_pos (show nI 1 = (1 : Int32) by decide), if_neg (show ¬ nI 1 = (0 : Int32) by decide), if_pos (show nI 1 = (1 : Int32) by decide)]
    · rw [if_neg (show ¬ nI 2 = (1 : Int32) by decide), if_pos (show nI 2 = (2 : Int32) by decide), if_neg (show ¬ nI 2 = (0 : Int32) by decide), if_neg (show ¬ nI 2 = (1 : Int32) by decide), if_pos (show nI 2 = (2 : Int32) by decide)]
    · rw [if_neg (show ¬ nI 3 = (1 : Int32) by decide), if_neg (show ¬ nI 3 = (2 : Int32) by decide), if_pos (show nI 3 = (3 : Int32) by decide), if_neg (show ¬ nI 3 = (0 : Int32) by decide), if_neg (show ¬ nI 3 = (1 : Int32) by decide), if_neg (show ¬ nI 3 = (2 : Int32) by decide)]
  unfold F_X5_valueOf F_X8_valueOf J_X5_valueOf_12 J_X8_valueOf_12
  simp only [h]
/-- what the rows' cells may hold -/
abbrev RowG (g : Nat → Int32) : Prop := (∃ a, a < 4 ∧ g 64 = nI a) ∧ (g 72 = 0 ∨ g 72 = 1)
theorem RowG.law {g : Nat → Int32} (h : RowG g) : ∃ a, a < 4 ∧ g 64 = nI a := h.1
theorem RowG.abv {g : Nat → Int32} (h : RowG g) : g 72 = 0 ∨ g 72 = 1 := h.2
theorem RowB.val {n : Nat} {f g : Nat → Int32} (h : RowB n f g) (hg : RowG g) {p1 p2 : Int64} : F_X5_valueOf p1 p2 f = F_X8_valueOf p1 p2 g := by
  obtain ⟨a, ha, e⟩ := hg.law
  exact val_both ha ((h.sc (0, 64) (by decide)).trans e) e
theorem alw_both {n : Nat} {f g : Nat → Int32} (h : RowB n f g) (hg : RowG g) {p1 p2 : Int32} : F_X5_allows p1.toInt64 p2.toInt64 f = F_X8_isAllowed p1 p2 g := by
  unfold F_X5_allows F_X8_isAllowed
  rw [h.val hg, show f 1 = g 65 from h.sc (1, 65) (by decide)]
/-- quiet by a drift: both alike -/
theorem q_both {n K : Nat} {f g : Nat → Int32} (hK : 200000 ≤ K) (h : RowR n f g) (hg : RowG g) {p1 p2 : Int32} : F_X5_isQuietDrift p1 p2 f = F_X8_isQuietBy K p1 p2 g (nI n) := by
  have n8 := h.n8
  have e16 : F_X8_sum K (16 : Int32) g (nI n) = some (f 4) := by rw [h.sx]; exact bm_sum hK n8 (b := 16) (by decide)
  have e24 : F_X8_sum K (24 : Int32) g (nI n) = some (f 5) := by rw [h.sy]; exact bm_sum hK n8 (b := 24) (by decide)
  unfold F_X5_isQuietDrift F_X5_isAbove F_X8_isQuietBy F_X8_pointX F_X8_pointY
  rw [show f 6 = g 72 from h.sc (6, 72) (by decide)]
  rcases hg.abv with e | e
  · rw [e, if_pos rfl, xb1, if_pos rfl, if_neg (show ¬ (0 : Int32) = 1 by decide), e16, xb1, xb1, e24, xb1, xb1, bd1_id, h.sz, ← alw_both h.toRowB hg]
    rfl
  · rw [e, if_neg (show ¬ (1 : Int32) = 0 by decide), xb1, if_neg (show ¬ (1 : Int32) = 0 by decide), if_pos rfl]
end
-- 83c.03
section
/-! Stage B, 3: all are heard, in both -/
theorem row_self {f : Nat → Int32} {i : Nat} : upd f i (f i) = f := by
  funext j
  by_cases e : j = i
  · rw [e, upd_at]
  · rw [upd_ne e]
theorem RowR.scal {n a b : Nat} {f g : Nat → Int32} (h : RowR n f g) (hp : (a, b) ∈ rowScl) (v : Int32) : RowR n (upd f a v) (upd g b v) := by
  have n8 := h.n8
  obtain ⟨c1, c2, c3, c4, c5, c6, c7⟩ := rowScl_b _ hp
  have c6 : 64 ≤ b := c6
  refine ⟨h.toRowB.scal hp v, ?_, ?_⟩
  · rw [upd_ne (fun z => c3 z.symm), h.sx]
    exact sgm_eq n (fun k hk => (upd_ne (show ¬ 16 + k = b by omega)).symm)
  · rw [upd_ne (fun z => c4 z.symm), h.sy]
    exact sgm_eq n (fun k hk => (upd_ne (show ¬ 24 + k = b by omega)).symm)
/-- a site is heard: the class's row -/
def hrW (i : Nat) (f : Nat → Int32) : Nat → Int32 := upd (upd (upd (upd f (17 + 8 * i + 2) (f (17 + 8 * i + 0))) (17 + 8 * i + 3) (upd f (17 + 8 * i + 2) (f (17 + 8 * i + 0)) (17 + 8 * i + 1))) (17 + 8 * i + 4) 0) (17 + 8 * i + 5) 0
def hrC (i : Nat) (f : Nat → Int32) : Nat → Int32 := upd (upd (hrW i f) 4 (hrW i f 4 + hrW i f (17 + 8 * i + 0))) 5 (upd (hrW i f) 4 (hrW i f 4 + hrW i f (17 + 8 * i + 0)) 5 + upd (hrW i f) 4 (hrW i f 4 + hrW i f (17 + 8 * i + 0)) (17 + 8 * i + 1))
/-- a site is heard: the reference's row -/
def hrM (i : Nat) (g : Nat → Int32) : Nat → Int32 := upd (upd (upd (upd g (16 + i) (g (0 + i))) (24 + i) (upd g (16 + i) (g (0 + i)) (8 + i))) (32 + i) 0) (40 + i) 0
theorem b_hear {i n : Nat} {f : Nat → Int32} (hi : i < n) (hn : n ≤ 8) (h3 : f 3 = nI n) : B_X5_hearPlaces_16 (nI i) f = some (.inl (nI (i + 1), hrC i f)) := by
  unfold B_X5_hearPlaces_16 F_X5_sites
  rw [xb1, h3, if_neg (mt (nI_leI (a := n) (b := i) (by omega) (by omega)).mp (by omega)), bx_of (c := 0) (by rfl) (by omega) (by decide), xb1, bx_put (c := 2) (by rfl) (by omega) (by decide), xb1, bx_of (c := 1) (by rfl) (by omega) (by decide), xb1, bx_put (c := 3) (by rfl) (by omega) (by decide), xb1, bx_put (c := 4) (by rfl) (by omega) (by decide), xb1, bx_put (c := 5) (by rfl) (by omega) (by decide), xb1, bx_of (c := 0) (by rfl) (by omega) (by decide), xb1, xnm, bx_of (c := 1) (by rfl) (by omega) (by decide), xb1, xnm, nI_1]
  rfl
theorem m_hear {i n : Nat} {g : Nat → Int32} (hi : i < n) (hn : n ≤ 8) : B_X8_hearsAll_2 (nI n) (nI i) g = some (.inl (nI (i + 1), hrM i g)) := by
  unfold B_X8_hearsAll_2
  rw [if_neg (mt (nI_leI (a := n) (b := i) (by omega) (by omega)).mp (by omega))]
  simp only [bm_ix (A := (0 : Int32)) (a := 0) rfl (show 0 + i < 265 by omega), bm_ix (A := (8 : Int32)) (a := 8) rfl (show 8 + i < 265 by omega), bm_ix (A := (16 : Int32)) (a := 16) rfl (show 16 + i < 265 by omega), bm_ix (A := (24 : Int32)) (a := 24) rfl (show 24 + i < 265 by omega), bm_ix (A := (32 : Int32)) (a := 32) rfl (show 32 + i < 265 by omega), bm_ix (A := (40 : Int32)) (a := 40) rfl (show 40 + i < 265 by omega), bm_cl (A := (0 : Int32)) (a := 0) rfl (show 0 + i < 265 by omega), bm_cl (A := (8 : Int32)) (a := 8) rfl (show 8 + i < 265 by omega), bm_cl (A := (16 : Int32)) (a := 16) rfl (show 16 + i < 265 by omega), bm_cl (A := (24 : Int32)) (a := 24) rfl (show 24 + i < 265 by omega), bm_cl (A := (32 : Int32)) (a := 32) rfl (show 32 + i < 265 by omega), bm_cl (A := (40 : Int32)) (a := 40) rfl (show 40 + i < 265 by omega), xnm, nI_1]
  rfl
theorem hr_RB {n i : Nat} {f g : Nat → Int32} (h : RowB n f g) (hi : i < n) : RowB n (hrC i f) (hrM i g) := by
  have r1 := h.put (c := 2) hi (by decide) (f (17 + 8 * i + 0))
  have r2 := r1.put (c := 3) hi (by decide) (upd f (17 + 8 * i + 2) (f (17 + 8 * i + 0)) (17 + 8 * i + 1))
  have r3 := r2.put (c := 4) hi (by decide) 0
  have r4 := r3.put (c := 5) hi (by decide) 0
  have e1 : upd f (17 + 8 * i + 2) (f (17 + 8 * i + 0)) (17 + 8 * i + 1) = upd g (16 + i) (f (17 + 8 * i + 0)) (8 + i) := r1.st i 1 hi (by decide)
  have e0 : f (17 + 8 * i + 0) = g (0 + i) := h.st i 0 hi (by decide)
  have eM : hrM i g = upd (upd (upd (upd g (8 * 2 + i) (f (17 + 8 * i + 0))) (8 * 3 + i) (upd f (17 + 8 * i + 2) (f (17 + 8 * i + 0)) (17 + 8 * i + 1))) (8 * 4 + i) 0) (8 * 5 + i) 0 := by
    rw [e1, e0]
    rfl
  rw [eM]
  exact (r4.sums (Or.inl rfl) _).sums (Or.inr (Or.inl rfl)) _
def HrR (n : Nat) (g : Nat → Int32) (i : Nat) (s t : Int32 × (Nat → Int32)) : Prop := s.1 = nI i ∧ t.1 = nI i ∧ RowB n s.2 t.2 ∧ s.2 4 = sgm (fun k => t.2 (16 + k)) i ∧ s.2 5 = sgm (fun k => t.2 (24 + k)) i ∧ ∀ k, (k < 16 ∨ 48 ≤ k) → t.2 k = g k
theorem HrR.step {n i : Nat} {g : Nat → Int32} {s t : Int32 × (Nat → Int32)} (hi : i < n) (h : HrR n g i s t) : ∃ s' t', B_X5_hearPlaces_16 s.1 s.2 = some (.inl s') ∧ B_X8_hearsAll_2 (nI n) t.1 t.2 = some (.inl t') ∧ HrR n g (i + 1) s' t' := by
  obtain ⟨x, f⟩ := s
  obtain ⟨y, g1⟩ := t
  obtain ⟨e1, e2, hB, h4, h5, hg⟩ := h
  have e1 : x = nI i := e1
  have e2 : y = nI i := e2
  have hB : RowB n f g1 := hB
  have h4 : f 4 = sgm (fun k => g1 (16 + k)) i := h4
  have h5 : f 5 = sgm (fun k => g1 (24 + k)) i := h5
  subst e1 e2
  have n8 := hB.n8
  have e0 : f (17 + 8 * i + 0) = g1 (0 + i) := hB.st i 0 hi (by decide)
  have e8 : f (17 + 8 * i + 1) = g1 (8 + i) := hB.st i 1 hi (by decide)
  refine ⟨(nI (i + 1), hrC i f), (nI (i + 1), hrM i g1), b_hear hi n8 hB.sz, m_hear hi n8, rfl, rfl, hr_RB hB hi, ?_, ?_, ?_⟩
  · show hrC i f 4 = sgm (fun k => hrM i g1 (16 + k)) i + hrM i g1 (16 + i)
    have a1 : hrC i f 4 = f 4 + f (17 + 8 * i + 0) := by
      unfold hrC
      rw [upd_ne (by omega), upd_at]
      unfold hrW
      repeat rw [upd_ne (by omega)]
    have a2 : hrM i g1 (16 + i) = g1 (0 + i) := by
      unfold hrM
      rw [upd_ne (by omega), upd_ne (by omega), upd_ne (by omega), upd_at]
    have a3 : sgm (fun k => hrM i g1 (16 + k)) i = sgm (fun k => g1 (16 + k)) i := sgm_eq i (fun k hk => by
      show hrM i g1 (16 + k) = g1 (16 + k)
      unfold hrM
      repeat rw [upd_ne (by omega)])
    rw [a1, a2, a3, ← h4, e0]
  · show hrC i f 5 = sgm (fun k => hrM i g1 (24 + k)) i + hrM i g1 (24 + i)
    have a1 : hrC i f 5 = f 5 + f (17 + 8 * i + 1) := by
      unfold hrC
      rw [upd_at, upd_ne (by omega), upd_ne (by omega)]
      unfold hrW
      repeat rw [upd_ne (by omega)]
    have a2 : hrM i g1 (24 + i) = g1 (8 + i) := by
      unfold hrM
      rw [upd_ne (by omega), upd_ne (by omega), upd_at, upd_ne (by omega)]
    have a3 : sgm (fun k => hrM i g1 (24 + k)) i = sgm (fun k => g1 (24 + k)) i := sgm_eq i (fun k hk => by
      show hrM i g1 (24 + k) = g1 (24 + k)
      unfold hrM
      repeat rw [upd_ne (by omega)])
    rw [a1, a2, a3, ← h5, e8]
  · intro k hk
    show hrM i g1 k = g k
    unfold hrM
    rw [upd_ne (by omega), upd_ne (by omega), upd_ne (by omega), upd_ne (by omega)]
    exact hg k hk
theorem hp_both {n K : Nat} {f g : Nat → Int32} (hK : 200000 ≤ K) (h : RowB n f g) : ∃ f' g', F_X5_hearPlaces K f = some f' ∧ lpF (fun u9 : Int32 × (Nat → Int32) => B_X8_hearsAll_2 (nI n) u9.1 u9.2) K ((0 : Int32), g) = some g' ∧ RowR n f' g' ∧ ∀ k, (k < 16 ∨ 48 ≤ k) → g' k = g k := by
  have n8 := h.n8
  have he : ∀ s t, HrR n g n s t → ∃ r u, (fun u9 : Int32 × (Nat → Int32) => B_X5_hearPlaces_16 u9.1 u9.2) s = some (.inr r) ∧ (fun u9 : Int32 × (Nat → Int32) => B_X8_hearsAll_2 (nI n) u9.1 u9.2) t = some (.inr u) ∧ (RowR n r u ∧ ∀ k, (k < 16 ∨ 48 ≤ k) → u k = g k) := by
    intro s t q
    obtain ⟨x, f1⟩ := s
    obtain ⟨y, g1⟩ := t
    obtain ⟨e1, e2, hB, h4, h5, hg⟩ := q
    have e1 : x = nI n := e1
    have e2 : y = nI n := e2
    have hB : RowB n f1 g1 := hB
    subst e1 e2
    have le : nI n ≤ nI n := (nI_leI (a := n) (b := n) (by omega) (by omega)).mpr (Nat.le_refl _)
    refine ⟨f1, g1, ?_, ?_, ⟨hB, h4, h5⟩, hg⟩
    · show B_X5_hearPlaces_16 (nI n) f1 = _
      unfold B_X5_hearPlaces_16 F_X5_sites
      rw [xb1, show f1 3 = nI n from hB.sz, if_pos le]
    · show B_X8_hearsAll_2 (nI n) (nI n) g1 = _
      unfold B_X8_hearsAll_2
      rw [if_pos le]
  have h0 : HrR n g 0 ((0 : Int32), upd (upd f 4 0) 5 0) ((0 : Int32), g) := ⟨rfl, rfl, (h.sums (Or.inl rfl) 0).sums (Or.inr (Or.inl rfl)) 0, by show upd (upd f 4 0) 5 0 4 = 0; rw [upd_ne (by decide), upd_at], by show upd (upd f 4 0) 5 0 5 = 0; rw [upd_at], fun _ _ => rfl⟩
  obtain ⟨r, u, e1, e2, q1, q2⟩ := lp_two (HrR n g) (fun r u => RowR n r u ∧ ∀ k, (k < 16 ∨ 48 ≤ k) → u k = g k) (n := n) (K := K) (K' := K) (by omega) (by omega) (fun i s t hi q => Or.inl (HrR.step hi q)) he h0
  refine ⟨r, u, ?_, e2, q1, q2⟩
  unfold F_X5_hearPlaces
  rw [xnm, xnm, e1, xb1]
/-- all are heard -/
theorem ha_both {n K : Nat} {f g : Nat → Int32} (hK : 200000 ≤ K) (h : RowB n f g) (hl : ∃ a, a < 4 ∧ g 64 = nI a) : ∃ f' g', F_X5_hearAll K f = some f' ∧ F_X8_hearsAll K g (nI n) = some g' ∧ RowR n f' g' ∧ RowG g' ∧ ∀ k, (k < 16 ∨ 48 ≤ k) → ¬ k = 70 → ¬ k = 71 → ¬ k = 72 → g' k = g k := by
  have n8 := h.n8
  obtain ⟨f1, g1, e1, e2, hR, hg1⟩ := hp_both hK h
  have q14 : f1 14 = g1 70 := hR.sc (14, 70) (by decide)
  have R2 : RowR n (upd f1 14 (f1 14 + 1)) (upd g1 70 (g1 70 + 1)) := by
    rw [← q14]
    exact hR.scal (by decide) _
  have hl2 : ∃ a, a < 4 ∧ (upd g1 70 (g1 70 + 1)) 64 = nI a := by
    rw [upd_ne (by decide), hg1 64 (by omega)]
    exact hl
  have fr : ∀ k, (k < 16 ∨ 48 ≤ k) → ¬ k = 70 → upd g1 70 (g1 70 + 1) k = g k := fun k hk h7 => by
    rw [upd_ne h7]
    exact hg1 k hk
  unfold F_X5_hearAll F_X8_hearsAll
  rw [e1, xb1, xnm, e2, xb1, xnm]
  generalize upd f1 14 (f1 14 + 1) = f2 at R2 ⊢
  generalize upd g1 70 (g1 70 + 1) = g2 at R2 hl2 fr ⊢
  have e16 : F_X8_sum K (16 : Int32) g2 (nI n) = some (f2 4) := by rw [R2.sx]; exact bm_sum hK n8 (b := 16) (by decide)
  have e24 : F_X8_sum K (24 : Int32) g2 (nI n) = some (f2 5) := by rw [R2.sy]; exact bm_sum hK n8 (b := 24) (by decide)
  have ea : F_X5_allows (f2 4).toInt64 (f2 5).toInt64 f2 = F_X8_isAllowed (f2 4) (f2 5) g2 := by
    obtain ⟨a, ha, e⟩ := hl2
    unfold F_X5_allows F_X8_isAllowed
    rw [val_both ha ((R2.sc (0, 64) (by decide)).trans e) e, show f2 1 = g2 65 from R2.sc (1, 65) (by decide)]
  obtain ⟨v, ev, -⟩ := u_isAllowed (p1 := f2 4) (p2 := f2 5) (g := g2)
  rw [e16, xb1, e24, xb1, ea, ev, xb1, xb1]
  have q15 : f2 15 = g2 71 := R2.sc (15, 71) (by decide)
  have q6 : f2 6 = g2 72 := R2.sc (6, 72) (by decide)
  have fin : ∀ k0 : Int32, (k0 = 0 ∨ k0 = 1) → ∃ f' g', J_X5_hearAll_41 k0 f2 = some f' ∧ J_X8_hearsAll_106 k0 g2 = some g' ∧ RowR n f' g' ∧ RowG g' ∧ ∀ k, (k < 16 ∨ 48 ≤ k) → ¬ k = 70 → ¬ k = 71 → ¬ k = 72 → g' k = g k := by
    intro k0 hk0
    unfold J_X5_hearAll_41 J_X8_hearsAll_106
    rw [q6]
    by_cases c : k0 = g2 72
    · rw [if_pos c, if_pos c, xnm, xnm, xnm, Int32.add_zero, row_self]
      refine ⟨_, _, rfl, rfl, R2.scal (by decide) k0, ⟨?_, ?_⟩, ?_⟩
      · rw [upd_ne (by decide)]
        exact hl2
      · rw [upd_at]
        exact hk0
      · intro k a1 a2 a3 a4
        rw [upd_ne a4]
        exact fr k a1 a2
    · rw [if_neg c, if_neg c, xnm, xnm, xnm, xnm, q15]
      refine ⟨_, _, rfl, rfl, (R2.scal (a := 15) (b := 71) (by decide) (g2 71 + 1)).scal (by decide) k0, ⟨?_, ?_⟩, ?_⟩
      · rw [upd_ne (by decide), upd_ne (by decide)]
        exact hl2
      · rw [upd_at]
        exact hk0
      · intro k a1 a2 a3 a4
        rw [upd_ne a4, upd_ne a3]
        exact fr k a1 a2
  by_cases c : v = 0
  · rw [if_pos c, if_pos c]
    exact fin 1 (Or.inr rfl)
  · rw [if_neg c, if_neg c]
    exact fin 0 (Or.inl rfl)
end
-- 83c.04
section
/-! Stage B, 4: the counts start anew, a round ends, in both -/
abbrev StB (n : Nat) (f g : Nat → Int32) : Prop := ∀ i c, i < n → c < 8 → f (17 + 8 * i + c) = g (8 * c + i)
theorem StB.put {n i c : Nat} {f g : Nat → Int32} (h : StB n f g) (n8 : n ≤ 8) (hi : i < n) (hc : c < 8) (v : Int32) : StB n (upd f (17 + 8 * i + c) v) (upd g (8 * c + i) v) := by
  intro j d hj hd
  by_cases e : j = i ∧ d = c
  · obtain ⟨e1, e2⟩ := e
    rw [e1, e2, upd_at, upd_at]
  · rw [upd_ne (by omega), upd_ne (by omega)]; exact h j d hj hd
theorem StB.low {n a : Nat} {f g : Nat → Int32} (h : StB n f g) (ha : a < 17) (v : Int32) : StB n (upd f a v) g := fun j d hj hd => by
  rw [upd_ne (by omega)]; exact h j d hj hd
theorem StB.high {n b : Nat} {f g : Nat → Int32} (h : StB n f g) (n8 : n ≤ 8) (hb : 64 ≤ b) (v : Int32) : StB n f (upd g b v) := fun j d hj hd => by
  rw [upd_ne (by omega)]; exact h j d hj hd
theorem RowR.of {n : Nat} {f g f' g' : Nat → Int32} (h : RowR n f g) (h1 : StB n f' g') (h2 : f' 3 = f 3) (h3 : ∀ p ∈ rowScl, f' p.1 = g' p.2) (h4 : f' 4 = f 4) (h5 : f' 5 = f 5) (h7 : f' 7 = f 7) (h8 : ∀ i, i < 8 → g' (76 + i) = g (76 + i)) (h9 : ∀ k, 16 ≤ k → k < 32 → g' k = g k) : RowR n f' g' := by
  have n8 := h.n8
  refine ⟨⟨n8, h2.trans h.sz, h1, h3, ?_⟩, ?_, ?_⟩
  · rw [h7, h.toRowB.fr]
    exact row_frz_eq n (fun k hk => (h8 k (by omega)).symm)
  · rw [h4, h.sx]
    exact sgm_eq n (fun k hk => (h9 (16 + k) (by omega) (by omega)).symm)
  · rw [h5, h.sy]
    exact sgm_eq n (fun k hk => (h9 (24 + k) (by omega) (by omega)).symm)
theorem rowScl_11 : ∀ p ∈ rowScl, ¬ p.1 = 11 ∧ ¬ p.2 = 67 := by decide
/-- the messages stand beside that -/
theorem RowR.fr11 {n : Nat} {f g : Nat → Int32} (h : RowR n f g) (v w : Int32) : RowR n (upd f 11 v) (upd g 67 w) := by
  have n8 := h.n8
  refine h.of (fun i c hi hc => ?_) (upd_ne (by decide)) (fun p hp => ?_) (upd_ne (by decide)) (upd_ne (by decide)) (upd_ne (by decide)) (fun i hi => upd_ne (by omega)) (fun k a b => upd_ne (by omega))
  · rw [upd_ne (by omega), upd_ne (by omega)]
    exact h.toRowB.st i c hi hc
  · obtain ⟨a, b⟩ := rowScl_11 p hp
    rw [upd_ne a, upd_ne b]
    exact h.sc p hp
theorem b_goal {i n : Nat} {f : Nat → Int32} (hi : i < n) (hn : n ≤ 8) (h3 : f 3 = nI n) : B_X5_startCounts_33 (nI i) f = some (.inl (nI (i + 1), upd (upd f (17 + 8 * i + 6) 0) (17 + 8 * i + 7) 0)) := by
  unfold B_X5_startCounts_33 F_X5_sites
  rw [xb1, h3, if_neg (mt (nI_leI (a := n) (b := i) (by omega) (by omega)).mp (by omega)), bx_put (c := 6) (by rfl) (by omega) (by decide), xb1, bx_put (c := 7) (by rfl) (by omega) (by decide), xb1, nI_1]
theorem m_goal {i n : Nat} {g : Nat → Int32} (hi : i < n) (hn : n ≤ 8) : B_X8_setsGoal_18 (nI n) (nI i) g = some (.inl (nI (i + 1), upd (upd g (48 + i) 0) (56 + i) 0)) := by
  unfold B_X8_setsGoal_18
  rw [if_neg (mt (nI_leI (a := n) (b := i) (by omega) (by omega)).mp (by omega))]
  simp only [bm_ix (A := (48 : Int32)) (a := 48) rfl (show 48 + i < 265 by omega), bm_ix (A := (56 : Int32)) (a := 56) rfl (show 56 + i < 265 by omega), bm_cl (A := (48 : Int32)) (a := 48) rfl (show 48 + i < 265 by omega), bm_cl (A := (56 : Int32)) (a := 56) rfl (show 56 + i < 265 by omega), xnm, nI_1]
def GoR (n : Nat) (f g : Nat → Int32) (i : Nat) (s t : Int32 × (Nat → Int32)) : Prop := s.1 = nI i ∧ t.1 = nI i ∧ StB n s.2 t.2 ∧ (∀ k, k < 17 → s.2 k = f k) ∧ (∀ k, (k < 48 ∨ 64 ≤ k) → t.2 k = g k) ∧ ∀ j, j < i → t.2 (48 + j) = 0 ∧ t.2 (56 + j) = 0
theorem GoR.step {n i : Nat} {f g : Nat → Int32} {s t : Int32 × (Nat → Int32)} (n8 : n ≤ 8) (h3 : f 3 = nI n) (hi : i < n) (h : GoR n f g i s t) : ∃ s' t', B_X5_startCounts_33 s.1 s.2 = some (.inl s') ∧ B_X8_setsGoal_18 (nI n) t.1 t.2 = some (.inl t') ∧ GoR n f g (i + 1) s' t' := by
  obtain ⟨x, f1⟩ := s
  obtain ⟨y, g1⟩ := t
  obtain ⟨e1, e2, hB, hf, hg, hz⟩ := h
  have e1 : x = nI i := e1
  have e2 : y = nI i := e2
  have hB : StB n f1 g1 := hB
  subst e1 e2
  refine ⟨_, _, b_goal hi n8 ((hf 3 (by decide)).trans h3), m_goal hi n8, rfl, rfl, (hB.put (c := 6) n8 hi (by decide) 0).put (c := 7) n8 hi (by decide) 0, ?_, ?_, ?_⟩
  · intro k hk
    show upd (upd f1 (17 + 8 * i + 6) 0) (17 + 8 * i + 7) 0 k = f k
    rw [upd_ne (by omega), upd_ne (by omega)]
    exact hf k hk
  · intro k hk
    show upd (upd g1 (48 + i) 0) (56 + i) 0 k = g k
    rw [upd_ne (by omega), upd_ne (by omega)]
    exact hg k hk
  · intro j hj
    show upd (upd g1 (48 + i) 0) (56 + i) 0 (48 + j) = 0 ∧ upd (upd g1 (48 + i) 0) (56 + i) 0 (56 + j) = 0
    by_cases c : j = i
    · rw [c, upd_ne (by omega), upd_at, upd_at]
      exact ⟨rfl, rfl⟩
    · rw [upd_ne (by omega), upd_ne (by omega), upd_ne (by omega), upd_ne (by omega)]
      exact hz j (by omega)
/-- a new goal -/
theorem sg_both {n K : Nat} {f g : Nat → Int32} {p : Int32} (hK : 200000 ≤ K) (h : RowR n f g) : ∃ f' g', F_X5_startCounts K p f = some f' ∧ F_X8_setsGoal K p g (nI n) = some (g 66, g') ∧ RowR n f' g' ∧ (∀ k, (k < 48 ∨ 64 ≤ k) → ¬ k = 66 → ¬ k = 73 → ¬ k = 74 → ¬ k = 75 → g' k = g k) ∧ g' 66 = p ∧ g' 73 = 0 ∧ g' 75 = 0 ∧ ∀ j, j < n → g' (48 + j) = 0 ∧ g' (56 + j) = 0 := by
  have n8 := h.n8
  have z3 : (upd (upd (upd (upd f 2 p) 8 0) 9 0) 10 0) 3 = nI n := by
    rw [upd_ne (by decide), upd_ne (by decide), upd_ne (by decide), upd_ne (by decide)]
    exact h.sz
  have he : ∀ s t, GoR n (upd (upd (upd (upd f 2 p) 8 0) 9 0) 10 0) (upd g 66 p) n s t → ∃ r u, (fun u9 : Int32 × (Nat → Int32) => B_X5_startCounts_33 u9.1 u9.2) s = some (.inr r) ∧ (fun u9 : Int32 × (Nat → Int32) => B_X8_setsGoal_18 (nI n) u9.1 u9.2) t = some (.inr u) ∧ GoR n (upd (upd (upd (upd f 2 p) 8 0) 9 0) 10 0) (upd g 66 p) n (nI n, r) (nI n, u) := by
    intro s t q
    obtain ⟨x, f1⟩ := s
    obtain ⟨y, g1⟩ := t
    obtain ⟨e1, e2, hB, hf, hg, hz⟩ := q
    have e1 : x = nI n := e1
    have e2 : y = nI n := e2
    subst e1 e2
    have le : nI n ≤ nI n := (nI_leI (a := n) (b := n) (by omega) (by omega)).mpr (Nat.le_refl _)
    refine ⟨f1, g1, ?_, ?_, rfl, rfl, hB, hf, hg, hz⟩
    · show B_X5_startCounts_33 (nI n) f1 = _
      unfold B_X5_startCounts_33 F_X5_sites
      rw [xb1, show f1 3 = nI n from (hf 3 (by decide)).trans z3, if_pos le]
    · show B_X8_setsGoal_18 (nI n) (nI n) g1 = _
      unfold B_X8_setsGoal_18
      rw [if_pos le]
  have h0 : GoR n (upd (upd (upd (upd f 2 p) 8 0) 9 0) 10 0) (upd g 66 p) 0 ((0 : Int32), upd (upd (upd (upd f 2 p) 8 0) 9 0) 10 0) ((0 : Int32), upd g 66 p) := ⟨rfl, rfl, ((((StB.low h.toRowB.st (by decide) p).low (by decide) 0).low (by decide) 0).low (by decide) 0).high n8 (by decide) p, fun _ _ => rfl, fun _ _ => rfl, fun j hj => absurd hj (Nat.not_lt_zero _)⟩
  obtain ⟨r, u, e1, e2, -, -, hB, hf, hg, hz⟩ := lp_two (GoR n (upd (upd (upd (upd f 2 p) 8 0) 9 0) 10 0) (upd g 66 p)) (fun r u => GoR n (upd (upd (upd (upd f 2 p) 8 0) 9 0) 10 0) (upd g 66 p) n (nI n, r) (nI n, u)) (n := n) (K := K) (K' := K) (by omega) (by omega) (fun i s t hi q => Or.inl (GoR.step n8 z3 hi q)) he h0
  have hB : StB n r u := hB
  have hf : ∀ k, k < 17 → r k = (upd (upd (upd (upd f 2 p) 8 0) 9 0) 10 0) k := hf
  have hg : ∀ k, (k < 48 ∨ 64 ≤ k) → u k = (upd g 66 p) k := hg
  have hz : ∀ j, j < n → u (48 + j) = 0 ∧ u (56 + j) = 0 := hz
  have fx : ∀ k, k < 17 → ¬ k = 2 → ¬ k = 8 → ¬ k = 9 → ¬ k = 10 → r k = f k := fun k hk a1 a2 a3 a4 => by
    rw [hf k hk, upd_ne a4, upd_ne a3, upd_ne a2, upd_ne a1]
  have gx : ∀ k, (k < 48 ∨ 64 ≤ k) → ¬ k = 66 → ¬ k = 73 → ¬ k = 74 → ¬ k = 75 → (upd (upd (upd u 73 0) 74 0) 75 0) k = g k := fun k hk a1 a2 a3 a4 => by
    rw [upd_ne a4, upd_ne a3, upd_ne a2, hg k hk, upd_ne a1]
  have g66 : (upd (upd (upd u 73 0) 74 0) 75 0) 66 = p := by rw [upd_ne (by decide), upd_ne (by decide), upd_ne (by decide), hg 66 (by omega), upd_at]
  have g73 : (upd (upd (upd u 73 0) 74 0) 75 0) 73 = 0 := by rw [upd_ne (by decide), upd_ne (by decide), upd_at]
  have g74 : (upd (upd (upd u 73 0) 74 0) 75 0) 74 = 0 := by rw [upd_ne (by decide), upd_at]
  have g75 : (upd (upd (upd u 73 0) 74 0) 75 0) 75 = 0 := upd_at
  refine ⟨r, upd (upd (upd u 73 0) 74 0) 75 0, ?_, ?_, h.of (((hB.high n8 (by decide) 0).high n8 (by decide) 0).high n8 (by decide) 0) (fx 3 (by decide) (by decide) (by decide) (by decide) (by decide)) ?_ (fx 4 (by decide) (by decide) (by decide) (by decide) (by decide)) (fx 5 (by decide) (by decide) (by decide) (by decide) (by decide)) (fx 7 (by decide) (by decide) (by decide) (by decide) (by decide)) (fun i hi => gx (76 + i) (by omega) (by omega) (by omega) (by omega) (by omega)) (fun k a b => gx k (by omega) (by omega) (by omega) (by omega) (by omega)), gx, g66, g73, g75, ?_⟩
  · unfold F_X5_startCounts
    rw [xnm, xnm, xnm, xnm, e1, xb1]
  · unfold F_X8_setsGoal
    rw [xnm, e2, xb1, xnm, xnm, xnm]
  · intro q hq
    obtain ⟨b1, b2, b3, b4, b5, b6, b7⟩ := rowScl_b q hq
    have u2 := rowScl_u q hq (2, 66) (by decide)
    have u8 := rowScl_u q hq (8, 73) (by decide)
    have u9 := rowScl_u q hq (9, 75) (by decide)
    have u10 := rowScl_u q hq (10, 74) (by decide)
    by_cases c2 : q.1 = 2
    · rw [c2, show q.2 = 66 from u2.mp c2, g66, hf 2 (by decide), upd_ne (by decide), upd_ne (by decide), upd_ne (by decide), upd_at]
    by_cases c8 : q.1 = 8
    · rw [c8, show q.2 = 73 from u8.mp c8, g73, hf 8 (by decide), upd_ne (by decide), upd_ne (by decide), upd_at]
    by_cases c9 : q.1 = 9
    · rw [c9, show q.2 = 75 from u9.mp c9, g75, hf 9 (by decide), upd_ne (by decide), upd_at]
    by_cases c10 : q.1 = 10
    · rw [c10, show q.2 = 74 from u10.mp c10, g74, hf 10 (by decide), upd_at]
    rw [fx q.1 b1 c2 c8 c9 c10, gx q.2 (Or.inr b6) (fun z => c2 (u2.mpr z)) (fun z => c8 (u8.mpr z)) (fun z => c10 (u10.mpr z)) (fun z => c9 (u9.mpr z))]
    exact h.sc q hq
  · intro j hj
    rw [upd_ne (by omega), upd_ne (by omega), upd_ne (by omega), upd_ne (by omega), upd_ne (by omega), upd_ne (by omega)]
    exact hz j hj
end
-- 83c.05
section
/-! Stage B, 5: a round ends, in both; two loops in step whose second may go on a while -/
theorem lp_twoXA {σ τ ρ υ : Type} {b : σ → Option (σ ⊕ ρ)} {d : τ → Option (τ ⊕ υ)} (R : Nat → σ → τ → Prop) (Q : ρ → υ → Prop) {n : Nat} (hs : ∀ i s t, i ≤ n → R i s t → (i < n ∧ ∃ s' t', b s = some (.inl s') ∧ d t = some (.inl t') ∧ R (i + 1) s' t') ∨ (∃ r u, b s = some (.inr r) ∧ (∀ J, 2 ≤ J → lpF d J t = some u) ∧ Q r u)) : ∀ (k i : Nat) (s : σ) (t : τ) (K K' : Nat), i + k = n → k < K → k + 1 < K' → R i s t → ∃ r u, lpF b K s = some r ∧ lpF d K' t = some u ∧ Q r u := by
  intro k
  induction k with
  | zero =>
    intro i s t K K' h1 h2 h3 h4
    obtain ⟨K2, rfl⟩ : ∃ K2, K = K2 + 1 := ⟨K - 1, by omega⟩
    rcases hs i s t (by omega) h4 with ⟨hlt, -⟩ | ⟨r, u, e1, e2, q⟩
    · omega
    · exact ⟨r, u, lp_end e1, e2 K' (by omega), q⟩
  | succ k ih =>
    intro i s t K K' h1 h2 h3 h4
    obtain ⟨K2, rfl⟩ : ∃ K2, K = K2 + 1 := ⟨K - 1, by omega⟩
    rcases hs i s t (by omega) h4 with ⟨-, s', t', e1, e2, q⟩ | ⟨r, u, e1, e2, q⟩
    · obtain ⟨K3, rfl⟩ : ∃ K3, K' = K3 + 1 := ⟨K' - 1, by omega⟩
      rw [lp_one e1, lp_one e2]
      exact ih (i + 1) s' t' K2 K3 (by omega) (by omega) (by omega) q
    · exact ⟨r, u, lp_end e1, e2 K' (by omega), q⟩
theorem bb_end {i n : Nat} {f : Nat → Int32} (hi : i < n) (hn : n ≤ 8) (h3 : f 3 = nI n) : B_X5_endRound_34 (nI i) f = some (.inl (nI (i + 1), upd f (17 + 8 * i + 7) 0)) := by
  unfold B_X5_endRound_34 F_X5_sites
  rw [xb1, h3, if_neg (mt (nI_leI (a := n) (b := i) (by omega) (by omega)).mp (by omega)), bx_put (c := 7) (by rfl) (by omega) (by decide), xb1, nI_1]
theorem bm_end {i n : Nat} {g : Nat → Int32} (hi : i < n) (hn : n ≤ 8) : B_X8_endsRound_15 (nI n) (nI i) g = some (.inl (nI (i + 1), upd g (56 + i) 0)) := by
  unfold B_X8_endsRound_15
  rw [if_neg (mt (nI_leI (a := n) (b := i) (by omega) (by omega)).mp (by omega))]
  simp only [bm_ix (A := (56 : Int32)) (a := 56) rfl (show 56 + i < 265 by omega), bm_cl (A := (56 : Int32)) (a := 56) rfl (show 56 + i < 265 by omega), xnm, nI_1]
def EnR (n : Nat) (f g : Nat → Int32) (i : Nat) (s t : Int32 × (Nat → Int32)) : Prop := s.1 = nI i ∧ t.1 = nI i ∧ StB n s.2 t.2 ∧ (∀ k, k < 17 → s.2 k = f k) ∧ (∀ k, (k < 56 ∨ 64 ≤ k) → t.2 k = g k) ∧ ∀ j, j < i → t.2 (56 + j) = 0
theorem EnR.step {n i : Nat} {f g : Nat → Int32} {s t : Int32 × (Nat → Int32)} (n8 : n ≤ 8) (h3 : f 3 = nI n) (hi : i < n) (h : EnR n f g i s t) : ∃ s' t', B_X5_endRound_34 s.1 s.2 = some (.inl s') ∧ B_X8_endsRound_15 (nI n) t.1 t.2 = some (.inl t') ∧ EnR n f g (i + 1) s' t' := by
  obtain ⟨x, f1⟩ := s
  obtain ⟨y, g1⟩ := t
  obtain ⟨e1, e2, hB, hf, hg, hz⟩ := h
  have e1 : x = nI i := e1
  have e2 : y = nI i := e2
  have hB : StB n f1 g1 := hB
  subst e1 e2
  refine ⟨_, _, bb_end hi n8 ((hf 3 (by decide)).trans h3), bm_end hi n8, rfl, rfl, hB.put (c := 7) n8 hi (by decide) 0, ?_, ?_, ?_⟩
  · intro k hk
    show upd f1 (17 + 8 * i + 7) 0 k = f k
    rw [upd_ne (by omega)]
    exact hf k hk
  · intro k hk
    show upd g1 (56 + i) 0 k = g k
    rw [upd_ne (by omega)]
    exact hg k hk
  · intro j hj
    show upd g1 (56 + i) 0 (56 + j) = 0
    by_cases c : j = i
    · rw [c, upd_at]
    · rw [upd_ne (by omega)]
      exact hz j (by omega)
theorem EnR.both {n K : Nat} {f g : Nat → Int32} (hK : 200000 ≤ K) (n8 : n ≤ 8) (h3 : f 3 = nI n) (h : StB n f g) : ∃ r u, lpF (fun u9 : Int32 × (Nat → Int32) => B_X5_endRound_34 u9.1 u9.2) K ((0 : Int32), f) = some r ∧ lpF (fun u9 : Int32 × (Nat → Int32) => B_X8_endsRound_15 (nI n) u9.1 u9.2) K ((0 : Int32), g) = some u ∧ StB n r u ∧ (∀ k, k < 17 → r k = f k) ∧ (∀ k, (k < 56 ∨ 64 ≤ k) → u k = g k) ∧ ∀ j, j < n → u (56 + j) = 0 := by
  have he : ∀ s t, EnR n f g n s t → ∃ r u, (fun u9 : Int32 × (Nat → Int32) => B_X5_endRound_34 u9.1 u9.2) s = some (.inr r) ∧ (fun u9 : Int32 × (Nat → Int32) => B_X8_endsRound_15 (nI n) u9.1 u9.2) t = some (.inr u) ∧ (StB n r u ∧ (∀ k, k < 17 → r k = f k) ∧ (∀ k, (k < 56 ∨ 64 ≤ k) → u k = g k) ∧ ∀ j, j < n → u (56 + j) = 0) := by
    intro s t q
    obtain ⟨x, f1⟩ := s
    obtain ⟨y, g1⟩ := t
    obtain ⟨e1, e2, hB, hf, hg, hz⟩ := q
    have e1 : x = nI n := e1
    have e2 : y = nI n := e2
    subst e1 e2
    have le : nI n ≤ nI n := (nI_leI (a := n) (b := n) (by omega) (by omega)).mpr (Nat.le_refl _)
    refine ⟨f1, g1, ?_, ?_, hB, hf, hg, hz⟩
    · show B_X5_endRound_34 (nI n) f1 = _
      unfold B_X5_endRound_34 F_X5_sites
      rw [xb1, show f1 3 = nI n from (hf 3 (by decide)).trans h3, if_pos le]
    · show B_X8_endsRound_15 (nI n) (nI n) g1 = _
      unfold B_X8_endsRound_15
      rw [if_pos le]
  have h0 : EnR n f g 0 ((0 : Int32), f) ((0 : Int32), g) := ⟨rfl, rfl, h, fun _ _ => rfl, fun _ _ => rfl, fun j hj => absurd hj (Nat.not_lt_zero _)⟩
  exact lp_two (EnR n f g) (fun r u => StB n r u ∧ (∀ k, k < 17 → r k = f k) ∧ (∀ k, (k < 56 ∨ 64 ≤ k) → u k = g k) ∧ ∀ j, j < n → u (56 + j) = 0) (n := n) (K := K) (K' := K) (by omega) (by omega) (fun i s t hi q => Or.inl (EnR.step n8 h3 hi q)) he h0
/-- a round ends -/
theorem er_both {n K : Nat} {f g : Nat → Int32} (hK : 200000 ≤ K) (h : RowR n f g) : ∃ f' g', F_X5_endRound K f = some f' ∧ F_X8_endsRound K g (nI n) = some g' ∧ RowR n f' g' ∧ (∀ k, (k < 56 ∨ 64 ≤ k) → ¬ k = 73 → ¬ k = 74 → ¬ k = 75 → g' k = g k) ∧ g' 73 = sgm (fun i => g (48 + i)) n ∧ g' 75 = 0 ∧ ∀ j, j < n → g' (56 + j) = 0 := by
  have n8 := h.n8
  have eS : sgm (fun i => f (17 + 8 * i + 6)) n = sgm (fun i => g (48 + i)) n := sgm_eq n (fun i hi => h.toRowB.st i 6 hi (by decide))
  have t6 : F_X5_total K (6 : Int32) f = some (sgm (fun i => g (48 + i)) n) := by rw [← eS]; exact b_total hK n8 h.sz (c := 6) (by decide)
  have t48 : F_X8_sum K (48 : Int32) g (nI n) = some (sgm (fun i => g (48 + i)) n) := bm_sum hK n8 (b := 48) (by decide)
  unfold F_X5_endRound F_X8_endsRound
  rw [t6, xb1, xnm, xnm, xnm, t48, xb1, xnm]
  generalize sgm (fun i => g (48 + i)) n = S
  have q10 : (upd (upd f 8 S) 9 0) 10 = f 10 := by rw [upd_ne (by decide), upd_ne (by decide)]
  rw [q10]
  have z3 : (upd (upd (upd f 8 S) 9 0) 10 (f 10 + 1)) 3 = nI n := by
    rw [upd_ne (by decide), upd_ne (by decide), upd_ne (by decide)]
    exact h.sz
  obtain ⟨r, u, e1, e2, hB, hf, hg, hz⟩ := EnR.both hK n8 z3 ((((StB.low h.toRowB.st (by decide) S).low (by decide) 0).low (by decide) (f 10 + 1)).high n8 (b := 73) (by decide) S)
  have fx : ∀ k, k < 17 → ¬ k = 8 → ¬ k = 9 → ¬ k = 10 → r k = f k := fun k hk a2 a3 a4 => by
    rw [hf k hk, upd_ne a4, upd_ne a3, upd_ne a2]
  have q74 : (upd u 75 0) 74 = g 74 := by rw [upd_ne (by decide), hg 74 (by omega), upd_ne (by decide)]
  rw [e1, xb1, e2, xb1, xnm, xnm, q74]
  have gx : ∀ k, (k < 56 ∨ 64 ≤ k) → ¬ k = 73 → ¬ k = 74 → ¬ k = 75 → (upd (upd u 75 0) 74 (g 74 + 1)) k = g k := fun k hk a2 a3 a4 => by
    rw [upd_ne a3, upd_ne a4, hg k hk, upd_ne a2]
  have g73 : (upd (upd u 75 0) 74 (g 74 + 1)) 73 = S := by rw [upd_ne (by decide), upd_ne (by decide), hg 73 (by omega), upd_at]
  have g74 : (upd (upd u 75 0) 74 (g 74 + 1)) 74 = g 74 + 1 := upd_at
  have g75 : (upd (upd u 75 0) 74 (g 74 + 1)) 75 = 0 := by rw [upd_ne (by decide), upd_at]
  refine ⟨r, _, rfl, rfl, h.of ((hB.high n8 (by decide) 0).high n8 (by decide) (g 74 + 1)) (fx 3 (by decide) (by decide) (by decide) (by decide)) ?_ (fx 4 (by decide) (by decide) (by decide) (by decide)) (fx 5 (by decide) (by decide) (by decide) (by decide)) (fx 7 (by decide) (by decide) (by decide) (by decide)) (fun i hi => gx (76 + i) (by omega) (by omega) (by omega) (by omega)) (fun k a b => gx k (by omega) (by omega) (by omega) (by omega)), gx, g73, g75, ?_⟩
  · intro q hq
    obtain ⟨b1, b2, b3, b4, b5, b6, b7⟩ := rowScl_b q hq
    have u8 := rowScl_u q hq (8, 73) (by decide)
    have u9 := rowScl_u q hq (9, 75) (by decide)
    have u10 := rowScl_u q hq (10, 74) (by decide)
    by_cases c8 : q.1 = 8
    · rw [c8, show q.2 = 73 from u8.mp c8, g73, hf 8 (by decide), upd_ne (by decide), upd_ne (by decide), upd_at]
    by_cases c9 : q.1 = 9
    · rw [c9, show q.2 = 75 from u9.mp c9, g75, hf 9 (by decide), upd_ne (by decide), upd_at]
    by_cases c10 : q.1 = 10
    · rw [c10, show q.2 = 74 from u10.mp c10, g74, hf 10 (by decide), upd_at, show f 10 = g 74 from h.sc (10, 74) (by decide)]
    rw [fx q.1 b1 c8 c9 c10, gx q.2 (Or.inr b6) (fun z => c8 (u8.mpr z)) (fun z => c10 (u10.mpr z)) (fun z => c9 (u9.mpr z))]
    exact h.sc q hq
  · intro j hj
    rw [upd_ne (by omega), upd_ne (by omega)]
    exact hz j hj
end
-- 83c.06
section
/-! Stage B, 6: the step of a round, and who is frozen, in both -/
theorem cs_step {n a b : Nat} {f g : Nat → Int32} (h0 : 0 < n) (h : RowR n f g) (ha : a < 2 ^ 30) (hb : b < 2 ^ 30) (e66 : g 66 = nI a) (e73 : g 73 = nI b) : F_X5_stepFrom (f 8) f = some (nI (st n g)) := by
  have n8 := h.n8
  have f2 : f 2 = nI a := (h.sc (2, 66) (by decide)).trans e66
  have f8 : f 8 = nI b := (h.sc (8, 73) (by decide)).trans e73
  have e2 : (2 : Int32) * nI n = nI (2 * n) := by rw [show (2 : Int32) = nI 2 from rfl, nI_mul]
  have es : (nI a - nI b).toInt = (a : Int) - b := pk_sub_toInt ha hb
  have est : st n g = (a - b) / (2 * n) := by
    unfold st
    rw [e66, e73, es, show ((a : Int) - b).toNat = a - b by omega]
  have enz : ¬ nI (2 * n) = 0 := fun e => by
    have := (nI_eq (a := 2 * n) (b := 0) (by omega) (by omega)).mp e
    omega
  unfold F_X5_stepFrom
  rw [h.sz, f2, f8, e2, if_neg (show ¬ nI (2 * n) ≤ (0 : Int32) from mt (nI_leI (a := 2 * n) (b := 0) (by omega) (by omega)).mp (by omega))]
  by_cases c : b < a
  · have ed : nI (a - b) / nI (2 * n) = nI ((a - b) / (2 * n)) := (Int32.ofNat_div (by omega) (by omega)).symm
    rw [if_pos ((nI_ltI (a := b) (b := a) (by omega) (by omega)).mpr c), xsub (by omega), est]
    unfold nzI
    rw [if_neg enz, ed]
  · rw [if_neg (mt (nI_ltI (a := b) (b := a) (by omega) (by omega)).mp c), est, show a - b = 0 by omega, Nat.zero_div]
    rfl
/-- the frozen ones as a number -/
def row_mk (g : Nat → Int32) : Nat → Nat
  | 0 => 0
  | k + 1 => row_mk g k + (if g (76 + k) = 1 then 2 ^ k else 0)
theorem row_mk_lt {g : Nat → Int32} : ∀ n, row_mk g n < 2 ^ n := by
  intro n
  induction n with
  | zero => exact Nat.one_pos
  | succ k ih =>
    show row_mk g k + (if g (76 + k) = 1 then 2 ^ k else 0) < 2 ^ (k + 1)
    rw [Nat.pow_succ]
    split <;> omega
theorem bit_or : ∀ k, k < 8 → ∀ m, m < 2 ^ k → nI m ||| ((1 : Int32) <<< (nI k &&& 31)) = nI (m + 2 ^ k) := by decide +kernel
theorem bit_at : ∀ m, m < 256 → ∀ k, k < 8 → (nI m >>> (nI k &&& 31)) &&& 1 = nI (m / 2 ^ k % 2) := by decide +kernel
theorem bit_up : ∀ k, k < 8 → ∀ m, m < 2 ^ k → (∀ i, i < k → (m + 2 ^ k) / 2 ^ i % 2 = m / 2 ^ i % 2) ∧ m / 2 ^ k % 2 = 0 ∧ (m + 2 ^ k) / 2 ^ k % 2 = 1 := by decide +kernel
theorem row_frz_mk {g : Nat → Int32} : ∀ n, n ≤ 8 → row_frz g n = nI (row_mk g n) := by
  intro n
  induction n with
  | zero => exact fun _ => rfl
  | succ k ih =>
    intro hk
    show row_frz g k ||| (if g (76 + k) = 1 then (1 : Int32) <<< (nI k &&& 31) else 0) = nI (row_mk g k + (if g (76 + k) = 1 then 2 ^ k else 0))
    rw [ih (by omega)]
    by_cases c : g (76 + k) = 1
    · rw [if_pos c, if_pos c]
      exact bit_or k (by omega) _ (row_mk_lt k)
    · rw [if_neg c, if_neg c, Int32.or_zero, Nat.add_zero]
theorem row_mk_at {g : Nat → Int32} : ∀ n, n ≤ 8 → ∀ i, i < n → row_mk g n / 2 ^ i % 2 = if g (76 + i) = 1 then 1 else 0 := by
  intro n
  induction n with
  | zero => exact fun _ i hi => absurd hi (Nat.not_lt_zero _)
  | succ k ih =>
    intro hk i hi
    obtain ⟨u1, u2, u3⟩ := bit_up k (by omega) (row_mk g k) (row_mk_lt k)
    show (row_mk g k + (if g (76 + k) = 1 then 2 ^ k else 0)) / 2 ^ i % 2 = _
    by_cases e : i = k
    · rw [e]
      by_cases c : g (76 + k) = 1
      · rw [if_pos c, if_pos c, u3]
      · rw [if_neg c, if_neg c, Nat.add_zero, u2]
    · have hik : i < k := by omega
      by_cases c : g (76 + k) = 1
      · rw [if_pos c, u1 i hik]
        exact ih (by omega) i hik
      · rw [if_neg c, Nat.add_zero]
        exact ih (by omega) i hik
theorem cs_has {n i : Nat} {f : Nat → Int32} (n8 : n ≤ 8) (h3 : f 3 = nI n) (hi : i < n) : F_X5_hasSite (nI i) f = some 1 := by
  unfold F_X5_hasSite
  rw [if_neg (nn0 (by omega)), h3, if_neg (mt (nI_leI (a := n) (b := i) (by omega) (by omega)).mp (by omega)), if_neg (show ¬ (8 : Int32) ≤ nI i from mt (nI_leI (a := 8) (b := i) (by omega) (by omega)).mp (by omega))]
/-- frozen: both alike -/
theorem fz_c {n i : Nat} {f g : Nat → Int32} (h : RowB n f g) (hi : i < n) : F_X5_isFrozen (nI i) f = some (if g (76 + i) = 1 then 1 else 0) := by
  have n8 := h.n8
  have lt : row_mk g n < 256 := Nat.lt_of_lt_of_le (row_mk_lt n) (Nat.pow_le_pow_right (by decide) n8)
  unfold F_X5_isFrozen
  rw [cs_has n8 h.sz hi, xb1, if_neg (by decide), h.fr, row_frz_mk n n8, bit_at _ lt i (by omega), row_mk_at n n8 i hi]
  by_cases c : g (76 + i) = 1
  · rw [if_pos c, if_pos c, if_neg (by decide)]
  · rw [if_neg c, if_neg c, if_pos (by decide)]
theorem fz_m {i : Nat} {g : Nat → Int32} (hi : i < 8) : F_X8_isFrozen (nI i) g = some (if g (76 + i) = 1 then 1 else 0) := by
  unfold F_X8_isFrozen
  rw [bm_ix (a := 76) (by rfl) (by omega), bm_cl (a := 76) (by rfl) (by omega)]
  by_cases c : g (76 + i) = 1
  · rw [if_pos c, if_pos c]
  · rw [if_neg c, if_neg c]
end
-- 83c.07
section
/-! Stage B, 7: one is frozen or let go, in both -/
theorem bit_tog : ∀ m, m < 256 → ∀ k, k < 8 → nI m ^^^ ((1 : Int32) <<< (nI k &&& 31)) = nI (if m / 2 ^ k % 2 = 1 then m - 2 ^ k else m + 2 ^ k) := by decide +kernel
theorem row_mk_eq {g g' : Nat → Int32} : ∀ n, (∀ i, i < n → g (76 + i) = g' (76 + i)) → row_mk g n = row_mk g' n := by
  intro n
  induction n with
  | zero => exact fun _ => rfl
  | succ k ih =>
    intro h
    show row_mk g k + (if g (76 + k) = 1 then 2 ^ k else 0) = row_mk g' k + (if g' (76 + k) = 1 then 2 ^ k else 0)
    rw [ih (fun i hi => h i (by omega)), h k (by omega)]
theorem row_mk_tog {g : Nat → Int32} {i : Nat} (hb : g (76 + i) = 0 ∨ g (76 + i) = 1) : ∀ n, i < n → (g (76 + i) = 1 → row_mk (upd g (76 + i) (1 - g (76 + i))) n + 2 ^ i = row_mk g n) ∧ (g (76 + i) = 0 → row_mk (upd g (76 + i) (1 - g (76 + i))) n = row_mk g n + 2 ^ i) := by
  intro n
  induction n with
  | zero => exact fun h => absurd h (Nat.not_lt_zero _)
  | succ k ih =>
    intro h
    have u1 : row_mk (upd g (76 + i) (1 - g (76 + i))) (k + 1) = row_mk (upd g (76 + i) (1 - g (76 + i))) k + (if upd g (76 + i) (1 - g (76 + i)) (76 + k) = 1 then 2 ^ k else 0) := rfl
    have u2 : row_mk g (k + 1) = row_mk g k + (if g (76 + k) = 1 then 2 ^ k else 0) := rfl
    rw [u1, u2]
    by_cases e : i = k
    · have q : row_mk (upd g (76 + i) (1 - g (76 + i))) k = row_mk g k := row_mk_eq k (fun j hj => upd_ne (by omega))
      rw [q]
      rw [← e, upd_at]
      rcases hb with b | b
      · rw [b, if_pos (show (1 : Int32) - 0 = 1 by decide), if_neg (show ¬ (0 : Int32) = 1 by decide)]
        exact ⟨fun z => absurd z (by decide), fun _ => by omega⟩
      · rw [b, if_neg (show ¬ (1 : Int32) - 1 = 1 by decide), if_pos rfl]
        exact ⟨fun _ => by omega, fun z => absurd z (by decide)⟩
    · obtain ⟨i1, i2⟩ := ih (by omega)
      rw [upd_ne (show ¬ 76 + k = 76 + i by omega)]
      exact ⟨fun z => by have := i1 z; omega, fun z => by have := i2 z; omega⟩
/-- frozen or let go -/
theorem fr_both {n i : Nat} {f g : Nat → Int32} (h : RowR n f g) (hi : i < n) (hb : g (76 + i) = 0 ∨ g (76 + i) = 1) : RowR n (upd f 7 (f 7 ^^^ ((1 : Int32) <<< (nI i &&& 31)))) (upd g (76 + i) (1 - g (76 + i))) := by
  have n8 := h.n8
  have lt : row_mk g n < 256 := Nat.lt_of_lt_of_le (row_mk_lt n) (Nat.pow_le_pow_right (by decide) n8)
  obtain ⟨t1, t0⟩ := row_mk_tog hb n hi
  refine ⟨⟨n8, ?_, ?_, ?_, ?_⟩, ?_, ?_⟩
  · rw [upd_ne (by decide)]
    exact h.sz
  · intro j d hj hd
    rw [upd_ne (by omega), upd_ne (by omega)]
    exact h.toRowB.st j d hj hd
  · intro p hp
    obtain ⟨b1, b2, b3, b4, b5, b6, b7⟩ := rowScl_b p hp
    rw [upd_ne b5, upd_ne (by omega)]
    exact h.sc p hp
  · rw [upd_at, h.toRowB.fr, row_frz_mk n n8, row_frz_mk n n8, bit_tog _ lt i (by omega), row_mk_at n n8 i hi]
    rcases hb with b | b
    · rw [if_neg (show ¬ g (76 + i) = 1 by rw [b]; decide), if_neg (by decide), t0 b]
    · rw [if_pos b, if_pos rfl, show row_mk g n - 2 ^ i = row_mk (upd g (76 + i) (1 - g (76 + i))) n by have := t1 b; omega]
  · rw [upd_ne (by decide), h.sx]
    exact sgm_eq n (fun k hk => (upd_ne (show ¬ 16 + k = 76 + i by omega)).symm)
  · rw [upd_ne (by decide), h.sy]
    exact sgm_eq n (fun k hk => (upd_ne (show ¬ 24 + k = 76 + i by omega)).symm)
end
-- 83c.08
section
/-! Stage B, 8: to a count is added, in both -/
theorem RowR.put {n i c : Nat} {f g : Nat → Int32} (h : RowR n f g) (hi : i < n) (hc : c < 8) (c2 : ¬ c = 2) (c3 : ¬ c = 3) (v : Int32) : RowR n (upd f (17 + 8 * i + c) v) (upd g (8 * c + i) v) := by
  have n8 := h.n8
  refine ⟨h.toRowB.put hi hc v, ?_, ?_⟩
  · rw [upd_ne (by omega), h.sx]
    exact sgm_eq n (fun k hk => (upd_ne (show ¬ 16 + k = 8 * c + i by omega)).symm)
  · rw [upd_ne (by omega), h.sy]
    exact sgm_eq n (fun k hk => (upd_ne (show ¬ 24 + k = 8 * c + i by omega)).symm)
/-- what a row's counts may be -/
abbrev RowC (n : Nat) (g : Nat → Int32) : Prop := ∃ a b q : Nat, 1 ≤ a ∧ a ≤ 9999 ∧ g 66 = nI a ∧ b ≤ 900000 ∧ g 73 = nI b ∧ q < n ∧ g 75 = nI q ∧ (∀ j, j < n → ∃ c, c ≤ 99999 ∧ g (48 + j) = nI c) ∧ ∀ j, j < n → ∃ r, g (56 + j) = nI r ∧ (r = 0 ∨ r < st n g)
def AdR (n i : Nat) (g0 : Nat → Int32) (j : Nat) (s : Int32 × Int32 × (Nat → Int32)) (t : Int32 × (Nat → Int32)) : Prop := s.1 = t.1 ∧ s.1 = nI j ∧ s.2.1 = nI j ∧ RowR n s.2.2 t.2 ∧ (∀ k, ¬ k = 56 + i → ¬ k = 75 → t.2 k = g0 k) ∧ (∃ r, r < 2 ^ 30 ∧ t.2 (56 + i) = nI r) ∧ ∃ q, q < n ∧ j ≤ q ∧ t.2 75 = nI q
/-- how the loops end: the class's round ends behind its loop -/
def AdQ (n i K S : Nat) (g0 : Nat → Int32) (r : Nat × Int32 × (Nat → Int32)) (u : Int32 × (Nat → Int32)) : Prop := (∃ w, w ≤ 8 ∧ r.2.1 = nI w) ∧ ((r.1 = 1 ∧ r.2.1 = u.1 ∧ RowR n r.2.2 u.2 ∧ (∀ k, ¬ k = 56 + i → ¬ k = 75 → u.2 k = g0 k) ∧ (∃ r, r < S ∧ u.2 (56 + i) = nI r) ∧ ∃ q, q < n ∧ u.2 75 = nI q) ∨ (r.1 = 0 ∧ ∃ f', F_X5_endRound K r.2.2 = some f' ∧ RowR n f' u.2 ∧ u.1 = r.2.1 + (2 : Int32) * nI n ∧ (∀ k, (k < 56 ∨ 64 ≤ k) → ¬ k = 73 → ¬ k = 74 → ¬ k = 75 → u.2 k = g0 k) ∧ u.2 73 = sgm (fun i => g0 (48 + i)) n ∧ u.2 75 = 0 ∧ ∀ j, j < n → u.2 (56 + j) = 0))
theorem AdR.step {n a b i j K S : Nat} {g0 : Nat → Int32} {s : Int32 × Int32 × (Nat → Int32)} {t : Int32 × (Nat → Int32)} (hK : 200000 ≤ K) (hi : i < n) (h0 : 0 < S) (hS : S < 2 ^ 30) (z66 : g0 66 = nI a) (z73 : g0 73 = nI b) (eS : ∀ g : Nat → Int32, g 66 = nI a → g 73 = nI b → st n g = S) (h : AdR n i g0 j s t) : (j < 8 ∧ ∃ s' t', B_X5_addTo_67 (nI i) (nI S) s.1 s.2.1 s.2.2 = some (.inl s') ∧ B_X8_addsNow_48 K (nI i) (nI n) t.1 t.2 = some (.inl t') ∧ AdR n i g0 (j + 1) s' t') ∨ (∃ r u, B_X5_addTo_67 (nI i) (nI S) s.1 s.2.1 s.2.2 = some (.inr r) ∧ (∀ J, 2 ≤ J → lpF (fun u9 : Int32 × (Nat → Int32) => B_X8_addsNow_48 K (nI i) (nI n) u9.1 u9.2) J t = some u) ∧ AdQ n i K S g0 r u) := by
  obtain ⟨x, y, f⟩ := s
  obtain ⟨x', g⟩ := t
  obtain ⟨e1, e0, e2, hR, hfr, ⟨ρ, hρ, e56⟩, q, hq, hj, h75⟩ := h
  have e1 : x = x' := e1
  have e0 : x = nI j := e0
  have e2 : y = nI j := e2
  subst e1 e2
  have e0 : x = nI j := e0
  have hR : RowR n f g := hR
  have n8 : n ≤ 8 := hR.1.1
  have hfr : ∀ k, ¬ k = 56 + i → ¬ k = 75 → g k = g0 k := hfr
  have e56 : g (56 + i) = nI ρ := e56
  have h66 : g 66 = nI a := (hfr 66 (by omega) (by decide)).trans z66
  have h73 : g 73 = nI b := (hfr 73 (by omega) (by decide)).trans z73
  have h75 : g 75 = nI q := h75
  have e7 : f (17 + 8 * i + 7) = g (56 + i) := hR.1.2.2.1 i 7 hi (by decide)
  have e9 : f 9 = g 75 := hR.1.2.2.2.1 (9, 75) (by decide)
  have es : F_X8_step g (nI n) = some (nI S) := by rw [m_step (by omega) n8, eS g h66 h73]
  have nle : ¬ nI S ≤ (0 : Int32) := mt (nI_leI (a := S) (b := 0) (by omega) (by omega)).mp (by omega)
  have C : B_X5_addTo_67 (nI i) (nI S) x (nI j) f = (if g (56 + i) < nI S then some (.inr (1, x, f)) else nmF (upd (upd f (17 + 8 * i + 7) (g (56 + i) - nI S)) 9 (g 75 + 1)) (fun f_20 => if f_20 9 < f_20 3 then some (.inl (x + (1 : Int32), nI j + (1 : Int32), f_20)) else some (.inr (0, x + (1 : Int32), f_20)))) := by
    unfold B_X5_addTo_67
    rw [if_neg (show ¬ (8 : Int32) ≤ nI j from mt (nI_leI (a := 8) (b := j) (by omega) (by omega)).mp (by omega)), bx_of (c := 7) (by rfl) (by omega) (by decide), xb1, e7, xb1, bx_put (c := 7) (by rfl) (by omega) (by decide), xb1, show (upd f (17 + 8 * i + 7) (g (56 + i) - nI S)) 9 = g 75 from (upd_ne (by omega)).trans e9]
  have M : B_X8_addsNow_48 K (nI i) (nI n) x g = (if g (56 + i) < nI S then some (.inr (x, g)) else nmF (upd (upd g (56 + i) (g (56 + i) - nI S)) 75 (g 75 + 1)) (fun f_22 => if f_22 75 = nI n then bd1 (F_X8_endsRound K f_22 (nI n)) (fun w_24 => some (.inl ((x + (1 : Int32)) + ((2 : Int32) * nI n), w_24))) else some (.inl (x + (1 : Int32), f_22)))) := by
    unfold B_X8_addsNow_48
    simp only [es, xb1, bm_ix (A := (56 : Int32)) (a := 56) rfl (show 56 + i < 265 by omega), bm_cl (A := (56 : Int32)) (a := 56) rfl (show 56 + i < 265 by omega), xnm]
    rw [if_neg nle, show (upd g (56 + i) (g (56 + i) - nI S)) 75 = g 75 from upd_ne (by omega)]
  by_cases c : g (56 + i) < nI S
  · have cS : ρ < S := (nI_ltI (a := ρ) (b := S) (by omega) (by omega)).mp (by rw [← e56]; exact c)
    refine Or.inr ⟨(1, x, f), (x, g), ?_, ?_, ⟨j, by omega, e0⟩, Or.inl ⟨rfl, rfl, hR, hfr, ⟨ρ, cS, e56⟩, q, hq, h75⟩⟩
    · show B_X5_addTo_67 (nI i) (nI S) x (nI j) f = _
      rw [C, if_pos c]
    · intro J hJ
      obtain ⟨J2, rfl⟩ : ∃ J2, J = J2 + 1 := ⟨J - 1, by omega⟩
      refine lp_end ?_
      show B_X8_addsNow_48 K (nI i) (nI n) x g = _
      rw [M, if_pos c]
  · have R2 : RowR n (upd (upd f (17 + 8 * i + 7) (g (56 + i) - nI S)) 9 (g 75 + 1)) (upd (upd g (56 + i) (g (56 + i) - nI S)) 75 (g 75 + 1)) := (hR.put (c := 7) hi (by decide) (by decide) (by decide) (g (56 + i) - nI S)).scal (by decide) (g 75 + 1)
    rw [if_neg c, xnm] at C
    rw [if_neg c, xnm] at M
    have cS : S ≤ ρ := Nat.not_lt.mp (fun z => c (by rw [e56]; exact (nI_ltI (a := ρ) (b := S) (by omega) (by omega)).mpr z))
    have v75 : (upd (upd g (56 + i) (g (56 + i) - nI S)) 75 (g 75 + 1)) 75 = nI (q + 1) := by rw [upd_at, h75, nI_1]
    have v9 : (upd (upd f (17 + 8 * i + 7) (g (56 + i) - nI S)) 9 (g 75 + 1)) 9 = nI (q + 1) := by rw [upd_at, h75, nI_1]
    have v56 : (upd (upd g (56 + i) (g (56 + i) - nI S)) 75 (g 75 + 1)) (56 + i) = nI (ρ - S) := by rw [upd_ne (by omega), upd_at, e56, xsub cS]
    have vfr : ∀ k, ¬ k = 56 + i → ¬ k = 75 → (upd (upd g (56 + i) (g (56 + i) - nI S)) 75 (g 75 + 1)) k = g0 k := fun k k1 k2 => by rw [upd_ne k2, upd_ne k1, hfr k k1 k2]
    rw [v9, R2.sz] at C
    rw [v75] at M
    generalize upd (upd f (17 + 8 * i + 7) (g (56 + i) - nI S)) 9 (g 75 + 1) = f2 at R2 C
    generalize upd (upd g (56 + i) (g (56 + i) - nI S)) 75 (g 75 + 1) = g2 at R2 M v75 v56 vfr
    by_cases d : q + 1 < n
    · rw [if_pos ((nI_ltI (a := q + 1) (b := n) (by omega) (by omega)).mpr d)] at C
      rw [if_neg (mt (nI_eq (a := q + 1) (b := n) (by omega) (by omega)).mp (by omega))] at M
      exact Or.inl ⟨by omega, _, _, C, M, rfl, (by rw [e0]; exact nI_1 j), nI_1 j, R2, vfr, ⟨ρ - S, by omega, v56⟩, q + 1, d, by omega, v75⟩
    · have dn : q + 1 = n := by omega
      rw [if_neg (mt (nI_ltI (a := q + 1) (b := n) (by omega) (by omega)).mp d)] at C
      obtain ⟨f3, g3, x1, x2, R3, y1, y2, y3, z⟩ := er_both hK R2
      rw [if_pos (show nI (q + 1) = nI n by rw [dn]), x2, xb1] at M
      refine Or.inr ⟨(0, x + 1, f2), ((x + 1) + (2 : Int32) * nI n, g3), C, ?_, ⟨j + 1, by omega, by show x + 1 = nI (j + 1); rw [e0, nI_1]⟩, Or.inr ⟨rfl, f3, x1, R3, rfl, ?_, ?_, y3, z⟩⟩
      · intro J hJ
        obtain ⟨J2, rfl⟩ : ∃ J2, J = J2 + 1 + 1 := ⟨J - 2, by omega⟩
        rw [lp_one (u' := ((x + 1) + (2 : Int32) * nI n, g3)) (show (fun u9 : Int32 × (Nat → Int32) => B_X8_addsNow_48 K (nI i) (nI n) u9.1 u9.2) (x, g) = _ from M)]
        refine lp_end ?_
        show B_X8_addsNow_48 K (nI i) (nI n) ((x + 1) + (2 : Int32) * nI n) g3 = _
        unfold B_X8_addsNow_48
        have hlt := (st_lt (n := n) (g := g3) (by omega)).2.2
        rw [m_step (by omega) n8, xb1]
        by_cases w : st n g3 = 0
        · rw [w, if_pos (by decide)]
        · rw [if_neg (show ¬ nI (st n g3) ≤ (0 : Int32) from mt (nI_leI (a := st n g3) (b := 0) (by omega) (by omega)).mp (by omega)), bm_ix (a := 56) (by rfl) (by omega), xb1, bm_cl (a := 56) (by rfl) (by omega), z i hi, if_pos (show (0 : Int32) < nI (st n g3) from (nI_ltI (a := 0) (b := st n g3) (by omega) (by omega)).mpr (by omega))]
      · intro k k1 k2 k3 k4
        show g3 k = g0 k
        rw [y1 k k1 k2 k3 k4]
        exact vfr k (by omega) k4
      · show g3 73 = sgm (fun i => g0 (48 + i)) n
        rw [y2]
        exact sgm_eq n (fun k hk => vfr (48 + k) (by omega) (by omega))
end
-- 83c.09
section
/-! Stage B, 9: to a count is added: the whole act -/
theorem sgm_nat {a : Nat → Int32} : ∀ n, (∀ j, j < n → ∃ c, c ≤ 99999 ∧ a j = nI c) → ∃ B, B ≤ 99999 * n ∧ sgm a n = nI B := by
  intro n
  induction n with
  | zero => exact fun _ => ⟨0, Nat.le_refl _, rfl⟩
  | succ k ih =>
    intro h
    obtain ⟨B, hB, e⟩ := ih (fun j hj => h j (by omega))
    obtain ⟨c, hc, e2⟩ := h k (by omega)
    refine ⟨B + c, by omega, ?_⟩
    show sgm a k + a k = nI (B + c)
    rw [e, e2, nI_add]
theorem ad_both {n i K k : Nat} {f g : Nat → Int32} (hK : 200000 ≤ K) (h : RowR n f g) (hC : RowC n g) (hi : i < n) (k1 : 1 ≤ k) (k9 : k ≤ 999) (hc : ∃ c, c + k ≤ 99999 ∧ g (48 + i) = nI c) (hr : g 73 < g 66) : ∃ r f' g', F_X5_addTo K (nI i) (nI k) f = some (r, f') ∧ F_X8_addsNow K (nI i) (nI k) g (nI n) = some (r, g') ∧ RowR n f' g' ∧ RowC n g' ∧ (∃ m, m ≤ 100 ∧ r = nI m) ∧ ∀ j, (j < 48 ∨ 64 ≤ j) → ¬ j = 73 → ¬ j = 74 → ¬ j = 75 → g' j = g j := by
  have n8 : n ≤ 8 := h.1.1
  obtain ⟨a, b, q, a1, a9, e66, b9, e73, hq, e75, hcs, hrs⟩ := id hC
  have hba : b < a := by
    rw [e73, e66] at hr
    exact (nI_ltI (a := b) (b := a) (by omega) (by omega)).mp hr
  obtain ⟨c, hcc, e48⟩ := hc
  have e6 : f (17 + 8 * i + 6) = g (48 + i) := h.1.2.2.1 i 6 hi (by decide)
  have R1 : RowR n (upd f (17 + 8 * i + 6) (g (48 + i) + nI k)) (upd g (48 + i) (g (48 + i) + nI k)) := h.put (c := 6) hi (by decide) (by decide) (by decide) (g (48 + i) + nI k)
  have F1 : ∀ j, ¬ j = 48 + i → (upd g (48 + i) (g (48 + i) + nI k)) j = g j := fun j hj => upd_ne hj
  have c48 : (upd g (48 + i) (g (48 + i) + nI k)) (48 + i) = nI (c + k) := by rw [upd_at, e48, nI_add]
  unfold F_X5_addTo F_X8_addsNow
  rw [bx_of (c := 6) (by rfl) (by omega) (by decide), xb1, e6, bx_put (c := 6) (by rfl) (by omega) (by decide), xb1, bm_ix (a := 48) (by rfl) (by omega), bm_ix (a := 48) (by rfl) (by omega), bm_cl (a := 48) (by rfl) (by omega)]
  simp only [xnm]
  generalize upd f (17 + 8 * i + 6) (g (48 + i) + nI k) = f1 at R1 ⊢
  generalize upd g (48 + i) (g (48 + i) + nI k) = g1 at R1 F1 c48 ⊢
  have a66 : g1 66 = nI a := (F1 66 (by omega)).trans e66
  have a73 : g1 73 = nI b := (F1 73 (by omega)).trans e73
  have a75 : g1 75 = nI q := (F1 75 (by omega)).trans e75
  have cs1 : ∀ j, j < n → ∃ c, c ≤ 99999 ∧ g1 (48 + j) = nI c := fun j hj => by
    by_cases e : j = i
    · rw [e, c48]
      exact ⟨c + k, by omega, rfl⟩
    · rw [F1 (48 + j) (by omega)]
      exact hcs j hj
  have st1 : st n g1 = st n g := st_of (F1 66 (by omega)) (F1 73 (by omega))
  have rs1 : ∀ j, j < n → ∃ r, g1 (56 + j) = nI r ∧ (r = 0 ∨ r < st n g1) := fun j hj => by
    rw [F1 (56 + j) (by omega), st1]
    exact hrs j hj
  have hlt := (st_lt (n := n) (g := g1) (by omega)).2.2
  rw [cs_step (by omega) R1 (by omega) (by omega) a66 a73, xb1, m_step (by omega) n8, xb1]
  by_cases z : st n g1 = 0
  · rw [z, if_pos (by decide), if_pos (by decide)]
    refine ⟨_, _, _, rfl, rfl, ?_, ?_, ⟨1, by omega, rfl⟩, ?_⟩
    · rw [show f1 8 = g1 73 from R1.sc (8, 73) (by decide)]
      exact R1.scal (by decide) _
    · refine ⟨a, b + k, q, a1, a9, (upd_ne (by decide)).trans a66, by omega, by rw [upd_at, a73, nI_add], hq, (upd_ne (by decide)).trans a75, fun j hj => ?_, fun j hj => ?_⟩
      · rw [upd_ne (by omega)]
        exact cs1 j hj
      · obtain ⟨r, er, hr⟩ := rs1 j hj
        rw [upd_ne (by omega)]
        exact ⟨r, er, Or.inl (by omega)⟩
    · intro j j1 j2 j3 j4
      rw [upd_ne j2]
      exact F1 j (by omega)
  · have nz : ¬ nI (st n g1) = (0 : Int32) := fun e => z ((nI_eq (a := st n g1) (b := 0) (by omega) (by omega)).mp e)
    have e7 : f1 (17 + 8 * i + 7) = g1 (56 + i) := R1.1.2.2.1 i 7 hi (by decide)
    have R2 : RowR n (upd f1 (17 + 8 * i + 7) (g1 (56 + i) + nI k)) (upd g1 (56 + i) (g1 (56 + i) + nI k)) := R1.put (c := 7) hi (by decide) (by decide) (by decide) (g1 (56 + i) + nI k)
    obtain ⟨ρ, eρ, hρ⟩ := rs1 i hi
    have z56 : (upd g1 (56 + i) (g1 (56 + i) + nI k)) (56 + i) = nI (ρ + k) := by rw [upd_at, eρ, nI_add]
    have F2 : ∀ j, ¬ j = 56 + i → (upd g1 (56 + i) (g1 (56 + i) + nI k)) j = g1 j := fun j hj => upd_ne hj
    rw [if_neg nz, if_neg nz, bx_of (c := 7) (by rfl) (by omega) (by decide), xb1, e7, bx_put (c := 7) (by rfl) (by omega) (by decide), xb1, bm_ix (a := 56) (by rfl) (by omega), bm_ix (a := 56) (by rfl) (by omega), bm_cl (a := 56) (by rfl) (by omega)]
    generalize upd f1 (17 + 8 * i + 7) (g1 (56 + i) + nI k) = f2 at R2 ⊢
    generalize upd g1 (56 + i) (g1 (56 + i) + nI k) = g2 at R2 z56 F2 ⊢
    have eS : ∀ g' : Nat → Int32, g' 66 = nI a → g' 73 = nI b → st n g' = st n g1 := fun g' x y => st_of (x.trans a66.symm) (y.trans a73.symm)
    have b66 : g2 66 = nI a := (F2 66 (by omega)).trans a66
    have b73 : g2 73 = nI b := (F2 73 (by omega)).trans a73
    have hst : st n g1 ≤ 9999 := by
      unfold st
      rw [a66, a73, pk_sub_toInt (by omega) (by omega)]
      exact Nat.le_trans (Nat.div_le_self _ _) (by omega)
    obtain ⟨r, u, l1, l2, hQ⟩ := lp_twoXA (b := fun u9 : Int32 × Int32 × (Nat → Int32) => B_X5_addTo_67 (nI i) (nI (st n g1)) u9.1 u9.2.1 u9.2.2) (d := fun u9 : Int32 × (Nat → Int32) => B_X8_addsNow_48 K (nI i) (nI n) u9.1 u9.2) (AdR n i g2) (AdQ n i K (st n g1) g2) (n := 8) (fun j s t _ q9 => AdR.step hK hi (by omega) hlt b66 b73 eS q9) 8 0 ((0 : Int32), (0 : Int32), f2) ((0 : Int32), g2) K K (by omega) (by omega) (by omega) ⟨rfl, rfl, rfl, R2, fun _ _ _ => rfl, ⟨ρ + k, by omega, z56⟩, q, hq, Nat.zero_le _, (F2 75 (by omega)).trans a75⟩
    obtain ⟨t, x, f3⟩ := r
    obtain ⟨x', g3⟩ := u
    rw [l1, l2, xb3, xb2]
    obtain ⟨⟨w, hw, ew⟩, hQ⟩ := hQ
    have ew : x = nI w := ew
    rcases hQ with ⟨q1, q2, q3, y1, ⟨r9, hr9, y2⟩, p, hp, y3⟩ | ⟨q1, f4, q2, q3, q4, y1, y2, y3, y4⟩
    · have q1 : t = 1 := q1
      have q2 : x = x' := q2
      have y1 : ∀ j, ¬ j = 56 + i → ¬ j = 75 → g3 j = g2 j := y1
      have y2 : g3 (56 + i) = nI r9 := y2
      have y3 : g3 75 = nI p := y3
      rw [q1, if_neg (by decide), if_pos rfl, ← q2]
      refine ⟨_, _, _, rfl, rfl, q3, ?_, ⟨w, by omega, ew⟩, ?_⟩
      · have c66 : g3 66 = nI a := (y1 66 (by omega) (by decide)).trans b66
        have c73 : g3 73 = nI b := (y1 73 (by omega) (by decide)).trans b73
        refine ⟨a, b, p, a1, a9, c66, b9, c73, hp, y3, fun j hj => ?_, fun j hj => ?_⟩
        · rw [y1 (48 + j) (by omega) (by omega), F2 (48 + j) (by omega)]
          exact cs1 j hj
        · rw [eS g3 c66 c73]
          by_cases e : j = i
          · rw [e, y2]
            exact ⟨r9, rfl, Or.inr hr9⟩
          · rw [y1 (56 + j) (by omega) (by omega), F2 (56 + j) (by omega)]
            exact rs1 j hj
      · intro j j1 j2 j3 j4
        show g3 j = g j
        rw [y1 j (by omega) j4, F2 j (by omega)]
        exact F1 j (by omega)
    · have q1 : t = 0 := q1
      have q2 : F_X5_endRound K f3 = some f4 := q2
      have q3 : RowR n f4 g3 := q3
      have q4 : x' = x + (2 : Int32) * nI n := q4
      have y1 : ∀ k, (k < 56 ∨ 64 ≤ k) → ¬ k = 73 → ¬ k = 74 → ¬ k = 75 → g3 k = g2 k := y1
      have y2 : g3 73 = sgm (fun i => g2 (48 + i)) n := y2
      have y3 : g3 75 = 0 := y3
      have y4 : ∀ j, j < n → g3 (56 + j) = 0 := y4
      have s3 : f4 3 = nI n := q3.1.2.1
      rw [q1, if_pos rfl, q2, xb1, s3, q4]
      refine ⟨_, _, _, rfl, rfl, q3, ?_, ⟨w + 2 * n, by omega, by rw [ew, show (2 : Int32) = nI 2 from rfl, nI_mul, nI_add]⟩, ?_⟩
      · have cs2 : ∀ j, j < n → ∃ c, c ≤ 99999 ∧ g2 (48 + j) = nI c := fun j hj => by
          rw [F2 (48 + j) (by omega)]
          exact cs1 j hj
        obtain ⟨B, hB, eB⟩ := sgm_nat (a := fun i => g2 (48 + i)) n cs2
        refine ⟨a, B, 0, a1, a9, (y1 66 (by omega) (by decide) (by decide) (by decide)).trans b66, by omega, y2.trans eB, by omega, y3, fun j hj => ?_, fun j hj => ⟨0, y4 j hj, Or.inl rfl⟩⟩
        rw [y1 (48 + j) (by omega) (by omega) (by omega) (by omega)]
        exact cs2 j hj
      · intro j j1 j2 j3 j4
        show g3 j = g j
        rcases j1 with j1 | j1
        · rw [y1 j (by omega) j2 j3 j4, F2 j (by omega)]
          exact F1 j (by omega)
        · rw [y1 j (by omega) j2 j3 j4, F2 j (by omega)]
          exact F1 j (by omega)
end
-- 83c.10
section
/-! Stage B, 10: groups: their bits, how many, what they drift in all -/
/-- how many of the first k -/
def bcn (m : Nat) : Nat → Nat
  | 0 => 0
  | k + 1 => bcn m k + m / 2 ^ k % 2
theorem bcn_le (m : Nat) : ∀ k, bcn m k ≤ k := by
  intro k
  induction k with
  | zero => exact Nat.le_refl _
  | succ k ih =>
    show bcn m k + m / 2 ^ k % 2 ≤ k + 1
    omega
theorem bits_c : ∀ m, m < 256 → F_J6_bitCount_0f7a4 (nI m) = some (nI (bcn m 8)) := by decide +kernel
theorem bits_m {K m : Nat} (hK : 200000 ≤ K) (hm : m < 256) : F_X8_bits K (nI m) = some (nI (bcn m 8)) := by
  have h : lpF (fun u9 : Int32 × Int32 => B_X8_bits_4 (nI m) u9.1 u9.2) K ((0 : Int32), (0 : Int32)) = some (nI (bcn m 8)) := by
    refine lp_for (fun j => (nI (bcn m j), nI j)) (n := 8) (by omega) (fun j hj => ?_) ?_
    · show B_X8_bits_4 (nI m) (nI (bcn m j)) (nI j) = some (.inl (nI (bcn m j + m / 2 ^ j % 2), nI (j + 1)))
      unfold B_X8_bits_4
      rw [if_neg (show ¬ (8 : Int32) ≤ nI j from mt (nI_leI (a := 8) (b := j) (by omega) (by omega)).mp (by omega)), bit_at m hm j hj, nI_add, nI_1]
    · show B_X8_bits_4 (nI m) (nI (bcn m 8)) (nI 8) = some (.inr (nI (bcn m 8)))
      unfold B_X8_bits_4
      rw [if_pos (show (8 : Int32) ≤ nI 8 by decide)]
  unfold F_X8_bits
  rw [h, xb1]
theorem gb_z {m k : Nat} : nI (m / 2 ^ k % 2) = (0 : Int32) ↔ m / 2 ^ k % 2 = 0 := nI_eq (a := m / 2 ^ k % 2) (b := 0) (by omega) (by omega)
theorem gm_has {m k : Nat} (hm : m < 256) (hk : k < 8) : F_X8_has (nI m) (nI k) = some (nI (m / 2 ^ k % 2)) := by
  unfold F_X8_has
  rw [bit_at m hm k hk]
  rcases (show m / 2 ^ k % 2 = 0 ∨ m / 2 ^ k % 2 = 1 by omega) with e | e
  · rw [e, if_neg (by decide)]
    rfl
  · rw [e, if_pos (by decide)]
    rfl
theorem xor_neg {x : Int32} {b : Nat} (hb : b < 2 ^ 31) : (x ^^^ nI b) < 0 ↔ x < 0 := by
  rw [Int32.lt_iff_toBitVec_slt, Int32.lt_iff_toBitVec_slt]
  have h : ∀ b : BitVec 32, b.slt (0 : Int32).toBitVec = b.msb := fun b => by
    rw [BitVec.slt_eq_decide, BitVec.msb_eq_toInt]
    have : ((0 : Int32).toBitVec).toInt = 0 := by decide
    rw [this]
  have q : ((nI b).toBitVec).msb = false := by
    rw [BitVec.msb_eq_toInt]
    show decide ((nI b).toInt < 0) = false
    rw [nI_toInt hb]
    exact decide_eq_false (by omega)
  rw [h, h, Int32.toBitVec_xor, BitVec.msb_xor, q, Bool.xor_false]
theorem rem_n {x : Int32} {b : Nat} (hb : b = 1 ∨ b = 2 ∨ b = 3 ∨ b = 4 ∨ b = 5 ∨ b = 6 ∨ b = 7 ∨ b = 8) : (x - x / nI b * nI b).toInt = x.toInt.tmod b := by
  have h2 : (nI b).toInt = b := nI_toInt (by omega)
  have a1 : -2 ^ 31 ≤ x.toInt := Int32.le_toInt x
  have a2 : x.toInt < 2 ^ 31 := Int32.toInt_lt x
  have d : x.toInt = b * (x.toInt.tdiv b) + x.toInt.tmod b := (Int.mul_tdiv_add_tmod x.toInt b).symm
  have b1 := Int.lt_tmod_of_pos x.toInt (b := (b : Int)) (by omega)
  have b2 := Int.tmod_lt_of_pos x.toInt (b := (b : Int)) (by omega)
  have q : (x / nI b).toInt = x.toInt.tdiv b := by
    rw [Int32.toInt_div, h2]
    refine Int.bmod_eq_of_le ?_ ?_
    all_goals
      generalize x.toInt.tdiv b = t at d ⊢
      generalize x.toInt.tmod b = r at d b1 b2
      rcases hb with rfl | rfl | rfl | rfl | rfl | rfl | rfl | rfl <;> omega
  have e : (b : Int) * x.toInt.tdiv b = x.toInt - x.toInt.tmod b := by omega
  rw [Int32.toInt_sub, Int32.toInt_mul, q, h2, Int.sub_bmod_bmod, Int.mul_comm, e, Int.bmod_eq_of_le (by omega) (by omega)]
  omega
/-- the rest of a division by a count of sites -/
theorem fm_n {x : Int32} {b : Nat} (hb : b = 1 ∨ b = 2 ∨ b = 3 ∨ b = 4 ∨ b = 5 ∨ b = 6 ∨ b = 7 ∨ b = 8) : ∃ r, r < b ∧ F_J9_floorMod_7cf53 x (nI b) = some (nI r) := by
  have r := rem_n (x := x) hb
  have nz : ¬ nI b = 0 := nI_ne0 (by omega) (by omega)
  have t0 : (0 : Int32).toInt = 0 := by decide
  have e : (0 : Int32) ≤ x ^^^ nI b ↔ 0 ≤ x.toInt := by
    have u := xor_neg (x := x) (b := b) (by omega)
    simp only [Int32.lt_iff_toInt_lt, Int32.le_iff_toInt_le, t0] at u ⊢
    omega
  have b1 := Int.lt_tmod_of_pos x.toInt (b := (b : Int)) (by omega)
  have b2 := Int.tmod_lt_of_pos x.toInt (b := (b : Int)) (by omega)
  unfold F_J9_floorMod_7cf53 nzI
  rw [if_neg nz]
  by_cases c : 0 ≤ x.toInt
  · rw [if_pos (e.mpr c)]
    have b3 := Int.tmod_nonneg (b : Int) (a := x.toInt) c
    obtain ⟨j, hj, q⟩ := nat_rng (x := x - x / nI b * nI b) (n := b - 1) (by rw [r]; omega)
    exact ⟨j, by omega, by rw [q]⟩
  · rw [if_neg (fun z => c (e.mp z))]
    by_cases d : x - x / nI b * nI b = 0
    · rw [if_pos d, d]
      exact ⟨0, by omega, rfl⟩
    · rw [if_neg d]
      have n0 : ¬ (x - x / nI b * nI b).toInt = 0 := fun h => d (Int32.toInt_inj.mp (h.trans t0.symm))
      have b4 : x.toInt.tmod b ≤ 0 := by
        have := Int.tmod_nonneg (b : Int) (a := -x.toInt) (by omega)
        rw [Int.neg_tmod] at this
        omega
      rw [r] at n0
      obtain ⟨j, hj, q⟩ := nat_rng (x := x - x / nI b * nI b + nI b) (n := b - 1) (by
        rw [Int32.toInt_add, r, nI_toInt (by omega), Int.bmod_eq_of_le (by omega) (by omega)]
        omega)
      exact ⟨j, by omega, by rw [q]⟩
/-- what those of a group have, added up -/
def gsm (d : Nat → Int32) (m : Nat) : Nat → Int32
  | 0 => 0
  | k + 1 => gsm d m k + (if m / 2 ^ k % 2 = 0 then 0 else d k)
theorem gsm_eq {d e : Nat → Int32} {m : Nat} : ∀ n, (∀ i, i < n → d i = e i) → gsm d m n = gsm e m n := by
  intro n
  induction n with
  | zero => exact fun _ => rfl
  | succ k ih =>
    intro h
    show gsm d m k + (if m / 2 ^ k % 2 = 0 then 0 else d k) = gsm e m k + (if m / 2 ^ k % 2 = 0 then 0 else e k)
    rw [ih (fun i hi => h i (by omega)), h k (by omega)]
/-- drifts out of the reference's row -/
def mdx (g : Nat → Int32) (i : Nat) : Int32 := g (0 + i) - g (16 + i) + g (32 + i)
def mdy (g : Nat → Int32) (i : Nat) : Int32 := g (8 + i) - g (24 + i) + g (40 + i)
theorem m_drX {i : Nat} {g : Nat → Int32} (hi : i < 8) : F_X8_driftX (nI i) g = some (mdx g i) := by
  unfold F_X8_driftX
  simp only [bm_ix (A := (0 : Int32)) (a := 0) rfl (show 0 + i < 265 by omega), bm_ix (A := (16 : Int32)) (a := 16) rfl (show 16 + i < 265 by omega), bm_ix (A := (32 : Int32)) (a := 32) rfl (show 32 + i < 265 by omega), bm_cl (A := (0 : Int32)) (a := 0) rfl (show 0 + i < 265 by omega), bm_cl (A := (16 : Int32)) (a := 16) rfl (show 16 + i < 265 by omega), bm_cl (A := (32 : Int32)) (a := 32) rfl (show 32 + i < 265 by omega)]
  rfl
theorem m_drY {i : Nat} {g : Nat → Int32} (hi : i < 8) : F_X8_driftY (nI i) g = some (mdy g i) := by
  unfold F_X8_driftY
  simp only [bm_ix (A := (8 : Int32)) (a := 8) rfl (show 8 + i < 265 by omega), bm_ix (A := (24 : Int32)) (a := 24) rfl (show 24 + i < 265 by omega), bm_ix (A := (40 : Int32)) (a := 40) rfl (show 40 + i < 265 by omega), bm_cl (A := (8 : Int32)) (a := 8) rfl (show 8 + i < 265 by omega), bm_cl (A := (24 : Int32)) (a := 24) rfl (show 24 + i < 265 by omega), bm_cl (A := (40 : Int32)) (a := 40) rfl (show 40 + i < 265 by omega)]
  rfl
theorem dr_both {n i : Nat} {f g : Nat → Int32} (h : StB n f g) (hi : i < n) : cdr f i 0 = mdx g i ∧ cdr f i 1 = mdy g i := by
  have e0 : f (17 + 8 * i + 0) = g (0 + i) := h i 0 hi (by decide)
  have e1 : f (17 + 8 * i + (0 + 2)) = g (16 + i) := h i 2 hi (by decide)
  have e2 : f (17 + 8 * i + (0 + 4)) = g (32 + i) := h i 4 hi (by decide)
  have e3 : f (17 + 8 * i + 1) = g (8 + i) := h i 1 hi (by decide)
  have e4 : f (17 + 8 * i + (1 + 2)) = g (24 + i) := h i 3 hi (by decide)
  have e5 : f (17 + 8 * i + (1 + 4)) = g (40 + i) := h i 5 hi (by decide)
  unfold cdr mdx mdy
  rw [e0, e1, e2, e3, e4, e5]
  exact ⟨rfl, rfl⟩
theorem c_msum {K n m a : Nat} {A : Int32} {f : Nat → Int32} (eA : A = nI a) (hK : 200000 ≤ K) (hm : m < 256) (n8 : n ≤ 8) (h3 : f 3 = nI n) (ha : a < 2) : lpF (fun u9 : Int32 × Int32 => B_X5_measureShares_23 (nI m) f A u9.1 u9.2) K ((0 : Int32), (0 : Int32)) = some (gsm (fun i => cdr f i a) m n) := by
  refine lp_for (fun j => (gsm (fun i => cdr f i a) m j, nI j)) (n := n) (by omega) (fun j hj => ?_) ?_
  · show B_X5_measureShares_23 (nI m) f A (gsm (fun i => cdr f i a) m j) (nI j) = some (.inl (gsm (fun i => cdr f i a) m j + (if m / 2 ^ j % 2 = 0 then 0 else cdr f j a), nI (j + 1)))
    unfold B_X5_measureShares_23 F_X5_sites
    rw [xb1, h3, if_neg (mt (nI_leI (a := n) (b := j) (by omega) (by omega)).mp (by omega)), bit_at m hm j (by omega), eA, b_drift (by omega) ha, xb1, nI_1]
    by_cases c : m / 2 ^ j % 2 = 0
    · rw [if_pos (gb_z.mpr c), if_pos c]
    · rw [if_neg (mt gb_z.mp c), if_neg c]
  · show B_X5_measureShares_23 (nI m) f A (gsm (fun i => cdr f i a) m n) (nI n) = some (.inr (gsm (fun i => cdr f i a) m n))
    unfold B_X5_measureShares_23 F_X5_sites
    rw [xb1, h3, if_pos ((nI_leI (a := n) (b := n) (by omega) (by omega)).mpr (Nat.le_refl _))]
theorem m_msum {K n m : Nat} {g : Nat → Int32} (hK : 200000 ≤ K) (hm : m < 256) (n8 : n ≤ 8) : lpF (fun u9 : Int32 × Int32 × Int32 => B_X8_shares_13 (nI m) (nI n) g u9.1 u9.2.1 u9.2.2) K ((0 : Int32), (0 : Int32), (0 : Int32)) = some (gsm (mdx g) m n, gsm (mdy g) m n) := by
  refine lp_for (fun j => (gsm (mdx g) m j, gsm (mdy g) m j, nI j)) (n := n) (by omega) (fun j hj => ?_) ?_
  · show B_X8_shares_13 (nI m) (nI n) g (gsm (mdx g) m j) (gsm (mdy g) m j) (nI j) = some (.inl (gsm (mdx g) m j + (if m / 2 ^ j % 2 = 0 then 0 else mdx g j), gsm (mdy g) m j + (if m / 2 ^ j % 2 = 0 then 0 else mdy g j), nI (j + 1)))
    unfold B_X8_shares_13 J_X8_shares_42_r14
    simp only [gm_has hm (show j < 8 by omega), m_drX (g := g) (show j < 8 by omega), m_drY (g := g) (show j < 8 by omega), xb1, nI_1]
    rw [if_neg (mt (nI_leI (a := n) (b := j) (by omega) (by omega)).mp (by omega))]
    by_cases c : m / 2 ^ j % 2 = 0
    · simp only [if_pos (gb_z.mpr c), if_pos c]
    · simp only [if_neg (mt gb_z.mp c), if_neg c]
  · show B_X8_shares_13 (nI m) (nI n) g (gsm (mdx g) m n) (gsm (mdy g) m n) (nI n) = some (.inr (gsm (mdx g) m n, gsm (mdy g) m n))
    unfold B_X8_shares_13
    rw [if_pos ((nI_leI (a := n) (b := n) (by omega) (by omega)).mpr (Nat.le_refl _))]
end
-- 83c.11
section
/-! Stage B, 11: whether a group can share, in both -/
theorem xnz {α : Type} {d : Int32} {g : Option α} (h : ¬ d = 0) : nzI d g = g := by unfold nzI; exact if_neg h
theorem vp_02 : vp_in (0 : Int32) 2 := nI_in (c := 0) (by decide) (by decide)
theorem vp_12 : vp_in (1 : Int32) 2 := nI_in (c := 1) (by decide) (by decide)
theorem lp_2 {σ ρ : Type} {b : σ → Option (σ ⊕ ρ)} {K : Nat} {u0 u1 u2 : σ} {r : ρ} (hK : 2 < K) (h0 : b u0 = some (.inl u1)) (h1 : b u1 = some (.inl u2)) (h2 : b u2 = some (.inr r)) : lpF b K u0 = some r := by
  obtain ⟨K2, rfl⟩ : ∃ K2, K = K2 + 1 + 1 + 1 := ⟨K - 3, by omega⟩
  rw [lp_one h0, lp_one h1, lp_end h2]
/-- all of the first k -/
def alF (p : Nat → Bool) : Nat → Bool
  | 0 => true
  | k + 1 => alF p k && p k
theorem alF_no {p : Nat → Bool} {i : Nat} (h : p i = false) : ∀ n, i < n → alF p n = false := by
  intro n
  induction n with
  | zero => exact fun z => absurd z (Nat.not_lt_zero _)
  | succ k ih =>
    intro hk
    show (alF p k && p k) = false
    by_cases e : i = k
    · rw [← e, h, Bool.and_false]
    · rw [ih (by omega), Bool.false_and]
theorem lp_allA {σ ρ : Type} {b : σ → Option (σ ⊕ ρ)} {S : Nat → σ} {p : Nat → Bool} {n : Nat} {r0 r1 : ρ} (hs : ∀ i, i < n → p i = true → b (S i) = some (.inl (S (i + 1)))) (hx : ∀ i, i < n → p i = false → b (S i) = some (.inr r0)) (he : b (S n) = some (.inr r1)) : ∀ (k i K : Nat), i + k = n → k < K → alF p i = true → lpF b K (S i) = some (if alF p n = true then r1 else r0) := by
  intro k
  induction k with
  | zero =>
    intro i K h1 h2 h3
    obtain ⟨K', rfl⟩ : ∃ K', K = K' + 1 := ⟨K - 1, by omega⟩
    obtain rfl : i = n := by omega
    rw [if_pos h3]
    exact lp_end he
  | succ k ih =>
    intro i K h1 h2 h3
    obtain ⟨K', rfl⟩ : ∃ K', K = K' + 1 := ⟨K - 1, by omega⟩
    cases q : p i with
    | true =>
      rw [lp_one (hs i (by omega) q)]
      exact ih (i + 1) K' (by omega) (by omega) (show (alF p i && p i) = true by rw [h3, q]; rfl)
    | false =>
      rw [if_neg (by rw [alF_no q n (by omega)]; decide)]
      exact lp_end (hx i (by omega) q)
/-- a loop that ends at the first that isn't so -/
theorem lp_all {σ ρ : Type} {b : σ → Option (σ ⊕ ρ)} (S : Nat → σ) (p : Nat → Bool) {n K : Nat} {r0 r1 : ρ} (hK : n < K) (hs : ∀ i, i < n → p i = true → b (S i) = some (.inl (S (i + 1)))) (hx : ∀ i, i < n → p i = false → b (S i) = some (.inr r0)) (he : b (S n) = some (.inr r1)) : lpF b K (S 0) = some (if alF p n = true then r1 else r0) := lp_allA hs hx he n 0 K (by omega) hK rfl
/-- what one of a group has: its rank k -/
def shv (q : Int32) (r k : Nat) : Int32 := if r ≤ k then q else q + 1
theorem c_shareOf {q : Int32} {r k a : Nat} {A : Int32} {sh lo : Nat → Int32} (eA : A = nI a) (ha : a < 2) (hr : r < 2 ^ 30) (hk : k < 2 ^ 30) (e1 : sh a = q) (e2 : lo a = nI r) : F_X5_shareOf (nI k) A sh lo = some (shv q r k) := by
  unfold F_X5_shareOf shv
  rw [eA, if_neg (nn0 (by omega)), if_pos (show nI a ≤ (1 : Int32) from (nI_leI (a := a) (b := 1) (by omega) (by omega)).mpr (by omega)), nI_clamp (by omega), xixn (by omega) (by decide), xixn (by omega) (by decide), xixn (by omega) (by decide), e1, e2]
  by_cases c : r ≤ k
  · rw [if_pos c, if_pos ((nI_leI (a := r) (b := k) (by omega) (by omega)).mpr c)]
  · rw [if_neg c, if_neg (mt (nI_leI (a := r) (b := k) (by omega) (by omega)).mp c)]
theorem c_meas {K n m b : Nat} {f sh lo : Nat → Int32} {q0 q1 : Int32} {r0 r1 : Nat} (hK : 200000 ≤ K) (hm : m < 256) (n8 : n ≤ 8) (h3 : f 3 = nI n) (hb : bcn m 8 = b) (h0 : 0 < b) (e0 : F_J9_floorDiv_7cf53 (gsm (fun i => cdr f i 0) m n) (nI b) = some q0) (e1 : F_J9_floorDiv_7cf53 (gsm (fun i => cdr f i 1) m n) (nI b) = some q1) (d0 : F_J9_floorMod_7cf53 (gsm (fun i => cdr f i 0) m n) (nI b) = some (nI r0)) (d1 : F_J9_floorMod_7cf53 (gsm (fun i => cdr f i 1) m n) (nI b) = some (nI r1)) : F_X5_measureShares K (nI m) f sh lo = some (upd (upd sh 0 q0) 1 q1, upd (upd lo 0 (nI r0)) 1 (nI r1)) := by
  have b8 : b ≤ 8 := by rw [← hb]; exact bcn_le m 8
  have nz : ¬ nI b = (0 : Int32) := nI_ne0 h0 (by omega)
  have s0 : B_X5_measureShares_12 K (nI m) f (nI b) 0 sh lo = some (.inl ((1 : Int32), upd sh 0 q0, upd lo 0 (nI r0))) := by
    unfold B_X5_measureShares_12
    rw [if_neg (by decide), c_msum (a := 0) (by rfl) hK hm n8 h3 (by decide), xb1, e0, xb1, xix vp_02, xnm, d0, xb1, xix vp_02, xnm]
    rfl
  have s1 : B_X5_measureShares_12 K (nI m) f (nI b) 1 (upd sh 0 q0) (upd lo 0 (nI r0)) = some (.inl ((2 : Int32), upd (upd sh 0 q0) 1 q1, upd (upd lo 0 (nI r0)) 1 (nI r1))) := by
    unfold B_X5_measureShares_12
    rw [if_neg (by decide), c_msum (a := 1) (by rfl) hK hm n8 h3 (by decide), xb1, e1, xb1, xix vp_12, xnm, d1, xb1, xix vp_12, xnm]
    rfl
  have s2 : B_X5_measureShares_12 K (nI m) f (nI b) 2 (upd (upd sh 0 q0) 1 q1) (upd (upd lo 0 (nI r0)) 1 (nI r1)) = some (.inr (upd (upd sh 0 q0) 1 q1, upd (upd lo 0 (nI r0)) 1 (nI r1))) := by
    unfold B_X5_measureShares_12
    rw [if_pos (by decide)]
  unfold F_X5_measureShares
  rw [bits_c m hm, xb1, hb, if_neg nz, lp_2 (b := fun u9 : Int32 × (Nat → Int32) × (Nat → Int32) => B_X5_measureShares_12 K (nI m) f (nI b) u9.1 u9.2.1 u9.2.2) (u0 := ((0 : Int32), sh, lo)) (u1 := ((1 : Int32), upd sh 0 q0, upd lo 0 (nI r0))) (u2 := ((2 : Int32), upd (upd sh 0 q0) 1 q1, upd (upd lo 0 (nI r0)) 1 (nI r1))) (r := (upd (upd sh 0 q0) 1 q1, upd (upd lo 0 (nI r0)) 1 (nI r1))) (by omega) s0 s1 s2, xb2]
/-- quiet by what one has of the shares -/
def qvl (f : Nat → Int32) (a b : Int32) : Int32 := (F_X5_isQuietDrift a b f).getD 0
theorem qvl_is {f : Nat → Int32} {a b : Int32} : F_X5_isQuietDrift a b f = some (qvl f a b) := by
  obtain ⟨r, e, -⟩ := t_isQuietDrift (p1 := a) (p2 := b) (f := f)
  unfold qvl
  rw [e]
  rfl
def shp (f : Nat → Int32) (m : Nat) (q0 q1 : Int32) (r0 r1 : Nat) (j : Nat) : Bool := decide (m / 2 ^ j % 2 = 0) || decide (¬ qvl f (shv q0 r0 (bcn m j)) (shv q1 r1 (bcn m j)) = 0)
theorem c_can {K n m : Nat} {f sh lo : Nat → Int32} {q0 q1 : Int32} {r0 r1 : Nat} (hK : 200000 ≤ K) (hm : m < 256) (n8 : n ≤ 8) (h3 : f 3 = nI n) (hr0 : r0 < 2 ^ 30) (hr1 : r1 < 2 ^ 30) (s0 : sh 0 = q0) (s1 : sh 1 = q1) (l0 : lo 0 = nI r0) (l1 : lo 1 = nI r1) : lpF (fun u9 : Int32 × Int32 => B_X5_canShare_9 (nI m) f sh lo u9.1 u9.2) K ((0 : Int32), (0 : Int32)) = some (if alF (shp f m q0 q1 r0 r1) n = true then 1 else 0) := by
  have B : ∀ j, j < n → B_X5_canShare_9 (nI m) f sh lo (nI (bcn m j)) (nI j) = if m / 2 ^ j % 2 = 0 then some (.inl (nI (bcn m j), nI (j + 1))) else if qvl f (shv q0 r0 (bcn m j)) (shv q1 r1 (bcn m j)) = 0 then some (.inr 0) else some (.inl (nI (bcn m j + 1), nI (j + 1))) := by
    intro j hj
    have bl := bcn_le m j
    unfold B_X5_canShare_9 F_X5_sites
    rw [xb1, h3, if_neg (mt (nI_leI (a := n) (b := j) (by omega) (by omega)).mp (by omega)), bit_at m hm j (by omega), c_shareOf (a := 0) (by rfl) (by decide) hr0 (by omega) s0 l0, xb1, c_shareOf (a := 1) (by rfl) (by decide) hr1 (by omega) s1 l1, xb1, qvl_is, xb1, nI_1, nI_1]
    by_cases c : m / 2 ^ j % 2 = 0
    · rw [if_pos (gb_z.mpr c), if_pos c]
    · rw [if_neg (mt gb_z.mp c), if_neg c]
  refine lp_all (fun j => (nI (bcn m j), nI j)) (shp f m q0 q1 r0 r1) (n := n) (by omega) (fun j hj hp => ?_) (fun j hj hp => ?_) ?_
  · show B_X5_canShare_9 (nI m) f sh lo (nI (bcn m j)) (nI j) = some (.inl (nI (bcn m j + m / 2 ^ j % 2), nI (j + 1)))
    rw [B j hj]
    by_cases c : m / 2 ^ j % 2 = 0
    · rw [if_pos c, c, Nat.add_zero (bcn m j)]
    · have q : ¬ qvl f (shv q0 r0 (bcn m j)) (shv q1 r1 (bcn m j)) = 0 := by
        unfold shp at hp
        rw [decide_eq_false c, Bool.false_or] at hp
        exact of_decide_eq_true hp
      rw [if_neg c, if_neg q, show m / 2 ^ j % 2 = 1 by omega]
  · show B_X5_canShare_9 (nI m) f sh lo (nI (bcn m j)) (nI j) = some (.inr 0)
    unfold shp at hp
    rw [Bool.or_eq_false_iff] at hp
    have c : ¬ m / 2 ^ j % 2 = 0 := of_decide_eq_false hp.1
    have q : qvl f (shv q0 r0 (bcn m j)) (shv q1 r1 (bcn m j)) = 0 := Decidable.not_not.mp (of_decide_eq_false hp.2)
    rw [B j hj, if_neg c, if_pos q]
  · show B_X5_canShare_9 (nI m) f sh lo (nI (bcn m n)) (nI n) = some (.inr 1)
    unfold B_X5_canShare_9 F_X5_sites
    rw [xb1, h3, if_pos ((nI_leI (a := n) (b := n) (by omega) (by omega)).mpr (Nat.le_refl _))]
theorem gsub_le0 {a b : Nat} (ha : a < 2 ^ 30) (hb : b < 2 ^ 30) : nI a - nI b ≤ (0 : Int32) ↔ a ≤ b := by
  rw [Int32.le_iff_toInt_le, pk_sub_toInt ha hb, Int32.toInt_zero]
  omega
theorem sub_1 {a b : Nat} : nI a - nI b + (-1 : Int32) = nI a - nI (b + 1) := by
  rw [← nI_1 b, ← Int32.sub_sub, Int32.sub_eq_add_neg (nI a - nI b) 1]
/-- the shares as the reference lays them -/
def shu (w : Nat → Int32) (m : Nat) (s : Nat → Int32) : Nat → Nat → Int32
  | 0 => s
  | k + 1 => if m / 2 ^ k % 2 = 0 then shu w m s k else upd (shu w m s k) k (w k)
theorem shu_at {w s : Nat → Int32} {m j : Nat} (hb : ¬ m / 2 ^ j % 2 = 0) : ∀ n, j < n → shu w m s n j = w j := by
  intro n
  induction n with
  | zero => exact fun z => absurd z (Nat.not_lt_zero _)
  | succ k ih =>
    intro hk
    show (if m / 2 ^ k % 2 = 0 then shu w m s k else upd (shu w m s k) k (w k)) j = w j
    by_cases e : j = k
    · rw [← e, if_neg hb, upd_at]
    · by_cases c : m / 2 ^ k % 2 = 0
      · rw [if_pos c]
        exact ih (by omega)
      · rw [if_neg c, upd_ne e]
        exact ih (by omega)
/-- the reference's points, and whether what is there is allowed: the class's quiet -/
theorem pt_both {n K : Nat} {f g : Nat → Int32} (hK : 200000 ≤ K) (h : RowR n f g) {p : Int32} : F_X8_pointX K p g (nI n) = some (f 4 + nI n * p) ∧ F_X8_pointY K p g (nI n) = some (f 5 + nI n * p) := by
  have n8 := h.n8
  have e16 : F_X8_sum K (16 : Int32) g (nI n) = some (f 4) := by rw [h.sx]; exact bm_sum hK n8 (b := 16) (by decide)
  have e24 : F_X8_sum K (24 : Int32) g (nI n) = some (f 5) := by rw [h.sy]; exact bm_sum hK n8 (b := 24) (by decide)
  unfold F_X8_pointX F_X8_pointY
  rw [e16, e24, xb1, xb1]
  exact ⟨rfl, rfl⟩
theorem al_both {n K : Nat} {f g : Nat → Int32} (hK : 200000 ≤ K) (h : RowR n f g) (hg : RowG g) (h72 : g 72 = 0) {p1 p2 : Int32} : F_X8_isAllowed (f 4 + nI n * p1) (f 5 + nI n * p2) g = some (qvl f p1 p2) := by
  have q := q_both hK h hg (p1 := p1) (p2 := p2)
  rw [qvl_is] at q
  unfold F_X8_isQuietBy at q
  rw [h72, if_neg (by decide), (pt_both hK h).1, xb1, (pt_both hK h).2, xb1, bd1_id] at q
  exact q.symm
theorem m_shB {n m j K b : Nat} {f g sx sy : Nat → Int32} {x y q0 q1 : Int32} {r0 r1 : Nat} {v : Int32} (hK : 200000 ≤ K) (h : RowR n f g) (hg : RowG g) (h72 : g 72 = 0) (hm : m < 256) (hj : j < n) (hr0 : r0 < 2 ^ 30) (hr1 : r1 < 2 ^ 30) (e0 : F_J9_floorDiv_7cf53 x (nI b) = some q0) (e1 : F_J9_floorDiv_7cf53 y (nI b) = some q1) : B_X8_shares_95 K (nI m) (nI n) g (nI b) x y (nI r0 - nI (bcn m j)) (nI r1 - nI (bcn m j)) v (nI j) sx sy = some (.inl (if m / 2 ^ j % 2 = 0 then (nI r0 - nI (bcn m j), nI r1 - nI (bcn m j), v, nI (j + 1), sx, sy) else (nI r0 - nI (bcn m j + 1), nI r1 - nI (bcn m j + 1), (if v = 0 then 0 else if qvl f (shv q0 r0 (bcn m j)) (shv q1 r1 (bcn m j)) = 0 then 0 else 1), nI (j + 1), upd sx j (shv q0 r0 (bcn m j)), upd sy j (shv q1 r1 (bcn m j))))) := by
  have n8 := h.n8
  have bl := bcn_le m j
  have J2 : ∀ sx' : Nat → Int32, sx' j = shv q0 r0 (bcn m j) → J_X8_shares_158_r96 K (nI n) g (if r1 ≤ bcn m j then 0 else 1) q1 (nI j) (nI r0 - nI (bcn m j)) (nI r1 - nI (bcn m j)) v (nI j) sx' sy = some (.inl (nI r0 - nI (bcn m j + 1), nI r1 - nI (bcn m j + 1), (if v = 0 then 0 else if qvl f (shv q0 r0 (bcn m j)) (shv q1 r1 (bcn m j)) = 0 then 0 else 1), nI (j + 1), sx', upd sy j (shv q1 r1 (bcn m j)))) := by
    intro sx' hx
    have ey : q1 + (if r1 ≤ bcn m j then (0 : Int32) else 1) = shv q1 r1 (bcn m j) := by
      unfold shv
      by_cases c : r1 ≤ bcn m j
      · rw [if_pos c, if_pos c, Int32.add_zero]
      · rw [if_neg c, if_neg c]
    unfold J_X8_shares_158_r96
    simp only [xixn (show j < 8 by omega) (by decide), nI_clamp (show j < 2 ^ 31 by omega), xnm, upd_at, hx, ey, (pt_both hK h).1, (pt_both hK h).2, xb1, al_both hK h hg h72, sub_1, nI_1]
    by_cases c : v = 0
    · rw [if_pos c, if_pos c]
    · rw [if_neg c, if_neg c]
      by_cases d : qvl f (shv q0 r0 (bcn m j)) (shv q1 r1 (bcn m j)) = 0
      · rw [if_pos d, if_pos d]
      · rw [if_neg d, if_neg d]
  have J1 : J_X8_shares_134_r96 K (nI n) g (if r0 ≤ bcn m j then 0 else 1) q0 (nI j) (nI b) y (nI r0 - nI (bcn m j)) (nI r1 - nI (bcn m j)) v (nI j) sx sy = some (.inl (nI r0 - nI (bcn m j + 1), nI r1 - nI (bcn m j + 1), (if v = 0 then 0 else if qvl f (shv q0 r0 (bcn m j)) (shv q1 r1 (bcn m j)) = 0 then 0 else 1), nI (j + 1), upd sx j (shv q0 r0 (bcn m j)), upd sy j (shv q1 r1 (bcn m j)))) := by
    have ex : q0 + (if r0 ≤ bcn m j then (0 : Int32) else 1) = shv q0 r0 (bcn m j) := by
      unfold shv
      by_cases c : r0 ≤ bcn m j
      · rw [if_pos c, if_pos c, Int32.add_zero]
      · rw [if_neg c, if_neg c]
    unfold J_X8_shares_134_r96
    rw [xixn (show j < 8 by omega) (by decide), xnm, nI_clamp (show j < 2 ^ 31 by omega), ex, e1, xb1]
    have J3 := J2 (upd sx j (shv q0 r0 (bcn m j))) upd_at
    by_cases c : r1 ≤ bcn m j
    · rw [if_pos c] at J3
      rw [if_pos ((gsub_le0 hr1 (by omega)).mpr c)]
      exact J3
    · rw [if_neg c] at J3
      rw [if_neg (mt (gsub_le0 hr1 (by omega)).mp c)]
      exact J3
  unfold B_X8_shares_95
  rw [if_neg (mt (nI_leI (a := n) (b := j) (by omega) (by omega)).mp (by omega)), gm_has hm (by omega), xb1, e0, xb1]
  by_cases c : m / 2 ^ j % 2 = 0
  · rw [if_pos (gb_z.mpr c), if_pos c, nI_1]
  · rw [if_neg (mt gb_z.mp c), if_neg c]
    by_cases d : r0 ≤ bcn m j
    · rw [if_pos d] at J1
      rw [if_pos ((gsub_le0 hr0 (by omega)).mpr d)]
      exact J1
    · rw [if_neg d] at J1
      rw [if_neg (mt (gsub_le0 hr0 (by omega)).mp d)]
      exact J1
theorem m_can {n m K b : Nat} {f g sx sy : Nat → Int32} {x y q0 q1 : Int32} {r0 r1 : Nat} (hK : 200000 ≤ K) (h : RowR n f g) (hg : RowG g) (h72 : g 72 = 0) (hm : m < 256) (hr0 : r0 < 2 ^ 30) (hr1 : r1 < 2 ^ 30) (e0 : F_J9_floorDiv_7cf53 x (nI b) = some q0) (e1 : F_J9_floorDiv_7cf53 y (nI b) = some q1) : lpF (fun u9 : Int32 × Int32 × Int32 × Int32 × (Nat → Int32) × (Nat → Int32) => B_X8_shares_95 K (nI m) (nI n) g (nI b) x y u9.1 u9.2.1 u9.2.2.1 u9.2.2.2.1 u9.2.2.2.2.1 u9.2.2.2.2.2) K (nI r0, nI r1, (1 : Int32), (0 : Int32), sx, sy) = some ((if alF (shp f m q0 q1 r0 r1) n = true then 1 else 0), shu (fun j => shv q0 r0 (bcn m j)) m sx n, shu (fun j => shv q1 r1 (bcn m j)) m sy n) := by
  have n8 := h.n8
  have z0 : (nI r0, nI r1, (1 : Int32), (0 : Int32), sx, sy) = (nI r0 - nI (bcn m 0), nI r1 - nI (bcn m 0), (if alF (shp f m q0 q1 r0 r1) 0 = true then (1 : Int32) else 0), nI 0, shu (fun j => shv q0 r0 (bcn m j)) m sx 0, shu (fun j => shv q1 r1 (bcn m j)) m sy 0) := by
    show _ = (nI r0 - (0 : Int32), nI r1 - (0 : Int32), (if true = true then (1 : Int32) else 0), (0 : Int32), sx, sy)
    rw [Int32.sub_zero, Int32.sub_zero, if_pos rfl]
  rw [z0]
  refine lp_for (fun j => (nI r0 - nI (bcn m j), nI r1 - nI (bcn m j), (if alF (shp f m q0 q1 r0 r1) j = true then (1 : Int32) else 0), nI j, shu (fun j => shv q0 r0 (bcn m j)) m sx j, shu (fun j => shv q1 r1 (bcn m j)) m sy j)) (n := n) (by omega) (fun j hj => ?_) ?_
  · show B_X8_shares_95 K (nI m) (nI n) g (nI b) x y (nI r0 - nI (bcn m j)) (nI r1 - nI (bcn m j)) (if alF (shp f m q0 q1 r0 r1) j = true then (1 : Int32) else 0) (nI j) (shu (fun j => shv q0 r0 (bcn m j)) m sx j) (shu (fun j => shv q1 r1 (bcn m j)) m sy j) = some (.inl (nI r0 - nI (bcn m j + m / 2 ^ j % 2), nI r1 - nI (bcn m j + m / 2 ^ j % 2), (if (alF (shp f m q0 q1 r0 r1) j && shp f m q0 q1 r0 r1 j) = true then (1 : Int32) else 0), nI (j + 1), (if m / 2 ^ j % 2 = 0 then shu (fun j => shv q0 r0 (bcn m j)) m sx j else upd (shu (fun j => shv q0 r0 (bcn m j)) m sx j) j (shv q0 r0 (bcn m j))), (if m / 2 ^ j % 2 = 0 then shu (fun j => shv q1 r1 (bcn m j)) m sy j else upd (shu (fun j => shv q1 r1 (bcn m j)) m sy j) j (shv q1 r1 (bcn m j)))))
    rw [m_shB hK h hg h72 hm hj hr0 hr1 e0 e1]
    by_cases c : m / 2 ^ j % 2 = 0
    · have p1 : shp f m q0 q1 r0 r1 j = true := by
        unfold shp
        rw [decide_eq_true c, Bool.true_or]
      rw [if_pos c, if_pos c, if_pos c, c, Nat.add_zero (bcn m j), p1, Bool.and_true]
    · rw [if_neg c, if_neg c, if_neg c, show m / 2 ^ j % 2 = 1 by omega]
      have p1 : shp f m q0 q1 r0 r1 j = decide (¬ qvl f (shv q0 r0 (bcn m j)) (shv q1 r1 (bcn m j)) = 0) := by
        unfold shp
        rw [decide_eq_false c, Bool.false_or]
      rw [p1]
      cases alF (shp f m q0 q1 r0 r1) j with
      | false => rfl
      | true =>
        by_cases d : qvl f (shv q0 r0 (bcn m j)) (shv q1 r1 (bcn m j)) = 0
        · rw [if_pos d, decide_eq_false (fun z => z d)]
          rfl
        · rw [if_neg d, decide_eq_true d]
          rfl
  · show B_X8_shares_95 K (nI m) (nI n) g (nI b) x y (nI r0 - nI (bcn m n)) (nI r1 - nI (bcn m n)) (if alF (shp f m q0 q1 r0 r1) n = true then (1 : Int32) else 0) (nI n) (shu (fun j => shv q0 r0 (bcn m j)) m sx n) (shu (fun j => shv q1 r1 (bcn m j)) m sy n) = _
    unfold B_X8_shares_95
    rw [if_pos ((nI_leI (a := n) (b := n) (by omega) (by omega)).mpr (Nat.le_refl _))]
/-- whether a group can share -/
theorem sh_both {n m K : Nat} {f g sh lo sx sy : Nat → Int32} (hK : 200000 ≤ K) (h : RowR n f g) (hg : RowG g) (h72 : g 72 = 0) (hm : m < 256) (hb : 0 < bcn m 8) : ∃ (v q0 q1 : Int32) (r0 r1 : Nat) (sh' lo' sx' sy' : Nat → Int32), (v = 0 ∨ v = 1) ∧ r0 < 8 ∧ r1 < 8 ∧ F_X5_canShare K (nI m) f sh lo = some (v, sh', lo') ∧ F_X8_shares K (nI m) g (nI n) sx sy = some (v, sx', sy') ∧ (sh' 0 = q0 ∧ sh' 1 = q1 ∧ lo' 0 = nI r0 ∧ lo' 1 = nI r1) ∧ ∀ j, j < n → ¬ m / 2 ^ j % 2 = 0 → sx' j = shv q0 r0 (bcn m j) ∧ sy' j = shv q1 r1 (bcn m j) := by
  have n8 := h.n8
  have b8 := bcn_le m 8
  have gx : gsm (fun i => cdr f i 0) m n = gsm (mdx g) m n := gsm_eq n (fun i hi => (dr_both h.toRowB.st hi).1)
  have gy : gsm (fun i => cdr f i 1) m n = gsm (mdy g) m n := gsm_eq n (fun i hi => (dr_both h.toRowB.st hi).2)
  have bb : bcn m 8 = 1 ∨ bcn m 8 = 2 ∨ bcn m 8 = 3 ∨ bcn m 8 = 4 ∨ bcn m 8 = 5 ∨ bcn m 8 = 6 ∨ bcn m 8 = 7 ∨ bcn m 8 = 8 := by omega
  have nz : ¬ nI (bcn m 8) = (0 : Int32) := nI_ne0 hb (by omega)
  obtain ⟨q0, e0, -⟩ := t_floorDiv (a := gsm (mdx g) m n) nz
  obtain ⟨q1, e1, -⟩ := t_floorDiv (a := gsm (mdy g) m n) nz
  obtain ⟨r0, hr0, d0⟩ := fm_n (x := gsm (mdx g) m n) bb
  obtain ⟨r1, hr1, d1⟩ := fm_n (x := gsm (mdy g) m n) bb
  refine ⟨(if alF (shp f m q0 q1 r0 r1) n = true then 1 else 0), q0, q1, r0, r1, upd (upd sh 0 q0) 1 q1, upd (upd lo 0 (nI r0)) 1 (nI r1), shu (fun j => shv q0 r0 (bcn m j)) m sx n, shu (fun j => shv q1 r1 (bcn m j)) m sy n, ?_, by omega, by omega, ?_, ?_, ⟨?_, ?_, ?_, ?_⟩, ?_⟩
  · by_cases c : alF (shp f m q0 q1 r0 r1) n = true
    · exact Or.inr (if_pos c)
    · exact Or.inl (if_neg c)
  · unfold F_X5_canShare
    rw [c_meas hK hm n8 h.sz rfl hb (by rw [gx]; exact e0) (by rw [gy]; exact e1) (by rw [gx]; exact d0) (by rw [gy]; exact d1), xb2, c_can (q0 := q0) (q1 := q1) (r0 := r0) (r1 := r1) hK hm n8 h.sz (by omega) (by omega) (by rw [upd_ne (by decide), upd_at]) upd_at (by rw [upd_ne (by decide), upd_at]) upd_at, xb1]
    by_cases c : alF (shp f m q0 q1 r0 r1) n = true
    · rw [if_pos c, if_pos c, if_neg (by decide), if_pos rfl]
    · rw [if_neg c, if_neg c, if_pos rfl]
  · unfold F_X8_shares
    rw [bits_m hK hm, xb1, m_msum hK hm n8, xb2, d0, xb1, d1, xb1, m_can hK h hg h72 hm (by omega) (by omega) e0 e1, xb3]
    unfold zbF
    by_cases c : alF (shp f m q0 q1 r0 r1) n = true
    · rw [if_pos c, if_pos (Or.inr rfl)]
    · rw [if_neg c, if_pos (Or.inl rfl)]
  · rw [upd_ne (by decide), upd_at]
  · exact upd_at
  · rw [upd_ne (by decide), upd_at]
  · exact upd_at
  · intro j hj hbj
    exact ⟨shu_at hbj n hj, shu_at hbj n hj⟩
end
-- 83c.12
section
/-! Stage B, 12: a group takes its shares, in both -/
theorem c_bal2 {K i k : Nat} {f sh lo : Nat → Int32} {q0 q1 : Int32} {r0 r1 : Nat} (hK : 200000 ≤ K) (hi : i < 8) (hk : k < 2 ^ 30) (hr0 : r0 < 8) (hr1 : r1 < 8) (s0 : sh 0 = q0) (s1 : sh 1 = q1) (l0 : lo 0 = nI r0) (l1 : lo 1 = nI r1) : lpF (fun u9 : Int32 × (Nat → Int32) => B_X5_balance_42 sh lo (nI k) (nI i) u9.1 u9.2) K ((0 : Int32), f) = some (upd (upd f (17 + 8 * i + 4) (f (17 + 8 * i + 4) + (shv q0 r0 k - cdr f i 0))) (17 + 8 * i + 5) (upd f (17 + 8 * i + 4) (f (17 + 8 * i + 4) + (shv q0 r0 k - cdr f i 0)) (17 + 8 * i + 5) + (shv q1 r1 k - cdr (upd f (17 + 8 * i + 4) (f (17 + 8 * i + 4) + (shv q0 r0 k - cdr f i 0))) i 1))) := by
  have t0 : B_X5_balance_42 sh lo (nI k) (nI i) 0 f = some (.inl ((1 : Int32), upd f (17 + 8 * i + 4) (f (17 + 8 * i + 4) + (shv q0 r0 k - cdr f i 0)))) := by
    unfold B_X5_balance_42
    rw [if_neg (by decide), c_shareOf (a := 0) (by rfl) (by decide) (by omega) hk s0 l0, xb1, show F_X5_drift (nI i) 0 f = some (cdr f i 0) from b_drift (a := 0) hi (by decide), xb1, bx_of (c := 4) (by rfl) hi (by decide), xb1, bx_put (c := 4) (by rfl) hi (by decide), xb1]
    rfl
  have t1 : ∀ f1 : Nat → Int32, B_X5_balance_42 sh lo (nI k) (nI i) 1 f1 = some (.inl ((2 : Int32), upd f1 (17 + 8 * i + 5) (f1 (17 + 8 * i + 5) + (shv q1 r1 k - cdr f1 i 1)))) := by
    intro f1
    unfold B_X5_balance_42
    rw [if_neg (by decide), c_shareOf (a := 1) (by rfl) (by decide) (by omega) hk s1 l1, xb1, show F_X5_drift (nI i) 1 f1 = some (cdr f1 i 1) from b_drift (a := 1) hi (by decide), xb1, bx_of (c := 5) (by rfl) hi (by decide), xb1, bx_put (c := 5) (by rfl) hi (by decide), xb1]
    rfl
  have t2 : ∀ f2 : Nat → Int32, B_X5_balance_42 sh lo (nI k) (nI i) 2 f2 = some (.inr f2) := by
    intro f2
    unfold B_X5_balance_42
    rw [if_pos (by decide)]
  exact lp_2 (b := fun u9 : Int32 × (Nat → Int32) => B_X5_balance_42 sh lo (nI k) (nI i) u9.1 u9.2) (by omega) t0 (t1 _) (t2 _)
theorem m_tak {n m i : Nat} {g sx sy : Nat → Int32} (hm : m < 256) (n8 : n ≤ 8) (hi : i < n) (hb : ¬ m / 2 ^ i % 2 = 0) : B_X8_takesShares_2 (nI m) (nI n) sx sy (nI i) g = some (.inl (nI (i + 1), upd (upd g (32 + i) (g (32 + i) + (sx i - mdx g i))) (40 + i) (upd g (32 + i) (g (32 + i) + (sx i - mdx g i)) (40 + i) + (sy i - mdy (upd g (32 + i) (g (32 + i) + (sx i - mdx g i))) i)))) := by
  unfold B_X8_takesShares_2
  rw [if_neg (mt (nI_leI (a := n) (b := i) (by omega) (by omega)).mp (by omega)), gm_has hm (by omega), xb1, if_neg (mt gb_z.mp hb)]
  simp only [bm_ix (A := (32 : Int32)) (a := 32) rfl (show 32 + i < 265 by omega), bm_ix (A := (40 : Int32)) (a := 40) rfl (show 40 + i < 265 by omega), bm_cl (A := (32 : Int32)) (a := 32) rfl (show 32 + i < 265 by omega), bm_cl (A := (40 : Int32)) (a := 40) rfl (show 40 + i < 265 by omega), xixn (show i < 8 by omega) (by decide), nI_clamp (show i < 2 ^ 31 by omega), m_drX (show i < 8 by omega), m_drY (show i < 8 by omega), xb1, xnm, nI_1]
def BlR (n m : Nat) (f g : Nat → Int32) (i : Nat) (s : Int32 × Int32 × (Nat → Int32)) (t : Int32 × (Nat → Int32)) : Prop := s.1 = nI (bcn m i) ∧ s.2.1 = nI i ∧ t.1 = nI i ∧ StB n s.2.2 t.2 ∧ (∀ k, k < 17 → s.2.2 k = f k) ∧ ∀ k, (k < 32 ∨ 48 ≤ k) → t.2 k = g k
theorem BlR.step {n m i K : Nat} {f g sh lo sx sy : Nat → Int32} {q0 q1 : Int32} {r0 r1 : Nat} {s : Int32 × Int32 × (Nat → Int32)} {t : Int32 × (Nat → Int32)} (hK : 200000 ≤ K) (n8 : n ≤ 8) (h3 : f 3 = nI n) (hm : m < 256) (hi : i < n) (hr0 : r0 < 8) (hr1 : r1 < 8) (s0 : sh 0 = q0) (s1 : sh 1 = q1) (l0 : lo 0 = nI r0) (l1 : lo 1 = nI r1) (hs : ∀ j, j < n → ¬ m / 2 ^ j % 2 = 0 → sx j = shv q0 r0 (bcn m j) ∧ sy j = shv q1 r1 (bcn m j)) (h : BlR n m f g i s t) : ∃ s' t', B_X5_balance_20 K (nI m) sh lo s.1 s.2.1 s.2.2 = some (.inl s') ∧ B_X8_takesShares_2 (nI m) (nI n) sx sy t.1 t.2 = some (.inl t') ∧ BlR n m f g (i + 1) s' t' := by
  obtain ⟨x, y, f1⟩ := s
  obtain ⟨z, g1⟩ := t
  obtain ⟨e1, e2, e3, hB, hf, hg⟩ := h
  have e1 : x = nI (bcn m i) := e1
  have e2 : y = nI i := e2
  have e3 : z = nI i := e3
  subst e1 e2 e3
  have hB : StB n f1 g1 := hB
  have hf : ∀ k, k < 17 → f1 k = f k := hf
  have hg : ∀ k, (k < 32 ∨ 48 ≤ k) → g1 k = g k := hg
  have bl := bcn_le m i
  have C : B_X5_balance_20 K (nI m) sh lo (nI (bcn m i)) (nI i) f1 = if m / 2 ^ i % 2 = 0 then some (.inl (nI (bcn m i), nI (i + 1), f1)) else some (.inl (nI (bcn m i + 1), nI (i + 1), upd (upd f1 (17 + 8 * i + 4) (f1 (17 + 8 * i + 4) + (shv q0 r0 (bcn m i) - cdr f1 i 0))) (17 + 8 * i + 5) (upd f1 (17 + 8 * i + 4) (f1 (17 + 8 * i + 4) + (shv q0 r0 (bcn m i) - cdr f1 i 0)) (17 + 8 * i + 5) + (shv q1 r1 (bcn m i) - cdr (upd f1 (17 + 8 * i + 4) (f1 (17 + 8 * i + 4) + (shv q0 r0 (bcn m i) - cdr f1 i 0))) i 1)))) := by
    unfold B_X5_balance_20 F_X5_sites
    rw [xb1, hf 3 (by decide), h3, if_neg (mt (nI_leI (a := n) (b := i) (by omega) (by omega)).mp (by omega)), bit_at m hm i (by omega), c_bal2 (q0 := q0) (q1 := q1) (r0 := r0) (r1 := r1) hK (by omega) (by omega) hr0 hr1 s0 s1 l0 l1, xb1, nI_1, nI_1]
    by_cases c : m / 2 ^ i % 2 = 0
    · rw [if_pos (gb_z.mpr c), if_pos c]
    · rw [if_neg (mt gb_z.mp c), if_neg c]
  by_cases c : m / 2 ^ i % 2 = 0
  · rw [if_pos c] at C
    refine ⟨_, (nI (i + 1), g1), C, ?_, ?_, rfl, rfl, hB, hf, hg⟩
    · show B_X8_takesShares_2 (nI m) (nI n) sx sy (nI i) g1 = _
      unfold B_X8_takesShares_2
      rw [if_neg (mt (nI_leI (a := n) (b := i) (by omega) (by omega)).mp (by omega)), gm_has hm (by omega), xb1, if_pos (gb_z.mpr c), nI_1]
    · show nI (bcn m i) = nI (bcn m i + m / 2 ^ i % 2)
      rw [c, Nat.add_zero (bcn m i)]
  · rw [if_neg c] at C
    have M := m_tak (g := g1) (sx := sx) (sy := sy) hm n8 hi c
    obtain ⟨w0, w1⟩ := hs i hi c
    rw [w0, w1] at M
    have k0 := (dr_both hB hi).1
    have c4 : f1 (17 + 8 * i + 4) = g1 (32 + i) := hB i 4 hi (by decide)
    rw [c4, k0] at C
    have B1 : StB n (upd f1 (17 + 8 * i + 4) (g1 (32 + i) + (shv q0 r0 (bcn m i) - mdx g1 i))) (upd g1 (32 + i) (g1 (32 + i) + (shv q0 r0 (bcn m i) - mdx g1 i))) := hB.put (c := 4) n8 hi (by decide) _
    have hf1 : ∀ k, k < 17 → upd f1 (17 + 8 * i + 4) (g1 (32 + i) + (shv q0 r0 (bcn m i) - mdx g1 i)) k = f k := fun k hk => (upd_ne (by omega)).trans (hf k hk)
    have hg1 : ∀ k, (k < 32 ∨ 48 ≤ k) → upd g1 (32 + i) (g1 (32 + i) + (shv q0 r0 (bcn m i) - mdx g1 i)) k = g k := fun k hk => (upd_ne (by omega)).trans (hg k hk)
    generalize upd f1 (17 + 8 * i + 4) (g1 (32 + i) + (shv q0 r0 (bcn m i) - mdx g1 i)) = f2 at C B1 hf1
    generalize upd g1 (32 + i) (g1 (32 + i) + (shv q0 r0 (bcn m i) - mdx g1 i)) = g2 at M B1 hg1
    have k1 := (dr_both B1 hi).2
    have c5 : f2 (17 + 8 * i + 5) = g2 (40 + i) := B1 i 5 hi (by decide)
    rw [c5, k1] at C
    refine ⟨_, _, C, M, ?_, rfl, rfl, B1.put (c := 5) n8 hi (by decide) _, fun k hk => (upd_ne (by omega)).trans (hf1 k hk), fun k hk => (upd_ne (by omega)).trans (hg1 k hk)⟩
    show nI (bcn m i + 1) = nI (bcn m i + m / 2 ^ i % 2)
    rw [show m / 2 ^ i % 2 = 1 by omega]
/-- a group takes its shares -/
theorem bl_both {n m K : Nat} {f g sh lo sx sy : Nat → Int32} {q0 q1 ac oc : Int32} {r0 r1 : Nat} (hK : 200000 ≤ K) (h : RowR n f g) (hm : m < 256) (hr0 : r0 < 8) (hr1 : r1 < 8) (s0 : sh 0 = q0) (s1 : sh 1 = q1) (l0 : lo 0 = nI r0) (l1 : lo 1 = nI r1) (hs : ∀ j, j < n → ¬ m / 2 ^ j % 2 = 0 → sx j = shv q0 r0 (bcn m j) ∧ sy j = shv q1 r1 (bcn m j)) : ∃ f' g', F_X5_balance K (nI m) f ac oc sh lo = some (((1 : Int32) + ((2 : Int32) * ac)) + nI (bcn m n), f', 1) ∧ F_X8_takesShares K (nI m) g (nI n) sx sy = some g' ∧ RowR n f' (upd g' 69 (g' 69 + 1)) ∧ ∀ k, (k < 32 ∨ 48 ≤ k) → g' k = g k := by
  have n8 := h.n8
  have e13 : f 13 = g 69 := h.sc (13, 69) (by decide)
  have z3 : (upd f 13 (f 13 + 1)) 3 = nI n := (upd_ne (by decide)).trans h.sz
  have he : ∀ s t, BlR n m (upd f 13 (f 13 + 1)) g n s t → ∃ r u, (fun u9 : Int32 × Int32 × (Nat → Int32) => B_X5_balance_20 K (nI m) sh lo u9.1 u9.2.1 u9.2.2) s = some (.inr r) ∧ (fun u9 : Int32 × (Nat → Int32) => B_X8_takesShares_2 (nI m) (nI n) sx sy u9.1 u9.2) t = some (.inr u) ∧ (r.1 = nI (bcn m n) ∧ StB n r.2 u ∧ (∀ k, k < 17 → r.2 k = (upd f 13 (f 13 + 1)) k) ∧ ∀ k, (k < 32 ∨ 48 ≤ k) → u k = g k) := by
    intro s t q
    obtain ⟨x, y, f1⟩ := s
    obtain ⟨z, g1⟩ := t
    obtain ⟨e1, e2, e3, hB, hf, hg⟩ := q
    have e1 : x = nI (bcn m n) := e1
    have e2 : y = nI n := e2
    have e3 : z = nI n := e3
    subst e1 e2 e3
    have le : nI n ≤ nI n := (nI_leI (a := n) (b := n) (by omega) (by omega)).mpr (Nat.le_refl _)
    refine ⟨(nI (bcn m n), f1), g1, ?_, ?_, rfl, hB, hf, hg⟩
    · show B_X5_balance_20 K (nI m) sh lo (nI (bcn m n)) (nI n) f1 = _
      unfold B_X5_balance_20 F_X5_sites
      rw [xb1, show f1 3 = nI n from (hf 3 (by decide)).trans z3, if_pos le]
    · show B_X8_takesShares_2 (nI m) (nI n) sx sy (nI n) g1 = _
      unfold B_X8_takesShares_2
      rw [if_pos le]
  have h0 : BlR n m (upd f 13 (f 13 + 1)) g 0 ((0 : Int32), (0 : Int32), upd f 13 (f 13 + 1)) ((0 : Int32), g) := ⟨rfl, rfl, rfl, StB.low h.toRowB.st (by decide) _, fun _ _ => rfl, fun _ _ => rfl⟩
  obtain ⟨r, u, l1', l2', hx, hB, hf, hg⟩ := lp_two (b := fun u9 : Int32 × Int32 × (Nat → Int32) => B_X5_balance_20 K (nI m) sh lo u9.1 u9.2.1 u9.2.2) (d := fun u9 : Int32 × (Nat → Int32) => B_X8_takesShares_2 (nI m) (nI n) sx sy u9.1 u9.2) (BlR n m (upd f 13 (f 13 + 1)) g) (fun r u => r.1 = nI (bcn m n) ∧ StB n r.2 u ∧ (∀ k, k < 17 → r.2 k = (upd f 13 (f 13 + 1)) k) ∧ ∀ k, (k < 32 ∨ 48 ≤ k) → u k = g k) (n := n) (K := K) (K' := K) (by omega) (by omega) (fun i s t hi q => Or.inl (BlR.step hK n8 z3 hm hi hr0 hr1 s0 s1 l0 l1 hs q)) he h0
  obtain ⟨x, f1⟩ := r
  have hx : x = nI (bcn m n) := hx
  have hB : StB n f1 u := hB
  have hf : ∀ k, k < 17 → f1 k = (upd f 13 (f 13 + 1)) k := hf
  have fx : ∀ k, k < 17 → ¬ k = 13 → f1 k = f k := fun k hk a => (hf k hk).trans (upd_ne a)
  refine ⟨f1, u, ?_, ?_, h.of (hB.high n8 (by decide) _) (fx 3 (by decide) (by decide)) ?_ (fx 4 (by decide) (by decide)) (fx 5 (by decide) (by decide)) (fx 7 (by decide) (by decide)) (fun i hi => (upd_ne (by omega)).trans (hg (76 + i) (by omega))) (fun k a b => (upd_ne (by omega)).trans (hg k (by omega))), hg⟩
  · unfold F_X5_balance
    rw [xnm, l1', xb2, hx]
  · unfold F_X8_takesShares
    rw [l2', xb1]
  · intro q hq
    obtain ⟨b1, b2, b3, b4, b5, b6, b7⟩ := rowScl_b q hq
    have u13 := rowScl_u q hq (13, 69) (by decide)
    by_cases c : q.1 = 13
    · rw [c, show q.2 = 69 from u13.mp c, upd_at, hf 13 (by decide), upd_at, hg 69 (by omega), e13]
    · rw [fx q.1 b1 c, upd_ne (fun z => c (u13.mpr z)), hg q.2 (Or.inr (by omega))]
      exact h.sc q hq
end
-- 83c.13
section
/-! Stage B, 13: one moves, speaks and asks, in both -/
/-- whom one asks, i behind itself -/
def nxp (n p i : Nat) : Nat := if n ≤ p + i then p + i - n else p + i
theorem nxp_lt {n p i : Nat} (hp : p < n) (hi : i < n) : nxp n p i < n := by unfold nxp; split <;> omega
theorem nxp_mod {n p i : Nat} (hp : p < n) (hi : i < n) : (p + i) % n = nxp n p i := by
  unfold nxp
  by_cases c : n ≤ p + i
  · rw [if_pos c, Nat.mod_eq_sub_mod c, Nat.mod_eq_of_lt (by omega)]
  · rw [if_neg c, Nat.mod_eq_of_lt (by omega)]
theorem nxp_ne {n p i j : Nat} (hp : p < n) (hi : i < n) (hj : j < i) : ¬ nxp n p i = nxp n p j := by unfold nxp; split <;> split <;> omega
theorem nxp_0 {n p : Nat} (hp : p < n) : nxp n p 0 = p := by unfold nxp; rw [if_neg (by omega), Nat.add_zero]
theorem grp_1 : ∀ k, k < 8 → (1 : Int32) <<< (nI k &&& 31) = nI (2 ^ k) ∧ bcn (2 ^ k) 8 = 1 ∧ ∀ j, j < 8 → ¬ 2 ^ k / 2 ^ j % 2 = 0 → j = k := by decide +kernel
theorem grp_orA : ∀ m, m < 256 → ∀ k, k < 8 → m / 2 ^ k % 2 = 0 → nI m ||| ((1 : Int32) <<< (nI k &&& 31)) = nI (m + 2 ^ k) := by decide +kernel
theorem grp_orB : ∀ m, m < 256 → ∀ k, k < 8 → m / 2 ^ k % 2 = 0 → bcn (m + 2 ^ k) 8 = bcn m 8 + 1 := by decide +kernel
theorem grp_orC : ∀ m, m < 256 → ∀ k, k < 8 → ∀ j, j < 8 → ¬ m / 2 ^ k % 2 = 0 ∨ (m + 2 ^ k) / 2 ^ j % 2 = 0 ∨ j = k ∨ m / 2 ^ j % 2 = 1 := by decide +kernel
theorem grp_or (m : Nat) (hm : m < 256) (k : Nat) (hk : k < 8) (hb : m / 2 ^ k % 2 = 0) : nI m ||| ((1 : Int32) <<< (nI k &&& 31)) = nI (m + 2 ^ k) ∧ bcn (m + 2 ^ k) 8 = bcn m 8 + 1 ∧ ∀ j, j < 8 → ¬ (m + 2 ^ k) / 2 ^ j % 2 = 0 → j = k ∨ ¬ m / 2 ^ j % 2 = 0 := by
  refine ⟨grp_orA m hm k hk hb, grp_orB m hm k hk hb, fun j hj h => ?_⟩
  rcases grp_orC m hm k hk j hj with e | e | e | e
  · exact absurd hb e
  · exact absurd e h
  · exact Or.inl e
  · exact Or.inr (by omega)
theorem grp_lt : ∀ n, n < 9 → ∀ m, m < 2 ^ n → ∀ k, k < n → m / 2 ^ k % 2 = 0 → m + 2 ^ k < 2 ^ n := by decide +kernel
theorem grp_n : ∀ n, n < 9 → ∀ m, m < 2 ^ n → bcn m n = bcn m 8 := by decide +kernel
def SqR (n p : Nat) (i : Nat) (s : Int32 × Int32 × (Nat → Int32) × Int32 × (Nat → Int32) × (Nat → Int32)) (t : Int32 × Int32 × Int32 × (Nat → Int32) × (Nat → Int32) × Int32 × (Nat → Int32)) : Prop := ∃ m a, m < 2 ^ n ∧ s.1 = nI m ∧ t.1 = nI m ∧ s.2.1 = nI (i + 1) ∧ t.2.2.1 = nI (i + 1) ∧ t.2.1 = 0 ∧ s.2.2.2.1 = nI a ∧ t.2.2.2.2.2.1 = nI a ∧ a ≤ i ∧ i < n ∧ bcn m 8 = a + 1 ∧ (∀ j, j < a → s.2.2.1 j = t.2.2.2.2.2.2 j) ∧ ∀ j, j < 8 → ¬ m / 2 ^ j % 2 = 0 → ∃ o, o < i + 1 ∧ j = nxp n p o
/-- how the search ends -/
def SqQ (n : Nat) (r : Nat × Int32 × (Nat → Int32) × Int32 × (Nat → Int32) × (Nat → Int32)) (u : Int32 × Int32 × (Nat → Int32) × (Nat → Int32) × Int32 × (Nat → Int32)) : Prop := ∃ m a, m < 2 ^ n ∧ r.2.1 = nI m ∧ u.1 = nI m ∧ r.2.2.2.1 = nI a ∧ u.2.2.2.2.1 = nI a ∧ a < n ∧ (∀ j, j < a → r.2.2.1 j = u.2.2.2.2.2 j) ∧ ((r.1 = 1 ∧ u.2.1 = 0) ∨ (r.1 = 0 ∧ u.2.1 = 1 ∧ bcn m 8 = a + 1 ∧ ∃ (q0 q1 : Int32) (r0 r1 : Nat), r0 < 8 ∧ r1 < 8 ∧ (r.2.2.2.2.1 0 = q0 ∧ r.2.2.2.2.1 1 = q1 ∧ r.2.2.2.2.2 0 = nI r0 ∧ r.2.2.2.2.2 1 = nI r1) ∧ ∀ j, j < n → ¬ m / 2 ^ j % 2 = 0 → u.2.2.1 j = shv q0 r0 (bcn m j) ∧ u.2.2.2.1 j = shv q1 r1 (bcn m j)))
theorem SqR.step {n p i K : Nat} {f g : Nat → Int32} {s : Int32 × Int32 × (Nat → Int32) × Int32 × (Nat → Int32) × (Nat → Int32)} {t : Int32 × Int32 × Int32 × (Nat → Int32) × (Nat → Int32) × Int32 × (Nat → Int32)} (hK : 200000 ≤ K) (h : RowR n f g) (hg : RowG g) (hp : p < n) (q : SqR n p i s t) : (i < 8 ∧ ∃ s' t', B_X5_moveSite_46 K (nI p) f s.1 s.2.1 s.2.2.1 s.2.2.2.1 s.2.2.2.2.1 s.2.2.2.2.2 = some (.inl s') ∧ B_X8_speaks_40 K (nI p) (nI n) g t.1 t.2.1 t.2.2.1 t.2.2.2.1 t.2.2.2.2.1 t.2.2.2.2.2.1 t.2.2.2.2.2.2 = some (.inl t') ∧ SqR n p (i + 1) s' t') ∨ (∃ r u, B_X5_moveSite_46 K (nI p) f s.1 s.2.1 s.2.2.1 s.2.2.2.1 s.2.2.2.2.1 s.2.2.2.2.2 = some (.inr r) ∧ (∀ J, 2 ≤ J → lpF (fun u9 : Int32 × Int32 × Int32 × (Nat → Int32) × (Nat → Int32) × Int32 × (Nat → Int32) => B_X8_speaks_40 K (nI p) (nI n) g u9.1 u9.2.1 u9.2.2.1 u9.2.2.2.1 u9.2.2.2.2.1 u9.2.2.2.2.2.1 u9.2.2.2.2.2.2) J t = some u) ∧ SqQ n r u) := by
  obtain ⟨x4, x5, P, ac, sh, lo⟩ := s
  obtain ⟨y2, y3, y4, sx, sy, as, A⟩ := t
  obtain ⟨m, a, hm, e1, e2, e3, e4, e5, e6, e7, ha, hin, hbc, hPA, hmm⟩ := q
  have e1 : x4 = nI m := e1
  have e2 : y2 = nI m := e2
  have e3 : x5 = nI (i + 1) := e3
  have e4 : y4 = nI (i + 1) := e4
  have e5 : y3 = 0 := e5
  have e6 : ac = nI a := e6
  have e7 : as = nI a := e7
  have hPA : ∀ j, j < a → P j = A j := hPA
  subst e1 e2 e3 e4 e5 e6 e7
  have n8 : n ≤ 8 := h.1.1
  have m8 : m < 256 := Nat.lt_of_lt_of_le hm (Nat.pow_le_pow_right (by decide) n8)
  have h3 : f 3 = nI n := h.1.2.1
  have e672 : f 6 = g 72 := h.1.2.2.2.1 (6, 72) (by decide)
  have goE : ∀ {u : Int32 × Int32 × (Nat → Int32) × (Nat → Int32) × Int32 × (Nat → Int32)}, B_X8_speaks_40 K (nI p) (nI n) g (nI m) 0 (nI (i + 1)) sx sy (nI a) A = some (.inr u) → ∀ J, 2 ≤ J → lpF (fun u9 : Int32 × Int32 × Int32 × (Nat → Int32) × (Nat → Int32) × Int32 × (Nat → Int32) => B_X8_speaks_40 K (nI p) (nI n) g u9.1 u9.2.1 u9.2.2.1 u9.2.2.2.1 u9.2.2.2.2.1 u9.2.2.2.2.2.1 u9.2.2.2.2.2.2) J (nI m, 0, nI (i + 1), sx, sy, nI a, A) = some u := by
    intro u hu J hJ
    obtain ⟨J2, rfl⟩ : ∃ J2, J = J2 + 1 := ⟨J - 1, by omega⟩
    exact lp_end hu
  by_cases c : n ≤ i + 1
  · refine Or.inr ⟨(1, nI m, P, nI a, sh, lo), (nI m, 0, sx, sy, nI a, A), ?_, goE ?_, m, a, hm, rfl, rfl, rfl, rfl, by omega, hPA, Or.inl ⟨rfl, rfl⟩⟩
    · show B_X5_moveSite_46 K (nI p) f (nI m) (nI (i + 1)) P (nI a) sh lo = _
      unfold B_X5_moveSite_46
      rw [h3, if_pos ((nI_leI (a := n) (b := i + 1) (by omega) (by omega)).mpr c)]
    · unfold B_X8_speaks_40
      rw [if_pos ((nI_leI (a := n) (b := i + 1) (by omega) (by omega)).mpr c)]
  have kl := nxp_lt (n := n) (p := p) (i := i + 1) hp (by omega)
  have C : B_X5_moveSite_46 K (nI p) f (nI m) (nI (i + 1)) P (nI a) sh lo = if g 72 = 0 then J_X5_moveSite_102_r47 K (nI (nxp n p (i + 1))) (nI m) (nI (i + 1)) f P (nI a) sh lo else some (.inr (1, nI m, P, nI a, sh, lo)) := by
    unfold B_X5_moveSite_46 F_X5_isAbove
    rw [h3, if_neg (mt (nI_leI (a := n) (b := i + 1) (by omega) (by omega)).mp c), if_neg (show ¬ (8 : Int32) ≤ nI (i + 1) from mt (nI_leI (a := 8) (b := i + 1) (by omega) (by omega)).mp (by omega)), e672, nI_add]
    by_cases d : g 72 = 0
    · rw [if_pos d, if_pos d, xb1, if_pos rfl]
      unfold nxp
      by_cases k : n ≤ p + (i + 1)
      · rw [if_pos k, if_pos ((nI_leI (a := n) (b := p + (i + 1)) (by omega) (by omega)).mpr k), xsub k]
      · rw [if_neg k, if_neg (mt (nI_leI (a := n) (b := p + (i + 1)) (by omega) (by omega)).mp k)]
    · rw [if_neg d, if_neg d, xb1, if_neg (by decide)]
  have kk : (nI p + nI (i + 1)) - (nI p + nI (i + 1)) / nI n * nI n = nI (nxp n p (i + 1)) := by
    rw [nI_add, nI_mod (by omega) (by omega), nxp_mod hp (by omega)]
  have nz : ¬ nI n = (0 : Int32) := nI_ne0 (by omega) (by omega)
  by_cases d : g 72 = 0
  · rw [if_pos d] at C
    generalize hk : nxp n p (i + 1) = k at C kk kl
    have kn : ¬ ∃ o, o < i + 1 ∧ k = nxp n p o := fun ⟨o, ho, e⟩ => nxp_ne hp (show i + 1 < n by omega) ho (hk.trans e)
    have kb : m / 2 ^ k % 2 = 0 := Decidable.byContradiction (fun z => kn (hmm k (by omega) z))
    have M : B_X8_speaks_40 K (nI p) (nI n) g (nI m) 0 (nI (i + 1)) sx sy (nI a) A = (bd1 (F_X8_isFrozen (nI k) g) (fun r_10 => if r_10 = (0 : Int32) then ixF (nI a) 8 (nmF (upd A (nI a).toNatClampNeg (nI k)) (fun f_15 => bd3 (F_X8_shares K (nI m ||| ((1 : Int32) <<< (nI k &&& (31 : Int32)))) g (nI n) sx sy) (fun r_16 w_17 w_18 => some (.inl (nI m ||| ((1 : Int32) <<< (nI k &&& (31 : Int32))), r_16, nI (i + 1) + (1 : Int32), w_17, w_18, nI a + (1 : Int32), f_15))))) else some (.inl (nI m, 0, nI (i + 1) + (1 : Int32), sx, sy, nI a, A)))) := by
      unfold B_X8_speaks_40
      rw [if_neg (mt (nI_leI (a := n) (b := i + 1) (by omega) (by omega)).mp c), if_pos d, if_pos rfl, xnz nz, kk]
    unfold J_X5_moveSite_102_r47 at C
    rw [fz_c h.1 kl, xb1] at C
    rw [fz_m (show k < 8 by omega), xb1] at M
    by_cases z : g (76 + k) = 1
    · rw [if_pos z, if_neg (by decide), nI_1] at C
      rw [if_pos z, if_neg (by decide), nI_1] at M
      refine Or.inl ⟨by omega, _, _, C, M, m, a, hm, rfl, rfl, rfl, rfl, rfl, rfl, rfl, by omega, by omega, hbc, hPA, ?_⟩
      intro j hj hb
      obtain ⟨o, ho, e⟩ := hmm j hj hb
      exact ⟨o, by omega, e⟩
    · obtain ⟨g1, g2, g3⟩ := grp_or m m8 k (by omega) kb
      have m2 : m + 2 ^ k < 2 ^ n := grp_lt n (by omega) m hm k kl kb
      have m28 : m + 2 ^ k < 256 := Nat.lt_of_lt_of_le m2 (Nat.pow_le_pow_right (by decide) n8)
      obtain ⟨v, q0, q1, r0, r1, sh', lo', sx', sy', hv, hr0, hr1, c1, c2, c3, c4⟩ := sh_both (sh := sh) (lo := lo) (sx := sx) (sy := sy) hK h hg d m28 (by omega)
      have N : F_X5_noteAsked (nI k) P (nI a) = some (upd P a (nI k), nI (a + 1)) := by
        unfold F_X5_noteAsked
        rw [if_neg (show ¬ (8 : Int32) ≤ nI a from mt (nI_leI (a := 8) (b := a) (by omega) (by omega)).mp (by omega)), xixn (by omega) (by decide), nI_clamp (by omega), xnm, nI_1]
      rw [if_neg z, if_pos rfl, N, xb2, g1, c1, xb3, nI_1] at C
      rw [if_neg z, if_pos rfl, xixn (show a < 8 by omega) (by decide), nI_clamp (show a < 2 ^ 31 by omega), xnm, g1, c2, xb3, nI_1, nI_1] at M
      have PA : ∀ j, j < a + 1 → upd P a (nI k) j = upd A a (nI k) j := fun j hj => by
        by_cases e : j = a
        · rw [e, upd_at, upd_at]
        · rw [upd_ne e, upd_ne e]
          exact hPA j (by omega)
      have hmm2 : ∀ j, j < 8 → ¬ (m + 2 ^ k) / 2 ^ j % 2 = 0 → ∃ o, o < i + 1 + 1 ∧ j = nxp n p o := fun j hj hb => by
        rcases g3 j hj hb with e | e
        · exact ⟨i + 1, by omega, e.trans hk.symm⟩
        · obtain ⟨o, ho, e2⟩ := hmm j hj e
          exact ⟨o, by omega, e2⟩
      rcases hv with v0 | v1
      · rw [v0, if_pos rfl] at C
        rw [v0] at M
        exact Or.inl ⟨by omega, _, _, C, M, m + 2 ^ k, a + 1, m2, rfl, rfl, rfl, rfl, rfl, rfl, rfl, by omega, by omega, by omega, PA, hmm2⟩
      · rw [v1, if_neg (by decide)] at C
        rw [v1] at M
        refine Or.inr ⟨_, (nI (m + 2 ^ k), 1, sx', sy', nI (a + 1), upd A a (nI k)), C, ?_, m + 2 ^ k, a + 1, m2, rfl, rfl, rfl, rfl, by omega, PA, Or.inr ⟨rfl, rfl, by omega, q0, q1, r0, r1, hr0, hr1, c3, c4⟩⟩
        intro J hJ
        obtain ⟨J2, rfl⟩ : ∃ J2, J = J2 + 1 + 1 := ⟨J - 2, by omega⟩
        rw [lp_one (u' := (nI (m + 2 ^ k), 1, nI (i + 1 + 1), sx', sy', nI (a + 1), upd A a (nI k))) (show (fun u9 : Int32 × Int32 × Int32 × (Nat → Int32) × (Nat → Int32) × Int32 × (Nat → Int32) => B_X8_speaks_40 K (nI p) (nI n) g u9.1 u9.2.1 u9.2.2.1 u9.2.2.2.1 u9.2.2.2.2.1 u9.2.2.2.2.2.1 u9.2.2.2.2.2.2) (nI m, 0, nI (i + 1), sx, sy, nI a, A) = _ from M)]
        refine lp_end ?_
        show B_X8_speaks_40 K (nI p) (nI n) g (nI (m + 2 ^ k)) 1 (nI (i + 1 + 1)) sx' sy' (nI (a + 1)) (upd A a (nI k)) = _
        unfold B_X8_speaks_40
        rw [if_pos d, if_neg (show ¬ (1 : Int32) = 0 by decide)]
        by_cases w : nI n ≤ nI (i + 1 + 1)
        · rw [if_pos w]
        · rw [if_neg w]
  · rw [if_neg d] at C
    refine Or.inr ⟨(1, nI m, P, nI a, sh, lo), (nI m, 0, sx, sy, nI a, A), C, goE ?_, m, a, hm, rfl, rfl, rfl, rfl, by omega, hPA, Or.inl ⟨rfl, rfl⟩⟩
    unfold B_X8_speaks_40
    rw [if_neg (mt (nI_leI (a := n) (b := i + 1) (by omega) (by omega)).mp c), if_neg d]
/-- a move's shift of the reference's row -/
def mvG (i : Nat) (x y : Int32) (g : Nat → Int32) : Nat → Int32 := upd (upd g (0 + i) (g (0 + i) + x)) (8 + i) (upd g (0 + i) (g (0 + i) + x) (8 + i) + y)
theorem RowG.of {g g' : Nat → Int32} (h : RowG g) (h1 : g' 64 = g 64) (h2 : g' 72 = g 72) : RowG g' := ⟨by rw [h1]; exact h.law, by rw [h2]; exact h.abv⟩
theorem sf_both {n i : Nat} {f g : Nat → Int32} {x y : Int32} (h : RowR n f g) (hi : i < n) : ∃ f', F_X5_shift (nI i) x y f = some f' ∧ RowR n f' (mvG i x y g) := by
  have n8 := h.n8
  have e0 : f (17 + 8 * i + 0) = g (0 + i) := h.1.2.2.1 i 0 hi (by decide)
  have r1 : RowR n (upd f (17 + 8 * i + 0) (g (0 + i) + x)) (upd g (0 + i) (g (0 + i) + x)) := h.put (c := 0) hi (by decide) (by decide) (by decide) (g (0 + i) + x)
  have e1 : upd f (17 + 8 * i + 0) (g (0 + i) + x) (17 + 8 * i + 1) = upd g (0 + i) (g (0 + i) + x) (8 + i) := r1.1.2.2.1 i 1 hi (by decide)
  have r2 : RowR n (upd (upd f (17 + 8 * i + 0) (g (0 + i) + x)) (17 + 8 * i + 1) (upd g (0 + i) (g (0 + i) + x) (8 + i) + y)) (mvG i x y g) := r1.put (c := 1) hi (by decide) (by decide) (by decide) (upd g (0 + i) (g (0 + i) + x) (8 + i) + y)
  refine ⟨_, ?_, r2⟩
  unfold F_X5_shift
  rw [bx_of (c := 0) (by rfl) (by omega) (by decide), xb1, e0, bx_put (c := 0) (by rfl) (by omega) (by decide), xb1, bx_of (c := 1) (by rfl) (by omega) (by decide), xb1, e1, bx_put (c := 1) (by rfl) (by omega) (by decide), xb1]
theorem qs_both {n i K : Nat} {f g : Nat → Int32} (hK : 200000 ≤ K) (h : RowR n f g) (hg : RowG g) (hi : i < n) : F_X5_isQuiet (nI i) f = some (qvl f (cdr f i 0) (cdr f i 1)) ∧ F_X8_isQuiet K (nI i) g (nI n) = some (qvl f (cdr f i 0) (cdr f i 1)) := by
  have n8 := h.n8
  have b0 : F_X5_drift (nI i) (0 : Int32) f = some (cdr f i 0) := b_drift (a := 0) (by omega) (by decide)
  have b1 : F_X5_drift (nI i) (1 : Int32) f = some (cdr f i 1) := b_drift (a := 1) (by omega) (by decide)
  obtain ⟨d0, d1⟩ := dr_both h.1.2.2.1 hi
  constructor
  · unfold F_X5_isQuiet
    rw [b0, xb1, b1, xb1, qvl_is, xb1]
  · unfold F_X8_isQuiet
    rw [m_drX (by omega), xb1, m_drY (by omega), xb1, ← q_both hK h hg, qvl_is, xb1, d0, d1]
/-- a move -/
theorem mv_both {n i K : Nat} {f g P A sh lo sx sy : Nat → Int32} {x y ac oc as ou : Int32} (hK : 200000 ≤ K) (h : RowR n f g) (hg : RowG g) (hi : i < n) : ∃ (r o : Int32) (a : Nat) (f' g' P' A' sh' lo' sx' sy' : Nat → Int32), F_X5_moveSite K (nI i) x y f P ac oc sh lo = some (r, f', P', nI a, o, sh', lo') ∧ F_X8_movesNow K (nI i) x y g (nI n) sx sy as ou A = some (r, g', sx', sy', nI a, o, A') ∧ a < 8 ∧ (∀ j, j < a → P' j = A' j) ∧ RowR n f' g' ∧ RowG g' ∧ (∃ m, m ≤ 100 ∧ r = nI m) ∧ ∀ k, (k < 16 ∨ 48 ≤ k) → ¬ k = 68 → ¬ k = 69 → ¬ k = 70 → ¬ k = 71 → ¬ k = 72 → g' k = mvG i x y g k := by
  have n8 := h.n8
  obtain ⟨f1, s1, R1⟩ := sf_both (x := x) (y := y) h hi
  have G1 : RowG (mvG i x y g) := hg.of (by unfold mvG; rw [upd_ne (by omega), upd_ne (by omega)]) (by unfold mvG; rw [upd_ne (by omega), upd_ne (by omega)])
  have M : F_X8_movesNow K (nI i) x y g (nI n) sx sy as ou A = F_X8_speaks K (nI i) (mvG i x y g) (nI n) sx sy as ou A := by
    unfold F_X8_movesNow
    simp only [bm_ix (A := (0 : Int32)) (a := 0) rfl (show 0 + i < 265 by omega), bm_ix (A := (8 : Int32)) (a := 8) rfl (show 8 + i < 265 by omega), bm_cl (A := (0 : Int32)) (a := 0) rfl (show 0 + i < 265 by omega), bm_cl (A := (8 : Int32)) (a := 8) rfl (show 8 + i < 265 by omega), xnm]
    show bd7 (F_X8_speaks K (nI i) (mvG i x y g) (nI n) sx sy as ou A) (fun r_7 w_8 w_9 w_10 w_11 w_12 w_13 => some (r_7, w_8, w_9, w_10, w_11, w_12, w_13)) = _
    cases F_X8_speaks K (nI i) (mvG i x y g) (nI n) sx sy as ou A <;> rfl
  rw [M]
  obtain ⟨c1, c2⟩ := qs_both hK R1 G1 hi
  unfold F_X5_moveSite F_X8_speaks
  rw [s1, xb1, c1, xb1, c2, xb1]
  generalize mvG i x y g = g1 at R1 G1 ⊢
  by_cases c : qvl f1 (cdr f1 i 0) (cdr f1 i 1) = 0
  · rw [if_pos c, if_pos c, xnm, xnm]
    have q12 : f1 12 = g1 68 := R1.1.2.2.2.1 (12, 68) (by decide)
    have R2 : RowR n (upd f1 12 (f1 12 + 1)) (upd g1 68 (g1 68 + 1)) := by
      rw [q12]
      exact R1.scal (by decide) _
    have G2 : RowG (upd g1 68 (g1 68 + 1)) := G1.of (upd_ne (by decide)) (upd_ne (by decide))
    have fr2 : ∀ k, ¬ k = 68 → upd g1 68 (g1 68 + 1) k = g1 k := fun k hk => upd_ne hk
    generalize upd f1 12 (f1 12 + 1) = f2 at R2 ⊢
    generalize upd g1 68 (g1 68 + 1) = g2 at R2 G2 fr2 ⊢
    obtain ⟨p1, p2, p3⟩ := grp_1 i (by omega)
    rw [p1]
    have h0 : SqR n i 0 (nI (2 ^ i), (1 : Int32), P, (0 : Int32), sh, lo) (nI (2 ^ i), (0 : Int32), (1 : Int32), sx, sy, (0 : Int32), A) := ⟨2 ^ i, 0, Nat.pow_lt_pow_right (by decide) hi, rfl, rfl, rfl, rfl, rfl, rfl, rfl, Nat.le_refl _, by omega, p2, fun j hj => absurd hj (Nat.not_lt_zero _), fun j hj hb => ⟨0, by omega, (p3 j hj hb).trans (nxp_0 hi).symm⟩⟩
    obtain ⟨r, u, l1, l2, m, a, hm, k1, k2, k3, k4, ha, hPA, hQ⟩ := lp_twoXA (b := fun u9 : Int32 × Int32 × (Nat → Int32) × Int32 × (Nat → Int32) × (Nat → Int32) => B_X5_moveSite_46 K (nI i) f2 u9.1 u9.2.1 u9.2.2.1 u9.2.2.2.1 u9.2.2.2.2.1 u9.2.2.2.2.2) (d := fun u9 : Int32 × Int32 × Int32 × (Nat → Int32) × (Nat → Int32) × Int32 × (Nat → Int32) => B_X8_speaks_40 K (nI i) (nI n) g2 u9.1 u9.2.1 u9.2.2.1 u9.2.2.2.1 u9.2.2.2.2.1 u9.2.2.2.2.2.1 u9.2.2.2.2.2.2) (SqR n i) (SqQ n) (n := 8) (fun j s t _ q9 => SqR.step hK R2 G2 hi q9) 8 0 _ _ K K (by omega) (by omega) (by omega) h0
    obtain ⟨tg, x4, P', ac', sh', lo'⟩ := r
    obtain ⟨x2, x3, sx', sy', as', A'⟩ := u
    have k1 : x4 = nI m := k1
    have k2 : x2 = nI m := k2
    have k3 : ac' = nI a := k3
    have k4 : as' = nI a := k4
    subst k1 k2 k3 k4
    have hPA : ∀ j, j < a → P' j = A' j := hPA
    rw [l1, l2, xb6, xb6]
    unfold J_X8_speaks_123
    rcases hQ with ⟨z1, z2⟩ | ⟨z1, z2, z3, q0, q1, r0, r1, hr0, hr1, ⟨w1, w2, w3, w4⟩, hs⟩
    · have z1 : tg = 1 := z1
      have z2 : x3 = 0 := z2
      obtain ⟨f3, g3, a1, a2, R3, G3, fr3⟩ := ha_both hK R2.1 G2.law
      unfold J_X5_moveSite_153
      rw [z1, z2, if_neg (by decide), if_pos rfl, if_pos rfl, a1, xb1, a2, xb1, show f3 3 = nI n from R3.1.2.1]
      refine ⟨_, _, a, f3, g3, P', A', sh', lo', sx', sy', rfl, rfl, by omega, hPA, R3, G3, ⟨1 + 2 * a + (n - 1 - a) + n, by omega, ?_⟩, ?_⟩
      · rw [show (1 : Int32) = nI 1 from rfl, show (2 : Int32) = nI 2 from rfl, nI_mul, nI_add, xsub (show 1 ≤ n by omega), xsub (show a ≤ n - 1 by omega), nI_add, nI_add]
      intro k b0 b1 b2 b3 b4 b5
      rw [fr3 k b0 b3 b4 b5, fr2 k b1]
    · have z1 : tg = 0 := z1
      have z2 : x3 = 1 := z2
      have m8 : m < 256 := Nat.lt_of_lt_of_le hm (Nat.pow_le_pow_right (by decide) n8)
      have bn : bcn m n = a + 1 := (grp_n n (by omega) m hm).trans z3
      obtain ⟨f3, g3, a1, a2, R3, fr3⟩ := bl_both (ac := nI a) (oc := 0) hK R2 m8 hr0 hr1 w1 w2 w3 w4 hs
      rw [z1, z2, if_pos rfl, a1, xb3, if_neg (show ¬ (1 : Int32) = 0 by decide), a2, xb1, xnm, bn]
      refine ⟨_, _, a, f3, _, P', A', sh', lo', sx', sy', rfl, ?_, by omega, hPA, R3, ?_, ⟨1 + 2 * a + (a + 1), by omega, ?_⟩, ?_⟩
      · rw [← nI_1 a, Int32.add_assoc]
      · exact G2.of ((upd_ne (by decide)).trans (fr3 64 (by omega))) ((upd_ne (by decide)).trans (fr3 72 (by omega)))
      · rw [show (1 : Int32) = nI 1 from rfl, show (2 : Int32) = nI 2 from rfl, nI_mul, nI_add, nI_add]
      · intro k b0 b1 b2 b3 b4 b5
        rw [upd_ne b2, fr3 k (by omega), fr2 k b1]
  · rw [if_neg c, if_neg c]
    exact ⟨_, _, 0, f1, g1, P, A, sh, lo, sx, sy, rfl, rfl, by omega, fun j hj => absurd hj (Nat.not_lt_zero _), R1, G1, ⟨0, by omega, rfl⟩, fun k _ _ _ _ _ _ => rfl⟩
end
