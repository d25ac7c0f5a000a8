/-! the functions' own arithmetic: what the combinators are at known values, loops by their steps -/
theorem xb1 {t0 β : Type} {a0 : t0} {f : t0 → Option β} : bd1 (some a0) f = f a0 := rfl
theorem xb2 {t0 t1 β : Type} {a0 : t0} {a1 : t1} {f : t0 → t1 → Option β} : bd2 (some (a0, a1)) f = f a0 a1 := rfl
theorem xb3 {t0 t1 t2 β : Type} {a0 : t0} {a1 : t1} {a2 : t2} {f : t0 → t1 → t2 → Option β} : bd3 (some (a0, a1, a2)) f = f a0 a1 a2 := rfl
theorem xb4 {t0 t1 t2 t3 β : Type} {a0 : t0} {a1 : t1} {a2 : t2} {a3 : t3} {f : t0 → t1 → t2 → t3 → Option β} : bd4 (some (a0, a1, a2, a3)) f = f a0 a1 a2 a3 := rfl
theorem xb5 {t0 t1 t2 t3 t4 β : Type} {a0 : t0} {a1 : t1} {a2 : t2} {a3 : t3} {a4 : t4} {f : t0 → t1 → t2 → t3 → t4 → Option β} : bd5 (some (a0, a1, a2, a3, a4)) f = f a0 a1 a2 a3 a4 := rfl
theorem xb6 {t0 t1 t2 t3 t4 t5 β : Type} {a0 : t0} {a1 : t1} {a2 : t2} {a3 : t3} {a4 : t4} {a5 : t5} {f : t0 → t1 → t2 → t3 → t4 → t5 → Option β} : bd6 (some (a0, a1, a2, a3, a4, a5)) f = f a0 a1 a2 a3 a4 a5 := rfl
theorem xb7 {t0 t1 t2 t3 t4 t5 t6 β : Type} {a0 : t0} {a1 : t1} {a2 : t2} {a3 : t3} {a4 : t4} {a5 : t5} {a6 : t6} {f : t0 → t1 → t2 → t3 → t4 → t5 → t6 → Option β} : bd7 (some (a0, a1, a2, a3, a4, a5, a6)) f = f a0 a1 a2 a3 a4 a5 a6 := rfl
theorem xb8 {t0 t1 t2 t3 t4 t5 t6 t7 β : Type} {a0 : t0} {a1 : t1} {a2 : t2} {a3 : t3} {a4 : t4} {a5 : t5} {a6 : t6} {a7 : t7} {f : t0 → t1 → t2 → t3 → t4 → t5 → t6 → t7 → Option β} : bd8 (some (a0, a1, a2, a3, a4, a5, a6, a7)) f = f a0 a1 a2 a3 a4 a5 a6 a7 := rfl
theorem xb9 {t0 t1 t2 t3 t4 t5 t6 t7 t8 β : Type} {a0 : t0} {a1 : t1} {a2 : t2} {a3 : t3} {a4 : t4} {a5 : t5} {a6 : t6} {a7 : t7} {a8 : t8} {f : t0 → t1 → t2 → t3 → t4 → t5 → t6 → t7 → t8 → Option β} : bd9 (some (a0, a1, a2, a3, a4, a5, a6, a7, a8)) f = f a0 a1 a2 a3 a4 a5 a6 a7 a8 := rfl
theorem xnm {α β : Type} {x : α} {g : α → Option β} : nmF x g = g x := rfl
theorem xix {α : Type} {i : Int32} {n : Nat} {g : Option α} (h : vp_in i n) : ixF i n g = g := by unfold ixF; exact if_neg h
theorem xixn {α : Type} {i n : Nat} {g : Option α} (hi : i < n) (hn : n < 2 ^ 31) : ixF (nI i) n g = g := xix (nI_in hi hn)
theorem xlt {α : Type} {i n : Nat} {g : Option α} (hi : i < n) : ltF i n g = g := by unfold ltF; exact if_pos hi
theorem lp_one {σ ρ : Type} {b : σ → Option (σ ⊕ ρ)} {u u' : σ} {j : Nat} (h : b u = some (.inl u')) : lpF b (j + 1) u = lpF b j u' := by
  show (match b u with | none => none | some (.inl u') => lpF b j u' | some (.inr r) => some r) = _
  rw [h]
theorem lp_end {σ ρ : Type} {b : σ → Option (σ ⊕ ρ)} {u : σ} {r : ρ} {j : Nat} (h : b u = some (.inr r)) : lpF b (j + 1) u = some r := by
  show (match b u with | none => none | some (.inl u') => lpF b j u' | some (.inr r) => some r) = _
  rw [h]
theorem lp_forA {σ ρ : Type} {b : σ → Option (σ ⊕ ρ)} {S : Nat → σ} {n : Nat} {r : ρ} (hs : ∀ i, i < n → b (S i) = some (.inl (S (i + 1)))) (he : b (S n) = some (.inr r)) : ∀ (k i K : Nat), i + k = n → k < K → lpF b K (S i) = some r := by
  intro k
  induction k with
  | zero =>
    intro i K h1 h2
    obtain ⟨K', rfl⟩ : ∃ K', K = K' + 1 := ⟨K - 1, by omega⟩
    obtain rfl : i = n := by omega
    exact lp_end he
  | succ k ih =>
    intro i K h1 h2
    obtain ⟨K', rfl⟩ : ∃ K', K = K' + 1 := ⟨K - 1, by omega⟩
    rw [lp_one (hs i (by omega))]
    exact ih (i + 1) K' (by omega) (by omega)
theorem lp_for {σ ρ : Type} {b : σ → Option (σ ⊕ ρ)} (S : Nat → σ) {n : Nat} {r : ρ} {K : Nat} (hK : n < K) (hs : ∀ i, i < n → b (S i) = some (.inl (S (i + 1)))) (he : b (S n) = some (.inr r)) : lpF b K (S 0) = some r := lp_forA hs he n 0 K (by omega) hK
/-- a loop that keeps something and whose measure falls ends, and what it keeps holds at its end -/
theorem lp_tot {σ ρ : Type} {b : σ → Option (σ ⊕ ρ)} (I : Nat → σ → Prop) (R : ρ → Prop) (h : ∀ k u, I k u → ∃ x, b u = some x ∧ (∀ u', x = .inl u' → ∃ k', k' < k ∧ I k' u') ∧ (∀ r, x = .inr r → R r)) : ∀ (K k : Nat) (u : σ), k < K → I k u → ∃ r, lpF b K u = some r ∧ R r := by
  intro K
  induction K with
  | zero => intro k u h1; omega
  | succ K ih =>
    intro k u h1 h2
    obtain ⟨x, hx, ha, hb⟩ := h k u h2
    cases x with
    | inl u' =>
      obtain ⟨k', hk', hI⟩ := ha u' rfl
      rw [lp_one hx]
      exact ih k' u' (by omega) hI
    | inr r =>
      rw [lp_end hx]
      exact ⟨r, rfl, hb r rfl⟩
/-- numbers of the program that are naturals -/
theorem ple {a b : Nat} (ha : a < 2 ^ 31) (hb : b < 2 ^ 31) : (nI a ≤ nI b) = (a ≤ b) := propext (nI_leI ha hb)
theorem plt {a b : Nat} (ha : a < 2 ^ 31) (hb : b < 2 ^ 31) : (nI a < nI b) = (a < b) := propext (nI_ltI ha hb)
theorem peq {a b : Nat} (ha : a < 2 ^ 31) (hb : b < 2 ^ 31) : (nI a = nI b) = (a = b) := propext (nI_eq ha hb)
theorem xle {α : Type} {a b : Nat} {x y : α} {d : Decidable (nI a ≤ nI b)} (ha : a < 2 ^ 31) (hb : b < 2 ^ 31) : (@ite α (nI a ≤ nI b) d x y) = (if a ≤ b then x else y) := by
  by_cases q : a ≤ b
  · rw [if_pos q, if_pos ((nI_leI ha hb).mpr q)]
  · rw [if_neg q, if_neg (fun z => q ((nI_leI ha hb).mp z))]
theorem xltn {α : Type} {a b : Nat} {x y : α} {d : Decidable (nI a < nI b)} (ha : a < 2 ^ 31) (hb : b < 2 ^ 31) : (@ite α (nI a < nI b) d x y) = (if a < b then x else y) := by
  by_cases q : a < b
  · rw [if_pos q, if_pos ((nI_ltI ha hb).mpr q)]
  · rw [if_neg q, if_neg (fun z => q ((nI_ltI ha hb).mp z))]
theorem xeq {α : Type} {a b : Nat} {x y : α} {d : Decidable (nI a = nI b)} (ha : a < 2 ^ 31) (hb : b < 2 ^ 31) : (@ite α (nI a = nI b) d x y) = (if a = b then x else y) := by
  by_cases q : a = b
  · rw [if_pos q, if_pos ((nI_eq ha hb).mpr q)]
  · rw [if_neg q, if_neg (fun z => q ((nI_eq ha hb).mp z))]
theorem xsub {a b : Nat} (h : b ≤ a) : nI a - nI b = nI (a - b) := by
  have e : nI a = nI (a - b) + nI b := by rw [nI_add]; congr 1; omega
  rw [e]
  exact Int32.add_sub_cancel _ _
theorem upd_at {f : Nat → Int32} {i : Nat} {x : Int32} : upd f i x i = x := by unfold upd; exact if_pos rfl
/-- where p ends, from a on, seen with k looks -/
def scF (p : Nat → Bool) : Nat → Nat → Nat
  | 0, a => a
  | k + 1, a => if p a = true then scF p k (a + 1) else a
def sc (p : Nat → Bool) (n a : Nat) : Nat := scF p (n - a) a
theorem sc_no {p : Nat → Bool} {n a : Nat} (h : p a = false) : sc p n a = a := by
  unfold sc
  cases n - a with
  | zero => rfl
  | succ k => show (if p a = true then scF p k (a + 1) else a) = a; rw [h]; rfl
theorem sc_yes {p : Nat → Bool} {n a : Nat} (ha : a < n) (h : p a = true) : sc p n a = sc p n (a + 1) := by
  unfold sc
  rw [show n - a = (n - (a + 1)) + 1 by omega]
  show (if p a = true then scF p (n - (a + 1)) (a + 1) else a) = _
  rw [if_pos h]
theorem sc_spec {p : Nat → Bool} {n : Nat} (hp : ∀ i, n ≤ i → p i = false) : ∀ (k a : Nat), n - a ≤ k → a ≤ n → a ≤ sc p n a ∧ sc p n a ≤ n ∧ p (sc p n a) = false ∧ ∀ i, a ≤ i → i < sc p n a → p i = true := by
  intro k
  induction k with
  | zero =>
    intro a h1 h2
    have e : sc p n a = a := sc_no (hp a (by omega))
    rw [e]
    exact ⟨Nat.le_refl _, h2, hp a (by omega), fun i h3 h4 => by omega⟩
  | succ k ih =>
    intro a h1 h2
    cases hq : p a with
    | false =>
      rw [sc_no hq]
      exact ⟨Nat.le_refl _, h2, hq, fun i h3 h4 => by omega⟩
    | true =>
      have hlt : a < n := Nat.lt_of_not_le (fun h => by rw [hp a h] at hq; cases hq)
      rw [sc_yes hlt hq]
      obtain ⟨i1, i2, i3, i4⟩ := ih (a + 1) (by omega) (by omega)
      exact ⟨by omega, i2, i3, fun i h3 h4 => by
        by_cases e : i = a
        · rw [e]; exact hq
        · exact i4 i (by omega) h4⟩
theorem sc_ge {p : Nat → Bool} {n a : Nat} (hp : ∀ i, n ≤ i → p i = false) (h : a ≤ n) : a ≤ sc p n a := (sc_spec hp _ a (Nat.le_refl _) h).1
theorem sc_le {p : Nat → Bool} {n a : Nat} (hp : ∀ i, n ≤ i → p i = false) (h : a ≤ n) : sc p n a ≤ n := (sc_spec hp _ a (Nat.le_refl _) h).2.1
theorem sc_end {p : Nat → Bool} {n a : Nat} (hp : ∀ i, n ≤ i → p i = false) (h : a ≤ n) : p (sc p n a) = false := (sc_spec hp _ a (Nat.le_refl _) h).2.2.1
theorem sc_in {p : Nat → Bool} {n a i : Nat} (hp : ∀ i, n ≤ i → p i = false) (h : a ≤ n) (h1 : a ≤ i) (h2 : i < sc p n a) : p i = true := (sc_spec hp _ a (Nat.le_refl _) h).2.2.2 i h1 h2
theorem sc_idem {p : Nat → Bool} {n a : Nat} (hp : ∀ i, n ≤ i → p i = false) (h : a ≤ n) : sc p n (sc p n a) = sc p n a := sc_no (sc_end hp h)
/-- a loop that looks for the end of p -/
theorem lp_sc {b : Int32 → Option (Int32 ⊕ Int32)} {p : Nat → Bool} {n a K : Nat} (hp : ∀ i, n ≤ i → p i = false) (ha : a ≤ n) (hK : n < K) (h1 : ∀ i, i < n → p i = true → b (nI i) = some (.inl (nI (i + 1)))) (h2 : ∀ i, i ≤ n → p i = false → b (nI i) = some (.inr (nI i))) : lpF b K (nI a) = some (nI (sc p n a)) := by
  have q1 := sc_ge hp ha
  have q2 := sc_le hp ha
  refine lp_for (fun i => nI (a + i)) (n := sc p n a - a) (by omega) (fun i hi => ?_) ?_
  · exact h1 (a + i) (by omega) (sc_in hp ha (by omega) (by omega))
  · show b (nI (a + (sc p n a - a))) = _
    rw [show a + (sc p n a - a) = sc p n a by omega]
    exact h2 _ q2 (sc_end hp ha)
