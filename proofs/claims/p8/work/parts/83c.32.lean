/-! Stage B, 32: races and goals leave the reference's row as it was -/
/-- if it ends, then so -/
def Pc {α : Type} (x : Option α) (Q : α → Prop) : Prop := ∀ r, x = some r → Q r
def NxP {σ ρ : Type} (I : σ → Prop) (Q : ρ → Prop) : σ ⊕ ρ → Prop
  | .inl s => I s
  | .inr r => Q r
theorem pc_some {α : Type} {r : α} {Q : α → Prop} (h : Q r) : Pc (some r) Q := fun _ e => by cases e; exact h
theorem pc_ite {α : Type} {c : Prop} {d : Decidable c} {a b : Option α} {Q : α → Prop} (h1 : c → Pc a Q) (h2 : ¬ c → Pc b Q) : Pc (@ite (Option α) c d a b) Q := by
  by_cases q : c
  · rw [if_pos q]; exact h1 q
  · rw [if_neg q]; exact h2 q
theorem pc_nm {α β : Type} {x : α} {g : α → Option β} {Q : β → Prop} (h : Pc (g x) Q) : Pc (nmF x g) Q := h
theorem pc_ix {α : Type} {i : Int32} {n : Nat} {g : Option α} {Q : α → Prop} (h : Pc g Q) : Pc (ixF i n g) Q := fun r e => h r (ix_s e).2
theorem pc_nz {α : Type} {d : Int32} {g : Option α} {Q : α → Prop} (h : Pc g Q) : Pc (nzI d g) Q := fun r e => h r (nzI_s e).2
theorem pc_bd1 {t0 β : Type} {x : Option t0} {f : t0 → Option β} {P : t0 → Prop} {Q : β → Prop} (h1 : Pc x P) (h2 : ∀ a, P a → Pc (f a) Q) : Pc (bd1 x f) Q := fun r e => by
  obtain ⟨y0, q1, q2⟩ := bd1_s e
  exact h2 y0 (h1 _ q1) r q2
theorem pc_bd2 {t0 t1 β : Type} {x : Option (t0 × t1)} {f : t0 → t1 → Option β} {P : t0 × t1 → Prop} {Q : β → Prop} (h1 : Pc x P) (h2 : ∀ a b, P (a, b) → Pc (f a b) Q) : Pc (bd2 x f) Q := fun r e => by
  obtain ⟨y0, y1, q1, q2⟩ := bd2_s e
  exact h2 y0 y1 (h1 _ q1) r q2
theorem pc_bd3 {t0 t1 t2 β : Type} {x : Option (t0 × t1 × t2)} {f : t0 → t1 → t2 → Option β} {P : t0 × t1 × t2 → Prop} {Q : β → Prop} (h1 : Pc x P) (h2 : ∀ a b c, P (a, b, c) → Pc (f a b c) Q) : Pc (bd3 x f) Q := fun r e => by
  obtain ⟨y0, y1, y2, q1, q2⟩ := bd3_s e
  exact h2 y0 y1 y2 (h1 _ q1) r q2
theorem pc_bd4 {t0 t1 t2 t3 β : Type} {x : Option (t0 × t1 × t2 × t3)} {f : t0 → t1 → t2 → t3 → Option β} {P : t0 × t1 × t2 × t3 → Prop} {Q : β → Prop} (h1 : Pc x P) (h2 : ∀ a b c d, P (a, b, c, d) → Pc (f a b c d) Q) : Pc (bd4 x f) Q := fun r e => by
  obtain ⟨y0, y1, y2, y3, q1, q2⟩ := bd4_s e
  exact h2 y0 y1 y2 y3 (h1 _ q1) r q2
theorem pc_T {α : Type} {x : Option α} : Pc x (fun _ => True) := fun _ _ => trivial
theorem pc_lp {σ ρ : Type} {b : σ → Option (σ ⊕ ρ)} (I : σ → Prop) (Q : ρ → Prop) (h : ∀ s, I s → Pc (b s) (NxP I Q)) : ∀ (K : Nat) (s : σ), I s → Pc (lpF b K s) Q := by
  intro K
  induction K with
  | zero => intro s _ r e; cases e
  | succ K ih =>
    intro s hs r e
    cases q : b s with
    | none =>
      have e2 : (match b s with | none => none | some (.inl u') => lpF b K u' | some (.inr r) => some r) = some r := e
      rw [q] at e2
      cases e2
    | some x =>
      cases x with
      | inl s' =>
        rw [lp_one q] at e
        exact ih s' (h s hs _ q) r e
      | inr r' =>
        rw [lp_end q] at e
        cases e
        exact h s hs _ q
/-- the log is as it was -/
def F84 (w g : Nat → Int32) : Prop := ∀ k, 84 ≤ k → w k = g k
theorem F84.up {w g : Nat → Int32} {i : Nat} {v : Int32} (h : F84 w g) (hi : i < 84) : F84 (upd w i v) g := fun k hk => (upd_ne (by omega)).trans (h k hk)
theorem pc_ends {n K : Nat} {w g : Nat → Int32} (n8 : n ≤ 8) (h : F84 w g) : Pc (F_X8_endsRound K w (nI n)) (fun x => F84 x g) := by
  unfold F_X8_endsRound
  refine pc_bd1 pc_T (fun r _ => pc_nm (pc_bd1 (P := fun x => F84 x g) (pc_lp (fun u : Int32 × (Nat → Int32) => (∃ j, j ≤ 8 ∧ u.1 = nI j) ∧ F84 u.2 g) _ (fun u hu => ?_) K _ ⟨⟨0, by omega, rfl⟩, h.up (by decide)⟩) (fun x hx => pc_nm (pc_nm (pc_some ?_)))))
  · obtain ⟨⟨j, hj, e⟩, hF⟩ := hu
    unfold B_X8_endsRound_15
    rw [e]
    refine pc_ite (fun _ => pc_some hF) (fun q => pc_ix (pc_nm (pc_some ⟨⟨j + 1, ?_, nI_1 j⟩, ?_⟩)))
    · have := mt (nI_leI (a := n) (b := j) (by omega) (by omega)).mpr q
      omega
    · have jl := mt (nI_leI (a := n) (b := j) (by omega) (by omega)).mpr q
      rw [bm_cl (a := 56) (by rfl) (by omega)]
      exact hF.up (by omega)
  · have hx : F84 x g := hx
    exact (hx.up (by decide)).up (by decide)
theorem pc_adds {n i K : Nat} {w g : Nat → Int32} {p : Int32} (n8 : n ≤ 8) (hi : i < 8) (h : F84 w g) : Pc (F_X8_addsNow K (nI i) p w (nI n)) (fun x => F84 x.2 g) := by
  unfold F_X8_addsNow
  rw [bm_cl (a := 48) (by rfl) (by omega), bm_cl (a := 56) (by rfl) (by omega)]
  refine pc_ix (pc_ix (pc_nm (pc_bd1 pc_T (fun r _ => pc_ite (fun _ => pc_nm (pc_some ((h.up (by omega)).up (by decide)))) (fun _ => pc_ix (pc_ix (pc_nm (pc_bd2 (P := fun x : Int32 × (Nat → Int32) => F84 x.2 g) (pc_lp (fun u : Int32 × (Nat → Int32) => F84 u.2 g) _ (fun u hu => ?_) K _ ((h.up (by omega)).up (by omega))) (fun a b hb => pc_some hb)))))))))
  unfold B_X8_addsNow_48
  rw [bm_cl (a := 56) (by rfl) (by omega)]
  refine pc_bd1 pc_T (fun r _ => pc_ite (fun _ => pc_some hu) (fun _ => pc_ix (pc_bd1 pc_T (fun r2 _ => pc_ite (fun _ => pc_some hu) (fun _ => pc_ix (pc_bd1 pc_T (fun r3 _ => pc_ix (pc_nm (pc_nm (pc_ite (fun _ => pc_bd1 (pc_ends n8 ((hu.up (by omega)).up (by decide))) (fun x hx => pc_some hx)) (fun _ => pc_some ((hu.up (by omega)).up (by decide))))))))))))) 
theorem pc_goes {n K : Nat} {g asd : Nat → Int32} {x y : Int32} (hK : 200000 ≤ K) (n8 : n ≤ 8) : Pc (F_X8_goes K x y g (nI n) asd) (fun r => r.2.1 = g) := by
  unfold F_X8_goes
  rw [gm_site, xb1, ite10]
  refine pc_ite (fun c => ?_) (fun _ => pc_some rfl)
  obtain ⟨i, hi, rfl⟩ := in_lt (by omega) c
  refine pc_bd1 pc_T (fun r _ => pc_ite (fun _ => pc_some rfl) (fun _ => pc_bd1 pc_T (fun r2 _ => pc_ite (fun _ => ?_) (fun _ => pc_some rfl))))
  rw [m_aside hK, xb1]
  refine pc_bd3 (P := fun u : Int32 × Int32 × (Nat → Int32) => F84 u.2.2 g) (pc_lp (fun u : Int32 × Int32 × (Nat → Int32) => F84 u.2.2 g) _ (fun u hu => ?_) K _ (fun _ _ => rfl)) (fun a b w hw => ?_)
  · unfold B_X8_goes_36
    exact pc_bd1 pc_T (fun r _ => pc_ite (fun _ => pc_bd2 (pc_adds n8 (by omega) hu) (fun a b hb => pc_some hb)) (fun _ => pc_some hu))
  · have hw : F84 w g := hw
    rw [m_bring hK hw, xb1]
    exact pc_ite (fun _ => pc_some rfl) (fun _ => pc_some rfl)
theorem pc_race {n K : Nat} {g asd : Nat → Int32} {x y z rc rd : Int32} (hK : 200000 ≤ K) (n8 : n ≤ 8) : Pc (F_X8_race K x y z g (nI n) asd rc rd) (fun r => r.2.1 = g) := by
  unfold F_X8_race F_X8_isWatch
  by_cases c : nI n ≤ (0 : Int32)
  · rw [if_pos c, xb1, if_pos rfl]
    exact pc_some rfl
  · have h0 : 0 < n := by
      refine Nat.pos_of_ne_zero (fun e => c ?_)
      rw [e]
      decide
    rw [if_neg c, xb1, if_neg n10]
    refine pc_bd1 pc_T (fun r _ => pc_ite (fun _ => pc_some rfl) (fun _ => pc_bd1 pc_T (fun r2 _ => pc_ite (fun _ => pc_some rfl) (fun _ => ?_))))
    refine pc_bd4 (P := fun u : (Nat → Int32) × (Nat → Int32) × Int32 × Int32 => u.1 = g) ?_ (fun a b c d hw => ?_)
    · unfold F_X8_laysRace
      rw [m_aside hK, xb1]
      refine pc_bd3 (P := fun u : Int32 × (Nat → Int32) × Int32 => F84 u.2.1 g) (pc_lp (fun u : Int32 × Int32 × Int32 × (Nat → Int32) × Int32 => (∃ m, m ≤ 1600 ∧ u.2.2.1 = nI m) ∧ F84 u.2.2.2.1 g) _ (fun u hu => ?_) K _ ⟨⟨0, by omega, rfl⟩, fun _ _ => rfl⟩) (fun a w b hw => ?_)
      · obtain ⟨⟨m, hm, e⟩, hF⟩ := hu
        unfold B_X8_laysRace_22
        rw [e, nI_mod (by omega) (by omega)]
        have e2 : (200 : Int32) * nI n = nI (200 * n) := by rw [show (200 : Int32) = nI 200 from rfl, nI_mul]
        rw [e2]
        refine pc_ite (fun _ => pc_some hF) (fun q => pc_ite (fun _ => pc_some hF) (fun _ => pc_nz (pc_bd1 pc_T (fun r _ => ?_))))
        have ml := mt (nI_leI (a := 200 * n) (b := m) (by omega) (by omega)).mpr q
        have hmod : m % n < n := Nat.mod_lt _ h0
        have nx : (∃ k, k ≤ 1600 ∧ nI m + 1 = nI k) := ⟨m + 1, by omega, nI_1 m⟩
        refine pc_ite (fun _ => pc_ix (pc_ix (pc_nm (pc_ix (pc_ix (pc_nm (pc_bd1 pc_T (fun r2 _ => ?_)))))))) (fun _ => pc_some ⟨nx, hF⟩)
        rw [bm_cl (a := 0) (by rfl) (show 0 + m % n < 265 by omega), bm_cl (a := 8) (by rfl) (show 8 + m % n < 265 by omega)]
        have hF2 : F84 (upd (upd u.2.2.2.1 (0 + m % n) (u.2.2.2.1 (0 + m % n) + x)) (8 + m % n) (upd u.2.2.2.1 (0 + m % n) (u.2.2.2.1 (0 + m % n) + x) (8 + m % n) + y)) g := (hF.up (by omega)).up (by omega)
        have J : ∀ (k0 x4 x6 c9 : Int32) (w : Nat → Int32), F84 w g → Pc (J_X8_laysRace_110_r23 k0 x4 (nI m) x6 w c9) (NxP (fun u : Int32 × Int32 × Int32 × (Nat → Int32) × Int32 => (∃ m, m ≤ 1600 ∧ u.2.2.1 = nI m) ∧ F84 u.2.2.2.1 g) (fun u : Int32 × (Nat → Int32) × Int32 => F84 u.2.1 g)) := by
          intro k0 x4 x6 c9 w hw
          unfold J_X8_laysRace_110_r23
          exact pc_bd1 pc_T (fun r _ => pc_ite (fun _ => pc_some ⟨nx, hw⟩) (fun _ => pc_ite (fun _ => pc_some ⟨nx, hw⟩) (fun _ => pc_some ⟨nx, hw⟩)))
        unfold J_X8_laysRace_109_r23
        exact pc_ite (fun _ => J _ _ _ _ _ hF2) (fun _ => pc_bd1 pc_T (fun r3 _ => pc_ite (fun _ => J _ _ _ _ _ hF2) (fun _ => J _ _ _ _ _ hF2)))
      · have hw : F84 w g := hw
        unfold J_X8_laysRace_143
        rw [m_bring hK hw, xb1, xb1]
        exact pc_ite (fun _ => pc_some rfl) (fun _ => pc_some rfl)
    · have hw : a = g := hw
      exact pc_ite (fun _ => pc_some hw) (fun _ => pc_some hw)
