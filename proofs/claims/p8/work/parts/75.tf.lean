/-! the reference: image, undo, trials, years -/
def IM (n : Nat) (im : Nat → Int32) (h : Int32) : Prop := h = 0 ∨ RwK n (im 84) (im 75)
theorem RwK.to {n : Nat} {a b c d : Int32} (h : RwK n a b) (e1 : c = a) (e2 : d = b) : RwK n c d := by rw [e1, e2]; exact h
theorem u_image {K n : Nat} {g im : Nat → Int32} {h : Int32} (hK : 200000 ≤ K) (hg : RwK n (g 84) (g 75)) (hi : IM n im h) : Tt (F_X8_image K g (nI n) im h) (fun x => IM n x.2.1 x.2.2) := by
  unfold F_X8_image
  refine tt_bd1 u_isWatch (fun _ _ => tt_ite (fun _ => tt_some hi) (fun _ => ?_))
  refine tt_bd1 (P := fun x => ∀ y, y < 265 → x y = g y) (tt_for (fun j u => u.1 = nI j ∧ ∀ y, y < j → u.2 y = g y) 265 (by omega) ⟨rfl, fun y hy => absurd hy (Nat.not_lt_zero _)⟩ (fun j u hj hu => ?_)) (fun w hw => tt_some (Or.inr (hg.to (hw 84 (by decide)) (hw 75 (by decide)))))
  unfold B_X8_image_11
  refine tt_ite (fun q => tt_some (nx_r (fun y hy => hu.2 y ?_))) (fun q => ?_)
  · rw [hu.1] at q
    have := (nI_leI (a := 265) (b := j) (by omega) (by omega)).mp q
    omega
  · have jl : j < 265 := lt_of_lit (by decide) (by omega) hu.1 q
    rw [hu.1, nI_clamp (show j < 2 ^ 31 by omega)]
    refine tt_ixn (by omega) (by decide) (tt_ixn (by omega) (by decide) (tt_nm (tt_some (nx_l jl ⟨nx1 rfl, fun y hy => ?_⟩))))
    by_cases e : y = j
    · rw [e]
      exact upd_at
    · exact (upd_no (by omega)).trans (hu.2 y (by omega))
theorem u_back {K n : Nat} {g im : Nat → Int32} {ac h : Int32} (hK : 200000 ≤ K) (hg : RwK n (g 84) (g 75)) (hi : IM n im h) : Tt (F_X8_back K g ac im h) (fun x => RwK n (x.2.1 84) (x.2.1 75) ∧ (x.2.2 = ac ∨ x.2.2 = 0)) := by
  unfold F_X8_back
  refine tt_ite (fun _ => tt_some ⟨hg, Or.inl rfl⟩) (fun c => ?_)
  have hi' : RwK n (im 84) (im 75) := hi.elim (fun z => absurd z c) id
  refine tt_bd1 (P := fun x => ∀ y, y < 265 → x y = im y) (tt_for (fun j u => u.1 = nI j ∧ ∀ y, y < j → u.2 y = im y) 265 (by omega) ⟨rfl, fun y hy => absurd hy (Nat.not_lt_zero _)⟩ (fun j u hj hu => ?_)) (fun w hw => tt_some ⟨hi'.to (hw 84 (by decide)) (hw 75 (by decide)), Or.inr rfl⟩)
  unfold B_X8_back_11
  refine tt_ite (fun q => tt_some (nx_r (fun y hy => hu.2 y ?_))) (fun q => ?_)
  · rw [hu.1] at q
    have := (nI_leI (a := 265) (b := j) (by omega) (by omega)).mp q
    omega
  · have jl : j < 265 := lt_of_lit (by decide) (by omega) hu.1 q
    rw [hu.1, nI_clamp (show j < 2 ^ 31 by omega)]
    refine tt_ixn (by omega) (by decide) (tt_ixn (by omega) (by decide) (tt_nm (tt_some (nx_l jl ⟨nx1 rfl, fun y hy => ?_⟩))))
    by_cases e : y = j
    · rw [e]
      exact upd_at
    · exact (upd_no (by omega)).trans (hu.2 y (by omega))
theorem u_undo {K n : Nat} {g kept : Nat → Int32} {ad ac : Int32} (hK : 200000 ≤ K) (hm : MI n g ad kept ac) : Tt (F_X8_undo K g kept ac) (fun x => MI n x.2.1 ad kept x.2.2) := by
  have hm' := hm
  obtain ⟨h1, h2, a, ha, rfl, h3⟩ := hm
  unfold F_X8_undo
  refine tt_ite (fun _ => tt_some hm') (fun c => ?_)
  have a0 : 0 < a := Nat.pos_of_ne_zero (fun z => c (by rw [z]; rfl))
  rw [show nI a - 1 = nI (a - 1) from xsub (b := 1) a0]
  refine tt_bd1 (P := fun x => ∀ y, y < 265 → x y = kept (265 * (a - 1) + y)) (tt_for (fun j u => u.1 = nI j ∧ ∀ y, y < j → u.2 y = kept (265 * (a - 1) + y)) 265 (by omega) ⟨rfl, fun y hy => absurd hy (Nat.not_lt_zero _)⟩ (fun j u hj hu => ?_)) (fun w hw => tt_some ⟨(h3 (a - 1) (by omega)).to (hw 84 (by decide)) (hw 75 (by decide)), h2, a - 1, by omega, rfl, fun r hr => h3 r (by omega)⟩)
  unfold B_X8_undo_21
  refine tt_ite (fun q => tt_some (nx_r (fun y hy => hu.2 y ?_))) (fun q => ?_)
  · rw [hu.1] at q
    have := (nI_leI (a := 265) (b := j) (by omega) (by omega)).mp q
    omega
  · have jl : j < 265 := lt_of_lit (by decide) (by omega) hu.1 q
    have e1 : (265 : Int32) * nI (a - 1) + nI j = nI (265 * (a - 1) + j) := by rw [show (265 : Int32) = nI 265 from rfl, nI_mul, nI_add]
    rw [hu.1, e1, nI_clamp (show 265 * (a - 1) + j < 2 ^ 31 by omega), nI_clamp (show j < 2 ^ 31 by omega)]
    refine tt_ixn (by omega) (by decide) (tt_ixn (by omega) (by decide) (tt_nm (tt_some (nx_l jl ⟨nx1 rfl, fun y hy => ?_⟩))))
    by_cases e : y = j
    · rw [e]
      exact upd_at
    · exact (upd_no (by omega)).trans (hu.2 y (by omega))
theorem kp_back {g as w x : Nat → Int32} (h1 : ∀ y, y < 84 → as y = g y) (h2 : w 84 = g 84) (h3 : (∀ y, y < 84 → x y = as y) ∧ ∀ y, 84 ≤ y → x y = w y) : Kp x g := ⟨(h3.2 84 (Nat.le_refl _)).trans h2, (h3.1 75 (by decide)).trans (h1 75 (by decide))⟩
theorem u_would {K n : Nat} {p1 p2 p3 p4 ad oc : Int32} {g sx sy ar as : Nat → Int32} (hK : 200000 ≤ K) (hn : n ≤ 8) (ha : Rw ad) : Tt (F_X8_would K p1 p2 p3 p4 g (nI n) sx sy ad oc ar as) (fun x => Kp x.2.1 g ∧ Rw x.2.2.2.2.1) := by
  unfold F_X8_would
  refine tt_bd1 (u_whyMove hn) (fun r hr => tt_ite (fun c => tt_bd1 u_in (fun _ _ => tt_ite (fun _ => tt_some ⟨Kp.refl g, ha⟩) (fun _ => ?_))) (fun _ => tt_some ⟨Kp.refl g, ha⟩))
  obtain ⟨i, hi, rfl⟩ := hr.2 c
  refine tt_bd1 (u_putAside hK) (fun w8 h8 => tt_bd7 (u_movesNow hi hK hn) (fun _ w11 _ _ w14 _ _ hx => tt_bd1 (u_bringBack hK) (fun w18 h18 => ?_)))
  have k : Kp w18 g := kp_back h8 hx.1.1 h18
  have a14 : Rw w14 := hx.2
  exact tt_ite (fun _ => tt_some ⟨k, a14⟩) (fun _ => tt_ite (fun _ => tt_some ⟨k, a14⟩) (fun _ => tt_some ⟨k, a14⟩))
theorem u_asked {K n : Nat} {p1 p2 p3 p4 ad oc : Int32} {g sx sy ar as : Nat → Int32} (hK : 200000 ≤ K) (hn : n ≤ 8) (ha : Rw ad) : Tt (F_X8_asked K p1 p2 p3 p4 g (nI n) sx sy ad oc ar as) (fun x => Kp x.2.1 g ∧ Rw x.2.2.2.2.1) := by
  unfold F_X8_asked
  refine tt_bd8 (u_would hK hn ha) (fun _ w2 _ _ w5 _ _ _ hx => ?_)
  have k : Kp w2 g := hx.1
  have a5 : Rw w5 := hx.2
  refine tt_ite (fun _ => tt_some ⟨k, a5⟩) (fun _ => tt_bd1 (u_inN (lo := 0) (hi := w5 - 1) rfl rfl) (fun r hr => tt_ite (fun _ => tt_some ⟨k, a5⟩) (fun r0 => ?_)))
  have a5' := a5
  obtain ⟨b, hb, rfl⟩ := a5
  have c := hr r0
  have b0 : 0 < b := by
    rcases Nat.eq_zero_or_pos b with rfl | h
    · exact absurd (Int32.le_trans c.1 c.2) (by decide)
    · exact h
  rw [show nI b - 1 = nI (b - 1) from xsub (b := 1) b0] at c
  obtain ⟨q, hq, rfl⟩ := in_nat (n := b - 1) (by omega) c
  exact tt_ixn (by omega) (by decide) (tt_some ⟨k, a5'⟩)
abbrev WkI (g : Nat → Int32) (j : Nat) (u : Int32 × Int32 × (Nat → Int32) × (Nat → Int32) × (Nat → Int32) × Int32 × Int32 × (Nat → Int32)) : Prop := u.2.1 = nI j ∧ u.2.2.1 84 = g 84 ∧ Rw u.2.2.2.2.2.1
abbrev WkR (g : Nat → Int32) (u : Int32 × Int32 × (Nat → Int32) × (Nat → Int32) × (Nat → Int32) × Int32 × Int32 × (Nat → Int32)) : Prop := u.2.2.1 84 = g 84 ∧ Rw u.2.2.2.2.2.1
theorem u_walkB {K n j : Nat} {p1 p2 p3 p4 x6 x7 ad oc : Int32} {g w sx sy ar : Nat → Int32} (hK : 200000 ≤ K) (hn : n ≤ 8) (hj : j ≤ 99) (h4 : ¬ nI 99 < p4) (hu : WkI g j (x6, x7, w, sx, sy, ad, oc, ar)) : Tt (B_X8_walk_49 K p1 p2 p3 p4 (nI n) x6 x7 w sx sy ad oc ar) (Nx (WkI g) (WkR g) 99 j) := by
  obtain ⟨h1, h2, h3⟩ := hu
  have h1 : x7 = nI j := h1
  have e : WkR g (x6, x7, w, sx, sy, ad, oc, ar) := ⟨h2, h3⟩
  unfold B_X8_walk_49
  refine tt_ite (fun _ => tt_some (nx_r e)) (fun q => tt_bd1 (u_whyMove hn) (fun r hr => tt_ite (fun c => ?_) (fun _ => tt_some (nx_r e))))
  obtain ⟨i, hi, rfl⟩ := hr.2 c
  exact tt_bd7 (u_movesNow hi hK hn) (fun _ _ _ _ _ _ _ hx => tt_some (nx_l (lt_of_le (by omega) (by decide) h1 h4 q) ⟨nx1 h1, hx.1.1.trans h2, hx.2⟩))
theorem u_walk {K n : Nat} {p1 p2 p3 p4 p5 ad oc : Int32} {g sx sy ar as : Nat → Int32} (hK : 200000 ≤ K) (hn : n ≤ 8) (ha : Rw ad) : Tt (F_X8_walk K p1 p2 p3 p4 p5 g (nI n) sx sy ad oc ar as) (fun x => Kp x.2.1 g ∧ Rw x.2.2.2.2.1) := by
  unfold F_X8_walk
  have ok : Kp g g ∧ Rw ad := ⟨Kp.refl g, ha⟩
  refine tt_bd1 (u_whyMove hn) (fun _ _ => tt_ite (fun _ => tt_bd1 (u_inN (lo := 1) (hi := 99) rfl rfl) (fun r4 h4 => tt_ite (fun _ => tt_some ok) (fun r0 => tt_bd1 u_in (fun _ _ => tt_ite (fun _ => tt_some ok) (fun _ => tt_bd1 (u_putAside hK) (fun w12 h12 => ?_)))))) (fun _ => tt_some ok))
  have p99 : ¬ nI 99 < p4 := fun z => lt_not.mp z (h4 r0).2
  have s0 : WkI g 0 (0, 0, g, sx, sy, ad, oc, ar) := ⟨rfl, rfl, ha⟩
  refine tt_bd8 (P := WkR g) (tt_for (WkI g) 99 (by omega) s0 (fun j u hj hu => u_walkB hK hn hj p99 hu)) (fun _ _ w28 _ _ a31 _ _ hx => ?_)
  unfold J_X8_walk_85
  refine tt_bd1 (u_bringBack hK) (fun w35 h35 => ?_)
  have k : Kp w35 g ∧ Rw a31 := ⟨kp_back h12 hx.1 h35, hx.2⟩
  exact tt_ite (fun _ => tt_some k) (fun _ => tt_ite (fun _ => tt_some k) (fun _ => tt_some k))
theorem u_draw {p : Int32} {x : Int64} (h : ¬ p ≤ 0) : Tt (F_X8_draw p x) (fun _ => True) := by
  unfold F_X8_draw
  exact tt_nzL (l_ne0 h) (tt_some trivial)
theorem u_tryOne {K n : Nat} {p1 p2 p3 p4 ad oc tk ac : Int32} {g sx sy ar kept : Nat → Int32} (hK : 200000 ≤ K) (hn : n ≤ 8) (hm : MI n g ad kept ac) : Tt (F_X8_tryOne K p1 p2 p3 p4 g (nI n) sx sy ad oc ar tk kept ac) (fun x => MI n x.1 x.2.2.2.1 x.2.2.2.2.2.2.2.1 x.2.2.2.2.2.2.2.2) := by
  unfold F_X8_tryOne
  exact tt_bd1 (u_whyNot hK hn) (fun r hr => tt_ite (fun c => tt_bd10 (u_act hK hn hm (hr.2 c)) (fun _ _ _ _ _ _ _ _ _ _ hx => tt_some hx)) (fun _ => tt_some hm))
theorem u_drawYear {K n : Nat} {ad oc tk ac : Int32} {g sx sy ar kept : Nat → Int32} {x : Int64} (hK : 200000 ≤ K) (h0 : 0 < n) (hn : n ≤ 8) (hm : MI n g ad kept ac) : Tt (F_X8_drawYear K g (nI n) sx sy ad oc ar tk kept ac x) (fun x => MI n x.1 x.2.2.2.1 x.2.2.2.2.2.2.2.1 x.2.2.2.2.2.2.2.2.1) := by
  unfold F_X8_drawYear
  have nn : ¬ nI n ≤ 0 := fun z => by
    have := (nI_leI (a := n) (b := 0) (by omega) (by omega)).mp z
    omega
  refine tt_bd2 (u_draw (by decide)) (fun _ _ _ => tt_ite (fun _ => tt_bd9 (u_tryOne hK hn hm) (fun _ _ _ _ _ _ _ _ _ hx => tt_some hx)) (fun _ => tt_bd2 (u_draw nn) (fun _ _ _ => tt_ite (fun _ => ?_) (fun _ => ?_))))
  · exact tt_bd2 (u_draw (by decide)) (fun _ _ _ => tt_bd9 (u_tryOne hK hn hm) (fun _ _ _ _ _ _ _ _ _ hx => tt_some hx))
  · exact tt_bd2 (u_draw (by decide)) (fun _ _ _ => tt_bd2 (u_draw (by decide)) (fun _ _ _ => tt_bd9 (u_tryOne hK hn hm) (fun _ _ _ _ _ _ _ _ _ hx => tt_some hx)))
abbrev YrI (n j : Nat) (u : Int32 × (Nat → Int32) × (Nat → Int32) × (Nat → Int32) × Int32 × Int32 × (Nat → Int32) × Int32 × (Nat → Int32) × Int32 × Int64) : Prop := u.1 = nI j ∧ MI n u.2.1 u.2.2.2.2.1 u.2.2.2.2.2.2.2.2.1 u.2.2.2.2.2.2.2.2.2.1
abbrev YrR (n : Nat) (x : (Nat → Int32) × (Nat → Int32) × (Nat → Int32) × Int32 × Int32 × (Nat → Int32) × Int32 × (Nat → Int32) × Int32 × Int64) : Prop := MI n x.1 x.2.2.2.1 x.2.2.2.2.2.2.2.1 x.2.2.2.2.2.2.2.2.1
theorem u_yearsB {K n j : Nat} {p1 x4 ad oc tk ac : Int32} {g sx sy ar kept : Nat → Int32} {x : Int64} (hK : 200000 ≤ K) (h0 : 0 < n) (hn : n ≤ 8) (hj : j ≤ 40) (hp : ¬ nI 40 < p1) (hu : YrI n j (x4, g, sx, sy, ad, oc, ar, tk, kept, ac, x)) : Tt (B_X8_years_29 K p1 (nI n) x4 g sx sy ad oc ar tk kept ac x) (Nx (YrI n) (YrR n) 40 j) := by
  obtain ⟨h1, h2⟩ := hu
  have h1 : x4 = nI j := h1
  have h2 : MI n g ad kept ac := h2
  unfold B_X8_years_29
  exact tt_ite (fun _ => tt_some (nx_r h2)) (fun q => tt_bd10 (u_drawYear hK h0 hn h2) (fun _ _ _ _ _ _ _ _ _ _ hx => tt_some (nx_l (lt_of_le (by omega) (by decide) h1 hp q) ⟨nx1 h1, hx⟩)))
theorem u_years {K n : Nat} {p1 ad oc tk ac : Int32} {p2 x : Int64} {g sx sy ar kept : Nat → Int32} (hK : 200000 ≤ K) (hn : n ≤ 8) (hm : MI n g ad kept ac) : Tt (F_X8_years K p1 p2 g (nI n) sx sy ad oc ar tk kept ac x) (fun x => MI n x.2.1 x.2.2.2.2.1 x.2.2.2.2.2.2.2.2.1 x.2.2.2.2.2.2.2.2.2.1) := by
  unfold F_X8_years
  refine tt_bd1 (u_isWatchN hn) (fun r hr => tt_ite (fun _ => tt_some hm) (fun r0 => tt_bd1 (u_inN (lo := 1) (hi := 40) rfl rfl) (fun r5 h5 => tt_ite (fun _ => tt_some hm) (fun r1 => ?_))))
  have s0 : YrI n 0 (0, g, sx, sy, ad, oc, ar, tk, kept, ac, p2) := ⟨rfl, hm⟩
  exact tt_bd10 (P := YrR n) (tt_for (YrI n) 40 (by omega) s0 (fun j u hj hu => u_yearsB hK (hr r0) hn hj (fun z => lt_not.mp z (h5 r1).2) hu)) (fun _ _ _ _ _ _ _ _ _ _ hx => tt_some hx)
