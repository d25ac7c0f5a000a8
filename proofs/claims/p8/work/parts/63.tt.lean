/-! Tt x Q: x is some r, and Q r -/
def Tt {α : Type} (x : Option α) (Q : α → Prop) : Prop := ∃ r, x = some r ∧ Q r
theorem tt_some {α : Type} {r : α} {Q : α → Prop} (h : Q r) : Tt (some r) Q := ⟨r, rfl, h⟩
theorem tt_mono {α : Type} {x : Option α} {P Q : α → Prop} (h : Tt x P) (hq : ∀ r, P r → Q r) : Tt x Q := h.elim (fun r z => ⟨r, z.1, hq r z.2⟩)
theorem tt_ite {α : Type} {c : Prop} {d : Decidable c} {a b : Option α} {Q : α → Prop} (h1 : c → Tt a Q) (h2 : ¬ c → Tt b Q) : Tt (@ite (Option α) c d a b) Q := by
  by_cases q : c
  · rw [if_pos q]; exact h1 q
  · rw [if_neg q]; exact h2 q
theorem tt_nm {α β : Type} {x : α} {g : α → Option β} {Q : β → Prop} (h : Tt (g x) Q) : Tt (nmF x g) Q := h
theorem tt_ix {α : Type} {i : Int32} {n : Nat} {g : Option α} {Q : α → Prop} (hi : vp_in i n) (h : Tt g Q) : Tt (ixF i n g) Q := by rw [xix hi]; exact h
theorem tt_ixn {α : Type} {i n : Nat} {g : Option α} {Q : α → Prop} (hi : i < n) (hn : n < 2 ^ 31) (h : Tt g Q) : Tt (ixF (nI i) n g) Q := by rw [xixn hi hn]; exact h
theorem tt_cp {α : Type} {sp dp k : Int32} {n0 n1 : Nat} {g : Option α} {Q : α → Prop} (hc : ¬ sp < 0 ∧ ¬ dp < 0 ∧ ¬ k < 0 ∧ sp.toNatClampNeg + k.toNatClampNeg ≤ n0 ∧ dp.toNatClampNeg + k.toNatClampNeg ≤ n1) (h : Tt g Q) : Tt (cpF sp dp k n0 n1 g) Q := by unfold cpF; rw [if_pos hc]; exact h
theorem tt_bd1 {t0 β : Type} {x : Option (t0)} {f : t0 → Option β} {P : t0 → Prop} {Q : β → Prop} (h : Tt x P) (hf : ∀ (a0 : t0), P a0 → Tt (f a0) Q) : Tt (bd1 x f) Q := by
  obtain ⟨a0, e, p⟩ := h
  rw [e]
  exact hf a0 p
theorem tt_bd2 {t0 t1 β : Type} {x : Option (t0 × t1)} {f : t0 → t1 → Option β} {P : t0 × t1 → Prop} {Q : β → Prop} (h : Tt x P) (hf : ∀ (a0 : t0) (a1 : t1), P (a0, a1) → Tt (f a0 a1) Q) : Tt (bd2 x f) Q := by
  obtain ⟨⟨a0, a1⟩, e, p⟩ := h
  rw [e]
  exact hf a0 a1 p
theorem tt_bd3 {t0 t1 t2 β : Type} {x : Option (t0 × t1 × t2)} {f : t0 → t1 → t2 → Option β} {P : t0 × t1 × t2 → Prop} {Q : β → Prop} (h : Tt x P) (hf : ∀ (a0 : t0) (a1 : t1) (a2 : t2), P (a0, a1, a2) → Tt (f a0 a1 a2) Q) : Tt (bd3 x f) Q := by
  obtain ⟨⟨a0, a1, a2⟩, e, p⟩ := h
  rw [e]
  exact hf a0 a1 a2 p
theorem tt_bd4 {t0 t1 t2 t3 β : Type} {x : Option (t0 × t1 × t2 × t3)} {f : t0 → t1 → t2 → t3 → Option β} {P : t0 × t1 × t2 × t3 → Prop} {Q : β → Prop} (h : Tt x P) (hf : ∀ (a0 : t0) (a1 : t1) (a2 : t2) (a3 : t3), P (a0, a1, a2, a3) → Tt (f a0 a1 a2 a3) Q) : Tt (bd4 x f) Q := by
  obtain ⟨⟨a0, a1, a2, a3⟩, e, p⟩ := h
  rw [e]
  exact hf a0 a1 a2 a3 p
theorem tt_bd5 {t0 t1 t2 t3 t4 β : Type} {x : Option (t0 × t1 × t2 × t3 × t4)} {f : t0 → t1 → t2 → t3 → t4 → Option β} {P : t0 × t1 × t2 × t3 × t4 → Prop} {Q : β → Prop} (h : Tt x P) (hf : ∀ (a0 : t0) (a1 : t1) (a2 : t2) (a3 : t3) (a4 : t4), P (a0, a1, a2, a3, a4) → Tt (f a0 a1 a2 a3 a4) Q) : Tt (bd5 x f) Q := by
  obtain ⟨⟨a0, a1, a2, a3, a4⟩, e, p⟩ := h
  rw [e]
  exact hf a0 a1 a2 a3 a4 p
theorem tt_bd6 {t0 t1 t2 t3 t4 t5 β : Type} {x : Option (t0 × t1 × t2 × t3 × t4 × t5)} {f : t0 → t1 → t2 → t3 → t4 → t5 → Option β} {P : t0 × t1 × t2 × t3 × t4 × t5 → Prop} {Q : β → Prop} (h : Tt x P) (hf : ∀ (a0 : t0) (a1 : t1) (a2 : t2) (a3 : t3) (a4 : t4) (a5 : t5), P (a0, a1, a2, a3, a4, a5) → Tt (f a0 a1 a2 a3 a4 a5) Q) : Tt (bd6 x f) Q := by
  obtain ⟨⟨a0, a1, a2, a3, a4, a5⟩, e, p⟩ := h
  rw [e]
  exact hf a0 a1 a2 a3 a4 a5 p
theorem tt_bd7 {t0 t1 t2 t3 t4 t5 t6 β : Type} {x : Option (t0 × t1 × t2 × t3 × t4 × t5 × t6)} {f : t0 → t1 → t2 → t3 → t4 → t5 → t6 → Option β} {P : t0 × t1 × t2 × t3 × t4 × t5 × t6 → Prop} {Q : β → Prop} (h : Tt x P) (hf : ∀ (a0 : t0) (a1 : t1) (a2 : t2) (a3 : t3) (a4 : t4) (a5 : t5) (a6 : t6), P (a0, a1, a2, a3, a4, a5, a6) → Tt (f a0 a1 a2 a3 a4 a5 a6) Q) : Tt (bd7 x f) Q := by
  obtain ⟨⟨a0, a1, a2, a3, a4, a5, a6⟩, e, p⟩ := h
  rw [e]
  exact hf a0 a1 a2 a3 a4 a5 a6 p
theorem tt_bd8 {t0 t1 t2 t3 t4 t5 t6 t7 β : Type} {x : Option (t0 × t1 × t2 × t3 × t4 × t5 × t6 × t7)} {f : t0 → t1 → t2 → t3 → t4 → t5 → t6 → t7 → Option β} {P : t0 × t1 × t2 × t3 × t4 × t5 × t6 × t7 → Prop} {Q : β → Prop} (h : Tt x P) (hf : ∀ (a0 : t0) (a1 : t1) (a2 : t2) (a3 : t3) (a4 : t4) (a5 : t5) (a6 : t6) (a7 : t7), P (a0, a1, a2, a3, a4, a5, a6, a7) → Tt (f a0 a1 a2 a3 a4 a5 a6 a7) Q) : Tt (bd8 x f) Q := by
  obtain ⟨⟨a0, a1, a2, a3, a4, a5, a6, a7⟩, e, p⟩ := h
  rw [e]
  exact hf a0 a1 a2 a3 a4 a5 a6 a7 p
theorem tt_bd9 {t0 t1 t2 t3 t4 t5 t6 t7 t8 β : Type} {x : Option (t0 × t1 × t2 × t3 × t4 × t5 × t6 × t7 × t8)} {f : t0 → t1 → t2 → t3 → t4 → t5 → t6 → t7 → t8 → Option β} {P : t0 × t1 × t2 × t3 × t4 × t5 × t6 × t7 × t8 → Prop} {Q : β → Prop} (h : Tt x P) (hf : ∀ (a0 : t0) (a1 : t1) (a2 : t2) (a3 : t3) (a4 : t4) (a5 : t5) (a6 : t6) (a7 : t7) (a8 : t8), P (a0, a1, a2, a3, a4, a5, a6, a7, a8) → Tt (f a0 a1 a2 a3 a4 a5 a6 a7 a8) Q) : Tt (bd9 x f) Q := by
  obtain ⟨⟨a0, a1, a2, a3, a4, a5, a6, a7, a8⟩, e, p⟩ := h
  rw [e]
  exact hf a0 a1 a2 a3 a4 a5 a6 a7 a8 p
theorem tt_bd10 {t0 t1 t2 t3 t4 t5 t6 t7 t8 t9 β : Type} {x : Option (t0 × t1 × t2 × t3 × t4 × t5 × t6 × t7 × t8 × t9)} {f : t0 → t1 → t2 → t3 → t4 → t5 → t6 → t7 → t8 → t9 → Option β} {P : t0 × t1 × t2 × t3 × t4 × t5 × t6 × t7 × t8 × t9 → Prop} {Q : β → Prop} (h : Tt x P) (hf : ∀ (a0 : t0) (a1 : t1) (a2 : t2) (a3 : t3) (a4 : t4) (a5 : t5) (a6 : t6) (a7 : t7) (a8 : t8) (a9 : t9), P (a0, a1, a2, a3, a4, a5, a6, a7, a8, a9) → Tt (f a0 a1 a2 a3 a4 a5 a6 a7 a8 a9) Q) : Tt (bd10 x f) Q := by
  obtain ⟨⟨a0, a1, a2, a3, a4, a5, a6, a7, a8, a9⟩, e, p⟩ := h
  rw [e]
  exact hf a0 a1 a2 a3 a4 a5 a6 a7 a8 a9 p
theorem tt_bd11 {t0 t1 t2 t3 t4 t5 t6 t7 t8 t9 t10 β : Type} {x : Option (t0 × t1 × t2 × t3 × t4 × t5 × t6 × t7 × t8 × t9 × t10)} {f : t0 → t1 → t2 → t3 → t4 → t5 → t6 → t7 → t8 → t9 → t10 → Option β} {P : t0 × t1 × t2 × t3 × t4 × t5 × t6 × t7 × t8 × t9 × t10 → Prop} {Q : β → Prop} (h : Tt x P) (hf : ∀ (a0 : t0) (a1 : t1) (a2 : t2) (a3 : t3) (a4 : t4) (a5 : t5) (a6 : t6) (a7 : t7) (a8 : t8) (a9 : t9) (a10 : t10), P (a0, a1, a2, a3, a4, a5, a6, a7, a8, a9, a10) → Tt (f a0 a1 a2 a3 a4 a5 a6 a7 a8 a9 a10) Q) : Tt (bd11 x f) Q := by
  obtain ⟨⟨a0, a1, a2, a3, a4, a5, a6, a7, a8, a9, a10⟩, e, p⟩ := h
  rw [e]
  exact hf a0 a1 a2 a3 a4 a5 a6 a7 a8 a9 a10 p
theorem tt_bd12 {t0 t1 t2 t3 t4 t5 t6 t7 t8 t9 t10 t11 β : Type} {x : Option (t0 × t1 × t2 × t3 × t4 × t5 × t6 × t7 × t8 × t9 × t10 × t11)} {f : t0 → t1 → t2 → t3 → t4 → t5 → t6 → t7 → t8 → t9 → t10 → t11 → Option β} {P : t0 × t1 × t2 × t3 × t4 × t5 × t6 × t7 × t8 × t9 × t10 × t11 → Prop} {Q : β → Prop} (h : Tt x P) (hf : ∀ (a0 : t0) (a1 : t1) (a2 : t2) (a3 : t3) (a4 : t4) (a5 : t5) (a6 : t6) (a7 : t7) (a8 : t8) (a9 : t9) (a10 : t10) (a11 : t11), P (a0, a1, a2, a3, a4, a5, a6, a7, a8, a9, a10, a11) → Tt (f a0 a1 a2 a3 a4 a5 a6 a7 a8 a9 a10 a11) Q) : Tt (bd12 x f) Q := by
  obtain ⟨⟨a0, a1, a2, a3, a4, a5, a6, a7, a8, a9, a10, a11⟩, e, p⟩ := h
  rw [e]
  exact hf a0 a1 a2 a3 a4 a5 a6 a7 a8 a9 a10 a11 p
theorem tt_bd13 {t0 t1 t2 t3 t4 t5 t6 t7 t8 t9 t10 t11 t12 β : Type} {x : Option (t0 × t1 × t2 × t3 × t4 × t5 × t6 × t7 × t8 × t9 × t10 × t11 × t12)} {f : t0 → t1 → t2 → t3 → t4 → t5 → t6 → t7 → t8 → t9 → t10 → t11 → t12 → Option β} {P : t0 × t1 × t2 × t3 × t4 × t5 × t6 × t7 × t8 × t9 × t10 × t11 × t12 → Prop} {Q : β → Prop} (h : Tt x P) (hf : ∀ (a0 : t0) (a1 : t1) (a2 : t2) (a3 : t3) (a4 : t4) (a5 : t5) (a6 : t6) (a7 : t7) (a8 : t8) (a9 : t9) (a10 : t10) (a11 : t11) (a12 : t12), P (a0, a1, a2, a3, a4, a5, a6, a7, a8, a9, a10, a11, a12) → Tt (f a0 a1 a2 a3 a4 a5 a6 a7 a8 a9 a10 a11 a12) Q) : Tt (bd13 x f) Q := by
  obtain ⟨⟨a0, a1, a2, a3, a4, a5, a6, a7, a8, a9, a10, a11, a12⟩, e, p⟩ := h
  rw [e]
  exact hf a0 a1 a2 a3 a4 a5 a6 a7 a8 a9 a10 a11 a12 p
theorem tt_bd14 {t0 t1 t2 t3 t4 t5 t6 t7 t8 t9 t10 t11 t12 t13 β : Type} {x : Option (t0 × t1 × t2 × t3 × t4 × t5 × t6 × t7 × t8 × t9 × t10 × t11 × t12 × t13)} {f : t0 → t1 → t2 → t3 → t4 → t5 → t6 → t7 → t8 → t9 → t10 → t11 → t12 → t13 → Option β} {P : t0 × t1 × t2 × t3 × t4 × t5 × t6 × t7 × t8 × t9 × t10 × t11 × t12 × t13 → Prop} {Q : β → Prop} (h : Tt x P) (hf : ∀ (a0 : t0) (a1 : t1) (a2 : t2) (a3 : t3) (a4 : t4) (a5 : t5) (a6 : t6) (a7 : t7) (a8 : t8) (a9 : t9) (a10 : t10) (a11 : t11) (a12 : t12) (a13 : t13), P (a0, a1, a2, a3, a4, a5, a6, a7, a8, a9, a10, a11, a12, a13) → Tt (f a0 a1 a2 a3 a4 a5 a6 a7 a8 a9 a10 a11 a12 a13) Q) : Tt (bd14 x f) Q := by
  obtain ⟨⟨a0, a1, a2, a3, a4, a5, a6, a7, a8, a9, a10, a11, a12, a13⟩, e, p⟩ := h
  rw [e]
  exact hf a0 a1 a2 a3 a4 a5 a6 a7 a8 a9 a10 a11 a12 a13 p
theorem tt_bd15 {t0 t1 t2 t3 t4 t5 t6 t7 t8 t9 t10 t11 t12 t13 t14 β : Type} {x : Option (t0 × t1 × t2 × t3 × t4 × t5 × t6 × t7 × t8 × t9 × t10 × t11 × t12 × t13 × t14)} {f : t0 → t1 → t2 → t3 → t4 → t5 → t6 → t7 → t8 → t9 → t10 → t11 → t12 → t13 → t14 → Option β} {P : t0 × t1 × t2 × t3 × t4 × t5 × t6 × t7 × t8 × t9 × t10 × t11 × t12 × t13 × t14 → Prop} {Q : β → Prop} (h : Tt x P) (hf : ∀ (a0 : t0) (a1 : t1) (a2 : t2) (a3 : t3) (a4 : t4) (a5 : t5) (a6 : t6) (a7 : t7) (a8 : t8) (a9 : t9) (a10 : t10) (a11 : t11) (a12 : t12) (a13 : t13) (a14 : t14), P (a0, a1, a2, a3, a4, a5, a6, a7, a8, a9, a10, a11, a12, a13, a14) → Tt (f a0 a1 a2 a3 a4 a5 a6 a7 a8 a9 a10 a11 a12 a13 a14) Q) : Tt (bd15 x f) Q := by
  obtain ⟨⟨a0, a1, a2, a3, a4, a5, a6, a7, a8, a9, a10, a11, a12, a13, a14⟩, e, p⟩ := h
  rw [e]
  exact hf a0 a1 a2 a3 a4 a5 a6 a7 a8 a9 a10 a11 a12 a13 a14 p
theorem tt_bd16 {t0 t1 t2 t3 t4 t5 t6 t7 t8 t9 t10 t11 t12 t13 t14 t15 β : Type} {x : Option (t0 × t1 × t2 × t3 × t4 × t5 × t6 × t7 × t8 × t9 × t10 × t11 × t12 × t13 × t14 × t15)} {f : t0 → t1 → t2 → t3 → t4 → t5 → t6 → t7 → t8 → t9 → t10 → t11 → t12 → t13 → t14 → t15 → Option β} {P : t0 × t1 × t2 × t3 × t4 × t5 × t6 × t7 × t8 × t9 × t10 × t11 × t12 × t13 × t14 × t15 → Prop} {Q : β → Prop} (h : Tt x P) (hf : ∀ (a0 : t0) (a1 : t1) (a2 : t2) (a3 : t3) (a4 : t4) (a5 : t5) (a6 : t6) (a7 : t7) (a8 : t8) (a9 : t9) (a10 : t10) (a11 : t11) (a12 : t12) (a13 : t13) (a14 : t14) (a15 : t15), P (a0, a1, a2, a3, a4, a5, a6, a7, a8, a9, a10, a11, a12, a13, a14, a15) → Tt (f a0 a1 a2 a3 a4 a5 a6 a7 a8 a9 a10 a11 a12 a13 a14 a15) Q) : Tt (bd16 x f) Q := by
  obtain ⟨⟨a0, a1, a2, a3, a4, a5, a6, a7, a8, a9, a10, a11, a12, a13, a14, a15⟩, e, p⟩ := h
  rw [e]
  exact hf a0 a1 a2 a3 a4 a5 a6 a7 a8 a9 a10 a11 a12 a13 a14 a15 p
theorem tt_bd17 {t0 t1 t2 t3 t4 t5 t6 t7 t8 t9 t10 t11 t12 t13 t14 t15 t16 β : Type} {x : Option (t0 × t1 × t2 × t3 × t4 × t5 × t6 × t7 × t8 × t9 × t10 × t11 × t12 × t13 × t14 × t15 × t16)} {f : t0 → t1 → t2 → t3 → t4 → t5 → t6 → t7 → t8 → t9 → t10 → t11 → t12 → t13 → t14 → t15 → t16 → Option β} {P : t0 × t1 × t2 × t3 × t4 × t5 × t6 × t7 × t8 × t9 × t10 × t11 × t12 × t13 × t14 × t15 × t16 → Prop} {Q : β → Prop} (h : Tt x P) (hf : ∀ (a0 : t0) (a1 : t1) (a2 : t2) (a3 : t3) (a4 : t4) (a5 : t5) (a6 : t6) (a7 : t7) (a8 : t8) (a9 : t9) (a10 : t10) (a11 : t11) (a12 : t12) (a13 : t13) (a14 : t14) (a15 : t15) (a16 : t16), P (a0, a1, a2, a3, a4, a5, a6, a7, a8, a9, a10, a11, a12, a13, a14, a15, a16) → Tt (f a0 a1 a2 a3 a4 a5 a6 a7 a8 a9 a10 a11 a12 a13 a14 a15 a16) Q) : Tt (bd17 x f) Q := by
  obtain ⟨⟨a0, a1, a2, a3, a4, a5, a6, a7, a8, a9, a10, a11, a12, a13, a14, a15, a16⟩, e, p⟩ := h
  rw [e]
  exact hf a0 a1 a2 a3 a4 a5 a6 a7 a8 a9 a10 a11 a12 a13 a14 a15 a16 p
theorem tt_bd18 {t0 t1 t2 t3 t4 t5 t6 t7 t8 t9 t10 t11 t12 t13 t14 t15 t16 t17 β : Type} {x : Option (t0 × t1 × t2 × t3 × t4 × t5 × t6 × t7 × t8 × t9 × t10 × t11 × t12 × t13 × t14 × t15 × t16 × t17)} {f : t0 → t1 → t2 → t3 → t4 → t5 → t6 → t7 → t8 → t9 → t10 → t11 → t12 → t13 → t14 → t15 → t16 → t17 → Option β} {P : t0 × t1 × t2 × t3 × t4 × t5 × t6 × t7 × t8 × t9 × t10 × t11 × t12 × t13 × t14 × t15 × t16 × t17 → Prop} {Q : β → Prop} (h : Tt x P) (hf : ∀ (a0 : t0) (a1 : t1) (a2 : t2) (a3 : t3) (a4 : t4) (a5 : t5) (a6 : t6) (a7 : t7) (a8 : t8) (a9 : t9) (a10 : t10) (a11 : t11) (a12 : t12) (a13 : t13) (a14 : t14) (a15 : t15) (a16 : t16) (a17 : t17), P (a0, a1, a2, a3, a4, a5, a6, a7, a8, a9, a10, a11, a12, a13, a14, a15, a16, a17) → Tt (f a0 a1 a2 a3 a4 a5 a6 a7 a8 a9 a10 a11 a12 a13 a14 a15 a16 a17) Q) : Tt (bd18 x f) Q := by
  obtain ⟨⟨a0, a1, a2, a3, a4, a5, a6, a7, a8, a9, a10, a11, a12, a13, a14, a15, a16, a17⟩, e, p⟩ := h
  rw [e]
  exact hf a0 a1 a2 a3 a4 a5 a6 a7 a8 a9 a10 a11 a12 a13 a14 a15 a16 a17 p
theorem tt_bd19 {t0 t1 t2 t3 t4 t5 t6 t7 t8 t9 t10 t11 t12 t13 t14 t15 t16 t17 t18 β : Type} {x : Option (t0 × t1 × t2 × t3 × t4 × t5 × t6 × t7 × t8 × t9 × t10 × t11 × t12 × t13 × t14 × t15 × t16 × t17 × t18)} {f : t0 → t1 → t2 → t3 → t4 → t5 → t6 → t7 → t8 → t9 → t10 → t11 → t12 → t13 → t14 → t15 → t16 → t17 → t18 → Option β} {P : t0 × t1 × t2 × t3 × t4 × t5 × t6 × t7 × t8 × t9 × t10 × t11 × t12 × t13 × t14 × t15 × t16 × t17 × t18 → Prop} {Q : β → Prop} (h : Tt x P) (hf : ∀ (a0 : t0) (a1 : t1) (a2 : t2) (a3 : t3) (a4 : t4) (a5 : t5) (a6 : t6) (a7 : t7) (a8 : t8) (a9 : t9) (a10 : t10) (a11 : t11) (a12 : t12) (a13 : t13) (a14 : t14) (a15 : t15) (a16 : t16) (a17 : t17) (a18 : t18), P (a0, a1, a2, a3, a4, a5, a6, a7, a8, a9, a10, a11, a12, a13, a14, a15, a16, a17, a18) → Tt (f a0 a1 a2 a3 a4 a5 a6 a7 a8 a9 a10 a11 a12 a13 a14 a15 a16 a17 a18) Q) : Tt (bd19 x f) Q := by
  obtain ⟨⟨a0, a1, a2, a3, a4, a5, a6, a7, a8, a9, a10, a11, a12, a13, a14, a15, a16, a17, a18⟩, e, p⟩ := h
  rw [e]
  exact hf a0 a1 a2 a3 a4 a5 a6 a7 a8 a9 a10 a11 a12 a13 a14 a15 a16 a17 a18 p
def Nx {σ ρ : Type} (I : Nat → σ → Prop) (R : ρ → Prop) (n j : Nat) : σ ⊕ ρ → Prop
  | .inl u => j < n ∧ I (j + 1) u
  | .inr r => R r
theorem nx_l {σ ρ : Type} {I : Nat → σ → Prop} {R : ρ → Prop} {n j : Nat} {u : σ} (h1 : j < n) (h2 : I (j + 1) u) : Nx I R n j (.inl u) := ⟨h1, h2⟩
theorem nx_r {σ ρ : Type} {I : Nat → σ → Prop} {R : ρ → Prop} {n j : Nat} {r : ρ} (h : R r) : Nx I R n j (.inr r) := h
theorem tt_forA {σ ρ : Type} {b : σ → Option (σ ⊕ ρ)} {R : ρ → Prop} (I : Nat → σ → Prop) {n : Nat} (h : ∀ j u, j ≤ n → I j u → Tt (b u) (Nx I R n j)) : ∀ (K j : Nat) (u : σ), j ≤ n → n - j < K → I j u → Tt (lpF b K u) R := by
  intro K
  induction K with
  | zero => intro j u h0 h1; omega
  | succ K ih =>
    intro j u h0 h1 h2
    obtain ⟨x, e, p⟩ := h j u h0 h2
    cases x with
    | inl u' =>
      rw [lp_one e]
      have p1 : j < n := p.1
      exact ih (j + 1) u' (by omega) (by omega) p.2
    | inr r =>
      rw [lp_end e]
      exact ⟨r, rfl, p⟩
/-- a loop that counts -/
theorem tt_for {σ ρ : Type} {b : σ → Option (σ ⊕ ρ)} {R : ρ → Prop} (I : Nat → σ → Prop) (n : Nat) {K : Nat} {u : σ} (hK : n < K) (h0 : I 0 u) (h : ∀ j u, j ≤ n → I j u → Tt (b u) (Nx I R n j)) : Tt (lpF b K u) R := tt_forA I h K 0 u (Nat.zero_le _) (by omega) h0
/-- a number of sites -/
def Rw (x : Int32) : Prop := ∃ k, k ≤ 8 ∧ x = nI k
theorem rw_lt {f3 r x : Int32} {j : Nat} (h : Rw f3) (hr : r = f3) (hx : x = nI j) (hj : j ≤ 8) (q : ¬ r ≤ x) : j < 8 := by
  obtain ⟨k, hk, e⟩ := h
  rw [hr, e, hx] at q
  have := mt (nI_leI (a := k) (b := j) (by omega) (by omega)).mpr q
  omega
theorem nx1 {x : Int32} {j : Nat} (hx : x = nI j) : x + 1 = nI (j + 1) := by rw [hx, nI_1]
theorem nnI {p : Int32} {n : Nat} (hn : n < 2 ^ 31) (h1 : ¬ p < 0) (h2 : ¬ nI n ≤ p) : ∃ a, a < n ∧ p = nI a := by
  have z : (0 : Int32).toInt = 0 := rfl
  have h0 : 0 ≤ p.toInt := by
    have := mt Int32.lt_iff_toInt_lt.mpr h1
    omega
  have e : p = nI p.toNatClampNeg := by
    apply Int32.toInt_inj.mp
    rw [nI_toInt (by have := Int32.toInt_lt p; unfold Int32.toNatClampNeg; omega)]
    unfold Int32.toNatClampNeg
    omega
  refine ⟨p.toNatClampNeg, ?_, e⟩
  have hb : p.toNatClampNeg < 2 ^ 31 := by have := Int32.toInt_lt p; unfold Int32.toNatClampNeg; omega
  rw [e] at h2
  have := mt (nI_leI (a := n) (b := p.toNatClampNeg) hn hb).mpr h2
  omega
