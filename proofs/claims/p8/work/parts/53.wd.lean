/-! words, and the token that comes next -/
def tk (n : Nat) (sg : Nat → Int32) (b : Nat) : Int32 := if sg b = -1 then 0 else if 97 ≤ sg b ∧ sg b ≤ 122 then 1 else if (48 ≤ sg b ∧ sg b ≤ 57) ∨ sg b = 45 then (if 1 ≤ nD n sg b ∧ nD n sg b ≤ 7 then 2 else 5) else if sg b = 44 then 3 else if sg b = 59 then 4 else 5
def te (n : Nat) (sg : Nat → Int32) (b : Nat) : Nat := if sg b = -1 then b else if 97 ≤ sg b ∧ sg b ≤ 122 then wE n sg b else if (48 ≤ sg b ∧ sg b ≤ 57) ∨ sg b = 45 then dE n sg b else b + 1
/-- the reference has looked at the token at b -/
def LA (n : Nat) (sg : Nat → Int32) (b : Nat) (at' part frm pn : Int32) (pw : Int64) : Prop := at' = nI (te n sg b) ∧ part = tk n sg b ∧ frm = nI b ∧ (tk n sg b = 2 → pn = nN n sg b) ∧ (tk n sg b = 1 → pw = wc sg b (wE n sg b - b))
theorem m_next {K n a : Nat} {sg tape : Nat → Int32} {pa fr pn : Int32} {pw : Int64} (h : Sg n sg) (hb : TpM n sg tape) (hK : 400 ≤ K) (ha : a ≤ n) : ∃ at' pa' fr' pn' pw', F_X8_next K tape (nI n) (nI a) pa fr pn pw = some (at', pa', fr', pn', pw') ∧ LA n sg (skp n sg a) at' pa' fr' pn' pw' := by
  have h1 := h.1
  have h2 := skp_le h ha
  unfold F_X8_next
  rw [m_skip h hb hK ha, xb1]
  generalize skp n sg a = b at h2 ⊢
  rw [m_here h hb (by omega), xb1]
  unfold LA tk te
  by_cases q0 : sg b = -1
  · rw [if_pos q0, if_pos q0, if_pos q0]
    exact ⟨_, _, _, _, _, rfl, rfl, rfl, rfl, fun z => absurd z (by decide), fun z => absurd z (by decide)⟩
  · rw [if_neg q0, if_neg q0, if_neg q0, m_isLetter, xb1]
    by_cases q1 : 97 ≤ sg b ∧ sg b ≤ 122
    · rw [if_pos q1, if_pos q1, if_pos q1, if_neg (by decide), m_readWord h hb hK h2, xb3]
      exact ⟨_, _, _, _, _, rfl, rfl, rfl, rfl, fun z => absurd z (by decide), fun _ => rfl⟩
    · rw [if_neg q1, if_neg q1, if_neg q1, if_pos rfl, m_isDigit, xb1]
      obtain ⟨X, hX, hX2⟩ := m_readNumber (pa := pa) (pn := pn) h hb hK h2
      by_cases q2 : 48 ≤ sg b ∧ sg b ≤ 57
      · rw [if_pos q2, if_neg (by decide), if_pos (Or.inl q2), if_pos (Or.inl q2), hX, xb3]
        refine ⟨_, _, _, _, _, rfl, rfl, rfl, rfl, fun z => hX2 ?_, fun z => ?_⟩
        · by_cases q3 : 1 ≤ nD n sg b ∧ nD n sg b ≤ 7
          · exact q3.2
          · rw [if_neg q3] at z; exact absurd z (by decide)
        · by_cases q3 : 1 ≤ nD n sg b ∧ nD n sg b ≤ 7
          · rw [if_pos q3] at z; exact absurd z (by decide)
          · rw [if_neg q3] at z; exact absurd z (by decide)
      · rw [if_neg q2, if_pos rfl]
        by_cases q3 : sg b = 45
        · rw [if_pos q3, if_pos (Or.inr q3), if_pos (Or.inr q3), hX, xb3]
          refine ⟨_, _, _, _, _, rfl, rfl, rfl, rfl, fun z => hX2 ?_, fun z => ?_⟩
          · by_cases q3 : 1 ≤ nD n sg b ∧ nD n sg b ≤ 7
            · exact q3.2
            · rw [if_neg q3] at z; exact absurd z (by decide)
          · by_cases q3 : 1 ≤ nD n sg b ∧ nD n sg b ≤ 7
            · rw [if_pos q3] at z; exact absurd z (by decide)
            · rw [if_neg q3] at z; exact absurd z (by decide)
        · have e9 : ¬ ((48 ≤ sg b ∧ sg b ≤ 57) ∨ sg b = 45) := fun z => z.elim q2 q3
          rw [if_neg q3, if_neg e9, if_neg e9, nI_1]
          by_cases q4 : sg b = 44
          · rw [if_pos q4, if_pos q4]
            exact ⟨_, _, _, _, _, rfl, rfl, rfl, rfl, fun z => absurd z (by decide), fun z => absurd z (by decide)⟩
          · rw [if_neg q4, if_neg q4]
            by_cases q5 : sg b = 59
            · rw [if_pos q5, if_pos q5]
              exact ⟨_, _, _, _, _, rfl, rfl, rfl, rfl, fun z => absurd z (by decide), fun z => absurd z (by decide)⟩
            · rw [if_neg q5, if_neg q5]
              exact ⟨_, _, _, _, _, rfl, rfl, rfl, rfl, fun z => absurd z (by decide), fun z => absurd z (by decide)⟩
theorem nD_0 {n b : Nat} {sg : Nat → Int32} (q2 : ¬ (48 ≤ sg b ∧ sg b ≤ 57)) (q3 : ¬ sg b = 45) : nD n sg b = 0 := by
  have e : d0 sg b = b := by unfold d0; exact if_neg q3
  have e2 : dE n sg b = b := by
    unfold dE
    rw [e]
    exact sc_no (by unfold isD; exact decide_eq_false q2)
  unfold nD
  rw [e, e2]
  omega
/-- a number's token -/
theorem tk2 {n b : Nat} {sg : Nat → Int32} : tk n sg b = 2 ↔ (1 ≤ nD n sg b ∧ nD n sg b ≤ 7) := by
  unfold tk
  by_cases q2 : 48 ≤ sg b ∧ sg b ≤ 57
  · have e0 : ¬ sg b = -1 := fun z => by rw [z] at q2; exact absurd q2 (by decide)
    have e1 : ¬ (97 ≤ sg b ∧ sg b ≤ 122) := fun z => by
      have a := z.1; have c := q2.2
      rw [Int32.le_iff_toInt_le] at a c
      rw [show (97 : Int32).toInt = 97 by decide] at a
      rw [show (57 : Int32).toInt = 57 by decide] at c
      omega
    rw [if_neg e0, if_neg e1, if_pos (Or.inl q2)]
    by_cases q : 1 ≤ nD n sg b ∧ nD n sg b ≤ 7
    · rw [if_pos q]; exact ⟨fun _ => q, fun _ => rfl⟩
    · rw [if_neg q]; exact ⟨fun z => absurd z (by decide), fun z => absurd z q⟩
  · by_cases q3 : sg b = 45
    · rw [if_neg (by rw [q3]; decide), if_neg (by rw [q3]; decide), if_pos (Or.inr q3)]
      by_cases q : 1 ≤ nD n sg b ∧ nD n sg b ≤ 7
      · rw [if_pos q]; exact ⟨fun _ => q, fun _ => rfl⟩
      · rw [if_neg q]; exact ⟨fun z => absurd z (by decide), fun z => absurd z q⟩
    · have e := nD_0 (n := n) q2 q3
      have e9 : ¬ (1 ≤ nD n sg b ∧ nD n sg b ≤ 7) := fun z => by have := z.1; omega
      rw [if_neg (show ¬ ((48 ≤ sg b ∧ sg b ≤ 57) ∨ sg b = 45) from fun z => z.elim q2 q3)]
      refine ⟨fun z => ?_, fun z => absurd z e9⟩
      exfalso
      revert z
      split
      · exact (by decide)
      · split
        · exact (by decide)
        · split
          · exact (by decide)
          · split <;> exact (by decide)
theorem tk1 {n b : Nat} {sg : Nat → Int32} : tk n sg b = 1 ↔ (97 ≤ sg b ∧ sg b ≤ 122) := by
  unfold tk
  by_cases q1 : 97 ≤ sg b ∧ sg b ≤ 122
  · have e0 : ¬ sg b = -1 := fun z => by rw [z] at q1; exact absurd q1 (by decide)
    rw [if_neg e0, if_pos q1]
    exact ⟨fun _ => q1, fun _ => rfl⟩
  · rw [if_neg q1]
    refine ⟨fun z => ?_, fun z => absurd z q1⟩
    exfalso
    revert z
    split
    · exact (by decide)
    · split
      · split <;> exact (by decide)
      · split
        · exact (by decide)
        · split <;> exact (by decide)
theorem tk0 {n b : Nat} {sg : Nat → Int32} : tk n sg b = 0 ↔ sg b = -1 := by
  unfold tk
  by_cases q1 : sg b = -1
  · rw [if_pos q1]; exact ⟨fun _ => q1, fun _ => rfl⟩
  · rw [if_neg q1]
    refine ⟨fun z => ?_, fun z => absurd z q1⟩
    exfalso
    revert z
    split
    · exact (by decide)
    · split
      · split <;> exact (by decide)
      · split
        · exact (by decide)
        · split <;> exact (by decide)
theorem tk3 {n b : Nat} {sg : Nat → Int32} : tk n sg b = 3 ↔ sg b = 44 := by
  unfold tk
  by_cases q1 : sg b = 44
  · rw [if_neg (by rw [q1]; decide), if_neg (by rw [q1]; decide), if_neg (by rw [q1]; decide), if_pos q1]
    exact ⟨fun _ => q1, fun _ => rfl⟩
  · rw [if_neg q1]
    refine ⟨fun z => ?_, fun z => absurd z q1⟩
    exfalso
    revert z
    split
    · exact (by decide)
    · split
      · exact (by decide)
      · split
        · split <;> exact (by decide)
        · split <;> exact (by decide)
theorem tk4 {n b : Nat} {sg : Nat → Int32} : tk n sg b = 4 ↔ sg b = 59 := by
  unfold tk
  by_cases q1 : sg b = 59
  · rw [if_neg (by rw [q1]; decide), if_neg (by rw [q1]; decide), if_neg (by rw [q1]; decide), if_neg (by rw [q1]; decide), if_pos q1]
    exact ⟨fun _ => q1, fun _ => rfl⟩
  · rw [if_neg q1]
    refine ⟨fun z => ?_, fun z => absurd z q1⟩
    exfalso
    revert z
    split
    · exact (by decide)
    · split
      · exact (by decide)
      · split
        · split <;> exact (by decide)
        · split <;> exact (by decide)
theorem te_le {n b : Nat} {sg : Nat → Int32} (h : Sg n sg) (hb : b ≤ n) : te n sg b ≤ n := by
  unfold te
  split
  · exact hb
  · rename_i q0
    have : b < n := Nat.lt_of_not_le (fun z => q0 (h.2.1 b z))
    split
    · exact wE_le h hb
    · split
      · exact dE_le h hb
      · omega
theorem te_w {n b : Nat} {sg : Nat → Int32} (q : 97 ≤ sg b ∧ sg b ≤ 122) : te n sg b = wE n sg b := by
  unfold te
  rw [if_neg (fun z => by rw [z] at q; exact absurd q (by decide)), if_pos q]
theorem te_n {n b : Nat} {sg : Nat → Int32} (q : 1 ≤ nD n sg b) : te n sg b = dE n sg b := by
  have q9 : (48 ≤ sg b ∧ sg b ≤ 57) ∨ sg b = 45 := by
    refine Classical.byContradiction (fun z => ?_)
    have := nD_0 (n := n) (fun a => z (Or.inl a)) (fun a => z (Or.inr a))
    omega
  unfold te
  rw [if_neg (fun z => by rw [z] at q9; exact absurd q9 (by decide)), if_neg (fun z => ?_), if_pos q9]
  rcases q9 with q9 | q9
  · have a := z.1; have c := q9.2
    rw [Int32.le_iff_toInt_le] at a c
    rw [show (97 : Int32).toInt = 97 by decide] at a
    rw [show (57 : Int32).toInt = 57 by decide] at c
    omega
  · rw [q9] at z; exact absurd z (by decide)
theorem te_s {n b : Nat} {sg : Nat → Int32} {p : Int32} (q : sg b = p) (hp : p = 44 ∨ p = 59) : te n sg b = b + 1 := by
  unfold te
  rcases hp with rfl | rfl
  · rw [if_neg (by rw [q]; decide), if_neg (by rw [q]; decide), if_neg (by rw [q]; decide)]
  · rw [if_neg (by rw [q]; decide), if_neg (by rw [q]; decide), if_neg (by rw [q]; decide)]
/-- the word at b is string i -/
def wd (n : Nat) (sg : Nat → Int32) (i b : Nat) : Bool := decide (wE n sg b - b = strL.getD i 0 ∧ ∀ j, j < strL.getD i 0 → sg (b + j) = (strB.getD i []).getD j 0)
theorem j_length : ∀ i, i < 12 → F_J0_length_8abf5 i = some (nI (strL.getD i 0)) := by decide +kernel
theorem j_charAt : ∀ i, i < 12 → ∀ j, j < strL.getD i 0 → F_J0_charAt_5068e i (nI j) = some ((strB.getD i []).getD j 0) := by decide +kernel
theorem strL_le : ∀ i, i < 12 → strL.getD i 0 ≤ 6 := by decide +kernel
theorem c_wloop {n b i : Nat} {sg bytes : Nat → Int32} (h : Sg n sg) (hb : TpC n sg bytes) (hbn : b ≤ n) (hi : i < 12) : ∀ (d j K : Nat), j + d = strL.getD i 0 → d < K → lpF (fun u9 : Int32 => B_X3_isWord_20 i (nI b) (nI n) bytes u9) K (nI j) = some (if ∀ k, k < strL.getD i 0 → j ≤ k → sg (b + k) = (strB.getD i []).getD k 0 then 1 else 0) := by
  have hl := strL_le i hi
  have h1 := h.1
  intro d
  induction d with
  | zero =>
    intro j K h2 h3
    obtain ⟨K', rfl⟩ : ∃ K', K = K' + 1 := ⟨K - 1, by omega⟩
    rw [if_pos (fun k h4 h5 => by omega)]
    refine lp_end ?_
    show B_X3_isWord_20 i (nI b) (nI n) bytes (nI j) = _
    unfold B_X3_isWord_20
    rw [xlt (by omega), j_length i hi, xb1, xle (by omega) (by omega), if_pos (by omega)]
  | succ d ih =>
    intro j K h2 h3
    obtain ⟨K', rfl⟩ : ∃ K', K = K' + 1 := ⟨K - 1, by omega⟩
    by_cases q : sg (b + j) = (strB.getD i []).getD j 0
    · have e : (∀ k, k < strL.getD i 0 → j + 1 ≤ k → sg (b + k) = (strB.getD i []).getD k 0) ↔ (∀ k, k < strL.getD i 0 → j ≤ k → sg (b + k) = (strB.getD i []).getD k 0) := by
        constructor
        · intro z k h4 h5
          by_cases e : k = j
          · rw [e]; exact q
          · exact z k h4 (by omega)
        · intro z k h4 h5; exact z k h4 (by omega)
      have := ih (j + 1) K' (by omega) (by omega)
      rw [lp_one (u' := nI (j + 1))]
      · rw [this]
        by_cases z : ∀ k, k < strL.getD i 0 → j ≤ k → sg (b + k) = (strB.getD i []).getD k 0
        · rw [if_pos z, if_pos (e.mpr z)]
        · rw [if_neg z, if_neg (fun y => z (e.mp y))]
      · show B_X3_isWord_20 i (nI b) (nI n) bytes (nI j) = _
        unfold B_X3_isWord_20
        rw [xlt (by omega), j_length i hi, xb1, xle (by omega) (by omega), if_neg (by omega), nI_add, c_sign h hb (by omega), xb1, xlt (by omega), j_charAt i hi j (by omega), xb1, if_pos q, nI_1]
    · rw [if_neg (fun z => q (z j (by omega) (Nat.le_refl _)))]
      refine lp_end ?_
      show B_X3_isWord_20 i (nI b) (nI n) bytes (nI j) = _
      unfold B_X3_isWord_20
      rw [xlt (by omega), j_length i hi, xb1, xle (by omega) (by omega), if_neg (by omega), nI_add, c_sign h hb (by omega), xb1, xlt (by omega), j_charAt i hi j (by omega), xb1, if_neg q]
theorem c_isWord {K n b i : Nat} {sg bytes : Nat → Int32} (h : Sg n sg) (hb : TpC n sg bytes) (hK : 400 ≤ K) (hbn : b ≤ n) (hi : i < 12) : F_X3_isWord K i bytes (nI n) (nI (wE n sg b)) (nI b) = some (if wd n sg i b = true then 1 else 0) := by
  have hl := strL_le i hi
  have h1 := h.1
  have h2 := wE_le h hbn
  have h3 := wE_ge h hbn
  unfold F_X3_isWord
  rw [xlt (by omega), j_length i hi, xb1, xsub h3, xeq (by omega) (by omega)]
  unfold wd
  by_cases q : wE n sg b - b = strL.getD i 0
  · rw [if_pos q, show lpF (fun u9 : Int32 => B_X3_isWord_20 i (nI b) (nI n) bytes u9) K (0 : Int32) = _ from c_wloop h hb hbn hi (strL.getD i 0) 0 K (by omega) (by omega), xb1]
    by_cases z : ∀ j, j < strL.getD i 0 → sg (b + j) = (strB.getD i []).getD j 0
    · rw [if_pos (fun k h4 _ => z k h4), if_pos (decide_eq_true ⟨q, z⟩)]; rfl
    · rw [if_neg (show ¬ (∀ k, k < strL.getD i 0 → 0 ≤ k → sg (b + k) = (strB.getD i []).getD k 0) from fun y => z (fun j h4 => y j h4 (by omega))), if_neg (show ¬ (decide (wE n sg b - b = strL.getD i 0 ∧ ∀ j, j < strL.getD i 0 → sg (b + j) = (strB.getD i []).getD j 0) = true) from fun y => z (of_decide_eq_true y).2)]; rfl
  · rw [if_neg q, if_neg (fun y => q (of_decide_eq_true y).1)]
theorem m_isWord {c pw : Int64} {pa : Int32} : F_X8_isWord c pa pw = some (if pa = 1 ∧ pw = c then 1 else 0) := by
  unfold F_X8_isWord
  by_cases q : pa = 1
  · rw [if_pos q]
    by_cases z : pw = c
    · rw [if_pos ((lg_cmp_eq pw c).mpr z), if_pos ⟨q, z⟩]
    · rw [if_neg (fun y => z ((lg_cmp_eq pw c).mp y)), if_neg (fun y => z y.2)]
  · rw [if_neg q, if_neg (fun y => q y.1)]
def cdF (i : Nat) : Int64 := ([632453, 12343, 2610628, 244780, 20141, 656049733, 441972, 657161, 442053, 1156, 648643, 220370757] : List Int64).getD i 0
def vN (dg : Nat → Nat) : Nat → Nat
  | 0 => 0
  | i + 1 => 32 * vN dg i + dg i
def encR : List Nat → Nat
  | [] => 0
  | d :: ds => 32 * encR ds + d
theorem vN_inj {dg : Nat → Nat} : ∀ (ds : List Nat) (L : Nat), (∀ d ∈ ds, 1 ≤ d ∧ d ≤ 26) → (∀ k, k < L → 1 ≤ dg k ∧ dg k ≤ 26) → vN dg L = encR ds → L = ds.length ∧ ∀ k, k < L → dg k = ds.getD (L - 1 - k) 0 := by
  intro ds
  induction ds with
  | nil =>
    intro L _ h2 h3
    cases L with
    | zero => exact ⟨rfl, fun k h => by omega⟩
    | succ L =>
      exfalso
      have a := h2 L (by omega)
      have e : 32 * vN dg L + dg L = 0 := h3
      omega
  | cons d ds ih =>
    intro L h1 h2 h3
    have hd := h1 d List.mem_cons_self
    cases L with
    | zero =>
      exfalso
      have e : 0 = 32 * encR ds + d := h3
      omega
    | succ L =>
      have a := h2 L (by omega)
      have e : 32 * vN dg L + dg L = 32 * encR ds + d := h3
      obtain ⟨e1, e2⟩ := ih L (fun x hx => h1 x (List.mem_cons_of_mem _ hx)) (fun k hk => h2 k (by omega)) (by omega)
      refine ⟨by rw [List.length_cons]; omega, fun k hk => ?_⟩
      by_cases q : k = L
      · subst q
        rw [show k + 1 - 1 - k = 0 by omega]
        show dg k = d
        omega
      · rw [e2 k (by omega), show L + 1 - 1 - k = (L - 1 - k) + 1 by omega]
        rfl
theorem vN_eq {dg : Nat → Nat} : ∀ (ds : List Nat), (∀ k, k < ds.length → dg k = ds.getD (ds.length - 1 - k) 0) → vN dg ds.length = encR ds := by
  intro ds
  induction ds with
  | nil => intro _; rfl
  | cons d ds ih =>
    intro h
    show 32 * vN dg ds.length + dg ds.length = 32 * encR ds + d
    have a := h ds.length (by rw [List.length_cons]; omega)
    rw [show (d :: ds).length - 1 - ds.length = 0 by rw [List.length_cons]; omega] at a
    rw [ih (fun k hk => ?_), a]
    · rfl
    · have c := h k (by rw [List.length_cons]; omega)
      rw [show (d :: ds).length - 1 - k = (ds.length - 1 - k) + 1 by rw [List.length_cons]; omega] at c
      exact c
theorem vN_lt {dg : Nat → Nat} : ∀ L, (∀ k, k < L → dg k ≤ 26) → vN dg L < 32 ^ L := by
  intro L
  induction L with
  | zero => intro _; exact Nat.one_pos
  | succ L ih =>
    intro h
    have a := ih (fun k hk => h k (by omega))
    have c := h L (by omega)
    show 32 * vN dg L + dg L < 32 ^ (L + 1)
    rw [Nat.pow_succ]
    omega
theorem w64 {x : Int64} {y : Int32} {v : Nat} (hx : x.toInt = (v : Int)) (hv : v < 2 ^ 40) (h1 : 97 ≤ y.toInt) (h2 : y.toInt ≤ 122) : (32 * x + y.toInt64 - 97 + 1).toInt = ((32 * v + (y.toInt.toNat - 96) : Nat) : Int) := by
  have t32 : (32 : Int64).toInt = 32 := by decide
  have t97 : (97 : Int64).toInt = 97 := by decide
  have t1 : (1 : Int64).toInt = 1 := by decide
  rw [Int64.toInt_add, Int64.toInt_sub, Int64.toInt_add, Int64.toInt_mul, t32, t97, t1, hx, Int32.toInt_toInt64]
  rw [Int.bmod_eq_of_le (n := 32 * (v : Int)) (by omega) (by omega), Int.bmod_eq_of_le (n := 32 * (v : Int) + y.toInt) (by omega) (by omega), Int.bmod_eq_of_le (n := 32 * (v : Int) + y.toInt - 97) (by omega) (by omega), Int.bmod_eq_of_le (by omega) (by omega)]
  omega
def dgF (sg : Nat → Int32) (b k : Nat) : Nat := (sg (b + k)).toInt.toNat - 96
theorem wc_vN {sg : Nat → Int32} {b : Nat} : ∀ L, L ≤ 8 → (∀ k, k < L → 97 ≤ sg (b + k) ∧ sg (b + k) ≤ 122) → (wc sg b L).toInt = ((vN (dgF sg b) L : Nat) : Int) := by
  have a97 : (97 : Int32).toInt = 97 := by decide
  have a122 : (122 : Int32).toInt = 122 := by decide
  intro L
  induction L with
  | zero => intro _ _; rfl
  | succ L ih =>
    intro h1 h2
    have e := ih (by omega) (fun k hk => h2 k (by omega))
    obtain ⟨c1, c2⟩ := h2 L (by omega)
    rw [Int32.le_iff_toInt_le, a97] at c1
    rw [Int32.le_iff_toInt_le, a122] at c2
    have hv : vN (dgF sg b) L < 32 ^ L := vN_lt L (fun k hk => by
      obtain ⟨d1, d2⟩ := h2 k (by omega)
      rw [Int32.le_iff_toInt_le, a122] at d2
      unfold dgF
      omega)
    have hp : 32 ^ L ≤ 32 ^ 8 := Nat.pow_le_pow_right (by decide) (by omega)
    have hp8 : 32 ^ 8 = 2 ^ 40 := by decide
    show (if L < 8 then 32 * wc sg b L + (sg (b + L)).toInt64 - 97 + 1 else 0 : Int64).toInt = _
    rw [if_pos (by omega), w64 e (by omega) c1 c2]
    rfl
def dsF (i : Nat) : List Nat := ((strB.getD i []).map (fun z => z.toInt.toNat - 96)).reverse
theorem ds_len : ∀ i, i < 12 → (dsF i).length = strL.getD i 0 := by decide +kernel
theorem ds_rng : ∀ i, i < 12 → ∀ d ∈ dsF i, 1 ≤ d ∧ d ≤ 26 := by decide +kernel
theorem ds_cd : ∀ i, i < 12 → (cdF i).toInt = ((encR (dsF i) : Nat) : Int) := by decide +kernel
theorem ds_at : ∀ i, i < 12 → ∀ j, j < strL.getD i 0 → (strB.getD i []).getD j 0 = nI ((dsF i).getD (strL.getD i 0 - 1 - j) 0 + 96) := by decide +kernel
theorem cd_pos : ∀ i, i < 12 → ¬ cdF i = 0 := by decide +kernel
theorem wc_long {sg : Nat → Int32} {b L : Nat} (h : 9 ≤ L) : wc sg b L = 0 := by
  obtain ⟨L', rfl⟩ : ∃ L', L = L' + 1 := ⟨L - 1, by omega⟩
  show (if L' < 8 then _ else 0 : Int64) = 0
  exact if_neg (by omega)
/-- the reference's number of a word says which string it is -/
theorem wEq {n b i : Nat} {sg : Nat → Int32} (h : Sg n sg) (hbn : b ≤ n) (hi : i < 12) : wc sg b (wE n sg b - b) = cdF i ↔ wd n sg i b = true := by
  have a97 : (97 : Int32).toInt = 97 := by decide
  have a122 : (122 : Int32).toInt = 122 := by decide
  have h3 := wE_ge h hbn
  have hl := strL_le i hi
  have hin : ∀ k, k < wE n sg b - b → 97 ≤ sg (b + k) ∧ sg (b + k) ≤ 122 := fun k hk => wE_in h hbn (by omega) (by omega)
  have hsg : ∀ k, k < wE n sg b - b → sg (b + k) = nI (dgF sg b k + 96) ∧ 1 ≤ dgF sg b k ∧ dgF sg b k ≤ 26 := fun k hk => by
    obtain ⟨c1, c2⟩ := hin k hk
    rw [Int32.le_iff_toInt_le, a97] at c1
    rw [Int32.le_iff_toInt_le, a122] at c2
    unfold dgF
    refine ⟨Int32.toInt_inj.mp ?_, by omega, by omega⟩
    rw [nI_toInt (by omega)]
    omega
  constructor
  · intro q
    have hL : wE n sg b - b ≤ 8 := Nat.le_of_not_lt (fun z => cd_pos i hi (q.symm.trans (wc_long (by omega))))
    have e := congrArg Int64.toInt q
    rw [wc_vN _ hL hin, ds_cd i hi] at e
    obtain ⟨e1, e2⟩ := vN_inj (dsF i) _ (ds_rng i hi) (fun k hk => (hsg k hk).2) (Int.ofNat_inj.mp e)
    rw [ds_len i hi] at e1
    unfold wd
    refine decide_eq_true ⟨e1, fun j hj => ?_⟩
    rw [(hsg j (by omega)).1, e2 j (by omega), ds_at i hi j hj, e1]
  · intro q
    obtain ⟨e1, e2⟩ := of_decide_eq_true (show decide _ = true from q)
    refine Int64.toInt_inj.mp ?_
    rw [wc_vN _ (by omega) hin, ds_cd i hi, e1, ← ds_len i hi]
    refine Int.ofNat_inj.mpr (vN_eq (dsF i) (fun k hk => ?_))
    rw [ds_len i hi] at hk ⊢
    have e3 := e2 k hk
    have b1 : (dsF i).getD (strL.getD i 0 - 1 - k) 0 ≤ 26 := by
      by_cases z : strL.getD i 0 - 1 - k < (dsF i).length
      · have := ds_rng i hi ((dsF i).getD (strL.getD i 0 - 1 - k) 0) (by
          rw [List.getD_eq_getElem?_getD, List.getElem?_eq_getElem z]
          exact List.getElem_mem z)
        exact this.2
      · rw [List.getD_eq_getElem?_getD, List.getElem?_eq_none (by omega)]; decide
    have b2 := (hsg k (by omega)).2.2
    rw [(hsg k (by omega)).1, ds_at i hi k hk, nI_eq (by omega) (by omega)] at e3
    omega
/-- the reference's question for a word, asked where the token at b lies ahead -/
theorem m_isW {n b i : Nat} {sg : Nat → Int32} {at' pa fr pn : Int32} {pw : Int64} (h : Sg n sg) (hbn : b ≤ n) (hi : i < 12) (hl : LA n sg b at' pa fr pn pw) : F_X8_isWord (cdF i) pa pw = some (if (97 ≤ sg b ∧ sg b ≤ 122) ∧ wd n sg i b = true then 1 else 0) := by
  obtain ⟨-, e2, -, -, e5⟩ := hl
  rw [m_isWord, e2]
  by_cases q : 97 ≤ sg b ∧ sg b ≤ 122
  · have e6 := e5 (tk1.mpr q)
    rw [e6]
    by_cases z : wd n sg i b = true
    · rw [if_pos ⟨tk1.mpr q, (wEq h hbn hi).mpr z⟩, if_pos ⟨q, z⟩]
    · rw [if_neg (fun y => z ((wEq h hbn hi).mp y.2)), if_neg (fun y => z y.2)]
  · rw [if_neg (fun y => q (tk1.mp y.1)), if_neg (fun y => q y.1)]
