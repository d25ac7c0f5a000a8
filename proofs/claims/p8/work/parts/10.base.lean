/-- class numbers and slots, the classes of int, byte and long rows -/
abbrev EE : Type := va_G × ClassId × ClassId × ClassId
abbrev TY (E : EE) : List (ClassId × FieldType) := [(E.2.1, .int), (E.2.2.1, .byte), (E.2.2.2, .long)]
/-- the links among nest mates: not among the good words, so they go along as a premise -/
def nestL : List Cond := [.methodLinkNest "HushWatch" 9 ⟨"HushWatch$Tape", "<init>", "()V"⟩ "HushWatch", .fieldLinkNest "HushWatch" 81 "HushWatch$Tape" "length" "I" "HushWatch", .fieldLinkNest "HushWatch$Reader" 59 "HushWatch$Tape" "length" "I" "HushWatch", .fieldLinkNest "HushWatch$State" 31 "HushWatch$Reader" "rules" "[I" "HushWatch", .fieldLinkNest "HushWatch$State" 49 "HushWatch$Reader" "places" "[I" "HushWatch", .fieldLinkNest "HushWatch$Scripts" 26 "HushWatch$Reader" "steps" "[I" "HushWatch", .fieldLinkNest "HushWatch$State" 36 "HushWatch$Reader" "siteCount" "I" "HushWatch", .fieldLinkNest "HushWatch$Scripts" 35 "HushWatch$Reader" "stepCount" "I" "HushWatch", .methodLinkNest "HushWatch" 27 ⟨"HushWatch$Scripts", "<init>", "()V"⟩ "HushWatch", .fieldLinkNest "HushWatch" 317 "HushWatch$Scripts" "held" "I" "HushWatch", .methodLinkNest "HushWatch" 34 ⟨"HushWatch$State", "<init>", "()V"⟩ "HushWatch", .fieldLinkNest "HushWatch$History" 24 "HushWatch$State" "row" "[I" "HushWatch", .fieldLinkNest "HushWatch" 114 "HushWatch$State" "row" "[I" "HushWatch", .fieldLinkNest "HushWatch" 234 "HushWatch$State" "partners" "[I" "HushWatch", .fieldLinkNest "HushWatch" 228 "HushWatch$State" "askedCount" "I" "HushWatch", .fieldLinkNest "HushWatch" 231 "HushWatch$State" "outcome" "I" "HushWatch", .methodLinkNest "HushWatch" 47 ⟨"HushWatch$Book", "<init>", "()V"⟩ "HushWatch", .methodLinkNest "HushWatch" 57 ⟨"HushWatch$History", "<init>", "()V"⟩ "HushWatch", .fieldLinkNest "HushWatch" 201 "HushWatch$History" "held" "I" "HushWatch", .methodLinkNest "HushWatch" 64 ⟨"HushWatch$Draws", "<init>", "()V"⟩ "HushWatch", .fieldLinkNest "HushWatch" 173 "HushWatch$Draws" "x" "J" "HushWatch", .fieldLinkNest "HushWatch" 180 "HushWatch$Draws" "sort" "I" "HushWatch", .fieldLinkNest "HushWatch" 183 "HushWatch$Draws" "a" "I" "HushWatch", .fieldLinkNest "HushWatch" 186 "HushWatch$Draws" "b" "I" "HushWatch", .fieldLinkNest "HushWatch" 189 "HushWatch$Draws" "c" "I" "HushWatch", .fieldLinkNest "HushWatch$Reader" 109 "HushWatch" "NUMBERS_OF_STEP" "[I" "HushWatch", .methodLinkNest "HushWatch$State" 124 ⟨"HushWatch", "isMovable", "(II)Z"⟩ "HushWatch", .fieldLinkNest "HushWatch$Scripts" 51 "HushWatch" "SORT_OF_STEP" "[I" "HushWatch"]
def nestOk : Cond → Bool
  | .fieldLinkNest .. => true
  | .methodLinkNest .. => true
  | _ => false
theorem nestL_ok : ∀ w ∈ nestL, nestOk w = true := by decide +kernel
def NX (U : State) : Prop := ∀ w ∈ nestL, va_Nw w U
theorem nx_warm {w : Cond} (h2 : nestOk w = true) {s U : State} (hW : s.WarmedH U.vm) (h1 : va_Nw w s) : va_Nw w U := by
  cases w with
  | fieldLinkNest a i b n d h => exact va_Nw.warmF hW h1
  | methodLinkNest a i x h => exact va_Nw.warmM hW h1
  | _ => simp [nestOk] at h2
theorem nx_same {w : Cond} (h2 : nestOk w = true) {u U : State} (h : u.vm = U.vm) (h1 : va_Nw w u) : va_Nw w U := by
  cases w with
  | fieldLinkNest a i b n d h9 => exact va_Nw.same rfl h h1
  | methodLinkNest a i x h9 => exact va_Nw.same rfl h h1
  | _ => simp [nestOk] at h2
theorem NX.warm {s U : State} (hW : s.WarmedH U.vm) (h : NX s) : NX U := fun w hw => nx_warm (nestL_ok w hw) hW (h w hw)
theorem NX.same {u U : State} (h : u.vm = U.vm) (hN : NX u) : NX U := fun w hw => nx_same (nestL_ok w hw) h (hN w hw)
theorem nx_use {w : Cond} (h2 : nestOk w = true) {A : Array Value} {U : State} (h1 : va_Nw w U) : w.before A U = true := by
  cases w with
  | fieldLinkNest a i b n d h => exact va_Nw.use rfl h1
  | methodLinkNest a i x h => exact va_Nw.use rfl h1
  | _ => simp [nestOk] at h2
theorem nx {s : State} (hN : NX s) (i : Nat) {w : Cond} (hi : nestL[i]? = some w) {A : Array Value} : w.before A s = true := nx_use (nestL_ok w (List.mem_of_getElem? hi)) (hN w (List.mem_of_getElem? hi))
def kw (E : EE) (U : State) : Prop := va_K E.1 vwCl (TY E) U ∧ NX U
theorem kw.warm {E : EE} {s U : State} (hW : s.WarmedH U.vm) (h : kw E s) : kw E U := ⟨va_K.moved hW.alike h.1, h.2.warm hW⟩
theorem kw.calling {E : EE} {U : State} {g : JFrame} {mk : MethodId} {a : Array Value} (h : kw E U) : kw E (U.calling g mk a) := ⟨va_K.moved (u := U) (U := U.calling g mk a) (Vm.Alike.refl U.vm) h.1, NX.same (u := U) rfl h.2⟩
/-- a reading method's start: cells W -/
def pP (E : EE) (W : va_W) (U : State) : Prop := kw E U ∧ va_P E.1 vwCl W U.heap
/-- a writing method's start: cells W, apart; the heap's size -/
def pW (E : EE) (sz : Nat) (W : va_W) (U : State) : Prop := U.heap.size = sz ∧ kw E U ∧ va_P E.1 vwCl W U.heap ∧ va_D (fun _ => True) W
theorem pP.blind {E : EE} {W : va_W} {av : List Value} : FrameBlind (va_Pc av (pP E W)) := fun _ _ _ _ q => ⟨q.1, q.2.1.calling, q.2.2⟩
theorem pW.blind {E : EE} {sz : Nat} {W : va_W} {av : List Value} : FrameBlind (va_Pc av (pW E sz W)) := fun _ _ _ _ q => ⟨q.1, q.2.1, q.2.2.1.calling, q.2.2.2⟩
theorem pP.pre {E : EE} {W : va_W} {av : List Value} {s : State} {H : Heap} (hk : kw E s) (hP : va_P E.1 vwCl W H) : ∀ U : State, U.heap = H → s.WarmedH U.vm → va_Pc av (pP E W) av.toArray U := fun U hU hW => ⟨rfl, hk.warm hW, by rw [hU]; exact hP⟩
theorem pW.pre {E : EE} {W : va_W} {av : List Value} {s : State} {H : Heap} {A : Nat → Prop} (hk : kw E s) (hP : va_P E.1 vwCl W H) (hD : va_D A W) : ∀ U : State, U.heap = H → s.WarmedH U.vm → va_Pc av (pW E H.size W) av.toArray U := fun U hU hW => ⟨rfl, by rw [hU], hk.warm hW, by rw [hU]; exact hP, hD.weaken (fun _ _ _ _ => trivial)⟩
/-- the reference's words as numbers: statics that nobody writes -/
def ZM (A : Nat → Prop) (U : State) (H : Heap) : Prop := va_Z RX8 "LAW" "J" (.long 12343) A U H ∧ va_Z RX8 "BOUND" "J" (.long 2610628) A U H ∧ va_Z RX8 "GOAL" "J" (.long 244780) A U H ∧ va_Z RX8 "SITE" "J" (.long 632453) A U H ∧ va_Z RX8 "MOVE" "J" (.long 442053) A U H ∧ va_Z RX8 "ADD" "J" (.long 1156) A U H ∧ va_Z RX8 "SYNC" "J" (.long 648643) A U H ∧ va_Z RX8 "FREEZE" "J" (.long 220370757) A U H
theorem ZM.call {A A1 : Nat → Prop} {s U : State} {H : Heap} {locs : List Loc} (h : ZM A s s.heap) (hS : va_S A s.heap H locs) (hF : ∀ q, A1 q → A q) (hU : U.heap = H) (hW : s.WarmedH U.vm) : ZM A1 U U.heap := by
  rw [hU]
  obtain ⟨h1, h2, h3, h4, h5, h6, h7, h8⟩ := h
  exact ⟨((h1.kept hS.2.1).narrow hF).moved hW.alike, ((h2.kept hS.2.1).narrow hF).moved hW.alike, ((h3.kept hS.2.1).narrow hF).moved hW.alike, ((h4.kept hS.2.1).narrow hF).moved hW.alike, ((h5.kept hS.2.1).narrow hF).moved hW.alike, ((h6.kept hS.2.1).narrow hF).moved hW.alike, ((h7.kept hS.2.1).narrow hF).moved hW.alike, ((h8.kept hS.2.1).narrow hF).moved hW.alike⟩
theorem ZM.calling {A : Nat → Prop} {U : State} {g : JFrame} {mk : MethodId} {a : Array Value} (h : ZM A U U.heap) : ZM A (U.calling g mk a) (U.calling g mk a).heap := by
  obtain ⟨h1, h2, h3, h4, h5, h6, h7, h8⟩ := h
  exact ⟨h1.moved (Vm.Alike.refl U.vm), h2.moved (Vm.Alike.refl U.vm), h3.moved (Vm.Alike.refl U.vm), h4.moved (Vm.Alike.refl U.vm), h5.moved (Vm.Alike.refl U.vm), h6.moved (Vm.Alike.refl U.vm), h7.moved (Vm.Alike.refl U.vm), h8.moved (Vm.Alike.refl U.vm)⟩
def pWZ (E : EE) (sz : Nat) (W : va_W) (U : State) : Prop := U.heap.size = sz ∧ kw E U ∧ va_P E.1 vwCl W U.heap ∧ va_D (fun _ => True) W ∧ ZM (va_A W sz) U U.heap
theorem pWZ.blind {E : EE} {sz : Nat} {W : va_W} {av : List Value} : FrameBlind (va_Pc av (pWZ E sz W)) := fun _ _ _ _ q => ⟨q.1, q.2.1, q.2.2.1.calling, q.2.2.2.1, q.2.2.2.2.1, q.2.2.2.2.2.calling⟩
theorem pWZ.pre {E : EE} {W : va_W} {av : List Value} {s : State} {H : Heap} {A : Nat → Prop} {locs : List Loc} (hk : kw E s) (hP : va_P E.1 vwCl W H) (hD : va_D A W) (hZ : ZM A s s.heap) (hS : va_S A s.heap H locs) (hF : ∀ q, va_A W H.size q → A q) : ∀ U : State, U.heap = H → s.WarmedH U.vm → va_Pc av (pWZ E H.size W) av.toArray U := fun U hU hW => ⟨rfl, by rw [hU], hk.warm hW, by rw [hU]; exact hP, hD.weaken (fun _ _ _ _ => trivial), hZ.call hS hF hU hW⟩
theorem vin {i : Int32} {n : Nat} (h : decide (¬ (i < 0 ∨ n ≤ i.toNatClampNeg)) = true) : vp_in i n := by unfold vp_in; exact of_decide_eq_true h
theorem vin_lt {i k : Int32} {n : Nat} (h0 : ¬ i < 0) (h1 : ¬ i ≥ k) (hk : k.toInt = n) : vp_in i n := by
  unfold vp_in
  have t0 : (0 : Int32).toInt = 0 := by decide
  simp only [Int32.lt_iff_toInt_lt, ge_iff_le, Int32.le_iff_toInt_le, t0, hk] at h0 h1 ⊢
  have h2 : i.toNatClampNeg = i.toInt.toNat := rfl
  omega
theorem vin_64 {i : Int32} {a b : Int64} {n : Nat} (h : a ≤ i.toInt64 ∧ i.toInt64 ≤ b) (ha : 0 ≤ a.toInt) (hb : b.toInt + 1 = n) : vp_in i n := by
  unfold vp_in
  have t0 : (0 : Int32).toInt = 0 := by decide
  simp only [Int64.le_iff_toInt_le, Int32.toInt_toInt64] at h
  simp only [Int32.lt_iff_toInt_lt, t0]
  have h2 : i.toNatClampNeg = i.toInt.toNat := rfl
  omega
theorem lgc_lt {x y : Int64} (h : y ≤ x) : ¬ lg_cmp x y < 0 := by
  unfold lg_cmp
  by_cases h1 : y < x
  · rw [if_pos h1]; decide
  · have h2 : x = y := by
      have a := Int64.le_iff_toInt_le.mp h
      have b : ¬ y.toInt < x.toInt := fun z => h1 (Int64.lt_iff_toInt_lt.mpr z)
      exact Int64.toInt_inj.mp (by omega)
    rw [if_neg h1, if_pos h2]; decide
theorem lgc_lt2 {x y : Int64} (h : ¬ lg_cmp x y < 0) : y ≤ x := by
  unfold lg_cmp at h
  by_cases h1 : y < x
  · exact Int64.le_iff_toInt_le.mpr (Int.le_of_lt (Int64.lt_iff_toInt_lt.mp h1))
  · rw [if_neg h1] at h
    by_cases h2 : x = y
    · rw [h2]; exact Int64.le_iff_toInt_le.mpr (Int.le_refl _)
    · rw [if_neg h2] at h; exact absurd (by decide) h
theorem lgc_gt {x y : Int64} (h : x ≤ y) : ¬ lg_cmp x y > 0 := by
  unfold lg_cmp
  have h1 : ¬ y < x := fun z => by
    have a := Int64.le_iff_toInt_le.mp h
    have b := Int64.lt_iff_toInt_lt.mp z
    omega
  rw [if_neg h1]
  by_cases h2 : x = y
  · rw [if_pos h2]; decide
  · rw [if_neg h2]; decide
theorem lgc_gt2 {x y : Int64} (h : ¬ lg_cmp x y > 0) : x ≤ y := by
  unfold lg_cmp at h
  by_cases h1 : y < x
  · rw [if_pos h1] at h; exact absurd (by decide) h
  · have b : ¬ y.toInt < x.toInt := fun z => h1 (Int64.lt_iff_toInt_lt.mpr z)
    exact Int64.le_iff_toInt_le.mpr (by omega)
theorem nat_rng {x : Int32} {n : Nat} (h : 0 ≤ x.toInt ∧ x.toInt ≤ n) : ∃ j : Nat, j ≤ n ∧ x = nI j := by
  refine ⟨x.toInt.toNat, by omega, ?_⟩
  refine Int32.toInt_inj.mp ?_
  have hx : x.toInt < 2 ^ 31 := Int32.toInt_lt x
  rw [nI_toInt (by omega)]
  omega
theorem nI_mul (a b : Nat) : nI a * nI b = nI (a * b) := (Int32.ofNat_mul a b).symm
theorem upd_ne {f : Nat → Int32} {i j : Nat} {x : Int32} (h : j ≠ i) : upd f i x j = f j := by
  unfold upd
  rw [if_neg h]
theorem cpy_at {f g : Nat → Int32} {sp dp n : Int32} {k : Nat} (h1 : sp.toNatClampNeg = 0) (h2 : dp.toNatClampNeg = 0) (h3 : k < n.toNatClampNeg) : va_cpy f g sp.toNatClampNeg dp.toNatClampNeg n.toNatClampNeg k = f k := by
  unfold va_cpy
  rw [h1, h2, if_pos (by omega)]
  simp
theorem nat_bool {k : Nat} (h : k ≤ 1) : nI k = 0 ∨ nI k = 1 := by
  rcases (show k = 0 ∨ k = 1 by omega) with rfl | rfl
  · exact Or.inl rfl
  · exact Or.inr rfl
theorem nar_bool {r : Int32} (h : r = 0 ∨ r = 1) : narrow .boolean (.int r) = .int r := by
  rcases h with rfl | rfl <;> rfl
theorem nar_nat {k : Nat} (h : k ≤ 1) : narrow .boolean (.int (nI k)) = .int (nI k) := nar_bool (nat_bool h)
theorem nc_lt {a b : Nat} (ha : a < 2 ^ 31) (hb : b < 2 ^ 31) (h : nI a < nI b) : a < b := (nI_ltI ha hb).mp h
theorem nc_lt_n {a b : Nat} (ha : a < 2 ^ 31) (hb : b < 2 ^ 31) (h : ¬ nI a < nI b) : ¬ (a < b) := fun q => h ((nI_ltI ha hb).mpr q)
theorem nc_ge {a b : Nat} (ha : a < 2 ^ 31) (hb : b < 2 ^ 31) (h : nI a ≥ nI b) : b ≤ a := (nI_leI hb ha).mp h
theorem nc_ge_n {a b : Nat} (ha : a < 2 ^ 31) (hb : b < 2 ^ 31) (h : ¬ nI a ≥ nI b) : ¬ (b ≤ a) := fun q => h ((nI_leI hb ha).mpr q)
theorem nc_gt {a b : Nat} (ha : a < 2 ^ 31) (hb : b < 2 ^ 31) (h : nI a > nI b) : b < a := (nI_ltI hb ha).mp h
theorem nc_gt_n {a b : Nat} (ha : a < 2 ^ 31) (hb : b < 2 ^ 31) (h : ¬ nI a > nI b) : ¬ (b < a) := fun q => h ((nI_ltI hb ha).mpr q)
theorem nc_le {a b : Nat} (ha : a < 2 ^ 31) (hb : b < 2 ^ 31) (h : nI a ≤ nI b) : a ≤ b := (nI_leI ha hb).mp h
theorem nc_le_n {a b : Nat} (ha : a < 2 ^ 31) (hb : b < 2 ^ 31) (h : ¬ nI a ≤ nI b) : ¬ (a ≤ b) := fun q => h ((nI_leI ha hb).mpr q)
theorem nc_eq {a b : Nat} (ha : a < 2 ^ 31) (hb : b < 2 ^ 31) (h : nI a = nI b) : a = b := (nI_eq ha hb).mp h
theorem nc_eq_n {a b : Nat} (ha : a < 2 ^ 31) (hb : b < 2 ^ 31) (h : ¬ nI a = nI b) : ¬ (a = b) := fun q => h ((nI_eq ha hb).mpr q)
theorem nc_ne {a b : Nat} (ha : a < 2 ^ 31) (hb : b < 2 ^ 31) (h : ¬ nI a = nI b) : ¬ a = b := nc_eq_n ha hb h
theorem nc_ne_n {a b : Nat} (ha : a < 2 ^ 31) (hb : b < 2 ^ 31) (h : nI a = nI b) : ¬ (¬ a = b) := fun q => q (nc_eq ha hb h)
section MYC
variable {p : Program} {l : Launch} {e : Env} {R : Room} {s : State} {m : MethodId} {args : Array Value} {below : List Frame} {meth : Method} {c : Code} {H : Heap} {locs : List Loc} {cells slots : Nat} {Q : State → Prop}
variable {pc : Nat} {ls : Array Slot} {rest st0 : List Value} {a : Array Value}
/-- a call that leaves the heap as it is -/
theorem pc_i {post : Int32 → Prop} (hr : va_Run p l e R s m args below meth c H locs cells slots 0 0 (F0 m pc ls st0) rest (vp_Si post a) (fun _ => False))
    (kk : ∀ r : Int32, post r → W p l e R s m args below meth c H locs cells slots Q (F0 m (pc + 3) ls (.int r :: rest))) : W p l e R s m args below meth c H locs cells slots Q (F0 m pc ls st0) := by
  intro T hT X
  obtain ⟨v, st₀, t, T', L, h0, X', hL, e1, e2, ⟨r, hv, hp, hh⟩, st⟩ := hr T hT X
  cases hv
  obtain ⟨t2, a1, b1⟩ := kk r hp T' (by rw [e1, hh, h0]) (Stand.forget X' (fun q h => (hL q h).elim))
  exact ⟨t2, st t2 a1, b1⟩
theorem pc_l {post : Int64 → Prop} (hr : va_Run p l e R s m args below meth c H locs cells slots 0 0 (F0 m pc ls st0) rest (vp_Sl post a) (fun _ => False))
    (kk : ∀ r : Int64, post r → W p l e R s m args below meth c H locs cells slots Q (F0 m (pc + 3) ls (.long r :: rest))) : W p l e R s m args below meth c H locs cells slots Q (F0 m pc ls st0) := by
  intro T hT X
  obtain ⟨v, st₀, t, T', L, h0, X', hL, e1, e2, ⟨r, hv, hp, hh⟩, st⟩ := hr T hT X
  cases hv
  obtain ⟨t2, a1, b1⟩ := kk r hp T' (by rw [e1, hh, h0]) (Stand.forget X' (fun q h => (hL q h).elim))
  exact ⟨t2, st t2 a1, b1⟩
theorem pc_v {post : Unit → Prop} (hr : va_Run p l e R s m args below meth c H locs cells slots 0 0 (F0 m pc ls st0) rest (va_Sv post a) (fun _ => False))
    (kk : W p l e R s m args below meth c H locs cells slots Q (F0 m (pc + 3) ls rest)) : W p l e R s m args below meth c H locs cells slots Q (F0 m pc ls st0) := by
  intro T hT X
  obtain ⟨v, st₀, t, T', L, h0, X', hL, e1, e2, ⟨hv, hp, hh⟩, st⟩ := hr T hT X
  cases hv
  obtain ⟨t2, a1, b1⟩ := kk T' (by rw [e1, hh, h0]) (Stand.forget X' (fun q h => (hL q h).elim))
  exact ⟨t2, st t2 a1, b1⟩
/-- a new row of a kind that the tables name already -/
theorem nw_arr {cc : ByteArray} {D : va_G} {cl : List vw_C} {tys : List (ClassId × FieldType)} {ws : va_W} {A : Nat → Prop} {H0 : Heap} (hexec : p.tables.exec = Jvm.exec) (hb : c.code = cc) {atype : ArrayType} (harr : (Cond.arrayClass (newarray.typeOf atype)).before args s = true) {ty : FieldType} (hty : newarray.typeOf atype = ty) (hK : va_K D cl tys s) (hP : va_P D cl ws H) (hD : va_D A ws) (hS : va_S A H0 H locs) (hA : ∀ q, H0.size ≤ q → A q) (t0 : Nat) {cI : ClassId} (ht : tys[t0]? = some (cI, ty)) (hone : ∀ c1 c2, va_RA s c1 ty → va_RA s c2 ty → c1 = c2)
    {n : Int32} {N' : Nat} {a0 : vp_A} (ha : ∀ cA : ClassId, vp_cell cA a0 = arrV cA N' (fun _ => defaultValue ty)) (hn : ¬ n < 0) (hN : n.toNatClampNeg = N') (hbytes : N' * componentBytes ty ≤ 536870912) (hcells : cells + 1 ≤ R.cells) (hslots : slots + N' ≤ R.slots) (hdg : decode cc pc = .ok (.newarray atype, 2))
    (kk : ∀ (q : Nat) (H1 : Heap), va_P D cl (ws ++ [(q, .inl (cI, a0))]) H1 → va_D A (ws ++ [(q, .inl (cI, a0))]) → va_S A H0 H1 locs →
      W p l e R s m args below meth c H1 locs (cells + 1) (slots + N') Q (F0 m (pc + 2) ls (.ref q :: rest))) : W p l e R s m args below meth c H locs cells slots Q (F0 m pc ls (.int n :: rest)) := by
  refine va_newa hexec hb harr hty hK hP hD hS hA ha hn hN hbytes hcells hslots hdg (fun q cA H1 hK1 hP1 hD1 hS1 => ?_)
  have e1 : cA = cI := hone cA cI ((hK1.2 tys.length (cA, ty) (by simp)).2) ((hK.2 t0 (cI, ty) ht).2)
  subst e1
  exact kk q H1 hP1 hD1 hS1
end MYC
/-- decode rows of a method, many at once -/
def dchk (c : ByteArray) : List (Nat × Instr × Nat) → Bool
  | [] => true
  | q :: r => decide (decode c q.1 = .ok (q.2.1, q.2.2)) && dchk c r
theorem dchk_at {c : ByteArray} : ∀ {L : List (Nat × Instr × Nat)}, dchk c L = true → ∀ {k pc n : Nat} {i : Instr}, L[k]? = some (pc, i, n) → decode c pc = .ok (i, n) := by
  intro L
  induction L with
  | nil => intro _ k pc n i h; simp at h
  | cons q r ih =>
    intro h k pc n i hk
    have h : (decide (decode c q.1 = .ok (q.2.1, q.2.2)) && dchk c r) = true := h
    rw [Bool.and_eq_true] at h
    cases k with
    | zero =>
      have e : q = (pc, i, n) := Option.some.inj (by simpa using hk)
      subst e
      exact of_decide_eq_true h.1
    | succ k => exact ih h.2 (by simpa using hk)
