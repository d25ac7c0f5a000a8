
def strR : List (String × Nat × String) := [("HushWatch$Reader", 74, "site"), ("HushWatch$Reader", 100, "law"), ("HushWatch$Reader", 102, "bound"), ("HushWatch$Reader", 104, "goal"), ("HushWatch$Reader", 132, "sum"), ("HushWatch$Reader", 134, "square"), ("HushWatch$Reader", 136, "most"), ("HushWatch$Reader", 138, "taxi"), ("HushWatch$Reader", 121, "move"), ("HushWatch$Reader", 123, "add"), ("HushWatch$Reader", 125, "sync"), ("HushWatch$Reader", 127, "freeze"), ("HushWatch", 268, "site "), ("HushWatch", 277, " at "), ("HushWatch", 125, "no such site, or nothing such to tell of it")]
def strL : List Nat := [4, 3, 5, 4, 3, 6, 4, 4, 4, 3, 4, 6, 5, 4, 43]
def strB : List (List Int32) := [[115, 105, 116, 101], [108, 97, 119], [98, 111, 117, 110, 100], [103, 111, 97, 108], [115, 117, 109], [115, 113, 117, 97, 114, 101], [109, 111, 115, 116], [116, 97, 120, 105], [109, 111, 118, 101], [97, 100, 100], [115, 121, 110, 99], [102, 114, 101, 101, 122, 101], [115, 105, 116, 101, 32], [32, 97, 116, 32], [110, 111, 32, 115, 117, 99, 104, 32, 115, 105, 116, 101, 44, 32, 111, 114, 32, 110, 111, 116, 104, 105, 110, 103, 32, 115, 117, 99, 104, 32, 116, 111, 32, 116, 101, 108, 108, 32, 111, 102, 32, 105, 116]]
def nosF (j : Nat) : Int32 := ([3, 2, 1, 1, 0, 1, 1] : List Int32).getD j 0
def sosF (j : Nat) : Int32 := ([0, 4, 2, 3, 1, 5, 6] : List Int32).getD j 0
def onesF (j : Nat) : Int32 := ([48, 49, 50, 51, 52, 53, 54, 55, 56, 57, 48, 49, 50, 51, 52, 53, 54, 55, 56, 57, 48, 49, 50, 51, 52, 53, 54, 55, 56, 57, 48, 49, 50, 51, 52, 53, 54, 55, 56, 57, 48, 49, 50, 51, 52, 53, 54, 55, 56, 57, 48, 49, 50, 51, 52, 53, 54, 55, 56, 57, 48, 49, 50, 51, 52, 53, 54, 55, 56, 57, 48, 49, 50, 51, 52, 53, 54, 55, 56, 57, 48, 49, 50, 51, 52, 53, 54, 55, 56, 57, 48, 49, 50, 51, 52, 53, 54, 55, 56, 57] : List Int32).getD j 0
def tensF (j : Nat) : Int32 := ([48, 48, 48, 48, 48, 48, 48, 48, 48, 48, 49, 49, 49, 49, 49, 49, 49, 49, 49, 49, 50, 50, 50, 50, 50, 50, 50, 50, 50, 50, 51, 51, 51, 51, 51, 51, 51, 51, 51, 51, 52, 52, 52, 52, 52, 52, 52, 52, 52, 52, 53, 53, 53, 53, 53, 53, 53, 53, 53, 53, 54, 54, 54, 54, 54, 54, 54, 54, 54, 54, 55, 55, 55, 55, 55, 55, 55, 55, 55, 55, 56, 56, 56, 56, 56, 56, 56, 56, 56, 56, 57, 57, 57, 57, 57, 57, 57, 57, 57, 57] : List Int32).getD j 0
def ZC (z : Nat → Nat) (A : Nat → Prop) (U : State) (H : Heap) : Prop := va_Z RX7 "NUMBERS_OF_STEP" "[I" (.ref (z 0)) A U H ∧ va_T .int (z 0) 7 (fun j => .int (nosF j)) A U H ∧ va_Z RX7 "SORT_OF_STEP" "[I" (.ref (z 1)) A U H ∧ va_T .int (z 1) 7 (fun j => .int (sosF j)) A U H
def ZJ (z : Nat → Nat) (A : Nat → Prop) (U : State) (H : Heap) : Prop := va_Z "java/lang/String" "COMPACT_STRINGS" "Z" (.int 1) A U H ∧ va_Z "java/lang/Integer" "DigitOnes" "[B" (.ref (z 2)) A U H ∧ va_T .byte (z 2) 100 (fun j => .int (onesF j)) A U H ∧ va_Z "java/lang/Integer" "DigitTens" "[B" (.ref (z 3)) A U H ∧ va_T .byte (z 3) 100 (fun j => .int (tensF j)) A U H ∧ va_Zq "jdk/internal/util/Preconditions" "SIOOBE_FORMATTER" "Ljava/util/function/BiFunction;" A U H
def ZR (z : Nat → Nat) (U : State) : Prop := ∀ (i : Nat) (q : String × Nat × String), strR[i]? = some q → vk_R q.1 q.2.1 q.2.2 (z (20 + i)) U
/-- all that is read and never written: statics, string constants -/
def ZZ (z : Nat → Nat) (A : Nat → Prop) (U : State) (H : Heap) : Prop := ZM A U H ∧ ZC z A U H ∧ ZJ z A U H ∧ vk_S 15 strL strB (fun i => z (20 + i)) (fun i => z (40 + i)) A U H ∧ ZR z U
theorem zq_map {C n d : String} {A B : Nat → Prop} {u U : State} {H H1 : Heap} (hk : ∀ v : Value, va_Z C n d v A u H → va_Z C n d v B U H1) (h : va_Zq C n d A u H) : va_Zq C n d B U H1 := by
  rcases h with h | ⟨t, h⟩
  · exact Or.inl (hk _ h)
  · exact Or.inr ⟨t, hk _ h⟩
theorem ZZ.call {z : Nat → Nat} {A A1 : Nat → Prop} {s U : State} {H : Heap} {locs : List Loc} (h : ZZ z A s s.heap) (hS : va_S A s.heap H locs) (hF : ∀ q, A1 q → A q) (hU : U.heap = H) (hW : s.WarmedH U.vm) : ZZ z A1 U U.heap := by
  obtain ⟨h0, ⟨c1, c2, c3, c4⟩, ⟨j1, j2, j3, j4, j5, j6⟩, hs, hr⟩ := h
  refine ⟨h0.call hS hF hU hW, ?_, ?_, ?_, fun i q e => vk_R.warm hW (hr i q e)⟩
  · rw [hU]
    exact ⟨((c1.kept hS.2.1).narrow hF).moved hW.alike, ((c2.kept hS.2.1).narrow hF).moved hW.alike, ((c3.kept hS.2.1).narrow hF).moved hW.alike, ((c4.kept hS.2.1).narrow hF).moved hW.alike⟩
  · rw [hU]
    exact ⟨((j1.kept hS.2.1).narrow hF).moved hW.alike, ((j2.kept hS.2.1).narrow hF).moved hW.alike, ((j3.kept hS.2.1).narrow hF).moved hW.alike, ((j4.kept hS.2.1).narrow hF).moved hW.alike, ((j5.kept hS.2.1).narrow hF).moved hW.alike, zq_map (fun v q => ((q.kept hS.2.1).narrow hF).moved hW.alike) j6⟩
  · rw [hU]
    exact ((hs.kept hS.2.1).narrow hF).moved hW.alike
theorem ZZ.calling {z : Nat → Nat} {A : Nat → Prop} {U : State} {g : JFrame} {mk : MethodId} {a : Array Value} (h : ZZ z A U U.heap) : ZZ z A (U.calling g mk a) (U.calling g mk a).heap := by
  obtain ⟨h0, ⟨c1, c2, c3, c4⟩, ⟨j1, j2, j3, j4, j5, j6⟩, hs, hr⟩ := h
  exact ⟨h0.calling, ⟨c1.moved (Vm.Alike.refl U.vm), c2.moved (Vm.Alike.refl U.vm), c3.moved (Vm.Alike.refl U.vm), c4.moved (Vm.Alike.refl U.vm)⟩, ⟨j1.moved (Vm.Alike.refl U.vm), j2.moved (Vm.Alike.refl U.vm), j3.moved (Vm.Alike.refl U.vm), j4.moved (Vm.Alike.refl U.vm), j5.moved (Vm.Alike.refl U.vm), zq_map (fun v q => q.moved (Vm.Alike.refl U.vm)) j6⟩, hs.moved (Vm.Alike.refl U.vm), fun i q e => vk_R.same (u := U) rfl (hr i q e)⟩
def qPZ (E : EE) (z : Nat → Nat) (W : va_W) (U : State) : Prop := kw E U ∧ va_P E.1 vwCl W U.heap ∧ ZZ z (fun _ => False) U U.heap
def qWZ (E : EE) (z : Nat → Nat) (sz : Nat) (W : va_W) (U : State) : Prop := U.heap.size = sz ∧ kw E U ∧ va_P E.1 vwCl W U.heap ∧ va_D (fun _ => True) W ∧ ZZ z (va_A W sz) U U.heap
theorem qPZ.blind {E : EE} {z : Nat → Nat} {W : va_W} {av : List Value} : FrameBlind (va_Pc av (qPZ E z W)) := fun _ _ _ _ q => ⟨q.1, q.2.1.calling, q.2.2.1, q.2.2.2.calling⟩
theorem qWZ.blind {E : EE} {z : Nat → Nat} {sz : Nat} {W : va_W} {av : List Value} : FrameBlind (va_Pc av (qWZ E z sz W)) := fun _ _ _ _ q => ⟨q.1, q.2.1, q.2.2.1.calling, q.2.2.2.1, q.2.2.2.2.1, q.2.2.2.2.2.calling⟩
theorem qPZ.pre {E : EE} {z : Nat → Nat} {W : va_W} {av : List Value} {s : State} {H : Heap} {A : Nat → Prop} {locs : List Loc} (hk : kw E s) (hP : va_P E.1 vwCl W H) (hZ : ZZ z A s s.heap) (hS : va_S A s.heap H locs) : ∀ U : State, U.heap = H → s.WarmedH U.vm → va_Pc av (qPZ E z W) av.toArray U := fun U hU hW => ⟨rfl, hk.warm hW, by rw [hU]; exact hP, hZ.call hS (fun _ h => h.elim) hU hW⟩
theorem qPZ.pre0 {E : EE} {z : Nat → Nat} {W : va_W} {av : List Value} {s : State} (hk : kw E s) (hP : va_P E.1 vwCl W s.heap) (hZ : ZZ z (fun _ => False) s s.heap) : ∀ U : State, U.heap = s.heap → s.WarmedH U.vm → va_Pc av (qPZ E z W) av.toArray U := fun U hU hW => ⟨rfl, hk.warm hW, by rw [hU]; exact hP, hZ.call (va_S.rf) (fun _ h => h.elim) hU hW⟩
theorem qWZ.pre {E : EE} {z : Nat → Nat} {W : va_W} {av : List Value} {s : State} {H : Heap} {A : Nat → Prop} {locs : List Loc} (hk : kw E s) (hP : va_P E.1 vwCl W H) (hD : va_D A W) (hZ : ZZ z A s s.heap) (hS : va_S A s.heap H locs) (hF : ∀ q, va_A W H.size q → A q) : ∀ U : State, U.heap = H → s.WarmedH U.vm → va_Pc av (qWZ E z H.size W) av.toArray U := fun U hU hW => ⟨rfl, by rw [hU], hk.warm hW, by rw [hU]; exact hP, hD.weaken (fun _ _ _ _ => trivial), hZ.call hS hF hU hW⟩
theorem nar_c (x : Int32) : narrow .char (.int ((x.toUInt32 % 65536).toInt32)) = .int ((x.toUInt32 % 65536).toInt32) := by
  show Value.int ((x.toUInt32 % 65536).toInt32.toUInt32.toUInt16.toUInt32.toInt32) = Value.int ((x.toUInt32 % 65536).toInt32)
  have h : (x.toUInt32 % 65536).toInt32.toUInt32.toUInt16.toUInt32 = x.toUInt32 % 65536 := by
    have e : (x.toUInt32 % 65536).toInt32.toUInt32 = x.toUInt32 % 65536 := rfl
    rw [e]
    refine UInt32.toNat_inj.mp ?_
    rw [UInt16.toNat_toUInt32, UInt32.toNat_toUInt16, UInt32.toNat_mod, show (65536 : UInt32).toNat = 65536 from rfl]
    omega
  rw [h]
theorem ZZ.s0 {z : Nat → Nat} {A : Nat → Prop} {U : State} {H : Heap} (h : ZZ z A U H) : vk_R RX3 74 "site" (z (20 + 0)) U := h.2.2.2.2 0 (RX3, 74, "site") rfl
theorem ZZ.s1 {z : Nat → Nat} {A : Nat → Prop} {U : State} {H : Heap} (h : ZZ z A U H) : vk_R RX3 100 "law" (z (20 + 1)) U := h.2.2.2.2 1 (RX3, 100, "law") rfl
theorem ZZ.s2 {z : Nat → Nat} {A : Nat → Prop} {U : State} {H : Heap} (h : ZZ z A U H) : vk_R RX3 102 "bound" (z (20 + 2)) U := h.2.2.2.2 2 (RX3, 102, "bound") rfl
theorem ZZ.s3 {z : Nat → Nat} {A : Nat → Prop} {U : State} {H : Heap} (h : ZZ z A U H) : vk_R RX3 104 "goal" (z (20 + 3)) U := h.2.2.2.2 3 (RX3, 104, "goal") rfl
theorem ZZ.s4 {z : Nat → Nat} {A : Nat → Prop} {U : State} {H : Heap} (h : ZZ z A U H) : vk_R RX3 132 "sum" (z (20 + 4)) U := h.2.2.2.2 4 (RX3, 132, "sum") rfl
theorem ZZ.s5 {z : Nat → Nat} {A : Nat → Prop} {U : State} {H : Heap} (h : ZZ z A U H) : vk_R RX3 134 "square" (z (20 + 5)) U := h.2.2.2.2 5 (RX3, 134, "square") rfl
theorem ZZ.s6 {z : Nat → Nat} {A : Nat → Prop} {U : State} {H : Heap} (h : ZZ z A U H) : vk_R RX3 136 "most" (z (20 + 6)) U := h.2.2.2.2 6 (RX3, 136, "most") rfl
theorem ZZ.s7 {z : Nat → Nat} {A : Nat → Prop} {U : State} {H : Heap} (h : ZZ z A U H) : vk_R RX3 138 "taxi" (z (20 + 7)) U := h.2.2.2.2 7 (RX3, 138, "taxi") rfl
theorem ZZ.s8 {z : Nat → Nat} {A : Nat → Prop} {U : State} {H : Heap} (h : ZZ z A U H) : vk_R RX3 121 "move" (z (20 + 8)) U := h.2.2.2.2 8 (RX3, 121, "move") rfl
theorem ZZ.s9 {z : Nat → Nat} {A : Nat → Prop} {U : State} {H : Heap} (h : ZZ z A U H) : vk_R RX3 123 "add" (z (20 + 9)) U := h.2.2.2.2 9 (RX3, 123, "add") rfl
theorem ZZ.s10 {z : Nat → Nat} {A : Nat → Prop} {U : State} {H : Heap} (h : ZZ z A U H) : vk_R RX3 125 "sync" (z (20 + 10)) U := h.2.2.2.2 10 (RX3, 125, "sync") rfl
theorem ZZ.s11 {z : Nat → Nat} {A : Nat → Prop} {U : State} {H : Heap} (h : ZZ z A U H) : vk_R RX3 127 "freeze" (z (20 + 11)) U := h.2.2.2.2 11 (RX3, 127, "freeze") rfl
theorem ZZ.s12 {z : Nat → Nat} {A : Nat → Prop} {U : State} {H : Heap} (h : ZZ z A U H) : vk_R RX7 268 "site " (z (20 + 12)) U := h.2.2.2.2 12 (RX7, 268, "site ") rfl
theorem ZZ.s13 {z : Nat → Nat} {A : Nat → Prop} {U : State} {H : Heap} (h : ZZ z A U H) : vk_R RX7 277 " at " (z (20 + 13)) U := h.2.2.2.2 13 (RX7, 277, " at ") rfl
theorem ZZ.s14 {z : Nat → Nat} {A : Nat → Prop} {U : State} {H : Heap} (h : ZZ z A U H) : vk_R RX7 125 "no such site, or nothing such to tell of it" (z (20 + 14)) U := h.2.2.2.2 14 (RX7, 125, "no such site, or nothing such to tell of it") rfl
