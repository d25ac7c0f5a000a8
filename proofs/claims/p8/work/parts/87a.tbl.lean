
/-! THE CLAIM OUT OF ONE WALK OF THE LAW'S BODY. Your part is whole_start (and what it stands on); all else here is the same for every law, but numbers. -/
def R_law : String := "HushWatchLaw"
def lw_P (b : Addr) (xs : List Int32) (args : Array Value) (s : State) : Prop := args = #[.ref b] ∧ s.IntsAt b xs ∧ xs.length ≤ 3072 ∧ (Jvm.Cond.and given_1 narrow_1).before args s = true
def lw_Q (_ : Array Value) (s : State) (o : Outcome) (t : State) : Prop := o = .returned (some (.int 1)) ∧ Framed s o t [] 601024 7293034
def lw_Z (below : List Frame) (a : Array Value) (s : State) : State → Prop := fun t => ∃ o, t.status = .running ∧ Ended t below o ∧ lw_Q a s o t
/-- the law's own end, with 1 on the stack, nothing written that was there before, its room as the claim has it -/
theorem lw_ret {p : Program} {l : Launch} {e : Env} {s : State} {m : MethodId} {below : List Frame} {meth : Method} {c : Code} {b : Nat} (hx : p.tables.exec = Jvm.exec) (hb : c.code = code) (hr : meth.sig.returnType = ret) (hlocks : meth.locks = false) {pc : Nat} {H : Heap} {ls : Array Slot} (hdg : decode code pc = .ok (.ireturn, 1)) : W p l e room_1 s m #[Value.ref b] below meth c H [] 601024 7293034 (lw_Z below #[Value.ref b] s) (F0 m pc ls [.int 1]) := by
  intro T hT X
  obtain ⟨fs, hret, hrun, hended, hW, hframe⟩ := X.leave (v := some (.int 1)) (hlocks := hlocks) (fun h => by rw [hr] at h; cases h)
  have hmeth' : T.vm.method? m = some meth := X.method'
  refine ⟨T.setFrames fs, ?_, .returned (some (.int 1)), hrun, hended, rfl, ⟨_, rfl⟩, hW, hframe⟩
  jvm_step X.here [X.here.top, hx, hb, hdg, hmeth', hr, ret, narrow_b1]
  (try refine ⟨rfl, ?_⟩); (try refine ⟨rfl, ?_⟩)
  first | (intro acts; rw [hret _ acts rfl rfl rfl]) | rw [hret _ _ rfl rfl rfl]
  exact Steps.refl _
/-- what holds at the law's entry: the machine, the code, the tables' words (any of lw_tbl by 'hts w (by decide +kernel)'), the script of L ints xs at the cell b, what the Statement gives of the start (any of its parts by flat_of_before) -/
def lw_At (p : Program) (s : State) (m : MethodId) (meth : Method) (c : Code) (b L : Nat) (xs : Nat → Int32) : Prop :=
  p.tables.exec = Jvm.exec ∧ c.code = code ∧ meth.sig.returnType = ret ∧ c.maxLocals = 7 ∧ s.vm.findClass R_law = some m.cls ∧ (∀ w ∈ lw_tbl, w.before #[Value.ref b] s = true) ∧ va_X b L xs s s.heap ∧ b < s.heap.size ∧ meth.locks = false ∧ (Jvm.Cond.and given_1 narrow_1).before #[Value.ref b] s = true
theorem sel_priv {C : String} {y z : MethodName} {s : State} {args : Array Value} (hcls : z.cls = y.cls) (hy : y.cls ≠ "java/lang/invoke/MethodHandle" ∧ y.cls ≠ "java/lang/invoke/VarHandle") (hz : (Cond.selects C z z).before args s = true) (hpriv : (Cond.privateMethod y).before args s = true) (hinst : (Cond.instanceMethod y).before args s = true) : (Cond.selects C y y).before args s = true := by
  cases hc : s.vm.findClass C with
  | none => simp [Cond.before, Cond.holds, Cond.value, hc] at hz
  | some c =>
    cases hf : s.methodFound? z.cls z.name z.desc with
    | none => simp [Cond.before, Cond.holds, Cond.value, hc, hf] at hz
    | some r =>
      cases hn : s.methodNamed? z with
      | none => simp [Cond.before, Cond.holds, Cond.value, hc, hf, hn] at hz
      | some m =>
        have hany : (s.vm.classes[m.cls]?).any (fun k => !k.isInterface) = true := by
          simp only [Cond.before, Cond.holds, Cond.value, hc, hf, hn] at hz
          cases hs : selectMethod {} s.vm c r <;> rw [hs] at hz <;> simp at hz
          simpa using hz.2
        obtain ⟨mk, methM, hnamed, hmethM, -, -⟩ := Cond.instanceMethod_spec hinst
        have hfound : s.methodFound? y.cls y.name y.desc = some mk := State.methodFound?_of_named hnamed hy
        have hmc : mk.cls = m.cls := by
          have h1 := findClass_of_methodNamed hnamed
          have h2 := findClass_of_methodNamed hn
          rw [hcls] at h2
          exact Option.some.inj (h1.symm.trans h2)
        have hsel : selectMethod {} s.vm c mk = .method mk := selectMethod_private hmethM (Cond.privateMethod_at hpriv mk methM hnamed hmethM)
        rw [← hmc] at hany
        simp only [Cond.before, Cond.holds, Cond.value, hc, hfound, hnamed, hsel]
        simpa using hany
def lw_x4 : List Cond := [.selects RJ4 yJ5_ensureCapacityInternal_d00df yJ5_ensureCapacityInternal_d00df, .selects RJ4 yJ5_newCapacity_0f7a4 yJ5_newCapacity_0f7a4, .selects RJ4 yJ5_putStringAt_47b60 yJ5_putStringAt_47b60, .selects RJ4 yJ5_inflateIfNeededFor_a7421 yJ5_inflateIfNeededFor_a7421]
def lw_tbl2 : List Cond := lw_x4 ++ lw_tbl
set_option maxRecDepth 100000 in
theorem hts2_of {args : Array Value} {s : State} (hts : ∀ w ∈ lw_tbl, w.before args s = true) : ∀ w ∈ lw_tbl2, w.before args s = true := by
  intro w hw
  rcases List.mem_append.mp hw with h | h
  · have hz := (hts (.selects RJ4 yJ5_isLatin1_aae02 yJ5_isLatin1_aae02) (List.mem_of_getElem? (i := 992) (by decide +kernel)))
    simp only [lw_x4, List.mem_cons, List.not_mem_nil, or_false] at h
    rcases h with rfl | rfl | rfl | rfl
    · exact sel_priv (z := yJ5_isLatin1_aae02) rfl ⟨by decide, by decide⟩ hz (hts (.privateMethod yJ5_ensureCapacityInternal_d00df) (List.mem_of_getElem? (i := 961) (by decide +kernel))) (hts (.instanceMethod yJ5_ensureCapacityInternal_d00df) (List.mem_of_getElem? (i := 962) (by decide +kernel)))
    · exact sel_priv (z := yJ5_isLatin1_aae02) rfl ⟨by decide, by decide⟩ hz (hts (.privateMethod yJ5_newCapacity_0f7a4) (List.mem_of_getElem? (i := 965) (by decide +kernel))) (hts (.instanceMethod yJ5_newCapacity_0f7a4) (List.mem_of_getElem? (i := 966) (by decide +kernel)))
    · exact sel_priv (z := yJ5_isLatin1_aae02) rfl ⟨by decide, by decide⟩ hz (hts (.privateMethod yJ5_putStringAt_47b60) (List.mem_of_getElem? (i := 1011) (by decide +kernel))) (hts (.instanceMethod yJ5_putStringAt_47b60) (List.mem_of_getElem? (i := 1012) (by decide +kernel)))
    · exact sel_priv (z := yJ5_isLatin1_aae02) rfl ⟨by decide, by decide⟩ hz (hts (.privateMethod yJ5_inflateIfNeededFor_a7421) (List.mem_of_getElem? (i := 1015) (by decide +kernel))) (hts (.instanceMethod yJ5_inflateIfNeededFor_a7421) (List.mem_of_getElem? (i := 1016) (by decide +kernel)))
  · exact hts w h
theorem sub_r {big : List Cond} (ws : List Cond) (ps : List Nat) (hp : ws = ps.filterMap (fun i => big[i]?)) : ∀ w ∈ ws, w ∈ big := by
  intro w hw
  rw [hp] at hw
  obtain ⟨i, -, hi⟩ := List.mem_filterMap.mp hw
  exact List.mem_of_getElem? hi
set_option maxRecDepth 100000 in
theorem inJ4 : ∀ w ∈ wsJ40, w ∈ lw_tbl := sub_r _ [939, 941, 943, 945] (by decide +kernel)
set_option maxRecDepth 100000 in
theorem inX0 : ∀ w ∈ wsX00, w ∈ lw_tbl := sub_r _ [260] (by decide +kernel)
set_option maxRecDepth 100000 in
theorem inX1 : ∀ w ∈ wsX10, w ∈ lw_tbl := sub_r _ [296, 298, 300, 302, 304] (by decide +kernel)
set_option maxRecDepth 100000 in
theorem inX2 : ∀ w ∈ wsX20, w ∈ lw_tbl := sub_r _ [273, 275, 277] (by decide +kernel)
set_option maxRecDepth 100000 in
theorem inX3 : ∀ w ∈ wsX30, w ∈ lw_tbl := sub_r _ [182, 184, 186, 188, 190, 192, 194, 196, 198, 200, 202] (by decide +kernel)
set_option maxRecDepth 100000 in
theorem inX4 : ∀ w ∈ wsX40, w ∈ lw_tbl := sub_r _ [216, 218, 220] (by decide +kernel)
set_option maxRecDepth 100000 in
theorem inX5 : ∀ w ∈ wsX50, w ∈ lw_tbl := sub_r _ [240, 242, 244, 246, 248, 250] (by decide +kernel)
set_option maxRecDepth 100000 in
theorem inX6 : ∀ w ∈ wsX60, w ∈ lw_tbl := sub_r _ [154, 156] (by decide +kernel)
set_option maxRecDepth 100000 in
theorem inX7 : ∀ w ∈ wsX70, w ∈ lw_tbl := sub_r _ [319, 321, 323, 325, 327, 329, 331, 333, 335, 337, 339, 341] (by decide +kernel)
set_option maxRecDepth 100000 in
theorem inX8 : ∀ w ∈ wsX80, w ∈ lw_tbl := sub_r _ [1290, 1292, 1294, 1296, 1298, 1300, 1302, 1304, 1306, 1308, 1310, 1312, 1314, 1316, 1318, 1320, 1322, 1324, 1326, 1328, 1330, 1332, 1334, 1336, 1338, 1340, 1342, 1344, 1346, 1348, 1350, 1352, 1354, 1356, 1358, 1360] (by decide +kernel)
set_option maxRecDepth 100000 in
theorem nest_in : ∀ w ∈ nestL, w ∈ lw_tbl := sub_r _ [146, 152, 153, 168, 170, 172, 174, 176, 208, 215, 225, 230, 231, 233, 235, 237, 255, 265, 272, 282, 287, 289, 291, 293, 295, 507, 633, 1133] (by decide +kernel)
theorem nx_of {w : Cond} (h2 : nestOk w = true) {A : Array Value} {U : State} (h : w.before A U = true) : va_Nw w U := by
  cases w with
  | fieldLinkNest a i b n d h9 => exact va_Nw.of rfl h
  | methodLinkNest a i x h9 => exact va_Nw.of rfl h
  | _ => simp [nestOk] at h2
