
/-! calls at an object of a class below the method's own; the texts' bytes -/
def wsC (own : String) (idx : Nat) (C : String) (y : MethodName) (ws : List Cond) : List Cond := ([.methodLink own idx y, .instanceMethod y, .selects C y y, .initialized y.cls] : List Cond) ++ ws
theorem cwC {R : Room} {s : State} {args : Array Value} {own C : String} {index maxL mc ms : Nat} {y : MethodName} {bytes : ByteArray} {ret : Option FieldType} {Ts ws ws' : List Cond} {rm : Room} (n : Nat) (ht : ∀ w ∈ Ts, w.before args s = true) (hT : GoodIn Ts (wsC own index C y ws)) (hw : ws = Cond.code y bytes maxL ret :: ws') (hrc : rm.cells = mc) (hrs : rm.slots = ms)
    (hd : y.cls ≠ "java/lang/invoke/MethodHandle" ∧ y.cls ≠ "java/lang/invoke/VarHandle" ∧ (parseMethodDescriptor y.desc).map (fun d => d.parameters.length) = some n) (hR : rm.frames + 1 ≤ R.frames ∧ 8 + (maxL + 11) + rm.locals ≤ R.locals) :
    CallW R s args own C index y bytes maxL ret ws rm mc ms n := by
  have ok : ∀ w ∈ wsC own index C y ws, w.before args s = true := fun w h => ht w (hT w h).1
  exact ⟨callB_of n ht (fun w h => hT w (by unfold wsC; exact List.mem_append_right _ h)) hw hrc hrs (ok _ (by simp [wsC])) (ok _ (by simp [wsC])) hd hR, ok _ (by simp [wsC]), ok _ (by simp [wsC])⟩
theorem strB_fitA : ∀ l ∈ strB, ∀ x ∈ l, fits .byte (.int x) = true := by decide
theorem strB_fit (p j : Nat) : fits .byte (.int ((strB.getD p []).getD j 0)) = true := by
  rw [List.getD_eq_getElem?_getD, List.getD_eq_getElem?_getD]
  cases h : strB[p]? with
  | none => exact (by decide : fits .byte (.int 0) = true)
  | some l =>
    show fits .byte (.int (l[j]?.getD 0)) = true
    cases h2 : l[j]? with
    | none => exact (by decide : fits .byte (.int 0) = true)
    | some x => exact strB_fitA l (List.mem_of_getElem? h) x (List.mem_of_getElem? h2)
theorem fit_nar (x : Int32) : fits .byte (.int (vp_nar .byte x)) = true := by rw [vp_nar_byte]; exact pk_fb _
