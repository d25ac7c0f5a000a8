
set_option maxHeartbeats 4000000 in
set_option maxRecDepth 100000 in
theorem zt_0 {args : Array Value} {s : State} {A : Nat → Prop} (hgs : ∀ c ∈ flatC (Jvm.Cond.and given_1 narrow_1), c.before args s = true) (hold : ∀ a : Nat, a < s.heap.size → ¬ A a) : ∃ t : Nat, (Term.static "HushWatch" "NUMBERS_OF_STEP" "[I").eval args s none [] s = some (.ref t) ∧ va_T .int t 7 (fun j => .int (nosF j)) A s s.heap :=
  va_Tof (tm := .static "HushWatch" "NUMBERS_OF_STEP" "[I") (ty := .int) (N := 7) (f := fun j => .int (nosF j)) (by decide) (hgs (Cond.arrayOf (.static "HushWatch" "NUMBERS_OF_STEP" "[I") .int) (by decide +kernel)) (va_eqt (hgs (Cond.eq (.length (.static "HushWatch" "NUMBERS_OF_STEP" "[I")) (.int 7)) (by decide +kernel))) (fun j hj => va_eqt (hgs _ (zt_m0 j hj))) hold
set_option maxHeartbeats 4000000 in
set_option maxRecDepth 100000 in
theorem zt_1 {args : Array Value} {s : State} {A : Nat → Prop} (hgs : ∀ c ∈ flatC (Jvm.Cond.and given_1 narrow_1), c.before args s = true) (hold : ∀ a : Nat, a < s.heap.size → ¬ A a) : ∃ t : Nat, (Term.static "HushWatch" "SORT_OF_STEP" "[I").eval args s none [] s = some (.ref t) ∧ va_T .int t 7 (fun j => .int (sosF j)) A s s.heap :=
  va_Tof (tm := .static "HushWatch" "SORT_OF_STEP" "[I") (ty := .int) (N := 7) (f := fun j => .int (sosF j)) (by decide) (hgs (Cond.arrayOf (.static "HushWatch" "SORT_OF_STEP" "[I") .int) (by decide +kernel)) (va_eqt (hgs (Cond.eq (.length (.static "HushWatch" "SORT_OF_STEP" "[I")) (.int 7)) (by decide +kernel))) (fun j hj => va_eqt (hgs _ (zt_m1 j hj))) hold
set_option maxHeartbeats 4000000 in
set_option maxRecDepth 100000 in
theorem zt_2 {args : Array Value} {s : State} {A : Nat → Prop} (hgs : ∀ c ∈ flatC (Jvm.Cond.and given_1 narrow_1), c.before args s = true) (hold : ∀ a : Nat, a < s.heap.size → ¬ A a) : ∃ t : Nat, (Term.static "java/lang/Integer" "DigitOnes" "[B").eval args s none [] s = some (.ref t) ∧ va_T .byte t 100 (fun j => .int (onesF j)) A s s.heap :=
  va_Tof (tm := .static "java/lang/Integer" "DigitOnes" "[B") (ty := .byte) (N := 100) (f := fun j => .int (onesF j)) (by decide) (hgs (Cond.arrayOf (.static "java/lang/Integer" "DigitOnes" "[B") .byte) (by decide +kernel)) (va_eqt (hgs (Cond.eq (.length (.static "java/lang/Integer" "DigitOnes" "[B")) (.int 100)) (by decide +kernel))) (fun j hj => va_eqt (hgs _ (zt_m2 j hj))) hold
set_option maxHeartbeats 4000000 in
set_option maxRecDepth 100000 in
theorem zt_3 {args : Array Value} {s : State} {A : Nat → Prop} (hgs : ∀ c ∈ flatC (Jvm.Cond.and given_1 narrow_1), c.before args s = true) (hold : ∀ a : Nat, a < s.heap.size → ¬ A a) : ∃ t : Nat, (Term.static "java/lang/Integer" "DigitTens" "[B").eval args s none [] s = some (.ref t) ∧ va_T .byte t 100 (fun j => .int (tensF j)) A s s.heap :=
  va_Tof (tm := .static "java/lang/Integer" "DigitTens" "[B") (ty := .byte) (N := 100) (f := fun j => .int (tensF j)) (by decide) (hgs (Cond.arrayOf (.static "java/lang/Integer" "DigitTens" "[B") .byte) (by decide +kernel)) (va_eqt (hgs (Cond.eq (.length (.static "java/lang/Integer" "DigitTens" "[B")) (.int 100)) (by decide +kernel))) (fun j hj => va_eqt (hgs _ (zt_m3 j hj))) hold
set_option maxHeartbeats 4000000 in
set_option maxRecDepth 100000 in
theorem zs_ex : ∀ i, i < 15 → Cond.exactly (strT i) "java/lang/String" ∈ flatC (Jvm.Cond.and given_1 narrow_1) := by decide +kernel
set_option maxHeartbeats 4000000 in
set_option maxRecDepth 100000 in
theorem zs_co : ∀ i, i < 15 → Cond.eq (.field (strT i) "java/lang/String" "coder" "B") (.int 0) ∈ flatC (Jvm.Cond.and given_1 narrow_1) := by decide +kernel
set_option maxHeartbeats 4000000 in
set_option maxRecDepth 100000 in
theorem zs_ar : ∀ i, i < 15 → Cond.arrayOf (.field (strT i) "java/lang/String" "value" "[B") .byte ∈ flatC (Jvm.Cond.and given_1 narrow_1) := by decide +kernel
set_option maxHeartbeats 4000000 in
set_option maxRecDepth 100000 in
theorem zs_le : ∀ i, i < 15 → Cond.eq (.length (.field (strT i) "java/lang/String" "value" "[B")) (.int (Int32.ofNat (strL.getD i 0))) ∈ flatC (Jvm.Cond.and given_1 narrow_1) := by decide +kernel
set_option maxHeartbeats 4000000 in
set_option maxRecDepth 100000 in
theorem zs_len : ∀ i, i < 15 → strL.getD i 0 < 2 ^ 31 := by decide +kernel
set_option maxHeartbeats 4000000 in
set_option maxRecDepth 100000 in
theorem zs_ref : ∀ i, i < 15 → Cond.stringRef (strR.getD i ("", 0, "")).1 (strR.getD i ("", 0, "")).2.1 (strR.getD i ("", 0, "")).2.2 ∈ lw_tbl := by decide +kernel
set_option maxHeartbeats 4000000 in
set_option maxRecDepth 100000 in
theorem zz_start {s : State} {b : Nat} {A : Nat → Prop} (hts : ∀ w ∈ lw_tbl, w.before #[Value.ref b] s = true) (hgv : (Jvm.Cond.and given_1 narrow_1).before #[Value.ref b] s = true) (hold : ∀ a : Nat, a < s.heap.size → ¬ A a) : ∃ z9 : Nat → Nat, ZZ z9 A s s.heap := by
  have hgs := flat_of_before _ hgv
  obtain ⟨t0, ev0, T0⟩ := zt_0 hgs hold
  obtain ⟨t1, ev1, T1⟩ := zt_1 hgs hold
  obtain ⟨t2, ev2, T2⟩ := zt_2 hgs hold
  obtain ⟨t3, ev3, T3⟩ := zt_3 hgs hold
  obtain ⟨adK, adV, hS, hE⟩ := vk_Sof (N := 15) (tm := strT) (len := strL) (byt := strB) (A := A) zs_len (fun i hi => hgs _ (zs_ex i hi)) (fun i hi => hgs _ (zs_co i hi)) (fun i hi => hgs _ (zs_ar i hi)) (fun i hi => hgs _ (zs_le i hi)) (fun i hi j hj => hgs _ (zs_el i hi j hj)) (fun i j hi hj hij => by
    rcases Nat.lt_or_gt_of_ne hij with q | q
    · rcases zs_ne j hj i q with z | z
      · exact Or.inr (hgs _ z)
      · exact Or.inl (hgs _ z)
    · rcases zs_ne i hi j q with z | z
      · exact Or.inl (hgs _ z)
      · exact Or.inr (hgs _ z)) hold
  obtain ⟨z9, hz⟩ : ∃ z9 : Nat → Nat, z9 = (fun i => if i < 20 then ([t0, t1, t2, t3] : List Nat).getD i 0 else if i < 40 then adK (i - 20) else adV (i - 40)) := ⟨_, rfl⟩
  have eK : ∀ i, i < 15 → z9 (20 + i) = adK i := fun i hi => by
    rw [hz]
    show (if 20 + i < 20 then _ else if 20 + i < 40 then adK (20 + i - 20) else _) = _
    rw [if_neg (by omega), if_pos (by omega), show 20 + i - 20 = i by omega]
  have eV : ∀ i, i < 15 → z9 (40 + i) = adV i := fun i hi => by
    rw [hz]
    show (if 40 + i < 20 then _ else if 40 + i < 40 then _ else adV (40 + i - 40)) = _
    rw [if_neg (by omega), if_neg (by omega), show 40 + i - 40 = i by omega]
  have e0 : z9 0 = t0 := by rw [hz]; rfl
  have e1 : z9 1 = t1 := by rw [hz]; rfl
  have e2 : z9 2 = t2 := by rw [hz]; rfl
  have e3 : z9 3 = t3 := by rw [hz]; rfl
  refine ⟨z9, ⟨va_Zof (hts (.laysStatic "HushWatchModel" "LAW" "J") (List.mem_of_getElem? (i := 1419) (by decide +kernel))) (hts (.initialized "HushWatchModel") (List.mem_of_getElem? (i := 119) (by decide +kernel))) (va_eql (hgs (Cond.eq (.static "HushWatchModel" "LAW" "J") (.long 12343)) (by decide +kernel))) hold, va_Zof (hts (.laysStatic "HushWatchModel" "BOUND" "J") (List.mem_of_getElem? (i := 1425) (by decide +kernel))) (hts (.initialized "HushWatchModel") (List.mem_of_getElem? (i := 119) (by decide +kernel))) (va_eql (hgs (Cond.eq (.static "HushWatchModel" "BOUND" "J") (.long 2610628)) (by decide +kernel))) hold, va_Zof (hts (.laysStatic "HushWatchModel" "GOAL" "J") (List.mem_of_getElem? (i := 1427) (by decide +kernel))) (hts (.initialized "HushWatchModel") (List.mem_of_getElem? (i := 119) (by decide +kernel))) (va_eql (hgs (Cond.eq (.static "HushWatchModel" "GOAL" "J") (.long 244780)) (by decide +kernel))) hold, va_Zof (hts (.laysStatic "HushWatchModel" "SITE" "J") (List.mem_of_getElem? (i := 1429) (by decide +kernel))) (hts (.initialized "HushWatchModel") (List.mem_of_getElem? (i := 119) (by decide +kernel))) (va_eql (hgs (Cond.eq (.static "HushWatchModel" "SITE" "J") (.long 632453)) (by decide +kernel))) hold, va_Zof (hts (.laysStatic "HushWatchModel" "MOVE" "J") (List.mem_of_getElem? (i := 1467) (by decide +kernel))) (hts (.initialized "HushWatchModel") (List.mem_of_getElem? (i := 119) (by decide +kernel))) (va_eql (hgs (Cond.eq (.static "HushWatchModel" "MOVE" "J") (.long 442053)) (by decide +kernel))) hold, va_Zof (hts (.laysStatic "HushWatchModel" "ADD" "J") (List.mem_of_getElem? (i := 1469) (by decide +kernel))) (hts (.initialized "HushWatchModel") (List.mem_of_getElem? (i := 119) (by decide +kernel))) (va_eql (hgs (Cond.eq (.static "HushWatchModel" "ADD" "J") (.long 1156)) (by decide +kernel))) hold, va_Zof (hts (.laysStatic "HushWatchModel" "SYNC" "J") (List.mem_of_getElem? (i := 1471) (by decide +kernel))) (hts (.initialized "HushWatchModel") (List.mem_of_getElem? (i := 119) (by decide +kernel))) (va_eql (hgs (Cond.eq (.static "HushWatchModel" "SYNC" "J") (.long 648643)) (by decide +kernel))) hold, va_Zof (hts (.laysStatic "HushWatchModel" "FREEZE" "J") (List.mem_of_getElem? (i := 1473) (by decide +kernel))) (hts (.initialized "HushWatchModel") (List.mem_of_getElem? (i := 119) (by decide +kernel))) (va_eql (hgs (Cond.eq (.static "HushWatchModel" "FREEZE" "J") (.long 220370757)) (by decide +kernel))) hold⟩, ⟨?_, ?_, ?_, ?_⟩, ⟨?_, ?_, ?_, ?_, ?_, ?_⟩, ⟨fun i hi => ?_, fun i j hi hj e => ?_⟩, fun i q hq => ?_⟩
  · rw [e0]; exact va_Zof (hts (.laysStatic "HushWatch" "NUMBERS_OF_STEP" "[I") (List.mem_of_getElem? (i := 508) (by decide +kernel))) (hts (.initialized "HushWatch") (List.mem_of_getElem? (i := 111) (by decide +kernel))) ev0 hold
  · rw [e0]; exact T0
  · rw [e1]; exact va_Zof (hts (.laysStatic "HushWatch" "SORT_OF_STEP" "[I") (List.mem_of_getElem? (i := 1134) (by decide +kernel))) (hts (.initialized "HushWatch") (List.mem_of_getElem? (i := 111) (by decide +kernel))) ev1 hold
  · rw [e1]; exact T1
  · exact va_Zof (hts (.laysStatic "java/lang/String" "COMPACT_STRINGS" "Z") (List.mem_of_getElem? (i := 412) (by decide +kernel))) (hts (.initialized "java/lang/String") (List.mem_of_getElem? (i := 120) (by decide +kernel))) (va_eqt (hgs (Cond.eq (.static "java/lang/String" "COMPACT_STRINGS" "Z") (.int 1)) (by decide +kernel))) hold
  · rw [e2]; exact va_Zof (hts (.laysStatic "java/lang/Integer" "DigitOnes" "[B") (List.mem_of_getElem? (i := 1058) (by decide +kernel))) (hts (.initialized "java/lang/Integer") (List.mem_of_getElem? (i := 131) (by decide +kernel))) ev2 hold
  · rw [e2]; exact T2
  · rw [e3]; exact va_Zof (hts (.laysStatic "java/lang/Integer" "DigitTens" "[B") (List.mem_of_getElem? (i := 1060) (by decide +kernel))) (hts (.initialized "java/lang/Integer") (List.mem_of_getElem? (i := 131) (by decide +kernel))) ev3 hold
  · rw [e3]; exact T3
  · exact va_Zqof (hts (.laysStatic "jdk/internal/util/Preconditions" "SIOOBE_FORMATTER" "Ljava/util/function/BiFunction;") (List.mem_of_getElem? (i := 428) (by decide +kernel))) (hts (.initialized "jdk/internal/util/Preconditions") (List.mem_of_getElem? (i := 122) (by decide +kernel))) (hgs (Cond.isRef (.static "jdk/internal/util/Preconditions" "SIOOBE_FORMATTER" "Ljava/util/function/BiFunction;")) (by decide +kernel)) hold
  · have h := hS.1 i hi
    show va_O "java/lang/String" (z9 (20 + i)) A s s.heap ∧ va_OF "java/lang/String" "coder" "B" (.int 0) (z9 (20 + i)) A s s.heap ∧ va_OF "java/lang/String" "value" "[B" (.ref (z9 (40 + i))) (z9 (20 + i)) A s s.heap ∧ va_T .byte (z9 (40 + i)) (strL.getD i 0) (fun j => .int ((strB.getD i []).getD j 0)) A s s.heap
    rw [eK i hi, eV i hi]
    exact h
  · have e : z9 (20 + i) = z9 (20 + j) := e
    rw [eK i hi, eK j hj] at e
    exact hS.2 i j hi hj e
  · have hi : i < 15 := (List.getElem?_eq_some_iff.mp hq).1
    have eq : strR.getD i ("", 0, "") = q := by rw [List.getD_eq_getElem?_getD, hq]; rfl
    have h1 := hts _ (zs_ref i hi)
    have h2 := hE i hi
    unfold strT at h2
    rw [eq] at h1 h2
    rw [eK i hi]
    exact vk_R.of h1 h2
