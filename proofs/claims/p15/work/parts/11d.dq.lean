-- 11d.dq
section

/-- the byte at p of a code, as a number -/
def BN (c : ByteArray) (p v : Nat) : Prop := ∃ hp : p < c.size, c[p].toNat = v
theorem bn_in {c : ByteArray} (k : Nat) {M : List Nat} (h : ((c.data.toList.drop k).take M.length).map UInt8.toNat = M) {j p v : Nat} (hp : k + j = p) (hb : M[j]? = some v) : BN c p v := by
  have hj : j < M.length := (List.getElem?_eq_some_iff.mp hb).1
  rw [← h, List.getElem?_map, List.getElem?_take, if_pos hj, List.getElem?_drop] at hb
  obtain ⟨b, h1, h2⟩ := Option.map_eq_some_iff.mp hb
  obtain ⟨hp2, e⟩ := List.getElem?_eq_some_iff.mp h1
  subst hp
  exact ⟨hp2, (congrArg UInt8.toNat e).trans h2⟩
theorem bn_cut {M : List Nat} {j n i : Nat} {L : List Nat} (hb : (M.drop j).take n = L) {v : Nat} (hv : L[i]? = some v) : M[j + i]? = some v := by
  rw [← hb] at hv
  have hi : i < n := by
    apply Classical.byContradiction
    intro q
    rw [List.getElem?_take, if_neg q] at hv
    cases hv
  rw [List.getElem?_take, if_pos hi, List.getElem?_drop] at hv
  exact hv
theorem bn1 {c : ByteArray} (k : Nat) {M : List Nat} (h : ((c.data.toList.drop k).take M.length).map UInt8.toNat = M) {j p x : Nat} (hp : k + j = p) (hb : (M.drop j).take 1 = [x]) : BN c p x :=
  bn_in k h (j := j + 0) (by omega) (bn_cut hb (i := 0) rfl)
theorem bn2 {c : ByteArray} (k : Nat) {M : List Nat} (h : ((c.data.toList.drop k).take M.length).map UInt8.toNat = M) {j p x a : Nat} (hp : k + j = p) (hb : (M.drop j).take 2 = [x, a]) : BN c p x ∧ BN c (p + 1) a :=
  ⟨bn_in k h (j := j + 0) (by omega) (bn_cut hb (i := 0) rfl), bn_in k h (j := j + 1) (by omega) (bn_cut hb (i := 1) rfl)⟩
theorem bn3 {c : ByteArray} (k : Nat) {M : List Nat} (h : ((c.data.toList.drop k).take M.length).map UInt8.toNat = M) {j p x a b : Nat} (hp : k + j = p) (hb : (M.drop j).take 3 = [x, a, b]) : BN c p x ∧ BN c (p + 1) a ∧ BN c (p + 1 + 1) b :=
  ⟨bn_in k h (j := j + 0) (by omega) (bn_cut hb (i := 0) rfl), bn_in k h (j := j + 1) (by omega) (bn_cut hb (i := 1) rfl), bn_in k h (j := j + 2) (by omega) (bn_cut hb (i := 2) rfl)⟩
theorem u1_n {c : ByteArray} {p v : Nat} (h : BN c p v) : (Reader.u1 : Decoder Nat) c p = .ok (v, p + 1) := by
  obtain ⟨hp, e⟩ := h
  have w : (Reader.u1 : Decoder Nat) c p = (dite (p < c.size) (fun h => (do set (p + 1); pure c[p].toNat : Decoder Nat)) (fun _ => throw (HasTruncated.truncated p))) c p := rfl
  rw [w, dif_pos hp, e]
  rfl
theorem u2_n {c : ByteArray} {p a b : Nat} (h : BN c p a) (h1 : BN c (p + 1) b) : (Reader.u2 : Decoder Nat) c p = .ok (a * 256 + b, p + 2) := by
  show (bind ((Reader.u1 : Decoder Nat) c p) _ : Except DecodeError (Nat × Nat)) = _
  rw [u1_n h]
  show (bind ((Reader.u1 : Decoder Nat) c (p + 1)) _ : Except DecodeError (Nat × Nat)) = _
  rw [u1_n h1]
  rfl
theorem s2_n {c : ByteArray} {p a b : Nat} (h : BN c p a) (h1 : BN c (p + 1) b) : (Reader.s2 : Decoder Int) c p = .ok (Reader.signed 16 (a * 256 + b), p + 2) := by
  show (bind ((Reader.u2 : Decoder Nat) c p) _ : Except DecodeError (Int × Nat)) = _
  rw [u2_n h h1]
  rfl
theorem s1_n {c : ByteArray} {p a : Nat} (h : BN c p a) : (Reader.s1 : Decoder Int) c p = .ok (Reader.signed 8 a, p + 1) := by
  show (bind ((Reader.u1 : Decoder Nat) c p) _ : Except DecodeError (Int × Nat)) = _
  rw [u1_n h]
  rfl
theorem dq_l1 (p : Nat) : p + 1 - p = 1 := by omega
theorem dq_l2 (p : Nat) : p + 1 + 1 - p = 2 := by omega
theorem dq_l3 (p : Nat) : p + 1 + 2 - p = 3 := by omega
theorem dq_l4 (p : Nat) : p + 1 + 1 + 1 - p = 3 := by omega
theorem dq_2 {c : ByteArray} (k : Nat) {M : List Nat} (h : ((c.data.toList.drop k).take M.length).map UInt8.toNat = M) {j pc : Nat} (hp : k + j = pc) (hb : (M.drop j).take 1 = [2]) : decode c pc = .ok (.iconst (-1), 1) := by
  show (bind (bind ((Reader.u1 : Decoder Nat) c pc) _) _ : Except DecodeError (Instr × Nat)) = _
  rw [u1_n (bn1 k h hp hb)]
  show Except.ok ((.iconst (-1) : Instr), pc + 1 - pc) = _
  rw [dq_l1]
theorem dq_3 {c : ByteArray} (k : Nat) {M : List Nat} (h : ((c.data.toList.drop k).take M.length).map UInt8.toNat = M) {j pc : Nat} (hp : k + j = pc) (hb : (M.drop j).take 1 = [3]) : decode c pc = .ok (.iconst 0, 1) := by
  show (bind (bind ((Reader.u1 : Decoder Nat) c pc) _) _ : Except DecodeError (Instr × Nat)) = _
  rw [u1_n (bn1 k h hp hb)]
  show Except.ok ((.iconst 0 : Instr), pc + 1 - pc) = _
  rw [dq_l1]
theorem dq_4 {c : ByteArray} (k : Nat) {M : List Nat} (h : ((c.data.toList.drop k).take M.length).map UInt8.toNat = M) {j pc : Nat} (hp : k + j = pc) (hb : (M.drop j).take 1 = [4]) : decode c pc = .ok (.iconst 1, 1) := by
  show (bind (bind ((Reader.u1 : Decoder Nat) c pc) _) _ : Except DecodeError (Instr × Nat)) = _
  rw [u1_n (bn1 k h hp hb)]
  show Except.ok ((.iconst 1 : Instr), pc + 1 - pc) = _
  rw [dq_l1]
theorem dq_5 {c : ByteArray} (k : Nat) {M : List Nat} (h : ((c.data.toList.drop k).take M.length).map UInt8.toNat = M) {j pc : Nat} (hp : k + j = pc) (hb : (M.drop j).take 1 = [5]) : decode c pc = .ok (.iconst 2, 1) := by
  show (bind (bind ((Reader.u1 : Decoder Nat) c pc) _) _ : Except DecodeError (Instr × Nat)) = _
  rw [u1_n (bn1 k h hp hb)]
  show Except.ok ((.iconst 2 : Instr), pc + 1 - pc) = _
  rw [dq_l1]
theorem dq_6 {c : ByteArray} (k : Nat) {M : List Nat} (h : ((c.data.toList.drop k).take M.length).map UInt8.toNat = M) {j pc : Nat} (hp : k + j = pc) (hb : (M.drop j).take 1 = [6]) : decode c pc = .ok (.iconst 3, 1) := by
  show (bind (bind ((Reader.u1 : Decoder Nat) c pc) _) _ : Except DecodeError (Instr × Nat)) = _
  rw [u1_n (bn1 k h hp hb)]
  show Except.ok ((.iconst 3 : Instr), pc + 1 - pc) = _
  rw [dq_l1]
theorem dq_7 {c : ByteArray} (k : Nat) {M : List Nat} (h : ((c.data.toList.drop k).take M.length).map UInt8.toNat = M) {j pc : Nat} (hp : k + j = pc) (hb : (M.drop j).take 1 = [7]) : decode c pc = .ok (.iconst 4, 1) := by
  show (bind (bind ((Reader.u1 : Decoder Nat) c pc) _) _ : Except DecodeError (Instr × Nat)) = _
  rw [u1_n (bn1 k h hp hb)]
  show Except.ok ((.iconst 4 : Instr), pc + 1 - pc) = _
  rw [dq_l1]
theorem dq_8 {c : ByteArray} (k : Nat) {M : List Nat} (h : ((c.data.toList.drop k).take M.length).map UInt8.toNat = M) {j pc : Nat} (hp : k + j = pc) (hb : (M.drop j).take 1 = [8]) : decode c pc = .ok (.iconst 5, 1) := by
  show (bind (bind ((Reader.u1 : Decoder Nat) c pc) _) _ : Except DecodeError (Instr × Nat)) = _
  rw [u1_n (bn1 k h hp hb)]
  show Except.ok ((.iconst 5 : Instr), pc + 1 - pc) = _
  rw [dq_l1]
theorem dq_9 {c : ByteArray} (k : Nat) {M : List Nat} (h : ((c.data.toList.drop k).take M.length).map UInt8.toNat = M) {j pc : Nat} (hp : k + j = pc) (hb : (M.drop j).take 1 = [9]) : decode c pc = .ok (.lconst 0, 1) := by
  show (bind (bind ((Reader.u1 : Decoder Nat) c pc) _) _ : Except DecodeError (Instr × Nat)) = _
  rw [u1_n (bn1 k h hp hb)]
  show Except.ok ((.lconst 0 : Instr), pc + 1 - pc) = _
  rw [dq_l1]
theorem dq_10 {c : ByteArray} (k : Nat) {M : List Nat} (h : ((c.data.toList.drop k).take M.length).map UInt8.toNat = M) {j pc : Nat} (hp : k + j = pc) (hb : (M.drop j).take 1 = [10]) : decode c pc = .ok (.lconst 1, 1) := by
  show (bind (bind ((Reader.u1 : Decoder Nat) c pc) _) _ : Except DecodeError (Instr × Nat)) = _
  rw [u1_n (bn1 k h hp hb)]
  show Except.ok ((.lconst 1 : Instr), pc + 1 - pc) = _
  rw [dq_l1]
theorem dq_26 {c : ByteArray} (k : Nat) {M : List Nat} (h : ((c.data.toList.drop k).take M.length).map UInt8.toNat = M) {j pc : Nat} (hp : k + j = pc) (hb : (M.drop j).take 1 = [26]) : decode c pc = .ok (.iload_n 0, 1) := by
  show (bind (bind ((Reader.u1 : Decoder Nat) c pc) _) _ : Except DecodeError (Instr × Nat)) = _
  rw [u1_n (bn1 k h hp hb)]
  show Except.ok ((.iload_n 0 : Instr), pc + 1 - pc) = _
  rw [dq_l1]
theorem dq_27 {c : ByteArray} (k : Nat) {M : List Nat} (h : ((c.data.toList.drop k).take M.length).map UInt8.toNat = M) {j pc : Nat} (hp : k + j = pc) (hb : (M.drop j).take 1 = [27]) : decode c pc = .ok (.iload_n 1, 1) := by
  show (bind (bind ((Reader.u1 : Decoder Nat) c pc) _) _ : Except DecodeError (Instr × Nat)) = _
  rw [u1_n (bn1 k h hp hb)]
  show Except.ok ((.iload_n 1 : Instr), pc + 1 - pc) = _
  rw [dq_l1]
theorem dq_28 {c : ByteArray} (k : Nat) {M : List Nat} (h : ((c.data.toList.drop k).take M.length).map UInt8.toNat = M) {j pc : Nat} (hp : k + j = pc) (hb : (M.drop j).take 1 = [28]) : decode c pc = .ok (.iload_n 2, 1) := by
  show (bind (bind ((Reader.u1 : Decoder Nat) c pc) _) _ : Except DecodeError (Instr × Nat)) = _
  rw [u1_n (bn1 k h hp hb)]
  show Except.ok ((.iload_n 2 : Instr), pc + 1 - pc) = _
  rw [dq_l1]
theorem dq_29 {c : ByteArray} (k : Nat) {M : List Nat} (h : ((c.data.toList.drop k).take M.length).map UInt8.toNat = M) {j pc : Nat} (hp : k + j = pc) (hb : (M.drop j).take 1 = [29]) : decode c pc = .ok (.iload_n 3, 1) := by
  show (bind (bind ((Reader.u1 : Decoder Nat) c pc) _) _ : Except DecodeError (Instr × Nat)) = _
  rw [u1_n (bn1 k h hp hb)]
  show Except.ok ((.iload_n 3 : Instr), pc + 1 - pc) = _
  rw [dq_l1]
theorem dq_30 {c : ByteArray} (k : Nat) {M : List Nat} (h : ((c.data.toList.drop k).take M.length).map UInt8.toNat = M) {j pc : Nat} (hp : k + j = pc) (hb : (M.drop j).take 1 = [30]) : decode c pc = .ok (.lload_n 0, 1) := by
  show (bind (bind ((Reader.u1 : Decoder Nat) c pc) _) _ : Except DecodeError (Instr × Nat)) = _
  rw [u1_n (bn1 k h hp hb)]
  show Except.ok ((.lload_n 0 : Instr), pc + 1 - pc) = _
  rw [dq_l1]
theorem dq_31 {c : ByteArray} (k : Nat) {M : List Nat} (h : ((c.data.toList.drop k).take M.length).map UInt8.toNat = M) {j pc : Nat} (hp : k + j = pc) (hb : (M.drop j).take 1 = [31]) : decode c pc = .ok (.lload_n 1, 1) := by
  show (bind (bind ((Reader.u1 : Decoder Nat) c pc) _) _ : Except DecodeError (Instr × Nat)) = _
  rw [u1_n (bn1 k h hp hb)]
  show Except.ok ((.lload_n 1 : Instr), pc + 1 - pc) = _
  rw [dq_l1]
theorem dq_32 {c : ByteArray} (k : Nat) {M : List Nat} (h : ((c.data.toList.drop k).take M.length).map UInt8.toNat = M) {j pc : Nat} (hp : k + j = pc) (hb : (M.drop j).take 1 = [32]) : decode c pc = .ok (.lload_n 2, 1) := by
  show (bind (bind ((Reader.u1 : Decoder Nat) c pc) _) _ : Except DecodeError (Instr × Nat)) = _
  rw [u1_n (bn1 k h hp hb)]
  show Except.ok ((.lload_n 2 : Instr), pc + 1 - pc) = _
  rw [dq_l1]
theorem dq_33 {c : ByteArray} (k : Nat) {M : List Nat} (h : ((c.data.toList.drop k).take M.length).map UInt8.toNat = M) {j pc : Nat} (hp : k + j = pc) (hb : (M.drop j).take 1 = [33]) : decode c pc = .ok (.lload_n 3, 1) := by
  show (bind (bind ((Reader.u1 : Decoder Nat) c pc) _) _ : Except DecodeError (Instr × Nat)) = _
  rw [u1_n (bn1 k h hp hb)]
  show Except.ok ((.lload_n 3 : Instr), pc + 1 - pc) = _
  rw [dq_l1]
theorem dq_42 {c : ByteArray} (k : Nat) {M : List Nat} (h : ((c.data.toList.drop k).take M.length).map UInt8.toNat = M) {j pc : Nat} (hp : k + j = pc) (hb : (M.drop j).take 1 = [42]) : decode c pc = .ok (.aload_n 0, 1) := by
  show (bind (bind ((Reader.u1 : Decoder Nat) c pc) _) _ : Except DecodeError (Instr × Nat)) = _
  rw [u1_n (bn1 k h hp hb)]
  show Except.ok ((.aload_n 0 : Instr), pc + 1 - pc) = _
  rw [dq_l1]
theorem dq_43 {c : ByteArray} (k : Nat) {M : List Nat} (h : ((c.data.toList.drop k).take M.length).map UInt8.toNat = M) {j pc : Nat} (hp : k + j = pc) (hb : (M.drop j).take 1 = [43]) : decode c pc = .ok (.aload_n 1, 1) := by
  show (bind (bind ((Reader.u1 : Decoder Nat) c pc) _) _ : Except DecodeError (Instr × Nat)) = _
  rw [u1_n (bn1 k h hp hb)]
  show Except.ok ((.aload_n 1 : Instr), pc + 1 - pc) = _
  rw [dq_l1]
theorem dq_44 {c : ByteArray} (k : Nat) {M : List Nat} (h : ((c.data.toList.drop k).take M.length).map UInt8.toNat = M) {j pc : Nat} (hp : k + j = pc) (hb : (M.drop j).take 1 = [44]) : decode c pc = .ok (.aload_n 2, 1) := by
  show (bind (bind ((Reader.u1 : Decoder Nat) c pc) _) _ : Except DecodeError (Instr × Nat)) = _
  rw [u1_n (bn1 k h hp hb)]
  show Except.ok ((.aload_n 2 : Instr), pc + 1 - pc) = _
  rw [dq_l1]
theorem dq_45 {c : ByteArray} (k : Nat) {M : List Nat} (h : ((c.data.toList.drop k).take M.length).map UInt8.toNat = M) {j pc : Nat} (hp : k + j = pc) (hb : (M.drop j).take 1 = [45]) : decode c pc = .ok (.aload_n 3, 1) := by
  show (bind (bind ((Reader.u1 : Decoder Nat) c pc) _) _ : Except DecodeError (Instr × Nat)) = _
  rw [u1_n (bn1 k h hp hb)]
  show Except.ok ((.aload_n 3 : Instr), pc + 1 - pc) = _
  rw [dq_l1]
theorem dq_46 {c : ByteArray} (k : Nat) {M : List Nat} (h : ((c.data.toList.drop k).take M.length).map UInt8.toNat = M) {j pc : Nat} (hp : k + j = pc) (hb : (M.drop j).take 1 = [46]) : decode c pc = .ok (.iaload, 1) := by
  show (bind (bind ((Reader.u1 : Decoder Nat) c pc) _) _ : Except DecodeError (Instr × Nat)) = _
  rw [u1_n (bn1 k h hp hb)]
  show Except.ok ((.iaload : Instr), pc + 1 - pc) = _
  rw [dq_l1]
theorem dq_47 {c : ByteArray} (k : Nat) {M : List Nat} (h : ((c.data.toList.drop k).take M.length).map UInt8.toNat = M) {j pc : Nat} (hp : k + j = pc) (hb : (M.drop j).take 1 = [47]) : decode c pc = .ok (.laload, 1) := by
  show (bind (bind ((Reader.u1 : Decoder Nat) c pc) _) _ : Except DecodeError (Instr × Nat)) = _
  rw [u1_n (bn1 k h hp hb)]
  show Except.ok ((.laload : Instr), pc + 1 - pc) = _
  rw [dq_l1]
theorem dq_51 {c : ByteArray} (k : Nat) {M : List Nat} (h : ((c.data.toList.drop k).take M.length).map UInt8.toNat = M) {j pc : Nat} (hp : k + j = pc) (hb : (M.drop j).take 1 = [51]) : decode c pc = .ok (.baload, 1) := by
  show (bind (bind ((Reader.u1 : Decoder Nat) c pc) _) _ : Except DecodeError (Instr × Nat)) = _
  rw [u1_n (bn1 k h hp hb)]
  show Except.ok ((.baload : Instr), pc + 1 - pc) = _
  rw [dq_l1]
theorem dq_59 {c : ByteArray} (k : Nat) {M : List Nat} (h : ((c.data.toList.drop k).take M.length).map UInt8.toNat = M) {j pc : Nat} (hp : k + j = pc) (hb : (M.drop j).take 1 = [59]) : decode c pc = .ok (.istore_n 0, 1) := by
  show (bind (bind ((Reader.u1 : Decoder Nat) c pc) _) _ : Except DecodeError (Instr × Nat)) = _
  rw [u1_n (bn1 k h hp hb)]
  show Except.ok ((.istore_n 0 : Instr), pc + 1 - pc) = _
  rw [dq_l1]
theorem dq_60 {c : ByteArray} (k : Nat) {M : List Nat} (h : ((c.data.toList.drop k).take M.length).map UInt8.toNat = M) {j pc : Nat} (hp : k + j = pc) (hb : (M.drop j).take 1 = [60]) : decode c pc = .ok (.istore_n 1, 1) := by
  show (bind (bind ((Reader.u1 : Decoder Nat) c pc) _) _ : Except DecodeError (Instr × Nat)) = _
  rw [u1_n (bn1 k h hp hb)]
  show Except.ok ((.istore_n 1 : Instr), pc + 1 - pc) = _
  rw [dq_l1]
theorem dq_61 {c : ByteArray} (k : Nat) {M : List Nat} (h : ((c.data.toList.drop k).take M.length).map UInt8.toNat = M) {j pc : Nat} (hp : k + j = pc) (hb : (M.drop j).take 1 = [61]) : decode c pc = .ok (.istore_n 2, 1) := by
  show (bind (bind ((Reader.u1 : Decoder Nat) c pc) _) _ : Except DecodeError (Instr × Nat)) = _
  rw [u1_n (bn1 k h hp hb)]
  show Except.ok ((.istore_n 2 : Instr), pc + 1 - pc) = _
  rw [dq_l1]
theorem dq_62 {c : ByteArray} (k : Nat) {M : List Nat} (h : ((c.data.toList.drop k).take M.length).map UInt8.toNat = M) {j pc : Nat} (hp : k + j = pc) (hb : (M.drop j).take 1 = [62]) : decode c pc = .ok (.istore_n 3, 1) := by
  show (bind (bind ((Reader.u1 : Decoder Nat) c pc) _) _ : Except DecodeError (Instr × Nat)) = _
  rw [u1_n (bn1 k h hp hb)]
  show Except.ok ((.istore_n 3 : Instr), pc + 1 - pc) = _
  rw [dq_l1]
theorem dq_63 {c : ByteArray} (k : Nat) {M : List Nat} (h : ((c.data.toList.drop k).take M.length).map UInt8.toNat = M) {j pc : Nat} (hp : k + j = pc) (hb : (M.drop j).take 1 = [63]) : decode c pc = .ok (.lstore_n 0, 1) := by
  show (bind (bind ((Reader.u1 : Decoder Nat) c pc) _) _ : Except DecodeError (Instr × Nat)) = _
  rw [u1_n (bn1 k h hp hb)]
  show Except.ok ((.lstore_n 0 : Instr), pc + 1 - pc) = _
  rw [dq_l1]
theorem dq_64 {c : ByteArray} (k : Nat) {M : List Nat} (h : ((c.data.toList.drop k).take M.length).map UInt8.toNat = M) {j pc : Nat} (hp : k + j = pc) (hb : (M.drop j).take 1 = [64]) : decode c pc = .ok (.lstore_n 1, 1) := by
  show (bind (bind ((Reader.u1 : Decoder Nat) c pc) _) _ : Except DecodeError (Instr × Nat)) = _
  rw [u1_n (bn1 k h hp hb)]
  show Except.ok ((.lstore_n 1 : Instr), pc + 1 - pc) = _
  rw [dq_l1]
theorem dq_65 {c : ByteArray} (k : Nat) {M : List Nat} (h : ((c.data.toList.drop k).take M.length).map UInt8.toNat = M) {j pc : Nat} (hp : k + j = pc) (hb : (M.drop j).take 1 = [65]) : decode c pc = .ok (.lstore_n 2, 1) := by
  show (bind (bind ((Reader.u1 : Decoder Nat) c pc) _) _ : Except DecodeError (Instr × Nat)) = _
  rw [u1_n (bn1 k h hp hb)]
  show Except.ok ((.lstore_n 2 : Instr), pc + 1 - pc) = _
  rw [dq_l1]
theorem dq_66 {c : ByteArray} (k : Nat) {M : List Nat} (h : ((c.data.toList.drop k).take M.length).map UInt8.toNat = M) {j pc : Nat} (hp : k + j = pc) (hb : (M.drop j).take 1 = [66]) : decode c pc = .ok (.lstore_n 3, 1) := by
  show (bind (bind ((Reader.u1 : Decoder Nat) c pc) _) _ : Except DecodeError (Instr × Nat)) = _
  rw [u1_n (bn1 k h hp hb)]
  show Except.ok ((.lstore_n 3 : Instr), pc + 1 - pc) = _
  rw [dq_l1]
theorem dq_75 {c : ByteArray} (k : Nat) {M : List Nat} (h : ((c.data.toList.drop k).take M.length).map UInt8.toNat = M) {j pc : Nat} (hp : k + j = pc) (hb : (M.drop j).take 1 = [75]) : decode c pc = .ok (.astore_n 0, 1) := by
  show (bind (bind ((Reader.u1 : Decoder Nat) c pc) _) _ : Except DecodeError (Instr × Nat)) = _
  rw [u1_n (bn1 k h hp hb)]
  show Except.ok ((.astore_n 0 : Instr), pc + 1 - pc) = _
  rw [dq_l1]
theorem dq_76 {c : ByteArray} (k : Nat) {M : List Nat} (h : ((c.data.toList.drop k).take M.length).map UInt8.toNat = M) {j pc : Nat} (hp : k + j = pc) (hb : (M.drop j).take 1 = [76]) : decode c pc = .ok (.astore_n 1, 1) := by
  show (bind (bind ((Reader.u1 : Decoder Nat) c pc) _) _ : Except DecodeError (Instr × Nat)) = _
  rw [u1_n (bn1 k h hp hb)]
  show Except.ok ((.astore_n 1 : Instr), pc + 1 - pc) = _
  rw [dq_l1]
theorem dq_77 {c : ByteArray} (k : Nat) {M : List Nat} (h : ((c.data.toList.drop k).take M.length).map UInt8.toNat = M) {j pc : Nat} (hp : k + j = pc) (hb : (M.drop j).take 1 = [77]) : decode c pc = .ok (.astore_n 2, 1) := by
  show (bind (bind ((Reader.u1 : Decoder Nat) c pc) _) _ : Except DecodeError (Instr × Nat)) = _
  rw [u1_n (bn1 k h hp hb)]
  show Except.ok ((.astore_n 2 : Instr), pc + 1 - pc) = _
  rw [dq_l1]
theorem dq_78 {c : ByteArray} (k : Nat) {M : List Nat} (h : ((c.data.toList.drop k).take M.length).map UInt8.toNat = M) {j pc : Nat} (hp : k + j = pc) (hb : (M.drop j).take 1 = [78]) : decode c pc = .ok (.astore_n 3, 1) := by
  show (bind (bind ((Reader.u1 : Decoder Nat) c pc) _) _ : Except DecodeError (Instr × Nat)) = _
  rw [u1_n (bn1 k h hp hb)]
  show Except.ok ((.astore_n 3 : Instr), pc + 1 - pc) = _
  rw [dq_l1]
theorem dq_79 {c : ByteArray} (k : Nat) {M : List Nat} (h : ((c.data.toList.drop k).take M.length).map UInt8.toNat = M) {j pc : Nat} (hp : k + j = pc) (hb : (M.drop j).take 1 = [79]) : decode c pc = .ok (.iastore, 1) := by
  show (bind (bind ((Reader.u1 : Decoder Nat) c pc) _) _ : Except DecodeError (Instr × Nat)) = _
  rw [u1_n (bn1 k h hp hb)]
  show Except.ok ((.iastore : Instr), pc + 1 - pc) = _
  rw [dq_l1]
theorem dq_80 {c : ByteArray} (k : Nat) {M : List Nat} (h : ((c.data.toList.drop k).take M.length).map UInt8.toNat = M) {j pc : Nat} (hp : k + j = pc) (hb : (M.drop j).take 1 = [80]) : decode c pc = .ok (.lastore, 1) := by
  show (bind (bind ((Reader.u1 : Decoder Nat) c pc) _) _ : Except DecodeError (Instr × Nat)) = _
  rw [u1_n (bn1 k h hp hb)]
  show Except.ok ((.lastore : Instr), pc + 1 - pc) = _
  rw [dq_l1]
theorem dq_84 {c : ByteArray} (k : Nat) {M : List Nat} (h : ((c.data.toList.drop k).take M.length).map UInt8.toNat = M) {j pc : Nat} (hp : k + j = pc) (hb : (M.drop j).take 1 = [84]) : decode c pc = .ok (.bastore, 1) := by
  show (bind (bind ((Reader.u1 : Decoder Nat) c pc) _) _ : Except DecodeError (Instr × Nat)) = _
  rw [u1_n (bn1 k h hp hb)]
  show Except.ok ((.bastore : Instr), pc + 1 - pc) = _
  rw [dq_l1]
theorem dq_87 {c : ByteArray} (k : Nat) {M : List Nat} (h : ((c.data.toList.drop k).take M.length).map UInt8.toNat = M) {j pc : Nat} (hp : k + j = pc) (hb : (M.drop j).take 1 = [87]) : decode c pc = .ok (.pop, 1) := by
  show (bind (bind ((Reader.u1 : Decoder Nat) c pc) _) _ : Except DecodeError (Instr × Nat)) = _
  rw [u1_n (bn1 k h hp hb)]
  show Except.ok ((.pop : Instr), pc + 1 - pc) = _
  rw [dq_l1]
theorem dq_88 {c : ByteArray} (k : Nat) {M : List Nat} (h : ((c.data.toList.drop k).take M.length).map UInt8.toNat = M) {j pc : Nat} (hp : k + j = pc) (hb : (M.drop j).take 1 = [88]) : decode c pc = .ok (.pop2, 1) := by
  show (bind (bind ((Reader.u1 : Decoder Nat) c pc) _) _ : Except DecodeError (Instr × Nat)) = _
  rw [u1_n (bn1 k h hp hb)]
  show Except.ok ((.pop2 : Instr), pc + 1 - pc) = _
  rw [dq_l1]
theorem dq_89 {c : ByteArray} (k : Nat) {M : List Nat} (h : ((c.data.toList.drop k).take M.length).map UInt8.toNat = M) {j pc : Nat} (hp : k + j = pc) (hb : (M.drop j).take 1 = [89]) : decode c pc = .ok (.dup, 1) := by
  show (bind (bind ((Reader.u1 : Decoder Nat) c pc) _) _ : Except DecodeError (Instr × Nat)) = _
  rw [u1_n (bn1 k h hp hb)]
  show Except.ok ((.dup : Instr), pc + 1 - pc) = _
  rw [dq_l1]
theorem dq_90 {c : ByteArray} (k : Nat) {M : List Nat} (h : ((c.data.toList.drop k).take M.length).map UInt8.toNat = M) {j pc : Nat} (hp : k + j = pc) (hb : (M.drop j).take 1 = [90]) : decode c pc = .ok (.dup_x1, 1) := by
  show (bind (bind ((Reader.u1 : Decoder Nat) c pc) _) _ : Except DecodeError (Instr × Nat)) = _
  rw [u1_n (bn1 k h hp hb)]
  show Except.ok ((.dup_x1 : Instr), pc + 1 - pc) = _
  rw [dq_l1]
theorem dq_92 {c : ByteArray} (k : Nat) {M : List Nat} (h : ((c.data.toList.drop k).take M.length).map UInt8.toNat = M) {j pc : Nat} (hp : k + j = pc) (hb : (M.drop j).take 1 = [92]) : decode c pc = .ok (.dup2, 1) := by
  show (bind (bind ((Reader.u1 : Decoder Nat) c pc) _) _ : Except DecodeError (Instr × Nat)) = _
  rw [u1_n (bn1 k h hp hb)]
  show Except.ok ((.dup2 : Instr), pc + 1 - pc) = _
  rw [dq_l1]
theorem dq_96 {c : ByteArray} (k : Nat) {M : List Nat} (h : ((c.data.toList.drop k).take M.length).map UInt8.toNat = M) {j pc : Nat} (hp : k + j = pc) (hb : (M.drop j).take 1 = [96]) : decode c pc = .ok (.iadd, 1) := by
  show (bind (bind ((Reader.u1 : Decoder Nat) c pc) _) _ : Except DecodeError (Instr × Nat)) = _
  rw [u1_n (bn1 k h hp hb)]
  show Except.ok ((.iadd : Instr), pc + 1 - pc) = _
  rw [dq_l1]
theorem dq_97 {c : ByteArray} (k : Nat) {M : List Nat} (h : ((c.data.toList.drop k).take M.length).map UInt8.toNat = M) {j pc : Nat} (hp : k + j = pc) (hb : (M.drop j).take 1 = [97]) : decode c pc = .ok (.ladd, 1) := by
  show (bind (bind ((Reader.u1 : Decoder Nat) c pc) _) _ : Except DecodeError (Instr × Nat)) = _
  rw [u1_n (bn1 k h hp hb)]
  show Except.ok ((.ladd : Instr), pc + 1 - pc) = _
  rw [dq_l1]
theorem dq_100 {c : ByteArray} (k : Nat) {M : List Nat} (h : ((c.data.toList.drop k).take M.length).map UInt8.toNat = M) {j pc : Nat} (hp : k + j = pc) (hb : (M.drop j).take 1 = [100]) : decode c pc = .ok (.isub, 1) := by
  show (bind (bind ((Reader.u1 : Decoder Nat) c pc) _) _ : Except DecodeError (Instr × Nat)) = _
  rw [u1_n (bn1 k h hp hb)]
  show Except.ok ((.isub : Instr), pc + 1 - pc) = _
  rw [dq_l1]
theorem dq_101 {c : ByteArray} (k : Nat) {M : List Nat} (h : ((c.data.toList.drop k).take M.length).map UInt8.toNat = M) {j pc : Nat} (hp : k + j = pc) (hb : (M.drop j).take 1 = [101]) : decode c pc = .ok (.lsub, 1) := by
  show (bind (bind ((Reader.u1 : Decoder Nat) c pc) _) _ : Except DecodeError (Instr × Nat)) = _
  rw [u1_n (bn1 k h hp hb)]
  show Except.ok ((.lsub : Instr), pc + 1 - pc) = _
  rw [dq_l1]
theorem dq_104 {c : ByteArray} (k : Nat) {M : List Nat} (h : ((c.data.toList.drop k).take M.length).map UInt8.toNat = M) {j pc : Nat} (hp : k + j = pc) (hb : (M.drop j).take 1 = [104]) : decode c pc = .ok (.imul, 1) := by
  show (bind (bind ((Reader.u1 : Decoder Nat) c pc) _) _ : Except DecodeError (Instr × Nat)) = _
  rw [u1_n (bn1 k h hp hb)]
  show Except.ok ((.imul : Instr), pc + 1 - pc) = _
  rw [dq_l1]
theorem dq_105 {c : ByteArray} (k : Nat) {M : List Nat} (h : ((c.data.toList.drop k).take M.length).map UInt8.toNat = M) {j pc : Nat} (hp : k + j = pc) (hb : (M.drop j).take 1 = [105]) : decode c pc = .ok (.lmul, 1) := by
  show (bind (bind ((Reader.u1 : Decoder Nat) c pc) _) _ : Except DecodeError (Instr × Nat)) = _
  rw [u1_n (bn1 k h hp hb)]
  show Except.ok ((.lmul : Instr), pc + 1 - pc) = _
  rw [dq_l1]
theorem dq_108 {c : ByteArray} (k : Nat) {M : List Nat} (h : ((c.data.toList.drop k).take M.length).map UInt8.toNat = M) {j pc : Nat} (hp : k + j = pc) (hb : (M.drop j).take 1 = [108]) : decode c pc = .ok (.idiv, 1) := by
  show (bind (bind ((Reader.u1 : Decoder Nat) c pc) _) _ : Except DecodeError (Instr × Nat)) = _
  rw [u1_n (bn1 k h hp hb)]
  show Except.ok ((.idiv : Instr), pc + 1 - pc) = _
  rw [dq_l1]
theorem dq_109 {c : ByteArray} (k : Nat) {M : List Nat} (h : ((c.data.toList.drop k).take M.length).map UInt8.toNat = M) {j pc : Nat} (hp : k + j = pc) (hb : (M.drop j).take 1 = [109]) : decode c pc = .ok (.ldiv, 1) := by
  show (bind (bind ((Reader.u1 : Decoder Nat) c pc) _) _ : Except DecodeError (Instr × Nat)) = _
  rw [u1_n (bn1 k h hp hb)]
  show Except.ok ((.ldiv : Instr), pc + 1 - pc) = _
  rw [dq_l1]
theorem dq_112 {c : ByteArray} (k : Nat) {M : List Nat} (h : ((c.data.toList.drop k).take M.length).map UInt8.toNat = M) {j pc : Nat} (hp : k + j = pc) (hb : (M.drop j).take 1 = [112]) : decode c pc = .ok (.irem, 1) := by
  show (bind (bind ((Reader.u1 : Decoder Nat) c pc) _) _ : Except DecodeError (Instr × Nat)) = _
  rw [u1_n (bn1 k h hp hb)]
  show Except.ok ((.irem : Instr), pc + 1 - pc) = _
  rw [dq_l1]
theorem dq_113 {c : ByteArray} (k : Nat) {M : List Nat} (h : ((c.data.toList.drop k).take M.length).map UInt8.toNat = M) {j pc : Nat} (hp : k + j = pc) (hb : (M.drop j).take 1 = [113]) : decode c pc = .ok (.lrem, 1) := by
  show (bind (bind ((Reader.u1 : Decoder Nat) c pc) _) _ : Except DecodeError (Instr × Nat)) = _
  rw [u1_n (bn1 k h hp hb)]
  show Except.ok ((.lrem : Instr), pc + 1 - pc) = _
  rw [dq_l1]
theorem dq_116 {c : ByteArray} (k : Nat) {M : List Nat} (h : ((c.data.toList.drop k).take M.length).map UInt8.toNat = M) {j pc : Nat} (hp : k + j = pc) (hb : (M.drop j).take 1 = [116]) : decode c pc = .ok (.ineg, 1) := by
  show (bind (bind ((Reader.u1 : Decoder Nat) c pc) _) _ : Except DecodeError (Instr × Nat)) = _
  rw [u1_n (bn1 k h hp hb)]
  show Except.ok ((.ineg : Instr), pc + 1 - pc) = _
  rw [dq_l1]
theorem dq_117 {c : ByteArray} (k : Nat) {M : List Nat} (h : ((c.data.toList.drop k).take M.length).map UInt8.toNat = M) {j pc : Nat} (hp : k + j = pc) (hb : (M.drop j).take 1 = [117]) : decode c pc = .ok (.lneg, 1) := by
  show (bind (bind ((Reader.u1 : Decoder Nat) c pc) _) _ : Except DecodeError (Instr × Nat)) = _
  rw [u1_n (bn1 k h hp hb)]
  show Except.ok ((.lneg : Instr), pc + 1 - pc) = _
  rw [dq_l1]
theorem dq_120 {c : ByteArray} (k : Nat) {M : List Nat} (h : ((c.data.toList.drop k).take M.length).map UInt8.toNat = M) {j pc : Nat} (hp : k + j = pc) (hb : (M.drop j).take 1 = [120]) : decode c pc = .ok (.ishl, 1) := by
  show (bind (bind ((Reader.u1 : Decoder Nat) c pc) _) _ : Except DecodeError (Instr × Nat)) = _
  rw [u1_n (bn1 k h hp hb)]
  show Except.ok ((.ishl : Instr), pc + 1 - pc) = _
  rw [dq_l1]
theorem dq_121 {c : ByteArray} (k : Nat) {M : List Nat} (h : ((c.data.toList.drop k).take M.length).map UInt8.toNat = M) {j pc : Nat} (hp : k + j = pc) (hb : (M.drop j).take 1 = [121]) : decode c pc = .ok (.lshl, 1) := by
  show (bind (bind ((Reader.u1 : Decoder Nat) c pc) _) _ : Except DecodeError (Instr × Nat)) = _
  rw [u1_n (bn1 k h hp hb)]
  show Except.ok ((.lshl : Instr), pc + 1 - pc) = _
  rw [dq_l1]
theorem dq_122 {c : ByteArray} (k : Nat) {M : List Nat} (h : ((c.data.toList.drop k).take M.length).map UInt8.toNat = M) {j pc : Nat} (hp : k + j = pc) (hb : (M.drop j).take 1 = [122]) : decode c pc = .ok (.ishr, 1) := by
  show (bind (bind ((Reader.u1 : Decoder Nat) c pc) _) _ : Except DecodeError (Instr × Nat)) = _
  rw [u1_n (bn1 k h hp hb)]
  show Except.ok ((.ishr : Instr), pc + 1 - pc) = _
  rw [dq_l1]
theorem dq_124 {c : ByteArray} (k : Nat) {M : List Nat} (h : ((c.data.toList.drop k).take M.length).map UInt8.toNat = M) {j pc : Nat} (hp : k + j = pc) (hb : (M.drop j).take 1 = [124]) : decode c pc = .ok (.iushr, 1) := by
  show (bind (bind ((Reader.u1 : Decoder Nat) c pc) _) _ : Except DecodeError (Instr × Nat)) = _
  rw [u1_n (bn1 k h hp hb)]
  show Except.ok ((.iushr : Instr), pc + 1 - pc) = _
  rw [dq_l1]
theorem dq_125 {c : ByteArray} (k : Nat) {M : List Nat} (h : ((c.data.toList.drop k).take M.length).map UInt8.toNat = M) {j pc : Nat} (hp : k + j = pc) (hb : (M.drop j).take 1 = [125]) : decode c pc = .ok (.lushr, 1) := by
  show (bind (bind ((Reader.u1 : Decoder Nat) c pc) _) _ : Except DecodeError (Instr × Nat)) = _
  rw [u1_n (bn1 k h hp hb)]
  show Except.ok ((.lushr : Instr), pc + 1 - pc) = _
  rw [dq_l1]
theorem dq_126 {c : ByteArray} (k : Nat) {M : List Nat} (h : ((c.data.toList.drop k).take M.length).map UInt8.toNat = M) {j pc : Nat} (hp : k + j = pc) (hb : (M.drop j).take 1 = [126]) : decode c pc = .ok (.iand, 1) := by
  show (bind (bind ((Reader.u1 : Decoder Nat) c pc) _) _ : Except DecodeError (Instr × Nat)) = _
  rw [u1_n (bn1 k h hp hb)]
  show Except.ok ((.iand : Instr), pc + 1 - pc) = _
  rw [dq_l1]
theorem dq_127 {c : ByteArray} (k : Nat) {M : List Nat} (h : ((c.data.toList.drop k).take M.length).map UInt8.toNat = M) {j pc : Nat} (hp : k + j = pc) (hb : (M.drop j).take 1 = [127]) : decode c pc = .ok (.land, 1) := by
  show (bind (bind ((Reader.u1 : Decoder Nat) c pc) _) _ : Except DecodeError (Instr × Nat)) = _
  rw [u1_n (bn1 k h hp hb)]
  show Except.ok ((.land : Instr), pc + 1 - pc) = _
  rw [dq_l1]
theorem dq_128 {c : ByteArray} (k : Nat) {M : List Nat} (h : ((c.data.toList.drop k).take M.length).map UInt8.toNat = M) {j pc : Nat} (hp : k + j = pc) (hb : (M.drop j).take 1 = [128]) : decode c pc = .ok (.ior, 1) := by
  show (bind (bind ((Reader.u1 : Decoder Nat) c pc) _) _ : Except DecodeError (Instr × Nat)) = _
  rw [u1_n (bn1 k h hp hb)]
  show Except.ok ((.ior : Instr), pc + 1 - pc) = _
  rw [dq_l1]
theorem dq_129 {c : ByteArray} (k : Nat) {M : List Nat} (h : ((c.data.toList.drop k).take M.length).map UInt8.toNat = M) {j pc : Nat} (hp : k + j = pc) (hb : (M.drop j).take 1 = [129]) : decode c pc = .ok (.lor, 1) := by
  show (bind (bind ((Reader.u1 : Decoder Nat) c pc) _) _ : Except DecodeError (Instr × Nat)) = _
  rw [u1_n (bn1 k h hp hb)]
  show Except.ok ((.lor : Instr), pc + 1 - pc) = _
  rw [dq_l1]
theorem dq_130 {c : ByteArray} (k : Nat) {M : List Nat} (h : ((c.data.toList.drop k).take M.length).map UInt8.toNat = M) {j pc : Nat} (hp : k + j = pc) (hb : (M.drop j).take 1 = [130]) : decode c pc = .ok (.ixor, 1) := by
  show (bind (bind ((Reader.u1 : Decoder Nat) c pc) _) _ : Except DecodeError (Instr × Nat)) = _
  rw [u1_n (bn1 k h hp hb)]
  show Except.ok ((.ixor : Instr), pc + 1 - pc) = _
  rw [dq_l1]
theorem dq_133 {c : ByteArray} (k : Nat) {M : List Nat} (h : ((c.data.toList.drop k).take M.length).map UInt8.toNat = M) {j pc : Nat} (hp : k + j = pc) (hb : (M.drop j).take 1 = [133]) : decode c pc = .ok (.i2l, 1) := by
  show (bind (bind ((Reader.u1 : Decoder Nat) c pc) _) _ : Except DecodeError (Instr × Nat)) = _
  rw [u1_n (bn1 k h hp hb)]
  show Except.ok ((.i2l : Instr), pc + 1 - pc) = _
  rw [dq_l1]
theorem dq_136 {c : ByteArray} (k : Nat) {M : List Nat} (h : ((c.data.toList.drop k).take M.length).map UInt8.toNat = M) {j pc : Nat} (hp : k + j = pc) (hb : (M.drop j).take 1 = [136]) : decode c pc = .ok (.l2i, 1) := by
  show (bind (bind ((Reader.u1 : Decoder Nat) c pc) _) _ : Except DecodeError (Instr × Nat)) = _
  rw [u1_n (bn1 k h hp hb)]
  show Except.ok ((.l2i : Instr), pc + 1 - pc) = _
  rw [dq_l1]
theorem dq_145 {c : ByteArray} (k : Nat) {M : List Nat} (h : ((c.data.toList.drop k).take M.length).map UInt8.toNat = M) {j pc : Nat} (hp : k + j = pc) (hb : (M.drop j).take 1 = [145]) : decode c pc = .ok (.i2b, 1) := by
  show (bind (bind ((Reader.u1 : Decoder Nat) c pc) _) _ : Except DecodeError (Instr × Nat)) = _
  rw [u1_n (bn1 k h hp hb)]
  show Except.ok ((.i2b : Instr), pc + 1 - pc) = _
  rw [dq_l1]
theorem dq_146 {c : ByteArray} (k : Nat) {M : List Nat} (h : ((c.data.toList.drop k).take M.length).map UInt8.toNat = M) {j pc : Nat} (hp : k + j = pc) (hb : (M.drop j).take 1 = [146]) : decode c pc = .ok (.i2c, 1) := by
  show (bind (bind ((Reader.u1 : Decoder Nat) c pc) _) _ : Except DecodeError (Instr × Nat)) = _
  rw [u1_n (bn1 k h hp hb)]
  show Except.ok ((.i2c : Instr), pc + 1 - pc) = _
  rw [dq_l1]
theorem dq_148 {c : ByteArray} (k : Nat) {M : List Nat} (h : ((c.data.toList.drop k).take M.length).map UInt8.toNat = M) {j pc : Nat} (hp : k + j = pc) (hb : (M.drop j).take 1 = [148]) : decode c pc = .ok (.lcmp, 1) := by
  show (bind (bind ((Reader.u1 : Decoder Nat) c pc) _) _ : Except DecodeError (Instr × Nat)) = _
  rw [u1_n (bn1 k h hp hb)]
  show Except.ok ((.lcmp : Instr), pc + 1 - pc) = _
  rw [dq_l1]
theorem dq_172 {c : ByteArray} (k : Nat) {M : List Nat} (h : ((c.data.toList.drop k).take M.length).map UInt8.toNat = M) {j pc : Nat} (hp : k + j = pc) (hb : (M.drop j).take 1 = [172]) : decode c pc = .ok (.ireturn, 1) := by
  show (bind (bind ((Reader.u1 : Decoder Nat) c pc) _) _ : Except DecodeError (Instr × Nat)) = _
  rw [u1_n (bn1 k h hp hb)]
  show Except.ok ((.ireturn : Instr), pc + 1 - pc) = _
  rw [dq_l1]
theorem dq_173 {c : ByteArray} (k : Nat) {M : List Nat} (h : ((c.data.toList.drop k).take M.length).map UInt8.toNat = M) {j pc : Nat} (hp : k + j = pc) (hb : (M.drop j).take 1 = [173]) : decode c pc = .ok (.lreturn, 1) := by
  show (bind (bind ((Reader.u1 : Decoder Nat) c pc) _) _ : Except DecodeError (Instr × Nat)) = _
  rw [u1_n (bn1 k h hp hb)]
  show Except.ok ((.lreturn : Instr), pc + 1 - pc) = _
  rw [dq_l1]
theorem dq_176 {c : ByteArray} (k : Nat) {M : List Nat} (h : ((c.data.toList.drop k).take M.length).map UInt8.toNat = M) {j pc : Nat} (hp : k + j = pc) (hb : (M.drop j).take 1 = [176]) : decode c pc = .ok (.areturn, 1) := by
  show (bind (bind ((Reader.u1 : Decoder Nat) c pc) _) _ : Except DecodeError (Instr × Nat)) = _
  rw [u1_n (bn1 k h hp hb)]
  show Except.ok ((.areturn : Instr), pc + 1 - pc) = _
  rw [dq_l1]
theorem dq_177 {c : ByteArray} (k : Nat) {M : List Nat} (h : ((c.data.toList.drop k).take M.length).map UInt8.toNat = M) {j pc : Nat} (hp : k + j = pc) (hb : (M.drop j).take 1 = [177]) : decode c pc = .ok (.return_, 1) := by
  show (bind (bind ((Reader.u1 : Decoder Nat) c pc) _) _ : Except DecodeError (Instr × Nat)) = _
  rw [u1_n (bn1 k h hp hb)]
  show Except.ok ((.return_ : Instr), pc + 1 - pc) = _
  rw [dq_l1]
theorem dq_190 {c : ByteArray} (k : Nat) {M : List Nat} (h : ((c.data.toList.drop k).take M.length).map UInt8.toNat = M) {j pc : Nat} (hp : k + j = pc) (hb : (M.drop j).take 1 = [190]) : decode c pc = .ok (.arraylength, 1) := by
  show (bind (bind ((Reader.u1 : Decoder Nat) c pc) _) _ : Except DecodeError (Instr × Nat)) = _
  rw [u1_n (bn1 k h hp hb)]
  show Except.ok ((.arraylength : Instr), pc + 1 - pc) = _
  rw [dq_l1]
theorem dq_191 {c : ByteArray} (k : Nat) {M : List Nat} (h : ((c.data.toList.drop k).take M.length).map UInt8.toNat = M) {j pc : Nat} (hp : k + j = pc) (hb : (M.drop j).take 1 = [191]) : decode c pc = .ok (.athrow, 1) := by
  show (bind (bind ((Reader.u1 : Decoder Nat) c pc) _) _ : Except DecodeError (Instr × Nat)) = _
  rw [u1_n (bn1 k h hp hb)]
  show Except.ok ((.athrow : Instr), pc + 1 - pc) = _
  rw [dq_l1]
theorem dq_18 {c : ByteArray} (k : Nat) {M : List Nat} (h : ((c.data.toList.drop k).take M.length).map UInt8.toNat = M) {j pc i : Nat} (hp : k + j = pc) (hb : (M.drop j).take 2 = [18, i]) : decode c pc = .ok (.ldc i, 2) := by
  obtain ⟨h0, h1⟩ := bn2 k h hp hb
  show (bind (bind ((Reader.u1 : Decoder Nat) c pc) _) _ : Except DecodeError (Instr × Nat)) = _
  rw [u1_n h0]
  show (bind (bind ((Reader.u1 : Decoder Nat) c (pc + 1)) _) _ : Except DecodeError (Instr × Nat)) = _
  rw [u1_n h1]
  show Except.ok (Instr.ldc i, pc + 1 + 1 - pc) = _
  rw [dq_l2]
theorem dq_21 {c : ByteArray} (k : Nat) {M : List Nat} (h : ((c.data.toList.drop k).take M.length).map UInt8.toNat = M) {j pc i : Nat} (hp : k + j = pc) (hb : (M.drop j).take 2 = [21, i]) : decode c pc = .ok (.iload i, 2) := by
  obtain ⟨h0, h1⟩ := bn2 k h hp hb
  show (bind (bind ((Reader.u1 : Decoder Nat) c pc) _) _ : Except DecodeError (Instr × Nat)) = _
  rw [u1_n h0]
  show (bind (bind ((Reader.u1 : Decoder Nat) c (pc + 1)) _) _ : Except DecodeError (Instr × Nat)) = _
  rw [u1_n h1]
  show Except.ok (Instr.iload i, pc + 1 + 1 - pc) = _
  rw [dq_l2]
theorem dq_22 {c : ByteArray} (k : Nat) {M : List Nat} (h : ((c.data.toList.drop k).take M.length).map UInt8.toNat = M) {j pc i : Nat} (hp : k + j = pc) (hb : (M.drop j).take 2 = [22, i]) : decode c pc = .ok (.lload i, 2) := by
  obtain ⟨h0, h1⟩ := bn2 k h hp hb
  show (bind (bind ((Reader.u1 : Decoder Nat) c pc) _) _ : Except DecodeError (Instr × Nat)) = _
  rw [u1_n h0]
  show (bind (bind ((Reader.u1 : Decoder Nat) c (pc + 1)) _) _ : Except DecodeError (Instr × Nat)) = _
  rw [u1_n h1]
  show Except.ok (Instr.lload i, pc + 1 + 1 - pc) = _
  rw [dq_l2]
theorem dq_25 {c : ByteArray} (k : Nat) {M : List Nat} (h : ((c.data.toList.drop k).take M.length).map UInt8.toNat = M) {j pc i : Nat} (hp : k + j = pc) (hb : (M.drop j).take 2 = [25, i]) : decode c pc = .ok (.aload i, 2) := by
  obtain ⟨h0, h1⟩ := bn2 k h hp hb
  show (bind (bind ((Reader.u1 : Decoder Nat) c pc) _) _ : Except DecodeError (Instr × Nat)) = _
  rw [u1_n h0]
  show (bind (bind ((Reader.u1 : Decoder Nat) c (pc + 1)) _) _ : Except DecodeError (Instr × Nat)) = _
  rw [u1_n h1]
  show Except.ok (Instr.aload i, pc + 1 + 1 - pc) = _
  rw [dq_l2]
theorem dq_54 {c : ByteArray} (k : Nat) {M : List Nat} (h : ((c.data.toList.drop k).take M.length).map UInt8.toNat = M) {j pc i : Nat} (hp : k + j = pc) (hb : (M.drop j).take 2 = [54, i]) : decode c pc = .ok (.istore i, 2) := by
  obtain ⟨h0, h1⟩ := bn2 k h hp hb
  show (bind (bind ((Reader.u1 : Decoder Nat) c pc) _) _ : Except DecodeError (Instr × Nat)) = _
  rw [u1_n h0]
  show (bind (bind ((Reader.u1 : Decoder Nat) c (pc + 1)) _) _ : Except DecodeError (Instr × Nat)) = _
  rw [u1_n h1]
  show Except.ok (Instr.istore i, pc + 1 + 1 - pc) = _
  rw [dq_l2]
theorem dq_55 {c : ByteArray} (k : Nat) {M : List Nat} (h : ((c.data.toList.drop k).take M.length).map UInt8.toNat = M) {j pc i : Nat} (hp : k + j = pc) (hb : (M.drop j).take 2 = [55, i]) : decode c pc = .ok (.lstore i, 2) := by
  obtain ⟨h0, h1⟩ := bn2 k h hp hb
  show (bind (bind ((Reader.u1 : Decoder Nat) c pc) _) _ : Except DecodeError (Instr × Nat)) = _
  rw [u1_n h0]
  show (bind (bind ((Reader.u1 : Decoder Nat) c (pc + 1)) _) _ : Except DecodeError (Instr × Nat)) = _
  rw [u1_n h1]
  show Except.ok (Instr.lstore i, pc + 1 + 1 - pc) = _
  rw [dq_l2]
theorem dq_58 {c : ByteArray} (k : Nat) {M : List Nat} (h : ((c.data.toList.drop k).take M.length).map UInt8.toNat = M) {j pc i : Nat} (hp : k + j = pc) (hb : (M.drop j).take 2 = [58, i]) : decode c pc = .ok (.astore i, 2) := by
  obtain ⟨h0, h1⟩ := bn2 k h hp hb
  show (bind (bind ((Reader.u1 : Decoder Nat) c pc) _) _ : Except DecodeError (Instr × Nat)) = _
  rw [u1_n h0]
  show (bind (bind ((Reader.u1 : Decoder Nat) c (pc + 1)) _) _ : Except DecodeError (Instr × Nat)) = _
  rw [u1_n h1]
  show Except.ok (Instr.astore i, pc + 1 + 1 - pc) = _
  rw [dq_l2]
theorem dq_16 {c : ByteArray} (k : Nat) {M : List Nat} (h : ((c.data.toList.drop k).take M.length).map UInt8.toNat = M) {j pc a : Nat} {i : Int} (hp : k + j = pc) (hb : (M.drop j).take 2 = [16, a]) (hi : Reader.signed 8 a = i) : decode c pc = .ok (.bipush i, 2) := by
  obtain ⟨h0, h1⟩ := bn2 k h hp hb
  subst hi
  show (bind (bind ((Reader.u1 : Decoder Nat) c pc) _) _ : Except DecodeError (Instr × Nat)) = _
  rw [u1_n h0]
  show (bind (bind ((Reader.s1 : Decoder Int) c (pc + 1)) _) _ : Except DecodeError (Instr × Nat)) = _
  rw [s1_n h1]
  show Except.ok (Instr.bipush (Reader.signed 8 a), pc + 1 + 1 - pc) = _
  rw [dq_l2]
theorem dq_132 {c : ByteArray} (k : Nat) {M : List Nat} (h : ((c.data.toList.drop k).take M.length).map UInt8.toNat = M) {j pc a b : Nat} {i : Int} (hp : k + j = pc) (hb : (M.drop j).take 3 = [132, a, b]) (hi : Reader.signed 8 b = i) : decode c pc = .ok (.iinc a i, 3) := by
  obtain ⟨h0, h1, h2⟩ := bn3 k h hp hb
  subst hi
  show (bind (bind ((Reader.u1 : Decoder Nat) c pc) _) _ : Except DecodeError (Instr × Nat)) = _
  rw [u1_n h0]
  show (bind (bind ((Reader.u1 : Decoder Nat) c (pc + 1)) _) _ : Except DecodeError (Instr × Nat)) = _
  rw [u1_n h1]
  show (bind (bind ((Reader.s1 : Decoder Int) c (pc + 1 + 1)) _) _ : Except DecodeError (Instr × Nat)) = _
  rw [s1_n h2]
  show Except.ok (Instr.iinc a (Reader.signed 8 b), pc + 1 + 1 + 1 - pc) = _
  rw [dq_l4]
theorem dq_19 {c : ByteArray} (k : Nat) {M : List Nat} (h : ((c.data.toList.drop k).take M.length).map UInt8.toNat = M) {j pc a b i : Nat} (hp : k + j = pc) (hb : (M.drop j).take 3 = [19, a, b]) (hi : a * 256 + b = i) : decode c pc = .ok (.ldc_w i, 3) := by
  obtain ⟨h0, h1, h2⟩ := bn3 k h hp hb
  subst hi
  show (bind (bind ((Reader.u1 : Decoder Nat) c pc) _) _ : Except DecodeError (Instr × Nat)) = _
  rw [u1_n h0]
  show (bind (bind ((Reader.u2 : Decoder Nat) c (pc + 1)) _) _ : Except DecodeError (Instr × Nat)) = _
  rw [u2_n h1 h2]
  show Except.ok (Instr.ldc_w (a * 256 + b), pc + 1 + 2 - pc) = _
  rw [dq_l3]
theorem dq_20 {c : ByteArray} (k : Nat) {M : List Nat} (h : ((c.data.toList.drop k).take M.length).map UInt8.toNat = M) {j pc a b i : Nat} (hp : k + j = pc) (hb : (M.drop j).take 3 = [20, a, b]) (hi : a * 256 + b = i) : decode c pc = .ok (.ldc2_w i, 3) := by
  obtain ⟨h0, h1, h2⟩ := bn3 k h hp hb
  subst hi
  show (bind (bind ((Reader.u1 : Decoder Nat) c pc) _) _ : Except DecodeError (Instr × Nat)) = _
  rw [u1_n h0]
  show (bind (bind ((Reader.u2 : Decoder Nat) c (pc + 1)) _) _ : Except DecodeError (Instr × Nat)) = _
  rw [u2_n h1 h2]
  show Except.ok (Instr.ldc2_w (a * 256 + b), pc + 1 + 2 - pc) = _
  rw [dq_l3]
theorem dq_178 {c : ByteArray} (k : Nat) {M : List Nat} (h : ((c.data.toList.drop k).take M.length).map UInt8.toNat = M) {j pc a b i : Nat} (hp : k + j = pc) (hb : (M.drop j).take 3 = [178, a, b]) (hi : a * 256 + b = i) : decode c pc = .ok (.getstatic i, 3) := by
  obtain ⟨h0, h1, h2⟩ := bn3 k h hp hb
  subst hi
  show (bind (bind ((Reader.u1 : Decoder Nat) c pc) _) _ : Except DecodeError (Instr × Nat)) = _
  rw [u1_n h0]
  show (bind (bind ((Reader.u2 : Decoder Nat) c (pc + 1)) _) _ : Except DecodeError (Instr × Nat)) = _
  rw [u2_n h1 h2]
  show Except.ok (Instr.getstatic (a * 256 + b), pc + 1 + 2 - pc) = _
  rw [dq_l3]
theorem dq_180 {c : ByteArray} (k : Nat) {M : List Nat} (h : ((c.data.toList.drop k).take M.length).map UInt8.toNat = M) {j pc a b i : Nat} (hp : k + j = pc) (hb : (M.drop j).take 3 = [180, a, b]) (hi : a * 256 + b = i) : decode c pc = .ok (.getfield i, 3) := by
  obtain ⟨h0, h1, h2⟩ := bn3 k h hp hb
  subst hi
  show (bind (bind ((Reader.u1 : Decoder Nat) c pc) _) _ : Except DecodeError (Instr × Nat)) = _
  rw [u1_n h0]
  show (bind (bind ((Reader.u2 : Decoder Nat) c (pc + 1)) _) _ : Except DecodeError (Instr × Nat)) = _
  rw [u2_n h1 h2]
  show Except.ok (Instr.getfield (a * 256 + b), pc + 1 + 2 - pc) = _
  rw [dq_l3]
theorem dq_181 {c : ByteArray} (k : Nat) {M : List Nat} (h : ((c.data.toList.drop k).take M.length).map UInt8.toNat = M) {j pc a b i : Nat} (hp : k + j = pc) (hb : (M.drop j).take 3 = [181, a, b]) (hi : a * 256 + b = i) : decode c pc = .ok (.putfield i, 3) := by
  obtain ⟨h0, h1, h2⟩ := bn3 k h hp hb
  subst hi
  show (bind (bind ((Reader.u1 : Decoder Nat) c pc) _) _ : Except DecodeError (Instr × Nat)) = _
  rw [u1_n h0]
  show (bind (bind ((Reader.u2 : Decoder Nat) c (pc + 1)) _) _ : Except DecodeError (Instr × Nat)) = _
  rw [u2_n h1 h2]
  show Except.ok (Instr.putfield (a * 256 + b), pc + 1 + 2 - pc) = _
  rw [dq_l3]
theorem dq_182 {c : ByteArray} (k : Nat) {M : List Nat} (h : ((c.data.toList.drop k).take M.length).map UInt8.toNat = M) {j pc a b i : Nat} (hp : k + j = pc) (hb : (M.drop j).take 3 = [182, a, b]) (hi : a * 256 + b = i) : decode c pc = .ok (.invokevirtual i, 3) := by
  obtain ⟨h0, h1, h2⟩ := bn3 k h hp hb
  subst hi
  show (bind (bind ((Reader.u1 : Decoder Nat) c pc) _) _ : Except DecodeError (Instr × Nat)) = _
  rw [u1_n h0]
  show (bind (bind ((Reader.u2 : Decoder Nat) c (pc + 1)) _) _ : Except DecodeError (Instr × Nat)) = _
  rw [u2_n h1 h2]
  show Except.ok (Instr.invokevirtual (a * 256 + b), pc + 1 + 2 - pc) = _
  rw [dq_l3]
theorem dq_183 {c : ByteArray} (k : Nat) {M : List Nat} (h : ((c.data.toList.drop k).take M.length).map UInt8.toNat = M) {j pc a b i : Nat} (hp : k + j = pc) (hb : (M.drop j).take 3 = [183, a, b]) (hi : a * 256 + b = i) : decode c pc = .ok (.invokespecial i, 3) := by
  obtain ⟨h0, h1, h2⟩ := bn3 k h hp hb
  subst hi
  show (bind (bind ((Reader.u1 : Decoder Nat) c pc) _) _ : Except DecodeError (Instr × Nat)) = _
  rw [u1_n h0]
  show (bind (bind ((Reader.u2 : Decoder Nat) c (pc + 1)) _) _ : Except DecodeError (Instr × Nat)) = _
  rw [u2_n h1 h2]
  show Except.ok (Instr.invokespecial (a * 256 + b), pc + 1 + 2 - pc) = _
  rw [dq_l3]
theorem dq_184 {c : ByteArray} (k : Nat) {M : List Nat} (h : ((c.data.toList.drop k).take M.length).map UInt8.toNat = M) {j pc a b i : Nat} (hp : k + j = pc) (hb : (M.drop j).take 3 = [184, a, b]) (hi : a * 256 + b = i) : decode c pc = .ok (.invokestatic i, 3) := by
  obtain ⟨h0, h1, h2⟩ := bn3 k h hp hb
  subst hi
  show (bind (bind ((Reader.u1 : Decoder Nat) c pc) _) _ : Except DecodeError (Instr × Nat)) = _
  rw [u1_n h0]
  show (bind (bind ((Reader.u2 : Decoder Nat) c (pc + 1)) _) _ : Except DecodeError (Instr × Nat)) = _
  rw [u2_n h1 h2]
  show Except.ok (Instr.invokestatic (a * 256 + b), pc + 1 + 2 - pc) = _
  rw [dq_l3]
theorem dq_187 {c : ByteArray} (k : Nat) {M : List Nat} (h : ((c.data.toList.drop k).take M.length).map UInt8.toNat = M) {j pc a b i : Nat} (hp : k + j = pc) (hb : (M.drop j).take 3 = [187, a, b]) (hi : a * 256 + b = i) : decode c pc = .ok (.new i, 3) := by
  obtain ⟨h0, h1, h2⟩ := bn3 k h hp hb
  subst hi
  show (bind (bind ((Reader.u1 : Decoder Nat) c pc) _) _ : Except DecodeError (Instr × Nat)) = _
  rw [u1_n h0]
  show (bind (bind ((Reader.u2 : Decoder Nat) c (pc + 1)) _) _ : Except DecodeError (Instr × Nat)) = _
  rw [u2_n h1 h2]
  show Except.ok (Instr.new (a * 256 + b), pc + 1 + 2 - pc) = _
  rw [dq_l3]
theorem dq_192 {c : ByteArray} (k : Nat) {M : List Nat} (h : ((c.data.toList.drop k).take M.length).map UInt8.toNat = M) {j pc a b i : Nat} (hp : k + j = pc) (hb : (M.drop j).take 3 = [192, a, b]) (hi : a * 256 + b = i) : decode c pc = .ok (.checkcast i, 3) := by
  obtain ⟨h0, h1, h2⟩ := bn3 k h hp hb
  subst hi
  show (bind (bind ((Reader.u1 : Decoder Nat) c pc) _) _ : Except DecodeError (Instr × Nat)) = _
  rw [u1_n h0]
  show (bind (bind ((Reader.u2 : Decoder Nat) c (pc + 1)) _) _ : Except DecodeError (Instr × Nat)) = _
  rw [u2_n h1 h2]
  show Except.ok (Instr.checkcast (a * 256 + b), pc + 1 + 2 - pc) = _
  rw [dq_l3]
theorem dq_17 {c : ByteArray} (k : Nat) {M : List Nat} (h : ((c.data.toList.drop k).take M.length).map UInt8.toNat = M) {j pc a b : Nat} {i : Int} (hp : k + j = pc) (hb : (M.drop j).take 3 = [17, a, b]) (hi : Reader.signed 16 (a * 256 + b) = i) : decode c pc = .ok (.sipush i, 3) := by
  obtain ⟨h0, h1, h2⟩ := bn3 k h hp hb
  subst hi
  show (bind (bind ((Reader.u1 : Decoder Nat) c pc) _) _ : Except DecodeError (Instr × Nat)) = _
  rw [u1_n h0]
  show (bind (bind ((Reader.s2 : Decoder Int) c (pc + 1)) _) _ : Except DecodeError (Instr × Nat)) = _
  rw [s2_n h1 h2]
  show Except.ok ((.sipush (Reader.signed 16 (a * 256 + b)) : Instr), pc + 1 + 2 - pc) = _
  rw [dq_l3]
theorem dq_153 {c : ByteArray} (k : Nat) {M : List Nat} (h : ((c.data.toList.drop k).take M.length).map UInt8.toNat = M) {j pc a b : Nat} {i : Int} (hp : k + j = pc) (hb : (M.drop j).take 3 = [153, a, b]) (hi : Reader.signed 16 (a * 256 + b) = i) : decode c pc = .ok (.ifCond .eq i, 3) := by
  obtain ⟨h0, h1, h2⟩ := bn3 k h hp hb
  subst hi
  show (bind (bind ((Reader.u1 : Decoder Nat) c pc) _) _ : Except DecodeError (Instr × Nat)) = _
  rw [u1_n h0]
  show (bind (bind ((Reader.s2 : Decoder Int) c (pc + 1)) _) _ : Except DecodeError (Instr × Nat)) = _
  rw [s2_n h1 h2]
  show Except.ok ((.ifCond .eq (Reader.signed 16 (a * 256 + b)) : Instr), pc + 1 + 2 - pc) = _
  rw [dq_l3]
theorem dq_154 {c : ByteArray} (k : Nat) {M : List Nat} (h : ((c.data.toList.drop k).take M.length).map UInt8.toNat = M) {j pc a b : Nat} {i : Int} (hp : k + j = pc) (hb : (M.drop j).take 3 = [154, a, b]) (hi : Reader.signed 16 (a * 256 + b) = i) : decode c pc = .ok (.ifCond .ne i, 3) := by
  obtain ⟨h0, h1, h2⟩ := bn3 k h hp hb
  subst hi
  show (bind (bind ((Reader.u1 : Decoder Nat) c pc) _) _ : Except DecodeError (Instr × Nat)) = _
  rw [u1_n h0]
  show (bind (bind ((Reader.s2 : Decoder Int) c (pc + 1)) _) _ : Except DecodeError (Instr × Nat)) = _
  rw [s2_n h1 h2]
  show Except.ok ((.ifCond .ne (Reader.signed 16 (a * 256 + b)) : Instr), pc + 1 + 2 - pc) = _
  rw [dq_l3]
theorem dq_155 {c : ByteArray} (k : Nat) {M : List Nat} (h : ((c.data.toList.drop k).take M.length).map UInt8.toNat = M) {j pc a b : Nat} {i : Int} (hp : k + j = pc) (hb : (M.drop j).take 3 = [155, a, b]) (hi : Reader.signed 16 (a * 256 + b) = i) : decode c pc = .ok (.ifCond .lt i, 3) := by
  obtain ⟨h0, h1, h2⟩ := bn3 k h hp hb
  subst hi
  show (bind (bind ((Reader.u1 : Decoder Nat) c pc) _) _ : Except DecodeError (Instr × Nat)) = _
  rw [u1_n h0]
  show (bind (bind ((Reader.s2 : Decoder Int) c (pc + 1)) _) _ : Except DecodeError (Instr × Nat)) = _
  rw [s2_n h1 h2]
  show Except.ok ((.ifCond .lt (Reader.signed 16 (a * 256 + b)) : Instr), pc + 1 + 2 - pc) = _
  rw [dq_l3]
theorem dq_156 {c : ByteArray} (k : Nat) {M : List Nat} (h : ((c.data.toList.drop k).take M.length).map UInt8.toNat = M) {j pc a b : Nat} {i : Int} (hp : k + j = pc) (hb : (M.drop j).take 3 = [156, a, b]) (hi : Reader.signed 16 (a * 256 + b) = i) : decode c pc = .ok (.ifCond .ge i, 3) := by
  obtain ⟨h0, h1, h2⟩ := bn3 k h hp hb
  subst hi
  show (bind (bind ((Reader.u1 : Decoder Nat) c pc) _) _ : Except DecodeError (Instr × Nat)) = _
  rw [u1_n h0]
  show (bind (bind ((Reader.s2 : Decoder Int) c (pc + 1)) _) _ : Except DecodeError (Instr × Nat)) = _
  rw [s2_n h1 h2]
  show Except.ok ((.ifCond .ge (Reader.signed 16 (a * 256 + b)) : Instr), pc + 1 + 2 - pc) = _
  rw [dq_l3]
theorem dq_157 {c : ByteArray} (k : Nat) {M : List Nat} (h : ((c.data.toList.drop k).take M.length).map UInt8.toNat = M) {j pc a b : Nat} {i : Int} (hp : k + j = pc) (hb : (M.drop j).take 3 = [157, a, b]) (hi : Reader.signed 16 (a * 256 + b) = i) : decode c pc = .ok (.ifCond .gt i, 3) := by
  obtain ⟨h0, h1, h2⟩ := bn3 k h hp hb
  subst hi
  show (bind (bind ((Reader.u1 : Decoder Nat) c pc) _) _ : Except DecodeError (Instr × Nat)) = _
  rw [u1_n h0]
  show (bind (bind ((Reader.s2 : Decoder Int) c (pc + 1)) _) _ : Except DecodeError (Instr × Nat)) = _
  rw [s2_n h1 h2]
  show Except.ok ((.ifCond .gt (Reader.signed 16 (a * 256 + b)) : Instr), pc + 1 + 2 - pc) = _
  rw [dq_l3]
theorem dq_158 {c : ByteArray} (k : Nat) {M : List Nat} (h : ((c.data.toList.drop k).take M.length).map UInt8.toNat = M) {j pc a b : Nat} {i : Int} (hp : k + j = pc) (hb : (M.drop j).take 3 = [158, a, b]) (hi : Reader.signed 16 (a * 256 + b) = i) : decode c pc = .ok (.ifCond .le i, 3) := by
  obtain ⟨h0, h1, h2⟩ := bn3 k h hp hb
  subst hi
  show (bind (bind ((Reader.u1 : Decoder Nat) c pc) _) _ : Except DecodeError (Instr × Nat)) = _
  rw [u1_n h0]
  show (bind (bind ((Reader.s2 : Decoder Int) c (pc + 1)) _) _ : Except DecodeError (Instr × Nat)) = _
  rw [s2_n h1 h2]
  show Except.ok ((.ifCond .le (Reader.signed 16 (a * 256 + b)) : Instr), pc + 1 + 2 - pc) = _
  rw [dq_l3]
theorem dq_159 {c : ByteArray} (k : Nat) {M : List Nat} (h : ((c.data.toList.drop k).take M.length).map UInt8.toNat = M) {j pc a b : Nat} {i : Int} (hp : k + j = pc) (hb : (M.drop j).take 3 = [159, a, b]) (hi : Reader.signed 16 (a * 256 + b) = i) : decode c pc = .ok (.if_icmp .eq i, 3) := by
  obtain ⟨h0, h1, h2⟩ := bn3 k h hp hb
  subst hi
  show (bind (bind ((Reader.u1 : Decoder Nat) c pc) _) _ : Except DecodeError (Instr × Nat)) = _
  rw [u1_n h0]
  show (bind (bind ((Reader.s2 : Decoder Int) c (pc + 1)) _) _ : Except DecodeError (Instr × Nat)) = _
  rw [s2_n h1 h2]
  show Except.ok ((.if_icmp .eq (Reader.signed 16 (a * 256 + b)) : Instr), pc + 1 + 2 - pc) = _
  rw [dq_l3]
theorem dq_160 {c : ByteArray} (k : Nat) {M : List Nat} (h : ((c.data.toList.drop k).take M.length).map UInt8.toNat = M) {j pc a b : Nat} {i : Int} (hp : k + j = pc) (hb : (M.drop j).take 3 = [160, a, b]) (hi : Reader.signed 16 (a * 256 + b) = i) : decode c pc = .ok (.if_icmp .ne i, 3) := by
  obtain ⟨h0, h1, h2⟩ := bn3 k h hp hb
  subst hi
  show (bind (bind ((Reader.u1 : Decoder Nat) c pc) _) _ : Except DecodeError (Instr × Nat)) = _
  rw [u1_n h0]
  show (bind (bind ((Reader.s2 : Decoder Int) c (pc + 1)) _) _ : Except DecodeError (Instr × Nat)) = _
  rw [s2_n h1 h2]
  show Except.ok ((.if_icmp .ne (Reader.signed 16 (a * 256 + b)) : Instr), pc + 1 + 2 - pc) = _
  rw [dq_l3]
theorem dq_161 {c : ByteArray} (k : Nat) {M : List Nat} (h : ((c.data.toList.drop k).take M.length).map UInt8.toNat = M) {j pc a b : Nat} {i : Int} (hp : k + j = pc) (hb : (M.drop j).take 3 = [161, a, b]) (hi : Reader.signed 16 (a * 256 + b) = i) : decode c pc = .ok (.if_icmp .lt i, 3) := by
  obtain ⟨h0, h1, h2⟩ := bn3 k h hp hb
  subst hi
  show (bind (bind ((Reader.u1 : Decoder Nat) c pc) _) _ : Except DecodeError (Instr × Nat)) = _
  rw [u1_n h0]
  show (bind (bind ((Reader.s2 : Decoder Int) c (pc + 1)) _) _ : Except DecodeError (Instr × Nat)) = _
  rw [s2_n h1 h2]
  show Except.ok ((.if_icmp .lt (Reader.signed 16 (a * 256 + b)) : Instr), pc + 1 + 2 - pc) = _
  rw [dq_l3]
theorem dq_162 {c : ByteArray} (k : Nat) {M : List Nat} (h : ((c.data.toList.drop k).take M.length).map UInt8.toNat = M) {j pc a b : Nat} {i : Int} (hp : k + j = pc) (hb : (M.drop j).take 3 = [162, a, b]) (hi : Reader.signed 16 (a * 256 + b) = i) : decode c pc = .ok (.if_icmp .ge i, 3) := by
  obtain ⟨h0, h1, h2⟩ := bn3 k h hp hb
  subst hi
  show (bind (bind ((Reader.u1 : Decoder Nat) c pc) _) _ : Except DecodeError (Instr × Nat)) = _
  rw [u1_n h0]
  show (bind (bind ((Reader.s2 : Decoder Int) c (pc + 1)) _) _ : Except DecodeError (Instr × Nat)) = _
  rw [s2_n h1 h2]
  show Except.ok ((.if_icmp .ge (Reader.signed 16 (a * 256 + b)) : Instr), pc + 1 + 2 - pc) = _
  rw [dq_l3]
theorem dq_163 {c : ByteArray} (k : Nat) {M : List Nat} (h : ((c.data.toList.drop k).take M.length).map UInt8.toNat = M) {j pc a b : Nat} {i : Int} (hp : k + j = pc) (hb : (M.drop j).take 3 = [163, a, b]) (hi : Reader.signed 16 (a * 256 + b) = i) : decode c pc = .ok (.if_icmp .gt i, 3) := by
  obtain ⟨h0, h1, h2⟩ := bn3 k h hp hb
  subst hi
  show (bind (bind ((Reader.u1 : Decoder Nat) c pc) _) _ : Except DecodeError (Instr × Nat)) = _
  rw [u1_n h0]
  show (bind (bind ((Reader.s2 : Decoder Int) c (pc + 1)) _) _ : Except DecodeError (Instr × Nat)) = _
  rw [s2_n h1 h2]
  show Except.ok ((.if_icmp .gt (Reader.signed 16 (a * 256 + b)) : Instr), pc + 1 + 2 - pc) = _
  rw [dq_l3]
theorem dq_164 {c : ByteArray} (k : Nat) {M : List Nat} (h : ((c.data.toList.drop k).take M.length).map UInt8.toNat = M) {j pc a b : Nat} {i : Int} (hp : k + j = pc) (hb : (M.drop j).take 3 = [164, a, b]) (hi : Reader.signed 16 (a * 256 + b) = i) : decode c pc = .ok (.if_icmp .le i, 3) := by
  obtain ⟨h0, h1, h2⟩ := bn3 k h hp hb
  subst hi
  show (bind (bind ((Reader.u1 : Decoder Nat) c pc) _) _ : Except DecodeError (Instr × Nat)) = _
  rw [u1_n h0]
  show (bind (bind ((Reader.s2 : Decoder Int) c (pc + 1)) _) _ : Except DecodeError (Instr × Nat)) = _
  rw [s2_n h1 h2]
  show Except.ok ((.if_icmp .le (Reader.signed 16 (a * 256 + b)) : Instr), pc + 1 + 2 - pc) = _
  rw [dq_l3]
theorem dq_167 {c : ByteArray} (k : Nat) {M : List Nat} (h : ((c.data.toList.drop k).take M.length).map UInt8.toNat = M) {j pc a b : Nat} {i : Int} (hp : k + j = pc) (hb : (M.drop j).take 3 = [167, a, b]) (hi : Reader.signed 16 (a * 256 + b) = i) : decode c pc = .ok (.goto i, 3) := by
  obtain ⟨h0, h1, h2⟩ := bn3 k h hp hb
  subst hi
  show (bind (bind ((Reader.u1 : Decoder Nat) c pc) _) _ : Except DecodeError (Instr × Nat)) = _
  rw [u1_n h0]
  show (bind (bind ((Reader.s2 : Decoder Int) c (pc + 1)) _) _ : Except DecodeError (Instr × Nat)) = _
  rw [s2_n h1 h2]
  show Except.ok ((.goto (Reader.signed 16 (a * 256 + b)) : Instr), pc + 1 + 2 - pc) = _
  rw [dq_l3]
theorem dq_199 {c : ByteArray} (k : Nat) {M : List Nat} (h : ((c.data.toList.drop k).take M.length).map UInt8.toNat = M) {j pc a b : Nat} {i : Int} (hp : k + j = pc) (hb : (M.drop j).take 3 = [199, a, b]) (hi : Reader.signed 16 (a * 256 + b) = i) : decode c pc = .ok (.ifnonnull i, 3) := by
  obtain ⟨h0, h1, h2⟩ := bn3 k h hp hb
  subst hi
  show (bind (bind ((Reader.u1 : Decoder Nat) c pc) _) _ : Except DecodeError (Instr × Nat)) = _
  rw [u1_n h0]
  show (bind (bind ((Reader.s2 : Decoder Int) c (pc + 1)) _) _ : Except DecodeError (Instr × Nat)) = _
  rw [s2_n h1 h2]
  show Except.ok ((.ifnonnull (Reader.signed 16 (a * 256 + b)) : Instr), pc + 1 + 2 - pc) = _
  rw [dq_l3]
theorem gw_nil : ([] : List Cond).all goodWord = true := rfl
theorem gw_ap {a b : List Cond} (ha : a.all goodWord = true) (hb : b.all goodWord = true) : (HAppend.hAppend (α := List Cond) (β := List Cond) (γ := List Cond) a b).all goodWord = true := by
  rw [List.all_eq_true] at ha hb ⊢
  intro w hw
  rcases List.mem_append.mp hw with q | q
  · exact ha w q
  · exact hb w q
theorem gw_c2 {c : Cond} {o r : List Cond} (h : (c :: o).all goodWord = true) (hr : r.all goodWord = true) : (List.cons c (HAppend.hAppend (α := List Cond) (β := List Cond) (γ := List Cond) o r)).all goodWord = true := by
  rw [List.all_eq_true] at h hr ⊢
  intro w hw
  rcases List.mem_cons.mp hw with q | q
  · exact h w (List.mem_cons.mpr (Or.inl q))
  · rcases List.mem_append.mp q with q | q
    · exact h w (List.mem_cons_of_mem _ q)
    · exact hr w q
theorem goodIn_in {big ws : List Cond} (g : big.all goodWord = true) (h : ∀ w ∈ ws, w ∈ big) : GoodIn big ws := fun w hw => ⟨h w hw, good_of_word (List.all_eq_true.mp g w (h w hw))⟩
theorem in3 {big : List Cond} {a b c : Cond} {ws : List Cond} (i j k : Nat) (hi : big[i]? = some a) (hj : big[j]? = some b) (hk : big[k]? = some c) (hs : ∀ w ∈ ws, w ∈ big) : ∀ w ∈ ([a, b, c] : List Cond) ++ ws, w ∈ big := by
  intro w hw
  rcases List.mem_append.mp hw with q | q
  · simp only [List.mem_cons, List.not_mem_nil, or_false] at q
    rcases q with rfl | rfl | rfl
    · exact List.mem_of_getElem? hi
    · exact List.mem_of_getElem? hj
    · exact List.mem_of_getElem? hk
  · exact hs w q
theorem in4 {big : List Cond} {a b c d : Cond} {ws : List Cond} (i j k l : Nat) (hi : big[i]? = some a) (hj : big[j]? = some b) (hk : big[k]? = some c) (hl : big[l]? = some d) (hs : ∀ w ∈ ws, w ∈ big) : ∀ w ∈ ([a, b, c, d] : List Cond) ++ ws, w ∈ big := by
  intro w hw
  rcases List.mem_append.mp hw with q | q
  · simp only [List.mem_cons, List.not_mem_nil, or_false] at q
    rcases q with rfl | rfl | rfl | rfl
    · exact List.mem_of_getElem? hi
    · exact List.mem_of_getElem? hj
    · exact List.mem_of_getElem? hk
    · exact List.mem_of_getElem? hl
  · exact hs w q
theorem in5 {big : List Cond} {a b c d e : Cond} {ws : List Cond} (i j k l m : Nat) (hi : big[i]? = some a) (hj : big[j]? = some b) (hk : big[k]? = some c) (hl : big[l]? = some d) (hm : big[m]? = some e) (hs : ∀ w ∈ ws, w ∈ big) : ∀ w ∈ ([a, b, c, d, e] : List Cond) ++ ws, w ∈ big := by
  intro w hw
  rcases List.mem_append.mp hw with q | q
  · simp only [List.mem_cons, List.not_mem_nil, or_false] at q
    rcases q with rfl | rfl | rfl | rfl | rfl
    · exact List.mem_of_getElem? hi
    · exact List.mem_of_getElem? hj
    · exact List.mem_of_getElem? hk
    · exact List.mem_of_getElem? hl
    · exact List.mem_of_getElem? hm
  · exact hs w q
theorem fixPD {D : va_G} {cl : List vw_C} {A : Nat → Prop} {H : Heap} {ws ws' : va_W} (hP : va_P D cl ws H) (hD : va_D A ws) (e : ws = ws') : va_P D cl ws' H ∧ va_D A ws' := by
  subst e
  exact ⟨hP, hD⟩
abbrev k_I (E : EE) (a n : Nat) (c : Nat → Int32) : Nat × va_E := (a, .inl (E.2.1, n, .inl c))
abbrev k_B (E : EE) (a n : Nat) (c : Nat → Int32) : Nat × va_E := (a, .inl (E.2.2.1, n, .inl c))
abbrev k_L (E : EE) (a n : Nat) (c : Nat → Int64) : Nat × va_E := (a, .inl (E.2.2.2, n, .inr (.inl c)))
abbrev k_X0 (a : Nat) (f0 : Nat) : Nat × va_E := (a, .inr (1, [.ref f0]))
abbrev k_X1 (a : Nat) (f0 : Int64) (f1 : Int32) (f2 : Int32) (f3 : Int32) (f4 : Int32) : Nat × va_E := (a, .inr (2, [.long f0, .int f1, .int f2, .int f3, .int f4]))
abbrev k_X2 (a : Nat) (f0 : Nat) (f1 : Int32) (f2 : Int32) : Nat × va_E := (a, .inr (3, [.ref f0, .int f1, .int f2]))
abbrev k_X3 (a : Nat) (f0 : Nat) (f1 : Nat) (f2 : Nat) (f3 : Nat) (f4 : Int32) (f5 : Int32) (f6 : Int32) (f7 : Int32) (f8 : Int32) (f9 : Int32) (f10 : Int32) : Nat × va_E := (a, .inr (4, [.ref f0, .ref f1, .ref f2, .ref f3, .int f4, .int f5, .int f6, .int f7, .int f8, .int f9, .int f10]))
abbrev k_X4 (a : Nat) (f0 : Nat) (f1 : Nat) (f2 : Int32) : Nat × va_E := (a, .inr (5, [.ref f0, .ref f1, .int f2]))
abbrev k_X5 (a : Nat) (f0 : Nat) (f1 : Nat) (f2 : Int32) (f3 : Int32) (f4 : Nat) (f5 : Nat) : Nat × va_E := (a, .inr (6, [.ref f0, .ref f1, .int f2, .int f3, .ref f4, .ref f5]))
abbrev k_X6 (a : Nat) (f0 : Nat) (f1 : Int32) : Nat × va_E := (a, .inr (7, [.ref f0, .int f1]))
abbrev k_X7 (a : Nat) (f0 : Nat) (f1 : Nat) (f2 : Nat) (f3 : Nat) (f4 : Nat) (f5 : Nat) (f6 : Nat) (f7 : Nat) (f8 : Nat) (f9 : Nat) (f10 : Nat) (f11 : Int32) : Nat × va_E := (a, .inr (8, [.ref f0, .ref f1, .ref f2, .ref f3, .ref f4, .ref f5, .ref f6, .ref f7, .ref f8, .ref f9, .ref f10, .int f11]))
abbrev k_X8 (a : Nat) (f0 : Int32) (f1 : Nat) (f2 : Int32) (f3 : Int32) (f4 : Int32) (f5 : Int32) (f6 : Int32) (f7 : Int32) (f8 : Int64) (f9 : Int32) (f10 : Int32) (f11 : Int32) (f12 : Int32) (f13 : Nat) (f14 : Nat) (f15 : Nat) (f16 : Int32) (f17 : Nat) (f18 : Nat) (f19 : Int32) (f20 : Nat) (f21 : Nat) (f22 : Int32) (f23 : Int32) (f24 : Nat) (f25 : Int32) (f26 : Nat) (f27 : Int32) (f28 : Int64) (f29 : Nat) (f30 : Int32) (f31 : Int32) (f32 : Nat) (f33 : Int32) (f34 : Nat) (f35 : Int32) : Nat × va_E := (a, .inr (9, [.int f0, .ref f1, .int f2, .int f3, .int f4, .int f5, .int f6, .int f7, .long f8, .int f9, .int f10, .int f11, .int f12, .ref f13, .ref f14, .ref f15, .int f16, .ref f17, .ref f18, .int f19, .ref f20, .ref f21, .int f22, .int f23, .ref f24, .int f25, .ref f26, .int f27, .long f28, .ref f29, .int f30, .int f31, .ref f32, .int f33, .ref f34, .int f35]))
abbrev k_J4 (a : Nat) (f0 : Nat) (f1 : Int32) (f2 : Int32) (f3 : Int32) : Nat × va_E := (a, .inr (0, [.ref f0, .int f1, .int f2, .int f3]))
end
-- 11g.gt
section

theorem fin9 {α : Type} {t u : α} (h : some t = some u) {P : α → Prop} (hp : P t) : P u := Option.some.inj h ▸ hp
theorem own_of {s : State} {y : MethodName} {C : String} {x : ClassId} (h : y.cls = C) (hn : s.vm.findClass y.cls = some x) : s.vm.findClass C = some x := h ▸ hn
/-- a callee's world out of ours, once for all three -/
theorem wcut {D : va_G} {cl : List vw_C} {ws wc : va_W} {A : Nat → Prop} {H0 H : Heap} {locs : List Loc} (hP : va_P D cl ws H) (hD : va_D A ws) (hS : va_S A H0 H locs) (hA : ∀ q, H0.size ≤ q → A q) (is : List Nat) (hn : va_nd is = true) (hs : is.map (fun i => ws[i]?) = wc.map some) : va_P D cl wc H ∧ va_D A wc ∧ (∀ q, va_A wc H.size q → A q) := by
  refine ⟨?_, hD.sub is hn hs, va_free hD hS hA is hs⟩
  intro k q hk
  have h1 : (is.map (fun i => ws[i]?))[k]? = some (some q) := by rw [hs, List.getElem?_map, hk]; rfl
  rw [List.getElem?_map] at h1
  obtain ⟨i, -, h2⟩ := Option.map_eq_some_iff.mp h1
  exact hP i q h2
section GTS
variable {p : Program} {l : Launch} {e : Env} {R : Room} {s : State} {m : MethodId} {args : Array Value} {below : List Frame} {meth : Method} {c : Code} {H : Heap} {locs : List Loc} {cells slots : Nat} {Q : State → Prop}
variable {cc : ByteArray} {pc : Nat} {ls : Array Slot} {rest : List Value} {D : va_G} {A : Nat → Prop} {a : Nat} {tys : List (ClassId × FieldType)} {ws : va_W} {H0 : Heap}
theorem gt_X0_0 (hexec : p.tables.exec = Jvm.exec) (hb : c.code = cc) {own : String} {index : Nat} {Ts : List Cond} (hts : ∀ w ∈ Ts, w.before args s = true) (hin : ∀ w ∈ wsX00, w ∈ Ts) (hown : s.vm.findClass own = some m.cls) (hK : va_K D vwCl tys s) (hP : va_P D vwCl ws H) (q0 : Nat) {fs : List Value} (he : ws[q0]? = some (a, .inr (1, fs))) (hlink : (Cond.fieldLink own index "HushWatch$Book" "lines" "[I").before args s = true) {v : Value} (hv : fs[0]? = some v) (hdg : decode cc pc = .ok (.getfield index, 3))
    (kk : W p l e R s m args below meth c H locs cells slots Q (F0 m (pc + 3) ls (v :: rest))) : W p l e R s m args below meth c H locs cells slots Q (F0 m pc ls (.ref a :: rest)) :=
  va_get (D := D) (ci := 1) (C := RX0) (T := TX0) (N := 1) hexec hb hts hin hown hK hP q0 he rfl 0 (by decide) hlink (fun _ h9 => h9) hv hdg kk
theorem gt_X1_0 (hexec : p.tables.exec = Jvm.exec) (hb : c.code = cc) {own : String} {index : Nat} {Ts : List Cond} (hts : ∀ w ∈ Ts, w.before args s = true) (hin : ∀ w ∈ wsX10, w ∈ Ts) (hown : s.vm.findClass own = some m.cls) (hK : va_K D vwCl tys s) (hP : va_P D vwCl ws H) (q0 : Nat) {fs : List Value} (he : ws[q0]? = some (a, .inr (2, fs))) (hlink : (Cond.fieldLink own index "HushWatch$Draws" "x" "J").before args s = true) {v : Value} (hv : fs[0]? = some v) (hdg : decode cc pc = .ok (.getfield index, 3))
    (kk : W p l e R s m args below meth c H locs cells slots Q (F0 m (pc + 3) ls (v :: rest))) : W p l e R s m args below meth c H locs cells slots Q (F0 m pc ls (.ref a :: rest)) :=
  va_get (D := D) (ci := 2) (C := RX1) (T := TX1) (N := 5) hexec hb hts hin hown hK hP q0 he rfl 0 (by decide) hlink (fun _ h9 => h9) hv hdg kk
theorem pt_X1_0 (hexec : p.tables.exec = Jvm.exec) (hb : c.code = cc) {own : String} {index : Nat} {Ts : List Cond} (hts : ∀ w ∈ Ts, w.before args s = true) (hin : ∀ w ∈ wsX10, w ∈ Ts) (hown : s.vm.findClass own = some m.cls) (hK : va_K D vwCl tys s) (hP : va_P D vwCl ws H) (hD : va_D A ws) (hS0 : va_S A H0 H locs) (q0 : Nat) {fs : List Value} (he : ws[q0]? = some (a, .inr (2, fs))) (hlink : (Cond.fieldLink own index "HushWatch$Draws" "x" "J").before args s = true) {v : Value} (hn : narrow .long v = v) (hfit : fits .long v = true) (hl : 0 < fs.length)
    (hdg : decode cc pc = .ok (.putfield index, 3)) (kk : ∀ (H1 : Heap) (locs1 : List Loc), va_P D vwCl (ws.set q0 (a, .inr (2, fs.set 0 v))) H1 → va_D A (ws.set q0 (a, .inr (2, fs.set 0 v))) → va_S A H0 H1 locs1 → W p l e R s m args below meth c H1 locs1 cells slots Q (F0 m (pc + 3) ls rest)) : W p l e R s m args below meth c H locs cells slots Q (F0 m pc ls (v :: .ref a :: rest)) :=
  va_put (D := D) (ci := 2) (ty := .long) (C := RX1) (T := TX1) (N := 5) hexec hb hts hin tyX1 tyX1_ok nmX1 hown hK hP hD hS0 q0 he rfl 0 (by decide) hlink (fun _ h9 => h9) rfl (by decide +kernel) hn hfit hl hdg kk
theorem gt_X1_1 (hexec : p.tables.exec = Jvm.exec) (hb : c.code = cc) {own : String} {index : Nat} {Ts : List Cond} (hts : ∀ w ∈ Ts, w.before args s = true) (hin : ∀ w ∈ wsX10, w ∈ Ts) (hown : s.vm.findClass own = some m.cls) (hK : va_K D vwCl tys s) (hP : va_P D vwCl ws H) (q0 : Nat) {fs : List Value} (he : ws[q0]? = some (a, .inr (2, fs))) (hlink : (Cond.fieldLink own index "HushWatch$Draws" "sort" "I").before args s = true) {v : Value} (hv : fs[1]? = some v) (hdg : decode cc pc = .ok (.getfield index, 3))
    (kk : W p l e R s m args below meth c H locs cells slots Q (F0 m (pc + 3) ls (v :: rest))) : W p l e R s m args below meth c H locs cells slots Q (F0 m pc ls (.ref a :: rest)) :=
  va_get (D := D) (ci := 2) (C := RX1) (T := TX1) (N := 5) hexec hb hts hin hown hK hP q0 he rfl 1 (by decide) hlink (fun _ h9 => h9) hv hdg kk
theorem pt_X1_1 (hexec : p.tables.exec = Jvm.exec) (hb : c.code = cc) {own : String} {index : Nat} {Ts : List Cond} (hts : ∀ w ∈ Ts, w.before args s = true) (hin : ∀ w ∈ wsX10, w ∈ Ts) (hown : s.vm.findClass own = some m.cls) (hK : va_K D vwCl tys s) (hP : va_P D vwCl ws H) (hD : va_D A ws) (hS0 : va_S A H0 H locs) (q0 : Nat) {fs : List Value} (he : ws[q0]? = some (a, .inr (2, fs))) (hlink : (Cond.fieldLink own index "HushWatch$Draws" "sort" "I").before args s = true) {v : Value} (hn : narrow .int v = v) (hfit : fits .int v = true) (hl : 1 < fs.length)
    (hdg : decode cc pc = .ok (.putfield index, 3)) (kk : ∀ (H1 : Heap) (locs1 : List Loc), va_P D vwCl (ws.set q0 (a, .inr (2, fs.set 1 v))) H1 → va_D A (ws.set q0 (a, .inr (2, fs.set 1 v))) → va_S A H0 H1 locs1 → W p l e R s m args below meth c H1 locs1 cells slots Q (F0 m (pc + 3) ls rest)) : W p l e R s m args below meth c H locs cells slots Q (F0 m pc ls (v :: .ref a :: rest)) :=
  va_put (D := D) (ci := 2) (ty := .int) (C := RX1) (T := TX1) (N := 5) hexec hb hts hin tyX1 tyX1_ok nmX1 hown hK hP hD hS0 q0 he rfl 1 (by decide) hlink (fun _ h9 => h9) rfl (by decide +kernel) hn hfit hl hdg kk
theorem gt_X1_2 (hexec : p.tables.exec = Jvm.exec) (hb : c.code = cc) {own : String} {index : Nat} {Ts : List Cond} (hts : ∀ w ∈ Ts, w.before args s = true) (hin : ∀ w ∈ wsX10, w ∈ Ts) (hown : s.vm.findClass own = some m.cls) (hK : va_K D vwCl tys s) (hP : va_P D vwCl ws H) (q0 : Nat) {fs : List Value} (he : ws[q0]? = some (a, .inr (2, fs))) (hlink : (Cond.fieldLink own index "HushWatch$Draws" "a" "I").before args s = true) {v : Value} (hv : fs[2]? = some v) (hdg : decode cc pc = .ok (.getfield index, 3))
    (kk : W p l e R s m args below meth c H locs cells slots Q (F0 m (pc + 3) ls (v :: rest))) : W p l e R s m args below meth c H locs cells slots Q (F0 m pc ls (.ref a :: rest)) :=
  va_get (D := D) (ci := 2) (C := RX1) (T := TX1) (N := 5) hexec hb hts hin hown hK hP q0 he rfl 2 (by decide) hlink (fun _ h9 => h9) hv hdg kk
theorem pt_X1_2 (hexec : p.tables.exec = Jvm.exec) (hb : c.code = cc) {own : String} {index : Nat} {Ts : List Cond} (hts : ∀ w ∈ Ts, w.before args s = true) (hin : ∀ w ∈ wsX10, w ∈ Ts) (hown : s.vm.findClass own = some m.cls) (hK : va_K D vwCl tys s) (hP : va_P D vwCl ws H) (hD : va_D A ws) (hS0 : va_S A H0 H locs) (q0 : Nat) {fs : List Value} (he : ws[q0]? = some (a, .inr (2, fs))) (hlink : (Cond.fieldLink own index "HushWatch$Draws" "a" "I").before args s = true) {v : Value} (hn : narrow .int v = v) (hfit : fits .int v = true) (hl : 2 < fs.length)
    (hdg : decode cc pc = .ok (.putfield index, 3)) (kk : ∀ (H1 : Heap) (locs1 : List Loc), va_P D vwCl (ws.set q0 (a, .inr (2, fs.set 2 v))) H1 → va_D A (ws.set q0 (a, .inr (2, fs.set 2 v))) → va_S A H0 H1 locs1 → W p l e R s m args below meth c H1 locs1 cells slots Q (F0 m (pc + 3) ls rest)) : W p l e R s m args below meth c H locs cells slots Q (F0 m pc ls (v :: .ref a :: rest)) :=
  va_put (D := D) (ci := 2) (ty := .int) (C := RX1) (T := TX1) (N := 5) hexec hb hts hin tyX1 tyX1_ok nmX1 hown hK hP hD hS0 q0 he rfl 2 (by decide) hlink (fun _ h9 => h9) rfl (by decide +kernel) hn hfit hl hdg kk
theorem gt_X1_3 (hexec : p.tables.exec = Jvm.exec) (hb : c.code = cc) {own : String} {index : Nat} {Ts : List Cond} (hts : ∀ w ∈ Ts, w.before args s = true) (hin : ∀ w ∈ wsX10, w ∈ Ts) (hown : s.vm.findClass own = some m.cls) (hK : va_K D vwCl tys s) (hP : va_P D vwCl ws H) (q0 : Nat) {fs : List Value} (he : ws[q0]? = some (a, .inr (2, fs))) (hlink : (Cond.fieldLink own index "HushWatch$Draws" "b" "I").before args s = true) {v : Value} (hv : fs[3]? = some v) (hdg : decode cc pc = .ok (.getfield index, 3))
    (kk : W p l e R s m args below meth c H locs cells slots Q (F0 m (pc + 3) ls (v :: rest))) : W p l e R s m args below meth c H locs cells slots Q (F0 m pc ls (.ref a :: rest)) :=
  va_get (D := D) (ci := 2) (C := RX1) (T := TX1) (N := 5) hexec hb hts hin hown hK hP q0 he rfl 3 (by decide) hlink (fun _ h9 => h9) hv hdg kk
theorem pt_X1_3 (hexec : p.tables.exec = Jvm.exec) (hb : c.code = cc) {own : String} {index : Nat} {Ts : List Cond} (hts : ∀ w ∈ Ts, w.before args s = true) (hin : ∀ w ∈ wsX10, w ∈ Ts) (hown : s.vm.findClass own = some m.cls) (hK : va_K D vwCl tys s) (hP : va_P D vwCl ws H) (hD : va_D A ws) (hS0 : va_S A H0 H locs) (q0 : Nat) {fs : List Value} (he : ws[q0]? = some (a, .inr (2, fs))) (hlink : (Cond.fieldLink own index "HushWatch$Draws" "b" "I").before args s = true) {v : Value} (hn : narrow .int v = v) (hfit : fits .int v = true) (hl : 3 < fs.length)
    (hdg : decode cc pc = .ok (.putfield index, 3)) (kk : ∀ (H1 : Heap) (locs1 : List Loc), va_P D vwCl (ws.set q0 (a, .inr (2, fs.set 3 v))) H1 → va_D A (ws.set q0 (a, .inr (2, fs.set 3 v))) → va_S A H0 H1 locs1 → W p l e R s m args below meth c H1 locs1 cells slots Q (F0 m (pc + 3) ls rest)) : W p l e R s m args below meth c H locs cells slots Q (F0 m pc ls (v :: .ref a :: rest)) :=
  va_put (D := D) (ci := 2) (ty := .int) (C := RX1) (T := TX1) (N := 5) hexec hb hts hin tyX1 tyX1_ok nmX1 hown hK hP hD hS0 q0 he rfl 3 (by decide) hlink (fun _ h9 => h9) rfl (by decide +kernel) hn hfit hl hdg kk
theorem gt_X1_4 (hexec : p.tables.exec = Jvm.exec) (hb : c.code = cc) {own : String} {index : Nat} {Ts : List Cond} (hts : ∀ w ∈ Ts, w.before args s = true) (hin : ∀ w ∈ wsX10, w ∈ Ts) (hown : s.vm.findClass own = some m.cls) (hK : va_K D vwCl tys s) (hP : va_P D vwCl ws H) (q0 : Nat) {fs : List Value} (he : ws[q0]? = some (a, .inr (2, fs))) (hlink : (Cond.fieldLink own index "HushWatch$Draws" "c" "I").before args s = true) {v : Value} (hv : fs[4]? = some v) (hdg : decode cc pc = .ok (.getfield index, 3))
    (kk : W p l e R s m args below meth c H locs cells slots Q (F0 m (pc + 3) ls (v :: rest))) : W p l e R s m args below meth c H locs cells slots Q (F0 m pc ls (.ref a :: rest)) :=
  va_get (D := D) (ci := 2) (C := RX1) (T := TX1) (N := 5) hexec hb hts hin hown hK hP q0 he rfl 4 (by decide) hlink (fun _ h9 => h9) hv hdg kk
theorem pt_X1_4 (hexec : p.tables.exec = Jvm.exec) (hb : c.code = cc) {own : String} {index : Nat} {Ts : List Cond} (hts : ∀ w ∈ Ts, w.before args s = true) (hin : ∀ w ∈ wsX10, w ∈ Ts) (hown : s.vm.findClass own = some m.cls) (hK : va_K D vwCl tys s) (hP : va_P D vwCl ws H) (hD : va_D A ws) (hS0 : va_S A H0 H locs) (q0 : Nat) {fs : List Value} (he : ws[q0]? = some (a, .inr (2, fs))) (hlink : (Cond.fieldLink own index "HushWatch$Draws" "c" "I").before args s = true) {v : Value} (hn : narrow .int v = v) (hfit : fits .int v = true) (hl : 4 < fs.length)
    (hdg : decode cc pc = .ok (.putfield index, 3)) (kk : ∀ (H1 : Heap) (locs1 : List Loc), va_P D vwCl (ws.set q0 (a, .inr (2, fs.set 4 v))) H1 → va_D A (ws.set q0 (a, .inr (2, fs.set 4 v))) → va_S A H0 H1 locs1 → W p l e R s m args below meth c H1 locs1 cells slots Q (F0 m (pc + 3) ls rest)) : W p l e R s m args below meth c H locs cells slots Q (F0 m pc ls (v :: .ref a :: rest)) :=
  va_put (D := D) (ci := 2) (ty := .int) (C := RX1) (T := TX1) (N := 5) hexec hb hts hin tyX1 tyX1_ok nmX1 hown hK hP hD hS0 q0 he rfl 4 (by decide) hlink (fun _ h9 => h9) rfl (by decide +kernel) hn hfit hl hdg kk
theorem gt_X2_0 (hexec : p.tables.exec = Jvm.exec) (hb : c.code = cc) {own : String} {index : Nat} {Ts : List Cond} (hts : ∀ w ∈ Ts, w.before args s = true) (hin : ∀ w ∈ wsX20, w ∈ Ts) (hown : s.vm.findClass own = some m.cls) (hK : va_K D vwCl tys s) (hP : va_P D vwCl ws H) (q0 : Nat) {fs : List Value} (he : ws[q0]? = some (a, .inr (3, fs))) (hlink : (Cond.fieldLink own index "HushWatch$History" "rows" "[I").before args s = true) {v : Value} (hv : fs[0]? = some v) (hdg : decode cc pc = .ok (.getfield index, 3))
    (kk : W p l e R s m args below meth c H locs cells slots Q (F0 m (pc + 3) ls (v :: rest))) : W p l e R s m args below meth c H locs cells slots Q (F0 m pc ls (.ref a :: rest)) :=
  va_get (D := D) (ci := 3) (C := RX2) (T := TX2) (N := 3) hexec hb hts hin hown hK hP q0 he rfl 0 (by decide) hlink (fun _ h9 => h9) hv hdg kk
theorem gt_X2_1 (hexec : p.tables.exec = Jvm.exec) (hb : c.code = cc) {own : String} {index : Nat} {Ts : List Cond} (hts : ∀ w ∈ Ts, w.before args s = true) (hin : ∀ w ∈ wsX20, w ∈ Ts) (hown : s.vm.findClass own = some m.cls) (hK : va_K D vwCl tys s) (hP : va_P D vwCl ws H) (q0 : Nat) {fs : List Value} (he : ws[q0]? = some (a, .inr (3, fs))) (hlink : (Cond.fieldLink own index "HushWatch$History" "next" "I").before args s = true) {v : Value} (hv : fs[1]? = some v) (hdg : decode cc pc = .ok (.getfield index, 3))
    (kk : W p l e R s m args below meth c H locs cells slots Q (F0 m (pc + 3) ls (v :: rest))) : W p l e R s m args below meth c H locs cells slots Q (F0 m pc ls (.ref a :: rest)) :=
  va_get (D := D) (ci := 3) (C := RX2) (T := TX2) (N := 3) hexec hb hts hin hown hK hP q0 he rfl 1 (by decide) hlink (fun _ h9 => h9) hv hdg kk
theorem pt_X2_1 (hexec : p.tables.exec = Jvm.exec) (hb : c.code = cc) {own : String} {index : Nat} {Ts : List Cond} (hts : ∀ w ∈ Ts, w.before args s = true) (hin : ∀ w ∈ wsX20, w ∈ Ts) (hown : s.vm.findClass own = some m.cls) (hK : va_K D vwCl tys s) (hP : va_P D vwCl ws H) (hD : va_D A ws) (hS0 : va_S A H0 H locs) (q0 : Nat) {fs : List Value} (he : ws[q0]? = some (a, .inr (3, fs))) (hlink : (Cond.fieldLink own index "HushWatch$History" "next" "I").before args s = true) {v : Value} (hn : narrow .int v = v) (hfit : fits .int v = true) (hl : 1 < fs.length)
    (hdg : decode cc pc = .ok (.putfield index, 3)) (kk : ∀ (H1 : Heap) (locs1 : List Loc), va_P D vwCl (ws.set q0 (a, .inr (3, fs.set 1 v))) H1 → va_D A (ws.set q0 (a, .inr (3, fs.set 1 v))) → va_S A H0 H1 locs1 → W p l e R s m args below meth c H1 locs1 cells slots Q (F0 m (pc + 3) ls rest)) : W p l e R s m args below meth c H locs cells slots Q (F0 m pc ls (v :: .ref a :: rest)) :=
  va_put (D := D) (ci := 3) (ty := .int) (C := RX2) (T := TX2) (N := 3) hexec hb hts hin tyX2 tyX2_ok nmX2 hown hK hP hD hS0 q0 he rfl 1 (by decide) hlink (fun _ h9 => h9) rfl (by decide +kernel) hn hfit hl hdg kk
theorem gt_X2_2 (hexec : p.tables.exec = Jvm.exec) (hb : c.code = cc) {own : String} {index : Nat} {Ts : List Cond} (hts : ∀ w ∈ Ts, w.before args s = true) (hin : ∀ w ∈ wsX20, w ∈ Ts) (hown : s.vm.findClass own = some m.cls) (hK : va_K D vwCl tys s) (hP : va_P D vwCl ws H) (q0 : Nat) {fs : List Value} (he : ws[q0]? = some (a, .inr (3, fs))) (hlink : (Cond.fieldLink own index "HushWatch$History" "held" "I").before args s = true) {v : Value} (hv : fs[2]? = some v) (hdg : decode cc pc = .ok (.getfield index, 3))
    (kk : W p l e R s m args below meth c H locs cells slots Q (F0 m (pc + 3) ls (v :: rest))) : W p l e R s m args below meth c H locs cells slots Q (F0 m pc ls (.ref a :: rest)) :=
  va_get (D := D) (ci := 3) (C := RX2) (T := TX2) (N := 3) hexec hb hts hin hown hK hP q0 he rfl 2 (by decide) hlink (fun _ h9 => h9) hv hdg kk
theorem pt_X2_2 (hexec : p.tables.exec = Jvm.exec) (hb : c.code = cc) {own : String} {index : Nat} {Ts : List Cond} (hts : ∀ w ∈ Ts, w.before args s = true) (hin : ∀ w ∈ wsX20, w ∈ Ts) (hown : s.vm.findClass own = some m.cls) (hK : va_K D vwCl tys s) (hP : va_P D vwCl ws H) (hD : va_D A ws) (hS0 : va_S A H0 H locs) (q0 : Nat) {fs : List Value} (he : ws[q0]? = some (a, .inr (3, fs))) (hlink : (Cond.fieldLink own index "HushWatch$History" "held" "I").before args s = true) {v : Value} (hn : narrow .int v = v) (hfit : fits .int v = true) (hl : 2 < fs.length)
    (hdg : decode cc pc = .ok (.putfield index, 3)) (kk : ∀ (H1 : Heap) (locs1 : List Loc), va_P D vwCl (ws.set q0 (a, .inr (3, fs.set 2 v))) H1 → va_D A (ws.set q0 (a, .inr (3, fs.set 2 v))) → va_S A H0 H1 locs1 → W p l e R s m args below meth c H1 locs1 cells slots Q (F0 m (pc + 3) ls rest)) : W p l e R s m args below meth c H locs cells slots Q (F0 m pc ls (v :: .ref a :: rest)) :=
  va_put (D := D) (ci := 3) (ty := .int) (C := RX2) (T := TX2) (N := 3) hexec hb hts hin tyX2 tyX2_ok nmX2 hown hK hP hD hS0 q0 he rfl 2 (by decide) hlink (fun _ h9 => h9) rfl (by decide +kernel) hn hfit hl hdg kk
theorem gt_X3_0 (hexec : p.tables.exec = Jvm.exec) (hb : c.code = cc) {own : String} {index : Nat} {Ts : List Cond} (hts : ∀ w ∈ Ts, w.before args s = true) (hin : ∀ w ∈ wsX30, w ∈ Ts) (hown : s.vm.findClass own = some m.cls) (hK : va_K D vwCl tys s) (hP : va_P D vwCl ws H) (q0 : Nat) {fs : List Value} (he : ws[q0]? = some (a, .inr (4, fs))) (hlink : (Cond.fieldLink own index "HushWatch$Reader" "tape" "LHushWatch$Tape;").before args s = true) {v : Value} (hv : fs[0]? = some v) (hdg : decode cc pc = .ok (.getfield index, 3))
    (kk : W p l e R s m args below meth c H locs cells slots Q (F0 m (pc + 3) ls (v :: rest))) : W p l e R s m args below meth c H locs cells slots Q (F0 m pc ls (.ref a :: rest)) :=
  va_get (D := D) (ci := 4) (C := RX3) (T := TX3) (N := 11) hexec hb hts hin hown hK hP q0 he rfl 0 (by decide) hlink (fun _ h9 => h9) hv hdg kk
theorem gt_X3_1 (hexec : p.tables.exec = Jvm.exec) (hb : c.code = cc) {own : String} {index : Nat} {Ts : List Cond} (hts : ∀ w ∈ Ts, w.before args s = true) (hin : ∀ w ∈ wsX30, w ∈ Ts) (hown : s.vm.findClass own = some m.cls) (hK : va_K D vwCl tys s) (hP : va_P D vwCl ws H) (q0 : Nat) {fs : List Value} (he : ws[q0]? = some (a, .inr (4, fs))) (hlink : (Cond.fieldLink own index "HushWatch$Reader" "rules" "[I").before args s = true) {v : Value} (hv : fs[1]? = some v) (hdg : decode cc pc = .ok (.getfield index, 3))
    (kk : W p l e R s m args below meth c H locs cells slots Q (F0 m (pc + 3) ls (v :: rest))) : W p l e R s m args below meth c H locs cells slots Q (F0 m pc ls (.ref a :: rest)) :=
  va_get (D := D) (ci := 4) (C := RX3) (T := TX3) (N := 11) hexec hb hts hin hown hK hP q0 he rfl 1 (by decide) hlink (fun _ h9 => h9) hv hdg kk
theorem gt_X3_2 (hexec : p.tables.exec = Jvm.exec) (hb : c.code = cc) {own : String} {index : Nat} {Ts : List Cond} (hts : ∀ w ∈ Ts, w.before args s = true) (hin : ∀ w ∈ wsX30, w ∈ Ts) (hown : s.vm.findClass own = some m.cls) (hK : va_K D vwCl tys s) (hP : va_P D vwCl ws H) (q0 : Nat) {fs : List Value} (he : ws[q0]? = some (a, .inr (4, fs))) (hlink : (Cond.fieldLink own index "HushWatch$Reader" "places" "[I").before args s = true) {v : Value} (hv : fs[2]? = some v) (hdg : decode cc pc = .ok (.getfield index, 3))
    (kk : W p l e R s m args below meth c H locs cells slots Q (F0 m (pc + 3) ls (v :: rest))) : W p l e R s m args below meth c H locs cells slots Q (F0 m pc ls (.ref a :: rest)) :=
  va_get (D := D) (ci := 4) (C := RX3) (T := TX3) (N := 11) hexec hb hts hin hown hK hP q0 he rfl 2 (by decide) hlink (fun _ h9 => h9) hv hdg kk
theorem gt_X3_3 (hexec : p.tables.exec = Jvm.exec) (hb : c.code = cc) {own : String} {index : Nat} {Ts : List Cond} (hts : ∀ w ∈ Ts, w.before args s = true) (hin : ∀ w ∈ wsX30, w ∈ Ts) (hown : s.vm.findClass own = some m.cls) (hK : va_K D vwCl tys s) (hP : va_P D vwCl ws H) (q0 : Nat) {fs : List Value} (he : ws[q0]? = some (a, .inr (4, fs))) (hlink : (Cond.fieldLink own index "HushWatch$Reader" "steps" "[I").before args s = true) {v : Value} (hv : fs[3]? = some v) (hdg : decode cc pc = .ok (.getfield index, 3))
    (kk : W p l e R s m args below meth c H locs cells slots Q (F0 m (pc + 3) ls (v :: rest))) : W p l e R s m args below meth c H locs cells slots Q (F0 m pc ls (.ref a :: rest)) :=
  va_get (D := D) (ci := 4) (C := RX3) (T := TX3) (N := 11) hexec hb hts hin hown hK hP q0 he rfl 3 (by decide) hlink (fun _ h9 => h9) hv hdg kk
theorem gt_X3_4 (hexec : p.tables.exec = Jvm.exec) (hb : c.code = cc) {own : String} {index : Nat} {Ts : List Cond} (hts : ∀ w ∈ Ts, w.before args s = true) (hin : ∀ w ∈ wsX30, w ∈ Ts) (hown : s.vm.findClass own = some m.cls) (hK : va_K D vwCl tys s) (hP : va_P D vwCl ws H) (q0 : Nat) {fs : List Value} (he : ws[q0]? = some (a, .inr (4, fs))) (hlink : (Cond.fieldLink own index "HushWatch$Reader" "siteCount" "I").before args s = true) {v : Value} (hv : fs[4]? = some v) (hdg : decode cc pc = .ok (.getfield index, 3))
    (kk : W p l e R s m args below meth c H locs cells slots Q (F0 m (pc + 3) ls (v :: rest))) : W p l e R s m args below meth c H locs cells slots Q (F0 m pc ls (.ref a :: rest)) :=
  va_get (D := D) (ci := 4) (C := RX3) (T := TX3) (N := 11) hexec hb hts hin hown hK hP q0 he rfl 4 (by decide) hlink (fun _ h9 => h9) hv hdg kk
theorem pt_X3_4 (hexec : p.tables.exec = Jvm.exec) (hb : c.code = cc) {own : String} {index : Nat} {Ts : List Cond} (hts : ∀ w ∈ Ts, w.before args s = true) (hin : ∀ w ∈ wsX30, w ∈ Ts) (hown : s.vm.findClass own = some m.cls) (hK : va_K D vwCl tys s) (hP : va_P D vwCl ws H) (hD : va_D A ws) (hS0 : va_S A H0 H locs) (q0 : Nat) {fs : List Value} (he : ws[q0]? = some (a, .inr (4, fs))) (hlink : (Cond.fieldLink own index "HushWatch$Reader" "siteCount" "I").before args s = true) {v : Value} (hn : narrow .int v = v) (hfit : fits .int v = true) (hl : 4 < fs.length)
    (hdg : decode cc pc = .ok (.putfield index, 3)) (kk : ∀ (H1 : Heap) (locs1 : List Loc), va_P D vwCl (ws.set q0 (a, .inr (4, fs.set 4 v))) H1 → va_D A (ws.set q0 (a, .inr (4, fs.set 4 v))) → va_S A H0 H1 locs1 → W p l e R s m args below meth c H1 locs1 cells slots Q (F0 m (pc + 3) ls rest)) : W p l e R s m args below meth c H locs cells slots Q (F0 m pc ls (v :: .ref a :: rest)) :=
  va_put (D := D) (ci := 4) (ty := .int) (C := RX3) (T := TX3) (N := 11) hexec hb hts hin tyX3 tyX3_ok nmX3 hown hK hP hD hS0 q0 he rfl 4 (by decide) hlink (fun _ h9 => h9) rfl (by decide +kernel) hn hfit hl hdg kk
theorem gt_X3_5 (hexec : p.tables.exec = Jvm.exec) (hb : c.code = cc) {own : String} {index : Nat} {Ts : List Cond} (hts : ∀ w ∈ Ts, w.before args s = true) (hin : ∀ w ∈ wsX30, w ∈ Ts) (hown : s.vm.findClass own = some m.cls) (hK : va_K D vwCl tys s) (hP : va_P D vwCl ws H) (q0 : Nat) {fs : List Value} (he : ws[q0]? = some (a, .inr (4, fs))) (hlink : (Cond.fieldLink own index "HushWatch$Reader" "stepCount" "I").before args s = true) {v : Value} (hv : fs[5]? = some v) (hdg : decode cc pc = .ok (.getfield index, 3))
    (kk : W p l e R s m args below meth c H locs cells slots Q (F0 m (pc + 3) ls (v :: rest))) : W p l e R s m args below meth c H locs cells slots Q (F0 m pc ls (.ref a :: rest)) :=
  va_get (D := D) (ci := 4) (C := RX3) (T := TX3) (N := 11) hexec hb hts hin hown hK hP q0 he rfl 5 (by decide) hlink (fun _ h9 => h9) hv hdg kk
theorem pt_X3_5 (hexec : p.tables.exec = Jvm.exec) (hb : c.code = cc) {own : String} {index : Nat} {Ts : List Cond} (hts : ∀ w ∈ Ts, w.before args s = true) (hin : ∀ w ∈ wsX30, w ∈ Ts) (hown : s.vm.findClass own = some m.cls) (hK : va_K D vwCl tys s) (hP : va_P D vwCl ws H) (hD : va_D A ws) (hS0 : va_S A H0 H locs) (q0 : Nat) {fs : List Value} (he : ws[q0]? = some (a, .inr (4, fs))) (hlink : (Cond.fieldLink own index "HushWatch$Reader" "stepCount" "I").before args s = true) {v : Value} (hn : narrow .int v = v) (hfit : fits .int v = true) (hl : 5 < fs.length)
    (hdg : decode cc pc = .ok (.putfield index, 3)) (kk : ∀ (H1 : Heap) (locs1 : List Loc), va_P D vwCl (ws.set q0 (a, .inr (4, fs.set 5 v))) H1 → va_D A (ws.set q0 (a, .inr (4, fs.set 5 v))) → va_S A H0 H1 locs1 → W p l e R s m args below meth c H1 locs1 cells slots Q (F0 m (pc + 3) ls rest)) : W p l e R s m args below meth c H locs cells slots Q (F0 m pc ls (v :: .ref a :: rest)) :=
  va_put (D := D) (ci := 4) (ty := .int) (C := RX3) (T := TX3) (N := 11) hexec hb hts hin tyX3 tyX3_ok nmX3 hown hK hP hD hS0 q0 he rfl 5 (by decide) hlink (fun _ h9 => h9) rfl (by decide +kernel) hn hfit hl hdg kk
theorem gt_X3_6 (hexec : p.tables.exec = Jvm.exec) (hb : c.code = cc) {own : String} {index : Nat} {Ts : List Cond} (hts : ∀ w ∈ Ts, w.before args s = true) (hin : ∀ w ∈ wsX30, w ∈ Ts) (hown : s.vm.findClass own = some m.cls) (hK : va_K D vwCl tys s) (hP : va_P D vwCl ws H) (q0 : Nat) {fs : List Value} (he : ws[q0]? = some (a, .inr (4, fs))) (hlink : (Cond.fieldLink own index "HushWatch$Reader" "seenRules" "I").before args s = true) {v : Value} (hv : fs[6]? = some v) (hdg : decode cc pc = .ok (.getfield index, 3))
    (kk : W p l e R s m args below meth c H locs cells slots Q (F0 m (pc + 3) ls (v :: rest))) : W p l e R s m args below meth c H locs cells slots Q (F0 m pc ls (.ref a :: rest)) :=
  va_get (D := D) (ci := 4) (C := RX3) (T := TX3) (N := 11) hexec hb hts hin hown hK hP q0 he rfl 6 (by decide) hlink (fun _ h9 => h9) hv hdg kk
theorem pt_X3_6 (hexec : p.tables.exec = Jvm.exec) (hb : c.code = cc) {own : String} {index : Nat} {Ts : List Cond} (hts : ∀ w ∈ Ts, w.before args s = true) (hin : ∀ w ∈ wsX30, w ∈ Ts) (hown : s.vm.findClass own = some m.cls) (hK : va_K D vwCl tys s) (hP : va_P D vwCl ws H) (hD : va_D A ws) (hS0 : va_S A H0 H locs) (q0 : Nat) {fs : List Value} (he : ws[q0]? = some (a, .inr (4, fs))) (hlink : (Cond.fieldLink own index "HushWatch$Reader" "seenRules" "I").before args s = true) {v : Value} (hn : narrow .int v = v) (hfit : fits .int v = true) (hl : 6 < fs.length)
    (hdg : decode cc pc = .ok (.putfield index, 3)) (kk : ∀ (H1 : Heap) (locs1 : List Loc), va_P D vwCl (ws.set q0 (a, .inr (4, fs.set 6 v))) H1 → va_D A (ws.set q0 (a, .inr (4, fs.set 6 v))) → va_S A H0 H1 locs1 → W p l e R s m args below meth c H1 locs1 cells slots Q (F0 m (pc + 3) ls rest)) : W p l e R s m args below meth c H locs cells slots Q (F0 m pc ls (v :: .ref a :: rest)) :=
  va_put (D := D) (ci := 4) (ty := .int) (C := RX3) (T := TX3) (N := 11) hexec hb hts hin tyX3 tyX3_ok nmX3 hown hK hP hD hS0 q0 he rfl 6 (by decide) hlink (fun _ h9 => h9) rfl (by decide +kernel) hn hfit hl hdg kk
theorem gt_X3_7 (hexec : p.tables.exec = Jvm.exec) (hb : c.code = cc) {own : String} {index : Nat} {Ts : List Cond} (hts : ∀ w ∈ Ts, w.before args s = true) (hin : ∀ w ∈ wsX30, w ∈ Ts) (hown : s.vm.findClass own = some m.cls) (hK : va_K D vwCl tys s) (hP : va_P D vwCl ws H) (q0 : Nat) {fs : List Value} (he : ws[q0]? = some (a, .inr (4, fs))) (hlink : (Cond.fieldLink own index "HushWatch$Reader" "at" "I").before args s = true) {v : Value} (hv : fs[7]? = some v) (hdg : decode cc pc = .ok (.getfield index, 3))
    (kk : W p l e R s m args below meth c H locs cells slots Q (F0 m (pc + 3) ls (v :: rest))) : W p l e R s m args below meth c H locs cells slots Q (F0 m pc ls (.ref a :: rest)) :=
  va_get (D := D) (ci := 4) (C := RX3) (T := TX3) (N := 11) hexec hb hts hin hown hK hP q0 he rfl 7 (by decide) hlink (fun _ h9 => h9) hv hdg kk
theorem pt_X3_7 (hexec : p.tables.exec = Jvm.exec) (hb : c.code = cc) {own : String} {index : Nat} {Ts : List Cond} (hts : ∀ w ∈ Ts, w.before args s = true) (hin : ∀ w ∈ wsX30, w ∈ Ts) (hown : s.vm.findClass own = some m.cls) (hK : va_K D vwCl tys s) (hP : va_P D vwCl ws H) (hD : va_D A ws) (hS0 : va_S A H0 H locs) (q0 : Nat) {fs : List Value} (he : ws[q0]? = some (a, .inr (4, fs))) (hlink : (Cond.fieldLink own index "HushWatch$Reader" "at" "I").before args s = true) {v : Value} (hn : narrow .int v = v) (hfit : fits .int v = true) (hl : 7 < fs.length)
    (hdg : decode cc pc = .ok (.putfield index, 3)) (kk : ∀ (H1 : Heap) (locs1 : List Loc), va_P D vwCl (ws.set q0 (a, .inr (4, fs.set 7 v))) H1 → va_D A (ws.set q0 (a, .inr (4, fs.set 7 v))) → va_S A H0 H1 locs1 → W p l e R s m args below meth c H1 locs1 cells slots Q (F0 m (pc + 3) ls rest)) : W p l e R s m args below meth c H locs cells slots Q (F0 m pc ls (v :: .ref a :: rest)) :=
  va_put (D := D) (ci := 4) (ty := .int) (C := RX3) (T := TX3) (N := 11) hexec hb hts hin tyX3 tyX3_ok nmX3 hown hK hP hD hS0 q0 he rfl 7 (by decide) hlink (fun _ h9 => h9) rfl (by decide +kernel) hn hfit hl hdg kk
theorem gt_X3_8 (hexec : p.tables.exec = Jvm.exec) (hb : c.code = cc) {own : String} {index : Nat} {Ts : List Cond} (hts : ∀ w ∈ Ts, w.before args s = true) (hin : ∀ w ∈ wsX30, w ∈ Ts) (hown : s.vm.findClass own = some m.cls) (hK : va_K D vwCl tys s) (hP : va_P D vwCl ws H) (q0 : Nat) {fs : List Value} (he : ws[q0]? = some (a, .inr (4, fs))) (hlink : (Cond.fieldLink own index "HushWatch$Reader" "wordStart" "I").before args s = true) {v : Value} (hv : fs[8]? = some v) (hdg : decode cc pc = .ok (.getfield index, 3))
    (kk : W p l e R s m args below meth c H locs cells slots Q (F0 m (pc + 3) ls (v :: rest))) : W p l e R s m args below meth c H locs cells slots Q (F0 m pc ls (.ref a :: rest)) :=
  va_get (D := D) (ci := 4) (C := RX3) (T := TX3) (N := 11) hexec hb hts hin hown hK hP q0 he rfl 8 (by decide) hlink (fun _ h9 => h9) hv hdg kk
theorem pt_X3_8 (hexec : p.tables.exec = Jvm.exec) (hb : c.code = cc) {own : String} {index : Nat} {Ts : List Cond} (hts : ∀ w ∈ Ts, w.before args s = true) (hin : ∀ w ∈ wsX30, w ∈ Ts) (hown : s.vm.findClass own = some m.cls) (hK : va_K D vwCl tys s) (hP : va_P D vwCl ws H) (hD : va_D A ws) (hS0 : va_S A H0 H locs) (q0 : Nat) {fs : List Value} (he : ws[q0]? = some (a, .inr (4, fs))) (hlink : (Cond.fieldLink own index "HushWatch$Reader" "wordStart" "I").before args s = true) {v : Value} (hn : narrow .int v = v) (hfit : fits .int v = true) (hl : 8 < fs.length)
    (hdg : decode cc pc = .ok (.putfield index, 3)) (kk : ∀ (H1 : Heap) (locs1 : List Loc), va_P D vwCl (ws.set q0 (a, .inr (4, fs.set 8 v))) H1 → va_D A (ws.set q0 (a, .inr (4, fs.set 8 v))) → va_S A H0 H1 locs1 → W p l e R s m args below meth c H1 locs1 cells slots Q (F0 m (pc + 3) ls rest)) : W p l e R s m args below meth c H locs cells slots Q (F0 m pc ls (v :: .ref a :: rest)) :=
  va_put (D := D) (ci := 4) (ty := .int) (C := RX3) (T := TX3) (N := 11) hexec hb hts hin tyX3 tyX3_ok nmX3 hown hK hP hD hS0 q0 he rfl 8 (by decide) hlink (fun _ h9 => h9) rfl (by decide +kernel) hn hfit hl hdg kk
theorem gt_X3_9 (hexec : p.tables.exec = Jvm.exec) (hb : c.code = cc) {own : String} {index : Nat} {Ts : List Cond} (hts : ∀ w ∈ Ts, w.before args s = true) (hin : ∀ w ∈ wsX30, w ∈ Ts) (hown : s.vm.findClass own = some m.cls) (hK : va_K D vwCl tys s) (hP : va_P D vwCl ws H) (q0 : Nat) {fs : List Value} (he : ws[q0]? = some (a, .inr (4, fs))) (hlink : (Cond.fieldLink own index "HushWatch$Reader" "number" "I").before args s = true) {v : Value} (hv : fs[9]? = some v) (hdg : decode cc pc = .ok (.getfield index, 3))
    (kk : W p l e R s m args below meth c H locs cells slots Q (F0 m (pc + 3) ls (v :: rest))) : W p l e R s m args below meth c H locs cells slots Q (F0 m pc ls (.ref a :: rest)) :=
  va_get (D := D) (ci := 4) (C := RX3) (T := TX3) (N := 11) hexec hb hts hin hown hK hP q0 he rfl 9 (by decide) hlink (fun _ h9 => h9) hv hdg kk
theorem pt_X3_9 (hexec : p.tables.exec = Jvm.exec) (hb : c.code = cc) {own : String} {index : Nat} {Ts : List Cond} (hts : ∀ w ∈ Ts, w.before args s = true) (hin : ∀ w ∈ wsX30, w ∈ Ts) (hown : s.vm.findClass own = some m.cls) (hK : va_K D vwCl tys s) (hP : va_P D vwCl ws H) (hD : va_D A ws) (hS0 : va_S A H0 H locs) (q0 : Nat) {fs : List Value} (he : ws[q0]? = some (a, .inr (4, fs))) (hlink : (Cond.fieldLink own index "HushWatch$Reader" "number" "I").before args s = true) {v : Value} (hn : narrow .int v = v) (hfit : fits .int v = true) (hl : 9 < fs.length)
    (hdg : decode cc pc = .ok (.putfield index, 3)) (kk : ∀ (H1 : Heap) (locs1 : List Loc), va_P D vwCl (ws.set q0 (a, .inr (4, fs.set 9 v))) H1 → va_D A (ws.set q0 (a, .inr (4, fs.set 9 v))) → va_S A H0 H1 locs1 → W p l e R s m args below meth c H1 locs1 cells slots Q (F0 m (pc + 3) ls rest)) : W p l e R s m args below meth c H locs cells slots Q (F0 m pc ls (v :: .ref a :: rest)) :=
  va_put (D := D) (ci := 4) (ty := .int) (C := RX3) (T := TX3) (N := 11) hexec hb hts hin tyX3 tyX3_ok nmX3 hown hK hP hD hS0 q0 he rfl 9 (by decide) hlink (fun _ h9 => h9) rfl (by decide +kernel) hn hfit hl hdg kk
theorem gt_X3_10 (hexec : p.tables.exec = Jvm.exec) (hb : c.code = cc) {own : String} {index : Nat} {Ts : List Cond} (hts : ∀ w ∈ Ts, w.before args s = true) (hin : ∀ w ∈ wsX30, w ∈ Ts) (hown : s.vm.findClass own = some m.cls) (hK : va_K D vwCl tys s) (hP : va_P D vwCl ws H) (q0 : Nat) {fs : List Value} (he : ws[q0]? = some (a, .inr (4, fs))) (hlink : (Cond.fieldLink own index "HushWatch$Reader" "failed" "I").before args s = true) {v : Value} (hv : fs[10]? = some v) (hdg : decode cc pc = .ok (.getfield index, 3))
    (kk : W p l e R s m args below meth c H locs cells slots Q (F0 m (pc + 3) ls (v :: rest))) : W p l e R s m args below meth c H locs cells slots Q (F0 m pc ls (.ref a :: rest)) :=
  va_get (D := D) (ci := 4) (C := RX3) (T := TX3) (N := 11) hexec hb hts hin hown hK hP q0 he rfl 10 (by decide) hlink (fun _ h9 => h9) hv hdg kk
theorem pt_X3_10 (hexec : p.tables.exec = Jvm.exec) (hb : c.code = cc) {own : String} {index : Nat} {Ts : List Cond} (hts : ∀ w ∈ Ts, w.before args s = true) (hin : ∀ w ∈ wsX30, w ∈ Ts) (hown : s.vm.findClass own = some m.cls) (hK : va_K D vwCl tys s) (hP : va_P D vwCl ws H) (hD : va_D A ws) (hS0 : va_S A H0 H locs) (q0 : Nat) {fs : List Value} (he : ws[q0]? = some (a, .inr (4, fs))) (hlink : (Cond.fieldLink own index "HushWatch$Reader" "failed" "I").before args s = true) {v : Value} (hn : narrow .int v = v) (hfit : fits .int v = true) (hl : 10 < fs.length)
    (hdg : decode cc pc = .ok (.putfield index, 3)) (kk : ∀ (H1 : Heap) (locs1 : List Loc), va_P D vwCl (ws.set q0 (a, .inr (4, fs.set 10 v))) H1 → va_D A (ws.set q0 (a, .inr (4, fs.set 10 v))) → va_S A H0 H1 locs1 → W p l e R s m args below meth c H1 locs1 cells slots Q (F0 m (pc + 3) ls rest)) : W p l e R s m args below meth c H locs cells slots Q (F0 m pc ls (v :: .ref a :: rest)) :=
  va_put (D := D) (ci := 4) (ty := .int) (C := RX3) (T := TX3) (N := 11) hexec hb hts hin tyX3 tyX3_ok nmX3 hown hK hP hD hS0 q0 he rfl 10 (by decide) hlink (fun _ h9 => h9) rfl (by decide +kernel) hn hfit hl hdg kk
theorem gt_X4_0 (hexec : p.tables.exec = Jvm.exec) (hb : c.code = cc) {own : String} {index : Nat} {Ts : List Cond} (hts : ∀ w ∈ Ts, w.before args s = true) (hin : ∀ w ∈ wsX40, w ∈ Ts) (hown : s.vm.findClass own = some m.cls) (hK : va_K D vwCl tys s) (hP : va_P D vwCl ws H) (q0 : Nat) {fs : List Value} (he : ws[q0]? = some (a, .inr (5, fs))) (hlink : (Cond.fieldLink own index "HushWatch$Scripts" "steps" "[I").before args s = true) {v : Value} (hv : fs[0]? = some v) (hdg : decode cc pc = .ok (.getfield index, 3))
    (kk : W p l e R s m args below meth c H locs cells slots Q (F0 m (pc + 3) ls (v :: rest))) : W p l e R s m args below meth c H locs cells slots Q (F0 m pc ls (.ref a :: rest)) :=
  va_get (D := D) (ci := 5) (C := RX4) (T := TX4) (N := 3) hexec hb hts hin hown hK hP q0 he rfl 0 (by decide) hlink (fun _ h9 => h9) hv hdg kk
theorem gt_X4_1 (hexec : p.tables.exec = Jvm.exec) (hb : c.code = cc) {own : String} {index : Nat} {Ts : List Cond} (hts : ∀ w ∈ Ts, w.before args s = true) (hin : ∀ w ∈ wsX40, w ∈ Ts) (hown : s.vm.findClass own = some m.cls) (hK : va_K D vwCl tys s) (hP : va_P D vwCl ws H) (q0 : Nat) {fs : List Value} (he : ws[q0]? = some (a, .inr (5, fs))) (hlink : (Cond.fieldLink own index "HushWatch$Scripts" "counts" "[I").before args s = true) {v : Value} (hv : fs[1]? = some v) (hdg : decode cc pc = .ok (.getfield index, 3))
    (kk : W p l e R s m args below meth c H locs cells slots Q (F0 m (pc + 3) ls (v :: rest))) : W p l e R s m args below meth c H locs cells slots Q (F0 m pc ls (.ref a :: rest)) :=
  va_get (D := D) (ci := 5) (C := RX4) (T := TX4) (N := 3) hexec hb hts hin hown hK hP q0 he rfl 1 (by decide) hlink (fun _ h9 => h9) hv hdg kk
theorem gt_X4_2 (hexec : p.tables.exec = Jvm.exec) (hb : c.code = cc) {own : String} {index : Nat} {Ts : List Cond} (hts : ∀ w ∈ Ts, w.before args s = true) (hin : ∀ w ∈ wsX40, w ∈ Ts) (hown : s.vm.findClass own = some m.cls) (hK : va_K D vwCl tys s) (hP : va_P D vwCl ws H) (q0 : Nat) {fs : List Value} (he : ws[q0]? = some (a, .inr (5, fs))) (hlink : (Cond.fieldLink own index "HushWatch$Scripts" "held" "I").before args s = true) {v : Value} (hv : fs[2]? = some v) (hdg : decode cc pc = .ok (.getfield index, 3))
    (kk : W p l e R s m args below meth c H locs cells slots Q (F0 m (pc + 3) ls (v :: rest))) : W p l e R s m args below meth c H locs cells slots Q (F0 m pc ls (.ref a :: rest)) :=
  va_get (D := D) (ci := 5) (C := RX4) (T := TX4) (N := 3) hexec hb hts hin hown hK hP q0 he rfl 2 (by decide) hlink (fun _ h9 => h9) hv hdg kk
theorem pt_X4_2 (hexec : p.tables.exec = Jvm.exec) (hb : c.code = cc) {own : String} {index : Nat} {Ts : List Cond} (hts : ∀ w ∈ Ts, w.before args s = true) (hin : ∀ w ∈ wsX40, w ∈ Ts) (hown : s.vm.findClass own = some m.cls) (hK : va_K D vwCl tys s) (hP : va_P D vwCl ws H) (hD : va_D A ws) (hS0 : va_S A H0 H locs) (q0 : Nat) {fs : List Value} (he : ws[q0]? = some (a, .inr (5, fs))) (hlink : (Cond.fieldLink own index "HushWatch$Scripts" "held" "I").before args s = true) {v : Value} (hn : narrow .int v = v) (hfit : fits .int v = true) (hl : 2 < fs.length)
    (hdg : decode cc pc = .ok (.putfield index, 3)) (kk : ∀ (H1 : Heap) (locs1 : List Loc), va_P D vwCl (ws.set q0 (a, .inr (5, fs.set 2 v))) H1 → va_D A (ws.set q0 (a, .inr (5, fs.set 2 v))) → va_S A H0 H1 locs1 → W p l e R s m args below meth c H1 locs1 cells slots Q (F0 m (pc + 3) ls rest)) : W p l e R s m args below meth c H locs cells slots Q (F0 m pc ls (v :: .ref a :: rest)) :=
  va_put (D := D) (ci := 5) (ty := .int) (C := RX4) (T := TX4) (N := 3) hexec hb hts hin tyX4 tyX4_ok nmX4 hown hK hP hD hS0 q0 he rfl 2 (by decide) hlink (fun _ h9 => h9) rfl (by decide +kernel) hn hfit hl hdg kk
theorem gt_X5_0 (hexec : p.tables.exec = Jvm.exec) (hb : c.code = cc) {own : String} {index : Nat} {Ts : List Cond} (hts : ∀ w ∈ Ts, w.before args s = true) (hin : ∀ w ∈ wsX50, w ∈ Ts) (hown : s.vm.findClass own = some m.cls) (hK : va_K D vwCl tys s) (hP : va_P D vwCl ws H) (q0 : Nat) {fs : List Value} (he : ws[q0]? = some (a, .inr (6, fs))) (hlink : (Cond.fieldLink own index "HushWatch$State" "row" "[I").before args s = true) {v : Value} (hv : fs[0]? = some v) (hdg : decode cc pc = .ok (.getfield index, 3))
    (kk : W p l e R s m args below meth c H locs cells slots Q (F0 m (pc + 3) ls (v :: rest))) : W p l e R s m args below meth c H locs cells slots Q (F0 m pc ls (.ref a :: rest)) :=
  va_get (D := D) (ci := 6) (C := RX5) (T := TX5) (N := 6) hexec hb hts hin hown hK hP q0 he rfl 0 (by decide) hlink (fun _ h9 => h9) hv hdg kk
theorem gt_X5_1 (hexec : p.tables.exec = Jvm.exec) (hb : c.code = cc) {own : String} {index : Nat} {Ts : List Cond} (hts : ∀ w ∈ Ts, w.before args s = true) (hin : ∀ w ∈ wsX50, w ∈ Ts) (hown : s.vm.findClass own = some m.cls) (hK : va_K D vwCl tys s) (hP : va_P D vwCl ws H) (q0 : Nat) {fs : List Value} (he : ws[q0]? = some (a, .inr (6, fs))) (hlink : (Cond.fieldLink own index "HushWatch$State" "partners" "[I").before args s = true) {v : Value} (hv : fs[1]? = some v) (hdg : decode cc pc = .ok (.getfield index, 3))
    (kk : W p l e R s m args below meth c H locs cells slots Q (F0 m (pc + 3) ls (v :: rest))) : W p l e R s m args below meth c H locs cells slots Q (F0 m pc ls (.ref a :: rest)) :=
  va_get (D := D) (ci := 6) (C := RX5) (T := TX5) (N := 6) hexec hb hts hin hown hK hP q0 he rfl 1 (by decide) hlink (fun _ h9 => h9) hv hdg kk
theorem gt_X5_2 (hexec : p.tables.exec = Jvm.exec) (hb : c.code = cc) {own : String} {index : Nat} {Ts : List Cond} (hts : ∀ w ∈ Ts, w.before args s = true) (hin : ∀ w ∈ wsX50, w ∈ Ts) (hown : s.vm.findClass own = some m.cls) (hK : va_K D vwCl tys s) (hP : va_P D vwCl ws H) (q0 : Nat) {fs : List Value} (he : ws[q0]? = some (a, .inr (6, fs))) (hlink : (Cond.fieldLink own index "HushWatch$State" "askedCount" "I").before args s = true) {v : Value} (hv : fs[2]? = some v) (hdg : decode cc pc = .ok (.getfield index, 3))
    (kk : W p l e R s m args below meth c H locs cells slots Q (F0 m (pc + 3) ls (v :: rest))) : W p l e R s m args below meth c H locs cells slots Q (F0 m pc ls (.ref a :: rest)) :=
  va_get (D := D) (ci := 6) (C := RX5) (T := TX5) (N := 6) hexec hb hts hin hown hK hP q0 he rfl 2 (by decide) hlink (fun _ h9 => h9) hv hdg kk
theorem pt_X5_2 (hexec : p.tables.exec = Jvm.exec) (hb : c.code = cc) {own : String} {index : Nat} {Ts : List Cond} (hts : ∀ w ∈ Ts, w.before args s = true) (hin : ∀ w ∈ wsX50, w ∈ Ts) (hown : s.vm.findClass own = some m.cls) (hK : va_K D vwCl tys s) (hP : va_P D vwCl ws H) (hD : va_D A ws) (hS0 : va_S A H0 H locs) (q0 : Nat) {fs : List Value} (he : ws[q0]? = some (a, .inr (6, fs))) (hlink : (Cond.fieldLink own index "HushWatch$State" "askedCount" "I").before args s = true) {v : Value} (hn : narrow .int v = v) (hfit : fits .int v = true) (hl : 2 < fs.length)
    (hdg : decode cc pc = .ok (.putfield index, 3)) (kk : ∀ (H1 : Heap) (locs1 : List Loc), va_P D vwCl (ws.set q0 (a, .inr (6, fs.set 2 v))) H1 → va_D A (ws.set q0 (a, .inr (6, fs.set 2 v))) → va_S A H0 H1 locs1 → W p l e R s m args below meth c H1 locs1 cells slots Q (F0 m (pc + 3) ls rest)) : W p l e R s m args below meth c H locs cells slots Q (F0 m pc ls (v :: .ref a :: rest)) :=
  va_put (D := D) (ci := 6) (ty := .int) (C := RX5) (T := TX5) (N := 6) hexec hb hts hin tyX5 tyX5_ok nmX5 hown hK hP hD hS0 q0 he rfl 2 (by decide) hlink (fun _ h9 => h9) rfl (by decide +kernel) hn hfit hl hdg kk
theorem gt_X5_3 (hexec : p.tables.exec = Jvm.exec) (hb : c.code = cc) {own : String} {index : Nat} {Ts : List Cond} (hts : ∀ w ∈ Ts, w.before args s = true) (hin : ∀ w ∈ wsX50, w ∈ Ts) (hown : s.vm.findClass own = some m.cls) (hK : va_K D vwCl tys s) (hP : va_P D vwCl ws H) (q0 : Nat) {fs : List Value} (he : ws[q0]? = some (a, .inr (6, fs))) (hlink : (Cond.fieldLink own index "HushWatch$State" "outcome" "I").before args s = true) {v : Value} (hv : fs[3]? = some v) (hdg : decode cc pc = .ok (.getfield index, 3))
    (kk : W p l e R s m args below meth c H locs cells slots Q (F0 m (pc + 3) ls (v :: rest))) : W p l e R s m args below meth c H locs cells slots Q (F0 m pc ls (.ref a :: rest)) :=
  va_get (D := D) (ci := 6) (C := RX5) (T := TX5) (N := 6) hexec hb hts hin hown hK hP q0 he rfl 3 (by decide) hlink (fun _ h9 => h9) hv hdg kk
theorem pt_X5_3 (hexec : p.tables.exec = Jvm.exec) (hb : c.code = cc) {own : String} {index : Nat} {Ts : List Cond} (hts : ∀ w ∈ Ts, w.before args s = true) (hin : ∀ w ∈ wsX50, w ∈ Ts) (hown : s.vm.findClass own = some m.cls) (hK : va_K D vwCl tys s) (hP : va_P D vwCl ws H) (hD : va_D A ws) (hS0 : va_S A H0 H locs) (q0 : Nat) {fs : List Value} (he : ws[q0]? = some (a, .inr (6, fs))) (hlink : (Cond.fieldLink own index "HushWatch$State" "outcome" "I").before args s = true) {v : Value} (hn : narrow .int v = v) (hfit : fits .int v = true) (hl : 3 < fs.length)
    (hdg : decode cc pc = .ok (.putfield index, 3)) (kk : ∀ (H1 : Heap) (locs1 : List Loc), va_P D vwCl (ws.set q0 (a, .inr (6, fs.set 3 v))) H1 → va_D A (ws.set q0 (a, .inr (6, fs.set 3 v))) → va_S A H0 H1 locs1 → W p l e R s m args below meth c H1 locs1 cells slots Q (F0 m (pc + 3) ls rest)) : W p l e R s m args below meth c H locs cells slots Q (F0 m pc ls (v :: .ref a :: rest)) :=
  va_put (D := D) (ci := 6) (ty := .int) (C := RX5) (T := TX5) (N := 6) hexec hb hts hin tyX5 tyX5_ok nmX5 hown hK hP hD hS0 q0 he rfl 3 (by decide) hlink (fun _ h9 => h9) rfl (by decide +kernel) hn hfit hl hdg kk
theorem gt_X5_4 (hexec : p.tables.exec = Jvm.exec) (hb : c.code = cc) {own : String} {index : Nat} {Ts : List Cond} (hts : ∀ w ∈ Ts, w.before args s = true) (hin : ∀ w ∈ wsX50, w ∈ Ts) (hown : s.vm.findClass own = some m.cls) (hK : va_K D vwCl tys s) (hP : va_P D vwCl ws H) (q0 : Nat) {fs : List Value} (he : ws[q0]? = some (a, .inr (6, fs))) (hlink : (Cond.fieldLink own index "HushWatch$State" "share" "[I").before args s = true) {v : Value} (hv : fs[4]? = some v) (hdg : decode cc pc = .ok (.getfield index, 3))
    (kk : W p l e R s m args below meth c H locs cells slots Q (F0 m (pc + 3) ls (v :: rest))) : W p l e R s m args below meth c H locs cells slots Q (F0 m pc ls (.ref a :: rest)) :=
  va_get (D := D) (ci := 6) (C := RX5) (T := TX5) (N := 6) hexec hb hts hin hown hK hP q0 he rfl 4 (by decide) hlink (fun _ h9 => h9) hv hdg kk
theorem gt_X5_5 (hexec : p.tables.exec = Jvm.exec) (hb : c.code = cc) {own : String} {index : Nat} {Ts : List Cond} (hts : ∀ w ∈ Ts, w.before args s = true) (hin : ∀ w ∈ wsX50, w ∈ Ts) (hown : s.vm.findClass own = some m.cls) (hK : va_K D vwCl tys s) (hP : va_P D vwCl ws H) (q0 : Nat) {fs : List Value} (he : ws[q0]? = some (a, .inr (6, fs))) (hlink : (Cond.fieldLink own index "HushWatch$State" "leftOver" "[I").before args s = true) {v : Value} (hv : fs[5]? = some v) (hdg : decode cc pc = .ok (.getfield index, 3))
    (kk : W p l e R s m args below meth c H locs cells slots Q (F0 m (pc + 3) ls (v :: rest))) : W p l e R s m args below meth c H locs cells slots Q (F0 m pc ls (.ref a :: rest)) :=
  va_get (D := D) (ci := 6) (C := RX5) (T := TX5) (N := 6) hexec hb hts hin hown hK hP q0 he rfl 5 (by decide) hlink (fun _ h9 => h9) hv hdg kk
theorem gt_X6_0 (hexec : p.tables.exec = Jvm.exec) (hb : c.code = cc) {own : String} {index : Nat} {Ts : List Cond} (hts : ∀ w ∈ Ts, w.before args s = true) (hin : ∀ w ∈ wsX60, w ∈ Ts) (hown : s.vm.findClass own = some m.cls) (hK : va_K D vwCl tys s) (hP : va_P D vwCl ws H) (q0 : Nat) {fs : List Value} (he : ws[q0]? = some (a, .inr (7, fs))) (hlink : (Cond.fieldLink own index "HushWatch$Tape" "bytes" "[B").before args s = true) {v : Value} (hv : fs[0]? = some v) (hdg : decode cc pc = .ok (.getfield index, 3))
    (kk : W p l e R s m args below meth c H locs cells slots Q (F0 m (pc + 3) ls (v :: rest))) : W p l e R s m args below meth c H locs cells slots Q (F0 m pc ls (.ref a :: rest)) :=
  va_get (D := D) (ci := 7) (C := RX6) (T := TX6) (N := 2) hexec hb hts hin hown hK hP q0 he rfl 0 (by decide) hlink (fun _ h9 => h9) hv hdg kk
theorem gt_X6_1 (hexec : p.tables.exec = Jvm.exec) (hb : c.code = cc) {own : String} {index : Nat} {Ts : List Cond} (hts : ∀ w ∈ Ts, w.before args s = true) (hin : ∀ w ∈ wsX60, w ∈ Ts) (hown : s.vm.findClass own = some m.cls) (hK : va_K D vwCl tys s) (hP : va_P D vwCl ws H) (q0 : Nat) {fs : List Value} (he : ws[q0]? = some (a, .inr (7, fs))) (hlink : (Cond.fieldLink own index "HushWatch$Tape" "length" "I").before args s = true) {v : Value} (hv : fs[1]? = some v) (hdg : decode cc pc = .ok (.getfield index, 3))
    (kk : W p l e R s m args below meth c H locs cells slots Q (F0 m (pc + 3) ls (v :: rest))) : W p l e R s m args below meth c H locs cells slots Q (F0 m pc ls (.ref a :: rest)) :=
  va_get (D := D) (ci := 7) (C := RX6) (T := TX6) (N := 2) hexec hb hts hin hown hK hP q0 he rfl 1 (by decide) hlink (fun _ h9 => h9) hv hdg kk
theorem pt_X6_1 (hexec : p.tables.exec = Jvm.exec) (hb : c.code = cc) {own : String} {index : Nat} {Ts : List Cond} (hts : ∀ w ∈ Ts, w.before args s = true) (hin : ∀ w ∈ wsX60, w ∈ Ts) (hown : s.vm.findClass own = some m.cls) (hK : va_K D vwCl tys s) (hP : va_P D vwCl ws H) (hD : va_D A ws) (hS0 : va_S A H0 H locs) (q0 : Nat) {fs : List Value} (he : ws[q0]? = some (a, .inr (7, fs))) (hlink : (Cond.fieldLink own index "HushWatch$Tape" "length" "I").before args s = true) {v : Value} (hn : narrow .int v = v) (hfit : fits .int v = true) (hl : 1 < fs.length)
    (hdg : decode cc pc = .ok (.putfield index, 3)) (kk : ∀ (H1 : Heap) (locs1 : List Loc), va_P D vwCl (ws.set q0 (a, .inr (7, fs.set 1 v))) H1 → va_D A (ws.set q0 (a, .inr (7, fs.set 1 v))) → va_S A H0 H1 locs1 → W p l e R s m args below meth c H1 locs1 cells slots Q (F0 m (pc + 3) ls rest)) : W p l e R s m args below meth c H locs cells slots Q (F0 m pc ls (v :: .ref a :: rest)) :=
  va_put (D := D) (ci := 7) (ty := .int) (C := RX6) (T := TX6) (N := 2) hexec hb hts hin tyX6 tyX6_ok nmX6 hown hK hP hD hS0 q0 he rfl 1 (by decide) hlink (fun _ h9 => h9) rfl (by decide +kernel) hn hfit hl hdg kk
theorem gt_X7_0 (hexec : p.tables.exec = Jvm.exec) (hb : c.code = cc) {own : String} {index : Nat} {Ts : List Cond} (hts : ∀ w ∈ Ts, w.before args s = true) (hin : ∀ w ∈ wsX70, w ∈ Ts) (hown : s.vm.findClass own = some m.cls) (hK : va_K D vwCl tys s) (hP : va_P D vwCl ws H) (q0 : Nat) {fs : List Value} (he : ws[q0]? = some (a, .inr (8, fs))) (hlink : (Cond.fieldLink own index "HushWatch" "tape" "LHushWatch$Tape;").before args s = true) {v : Value} (hv : fs[0]? = some v) (hdg : decode cc pc = .ok (.getfield index, 3))
    (kk : W p l e R s m args below meth c H locs cells slots Q (F0 m (pc + 3) ls (v :: rest))) : W p l e R s m args below meth c H locs cells slots Q (F0 m pc ls (.ref a :: rest)) :=
  va_get (D := D) (ci := 8) (C := RX7) (T := TX7) (N := 12) hexec hb hts hin hown hK hP q0 he rfl 0 (by decide) hlink (fun _ h9 => h9) hv hdg kk
theorem gt_X7_1 (hexec : p.tables.exec = Jvm.exec) (hb : c.code = cc) {own : String} {index : Nat} {Ts : List Cond} (hts : ∀ w ∈ Ts, w.before args s = true) (hin : ∀ w ∈ wsX70, w ∈ Ts) (hown : s.vm.findClass own = some m.cls) (hK : va_K D vwCl tys s) (hP : va_P D vwCl ws H) (q0 : Nat) {fs : List Value} (he : ws[q0]? = some (a, .inr (8, fs))) (hlink : (Cond.fieldLink own index "HushWatch" "reader" "LHushWatch$Reader;").before args s = true) {v : Value} (hv : fs[1]? = some v) (hdg : decode cc pc = .ok (.getfield index, 3))
    (kk : W p l e R s m args below meth c H locs cells slots Q (F0 m (pc + 3) ls (v :: rest))) : W p l e R s m args below meth c H locs cells slots Q (F0 m pc ls (.ref a :: rest)) :=
  va_get (D := D) (ci := 8) (C := RX7) (T := TX7) (N := 12) hexec hb hts hin hown hK hP q0 he rfl 1 (by decide) hlink (fun _ h9 => h9) hv hdg kk
theorem gt_X7_2 (hexec : p.tables.exec = Jvm.exec) (hb : c.code = cc) {own : String} {index : Nat} {Ts : List Cond} (hts : ∀ w ∈ Ts, w.before args s = true) (hin : ∀ w ∈ wsX70, w ∈ Ts) (hown : s.vm.findClass own = some m.cls) (hK : va_K D vwCl tys s) (hP : va_P D vwCl ws H) (q0 : Nat) {fs : List Value} (he : ws[q0]? = some (a, .inr (8, fs))) (hlink : (Cond.fieldLink own index "HushWatch" "scripts" "LHushWatch$Scripts;").before args s = true) {v : Value} (hv : fs[2]? = some v) (hdg : decode cc pc = .ok (.getfield index, 3))
    (kk : W p l e R s m args below meth c H locs cells slots Q (F0 m (pc + 3) ls (v :: rest))) : W p l e R s m args below meth c H locs cells slots Q (F0 m pc ls (.ref a :: rest)) :=
  va_get (D := D) (ci := 8) (C := RX7) (T := TX7) (N := 12) hexec hb hts hin hown hK hP q0 he rfl 2 (by decide) hlink (fun _ h9 => h9) hv hdg kk
theorem gt_X7_3 (hexec : p.tables.exec = Jvm.exec) (hb : c.code = cc) {own : String} {index : Nat} {Ts : List Cond} (hts : ∀ w ∈ Ts, w.before args s = true) (hin : ∀ w ∈ wsX70, w ∈ Ts) (hown : s.vm.findClass own = some m.cls) (hK : va_K D vwCl tys s) (hP : va_P D vwCl ws H) (q0 : Nat) {fs : List Value} (he : ws[q0]? = some (a, .inr (8, fs))) (hlink : (Cond.fieldLink own index "HushWatch" "now" "LHushWatch$State;").before args s = true) {v : Value} (hv : fs[3]? = some v) (hdg : decode cc pc = .ok (.getfield index, 3))
    (kk : W p l e R s m args below meth c H locs cells slots Q (F0 m (pc + 3) ls (v :: rest))) : W p l e R s m args below meth c H locs cells slots Q (F0 m pc ls (.ref a :: rest)) :=
  va_get (D := D) (ci := 8) (C := RX7) (T := TX7) (N := 12) hexec hb hts hin hown hK hP q0 he rfl 3 (by decide) hlink (fun _ h9 => h9) hv hdg kk
theorem gt_X7_4 (hexec : p.tables.exec = Jvm.exec) (hb : c.code = cc) {own : String} {index : Nat} {Ts : List Cond} (hts : ∀ w ∈ Ts, w.before args s = true) (hin : ∀ w ∈ wsX70, w ∈ Ts) (hown : s.vm.findClass own = some m.cls) (hK : va_K D vwCl tys s) (hP : va_P D vwCl ws H) (q0 : Nat) {fs : List Value} (he : ws[q0]? = some (a, .inr (8, fs))) (hlink : (Cond.fieldLink own index "HushWatch" "trial" "LHushWatch$State;").before args s = true) {v : Value} (hv : fs[4]? = some v) (hdg : decode cc pc = .ok (.getfield index, 3))
    (kk : W p l e R s m args below meth c H locs cells slots Q (F0 m (pc + 3) ls (v :: rest))) : W p l e R s m args below meth c H locs cells slots Q (F0 m pc ls (.ref a :: rest)) :=
  va_get (D := D) (ci := 8) (C := RX7) (T := TX7) (N := 12) hexec hb hts hin hown hK hP q0 he rfl 4 (by decide) hlink (fun _ h9 => h9) hv hdg kk
theorem gt_X7_5 (hexec : p.tables.exec = Jvm.exec) (hb : c.code = cc) {own : String} {index : Nat} {Ts : List Cond} (hts : ∀ w ∈ Ts, w.before args s = true) (hin : ∀ w ∈ wsX70, w ∈ Ts) (hown : s.vm.findClass own = some m.cls) (hK : va_K D vwCl tys s) (hP : va_P D vwCl ws H) (q0 : Nat) {fs : List Value} (he : ws[q0]? = some (a, .inr (8, fs))) (hlink : (Cond.fieldLink own index "HushWatch" "kept" "LHushWatch$State;").before args s = true) {v : Value} (hv : fs[5]? = some v) (hdg : decode cc pc = .ok (.getfield index, 3))
    (kk : W p l e R s m args below meth c H locs cells slots Q (F0 m (pc + 3) ls (v :: rest))) : W p l e R s m args below meth c H locs cells slots Q (F0 m pc ls (.ref a :: rest)) :=
  va_get (D := D) (ci := 8) (C := RX7) (T := TX7) (N := 12) hexec hb hts hin hown hK hP q0 he rfl 5 (by decide) hlink (fun _ h9 => h9) hv hdg kk
theorem gt_X7_6 (hexec : p.tables.exec = Jvm.exec) (hb : c.code = cc) {own : String} {index : Nat} {Ts : List Cond} (hts : ∀ w ∈ Ts, w.before args s = true) (hin : ∀ w ∈ wsX70, w ∈ Ts) (hown : s.vm.findClass own = some m.cls) (hK : va_K D vwCl tys s) (hP : va_P D vwCl ws H) (q0 : Nat) {fs : List Value} (he : ws[q0]? = some (a, .inr (8, fs))) (hlink : (Cond.fieldLink own index "HushWatch" "book" "LHushWatch$Book;").before args s = true) {v : Value} (hv : fs[6]? = some v) (hdg : decode cc pc = .ok (.getfield index, 3))
    (kk : W p l e R s m args below meth c H locs cells slots Q (F0 m (pc + 3) ls (v :: rest))) : W p l e R s m args below meth c H locs cells slots Q (F0 m pc ls (.ref a :: rest)) :=
  va_get (D := D) (ci := 8) (C := RX7) (T := TX7) (N := 12) hexec hb hts hin hown hK hP q0 he rfl 6 (by decide) hlink (fun _ h9 => h9) hv hdg kk
theorem gt_X7_7 (hexec : p.tables.exec = Jvm.exec) (hb : c.code = cc) {own : String} {index : Nat} {Ts : List Cond} (hts : ∀ w ∈ Ts, w.before args s = true) (hin : ∀ w ∈ wsX70, w ∈ Ts) (hown : s.vm.findClass own = some m.cls) (hK : va_K D vwCl tys s) (hP : va_P D vwCl ws H) (q0 : Nat) {fs : List Value} (he : ws[q0]? = some (a, .inr (8, fs))) (hlink : (Cond.fieldLink own index "HushWatch" "keptBook" "LHushWatch$Book;").before args s = true) {v : Value} (hv : fs[7]? = some v) (hdg : decode cc pc = .ok (.getfield index, 3))
    (kk : W p l e R s m args below meth c H locs cells slots Q (F0 m (pc + 3) ls (v :: rest))) : W p l e R s m args below meth c H locs cells slots Q (F0 m pc ls (.ref a :: rest)) :=
  va_get (D := D) (ci := 8) (C := RX7) (T := TX7) (N := 12) hexec hb hts hin hown hK hP q0 he rfl 7 (by decide) hlink (fun _ h9 => h9) hv hdg kk
theorem gt_X7_8 (hexec : p.tables.exec = Jvm.exec) (hb : c.code = cc) {own : String} {index : Nat} {Ts : List Cond} (hts : ∀ w ∈ Ts, w.before args s = true) (hin : ∀ w ∈ wsX70, w ∈ Ts) (hown : s.vm.findClass own = some m.cls) (hK : va_K D vwCl tys s) (hP : va_P D vwCl ws H) (q0 : Nat) {fs : List Value} (he : ws[q0]? = some (a, .inr (8, fs))) (hlink : (Cond.fieldLink own index "HushWatch" "history" "LHushWatch$History;").before args s = true) {v : Value} (hv : fs[8]? = some v) (hdg : decode cc pc = .ok (.getfield index, 3))
    (kk : W p l e R s m args below meth c H locs cells slots Q (F0 m (pc + 3) ls (v :: rest))) : W p l e R s m args below meth c H locs cells slots Q (F0 m pc ls (.ref a :: rest)) :=
  va_get (D := D) (ci := 8) (C := RX7) (T := TX7) (N := 12) hexec hb hts hin hown hK hP q0 he rfl 8 (by decide) hlink (fun _ h9 => h9) hv hdg kk
theorem gt_X7_9 (hexec : p.tables.exec = Jvm.exec) (hb : c.code = cc) {own : String} {index : Nat} {Ts : List Cond} (hts : ∀ w ∈ Ts, w.before args s = true) (hin : ∀ w ∈ wsX70, w ∈ Ts) (hown : s.vm.findClass own = some m.cls) (hK : va_K D vwCl tys s) (hP : va_P D vwCl ws H) (q0 : Nat) {fs : List Value} (he : ws[q0]? = some (a, .inr (8, fs))) (hlink : (Cond.fieldLink own index "HushWatch" "draws" "LHushWatch$Draws;").before args s = true) {v : Value} (hv : fs[9]? = some v) (hdg : decode cc pc = .ok (.getfield index, 3))
    (kk : W p l e R s m args below meth c H locs cells slots Q (F0 m (pc + 3) ls (v :: rest))) : W p l e R s m args below meth c H locs cells slots Q (F0 m pc ls (.ref a :: rest)) :=
  va_get (D := D) (ci := 8) (C := RX7) (T := TX7) (N := 12) hexec hb hts hin hown hK hP q0 he rfl 9 (by decide) hlink (fun _ h9 => h9) hv hdg kk
theorem gt_X7_10 (hexec : p.tables.exec = Jvm.exec) (hb : c.code = cc) {own : String} {index : Nat} {Ts : List Cond} (hts : ∀ w ∈ Ts, w.before args s = true) (hin : ∀ w ∈ wsX70, w ∈ Ts) (hown : s.vm.findClass own = some m.cls) (hK : va_K D vwCl tys s) (hP : va_P D vwCl ws H) (q0 : Nat) {fs : List Value} (he : ws[q0]? = some (a, .inr (8, fs))) (hlink : (Cond.fieldLink own index "HushWatch" "refused" "[I").before args s = true) {v : Value} (hv : fs[10]? = some v) (hdg : decode cc pc = .ok (.getfield index, 3))
    (kk : W p l e R s m args below meth c H locs cells slots Q (F0 m (pc + 3) ls (v :: rest))) : W p l e R s m args below meth c H locs cells slots Q (F0 m pc ls (.ref a :: rest)) :=
  va_get (D := D) (ci := 8) (C := RX7) (T := TX7) (N := 12) hexec hb hts hin hown hK hP q0 he rfl 10 (by decide) hlink (fun _ h9 => h9) hv hdg kk
theorem gt_X7_11 (hexec : p.tables.exec = Jvm.exec) (hb : c.code = cc) {own : String} {index : Nat} {Ts : List Cond} (hts : ∀ w ∈ Ts, w.before args s = true) (hin : ∀ w ∈ wsX70, w ∈ Ts) (hown : s.vm.findClass own = some m.cls) (hK : va_K D vwCl tys s) (hP : va_P D vwCl ws H) (q0 : Nat) {fs : List Value} (he : ws[q0]? = some (a, .inr (8, fs))) (hlink : (Cond.fieldLink own index "HushWatch" "hasImage" "Z").before args s = true) {v : Value} (hv : fs[11]? = some v) (hdg : decode cc pc = .ok (.getfield index, 3))
    (kk : W p l e R s m args below meth c H locs cells slots Q (F0 m (pc + 3) ls (v :: rest))) : W p l e R s m args below meth c H locs cells slots Q (F0 m pc ls (.ref a :: rest)) :=
  va_get (D := D) (ci := 8) (C := RX7) (T := TX7) (N := 12) hexec hb hts hin hown hK hP q0 he rfl 11 (by decide) hlink (fun _ h9 => h9) hv hdg kk
theorem pt_X7_11 (hexec : p.tables.exec = Jvm.exec) (hb : c.code = cc) {own : String} {index : Nat} {Ts : List Cond} (hts : ∀ w ∈ Ts, w.before args s = true) (hin : ∀ w ∈ wsX70, w ∈ Ts) (hown : s.vm.findClass own = some m.cls) (hK : va_K D vwCl tys s) (hP : va_P D vwCl ws H) (hD : va_D A ws) (hS0 : va_S A H0 H locs) (q0 : Nat) {fs : List Value} (he : ws[q0]? = some (a, .inr (8, fs))) (hlink : (Cond.fieldLink own index "HushWatch" "hasImage" "Z").before args s = true) {v : Value} (hn : narrow .boolean v = v) (hfit : fits .boolean v = true) (hl : 11 < fs.length)
    (hdg : decode cc pc = .ok (.putfield index, 3)) (kk : ∀ (H1 : Heap) (locs1 : List Loc), va_P D vwCl (ws.set q0 (a, .inr (8, fs.set 11 v))) H1 → va_D A (ws.set q0 (a, .inr (8, fs.set 11 v))) → va_S A H0 H1 locs1 → W p l e R s m args below meth c H1 locs1 cells slots Q (F0 m (pc + 3) ls rest)) : W p l e R s m args below meth c H locs cells slots Q (F0 m pc ls (v :: .ref a :: rest)) :=
  va_put (D := D) (ci := 8) (ty := .boolean) (C := RX7) (T := TX7) (N := 12) hexec hb hts hin tyX7 tyX7_ok nmX7 hown hK hP hD hS0 q0 he rfl 11 (by decide) hlink (fun _ h9 => h9) rfl (by decide +kernel) hn hfit hl hdg kk
theorem gt_X8_0 (hexec : p.tables.exec = Jvm.exec) (hb : c.code = cc) {own : String} {index : Nat} {Ts : List Cond} (hts : ∀ w ∈ Ts, w.before args s = true) (hin : ∀ w ∈ wsX80, w ∈ Ts) (hown : s.vm.findClass own = some m.cls) (hK : va_K D vwCl tys s) (hP : va_P D vwCl ws H) (q0 : Nat) {fs : List Value} (he : ws[q0]? = some (a, .inr (9, fs))) (hlink : (Cond.fieldLink own index "HushWatchModel" "thrown" "I").before args s = true) {v : Value} (hv : fs[0]? = some v) (hdg : decode cc pc = .ok (.getfield index, 3))
    (kk : W p l e R s m args below meth c H locs cells slots Q (F0 m (pc + 3) ls (v :: rest))) : W p l e R s m args below meth c H locs cells slots Q (F0 m pc ls (.ref a :: rest)) :=
  va_get (D := D) (ci := 9) (C := RX8) (T := TX8) (N := 36) hexec hb hts hin hown hK hP q0 he rfl 0 (by decide) hlink (fun _ h9 => h9) hv hdg kk
theorem pt_X8_0 (hexec : p.tables.exec = Jvm.exec) (hb : c.code = cc) {own : String} {index : Nat} {Ts : List Cond} (hts : ∀ w ∈ Ts, w.before args s = true) (hin : ∀ w ∈ wsX80, w ∈ Ts) (hown : s.vm.findClass own = some m.cls) (hK : va_K D vwCl tys s) (hP : va_P D vwCl ws H) (hD : va_D A ws) (hS0 : va_S A H0 H locs) (q0 : Nat) {fs : List Value} (he : ws[q0]? = some (a, .inr (9, fs))) (hlink : (Cond.fieldLink own index "HushWatchModel" "thrown" "I").before args s = true) {v : Value} (hn : narrow .int v = v) (hfit : fits .int v = true) (hl : 0 < fs.length)
    (hdg : decode cc pc = .ok (.putfield index, 3)) (kk : ∀ (H1 : Heap) (locs1 : List Loc), va_P D vwCl (ws.set q0 (a, .inr (9, fs.set 0 v))) H1 → va_D A (ws.set q0 (a, .inr (9, fs.set 0 v))) → va_S A H0 H1 locs1 → W p l e R s m args below meth c H1 locs1 cells slots Q (F0 m (pc + 3) ls rest)) : W p l e R s m args below meth c H locs cells slots Q (F0 m pc ls (v :: .ref a :: rest)) :=
  va_put (D := D) (ci := 9) (ty := .int) (C := RX8) (T := TX8) (N := 36) hexec hb hts hin tyX8 tyX8_ok nmX8 hown hK hP hD hS0 q0 he rfl 0 (by decide) hlink (fun _ h9 => h9) rfl (by decide +kernel) hn hfit hl hdg kk
theorem gt_X8_1 (hexec : p.tables.exec = Jvm.exec) (hb : c.code = cc) {own : String} {index : Nat} {Ts : List Cond} (hts : ∀ w ∈ Ts, w.before args s = true) (hin : ∀ w ∈ wsX80, w ∈ Ts) (hown : s.vm.findClass own = some m.cls) (hK : va_K D vwCl tys s) (hP : va_P D vwCl ws H) (q0 : Nat) {fs : List Value} (he : ws[q0]? = some (a, .inr (9, fs))) (hlink : (Cond.fieldLink own index "HushWatchModel" "tape" "[I").before args s = true) {v : Value} (hv : fs[1]? = some v) (hdg : decode cc pc = .ok (.getfield index, 3))
    (kk : W p l e R s m args below meth c H locs cells slots Q (F0 m (pc + 3) ls (v :: rest))) : W p l e R s m args below meth c H locs cells slots Q (F0 m pc ls (.ref a :: rest)) :=
  va_get (D := D) (ci := 9) (C := RX8) (T := TX8) (N := 36) hexec hb hts hin hown hK hP q0 he rfl 1 (by decide) hlink (fun _ h9 => h9) hv hdg kk
theorem gt_X8_2 (hexec : p.tables.exec = Jvm.exec) (hb : c.code = cc) {own : String} {index : Nat} {Ts : List Cond} (hts : ∀ w ∈ Ts, w.before args s = true) (hin : ∀ w ∈ wsX80, w ∈ Ts) (hown : s.vm.findClass own = some m.cls) (hK : va_K D vwCl tys s) (hP : va_P D vwCl ws H) (q0 : Nat) {fs : List Value} (he : ws[q0]? = some (a, .inr (9, fs))) (hlink : (Cond.fieldLink own index "HushWatchModel" "taped" "I").before args s = true) {v : Value} (hv : fs[2]? = some v) (hdg : decode cc pc = .ok (.getfield index, 3))
    (kk : W p l e R s m args below meth c H locs cells slots Q (F0 m (pc + 3) ls (v :: rest))) : W p l e R s m args below meth c H locs cells slots Q (F0 m pc ls (.ref a :: rest)) :=
  va_get (D := D) (ci := 9) (C := RX8) (T := TX8) (N := 36) hexec hb hts hin hown hK hP q0 he rfl 2 (by decide) hlink (fun _ h9 => h9) hv hdg kk
theorem pt_X8_2 (hexec : p.tables.exec = Jvm.exec) (hb : c.code = cc) {own : String} {index : Nat} {Ts : List Cond} (hts : ∀ w ∈ Ts, w.before args s = true) (hin : ∀ w ∈ wsX80, w ∈ Ts) (hown : s.vm.findClass own = some m.cls) (hK : va_K D vwCl tys s) (hP : va_P D vwCl ws H) (hD : va_D A ws) (hS0 : va_S A H0 H locs) (q0 : Nat) {fs : List Value} (he : ws[q0]? = some (a, .inr (9, fs))) (hlink : (Cond.fieldLink own index "HushWatchModel" "taped" "I").before args s = true) {v : Value} (hn : narrow .int v = v) (hfit : fits .int v = true) (hl : 2 < fs.length)
    (hdg : decode cc pc = .ok (.putfield index, 3)) (kk : ∀ (H1 : Heap) (locs1 : List Loc), va_P D vwCl (ws.set q0 (a, .inr (9, fs.set 2 v))) H1 → va_D A (ws.set q0 (a, .inr (9, fs.set 2 v))) → va_S A H0 H1 locs1 → W p l e R s m args below meth c H1 locs1 cells slots Q (F0 m (pc + 3) ls rest)) : W p l e R s m args below meth c H locs cells slots Q (F0 m pc ls (v :: .ref a :: rest)) :=
  va_put (D := D) (ci := 9) (ty := .int) (C := RX8) (T := TX8) (N := 36) hexec hb hts hin tyX8 tyX8_ok nmX8 hown hK hP hD hS0 q0 he rfl 2 (by decide) hlink (fun _ h9 => h9) rfl (by decide +kernel) hn hfit hl hdg kk
theorem gt_X8_3 (hexec : p.tables.exec = Jvm.exec) (hb : c.code = cc) {own : String} {index : Nat} {Ts : List Cond} (hts : ∀ w ∈ Ts, w.before args s = true) (hin : ∀ w ∈ wsX80, w ∈ Ts) (hown : s.vm.findClass own = some m.cls) (hK : va_K D vwCl tys s) (hP : va_P D vwCl ws H) (q0 : Nat) {fs : List Value} (he : ws[q0]? = some (a, .inr (9, fs))) (hlink : (Cond.fieldLink own index "HushWatchModel" "at" "I").before args s = true) {v : Value} (hv : fs[3]? = some v) (hdg : decode cc pc = .ok (.getfield index, 3))
    (kk : W p l e R s m args below meth c H locs cells slots Q (F0 m (pc + 3) ls (v :: rest))) : W p l e R s m args below meth c H locs cells slots Q (F0 m pc ls (.ref a :: rest)) :=
  va_get (D := D) (ci := 9) (C := RX8) (T := TX8) (N := 36) hexec hb hts hin hown hK hP q0 he rfl 3 (by decide) hlink (fun _ h9 => h9) hv hdg kk
theorem pt_X8_3 (hexec : p.tables.exec = Jvm.exec) (hb : c.code = cc) {own : String} {index : Nat} {Ts : List Cond} (hts : ∀ w ∈ Ts, w.before args s = true) (hin : ∀ w ∈ wsX80, w ∈ Ts) (hown : s.vm.findClass own = some m.cls) (hK : va_K D vwCl tys s) (hP : va_P D vwCl ws H) (hD : va_D A ws) (hS0 : va_S A H0 H locs) (q0 : Nat) {fs : List Value} (he : ws[q0]? = some (a, .inr (9, fs))) (hlink : (Cond.fieldLink own index "HushWatchModel" "at" "I").before args s = true) {v : Value} (hn : narrow .int v = v) (hfit : fits .int v = true) (hl : 3 < fs.length)
    (hdg : decode cc pc = .ok (.putfield index, 3)) (kk : ∀ (H1 : Heap) (locs1 : List Loc), va_P D vwCl (ws.set q0 (a, .inr (9, fs.set 3 v))) H1 → va_D A (ws.set q0 (a, .inr (9, fs.set 3 v))) → va_S A H0 H1 locs1 → W p l e R s m args below meth c H1 locs1 cells slots Q (F0 m (pc + 3) ls rest)) : W p l e R s m args below meth c H locs cells slots Q (F0 m pc ls (v :: .ref a :: rest)) :=
  va_put (D := D) (ci := 9) (ty := .int) (C := RX8) (T := TX8) (N := 36) hexec hb hts hin tyX8 tyX8_ok nmX8 hown hK hP hD hS0 q0 he rfl 3 (by decide) hlink (fun _ h9 => h9) rfl (by decide +kernel) hn hfit hl hdg kk
theorem gt_X8_4 (hexec : p.tables.exec = Jvm.exec) (hb : c.code = cc) {own : String} {index : Nat} {Ts : List Cond} (hts : ∀ w ∈ Ts, w.before args s = true) (hin : ∀ w ∈ wsX80, w ∈ Ts) (hown : s.vm.findClass own = some m.cls) (hK : va_K D vwCl tys s) (hP : va_P D vwCl ws H) (q0 : Nat) {fs : List Value} (he : ws[q0]? = some (a, .inr (9, fs))) (hlink : (Cond.fieldLink own index "HushWatchModel" "part" "I").before args s = true) {v : Value} (hv : fs[4]? = some v) (hdg : decode cc pc = .ok (.getfield index, 3))
    (kk : W p l e R s m args below meth c H locs cells slots Q (F0 m (pc + 3) ls (v :: rest))) : W p l e R s m args below meth c H locs cells slots Q (F0 m pc ls (.ref a :: rest)) :=
  va_get (D := D) (ci := 9) (C := RX8) (T := TX8) (N := 36) hexec hb hts hin hown hK hP q0 he rfl 4 (by decide) hlink (fun _ h9 => h9) hv hdg kk
theorem pt_X8_4 (hexec : p.tables.exec = Jvm.exec) (hb : c.code = cc) {own : String} {index : Nat} {Ts : List Cond} (hts : ∀ w ∈ Ts, w.before args s = true) (hin : ∀ w ∈ wsX80, w ∈ Ts) (hown : s.vm.findClass own = some m.cls) (hK : va_K D vwCl tys s) (hP : va_P D vwCl ws H) (hD : va_D A ws) (hS0 : va_S A H0 H locs) (q0 : Nat) {fs : List Value} (he : ws[q0]? = some (a, .inr (9, fs))) (hlink : (Cond.fieldLink own index "HushWatchModel" "part" "I").before args s = true) {v : Value} (hn : narrow .int v = v) (hfit : fits .int v = true) (hl : 4 < fs.length)
    (hdg : decode cc pc = .ok (.putfield index, 3)) (kk : ∀ (H1 : Heap) (locs1 : List Loc), va_P D vwCl (ws.set q0 (a, .inr (9, fs.set 4 v))) H1 → va_D A (ws.set q0 (a, .inr (9, fs.set 4 v))) → va_S A H0 H1 locs1 → W p l e R s m args below meth c H1 locs1 cells slots Q (F0 m (pc + 3) ls rest)) : W p l e R s m args below meth c H locs cells slots Q (F0 m pc ls (v :: .ref a :: rest)) :=
  va_put (D := D) (ci := 9) (ty := .int) (C := RX8) (T := TX8) (N := 36) hexec hb hts hin tyX8 tyX8_ok nmX8 hown hK hP hD hS0 q0 he rfl 4 (by decide) hlink (fun _ h9 => h9) rfl (by decide +kernel) hn hfit hl hdg kk
theorem gt_X8_5 (hexec : p.tables.exec = Jvm.exec) (hb : c.code = cc) {own : String} {index : Nat} {Ts : List Cond} (hts : ∀ w ∈ Ts, w.before args s = true) (hin : ∀ w ∈ wsX80, w ∈ Ts) (hown : s.vm.findClass own = some m.cls) (hK : va_K D vwCl tys s) (hP : va_P D vwCl ws H) (q0 : Nat) {fs : List Value} (he : ws[q0]? = some (a, .inr (9, fs))) (hlink : (Cond.fieldLink own index "HushWatchModel" "partFrom" "I").before args s = true) {v : Value} (hv : fs[5]? = some v) (hdg : decode cc pc = .ok (.getfield index, 3))
    (kk : W p l e R s m args below meth c H locs cells slots Q (F0 m (pc + 3) ls (v :: rest))) : W p l e R s m args below meth c H locs cells slots Q (F0 m pc ls (.ref a :: rest)) :=
  va_get (D := D) (ci := 9) (C := RX8) (T := TX8) (N := 36) hexec hb hts hin hown hK hP q0 he rfl 5 (by decide) hlink (fun _ h9 => h9) hv hdg kk
theorem pt_X8_5 (hexec : p.tables.exec = Jvm.exec) (hb : c.code = cc) {own : String} {index : Nat} {Ts : List Cond} (hts : ∀ w ∈ Ts, w.before args s = true) (hin : ∀ w ∈ wsX80, w ∈ Ts) (hown : s.vm.findClass own = some m.cls) (hK : va_K D vwCl tys s) (hP : va_P D vwCl ws H) (hD : va_D A ws) (hS0 : va_S A H0 H locs) (q0 : Nat) {fs : List Value} (he : ws[q0]? = some (a, .inr (9, fs))) (hlink : (Cond.fieldLink own index "HushWatchModel" "partFrom" "I").before args s = true) {v : Value} (hn : narrow .int v = v) (hfit : fits .int v = true) (hl : 5 < fs.length)
    (hdg : decode cc pc = .ok (.putfield index, 3)) (kk : ∀ (H1 : Heap) (locs1 : List Loc), va_P D vwCl (ws.set q0 (a, .inr (9, fs.set 5 v))) H1 → va_D A (ws.set q0 (a, .inr (9, fs.set 5 v))) → va_S A H0 H1 locs1 → W p l e R s m args below meth c H1 locs1 cells slots Q (F0 m (pc + 3) ls rest)) : W p l e R s m args below meth c H locs cells slots Q (F0 m pc ls (v :: .ref a :: rest)) :=
  va_put (D := D) (ci := 9) (ty := .int) (C := RX8) (T := TX8) (N := 36) hexec hb hts hin tyX8 tyX8_ok nmX8 hown hK hP hD hS0 q0 he rfl 5 (by decide) hlink (fun _ h9 => h9) rfl (by decide +kernel) hn hfit hl hdg kk
theorem gt_X8_6 (hexec : p.tables.exec = Jvm.exec) (hb : c.code = cc) {own : String} {index : Nat} {Ts : List Cond} (hts : ∀ w ∈ Ts, w.before args s = true) (hin : ∀ w ∈ wsX80, w ∈ Ts) (hown : s.vm.findClass own = some m.cls) (hK : va_K D vwCl tys s) (hP : va_P D vwCl ws H) (q0 : Nat) {fs : List Value} (he : ws[q0]? = some (a, .inr (9, fs))) (hlink : (Cond.fieldLink own index "HushWatchModel" "partNumber" "I").before args s = true) {v : Value} (hv : fs[6]? = some v) (hdg : decode cc pc = .ok (.getfield index, 3))
    (kk : W p l e R s m args below meth c H locs cells slots Q (F0 m (pc + 3) ls (v :: rest))) : W p l e R s m args below meth c H locs cells slots Q (F0 m pc ls (.ref a :: rest)) :=
  va_get (D := D) (ci := 9) (C := RX8) (T := TX8) (N := 36) hexec hb hts hin hown hK hP q0 he rfl 6 (by decide) hlink (fun _ h9 => h9) hv hdg kk
theorem pt_X8_6 (hexec : p.tables.exec = Jvm.exec) (hb : c.code = cc) {own : String} {index : Nat} {Ts : List Cond} (hts : ∀ w ∈ Ts, w.before args s = true) (hin : ∀ w ∈ wsX80, w ∈ Ts) (hown : s.vm.findClass own = some m.cls) (hK : va_K D vwCl tys s) (hP : va_P D vwCl ws H) (hD : va_D A ws) (hS0 : va_S A H0 H locs) (q0 : Nat) {fs : List Value} (he : ws[q0]? = some (a, .inr (9, fs))) (hlink : (Cond.fieldLink own index "HushWatchModel" "partNumber" "I").before args s = true) {v : Value} (hn : narrow .int v = v) (hfit : fits .int v = true) (hl : 6 < fs.length)
    (hdg : decode cc pc = .ok (.putfield index, 3)) (kk : ∀ (H1 : Heap) (locs1 : List Loc), va_P D vwCl (ws.set q0 (a, .inr (9, fs.set 6 v))) H1 → va_D A (ws.set q0 (a, .inr (9, fs.set 6 v))) → va_S A H0 H1 locs1 → W p l e R s m args below meth c H1 locs1 cells slots Q (F0 m (pc + 3) ls rest)) : W p l e R s m args below meth c H locs cells slots Q (F0 m pc ls (v :: .ref a :: rest)) :=
  va_put (D := D) (ci := 9) (ty := .int) (C := RX8) (T := TX8) (N := 36) hexec hb hts hin tyX8 tyX8_ok nmX8 hown hK hP hD hS0 q0 he rfl 6 (by decide) hlink (fun _ h9 => h9) rfl (by decide +kernel) hn hfit hl hdg kk
theorem gt_X8_7 (hexec : p.tables.exec = Jvm.exec) (hb : c.code = cc) {own : String} {index : Nat} {Ts : List Cond} (hts : ∀ w ∈ Ts, w.before args s = true) (hin : ∀ w ∈ wsX80, w ∈ Ts) (hown : s.vm.findClass own = some m.cls) (hK : va_K D vwCl tys s) (hP : va_P D vwCl ws H) (q0 : Nat) {fs : List Value} (he : ws[q0]? = some (a, .inr (9, fs))) (hlink : (Cond.fieldLink own index "HushWatchModel" "wrong" "I").before args s = true) {v : Value} (hv : fs[7]? = some v) (hdg : decode cc pc = .ok (.getfield index, 3))
    (kk : W p l e R s m args below meth c H locs cells slots Q (F0 m (pc + 3) ls (v :: rest))) : W p l e R s m args below meth c H locs cells slots Q (F0 m pc ls (.ref a :: rest)) :=
  va_get (D := D) (ci := 9) (C := RX8) (T := TX8) (N := 36) hexec hb hts hin hown hK hP q0 he rfl 7 (by decide) hlink (fun _ h9 => h9) hv hdg kk
theorem pt_X8_7 (hexec : p.tables.exec = Jvm.exec) (hb : c.code = cc) {own : String} {index : Nat} {Ts : List Cond} (hts : ∀ w ∈ Ts, w.before args s = true) (hin : ∀ w ∈ wsX80, w ∈ Ts) (hown : s.vm.findClass own = some m.cls) (hK : va_K D vwCl tys s) (hP : va_P D vwCl ws H) (hD : va_D A ws) (hS0 : va_S A H0 H locs) (q0 : Nat) {fs : List Value} (he : ws[q0]? = some (a, .inr (9, fs))) (hlink : (Cond.fieldLink own index "HushWatchModel" "wrong" "I").before args s = true) {v : Value} (hn : narrow .int v = v) (hfit : fits .int v = true) (hl : 7 < fs.length)
    (hdg : decode cc pc = .ok (.putfield index, 3)) (kk : ∀ (H1 : Heap) (locs1 : List Loc), va_P D vwCl (ws.set q0 (a, .inr (9, fs.set 7 v))) H1 → va_D A (ws.set q0 (a, .inr (9, fs.set 7 v))) → va_S A H0 H1 locs1 → W p l e R s m args below meth c H1 locs1 cells slots Q (F0 m (pc + 3) ls rest)) : W p l e R s m args below meth c H locs cells slots Q (F0 m pc ls (v :: .ref a :: rest)) :=
  va_put (D := D) (ci := 9) (ty := .int) (C := RX8) (T := TX8) (N := 36) hexec hb hts hin tyX8 tyX8_ok nmX8 hown hK hP hD hS0 q0 he rfl 7 (by decide) hlink (fun _ h9 => h9) rfl (by decide +kernel) hn hfit hl hdg kk
theorem gt_X8_8 (hexec : p.tables.exec = Jvm.exec) (hb : c.code = cc) {own : String} {index : Nat} {Ts : List Cond} (hts : ∀ w ∈ Ts, w.before args s = true) (hin : ∀ w ∈ wsX80, w ∈ Ts) (hown : s.vm.findClass own = some m.cls) (hK : va_K D vwCl tys s) (hP : va_P D vwCl ws H) (q0 : Nat) {fs : List Value} (he : ws[q0]? = some (a, .inr (9, fs))) (hlink : (Cond.fieldLink own index "HushWatchModel" "partWord" "J").before args s = true) {v : Value} (hv : fs[8]? = some v) (hdg : decode cc pc = .ok (.getfield index, 3))
    (kk : W p l e R s m args below meth c H locs cells slots Q (F0 m (pc + 3) ls (v :: rest))) : W p l e R s m args below meth c H locs cells slots Q (F0 m pc ls (.ref a :: rest)) :=
  va_get (D := D) (ci := 9) (C := RX8) (T := TX8) (N := 36) hexec hb hts hin hown hK hP q0 he rfl 8 (by decide) hlink (fun _ h9 => h9) hv hdg kk
theorem pt_X8_8 (hexec : p.tables.exec = Jvm.exec) (hb : c.code = cc) {own : String} {index : Nat} {Ts : List Cond} (hts : ∀ w ∈ Ts, w.before args s = true) (hin : ∀ w ∈ wsX80, w ∈ Ts) (hown : s.vm.findClass own = some m.cls) (hK : va_K D vwCl tys s) (hP : va_P D vwCl ws H) (hD : va_D A ws) (hS0 : va_S A H0 H locs) (q0 : Nat) {fs : List Value} (he : ws[q0]? = some (a, .inr (9, fs))) (hlink : (Cond.fieldLink own index "HushWatchModel" "partWord" "J").before args s = true) {v : Value} (hn : narrow .long v = v) (hfit : fits .long v = true) (hl : 8 < fs.length)
    (hdg : decode cc pc = .ok (.putfield index, 3)) (kk : ∀ (H1 : Heap) (locs1 : List Loc), va_P D vwCl (ws.set q0 (a, .inr (9, fs.set 8 v))) H1 → va_D A (ws.set q0 (a, .inr (9, fs.set 8 v))) → va_S A H0 H1 locs1 → W p l e R s m args below meth c H1 locs1 cells slots Q (F0 m (pc + 3) ls rest)) : W p l e R s m args below meth c H locs cells slots Q (F0 m pc ls (v :: .ref a :: rest)) :=
  va_put (D := D) (ci := 9) (ty := .long) (C := RX8) (T := TX8) (N := 36) hexec hb hts hin tyX8 tyX8_ok nmX8 hown hK hP hD hS0 q0 he rfl 8 (by decide) hlink (fun _ h9 => h9) rfl (by decide +kernel) hn hfit hl hdg kk
theorem gt_X8_9 (hexec : p.tables.exec = Jvm.exec) (hb : c.code = cc) {own : String} {index : Nat} {Ts : List Cond} (hts : ∀ w ∈ Ts, w.before args s = true) (hin : ∀ w ∈ wsX80, w ∈ Ts) (hown : s.vm.findClass own = some m.cls) (hK : va_K D vwCl tys s) (hP : va_P D vwCl ws H) (q0 : Nat) {fs : List Value} (he : ws[q0]? = some (a, .inr (9, fs))) (hlink : (Cond.fieldLink own index "HushWatchModel" "readLaw" "I").before args s = true) {v : Value} (hv : fs[9]? = some v) (hdg : decode cc pc = .ok (.getfield index, 3))
    (kk : W p l e R s m args below meth c H locs cells slots Q (F0 m (pc + 3) ls (v :: rest))) : W p l e R s m args below meth c H locs cells slots Q (F0 m pc ls (.ref a :: rest)) :=
  va_get (D := D) (ci := 9) (C := RX8) (T := TX8) (N := 36) hexec hb hts hin hown hK hP q0 he rfl 9 (by decide) hlink (fun _ h9 => h9) hv hdg kk
theorem pt_X8_9 (hexec : p.tables.exec = Jvm.exec) (hb : c.code = cc) {own : String} {index : Nat} {Ts : List Cond} (hts : ∀ w ∈ Ts, w.before args s = true) (hin : ∀ w ∈ wsX80, w ∈ Ts) (hown : s.vm.findClass own = some m.cls) (hK : va_K D vwCl tys s) (hP : va_P D vwCl ws H) (hD : va_D A ws) (hS0 : va_S A H0 H locs) (q0 : Nat) {fs : List Value} (he : ws[q0]? = some (a, .inr (9, fs))) (hlink : (Cond.fieldLink own index "HushWatchModel" "readLaw" "I").before args s = true) {v : Value} (hn : narrow .int v = v) (hfit : fits .int v = true) (hl : 9 < fs.length)
    (hdg : decode cc pc = .ok (.putfield index, 3)) (kk : ∀ (H1 : Heap) (locs1 : List Loc), va_P D vwCl (ws.set q0 (a, .inr (9, fs.set 9 v))) H1 → va_D A (ws.set q0 (a, .inr (9, fs.set 9 v))) → va_S A H0 H1 locs1 → W p l e R s m args below meth c H1 locs1 cells slots Q (F0 m (pc + 3) ls rest)) : W p l e R s m args below meth c H locs cells slots Q (F0 m pc ls (v :: .ref a :: rest)) :=
  va_put (D := D) (ci := 9) (ty := .int) (C := RX8) (T := TX8) (N := 36) hexec hb hts hin tyX8 tyX8_ok nmX8 hown hK hP hD hS0 q0 he rfl 9 (by decide) hlink (fun _ h9 => h9) rfl (by decide +kernel) hn hfit hl hdg kk
theorem gt_X8_10 (hexec : p.tables.exec = Jvm.exec) (hb : c.code = cc) {own : String} {index : Nat} {Ts : List Cond} (hts : ∀ w ∈ Ts, w.before args s = true) (hin : ∀ w ∈ wsX80, w ∈ Ts) (hown : s.vm.findClass own = some m.cls) (hK : va_K D vwCl tys s) (hP : va_P D vwCl ws H) (q0 : Nat) {fs : List Value} (he : ws[q0]? = some (a, .inr (9, fs))) (hlink : (Cond.fieldLink own index "HushWatchModel" "readBound" "I").before args s = true) {v : Value} (hv : fs[10]? = some v) (hdg : decode cc pc = .ok (.getfield index, 3))
    (kk : W p l e R s m args below meth c H locs cells slots Q (F0 m (pc + 3) ls (v :: rest))) : W p l e R s m args below meth c H locs cells slots Q (F0 m pc ls (.ref a :: rest)) :=
  va_get (D := D) (ci := 9) (C := RX8) (T := TX8) (N := 36) hexec hb hts hin hown hK hP q0 he rfl 10 (by decide) hlink (fun _ h9 => h9) hv hdg kk
theorem pt_X8_10 (hexec : p.tables.exec = Jvm.exec) (hb : c.code = cc) {own : String} {index : Nat} {Ts : List Cond} (hts : ∀ w ∈ Ts, w.before args s = true) (hin : ∀ w ∈ wsX80, w ∈ Ts) (hown : s.vm.findClass own = some m.cls) (hK : va_K D vwCl tys s) (hP : va_P D vwCl ws H) (hD : va_D A ws) (hS0 : va_S A H0 H locs) (q0 : Nat) {fs : List Value} (he : ws[q0]? = some (a, .inr (9, fs))) (hlink : (Cond.fieldLink own index "HushWatchModel" "readBound" "I").before args s = true) {v : Value} (hn : narrow .int v = v) (hfit : fits .int v = true) (hl : 10 < fs.length)
    (hdg : decode cc pc = .ok (.putfield index, 3)) (kk : ∀ (H1 : Heap) (locs1 : List Loc), va_P D vwCl (ws.set q0 (a, .inr (9, fs.set 10 v))) H1 → va_D A (ws.set q0 (a, .inr (9, fs.set 10 v))) → va_S A H0 H1 locs1 → W p l e R s m args below meth c H1 locs1 cells slots Q (F0 m (pc + 3) ls rest)) : W p l e R s m args below meth c H locs cells slots Q (F0 m pc ls (v :: .ref a :: rest)) :=
  va_put (D := D) (ci := 9) (ty := .int) (C := RX8) (T := TX8) (N := 36) hexec hb hts hin tyX8 tyX8_ok nmX8 hown hK hP hD hS0 q0 he rfl 10 (by decide) hlink (fun _ h9 => h9) rfl (by decide +kernel) hn hfit hl hdg kk
theorem gt_X8_11 (hexec : p.tables.exec = Jvm.exec) (hb : c.code = cc) {own : String} {index : Nat} {Ts : List Cond} (hts : ∀ w ∈ Ts, w.before args s = true) (hin : ∀ w ∈ wsX80, w ∈ Ts) (hown : s.vm.findClass own = some m.cls) (hK : va_K D vwCl tys s) (hP : va_P D vwCl ws H) (q0 : Nat) {fs : List Value} (he : ws[q0]? = some (a, .inr (9, fs))) (hlink : (Cond.fieldLink own index "HushWatchModel" "readGoal" "I").before args s = true) {v : Value} (hv : fs[11]? = some v) (hdg : decode cc pc = .ok (.getfield index, 3))
    (kk : W p l e R s m args below meth c H locs cells slots Q (F0 m (pc + 3) ls (v :: rest))) : W p l e R s m args below meth c H locs cells slots Q (F0 m pc ls (.ref a :: rest)) :=
  va_get (D := D) (ci := 9) (C := RX8) (T := TX8) (N := 36) hexec hb hts hin hown hK hP q0 he rfl 11 (by decide) hlink (fun _ h9 => h9) hv hdg kk
theorem pt_X8_11 (hexec : p.tables.exec = Jvm.exec) (hb : c.code = cc) {own : String} {index : Nat} {Ts : List Cond} (hts : ∀ w ∈ Ts, w.before args s = true) (hin : ∀ w ∈ wsX80, w ∈ Ts) (hown : s.vm.findClass own = some m.cls) (hK : va_K D vwCl tys s) (hP : va_P D vwCl ws H) (hD : va_D A ws) (hS0 : va_S A H0 H locs) (q0 : Nat) {fs : List Value} (he : ws[q0]? = some (a, .inr (9, fs))) (hlink : (Cond.fieldLink own index "HushWatchModel" "readGoal" "I").before args s = true) {v : Value} (hn : narrow .int v = v) (hfit : fits .int v = true) (hl : 11 < fs.length)
    (hdg : decode cc pc = .ok (.putfield index, 3)) (kk : ∀ (H1 : Heap) (locs1 : List Loc), va_P D vwCl (ws.set q0 (a, .inr (9, fs.set 11 v))) H1 → va_D A (ws.set q0 (a, .inr (9, fs.set 11 v))) → va_S A H0 H1 locs1 → W p l e R s m args below meth c H1 locs1 cells slots Q (F0 m (pc + 3) ls rest)) : W p l e R s m args below meth c H locs cells slots Q (F0 m pc ls (v :: .ref a :: rest)) :=
  va_put (D := D) (ci := 9) (ty := .int) (C := RX8) (T := TX8) (N := 36) hexec hb hts hin tyX8 tyX8_ok nmX8 hown hK hP hD hS0 q0 he rfl 11 (by decide) hlink (fun _ h9 => h9) rfl (by decide +kernel) hn hfit hl hdg kk
theorem gt_X8_12 (hexec : p.tables.exec = Jvm.exec) (hb : c.code = cc) {own : String} {index : Nat} {Ts : List Cond} (hts : ∀ w ∈ Ts, w.before args s = true) (hin : ∀ w ∈ wsX80, w ∈ Ts) (hown : s.vm.findClass own = some m.cls) (hK : va_K D vwCl tys s) (hP : va_P D vwCl ws H) (q0 : Nat) {fs : List Value} (he : ws[q0]? = some (a, .inr (9, fs))) (hlink : (Cond.fieldLink own index "HushWatchModel" "readSites" "I").before args s = true) {v : Value} (hv : fs[12]? = some v) (hdg : decode cc pc = .ok (.getfield index, 3))
    (kk : W p l e R s m args below meth c H locs cells slots Q (F0 m (pc + 3) ls (v :: rest))) : W p l e R s m args below meth c H locs cells slots Q (F0 m pc ls (.ref a :: rest)) :=
  va_get (D := D) (ci := 9) (C := RX8) (T := TX8) (N := 36) hexec hb hts hin hown hK hP q0 he rfl 12 (by decide) hlink (fun _ h9 => h9) hv hdg kk
theorem pt_X8_12 (hexec : p.tables.exec = Jvm.exec) (hb : c.code = cc) {own : String} {index : Nat} {Ts : List Cond} (hts : ∀ w ∈ Ts, w.before args s = true) (hin : ∀ w ∈ wsX80, w ∈ Ts) (hown : s.vm.findClass own = some m.cls) (hK : va_K D vwCl tys s) (hP : va_P D vwCl ws H) (hD : va_D A ws) (hS0 : va_S A H0 H locs) (q0 : Nat) {fs : List Value} (he : ws[q0]? = some (a, .inr (9, fs))) (hlink : (Cond.fieldLink own index "HushWatchModel" "readSites" "I").before args s = true) {v : Value} (hn : narrow .int v = v) (hfit : fits .int v = true) (hl : 12 < fs.length)
    (hdg : decode cc pc = .ok (.putfield index, 3)) (kk : ∀ (H1 : Heap) (locs1 : List Loc), va_P D vwCl (ws.set q0 (a, .inr (9, fs.set 12 v))) H1 → va_D A (ws.set q0 (a, .inr (9, fs.set 12 v))) → va_S A H0 H1 locs1 → W p l e R s m args below meth c H1 locs1 cells slots Q (F0 m (pc + 3) ls rest)) : W p l e R s m args below meth c H locs cells slots Q (F0 m pc ls (v :: .ref a :: rest)) :=
  va_put (D := D) (ci := 9) (ty := .int) (C := RX8) (T := TX8) (N := 36) hexec hb hts hin tyX8 tyX8_ok nmX8 hown hK hP hD hS0 q0 he rfl 12 (by decide) hlink (fun _ h9 => h9) rfl (by decide +kernel) hn hfit hl hdg kk
theorem gt_X8_13 (hexec : p.tables.exec = Jvm.exec) (hb : c.code = cc) {own : String} {index : Nat} {Ts : List Cond} (hts : ∀ w ∈ Ts, w.before args s = true) (hin : ∀ w ∈ wsX80, w ∈ Ts) (hown : s.vm.findClass own = some m.cls) (hK : va_K D vwCl tys s) (hP : va_P D vwCl ws H) (q0 : Nat) {fs : List Value} (he : ws[q0]? = some (a, .inr (9, fs))) (hlink : (Cond.fieldLink own index "HushWatchModel" "readPlace" "[I").before args s = true) {v : Value} (hv : fs[13]? = some v) (hdg : decode cc pc = .ok (.getfield index, 3))
    (kk : W p l e R s m args below meth c H locs cells slots Q (F0 m (pc + 3) ls (v :: rest))) : W p l e R s m args below meth c H locs cells slots Q (F0 m pc ls (.ref a :: rest)) :=
  va_get (D := D) (ci := 9) (C := RX8) (T := TX8) (N := 36) hexec hb hts hin hown hK hP q0 he rfl 13 (by decide) hlink (fun _ h9 => h9) hv hdg kk
theorem gt_X8_14 (hexec : p.tables.exec = Jvm.exec) (hb : c.code = cc) {own : String} {index : Nat} {Ts : List Cond} (hts : ∀ w ∈ Ts, w.before args s = true) (hin : ∀ w ∈ wsX80, w ∈ Ts) (hown : s.vm.findClass own = some m.cls) (hK : va_K D vwCl tys s) (hP : va_P D vwCl ws H) (q0 : Nat) {fs : List Value} (he : ws[q0]? = some (a, .inr (9, fs))) (hlink : (Cond.fieldLink own index "HushWatchModel" "script" "[I").before args s = true) {v : Value} (hv : fs[14]? = some v) (hdg : decode cc pc = .ok (.getfield index, 3))
    (kk : W p l e R s m args below meth c H locs cells slots Q (F0 m (pc + 3) ls (v :: rest))) : W p l e R s m args below meth c H locs cells slots Q (F0 m pc ls (.ref a :: rest)) :=
  va_get (D := D) (ci := 9) (C := RX8) (T := TX8) (N := 36) hexec hb hts hin hown hK hP q0 he rfl 14 (by decide) hlink (fun _ h9 => h9) hv hdg kk
theorem gt_X8_15 (hexec : p.tables.exec = Jvm.exec) (hb : c.code = cc) {own : String} {index : Nat} {Ts : List Cond} (hts : ∀ w ∈ Ts, w.before args s = true) (hin : ∀ w ∈ wsX80, w ∈ Ts) (hown : s.vm.findClass own = some m.cls) (hK : va_K D vwCl tys s) (hP : va_P D vwCl ws H) (q0 : Nat) {fs : List Value} (he : ws[q0]? = some (a, .inr (9, fs))) (hlink : (Cond.fieldLink own index "HushWatchModel" "scriptLong" "[I").before args s = true) {v : Value} (hv : fs[15]? = some v) (hdg : decode cc pc = .ok (.getfield index, 3))
    (kk : W p l e R s m args below meth c H locs cells slots Q (F0 m (pc + 3) ls (v :: rest))) : W p l e R s m args below meth c H locs cells slots Q (F0 m pc ls (.ref a :: rest)) :=
  va_get (D := D) (ci := 9) (C := RX8) (T := TX8) (N := 36) hexec hb hts hin hown hK hP q0 he rfl 15 (by decide) hlink (fun _ h9 => h9) hv hdg kk
theorem gt_X8_16 (hexec : p.tables.exec = Jvm.exec) (hb : c.code = cc) {own : String} {index : Nat} {Ts : List Cond} (hts : ∀ w ∈ Ts, w.before args s = true) (hin : ∀ w ∈ wsX80, w ∈ Ts) (hown : s.vm.findClass own = some m.cls) (hK : va_K D vwCl tys s) (hP : va_P D vwCl ws H) (q0 : Nat) {fs : List Value} (he : ws[q0]? = some (a, .inr (9, fs))) (hlink : (Cond.fieldLink own index "HushWatchModel" "scripts" "I").before args s = true) {v : Value} (hv : fs[16]? = some v) (hdg : decode cc pc = .ok (.getfield index, 3))
    (kk : W p l e R s m args below meth c H locs cells slots Q (F0 m (pc + 3) ls (v :: rest))) : W p l e R s m args below meth c H locs cells slots Q (F0 m pc ls (.ref a :: rest)) :=
  va_get (D := D) (ci := 9) (C := RX8) (T := TX8) (N := 36) hexec hb hts hin hown hK hP q0 he rfl 16 (by decide) hlink (fun _ h9 => h9) hv hdg kk
theorem pt_X8_16 (hexec : p.tables.exec = Jvm.exec) (hb : c.code = cc) {own : String} {index : Nat} {Ts : List Cond} (hts : ∀ w ∈ Ts, w.before args s = true) (hin : ∀ w ∈ wsX80, w ∈ Ts) (hown : s.vm.findClass own = some m.cls) (hK : va_K D vwCl tys s) (hP : va_P D vwCl ws H) (hD : va_D A ws) (hS0 : va_S A H0 H locs) (q0 : Nat) {fs : List Value} (he : ws[q0]? = some (a, .inr (9, fs))) (hlink : (Cond.fieldLink own index "HushWatchModel" "scripts" "I").before args s = true) {v : Value} (hn : narrow .int v = v) (hfit : fits .int v = true) (hl : 16 < fs.length)
    (hdg : decode cc pc = .ok (.putfield index, 3)) (kk : ∀ (H1 : Heap) (locs1 : List Loc), va_P D vwCl (ws.set q0 (a, .inr (9, fs.set 16 v))) H1 → va_D A (ws.set q0 (a, .inr (9, fs.set 16 v))) → va_S A H0 H1 locs1 → W p l e R s m args below meth c H1 locs1 cells slots Q (F0 m (pc + 3) ls rest)) : W p l e R s m args below meth c H locs cells slots Q (F0 m pc ls (v :: .ref a :: rest)) :=
  va_put (D := D) (ci := 9) (ty := .int) (C := RX8) (T := TX8) (N := 36) hexec hb hts hin tyX8 tyX8_ok nmX8 hown hK hP hD hS0 q0 he rfl 16 (by decide) hlink (fun _ h9 => h9) rfl (by decide +kernel) hn hfit hl hdg kk
theorem gt_X8_17 (hexec : p.tables.exec = Jvm.exec) (hb : c.code = cc) {own : String} {index : Nat} {Ts : List Cond} (hts : ∀ w ∈ Ts, w.before args s = true) (hin : ∀ w ∈ wsX80, w ∈ Ts) (hown : s.vm.findClass own = some m.cls) (hK : va_K D vwCl tys s) (hP : va_P D vwCl ws H) (q0 : Nat) {fs : List Value} (he : ws[q0]? = some (a, .inr (9, fs))) (hlink : (Cond.fieldLink own index "HushWatchModel" "now" "[I").before args s = true) {v : Value} (hv : fs[17]? = some v) (hdg : decode cc pc = .ok (.getfield index, 3))
    (kk : W p l e R s m args below meth c H locs cells slots Q (F0 m (pc + 3) ls (v :: rest))) : W p l e R s m args below meth c H locs cells slots Q (F0 m pc ls (.ref a :: rest)) :=
  va_get (D := D) (ci := 9) (C := RX8) (T := TX8) (N := 36) hexec hb hts hin hown hK hP q0 he rfl 17 (by decide) hlink (fun _ h9 => h9) hv hdg kk
theorem gt_X8_18 (hexec : p.tables.exec = Jvm.exec) (hb : c.code = cc) {own : String} {index : Nat} {Ts : List Cond} (hts : ∀ w ∈ Ts, w.before args s = true) (hin : ∀ w ∈ wsX80, w ∈ Ts) (hown : s.vm.findClass own = some m.cls) (hK : va_K D vwCl tys s) (hP : va_P D vwCl ws H) (q0 : Nat) {fs : List Value} (he : ws[q0]? = some (a, .inr (9, fs))) (hlink : (Cond.fieldLink own index "HushWatchModel" "refused" "[I").before args s = true) {v : Value} (hv : fs[18]? = some v) (hdg : decode cc pc = .ok (.getfield index, 3))
    (kk : W p l e R s m args below meth c H locs cells slots Q (F0 m (pc + 3) ls (v :: rest))) : W p l e R s m args below meth c H locs cells slots Q (F0 m pc ls (.ref a :: rest)) :=
  va_get (D := D) (ci := 9) (C := RX8) (T := TX8) (N := 36) hexec hb hts hin hown hK hP q0 he rfl 18 (by decide) hlink (fun _ h9 => h9) hv hdg kk
theorem gt_X8_19 (hexec : p.tables.exec = Jvm.exec) (hb : c.code = cc) {own : String} {index : Nat} {Ts : List Cond} (hts : ∀ w ∈ Ts, w.before args s = true) (hin : ∀ w ∈ wsX80, w ∈ Ts) (hown : s.vm.findClass own = some m.cls) (hK : va_K D vwCl tys s) (hP : va_P D vwCl ws H) (q0 : Nat) {fs : List Value} (he : ws[q0]? = some (a, .inr (9, fs))) (hlink : (Cond.fieldLink own index "HushWatchModel" "sites" "I").before args s = true) {v : Value} (hv : fs[19]? = some v) (hdg : decode cc pc = .ok (.getfield index, 3))
    (kk : W p l e R s m args below meth c H locs cells slots Q (F0 m (pc + 3) ls (v :: rest))) : W p l e R s m args below meth c H locs cells slots Q (F0 m pc ls (.ref a :: rest)) :=
  va_get (D := D) (ci := 9) (C := RX8) (T := TX8) (N := 36) hexec hb hts hin hown hK hP q0 he rfl 19 (by decide) hlink (fun _ h9 => h9) hv hdg kk
theorem pt_X8_19 (hexec : p.tables.exec = Jvm.exec) (hb : c.code = cc) {own : String} {index : Nat} {Ts : List Cond} (hts : ∀ w ∈ Ts, w.before args s = true) (hin : ∀ w ∈ wsX80, w ∈ Ts) (hown : s.vm.findClass own = some m.cls) (hK : va_K D vwCl tys s) (hP : va_P D vwCl ws H) (hD : va_D A ws) (hS0 : va_S A H0 H locs) (q0 : Nat) {fs : List Value} (he : ws[q0]? = some (a, .inr (9, fs))) (hlink : (Cond.fieldLink own index "HushWatchModel" "sites" "I").before args s = true) {v : Value} (hn : narrow .int v = v) (hfit : fits .int v = true) (hl : 19 < fs.length)
    (hdg : decode cc pc = .ok (.putfield index, 3)) (kk : ∀ (H1 : Heap) (locs1 : List Loc), va_P D vwCl (ws.set q0 (a, .inr (9, fs.set 19 v))) H1 → va_D A (ws.set q0 (a, .inr (9, fs.set 19 v))) → va_S A H0 H1 locs1 → W p l e R s m args below meth c H1 locs1 cells slots Q (F0 m (pc + 3) ls rest)) : W p l e R s m args below meth c H locs cells slots Q (F0 m pc ls (v :: .ref a :: rest)) :=
  va_put (D := D) (ci := 9) (ty := .int) (C := RX8) (T := TX8) (N := 36) hexec hb hts hin tyX8 tyX8_ok nmX8 hown hK hP hD hS0 q0 he rfl 19 (by decide) hlink (fun _ h9 => h9) rfl (by decide +kernel) hn hfit hl hdg kk
theorem gt_X8_20 (hexec : p.tables.exec = Jvm.exec) (hb : c.code = cc) {own : String} {index : Nat} {Ts : List Cond} (hts : ∀ w ∈ Ts, w.before args s = true) (hin : ∀ w ∈ wsX80, w ∈ Ts) (hown : s.vm.findClass own = some m.cls) (hK : va_K D vwCl tys s) (hP : va_P D vwCl ws H) (q0 : Nat) {fs : List Value} (he : ws[q0]? = some (a, .inr (9, fs))) (hlink : (Cond.fieldLink own index "HushWatchModel" "shareX" "[I").before args s = true) {v : Value} (hv : fs[20]? = some v) (hdg : decode cc pc = .ok (.getfield index, 3))
    (kk : W p l e R s m args below meth c H locs cells slots Q (F0 m (pc + 3) ls (v :: rest))) : W p l e R s m args below meth c H locs cells slots Q (F0 m pc ls (.ref a :: rest)) :=
  va_get (D := D) (ci := 9) (C := RX8) (T := TX8) (N := 36) hexec hb hts hin hown hK hP q0 he rfl 20 (by decide) hlink (fun _ h9 => h9) hv hdg kk
theorem gt_X8_21 (hexec : p.tables.exec = Jvm.exec) (hb : c.code = cc) {own : String} {index : Nat} {Ts : List Cond} (hts : ∀ w ∈ Ts, w.before args s = true) (hin : ∀ w ∈ wsX80, w ∈ Ts) (hown : s.vm.findClass own = some m.cls) (hK : va_K D vwCl tys s) (hP : va_P D vwCl ws H) (q0 : Nat) {fs : List Value} (he : ws[q0]? = some (a, .inr (9, fs))) (hlink : (Cond.fieldLink own index "HushWatchModel" "shareY" "[I").before args s = true) {v : Value} (hv : fs[21]? = some v) (hdg : decode cc pc = .ok (.getfield index, 3))
    (kk : W p l e R s m args below meth c H locs cells slots Q (F0 m (pc + 3) ls (v :: rest))) : W p l e R s m args below meth c H locs cells slots Q (F0 m pc ls (.ref a :: rest)) :=
  va_get (D := D) (ci := 9) (C := RX8) (T := TX8) (N := 36) hexec hb hts hin hown hK hP q0 he rfl 21 (by decide) hlink (fun _ h9 => h9) hv hdg kk
theorem gt_X8_22 (hexec : p.tables.exec = Jvm.exec) (hb : c.code = cc) {own : String} {index : Nat} {Ts : List Cond} (hts : ∀ w ∈ Ts, w.before args s = true) (hin : ∀ w ∈ wsX80, w ∈ Ts) (hown : s.vm.findClass own = some m.cls) (hK : va_K D vwCl tys s) (hP : va_P D vwCl ws H) (q0 : Nat) {fs : List Value} (he : ws[q0]? = some (a, .inr (9, fs))) (hlink : (Cond.fieldLink own index "HushWatchModel" "asked" "I").before args s = true) {v : Value} (hv : fs[22]? = some v) (hdg : decode cc pc = .ok (.getfield index, 3))
    (kk : W p l e R s m args below meth c H locs cells slots Q (F0 m (pc + 3) ls (v :: rest))) : W p l e R s m args below meth c H locs cells slots Q (F0 m pc ls (.ref a :: rest)) :=
  va_get (D := D) (ci := 9) (C := RX8) (T := TX8) (N := 36) hexec hb hts hin hown hK hP q0 he rfl 22 (by decide) hlink (fun _ h9 => h9) hv hdg kk
theorem pt_X8_22 (hexec : p.tables.exec = Jvm.exec) (hb : c.code = cc) {own : String} {index : Nat} {Ts : List Cond} (hts : ∀ w ∈ Ts, w.before args s = true) (hin : ∀ w ∈ wsX80, w ∈ Ts) (hown : s.vm.findClass own = some m.cls) (hK : va_K D vwCl tys s) (hP : va_P D vwCl ws H) (hD : va_D A ws) (hS0 : va_S A H0 H locs) (q0 : Nat) {fs : List Value} (he : ws[q0]? = some (a, .inr (9, fs))) (hlink : (Cond.fieldLink own index "HushWatchModel" "asked" "I").before args s = true) {v : Value} (hn : narrow .int v = v) (hfit : fits .int v = true) (hl : 22 < fs.length)
    (hdg : decode cc pc = .ok (.putfield index, 3)) (kk : ∀ (H1 : Heap) (locs1 : List Loc), va_P D vwCl (ws.set q0 (a, .inr (9, fs.set 22 v))) H1 → va_D A (ws.set q0 (a, .inr (9, fs.set 22 v))) → va_S A H0 H1 locs1 → W p l e R s m args below meth c H1 locs1 cells slots Q (F0 m (pc + 3) ls rest)) : W p l e R s m args below meth c H locs cells slots Q (F0 m pc ls (v :: .ref a :: rest)) :=
  va_put (D := D) (ci := 9) (ty := .int) (C := RX8) (T := TX8) (N := 36) hexec hb hts hin tyX8 tyX8_ok nmX8 hown hK hP hD hS0 q0 he rfl 22 (by decide) hlink (fun _ h9 => h9) rfl (by decide +kernel) hn hfit hl hdg kk
theorem gt_X8_23 (hexec : p.tables.exec = Jvm.exec) (hb : c.code = cc) {own : String} {index : Nat} {Ts : List Cond} (hts : ∀ w ∈ Ts, w.before args s = true) (hin : ∀ w ∈ wsX80, w ∈ Ts) (hown : s.vm.findClass own = some m.cls) (hK : va_K D vwCl tys s) (hP : va_P D vwCl ws H) (q0 : Nat) {fs : List Value} (he : ws[q0]? = some (a, .inr (9, fs))) (hlink : (Cond.fieldLink own index "HushWatchModel" "outcome" "I").before args s = true) {v : Value} (hv : fs[23]? = some v) (hdg : decode cc pc = .ok (.getfield index, 3))
    (kk : W p l e R s m args below meth c H locs cells slots Q (F0 m (pc + 3) ls (v :: rest))) : W p l e R s m args below meth c H locs cells slots Q (F0 m pc ls (.ref a :: rest)) :=
  va_get (D := D) (ci := 9) (C := RX8) (T := TX8) (N := 36) hexec hb hts hin hown hK hP q0 he rfl 23 (by decide) hlink (fun _ h9 => h9) hv hdg kk
theorem pt_X8_23 (hexec : p.tables.exec = Jvm.exec) (hb : c.code = cc) {own : String} {index : Nat} {Ts : List Cond} (hts : ∀ w ∈ Ts, w.before args s = true) (hin : ∀ w ∈ wsX80, w ∈ Ts) (hown : s.vm.findClass own = some m.cls) (hK : va_K D vwCl tys s) (hP : va_P D vwCl ws H) (hD : va_D A ws) (hS0 : va_S A H0 H locs) (q0 : Nat) {fs : List Value} (he : ws[q0]? = some (a, .inr (9, fs))) (hlink : (Cond.fieldLink own index "HushWatchModel" "outcome" "I").before args s = true) {v : Value} (hn : narrow .int v = v) (hfit : fits .int v = true) (hl : 23 < fs.length)
    (hdg : decode cc pc = .ok (.putfield index, 3)) (kk : ∀ (H1 : Heap) (locs1 : List Loc), va_P D vwCl (ws.set q0 (a, .inr (9, fs.set 23 v))) H1 → va_D A (ws.set q0 (a, .inr (9, fs.set 23 v))) → va_S A H0 H1 locs1 → W p l e R s m args below meth c H1 locs1 cells slots Q (F0 m (pc + 3) ls rest)) : W p l e R s m args below meth c H locs cells slots Q (F0 m pc ls (v :: .ref a :: rest)) :=
  va_put (D := D) (ci := 9) (ty := .int) (C := RX8) (T := TX8) (N := 36) hexec hb hts hin tyX8 tyX8_ok nmX8 hown hK hP hD hS0 q0 he rfl 23 (by decide) hlink (fun _ h9 => h9) rfl (by decide +kernel) hn hfit hl hdg kk
theorem gt_X8_24 (hexec : p.tables.exec = Jvm.exec) (hb : c.code = cc) {own : String} {index : Nat} {Ts : List Cond} (hts : ∀ w ∈ Ts, w.before args s = true) (hin : ∀ w ∈ wsX80, w ∈ Ts) (hown : s.vm.findClass own = some m.cls) (hK : va_K D vwCl tys s) (hP : va_P D vwCl ws H) (q0 : Nat) {fs : List Value} (he : ws[q0]? = some (a, .inr (9, fs))) (hlink : (Cond.fieldLink own index "HushWatchModel" "askedRow" "[I").before args s = true) {v : Value} (hv : fs[24]? = some v) (hdg : decode cc pc = .ok (.getfield index, 3))
    (kk : W p l e R s m args below meth c H locs cells slots Q (F0 m (pc + 3) ls (v :: rest))) : W p l e R s m args below meth c H locs cells slots Q (F0 m pc ls (.ref a :: rest)) :=
  va_get (D := D) (ci := 9) (C := RX8) (T := TX8) (N := 36) hexec hb hts hin hown hK hP q0 he rfl 24 (by decide) hlink (fun _ h9 => h9) hv hdg kk
theorem gt_X8_25 (hexec : p.tables.exec = Jvm.exec) (hb : c.code = cc) {own : String} {index : Nat} {Ts : List Cond} (hts : ∀ w ∈ Ts, w.before args s = true) (hin : ∀ w ∈ wsX80, w ∈ Ts) (hown : s.vm.findClass own = some m.cls) (hK : va_K D vwCl tys s) (hP : va_P D vwCl ws H) (q0 : Nat) {fs : List Value} (he : ws[q0]? = some (a, .inr (9, fs))) (hlink : (Cond.fieldLink own index "HushWatchModel" "took" "I").before args s = true) {v : Value} (hv : fs[25]? = some v) (hdg : decode cc pc = .ok (.getfield index, 3))
    (kk : W p l e R s m args below meth c H locs cells slots Q (F0 m (pc + 3) ls (v :: rest))) : W p l e R s m args below meth c H locs cells slots Q (F0 m pc ls (.ref a :: rest)) :=
  va_get (D := D) (ci := 9) (C := RX8) (T := TX8) (N := 36) hexec hb hts hin hown hK hP q0 he rfl 25 (by decide) hlink (fun _ h9 => h9) hv hdg kk
theorem pt_X8_25 (hexec : p.tables.exec = Jvm.exec) (hb : c.code = cc) {own : String} {index : Nat} {Ts : List Cond} (hts : ∀ w ∈ Ts, w.before args s = true) (hin : ∀ w ∈ wsX80, w ∈ Ts) (hown : s.vm.findClass own = some m.cls) (hK : va_K D vwCl tys s) (hP : va_P D vwCl ws H) (hD : va_D A ws) (hS0 : va_S A H0 H locs) (q0 : Nat) {fs : List Value} (he : ws[q0]? = some (a, .inr (9, fs))) (hlink : (Cond.fieldLink own index "HushWatchModel" "took" "I").before args s = true) {v : Value} (hn : narrow .int v = v) (hfit : fits .int v = true) (hl : 25 < fs.length)
    (hdg : decode cc pc = .ok (.putfield index, 3)) (kk : ∀ (H1 : Heap) (locs1 : List Loc), va_P D vwCl (ws.set q0 (a, .inr (9, fs.set 25 v))) H1 → va_D A (ws.set q0 (a, .inr (9, fs.set 25 v))) → va_S A H0 H1 locs1 → W p l e R s m args below meth c H1 locs1 cells slots Q (F0 m (pc + 3) ls rest)) : W p l e R s m args below meth c H locs cells slots Q (F0 m pc ls (v :: .ref a :: rest)) :=
  va_put (D := D) (ci := 9) (ty := .int) (C := RX8) (T := TX8) (N := 36) hexec hb hts hin tyX8 tyX8_ok nmX8 hown hK hP hD hS0 q0 he rfl 25 (by decide) hlink (fun _ h9 => h9) rfl (by decide +kernel) hn hfit hl hdg kk
theorem gt_X8_26 (hexec : p.tables.exec = Jvm.exec) (hb : c.code = cc) {own : String} {index : Nat} {Ts : List Cond} (hts : ∀ w ∈ Ts, w.before args s = true) (hin : ∀ w ∈ wsX80, w ∈ Ts) (hown : s.vm.findClass own = some m.cls) (hK : va_K D vwCl tys s) (hP : va_P D vwCl ws H) (q0 : Nat) {fs : List Value} (he : ws[q0]? = some (a, .inr (9, fs))) (hlink : (Cond.fieldLink own index "HushWatchModel" "kept" "[I").before args s = true) {v : Value} (hv : fs[26]? = some v) (hdg : decode cc pc = .ok (.getfield index, 3))
    (kk : W p l e R s m args below meth c H locs cells slots Q (F0 m (pc + 3) ls (v :: rest))) : W p l e R s m args below meth c H locs cells slots Q (F0 m pc ls (.ref a :: rest)) :=
  va_get (D := D) (ci := 9) (C := RX8) (T := TX8) (N := 36) hexec hb hts hin hown hK hP q0 he rfl 26 (by decide) hlink (fun _ h9 => h9) hv hdg kk
theorem gt_X8_27 (hexec : p.tables.exec = Jvm.exec) (hb : c.code = cc) {own : String} {index : Nat} {Ts : List Cond} (hts : ∀ w ∈ Ts, w.before args s = true) (hin : ∀ w ∈ wsX80, w ∈ Ts) (hown : s.vm.findClass own = some m.cls) (hK : va_K D vwCl tys s) (hP : va_P D vwCl ws H) (q0 : Nat) {fs : List Value} (he : ws[q0]? = some (a, .inr (9, fs))) (hlink : (Cond.fieldLink own index "HushWatchModel" "acts" "I").before args s = true) {v : Value} (hv : fs[27]? = some v) (hdg : decode cc pc = .ok (.getfield index, 3))
    (kk : W p l e R s m args below meth c H locs cells slots Q (F0 m (pc + 3) ls (v :: rest))) : W p l e R s m args below meth c H locs cells slots Q (F0 m pc ls (.ref a :: rest)) :=
  va_get (D := D) (ci := 9) (C := RX8) (T := TX8) (N := 36) hexec hb hts hin hown hK hP q0 he rfl 27 (by decide) hlink (fun _ h9 => h9) hv hdg kk
theorem pt_X8_27 (hexec : p.tables.exec = Jvm.exec) (hb : c.code = cc) {own : String} {index : Nat} {Ts : List Cond} (hts : ∀ w ∈ Ts, w.before args s = true) (hin : ∀ w ∈ wsX80, w ∈ Ts) (hown : s.vm.findClass own = some m.cls) (hK : va_K D vwCl tys s) (hP : va_P D vwCl ws H) (hD : va_D A ws) (hS0 : va_S A H0 H locs) (q0 : Nat) {fs : List Value} (he : ws[q0]? = some (a, .inr (9, fs))) (hlink : (Cond.fieldLink own index "HushWatchModel" "acts" "I").before args s = true) {v : Value} (hn : narrow .int v = v) (hfit : fits .int v = true) (hl : 27 < fs.length)
    (hdg : decode cc pc = .ok (.putfield index, 3)) (kk : ∀ (H1 : Heap) (locs1 : List Loc), va_P D vwCl (ws.set q0 (a, .inr (9, fs.set 27 v))) H1 → va_D A (ws.set q0 (a, .inr (9, fs.set 27 v))) → va_S A H0 H1 locs1 → W p l e R s m args below meth c H1 locs1 cells slots Q (F0 m (pc + 3) ls rest)) : W p l e R s m args below meth c H locs cells slots Q (F0 m pc ls (v :: .ref a :: rest)) :=
  va_put (D := D) (ci := 9) (ty := .int) (C := RX8) (T := TX8) (N := 36) hexec hb hts hin tyX8 tyX8_ok nmX8 hown hK hP hD hS0 q0 he rfl 27 (by decide) hlink (fun _ h9 => h9) rfl (by decide +kernel) hn hfit hl hdg kk
theorem gt_X8_28 (hexec : p.tables.exec = Jvm.exec) (hb : c.code = cc) {own : String} {index : Nat} {Ts : List Cond} (hts : ∀ w ∈ Ts, w.before args s = true) (hin : ∀ w ∈ wsX80, w ∈ Ts) (hown : s.vm.findClass own = some m.cls) (hK : va_K D vwCl tys s) (hP : va_P D vwCl ws H) (q0 : Nat) {fs : List Value} (he : ws[q0]? = some (a, .inr (9, fs))) (hlink : (Cond.fieldLink own index "HushWatchModel" "drawn" "J").before args s = true) {v : Value} (hv : fs[28]? = some v) (hdg : decode cc pc = .ok (.getfield index, 3))
    (kk : W p l e R s m args below meth c H locs cells slots Q (F0 m (pc + 3) ls (v :: rest))) : W p l e R s m args below meth c H locs cells slots Q (F0 m pc ls (.ref a :: rest)) :=
  va_get (D := D) (ci := 9) (C := RX8) (T := TX8) (N := 36) hexec hb hts hin hown hK hP q0 he rfl 28 (by decide) hlink (fun _ h9 => h9) hv hdg kk
theorem pt_X8_28 (hexec : p.tables.exec = Jvm.exec) (hb : c.code = cc) {own : String} {index : Nat} {Ts : List Cond} (hts : ∀ w ∈ Ts, w.before args s = true) (hin : ∀ w ∈ wsX80, w ∈ Ts) (hown : s.vm.findClass own = some m.cls) (hK : va_K D vwCl tys s) (hP : va_P D vwCl ws H) (hD : va_D A ws) (hS0 : va_S A H0 H locs) (q0 : Nat) {fs : List Value} (he : ws[q0]? = some (a, .inr (9, fs))) (hlink : (Cond.fieldLink own index "HushWatchModel" "drawn" "J").before args s = true) {v : Value} (hn : narrow .long v = v) (hfit : fits .long v = true) (hl : 28 < fs.length)
    (hdg : decode cc pc = .ok (.putfield index, 3)) (kk : ∀ (H1 : Heap) (locs1 : List Loc), va_P D vwCl (ws.set q0 (a, .inr (9, fs.set 28 v))) H1 → va_D A (ws.set q0 (a, .inr (9, fs.set 28 v))) → va_S A H0 H1 locs1 → W p l e R s m args below meth c H1 locs1 cells slots Q (F0 m (pc + 3) ls rest)) : W p l e R s m args below meth c H locs cells slots Q (F0 m pc ls (v :: .ref a :: rest)) :=
  va_put (D := D) (ci := 9) (ty := .long) (C := RX8) (T := TX8) (N := 36) hexec hb hts hin tyX8 tyX8_ok nmX8 hown hK hP hD hS0 q0 he rfl 28 (by decide) hlink (fun _ h9 => h9) rfl (by decide +kernel) hn hfit hl hdg kk
theorem gt_X8_29 (hexec : p.tables.exec = Jvm.exec) (hb : c.code = cc) {own : String} {index : Nat} {Ts : List Cond} (hts : ∀ w ∈ Ts, w.before args s = true) (hin : ∀ w ∈ wsX80, w ∈ Ts) (hown : s.vm.findClass own = some m.cls) (hK : va_K D vwCl tys s) (hP : va_P D vwCl ws H) (q0 : Nat) {fs : List Value} (he : ws[q0]? = some (a, .inr (9, fs))) (hlink : (Cond.fieldLink own index "HushWatchModel" "aside" "[I").before args s = true) {v : Value} (hv : fs[29]? = some v) (hdg : decode cc pc = .ok (.getfield index, 3))
    (kk : W p l e R s m args below meth c H locs cells slots Q (F0 m (pc + 3) ls (v :: rest))) : W p l e R s m args below meth c H locs cells slots Q (F0 m pc ls (.ref a :: rest)) :=
  va_get (D := D) (ci := 9) (C := RX8) (T := TX8) (N := 36) hexec hb hts hin hown hK hP q0 he rfl 29 (by decide) hlink (fun _ h9 => h9) hv hdg kk
theorem gt_X8_30 (hexec : p.tables.exec = Jvm.exec) (hb : c.code = cc) {own : String} {index : Nat} {Ts : List Cond} (hts : ∀ w ∈ Ts, w.before args s = true) (hin : ∀ w ∈ wsX80, w ∈ Ts) (hown : s.vm.findClass own = some m.cls) (hK : va_K D vwCl tys s) (hP : va_P D vwCl ws H) (q0 : Nat) {fs : List Value} (he : ws[q0]? = some (a, .inr (9, fs))) (hlink : (Cond.fieldLink own index "HushWatchModel" "racer" "I").before args s = true) {v : Value} (hv : fs[30]? = some v) (hdg : decode cc pc = .ok (.getfield index, 3))
    (kk : W p l e R s m args below meth c H locs cells slots Q (F0 m (pc + 3) ls (v :: rest))) : W p l e R s m args below meth c H locs cells slots Q (F0 m pc ls (.ref a :: rest)) :=
  va_get (D := D) (ci := 9) (C := RX8) (T := TX8) (N := 36) hexec hb hts hin hown hK hP q0 he rfl 30 (by decide) hlink (fun _ h9 => h9) hv hdg kk
theorem pt_X8_30 (hexec : p.tables.exec = Jvm.exec) (hb : c.code = cc) {own : String} {index : Nat} {Ts : List Cond} (hts : ∀ w ∈ Ts, w.before args s = true) (hin : ∀ w ∈ wsX80, w ∈ Ts) (hown : s.vm.findClass own = some m.cls) (hK : va_K D vwCl tys s) (hP : va_P D vwCl ws H) (hD : va_D A ws) (hS0 : va_S A H0 H locs) (q0 : Nat) {fs : List Value} (he : ws[q0]? = some (a, .inr (9, fs))) (hlink : (Cond.fieldLink own index "HushWatchModel" "racer" "I").before args s = true) {v : Value} (hn : narrow .int v = v) (hfit : fits .int v = true) (hl : 30 < fs.length)
    (hdg : decode cc pc = .ok (.putfield index, 3)) (kk : ∀ (H1 : Heap) (locs1 : List Loc), va_P D vwCl (ws.set q0 (a, .inr (9, fs.set 30 v))) H1 → va_D A (ws.set q0 (a, .inr (9, fs.set 30 v))) → va_S A H0 H1 locs1 → W p l e R s m args below meth c H1 locs1 cells slots Q (F0 m (pc + 3) ls rest)) : W p l e R s m args below meth c H locs cells slots Q (F0 m pc ls (v :: .ref a :: rest)) :=
  va_put (D := D) (ci := 9) (ty := .int) (C := RX8) (T := TX8) (N := 36) hexec hb hts hin tyX8 tyX8_ok nmX8 hown hK hP hD hS0 q0 he rfl 30 (by decide) hlink (fun _ h9 => h9) rfl (by decide +kernel) hn hfit hl hdg kk
theorem gt_X8_31 (hexec : p.tables.exec = Jvm.exec) (hb : c.code = cc) {own : String} {index : Nat} {Ts : List Cond} (hts : ∀ w ∈ Ts, w.before args s = true) (hin : ∀ w ∈ wsX80, w ∈ Ts) (hown : s.vm.findClass own = some m.cls) (hK : va_K D vwCl tys s) (hP : va_P D vwCl ws H) (q0 : Nat) {fs : List Value} (he : ws[q0]? = some (a, .inr (9, fs))) (hlink : (Cond.fieldLink own index "HushWatchModel" "raced" "I").before args s = true) {v : Value} (hv : fs[31]? = some v) (hdg : decode cc pc = .ok (.getfield index, 3))
    (kk : W p l e R s m args below meth c H locs cells slots Q (F0 m (pc + 3) ls (v :: rest))) : W p l e R s m args below meth c H locs cells slots Q (F0 m pc ls (.ref a :: rest)) :=
  va_get (D := D) (ci := 9) (C := RX8) (T := TX8) (N := 36) hexec hb hts hin hown hK hP q0 he rfl 31 (by decide) hlink (fun _ h9 => h9) hv hdg kk
theorem pt_X8_31 (hexec : p.tables.exec = Jvm.exec) (hb : c.code = cc) {own : String} {index : Nat} {Ts : List Cond} (hts : ∀ w ∈ Ts, w.before args s = true) (hin : ∀ w ∈ wsX80, w ∈ Ts) (hown : s.vm.findClass own = some m.cls) (hK : va_K D vwCl tys s) (hP : va_P D vwCl ws H) (hD : va_D A ws) (hS0 : va_S A H0 H locs) (q0 : Nat) {fs : List Value} (he : ws[q0]? = some (a, .inr (9, fs))) (hlink : (Cond.fieldLink own index "HushWatchModel" "raced" "I").before args s = true) {v : Value} (hn : narrow .int v = v) (hfit : fits .int v = true) (hl : 31 < fs.length)
    (hdg : decode cc pc = .ok (.putfield index, 3)) (kk : ∀ (H1 : Heap) (locs1 : List Loc), va_P D vwCl (ws.set q0 (a, .inr (9, fs.set 31 v))) H1 → va_D A (ws.set q0 (a, .inr (9, fs.set 31 v))) → va_S A H0 H1 locs1 → W p l e R s m args below meth c H1 locs1 cells slots Q (F0 m (pc + 3) ls rest)) : W p l e R s m args below meth c H locs cells slots Q (F0 m pc ls (v :: .ref a :: rest)) :=
  va_put (D := D) (ci := 9) (ty := .int) (C := RX8) (T := TX8) (N := 36) hexec hb hts hin tyX8 tyX8_ok nmX8 hown hK hP hD hS0 q0 he rfl 31 (by decide) hlink (fun _ h9 => h9) rfl (by decide +kernel) hn hfit hl hdg kk
theorem gt_X8_32 (hexec : p.tables.exec = Jvm.exec) (hb : c.code = cc) {own : String} {index : Nat} {Ts : List Cond} (hts : ∀ w ∈ Ts, w.before args s = true) (hin : ∀ w ∈ wsX80, w ∈ Ts) (hown : s.vm.findClass own = some m.cls) (hK : va_K D vwCl tys s) (hP : va_P D vwCl ws H) (q0 : Nat) {fs : List Value} (he : ws[q0]? = some (a, .inr (9, fs))) (hlink : (Cond.fieldLink own index "HushWatchModel" "spelled" "[I").before args s = true) {v : Value} (hv : fs[32]? = some v) (hdg : decode cc pc = .ok (.getfield index, 3))
    (kk : W p l e R s m args below meth c H locs cells slots Q (F0 m (pc + 3) ls (v :: rest))) : W p l e R s m args below meth c H locs cells slots Q (F0 m pc ls (.ref a :: rest)) :=
  va_get (D := D) (ci := 9) (C := RX8) (T := TX8) (N := 36) hexec hb hts hin hown hK hP q0 he rfl 32 (by decide) hlink (fun _ h9 => h9) hv hdg kk
theorem gt_X8_33 (hexec : p.tables.exec = Jvm.exec) (hb : c.code = cc) {own : String} {index : Nat} {Ts : List Cond} (hts : ∀ w ∈ Ts, w.before args s = true) (hin : ∀ w ∈ wsX80, w ∈ Ts) (hown : s.vm.findClass own = some m.cls) (hK : va_K D vwCl tys s) (hP : va_P D vwCl ws H) (q0 : Nat) {fs : List Value} (he : ws[q0]? = some (a, .inr (9, fs))) (hlink : (Cond.fieldLink own index "HushWatchModel" "spelledMany" "I").before args s = true) {v : Value} (hv : fs[33]? = some v) (hdg : decode cc pc = .ok (.getfield index, 3))
    (kk : W p l e R s m args below meth c H locs cells slots Q (F0 m (pc + 3) ls (v :: rest))) : W p l e R s m args below meth c H locs cells slots Q (F0 m pc ls (.ref a :: rest)) :=
  va_get (D := D) (ci := 9) (C := RX8) (T := TX8) (N := 36) hexec hb hts hin hown hK hP q0 he rfl 33 (by decide) hlink (fun _ h9 => h9) hv hdg kk
theorem pt_X8_33 (hexec : p.tables.exec = Jvm.exec) (hb : c.code = cc) {own : String} {index : Nat} {Ts : List Cond} (hts : ∀ w ∈ Ts, w.before args s = true) (hin : ∀ w ∈ wsX80, w ∈ Ts) (hown : s.vm.findClass own = some m.cls) (hK : va_K D vwCl tys s) (hP : va_P D vwCl ws H) (hD : va_D A ws) (hS0 : va_S A H0 H locs) (q0 : Nat) {fs : List Value} (he : ws[q0]? = some (a, .inr (9, fs))) (hlink : (Cond.fieldLink own index "HushWatchModel" "spelledMany" "I").before args s = true) {v : Value} (hn : narrow .int v = v) (hfit : fits .int v = true) (hl : 33 < fs.length)
    (hdg : decode cc pc = .ok (.putfield index, 3)) (kk : ∀ (H1 : Heap) (locs1 : List Loc), va_P D vwCl (ws.set q0 (a, .inr (9, fs.set 33 v))) H1 → va_D A (ws.set q0 (a, .inr (9, fs.set 33 v))) → va_S A H0 H1 locs1 → W p l e R s m args below meth c H1 locs1 cells slots Q (F0 m (pc + 3) ls rest)) : W p l e R s m args below meth c H locs cells slots Q (F0 m pc ls (v :: .ref a :: rest)) :=
  va_put (D := D) (ci := 9) (ty := .int) (C := RX8) (T := TX8) (N := 36) hexec hb hts hin tyX8 tyX8_ok nmX8 hown hK hP hD hS0 q0 he rfl 33 (by decide) hlink (fun _ h9 => h9) rfl (by decide +kernel) hn hfit hl hdg kk
theorem gt_X8_34 (hexec : p.tables.exec = Jvm.exec) (hb : c.code = cc) {own : String} {index : Nat} {Ts : List Cond} (hts : ∀ w ∈ Ts, w.before args s = true) (hin : ∀ w ∈ wsX80, w ∈ Ts) (hown : s.vm.findClass own = some m.cls) (hK : va_K D vwCl tys s) (hP : va_P D vwCl ws H) (q0 : Nat) {fs : List Value} (he : ws[q0]? = some (a, .inr (9, fs))) (hlink : (Cond.fieldLink own index "HushWatchModel" "image" "[I").before args s = true) {v : Value} (hv : fs[34]? = some v) (hdg : decode cc pc = .ok (.getfield index, 3))
    (kk : W p l e R s m args below meth c H locs cells slots Q (F0 m (pc + 3) ls (v :: rest))) : W p l e R s m args below meth c H locs cells slots Q (F0 m pc ls (.ref a :: rest)) :=
  va_get (D := D) (ci := 9) (C := RX8) (T := TX8) (N := 36) hexec hb hts hin hown hK hP q0 he rfl 34 (by decide) hlink (fun _ h9 => h9) hv hdg kk
theorem gt_X8_35 (hexec : p.tables.exec = Jvm.exec) (hb : c.code = cc) {own : String} {index : Nat} {Ts : List Cond} (hts : ∀ w ∈ Ts, w.before args s = true) (hin : ∀ w ∈ wsX80, w ∈ Ts) (hown : s.vm.findClass own = some m.cls) (hK : va_K D vwCl tys s) (hP : va_P D vwCl ws H) (q0 : Nat) {fs : List Value} (he : ws[q0]? = some (a, .inr (9, fs))) (hlink : (Cond.fieldLink own index "HushWatchModel" "hasImage" "Z").before args s = true) {v : Value} (hv : fs[35]? = some v) (hdg : decode cc pc = .ok (.getfield index, 3))
    (kk : W p l e R s m args below meth c H locs cells slots Q (F0 m (pc + 3) ls (v :: rest))) : W p l e R s m args below meth c H locs cells slots Q (F0 m pc ls (.ref a :: rest)) :=
  va_get (D := D) (ci := 9) (C := RX8) (T := TX8) (N := 36) hexec hb hts hin hown hK hP q0 he rfl 35 (by decide) hlink (fun _ h9 => h9) hv hdg kk
theorem pt_X8_35 (hexec : p.tables.exec = Jvm.exec) (hb : c.code = cc) {own : String} {index : Nat} {Ts : List Cond} (hts : ∀ w ∈ Ts, w.before args s = true) (hin : ∀ w ∈ wsX80, w ∈ Ts) (hown : s.vm.findClass own = some m.cls) (hK : va_K D vwCl tys s) (hP : va_P D vwCl ws H) (hD : va_D A ws) (hS0 : va_S A H0 H locs) (q0 : Nat) {fs : List Value} (he : ws[q0]? = some (a, .inr (9, fs))) (hlink : (Cond.fieldLink own index "HushWatchModel" "hasImage" "Z").before args s = true) {v : Value} (hn : narrow .boolean v = v) (hfit : fits .boolean v = true) (hl : 35 < fs.length)
    (hdg : decode cc pc = .ok (.putfield index, 3)) (kk : ∀ (H1 : Heap) (locs1 : List Loc), va_P D vwCl (ws.set q0 (a, .inr (9, fs.set 35 v))) H1 → va_D A (ws.set q0 (a, .inr (9, fs.set 35 v))) → va_S A H0 H1 locs1 → W p l e R s m args below meth c H1 locs1 cells slots Q (F0 m (pc + 3) ls rest)) : W p l e R s m args below meth c H locs cells slots Q (F0 m pc ls (v :: .ref a :: rest)) :=
  va_put (D := D) (ci := 9) (ty := .boolean) (C := RX8) (T := TX8) (N := 36) hexec hb hts hin tyX8 tyX8_ok nmX8 hown hK hP hD hS0 q0 he rfl 35 (by decide) hlink (fun _ h9 => h9) rfl (by decide +kernel) hn hfit hl hdg kk
theorem gt_J4_0 (hexec : p.tables.exec = Jvm.exec) (hb : c.code = cc) {own : String} {index : Nat} {Ts : List Cond} (hts : ∀ w ∈ Ts, w.before args s = true) (hin : ∀ w ∈ wsJ40, w ∈ Ts) (hown : s.vm.findClass own = some m.cls) (hK : va_K D vwCl tys s) (hP : va_P D vwCl ws H) (q0 : Nat) {fs : List Value} (he : ws[q0]? = some (a, .inr (0, fs))) (hlink : (Cond.fieldLink own index "java/lang/AbstractStringBuilder" "value" "[B").before args s = true) {v : Value} (hv : fs[0]? = some v) (hdg : decode cc pc = .ok (.getfield index, 3))
    (kk : W p l e R s m args below meth c H locs cells slots Q (F0 m (pc + 3) ls (v :: rest))) : W p l e R s m args below meth c H locs cells slots Q (F0 m pc ls (.ref a :: rest)) :=
  va_get (D := D) (ci := 0) (C := RJ4) (T := TJ4) (N := 4) hexec hb hts hin hown hK hP q0 he rfl 0 (by decide) hlink (fun _ h9 => h9) hv hdg kk
theorem gt_J4_1 (hexec : p.tables.exec = Jvm.exec) (hb : c.code = cc) {own : String} {index : Nat} {Ts : List Cond} (hts : ∀ w ∈ Ts, w.before args s = true) (hin : ∀ w ∈ wsJ40, w ∈ Ts) (hown : s.vm.findClass own = some m.cls) (hK : va_K D vwCl tys s) (hP : va_P D vwCl ws H) (q0 : Nat) {fs : List Value} (he : ws[q0]? = some (a, .inr (0, fs))) (hlink : (Cond.fieldLink own index "java/lang/AbstractStringBuilder" "coder" "B").before args s = true) {v : Value} (hv : fs[1]? = some v) (hdg : decode cc pc = .ok (.getfield index, 3))
    (kk : W p l e R s m args below meth c H locs cells slots Q (F0 m (pc + 3) ls (v :: rest))) : W p l e R s m args below meth c H locs cells slots Q (F0 m pc ls (.ref a :: rest)) :=
  va_get (D := D) (ci := 0) (C := RJ4) (T := TJ4) (N := 4) hexec hb hts hin hown hK hP q0 he rfl 1 (by decide) hlink (fun _ h9 => h9) hv hdg kk
theorem gt_J4_2 (hexec : p.tables.exec = Jvm.exec) (hb : c.code = cc) {own : String} {index : Nat} {Ts : List Cond} (hts : ∀ w ∈ Ts, w.before args s = true) (hin : ∀ w ∈ wsJ40, w ∈ Ts) (hown : s.vm.findClass own = some m.cls) (hK : va_K D vwCl tys s) (hP : va_P D vwCl ws H) (q0 : Nat) {fs : List Value} (he : ws[q0]? = some (a, .inr (0, fs))) (hlink : (Cond.fieldLink own index "java/lang/AbstractStringBuilder" "maybeLatin1" "Z").before args s = true) {v : Value} (hv : fs[2]? = some v) (hdg : decode cc pc = .ok (.getfield index, 3))
    (kk : W p l e R s m args below meth c H locs cells slots Q (F0 m (pc + 3) ls (v :: rest))) : W p l e R s m args below meth c H locs cells slots Q (F0 m pc ls (.ref a :: rest)) :=
  va_get (D := D) (ci := 0) (C := RJ4) (T := TJ4) (N := 4) hexec hb hts hin hown hK hP q0 he rfl 2 (by decide) hlink (fun _ h9 => h9) hv hdg kk
theorem pt_J4_2 (hexec : p.tables.exec = Jvm.exec) (hb : c.code = cc) {own : String} {index : Nat} {Ts : List Cond} (hts : ∀ w ∈ Ts, w.before args s = true) (hin : ∀ w ∈ wsJ40, w ∈ Ts) (hown : s.vm.findClass own = some m.cls) (hK : va_K D vwCl tys s) (hP : va_P D vwCl ws H) (hD : va_D A ws) (hS0 : va_S A H0 H locs) (q0 : Nat) {fs : List Value} (he : ws[q0]? = some (a, .inr (0, fs))) (hlink : (Cond.fieldLink own index "java/lang/AbstractStringBuilder" "maybeLatin1" "Z").before args s = true) {v : Value} (hn : narrow .boolean v = v) (hfit : fits .boolean v = true) (hl : 2 < fs.length)
    (hdg : decode cc pc = .ok (.putfield index, 3)) (kk : ∀ (H1 : Heap) (locs1 : List Loc), va_P D vwCl (ws.set q0 (a, .inr (0, fs.set 2 v))) H1 → va_D A (ws.set q0 (a, .inr (0, fs.set 2 v))) → va_S A H0 H1 locs1 → W p l e R s m args below meth c H1 locs1 cells slots Q (F0 m (pc + 3) ls rest)) : W p l e R s m args below meth c H locs cells slots Q (F0 m pc ls (v :: .ref a :: rest)) :=
  va_put (D := D) (ci := 0) (ty := .boolean) (C := RJ4) (T := TJ4) (N := 4) hexec hb hts hin tyJ4 tyJ4_ok nmJ4 hown hK hP hD hS0 q0 he rfl 2 (by decide) hlink (fun _ h9 => h9) rfl (by decide +kernel) hn hfit hl hdg kk
theorem gt_J4_3 (hexec : p.tables.exec = Jvm.exec) (hb : c.code = cc) {own : String} {index : Nat} {Ts : List Cond} (hts : ∀ w ∈ Ts, w.before args s = true) (hin : ∀ w ∈ wsJ40, w ∈ Ts) (hown : s.vm.findClass own = some m.cls) (hK : va_K D vwCl tys s) (hP : va_P D vwCl ws H) (q0 : Nat) {fs : List Value} (he : ws[q0]? = some (a, .inr (0, fs))) (hlink : (Cond.fieldLink own index "java/lang/AbstractStringBuilder" "count" "I").before args s = true) {v : Value} (hv : fs[3]? = some v) (hdg : decode cc pc = .ok (.getfield index, 3))
    (kk : W p l e R s m args below meth c H locs cells slots Q (F0 m (pc + 3) ls (v :: rest))) : W p l e R s m args below meth c H locs cells slots Q (F0 m pc ls (.ref a :: rest)) :=
  va_get (D := D) (ci := 0) (C := RJ4) (T := TJ4) (N := 4) hexec hb hts hin hown hK hP q0 he rfl 3 (by decide) hlink (fun _ h9 => h9) hv hdg kk
theorem pt_J4_3 (hexec : p.tables.exec = Jvm.exec) (hb : c.code = cc) {own : String} {index : Nat} {Ts : List Cond} (hts : ∀ w ∈ Ts, w.before args s = true) (hin : ∀ w ∈ wsJ40, w ∈ Ts) (hown : s.vm.findClass own = some m.cls) (hK : va_K D vwCl tys s) (hP : va_P D vwCl ws H) (hD : va_D A ws) (hS0 : va_S A H0 H locs) (q0 : Nat) {fs : List Value} (he : ws[q0]? = some (a, .inr (0, fs))) (hlink : (Cond.fieldLink own index "java/lang/AbstractStringBuilder" "count" "I").before args s = true) {v : Value} (hn : narrow .int v = v) (hfit : fits .int v = true) (hl : 3 < fs.length)
    (hdg : decode cc pc = .ok (.putfield index, 3)) (kk : ∀ (H1 : Heap) (locs1 : List Loc), va_P D vwCl (ws.set q0 (a, .inr (0, fs.set 3 v))) H1 → va_D A (ws.set q0 (a, .inr (0, fs.set 3 v))) → va_S A H0 H1 locs1 → W p l e R s m args below meth c H1 locs1 cells slots Q (F0 m (pc + 3) ls rest)) : W p l e R s m args below meth c H locs cells slots Q (F0 m pc ls (v :: .ref a :: rest)) :=
  va_put (D := D) (ci := 0) (ty := .int) (C := RJ4) (T := TJ4) (N := 4) hexec hb hts hin tyJ4 tyJ4_ok nmJ4 hown hK hP hD hS0 q0 he rfl 3 (by decide) hlink (fun _ h9 => h9) rfl (by decide +kernel) hn hfit hl hdg kk
end GTS
end
-- 12.zz
section

def strR : List (String × Nat × String) := [("HushWatch$Reader", 74, "site"), ("HushWatch$Reader", 100, "law"), ("HushWatch$Reader", 102, "bound"), ("HushWatch$Reader", 104, "goal"), ("HushWatch$Reader", 132, "sum"), ("HushWatch$Reader", 134, "square"), ("HushWatch$Reader", 136, "most"), ("HushWatch$Reader", 138, "taxi"), ("HushWatch$Reader", 121, "move"), ("HushWatch$Reader", 123, "add"), ("HushWatch$Reader", 125, "sync"), ("HushWatch$Reader", 127, "freeze"), ("HushWatch", 268, "site "), ("HushWatch", 277, " at "), ("HushWatch", 125, "no such site, or nothing such to tell of it")]
def strL : List Nat := [4, 3, 5, 4, 3, 6, 4, 4, 4, 3, 4, 6, 5, 4, 43]
def strB : List (List Int32) := [[115, 105, 116, 101], [108, 97, 119], [98, 111, 117, 110, 100], [103, 111, 97, 108], [115, 117, 109], [115, 113, 117, 97, 114, 101], [109, 111, 115, 116], [116, 97, 120, 105], [109, 111, 118, 101], [97, 100, 100], [115, 121, 110, 99], [102, 114, 101, 101, 122, 101], [115, 105, 116, 101, 32], [32, 97, 116, 32], [110, 111, 32, 115, 117, 99, 104, 32, 115, 105, 116, 101, 44, 32, 111, 114, 32, 110, 111, 116, 104, 105, 110, 103, 32, 115, 117, 99, 104, 32, 116, 111, 32, 116, 101, 108, 108, 32, 111, 102, 32, 105, 116]]
def nosF (j : Nat) : Int32 := ([3, 2, 1, 1, 0, 1, 1] : List Int32).getD j 0
def sosF (j : Nat) : Int32 := ([0, 4, 2, 3, 1, 5, 6] : List Int32).getD j 0
def onesF (j : Nat) : Int32 := ([48, 49, 50, 51, 52, 53, 54, 55, 56, 57, 48, 49, 50, 51, 52, 53, 54, 55, 56, 57, 48, 49, 50, 51, 52, 53, 54, 55, 56, 57, 48, 49, 50, 51, 52, 53, 54, 55, 56, 57, 48, 49, 50, 51, 52, 53, 54, 55, 56, 57, 48, 49, 50, 51, 52, 53, 54, 55, 56, 57, 48, 49, 50, 51, 52, 53, 54, 55, 56, 57, 48, 49, 50, 51, 52, 53, 54, 55, 56, 57, 48, 49, 50, 51, 52, 53, 54, 55, 56, 57, 48, 49, 50, 51, 52, 53, 54, 55, 56, 57] : List Int32).getD j 0
def tensF (j : Nat) : Int32 := ([48, 48, 48, 48, 48, 48, 48, 48, 48, 48, 49, 49, 49, 49, 49, 49, 49, 49, 49, 49, 50, 50, 50, 50, 50, 50, 50, 50, 50, 50, 51, 51, 51, 51, 51, 51, 51, 51, 51, 51, 52, 52, 52, 52, 52, 52, 52, 52, 52, 52, 53, 53, 53, 53, 53, 53, 53, 53, 53, 53, 54, 54, 54, 54, 54, 54, 54, 54, 54, 54, 55, 55, 55, 55, 55, 55, 55, 55, 55, 55, 56, 56, 56, 56, 56, 56, 56, 56, 56, 56, 57, 57, 57, 57, 57, 57, 57, 57, 57, 57] : List Int32).getD j 0
def ZC (z : Nat → Nat) (A : Nat → Prop) (U : State) (H : Heap) : Prop := va_Z RX7 "NUMBERS_OF_STEP" "[I" (.ref (z 0)) A U H ∧ va_T .int (z 0) 7 (fun j => .int (nosF j)) A U H ∧ va_Z RX7 "SORT_OF_STEP" "[I" (.ref (z 1)) A U H ∧ va_T .int (z 1) 7 (fun j => .int (sosF j)) A U H
def ZJ (z : Nat → Nat) (A : Nat → Prop) (U : State) (H : Heap) : Prop := va_Z "java/lang/String" "COMPACT_STRINGS" "Z" (.int 1) A U H ∧ va_Z "java/lang/Integer" "DigitOnes" "[B" (.ref (z 2)) A U H ∧ va_T .byte (z 2) 100 (fun j => .int (onesF j)) A U H ∧ va_Z "java/lang/Integer" "DigitTens" "[B" (.ref (z 3)) A U H ∧ va_T .byte (z 3) 100 (fun j => .int (tensF j)) A U H ∧ va_Zq "jdk/internal/util/Preconditions" "SIOOBE_FORMATTER" "Ljava/util/function/BiFunction;" A U H
def ZR (z : Nat → Nat) (U : State) : Prop := ∀ (i : Nat) (q : String × Nat × String), strR[i]? = some q → vk_R q.1 q.2.1 q.2.2 (z (20 + i)) U
/-- all that is read and never written: statics, string constants -/
def ZZ (z : Nat → Nat) (A : Nat → Prop) (U : State) (H : Heap) : Prop := ZM A U H ∧ ZC z A U H ∧ ZJ z A U H ∧ vk_S 15 strL strB (fun i => z (20 + i)) (fun i => z (40 + i)) A U H ∧ ZR z U
theorem zq_map {C n d : String} {A B : Nat → Prop} {u U : State} {H H1 : Heap} (hk : ∀ v : Value, va_Z C n d v A u H → va_Z C n d v B U H1) (h : va_Zq C n d A u H) : va_Zq C n d B U H1 := by
  rcases h with h | ⟨t, h⟩
  · exact Or.inl (hk _ h)
  · exact Or.inr ⟨t, hk _ h⟩
theorem ZZ.call {z : Nat → Nat} {A A1 : Nat → Prop} {s U : State} {H : Heap} {locs : List Loc} (h : ZZ z A s s.heap) (hS : va_S A s.heap H locs) (hF : ∀ q, A1 q → A q) (hU : U.heap = H) (hW : s.WarmedH U.vm) : ZZ z A1 U U.heap := by
  obtain ⟨h0, ⟨c1, c2, c3, c4⟩, ⟨j1, j2, j3, j4, j5, j6⟩, hs, hr⟩ := h
  refine ⟨h0.call hS hF hU hW, ?_, ?_, ?_, fun i q e => vk_R.warm hW (hr i q e)⟩
  · rw [hU]
    exact ⟨((c1.kept hS.2.1).narrow hF).moved hW.alike, ((c2.kept hS.2.1).narrow hF).moved hW.alike, ((c3.kept hS.2.1).narrow hF).moved hW.alike, ((c4.kept hS.2.1).narrow hF).moved hW.alike⟩
  · rw [hU]
    exact ⟨((j1.kept hS.2.1).narrow hF).moved hW.alike, ((j2.kept hS.2.1).narrow hF).moved hW.alike, ((j3.kept hS.2.1).narrow hF).moved hW.alike, ((j4.kept hS.2.1).narrow hF).moved hW.alike, ((j5.kept hS.2.1).narrow hF).moved hW.alike, zq_map (fun v q => ((q.kept hS.2.1).narrow hF).moved hW.alike) j6⟩
  · rw [hU]
    exact ((hs.kept hS.2.1).narrow hF).moved hW.alike
theorem ZZ.calling {z : Nat → Nat} {A : Nat → Prop} {U : State} {g : JFrame} {mk : MethodId} {a : Array Value} (h : ZZ z A U U.heap) : ZZ z A (U.calling g mk a) (U.calling g mk a).heap := by
  obtain ⟨h0, ⟨c1, c2, c3, c4⟩, ⟨j1, j2, j3, j4, j5, j6⟩, hs, hr⟩ := h
  exact ⟨h0.calling, ⟨c1.moved (Vm.Alike.refl U.vm), c2.moved (Vm.Alike.refl U.vm), c3.moved (Vm.Alike.refl U.vm), c4.moved (Vm.Alike.refl U.vm)⟩, ⟨j1.moved (Vm.Alike.refl U.vm), j2.moved (Vm.Alike.refl U.vm), j3.moved (Vm.Alike.refl U.vm), j4.moved (Vm.Alike.refl U.vm), j5.moved (Vm.Alike.refl U.vm), zq_map (fun v q => q.moved (Vm.Alike.refl U.vm)) j6⟩, hs.moved (Vm.Alike.refl U.vm), fun i q e => vk_R.same (u := U) rfl (hr i q e)⟩
def qPZ (E : EE) (z : Nat → Nat) (W : va_W) (U : State) : Prop := kw E U ∧ va_P E.1 vwCl W U.heap ∧ ZZ z (fun _ => False) U U.heap
def qWZ (E : EE) (z : Nat → Nat) (sz : Nat) (W : va_W) (U : State) : Prop := U.heap.size = sz ∧ kw E U ∧ va_P E.1 vwCl W U.heap ∧ va_D (fun _ => True) W ∧ ZZ z (va_A W sz) U U.heap
theorem qPZ.blind {E : EE} {z : Nat → Nat} {W : va_W} {av : List Value} : FrameBlind (va_Pc av (qPZ E z W)) := fun _ _ _ _ q => ⟨q.1, q.2.1.calling, q.2.2.1, q.2.2.2.calling⟩
theorem qWZ.blind {E : EE} {z : Nat → Nat} {sz : Nat} {W : va_W} {av : List Value} : FrameBlind (va_Pc av (qWZ E z sz W)) := fun _ _ _ _ q => ⟨q.1, q.2.1, q.2.2.1.calling, q.2.2.2.1, q.2.2.2.2.1, q.2.2.2.2.2.calling⟩
theorem qPZ.pre {E : EE} {z : Nat → Nat} {W : va_W} {av : List Value} {s : State} {H : Heap} {A : Nat → Prop} {locs : List Loc} (hk : kw E s) (hP : va_P E.1 vwCl W H) (hZ : ZZ z A s s.heap) (hS : va_S A s.heap H locs) : ∀ U : State, U.heap = H → s.WarmedH U.vm → va_Pc av (qPZ E z W) av.toArray U := fun U hU hW => ⟨rfl, hk.warm hW, by rw [hU]; exact hP, hZ.call hS (fun _ h => h.elim) hU hW⟩
theorem qPZ.pre0 {E : EE} {z : Nat → Nat} {W : va_W} {av : List Value} {s : State} (hk : kw E s) (hP : va_P E.1 vwCl W s.heap) (hZ : ZZ z (fun _ => False) s s.heap) : ∀ U : State, U.heap = s.heap → s.WarmedH U.vm → va_Pc av (qPZ E z W) av.toArray U := fun U hU hW => ⟨rfl, hk.warm hW, by rw [hU]; exact hP, hZ.call (va_S.rf) (fun _ h => h.elim) hU hW⟩
theorem qWZ.pre {E : EE} {z : Nat → Nat} {W : va_W} {av : List Value} {s : State} {H : Heap} {A : Nat → Prop} {locs : List Loc} (hk : kw E s) (hP : va_P E.1 vwCl W H) (hD : va_D A W) (hZ : ZZ z A s s.heap) (hS : va_S A s.heap H locs) (hF : ∀ q, va_A W H.size q → A q) : ∀ U : State, U.heap = H → s.WarmedH U.vm → va_Pc av (qWZ E z H.size W) av.toArray U := fun U hU hW => ⟨rfl, by rw [hU], hk.warm hW, by rw [hU]; exact hP, hD.weaken (fun _ _ _ _ => trivial), hZ.call hS hF hU hW⟩
theorem nar_c (x : Int32) : narrow .char (.int ((x.toUInt32 % 65536).toInt32)) = .int ((x.toUInt32 % 65536).toInt32) := by
  show Value.int ((x.toUInt32 % 65536).toInt32.toUInt32.toUInt16.toUInt32.toInt32) = Value.int ((x.toUInt32 % 65536).toInt32)
  have h : (x.toUInt32 % 65536).toInt32.toUInt32.toUInt16.toUInt32 = x.toUInt32 % 65536 := by
    have e : (x.toUInt32 % 65536).toInt32.toUInt32 = x.toUInt32 % 65536 := rfl
    rw [e]
    refine UInt32.toNat_inj.mp ?_
    rw [UInt16.toNat_toUInt32, UInt32.toNat_toUInt16, UInt32.toNat_mod, show (65536 : UInt32).toNat = 65536 from rfl]
    omega
  rw [h]
theorem ZZ.s0 {z : Nat → Nat} {A : Nat → Prop} {U : State} {H : Heap} (h : ZZ z A U H) : vk_R RX3 74 "site" (z (20 + 0)) U := h.2.2.2.2 0 (RX3, 74, "site") rfl
theorem ZZ.s1 {z : Nat → Nat} {A : Nat → Prop} {U : State} {H : Heap} (h : ZZ z A U H) : vk_R RX3 100 "law" (z (20 + 1)) U := h.2.2.2.2 1 (RX3, 100, "law") rfl
theorem ZZ.s2 {z : Nat → Nat} {A : Nat → Prop} {U : State} {H : Heap} (h : ZZ z A U H) : vk_R RX3 102 "bound" (z (20 + 2)) U := h.2.2.2.2 2 (RX3, 102, "bound") rfl
theorem ZZ.s3 {z : Nat → Nat} {A : Nat → Prop} {U : State} {H : Heap} (h : ZZ z A U H) : vk_R RX3 104 "goal" (z (20 + 3)) U := h.2.2.2.2 3 (RX3, 104, "goal") rfl
theorem ZZ.s4 {z : Nat → Nat} {A : Nat → Prop} {U : State} {H : Heap} (h : ZZ z A U H) : vk_R RX3 132 "sum" (z (20 + 4)) U := h.2.2.2.2 4 (RX3, 132, "sum") rfl
theorem ZZ.s5 {z : Nat → Nat} {A : Nat → Prop} {U : State} {H : Heap} (h : ZZ z A U H) : vk_R RX3 134 "square" (z (20 + 5)) U := h.2.2.2.2 5 (RX3, 134, "square") rfl
theorem ZZ.s6 {z : Nat → Nat} {A : Nat → Prop} {U : State} {H : Heap} (h : ZZ z A U H) : vk_R RX3 136 "most" (z (20 + 6)) U := h.2.2.2.2 6 (RX3, 136, "most") rfl
theorem ZZ.s7 {z : Nat → Nat} {A : Nat → Prop} {U : State} {H : Heap} (h : ZZ z A U H) : vk_R RX3 138 "taxi" (z (20 + 7)) U := h.2.2.2.2 7 (RX3, 138, "taxi") rfl
theorem ZZ.s8 {z : Nat → Nat} {A : Nat → Prop} {U : State} {H : Heap} (h : ZZ z A U H) : vk_R RX3 121 "move" (z (20 + 8)) U := h.2.2.2.2 8 (RX3, 121, "move") rfl
theorem ZZ.s9 {z : Nat → Nat} {A : Nat → Prop} {U : State} {H : Heap} (h : ZZ z A U H) : vk_R RX3 123 "add" (z (20 + 9)) U := h.2.2.2.2 9 (RX3, 123, "add") rfl
theorem ZZ.s10 {z : Nat → Nat} {A : Nat → Prop} {U : State} {H : Heap} (h : ZZ z A U H) : vk_R RX3 125 "sync" (z (20 + 10)) U := h.2.2.2.2 10 (RX3, 125, "sync") rfl
theorem ZZ.s11 {z : Nat → Nat} {A : Nat → Prop} {U : State} {H : Heap} (h : ZZ z A U H) : vk_R RX3 127 "freeze" (z (20 + 11)) U := h.2.2.2.2 11 (RX3, 127, "freeze") rfl
theorem ZZ.s12 {z : Nat → Nat} {A : Nat → Prop} {U : State} {H : Heap} (h : ZZ z A U H) : vk_R RX7 268 "site " (z (20 + 12)) U := h.2.2.2.2 12 (RX7, 268, "site ") rfl
theorem ZZ.s13 {z : Nat → Nat} {A : Nat → Prop} {U : State} {H : Heap} (h : ZZ z A U H) : vk_R RX7 277 " at " (z (20 + 13)) U := h.2.2.2.2 13 (RX7, 277, " at ") rfl
theorem ZZ.s14 {z : Nat → Nat} {A : Nat → Prop} {U : State} {H : Heap} (h : ZZ z A U H) : vk_R RX7 125 "no such site, or nothing such to tell of it" (z (20 + 14)) U := h.2.2.2.2 14 (RX7, 125, "no such site, or nothing such to tell of it") rfl
end
-- 13.jd
section
noncomputable def blJ3_checkIndex_8e157_0 : List Nat := [26, 155, 0, 8, 26, 27, 161, 0, 10, 44, 26, 27, 184, 0, 95, 191, 26, 172]
set_option maxRecDepth 100000 in
theorem bcJ3_checkIndex_8e157_0 : ((cJ3_checkIndex_8e157.data.toList.drop 0).take blJ3_checkIndex_8e157_0.length).map UInt8.toNat = blJ3_checkIndex_8e157_0 := by decide +kernel
noncomputable def blJ6_bitCount_0f7a4_0 : List Nat := [26, 26, 4, 124, 19, 1, 9, 126, 100, 59, 26, 19, 1, 10, 126, 26, 5, 124, 19, 1, 10, 126, 96, 59, 26, 26, 7, 124, 96, 19, 1, 11, 126, 59, 26, 26, 16, 8, 124, 96, 59, 26, 26, 16, 16, 124, 96, 59, 26, 16, 63]
set_option maxRecDepth 100000 in
theorem bcJ6_bitCount_0f7a4_0 : ((cJ6_bitCount_0f7a4.data.toList.drop 0).take blJ6_bitCount_0f7a4_0.length).map UInt8.toNat = blJ6_bitCount_0f7a4_0 := by decide +kernel
noncomputable def blJ6_bitCount_0f7a4_1 : List Nat := [26, 16, 63, 126, 172]
set_option maxRecDepth 100000 in
theorem bcJ6_bitCount_0f7a4_1 : ((cJ6_bitCount_0f7a4.data.toList.drop 48).take blJ6_bitCount_0f7a4_1.length).map UInt8.toNat = blJ6_bitCount_0f7a4_1 := by decide +kernel
noncomputable def blJ9_floorDiv_7cf53_0 : List Nat := [26, 27, 108, 61, 26, 27, 130, 156, 0, 14, 28, 27, 104, 26, 159, 0, 7, 28, 4, 100, 172, 28, 172]
set_option maxRecDepth 100000 in
theorem bcJ9_floorDiv_7cf53_0 : ((cJ9_floorDiv_7cf53.data.toList.drop 0).take blJ9_floorDiv_7cf53_0.length).map UInt8.toNat = blJ9_floorDiv_7cf53_0 := by decide +kernel
noncomputable def blJ9_floorMod_7cf53_0 : List Nat := [26, 27, 112, 61, 26, 27, 130, 156, 0, 11, 28, 153, 0, 7, 28, 27, 96, 172, 28, 172]
set_option maxRecDepth 100000 in
theorem bcJ9_floorMod_7cf53_0 : ((cJ9_floorMod_7cf53.data.toList.drop 0).take blJ9_floorMod_7cf53_0.length).map UInt8.toNat = blJ9_floorMod_7cf53_0 := by decide +kernel
noncomputable def blJ0_checkIndex_df160_0 : List Nat := [26, 27, 178, 4, 29, 184, 4, 35, 87, 177]
set_option maxRecDepth 100000 in
theorem bcJ0_checkIndex_df160_0 : ((cJ0_checkIndex_df160.data.toList.drop 0).take blJ0_checkIndex_df160_0.length).map UInt8.toNat = blJ0_checkIndex_df160_0 := by decide +kernel
noncomputable def blJ1_charAt_3b067_0 : List Nat := [27, 42, 190, 184, 0, 9, 42, 27, 51, 17, 0, 255, 126, 146, 172]
set_option maxRecDepth 100000 in
theorem bcJ1_charAt_3b067_0 : ((cJ1_charAt_3b067.data.toList.drop 0).take blJ1_charAt_3b067_0.length).map UInt8.toNat = blJ1_charAt_3b067_0 := by decide +kernel
noncomputable def blJ0_coder_7d493_0 : List Nat := [178, 0, 38, 153, 0, 10, 42, 180, 0, 15, 167, 0, 4, 4, 172]
set_option maxRecDepth 100000 in
theorem bcJ0_coder_7d493_0 : ((cJ0_coder_7d493.data.toList.drop 0).take blJ0_coder_7d493_0.length).map UInt8.toNat = blJ0_coder_7d493_0 := by decide +kernel
noncomputable def blJ0_length_8abf5_0 : List Nat := [42, 180, 0, 9, 190, 42, 182, 1, 79, 122, 172]
set_option maxRecDepth 100000 in
theorem bcJ0_length_8abf5_0 : ((cJ0_length_8abf5.data.toList.drop 0).take blJ0_length_8abf5_0.length).map UInt8.toNat = blJ0_length_8abf5_0 := by decide +kernel
noncomputable def blJ0_isLatin1_aae02_0 : List Nat := [178, 0, 38, 153, 0, 14, 42, 180, 0, 15, 154, 0, 7, 4, 167, 0, 4, 3, 172]
set_option maxRecDepth 100000 in
theorem bcJ0_isLatin1_aae02_0 : ((cJ0_isLatin1_aae02.data.toList.drop 0).take blJ0_isLatin1_aae02_0.length).map UInt8.toNat = blJ0_isLatin1_aae02_0 := by decide +kernel
noncomputable def blJ0_charAt_5068e_0 : List Nat := [42, 182, 1, 236, 153, 0, 12, 42, 180, 0, 9, 27, 184, 1, 239, 172, 42, 180, 0, 9, 27, 184, 1, 242, 172]
set_option maxRecDepth 100000 in
theorem bcJ0_charAt_5068e_0 : ((cJ0_charAt_5068e.data.toList.drop 0).take blJ0_charAt_5068e_0.length).map UInt8.toNat = blJ0_charAt_5068e_0 := by decide +kernel

def F_J3_checkIndex_8e157 (p0 : Int32) (p1 : Int32) : Option (Int32) :=
  if p0 < (0 : Int32) then none else if p0 < p1 then some p0 else none

def v_f_J3_checkIndex_8e157 : List Cond := List.cons (.code yJ3_checkIndex_8e157 cJ3_checkIndex_8e157 3 (some .int)) (HAppend.hAppend (α := List Cond) (β := List Cond) (γ := List Cond) [] [])
theorem gw_f_J3_checkIndex_8e157 : v_f_J3_checkIndex_8e157.all goodWord = true := gw_c2 (by decide +kernel) gw_nil
theorem hd_J3_checkIndex_8e157 : yJ3_checkIndex_8e157.cls = RJ3 ∧ yJ3_checkIndex_8e157.cls ≠ "java/lang/invoke/MethodHandle" ∧ yJ3_checkIndex_8e157.cls ≠ "java/lang/invoke/VarHandle" ∧ (parseMethodDescriptor yJ3_checkIndex_8e157.desc).map (fun d => d.parameters.length) = some 3 := by decide +kernel
set_option maxHeartbeats 4000000 in
set_option maxRecDepth 100000 in
theorem f_J3_checkIndex_8e157 (l : Launch) (E : EE) {p2 : Nat} {p0 : Int32} {p1 : Int32} {rr : Int32} (hF : F_J3_checkIndex_8e157 p0 p1 = some rr) : Met l yJ3_checkIndex_8e157 v_f_J3_checkIndex_8e157 (({ frames := 0, cells := 0, slots := 0, locals := 0 } : Room)) (va_Pc [.int p0, .int p1, .ref p2] (pP E [])) (vp_Si (fun q : Int32 => q = rr)) 0 0 (fun _ => False) := by
  refine Met.ofWF (cc := cJ3_checkIndex_8e157) (maxL := 3) (ret := (some .int)) (by decide +kernel) rfl ?_
  intro p e s m args below meth c s₁ B hml hv
  obtain ⟨rfl, ⟨hK, hN⟩, hP⟩ := hv
  have hx := B.exec
  have hb := B.bytes
  have hr := B.returns
  have hts := atoms_spec (ws := v_f_J3_checkIndex_8e157) B.pre
  have hown : s.vm.findClass RJ3 = some m.cls := own_of hd_J3_checkIndex_8e157.1 (findClass_of_methodNamed B.named)
  have hlocks : meth.locks = false := B.notSynchronized
  replace hP : va_P E.1 vwCl [] s.heap := hP
  have hl := lv_entry ([.int p0, .int p1, .ref p2]) (n := 3) (Nat.le_of_ble_eq_true rfl)
  rw [lg_entry_eq]
  generalize (lg_sl ([.int p0, .int p1, .ref p2]) ++ List.replicate (3 - (lg_sl ([.int p0, .int p1, .ref p2])).length) Slot.unset).toArray = ls at hl ⊢
  have hl : lv_has ls 3 [(0, .int p0), (1, .int p1), (2, .ref p2)] := hl
  obtain ⟨Q, hQ⟩ : ∃ Q : State → Prop, Q = MQ below (vp_Si (fun q : Int32 => q = rr)) #[Value.int p0, Value.int p1, Value.ref p2] s 0 0 (fun _ => False) := ⟨_, rfl⟩
  rw [← hQ]
  change W p l e ({ frames := 0, cells := 0, slots := 0, locals := 0 } : Room) s m #[Value.int p0, Value.int p1, Value.ref p2] below meth c s.heap [] 0 0 Q (F0 m 0 ls [])
  unfold F_J3_checkIndex_8e157 at hF
  refine lv_iload_n hx hb (dq_26 0 bcJ3_checkIndex_8e157_0 (j := 0) rfl rfl) rfl (lv_at hl 0 rfl) ?_
  refine lv_if_lt (tgt := 9) hx hb (dq_155 0 bcJ3_checkIndex_8e157_0 (j := 1) (i := 8) rfl rfl rfl) (by decide) (fun c_1 => ?_) (fun c_1 => ?_)
  ·
    replace hF := ip c_1 hF
    cases hF
  ·
    replace hF := inn c_1 hF
    refine lv_iload_n hx hb (dq_26 0 bcJ3_checkIndex_8e157_0 (j := 4) rfl rfl) rfl (lv_at hl 0 rfl) ?_
    refine lv_iload_n hx hb (dq_27 0 bcJ3_checkIndex_8e157_0 (j := 5) rfl rfl) rfl (lv_at hl 1 rfl) ?_
    refine lv_icmp_lt (tgt := 16) hx hb (dq_161 0 bcJ3_checkIndex_8e157_0 (j := 6) (i := 10) rfl rfl rfl) (by decide) (fun c_2 => ?_) (fun c_2 => ?_)
    ·
      replace hF := ip c_2 hF
      refine lv_iload_n hx hb (dq_26 0 bcJ3_checkIndex_8e157_0 (j := 16) rfl rfl) rfl (lv_at hl 0 rfl) ?_
      rw [hQ]
      obtain e9_0 := inj1 hF
      exact W.iret (v := p0) hx hb hr (fun tt ht hW => ⟨_, rfl, e9_0, ht⟩) (fun _ h => by cases h) (dq_172 0 bcJ3_checkIndex_8e157_0 (j := 17) rfl rfl)
    ·
      replace hF := inn c_2 hF
      cases hF

def F_J3_checkIndex_8e157null (p0 : Int32) (p1 : Int32) : Option (Int32) :=
  if p0 < (0 : Int32) then none else if p0 < p1 then some p0 else none

def v_f_J3_checkIndex_8e157null : List Cond := List.cons (.code yJ3_checkIndex_8e157 cJ3_checkIndex_8e157 3 (some .int)) (HAppend.hAppend (α := List Cond) (β := List Cond) (γ := List Cond) [] [])
theorem gw_f_J3_checkIndex_8e157null : v_f_J3_checkIndex_8e157null.all goodWord = true := gw_c2 (by decide +kernel) gw_nil
set_option maxHeartbeats 4000000 in
set_option maxRecDepth 100000 in
theorem f_J3_checkIndex_8e157null (l : Launch) (E : EE) {p0 : Int32} {p1 : Int32} {rr : Int32} (hF : F_J3_checkIndex_8e157null p0 p1 = some rr) : Met l yJ3_checkIndex_8e157 v_f_J3_checkIndex_8e157null (({ frames := 0, cells := 0, slots := 0, locals := 0 } : Room)) (va_Pc [.int p0, .int p1, .null] (pP E [])) (vp_Si (fun q : Int32 => q = rr)) 0 0 (fun _ => False) := by
  refine Met.ofWF (cc := cJ3_checkIndex_8e157) (maxL := 3) (ret := (some .int)) (by decide +kernel) rfl ?_
  intro p e s m args below meth c s₁ B hml hv
  obtain ⟨rfl, ⟨hK, hN⟩, hP⟩ := hv
  have hx := B.exec
  have hb := B.bytes
  have hr := B.returns
  have hts := atoms_spec (ws := v_f_J3_checkIndex_8e157null) B.pre
  have hown : s.vm.findClass RJ3 = some m.cls := own_of hd_J3_checkIndex_8e157.1 (findClass_of_methodNamed B.named)
  have hlocks : meth.locks = false := B.notSynchronized
  replace hP : va_P E.1 vwCl [] s.heap := hP
  have hl := lv_entry ([.int p0, .int p1, .null]) (n := 3) (Nat.le_of_ble_eq_true rfl)
  rw [lg_entry_eq]
  generalize (lg_sl ([.int p0, .int p1, .null]) ++ List.replicate (3 - (lg_sl ([.int p0, .int p1, .null])).length) Slot.unset).toArray = ls at hl ⊢
  have hl : lv_has ls 3 [(0, .int p0), (1, .int p1), (2, .null)] := hl
  obtain ⟨Q, hQ⟩ : ∃ Q : State → Prop, Q = MQ below (vp_Si (fun q : Int32 => q = rr)) #[Value.int p0, Value.int p1, Value.null] s 0 0 (fun _ => False) := ⟨_, rfl⟩
  rw [← hQ]
  change W p l e ({ frames := 0, cells := 0, slots := 0, locals := 0 } : Room) s m #[Value.int p0, Value.int p1, Value.null] below meth c s.heap [] 0 0 Q (F0 m 0 ls [])
  unfold F_J3_checkIndex_8e157null at hF
  refine lv_iload_n hx hb (dq_26 0 bcJ3_checkIndex_8e157_0 (j := 0) rfl rfl) rfl (lv_at hl 0 rfl) ?_
  refine lv_if_lt (tgt := 9) hx hb (dq_155 0 bcJ3_checkIndex_8e157_0 (j := 1) (i := 8) rfl rfl rfl) (by decide) (fun c_1 => ?_) (fun c_1 => ?_)
  ·
    replace hF := ip c_1 hF
    cases hF
  ·
    replace hF := inn c_1 hF
    refine lv_iload_n hx hb (dq_26 0 bcJ3_checkIndex_8e157_0 (j := 4) rfl rfl) rfl (lv_at hl 0 rfl) ?_
    refine lv_iload_n hx hb (dq_27 0 bcJ3_checkIndex_8e157_0 (j := 5) rfl rfl) rfl (lv_at hl 1 rfl) ?_
    refine lv_icmp_lt (tgt := 16) hx hb (dq_161 0 bcJ3_checkIndex_8e157_0 (j := 6) (i := 10) rfl rfl rfl) (by decide) (fun c_2 => ?_) (fun c_2 => ?_)
    ·
      replace hF := ip c_2 hF
      refine lv_iload_n hx hb (dq_26 0 bcJ3_checkIndex_8e157_0 (j := 16) rfl rfl) rfl (lv_at hl 0 rfl) ?_
      rw [hQ]
      obtain e9_0 := inj1 hF
      exact W.iret (v := p0) hx hb hr (fun tt ht hW => ⟨_, rfl, e9_0, ht⟩) (fun _ h => by cases h) (dq_172 0 bcJ3_checkIndex_8e157_0 (j := 17) rfl rfl)
    ·
      replace hF := inn c_2 hF
      cases hF

def F_J6_bitCount_0f7a4 (p0 : Int32) : Option (Int32) :=
  some ((((((((p0 - ((ushrF p0 (1 : Int32)) &&& (1431655765 : Int32))) &&& (858993459 : Int32)) + ((ushrF (p0 - ((ushrF p0 (1 : Int32)) &&& (1431655765 : Int32))) (2 : Int32)) &&& (858993459 : Int32))) + (ushrF (((p0 - ((ushrF p0 (1 : Int32)) &&& (1431655765 : Int32))) &&& (858993459 : Int32)) + ((ushrF (p0 - ((ushrF p0 (1 : Int32)) &&& (1431655765 : Int32))) (2 : Int32)) &&& (858993459 : Int32))) (4 : Int32))) &&& (252645135 : Int32)) + (ushrF (((((p0 - ((ushrF p0 (1 : Int32)) &&& (1431655765 : Int32))) &&& (858993459 : Int32)) + ((ushrF (p0 - ((ushrF p0 (1 : Int32)) &&& (1431655765 : Int32))) (2 : Int32)) &&& (858993459 : Int32))) + (ushrF (((p0 - ((ushrF p0 (1 : Int32)) &&& (1431655765 : Int32))) &&& (858993459 : Int32)) + ((ushrF (p0 - ((ushrF p0 (1 : Int32)) &&& (1431655765 : Int32))) (2 : Int32)) &&& (858993459 : Int32))) (4 : Int32))) &&& (252645135 : Int32)) (8 : Int32))) + (ushrF ((((((p0 - ((ushrF p0 (1 : Int32)) &&& (1431655765 : Int32))) &&& (858993459 : Int32)) + ((ushrF (p0 - ((ushrF p0 (1 : Int32)) &&& (1431655765 : Int32))) (2 : Int32)) &&& (858993459 : Int32))) + (ushrF (((p0 - ((ushrF p0 (1 : Int32)) &&& (1431655765 : Int32))) &&& (858993459 : Int32)) + ((ushrF (p0 - ((ushrF p0 (1 : Int32)) &&& (1431655765 : Int32))) (2 : Int32)) &&& (858993459 : Int32))) (4 : Int32))) &&& (252645135 : Int32)) + (ushrF (((((p0 - ((ushrF p0 (1 : Int32)) &&& (1431655765 : Int32))) &&& (858993459 : Int32)) + ((ushrF (p0 - ((ushrF p0 (1 : Int32)) &&& (1431655765 : Int32))) (2 : Int32)) &&& (858993459 : Int32))) + (ushrF (((p0 - ((ushrF p0 (1 : Int32)) &&& (1431655765 : Int32))) &&& (858993459 : Int32)) + ((ushrF (p0 - ((ushrF p0 (1 : Int32)) &&& (1431655765 : Int32))) (2 : Int32)) &&& (858993459 : Int32))) (4 : Int32))) &&& (252645135 : Int32)) (8 : Int32))) (16 : Int32))) &&& (63 : Int32))

def v_f_J6_bitCount_0f7a4 : List Cond := List.cons (.code yJ6_bitCount_0f7a4 cJ6_bitCount_0f7a4 1 (some .int)) (HAppend.hAppend (α := List Cond) (β := List Cond) (γ := List Cond) [.constant RJ6 265 (1431655765), .constant RJ6 266 (858993459), .constant RJ6 267 (252645135)] [])
theorem gw_f_J6_bitCount_0f7a4 : v_f_J6_bitCount_0f7a4.all goodWord = true := gw_c2 (by decide +kernel) gw_nil
theorem hd_J6_bitCount_0f7a4 : yJ6_bitCount_0f7a4.cls = RJ6 ∧ yJ6_bitCount_0f7a4.cls ≠ "java/lang/invoke/MethodHandle" ∧ yJ6_bitCount_0f7a4.cls ≠ "java/lang/invoke/VarHandle" ∧ (parseMethodDescriptor yJ6_bitCount_0f7a4.desc).map (fun d => d.parameters.length) = some 1 := by decide +kernel
set_option maxHeartbeats 4000000 in
set_option maxRecDepth 100000 in
theorem f_J6_bitCount_0f7a4 (l : Launch) (E : EE) {p0 : Int32} {rr : Int32} (hF : F_J6_bitCount_0f7a4 p0 = some rr) : Met l yJ6_bitCount_0f7a4 v_f_J6_bitCount_0f7a4 (({ frames := 0, cells := 0, slots := 0, locals := 0 } : Room)) (va_Pc [.int p0] (pP E [])) (vp_Si (fun q : Int32 => q = rr)) 0 0 (fun _ => False) := by
  refine Met.ofWF (cc := cJ6_bitCount_0f7a4) (maxL := 1) (ret := (some .int)) (by decide +kernel) rfl ?_
  intro p e s m args below meth c s₁ B hml hv
  obtain ⟨rfl, ⟨hK, hN⟩, hP⟩ := hv
  have hx := B.exec
  have hb := B.bytes
  have hr := B.returns
  have hts := atoms_spec (ws := v_f_J6_bitCount_0f7a4) B.pre
  have hown : s.vm.findClass RJ6 = some m.cls := own_of hd_J6_bitCount_0f7a4.1 (findClass_of_methodNamed B.named)
  have hlocks : meth.locks = false := B.notSynchronized
  replace hP : va_P E.1 vwCl [] s.heap := hP
  have hl := lv_entry ([.int p0]) (n := 1) (Nat.le_of_ble_eq_true rfl)
  rw [lg_entry_eq]
  generalize (lg_sl ([.int p0]) ++ List.replicate (1 - (lg_sl ([.int p0])).length) Slot.unset).toArray = ls at hl ⊢
  have hl : lv_has ls 1 [(0, .int p0)] := hl
  obtain ⟨Q, hQ⟩ : ∃ Q : State → Prop, Q = MQ below (vp_Si (fun q : Int32 => q = rr)) #[Value.int p0] s 0 0 (fun _ => False) := ⟨_, rfl⟩
  rw [← hQ]
  change W p l e ({ frames := 0, cells := 0, slots := 0, locals := 0 } : Room) s m #[Value.int p0] below meth c s.heap [] 0 0 Q (F0 m 0 ls [])
  unfold F_J6_bitCount_0f7a4 at hF
  refine lv_iload_n hx hb (dq_26 0 bcJ6_bitCount_0f7a4_0 (j := 0) rfl rfl) rfl (lv_at hl 0 rfl) ?_
  refine lv_iload_n hx hb (dq_26 0 bcJ6_bitCount_0f7a4_0 (j := 1) rfl rfl) rfl (lv_at hl 0 rfl) ?_
  refine lv_iconst (v := 1) hx hb (dq_4 0 bcJ6_bitCount_0f7a4_0 (j := 2) rfl rfl) (by decide) ?_
  refine lv_iushr (v := (ushrF p0 (1 : Int32))) hx hb (dq_124 0 bcJ6_bitCount_0f7a4_0 (j := 3) rfl rfl) rfl ?_
  refine lv_ldcw (v := 1431655765) hx hb hown (hts (.constant RJ6 265 (1431655765)) (List.mem_of_getElem? (i := 1) rfl)) (dq_19 0 bcJ6_bitCount_0f7a4_0 (j := 4) (i := 265) rfl rfl rfl) ?_
  refine lv_iand hx hb (dq_126 0 bcJ6_bitCount_0f7a4_0 (j := 7) rfl rfl) ?_
  refine lv_isub hx hb (dq_100 0 bcJ6_bitCount_0f7a4_0 (j := 8) rfl rfl) ?_
  refine lv_istore_n (lv' := [(0, .int (p0 - ((ushrF p0 (1 : Int32)) &&& (1431655765 : Int32))))]) hx hb (dq_59 0 bcJ6_bitCount_0f7a4_0 (j := 9) rfl rfl) rfl hl (by decide) rfl (fun ls hl => ?_)
  refine lv_iload_n hx hb (dq_26 0 bcJ6_bitCount_0f7a4_0 (j := 10) rfl rfl) rfl (lv_at hl 0 rfl) ?_
  refine lv_ldcw (v := 858993459) hx hb hown (hts (.constant RJ6 266 (858993459)) (List.mem_of_getElem? (i := 2) rfl)) (dq_19 0 bcJ6_bitCount_0f7a4_0 (j := 11) (i := 266) rfl rfl rfl) ?_
  refine lv_iand hx hb (dq_126 0 bcJ6_bitCount_0f7a4_0 (j := 14) rfl rfl) ?_
  refine lv_iload_n hx hb (dq_26 0 bcJ6_bitCount_0f7a4_0 (j := 15) rfl rfl) rfl (lv_at hl 0 rfl) ?_
  refine lv_iconst (v := 2) hx hb (dq_5 0 bcJ6_bitCount_0f7a4_0 (j := 16) rfl rfl) (by decide) ?_
  refine lv_iushr (v := (ushrF (p0 - ((ushrF p0 (1 : Int32)) &&& (1431655765 : Int32))) (2 : Int32))) hx hb (dq_124 0 bcJ6_bitCount_0f7a4_0 (j := 17) rfl rfl) rfl ?_
  refine lv_ldcw (v := 858993459) hx hb hown (hts (.constant RJ6 266 (858993459)) (List.mem_of_getElem? (i := 2) rfl)) (dq_19 0 bcJ6_bitCount_0f7a4_0 (j := 18) (i := 266) rfl rfl rfl) ?_
  refine lv_iand hx hb (dq_126 0 bcJ6_bitCount_0f7a4_0 (j := 21) rfl rfl) ?_
  refine lv_iadd hx hb (dq_96 0 bcJ6_bitCount_0f7a4_0 (j := 22) rfl rfl) ?_
  refine lv_istore_n (lv' := [(0, .int (((p0 - ((ushrF p0 (1 : Int32)) &&& (1431655765 : Int32))) &&& (858993459 : Int32)) + ((ushrF (p0 - ((ushrF p0 (1 : Int32)) &&& (1431655765 : Int32))) (2 : Int32)) &&& (858993459 : Int32))))]) hx hb (dq_59 0 bcJ6_bitCount_0f7a4_0 (j := 23) rfl rfl) rfl hl (by decide) rfl (fun ls hl => ?_)
  refine lv_iload_n hx hb (dq_26 0 bcJ6_bitCount_0f7a4_0 (j := 24) rfl rfl) rfl (lv_at hl 0 rfl) ?_
  refine lv_iload_n hx hb (dq_26 0 bcJ6_bitCount_0f7a4_0 (j := 25) rfl rfl) rfl (lv_at hl 0 rfl) ?_
  refine lv_iconst (v := 4) hx hb (dq_7 0 bcJ6_bitCount_0f7a4_0 (j := 26) rfl rfl) (by decide) ?_
  refine lv_iushr (v := (ushrF (((p0 - ((ushrF p0 (1 : Int32)) &&& (1431655765 : Int32))) &&& (858993459 : Int32)) + ((ushrF (p0 - ((ushrF p0 (1 : Int32)) &&& (1431655765 : Int32))) (2 : Int32)) &&& (858993459 : Int32))) (4 : Int32))) hx hb (dq_124 0 bcJ6_bitCount_0f7a4_0 (j := 27) rfl rfl) rfl ?_
  refine lv_iadd hx hb (dq_96 0 bcJ6_bitCount_0f7a4_0 (j := 28) rfl rfl) ?_
  refine lv_ldcw (v := 252645135) hx hb hown (hts (.constant RJ6 267 (252645135)) (List.mem_of_getElem? (i := 3) rfl)) (dq_19 0 bcJ6_bitCount_0f7a4_0 (j := 29) (i := 267) rfl rfl rfl) ?_
  refine lv_iand hx hb (dq_126 0 bcJ6_bitCount_0f7a4_0 (j := 32) rfl rfl) ?_
  refine lv_istore_n (lv' := [(0, .int (((((p0 - ((ushrF p0 (1 : Int32)) &&& (1431655765 : Int32))) &&& (858993459 : Int32)) + ((ushrF (p0 - ((ushrF p0 (1 : Int32)) &&& (1431655765 : Int32))) (2 : Int32)) &&& (858993459 : Int32))) + (ushrF (((p0 - ((ushrF p0 (1 : Int32)) &&& (1431655765 : Int32))) &&& (858993459 : Int32)) + ((ushrF (p0 - ((ushrF p0 (1 : Int32)) &&& (1431655765 : Int32))) (2 : Int32)) &&& (858993459 : Int32))) (4 : Int32))) &&& (252645135 : Int32)))]) hx hb (dq_59 0 bcJ6_bitCount_0f7a4_0 (j := 33) rfl rfl) rfl hl (by decide) rfl (fun ls hl => ?_)
  refine lv_iload_n hx hb (dq_26 0 bcJ6_bitCount_0f7a4_0 (j := 34) rfl rfl) rfl (lv_at hl 0 rfl) ?_
  refine lv_iload_n hx hb (dq_26 0 bcJ6_bitCount_0f7a4_0 (j := 35) rfl rfl) rfl (lv_at hl 0 rfl) ?_
  refine lv_bipush (v := 8) hx hb (dq_16 0 bcJ6_bitCount_0f7a4_0 (j := 36) (i := 8) rfl rfl rfl) (by decide) ?_
  refine lv_iushr (v := (ushrF (((((p0 - ((ushrF p0 (1 : Int32)) &&& (1431655765 : Int32))) &&& (858993459 : Int32)) + ((ushrF (p0 - ((ushrF p0 (1 : Int32)) &&& (1431655765 : Int32))) (2 : Int32)) &&& (858993459 : Int32))) + (ushrF (((p0 - ((ushrF p0 (1 : Int32)) &&& (1431655765 : Int32))) &&& (858993459 : Int32)) + ((ushrF (p0 - ((ushrF p0 (1 : Int32)) &&& (1431655765 : Int32))) (2 : Int32)) &&& (858993459 : Int32))) (4 : Int32))) &&& (252645135 : Int32)) (8 : Int32))) hx hb (dq_124 0 bcJ6_bitCount_0f7a4_0 (j := 38) rfl rfl) rfl ?_
  refine lv_iadd hx hb (dq_96 0 bcJ6_bitCount_0f7a4_0 (j := 39) rfl rfl) ?_
  refine lv_istore_n (lv' := [(0, .int ((((((p0 - ((ushrF p0 (1 : Int32)) &&& (1431655765 : Int32))) &&& (858993459 : Int32)) + ((ushrF (p0 - ((ushrF p0 (1 : Int32)) &&& (1431655765 : Int32))) (2 : Int32)) &&& (858993459 : Int32))) + (ushrF (((p0 - ((ushrF p0 (1 : Int32)) &&& (1431655765 : Int32))) &&& (858993459 : Int32)) + ((ushrF (p0 - ((ushrF p0 (1 : Int32)) &&& (1431655765 : Int32))) (2 : Int32)) &&& (858993459 : Int32))) (4 : Int32))) &&& (252645135 : Int32)) + (ushrF (((((p0 - ((ushrF p0 (1 : Int32)) &&& (1431655765 : Int32))) &&& (858993459 : Int32)) + ((ushrF (p0 - ((ushrF p0 (1 : Int32)) &&& (1431655765 : Int32))) (2 : Int32)) &&& (858993459 : Int32))) + (ushrF (((p0 - ((ushrF p0 (1 : Int32)) &&& (1431655765 : Int32))) &&& (858993459 : Int32)) + ((ushrF (p0 - ((ushrF p0 (1 : Int32)) &&& (1431655765 : Int32))) (2 : Int32)) &&& (858993459 : Int32))) (4 : Int32))) &&& (252645135 : Int32)) (8 : Int32))))]) hx hb (dq_59 0 bcJ6_bitCount_0f7a4_0 (j := 40) rfl rfl) rfl hl (by decide) rfl (fun ls hl => ?_)
  refine lv_iload_n hx hb (dq_26 0 bcJ6_bitCount_0f7a4_0 (j := 41) rfl rfl) rfl (lv_at hl 0 rfl) ?_
  refine lv_iload_n hx hb (dq_26 0 bcJ6_bitCount_0f7a4_0 (j := 42) rfl rfl) rfl (lv_at hl 0 rfl) ?_
  refine lv_bipush (v := 16) hx hb (dq_16 0 bcJ6_bitCount_0f7a4_0 (j := 43) (i := 16) rfl rfl rfl) (by decide) ?_
  refine lv_iushr (v := (ushrF ((((((p0 - ((ushrF p0 (1 : Int32)) &&& (1431655765 : Int32))) &&& (858993459 : Int32)) + ((ushrF (p0 - ((ushrF p0 (1 : Int32)) &&& (1431655765 : Int32))) (2 : Int32)) &&& (858993459 : Int32))) + (ushrF (((p0 - ((ushrF p0 (1 : Int32)) &&& (1431655765 : Int32))) &&& (858993459 : Int32)) + ((ushrF (p0 - ((ushrF p0 (1 : Int32)) &&& (1431655765 : Int32))) (2 : Int32)) &&& (858993459 : Int32))) (4 : Int32))) &&& (252645135 : Int32)) + (ushrF (((((p0 - ((ushrF p0 (1 : Int32)) &&& (1431655765 : Int32))) &&& (858993459 : Int32)) + ((ushrF (p0 - ((ushrF p0 (1 : Int32)) &&& (1431655765 : Int32))) (2 : Int32)) &&& (858993459 : Int32))) + (ushrF (((p0 - ((ushrF p0 (1 : Int32)) &&& (1431655765 : Int32))) &&& (858993459 : Int32)) + ((ushrF (p0 - ((ushrF p0 (1 : Int32)) &&& (1431655765 : Int32))) (2 : Int32)) &&& (858993459 : Int32))) (4 : Int32))) &&& (252645135 : Int32)) (8 : Int32))) (16 : Int32))) hx hb (dq_124 0 bcJ6_bitCount_0f7a4_0 (j := 45) rfl rfl) rfl ?_
  refine lv_iadd hx hb (dq_96 0 bcJ6_bitCount_0f7a4_0 (j := 46) rfl rfl) ?_
  refine lv_istore_n (lv' := [(0, .int (((((((p0 - ((ushrF p0 (1 : Int32)) &&& (1431655765 : Int32))) &&& (858993459 : Int32)) + ((ushrF (p0 - ((ushrF p0 (1 : Int32)) &&& (1431655765 : Int32))) (2 : Int32)) &&& (858993459 : Int32))) + (ushrF (((p0 - ((ushrF p0 (1 : Int32)) &&& (1431655765 : Int32))) &&& (858993459 : Int32)) + ((ushrF (p0 - ((ushrF p0 (1 : Int32)) &&& (1431655765 : Int32))) (2 : Int32)) &&& (858993459 : Int32))) (4 : Int32))) &&& (252645135 : Int32)) + (ushrF (((((p0 - ((ushrF p0 (1 : Int32)) &&& (1431655765 : Int32))) &&& (858993459 : Int32)) + ((ushrF (p0 - ((ushrF p0 (1 : Int32)) &&& (1431655765 : Int32))) (2 : Int32)) &&& (858993459 : Int32))) + (ushrF (((p0 - ((ushrF p0 (1 : Int32)) &&& (1431655765 : Int32))) &&& (858993459 : Int32)) + ((ushrF (p0 - ((ushrF p0 (1 : Int32)) &&& (1431655765 : Int32))) (2 : Int32)) &&& (858993459 : Int32))) (4 : Int32))) &&& (252645135 : Int32)) (8 : Int32))) + (ushrF ((((((p0 - ((ushrF p0 (1 : Int32)) &&& (1431655765 : Int32))) &&& (858993459 : Int32)) + ((ushrF (p0 - ((ushrF p0 (1 : Int32)) &&& (1431655765 : Int32))) (2 : Int32)) &&& (858993459 : Int32))) + (ushrF (((p0 - ((ushrF p0 (1 : Int32)) &&& (1431655765 : Int32))) &&& (858993459 : Int32)) + ((ushrF (p0 - ((ushrF p0 (1 : Int32)) &&& (1431655765 : Int32))) (2 : Int32)) &&& (858993459 : Int32))) (4 : Int32))) &&& (252645135 : Int32)) + (ushrF (((((p0 - ((ushrF p0 (1 : Int32)) &&& (1431655765 : Int32))) &&& (858993459 : Int32)) + ((ushrF (p0 - ((ushrF p0 (1 : Int32)) &&& (1431655765 : Int32))) (2 : Int32)) &&& (858993459 : Int32))) + (ushrF (((p0 - ((ushrF p0 (1 : Int32)) &&& (1431655765 : Int32))) &&& (858993459 : Int32)) + ((ushrF (p0 - ((ushrF p0 (1 : Int32)) &&& (1431655765 : Int32))) (2 : Int32)) &&& (858993459 : Int32))) (4 : Int32))) &&& (252645135 : Int32)) (8 : Int32))) (16 : Int32))))]) hx hb (dq_59 0 bcJ6_bitCount_0f7a4_0 (j := 47) rfl rfl) rfl hl (by decide) rfl (fun ls hl => ?_)
  refine lv_iload_n hx hb (dq_26 48 bcJ6_bitCount_0f7a4_1 (j := 0) rfl rfl) rfl (lv_at hl 0 rfl) ?_
  refine lv_bipush (v := 63) hx hb (dq_16 48 bcJ6_bitCount_0f7a4_1 (j := 1) (i := 63) rfl rfl rfl) (by decide) ?_
  refine lv_iand hx hb (dq_126 48 bcJ6_bitCount_0f7a4_1 (j := 3) rfl rfl) ?_
  rw [hQ]
  obtain e9_0 := inj1 hF
  exact W.iret (v := (((((((p0 - ((ushrF p0 (1 : Int32)) &&& (1431655765 : Int32))) &&& (858993459 : Int32)) + ((ushrF (p0 - ((ushrF p0 (1 : Int32)) &&& (1431655765 : Int32))) (2 : Int32)) &&& (858993459 : Int32))) + (ushrF (((p0 - ((ushrF p0 (1 : Int32)) &&& (1431655765 : Int32))) &&& (858993459 : Int32)) + ((ushrF (p0 - ((ushrF p0 (1 : Int32)) &&& (1431655765 : Int32))) (2 : Int32)) &&& (858993459 : Int32))) (4 : Int32))) &&& (252645135 : Int32)) + (ushrF (((((p0 - ((ushrF p0 (1 : Int32)) &&& (1431655765 : Int32))) &&& (858993459 : Int32)) + ((ushrF (p0 - ((ushrF p0 (1 : Int32)) &&& (1431655765 : Int32))) (2 : Int32)) &&& (858993459 : Int32))) + (ushrF (((p0 - ((ushrF p0 (1 : Int32)) &&& (1431655765 : Int32))) &&& (858993459 : Int32)) + ((ushrF (p0 - ((ushrF p0 (1 : Int32)) &&& (1431655765 : Int32))) (2 : Int32)) &&& (858993459 : Int32))) (4 : Int32))) &&& (252645135 : Int32)) (8 : Int32))) + (ushrF ((((((p0 - ((ushrF p0 (1 : Int32)) &&& (1431655765 : Int32))) &&& (858993459 : Int32)) + ((ushrF (p0 - ((ushrF p0 (1 : Int32)) &&& (1431655765 : Int32))) (2 : Int32)) &&& (858993459 : Int32))) + (ushrF (((p0 - ((ushrF p0 (1 : Int32)) &&& (1431655765 : Int32))) &&& (858993459 : Int32)) + ((ushrF (p0 - ((ushrF p0 (1 : Int32)) &&& (1431655765 : Int32))) (2 : Int32)) &&& (858993459 : Int32))) (4 : Int32))) &&& (252645135 : Int32)) + (ushrF (((((p0 - ((ushrF p0 (1 : Int32)) &&& (1431655765 : Int32))) &&& (858993459 : Int32)) + ((ushrF (p0 - ((ushrF p0 (1 : Int32)) &&& (1431655765 : Int32))) (2 : Int32)) &&& (858993459 : Int32))) + (ushrF (((p0 - ((ushrF p0 (1 : Int32)) &&& (1431655765 : Int32))) &&& (858993459 : Int32)) + ((ushrF (p0 - ((ushrF p0 (1 : Int32)) &&& (1431655765 : Int32))) (2 : Int32)) &&& (858993459 : Int32))) (4 : Int32))) &&& (252645135 : Int32)) (8 : Int32))) (16 : Int32))) &&& (63 : Int32)) hx hb hr (fun tt ht hW => ⟨_, rfl, e9_0, ht⟩) (fun _ h => by cases h) (dq_172 48 bcJ6_bitCount_0f7a4_1 (j := 4) rfl rfl)

def F_J9_floorDiv_7cf53 (p0 : Int32) (p1 : Int32) : Option (Int32) :=
  nzI p1 (if (0 : Int32) ≤ p0 ^^^ p1 then some (p0 / p1) else if (p0 / p1) * p1 = p0 then some (p0 / p1) else some ((p0 / p1) - (1 : Int32)))

def v_f_J9_floorDiv_7cf53 : List Cond := List.cons (.code yJ9_floorDiv_7cf53 cJ9_floorDiv_7cf53 3 (some .int)) (HAppend.hAppend (α := List Cond) (β := List Cond) (γ := List Cond) [] [])
theorem gw_f_J9_floorDiv_7cf53 : v_f_J9_floorDiv_7cf53.all goodWord = true := gw_c2 (by decide +kernel) gw_nil
theorem hd_J9_floorDiv_7cf53 : yJ9_floorDiv_7cf53.cls = RJ9 ∧ yJ9_floorDiv_7cf53.cls ≠ "java/lang/invoke/MethodHandle" ∧ yJ9_floorDiv_7cf53.cls ≠ "java/lang/invoke/VarHandle" ∧ (parseMethodDescriptor yJ9_floorDiv_7cf53.desc).map (fun d => d.parameters.length) = some 2 := by decide +kernel
set_option maxHeartbeats 4000000 in
set_option maxRecDepth 100000 in
theorem f_J9_floorDiv_7cf53 (l : Launch) (E : EE) {p0 : Int32} {p1 : Int32} {rr : Int32} (hF : F_J9_floorDiv_7cf53 p0 p1 = some rr) : Met l yJ9_floorDiv_7cf53 v_f_J9_floorDiv_7cf53 (({ frames := 0, cells := 0, slots := 0, locals := 0 } : Room)) (va_Pc [.int p0, .int p1] (pP E [])) (vp_Si (fun q : Int32 => q = rr)) 0 0 (fun _ => False) := by
  refine Met.ofWF (cc := cJ9_floorDiv_7cf53) (maxL := 3) (ret := (some .int)) (by decide +kernel) rfl ?_
  intro p e s m args below meth c s₁ B hml hv
  obtain ⟨rfl, ⟨hK, hN⟩, hP⟩ := hv
  have hx := B.exec
  have hb := B.bytes
  have hr := B.returns
  have hts := atoms_spec (ws := v_f_J9_floorDiv_7cf53) B.pre
  have hown : s.vm.findClass RJ9 = some m.cls := own_of hd_J9_floorDiv_7cf53.1 (findClass_of_methodNamed B.named)
  have hlocks : meth.locks = false := B.notSynchronized
  replace hP : va_P E.1 vwCl [] s.heap := hP
  have hl := lv_entry ([.int p0, .int p1]) (n := 3) (Nat.le_of_ble_eq_true rfl)
  rw [lg_entry_eq]
  generalize (lg_sl ([.int p0, .int p1]) ++ List.replicate (3 - (lg_sl ([.int p0, .int p1])).length) Slot.unset).toArray = ls at hl ⊢
  have hl : lv_has ls 3 [(0, .int p0), (1, .int p1)] := hl
  obtain ⟨Q, hQ⟩ : ∃ Q : State → Prop, Q = MQ below (vp_Si (fun q : Int32 => q = rr)) #[Value.int p0, Value.int p1] s 0 0 (fun _ => False) := ⟨_, rfl⟩
  rw [← hQ]
  change W p l e ({ frames := 0, cells := 0, slots := 0, locals := 0 } : Room) s m #[Value.int p0, Value.int p1] below meth c s.heap [] 0 0 Q (F0 m 0 ls [])
  unfold F_J9_floorDiv_7cf53 at hF
  refine lv_iload_n hx hb (dq_26 0 bcJ9_floorDiv_7cf53_0 (j := 0) rfl rfl) rfl (lv_at hl 0 rfl) ?_
  refine lv_iload_n hx hb (dq_27 0 bcJ9_floorDiv_7cf53_0 (j := 1) rfl rfl) rfl (lv_at hl 1 rfl) ?_
  replace hF := nzI_s hF
  obtain ⟨hz_1, hF⟩ := hF
  refine lv_idiv hx hb (dq_108 0 bcJ9_floorDiv_7cf53_0 (j := 2) rfl rfl) (hz_1) ?_
  refine lv_istore_n (lv' := [(2, .int (p0 / p1)), (0, .int p0), (1, .int p1)]) hx hb (dq_61 0 bcJ9_floorDiv_7cf53_0 (j := 3) rfl rfl) rfl hl (by decide) rfl (fun ls hl => ?_)
  refine lv_iload_n hx hb (dq_26 0 bcJ9_floorDiv_7cf53_0 (j := 4) rfl rfl) rfl (lv_at hl 1 rfl) ?_
  refine lv_iload_n hx hb (dq_27 0 bcJ9_floorDiv_7cf53_0 (j := 5) rfl rfl) rfl (lv_at hl 2 rfl) ?_
  refine lv_ixor hx hb (dq_130 0 bcJ9_floorDiv_7cf53_0 (j := 6) rfl rfl) ?_
  refine lv_if_ge (tgt := 21) hx hb (dq_156 0 bcJ9_floorDiv_7cf53_0 (j := 7) (i := 14) rfl rfl rfl) (by decide) (fun c_2 => ?_) (fun c_2 => ?_)
  ·
    replace hF := ip c_2 hF
    refine lv_iload_n hx hb (dq_28 0 bcJ9_floorDiv_7cf53_0 (j := 21) rfl rfl) rfl (lv_at hl 0 rfl) ?_
    rw [hQ]
    obtain e9_0 := inj1 hF
    exact W.iret (v := p0 / p1) hx hb hr (fun tt ht hW => ⟨_, rfl, e9_0, ht⟩) (fun _ h => by cases h) (dq_172 0 bcJ9_floorDiv_7cf53_0 (j := 22) rfl rfl)
  ·
    replace hF := inn c_2 hF
    refine lv_iload_n hx hb (dq_28 0 bcJ9_floorDiv_7cf53_0 (j := 10) rfl rfl) rfl (lv_at hl 0 rfl) ?_
    refine lv_iload_n hx hb (dq_27 0 bcJ9_floorDiv_7cf53_0 (j := 11) rfl rfl) rfl (lv_at hl 2 rfl) ?_
    refine lv_imul hx hb (dq_104 0 bcJ9_floorDiv_7cf53_0 (j := 12) rfl rfl) ?_
    refine lv_iload_n hx hb (dq_26 0 bcJ9_floorDiv_7cf53_0 (j := 13) rfl rfl) rfl (lv_at hl 1 rfl) ?_
    refine lv_icmp_eq (tgt := 21) hx hb (dq_159 0 bcJ9_floorDiv_7cf53_0 (j := 14) (i := 7) rfl rfl rfl) (by decide) (fun c_3 => ?_) (fun c_3 => ?_)
    ·
      replace hF := ip c_3 hF
      refine lv_iload_n hx hb (dq_28 0 bcJ9_floorDiv_7cf53_0 (j := 21) rfl rfl) rfl (lv_at hl 0 rfl) ?_
      rw [hQ]
      obtain e9_0 := inj1 hF
      exact W.iret (v := p0 / p1) hx hb hr (fun tt ht hW => ⟨_, rfl, e9_0, ht⟩) (fun _ h => by cases h) (dq_172 0 bcJ9_floorDiv_7cf53_0 (j := 22) rfl rfl)
    ·
      replace hF := inn c_3 hF
      refine lv_iload_n hx hb (dq_28 0 bcJ9_floorDiv_7cf53_0 (j := 17) rfl rfl) rfl (lv_at hl 0 rfl) ?_
      refine lv_iconst (v := 1) hx hb (dq_4 0 bcJ9_floorDiv_7cf53_0 (j := 18) rfl rfl) (by decide) ?_
      refine lv_isub hx hb (dq_100 0 bcJ9_floorDiv_7cf53_0 (j := 19) rfl rfl) ?_
      rw [hQ]
      obtain e9_0 := inj1 hF
      exact W.iret (v := (p0 / p1) - (1 : Int32)) hx hb hr (fun tt ht hW => ⟨_, rfl, e9_0, ht⟩) (fun _ h => by cases h) (dq_172 0 bcJ9_floorDiv_7cf53_0 (j := 20) rfl rfl)

def F_J9_floorMod_7cf53 (p0 : Int32) (p1 : Int32) : Option (Int32) :=
  nzI p1 (if (0 : Int32) ≤ p0 ^^^ p1 then some (p0 - p0 / p1 * p1) else if p0 - p0 / p1 * p1 = (0 : Int32) then some (p0 - p0 / p1 * p1) else some ((p0 - p0 / p1 * p1) + p1))

def v_f_J9_floorMod_7cf53 : List Cond := List.cons (.code yJ9_floorMod_7cf53 cJ9_floorMod_7cf53 3 (some .int)) (HAppend.hAppend (α := List Cond) (β := List Cond) (γ := List Cond) [] [])
theorem gw_f_J9_floorMod_7cf53 : v_f_J9_floorMod_7cf53.all goodWord = true := gw_c2 (by decide +kernel) gw_nil
theorem hd_J9_floorMod_7cf53 : yJ9_floorMod_7cf53.cls = RJ9 ∧ yJ9_floorMod_7cf53.cls ≠ "java/lang/invoke/MethodHandle" ∧ yJ9_floorMod_7cf53.cls ≠ "java/lang/invoke/VarHandle" ∧ (parseMethodDescriptor yJ9_floorMod_7cf53.desc).map (fun d => d.parameters.length) = some 2 := by decide +kernel
set_option maxHeartbeats 4000000 in
set_option maxRecDepth 100000 in
theorem f_J9_floorMod_7cf53 (l : Launch) (E : EE) {p0 : Int32} {p1 : Int32} {rr : Int32} (hF : F_J9_floorMod_7cf53 p0 p1 = some rr) : Met l yJ9_floorMod_7cf53 v_f_J9_floorMod_7cf53 (({ frames := 0, cells := 0, slots := 0, locals := 0 } : Room)) (va_Pc [.int p0, .int p1] (pP E [])) (vp_Si (fun q : Int32 => q = rr)) 0 0 (fun _ => False) := by
  refine Met.ofWF (cc := cJ9_floorMod_7cf53) (maxL := 3) (ret := (some .int)) (by decide +kernel) rfl ?_
  intro p e s m args below meth c s₁ B hml hv
  obtain ⟨rfl, ⟨hK, hN⟩, hP⟩ := hv
  have hx := B.exec
  have hb := B.bytes
  have hr := B.returns
  have hts := atoms_spec (ws := v_f_J9_floorMod_7cf53) B.pre
  have hown : s.vm.findClass RJ9 = some m.cls := own_of hd_J9_floorMod_7cf53.1 (findClass_of_methodNamed B.named)
  have hlocks : meth.locks = false := B.notSynchronized
  replace hP : va_P E.1 vwCl [] s.heap := hP
  have hl := lv_entry ([.int p0, .int p1]) (n := 3) (Nat.le_of_ble_eq_true rfl)
  rw [lg_entry_eq]
  generalize (lg_sl ([.int p0, .int p1]) ++ List.replicate (3 - (lg_sl ([.int p0, .int p1])).length) Slot.unset).toArray = ls at hl ⊢
  have hl : lv_has ls 3 [(0, .int p0), (1, .int p1)] := hl
  obtain ⟨Q, hQ⟩ : ∃ Q : State → Prop, Q = MQ below (vp_Si (fun q : Int32 => q = rr)) #[Value.int p0, Value.int p1] s 0 0 (fun _ => False) := ⟨_, rfl⟩
  rw [← hQ]
  change W p l e ({ frames := 0, cells := 0, slots := 0, locals := 0 } : Room) s m #[Value.int p0, Value.int p1] below meth c s.heap [] 0 0 Q (F0 m 0 ls [])
  unfold F_J9_floorMod_7cf53 at hF
  refine lv_iload_n hx hb (dq_26 0 bcJ9_floorMod_7cf53_0 (j := 0) rfl rfl) rfl (lv_at hl 0 rfl) ?_
  refine lv_iload_n hx hb (dq_27 0 bcJ9_floorMod_7cf53_0 (j := 1) rfl rfl) rfl (lv_at hl 1 rfl) ?_
  replace hF := nzI_s hF
  obtain ⟨hz_1, hF⟩ := hF
  refine lv_irem hx hb (dq_112 0 bcJ9_floorMod_7cf53_0 (j := 2) rfl rfl) (hz_1) ?_
  refine lv_istore_n (lv' := [(2, .int (p0 - p0 / p1 * p1)), (0, .int p0), (1, .int p1)]) hx hb (dq_61 0 bcJ9_floorMod_7cf53_0 (j := 3) rfl rfl) rfl hl (by decide) rfl (fun ls hl => ?_)
  refine lv_iload_n hx hb (dq_26 0 bcJ9_floorMod_7cf53_0 (j := 4) rfl rfl) rfl (lv_at hl 1 rfl) ?_
  refine lv_iload_n hx hb (dq_27 0 bcJ9_floorMod_7cf53_0 (j := 5) rfl rfl) rfl (lv_at hl 2 rfl) ?_
  refine lv_ixor hx hb (dq_130 0 bcJ9_floorMod_7cf53_0 (j := 6) rfl rfl) ?_
  refine lv_if_ge (tgt := 18) hx hb (dq_156 0 bcJ9_floorMod_7cf53_0 (j := 7) (i := 11) rfl rfl rfl) (by decide) (fun c_2 => ?_) (fun c_2 => ?_)
  ·
    replace hF := ip c_2 hF
    refine lv_iload_n hx hb (dq_28 0 bcJ9_floorMod_7cf53_0 (j := 18) rfl rfl) rfl (lv_at hl 0 rfl) ?_
    rw [hQ]
    obtain e9_0 := inj1 hF
    exact W.iret (v := p0 - p0 / p1 * p1) hx hb hr (fun tt ht hW => ⟨_, rfl, e9_0, ht⟩) (fun _ h => by cases h) (dq_172 0 bcJ9_floorMod_7cf53_0 (j := 19) rfl rfl)
  ·
    replace hF := inn c_2 hF
    refine lv_iload_n hx hb (dq_28 0 bcJ9_floorMod_7cf53_0 (j := 10) rfl rfl) rfl (lv_at hl 0 rfl) ?_
    refine lv_if_eq (tgt := 18) hx hb (dq_153 0 bcJ9_floorMod_7cf53_0 (j := 11) (i := 7) rfl rfl rfl) (by decide) (fun c_3 => ?_) (fun c_3 => ?_)
    ·
      replace hF := ip c_3 hF
      refine lv_iload_n hx hb (dq_28 0 bcJ9_floorMod_7cf53_0 (j := 18) rfl rfl) rfl (lv_at hl 0 rfl) ?_
      rw [hQ]
      obtain e9_0 := inj1 hF
      exact W.iret (v := p0 - p0 / p1 * p1) hx hb hr (fun tt ht hW => ⟨_, rfl, e9_0, ht⟩) (fun _ h => by cases h) (dq_172 0 bcJ9_floorMod_7cf53_0 (j := 19) rfl rfl)
    ·
      replace hF := inn c_3 hF
      refine lv_iload_n hx hb (dq_28 0 bcJ9_floorMod_7cf53_0 (j := 14) rfl rfl) rfl (lv_at hl 0 rfl) ?_
      refine lv_iload_n hx hb (dq_27 0 bcJ9_floorMod_7cf53_0 (j := 15) rfl rfl) rfl (lv_at hl 2 rfl) ?_
      refine lv_iadd hx hb (dq_96 0 bcJ9_floorMod_7cf53_0 (j := 16) rfl rfl) ?_
      rw [hQ]
      obtain e9_0 := inj1 hF
      exact W.iret (v := (p0 - p0 / p1 * p1) + p1) hx hb hr (fun tt ht hW => ⟨_, rfl, e9_0, ht⟩) (fun _ h => by cases h) (dq_172 0 bcJ9_floorMod_7cf53_0 (j := 17) rfl rfl)

def F_J0_checkIndex_df160 (p0 : Int32) (p1 : Int32) : Option (Unit) :=
  bd1 (F_J3_checkIndex_8e157null p0 p1) (fun r_1 => some ())

def v_f_J0_checkIndex_df160 : List Cond := List.cons (.code yJ0_checkIndex_df160 cJ0_checkIndex_df160 2 none) (HAppend.hAppend (α := List Cond) (β := List Cond) (γ := List Cond) [.fieldLink RJ0 1053 "jdk/internal/util/Preconditions" "SIOOBE_FORMATTER" "Ljava/util/function/BiFunction;", .methodLink RJ0 1059 yJ3_checkIndex_8e157, .static yJ3_checkIndex_8e157, .initialized RJ3] (HAppend.hAppend (α := List Cond) (β := List Cond) (γ := List Cond) v_f_J3_checkIndex_8e157null (HAppend.hAppend (α := List Cond) (β := List Cond) (γ := List Cond) v_f_J3_checkIndex_8e157 [])))
theorem gw_f_J0_checkIndex_df160 : v_f_J0_checkIndex_df160.all goodWord = true := gw_c2 (by decide +kernel) (gw_ap gw_f_J3_checkIndex_8e157null (gw_ap gw_f_J3_checkIndex_8e157 gw_nil))
theorem g_f_J0_checkIndex_df160_f_J3_checkIndex_8e157null_1059 : GoodIn v_f_J0_checkIndex_df160 (va_wsS RJ0 1059 yJ3_checkIndex_8e157 v_f_J3_checkIndex_8e157null) := goodIn_in gw_f_J0_checkIndex_df160 (in3 2 3 4 rfl rfl rfl (fun _ h => List.mem_cons_of_mem _ (List.mem_append_right _ (List.mem_append_left _ h))))
theorem g_f_J0_checkIndex_df160_f_J3_checkIndex_8e157_1059 : GoodIn v_f_J0_checkIndex_df160 (va_wsS RJ0 1059 yJ3_checkIndex_8e157 v_f_J3_checkIndex_8e157) := goodIn_in gw_f_J0_checkIndex_df160 (in3 2 3 4 rfl rfl rfl (fun _ h => List.mem_cons_of_mem _ (List.mem_append_right _ (List.mem_append_right _ (List.mem_append_left _ h)))))
theorem hd_J0_checkIndex_df160 : yJ0_checkIndex_df160.cls = RJ0 ∧ yJ0_checkIndex_df160.cls ≠ "java/lang/invoke/MethodHandle" ∧ yJ0_checkIndex_df160.cls ≠ "java/lang/invoke/VarHandle" ∧ (parseMethodDescriptor yJ0_checkIndex_df160.desc).map (fun d => d.parameters.length) = some 2 := by decide +kernel
set_option maxHeartbeats 4000000 in
set_option maxRecDepth 100000 in
theorem f_J0_checkIndex_df160 (l : Launch) (E : EE) (z9 : Nat → Nat) {p0 : Int32} {p1 : Int32} (hF : F_J0_checkIndex_df160 p0 p1 = some ()) : Met l yJ0_checkIndex_df160 v_f_J0_checkIndex_df160 (({ frames := 1, cells := 0, slots := 0, locals := 22 } : Room)) (va_Pc [.int p0, .int p1] (qPZ E z9 [])) (va_Sv (fun _ => True)) 0 0 (fun _ => False) := by
  refine Met.ofWF (cc := cJ0_checkIndex_df160) (maxL := 2) (ret := none) (by decide +kernel) rfl ?_
  intro p e s m args below meth c s₁ B hml hv
  obtain ⟨rfl, ⟨hK, hN⟩, hP, hZ⟩ := hv
  have hx := B.exec
  have hb := B.bytes
  have hr := B.returns
  have hts := atoms_spec (ws := v_f_J0_checkIndex_df160) B.pre
  have hown : s.vm.findClass RJ0 = some m.cls := own_of hd_J0_checkIndex_df160.1 (findClass_of_methodNamed B.named)
  have hlocks : meth.locks = false := B.notSynchronized
  replace hP : va_P E.1 vwCl [] s.heap := hP
  have hl := lv_entry ([.int p0, .int p1]) (n := 2) (Nat.le_of_ble_eq_true rfl)
  rw [lg_entry_eq]
  generalize (lg_sl ([.int p0, .int p1]) ++ List.replicate (2 - (lg_sl ([.int p0, .int p1])).length) Slot.unset).toArray = ls at hl ⊢
  have hl : lv_has ls 2 [(0, .int p0), (1, .int p1)] := hl
  obtain ⟨Q, hQ⟩ : ∃ Q : State → Prop, Q = MQ below (va_Sv (fun _ => True)) #[Value.int p0, Value.int p1] s 0 0 (fun _ => False) := ⟨_, rfl⟩
  rw [← hQ]
  change W p l e ({ frames := 1, cells := 0, slots := 0, locals := 22 } : Room) s m #[Value.int p0, Value.int p1] below meth c s.heap [] 0 0 Q (F0 m 0 ls [])
  unfold F_J0_checkIndex_df160 at hF
  refine lv_iload_n hx hb (dq_26 0 bcJ0_checkIndex_df160_0 (j := 0) rfl rfl) rfl (lv_at hl 0 rfl) ?_
  refine lv_iload_n hx hb (dq_27 0 bcJ0_checkIndex_df160_0 (j := 1) rfl rfl) rfl (lv_at hl 1 rfl) ?_
  rcases hZ.2.2.1.2.2.2.2.2 with hq9 | ⟨zt, hq9⟩
  ·
    refine va_gets hx hb hq9 (va_S.rf) hown (hts (.fieldLink RJ0 1053 "jdk/internal/util/Preconditions" "SIOOBE_FORMATTER" "Ljava/util/function/BiFunction;") (List.mem_of_getElem? (i := 1) rfl)) (fun _ h9 => h9) (dq_178 0 bcJ0_checkIndex_df160_0 (j := 2) (i := 1053) rfl rfl rfl) ?_
    replace hF := bd1_s hF
    obtain ⟨r_1, hc_2, hF⟩ := hF
    have hPc : va_P E.1 vwCl [] s.heap := fun k q h => by simp at h
    refine pE_i (va_runS (As := [.int p0, .int p1, .null]) (rest := [])  ⟨hx, hb, hml, hown, hts⟩ (f_J3_checkIndex_8e157null l E (p0 := p0) (p1 := p1) hc_2) (va_cwS 3 hts g_f_J0_checkIndex_df160_f_J3_checkIndex_8e157null_1059 rfl rfl rfl hd_J3_checkIndex_8e157.2 ⟨Nat.le_of_ble_eq_true rfl, Nat.le_of_ble_eq_true rfl⟩) ⟨pP.blind, (pP.pre ⟨hK, hN⟩ hPc)⟩ rfl rfl hl.1 rfl (lv_room (Nat.le_of_ble_eq_true rfl)) (dq_184 0 bcJ0_checkIndex_df160_0 (j := 5) (i := 1059) rfl rfl rfl) ⟨Nat.le_of_ble_eq_true rfl, Nat.le_of_ble_eq_true rfl⟩) ?_
    refine lv_pop hx hb (dq_87 0 bcJ0_checkIndex_df160_0 (j := 8) rfl rfl) rfl ?_
    rw [hQ]
    exact W.vret hx hb hr (fun tt ht hW => ⟨rfl, trivial, ht⟩) (fun _ h => by cases h) (dq_177 0 bcJ0_checkIndex_df160_0 (j := 9) rfl rfl)
  ·
    refine va_gets hx hb hq9 (va_S.rf) hown (hts (.fieldLink RJ0 1053 "jdk/internal/util/Preconditions" "SIOOBE_FORMATTER" "Ljava/util/function/BiFunction;") (List.mem_of_getElem? (i := 1) rfl)) (fun _ h9 => h9) (dq_178 0 bcJ0_checkIndex_df160_0 (j := 2) (i := 1053) rfl rfl rfl) ?_
    replace hF := bd1_s hF
    obtain ⟨r_3, hc_4, hF⟩ := hF
    have hPc : va_P E.1 vwCl [] s.heap := fun k q h => by simp at h
    refine pE_i (va_runS (As := [.int p0, .int p1, .ref zt]) (rest := [])  ⟨hx, hb, hml, hown, hts⟩ (f_J3_checkIndex_8e157 l E (p0 := p0) (p1 := p1) hc_4) (va_cwS 3 hts g_f_J0_checkIndex_df160_f_J3_checkIndex_8e157_1059 rfl rfl rfl hd_J3_checkIndex_8e157.2 ⟨Nat.le_of_ble_eq_true rfl, Nat.le_of_ble_eq_true rfl⟩) ⟨pP.blind, (pP.pre ⟨hK, hN⟩ hPc)⟩ rfl rfl hl.1 rfl (lv_room (Nat.le_of_ble_eq_true rfl)) (dq_184 0 bcJ0_checkIndex_df160_0 (j := 5) (i := 1059) rfl rfl rfl) ⟨Nat.le_of_ble_eq_true rfl, Nat.le_of_ble_eq_true rfl⟩) ?_
    refine lv_pop hx hb (dq_87 0 bcJ0_checkIndex_df160_0 (j := 8) rfl rfl) rfl ?_
    rw [hQ]
    exact W.vret hx hb hr (fun tt ht hW => ⟨rfl, trivial, ht⟩) (fun _ h => by cases h) (dq_177 0 bcJ0_checkIndex_df160_0 (j := 9) rfl rfl)

def F_J1_charAt_3b067 (p0 : Nat) (p1 : Int32) : Option (Int32) :=
  ltF p0 15 (bd1 (F_J0_checkIndex_df160 p1 (Int32.ofNat (strL.getD p0 0))) (fun u_2 => ltF p0 15 (ixF p1 (strL.getD p0 0) (some (((((strB.getD p0 []).getD p1.toNatClampNeg 0) &&& (255 : Int32)).toUInt32 % 65536).toInt32)))))

def v_f_J1_charAt_3b067 : List Cond := List.cons (.code yJ1_charAt_3b067 cJ1_charAt_3b067 2 (some .char)) (HAppend.hAppend (α := List Cond) (β := List Cond) (γ := List Cond) [.methodLink RJ1 9 yJ0_checkIndex_df160, .static yJ0_checkIndex_df160, .initialized RJ0] (HAppend.hAppend (α := List Cond) (β := List Cond) (γ := List Cond) v_f_J0_checkIndex_df160 []))
theorem gw_f_J1_charAt_3b067 : v_f_J1_charAt_3b067.all goodWord = true := gw_c2 (by decide +kernel) (gw_ap gw_f_J0_checkIndex_df160 gw_nil)
theorem g_f_J1_charAt_3b067_f_J0_checkIndex_df160_9 : GoodIn v_f_J1_charAt_3b067 (va_wsS RJ1 9 yJ0_checkIndex_df160 v_f_J0_checkIndex_df160) := goodIn_in gw_f_J1_charAt_3b067 (in3 1 2 3 rfl rfl rfl (fun _ h => List.mem_cons_of_mem _ (List.mem_append_right _ (List.mem_append_left _ h))))
theorem hd_J1_charAt_3b067 : yJ1_charAt_3b067.cls = RJ1 ∧ yJ1_charAt_3b067.cls ≠ "java/lang/invoke/MethodHandle" ∧ yJ1_charAt_3b067.cls ≠ "java/lang/invoke/VarHandle" ∧ (parseMethodDescriptor yJ1_charAt_3b067.desc).map (fun d => d.parameters.length) = some 2 := by decide +kernel
set_option maxHeartbeats 4000000 in
set_option maxRecDepth 100000 in
theorem f_J1_charAt_3b067 (l : Launch) (E : EE) (z9 : Nat → Nat) {p0 : Nat} {p1 : Int32} {rr : Int32} (hF : F_J1_charAt_3b067 p0 p1 = some rr) : Met l yJ1_charAt_3b067 v_f_J1_charAt_3b067 (({ frames := 2, cells := 0, slots := 0, locals := 43 } : Room)) (va_Pc [.ref (z9 (40 + p0)), .int p1] (qPZ E z9 [])) (vp_Si (fun q : Int32 => q = rr ∧ narrow .char (.int q) = .int q)) 0 0 (fun _ => False) := by
  refine Met.ofWF (cc := cJ1_charAt_3b067) (maxL := 2) (ret := (some .char)) (by decide +kernel) rfl ?_
  intro p e s m args below meth c s₁ B hml hv
  obtain ⟨rfl, ⟨hK, hN⟩, hP, hZ⟩ := hv
  have hx := B.exec
  have hb := B.bytes
  have hr := B.returns
  have hts := atoms_spec (ws := v_f_J1_charAt_3b067) B.pre
  have hown : s.vm.findClass RJ1 = some m.cls := own_of hd_J1_charAt_3b067.1 (findClass_of_methodNamed B.named)
  have hlocks : meth.locks = false := B.notSynchronized
  replace hP : va_P E.1 vwCl [] s.heap := hP
  have hl := lv_entry ([.ref (z9 (40 + p0)), .int p1]) (n := 2) (Nat.le_of_ble_eq_true rfl)
  rw [lg_entry_eq]
  generalize (lg_sl ([.ref (z9 (40 + p0)), .int p1]) ++ List.replicate (2 - (lg_sl ([.ref (z9 (40 + p0)), .int p1])).length) Slot.unset).toArray = ls at hl ⊢
  have hl : lv_has ls 2 [(0, .ref (z9 (40 + p0))), (1, .int p1)] := hl
  obtain ⟨Q, hQ⟩ : ∃ Q : State → Prop, Q = MQ below (vp_Si (fun q : Int32 => q = rr ∧ narrow .char (.int q) = .int q)) #[Value.ref (z9 (40 + p0)), Value.int p1] s 0 0 (fun _ => False) := ⟨_, rfl⟩
  rw [← hQ]
  change W p l e ({ frames := 2, cells := 0, slots := 0, locals := 43 } : Room) s m #[Value.ref (z9 (40 + p0)), Value.int p1] below meth c s.heap [] 0 0 Q (F0 m 0 ls [])
  unfold F_J1_charAt_3b067 at hF
  refine lv_iload_n hx hb (dq_27 0 bcJ1_charAt_3b067_0 (j := 0) rfl rfl) rfl (lv_at hl 1 rfl) ?_
  refine lv_aload_n hx hb (dq_42 0 bcJ1_charAt_3b067_0 (j := 1) rfl rfl) rfl (lv_at hl 0 rfl) ?_
  replace hF := ltF_s hF
  obtain ⟨hs_1, hF⟩ := hF
  refine va_tlen (v := (Int32.ofNat (strL.getD p0 0))) hx hb ((hZ.2.2.2.1.1 p0 hs_1).2.2.2) (va_S.rf) rfl (dq_190 0 bcJ1_charAt_3b067_0 (j := 2) rfl rfl) ?_
  replace hF := bd1_s hF
  obtain ⟨u_2, hc_3, hF⟩ := hF
  have hPc : va_P E.1 vwCl [] s.heap := fun k q h => by simp at h
  refine pc_v (va_runS (As := [.int p1, .int (Int32.ofNat (strL.getD p0 0))]) (rest := [])  ⟨hx, hb, hml, hown, hts⟩ (f_J0_checkIndex_df160 l E z9 (p0 := p1) (p1 := (Int32.ofNat (strL.getD p0 0))) hc_3) (va_cwS 2 hts g_f_J1_charAt_3b067_f_J0_checkIndex_df160_9 rfl rfl rfl hd_J0_checkIndex_df160.2 ⟨Nat.le_of_ble_eq_true rfl, Nat.le_of_ble_eq_true rfl⟩) ⟨qPZ.blind, (qPZ.pre0 ⟨hK, hN⟩ hPc hZ)⟩ rfl rfl hl.1 rfl (lv_room (Nat.le_of_ble_eq_true rfl)) (dq_184 0 bcJ1_charAt_3b067_0 (j := 3) (i := 9) rfl rfl rfl) ⟨Nat.le_of_ble_eq_true rfl, Nat.le_of_ble_eq_true rfl⟩) ?_
  refine lv_aload_n hx hb (dq_42 0 bcJ1_charAt_3b067_0 (j := 6) rfl rfl) rfl (lv_at hl 0 rfl) ?_
  refine lv_iload_n hx hb (dq_27 0 bcJ1_charAt_3b067_0 (j := 7) rfl rfl) rfl (lv_at hl 1 rfl) ?_
  replace hF := ltF_s hF
  obtain ⟨hs_4, hF⟩ := hF
  replace hF := ix_s hF
  obtain ⟨hi_5, hF⟩ := hF
  refine va_tb (v := .int ((strB.getD p0 []).getD p1.toNatClampNeg 0)) hx hb ((hZ.2.2.2.1.1 p0 hs_4).2.2.2) (va_S.rf) hi_5 rfl (dq_51 0 bcJ1_charAt_3b067_0 (j := 8) rfl rfl) ?_
  refine lv_sipush (v := 255) hx hb (dq_17 0 bcJ1_charAt_3b067_0 (j := 9) (i := 255) rfl rfl rfl) (by decide) ?_
  refine lv_iand hx hb (dq_126 0 bcJ1_charAt_3b067_0 (j := 12) rfl rfl) ?_
  refine lv_i2c (v := ((((strB.getD p0 []).getD p1.toNatClampNeg 0) &&& (255 : Int32)).toUInt32 % 65536).toInt32) hx hb (dq_146 0 bcJ1_charAt_3b067_0 (j := 13) rfl rfl) rfl ?_
  rw [hQ]
  obtain e9_0 := inj1 hF
  exact W.zret (v := ((((strB.getD p0 []).getD p1.toNatClampNeg 0) &&& (255 : Int32)).toUInt32 % 65536).toInt32) hx hb hr (nar_c _) (fun tt ht hW => ⟨_, rfl, ⟨e9_0, (nar_c _)⟩, ht⟩) (fun _ h => by cases h) (dq_172 0 bcJ1_charAt_3b067_0 (j := 14) rfl rfl)

def F_J0_coder_7d493 (p0 : Nat) : Option (Int32) :=
  ltF p0 15 (some (0 : Int32))

def v_f_J0_coder_7d493 : List Cond := List.cons (.code yJ0_coder_7d493 cJ0_coder_7d493 1 (some .byte)) (HAppend.hAppend (α := List Cond) (β := List Cond) (γ := List Cond) [.fieldLink RJ0 38 "java/lang/String" "COMPACT_STRINGS" "Z", .fieldLink RJ0 15 "java/lang/String" "coder" "B"] [])
theorem gw_f_J0_coder_7d493 : v_f_J0_coder_7d493.all goodWord = true := gw_c2 (by decide +kernel) gw_nil
theorem hd_J0_coder_7d493 : yJ0_coder_7d493.cls = RJ0 ∧ yJ0_coder_7d493.cls ≠ "java/lang/invoke/MethodHandle" ∧ yJ0_coder_7d493.cls ≠ "java/lang/invoke/VarHandle" ∧ (parseMethodDescriptor yJ0_coder_7d493.desc).map (fun d => d.parameters.length) = some 0 := by decide +kernel
set_option maxHeartbeats 4000000 in
set_option maxRecDepth 100000 in
theorem f_J0_coder_7d493 (l : Launch) (E : EE) (z9 : Nat → Nat) {p0 : Nat} {rr : Int32} (hF : F_J0_coder_7d493 p0 = some rr) : Met l yJ0_coder_7d493 v_f_J0_coder_7d493 (({ frames := 0, cells := 0, slots := 0, locals := 0 } : Room)) (va_Pc [.ref (z9 (20 + p0))] (qPZ E z9 [])) (vp_Si (fun q : Int32 => q = rr ∧ narrow .byte (.int q) = .int q)) 0 0 (fun _ => False) := by
  refine Met.ofWF (cc := cJ0_coder_7d493) (maxL := 1) (ret := (some .byte)) (by decide +kernel) rfl ?_
  intro p e s m args below meth c s₁ B hml hv
  obtain ⟨rfl, ⟨hK, hN⟩, hP, hZ⟩ := hv
  have hx := B.exec
  have hb := B.bytes
  have hr := B.returns
  have hts := atoms_spec (ws := v_f_J0_coder_7d493) B.pre
  have hown : s.vm.findClass RJ0 = some m.cls := own_of hd_J0_coder_7d493.1 (findClass_of_methodNamed B.named)
  have hlocks : meth.locks = false := B.notSynchronized
  replace hP : va_P E.1 vwCl [] s.heap := hP
  have hl := lv_entry ([.ref (z9 (20 + p0))]) (n := 1) (Nat.le_of_ble_eq_true rfl)
  rw [lg_entry_eq]
  generalize (lg_sl ([.ref (z9 (20 + p0))]) ++ List.replicate (1 - (lg_sl ([.ref (z9 (20 + p0))])).length) Slot.unset).toArray = ls at hl ⊢
  have hl : lv_has ls 1 [(0, .ref (z9 (20 + p0)))] := hl
  obtain ⟨Q, hQ⟩ : ∃ Q : State → Prop, Q = MQ below (vp_Si (fun q : Int32 => q = rr ∧ narrow .byte (.int q) = .int q)) #[Value.ref (z9 (20 + p0))] s 0 0 (fun _ => False) := ⟨_, rfl⟩
  rw [← hQ]
  change W p l e ({ frames := 0, cells := 0, slots := 0, locals := 0 } : Room) s m #[Value.ref (z9 (20 + p0))] below meth c s.heap [] 0 0 Q (F0 m 0 ls [])
  unfold F_J0_coder_7d493 at hF
  refine va_gets hx hb hZ.2.2.1.1 (va_S.rf) hown (hts (.fieldLink RJ0 38 "java/lang/String" "COMPACT_STRINGS" "Z") (List.mem_of_getElem? (i := 1) rfl)) (fun _ h9 => h9) (dq_178 0 bcJ0_coder_7d493_0 (j := 0) (i := 38) rfl rfl rfl) ?_
  refine lv_if_eq (tgt := 13) hx hb (dq_153 0 bcJ0_coder_7d493_0 (j := 3) (i := 10) rfl rfl rfl) (by decide) (fun q => absurd q (by decide)) (fun _ => ?_)
  refine lv_aload_n hx hb (dq_42 0 bcJ0_coder_7d493_0 (j := 6) rfl rfl) rfl (lv_at hl 0 rfl) ?_
  replace hF := ltF_s hF
  obtain ⟨hs_1, hF⟩ := hF
  refine vk_getf (v := .int (0 : Int32)) hx hb ((hZ.2.2.2.1.1 p0 hs_1).2.1) (va_S.rf) hown (hts (.fieldLink RJ0 15 "java/lang/String" "coder" "B") (List.mem_of_getElem? (i := 2) rfl)) (fun _ h9 => h9) (dq_180 0 bcJ0_coder_7d493_0 (j := 7) (i := 15) rfl rfl rfl) ?_
  refine lv_goto (tgt := 14) hx hb (dq_167 0 bcJ0_coder_7d493_0 (j := 10) (i := 4) rfl rfl rfl) (by decide) ?_
  rw [hQ]
  obtain e9_0 := inj1 hF
  exact W.zret (v := (0 : Int32)) hx hb hr rfl (fun tt ht hW => ⟨_, rfl, ⟨e9_0, rfl⟩, ht⟩) (fun _ h => by cases h) (dq_172 0 bcJ0_coder_7d493_0 (j := 14) rfl rfl)

def F_J0_length_8abf5 (p0 : Nat) : Option (Int32) :=
  ltF p0 15 (ltF p0 15 (ltF p0 15 (bd1 (F_J0_coder_7d493 p0) (fun r_3 => some ((Int32.ofNat (strL.getD p0 0)) >>> (r_3 &&& (31 : Int32)))))))

def v_f_J0_length_8abf5 : List Cond := List.cons (.code yJ0_length_8abf5 cJ0_length_8abf5 1 (some .int)) (HAppend.hAppend (α := List Cond) (β := List Cond) (γ := List Cond) [.fieldLink RJ0 9 "java/lang/String" "value" "[B", .methodLink RJ0 335 yJ0_coder_7d493, .instanceMethod yJ0_coder_7d493, .selects RJ0 yJ0_coder_7d493 yJ0_coder_7d493, .initialized RJ0] (HAppend.hAppend (α := List Cond) (β := List Cond) (γ := List Cond) v_f_J0_coder_7d493 []))
theorem gw_f_J0_length_8abf5 : v_f_J0_length_8abf5.all goodWord = true := gw_c2 (by decide +kernel) (gw_ap gw_f_J0_coder_7d493 gw_nil)
theorem g_f_J0_length_8abf5_f_J0_coder_7d493_335 : GoodIn v_f_J0_length_8abf5 (wsV RJ0 335 RJ0 yJ0_coder_7d493 v_f_J0_coder_7d493) := goodIn_in gw_f_J0_length_8abf5 (in4 2 3 4 5 rfl rfl rfl rfl (fun _ h => List.mem_cons_of_mem _ (List.mem_append_right _ (List.mem_append_left _ h))))
theorem hd_J0_length_8abf5 : yJ0_length_8abf5.cls = RJ0 ∧ yJ0_length_8abf5.cls ≠ "java/lang/invoke/MethodHandle" ∧ yJ0_length_8abf5.cls ≠ "java/lang/invoke/VarHandle" ∧ (parseMethodDescriptor yJ0_length_8abf5.desc).map (fun d => d.parameters.length) = some 0 := by decide +kernel
set_option maxHeartbeats 4000000 in
set_option maxRecDepth 100000 in
theorem f_J0_length_8abf5 (l : Launch) (E : EE) (z9 : Nat → Nat) {p0 : Nat} {rr : Int32} (hF : F_J0_length_8abf5 p0 = some rr) : Met l yJ0_length_8abf5 v_f_J0_length_8abf5 (({ frames := 1, cells := 0, slots := 0, locals := 20 } : Room)) (va_Pc [.ref (z9 (20 + p0))] (qPZ E z9 [])) (vp_Si (fun q : Int32 => q = rr)) 0 0 (fun _ => False) := by
  refine Met.ofWF (cc := cJ0_length_8abf5) (maxL := 1) (ret := (some .int)) (by decide +kernel) rfl ?_
  intro p e s m args below meth c s₁ B hml hv
  obtain ⟨rfl, ⟨hK, hN⟩, hP, hZ⟩ := hv
  have hx := B.exec
  have hb := B.bytes
  have hr := B.returns
  have hts := atoms_spec (ws := v_f_J0_length_8abf5) B.pre
  have hown : s.vm.findClass RJ0 = some m.cls := own_of hd_J0_length_8abf5.1 (findClass_of_methodNamed B.named)
  have hlocks : meth.locks = false := B.notSynchronized
  replace hP : va_P E.1 vwCl [] s.heap := hP
  have hl := lv_entry ([.ref (z9 (20 + p0))]) (n := 1) (Nat.le_of_ble_eq_true rfl)
  rw [lg_entry_eq]
  generalize (lg_sl ([.ref (z9 (20 + p0))]) ++ List.replicate (1 - (lg_sl ([.ref (z9 (20 + p0))])).length) Slot.unset).toArray = ls at hl ⊢
  have hl : lv_has ls 1 [(0, .ref (z9 (20 + p0)))] := hl
  obtain ⟨Q, hQ⟩ : ∃ Q : State → Prop, Q = MQ below (vp_Si (fun q : Int32 => q = rr)) #[Value.ref (z9 (20 + p0))] s 0 0 (fun _ => False) := ⟨_, rfl⟩
  rw [← hQ]
  change W p l e ({ frames := 1, cells := 0, slots := 0, locals := 20 } : Room) s m #[Value.ref (z9 (20 + p0))] below meth c s.heap [] 0 0 Q (F0 m 0 ls [])
  unfold F_J0_length_8abf5 at hF
  refine lv_aload_n hx hb (dq_42 0 bcJ0_length_8abf5_0 (j := 0) rfl rfl) rfl (lv_at hl 0 rfl) ?_
  replace hF := ltF_s hF
  obtain ⟨hs_1, hF⟩ := hF
  refine vk_getf (v := .ref (z9 (40 + p0))) hx hb ((hZ.2.2.2.1.1 p0 hs_1).2.2.1) (va_S.rf) hown (hts (.fieldLink RJ0 9 "java/lang/String" "value" "[B") (List.mem_of_getElem? (i := 1) rfl)) (fun _ h9 => h9) (dq_180 0 bcJ0_length_8abf5_0 (j := 1) (i := 9) rfl rfl rfl) ?_
  replace hF := ltF_s hF
  obtain ⟨hs_2, hF⟩ := hF
  refine va_tlen (v := (Int32.ofNat (strL.getD p0 0))) hx hb ((hZ.2.2.2.1.1 p0 hs_2).2.2.2) (va_S.rf) rfl (dq_190 0 bcJ0_length_8abf5_0 (j := 4) rfl rfl) ?_
  refine lv_aload_n hx hb (dq_42 0 bcJ0_length_8abf5_0 (j := 5) rfl rfl) rfl (lv_at hl 0 rfl) ?_
  replace hF := ltF_s hF
  obtain ⟨hs_4, hF⟩ := hF
  replace hF := bd1_s hF
  obtain ⟨r_3, hc_5, hF⟩ := hF
  have hPc : va_P E.1 vwCl [] s.heap := fun k q h => by simp at h
  refine pE_b (va_runV (As := []) (rest := [.int (Int32.ofNat (strL.getD p0 0))])  ⟨hx, hb, hml, hown, hts⟩ (f_J0_coder_7d493 l E z9 (p0 := p0) hc_5) (cwV 0 hts g_f_J0_length_8abf5_f_J0_coder_7d493_335 rfl rfl rfl hd_J0_coder_7d493 ⟨Nat.le_of_ble_eq_true rfl, Nat.le_of_ble_eq_true rfl⟩) ⟨qPZ.blind, vk_recv hZ.2.2.2.1 hs_4 (va_S.rf), (qPZ.pre0 ⟨hK, hN⟩ hPc hZ)⟩ rfl rfl hl.1 rfl (lv_room (Nat.le_of_ble_eq_true rfl)) (dq_182 0 bcJ0_length_8abf5_0 (j := 6) (i := 335) rfl rfl rfl) ⟨Nat.le_of_ble_eq_true rfl, Nat.le_of_ble_eq_true rfl⟩) (fun hb_6 => ?_)
  refine lv_ishr hx hb (dq_122 0 bcJ0_length_8abf5_0 (j := 9) rfl rfl) ?_
  rw [hQ]
  obtain e9_0 := inj1 hF
  exact W.iret (v := (Int32.ofNat (strL.getD p0 0)) >>> (r_3 &&& (31 : Int32))) hx hb hr (fun tt ht hW => ⟨_, rfl, e9_0, ht⟩) (fun _ h => by cases h) (dq_172 0 bcJ0_length_8abf5_0 (j := 10) rfl rfl)

def F_J0_isLatin1_aae02 (p0 : Nat) : Option (Int32) :=
  ltF p0 15 (some (1 : Int32))

def v_f_J0_isLatin1_aae02 : List Cond := List.cons (.code yJ0_isLatin1_aae02 cJ0_isLatin1_aae02 1 (some .boolean)) (HAppend.hAppend (α := List Cond) (β := List Cond) (γ := List Cond) [.fieldLink RJ0 38 "java/lang/String" "COMPACT_STRINGS" "Z", .fieldLink RJ0 15 "java/lang/String" "coder" "B"] [])
theorem gw_f_J0_isLatin1_aae02 : v_f_J0_isLatin1_aae02.all goodWord = true := gw_c2 (by decide +kernel) gw_nil
theorem hd_J0_isLatin1_aae02 : yJ0_isLatin1_aae02.cls = RJ0 ∧ yJ0_isLatin1_aae02.cls ≠ "java/lang/invoke/MethodHandle" ∧ yJ0_isLatin1_aae02.cls ≠ "java/lang/invoke/VarHandle" ∧ (parseMethodDescriptor yJ0_isLatin1_aae02.desc).map (fun d => d.parameters.length) = some 0 := by decide +kernel
set_option maxHeartbeats 4000000 in
set_option maxRecDepth 100000 in
theorem f_J0_isLatin1_aae02 (l : Launch) (E : EE) (z9 : Nat → Nat) {p0 : Nat} {rr : Int32} (hF : F_J0_isLatin1_aae02 p0 = some rr) : Met l yJ0_isLatin1_aae02 v_f_J0_isLatin1_aae02 (({ frames := 0, cells := 0, slots := 0, locals := 0 } : Room)) (va_Pc [.ref (z9 (20 + p0))] (qPZ E z9 [])) (vp_Si (fun q : Int32 => q = rr ∧ (q = 0 ∨ q = 1))) 0 0 (fun _ => False) := by
  refine Met.ofWF (cc := cJ0_isLatin1_aae02) (maxL := 1) (ret := (some .boolean)) (by decide +kernel) rfl ?_
  intro p e s m args below meth c s₁ B hml hv
  obtain ⟨rfl, ⟨hK, hN⟩, hP, hZ⟩ := hv
  have hx := B.exec
  have hb := B.bytes
  have hr := B.returns
  have hts := atoms_spec (ws := v_f_J0_isLatin1_aae02) B.pre
  have hown : s.vm.findClass RJ0 = some m.cls := own_of hd_J0_isLatin1_aae02.1 (findClass_of_methodNamed B.named)
  have hlocks : meth.locks = false := B.notSynchronized
  replace hP : va_P E.1 vwCl [] s.heap := hP
  have hl := lv_entry ([.ref (z9 (20 + p0))]) (n := 1) (Nat.le_of_ble_eq_true rfl)
  rw [lg_entry_eq]
  generalize (lg_sl ([.ref (z9 (20 + p0))]) ++ List.replicate (1 - (lg_sl ([.ref (z9 (20 + p0))])).length) Slot.unset).toArray = ls at hl ⊢
  have hl : lv_has ls 1 [(0, .ref (z9 (20 + p0)))] := hl
  obtain ⟨Q, hQ⟩ : ∃ Q : State → Prop, Q = MQ below (vp_Si (fun q : Int32 => q = rr ∧ (q = 0 ∨ q = 1))) #[Value.ref (z9 (20 + p0))] s 0 0 (fun _ => False) := ⟨_, rfl⟩
  rw [← hQ]
  change W p l e ({ frames := 0, cells := 0, slots := 0, locals := 0 } : Room) s m #[Value.ref (z9 (20 + p0))] below meth c s.heap [] 0 0 Q (F0 m 0 ls [])
  unfold F_J0_isLatin1_aae02 at hF
  refine va_gets hx hb hZ.2.2.1.1 (va_S.rf) hown (hts (.fieldLink RJ0 38 "java/lang/String" "COMPACT_STRINGS" "Z") (List.mem_of_getElem? (i := 1) rfl)) (fun _ h9 => h9) (dq_178 0 bcJ0_isLatin1_aae02_0 (j := 0) (i := 38) rfl rfl rfl) ?_
  refine lv_if_eq (tgt := 17) hx hb (dq_153 0 bcJ0_isLatin1_aae02_0 (j := 3) (i := 14) rfl rfl rfl) (by decide) (fun q => absurd q (by decide)) (fun _ => ?_)
  refine lv_aload_n hx hb (dq_42 0 bcJ0_isLatin1_aae02_0 (j := 6) rfl rfl) rfl (lv_at hl 0 rfl) ?_
  replace hF := ltF_s hF
  obtain ⟨hs_1, hF⟩ := hF
  refine vk_getf (v := .int (0 : Int32)) hx hb ((hZ.2.2.2.1.1 p0 hs_1).2.1) (va_S.rf) hown (hts (.fieldLink RJ0 15 "java/lang/String" "coder" "B") (List.mem_of_getElem? (i := 2) rfl)) (fun _ h9 => h9) (dq_180 0 bcJ0_isLatin1_aae02_0 (j := 7) (i := 15) rfl rfl rfl) ?_
  refine lv_if_ne (tgt := 17) hx hb (dq_154 0 bcJ0_isLatin1_aae02_0 (j := 10) (i := 7) rfl rfl rfl) (by decide) (fun q => absurd (by decide) q) (fun _ => ?_)
  refine lv_iconst (v := 1) hx hb (dq_4 0 bcJ0_isLatin1_aae02_0 (j := 13) rfl rfl) (by decide) ?_
  refine lv_goto (tgt := 18) hx hb (dq_167 0 bcJ0_isLatin1_aae02_0 (j := 14) (i := 4) rfl rfl rfl) (by decide) ?_
  rw [hQ]
  obtain e9_0 := inj1 hF
  exact W.zret (v := (1 : Int32)) hx hb hr rfl (fun tt ht hW => ⟨_, rfl, ⟨e9_0, Or.inr rfl⟩, ht⟩) (fun _ h => by cases h) (dq_172 0 bcJ0_isLatin1_aae02_0 (j := 18) rfl rfl)

def F_J0_charAt_5068e (p0 : Nat) (p1 : Int32) : Option (Int32) :=
  ltF p0 15 (bd1 (F_J0_isLatin1_aae02 p0) (fun r_1 => if r_1 = (0 : Int32) then none else ltF p0 15 (bd1 (F_J1_charAt_3b067 p0 p1) (fun r_7 => some r_7))))

def v_f_J0_charAt_5068e : List Cond := List.cons (.code yJ0_charAt_5068e cJ0_charAt_5068e 2 (some .char)) (HAppend.hAppend (α := List Cond) (β := List Cond) (γ := List Cond) [.fieldLink RJ0 9 "java/lang/String" "value" "[B", .methodLink RJ0 492 yJ0_isLatin1_aae02, .instanceMethod yJ0_isLatin1_aae02, .selects RJ0 yJ0_isLatin1_aae02 yJ0_isLatin1_aae02, .initialized RJ0, .methodLink RJ0 495 yJ1_charAt_3b067, .static yJ1_charAt_3b067, .initialized RJ1] (HAppend.hAppend (α := List Cond) (β := List Cond) (γ := List Cond) v_f_J0_isLatin1_aae02 (HAppend.hAppend (α := List Cond) (β := List Cond) (γ := List Cond) v_f_J1_charAt_3b067 [])))
theorem gw_f_J0_charAt_5068e : v_f_J0_charAt_5068e.all goodWord = true := gw_c2 (by decide +kernel) (gw_ap gw_f_J0_isLatin1_aae02 (gw_ap gw_f_J1_charAt_3b067 gw_nil))
theorem g_f_J0_charAt_5068e_f_J0_isLatin1_aae02_492 : GoodIn v_f_J0_charAt_5068e (wsV RJ0 492 RJ0 yJ0_isLatin1_aae02 v_f_J0_isLatin1_aae02) := goodIn_in gw_f_J0_charAt_5068e (in4 2 3 4 5 rfl rfl rfl rfl (fun _ h => List.mem_cons_of_mem _ (List.mem_append_right _ (List.mem_append_left _ h))))
theorem g_f_J0_charAt_5068e_f_J1_charAt_3b067_495 : GoodIn v_f_J0_charAt_5068e (va_wsS RJ0 495 yJ1_charAt_3b067 v_f_J1_charAt_3b067) := goodIn_in gw_f_J0_charAt_5068e (in3 6 7 8 rfl rfl rfl (fun _ h => List.mem_cons_of_mem _ (List.mem_append_right _ (List.mem_append_right _ (List.mem_append_left _ h)))))
theorem hd_J0_charAt_5068e : yJ0_charAt_5068e.cls = RJ0 ∧ yJ0_charAt_5068e.cls ≠ "java/lang/invoke/MethodHandle" ∧ yJ0_charAt_5068e.cls ≠ "java/lang/invoke/VarHandle" ∧ (parseMethodDescriptor yJ0_charAt_5068e.desc).map (fun d => d.parameters.length) = some 1 := by decide +kernel
set_option maxHeartbeats 4000000 in
set_option maxRecDepth 100000 in
theorem f_J0_charAt_5068e (l : Launch) (E : EE) (z9 : Nat → Nat) {p0 : Nat} {p1 : Int32} {rr : Int32} (hF : F_J0_charAt_5068e p0 p1 = some rr) : Met l yJ0_charAt_5068e v_f_J0_charAt_5068e (({ frames := 3, cells := 0, slots := 0, locals := 64 } : Room)) (va_Pc [.ref (z9 (20 + p0)), .int p1] (qPZ E z9 [])) (vp_Si (fun q : Int32 => q = rr ∧ narrow .char (.int q) = .int q)) 0 0 (fun _ => False) := by
  refine Met.ofWF (cc := cJ0_charAt_5068e) (maxL := 2) (ret := (some .char)) (by decide +kernel) rfl ?_
  intro p e s m args below meth c s₁ B hml hv
  obtain ⟨rfl, ⟨hK, hN⟩, hP, hZ⟩ := hv
  have hx := B.exec
  have hb := B.bytes
  have hr := B.returns
  have hts := atoms_spec (ws := v_f_J0_charAt_5068e) B.pre
  have hown : s.vm.findClass RJ0 = some m.cls := own_of hd_J0_charAt_5068e.1 (findClass_of_methodNamed B.named)
  have hlocks : meth.locks = false := B.notSynchronized
  replace hP : va_P E.1 vwCl [] s.heap := hP
  have hl := lv_entry ([.ref (z9 (20 + p0)), .int p1]) (n := 2) (Nat.le_of_ble_eq_true rfl)
  rw [lg_entry_eq]
  generalize (lg_sl ([.ref (z9 (20 + p0)), .int p1]) ++ List.replicate (2 - (lg_sl ([.ref (z9 (20 + p0)), .int p1])).length) Slot.unset).toArray = ls at hl ⊢
  have hl : lv_has ls 2 [(0, .ref (z9 (20 + p0))), (1, .int p1)] := hl
  obtain ⟨Q, hQ⟩ : ∃ Q : State → Prop, Q = MQ below (vp_Si (fun q : Int32 => q = rr ∧ narrow .char (.int q) = .int q)) #[Value.ref (z9 (20 + p0)), Value.int p1] s 0 0 (fun _ => False) := ⟨_, rfl⟩
  rw [← hQ]
  change W p l e ({ frames := 3, cells := 0, slots := 0, locals := 64 } : Room) s m #[Value.ref (z9 (20 + p0)), Value.int p1] below meth c s.heap [] 0 0 Q (F0 m 0 ls [])
  unfold F_J0_charAt_5068e at hF
  refine lv_aload_n hx hb (dq_42 0 bcJ0_charAt_5068e_0 (j := 0) rfl rfl) rfl (lv_at hl 0 rfl) ?_
  replace hF := ltF_s hF
  obtain ⟨hs_2, hF⟩ := hF
  replace hF := bd1_s hF
  obtain ⟨r_1, hc_3, hF⟩ := hF
  have hPc : va_P E.1 vwCl [] s.heap := fun k q h => by simp at h
  refine pE_z (va_runV (As := []) (rest := [])  ⟨hx, hb, hml, hown, hts⟩ (f_J0_isLatin1_aae02 l E z9 (p0 := p0) hc_3) (cwV 0 hts g_f_J0_charAt_5068e_f_J0_isLatin1_aae02_492 rfl rfl rfl hd_J0_isLatin1_aae02 ⟨Nat.le_of_ble_eq_true rfl, Nat.le_of_ble_eq_true rfl⟩) ⟨qPZ.blind, vk_recv hZ.2.2.2.1 hs_2 (va_S.rf), (qPZ.pre0 ⟨hK, hN⟩ hPc hZ)⟩ rfl rfl hl.1 rfl (lv_room (Nat.le_of_ble_eq_true rfl)) (dq_182 0 bcJ0_charAt_5068e_0 (j := 1) (i := 492) rfl rfl rfl) ⟨Nat.le_of_ble_eq_true rfl, Nat.le_of_ble_eq_true rfl⟩) (fun hb_4 => ?_)
  refine lv_if_eq (tgt := 16) hx hb (dq_153 0 bcJ0_charAt_5068e_0 (j := 4) (i := 12) rfl rfl rfl) (by decide) (fun c_5 => ?_) (fun c_5 => ?_)
  ·
    replace hF := ip c_5 hF
    cases hF
  ·
    replace hF := inn c_5 hF
    refine lv_aload_n hx hb (dq_42 0 bcJ0_charAt_5068e_0 (j := 7) rfl rfl) rfl (lv_at hl 0 rfl) ?_
    replace hF := ltF_s hF
    obtain ⟨hs_6, hF⟩ := hF
    refine vk_getf (v := .ref (z9 (40 + p0))) hx hb ((hZ.2.2.2.1.1 p0 hs_6).2.2.1) (va_S.rf) hown (hts (.fieldLink RJ0 9 "java/lang/String" "value" "[B") (List.mem_of_getElem? (i := 1) rfl)) (fun _ h9 => h9) (dq_180 0 bcJ0_charAt_5068e_0 (j := 8) (i := 9) rfl rfl rfl) ?_
    refine lv_iload_n hx hb (dq_27 0 bcJ0_charAt_5068e_0 (j := 11) rfl rfl) rfl (lv_at hl 1 rfl) ?_
    replace hF := bd1_s hF
    obtain ⟨r_7, hc_8, hF⟩ := hF
    have hPc : va_P E.1 vwCl [] s.heap := fun k q h => by simp at h
    refine pE_c (va_runS (As := [.ref (z9 (40 + p0)), .int p1]) (rest := [])  ⟨hx, hb, hml, hown, hts⟩ (f_J1_charAt_3b067 l E z9 (p0 := p0) (p1 := p1) hc_8) (va_cwS 2 hts g_f_J0_charAt_5068e_f_J1_charAt_3b067_495 rfl rfl rfl hd_J1_charAt_3b067.2 ⟨Nat.le_of_ble_eq_true rfl, Nat.le_of_ble_eq_true rfl⟩) ⟨qPZ.blind, (qPZ.pre0 ⟨hK, hN⟩ hPc hZ)⟩ rfl rfl hl.1 rfl (lv_room (Nat.le_of_ble_eq_true rfl)) (dq_184 0 bcJ0_charAt_5068e_0 (j := 12) (i := 495) rfl rfl rfl) ⟨Nat.le_of_ble_eq_true rfl, Nat.le_of_ble_eq_true rfl⟩) (fun hb_9 => ?_)
    rw [hQ]
    obtain e9_0 := inj1 hF
    exact W.zret (v := r_7) hx hb hr hb_9 (fun tt ht hW => ⟨_, rfl, ⟨e9_0, hb_9⟩, ht⟩) (fun _ h => by cases h) (dq_172 0 bcJ0_charAt_5068e_0 (j := 15) rfl rfl)
end
