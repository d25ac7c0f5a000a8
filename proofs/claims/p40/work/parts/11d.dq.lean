
/-- the byte at p of a code, as a number -/
def BN (c : ByteArray) (p v : Nat) : Prop := ∃ hp : p < c.size, c[p].toNat = v
theorem bn_in {c : ByteArray} (k : Nat) {M : List Nat} (h : ((c.data.toList.drop k).take M.length).map UInt8.toNat = M) {j p v : Nat} (hp : k + j = p) (hb : M[j]? = some v) : BN c p v := by
  have hj : j < M.length := (List.getElem?_eq_some_iff.mp hb).1
  rw [← h, List.getElem?_map, List.getElem?_take, if_pos hj, List.getElem?_drop] at hb
  obtain ⟨b, h1, h2⟩ := Option.map_eq_some_iff.mp hb
  obtain ⟨hp2, e⟩ := List.getElem?_eq_some_iff.mp h1
  subst hp
  exact ⟨hp2, (congrArg UInt8.toNat e).trans h2⟩
theorem bn_cut {M : List Nat} {j n i : Nat} {L : List Nat} (hb : (M.drop j).take n = L) {v : Nat} (hv : L[i]? = some v) : M[j + i]? = some v := by
  rw [← hb] at hv
  have hi : i < n := by
    apply Classical.byContradiction
    intro q
    rw [List.getElem?_take, if_neg q] at hv
    cases hv
  rw [List.getElem?_take, if_pos hi, List.getElem?_drop] at hv
  exact hv
theorem bn1 {c : ByteArray} (k : Nat) {M : List Nat} (h : ((c.data.toList.drop k).take M.length).map UInt8.toNat = M) {j p x : Nat} (hp : k + j = p) (hb : (M.drop j).take 1 = [x]) : BN c p x :=
  bn_in k h (j := j + 0) (by omega) (bn_cut hb (i := 0) rfl)
theorem bn2 {c : ByteArray} (k : Nat) {M : List Nat} (h : ((c.data.toList.drop k).take M.length).map UInt8.toNat = M) {j p x a : Nat} (hp : k + j = p) (hb : (M.drop j).take 2 = [x, a]) : BN c p x ∧ BN c (p + 1) a :=
  ⟨bn_in k h (j := j + 0) (by omega) (bn_cut hb (i := 0) rfl), bn_in k h (j := j + 1) (by omega) (bn_cut hb (i := 1) rfl)⟩
theorem bn3 {c : ByteArray} (k : Nat) {M : List Nat} (h : ((c.data.toList.drop k).take M.length).map UInt8.toNat = M) {j p x a b : Nat} (hp : k + j = p) (hb : (M.drop j).take 3 = [x, a, b]) : BN c p x ∧ BN c (p + 1) a ∧ BN c (p + 1 + 1) b :=
  ⟨bn_in k h (j := j + 0) (by omega) (bn_cut hb (i := 0) rfl), bn_in k h (j := j + 1) (by omega) (bn_cut hb (i := 1) rfl), bn_in k h (j := j + 2) (by omega) (bn_cut hb (i := 2) rfl)⟩
theorem u1_n {c : ByteArray} {p v : Nat} (h : BN c p v) : (Reader.u1 : Decoder Nat) c p = .ok (v, p + 1) := by
  obtain ⟨hp, e⟩ := h
  have w : (Reader.u1 : Decoder Nat) c p = (dite (p < c.size) (fun h => (do set (p + 1); pure c[p].toNat : Decoder Nat)) (fun _ => throw (HasTruncated.truncated p))) c p := rfl
  rw [w, dif_pos hp, e]
  rfl
theorem u2_n {c : ByteArray} {p a b : Nat} (h : BN c p a) (h1 : BN c (p + 1) b) : (Reader.u2 : Decoder Nat) c p = .ok (a * 256 + b, p + 2) := by
  show (bind ((Reader.u1 : Decoder Nat) c p) _ : Except DecodeError (Nat × Nat)) = _
  rw [u1_n h]
  show (bind ((Reader.u1 : Decoder Nat) c (p + 1)) _ : Except DecodeError (Nat × Nat)) = _
  rw [u1_n h1]
  rfl
theorem s2_n {c : ByteArray} {p a b : Nat} (h : BN c p a) (h1 : BN c (p + 1) b) : (Reader.s2 : Decoder Int) c p = .ok (Reader.signed 16 (a * 256 + b), p + 2) := by
  show (bind ((Reader.u2 : Decoder Nat) c p) _ : Except DecodeError (Int × Nat)) = _
  rw [u2_n h h1]
  rfl
theorem s1_n {c : ByteArray} {p a : Nat} (h : BN c p a) : (Reader.s1 : Decoder Int) c p = .ok (Reader.signed 8 a, p + 1) := by
  show (bind ((Reader.u1 : Decoder Nat) c p) _ : Except DecodeError (Int × Nat)) = _
  rw [u1_n h]
  rfl
theorem dq_l1 (p : Nat) : p + 1 - p = 1 := by omega
theorem dq_l2 (p : Nat) : p + 1 + 1 - p = 2 := by omega
theorem dq_l3 (p : Nat) : p + 1 + 2 - p = 3 := by omega
theorem dq_l4 (p : Nat) : p + 1 + 1 + 1 - p = 3 := by omega
theorem dq_2 {c : ByteArray} (k : Nat) {M : List Nat} (h : ((c.data.toList.drop k).take M.length).map UInt8.toNat = M) {j pc : Nat} (hp : k + j = pc) (hb : (M.drop j).take 1 = [2]) : decode c pc = .ok (.iconst (-1), 1) := by
  show (bind (bind ((Reader.u1 : Decoder Nat) c pc) _) _ : Except DecodeError (Instr × Nat)) = _
  rw [u1_n (bn1 k h hp hb)]
  show Except.ok ((.iconst (-1) : Instr), pc + 1 - pc) = _
  rw [dq_l1]
theorem dq_3 {c : ByteArray} (k : Nat) {M : List Nat} (h : ((c.data.toList.drop k).take M.length).map UInt8.toNat = M) {j pc : Nat} (hp : k + j = pc) (hb : (M.drop j).take 1 = [3]) : decode c pc = .ok (.iconst 0, 1) := by
  show (bind (bind ((Reader.u1 : Decoder Nat) c pc) _) _ : Except DecodeError (Instr × Nat)) = _
  rw [u1_n (bn1 k h hp hb)]
  show Except.ok ((.iconst 0 : Instr), pc + 1 - pc) = _
  rw [dq_l1]
theorem dq_4 {c : ByteArray} (k : Nat) {M : List Nat} (h : ((c.data.toList.drop k).take M.length).map UInt8.toNat = M) {j pc : Nat} (hp : k + j = pc) (hb : (M.drop j).take 1 = [4]) : decode c pc = .ok (.iconst 1, 1) := by
  show (bind (bind ((Reader.u1 : Decoder Nat) c pc) _) _ : Except DecodeError (Instr × Nat)) = _
  rw [u1_n (bn1 k h hp hb)]
  show Except.ok ((.iconst 1 : Instr), pc + 1 - pc) = _
  rw [dq_l1]
theorem dq_5 {c : ByteArray} (k : Nat) {M : List Nat} (h : ((c.data.toList.drop k).take M.length).map UInt8.toNat = M) {j pc : Nat} (hp : k + j = pc) (hb : (M.drop j).take 1 = [5]) : decode c pc = .ok (.iconst 2, 1) := by
  show (bind (bind ((Reader.u1 : Decoder Nat) c pc) _) _ : Except DecodeError (Instr × Nat)) = _
  rw [u1_n (bn1 k h hp hb)]
  show Except.ok ((.iconst 2 : Instr), pc + 1 - pc) = _
  rw [dq_l1]
theorem dq_6 {c : ByteArray} (k : Nat) {M : List Nat} (h : ((c.data.toList.drop k).take M.length).map UInt8.toNat = M) {j pc : Nat} (hp : k + j = pc) (hb : (M.drop j).take 1 = [6]) : decode c pc = .ok (.iconst 3, 1) := by
  show (bind (bind ((Reader.u1 : Decoder Nat) c pc) _) _ : Except DecodeError (Instr × Nat)) = _
  rw [u1_n (bn1 k h hp hb)]
  show Except.ok ((.iconst 3 : Instr), pc + 1 - pc) = _
  rw [dq_l1]
theorem dq_7 {c : ByteArray} (k : Nat) {M : List Nat} (h : ((c.data.toList.drop k).take M.length).map UInt8.toNat = M) {j pc : Nat} (hp : k + j = pc) (hb : (M.drop j).take 1 = [7]) : decode c pc = .ok (.iconst 4, 1) := by
  show (bind (bind ((Reader.u1 : Decoder Nat) c pc) _) _ : Except DecodeError (Instr × Nat)) = _
  rw [u1_n (bn1 k h hp hb)]
  show Except.ok ((.iconst 4 : Instr), pc + 1 - pc) = _
  rw [dq_l1]
theorem dq_8 {c : ByteArray} (k : Nat) {M : List Nat} (h : ((c.data.toList.drop k).take M.length).map UInt8.toNat = M) {j pc : Nat} (hp : k + j = pc) (hb : (M.drop j).take 1 = [8]) : decode c pc = .ok (.iconst 5, 1) := by
  show (bind (bind ((Reader.u1 : Decoder Nat) c pc) _) _ : Except DecodeError (Instr × Nat)) = _
  rw [u1_n (bn1 k h hp hb)]
  show Except.ok ((.iconst 5 : Instr), pc + 1 - pc) = _
  rw [dq_l1]
theorem dq_9 {c : ByteArray} (k : Nat) {M : List Nat} (h : ((c.data.toList.drop k).take M.length).map UInt8.toNat = M) {j pc : Nat} (hp : k + j = pc) (hb : (M.drop j).take 1 = [9]) : decode c pc = .ok (.lconst 0, 1) := by
  show (bind (bind ((Reader.u1 : Decoder Nat) c pc) _) _ : Except DecodeError (Instr × Nat)) = _
  rw [u1_n (bn1 k h hp hb)]
  show Except.ok ((.lconst 0 : Instr), pc + 1 - pc) = _
  rw [dq_l1]
theorem dq_10 {c : ByteArray} (k : Nat) {M : List Nat} (h : ((c.data.toList.drop k).take M.length).map UInt8.toNat = M) {j pc : Nat} (hp : k + j = pc) (hb : (M.drop j).take 1 = [10]) : decode c pc = .ok (.lconst 1, 1) := by
  show (bind (bind ((Reader.u1 : Decoder Nat) c pc) _) _ : Except DecodeError (Instr × Nat)) = _
  rw [u1_n (bn1 k h hp hb)]
  show Except.ok ((.lconst 1 : Instr), pc + 1 - pc) = _
  rw [dq_l1]
theorem dq_26 {c : ByteArray} (k : Nat) {M : List Nat} (h : ((c.data.toList.drop k).take M.length).map UInt8.toNat = M) {j pc : Nat} (hp : k + j = pc) (hb : (M.drop j).take 1 = [26]) : decode c pc = .ok (.iload_n 0, 1) := by
  show (bind (bind ((Reader.u1 : Decoder Nat) c pc) _) _ : Except DecodeError (Instr × Nat)) = _
  rw [u1_n (bn1 k h hp hb)]
  show Except.ok ((.iload_n 0 : Instr), pc + 1 - pc) = _
  rw [dq_l1]
theorem dq_27 {c : ByteArray} (k : Nat) {M : List Nat} (h : ((c.data.toList.drop k).take M.length).map UInt8.toNat = M) {j pc : Nat} (hp : k + j = pc) (hb : (M.drop j).take 1 = [27]) : decode c pc = .ok (.iload_n 1, 1) := by
  show (bind (bind ((Reader.u1 : Decoder Nat) c pc) _) _ : Except DecodeError (Instr × Nat)) = _
  rw [u1_n (bn1 k h hp hb)]
  show Except.ok ((.iload_n 1 : Instr), pc + 1 - pc) = _
  rw [dq_l1]
theorem dq_28 {c : ByteArray} (k : Nat) {M : List Nat} (h : ((c.data.toList.drop k).take M.length).map UInt8.toNat = M) {j pc : Nat} (hp : k + j = pc) (hb : (M.drop j).take 1 = [28]) : decode c pc = .ok (.iload_n 2, 1) := by
  show (bind (bind ((Reader.u1 : Decoder Nat) c pc) _) _ : Except DecodeError (Instr × Nat)) = _
  rw [u1_n (bn1 k h hp hb)]
  show Except.ok ((.iload_n 2 : Instr), pc + 1 - pc) = _
  rw [dq_l1]
theorem dq_29 {c : ByteArray} (k : Nat) {M : List Nat} (h : ((c.data.toList.drop k).take M.length).map UInt8.toNat = M) {j pc : Nat} (hp : k + j = pc) (hb : (M.drop j).take 1 = [29]) : decode c pc = .ok (.iload_n 3, 1) := by
  show (bind (bind ((Reader.u1 : Decoder Nat) c pc) _) _ : Except DecodeError (Instr × Nat)) = _
  rw [u1_n (bn1 k h hp hb)]
  show Except.ok ((.iload_n 3 : Instr), pc + 1 - pc) = _
  rw [dq_l1]
theorem dq_30 {c : ByteArray} (k : Nat) {M : List Nat} (h : ((c.data.toList.drop k).take M.length).map UInt8.toNat = M) {j pc : Nat} (hp : k + j = pc) (hb : (M.drop j).take 1 = [30]) : decode c pc = .ok (.lload_n 0, 1) := by
  show (bind (bind ((Reader.u1 : Decoder Nat) c pc) _) _ : Except DecodeError (Instr × Nat)) = _
  rw [u1_n (bn1 k h hp hb)]
  show Except.ok ((.lload_n 0 : Instr), pc + 1 - pc) = _
  rw [dq_l1]
theorem dq_31 {c : ByteArray} (k : Nat) {M : List Nat} (h : ((c.data.toList.drop k).take M.length).map UInt8.toNat = M) {j pc : Nat} (hp : k + j = pc) (hb : (M.drop j).take 1 = [31]) : decode c pc = .ok (.lload_n 1, 1) := by
  show (bind (bind ((Reader.u1 : Decoder Nat) c pc) _) _ : Except DecodeError (Instr × Nat)) = _
  rw [u1_n (bn1 k h hp hb)]
  show Except.ok ((.lload_n 1 : Instr), pc + 1 - pc) = _
  rw [dq_l1]
theorem dq_32 {c : ByteArray} (k : Nat) {M : List Nat} (h : ((c.data.toList.drop k).take M.length).map UInt8.toNat = M) {j pc : Nat} (hp : k + j = pc) (hb : (M.drop j).take 1 = [32]) : decode c pc = .ok (.lload_n 2, 1) := by
  show (bind (bind ((Reader.u1 : Decoder Nat) c pc) _) _ : Except DecodeError (Instr × Nat)) = _
  rw [u1_n (bn1 k h hp hb)]
  show Except.ok ((.lload_n 2 : Instr), pc + 1 - pc) = _
  rw [dq_l1]
theorem dq_33 {c : ByteArray} (k : Nat) {M : List Nat} (h : ((c.data.toList.drop k).take M.length).map UInt8.toNat = M) {j pc : Nat} (hp : k + j = pc) (hb : (M.drop j).take 1 = [33]) : decode c pc = .ok (.lload_n 3, 1) := by
  show (bind (bind ((Reader.u1 : Decoder Nat) c pc) _) _ : Except DecodeError (Instr × Nat)) = _
  rw [u1_n (bn1 k h hp hb)]
  show Except.ok ((.lload_n 3 : Instr), pc + 1 - pc) = _
  rw [dq_l1]
theorem dq_42 {c : ByteArray} (k : Nat) {M : List Nat} (h : ((c.data.toList.drop k).take M.length).map UInt8.toNat = M) {j pc : Nat} (hp : k + j = pc) (hb : (M.drop j).take 1 = [42]) : decode c pc = .ok (.aload_n 0, 1) := by
  show (bind (bind ((Reader.u1 : Decoder Nat) c pc) _) _ : Except DecodeError (Instr × Nat)) = _
  rw [u1_n (bn1 k h hp hb)]
  show Except.ok ((.aload_n 0 : Instr), pc + 1 - pc) = _
  rw [dq_l1]
theorem dq_43 {c : ByteArray} (k : Nat) {M : List Nat} (h : ((c.data.toList.drop k).take M.length).map UInt8.toNat = M) {j pc : Nat} (hp : k + j = pc) (hb : (M.drop j).take 1 = [43]) : decode c pc = .ok (.aload_n 1, 1) := by
  show (bind (bind ((Reader.u1 : Decoder Nat) c pc) _) _ : Except DecodeError (Instr × Nat)) = _
  rw [u1_n (bn1 k h hp hb)]
  show Except.ok ((.aload_n 1 : Instr), pc + 1 - pc) = _
  rw [dq_l1]
theorem dq_44 {c : ByteArray} (k : Nat) {M : List Nat} (h : ((c.data.toList.drop k).take M.length).map UInt8.toNat = M) {j pc : Nat} (hp : k + j = pc) (hb : (M.drop j).take 1 = [44]) : decode c pc = .ok (.aload_n 2, 1) := by
  show (bind (bind ((Reader.u1 : Decoder Nat) c pc) _) _ : Except DecodeError (Instr × Nat)) = _
  rw [u1_n (bn1 k h hp hb)]
  show Except.ok ((.aload_n 2 : Instr), pc + 1 - pc) = _
  rw [dq_l1]
theorem dq_45 {c : ByteArray} (k : Nat) {M : List Nat} (h : ((c.data.toList.drop k).take M.length).map UInt8.toNat = M) {j pc : Nat} (hp : k + j = pc) (hb : (M.drop j).take 1 = [45]) : decode c pc = .ok (.aload_n 3, 1) := by
  show (bind (bind ((Reader.u1 : Decoder Nat) c pc) _) _ : Except DecodeError (Instr × Nat)) = _
  rw [u1_n (bn1 k h hp hb)]
  show Except.ok ((.aload_n 3 : Instr), pc + 1 - pc) = _
  rw [dq_l1]
theorem dq_46 {c : ByteArray} (k : Nat) {M : List Nat} (h : ((c.data.toList.drop k).take M.length).map UInt8.toNat = M) {j pc : Nat} (hp : k + j = pc) (hb : (M.drop j).take 1 = [46]) : decode c pc = .ok (.iaload, 1) := by
  show (bind (bind ((Reader.u1 : Decoder Nat) c pc) _) _ : Except DecodeError (Instr × Nat)) = _
  rw [u1_n (bn1 k h hp hb)]
  show Except.ok ((.iaload : Instr), pc + 1 - pc) = _
  rw [dq_l1]
theorem dq_47 {c : ByteArray} (k : Nat) {M : List Nat} (h : ((c.data.toList.drop k).take M.length).map UInt8.toNat = M) {j pc : Nat} (hp : k + j = pc) (hb : (M.drop j).take 1 = [47]) : decode c pc = .ok (.laload, 1) := by
  show (bind (bind ((Reader.u1 : Decoder Nat) c pc) _) _ : Except DecodeError (Instr × Nat)) = _
  rw [u1_n (bn1 k h hp hb)]
  show Except.ok ((.laload : Instr), pc + 1 - pc) = _
  rw [dq_l1]
theorem dq_51 {c : ByteArray} (k : Nat) {M : List Nat} (h : ((c.data.toList.drop k).take M.length).map UInt8.toNat = M) {j pc : Nat} (hp : k + j = pc) (hb : (M.drop j).take 1 = [51]) : decode c pc = .ok (.baload, 1) := by
  show (bind (bind ((Reader.u1 : Decoder Nat) c pc) _) _ : Except DecodeError (Instr × Nat)) = _
  rw [u1_n (bn1 k h hp hb)]
  show Except.ok ((.baload : Instr), pc + 1 - pc) = _
  rw [dq_l1]
theorem dq_59 {c : ByteArray} (k : Nat) {M : List Nat} (h : ((c.data.toList.drop k).take M.length).map UInt8.toNat = M) {j pc : Nat} (hp : k + j = pc) (hb : (M.drop j).take 1 = [59]) : decode c pc = .ok (.istore_n 0, 1) := by
  show (bind (bind ((Reader.u1 : Decoder Nat) c pc) _) _ : Except DecodeError (Instr × Nat)) = _
  rw [u1_n (bn1 k h hp hb)]
  show Except.ok ((.istore_n 0 : Instr), pc + 1 - pc) = _
  rw [dq_l1]
theorem dq_60 {c : ByteArray} (k : Nat) {M : List Nat} (h : ((c.data.toList.drop k).take M.length).map UInt8.toNat = M) {j pc : Nat} (hp : k + j = pc) (hb : (M.drop j).take 1 = [60]) : decode c pc = .ok (.istore_n 1, 1) := by
  show (bind (bind ((Reader.u1 : Decoder Nat) c pc) _) _ : Except DecodeError (Instr × Nat)) = _
  rw [u1_n (bn1 k h hp hb)]
  show Except.ok ((.istore_n 1 : Instr), pc + 1 - pc) = _
  rw [dq_l1]
theorem dq_61 {c : ByteArray} (k : Nat) {M : List Nat} (h : ((c.data.toList.drop k).take M.length).map UInt8.toNat = M) {j pc : Nat} (hp : k + j = pc) (hb : (M.drop j).take 1 = [61]) : decode c pc = .ok (.istore_n 2, 1) := by
  show (bind (bind ((Reader.u1 : Decoder Nat) c pc) _) _ : Except DecodeError (Instr × Nat)) = _
  rw [u1_n (bn1 k h hp hb)]
  show Except.ok ((.istore_n 2 : Instr), pc + 1 - pc) = _
  rw [dq_l1]
theorem dq_62 {c : ByteArray} (k : Nat) {M : List Nat} (h : ((c.data.toList.drop k).take M.length).map UInt8.toNat = M) {j pc : Nat} (hp : k + j = pc) (hb : (M.drop j).take 1 = [62]) : decode c pc = .ok (.istore_n 3, 1) := by
  show (bind (bind ((Reader.u1 : Decoder Nat) c pc) _) _ : Except DecodeError (Instr × Nat)) = _
  rw [u1_n (bn1 k h hp hb)]
  show Except.ok ((.istore_n 3 : Instr), pc + 1 - pc) = _
  rw [dq_l1]
theorem dq_63 {c : ByteArray} (k : Nat) {M : List Nat} (h : ((c.data.toList.drop k).take M.length).map UInt8.toNat = M) {j pc : Nat} (hp : k + j = pc) (hb : (M.drop j).take 1 = [63]) : decode c pc = .ok (.lstore_n 0, 1) := by
  show (bind (bind ((Reader.u1 : Decoder Nat) c pc) _) _ : Except DecodeError (Instr × Nat)) = _
  rw [u1_n (bn1 k h hp hb)]
  show Except.ok ((.lstore_n 0 : Instr), pc + 1 - pc) = _
  rw [dq_l1]
theorem dq_64 {c : ByteArray} (k : Nat) {M : List Nat} (h : ((c.data.toList.drop k).take M.length).map UInt8.toNat = M) {j pc : Nat} (hp : k + j = pc) (hb : (M.drop j).take 1 = [64]) : decode c pc = .ok (.lstore_n 1, 1) := by
  show (bind (bind ((Reader.u1 : Decoder Nat) c pc) _) _ : Except DecodeError (Instr × Nat)) = _
  rw [u1_n (bn1 k h hp hb)]
  show Except.ok ((.lstore_n 1 : Instr), pc + 1 - pc) = _
  rw [dq_l1]
theorem dq_65 {c : ByteArray} (k : Nat) {M : List Nat} (h : ((c.data.toList.drop k).take M.length).map UInt8.toNat = M) {j pc : Nat} (hp : k + j = pc) (hb : (M.drop j).take 1 = [65]) : decode c pc = .ok (.lstore_n 2, 1) := by
  show (bind (bind ((Reader.u1 : Decoder Nat) c pc) _) _ : Except DecodeError (Instr × Nat)) = _
  rw [u1_n (bn1 k h hp hb)]
  show Except.ok ((.lstore_n 2 : Instr), pc + 1 - pc) = _
  rw [dq_l1]
theorem dq_66 {c : ByteArray} (k : Nat) {M : List Nat} (h : ((c.data.toList.drop k).take M.length).map UInt8.toNat = M) {j pc : Nat} (hp : k + j = pc) (hb : (M.drop j).take 1 = [66]) : decode c pc = .ok (.lstore_n 3, 1) := by
  show (bind (bind ((Reader.u1 : Decoder Nat) c pc) _) _ : Except DecodeError (Instr × Nat)) = _
  rw [u1_n (bn1 k h hp hb)]
  show Except.ok ((.lstore_n 3 : Instr), pc + 1 - pc) = _
  rw [dq_l1]
theorem dq_75 {c : ByteArray} (k : Nat) {M : List Nat} (h : ((c.data.toList.drop k).take M.length).map UInt8.toNat = M) {j pc : Nat} (hp : k + j = pc) (hb : (M.drop j).take 1 = [75]) : decode c pc = .ok (.astore_n 0, 1) := by
  show (bind (bind ((Reader.u1 : Decoder Nat) c pc) _) _ : Except DecodeError (Instr × Nat)) = _
  rw [u1_n (bn1 k h hp hb)]
  show Except.ok ((.astore_n 0 : Instr), pc + 1 - pc) = _
  rw [dq_l1]
theorem dq_76 {c : ByteArray} (k : Nat) {M : List Nat} (h : ((c.data.toList.drop k).take M.length).map UInt8.toNat = M) {j pc : Nat} (hp : k + j = pc) (hb : (M.drop j).take 1 = [76]) : decode c pc = .ok (.astore_n 1, 1) := by
  show (bind (bind ((Reader.u1 : Decoder Nat) c pc) _) _ : Except DecodeError (Instr × Nat)) = _
  rw [u1_n (bn1 k h hp hb)]
  show Except.ok ((.astore_n 1 : Instr), pc + 1 - pc) = _
  rw [dq_l1]
theorem dq_77 {c : ByteArray} (k : Nat) {M : List Nat} (h : ((c.data.toList.drop k).take M.length).map UInt8.toNat = M) {j pc : Nat} (hp : k + j = pc) (hb : (M.drop j).take 1 = [77]) : decode c pc = .ok (.astore_n 2, 1) := by
  show (bind (bind ((Reader.u1 : Decoder Nat) c pc) _) _ : Except DecodeError (Instr × Nat)) = _
  rw [u1_n (bn1 k h hp hb)]
  show Except.ok ((.astore_n 2 : Instr), pc + 1 - pc) = _
  rw [dq_l1]
theorem dq_78 {c : ByteArray} (k : Nat) {M : List Nat} (h : ((c.data.toList.drop k).take M.length).map UInt8.toNat = M) {j pc : Nat} (hp : k + j = pc) (hb : (M.drop j).take 1 = [78]) : decode c pc = .ok (.astore_n 3, 1) := by
  show (bind (bind ((Reader.u1 : Decoder Nat) c pc) _) _ : Except DecodeError (Instr × Nat)) = _
  rw [u1_n (bn1 k h hp hb)]
  show Except.ok ((.astore_n 3 : Instr), pc + 1 - pc) = _
  rw [dq_l1]
theorem dq_79 {c : ByteArray} (k : Nat) {M : List Nat} (h : ((c.data.toList.drop k).take M.length).map UInt8.toNat = M) {j pc : Nat} (hp : k + j = pc) (hb : (M.drop j).take 1 = [79]) : decode c pc = .ok (.iastore, 1) := by
  show (bind (bind ((Reader.u1 : Decoder Nat) c pc) _) _ : Except DecodeError (Instr × Nat)) = _
  rw [u1_n (bn1 k h hp hb)]
  show Except.ok ((.iastore : Instr), pc + 1 - pc) = _
  rw [dq_l1]
theorem dq_80 {c : ByteArray} (k : Nat) {M : List Nat} (h : ((c.data.toList.drop k).take M.length).map UInt8.toNat = M) {j pc : Nat} (hp : k + j = pc) (hb : (M.drop j).take 1 = [80]) : decode c pc = .ok (.lastore, 1) := by
  show (bind (bind ((Reader.u1 : Decoder Nat) c pc) _) _ : Except DecodeError (Instr × Nat)) = _
  rw [u1_n (bn1 k h hp hb)]
  show Except.ok ((.lastore : Instr), pc + 1 - pc) = _
  rw [dq_l1]
theorem dq_84 {c : ByteArray} (k : Nat) {M : List Nat} (h : ((c.data.toList.drop k).take M.length).map UInt8.toNat = M) {j pc : Nat} (hp : k + j = pc) (hb : (M.drop j).take 1 = [84]) : decode c pc = .ok (.bastore, 1) := by
  show (bind (bind ((Reader.u1 : Decoder Nat) c pc) _) _ : Except DecodeError (Instr × Nat)) = _
  rw [u1_n (bn1 k h hp hb)]
  show Except.ok ((.bastore : Instr), pc + 1 - pc) = _
  rw [dq_l1]
theorem dq_87 {c : ByteArray} (k : Nat) {M : List Nat} (h : ((c.data.toList.drop k).take M.length).map UInt8.toNat = M) {j pc : Nat} (hp : k + j = pc) (hb : (M.drop j).take 1 = [87]) : decode c pc = .ok (.pop, 1) := by
  show (bind (bind ((Reader.u1 : Decoder Nat) c pc) _) _ : Except DecodeError (Instr × Nat)) = _
  rw [u1_n (bn1 k h hp hb)]
  show Except.ok ((.pop : Instr), pc + 1 - pc) = _
  rw [dq_l1]
theorem dq_88 {c : ByteArray} (k : Nat) {M : List Nat} (h : ((c.data.toList.drop k).take M.length).map UInt8.toNat = M) {j pc : Nat} (hp : k + j = pc) (hb : (M.drop j).take 1 = [88]) : decode c pc = .ok (.pop2, 1) := by
  show (bind (bind ((Reader.u1 : Decoder Nat) c pc) _) _ : Except DecodeError (Instr × Nat)) = _
  rw [u1_n (bn1 k h hp hb)]
  show Except.ok ((.pop2 : Instr), pc + 1 - pc) = _
  rw [dq_l1]
theorem dq_89 {c : ByteArray} (k : Nat) {M : List Nat} (h : ((c.data.toList.drop k).take M.length).map UInt8.toNat = M) {j pc : Nat} (hp : k + j = pc) (hb : (M.drop j).take 1 = [89]) : decode c pc = .ok (.dup, 1) := by
  show (bind (bind ((Reader.u1 : Decoder Nat) c pc) _) _ : Except DecodeError (Instr × Nat)) = _
  rw [u1_n (bn1 k h hp hb)]
  show Except.ok ((.dup : Instr), pc + 1 - pc) = _
  rw [dq_l1]
theorem dq_90 {c : ByteArray} (k : Nat) {M : List Nat} (h : ((c.data.toList.drop k).take M.length).map UInt8.toNat = M) {j pc : Nat} (hp : k + j = pc) (hb : (M.drop j).take 1 = [90]) : decode c pc = .ok (.dup_x1, 1) := by
  show (bind (bind ((Reader.u1 : Decoder Nat) c pc) _) _ : Except DecodeError (Instr × Nat)) = _
  rw [u1_n (bn1 k h hp hb)]
  show Except.ok ((.dup_x1 : Instr), pc + 1 - pc) = _
  rw [dq_l1]
theorem dq_92 {c : ByteArray} (k : Nat) {M : List Nat} (h : ((c.data.toList.drop k).take M.length).map UInt8.toNat = M) {j pc : Nat} (hp : k + j = pc) (hb : (M.drop j).take 1 = [92]) : decode c pc = .ok (.dup2, 1) := by
  show (bind (bind ((Reader.u1 : Decoder Nat) c pc) _) _ : Except DecodeError (Instr × Nat)) = _
  rw [u1_n (bn1 k h hp hb)]
  show Except.ok ((.dup2 : Instr), pc + 1 - pc) = _
  rw [dq_l1]
theorem dq_96 {c : ByteArray} (k : Nat) {M : List Nat} (h : ((c.data.toList.drop k).take M.length).map UInt8.toNat = M) {j pc : Nat} (hp : k + j = pc) (hb : (M.drop j).take 1 = [96]) : decode c pc = .ok (.iadd, 1) := by
  show (bind (bind ((Reader.u1 : Decoder Nat) c pc) _) _ : Except DecodeError (Instr × Nat)) = _
  rw [u1_n (bn1 k h hp hb)]
  show Except.ok ((.iadd : Instr), pc + 1 - pc) = _
  rw [dq_l1]
theorem dq_97 {c : ByteArray} (k : Nat) {M : List Nat} (h : ((c.data.toList.drop k).take M.length).map UInt8.toNat = M) {j pc : Nat} (hp : k + j = pc) (hb : (M.drop j).take 1 = [97]) : decode c pc = .ok (.ladd, 1) := by
  show (bind (bind ((Reader.u1 : Decoder Nat) c pc) _) _ : Except DecodeError (Instr × Nat)) = _
  rw [u1_n (bn1 k h hp hb)]
  show Except.ok ((.ladd : Instr), pc + 1 - pc) = _
  rw [dq_l1]
theorem dq_100 {c : ByteArray} (k : Nat) {M : List Nat} (h : ((c.data.toList.drop k).take M.length).map UInt8.toNat = M) {j pc : Nat} (hp : k + j = pc) (hb : (M.drop j).take 1 = [100]) : decode c pc = .ok (.isub, 1) := by
  show (bind (bind ((Reader.u1 : Decoder Nat) c pc) _) _ : Except DecodeError (Instr × Nat)) = _
  rw [u1_n (bn1 k h hp hb)]
  show Except.ok ((.isub : Instr), pc + 1 - pc) = _
  rw [dq_l1]
theorem dq_101 {c : ByteArray} (k : Nat) {M : List Nat} (h : ((c.data.toList.drop k).take M.length).map UInt8.toNat = M) {j pc : Nat} (hp : k + j = pc) (hb : (M.drop j).take 1 = [101]) : decode c pc = .ok (.lsub, 1) := by
  show (bind (bind ((Reader.u1 : Decoder Nat) c pc) _) _ : Except DecodeError (Instr × Nat)) = _
  rw [u1_n (bn1 k h hp hb)]
  show Except.ok ((.lsub : Instr), pc + 1 - pc) = _
  rw [dq_l1]
theorem dq_104 {c : ByteArray} (k : Nat) {M : List Nat} (h : ((c.data.toList.drop k).take M.length).map UInt8.toNat = M) {j pc : Nat} (hp : k + j = pc) (hb : (M.drop j).take 1 = [104]) : decode c pc = .ok (.imul, 1) := by
  show (bind (bind ((Reader.u1 : Decoder Nat) c pc) _) _ : Except DecodeError (Instr × Nat)) = _
  rw [u1_n (bn1 k h hp hb)]
  show Except.ok ((.imul : Instr), pc + 1 - pc) = _
  rw [dq_l1]
theorem dq_105 {c : ByteArray} (k : Nat) {M : List Nat} (h : ((c.data.toList.drop k).take M.length).map UInt8.toNat = M) {j pc : Nat} (hp : k + j = pc) (hb : (M.drop j).take 1 = [105]) : decode c pc = .ok (.lmul, 1) := by
  show (bind (bind ((Reader.u1 : Decoder Nat) c pc) _) _ : Except DecodeError (Instr × Nat)) = _
  rw [u1_n (bn1 k h hp hb)]
  show Except.ok ((.lmul : Instr), pc + 1 - pc) = _
  rw [dq_l1]
theorem dq_108 {c : ByteArray} (k : Nat) {M : List Nat} (h : ((c.data.toList.drop k).take M.length).map UInt8.toNat = M) {j pc : Nat} (hp : k + j = pc) (hb : (M.drop j).take 1 = [108]) : decode c pc = .ok (.idiv, 1) := by
  show (bind (bind ((Reader.u1 : Decoder Nat) c pc) _) _ : Except DecodeError (Instr × Nat)) = _
  rw [u1_n (bn1 k h hp hb)]
  show Except.ok ((.idiv : Instr), pc + 1 - pc) = _
  rw [dq_l1]
theorem dq_109 {c : ByteArray} (k : Nat) {M : List Nat} (h : ((c.data.toList.drop k).take M.length).map UInt8.toNat = M) {j pc : Nat} (hp : k + j = pc) (hb : (M.drop j).take 1 = [109]) : decode c pc = .ok (.ldiv, 1) := by
  show (bind (bind ((Reader.u1 : Decoder Nat) c pc) _) _ : Except DecodeError (Instr × Nat)) = _
  rw [u1_n (bn1 k h hp hb)]
  show Except.ok ((.ldiv : Instr), pc + 1 - pc) = _
  rw [dq_l1]
theorem dq_112 {c : ByteArray} (k : Nat) {M : List Nat} (h : ((c.data.toList.drop k).take M.length).map UInt8.toNat = M) {j pc : Nat} (hp : k + j = pc) (hb : (M.drop j).take 1 = [112]) : decode c pc = .ok (.irem, 1) := by
  show (bind (bind ((Reader.u1 : Decoder Nat) c pc) _) _ : Except DecodeError (Instr × Nat)) = _
  rw [u1_n (bn1 k h hp hb)]
  show Except.ok ((.irem : Instr), pc + 1 - pc) = _
  rw [dq_l1]
theorem dq_113 {c : ByteArray} (k : Nat) {M : List Nat} (h : ((c.data.toList.drop k).take M.length).map UInt8.toNat = M) {j pc : Nat} (hp : k + j = pc) (hb : (M.drop j).take 1 = [113]) : decode c pc = .ok (.lrem, 1) := by
  show (bind (bind ((Reader.u1 : Decoder Nat) c pc) _) _ : Except DecodeError (Instr × Nat)) = _
  rw [u1_n (bn1 k h hp hb)]
  show Except.ok ((.lrem : Instr), pc + 1 - pc) = _
  rw [dq_l1]
theorem dq_116 {c : ByteArray} (k : Nat) {M : List Nat} (h : ((c.data.toList.drop k).take M.length).map UInt8.toNat = M) {j pc : Nat} (hp : k + j = pc) (hb : (M.drop j).take 1 = [116]) : decode c pc = .ok (.ineg, 1) := by
  show (bind (bind ((Reader.u1 : Decoder Nat) c pc) _) _ : Except DecodeError (Instr × Nat)) = _
  rw [u1_n (bn1 k h hp hb)]
  show Except.ok ((.ineg : Instr), pc + 1 - pc) = _
  rw [dq_l1]
theorem dq_117 {c : ByteArray} (k : Nat) {M : List Nat} (h : ((c.data.toList.drop k).take M.length).map UInt8.toNat = M) {j pc : Nat} (hp : k + j = pc) (hb : (M.drop j).take 1 = [117]) : decode c pc = .ok (.lneg, 1) := by
  show (bind (bind ((Reader.u1 : Decoder Nat) c pc) _) _ : Except DecodeError (Instr × Nat)) = _
  rw [u1_n (bn1 k h hp hb)]
  show Except.ok ((.lneg : Instr), pc + 1 - pc) = _
  rw [dq_l1]
theorem dq_120 {c : ByteArray} (k : Nat) {M : List Nat} (h : ((c.data.toList.drop k).take M.length).map UInt8.toNat = M) {j pc : Nat} (hp : k + j = pc) (hb : (M.drop j).take 1 = [120]) : decode c pc = .ok (.ishl, 1) := by
  show (bind (bind ((Reader.u1 : Decoder Nat) c pc) _) _ : Except DecodeError (Instr × Nat)) = _
  rw [u1_n (bn1 k h hp hb)]
  show Except.ok ((.ishl : Instr), pc + 1 - pc) = _
  rw [dq_l1]
theorem dq_121 {c : ByteArray} (k : Nat) {M : List Nat} (h : ((c.data.toList.drop k).take M.length).map UInt8.toNat = M) {j pc : Nat} (hp : k + j = pc) (hb : (M.drop j).take 1 = [121]) : decode c pc = .ok (.lshl, 1) := by
  show (bind (bind ((Reader.u1 : Decoder Nat) c pc) _) _ : Except DecodeError (Instr × Nat)) = _
  rw [u1_n (bn1 k h hp hb)]
  show Except.ok ((.lshl : Instr), pc + 1 - pc) = _
  rw [dq_l1]
theorem dq_122 {c : ByteArray} (k : Nat) {M : List Nat} (h : ((c.data.toList.drop k).take M.length).map UInt8.toNat = M) {j pc : Nat} (hp : k + j = pc) (hb : (M.drop j).take 1 = [122]) : decode c pc = .ok (.ishr, 1) := by
  show (bind (bind ((Reader.u1 : Decoder Nat) c pc) _) _ : Except DecodeError (Instr × Nat)) = _
  rw [u1_n (bn1 k h hp hb)]
  show Except.ok ((.ishr : Instr), pc + 1 - pc) = _
  rw [dq_l1]
theorem dq_124 {c : ByteArray} (k : Nat) {M : List Nat} (h : ((c.data.toList.drop k).take M.length).map UInt8.toNat = M) {j pc : Nat} (hp : k + j = pc) (hb : (M.drop j).take 1 = [124]) : decode c pc = .ok (.iushr, 1) := by
  show (bind (bind ((Reader.u1 : Decoder Nat) c pc) _) _ : Except DecodeError (Instr × Nat)) = _
  rw [u1_n (bn1 k h hp hb)]
  show Except.ok ((.iushr : Instr), pc + 1 - pc) = _
  rw [dq_l1]
theorem dq_125 {c : ByteArray} (k : Nat) {M : List Nat} (h : ((c.data.toList.drop k).take M.length).map UInt8.toNat = M) {j pc : Nat} (hp : k + j = pc) (hb : (M.drop j).take 1 = [125]) : decode c pc = .ok (.lushr, 1) := by
  show (bind (bind ((Reader.u1 : Decoder Nat) c pc) _) _ : Except DecodeError (Instr × Nat)) = _
  rw [u1_n (bn1 k h hp hb)]
  show Except.ok ((.lushr : Instr), pc + 1 - pc) = _
  rw [dq_l1]
theorem dq_126 {c : ByteArray} (k : Nat) {M : List Nat} (h : ((c.data.toList.drop k).take M.length).map UInt8.toNat = M) {j pc : Nat} (hp : k + j = pc) (hb : (M.drop j).take 1 = [126]) : decode c pc = .ok (.iand, 1) := by
  show (bind (bind ((Reader.u1 : Decoder Nat) c pc) _) _ : Except DecodeError (Instr × Nat)) = _
  rw [u1_n (bn1 k h hp hb)]
  show Except.ok ((.iand : Instr), pc + 1 - pc) = _
  rw [dq_l1]
theorem dq_127 {c : ByteArray} (k : Nat) {M : List Nat} (h : ((c.data.toList.drop k).take M.length).map UInt8.toNat = M) {j pc : Nat} (hp : k + j = pc) (hb : (M.drop j).take 1 = [127]) : decode c pc = .ok (.land, 1) := by
  show (bind (bind ((Reader.u1 : Decoder Nat) c pc) _) _ : Except DecodeError (Instr × Nat)) = _
  rw [u1_n (bn1 k h hp hb)]
  show Except.ok ((.land : Instr), pc + 1 - pc) = _
  rw [dq_l1]
theorem dq_128 {c : ByteArray} (k : Nat) {M : List Nat} (h : ((c.data.toList.drop k).take M.length).map UInt8.toNat = M) {j pc : Nat} (hp : k + j = pc) (hb : (M.drop j).take 1 = [128]) : decode c pc = .ok (.ior, 1) := by
  show (bind (bind ((Reader.u1 : Decoder Nat) c pc) _) _ : Except DecodeError (Instr × Nat)) = _
  rw [u1_n (bn1 k h hp hb)]
  show Except.ok ((.ior : Instr), pc + 1 - pc) = _
  rw [dq_l1]
theorem dq_129 {c : ByteArray} (k : Nat) {M : List Nat} (h : ((c.data.toList.drop k).take M.length).map UInt8.toNat = M) {j pc : Nat} (hp : k + j = pc) (hb : (M.drop j).take 1 = [129]) : decode c pc = .ok (.lor, 1) := by
  show (bind (bind ((Reader.u1 : Decoder Nat) c pc) _) _ : Except DecodeError (Instr × Nat)) = _
  rw [u1_n (bn1 k h hp hb)]
  show Except.ok ((.lor : Instr), pc + 1 - pc) = _
  rw [dq_l1]
theorem dq_130 {c : ByteArray} (k : Nat) {M : List Nat} (h : ((c.data.toList.drop k).take M.length).map UInt8.toNat = M) {j pc : Nat} (hp : k + j = pc) (hb : (M.drop j).take 1 = [130]) : decode c pc = .ok (.ixor, 1) := by
  show (bind (bind ((Reader.u1 : Decoder Nat) c pc) _) _ : Except DecodeError (Instr × Nat)) = _
  rw [u1_n (bn1 k h hp hb)]
  show Except.ok ((.ixor : Instr), pc + 1 - pc) = _
  rw [dq_l1]
theorem dq_133 {c : ByteArray} (k : Nat) {M : List Nat} (h : ((c.data.toList.drop k).take M.length).map UInt8.toNat = M) {j pc : Nat} (hp : k + j = pc) (hb : (M.drop j).take 1 = [133]) : decode c pc = .ok (.i2l, 1) := by
  show (bind (bind ((Reader.u1 : Decoder Nat) c pc) _) _ : Except DecodeError (Instr × Nat)) = _
  rw [u1_n (bn1 k h hp hb)]
  show Except.ok ((.i2l : Instr), pc + 1 - pc) = _
  rw [dq_l1]
theorem dq_136 {c : ByteArray} (k : Nat) {M : List Nat} (h : ((c.data.toList.drop k).take M.length).map UInt8.toNat = M) {j pc : Nat} (hp : k + j = pc) (hb : (M.drop j).take 1 = [136]) : decode c pc = .ok (.l2i, 1) := by
  show (bind (bind ((Reader.u1 : Decoder Nat) c pc) _) _ : Except DecodeError (Instr × Nat)) = _
  rw [u1_n (bn1 k h hp hb)]
  show Except.ok ((.l2i : Instr), pc + 1 - pc) = _
  rw [dq_l1]
theorem dq_145 {c : ByteArray} (k : Nat) {M : List Nat} (h : ((c.data.toList.drop k).take M.length).map UInt8.toNat = M) {j pc : Nat} (hp : k + j = pc) (hb : (M.drop j).take 1 = [145]) : decode c pc = .ok (.i2b, 1) := by
  show (bind (bind ((Reader.u1 : Decoder Nat) c pc) _) _ : Except DecodeError (Instr × Nat)) = _
  rw [u1_n (bn1 k h hp hb)]
  show Except.ok ((.i2b : Instr), pc + 1 - pc) = _
  rw [dq_l1]
theorem dq_146 {c : ByteArray} (k : Nat) {M : List Nat} (h : ((c.data.toList.drop k).take M.length).map UInt8.toNat = M) {j pc : Nat} (hp : k + j = pc) (hb : (M.drop j).take 1 = [146]) : decode c pc = .ok (.i2c, 1) := by
  show (bind (bind ((Reader.u1 : Decoder Nat) c pc) _) _ : Except DecodeError (Instr × Nat)) = _
  rw [u1_n (bn1 k h hp hb)]
  show Except.ok ((.i2c : Instr), pc + 1 - pc) = _
  rw [dq_l1]
theorem dq_148 {c : ByteArray} (k : Nat) {M : List Nat} (h : ((c.data.toList.drop k).take M.length).map UInt8.toNat = M) {j pc : Nat} (hp : k + j = pc) (hb : (M.drop j).take 1 = [148]) : decode c pc = .ok (.lcmp, 1) := by
  show (bind (bind ((Reader.u1 : Decoder Nat) c pc) _) _ : Except DecodeError (Instr × Nat)) = _
  rw [u1_n (bn1 k h hp hb)]
  show Except.ok ((.lcmp : Instr), pc + 1 - pc) = _
  rw [dq_l1]
theorem dq_172 {c : ByteArray} (k : Nat) {M : List Nat} (h : ((c.data.toList.drop k).take M.length).map UInt8.toNat = M) {j pc : Nat} (hp : k + j = pc) (hb : (M.drop j).take 1 = [172]) : decode c pc = .ok (.ireturn, 1) := by
  show (bind (bind ((Reader.u1 : Decoder Nat) c pc) _) _ : Except DecodeError (Instr × Nat)) = _
  rw [u1_n (bn1 k h hp hb)]
  show Except.ok ((.ireturn : Instr), pc + 1 - pc) = _
  rw [dq_l1]
theorem dq_173 {c : ByteArray} (k : Nat) {M : List Nat} (h : ((c.data.toList.drop k).take M.length).map UInt8.toNat = M) {j pc : Nat} (hp : k + j = pc) (hb : (M.drop j).take 1 = [173]) : decode c pc = .ok (.lreturn, 1) := by
  show (bind (bind ((Reader.u1 : Decoder Nat) c pc) _) _ : Except DecodeError (Instr × Nat)) = _
  rw [u1_n (bn1 k h hp hb)]
  show Except.ok ((.lreturn : Instr), pc + 1 - pc) = _
  rw [dq_l1]
theorem dq_176 {c : ByteArray} (k : Nat) {M : List Nat} (h : ((c.data.toList.drop k).take M.length).map UInt8.toNat = M) {j pc : Nat} (hp : k + j = pc) (hb : (M.drop j).take 1 = [176]) : decode c pc = .ok (.areturn, 1) := by
  show (bind (bind ((Reader.u1 : Decoder Nat) c pc) _) _ : Except DecodeError (Instr × Nat)) = _
  rw [u1_n (bn1 k h hp hb)]
  show Except.ok ((.areturn : Instr), pc + 1 - pc) = _
  rw [dq_l1]
theorem dq_177 {c : ByteArray} (k : Nat) {M : List Nat} (h : ((c.data.toList.drop k).take M.length).map UInt8.toNat = M) {j pc : Nat} (hp : k + j = pc) (hb : (M.drop j).take 1 = [177]) : decode c pc = .ok (.return_, 1) := by
  show (bind (bind ((Reader.u1 : Decoder Nat) c pc) _) _ : Except DecodeError (Instr × Nat)) = _
  rw [u1_n (bn1 k h hp hb)]
  show Except.ok ((.return_ : Instr), pc + 1 - pc) = _
  rw [dq_l1]
theorem dq_190 {c : ByteArray} (k : Nat) {M : List Nat} (h : ((c.data.toList.drop k).take M.length).map UInt8.toNat = M) {j pc : Nat} (hp : k + j = pc) (hb : (M.drop j).take 1 = [190]) : decode c pc = .ok (.arraylength, 1) := by
  show (bind (bind ((Reader.u1 : Decoder Nat) c pc) _) _ : Except DecodeError (Instr × Nat)) = _
  rw [u1_n (bn1 k h hp hb)]
  show Except.ok ((.arraylength : Instr), pc + 1 - pc) = _
  rw [dq_l1]
theorem dq_191 {c : ByteArray} (k : Nat) {M : List Nat} (h : ((c.data.toList.drop k).take M.length).map UInt8.toNat = M) {j pc : Nat} (hp : k + j = pc) (hb : (M.drop j).take 1 = [191]) : decode c pc = .ok (.athrow, 1) := by
  show (bind (bind ((Reader.u1 : Decoder Nat) c pc) _) _ : Except DecodeError (Instr × Nat)) = _
  rw [u1_n (bn1 k h hp hb)]
  show Except.ok ((.athrow : Instr), pc + 1 - pc) = _
  rw [dq_l1]
theorem dq_18 {c : ByteArray} (k : Nat) {M : List Nat} (h : ((c.data.toList.drop k).take M.length).map UInt8.toNat = M) {j pc i : Nat} (hp : k + j = pc) (hb : (M.drop j).take 2 = [18, i]) : decode c pc = .ok (.ldc i, 2) := by
  obtain ⟨h0, h1⟩ := bn2 k h hp hb
  show (bind (bind ((Reader.u1 : Decoder Nat) c pc) _) _ : Except DecodeError (Instr × Nat)) = _
  rw [u1_n h0]
  show (bind (bind ((Reader.u1 : Decoder Nat) c (pc + 1)) _) _ : Except DecodeError (Instr × Nat)) = _
  rw [u1_n h1]
  show Except.ok (Instr.ldc i, pc + 1 + 1 - pc) = _
  rw [dq_l2]
theorem dq_21 {c : ByteArray} (k : Nat) {M : List Nat} (h : ((c.data.toList.drop k).take M.length).map UInt8.toNat = M) {j pc i : Nat} (hp : k + j = pc) (hb : (M.drop j).take 2 = [21, i]) : decode c pc = .ok (.iload i, 2) := by
  obtain ⟨h0, h1⟩ := bn2 k h hp hb
  show (bind (bind ((Reader.u1 : Decoder Nat) c pc) _) _ : Except DecodeError (Instr × Nat)) = _
  rw [u1_n h0]
  show (bind (bind ((Reader.u1 : Decoder Nat) c (pc + 1)) _) _ : Except DecodeError (Instr × Nat)) = _
  rw [u1_n h1]
  show Except.ok (Instr.iload i, pc + 1 + 1 - pc) = _
  rw [dq_l2]
theorem dq_22 {c : ByteArray} (k : Nat) {M : List Nat} (h : ((c.data.toList.drop k).take M.length).map UInt8.toNat = M) {j pc i : Nat} (hp : k + j = pc) (hb : (M.drop j).take 2 = [22, i]) : decode c pc = .ok (.lload i, 2) := by
  obtain ⟨h0, h1⟩ := bn2 k h hp hb
  show (bind (bind ((Reader.u1 : Decoder Nat) c pc) _) _ : Except DecodeError (Instr × Nat)) = _
  rw [u1_n h0]
  show (bind (bind ((Reader.u1 : Decoder Nat) c (pc + 1)) _) _ : Except DecodeError (Instr × Nat)) = _
  rw [u1_n h1]
  show Except.ok (Instr.lload i, pc + 1 + 1 - pc) = _
  rw [dq_l2]
theorem dq_25 {c : ByteArray} (k : Nat) {M : List Nat} (h : ((c.data.toList.drop k).take M.length).map UInt8.toNat = M) {j pc i : Nat} (hp : k + j = pc) (hb : (M.drop j).take 2 = [25, i]) : decode c pc = .ok (.aload i, 2) := by
  obtain ⟨h0, h1⟩ := bn2 k h hp hb
  show (bind (bind ((Reader.u1 : Decoder Nat) c pc) _) _ : Except DecodeError (Instr × Nat)) = _
  rw [u1_n h0]
  show (bind (bind ((Reader.u1 : Decoder Nat) c (pc + 1)) _) _ : Except DecodeError (Instr × Nat)) = _
  rw [u1_n h1]
  show Except.ok (Instr.aload i, pc + 1 + 1 - pc) = _
  rw [dq_l2]
theorem dq_54 {c : ByteArray} (k : Nat) {M : List Nat} (h : ((c.data.toList.drop k).take M.length).map UInt8.toNat = M) {j pc i : Nat} (hp : k + j = pc) (hb : (M.drop j).take 2 = [54, i]) : decode c pc = .ok (.istore i, 2) := by
  obtain ⟨h0, h1⟩ := bn2 k h hp hb
  show (bind (bind ((Reader.u1 : Decoder Nat) c pc) _) _ : Except DecodeError (Instr × Nat)) = _
  rw [u1_n h0]
  show (bind (bind ((Reader.u1 : Decoder Nat) c (pc + 1)) _) _ : Except DecodeError (Instr × Nat)) = _
  rw [u1_n h1]
  show Except.ok (Instr.istore i, pc + 1 + 1 - pc) = _
  rw [dq_l2]
theorem dq_55 {c : ByteArray} (k : Nat) {M : List Nat} (h : ((c.data.toList.drop k).take M.length).map UInt8.toNat = M) {j pc i : Nat} (hp : k + j = pc) (hb : (M.drop j).take 2 = [55, i]) : decode c pc = .ok (.lstore i, 2) := by
  obtain ⟨h0, h1⟩ := bn2 k h hp hb
  show (bind (bind ((Reader.u1 : Decoder Nat) c pc) _) _ : Except DecodeError (Instr × Nat)) = _
  rw [u1_n h0]
  show (bind (bind ((Reader.u1 : Decoder Nat) c (pc + 1)) _) _ : Except DecodeError (Instr × Nat)) = _
  rw [u1_n h1]
  show Except.ok (Instr.lstore i, pc + 1 + 1 - pc) = _
  rw [dq_l2]
theorem dq_58 {c : ByteArray} (k : Nat) {M : List Nat} (h : ((c.data.toList.drop k).take M.length).map UInt8.toNat = M) {j pc i : Nat} (hp : k + j = pc) (hb : (M.drop j).take 2 = [58, i]) : decode c pc = .ok (.astore i, 2) := by
  obtain ⟨h0, h1⟩ := bn2 k h hp hb
  show (bind (bind ((Reader.u1 : Decoder Nat) c pc) _) _ : Except DecodeError (Instr × Nat)) = _
  rw [u1_n h0]
  show (bind (bind ((Reader.u1 : Decoder Nat) c (pc + 1)) _) _ : Except DecodeError (Instr × Nat)) = _
  rw [u1_n h1]
  show Except.ok (Instr.astore i, pc + 1 + 1 - pc) = _
  rw [dq_l2]
theorem dq_16 {c : ByteArray} (k : Nat) {M : List Nat} (h : ((c.data.toList.drop k).take M.length).map UInt8.toNat = M) {j pc a : Nat} {i : Int} (hp : k + j = pc) (hb : (M.drop j).take 2 = [16, a]) (hi : Reader.signed 8 a = i) : decode c pc = .ok (.bipush i, 2) := by
  obtain ⟨h0, h1⟩ := bn2 k h hp hb
  subst hi
  show (bind (bind ((Reader.u1 : Decoder Nat) c pc) _) _ : Except DecodeError (Instr × Nat)) = _
  rw [u1_n h0]
  show (bind (bind ((Reader.s1 : Decoder Int) c (pc + 1)) _) _ : Except DecodeError (Instr × Nat)) = _
  rw [s1_n h1]
  show Except.ok (Instr.bipush (Reader.signed 8 a), pc + 1 + 1 - pc) = _
  rw [dq_l2]
theorem dq_132 {c : ByteArray} (k : Nat) {M : List Nat} (h : ((c.data.toList.drop k).take M.length).map UInt8.toNat = M) {j pc a b : Nat} {i : Int} (hp : k + j = pc) (hb : (M.drop j).take 3 = [132, a, b]) (hi : Reader.signed 8 b = i) : decode c pc = .ok (.iinc a i, 3) := by
  obtain ⟨h0, h1, h2⟩ := bn3 k h hp hb
  subst hi
  show (bind (bind ((Reader.u1 : Decoder Nat) c pc) _) _ : Except DecodeError (Instr × Nat)) = _
  rw [u1_n h0]
  show (bind (bind ((Reader.u1 : Decoder Nat) c (pc + 1)) _) _ : Except DecodeError (Instr × Nat)) = _
  rw [u1_n h1]
  show (bind (bind ((Reader.s1 : Decoder Int) c (pc + 1 + 1)) _) _ : Except DecodeError (Instr × Nat)) = _
  rw [s1_n h2]
  show Except.ok (Instr.iinc a (Reader.signed 8 b), pc + 1 + 1 + 1 - pc) = _
  rw [dq_l4]
theorem dq_19 {c : ByteArray} (k : Nat) {M : List Nat} (h : ((c.data.toList.drop k).take M.length).map UInt8.toNat = M) {j pc a b i : Nat} (hp : k + j = pc) (hb : (M.drop j).take 3 = [19, a, b]) (hi : a * 256 + b = i) : decode c pc = .ok (.ldc_w i, 3) := by
  obtain ⟨h0, h1, h2⟩ := bn3 k h hp hb
  subst hi
  show (bind (bind ((Reader.u1 : Decoder Nat) c pc) _) _ : Except DecodeError (Instr × Nat)) = _
  rw [u1_n h0]
  show (bind (bind ((Reader.u2 : Decoder Nat) c (pc + 1)) _) _ : Except DecodeError (Instr × Nat)) = _
  rw [u2_n h1 h2]
  show Except.ok (Instr.ldc_w (a * 256 + b), pc + 1 + 2 - pc) = _
  rw [dq_l3]
theorem dq_20 {c : ByteArray} (k : Nat) {M : List Nat} (h : ((c.data.toList.drop k).take M.length).map UInt8.toNat = M) {j pc a b i : Nat} (hp : k + j = pc) (hb : (M.drop j).take 3 = [20, a, b]) (hi : a * 256 + b = i) : decode c pc = .ok (.ldc2_w i, 3) := by
  obtain ⟨h0, h1, h2⟩ := bn3 k h hp hb
  subst hi
  show (bind (bind ((Reader.u1 : Decoder Nat) c pc) _) _ : Except DecodeError (Instr × Nat)) = _
  rw [u1_n h0]
  show (bind (bind ((Reader.u2 : Decoder Nat) c (pc + 1)) _) _ : Except DecodeError (Instr × Nat)) = _
  rw [u2_n h1 h2]
  show Except.ok (Instr.ldc2_w (a * 256 + b), pc + 1 + 2 - pc) = _
  rw [dq_l3]
theorem dq_178 {c : ByteArray} (k : Nat) {M : List Nat} (h : ((c.data.toList.drop k).take M.length).map UInt8.toNat = M) {j pc a b i : Nat} (hp : k + j = pc) (hb : (M.drop j).take 3 = [178, a, b]) (hi : a * 256 + b = i) : decode c pc = .ok (.getstatic i, 3) := by
  obtain ⟨h0, h1, h2⟩ := bn3 k h hp hb
  subst hi
  show (bind (bind ((Reader.u1 : Decoder Nat) c pc) _) _ : Except DecodeError (Instr × Nat)) = _
  rw [u1_n h0]
  show (bind (bind ((Reader.u2 : Decoder Nat) c (pc + 1)) _) _ : Except DecodeError (Instr × Nat)) = _
  rw [u2_n h1 h2]
  show Except.ok (Instr.getstatic (a * 256 + b), pc + 1 + 2 - pc) = _
  rw [dq_l3]
theorem dq_180 {c : ByteArray} (k : Nat) {M : List Nat} (h : ((c.data.toList.drop k).take M.length).map UInt8.toNat = M) {j pc a b i : Nat} (hp : k + j = pc) (hb : (M.drop j).take 3 = [180, a, b]) (hi : a * 256 + b = i) : decode c pc = .ok (.getfield i, 3) := by
  obtain ⟨h0, h1, h2⟩ := bn3 k h hp hb
  subst hi
  show (bind (bind ((Reader.u1 : Decoder Nat) c pc) _) _ : Except DecodeError (Instr × Nat)) = _
  rw [u1_n h0]
  show (bind (bind ((Reader.u2 : Decoder Nat) c (pc + 1)) _) _ : Except DecodeError (Instr × Nat)) = _
  rw [u2_n h1 h2]
  show Except.ok (Instr.getfield (a * 256 + b), pc + 1 + 2 - pc) = _
  rw [dq_l3]
theorem dq_181 {c : ByteArray} (k : Nat) {M : List Nat} (h : ((c.data.toList.drop k).take M.length).map UInt8.toNat = M) {j pc a b i : Nat} (hp : k + j = pc) (hb : (M.drop j).take 3 = [181, a, b]) (hi : a * 256 + b = i) : decode c pc = .ok (.putfield i, 3) := by
  obtain ⟨h0, h1, h2⟩ := bn3 k h hp hb
  subst hi
  show (bind (bind ((Reader.u1 : Decoder Nat) c pc) _) _ : Except DecodeError (Instr × Nat)) = _
  rw [u1_n h0]
  show (bind (bind ((Reader.u2 : Decoder Nat) c (pc + 1)) _) _ : Except DecodeError (Instr × Nat)) = _
  rw [u2_n h1 h2]
  show Except.ok (Instr.putfield (a * 256 + b), pc + 1 + 2 - pc) = _
  rw [dq_l3]
theorem dq_182 {c : ByteArray} (k : Nat) {M : List Nat} (h : ((c.data.toList.drop k).take M.length).map UInt8.toNat = M) {j pc a b i : Nat} (hp : k + j = pc) (hb : (M.drop j).take 3 = [182, a, b]) (hi : a * 256 + b = i) : decode c pc = .ok (.invokevirtual i, 3) := by
  obtain ⟨h0, h1, h2⟩ := bn3 k h hp hb
  subst hi
  show (bind (bind ((Reader.u1 : Decoder Nat) c pc) _) _ : Except DecodeError (Instr × Nat)) = _
  rw [u1_n h0]
  show (bind (bind ((Reader.u2 : Decoder Nat) c (pc + 1)) _) _ : Except DecodeError (Instr × Nat)) = _
  rw [u2_n h1 h2]
  show Except.ok (Instr.invokevirtual (a * 256 + b), pc + 1 + 2 - pc) = _
  rw [dq_l3]
theorem dq_183 {c : ByteArray} (k : Nat) {M : List Nat} (h : ((c.data.toList.drop k).take M.length).map UInt8.toNat = M) {j pc a b i : Nat} (hp : k + j = pc) (hb : (M.drop j).take 3 = [183, a, b]) (hi : a * 256 + b = i) : decode c pc = .ok (.invokespecial i, 3) := by
  obtain ⟨h0, h1, h2⟩ := bn3 k h hp hb
  subst hi
  show (bind (bind ((Reader.u1 : Decoder Nat) c pc) _) _ : Except DecodeError (Instr × Nat)) = _
  rw [u1_n h0]
  show (bind (bind ((Reader.u2 : Decoder Nat) c (pc + 1)) _) _ : Except DecodeError (Instr × Nat)) = _
  rw [u2_n h1 h2]
  show Except.ok (Instr.invokespecial (a * 256 + b), pc + 1 + 2 - pc) = _
  rw [dq_l3]
theorem dq_184 {c : ByteArray} (k : Nat) {M : List Nat} (h : ((c.data.toList.drop k).take M.length).map UInt8.toNat = M) {j pc a b i : Nat} (hp : k + j = pc) (hb : (M.drop j).take 3 = [184, a, b]) (hi : a * 256 + b = i) : decode c pc = .ok (.invokestatic i, 3) := by
  obtain ⟨h0, h1, h2⟩ := bn3 k h hp hb
  subst hi
  show (bind (bind ((Reader.u1 : Decoder Nat) c pc) _) _ : Except DecodeError (Instr × Nat)) = _
  rw [u1_n h0]
  show (bind (bind ((Reader.u2 : Decoder Nat) c (pc + 1)) _) _ : Except DecodeError (Instr × Nat)) = _
  rw [u2_n h1 h2]
  show Except.ok (Instr.invokestatic (a * 256 + b), pc + 1 + 2 - pc) = _
  rw [dq_l3]
theorem dq_187 {c : ByteArray} (k : Nat) {M : List Nat} (h : ((c.data.toList.drop k).take M.length).map UInt8.toNat = M) {j pc a b i : Nat} (hp : k + j = pc) (hb : (M.drop j).take 3 = [187, a, b]) (hi : a * 256 + b = i) : decode c pc = .ok (.new i, 3) := by
  obtain ⟨h0, h1, h2⟩ := bn3 k h hp hb
  subst hi
  show (bind (bind ((Reader.u1 : Decoder Nat) c pc) _) _ : Except DecodeError (Instr × Nat)) = _
  rw [u1_n h0]
  show (bind (bind ((Reader.u2 : Decoder Nat) c (pc + 1)) _) _ : Except DecodeError (Instr × Nat)) = _
  rw [u2_n h1 h2]
  show Except.ok (Instr.new (a * 256 + b), pc + 1 + 2 - pc) = _
  rw [dq_l3]
theorem dq_192 {c : ByteArray} (k : Nat) {M : List Nat} (h : ((c.data.toList.drop k).take M.length).map UInt8.toNat = M) {j pc a b i : Nat} (hp : k + j = pc) (hb : (M.drop j).take 3 = [192, a, b]) (hi : a * 256 + b = i) : decode c pc = .ok (.checkcast i, 3) := by
  obtain ⟨h0, h1, h2⟩ := bn3 k h hp hb
  subst hi
  show (bind (bind ((Reader.u1 : Decoder Nat) c pc) _) _ : Except DecodeError (Instr × Nat)) = _
  rw [u1_n h0]
  show (bind (bind ((Reader.u2 : Decoder Nat) c (pc + 1)) _) _ : Except DecodeError (Instr × Nat)) = _
  rw [u2_n h1 h2]
  show Except.ok (Instr.checkcast (a * 256 + b), pc + 1 + 2 - pc) = _
  rw [dq_l3]
theorem dq_17 {c : ByteArray} (k : Nat) {M : List Nat} (h : ((c.data.toList.drop k).take M.length).map UInt8.toNat = M) {j pc a b : Nat} {i : Int} (hp : k + j = pc) (hb : (M.drop j).take 3 = [17, a, b]) (hi : Reader.signed 16 (a * 256 + b) = i) : decode c pc = .ok (.sipush i, 3) := by
  obtain ⟨h0, h1, h2⟩ := bn3 k h hp hb
  subst hi
  show (bind (bind ((Reader.u1 : Decoder Nat) c pc) _) _ : Except DecodeError (Instr × Nat)) = _
  rw [u1_n h0]
  show (bind (bind ((Reader.s2 : Decoder Int) c (pc + 1)) _) _ : Except DecodeError (Instr × Nat)) = _
  rw [s2_n h1 h2]
  show Except.ok ((.sipush (Reader.signed 16 (a * 256 + b)) : Instr), pc + 1 + 2 - pc) = _
  rw [dq_l3]
theorem dq_153 {c : ByteArray} (k : Nat) {M : List Nat} (h : ((c.data.toList.drop k).take M.length).map UInt8.toNat = M) {j pc a b : Nat} {i : Int} (hp : k + j = pc) (hb : (M.drop j).take 3 = [153, a, b]) (hi : Reader.signed 16 (a * 256 + b) = i) : decode c pc = .ok (.ifCond .eq i, 3) := by
  obtain ⟨h0, h1, h2⟩ := bn3 k h hp hb
  subst hi
  show (bind (bind ((Reader.u1 : Decoder Nat) c pc) _) _ : Except DecodeError (Instr × Nat)) = _
  rw [u1_n h0]
  show (bind (bind ((Reader.s2 : Decoder Int) c (pc + 1)) _) _ : Except DecodeError (Instr × Nat)) = _
  rw [s2_n h1 h2]
  show Except.ok ((.ifCond .eq (Reader.signed 16 (a * 256 + b)) : Instr), pc + 1 + 2 - pc) = _
  rw [dq_l3]
theorem dq_154 {c : ByteArray} (k : Nat) {M : List Nat} (h : ((c.data.toList.drop k).take M.length).map UInt8.toNat = M) {j pc a b : Nat} {i : Int} (hp : k + j = pc) (hb : (M.drop j).take 3 = [154, a, b]) (hi : Reader.signed 16 (a * 256 + b) = i) : decode c pc = .ok (.ifCond .ne i, 3) := by
  obtain ⟨h0, h1, h2⟩ := bn3 k h hp hb
  subst hi
  show (bind (bind ((Reader.u1 : Decoder Nat) c pc) _) _ : Except DecodeError (Instr × Nat)) = _
  rw [u1_n h0]
  show (bind (bind ((Reader.s2 : Decoder Int) c (pc + 1)) _) _ : Except DecodeError (Instr × Nat)) = _
  rw [s2_n h1 h2]
  show Except.ok ((.ifCond .ne (Reader.signed 16 (a * 256 + b)) : Instr), pc + 1 + 2 - pc) = _
  rw [dq_l3]
theorem dq_155 {c : ByteArray} (k : Nat) {M : List Nat} (h : ((c.data.toList.drop k).take M.length).map UInt8.toNat = M) {j pc a b : Nat} {i : Int} (hp : k + j = pc) (hb : (M.drop j).take 3 = [155, a, b]) (hi : Reader.signed 16 (a * 256 + b) = i) : decode c pc = .ok (.ifCond .lt i, 3) := by
  obtain ⟨h0, h1, h2⟩ := bn3 k h hp hb
  subst hi
  show (bind (bind ((Reader.u1 : Decoder Nat) c pc) _) _ : Except DecodeError (Instr × Nat)) = _
  rw [u1_n h0]
  show (bind (bind ((Reader.s2 : Decoder Int) c (pc + 1)) _) _ : Except DecodeError (Instr × Nat)) = _
  rw [s2_n h1 h2]
  show Except.ok ((.ifCond .lt (Reader.signed 16 (a * 256 + b)) : Instr), pc + 1 + 2 - pc) = _
  rw [dq_l3]
theorem dq_156 {c : ByteArray} (k : Nat) {M : List Nat} (h : ((c.data.toList.drop k).take M.length).map UInt8.toNat = M) {j pc a b : Nat} {i : Int} (hp : k + j = pc) (hb : (M.drop j).take 3 = [156, a, b]) (hi : Reader.signed 16 (a * 256 + b) = i) : decode c pc = .ok (.ifCond .ge i, 3) := by
  obtain ⟨h0, h1, h2⟩ := bn3 k h hp hb
  subst hi
  show (bind (bind ((Reader.u1 : Decoder Nat) c pc) _) _ : Except DecodeError (Instr × Nat)) = _
  rw [u1_n h0]
  show (bind (bind ((Reader.s2 : Decoder Int) c (pc + 1)) _) _ : Except DecodeError (Instr × Nat)) = _
  rw [s2_n h1 h2]
  show Except.ok ((.ifCond .ge (Reader.signed 16 (a * 256 + b)) : Instr), pc + 1 + 2 - pc) = _
  rw [dq_l3]
theorem dq_157 {c : ByteArray} (k : Nat) {M : List Nat} (h : ((c.data.toList.drop k).take M.length).map UInt8.toNat = M) {j pc a b : Nat} {i : Int} (hp : k + j = pc) (hb : (M.drop j).take 3 = [157, a, b]) (hi : Reader.signed 16 (a * 256 + b) = i) : decode c pc = .ok (.ifCond .gt i, 3) := by
  obtain ⟨h0, h1, h2⟩ := bn3 k h hp hb
  subst hi
  show (bind (bind ((Reader.u1 : Decoder Nat) c pc) _) _ : Except DecodeError (Instr × Nat)) = _
  rw [u1_n h0]
  show (bind (bind ((Reader.s2 : Decoder Int) c (pc + 1)) _) _ : Except DecodeError (Instr × Nat)) = _
  rw [s2_n h1 h2]
  show Except.ok ((.ifCond .gt (Reader.signed 16 (a * 256 + b)) : Instr), pc + 1 + 2 - pc) = _
  rw [dq_l3]
theorem dq_158 {c : ByteArray} (k : Nat) {M : List Nat} (h : ((c.data.toList.drop k).take M.length).map UInt8.toNat = M) {j pc a b : Nat} {i : Int} (hp : k + j = pc) (hb : (M.drop j).take 3 = [158, a, b]) (hi : Reader.signed 16 (a * 256 + b) = i) : decode c pc = .ok (.ifCond .le i, 3) := by
  obtain ⟨h0, h1, h2⟩ := bn3 k h hp hb
  subst hi
  show (bind (bind ((Reader.u1 : Decoder Nat) c pc) _) _ : Except DecodeError (Instr × Nat)) = _
  rw [u1_n h0]
  show (bind (bind ((Reader.s2 : Decoder Int) c (pc + 1)) _) _ : Except DecodeError (Instr × Nat)) = _
  rw [s2_n h1 h2]
  show Except.ok ((.ifCond .le (Reader.signed 16 (a * 256 + b)) : Instr), pc + 1 + 2 - pc) = _
  rw [dq_l3]
theorem dq_159 {c : ByteArray} (k : Nat) {M : List Nat} (h : ((c.data.toList.drop k).take M.length).map UInt8.toNat = M) {j pc a b : Nat} {i : Int} (hp : k + j = pc) (hb : (M.drop j).take 3 = [159, a, b]) (hi : Reader.signed 16 (a * 256 + b) = i) : decode c pc = .ok (.if_icmp .eq i, 3) := by
  obtain ⟨h0, h1, h2⟩ := bn3 k h hp hb
  subst hi
  show (bind (bind ((Reader.u1 : Decoder Nat) c pc) _) _ : Except DecodeError (Instr × Nat)) = _
  rw [u1_n h0]
  show (bind (bind ((Reader.s2 : Decoder Int) c (pc + 1)) _) _ : Except DecodeError (Instr × Nat)) = _
  rw [s2_n h1 h2]
  show Except.ok ((.if_icmp .eq (Reader.signed 16 (a * 256 + b)) : Instr), pc + 1 + 2 - pc) = _
  rw [dq_l3]
theorem dq_160 {c : ByteArray} (k : Nat) {M : List Nat} (h : ((c.data.toList.drop k).take M.length).map UInt8.toNat = M) {j pc a b : Nat} {i : Int} (hp : k + j = pc) (hb : (M.drop j).take 3 = [160, a, b]) (hi : Reader.signed 16 (a * 256 + b) = i) : decode c pc = .ok (.if_icmp .ne i, 3) := by
  obtain ⟨h0, h1, h2⟩ := bn3 k h hp hb
  subst hi
  show (bind (bind ((Reader.u1 : Decoder Nat) c pc) _) _ : Except DecodeError (Instr × Nat)) = _
  rw [u1_n h0]
  show (bind (bind ((Reader.s2 : Decoder Int) c (pc + 1)) _) _ : Except DecodeError (Instr × Nat)) = _
  rw [s2_n h1 h2]
  show Except.ok ((.if_icmp .ne (Reader.signed 16 (a * 256 + b)) : Instr), pc + 1 + 2 - pc) = _
  rw [dq_l3]
theorem dq_161 {c : ByteArray} (k : Nat) {M : List Nat} (h : ((c.data.toList.drop k).take M.length).map UInt8.toNat = M) {j pc a b : Nat} {i : Int} (hp : k + j = pc) (hb : (M.drop j).take 3 = [161, a, b]) (hi : Reader.signed 16 (a * 256 + b) = i) : decode c pc = .ok (.if_icmp .lt i, 3) := by
  obtain ⟨h0, h1, h2⟩ := bn3 k h hp hb
  subst hi
  show (bind (bind ((Reader.u1 : Decoder Nat) c pc) _) _ : Except DecodeError (Instr × Nat)) = _
  rw [u1_n h0]
  show (bind (bind ((Reader.s2 : Decoder Int) c (pc + 1)) _) _ : Except DecodeError (Instr × Nat)) = _
  rw [s2_n h1 h2]
  show Except.ok ((.if_icmp .lt (Reader.signed 16 (a * 256 + b)) : Instr), pc + 1 + 2 - pc) = _
  rw [dq_l3]
theorem dq_162 {c : ByteArray} (k : Nat) {M : List Nat} (h : ((c.data.toList.drop k).take M.length).map UInt8.toNat = M) {j pc a b : Nat} {i : Int} (hp : k + j = pc) (hb : (M.drop j).take 3 = [162, a, b]) (hi : Reader.signed 16 (a * 256 + b) = i) : decode c pc = .ok (.if_icmp .ge i, 3) := by
  obtain ⟨h0, h1, h2⟩ := bn3 k h hp hb
  subst hi
  show (bind (bind ((Reader.u1 : Decoder Nat) c pc) _) _ : Except DecodeError (Instr × Nat)) = _
  rw [u1_n h0]
  show (bind (bind ((Reader.s2 : Decoder Int) c (pc + 1)) _) _ : Except DecodeError (Instr × Nat)) = _
  rw [s2_n h1 h2]
  show Except.ok ((.if_icmp .ge (Reader.signed 16 (a * 256 + b)) : Instr), pc + 1 + 2 - pc) = _
  rw [dq_l3]
theorem dq_163 {c : ByteArray} (k : Nat) {M : List Nat} (h : ((c.data.toList.drop k).take M.length).map UInt8.toNat = M) {j pc a b : Nat} {i : Int} (hp : k + j = pc) (hb : (M.drop j).take 3 = [163, a, b]) (hi : Reader.signed 16 (a * 256 + b) = i) : decode c pc = .ok (.if_icmp .gt i, 3) := by
  obtain ⟨h0, h1, h2⟩ := bn3 k h hp hb
  subst hi
  show (bind (bind ((Reader.u1 : Decoder Nat) c pc) _) _ : Except DecodeError (Instr × Nat)) = _
  rw [u1_n h0]
  show (bind (bind ((Reader.s2 : Decoder Int) c (pc + 1)) _) _ : Except DecodeError (Instr × Nat)) = _
  rw [s2_n h1 h2]
  show Except.ok ((.if_icmp .gt (Reader.signed 16 (a * 256 + b)) : Instr), pc + 1 + 2 - pc) = _
  rw [dq_l3]
theorem dq_164 {c : ByteArray} (k : Nat) {M : List Nat} (h : ((c.data.toList.drop k).take M.length).map UInt8.toNat = M) {j pc a b : Nat} {i : Int} (hp : k + j = pc) (hb : (M.drop j).take 3 = [164, a, b]) (hi : Reader.signed 16 (a * 256 + b) = i) : decode c pc = .ok (.if_icmp .le i, 3) := by
  obtain ⟨h0, h1, h2⟩ := bn3 k h hp hb
  subst hi
  show (bind (bind ((Reader.u1 : Decoder Nat) c pc) _) _ : Except DecodeError (Instr × Nat)) = _
  rw [u1_n h0]
  show (bind (bind ((Reader.s2 : Decoder Int) c (pc + 1)) _) _ : Except DecodeError (Instr × Nat)) = _
  rw [s2_n h1 h2]
  show Except.ok ((.if_icmp .le (Reader.signed 16 (a * 256 + b)) : Instr), pc + 1 + 2 - pc) = _
  rw [dq_l3]
theorem dq_167 {c : ByteArray} (k : Nat) {M : List Nat} (h : ((c.data.toList.drop k).take M.length).map UInt8.toNat = M) {j pc a b : Nat} {i : Int} (hp : k + j = pc) (hb : (M.drop j).take 3 = [167, a, b]) (hi : Reader.signed 16 (a * 256 + b) = i) : decode c pc = .ok (.goto i, 3) := by
  obtain ⟨h0, h1, h2⟩ := bn3 k h hp hb
  subst hi
  show (bind (bind ((Reader.u1 : Decoder Nat) c pc) _) _ : Except DecodeError (Instr × Nat)) = _
  rw [u1_n h0]
  show (bind (bind ((Reader.s2 : Decoder Int) c (pc + 1)) _) _ : Except DecodeError (Instr × Nat)) = _
  rw [s2_n h1 h2]
  show Except.ok ((.goto (Reader.signed 16 (a * 256 + b)) : Instr), pc + 1 + 2 - pc) = _
  rw [dq_l3]
theorem dq_199 {c : ByteArray} (k : Nat) {M : List Nat} (h : ((c.data.toList.drop k).take M.length).map UInt8.toNat = M) {j pc a b : Nat} {i : Int} (hp : k + j = pc) (hb : (M.drop j).take 3 = [199, a, b]) (hi : Reader.signed 16 (a * 256 + b) = i) : decode c pc = .ok (.ifnonnull i, 3) := by
  obtain ⟨h0, h1, h2⟩ := bn3 k h hp hb
  subst hi
  show (bind (bind ((Reader.u1 : Decoder Nat) c pc) _) _ : Except DecodeError (Instr × Nat)) = _
  rw [u1_n h0]
  show (bind (bind ((Reader.s2 : Decoder Int) c (pc + 1)) _) _ : Except DecodeError (Instr × Nat)) = _
  rw [s2_n h1 h2]
  show Except.ok ((.ifnonnull (Reader.signed 16 (a * 256 + b)) : Instr), pc + 1 + 2 - pc) = _
  rw [dq_l3]
theorem gw_nil : ([] : List Cond).all goodWord = true := rfl
theorem gw_ap {a b : List Cond} (ha : a.all goodWord = true) (hb : b.all goodWord = true) : (HAppend.hAppend (α := List Cond) (β := List Cond) (γ := List Cond) a b).all goodWord = true := by
  rw [List.all_eq_true] at ha hb ⊢
  intro w hw
  rcases List.mem_append.mp hw with q | q
  · exact ha w q
  · exact hb w q
theorem gw_c2 {c : Cond} {o r : List Cond} (h : (c :: o).all goodWord = true) (hr : r.all goodWord = true) : (List.cons c (HAppend.hAppend (α := List Cond) (β := List Cond) (γ := List Cond) o r)).all goodWord = true := by
  rw [List.all_eq_true] at h hr ⊢
  intro w hw
  rcases List.mem_cons.mp hw with q | q
  · exact h w (List.mem_cons.mpr (Or.inl q))
  · rcases List.mem_append.mp q with q | q
    · exact h w (List.mem_cons_of_mem _ q)
    · exact hr w q
theorem goodIn_in {big ws : List Cond} (g : big.all goodWord = true) (h : ∀ w ∈ ws, w ∈ big) : GoodIn big ws := fun w hw => ⟨h w hw, good_of_word (List.all_eq_true.mp g w (h w hw))⟩
theorem in3 {big : List Cond} {a b c : Cond} {ws : List Cond} (i j k : Nat) (hi : big[i]? = some a) (hj : big[j]? = some b) (hk : big[k]? = some c) (hs : ∀ w ∈ ws, w ∈ big) : ∀ w ∈ ([a, b, c] : List Cond) ++ ws, w ∈ big := by
  intro w hw
  rcases List.mem_append.mp hw with q | q
  · simp only [List.mem_cons, List.not_mem_nil, or_false] at q
    rcases q with rfl | rfl | rfl
    · exact List.mem_of_getElem? hi
    · exact List.mem_of_getElem? hj
    · exact List.mem_of_getElem? hk
  · exact hs w q
theorem in4 {big : List Cond} {a b c d : Cond} {ws : List Cond} (i j k l : Nat) (hi : big[i]? = some a) (hj : big[j]? = some b) (hk : big[k]? = some c) (hl : big[l]? = some d) (hs : ∀ w ∈ ws, w ∈ big) : ∀ w ∈ ([a, b, c, d] : List Cond) ++ ws, w ∈ big := by
  intro w hw
  rcases List.mem_append.mp hw with q | q
  · simp only [List.mem_cons, List.not_mem_nil, or_false] at q
    rcases q with rfl | rfl | rfl | rfl
    · exact List.mem_of_getElem? hi
    · exact List.mem_of_getElem? hj
    · exact List.mem_of_getElem? hk
    · exact List.mem_of_getElem? hl
  · exact hs w q
theorem in5 {big : List Cond} {a b c d e : Cond} {ws : List Cond} (i j k l m : Nat) (hi : big[i]? = some a) (hj : big[j]? = some b) (hk : big[k]? = some c) (hl : big[l]? = some d) (hm : big[m]? = some e) (hs : ∀ w ∈ ws, w ∈ big) : ∀ w ∈ ([a, b, c, d, e] : List Cond) ++ ws, w ∈ big := by
  intro w hw
  rcases List.mem_append.mp hw with q | q
  · simp only [List.mem_cons, List.not_mem_nil, or_false] at q
    rcases q with rfl | rfl | rfl | rfl | rfl
    · exact List.mem_of_getElem? hi
    · exact List.mem_of_getElem? hj
    · exact List.mem_of_getElem? hk
    · exact List.mem_of_getElem? hl
    · exact List.mem_of_getElem? hm
  · exact hs w q
theorem fixPD {D : va_G} {cl : List vw_C} {A : Nat → Prop} {H : Heap} {ws ws' : va_W} (hP : va_P D cl ws H) (hD : va_D A ws) (e : ws = ws') : va_P D cl ws' H ∧ va_D A ws' := by
  subst e
  exact ⟨hP, hD⟩
abbrev k_I (E : EE) (a n : Nat) (c : Nat → Int32) : Nat × va_E := (a, .inl (E.2.1, n, .inl c))
abbrev k_B (E : EE) (a n : Nat) (c : Nat → Int32) : Nat × va_E := (a, .inl (E.2.2.1, n, .inl c))
abbrev k_L (E : EE) (a n : Nat) (c : Nat → Int64) : Nat × va_E := (a, .inl (E.2.2.2, n, .inr (.inl c)))
abbrev k_X0 (a : Nat) (f0 : Nat) : Nat × va_E := (a, .inr (1, [.ref f0]))
abbrev k_X1 (a : Nat) (f0 : Int64) (f1 : Int32) (f2 : Int32) (f3 : Int32) (f4 : Int32) : Nat × va_E := (a, .inr (2, [.long f0, .int f1, .int f2, .int f3, .int f4]))
abbrev k_X2 (a : Nat) (f0 : Nat) (f1 : Int32) (f2 : Int32) : Nat × va_E := (a, .inr (3, [.ref f0, .int f1, .int f2]))
abbrev k_X3 (a : Nat) (f0 : Nat) (f1 : Nat) (f2 : Nat) (f3 : Nat) (f4 : Int32) (f5 : Int32) (f6 : Int32) (f7 : Int32) (f8 : Int32) (f9 : Int32) (f10 : Int32) : Nat × va_E := (a, .inr (4, [.ref f0, .ref f1, .ref f2, .ref f3, .int f4, .int f5, .int f6, .int f7, .int f8, .int f9, .int f10]))
abbrev k_X4 (a : Nat) (f0 : Nat) (f1 : Nat) (f2 : Int32) : Nat × va_E := (a, .inr (5, [.ref f0, .ref f1, .int f2]))
abbrev k_X5 (a : Nat) (f0 : Nat) (f1 : Nat) (f2 : Int32) (f3 : Int32) (f4 : Nat) (f5 : Nat) : Nat × va_E := (a, .inr (6, [.ref f0, .ref f1, .int f2, .int f3, .ref f4, .ref f5]))
abbrev k_X6 (a : Nat) (f0 : Nat) (f1 : Int32) : Nat × va_E := (a, .inr (7, [.ref f0, .int f1]))
abbrev k_X7 (a : Nat) (f0 : Nat) (f1 : Nat) (f2 : Nat) (f3 : Nat) (f4 : Nat) (f5 : Nat) (f6 : Nat) (f7 : Nat) (f8 : Nat) (f9 : Nat) (f10 : Nat) (f11 : Int32) : Nat × va_E := (a, .inr (8, [.ref f0, .ref f1, .ref f2, .ref f3, .ref f4, .ref f5, .ref f6, .ref f7, .ref f8, .ref f9, .ref f10, .int f11]))
abbrev k_X8 (a : Nat) (f0 : Int32) (f1 : Nat) (f2 : Int32) (f3 : Int32) (f4 : Int32) (f5 : Int32) (f6 : Int32) (f7 : Int32) (f8 : Int64) (f9 : Int32) (f10 : Int32) (f11 : Int32) (f12 : Int32) (f13 : Nat) (f14 : Nat) (f15 : Nat) (f16 : Int32) (f17 : Nat) (f18 : Nat) (f19 : Int32) (f20 : Nat) (f21 : Nat) (f22 : Int32) (f23 : Int32) (f24 : Nat) (f25 : Int32) (f26 : Nat) (f27 : Int32) (f28 : Int64) (f29 : Nat) (f30 : Int32) (f31 : Int32) (f32 : Nat) (f33 : Int32) (f34 : Nat) (f35 : Int32) : Nat × va_E := (a, .inr (9, [.int f0, .ref f1, .int f2, .int f3, .int f4, .int f5, .int f6, .int f7, .long f8, .int f9, .int f10, .int f11, .int f12, .ref f13, .ref f14, .ref f15, .int f16, .ref f17, .ref f18, .int f19, .ref f20, .ref f21, .int f22, .int f23, .ref f24, .int f25, .ref f26, .int f27, .long f28, .ref f29, .int f30, .int f31, .ref f32, .int f33, .ref f34, .int f35]))
abbrev k_J4 (a : Nat) (f0 : Nat) (f1 : Int32) (f2 : Int32) (f3 : Int32) : Nat × va_E := (a, .inr (0, [.ref f0, .int f1, .int f2, .int f3]))
