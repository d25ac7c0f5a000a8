-- 87g.dk
section

/-- byte b of a code stands at p -/
def BA (c : ByteArray) (p : Nat) (b : UInt8) : Prop := ∃ hp : p < c.size, c[p] = b
theorem ba_in {c : ByteArray} (k : Nat) {M : List UInt8} (h : (c.data.toList.drop k).take M.length = M) {j p : Nat} {b : UInt8} (hp : k + j = p) (hb : M[j]? = some b) : BA c p b := by
  have hj : j < M.length := (List.getElem?_eq_some_iff.mp hb).1
  rw [← h, List.getElem?_take, if_pos hj, List.getElem?_drop] at hb
  obtain ⟨hp2, e⟩ := List.getElem?_eq_some_iff.mp hb
  subst hp
  exact ⟨hp2, e⟩
theorem u1_at {c : ByteArray} {p : Nat} {b : UInt8} (h : BA c p b) : (Reader.u1 : Decoder Nat) c p = .ok (b.toNat, p + 1) := by
  obtain ⟨hp, e⟩ := h
  have w : (Reader.u1 : Decoder Nat) c p = (dite (p < c.size) (fun h => (do set (p + 1); pure c[p].toNat : Decoder Nat)) (fun _ => throw (HasTruncated.truncated p))) c p := rfl
  rw [w, dif_pos hp, e]
  rfl
theorem u2_at {c : ByteArray} {p : Nat} {b0 b1 : UInt8} (h : BA c p b0) (h1 : BA c (p + 1) b1) : (Reader.u2 : Decoder Nat) c p = .ok (b0.toNat * 256 + b1.toNat, p + 2) := by
  show (bind ((Reader.u1 : Decoder Nat) c p) _ : Except DecodeError (Nat × Nat)) = _
  rw [u1_at h]
  show (bind ((Reader.u1 : Decoder Nat) c (p + 1)) _ : Except DecodeError (Nat × Nat)) = _
  rw [u1_at h1]
  rfl
theorem s2_at {c : ByteArray} {p : Nat} {b0 b1 : UInt8} (h : BA c p b0) (h1 : BA c (p + 1) b1) : (Reader.s2 : Decoder Int) c p = .ok (Reader.signed 16 (b0.toNat * 256 + b1.toNat), p + 2) := by
  show (bind ((Reader.u2 : Decoder Nat) c p) _ : Except DecodeError (Int × Nat)) = _
  rw [u2_at h h1]
  rfl
theorem dk_46 {c : ByteArray} {pc : Nat} (h : BA c pc 46) : decode c pc = .ok (.iaload, 1) := by
  show (bind (bind ((Reader.u1 : Decoder Nat) c pc) _) _ : Except DecodeError (Instr × Nat)) = _
  rw [u1_at h]
  show Except.ok ((.iaload : Instr), pc + 1 - pc) = _
  rw [Nat.add_sub_cancel_left]
theorem dk_96 {c : ByteArray} {pc : Nat} (h : BA c pc 96) : decode c pc = .ok (.iadd, 1) := by
  show (bind (bind ((Reader.u1 : Decoder Nat) c pc) _) _ : Except DecodeError (Instr × Nat)) = _
  rw [u1_at h]
  show Except.ok ((.iadd : Instr), pc + 1 - pc) = _
  rw [Nat.add_sub_cancel_left]
theorem dk_87 {c : ByteArray} {pc : Nat} (h : BA c pc 87) : decode c pc = .ok (.pop, 1) := by
  show (bind (bind ((Reader.u1 : Decoder Nat) c pc) _) _ : Except DecodeError (Instr × Nat)) = _
  rw [u1_at h]
  show Except.ok ((.pop : Instr), pc + 1 - pc) = _
  rw [Nat.add_sub_cancel_left]
theorem dk_88 {c : ByteArray} {pc : Nat} (h : BA c pc 88) : decode c pc = .ok (.pop2, 1) := by
  show (bind (bind ((Reader.u1 : Decoder Nat) c pc) _) _ : Except DecodeError (Instr × Nat)) = _
  rw [u1_at h]
  show Except.ok ((.pop2 : Instr), pc + 1 - pc) = _
  rw [Nat.add_sub_cancel_left]
theorem dk_89 {c : ByteArray} {pc : Nat} (h : BA c pc 89) : decode c pc = .ok (.dup, 1) := by
  show (bind (bind ((Reader.u1 : Decoder Nat) c pc) _) _ : Except DecodeError (Instr × Nat)) = _
  rw [u1_at h]
  show Except.ok ((.dup : Instr), pc + 1 - pc) = _
  rw [Nat.add_sub_cancel_left]
theorem dk_100 {c : ByteArray} {pc : Nat} (h : BA c pc 100) : decode c pc = .ok (.isub, 1) := by
  show (bind (bind ((Reader.u1 : Decoder Nat) c pc) _) _ : Except DecodeError (Instr × Nat)) = _
  rw [u1_at h]
  show Except.ok ((.isub : Instr), pc + 1 - pc) = _
  rw [Nat.add_sub_cancel_left]
theorem dk_126 {c : ByteArray} {pc : Nat} (h : BA c pc 126) : decode c pc = .ok (.iand, 1) := by
  show (bind (bind ((Reader.u1 : Decoder Nat) c pc) _) _ : Except DecodeError (Instr × Nat)) = _
  rw [u1_at h]
  show Except.ok ((.iand : Instr), pc + 1 - pc) = _
  rw [Nat.add_sub_cancel_left]
theorem dk_127 {c : ByteArray} {pc : Nat} (h : BA c pc 127) : decode c pc = .ok (.land, 1) := by
  show (bind (bind ((Reader.u1 : Decoder Nat) c pc) _) _ : Except DecodeError (Instr × Nat)) = _
  rw [u1_at h]
  show Except.ok ((.land : Instr), pc + 1 - pc) = _
  rw [Nat.add_sub_cancel_left]
theorem dk_129 {c : ByteArray} {pc : Nat} (h : BA c pc 129) : decode c pc = .ok (.lor, 1) := by
  show (bind (bind ((Reader.u1 : Decoder Nat) c pc) _) _ : Except DecodeError (Instr × Nat)) = _
  rw [u1_at h]
  show Except.ok ((.lor : Instr), pc + 1 - pc) = _
  rw [Nat.add_sub_cancel_left]
theorem dk_121 {c : ByteArray} {pc : Nat} (h : BA c pc 121) : decode c pc = .ok (.lshl, 1) := by
  show (bind (bind ((Reader.u1 : Decoder Nat) c pc) _) _ : Except DecodeError (Instr × Nat)) = _
  rw [u1_at h]
  show Except.ok ((.lshl : Instr), pc + 1 - pc) = _
  rw [Nat.add_sub_cancel_left]
theorem dk_133 {c : ByteArray} {pc : Nat} (h : BA c pc 133) : decode c pc = .ok (.i2l, 1) := by
  show (bind (bind ((Reader.u1 : Decoder Nat) c pc) _) _ : Except DecodeError (Instr × Nat)) = _
  rw [u1_at h]
  show Except.ok ((.i2l : Instr), pc + 1 - pc) = _
  rw [Nat.add_sub_cancel_left]
theorem dk_172 {c : ByteArray} {pc : Nat} (h : BA c pc 172) : decode c pc = .ok (.ireturn, 1) := by
  show (bind (bind ((Reader.u1 : Decoder Nat) c pc) _) _ : Except DecodeError (Instr × Nat)) = _
  rw [u1_at h]
  show Except.ok ((.ireturn : Instr), pc + 1 - pc) = _
  rw [Nat.add_sub_cancel_left]
theorem dk_190 {c : ByteArray} {pc : Nat} (h : BA c pc 190) : decode c pc = .ok (.arraylength, 1) := by
  show (bind (bind ((Reader.u1 : Decoder Nat) c pc) _) _ : Except DecodeError (Instr × Nat)) = _
  rw [u1_at h]
  show Except.ok ((.arraylength : Instr), pc + 1 - pc) = _
  rw [Nat.add_sub_cancel_left]
theorem dk_148 {c : ByteArray} {pc : Nat} (h : BA c pc 148) : decode c pc = .ok (.lcmp, 1) := by
  show (bind (bind ((Reader.u1 : Decoder Nat) c pc) _) _ : Except DecodeError (Instr × Nat)) = _
  rw [u1_at h]
  show Except.ok ((.lcmp : Instr), pc + 1 - pc) = _
  rw [Nat.add_sub_cancel_left]
theorem dk_47 {c : ByteArray} {pc : Nat} (h : BA c pc 47) : decode c pc = .ok (.laload, 1) := by
  show (bind (bind ((Reader.u1 : Decoder Nat) c pc) _) _ : Except DecodeError (Instr × Nat)) = _
  rw [u1_at h]
  show Except.ok ((.laload : Instr), pc + 1 - pc) = _
  rw [Nat.add_sub_cancel_left]
theorem dk_42 {c : ByteArray} {pc : Nat} (h : BA c pc 42) : decode c pc = .ok (.aload_n 0, 1) := by
  show (bind (bind ((Reader.u1 : Decoder Nat) c pc) _) _ : Except DecodeError (Instr × Nat)) = _
  rw [u1_at h]
  show Except.ok ((.aload_n 0 : Instr), pc + 1 - pc) = _
  rw [Nat.add_sub_cancel_left]
theorem dk_43 {c : ByteArray} {pc : Nat} (h : BA c pc 43) : decode c pc = .ok (.aload_n 1, 1) := by
  show (bind (bind ((Reader.u1 : Decoder Nat) c pc) _) _ : Except DecodeError (Instr × Nat)) = _
  rw [u1_at h]
  show Except.ok ((.aload_n 1 : Instr), pc + 1 - pc) = _
  rw [Nat.add_sub_cancel_left]
theorem dk_44 {c : ByteArray} {pc : Nat} (h : BA c pc 44) : decode c pc = .ok (.aload_n 2, 1) := by
  show (bind (bind ((Reader.u1 : Decoder Nat) c pc) _) _ : Except DecodeError (Instr × Nat)) = _
  rw [u1_at h]
  show Except.ok ((.aload_n 2 : Instr), pc + 1 - pc) = _
  rw [Nat.add_sub_cancel_left]
theorem dk_45 {c : ByteArray} {pc : Nat} (h : BA c pc 45) : decode c pc = .ok (.aload_n 3, 1) := by
  show (bind (bind ((Reader.u1 : Decoder Nat) c pc) _) _ : Except DecodeError (Instr × Nat)) = _
  rw [u1_at h]
  show Except.ok ((.aload_n 3 : Instr), pc + 1 - pc) = _
  rw [Nat.add_sub_cancel_left]
theorem dk_26 {c : ByteArray} {pc : Nat} (h : BA c pc 26) : decode c pc = .ok (.iload_n 0, 1) := by
  show (bind (bind ((Reader.u1 : Decoder Nat) c pc) _) _ : Except DecodeError (Instr × Nat)) = _
  rw [u1_at h]
  show Except.ok ((.iload_n 0 : Instr), pc + 1 - pc) = _
  rw [Nat.add_sub_cancel_left]
theorem dk_27 {c : ByteArray} {pc : Nat} (h : BA c pc 27) : decode c pc = .ok (.iload_n 1, 1) := by
  show (bind (bind ((Reader.u1 : Decoder Nat) c pc) _) _ : Except DecodeError (Instr × Nat)) = _
  rw [u1_at h]
  show Except.ok ((.iload_n 1 : Instr), pc + 1 - pc) = _
  rw [Nat.add_sub_cancel_left]
theorem dk_28 {c : ByteArray} {pc : Nat} (h : BA c pc 28) : decode c pc = .ok (.iload_n 2, 1) := by
  show (bind (bind ((Reader.u1 : Decoder Nat) c pc) _) _ : Except DecodeError (Instr × Nat)) = _
  rw [u1_at h]
  show Except.ok ((.iload_n 2 : Instr), pc + 1 - pc) = _
  rw [Nat.add_sub_cancel_left]
theorem dk_29 {c : ByteArray} {pc : Nat} (h : BA c pc 29) : decode c pc = .ok (.iload_n 3, 1) := by
  show (bind (bind ((Reader.u1 : Decoder Nat) c pc) _) _ : Except DecodeError (Instr × Nat)) = _
  rw [u1_at h]
  show Except.ok ((.iload_n 3 : Instr), pc + 1 - pc) = _
  rw [Nat.add_sub_cancel_left]
theorem dk_75 {c : ByteArray} {pc : Nat} (h : BA c pc 75) : decode c pc = .ok (.astore_n 0, 1) := by
  show (bind (bind ((Reader.u1 : Decoder Nat) c pc) _) _ : Except DecodeError (Instr × Nat)) = _
  rw [u1_at h]
  show Except.ok ((.astore_n 0 : Instr), pc + 1 - pc) = _
  rw [Nat.add_sub_cancel_left]
theorem dk_76 {c : ByteArray} {pc : Nat} (h : BA c pc 76) : decode c pc = .ok (.astore_n 1, 1) := by
  show (bind (bind ((Reader.u1 : Decoder Nat) c pc) _) _ : Except DecodeError (Instr × Nat)) = _
  rw [u1_at h]
  show Except.ok ((.astore_n 1 : Instr), pc + 1 - pc) = _
  rw [Nat.add_sub_cancel_left]
theorem dk_77 {c : ByteArray} {pc : Nat} (h : BA c pc 77) : decode c pc = .ok (.astore_n 2, 1) := by
  show (bind (bind ((Reader.u1 : Decoder Nat) c pc) _) _ : Except DecodeError (Instr × Nat)) = _
  rw [u1_at h]
  show Except.ok ((.astore_n 2 : Instr), pc + 1 - pc) = _
  rw [Nat.add_sub_cancel_left]
theorem dk_78 {c : ByteArray} {pc : Nat} (h : BA c pc 78) : decode c pc = .ok (.astore_n 3, 1) := by
  show (bind (bind ((Reader.u1 : Decoder Nat) c pc) _) _ : Except DecodeError (Instr × Nat)) = _
  rw [u1_at h]
  show Except.ok ((.astore_n 3 : Instr), pc + 1 - pc) = _
  rw [Nat.add_sub_cancel_left]
theorem dk_3 {c : ByteArray} {pc : Nat} (h : BA c pc 3) : decode c pc = .ok (.iconst 0, 1) := by
  show (bind (bind ((Reader.u1 : Decoder Nat) c pc) _) _ : Except DecodeError (Instr × Nat)) = _
  rw [u1_at h]
  show Except.ok ((.iconst 0 : Instr), pc + 1 - pc) = _
  rw [Nat.add_sub_cancel_left]
theorem dk_4 {c : ByteArray} {pc : Nat} (h : BA c pc 4) : decode c pc = .ok (.iconst 1, 1) := by
  show (bind (bind ((Reader.u1 : Decoder Nat) c pc) _) _ : Except DecodeError (Instr × Nat)) = _
  rw [u1_at h]
  show Except.ok ((.iconst 1 : Instr), pc + 1 - pc) = _
  rw [Nat.add_sub_cancel_left]
theorem dk_5 {c : ByteArray} {pc : Nat} (h : BA c pc 5) : decode c pc = .ok (.iconst 2, 1) := by
  show (bind (bind ((Reader.u1 : Decoder Nat) c pc) _) _ : Except DecodeError (Instr × Nat)) = _
  rw [u1_at h]
  show Except.ok ((.iconst 2 : Instr), pc + 1 - pc) = _
  rw [Nat.add_sub_cancel_left]
theorem dk_6 {c : ByteArray} {pc : Nat} (h : BA c pc 6) : decode c pc = .ok (.iconst 3, 1) := by
  show (bind (bind ((Reader.u1 : Decoder Nat) c pc) _) _ : Except DecodeError (Instr × Nat)) = _
  rw [u1_at h]
  show Except.ok ((.iconst 3 : Instr), pc + 1 - pc) = _
  rw [Nat.add_sub_cancel_left]
theorem dk_7 {c : ByteArray} {pc : Nat} (h : BA c pc 7) : decode c pc = .ok (.iconst 4, 1) := by
  show (bind (bind ((Reader.u1 : Decoder Nat) c pc) _) _ : Except DecodeError (Instr × Nat)) = _
  rw [u1_at h]
  show Except.ok ((.iconst 4 : Instr), pc + 1 - pc) = _
  rw [Nat.add_sub_cancel_left]
theorem dk_8 {c : ByteArray} {pc : Nat} (h : BA c pc 8) : decode c pc = .ok (.iconst 5, 1) := by
  show (bind (bind ((Reader.u1 : Decoder Nat) c pc) _) _ : Except DecodeError (Instr × Nat)) = _
  rw [u1_at h]
  show Except.ok ((.iconst 5 : Instr), pc + 1 - pc) = _
  rw [Nat.add_sub_cancel_left]
theorem dk_21 {c : ByteArray} {pc : Nat} {b : UInt8} {k : Nat} (e : b.toNat = k) (h : BA c pc 21) (h1 : BA c (pc + 1) b) : decode c pc = .ok (.iload k, 2) := by
  subst e
  show (bind (bind ((Reader.u1 : Decoder Nat) c pc) _) _ : Except DecodeError (Instr × Nat)) = _
  rw [u1_at h]
  show (bind (bind ((Reader.u1 : Decoder Nat) c (pc + 1)) _) _ : Except DecodeError (Instr × Nat)) = _
  rw [u1_at h1]
  show Except.ok (Instr.iload b.toNat, pc + 1 + 1 - pc) = _
  rw [Nat.add_assoc, Nat.add_sub_cancel_left]
theorem dk_54 {c : ByteArray} {pc : Nat} {b : UInt8} {k : Nat} (e : b.toNat = k) (h : BA c pc 54) (h1 : BA c (pc + 1) b) : decode c pc = .ok (.istore k, 2) := by
  subst e
  show (bind (bind ((Reader.u1 : Decoder Nat) c pc) _) _ : Except DecodeError (Instr × Nat)) = _
  rw [u1_at h]
  show (bind (bind ((Reader.u1 : Decoder Nat) c (pc + 1)) _) _ : Except DecodeError (Instr × Nat)) = _
  rw [u1_at h1]
  show Except.ok (Instr.istore b.toNat, pc + 1 + 1 - pc) = _
  rw [Nat.add_assoc, Nat.add_sub_cancel_left]
theorem dk_182 {c : ByteArray} {pc : Nat} {b b1 : UInt8} {k : Nat} (e : b.toNat * 256 + b1.toNat = k) (h : BA c pc 182) (h1 : BA c (pc + 1) b) (h2 : BA c (pc + 1 + 1) b1) : decode c pc = .ok (.invokevirtual k, 3) := by
  subst e
  show (bind (bind ((Reader.u1 : Decoder Nat) c pc) _) _ : Except DecodeError (Instr × Nat)) = _
  rw [u1_at h]
  show (bind (bind ((Reader.u2 : Decoder Nat) c (pc + 1)) _) _ : Except DecodeError (Instr × Nat)) = _
  rw [u2_at h1 h2]
  show Except.ok (Instr.invokevirtual (b.toNat * 256 + b1.toNat), pc + 1 + 2 - pc) = _
  rw [Nat.add_assoc, Nat.add_sub_cancel_left]
theorem dk_183 {c : ByteArray} {pc : Nat} {b b1 : UInt8} {k : Nat} (e : b.toNat * 256 + b1.toNat = k) (h : BA c pc 183) (h1 : BA c (pc + 1) b) (h2 : BA c (pc + 1 + 1) b1) : decode c pc = .ok (.invokespecial k, 3) := by
  subst e
  show (bind (bind ((Reader.u1 : Decoder Nat) c pc) _) _ : Except DecodeError (Instr × Nat)) = _
  rw [u1_at h]
  show (bind (bind ((Reader.u2 : Decoder Nat) c (pc + 1)) _) _ : Except DecodeError (Instr × Nat)) = _
  rw [u2_at h1 h2]
  show Except.ok (Instr.invokespecial (b.toNat * 256 + b1.toNat), pc + 1 + 2 - pc) = _
  rw [Nat.add_assoc, Nat.add_sub_cancel_left]
theorem dk_184 {c : ByteArray} {pc : Nat} {b b1 : UInt8} {k : Nat} (e : b.toNat * 256 + b1.toNat = k) (h : BA c pc 184) (h1 : BA c (pc + 1) b) (h2 : BA c (pc + 1 + 1) b1) : decode c pc = .ok (.invokestatic k, 3) := by
  subst e
  show (bind (bind ((Reader.u1 : Decoder Nat) c pc) _) _ : Except DecodeError (Instr × Nat)) = _
  rw [u1_at h]
  show (bind (bind ((Reader.u2 : Decoder Nat) c (pc + 1)) _) _ : Except DecodeError (Instr × Nat)) = _
  rw [u2_at h1 h2]
  show Except.ok (Instr.invokestatic (b.toNat * 256 + b1.toNat), pc + 1 + 2 - pc) = _
  rw [Nat.add_assoc, Nat.add_sub_cancel_left]
theorem dk_167 {c : ByteArray} {pc : Nat} {b b1 : UInt8} {k : Int} (e : Reader.signed 16 (b.toNat * 256 + b1.toNat) = k) (h : BA c pc 167) (h1 : BA c (pc + 1) b) (h2 : BA c (pc + 1 + 1) b1) : decode c pc = .ok (.goto k, 3) := by
  subst e
  show (bind (bind ((Reader.u1 : Decoder Nat) c pc) _) _ : Except DecodeError (Instr × Nat)) = _
  rw [u1_at h]
  show (bind (bind ((Reader.s2 : Decoder Int) c (pc + 1)) _) _ : Except DecodeError (Instr × Nat)) = _
  rw [s2_at h1 h2]
  show Except.ok ((.goto (Reader.signed 16 (b.toNat * 256 + b1.toNat)) : Instr), pc + 1 + 2 - pc) = _
  rw [Nat.add_assoc, Nat.add_sub_cancel_left]
theorem dk_153 {c : ByteArray} {pc : Nat} {b b1 : UInt8} {k : Int} (e : Reader.signed 16 (b.toNat * 256 + b1.toNat) = k) (h : BA c pc 153) (h1 : BA c (pc + 1) b) (h2 : BA c (pc + 1 + 1) b1) : decode c pc = .ok (.ifCond .eq k, 3) := by
  subst e
  show (bind (bind ((Reader.u1 : Decoder Nat) c pc) _) _ : Except DecodeError (Instr × Nat)) = _
  rw [u1_at h]
  show (bind (bind ((Reader.s2 : Decoder Int) c (pc + 1)) _) _ : Except DecodeError (Instr × Nat)) = _
  rw [s2_at h1 h2]
  show Except.ok ((.ifCond .eq (Reader.signed 16 (b.toNat * 256 + b1.toNat)) : Instr), pc + 1 + 2 - pc) = _
  rw [Nat.add_assoc, Nat.add_sub_cancel_left]
theorem dk_154 {c : ByteArray} {pc : Nat} {b b1 : UInt8} {k : Int} (e : Reader.signed 16 (b.toNat * 256 + b1.toNat) = k) (h : BA c pc 154) (h1 : BA c (pc + 1) b) (h2 : BA c (pc + 1 + 1) b1) : decode c pc = .ok (.ifCond .ne k, 3) := by
  subst e
  show (bind (bind ((Reader.u1 : Decoder Nat) c pc) _) _ : Except DecodeError (Instr × Nat)) = _
  rw [u1_at h]
  show (bind (bind ((Reader.s2 : Decoder Int) c (pc + 1)) _) _ : Except DecodeError (Instr × Nat)) = _
  rw [s2_at h1 h2]
  show Except.ok ((.ifCond .ne (Reader.signed 16 (b.toNat * 256 + b1.toNat)) : Instr), pc + 1 + 2 - pc) = _
  rw [Nat.add_assoc, Nat.add_sub_cancel_left]
theorem dk_159 {c : ByteArray} {pc : Nat} {b b1 : UInt8} {k : Int} (e : Reader.signed 16 (b.toNat * 256 + b1.toNat) = k) (h : BA c pc 159) (h1 : BA c (pc + 1) b) (h2 : BA c (pc + 1 + 1) b1) : decode c pc = .ok (.if_icmp .eq k, 3) := by
  subst e
  show (bind (bind ((Reader.u1 : Decoder Nat) c pc) _) _ : Except DecodeError (Instr × Nat)) = _
  rw [u1_at h]
  show (bind (bind ((Reader.s2 : Decoder Int) c (pc + 1)) _) _ : Except DecodeError (Instr × Nat)) = _
  rw [s2_at h1 h2]
  show Except.ok ((.if_icmp .eq (Reader.signed 16 (b.toNat * 256 + b1.toNat)) : Instr), pc + 1 + 2 - pc) = _
  rw [Nat.add_assoc, Nat.add_sub_cancel_left]
def lwB_0 : List UInt8 := [0xbb, 0x00, 0x08, 0x59, 0xb7, 0x00, 0x0f, 0x4c, 0xbb, 0x00, 0x10, 0x59, 0xb7, 0x00, 0x12, 0x4d, 0x04, 0xbc, 0x0b, 0x4e, 0x03, 0x36, 0x04, 0x15, 0x04, 0x2a, 0xbe, 0x10, 0x06, 0x64, 0xa3, 0x06, 0x4a, 0x2a, 0x15, 0x04, 0x2e, 0x10, 0x3f, 0x7e, 0xaa, 0x00, 0x00, 0x00, 0x00, 0x00, 0x06, 0x3a]
set_option maxRecDepth 100000 in
theorem lwBc_0 : (code.data.toList.drop 0).take lwB_0.length = lwB_0 := rfl
def lwB_1 : List UInt8 := [0x00, 0x00, 0x00, 0x00, 0x00, 0x00, 0x00, 0x26, 0x00, 0x00, 0x00, 0xac, 0x00, 0x00, 0x00, 0xf5, 0x00, 0x00, 0x01, 0x0e, 0x00, 0x00, 0x01, 0x27, 0x00, 0x00, 0x01, 0x40, 0x00, 0x00, 0x01, 0x59, 0x00, 0x00, 0x01, 0x81, 0x00, 0x00, 0x01, 0xa6, 0x00, 0x00, 0x01, 0xcb, 0x00, 0x00, 0x01, 0xe4]
set_option maxRecDepth 100000 in
theorem lwBc_1 : (code.data.toList.drop 48).take lwB_1.length = lwB_1 := rfl
def lwB_2 : List UInt8 := [0x00, 0x00, 0x02, 0x15, 0x00, 0x00, 0x02, 0x2e, 0x00, 0x00, 0x02, 0x3b, 0x00, 0x00, 0x02, 0x54, 0x00, 0x00, 0x02, 0x6d, 0x00, 0x00, 0x02, 0x92, 0x00, 0x00, 0x02, 0xab, 0x00, 0x00, 0x02, 0xc4, 0x00, 0x00, 0x03, 0x09, 0x00, 0x00, 0x03, 0x22, 0x00, 0x00, 0x03, 0x2f, 0x00, 0x00, 0x03, 0x54]
set_option maxRecDepth 100000 in
theorem lwBc_2 : (code.data.toList.drop 96).take lwB_2.length = lwB_2 := rfl
def lwB_3 : List UInt8 := [0x00, 0x00, 0x03, 0x85, 0x00, 0x00, 0x03, 0xc2, 0x00, 0x00, 0x03, 0xff, 0x00, 0x00, 0x04, 0x48, 0x00, 0x00, 0x04, 0x79, 0x00, 0x00, 0x04, 0xaa, 0x00, 0x00, 0x04, 0xdb, 0x00, 0x00, 0x05, 0x1c, 0x00, 0x00, 0x05, 0x41, 0x00, 0x00, 0x05, 0x5a, 0x00, 0x00, 0x05, 0x7f, 0x00, 0x00, 0x05, 0xb0]
set_option maxRecDepth 100000 in
theorem lwBc_3 : (code.data.toList.drop 144).take lwB_3.length = lwB_3 := rfl
def lwB_4 : List UInt8 := [0x00, 0x00, 0x05, 0xd5, 0x00, 0x00, 0x05, 0xee, 0x00, 0x00, 0x06, 0x07, 0x00, 0x00, 0x06, 0x14, 0x00, 0x00, 0x06, 0x21, 0x2b, 0x2a, 0x15, 0x04, 0x04, 0x60, 0x2e, 0x2a, 0x15, 0x04, 0x05, 0x60, 0x2e, 0x2a, 0x15, 0x04, 0x06, 0x60, 0x2e, 0x2a, 0x15, 0x04, 0x07, 0x60, 0x2e, 0x2a, 0x15, 0x04]
set_option maxRecDepth 100000 in
theorem lwBc_4 : (code.data.toList.drop 192).take lwB_4.length = lwB_4 := rfl
def lwB_5 : List UInt8 := [0x08, 0x60, 0x2e, 0xb6, 0x00, 0x13, 0x57, 0x2c, 0x2a, 0x15, 0x04, 0x04, 0x60, 0x2e, 0x2a, 0x15, 0x04, 0x05, 0x60, 0x2e, 0x2a, 0x15, 0x04, 0x06, 0x60, 0x2e, 0x2a, 0x15, 0x04, 0x07, 0x60, 0x2e, 0x2a, 0x15, 0x04, 0x08, 0x60, 0x2e, 0xb6, 0x00, 0x17, 0x57, 0xa7, 0x05, 0x48, 0x2b, 0x2a, 0x15]
set_option maxRecDepth 100000 in
theorem lwBc_5 : (code.data.toList.drop 240).take lwB_5.length = lwB_5 := rfl
def lwB_6 : List UInt8 := [0x04, 0x04, 0x60, 0x2e, 0xb6, 0x00, 0x18, 0x57, 0x2c, 0x2a, 0x15, 0x04, 0x04, 0x60, 0x2e, 0xb6, 0x00, 0x1c, 0x57, 0xa7, 0x05, 0x2f, 0x2b, 0x2a, 0x15, 0x04, 0x04, 0x60, 0x2e, 0xb6, 0x00, 0x1d, 0x57, 0x2c, 0x2a, 0x15, 0x04, 0x04, 0x60, 0x2e, 0xb6, 0x00, 0x21, 0x57, 0xa7, 0x05, 0x16, 0x2b]
set_option maxRecDepth 100000 in
theorem lwBc_6 : (code.data.toList.drop 288).take lwB_6.length = lwB_6 := rfl
def lwB_7 : List UInt8 := [0x2a, 0x15, 0x04, 0x04, 0x60, 0x2e, 0xb6, 0x00, 0x22, 0x57, 0x2c, 0x2a, 0x15, 0x04, 0x04, 0x60, 0x2e, 0xb6, 0x00, 0x25, 0x57, 0xa7, 0x04, 0xfd, 0x2b, 0x2a, 0x15, 0x04, 0x04, 0x60, 0x2e, 0xb6, 0x00, 0x26, 0x57, 0x2c, 0x2a, 0x15, 0x04, 0x04, 0x60, 0x2e, 0xb6, 0x00, 0x29, 0x57, 0xa7, 0x04]
set_option maxRecDepth 100000 in
theorem lwBc_7 : (code.data.toList.drop 336).take lwB_7.length = lwB_7 := rfl
def lwB_8 : List UInt8 := [0xe4, 0x2b, 0x2a, 0x15, 0x04, 0x04, 0x60, 0x2e, 0x2a, 0x15, 0x04, 0x05, 0x60, 0x2e, 0x2d, 0xb8, 0x00, 0x2a, 0x36, 0x05, 0x2c, 0x2a, 0x15, 0x04, 0x04, 0x60, 0x2e, 0x2a, 0x15, 0x04, 0x05, 0x60, 0x2e, 0xb6, 0x00, 0x2f, 0x36, 0x06, 0xa7, 0x04, 0xbc, 0x2b, 0x2a, 0x15, 0x04, 0x04, 0x60, 0x2e]
set_option maxRecDepth 100000 in
theorem lwBc_8 : (code.data.toList.drop 384).take lwB_8.length = lwB_8 := rfl
def lwB_9 : List UInt8 := [0x2a, 0x15, 0x04, 0x05, 0x60, 0x2e, 0xb6, 0x00, 0x30, 0x58, 0x2c, 0x2a, 0x15, 0x04, 0x04, 0x60, 0x2e, 0x2a, 0x15, 0x04, 0x05, 0x60, 0x2e, 0xb6, 0x00, 0x34, 0x58, 0xa7, 0x04, 0x97, 0x2b, 0x2a, 0x15, 0x04, 0x04, 0x60, 0x2e, 0x2a, 0x15, 0x04, 0x05, 0x60, 0x2e, 0xb6, 0x00, 0x35, 0x57, 0x2c]
set_option maxRecDepth 100000 in
theorem lwBc_9 : (code.data.toList.drop 432).take lwB_9.length = lwB_9 := rfl
def lwB_10 : List UInt8 := [0x2a, 0x15, 0x04, 0x04, 0x60, 0x2e, 0x2a, 0x15, 0x04, 0x05, 0x60, 0x2e, 0xb6, 0x00, 0x39, 0x57, 0xa7, 0x04, 0x72, 0x2b, 0x2a, 0x15, 0x04, 0x04, 0x60, 0x2e, 0xb6, 0x00, 0x3a, 0x58, 0x2c, 0x2a, 0x15, 0x04, 0x04, 0x60, 0x2e, 0xb6, 0x00, 0x3e, 0x58, 0xa7, 0x04, 0x59, 0x2b, 0x2a, 0x15, 0x04]
set_option maxRecDepth 100000 in
theorem lwBc_10 : (code.data.toList.drop 480).take lwB_10.length = lwB_10 := rfl
def lwB_11 : List UInt8 := [0x04, 0x60, 0x2e, 0x2a, 0x15, 0x04, 0x05, 0x60, 0x2e, 0x2a, 0x15, 0x04, 0x06, 0x60, 0x2e, 0xb6, 0x00, 0x3f, 0x2c, 0x2a, 0x15, 0x04, 0x04, 0x60, 0x2e, 0x2a, 0x15, 0x04, 0x05, 0x60, 0x2e, 0x2a, 0x15, 0x04, 0x06, 0x60, 0x2e, 0xb6, 0x00, 0x43, 0x9f, 0x04, 0x2a, 0x03, 0xac, 0x2b, 0x2a, 0x15]
set_option maxRecDepth 100000 in
theorem lwBc_11 : (code.data.toList.drop 528).take lwB_11.length = lwB_11 := rfl
def lwB_12 : List UInt8 := [0x04, 0x04, 0x60, 0x2e, 0xb6, 0x00, 0x44, 0x57, 0x2c, 0x2a, 0x15, 0x04, 0x04, 0x60, 0x2e, 0xb6, 0x00, 0x47, 0x57, 0xa7, 0x04, 0x0f, 0x2b, 0xb6, 0x00, 0x48, 0x57, 0x2c, 0xb6, 0x00, 0x4c, 0x57, 0xa7, 0x04, 0x02, 0x2b, 0x2a, 0x15, 0x04, 0x04, 0x60, 0x2e, 0xb6, 0x00, 0x4d, 0x57, 0x2c, 0x2a]
set_option maxRecDepth 100000 in
theorem lwBc_12 : (code.data.toList.drop 576).take lwB_12.length = lwB_12 := rfl
def lwB_13 : List UInt8 := [0x15, 0x04, 0x04, 0x60, 0x2e, 0xb6, 0x00, 0x50, 0x57, 0xa7, 0x03, 0xe9, 0x2b, 0x2a, 0x15, 0x04, 0x04, 0x60, 0x2e, 0xb6, 0x00, 0x51, 0x57, 0x2c, 0x2a, 0x15, 0x04, 0x04, 0x60, 0x2e, 0xb6, 0x00, 0x54, 0x57, 0xa7, 0x03, 0xd0, 0x2b, 0x2a, 0x15, 0x04, 0x04, 0x60, 0x2e, 0x2a, 0x15, 0x04, 0x05]
set_option maxRecDepth 100000 in
theorem lwBc_13 : (code.data.toList.drop 624).take lwB_13.length = lwB_13 := rfl
def lwB_14 : List UInt8 := [0x60, 0x2e, 0xb6, 0x00, 0x55, 0x57, 0x2c, 0x2a, 0x15, 0x04, 0x04, 0x60, 0x2e, 0x2a, 0x15, 0x04, 0x05, 0x60, 0x2e, 0xb6, 0x00, 0x58, 0x57, 0xa7, 0x03, 0xab, 0x2b, 0x2a, 0x15, 0x04, 0x04, 0x60, 0x2e, 0xb6, 0x00, 0x59, 0x57, 0x2c, 0x2a, 0x15, 0x04, 0x04, 0x60, 0x2e, 0xb6, 0x00, 0x5c, 0x57]
set_option maxRecDepth 100000 in
theorem lwBc_14 : (code.data.toList.drop 672).take lwB_14.length = lwB_14 := rfl
def lwB_15 : List UInt8 := [0xa7, 0x03, 0x92, 0x2b, 0x2a, 0x15, 0x04, 0x04, 0x60, 0x2e, 0xb6, 0x00, 0x5d, 0x57, 0x2c, 0x2a, 0x15, 0x04, 0x04, 0x60, 0x2e, 0xb6, 0x00, 0x60, 0x57, 0xa7, 0x03, 0x79, 0x2b, 0x2a, 0x15, 0x04, 0x04, 0x60, 0x2e, 0x2a, 0x15, 0x04, 0x05, 0x60, 0x2e, 0x85, 0x10, 0x20, 0x79, 0x2a, 0x15, 0x04]
set_option maxRecDepth 100000 in
theorem lwBc_15 : (code.data.toList.drop 720).take lwB_15.length = lwB_15 := rfl
def lwB_16 : List UInt8 := [0x06, 0x60, 0x2e, 0x85, 0x14, 0x00, 0x61, 0x7f, 0x81, 0xb6, 0x00, 0x63, 0x57, 0x2c, 0x2a, 0x15, 0x04, 0x04, 0x60, 0x2e, 0x2a, 0x15, 0x04, 0x05, 0x60, 0x2e, 0x85, 0x10, 0x20, 0x79, 0x2a, 0x15, 0x04, 0x06, 0x60, 0x2e, 0x85, 0x14, 0x00, 0x61, 0x7f, 0x81, 0xb6, 0x00, 0x67, 0x57, 0xa7, 0x03]
set_option maxRecDepth 100000 in
theorem lwBc_16 : (code.data.toList.drop 768).take lwB_16.length = lwB_16 := rfl
def lwB_17 : List UInt8 := [0x34, 0x2b, 0x2a, 0x15, 0x04, 0x04, 0x60, 0x2e, 0xb6, 0x00, 0x68, 0x57, 0x2c, 0x2a, 0x15, 0x04, 0x04, 0x60, 0x2e, 0xb6, 0x00, 0x6b, 0x57, 0xa7, 0x03, 0x1b, 0x2b, 0xb6, 0x00, 0x6c, 0x57, 0x2c, 0xb6, 0x00, 0x6f, 0x57, 0xa7, 0x03, 0x0e, 0x2b, 0x2a, 0x15, 0x04, 0x04, 0x60, 0x2e, 0x2a, 0x15]
set_option maxRecDepth 100000 in
theorem lwBc_17 : (code.data.toList.drop 816).take lwB_17.length = lwB_17 := rfl
def lwB_18 : List UInt8 := [0x04, 0x05, 0x60, 0x2e, 0xb6, 0x00, 0x70, 0x57, 0x2c, 0x2a, 0x15, 0x04, 0x04, 0x60, 0x2e, 0x2a, 0x15, 0x04, 0x05, 0x60, 0x2e, 0xb6, 0x00, 0x73, 0x57, 0xa7, 0x02, 0xe9, 0x2b, 0x2a, 0x15, 0x04, 0x04, 0x60, 0x2e, 0x2a, 0x15, 0x04, 0x05, 0x60, 0x2e, 0x2a, 0x15, 0x04, 0x06, 0x60, 0x2e, 0xb6]
set_option maxRecDepth 100000 in
theorem lwBc_18 : (code.data.toList.drop 864).take lwB_18.length = lwB_18 := rfl
def lwB_19 : List UInt8 := [0x00, 0x74, 0x57, 0x2c, 0x2a, 0x15, 0x04, 0x04, 0x60, 0x2e, 0x2a, 0x15, 0x04, 0x05, 0x60, 0x2e, 0x2a, 0x15, 0x04, 0x06, 0x60, 0x2e, 0xb6, 0x00, 0x77, 0x57, 0xa7, 0x02, 0xb8, 0x2b, 0x2a, 0x15, 0x04, 0x04, 0x60, 0x2e, 0x2a, 0x15, 0x04, 0x05, 0x60, 0x2e, 0x2a, 0x15, 0x04, 0x06, 0x60, 0x2e]
set_option maxRecDepth 100000 in
theorem lwBc_19 : (code.data.toList.drop 912).take lwB_19.length = lwB_19 := rfl
def lwB_20 : List UInt8 := [0x2a, 0x15, 0x04, 0x07, 0x60, 0x2e, 0xb6, 0x00, 0x78, 0x57, 0x2c, 0x2a, 0x15, 0x04, 0x04, 0x60, 0x2e, 0x2a, 0x15, 0x04, 0x05, 0x60, 0x2e, 0x2a, 0x15, 0x04, 0x06, 0x60, 0x2e, 0x2a, 0x15, 0x04, 0x07, 0x60, 0x2e, 0xb6, 0x00, 0x7c, 0x57, 0xa7, 0x02, 0x7b, 0x2b, 0x2a, 0x15, 0x04, 0x04, 0x60]
set_option maxRecDepth 100000 in
theorem lwBc_20 : (code.data.toList.drop 960).take lwB_20.length = lwB_20 := rfl
def lwB_21 : List UInt8 := [0x2e, 0x2a, 0x15, 0x04, 0x05, 0x60, 0x2e, 0x2a, 0x15, 0x04, 0x06, 0x60, 0x2e, 0x2a, 0x15, 0x04, 0x07, 0x60, 0x2e, 0xb6, 0x00, 0x7d, 0x57, 0x2c, 0x2a, 0x15, 0x04, 0x04, 0x60, 0x2e, 0x2a, 0x15, 0x04, 0x05, 0x60, 0x2e, 0x2a, 0x15, 0x04, 0x06, 0x60, 0x2e, 0x2a, 0x15, 0x04, 0x07, 0x60, 0x2e]
set_option maxRecDepth 100000 in
theorem lwBc_21 : (code.data.toList.drop 1008).take lwB_21.length = lwB_21 := rfl
def lwB_22 : List UInt8 := [0xb6, 0x00, 0x80, 0x57, 0xa7, 0x02, 0x3e, 0x2b, 0x2a, 0x15, 0x04, 0x04, 0x60, 0x2e, 0x2a, 0x15, 0x04, 0x05, 0x60, 0x2e, 0x2a, 0x15, 0x04, 0x06, 0x60, 0x2e, 0x2a, 0x15, 0x04, 0x07, 0x60, 0x2e, 0x2a, 0x15, 0x04, 0x08, 0x60, 0x2e, 0xb6, 0x00, 0x81, 0x57, 0x2c, 0x2a, 0x15, 0x04, 0x04, 0x60]
set_option maxRecDepth 100000 in
theorem lwBc_22 : (code.data.toList.drop 1056).take lwB_22.length = lwB_22 := rfl
def lwB_23 : List UInt8 := [0x2e, 0x2a, 0x15, 0x04, 0x05, 0x60, 0x2e, 0x2a, 0x15, 0x04, 0x06, 0x60, 0x2e, 0x2a, 0x15, 0x04, 0x07, 0x60, 0x2e, 0x2a, 0x15, 0x04, 0x08, 0x60, 0x2e, 0xb6, 0x00, 0x84, 0x57, 0xa7, 0x01, 0xf5, 0x2b, 0x2a, 0x15, 0x04, 0x04, 0x60, 0x2e, 0x2a, 0x15, 0x04, 0x05, 0x60, 0x2e, 0x2a, 0x15, 0x04]
set_option maxRecDepth 100000 in
theorem lwBc_23 : (code.data.toList.drop 1104).take lwB_23.length = lwB_23 := rfl
def lwB_24 : List UInt8 := [0x06, 0x60, 0x2e, 0xb6, 0x00, 0x85, 0x57, 0x2c, 0x2a, 0x15, 0x04, 0x04, 0x60, 0x2e, 0x2a, 0x15, 0x04, 0x05, 0x60, 0x2e, 0x2a, 0x15, 0x04, 0x06, 0x60, 0x2e, 0xb6, 0x00, 0x88, 0x57, 0xa7, 0x01, 0xc4, 0x2b, 0x2a, 0x15, 0x04, 0x04, 0x60, 0x2e, 0x2a, 0x15, 0x04, 0x05, 0x60, 0x2e, 0x2a, 0x15]
set_option maxRecDepth 100000 in
theorem lwBc_24 : (code.data.toList.drop 1152).take lwB_24.length = lwB_24 := rfl
def lwB_25 : List UInt8 := [0x04, 0x06, 0x60, 0x2e, 0xb6, 0x00, 0x89, 0x57, 0x2c, 0x2a, 0x15, 0x04, 0x04, 0x60, 0x2e, 0x2a, 0x15, 0x04, 0x05, 0x60, 0x2e, 0x2a, 0x15, 0x04, 0x06, 0x60, 0x2e, 0xb6, 0x00, 0x8c, 0x57, 0xa7, 0x01, 0x93, 0x2b, 0x2a, 0x15, 0x04, 0x04, 0x60, 0x2e, 0x2a, 0x15, 0x04, 0x05, 0x60, 0x2e, 0x2a]
set_option maxRecDepth 100000 in
theorem lwBc_25 : (code.data.toList.drop 1200).take lwB_25.length = lwB_25 := rfl
def lwB_26 : List UInt8 := [0x15, 0x04, 0x06, 0x60, 0x2e, 0xb6, 0x00, 0x8d, 0x58, 0x2c, 0x2a, 0x15, 0x04, 0x04, 0x60, 0x2e, 0x2a, 0x15, 0x04, 0x05, 0x60, 0x2e, 0x2a, 0x15, 0x04, 0x06, 0x60, 0x2e, 0xb6, 0x00, 0x91, 0x58, 0xa7, 0x01, 0x62, 0x2b, 0x2a, 0x15, 0x04, 0x04, 0x60, 0x2e, 0x2a, 0x15, 0x04, 0x05, 0x60, 0x2e]
set_option maxRecDepth 100000 in
theorem lwBc_26 : (code.data.toList.drop 1248).take lwB_26.length = lwB_26 := rfl
def lwB_27 : List UInt8 := [0x2a, 0x15, 0x04, 0x06, 0x60, 0x2e, 0x99, 0x00, 0x07, 0x04, 0xa7, 0x00, 0x04, 0x03, 0xb6, 0x00, 0x92, 0x57, 0x2c, 0x2a, 0x15, 0x04, 0x04, 0x60, 0x2e, 0x2a, 0x15, 0x04, 0x05, 0x60, 0x2e, 0x2a, 0x15, 0x04, 0x06, 0x60, 0x2e, 0x99, 0x00, 0x07, 0x04, 0xa7, 0x00, 0x04, 0x03, 0xb6, 0x00, 0x96]
set_option maxRecDepth 100000 in
theorem lwBc_27 : (code.data.toList.drop 1296).take lwB_27.length = lwB_27 := rfl
def lwB_28 : List UInt8 := [0x57, 0xa7, 0x01, 0x21, 0x2b, 0x2a, 0x15, 0x04, 0x04, 0x60, 0x2e, 0x2a, 0x15, 0x04, 0x05, 0x60, 0x2e, 0xb6, 0x00, 0x97, 0x57, 0x2c, 0x2a, 0x15, 0x04, 0x04, 0x60, 0x2e, 0x2a, 0x15, 0x04, 0x05, 0x60, 0x2e, 0xb6, 0x00, 0x9a, 0x57, 0xa7, 0x00, 0xfc, 0x2b, 0x2a, 0x15, 0x04, 0x04, 0x60, 0x2e]
set_option maxRecDepth 100000 in
theorem lwBc_28 : (code.data.toList.drop 1344).take lwB_28.length = lwB_28 := rfl
def lwB_29 : List UInt8 := [0xb6, 0x00, 0x9b, 0x57, 0x2c, 0x2a, 0x15, 0x04, 0x04, 0x60, 0x2e, 0xb6, 0x00, 0x9e, 0x57, 0xa7, 0x00, 0xe3, 0x2b, 0x2a, 0x15, 0x04, 0x04, 0x60, 0x2e, 0x2a, 0x15, 0x04, 0x05, 0x60, 0x2e, 0xb6, 0x00, 0x9f, 0x57, 0x2c, 0x2a, 0x15, 0x04, 0x04, 0x60, 0x2e, 0x2a, 0x15, 0x04, 0x05, 0x60, 0x2e]
set_option maxRecDepth 100000 in
theorem lwBc_29 : (code.data.toList.drop 1392).take lwB_29.length = lwB_29 := rfl
def lwB_30 : List UInt8 := [0xb6, 0x00, 0xa2, 0x57, 0xa7, 0x00, 0xbe, 0x2b, 0x2a, 0x15, 0x04, 0x04, 0x60, 0x2e, 0x2a, 0x15, 0x04, 0x05, 0x60, 0x2e, 0x2a, 0x15, 0x04, 0x06, 0x60, 0x2e, 0xb6, 0x00, 0xa3, 0x57, 0x2c, 0x2a, 0x15, 0x04, 0x04, 0x60, 0x2e, 0x2a, 0x15, 0x04, 0x05, 0x60, 0x2e, 0x2a, 0x15, 0x04, 0x06, 0x60]
set_option maxRecDepth 100000 in
theorem lwBc_30 : (code.data.toList.drop 1440).take lwB_30.length = lwB_30 := rfl
def lwB_31 : List UInt8 := [0x2e, 0xb6, 0x00, 0xa6, 0x57, 0xa7, 0x00, 0x8d, 0x2b, 0x2a, 0x15, 0x04, 0x04, 0x60, 0x2e, 0x2a, 0x15, 0x04, 0x05, 0x60, 0x2e, 0xb6, 0x00, 0xa7, 0x57, 0x2c, 0x2a, 0x15, 0x04, 0x04, 0x60, 0x2e, 0x2a, 0x15, 0x04, 0x05, 0x60, 0x2e, 0xb6, 0x00, 0xaa, 0x57, 0xa7, 0x00, 0x68, 0x2b, 0x2a, 0x15]
set_option maxRecDepth 100000 in
theorem lwBc_31 : (code.data.toList.drop 1488).take lwB_31.length = lwB_31 := rfl
def lwB_32 : List UInt8 := [0x04, 0x04, 0x60, 0x2e, 0xb6, 0x00, 0xab, 0x57, 0x2c, 0x2a, 0x15, 0x04, 0x04, 0x60, 0x2e, 0xb6, 0x00, 0xae, 0x57, 0xa7, 0x00, 0x4f, 0x2b, 0x2a, 0x15, 0x04, 0x04, 0x60, 0x2e, 0xb6, 0x00, 0xaf, 0x57, 0x2c, 0x2a, 0x15, 0x04, 0x04, 0x60, 0x2e, 0xb6, 0x00, 0xb2, 0x57, 0xa7, 0x00, 0x36, 0x2b]
set_option maxRecDepth 100000 in
theorem lwBc_32 : (code.data.toList.drop 1536).take lwB_32.length = lwB_32 := rfl
def lwB_33 : List UInt8 := [0xb6, 0x00, 0xb3, 0x57, 0x2c, 0xb6, 0x00, 0xb6, 0x57, 0xa7, 0x00, 0x29, 0x2b, 0xb6, 0x00, 0xb7, 0x57, 0x2c, 0xb6, 0x00, 0xba, 0x57, 0xa7, 0x00, 0x1c, 0x2b, 0x2a, 0x15, 0x04, 0x04, 0x60, 0x2e, 0xb6, 0x00, 0xbb, 0x57, 0x2c, 0x2a, 0x15, 0x04, 0x04, 0x60, 0x2e, 0xb6, 0x00, 0xbe, 0x57, 0xa7]
set_option maxRecDepth 100000 in
theorem lwBc_33 : (code.data.toList.drop 1584).take lwB_33.length = lwB_33 := rfl
def lwB_34 : List UInt8 := [0x00, 0x03, 0x84, 0x04, 0x06, 0xa7, 0xf9, 0xb2, 0x04, 0xac]
set_option maxRecDepth 100000 in
theorem lwBc_34 : (code.data.toList.drop 1632).take lwB_34.length = lwB_34 := rfl
end
-- 88a.w
section

abbrev wL (E : EE) (xa_ xa_tape xa_tape_bytes xa_reader xa_reader_rules xa_reader_places xa_reader_steps xa_scripts xa_scripts_steps xa_scripts_counts xa_now xa_now_row xa_now_partners xa_now_share xa_now_leftOver xa_trial xa_trial_row xa_trial_partners xa_trial_share xa_trial_leftOver xa_kept xa_kept_row xa_kept_partners xa_kept_share xa_kept_leftOver xa_book xa_book_lines xa_keptBook xa_keptBook_lines xa_history xa_history_rows xa_draws xa_refused ma_ ma_tape ma_readPlace ma_script ma_scriptLong ma_now ma_refused ma_shareX ma_shareY ma_askedRow ma_kept ma_aside ma_spelled ma_image ao : Nat) (xc_hasImage : Int32) (xc_tape_length : Int32) (xc_tape_bytes : Nat → Int32) (xc_reader_siteCount : Int32) (xc_reader_stepCount : Int32) (xc_reader_seenRules : Int32) (xc_reader_at : Int32) (xc_reader_wordStart : Int32) (xc_reader_number : Int32) (xc_reader_failed : Int32) (xc_reader_rules : Nat → Int32) (xc_reader_places : Nat → Int32) (xc_reader_steps : Nat → Int32) (xc_scripts_held : Int32) (xc_scripts_steps : Nat → Int32) (xc_scripts_counts : Nat → Int32) (xc_now_askedCount : Int32) (xc_now_outcome : Int32) (xc_now_row : Nat → Int32) (xc_now_partners : Nat → Int32) (xc_now_share : Nat → Int32) (xc_now_leftOver : Nat → Int32) (xc_trial_askedCount : Int32) (xc_trial_outcome : Int32) (xc_trial_row : Nat → Int32) (xc_trial_partners : Nat → Int32) (xc_trial_share : Nat → Int32) (xc_trial_leftOver : Nat → Int32) (xc_kept_askedCount : Int32) (xc_kept_outcome : Int32) (xc_kept_row : Nat → Int32) (xc_kept_partners : Nat → Int32) (xc_kept_share : Nat → Int32) (xc_kept_leftOver : Nat → Int32) (xc_book_lines : Nat → Int32) (xc_keptBook_lines : Nat → Int32) (xc_history_next : Int32) (xc_history_held : Int32) (xc_history_rows : Nat → Int32) (xc_draws_x : Int64) (xc_draws_sort : Int32) (xc_draws_a : Int32) (xc_draws_b : Int32) (xc_draws_c : Int32) (xc_refused : Nat → Int32) (mc_thrown : Int32) (mc_taped : Int32) (mc_at : Int32) (mc_part : Int32) (mc_partFrom : Int32) (mc_partNumber : Int32) (mc_wrong : Int32) (mc_partWord : Int64) (mc_readLaw : Int32) (mc_readBound : Int32) (mc_readGoal : Int32) (mc_readSites : Int32) (mc_scripts : Int32) (mc_sites : Int32) (mc_asked : Int32) (mc_outcome : Int32) (mc_took : Int32) (mc_acts : Int32) (mc_drawn : Int64) (mc_racer : Int32) (mc_raced : Int32) (mc_spelledMany : Int32) (mc_hasImage : Int32) (mc_tape : Nat → Int32) (mc_readPlace : Nat → Int32) (mc_script : Nat → Int32) (mc_scriptLong : Nat → Int32) (mc_now : Nat → Int32) (mc_refused : Nat → Int32) (mc_shareX : Nat → Int32) (mc_shareY : Nat → Int32) (mc_askedRow : Nat → Int32) (mc_kept : Nat → Int32) (mc_aside : Nat → Int32) (mc_spelled : Nat → Int32) (mc_image : Nat → Int32) (fo : Nat → Int64) : va_W := [(xa_, .inr (8, [.ref xa_tape, .ref xa_reader, .ref xa_scripts, .ref xa_now, .ref xa_trial, .ref xa_kept, .ref xa_book, .ref xa_keptBook, .ref xa_history, .ref xa_draws, .ref xa_refused, .int xc_hasImage])), (xa_tape, .inr (7, [.ref xa_tape_bytes, .int xc_tape_length])), (xa_tape_bytes, .inl (E.2.2.1, 320, .inl xc_tape_bytes)), (xa_reader, .inr (4, [.ref xa_tape, .ref xa_reader_rules, .ref xa_reader_places, .ref xa_reader_steps, .int xc_reader_siteCount, .int xc_reader_stepCount, .int xc_reader_seenRules, .int xc_reader_at, .int xc_reader_wordStart, .int xc_reader_number, .int xc_reader_failed])), (xa_reader_rules, .inl (E.2.1, 3, .inl xc_reader_rules)), (xa_reader_places, .inl (E.2.1, 16, .inl xc_reader_places)), (xa_reader_steps, .inl (E.2.1, 48, .inl xc_reader_steps)), (xa_scripts, .inr (5, [.ref xa_scripts_steps, .ref xa_scripts_counts, .int xc_scripts_held])), (xa_scripts_steps, .inl (E.2.1, 192, .inl xc_scripts_steps)), (xa_scripts_counts, .inl (E.2.1, 4, .inl xc_scripts_counts)), (xa_now, .inr (6, [.ref xa_now_row, .ref xa_now_partners, .int xc_now_askedCount, .int xc_now_outcome, .ref xa_now_share, .ref xa_now_leftOver])), (xa_now_row, .inl (E.2.1, 81, .inl xc_now_row)), (xa_now_partners, .inl (E.2.1, 8, .inl xc_now_partners)), (xa_now_share, .inl (E.2.1, 2, .inl xc_now_share)), (xa_now_leftOver, .inl (E.2.1, 2, .inl xc_now_leftOver)), (xa_trial, .inr (6, [.ref xa_trial_row, .ref xa_trial_partners, .int xc_trial_askedCount, .int xc_trial_outcome, .ref xa_trial_share, .ref xa_trial_leftOver])), (xa_trial_row, .inl (E.2.1, 81, .inl xc_trial_row)), (xa_trial_partners, .inl (E.2.1, 8, .inl xc_trial_partners)), (xa_trial_share, .inl (E.2.1, 2, .inl xc_trial_share)), (xa_trial_leftOver, .inl (E.2.1, 2, .inl xc_trial_leftOver)), (xa_kept, .inr (6, [.ref xa_kept_row, .ref xa_kept_partners, .int xc_kept_askedCount, .int xc_kept_outcome, .ref xa_kept_share, .ref xa_kept_leftOver])), (xa_kept_row, .inl (E.2.1, 81, .inl xc_kept_row)), (xa_kept_partners, .inl (E.2.1, 8, .inl xc_kept_partners)), (xa_kept_share, .inl (E.2.1, 2, .inl xc_kept_share)), (xa_kept_leftOver, .inl (E.2.1, 2, .inl xc_kept_leftOver)), (xa_book, .inr (1, [.ref xa_book_lines])), (xa_book_lines, .inl (E.2.1, 300, .inl xc_book_lines)), (xa_keptBook, .inr (1, [.ref xa_keptBook_lines])), (xa_keptBook_lines, .inl (E.2.1, 300, .inl xc_keptBook_lines)), (xa_history, .inr (3, [.ref xa_history_rows, .int xc_history_next, .int xc_history_held])), (xa_history_rows, .inl (E.2.1, 3240, .inl xc_history_rows)), (xa_draws, .inr (2, [.long xc_draws_x, .int xc_draws_sort, .int xc_draws_a, .int xc_draws_b, .int xc_draws_c])), (xa_refused, .inl (E.2.1, 3, .inl xc_refused)), (ma_, .inr (9, [.int mc_thrown, .ref ma_tape, .int mc_taped, .int mc_at, .int mc_part, .int mc_partFrom, .int mc_partNumber, .int mc_wrong, .long mc_partWord, .int mc_readLaw, .int mc_readBound, .int mc_readGoal, .int mc_readSites, .ref ma_readPlace, .ref ma_script, .ref ma_scriptLong, .int mc_scripts, .ref ma_now, .ref ma_refused, .int mc_sites, .ref ma_shareX, .ref ma_shareY, .int mc_asked, .int mc_outcome, .ref ma_askedRow, .int mc_took, .ref ma_kept, .int mc_acts, .long mc_drawn, .ref ma_aside, .int mc_racer, .int mc_raced, .ref ma_spelled, .int mc_spelledMany, .ref ma_image, .int mc_hasImage])), (ma_tape, .inl (E.2.1, 320, .inl mc_tape)), (ma_readPlace, .inl (E.2.1, 16, .inl mc_readPlace)), (ma_script, .inl (E.2.1, 240, .inl mc_script)), (ma_scriptLong, .inl (E.2.1, 5, .inl mc_scriptLong)), (ma_now, .inl (E.2.1, 265, .inl mc_now)), (ma_refused, .inl (E.2.1, 3, .inl mc_refused)), (ma_shareX, .inl (E.2.1, 8, .inl mc_shareX)), (ma_shareY, .inl (E.2.1, 8, .inl mc_shareY)), (ma_askedRow, .inl (E.2.1, 8, .inl mc_askedRow)), (ma_kept, .inl (E.2.1, 10600, .inl mc_kept)), (ma_aside, .inl (E.2.1, 84, .inl mc_aside)), (ma_spelled, .inl (E.2.1, 40, .inl mc_spelled)), (ma_image, .inl (E.2.1, 265, .inl mc_image)), (ao, .inl (E.2.2.2, 1, .inr (.inl fo)))]
end
