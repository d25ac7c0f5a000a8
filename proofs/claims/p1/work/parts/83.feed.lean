theorem dX6_bytesIn_0 : decode cX6_bytesIn 0 = .ok (.iconst 0, 1) := by decide +kernel
theorem dX6_bytesIn_1 : decode cX6_bytesIn 1 = .ok (.istore_n 1, 1) := by decide +kernel
theorem dX6_bytesIn_2 : decode cX6_bytesIn 2 = .ok (.bipush 24, 2) := by decide +kernel
theorem dX6_bytesIn_4 : decode cX6_bytesIn 4 = .ok (.istore_n 2, 1) := by decide +kernel
theorem dX6_bytesIn_5 : decode cX6_bytesIn 5 = .ok (.iload_n 2, 1) := by decide +kernel
theorem dX6_bytesIn_6 : decode cX6_bytesIn 6 = .ok (.ifCond .lt 22, 3) := by decide +kernel
theorem dX6_bytesIn_9 : decode cX6_bytesIn 9 = .ok (.iload_n 0, 1) := by decide +kernel
theorem dX6_bytesIn_10 : decode cX6_bytesIn 10 = .ok (.iload_n 2, 1) := by decide +kernel
theorem dX6_bytesIn_11 : decode cX6_bytesIn 11 = .ok (.iushr, 1) := by decide +kernel
theorem dX6_bytesIn_12 : decode cX6_bytesIn 12 = .ok (.sipush 255, 3) := by decide +kernel
theorem dX6_bytesIn_15 : decode cX6_bytesIn 15 = .ok (.iand, 1) := by decide +kernel
theorem dX6_bytesIn_16 : decode cX6_bytesIn 16 = .ok (.ifCond .eq 6, 3) := by decide +kernel
theorem dX6_bytesIn_22 : decode cX6_bytesIn 22 = .ok (.iinc 2 (-8), 3) := by decide +kernel
theorem dX6_bytesIn_25 : decode cX6_bytesIn 25 = .ok (.goto (-20), 3) := by decide +kernel
theorem dX6_bytesIn_28 : decode cX6_bytesIn 28 = .ok (.iload_n 1, 1) := by decide +kernel
theorem dX6_bytesIn_29 : decode cX6_bytesIn 29 = .ok (.ireturn, 1) := by decide +kernel
theorem dX6_bytesIn_19 : decode cX6_bytesIn 19 = .ok (.iinc 1 1, 3) := by decide +kernel
theorem dX6_take_0 : decode cX6_take 0 = .ok (.bipush 24, 2) := by decide +kernel
theorem dX6_take_2 : decode cX6_take 2 = .ok (.istore_n 2, 1) := by decide +kernel
theorem dX6_take_3 : decode cX6_take 3 = .ok (.iload_n 2, 1) := by decide +kernel
theorem dX6_take_4 : decode cX6_take 4 = .ok (.ifCond .lt 52, 3) := by decide +kernel
theorem dX6_take_7 : decode cX6_take 7 = .ok (.iload_n 1, 1) := by decide +kernel
theorem dX6_take_8 : decode cX6_take 8 = .ok (.iload_n 2, 1) := by decide +kernel
theorem dX6_take_9 : decode cX6_take 9 = .ok (.iushr, 1) := by decide +kernel
theorem dX6_take_10 : decode cX6_take 10 = .ok (.sipush 255, 3) := by decide +kernel
theorem dX6_take_13 : decode cX6_take 13 = .ok (.iand, 1) := by decide +kernel
theorem dX6_take_14 : decode cX6_take 14 = .ok (.istore_n 3, 1) := by decide +kernel
theorem dX6_take_15 : decode cX6_take 15 = .ok (.iload_n 3, 1) := by decide +kernel
theorem dX6_take_16 : decode cX6_take 16 = .ok (.ifCond .eq 34, 3) := by decide +kernel
theorem dX6_take_50 : decode cX6_take 50 = .ok (.iinc 2 (-8), 3) := by decide +kernel
theorem dX6_take_53 : decode cX6_take 53 = .ok (.goto (-50), 3) := by decide +kernel
theorem dX6_take_56 : decode cX6_take 56 = .ok (.return_, 1) := by decide +kernel
theorem dX6_take_19 : decode cX6_take 19 = .ok (.aload_n 0, 1) := by decide +kernel
theorem dX6_take_20 : decode cX6_take 20 = .ok (.getfield 15, 3) := by decide +kernel
theorem dX6_take_23 : decode cX6_take 23 = .ok (.sipush 320, 3) := by decide +kernel
theorem dX6_take_26 : decode cX6_take 26 = .ok (.if_icmp .ge 24, 3) := by decide +kernel
theorem dX6_take_29 : decode cX6_take 29 = .ok (.aload_n 0, 1) := by decide +kernel
theorem dX6_take_30 : decode cX6_take 30 = .ok (.getfield 11, 3) := by decide +kernel
theorem dX6_take_33 : decode cX6_take 33 = .ok (.aload_n 0, 1) := by decide +kernel
theorem dX6_take_34 : decode cX6_take 34 = .ok (.getfield 15, 3) := by decide +kernel
theorem dX6_take_37 : decode cX6_take 37 = .ok (.iload_n 3, 1) := by decide +kernel
theorem dX6_take_38 : decode cX6_take 38 = .ok (.i2b, 1) := by decide +kernel
theorem dX6_take_39 : decode cX6_take 39 = .ok (.bastore, 1) := by decide +kernel
theorem dX6_take_40 : decode cX6_take 40 = .ok (.aload_n 0, 1) := by decide +kernel
theorem dX6_take_41 : decode cX6_take 41 = .ok (.dup, 1) := by decide +kernel
theorem dX6_take_42 : decode cX6_take 42 = .ok (.getfield 15, 3) := by decide +kernel
theorem dX6_take_45 : decode cX6_take 45 = .ok (.iconst 1, 1) := by decide +kernel
theorem dX6_take_46 : decode cX6_take 46 = .ok (.iadd, 1) := by decide +kernel
theorem dX6_take_47 : decode cX6_take 47 = .ok (.putfield 15, 3) := by decide +kernel
theorem dX7_feed_0 : decode cX7_feed 0 = .ok (.iload_n 1, 1) := by decide +kernel
theorem dX7_feed_1 : decode cX7_feed 1 = .ok (.invokestatic 77, 3) := by decide +kernel
theorem dX7_feed_4 : decode cX7_feed 4 = .ok (.iload_n 2, 1) := by decide +kernel
theorem dX7_feed_5 : decode cX7_feed 5 = .ok (.invokestatic 77, 3) := by decide +kernel
theorem dX7_feed_8 : decode cX7_feed 8 = .ok (.iadd, 1) := by decide +kernel
theorem dX7_feed_9 : decode cX7_feed 9 = .ok (.iload_n 3, 1) := by decide +kernel
theorem dX7_feed_10 : decode cX7_feed 10 = .ok (.invokestatic 77, 3) := by decide +kernel
theorem dX7_feed_13 : decode cX7_feed 13 = .ok (.iadd, 1) := by decide +kernel
theorem dX7_feed_14 : decode cX7_feed 14 = .ok (.iload 4, 2) := by decide +kernel
theorem dX7_feed_16 : decode cX7_feed 16 = .ok (.invokestatic 77, 3) := by decide +kernel
theorem dX7_feed_19 : decode cX7_feed 19 = .ok (.iadd, 1) := by decide +kernel
theorem dX7_feed_20 : decode cX7_feed 20 = .ok (.iload 5, 2) := by decide +kernel
theorem dX7_feed_22 : decode cX7_feed 22 = .ok (.invokestatic 77, 3) := by decide +kernel
theorem dX7_feed_25 : decode cX7_feed 25 = .ok (.iadd, 1) := by decide +kernel
theorem dX7_feed_26 : decode cX7_feed 26 = .ok (.istore 6, 2) := by decide +kernel
theorem dX7_feed_28 : decode cX7_feed 28 = .ok (.aload_n 0, 1) := by decide +kernel
theorem dX7_feed_29 : decode cX7_feed 29 = .ok (.getfield 10, 3) := by decide +kernel
theorem dX7_feed_32 : decode cX7_feed 32 = .ok (.getfield 81, 3) := by decide +kernel
theorem dX7_feed_35 : decode cX7_feed 35 = .ok (.iload 6, 2) := by decide +kernel
theorem dX7_feed_37 : decode cX7_feed 37 = .ok (.iadd, 1) := by decide +kernel
theorem dX7_feed_38 : decode cX7_feed 38 = .ok (.sipush 320, 3) := by decide +kernel
theorem dX7_feed_41 : decode cX7_feed 41 = .ok (.if_icmp .le 5, 3) := by decide +kernel
theorem dX7_feed_46 : decode cX7_feed 46 = .ok (.aload_n 0, 1) := by decide +kernel
theorem dX7_feed_47 : decode cX7_feed 47 = .ok (.getfield 10, 3) := by decide +kernel
theorem dX7_feed_50 : decode cX7_feed 50 = .ok (.iload_n 1, 1) := by decide +kernel
theorem dX7_feed_51 : decode cX7_feed 51 = .ok (.invokevirtual 85, 3) := by decide +kernel
theorem dX7_feed_54 : decode cX7_feed 54 = .ok (.aload_n 0, 1) := by decide +kernel
theorem dX7_feed_55 : decode cX7_feed 55 = .ok (.getfield 10, 3) := by decide +kernel
theorem dX7_feed_58 : decode cX7_feed 58 = .ok (.iload_n 2, 1) := by decide +kernel
theorem dX7_feed_59 : decode cX7_feed 59 = .ok (.invokevirtual 85, 3) := by decide +kernel
theorem dX7_feed_62 : decode cX7_feed 62 = .ok (.aload_n 0, 1) := by decide +kernel
theorem dX7_feed_63 : decode cX7_feed 63 = .ok (.getfield 10, 3) := by decide +kernel
theorem dX7_feed_66 : decode cX7_feed 66 = .ok (.iload_n 3, 1) := by decide +kernel
theorem dX7_feed_67 : decode cX7_feed 67 = .ok (.invokevirtual 85, 3) := by decide +kernel
theorem dX7_feed_70 : decode cX7_feed 70 = .ok (.aload_n 0, 1) := by decide +kernel
theorem dX7_feed_71 : decode cX7_feed 71 = .ok (.getfield 10, 3) := by decide +kernel
theorem dX7_feed_74 : decode cX7_feed 74 = .ok (.iload 4, 2) := by decide +kernel
theorem dX7_feed_76 : decode cX7_feed 76 = .ok (.invokevirtual 85, 3) := by decide +kernel
theorem dX7_feed_79 : decode cX7_feed 79 = .ok (.aload_n 0, 1) := by decide +kernel
theorem dX7_feed_80 : decode cX7_feed 80 = .ok (.getfield 10, 3) := by decide +kernel
theorem dX7_feed_83 : decode cX7_feed 83 = .ok (.iload 5, 2) := by decide +kernel
theorem dX7_feed_85 : decode cX7_feed 85 = .ok (.invokevirtual 85, 3) := by decide +kernel
theorem dX7_feed_88 : decode cX7_feed 88 = .ok (.aload_n 0, 1) := by decide +kernel
theorem dX7_feed_89 : decode cX7_feed 89 = .ok (.getfield 10, 3) := by decide +kernel
theorem dX7_feed_92 : decode cX7_feed 92 = .ok (.getfield 81, 3) := by decide +kernel
theorem dX7_feed_95 : decode cX7_feed 95 = .ok (.ireturn, 1) := by decide +kernel
theorem dX8_byteOf_0 : decode cX8_byteOf 0 = .ok (.iload 5, 2) := by decide +kernel
theorem dX8_byteOf_2 : decode cX8_byteOf 2 = .ok (.iconst 4, 1) := by decide +kernel
theorem dX8_byteOf_3 : decode cX8_byteOf 3 = .ok (.if_icmp .ge 7, 3) := by decide +kernel
theorem dX8_byteOf_6 : decode cX8_byteOf 6 = .ok (.iload_n 0, 1) := by decide +kernel
theorem dX8_byteOf_7 : decode cX8_byteOf 7 = .ok (.goto 38, 3) := by decide +kernel
theorem dX8_byteOf_45 : decode cX8_byteOf 45 = .ok (.istore 6, 2) := by decide +kernel
theorem dX8_byteOf_47 : decode cX8_byteOf 47 = .ok (.iload 6, 2) := by decide +kernel
theorem dX8_byteOf_49 : decode cX8_byteOf 49 = .ok (.bipush 24, 2) := by decide +kernel
theorem dX8_byteOf_51 : decode cX8_byteOf 51 = .ok (.bipush 8, 2) := by decide +kernel
theorem dX8_byteOf_53 : decode cX8_byteOf 53 = .ok (.iload 5, 2) := by decide +kernel
theorem dX8_byteOf_55 : decode cX8_byteOf 55 = .ok (.iconst 4, 1) := by decide +kernel
theorem dX8_byteOf_56 : decode cX8_byteOf 56 = .ok (.irem, 1) := by decide +kernel
theorem dX8_byteOf_57 : decode cX8_byteOf 57 = .ok (.imul, 1) := by decide +kernel
theorem dX8_byteOf_58 : decode cX8_byteOf 58 = .ok (.isub, 1) := by decide +kernel
theorem dX8_byteOf_59 : decode cX8_byteOf 59 = .ok (.ishr, 1) := by decide +kernel
theorem dX8_byteOf_60 : decode cX8_byteOf 60 = .ok (.sipush 255, 3) := by decide +kernel
theorem dX8_byteOf_63 : decode cX8_byteOf 63 = .ok (.iand, 1) := by decide +kernel
theorem dX8_byteOf_64 : decode cX8_byteOf 64 = .ok (.ireturn, 1) := by decide +kernel
theorem dX8_byteOf_10 : decode cX8_byteOf 10 = .ok (.iload 5, 2) := by decide +kernel
theorem dX8_byteOf_12 : decode cX8_byteOf 12 = .ok (.bipush 8, 2) := by decide +kernel
theorem dX8_byteOf_14 : decode cX8_byteOf 14 = .ok (.if_icmp .ge 7, 3) := by decide +kernel
theorem dX8_byteOf_17 : decode cX8_byteOf 17 = .ok (.iload_n 1, 1) := by decide +kernel
theorem dX8_byteOf_18 : decode cX8_byteOf 18 = .ok (.goto 27, 3) := by decide +kernel
theorem dX8_byteOf_21 : decode cX8_byteOf 21 = .ok (.iload 5, 2) := by decide +kernel
theorem dX8_byteOf_23 : decode cX8_byteOf 23 = .ok (.bipush 12, 2) := by decide +kernel
theorem dX8_byteOf_25 : decode cX8_byteOf 25 = .ok (.if_icmp .ge 7, 3) := by decide +kernel
theorem dX8_byteOf_28 : decode cX8_byteOf 28 = .ok (.iload_n 2, 1) := by decide +kernel
theorem dX8_byteOf_29 : decode cX8_byteOf 29 = .ok (.goto 16, 3) := by decide +kernel
theorem dX8_byteOf_32 : decode cX8_byteOf 32 = .ok (.iload 5, 2) := by decide +kernel
theorem dX8_byteOf_34 : decode cX8_byteOf 34 = .ok (.bipush 16, 2) := by decide +kernel
theorem dX8_byteOf_36 : decode cX8_byteOf 36 = .ok (.if_icmp .ge 7, 3) := by decide +kernel
theorem dX8_byteOf_39 : decode cX8_byteOf 39 = .ok (.iload_n 3, 1) := by decide +kernel
theorem dX8_byteOf_40 : decode cX8_byteOf 40 = .ok (.goto 5, 3) := by decide +kernel
theorem dX8_byteOf_43 : decode cX8_byteOf 43 = .ok (.iload 4, 2) := by decide +kernel

/-! the bytes of a number: Int32 by its bits (a family of kit/laws/BITS.to-paste) -/
def bt (x : Int32) (i : Nat) : Bool := x.toBitVec.getLsbD i
theorem b_ext {x y : Int32} (h : ∀ i, i < 32 → bt x i = bt y i) : x = y := Int32.toBitVec_inj.mp (BitVec.eq_of_getLsbD_eq (fun i hi => h i hi))
theorem b_or (x y : Int32) (i : Nat) : bt (x ||| y) i = (bt x i || bt y i) := by unfold bt; rw [Int32.toBitVec_or, BitVec.getLsbD_or]
theorem b_and (x y : Int32) (i : Nat) : bt (x &&& y) i = (bt x i && bt y i) := by unfold bt; rw [Int32.toBitVec_and, BitVec.getLsbD_and]
theorem b_xor (x y : Int32) (i : Nat) : bt (x ^^^ y) i = (bt x i ^^ bt y i) := by unfold bt; rw [Int32.toBitVec_xor, BitVec.getLsbD_xor]
theorem b_big {x : Int32} {i : Nat} (h : 32 ≤ i) : bt x i = false := BitVec.getLsbD_of_ge _ _ h
theorem b_255 (i : Nat) : bt 255 i = decide (i < 8) := by
  rcases Nat.lt_or_ge i 32 with h | h
  · exact (by decide +kernel : ∀ i, i < 32 → bt 255 i = decide (i < 8)) i h
  · rw [b_big h, decide_eq_false (by omega)]
theorem b_65535 (i : Nat) : bt 65535 i = decide (i < 16) := by
  rcases Nat.lt_or_ge i 32 with h | h
  · exact (by decide +kernel : ∀ i, i < 32 → bt 65535 i = decide (i < 16)) i h
  · rw [b_big h, decide_eq_false (by omega)]
theorem b_m1 : ∀ i, i < 32 → bt (-1) i = true := by decide +kernel
theorem b_0 (i : Nat) : bt 0 i = false := BitVec.getLsbD_zero
theorem s_l : ∀ n, n < 32 → ((nI n &&& 31).toBitVec.smod 32).toNat = n := by decide +kernel
theorem s_u : ∀ n, n < 32 → (((nI n).toUInt32 &&& Int32.toUInt32 31).toBitVec % 32).toNat = n := by decide +kernel
theorem b_shl (n : Nat) (hn : n < 32) (x : Int32) {i : Nat} (hi : i < 32) : bt (x <<< (nI n &&& 31)) i = (decide (n ≤ i) && bt x (i - n)) := by
  unfold bt
  rw [Int32.toBitVec_shiftLeft]
  show (x.toBitVec <<< ((nI n &&& 31).toBitVec.smod 32).toNat).getLsbD i = _
  rw [s_l n hn, BitVec.getLsbD_shiftLeft]
  rcases Nat.lt_or_ge i n with h | h
  · simp [h, Nat.not_le.mpr h]
  · simp [hi, h, Nat.not_lt.mpr h]
theorem b_ushr (n : Nat) (hn : n < 32) (x : Int32) (i : Nat) : bt ((x.toUInt32 >>> ((nI n).toUInt32 &&& Int32.toUInt32 31)).toInt32) i = bt x (n + i) := by
  show (x.toUInt32 >>> ((nI n).toUInt32 &&& Int32.toUInt32 31)).toBitVec.getLsbD i = x.toUInt32.toBitVec.getLsbD (n + i)
  rw [UInt32.toBitVec_shiftRight]
  show (x.toUInt32.toBitVec >>> (((nI n).toUInt32 &&& Int32.toUInt32 31).toBitVec % 32).toNat).getLsbD i = _
  rw [s_u n hn, BitVec.getLsbD_ushiftRight]
theorem b_sshr (n : Nat) (hn : n < 32) (x : Int32) {i : Nat} (hi : i < 32) : bt (x >>> (nI n &&& 31)) i = if n + i < 32 then bt x (n + i) else bt x 31 := by
  unfold bt
  rw [Int32.toBitVec_shiftRight]
  show (x.toBitVec.sshiftRight ((nI n &&& 31).toBitVec.smod 32).toNat).getLsbD i = _
  rw [s_l n hn, BitVec.getLsbD_sshiftRight, BitVec.msb_eq_getLsbD_last]
  simp [hi]
/-- the byte at a shift -/
def bz (w sh : Int32) : Int32 := (w >>> (sh &&& 31)) &&& 255
def nzN (w sh : Int32) : Nat := if bz w sh = 0 then 0 else 1
def nb (w : Int32) : Nat := nzN w 24 + nzN w 16 + nzN w 8 + nzN w 0
def feedv (a b c d e : Int32) : Int32 := nI (nb a + nb b + nb c + nb d + nb e)
theorem nzN_le (w sh : Int32) : nzN w sh ≤ 1 := by unfold nzN; split <;> omega
theorem nb_le (w : Int32) : nb w ≤ 4 := by
  have h1 := nzN_le w 24; have h2 := nzN_le w 16; have h3 := nzN_le w 8; have h4 := nzN_le w 0
  unfold nb; omega
theorem bu_bz (n : Nat) (hn : n + 8 ≤ 32) (x : Int32) : (x.toUInt32 >>> ((nI n).toUInt32 &&& Int32.toUInt32 31)).toInt32 &&& 255 = (x >>> (nI n &&& 31)) &&& 255 := by
  refine b_ext (fun i hi => ?_)
  rw [b_and, b_and, b_ushr n (by omega), b_sshr n (by omega) x hi, b_255]
  by_cases h : i < 8
  · rw [if_pos (by omega)]
  · simp [h]
theorem nz_pos (n : Nat) (hn : n + 8 ≤ 32) {w z1 z2 : Int32} (e1 : (w.toUInt32 >>> ((nI n).toUInt32 &&& Int32.toUInt32 31)).toInt32 = z1) (e2 : z2 = z1 &&& 255) (c : ¬ z2 = 0) : nzN w (nI n) = 1 := by
  unfold nzN bz
  rw [← bu_bz n hn w, e1, ← e2, if_neg c]
theorem nz_zero (n : Nat) (hn : n + 8 ≤ 32) {w z1 z2 : Int32} (e1 : (w.toUInt32 >>> ((nI n).toUInt32 &&& Int32.toUInt32 31)).toInt32 = z1) (e2 : z2 = z1 &&& 255) (c : z2 = 0) : nzN w (nI n) = 0 := by
  unfold nzN bz
  rw [← bu_bz n hn w, e1, ← e2, if_pos c]
theorem nI_n320 {a : Nat} (h : a < 320) : ¬ (nI a ≥ (320 : Int32)) := nI_ge h (by decide)
theorem nI_l320 {a : Nat} (h : a ≤ 320) : nI a ≤ (320 : Int32) := nI_le h (by decide)
theorem nz_add {N : Nat} {r w sh : Int32} (hr : r = bz w sh) : nI N + (if r = 0 then 0 else 1) = nI (N + nzN w sh) := by
  unfold nzN
  rw [hr]
  split
  · exact nI_add N 0
  · exact nI_add N 1
section SEL
variable {p : Program} {l : Launch} {e : Env} {R : Room} {s : State} {m : MethodId} {args : Array Value} {below : List Frame} {meth : Method} {c : Code} {H : Heap} {locs : List Loc} {cells slots : Nat} {Q : State → Prop}
/-- 'x != 0 ? 1 : 0' -/
theorem lv_sel {cc : ByteArray} {pc : Nat} {ls : Array Slot} {rest : List Value} (hx : p.tables.exec = Jvm.exec) (hb : c.code = cc) {x : Int32} {o1 o2 : Int} {t1 t2 : Nat} (d0 : decode cc pc = .ok (.ifCond .eq o1, 3)) (h1 : (pc : Int) + o1 = (t1 : Int))
    (d1 : decode cc (pc + 3) = .ok (.iconst 1, 1)) (d2 : decode cc (pc + 3 + 1) = .ok (.goto o2, 3)) (h2 : ((pc + 3 + 1 : Nat) : Int) + o2 = (t2 : Int)) (d3 : decode cc t1 = .ok (.iconst 0, 1)) (h3 : t1 + 1 = t2)
    (k : W p l e R s m args below meth c H locs cells slots Q (F0 m t2 ls (.int (if x = 0 then 0 else 1) :: rest))) : W p l e R s m args below meth c H locs cells slots Q (F0 m pc ls (.int x :: rest)) := by
  refine lv_if_eq hx hb d0 h1 (fun h => ?_) (fun h => ?_)
  · rw [if_pos h] at k
    refine lv_iconst (v := 0) hx hb d3 (by decide) ?_
    rw [h3]; exact k
  · rw [if_neg h] at k
    refine lv_iconst (v := 1) hx hb d1 (by decide) ?_
    exact lv_goto hx hb d2 h2 k
end SEL

def v_c_bytesIn : List Cond := .code yX6_bytesIn cX6_bytesIn 3 (some .int) :: ([] ++ ([]))
theorem gw_c_bytesIn : v_c_bytesIn.all goodWord = true := by decide +kernel
set_option maxHeartbeats 4000000 in
set_option maxRecDepth 100000 in
theorem c_bytesIn (l : Launch) (E : EE) (p0 : Int32) : Met l yX6_bytesIn v_c_bytesIn ({ frames := 0, cells := 0, slots := 0, locals := 0 }) (va_Pc [.int p0] (pP E [])) (vp_Si (fun r => r = nI (nb p0))) 0 0 (fun _ => False) := by
  refine Met.ofW (cc := cX6_bytesIn) (maxL := 3) (ret := (some .int)) (by decide) rfl ?_
  intro p e s m args below meth c s₁ B hml hv
  obtain ⟨rfl, ⟨hK, hN⟩, hP⟩ := hv
  have hx := B.exec
  have hb := B.bytes
  have hr := B.returns
  have hts := atoms_spec (ws := v_c_bytesIn) B.pre
  have hown : s.vm.findClass RX6 = some m.cls := findClass_of_methodNamed B.named
  have hlocks := B.notSynchronized
  have hP : va_P E.1 vwCl [] s.heap := hP
  have hl := lv_entry ([.int p0]) (n := 3) (Nat.le_of_ble_eq_true rfl)
  rw [lg_entry_eq]
  generalize (lg_sl ([.int p0]) ++ List.replicate (3 - (lg_sl ([.int p0])).length) Slot.unset).toArray = ls at hl ⊢
  have hl : lv_has ls 3 [(0, .int p0)] := hl
  refine lv_iconst (v := 0) hx hb dX6_bytesIn_0 (by decide) ?_
  refine lv_istore_n (lv' := [(1, .int 0), (0, .int p0)]) hx hb dX6_bytesIn_1 rfl hl (by decide) rfl (fun ls hl => ?_)
  refine lv_bipush (v := 24) hx hb dX6_bytesIn_2 (by decide) ?_
  refine lv_istore_n (lv' := [(2, .int 24), (1, .int 0), (0, .int p0)]) hx hb dX6_bytesIn_4 rfl hl (by decide) rfl (fun ls hl => ?_)
  refine lv_iload_n hx hb dX6_bytesIn_5 rfl (lv_at hl 0 rfl) ?_
  refine lv_if_lt (tgt := 28) hx hb dX6_bytesIn_6 (by decide) (fun q => absurd q (by decide)) (fun _ => ?_)
  refine lv_iload_n hx hb dX6_bytesIn_9 rfl (lv_at hl 2 rfl) ?_
  refine lv_iload_n hx hb dX6_bytesIn_10 rfl (lv_at hl 0 rfl) ?_
  refine lv_iushr hx hb dX6_bytesIn_11 rfl ?_
  refine lv_topi (fun z_1 ez_1 => ?_)
  refine lv_sipush (v := 255) hx hb dX6_bytesIn_12 (by decide) ?_
  refine lv_iand hx hb dX6_bytesIn_15 ?_
  refine lv_topi (fun z_2 ez_2 => ?_)
  refine lv_if_eq (tgt := 22) hx hb dX6_bytesIn_16 (by decide) (fun c_3 => ?_) (fun c_3 => ?_)
  ·
    refine lv_iinc (v := 16) (lv' := [(2, .int 16), (1, .int 0), (0, .int p0)]) hx hb dX6_bytesIn_22 hl (k := 0) rfl (by decide) (by decide) rfl (fun ls hl => ?_)
    refine lv_goto (tgt := 5) hx hb dX6_bytesIn_25 (by decide) ?_
    refine lv_iload_n hx hb dX6_bytesIn_5 rfl (lv_at hl 0 rfl) ?_
    refine lv_if_lt (tgt := 28) hx hb dX6_bytesIn_6 (by decide) (fun q => absurd q (by decide)) (fun _ => ?_)
    refine lv_iload_n hx hb dX6_bytesIn_9 rfl (lv_at hl 2 rfl) ?_
    refine lv_iload_n hx hb dX6_bytesIn_10 rfl (lv_at hl 0 rfl) ?_
    refine lv_iushr hx hb dX6_bytesIn_11 rfl ?_
    refine lv_topi (fun z_4 ez_4 => ?_)
    refine lv_sipush (v := 255) hx hb dX6_bytesIn_12 (by decide) ?_
    refine lv_iand hx hb dX6_bytesIn_15 ?_
    refine lv_topi (fun z_5 ez_5 => ?_)
    refine lv_if_eq (tgt := 22) hx hb dX6_bytesIn_16 (by decide) (fun c_6 => ?_) (fun c_6 => ?_)
    ·
      refine lv_iinc (v := 8) (lv' := [(2, .int 8), (1, .int 0), (0, .int p0)]) hx hb dX6_bytesIn_22 hl (k := 0) rfl (by decide) (by decide) rfl (fun ls hl => ?_)
      refine lv_goto (tgt := 5) hx hb dX6_bytesIn_25 (by decide) ?_
      refine lv_iload_n hx hb dX6_bytesIn_5 rfl (lv_at hl 0 rfl) ?_
      refine lv_if_lt (tgt := 28) hx hb dX6_bytesIn_6 (by decide) (fun q => absurd q (by decide)) (fun _ => ?_)
      refine lv_iload_n hx hb dX6_bytesIn_9 rfl (lv_at hl 2 rfl) ?_
      refine lv_iload_n hx hb dX6_bytesIn_10 rfl (lv_at hl 0 rfl) ?_
      refine lv_iushr hx hb dX6_bytesIn_11 rfl ?_
      refine lv_topi (fun z_7 ez_7 => ?_)
      refine lv_sipush (v := 255) hx hb dX6_bytesIn_12 (by decide) ?_
      refine lv_iand hx hb dX6_bytesIn_15 ?_
      refine lv_topi (fun z_8 ez_8 => ?_)
      refine lv_if_eq (tgt := 22) hx hb dX6_bytesIn_16 (by decide) (fun c_9 => ?_) (fun c_9 => ?_)
      ·
        refine lv_iinc (v := 0) (lv' := [(2, .int 0), (1, .int 0), (0, .int p0)]) hx hb dX6_bytesIn_22 hl (k := 0) rfl (by decide) (by decide) rfl (fun ls hl => ?_)
        refine lv_goto (tgt := 5) hx hb dX6_bytesIn_25 (by decide) ?_
        refine lv_iload_n hx hb dX6_bytesIn_5 rfl (lv_at hl 0 rfl) ?_
        refine lv_if_lt (tgt := 28) hx hb dX6_bytesIn_6 (by decide) (fun q => absurd q (by decide)) (fun _ => ?_)
        refine lv_iload_n hx hb dX6_bytesIn_9 rfl (lv_at hl 2 rfl) ?_
        refine lv_iload_n hx hb dX6_bytesIn_10 rfl (lv_at hl 0 rfl) ?_
        refine lv_iushr hx hb dX6_bytesIn_11 rfl ?_
        refine lv_topi (fun z_10 ez_10 => ?_)
        refine lv_sipush (v := 255) hx hb dX6_bytesIn_12 (by decide) ?_
        refine lv_iand hx hb dX6_bytesIn_15 ?_
        refine lv_topi (fun z_11 ez_11 => ?_)
        refine lv_if_eq (tgt := 22) hx hb dX6_bytesIn_16 (by decide) (fun c_12 => ?_) (fun c_12 => ?_)
        ·
          refine lv_iinc (v := -8) (lv' := [(2, .int (-8)), (1, .int 0), (0, .int p0)]) hx hb dX6_bytesIn_22 hl (k := 0) rfl (by decide) (by decide) rfl (fun ls hl => ?_)
          refine lv_goto (tgt := 5) hx hb dX6_bytesIn_25 (by decide) ?_
          refine lv_iload_n hx hb dX6_bytesIn_5 rfl (lv_at hl 0 rfl) ?_
          refine lv_if_lt (tgt := 28) hx hb dX6_bytesIn_6 (by decide) (fun _ => ?_) (fun q => absurd (by decide) q)
          refine lv_iload_n hx hb dX6_bytesIn_28 rfl (lv_at hl 1 rfl) ?_
          exact W.iret (v := 0) hx hb hr (fun tt ht hW => ⟨_, rfl, (by have n24 : nzN p0 24 = 0 := nz_zero 24 (by decide) ez_1.symm ez_2 c_3; have n16 : nzN p0 16 = 0 := nz_zero 16 (by decide) ez_4.symm ez_5 c_6; have n8 : nzN p0 8 = 0 := nz_zero 8 (by decide) ez_7.symm ez_8 c_9; have n0 : nzN p0 0 = 0 := nz_zero 0 (by decide) ez_10.symm ez_11 c_12; unfold nb; rw [n24, n16, n8, n0]; decide), ht⟩) (fun _ h => by cases h) dX6_bytesIn_29
        ·
          refine lv_iinc (v := 1) (lv' := [(1, .int 1), (2, .int 0), (0, .int p0)]) hx hb dX6_bytesIn_19 hl (k := 1) rfl (by decide) (by decide) rfl (fun ls hl => ?_)
          refine lv_iinc (v := -8) (lv' := [(2, .int (-8)), (1, .int 1), (0, .int p0)]) hx hb dX6_bytesIn_22 hl (k := 1) rfl (by decide) (by decide) rfl (fun ls hl => ?_)
          refine lv_goto (tgt := 5) hx hb dX6_bytesIn_25 (by decide) ?_
          refine lv_iload_n hx hb dX6_bytesIn_5 rfl (lv_at hl 0 rfl) ?_
          refine lv_if_lt (tgt := 28) hx hb dX6_bytesIn_6 (by decide) (fun _ => ?_) (fun q => absurd (by decide) q)
          refine lv_iload_n hx hb dX6_bytesIn_28 rfl (lv_at hl 1 rfl) ?_
          exact W.iret (v := 1) hx hb hr (fun tt ht hW => ⟨_, rfl, (by have n24 : nzN p0 24 = 0 := nz_zero 24 (by decide) ez_1.symm ez_2 c_3; have n16 : nzN p0 16 = 0 := nz_zero 16 (by decide) ez_4.symm ez_5 c_6; have n8 : nzN p0 8 = 0 := nz_zero 8 (by decide) ez_7.symm ez_8 c_9; have n0 : nzN p0 0 = 1 := nz_pos 0 (by decide) ez_10.symm ez_11 c_12; unfold nb; rw [n24, n16, n8, n0]; decide), ht⟩) (fun _ h => by cases h) dX6_bytesIn_29
      ·
        refine lv_iinc (v := 1) (lv' := [(1, .int 1), (2, .int 8), (0, .int p0)]) hx hb dX6_bytesIn_19 hl (k := 1) rfl (by decide) (by decide) rfl (fun ls hl => ?_)
        refine lv_iinc (v := 0) (lv' := [(2, .int 0), (1, .int 1), (0, .int p0)]) hx hb dX6_bytesIn_22 hl (k := 1) rfl (by decide) (by decide) rfl (fun ls hl => ?_)
        refine lv_goto (tgt := 5) hx hb dX6_bytesIn_25 (by decide) ?_
        refine lv_iload_n hx hb dX6_bytesIn_5 rfl (lv_at hl 0 rfl) ?_
        refine lv_if_lt (tgt := 28) hx hb dX6_bytesIn_6 (by decide) (fun q => absurd q (by decide)) (fun _ => ?_)
        refine lv_iload_n hx hb dX6_bytesIn_9 rfl (lv_at hl 2 rfl) ?_
        refine lv_iload_n hx hb dX6_bytesIn_10 rfl (lv_at hl 0 rfl) ?_
        refine lv_iushr hx hb dX6_bytesIn_11 rfl ?_
        refine lv_topi (fun z_13 ez_13 => ?_)
        refine lv_sipush (v := 255) hx hb dX6_bytesIn_12 (by decide) ?_
        refine lv_iand hx hb dX6_bytesIn_15 ?_
        refine lv_topi (fun z_14 ez_14 => ?_)
        refine lv_if_eq (tgt := 22) hx hb dX6_bytesIn_16 (by decide) (fun c_15 => ?_) (fun c_15 => ?_)
        ·
          refine lv_iinc (v := -8) (lv' := [(2, .int (-8)), (1, .int 1), (0, .int p0)]) hx hb dX6_bytesIn_22 hl (k := 0) rfl (by decide) (by decide) rfl (fun ls hl => ?_)
          refine lv_goto (tgt := 5) hx hb dX6_bytesIn_25 (by decide) ?_
          refine lv_iload_n hx hb dX6_bytesIn_5 rfl (lv_at hl 0 rfl) ?_
          refine lv_if_lt (tgt := 28) hx hb dX6_bytesIn_6 (by decide) (fun _ => ?_) (fun q => absurd (by decide) q)
          refine lv_iload_n hx hb dX6_bytesIn_28 rfl (lv_at hl 1 rfl) ?_
          exact W.iret (v := 1) hx hb hr (fun tt ht hW => ⟨_, rfl, (by have n24 : nzN p0 24 = 0 := nz_zero 24 (by decide) ez_1.symm ez_2 c_3; have n16 : nzN p0 16 = 0 := nz_zero 16 (by decide) ez_4.symm ez_5 c_6; have n8 : nzN p0 8 = 1 := nz_pos 8 (by decide) ez_7.symm ez_8 c_9; have n0 : nzN p0 0 = 0 := nz_zero 0 (by decide) ez_13.symm ez_14 c_15; unfold nb; rw [n24, n16, n8, n0]; decide), ht⟩) (fun _ h => by cases h) dX6_bytesIn_29
        ·
          refine lv_iinc (v := 2) (lv' := [(1, .int 2), (2, .int 0), (0, .int p0)]) hx hb dX6_bytesIn_19 hl (k := 1) rfl (by decide) (by decide) rfl (fun ls hl => ?_)
          refine lv_iinc (v := -8) (lv' := [(2, .int (-8)), (1, .int 2), (0, .int p0)]) hx hb dX6_bytesIn_22 hl (k := 1) rfl (by decide) (by decide) rfl (fun ls hl => ?_)
          refine lv_goto (tgt := 5) hx hb dX6_bytesIn_25 (by decide) ?_
          refine lv_iload_n hx hb dX6_bytesIn_5 rfl (lv_at hl 0 rfl) ?_
          refine lv_if_lt (tgt := 28) hx hb dX6_bytesIn_6 (by decide) (fun _ => ?_) (fun q => absurd (by decide) q)
          refine lv_iload_n hx hb dX6_bytesIn_28 rfl (lv_at hl 1 rfl) ?_
          exact W.iret (v := 2) hx hb hr (fun tt ht hW => ⟨_, rfl, (by have n24 : nzN p0 24 = 0 := nz_zero 24 (by decide) ez_1.symm ez_2 c_3; have n16 : nzN p0 16 = 0 := nz_zero 16 (by decide) ez_4.symm ez_5 c_6; have n8 : nzN p0 8 = 1 := nz_pos 8 (by decide) ez_7.symm ez_8 c_9; have n0 : nzN p0 0 = 1 := nz_pos 0 (by decide) ez_13.symm ez_14 c_15; unfold nb; rw [n24, n16, n8, n0]; decide), ht⟩) (fun _ h => by cases h) dX6_bytesIn_29
    ·
      refine lv_iinc (v := 1) (lv' := [(1, .int 1), (2, .int 16), (0, .int p0)]) hx hb dX6_bytesIn_19 hl (k := 1) rfl (by decide) (by decide) rfl (fun ls hl => ?_)
      refine lv_iinc (v := 8) (lv' := [(2, .int 8), (1, .int 1), (0, .int p0)]) hx hb dX6_bytesIn_22 hl (k := 1) rfl (by decide) (by decide) rfl (fun ls hl => ?_)
      refine lv_goto (tgt := 5) hx hb dX6_bytesIn_25 (by decide) ?_
      refine lv_iload_n hx hb dX6_bytesIn_5 rfl (lv_at hl 0 rfl) ?_
      refine lv_if_lt (tgt := 28) hx hb dX6_bytesIn_6 (by decide) (fun q => absurd q (by decide)) (fun _ => ?_)
      refine lv_iload_n hx hb dX6_bytesIn_9 rfl (lv_at hl 2 rfl) ?_
      refine lv_iload_n hx hb dX6_bytesIn_10 rfl (lv_at hl 0 rfl) ?_
      refine lv_iushr hx hb dX6_bytesIn_11 rfl ?_
      refine lv_topi (fun z_16 ez_16 => ?_)
      refine lv_sipush (v := 255) hx hb dX6_bytesIn_12 (by decide) ?_
      refine lv_iand hx hb dX6_bytesIn_15 ?_
      refine lv_topi (fun z_17 ez_17 => ?_)
      refine lv_if_eq (tgt := 22) hx hb dX6_bytesIn_16 (by decide) (fun c_18 => ?_) (fun c_18 => ?_)
      ·
        refine lv_iinc (v := 0) (lv' := [(2, .int 0), (1, .int 1), (0, .int p0)]) hx hb dX6_bytesIn_22 hl (k := 0) rfl (by decide) (by decide) rfl (fun ls hl => ?_)
        refine lv_goto (tgt := 5) hx hb dX6_bytesIn_25 (by decide) ?_
        refine lv_iload_n hx hb dX6_bytesIn_5 rfl (lv_at hl 0 rfl) ?_
        refine lv_if_lt (tgt := 28) hx hb dX6_bytesIn_6 (by decide) (fun q => absurd q (by decide)) (fun _ => ?_)
        refine lv_iload_n hx hb dX6_bytesIn_9 rfl (lv_at hl 2 rfl) ?_
        refine lv_iload_n hx hb dX6_bytesIn_10 rfl (lv_at hl 0 rfl) ?_
        refine lv_iushr hx hb dX6_bytesIn_11 rfl ?_
        refine lv_topi (fun z_19 ez_19 => ?_)
        refine lv_sipush (v := 255) hx hb dX6_bytesIn_12 (by decide) ?_
        refine lv_iand hx hb dX6_bytesIn_15 ?_
        refine lv_topi (fun z_20 ez_20 => ?_)
        refine lv_if_eq (tgt := 22) hx hb dX6_bytesIn_16 (by decide) (fun c_21 => ?_) (fun c_21 => ?_)
        ·
          refine lv_iinc (v := -8) (lv' := [(2, .int (-8)), (1, .int 1), (0, .int p0)]) hx hb dX6_bytesIn_22 hl (k := 0) rfl (by decide) (by decide) rfl (fun ls hl => ?_)
          refine lv_goto (tgt := 5) hx hb dX6_bytesIn_25 (by decide) ?_
          refine lv_iload_n hx hb dX6_bytesIn_5 rfl (lv_at hl 0 rfl) ?_
          refine lv_if_lt (tgt := 28) hx hb dX6_bytesIn_6 (by decide) (fun _ => ?_) (fun q => absurd (by decide) q)
          refine lv_iload_n hx hb dX6_bytesIn_28 rfl (lv_at hl 1 rfl) ?_
          exact W.iret (v := 1) hx hb hr (fun tt ht hW => ⟨_, rfl, (by have n24 : nzN p0 24 = 0 := nz_zero 24 (by decide) ez_1.symm ez_2 c_3; have n16 : nzN p0 16 = 1 := nz_pos 16 (by decide) ez_4.symm ez_5 c_6; have n8 : nzN p0 8 = 0 := nz_zero 8 (by decide) ez_16.symm ez_17 c_18; have n0 : nzN p0 0 = 0 := nz_zero 0 (by decide) ez_19.symm ez_20 c_21; unfold nb; rw [n24, n16, n8, n0]; decide), ht⟩) (fun _ h => by cases h) dX6_bytesIn_29
        ·
          refine lv_iinc (v := 2) (lv' := [(1, .int 2), (2, .int 0), (0, .int p0)]) hx hb dX6_bytesIn_19 hl (k := 1) rfl (by decide) (by decide) rfl (fun ls hl => ?_)
          refine lv_iinc (v := -8) (lv' := [(2, .int (-8)), (1, .int 2), (0, .int p0)]) hx hb dX6_bytesIn_22 hl (k := 1) rfl (by decide) (by decide) rfl (fun ls hl => ?_)
          refine lv_goto (tgt := 5) hx hb dX6_bytesIn_25 (by decide) ?_
          refine lv_iload_n hx hb dX6_bytesIn_5 rfl (lv_at hl 0 rfl) ?_
          refine lv_if_lt (tgt := 28) hx hb dX6_bytesIn_6 (by decide) (fun _ => ?_) (fun q => absurd (by decide) q)
          refine lv_iload_n hx hb dX6_bytesIn_28 rfl (lv_at hl 1 rfl) ?_
          exact W.iret (v := 2) hx hb hr (fun tt ht hW => ⟨_, rfl, (by have n24 : nzN p0 24 = 0 := nz_zero 24 (by decide) ez_1.symm ez_2 c_3; have n16 : nzN p0 16 = 1 := nz_pos 16 (by decide) ez_4.symm ez_5 c_6; have n8 : nzN p0 8 = 0 := nz_zero 8 (by decide) ez_16.symm ez_17 c_18; have n0 : nzN p0 0 = 1 := nz_pos 0 (by decide) ez_19.symm ez_20 c_21; unfold nb; rw [n24, n16, n8, n0]; decide), ht⟩) (fun _ h => by cases h) dX6_bytesIn_29
      ·
        refine lv_iinc (v := 2) (lv' := [(1, .int 2), (2, .int 8), (0, .int p0)]) hx hb dX6_bytesIn_19 hl (k := 1) rfl (by decide) (by decide) rfl (fun ls hl => ?_)
        refine lv_iinc (v := 0) (lv' := [(2, .int 0), (1, .int 2), (0, .int p0)]) hx hb dX6_bytesIn_22 hl (k := 1) rfl (by decide) (by decide) rfl (fun ls hl => ?_)
        refine lv_goto (tgt := 5) hx hb dX6_bytesIn_25 (by decide) ?_
        refine lv_iload_n hx hb dX6_bytesIn_5 rfl (lv_at hl 0 rfl) ?_
        refine lv_if_lt (tgt := 28) hx hb dX6_bytesIn_6 (by decide) (fun q => absurd q (by decide)) (fun _ => ?_)
        refine lv_iload_n hx hb dX6_bytesIn_9 rfl (lv_at hl 2 rfl) ?_
        refine lv_iload_n hx hb dX6_bytesIn_10 rfl (lv_at hl 0 rfl) ?_
        refine lv_iushr hx hb dX6_bytesIn_11 rfl ?_
        refine lv_topi (fun z_22 ez_22 => ?_)
        refine lv_sipush (v := 255) hx hb dX6_bytesIn_12 (by decide) ?_
        refine lv_iand hx hb dX6_bytesIn_15 ?_
        refine lv_topi (fun z_23 ez_23 => ?_)
        refine lv_if_eq (tgt := 22) hx hb dX6_bytesIn_16 (by decide) (fun c_24 => ?_) (fun c_24 => ?_)
        ·
          refine lv_iinc (v := -8) (lv' := [(2, .int (-8)), (1, .int 2), (0, .int p0)]) hx hb dX6_bytesIn_22 hl (k := 0) rfl (by decide) (by decide) rfl (fun ls hl => ?_)
          refine lv_goto (tgt := 5) hx hb dX6_bytesIn_25 (by decide) ?_
          refine lv_iload_n hx hb dX6_bytesIn_5 rfl (lv_at hl 0 rfl) ?_
          refine lv_if_lt (tgt := 28) hx hb dX6_bytesIn_6 (by decide) (fun _ => ?_) (fun q => absurd (by decide) q)
          refine lv_iload_n hx hb dX6_bytesIn_28 rfl (lv_at hl 1 rfl) ?_
          exact W.iret (v := 2) hx hb hr (fun tt ht hW => ⟨_, rfl, (by have n24 : nzN p0 24 = 0 := nz_zero 24 (by decide) ez_1.symm ez_2 c_3; have n16 : nzN p0 16 = 1 := nz_pos 16 (by decide) ez_4.symm ez_5 c_6; have n8 : nzN p0 8 = 1 := nz_pos 8 (by decide) ez_16.symm ez_17 c_18; have n0 : nzN p0 0 = 0 := nz_zero 0 (by decide) ez_22.symm ez_23 c_24; unfold nb; rw [n24, n16, n8, n0]; decide), ht⟩) (fun _ h => by cases h) dX6_bytesIn_29
        ·
          refine lv_iinc (v := 3) (lv' := [(1, .int 3), (2, .int 0), (0, .int p0)]) hx hb dX6_bytesIn_19 hl (k := 1) rfl (by decide) (by decide) rfl (fun ls hl => ?_)
          refine lv_iinc (v := -8) (lv' := [(2, .int (-8)), (1, .int 3), (0, .int p0)]) hx hb dX6_bytesIn_22 hl (k := 1) rfl (by decide) (by decide) rfl (fun ls hl => ?_)
          refine lv_goto (tgt := 5) hx hb dX6_bytesIn_25 (by decide) ?_
          refine lv_iload_n hx hb dX6_bytesIn_5 rfl (lv_at hl 0 rfl) ?_
          refine lv_if_lt (tgt := 28) hx hb dX6_bytesIn_6 (by decide) (fun _ => ?_) (fun q => absurd (by decide) q)
          refine lv_iload_n hx hb dX6_bytesIn_28 rfl (lv_at hl 1 rfl) ?_
          exact W.iret (v := 3) hx hb hr (fun tt ht hW => ⟨_, rfl, (by have n24 : nzN p0 24 = 0 := nz_zero 24 (by decide) ez_1.symm ez_2 c_3; have n16 : nzN p0 16 = 1 := nz_pos 16 (by decide) ez_4.symm ez_5 c_6; have n8 : nzN p0 8 = 1 := nz_pos 8 (by decide) ez_16.symm ez_17 c_18; have n0 : nzN p0 0 = 1 := nz_pos 0 (by decide) ez_22.symm ez_23 c_24; unfold nb; rw [n24, n16, n8, n0]; decide), ht⟩) (fun _ h => by cases h) dX6_bytesIn_29
  ·
    refine lv_iinc (v := 1) (lv' := [(1, .int 1), (2, .int 24), (0, .int p0)]) hx hb dX6_bytesIn_19 hl (k := 1) rfl (by decide) (by decide) rfl (fun ls hl => ?_)
    refine lv_iinc (v := 16) (lv' := [(2, .int 16), (1, .int 1), (0, .int p0)]) hx hb dX6_bytesIn_22 hl (k := 1) rfl (by decide) (by decide) rfl (fun ls hl => ?_)
    refine lv_goto (tgt := 5) hx hb dX6_bytesIn_25 (by decide) ?_
    refine lv_iload_n hx hb dX6_bytesIn_5 rfl (lv_at hl 0 rfl) ?_
    refine lv_if_lt (tgt := 28) hx hb dX6_bytesIn_6 (by decide) (fun q => absurd q (by decide)) (fun _ => ?_)
    refine lv_iload_n hx hb dX6_bytesIn_9 rfl (lv_at hl 2 rfl) ?_
    refine lv_iload_n hx hb dX6_bytesIn_10 rfl (lv_at hl 0 rfl) ?_
    refine lv_iushr hx hb dX6_bytesIn_11 rfl ?_
    refine lv_topi (fun z_25 ez_25 => ?_)
    refine lv_sipush (v := 255) hx hb dX6_bytesIn_12 (by decide) ?_
    refine lv_iand hx hb dX6_bytesIn_15 ?_
    refine lv_topi (fun z_26 ez_26 => ?_)
    refine lv_if_eq (tgt := 22) hx hb dX6_bytesIn_16 (by decide) (fun c_27 => ?_) (fun c_27 => ?_)
    ·
      refine lv_iinc (v := 8) (lv' := [(2, .int 8), (1, .int 1), (0, .int p0)]) hx hb dX6_bytesIn_22 hl (k := 0) rfl (by decide) (by decide) rfl (fun ls hl => ?_)
      refine lv_goto (tgt := 5) hx hb dX6_bytesIn_25 (by decide) ?_
      refine lv_iload_n hx hb dX6_bytesIn_5 rfl (lv_at hl 0 rfl) ?_
      refine lv_if_lt (tgt := 28) hx hb dX6_bytesIn_6 (by decide) (fun q => absurd q (by decide)) (fun _ => ?_)
      refine lv_iload_n hx hb dX6_bytesIn_9 rfl (lv_at hl 2 rfl) ?_
      refine lv_iload_n hx hb dX6_bytesIn_10 rfl (lv_at hl 0 rfl) ?_
      refine lv_iushr hx hb dX6_bytesIn_11 rfl ?_
      refine lv_topi (fun z_28 ez_28 => ?_)
      refine lv_sipush (v := 255) hx hb dX6_bytesIn_12 (by decide) ?_
      refine lv_iand hx hb dX6_bytesIn_15 ?_
      refine lv_topi (fun z_29 ez_29 => ?_)
      refine lv_if_eq (tgt := 22) hx hb dX6_bytesIn_16 (by decide) (fun c_30 => ?_) (fun c_30 => ?_)
      ·
        refine lv_iinc (v := 0) (lv' := [(2, .int 0), (1, .int 1), (0, .int p0)]) hx hb dX6_bytesIn_22 hl (k := 0) rfl (by decide) (by decide) rfl (fun ls hl => ?_)
        refine lv_goto (tgt := 5) hx hb dX6_bytesIn_25 (by decide) ?_
        refine lv_iload_n hx hb dX6_bytesIn_5 rfl (lv_at hl 0 rfl) ?_
        refine lv_if_lt (tgt := 28) hx hb dX6_bytesIn_6 (by decide) (fun q => absurd q (by decide)) (fun _ => ?_)
        refine lv_iload_n hx hb dX6_bytesIn_9 rfl (lv_at hl 2 rfl) ?_
        refine lv_iload_n hx hb dX6_bytesIn_10 rfl (lv_at hl 0 rfl) ?_
        refine lv_iushr hx hb dX6_bytesIn_11 rfl ?_
        refine lv_topi (fun z_31 ez_31 => ?_)
        refine lv_sipush (v := 255) hx hb dX6_bytesIn_12 (by decide) ?_
        refine lv_iand hx hb dX6_bytesIn_15 ?_
        refine lv_topi (fun z_32 ez_32 => ?_)
        refine lv_if_eq (tgt := 22) hx hb dX6_bytesIn_16 (by decide) (fun c_33 => ?_) (fun c_33 => ?_)
        ·
          refine lv_iinc (v := -8) (lv' := [(2, .int (-8)), (1, .int 1), (0, .int p0)]) hx hb dX6_bytesIn_22 hl (k := 0) rfl (by decide) (by decide) rfl (fun ls hl => ?_)
          refine lv_goto (tgt := 5) hx hb dX6_bytesIn_25 (by decide) ?_
          refine lv_iload_n hx hb dX6_bytesIn_5 rfl (lv_at hl 0 rfl) ?_
          refine lv_if_lt (tgt := 28) hx hb dX6_bytesIn_6 (by decide) (fun _ => ?_) (fun q => absurd (by decide) q)
          refine lv_iload_n hx hb dX6_bytesIn_28 rfl (lv_at hl 1 rfl) ?_
          exact W.iret (v := 1) hx hb hr (fun tt ht hW => ⟨_, rfl, (by have n24 : nzN p0 24 = 1 := nz_pos 24 (by decide) ez_1.symm ez_2 c_3; have n16 : nzN p0 16 = 0 := nz_zero 16 (by decide) ez_25.symm ez_26 c_27; have n8 : nzN p0 8 = 0 := nz_zero 8 (by decide) ez_28.symm ez_29 c_30; have n0 : nzN p0 0 = 0 := nz_zero 0 (by decide) ez_31.symm ez_32 c_33; unfold nb; rw [n24, n16, n8, n0]; decide), ht⟩) (fun _ h => by cases h) dX6_bytesIn_29
        ·
          refine lv_iinc (v := 2) (lv' := [(1, .int 2), (2, .int 0), (0, .int p0)]) hx hb dX6_bytesIn_19 hl (k := 1) rfl (by decide) (by decide) rfl (fun ls hl => ?_)
          refine lv_iinc (v := -8) (lv' := [(2, .int (-8)), (1, .int 2), (0, .int p0)]) hx hb dX6_bytesIn_22 hl (k := 1) rfl (by decide) (by decide) rfl (fun ls hl => ?_)
          refine lv_goto (tgt := 5) hx hb dX6_bytesIn_25 (by decide) ?_
          refine lv_iload_n hx hb dX6_bytesIn_5 rfl (lv_at hl 0 rfl) ?_
          refine lv_if_lt (tgt := 28) hx hb dX6_bytesIn_6 (by decide) (fun _ => ?_) (fun q => absurd (by decide) q)
          refine lv_iload_n hx hb dX6_bytesIn_28 rfl (lv_at hl 1 rfl) ?_
          exact W.iret (v := 2) hx hb hr (fun tt ht hW => ⟨_, rfl, (by have n24 : nzN p0 24 = 1 := nz_pos 24 (by decide) ez_1.symm ez_2 c_3; have n16 : nzN p0 16 = 0 := nz_zero 16 (by decide) ez_25.symm ez_26 c_27; have n8 : nzN p0 8 = 0 := nz_zero 8 (by decide) ez_28.symm ez_29 c_30; have n0 : nzN p0 0 = 1 := nz_pos 0 (by decide) ez_31.symm ez_32 c_33; unfold nb; rw [n24, n16, n8, n0]; decide), ht⟩) (fun _ h => by cases h) dX6_bytesIn_29
      ·
        refine lv_iinc (v := 2) (lv' := [(1, .int 2), (2, .int 8), (0, .int p0)]) hx hb dX6_bytesIn_19 hl (k := 1) rfl (by decide) (by decide) rfl (fun ls hl => ?_)
        refine lv_iinc (v := 0) (lv' := [(2, .int 0), (1, .int 2), (0, .int p0)]) hx hb dX6_bytesIn_22 hl (k := 1) rfl (by decide) (by decide) rfl (fun ls hl => ?_)
        refine lv_goto (tgt := 5) hx hb dX6_bytesIn_25 (by decide) ?_
        refine lv_iload_n hx hb dX6_bytesIn_5 rfl (lv_at hl 0 rfl) ?_
        refine lv_if_lt (tgt := 28) hx hb dX6_bytesIn_6 (by decide) (fun q => absurd q (by decide)) (fun _ => ?_)
        refine lv_iload_n hx hb dX6_bytesIn_9 rfl (lv_at hl 2 rfl) ?_
        refine lv_iload_n hx hb dX6_bytesIn_10 rfl (lv_at hl 0 rfl) ?_
        refine lv_iushr hx hb dX6_bytesIn_11 rfl ?_
        refine lv_topi (fun z_34 ez_34 => ?_)
        refine lv_sipush (v := 255) hx hb dX6_bytesIn_12 (by decide) ?_
        refine lv_iand hx hb dX6_bytesIn_15 ?_
        refine lv_topi (fun z_35 ez_35 => ?_)
        refine lv_if_eq (tgt := 22) hx hb dX6_bytesIn_16 (by decide) (fun c_36 => ?_) (fun c_36 => ?_)
        ·
          refine lv_iinc (v := -8) (lv' := [(2, .int (-8)), (1, .int 2), (0, .int p0)]) hx hb dX6_bytesIn_22 hl (k := 0) rfl (by decide) (by decide) rfl (fun ls hl => ?_)
          refine lv_goto (tgt := 5) hx hb dX6_bytesIn_25 (by decide) ?_
          refine lv_iload_n hx hb dX6_bytesIn_5 rfl (lv_at hl 0 rfl) ?_
          refine lv_if_lt (tgt := 28) hx hb dX6_bytesIn_6 (by decide) (fun _ => ?_) (fun q => absurd (by decide) q)
          refine lv_iload_n hx hb dX6_bytesIn_28 rfl (lv_at hl 1 rfl) ?_
          exact W.iret (v := 2) hx hb hr (fun tt ht hW => ⟨_, rfl, (by have n24 : nzN p0 24 = 1 := nz_pos 24 (by decide) ez_1.symm ez_2 c_3; have n16 : nzN p0 16 = 0 := nz_zero 16 (by decide) ez_25.symm ez_26 c_27; have n8 : nzN p0 8 = 1 := nz_pos 8 (by decide) ez_28.symm ez_29 c_30; have n0 : nzN p0 0 = 0 := nz_zero 0 (by decide) ez_34.symm ez_35 c_36; unfold nb; rw [n24, n16, n8, n0]; decide), ht⟩) (fun _ h => by cases h) dX6_bytesIn_29
        ·
          refine lv_iinc (v := 3) (lv' := [(1, .int 3), (2, .int 0), (0, .int p0)]) hx hb dX6_bytesIn_19 hl (k := 1) rfl (by decide) (by decide) rfl (fun ls hl => ?_)
          refine lv_iinc (v := -8) (lv' := [(2, .int (-8)), (1, .int 3), (0, .int p0)]) hx hb dX6_bytesIn_22 hl (k := 1) rfl (by decide) (by decide) rfl (fun ls hl => ?_)
          refine lv_goto (tgt := 5) hx hb dX6_bytesIn_25 (by decide) ?_
          refine lv_iload_n hx hb dX6_bytesIn_5 rfl (lv_at hl 0 rfl) ?_
          refine lv_if_lt (tgt := 28) hx hb dX6_bytesIn_6 (by decide) (fun _ => ?_) (fun q => absurd (by decide) q)
          refine lv_iload_n hx hb dX6_bytesIn_28 rfl (lv_at hl 1 rfl) ?_
          exact W.iret (v := 3) hx hb hr (fun tt ht hW => ⟨_, rfl, (by have n24 : nzN p0 24 = 1 := nz_pos 24 (by decide) ez_1.symm ez_2 c_3; have n16 : nzN p0 16 = 0 := nz_zero 16 (by decide) ez_25.symm ez_26 c_27; have n8 : nzN p0 8 = 1 := nz_pos 8 (by decide) ez_28.symm ez_29 c_30; have n0 : nzN p0 0 = 1 := nz_pos 0 (by decide) ez_34.symm ez_35 c_36; unfold nb; rw [n24, n16, n8, n0]; decide), ht⟩) (fun _ h => by cases h) dX6_bytesIn_29
    ·
      refine lv_iinc (v := 2) (lv' := [(1, .int 2), (2, .int 16), (0, .int p0)]) hx hb dX6_bytesIn_19 hl (k := 1) rfl (by decide) (by decide) rfl (fun ls hl => ?_)
      refine lv_iinc (v := 8) (lv' := [(2, .int 8), (1, .int 2), (0, .int p0)]) hx hb dX6_bytesIn_22 hl (k := 1) rfl (by decide) (by decide) rfl (fun ls hl => ?_)
      refine lv_goto (tgt := 5) hx hb dX6_bytesIn_25 (by decide) ?_
      refine lv_iload_n hx hb dX6_bytesIn_5 rfl (lv_at hl 0 rfl) ?_
      refine lv_if_lt (tgt := 28) hx hb dX6_bytesIn_6 (by decide) (fun q => absurd q (by decide)) (fun _ => ?_)
      refine lv_iload_n hx hb dX6_bytesIn_9 rfl (lv_at hl 2 rfl) ?_
      refine lv_iload_n hx hb dX6_bytesIn_10 rfl (lv_at hl 0 rfl) ?_
      refine lv_iushr hx hb dX6_bytesIn_11 rfl ?_
      refine lv_topi (fun z_37 ez_37 => ?_)
      refine lv_sipush (v := 255) hx hb dX6_bytesIn_12 (by decide) ?_
      refine lv_iand hx hb dX6_bytesIn_15 ?_
      refine lv_topi (fun z_38 ez_38 => ?_)
      refine lv_if_eq (tgt := 22) hx hb dX6_bytesIn_16 (by decide) (fun c_39 => ?_) (fun c_39 => ?_)
      ·
        refine lv_iinc (v := 0) (lv' := [(2, .int 0), (1, .int 2), (0, .int p0)]) hx hb dX6_bytesIn_22 hl (k := 0) rfl (by decide) (by decide) rfl (fun ls hl => ?_)
        refine lv_goto (tgt := 5) hx hb dX6_bytesIn_25 (by decide) ?_
        refine lv_iload_n hx hb dX6_bytesIn_5 rfl (lv_at hl 0 rfl) ?_
        refine lv_if_lt (tgt := 28) hx hb dX6_bytesIn_6 (by decide) (fun q => absurd q (by decide)) (fun _ => ?_)
        refine lv_iload_n hx hb dX6_bytesIn_9 rfl (lv_at hl 2 rfl) ?_
        refine lv_iload_n hx hb dX6_bytesIn_10 rfl (lv_at hl 0 rfl) ?_
        refine lv_iushr hx hb dX6_bytesIn_11 rfl ?_
        refine lv_topi (fun z_40 ez_40 => ?_)
        refine lv_sipush (v := 255) hx hb dX6_bytesIn_12 (by decide) ?_
        refine lv_iand hx hb dX6_bytesIn_15 ?_
        refine lv_topi (fun z_41 ez_41 => ?_)
        refine lv_if_eq (tgt := 22) hx hb dX6_bytesIn_16 (by decide) (fun c_42 => ?_) (fun c_42 => ?_)
        ·
          refine lv_iinc (v := -8) (lv' := [(2, .int (-8)), (1, .int 2), (0, .int p0)]) hx hb dX6_bytesIn_22 hl (k := 0) rfl (by decide) (by decide) rfl (fun ls hl => ?_)
          refine lv_goto (tgt := 5) hx hb dX6_bytesIn_25 (by decide) ?_
          refine lv_iload_n hx hb dX6_bytesIn_5 rfl (lv_at hl 0 rfl) ?_
          refine lv_if_lt (tgt := 28) hx hb dX6_bytesIn_6 (by decide) (fun _ => ?_) (fun q => absurd (by decide) q)
          refine lv_iload_n hx hb dX6_bytesIn_28 rfl (lv_at hl 1 rfl) ?_
          exact W.iret (v := 2) hx hb hr (fun tt ht hW => ⟨_, rfl, (by have n24 : nzN p0 24 = 1 := nz_pos 24 (by decide) ez_1.symm ez_2 c_3; have n16 : nzN p0 16 = 1 := nz_pos 16 (by decide) ez_25.symm ez_26 c_27; have n8 : nzN p0 8 = 0 := nz_zero 8 (by decide) ez_37.symm ez_38 c_39; have n0 : nzN p0 0 = 0 := nz_zero 0 (by decide) ez_40.symm ez_41 c_42; unfold nb; rw [n24, n16, n8, n0]; decide), ht⟩) (fun _ h => by cases h) dX6_bytesIn_29
        ·
          refine lv_iinc (v := 3) (lv' := [(1, .int 3), (2, .int 0), (0, .int p0)]) hx hb dX6_bytesIn_19 hl (k := 1) rfl (by decide) (by decide) rfl (fun ls hl => ?_)
          refine lv_iinc (v := -8) (lv' := [(2, .int (-8)), (1, .int 3), (0, .int p0)]) hx hb dX6_bytesIn_22 hl (k := 1) rfl (by decide) (by decide) rfl (fun ls hl => ?_)
          refine lv_goto (tgt := 5) hx hb dX6_bytesIn_25 (by decide) ?_
          refine lv_iload_n hx hb dX6_bytesIn_5 rfl (lv_at hl 0 rfl) ?_
          refine lv_if_lt (tgt := 28) hx hb dX6_bytesIn_6 (by decide) (fun _ => ?_) (fun q => absurd (by decide) q)
          refine lv_iload_n hx hb dX6_bytesIn_28 rfl (lv_at hl 1 rfl) ?_
          exact W.iret (v := 3) hx hb hr (fun tt ht hW => ⟨_, rfl, (by have n24 : nzN p0 24 = 1 := nz_pos 24 (by decide) ez_1.symm ez_2 c_3; have n16 : nzN p0 16 = 1 := nz_pos 16 (by decide) ez_25.symm ez_26 c_27; have n8 : nzN p0 8 = 0 := nz_zero 8 (by decide) ez_37.symm ez_38 c_39; have n0 : nzN p0 0 = 1 := nz_pos 0 (by decide) ez_40.symm ez_41 c_42; unfold nb; rw [n24, n16, n8, n0]; decide), ht⟩) (fun _ h => by cases h) dX6_bytesIn_29
      ·
        refine lv_iinc (v := 3) (lv' := [(1, .int 3), (2, .int 8), (0, .int p0)]) hx hb dX6_bytesIn_19 hl (k := 1) rfl (by decide) (by decide) rfl (fun ls hl => ?_)
        refine lv_iinc (v := 0) (lv' := [(2, .int 0), (1, .int 3), (0, .int p0)]) hx hb dX6_bytesIn_22 hl (k := 1) rfl (by decide) (by decide) rfl (fun ls hl => ?_)
        refine lv_goto (tgt := 5) hx hb dX6_bytesIn_25 (by decide) ?_
        refine lv_iload_n hx hb dX6_bytesIn_5 rfl (lv_at hl 0 rfl) ?_
        refine lv_if_lt (tgt := 28) hx hb dX6_bytesIn_6 (by decide) (fun q => absurd q (by decide)) (fun _ => ?_)
        refine lv_iload_n hx hb dX6_bytesIn_9 rfl (lv_at hl 2 rfl) ?_
        refine lv_iload_n hx hb dX6_bytesIn_10 rfl (lv_at hl 0 rfl) ?_
        refine lv_iushr hx hb dX6_bytesIn_11 rfl ?_
        refine lv_topi (fun z_43 ez_43 => ?_)
        refine lv_sipush (v := 255) hx hb dX6_bytesIn_12 (by decide) ?_
        refine lv_iand hx hb dX6_bytesIn_15 ?_
        refine lv_topi (fun z_44 ez_44 => ?_)
        refine lv_if_eq (tgt := 22) hx hb dX6_bytesIn_16 (by decide) (fun c_45 => ?_) (fun c_45 => ?_)
        ·
          refine lv_iinc (v := -8) (lv' := [(2, .int (-8)), (1, .int 3), (0, .int p0)]) hx hb dX6_bytesIn_22 hl (k := 0) rfl (by decide) (by decide) rfl (fun ls hl => ?_)
          refine lv_goto (tgt := 5) hx hb dX6_bytesIn_25 (by decide) ?_
          refine lv_iload_n hx hb dX6_bytesIn_5 rfl (lv_at hl 0 rfl) ?_
          refine lv_if_lt (tgt := 28) hx hb dX6_bytesIn_6 (by decide) (fun _ => ?_) (fun q => absurd (by decide) q)
          refine lv_iload_n hx hb dX6_bytesIn_28 rfl (lv_at hl 1 rfl) ?_
          exact W.iret (v := 3) hx hb hr (fun tt ht hW => ⟨_, rfl, (by have n24 : nzN p0 24 = 1 := nz_pos 24 (by decide) ez_1.symm ez_2 c_3; have n16 : nzN p0 16 = 1 := nz_pos 16 (by decide) ez_25.symm ez_26 c_27; have n8 : nzN p0 8 = 1 := nz_pos 8 (by decide) ez_37.symm ez_38 c_39; have n0 : nzN p0 0 = 0 := nz_zero 0 (by decide) ez_43.symm ez_44 c_45; unfold nb; rw [n24, n16, n8, n0]; decide), ht⟩) (fun _ h => by cases h) dX6_bytesIn_29
        ·
          refine lv_iinc (v := 4) (lv' := [(1, .int 4), (2, .int 0), (0, .int p0)]) hx hb dX6_bytesIn_19 hl (k := 1) rfl (by decide) (by decide) rfl (fun ls hl => ?_)
          refine lv_iinc (v := -8) (lv' := [(2, .int (-8)), (1, .int 4), (0, .int p0)]) hx hb dX6_bytesIn_22 hl (k := 1) rfl (by decide) (by decide) rfl (fun ls hl => ?_)
          refine lv_goto (tgt := 5) hx hb dX6_bytesIn_25 (by decide) ?_
          refine lv_iload_n hx hb dX6_bytesIn_5 rfl (lv_at hl 0 rfl) ?_
          refine lv_if_lt (tgt := 28) hx hb dX6_bytesIn_6 (by decide) (fun _ => ?_) (fun q => absurd (by decide) q)
          refine lv_iload_n hx hb dX6_bytesIn_28 rfl (lv_at hl 1 rfl) ?_
          exact W.iret (v := 4) hx hb hr (fun tt ht hW => ⟨_, rfl, (by have n24 : nzN p0 24 = 1 := nz_pos 24 (by decide) ez_1.symm ez_2 c_3; have n16 : nzN p0 16 = 1 := nz_pos 16 (by decide) ez_25.symm ez_26 c_27; have n8 : nzN p0 8 = 1 := nz_pos 8 (by decide) ez_37.symm ez_38 c_39; have n0 : nzN p0 0 = 1 := nz_pos 0 (by decide) ez_43.symm ez_44 c_45; unfold nb; rw [n24, n16, n8, n0]; decide), ht⟩) (fun _ h => by cases h) dX6_bytesIn_29

def v_c_take : List Cond := .code yX6_take cX6_take 4 none :: ([.fieldLink RX6 15 "HushWatch$Tape" "length" "I", .fieldLink RX6 11 "HushWatch$Tape" "bytes" "[B"] ++ (wsX60 ++ ([])))
theorem gw_c_take : v_c_take.all goodWord = true := by decide +kernel
theorem i_c_take_X6 : ∀ w ∈ wsX60, w ∈ v_c_take := fun _ h => List.mem_cons_of_mem _ (List.mem_append_right _ (List.mem_append_left _ h))
set_option maxHeartbeats 4000000 in
set_option maxRecDepth 100000 in
theorem c_take (l : Launch) (E : EE) (sz : Nat) (t b1 k : Nat) (f : Nat → Int32) (p0 : Int32) (hk : k ≤ 316) : Met l yX6_take v_c_take ({ frames := 0, cells := 0, slots := 0, locals := 0 }) (va_Pc [.ref t, .int p0] (pW E sz [(t, .inr (7, [.ref b1, .int (nI k)])), (b1, .inl (E.2.2.1, 320, .inl f))])) (va_Qv (fun (f1 : Nat → Int32) => True) (fun (f1 : Nat → Int32) tt => va_P E.1 vwCl [(t, .inr (7, [.ref b1, .int (nI (k + nb p0))])), (b1, .inl (E.2.2.1, 320, .inl f1))] tt.heap ∧ va_D (va_A [(t, .inr (7, [.ref b1, .int (nI k)])), (b1, .inl (E.2.2.1, 320, .inl f))] sz) [(t, .inr (7, [.ref b1, .int (nI (k + nb p0))])), (b1, .inl (E.2.2.1, 320, .inl f1))]) (va_A [(t, .inr (7, [.ref b1, .int (nI k)])), (b1, .inl (E.2.2.1, 320, .inl f))] sz)) 0 0 (va_A [(t, .inr (7, [.ref b1, .int (nI k)])), (b1, .inl (E.2.2.1, 320, .inl f))] sz) := by
  refine Met.ofW (cc := cX6_take) (maxL := 4) (ret := none) (by decide) rfl ?_
  intro p e s m args below meth c s₁ B hml hv
  obtain ⟨rfl, hsz, ⟨hK, hN⟩, hP, hD0⟩ := hv
  have hx := B.exec
  have hb := B.bytes
  have hr := B.returns
  have hts := atoms_spec (ws := v_c_take) B.pre
  have hown : s.vm.findClass RX6 = some m.cls := findClass_of_methodNamed B.named
  have hlocks := B.notSynchronized
  subst hsz
  have hD := hD0.self (sz := s.heap.size)
  generalize hAe : va_A [(t, .inr (7, [.ref b1, .int (nI k)])), (b1, .inl (E.2.2.1, 320, .inl f))] s.heap.size = A at hD ⊢
  have hA : ∀ q : Nat, s.heap.size ≤ q → A q := fun q h => by rw [← hAe]; exact Or.inr h
  have hS : va_S A s.heap s.heap [] := va_S.rf
  have hP : va_P E.1 vwCl [(t, .inr (7, [.ref b1, .int (nI k)])), (b1, .inl (E.2.2.1, 320, .inl f))] s.heap := hP
  have hl := lv_entry ([.ref t, .int p0]) (n := 4) (Nat.le_of_ble_eq_true rfl)
  rw [lg_entry_eq]
  generalize (lg_sl ([.ref t, .int p0]) ++ List.replicate (4 - (lg_sl ([.ref t, .int p0])).length) Slot.unset).toArray = ls at hl ⊢
  have hl : lv_has ls 4 [(0, .ref t), (1, .int p0)] := hl
  refine lv_bipush (v := 24) hx hb dX6_take_0 (by decide) ?_
  refine lv_istore_n (lv' := [(2, .int 24), (0, .ref t), (1, .int p0)]) hx hb dX6_take_2 rfl hl (by decide) rfl (fun ls hl => ?_)
  refine lv_iload_n hx hb dX6_take_3 rfl (lv_at hl 0 rfl) ?_
  refine lv_if_lt (tgt := 56) hx hb dX6_take_4 (by decide) (fun q => absurd q (by decide)) (fun _ => ?_)
  refine lv_iload_n hx hb dX6_take_7 rfl (lv_at hl 2 rfl) ?_
  refine lv_iload_n hx hb dX6_take_8 rfl (lv_at hl 0 rfl) ?_
  refine lv_iushr hx hb dX6_take_9 rfl ?_
  refine lv_topi (fun z_1 ez_1 => ?_)
  refine lv_sipush (v := 255) hx hb dX6_take_10 (by decide) ?_
  refine lv_iand hx hb dX6_take_13 ?_
  refine lv_topi (fun z_2 ez_2 => ?_)
  refine lv_istore_n (lv' := [(3, .int z_2), (2, .int 24), (0, .ref t), (1, .int p0)]) hx hb dX6_take_14 rfl hl (by decide) rfl (fun ls hl => ?_)
  refine lv_iload_n hx hb dX6_take_15 rfl (lv_at hl 0 rfl) ?_
  refine lv_if_eq (tgt := 50) hx hb dX6_take_16 (by decide) (fun c_3 => ?_) (fun c_3 => ?_)
  ·
    refine lv_iinc (v := 16) (lv' := [(2, .int 16), (3, .int z_2), (0, .ref t), (1, .int p0)]) hx hb dX6_take_50 hl (k := 1) rfl (by decide) (by decide) rfl (fun ls hl => ?_)
    refine lv_goto (tgt := 3) hx hb dX6_take_53 (by decide) ?_
    refine lv_iload_n hx hb dX6_take_3 rfl (lv_at hl 0 rfl) ?_
    refine lv_if_lt (tgt := 56) hx hb dX6_take_4 (by decide) (fun q => absurd q (by decide)) (fun _ => ?_)
    refine lv_iload_n hx hb dX6_take_7 rfl (lv_at hl 3 rfl) ?_
    refine lv_iload_n hx hb dX6_take_8 rfl (lv_at hl 0 rfl) ?_
    refine lv_iushr hx hb dX6_take_9 rfl ?_
    refine lv_topi (fun z_4 ez_4 => ?_)
    refine lv_sipush (v := 255) hx hb dX6_take_10 (by decide) ?_
    refine lv_iand hx hb dX6_take_13 ?_
    refine lv_topi (fun z_5 ez_5 => ?_)
    refine lv_istore_n (lv' := [(3, .int z_5), (2, .int 16), (0, .ref t), (1, .int p0)]) hx hb dX6_take_14 rfl hl (by decide) rfl (fun ls hl => ?_)
    refine lv_iload_n hx hb dX6_take_15 rfl (lv_at hl 0 rfl) ?_
    refine lv_if_eq (tgt := 50) hx hb dX6_take_16 (by decide) (fun c_6 => ?_) (fun c_6 => ?_)
    ·
      refine lv_iinc (v := 8) (lv' := [(2, .int 8), (3, .int z_5), (0, .ref t), (1, .int p0)]) hx hb dX6_take_50 hl (k := 1) rfl (by decide) (by decide) rfl (fun ls hl => ?_)
      refine lv_goto (tgt := 3) hx hb dX6_take_53 (by decide) ?_
      refine lv_iload_n hx hb dX6_take_3 rfl (lv_at hl 0 rfl) ?_
      refine lv_if_lt (tgt := 56) hx hb dX6_take_4 (by decide) (fun q => absurd q (by decide)) (fun _ => ?_)
      refine lv_iload_n hx hb dX6_take_7 rfl (lv_at hl 3 rfl) ?_
      refine lv_iload_n hx hb dX6_take_8 rfl (lv_at hl 0 rfl) ?_
      refine lv_iushr hx hb dX6_take_9 rfl ?_
      refine lv_topi (fun z_7 ez_7 => ?_)
      refine lv_sipush (v := 255) hx hb dX6_take_10 (by decide) ?_
      refine lv_iand hx hb dX6_take_13 ?_
      refine lv_topi (fun z_8 ez_8 => ?_)
      refine lv_istore_n (lv' := [(3, .int z_8), (2, .int 8), (0, .ref t), (1, .int p0)]) hx hb dX6_take_14 rfl hl (by decide) rfl (fun ls hl => ?_)
      refine lv_iload_n hx hb dX6_take_15 rfl (lv_at hl 0 rfl) ?_
      refine lv_if_eq (tgt := 50) hx hb dX6_take_16 (by decide) (fun c_9 => ?_) (fun c_9 => ?_)
      ·
        refine lv_iinc (v := 0) (lv' := [(2, .int 0), (3, .int z_8), (0, .ref t), (1, .int p0)]) hx hb dX6_take_50 hl (k := 1) rfl (by decide) (by decide) rfl (fun ls hl => ?_)
        refine lv_goto (tgt := 3) hx hb dX6_take_53 (by decide) ?_
        refine lv_iload_n hx hb dX6_take_3 rfl (lv_at hl 0 rfl) ?_
        refine lv_if_lt (tgt := 56) hx hb dX6_take_4 (by decide) (fun q => absurd q (by decide)) (fun _ => ?_)
        refine lv_iload_n hx hb dX6_take_7 rfl (lv_at hl 3 rfl) ?_
        refine lv_iload_n hx hb dX6_take_8 rfl (lv_at hl 0 rfl) ?_
        refine lv_iushr hx hb dX6_take_9 rfl ?_
        refine lv_topi (fun z_10 ez_10 => ?_)
        refine lv_sipush (v := 255) hx hb dX6_take_10 (by decide) ?_
        refine lv_iand hx hb dX6_take_13 ?_
        refine lv_topi (fun z_11 ez_11 => ?_)
        refine lv_istore_n (lv' := [(3, .int z_11), (2, .int 0), (0, .ref t), (1, .int p0)]) hx hb dX6_take_14 rfl hl (by decide) rfl (fun ls hl => ?_)
        refine lv_iload_n hx hb dX6_take_15 rfl (lv_at hl 0 rfl) ?_
        refine lv_if_eq (tgt := 50) hx hb dX6_take_16 (by decide) (fun c_12 => ?_) (fun c_12 => ?_)
        ·
          refine lv_iinc (v := -8) (lv' := [(2, .int (-8)), (3, .int z_11), (0, .ref t), (1, .int p0)]) hx hb dX6_take_50 hl (k := 1) rfl (by decide) (by decide) rfl (fun ls hl => ?_)
          refine lv_goto (tgt := 3) hx hb dX6_take_53 (by decide) ?_
          refine lv_iload_n hx hb dX6_take_3 rfl (lv_at hl 0 rfl) ?_
          refine lv_if_lt (tgt := 56) hx hb dX6_take_4 (by decide) (fun _ => ?_) (fun q => absurd (by decide) q)
          have n24 : nzN p0 24 = 0 := nz_zero 24 (by decide) ez_1.symm ez_2 c_3
          have n16 : nzN p0 16 = 0 := nz_zero 16 (by decide) ez_4.symm ez_5 c_6
          have n8 : nzN p0 8 = 0 := nz_zero 8 (by decide) ez_7.symm ez_8 c_9
          have n0 : nzN p0 0 = 0 := nz_zero 0 (by decide) ez_10.symm ez_11 c_12
          have e9 : k = k + nb p0 := by unfold nb; omega
          have hP : va_P E.1 vwCl [(t, .inr (7, [.ref b1, .int (nI (k + nb p0))])), (b1, .inl (E.2.2.1, 320, .inl f))] s.heap := by rw [← e9]; exact hP
          have hD : va_D A [(t, .inr (7, [.ref b1, .int (nI (k + nb p0))])), (b1, .inl (E.2.2.1, 320, .inl f))] := by rw [← e9]; exact hD
          have hP9 := hP.sub (ws' := [(t, .inr (7, [.ref b1, .int (nI (k + nb p0))])), (b1, .inl (E.2.2.1, 320, .inl f))]) [0, 1] rfl
          have hD9 := hD.sub (ws' := [(t, .inr (7, [.ref b1, .int (nI (k + nb p0))])), (b1, .inl (E.2.2.1, 320, .inl f))]) [0, 1] (by decide) rfl
          exact W.vret hx hb hr (fun tt ht hW => ⟨⟨f, rfl, trivial, by rw [ht]; exact hP9, hD9⟩, hS.F ht⟩) hS.2.2 dX6_take_56
        ·
          refine lv_aload_n hx hb dX6_take_19 rfl (lv_at hl 2 rfl) ?_
          refine va_get (D := E.1) (ci := 7) (v := .int (nI k)) (C := RX6) (T := TX6) (N := 2) hx hb hts i_c_take_X6 hown hK hP 0 rfl rfl 1 (by decide) (hts (.fieldLink RX6 15 "HushWatch$Tape" "length" "I") (List.mem_of_getElem? (i := 1) rfl)) (fun _ h9 => h9) rfl dX6_take_20 ?_
          refine lv_sipush (v := 320) hx hb dX6_take_23 (by decide) ?_
          refine lv_icmp_ge (tgt := 50) hx hb dX6_take_26 (by decide) (fun q => absurd q (nI_n320 (by omega))) (fun _ => ?_)
          refine lv_aload_n hx hb dX6_take_29 rfl (lv_at hl 2 rfl) ?_
          refine va_get (D := E.1) (ci := 7) (v := .ref b1) (C := RX6) (T := TX6) (N := 2) hx hb hts i_c_take_X6 hown hK hP 0 rfl rfl 0 (by decide) (hts (.fieldLink RX6 11 "HushWatch$Tape" "bytes" "[B") (List.mem_of_getElem? (i := 2) rfl)) (fun _ h9 => h9) rfl dX6_take_30 ?_
          refine lv_aload_n hx hb dX6_take_33 rfl (lv_at hl 2 rfl) ?_
          refine va_get (D := E.1) (ci := 7) (v := .int (nI k)) (C := RX6) (T := TX6) (N := 2) hx hb hts i_c_take_X6 hown hK hP 0 rfl rfl 1 (by decide) (hts (.fieldLink RX6 15 "HushWatch$Tape" "length" "I") (List.mem_of_getElem? (i := 1) rfl)) (fun _ h9 => h9) rfl dX6_take_34 ?_
          refine lv_iload_n hx hb dX6_take_37 rfl (lv_at hl 0 rfl) ?_
          refine lv_i2b hx hb dX6_take_38 rfl ?_
          refine lv_topi (fun z_13 ez_13 => ?_)
          refine va_bast hx hb hK hP hD hS 1 1 rfl rfl (vp_in_nI (by omega) (by decide)) dX6_take_39 (fun H locs hP hD hS => ?_)
          have hP : va_P E.1 vwCl [(t, .inr (7, [.ref b1, .int (nI k)])), (b1, .inl (E.2.2.1, 320, .inl (upd f (nI k : Int32).toNatClampNeg (vp_nar .byte z_13))))] H := hP
          have hD : va_D A [(t, .inr (7, [.ref b1, .int (nI k)])), (b1, .inl (E.2.2.1, 320, .inl (upd f (nI k : Int32).toNatClampNeg (vp_nar .byte z_13))))] := hD
          generalize upd f (nI k : Int32).toNatClampNeg (vp_nar .byte z_13) = f_14 at hP hD
          refine lv_aload_n hx hb dX6_take_40 rfl (lv_at hl 2 rfl) ?_
          refine lv_dup hx hb dX6_take_41 rfl ?_
          refine va_get (D := E.1) (ci := 7) (v := .int (nI k)) (C := RX6) (T := TX6) (N := 2) hx hb hts i_c_take_X6 hown hK hP 0 rfl rfl 1 (by decide) (hts (.fieldLink RX6 15 "HushWatch$Tape" "length" "I") (List.mem_of_getElem? (i := 1) rfl)) (fun _ h9 => h9) rfl dX6_take_42 ?_
          refine lv_iconst (v := 1) hx hb dX6_take_45 (by decide) ?_
          refine lv_iadd hx hb dX6_take_46 ?_
          refine lv_topi (fun z_15 ez_15 => ?_)
          obtain rfl : z_15 = nI (k + 1) := ez_15.trans (nI_add _ 1)
          refine va_put (D := E.1) (ci := 7) (v := .int (nI (k + 1))) (ty := .int) (C := RX6) (T := TX6) (N := 2) hx hb hts i_c_take_X6 tyX6 tyX6_ok nmX6 hown hK hP hD hS 0 rfl rfl 1 (by decide) (hts (.fieldLink RX6 15 "HushWatch$Tape" "length" "I") (List.mem_of_getElem? (i := 1) rfl)) (fun _ h9 => h9) rfl (by decide +kernel) rfl rfl (Nat.le_of_ble_eq_true rfl) dX6_take_47 (fun H locs hP hD hS => ?_)
          have hP : va_P E.1 vwCl [(t, .inr (7, [.ref b1, .int (nI (k + 1))])), (b1, .inl (E.2.2.1, 320, .inl f_14))] H := hP
          have hD : va_D A [(t, .inr (7, [.ref b1, .int (nI (k + 1))])), (b1, .inl (E.2.2.1, 320, .inl f_14))] := hD
          refine lv_iinc (v := -8) (lv' := [(2, .int (-8)), (3, .int z_11), (0, .ref t), (1, .int p0)]) hx hb dX6_take_50 hl (k := 1) rfl (by decide) (by decide) rfl (fun ls hl => ?_)
          refine lv_goto (tgt := 3) hx hb dX6_take_53 (by decide) ?_
          refine lv_iload_n hx hb dX6_take_3 rfl (lv_at hl 0 rfl) ?_
          refine lv_if_lt (tgt := 56) hx hb dX6_take_4 (by decide) (fun _ => ?_) (fun q => absurd (by decide) q)
          have n24 : nzN p0 24 = 0 := nz_zero 24 (by decide) ez_1.symm ez_2 c_3
          have n16 : nzN p0 16 = 0 := nz_zero 16 (by decide) ez_4.symm ez_5 c_6
          have n8 : nzN p0 8 = 0 := nz_zero 8 (by decide) ez_7.symm ez_8 c_9
          have n0 : nzN p0 0 = 1 := nz_pos 0 (by decide) ez_10.symm ez_11 c_12
          have e9 : k + 1 = k + nb p0 := by unfold nb; omega
          have hP : va_P E.1 vwCl [(t, .inr (7, [.ref b1, .int (nI (k + nb p0))])), (b1, .inl (E.2.2.1, 320, .inl f_14))] H := by rw [← e9]; exact hP
          have hD : va_D A [(t, .inr (7, [.ref b1, .int (nI (k + nb p0))])), (b1, .inl (E.2.2.1, 320, .inl f_14))] := by rw [← e9]; exact hD
          have hP9 := hP.sub (ws' := [(t, .inr (7, [.ref b1, .int (nI (k + nb p0))])), (b1, .inl (E.2.2.1, 320, .inl f_14))]) [0, 1] rfl
          have hD9 := hD.sub (ws' := [(t, .inr (7, [.ref b1, .int (nI (k + nb p0))])), (b1, .inl (E.2.2.1, 320, .inl f_14))]) [0, 1] (by decide) rfl
          exact W.vret hx hb hr (fun tt ht hW => ⟨⟨f_14, rfl, trivial, by rw [ht]; exact hP9, hD9⟩, hS.F ht⟩) hS.2.2 dX6_take_56
      ·
        refine lv_aload_n hx hb dX6_take_19 rfl (lv_at hl 2 rfl) ?_
        refine va_get (D := E.1) (ci := 7) (v := .int (nI k)) (C := RX6) (T := TX6) (N := 2) hx hb hts i_c_take_X6 hown hK hP 0 rfl rfl 1 (by decide) (hts (.fieldLink RX6 15 "HushWatch$Tape" "length" "I") (List.mem_of_getElem? (i := 1) rfl)) (fun _ h9 => h9) rfl dX6_take_20 ?_
        refine lv_sipush (v := 320) hx hb dX6_take_23 (by decide) ?_
        refine lv_icmp_ge (tgt := 50) hx hb dX6_take_26 (by decide) (fun q => absurd q (nI_n320 (by omega))) (fun _ => ?_)
        refine lv_aload_n hx hb dX6_take_29 rfl (lv_at hl 2 rfl) ?_
        refine va_get (D := E.1) (ci := 7) (v := .ref b1) (C := RX6) (T := TX6) (N := 2) hx hb hts i_c_take_X6 hown hK hP 0 rfl rfl 0 (by decide) (hts (.fieldLink RX6 11 "HushWatch$Tape" "bytes" "[B") (List.mem_of_getElem? (i := 2) rfl)) (fun _ h9 => h9) rfl dX6_take_30 ?_
        refine lv_aload_n hx hb dX6_take_33 rfl (lv_at hl 2 rfl) ?_
        refine va_get (D := E.1) (ci := 7) (v := .int (nI k)) (C := RX6) (T := TX6) (N := 2) hx hb hts i_c_take_X6 hown hK hP 0 rfl rfl 1 (by decide) (hts (.fieldLink RX6 15 "HushWatch$Tape" "length" "I") (List.mem_of_getElem? (i := 1) rfl)) (fun _ h9 => h9) rfl dX6_take_34 ?_
        refine lv_iload_n hx hb dX6_take_37 rfl (lv_at hl 0 rfl) ?_
        refine lv_i2b hx hb dX6_take_38 rfl ?_
        refine lv_topi (fun z_16 ez_16 => ?_)
        refine va_bast hx hb hK hP hD hS 1 1 rfl rfl (vp_in_nI (by omega) (by decide)) dX6_take_39 (fun H locs hP hD hS => ?_)
        have hP : va_P E.1 vwCl [(t, .inr (7, [.ref b1, .int (nI k)])), (b1, .inl (E.2.2.1, 320, .inl (upd f (nI k : Int32).toNatClampNeg (vp_nar .byte z_16))))] H := hP
        have hD : va_D A [(t, .inr (7, [.ref b1, .int (nI k)])), (b1, .inl (E.2.2.1, 320, .inl (upd f (nI k : Int32).toNatClampNeg (vp_nar .byte z_16))))] := hD
        generalize upd f (nI k : Int32).toNatClampNeg (vp_nar .byte z_16) = f_17 at hP hD
        refine lv_aload_n hx hb dX6_take_40 rfl (lv_at hl 2 rfl) ?_
        refine lv_dup hx hb dX6_take_41 rfl ?_
        refine va_get (D := E.1) (ci := 7) (v := .int (nI k)) (C := RX6) (T := TX6) (N := 2) hx hb hts i_c_take_X6 hown hK hP 0 rfl rfl 1 (by decide) (hts (.fieldLink RX6 15 "HushWatch$Tape" "length" "I") (List.mem_of_getElem? (i := 1) rfl)) (fun _ h9 => h9) rfl dX6_take_42 ?_
        refine lv_iconst (v := 1) hx hb dX6_take_45 (by decide) ?_
        refine lv_iadd hx hb dX6_take_46 ?_
        refine lv_topi (fun z_18 ez_18 => ?_)
        obtain rfl : z_18 = nI (k + 1) := ez_18.trans (nI_add _ 1)
        refine va_put (D := E.1) (ci := 7) (v := .int (nI (k + 1))) (ty := .int) (C := RX6) (T := TX6) (N := 2) hx hb hts i_c_take_X6 tyX6 tyX6_ok nmX6 hown hK hP hD hS 0 rfl rfl 1 (by decide) (hts (.fieldLink RX6 15 "HushWatch$Tape" "length" "I") (List.mem_of_getElem? (i := 1) rfl)) (fun _ h9 => h9) rfl (by decide +kernel) rfl rfl (Nat.le_of_ble_eq_true rfl) dX6_take_47 (fun H locs hP hD hS => ?_)
        have hP : va_P E.1 vwCl [(t, .inr (7, [.ref b1, .int (nI (k + 1))])), (b1, .inl (E.2.2.1, 320, .inl f_17))] H := hP
        have hD : va_D A [(t, .inr (7, [.ref b1, .int (nI (k + 1))])), (b1, .inl (E.2.2.1, 320, .inl f_17))] := hD
        refine lv_iinc (v := 0) (lv' := [(2, .int 0), (3, .int z_8), (0, .ref t), (1, .int p0)]) hx hb dX6_take_50 hl (k := 1) rfl (by decide) (by decide) rfl (fun ls hl => ?_)
        refine lv_goto (tgt := 3) hx hb dX6_take_53 (by decide) ?_
        refine lv_iload_n hx hb dX6_take_3 rfl (lv_at hl 0 rfl) ?_
        refine lv_if_lt (tgt := 56) hx hb dX6_take_4 (by decide) (fun q => absurd q (by decide)) (fun _ => ?_)
        refine lv_iload_n hx hb dX6_take_7 rfl (lv_at hl 3 rfl) ?_
        refine lv_iload_n hx hb dX6_take_8 rfl (lv_at hl 0 rfl) ?_
        refine lv_iushr hx hb dX6_take_9 rfl ?_
        refine lv_topi (fun z_19 ez_19 => ?_)
        refine lv_sipush (v := 255) hx hb dX6_take_10 (by decide) ?_
        refine lv_iand hx hb dX6_take_13 ?_
        refine lv_topi (fun z_20 ez_20 => ?_)
        refine lv_istore_n (lv' := [(3, .int z_20), (2, .int 0), (0, .ref t), (1, .int p0)]) hx hb dX6_take_14 rfl hl (by decide) rfl (fun ls hl => ?_)
        refine lv_iload_n hx hb dX6_take_15 rfl (lv_at hl 0 rfl) ?_
        refine lv_if_eq (tgt := 50) hx hb dX6_take_16 (by decide) (fun c_21 => ?_) (fun c_21 => ?_)
        ·
          refine lv_iinc (v := -8) (lv' := [(2, .int (-8)), (3, .int z_20), (0, .ref t), (1, .int p0)]) hx hb dX6_take_50 hl (k := 1) rfl (by decide) (by decide) rfl (fun ls hl => ?_)
          refine lv_goto (tgt := 3) hx hb dX6_take_53 (by decide) ?_
          refine lv_iload_n hx hb dX6_take_3 rfl (lv_at hl 0 rfl) ?_
          refine lv_if_lt (tgt := 56) hx hb dX6_take_4 (by decide) (fun _ => ?_) (fun q => absurd (by decide) q)
          have n24 : nzN p0 24 = 0 := nz_zero 24 (by decide) ez_1.symm ez_2 c_3
          have n16 : nzN p0 16 = 0 := nz_zero 16 (by decide) ez_4.symm ez_5 c_6
          have n8 : nzN p0 8 = 1 := nz_pos 8 (by decide) ez_7.symm ez_8 c_9
          have n0 : nzN p0 0 = 0 := nz_zero 0 (by decide) ez_19.symm ez_20 c_21
          have e9 : k + 1 = k + nb p0 := by unfold nb; omega
          have hP : va_P E.1 vwCl [(t, .inr (7, [.ref b1, .int (nI (k + nb p0))])), (b1, .inl (E.2.2.1, 320, .inl f_17))] H := by rw [← e9]; exact hP
          have hD : va_D A [(t, .inr (7, [.ref b1, .int (nI (k + nb p0))])), (b1, .inl (E.2.2.1, 320, .inl f_17))] := by rw [← e9]; exact hD
          have hP9 := hP.sub (ws' := [(t, .inr (7, [.ref b1, .int (nI (k + nb p0))])), (b1, .inl (E.2.2.1, 320, .inl f_17))]) [0, 1] rfl
          have hD9 := hD.sub (ws' := [(t, .inr (7, [.ref b1, .int (nI (k + nb p0))])), (b1, .inl (E.2.2.1, 320, .inl f_17))]) [0, 1] (by decide) rfl
          exact W.vret hx hb hr (fun tt ht hW => ⟨⟨f_17, rfl, trivial, by rw [ht]; exact hP9, hD9⟩, hS.F ht⟩) hS.2.2 dX6_take_56
        ·
          refine lv_aload_n hx hb dX6_take_19 rfl (lv_at hl 2 rfl) ?_
          refine va_get (D := E.1) (ci := 7) (v := .int (nI (k + 1))) (C := RX6) (T := TX6) (N := 2) hx hb hts i_c_take_X6 hown hK hP 0 rfl rfl 1 (by decide) (hts (.fieldLink RX6 15 "HushWatch$Tape" "length" "I") (List.mem_of_getElem? (i := 1) rfl)) (fun _ h9 => h9) rfl dX6_take_20 ?_
          refine lv_sipush (v := 320) hx hb dX6_take_23 (by decide) ?_
          refine lv_icmp_ge (tgt := 50) hx hb dX6_take_26 (by decide) (fun q => absurd q (nI_n320 (by omega))) (fun _ => ?_)
          refine lv_aload_n hx hb dX6_take_29 rfl (lv_at hl 2 rfl) ?_
          refine va_get (D := E.1) (ci := 7) (v := .ref b1) (C := RX6) (T := TX6) (N := 2) hx hb hts i_c_take_X6 hown hK hP 0 rfl rfl 0 (by decide) (hts (.fieldLink RX6 11 "HushWatch$Tape" "bytes" "[B") (List.mem_of_getElem? (i := 2) rfl)) (fun _ h9 => h9) rfl dX6_take_30 ?_
          refine lv_aload_n hx hb dX6_take_33 rfl (lv_at hl 2 rfl) ?_
          refine va_get (D := E.1) (ci := 7) (v := .int (nI (k + 1))) (C := RX6) (T := TX6) (N := 2) hx hb hts i_c_take_X6 hown hK hP 0 rfl rfl 1 (by decide) (hts (.fieldLink RX6 15 "HushWatch$Tape" "length" "I") (List.mem_of_getElem? (i := 1) rfl)) (fun _ h9 => h9) rfl dX6_take_34 ?_
          refine lv_iload_n hx hb dX6_take_37 rfl (lv_at hl 0 rfl) ?_
          refine lv_i2b hx hb dX6_take_38 rfl ?_
          refine lv_topi (fun z_22 ez_22 => ?_)
          refine va_bast hx hb hK hP hD hS 1 1 rfl rfl (vp_in_nI (by omega) (by decide)) dX6_take_39 (fun H locs hP hD hS => ?_)
          have hP : va_P E.1 vwCl [(t, .inr (7, [.ref b1, .int (nI (k + 1))])), (b1, .inl (E.2.2.1, 320, .inl (upd f_17 (nI (k + 1) : Int32).toNatClampNeg (vp_nar .byte z_22))))] H := hP
          have hD : va_D A [(t, .inr (7, [.ref b1, .int (nI (k + 1))])), (b1, .inl (E.2.2.1, 320, .inl (upd f_17 (nI (k + 1) : Int32).toNatClampNeg (vp_nar .byte z_22))))] := hD
          generalize upd f_17 (nI (k + 1) : Int32).toNatClampNeg (vp_nar .byte z_22) = f_23 at hP hD
          refine lv_aload_n hx hb dX6_take_40 rfl (lv_at hl 2 rfl) ?_
          refine lv_dup hx hb dX6_take_41 rfl ?_
          refine va_get (D := E.1) (ci := 7) (v := .int (nI (k + 1))) (C := RX6) (T := TX6) (N := 2) hx hb hts i_c_take_X6 hown hK hP 0 rfl rfl 1 (by decide) (hts (.fieldLink RX6 15 "HushWatch$Tape" "length" "I") (List.mem_of_getElem? (i := 1) rfl)) (fun _ h9 => h9) rfl dX6_take_42 ?_
          refine lv_iconst (v := 1) hx hb dX6_take_45 (by decide) ?_
          refine lv_iadd hx hb dX6_take_46 ?_
          refine lv_topi (fun z_24 ez_24 => ?_)
          obtain rfl : z_24 = nI (k + 1 + 1) := ez_24.trans (nI_add _ 1)
          refine va_put (D := E.1) (ci := 7) (v := .int (nI (k + 1 + 1))) (ty := .int) (C := RX6) (T := TX6) (N := 2) hx hb hts i_c_take_X6 tyX6 tyX6_ok nmX6 hown hK hP hD hS 0 rfl rfl 1 (by decide) (hts (.fieldLink RX6 15 "HushWatch$Tape" "length" "I") (List.mem_of_getElem? (i := 1) rfl)) (fun _ h9 => h9) rfl (by decide +kernel) rfl rfl (Nat.le_of_ble_eq_true rfl) dX6_take_47 (fun H locs hP hD hS => ?_)
          have hP : va_P E.1 vwCl [(t, .inr (7, [.ref b1, .int (nI (k + 1 + 1))])), (b1, .inl (E.2.2.1, 320, .inl f_23))] H := hP
          have hD : va_D A [(t, .inr (7, [.ref b1, .int (nI (k + 1 + 1))])), (b1, .inl (E.2.2.1, 320, .inl f_23))] := hD
          refine lv_iinc (v := -8) (lv' := [(2, .int (-8)), (3, .int z_20), (0, .ref t), (1, .int p0)]) hx hb dX6_take_50 hl (k := 1) rfl (by decide) (by decide) rfl (fun ls hl => ?_)
          refine lv_goto (tgt := 3) hx hb dX6_take_53 (by decide) ?_
          refine lv_iload_n hx hb dX6_take_3 rfl (lv_at hl 0 rfl) ?_
          refine lv_if_lt (tgt := 56) hx hb dX6_take_4 (by decide) (fun _ => ?_) (fun q => absurd (by decide) q)
          have n24 : nzN p0 24 = 0 := nz_zero 24 (by decide) ez_1.symm ez_2 c_3
          have n16 : nzN p0 16 = 0 := nz_zero 16 (by decide) ez_4.symm ez_5 c_6
          have n8 : nzN p0 8 = 1 := nz_pos 8 (by decide) ez_7.symm ez_8 c_9
          have n0 : nzN p0 0 = 1 := nz_pos 0 (by decide) ez_19.symm ez_20 c_21
          have e9 : k + 1 + 1 = k + nb p0 := by unfold nb; omega
          have hP : va_P E.1 vwCl [(t, .inr (7, [.ref b1, .int (nI (k + nb p0))])), (b1, .inl (E.2.2.1, 320, .inl f_23))] H := by rw [← e9]; exact hP
          have hD : va_D A [(t, .inr (7, [.ref b1, .int (nI (k + nb p0))])), (b1, .inl (E.2.2.1, 320, .inl f_23))] := by rw [← e9]; exact hD
          have hP9 := hP.sub (ws' := [(t, .inr (7, [.ref b1, .int (nI (k + nb p0))])), (b1, .inl (E.2.2.1, 320, .inl f_23))]) [0, 1] rfl
          have hD9 := hD.sub (ws' := [(t, .inr (7, [.ref b1, .int (nI (k + nb p0))])), (b1, .inl (E.2.2.1, 320, .inl f_23))]) [0, 1] (by decide) rfl
          exact W.vret hx hb hr (fun tt ht hW => ⟨⟨f_23, rfl, trivial, by rw [ht]; exact hP9, hD9⟩, hS.F ht⟩) hS.2.2 dX6_take_56
    ·
      refine lv_aload_n hx hb dX6_take_19 rfl (lv_at hl 2 rfl) ?_
      refine va_get (D := E.1) (ci := 7) (v := .int (nI k)) (C := RX6) (T := TX6) (N := 2) hx hb hts i_c_take_X6 hown hK hP 0 rfl rfl 1 (by decide) (hts (.fieldLink RX6 15 "HushWatch$Tape" "length" "I") (List.mem_of_getElem? (i := 1) rfl)) (fun _ h9 => h9) rfl dX6_take_20 ?_
      refine lv_sipush (v := 320) hx hb dX6_take_23 (by decide) ?_
      refine lv_icmp_ge (tgt := 50) hx hb dX6_take_26 (by decide) (fun q => absurd q (nI_n320 (by omega))) (fun _ => ?_)
      refine lv_aload_n hx hb dX6_take_29 rfl (lv_at hl 2 rfl) ?_
      refine va_get (D := E.1) (ci := 7) (v := .ref b1) (C := RX6) (T := TX6) (N := 2) hx hb hts i_c_take_X6 hown hK hP 0 rfl rfl 0 (by decide) (hts (.fieldLink RX6 11 "HushWatch$Tape" "bytes" "[B") (List.mem_of_getElem? (i := 2) rfl)) (fun _ h9 => h9) rfl dX6_take_30 ?_
      refine lv_aload_n hx hb dX6_take_33 rfl (lv_at hl 2 rfl) ?_
      refine va_get (D := E.1) (ci := 7) (v := .int (nI k)) (C := RX6) (T := TX6) (N := 2) hx hb hts i_c_take_X6 hown hK hP 0 rfl rfl 1 (by decide) (hts (.fieldLink RX6 15 "HushWatch$Tape" "length" "I") (List.mem_of_getElem? (i := 1) rfl)) (fun _ h9 => h9) rfl dX6_take_34 ?_
      refine lv_iload_n hx hb dX6_take_37 rfl (lv_at hl 0 rfl) ?_
      refine lv_i2b hx hb dX6_take_38 rfl ?_
      refine lv_topi (fun z_25 ez_25 => ?_)
      refine va_bast hx hb hK hP hD hS 1 1 rfl rfl (vp_in_nI (by omega) (by decide)) dX6_take_39 (fun H locs hP hD hS => ?_)
      have hP : va_P E.1 vwCl [(t, .inr (7, [.ref b1, .int (nI k)])), (b1, .inl (E.2.2.1, 320, .inl (upd f (nI k : Int32).toNatClampNeg (vp_nar .byte z_25))))] H := hP
      have hD : va_D A [(t, .inr (7, [.ref b1, .int (nI k)])), (b1, .inl (E.2.2.1, 320, .inl (upd f (nI k : Int32).toNatClampNeg (vp_nar .byte z_25))))] := hD
      generalize upd f (nI k : Int32).toNatClampNeg (vp_nar .byte z_25) = f_26 at hP hD
      refine lv_aload_n hx hb dX6_take_40 rfl (lv_at hl 2 rfl) ?_
      refine lv_dup hx hb dX6_take_41 rfl ?_
      refine va_get (D := E.1) (ci := 7) (v := .int (nI k)) (C := RX6) (T := TX6) (N := 2) hx hb hts i_c_take_X6 hown hK hP 0 rfl rfl 1 (by decide) (hts (.fieldLink RX6 15 "HushWatch$Tape" "length" "I") (List.mem_of_getElem? (i := 1) rfl)) (fun _ h9 => h9) rfl dX6_take_42 ?_
      refine lv_iconst (v := 1) hx hb dX6_take_45 (by decide) ?_
      refine lv_iadd hx hb dX6_take_46 ?_
      refine lv_topi (fun z_27 ez_27 => ?_)
      obtain rfl : z_27 = nI (k + 1) := ez_27.trans (nI_add _ 1)
      refine va_put (D := E.1) (ci := 7) (v := .int (nI (k + 1))) (ty := .int) (C := RX6) (T := TX6) (N := 2) hx hb hts i_c_take_X6 tyX6 tyX6_ok nmX6 hown hK hP hD hS 0 rfl rfl 1 (by decide) (hts (.fieldLink RX6 15 "HushWatch$Tape" "length" "I") (List.mem_of_getElem? (i := 1) rfl)) (fun _ h9 => h9) rfl (by decide +kernel) rfl rfl (Nat.le_of_ble_eq_true rfl) dX6_take_47 (fun H locs hP hD hS => ?_)
      have hP : va_P E.1 vwCl [(t, .inr (7, [.ref b1, .int (nI (k + 1))])), (b1, .inl (E.2.2.1, 320, .inl f_26))] H := hP
      have hD : va_D A [(t, .inr (7, [.ref b1, .int (nI (k + 1))])), (b1, .inl (E.2.2.1, 320, .inl f_26))] := hD
      refine lv_iinc (v := 8) (lv' := [(2, .int 8), (3, .int z_5), (0, .ref t), (1, .int p0)]) hx hb dX6_take_50 hl (k := 1) rfl (by decide) (by decide) rfl (fun ls hl => ?_)
      refine lv_goto (tgt := 3) hx hb dX6_take_53 (by decide) ?_
      refine lv_iload_n hx hb dX6_take_3 rfl (lv_at hl 0 rfl) ?_
      refine lv_if_lt (tgt := 56) hx hb dX6_take_4 (by decide) (fun q => absurd q (by decide)) (fun _ => ?_)
      refine lv_iload_n hx hb dX6_take_7 rfl (lv_at hl 3 rfl) ?_
      refine lv_iload_n hx hb dX6_take_8 rfl (lv_at hl 0 rfl) ?_
      refine lv_iushr hx hb dX6_take_9 rfl ?_
      refine lv_topi (fun z_28 ez_28 => ?_)
      refine lv_sipush (v := 255) hx hb dX6_take_10 (by decide) ?_
      refine lv_iand hx hb dX6_take_13 ?_
      refine lv_topi (fun z_29 ez_29 => ?_)
      refine lv_istore_n (lv' := [(3, .int z_29), (2, .int 8), (0, .ref t), (1, .int p0)]) hx hb dX6_take_14 rfl hl (by decide) rfl (fun ls hl => ?_)
      refine lv_iload_n hx hb dX6_take_15 rfl (lv_at hl 0 rfl) ?_
      refine lv_if_eq (tgt := 50) hx hb dX6_take_16 (by decide) (fun c_30 => ?_) (fun c_30 => ?_)
      ·
        refine lv_iinc (v := 0) (lv' := [(2, .int 0), (3, .int z_29), (0, .ref t), (1, .int p0)]) hx hb dX6_take_50 hl (k := 1) rfl (by decide) (by decide) rfl (fun ls hl => ?_)
        refine lv_goto (tgt := 3) hx hb dX6_take_53 (by decide) ?_
        refine lv_iload_n hx hb dX6_take_3 rfl (lv_at hl 0 rfl) ?_
        refine lv_if_lt (tgt := 56) hx hb dX6_take_4 (by decide) (fun q => absurd q (by decide)) (fun _ => ?_)
        refine lv_iload_n hx hb dX6_take_7 rfl (lv_at hl 3 rfl) ?_
        refine lv_iload_n hx hb dX6_take_8 rfl (lv_at hl 0 rfl) ?_
        refine lv_iushr hx hb dX6_take_9 rfl ?_
        refine lv_topi (fun z_31 ez_31 => ?_)
        refine lv_sipush (v := 255) hx hb dX6_take_10 (by decide) ?_
        refine lv_iand hx hb dX6_take_13 ?_
        refine lv_topi (fun z_32 ez_32 => ?_)
        refine lv_istore_n (lv' := [(3, .int z_32), (2, .int 0), (0, .ref t), (1, .int p0)]) hx hb dX6_take_14 rfl hl (by decide) rfl (fun ls hl => ?_)
        refine lv_iload_n hx hb dX6_take_15 rfl (lv_at hl 0 rfl) ?_
        refine lv_if_eq (tgt := 50) hx hb dX6_take_16 (by decide) (fun c_33 => ?_) (fun c_33 => ?_)
        ·
          refine lv_iinc (v := -8) (lv' := [(2, .int (-8)), (3, .int z_32), (0, .ref t), (1, .int p0)]) hx hb dX6_take_50 hl (k := 1) rfl (by decide) (by decide) rfl (fun ls hl => ?_)
          refine lv_goto (tgt := 3) hx hb dX6_take_53 (by decide) ?_
          refine lv_iload_n hx hb dX6_take_3 rfl (lv_at hl 0 rfl) ?_
          refine lv_if_lt (tgt := 56) hx hb dX6_take_4 (by decide) (fun _ => ?_) (fun q => absurd (by decide) q)
          have n24 : nzN p0 24 = 0 := nz_zero 24 (by decide) ez_1.symm ez_2 c_3
          have n16 : nzN p0 16 = 1 := nz_pos 16 (by decide) ez_4.symm ez_5 c_6
          have n8 : nzN p0 8 = 0 := nz_zero 8 (by decide) ez_28.symm ez_29 c_30
          have n0 : nzN p0 0 = 0 := nz_zero 0 (by decide) ez_31.symm ez_32 c_33
          have e9 : k + 1 = k + nb p0 := by unfold nb; omega
          have hP : va_P E.1 vwCl [(t, .inr (7, [.ref b1, .int (nI (k + nb p0))])), (b1, .inl (E.2.2.1, 320, .inl f_26))] H := by rw [← e9]; exact hP
          have hD : va_D A [(t, .inr (7, [.ref b1, .int (nI (k + nb p0))])), (b1, .inl (E.2.2.1, 320, .inl f_26))] := by rw [← e9]; exact hD
          have hP9 := hP.sub (ws' := [(t, .inr (7, [.ref b1, .int (nI (k + nb p0))])), (b1, .inl (E.2.2.1, 320, .inl f_26))]) [0, 1] rfl
          have hD9 := hD.sub (ws' := [(t, .inr (7, [.ref b1, .int (nI (k + nb p0))])), (b1, .inl (E.2.2.1, 320, .inl f_26))]) [0, 1] (by decide) rfl
          exact W.vret hx hb hr (fun tt ht hW => ⟨⟨f_26, rfl, trivial, by rw [ht]; exact hP9, hD9⟩, hS.F ht⟩) hS.2.2 dX6_take_56
        ·
          refine lv_aload_n hx hb dX6_take_19 rfl (lv_at hl 2 rfl) ?_
          refine va_get (D := E.1) (ci := 7) (v := .int (nI (k + 1))) (C := RX6) (T := TX6) (N := 2) hx hb hts i_c_take_X6 hown hK hP 0 rfl rfl 1 (by decide) (hts (.fieldLink RX6 15 "HushWatch$Tape" "length" "I") (List.mem_of_getElem? (i := 1) rfl)) (fun _ h9 => h9) rfl dX6_take_20 ?_
          refine lv_sipush (v := 320) hx hb dX6_take_23 (by decide) ?_
          refine lv_icmp_ge (tgt := 50) hx hb dX6_take_26 (by decide) (fun q => absurd q (nI_n320 (by omega))) (fun _ => ?_)
          refine lv_aload_n hx hb dX6_take_29 rfl (lv_at hl 2 rfl) ?_
          refine va_get (D := E.1) (ci := 7) (v := .ref b1) (C := RX6) (T := TX6) (N := 2) hx hb hts i_c_take_X6 hown hK hP 0 rfl rfl 0 (by decide) (hts (.fieldLink RX6 11 "HushWatch$Tape" "bytes" "[B") (List.mem_of_getElem? (i := 2) rfl)) (fun _ h9 => h9) rfl dX6_take_30 ?_
          refine lv_aload_n hx hb dX6_take_33 rfl (lv_at hl 2 rfl) ?_
          refine va_get (D := E.1) (ci := 7) (v := .int (nI (k + 1))) (C := RX6) (T := TX6) (N := 2) hx hb hts i_c_take_X6 hown hK hP 0 rfl rfl 1 (by decide) (hts (.fieldLink RX6 15 "HushWatch$Tape" "length" "I") (List.mem_of_getElem? (i := 1) rfl)) (fun _ h9 => h9) rfl dX6_take_34 ?_
          refine lv_iload_n hx hb dX6_take_37 rfl (lv_at hl 0 rfl) ?_
          refine lv_i2b hx hb dX6_take_38 rfl ?_
          refine lv_topi (fun z_34 ez_34 => ?_)
          refine va_bast hx hb hK hP hD hS 1 1 rfl rfl (vp_in_nI (by omega) (by decide)) dX6_take_39 (fun H locs hP hD hS => ?_)
          have hP : va_P E.1 vwCl [(t, .inr (7, [.ref b1, .int (nI (k + 1))])), (b1, .inl (E.2.2.1, 320, .inl (upd f_26 (nI (k + 1) : Int32).toNatClampNeg (vp_nar .byte z_34))))] H := hP
          have hD : va_D A [(t, .inr (7, [.ref b1, .int (nI (k + 1))])), (b1, .inl (E.2.2.1, 320, .inl (upd f_26 (nI (k + 1) : Int32).toNatClampNeg (vp_nar .byte z_34))))] := hD
          generalize upd f_26 (nI (k + 1) : Int32).toNatClampNeg (vp_nar .byte z_34) = f_35 at hP hD
          refine lv_aload_n hx hb dX6_take_40 rfl (lv_at hl 2 rfl) ?_
          refine lv_dup hx hb dX6_take_41 rfl ?_
          refine va_get (D := E.1) (ci := 7) (v := .int (nI (k + 1))) (C := RX6) (T := TX6) (N := 2) hx hb hts i_c_take_X6 hown hK hP 0 rfl rfl 1 (by decide) (hts (.fieldLink RX6 15 "HushWatch$Tape" "length" "I") (List.mem_of_getElem? (i := 1) rfl)) (fun _ h9 => h9) rfl dX6_take_42 ?_
          refine lv_iconst (v := 1) hx hb dX6_take_45 (by decide) ?_
          refine lv_iadd hx hb dX6_take_46 ?_
          refine lv_topi (fun z_36 ez_36 => ?_)
          obtain rfl : z_36 = nI (k + 1 + 1) := ez_36.trans (nI_add _ 1)
          refine va_put (D := E.1) (ci := 7) (v := .int (nI (k + 1 + 1))) (ty := .int) (C := RX6) (T := TX6) (N := 2) hx hb hts i_c_take_X6 tyX6 tyX6_ok nmX6 hown hK hP hD hS 0 rfl rfl 1 (by decide) (hts (.fieldLink RX6 15 "HushWatch$Tape" "length" "I") (List.mem_of_getElem? (i := 1) rfl)) (fun _ h9 => h9) rfl (by decide +kernel) rfl rfl (Nat.le_of_ble_eq_true rfl) dX6_take_47 (fun H locs hP hD hS => ?_)
          have hP : va_P E.1 vwCl [(t, .inr (7, [.ref b1, .int (nI (k + 1 + 1))])), (b1, .inl (E.2.2.1, 320, .inl f_35))] H := hP
          have hD : va_D A [(t, .inr (7, [.ref b1, .int (nI (k + 1 + 1))])), (b1, .inl (E.2.2.1, 320, .inl f_35))] := hD
          refine lv_iinc (v := -8) (lv' := [(2, .int (-8)), (3, .int z_32), (0, .ref t), (1, .int p0)]) hx hb dX6_take_50 hl (k := 1) rfl (by decide) (by decide) rfl (fun ls hl => ?_)
          refine lv_goto (tgt := 3) hx hb dX6_take_53 (by decide) ?_
          refine lv_iload_n hx hb dX6_take_3 rfl (lv_at hl 0 rfl) ?_
          refine lv_if_lt (tgt := 56) hx hb dX6_take_4 (by decide) (fun _ => ?_) (fun q => absurd (by decide) q)
          have n24 : nzN p0 24 = 0 := nz_zero 24 (by decide) ez_1.symm ez_2 c_3
          have n16 : nzN p0 16 = 1 := nz_pos 16 (by decide) ez_4.symm ez_5 c_6
          have n8 : nzN p0 8 = 0 := nz_zero 8 (by decide) ez_28.symm ez_29 c_30
          have n0 : nzN p0 0 = 1 := nz_pos 0 (by decide) ez_31.symm ez_32 c_33
          have e9 : k + 1 + 1 = k + nb p0 := by unfold nb; omega
          have hP : va_P E.1 vwCl [(t, .inr (7, [.ref b1, .int (nI (k + nb p0))])), (b1, .inl (E.2.2.1, 320, .inl f_35))] H := by rw [← e9]; exact hP
          have hD : va_D A [(t, .inr (7, [.ref b1, .int (nI (k + nb p0))])), (b1, .inl (E.2.2.1, 320, .inl f_35))] := by rw [← e9]; exact hD
          have hP9 := hP.sub (ws' := [(t, .inr (7, [.ref b1, .int (nI (k + nb p0))])), (b1, .inl (E.2.2.1, 320, .inl f_35))]) [0, 1] rfl
          have hD9 := hD.sub (ws' := [(t, .inr (7, [.ref b1, .int (nI (k + nb p0))])), (b1, .inl (E.2.2.1, 320, .inl f_35))]) [0, 1] (by decide) rfl
          exact W.vret hx hb hr (fun tt ht hW => ⟨⟨f_35, rfl, trivial, by rw [ht]; exact hP9, hD9⟩, hS.F ht⟩) hS.2.2 dX6_take_56
      ·
        refine lv_aload_n hx hb dX6_take_19 rfl (lv_at hl 2 rfl) ?_
        refine va_get (D := E.1) (ci := 7) (v := .int (nI (k + 1))) (C := RX6) (T := TX6) (N := 2) hx hb hts i_c_take_X6 hown hK hP 0 rfl rfl 1 (by decide) (hts (.fieldLink RX6 15 "HushWatch$Tape" "length" "I") (List.mem_of_getElem? (i := 1) rfl)) (fun _ h9 => h9) rfl dX6_take_20 ?_
        refine lv_sipush (v := 320) hx hb dX6_take_23 (by decide) ?_
        refine lv_icmp_ge (tgt := 50) hx hb dX6_take_26 (by decide) (fun q => absurd q (nI_n320 (by omega))) (fun _ => ?_)
        refine lv_aload_n hx hb dX6_take_29 rfl (lv_at hl 2 rfl) ?_
        refine va_get (D := E.1) (ci := 7) (v := .ref b1) (C := RX6) (T := TX6) (N := 2) hx hb hts i_c_take_X6 hown hK hP 0 rfl rfl 0 (by decide) (hts (.fieldLink RX6 11 "HushWatch$Tape" "bytes" "[B") (List.mem_of_getElem? (i := 2) rfl)) (fun _ h9 => h9) rfl dX6_take_30 ?_
        refine lv_aload_n hx hb dX6_take_33 rfl (lv_at hl 2 rfl) ?_
        refine va_get (D := E.1) (ci := 7) (v := .int (nI (k + 1))) (C := RX6) (T := TX6) (N := 2) hx hb hts i_c_take_X6 hown hK hP 0 rfl rfl 1 (by decide) (hts (.fieldLink RX6 15 "HushWatch$Tape" "length" "I") (List.mem_of_getElem? (i := 1) rfl)) (fun _ h9 => h9) rfl dX6_take_34 ?_
        refine lv_iload_n hx hb dX6_take_37 rfl (lv_at hl 0 rfl) ?_
        refine lv_i2b hx hb dX6_take_38 rfl ?_
        refine lv_topi (fun z_37 ez_37 => ?_)
        refine va_bast hx hb hK hP hD hS 1 1 rfl rfl (vp_in_nI (by omega) (by decide)) dX6_take_39 (fun H locs hP hD hS => ?_)
        have hP : va_P E.1 vwCl [(t, .inr (7, [.ref b1, .int (nI (k + 1))])), (b1, .inl (E.2.2.1, 320, .inl (upd f_26 (nI (k + 1) : Int32).toNatClampNeg (vp_nar .byte z_37))))] H := hP
        have hD : va_D A [(t, .inr (7, [.ref b1, .int (nI (k + 1))])), (b1, .inl (E.2.2.1, 320, .inl (upd f_26 (nI (k + 1) : Int32).toNatClampNeg (vp_nar .byte z_37))))] := hD
        generalize upd f_26 (nI (k + 1) : Int32).toNatClampNeg (vp_nar .byte z_37) = f_38 at hP hD
        refine lv_aload_n hx hb dX6_take_40 rfl (lv_at hl 2 rfl) ?_
        refine lv_dup hx hb dX6_take_41 rfl ?_
        refine va_get (D := E.1) (ci := 7) (v := .int (nI (k + 1))) (C := RX6) (T := TX6) (N := 2) hx hb hts i_c_take_X6 hown hK hP 0 rfl rfl 1 (by decide) (hts (.fieldLink RX6 15 "HushWatch$Tape" "length" "I") (List.mem_of_getElem? (i := 1) rfl)) (fun _ h9 => h9) rfl dX6_take_42 ?_
        refine lv_iconst (v := 1) hx hb dX6_take_45 (by decide) ?_
        refine lv_iadd hx hb dX6_take_46 ?_
        refine lv_topi (fun z_39 ez_39 => ?_)
        obtain rfl : z_39 = nI (k + 1 + 1) := ez_39.trans (nI_add _ 1)
        refine va_put (D := E.1) (ci := 7) (v := .int (nI (k + 1 + 1))) (ty := .int) (C := RX6) (T := TX6) (N := 2) hx hb hts i_c_take_X6 tyX6 tyX6_ok nmX6 hown hK hP hD hS 0 rfl rfl 1 (by decide) (hts (.fieldLink RX6 15 "HushWatch$Tape" "length" "I") (List.mem_of_getElem? (i := 1) rfl)) (fun _ h9 => h9) rfl (by decide +kernel) rfl rfl (Nat.le_of_ble_eq_true rfl) dX6_take_47 (fun H locs hP hD hS => ?_)
        have hP : va_P E.1 vwCl [(t, .inr (7, [.ref b1, .int (nI (k + 1 + 1))])), (b1, .inl (E.2.2.1, 320, .inl f_38))] H := hP
        have hD : va_D A [(t, .inr (7, [.ref b1, .int (nI (k + 1 + 1))])), (b1, .inl (E.2.2.1, 320, .inl f_38))] := hD
        refine lv_iinc (v := 0) (lv' := [(2, .int 0), (3, .int z_29), (0, .ref t), (1, .int p0)]) hx hb dX6_take_50 hl (k := 1) rfl (by decide) (by decide) rfl (fun ls hl => ?_)
        refine lv_goto (tgt := 3) hx hb dX6_take_53 (by decide) ?_
        refine lv_iload_n hx hb dX6_take_3 rfl (lv_at hl 0 rfl) ?_
        refine lv_if_lt (tgt := 56) hx hb dX6_take_4 (by decide) (fun q => absurd q (by decide)) (fun _ => ?_)
        refine lv_iload_n hx hb dX6_take_7 rfl (lv_at hl 3 rfl) ?_
        refine lv_iload_n hx hb dX6_take_8 rfl (lv_at hl 0 rfl) ?_
        refine lv_iushr hx hb dX6_take_9 rfl ?_
        refine lv_topi (fun z_40 ez_40 => ?_)
        refine lv_sipush (v := 255) hx hb dX6_take_10 (by decide) ?_
        refine lv_iand hx hb dX6_take_13 ?_
        refine lv_topi (fun z_41 ez_41 => ?_)
        refine lv_istore_n (lv' := [(3, .int z_41), (2, .int 0), (0, .ref t), (1, .int p0)]) hx hb dX6_take_14 rfl hl (by decide) rfl (fun ls hl => ?_)
        refine lv_iload_n hx hb dX6_take_15 rfl (lv_at hl 0 rfl) ?_
        refine lv_if_eq (tgt := 50) hx hb dX6_take_16 (by decide) (fun c_42 => ?_) (fun c_42 => ?_)
        ·
          refine lv_iinc (v := -8) (lv' := [(2, .int (-8)), (3, .int z_41), (0, .ref t), (1, .int p0)]) hx hb dX6_take_50 hl (k := 1) rfl (by decide) (by decide) rfl (fun ls hl => ?_)
          refine lv_goto (tgt := 3) hx hb dX6_take_53 (by decide) ?_
          refine lv_iload_n hx hb dX6_take_3 rfl (lv_at hl 0 rfl) ?_
          refine lv_if_lt (tgt := 56) hx hb dX6_take_4 (by decide) (fun _ => ?_) (fun q => absurd (by decide) q)
          have n24 : nzN p0 24 = 0 := nz_zero 24 (by decide) ez_1.symm ez_2 c_3
          have n16 : nzN p0 16 = 1 := nz_pos 16 (by decide) ez_4.symm ez_5 c_6
          have n8 : nzN p0 8 = 1 := nz_pos 8 (by decide) ez_28.symm ez_29 c_30
          have n0 : nzN p0 0 = 0 := nz_zero 0 (by decide) ez_40.symm ez_41 c_42
          have e9 : k + 1 + 1 = k + nb p0 := by unfold nb; omega
          have hP : va_P E.1 vwCl [(t, .inr (7, [.ref b1, .int (nI (k + nb p0))])), (b1, .inl (E.2.2.1, 320, .inl f_38))] H := by rw [← e9]; exact hP
          have hD : va_D A [(t, .inr (7, [.ref b1, .int (nI (k + nb p0))])), (b1, .inl (E.2.2.1, 320, .inl f_38))] := by rw [← e9]; exact hD
          have hP9 := hP.sub (ws' := [(t, .inr (7, [.ref b1, .int (nI (k + nb p0))])), (b1, .inl (E.2.2.1, 320, .inl f_38))]) [0, 1] rfl
          have hD9 := hD.sub (ws' := [(t, .inr (7, [.ref b1, .int (nI (k + nb p0))])), (b1, .inl (E.2.2.1, 320, .inl f_38))]) [0, 1] (by decide) rfl
          exact W.vret hx hb hr (fun tt ht hW => ⟨⟨f_38, rfl, trivial, by rw [ht]; exact hP9, hD9⟩, hS.F ht⟩) hS.2.2 dX6_take_56
        ·
          refine lv_aload_n hx hb dX6_take_19 rfl (lv_at hl 2 rfl) ?_
          refine va_get (D := E.1) (ci := 7) (v := .int (nI (k + 1 + 1))) (C := RX6) (T := TX6) (N := 2) hx hb hts i_c_take_X6 hown hK hP 0 rfl rfl 1 (by decide) (hts (.fieldLink RX6 15 "HushWatch$Tape" "length" "I") (List.mem_of_getElem? (i := 1) rfl)) (fun _ h9 => h9) rfl dX6_take_20 ?_
          refine lv_sipush (v := 320) hx hb dX6_take_23 (by decide) ?_
          refine lv_icmp_ge (tgt := 50) hx hb dX6_take_26 (by decide) (fun q => absurd q (nI_n320 (by omega))) (fun _ => ?_)
          refine lv_aload_n hx hb dX6_take_29 rfl (lv_at hl 2 rfl) ?_
          refine va_get (D := E.1) (ci := 7) (v := .ref b1) (C := RX6) (T := TX6) (N := 2) hx hb hts i_c_take_X6 hown hK hP 0 rfl rfl 0 (by decide) (hts (.fieldLink RX6 11 "HushWatch$Tape" "bytes" "[B") (List.mem_of_getElem? (i := 2) rfl)) (fun _ h9 => h9) rfl dX6_take_30 ?_
          refine lv_aload_n hx hb dX6_take_33 rfl (lv_at hl 2 rfl) ?_
          refine va_get (D := E.1) (ci := 7) (v := .int (nI (k + 1 + 1))) (C := RX6) (T := TX6) (N := 2) hx hb hts i_c_take_X6 hown hK hP 0 rfl rfl 1 (by decide) (hts (.fieldLink RX6 15 "HushWatch$Tape" "length" "I") (List.mem_of_getElem? (i := 1) rfl)) (fun _ h9 => h9) rfl dX6_take_34 ?_
          refine lv_iload_n hx hb dX6_take_37 rfl (lv_at hl 0 rfl) ?_
          refine lv_i2b hx hb dX6_take_38 rfl ?_
          refine lv_topi (fun z_43 ez_43 => ?_)
          refine va_bast hx hb hK hP hD hS 1 1 rfl rfl (vp_in_nI (by omega) (by decide)) dX6_take_39 (fun H locs hP hD hS => ?_)
          have hP : va_P E.1 vwCl [(t, .inr (7, [.ref b1, .int (nI (k + 1 + 1))])), (b1, .inl (E.2.2.1, 320, .inl (upd f_38 (nI (k + 1 + 1) : Int32).toNatClampNeg (vp_nar .byte z_43))))] H := hP
          have hD : va_D A [(t, .inr (7, [.ref b1, .int (nI (k + 1 + 1))])), (b1, .inl (E.2.2.1, 320, .inl (upd f_38 (nI (k + 1 + 1) : Int32).toNatClampNeg (vp_nar .byte z_43))))] := hD
          generalize upd f_38 (nI (k + 1 + 1) : Int32).toNatClampNeg (vp_nar .byte z_43) = f_44 at hP hD
          refine lv_aload_n hx hb dX6_take_40 rfl (lv_at hl 2 rfl) ?_
          refine lv_dup hx hb dX6_take_41 rfl ?_
          refine va_get (D := E.1) (ci := 7) (v := .int (nI (k + 1 + 1))) (C := RX6) (T := TX6) (N := 2) hx hb hts i_c_take_X6 hown hK hP 0 rfl rfl 1 (by decide) (hts (.fieldLink RX6 15 "HushWatch$Tape" "length" "I") (List.mem_of_getElem? (i := 1) rfl)) (fun _ h9 => h9) rfl dX6_take_42 ?_
          refine lv_iconst (v := 1) hx hb dX6_take_45 (by decide) ?_
          refine lv_iadd hx hb dX6_take_46 ?_
          refine lv_topi (fun z_45 ez_45 => ?_)
          obtain rfl : z_45 = nI (k + 1 + 1 + 1) := ez_45.trans (nI_add _ 1)
          refine va_put (D := E.1) (ci := 7) (v := .int (nI (k + 1 + 1 + 1))) (ty := .int) (C := RX6) (T := TX6) (N := 2) hx hb hts i_c_take_X6 tyX6 tyX6_ok nmX6 hown hK hP hD hS 0 rfl rfl 1 (by decide) (hts (.fieldLink RX6 15 "HushWatch$Tape" "length" "I") (List.mem_of_getElem? (i := 1) rfl)) (fun _ h9 => h9) rfl (by decide +kernel) rfl rfl (Nat.le_of_ble_eq_true rfl) dX6_take_47 (fun H locs hP hD hS => ?_)
          have hP : va_P E.1 vwCl [(t, .inr (7, [.ref b1, .int (nI (k + 1 + 1 + 1))])), (b1, .inl (E.2.2.1, 320, .inl f_44))] H := hP
          have hD : va_D A [(t, .inr (7, [.ref b1, .int (nI (k + 1 + 1 + 1))])), (b1, .inl (E.2.2.1, 320, .inl f_44))] := hD
          refine lv_iinc (v := -8) (lv' := [(2, .int (-8)), (3, .int z_41), (0, .ref t), (1, .int p0)]) hx hb dX6_take_50 hl (k := 1) rfl (by decide) (by decide) rfl (fun ls hl => ?_)
          refine lv_goto (tgt := 3) hx hb dX6_take_53 (by decide) ?_
          refine lv_iload_n hx hb dX6_take_3 rfl (lv_at hl 0 rfl) ?_
          refine lv_if_lt (tgt := 56) hx hb dX6_take_4 (by decide) (fun _ => ?_) (fun q => absurd (by decide) q)
          have n24 : nzN p0 24 = 0 := nz_zero 24 (by decide) ez_1.symm ez_2 c_3
          have n16 : nzN p0 16 = 1 := nz_pos 16 (by decide) ez_4.symm ez_5 c_6
          have n8 : nzN p0 8 = 1 := nz_pos 8 (by decide) ez_28.symm ez_29 c_30
          have n0 : nzN p0 0 = 1 := nz_pos 0 (by decide) ez_40.symm ez_41 c_42
          have e9 : k + 1 + 1 + 1 = k + nb p0 := by unfold nb; omega
          have hP : va_P E.1 vwCl [(t, .inr (7, [.ref b1, .int (nI (k + nb p0))])), (b1, .inl (E.2.2.1, 320, .inl f_44))] H := by rw [← e9]; exact hP
          have hD : va_D A [(t, .inr (7, [.ref b1, .int (nI (k + nb p0))])), (b1, .inl (E.2.2.1, 320, .inl f_44))] := by rw [← e9]; exact hD
          have hP9 := hP.sub (ws' := [(t, .inr (7, [.ref b1, .int (nI (k + nb p0))])), (b1, .inl (E.2.2.1, 320, .inl f_44))]) [0, 1] rfl
          have hD9 := hD.sub (ws' := [(t, .inr (7, [.ref b1, .int (nI (k + nb p0))])), (b1, .inl (E.2.2.1, 320, .inl f_44))]) [0, 1] (by decide) rfl
          exact W.vret hx hb hr (fun tt ht hW => ⟨⟨f_44, rfl, trivial, by rw [ht]; exact hP9, hD9⟩, hS.F ht⟩) hS.2.2 dX6_take_56
  ·
    refine lv_aload_n hx hb dX6_take_19 rfl (lv_at hl 2 rfl) ?_
    refine va_get (D := E.1) (ci := 7) (v := .int (nI k)) (C := RX6) (T := TX6) (N := 2) hx hb hts i_c_take_X6 hown hK hP 0 rfl rfl 1 (by decide) (hts (.fieldLink RX6 15 "HushWatch$Tape" "length" "I") (List.mem_of_getElem? (i := 1) rfl)) (fun _ h9 => h9) rfl dX6_take_20 ?_
    refine lv_sipush (v := 320) hx hb dX6_take_23 (by decide) ?_
    refine lv_icmp_ge (tgt := 50) hx hb dX6_take_26 (by decide) (fun q => absurd q (nI_n320 (by omega))) (fun _ => ?_)
    refine lv_aload_n hx hb dX6_take_29 rfl (lv_at hl 2 rfl) ?_
    refine va_get (D := E.1) (ci := 7) (v := .ref b1) (C := RX6) (T := TX6) (N := 2) hx hb hts i_c_take_X6 hown hK hP 0 rfl rfl 0 (by decide) (hts (.fieldLink RX6 11 "HushWatch$Tape" "bytes" "[B") (List.mem_of_getElem? (i := 2) rfl)) (fun _ h9 => h9) rfl dX6_take_30 ?_
    refine lv_aload_n hx hb dX6_take_33 rfl (lv_at hl 2 rfl) ?_
    refine va_get (D := E.1) (ci := 7) (v := .int (nI k)) (C := RX6) (T := TX6) (N := 2) hx hb hts i_c_take_X6 hown hK hP 0 rfl rfl 1 (by decide) (hts (.fieldLink RX6 15 "HushWatch$Tape" "length" "I") (List.mem_of_getElem? (i := 1) rfl)) (fun _ h9 => h9) rfl dX6_take_34 ?_
    refine lv_iload_n hx hb dX6_take_37 rfl (lv_at hl 0 rfl) ?_
    refine lv_i2b hx hb dX6_take_38 rfl ?_
    refine lv_topi (fun z_46 ez_46 => ?_)
    refine va_bast hx hb hK hP hD hS 1 1 rfl rfl (vp_in_nI (by omega) (by decide)) dX6_take_39 (fun H locs hP hD hS => ?_)
    have hP : va_P E.1 vwCl [(t, .inr (7, [.ref b1, .int (nI k)])), (b1, .inl (E.2.2.1, 320, .inl (upd f (nI k : Int32).toNatClampNeg (vp_nar .byte z_46))))] H := hP
    have hD : va_D A [(t, .inr (7, [.ref b1, .int (nI k)])), (b1, .inl (E.2.2.1, 320, .inl (upd f (nI k : Int32).toNatClampNeg (vp_nar .byte z_46))))] := hD
    generalize upd f (nI k : Int32).toNatClampNeg (vp_nar .byte z_46) = f_47 at hP hD
    refine lv_aload_n hx hb dX6_take_40 rfl (lv_at hl 2 rfl) ?_
    refine lv_dup hx hb dX6_take_41 rfl ?_
    refine va_get (D := E.1) (ci := 7) (v := .int (nI k)) (C := RX6) (T := TX6) (N := 2) hx hb hts i_c_take_X6 hown hK hP 0 rfl rfl 1 (by decide) (hts (.fieldLink RX6 15 "HushWatch$Tape" "length" "I") (List.mem_of_getElem? (i := 1) rfl)) (fun _ h9 => h9) rfl dX6_take_42 ?_
    refine lv_iconst (v := 1) hx hb dX6_take_45 (by decide) ?_
    refine lv_iadd hx hb dX6_take_46 ?_
    refine lv_topi (fun z_48 ez_48 => ?_)
    obtain rfl : z_48 = nI (k + 1) := ez_48.trans (nI_add _ 1)
    refine va_put (D := E.1) (ci := 7) (v := .int (nI (k + 1))) (ty := .int) (C := RX6) (T := TX6) (N := 2) hx hb hts i_c_take_X6 tyX6 tyX6_ok nmX6 hown hK hP hD hS 0 rfl rfl 1 (by decide) (hts (.fieldLink RX6 15 "HushWatch$Tape" "length" "I") (List.mem_of_getElem? (i := 1) rfl)) (fun _ h9 => h9) rfl (by decide +kernel) rfl rfl (Nat.le_of_ble_eq_true rfl) dX6_take_47 (fun H locs hP hD hS => ?_)
    have hP : va_P E.1 vwCl [(t, .inr (7, [.ref b1, .int (nI (k + 1))])), (b1, .inl (E.2.2.1, 320, .inl f_47))] H := hP
    have hD : va_D A [(t, .inr (7, [.ref b1, .int (nI (k + 1))])), (b1, .inl (E.2.2.1, 320, .inl f_47))] := hD
    refine lv_iinc (v := 16) (lv' := [(2, .int 16), (3, .int z_2), (0, .ref t), (1, .int p0)]) hx hb dX6_take_50 hl (k := 1) rfl (by decide) (by decide) rfl (fun ls hl => ?_)
    refine lv_goto (tgt := 3) hx hb dX6_take_53 (by decide) ?_
    refine lv_iload_n hx hb dX6_take_3 rfl (lv_at hl 0 rfl) ?_
    refine lv_if_lt (tgt := 56) hx hb dX6_take_4 (by decide) (fun q => absurd q (by decide)) (fun _ => ?_)
    refine lv_iload_n hx hb dX6_take_7 rfl (lv_at hl 3 rfl) ?_
    refine lv_iload_n hx hb dX6_take_8 rfl (lv_at hl 0 rfl) ?_
    refine lv_iushr hx hb dX6_take_9 rfl ?_
    refine lv_topi (fun z_49 ez_49 => ?_)
    refine lv_sipush (v := 255) hx hb dX6_take_10 (by decide) ?_
    refine lv_iand hx hb dX6_take_13 ?_
    refine lv_topi (fun z_50 ez_50 => ?_)
    refine lv_istore_n (lv' := [(3, .int z_50), (2, .int 16), (0, .ref t), (1, .int p0)]) hx hb dX6_take_14 rfl hl (by decide) rfl (fun ls hl => ?_)
    refine lv_iload_n hx hb dX6_take_15 rfl (lv_at hl 0 rfl) ?_
    refine lv_if_eq (tgt := 50) hx hb dX6_take_16 (by decide) (fun c_51 => ?_) (fun c_51 => ?_)
    ·
      refine lv_iinc (v := 8) (lv' := [(2, .int 8), (3, .int z_50), (0, .ref t), (1, .int p0)]) hx hb dX6_take_50 hl (k := 1) rfl (by decide) (by decide) rfl (fun ls hl => ?_)
      refine lv_goto (tgt := 3) hx hb dX6_take_53 (by decide) ?_
      refine lv_iload_n hx hb dX6_take_3 rfl (lv_at hl 0 rfl) ?_
      refine lv_if_lt (tgt := 56) hx hb dX6_take_4 (by decide) (fun q => absurd q (by decide)) (fun _ => ?_)
      refine lv_iload_n hx hb dX6_take_7 rfl (lv_at hl 3 rfl) ?_
      refine lv_iload_n hx hb dX6_take_8 rfl (lv_at hl 0 rfl) ?_
      refine lv_iushr hx hb dX6_take_9 rfl ?_
      refine lv_topi (fun z_52 ez_52 => ?_)
      refine lv_sipush (v := 255) hx hb dX6_take_10 (by decide) ?_
      refine lv_iand hx hb dX6_take_13 ?_
      refine lv_topi (fun z_53 ez_53 => ?_)
      refine lv_istore_n (lv' := [(3, .int z_53), (2, .int 8), (0, .ref t), (1, .int p0)]) hx hb dX6_take_14 rfl hl (by decide) rfl (fun ls hl => ?_)
      refine lv_iload_n hx hb dX6_take_15 rfl (lv_at hl 0 rfl) ?_
      refine lv_if_eq (tgt := 50) hx hb dX6_take_16 (by decide) (fun c_54 => ?_) (fun c_54 => ?_)
      ·
        refine lv_iinc (v := 0) (lv' := [(2, .int 0), (3, .int z_53), (0, .ref t), (1, .int p0)]) hx hb dX6_take_50 hl (k := 1) rfl (by decide) (by decide) rfl (fun ls hl => ?_)
        refine lv_goto (tgt := 3) hx hb dX6_take_53 (by decide) ?_
        refine lv_iload_n hx hb dX6_take_3 rfl (lv_at hl 0 rfl) ?_
        refine lv_if_lt (tgt := 56) hx hb dX6_take_4 (by decide) (fun q => absurd q (by decide)) (fun _ => ?_)
        refine lv_iload_n hx hb dX6_take_7 rfl (lv_at hl 3 rfl) ?_
        refine lv_iload_n hx hb dX6_take_8 rfl (lv_at hl 0 rfl) ?_
        refine lv_iushr hx hb dX6_take_9 rfl ?_
        refine lv_topi (fun z_55 ez_55 => ?_)
        refine lv_sipush (v := 255) hx hb dX6_take_10 (by decide) ?_
        refine lv_iand hx hb dX6_take_13 ?_
        refine lv_topi (fun z_56 ez_56 => ?_)
        refine lv_istore_n (lv' := [(3, .int z_56), (2, .int 0), (0, .ref t), (1, .int p0)]) hx hb dX6_take_14 rfl hl (by decide) rfl (fun ls hl => ?_)
        refine lv_iload_n hx hb dX6_take_15 rfl (lv_at hl 0 rfl) ?_
        refine lv_if_eq (tgt := 50) hx hb dX6_take_16 (by decide) (fun c_57 => ?_) (fun c_57 => ?_)
        ·
          refine lv_iinc (v := -8) (lv' := [(2, .int (-8)), (3, .int z_56), (0, .ref t), (1, .int p0)]) hx hb dX6_take_50 hl (k := 1) rfl (by decide) (by decide) rfl (fun ls hl => ?_)
          refine lv_goto (tgt := 3) hx hb dX6_take_53 (by decide) ?_
          refine lv_iload_n hx hb dX6_take_3 rfl (lv_at hl 0 rfl) ?_
          refine lv_if_lt (tgt := 56) hx hb dX6_take_4 (by decide) (fun _ => ?_) (fun q => absurd (by decide) q)
          have n24 : nzN p0 24 = 1 := nz_pos 24 (by decide) ez_1.symm ez_2 c_3
          have n16 : nzN p0 16 = 0 := nz_zero 16 (by decide) ez_49.symm ez_50 c_51
          have n8 : nzN p0 8 = 0 := nz_zero 8 (by decide) ez_52.symm ez_53 c_54
          have n0 : nzN p0 0 = 0 := nz_zero 0 (by decide) ez_55.symm ez_56 c_57
          have e9 : k + 1 = k + nb p0 := by unfold nb; omega
          have hP : va_P E.1 vwCl [(t, .inr (7, [.ref b1, .int (nI (k + nb p0))])), (b1, .inl (E.2.2.1, 320, .inl f_47))] H := by rw [← e9]; exact hP
          have hD : va_D A [(t, .inr (7, [.ref b1, .int (nI (k + nb p0))])), (b1, .inl (E.2.2.1, 320, .inl f_47))] := by rw [← e9]; exact hD
          have hP9 := hP.sub (ws' := [(t, .inr (7, [.ref b1, .int (nI (k + nb p0))])), (b1, .inl (E.2.2.1, 320, .inl f_47))]) [0, 1] rfl
          have hD9 := hD.sub (ws' := [(t, .inr (7, [.ref b1, .int (nI (k + nb p0))])), (b1, .inl (E.2.2.1, 320, .inl f_47))]) [0, 1] (by decide) rfl
          exact W.vret hx hb hr (fun tt ht hW => ⟨⟨f_47, rfl, trivial, by rw [ht]; exact hP9, hD9⟩, hS.F ht⟩) hS.2.2 dX6_take_56
        ·
          refine lv_aload_n hx hb dX6_take_19 rfl (lv_at hl 2 rfl) ?_
          refine va_get (D := E.1) (ci := 7) (v := .int (nI (k + 1))) (C := RX6) (T := TX6) (N := 2) hx hb hts i_c_take_X6 hown hK hP 0 rfl rfl 1 (by decide) (hts (.fieldLink RX6 15 "HushWatch$Tape" "length" "I") (List.mem_of_getElem? (i := 1) rfl)) (fun _ h9 => h9) rfl dX6_take_20 ?_
          refine lv_sipush (v := 320) hx hb dX6_take_23 (by decide) ?_
          refine lv_icmp_ge (tgt := 50) hx hb dX6_take_26 (by decide) (fun q => absurd q (nI_n320 (by omega))) (fun _ => ?_)
          refine lv_aload_n hx hb dX6_take_29 rfl (lv_at hl 2 rfl) ?_
          refine va_get (D := E.1) (ci := 7) (v := .ref b1) (C := RX6) (T := TX6) (N := 2) hx hb hts i_c_take_X6 hown hK hP 0 rfl rfl 0 (by decide) (hts (.fieldLink RX6 11 "HushWatch$Tape" "bytes" "[B") (List.mem_of_getElem? (i := 2) rfl)) (fun _ h9 => h9) rfl dX6_take_30 ?_
          refine lv_aload_n hx hb dX6_take_33 rfl (lv_at hl 2 rfl) ?_
          refine va_get (D := E.1) (ci := 7) (v := .int (nI (k + 1))) (C := RX6) (T := TX6) (N := 2) hx hb hts i_c_take_X6 hown hK hP 0 rfl rfl 1 (by decide) (hts (.fieldLink RX6 15 "HushWatch$Tape" "length" "I") (List.mem_of_getElem? (i := 1) rfl)) (fun _ h9 => h9) rfl dX6_take_34 ?_
          refine lv_iload_n hx hb dX6_take_37 rfl (lv_at hl 0 rfl) ?_
          refine lv_i2b hx hb dX6_take_38 rfl ?_
          refine lv_topi (fun z_58 ez_58 => ?_)
          refine va_bast hx hb hK hP hD hS 1 1 rfl rfl (vp_in_nI (by omega) (by decide)) dX6_take_39 (fun H locs hP hD hS => ?_)
          have hP : va_P E.1 vwCl [(t, .inr (7, [.ref b1, .int (nI (k + 1))])), (b1, .inl (E.2.2.1, 320, .inl (upd f_47 (nI (k + 1) : Int32).toNatClampNeg (vp_nar .byte z_58))))] H := hP
          have hD : va_D A [(t, .inr (7, [.ref b1, .int (nI (k + 1))])), (b1, .inl (E.2.2.1, 320, .inl (upd f_47 (nI (k + 1) : Int32).toNatClampNeg (vp_nar .byte z_58))))] := hD
          generalize upd f_47 (nI (k + 1) : Int32).toNatClampNeg (vp_nar .byte z_58) = f_59 at hP hD
          refine lv_aload_n hx hb dX6_take_40 rfl (lv_at hl 2 rfl) ?_
          refine lv_dup hx hb dX6_take_41 rfl ?_
          refine va_get (D := E.1) (ci := 7) (v := .int (nI (k + 1))) (C := RX6) (T := TX6) (N := 2) hx hb hts i_c_take_X6 hown hK hP 0 rfl rfl 1 (by decide) (hts (.fieldLink RX6 15 "HushWatch$Tape" "length" "I") (List.mem_of_getElem? (i := 1) rfl)) (fun _ h9 => h9) rfl dX6_take_42 ?_
          refine lv_iconst (v := 1) hx hb dX6_take_45 (by decide) ?_
          refine lv_iadd hx hb dX6_take_46 ?_
          refine lv_topi (fun z_60 ez_60 => ?_)
          obtain rfl : z_60 = nI (k + 1 + 1) := ez_60.trans (nI_add _ 1)
          refine va_put (D := E.1) (ci := 7) (v := .int (nI (k + 1 + 1))) (ty := .int) (C := RX6) (T := TX6) (N := 2) hx hb hts i_c_take_X6 tyX6 tyX6_ok nmX6 hown hK hP hD hS 0 rfl rfl 1 (by decide) (hts (.fieldLink RX6 15 "HushWatch$Tape" "length" "I") (List.mem_of_getElem? (i := 1) rfl)) (fun _ h9 => h9) rfl (by decide +kernel) rfl rfl (Nat.le_of_ble_eq_true rfl) dX6_take_47 (fun H locs hP hD hS => ?_)
          have hP : va_P E.1 vwCl [(t, .inr (7, [.ref b1, .int (nI (k + 1 + 1))])), (b1, .inl (E.2.2.1, 320, .inl f_59))] H := hP
          have hD : va_D A [(t, .inr (7, [.ref b1, .int (nI (k + 1 + 1))])), (b1, .inl (E.2.2.1, 320, .inl f_59))] := hD
          refine lv_iinc (v := -8) (lv' := [(2, .int (-8)), (3, .int z_56), (0, .ref t), (1, .int p0)]) hx hb dX6_take_50 hl (k := 1) rfl (by decide) (by decide) rfl (fun ls hl => ?_)
          refine lv_goto (tgt := 3) hx hb dX6_take_53 (by decide) ?_
          refine lv_iload_n hx hb dX6_take_3 rfl (lv_at hl 0 rfl) ?_
          refine lv_if_lt (tgt := 56) hx hb dX6_take_4 (by decide) (fun _ => ?_) (fun q => absurd (by decide) q)
          have n24 : nzN p0 24 = 1 := nz_pos 24 (by decide) ez_1.symm ez_2 c_3
          have n16 : nzN p0 16 = 0 := nz_zero 16 (by decide) ez_49.symm ez_50 c_51
          have n8 : nzN p0 8 = 0 := nz_zero 8 (by decide) ez_52.symm ez_53 c_54
          have n0 : nzN p0 0 = 1 := nz_pos 0 (by decide) ez_55.symm ez_56 c_57
          have e9 : k + 1 + 1 = k + nb p0 := by unfold nb; omega
          have hP : va_P E.1 vwCl [(t, .inr (7, [.ref b1, .int (nI (k + nb p0))])), (b1, .inl (E.2.2.1, 320, .inl f_59))] H := by rw [← e9]; exact hP
          have hD : va_D A [(t, .inr (7, [.ref b1, .int (nI (k + nb p0))])), (b1, .inl (E.2.2.1, 320, .inl f_59))] := by rw [← e9]; exact hD
          have hP9 := hP.sub (ws' := [(t, .inr (7, [.ref b1, .int (nI (k + nb p0))])), (b1, .inl (E.2.2.1, 320, .inl f_59))]) [0, 1] rfl
          have hD9 := hD.sub (ws' := [(t, .inr (7, [.ref b1, .int (nI (k + nb p0))])), (b1, .inl (E.2.2.1, 320, .inl f_59))]) [0, 1] (by decide) rfl
          exact W.vret hx hb hr (fun tt ht hW => ⟨⟨f_59, rfl, trivial, by rw [ht]; exact hP9, hD9⟩, hS.F ht⟩) hS.2.2 dX6_take_56
      ·
        refine lv_aload_n hx hb dX6_take_19 rfl (lv_at hl 2 rfl) ?_
        refine va_get (D := E.1) (ci := 7) (v := .int (nI (k + 1))) (C := RX6) (T := TX6) (N := 2) hx hb hts i_c_take_X6 hown hK hP 0 rfl rfl 1 (by decide) (hts (.fieldLink RX6 15 "HushWatch$Tape" "length" "I") (List.mem_of_getElem? (i := 1) rfl)) (fun _ h9 => h9) rfl dX6_take_20 ?_
        refine lv_sipush (v := 320) hx hb dX6_take_23 (by decide) ?_
        refine lv_icmp_ge (tgt := 50) hx hb dX6_take_26 (by decide) (fun q => absurd q (nI_n320 (by omega))) (fun _ => ?_)
        refine lv_aload_n hx hb dX6_take_29 rfl (lv_at hl 2 rfl) ?_
        refine va_get (D := E.1) (ci := 7) (v := .ref b1) (C := RX6) (T := TX6) (N := 2) hx hb hts i_c_take_X6 hown hK hP 0 rfl rfl 0 (by decide) (hts (.fieldLink RX6 11 "HushWatch$Tape" "bytes" "[B") (List.mem_of_getElem? (i := 2) rfl)) (fun _ h9 => h9) rfl dX6_take_30 ?_
        refine lv_aload_n hx hb dX6_take_33 rfl (lv_at hl 2 rfl) ?_
        refine va_get (D := E.1) (ci := 7) (v := .int (nI (k + 1))) (C := RX6) (T := TX6) (N := 2) hx hb hts i_c_take_X6 hown hK hP 0 rfl rfl 1 (by decide) (hts (.fieldLink RX6 15 "HushWatch$Tape" "length" "I") (List.mem_of_getElem? (i := 1) rfl)) (fun _ h9 => h9) rfl dX6_take_34 ?_
        refine lv_iload_n hx hb dX6_take_37 rfl (lv_at hl 0 rfl) ?_
        refine lv_i2b hx hb dX6_take_38 rfl ?_
        refine lv_topi (fun z_61 ez_61 => ?_)
        refine va_bast hx hb hK hP hD hS 1 1 rfl rfl (vp_in_nI (by omega) (by decide)) dX6_take_39 (fun H locs hP hD hS => ?_)
        have hP : va_P E.1 vwCl [(t, .inr (7, [.ref b1, .int (nI (k + 1))])), (b1, .inl (E.2.2.1, 320, .inl (upd f_47 (nI (k + 1) : Int32).toNatClampNeg (vp_nar .byte z_61))))] H := hP
        have hD : va_D A [(t, .inr (7, [.ref b1, .int (nI (k + 1))])), (b1, .inl (E.2.2.1, 320, .inl (upd f_47 (nI (k + 1) : Int32).toNatClampNeg (vp_nar .byte z_61))))] := hD
        generalize upd f_47 (nI (k + 1) : Int32).toNatClampNeg (vp_nar .byte z_61) = f_62 at hP hD
        refine lv_aload_n hx hb dX6_take_40 rfl (lv_at hl 2 rfl) ?_
        refine lv_dup hx hb dX6_take_41 rfl ?_
        refine va_get (D := E.1) (ci := 7) (v := .int (nI (k + 1))) (C := RX6) (T := TX6) (N := 2) hx hb hts i_c_take_X6 hown hK hP 0 rfl rfl 1 (by decide) (hts (.fieldLink RX6 15 "HushWatch$Tape" "length" "I") (List.mem_of_getElem? (i := 1) rfl)) (fun _ h9 => h9) rfl dX6_take_42 ?_
        refine lv_iconst (v := 1) hx hb dX6_take_45 (by decide) ?_
        refine lv_iadd hx hb dX6_take_46 ?_
        refine lv_topi (fun z_63 ez_63 => ?_)
        obtain rfl : z_63 = nI (k + 1 + 1) := ez_63.trans (nI_add _ 1)
        refine va_put (D := E.1) (ci := 7) (v := .int (nI (k + 1 + 1))) (ty := .int) (C := RX6) (T := TX6) (N := 2) hx hb hts i_c_take_X6 tyX6 tyX6_ok nmX6 hown hK hP hD hS 0 rfl rfl 1 (by decide) (hts (.fieldLink RX6 15 "HushWatch$Tape" "length" "I") (List.mem_of_getElem? (i := 1) rfl)) (fun _ h9 => h9) rfl (by decide +kernel) rfl rfl (Nat.le_of_ble_eq_true rfl) dX6_take_47 (fun H locs hP hD hS => ?_)
        have hP : va_P E.1 vwCl [(t, .inr (7, [.ref b1, .int (nI (k + 1 + 1))])), (b1, .inl (E.2.2.1, 320, .inl f_62))] H := hP
        have hD : va_D A [(t, .inr (7, [.ref b1, .int (nI (k + 1 + 1))])), (b1, .inl (E.2.2.1, 320, .inl f_62))] := hD
        refine lv_iinc (v := 0) (lv' := [(2, .int 0), (3, .int z_53), (0, .ref t), (1, .int p0)]) hx hb dX6_take_50 hl (k := 1) rfl (by decide) (by decide) rfl (fun ls hl => ?_)
        refine lv_goto (tgt := 3) hx hb dX6_take_53 (by decide) ?_
        refine lv_iload_n hx hb dX6_take_3 rfl (lv_at hl 0 rfl) ?_
        refine lv_if_lt (tgt := 56) hx hb dX6_take_4 (by decide) (fun q => absurd q (by decide)) (fun _ => ?_)
        refine lv_iload_n hx hb dX6_take_7 rfl (lv_at hl 3 rfl) ?_
        refine lv_iload_n hx hb dX6_take_8 rfl (lv_at hl 0 rfl) ?_
        refine lv_iushr hx hb dX6_take_9 rfl ?_
        refine lv_topi (fun z_64 ez_64 => ?_)
        refine lv_sipush (v := 255) hx hb dX6_take_10 (by decide) ?_
        refine lv_iand hx hb dX6_take_13 ?_
        refine lv_topi (fun z_65 ez_65 => ?_)
        refine lv_istore_n (lv' := [(3, .int z_65), (2, .int 0), (0, .ref t), (1, .int p0)]) hx hb dX6_take_14 rfl hl (by decide) rfl (fun ls hl => ?_)
        refine lv_iload_n hx hb dX6_take_15 rfl (lv_at hl 0 rfl) ?_
        refine lv_if_eq (tgt := 50) hx hb dX6_take_16 (by decide) (fun c_66 => ?_) (fun c_66 => ?_)
        ·
          refine lv_iinc (v := -8) (lv' := [(2, .int (-8)), (3, .int z_65), (0, .ref t), (1, .int p0)]) hx hb dX6_take_50 hl (k := 1) rfl (by decide) (by decide) rfl (fun ls hl => ?_)
          refine lv_goto (tgt := 3) hx hb dX6_take_53 (by decide) ?_
          refine lv_iload_n hx hb dX6_take_3 rfl (lv_at hl 0 rfl) ?_
          refine lv_if_lt (tgt := 56) hx hb dX6_take_4 (by decide) (fun _ => ?_) (fun q => absurd (by decide) q)
          have n24 : nzN p0 24 = 1 := nz_pos 24 (by decide) ez_1.symm ez_2 c_3
          have n16 : nzN p0 16 = 0 := nz_zero 16 (by decide) ez_49.symm ez_50 c_51
          have n8 : nzN p0 8 = 1 := nz_pos 8 (by decide) ez_52.symm ez_53 c_54
          have n0 : nzN p0 0 = 0 := nz_zero 0 (by decide) ez_64.symm ez_65 c_66
          have e9 : k + 1 + 1 = k + nb p0 := by unfold nb; omega
          have hP : va_P E.1 vwCl [(t, .inr (7, [.ref b1, .int (nI (k + nb p0))])), (b1, .inl (E.2.2.1, 320, .inl f_62))] H := by rw [← e9]; exact hP
          have hD : va_D A [(t, .inr (7, [.ref b1, .int (nI (k + nb p0))])), (b1, .inl (E.2.2.1, 320, .inl f_62))] := by rw [← e9]; exact hD
          have hP9 := hP.sub (ws' := [(t, .inr (7, [.ref b1, .int (nI (k + nb p0))])), (b1, .inl (E.2.2.1, 320, .inl f_62))]) [0, 1] rfl
          have hD9 := hD.sub (ws' := [(t, .inr (7, [.ref b1, .int (nI (k + nb p0))])), (b1, .inl (E.2.2.1, 320, .inl f_62))]) [0, 1] (by decide) rfl
          exact W.vret hx hb hr (fun tt ht hW => ⟨⟨f_62, rfl, trivial, by rw [ht]; exact hP9, hD9⟩, hS.F ht⟩) hS.2.2 dX6_take_56
        ·
          refine lv_aload_n hx hb dX6_take_19 rfl (lv_at hl 2 rfl) ?_
          refine va_get (D := E.1) (ci := 7) (v := .int (nI (k + 1 + 1))) (C := RX6) (T := TX6) (N := 2) hx hb hts i_c_take_X6 hown hK hP 0 rfl rfl 1 (by decide) (hts (.fieldLink RX6 15 "HushWatch$Tape" "length" "I") (List.mem_of_getElem? (i := 1) rfl)) (fun _ h9 => h9) rfl dX6_take_20 ?_
          refine lv_sipush (v := 320) hx hb dX6_take_23 (by decide) ?_
          refine lv_icmp_ge (tgt := 50) hx hb dX6_take_26 (by decide) (fun q => absurd q (nI_n320 (by omega))) (fun _ => ?_)
          refine lv_aload_n hx hb dX6_take_29 rfl (lv_at hl 2 rfl) ?_
          refine va_get (D := E.1) (ci := 7) (v := .ref b1) (C := RX6) (T := TX6) (N := 2) hx hb hts i_c_take_X6 hown hK hP 0 rfl rfl 0 (by decide) (hts (.fieldLink RX6 11 "HushWatch$Tape" "bytes" "[B") (List.mem_of_getElem? (i := 2) rfl)) (fun _ h9 => h9) rfl dX6_take_30 ?_
          refine lv_aload_n hx hb dX6_take_33 rfl (lv_at hl 2 rfl) ?_
          refine va_get (D := E.1) (ci := 7) (v := .int (nI (k + 1 + 1))) (C := RX6) (T := TX6) (N := 2) hx hb hts i_c_take_X6 hown hK hP 0 rfl rfl 1 (by decide) (hts (.fieldLink RX6 15 "HushWatch$Tape" "length" "I") (List.mem_of_getElem? (i := 1) rfl)) (fun _ h9 => h9) rfl dX6_take_34 ?_
          refine lv_iload_n hx hb dX6_take_37 rfl (lv_at hl 0 rfl) ?_
          refine lv_i2b hx hb dX6_take_38 rfl ?_
          refine lv_topi (fun z_67 ez_67 => ?_)
          refine va_bast hx hb hK hP hD hS 1 1 rfl rfl (vp_in_nI (by omega) (by decide)) dX6_take_39 (fun H locs hP hD hS => ?_)
          have hP : va_P E.1 vwCl [(t, .inr (7, [.ref b1, .int (nI (k + 1 + 1))])), (b1, .inl (E.2.2.1, 320, .inl (upd f_62 (nI (k + 1 + 1) : Int32).toNatClampNeg (vp_nar .byte z_67))))] H := hP
          have hD : va_D A [(t, .inr (7, [.ref b1, .int (nI (k + 1 + 1))])), (b1, .inl (E.2.2.1, 320, .inl (upd f_62 (nI (k + 1 + 1) : Int32).toNatClampNeg (vp_nar .byte z_67))))] := hD
          generalize upd f_62 (nI (k + 1 + 1) : Int32).toNatClampNeg (vp_nar .byte z_67) = f_68 at hP hD
          refine lv_aload_n hx hb dX6_take_40 rfl (lv_at hl 2 rfl) ?_
          refine lv_dup hx hb dX6_take_41 rfl ?_
          refine va_get (D := E.1) (ci := 7) (v := .int (nI (k + 1 + 1))) (C := RX6) (T := TX6) (N := 2) hx hb hts i_c_take_X6 hown hK hP 0 rfl rfl 1 (by decide) (hts (.fieldLink RX6 15 "HushWatch$Tape" "length" "I") (List.mem_of_getElem? (i := 1) rfl)) (fun _ h9 => h9) rfl dX6_take_42 ?_
          refine lv_iconst (v := 1) hx hb dX6_take_45 (by decide) ?_
          refine lv_iadd hx hb dX6_take_46 ?_
          refine lv_topi (fun z_69 ez_69 => ?_)
          obtain rfl : z_69 = nI (k + 1 + 1 + 1) := ez_69.trans (nI_add _ 1)
          refine va_put (D := E.1) (ci := 7) (v := .int (nI (k + 1 + 1 + 1))) (ty := .int) (C := RX6) (T := TX6) (N := 2) hx hb hts i_c_take_X6 tyX6 tyX6_ok nmX6 hown hK hP hD hS 0 rfl rfl 1 (by decide) (hts (.fieldLink RX6 15 "HushWatch$Tape" "length" "I") (List.mem_of_getElem? (i := 1) rfl)) (fun _ h9 => h9) rfl (by decide +kernel) rfl rfl (Nat.le_of_ble_eq_true rfl) dX6_take_47 (fun H locs hP hD hS => ?_)
          have hP : va_P E.1 vwCl [(t, .inr (7, [.ref b1, .int (nI (k + 1 + 1 + 1))])), (b1, .inl (E.2.2.1, 320, .inl f_68))] H := hP
          have hD : va_D A [(t, .inr (7, [.ref b1, .int (nI (k + 1 + 1 + 1))])), (b1, .inl (E.2.2.1, 320, .inl f_68))] := hD
          refine lv_iinc (v := -8) (lv' := [(2, .int (-8)), (3, .int z_65), (0, .ref t), (1, .int p0)]) hx hb dX6_take_50 hl (k := 1) rfl (by decide) (by decide) rfl (fun ls hl => ?_)
          refine lv_goto (tgt := 3) hx hb dX6_take_53 (by decide) ?_
          refine lv_iload_n hx hb dX6_take_3 rfl (lv_at hl 0 rfl) ?_
          refine lv_if_lt (tgt := 56) hx hb dX6_take_4 (by decide) (fun _ => ?_) (fun q => absurd (by decide) q)
          have n24 : nzN p0 24 = 1 := nz_pos 24 (by decide) ez_1.symm ez_2 c_3
          have n16 : nzN p0 16 = 0 := nz_zero 16 (by decide) ez_49.symm ez_50 c_51
          have n8 : nzN p0 8 = 1 := nz_pos 8 (by decide) ez_52.symm ez_53 c_54
          have n0 : nzN p0 0 = 1 := nz_pos 0 (by decide) ez_64.symm ez_65 c_66
          have e9 : k + 1 + 1 + 1 = k + nb p0 := by unfold nb; omega
          have hP : va_P E.1 vwCl [(t, .inr (7, [.ref b1, .int (nI (k + nb p0))])), (b1, .inl (E.2.2.1, 320, .inl f_68))] H := by rw [← e9]; exact hP
          have hD : va_D A [(t, .inr (7, [.ref b1, .int (nI (k + nb p0))])), (b1, .inl (E.2.2.1, 320, .inl f_68))] := by rw [← e9]; exact hD
          have hP9 := hP.sub (ws' := [(t, .inr (7, [.ref b1, .int (nI (k + nb p0))])), (b1, .inl (E.2.2.1, 320, .inl f_68))]) [0, 1] rfl
          have hD9 := hD.sub (ws' := [(t, .inr (7, [.ref b1, .int (nI (k + nb p0))])), (b1, .inl (E.2.2.1, 320, .inl f_68))]) [0, 1] (by decide) rfl
          exact W.vret hx hb hr (fun tt ht hW => ⟨⟨f_68, rfl, trivial, by rw [ht]; exact hP9, hD9⟩, hS.F ht⟩) hS.2.2 dX6_take_56
    ·
      refine lv_aload_n hx hb dX6_take_19 rfl (lv_at hl 2 rfl) ?_
      refine va_get (D := E.1) (ci := 7) (v := .int (nI (k + 1))) (C := RX6) (T := TX6) (N := 2) hx hb hts i_c_take_X6 hown hK hP 0 rfl rfl 1 (by decide) (hts (.fieldLink RX6 15 "HushWatch$Tape" "length" "I") (List.mem_of_getElem? (i := 1) rfl)) (fun _ h9 => h9) rfl dX6_take_20 ?_
      refine lv_sipush (v := 320) hx hb dX6_take_23 (by decide) ?_
      refine lv_icmp_ge (tgt := 50) hx hb dX6_take_26 (by decide) (fun q => absurd q (nI_n320 (by omega))) (fun _ => ?_)
      refine lv_aload_n hx hb dX6_take_29 rfl (lv_at hl 2 rfl) ?_
      refine va_get (D := E.1) (ci := 7) (v := .ref b1) (C := RX6) (T := TX6) (N := 2) hx hb hts i_c_take_X6 hown hK hP 0 rfl rfl 0 (by decide) (hts (.fieldLink RX6 11 "HushWatch$Tape" "bytes" "[B") (List.mem_of_getElem? (i := 2) rfl)) (fun _ h9 => h9) rfl dX6_take_30 ?_
      refine lv_aload_n hx hb dX6_take_33 rfl (lv_at hl 2 rfl) ?_
      refine va_get (D := E.1) (ci := 7) (v := .int (nI (k + 1))) (C := RX6) (T := TX6) (N := 2) hx hb hts i_c_take_X6 hown hK hP 0 rfl rfl 1 (by decide) (hts (.fieldLink RX6 15 "HushWatch$Tape" "length" "I") (List.mem_of_getElem? (i := 1) rfl)) (fun _ h9 => h9) rfl dX6_take_34 ?_
      refine lv_iload_n hx hb dX6_take_37 rfl (lv_at hl 0 rfl) ?_
      refine lv_i2b hx hb dX6_take_38 rfl ?_
      refine lv_topi (fun z_70 ez_70 => ?_)
      refine va_bast hx hb hK hP hD hS 1 1 rfl rfl (vp_in_nI (by omega) (by decide)) dX6_take_39 (fun H locs hP hD hS => ?_)
      have hP : va_P E.1 vwCl [(t, .inr (7, [.ref b1, .int (nI (k + 1))])), (b1, .inl (E.2.2.1, 320, .inl (upd f_47 (nI (k + 1) : Int32).toNatClampNeg (vp_nar .byte z_70))))] H := hP
      have hD : va_D A [(t, .inr (7, [.ref b1, .int (nI (k + 1))])), (b1, .inl (E.2.2.1, 320, .inl (upd f_47 (nI (k + 1) : Int32).toNatClampNeg (vp_nar .byte z_70))))] := hD
      generalize upd f_47 (nI (k + 1) : Int32).toNatClampNeg (vp_nar .byte z_70) = f_71 at hP hD
      refine lv_aload_n hx hb dX6_take_40 rfl (lv_at hl 2 rfl) ?_
      refine lv_dup hx hb dX6_take_41 rfl ?_
      refine va_get (D := E.1) (ci := 7) (v := .int (nI (k + 1))) (C := RX6) (T := TX6) (N := 2) hx hb hts i_c_take_X6 hown hK hP 0 rfl rfl 1 (by decide) (hts (.fieldLink RX6 15 "HushWatch$Tape" "length" "I") (List.mem_of_getElem? (i := 1) rfl)) (fun _ h9 => h9) rfl dX6_take_42 ?_
      refine lv_iconst (v := 1) hx hb dX6_take_45 (by decide) ?_
      refine lv_iadd hx hb dX6_take_46 ?_
      refine lv_topi (fun z_72 ez_72 => ?_)
      obtain rfl : z_72 = nI (k + 1 + 1) := ez_72.trans (nI_add _ 1)
      refine va_put (D := E.1) (ci := 7) (v := .int (nI (k + 1 + 1))) (ty := .int) (C := RX6) (T := TX6) (N := 2) hx hb hts i_c_take_X6 tyX6 tyX6_ok nmX6 hown hK hP hD hS 0 rfl rfl 1 (by decide) (hts (.fieldLink RX6 15 "HushWatch$Tape" "length" "I") (List.mem_of_getElem? (i := 1) rfl)) (fun _ h9 => h9) rfl (by decide +kernel) rfl rfl (Nat.le_of_ble_eq_true rfl) dX6_take_47 (fun H locs hP hD hS => ?_)
      have hP : va_P E.1 vwCl [(t, .inr (7, [.ref b1, .int (nI (k + 1 + 1))])), (b1, .inl (E.2.2.1, 320, .inl f_71))] H := hP
      have hD : va_D A [(t, .inr (7, [.ref b1, .int (nI (k + 1 + 1))])), (b1, .inl (E.2.2.1, 320, .inl f_71))] := hD
      refine lv_iinc (v := 8) (lv' := [(2, .int 8), (3, .int z_50), (0, .ref t), (1, .int p0)]) hx hb dX6_take_50 hl (k := 1) rfl (by decide) (by decide) rfl (fun ls hl => ?_)
      refine lv_goto (tgt := 3) hx hb dX6_take_53 (by decide) ?_
      refine lv_iload_n hx hb dX6_take_3 rfl (lv_at hl 0 rfl) ?_
      refine lv_if_lt (tgt := 56) hx hb dX6_take_4 (by decide) (fun q => absurd q (by decide)) (fun _ => ?_)
      refine lv_iload_n hx hb dX6_take_7 rfl (lv_at hl 3 rfl) ?_
      refine lv_iload_n hx hb dX6_take_8 rfl (lv_at hl 0 rfl) ?_
      refine lv_iushr hx hb dX6_take_9 rfl ?_
      refine lv_topi (fun z_73 ez_73 => ?_)
      refine lv_sipush (v := 255) hx hb dX6_take_10 (by decide) ?_
      refine lv_iand hx hb dX6_take_13 ?_
      refine lv_topi (fun z_74 ez_74 => ?_)
      refine lv_istore_n (lv' := [(3, .int z_74), (2, .int 8), (0, .ref t), (1, .int p0)]) hx hb dX6_take_14 rfl hl (by decide) rfl (fun ls hl => ?_)
      refine lv_iload_n hx hb dX6_take_15 rfl (lv_at hl 0 rfl) ?_
      refine lv_if_eq (tgt := 50) hx hb dX6_take_16 (by decide) (fun c_75 => ?_) (fun c_75 => ?_)
      ·
        refine lv_iinc (v := 0) (lv' := [(2, .int 0), (3, .int z_74), (0, .ref t), (1, .int p0)]) hx hb dX6_take_50 hl (k := 1) rfl (by decide) (by decide) rfl (fun ls hl => ?_)
        refine lv_goto (tgt := 3) hx hb dX6_take_53 (by decide) ?_
        refine lv_iload_n hx hb dX6_take_3 rfl (lv_at hl 0 rfl) ?_
        refine lv_if_lt (tgt := 56) hx hb dX6_take_4 (by decide) (fun q => absurd q (by decide)) (fun _ => ?_)
        refine lv_iload_n hx hb dX6_take_7 rfl (lv_at hl 3 rfl) ?_
        refine lv_iload_n hx hb dX6_take_8 rfl (lv_at hl 0 rfl) ?_
        refine lv_iushr hx hb dX6_take_9 rfl ?_
        refine lv_topi (fun z_76 ez_76 => ?_)
        refine lv_sipush (v := 255) hx hb dX6_take_10 (by decide) ?_
        refine lv_iand hx hb dX6_take_13 ?_
        refine lv_topi (fun z_77 ez_77 => ?_)
        refine lv_istore_n (lv' := [(3, .int z_77), (2, .int 0), (0, .ref t), (1, .int p0)]) hx hb dX6_take_14 rfl hl (by decide) rfl (fun ls hl => ?_)
        refine lv_iload_n hx hb dX6_take_15 rfl (lv_at hl 0 rfl) ?_
        refine lv_if_eq (tgt := 50) hx hb dX6_take_16 (by decide) (fun c_78 => ?_) (fun c_78 => ?_)
        ·
          refine lv_iinc (v := -8) (lv' := [(2, .int (-8)), (3, .int z_77), (0, .ref t), (1, .int p0)]) hx hb dX6_take_50 hl (k := 1) rfl (by decide) (by decide) rfl (fun ls hl => ?_)
          refine lv_goto (tgt := 3) hx hb dX6_take_53 (by decide) ?_
          refine lv_iload_n hx hb dX6_take_3 rfl (lv_at hl 0 rfl) ?_
          refine lv_if_lt (tgt := 56) hx hb dX6_take_4 (by decide) (fun _ => ?_) (fun q => absurd (by decide) q)
          have n24 : nzN p0 24 = 1 := nz_pos 24 (by decide) ez_1.symm ez_2 c_3
          have n16 : nzN p0 16 = 1 := nz_pos 16 (by decide) ez_49.symm ez_50 c_51
          have n8 : nzN p0 8 = 0 := nz_zero 8 (by decide) ez_73.symm ez_74 c_75
          have n0 : nzN p0 0 = 0 := nz_zero 0 (by decide) ez_76.symm ez_77 c_78
          have e9 : k + 1 + 1 = k + nb p0 := by unfold nb; omega
          have hP : va_P E.1 vwCl [(t, .inr (7, [.ref b1, .int (nI (k + nb p0))])), (b1, .inl (E.2.2.1, 320, .inl f_71))] H := by rw [← e9]; exact hP
          have hD : va_D A [(t, .inr (7, [.ref b1, .int (nI (k + nb p0))])), (b1, .inl (E.2.2.1, 320, .inl f_71))] := by rw [← e9]; exact hD
          have hP9 := hP.sub (ws' := [(t, .inr (7, [.ref b1, .int (nI (k + nb p0))])), (b1, .inl (E.2.2.1, 320, .inl f_71))]) [0, 1] rfl
          have hD9 := hD.sub (ws' := [(t, .inr (7, [.ref b1, .int (nI (k + nb p0))])), (b1, .inl (E.2.2.1, 320, .inl f_71))]) [0, 1] (by decide) rfl
          exact W.vret hx hb hr (fun tt ht hW => ⟨⟨f_71, rfl, trivial, by rw [ht]; exact hP9, hD9⟩, hS.F ht⟩) hS.2.2 dX6_take_56
        ·
          refine lv_aload_n hx hb dX6_take_19 rfl (lv_at hl 2 rfl) ?_
          refine va_get (D := E.1) (ci := 7) (v := .int (nI (k + 1 + 1))) (C := RX6) (T := TX6) (N := 2) hx hb hts i_c_take_X6 hown hK hP 0 rfl rfl 1 (by decide) (hts (.fieldLink RX6 15 "HushWatch$Tape" "length" "I") (List.mem_of_getElem? (i := 1) rfl)) (fun _ h9 => h9) rfl dX6_take_20 ?_
          refine lv_sipush (v := 320) hx hb dX6_take_23 (by decide) ?_
          refine lv_icmp_ge (tgt := 50) hx hb dX6_take_26 (by decide) (fun q => absurd q (nI_n320 (by omega))) (fun _ => ?_)
          refine lv_aload_n hx hb dX6_take_29 rfl (lv_at hl 2 rfl) ?_
          refine va_get (D := E.1) (ci := 7) (v := .ref b1) (C := RX6) (T := TX6) (N := 2) hx hb hts i_c_take_X6 hown hK hP 0 rfl rfl 0 (by decide) (hts (.fieldLink RX6 11 "HushWatch$Tape" "bytes" "[B") (List.mem_of_getElem? (i := 2) rfl)) (fun _ h9 => h9) rfl dX6_take_30 ?_
          refine lv_aload_n hx hb dX6_take_33 rfl (lv_at hl 2 rfl) ?_
          refine va_get (D := E.1) (ci := 7) (v := .int (nI (k + 1 + 1))) (C := RX6) (T := TX6) (N := 2) hx hb hts i_c_take_X6 hown hK hP 0 rfl rfl 1 (by decide) (hts (.fieldLink RX6 15 "HushWatch$Tape" "length" "I") (List.mem_of_getElem? (i := 1) rfl)) (fun _ h9 => h9) rfl dX6_take_34 ?_
          refine lv_iload_n hx hb dX6_take_37 rfl (lv_at hl 0 rfl) ?_
          refine lv_i2b hx hb dX6_take_38 rfl ?_
          refine lv_topi (fun z_79 ez_79 => ?_)
          refine va_bast hx hb hK hP hD hS 1 1 rfl rfl (vp_in_nI (by omega) (by decide)) dX6_take_39 (fun H locs hP hD hS => ?_)
          have hP : va_P E.1 vwCl [(t, .inr (7, [.ref b1, .int (nI (k + 1 + 1))])), (b1, .inl (E.2.2.1, 320, .inl (upd f_71 (nI (k + 1 + 1) : Int32).toNatClampNeg (vp_nar .byte z_79))))] H := hP
          have hD : va_D A [(t, .inr (7, [.ref b1, .int (nI (k + 1 + 1))])), (b1, .inl (E.2.2.1, 320, .inl (upd f_71 (nI (k + 1 + 1) : Int32).toNatClampNeg (vp_nar .byte z_79))))] := hD
          generalize upd f_71 (nI (k + 1 + 1) : Int32).toNatClampNeg (vp_nar .byte z_79) = f_80 at hP hD
          refine lv_aload_n hx hb dX6_take_40 rfl (lv_at hl 2 rfl) ?_
          refine lv_dup hx hb dX6_take_41 rfl ?_
          refine va_get (D := E.1) (ci := 7) (v := .int (nI (k + 1 + 1))) (C := RX6) (T := TX6) (N := 2) hx hb hts i_c_take_X6 hown hK hP 0 rfl rfl 1 (by decide) (hts (.fieldLink RX6 15 "HushWatch$Tape" "length" "I") (List.mem_of_getElem? (i := 1) rfl)) (fun _ h9 => h9) rfl dX6_take_42 ?_
          refine lv_iconst (v := 1) hx hb dX6_take_45 (by decide) ?_
          refine lv_iadd hx hb dX6_take_46 ?_
          refine lv_topi (fun z_81 ez_81 => ?_)
          obtain rfl : z_81 = nI (k + 1 + 1 + 1) := ez_81.trans (nI_add _ 1)
          refine va_put (D := E.1) (ci := 7) (v := .int (nI (k + 1 + 1 + 1))) (ty := .int) (C := RX6) (T := TX6) (N := 2) hx hb hts i_c_take_X6 tyX6 tyX6_ok nmX6 hown hK hP hD hS 0 rfl rfl 1 (by decide) (hts (.fieldLink RX6 15 "HushWatch$Tape" "length" "I") (List.mem_of_getElem? (i := 1) rfl)) (fun _ h9 => h9) rfl (by decide +kernel) rfl rfl (Nat.le_of_ble_eq_true rfl) dX6_take_47 (fun H locs hP hD hS => ?_)
          have hP : va_P E.1 vwCl [(t, .inr (7, [.ref b1, .int (nI (k + 1 + 1 + 1))])), (b1, .inl (E.2.2.1, 320, .inl f_80))] H := hP
          have hD : va_D A [(t, .inr (7, [.ref b1, .int (nI (k + 1 + 1 + 1))])), (b1, .inl (E.2.2.1, 320, .inl f_80))] := hD
          refine lv_iinc (v := -8) (lv' := [(2, .int (-8)), (3, .int z_77), (0, .ref t), (1, .int p0)]) hx hb dX6_take_50 hl (k := 1) rfl (by decide) (by decide) rfl (fun ls hl => ?_)
          refine lv_goto (tgt := 3) hx hb dX6_take_53 (by decide) ?_
          refine lv_iload_n hx hb dX6_take_3 rfl (lv_at hl 0 rfl) ?_
          refine lv_if_lt (tgt := 56) hx hb dX6_take_4 (by decide) (fun _ => ?_) (fun q => absurd (by decide) q)
          have n24 : nzN p0 24 = 1 := nz_pos 24 (by decide) ez_1.symm ez_2 c_3
          have n16 : nzN p0 16 = 1 := nz_pos 16 (by decide) ez_49.symm ez_50 c_51
          have n8 : nzN p0 8 = 0 := nz_zero 8 (by decide) ez_73.symm ez_74 c_75
          have n0 : nzN p0 0 = 1 := nz_pos 0 (by decide) ez_76.symm ez_77 c_78
          have e9 : k + 1 + 1 + 1 = k + nb p0 := by unfold nb; omega
          have hP : va_P E.1 vwCl [(t, .inr (7, [.ref b1, .int (nI (k + nb p0))])), (b1, .inl (E.2.2.1, 320, .inl f_80))] H := by rw [← e9]; exact hP
          have hD : va_D A [(t, .inr (7, [.ref b1, .int (nI (k + nb p0))])), (b1, .inl (E.2.2.1, 320, .inl f_80))] := by rw [← e9]; exact hD
          have hP9 := hP.sub (ws' := [(t, .inr (7, [.ref b1, .int (nI (k + nb p0))])), (b1, .inl (E.2.2.1, 320, .inl f_80))]) [0, 1] rfl
          have hD9 := hD.sub (ws' := [(t, .inr (7, [.ref b1, .int (nI (k + nb p0))])), (b1, .inl (E.2.2.1, 320, .inl f_80))]) [0, 1] (by decide) rfl
          exact W.vret hx hb hr (fun tt ht hW => ⟨⟨f_80, rfl, trivial, by rw [ht]; exact hP9, hD9⟩, hS.F ht⟩) hS.2.2 dX6_take_56
      ·
        refine lv_aload_n hx hb dX6_take_19 rfl (lv_at hl 2 rfl) ?_
        refine va_get (D := E.1) (ci := 7) (v := .int (nI (k + 1 + 1))) (C := RX6) (T := TX6) (N := 2) hx hb hts i_c_take_X6 hown hK hP 0 rfl rfl 1 (by decide) (hts (.fieldLink RX6 15 "HushWatch$Tape" "length" "I") (List.mem_of_getElem? (i := 1) rfl)) (fun _ h9 => h9) rfl dX6_take_20 ?_
        refine lv_sipush (v := 320) hx hb dX6_take_23 (by decide) ?_
        refine lv_icmp_ge (tgt := 50) hx hb dX6_take_26 (by decide) (fun q => absurd q (nI_n320 (by omega))) (fun _ => ?_)
        refine lv_aload_n hx hb dX6_take_29 rfl (lv_at hl 2 rfl) ?_
        refine va_get (D := E.1) (ci := 7) (v := .ref b1) (C := RX6) (T := TX6) (N := 2) hx hb hts i_c_take_X6 hown hK hP 0 rfl rfl 0 (by decide) (hts (.fieldLink RX6 11 "HushWatch$Tape" "bytes" "[B") (List.mem_of_getElem? (i := 2) rfl)) (fun _ h9 => h9) rfl dX6_take_30 ?_
        refine lv_aload_n hx hb dX6_take_33 rfl (lv_at hl 2 rfl) ?_
        refine va_get (D := E.1) (ci := 7) (v := .int (nI (k + 1 + 1))) (C := RX6) (T := TX6) (N := 2) hx hb hts i_c_take_X6 hown hK hP 0 rfl rfl 1 (by decide) (hts (.fieldLink RX6 15 "HushWatch$Tape" "length" "I") (List.mem_of_getElem? (i := 1) rfl)) (fun _ h9 => h9) rfl dX6_take_34 ?_
        refine lv_iload_n hx hb dX6_take_37 rfl (lv_at hl 0 rfl) ?_
        refine lv_i2b hx hb dX6_take_38 rfl ?_
        refine lv_topi (fun z_82 ez_82 => ?_)
        refine va_bast hx hb hK hP hD hS 1 1 rfl rfl (vp_in_nI (by omega) (by decide)) dX6_take_39 (fun H locs hP hD hS => ?_)
        have hP : va_P E.1 vwCl [(t, .inr (7, [.ref b1, .int (nI (k + 1 + 1))])), (b1, .inl (E.2.2.1, 320, .inl (upd f_71 (nI (k + 1 + 1) : Int32).toNatClampNeg (vp_nar .byte z_82))))] H := hP
        have hD : va_D A [(t, .inr (7, [.ref b1, .int (nI (k + 1 + 1))])), (b1, .inl (E.2.2.1, 320, .inl (upd f_71 (nI (k + 1 + 1) : Int32).toNatClampNeg (vp_nar .byte z_82))))] := hD
        generalize upd f_71 (nI (k + 1 + 1) : Int32).toNatClampNeg (vp_nar .byte z_82) = f_83 at hP hD
        refine lv_aload_n hx hb dX6_take_40 rfl (lv_at hl 2 rfl) ?_
        refine lv_dup hx hb dX6_take_41 rfl ?_
        refine va_get (D := E.1) (ci := 7) (v := .int (nI (k + 1 + 1))) (C := RX6) (T := TX6) (N := 2) hx hb hts i_c_take_X6 hown hK hP 0 rfl rfl 1 (by decide) (hts (.fieldLink RX6 15 "HushWatch$Tape" "length" "I") (List.mem_of_getElem? (i := 1) rfl)) (fun _ h9 => h9) rfl dX6_take_42 ?_
        refine lv_iconst (v := 1) hx hb dX6_take_45 (by decide) ?_
        refine lv_iadd hx hb dX6_take_46 ?_
        refine lv_topi (fun z_84 ez_84 => ?_)
        obtain rfl : z_84 = nI (k + 1 + 1 + 1) := ez_84.trans (nI_add _ 1)
        refine va_put (D := E.1) (ci := 7) (v := .int (nI (k + 1 + 1 + 1))) (ty := .int) (C := RX6) (T := TX6) (N := 2) hx hb hts i_c_take_X6 tyX6 tyX6_ok nmX6 hown hK hP hD hS 0 rfl rfl 1 (by decide) (hts (.fieldLink RX6 15 "HushWatch$Tape" "length" "I") (List.mem_of_getElem? (i := 1) rfl)) (fun _ h9 => h9) rfl (by decide +kernel) rfl rfl (Nat.le_of_ble_eq_true rfl) dX6_take_47 (fun H locs hP hD hS => ?_)
        have hP : va_P E.1 vwCl [(t, .inr (7, [.ref b1, .int (nI (k + 1 + 1 + 1))])), (b1, .inl (E.2.2.1, 320, .inl f_83))] H := hP
        have hD : va_D A [(t, .inr (7, [.ref b1, .int (nI (k + 1 + 1 + 1))])), (b1, .inl (E.2.2.1, 320, .inl f_83))] := hD
        refine lv_iinc (v := 0) (lv' := [(2, .int 0), (3, .int z_74), (0, .ref t), (1, .int p0)]) hx hb dX6_take_50 hl (k := 1) rfl (by decide) (by decide) rfl (fun ls hl => ?_)
        refine lv_goto (tgt := 3) hx hb dX6_take_53 (by decide) ?_
        refine lv_iload_n hx hb dX6_take_3 rfl (lv_at hl 0 rfl) ?_
        refine lv_if_lt (tgt := 56) hx hb dX6_take_4 (by decide) (fun q => absurd q (by decide)) (fun _ => ?_)
        refine lv_iload_n hx hb dX6_take_7 rfl (lv_at hl 3 rfl) ?_
        refine lv_iload_n hx hb dX6_take_8 rfl (lv_at hl 0 rfl) ?_
        refine lv_iushr hx hb dX6_take_9 rfl ?_
        refine lv_topi (fun z_85 ez_85 => ?_)
        refine lv_sipush (v := 255) hx hb dX6_take_10 (by decide) ?_
        refine lv_iand hx hb dX6_take_13 ?_
        refine lv_topi (fun z_86 ez_86 => ?_)
        refine lv_istore_n (lv' := [(3, .int z_86), (2, .int 0), (0, .ref t), (1, .int p0)]) hx hb dX6_take_14 rfl hl (by decide) rfl (fun ls hl => ?_)
        refine lv_iload_n hx hb dX6_take_15 rfl (lv_at hl 0 rfl) ?_
        refine lv_if_eq (tgt := 50) hx hb dX6_take_16 (by decide) (fun c_87 => ?_) (fun c_87 => ?_)
        ·
          refine lv_iinc (v := -8) (lv' := [(2, .int (-8)), (3, .int z_86), (0, .ref t), (1, .int p0)]) hx hb dX6_take_50 hl (k := 1) rfl (by decide) (by decide) rfl (fun ls hl => ?_)
          refine lv_goto (tgt := 3) hx hb dX6_take_53 (by decide) ?_
          refine lv_iload_n hx hb dX6_take_3 rfl (lv_at hl 0 rfl) ?_
          refine lv_if_lt (tgt := 56) hx hb dX6_take_4 (by decide) (fun _ => ?_) (fun q => absurd (by decide) q)
          have n24 : nzN p0 24 = 1 := nz_pos 24 (by decide) ez_1.symm ez_2 c_3
          have n16 : nzN p0 16 = 1 := nz_pos 16 (by decide) ez_49.symm ez_50 c_51
          have n8 : nzN p0 8 = 1 := nz_pos 8 (by decide) ez_73.symm ez_74 c_75
          have n0 : nzN p0 0 = 0 := nz_zero 0 (by decide) ez_85.symm ez_86 c_87
          have e9 : k + 1 + 1 + 1 = k + nb p0 := by unfold nb; omega
          have hP : va_P E.1 vwCl [(t, .inr (7, [.ref b1, .int (nI (k + nb p0))])), (b1, .inl (E.2.2.1, 320, .inl f_83))] H := by rw [← e9]; exact hP
          have hD : va_D A [(t, .inr (7, [.ref b1, .int (nI (k + nb p0))])), (b1, .inl (E.2.2.1, 320, .inl f_83))] := by rw [← e9]; exact hD
          have hP9 := hP.sub (ws' := [(t, .inr (7, [.ref b1, .int (nI (k + nb p0))])), (b1, .inl (E.2.2.1, 320, .inl f_83))]) [0, 1] rfl
          have hD9 := hD.sub (ws' := [(t, .inr (7, [.ref b1, .int (nI (k + nb p0))])), (b1, .inl (E.2.2.1, 320, .inl f_83))]) [0, 1] (by decide) rfl
          exact W.vret hx hb hr (fun tt ht hW => ⟨⟨f_83, rfl, trivial, by rw [ht]; exact hP9, hD9⟩, hS.F ht⟩) hS.2.2 dX6_take_56
        ·
          refine lv_aload_n hx hb dX6_take_19 rfl (lv_at hl 2 rfl) ?_
          refine va_get (D := E.1) (ci := 7) (v := .int (nI (k + 1 + 1 + 1))) (C := RX6) (T := TX6) (N := 2) hx hb hts i_c_take_X6 hown hK hP 0 rfl rfl 1 (by decide) (hts (.fieldLink RX6 15 "HushWatch$Tape" "length" "I") (List.mem_of_getElem? (i := 1) rfl)) (fun _ h9 => h9) rfl dX6_take_20 ?_
          refine lv_sipush (v := 320) hx hb dX6_take_23 (by decide) ?_
          refine lv_icmp_ge (tgt := 50) hx hb dX6_take_26 (by decide) (fun q => absurd q (nI_n320 (by omega))) (fun _ => ?_)
          refine lv_aload_n hx hb dX6_take_29 rfl (lv_at hl 2 rfl) ?_
          refine va_get (D := E.1) (ci := 7) (v := .ref b1) (C := RX6) (T := TX6) (N := 2) hx hb hts i_c_take_X6 hown hK hP 0 rfl rfl 0 (by decide) (hts (.fieldLink RX6 11 "HushWatch$Tape" "bytes" "[B") (List.mem_of_getElem? (i := 2) rfl)) (fun _ h9 => h9) rfl dX6_take_30 ?_
          refine lv_aload_n hx hb dX6_take_33 rfl (lv_at hl 2 rfl) ?_
          refine va_get (D := E.1) (ci := 7) (v := .int (nI (k + 1 + 1 + 1))) (C := RX6) (T := TX6) (N := 2) hx hb hts i_c_take_X6 hown hK hP 0 rfl rfl 1 (by decide) (hts (.fieldLink RX6 15 "HushWatch$Tape" "length" "I") (List.mem_of_getElem? (i := 1) rfl)) (fun _ h9 => h9) rfl dX6_take_34 ?_
          refine lv_iload_n hx hb dX6_take_37 rfl (lv_at hl 0 rfl) ?_
          refine lv_i2b hx hb dX6_take_38 rfl ?_
          refine lv_topi (fun z_88 ez_88 => ?_)
          refine va_bast hx hb hK hP hD hS 1 1 rfl rfl (vp_in_nI (by omega) (by decide)) dX6_take_39 (fun H locs hP hD hS => ?_)
          have hP : va_P E.1 vwCl [(t, .inr (7, [.ref b1, .int (nI (k + 1 + 1 + 1))])), (b1, .inl (E.2.2.1, 320, .inl (upd f_83 (nI (k + 1 + 1 + 1) : Int32).toNatClampNeg (vp_nar .byte z_88))))] H := hP
          have hD : va_D A [(t, .inr (7, [.ref b1, .int (nI (k + 1 + 1 + 1))])), (b1, .inl (E.2.2.1, 320, .inl (upd f_83 (nI (k + 1 + 1 + 1) : Int32).toNatClampNeg (vp_nar .byte z_88))))] := hD
          generalize upd f_83 (nI (k + 1 + 1 + 1) : Int32).toNatClampNeg (vp_nar .byte z_88) = f_89 at hP hD
          refine lv_aload_n hx hb dX6_take_40 rfl (lv_at hl 2 rfl) ?_
          refine lv_dup hx hb dX6_take_41 rfl ?_
          refine va_get (D := E.1) (ci := 7) (v := .int (nI (k + 1 + 1 + 1))) (C := RX6) (T := TX6) (N := 2) hx hb hts i_c_take_X6 hown hK hP 0 rfl rfl 1 (by decide) (hts (.fieldLink RX6 15 "HushWatch$Tape" "length" "I") (List.mem_of_getElem? (i := 1) rfl)) (fun _ h9 => h9) rfl dX6_take_42 ?_
          refine lv_iconst (v := 1) hx hb dX6_take_45 (by decide) ?_
          refine lv_iadd hx hb dX6_take_46 ?_
          refine lv_topi (fun z_90 ez_90 => ?_)
          obtain rfl : z_90 = nI (k + 1 + 1 + 1 + 1) := ez_90.trans (nI_add _ 1)
          refine va_put (D := E.1) (ci := 7) (v := .int (nI (k + 1 + 1 + 1 + 1))) (ty := .int) (C := RX6) (T := TX6) (N := 2) hx hb hts i_c_take_X6 tyX6 tyX6_ok nmX6 hown hK hP hD hS 0 rfl rfl 1 (by decide) (hts (.fieldLink RX6 15 "HushWatch$Tape" "length" "I") (List.mem_of_getElem? (i := 1) rfl)) (fun _ h9 => h9) rfl (by decide +kernel) rfl rfl (Nat.le_of_ble_eq_true rfl) dX6_take_47 (fun H locs hP hD hS => ?_)
          have hP : va_P E.1 vwCl [(t, .inr (7, [.ref b1, .int (nI (k + 1 + 1 + 1 + 1))])), (b1, .inl (E.2.2.1, 320, .inl f_89))] H := hP
          have hD : va_D A [(t, .inr (7, [.ref b1, .int (nI (k + 1 + 1 + 1 + 1))])), (b1, .inl (E.2.2.1, 320, .inl f_89))] := hD
          refine lv_iinc (v := -8) (lv' := [(2, .int (-8)), (3, .int z_86), (0, .ref t), (1, .int p0)]) hx hb dX6_take_50 hl (k := 1) rfl (by decide) (by decide) rfl (fun ls hl => ?_)
          refine lv_goto (tgt := 3) hx hb dX6_take_53 (by decide) ?_
          refine lv_iload_n hx hb dX6_take_3 rfl (lv_at hl 0 rfl) ?_
          refine lv_if_lt (tgt := 56) hx hb dX6_take_4 (by decide) (fun _ => ?_) (fun q => absurd (by decide) q)
          have n24 : nzN p0 24 = 1 := nz_pos 24 (by decide) ez_1.symm ez_2 c_3
          have n16 : nzN p0 16 = 1 := nz_pos 16 (by decide) ez_49.symm ez_50 c_51
          have n8 : nzN p0 8 = 1 := nz_pos 8 (by decide) ez_73.symm ez_74 c_75
          have n0 : nzN p0 0 = 1 := nz_pos 0 (by decide) ez_85.symm ez_86 c_87
          have e9 : k + 1 + 1 + 1 + 1 = k + nb p0 := by unfold nb; omega
          have hP : va_P E.1 vwCl [(t, .inr (7, [.ref b1, .int (nI (k + nb p0))])), (b1, .inl (E.2.2.1, 320, .inl f_89))] H := by rw [← e9]; exact hP
          have hD : va_D A [(t, .inr (7, [.ref b1, .int (nI (k + nb p0))])), (b1, .inl (E.2.2.1, 320, .inl f_89))] := by rw [← e9]; exact hD
          have hP9 := hP.sub (ws' := [(t, .inr (7, [.ref b1, .int (nI (k + nb p0))])), (b1, .inl (E.2.2.1, 320, .inl f_89))]) [0, 1] rfl
          have hD9 := hD.sub (ws' := [(t, .inr (7, [.ref b1, .int (nI (k + nb p0))])), (b1, .inl (E.2.2.1, 320, .inl f_89))]) [0, 1] (by decide) rfl
          exact W.vret hx hb hr (fun tt ht hW => ⟨⟨f_89, rfl, trivial, by rw [ht]; exact hP9, hD9⟩, hS.F ht⟩) hS.2.2 dX6_take_56

def v_c_feed : List Cond := .code yX7_feed cX7_feed 7 (some .int) :: ([.fieldLink RX7 10 "HushWatch" "tape" "LHushWatch$Tape;", .methodLink RX7 77 yX6_bytesIn, .static yX6_bytesIn, .initialized RX6, .methodLink RX7 85 yX6_take, .instanceMethod yX6_take, .selects RX6 yX6_take yX6_take] ++ (v_c_bytesIn ++ (wsX70 ++ (wsX60 ++ (v_c_take ++ ([]))))))
theorem gw_c_feed : v_c_feed.all goodWord = true := by decide +kernel
theorem i_c_feed_X7 : ∀ w ∈ wsX70, w ∈ v_c_feed := fun _ h => List.mem_cons_of_mem _ (List.mem_append_right _ (List.mem_append_right _ (List.mem_append_left _ h)))
theorem i_c_feed_X6 : ∀ w ∈ wsX60, w ∈ v_c_feed := fun _ h => List.mem_cons_of_mem _ (List.mem_append_right _ (List.mem_append_right _ (List.mem_append_right _ (List.mem_append_left _ h))))
theorem g_c_feed_c_bytesIn_77 : GoodIn v_c_feed (va_wsS RX7 77 yX6_bytesIn v_c_bytesIn) := goodIn_app (goodIn_of _ (by decide +kernel)) (goodIn_sub (fun _ h => List.mem_cons_of_mem _ (List.mem_append_right _ (List.mem_append_left _ h))) gw_c_bytesIn)
theorem g_c_feed_c_take_85 : GoodIn v_c_feed (wsV RX7 85 RX6 yX6_take v_c_take) := goodIn_app (goodIn_of _ (by decide +kernel)) (goodIn_sub (fun _ h => List.mem_cons_of_mem _ (List.mem_append_right _ (List.mem_append_right _ (List.mem_append_right _ (List.mem_append_right _ (List.mem_append_left _ h)))))) gw_c_take)
set_option maxHeartbeats 4000000 in
set_option maxRecDepth 100000 in
theorem c_feed (l : Launch) (E : EE) (sz : Nat) (x t rd sc n tr kp bk kb hi dr rf : Nat) (b1 : Nat) (p0 p1 p2 p3 p4 : Int32) : Met l yX7_feed v_c_feed ({ frames := 1, cells := 0, slots := 0, locals := 23 }) (va_Pc [.ref x, .int p0, .int p1, .int p2, .int p3, .int p4] (pW E sz [(x, .inr (8, [.ref t, .ref rd, .ref sc, .ref n, .ref tr, .ref kp, .ref bk, .ref kb, .ref hi, .ref dr, .ref rf, .int 0])), (t, .inr (7, [.ref b1, .int 0])), (b1, .inl (E.2.2.1, 320, .inl (fun _ => 0)))])) (va_Qi (fun r (_u : Unit) => r = feedv p0 p1 p2 p3 p4) (fun (_u : Unit) tt => va_P E.1 vwCl [] tt.heap ∧ va_D (va_A [(x, .inr (8, [.ref t, .ref rd, .ref sc, .ref n, .ref tr, .ref kp, .ref bk, .ref kb, .ref hi, .ref dr, .ref rf, .int 0])), (t, .inr (7, [.ref b1, .int 0])), (b1, .inl (E.2.2.1, 320, .inl (fun _ => 0)))] sz) []) (va_A [(x, .inr (8, [.ref t, .ref rd, .ref sc, .ref n, .ref tr, .ref kp, .ref bk, .ref kb, .ref hi, .ref dr, .ref rf, .int 0])), (t, .inr (7, [.ref b1, .int 0])), (b1, .inl (E.2.2.1, 320, .inl (fun _ => 0)))] sz)) 0 0 (va_A [(x, .inr (8, [.ref t, .ref rd, .ref sc, .ref n, .ref tr, .ref kp, .ref bk, .ref kb, .ref hi, .ref dr, .ref rf, .int 0])), (t, .inr (7, [.ref b1, .int 0])), (b1, .inl (E.2.2.1, 320, .inl (fun _ => 0)))] sz) := by
  refine Met.ofW (cc := cX7_feed) (maxL := 7) (ret := (some .int)) (by decide) rfl ?_
  intro p e s m args below meth c s₁ B hml hv
  obtain ⟨rfl, hsz, ⟨hK, hN⟩, hP, hD0⟩ := hv
  have hx := B.exec
  have hb := B.bytes
  have hr := B.returns
  have hts := atoms_spec (ws := v_c_feed) B.pre
  have hown : s.vm.findClass RX7 = some m.cls := findClass_of_methodNamed B.named
  have hlocks := B.notSynchronized
  subst hsz
  have hD := hD0.self (sz := s.heap.size)
  generalize hAe : va_A [(x, .inr (8, [.ref t, .ref rd, .ref sc, .ref n, .ref tr, .ref kp, .ref bk, .ref kb, .ref hi, .ref dr, .ref rf, .int 0])), (t, .inr (7, [.ref b1, .int 0])), (b1, .inl (E.2.2.1, 320, .inl (fun _ => 0)))] s.heap.size = A at hD ⊢
  have hA : ∀ q : Nat, s.heap.size ≤ q → A q := fun q h => by rw [← hAe]; exact Or.inr h
  have hS : va_S A s.heap s.heap [] := va_S.rf
  have hP : va_P E.1 vwCl [(x, .inr (8, [.ref t, .ref rd, .ref sc, .ref n, .ref tr, .ref kp, .ref bk, .ref kb, .ref hi, .ref dr, .ref rf, .int 0])), (t, .inr (7, [.ref b1, .int 0])), (b1, .inl (E.2.2.1, 320, .inl (fun _ => 0)))] s.heap := hP
  have hl := lv_entry ([.ref x, .int p0, .int p1, .int p2, .int p3, .int p4]) (n := 7) (Nat.le_of_ble_eq_true rfl)
  rw [lg_entry_eq]
  generalize (lg_sl ([.ref x, .int p0, .int p1, .int p2, .int p3, .int p4]) ++ List.replicate (7 - (lg_sl ([.ref x, .int p0, .int p1, .int p2, .int p3, .int p4])).length) Slot.unset).toArray = ls at hl ⊢
  have hl : lv_has ls 7 [(0, .ref x), (1, .int p0), (2, .int p1), (3, .int p2), (4, .int p3), (5, .int p4)] := hl
  refine lv_iload_n hx hb dX7_feed_0 rfl (lv_at hl 1 rfl) ?_
  have hPc : va_P E.1 vwCl [] s.heap := fun k q h => by simp at h
  refine pc_i (va_runS (As := [.int p0]) (rest := []) ⟨hx, hb, hml, hown, hts⟩ (c_bytesIn l E p0) (va_cwS 1 hts g_c_feed_c_bytesIn_77 rfl rfl rfl (by decide +kernel) ⟨Nat.le_of_ble_eq_true rfl, Nat.le_of_ble_eq_true rfl⟩) ⟨pP.blind, (pP.pre ⟨hK, hN⟩ hPc)⟩ rfl rfl hl.1 rfl (lv_room (Nat.le_of_ble_eq_true rfl)) dX7_feed_1 ⟨Nat.le_of_ble_eq_true rfl, Nat.le_of_ble_eq_true rfl⟩) (fun r_1 hr_1 => ?_)
  obtain rfl : r_1 = nI (nb p0) := hr_1
  refine lv_iload_n hx hb dX7_feed_4 rfl (lv_at hl 2 rfl) ?_
  have hPc : va_P E.1 vwCl [] s.heap := fun k q h => by simp at h
  refine pc_i (va_runS (As := [.int p1]) (rest := [.int (nI (nb p0))]) ⟨hx, hb, hml, hown, hts⟩ (c_bytesIn l E p1) (va_cwS 1 hts g_c_feed_c_bytesIn_77 rfl rfl rfl (by decide +kernel) ⟨Nat.le_of_ble_eq_true rfl, Nat.le_of_ble_eq_true rfl⟩) ⟨pP.blind, (pP.pre ⟨hK, hN⟩ hPc)⟩ rfl rfl hl.1 rfl (lv_room (Nat.le_of_ble_eq_true rfl)) dX7_feed_5 ⟨Nat.le_of_ble_eq_true rfl, Nat.le_of_ble_eq_true rfl⟩) (fun r_2 hr_2 => ?_)
  obtain rfl : r_2 = nI (nb p1) := hr_2
  refine lv_iadd hx hb dX7_feed_8 ?_
  refine lv_topi (fun z_3 ez_3 => ?_)
  obtain rfl : z_3 = nI (nb p0 + nb p1) := ez_3.trans (nI_add _ _)
  refine lv_iload_n hx hb dX7_feed_9 rfl (lv_at hl 3 rfl) ?_
  have hPc : va_P E.1 vwCl [] s.heap := fun k q h => by simp at h
  refine pc_i (va_runS (As := [.int p2]) (rest := [.int (nI (nb p0 + nb p1))]) ⟨hx, hb, hml, hown, hts⟩ (c_bytesIn l E p2) (va_cwS 1 hts g_c_feed_c_bytesIn_77 rfl rfl rfl (by decide +kernel) ⟨Nat.le_of_ble_eq_true rfl, Nat.le_of_ble_eq_true rfl⟩) ⟨pP.blind, (pP.pre ⟨hK, hN⟩ hPc)⟩ rfl rfl hl.1 rfl (lv_room (Nat.le_of_ble_eq_true rfl)) dX7_feed_10 ⟨Nat.le_of_ble_eq_true rfl, Nat.le_of_ble_eq_true rfl⟩) (fun r_4 hr_4 => ?_)
  obtain rfl : r_4 = nI (nb p2) := hr_4
  refine lv_iadd hx hb dX7_feed_13 ?_
  refine lv_topi (fun z_5 ez_5 => ?_)
  obtain rfl : z_5 = nI (nb p0 + nb p1 + nb p2) := ez_5.trans (nI_add _ _)
  refine lv_iload hx hb dX7_feed_14 (lv_at hl 4 rfl) ?_
  have hPc : va_P E.1 vwCl [] s.heap := fun k q h => by simp at h
  refine pc_i (va_runS (As := [.int p3]) (rest := [.int (nI (nb p0 + nb p1 + nb p2))]) ⟨hx, hb, hml, hown, hts⟩ (c_bytesIn l E p3) (va_cwS 1 hts g_c_feed_c_bytesIn_77 rfl rfl rfl (by decide +kernel) ⟨Nat.le_of_ble_eq_true rfl, Nat.le_of_ble_eq_true rfl⟩) ⟨pP.blind, (pP.pre ⟨hK, hN⟩ hPc)⟩ rfl rfl hl.1 rfl (lv_room (Nat.le_of_ble_eq_true rfl)) dX7_feed_16 ⟨Nat.le_of_ble_eq_true rfl, Nat.le_of_ble_eq_true rfl⟩) (fun r_6 hr_6 => ?_)
  obtain rfl : r_6 = nI (nb p3) := hr_6
  refine lv_iadd hx hb dX7_feed_19 ?_
  refine lv_topi (fun z_7 ez_7 => ?_)
  obtain rfl : z_7 = nI (nb p0 + nb p1 + nb p2 + nb p3) := ez_7.trans (nI_add _ _)
  refine lv_iload hx hb dX7_feed_20 (lv_at hl 5 rfl) ?_
  have hPc : va_P E.1 vwCl [] s.heap := fun k q h => by simp at h
  refine pc_i (va_runS (As := [.int p4]) (rest := [.int (nI (nb p0 + nb p1 + nb p2 + nb p3))]) ⟨hx, hb, hml, hown, hts⟩ (c_bytesIn l E p4) (va_cwS 1 hts g_c_feed_c_bytesIn_77 rfl rfl rfl (by decide +kernel) ⟨Nat.le_of_ble_eq_true rfl, Nat.le_of_ble_eq_true rfl⟩) ⟨pP.blind, (pP.pre ⟨hK, hN⟩ hPc)⟩ rfl rfl hl.1 rfl (lv_room (Nat.le_of_ble_eq_true rfl)) dX7_feed_22 ⟨Nat.le_of_ble_eq_true rfl, Nat.le_of_ble_eq_true rfl⟩) (fun r_8 hr_8 => ?_)
  obtain rfl : r_8 = nI (nb p4) := hr_8
  refine lv_iadd hx hb dX7_feed_25 ?_
  refine lv_topi (fun z_9 ez_9 => ?_)
  obtain rfl : z_9 = nI (nb p0 + nb p1 + nb p2 + nb p3 + nb p4) := ez_9.trans (nI_add _ _)
  refine lv_istore (lv' := [(6, .int (nI (nb p0 + nb p1 + nb p2 + nb p3 + nb p4))), (0, .ref x), (1, .int p0), (2, .int p1), (3, .int p2), (4, .int p3), (5, .int p4)]) hx hb dX7_feed_26 hl (by decide) rfl (fun ls hl => ?_)
  refine lv_aload_n hx hb dX7_feed_28 rfl (lv_at hl 1 rfl) ?_
  refine va_get (D := E.1) (ci := 8) (v := .ref t) (C := RX7) (T := TX7) (N := 12) hx hb hts i_c_feed_X7 hown hK hP 0 rfl rfl 0 (by decide) (hts (.fieldLink RX7 10 "HushWatch" "tape" "LHushWatch$Tape;") (List.mem_of_getElem? (i := 1) rfl)) (fun _ h9 => h9) rfl dX7_feed_29 ?_
  refine va_getN (D := E.1) (ci := 7) (v := .int 0) (C := RX6) (T := TX6) (N := 2) hx hb hts i_c_feed_X6 hown hK hP 1 rfl rfl 1 (by decide) (nx hN 1 rfl) (fun _ h9 => h9) rfl dX7_feed_32 ?_
  refine lv_iload hx hb dX7_feed_35 (lv_at hl 0 rfl) ?_
  refine lv_iadd hx hb dX7_feed_37 ?_
  refine lv_topi (fun z_10 ez_10 => ?_)
  obtain rfl : z_10 = nI (0 + (nb p0 + nb p1 + nb p2 + nb p3 + nb p4)) := ez_10.trans (nI_add 0 _)
  refine lv_sipush (v := 320) hx hb dX7_feed_38 (by decide) ?_
  refine lv_icmp_le (tgt := 46) hx hb dX7_feed_41 (by decide) (fun _ => ?_) (fun q => absurd (nI_l320 (by have h0 := nb_le p0; have h1 := nb_le p1; have h2 := nb_le p2; have h3 := nb_le p3; have h4 := nb_le p4; omega)) q)
  refine lv_aload_n hx hb dX7_feed_46 rfl (lv_at hl 1 rfl) ?_
  refine va_get (D := E.1) (ci := 8) (v := .ref t) (C := RX7) (T := TX7) (N := 12) hx hb hts i_c_feed_X7 hown hK hP 0 rfl rfl 0 (by decide) (hts (.fieldLink RX7 10 "HushWatch" "tape" "LHushWatch$Tape;") (List.mem_of_getElem? (i := 1) rfl)) (fun _ h9 => h9) rfl dX7_feed_47 ?_
  refine lv_iload_n hx hb dX7_feed_50 rfl (lv_at hl 2 rfl) ?_
  have hPc := hP.sub (ws' := [(t, .inr (7, [.ref b1, .int 0])), (b1, .inl (E.2.2.1, 320, .inl (fun _ => 0)))]) [1, 2] rfl
  have hDc := hD.sub (ws' := [(t, .inr (7, [.ref b1, .int 0])), (b1, .inl (E.2.2.1, 320, .inl (fun _ => 0)))]) [1, 2] (by decide) rfl
  have hFc := va_free (wc := [(t, .inr (7, [.ref b1, .int 0])), (b1, .inl (E.2.2.1, 320, .inl (fun _ => 0)))]) hD hS hA [1, 2] rfl
  refine va_callv (va_runV (As := [.int p0]) (rest := []) ⟨hx, hb, hml, hown, hts⟩ (c_take l E s.heap.size t b1 0 (fun _ => 0) p0 (by have h0 := nb_le p0; have h1 := nb_le p1; have h2 := nb_le p2; have h3 := nb_le p3; have h4 := nb_le p4; omega)) (cwV 1 hts g_c_feed_c_take_85 rfl rfl rfl (by decide +kernel) ⟨Nat.le_of_ble_eq_true rfl, Nat.le_of_ble_eq_true rfl⟩) ⟨pW.blind, va_recv hK hPc (ci := 7) (q0 := 0) rfl rfl, (pW.pre ⟨hK, hN⟩ hPc hDc)⟩ rfl rfl hl.1 rfl (lv_room (Nat.le_of_ble_eq_true rfl)) dX7_feed_51 ⟨Nat.le_of_ble_eq_true rfl, Nat.le_of_ble_eq_true rfl⟩) hS (fun q _ h => hFc q h) hFc (fun  u_11 tt H1 locs ht hvm hw hB hz1 hk1 hS => ?_)
  obtain ⟨hP1, hD1⟩ := hB
  rw [ht] at hP1
  obtain ⟨hP, hD⟩ := va_join (wr := [(x, .inr (8, [.ref t, .ref rd, .ref sc, .ref n, .ref tr, .ref kp, .ref bk, .ref kb, .ref hi, .ref dr, .ref rf, .int 0]))]) (w1 := [(t, .inr (7, [.ref b1, .int (nI (0 + nb p0))])), (b1, .inl (E.2.2.1, 320, .inl u_11))]) hP hD [1, 2] [0] rfl rfl (by decide) (by decide) hk1 hFc hP1 hD1
  generalize H1 = H at hP hS ⊢
  have hP : va_P E.1 vwCl [(x, .inr (8, [.ref t, .ref rd, .ref sc, .ref n, .ref tr, .ref kp, .ref bk, .ref kb, .ref hi, .ref dr, .ref rf, .int 0])), (t, .inr (7, [.ref b1, .int (nI (0 + nb p0))])), (b1, .inl (E.2.2.1, 320, .inl u_11))] H := hP
  have hD : va_D A [(x, .inr (8, [.ref t, .ref rd, .ref sc, .ref n, .ref tr, .ref kp, .ref bk, .ref kb, .ref hi, .ref dr, .ref rf, .int 0])), (t, .inr (7, [.ref b1, .int (nI (0 + nb p0))])), (b1, .inl (E.2.2.1, 320, .inl u_11))] := hD
  have hsw_12 := hw
  refine lv_aload_n hx hb dX7_feed_54 rfl (lv_at hl 1 rfl) ?_
  refine va_get (D := E.1) (ci := 8) (v := .ref t) (C := RX7) (T := TX7) (N := 12) hx hb hts i_c_feed_X7 hown hK hP 0 rfl rfl 0 (by decide) (hts (.fieldLink RX7 10 "HushWatch" "tape" "LHushWatch$Tape;") (List.mem_of_getElem? (i := 1) rfl)) (fun _ h9 => h9) rfl dX7_feed_55 ?_
  refine lv_iload_n hx hb dX7_feed_58 rfl (lv_at hl 3 rfl) ?_
  have hPc := hP.sub (ws' := [(t, .inr (7, [.ref b1, .int (nI (0 + nb p0))])), (b1, .inl (E.2.2.1, 320, .inl u_11))]) [1, 2] rfl
  have hDc := hD.sub (ws' := [(t, .inr (7, [.ref b1, .int (nI (0 + nb p0))])), (b1, .inl (E.2.2.1, 320, .inl u_11))]) [1, 2] (by decide) rfl
  have hFc := va_free (wc := [(t, .inr (7, [.ref b1, .int (nI (0 + nb p0))])), (b1, .inl (E.2.2.1, 320, .inl u_11))]) hD hS hA [1, 2] rfl
  refine va_callv (va_runV (As := [.int p1]) (rest := []) ⟨hx, hb, hml, hown, hts⟩ (c_take l E H.size t b1 (0 + nb p0) u_11 p1 (by have h0 := nb_le p0; have h1 := nb_le p1; have h2 := nb_le p2; have h3 := nb_le p3; have h4 := nb_le p4; omega)) (cwV 1 hts g_c_feed_c_take_85 rfl rfl rfl (by decide +kernel) ⟨Nat.le_of_ble_eq_true rfl, Nat.le_of_ble_eq_true rfl⟩) ⟨pW.blind, va_recv hK hPc (ci := 7) (q0 := 0) rfl rfl, (pW.pre ⟨hK, hN⟩ hPc hDc)⟩ rfl rfl hl.1 rfl (lv_room (Nat.le_of_ble_eq_true rfl)) dX7_feed_59 ⟨Nat.le_of_ble_eq_true rfl, Nat.le_of_ble_eq_true rfl⟩) hS (fun q _ h => hFc q h) hFc (fun  u_13 tt H1 locs ht hvm hw hB hz1 hk1 hS => ?_)
  obtain ⟨hP1, hD1⟩ := hB
  rw [ht] at hP1
  obtain ⟨hP, hD⟩ := va_join (wr := [(x, .inr (8, [.ref t, .ref rd, .ref sc, .ref n, .ref tr, .ref kp, .ref bk, .ref kb, .ref hi, .ref dr, .ref rf, .int 0]))]) (w1 := [(t, .inr (7, [.ref b1, .int (nI ((0 + nb p0) + nb p1))])), (b1, .inl (E.2.2.1, 320, .inl u_13))]) hP hD [1, 2] [0] rfl rfl (by decide) (by decide) hk1 hFc hP1 hD1
  generalize H1 = H at hP hS ⊢
  have hP : va_P E.1 vwCl [(x, .inr (8, [.ref t, .ref rd, .ref sc, .ref n, .ref tr, .ref kp, .ref bk, .ref kb, .ref hi, .ref dr, .ref rf, .int 0])), (t, .inr (7, [.ref b1, .int (nI ((0 + nb p0) + nb p1))])), (b1, .inl (E.2.2.1, 320, .inl u_13))] H := hP
  have hD : va_D A [(x, .inr (8, [.ref t, .ref rd, .ref sc, .ref n, .ref tr, .ref kp, .ref bk, .ref kb, .ref hi, .ref dr, .ref rf, .int 0])), (t, .inr (7, [.ref b1, .int (nI ((0 + nb p0) + nb p1))])), (b1, .inl (E.2.2.1, 320, .inl u_13))] := hD
  have hsw_14 := hw
  refine lv_aload_n hx hb dX7_feed_62 rfl (lv_at hl 1 rfl) ?_
  refine va_get (D := E.1) (ci := 8) (v := .ref t) (C := RX7) (T := TX7) (N := 12) hx hb hts i_c_feed_X7 hown hK hP 0 rfl rfl 0 (by decide) (hts (.fieldLink RX7 10 "HushWatch" "tape" "LHushWatch$Tape;") (List.mem_of_getElem? (i := 1) rfl)) (fun _ h9 => h9) rfl dX7_feed_63 ?_
  refine lv_iload_n hx hb dX7_feed_66 rfl (lv_at hl 4 rfl) ?_
  have hPc := hP.sub (ws' := [(t, .inr (7, [.ref b1, .int (nI ((0 + nb p0) + nb p1))])), (b1, .inl (E.2.2.1, 320, .inl u_13))]) [1, 2] rfl
  have hDc := hD.sub (ws' := [(t, .inr (7, [.ref b1, .int (nI ((0 + nb p0) + nb p1))])), (b1, .inl (E.2.2.1, 320, .inl u_13))]) [1, 2] (by decide) rfl
  have hFc := va_free (wc := [(t, .inr (7, [.ref b1, .int (nI ((0 + nb p0) + nb p1))])), (b1, .inl (E.2.2.1, 320, .inl u_13))]) hD hS hA [1, 2] rfl
  refine va_callv (va_runV (As := [.int p2]) (rest := []) ⟨hx, hb, hml, hown, hts⟩ (c_take l E H.size t b1 ((0 + nb p0) + nb p1) u_13 p2 (by have h0 := nb_le p0; have h1 := nb_le p1; have h2 := nb_le p2; have h3 := nb_le p3; have h4 := nb_le p4; omega)) (cwV 1 hts g_c_feed_c_take_85 rfl rfl rfl (by decide +kernel) ⟨Nat.le_of_ble_eq_true rfl, Nat.le_of_ble_eq_true rfl⟩) ⟨pW.blind, va_recv hK hPc (ci := 7) (q0 := 0) rfl rfl, (pW.pre ⟨hK, hN⟩ hPc hDc)⟩ rfl rfl hl.1 rfl (lv_room (Nat.le_of_ble_eq_true rfl)) dX7_feed_67 ⟨Nat.le_of_ble_eq_true rfl, Nat.le_of_ble_eq_true rfl⟩) hS (fun q _ h => hFc q h) hFc (fun  u_15 tt H1 locs ht hvm hw hB hz1 hk1 hS => ?_)
  obtain ⟨hP1, hD1⟩ := hB
  rw [ht] at hP1
  obtain ⟨hP, hD⟩ := va_join (wr := [(x, .inr (8, [.ref t, .ref rd, .ref sc, .ref n, .ref tr, .ref kp, .ref bk, .ref kb, .ref hi, .ref dr, .ref rf, .int 0]))]) (w1 := [(t, .inr (7, [.ref b1, .int (nI (((0 + nb p0) + nb p1) + nb p2))])), (b1, .inl (E.2.2.1, 320, .inl u_15))]) hP hD [1, 2] [0] rfl rfl (by decide) (by decide) hk1 hFc hP1 hD1
  generalize H1 = H at hP hS ⊢
  have hP : va_P E.1 vwCl [(x, .inr (8, [.ref t, .ref rd, .ref sc, .ref n, .ref tr, .ref kp, .ref bk, .ref kb, .ref hi, .ref dr, .ref rf, .int 0])), (t, .inr (7, [.ref b1, .int (nI (((0 + nb p0) + nb p1) + nb p2))])), (b1, .inl (E.2.2.1, 320, .inl u_15))] H := hP
  have hD : va_D A [(x, .inr (8, [.ref t, .ref rd, .ref sc, .ref n, .ref tr, .ref kp, .ref bk, .ref kb, .ref hi, .ref dr, .ref rf, .int 0])), (t, .inr (7, [.ref b1, .int (nI (((0 + nb p0) + nb p1) + nb p2))])), (b1, .inl (E.2.2.1, 320, .inl u_15))] := hD
  have hsw_16 := hw
  refine lv_aload_n hx hb dX7_feed_70 rfl (lv_at hl 1 rfl) ?_
  refine va_get (D := E.1) (ci := 8) (v := .ref t) (C := RX7) (T := TX7) (N := 12) hx hb hts i_c_feed_X7 hown hK hP 0 rfl rfl 0 (by decide) (hts (.fieldLink RX7 10 "HushWatch" "tape" "LHushWatch$Tape;") (List.mem_of_getElem? (i := 1) rfl)) (fun _ h9 => h9) rfl dX7_feed_71 ?_
  refine lv_iload hx hb dX7_feed_74 (lv_at hl 5 rfl) ?_
  have hPc := hP.sub (ws' := [(t, .inr (7, [.ref b1, .int (nI (((0 + nb p0) + nb p1) + nb p2))])), (b1, .inl (E.2.2.1, 320, .inl u_15))]) [1, 2] rfl
  have hDc := hD.sub (ws' := [(t, .inr (7, [.ref b1, .int (nI (((0 + nb p0) + nb p1) + nb p2))])), (b1, .inl (E.2.2.1, 320, .inl u_15))]) [1, 2] (by decide) rfl
  have hFc := va_free (wc := [(t, .inr (7, [.ref b1, .int (nI (((0 + nb p0) + nb p1) + nb p2))])), (b1, .inl (E.2.2.1, 320, .inl u_15))]) hD hS hA [1, 2] rfl
  refine va_callv (va_runV (As := [.int p3]) (rest := []) ⟨hx, hb, hml, hown, hts⟩ (c_take l E H.size t b1 (((0 + nb p0) + nb p1) + nb p2) u_15 p3 (by have h0 := nb_le p0; have h1 := nb_le p1; have h2 := nb_le p2; have h3 := nb_le p3; have h4 := nb_le p4; omega)) (cwV 1 hts g_c_feed_c_take_85 rfl rfl rfl (by decide +kernel) ⟨Nat.le_of_ble_eq_true rfl, Nat.le_of_ble_eq_true rfl⟩) ⟨pW.blind, va_recv hK hPc (ci := 7) (q0 := 0) rfl rfl, (pW.pre ⟨hK, hN⟩ hPc hDc)⟩ rfl rfl hl.1 rfl (lv_room (Nat.le_of_ble_eq_true rfl)) dX7_feed_76 ⟨Nat.le_of_ble_eq_true rfl, Nat.le_of_ble_eq_true rfl⟩) hS (fun q _ h => hFc q h) hFc (fun  u_17 tt H1 locs ht hvm hw hB hz1 hk1 hS => ?_)
  obtain ⟨hP1, hD1⟩ := hB
  rw [ht] at hP1
  obtain ⟨hP, hD⟩ := va_join (wr := [(x, .inr (8, [.ref t, .ref rd, .ref sc, .ref n, .ref tr, .ref kp, .ref bk, .ref kb, .ref hi, .ref dr, .ref rf, .int 0]))]) (w1 := [(t, .inr (7, [.ref b1, .int (nI ((((0 + nb p0) + nb p1) + nb p2) + nb p3))])), (b1, .inl (E.2.2.1, 320, .inl u_17))]) hP hD [1, 2] [0] rfl rfl (by decide) (by decide) hk1 hFc hP1 hD1
  generalize H1 = H at hP hS ⊢
  have hP : va_P E.1 vwCl [(x, .inr (8, [.ref t, .ref rd, .ref sc, .ref n, .ref tr, .ref kp, .ref bk, .ref kb, .ref hi, .ref dr, .ref rf, .int 0])), (t, .inr (7, [.ref b1, .int (nI ((((0 + nb p0) + nb p1) + nb p2) + nb p3))])), (b1, .inl (E.2.2.1, 320, .inl u_17))] H := hP
  have hD : va_D A [(x, .inr (8, [.ref t, .ref rd, .ref sc, .ref n, .ref tr, .ref kp, .ref bk, .ref kb, .ref hi, .ref dr, .ref rf, .int 0])), (t, .inr (7, [.ref b1, .int (nI ((((0 + nb p0) + nb p1) + nb p2) + nb p3))])), (b1, .inl (E.2.2.1, 320, .inl u_17))] := hD
  have hsw_18 := hw
  refine lv_aload_n hx hb dX7_feed_79 rfl (lv_at hl 1 rfl) ?_
  refine va_get (D := E.1) (ci := 8) (v := .ref t) (C := RX7) (T := TX7) (N := 12) hx hb hts i_c_feed_X7 hown hK hP 0 rfl rfl 0 (by decide) (hts (.fieldLink RX7 10 "HushWatch" "tape" "LHushWatch$Tape;") (List.mem_of_getElem? (i := 1) rfl)) (fun _ h9 => h9) rfl dX7_feed_80 ?_
  refine lv_iload hx hb dX7_feed_83 (lv_at hl 6 rfl) ?_
  have hPc := hP.sub (ws' := [(t, .inr (7, [.ref b1, .int (nI ((((0 + nb p0) + nb p1) + nb p2) + nb p3))])), (b1, .inl (E.2.2.1, 320, .inl u_17))]) [1, 2] rfl
  have hDc := hD.sub (ws' := [(t, .inr (7, [.ref b1, .int (nI ((((0 + nb p0) + nb p1) + nb p2) + nb p3))])), (b1, .inl (E.2.2.1, 320, .inl u_17))]) [1, 2] (by decide) rfl
  have hFc := va_free (wc := [(t, .inr (7, [.ref b1, .int (nI ((((0 + nb p0) + nb p1) + nb p2) + nb p3))])), (b1, .inl (E.2.2.1, 320, .inl u_17))]) hD hS hA [1, 2] rfl
  refine va_callv (va_runV (As := [.int p4]) (rest := []) ⟨hx, hb, hml, hown, hts⟩ (c_take l E H.size t b1 ((((0 + nb p0) + nb p1) + nb p2) + nb p3) u_17 p4 (by have h0 := nb_le p0; have h1 := nb_le p1; have h2 := nb_le p2; have h3 := nb_le p3; have h4 := nb_le p4; omega)) (cwV 1 hts g_c_feed_c_take_85 rfl rfl rfl (by decide +kernel) ⟨Nat.le_of_ble_eq_true rfl, Nat.le_of_ble_eq_true rfl⟩) ⟨pW.blind, va_recv hK hPc (ci := 7) (q0 := 0) rfl rfl, (pW.pre ⟨hK, hN⟩ hPc hDc)⟩ rfl rfl hl.1 rfl (lv_room (Nat.le_of_ble_eq_true rfl)) dX7_feed_85 ⟨Nat.le_of_ble_eq_true rfl, Nat.le_of_ble_eq_true rfl⟩) hS (fun q _ h => hFc q h) hFc (fun  u_19 tt H1 locs ht hvm hw hB hz1 hk1 hS => ?_)
  obtain ⟨hP1, hD1⟩ := hB
  rw [ht] at hP1
  obtain ⟨hP, hD⟩ := va_join (wr := [(x, .inr (8, [.ref t, .ref rd, .ref sc, .ref n, .ref tr, .ref kp, .ref bk, .ref kb, .ref hi, .ref dr, .ref rf, .int 0]))]) (w1 := [(t, .inr (7, [.ref b1, .int (nI (((((0 + nb p0) + nb p1) + nb p2) + nb p3) + nb p4))])), (b1, .inl (E.2.2.1, 320, .inl u_19))]) hP hD [1, 2] [0] rfl rfl (by decide) (by decide) hk1 hFc hP1 hD1
  generalize H1 = H at hP hS ⊢
  have hP : va_P E.1 vwCl [(x, .inr (8, [.ref t, .ref rd, .ref sc, .ref n, .ref tr, .ref kp, .ref bk, .ref kb, .ref hi, .ref dr, .ref rf, .int 0])), (t, .inr (7, [.ref b1, .int (nI (((((0 + nb p0) + nb p1) + nb p2) + nb p3) + nb p4))])), (b1, .inl (E.2.2.1, 320, .inl u_19))] H := hP
  have hD : va_D A [(x, .inr (8, [.ref t, .ref rd, .ref sc, .ref n, .ref tr, .ref kp, .ref bk, .ref kb, .ref hi, .ref dr, .ref rf, .int 0])), (t, .inr (7, [.ref b1, .int (nI (((((0 + nb p0) + nb p1) + nb p2) + nb p3) + nb p4))])), (b1, .inl (E.2.2.1, 320, .inl u_19))] := hD
  have hsw_20 := hw
  refine lv_aload_n hx hb dX7_feed_88 rfl (lv_at hl 1 rfl) ?_
  refine va_get (D := E.1) (ci := 8) (v := .ref t) (C := RX7) (T := TX7) (N := 12) hx hb hts i_c_feed_X7 hown hK hP 0 rfl rfl 0 (by decide) (hts (.fieldLink RX7 10 "HushWatch" "tape" "LHushWatch$Tape;") (List.mem_of_getElem? (i := 1) rfl)) (fun _ h9 => h9) rfl dX7_feed_89 ?_
  refine va_getN (D := E.1) (ci := 7) (v := .int (nI (((((0 + nb p0) + nb p1) + nb p2) + nb p3) + nb p4))) (C := RX6) (T := TX6) (N := 2) hx hb hts i_c_feed_X6 hown hK hP 1 rfl rfl 1 (by decide) (nx hN 1 rfl) (fun _ h9 => h9) rfl dX7_feed_92 ?_
  have hP9 : va_P E.1 vwCl [] H := fun k q h => by simp at h
  have hD9 : va_D A [] := ⟨fun i j p q h => by simp at h, fun k q h => by simp at h⟩
  exact W.iret (v := nI (((((0 + nb p0) + nb p1) + nb p2) + nb p3) + nb p4)) hx hb hr (fun tt ht hW => ⟨⟨_, (), rfl, (by unfold feedv; rw [Nat.zero_add]), by rw [ht]; exact hP9, hD9⟩, hS.F ht⟩) hS.2.2 dX7_feed_95

def v_d_byteOf0 : List Cond := .code yX8_byteOf cX8_byteOf 7 (some .int) :: ([] ++ ([]))
theorem gw_d_byteOf0 : v_d_byteOf0.all goodWord = true := by decide +kernel
set_option maxHeartbeats 4000000 in
set_option maxRecDepth 100000 in
theorem d_byteOf0 (l : Launch) (E : EE) (p0 p1 p2 p3 p4 : Int32) : Met l yX8_byteOf v_d_byteOf0 ({ frames := 0, cells := 0, slots := 0, locals := 0 }) (va_Pc [.int p0, .int p1, .int p2, .int p3, .int p4, .int 0] (pP E [])) (vp_Si (fun r => r = bz p0 24)) 0 0 (fun _ => False) := by
  refine Met.ofW (cc := cX8_byteOf) (maxL := 7) (ret := (some .int)) (by decide) rfl ?_
  intro p e s m args below meth c s₁ B hml hv
  obtain ⟨rfl, ⟨hK, hN⟩, hP⟩ := hv
  have hx := B.exec
  have hb := B.bytes
  have hr := B.returns
  have hts := atoms_spec (ws := v_d_byteOf0) B.pre
  have hown : s.vm.findClass RX8 = some m.cls := findClass_of_methodNamed B.named
  have hlocks := B.notSynchronized
  have hP : va_P E.1 vwCl [] s.heap := hP
  have hl := lv_entry ([.int p0, .int p1, .int p2, .int p3, .int p4, .int 0]) (n := 7) (Nat.le_of_ble_eq_true rfl)
  rw [lg_entry_eq]
  generalize (lg_sl ([.int p0, .int p1, .int p2, .int p3, .int p4, .int 0]) ++ List.replicate (7 - (lg_sl ([.int p0, .int p1, .int p2, .int p3, .int p4, .int 0])).length) Slot.unset).toArray = ls at hl ⊢
  have hl : lv_has ls 7 [(0, .int p0), (1, .int p1), (2, .int p2), (3, .int p3), (4, .int p4), (5, .int 0)] := hl
  refine lv_iload hx hb dX8_byteOf_0 (lv_at hl 5 rfl) ?_
  refine lv_iconst (v := 4) hx hb dX8_byteOf_2 (by decide) ?_
  refine lv_icmp_ge (tgt := 10) hx hb dX8_byteOf_3 (by decide) (fun q => absurd q (by decide)) (fun _ => ?_)
  refine lv_iload_n hx hb dX8_byteOf_6 rfl (lv_at hl 0 rfl) ?_
  refine lv_goto (tgt := 45) hx hb dX8_byteOf_7 (by decide) ?_
  refine lv_istore (lv' := [(6, .int p0), (0, .int p0), (1, .int p1), (2, .int p2), (3, .int p3), (4, .int p4), (5, .int 0)]) hx hb dX8_byteOf_45 hl (by decide) rfl (fun ls hl => ?_)
  refine lv_iload hx hb dX8_byteOf_47 (lv_at hl 0 rfl) ?_
  refine lv_bipush (v := 24) hx hb dX8_byteOf_49 (by decide) ?_
  refine lv_bipush (v := 8) hx hb dX8_byteOf_51 (by decide) ?_
  refine lv_iload hx hb dX8_byteOf_53 (lv_at hl 6 rfl) ?_
  refine lv_iconst (v := 4) hx hb dX8_byteOf_55 (by decide) ?_
  refine lv_irem hx hb dX8_byteOf_56 (by decide) ?_
  refine lv_topi (fun z_1 ez_1 => ?_)
  obtain rfl : z_1 = 0 := ez_1.trans (by decide)
  refine lv_imul hx hb dX8_byteOf_57 ?_
  refine lv_topi (fun z_2 ez_2 => ?_)
  obtain rfl : z_2 = 0 := ez_2.trans (by decide)
  refine lv_isub hx hb dX8_byteOf_58 ?_
  refine lv_topi (fun z_3 ez_3 => ?_)
  obtain rfl : z_3 = 24 := ez_3.trans (by decide)
  refine lv_ishr hx hb dX8_byteOf_59 ?_
  refine lv_topi (fun z_4 ez_4 => ?_)
  refine lv_sipush (v := 255) hx hb dX8_byteOf_60 (by decide) ?_
  refine lv_iand hx hb dX8_byteOf_63 ?_
  refine lv_topi (fun z_5 ez_5 => ?_)
  exact W.iret (v := z_5) hx hb hr (fun tt ht hW => ⟨_, rfl, (ez_5.trans (by rw [ez_4]; rfl)), ht⟩) (fun _ h => by cases h) dX8_byteOf_64

def v_d_byteOf1 : List Cond := .code yX8_byteOf cX8_byteOf 7 (some .int) :: ([] ++ ([]))
theorem gw_d_byteOf1 : v_d_byteOf1.all goodWord = true := by decide +kernel
set_option maxHeartbeats 4000000 in
set_option maxRecDepth 100000 in
theorem d_byteOf1 (l : Launch) (E : EE) (p0 p1 p2 p3 p4 : Int32) : Met l yX8_byteOf v_d_byteOf1 ({ frames := 0, cells := 0, slots := 0, locals := 0 }) (va_Pc [.int p0, .int p1, .int p2, .int p3, .int p4, .int 1] (pP E [])) (vp_Si (fun r => r = bz p0 16)) 0 0 (fun _ => False) := by
  refine Met.ofW (cc := cX8_byteOf) (maxL := 7) (ret := (some .int)) (by decide) rfl ?_
  intro p e s m args below meth c s₁ B hml hv
  obtain ⟨rfl, ⟨hK, hN⟩, hP⟩ := hv
  have hx := B.exec
  have hb := B.bytes
  have hr := B.returns
  have hts := atoms_spec (ws := v_d_byteOf1) B.pre
  have hown : s.vm.findClass RX8 = some m.cls := findClass_of_methodNamed B.named
  have hlocks := B.notSynchronized
  have hP : va_P E.1 vwCl [] s.heap := hP
  have hl := lv_entry ([.int p0, .int p1, .int p2, .int p3, .int p4, .int 1]) (n := 7) (Nat.le_of_ble_eq_true rfl)
  rw [lg_entry_eq]
  generalize (lg_sl ([.int p0, .int p1, .int p2, .int p3, .int p4, .int 1]) ++ List.replicate (7 - (lg_sl ([.int p0, .int p1, .int p2, .int p3, .int p4, .int 1])).length) Slot.unset).toArray = ls at hl ⊢
  have hl : lv_has ls 7 [(0, .int p0), (1, .int p1), (2, .int p2), (3, .int p3), (4, .int p4), (5, .int 1)] := hl
  refine lv_iload hx hb dX8_byteOf_0 (lv_at hl 5 rfl) ?_
  refine lv_iconst (v := 4) hx hb dX8_byteOf_2 (by decide) ?_
  refine lv_icmp_ge (tgt := 10) hx hb dX8_byteOf_3 (by decide) (fun q => absurd q (by decide)) (fun _ => ?_)
  refine lv_iload_n hx hb dX8_byteOf_6 rfl (lv_at hl 0 rfl) ?_
  refine lv_goto (tgt := 45) hx hb dX8_byteOf_7 (by decide) ?_
  refine lv_istore (lv' := [(6, .int p0), (0, .int p0), (1, .int p1), (2, .int p2), (3, .int p3), (4, .int p4), (5, .int 1)]) hx hb dX8_byteOf_45 hl (by decide) rfl (fun ls hl => ?_)
  refine lv_iload hx hb dX8_byteOf_47 (lv_at hl 0 rfl) ?_
  refine lv_bipush (v := 24) hx hb dX8_byteOf_49 (by decide) ?_
  refine lv_bipush (v := 8) hx hb dX8_byteOf_51 (by decide) ?_
  refine lv_iload hx hb dX8_byteOf_53 (lv_at hl 6 rfl) ?_
  refine lv_iconst (v := 4) hx hb dX8_byteOf_55 (by decide) ?_
  refine lv_irem hx hb dX8_byteOf_56 (by decide) ?_
  refine lv_topi (fun z_1 ez_1 => ?_)
  obtain rfl : z_1 = 1 := ez_1.trans (by decide)
  refine lv_imul hx hb dX8_byteOf_57 ?_
  refine lv_topi (fun z_2 ez_2 => ?_)
  obtain rfl : z_2 = 8 := ez_2.trans (by decide)
  refine lv_isub hx hb dX8_byteOf_58 ?_
  refine lv_topi (fun z_3 ez_3 => ?_)
  obtain rfl : z_3 = 16 := ez_3.trans (by decide)
  refine lv_ishr hx hb dX8_byteOf_59 ?_
  refine lv_topi (fun z_4 ez_4 => ?_)
  refine lv_sipush (v := 255) hx hb dX8_byteOf_60 (by decide) ?_
  refine lv_iand hx hb dX8_byteOf_63 ?_
  refine lv_topi (fun z_5 ez_5 => ?_)
  exact W.iret (v := z_5) hx hb hr (fun tt ht hW => ⟨_, rfl, (ez_5.trans (by rw [ez_4]; rfl)), ht⟩) (fun _ h => by cases h) dX8_byteOf_64

def v_d_byteOf2 : List Cond := .code yX8_byteOf cX8_byteOf 7 (some .int) :: ([] ++ ([]))
theorem gw_d_byteOf2 : v_d_byteOf2.all goodWord = true := by decide +kernel
set_option maxHeartbeats 4000000 in
set_option maxRecDepth 100000 in
theorem d_byteOf2 (l : Launch) (E : EE) (p0 p1 p2 p3 p4 : Int32) : Met l yX8_byteOf v_d_byteOf2 ({ frames := 0, cells := 0, slots := 0, locals := 0 }) (va_Pc [.int p0, .int p1, .int p2, .int p3, .int p4, .int 2] (pP E [])) (vp_Si (fun r => r = bz p0 8)) 0 0 (fun _ => False) := by
  refine Met.ofW (cc := cX8_byteOf) (maxL := 7) (ret := (some .int)) (by decide) rfl ?_
  intro p e s m args below meth c s₁ B hml hv
  obtain ⟨rfl, ⟨hK, hN⟩, hP⟩ := hv
  have hx := B.exec
  have hb := B.bytes
  have hr := B.returns
  have hts := atoms_spec (ws := v_d_byteOf2) B.pre
  have hown : s.vm.findClass RX8 = some m.cls := findClass_of_methodNamed B.named
  have hlocks := B.notSynchronized
  have hP : va_P E.1 vwCl [] s.heap := hP
  have hl := lv_entry ([.int p0, .int p1, .int p2, .int p3, .int p4, .int 2]) (n := 7) (Nat.le_of_ble_eq_true rfl)
  rw [lg_entry_eq]
  generalize (lg_sl ([.int p0, .int p1, .int p2, .int p3, .int p4, .int 2]) ++ List.replicate (7 - (lg_sl ([.int p0, .int p1, .int p2, .int p3, .int p4, .int 2])).length) Slot.unset).toArray = ls at hl ⊢
  have hl : lv_has ls 7 [(0, .int p0), (1, .int p1), (2, .int p2), (3, .int p3), (4, .int p4), (5, .int 2)] := hl
  refine lv_iload hx hb dX8_byteOf_0 (lv_at hl 5 rfl) ?_
  refine lv_iconst (v := 4) hx hb dX8_byteOf_2 (by decide) ?_
  refine lv_icmp_ge (tgt := 10) hx hb dX8_byteOf_3 (by decide) (fun q => absurd q (by decide)) (fun _ => ?_)
  refine lv_iload_n hx hb dX8_byteOf_6 rfl (lv_at hl 0 rfl) ?_
  refine lv_goto (tgt := 45) hx hb dX8_byteOf_7 (by decide) ?_
  refine lv_istore (lv' := [(6, .int p0), (0, .int p0), (1, .int p1), (2, .int p2), (3, .int p3), (4, .int p4), (5, .int 2)]) hx hb dX8_byteOf_45 hl (by decide) rfl (fun ls hl => ?_)
  refine lv_iload hx hb dX8_byteOf_47 (lv_at hl 0 rfl) ?_
  refine lv_bipush (v := 24) hx hb dX8_byteOf_49 (by decide) ?_
  refine lv_bipush (v := 8) hx hb dX8_byteOf_51 (by decide) ?_
  refine lv_iload hx hb dX8_byteOf_53 (lv_at hl 6 rfl) ?_
  refine lv_iconst (v := 4) hx hb dX8_byteOf_55 (by decide) ?_
  refine lv_irem hx hb dX8_byteOf_56 (by decide) ?_
  refine lv_topi (fun z_1 ez_1 => ?_)
  obtain rfl : z_1 = 2 := ez_1.trans (by decide)
  refine lv_imul hx hb dX8_byteOf_57 ?_
  refine lv_topi (fun z_2 ez_2 => ?_)
  obtain rfl : z_2 = 16 := ez_2.trans (by decide)
  refine lv_isub hx hb dX8_byteOf_58 ?_
  refine lv_topi (fun z_3 ez_3 => ?_)
  obtain rfl : z_3 = 8 := ez_3.trans (by decide)
  refine lv_ishr hx hb dX8_byteOf_59 ?_
  refine lv_topi (fun z_4 ez_4 => ?_)
  refine lv_sipush (v := 255) hx hb dX8_byteOf_60 (by decide) ?_
  refine lv_iand hx hb dX8_byteOf_63 ?_
  refine lv_topi (fun z_5 ez_5 => ?_)
  exact W.iret (v := z_5) hx hb hr (fun tt ht hW => ⟨_, rfl, (ez_5.trans (by rw [ez_4]; rfl)), ht⟩) (fun _ h => by cases h) dX8_byteOf_64

def v_d_byteOf3 : List Cond := .code yX8_byteOf cX8_byteOf 7 (some .int) :: ([] ++ ([]))
theorem gw_d_byteOf3 : v_d_byteOf3.all goodWord = true := by decide +kernel
set_option maxHeartbeats 4000000 in
set_option maxRecDepth 100000 in
theorem d_byteOf3 (l : Launch) (E : EE) (p0 p1 p2 p3 p4 : Int32) : Met l yX8_byteOf v_d_byteOf3 ({ frames := 0, cells := 0, slots := 0, locals := 0 }) (va_Pc [.int p0, .int p1, .int p2, .int p3, .int p4, .int 3] (pP E [])) (vp_Si (fun r => r = bz p0 0)) 0 0 (fun _ => False) := by
  refine Met.ofW (cc := cX8_byteOf) (maxL := 7) (ret := (some .int)) (by decide) rfl ?_
  intro p e s m args below meth c s₁ B hml hv
  obtain ⟨rfl, ⟨hK, hN⟩, hP⟩ := hv
  have hx := B.exec
  have hb := B.bytes
  have hr := B.returns
  have hts := atoms_spec (ws := v_d_byteOf3) B.pre
  have hown : s.vm.findClass RX8 = some m.cls := findClass_of_methodNamed B.named
  have hlocks := B.notSynchronized
  have hP : va_P E.1 vwCl [] s.heap := hP
  have hl := lv_entry ([.int p0, .int p1, .int p2, .int p3, .int p4, .int 3]) (n := 7) (Nat.le_of_ble_eq_true rfl)
  rw [lg_entry_eq]
  generalize (lg_sl ([.int p0, .int p1, .int p2, .int p3, .int p4, .int 3]) ++ List.replicate (7 - (lg_sl ([.int p0, .int p1, .int p2, .int p3, .int p4, .int 3])).length) Slot.unset).toArray = ls at hl ⊢
  have hl : lv_has ls 7 [(0, .int p0), (1, .int p1), (2, .int p2), (3, .int p3), (4, .int p4), (5, .int 3)] := hl
  refine lv_iload hx hb dX8_byteOf_0 (lv_at hl 5 rfl) ?_
  refine lv_iconst (v := 4) hx hb dX8_byteOf_2 (by decide) ?_
  refine lv_icmp_ge (tgt := 10) hx hb dX8_byteOf_3 (by decide) (fun q => absurd q (by decide)) (fun _ => ?_)
  refine lv_iload_n hx hb dX8_byteOf_6 rfl (lv_at hl 0 rfl) ?_
  refine lv_goto (tgt := 45) hx hb dX8_byteOf_7 (by decide) ?_
  refine lv_istore (lv' := [(6, .int p0), (0, .int p0), (1, .int p1), (2, .int p2), (3, .int p3), (4, .int p4), (5, .int 3)]) hx hb dX8_byteOf_45 hl (by decide) rfl (fun ls hl => ?_)
  refine lv_iload hx hb dX8_byteOf_47 (lv_at hl 0 rfl) ?_
  refine lv_bipush (v := 24) hx hb dX8_byteOf_49 (by decide) ?_
  refine lv_bipush (v := 8) hx hb dX8_byteOf_51 (by decide) ?_
  refine lv_iload hx hb dX8_byteOf_53 (lv_at hl 6 rfl) ?_
  refine lv_iconst (v := 4) hx hb dX8_byteOf_55 (by decide) ?_
  refine lv_irem hx hb dX8_byteOf_56 (by decide) ?_
  refine lv_topi (fun z_1 ez_1 => ?_)
  obtain rfl : z_1 = 3 := ez_1.trans (by decide)
  refine lv_imul hx hb dX8_byteOf_57 ?_
  refine lv_topi (fun z_2 ez_2 => ?_)
  obtain rfl : z_2 = 24 := ez_2.trans (by decide)
  refine lv_isub hx hb dX8_byteOf_58 ?_
  refine lv_topi (fun z_3 ez_3 => ?_)
  obtain rfl : z_3 = 0 := ez_3.trans (by decide)
  refine lv_ishr hx hb dX8_byteOf_59 ?_
  refine lv_topi (fun z_4 ez_4 => ?_)
  refine lv_sipush (v := 255) hx hb dX8_byteOf_60 (by decide) ?_
  refine lv_iand hx hb dX8_byteOf_63 ?_
  refine lv_topi (fun z_5 ez_5 => ?_)
  exact W.iret (v := z_5) hx hb hr (fun tt ht hW => ⟨_, rfl, (ez_5.trans (by rw [ez_4]; rfl)), ht⟩) (fun _ h => by cases h) dX8_byteOf_64

def v_d_byteOf4 : List Cond := .code yX8_byteOf cX8_byteOf 7 (some .int) :: ([] ++ ([]))
theorem gw_d_byteOf4 : v_d_byteOf4.all goodWord = true := by decide +kernel
set_option maxHeartbeats 4000000 in
set_option maxRecDepth 100000 in
theorem d_byteOf4 (l : Launch) (E : EE) (p0 p1 p2 p3 p4 : Int32) : Met l yX8_byteOf v_d_byteOf4 ({ frames := 0, cells := 0, slots := 0, locals := 0 }) (va_Pc [.int p0, .int p1, .int p2, .int p3, .int p4, .int 4] (pP E [])) (vp_Si (fun r => r = bz p1 24)) 0 0 (fun _ => False) := by
  refine Met.ofW (cc := cX8_byteOf) (maxL := 7) (ret := (some .int)) (by decide) rfl ?_
  intro p e s m args below meth c s₁ B hml hv
  obtain ⟨rfl, ⟨hK, hN⟩, hP⟩ := hv
  have hx := B.exec
  have hb := B.bytes
  have hr := B.returns
  have hts := atoms_spec (ws := v_d_byteOf4) B.pre
  have hown : s.vm.findClass RX8 = some m.cls := findClass_of_methodNamed B.named
  have hlocks := B.notSynchronized
  have hP : va_P E.1 vwCl [] s.heap := hP
  have hl := lv_entry ([.int p0, .int p1, .int p2, .int p3, .int p4, .int 4]) (n := 7) (Nat.le_of_ble_eq_true rfl)
  rw [lg_entry_eq]
  generalize (lg_sl ([.int p0, .int p1, .int p2, .int p3, .int p4, .int 4]) ++ List.replicate (7 - (lg_sl ([.int p0, .int p1, .int p2, .int p3, .int p4, .int 4])).length) Slot.unset).toArray = ls at hl ⊢
  have hl : lv_has ls 7 [(0, .int p0), (1, .int p1), (2, .int p2), (3, .int p3), (4, .int p4), (5, .int 4)] := hl
  refine lv_iload hx hb dX8_byteOf_0 (lv_at hl 5 rfl) ?_
  refine lv_iconst (v := 4) hx hb dX8_byteOf_2 (by decide) ?_
  refine lv_icmp_ge (tgt := 10) hx hb dX8_byteOf_3 (by decide) (fun _ => ?_) (fun q => absurd (by decide) q)
  refine lv_iload hx hb dX8_byteOf_10 (lv_at hl 5 rfl) ?_
  refine lv_bipush (v := 8) hx hb dX8_byteOf_12 (by decide) ?_
  refine lv_icmp_ge (tgt := 21) hx hb dX8_byteOf_14 (by decide) (fun q => absurd q (by decide)) (fun _ => ?_)
  refine lv_iload_n hx hb dX8_byteOf_17 rfl (lv_at hl 1 rfl) ?_
  refine lv_goto (tgt := 45) hx hb dX8_byteOf_18 (by decide) ?_
  refine lv_istore (lv' := [(6, .int p1), (0, .int p0), (1, .int p1), (2, .int p2), (3, .int p3), (4, .int p4), (5, .int 4)]) hx hb dX8_byteOf_45 hl (by decide) rfl (fun ls hl => ?_)
  refine lv_iload hx hb dX8_byteOf_47 (lv_at hl 0 rfl) ?_
  refine lv_bipush (v := 24) hx hb dX8_byteOf_49 (by decide) ?_
  refine lv_bipush (v := 8) hx hb dX8_byteOf_51 (by decide) ?_
  refine lv_iload hx hb dX8_byteOf_53 (lv_at hl 6 rfl) ?_
  refine lv_iconst (v := 4) hx hb dX8_byteOf_55 (by decide) ?_
  refine lv_irem hx hb dX8_byteOf_56 (by decide) ?_
  refine lv_topi (fun z_1 ez_1 => ?_)
  obtain rfl : z_1 = 0 := ez_1.trans (by decide)
  refine lv_imul hx hb dX8_byteOf_57 ?_
  refine lv_topi (fun z_2 ez_2 => ?_)
  obtain rfl : z_2 = 0 := ez_2.trans (by decide)
  refine lv_isub hx hb dX8_byteOf_58 ?_
  refine lv_topi (fun z_3 ez_3 => ?_)
  obtain rfl : z_3 = 24 := ez_3.trans (by decide)
  refine lv_ishr hx hb dX8_byteOf_59 ?_
  refine lv_topi (fun z_4 ez_4 => ?_)
  refine lv_sipush (v := 255) hx hb dX8_byteOf_60 (by decide) ?_
  refine lv_iand hx hb dX8_byteOf_63 ?_
  refine lv_topi (fun z_5 ez_5 => ?_)
  exact W.iret (v := z_5) hx hb hr (fun tt ht hW => ⟨_, rfl, (ez_5.trans (by rw [ez_4]; rfl)), ht⟩) (fun _ h => by cases h) dX8_byteOf_64

def v_d_byteOf5 : List Cond := .code yX8_byteOf cX8_byteOf 7 (some .int) :: ([] ++ ([]))
theorem gw_d_byteOf5 : v_d_byteOf5.all goodWord = true := by decide +kernel
set_option maxHeartbeats 4000000 in
set_option maxRecDepth 100000 in
theorem d_byteOf5 (l : Launch) (E : EE) (p0 p1 p2 p3 p4 : Int32) : Met l yX8_byteOf v_d_byteOf5 ({ frames := 0, cells := 0, slots := 0, locals := 0 }) (va_Pc [.int p0, .int p1, .int p2, .int p3, .int p4, .int 5] (pP E [])) (vp_Si (fun r => r = bz p1 16)) 0 0 (fun _ => False) := by
  refine Met.ofW (cc := cX8_byteOf) (maxL := 7) (ret := (some .int)) (by decide) rfl ?_
  intro p e s m args below meth c s₁ B hml hv
  obtain ⟨rfl, ⟨hK, hN⟩, hP⟩ := hv
  have hx := B.exec
  have hb := B.bytes
  have hr := B.returns
  have hts := atoms_spec (ws := v_d_byteOf5) B.pre
  have hown : s.vm.findClass RX8 = some m.cls := findClass_of_methodNamed B.named
  have hlocks := B.notSynchronized
  have hP : va_P E.1 vwCl [] s.heap := hP
  have hl := lv_entry ([.int p0, .int p1, .int p2, .int p3, .int p4, .int 5]) (n := 7) (Nat.le_of_ble_eq_true rfl)
  rw [lg_entry_eq]
  generalize (lg_sl ([.int p0, .int p1, .int p2, .int p3, .int p4, .int 5]) ++ List.replicate (7 - (lg_sl ([.int p0, .int p1, .int p2, .int p3, .int p4, .int 5])).length) Slot.unset).toArray = ls at hl ⊢
  have hl : lv_has ls 7 [(0, .int p0), (1, .int p1), (2, .int p2), (3, .int p3), (4, .int p4), (5, .int 5)] := hl
  refine lv_iload hx hb dX8_byteOf_0 (lv_at hl 5 rfl) ?_
  refine lv_iconst (v := 4) hx hb dX8_byteOf_2 (by decide) ?_
  refine lv_icmp_ge (tgt := 10) hx hb dX8_byteOf_3 (by decide) (fun _ => ?_) (fun q => absurd (by decide) q)
  refine lv_iload hx hb dX8_byteOf_10 (lv_at hl 5 rfl) ?_
  refine lv_bipush (v := 8) hx hb dX8_byteOf_12 (by decide) ?_
  refine lv_icmp_ge (tgt := 21) hx hb dX8_byteOf_14 (by decide) (fun q => absurd q (by decide)) (fun _ => ?_)
  refine lv_iload_n hx hb dX8_byteOf_17 rfl (lv_at hl 1 rfl) ?_
  refine lv_goto (tgt := 45) hx hb dX8_byteOf_18 (by decide) ?_
  refine lv_istore (lv' := [(6, .int p1), (0, .int p0), (1, .int p1), (2, .int p2), (3, .int p3), (4, .int p4), (5, .int 5)]) hx hb dX8_byteOf_45 hl (by decide) rfl (fun ls hl => ?_)
  refine lv_iload hx hb dX8_byteOf_47 (lv_at hl 0 rfl) ?_
  refine lv_bipush (v := 24) hx hb dX8_byteOf_49 (by decide) ?_
  refine lv_bipush (v := 8) hx hb dX8_byteOf_51 (by decide) ?_
  refine lv_iload hx hb dX8_byteOf_53 (lv_at hl 6 rfl) ?_
  refine lv_iconst (v := 4) hx hb dX8_byteOf_55 (by decide) ?_
  refine lv_irem hx hb dX8_byteOf_56 (by decide) ?_
  refine lv_topi (fun z_1 ez_1 => ?_)
  obtain rfl : z_1 = 1 := ez_1.trans (by decide)
  refine lv_imul hx hb dX8_byteOf_57 ?_
  refine lv_topi (fun z_2 ez_2 => ?_)
  obtain rfl : z_2 = 8 := ez_2.trans (by decide)
  refine lv_isub hx hb dX8_byteOf_58 ?_
  refine lv_topi (fun z_3 ez_3 => ?_)
  obtain rfl : z_3 = 16 := ez_3.trans (by decide)
  refine lv_ishr hx hb dX8_byteOf_59 ?_
  refine lv_topi (fun z_4 ez_4 => ?_)
  refine lv_sipush (v := 255) hx hb dX8_byteOf_60 (by decide) ?_
  refine lv_iand hx hb dX8_byteOf_63 ?_
  refine lv_topi (fun z_5 ez_5 => ?_)
  exact W.iret (v := z_5) hx hb hr (fun tt ht hW => ⟨_, rfl, (ez_5.trans (by rw [ez_4]; rfl)), ht⟩) (fun _ h => by cases h) dX8_byteOf_64

def v_d_byteOf6 : List Cond := .code yX8_byteOf cX8_byteOf 7 (some .int) :: ([] ++ ([]))
theorem gw_d_byteOf6 : v_d_byteOf6.all goodWord = true := by decide +kernel
set_option maxHeartbeats 4000000 in
set_option maxRecDepth 100000 in
theorem d_byteOf6 (l : Launch) (E : EE) (p0 p1 p2 p3 p4 : Int32) : Met l yX8_byteOf v_d_byteOf6 ({ frames := 0, cells := 0, slots := 0, locals := 0 }) (va_Pc [.int p0, .int p1, .int p2, .int p3, .int p4, .int 6] (pP E [])) (vp_Si (fun r => r = bz p1 8)) 0 0 (fun _ => False) := by
  refine Met.ofW (cc := cX8_byteOf) (maxL := 7) (ret := (some .int)) (by decide) rfl ?_
  intro p e s m args below meth c s₁ B hml hv
  obtain ⟨rfl, ⟨hK, hN⟩, hP⟩ := hv
  have hx := B.exec
  have hb := B.bytes
  have hr := B.returns
  have hts := atoms_spec (ws := v_d_byteOf6) B.pre
  have hown : s.vm.findClass RX8 = some m.cls := findClass_of_methodNamed B.named
  have hlocks := B.notSynchronized
  have hP : va_P E.1 vwCl [] s.heap := hP
  have hl := lv_entry ([.int p0, .int p1, .int p2, .int p3, .int p4, .int 6]) (n := 7) (Nat.le_of_ble_eq_true rfl)
  rw [lg_entry_eq]
  generalize (lg_sl ([.int p0, .int p1, .int p2, .int p3, .int p4, .int 6]) ++ List.replicate (7 - (lg_sl ([.int p0, .int p1, .int p2, .int p3, .int p4, .int 6])).length) Slot.unset).toArray = ls at hl ⊢
  have hl : lv_has ls 7 [(0, .int p0), (1, .int p1), (2, .int p2), (3, .int p3), (4, .int p4), (5, .int 6)] := hl
  refine lv_iload hx hb dX8_byteOf_0 (lv_at hl 5 rfl) ?_
  refine lv_iconst (v := 4) hx hb dX8_byteOf_2 (by decide) ?_
  refine lv_icmp_ge (tgt := 10) hx hb dX8_byteOf_3 (by decide) (fun _ => ?_) (fun q => absurd (by decide) q)
  refine lv_iload hx hb dX8_byteOf_10 (lv_at hl 5 rfl) ?_
  refine lv_bipush (v := 8) hx hb dX8_byteOf_12 (by decide) ?_
  refine lv_icmp_ge (tgt := 21) hx hb dX8_byteOf_14 (by decide) (fun q => absurd q (by decide)) (fun _ => ?_)
  refine lv_iload_n hx hb dX8_byteOf_17 rfl (lv_at hl 1 rfl) ?_
  refine lv_goto (tgt := 45) hx hb dX8_byteOf_18 (by decide) ?_
  refine lv_istore (lv' := [(6, .int p1), (0, .int p0), (1, .int p1), (2, .int p2), (3, .int p3), (4, .int p4), (5, .int 6)]) hx hb dX8_byteOf_45 hl (by decide) rfl (fun ls hl => ?_)
  refine lv_iload hx hb dX8_byteOf_47 (lv_at hl 0 rfl) ?_
  refine lv_bipush (v := 24) hx hb dX8_byteOf_49 (by decide) ?_
  refine lv_bipush (v := 8) hx hb dX8_byteOf_51 (by decide) ?_
  refine lv_iload hx hb dX8_byteOf_53 (lv_at hl 6 rfl) ?_
  refine lv_iconst (v := 4) hx hb dX8_byteOf_55 (by decide) ?_
  refine lv_irem hx hb dX8_byteOf_56 (by decide) ?_
  refine lv_topi (fun z_1 ez_1 => ?_)
  obtain rfl : z_1 = 2 := ez_1.trans (by decide)
  refine lv_imul hx hb dX8_byteOf_57 ?_
  refine lv_topi (fun z_2 ez_2 => ?_)
  obtain rfl : z_2 = 16 := ez_2.trans (by decide)
  refine lv_isub hx hb dX8_byteOf_58 ?_
  refine lv_topi (fun z_3 ez_3 => ?_)
  obtain rfl : z_3 = 8 := ez_3.trans (by decide)
  refine lv_ishr hx hb dX8_byteOf_59 ?_
  refine lv_topi (fun z_4 ez_4 => ?_)
  refine lv_sipush (v := 255) hx hb dX8_byteOf_60 (by decide) ?_
  refine lv_iand hx hb dX8_byteOf_63 ?_
  refine lv_topi (fun z_5 ez_5 => ?_)
  exact W.iret (v := z_5) hx hb hr (fun tt ht hW => ⟨_, rfl, (ez_5.trans (by rw [ez_4]; rfl)), ht⟩) (fun _ h => by cases h) dX8_byteOf_64

def v_d_byteOf7 : List Cond := .code yX8_byteOf cX8_byteOf 7 (some .int) :: ([] ++ ([]))
theorem gw_d_byteOf7 : v_d_byteOf7.all goodWord = true := by decide +kernel
set_option maxHeartbeats 4000000 in
set_option maxRecDepth 100000 in
theorem d_byteOf7 (l : Launch) (E : EE) (p0 p1 p2 p3 p4 : Int32) : Met l yX8_byteOf v_d_byteOf7 ({ frames := 0, cells := 0, slots := 0, locals := 0 }) (va_Pc [.int p0, .int p1, .int p2, .int p3, .int p4, .int 7] (pP E [])) (vp_Si (fun r => r = bz p1 0)) 0 0 (fun _ => False) := by
  refine Met.ofW (cc := cX8_byteOf) (maxL := 7) (ret := (some .int)) (by decide) rfl ?_
  intro p e s m args below meth c s₁ B hml hv
  obtain ⟨rfl, ⟨hK, hN⟩, hP⟩ := hv
  have hx := B.exec
  have hb := B.bytes
  have hr := B.returns
  have hts := atoms_spec (ws := v_d_byteOf7) B.pre
  have hown : s.vm.findClass RX8 = some m.cls := findClass_of_methodNamed B.named
  have hlocks := B.notSynchronized
  have hP : va_P E.1 vwCl [] s.heap := hP
  have hl := lv_entry ([.int p0, .int p1, .int p2, .int p3, .int p4, .int 7]) (n := 7) (Nat.le_of_ble_eq_true rfl)
  rw [lg_entry_eq]
  generalize (lg_sl ([.int p0, .int p1, .int p2, .int p3, .int p4, .int 7]) ++ List.replicate (7 - (lg_sl ([.int p0, .int p1, .int p2, .int p3, .int p4, .int 7])).length) Slot.unset).toArray = ls at hl ⊢
  have hl : lv_has ls 7 [(0, .int p0), (1, .int p1), (2, .int p2), (3, .int p3), (4, .int p4), (5, .int 7)] := hl
  refine lv_iload hx hb dX8_byteOf_0 (lv_at hl 5 rfl) ?_
  refine lv_iconst (v := 4) hx hb dX8_byteOf_2 (by decide) ?_
  refine lv_icmp_ge (tgt := 10) hx hb dX8_byteOf_3 (by decide) (fun _ => ?_) (fun q => absurd (by decide) q)
  refine lv_iload hx hb dX8_byteOf_10 (lv_at hl 5 rfl) ?_
  refine lv_bipush (v := 8) hx hb dX8_byteOf_12 (by decide) ?_
  refine lv_icmp_ge (tgt := 21) hx hb dX8_byteOf_14 (by decide) (fun q => absurd q (by decide)) (fun _ => ?_)
  refine lv_iload_n hx hb dX8_byteOf_17 rfl (lv_at hl 1 rfl) ?_
  refine lv_goto (tgt := 45) hx hb dX8_byteOf_18 (by decide) ?_
  refine lv_istore (lv' := [(6, .int p1), (0, .int p0), (1, .int p1), (2, .int p2), (3, .int p3), (4, .int p4), (5, .int 7)]) hx hb dX8_byteOf_45 hl (by decide) rfl (fun ls hl => ?_)
  refine lv_iload hx hb dX8_byteOf_47 (lv_at hl 0 rfl) ?_
  refine lv_bipush (v := 24) hx hb dX8_byteOf_49 (by decide) ?_
  refine lv_bipush (v := 8) hx hb dX8_byteOf_51 (by decide) ?_
  refine lv_iload hx hb dX8_byteOf_53 (lv_at hl 6 rfl) ?_
  refine lv_iconst (v := 4) hx hb dX8_byteOf_55 (by decide) ?_
  refine lv_irem hx hb dX8_byteOf_56 (by decide) ?_
  refine lv_topi (fun z_1 ez_1 => ?_)
  obtain rfl : z_1 = 3 := ez_1.trans (by decide)
  refine lv_imul hx hb dX8_byteOf_57 ?_
  refine lv_topi (fun z_2 ez_2 => ?_)
  obtain rfl : z_2 = 24 := ez_2.trans (by decide)
  refine lv_isub hx hb dX8_byteOf_58 ?_
  refine lv_topi (fun z_3 ez_3 => ?_)
  obtain rfl : z_3 = 0 := ez_3.trans (by decide)
  refine lv_ishr hx hb dX8_byteOf_59 ?_
  refine lv_topi (fun z_4 ez_4 => ?_)
  refine lv_sipush (v := 255) hx hb dX8_byteOf_60 (by decide) ?_
  refine lv_iand hx hb dX8_byteOf_63 ?_
  refine lv_topi (fun z_5 ez_5 => ?_)
  exact W.iret (v := z_5) hx hb hr (fun tt ht hW => ⟨_, rfl, (ez_5.trans (by rw [ez_4]; rfl)), ht⟩) (fun _ h => by cases h) dX8_byteOf_64

def v_d_byteOf8 : List Cond := .code yX8_byteOf cX8_byteOf 7 (some .int) :: ([] ++ ([]))
theorem gw_d_byteOf8 : v_d_byteOf8.all goodWord = true := by decide +kernel
set_option maxHeartbeats 4000000 in
set_option maxRecDepth 100000 in
theorem d_byteOf8 (l : Launch) (E : EE) (p0 p1 p2 p3 p4 : Int32) : Met l yX8_byteOf v_d_byteOf8 ({ frames := 0, cells := 0, slots := 0, locals := 0 }) (va_Pc [.int p0, .int p1, .int p2, .int p3, .int p4, .int 8] (pP E [])) (vp_Si (fun r => r = bz p2 24)) 0 0 (fun _ => False) := by
  refine Met.ofW (cc := cX8_byteOf) (maxL := 7) (ret := (some .int)) (by decide) rfl ?_
  intro p e s m args below meth c s₁ B hml hv
  obtain ⟨rfl, ⟨hK, hN⟩, hP⟩ := hv
  have hx := B.exec
  have hb := B.bytes
  have hr := B.returns
  have hts := atoms_spec (ws := v_d_byteOf8) B.pre
  have hown : s.vm.findClass RX8 = some m.cls := findClass_of_methodNamed B.named
  have hlocks := B.notSynchronized
  have hP : va_P E.1 vwCl [] s.heap := hP
  have hl := lv_entry ([.int p0, .int p1, .int p2, .int p3, .int p4, .int 8]) (n := 7) (Nat.le_of_ble_eq_true rfl)
  rw [lg_entry_eq]
  generalize (lg_sl ([.int p0, .int p1, .int p2, .int p3, .int p4, .int 8]) ++ List.replicate (7 - (lg_sl ([.int p0, .int p1, .int p2, .int p3, .int p4, .int 8])).length) Slot.unset).toArray = ls at hl ⊢
  have hl : lv_has ls 7 [(0, .int p0), (1, .int p1), (2, .int p2), (3, .int p3), (4, .int p4), (5, .int 8)] := hl
  refine lv_iload hx hb dX8_byteOf_0 (lv_at hl 5 rfl) ?_
  refine lv_iconst (v := 4) hx hb dX8_byteOf_2 (by decide) ?_
  refine lv_icmp_ge (tgt := 10) hx hb dX8_byteOf_3 (by decide) (fun _ => ?_) (fun q => absurd (by decide) q)
  refine lv_iload hx hb dX8_byteOf_10 (lv_at hl 5 rfl) ?_
  refine lv_bipush (v := 8) hx hb dX8_byteOf_12 (by decide) ?_
  refine lv_icmp_ge (tgt := 21) hx hb dX8_byteOf_14 (by decide) (fun _ => ?_) (fun q => absurd (by decide) q)
  refine lv_iload hx hb dX8_byteOf_21 (lv_at hl 5 rfl) ?_
  refine lv_bipush (v := 12) hx hb dX8_byteOf_23 (by decide) ?_
  refine lv_icmp_ge (tgt := 32) hx hb dX8_byteOf_25 (by decide) (fun q => absurd q (by decide)) (fun _ => ?_)
  refine lv_iload_n hx hb dX8_byteOf_28 rfl (lv_at hl 2 rfl) ?_
  refine lv_goto (tgt := 45) hx hb dX8_byteOf_29 (by decide) ?_
  refine lv_istore (lv' := [(6, .int p2), (0, .int p0), (1, .int p1), (2, .int p2), (3, .int p3), (4, .int p4), (5, .int 8)]) hx hb dX8_byteOf_45 hl (by decide) rfl (fun ls hl => ?_)
  refine lv_iload hx hb dX8_byteOf_47 (lv_at hl 0 rfl) ?_
  refine lv_bipush (v := 24) hx hb dX8_byteOf_49 (by decide) ?_
  refine lv_bipush (v := 8) hx hb dX8_byteOf_51 (by decide) ?_
  refine lv_iload hx hb dX8_byteOf_53 (lv_at hl 6 rfl) ?_
  refine lv_iconst (v := 4) hx hb dX8_byteOf_55 (by decide) ?_
  refine lv_irem hx hb dX8_byteOf_56 (by decide) ?_
  refine lv_topi (fun z_1 ez_1 => ?_)
  obtain rfl : z_1 = 0 := ez_1.trans (by decide)
  refine lv_imul hx hb dX8_byteOf_57 ?_
  refine lv_topi (fun z_2 ez_2 => ?_)
  obtain rfl : z_2 = 0 := ez_2.trans (by decide)
  refine lv_isub hx hb dX8_byteOf_58 ?_
  refine lv_topi (fun z_3 ez_3 => ?_)
  obtain rfl : z_3 = 24 := ez_3.trans (by decide)
  refine lv_ishr hx hb dX8_byteOf_59 ?_
  refine lv_topi (fun z_4 ez_4 => ?_)
  refine lv_sipush (v := 255) hx hb dX8_byteOf_60 (by decide) ?_
  refine lv_iand hx hb dX8_byteOf_63 ?_
  refine lv_topi (fun z_5 ez_5 => ?_)
  exact W.iret (v := z_5) hx hb hr (fun tt ht hW => ⟨_, rfl, (ez_5.trans (by rw [ez_4]; rfl)), ht⟩) (fun _ h => by cases h) dX8_byteOf_64

def v_d_byteOf9 : List Cond := .code yX8_byteOf cX8_byteOf 7 (some .int) :: ([] ++ ([]))
theorem gw_d_byteOf9 : v_d_byteOf9.all goodWord = true := by decide +kernel
set_option maxHeartbeats 4000000 in
set_option maxRecDepth 100000 in
theorem d_byteOf9 (l : Launch) (E : EE) (p0 p1 p2 p3 p4 : Int32) : Met l yX8_byteOf v_d_byteOf9 ({ frames := 0, cells := 0, slots := 0, locals := 0 }) (va_Pc [.int p0, .int p1, .int p2, .int p3, .int p4, .int 9] (pP E [])) (vp_Si (fun r => r = bz p2 16)) 0 0 (fun _ => False) := by
  refine Met.ofW (cc := cX8_byteOf) (maxL := 7) (ret := (some .int)) (by decide) rfl ?_
  intro p e s m args below meth c s₁ B hml hv
  obtain ⟨rfl, ⟨hK, hN⟩, hP⟩ := hv
  have hx := B.exec
  have hb := B.bytes
  have hr := B.returns
  have hts := atoms_spec (ws := v_d_byteOf9) B.pre
  have hown : s.vm.findClass RX8 = some m.cls := findClass_of_methodNamed B.named
  have hlocks := B.notSynchronized
  have hP : va_P E.1 vwCl [] s.heap := hP
  have hl := lv_entry ([.int p0, .int p1, .int p2, .int p3, .int p4, .int 9]) (n := 7) (Nat.le_of_ble_eq_true rfl)
  rw [lg_entry_eq]
  generalize (lg_sl ([.int p0, .int p1, .int p2, .int p3, .int p4, .int 9]) ++ List.replicate (7 - (lg_sl ([.int p0, .int p1, .int p2, .int p3, .int p4, .int 9])).length) Slot.unset).toArray = ls at hl ⊢
  have hl : lv_has ls 7 [(0, .int p0), (1, .int p1), (2, .int p2), (3, .int p3), (4, .int p4), (5, .int 9)] := hl
  refine lv_iload hx hb dX8_byteOf_0 (lv_at hl 5 rfl) ?_
  refine lv_iconst (v := 4) hx hb dX8_byteOf_2 (by decide) ?_
  refine lv_icmp_ge (tgt := 10) hx hb dX8_byteOf_3 (by decide) (fun _ => ?_) (fun q => absurd (by decide) q)
  refine lv_iload hx hb dX8_byteOf_10 (lv_at hl 5 rfl) ?_
  refine lv_bipush (v := 8) hx hb dX8_byteOf_12 (by decide) ?_
  refine lv_icmp_ge (tgt := 21) hx hb dX8_byteOf_14 (by decide) (fun _ => ?_) (fun q => absurd (by decide) q)
  refine lv_iload hx hb dX8_byteOf_21 (lv_at hl 5 rfl) ?_
  refine lv_bipush (v := 12) hx hb dX8_byteOf_23 (by decide) ?_
  refine lv_icmp_ge (tgt := 32) hx hb dX8_byteOf_25 (by decide) (fun q => absurd q (by decide)) (fun _ => ?_)
  refine lv_iload_n hx hb dX8_byteOf_28 rfl (lv_at hl 2 rfl) ?_
  refine lv_goto (tgt := 45) hx hb dX8_byteOf_29 (by decide) ?_
  refine lv_istore (lv' := [(6, .int p2), (0, .int p0), (1, .int p1), (2, .int p2), (3, .int p3), (4, .int p4), (5, .int 9)]) hx hb dX8_byteOf_45 hl (by decide) rfl (fun ls hl => ?_)
  refine lv_iload hx hb dX8_byteOf_47 (lv_at hl 0 rfl) ?_
  refine lv_bipush (v := 24) hx hb dX8_byteOf_49 (by decide) ?_
  refine lv_bipush (v := 8) hx hb dX8_byteOf_51 (by decide) ?_
  refine lv_iload hx hb dX8_byteOf_53 (lv_at hl 6 rfl) ?_
  refine lv_iconst (v := 4) hx hb dX8_byteOf_55 (by decide) ?_
  refine lv_irem hx hb dX8_byteOf_56 (by decide) ?_
  refine lv_topi (fun z_1 ez_1 => ?_)
  obtain rfl : z_1 = 1 := ez_1.trans (by decide)
  refine lv_imul hx hb dX8_byteOf_57 ?_
  refine lv_topi (fun z_2 ez_2 => ?_)
  obtain rfl : z_2 = 8 := ez_2.trans (by decide)
  refine lv_isub hx hb dX8_byteOf_58 ?_
  refine lv_topi (fun z_3 ez_3 => ?_)
  obtain rfl : z_3 = 16 := ez_3.trans (by decide)
  refine lv_ishr hx hb dX8_byteOf_59 ?_
  refine lv_topi (fun z_4 ez_4 => ?_)
  refine lv_sipush (v := 255) hx hb dX8_byteOf_60 (by decide) ?_
  refine lv_iand hx hb dX8_byteOf_63 ?_
  refine lv_topi (fun z_5 ez_5 => ?_)
  exact W.iret (v := z_5) hx hb hr (fun tt ht hW => ⟨_, rfl, (ez_5.trans (by rw [ez_4]; rfl)), ht⟩) (fun _ h => by cases h) dX8_byteOf_64

def v_d_byteOf10 : List Cond := .code yX8_byteOf cX8_byteOf 7 (some .int) :: ([] ++ ([]))
theorem gw_d_byteOf10 : v_d_byteOf10.all goodWord = true := by decide +kernel
set_option maxHeartbeats 4000000 in
set_option maxRecDepth 100000 in
theorem d_byteOf10 (l : Launch) (E : EE) (p0 p1 p2 p3 p4 : Int32) : Met l yX8_byteOf v_d_byteOf10 ({ frames := 0, cells := 0, slots := 0, locals := 0 }) (va_Pc [.int p0, .int p1, .int p2, .int p3, .int p4, .int 10] (pP E [])) (vp_Si (fun r => r = bz p2 8)) 0 0 (fun _ => False) := by
  refine Met.ofW (cc := cX8_byteOf) (maxL := 7) (ret := (some .int)) (by decide) rfl ?_
  intro p e s m args below meth c s₁ B hml hv
  obtain ⟨rfl, ⟨hK, hN⟩, hP⟩ := hv
  have hx := B.exec
  have hb := B.bytes
  have hr := B.returns
  have hts := atoms_spec (ws := v_d_byteOf10) B.pre
  have hown : s.vm.findClass RX8 = some m.cls := findClass_of_methodNamed B.named
  have hlocks := B.notSynchronized
  have hP : va_P E.1 vwCl [] s.heap := hP
  have hl := lv_entry ([.int p0, .int p1, .int p2, .int p3, .int p4, .int 10]) (n := 7) (Nat.le_of_ble_eq_true rfl)
  rw [lg_entry_eq]
  generalize (lg_sl ([.int p0, .int p1, .int p2, .int p3, .int p4, .int 10]) ++ List.replicate (7 - (lg_sl ([.int p0, .int p1, .int p2, .int p3, .int p4, .int 10])).length) Slot.unset).toArray = ls at hl ⊢
  have hl : lv_has ls 7 [(0, .int p0), (1, .int p1), (2, .int p2), (3, .int p3), (4, .int p4), (5, .int 10)] := hl
  refine lv_iload hx hb dX8_byteOf_0 (lv_at hl 5 rfl) ?_
  refine lv_iconst (v := 4) hx hb dX8_byteOf_2 (by decide) ?_
  refine lv_icmp_ge (tgt := 10) hx hb dX8_byteOf_3 (by decide) (fun _ => ?_) (fun q => absurd (by decide) q)
  refine lv_iload hx hb dX8_byteOf_10 (lv_at hl 5 rfl) ?_
  refine lv_bipush (v := 8) hx hb dX8_byteOf_12 (by decide) ?_
  refine lv_icmp_ge (tgt := 21) hx hb dX8_byteOf_14 (by decide) (fun _ => ?_) (fun q => absurd (by decide) q)
  refine lv_iload hx hb dX8_byteOf_21 (lv_at hl 5 rfl) ?_
  refine lv_bipush (v := 12) hx hb dX8_byteOf_23 (by decide) ?_
  refine lv_icmp_ge (tgt := 32) hx hb dX8_byteOf_25 (by decide) (fun q => absurd q (by decide)) (fun _ => ?_)
  refine lv_iload_n hx hb dX8_byteOf_28 rfl (lv_at hl 2 rfl) ?_
  refine lv_goto (tgt := 45) hx hb dX8_byteOf_29 (by decide) ?_
  refine lv_istore (lv' := [(6, .int p2), (0, .int p0), (1, .int p1), (2, .int p2), (3, .int p3), (4, .int p4), (5, .int 10)]) hx hb dX8_byteOf_45 hl (by decide) rfl (fun ls hl => ?_)
  refine lv_iload hx hb dX8_byteOf_47 (lv_at hl 0 rfl) ?_
  refine lv_bipush (v := 24) hx hb dX8_byteOf_49 (by decide) ?_
  refine lv_bipush (v := 8) hx hb dX8_byteOf_51 (by decide) ?_
  refine lv_iload hx hb dX8_byteOf_53 (lv_at hl 6 rfl) ?_
  refine lv_iconst (v := 4) hx hb dX8_byteOf_55 (by decide) ?_
  refine lv_irem hx hb dX8_byteOf_56 (by decide) ?_
  refine lv_topi (fun z_1 ez_1 => ?_)
  obtain rfl : z_1 = 2 := ez_1.trans (by decide)
  refine lv_imul hx hb dX8_byteOf_57 ?_
  refine lv_topi (fun z_2 ez_2 => ?_)
  obtain rfl : z_2 = 16 := ez_2.trans (by decide)
  refine lv_isub hx hb dX8_byteOf_58 ?_
  refine lv_topi (fun z_3 ez_3 => ?_)
  obtain rfl : z_3 = 8 := ez_3.trans (by decide)
  refine lv_ishr hx hb dX8_byteOf_59 ?_
  refine lv_topi (fun z_4 ez_4 => ?_)
  refine lv_sipush (v := 255) hx hb dX8_byteOf_60 (by decide) ?_
  refine lv_iand hx hb dX8_byteOf_63 ?_
  refine lv_topi (fun z_5 ez_5 => ?_)
  exact W.iret (v := z_5) hx hb hr (fun tt ht hW => ⟨_, rfl, (ez_5.trans (by rw [ez_4]; rfl)), ht⟩) (fun _ h => by cases h) dX8_byteOf_64

def v_d_byteOf11 : List Cond := .code yX8_byteOf cX8_byteOf 7 (some .int) :: ([] ++ ([]))
theorem gw_d_byteOf11 : v_d_byteOf11.all goodWord = true := by decide +kernel
set_option maxHeartbeats 4000000 in
set_option maxRecDepth 100000 in
theorem d_byteOf11 (l : Launch) (E : EE) (p0 p1 p2 p3 p4 : Int32) : Met l yX8_byteOf v_d_byteOf11 ({ frames := 0, cells := 0, slots := 0, locals := 0 }) (va_Pc [.int p0, .int p1, .int p2, .int p3, .int p4, .int 11] (pP E [])) (vp_Si (fun r => r = bz p2 0)) 0 0 (fun _ => False) := by
  refine Met.ofW (cc := cX8_byteOf) (maxL := 7) (ret := (some .int)) (by decide) rfl ?_
  intro p e s m args below meth c s₁ B hml hv
  obtain ⟨rfl, ⟨hK, hN⟩, hP⟩ := hv
  have hx := B.exec
  have hb := B.bytes
  have hr := B.returns
  have hts := atoms_spec (ws := v_d_byteOf11) B.pre
  have hown : s.vm.findClass RX8 = some m.cls := findClass_of_methodNamed B.named
  have hlocks := B.notSynchronized
  have hP : va_P E.1 vwCl [] s.heap := hP
  have hl := lv_entry ([.int p0, .int p1, .int p2, .int p3, .int p4, .int 11]) (n := 7) (Nat.le_of_ble_eq_true rfl)
  rw [lg_entry_eq]
  generalize (lg_sl ([.int p0, .int p1, .int p2, .int p3, .int p4, .int 11]) ++ List.replicate (7 - (lg_sl ([.int p0, .int p1, .int p2, .int p3, .int p4, .int 11])).length) Slot.unset).toArray = ls at hl ⊢
  have hl : lv_has ls 7 [(0, .int p0), (1, .int p1), (2, .int p2), (3, .int p3), (4, .int p4), (5, .int 11)] := hl
  refine lv_iload hx hb dX8_byteOf_0 (lv_at hl 5 rfl) ?_
  refine lv_iconst (v := 4) hx hb dX8_byteOf_2 (by decide) ?_
  refine lv_icmp_ge (tgt := 10) hx hb dX8_byteOf_3 (by decide) (fun _ => ?_) (fun q => absurd (by decide) q)
  refine lv_iload hx hb dX8_byteOf_10 (lv_at hl 5 rfl) ?_
  refine lv_bipush (v := 8) hx hb dX8_byteOf_12 (by decide) ?_
  refine lv_icmp_ge (tgt := 21) hx hb dX8_byteOf_14 (by decide) (fun _ => ?_) (fun q => absurd (by decide) q)
  refine lv_iload hx hb dX8_byteOf_21 (lv_at hl 5 rfl) ?_
  refine lv_bipush (v := 12) hx hb dX8_byteOf_23 (by decide) ?_
  refine lv_icmp_ge (tgt := 32) hx hb dX8_byteOf_25 (by decide) (fun q => absurd q (by decide)) (fun _ => ?_)
  refine lv_iload_n hx hb dX8_byteOf_28 rfl (lv_at hl 2 rfl) ?_
  refine lv_goto (tgt := 45) hx hb dX8_byteOf_29 (by decide) ?_
  refine lv_istore (lv' := [(6, .int p2), (0, .int p0), (1, .int p1), (2, .int p2), (3, .int p3), (4, .int p4), (5, .int 11)]) hx hb dX8_byteOf_45 hl (by decide) rfl (fun ls hl => ?_)
  refine lv_iload hx hb dX8_byteOf_47 (lv_at hl 0 rfl) ?_
  refine lv_bipush (v := 24) hx hb dX8_byteOf_49 (by decide) ?_
  refine lv_bipush (v := 8) hx hb dX8_byteOf_51 (by decide) ?_
  refine lv_iload hx hb dX8_byteOf_53 (lv_at hl 6 rfl) ?_
  refine lv_iconst (v := 4) hx hb dX8_byteOf_55 (by decide) ?_
  refine lv_irem hx hb dX8_byteOf_56 (by decide) ?_
  refine lv_topi (fun z_1 ez_1 => ?_)
  obtain rfl : z_1 = 3 := ez_1.trans (by decide)
  refine lv_imul hx hb dX8_byteOf_57 ?_
  refine lv_topi (fun z_2 ez_2 => ?_)
  obtain rfl : z_2 = 24 := ez_2.trans (by decide)
  refine lv_isub hx hb dX8_byteOf_58 ?_
  refine lv_topi (fun z_3 ez_3 => ?_)
  obtain rfl : z_3 = 0 := ez_3.trans (by decide)
  refine lv_ishr hx hb dX8_byteOf_59 ?_
  refine lv_topi (fun z_4 ez_4 => ?_)
  refine lv_sipush (v := 255) hx hb dX8_byteOf_60 (by decide) ?_
  refine lv_iand hx hb dX8_byteOf_63 ?_
  refine lv_topi (fun z_5 ez_5 => ?_)
  exact W.iret (v := z_5) hx hb hr (fun tt ht hW => ⟨_, rfl, (ez_5.trans (by rw [ez_4]; rfl)), ht⟩) (fun _ h => by cases h) dX8_byteOf_64

def v_d_byteOf12 : List Cond := .code yX8_byteOf cX8_byteOf 7 (some .int) :: ([] ++ ([]))
theorem gw_d_byteOf12 : v_d_byteOf12.all goodWord = true := by decide +kernel
set_option maxHeartbeats 4000000 in
set_option maxRecDepth 100000 in
theorem d_byteOf12 (l : Launch) (E : EE) (p0 p1 p2 p3 p4 : Int32) : Met l yX8_byteOf v_d_byteOf12 ({ frames := 0, cells := 0, slots := 0, locals := 0 }) (va_Pc [.int p0, .int p1, .int p2, .int p3, .int p4, .int 12] (pP E [])) (vp_Si (fun r => r = bz p3 24)) 0 0 (fun _ => False) := by
  refine Met.ofW (cc := cX8_byteOf) (maxL := 7) (ret := (some .int)) (by decide) rfl ?_
  intro p e s m args below meth c s₁ B hml hv
  obtain ⟨rfl, ⟨hK, hN⟩, hP⟩ := hv
  have hx := B.exec
  have hb := B.bytes
  have hr := B.returns
  have hts := atoms_spec (ws := v_d_byteOf12) B.pre
  have hown : s.vm.findClass RX8 = some m.cls := findClass_of_methodNamed B.named
  have hlocks := B.notSynchronized
  have hP : va_P E.1 vwCl [] s.heap := hP
  have hl := lv_entry ([.int p0, .int p1, .int p2, .int p3, .int p4, .int 12]) (n := 7) (Nat.le_of_ble_eq_true rfl)
  rw [lg_entry_eq]
  generalize (lg_sl ([.int p0, .int p1, .int p2, .int p3, .int p4, .int 12]) ++ List.replicate (7 - (lg_sl ([.int p0, .int p1, .int p2, .int p3, .int p4, .int 12])).length) Slot.unset).toArray = ls at hl ⊢
  have hl : lv_has ls 7 [(0, .int p0), (1, .int p1), (2, .int p2), (3, .int p3), (4, .int p4), (5, .int 12)] := hl
  refine lv_iload hx hb dX8_byteOf_0 (lv_at hl 5 rfl) ?_
  refine lv_iconst (v := 4) hx hb dX8_byteOf_2 (by decide) ?_
  refine lv_icmp_ge (tgt := 10) hx hb dX8_byteOf_3 (by decide) (fun _ => ?_) (fun q => absurd (by decide) q)
  refine lv_iload hx hb dX8_byteOf_10 (lv_at hl 5 rfl) ?_
  refine lv_bipush (v := 8) hx hb dX8_byteOf_12 (by decide) ?_
  refine lv_icmp_ge (tgt := 21) hx hb dX8_byteOf_14 (by decide) (fun _ => ?_) (fun q => absurd (by decide) q)
  refine lv_iload hx hb dX8_byteOf_21 (lv_at hl 5 rfl) ?_
  refine lv_bipush (v := 12) hx hb dX8_byteOf_23 (by decide) ?_
  refine lv_icmp_ge (tgt := 32) hx hb dX8_byteOf_25 (by decide) (fun _ => ?_) (fun q => absurd (by decide) q)
  refine lv_iload hx hb dX8_byteOf_32 (lv_at hl 5 rfl) ?_
  refine lv_bipush (v := 16) hx hb dX8_byteOf_34 (by decide) ?_
  refine lv_icmp_ge (tgt := 43) hx hb dX8_byteOf_36 (by decide) (fun q => absurd q (by decide)) (fun _ => ?_)
  refine lv_iload_n hx hb dX8_byteOf_39 rfl (lv_at hl 3 rfl) ?_
  refine lv_goto (tgt := 45) hx hb dX8_byteOf_40 (by decide) ?_
  refine lv_istore (lv' := [(6, .int p3), (0, .int p0), (1, .int p1), (2, .int p2), (3, .int p3), (4, .int p4), (5, .int 12)]) hx hb dX8_byteOf_45 hl (by decide) rfl (fun ls hl => ?_)
  refine lv_iload hx hb dX8_byteOf_47 (lv_at hl 0 rfl) ?_
  refine lv_bipush (v := 24) hx hb dX8_byteOf_49 (by decide) ?_
  refine lv_bipush (v := 8) hx hb dX8_byteOf_51 (by decide) ?_
  refine lv_iload hx hb dX8_byteOf_53 (lv_at hl 6 rfl) ?_
  refine lv_iconst (v := 4) hx hb dX8_byteOf_55 (by decide) ?_
  refine lv_irem hx hb dX8_byteOf_56 (by decide) ?_
  refine lv_topi (fun z_1 ez_1 => ?_)
  obtain rfl : z_1 = 0 := ez_1.trans (by decide)
  refine lv_imul hx hb dX8_byteOf_57 ?_
  refine lv_topi (fun z_2 ez_2 => ?_)
  obtain rfl : z_2 = 0 := ez_2.trans (by decide)
  refine lv_isub hx hb dX8_byteOf_58 ?_
  refine lv_topi (fun z_3 ez_3 => ?_)
  obtain rfl : z_3 = 24 := ez_3.trans (by decide)
  refine lv_ishr hx hb dX8_byteOf_59 ?_
  refine lv_topi (fun z_4 ez_4 => ?_)
  refine lv_sipush (v := 255) hx hb dX8_byteOf_60 (by decide) ?_
  refine lv_iand hx hb dX8_byteOf_63 ?_
  refine lv_topi (fun z_5 ez_5 => ?_)
  exact W.iret (v := z_5) hx hb hr (fun tt ht hW => ⟨_, rfl, (ez_5.trans (by rw [ez_4]; rfl)), ht⟩) (fun _ h => by cases h) dX8_byteOf_64

def v_d_byteOf13 : List Cond := .code yX8_byteOf cX8_byteOf 7 (some .int) :: ([] ++ ([]))
theorem gw_d_byteOf13 : v_d_byteOf13.all goodWord = true := by decide +kernel
set_option maxHeartbeats 4000000 in
set_option maxRecDepth 100000 in
theorem d_byteOf13 (l : Launch) (E : EE) (p0 p1 p2 p3 p4 : Int32) : Met l yX8_byteOf v_d_byteOf13 ({ frames := 0, cells := 0, slots := 0, locals := 0 }) (va_Pc [.int p0, .int p1, .int p2, .int p3, .int p4, .int 13] (pP E [])) (vp_Si (fun r => r = bz p3 16)) 0 0 (fun _ => False) := by
  refine Met.ofW (cc := cX8_byteOf) (maxL := 7) (ret := (some .int)) (by decide) rfl ?_
  intro p e s m args below meth c s₁ B hml hv
  obtain ⟨rfl, ⟨hK, hN⟩, hP⟩ := hv
  have hx := B.exec
  have hb := B.bytes
  have hr := B.returns
  have hts := atoms_spec (ws := v_d_byteOf13) B.pre
  have hown : s.vm.findClass RX8 = some m.cls := findClass_of_methodNamed B.named
  have hlocks := B.notSynchronized
  have hP : va_P E.1 vwCl [] s.heap := hP
  have hl := lv_entry ([.int p0, .int p1, .int p2, .int p3, .int p4, .int 13]) (n := 7) (Nat.le_of_ble_eq_true rfl)
  rw [lg_entry_eq]
  generalize (lg_sl ([.int p0, .int p1, .int p2, .int p3, .int p4, .int 13]) ++ List.replicate (7 - (lg_sl ([.int p0, .int p1, .int p2, .int p3, .int p4, .int 13])).length) Slot.unset).toArray = ls at hl ⊢
  have hl : lv_has ls 7 [(0, .int p0), (1, .int p1), (2, .int p2), (3, .int p3), (4, .int p4), (5, .int 13)] := hl
  refine lv_iload hx hb dX8_byteOf_0 (lv_at hl 5 rfl) ?_
  refine lv_iconst (v := 4) hx hb dX8_byteOf_2 (by decide) ?_
  refine lv_icmp_ge (tgt := 10) hx hb dX8_byteOf_3 (by decide) (fun _ => ?_) (fun q => absurd (by decide) q)
  refine lv_iload hx hb dX8_byteOf_10 (lv_at hl 5 rfl) ?_
  refine lv_bipush (v := 8) hx hb dX8_byteOf_12 (by decide) ?_
  refine lv_icmp_ge (tgt := 21) hx hb dX8_byteOf_14 (by decide) (fun _ => ?_) (fun q => absurd (by decide) q)
  refine lv_iload hx hb dX8_byteOf_21 (lv_at hl 5 rfl) ?_
  refine lv_bipush (v := 12) hx hb dX8_byteOf_23 (by decide) ?_
  refine lv_icmp_ge (tgt := 32) hx hb dX8_byteOf_25 (by decide) (fun _ => ?_) (fun q => absurd (by decide) q)
  refine lv_iload hx hb dX8_byteOf_32 (lv_at hl 5 rfl) ?_
  refine lv_bipush (v := 16) hx hb dX8_byteOf_34 (by decide) ?_
  refine lv_icmp_ge (tgt := 43) hx hb dX8_byteOf_36 (by decide) (fun q => absurd q (by decide)) (fun _ => ?_)
  refine lv_iload_n hx hb dX8_byteOf_39 rfl (lv_at hl 3 rfl) ?_
  refine lv_goto (tgt := 45) hx hb dX8_byteOf_40 (by decide) ?_
  refine lv_istore (lv' := [(6, .int p3), (0, .int p0), (1, .int p1), (2, .int p2), (3, .int p3), (4, .int p4), (5, .int 13)]) hx hb dX8_byteOf_45 hl (by decide) rfl (fun ls hl => ?_)
  refine lv_iload hx hb dX8_byteOf_47 (lv_at hl 0 rfl) ?_
  refine lv_bipush (v := 24) hx hb dX8_byteOf_49 (by decide) ?_
  refine lv_bipush (v := 8) hx hb dX8_byteOf_51 (by decide) ?_
  refine lv_iload hx hb dX8_byteOf_53 (lv_at hl 6 rfl) ?_
  refine lv_iconst (v := 4) hx hb dX8_byteOf_55 (by decide) ?_
  refine lv_irem hx hb dX8_byteOf_56 (by decide) ?_
  refine lv_topi (fun z_1 ez_1 => ?_)
  obtain rfl : z_1 = 1 := ez_1.trans (by decide)
  refine lv_imul hx hb dX8_byteOf_57 ?_
  refine lv_topi (fun z_2 ez_2 => ?_)
  obtain rfl : z_2 = 8 := ez_2.trans (by decide)
  refine lv_isub hx hb dX8_byteOf_58 ?_
  refine lv_topi (fun z_3 ez_3 => ?_)
  obtain rfl : z_3 = 16 := ez_3.trans (by decide)
  refine lv_ishr hx hb dX8_byteOf_59 ?_
  refine lv_topi (fun z_4 ez_4 => ?_)
  refine lv_sipush (v := 255) hx hb dX8_byteOf_60 (by decide) ?_
  refine lv_iand hx hb dX8_byteOf_63 ?_
  refine lv_topi (fun z_5 ez_5 => ?_)
  exact W.iret (v := z_5) hx hb hr (fun tt ht hW => ⟨_, rfl, (ez_5.trans (by rw [ez_4]; rfl)), ht⟩) (fun _ h => by cases h) dX8_byteOf_64

def v_d_byteOf14 : List Cond := .code yX8_byteOf cX8_byteOf 7 (some .int) :: ([] ++ ([]))
theorem gw_d_byteOf14 : v_d_byteOf14.all goodWord = true := by decide +kernel
set_option maxHeartbeats 4000000 in
set_option maxRecDepth 100000 in
theorem d_byteOf14 (l : Launch) (E : EE) (p0 p1 p2 p3 p4 : Int32) : Met l yX8_byteOf v_d_byteOf14 ({ frames := 0, cells := 0, slots := 0, locals := 0 }) (va_Pc [.int p0, .int p1, .int p2, .int p3, .int p4, .int 14] (pP E [])) (vp_Si (fun r => r = bz p3 8)) 0 0 (fun _ => False) := by
  refine Met.ofW (cc := cX8_byteOf) (maxL := 7) (ret := (some .int)) (by decide) rfl ?_
  intro p e s m args below meth c s₁ B hml hv
  obtain ⟨rfl, ⟨hK, hN⟩, hP⟩ := hv
  have hx := B.exec
  have hb := B.bytes
  have hr := B.returns
  have hts := atoms_spec (ws := v_d_byteOf14) B.pre
  have hown : s.vm.findClass RX8 = some m.cls := findClass_of_methodNamed B.named
  have hlocks := B.notSynchronized
  have hP : va_P E.1 vwCl [] s.heap := hP
  have hl := lv_entry ([.int p0, .int p1, .int p2, .int p3, .int p4, .int 14]) (n := 7) (Nat.le_of_ble_eq_true rfl)
  rw [lg_entry_eq]
  generalize (lg_sl ([.int p0, .int p1, .int p2, .int p3, .int p4, .int 14]) ++ List.replicate (7 - (lg_sl ([.int p0, .int p1, .int p2, .int p3, .int p4, .int 14])).length) Slot.unset).toArray = ls at hl ⊢
  have hl : lv_has ls 7 [(0, .int p0), (1, .int p1), (2, .int p2), (3, .int p3), (4, .int p4), (5, .int 14)] := hl
  refine lv_iload hx hb dX8_byteOf_0 (lv_at hl 5 rfl) ?_
  refine lv_iconst (v := 4) hx hb dX8_byteOf_2 (by decide) ?_
  refine lv_icmp_ge (tgt := 10) hx hb dX8_byteOf_3 (by decide) (fun _ => ?_) (fun q => absurd (by decide) q)
  refine lv_iload hx hb dX8_byteOf_10 (lv_at hl 5 rfl) ?_
  refine lv_bipush (v := 8) hx hb dX8_byteOf_12 (by decide) ?_
  refine lv_icmp_ge (tgt := 21) hx hb dX8_byteOf_14 (by decide) (fun _ => ?_) (fun q => absurd (by decide) q)
  refine lv_iload hx hb dX8_byteOf_21 (lv_at hl 5 rfl) ?_
  refine lv_bipush (v := 12) hx hb dX8_byteOf_23 (by decide) ?_
  refine lv_icmp_ge (tgt := 32) hx hb dX8_byteOf_25 (by decide) (fun _ => ?_) (fun q => absurd (by decide) q)
  refine lv_iload hx hb dX8_byteOf_32 (lv_at hl 5 rfl) ?_
  refine lv_bipush (v := 16) hx hb dX8_byteOf_34 (by decide) ?_
  refine lv_icmp_ge (tgt := 43) hx hb dX8_byteOf_36 (by decide) (fun q => absurd q (by decide)) (fun _ => ?_)
  refine lv_iload_n hx hb dX8_byteOf_39 rfl (lv_at hl 3 rfl) ?_
  refine lv_goto (tgt := 45) hx hb dX8_byteOf_40 (by decide) ?_
  refine lv_istore (lv' := [(6, .int p3), (0, .int p0), (1, .int p1), (2, .int p2), (3, .int p3), (4, .int p4), (5, .int 14)]) hx hb dX8_byteOf_45 hl (by decide) rfl (fun ls hl => ?_)
  refine lv_iload hx hb dX8_byteOf_47 (lv_at hl 0 rfl) ?_
  refine lv_bipush (v := 24) hx hb dX8_byteOf_49 (by decide) ?_
  refine lv_bipush (v := 8) hx hb dX8_byteOf_51 (by decide) ?_
  refine lv_iload hx hb dX8_byteOf_53 (lv_at hl 6 rfl) ?_
  refine lv_iconst (v := 4) hx hb dX8_byteOf_55 (by decide) ?_
  refine lv_irem hx hb dX8_byteOf_56 (by decide) ?_
  refine lv_topi (fun z_1 ez_1 => ?_)
  obtain rfl : z_1 = 2 := ez_1.trans (by decide)
  refine lv_imul hx hb dX8_byteOf_57 ?_
  refine lv_topi (fun z_2 ez_2 => ?_)
  obtain rfl : z_2 = 16 := ez_2.trans (by decide)
  refine lv_isub hx hb dX8_byteOf_58 ?_
  refine lv_topi (fun z_3 ez_3 => ?_)
  obtain rfl : z_3 = 8 := ez_3.trans (by decide)
  refine lv_ishr hx hb dX8_byteOf_59 ?_
  refine lv_topi (fun z_4 ez_4 => ?_)
  refine lv_sipush (v := 255) hx hb dX8_byteOf_60 (by decide) ?_
  refine lv_iand hx hb dX8_byteOf_63 ?_
  refine lv_topi (fun z_5 ez_5 => ?_)
  exact W.iret (v := z_5) hx hb hr (fun tt ht hW => ⟨_, rfl, (ez_5.trans (by rw [ez_4]; rfl)), ht⟩) (fun _ h => by cases h) dX8_byteOf_64

def v_d_byteOf15 : List Cond := .code yX8_byteOf cX8_byteOf 7 (some .int) :: ([] ++ ([]))
theorem gw_d_byteOf15 : v_d_byteOf15.all goodWord = true := by decide +kernel
set_option maxHeartbeats 4000000 in
set_option maxRecDepth 100000 in
theorem d_byteOf15 (l : Launch) (E : EE) (p0 p1 p2 p3 p4 : Int32) : Met l yX8_byteOf v_d_byteOf15 ({ frames := 0, cells := 0, slots := 0, locals := 0 }) (va_Pc [.int p0, .int p1, .int p2, .int p3, .int p4, .int 15] (pP E [])) (vp_Si (fun r => r = bz p3 0)) 0 0 (fun _ => False) := by
  refine Met.ofW (cc := cX8_byteOf) (maxL := 7) (ret := (some .int)) (by decide) rfl ?_
  intro p e s m args below meth c s₁ B hml hv
  obtain ⟨rfl, ⟨hK, hN⟩, hP⟩ := hv
  have hx := B.exec
  have hb := B.bytes
  have hr := B.returns
  have hts := atoms_spec (ws := v_d_byteOf15) B.pre
  have hown : s.vm.findClass RX8 = some m.cls := findClass_of_methodNamed B.named
  have hlocks := B.notSynchronized
  have hP : va_P E.1 vwCl [] s.heap := hP
  have hl := lv_entry ([.int p0, .int p1, .int p2, .int p3, .int p4, .int 15]) (n := 7) (Nat.le_of_ble_eq_true rfl)
  rw [lg_entry_eq]
  generalize (lg_sl ([.int p0, .int p1, .int p2, .int p3, .int p4, .int 15]) ++ List.replicate (7 - (lg_sl ([.int p0, .int p1, .int p2, .int p3, .int p4, .int 15])).length) Slot.unset).toArray = ls at hl ⊢
  have hl : lv_has ls 7 [(0, .int p0), (1, .int p1), (2, .int p2), (3, .int p3), (4, .int p4), (5, .int 15)] := hl
  refine lv_iload hx hb dX8_byteOf_0 (lv_at hl 5 rfl) ?_
  refine lv_iconst (v := 4) hx hb dX8_byteOf_2 (by decide) ?_
  refine lv_icmp_ge (tgt := 10) hx hb dX8_byteOf_3 (by decide) (fun _ => ?_) (fun q => absurd (by decide) q)
  refine lv_iload hx hb dX8_byteOf_10 (lv_at hl 5 rfl) ?_
  refine lv_bipush (v := 8) hx hb dX8_byteOf_12 (by decide) ?_
  refine lv_icmp_ge (tgt := 21) hx hb dX8_byteOf_14 (by decide) (fun _ => ?_) (fun q => absurd (by decide) q)
  refine lv_iload hx hb dX8_byteOf_21 (lv_at hl 5 rfl) ?_
  refine lv_bipush (v := 12) hx hb dX8_byteOf_23 (by decide) ?_
  refine lv_icmp_ge (tgt := 32) hx hb dX8_byteOf_25 (by decide) (fun _ => ?_) (fun q => absurd (by decide) q)
  refine lv_iload hx hb dX8_byteOf_32 (lv_at hl 5 rfl) ?_
  refine lv_bipush (v := 16) hx hb dX8_byteOf_34 (by decide) ?_
  refine lv_icmp_ge (tgt := 43) hx hb dX8_byteOf_36 (by decide) (fun q => absurd q (by decide)) (fun _ => ?_)
  refine lv_iload_n hx hb dX8_byteOf_39 rfl (lv_at hl 3 rfl) ?_
  refine lv_goto (tgt := 45) hx hb dX8_byteOf_40 (by decide) ?_
  refine lv_istore (lv' := [(6, .int p3), (0, .int p0), (1, .int p1), (2, .int p2), (3, .int p3), (4, .int p4), (5, .int 15)]) hx hb dX8_byteOf_45 hl (by decide) rfl (fun ls hl => ?_)
  refine lv_iload hx hb dX8_byteOf_47 (lv_at hl 0 rfl) ?_
  refine lv_bipush (v := 24) hx hb dX8_byteOf_49 (by decide) ?_
  refine lv_bipush (v := 8) hx hb dX8_byteOf_51 (by decide) ?_
  refine lv_iload hx hb dX8_byteOf_53 (lv_at hl 6 rfl) ?_
  refine lv_iconst (v := 4) hx hb dX8_byteOf_55 (by decide) ?_
  refine lv_irem hx hb dX8_byteOf_56 (by decide) ?_
  refine lv_topi (fun z_1 ez_1 => ?_)
  obtain rfl : z_1 = 3 := ez_1.trans (by decide)
  refine lv_imul hx hb dX8_byteOf_57 ?_
  refine lv_topi (fun z_2 ez_2 => ?_)
  obtain rfl : z_2 = 24 := ez_2.trans (by decide)
  refine lv_isub hx hb dX8_byteOf_58 ?_
  refine lv_topi (fun z_3 ez_3 => ?_)
  obtain rfl : z_3 = 0 := ez_3.trans (by decide)
  refine lv_ishr hx hb dX8_byteOf_59 ?_
  refine lv_topi (fun z_4 ez_4 => ?_)
  refine lv_sipush (v := 255) hx hb dX8_byteOf_60 (by decide) ?_
  refine lv_iand hx hb dX8_byteOf_63 ?_
  refine lv_topi (fun z_5 ez_5 => ?_)
  exact W.iret (v := z_5) hx hb hr (fun tt ht hW => ⟨_, rfl, (ez_5.trans (by rw [ez_4]; rfl)), ht⟩) (fun _ h => by cases h) dX8_byteOf_64

def v_d_byteOf16 : List Cond := .code yX8_byteOf cX8_byteOf 7 (some .int) :: ([] ++ ([]))
theorem gw_d_byteOf16 : v_d_byteOf16.all goodWord = true := by decide +kernel
set_option maxHeartbeats 4000000 in
set_option maxRecDepth 100000 in
theorem d_byteOf16 (l : Launch) (E : EE) (p0 p1 p2 p3 p4 : Int32) : Met l yX8_byteOf v_d_byteOf16 ({ frames := 0, cells := 0, slots := 0, locals := 0 }) (va_Pc [.int p0, .int p1, .int p2, .int p3, .int p4, .int 16] (pP E [])) (vp_Si (fun r => r = bz p4 24)) 0 0 (fun _ => False) := by
  refine Met.ofW (cc := cX8_byteOf) (maxL := 7) (ret := (some .int)) (by decide) rfl ?_
  intro p e s m args below meth c s₁ B hml hv
  obtain ⟨rfl, ⟨hK, hN⟩, hP⟩ := hv
  have hx := B.exec
  have hb := B.bytes
  have hr := B.returns
  have hts := atoms_spec (ws := v_d_byteOf16) B.pre
  have hown : s.vm.findClass RX8 = some m.cls := findClass_of_methodNamed B.named
  have hlocks := B.notSynchronized
  have hP : va_P E.1 vwCl [] s.heap := hP
  have hl := lv_entry ([.int p0, .int p1, .int p2, .int p3, .int p4, .int 16]) (n := 7) (Nat.le_of_ble_eq_true rfl)
  rw [lg_entry_eq]
  generalize (lg_sl ([.int p0, .int p1, .int p2, .int p3, .int p4, .int 16]) ++ List.replicate (7 - (lg_sl ([.int p0, .int p1, .int p2, .int p3, .int p4, .int 16])).length) Slot.unset).toArray = ls at hl ⊢
  have hl : lv_has ls 7 [(0, .int p0), (1, .int p1), (2, .int p2), (3, .int p3), (4, .int p4), (5, .int 16)] := hl
  refine lv_iload hx hb dX8_byteOf_0 (lv_at hl 5 rfl) ?_
  refine lv_iconst (v := 4) hx hb dX8_byteOf_2 (by decide) ?_
  refine lv_icmp_ge (tgt := 10) hx hb dX8_byteOf_3 (by decide) (fun _ => ?_) (fun q => absurd (by decide) q)
  refine lv_iload hx hb dX8_byteOf_10 (lv_at hl 5 rfl) ?_
  refine lv_bipush (v := 8) hx hb dX8_byteOf_12 (by decide) ?_
  refine lv_icmp_ge (tgt := 21) hx hb dX8_byteOf_14 (by decide) (fun _ => ?_) (fun q => absurd (by decide) q)
  refine lv_iload hx hb dX8_byteOf_21 (lv_at hl 5 rfl) ?_
  refine lv_bipush (v := 12) hx hb dX8_byteOf_23 (by decide) ?_
  refine lv_icmp_ge (tgt := 32) hx hb dX8_byteOf_25 (by decide) (fun _ => ?_) (fun q => absurd (by decide) q)
  refine lv_iload hx hb dX8_byteOf_32 (lv_at hl 5 rfl) ?_
  refine lv_bipush (v := 16) hx hb dX8_byteOf_34 (by decide) ?_
  refine lv_icmp_ge (tgt := 43) hx hb dX8_byteOf_36 (by decide) (fun _ => ?_) (fun q => absurd (by decide) q)
  refine lv_iload hx hb dX8_byteOf_43 (lv_at hl 4 rfl) ?_
  refine lv_istore (lv' := [(6, .int p4), (0, .int p0), (1, .int p1), (2, .int p2), (3, .int p3), (4, .int p4), (5, .int 16)]) hx hb dX8_byteOf_45 hl (by decide) rfl (fun ls hl => ?_)
  refine lv_iload hx hb dX8_byteOf_47 (lv_at hl 0 rfl) ?_
  refine lv_bipush (v := 24) hx hb dX8_byteOf_49 (by decide) ?_
  refine lv_bipush (v := 8) hx hb dX8_byteOf_51 (by decide) ?_
  refine lv_iload hx hb dX8_byteOf_53 (lv_at hl 6 rfl) ?_
  refine lv_iconst (v := 4) hx hb dX8_byteOf_55 (by decide) ?_
  refine lv_irem hx hb dX8_byteOf_56 (by decide) ?_
  refine lv_topi (fun z_1 ez_1 => ?_)
  obtain rfl : z_1 = 0 := ez_1.trans (by decide)
  refine lv_imul hx hb dX8_byteOf_57 ?_
  refine lv_topi (fun z_2 ez_2 => ?_)
  obtain rfl : z_2 = 0 := ez_2.trans (by decide)
  refine lv_isub hx hb dX8_byteOf_58 ?_
  refine lv_topi (fun z_3 ez_3 => ?_)
  obtain rfl : z_3 = 24 := ez_3.trans (by decide)
  refine lv_ishr hx hb dX8_byteOf_59 ?_
  refine lv_topi (fun z_4 ez_4 => ?_)
  refine lv_sipush (v := 255) hx hb dX8_byteOf_60 (by decide) ?_
  refine lv_iand hx hb dX8_byteOf_63 ?_
  refine lv_topi (fun z_5 ez_5 => ?_)
  exact W.iret (v := z_5) hx hb hr (fun tt ht hW => ⟨_, rfl, (ez_5.trans (by rw [ez_4]; rfl)), ht⟩) (fun _ h => by cases h) dX8_byteOf_64

def v_d_byteOf17 : List Cond := .code yX8_byteOf cX8_byteOf 7 (some .int) :: ([] ++ ([]))
theorem gw_d_byteOf17 : v_d_byteOf17.all goodWord = true := by decide +kernel
set_option maxHeartbeats 4000000 in
set_option maxRecDepth 100000 in
theorem d_byteOf17 (l : Launch) (E : EE) (p0 p1 p2 p3 p4 : Int32) : Met l yX8_byteOf v_d_byteOf17 ({ frames := 0, cells := 0, slots := 0, locals := 0 }) (va_Pc [.int p0, .int p1, .int p2, .int p3, .int p4, .int 17] (pP E [])) (vp_Si (fun r => r = bz p4 16)) 0 0 (fun _ => False) := by
  refine Met.ofW (cc := cX8_byteOf) (maxL := 7) (ret := (some .int)) (by decide) rfl ?_
  intro p e s m args below meth c s₁ B hml hv
  obtain ⟨rfl, ⟨hK, hN⟩, hP⟩ := hv
  have hx := B.exec
  have hb := B.bytes
  have hr := B.returns
  have hts := atoms_spec (ws := v_d_byteOf17) B.pre
  have hown : s.vm.findClass RX8 = some m.cls := findClass_of_methodNamed B.named
  have hlocks := B.notSynchronized
  have hP : va_P E.1 vwCl [] s.heap := hP
  have hl := lv_entry ([.int p0, .int p1, .int p2, .int p3, .int p4, .int 17]) (n := 7) (Nat.le_of_ble_eq_true rfl)
  rw [lg_entry_eq]
  generalize (lg_sl ([.int p0, .int p1, .int p2, .int p3, .int p4, .int 17]) ++ List.replicate (7 - (lg_sl ([.int p0, .int p1, .int p2, .int p3, .int p4, .int 17])).length) Slot.unset).toArray = ls at hl ⊢
  have hl : lv_has ls 7 [(0, .int p0), (1, .int p1), (2, .int p2), (3, .int p3), (4, .int p4), (5, .int 17)] := hl
  refine lv_iload hx hb dX8_byteOf_0 (lv_at hl 5 rfl) ?_
  refine lv_iconst (v := 4) hx hb dX8_byteOf_2 (by decide) ?_
  refine lv_icmp_ge (tgt := 10) hx hb dX8_byteOf_3 (by decide) (fun _ => ?_) (fun q => absurd (by decide) q)
  refine lv_iload hx hb dX8_byteOf_10 (lv_at hl 5 rfl) ?_
  refine lv_bipush (v := 8) hx hb dX8_byteOf_12 (by decide) ?_
  refine lv_icmp_ge (tgt := 21) hx hb dX8_byteOf_14 (by decide) (fun _ => ?_) (fun q => absurd (by decide) q)
  refine lv_iload hx hb dX8_byteOf_21 (lv_at hl 5 rfl) ?_
  refine lv_bipush (v := 12) hx hb dX8_byteOf_23 (by decide) ?_
  refine lv_icmp_ge (tgt := 32) hx hb dX8_byteOf_25 (by decide) (fun _ => ?_) (fun q => absurd (by decide) q)
  refine lv_iload hx hb dX8_byteOf_32 (lv_at hl 5 rfl) ?_
  refine lv_bipush (v := 16) hx hb dX8_byteOf_34 (by decide) ?_
  refine lv_icmp_ge (tgt := 43) hx hb dX8_byteOf_36 (by decide) (fun _ => ?_) (fun q => absurd (by decide) q)
  refine lv_iload hx hb dX8_byteOf_43 (lv_at hl 4 rfl) ?_
  refine lv_istore (lv' := [(6, .int p4), (0, .int p0), (1, .int p1), (2, .int p2), (3, .int p3), (4, .int p4), (5, .int 17)]) hx hb dX8_byteOf_45 hl (by decide) rfl (fun ls hl => ?_)
  refine lv_iload hx hb dX8_byteOf_47 (lv_at hl 0 rfl) ?_
  refine lv_bipush (v := 24) hx hb dX8_byteOf_49 (by decide) ?_
  refine lv_bipush (v := 8) hx hb dX8_byteOf_51 (by decide) ?_
  refine lv_iload hx hb dX8_byteOf_53 (lv_at hl 6 rfl) ?_
  refine lv_iconst (v := 4) hx hb dX8_byteOf_55 (by decide) ?_
  refine lv_irem hx hb dX8_byteOf_56 (by decide) ?_
  refine lv_topi (fun z_1 ez_1 => ?_)
  obtain rfl : z_1 = 1 := ez_1.trans (by decide)
  refine lv_imul hx hb dX8_byteOf_57 ?_
  refine lv_topi (fun z_2 ez_2 => ?_)
  obtain rfl : z_2 = 8 := ez_2.trans (by decide)
  refine lv_isub hx hb dX8_byteOf_58 ?_
  refine lv_topi (fun z_3 ez_3 => ?_)
  obtain rfl : z_3 = 16 := ez_3.trans (by decide)
  refine lv_ishr hx hb dX8_byteOf_59 ?_
  refine lv_topi (fun z_4 ez_4 => ?_)
  refine lv_sipush (v := 255) hx hb dX8_byteOf_60 (by decide) ?_
  refine lv_iand hx hb dX8_byteOf_63 ?_
  refine lv_topi (fun z_5 ez_5 => ?_)
  exact W.iret (v := z_5) hx hb hr (fun tt ht hW => ⟨_, rfl, (ez_5.trans (by rw [ez_4]; rfl)), ht⟩) (fun _ h => by cases h) dX8_byteOf_64

def v_d_byteOf18 : List Cond := .code yX8_byteOf cX8_byteOf 7 (some .int) :: ([] ++ ([]))
theorem gw_d_byteOf18 : v_d_byteOf18.all goodWord = true := by decide +kernel
set_option maxHeartbeats 4000000 in
set_option maxRecDepth 100000 in
theorem d_byteOf18 (l : Launch) (E : EE) (p0 p1 p2 p3 p4 : Int32) : Met l yX8_byteOf v_d_byteOf18 ({ frames := 0, cells := 0, slots := 0, locals := 0 }) (va_Pc [.int p0, .int p1, .int p2, .int p3, .int p4, .int 18] (pP E [])) (vp_Si (fun r => r = bz p4 8)) 0 0 (fun _ => False) := by
  refine Met.ofW (cc := cX8_byteOf) (maxL := 7) (ret := (some .int)) (by decide) rfl ?_
  intro p e s m args below meth c s₁ B hml hv
  obtain ⟨rfl, ⟨hK, hN⟩, hP⟩ := hv
  have hx := B.exec
  have hb := B.bytes
  have hr := B.returns
  have hts := atoms_spec (ws := v_d_byteOf18) B.pre
  have hown : s.vm.findClass RX8 = some m.cls := findClass_of_methodNamed B.named
  have hlocks := B.notSynchronized
  have hP : va_P E.1 vwCl [] s.heap := hP
  have hl := lv_entry ([.int p0, .int p1, .int p2, .int p3, .int p4, .int 18]) (n := 7) (Nat.le_of_ble_eq_true rfl)
  rw [lg_entry_eq]
  generalize (lg_sl ([.int p0, .int p1, .int p2, .int p3, .int p4, .int 18]) ++ List.replicate (7 - (lg_sl ([.int p0, .int p1, .int p2, .int p3, .int p4, .int 18])).length) Slot.unset).toArray = ls at hl ⊢
  have hl : lv_has ls 7 [(0, .int p0), (1, .int p1), (2, .int p2), (3, .int p3), (4, .int p4), (5, .int 18)] := hl
  refine lv_iload hx hb dX8_byteOf_0 (lv_at hl 5 rfl) ?_
  refine lv_iconst (v := 4) hx hb dX8_byteOf_2 (by decide) ?_
  refine lv_icmp_ge (tgt := 10) hx hb dX8_byteOf_3 (by decide) (fun _ => ?_) (fun q => absurd (by decide) q)
  refine lv_iload hx hb dX8_byteOf_10 (lv_at hl 5 rfl) ?_
  refine lv_bipush (v := 8) hx hb dX8_byteOf_12 (by decide) ?_
  refine lv_icmp_ge (tgt := 21) hx hb dX8_byteOf_14 (by decide) (fun _ => ?_) (fun q => absurd (by decide) q)
  refine lv_iload hx hb dX8_byteOf_21 (lv_at hl 5 rfl) ?_
  refine lv_bipush (v := 12) hx hb dX8_byteOf_23 (by decide) ?_
  refine lv_icmp_ge (tgt := 32) hx hb dX8_byteOf_25 (by decide) (fun _ => ?_) (fun q => absurd (by decide) q)
  refine lv_iload hx hb dX8_byteOf_32 (lv_at hl 5 rfl) ?_
  refine lv_bipush (v := 16) hx hb dX8_byteOf_34 (by decide) ?_
  refine lv_icmp_ge (tgt := 43) hx hb dX8_byteOf_36 (by decide) (fun _ => ?_) (fun q => absurd (by decide) q)
  refine lv_iload hx hb dX8_byteOf_43 (lv_at hl 4 rfl) ?_
  refine lv_istore (lv' := [(6, .int p4), (0, .int p0), (1, .int p1), (2, .int p2), (3, .int p3), (4, .int p4), (5, .int 18)]) hx hb dX8_byteOf_45 hl (by decide) rfl (fun ls hl => ?_)
  refine lv_iload hx hb dX8_byteOf_47 (lv_at hl 0 rfl) ?_
  refine lv_bipush (v := 24) hx hb dX8_byteOf_49 (by decide) ?_
  refine lv_bipush (v := 8) hx hb dX8_byteOf_51 (by decide) ?_
  refine lv_iload hx hb dX8_byteOf_53 (lv_at hl 6 rfl) ?_
  refine lv_iconst (v := 4) hx hb dX8_byteOf_55 (by decide) ?_
  refine lv_irem hx hb dX8_byteOf_56 (by decide) ?_
  refine lv_topi (fun z_1 ez_1 => ?_)
  obtain rfl : z_1 = 2 := ez_1.trans (by decide)
  refine lv_imul hx hb dX8_byteOf_57 ?_
  refine lv_topi (fun z_2 ez_2 => ?_)
  obtain rfl : z_2 = 16 := ez_2.trans (by decide)
  refine lv_isub hx hb dX8_byteOf_58 ?_
  refine lv_topi (fun z_3 ez_3 => ?_)
  obtain rfl : z_3 = 8 := ez_3.trans (by decide)
  refine lv_ishr hx hb dX8_byteOf_59 ?_
  refine lv_topi (fun z_4 ez_4 => ?_)
  refine lv_sipush (v := 255) hx hb dX8_byteOf_60 (by decide) ?_
  refine lv_iand hx hb dX8_byteOf_63 ?_
  refine lv_topi (fun z_5 ez_5 => ?_)
  exact W.iret (v := z_5) hx hb hr (fun tt ht hW => ⟨_, rfl, (ez_5.trans (by rw [ez_4]; rfl)), ht⟩) (fun _ h => by cases h) dX8_byteOf_64

def v_d_byteOf19 : List Cond := .code yX8_byteOf cX8_byteOf 7 (some .int) :: ([] ++ ([]))
theorem gw_d_byteOf19 : v_d_byteOf19.all goodWord = true := by decide +kernel
set_option maxHeartbeats 4000000 in
set_option maxRecDepth 100000 in
theorem d_byteOf19 (l : Launch) (E : EE) (p0 p1 p2 p3 p4 : Int32) : Met l yX8_byteOf v_d_byteOf19 ({ frames := 0, cells := 0, slots := 0, locals := 0 }) (va_Pc [.int p0, .int p1, .int p2, .int p3, .int p4, .int 19] (pP E [])) (vp_Si (fun r => r = bz p4 0)) 0 0 (fun _ => False) := by
  refine Met.ofW (cc := cX8_byteOf) (maxL := 7) (ret := (some .int)) (by decide) rfl ?_
  intro p e s m args below meth c s₁ B hml hv
  obtain ⟨rfl, ⟨hK, hN⟩, hP⟩ := hv
  have hx := B.exec
  have hb := B.bytes
  have hr := B.returns
  have hts := atoms_spec (ws := v_d_byteOf19) B.pre
  have hown : s.vm.findClass RX8 = some m.cls := findClass_of_methodNamed B.named
  have hlocks := B.notSynchronized
  have hP : va_P E.1 vwCl [] s.heap := hP
  have hl := lv_entry ([.int p0, .int p1, .int p2, .int p3, .int p4, .int 19]) (n := 7) (Nat.le_of_ble_eq_true rfl)
  rw [lg_entry_eq]
  generalize (lg_sl ([.int p0, .int p1, .int p2, .int p3, .int p4, .int 19]) ++ List.replicate (7 - (lg_sl ([.int p0, .int p1, .int p2, .int p3, .int p4, .int 19])).length) Slot.unset).toArray = ls at hl ⊢
  have hl : lv_has ls 7 [(0, .int p0), (1, .int p1), (2, .int p2), (3, .int p3), (4, .int p4), (5, .int 19)] := hl
  refine lv_iload hx hb dX8_byteOf_0 (lv_at hl 5 rfl) ?_
  refine lv_iconst (v := 4) hx hb dX8_byteOf_2 (by decide) ?_
  refine lv_icmp_ge (tgt := 10) hx hb dX8_byteOf_3 (by decide) (fun _ => ?_) (fun q => absurd (by decide) q)
  refine lv_iload hx hb dX8_byteOf_10 (lv_at hl 5 rfl) ?_
  refine lv_bipush (v := 8) hx hb dX8_byteOf_12 (by decide) ?_
  refine lv_icmp_ge (tgt := 21) hx hb dX8_byteOf_14 (by decide) (fun _ => ?_) (fun q => absurd (by decide) q)
  refine lv_iload hx hb dX8_byteOf_21 (lv_at hl 5 rfl) ?_
  refine lv_bipush (v := 12) hx hb dX8_byteOf_23 (by decide) ?_
  refine lv_icmp_ge (tgt := 32) hx hb dX8_byteOf_25 (by decide) (fun _ => ?_) (fun q => absurd (by decide) q)
  refine lv_iload hx hb dX8_byteOf_32 (lv_at hl 5 rfl) ?_
  refine lv_bipush (v := 16) hx hb dX8_byteOf_34 (by decide) ?_
  refine lv_icmp_ge (tgt := 43) hx hb dX8_byteOf_36 (by decide) (fun _ => ?_) (fun q => absurd (by decide) q)
  refine lv_iload hx hb dX8_byteOf_43 (lv_at hl 4 rfl) ?_
  refine lv_istore (lv' := [(6, .int p4), (0, .int p0), (1, .int p1), (2, .int p2), (3, .int p3), (4, .int p4), (5, .int 19)]) hx hb dX8_byteOf_45 hl (by decide) rfl (fun ls hl => ?_)
  refine lv_iload hx hb dX8_byteOf_47 (lv_at hl 0 rfl) ?_
  refine lv_bipush (v := 24) hx hb dX8_byteOf_49 (by decide) ?_
  refine lv_bipush (v := 8) hx hb dX8_byteOf_51 (by decide) ?_
  refine lv_iload hx hb dX8_byteOf_53 (lv_at hl 6 rfl) ?_
  refine lv_iconst (v := 4) hx hb dX8_byteOf_55 (by decide) ?_
  refine lv_irem hx hb dX8_byteOf_56 (by decide) ?_
  refine lv_topi (fun z_1 ez_1 => ?_)
  obtain rfl : z_1 = 3 := ez_1.trans (by decide)
  refine lv_imul hx hb dX8_byteOf_57 ?_
  refine lv_topi (fun z_2 ez_2 => ?_)
  obtain rfl : z_2 = 24 := ez_2.trans (by decide)
  refine lv_isub hx hb dX8_byteOf_58 ?_
  refine lv_topi (fun z_3 ez_3 => ?_)
  obtain rfl : z_3 = 0 := ez_3.trans (by decide)
  refine lv_ishr hx hb dX8_byteOf_59 ?_
  refine lv_topi (fun z_4 ez_4 => ?_)
  refine lv_sipush (v := 255) hx hb dX8_byteOf_60 (by decide) ?_
  refine lv_iand hx hb dX8_byteOf_63 ?_
  refine lv_topi (fun z_5 ez_5 => ?_)
  exact W.iret (v := z_5) hx hb hr (fun tt ht hW => ⟨_, rfl, (ez_5.trans (by rw [ez_4]; rfl)), ht⟩) (fun _ h => by cases h) dX8_byteOf_64
