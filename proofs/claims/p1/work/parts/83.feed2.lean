theorem dX8_feed_62 : decode cX8_feed 62 = .ok (.iload 7, 2) := by decide +kernel
theorem dX8_feed_64 : decode cX8_feed 64 = .ok (.bipush 20, 2) := by decide +kernel
theorem dX8_feed_66 : decode cX8_feed 66 = .ok (.if_icmp .ge 49, 3) := by decide +kernel
theorem dX8_feed_69 : decode cX8_feed 69 = .ok (.iload_n 1, 1) := by decide +kernel
theorem dX8_feed_70 : decode cX8_feed 70 = .ok (.iload_n 2, 1) := by decide +kernel
theorem dX8_feed_71 : decode cX8_feed 71 = .ok (.iload_n 3, 1) := by decide +kernel
theorem dX8_feed_72 : decode cX8_feed 72 = .ok (.iload 4, 2) := by decide +kernel
theorem dX8_feed_74 : decode cX8_feed 74 = .ok (.iload 5, 2) := by decide +kernel
theorem dX8_feed_76 : decode cX8_feed 76 = .ok (.iload 7, 2) := by decide +kernel
theorem dX8_feed_78 : decode cX8_feed 78 = .ok (.invokestatic 53, 3) := by decide +kernel
theorem dX8_feed_81 : decode cX8_feed 81 = .ok (.istore 8, 2) := by decide +kernel
theorem dX8_feed_83 : decode cX8_feed 83 = .ok (.iload 8, 2) := by decide +kernel
theorem dX8_feed_85 : decode cX8_feed 85 = .ok (.ifCond .eq 24, 3) := by decide +kernel
theorem dX8_feed_109 : decode cX8_feed 109 = .ok (.iinc 7 1, 3) := by decide +kernel
theorem dX8_feed_112 : decode cX8_feed 112 = .ok (.goto (-50), 3) := by decide +kernel
theorem dX8_feed_88 : decode cX8_feed 88 = .ok (.aload_n 0, 1) := by decide +kernel
theorem dX8_feed_89 : decode cX8_feed 89 = .ok (.getfield 9, 3) := by decide +kernel
theorem dX8_feed_92 : decode cX8_feed 92 = .ok (.aload_n 0, 1) := by decide +kernel
theorem dX8_feed_93 : decode cX8_feed 93 = .ok (.getfield 57, 3) := by decide +kernel
theorem dX8_feed_96 : decode cX8_feed 96 = .ok (.iload 8, 2) := by decide +kernel
theorem dX8_feed_98 : decode cX8_feed 98 = .ok (.iastore, 1) := by decide +kernel
theorem dX8_feed_99 : decode cX8_feed 99 = .ok (.aload_n 0, 1) := by decide +kernel
theorem dX8_feed_100 : decode cX8_feed 100 = .ok (.dup, 1) := by decide +kernel
theorem dX8_feed_101 : decode cX8_feed 101 = .ok (.getfield 57, 3) := by decide +kernel
theorem dX8_feed_104 : decode cX8_feed 104 = .ok (.iconst 1, 1) := by decide +kernel
theorem dX8_feed_105 : decode cX8_feed 105 = .ok (.iadd, 1) := by decide +kernel
theorem dX8_feed_106 : decode cX8_feed 106 = .ok (.putfield 57, 3) := by decide +kernel
theorem dX8_feed_0 : decode cX8_feed 0 = .ok (.iconst 0, 1) := by decide +kernel
theorem dX8_feed_1 : decode cX8_feed 1 = .ok (.istore 6, 2) := by decide +kernel
theorem dX8_feed_3 : decode cX8_feed 3 = .ok (.iconst 0, 1) := by decide +kernel
theorem dX8_feed_4 : decode cX8_feed 4 = .ok (.istore 7, 2) := by decide +kernel
theorem dX8_feed_6 : decode cX8_feed 6 = .ok (.iload 7, 2) := by decide +kernel
theorem dX8_feed_8 : decode cX8_feed 8 = .ok (.bipush 20, 2) := by decide +kernel
theorem dX8_feed_10 : decode cX8_feed 10 = .ok (.if_icmp .ge 34, 3) := by decide +kernel
theorem dX8_feed_13 : decode cX8_feed 13 = .ok (.iload 6, 2) := by decide +kernel
theorem dX8_feed_15 : decode cX8_feed 15 = .ok (.iload_n 1, 1) := by decide +kernel
theorem dX8_feed_16 : decode cX8_feed 16 = .ok (.iload_n 2, 1) := by decide +kernel
theorem dX8_feed_17 : decode cX8_feed 17 = .ok (.iload_n 3, 1) := by decide +kernel
theorem dX8_feed_18 : decode cX8_feed 18 = .ok (.iload 4, 2) := by decide +kernel
theorem dX8_feed_20 : decode cX8_feed 20 = .ok (.iload 5, 2) := by decide +kernel
theorem dX8_feed_22 : decode cX8_feed 22 = .ok (.iload 7, 2) := by decide +kernel
theorem dX8_feed_24 : decode cX8_feed 24 = .ok (.invokestatic 53, 3) := by decide +kernel
theorem dX8_feed_27 : decode cX8_feed 27 = .ok (.ifCond .eq 7, 3) := by decide +kernel
theorem dX8_feed_30 : decode cX8_feed 30 = .ok (.iconst 1, 1) := by decide +kernel
theorem dX8_feed_31 : decode cX8_feed 31 = .ok (.goto 4, 3) := by decide +kernel
theorem dX8_feed_34 : decode cX8_feed 34 = .ok (.iconst 0, 1) := by decide +kernel
theorem dX8_feed_35 : decode cX8_feed 35 = .ok (.iadd, 1) := by decide +kernel
theorem dX8_feed_36 : decode cX8_feed 36 = .ok (.istore 6, 2) := by decide +kernel
theorem dX8_feed_38 : decode cX8_feed 38 = .ok (.iinc 7 1, 3) := by decide +kernel
theorem dX8_feed_41 : decode cX8_feed 41 = .ok (.goto (-35), 3) := by decide +kernel
theorem dX8_feed_44 : decode cX8_feed 44 = .ok (.aload_n 0, 1) := by decide +kernel
theorem dX8_feed_45 : decode cX8_feed 45 = .ok (.getfield 57, 3) := by decide +kernel
theorem dX8_feed_48 : decode cX8_feed 48 = .ok (.iload 6, 2) := by decide +kernel
theorem dX8_feed_50 : decode cX8_feed 50 = .ok (.iadd, 1) := by decide +kernel
theorem dX8_feed_51 : decode cX8_feed 51 = .ok (.sipush 320, 3) := by decide +kernel
theorem dX8_feed_54 : decode cX8_feed 54 = .ok (.if_icmp .le 5, 3) := by decide +kernel
theorem dX8_feed_59 : decode cX8_feed 59 = .ok (.iconst 0, 1) := by decide +kernel
theorem dX8_feed_60 : decode cX8_feed 60 = .ok (.istore 7, 2) := by decide +kernel
theorem dX8_feed_115 : decode cX8_feed 115 = .ok (.aload_n 0, 1) := by decide +kernel
theorem dX8_feed_116 : decode cX8_feed 116 = .ok (.getfield 57, 3) := by decide +kernel
theorem dX8_feed_119 : decode cX8_feed 119 = .ok (.ireturn, 1) := by decide +kernel
def v_d_feed : List Cond := .code yX8_feed cX8_feed 9 (some .int) :: ([.fieldLink RX8 9 "HushWatchModel" "tape" "[I", .fieldLink RX8 57 "HushWatchModel" "taped" "I", .methodLink RX8 53 yX8_byteOf, .static yX8_byteOf, .initialized RX8] ++ (v_d_byteOf0 ++ (wsX80 ++ (v_d_byteOf1 ++ (v_d_byteOf2 ++ (v_d_byteOf3 ++ (v_d_byteOf4 ++ (v_d_byteOf5 ++ (v_d_byteOf6 ++ (v_d_byteOf7 ++ (v_d_byteOf8 ++ (v_d_byteOf9 ++ (v_d_byteOf10 ++ (v_d_byteOf11 ++ (v_d_byteOf12 ++ (v_d_byteOf13 ++ (v_d_byteOf14 ++ (v_d_byteOf15 ++ (v_d_byteOf16 ++ (v_d_byteOf17 ++ (v_d_byteOf18 ++ (v_d_byteOf19 ++ ([])))))))))))))))))))))))
theorem gw_d_feed : v_d_feed.all goodWord = true := by decide +kernel
theorem i_d_feed_X8 : ∀ w ∈ wsX80, w ∈ v_d_feed := fun _ h => List.mem_cons_of_mem _ (List.mem_append_right _ (List.mem_append_right _ (List.mem_append_left _ h)))
theorem g_d_feed_d_byteOf0_53 : GoodIn v_d_feed (va_wsS RX8 53 yX8_byteOf v_d_byteOf0) := goodIn_app (goodIn_of _ (by decide +kernel)) (goodIn_sub (fun _ h => List.mem_cons_of_mem _ (List.mem_append_right _ (List.mem_append_left _ h))) gw_d_byteOf0)
theorem g_d_feed_d_byteOf1_53 : GoodIn v_d_feed (va_wsS RX8 53 yX8_byteOf v_d_byteOf1) := goodIn_app (goodIn_of _ (by decide +kernel)) (goodIn_sub (fun _ h => List.mem_cons_of_mem _ (List.mem_append_right _ (List.mem_append_right _ (List.mem_append_right _ (List.mem_append_left _ h))))) gw_d_byteOf1)
theorem g_d_feed_d_byteOf2_53 : GoodIn v_d_feed (va_wsS RX8 53 yX8_byteOf v_d_byteOf2) := goodIn_app (goodIn_of _ (by decide +kernel)) (goodIn_sub (fun _ h => List.mem_cons_of_mem _ (List.mem_append_right _ (List.mem_append_right _ (List.mem_append_right _ (List.mem_append_right _ (List.mem_append_left _ h)))))) gw_d_byteOf2)
theorem g_d_feed_d_byteOf3_53 : GoodIn v_d_feed (va_wsS RX8 53 yX8_byteOf v_d_byteOf3) := goodIn_app (goodIn_of _ (by decide +kernel)) (goodIn_sub (fun _ h => List.mem_cons_of_mem _ (List.mem_append_right _ (List.mem_append_right _ (List.mem_append_right _ (List.mem_append_right _ (List.mem_append_right _ (List.mem_append_left _ h))))))) gw_d_byteOf3)
theorem g_d_feed_d_byteOf4_53 : GoodIn v_d_feed (va_wsS RX8 53 yX8_byteOf v_d_byteOf4) := goodIn_app (goodIn_of _ (by decide +kernel)) (goodIn_sub (fun _ h => List.mem_cons_of_mem _ (List.mem_append_right _ (List.mem_append_right _ (List.mem_append_right _ (List.mem_append_right _ (List.mem_append_right _ (List.mem_append_right _ (List.mem_append_left _ h)))))))) gw_d_byteOf4)
theorem g_d_feed_d_byteOf5_53 : GoodIn v_d_feed (va_wsS RX8 53 yX8_byteOf v_d_byteOf5) := goodIn_app (goodIn_of _ (by decide +kernel)) (goodIn_sub (fun _ h => List.mem_cons_of_mem _ (List.mem_append_right _ (List.mem_append_right _ (List.mem_append_right _ (List.mem_append_right _ (List.mem_append_right _ (List.mem_append_right _ (List.mem_append_right _ (List.mem_append_left _ h))))))))) gw_d_byteOf5)
theorem g_d_feed_d_byteOf6_53 : GoodIn v_d_feed (va_wsS RX8 53 yX8_byteOf v_d_byteOf6) := goodIn_app (goodIn_of _ (by decide +kernel)) (goodIn_sub (fun _ h => List.mem_cons_of_mem _ (List.mem_append_right _ (List.mem_append_right _ (List.mem_append_right _ (List.mem_append_right _ (List.mem_append_right _ (List.mem_append_right _ (List.mem_append_right _ (List.mem_append_right _ (List.mem_append_left _ h)))))))))) gw_d_byteOf6)
theorem g_d_feed_d_byteOf7_53 : GoodIn v_d_feed (va_wsS RX8 53 yX8_byteOf v_d_byteOf7) := goodIn_app (goodIn_of _ (by decide +kernel)) (goodIn_sub (fun _ h => List.mem_cons_of_mem _ (List.mem_append_right _ (List.mem_append_right _ (List.mem_append_right _ (List.mem_append_right _ (List.mem_append_right _ (List.mem_append_right _ (List.mem_append_right _ (List.mem_append_right _ (List.mem_append_right _ (List.mem_append_left _ h))))))))))) gw_d_byteOf7)
theorem g_d_feed_d_byteOf8_53 : GoodIn v_d_feed (va_wsS RX8 53 yX8_byteOf v_d_byteOf8) := goodIn_app (goodIn_of _ (by decide +kernel)) (goodIn_sub (fun _ h => List.mem_cons_of_mem _ (List.mem_append_right _ (List.mem_append_right _ (List.mem_append_right _ (List.mem_append_right _ (List.mem_append_right _ (List.mem_append_right _ (List.mem_append_right _ (List.mem_append_right _ (List.mem_append_right _ (List.mem_append_right _ (List.mem_append_left _ h)))))))))))) gw_d_byteOf8)
theorem g_d_feed_d_byteOf9_53 : GoodIn v_d_feed (va_wsS RX8 53 yX8_byteOf v_d_byteOf9) := goodIn_app (goodIn_of _ (by decide +kernel)) (goodIn_sub (fun _ h => List.mem_cons_of_mem _ (List.mem_append_right _ (List.mem_append_right _ (List.mem_append_right _ (List.mem_append_right _ (List.mem_append_right _ (List.mem_append_right _ (List.mem_append_right _ (List.mem_append_right _ (List.mem_append_right _ (List.mem_append_right _ (List.mem_append_right _ (List.mem_append_left _ h))))))))))))) gw_d_byteOf9)
theorem g_d_feed_d_byteOf10_53 : GoodIn v_d_feed (va_wsS RX8 53 yX8_byteOf v_d_byteOf10) := goodIn_app (goodIn_of _ (by decide +kernel)) (goodIn_sub (fun _ h => List.mem_cons_of_mem _ (List.mem_append_right _ (List.mem_append_right _ (List.mem_append_right _ (List.mem_append_right _ (List.mem_append_right _ (List.mem_append_right _ (List.mem_append_right _ (List.mem_append_right _ (List.mem_append_right _ (List.mem_append_right _ (List.mem_append_right _ (List.mem_append_right _ (List.mem_append_left _ h)))))))))))))) gw_d_byteOf10)
theorem g_d_feed_d_byteOf11_53 : GoodIn v_d_feed (va_wsS RX8 53 yX8_byteOf v_d_byteOf11) := goodIn_app (goodIn_of _ (by decide +kernel)) (goodIn_sub (fun _ h => List.mem_cons_of_mem _ (List.mem_append_right _ (List.mem_append_right _ (List.mem_append_right _ (List.mem_append_right _ (List.mem_append_right _ (List.mem_append_right _ (List.mem_append_right _ (List.mem_append_right _ (List.mem_append_right _ (List.mem_append_right _ (List.mem_append_right _ (List.mem_append_right _ (List.mem_append_right _ (List.mem_append_left _ h))))))))))))))) gw_d_byteOf11)
theorem g_d_feed_d_byteOf12_53 : GoodIn v_d_feed (va_wsS RX8 53 yX8_byteOf v_d_byteOf12) := goodIn_app (goodIn_of _ (by decide +kernel)) (goodIn_sub (fun _ h => List.mem_cons_of_mem _ (List.mem_append_right _ (List.mem_append_right _ (List.mem_append_right _ (List.mem_append_right _ (List.mem_append_right _ (List.mem_append_right _ (List.mem_append_right _ (List.mem_append_right _ (List.mem_append_right _ (List.mem_append_right _ (List.mem_append_right _ (List.mem_append_right _ (List.mem_append_right _ (List.mem_append_right _ (List.mem_append_left _ h)))))))))))))))) gw_d_byteOf12)
theorem g_d_feed_d_byteOf13_53 : GoodIn v_d_feed (va_wsS RX8 53 yX8_byteOf v_d_byteOf13) := goodIn_app (goodIn_of _ (by decide +kernel)) (goodIn_sub (fun _ h => List.mem_cons_of_mem _ (List.mem_append_right _ (List.mem_append_right _ (List.mem_append_right _ (List.mem_append_right _ (List.mem_append_right _ (List.mem_append_right _ (List.mem_append_right _ (List.mem_append_right _ (List.mem_append_right _ (List.mem_append_right _ (List.mem_append_right _ (List.mem_append_right _ (List.mem_append_right _ (List.mem_append_right _ (List.mem_append_right _ (List.mem_append_left _ h))))))))))))))))) gw_d_byteOf13)
theorem g_d_feed_d_byteOf14_53 : GoodIn v_d_feed (va_wsS RX8 53 yX8_byteOf v_d_byteOf14) := goodIn_app (goodIn_of _ (by decide +kernel)) (goodIn_sub (fun _ h => List.mem_cons_of_mem _ (List.mem_append_right _ (List.mem_append_right _ (List.mem_append_right _ (List.mem_append_right _ (List.mem_append_right _ (List.mem_append_right _ (List.mem_append_right _ (List.mem_append_right _ (List.mem_append_right _ (List.mem_append_right _ (List.mem_append_right _ (List.mem_append_right _ (List.mem_append_right _ (List.mem_append_right _ (List.mem_append_right _ (List.mem_append_right _ (List.mem_append_left _ h)))))))))))))))))) gw_d_byteOf14)
theorem g_d_feed_d_byteOf15_53 : GoodIn v_d_feed (va_wsS RX8 53 yX8_byteOf v_d_byteOf15) := goodIn_app (goodIn_of _ (by decide +kernel)) (goodIn_sub (fun _ h => List.mem_cons_of_mem _ (List.mem_append_right _ (List.mem_append_right _ (List.mem_append_right _ (List.mem_append_right _ (List.mem_append_right _ (List.mem_append_right _ (List.mem_append_right _ (List.mem_append_right _ (List.mem_append_right _ (List.mem_append_right _ (List.mem_append_right _ (List.mem_append_right _ (List.mem_append_right _ (List.mem_append_right _ (List.mem_append_right _ (List.mem_append_right _ (List.mem_append_right _ (List.mem_append_left _ h))))))))))))))))))) gw_d_byteOf15)
theorem g_d_feed_d_byteOf16_53 : GoodIn v_d_feed (va_wsS RX8 53 yX8_byteOf v_d_byteOf16) := goodIn_app (goodIn_of _ (by decide +kernel)) (goodIn_sub (fun _ h => List.mem_cons_of_mem _ (List.mem_append_right _ (List.mem_append_right _ (List.mem_append_right _ (List.mem_append_right _ (List.mem_append_right _ (List.mem_append_right _ (List.mem_append_right _ (List.mem_append_right _ (List.mem_append_right _ (List.mem_append_right _ (List.mem_append_right _ (List.mem_append_right _ (List.mem_append_right _ (List.mem_append_right _ (List.mem_append_right _ (List.mem_append_right _ (List.mem_append_right _ (List.mem_append_right _ (List.mem_append_left _ h)))))))))))))))))))) gw_d_byteOf16)
theorem g_d_feed_d_byteOf17_53 : GoodIn v_d_feed (va_wsS RX8 53 yX8_byteOf v_d_byteOf17) := goodIn_app (goodIn_of _ (by decide +kernel)) (goodIn_sub (fun _ h => List.mem_cons_of_mem _ (List.mem_append_right _ (List.mem_append_right _ (List.mem_append_right _ (List.mem_append_right _ (List.mem_append_right _ (List.mem_append_right _ (List.mem_append_right _ (List.mem_append_right _ (List.mem_append_right _ (List.mem_append_right _ (List.mem_append_right _ (List.mem_append_right _ (List.mem_append_right _ (List.mem_append_right _ (List.mem_append_right _ (List.mem_append_right _ (List.mem_append_right _ (List.mem_append_right _ (List.mem_append_right _ (List.mem_append_left _ h))))))))))))))))))))) gw_d_byteOf17)
theorem g_d_feed_d_byteOf18_53 : GoodIn v_d_feed (va_wsS RX8 53 yX8_byteOf v_d_byteOf18) := goodIn_app (goodIn_of _ (by decide +kernel)) (goodIn_sub (fun _ h => List.mem_cons_of_mem _ (List.mem_append_right _ (List.mem_append_right _ (List.mem_append_right _ (List.mem_append_right _ (List.mem_append_right _ (List.mem_append_right _ (List.mem_append_right _ (List.mem_append_right _ (List.mem_append_right _ (List.mem_append_right _ (List.mem_append_right _ (List.mem_append_right _ (List.mem_append_right _ (List.mem_append_right _ (List.mem_append_right _ (List.mem_append_right _ (List.mem_append_right _ (List.mem_append_right _ (List.mem_append_right _ (List.mem_append_right _ (List.mem_append_left _ h)))))))))))))))))))))) gw_d_byteOf18)
theorem g_d_feed_d_byteOf19_53 : GoodIn v_d_feed (va_wsS RX8 53 yX8_byteOf v_d_byteOf19) := goodIn_app (goodIn_of _ (by decide +kernel)) (goodIn_sub (fun _ h => List.mem_cons_of_mem _ (List.mem_append_right _ (List.mem_append_right _ (List.mem_append_right _ (List.mem_append_right _ (List.mem_append_right _ (List.mem_append_right _ (List.mem_append_right _ (List.mem_append_right _ (List.mem_append_right _ (List.mem_append_right _ (List.mem_append_right _ (List.mem_append_right _ (List.mem_append_right _ (List.mem_append_right _ (List.mem_append_right _ (List.mem_append_right _ (List.mem_append_right _ (List.mem_append_right _ (List.mem_append_right _ (List.mem_append_right _ (List.mem_append_right _ (List.mem_append_left _ h))))))))))))))))))))))) gw_d_byteOf19)
set_option maxHeartbeats 4000000 in
set_option maxRecDepth 100000 in
theorem mf_it0 {p : Program} (l : Launch) {e : Env} {s : State} {m : MethodId} {below : List Frame} {meth : Method} {c : Code} {Q : State → Prop} (E : EE) {mo m_tape m_readPlace m_script m_scriptLong m_now m_refused m_shareX m_shareY m_askedRow m_kept m_aside m_spelled m_image : Nat} {p0 p1 p2 p3 p4 : Int32} (hx : p.tables.exec = Jvm.exec) (hb : c.code = cX8_feed) (hml : c.maxLocals = 9) (hown : s.vm.findClass RX8 = some m.cls) (hts : ∀ w ∈ v_d_feed, w.before #[Value.ref mo, Value.int p0, Value.int p1, Value.int p2, Value.int p3, Value.int p4] s = true) (hK : va_K E.1 vwCl (TY E) s) (hN : NX s) {A : Nat → Prop} (hA : ∀ q : Nat, s.heap.size ≤ q → A q) (n : Nat) (hn : n < 320)
    (K : ∀ (H : Heap) (locs : List Loc) (f : Nat → Int32) (ls : Array Slot), va_P E.1 vwCl [(mo, .inr (9, [.int 0, .ref m_tape, .int (nI (n + nzN p0 24)), .int 0, .int 0, .int 0, .int 0, .int 0, .long 0, .int 0, .int 0, .int 0, .int 0, .ref m_readPlace, .ref m_script, .ref m_scriptLong, .int 0, .ref m_now, .ref m_refused, .int 0, .ref m_shareX, .ref m_shareY, .int 0, .int 0, .ref m_askedRow, .int 0, .ref m_kept, .int 0, .long 0, .ref m_aside, .int 0, .int 0, .ref m_spelled, .int 0, .ref m_image, .int 0])), (m_tape, .inl (E.2.1, 320, .inl f))] H → va_D A [(mo, .inr (9, [.int 0, .ref m_tape, .int (nI (n + nzN p0 24)), .int 0, .int 0, .int 0, .int 0, .int 0, .long 0, .int 0, .int 0, .int 0, .int 0, .ref m_readPlace, .ref m_script, .ref m_scriptLong, .int 0, .ref m_now, .ref m_refused, .int 0, .ref m_shareX, .ref m_shareY, .int 0, .int 0, .ref m_askedRow, .int 0, .ref m_kept, .int 0, .long 0, .ref m_aside, .int 0, .int 0, .ref m_spelled, .int 0, .ref m_image, .int 0])), (m_tape, .inl (E.2.1, 320, .inl f))] → va_S A s.heap H locs → lv_has ls 9 [(0, .ref mo), (1, .int p0), (2, .int p1), (3, .int p2), (4, .int p3), (5, .int p4), (7, .int 1)] → W p l e ({ frames := 1, cells := 0, slots := 0, locals := 26 } : Room) s m #[Value.ref mo, Value.int p0, Value.int p1, Value.int p2, Value.int p3, Value.int p4] below meth c H locs 0 0 Q (F0 m 62 ls [])) :
    ∀ (H : Heap) (locs : List Loc) (f : Nat → Int32) (ls : Array Slot), va_P E.1 vwCl [(mo, .inr (9, [.int 0, .ref m_tape, .int (nI n), .int 0, .int 0, .int 0, .int 0, .int 0, .long 0, .int 0, .int 0, .int 0, .int 0, .ref m_readPlace, .ref m_script, .ref m_scriptLong, .int 0, .ref m_now, .ref m_refused, .int 0, .ref m_shareX, .ref m_shareY, .int 0, .int 0, .ref m_askedRow, .int 0, .ref m_kept, .int 0, .long 0, .ref m_aside, .int 0, .int 0, .ref m_spelled, .int 0, .ref m_image, .int 0])), (m_tape, .inl (E.2.1, 320, .inl f))] H → va_D A [(mo, .inr (9, [.int 0, .ref m_tape, .int (nI n), .int 0, .int 0, .int 0, .int 0, .int 0, .long 0, .int 0, .int 0, .int 0, .int 0, .ref m_readPlace, .ref m_script, .ref m_scriptLong, .int 0, .ref m_now, .ref m_refused, .int 0, .ref m_shareX, .ref m_shareY, .int 0, .int 0, .ref m_askedRow, .int 0, .ref m_kept, .int 0, .long 0, .ref m_aside, .int 0, .int 0, .ref m_spelled, .int 0, .ref m_image, .int 0])), (m_tape, .inl (E.2.1, 320, .inl f))] → va_S A s.heap H locs → lv_has ls 9 [(0, .ref mo), (1, .int p0), (2, .int p1), (3, .int p2), (4, .int p3), (5, .int p4), (7, .int 0)] → W p l e ({ frames := 1, cells := 0, slots := 0, locals := 26 } : Room) s m #[Value.ref mo, Value.int p0, Value.int p1, Value.int p2, Value.int p3, Value.int p4] below meth c H locs 0 0 Q (F0 m 62 ls []) := by
  intro H locs f ls hP hD hS hl
  refine lv_iload hx hb dX8_feed_62 (lv_at hl 6 rfl) ?_
  refine lv_bipush (v := 20) hx hb dX8_feed_64 (by decide) ?_
  refine lv_icmp_ge (tgt := 115) hx hb dX8_feed_66 (by decide) (fun q => absurd q (by decide)) (fun _ => ?_)
  refine lv_iload_n hx hb dX8_feed_69 rfl (lv_at hl 1 rfl) ?_
  refine lv_iload_n hx hb dX8_feed_70 rfl (lv_at hl 2 rfl) ?_
  refine lv_iload_n hx hb dX8_feed_71 rfl (lv_at hl 3 rfl) ?_
  refine lv_iload hx hb dX8_feed_72 (lv_at hl 4 rfl) ?_
  refine lv_iload hx hb dX8_feed_74 (lv_at hl 5 rfl) ?_
  refine lv_iload hx hb dX8_feed_76 (lv_at hl 6 rfl) ?_
  have hPc : va_P E.1 vwCl [] H := fun k q h => by simp at h
  refine pc_i (va_runS (As := [.int p0, .int p1, .int p2, .int p3, .int p4, .int 0]) (rest := []) ⟨hx, hb, hml, hown, hts⟩ (d_byteOf0 l E p0 p1 p2 p3 p4) (va_cwS 6 hts g_d_feed_d_byteOf0_53 rfl rfl rfl (by decide +kernel) ⟨Nat.le_of_ble_eq_true rfl, Nat.le_of_ble_eq_true rfl⟩) ⟨pP.blind, (pP.pre ⟨hK, hN⟩ hPc)⟩ rfl rfl hl.1 rfl (lv_room (Nat.le_of_ble_eq_true rfl)) dX8_feed_78 ⟨Nat.le_of_ble_eq_true rfl, Nat.le_of_ble_eq_true rfl⟩) (fun r_1 hr_1 => ?_)
  refine lv_istore (lv' := [(8, .int r_1), (0, .ref mo), (1, .int p0), (2, .int p1), (3, .int p2), (4, .int p3), (5, .int p4), (7, .int 0)]) hx hb dX8_feed_81 hl (by decide) rfl (fun ls hl => ?_)
  refine lv_iload hx hb dX8_feed_83 (lv_at hl 0 rfl) ?_
  refine lv_if_eq (tgt := 109) hx hb dX8_feed_85 (by decide) (fun c_2 => ?_) (fun c_2 => ?_)
  ·
    refine lv_iinc (v := 1) (lv' := [(7, .int 1), (8, .int r_1), (0, .ref mo), (1, .int p0), (2, .int p1), (3, .int p2), (4, .int p3), (5, .int p4)]) hx hb dX8_feed_109 hl (k := 7) rfl (by decide) (by decide) rfl (fun ls hl => ?_)
    refine lv_goto (tgt := 62) hx hb dX8_feed_112 (by decide) ?_
    have e8 : nzN p0 24 = 0 := by unfold nzN; rw [← hr_1, if_pos c_2]
    have e9 : n = n + nzN p0 24 := by omega
    have hP : va_P E.1 vwCl [(mo, .inr (9, [.int 0, .ref m_tape, .int (nI (n + nzN p0 24)), .int 0, .int 0, .int 0, .int 0, .int 0, .long 0, .int 0, .int 0, .int 0, .int 0, .ref m_readPlace, .ref m_script, .ref m_scriptLong, .int 0, .ref m_now, .ref m_refused, .int 0, .ref m_shareX, .ref m_shareY, .int 0, .int 0, .ref m_askedRow, .int 0, .ref m_kept, .int 0, .long 0, .ref m_aside, .int 0, .int 0, .ref m_spelled, .int 0, .ref m_image, .int 0])), (m_tape, .inl (E.2.1, 320, .inl f))] H := by rw [← e9]; exact hP
    have hD : va_D A [(mo, .inr (9, [.int 0, .ref m_tape, .int (nI (n + nzN p0 24)), .int 0, .int 0, .int 0, .int 0, .int 0, .long 0, .int 0, .int 0, .int 0, .int 0, .ref m_readPlace, .ref m_script, .ref m_scriptLong, .int 0, .ref m_now, .ref m_refused, .int 0, .ref m_shareX, .ref m_shareY, .int 0, .int 0, .ref m_askedRow, .int 0, .ref m_kept, .int 0, .long 0, .ref m_aside, .int 0, .int 0, .ref m_spelled, .int 0, .ref m_image, .int 0])), (m_tape, .inl (E.2.1, 320, .inl f))] := by rw [← e9]; exact hD
    exact K H locs f ls (hP.sub [0, 1] rfl) (hD.sub [0, 1] (by decide) rfl) hS (lv_sub hl [2, 3, 4, 5, 6, 7, 0] rfl)
  ·
    refine lv_aload_n hx hb dX8_feed_88 rfl (lv_at hl 1 rfl) ?_
    refine va_get (D := E.1) (ci := 9) (v := .ref m_tape) (C := RX8) (T := TX8) (N := 36) hx hb hts i_d_feed_X8 hown hK hP 0 rfl rfl 1 (by decide) (hts (.fieldLink RX8 9 "HushWatchModel" "tape" "[I") (List.mem_of_getElem? (i := 1) rfl)) (fun _ h9 => h9) rfl dX8_feed_89 ?_
    refine lv_aload_n hx hb dX8_feed_92 rfl (lv_at hl 1 rfl) ?_
    refine va_get (D := E.1) (ci := 9) (v := .int (nI n)) (C := RX8) (T := TX8) (N := 36) hx hb hts i_d_feed_X8 hown hK hP 0 rfl rfl 2 (by decide) (hts (.fieldLink RX8 57 "HushWatchModel" "taped" "I") (List.mem_of_getElem? (i := 2) rfl)) (fun _ h9 => h9) rfl dX8_feed_93 ?_
    refine lv_iload hx hb dX8_feed_96 (lv_at hl 0 rfl) ?_
    refine va_iast hx hb hK hP hD hS 1 0 rfl rfl (vp_in_nI (by omega) (by decide)) dX8_feed_98 (fun H locs hP hD hS => ?_)
    have hP : va_P E.1 vwCl [(mo, .inr (9, [.int 0, .ref m_tape, .int (nI n), .int 0, .int 0, .int 0, .int 0, .int 0, .long 0, .int 0, .int 0, .int 0, .int 0, .ref m_readPlace, .ref m_script, .ref m_scriptLong, .int 0, .ref m_now, .ref m_refused, .int 0, .ref m_shareX, .ref m_shareY, .int 0, .int 0, .ref m_askedRow, .int 0, .ref m_kept, .int 0, .long 0, .ref m_aside, .int 0, .int 0, .ref m_spelled, .int 0, .ref m_image, .int 0])), (m_tape, .inl (E.2.1, 320, .inl (upd f (nI n : Int32).toNatClampNeg r_1)))] H := hP
    have hD : va_D A [(mo, .inr (9, [.int 0, .ref m_tape, .int (nI n), .int 0, .int 0, .int 0, .int 0, .int 0, .long 0, .int 0, .int 0, .int 0, .int 0, .ref m_readPlace, .ref m_script, .ref m_scriptLong, .int 0, .ref m_now, .ref m_refused, .int 0, .ref m_shareX, .ref m_shareY, .int 0, .int 0, .ref m_askedRow, .int 0, .ref m_kept, .int 0, .long 0, .ref m_aside, .int 0, .int 0, .ref m_spelled, .int 0, .ref m_image, .int 0])), (m_tape, .inl (E.2.1, 320, .inl (upd f (nI n : Int32).toNatClampNeg r_1)))] := hD
    generalize upd f (nI n : Int32).toNatClampNeg r_1 = f_3 at hP hD
    refine lv_aload_n hx hb dX8_feed_99 rfl (lv_at hl 1 rfl) ?_
    refine lv_dup hx hb dX8_feed_100 rfl ?_
    refine va_get (D := E.1) (ci := 9) (v := .int (nI n)) (C := RX8) (T := TX8) (N := 36) hx hb hts i_d_feed_X8 hown hK hP 0 rfl rfl 2 (by decide) (hts (.fieldLink RX8 57 "HushWatchModel" "taped" "I") (List.mem_of_getElem? (i := 2) rfl)) (fun _ h9 => h9) rfl dX8_feed_101 ?_
    refine lv_iconst (v := 1) hx hb dX8_feed_104 (by decide) ?_
    refine lv_iadd hx hb dX8_feed_105 ?_
    refine lv_topi (fun z_4 ez_4 => ?_)
    obtain rfl : z_4 = nI (n + 1) := ez_4.trans (nI_add _ 1)
    refine va_put (D := E.1) (ci := 9) (v := .int (nI (n + 1))) (ty := .int) (C := RX8) (T := TX8) (N := 36) hx hb hts i_d_feed_X8 tyX8 tyX8_ok nmX8 hown hK hP hD hS 0 rfl rfl 2 (by decide) (hts (.fieldLink RX8 57 "HushWatchModel" "taped" "I") (List.mem_of_getElem? (i := 2) rfl)) (fun _ h9 => h9) rfl (by decide +kernel) rfl rfl (Nat.le_of_ble_eq_true rfl) dX8_feed_106 (fun H locs hP hD hS => ?_)
    have hP : va_P E.1 vwCl [(mo, .inr (9, [.int 0, .ref m_tape, .int (nI (n + 1)), .int 0, .int 0, .int 0, .int 0, .int 0, .long 0, .int 0, .int 0, .int 0, .int 0, .ref m_readPlace, .ref m_script, .ref m_scriptLong, .int 0, .ref m_now, .ref m_refused, .int 0, .ref m_shareX, .ref m_shareY, .int 0, .int 0, .ref m_askedRow, .int 0, .ref m_kept, .int 0, .long 0, .ref m_aside, .int 0, .int 0, .ref m_spelled, .int 0, .ref m_image, .int 0])), (m_tape, .inl (E.2.1, 320, .inl f_3))] H := hP
    have hD : va_D A [(mo, .inr (9, [.int 0, .ref m_tape, .int (nI (n + 1)), .int 0, .int 0, .int 0, .int 0, .int 0, .long 0, .int 0, .int 0, .int 0, .int 0, .ref m_readPlace, .ref m_script, .ref m_scriptLong, .int 0, .ref m_now, .ref m_refused, .int 0, .ref m_shareX, .ref m_shareY, .int 0, .int 0, .ref m_askedRow, .int 0, .ref m_kept, .int 0, .long 0, .ref m_aside, .int 0, .int 0, .ref m_spelled, .int 0, .ref m_image, .int 0])), (m_tape, .inl (E.2.1, 320, .inl f_3))] := hD
    refine lv_iinc (v := 1) (lv' := [(7, .int 1), (8, .int r_1), (0, .ref mo), (1, .int p0), (2, .int p1), (3, .int p2), (4, .int p3), (5, .int p4)]) hx hb dX8_feed_109 hl (k := 7) rfl (by decide) (by decide) rfl (fun ls hl => ?_)
    refine lv_goto (tgt := 62) hx hb dX8_feed_112 (by decide) ?_
    have e8 : nzN p0 24 = 1 := by unfold nzN; rw [← hr_1, if_neg c_2]
    have e9 : n + 1 = n + nzN p0 24 := by omega
    have hP : va_P E.1 vwCl [(mo, .inr (9, [.int 0, .ref m_tape, .int (nI (n + nzN p0 24)), .int 0, .int 0, .int 0, .int 0, .int 0, .long 0, .int 0, .int 0, .int 0, .int 0, .ref m_readPlace, .ref m_script, .ref m_scriptLong, .int 0, .ref m_now, .ref m_refused, .int 0, .ref m_shareX, .ref m_shareY, .int 0, .int 0, .ref m_askedRow, .int 0, .ref m_kept, .int 0, .long 0, .ref m_aside, .int 0, .int 0, .ref m_spelled, .int 0, .ref m_image, .int 0])), (m_tape, .inl (E.2.1, 320, .inl f_3))] H := by rw [← e9]; exact hP
    have hD : va_D A [(mo, .inr (9, [.int 0, .ref m_tape, .int (nI (n + nzN p0 24)), .int 0, .int 0, .int 0, .int 0, .int 0, .long 0, .int 0, .int 0, .int 0, .int 0, .ref m_readPlace, .ref m_script, .ref m_scriptLong, .int 0, .ref m_now, .ref m_refused, .int 0, .ref m_shareX, .ref m_shareY, .int 0, .int 0, .ref m_askedRow, .int 0, .ref m_kept, .int 0, .long 0, .ref m_aside, .int 0, .int 0, .ref m_spelled, .int 0, .ref m_image, .int 0])), (m_tape, .inl (E.2.1, 320, .inl f_3))] := by rw [← e9]; exact hD
    exact K H locs f_3 ls (hP.sub [0, 1] rfl) (hD.sub [0, 1] (by decide) rfl) hS (lv_sub hl [2, 3, 4, 5, 6, 7, 0] rfl)

set_option maxHeartbeats 4000000 in
set_option maxRecDepth 100000 in
theorem mf_it1 {p : Program} (l : Launch) {e : Env} {s : State} {m : MethodId} {below : List Frame} {meth : Method} {c : Code} {Q : State → Prop} (E : EE) {mo m_tape m_readPlace m_script m_scriptLong m_now m_refused m_shareX m_shareY m_askedRow m_kept m_aside m_spelled m_image : Nat} {p0 p1 p2 p3 p4 : Int32} (hx : p.tables.exec = Jvm.exec) (hb : c.code = cX8_feed) (hml : c.maxLocals = 9) (hown : s.vm.findClass RX8 = some m.cls) (hts : ∀ w ∈ v_d_feed, w.before #[Value.ref mo, Value.int p0, Value.int p1, Value.int p2, Value.int p3, Value.int p4] s = true) (hK : va_K E.1 vwCl (TY E) s) (hN : NX s) {A : Nat → Prop} (hA : ∀ q : Nat, s.heap.size ≤ q → A q) (n : Nat) (hn : n < 320)
    (K : ∀ (H : Heap) (locs : List Loc) (f : Nat → Int32) (ls : Array Slot), va_P E.1 vwCl [(mo, .inr (9, [.int 0, .ref m_tape, .int (nI (n + nzN p0 16)), .int 0, .int 0, .int 0, .int 0, .int 0, .long 0, .int 0, .int 0, .int 0, .int 0, .ref m_readPlace, .ref m_script, .ref m_scriptLong, .int 0, .ref m_now, .ref m_refused, .int 0, .ref m_shareX, .ref m_shareY, .int 0, .int 0, .ref m_askedRow, .int 0, .ref m_kept, .int 0, .long 0, .ref m_aside, .int 0, .int 0, .ref m_spelled, .int 0, .ref m_image, .int 0])), (m_tape, .inl (E.2.1, 320, .inl f))] H → va_D A [(mo, .inr (9, [.int 0, .ref m_tape, .int (nI (n + nzN p0 16)), .int 0, .int 0, .int 0, .int 0, .int 0, .long 0, .int 0, .int 0, .int 0, .int 0, .ref m_readPlace, .ref m_script, .ref m_scriptLong, .int 0, .ref m_now, .ref m_refused, .int 0, .ref m_shareX, .ref m_shareY, .int 0, .int 0, .ref m_askedRow, .int 0, .ref m_kept, .int 0, .long 0, .ref m_aside, .int 0, .int 0, .ref m_spelled, .int 0, .ref m_image, .int 0])), (m_tape, .inl (E.2.1, 320, .inl f))] → va_S A s.heap H locs → lv_has ls 9 [(0, .ref mo), (1, .int p0), (2, .int p1), (3, .int p2), (4, .int p3), (5, .int p4), (7, .int 2)] → W p l e ({ frames := 1, cells := 0, slots := 0, locals := 26 } : Room) s m #[Value.ref mo, Value.int p0, Value.int p1, Value.int p2, Value.int p3, Value.int p4] below meth c H locs 0 0 Q (F0 m 62 ls [])) :
    ∀ (H : Heap) (locs : List Loc) (f : Nat → Int32) (ls : Array Slot), va_P E.1 vwCl [(mo, .inr (9, [.int 0, .ref m_tape, .int (nI n), .int 0, .int 0, .int 0, .int 0, .int 0, .long 0, .int 0, .int 0, .int 0, .int 0, .ref m_readPlace, .ref m_script, .ref m_scriptLong, .int 0, .ref m_now, .ref m_refused, .int 0, .ref m_shareX, .ref m_shareY, .int 0, .int 0, .ref m_askedRow, .int 0, .ref m_kept, .int 0, .long 0, .ref m_aside, .int 0, .int 0, .ref m_spelled, .int 0, .ref m_image, .int 0])), (m_tape, .inl (E.2.1, 320, .inl f))] H → va_D A [(mo, .inr (9, [.int 0, .ref m_tape, .int (nI n), .int 0, .int 0, .int 0, .int 0, .int 0, .long 0, .int 0, .int 0, .int 0, .int 0, .ref m_readPlace, .ref m_script, .ref m_scriptLong, .int 0, .ref m_now, .ref m_refused, .int 0, .ref m_shareX, .ref m_shareY, .int 0, .int 0, .ref m_askedRow, .int 0, .ref m_kept, .int 0, .long 0, .ref m_aside, .int 0, .int 0, .ref m_spelled, .int 0, .ref m_image, .int 0])), (m_tape, .inl (E.2.1, 320, .inl f))] → va_S A s.heap H locs → lv_has ls 9 [(0, .ref mo), (1, .int p0), (2, .int p1), (3, .int p2), (4, .int p3), (5, .int p4), (7, .int 1)] → W p l e ({ frames := 1, cells := 0, slots := 0, locals := 26 } : Room) s m #[Value.ref mo, Value.int p0, Value.int p1, Value.int p2, Value.int p3, Value.int p4] below meth c H locs 0 0 Q (F0 m 62 ls []) := by
  intro H locs f ls hP hD hS hl
  refine lv_iload hx hb dX8_feed_62 (lv_at hl 6 rfl) ?_
  refine lv_bipush (v := 20) hx hb dX8_feed_64 (by decide) ?_
  refine lv_icmp_ge (tgt := 115) hx hb dX8_feed_66 (by decide) (fun q => absurd q (by decide)) (fun _ => ?_)
  refine lv_iload_n hx hb dX8_feed_69 rfl (lv_at hl 1 rfl) ?_
  refine lv_iload_n hx hb dX8_feed_70 rfl (lv_at hl 2 rfl) ?_
  refine lv_iload_n hx hb dX8_feed_71 rfl (lv_at hl 3 rfl) ?_
  refine lv_iload hx hb dX8_feed_72 (lv_at hl 4 rfl) ?_
  refine lv_iload hx hb dX8_feed_74 (lv_at hl 5 rfl) ?_
  refine lv_iload hx hb dX8_feed_76 (lv_at hl 6 rfl) ?_
  have hPc : va_P E.1 vwCl [] H := fun k q h => by simp at h
  refine pc_i (va_runS (As := [.int p0, .int p1, .int p2, .int p3, .int p4, .int 1]) (rest := []) ⟨hx, hb, hml, hown, hts⟩ (d_byteOf1 l E p0 p1 p2 p3 p4) (va_cwS 6 hts g_d_feed_d_byteOf1_53 rfl rfl rfl (by decide +kernel) ⟨Nat.le_of_ble_eq_true rfl, Nat.le_of_ble_eq_true rfl⟩) ⟨pP.blind, (pP.pre ⟨hK, hN⟩ hPc)⟩ rfl rfl hl.1 rfl (lv_room (Nat.le_of_ble_eq_true rfl)) dX8_feed_78 ⟨Nat.le_of_ble_eq_true rfl, Nat.le_of_ble_eq_true rfl⟩) (fun r_1 hr_1 => ?_)
  refine lv_istore (lv' := [(8, .int r_1), (0, .ref mo), (1, .int p0), (2, .int p1), (3, .int p2), (4, .int p3), (5, .int p4), (7, .int 1)]) hx hb dX8_feed_81 hl (by decide) rfl (fun ls hl => ?_)
  refine lv_iload hx hb dX8_feed_83 (lv_at hl 0 rfl) ?_
  refine lv_if_eq (tgt := 109) hx hb dX8_feed_85 (by decide) (fun c_2 => ?_) (fun c_2 => ?_)
  ·
    refine lv_iinc (v := 2) (lv' := [(7, .int 2), (8, .int r_1), (0, .ref mo), (1, .int p0), (2, .int p1), (3, .int p2), (4, .int p3), (5, .int p4)]) hx hb dX8_feed_109 hl (k := 7) rfl (by decide) (by decide) rfl (fun ls hl => ?_)
    refine lv_goto (tgt := 62) hx hb dX8_feed_112 (by decide) ?_
    have e8 : nzN p0 16 = 0 := by unfold nzN; rw [← hr_1, if_pos c_2]
    have e9 : n = n + nzN p0 16 := by omega
    have hP : va_P E.1 vwCl [(mo, .inr (9, [.int 0, .ref m_tape, .int (nI (n + nzN p0 16)), .int 0, .int 0, .int 0, .int 0, .int 0, .long 0, .int 0, .int 0, .int 0, .int 0, .ref m_readPlace, .ref m_script, .ref m_scriptLong, .int 0, .ref m_now, .ref m_refused, .int 0, .ref m_shareX, .ref m_shareY, .int 0, .int 0, .ref m_askedRow, .int 0, .ref m_kept, .int 0, .long 0, .ref m_aside, .int 0, .int 0, .ref m_spelled, .int 0, .ref m_image, .int 0])), (m_tape, .inl (E.2.1, 320, .inl f))] H := by rw [← e9]; exact hP
    have hD : va_D A [(mo, .inr (9, [.int 0, .ref m_tape, .int (nI (n + nzN p0 16)), .int 0, .int 0, .int 0, .int 0, .int 0, .long 0, .int 0, .int 0, .int 0, .int 0, .ref m_readPlace, .ref m_script, .ref m_scriptLong, .int 0, .ref m_now, .ref m_refused, .int 0, .ref m_shareX, .ref m_shareY, .int 0, .int 0, .ref m_askedRow, .int 0, .ref m_kept, .int 0, .long 0, .ref m_aside, .int 0, .int 0, .ref m_spelled, .int 0, .ref m_image, .int 0])), (m_tape, .inl (E.2.1, 320, .inl f))] := by rw [← e9]; exact hD
    exact K H locs f ls (hP.sub [0, 1] rfl) (hD.sub [0, 1] (by decide) rfl) hS (lv_sub hl [2, 3, 4, 5, 6, 7, 0] rfl)
  ·
    refine lv_aload_n hx hb dX8_feed_88 rfl (lv_at hl 1 rfl) ?_
    refine va_get (D := E.1) (ci := 9) (v := .ref m_tape) (C := RX8) (T := TX8) (N := 36) hx hb hts i_d_feed_X8 hown hK hP 0 rfl rfl 1 (by decide) (hts (.fieldLink RX8 9 "HushWatchModel" "tape" "[I") (List.mem_of_getElem? (i := 1) rfl)) (fun _ h9 => h9) rfl dX8_feed_89 ?_
    refine lv_aload_n hx hb dX8_feed_92 rfl (lv_at hl 1 rfl) ?_
    refine va_get (D := E.1) (ci := 9) (v := .int (nI n)) (C := RX8) (T := TX8) (N := 36) hx hb hts i_d_feed_X8 hown hK hP 0 rfl rfl 2 (by decide) (hts (.fieldLink RX8 57 "HushWatchModel" "taped" "I") (List.mem_of_getElem? (i := 2) rfl)) (fun _ h9 => h9) rfl dX8_feed_93 ?_
    refine lv_iload hx hb dX8_feed_96 (lv_at hl 0 rfl) ?_
    refine va_iast hx hb hK hP hD hS 1 0 rfl rfl (vp_in_nI (by omega) (by decide)) dX8_feed_98 (fun H locs hP hD hS => ?_)
    have hP : va_P E.1 vwCl [(mo, .inr (9, [.int 0, .ref m_tape, .int (nI n), .int 0, .int 0, .int 0, .int 0, .int 0, .long 0, .int 0, .int 0, .int 0, .int 0, .ref m_readPlace, .ref m_script, .ref m_scriptLong, .int 0, .ref m_now, .ref m_refused, .int 0, .ref m_shareX, .ref m_shareY, .int 0, .int 0, .ref m_askedRow, .int 0, .ref m_kept, .int 0, .long 0, .ref m_aside, .int 0, .int 0, .ref m_spelled, .int 0, .ref m_image, .int 0])), (m_tape, .inl (E.2.1, 320, .inl (upd f (nI n : Int32).toNatClampNeg r_1)))] H := hP
    have hD : va_D A [(mo, .inr (9, [.int 0, .ref m_tape, .int (nI n), .int 0, .int 0, .int 0, .int 0, .int 0, .long 0, .int 0, .int 0, .int 0, .int 0, .ref m_readPlace, .ref m_script, .ref m_scriptLong, .int 0, .ref m_now, .ref m_refused, .int 0, .ref m_shareX, .ref m_shareY, .int 0, .int 0, .ref m_askedRow, .int 0, .ref m_kept, .int 0, .long 0, .ref m_aside, .int 0, .int 0, .ref m_spelled, .int 0, .ref m_image, .int 0])), (m_tape, .inl (E.2.1, 320, .inl (upd f (nI n : Int32).toNatClampNeg r_1)))] := hD
    generalize upd f (nI n : Int32).toNatClampNeg r_1 = f_3 at hP hD
    refine lv_aload_n hx hb dX8_feed_99 rfl (lv_at hl 1 rfl) ?_
    refine lv_dup hx hb dX8_feed_100 rfl ?_
    refine va_get (D := E.1) (ci := 9) (v := .int (nI n)) (C := RX8) (T := TX8) (N := 36) hx hb hts i_d_feed_X8 hown hK hP 0 rfl rfl 2 (by decide) (hts (.fieldLink RX8 57 "HushWatchModel" "taped" "I") (List.mem_of_getElem? (i := 2) rfl)) (fun _ h9 => h9) rfl dX8_feed_101 ?_
    refine lv_iconst (v := 1) hx hb dX8_feed_104 (by decide) ?_
    refine lv_iadd hx hb dX8_feed_105 ?_
    refine lv_topi (fun z_4 ez_4 => ?_)
    obtain rfl : z_4 = nI (n + 1) := ez_4.trans (nI_add _ 1)
    refine va_put (D := E.1) (ci := 9) (v := .int (nI (n + 1))) (ty := .int) (C := RX8) (T := TX8) (N := 36) hx hb hts i_d_feed_X8 tyX8 tyX8_ok nmX8 hown hK hP hD hS 0 rfl rfl 2 (by decide) (hts (.fieldLink RX8 57 "HushWatchModel" "taped" "I") (List.mem_of_getElem? (i := 2) rfl)) (fun _ h9 => h9) rfl (by decide +kernel) rfl rfl (Nat.le_of_ble_eq_true rfl) dX8_feed_106 (fun H locs hP hD hS => ?_)
    have hP : va_P E.1 vwCl [(mo, .inr (9, [.int 0, .ref m_tape, .int (nI (n + 1)), .int 0, .int 0, .int 0, .int 0, .int 0, .long 0, .int 0, .int 0, .int 0, .int 0, .ref m_readPlace, .ref m_script, .ref m_scriptLong, .int 0, .ref m_now, .ref m_refused, .int 0, .ref m_shareX, .ref m_shareY, .int 0, .int 0, .ref m_askedRow, .int 0, .ref m_kept, .int 0, .long 0, .ref m_aside, .int 0, .int 0, .ref m_spelled, .int 0, .ref m_image, .int 0])), (m_tape, .inl (E.2.1, 320, .inl f_3))] H := hP
    have hD : va_D A [(mo, .inr (9, [.int 0, .ref m_tape, .int (nI (n + 1)), .int 0, .int 0, .int 0, .int 0, .int 0, .long 0, .int 0, .int 0, .int 0, .int 0, .ref m_readPlace, .ref m_script, .ref m_scriptLong, .int 0, .ref m_now, .ref m_refused, .int 0, .ref m_shareX, .ref m_shareY, .int 0, .int 0, .ref m_askedRow, .int 0, .ref m_kept, .int 0, .long 0, .ref m_aside, .int 0, .int 0, .ref m_spelled, .int 0, .ref m_image, .int 0])), (m_tape, .inl (E.2.1, 320, .inl f_3))] := hD
    refine lv_iinc (v := 2) (lv' := [(7, .int 2), (8, .int r_1), (0, .ref mo), (1, .int p0), (2, .int p1), (3, .int p2), (4, .int p3), (5, .int p4)]) hx hb dX8_feed_109 hl (k := 7) rfl (by decide) (by decide) rfl (fun ls hl => ?_)
    refine lv_goto (tgt := 62) hx hb dX8_feed_112 (by decide) ?_
    have e8 : nzN p0 16 = 1 := by unfold nzN; rw [← hr_1, if_neg c_2]
    have e9 : n + 1 = n + nzN p0 16 := by omega
    have hP : va_P E.1 vwCl [(mo, .inr (9, [.int 0, .ref m_tape, .int (nI (n + nzN p0 16)), .int 0, .int 0, .int 0, .int 0, .int 0, .long 0, .int 0, .int 0, .int 0, .int 0, .ref m_readPlace, .ref m_script, .ref m_scriptLong, .int 0, .ref m_now, .ref m_refused, .int 0, .ref m_shareX, .ref m_shareY, .int 0, .int 0, .ref m_askedRow, .int 0, .ref m_kept, .int 0, .long 0, .ref m_aside, .int 0, .int 0, .ref m_spelled, .int 0, .ref m_image, .int 0])), (m_tape, .inl (E.2.1, 320, .inl f_3))] H := by rw [← e9]; exact hP
    have hD : va_D A [(mo, .inr (9, [.int 0, .ref m_tape, .int (nI (n + nzN p0 16)), .int 0, .int 0, .int 0, .int 0, .int 0, .long 0, .int 0, .int 0, .int 0, .int 0, .ref m_readPlace, .ref m_script, .ref m_scriptLong, .int 0, .ref m_now, .ref m_refused, .int 0, .ref m_shareX, .ref m_shareY, .int 0, .int 0, .ref m_askedRow, .int 0, .ref m_kept, .int 0, .long 0, .ref m_aside, .int 0, .int 0, .ref m_spelled, .int 0, .ref m_image, .int 0])), (m_tape, .inl (E.2.1, 320, .inl f_3))] := by rw [← e9]; exact hD
    exact K H locs f_3 ls (hP.sub [0, 1] rfl) (hD.sub [0, 1] (by decide) rfl) hS (lv_sub hl [2, 3, 4, 5, 6, 7, 0] rfl)

set_option maxHeartbeats 4000000 in
set_option maxRecDepth 100000 in
theorem mf_it2 {p : Program} (l : Launch) {e : Env} {s : State} {m : MethodId} {below : List Frame} {meth : Method} {c : Code} {Q : State → Prop} (E : EE) {mo m_tape m_readPlace m_script m_scriptLong m_now m_refused m_shareX m_shareY m_askedRow m_kept m_aside m_spelled m_image : Nat} {p0 p1 p2 p3 p4 : Int32} (hx : p.tables.exec = Jvm.exec) (hb : c.code = cX8_feed) (hml : c.maxLocals = 9) (hown : s.vm.findClass RX8 = some m.cls) (hts : ∀ w ∈ v_d_feed, w.before #[Value.ref mo, Value.int p0, Value.int p1, Value.int p2, Value.int p3, Value.int p4] s = true) (hK : va_K E.1 vwCl (TY E) s) (hN : NX s) {A : Nat → Prop} (hA : ∀ q : Nat, s.heap.size ≤ q → A q) (n : Nat) (hn : n < 320)
    (K : ∀ (H : Heap) (locs : List Loc) (f : Nat → Int32) (ls : Array Slot), va_P E.1 vwCl [(mo, .inr (9, [.int 0, .ref m_tape, .int (nI (n + nzN p0 8)), .int 0, .int 0, .int 0, .int 0, .int 0, .long 0, .int 0, .int 0, .int 0, .int 0, .ref m_readPlace, .ref m_script, .ref m_scriptLong, .int 0, .ref m_now, .ref m_refused, .int 0, .ref m_shareX, .ref m_shareY, .int 0, .int 0, .ref m_askedRow, .int 0, .ref m_kept, .int 0, .long 0, .ref m_aside, .int 0, .int 0, .ref m_spelled, .int 0, .ref m_image, .int 0])), (m_tape, .inl (E.2.1, 320, .inl f))] H → va_D A [(mo, .inr (9, [.int 0, .ref m_tape, .int (nI (n + nzN p0 8)), .int 0, .int 0, .int 0, .int 0, .int 0, .long 0, .int 0, .int 0, .int 0, .int 0, .ref m_readPlace, .ref m_script, .ref m_scriptLong, .int 0, .ref m_now, .ref m_refused, .int 0, .ref m_shareX, .ref m_shareY, .int 0, .int 0, .ref m_askedRow, .int 0, .ref m_kept, .int 0, .long 0, .ref m_aside, .int 0, .int 0, .ref m_spelled, .int 0, .ref m_image, .int 0])), (m_tape, .inl (E.2.1, 320, .inl f))] → va_S A s.heap H locs → lv_has ls 9 [(0, .ref mo), (1, .int p0), (2, .int p1), (3, .int p2), (4, .int p3), (5, .int p4), (7, .int 3)] → W p l e ({ frames := 1, cells := 0, slots := 0, locals := 26 } : Room) s m #[Value.ref mo, Value.int p0, Value.int p1, Value.int p2, Value.int p3, Value.int p4] below meth c H locs 0 0 Q (F0 m 62 ls [])) :
    ∀ (H : Heap) (locs : List Loc) (f : Nat → Int32) (ls : Array Slot), va_P E.1 vwCl [(mo, .inr (9, [.int 0, .ref m_tape, .int (nI n), .int 0, .int 0, .int 0, .int 0, .int 0, .long 0, .int 0, .int 0, .int 0, .int 0, .ref m_readPlace, .ref m_script, .ref m_scriptLong, .int 0, .ref m_now, .ref m_refused, .int 0, .ref m_shareX, .ref m_shareY, .int 0, .int 0, .ref m_askedRow, .int 0, .ref m_kept, .int 0, .long 0, .ref m_aside, .int 0, .int 0, .ref m_spelled, .int 0, .ref m_image, .int 0])), (m_tape, .inl (E.2.1, 320, .inl f))] H → va_D A [(mo, .inr (9, [.int 0, .ref m_tape, .int (nI n), .int 0, .int 0, .int 0, .int 0, .int 0, .long 0, .int 0, .int 0, .int 0, .int 0, .ref m_readPlace, .ref m_script, .ref m_scriptLong, .int 0, .ref m_now, .ref m_refused, .int 0, .ref m_shareX, .ref m_shareY, .int 0, .int 0, .ref m_askedRow, .int 0, .ref m_kept, .int 0, .long 0, .ref m_aside, .int 0, .int 0, .ref m_spelled, .int 0, .ref m_image, .int 0])), (m_tape, .inl (E.2.1, 320, .inl f))] → va_S A s.heap H locs → lv_has ls 9 [(0, .ref mo), (1, .int p0), (2, .int p1), (3, .int p2), (4, .int p3), (5, .int p4), (7, .int 2)] → W p l e ({ frames := 1, cells := 0, slots := 0, locals := 26 } : Room) s m #[Value.ref mo, Value.int p0, Value.int p1, Value.int p2, Value.int p3, Value.int p4] below meth c H locs 0 0 Q (F0 m 62 ls []) := by
  intro H locs f ls hP hD hS hl
  refine lv_iload hx hb dX8_feed_62 (lv_at hl 6 rfl) ?_
  refine lv_bipush (v := 20) hx hb dX8_feed_64 (by decide) ?_
  refine lv_icmp_ge (tgt := 115) hx hb dX8_feed_66 (by decide) (fun q => absurd q (by decide)) (fun _ => ?_)
  refine lv_iload_n hx hb dX8_feed_69 rfl (lv_at hl 1 rfl) ?_
  refine lv_iload_n hx hb dX8_feed_70 rfl (lv_at hl 2 rfl) ?_
  refine lv_iload_n hx hb dX8_feed_71 rfl (lv_at hl 3 rfl) ?_
  refine lv_iload hx hb dX8_feed_72 (lv_at hl 4 rfl) ?_
  refine lv_iload hx hb dX8_feed_74 (lv_at hl 5 rfl) ?_
  refine lv_iload hx hb dX8_feed_76 (lv_at hl 6 rfl) ?_
  have hPc : va_P E.1 vwCl [] H := fun k q h => by simp at h
  refine pc_i (va_runS (As := [.int p0, .int p1, .int p2, .int p3, .int p4, .int 2]) (rest := []) ⟨hx, hb, hml, hown, hts⟩ (d_byteOf2 l E p0 p1 p2 p3 p4) (va_cwS 6 hts g_d_feed_d_byteOf2_53 rfl rfl rfl (by decide +kernel) ⟨Nat.le_of_ble_eq_true rfl, Nat.le_of_ble_eq_true rfl⟩) ⟨pP.blind, (pP.pre ⟨hK, hN⟩ hPc)⟩ rfl rfl hl.1 rfl (lv_room (Nat.le_of_ble_eq_true rfl)) dX8_feed_78 ⟨Nat.le_of_ble_eq_true rfl, Nat.le_of_ble_eq_true rfl⟩) (fun r_1 hr_1 => ?_)
  refine lv_istore (lv' := [(8, .int r_1), (0, .ref mo), (1, .int p0), (2, .int p1), (3, .int p2), (4, .int p3), (5, .int p4), (7, .int 2)]) hx hb dX8_feed_81 hl (by decide) rfl (fun ls hl => ?_)
  refine lv_iload hx hb dX8_feed_83 (lv_at hl 0 rfl) ?_
  refine lv_if_eq (tgt := 109) hx hb dX8_feed_85 (by decide) (fun c_2 => ?_) (fun c_2 => ?_)
  ·
    refine lv_iinc (v := 3) (lv' := [(7, .int 3), (8, .int r_1), (0, .ref mo), (1, .int p0), (2, .int p1), (3, .int p2), (4, .int p3), (5, .int p4)]) hx hb dX8_feed_109 hl (k := 7) rfl (by decide) (by decide) rfl (fun ls hl => ?_)
    refine lv_goto (tgt := 62) hx hb dX8_feed_112 (by decide) ?_
    have e8 : nzN p0 8 = 0 := by unfold nzN; rw [← hr_1, if_pos c_2]
    have e9 : n = n + nzN p0 8 := by omega
    have hP : va_P E.1 vwCl [(mo, .inr (9, [.int 0, .ref m_tape, .int (nI (n + nzN p0 8)), .int 0, .int 0, .int 0, .int 0, .int 0, .long 0, .int 0, .int 0, .int 0, .int 0, .ref m_readPlace, .ref m_script, .ref m_scriptLong, .int 0, .ref m_now, .ref m_refused, .int 0, .ref m_shareX, .ref m_shareY, .int 0, .int 0, .ref m_askedRow, .int 0, .ref m_kept, .int 0, .long 0, .ref m_aside, .int 0, .int 0, .ref m_spelled, .int 0, .ref m_image, .int 0])), (m_tape, .inl (E.2.1, 320, .inl f))] H := by rw [← e9]; exact hP
    have hD : va_D A [(mo, .inr (9, [.int 0, .ref m_tape, .int (nI (n + nzN p0 8)), .int 0, .int 0, .int 0, .int 0, .int 0, .long 0, .int 0, .int 0, .int 0, .int 0, .ref m_readPlace, .ref m_script, .ref m_scriptLong, .int 0, .ref m_now, .ref m_refused, .int 0, .ref m_shareX, .ref m_shareY, .int 0, .int 0, .ref m_askedRow, .int 0, .ref m_kept, .int 0, .long 0, .ref m_aside, .int 0, .int 0, .ref m_spelled, .int 0, .ref m_image, .int 0])), (m_tape, .inl (E.2.1, 320, .inl f))] := by rw [← e9]; exact hD
    exact K H locs f ls (hP.sub [0, 1] rfl) (hD.sub [0, 1] (by decide) rfl) hS (lv_sub hl [2, 3, 4, 5, 6, 7, 0] rfl)
  ·
    refine lv_aload_n hx hb dX8_feed_88 rfl (lv_at hl 1 rfl) ?_
    refine va_get (D := E.1) (ci := 9) (v := .ref m_tape) (C := RX8) (T := TX8) (N := 36) hx hb hts i_d_feed_X8 hown hK hP 0 rfl rfl 1 (by decide) (hts (.fieldLink RX8 9 "HushWatchModel" "tape" "[I") (List.mem_of_getElem? (i := 1) rfl)) (fun _ h9 => h9) rfl dX8_feed_89 ?_
    refine lv_aload_n hx hb dX8_feed_92 rfl (lv_at hl 1 rfl) ?_
    refine va_get (D := E.1) (ci := 9) (v := .int (nI n)) (C := RX8) (T := TX8) (N := 36) hx hb hts i_d_feed_X8 hown hK hP 0 rfl rfl 2 (by decide) (hts (.fieldLink RX8 57 "HushWatchModel" "taped" "I") (List.mem_of_getElem? (i := 2) rfl)) (fun _ h9 => h9) rfl dX8_feed_93 ?_
    refine lv_iload hx hb dX8_feed_96 (lv_at hl 0 rfl) ?_
    refine va_iast hx hb hK hP hD hS 1 0 rfl rfl (vp_in_nI (by omega) (by decide)) dX8_feed_98 (fun H locs hP hD hS => ?_)
    have hP : va_P E.1 vwCl [(mo, .inr (9, [.int 0, .ref m_tape, .int (nI n), .int 0, .int 0, .int 0, .int 0, .int 0, .long 0, .int 0, .int 0, .int 0, .int 0, .ref m_readPlace, .ref m_script, .ref m_scriptLong, .int 0, .ref m_now, .ref m_refused, .int 0, .ref m_shareX, .ref m_shareY, .int 0, .int 0, .ref m_askedRow, .int 0, .ref m_kept, .int 0, .long 0, .ref m_aside, .int 0, .int 0, .ref m_spelled, .int 0, .ref m_image, .int 0])), (m_tape, .inl (E.2.1, 320, .inl (upd f (nI n : Int32).toNatClampNeg r_1)))] H := hP
    have hD : va_D A [(mo, .inr (9, [.int 0, .ref m_tape, .int (nI n), .int 0, .int 0, .int 0, .int 0, .int 0, .long 0, .int 0, .int 0, .int 0, .int 0, .ref m_readPlace, .ref m_script, .ref m_scriptLong, .int 0, .ref m_now, .ref m_refused, .int 0, .ref m_shareX, .ref m_shareY, .int 0, .int 0, .ref m_askedRow, .int 0, .ref m_kept, .int 0, .long 0, .ref m_aside, .int 0, .int 0, .ref m_spelled, .int 0, .ref m_image, .int 0])), (m_tape, .inl (E.2.1, 320, .inl (upd f (nI n : Int32).toNatClampNeg r_1)))] := hD
    generalize upd f (nI n : Int32).toNatClampNeg r_1 = f_3 at hP hD
    refine lv_aload_n hx hb dX8_feed_99 rfl (lv_at hl 1 rfl) ?_
    refine lv_dup hx hb dX8_feed_100 rfl ?_
    refine va_get (D := E.1) (ci := 9) (v := .int (nI n)) (C := RX8) (T := TX8) (N := 36) hx hb hts i_d_feed_X8 hown hK hP 0 rfl rfl 2 (by decide) (hts (.fieldLink RX8 57 "HushWatchModel" "taped" "I") (List.mem_of_getElem? (i := 2) rfl)) (fun _ h9 => h9) rfl dX8_feed_101 ?_
    refine lv_iconst (v := 1) hx hb dX8_feed_104 (by decide) ?_
    refine lv_iadd hx hb dX8_feed_105 ?_
    refine lv_topi (fun z_4 ez_4 => ?_)
    obtain rfl : z_4 = nI (n + 1) := ez_4.trans (nI_add _ 1)
    refine va_put (D := E.1) (ci := 9) (v := .int (nI (n + 1))) (ty := .int) (C := RX8) (T := TX8) (N := 36) hx hb hts i_d_feed_X8 tyX8 tyX8_ok nmX8 hown hK hP hD hS 0 rfl rfl 2 (by decide) (hts (.fieldLink RX8 57 "HushWatchModel" "taped" "I") (List.mem_of_getElem? (i := 2) rfl)) (fun _ h9 => h9) rfl (by decide +kernel) rfl rfl (Nat.le_of_ble_eq_true rfl) dX8_feed_106 (fun H locs hP hD hS => ?_)
    have hP : va_P E.1 vwCl [(mo, .inr (9, [.int 0, .ref m_tape, .int (nI (n + 1)), .int 0, .int 0, .int 0, .int 0, .int 0, .long 0, .int 0, .int 0, .int 0, .int 0, .ref m_readPlace, .ref m_script, .ref m_scriptLong, .int 0, .ref m_now, .ref m_refused, .int 0, .ref m_shareX, .ref m_shareY, .int 0, .int 0, .ref m_askedRow, .int 0, .ref m_kept, .int 0, .long 0, .ref m_aside, .int 0, .int 0, .ref m_spelled, .int 0, .ref m_image, .int 0])), (m_tape, .inl (E.2.1, 320, .inl f_3))] H := hP
    have hD : va_D A [(mo, .inr (9, [.int 0, .ref m_tape, .int (nI (n + 1)), .int 0, .int 0, .int 0, .int 0, .int 0, .long 0, .int 0, .int 0, .int 0, .int 0, .ref m_readPlace, .ref m_script, .ref m_scriptLong, .int 0, .ref m_now, .ref m_refused, .int 0, .ref m_shareX, .ref m_shareY, .int 0, .int 0, .ref m_askedRow, .int 0, .ref m_kept, .int 0, .long 0, .ref m_aside, .int 0, .int 0, .ref m_spelled, .int 0, .ref m_image, .int 0])), (m_tape, .inl (E.2.1, 320, .inl f_3))] := hD
    refine lv_iinc (v := 3) (lv' := [(7, .int 3), (8, .int r_1), (0, .ref mo), (1, .int p0), (2, .int p1), (3, .int p2), (4, .int p3), (5, .int p4)]) hx hb dX8_feed_109 hl (k := 7) rfl (by decide) (by decide) rfl (fun ls hl => ?_)
    refine lv_goto (tgt := 62) hx hb dX8_feed_112 (by decide) ?_
    have e8 : nzN p0 8 = 1 := by unfold nzN; rw [← hr_1, if_neg c_2]
    have e9 : n + 1 = n + nzN p0 8 := by omega
    have hP : va_P E.1 vwCl [(mo, .inr (9, [.int 0, .ref m_tape, .int (nI (n + nzN p0 8)), .int 0, .int 0, .int 0, .int 0, .int 0, .long 0, .int 0, .int 0, .int 0, .int 0, .ref m_readPlace, .ref m_script, .ref m_scriptLong, .int 0, .ref m_now, .ref m_refused, .int 0, .ref m_shareX, .ref m_shareY, .int 0, .int 0, .ref m_askedRow, .int 0, .ref m_kept, .int 0, .long 0, .ref m_aside, .int 0, .int 0, .ref m_spelled, .int 0, .ref m_image, .int 0])), (m_tape, .inl (E.2.1, 320, .inl f_3))] H := by rw [← e9]; exact hP
    have hD : va_D A [(mo, .inr (9, [.int 0, .ref m_tape, .int (nI (n + nzN p0 8)), .int 0, .int 0, .int 0, .int 0, .int 0, .long 0, .int 0, .int 0, .int 0, .int 0, .ref m_readPlace, .ref m_script, .ref m_scriptLong, .int 0, .ref m_now, .ref m_refused, .int 0, .ref m_shareX, .ref m_shareY, .int 0, .int 0, .ref m_askedRow, .int 0, .ref m_kept, .int 0, .long 0, .ref m_aside, .int 0, .int 0, .ref m_spelled, .int 0, .ref m_image, .int 0])), (m_tape, .inl (E.2.1, 320, .inl f_3))] := by rw [← e9]; exact hD
    exact K H locs f_3 ls (hP.sub [0, 1] rfl) (hD.sub [0, 1] (by decide) rfl) hS (lv_sub hl [2, 3, 4, 5, 6, 7, 0] rfl)

set_option maxHeartbeats 4000000 in
set_option maxRecDepth 100000 in
theorem mf_it3 {p : Program} (l : Launch) {e : Env} {s : State} {m : MethodId} {below : List Frame} {meth : Method} {c : Code} {Q : State → Prop} (E : EE) {mo m_tape m_readPlace m_script m_scriptLong m_now m_refused m_shareX m_shareY m_askedRow m_kept m_aside m_spelled m_image : Nat} {p0 p1 p2 p3 p4 : Int32} (hx : p.tables.exec = Jvm.exec) (hb : c.code = cX8_feed) (hml : c.maxLocals = 9) (hown : s.vm.findClass RX8 = some m.cls) (hts : ∀ w ∈ v_d_feed, w.before #[Value.ref mo, Value.int p0, Value.int p1, Value.int p2, Value.int p3, Value.int p4] s = true) (hK : va_K E.1 vwCl (TY E) s) (hN : NX s) {A : Nat → Prop} (hA : ∀ q : Nat, s.heap.size ≤ q → A q) (n : Nat) (hn : n < 320)
    (K : ∀ (H : Heap) (locs : List Loc) (f : Nat → Int32) (ls : Array Slot), va_P E.1 vwCl [(mo, .inr (9, [.int 0, .ref m_tape, .int (nI (n + nzN p0 0)), .int 0, .int 0, .int 0, .int 0, .int 0, .long 0, .int 0, .int 0, .int 0, .int 0, .ref m_readPlace, .ref m_script, .ref m_scriptLong, .int 0, .ref m_now, .ref m_refused, .int 0, .ref m_shareX, .ref m_shareY, .int 0, .int 0, .ref m_askedRow, .int 0, .ref m_kept, .int 0, .long 0, .ref m_aside, .int 0, .int 0, .ref m_spelled, .int 0, .ref m_image, .int 0])), (m_tape, .inl (E.2.1, 320, .inl f))] H → va_D A [(mo, .inr (9, [.int 0, .ref m_tape, .int (nI (n + nzN p0 0)), .int 0, .int 0, .int 0, .int 0, .int 0, .long 0, .int 0, .int 0, .int 0, .int 0, .ref m_readPlace, .ref m_script, .ref m_scriptLong, .int 0, .ref m_now, .ref m_refused, .int 0, .ref m_shareX, .ref m_shareY, .int 0, .int 0, .ref m_askedRow, .int 0, .ref m_kept, .int 0, .long 0, .ref m_aside, .int 0, .int 0, .ref m_spelled, .int 0, .ref m_image, .int 0])), (m_tape, .inl (E.2.1, 320, .inl f))] → va_S A s.heap H locs → lv_has ls 9 [(0, .ref mo), (1, .int p0), (2, .int p1), (3, .int p2), (4, .int p3), (5, .int p4), (7, .int 4)] → W p l e ({ frames := 1, cells := 0, slots := 0, locals := 26 } : Room) s m #[Value.ref mo, Value.int p0, Value.int p1, Value.int p2, Value.int p3, Value.int p4] below meth c H locs 0 0 Q (F0 m 62 ls [])) :
    ∀ (H : Heap) (locs : List Loc) (f : Nat → Int32) (ls : Array Slot), va_P E.1 vwCl [(mo, .inr (9, [.int 0, .ref m_tape, .int (nI n), .int 0, .int 0, .int 0, .int 0, .int 0, .long 0, .int 0, .int 0, .int 0, .int 0, .ref m_readPlace, .ref m_script, .ref m_scriptLong, .int 0, .ref m_now, .ref m_refused, .int 0, .ref m_shareX, .ref m_shareY, .int 0, .int 0, .ref m_askedRow, .int 0, .ref m_kept, .int 0, .long 0, .ref m_aside, .int 0, .int 0, .ref m_spelled, .int 0, .ref m_image, .int 0])), (m_tape, .inl (E.2.1, 320, .inl f))] H → va_D A [(mo, .inr (9, [.int 0, .ref m_tape, .int (nI n), .int 0, .int 0, .int 0, .int 0, .int 0, .long 0, .int 0, .int 0, .int 0, .int 0, .ref m_readPlace, .ref m_script, .ref m_scriptLong, .int 0, .ref m_now, .ref m_refused, .int 0, .ref m_shareX, .ref m_shareY, .int 0, .int 0, .ref m_askedRow, .int 0, .ref m_kept, .int 0, .long 0, .ref m_aside, .int 0, .int 0, .ref m_spelled, .int 0, .ref m_image, .int 0])), (m_tape, .inl (E.2.1, 320, .inl f))] → va_S A s.heap H locs → lv_has ls 9 [(0, .ref mo), (1, .int p0), (2, .int p1), (3, .int p2), (4, .int p3), (5, .int p4), (7, .int 3)] → W p l e ({ frames := 1, cells := 0, slots := 0, locals := 26 } : Room) s m #[Value.ref mo, Value.int p0, Value.int p1, Value.int p2, Value.int p3, Value.int p4] below meth c H locs 0 0 Q (F0 m 62 ls []) := by
  intro H locs f ls hP hD hS hl
  refine lv_iload hx hb dX8_feed_62 (lv_at hl 6 rfl) ?_
  refine lv_bipush (v := 20) hx hb dX8_feed_64 (by decide) ?_
  refine lv_icmp_ge (tgt := 115) hx hb dX8_feed_66 (by decide) (fun q => absurd q (by decide)) (fun _ => ?_)
  refine lv_iload_n hx hb dX8_feed_69 rfl (lv_at hl 1 rfl) ?_
  refine lv_iload_n hx hb dX8_feed_70 rfl (lv_at hl 2 rfl) ?_
  refine lv_iload_n hx hb dX8_feed_71 rfl (lv_at hl 3 rfl) ?_
  refine lv_iload hx hb dX8_feed_72 (lv_at hl 4 rfl) ?_
  refine lv_iload hx hb dX8_feed_74 (lv_at hl 5 rfl) ?_
  refine lv_iload hx hb dX8_feed_76 (lv_at hl 6 rfl) ?_
  have hPc : va_P E.1 vwCl [] H := fun k q h => by simp at h
  refine pc_i (va_runS (As := [.int p0, .int p1, .int p2, .int p3, .int p4, .int 3]) (rest := []) ⟨hx, hb, hml, hown, hts⟩ (d_byteOf3 l E p0 p1 p2 p3 p4) (va_cwS 6 hts g_d_feed_d_byteOf3_53 rfl rfl rfl (by decide +kernel) ⟨Nat.le_of_ble_eq_true rfl, Nat.le_of_ble_eq_true rfl⟩) ⟨pP.blind, (pP.pre ⟨hK, hN⟩ hPc)⟩ rfl rfl hl.1 rfl (lv_room (Nat.le_of_ble_eq_true rfl)) dX8_feed_78 ⟨Nat.le_of_ble_eq_true rfl, Nat.le_of_ble_eq_true rfl⟩) (fun r_1 hr_1 => ?_)
  refine lv_istore (lv' := [(8, .int r_1), (0, .ref mo), (1, .int p0), (2, .int p1), (3, .int p2), (4, .int p3), (5, .int p4), (7, .int 3)]) hx hb dX8_feed_81 hl (by decide) rfl (fun ls hl => ?_)
  refine lv_iload hx hb dX8_feed_83 (lv_at hl 0 rfl) ?_
  refine lv_if_eq (tgt := 109) hx hb dX8_feed_85 (by decide) (fun c_2 => ?_) (fun c_2 => ?_)
  ·
    refine lv_iinc (v := 4) (lv' := [(7, .int 4), (8, .int r_1), (0, .ref mo), (1, .int p0), (2, .int p1), (3, .int p2), (4, .int p3), (5, .int p4)]) hx hb dX8_feed_109 hl (k := 7) rfl (by decide) (by decide) rfl (fun ls hl => ?_)
    refine lv_goto (tgt := 62) hx hb dX8_feed_112 (by decide) ?_
    have e8 : nzN p0 0 = 0 := by unfold nzN; rw [← hr_1, if_pos c_2]
    have e9 : n = n + nzN p0 0 := by omega
    have hP : va_P E.1 vwCl [(mo, .inr (9, [.int 0, .ref m_tape, .int (nI (n + nzN p0 0)), .int 0, .int 0, .int 0, .int 0, .int 0, .long 0, .int 0, .int 0, .int 0, .int 0, .ref m_readPlace, .ref m_script, .ref m_scriptLong, .int 0, .ref m_now, .ref m_refused, .int 0, .ref m_shareX, .ref m_shareY, .int 0, .int 0, .ref m_askedRow, .int 0, .ref m_kept, .int 0, .long 0, .ref m_aside, .int 0, .int 0, .ref m_spelled, .int 0, .ref m_image, .int 0])), (m_tape, .inl (E.2.1, 320, .inl f))] H := by rw [← e9]; exact hP
    have hD : va_D A [(mo, .inr (9, [.int 0, .ref m_tape, .int (nI (n + nzN p0 0)), .int 0, .int 0, .int 0, .int 0, .int 0, .long 0, .int 0, .int 0, .int 0, .int 0, .ref m_readPlace, .ref m_script, .ref m_scriptLong, .int 0, .ref m_now, .ref m_refused, .int 0, .ref m_shareX, .ref m_shareY, .int 0, .int 0, .ref m_askedRow, .int 0, .ref m_kept, .int 0, .long 0, .ref m_aside, .int 0, .int 0, .ref m_spelled, .int 0, .ref m_image, .int 0])), (m_tape, .inl (E.2.1, 320, .inl f))] := by rw [← e9]; exact hD
    exact K H locs f ls (hP.sub [0, 1] rfl) (hD.sub [0, 1] (by decide) rfl) hS (lv_sub hl [2, 3, 4, 5, 6, 7, 0] rfl)
  ·
    refine lv_aload_n hx hb dX8_feed_88 rfl (lv_at hl 1 rfl) ?_
    refine va_get (D := E.1) (ci := 9) (v := .ref m_tape) (C := RX8) (T := TX8) (N := 36) hx hb hts i_d_feed_X8 hown hK hP 0 rfl rfl 1 (by decide) (hts (.fieldLink RX8 9 "HushWatchModel" "tape" "[I") (List.mem_of_getElem? (i := 1) rfl)) (fun _ h9 => h9) rfl dX8_feed_89 ?_
    refine lv_aload_n hx hb dX8_feed_92 rfl (lv_at hl 1 rfl) ?_
    refine va_get (D := E.1) (ci := 9) (v := .int (nI n)) (C := RX8) (T := TX8) (N := 36) hx hb hts i_d_feed_X8 hown hK hP 0 rfl rfl 2 (by decide) (hts (.fieldLink RX8 57 "HushWatchModel" "taped" "I") (List.mem_of_getElem? (i := 2) rfl)) (fun _ h9 => h9) rfl dX8_feed_93 ?_
    refine lv_iload hx hb dX8_feed_96 (lv_at hl 0 rfl) ?_
    refine va_iast hx hb hK hP hD hS 1 0 rfl rfl (vp_in_nI (by omega) (by decide)) dX8_feed_98 (fun H locs hP hD hS => ?_)
    have hP : va_P E.1 vwCl [(mo, .inr (9, [.int 0, .ref m_tape, .int (nI n), .int 0, .int 0, .int 0, .int 0, .int 0, .long 0, .int 0, .int 0, .int 0, .int 0, .ref m_readPlace, .ref m_script, .ref m_scriptLong, .int 0, .ref m_now, .ref m_refused, .int 0, .ref m_shareX, .ref m_shareY, .int 0, .int 0, .ref m_askedRow, .int 0, .ref m_kept, .int 0, .long 0, .ref m_aside, .int 0, .int 0, .ref m_spelled, .int 0, .ref m_image, .int 0])), (m_tape, .inl (E.2.1, 320, .inl (upd f (nI n : Int32).toNatClampNeg r_1)))] H := hP
    have hD : va_D A [(mo, .inr (9, [.int 0, .ref m_tape, .int (nI n), .int 0, .int 0, .int 0, .int 0, .int 0, .long 0, .int 0, .int 0, .int 0, .int 0, .ref m_readPlace, .ref m_script, .ref m_scriptLong, .int 0, .ref m_now, .ref m_refused, .int 0, .ref m_shareX, .ref m_shareY, .int 0, .int 0, .ref m_askedRow, .int 0, .ref m_kept, .int 0, .long 0, .ref m_aside, .int 0, .int 0, .ref m_spelled, .int 0, .ref m_image, .int 0])), (m_tape, .inl (E.2.1, 320, .inl (upd f (nI n : Int32).toNatClampNeg r_1)))] := hD
    generalize upd f (nI n : Int32).toNatClampNeg r_1 = f_3 at hP hD
    refine lv_aload_n hx hb dX8_feed_99 rfl (lv_at hl 1 rfl) ?_
    refine lv_dup hx hb dX8_feed_100 rfl ?_
    refine va_get (D := E.1) (ci := 9) (v := .int (nI n)) (C := RX8) (T := TX8) (N := 36) hx hb hts i_d_feed_X8 hown hK hP 0 rfl rfl 2 (by decide) (hts (.fieldLink RX8 57 "HushWatchModel" "taped" "I") (List.mem_of_getElem? (i := 2) rfl)) (fun _ h9 => h9) rfl dX8_feed_101 ?_
    refine lv_iconst (v := 1) hx hb dX8_feed_104 (by decide) ?_
    refine lv_iadd hx hb dX8_feed_105 ?_
    refine lv_topi (fun z_4 ez_4 => ?_)
    obtain rfl : z_4 = nI (n + 1) := ez_4.trans (nI_add _ 1)
    refine va_put (D := E.1) (ci := 9) (v := .int (nI (n + 1))) (ty := .int) (C := RX8) (T := TX8) (N := 36) hx hb hts i_d_feed_X8 tyX8 tyX8_ok nmX8 hown hK hP hD hS 0 rfl rfl 2 (by decide) (hts (.fieldLink RX8 57 "HushWatchModel" "taped" "I") (List.mem_of_getElem? (i := 2) rfl)) (fun _ h9 => h9) rfl (by decide +kernel) rfl rfl (Nat.le_of_ble_eq_true rfl) dX8_feed_106 (fun H locs hP hD hS => ?_)
    have hP : va_P E.1 vwCl [(mo, .inr (9, [.int 0, .ref m_tape, .int (nI (n + 1)), .int 0, .int 0, .int 0, .int 0, .int 0, .long 0, .int 0, .int 0, .int 0, .int 0, .ref m_readPlace, .ref m_script, .ref m_scriptLong, .int 0, .ref m_now, .ref m_refused, .int 0, .ref m_shareX, .ref m_shareY, .int 0, .int 0, .ref m_askedRow, .int 0, .ref m_kept, .int 0, .long 0, .ref m_aside, .int 0, .int 0, .ref m_spelled, .int 0, .ref m_image, .int 0])), (m_tape, .inl (E.2.1, 320, .inl f_3))] H := hP
    have hD : va_D A [(mo, .inr (9, [.int 0, .ref m_tape, .int (nI (n + 1)), .int 0, .int 0, .int 0, .int 0, .int 0, .long 0, .int 0, .int 0, .int 0, .int 0, .ref m_readPlace, .ref m_script, .ref m_scriptLong, .int 0, .ref m_now, .ref m_refused, .int 0, .ref m_shareX, .ref m_shareY, .int 0, .int 0, .ref m_askedRow, .int 0, .ref m_kept, .int 0, .long 0, .ref m_aside, .int 0, .int 0, .ref m_spelled, .int 0, .ref m_image, .int 0])), (m_tape, .inl (E.2.1, 320, .inl f_3))] := hD
    refine lv_iinc (v := 4) (lv' := [(7, .int 4), (8, .int r_1), (0, .ref mo), (1, .int p0), (2, .int p1), (3, .int p2), (4, .int p3), (5, .int p4)]) hx hb dX8_feed_109 hl (k := 7) rfl (by decide) (by decide) rfl (fun ls hl => ?_)
    refine lv_goto (tgt := 62) hx hb dX8_feed_112 (by decide) ?_
    have e8 : nzN p0 0 = 1 := by unfold nzN; rw [← hr_1, if_neg c_2]
    have e9 : n + 1 = n + nzN p0 0 := by omega
    have hP : va_P E.1 vwCl [(mo, .inr (9, [.int 0, .ref m_tape, .int (nI (n + nzN p0 0)), .int 0, .int 0, .int 0, .int 0, .int 0, .long 0, .int 0, .int 0, .int 0, .int 0, .ref m_readPlace, .ref m_script, .ref m_scriptLong, .int 0, .ref m_now, .ref m_refused, .int 0, .ref m_shareX, .ref m_shareY, .int 0, .int 0, .ref m_askedRow, .int 0, .ref m_kept, .int 0, .long 0, .ref m_aside, .int 0, .int 0, .ref m_spelled, .int 0, .ref m_image, .int 0])), (m_tape, .inl (E.2.1, 320, .inl f_3))] H := by rw [← e9]; exact hP
    have hD : va_D A [(mo, .inr (9, [.int 0, .ref m_tape, .int (nI (n + nzN p0 0)), .int 0, .int 0, .int 0, .int 0, .int 0, .long 0, .int 0, .int 0, .int 0, .int 0, .ref m_readPlace, .ref m_script, .ref m_scriptLong, .int 0, .ref m_now, .ref m_refused, .int 0, .ref m_shareX, .ref m_shareY, .int 0, .int 0, .ref m_askedRow, .int 0, .ref m_kept, .int 0, .long 0, .ref m_aside, .int 0, .int 0, .ref m_spelled, .int 0, .ref m_image, .int 0])), (m_tape, .inl (E.2.1, 320, .inl f_3))] := by rw [← e9]; exact hD
    exact K H locs f_3 ls (hP.sub [0, 1] rfl) (hD.sub [0, 1] (by decide) rfl) hS (lv_sub hl [2, 3, 4, 5, 6, 7, 0] rfl)

set_option maxHeartbeats 4000000 in
set_option maxRecDepth 100000 in
theorem mf_it4 {p : Program} (l : Launch) {e : Env} {s : State} {m : MethodId} {below : List Frame} {meth : Method} {c : Code} {Q : State → Prop} (E : EE) {mo m_tape m_readPlace m_script m_scriptLong m_now m_refused m_shareX m_shareY m_askedRow m_kept m_aside m_spelled m_image : Nat} {p0 p1 p2 p3 p4 : Int32} (hx : p.tables.exec = Jvm.exec) (hb : c.code = cX8_feed) (hml : c.maxLocals = 9) (hown : s.vm.findClass RX8 = some m.cls) (hts : ∀ w ∈ v_d_feed, w.before #[Value.ref mo, Value.int p0, Value.int p1, Value.int p2, Value.int p3, Value.int p4] s = true) (hK : va_K E.1 vwCl (TY E) s) (hN : NX s) {A : Nat → Prop} (hA : ∀ q : Nat, s.heap.size ≤ q → A q) (n : Nat) (hn : n < 320)
    (K : ∀ (H : Heap) (locs : List Loc) (f : Nat → Int32) (ls : Array Slot), va_P E.1 vwCl [(mo, .inr (9, [.int 0, .ref m_tape, .int (nI (n + nzN p1 24)), .int 0, .int 0, .int 0, .int 0, .int 0, .long 0, .int 0, .int 0, .int 0, .int 0, .ref m_readPlace, .ref m_script, .ref m_scriptLong, .int 0, .ref m_now, .ref m_refused, .int 0, .ref m_shareX, .ref m_shareY, .int 0, .int 0, .ref m_askedRow, .int 0, .ref m_kept, .int 0, .long 0, .ref m_aside, .int 0, .int 0, .ref m_spelled, .int 0, .ref m_image, .int 0])), (m_tape, .inl (E.2.1, 320, .inl f))] H → va_D A [(mo, .inr (9, [.int 0, .ref m_tape, .int (nI (n + nzN p1 24)), .int 0, .int 0, .int 0, .int 0, .int 0, .long 0, .int 0, .int 0, .int 0, .int 0, .ref m_readPlace, .ref m_script, .ref m_scriptLong, .int 0, .ref m_now, .ref m_refused, .int 0, .ref m_shareX, .ref m_shareY, .int 0, .int 0, .ref m_askedRow, .int 0, .ref m_kept, .int 0, .long 0, .ref m_aside, .int 0, .int 0, .ref m_spelled, .int 0, .ref m_image, .int 0])), (m_tape, .inl (E.2.1, 320, .inl f))] → va_S A s.heap H locs → lv_has ls 9 [(0, .ref mo), (1, .int p0), (2, .int p1), (3, .int p2), (4, .int p3), (5, .int p4), (7, .int 5)] → W p l e ({ frames := 1, cells := 0, slots := 0, locals := 26 } : Room) s m #[Value.ref mo, Value.int p0, Value.int p1, Value.int p2, Value.int p3, Value.int p4] below meth c H locs 0 0 Q (F0 m 62 ls [])) :
    ∀ (H : Heap) (locs : List Loc) (f : Nat → Int32) (ls : Array Slot), va_P E.1 vwCl [(mo, .inr (9, [.int 0, .ref m_tape, .int (nI n), .int 0, .int 0, .int 0, .int 0, .int 0, .long 0, .int 0, .int 0, .int 0, .int 0, .ref m_readPlace, .ref m_script, .ref m_scriptLong, .int 0, .ref m_now, .ref m_refused, .int 0, .ref m_shareX, .ref m_shareY, .int 0, .int 0, .ref m_askedRow, .int 0, .ref m_kept, .int 0, .long 0, .ref m_aside, .int 0, .int 0, .ref m_spelled, .int 0, .ref m_image, .int 0])), (m_tape, .inl (E.2.1, 320, .inl f))] H → va_D A [(mo, .inr (9, [.int 0, .ref m_tape, .int (nI n), .int 0, .int 0, .int 0, .int 0, .int 0, .long 0, .int 0, .int 0, .int 0, .int 0, .ref m_readPlace, .ref m_script, .ref m_scriptLong, .int 0, .ref m_now, .ref m_refused, .int 0, .ref m_shareX, .ref m_shareY, .int 0, .int 0, .ref m_askedRow, .int 0, .ref m_kept, .int 0, .long 0, .ref m_aside, .int 0, .int 0, .ref m_spelled, .int 0, .ref m_image, .int 0])), (m_tape, .inl (E.2.1, 320, .inl f))] → va_S A s.heap H locs → lv_has ls 9 [(0, .ref mo), (1, .int p0), (2, .int p1), (3, .int p2), (4, .int p3), (5, .int p4), (7, .int 4)] → W p l e ({ frames := 1, cells := 0, slots := 0, locals := 26 } : Room) s m #[Value.ref mo, Value.int p0, Value.int p1, Value.int p2, Value.int p3, Value.int p4] below meth c H locs 0 0 Q (F0 m 62 ls []) := by
  intro H locs f ls hP hD hS hl
  refine lv_iload hx hb dX8_feed_62 (lv_at hl 6 rfl) ?_
  refine lv_bipush (v := 20) hx hb dX8_feed_64 (by decide) ?_
  refine lv_icmp_ge (tgt := 115) hx hb dX8_feed_66 (by decide) (fun q => absurd q (by decide)) (fun _ => ?_)
  refine lv_iload_n hx hb dX8_feed_69 rfl (lv_at hl 1 rfl) ?_
  refine lv_iload_n hx hb dX8_feed_70 rfl (lv_at hl 2 rfl) ?_
  refine lv_iload_n hx hb dX8_feed_71 rfl (lv_at hl 3 rfl) ?_
  refine lv_iload hx hb dX8_feed_72 (lv_at hl 4 rfl) ?_
  refine lv_iload hx hb dX8_feed_74 (lv_at hl 5 rfl) ?_
  refine lv_iload hx hb dX8_feed_76 (lv_at hl 6 rfl) ?_
  have hPc : va_P E.1 vwCl [] H := fun k q h => by simp at h
  refine pc_i (va_runS (As := [.int p0, .int p1, .int p2, .int p3, .int p4, .int 4]) (rest := []) ⟨hx, hb, hml, hown, hts⟩ (d_byteOf4 l E p0 p1 p2 p3 p4) (va_cwS 6 hts g_d_feed_d_byteOf4_53 rfl rfl rfl (by decide +kernel) ⟨Nat.le_of_ble_eq_true rfl, Nat.le_of_ble_eq_true rfl⟩) ⟨pP.blind, (pP.pre ⟨hK, hN⟩ hPc)⟩ rfl rfl hl.1 rfl (lv_room (Nat.le_of_ble_eq_true rfl)) dX8_feed_78 ⟨Nat.le_of_ble_eq_true rfl, Nat.le_of_ble_eq_true rfl⟩) (fun r_1 hr_1 => ?_)
  refine lv_istore (lv' := [(8, .int r_1), (0, .ref mo), (1, .int p0), (2, .int p1), (3, .int p2), (4, .int p3), (5, .int p4), (7, .int 4)]) hx hb dX8_feed_81 hl (by decide) rfl (fun ls hl => ?_)
  refine lv_iload hx hb dX8_feed_83 (lv_at hl 0 rfl) ?_
  refine lv_if_eq (tgt := 109) hx hb dX8_feed_85 (by decide) (fun c_2 => ?_) (fun c_2 => ?_)
  ·
    refine lv_iinc (v := 5) (lv' := [(7, .int 5), (8, .int r_1), (0, .ref mo), (1, .int p0), (2, .int p1), (3, .int p2), (4, .int p3), (5, .int p4)]) hx hb dX8_feed_109 hl (k := 7) rfl (by decide) (by decide) rfl (fun ls hl => ?_)
    refine lv_goto (tgt := 62) hx hb dX8_feed_112 (by decide) ?_
    have e8 : nzN p1 24 = 0 := by unfold nzN; rw [← hr_1, if_pos c_2]
    have e9 : n = n + nzN p1 24 := by omega
    have hP : va_P E.1 vwCl [(mo, .inr (9, [.int 0, .ref m_tape, .int (nI (n + nzN p1 24)), .int 0, .int 0, .int 0, .int 0, .int 0, .long 0, .int 0, .int 0, .int 0, .int 0, .ref m_readPlace, .ref m_script, .ref m_scriptLong, .int 0, .ref m_now, .ref m_refused, .int 0, .ref m_shareX, .ref m_shareY, .int 0, .int 0, .ref m_askedRow, .int 0, .ref m_kept, .int 0, .long 0, .ref m_aside, .int 0, .int 0, .ref m_spelled, .int 0, .ref m_image, .int 0])), (m_tape, .inl (E.2.1, 320, .inl f))] H := by rw [← e9]; exact hP
    have hD : va_D A [(mo, .inr (9, [.int 0, .ref m_tape, .int (nI (n + nzN p1 24)), .int 0, .int 0, .int 0, .int 0, .int 0, .long 0, .int 0, .int 0, .int 0, .int 0, .ref m_readPlace, .ref m_script, .ref m_scriptLong, .int 0, .ref m_now, .ref m_refused, .int 0, .ref m_shareX, .ref m_shareY, .int 0, .int 0, .ref m_askedRow, .int 0, .ref m_kept, .int 0, .long 0, .ref m_aside, .int 0, .int 0, .ref m_spelled, .int 0, .ref m_image, .int 0])), (m_tape, .inl (E.2.1, 320, .inl f))] := by rw [← e9]; exact hD
    exact K H locs f ls (hP.sub [0, 1] rfl) (hD.sub [0, 1] (by decide) rfl) hS (lv_sub hl [2, 3, 4, 5, 6, 7, 0] rfl)
  ·
    refine lv_aload_n hx hb dX8_feed_88 rfl (lv_at hl 1 rfl) ?_
    refine va_get (D := E.1) (ci := 9) (v := .ref m_tape) (C := RX8) (T := TX8) (N := 36) hx hb hts i_d_feed_X8 hown hK hP 0 rfl rfl 1 (by decide) (hts (.fieldLink RX8 9 "HushWatchModel" "tape" "[I") (List.mem_of_getElem? (i := 1) rfl)) (fun _ h9 => h9) rfl dX8_feed_89 ?_
    refine lv_aload_n hx hb dX8_feed_92 rfl (lv_at hl 1 rfl) ?_
    refine va_get (D := E.1) (ci := 9) (v := .int (nI n)) (C := RX8) (T := TX8) (N := 36) hx hb hts i_d_feed_X8 hown hK hP 0 rfl rfl 2 (by decide) (hts (.fieldLink RX8 57 "HushWatchModel" "taped" "I") (List.mem_of_getElem? (i := 2) rfl)) (fun _ h9 => h9) rfl dX8_feed_93 ?_
    refine lv_iload hx hb dX8_feed_96 (lv_at hl 0 rfl) ?_
    refine va_iast hx hb hK hP hD hS 1 0 rfl rfl (vp_in_nI (by omega) (by decide)) dX8_feed_98 (fun H locs hP hD hS => ?_)
    have hP : va_P E.1 vwCl [(mo, .inr (9, [.int 0, .ref m_tape, .int (nI n), .int 0, .int 0, .int 0, .int 0, .int 0, .long 0, .int 0, .int 0, .int 0, .int 0, .ref m_readPlace, .ref m_script, .ref m_scriptLong, .int 0, .ref m_now, .ref m_refused, .int 0, .ref m_shareX, .ref m_shareY, .int 0, .int 0, .ref m_askedRow, .int 0, .ref m_kept, .int 0, .long 0, .ref m_aside, .int 0, .int 0, .ref m_spelled, .int 0, .ref m_image, .int 0])), (m_tape, .inl (E.2.1, 320, .inl (upd f (nI n : Int32).toNatClampNeg r_1)))] H := hP
    have hD : va_D A [(mo, .inr (9, [.int 0, .ref m_tape, .int (nI n), .int 0, .int 0, .int 0, .int 0, .int 0, .long 0, .int 0, .int 0, .int 0, .int 0, .ref m_readPlace, .ref m_script, .ref m_scriptLong, .int 0, .ref m_now, .ref m_refused, .int 0, .ref m_shareX, .ref m_shareY, .int 0, .int 0, .ref m_askedRow, .int 0, .ref m_kept, .int 0, .long 0, .ref m_aside, .int 0, .int 0, .ref m_spelled, .int 0, .ref m_image, .int 0])), (m_tape, .inl (E.2.1, 320, .inl (upd f (nI n : Int32).toNatClampNeg r_1)))] := hD
    generalize upd f (nI n : Int32).toNatClampNeg r_1 = f_3 at hP hD
    refine lv_aload_n hx hb dX8_feed_99 rfl (lv_at hl 1 rfl) ?_
    refine lv_dup hx hb dX8_feed_100 rfl ?_
    refine va_get (D := E.1) (ci := 9) (v := .int (nI n)) (C := RX8) (T := TX8) (N := 36) hx hb hts i_d_feed_X8 hown hK hP 0 rfl rfl 2 (by decide) (hts (.fieldLink RX8 57 "HushWatchModel" "taped" "I") (List.mem_of_getElem? (i := 2) rfl)) (fun _ h9 => h9) rfl dX8_feed_101 ?_
    refine lv_iconst (v := 1) hx hb dX8_feed_104 (by decide) ?_
    refine lv_iadd hx hb dX8_feed_105 ?_
    refine lv_topi (fun z_4 ez_4 => ?_)
    obtain rfl : z_4 = nI (n + 1) := ez_4.trans (nI_add _ 1)
    refine va_put (D := E.1) (ci := 9) (v := .int (nI (n + 1))) (ty := .int) (C := RX8) (T := TX8) (N := 36) hx hb hts i_d_feed_X8 tyX8 tyX8_ok nmX8 hown hK hP hD hS 0 rfl rfl 2 (by decide) (hts (.fieldLink RX8 57 "HushWatchModel" "taped" "I") (List.mem_of_getElem? (i := 2) rfl)) (fun _ h9 => h9) rfl (by decide +kernel) rfl rfl (Nat.le_of_ble_eq_true rfl) dX8_feed_106 (fun H locs hP hD hS => ?_)
    have hP : va_P E.1 vwCl [(mo, .inr (9, [.int 0, .ref m_tape, .int (nI (n + 1)), .int 0, .int 0, .int 0, .int 0, .int 0, .long 0, .int 0, .int 0, .int 0, .int 0, .ref m_readPlace, .ref m_script, .ref m_scriptLong, .int 0, .ref m_now, .ref m_refused, .int 0, .ref m_shareX, .ref m_shareY, .int 0, .int 0, .ref m_askedRow, .int 0, .ref m_kept, .int 0, .long 0, .ref m_aside, .int 0, .int 0, .ref m_spelled, .int 0, .ref m_image, .int 0])), (m_tape, .inl (E.2.1, 320, .inl f_3))] H := hP
    have hD : va_D A [(mo, .inr (9, [.int 0, .ref m_tape, .int (nI (n + 1)), .int 0, .int 0, .int 0, .int 0, .int 0, .long 0, .int 0, .int 0, .int 0, .int 0, .ref m_readPlace, .ref m_script, .ref m_scriptLong, .int 0, .ref m_now, .ref m_refused, .int 0, .ref m_shareX, .ref m_shareY, .int 0, .int 0, .ref m_askedRow, .int 0, .ref m_kept, .int 0, .long 0, .ref m_aside, .int 0, .int 0, .ref m_spelled, .int 0, .ref m_image, .int 0])), (m_tape, .inl (E.2.1, 320, .inl f_3))] := hD
    refine lv_iinc (v := 5) (lv' := [(7, .int 5), (8, .int r_1), (0, .ref mo), (1, .int p0), (2, .int p1), (3, .int p2), (4, .int p3), (5, .int p4)]) hx hb dX8_feed_109 hl (k := 7) rfl (by decide) (by decide) rfl (fun ls hl => ?_)
    refine lv_goto (tgt := 62) hx hb dX8_feed_112 (by decide) ?_
    have e8 : nzN p1 24 = 1 := by unfold nzN; rw [← hr_1, if_neg c_2]
    have e9 : n + 1 = n + nzN p1 24 := by omega
    have hP : va_P E.1 vwCl [(mo, .inr (9, [.int 0, .ref m_tape, .int (nI (n + nzN p1 24)), .int 0, .int 0, .int 0, .int 0, .int 0, .long 0, .int 0, .int 0, .int 0, .int 0, .ref m_readPlace, .ref m_script, .ref m_scriptLong, .int 0, .ref m_now, .ref m_refused, .int 0, .ref m_shareX, .ref m_shareY, .int 0, .int 0, .ref m_askedRow, .int 0, .ref m_kept, .int 0, .long 0, .ref m_aside, .int 0, .int 0, .ref m_spelled, .int 0, .ref m_image, .int 0])), (m_tape, .inl (E.2.1, 320, .inl f_3))] H := by rw [← e9]; exact hP
    have hD : va_D A [(mo, .inr (9, [.int 0, .ref m_tape, .int (nI (n + nzN p1 24)), .int 0, .int 0, .int 0, .int 0, .int 0, .long 0, .int 0, .int 0, .int 0, .int 0, .ref m_readPlace, .ref m_script, .ref m_scriptLong, .int 0, .ref m_now, .ref m_refused, .int 0, .ref m_shareX, .ref m_shareY, .int 0, .int 0, .ref m_askedRow, .int 0, .ref m_kept, .int 0, .long 0, .ref m_aside, .int 0, .int 0, .ref m_spelled, .int 0, .ref m_image, .int 0])), (m_tape, .inl (E.2.1, 320, .inl f_3))] := by rw [← e9]; exact hD
    exact K H locs f_3 ls (hP.sub [0, 1] rfl) (hD.sub [0, 1] (by decide) rfl) hS (lv_sub hl [2, 3, 4, 5, 6, 7, 0] rfl)

set_option maxHeartbeats 4000000 in
set_option maxRecDepth 100000 in
theorem mf_it5 {p : Program} (l : Launch) {e : Env} {s : State} {m : MethodId} {below : List Frame} {meth : Method} {c : Code} {Q : State → Prop} (E : EE) {mo m_tape m_readPlace m_script m_scriptLong m_now m_refused m_shareX m_shareY m_askedRow m_kept m_aside m_spelled m_image : Nat} {p0 p1 p2 p3 p4 : Int32} (hx : p.tables.exec = Jvm.exec) (hb : c.code = cX8_feed) (hml : c.maxLocals = 9) (hown : s.vm.findClass RX8 = some m.cls) (hts : ∀ w ∈ v_d_feed, w.before #[Value.ref mo, Value.int p0, Value.int p1, Value.int p2, Value.int p3, Value.int p4] s = true) (hK : va_K E.1 vwCl (TY E) s) (hN : NX s) {A : Nat → Prop} (hA : ∀ q : Nat, s.heap.size ≤ q → A q) (n : Nat) (hn : n < 320)
    (K : ∀ (H : Heap) (locs : List Loc) (f : Nat → Int32) (ls : Array Slot), va_P E.1 vwCl [(mo, .inr (9, [.int 0, .ref m_tape, .int (nI (n + nzN p1 16)), .int 0, .int 0, .int 0, .int 0, .int 0, .long 0, .int 0, .int 0, .int 0, .int 0, .ref m_readPlace, .ref m_script, .ref m_scriptLong, .int 0, .ref m_now, .ref m_refused, .int 0, .ref m_shareX, .ref m_shareY, .int 0, .int 0, .ref m_askedRow, .int 0, .ref m_kept, .int 0, .long 0, .ref m_aside, .int 0, .int 0, .ref m_spelled, .int 0, .ref m_image, .int 0])), (m_tape, .inl (E.2.1, 320, .inl f))] H → va_D A [(mo, .inr (9, [.int 0, .ref m_tape, .int (nI (n + nzN p1 16)), .int 0, .int 0, .int 0, .int 0, .int 0, .long 0, .int 0, .int 0, .int 0, .int 0, .ref m_readPlace, .ref m_script, .ref m_scriptLong, .int 0, .ref m_now, .ref m_refused, .int 0, .ref m_shareX, .ref m_shareY, .int 0, .int 0, .ref m_askedRow, .int 0, .ref m_kept, .int 0, .long 0, .ref m_aside, .int 0, .int 0, .ref m_spelled, .int 0, .ref m_image, .int 0])), (m_tape, .inl (E.2.1, 320, .inl f))] → va_S A s.heap H locs → lv_has ls 9 [(0, .ref mo), (1, .int p0), (2, .int p1), (3, .int p2), (4, .int p3), (5, .int p4), (7, .int 6)] → W p l e ({ frames := 1, cells := 0, slots := 0, locals := 26 } : Room) s m #[Value.ref mo, Value.int p0, Value.int p1, Value.int p2, Value.int p3, Value.int p4] below meth c H locs 0 0 Q (F0 m 62 ls [])) :
    ∀ (H : Heap) (locs : List Loc) (f : Nat → Int32) (ls : Array Slot), va_P E.1 vwCl [(mo, .inr (9, [.int 0, .ref m_tape, .int (nI n), .int 0, .int 0, .int 0, .int 0, .int 0, .long 0, .int 0, .int 0, .int 0, .int 0, .ref m_readPlace, .ref m_script, .ref m_scriptLong, .int 0, .ref m_now, .ref m_refused, .int 0, .ref m_shareX, .ref m_shareY, .int 0, .int 0, .ref m_askedRow, .int 0, .ref m_kept, .int 0, .long 0, .ref m_aside, .int 0, .int 0, .ref m_spelled, .int 0, .ref m_image, .int 0])), (m_tape, .inl (E.2.1, 320, .inl f))] H → va_D A [(mo, .inr (9, [.int 0, .ref m_tape, .int (nI n), .int 0, .int 0, .int 0, .int 0, .int 0, .long 0, .int 0, .int 0, .int 0, .int 0, .ref m_readPlace, .ref m_script, .ref m_scriptLong, .int 0, .ref m_now, .ref m_refused, .int 0, .ref m_shareX, .ref m_shareY, .int 0, .int 0, .ref m_askedRow, .int 0, .ref m_kept, .int 0, .long 0, .ref m_aside, .int 0, .int 0, .ref m_spelled, .int 0, .ref m_image, .int 0])), (m_tape, .inl (E.2.1, 320, .inl f))] → va_S A s.heap H locs → lv_has ls 9 [(0, .ref mo), (1, .int p0), (2, .int p1), (3, .int p2), (4, .int p3), (5, .int p4), (7, .int 5)] → W p l e ({ frames := 1, cells := 0, slots := 0, locals := 26 } : Room) s m #[Value.ref mo, Value.int p0, Value.int p1, Value.int p2, Value.int p3, Value.int p4] below meth c H locs 0 0 Q (F0 m 62 ls []) := by
  intro H locs f ls hP hD hS hl
  refine lv_iload hx hb dX8_feed_62 (lv_at hl 6 rfl) ?_
  refine lv_bipush (v := 20) hx hb dX8_feed_64 (by decide) ?_
  refine lv_icmp_ge (tgt := 115) hx hb dX8_feed_66 (by decide) (fun q => absurd q (by decide)) (fun _ => ?_)
  refine lv_iload_n hx hb dX8_feed_69 rfl (lv_at hl 1 rfl) ?_
  refine lv_iload_n hx hb dX8_feed_70 rfl (lv_at hl 2 rfl) ?_
  refine lv_iload_n hx hb dX8_feed_71 rfl (lv_at hl 3 rfl) ?_
  refine lv_iload hx hb dX8_feed_72 (lv_at hl 4 rfl) ?_
  refine lv_iload hx hb dX8_feed_74 (lv_at hl 5 rfl) ?_
  refine lv_iload hx hb dX8_feed_76 (lv_at hl 6 rfl) ?_
  have hPc : va_P E.1 vwCl [] H := fun k q h => by simp at h
  refine pc_i (va_runS (As := [.int p0, .int p1, .int p2, .int p3, .int p4, .int 5]) (rest := []) ⟨hx, hb, hml, hown, hts⟩ (d_byteOf5 l E p0 p1 p2 p3 p4) (va_cwS 6 hts g_d_feed_d_byteOf5_53 rfl rfl rfl (by decide +kernel) ⟨Nat.le_of_ble_eq_true rfl, Nat.le_of_ble_eq_true rfl⟩) ⟨pP.blind, (pP.pre ⟨hK, hN⟩ hPc)⟩ rfl rfl hl.1 rfl (lv_room (Nat.le_of_ble_eq_true rfl)) dX8_feed_78 ⟨Nat.le_of_ble_eq_true rfl, Nat.le_of_ble_eq_true rfl⟩) (fun r_1 hr_1 => ?_)
  refine lv_istore (lv' := [(8, .int r_1), (0, .ref mo), (1, .int p0), (2, .int p1), (3, .int p2), (4, .int p3), (5, .int p4), (7, .int 5)]) hx hb dX8_feed_81 hl (by decide) rfl (fun ls hl => ?_)
  refine lv_iload hx hb dX8_feed_83 (lv_at hl 0 rfl) ?_
  refine lv_if_eq (tgt := 109) hx hb dX8_feed_85 (by decide) (fun c_2 => ?_) (fun c_2 => ?_)
  ·
    refine lv_iinc (v := 6) (lv' := [(7, .int 6), (8, .int r_1), (0, .ref mo), (1, .int p0), (2, .int p1), (3, .int p2), (4, .int p3), (5, .int p4)]) hx hb dX8_feed_109 hl (k := 7) rfl (by decide) (by decide) rfl (fun ls hl => ?_)
    refine lv_goto (tgt := 62) hx hb dX8_feed_112 (by decide) ?_
    have e8 : nzN p1 16 = 0 := by unfold nzN; rw [← hr_1, if_pos c_2]
    have e9 : n = n + nzN p1 16 := by omega
    have hP : va_P E.1 vwCl [(mo, .inr (9, [.int 0, .ref m_tape, .int (nI (n + nzN p1 16)), .int 0, .int 0, .int 0, .int 0, .int 0, .long 0, .int 0, .int 0, .int 0, .int 0, .ref m_readPlace, .ref m_script, .ref m_scriptLong, .int 0, .ref m_now, .ref m_refused, .int 0, .ref m_shareX, .ref m_shareY, .int 0, .int 0, .ref m_askedRow, .int 0, .ref m_kept, .int 0, .long 0, .ref m_aside, .int 0, .int 0, .ref m_spelled, .int 0, .ref m_image, .int 0])), (m_tape, .inl (E.2.1, 320, .inl f))] H := by rw [← e9]; exact hP
    have hD : va_D A [(mo, .inr (9, [.int 0, .ref m_tape, .int (nI (n + nzN p1 16)), .int 0, .int 0, .int 0, .int 0, .int 0, .long 0, .int 0, .int 0, .int 0, .int 0, .ref m_readPlace, .ref m_script, .ref m_scriptLong, .int 0, .ref m_now, .ref m_refused, .int 0, .ref m_shareX, .ref m_shareY, .int 0, .int 0, .ref m_askedRow, .int 0, .ref m_kept, .int 0, .long 0, .ref m_aside, .int 0, .int 0, .ref m_spelled, .int 0, .ref m_image, .int 0])), (m_tape, .inl (E.2.1, 320, .inl f))] := by rw [← e9]; exact hD
    exact K H locs f ls (hP.sub [0, 1] rfl) (hD.sub [0, 1] (by decide) rfl) hS (lv_sub hl [2, 3, 4, 5, 6, 7, 0] rfl)
  ·
    refine lv_aload_n hx hb dX8_feed_88 rfl (lv_at hl 1 rfl) ?_
    refine va_get (D := E.1) (ci := 9) (v := .ref m_tape) (C := RX8) (T := TX8) (N := 36) hx hb hts i_d_feed_X8 hown hK hP 0 rfl rfl 1 (by decide) (hts (.fieldLink RX8 9 "HushWatchModel" "tape" "[I") (List.mem_of_getElem? (i := 1) rfl)) (fun _ h9 => h9) rfl dX8_feed_89 ?_
    refine lv_aload_n hx hb dX8_feed_92 rfl (lv_at hl 1 rfl) ?_
    refine va_get (D := E.1) (ci := 9) (v := .int (nI n)) (C := RX8) (T := TX8) (N := 36) hx hb hts i_d_feed_X8 hown hK hP 0 rfl rfl 2 (by decide) (hts (.fieldLink RX8 57 "HushWatchModel" "taped" "I") (List.mem_of_getElem? (i := 2) rfl)) (fun _ h9 => h9) rfl dX8_feed_93 ?_
    refine lv_iload hx hb dX8_feed_96 (lv_at hl 0 rfl) ?_
    refine va_iast hx hb hK hP hD hS 1 0 rfl rfl (vp_in_nI (by omega) (by decide)) dX8_feed_98 (fun H locs hP hD hS => ?_)
    have hP : va_P E.1 vwCl [(mo, .inr (9, [.int 0, .ref m_tape, .int (nI n), .int 0, .int 0, .int 0, .int 0, .int 0, .long 0, .int 0, .int 0, .int 0, .int 0, .ref m_readPlace, .ref m_script, .ref m_scriptLong, .int 0, .ref m_now, .ref m_refused, .int 0, .ref m_shareX, .ref m_shareY, .int 0, .int 0, .ref m_askedRow, .int 0, .ref m_kept, .int 0, .long 0, .ref m_aside, .int 0, .int 0, .ref m_spelled, .int 0, .ref m_image, .int 0])), (m_tape, .inl (E.2.1, 320, .inl (upd f (nI n : Int32).toNatClampNeg r_1)))] H := hP
    have hD : va_D A [(mo, .inr (9, [.int 0, .ref m_tape, .int (nI n), .int 0, .int 0, .int 0, .int 0, .int 0, .long 0, .int 0, .int 0, .int 0, .int 0, .ref m_readPlace, .ref m_script, .ref m_scriptLong, .int 0, .ref m_now, .ref m_refused, .int 0, .ref m_shareX, .ref m_shareY, .int 0, .int 0, .ref m_askedRow, .int 0, .ref m_kept, .int 0, .long 0, .ref m_aside, .int 0, .int 0, .ref m_spelled, .int 0, .ref m_image, .int 0])), (m_tape, .inl (E.2.1, 320, .inl (upd f (nI n : Int32).toNatClampNeg r_1)))] := hD
    generalize upd f (nI n : Int32).toNatClampNeg r_1 = f_3 at hP hD
    refine lv_aload_n hx hb dX8_feed_99 rfl (lv_at hl 1 rfl) ?_
    refine lv_dup hx hb dX8_feed_100 rfl ?_
    refine va_get (D := E.1) (ci := 9) (v := .int (nI n)) (C := RX8) (T := TX8) (N := 36) hx hb hts i_d_feed_X8 hown hK hP 0 rfl rfl 2 (by decide) (hts (.fieldLink RX8 57 "HushWatchModel" "taped" "I") (List.mem_of_getElem? (i := 2) rfl)) (fun _ h9 => h9) rfl dX8_feed_101 ?_
    refine lv_iconst (v := 1) hx hb dX8_feed_104 (by decide) ?_
    refine lv_iadd hx hb dX8_feed_105 ?_
    refine lv_topi (fun z_4 ez_4 => ?_)
    obtain rfl : z_4 = nI (n + 1) := ez_4.trans (nI_add _ 1)
    refine va_put (D := E.1) (ci := 9) (v := .int (nI (n + 1))) (ty := .int) (C := RX8) (T := TX8) (N := 36) hx hb hts i_d_feed_X8 tyX8 tyX8_ok nmX8 hown hK hP hD hS 0 rfl rfl 2 (by decide) (hts (.fieldLink RX8 57 "HushWatchModel" "taped" "I") (List.mem_of_getElem? (i := 2) rfl)) (fun _ h9 => h9) rfl (by decide +kernel) rfl rfl (Nat.le_of_ble_eq_true rfl) dX8_feed_106 (fun H locs hP hD hS => ?_)
    have hP : va_P E.1 vwCl [(mo, .inr (9, [.int 0, .ref m_tape, .int (nI (n + 1)), .int 0, .int 0, .int 0, .int 0, .int 0, .long 0, .int 0, .int 0, .int 0, .int 0, .ref m_readPlace, .ref m_script, .ref m_scriptLong, .int 0, .ref m_now, .ref m_refused, .int 0, .ref m_shareX, .ref m_shareY, .int 0, .int 0, .ref m_askedRow, .int 0, .ref m_kept, .int 0, .long 0, .ref m_aside, .int 0, .int 0, .ref m_spelled, .int 0, .ref m_image, .int 0])), (m_tape, .inl (E.2.1, 320, .inl f_3))] H := hP
    have hD : va_D A [(mo, .inr (9, [.int 0, .ref m_tape, .int (nI (n + 1)), .int 0, .int 0, .int 0, .int 0, .int 0, .long 0, .int 0, .int 0, .int 0, .int 0, .ref m_readPlace, .ref m_script, .ref m_scriptLong, .int 0, .ref m_now, .ref m_refused, .int 0, .ref m_shareX, .ref m_shareY, .int 0, .int 0, .ref m_askedRow, .int 0, .ref m_kept, .int 0, .long 0, .ref m_aside, .int 0, .int 0, .ref m_spelled, .int 0, .ref m_image, .int 0])), (m_tape, .inl (E.2.1, 320, .inl f_3))] := hD
    refine lv_iinc (v := 6) (lv' := [(7, .int 6), (8, .int r_1), (0, .ref mo), (1, .int p0), (2, .int p1), (3, .int p2), (4, .int p3), (5, .int p4)]) hx hb dX8_feed_109 hl (k := 7) rfl (by decide) (by decide) rfl (fun ls hl => ?_)
    refine lv_goto (tgt := 62) hx hb dX8_feed_112 (by decide) ?_
    have e8 : nzN p1 16 = 1 := by unfold nzN; rw [← hr_1, if_neg c_2]
    have e9 : n + 1 = n + nzN p1 16 := by omega
    have hP : va_P E.1 vwCl [(mo, .inr (9, [.int 0, .ref m_tape, .int (nI (n + nzN p1 16)), .int 0, .int 0, .int 0, .int 0, .int 0, .long 0, .int 0, .int 0, .int 0, .int 0, .ref m_readPlace, .ref m_script, .ref m_scriptLong, .int 0, .ref m_now, .ref m_refused, .int 0, .ref m_shareX, .ref m_shareY, .int 0, .int 0, .ref m_askedRow, .int 0, .ref m_kept, .int 0, .long 0, .ref m_aside, .int 0, .int 0, .ref m_spelled, .int 0, .ref m_image, .int 0])), (m_tape, .inl (E.2.1, 320, .inl f_3))] H := by rw [← e9]; exact hP
    have hD : va_D A [(mo, .inr (9, [.int 0, .ref m_tape, .int (nI (n + nzN p1 16)), .int 0, .int 0, .int 0, .int 0, .int 0, .long 0, .int 0, .int 0, .int 0, .int 0, .ref m_readPlace, .ref m_script, .ref m_scriptLong, .int 0, .ref m_now, .ref m_refused, .int 0, .ref m_shareX, .ref m_shareY, .int 0, .int 0, .ref m_askedRow, .int 0, .ref m_kept, .int 0, .long 0, .ref m_aside, .int 0, .int 0, .ref m_spelled, .int 0, .ref m_image, .int 0])), (m_tape, .inl (E.2.1, 320, .inl f_3))] := by rw [← e9]; exact hD
    exact K H locs f_3 ls (hP.sub [0, 1] rfl) (hD.sub [0, 1] (by decide) rfl) hS (lv_sub hl [2, 3, 4, 5, 6, 7, 0] rfl)

set_option maxHeartbeats 4000000 in
set_option maxRecDepth 100000 in
theorem mf_it6 {p : Program} (l : Launch) {e : Env} {s : State} {m : MethodId} {below : List Frame} {meth : Method} {c : Code} {Q : State → Prop} (E : EE) {mo m_tape m_readPlace m_script m_scriptLong m_now m_refused m_shareX m_shareY m_askedRow m_kept m_aside m_spelled m_image : Nat} {p0 p1 p2 p3 p4 : Int32} (hx : p.tables.exec = Jvm.exec) (hb : c.code = cX8_feed) (hml : c.maxLocals = 9) (hown : s.vm.findClass RX8 = some m.cls) (hts : ∀ w ∈ v_d_feed, w.before #[Value.ref mo, Value.int p0, Value.int p1, Value.int p2, Value.int p3, Value.int p4] s = true) (hK : va_K E.1 vwCl (TY E) s) (hN : NX s) {A : Nat → Prop} (hA : ∀ q : Nat, s.heap.size ≤ q → A q) (n : Nat) (hn : n < 320)
    (K : ∀ (H : Heap) (locs : List Loc) (f : Nat → Int32) (ls : Array Slot), va_P E.1 vwCl [(mo, .inr (9, [.int 0, .ref m_tape, .int (nI (n + nzN p1 8)), .int 0, .int 0, .int 0, .int 0, .int 0, .long 0, .int 0, .int 0, .int 0, .int 0, .ref m_readPlace, .ref m_script, .ref m_scriptLong, .int 0, .ref m_now, .ref m_refused, .int 0, .ref m_shareX, .ref m_shareY, .int 0, .int 0, .ref m_askedRow, .int 0, .ref m_kept, .int 0, .long 0, .ref m_aside, .int 0, .int 0, .ref m_spelled, .int 0, .ref m_image, .int 0])), (m_tape, .inl (E.2.1, 320, .inl f))] H → va_D A [(mo, .inr (9, [.int 0, .ref m_tape, .int (nI (n + nzN p1 8)), .int 0, .int 0, .int 0, .int 0, .int 0, .long 0, .int 0, .int 0, .int 0, .int 0, .ref m_readPlace, .ref m_script, .ref m_scriptLong, .int 0, .ref m_now, .ref m_refused, .int 0, .ref m_shareX, .ref m_shareY, .int 0, .int 0, .ref m_askedRow, .int 0, .ref m_kept, .int 0, .long 0, .ref m_aside, .int 0, .int 0, .ref m_spelled, .int 0, .ref m_image, .int 0])), (m_tape, .inl (E.2.1, 320, .inl f))] → va_S A s.heap H locs → lv_has ls 9 [(0, .ref mo), (1, .int p0), (2, .int p1), (3, .int p2), (4, .int p3), (5, .int p4), (7, .int 7)] → W p l e ({ frames := 1, cells := 0, slots := 0, locals := 26 } : Room) s m #[Value.ref mo, Value.int p0, Value.int p1, Value.int p2, Value.int p3, Value.int p4] below meth c H locs 0 0 Q (F0 m 62 ls [])) :
    ∀ (H : Heap) (locs : List Loc) (f : Nat → Int32) (ls : Array Slot), va_P E.1 vwCl [(mo, .inr (9, [.int 0, .ref m_tape, .int (nI n), .int 0, .int 0, .int 0, .int 0, .int 0, .long 0, .int 0, .int 0, .int 0, .int 0, .ref m_readPlace, .ref m_script, .ref m_scriptLong, .int 0, .ref m_now, .ref m_refused, .int 0, .ref m_shareX, .ref m_shareY, .int 0, .int 0, .ref m_askedRow, .int 0, .ref m_kept, .int 0, .long 0, .ref m_aside, .int 0, .int 0, .ref m_spelled, .int 0, .ref m_image, .int 0])), (m_tape, .inl (E.2.1, 320, .inl f))] H → va_D A [(mo, .inr (9, [.int 0, .ref m_tape, .int (nI n), .int 0, .int 0, .int 0, .int 0, .int 0, .long 0, .int 0, .int 0, .int 0, .int 0, .ref m_readPlace, .ref m_script, .ref m_scriptLong, .int 0, .ref m_now, .ref m_refused, .int 0, .ref m_shareX, .ref m_shareY, .int 0, .int 0, .ref m_askedRow, .int 0, .ref m_kept, .int 0, .long 0, .ref m_aside, .int 0, .int 0, .ref m_spelled, .int 0, .ref m_image, .int 0])), (m_tape, .inl (E.2.1, 320, .inl f))] → va_S A s.heap H locs → lv_has ls 9 [(0, .ref mo), (1, .int p0), (2, .int p1), (3, .int p2), (4, .int p3), (5, .int p4), (7, .int 6)] → W p l e ({ frames := 1, cells := 0, slots := 0, locals := 26 } : Room) s m #[Value.ref mo, Value.int p0, Value.int p1, Value.int p2, Value.int p3, Value.int p4] below meth c H locs 0 0 Q (F0 m 62 ls []) := by
  intro H locs f ls hP hD hS hl
  refine lv_iload hx hb dX8_feed_62 (lv_at hl 6 rfl) ?_
  refine lv_bipush (v := 20) hx hb dX8_feed_64 (by decide) ?_
  refine lv_icmp_ge (tgt := 115) hx hb dX8_feed_66 (by decide) (fun q => absurd q (by decide)) (fun _ => ?_)
  refine lv_iload_n hx hb dX8_feed_69 rfl (lv_at hl 1 rfl) ?_
  refine lv_iload_n hx hb dX8_feed_70 rfl (lv_at hl 2 rfl) ?_
  refine lv_iload_n hx hb dX8_feed_71 rfl (lv_at hl 3 rfl) ?_
  refine lv_iload hx hb dX8_feed_72 (lv_at hl 4 rfl) ?_
  refine lv_iload hx hb dX8_feed_74 (lv_at hl 5 rfl) ?_
  refine lv_iload hx hb dX8_feed_76 (lv_at hl 6 rfl) ?_
  have hPc : va_P E.1 vwCl [] H := fun k q h => by simp at h
  refine pc_i (va_runS (As := [.int p0, .int p1, .int p2, .int p3, .int p4, .int 6]) (rest := []) ⟨hx, hb, hml, hown, hts⟩ (d_byteOf6 l E p0 p1 p2 p3 p4) (va_cwS 6 hts g_d_feed_d_byteOf6_53 rfl rfl rfl (by decide +kernel) ⟨Nat.le_of_ble_eq_true rfl, Nat.le_of_ble_eq_true rfl⟩) ⟨pP.blind, (pP.pre ⟨hK, hN⟩ hPc)⟩ rfl rfl hl.1 rfl (lv_room (Nat.le_of_ble_eq_true rfl)) dX8_feed_78 ⟨Nat.le_of_ble_eq_true rfl, Nat.le_of_ble_eq_true rfl⟩) (fun r_1 hr_1 => ?_)
  refine lv_istore (lv' := [(8, .int r_1), (0, .ref mo), (1, .int p0), (2, .int p1), (3, .int p2), (4, .int p3), (5, .int p4), (7, .int 6)]) hx hb dX8_feed_81 hl (by decide) rfl (fun ls hl => ?_)
  refine lv_iload hx hb dX8_feed_83 (lv_at hl 0 rfl) ?_
  refine lv_if_eq (tgt := 109) hx hb dX8_feed_85 (by decide) (fun c_2 => ?_) (fun c_2 => ?_)
  ·
    refine lv_iinc (v := 7) (lv' := [(7, .int 7), (8, .int r_1), (0, .ref mo), (1, .int p0), (2, .int p1), (3, .int p2), (4, .int p3), (5, .int p4)]) hx hb dX8_feed_109 hl (k := 7) rfl (by decide) (by decide) rfl (fun ls hl => ?_)
    refine lv_goto (tgt := 62) hx hb dX8_feed_112 (by decide) ?_
    have e8 : nzN p1 8 = 0 := by unfold nzN; rw [← hr_1, if_pos c_2]
    have e9 : n = n + nzN p1 8 := by omega
    have hP : va_P E.1 vwCl [(mo, .inr (9, [.int 0, .ref m_tape, .int (nI (n + nzN p1 8)), .int 0, .int 0, .int 0, .int 0, .int 0, .long 0, .int 0, .int 0, .int 0, .int 0, .ref m_readPlace, .ref m_script, .ref m_scriptLong, .int 0, .ref m_now, .ref m_refused, .int 0, .ref m_shareX, .ref m_shareY, .int 0, .int 0, .ref m_askedRow, .int 0, .ref m_kept, .int 0, .long 0, .ref m_aside, .int 0, .int 0, .ref m_spelled, .int 0, .ref m_image, .int 0])), (m_tape, .inl (E.2.1, 320, .inl f))] H := by rw [← e9]; exact hP
    have hD : va_D A [(mo, .inr (9, [.int 0, .ref m_tape, .int (nI (n + nzN p1 8)), .int 0, .int 0, .int 0, .int 0, .int 0, .long 0, .int 0, .int 0, .int 0, .int 0, .ref m_readPlace, .ref m_script, .ref m_scriptLong, .int 0, .ref m_now, .ref m_refused, .int 0, .ref m_shareX, .ref m_shareY, .int 0, .int 0, .ref m_askedRow, .int 0, .ref m_kept, .int 0, .long 0, .ref m_aside, .int 0, .int 0, .ref m_spelled, .int 0, .ref m_image, .int 0])), (m_tape, .inl (E.2.1, 320, .inl f))] := by rw [← e9]; exact hD
    exact K H locs f ls (hP.sub [0, 1] rfl) (hD.sub [0, 1] (by decide) rfl) hS (lv_sub hl [2, 3, 4, 5, 6, 7, 0] rfl)
  ·
    refine lv_aload_n hx hb dX8_feed_88 rfl (lv_at hl 1 rfl) ?_
    refine va_get (D := E.1) (ci := 9) (v := .ref m_tape) (C := RX8) (T := TX8) (N := 36) hx hb hts i_d_feed_X8 hown hK hP 0 rfl rfl 1 (by decide) (hts (.fieldLink RX8 9 "HushWatchModel" "tape" "[I") (List.mem_of_getElem? (i := 1) rfl)) (fun _ h9 => h9) rfl dX8_feed_89 ?_
    refine lv_aload_n hx hb dX8_feed_92 rfl (lv_at hl 1 rfl) ?_
    refine va_get (D := E.1) (ci := 9) (v := .int (nI n)) (C := RX8) (T := TX8) (N := 36) hx hb hts i_d_feed_X8 hown hK hP 0 rfl rfl 2 (by decide) (hts (.fieldLink RX8 57 "HushWatchModel" "taped" "I") (List.mem_of_getElem? (i := 2) rfl)) (fun _ h9 => h9) rfl dX8_feed_93 ?_
    refine lv_iload hx hb dX8_feed_96 (lv_at hl 0 rfl) ?_
    refine va_iast hx hb hK hP hD hS 1 0 rfl rfl (vp_in_nI (by omega) (by decide)) dX8_feed_98 (fun H locs hP hD hS => ?_)
    have hP : va_P E.1 vwCl [(mo, .inr (9, [.int 0, .ref m_tape, .int (nI n), .int 0, .int 0, .int 0, .int 0, .int 0, .long 0, .int 0, .int 0, .int 0, .int 0, .ref m_readPlace, .ref m_script, .ref m_scriptLong, .int 0, .ref m_now, .ref m_refused, .int 0, .ref m_shareX, .ref m_shareY, .int 0, .int 0, .ref m_askedRow, .int 0, .ref m_kept, .int 0, .long 0, .ref m_aside, .int 0, .int 0, .ref m_spelled, .int 0, .ref m_image, .int 0])), (m_tape, .inl (E.2.1, 320, .inl (upd f (nI n : Int32).toNatClampNeg r_1)))] H := hP
    have hD : va_D A [(mo, .inr (9, [.int 0, .ref m_tape, .int (nI n), .int 0, .int 0, .int 0, .int 0, .int 0, .long 0, .int 0, .int 0, .int 0, .int 0, .ref m_readPlace, .ref m_script, .ref m_scriptLong, .int 0, .ref m_now, .ref m_refused, .int 0, .ref m_shareX, .ref m_shareY, .int 0, .int 0, .ref m_askedRow, .int 0, .ref m_kept, .int 0, .long 0, .ref m_aside, .int 0, .int 0, .ref m_spelled, .int 0, .ref m_image, .int 0])), (m_tape, .inl (E.2.1, 320, .inl (upd f (nI n : Int32).toNatClampNeg r_1)))] := hD
    generalize upd f (nI n : Int32).toNatClampNeg r_1 = f_3 at hP hD
    refine lv_aload_n hx hb dX8_feed_99 rfl (lv_at hl 1 rfl) ?_
    refine lv_dup hx hb dX8_feed_100 rfl ?_
    refine va_get (D := E.1) (ci := 9) (v := .int (nI n)) (C := RX8) (T := TX8) (N := 36) hx hb hts i_d_feed_X8 hown hK hP 0 rfl rfl 2 (by decide) (hts (.fieldLink RX8 57 "HushWatchModel" "taped" "I") (List.mem_of_getElem? (i := 2) rfl)) (fun _ h9 => h9) rfl dX8_feed_101 ?_
    refine lv_iconst (v := 1) hx hb dX8_feed_104 (by decide) ?_
    refine lv_iadd hx hb dX8_feed_105 ?_
    refine lv_topi (fun z_4 ez_4 => ?_)
    obtain rfl : z_4 = nI (n + 1) := ez_4.trans (nI_add _ 1)
    refine va_put (D := E.1) (ci := 9) (v := .int (nI (n + 1))) (ty := .int) (C := RX8) (T := TX8) (N := 36) hx hb hts i_d_feed_X8 tyX8 tyX8_ok nmX8 hown hK hP hD hS 0 rfl rfl 2 (by decide) (hts (.fieldLink RX8 57 "HushWatchModel" "taped" "I") (List.mem_of_getElem? (i := 2) rfl)) (fun _ h9 => h9) rfl (by decide +kernel) rfl rfl (Nat.le_of_ble_eq_true rfl) dX8_feed_106 (fun H locs hP hD hS => ?_)
    have hP : va_P E.1 vwCl [(mo, .inr (9, [.int 0, .ref m_tape, .int (nI (n + 1)), .int 0, .int 0, .int 0, .int 0, .int 0, .long 0, .int 0, .int 0, .int 0, .int 0, .ref m_readPlace, .ref m_script, .ref m_scriptLong, .int 0, .ref m_now, .ref m_refused, .int 0, .ref m_shareX, .ref m_shareY, .int 0, .int 0, .ref m_askedRow, .int 0, .ref m_kept, .int 0, .long 0, .ref m_aside, .int 0, .int 0, .ref m_spelled, .int 0, .ref m_image, .int 0])), (m_tape, .inl (E.2.1, 320, .inl f_3))] H := hP
    have hD : va_D A [(mo, .inr (9, [.int 0, .ref m_tape, .int (nI (n + 1)), .int 0, .int 0, .int 0, .int 0, .int 0, .long 0, .int 0, .int 0, .int 0, .int 0, .ref m_readPlace, .ref m_script, .ref m_scriptLong, .int 0, .ref m_now, .ref m_refused, .int 0, .ref m_shareX, .ref m_shareY, .int 0, .int 0, .ref m_askedRow, .int 0, .ref m_kept, .int 0, .long 0, .ref m_aside, .int 0, .int 0, .ref m_spelled, .int 0, .ref m_image, .int 0])), (m_tape, .inl (E.2.1, 320, .inl f_3))] := hD
    refine lv_iinc (v := 7) (lv' := [(7, .int 7), (8, .int r_1), (0, .ref mo), (1, .int p0), (2, .int p1), (3, .int p2), (4, .int p3), (5, .int p4)]) hx hb dX8_feed_109 hl (k := 7) rfl (by decide) (by decide) rfl (fun ls hl => ?_)
    refine lv_goto (tgt := 62) hx hb dX8_feed_112 (by decide) ?_
    have e8 : nzN p1 8 = 1 := by unfold nzN; rw [← hr_1, if_neg c_2]
    have e9 : n + 1 = n + nzN p1 8 := by omega
    have hP : va_P E.1 vwCl [(mo, .inr (9, [.int 0, .ref m_tape, .int (nI (n + nzN p1 8)), .int 0, .int 0, .int 0, .int 0, .int 0, .long 0, .int 0, .int 0, .int 0, .int 0, .ref m_readPlace, .ref m_script, .ref m_scriptLong, .int 0, .ref m_now, .ref m_refused, .int 0, .ref m_shareX, .ref m_shareY, .int 0, .int 0, .ref m_askedRow, .int 0, .ref m_kept, .int 0, .long 0, .ref m_aside, .int 0, .int 0, .ref m_spelled, .int 0, .ref m_image, .int 0])), (m_tape, .inl (E.2.1, 320, .inl f_3))] H := by rw [← e9]; exact hP
    have hD : va_D A [(mo, .inr (9, [.int 0, .ref m_tape, .int (nI (n + nzN p1 8)), .int 0, .int 0, .int 0, .int 0, .int 0, .long 0, .int 0, .int 0, .int 0, .int 0, .ref m_readPlace, .ref m_script, .ref m_scriptLong, .int 0, .ref m_now, .ref m_refused, .int 0, .ref m_shareX, .ref m_shareY, .int 0, .int 0, .ref m_askedRow, .int 0, .ref m_kept, .int 0, .long 0, .ref m_aside, .int 0, .int 0, .ref m_spelled, .int 0, .ref m_image, .int 0])), (m_tape, .inl (E.2.1, 320, .inl f_3))] := by rw [← e9]; exact hD
    exact K H locs f_3 ls (hP.sub [0, 1] rfl) (hD.sub [0, 1] (by decide) rfl) hS (lv_sub hl [2, 3, 4, 5, 6, 7, 0] rfl)

set_option maxHeartbeats 4000000 in
set_option maxRecDepth 100000 in
theorem mf_it7 {p : Program} (l : Launch) {e : Env} {s : State} {m : MethodId} {below : List Frame} {meth : Method} {c : Code} {Q : State → Prop} (E : EE) {mo m_tape m_readPlace m_script m_scriptLong m_now m_refused m_shareX m_shareY m_askedRow m_kept m_aside m_spelled m_image : Nat} {p0 p1 p2 p3 p4 : Int32} (hx : p.tables.exec = Jvm.exec) (hb : c.code = cX8_feed) (hml : c.maxLocals = 9) (hown : s.vm.findClass RX8 = some m.cls) (hts : ∀ w ∈ v_d_feed, w.before #[Value.ref mo, Value.int p0, Value.int p1, Value.int p2, Value.int p3, Value.int p4] s = true) (hK : va_K E.1 vwCl (TY E) s) (hN : NX s) {A : Nat → Prop} (hA : ∀ q : Nat, s.heap.size ≤ q → A q) (n : Nat) (hn : n < 320)
    (K : ∀ (H : Heap) (locs : List Loc) (f : Nat → Int32) (ls : Array Slot), va_P E.1 vwCl [(mo, .inr (9, [.int 0, .ref m_tape, .int (nI (n + nzN p1 0)), .int 0, .int 0, .int 0, .int 0, .int 0, .long 0, .int 0, .int 0, .int 0, .int 0, .ref m_readPlace, .ref m_script, .ref m_scriptLong, .int 0, .ref m_now, .ref m_refused, .int 0, .ref m_shareX, .ref m_shareY, .int 0, .int 0, .ref m_askedRow, .int 0, .ref m_kept, .int 0, .long 0, .ref m_aside, .int 0, .int 0, .ref m_spelled, .int 0, .ref m_image, .int 0])), (m_tape, .inl (E.2.1, 320, .inl f))] H → va_D A [(mo, .inr (9, [.int 0, .ref m_tape, .int (nI (n + nzN p1 0)), .int 0, .int 0, .int 0, .int 0, .int 0, .long 0, .int 0, .int 0, .int 0, .int 0, .ref m_readPlace, .ref m_script, .ref m_scriptLong, .int 0, .ref m_now, .ref m_refused, .int 0, .ref m_shareX, .ref m_shareY, .int 0, .int 0, .ref m_askedRow, .int 0, .ref m_kept, .int 0, .long 0, .ref m_aside, .int 0, .int 0, .ref m_spelled, .int 0, .ref m_image, .int 0])), (m_tape, .inl (E.2.1, 320, .inl f))] → va_S A s.heap H locs → lv_has ls 9 [(0, .ref mo), (1, .int p0), (2, .int p1), (3, .int p2), (4, .int p3), (5, .int p4), (7, .int 8)] → W p l e ({ frames := 1, cells := 0, slots := 0, locals := 26 } : Room) s m #[Value.ref mo, Value.int p0, Value.int p1, Value.int p2, Value.int p3, Value.int p4] below meth c H locs 0 0 Q (F0 m 62 ls [])) :
    ∀ (H : Heap) (locs : List Loc) (f : Nat → Int32) (ls : Array Slot), va_P E.1 vwCl [(mo, .inr (9, [.int 0, .ref m_tape, .int (nI n), .int 0, .int 0, .int 0, .int 0, .int 0, .long 0, .int 0, .int 0, .int 0, .int 0, .ref m_readPlace, .ref m_script, .ref m_scriptLong, .int 0, .ref m_now, .ref m_refused, .int 0, .ref m_shareX, .ref m_shareY, .int 0, .int 0, .ref m_askedRow, .int 0, .ref m_kept, .int 0, .long 0, .ref m_aside, .int 0, .int 0, .ref m_spelled, .int 0, .ref m_image, .int 0])), (m_tape, .inl (E.2.1, 320, .inl f))] H → va_D A [(mo, .inr (9, [.int 0, .ref m_tape, .int (nI n), .int 0, .int 0, .int 0, .int 0, .int 0, .long 0, .int 0, .int 0, .int 0, .int 0, .ref m_readPlace, .ref m_script, .ref m_scriptLong, .int 0, .ref m_now, .ref m_refused, .int 0, .ref m_shareX, .ref m_shareY, .int 0, .int 0, .ref m_askedRow, .int 0, .ref m_kept, .int 0, .long 0, .ref m_aside, .int 0, .int 0, .ref m_spelled, .int 0, .ref m_image, .int 0])), (m_tape, .inl (E.2.1, 320, .inl f))] → va_S A s.heap H locs → lv_has ls 9 [(0, .ref mo), (1, .int p0), (2, .int p1), (3, .int p2), (4, .int p3), (5, .int p4), (7, .int 7)] → W p l e ({ frames := 1, cells := 0, slots := 0, locals := 26 } : Room) s m #[Value.ref mo, Value.int p0, Value.int p1, Value.int p2, Value.int p3, Value.int p4] below meth c H locs 0 0 Q (F0 m 62 ls []) := by
  intro H locs f ls hP hD hS hl
  refine lv_iload hx hb dX8_feed_62 (lv_at hl 6 rfl) ?_
  refine lv_bipush (v := 20) hx hb dX8_feed_64 (by decide) ?_
  refine lv_icmp_ge (tgt := 115) hx hb dX8_feed_66 (by decide) (fun q => absurd q (by decide)) (fun _ => ?_)
  refine lv_iload_n hx hb dX8_feed_69 rfl (lv_at hl 1 rfl) ?_
  refine lv_iload_n hx hb dX8_feed_70 rfl (lv_at hl 2 rfl) ?_
  refine lv_iload_n hx hb dX8_feed_71 rfl (lv_at hl 3 rfl) ?_
  refine lv_iload hx hb dX8_feed_72 (lv_at hl 4 rfl) ?_
  refine lv_iload hx hb dX8_feed_74 (lv_at hl 5 rfl) ?_
  refine lv_iload hx hb dX8_feed_76 (lv_at hl 6 rfl) ?_
  have hPc : va_P E.1 vwCl [] H := fun k q h => by simp at h
  refine pc_i (va_runS (As := [.int p0, .int p1, .int p2, .int p3, .int p4, .int 7]) (rest := []) ⟨hx, hb, hml, hown, hts⟩ (d_byteOf7 l E p0 p1 p2 p3 p4) (va_cwS 6 hts g_d_feed_d_byteOf7_53 rfl rfl rfl (by decide +kernel) ⟨Nat.le_of_ble_eq_true rfl, Nat.le_of_ble_eq_true rfl⟩) ⟨pP.blind, (pP.pre ⟨hK, hN⟩ hPc)⟩ rfl rfl hl.1 rfl (lv_room (Nat.le_of_ble_eq_true rfl)) dX8_feed_78 ⟨Nat.le_of_ble_eq_true rfl, Nat.le_of_ble_eq_true rfl⟩) (fun r_1 hr_1 => ?_)
  refine lv_istore (lv' := [(8, .int r_1), (0, .ref mo), (1, .int p0), (2, .int p1), (3, .int p2), (4, .int p3), (5, .int p4), (7, .int 7)]) hx hb dX8_feed_81 hl (by decide) rfl (fun ls hl => ?_)
  refine lv_iload hx hb dX8_feed_83 (lv_at hl 0 rfl) ?_
  refine lv_if_eq (tgt := 109) hx hb dX8_feed_85 (by decide) (fun c_2 => ?_) (fun c_2 => ?_)
  ·
    refine lv_iinc (v := 8) (lv' := [(7, .int 8), (8, .int r_1), (0, .ref mo), (1, .int p0), (2, .int p1), (3, .int p2), (4, .int p3), (5, .int p4)]) hx hb dX8_feed_109 hl (k := 7) rfl (by decide) (by decide) rfl (fun ls hl => ?_)
    refine lv_goto (tgt := 62) hx hb dX8_feed_112 (by decide) ?_
    have e8 : nzN p1 0 = 0 := by unfold nzN; rw [← hr_1, if_pos c_2]
    have e9 : n = n + nzN p1 0 := by omega
    have hP : va_P E.1 vwCl [(mo, .inr (9, [.int 0, .ref m_tape, .int (nI (n + nzN p1 0)), .int 0, .int 0, .int 0, .int 0, .int 0, .long 0, .int 0, .int 0, .int 0, .int 0, .ref m_readPlace, .ref m_script, .ref m_scriptLong, .int 0, .ref m_now, .ref m_refused, .int 0, .ref m_shareX, .ref m_shareY, .int 0, .int 0, .ref m_askedRow, .int 0, .ref m_kept, .int 0, .long 0, .ref m_aside, .int 0, .int 0, .ref m_spelled, .int 0, .ref m_image, .int 0])), (m_tape, .inl (E.2.1, 320, .inl f))] H := by rw [← e9]; exact hP
    have hD : va_D A [(mo, .inr (9, [.int 0, .ref m_tape, .int (nI (n + nzN p1 0)), .int 0, .int 0, .int 0, .int 0, .int 0, .long 0, .int 0, .int 0, .int 0, .int 0, .ref m_readPlace, .ref m_script, .ref m_scriptLong, .int 0, .ref m_now, .ref m_refused, .int 0, .ref m_shareX, .ref m_shareY, .int 0, .int 0, .ref m_askedRow, .int 0, .ref m_kept, .int 0, .long 0, .ref m_aside, .int 0, .int 0, .ref m_spelled, .int 0, .ref m_image, .int 0])), (m_tape, .inl (E.2.1, 320, .inl f))] := by rw [← e9]; exact hD
    exact K H locs f ls (hP.sub [0, 1] rfl) (hD.sub [0, 1] (by decide) rfl) hS (lv_sub hl [2, 3, 4, 5, 6, 7, 0] rfl)
  ·
    refine lv_aload_n hx hb dX8_feed_88 rfl (lv_at hl 1 rfl) ?_
    refine va_get (D := E.1) (ci := 9) (v := .ref m_tape) (C := RX8) (T := TX8) (N := 36) hx hb hts i_d_feed_X8 hown hK hP 0 rfl rfl 1 (by decide) (hts (.fieldLink RX8 9 "HushWatchModel" "tape" "[I") (List.mem_of_getElem? (i := 1) rfl)) (fun _ h9 => h9) rfl dX8_feed_89 ?_
    refine lv_aload_n hx hb dX8_feed_92 rfl (lv_at hl 1 rfl) ?_
    refine va_get (D := E.1) (ci := 9) (v := .int (nI n)) (C := RX8) (T := TX8) (N := 36) hx hb hts i_d_feed_X8 hown hK hP 0 rfl rfl 2 (by decide) (hts (.fieldLink RX8 57 "HushWatchModel" "taped" "I") (List.mem_of_getElem? (i := 2) rfl)) (fun _ h9 => h9) rfl dX8_feed_93 ?_
    refine lv_iload hx hb dX8_feed_96 (lv_at hl 0 rfl) ?_
    refine va_iast hx hb hK hP hD hS 1 0 rfl rfl (vp_in_nI (by omega) (by decide)) dX8_feed_98 (fun H locs hP hD hS => ?_)
    have hP : va_P E.1 vwCl [(mo, .inr (9, [.int 0, .ref m_tape, .int (nI n), .int 0, .int 0, .int 0, .int 0, .int 0, .long 0, .int 0, .int 0, .int 0, .int 0, .ref m_readPlace, .ref m_script, .ref m_scriptLong, .int 0, .ref m_now, .ref m_refused, .int 0, .ref m_shareX, .ref m_shareY, .int 0, .int 0, .ref m_askedRow, .int 0, .ref m_kept, .int 0, .long 0, .ref m_aside, .int 0, .int 0, .ref m_spelled, .int 0, .ref m_image, .int 0])), (m_tape, .inl (E.2.1, 320, .inl (upd f (nI n : Int32).toNatClampNeg r_1)))] H := hP
    have hD : va_D A [(mo, .inr (9, [.int 0, .ref m_tape, .int (nI n), .int 0, .int 0, .int 0, .int 0, .int 0, .long 0, .int 0, .int 0, .int 0, .int 0, .ref m_readPlace, .ref m_script, .ref m_scriptLong, .int 0, .ref m_now, .ref m_refused, .int 0, .ref m_shareX, .ref m_shareY, .int 0, .int 0, .ref m_askedRow, .int 0, .ref m_kept, .int 0, .long 0, .ref m_aside, .int 0, .int 0, .ref m_spelled, .int 0, .ref m_image, .int 0])), (m_tape, .inl (E.2.1, 320, .inl (upd f (nI n : Int32).toNatClampNeg r_1)))] := hD
    generalize upd f (nI n : Int32).toNatClampNeg r_1 = f_3 at hP hD
    refine lv_aload_n hx hb dX8_feed_99 rfl (lv_at hl 1 rfl) ?_
    refine lv_dup hx hb dX8_feed_100 rfl ?_
    refine va_get (D := E.1) (ci := 9) (v := .int (nI n)) (C := RX8) (T := TX8) (N := 36) hx hb hts i_d_feed_X8 hown hK hP 0 rfl rfl 2 (by decide) (hts (.fieldLink RX8 57 "HushWatchModel" "taped" "I") (List.mem_of_getElem? (i := 2) rfl)) (fun _ h9 => h9) rfl dX8_feed_101 ?_
    refine lv_iconst (v := 1) hx hb dX8_feed_104 (by decide) ?_
    refine lv_iadd hx hb dX8_feed_105 ?_
    refine lv_topi (fun z_4 ez_4 => ?_)
    obtain rfl : z_4 = nI (n + 1) := ez_4.trans (nI_add _ 1)
    refine va_put (D := E.1) (ci := 9) (v := .int (nI (n + 1))) (ty := .int) (C := RX8) (T := TX8) (N := 36) hx hb hts i_d_feed_X8 tyX8 tyX8_ok nmX8 hown hK hP hD hS 0 rfl rfl 2 (by decide) (hts (.fieldLink RX8 57 "HushWatchModel" "taped" "I") (List.mem_of_getElem? (i := 2) rfl)) (fun _ h9 => h9) rfl (by decide +kernel) rfl rfl (Nat.le_of_ble_eq_true rfl) dX8_feed_106 (fun H locs hP hD hS => ?_)
    have hP : va_P E.1 vwCl [(mo, .inr (9, [.int 0, .ref m_tape, .int (nI (n + 1)), .int 0, .int 0, .int 0, .int 0, .int 0, .long 0, .int 0, .int 0, .int 0, .int 0, .ref m_readPlace, .ref m_script, .ref m_scriptLong, .int 0, .ref m_now, .ref m_refused, .int 0, .ref m_shareX, .ref m_shareY, .int 0, .int 0, .ref m_askedRow, .int 0, .ref m_kept, .int 0, .long 0, .ref m_aside, .int 0, .int 0, .ref m_spelled, .int 0, .ref m_image, .int 0])), (m_tape, .inl (E.2.1, 320, .inl f_3))] H := hP
    have hD : va_D A [(mo, .inr (9, [.int 0, .ref m_tape, .int (nI (n + 1)), .int 0, .int 0, .int 0, .int 0, .int 0, .long 0, .int 0, .int 0, .int 0, .int 0, .ref m_readPlace, .ref m_script, .ref m_scriptLong, .int 0, .ref m_now, .ref m_refused, .int 0, .ref m_shareX, .ref m_shareY, .int 0, .int 0, .ref m_askedRow, .int 0, .ref m_kept, .int 0, .long 0, .ref m_aside, .int 0, .int 0, .ref m_spelled, .int 0, .ref m_image, .int 0])), (m_tape, .inl (E.2.1, 320, .inl f_3))] := hD
    refine lv_iinc (v := 8) (lv' := [(7, .int 8), (8, .int r_1), (0, .ref mo), (1, .int p0), (2, .int p1), (3, .int p2), (4, .int p3), (5, .int p4)]) hx hb dX8_feed_109 hl (k := 7) rfl (by decide) (by decide) rfl (fun ls hl => ?_)
    refine lv_goto (tgt := 62) hx hb dX8_feed_112 (by decide) ?_
    have e8 : nzN p1 0 = 1 := by unfold nzN; rw [← hr_1, if_neg c_2]
    have e9 : n + 1 = n + nzN p1 0 := by omega
    have hP : va_P E.1 vwCl [(mo, .inr (9, [.int 0, .ref m_tape, .int (nI (n + nzN p1 0)), .int 0, .int 0, .int 0, .int 0, .int 0, .long 0, .int 0, .int 0, .int 0, .int 0, .ref m_readPlace, .ref m_script, .ref m_scriptLong, .int 0, .ref m_now, .ref m_refused, .int 0, .ref m_shareX, .ref m_shareY, .int 0, .int 0, .ref m_askedRow, .int 0, .ref m_kept, .int 0, .long 0, .ref m_aside, .int 0, .int 0, .ref m_spelled, .int 0, .ref m_image, .int 0])), (m_tape, .inl (E.2.1, 320, .inl f_3))] H := by rw [← e9]; exact hP
    have hD : va_D A [(mo, .inr (9, [.int 0, .ref m_tape, .int (nI (n + nzN p1 0)), .int 0, .int 0, .int 0, .int 0, .int 0, .long 0, .int 0, .int 0, .int 0, .int 0, .ref m_readPlace, .ref m_script, .ref m_scriptLong, .int 0, .ref m_now, .ref m_refused, .int 0, .ref m_shareX, .ref m_shareY, .int 0, .int 0, .ref m_askedRow, .int 0, .ref m_kept, .int 0, .long 0, .ref m_aside, .int 0, .int 0, .ref m_spelled, .int 0, .ref m_image, .int 0])), (m_tape, .inl (E.2.1, 320, .inl f_3))] := by rw [← e9]; exact hD
    exact K H locs f_3 ls (hP.sub [0, 1] rfl) (hD.sub [0, 1] (by decide) rfl) hS (lv_sub hl [2, 3, 4, 5, 6, 7, 0] rfl)

set_option maxHeartbeats 4000000 in
set_option maxRecDepth 100000 in
theorem mf_it8 {p : Program} (l : Launch) {e : Env} {s : State} {m : MethodId} {below : List Frame} {meth : Method} {c : Code} {Q : State → Prop} (E : EE) {mo m_tape m_readPlace m_script m_scriptLong m_now m_refused m_shareX m_shareY m_askedRow m_kept m_aside m_spelled m_image : Nat} {p0 p1 p2 p3 p4 : Int32} (hx : p.tables.exec = Jvm.exec) (hb : c.code = cX8_feed) (hml : c.maxLocals = 9) (hown : s.vm.findClass RX8 = some m.cls) (hts : ∀ w ∈ v_d_feed, w.before #[Value.ref mo, Value.int p0, Value.int p1, Value.int p2, Value.int p3, Value.int p4] s = true) (hK : va_K E.1 vwCl (TY E) s) (hN : NX s) {A : Nat → Prop} (hA : ∀ q : Nat, s.heap.size ≤ q → A q) (n : Nat) (hn : n < 320)
    (K : ∀ (H : Heap) (locs : List Loc) (f : Nat → Int32) (ls : Array Slot), va_P E.1 vwCl [(mo, .inr (9, [.int 0, .ref m_tape, .int (nI (n + nzN p2 24)), .int 0, .int 0, .int 0, .int 0, .int 0, .long 0, .int 0, .int 0, .int 0, .int 0, .ref m_readPlace, .ref m_script, .ref m_scriptLong, .int 0, .ref m_now, .ref m_refused, .int 0, .ref m_shareX, .ref m_shareY, .int 0, .int 0, .ref m_askedRow, .int 0, .ref m_kept, .int 0, .long 0, .ref m_aside, .int 0, .int 0, .ref m_spelled, .int 0, .ref m_image, .int 0])), (m_tape, .inl (E.2.1, 320, .inl f))] H → va_D A [(mo, .inr (9, [.int 0, .ref m_tape, .int (nI (n + nzN p2 24)), .int 0, .int 0, .int 0, .int 0, .int 0, .long 0, .int 0, .int 0, .int 0, .int 0, .ref m_readPlace, .ref m_script, .ref m_scriptLong, .int 0, .ref m_now, .ref m_refused, .int 0, .ref m_shareX, .ref m_shareY, .int 0, .int 0, .ref m_askedRow, .int 0, .ref m_kept, .int 0, .long 0, .ref m_aside, .int 0, .int 0, .ref m_spelled, .int 0, .ref m_image, .int 0])), (m_tape, .inl (E.2.1, 320, .inl f))] → va_S A s.heap H locs → lv_has ls 9 [(0, .ref mo), (1, .int p0), (2, .int p1), (3, .int p2), (4, .int p3), (5, .int p4), (7, .int 9)] → W p l e ({ frames := 1, cells := 0, slots := 0, locals := 26 } : Room) s m #[Value.ref mo, Value.int p0, Value.int p1, Value.int p2, Value.int p3, Value.int p4] below meth c H locs 0 0 Q (F0 m 62 ls [])) :
    ∀ (H : Heap) (locs : List Loc) (f : Nat → Int32) (ls : Array Slot), va_P E.1 vwCl [(mo, .inr (9, [.int 0, .ref m_tape, .int (nI n), .int 0, .int 0, .int 0, .int 0, .int 0, .long 0, .int 0, .int 0, .int 0, .int 0, .ref m_readPlace, .ref m_script, .ref m_scriptLong, .int 0, .ref m_now, .ref m_refused, .int 0, .ref m_shareX, .ref m_shareY, .int 0, .int 0, .ref m_askedRow, .int 0, .ref m_kept, .int 0, .long 0, .ref m_aside, .int 0, .int 0, .ref m_spelled, .int 0, .ref m_image, .int 0])), (m_tape, .inl (E.2.1, 320, .inl f))] H → va_D A [(mo, .inr (9, [.int 0, .ref m_tape, .int (nI n), .int 0, .int 0, .int 0, .int 0, .int 0, .long 0, .int 0, .int 0, .int 0, .int 0, .ref m_readPlace, .ref m_script, .ref m_scriptLong, .int 0, .ref m_now, .ref m_refused, .int 0, .ref m_shareX, .ref m_shareY, .int 0, .int 0, .ref m_askedRow, .int 0, .ref m_kept, .int 0, .long 0, .ref m_aside, .int 0, .int 0, .ref m_spelled, .int 0, .ref m_image, .int 0])), (m_tape, .inl (E.2.1, 320, .inl f))] → va_S A s.heap H locs → lv_has ls 9 [(0, .ref mo), (1, .int p0), (2, .int p1), (3, .int p2), (4, .int p3), (5, .int p4), (7, .int 8)] → W p l e ({ frames := 1, cells := 0, slots := 0, locals := 26 } : Room) s m #[Value.ref mo, Value.int p0, Value.int p1, Value.int p2, Value.int p3, Value.int p4] below meth c H locs 0 0 Q (F0 m 62 ls []) := by
  intro H locs f ls hP hD hS hl
  refine lv_iload hx hb dX8_feed_62 (lv_at hl 6 rfl) ?_
  refine lv_bipush (v := 20) hx hb dX8_feed_64 (by decide) ?_
  refine lv_icmp_ge (tgt := 115) hx hb dX8_feed_66 (by decide) (fun q => absurd q (by decide)) (fun _ => ?_)
  refine lv_iload_n hx hb dX8_feed_69 rfl (lv_at hl 1 rfl) ?_
  refine lv_iload_n hx hb dX8_feed_70 rfl (lv_at hl 2 rfl) ?_
  refine lv_iload_n hx hb dX8_feed_71 rfl (lv_at hl 3 rfl) ?_
  refine lv_iload hx hb dX8_feed_72 (lv_at hl 4 rfl) ?_
  refine lv_iload hx hb dX8_feed_74 (lv_at hl 5 rfl) ?_
  refine lv_iload hx hb dX8_feed_76 (lv_at hl 6 rfl) ?_
  have hPc : va_P E.1 vwCl [] H := fun k q h => by simp at h
  refine pc_i (va_runS (As := [.int p0, .int p1, .int p2, .int p3, .int p4, .int 8]) (rest := []) ⟨hx, hb, hml, hown, hts⟩ (d_byteOf8 l E p0 p1 p2 p3 p4) (va_cwS 6 hts g_d_feed_d_byteOf8_53 rfl rfl rfl (by decide +kernel) ⟨Nat.le_of_ble_eq_true rfl, Nat.le_of_ble_eq_true rfl⟩) ⟨pP.blind, (pP.pre ⟨hK, hN⟩ hPc)⟩ rfl rfl hl.1 rfl (lv_room (Nat.le_of_ble_eq_true rfl)) dX8_feed_78 ⟨Nat.le_of_ble_eq_true rfl, Nat.le_of_ble_eq_true rfl⟩) (fun r_1 hr_1 => ?_)
  refine lv_istore (lv' := [(8, .int r_1), (0, .ref mo), (1, .int p0), (2, .int p1), (3, .int p2), (4, .int p3), (5, .int p4), (7, .int 8)]) hx hb dX8_feed_81 hl (by decide) rfl (fun ls hl => ?_)
  refine lv_iload hx hb dX8_feed_83 (lv_at hl 0 rfl) ?_
  refine lv_if_eq (tgt := 109) hx hb dX8_feed_85 (by decide) (fun c_2 => ?_) (fun c_2 => ?_)
  ·
    refine lv_iinc (v := 9) (lv' := [(7, .int 9), (8, .int r_1), (0, .ref mo), (1, .int p0), (2, .int p1), (3, .int p2), (4, .int p3), (5, .int p4)]) hx hb dX8_feed_109 hl (k := 7) rfl (by decide) (by decide) rfl (fun ls hl => ?_)
    refine lv_goto (tgt := 62) hx hb dX8_feed_112 (by decide) ?_
    have e8 : nzN p2 24 = 0 := by unfold nzN; rw [← hr_1, if_pos c_2]
    have e9 : n = n + nzN p2 24 := by omega
    have hP : va_P E.1 vwCl [(mo, .inr (9, [.int 0, .ref m_tape, .int (nI (n + nzN p2 24)), .int 0, .int 0, .int 0, .int 0, .int 0, .long 0, .int 0, .int 0, .int 0, .int 0, .ref m_readPlace, .ref m_script, .ref m_scriptLong, .int 0, .ref m_now, .ref m_refused, .int 0, .ref m_shareX, .ref m_shareY, .int 0, .int 0, .ref m_askedRow, .int 0, .ref m_kept, .int 0, .long 0, .ref m_aside, .int 0, .int 0, .ref m_spelled, .int 0, .ref m_image, .int 0])), (m_tape, .inl (E.2.1, 320, .inl f))] H := by rw [← e9]; exact hP
    have hD : va_D A [(mo, .inr (9, [.int 0, .ref m_tape, .int (nI (n + nzN p2 24)), .int 0, .int 0, .int 0, .int 0, .int 0, .long 0, .int 0, .int 0, .int 0, .int 0, .ref m_readPlace, .ref m_script, .ref m_scriptLong, .int 0, .ref m_now, .ref m_refused, .int 0, .ref m_shareX, .ref m_shareY, .int 0, .int 0, .ref m_askedRow, .int 0, .ref m_kept, .int 0, .long 0, .ref m_aside, .int 0, .int 0, .ref m_spelled, .int 0, .ref m_image, .int 0])), (m_tape, .inl (E.2.1, 320, .inl f))] := by rw [← e9]; exact hD
    exact K H locs f ls (hP.sub [0, 1] rfl) (hD.sub [0, 1] (by decide) rfl) hS (lv_sub hl [2, 3, 4, 5, 6, 7, 0] rfl)
  ·
    refine lv_aload_n hx hb dX8_feed_88 rfl (lv_at hl 1 rfl) ?_
    refine va_get (D := E.1) (ci := 9) (v := .ref m_tape) (C := RX8) (T := TX8) (N := 36) hx hb hts i_d_feed_X8 hown hK hP 0 rfl rfl 1 (by decide) (hts (.fieldLink RX8 9 "HushWatchModel" "tape" "[I") (List.mem_of_getElem? (i := 1) rfl)) (fun _ h9 => h9) rfl dX8_feed_89 ?_
    refine lv_aload_n hx hb dX8_feed_92 rfl (lv_at hl 1 rfl) ?_
    refine va_get (D := E.1) (ci := 9) (v := .int (nI n)) (C := RX8) (T := TX8) (N := 36) hx hb hts i_d_feed_X8 hown hK hP 0 rfl rfl 2 (by decide) (hts (.fieldLink RX8 57 "HushWatchModel" "taped" "I") (List.mem_of_getElem? (i := 2) rfl)) (fun _ h9 => h9) rfl dX8_feed_93 ?_
    refine lv_iload hx hb dX8_feed_96 (lv_at hl 0 rfl) ?_
    refine va_iast hx hb hK hP hD hS 1 0 rfl rfl (vp_in_nI (by omega) (by decide)) dX8_feed_98 (fun H locs hP hD hS => ?_)
    have hP : va_P E.1 vwCl [(mo, .inr (9, [.int 0, .ref m_tape, .int (nI n), .int 0, .int 0, .int 0, .int 0, .int 0, .long 0, .int 0, .int 0, .int 0, .int 0, .ref m_readPlace, .ref m_script, .ref m_scriptLong, .int 0, .ref m_now, .ref m_refused, .int 0, .ref m_shareX, .ref m_shareY, .int 0, .int 0, .ref m_askedRow, .int 0, .ref m_kept, .int 0, .long 0, .ref m_aside, .int 0, .int 0, .ref m_spelled, .int 0, .ref m_image, .int 0])), (m_tape, .inl (E.2.1, 320, .inl (upd f (nI n : Int32).toNatClampNeg r_1)))] H := hP
    have hD : va_D A [(mo, .inr (9, [.int 0, .ref m_tape, .int (nI n), .int 0, .int 0, .int 0, .int 0, .int 0, .long 0, .int 0, .int 0, .int 0, .int 0, .ref m_readPlace, .ref m_script, .ref m_scriptLong, .int 0, .ref m_now, .ref m_refused, .int 0, .ref m_shareX, .ref m_shareY, .int 0, .int 0, .ref m_askedRow, .int 0, .ref m_kept, .int 0, .long 0, .ref m_aside, .int 0, .int 0, .ref m_spelled, .int 0, .ref m_image, .int 0])), (m_tape, .inl (E.2.1, 320, .inl (upd f (nI n : Int32).toNatClampNeg r_1)))] := hD
    generalize upd f (nI n : Int32).toNatClampNeg r_1 = f_3 at hP hD
    refine lv_aload_n hx hb dX8_feed_99 rfl (lv_at hl 1 rfl) ?_
    refine lv_dup hx hb dX8_feed_100 rfl ?_
    refine va_get (D := E.1) (ci := 9) (v := .int (nI n)) (C := RX8) (T := TX8) (N := 36) hx hb hts i_d_feed_X8 hown hK hP 0 rfl rfl 2 (by decide) (hts (.fieldLink RX8 57 "HushWatchModel" "taped" "I") (List.mem_of_getElem? (i := 2) rfl)) (fun _ h9 => h9) rfl dX8_feed_101 ?_
    refine lv_iconst (v := 1) hx hb dX8_feed_104 (by decide) ?_
    refine lv_iadd hx hb dX8_feed_105 ?_
    refine lv_topi (fun z_4 ez_4 => ?_)
    obtain rfl : z_4 = nI (n + 1) := ez_4.trans (nI_add _ 1)
    refine va_put (D := E.1) (ci := 9) (v := .int (nI (n + 1))) (ty := .int) (C := RX8) (T := TX8) (N := 36) hx hb hts i_d_feed_X8 tyX8 tyX8_ok nmX8 hown hK hP hD hS 0 rfl rfl 2 (by decide) (hts (.fieldLink RX8 57 "HushWatchModel" "taped" "I") (List.mem_of_getElem? (i := 2) rfl)) (fun _ h9 => h9) rfl (by decide +kernel) rfl rfl (Nat.le_of_ble_eq_true rfl) dX8_feed_106 (fun H locs hP hD hS => ?_)
    have hP : va_P E.1 vwCl [(mo, .inr (9, [.int 0, .ref m_tape, .int (nI (n + 1)), .int 0, .int 0, .int 0, .int 0, .int 0, .long 0, .int 0, .int 0, .int 0, .int 0, .ref m_readPlace, .ref m_script, .ref m_scriptLong, .int 0, .ref m_now, .ref m_refused, .int 0, .ref m_shareX, .ref m_shareY, .int 0, .int 0, .ref m_askedRow, .int 0, .ref m_kept, .int 0, .long 0, .ref m_aside, .int 0, .int 0, .ref m_spelled, .int 0, .ref m_image, .int 0])), (m_tape, .inl (E.2.1, 320, .inl f_3))] H := hP
    have hD : va_D A [(mo, .inr (9, [.int 0, .ref m_tape, .int (nI (n + 1)), .int 0, .int 0, .int 0, .int 0, .int 0, .long 0, .int 0, .int 0, .int 0, .int 0, .ref m_readPlace, .ref m_script, .ref m_scriptLong, .int 0, .ref m_now, .ref m_refused, .int 0, .ref m_shareX, .ref m_shareY, .int 0, .int 0, .ref m_askedRow, .int 0, .ref m_kept, .int 0, .long 0, .ref m_aside, .int 0, .int 0, .ref m_spelled, .int 0, .ref m_image, .int 0])), (m_tape, .inl (E.2.1, 320, .inl f_3))] := hD
    refine lv_iinc (v := 9) (lv' := [(7, .int 9), (8, .int r_1), (0, .ref mo), (1, .int p0), (2, .int p1), (3, .int p2), (4, .int p3), (5, .int p4)]) hx hb dX8_feed_109 hl (k := 7) rfl (by decide) (by decide) rfl (fun ls hl => ?_)
    refine lv_goto (tgt := 62) hx hb dX8_feed_112 (by decide) ?_
    have e8 : nzN p2 24 = 1 := by unfold nzN; rw [← hr_1, if_neg c_2]
    have e9 : n + 1 = n + nzN p2 24 := by omega
    have hP : va_P E.1 vwCl [(mo, .inr (9, [.int 0, .ref m_tape, .int (nI (n + nzN p2 24)), .int 0, .int 0, .int 0, .int 0, .int 0, .long 0, .int 0, .int 0, .int 0, .int 0, .ref m_readPlace, .ref m_script, .ref m_scriptLong, .int 0, .ref m_now, .ref m_refused, .int 0, .ref m_shareX, .ref m_shareY, .int 0, .int 0, .ref m_askedRow, .int 0, .ref m_kept, .int 0, .long 0, .ref m_aside, .int 0, .int 0, .ref m_spelled, .int 0, .ref m_image, .int 0])), (m_tape, .inl (E.2.1, 320, .inl f_3))] H := by rw [← e9]; exact hP
    have hD : va_D A [(mo, .inr (9, [.int 0, .ref m_tape, .int (nI (n + nzN p2 24)), .int 0, .int 0, .int 0, .int 0, .int 0, .long 0, .int 0, .int 0, .int 0, .int 0, .ref m_readPlace, .ref m_script, .ref m_scriptLong, .int 0, .ref m_now, .ref m_refused, .int 0, .ref m_shareX, .ref m_shareY, .int 0, .int 0, .ref m_askedRow, .int 0, .ref m_kept, .int 0, .long 0, .ref m_aside, .int 0, .int 0, .ref m_spelled, .int 0, .ref m_image, .int 0])), (m_tape, .inl (E.2.1, 320, .inl f_3))] := by rw [← e9]; exact hD
    exact K H locs f_3 ls (hP.sub [0, 1] rfl) (hD.sub [0, 1] (by decide) rfl) hS (lv_sub hl [2, 3, 4, 5, 6, 7, 0] rfl)

set_option maxHeartbeats 4000000 in
set_option maxRecDepth 100000 in
theorem mf_it9 {p : Program} (l : Launch) {e : Env} {s : State} {m : MethodId} {below : List Frame} {meth : Method} {c : Code} {Q : State → Prop} (E : EE) {mo m_tape m_readPlace m_script m_scriptLong m_now m_refused m_shareX m_shareY m_askedRow m_kept m_aside m_spelled m_image : Nat} {p0 p1 p2 p3 p4 : Int32} (hx : p.tables.exec = Jvm.exec) (hb : c.code = cX8_feed) (hml : c.maxLocals = 9) (hown : s.vm.findClass RX8 = some m.cls) (hts : ∀ w ∈ v_d_feed, w.before #[Value.ref mo, Value.int p0, Value.int p1, Value.int p2, Value.int p3, Value.int p4] s = true) (hK : va_K E.1 vwCl (TY E) s) (hN : NX s) {A : Nat → Prop} (hA : ∀ q : Nat, s.heap.size ≤ q → A q) (n : Nat) (hn : n < 320)
    (K : ∀ (H : Heap) (locs : List Loc) (f : Nat → Int32) (ls : Array Slot), va_P E.1 vwCl [(mo, .inr (9, [.int 0, .ref m_tape, .int (nI (n + nzN p2 16)), .int 0, .int 0, .int 0, .int 0, .int 0, .long 0, .int 0, .int 0, .int 0, .int 0, .ref m_readPlace, .ref m_script, .ref m_scriptLong, .int 0, .ref m_now, .ref m_refused, .int 0, .ref m_shareX, .ref m_shareY, .int 0, .int 0, .ref m_askedRow, .int 0, .ref m_kept, .int 0, .long 0, .ref m_aside, .int 0, .int 0, .ref m_spelled, .int 0, .ref m_image, .int 0])), (m_tape, .inl (E.2.1, 320, .inl f))] H → va_D A [(mo, .inr (9, [.int 0, .ref m_tape, .int (nI (n + nzN p2 16)), .int 0, .int 0, .int 0, .int 0, .int 0, .long 0, .int 0, .int 0, .int 0, .int 0, .ref m_readPlace, .ref m_script, .ref m_scriptLong, .int 0, .ref m_now, .ref m_refused, .int 0, .ref m_shareX, .ref m_shareY, .int 0, .int 0, .ref m_askedRow, .int 0, .ref m_kept, .int 0, .long 0, .ref m_aside, .int 0, .int 0, .ref m_spelled, .int 0, .ref m_image, .int 0])), (m_tape, .inl (E.2.1, 320, .inl f))] → va_S A s.heap H locs → lv_has ls 9 [(0, .ref mo), (1, .int p0), (2, .int p1), (3, .int p2), (4, .int p3), (5, .int p4), (7, .int 10)] → W p l e ({ frames := 1, cells := 0, slots := 0, locals := 26 } : Room) s m #[Value.ref mo, Value.int p0, Value.int p1, Value.int p2, Value.int p3, Value.int p4] below meth c H locs 0 0 Q (F0 m 62 ls [])) :
    ∀ (H : Heap) (locs : List Loc) (f : Nat → Int32) (ls : Array Slot), va_P E.1 vwCl [(mo, .inr (9, [.int 0, .ref m_tape, .int (nI n), .int 0, .int 0, .int 0, .int 0, .int 0, .long 0, .int 0, .int 0, .int 0, .int 0, .ref m_readPlace, .ref m_script, .ref m_scriptLong, .int 0, .ref m_now, .ref m_refused, .int 0, .ref m_shareX, .ref m_shareY, .int 0, .int 0, .ref m_askedRow, .int 0, .ref m_kept, .int 0, .long 0, .ref m_aside, .int 0, .int 0, .ref m_spelled, .int 0, .ref m_image, .int 0])), (m_tape, .inl (E.2.1, 320, .inl f))] H → va_D A [(mo, .inr (9, [.int 0, .ref m_tape, .int (nI n), .int 0, .int 0, .int 0, .int 0, .int 0, .long 0, .int 0, .int 0, .int 0, .int 0, .ref m_readPlace, .ref m_script, .ref m_scriptLong, .int 0, .ref m_now, .ref m_refused, .int 0, .ref m_shareX, .ref m_shareY, .int 0, .int 0, .ref m_askedRow, .int 0, .ref m_kept, .int 0, .long 0, .ref m_aside, .int 0, .int 0, .ref m_spelled, .int 0, .ref m_image, .int 0])), (m_tape, .inl (E.2.1, 320, .inl f))] → va_S A s.heap H locs → lv_has ls 9 [(0, .ref mo), (1, .int p0), (2, .int p1), (3, .int p2), (4, .int p3), (5, .int p4), (7, .int 9)] → W p l e ({ frames := 1, cells := 0, slots := 0, locals := 26 } : Room) s m #[Value.ref mo, Value.int p0, Value.int p1, Value.int p2, Value.int p3, Value.int p4] below meth c H locs 0 0 Q (F0 m 62 ls []) := by
  intro H locs f ls hP hD hS hl
  refine lv_iload hx hb dX8_feed_62 (lv_at hl 6 rfl) ?_
  refine lv_bipush (v := 20) hx hb dX8_feed_64 (by decide) ?_
  refine lv_icmp_ge (tgt := 115) hx hb dX8_feed_66 (by decide) (fun q => absurd q (by decide)) (fun _ => ?_)
  refine lv_iload_n hx hb dX8_feed_69 rfl (lv_at hl 1 rfl) ?_
  refine lv_iload_n hx hb dX8_feed_70 rfl (lv_at hl 2 rfl) ?_
  refine lv_iload_n hx hb dX8_feed_71 rfl (lv_at hl 3 rfl) ?_
  refine lv_iload hx hb dX8_feed_72 (lv_at hl 4 rfl) ?_
  refine lv_iload hx hb dX8_feed_74 (lv_at hl 5 rfl) ?_
  refine lv_iload hx hb dX8_feed_76 (lv_at hl 6 rfl) ?_
  have hPc : va_P E.1 vwCl [] H := fun k q h => by simp at h
  refine pc_i (va_runS (As := [.int p0, .int p1, .int p2, .int p3, .int p4, .int 9]) (rest := []) ⟨hx, hb, hml, hown, hts⟩ (d_byteOf9 l E p0 p1 p2 p3 p4) (va_cwS 6 hts g_d_feed_d_byteOf9_53 rfl rfl rfl (by decide +kernel) ⟨Nat.le_of_ble_eq_true rfl, Nat.le_of_ble_eq_true rfl⟩) ⟨pP.blind, (pP.pre ⟨hK, hN⟩ hPc)⟩ rfl rfl hl.1 rfl (lv_room (Nat.le_of_ble_eq_true rfl)) dX8_feed_78 ⟨Nat.le_of_ble_eq_true rfl, Nat.le_of_ble_eq_true rfl⟩) (fun r_1 hr_1 => ?_)
  refine lv_istore (lv' := [(8, .int r_1), (0, .ref mo), (1, .int p0), (2, .int p1), (3, .int p2), (4, .int p3), (5, .int p4), (7, .int 9)]) hx hb dX8_feed_81 hl (by decide) rfl (fun ls hl => ?_)
  refine lv_iload hx hb dX8_feed_83 (lv_at hl 0 rfl) ?_
  refine lv_if_eq (tgt := 109) hx hb dX8_feed_85 (by decide) (fun c_2 => ?_) (fun c_2 => ?_)
  ·
    refine lv_iinc (v := 10) (lv' := [(7, .int 10), (8, .int r_1), (0, .ref mo), (1, .int p0), (2, .int p1), (3, .int p2), (4, .int p3), (5, .int p4)]) hx hb dX8_feed_109 hl (k := 7) rfl (by decide) (by decide) rfl (fun ls hl => ?_)
    refine lv_goto (tgt := 62) hx hb dX8_feed_112 (by decide) ?_
    have e8 : nzN p2 16 = 0 := by unfold nzN; rw [← hr_1, if_pos c_2]
    have e9 : n = n + nzN p2 16 := by omega
    have hP : va_P E.1 vwCl [(mo, .inr (9, [.int 0, .ref m_tape, .int (nI (n + nzN p2 16)), .int 0, .int 0, .int 0, .int 0, .int 0, .long 0, .int 0, .int 0, .int 0, .int 0, .ref m_readPlace, .ref m_script, .ref m_scriptLong, .int 0, .ref m_now, .ref m_refused, .int 0, .ref m_shareX, .ref m_shareY, .int 0, .int 0, .ref m_askedRow, .int 0, .ref m_kept, .int 0, .long 0, .ref m_aside, .int 0, .int 0, .ref m_spelled, .int 0, .ref m_image, .int 0])), (m_tape, .inl (E.2.1, 320, .inl f))] H := by rw [← e9]; exact hP
    have hD : va_D A [(mo, .inr (9, [.int 0, .ref m_tape, .int (nI (n + nzN p2 16)), .int 0, .int 0, .int 0, .int 0, .int 0, .long 0, .int 0, .int 0, .int 0, .int 0, .ref m_readPlace, .ref m_script, .ref m_scriptLong, .int 0, .ref m_now, .ref m_refused, .int 0, .ref m_shareX, .ref m_shareY, .int 0, .int 0, .ref m_askedRow, .int 0, .ref m_kept, .int 0, .long 0, .ref m_aside, .int 0, .int 0, .ref m_spelled, .int 0, .ref m_image, .int 0])), (m_tape, .inl (E.2.1, 320, .inl f))] := by rw [← e9]; exact hD
    exact K H locs f ls (hP.sub [0, 1] rfl) (hD.sub [0, 1] (by decide) rfl) hS (lv_sub hl [2, 3, 4, 5, 6, 7, 0] rfl)
  ·
    refine lv_aload_n hx hb dX8_feed_88 rfl (lv_at hl 1 rfl) ?_
    refine va_get (D := E.1) (ci := 9) (v := .ref m_tape) (C := RX8) (T := TX8) (N := 36) hx hb hts i_d_feed_X8 hown hK hP 0 rfl rfl 1 (by decide) (hts (.fieldLink RX8 9 "HushWatchModel" "tape" "[I") (List.mem_of_getElem? (i := 1) rfl)) (fun _ h9 => h9) rfl dX8_feed_89 ?_
    refine lv_aload_n hx hb dX8_feed_92 rfl (lv_at hl 1 rfl) ?_
    refine va_get (D := E.1) (ci := 9) (v := .int (nI n)) (C := RX8) (T := TX8) (N := 36) hx hb hts i_d_feed_X8 hown hK hP 0 rfl rfl 2 (by decide) (hts (.fieldLink RX8 57 "HushWatchModel" "taped" "I") (List.mem_of_getElem? (i := 2) rfl)) (fun _ h9 => h9) rfl dX8_feed_93 ?_
    refine lv_iload hx hb dX8_feed_96 (lv_at hl 0 rfl) ?_
    refine va_iast hx hb hK hP hD hS 1 0 rfl rfl (vp_in_nI (by omega) (by decide)) dX8_feed_98 (fun H locs hP hD hS => ?_)
    have hP : va_P E.1 vwCl [(mo, .inr (9, [.int 0, .ref m_tape, .int (nI n), .int 0, .int 0, .int 0, .int 0, .int 0, .long 0, .int 0, .int 0, .int 0, .int 0, .ref m_readPlace, .ref m_script, .ref m_scriptLong, .int 0, .ref m_now, .ref m_refused, .int 0, .ref m_shareX, .ref m_shareY, .int 0, .int 0, .ref m_askedRow, .int 0, .ref m_kept, .int 0, .long 0, .ref m_aside, .int 0, .int 0, .ref m_spelled, .int 0, .ref m_image, .int 0])), (m_tape, .inl (E.2.1, 320, .inl (upd f (nI n : Int32).toNatClampNeg r_1)))] H := hP
    have hD : va_D A [(mo, .inr (9, [.int 0, .ref m_tape, .int (nI n), .int 0, .int 0, .int 0, .int 0, .int 0, .long 0, .int 0, .int 0, .int 0, .int 0, .ref m_readPlace, .ref m_script, .ref m_scriptLong, .int 0, .ref m_now, .ref m_refused, .int 0, .ref m_shareX, .ref m_shareY, .int 0, .int 0, .ref m_askedRow, .int 0, .ref m_kept, .int 0, .long 0, .ref m_aside, .int 0, .int 0, .ref m_spelled, .int 0, .ref m_image, .int 0])), (m_tape, .inl (E.2.1, 320, .inl (upd f (nI n : Int32).toNatClampNeg r_1)))] := hD
    generalize upd f (nI n : Int32).toNatClampNeg r_1 = f_3 at hP hD
    refine lv_aload_n hx hb dX8_feed_99 rfl (lv_at hl 1 rfl) ?_
    refine lv_dup hx hb dX8_feed_100 rfl ?_
    refine va_get (D := E.1) (ci := 9) (v := .int (nI n)) (C := RX8) (T := TX8) (N := 36) hx hb hts i_d_feed_X8 hown hK hP 0 rfl rfl 2 (by decide) (hts (.fieldLink RX8 57 "HushWatchModel" "taped" "I") (List.mem_of_getElem? (i := 2) rfl)) (fun _ h9 => h9) rfl dX8_feed_101 ?_
    refine lv_iconst (v := 1) hx hb dX8_feed_104 (by decide) ?_
    refine lv_iadd hx hb dX8_feed_105 ?_
    refine lv_topi (fun z_4 ez_4 => ?_)
    obtain rfl : z_4 = nI (n + 1) := ez_4.trans (nI_add _ 1)
    refine va_put (D := E.1) (ci := 9) (v := .int (nI (n + 1))) (ty := .int) (C := RX8) (T := TX8) (N := 36) hx hb hts i_d_feed_X8 tyX8 tyX8_ok nmX8 hown hK hP hD hS 0 rfl rfl 2 (by decide) (hts (.fieldLink RX8 57 "HushWatchModel" "taped" "I") (List.mem_of_getElem? (i := 2) rfl)) (fun _ h9 => h9) rfl (by decide +kernel) rfl rfl (Nat.le_of_ble_eq_true rfl) dX8_feed_106 (fun H locs hP hD hS => ?_)
    have hP : va_P E.1 vwCl [(mo, .inr (9, [.int 0, .ref m_tape, .int (nI (n + 1)), .int 0, .int 0, .int 0, .int 0, .int 0, .long 0, .int 0, .int 0, .int 0, .int 0, .ref m_readPlace, .ref m_script, .ref m_scriptLong, .int 0, .ref m_now, .ref m_refused, .int 0, .ref m_shareX, .ref m_shareY, .int 0, .int 0, .ref m_askedRow, .int 0, .ref m_kept, .int 0, .long 0, .ref m_aside, .int 0, .int 0, .ref m_spelled, .int 0, .ref m_image, .int 0])), (m_tape, .inl (E.2.1, 320, .inl f_3))] H := hP
    have hD : va_D A [(mo, .inr (9, [.int 0, .ref m_tape, .int (nI (n + 1)), .int 0, .int 0, .int 0, .int 0, .int 0, .long 0, .int 0, .int 0, .int 0, .int 0, .ref m_readPlace, .ref m_script, .ref m_scriptLong, .int 0, .ref m_now, .ref m_refused, .int 0, .ref m_shareX, .ref m_shareY, .int 0, .int 0, .ref m_askedRow, .int 0, .ref m_kept, .int 0, .long 0, .ref m_aside, .int 0, .int 0, .ref m_spelled, .int 0, .ref m_image, .int 0])), (m_tape, .inl (E.2.1, 320, .inl f_3))] := hD
    refine lv_iinc (v := 10) (lv' := [(7, .int 10), (8, .int r_1), (0, .ref mo), (1, .int p0), (2, .int p1), (3, .int p2), (4, .int p3), (5, .int p4)]) hx hb dX8_feed_109 hl (k := 7) rfl (by decide) (by decide) rfl (fun ls hl => ?_)
    refine lv_goto (tgt := 62) hx hb dX8_feed_112 (by decide) ?_
    have e8 : nzN p2 16 = 1 := by unfold nzN; rw [← hr_1, if_neg c_2]
    have e9 : n + 1 = n + nzN p2 16 := by omega
    have hP : va_P E.1 vwCl [(mo, .inr (9, [.int 0, .ref m_tape, .int (nI (n + nzN p2 16)), .int 0, .int 0, .int 0, .int 0, .int 0, .long 0, .int 0, .int 0, .int 0, .int 0, .ref m_readPlace, .ref m_script, .ref m_scriptLong, .int 0, .ref m_now, .ref m_refused, .int 0, .ref m_shareX, .ref m_shareY, .int 0, .int 0, .ref m_askedRow, .int 0, .ref m_kept, .int 0, .long 0, .ref m_aside, .int 0, .int 0, .ref m_spelled, .int 0, .ref m_image, .int 0])), (m_tape, .inl (E.2.1, 320, .inl f_3))] H := by rw [← e9]; exact hP
    have hD : va_D A [(mo, .inr (9, [.int 0, .ref m_tape, .int (nI (n + nzN p2 16)), .int 0, .int 0, .int 0, .int 0, .int 0, .long 0, .int 0, .int 0, .int 0, .int 0, .ref m_readPlace, .ref m_script, .ref m_scriptLong, .int 0, .ref m_now, .ref m_refused, .int 0, .ref m_shareX, .ref m_shareY, .int 0, .int 0, .ref m_askedRow, .int 0, .ref m_kept, .int 0, .long 0, .ref m_aside, .int 0, .int 0, .ref m_spelled, .int 0, .ref m_image, .int 0])), (m_tape, .inl (E.2.1, 320, .inl f_3))] := by rw [← e9]; exact hD
    exact K H locs f_3 ls (hP.sub [0, 1] rfl) (hD.sub [0, 1] (by decide) rfl) hS (lv_sub hl [2, 3, 4, 5, 6, 7, 0] rfl)

set_option maxHeartbeats 4000000 in
set_option maxRecDepth 100000 in
theorem mf_it10 {p : Program} (l : Launch) {e : Env} {s : State} {m : MethodId} {below : List Frame} {meth : Method} {c : Code} {Q : State → Prop} (E : EE) {mo m_tape m_readPlace m_script m_scriptLong m_now m_refused m_shareX m_shareY m_askedRow m_kept m_aside m_spelled m_image : Nat} {p0 p1 p2 p3 p4 : Int32} (hx : p.tables.exec = Jvm.exec) (hb : c.code = cX8_feed) (hml : c.maxLocals = 9) (hown : s.vm.findClass RX8 = some m.cls) (hts : ∀ w ∈ v_d_feed, w.before #[Value.ref mo, Value.int p0, Value.int p1, Value.int p2, Value.int p3, Value.int p4] s = true) (hK : va_K E.1 vwCl (TY E) s) (hN : NX s) {A : Nat → Prop} (hA : ∀ q : Nat, s.heap.size ≤ q → A q) (n : Nat) (hn : n < 320)
    (K : ∀ (H : Heap) (locs : List Loc) (f : Nat → Int32) (ls : Array Slot), va_P E.1 vwCl [(mo, .inr (9, [.int 0, .ref m_tape, .int (nI (n + nzN p2 8)), .int 0, .int 0, .int 0, .int 0, .int 0, .long 0, .int 0, .int 0, .int 0, .int 0, .ref m_readPlace, .ref m_script, .ref m_scriptLong, .int 0, .ref m_now, .ref m_refused, .int 0, .ref m_shareX, .ref m_shareY, .int 0, .int 0, .ref m_askedRow, .int 0, .ref m_kept, .int 0, .long 0, .ref m_aside, .int 0, .int 0, .ref m_spelled, .int 0, .ref m_image, .int 0])), (m_tape, .inl (E.2.1, 320, .inl f))] H → va_D A [(mo, .inr (9, [.int 0, .ref m_tape, .int (nI (n + nzN p2 8)), .int 0, .int 0, .int 0, .int 0, .int 0, .long 0, .int 0, .int 0, .int 0, .int 0, .ref m_readPlace, .ref m_script, .ref m_scriptLong, .int 0, .ref m_now, .ref m_refused, .int 0, .ref m_shareX, .ref m_shareY, .int 0, .int 0, .ref m_askedRow, .int 0, .ref m_kept, .int 0, .long 0, .ref m_aside, .int 0, .int 0, .ref m_spelled, .int 0, .ref m_image, .int 0])), (m_tape, .inl (E.2.1, 320, .inl f))] → va_S A s.heap H locs → lv_has ls 9 [(0, .ref mo), (1, .int p0), (2, .int p1), (3, .int p2), (4, .int p3), (5, .int p4), (7, .int 11)] → W p l e ({ frames := 1, cells := 0, slots := 0, locals := 26 } : Room) s m #[Value.ref mo, Value.int p0, Value.int p1, Value.int p2, Value.int p3, Value.int p4] below meth c H locs 0 0 Q (F0 m 62 ls [])) :
    ∀ (H : Heap) (locs : List Loc) (f : Nat → Int32) (ls : Array Slot), va_P E.1 vwCl [(mo, .inr (9, [.int 0, .ref m_tape, .int (nI n), .int 0, .int 0, .int 0, .int 0, .int 0, .long 0, .int 0, .int 0, .int 0, .int 0, .ref m_readPlace, .ref m_script, .ref m_scriptLong, .int 0, .ref m_now, .ref m_refused, .int 0, .ref m_shareX, .ref m_shareY, .int 0, .int 0, .ref m_askedRow, .int 0, .ref m_kept, .int 0, .long 0, .ref m_aside, .int 0, .int 0, .ref m_spelled, .int 0, .ref m_image, .int 0])), (m_tape, .inl (E.2.1, 320, .inl f))] H → va_D A [(mo, .inr (9, [.int 0, .ref m_tape, .int (nI n), .int 0, .int 0, .int 0, .int 0, .int 0, .long 0, .int 0, .int 0, .int 0, .int 0, .ref m_readPlace, .ref m_script, .ref m_scriptLong, .int 0, .ref m_now, .ref m_refused, .int 0, .ref m_shareX, .ref m_shareY, .int 0, .int 0, .ref m_askedRow, .int 0, .ref m_kept, .int 0, .long 0, .ref m_aside, .int 0, .int 0, .ref m_spelled, .int 0, .ref m_image, .int 0])), (m_tape, .inl (E.2.1, 320, .inl f))] → va_S A s.heap H locs → lv_has ls 9 [(0, .ref mo), (1, .int p0), (2, .int p1), (3, .int p2), (4, .int p3), (5, .int p4), (7, .int 10)] → W p l e ({ frames := 1, cells := 0, slots := 0, locals := 26 } : Room) s m #[Value.ref mo, Value.int p0, Value.int p1, Value.int p2, Value.int p3, Value.int p4] below meth c H locs 0 0 Q (F0 m 62 ls []) := by
  intro H locs f ls hP hD hS hl
  refine lv_iload hx hb dX8_feed_62 (lv_at hl 6 rfl) ?_
  refine lv_bipush (v := 20) hx hb dX8_feed_64 (by decide) ?_
  refine lv_icmp_ge (tgt := 115) hx hb dX8_feed_66 (by decide) (fun q => absurd q (by decide)) (fun _ => ?_)
  refine lv_iload_n hx hb dX8_feed_69 rfl (lv_at hl 1 rfl) ?_
  refine lv_iload_n hx hb dX8_feed_70 rfl (lv_at hl 2 rfl) ?_
  refine lv_iload_n hx hb dX8_feed_71 rfl (lv_at hl 3 rfl) ?_
  refine lv_iload hx hb dX8_feed_72 (lv_at hl 4 rfl) ?_
  refine lv_iload hx hb dX8_feed_74 (lv_at hl 5 rfl) ?_
  refine lv_iload hx hb dX8_feed_76 (lv_at hl 6 rfl) ?_
  have hPc : va_P E.1 vwCl [] H := fun k q h => by simp at h
  refine pc_i (va_runS (As := [.int p0, .int p1, .int p2, .int p3, .int p4, .int 10]) (rest := []) ⟨hx, hb, hml, hown, hts⟩ (d_byteOf10 l E p0 p1 p2 p3 p4) (va_cwS 6 hts g_d_feed_d_byteOf10_53 rfl rfl rfl (by decide +kernel) ⟨Nat.le_of_ble_eq_true rfl, Nat.le_of_ble_eq_true rfl⟩) ⟨pP.blind, (pP.pre ⟨hK, hN⟩ hPc)⟩ rfl rfl hl.1 rfl (lv_room (Nat.le_of_ble_eq_true rfl)) dX8_feed_78 ⟨Nat.le_of_ble_eq_true rfl, Nat.le_of_ble_eq_true rfl⟩) (fun r_1 hr_1 => ?_)
  refine lv_istore (lv' := [(8, .int r_1), (0, .ref mo), (1, .int p0), (2, .int p1), (3, .int p2), (4, .int p3), (5, .int p4), (7, .int 10)]) hx hb dX8_feed_81 hl (by decide) rfl (fun ls hl => ?_)
  refine lv_iload hx hb dX8_feed_83 (lv_at hl 0 rfl) ?_
  refine lv_if_eq (tgt := 109) hx hb dX8_feed_85 (by decide) (fun c_2 => ?_) (fun c_2 => ?_)
  ·
    refine lv_iinc (v := 11) (lv' := [(7, .int 11), (8, .int r_1), (0, .ref mo), (1, .int p0), (2, .int p1), (3, .int p2), (4, .int p3), (5, .int p4)]) hx hb dX8_feed_109 hl (k := 7) rfl (by decide) (by decide) rfl (fun ls hl => ?_)
    refine lv_goto (tgt := 62) hx hb dX8_feed_112 (by decide) ?_
    have e8 : nzN p2 8 = 0 := by unfold nzN; rw [← hr_1, if_pos c_2]
    have e9 : n = n + nzN p2 8 := by omega
    have hP : va_P E.1 vwCl [(mo, .inr (9, [.int 0, .ref m_tape, .int (nI (n + nzN p2 8)), .int 0, .int 0, .int 0, .int 0, .int 0, .long 0, .int 0, .int 0, .int 0, .int 0, .ref m_readPlace, .ref m_script, .ref m_scriptLong, .int 0, .ref m_now, .ref m_refused, .int 0, .ref m_shareX, .ref m_shareY, .int 0, .int 0, .ref m_askedRow, .int 0, .ref m_kept, .int 0, .long 0, .ref m_aside, .int 0, .int 0, .ref m_spelled, .int 0, .ref m_image, .int 0])), (m_tape, .inl (E.2.1, 320, .inl f))] H := by rw [← e9]; exact hP
    have hD : va_D A [(mo, .inr (9, [.int 0, .ref m_tape, .int (nI (n + nzN p2 8)), .int 0, .int 0, .int 0, .int 0, .int 0, .long 0, .int 0, .int 0, .int 0, .int 0, .ref m_readPlace, .ref m_script, .ref m_scriptLong, .int 0, .ref m_now, .ref m_refused, .int 0, .ref m_shareX, .ref m_shareY, .int 0, .int 0, .ref m_askedRow, .int 0, .ref m_kept, .int 0, .long 0, .ref m_aside, .int 0, .int 0, .ref m_spelled, .int 0, .ref m_image, .int 0])), (m_tape, .inl (E.2.1, 320, .inl f))] := by rw [← e9]; exact hD
    exact K H locs f ls (hP.sub [0, 1] rfl) (hD.sub [0, 1] (by decide) rfl) hS (lv_sub hl [2, 3, 4, 5, 6, 7, 0] rfl)
  ·
    refine lv_aload_n hx hb dX8_feed_88 rfl (lv_at hl 1 rfl) ?_
    refine va_get (D := E.1) (ci := 9) (v := .ref m_tape) (C := RX8) (T := TX8) (N := 36) hx hb hts i_d_feed_X8 hown hK hP 0 rfl rfl 1 (by decide) (hts (.fieldLink RX8 9 "HushWatchModel" "tape" "[I") (List.mem_of_getElem? (i := 1) rfl)) (fun _ h9 => h9) rfl dX8_feed_89 ?_
    refine lv_aload_n hx hb dX8_feed_92 rfl (lv_at hl 1 rfl) ?_
    refine va_get (D := E.1) (ci := 9) (v := .int (nI n)) (C := RX8) (T := TX8) (N := 36) hx hb hts i_d_feed_X8 hown hK hP 0 rfl rfl 2 (by decide) (hts (.fieldLink RX8 57 "HushWatchModel" "taped" "I") (List.mem_of_getElem? (i := 2) rfl)) (fun _ h9 => h9) rfl dX8_feed_93 ?_
    refine lv_iload hx hb dX8_feed_96 (lv_at hl 0 rfl) ?_
    refine va_iast hx hb hK hP hD hS 1 0 rfl rfl (vp_in_nI (by omega) (by decide)) dX8_feed_98 (fun H locs hP hD hS => ?_)
    have hP : va_P E.1 vwCl [(mo, .inr (9, [.int 0, .ref m_tape, .int (nI n), .int 0, .int 0, .int 0, .int 0, .int 0, .long 0, .int 0, .int 0, .int 0, .int 0, .ref m_readPlace, .ref m_script, .ref m_scriptLong, .int 0, .ref m_now, .ref m_refused, .int 0, .ref m_shareX, .ref m_shareY, .int 0, .int 0, .ref m_askedRow, .int 0, .ref m_kept, .int 0, .long 0, .ref m_aside, .int 0, .int 0, .ref m_spelled, .int 0, .ref m_image, .int 0])), (m_tape, .inl (E.2.1, 320, .inl (upd f (nI n : Int32).toNatClampNeg r_1)))] H := hP
    have hD : va_D A [(mo, .inr (9, [.int 0, .ref m_tape, .int (nI n), .int 0, .int 0, .int 0, .int 0, .int 0, .long 0, .int 0, .int 0, .int 0, .int 0, .ref m_readPlace, .ref m_script, .ref m_scriptLong, .int 0, .ref m_now, .ref m_refused, .int 0, .ref m_shareX, .ref m_shareY, .int 0, .int 0, .ref m_askedRow, .int 0, .ref m_kept, .int 0, .long 0, .ref m_aside, .int 0, .int 0, .ref m_spelled, .int 0, .ref m_image, .int 0])), (m_tape, .inl (E.2.1, 320, .inl (upd f (nI n : Int32).toNatClampNeg r_1)))] := hD
    generalize upd f (nI n : Int32).toNatClampNeg r_1 = f_3 at hP hD
    refine lv_aload_n hx hb dX8_feed_99 rfl (lv_at hl 1 rfl) ?_
    refine lv_dup hx hb dX8_feed_100 rfl ?_
    refine va_get (D := E.1) (ci := 9) (v := .int (nI n)) (C := RX8) (T := TX8) (N := 36) hx hb hts i_d_feed_X8 hown hK hP 0 rfl rfl 2 (by decide) (hts (.fieldLink RX8 57 "HushWatchModel" "taped" "I") (List.mem_of_getElem? (i := 2) rfl)) (fun _ h9 => h9) rfl dX8_feed_101 ?_
    refine lv_iconst (v := 1) hx hb dX8_feed_104 (by decide) ?_
    refine lv_iadd hx hb dX8_feed_105 ?_
    refine lv_topi (fun z_4 ez_4 => ?_)
    obtain rfl : z_4 = nI (n + 1) := ez_4.trans (nI_add _ 1)
    refine va_put (D := E.1) (ci := 9) (v := .int (nI (n + 1))) (ty := .int) (C := RX8) (T := TX8) (N := 36) hx hb hts i_d_feed_X8 tyX8 tyX8_ok nmX8 hown hK hP hD hS 0 rfl rfl 2 (by decide) (hts (.fieldLink RX8 57 "HushWatchModel" "taped" "I") (List.mem_of_getElem? (i := 2) rfl)) (fun _ h9 => h9) rfl (by decide +kernel) rfl rfl (Nat.le_of_ble_eq_true rfl) dX8_feed_106 (fun H locs hP hD hS => ?_)
    have hP : va_P E.1 vwCl [(mo, .inr (9, [.int 0, .ref m_tape, .int (nI (n + 1)), .int 0, .int 0, .int 0, .int 0, .int 0, .long 0, .int 0, .int 0, .int 0, .int 0, .ref m_readPlace, .ref m_script, .ref m_scriptLong, .int 0, .ref m_now, .ref m_refused, .int 0, .ref m_shareX, .ref m_shareY, .int 0, .int 0, .ref m_askedRow, .int 0, .ref m_kept, .int 0, .long 0, .ref m_aside, .int 0, .int 0, .ref m_spelled, .int 0, .ref m_image, .int 0])), (m_tape, .inl (E.2.1, 320, .inl f_3))] H := hP
    have hD : va_D A [(mo, .inr (9, [.int 0, .ref m_tape, .int (nI (n + 1)), .int 0, .int 0, .int 0, .int 0, .int 0, .long 0, .int 0, .int 0, .int 0, .int 0, .ref m_readPlace, .ref m_script, .ref m_scriptLong, .int 0, .ref m_now, .ref m_refused, .int 0, .ref m_shareX, .ref m_shareY, .int 0, .int 0, .ref m_askedRow, .int 0, .ref m_kept, .int 0, .long 0, .ref m_aside, .int 0, .int 0, .ref m_spelled, .int 0, .ref m_image, .int 0])), (m_tape, .inl (E.2.1, 320, .inl f_3))] := hD
    refine lv_iinc (v := 11) (lv' := [(7, .int 11), (8, .int r_1), (0, .ref mo), (1, .int p0), (2, .int p1), (3, .int p2), (4, .int p3), (5, .int p4)]) hx hb dX8_feed_109 hl (k := 7) rfl (by decide) (by decide) rfl (fun ls hl => ?_)
    refine lv_goto (tgt := 62) hx hb dX8_feed_112 (by decide) ?_
    have e8 : nzN p2 8 = 1 := by unfold nzN; rw [← hr_1, if_neg c_2]
    have e9 : n + 1 = n + nzN p2 8 := by omega
    have hP : va_P E.1 vwCl [(mo, .inr (9, [.int 0, .ref m_tape, .int (nI (n + nzN p2 8)), .int 0, .int 0, .int 0, .int 0, .int 0, .long 0, .int 0, .int 0, .int 0, .int 0, .ref m_readPlace, .ref m_script, .ref m_scriptLong, .int 0, .ref m_now, .ref m_refused, .int 0, .ref m_shareX, .ref m_shareY, .int 0, .int 0, .ref m_askedRow, .int 0, .ref m_kept, .int 0, .long 0, .ref m_aside, .int 0, .int 0, .ref m_spelled, .int 0, .ref m_image, .int 0])), (m_tape, .inl (E.2.1, 320, .inl f_3))] H := by rw [← e9]; exact hP
    have hD : va_D A [(mo, .inr (9, [.int 0, .ref m_tape, .int (nI (n + nzN p2 8)), .int 0, .int 0, .int 0, .int 0, .int 0, .long 0, .int 0, .int 0, .int 0, .int 0, .ref m_readPlace, .ref m_script, .ref m_scriptLong, .int 0, .ref m_now, .ref m_refused, .int 0, .ref m_shareX, .ref m_shareY, .int 0, .int 0, .ref m_askedRow, .int 0, .ref m_kept, .int 0, .long 0, .ref m_aside, .int 0, .int 0, .ref m_spelled, .int 0, .ref m_image, .int 0])), (m_tape, .inl (E.2.1, 320, .inl f_3))] := by rw [← e9]; exact hD
    exact K H locs f_3 ls (hP.sub [0, 1] rfl) (hD.sub [0, 1] (by decide) rfl) hS (lv_sub hl [2, 3, 4, 5, 6, 7, 0] rfl)

set_option maxHeartbeats 4000000 in
set_option maxRecDepth 100000 in
theorem mf_it11 {p : Program} (l : Launch) {e : Env} {s : State} {m : MethodId} {below : List Frame} {meth : Method} {c : Code} {Q : State → Prop} (E : EE) {mo m_tape m_readPlace m_script m_scriptLong m_now m_refused m_shareX m_shareY m_askedRow m_kept m_aside m_spelled m_image : Nat} {p0 p1 p2 p3 p4 : Int32} (hx : p.tables.exec = Jvm.exec) (hb : c.code = cX8_feed) (hml : c.maxLocals = 9) (hown : s.vm.findClass RX8 = some m.cls) (hts : ∀ w ∈ v_d_feed, w.before #[Value.ref mo, Value.int p0, Value.int p1, Value.int p2, Value.int p3, Value.int p4] s = true) (hK : va_K E.1 vwCl (TY E) s) (hN : NX s) {A : Nat → Prop} (hA : ∀ q : Nat, s.heap.size ≤ q → A q) (n : Nat) (hn : n < 320)
    (K : ∀ (H : Heap) (locs : List Loc) (f : Nat → Int32) (ls : Array Slot), va_P E.1 vwCl [(mo, .inr (9, [.int 0, .ref m_tape, .int (nI (n + nzN p2 0)), .int 0, .int 0, .int 0, .int 0, .int 0, .long 0, .int 0, .int 0, .int 0, .int 0, .ref m_readPlace, .ref m_script, .ref m_scriptLong, .int 0, .ref m_now, .ref m_refused, .int 0, .ref m_shareX, .ref m_shareY, .int 0, .int 0, .ref m_askedRow, .int 0, .ref m_kept, .int 0, .long 0, .ref m_aside, .int 0, .int 0, .ref m_spelled, .int 0, .ref m_image, .int 0])), (m_tape, .inl (E.2.1, 320, .inl f))] H → va_D A [(mo, .inr (9, [.int 0, .ref m_tape, .int (nI (n + nzN p2 0)), .int 0, .int 0, .int 0, .int 0, .int 0, .long 0, .int 0, .int 0, .int 0, .int 0, .ref m_readPlace, .ref m_script, .ref m_scriptLong, .int 0, .ref m_now, .ref m_refused, .int 0, .ref m_shareX, .ref m_shareY, .int 0, .int 0, .ref m_askedRow, .int 0, .ref m_kept, .int 0, .long 0, .ref m_aside, .int 0, .int 0, .ref m_spelled, .int 0, .ref m_image, .int 0])), (m_tape, .inl (E.2.1, 320, .inl f))] → va_S A s.heap H locs → lv_has ls 9 [(0, .ref mo), (1, .int p0), (2, .int p1), (3, .int p2), (4, .int p3), (5, .int p4), (7, .int 12)] → W p l e ({ frames := 1, cells := 0, slots := 0, locals := 26 } : Room) s m #[Value.ref mo, Value.int p0, Value.int p1, Value.int p2, Value.int p3, Value.int p4] below meth c H locs 0 0 Q (F0 m 62 ls [])) :
    ∀ (H : Heap) (locs : List Loc) (f : Nat → Int32) (ls : Array Slot), va_P E.1 vwCl [(mo, .inr (9, [.int 0, .ref m_tape, .int (nI n), .int 0, .int 0, .int 0, .int 0, .int 0, .long 0, .int 0, .int 0, .int 0, .int 0, .ref m_readPlace, .ref m_script, .ref m_scriptLong, .int 0, .ref m_now, .ref m_refused, .int 0, .ref m_shareX, .ref m_shareY, .int 0, .int 0, .ref m_askedRow, .int 0, .ref m_kept, .int 0, .long 0, .ref m_aside, .int 0, .int 0, .ref m_spelled, .int 0, .ref m_image, .int 0])), (m_tape, .inl (E.2.1, 320, .inl f))] H → va_D A [(mo, .inr (9, [.int 0, .ref m_tape, .int (nI n), .int 0, .int 0, .int 0, .int 0, .int 0, .long 0, .int 0, .int 0, .int 0, .int 0, .ref m_readPlace, .ref m_script, .ref m_scriptLong, .int 0, .ref m_now, .ref m_refused, .int 0, .ref m_shareX, .ref m_shareY, .int 0, .int 0, .ref m_askedRow, .int 0, .ref m_kept, .int 0, .long 0, .ref m_aside, .int 0, .int 0, .ref m_spelled, .int 0, .ref m_image, .int 0])), (m_tape, .inl (E.2.1, 320, .inl f))] → va_S A s.heap H locs → lv_has ls 9 [(0, .ref mo), (1, .int p0), (2, .int p1), (3, .int p2), (4, .int p3), (5, .int p4), (7, .int 11)] → W p l e ({ frames := 1, cells := 0, slots := 0, locals := 26 } : Room) s m #[Value.ref mo, Value.int p0, Value.int p1, Value.int p2, Value.int p3, Value.int p4] below meth c H locs 0 0 Q (F0 m 62 ls []) := by
  intro H locs f ls hP hD hS hl
  refine lv_iload hx hb dX8_feed_62 (lv_at hl 6 rfl) ?_
  refine lv_bipush (v := 20) hx hb dX8_feed_64 (by decide) ?_
  refine lv_icmp_ge (tgt := 115) hx hb dX8_feed_66 (by decide) (fun q => absurd q (by decide)) (fun _ => ?_)
  refine lv_iload_n hx hb dX8_feed_69 rfl (lv_at hl 1 rfl) ?_
  refine lv_iload_n hx hb dX8_feed_70 rfl (lv_at hl 2 rfl) ?_
  refine lv_iload_n hx hb dX8_feed_71 rfl (lv_at hl 3 rfl) ?_
  refine lv_iload hx hb dX8_feed_72 (lv_at hl 4 rfl) ?_
  refine lv_iload hx hb dX8_feed_74 (lv_at hl 5 rfl) ?_
  refine lv_iload hx hb dX8_feed_76 (lv_at hl 6 rfl) ?_
  have hPc : va_P E.1 vwCl [] H := fun k q h => by simp at h
  refine pc_i (va_runS (As := [.int p0, .int p1, .int p2, .int p3, .int p4, .int 11]) (rest := []) ⟨hx, hb, hml, hown, hts⟩ (d_byteOf11 l E p0 p1 p2 p3 p4) (va_cwS 6 hts g_d_feed_d_byteOf11_53 rfl rfl rfl (by decide +kernel) ⟨Nat.le_of_ble_eq_true rfl, Nat.le_of_ble_eq_true rfl⟩) ⟨pP.blind, (pP.pre ⟨hK, hN⟩ hPc)⟩ rfl rfl hl.1 rfl (lv_room (Nat.le_of_ble_eq_true rfl)) dX8_feed_78 ⟨Nat.le_of_ble_eq_true rfl, Nat.le_of_ble_eq_true rfl⟩) (fun r_1 hr_1 => ?_)
  refine lv_istore (lv' := [(8, .int r_1), (0, .ref mo), (1, .int p0), (2, .int p1), (3, .int p2), (4, .int p3), (5, .int p4), (7, .int 11)]) hx hb dX8_feed_81 hl (by decide) rfl (fun ls hl => ?_)
  refine lv_iload hx hb dX8_feed_83 (lv_at hl 0 rfl) ?_
  refine lv_if_eq (tgt := 109) hx hb dX8_feed_85 (by decide) (fun c_2 => ?_) (fun c_2 => ?_)
  ·
    refine lv_iinc (v := 12) (lv' := [(7, .int 12), (8, .int r_1), (0, .ref mo), (1, .int p0), (2, .int p1), (3, .int p2), (4, .int p3), (5, .int p4)]) hx hb dX8_feed_109 hl (k := 7) rfl (by decide) (by decide) rfl (fun ls hl => ?_)
    refine lv_goto (tgt := 62) hx hb dX8_feed_112 (by decide) ?_
    have e8 : nzN p2 0 = 0 := by unfold nzN; rw [← hr_1, if_pos c_2]
    have e9 : n = n + nzN p2 0 := by omega
    have hP : va_P E.1 vwCl [(mo, .inr (9, [.int 0, .ref m_tape, .int (nI (n + nzN p2 0)), .int 0, .int 0, .int 0, .int 0, .int 0, .long 0, .int 0, .int 0, .int 0, .int 0, .ref m_readPlace, .ref m_script, .ref m_scriptLong, .int 0, .ref m_now, .ref m_refused, .int 0, .ref m_shareX, .ref m_shareY, .int 0, .int 0, .ref m_askedRow, .int 0, .ref m_kept, .int 0, .long 0, .ref m_aside, .int 0, .int 0, .ref m_spelled, .int 0, .ref m_image, .int 0])), (m_tape, .inl (E.2.1, 320, .inl f))] H := by rw [← e9]; exact hP
    have hD : va_D A [(mo, .inr (9, [.int 0, .ref m_tape, .int (nI (n + nzN p2 0)), .int 0, .int 0, .int 0, .int 0, .int 0, .long 0, .int 0, .int 0, .int 0, .int 0, .ref m_readPlace, .ref m_script, .ref m_scriptLong, .int 0, .ref m_now, .ref m_refused, .int 0, .ref m_shareX, .ref m_shareY, .int 0, .int 0, .ref m_askedRow, .int 0, .ref m_kept, .int 0, .long 0, .ref m_aside, .int 0, .int 0, .ref m_spelled, .int 0, .ref m_image, .int 0])), (m_tape, .inl (E.2.1, 320, .inl f))] := by rw [← e9]; exact hD
    exact K H locs f ls (hP.sub [0, 1] rfl) (hD.sub [0, 1] (by decide) rfl) hS (lv_sub hl [2, 3, 4, 5, 6, 7, 0] rfl)
  ·
    refine lv_aload_n hx hb dX8_feed_88 rfl (lv_at hl 1 rfl) ?_
    refine va_get (D := E.1) (ci := 9) (v := .ref m_tape) (C := RX8) (T := TX8) (N := 36) hx hb hts i_d_feed_X8 hown hK hP 0 rfl rfl 1 (by decide) (hts (.fieldLink RX8 9 "HushWatchModel" "tape" "[I") (List.mem_of_getElem? (i := 1) rfl)) (fun _ h9 => h9) rfl dX8_feed_89 ?_
    refine lv_aload_n hx hb dX8_feed_92 rfl (lv_at hl 1 rfl) ?_
    refine va_get (D := E.1) (ci := 9) (v := .int (nI n)) (C := RX8) (T := TX8) (N := 36) hx hb hts i_d_feed_X8 hown hK hP 0 rfl rfl 2 (by decide) (hts (.fieldLink RX8 57 "HushWatchModel" "taped" "I") (List.mem_of_getElem? (i := 2) rfl)) (fun _ h9 => h9) rfl dX8_feed_93 ?_
    refine lv_iload hx hb dX8_feed_96 (lv_at hl 0 rfl) ?_
    refine va_iast hx hb hK hP hD hS 1 0 rfl rfl (vp_in_nI (by omega) (by decide)) dX8_feed_98 (fun H locs hP hD hS => ?_)
    have hP : va_P E.1 vwCl [(mo, .inr (9, [.int 0, .ref m_tape, .int (nI n), .int 0, .int 0, .int 0, .int 0, .int 0, .long 0, .int 0, .int 0, .int 0, .int 0, .ref m_readPlace, .ref m_script, .ref m_scriptLong, .int 0, .ref m_now, .ref m_refused, .int 0, .ref m_shareX, .ref m_shareY, .int 0, .int 0, .ref m_askedRow, .int 0, .ref m_kept, .int 0, .long 0, .ref m_aside, .int 0, .int 0, .ref m_spelled, .int 0, .ref m_image, .int 0])), (m_tape, .inl (E.2.1, 320, .inl (upd f (nI n : Int32).toNatClampNeg r_1)))] H := hP
    have hD : va_D A [(mo, .inr (9, [.int 0, .ref m_tape, .int (nI n), .int 0, .int 0, .int 0, .int 0, .int 0, .long 0, .int 0, .int 0, .int 0, .int 0, .ref m_readPlace, .ref m_script, .ref m_scriptLong, .int 0, .ref m_now, .ref m_refused, .int 0, .ref m_shareX, .ref m_shareY, .int 0, .int 0, .ref m_askedRow, .int 0, .ref m_kept, .int 0, .long 0, .ref m_aside, .int 0, .int 0, .ref m_spelled, .int 0, .ref m_image, .int 0])), (m_tape, .inl (E.2.1, 320, .inl (upd f (nI n : Int32).toNatClampNeg r_1)))] := hD
    generalize upd f (nI n : Int32).toNatClampNeg r_1 = f_3 at hP hD
    refine lv_aload_n hx hb dX8_feed_99 rfl (lv_at hl 1 rfl) ?_
    refine lv_dup hx hb dX8_feed_100 rfl ?_
    refine va_get (D := E.1) (ci := 9) (v := .int (nI n)) (C := RX8) (T := TX8) (N := 36) hx hb hts i_d_feed_X8 hown hK hP 0 rfl rfl 2 (by decide) (hts (.fieldLink RX8 57 "HushWatchModel" "taped" "I") (List.mem_of_getElem? (i := 2) rfl)) (fun _ h9 => h9) rfl dX8_feed_101 ?_
    refine lv_iconst (v := 1) hx hb dX8_feed_104 (by decide) ?_
    refine lv_iadd hx hb dX8_feed_105 ?_
    refine lv_topi (fun z_4 ez_4 => ?_)
    obtain rfl : z_4 = nI (n + 1) := ez_4.trans (nI_add _ 1)
    refine va_put (D := E.1) (ci := 9) (v := .int (nI (n + 1))) (ty := .int) (C := RX8) (T := TX8) (N := 36) hx hb hts i_d_feed_X8 tyX8 tyX8_ok nmX8 hown hK hP hD hS 0 rfl rfl 2 (by decide) (hts (.fieldLink RX8 57 "HushWatchModel" "taped" "I") (List.mem_of_getElem? (i := 2) rfl)) (fun _ h9 => h9) rfl (by decide +kernel) rfl rfl (Nat.le_of_ble_eq_true rfl) dX8_feed_106 (fun H locs hP hD hS => ?_)
    have hP : va_P E.1 vwCl [(mo, .inr (9, [.int 0, .ref m_tape, .int (nI (n + 1)), .int 0, .int 0, .int 0, .int 0, .int 0, .long 0, .int 0, .int 0, .int 0, .int 0, .ref m_readPlace, .ref m_script, .ref m_scriptLong, .int 0, .ref m_now, .ref m_refused, .int 0, .ref m_shareX, .ref m_shareY, .int 0, .int 0, .ref m_askedRow, .int 0, .ref m_kept, .int 0, .long 0, .ref m_aside, .int 0, .int 0, .ref m_spelled, .int 0, .ref m_image, .int 0])), (m_tape, .inl (E.2.1, 320, .inl f_3))] H := hP
    have hD : va_D A [(mo, .inr (9, [.int 0, .ref m_tape, .int (nI (n + 1)), .int 0, .int 0, .int 0, .int 0, .int 0, .long 0, .int 0, .int 0, .int 0, .int 0, .ref m_readPlace, .ref m_script, .ref m_scriptLong, .int 0, .ref m_now, .ref m_refused, .int 0, .ref m_shareX, .ref m_shareY, .int 0, .int 0, .ref m_askedRow, .int 0, .ref m_kept, .int 0, .long 0, .ref m_aside, .int 0, .int 0, .ref m_spelled, .int 0, .ref m_image, .int 0])), (m_tape, .inl (E.2.1, 320, .inl f_3))] := hD
    refine lv_iinc (v := 12) (lv' := [(7, .int 12), (8, .int r_1), (0, .ref mo), (1, .int p0), (2, .int p1), (3, .int p2), (4, .int p3), (5, .int p4)]) hx hb dX8_feed_109 hl (k := 7) rfl (by decide) (by decide) rfl (fun ls hl => ?_)
    refine lv_goto (tgt := 62) hx hb dX8_feed_112 (by decide) ?_
    have e8 : nzN p2 0 = 1 := by unfold nzN; rw [← hr_1, if_neg c_2]
    have e9 : n + 1 = n + nzN p2 0 := by omega
    have hP : va_P E.1 vwCl [(mo, .inr (9, [.int 0, .ref m_tape, .int (nI (n + nzN p2 0)), .int 0, .int 0, .int 0, .int 0, .int 0, .long 0, .int 0, .int 0, .int 0, .int 0, .ref m_readPlace, .ref m_script, .ref m_scriptLong, .int 0, .ref m_now, .ref m_refused, .int 0, .ref m_shareX, .ref m_shareY, .int 0, .int 0, .ref m_askedRow, .int 0, .ref m_kept, .int 0, .long 0, .ref m_aside, .int 0, .int 0, .ref m_spelled, .int 0, .ref m_image, .int 0])), (m_tape, .inl (E.2.1, 320, .inl f_3))] H := by rw [← e9]; exact hP
    have hD : va_D A [(mo, .inr (9, [.int 0, .ref m_tape, .int (nI (n + nzN p2 0)), .int 0, .int 0, .int 0, .int 0, .int 0, .long 0, .int 0, .int 0, .int 0, .int 0, .ref m_readPlace, .ref m_script, .ref m_scriptLong, .int 0, .ref m_now, .ref m_refused, .int 0, .ref m_shareX, .ref m_shareY, .int 0, .int 0, .ref m_askedRow, .int 0, .ref m_kept, .int 0, .long 0, .ref m_aside, .int 0, .int 0, .ref m_spelled, .int 0, .ref m_image, .int 0])), (m_tape, .inl (E.2.1, 320, .inl f_3))] := by rw [← e9]; exact hD
    exact K H locs f_3 ls (hP.sub [0, 1] rfl) (hD.sub [0, 1] (by decide) rfl) hS (lv_sub hl [2, 3, 4, 5, 6, 7, 0] rfl)

set_option maxHeartbeats 4000000 in
set_option maxRecDepth 100000 in
theorem mf_it12 {p : Program} (l : Launch) {e : Env} {s : State} {m : MethodId} {below : List Frame} {meth : Method} {c : Code} {Q : State → Prop} (E : EE) {mo m_tape m_readPlace m_script m_scriptLong m_now m_refused m_shareX m_shareY m_askedRow m_kept m_aside m_spelled m_image : Nat} {p0 p1 p2 p3 p4 : Int32} (hx : p.tables.exec = Jvm.exec) (hb : c.code = cX8_feed) (hml : c.maxLocals = 9) (hown : s.vm.findClass RX8 = some m.cls) (hts : ∀ w ∈ v_d_feed, w.before #[Value.ref mo, Value.int p0, Value.int p1, Value.int p2, Value.int p3, Value.int p4] s = true) (hK : va_K E.1 vwCl (TY E) s) (hN : NX s) {A : Nat → Prop} (hA : ∀ q : Nat, s.heap.size ≤ q → A q) (n : Nat) (hn : n < 320)
    (K : ∀ (H : Heap) (locs : List Loc) (f : Nat → Int32) (ls : Array Slot), va_P E.1 vwCl [(mo, .inr (9, [.int 0, .ref m_tape, .int (nI (n + nzN p3 24)), .int 0, .int 0, .int 0, .int 0, .int 0, .long 0, .int 0, .int 0, .int 0, .int 0, .ref m_readPlace, .ref m_script, .ref m_scriptLong, .int 0, .ref m_now, .ref m_refused, .int 0, .ref m_shareX, .ref m_shareY, .int 0, .int 0, .ref m_askedRow, .int 0, .ref m_kept, .int 0, .long 0, .ref m_aside, .int 0, .int 0, .ref m_spelled, .int 0, .ref m_image, .int 0])), (m_tape, .inl (E.2.1, 320, .inl f))] H → va_D A [(mo, .inr (9, [.int 0, .ref m_tape, .int (nI (n + nzN p3 24)), .int 0, .int 0, .int 0, .int 0, .int 0, .long 0, .int 0, .int 0, .int 0, .int 0, .ref m_readPlace, .ref m_script, .ref m_scriptLong, .int 0, .ref m_now, .ref m_refused, .int 0, .ref m_shareX, .ref m_shareY, .int 0, .int 0, .ref m_askedRow, .int 0, .ref m_kept, .int 0, .long 0, .ref m_aside, .int 0, .int 0, .ref m_spelled, .int 0, .ref m_image, .int 0])), (m_tape, .inl (E.2.1, 320, .inl f))] → va_S A s.heap H locs → lv_has ls 9 [(0, .ref mo), (1, .int p0), (2, .int p1), (3, .int p2), (4, .int p3), (5, .int p4), (7, .int 13)] → W p l e ({ frames := 1, cells := 0, slots := 0, locals := 26 } : Room) s m #[Value.ref mo, Value.int p0, Value.int p1, Value.int p2, Value.int p3, Value.int p4] below meth c H locs 0 0 Q (F0 m 62 ls [])) :
    ∀ (H : Heap) (locs : List Loc) (f : Nat → Int32) (ls : Array Slot), va_P E.1 vwCl [(mo, .inr (9, [.int 0, .ref m_tape, .int (nI n), .int 0, .int 0, .int 0, .int 0, .int 0, .long 0, .int 0, .int 0, .int 0, .int 0, .ref m_readPlace, .ref m_script, .ref m_scriptLong, .int 0, .ref m_now, .ref m_refused, .int 0, .ref m_shareX, .ref m_shareY, .int 0, .int 0, .ref m_askedRow, .int 0, .ref m_kept, .int 0, .long 0, .ref m_aside, .int 0, .int 0, .ref m_spelled, .int 0, .ref m_image, .int 0])), (m_tape, .inl (E.2.1, 320, .inl f))] H → va_D A [(mo, .inr (9, [.int 0, .ref m_tape, .int (nI n), .int 0, .int 0, .int 0, .int 0, .int 0, .long 0, .int 0, .int 0, .int 0, .int 0, .ref m_readPlace, .ref m_script, .ref m_scriptLong, .int 0, .ref m_now, .ref m_refused, .int 0, .ref m_shareX, .ref m_shareY, .int 0, .int 0, .ref m_askedRow, .int 0, .ref m_kept, .int 0, .long 0, .ref m_aside, .int 0, .int 0, .ref m_spelled, .int 0, .ref m_image, .int 0])), (m_tape, .inl (E.2.1, 320, .inl f))] → va_S A s.heap H locs → lv_has ls 9 [(0, .ref mo), (1, .int p0), (2, .int p1), (3, .int p2), (4, .int p3), (5, .int p4), (7, .int 12)] → W p l e ({ frames := 1, cells := 0, slots := 0, locals := 26 } : Room) s m #[Value.ref mo, Value.int p0, Value.int p1, Value.int p2, Value.int p3, Value.int p4] below meth c H locs 0 0 Q (F0 m 62 ls []) := by
  intro H locs f ls hP hD hS hl
  refine lv_iload hx hb dX8_feed_62 (lv_at hl 6 rfl) ?_
  refine lv_bipush (v := 20) hx hb dX8_feed_64 (by decide) ?_
  refine lv_icmp_ge (tgt := 115) hx hb dX8_feed_66 (by decide) (fun q => absurd q (by decide)) (fun _ => ?_)
  refine lv_iload_n hx hb dX8_feed_69 rfl (lv_at hl 1 rfl) ?_
  refine lv_iload_n hx hb dX8_feed_70 rfl (lv_at hl 2 rfl) ?_
  refine lv_iload_n hx hb dX8_feed_71 rfl (lv_at hl 3 rfl) ?_
  refine lv_iload hx hb dX8_feed_72 (lv_at hl 4 rfl) ?_
  refine lv_iload hx hb dX8_feed_74 (lv_at hl 5 rfl) ?_
  refine lv_iload hx hb dX8_feed_76 (lv_at hl 6 rfl) ?_
  have hPc : va_P E.1 vwCl [] H := fun k q h => by simp at h
  refine pc_i (va_runS (As := [.int p0, .int p1, .int p2, .int p3, .int p4, .int 12]) (rest := []) ⟨hx, hb, hml, hown, hts⟩ (d_byteOf12 l E p0 p1 p2 p3 p4) (va_cwS 6 hts g_d_feed_d_byteOf12_53 rfl rfl rfl (by decide +kernel) ⟨Nat.le_of_ble_eq_true rfl, Nat.le_of_ble_eq_true rfl⟩) ⟨pP.blind, (pP.pre ⟨hK, hN⟩ hPc)⟩ rfl rfl hl.1 rfl (lv_room (Nat.le_of_ble_eq_true rfl)) dX8_feed_78 ⟨Nat.le_of_ble_eq_true rfl, Nat.le_of_ble_eq_true rfl⟩) (fun r_1 hr_1 => ?_)
  refine lv_istore (lv' := [(8, .int r_1), (0, .ref mo), (1, .int p0), (2, .int p1), (3, .int p2), (4, .int p3), (5, .int p4), (7, .int 12)]) hx hb dX8_feed_81 hl (by decide) rfl (fun ls hl => ?_)
  refine lv_iload hx hb dX8_feed_83 (lv_at hl 0 rfl) ?_
  refine lv_if_eq (tgt := 109) hx hb dX8_feed_85 (by decide) (fun c_2 => ?_) (fun c_2 => ?_)
  ·
    refine lv_iinc (v := 13) (lv' := [(7, .int 13), (8, .int r_1), (0, .ref mo), (1, .int p0), (2, .int p1), (3, .int p2), (4, .int p3), (5, .int p4)]) hx hb dX8_feed_109 hl (k := 7) rfl (by decide) (by decide) rfl (fun ls hl => ?_)
    refine lv_goto (tgt := 62) hx hb dX8_feed_112 (by decide) ?_
    have e8 : nzN p3 24 = 0 := by unfold nzN; rw [← hr_1, if_pos c_2]
    have e9 : n = n + nzN p3 24 := by omega
    have hP : va_P E.1 vwCl [(mo, .inr (9, [.int 0, .ref m_tape, .int (nI (n + nzN p3 24)), .int 0, .int 0, .int 0, .int 0, .int 0, .long 0, .int 0, .int 0, .int 0, .int 0, .ref m_readPlace, .ref m_script, .ref m_scriptLong, .int 0, .ref m_now, .ref m_refused, .int 0, .ref m_shareX, .ref m_shareY, .int 0, .int 0, .ref m_askedRow, .int 0, .ref m_kept, .int 0, .long 0, .ref m_aside, .int 0, .int 0, .ref m_spelled, .int 0, .ref m_image, .int 0])), (m_tape, .inl (E.2.1, 320, .inl f))] H := by rw [← e9]; exact hP
    have hD : va_D A [(mo, .inr (9, [.int 0, .ref m_tape, .int (nI (n + nzN p3 24)), .int 0, .int 0, .int 0, .int 0, .int 0, .long 0, .int 0, .int 0, .int 0, .int 0, .ref m_readPlace, .ref m_script, .ref m_scriptLong, .int 0, .ref m_now, .ref m_refused, .int 0, .ref m_shareX, .ref m_shareY, .int 0, .int 0, .ref m_askedRow, .int 0, .ref m_kept, .int 0, .long 0, .ref m_aside, .int 0, .int 0, .ref m_spelled, .int 0, .ref m_image, .int 0])), (m_tape, .inl (E.2.1, 320, .inl f))] := by rw [← e9]; exact hD
    exact K H locs f ls (hP.sub [0, 1] rfl) (hD.sub [0, 1] (by decide) rfl) hS (lv_sub hl [2, 3, 4, 5, 6, 7, 0] rfl)
  ·
    refine lv_aload_n hx hb dX8_feed_88 rfl (lv_at hl 1 rfl) ?_
    refine va_get (D := E.1) (ci := 9) (v := .ref m_tape) (C := RX8) (T := TX8) (N := 36) hx hb hts i_d_feed_X8 hown hK hP 0 rfl rfl 1 (by decide) (hts (.fieldLink RX8 9 "HushWatchModel" "tape" "[I") (List.mem_of_getElem? (i := 1) rfl)) (fun _ h9 => h9) rfl dX8_feed_89 ?_
    refine lv_aload_n hx hb dX8_feed_92 rfl (lv_at hl 1 rfl) ?_
    refine va_get (D := E.1) (ci := 9) (v := .int (nI n)) (C := RX8) (T := TX8) (N := 36) hx hb hts i_d_feed_X8 hown hK hP 0 rfl rfl 2 (by decide) (hts (.fieldLink RX8 57 "HushWatchModel" "taped" "I") (List.mem_of_getElem? (i := 2) rfl)) (fun _ h9 => h9) rfl dX8_feed_93 ?_
    refine lv_iload hx hb dX8_feed_96 (lv_at hl 0 rfl) ?_
    refine va_iast hx hb hK hP hD hS 1 0 rfl rfl (vp_in_nI (by omega) (by decide)) dX8_feed_98 (fun H locs hP hD hS => ?_)
    have hP : va_P E.1 vwCl [(mo, .inr (9, [.int 0, .ref m_tape, .int (nI n), .int 0, .int 0, .int 0, .int 0, .int 0, .long 0, .int 0, .int 0, .int 0, .int 0, .ref m_readPlace, .ref m_script, .ref m_scriptLong, .int 0, .ref m_now, .ref m_refused, .int 0, .ref m_shareX, .ref m_shareY, .int 0, .int 0, .ref m_askedRow, .int 0, .ref m_kept, .int 0, .long 0, .ref m_aside, .int 0, .int 0, .ref m_spelled, .int 0, .ref m_image, .int 0])), (m_tape, .inl (E.2.1, 320, .inl (upd f (nI n : Int32).toNatClampNeg r_1)))] H := hP
    have hD : va_D A [(mo, .inr (9, [.int 0, .ref m_tape, .int (nI n), .int 0, .int 0, .int 0, .int 0, .int 0, .long 0, .int 0, .int 0, .int 0, .int 0, .ref m_readPlace, .ref m_script, .ref m_scriptLong, .int 0, .ref m_now, .ref m_refused, .int 0, .ref m_shareX, .ref m_shareY, .int 0, .int 0, .ref m_askedRow, .int 0, .ref m_kept, .int 0, .long 0, .ref m_aside, .int 0, .int 0, .ref m_spelled, .int 0, .ref m_image, .int 0])), (m_tape, .inl (E.2.1, 320, .inl (upd f (nI n : Int32).toNatClampNeg r_1)))] := hD
    generalize upd f (nI n : Int32).toNatClampNeg r_1 = f_3 at hP hD
    refine lv_aload_n hx hb dX8_feed_99 rfl (lv_at hl 1 rfl) ?_
    refine lv_dup hx hb dX8_feed_100 rfl ?_
    refine va_get (D := E.1) (ci := 9) (v := .int (nI n)) (C := RX8) (T := TX8) (N := 36) hx hb hts i_d_feed_X8 hown hK hP 0 rfl rfl 2 (by decide) (hts (.fieldLink RX8 57 "HushWatchModel" "taped" "I") (List.mem_of_getElem? (i := 2) rfl)) (fun _ h9 => h9) rfl dX8_feed_101 ?_
    refine lv_iconst (v := 1) hx hb dX8_feed_104 (by decide) ?_
    refine lv_iadd hx hb dX8_feed_105 ?_
    refine lv_topi (fun z_4 ez_4 => ?_)
    obtain rfl : z_4 = nI (n + 1) := ez_4.trans (nI_add _ 1)
    refine va_put (D := E.1) (ci := 9) (v := .int (nI (n + 1))) (ty := .int) (C := RX8) (T := TX8) (N := 36) hx hb hts i_d_feed_X8 tyX8 tyX8_ok nmX8 hown hK hP hD hS 0 rfl rfl 2 (by decide) (hts (.fieldLink RX8 57 "HushWatchModel" "taped" "I") (List.mem_of_getElem? (i := 2) rfl)) (fun _ h9 => h9) rfl (by decide +kernel) rfl rfl (Nat.le_of_ble_eq_true rfl) dX8_feed_106 (fun H locs hP hD hS => ?_)
    have hP : va_P E.1 vwCl [(mo, .inr (9, [.int 0, .ref m_tape, .int (nI (n + 1)), .int 0, .int 0, .int 0, .int 0, .int 0, .long 0, .int 0, .int 0, .int 0, .int 0, .ref m_readPlace, .ref m_script, .ref m_scriptLong, .int 0, .ref m_now, .ref m_refused, .int 0, .ref m_shareX, .ref m_shareY, .int 0, .int 0, .ref m_askedRow, .int 0, .ref m_kept, .int 0, .long 0, .ref m_aside, .int 0, .int 0, .ref m_spelled, .int 0, .ref m_image, .int 0])), (m_tape, .inl (E.2.1, 320, .inl f_3))] H := hP
    have hD : va_D A [(mo, .inr (9, [.int 0, .ref m_tape, .int (nI (n + 1)), .int 0, .int 0, .int 0, .int 0, .int 0, .long 0, .int 0, .int 0, .int 0, .int 0, .ref m_readPlace, .ref m_script, .ref m_scriptLong, .int 0, .ref m_now, .ref m_refused, .int 0, .ref m_shareX, .ref m_shareY, .int 0, .int 0, .ref m_askedRow, .int 0, .ref m_kept, .int 0, .long 0, .ref m_aside, .int 0, .int 0, .ref m_spelled, .int 0, .ref m_image, .int 0])), (m_tape, .inl (E.2.1, 320, .inl f_3))] := hD
    refine lv_iinc (v := 13) (lv' := [(7, .int 13), (8, .int r_1), (0, .ref mo), (1, .int p0), (2, .int p1), (3, .int p2), (4, .int p3), (5, .int p4)]) hx hb dX8_feed_109 hl (k := 7) rfl (by decide) (by decide) rfl (fun ls hl => ?_)
    refine lv_goto (tgt := 62) hx hb dX8_feed_112 (by decide) ?_
    have e8 : nzN p3 24 = 1 := by unfold nzN; rw [← hr_1, if_neg c_2]
    have e9 : n + 1 = n + nzN p3 24 := by omega
    have hP : va_P E.1 vwCl [(mo, .inr (9, [.int 0, .ref m_tape, .int (nI (n + nzN p3 24)), .int 0, .int 0, .int 0, .int 0, .int 0, .long 0, .int 0, .int 0, .int 0, .int 0, .ref m_readPlace, .ref m_script, .ref m_scriptLong, .int 0, .ref m_now, .ref m_refused, .int 0, .ref m_shareX, .ref m_shareY, .int 0, .int 0, .ref m_askedRow, .int 0, .ref m_kept, .int 0, .long 0, .ref m_aside, .int 0, .int 0, .ref m_spelled, .int 0, .ref m_image, .int 0])), (m_tape, .inl (E.2.1, 320, .inl f_3))] H := by rw [← e9]; exact hP
    have hD : va_D A [(mo, .inr (9, [.int 0, .ref m_tape, .int (nI (n + nzN p3 24)), .int 0, .int 0, .int 0, .int 0, .int 0, .long 0, .int 0, .int 0, .int 0, .int 0, .ref m_readPlace, .ref m_script, .ref m_scriptLong, .int 0, .ref m_now, .ref m_refused, .int 0, .ref m_shareX, .ref m_shareY, .int 0, .int 0, .ref m_askedRow, .int 0, .ref m_kept, .int 0, .long 0, .ref m_aside, .int 0, .int 0, .ref m_spelled, .int 0, .ref m_image, .int 0])), (m_tape, .inl (E.2.1, 320, .inl f_3))] := by rw [← e9]; exact hD
    exact K H locs f_3 ls (hP.sub [0, 1] rfl) (hD.sub [0, 1] (by decide) rfl) hS (lv_sub hl [2, 3, 4, 5, 6, 7, 0] rfl)

set_option maxHeartbeats 4000000 in
set_option maxRecDepth 100000 in
theorem mf_it13 {p : Program} (l : Launch) {e : Env} {s : State} {m : MethodId} {below : List Frame} {meth : Method} {c : Code} {Q : State → Prop} (E : EE) {mo m_tape m_readPlace m_script m_scriptLong m_now m_refused m_shareX m_shareY m_askedRow m_kept m_aside m_spelled m_image : Nat} {p0 p1 p2 p3 p4 : Int32} (hx : p.tables.exec = Jvm.exec) (hb : c.code = cX8_feed) (hml : c.maxLocals = 9) (hown : s.vm.findClass RX8 = some m.cls) (hts : ∀ w ∈ v_d_feed, w.before #[Value.ref mo, Value.int p0, Value.int p1, Value.int p2, Value.int p3, Value.int p4] s = true) (hK : va_K E.1 vwCl (TY E) s) (hN : NX s) {A : Nat → Prop} (hA : ∀ q : Nat, s.heap.size ≤ q → A q) (n : Nat) (hn : n < 320)
    (K : ∀ (H : Heap) (locs : List Loc) (f : Nat → Int32) (ls : Array Slot), va_P E.1 vwCl [(mo, .inr (9, [.int 0, .ref m_tape, .int (nI (n + nzN p3 16)), .int 0, .int 0, .int 0, .int 0, .int 0, .long 0, .int 0, .int 0, .int 0, .int 0, .ref m_readPlace, .ref m_script, .ref m_scriptLong, .int 0, .ref m_now, .ref m_refused, .int 0, .ref m_shareX, .ref m_shareY, .int 0, .int 0, .ref m_askedRow, .int 0, .ref m_kept, .int 0, .long 0, .ref m_aside, .int 0, .int 0, .ref m_spelled, .int 0, .ref m_image, .int 0])), (m_tape, .inl (E.2.1, 320, .inl f))] H → va_D A [(mo, .inr (9, [.int 0, .ref m_tape, .int (nI (n + nzN p3 16)), .int 0, .int 0, .int 0, .int 0, .int 0, .long 0, .int 0, .int 0, .int 0, .int 0, .ref m_readPlace, .ref m_script, .ref m_scriptLong, .int 0, .ref m_now, .ref m_refused, .int 0, .ref m_shareX, .ref m_shareY, .int 0, .int 0, .ref m_askedRow, .int 0, .ref m_kept, .int 0, .long 0, .ref m_aside, .int 0, .int 0, .ref m_spelled, .int 0, .ref m_image, .int 0])), (m_tape, .inl (E.2.1, 320, .inl f))] → va_S A s.heap H locs → lv_has ls 9 [(0, .ref mo), (1, .int p0), (2, .int p1), (3, .int p2), (4, .int p3), (5, .int p4), (7, .int 14)] → W p l e ({ frames := 1, cells := 0, slots := 0, locals := 26 } : Room) s m #[Value.ref mo, Value.int p0, Value.int p1, Value.int p2, Value.int p3, Value.int p4] below meth c H locs 0 0 Q (F0 m 62 ls [])) :
    ∀ (H : Heap) (locs : List Loc) (f : Nat → Int32) (ls : Array Slot), va_P E.1 vwCl [(mo, .inr (9, [.int 0, .ref m_tape, .int (nI n), .int 0, .int 0, .int 0, .int 0, .int 0, .long 0, .int 0, .int 0, .int 0, .int 0, .ref m_readPlace, .ref m_script, .ref m_scriptLong, .int 0, .ref m_now, .ref m_refused, .int 0, .ref m_shareX, .ref m_shareY, .int 0, .int 0, .ref m_askedRow, .int 0, .ref m_kept, .int 0, .long 0, .ref m_aside, .int 0, .int 0, .ref m_spelled, .int 0, .ref m_image, .int 0])), (m_tape, .inl (E.2.1, 320, .inl f))] H → va_D A [(mo, .inr (9, [.int 0, .ref m_tape, .int (nI n), .int 0, .int 0, .int 0, .int 0, .int 0, .long 0, .int 0, .int 0, .int 0, .int 0, .ref m_readPlace, .ref m_script, .ref m_scriptLong, .int 0, .ref m_now, .ref m_refused, .int 0, .ref m_shareX, .ref m_shareY, .int 0, .int 0, .ref m_askedRow, .int 0, .ref m_kept, .int 0, .long 0, .ref m_aside, .int 0, .int 0, .ref m_spelled, .int 0, .ref m_image, .int 0])), (m_tape, .inl (E.2.1, 320, .inl f))] → va_S A s.heap H locs → lv_has ls 9 [(0, .ref mo), (1, .int p0), (2, .int p1), (3, .int p2), (4, .int p3), (5, .int p4), (7, .int 13)] → W p l e ({ frames := 1, cells := 0, slots := 0, locals := 26 } : Room) s m #[Value.ref mo, Value.int p0, Value.int p1, Value.int p2, Value.int p3, Value.int p4] below meth c H locs 0 0 Q (F0 m 62 ls []) := by
  intro H locs f ls hP hD hS hl
  refine lv_iload hx hb dX8_feed_62 (lv_at hl 6 rfl) ?_
  refine lv_bipush (v := 20) hx hb dX8_feed_64 (by decide) ?_
  refine lv_icmp_ge (tgt := 115) hx hb dX8_feed_66 (by decide) (fun q => absurd q (by decide)) (fun _ => ?_)
  refine lv_iload_n hx hb dX8_feed_69 rfl (lv_at hl 1 rfl) ?_
  refine lv_iload_n hx hb dX8_feed_70 rfl (lv_at hl 2 rfl) ?_
  refine lv_iload_n hx hb dX8_feed_71 rfl (lv_at hl 3 rfl) ?_
  refine lv_iload hx hb dX8_feed_72 (lv_at hl 4 rfl) ?_
  refine lv_iload hx hb dX8_feed_74 (lv_at hl 5 rfl) ?_
  refine lv_iload hx hb dX8_feed_76 (lv_at hl 6 rfl) ?_
  have hPc : va_P E.1 vwCl [] H := fun k q h => by simp at h
  refine pc_i (va_runS (As := [.int p0, .int p1, .int p2, .int p3, .int p4, .int 13]) (rest := []) ⟨hx, hb, hml, hown, hts⟩ (d_byteOf13 l E p0 p1 p2 p3 p4) (va_cwS 6 hts g_d_feed_d_byteOf13_53 rfl rfl rfl (by decide +kernel) ⟨Nat.le_of_ble_eq_true rfl, Nat.le_of_ble_eq_true rfl⟩) ⟨pP.blind, (pP.pre ⟨hK, hN⟩ hPc)⟩ rfl rfl hl.1 rfl (lv_room (Nat.le_of_ble_eq_true rfl)) dX8_feed_78 ⟨Nat.le_of_ble_eq_true rfl, Nat.le_of_ble_eq_true rfl⟩) (fun r_1 hr_1 => ?_)
  refine lv_istore (lv' := [(8, .int r_1), (0, .ref mo), (1, .int p0), (2, .int p1), (3, .int p2), (4, .int p3), (5, .int p4), (7, .int 13)]) hx hb dX8_feed_81 hl (by decide) rfl (fun ls hl => ?_)
  refine lv_iload hx hb dX8_feed_83 (lv_at hl 0 rfl) ?_
  refine lv_if_eq (tgt := 109) hx hb dX8_feed_85 (by decide) (fun c_2 => ?_) (fun c_2 => ?_)
  ·
    refine lv_iinc (v := 14) (lv' := [(7, .int 14), (8, .int r_1), (0, .ref mo), (1, .int p0), (2, .int p1), (3, .int p2), (4, .int p3), (5, .int p4)]) hx hb dX8_feed_109 hl (k := 7) rfl (by decide) (by decide) rfl (fun ls hl => ?_)
    refine lv_goto (tgt := 62) hx hb dX8_feed_112 (by decide) ?_
    have e8 : nzN p3 16 = 0 := by unfold nzN; rw [← hr_1, if_pos c_2]
    have e9 : n = n + nzN p3 16 := by omega
    have hP : va_P E.1 vwCl [(mo, .inr (9, [.int 0, .ref m_tape, .int (nI (n + nzN p3 16)), .int 0, .int 0, .int 0, .int 0, .int 0, .long 0, .int 0, .int 0, .int 0, .int 0, .ref m_readPlace, .ref m_script, .ref m_scriptLong, .int 0, .ref m_now, .ref m_refused, .int 0, .ref m_shareX, .ref m_shareY, .int 0, .int 0, .ref m_askedRow, .int 0, .ref m_kept, .int 0, .long 0, .ref m_aside, .int 0, .int 0, .ref m_spelled, .int 0, .ref m_image, .int 0])), (m_tape, .inl (E.2.1, 320, .inl f))] H := by rw [← e9]; exact hP
    have hD : va_D A [(mo, .inr (9, [.int 0, .ref m_tape, .int (nI (n + nzN p3 16)), .int 0, .int 0, .int 0, .int 0, .int 0, .long 0, .int 0, .int 0, .int 0, .int 0, .ref m_readPlace, .ref m_script, .ref m_scriptLong, .int 0, .ref m_now, .ref m_refused, .int 0, .ref m_shareX, .ref m_shareY, .int 0, .int 0, .ref m_askedRow, .int 0, .ref m_kept, .int 0, .long 0, .ref m_aside, .int 0, .int 0, .ref m_spelled, .int 0, .ref m_image, .int 0])), (m_tape, .inl (E.2.1, 320, .inl f))] := by rw [← e9]; exact hD
    exact K H locs f ls (hP.sub [0, 1] rfl) (hD.sub [0, 1] (by decide) rfl) hS (lv_sub hl [2, 3, 4, 5, 6, 7, 0] rfl)
  ·
    refine lv_aload_n hx hb dX8_feed_88 rfl (lv_at hl 1 rfl) ?_
    refine va_get (D := E.1) (ci := 9) (v := .ref m_tape) (C := RX8) (T := TX8) (N := 36) hx hb hts i_d_feed_X8 hown hK hP 0 rfl rfl 1 (by decide) (hts (.fieldLink RX8 9 "HushWatchModel" "tape" "[I") (List.mem_of_getElem? (i := 1) rfl)) (fun _ h9 => h9) rfl dX8_feed_89 ?_
    refine lv_aload_n hx hb dX8_feed_92 rfl (lv_at hl 1 rfl) ?_
    refine va_get (D := E.1) (ci := 9) (v := .int (nI n)) (C := RX8) (T := TX8) (N := 36) hx hb hts i_d_feed_X8 hown hK hP 0 rfl rfl 2 (by decide) (hts (.fieldLink RX8 57 "HushWatchModel" "taped" "I") (List.mem_of_getElem? (i := 2) rfl)) (fun _ h9 => h9) rfl dX8_feed_93 ?_
    refine lv_iload hx hb dX8_feed_96 (lv_at hl 0 rfl) ?_
    refine va_iast hx hb hK hP hD hS 1 0 rfl rfl (vp_in_nI (by omega) (by decide)) dX8_feed_98 (fun H locs hP hD hS => ?_)
    have hP : va_P E.1 vwCl [(mo, .inr (9, [.int 0, .ref m_tape, .int (nI n), .int 0, .int 0, .int 0, .int 0, .int 0, .long 0, .int 0, .int 0, .int 0, .int 0, .ref m_readPlace, .ref m_script, .ref m_scriptLong, .int 0, .ref m_now, .ref m_refused, .int 0, .ref m_shareX, .ref m_shareY, .int 0, .int 0, .ref m_askedRow, .int 0, .ref m_kept, .int 0, .long 0, .ref m_aside, .int 0, .int 0, .ref m_spelled, .int 0, .ref m_image, .int 0])), (m_tape, .inl (E.2.1, 320, .inl (upd f (nI n : Int32).toNatClampNeg r_1)))] H := hP
    have hD : va_D A [(mo, .inr (9, [.int 0, .ref m_tape, .int (nI n), .int 0, .int 0, .int 0, .int 0, .int 0, .long 0, .int 0, .int 0, .int 0, .int 0, .ref m_readPlace, .ref m_script, .ref m_scriptLong, .int 0, .ref m_now, .ref m_refused, .int 0, .ref m_shareX, .ref m_shareY, .int 0, .int 0, .ref m_askedRow, .int 0, .ref m_kept, .int 0, .long 0, .ref m_aside, .int 0, .int 0, .ref m_spelled, .int 0, .ref m_image, .int 0])), (m_tape, .inl (E.2.1, 320, .inl (upd f (nI n : Int32).toNatClampNeg r_1)))] := hD
    generalize upd f (nI n : Int32).toNatClampNeg r_1 = f_3 at hP hD
    refine lv_aload_n hx hb dX8_feed_99 rfl (lv_at hl 1 rfl) ?_
    refine lv_dup hx hb dX8_feed_100 rfl ?_
    refine va_get (D := E.1) (ci := 9) (v := .int (nI n)) (C := RX8) (T := TX8) (N := 36) hx hb hts i_d_feed_X8 hown hK hP 0 rfl rfl 2 (by decide) (hts (.fieldLink RX8 57 "HushWatchModel" "taped" "I") (List.mem_of_getElem? (i := 2) rfl)) (fun _ h9 => h9) rfl dX8_feed_101 ?_
    refine lv_iconst (v := 1) hx hb dX8_feed_104 (by decide) ?_
    refine lv_iadd hx hb dX8_feed_105 ?_
    refine lv_topi (fun z_4 ez_4 => ?_)
    obtain rfl : z_4 = nI (n + 1) := ez_4.trans (nI_add _ 1)
    refine va_put (D := E.1) (ci := 9) (v := .int (nI (n + 1))) (ty := .int) (C := RX8) (T := TX8) (N := 36) hx hb hts i_d_feed_X8 tyX8 tyX8_ok nmX8 hown hK hP hD hS 0 rfl rfl 2 (by decide) (hts (.fieldLink RX8 57 "HushWatchModel" "taped" "I") (List.mem_of_getElem? (i := 2) rfl)) (fun _ h9 => h9) rfl (by decide +kernel) rfl rfl (Nat.le_of_ble_eq_true rfl) dX8_feed_106 (fun H locs hP hD hS => ?_)
    have hP : va_P E.1 vwCl [(mo, .inr (9, [.int 0, .ref m_tape, .int (nI (n + 1)), .int 0, .int 0, .int 0, .int 0, .int 0, .long 0, .int 0, .int 0, .int 0, .int 0, .ref m_readPlace, .ref m_script, .ref m_scriptLong, .int 0, .ref m_now, .ref m_refused, .int 0, .ref m_shareX, .ref m_shareY, .int 0, .int 0, .ref m_askedRow, .int 0, .ref m_kept, .int 0, .long 0, .ref m_aside, .int 0, .int 0, .ref m_spelled, .int 0, .ref m_image, .int 0])), (m_tape, .inl (E.2.1, 320, .inl f_3))] H := hP
    have hD : va_D A [(mo, .inr (9, [.int 0, .ref m_tape, .int (nI (n + 1)), .int 0, .int 0, .int 0, .int 0, .int 0, .long 0, .int 0, .int 0, .int 0, .int 0, .ref m_readPlace, .ref m_script, .ref m_scriptLong, .int 0, .ref m_now, .ref m_refused, .int 0, .ref m_shareX, .ref m_shareY, .int 0, .int 0, .ref m_askedRow, .int 0, .ref m_kept, .int 0, .long 0, .ref m_aside, .int 0, .int 0, .ref m_spelled, .int 0, .ref m_image, .int 0])), (m_tape, .inl (E.2.1, 320, .inl f_3))] := hD
    refine lv_iinc (v := 14) (lv' := [(7, .int 14), (8, .int r_1), (0, .ref mo), (1, .int p0), (2, .int p1), (3, .int p2), (4, .int p3), (5, .int p4)]) hx hb dX8_feed_109 hl (k := 7) rfl (by decide) (by decide) rfl (fun ls hl => ?_)
    refine lv_goto (tgt := 62) hx hb dX8_feed_112 (by decide) ?_
    have e8 : nzN p3 16 = 1 := by unfold nzN; rw [← hr_1, if_neg c_2]
    have e9 : n + 1 = n + nzN p3 16 := by omega
    have hP : va_P E.1 vwCl [(mo, .inr (9, [.int 0, .ref m_tape, .int (nI (n + nzN p3 16)), .int 0, .int 0, .int 0, .int 0, .int 0, .long 0, .int 0, .int 0, .int 0, .int 0, .ref m_readPlace, .ref m_script, .ref m_scriptLong, .int 0, .ref m_now, .ref m_refused, .int 0, .ref m_shareX, .ref m_shareY, .int 0, .int 0, .ref m_askedRow, .int 0, .ref m_kept, .int 0, .long 0, .ref m_aside, .int 0, .int 0, .ref m_spelled, .int 0, .ref m_image, .int 0])), (m_tape, .inl (E.2.1, 320, .inl f_3))] H := by rw [← e9]; exact hP
    have hD : va_D A [(mo, .inr (9, [.int 0, .ref m_tape, .int (nI (n + nzN p3 16)), .int 0, .int 0, .int 0, .int 0, .int 0, .long 0, .int 0, .int 0, .int 0, .int 0, .ref m_readPlace, .ref m_script, .ref m_scriptLong, .int 0, .ref m_now, .ref m_refused, .int 0, .ref m_shareX, .ref m_shareY, .int 0, .int 0, .ref m_askedRow, .int 0, .ref m_kept, .int 0, .long 0, .ref m_aside, .int 0, .int 0, .ref m_spelled, .int 0, .ref m_image, .int 0])), (m_tape, .inl (E.2.1, 320, .inl f_3))] := by rw [← e9]; exact hD
    exact K H locs f_3 ls (hP.sub [0, 1] rfl) (hD.sub [0, 1] (by decide) rfl) hS (lv_sub hl [2, 3, 4, 5, 6, 7, 0] rfl)

set_option maxHeartbeats 4000000 in
set_option maxRecDepth 100000 in
theorem mf_it14 {p : Program} (l : Launch) {e : Env} {s : State} {m : MethodId} {below : List Frame} {meth : Method} {c : Code} {Q : State → Prop} (E : EE) {mo m_tape m_readPlace m_script m_scriptLong m_now m_refused m_shareX m_shareY m_askedRow m_kept m_aside m_spelled m_image : Nat} {p0 p1 p2 p3 p4 : Int32} (hx : p.tables.exec = Jvm.exec) (hb : c.code = cX8_feed) (hml : c.maxLocals = 9) (hown : s.vm.findClass RX8 = some m.cls) (hts : ∀ w ∈ v_d_feed, w.before #[Value.ref mo, Value.int p0, Value.int p1, Value.int p2, Value.int p3, Value.int p4] s = true) (hK : va_K E.1 vwCl (TY E) s) (hN : NX s) {A : Nat → Prop} (hA : ∀ q : Nat, s.heap.size ≤ q → A q) (n : Nat) (hn : n < 320)
    (K : ∀ (H : Heap) (locs : List Loc) (f : Nat → Int32) (ls : Array Slot), va_P E.1 vwCl [(mo, .inr (9, [.int 0, .ref m_tape, .int (nI (n + nzN p3 8)), .int 0, .int 0, .int 0, .int 0, .int 0, .long 0, .int 0, .int 0, .int 0, .int 0, .ref m_readPlace, .ref m_script, .ref m_scriptLong, .int 0, .ref m_now, .ref m_refused, .int 0, .ref m_shareX, .ref m_shareY, .int 0, .int 0, .ref m_askedRow, .int 0, .ref m_kept, .int 0, .long 0, .ref m_aside, .int 0, .int 0, .ref m_spelled, .int 0, .ref m_image, .int 0])), (m_tape, .inl (E.2.1, 320, .inl f))] H → va_D A [(mo, .inr (9, [.int 0, .ref m_tape, .int (nI (n + nzN p3 8)), .int 0, .int 0, .int 0, .int 0, .int 0, .long 0, .int 0, .int 0, .int 0, .int 0, .ref m_readPlace, .ref m_script, .ref m_scriptLong, .int 0, .ref m_now, .ref m_refused, .int 0, .ref m_shareX, .ref m_shareY, .int 0, .int 0, .ref m_askedRow, .int 0, .ref m_kept, .int 0, .long 0, .ref m_aside, .int 0, .int 0, .ref m_spelled, .int 0, .ref m_image, .int 0])), (m_tape, .inl (E.2.1, 320, .inl f))] → va_S A s.heap H locs → lv_has ls 9 [(0, .ref mo), (1, .int p0), (2, .int p1), (3, .int p2), (4, .int p3), (5, .int p4), (7, .int 15)] → W p l e ({ frames := 1, cells := 0, slots := 0, locals := 26 } : Room) s m #[Value.ref mo, Value.int p0, Value.int p1, Value.int p2, Value.int p3, Value.int p4] below meth c H locs 0 0 Q (F0 m 62 ls [])) :
    ∀ (H : Heap) (locs : List Loc) (f : Nat → Int32) (ls : Array Slot), va_P E.1 vwCl [(mo, .inr (9, [.int 0, .ref m_tape, .int (nI n), .int 0, .int 0, .int 0, .int 0, .int 0, .long 0, .int 0, .int 0, .int 0, .int 0, .ref m_readPlace, .ref m_script, .ref m_scriptLong, .int 0, .ref m_now, .ref m_refused, .int 0, .ref m_shareX, .ref m_shareY, .int 0, .int 0, .ref m_askedRow, .int 0, .ref m_kept, .int 0, .long 0, .ref m_aside, .int 0, .int 0, .ref m_spelled, .int 0, .ref m_image, .int 0])), (m_tape, .inl (E.2.1, 320, .inl f))] H → va_D A [(mo, .inr (9, [.int 0, .ref m_tape, .int (nI n), .int 0, .int 0, .int 0, .int 0, .int 0, .long 0, .int 0, .int 0, .int 0, .int 0, .ref m_readPlace, .ref m_script, .ref m_scriptLong, .int 0, .ref m_now, .ref m_refused, .int 0, .ref m_shareX, .ref m_shareY, .int 0, .int 0, .ref m_askedRow, .int 0, .ref m_kept, .int 0, .long 0, .ref m_aside, .int 0, .int 0, .ref m_spelled, .int 0, .ref m_image, .int 0])), (m_tape, .inl (E.2.1, 320, .inl f))] → va_S A s.heap H locs → lv_has ls 9 [(0, .ref mo), (1, .int p0), (2, .int p1), (3, .int p2), (4, .int p3), (5, .int p4), (7, .int 14)] → W p l e ({ frames := 1, cells := 0, slots := 0, locals := 26 } : Room) s m #[Value.ref mo, Value.int p0, Value.int p1, Value.int p2, Value.int p3, Value.int p4] below meth c H locs 0 0 Q (F0 m 62 ls []) := by
  intro H locs f ls hP hD hS hl
  refine lv_iload hx hb dX8_feed_62 (lv_at hl 6 rfl) ?_
  refine lv_bipush (v := 20) hx hb dX8_feed_64 (by decide) ?_
  refine lv_icmp_ge (tgt := 115) hx hb dX8_feed_66 (by decide) (fun q => absurd q (by decide)) (fun _ => ?_)
  refine lv_iload_n hx hb dX8_feed_69 rfl (lv_at hl 1 rfl) ?_
  refine lv_iload_n hx hb dX8_feed_70 rfl (lv_at hl 2 rfl) ?_
  refine lv_iload_n hx hb dX8_feed_71 rfl (lv_at hl 3 rfl) ?_
  refine lv_iload hx hb dX8_feed_72 (lv_at hl 4 rfl) ?_
  refine lv_iload hx hb dX8_feed_74 (lv_at hl 5 rfl) ?_
  refine lv_iload hx hb dX8_feed_76 (lv_at hl 6 rfl) ?_
  have hPc : va_P E.1 vwCl [] H := fun k q h => by simp at h
  refine pc_i (va_runS (As := [.int p0, .int p1, .int p2, .int p3, .int p4, .int 14]) (rest := []) ⟨hx, hb, hml, hown, hts⟩ (d_byteOf14 l E p0 p1 p2 p3 p4) (va_cwS 6 hts g_d_feed_d_byteOf14_53 rfl rfl rfl (by decide +kernel) ⟨Nat.le_of_ble_eq_true rfl, Nat.le_of_ble_eq_true rfl⟩) ⟨pP.blind, (pP.pre ⟨hK, hN⟩ hPc)⟩ rfl rfl hl.1 rfl (lv_room (Nat.le_of_ble_eq_true rfl)) dX8_feed_78 ⟨Nat.le_of_ble_eq_true rfl, Nat.le_of_ble_eq_true rfl⟩) (fun r_1 hr_1 => ?_)
  refine lv_istore (lv' := [(8, .int r_1), (0, .ref mo), (1, .int p0), (2, .int p1), (3, .int p2), (4, .int p3), (5, .int p4), (7, .int 14)]) hx hb dX8_feed_81 hl (by decide) rfl (fun ls hl => ?_)
  refine lv_iload hx hb dX8_feed_83 (lv_at hl 0 rfl) ?_
  refine lv_if_eq (tgt := 109) hx hb dX8_feed_85 (by decide) (fun c_2 => ?_) (fun c_2 => ?_)
  ·
    refine lv_iinc (v := 15) (lv' := [(7, .int 15), (8, .int r_1), (0, .ref mo), (1, .int p0), (2, .int p1), (3, .int p2), (4, .int p3), (5, .int p4)]) hx hb dX8_feed_109 hl (k := 7) rfl (by decide) (by decide) rfl (fun ls hl => ?_)
    refine lv_goto (tgt := 62) hx hb dX8_feed_112 (by decide) ?_
    have e8 : nzN p3 8 = 0 := by unfold nzN; rw [← hr_1, if_pos c_2]
    have e9 : n = n + nzN p3 8 := by omega
    have hP : va_P E.1 vwCl [(mo, .inr (9, [.int 0, .ref m_tape, .int (nI (n + nzN p3 8)), .int 0, .int 0, .int 0, .int 0, .int 0, .long 0, .int 0, .int 0, .int 0, .int 0, .ref m_readPlace, .ref m_script, .ref m_scriptLong, .int 0, .ref m_now, .ref m_refused, .int 0, .ref m_shareX, .ref m_shareY, .int 0, .int 0, .ref m_askedRow, .int 0, .ref m_kept, .int 0, .long 0, .ref m_aside, .int 0, .int 0, .ref m_spelled, .int 0, .ref m_image, .int 0])), (m_tape, .inl (E.2.1, 320, .inl f))] H := by rw [← e9]; exact hP
    have hD : va_D A [(mo, .inr (9, [.int 0, .ref m_tape, .int (nI (n + nzN p3 8)), .int 0, .int 0, .int 0, .int 0, .int 0, .long 0, .int 0, .int 0, .int 0, .int 0, .ref m_readPlace, .ref m_script, .ref m_scriptLong, .int 0, .ref m_now, .ref m_refused, .int 0, .ref m_shareX, .ref m_shareY, .int 0, .int 0, .ref m_askedRow, .int 0, .ref m_kept, .int 0, .long 0, .ref m_aside, .int 0, .int 0, .ref m_spelled, .int 0, .ref m_image, .int 0])), (m_tape, .inl (E.2.1, 320, .inl f))] := by rw [← e9]; exact hD
    exact K H locs f ls (hP.sub [0, 1] rfl) (hD.sub [0, 1] (by decide) rfl) hS (lv_sub hl [2, 3, 4, 5, 6, 7, 0] rfl)
  ·
    refine lv_aload_n hx hb dX8_feed_88 rfl (lv_at hl 1 rfl) ?_
    refine va_get (D := E.1) (ci := 9) (v := .ref m_tape) (C := RX8) (T := TX8) (N := 36) hx hb hts i_d_feed_X8 hown hK hP 0 rfl rfl 1 (by decide) (hts (.fieldLink RX8 9 "HushWatchModel" "tape" "[I") (List.mem_of_getElem? (i := 1) rfl)) (fun _ h9 => h9) rfl dX8_feed_89 ?_
    refine lv_aload_n hx hb dX8_feed_92 rfl (lv_at hl 1 rfl) ?_
    refine va_get (D := E.1) (ci := 9) (v := .int (nI n)) (C := RX8) (T := TX8) (N := 36) hx hb hts i_d_feed_X8 hown hK hP 0 rfl rfl 2 (by decide) (hts (.fieldLink RX8 57 "HushWatchModel" "taped" "I") (List.mem_of_getElem? (i := 2) rfl)) (fun _ h9 => h9) rfl dX8_feed_93 ?_
    refine lv_iload hx hb dX8_feed_96 (lv_at hl 0 rfl) ?_
    refine va_iast hx hb hK hP hD hS 1 0 rfl rfl (vp_in_nI (by omega) (by decide)) dX8_feed_98 (fun H locs hP hD hS => ?_)
    have hP : va_P E.1 vwCl [(mo, .inr (9, [.int 0, .ref m_tape, .int (nI n), .int 0, .int 0, .int 0, .int 0, .int 0, .long 0, .int 0, .int 0, .int 0, .int 0, .ref m_readPlace, .ref m_script, .ref m_scriptLong, .int 0, .ref m_now, .ref m_refused, .int 0, .ref m_shareX, .ref m_shareY, .int 0, .int 0, .ref m_askedRow, .int 0, .ref m_kept, .int 0, .long 0, .ref m_aside, .int 0, .int 0, .ref m_spelled, .int 0, .ref m_image, .int 0])), (m_tape, .inl (E.2.1, 320, .inl (upd f (nI n : Int32).toNatClampNeg r_1)))] H := hP
    have hD : va_D A [(mo, .inr (9, [.int 0, .ref m_tape, .int (nI n), .int 0, .int 0, .int 0, .int 0, .int 0, .long 0, .int 0, .int 0, .int 0, .int 0, .ref m_readPlace, .ref m_script, .ref m_scriptLong, .int 0, .ref m_now, .ref m_refused, .int 0, .ref m_shareX, .ref m_shareY, .int 0, .int 0, .ref m_askedRow, .int 0, .ref m_kept, .int 0, .long 0, .ref m_aside, .int 0, .int 0, .ref m_spelled, .int 0, .ref m_image, .int 0])), (m_tape, .inl (E.2.1, 320, .inl (upd f (nI n : Int32).toNatClampNeg r_1)))] := hD
    generalize upd f (nI n : Int32).toNatClampNeg r_1 = f_3 at hP hD
    refine lv_aload_n hx hb dX8_feed_99 rfl (lv_at hl 1 rfl) ?_
    refine lv_dup hx hb dX8_feed_100 rfl ?_
    refine va_get (D := E.1) (ci := 9) (v := .int (nI n)) (C := RX8) (T := TX8) (N := 36) hx hb hts i_d_feed_X8 hown hK hP 0 rfl rfl 2 (by decide) (hts (.fieldLink RX8 57 "HushWatchModel" "taped" "I") (List.mem_of_getElem? (i := 2) rfl)) (fun _ h9 => h9) rfl dX8_feed_101 ?_
    refine lv_iconst (v := 1) hx hb dX8_feed_104 (by decide) ?_
    refine lv_iadd hx hb dX8_feed_105 ?_
    refine lv_topi (fun z_4 ez_4 => ?_)
    obtain rfl : z_4 = nI (n + 1) := ez_4.trans (nI_add _ 1)
    refine va_put (D := E.1) (ci := 9) (v := .int (nI (n + 1))) (ty := .int) (C := RX8) (T := TX8) (N := 36) hx hb hts i_d_feed_X8 tyX8 tyX8_ok nmX8 hown hK hP hD hS 0 rfl rfl 2 (by decide) (hts (.fieldLink RX8 57 "HushWatchModel" "taped" "I") (List.mem_of_getElem? (i := 2) rfl)) (fun _ h9 => h9) rfl (by decide +kernel) rfl rfl (Nat.le_of_ble_eq_true rfl) dX8_feed_106 (fun H locs hP hD hS => ?_)
    have hP : va_P E.1 vwCl [(mo, .inr (9, [.int 0, .ref m_tape, .int (nI (n + 1)), .int 0, .int 0, .int 0, .int 0, .int 0, .long 0, .int 0, .int 0, .int 0, .int 0, .ref m_readPlace, .ref m_script, .ref m_scriptLong, .int 0, .ref m_now, .ref m_refused, .int 0, .ref m_shareX, .ref m_shareY, .int 0, .int 0, .ref m_askedRow, .int 0, .ref m_kept, .int 0, .long 0, .ref m_aside, .int 0, .int 0, .ref m_spelled, .int 0, .ref m_image, .int 0])), (m_tape, .inl (E.2.1, 320, .inl f_3))] H := hP
    have hD : va_D A [(mo, .inr (9, [.int 0, .ref m_tape, .int (nI (n + 1)), .int 0, .int 0, .int 0, .int 0, .int 0, .long 0, .int 0, .int 0, .int 0, .int 0, .ref m_readPlace, .ref m_script, .ref m_scriptLong, .int 0, .ref m_now, .ref m_refused, .int 0, .ref m_shareX, .ref m_shareY, .int 0, .int 0, .ref m_askedRow, .int 0, .ref m_kept, .int 0, .long 0, .ref m_aside, .int 0, .int 0, .ref m_spelled, .int 0, .ref m_image, .int 0])), (m_tape, .inl (E.2.1, 320, .inl f_3))] := hD
    refine lv_iinc (v := 15) (lv' := [(7, .int 15), (8, .int r_1), (0, .ref mo), (1, .int p0), (2, .int p1), (3, .int p2), (4, .int p3), (5, .int p4)]) hx hb dX8_feed_109 hl (k := 7) rfl (by decide) (by decide) rfl (fun ls hl => ?_)
    refine lv_goto (tgt := 62) hx hb dX8_feed_112 (by decide) ?_
    have e8 : nzN p3 8 = 1 := by unfold nzN; rw [← hr_1, if_neg c_2]
    have e9 : n + 1 = n + nzN p3 8 := by omega
    have hP : va_P E.1 vwCl [(mo, .inr (9, [.int 0, .ref m_tape, .int (nI (n + nzN p3 8)), .int 0, .int 0, .int 0, .int 0, .int 0, .long 0, .int 0, .int 0, .int 0, .int 0, .ref m_readPlace, .ref m_script, .ref m_scriptLong, .int 0, .ref m_now, .ref m_refused, .int 0, .ref m_shareX, .ref m_shareY, .int 0, .int 0, .ref m_askedRow, .int 0, .ref m_kept, .int 0, .long 0, .ref m_aside, .int 0, .int 0, .ref m_spelled, .int 0, .ref m_image, .int 0])), (m_tape, .inl (E.2.1, 320, .inl f_3))] H := by rw [← e9]; exact hP
    have hD : va_D A [(mo, .inr (9, [.int 0, .ref m_tape, .int (nI (n + nzN p3 8)), .int 0, .int 0, .int 0, .int 0, .int 0, .long 0, .int 0, .int 0, .int 0, .int 0, .ref m_readPlace, .ref m_script, .ref m_scriptLong, .int 0, .ref m_now, .ref m_refused, .int 0, .ref m_shareX, .ref m_shareY, .int 0, .int 0, .ref m_askedRow, .int 0, .ref m_kept, .int 0, .long 0, .ref m_aside, .int 0, .int 0, .ref m_spelled, .int 0, .ref m_image, .int 0])), (m_tape, .inl (E.2.1, 320, .inl f_3))] := by rw [← e9]; exact hD
    exact K H locs f_3 ls (hP.sub [0, 1] rfl) (hD.sub [0, 1] (by decide) rfl) hS (lv_sub hl [2, 3, 4, 5, 6, 7, 0] rfl)

set_option maxHeartbeats 4000000 in
set_option maxRecDepth 100000 in
theorem mf_it15 {p : Program} (l : Launch) {e : Env} {s : State} {m : MethodId} {below : List Frame} {meth : Method} {c : Code} {Q : State → Prop} (E : EE) {mo m_tape m_readPlace m_script m_scriptLong m_now m_refused m_shareX m_shareY m_askedRow m_kept m_aside m_spelled m_image : Nat} {p0 p1 p2 p3 p4 : Int32} (hx : p.tables.exec = Jvm.exec) (hb : c.code = cX8_feed) (hml : c.maxLocals = 9) (hown : s.vm.findClass RX8 = some m.cls) (hts : ∀ w ∈ v_d_feed, w.before #[Value.ref mo, Value.int p0, Value.int p1, Value.int p2, Value.int p3, Value.int p4] s = true) (hK : va_K E.1 vwCl (TY E) s) (hN : NX s) {A : Nat → Prop} (hA : ∀ q : Nat, s.heap.size ≤ q → A q) (n : Nat) (hn : n < 320)
    (K : ∀ (H : Heap) (locs : List Loc) (f : Nat → Int32) (ls : Array Slot), va_P E.1 vwCl [(mo, .inr (9, [.int 0, .ref m_tape, .int (nI (n + nzN p3 0)), .int 0, .int 0, .int 0, .int 0, .int 0, .long 0, .int 0, .int 0, .int 0, .int 0, .ref m_readPlace, .ref m_script, .ref m_scriptLong, .int 0, .ref m_now, .ref m_refused, .int 0, .ref m_shareX, .ref m_shareY, .int 0, .int 0, .ref m_askedRow, .int 0, .ref m_kept, .int 0, .long 0, .ref m_aside, .int 0, .int 0, .ref m_spelled, .int 0, .ref m_image, .int 0])), (m_tape, .inl (E.2.1, 320, .inl f))] H → va_D A [(mo, .inr (9, [.int 0, .ref m_tape, .int (nI (n + nzN p3 0)), .int 0, .int 0, .int 0, .int 0, .int 0, .long 0, .int 0, .int 0, .int 0, .int 0, .ref m_readPlace, .ref m_script, .ref m_scriptLong, .int 0, .ref m_now, .ref m_refused, .int 0, .ref m_shareX, .ref m_shareY, .int 0, .int 0, .ref m_askedRow, .int 0, .ref m_kept, .int 0, .long 0, .ref m_aside, .int 0, .int 0, .ref m_spelled, .int 0, .ref m_image, .int 0])), (m_tape, .inl (E.2.1, 320, .inl f))] → va_S A s.heap H locs → lv_has ls 9 [(0, .ref mo), (1, .int p0), (2, .int p1), (3, .int p2), (4, .int p3), (5, .int p4), (7, .int 16)] → W p l e ({ frames := 1, cells := 0, slots := 0, locals := 26 } : Room) s m #[Value.ref mo, Value.int p0, Value.int p1, Value.int p2, Value.int p3, Value.int p4] below meth c H locs 0 0 Q (F0 m 62 ls [])) :
    ∀ (H : Heap) (locs : List Loc) (f : Nat → Int32) (ls : Array Slot), va_P E.1 vwCl [(mo, .inr (9, [.int 0, .ref m_tape, .int (nI n), .int 0, .int 0, .int 0, .int 0, .int 0, .long 0, .int 0, .int 0, .int 0, .int 0, .ref m_readPlace, .ref m_script, .ref m_scriptLong, .int 0, .ref m_now, .ref m_refused, .int 0, .ref m_shareX, .ref m_shareY, .int 0, .int 0, .ref m_askedRow, .int 0, .ref m_kept, .int 0, .long 0, .ref m_aside, .int 0, .int 0, .ref m_spelled, .int 0, .ref m_image, .int 0])), (m_tape, .inl (E.2.1, 320, .inl f))] H → va_D A [(mo, .inr (9, [.int 0, .ref m_tape, .int (nI n), .int 0, .int 0, .int 0, .int 0, .int 0, .long 0, .int 0, .int 0, .int 0, .int 0, .ref m_readPlace, .ref m_script, .ref m_scriptLong, .int 0, .ref m_now, .ref m_refused, .int 0, .ref m_shareX, .ref m_shareY, .int 0, .int 0, .ref m_askedRow, .int 0, .ref m_kept, .int 0, .long 0, .ref m_aside, .int 0, .int 0, .ref m_spelled, .int 0, .ref m_image, .int 0])), (m_tape, .inl (E.2.1, 320, .inl f))] → va_S A s.heap H locs → lv_has ls 9 [(0, .ref mo), (1, .int p0), (2, .int p1), (3, .int p2), (4, .int p3), (5, .int p4), (7, .int 15)] → W p l e ({ frames := 1, cells := 0, slots := 0, locals := 26 } : Room) s m #[Value.ref mo, Value.int p0, Value.int p1, Value.int p2, Value.int p3, Value.int p4] below meth c H locs 0 0 Q (F0 m 62 ls []) := by
  intro H locs f ls hP hD hS hl
  refine lv_iload hx hb dX8_feed_62 (lv_at hl 6 rfl) ?_
  refine lv_bipush (v := 20) hx hb dX8_feed_64 (by decide) ?_
  refine lv_icmp_ge (tgt := 115) hx hb dX8_feed_66 (by decide) (fun q => absurd q (by decide)) (fun _ => ?_)
  refine lv_iload_n hx hb dX8_feed_69 rfl (lv_at hl 1 rfl) ?_
  refine lv_iload_n hx hb dX8_feed_70 rfl (lv_at hl 2 rfl) ?_
  refine lv_iload_n hx hb dX8_feed_71 rfl (lv_at hl 3 rfl) ?_
  refine lv_iload hx hb dX8_feed_72 (lv_at hl 4 rfl) ?_
  refine lv_iload hx hb dX8_feed_74 (lv_at hl 5 rfl) ?_
  refine lv_iload hx hb dX8_feed_76 (lv_at hl 6 rfl) ?_
  have hPc : va_P E.1 vwCl [] H := fun k q h => by simp at h
  refine pc_i (va_runS (As := [.int p0, .int p1, .int p2, .int p3, .int p4, .int 15]) (rest := []) ⟨hx, hb, hml, hown, hts⟩ (d_byteOf15 l E p0 p1 p2 p3 p4) (va_cwS 6 hts g_d_feed_d_byteOf15_53 rfl rfl rfl (by decide +kernel) ⟨Nat.le_of_ble_eq_true rfl, Nat.le_of_ble_eq_true rfl⟩) ⟨pP.blind, (pP.pre ⟨hK, hN⟩ hPc)⟩ rfl rfl hl.1 rfl (lv_room (Nat.le_of_ble_eq_true rfl)) dX8_feed_78 ⟨Nat.le_of_ble_eq_true rfl, Nat.le_of_ble_eq_true rfl⟩) (fun r_1 hr_1 => ?_)
  refine lv_istore (lv' := [(8, .int r_1), (0, .ref mo), (1, .int p0), (2, .int p1), (3, .int p2), (4, .int p3), (5, .int p4), (7, .int 15)]) hx hb dX8_feed_81 hl (by decide) rfl (fun ls hl => ?_)
  refine lv_iload hx hb dX8_feed_83 (lv_at hl 0 rfl) ?_
  refine lv_if_eq (tgt := 109) hx hb dX8_feed_85 (by decide) (fun c_2 => ?_) (fun c_2 => ?_)
  ·
    refine lv_iinc (v := 16) (lv' := [(7, .int 16), (8, .int r_1), (0, .ref mo), (1, .int p0), (2, .int p1), (3, .int p2), (4, .int p3), (5, .int p4)]) hx hb dX8_feed_109 hl (k := 7) rfl (by decide) (by decide) rfl (fun ls hl => ?_)
    refine lv_goto (tgt := 62) hx hb dX8_feed_112 (by decide) ?_
    have e8 : nzN p3 0 = 0 := by unfold nzN; rw [← hr_1, if_pos c_2]
    have e9 : n = n + nzN p3 0 := by omega
    have hP : va_P E.1 vwCl [(mo, .inr (9, [.int 0, .ref m_tape, .int (nI (n + nzN p3 0)), .int 0, .int 0, .int 0, .int 0, .int 0, .long 0, .int 0, .int 0, .int 0, .int 0, .ref m_readPlace, .ref m_script, .ref m_scriptLong, .int 0, .ref m_now, .ref m_refused, .int 0, .ref m_shareX, .ref m_shareY, .int 0, .int 0, .ref m_askedRow, .int 0, .ref m_kept, .int 0, .long 0, .ref m_aside, .int 0, .int 0, .ref m_spelled, .int 0, .ref m_image, .int 0])), (m_tape, .inl (E.2.1, 320, .inl f))] H := by rw [← e9]; exact hP
    have hD : va_D A [(mo, .inr (9, [.int 0, .ref m_tape, .int (nI (n + nzN p3 0)), .int 0, .int 0, .int 0, .int 0, .int 0, .long 0, .int 0, .int 0, .int 0, .int 0, .ref m_readPlace, .ref m_script, .ref m_scriptLong, .int 0, .ref m_now, .ref m_refused, .int 0, .ref m_shareX, .ref m_shareY, .int 0, .int 0, .ref m_askedRow, .int 0, .ref m_kept, .int 0, .long 0, .ref m_aside, .int 0, .int 0, .ref m_spelled, .int 0, .ref m_image, .int 0])), (m_tape, .inl (E.2.1, 320, .inl f))] := by rw [← e9]; exact hD
    exact K H locs f ls (hP.sub [0, 1] rfl) (hD.sub [0, 1] (by decide) rfl) hS (lv_sub hl [2, 3, 4, 5, 6, 7, 0] rfl)
  ·
    refine lv_aload_n hx hb dX8_feed_88 rfl (lv_at hl 1 rfl) ?_
    refine va_get (D := E.1) (ci := 9) (v := .ref m_tape) (C := RX8) (T := TX8) (N := 36) hx hb hts i_d_feed_X8 hown hK hP 0 rfl rfl 1 (by decide) (hts (.fieldLink RX8 9 "HushWatchModel" "tape" "[I") (List.mem_of_getElem? (i := 1) rfl)) (fun _ h9 => h9) rfl dX8_feed_89 ?_
    refine lv_aload_n hx hb dX8_feed_92 rfl (lv_at hl 1 rfl) ?_
    refine va_get (D := E.1) (ci := 9) (v := .int (nI n)) (C := RX8) (T := TX8) (N := 36) hx hb hts i_d_feed_X8 hown hK hP 0 rfl rfl 2 (by decide) (hts (.fieldLink RX8 57 "HushWatchModel" "taped" "I") (List.mem_of_getElem? (i := 2) rfl)) (fun _ h9 => h9) rfl dX8_feed_93 ?_
    refine lv_iload hx hb dX8_feed_96 (lv_at hl 0 rfl) ?_
    refine va_iast hx hb hK hP hD hS 1 0 rfl rfl (vp_in_nI (by omega) (by decide)) dX8_feed_98 (fun H locs hP hD hS => ?_)
    have hP : va_P E.1 vwCl [(mo, .inr (9, [.int 0, .ref m_tape, .int (nI n), .int 0, .int 0, .int 0, .int 0, .int 0, .long 0, .int 0, .int 0, .int 0, .int 0, .ref m_readPlace, .ref m_script, .ref m_scriptLong, .int 0, .ref m_now, .ref m_refused, .int 0, .ref m_shareX, .ref m_shareY, .int 0, .int 0, .ref m_askedRow, .int 0, .ref m_kept, .int 0, .long 0, .ref m_aside, .int 0, .int 0, .ref m_spelled, .int 0, .ref m_image, .int 0])), (m_tape, .inl (E.2.1, 320, .inl (upd f (nI n : Int32).toNatClampNeg r_1)))] H := hP
    have hD : va_D A [(mo, .inr (9, [.int 0, .ref m_tape, .int (nI n), .int 0, .int 0, .int 0, .int 0, .int 0, .long 0, .int 0, .int 0, .int 0, .int 0, .ref m_readPlace, .ref m_script, .ref m_scriptLong, .int 0, .ref m_now, .ref m_refused, .int 0, .ref m_shareX, .ref m_shareY, .int 0, .int 0, .ref m_askedRow, .int 0, .ref m_kept, .int 0, .long 0, .ref m_aside, .int 0, .int 0, .ref m_spelled, .int 0, .ref m_image, .int 0])), (m_tape, .inl (E.2.1, 320, .inl (upd f (nI n : Int32).toNatClampNeg r_1)))] := hD
    generalize upd f (nI n : Int32).toNatClampNeg r_1 = f_3 at hP hD
    refine lv_aload_n hx hb dX8_feed_99 rfl (lv_at hl 1 rfl) ?_
    refine lv_dup hx hb dX8_feed_100 rfl ?_
    refine va_get (D := E.1) (ci := 9) (v := .int (nI n)) (C := RX8) (T := TX8) (N := 36) hx hb hts i_d_feed_X8 hown hK hP 0 rfl rfl 2 (by decide) (hts (.fieldLink RX8 57 "HushWatchModel" "taped" "I") (List.mem_of_getElem? (i := 2) rfl)) (fun _ h9 => h9) rfl dX8_feed_101 ?_
    refine lv_iconst (v := 1) hx hb dX8_feed_104 (by decide) ?_
    refine lv_iadd hx hb dX8_feed_105 ?_
    refine lv_topi (fun z_4 ez_4 => ?_)
    obtain rfl : z_4 = nI (n + 1) := ez_4.trans (nI_add _ 1)
    refine va_put (D := E.1) (ci := 9) (v := .int (nI (n + 1))) (ty := .int) (C := RX8) (T := TX8) (N := 36) hx hb hts i_d_feed_X8 tyX8 tyX8_ok nmX8 hown hK hP hD hS 0 rfl rfl 2 (by decide) (hts (.fieldLink RX8 57 "HushWatchModel" "taped" "I") (List.mem_of_getElem? (i := 2) rfl)) (fun _ h9 => h9) rfl (by decide +kernel) rfl rfl (Nat.le_of_ble_eq_true rfl) dX8_feed_106 (fun H locs hP hD hS => ?_)
    have hP : va_P E.1 vwCl [(mo, .inr (9, [.int 0, .ref m_tape, .int (nI (n + 1)), .int 0, .int 0, .int 0, .int 0, .int 0, .long 0, .int 0, .int 0, .int 0, .int 0, .ref m_readPlace, .ref m_script, .ref m_scriptLong, .int 0, .ref m_now, .ref m_refused, .int 0, .ref m_shareX, .ref m_shareY, .int 0, .int 0, .ref m_askedRow, .int 0, .ref m_kept, .int 0, .long 0, .ref m_aside, .int 0, .int 0, .ref m_spelled, .int 0, .ref m_image, .int 0])), (m_tape, .inl (E.2.1, 320, .inl f_3))] H := hP
    have hD : va_D A [(mo, .inr (9, [.int 0, .ref m_tape, .int (nI (n + 1)), .int 0, .int 0, .int 0, .int 0, .int 0, .long 0, .int 0, .int 0, .int 0, .int 0, .ref m_readPlace, .ref m_script, .ref m_scriptLong, .int 0, .ref m_now, .ref m_refused, .int 0, .ref m_shareX, .ref m_shareY, .int 0, .int 0, .ref m_askedRow, .int 0, .ref m_kept, .int 0, .long 0, .ref m_aside, .int 0, .int 0, .ref m_spelled, .int 0, .ref m_image, .int 0])), (m_tape, .inl (E.2.1, 320, .inl f_3))] := hD
    refine lv_iinc (v := 16) (lv' := [(7, .int 16), (8, .int r_1), (0, .ref mo), (1, .int p0), (2, .int p1), (3, .int p2), (4, .int p3), (5, .int p4)]) hx hb dX8_feed_109 hl (k := 7) rfl (by decide) (by decide) rfl (fun ls hl => ?_)
    refine lv_goto (tgt := 62) hx hb dX8_feed_112 (by decide) ?_
    have e8 : nzN p3 0 = 1 := by unfold nzN; rw [← hr_1, if_neg c_2]
    have e9 : n + 1 = n + nzN p3 0 := by omega
    have hP : va_P E.1 vwCl [(mo, .inr (9, [.int 0, .ref m_tape, .int (nI (n + nzN p3 0)), .int 0, .int 0, .int 0, .int 0, .int 0, .long 0, .int 0, .int 0, .int 0, .int 0, .ref m_readPlace, .ref m_script, .ref m_scriptLong, .int 0, .ref m_now, .ref m_refused, .int 0, .ref m_shareX, .ref m_shareY, .int 0, .int 0, .ref m_askedRow, .int 0, .ref m_kept, .int 0, .long 0, .ref m_aside, .int 0, .int 0, .ref m_spelled, .int 0, .ref m_image, .int 0])), (m_tape, .inl (E.2.1, 320, .inl f_3))] H := by rw [← e9]; exact hP
    have hD : va_D A [(mo, .inr (9, [.int 0, .ref m_tape, .int (nI (n + nzN p3 0)), .int 0, .int 0, .int 0, .int 0, .int 0, .long 0, .int 0, .int 0, .int 0, .int 0, .ref m_readPlace, .ref m_script, .ref m_scriptLong, .int 0, .ref m_now, .ref m_refused, .int 0, .ref m_shareX, .ref m_shareY, .int 0, .int 0, .ref m_askedRow, .int 0, .ref m_kept, .int 0, .long 0, .ref m_aside, .int 0, .int 0, .ref m_spelled, .int 0, .ref m_image, .int 0])), (m_tape, .inl (E.2.1, 320, .inl f_3))] := by rw [← e9]; exact hD
    exact K H locs f_3 ls (hP.sub [0, 1] rfl) (hD.sub [0, 1] (by decide) rfl) hS (lv_sub hl [2, 3, 4, 5, 6, 7, 0] rfl)

set_option maxHeartbeats 4000000 in
set_option maxRecDepth 100000 in
theorem mf_it16 {p : Program} (l : Launch) {e : Env} {s : State} {m : MethodId} {below : List Frame} {meth : Method} {c : Code} {Q : State → Prop} (E : EE) {mo m_tape m_readPlace m_script m_scriptLong m_now m_refused m_shareX m_shareY m_askedRow m_kept m_aside m_spelled m_image : Nat} {p0 p1 p2 p3 p4 : Int32} (hx : p.tables.exec = Jvm.exec) (hb : c.code = cX8_feed) (hml : c.maxLocals = 9) (hown : s.vm.findClass RX8 = some m.cls) (hts : ∀ w ∈ v_d_feed, w.before #[Value.ref mo, Value.int p0, Value.int p1, Value.int p2, Value.int p3, Value.int p4] s = true) (hK : va_K E.1 vwCl (TY E) s) (hN : NX s) {A : Nat → Prop} (hA : ∀ q : Nat, s.heap.size ≤ q → A q) (n : Nat) (hn : n < 320)
    (K : ∀ (H : Heap) (locs : List Loc) (f : Nat → Int32) (ls : Array Slot), va_P E.1 vwCl [(mo, .inr (9, [.int 0, .ref m_tape, .int (nI (n + nzN p4 24)), .int 0, .int 0, .int 0, .int 0, .int 0, .long 0, .int 0, .int 0, .int 0, .int 0, .ref m_readPlace, .ref m_script, .ref m_scriptLong, .int 0, .ref m_now, .ref m_refused, .int 0, .ref m_shareX, .ref m_shareY, .int 0, .int 0, .ref m_askedRow, .int 0, .ref m_kept, .int 0, .long 0, .ref m_aside, .int 0, .int 0, .ref m_spelled, .int 0, .ref m_image, .int 0])), (m_tape, .inl (E.2.1, 320, .inl f))] H → va_D A [(mo, .inr (9, [.int 0, .ref m_tape, .int (nI (n + nzN p4 24)), .int 0, .int 0, .int 0, .int 0, .int 0, .long 0, .int 0, .int 0, .int 0, .int 0, .ref m_readPlace, .ref m_script, .ref m_scriptLong, .int 0, .ref m_now, .ref m_refused, .int 0, .ref m_shareX, .ref m_shareY, .int 0, .int 0, .ref m_askedRow, .int 0, .ref m_kept, .int 0, .long 0, .ref m_aside, .int 0, .int 0, .ref m_spelled, .int 0, .ref m_image, .int 0])), (m_tape, .inl (E.2.1, 320, .inl f))] → va_S A s.heap H locs → lv_has ls 9 [(0, .ref mo), (1, .int p0), (2, .int p1), (3, .int p2), (4, .int p3), (5, .int p4), (7, .int 17)] → W p l e ({ frames := 1, cells := 0, slots := 0, locals := 26 } : Room) s m #[Value.ref mo, Value.int p0, Value.int p1, Value.int p2, Value.int p3, Value.int p4] below meth c H locs 0 0 Q (F0 m 62 ls [])) :
    ∀ (H : Heap) (locs : List Loc) (f : Nat → Int32) (ls : Array Slot), va_P E.1 vwCl [(mo, .inr (9, [.int 0, .ref m_tape, .int (nI n), .int 0, .int 0, .int 0, .int 0, .int 0, .long 0, .int 0, .int 0, .int 0, .int 0, .ref m_readPlace, .ref m_script, .ref m_scriptLong, .int 0, .ref m_now, .ref m_refused, .int 0, .ref m_shareX, .ref m_shareY, .int 0, .int 0, .ref m_askedRow, .int 0, .ref m_kept, .int 0, .long 0, .ref m_aside, .int 0, .int 0, .ref m_spelled, .int 0, .ref m_image, .int 0])), (m_tape, .inl (E.2.1, 320, .inl f))] H → va_D A [(mo, .inr (9, [.int 0, .ref m_tape, .int (nI n), .int 0, .int 0, .int 0, .int 0, .int 0, .long 0, .int 0, .int 0, .int 0, .int 0, .ref m_readPlace, .ref m_script, .ref m_scriptLong, .int 0, .ref m_now, .ref m_refused, .int 0, .ref m_shareX, .ref m_shareY, .int 0, .int 0, .ref m_askedRow, .int 0, .ref m_kept, .int 0, .long 0, .ref m_aside, .int 0, .int 0, .ref m_spelled, .int 0, .ref m_image, .int 0])), (m_tape, .inl (E.2.1, 320, .inl f))] → va_S A s.heap H locs → lv_has ls 9 [(0, .ref mo), (1, .int p0), (2, .int p1), (3, .int p2), (4, .int p3), (5, .int p4), (7, .int 16)] → W p l e ({ frames := 1, cells := 0, slots := 0, locals := 26 } : Room) s m #[Value.ref mo, Value.int p0, Value.int p1, Value.int p2, Value.int p3, Value.int p4] below meth c H locs 0 0 Q (F0 m 62 ls []) := by
  intro H locs f ls hP hD hS hl
  refine lv_iload hx hb dX8_feed_62 (lv_at hl 6 rfl) ?_
  refine lv_bipush (v := 20) hx hb dX8_feed_64 (by decide) ?_
  refine lv_icmp_ge (tgt := 115) hx hb dX8_feed_66 (by decide) (fun q => absurd q (by decide)) (fun _ => ?_)
  refine lv_iload_n hx hb dX8_feed_69 rfl (lv_at hl 1 rfl) ?_
  refine lv_iload_n hx hb dX8_feed_70 rfl (lv_at hl 2 rfl) ?_
  refine lv_iload_n hx hb dX8_feed_71 rfl (lv_at hl 3 rfl) ?_
  refine lv_iload hx hb dX8_feed_72 (lv_at hl 4 rfl) ?_
  refine lv_iload hx hb dX8_feed_74 (lv_at hl 5 rfl) ?_
  refine lv_iload hx hb dX8_feed_76 (lv_at hl 6 rfl) ?_
  have hPc : va_P E.1 vwCl [] H := fun k q h => by simp at h
  refine pc_i (va_runS (As := [.int p0, .int p1, .int p2, .int p3, .int p4, .int 16]) (rest := []) ⟨hx, hb, hml, hown, hts⟩ (d_byteOf16 l E p0 p1 p2 p3 p4) (va_cwS 6 hts g_d_feed_d_byteOf16_53 rfl rfl rfl (by decide +kernel) ⟨Nat.le_of_ble_eq_true rfl, Nat.le_of_ble_eq_true rfl⟩) ⟨pP.blind, (pP.pre ⟨hK, hN⟩ hPc)⟩ rfl rfl hl.1 rfl (lv_room (Nat.le_of_ble_eq_true rfl)) dX8_feed_78 ⟨Nat.le_of_ble_eq_true rfl, Nat.le_of_ble_eq_true rfl⟩) (fun r_1 hr_1 => ?_)
  refine lv_istore (lv' := [(8, .int r_1), (0, .ref mo), (1, .int p0), (2, .int p1), (3, .int p2), (4, .int p3), (5, .int p4), (7, .int 16)]) hx hb dX8_feed_81 hl (by decide) rfl (fun ls hl => ?_)
  refine lv_iload hx hb dX8_feed_83 (lv_at hl 0 rfl) ?_
  refine lv_if_eq (tgt := 109) hx hb dX8_feed_85 (by decide) (fun c_2 => ?_) (fun c_2 => ?_)
  ·
    refine lv_iinc (v := 17) (lv' := [(7, .int 17), (8, .int r_1), (0, .ref mo), (1, .int p0), (2, .int p1), (3, .int p2), (4, .int p3), (5, .int p4)]) hx hb dX8_feed_109 hl (k := 7) rfl (by decide) (by decide) rfl (fun ls hl => ?_)
    refine lv_goto (tgt := 62) hx hb dX8_feed_112 (by decide) ?_
    have e8 : nzN p4 24 = 0 := by unfold nzN; rw [← hr_1, if_pos c_2]
    have e9 : n = n + nzN p4 24 := by omega
    have hP : va_P E.1 vwCl [(mo, .inr (9, [.int 0, .ref m_tape, .int (nI (n + nzN p4 24)), .int 0, .int 0, .int 0, .int 0, .int 0, .long 0, .int 0, .int 0, .int 0, .int 0, .ref m_readPlace, .ref m_script, .ref m_scriptLong, .int 0, .ref m_now, .ref m_refused, .int 0, .ref m_shareX, .ref m_shareY, .int 0, .int 0, .ref m_askedRow, .int 0, .ref m_kept, .int 0, .long 0, .ref m_aside, .int 0, .int 0, .ref m_spelled, .int 0, .ref m_image, .int 0])), (m_tape, .inl (E.2.1, 320, .inl f))] H := by rw [← e9]; exact hP
    have hD : va_D A [(mo, .inr (9, [.int 0, .ref m_tape, .int (nI (n + nzN p4 24)), .int 0, .int 0, .int 0, .int 0, .int 0, .long 0, .int 0, .int 0, .int 0, .int 0, .ref m_readPlace, .ref m_script, .ref m_scriptLong, .int 0, .ref m_now, .ref m_refused, .int 0, .ref m_shareX, .ref m_shareY, .int 0, .int 0, .ref m_askedRow, .int 0, .ref m_kept, .int 0, .long 0, .ref m_aside, .int 0, .int 0, .ref m_spelled, .int 0, .ref m_image, .int 0])), (m_tape, .inl (E.2.1, 320, .inl f))] := by rw [← e9]; exact hD
    exact K H locs f ls (hP.sub [0, 1] rfl) (hD.sub [0, 1] (by decide) rfl) hS (lv_sub hl [2, 3, 4, 5, 6, 7, 0] rfl)
  ·
    refine lv_aload_n hx hb dX8_feed_88 rfl (lv_at hl 1 rfl) ?_
    refine va_get (D := E.1) (ci := 9) (v := .ref m_tape) (C := RX8) (T := TX8) (N := 36) hx hb hts i_d_feed_X8 hown hK hP 0 rfl rfl 1 (by decide) (hts (.fieldLink RX8 9 "HushWatchModel" "tape" "[I") (List.mem_of_getElem? (i := 1) rfl)) (fun _ h9 => h9) rfl dX8_feed_89 ?_
    refine lv_aload_n hx hb dX8_feed_92 rfl (lv_at hl 1 rfl) ?_
    refine va_get (D := E.1) (ci := 9) (v := .int (nI n)) (C := RX8) (T := TX8) (N := 36) hx hb hts i_d_feed_X8 hown hK hP 0 rfl rfl 2 (by decide) (hts (.fieldLink RX8 57 "HushWatchModel" "taped" "I") (List.mem_of_getElem? (i := 2) rfl)) (fun _ h9 => h9) rfl dX8_feed_93 ?_
    refine lv_iload hx hb dX8_feed_96 (lv_at hl 0 rfl) ?_
    refine va_iast hx hb hK hP hD hS 1 0 rfl rfl (vp_in_nI (by omega) (by decide)) dX8_feed_98 (fun H locs hP hD hS => ?_)
    have hP : va_P E.1 vwCl [(mo, .inr (9, [.int 0, .ref m_tape, .int (nI n), .int 0, .int 0, .int 0, .int 0, .int 0, .long 0, .int 0, .int 0, .int 0, .int 0, .ref m_readPlace, .ref m_script, .ref m_scriptLong, .int 0, .ref m_now, .ref m_refused, .int 0, .ref m_shareX, .ref m_shareY, .int 0, .int 0, .ref m_askedRow, .int 0, .ref m_kept, .int 0, .long 0, .ref m_aside, .int 0, .int 0, .ref m_spelled, .int 0, .ref m_image, .int 0])), (m_tape, .inl (E.2.1, 320, .inl (upd f (nI n : Int32).toNatClampNeg r_1)))] H := hP
    have hD : va_D A [(mo, .inr (9, [.int 0, .ref m_tape, .int (nI n), .int 0, .int 0, .int 0, .int 0, .int 0, .long 0, .int 0, .int 0, .int 0, .int 0, .ref m_readPlace, .ref m_script, .ref m_scriptLong, .int 0, .ref m_now, .ref m_refused, .int 0, .ref m_shareX, .ref m_shareY, .int 0, .int 0, .ref m_askedRow, .int 0, .ref m_kept, .int 0, .long 0, .ref m_aside, .int 0, .int 0, .ref m_spelled, .int 0, .ref m_image, .int 0])), (m_tape, .inl (E.2.1, 320, .inl (upd f (nI n : Int32).toNatClampNeg r_1)))] := hD
    generalize upd f (nI n : Int32).toNatClampNeg r_1 = f_3 at hP hD
    refine lv_aload_n hx hb dX8_feed_99 rfl (lv_at hl 1 rfl) ?_
    refine lv_dup hx hb dX8_feed_100 rfl ?_
    refine va_get (D := E.1) (ci := 9) (v := .int (nI n)) (C := RX8) (T := TX8) (N := 36) hx hb hts i_d_feed_X8 hown hK hP 0 rfl rfl 2 (by decide) (hts (.fieldLink RX8 57 "HushWatchModel" "taped" "I") (List.mem_of_getElem? (i := 2) rfl)) (fun _ h9 => h9) rfl dX8_feed_101 ?_
    refine lv_iconst (v := 1) hx hb dX8_feed_104 (by decide) ?_
    refine lv_iadd hx hb dX8_feed_105 ?_
    refine lv_topi (fun z_4 ez_4 => ?_)
    obtain rfl : z_4 = nI (n + 1) := ez_4.trans (nI_add _ 1)
    refine va_put (D := E.1) (ci := 9) (v := .int (nI (n + 1))) (ty := .int) (C := RX8) (T := TX8) (N := 36) hx hb hts i_d_feed_X8 tyX8 tyX8_ok nmX8 hown hK hP hD hS 0 rfl rfl 2 (by decide) (hts (.fieldLink RX8 57 "HushWatchModel" "taped" "I") (List.mem_of_getElem? (i := 2) rfl)) (fun _ h9 => h9) rfl (by decide +kernel) rfl rfl (Nat.le_of_ble_eq_true rfl) dX8_feed_106 (fun H locs hP hD hS => ?_)
    have hP : va_P E.1 vwCl [(mo, .inr (9, [.int 0, .ref m_tape, .int (nI (n + 1)), .int 0, .int 0, .int 0, .int 0, .int 0, .long 0, .int 0, .int 0, .int 0, .int 0, .ref m_readPlace, .ref m_script, .ref m_scriptLong, .int 0, .ref m_now, .ref m_refused, .int 0, .ref m_shareX, .ref m_shareY, .int 0, .int 0, .ref m_askedRow, .int 0, .ref m_kept, .int 0, .long 0, .ref m_aside, .int 0, .int 0, .ref m_spelled, .int 0, .ref m_image, .int 0])), (m_tape, .inl (E.2.1, 320, .inl f_3))] H := hP
    have hD : va_D A [(mo, .inr (9, [.int 0, .ref m_tape, .int (nI (n + 1)), .int 0, .int 0, .int 0, .int 0, .int 0, .long 0, .int 0, .int 0, .int 0, .int 0, .ref m_readPlace, .ref m_script, .ref m_scriptLong, .int 0, .ref m_now, .ref m_refused, .int 0, .ref m_shareX, .ref m_shareY, .int 0, .int 0, .ref m_askedRow, .int 0, .ref m_kept, .int 0, .long 0, .ref m_aside, .int 0, .int 0, .ref m_spelled, .int 0, .ref m_image, .int 0])), (m_tape, .inl (E.2.1, 320, .inl f_3))] := hD
    refine lv_iinc (v := 17) (lv' := [(7, .int 17), (8, .int r_1), (0, .ref mo), (1, .int p0), (2, .int p1), (3, .int p2), (4, .int p3), (5, .int p4)]) hx hb dX8_feed_109 hl (k := 7) rfl (by decide) (by decide) rfl (fun ls hl => ?_)
    refine lv_goto (tgt := 62) hx hb dX8_feed_112 (by decide) ?_
    have e8 : nzN p4 24 = 1 := by unfold nzN; rw [← hr_1, if_neg c_2]
    have e9 : n + 1 = n + nzN p4 24 := by omega
    have hP : va_P E.1 vwCl [(mo, .inr (9, [.int 0, .ref m_tape, .int (nI (n + nzN p4 24)), .int 0, .int 0, .int 0, .int 0, .int 0, .long 0, .int 0, .int 0, .int 0, .int 0, .ref m_readPlace, .ref m_script, .ref m_scriptLong, .int 0, .ref m_now, .ref m_refused, .int 0, .ref m_shareX, .ref m_shareY, .int 0, .int 0, .ref m_askedRow, .int 0, .ref m_kept, .int 0, .long 0, .ref m_aside, .int 0, .int 0, .ref m_spelled, .int 0, .ref m_image, .int 0])), (m_tape, .inl (E.2.1, 320, .inl f_3))] H := by rw [← e9]; exact hP
    have hD : va_D A [(mo, .inr (9, [.int 0, .ref m_tape, .int (nI (n + nzN p4 24)), .int 0, .int 0, .int 0, .int 0, .int 0, .long 0, .int 0, .int 0, .int 0, .int 0, .ref m_readPlace, .ref m_script, .ref m_scriptLong, .int 0, .ref m_now, .ref m_refused, .int 0, .ref m_shareX, .ref m_shareY, .int 0, .int 0, .ref m_askedRow, .int 0, .ref m_kept, .int 0, .long 0, .ref m_aside, .int 0, .int 0, .ref m_spelled, .int 0, .ref m_image, .int 0])), (m_tape, .inl (E.2.1, 320, .inl f_3))] := by rw [← e9]; exact hD
    exact K H locs f_3 ls (hP.sub [0, 1] rfl) (hD.sub [0, 1] (by decide) rfl) hS (lv_sub hl [2, 3, 4, 5, 6, 7, 0] rfl)

set_option maxHeartbeats 4000000 in
set_option maxRecDepth 100000 in
theorem mf_it17 {p : Program} (l : Launch) {e : Env} {s : State} {m : MethodId} {below : List Frame} {meth : Method} {c : Code} {Q : State → Prop} (E : EE) {mo m_tape m_readPlace m_script m_scriptLong m_now m_refused m_shareX m_shareY m_askedRow m_kept m_aside m_spelled m_image : Nat} {p0 p1 p2 p3 p4 : Int32} (hx : p.tables.exec = Jvm.exec) (hb : c.code = cX8_feed) (hml : c.maxLocals = 9) (hown : s.vm.findClass RX8 = some m.cls) (hts : ∀ w ∈ v_d_feed, w.before #[Value.ref mo, Value.int p0, Value.int p1, Value.int p2, Value.int p3, Value.int p4] s = true) (hK : va_K E.1 vwCl (TY E) s) (hN : NX s) {A : Nat → Prop} (hA : ∀ q : Nat, s.heap.size ≤ q → A q) (n : Nat) (hn : n < 320)
    (K : ∀ (H : Heap) (locs : List Loc) (f : Nat → Int32) (ls : Array Slot), va_P E.1 vwCl [(mo, .inr (9, [.int 0, .ref m_tape, .int (nI (n + nzN p4 16)), .int 0, .int 0, .int 0, .int 0, .int 0, .long 0, .int 0, .int 0, .int 0, .int 0, .ref m_readPlace, .ref m_script, .ref m_scriptLong, .int 0, .ref m_now, .ref m_refused, .int 0, .ref m_shareX, .ref m_shareY, .int 0, .int 0, .ref m_askedRow, .int 0, .ref m_kept, .int 0, .long 0, .ref m_aside, .int 0, .int 0, .ref m_spelled, .int 0, .ref m_image, .int 0])), (m_tape, .inl (E.2.1, 320, .inl f))] H → va_D A [(mo, .inr (9, [.int 0, .ref m_tape, .int (nI (n + nzN p4 16)), .int 0, .int 0, .int 0, .int 0, .int 0, .long 0, .int 0, .int 0, .int 0, .int 0, .ref m_readPlace, .ref m_script, .ref m_scriptLong, .int 0, .ref m_now, .ref m_refused, .int 0, .ref m_shareX, .ref m_shareY, .int 0, .int 0, .ref m_askedRow, .int 0, .ref m_kept, .int 0, .long 0, .ref m_aside, .int 0, .int 0, .ref m_spelled, .int 0, .ref m_image, .int 0])), (m_tape, .inl (E.2.1, 320, .inl f))] → va_S A s.heap H locs → lv_has ls 9 [(0, .ref mo), (1, .int p0), (2, .int p1), (3, .int p2), (4, .int p3), (5, .int p4), (7, .int 18)] → W p l e ({ frames := 1, cells := 0, slots := 0, locals := 26 } : Room) s m #[Value.ref mo, Value.int p0, Value.int p1, Value.int p2, Value.int p3, Value.int p4] below meth c H locs 0 0 Q (F0 m 62 ls [])) :
    ∀ (H : Heap) (locs : List Loc) (f : Nat → Int32) (ls : Array Slot), va_P E.1 vwCl [(mo, .inr (9, [.int 0, .ref m_tape, .int (nI n), .int 0, .int 0, .int 0, .int 0, .int 0, .long 0, .int 0, .int 0, .int 0, .int 0, .ref m_readPlace, .ref m_script, .ref m_scriptLong, .int 0, .ref m_now, .ref m_refused, .int 0, .ref m_shareX, .ref m_shareY, .int 0, .int 0, .ref m_askedRow, .int 0, .ref m_kept, .int 0, .long 0, .ref m_aside, .int 0, .int 0, .ref m_spelled, .int 0, .ref m_image, .int 0])), (m_tape, .inl (E.2.1, 320, .inl f))] H → va_D A [(mo, .inr (9, [.int 0, .ref m_tape, .int (nI n), .int 0, .int 0, .int 0, .int 0, .int 0, .long 0, .int 0, .int 0, .int 0, .int 0, .ref m_readPlace, .ref m_script, .ref m_scriptLong, .int 0, .ref m_now, .ref m_refused, .int 0, .ref m_shareX, .ref m_shareY, .int 0, .int 0, .ref m_askedRow, .int 0, .ref m_kept, .int 0, .long 0, .ref m_aside, .int 0, .int 0, .ref m_spelled, .int 0, .ref m_image, .int 0])), (m_tape, .inl (E.2.1, 320, .inl f))] → va_S A s.heap H locs → lv_has ls 9 [(0, .ref mo), (1, .int p0), (2, .int p1), (3, .int p2), (4, .int p3), (5, .int p4), (7, .int 17)] → W p l e ({ frames := 1, cells := 0, slots := 0, locals := 26 } : Room) s m #[Value.ref mo, Value.int p0, Value.int p1, Value.int p2, Value.int p3, Value.int p4] below meth c H locs 0 0 Q (F0 m 62 ls []) := by
  intro H locs f ls hP hD hS hl
  refine lv_iload hx hb dX8_feed_62 (lv_at hl 6 rfl) ?_
  refine lv_bipush (v := 20) hx hb dX8_feed_64 (by decide) ?_
  refine lv_icmp_ge (tgt := 115) hx hb dX8_feed_66 (by decide) (fun q => absurd q (by decide)) (fun _ => ?_)
  refine lv_iload_n hx hb dX8_feed_69 rfl (lv_at hl 1 rfl) ?_
  refine lv_iload_n hx hb dX8_feed_70 rfl (lv_at hl 2 rfl) ?_
  refine lv_iload_n hx hb dX8_feed_71 rfl (lv_at hl 3 rfl) ?_
  refine lv_iload hx hb dX8_feed_72 (lv_at hl 4 rfl) ?_
  refine lv_iload hx hb dX8_feed_74 (lv_at hl 5 rfl) ?_
  refine lv_iload hx hb dX8_feed_76 (lv_at hl 6 rfl) ?_
  have hPc : va_P E.1 vwCl [] H := fun k q h => by simp at h
  refine pc_i (va_runS (As := [.int p0, .int p1, .int p2, .int p3, .int p4, .int 17]) (rest := []) ⟨hx, hb, hml, hown, hts⟩ (d_byteOf17 l E p0 p1 p2 p3 p4) (va_cwS 6 hts g_d_feed_d_byteOf17_53 rfl rfl rfl (by decide +kernel) ⟨Nat.le_of_ble_eq_true rfl, Nat.le_of_ble_eq_true rfl⟩) ⟨pP.blind, (pP.pre ⟨hK, hN⟩ hPc)⟩ rfl rfl hl.1 rfl (lv_room (Nat.le_of_ble_eq_true rfl)) dX8_feed_78 ⟨Nat.le_of_ble_eq_true rfl, Nat.le_of_ble_eq_true rfl⟩) (fun r_1 hr_1 => ?_)
  refine lv_istore (lv' := [(8, .int r_1), (0, .ref mo), (1, .int p0), (2, .int p1), (3, .int p2), (4, .int p3), (5, .int p4), (7, .int 17)]) hx hb dX8_feed_81 hl (by decide) rfl (fun ls hl => ?_)
  refine lv_iload hx hb dX8_feed_83 (lv_at hl 0 rfl) ?_
  refine lv_if_eq (tgt := 109) hx hb dX8_feed_85 (by decide) (fun c_2 => ?_) (fun c_2 => ?_)
  ·
    refine lv_iinc (v := 18) (lv' := [(7, .int 18), (8, .int r_1), (0, .ref mo), (1, .int p0), (2, .int p1), (3, .int p2), (4, .int p3), (5, .int p4)]) hx hb dX8_feed_109 hl (k := 7) rfl (by decide) (by decide) rfl (fun ls hl => ?_)
    refine lv_goto (tgt := 62) hx hb dX8_feed_112 (by decide) ?_
    have e8 : nzN p4 16 = 0 := by unfold nzN; rw [← hr_1, if_pos c_2]
    have e9 : n = n + nzN p4 16 := by omega
    have hP : va_P E.1 vwCl [(mo, .inr (9, [.int 0, .ref m_tape, .int (nI (n + nzN p4 16)), .int 0, .int 0, .int 0, .int 0, .int 0, .long 0, .int 0, .int 0, .int 0, .int 0, .ref m_readPlace, .ref m_script, .ref m_scriptLong, .int 0, .ref m_now, .ref m_refused, .int 0, .ref m_shareX, .ref m_shareY, .int 0, .int 0, .ref m_askedRow, .int 0, .ref m_kept, .int 0, .long 0, .ref m_aside, .int 0, .int 0, .ref m_spelled, .int 0, .ref m_image, .int 0])), (m_tape, .inl (E.2.1, 320, .inl f))] H := by rw [← e9]; exact hP
    have hD : va_D A [(mo, .inr (9, [.int 0, .ref m_tape, .int (nI (n + nzN p4 16)), .int 0, .int 0, .int 0, .int 0, .int 0, .long 0, .int 0, .int 0, .int 0, .int 0, .ref m_readPlace, .ref m_script, .ref m_scriptLong, .int 0, .ref m_now, .ref m_refused, .int 0, .ref m_shareX, .ref m_shareY, .int 0, .int 0, .ref m_askedRow, .int 0, .ref m_kept, .int 0, .long 0, .ref m_aside, .int 0, .int 0, .ref m_spelled, .int 0, .ref m_image, .int 0])), (m_tape, .inl (E.2.1, 320, .inl f))] := by rw [← e9]; exact hD
    exact K H locs f ls (hP.sub [0, 1] rfl) (hD.sub [0, 1] (by decide) rfl) hS (lv_sub hl [2, 3, 4, 5, 6, 7, 0] rfl)
  ·
    refine lv_aload_n hx hb dX8_feed_88 rfl (lv_at hl 1 rfl) ?_
    refine va_get (D := E.1) (ci := 9) (v := .ref m_tape) (C := RX8) (T := TX8) (N := 36) hx hb hts i_d_feed_X8 hown hK hP 0 rfl rfl 1 (by decide) (hts (.fieldLink RX8 9 "HushWatchModel" "tape" "[I") (List.mem_of_getElem? (i := 1) rfl)) (fun _ h9 => h9) rfl dX8_feed_89 ?_
    refine lv_aload_n hx hb dX8_feed_92 rfl (lv_at hl 1 rfl) ?_
    refine va_get (D := E.1) (ci := 9) (v := .int (nI n)) (C := RX8) (T := TX8) (N := 36) hx hb hts i_d_feed_X8 hown hK hP 0 rfl rfl 2 (by decide) (hts (.fieldLink RX8 57 "HushWatchModel" "taped" "I") (List.mem_of_getElem? (i := 2) rfl)) (fun _ h9 => h9) rfl dX8_feed_93 ?_
    refine lv_iload hx hb dX8_feed_96 (lv_at hl 0 rfl) ?_
    refine va_iast hx hb hK hP hD hS 1 0 rfl rfl (vp_in_nI (by omega) (by decide)) dX8_feed_98 (fun H locs hP hD hS => ?_)
    have hP : va_P E.1 vwCl [(mo, .inr (9, [.int 0, .ref m_tape, .int (nI n), .int 0, .int 0, .int 0, .int 0, .int 0, .long 0, .int 0, .int 0, .int 0, .int 0, .ref m_readPlace, .ref m_script, .ref m_scriptLong, .int 0, .ref m_now, .ref m_refused, .int 0, .ref m_shareX, .ref m_shareY, .int 0, .int 0, .ref m_askedRow, .int 0, .ref m_kept, .int 0, .long 0, .ref m_aside, .int 0, .int 0, .ref m_spelled, .int 0, .ref m_image, .int 0])), (m_tape, .inl (E.2.1, 320, .inl (upd f (nI n : Int32).toNatClampNeg r_1)))] H := hP
    have hD : va_D A [(mo, .inr (9, [.int 0, .ref m_tape, .int (nI n), .int 0, .int 0, .int 0, .int 0, .int 0, .long 0, .int 0, .int 0, .int 0, .int 0, .ref m_readPlace, .ref m_script, .ref m_scriptLong, .int 0, .ref m_now, .ref m_refused, .int 0, .ref m_shareX, .ref m_shareY, .int 0, .int 0, .ref m_askedRow, .int 0, .ref m_kept, .int 0, .long 0, .ref m_aside, .int 0, .int 0, .ref m_spelled, .int 0, .ref m_image, .int 0])), (m_tape, .inl (E.2.1, 320, .inl (upd f (nI n : Int32).toNatClampNeg r_1)))] := hD
    generalize upd f (nI n : Int32).toNatClampNeg r_1 = f_3 at hP hD
    refine lv_aload_n hx hb dX8_feed_99 rfl (lv_at hl 1 rfl) ?_
    refine lv_dup hx hb dX8_feed_100 rfl ?_
    refine va_get (D := E.1) (ci := 9) (v := .int (nI n)) (C := RX8) (T := TX8) (N := 36) hx hb hts i_d_feed_X8 hown hK hP 0 rfl rfl 2 (by decide) (hts (.fieldLink RX8 57 "HushWatchModel" "taped" "I") (List.mem_of_getElem? (i := 2) rfl)) (fun _ h9 => h9) rfl dX8_feed_101 ?_
    refine lv_iconst (v := 1) hx hb dX8_feed_104 (by decide) ?_
    refine lv_iadd hx hb dX8_feed_105 ?_
    refine lv_topi (fun z_4 ez_4 => ?_)
    obtain rfl : z_4 = nI (n + 1) := ez_4.trans (nI_add _ 1)
    refine va_put (D := E.1) (ci := 9) (v := .int (nI (n + 1))) (ty := .int) (C := RX8) (T := TX8) (N := 36) hx hb hts i_d_feed_X8 tyX8 tyX8_ok nmX8 hown hK hP hD hS 0 rfl rfl 2 (by decide) (hts (.fieldLink RX8 57 "HushWatchModel" "taped" "I") (List.mem_of_getElem? (i := 2) rfl)) (fun _ h9 => h9) rfl (by decide +kernel) rfl rfl (Nat.le_of_ble_eq_true rfl) dX8_feed_106 (fun H locs hP hD hS => ?_)
    have hP : va_P E.1 vwCl [(mo, .inr (9, [.int 0, .ref m_tape, .int (nI (n + 1)), .int 0, .int 0, .int 0, .int 0, .int 0, .long 0, .int 0, .int 0, .int 0, .int 0, .ref m_readPlace, .ref m_script, .ref m_scriptLong, .int 0, .ref m_now, .ref m_refused, .int 0, .ref m_shareX, .ref m_shareY, .int 0, .int 0, .ref m_askedRow, .int 0, .ref m_kept, .int 0, .long 0, .ref m_aside, .int 0, .int 0, .ref m_spelled, .int 0, .ref m_image, .int 0])), (m_tape, .inl (E.2.1, 320, .inl f_3))] H := hP
    have hD : va_D A [(mo, .inr (9, [.int 0, .ref m_tape, .int (nI (n + 1)), .int 0, .int 0, .int 0, .int 0, .int 0, .long 0, .int 0, .int 0, .int 0, .int 0, .ref m_readPlace, .ref m_script, .ref m_scriptLong, .int 0, .ref m_now, .ref m_refused, .int 0, .ref m_shareX, .ref m_shareY, .int 0, .int 0, .ref m_askedRow, .int 0, .ref m_kept, .int 0, .long 0, .ref m_aside, .int 0, .int 0, .ref m_spelled, .int 0, .ref m_image, .int 0])), (m_tape, .inl (E.2.1, 320, .inl f_3))] := hD
    refine lv_iinc (v := 18) (lv' := [(7, .int 18), (8, .int r_1), (0, .ref mo), (1, .int p0), (2, .int p1), (3, .int p2), (4, .int p3), (5, .int p4)]) hx hb dX8_feed_109 hl (k := 7) rfl (by decide) (by decide) rfl (fun ls hl => ?_)
    refine lv_goto (tgt := 62) hx hb dX8_feed_112 (by decide) ?_
    have e8 : nzN p4 16 = 1 := by unfold nzN; rw [← hr_1, if_neg c_2]
    have e9 : n + 1 = n + nzN p4 16 := by omega
    have hP : va_P E.1 vwCl [(mo, .inr (9, [.int 0, .ref m_tape, .int (nI (n + nzN p4 16)), .int 0, .int 0, .int 0, .int 0, .int 0, .long 0, .int 0, .int 0, .int 0, .int 0, .ref m_readPlace, .ref m_script, .ref m_scriptLong, .int 0, .ref m_now, .ref m_refused, .int 0, .ref m_shareX, .ref m_shareY, .int 0, .int 0, .ref m_askedRow, .int 0, .ref m_kept, .int 0, .long 0, .ref m_aside, .int 0, .int 0, .ref m_spelled, .int 0, .ref m_image, .int 0])), (m_tape, .inl (E.2.1, 320, .inl f_3))] H := by rw [← e9]; exact hP
    have hD : va_D A [(mo, .inr (9, [.int 0, .ref m_tape, .int (nI (n + nzN p4 16)), .int 0, .int 0, .int 0, .int 0, .int 0, .long 0, .int 0, .int 0, .int 0, .int 0, .ref m_readPlace, .ref m_script, .ref m_scriptLong, .int 0, .ref m_now, .ref m_refused, .int 0, .ref m_shareX, .ref m_shareY, .int 0, .int 0, .ref m_askedRow, .int 0, .ref m_kept, .int 0, .long 0, .ref m_aside, .int 0, .int 0, .ref m_spelled, .int 0, .ref m_image, .int 0])), (m_tape, .inl (E.2.1, 320, .inl f_3))] := by rw [← e9]; exact hD
    exact K H locs f_3 ls (hP.sub [0, 1] rfl) (hD.sub [0, 1] (by decide) rfl) hS (lv_sub hl [2, 3, 4, 5, 6, 7, 0] rfl)

set_option maxHeartbeats 4000000 in
set_option maxRecDepth 100000 in
theorem mf_it18 {p : Program} (l : Launch) {e : Env} {s : State} {m : MethodId} {below : List Frame} {meth : Method} {c : Code} {Q : State → Prop} (E : EE) {mo m_tape m_readPlace m_script m_scriptLong m_now m_refused m_shareX m_shareY m_askedRow m_kept m_aside m_spelled m_image : Nat} {p0 p1 p2 p3 p4 : Int32} (hx : p.tables.exec = Jvm.exec) (hb : c.code = cX8_feed) (hml : c.maxLocals = 9) (hown : s.vm.findClass RX8 = some m.cls) (hts : ∀ w ∈ v_d_feed, w.before #[Value.ref mo, Value.int p0, Value.int p1, Value.int p2, Value.int p3, Value.int p4] s = true) (hK : va_K E.1 vwCl (TY E) s) (hN : NX s) {A : Nat → Prop} (hA : ∀ q : Nat, s.heap.size ≤ q → A q) (n : Nat) (hn : n < 320)
    (K : ∀ (H : Heap) (locs : List Loc) (f : Nat → Int32) (ls : Array Slot), va_P E.1 vwCl [(mo, .inr (9, [.int 0, .ref m_tape, .int (nI (n + nzN p4 8)), .int 0, .int 0, .int 0, .int 0, .int 0, .long 0, .int 0, .int 0, .int 0, .int 0, .ref m_readPlace, .ref m_script, .ref m_scriptLong, .int 0, .ref m_now, .ref m_refused, .int 0, .ref m_shareX, .ref m_shareY, .int 0, .int 0, .ref m_askedRow, .int 0, .ref m_kept, .int 0, .long 0, .ref m_aside, .int 0, .int 0, .ref m_spelled, .int 0, .ref m_image, .int 0])), (m_tape, .inl (E.2.1, 320, .inl f))] H → va_D A [(mo, .inr (9, [.int 0, .ref m_tape, .int (nI (n + nzN p4 8)), .int 0, .int 0, .int 0, .int 0, .int 0, .long 0, .int 0, .int 0, .int 0, .int 0, .ref m_readPlace, .ref m_script, .ref m_scriptLong, .int 0, .ref m_now, .ref m_refused, .int 0, .ref m_shareX, .ref m_shareY, .int 0, .int 0, .ref m_askedRow, .int 0, .ref m_kept, .int 0, .long 0, .ref m_aside, .int 0, .int 0, .ref m_spelled, .int 0, .ref m_image, .int 0])), (m_tape, .inl (E.2.1, 320, .inl f))] → va_S A s.heap H locs → lv_has ls 9 [(0, .ref mo), (1, .int p0), (2, .int p1), (3, .int p2), (4, .int p3), (5, .int p4), (7, .int 19)] → W p l e ({ frames := 1, cells := 0, slots := 0, locals := 26 } : Room) s m #[Value.ref mo, Value.int p0, Value.int p1, Value.int p2, Value.int p3, Value.int p4] below meth c H locs 0 0 Q (F0 m 62 ls [])) :
    ∀ (H : Heap) (locs : List Loc) (f : Nat → Int32) (ls : Array Slot), va_P E.1 vwCl [(mo, .inr (9, [.int 0, .ref m_tape, .int (nI n), .int 0, .int 0, .int 0, .int 0, .int 0, .long 0, .int 0, .int 0, .int 0, .int 0, .ref m_readPlace, .ref m_script, .ref m_scriptLong, .int 0, .ref m_now, .ref m_refused, .int 0, .ref m_shareX, .ref m_shareY, .int 0, .int 0, .ref m_askedRow, .int 0, .ref m_kept, .int 0, .long 0, .ref m_aside, .int 0, .int 0, .ref m_spelled, .int 0, .ref m_image, .int 0])), (m_tape, .inl (E.2.1, 320, .inl f))] H → va_D A [(mo, .inr (9, [.int 0, .ref m_tape, .int (nI n), .int 0, .int 0, .int 0, .int 0, .int 0, .long 0, .int 0, .int 0, .int 0, .int 0, .ref m_readPlace, .ref m_script, .ref m_scriptLong, .int 0, .ref m_now, .ref m_refused, .int 0, .ref m_shareX, .ref m_shareY, .int 0, .int 0, .ref m_askedRow, .int 0, .ref m_kept, .int 0, .long 0, .ref m_aside, .int 0, .int 0, .ref m_spelled, .int 0, .ref m_image, .int 0])), (m_tape, .inl (E.2.1, 320, .inl f))] → va_S A s.heap H locs → lv_has ls 9 [(0, .ref mo), (1, .int p0), (2, .int p1), (3, .int p2), (4, .int p3), (5, .int p4), (7, .int 18)] → W p l e ({ frames := 1, cells := 0, slots := 0, locals := 26 } : Room) s m #[Value.ref mo, Value.int p0, Value.int p1, Value.int p2, Value.int p3, Value.int p4] below meth c H locs 0 0 Q (F0 m 62 ls []) := by
  intro H locs f ls hP hD hS hl
  refine lv_iload hx hb dX8_feed_62 (lv_at hl 6 rfl) ?_
  refine lv_bipush (v := 20) hx hb dX8_feed_64 (by decide) ?_
  refine lv_icmp_ge (tgt := 115) hx hb dX8_feed_66 (by decide) (fun q => absurd q (by decide)) (fun _ => ?_)
  refine lv_iload_n hx hb dX8_feed_69 rfl (lv_at hl 1 rfl) ?_
  refine lv_iload_n hx hb dX8_feed_70 rfl (lv_at hl 2 rfl) ?_
  refine lv_iload_n hx hb dX8_feed_71 rfl (lv_at hl 3 rfl) ?_
  refine lv_iload hx hb dX8_feed_72 (lv_at hl 4 rfl) ?_
  refine lv_iload hx hb dX8_feed_74 (lv_at hl 5 rfl) ?_
  refine lv_iload hx hb dX8_feed_76 (lv_at hl 6 rfl) ?_
  have hPc : va_P E.1 vwCl [] H := fun k q h => by simp at h
  refine pc_i (va_runS (As := [.int p0, .int p1, .int p2, .int p3, .int p4, .int 18]) (rest := []) ⟨hx, hb, hml, hown, hts⟩ (d_byteOf18 l E p0 p1 p2 p3 p4) (va_cwS 6 hts g_d_feed_d_byteOf18_53 rfl rfl rfl (by decide +kernel) ⟨Nat.le_of_ble_eq_true rfl, Nat.le_of_ble_eq_true rfl⟩) ⟨pP.blind, (pP.pre ⟨hK, hN⟩ hPc)⟩ rfl rfl hl.1 rfl (lv_room (Nat.le_of_ble_eq_true rfl)) dX8_feed_78 ⟨Nat.le_of_ble_eq_true rfl, Nat.le_of_ble_eq_true rfl⟩) (fun r_1 hr_1 => ?_)
  refine lv_istore (lv' := [(8, .int r_1), (0, .ref mo), (1, .int p0), (2, .int p1), (3, .int p2), (4, .int p3), (5, .int p4), (7, .int 18)]) hx hb dX8_feed_81 hl (by decide) rfl (fun ls hl => ?_)
  refine lv_iload hx hb dX8_feed_83 (lv_at hl 0 rfl) ?_
  refine lv_if_eq (tgt := 109) hx hb dX8_feed_85 (by decide) (fun c_2 => ?_) (fun c_2 => ?_)
  ·
    refine lv_iinc (v := 19) (lv' := [(7, .int 19), (8, .int r_1), (0, .ref mo), (1, .int p0), (2, .int p1), (3, .int p2), (4, .int p3), (5, .int p4)]) hx hb dX8_feed_109 hl (k := 7) rfl (by decide) (by decide) rfl (fun ls hl => ?_)
    refine lv_goto (tgt := 62) hx hb dX8_feed_112 (by decide) ?_
    have e8 : nzN p4 8 = 0 := by unfold nzN; rw [← hr_1, if_pos c_2]
    have e9 : n = n + nzN p4 8 := by omega
    have hP : va_P E.1 vwCl [(mo, .inr (9, [.int 0, .ref m_tape, .int (nI (n + nzN p4 8)), .int 0, .int 0, .int 0, .int 0, .int 0, .long 0, .int 0, .int 0, .int 0, .int 0, .ref m_readPlace, .ref m_script, .ref m_scriptLong, .int 0, .ref m_now, .ref m_refused, .int 0, .ref m_shareX, .ref m_shareY, .int 0, .int 0, .ref m_askedRow, .int 0, .ref m_kept, .int 0, .long 0, .ref m_aside, .int 0, .int 0, .ref m_spelled, .int 0, .ref m_image, .int 0])), (m_tape, .inl (E.2.1, 320, .inl f))] H := by rw [← e9]; exact hP
    have hD : va_D A [(mo, .inr (9, [.int 0, .ref m_tape, .int (nI (n + nzN p4 8)), .int 0, .int 0, .int 0, .int 0, .int 0, .long 0, .int 0, .int 0, .int 0, .int 0, .ref m_readPlace, .ref m_script, .ref m_scriptLong, .int 0, .ref m_now, .ref m_refused, .int 0, .ref m_shareX, .ref m_shareY, .int 0, .int 0, .ref m_askedRow, .int 0, .ref m_kept, .int 0, .long 0, .ref m_aside, .int 0, .int 0, .ref m_spelled, .int 0, .ref m_image, .int 0])), (m_tape, .inl (E.2.1, 320, .inl f))] := by rw [← e9]; exact hD
    exact K H locs f ls (hP.sub [0, 1] rfl) (hD.sub [0, 1] (by decide) rfl) hS (lv_sub hl [2, 3, 4, 5, 6, 7, 0] rfl)
  ·
    refine lv_aload_n hx hb dX8_feed_88 rfl (lv_at hl 1 rfl) ?_
    refine va_get (D := E.1) (ci := 9) (v := .ref m_tape) (C := RX8) (T := TX8) (N := 36) hx hb hts i_d_feed_X8 hown hK hP 0 rfl rfl 1 (by decide) (hts (.fieldLink RX8 9 "HushWatchModel" "tape" "[I") (List.mem_of_getElem? (i := 1) rfl)) (fun _ h9 => h9) rfl dX8_feed_89 ?_
    refine lv_aload_n hx hb dX8_feed_92 rfl (lv_at hl 1 rfl) ?_
    refine va_get (D := E.1) (ci := 9) (v := .int (nI n)) (C := RX8) (T := TX8) (N := 36) hx hb hts i_d_feed_X8 hown hK hP 0 rfl rfl 2 (by decide) (hts (.fieldLink RX8 57 "HushWatchModel" "taped" "I") (List.mem_of_getElem? (i := 2) rfl)) (fun _ h9 => h9) rfl dX8_feed_93 ?_
    refine lv_iload hx hb dX8_feed_96 (lv_at hl 0 rfl) ?_
    refine va_iast hx hb hK hP hD hS 1 0 rfl rfl (vp_in_nI (by omega) (by decide)) dX8_feed_98 (fun H locs hP hD hS => ?_)
    have hP : va_P E.1 vwCl [(mo, .inr (9, [.int 0, .ref m_tape, .int (nI n), .int 0, .int 0, .int 0, .int 0, .int 0, .long 0, .int 0, .int 0, .int 0, .int 0, .ref m_readPlace, .ref m_script, .ref m_scriptLong, .int 0, .ref m_now, .ref m_refused, .int 0, .ref m_shareX, .ref m_shareY, .int 0, .int 0, .ref m_askedRow, .int 0, .ref m_kept, .int 0, .long 0, .ref m_aside, .int 0, .int 0, .ref m_spelled, .int 0, .ref m_image, .int 0])), (m_tape, .inl (E.2.1, 320, .inl (upd f (nI n : Int32).toNatClampNeg r_1)))] H := hP
    have hD : va_D A [(mo, .inr (9, [.int 0, .ref m_tape, .int (nI n), .int 0, .int 0, .int 0, .int 0, .int 0, .long 0, .int 0, .int 0, .int 0, .int 0, .ref m_readPlace, .ref m_script, .ref m_scriptLong, .int 0, .ref m_now, .ref m_refused, .int 0, .ref m_shareX, .ref m_shareY, .int 0, .int 0, .ref m_askedRow, .int 0, .ref m_kept, .int 0, .long 0, .ref m_aside, .int 0, .int 0, .ref m_spelled, .int 0, .ref m_image, .int 0])), (m_tape, .inl (E.2.1, 320, .inl (upd f (nI n : Int32).toNatClampNeg r_1)))] := hD
    generalize upd f (nI n : Int32).toNatClampNeg r_1 = f_3 at hP hD
    refine lv_aload_n hx hb dX8_feed_99 rfl (lv_at hl 1 rfl) ?_
    refine lv_dup hx hb dX8_feed_100 rfl ?_
    refine va_get (D := E.1) (ci := 9) (v := .int (nI n)) (C := RX8) (T := TX8) (N := 36) hx hb hts i_d_feed_X8 hown hK hP 0 rfl rfl 2 (by decide) (hts (.fieldLink RX8 57 "HushWatchModel" "taped" "I") (List.mem_of_getElem? (i := 2) rfl)) (fun _ h9 => h9) rfl dX8_feed_101 ?_
    refine lv_iconst (v := 1) hx hb dX8_feed_104 (by decide) ?_
    refine lv_iadd hx hb dX8_feed_105 ?_
    refine lv_topi (fun z_4 ez_4 => ?_)
    obtain rfl : z_4 = nI (n + 1) := ez_4.trans (nI_add _ 1)
    refine va_put (D := E.1) (ci := 9) (v := .int (nI (n + 1))) (ty := .int) (C := RX8) (T := TX8) (N := 36) hx hb hts i_d_feed_X8 tyX8 tyX8_ok nmX8 hown hK hP hD hS 0 rfl rfl 2 (by decide) (hts (.fieldLink RX8 57 "HushWatchModel" "taped" "I") (List.mem_of_getElem? (i := 2) rfl)) (fun _ h9 => h9) rfl (by decide +kernel) rfl rfl (Nat.le_of_ble_eq_true rfl) dX8_feed_106 (fun H locs hP hD hS => ?_)
    have hP : va_P E.1 vwCl [(mo, .inr (9, [.int 0, .ref m_tape, .int (nI (n + 1)), .int 0, .int 0, .int 0, .int 0, .int 0, .long 0, .int 0, .int 0, .int 0, .int 0, .ref m_readPlace, .ref m_script, .ref m_scriptLong, .int 0, .ref m_now, .ref m_refused, .int 0, .ref m_shareX, .ref m_shareY, .int 0, .int 0, .ref m_askedRow, .int 0, .ref m_kept, .int 0, .long 0, .ref m_aside, .int 0, .int 0, .ref m_spelled, .int 0, .ref m_image, .int 0])), (m_tape, .inl (E.2.1, 320, .inl f_3))] H := hP
    have hD : va_D A [(mo, .inr (9, [.int 0, .ref m_tape, .int (nI (n + 1)), .int 0, .int 0, .int 0, .int 0, .int 0, .long 0, .int 0, .int 0, .int 0, .int 0, .ref m_readPlace, .ref m_script, .ref m_scriptLong, .int 0, .ref m_now, .ref m_refused, .int 0, .ref m_shareX, .ref m_shareY, .int 0, .int 0, .ref m_askedRow, .int 0, .ref m_kept, .int 0, .long 0, .ref m_aside, .int 0, .int 0, .ref m_spelled, .int 0, .ref m_image, .int 0])), (m_tape, .inl (E.2.1, 320, .inl f_3))] := hD
    refine lv_iinc (v := 19) (lv' := [(7, .int 19), (8, .int r_1), (0, .ref mo), (1, .int p0), (2, .int p1), (3, .int p2), (4, .int p3), (5, .int p4)]) hx hb dX8_feed_109 hl (k := 7) rfl (by decide) (by decide) rfl (fun ls hl => ?_)
    refine lv_goto (tgt := 62) hx hb dX8_feed_112 (by decide) ?_
    have e8 : nzN p4 8 = 1 := by unfold nzN; rw [← hr_1, if_neg c_2]
    have e9 : n + 1 = n + nzN p4 8 := by omega
    have hP : va_P E.1 vwCl [(mo, .inr (9, [.int 0, .ref m_tape, .int (nI (n + nzN p4 8)), .int 0, .int 0, .int 0, .int 0, .int 0, .long 0, .int 0, .int 0, .int 0, .int 0, .ref m_readPlace, .ref m_script, .ref m_scriptLong, .int 0, .ref m_now, .ref m_refused, .int 0, .ref m_shareX, .ref m_shareY, .int 0, .int 0, .ref m_askedRow, .int 0, .ref m_kept, .int 0, .long 0, .ref m_aside, .int 0, .int 0, .ref m_spelled, .int 0, .ref m_image, .int 0])), (m_tape, .inl (E.2.1, 320, .inl f_3))] H := by rw [← e9]; exact hP
    have hD : va_D A [(mo, .inr (9, [.int 0, .ref m_tape, .int (nI (n + nzN p4 8)), .int 0, .int 0, .int 0, .int 0, .int 0, .long 0, .int 0, .int 0, .int 0, .int 0, .ref m_readPlace, .ref m_script, .ref m_scriptLong, .int 0, .ref m_now, .ref m_refused, .int 0, .ref m_shareX, .ref m_shareY, .int 0, .int 0, .ref m_askedRow, .int 0, .ref m_kept, .int 0, .long 0, .ref m_aside, .int 0, .int 0, .ref m_spelled, .int 0, .ref m_image, .int 0])), (m_tape, .inl (E.2.1, 320, .inl f_3))] := by rw [← e9]; exact hD
    exact K H locs f_3 ls (hP.sub [0, 1] rfl) (hD.sub [0, 1] (by decide) rfl) hS (lv_sub hl [2, 3, 4, 5, 6, 7, 0] rfl)

set_option maxHeartbeats 4000000 in
set_option maxRecDepth 100000 in
theorem mf_it19 {p : Program} (l : Launch) {e : Env} {s : State} {m : MethodId} {below : List Frame} {meth : Method} {c : Code} {Q : State → Prop} (E : EE) {mo m_tape m_readPlace m_script m_scriptLong m_now m_refused m_shareX m_shareY m_askedRow m_kept m_aside m_spelled m_image : Nat} {p0 p1 p2 p3 p4 : Int32} (hx : p.tables.exec = Jvm.exec) (hb : c.code = cX8_feed) (hml : c.maxLocals = 9) (hown : s.vm.findClass RX8 = some m.cls) (hts : ∀ w ∈ v_d_feed, w.before #[Value.ref mo, Value.int p0, Value.int p1, Value.int p2, Value.int p3, Value.int p4] s = true) (hK : va_K E.1 vwCl (TY E) s) (hN : NX s) {A : Nat → Prop} (hA : ∀ q : Nat, s.heap.size ≤ q → A q) (n : Nat) (hn : n < 320)
    (K : ∀ (H : Heap) (locs : List Loc) (f : Nat → Int32) (ls : Array Slot), va_P E.1 vwCl [(mo, .inr (9, [.int 0, .ref m_tape, .int (nI (n + nzN p4 0)), .int 0, .int 0, .int 0, .int 0, .int 0, .long 0, .int 0, .int 0, .int 0, .int 0, .ref m_readPlace, .ref m_script, .ref m_scriptLong, .int 0, .ref m_now, .ref m_refused, .int 0, .ref m_shareX, .ref m_shareY, .int 0, .int 0, .ref m_askedRow, .int 0, .ref m_kept, .int 0, .long 0, .ref m_aside, .int 0, .int 0, .ref m_spelled, .int 0, .ref m_image, .int 0])), (m_tape, .inl (E.2.1, 320, .inl f))] H → va_D A [(mo, .inr (9, [.int 0, .ref m_tape, .int (nI (n + nzN p4 0)), .int 0, .int 0, .int 0, .int 0, .int 0, .long 0, .int 0, .int 0, .int 0, .int 0, .ref m_readPlace, .ref m_script, .ref m_scriptLong, .int 0, .ref m_now, .ref m_refused, .int 0, .ref m_shareX, .ref m_shareY, .int 0, .int 0, .ref m_askedRow, .int 0, .ref m_kept, .int 0, .long 0, .ref m_aside, .int 0, .int 0, .ref m_spelled, .int 0, .ref m_image, .int 0])), (m_tape, .inl (E.2.1, 320, .inl f))] → va_S A s.heap H locs → lv_has ls 9 [(0, .ref mo), (1, .int p0), (2, .int p1), (3, .int p2), (4, .int p3), (5, .int p4), (7, .int 20)] → W p l e ({ frames := 1, cells := 0, slots := 0, locals := 26 } : Room) s m #[Value.ref mo, Value.int p0, Value.int p1, Value.int p2, Value.int p3, Value.int p4] below meth c H locs 0 0 Q (F0 m 62 ls [])) :
    ∀ (H : Heap) (locs : List Loc) (f : Nat → Int32) (ls : Array Slot), va_P E.1 vwCl [(mo, .inr (9, [.int 0, .ref m_tape, .int (nI n), .int 0, .int 0, .int 0, .int 0, .int 0, .long 0, .int 0, .int 0, .int 0, .int 0, .ref m_readPlace, .ref m_script, .ref m_scriptLong, .int 0, .ref m_now, .ref m_refused, .int 0, .ref m_shareX, .ref m_shareY, .int 0, .int 0, .ref m_askedRow, .int 0, .ref m_kept, .int 0, .long 0, .ref m_aside, .int 0, .int 0, .ref m_spelled, .int 0, .ref m_image, .int 0])), (m_tape, .inl (E.2.1, 320, .inl f))] H → va_D A [(mo, .inr (9, [.int 0, .ref m_tape, .int (nI n), .int 0, .int 0, .int 0, .int 0, .int 0, .long 0, .int 0, .int 0, .int 0, .int 0, .ref m_readPlace, .ref m_script, .ref m_scriptLong, .int 0, .ref m_now, .ref m_refused, .int 0, .ref m_shareX, .ref m_shareY, .int 0, .int 0, .ref m_askedRow, .int 0, .ref m_kept, .int 0, .long 0, .ref m_aside, .int 0, .int 0, .ref m_spelled, .int 0, .ref m_image, .int 0])), (m_tape, .inl (E.2.1, 320, .inl f))] → va_S A s.heap H locs → lv_has ls 9 [(0, .ref mo), (1, .int p0), (2, .int p1), (3, .int p2), (4, .int p3), (5, .int p4), (7, .int 19)] → W p l e ({ frames := 1, cells := 0, slots := 0, locals := 26 } : Room) s m #[Value.ref mo, Value.int p0, Value.int p1, Value.int p2, Value.int p3, Value.int p4] below meth c H locs 0 0 Q (F0 m 62 ls []) := by
  intro H locs f ls hP hD hS hl
  refine lv_iload hx hb dX8_feed_62 (lv_at hl 6 rfl) ?_
  refine lv_bipush (v := 20) hx hb dX8_feed_64 (by decide) ?_
  refine lv_icmp_ge (tgt := 115) hx hb dX8_feed_66 (by decide) (fun q => absurd q (by decide)) (fun _ => ?_)
  refine lv_iload_n hx hb dX8_feed_69 rfl (lv_at hl 1 rfl) ?_
  refine lv_iload_n hx hb dX8_feed_70 rfl (lv_at hl 2 rfl) ?_
  refine lv_iload_n hx hb dX8_feed_71 rfl (lv_at hl 3 rfl) ?_
  refine lv_iload hx hb dX8_feed_72 (lv_at hl 4 rfl) ?_
  refine lv_iload hx hb dX8_feed_74 (lv_at hl 5 rfl) ?_
  refine lv_iload hx hb dX8_feed_76 (lv_at hl 6 rfl) ?_
  have hPc : va_P E.1 vwCl [] H := fun k q h => by simp at h
  refine pc_i (va_runS (As := [.int p0, .int p1, .int p2, .int p3, .int p4, .int 19]) (rest := []) ⟨hx, hb, hml, hown, hts⟩ (d_byteOf19 l E p0 p1 p2 p3 p4) (va_cwS 6 hts g_d_feed_d_byteOf19_53 rfl rfl rfl (by decide +kernel) ⟨Nat.le_of_ble_eq_true rfl, Nat.le_of_ble_eq_true rfl⟩) ⟨pP.blind, (pP.pre ⟨hK, hN⟩ hPc)⟩ rfl rfl hl.1 rfl (lv_room (Nat.le_of_ble_eq_true rfl)) dX8_feed_78 ⟨Nat.le_of_ble_eq_true rfl, Nat.le_of_ble_eq_true rfl⟩) (fun r_1 hr_1 => ?_)
  refine lv_istore (lv' := [(8, .int r_1), (0, .ref mo), (1, .int p0), (2, .int p1), (3, .int p2), (4, .int p3), (5, .int p4), (7, .int 19)]) hx hb dX8_feed_81 hl (by decide) rfl (fun ls hl => ?_)
  refine lv_iload hx hb dX8_feed_83 (lv_at hl 0 rfl) ?_
  refine lv_if_eq (tgt := 109) hx hb dX8_feed_85 (by decide) (fun c_2 => ?_) (fun c_2 => ?_)
  ·
    refine lv_iinc (v := 20) (lv' := [(7, .int 20), (8, .int r_1), (0, .ref mo), (1, .int p0), (2, .int p1), (3, .int p2), (4, .int p3), (5, .int p4)]) hx hb dX8_feed_109 hl (k := 7) rfl (by decide) (by decide) rfl (fun ls hl => ?_)
    refine lv_goto (tgt := 62) hx hb dX8_feed_112 (by decide) ?_
    have e8 : nzN p4 0 = 0 := by unfold nzN; rw [← hr_1, if_pos c_2]
    have e9 : n = n + nzN p4 0 := by omega
    have hP : va_P E.1 vwCl [(mo, .inr (9, [.int 0, .ref m_tape, .int (nI (n + nzN p4 0)), .int 0, .int 0, .int 0, .int 0, .int 0, .long 0, .int 0, .int 0, .int 0, .int 0, .ref m_readPlace, .ref m_script, .ref m_scriptLong, .int 0, .ref m_now, .ref m_refused, .int 0, .ref m_shareX, .ref m_shareY, .int 0, .int 0, .ref m_askedRow, .int 0, .ref m_kept, .int 0, .long 0, .ref m_aside, .int 0, .int 0, .ref m_spelled, .int 0, .ref m_image, .int 0])), (m_tape, .inl (E.2.1, 320, .inl f))] H := by rw [← e9]; exact hP
    have hD : va_D A [(mo, .inr (9, [.int 0, .ref m_tape, .int (nI (n + nzN p4 0)), .int 0, .int 0, .int 0, .int 0, .int 0, .long 0, .int 0, .int 0, .int 0, .int 0, .ref m_readPlace, .ref m_script, .ref m_scriptLong, .int 0, .ref m_now, .ref m_refused, .int 0, .ref m_shareX, .ref m_shareY, .int 0, .int 0, .ref m_askedRow, .int 0, .ref m_kept, .int 0, .long 0, .ref m_aside, .int 0, .int 0, .ref m_spelled, .int 0, .ref m_image, .int 0])), (m_tape, .inl (E.2.1, 320, .inl f))] := by rw [← e9]; exact hD
    exact K H locs f ls (hP.sub [0, 1] rfl) (hD.sub [0, 1] (by decide) rfl) hS (lv_sub hl [2, 3, 4, 5, 6, 7, 0] rfl)
  ·
    refine lv_aload_n hx hb dX8_feed_88 rfl (lv_at hl 1 rfl) ?_
    refine va_get (D := E.1) (ci := 9) (v := .ref m_tape) (C := RX8) (T := TX8) (N := 36) hx hb hts i_d_feed_X8 hown hK hP 0 rfl rfl 1 (by decide) (hts (.fieldLink RX8 9 "HushWatchModel" "tape" "[I") (List.mem_of_getElem? (i := 1) rfl)) (fun _ h9 => h9) rfl dX8_feed_89 ?_
    refine lv_aload_n hx hb dX8_feed_92 rfl (lv_at hl 1 rfl) ?_
    refine va_get (D := E.1) (ci := 9) (v := .int (nI n)) (C := RX8) (T := TX8) (N := 36) hx hb hts i_d_feed_X8 hown hK hP 0 rfl rfl 2 (by decide) (hts (.fieldLink RX8 57 "HushWatchModel" "taped" "I") (List.mem_of_getElem? (i := 2) rfl)) (fun _ h9 => h9) rfl dX8_feed_93 ?_
    refine lv_iload hx hb dX8_feed_96 (lv_at hl 0 rfl) ?_
    refine va_iast hx hb hK hP hD hS 1 0 rfl rfl (vp_in_nI (by omega) (by decide)) dX8_feed_98 (fun H locs hP hD hS => ?_)
    have hP : va_P E.1 vwCl [(mo, .inr (9, [.int 0, .ref m_tape, .int (nI n), .int 0, .int 0, .int 0, .int 0, .int 0, .long 0, .int 0, .int 0, .int 0, .int 0, .ref m_readPlace, .ref m_script, .ref m_scriptLong, .int 0, .ref m_now, .ref m_refused, .int 0, .ref m_shareX, .ref m_shareY, .int 0, .int 0, .ref m_askedRow, .int 0, .ref m_kept, .int 0, .long 0, .ref m_aside, .int 0, .int 0, .ref m_spelled, .int 0, .ref m_image, .int 0])), (m_tape, .inl (E.2.1, 320, .inl (upd f (nI n : Int32).toNatClampNeg r_1)))] H := hP
    have hD : va_D A [(mo, .inr (9, [.int 0, .ref m_tape, .int (nI n), .int 0, .int 0, .int 0, .int 0, .int 0, .long 0, .int 0, .int 0, .int 0, .int 0, .ref m_readPlace, .ref m_script, .ref m_scriptLong, .int 0, .ref m_now, .ref m_refused, .int 0, .ref m_shareX, .ref m_shareY, .int 0, .int 0, .ref m_askedRow, .int 0, .ref m_kept, .int 0, .long 0, .ref m_aside, .int 0, .int 0, .ref m_spelled, .int 0, .ref m_image, .int 0])), (m_tape, .inl (E.2.1, 320, .inl (upd f (nI n : Int32).toNatClampNeg r_1)))] := hD
    generalize upd f (nI n : Int32).toNatClampNeg r_1 = f_3 at hP hD
    refine lv_aload_n hx hb dX8_feed_99 rfl (lv_at hl 1 rfl) ?_
    refine lv_dup hx hb dX8_feed_100 rfl ?_
    refine va_get (D := E.1) (ci := 9) (v := .int (nI n)) (C := RX8) (T := TX8) (N := 36) hx hb hts i_d_feed_X8 hown hK hP 0 rfl rfl 2 (by decide) (hts (.fieldLink RX8 57 "HushWatchModel" "taped" "I") (List.mem_of_getElem? (i := 2) rfl)) (fun _ h9 => h9) rfl dX8_feed_101 ?_
    refine lv_iconst (v := 1) hx hb dX8_feed_104 (by decide) ?_
    refine lv_iadd hx hb dX8_feed_105 ?_
    refine lv_topi (fun z_4 ez_4 => ?_)
    obtain rfl : z_4 = nI (n + 1) := ez_4.trans (nI_add _ 1)
    refine va_put (D := E.1) (ci := 9) (v := .int (nI (n + 1))) (ty := .int) (C := RX8) (T := TX8) (N := 36) hx hb hts i_d_feed_X8 tyX8 tyX8_ok nmX8 hown hK hP hD hS 0 rfl rfl 2 (by decide) (hts (.fieldLink RX8 57 "HushWatchModel" "taped" "I") (List.mem_of_getElem? (i := 2) rfl)) (fun _ h9 => h9) rfl (by decide +kernel) rfl rfl (Nat.le_of_ble_eq_true rfl) dX8_feed_106 (fun H locs hP hD hS => ?_)
    have hP : va_P E.1 vwCl [(mo, .inr (9, [.int 0, .ref m_tape, .int (nI (n + 1)), .int 0, .int 0, .int 0, .int 0, .int 0, .long 0, .int 0, .int 0, .int 0, .int 0, .ref m_readPlace, .ref m_script, .ref m_scriptLong, .int 0, .ref m_now, .ref m_refused, .int 0, .ref m_shareX, .ref m_shareY, .int 0, .int 0, .ref m_askedRow, .int 0, .ref m_kept, .int 0, .long 0, .ref m_aside, .int 0, .int 0, .ref m_spelled, .int 0, .ref m_image, .int 0])), (m_tape, .inl (E.2.1, 320, .inl f_3))] H := hP
    have hD : va_D A [(mo, .inr (9, [.int 0, .ref m_tape, .int (nI (n + 1)), .int 0, .int 0, .int 0, .int 0, .int 0, .long 0, .int 0, .int 0, .int 0, .int 0, .ref m_readPlace, .ref m_script, .ref m_scriptLong, .int 0, .ref m_now, .ref m_refused, .int 0, .ref m_shareX, .ref m_shareY, .int 0, .int 0, .ref m_askedRow, .int 0, .ref m_kept, .int 0, .long 0, .ref m_aside, .int 0, .int 0, .ref m_spelled, .int 0, .ref m_image, .int 0])), (m_tape, .inl (E.2.1, 320, .inl f_3))] := hD
    refine lv_iinc (v := 20) (lv' := [(7, .int 20), (8, .int r_1), (0, .ref mo), (1, .int p0), (2, .int p1), (3, .int p2), (4, .int p3), (5, .int p4)]) hx hb dX8_feed_109 hl (k := 7) rfl (by decide) (by decide) rfl (fun ls hl => ?_)
    refine lv_goto (tgt := 62) hx hb dX8_feed_112 (by decide) ?_
    have e8 : nzN p4 0 = 1 := by unfold nzN; rw [← hr_1, if_neg c_2]
    have e9 : n + 1 = n + nzN p4 0 := by omega
    have hP : va_P E.1 vwCl [(mo, .inr (9, [.int 0, .ref m_tape, .int (nI (n + nzN p4 0)), .int 0, .int 0, .int 0, .int 0, .int 0, .long 0, .int 0, .int 0, .int 0, .int 0, .ref m_readPlace, .ref m_script, .ref m_scriptLong, .int 0, .ref m_now, .ref m_refused, .int 0, .ref m_shareX, .ref m_shareY, .int 0, .int 0, .ref m_askedRow, .int 0, .ref m_kept, .int 0, .long 0, .ref m_aside, .int 0, .int 0, .ref m_spelled, .int 0, .ref m_image, .int 0])), (m_tape, .inl (E.2.1, 320, .inl f_3))] H := by rw [← e9]; exact hP
    have hD : va_D A [(mo, .inr (9, [.int 0, .ref m_tape, .int (nI (n + nzN p4 0)), .int 0, .int 0, .int 0, .int 0, .int 0, .long 0, .int 0, .int 0, .int 0, .int 0, .ref m_readPlace, .ref m_script, .ref m_scriptLong, .int 0, .ref m_now, .ref m_refused, .int 0, .ref m_shareX, .ref m_shareY, .int 0, .int 0, .ref m_askedRow, .int 0, .ref m_kept, .int 0, .long 0, .ref m_aside, .int 0, .int 0, .ref m_spelled, .int 0, .ref m_image, .int 0])), (m_tape, .inl (E.2.1, 320, .inl f_3))] := by rw [← e9]; exact hD
    exact K H locs f_3 ls (hP.sub [0, 1] rfl) (hD.sub [0, 1] (by decide) rfl) hS (lv_sub hl [2, 3, 4, 5, 6, 7, 0] rfl)

set_option maxHeartbeats 4000000 in
set_option maxRecDepth 100000 in
theorem d_feed (l : Launch) (E : EE) (sz : Nat) (mo m_tape m_readPlace m_script m_scriptLong m_now m_refused m_shareX m_shareY m_askedRow m_kept m_aside m_spelled m_image : Nat) (p0 p1 p2 p3 p4 : Int32) : Met l yX8_feed v_d_feed ({ frames := 1, cells := 0, slots := 0, locals := 26 }) (va_Pc [.ref mo, .int p0, .int p1, .int p2, .int p3, .int p4] (pW E sz [(mo, .inr (9, [.int 0, .ref m_tape, .int 0, .int 0, .int 0, .int 0, .int 0, .int 0, .long 0, .int 0, .int 0, .int 0, .int 0, .ref m_readPlace, .ref m_script, .ref m_scriptLong, .int 0, .ref m_now, .ref m_refused, .int 0, .ref m_shareX, .ref m_shareY, .int 0, .int 0, .ref m_askedRow, .int 0, .ref m_kept, .int 0, .long 0, .ref m_aside, .int 0, .int 0, .ref m_spelled, .int 0, .ref m_image, .int 0])), (m_tape, .inl (E.2.1, 320, .inl (fun _ => 0)))])) (va_Qi (fun r (_u : Unit) => r = feedv p0 p1 p2 p3 p4) (fun (_u : Unit) tt => va_P E.1 vwCl [] tt.heap ∧ va_D (va_A [(mo, .inr (9, [.int 0, .ref m_tape, .int 0, .int 0, .int 0, .int 0, .int 0, .int 0, .long 0, .int 0, .int 0, .int 0, .int 0, .ref m_readPlace, .ref m_script, .ref m_scriptLong, .int 0, .ref m_now, .ref m_refused, .int 0, .ref m_shareX, .ref m_shareY, .int 0, .int 0, .ref m_askedRow, .int 0, .ref m_kept, .int 0, .long 0, .ref m_aside, .int 0, .int 0, .ref m_spelled, .int 0, .ref m_image, .int 0])), (m_tape, .inl (E.2.1, 320, .inl (fun _ => 0)))] sz) []) (va_A [(mo, .inr (9, [.int 0, .ref m_tape, .int 0, .int 0, .int 0, .int 0, .int 0, .int 0, .long 0, .int 0, .int 0, .int 0, .int 0, .ref m_readPlace, .ref m_script, .ref m_scriptLong, .int 0, .ref m_now, .ref m_refused, .int 0, .ref m_shareX, .ref m_shareY, .int 0, .int 0, .ref m_askedRow, .int 0, .ref m_kept, .int 0, .long 0, .ref m_aside, .int 0, .int 0, .ref m_spelled, .int 0, .ref m_image, .int 0])), (m_tape, .inl (E.2.1, 320, .inl (fun _ => 0)))] sz)) 0 0 (va_A [(mo, .inr (9, [.int 0, .ref m_tape, .int 0, .int 0, .int 0, .int 0, .int 0, .int 0, .long 0, .int 0, .int 0, .int 0, .int 0, .ref m_readPlace, .ref m_script, .ref m_scriptLong, .int 0, .ref m_now, .ref m_refused, .int 0, .ref m_shareX, .ref m_shareY, .int 0, .int 0, .ref m_askedRow, .int 0, .ref m_kept, .int 0, .long 0, .ref m_aside, .int 0, .int 0, .ref m_spelled, .int 0, .ref m_image, .int 0])), (m_tape, .inl (E.2.1, 320, .inl (fun _ => 0)))] sz) := by
  refine Met.ofW (cc := cX8_feed) (maxL := 9) (ret := (some .int)) (by decide) rfl ?_
  intro p e s m args below meth c s₁ B hml hv
  obtain ⟨rfl, hsz, ⟨hK, hN⟩, hP, hD0⟩ := hv
  have hx := B.exec
  have hb := B.bytes
  have hr := B.returns
  have hts := atoms_spec (ws := v_d_feed) B.pre
  have hown : s.vm.findClass RX8 = some m.cls := findClass_of_methodNamed B.named
  have hlocks := B.notSynchronized
  subst hsz
  have hD := hD0.self (sz := s.heap.size)
  generalize hAe : va_A [(mo, .inr (9, [.int 0, .ref m_tape, .int 0, .int 0, .int 0, .int 0, .int 0, .int 0, .long 0, .int 0, .int 0, .int 0, .int 0, .ref m_readPlace, .ref m_script, .ref m_scriptLong, .int 0, .ref m_now, .ref m_refused, .int 0, .ref m_shareX, .ref m_shareY, .int 0, .int 0, .ref m_askedRow, .int 0, .ref m_kept, .int 0, .long 0, .ref m_aside, .int 0, .int 0, .ref m_spelled, .int 0, .ref m_image, .int 0])), (m_tape, .inl (E.2.1, 320, .inl (fun _ => 0)))] s.heap.size = A at hD ⊢
  have hA : ∀ q : Nat, s.heap.size ≤ q → A q := fun q h => by rw [← hAe]; exact Or.inr h
  have hS : va_S A s.heap s.heap [] := va_S.rf
  have hP : va_P E.1 vwCl [(mo, .inr (9, [.int 0, .ref m_tape, .int 0, .int 0, .int 0, .int 0, .int 0, .int 0, .long 0, .int 0, .int 0, .int 0, .int 0, .ref m_readPlace, .ref m_script, .ref m_scriptLong, .int 0, .ref m_now, .ref m_refused, .int 0, .ref m_shareX, .ref m_shareY, .int 0, .int 0, .ref m_askedRow, .int 0, .ref m_kept, .int 0, .long 0, .ref m_aside, .int 0, .int 0, .ref m_spelled, .int 0, .ref m_image, .int 0])), (m_tape, .inl (E.2.1, 320, .inl (fun _ => 0)))] s.heap := hP
  have hl := lv_entry ([.ref mo, .int p0, .int p1, .int p2, .int p3, .int p4]) (n := 9) (Nat.le_of_ble_eq_true rfl)
  rw [lg_entry_eq]
  generalize (lg_sl ([.ref mo, .int p0, .int p1, .int p2, .int p3, .int p4]) ++ List.replicate (9 - (lg_sl ([.ref mo, .int p0, .int p1, .int p2, .int p3, .int p4])).length) Slot.unset).toArray = ls at hl ⊢
  have hl : lv_has ls 9 [(0, .ref mo), (1, .int p0), (2, .int p1), (3, .int p2), (4, .int p3), (5, .int p4)] := hl
  refine lv_iconst (v := 0) hx hb dX8_feed_0 (by decide) ?_
  refine lv_istore (lv' := [(6, .int 0), (0, .ref mo), (1, .int p0), (2, .int p1), (3, .int p2), (4, .int p3), (5, .int p4)]) hx hb dX8_feed_1 hl (by decide) rfl (fun ls hl => ?_)
  refine lv_iconst (v := 0) hx hb dX8_feed_3 (by decide) ?_
  refine lv_istore (lv' := [(7, .int 0), (6, .int 0), (0, .ref mo), (1, .int p0), (2, .int p1), (3, .int p2), (4, .int p3), (5, .int p4)]) hx hb dX8_feed_4 hl (by decide) rfl (fun ls hl => ?_)
  refine lv_iload hx hb dX8_feed_6 (lv_at hl 0 rfl) ?_
  refine lv_bipush (v := 20) hx hb dX8_feed_8 (by decide) ?_
  refine lv_icmp_ge (tgt := 44) hx hb dX8_feed_10 (by decide) (fun q => absurd q (by decide)) (fun _ => ?_)
  refine lv_iload hx hb dX8_feed_13 (lv_at hl 1 rfl) ?_
  refine lv_iload_n hx hb dX8_feed_15 rfl (lv_at hl 3 rfl) ?_
  refine lv_iload_n hx hb dX8_feed_16 rfl (lv_at hl 4 rfl) ?_
  refine lv_iload_n hx hb dX8_feed_17 rfl (lv_at hl 5 rfl) ?_
  refine lv_iload hx hb dX8_feed_18 (lv_at hl 6 rfl) ?_
  refine lv_iload hx hb dX8_feed_20 (lv_at hl 7 rfl) ?_
  refine lv_iload hx hb dX8_feed_22 (lv_at hl 0 rfl) ?_
  have hPc : va_P E.1 vwCl [] s.heap := fun k q h => by simp at h
  refine pc_i (va_runS (As := [.int p0, .int p1, .int p2, .int p3, .int p4, .int 0]) (rest := [.int 0]) ⟨hx, hb, hml, hown, hts⟩ (d_byteOf0 l E p0 p1 p2 p3 p4) (va_cwS 6 hts g_d_feed_d_byteOf0_53 rfl rfl rfl (by decide +kernel) ⟨Nat.le_of_ble_eq_true rfl, Nat.le_of_ble_eq_true rfl⟩) ⟨pP.blind, (pP.pre ⟨hK, hN⟩ hPc)⟩ rfl rfl hl.1 rfl (lv_room (Nat.le_of_ble_eq_true rfl)) dX8_feed_24 ⟨Nat.le_of_ble_eq_true rfl, Nat.le_of_ble_eq_true rfl⟩) (fun r_1 hr_1 => ?_)
  refine lv_sel (t1 := 34) (t2 := 35) hx hb dX8_feed_27 (by decide) dX8_feed_30 dX8_feed_31 (by decide) dX8_feed_34 rfl ?_
  refine lv_iadd hx hb dX8_feed_35 ?_
  refine lv_topi (fun z_2 ez_2 => ?_)
  obtain rfl : z_2 = nI (0 + nzN p0 24) := ez_2.trans (nz_add hr_1)
  refine lv_istore (lv' := [(6, .int (nI (0 + nzN p0 24))), (7, .int 0), (0, .ref mo), (1, .int p0), (2, .int p1), (3, .int p2), (4, .int p3), (5, .int p4)]) hx hb dX8_feed_36 hl (by decide) rfl (fun ls hl => ?_)
  refine lv_iinc (v := 1) (lv' := [(7, .int 1), (6, .int (nI (0 + nzN p0 24))), (0, .ref mo), (1, .int p0), (2, .int p1), (3, .int p2), (4, .int p3), (5, .int p4)]) hx hb dX8_feed_38 hl (k := 1) rfl (by decide) (by decide) rfl (fun ls hl => ?_)
  refine lv_goto (tgt := 6) hx hb dX8_feed_41 (by decide) ?_
  refine lv_iload hx hb dX8_feed_6 (lv_at hl 0 rfl) ?_
  refine lv_bipush (v := 20) hx hb dX8_feed_8 (by decide) ?_
  refine lv_icmp_ge (tgt := 44) hx hb dX8_feed_10 (by decide) (fun q => absurd q (by decide)) (fun _ => ?_)
  refine lv_iload hx hb dX8_feed_13 (lv_at hl 1 rfl) ?_
  refine lv_iload_n hx hb dX8_feed_15 rfl (lv_at hl 3 rfl) ?_
  refine lv_iload_n hx hb dX8_feed_16 rfl (lv_at hl 4 rfl) ?_
  refine lv_iload_n hx hb dX8_feed_17 rfl (lv_at hl 5 rfl) ?_
  refine lv_iload hx hb dX8_feed_18 (lv_at hl 6 rfl) ?_
  refine lv_iload hx hb dX8_feed_20 (lv_at hl 7 rfl) ?_
  refine lv_iload hx hb dX8_feed_22 (lv_at hl 0 rfl) ?_
  have hPc : va_P E.1 vwCl [] s.heap := fun k q h => by simp at h
  refine pc_i (va_runS (As := [.int p0, .int p1, .int p2, .int p3, .int p4, .int 1]) (rest := [.int (nI (0 + nzN p0 24))]) ⟨hx, hb, hml, hown, hts⟩ (d_byteOf1 l E p0 p1 p2 p3 p4) (va_cwS 6 hts g_d_feed_d_byteOf1_53 rfl rfl rfl (by decide +kernel) ⟨Nat.le_of_ble_eq_true rfl, Nat.le_of_ble_eq_true rfl⟩) ⟨pP.blind, (pP.pre ⟨hK, hN⟩ hPc)⟩ rfl rfl hl.1 rfl (lv_room (Nat.le_of_ble_eq_true rfl)) dX8_feed_24 ⟨Nat.le_of_ble_eq_true rfl, Nat.le_of_ble_eq_true rfl⟩) (fun r_3 hr_3 => ?_)
  refine lv_sel (t1 := 34) (t2 := 35) hx hb dX8_feed_27 (by decide) dX8_feed_30 dX8_feed_31 (by decide) dX8_feed_34 rfl ?_
  refine lv_iadd hx hb dX8_feed_35 ?_
  refine lv_topi (fun z_4 ez_4 => ?_)
  obtain rfl : z_4 = nI (0 + nzN p0 24 + nzN p0 16) := ez_4.trans (nz_add hr_3)
  refine lv_istore (lv' := [(6, .int (nI (0 + nzN p0 24 + nzN p0 16))), (7, .int 1), (0, .ref mo), (1, .int p0), (2, .int p1), (3, .int p2), (4, .int p3), (5, .int p4)]) hx hb dX8_feed_36 hl (by decide) rfl (fun ls hl => ?_)
  refine lv_iinc (v := 2) (lv' := [(7, .int 2), (6, .int (nI (0 + nzN p0 24 + nzN p0 16))), (0, .ref mo), (1, .int p0), (2, .int p1), (3, .int p2), (4, .int p3), (5, .int p4)]) hx hb dX8_feed_38 hl (k := 1) rfl (by decide) (by decide) rfl (fun ls hl => ?_)
  refine lv_goto (tgt := 6) hx hb dX8_feed_41 (by decide) ?_
  refine lv_iload hx hb dX8_feed_6 (lv_at hl 0 rfl) ?_
  refine lv_bipush (v := 20) hx hb dX8_feed_8 (by decide) ?_
  refine lv_icmp_ge (tgt := 44) hx hb dX8_feed_10 (by decide) (fun q => absurd q (by decide)) (fun _ => ?_)
  refine lv_iload hx hb dX8_feed_13 (lv_at hl 1 rfl) ?_
  refine lv_iload_n hx hb dX8_feed_15 rfl (lv_at hl 3 rfl) ?_
  refine lv_iload_n hx hb dX8_feed_16 rfl (lv_at hl 4 rfl) ?_
  refine lv_iload_n hx hb dX8_feed_17 rfl (lv_at hl 5 rfl) ?_
  refine lv_iload hx hb dX8_feed_18 (lv_at hl 6 rfl) ?_
  refine lv_iload hx hb dX8_feed_20 (lv_at hl 7 rfl) ?_
  refine lv_iload hx hb dX8_feed_22 (lv_at hl 0 rfl) ?_
  have hPc : va_P E.1 vwCl [] s.heap := fun k q h => by simp at h
  refine pc_i (va_runS (As := [.int p0, .int p1, .int p2, .int p3, .int p4, .int 2]) (rest := [.int (nI (0 + nzN p0 24 + nzN p0 16))]) ⟨hx, hb, hml, hown, hts⟩ (d_byteOf2 l E p0 p1 p2 p3 p4) (va_cwS 6 hts g_d_feed_d_byteOf2_53 rfl rfl rfl (by decide +kernel) ⟨Nat.le_of_ble_eq_true rfl, Nat.le_of_ble_eq_true rfl⟩) ⟨pP.blind, (pP.pre ⟨hK, hN⟩ hPc)⟩ rfl rfl hl.1 rfl (lv_room (Nat.le_of_ble_eq_true rfl)) dX8_feed_24 ⟨Nat.le_of_ble_eq_true rfl, Nat.le_of_ble_eq_true rfl⟩) (fun r_5 hr_5 => ?_)
  refine lv_sel (t1 := 34) (t2 := 35) hx hb dX8_feed_27 (by decide) dX8_feed_30 dX8_feed_31 (by decide) dX8_feed_34 rfl ?_
  refine lv_iadd hx hb dX8_feed_35 ?_
  refine lv_topi (fun z_6 ez_6 => ?_)
  obtain rfl : z_6 = nI (0 + nzN p0 24 + nzN p0 16 + nzN p0 8) := ez_6.trans (nz_add hr_5)
  refine lv_istore (lv' := [(6, .int (nI (0 + nzN p0 24 + nzN p0 16 + nzN p0 8))), (7, .int 2), (0, .ref mo), (1, .int p0), (2, .int p1), (3, .int p2), (4, .int p3), (5, .int p4)]) hx hb dX8_feed_36 hl (by decide) rfl (fun ls hl => ?_)
  refine lv_iinc (v := 3) (lv' := [(7, .int 3), (6, .int (nI (0 + nzN p0 24 + nzN p0 16 + nzN p0 8))), (0, .ref mo), (1, .int p0), (2, .int p1), (3, .int p2), (4, .int p3), (5, .int p4)]) hx hb dX8_feed_38 hl (k := 1) rfl (by decide) (by decide) rfl (fun ls hl => ?_)
  refine lv_goto (tgt := 6) hx hb dX8_feed_41 (by decide) ?_
  refine lv_iload hx hb dX8_feed_6 (lv_at hl 0 rfl) ?_
  refine lv_bipush (v := 20) hx hb dX8_feed_8 (by decide) ?_
  refine lv_icmp_ge (tgt := 44) hx hb dX8_feed_10 (by decide) (fun q => absurd q (by decide)) (fun _ => ?_)
  refine lv_iload hx hb dX8_feed_13 (lv_at hl 1 rfl) ?_
  refine lv_iload_n hx hb dX8_feed_15 rfl (lv_at hl 3 rfl) ?_
  refine lv_iload_n hx hb dX8_feed_16 rfl (lv_at hl 4 rfl) ?_
  refine lv_iload_n hx hb dX8_feed_17 rfl (lv_at hl 5 rfl) ?_
  refine lv_iload hx hb dX8_feed_18 (lv_at hl 6 rfl) ?_
  refine lv_iload hx hb dX8_feed_20 (lv_at hl 7 rfl) ?_
  refine lv_iload hx hb dX8_feed_22 (lv_at hl 0 rfl) ?_
  have hPc : va_P E.1 vwCl [] s.heap := fun k q h => by simp at h
  refine pc_i (va_runS (As := [.int p0, .int p1, .int p2, .int p3, .int p4, .int 3]) (rest := [.int (nI (0 + nzN p0 24 + nzN p0 16 + nzN p0 8))]) ⟨hx, hb, hml, hown, hts⟩ (d_byteOf3 l E p0 p1 p2 p3 p4) (va_cwS 6 hts g_d_feed_d_byteOf3_53 rfl rfl rfl (by decide +kernel) ⟨Nat.le_of_ble_eq_true rfl, Nat.le_of_ble_eq_true rfl⟩) ⟨pP.blind, (pP.pre ⟨hK, hN⟩ hPc)⟩ rfl rfl hl.1 rfl (lv_room (Nat.le_of_ble_eq_true rfl)) dX8_feed_24 ⟨Nat.le_of_ble_eq_true rfl, Nat.le_of_ble_eq_true rfl⟩) (fun r_7 hr_7 => ?_)
  refine lv_sel (t1 := 34) (t2 := 35) hx hb dX8_feed_27 (by decide) dX8_feed_30 dX8_feed_31 (by decide) dX8_feed_34 rfl ?_
  refine lv_iadd hx hb dX8_feed_35 ?_
  refine lv_topi (fun z_8 ez_8 => ?_)
  obtain rfl : z_8 = nI (0 + nzN p0 24 + nzN p0 16 + nzN p0 8 + nzN p0 0) := ez_8.trans (nz_add hr_7)
  refine lv_istore (lv' := [(6, .int (nI (0 + nzN p0 24 + nzN p0 16 + nzN p0 8 + nzN p0 0))), (7, .int 3), (0, .ref mo), (1, .int p0), (2, .int p1), (3, .int p2), (4, .int p3), (5, .int p4)]) hx hb dX8_feed_36 hl (by decide) rfl (fun ls hl => ?_)
  refine lv_iinc (v := 4) (lv' := [(7, .int 4), (6, .int (nI (0 + nzN p0 24 + nzN p0 16 + nzN p0 8 + nzN p0 0))), (0, .ref mo), (1, .int p0), (2, .int p1), (3, .int p2), (4, .int p3), (5, .int p4)]) hx hb dX8_feed_38 hl (k := 1) rfl (by decide) (by decide) rfl (fun ls hl => ?_)
  refine lv_goto (tgt := 6) hx hb dX8_feed_41 (by decide) ?_
  refine lv_iload hx hb dX8_feed_6 (lv_at hl 0 rfl) ?_
  refine lv_bipush (v := 20) hx hb dX8_feed_8 (by decide) ?_
  refine lv_icmp_ge (tgt := 44) hx hb dX8_feed_10 (by decide) (fun q => absurd q (by decide)) (fun _ => ?_)
  refine lv_iload hx hb dX8_feed_13 (lv_at hl 1 rfl) ?_
  refine lv_iload_n hx hb dX8_feed_15 rfl (lv_at hl 3 rfl) ?_
  refine lv_iload_n hx hb dX8_feed_16 rfl (lv_at hl 4 rfl) ?_
  refine lv_iload_n hx hb dX8_feed_17 rfl (lv_at hl 5 rfl) ?_
  refine lv_iload hx hb dX8_feed_18 (lv_at hl 6 rfl) ?_
  refine lv_iload hx hb dX8_feed_20 (lv_at hl 7 rfl) ?_
  refine lv_iload hx hb dX8_feed_22 (lv_at hl 0 rfl) ?_
  have hPc : va_P E.1 vwCl [] s.heap := fun k q h => by simp at h
  refine pc_i (va_runS (As := [.int p0, .int p1, .int p2, .int p3, .int p4, .int 4]) (rest := [.int (nI (0 + nzN p0 24 + nzN p0 16 + nzN p0 8 + nzN p0 0))]) ⟨hx, hb, hml, hown, hts⟩ (d_byteOf4 l E p0 p1 p2 p3 p4) (va_cwS 6 hts g_d_feed_d_byteOf4_53 rfl rfl rfl (by decide +kernel) ⟨Nat.le_of_ble_eq_true rfl, Nat.le_of_ble_eq_true rfl⟩) ⟨pP.blind, (pP.pre ⟨hK, hN⟩ hPc)⟩ rfl rfl hl.1 rfl (lv_room (Nat.le_of_ble_eq_true rfl)) dX8_feed_24 ⟨Nat.le_of_ble_eq_true rfl, Nat.le_of_ble_eq_true rfl⟩) (fun r_9 hr_9 => ?_)
  refine lv_sel (t1 := 34) (t2 := 35) hx hb dX8_feed_27 (by decide) dX8_feed_30 dX8_feed_31 (by decide) dX8_feed_34 rfl ?_
  refine lv_iadd hx hb dX8_feed_35 ?_
  refine lv_topi (fun z_10 ez_10 => ?_)
  obtain rfl : z_10 = nI (0 + nzN p0 24 + nzN p0 16 + nzN p0 8 + nzN p0 0 + nzN p1 24) := ez_10.trans (nz_add hr_9)
  refine lv_istore (lv' := [(6, .int (nI (0 + nzN p0 24 + nzN p0 16 + nzN p0 8 + nzN p0 0 + nzN p1 24))), (7, .int 4), (0, .ref mo), (1, .int p0), (2, .int p1), (3, .int p2), (4, .int p3), (5, .int p4)]) hx hb dX8_feed_36 hl (by decide) rfl (fun ls hl => ?_)
  refine lv_iinc (v := 5) (lv' := [(7, .int 5), (6, .int (nI (0 + nzN p0 24 + nzN p0 16 + nzN p0 8 + nzN p0 0 + nzN p1 24))), (0, .ref mo), (1, .int p0), (2, .int p1), (3, .int p2), (4, .int p3), (5, .int p4)]) hx hb dX8_feed_38 hl (k := 1) rfl (by decide) (by decide) rfl (fun ls hl => ?_)
  refine lv_goto (tgt := 6) hx hb dX8_feed_41 (by decide) ?_
  refine lv_iload hx hb dX8_feed_6 (lv_at hl 0 rfl) ?_
  refine lv_bipush (v := 20) hx hb dX8_feed_8 (by decide) ?_
  refine lv_icmp_ge (tgt := 44) hx hb dX8_feed_10 (by decide) (fun q => absurd q (by decide)) (fun _ => ?_)
  refine lv_iload hx hb dX8_feed_13 (lv_at hl 1 rfl) ?_
  refine lv_iload_n hx hb dX8_feed_15 rfl (lv_at hl 3 rfl) ?_
  refine lv_iload_n hx hb dX8_feed_16 rfl (lv_at hl 4 rfl) ?_
  refine lv_iload_n hx hb dX8_feed_17 rfl (lv_at hl 5 rfl) ?_
  refine lv_iload hx hb dX8_feed_18 (lv_at hl 6 rfl) ?_
  refine lv_iload hx hb dX8_feed_20 (lv_at hl 7 rfl) ?_
  refine lv_iload hx hb dX8_feed_22 (lv_at hl 0 rfl) ?_
  have hPc : va_P E.1 vwCl [] s.heap := fun k q h => by simp at h
  refine pc_i (va_runS (As := [.int p0, .int p1, .int p2, .int p3, .int p4, .int 5]) (rest := [.int (nI (0 + nzN p0 24 + nzN p0 16 + nzN p0 8 + nzN p0 0 + nzN p1 24))]) ⟨hx, hb, hml, hown, hts⟩ (d_byteOf5 l E p0 p1 p2 p3 p4) (va_cwS 6 hts g_d_feed_d_byteOf5_53 rfl rfl rfl (by decide +kernel) ⟨Nat.le_of_ble_eq_true rfl, Nat.le_of_ble_eq_true rfl⟩) ⟨pP.blind, (pP.pre ⟨hK, hN⟩ hPc)⟩ rfl rfl hl.1 rfl (lv_room (Nat.le_of_ble_eq_true rfl)) dX8_feed_24 ⟨Nat.le_of_ble_eq_true rfl, Nat.le_of_ble_eq_true rfl⟩) (fun r_11 hr_11 => ?_)
  refine lv_sel (t1 := 34) (t2 := 35) hx hb dX8_feed_27 (by decide) dX8_feed_30 dX8_feed_31 (by decide) dX8_feed_34 rfl ?_
  refine lv_iadd hx hb dX8_feed_35 ?_
  refine lv_topi (fun z_12 ez_12 => ?_)
  obtain rfl : z_12 = nI (0 + nzN p0 24 + nzN p0 16 + nzN p0 8 + nzN p0 0 + nzN p1 24 + nzN p1 16) := ez_12.trans (nz_add hr_11)
  refine lv_istore (lv' := [(6, .int (nI (0 + nzN p0 24 + nzN p0 16 + nzN p0 8 + nzN p0 0 + nzN p1 24 + nzN p1 16))), (7, .int 5), (0, .ref mo), (1, .int p0), (2, .int p1), (3, .int p2), (4, .int p3), (5, .int p4)]) hx hb dX8_feed_36 hl (by decide) rfl (fun ls hl => ?_)
  refine lv_iinc (v := 6) (lv' := [(7, .int 6), (6, .int (nI (0 + nzN p0 24 + nzN p0 16 + nzN p0 8 + nzN p0 0 + nzN p1 24 + nzN p1 16))), (0, .ref mo), (1, .int p0), (2, .int p1), (3, .int p2), (4, .int p3), (5, .int p4)]) hx hb dX8_feed_38 hl (k := 1) rfl (by decide) (by decide) rfl (fun ls hl => ?_)
  refine lv_goto (tgt := 6) hx hb dX8_feed_41 (by decide) ?_
  refine lv_iload hx hb dX8_feed_6 (lv_at hl 0 rfl) ?_
  refine lv_bipush (v := 20) hx hb dX8_feed_8 (by decide) ?_
  refine lv_icmp_ge (tgt := 44) hx hb dX8_feed_10 (by decide) (fun q => absurd q (by decide)) (fun _ => ?_)
  refine lv_iload hx hb dX8_feed_13 (lv_at hl 1 rfl) ?_
  refine lv_iload_n hx hb dX8_feed_15 rfl (lv_at hl 3 rfl) ?_
  refine lv_iload_n hx hb dX8_feed_16 rfl (lv_at hl 4 rfl) ?_
  refine lv_iload_n hx hb dX8_feed_17 rfl (lv_at hl 5 rfl) ?_
  refine lv_iload hx hb dX8_feed_18 (lv_at hl 6 rfl) ?_
  refine lv_iload hx hb dX8_feed_20 (lv_at hl 7 rfl) ?_
  refine lv_iload hx hb dX8_feed_22 (lv_at hl 0 rfl) ?_
  have hPc : va_P E.1 vwCl [] s.heap := fun k q h => by simp at h
  refine pc_i (va_runS (As := [.int p0, .int p1, .int p2, .int p3, .int p4, .int 6]) (rest := [.int (nI (0 + nzN p0 24 + nzN p0 16 + nzN p0 8 + nzN p0 0 + nzN p1 24 + nzN p1 16))]) ⟨hx, hb, hml, hown, hts⟩ (d_byteOf6 l E p0 p1 p2 p3 p4) (va_cwS 6 hts g_d_feed_d_byteOf6_53 rfl rfl rfl (by decide +kernel) ⟨Nat.le_of_ble_eq_true rfl, Nat.le_of_ble_eq_true rfl⟩) ⟨pP.blind, (pP.pre ⟨hK, hN⟩ hPc)⟩ rfl rfl hl.1 rfl (lv_room (Nat.le_of_ble_eq_true rfl)) dX8_feed_24 ⟨Nat.le_of_ble_eq_true rfl, Nat.le_of_ble_eq_true rfl⟩) (fun r_13 hr_13 => ?_)
  refine lv_sel (t1 := 34) (t2 := 35) hx hb dX8_feed_27 (by decide) dX8_feed_30 dX8_feed_31 (by decide) dX8_feed_34 rfl ?_
  refine lv_iadd hx hb dX8_feed_35 ?_
  refine lv_topi (fun z_14 ez_14 => ?_)
  obtain rfl : z_14 = nI (0 + nzN p0 24 + nzN p0 16 + nzN p0 8 + nzN p0 0 + nzN p1 24 + nzN p1 16 + nzN p1 8) := ez_14.trans (nz_add hr_13)
  refine lv_istore (lv' := [(6, .int (nI (0 + nzN p0 24 + nzN p0 16 + nzN p0 8 + nzN p0 0 + nzN p1 24 + nzN p1 16 + nzN p1 8))), (7, .int 6), (0, .ref mo), (1, .int p0), (2, .int p1), (3, .int p2), (4, .int p3), (5, .int p4)]) hx hb dX8_feed_36 hl (by decide) rfl (fun ls hl => ?_)
  refine lv_iinc (v := 7) (lv' := [(7, .int 7), (6, .int (nI (0 + nzN p0 24 + nzN p0 16 + nzN p0 8 + nzN p0 0 + nzN p1 24 + nzN p1 16 + nzN p1 8))), (0, .ref mo), (1, .int p0), (2, .int p1), (3, .int p2), (4, .int p3), (5, .int p4)]) hx hb dX8_feed_38 hl (k := 1) rfl (by decide) (by decide) rfl (fun ls hl => ?_)
  refine lv_goto (tgt := 6) hx hb dX8_feed_41 (by decide) ?_
  refine lv_iload hx hb dX8_feed_6 (lv_at hl 0 rfl) ?_
  refine lv_bipush (v := 20) hx hb dX8_feed_8 (by decide) ?_
  refine lv_icmp_ge (tgt := 44) hx hb dX8_feed_10 (by decide) (fun q => absurd q (by decide)) (fun _ => ?_)
  refine lv_iload hx hb dX8_feed_13 (lv_at hl 1 rfl) ?_
  refine lv_iload_n hx hb dX8_feed_15 rfl (lv_at hl 3 rfl) ?_
  refine lv_iload_n hx hb dX8_feed_16 rfl (lv_at hl 4 rfl) ?_
  refine lv_iload_n hx hb dX8_feed_17 rfl (lv_at hl 5 rfl) ?_
  refine lv_iload hx hb dX8_feed_18 (lv_at hl 6 rfl) ?_
  refine lv_iload hx hb dX8_feed_20 (lv_at hl 7 rfl) ?_
  refine lv_iload hx hb dX8_feed_22 (lv_at hl 0 rfl) ?_
  have hPc : va_P E.1 vwCl [] s.heap := fun k q h => by simp at h
  refine pc_i (va_runS (As := [.int p0, .int p1, .int p2, .int p3, .int p4, .int 7]) (rest := [.int (nI (0 + nzN p0 24 + nzN p0 16 + nzN p0 8 + nzN p0 0 + nzN p1 24 + nzN p1 16 + nzN p1 8))]) ⟨hx, hb, hml, hown, hts⟩ (d_byteOf7 l E p0 p1 p2 p3 p4) (va_cwS 6 hts g_d_feed_d_byteOf7_53 rfl rfl rfl (by decide +kernel) ⟨Nat.le_of_ble_eq_true rfl, Nat.le_of_ble_eq_true rfl⟩) ⟨pP.blind, (pP.pre ⟨hK, hN⟩ hPc)⟩ rfl rfl hl.1 rfl (lv_room (Nat.le_of_ble_eq_true rfl)) dX8_feed_24 ⟨Nat.le_of_ble_eq_true rfl, Nat.le_of_ble_eq_true rfl⟩) (fun r_15 hr_15 => ?_)
  refine lv_sel (t1 := 34) (t2 := 35) hx hb dX8_feed_27 (by decide) dX8_feed_30 dX8_feed_31 (by decide) dX8_feed_34 rfl ?_
  refine lv_iadd hx hb dX8_feed_35 ?_
  refine lv_topi (fun z_16 ez_16 => ?_)
  obtain rfl : z_16 = nI (0 + nzN p0 24 + nzN p0 16 + nzN p0 8 + nzN p0 0 + nzN p1 24 + nzN p1 16 + nzN p1 8 + nzN p1 0) := ez_16.trans (nz_add hr_15)
  refine lv_istore (lv' := [(6, .int (nI (0 + nzN p0 24 + nzN p0 16 + nzN p0 8 + nzN p0 0 + nzN p1 24 + nzN p1 16 + nzN p1 8 + nzN p1 0))), (7, .int 7), (0, .ref mo), (1, .int p0), (2, .int p1), (3, .int p2), (4, .int p3), (5, .int p4)]) hx hb dX8_feed_36 hl (by decide) rfl (fun ls hl => ?_)
  refine lv_iinc (v := 8) (lv' := [(7, .int 8), (6, .int (nI (0 + nzN p0 24 + nzN p0 16 + nzN p0 8 + nzN p0 0 + nzN p1 24 + nzN p1 16 + nzN p1 8 + nzN p1 0))), (0, .ref mo), (1, .int p0), (2, .int p1), (3, .int p2), (4, .int p3), (5, .int p4)]) hx hb dX8_feed_38 hl (k := 1) rfl (by decide) (by decide) rfl (fun ls hl => ?_)
  refine lv_goto (tgt := 6) hx hb dX8_feed_41 (by decide) ?_
  refine lv_iload hx hb dX8_feed_6 (lv_at hl 0 rfl) ?_
  refine lv_bipush (v := 20) hx hb dX8_feed_8 (by decide) ?_
  refine lv_icmp_ge (tgt := 44) hx hb dX8_feed_10 (by decide) (fun q => absurd q (by decide)) (fun _ => ?_)
  refine lv_iload hx hb dX8_feed_13 (lv_at hl 1 rfl) ?_
  refine lv_iload_n hx hb dX8_feed_15 rfl (lv_at hl 3 rfl) ?_
  refine lv_iload_n hx hb dX8_feed_16 rfl (lv_at hl 4 rfl) ?_
  refine lv_iload_n hx hb dX8_feed_17 rfl (lv_at hl 5 rfl) ?_
  refine lv_iload hx hb dX8_feed_18 (lv_at hl 6 rfl) ?_
  refine lv_iload hx hb dX8_feed_20 (lv_at hl 7 rfl) ?_
  refine lv_iload hx hb dX8_feed_22 (lv_at hl 0 rfl) ?_
  have hPc : va_P E.1 vwCl [] s.heap := fun k q h => by simp at h
  refine pc_i (va_runS (As := [.int p0, .int p1, .int p2, .int p3, .int p4, .int 8]) (rest := [.int (nI (0 + nzN p0 24 + nzN p0 16 + nzN p0 8 + nzN p0 0 + nzN p1 24 + nzN p1 16 + nzN p1 8 + nzN p1 0))]) ⟨hx, hb, hml, hown, hts⟩ (d_byteOf8 l E p0 p1 p2 p3 p4) (va_cwS 6 hts g_d_feed_d_byteOf8_53 rfl rfl rfl (by decide +kernel) ⟨Nat.le_of_ble_eq_true rfl, Nat.le_of_ble_eq_true rfl⟩) ⟨pP.blind, (pP.pre ⟨hK, hN⟩ hPc)⟩ rfl rfl hl.1 rfl (lv_room (Nat.le_of_ble_eq_true rfl)) dX8_feed_24 ⟨Nat.le_of_ble_eq_true rfl, Nat.le_of_ble_eq_true rfl⟩) (fun r_17 hr_17 => ?_)
  refine lv_sel (t1 := 34) (t2 := 35) hx hb dX8_feed_27 (by decide) dX8_feed_30 dX8_feed_31 (by decide) dX8_feed_34 rfl ?_
  refine lv_iadd hx hb dX8_feed_35 ?_
  refine lv_topi (fun z_18 ez_18 => ?_)
  obtain rfl : z_18 = nI (0 + nzN p0 24 + nzN p0 16 + nzN p0 8 + nzN p0 0 + nzN p1 24 + nzN p1 16 + nzN p1 8 + nzN p1 0 + nzN p2 24) := ez_18.trans (nz_add hr_17)
  refine lv_istore (lv' := [(6, .int (nI (0 + nzN p0 24 + nzN p0 16 + nzN p0 8 + nzN p0 0 + nzN p1 24 + nzN p1 16 + nzN p1 8 + nzN p1 0 + nzN p2 24))), (7, .int 8), (0, .ref mo), (1, .int p0), (2, .int p1), (3, .int p2), (4, .int p3), (5, .int p4)]) hx hb dX8_feed_36 hl (by decide) rfl (fun ls hl => ?_)
  refine lv_iinc (v := 9) (lv' := [(7, .int 9), (6, .int (nI (0 + nzN p0 24 + nzN p0 16 + nzN p0 8 + nzN p0 0 + nzN p1 24 + nzN p1 16 + nzN p1 8 + nzN p1 0 + nzN p2 24))), (0, .ref mo), (1, .int p0), (2, .int p1), (3, .int p2), (4, .int p3), (5, .int p4)]) hx hb dX8_feed_38 hl (k := 1) rfl (by decide) (by decide) rfl (fun ls hl => ?_)
  refine lv_goto (tgt := 6) hx hb dX8_feed_41 (by decide) ?_
  refine lv_iload hx hb dX8_feed_6 (lv_at hl 0 rfl) ?_
  refine lv_bipush (v := 20) hx hb dX8_feed_8 (by decide) ?_
  refine lv_icmp_ge (tgt := 44) hx hb dX8_feed_10 (by decide) (fun q => absurd q (by decide)) (fun _ => ?_)
  refine lv_iload hx hb dX8_feed_13 (lv_at hl 1 rfl) ?_
  refine lv_iload_n hx hb dX8_feed_15 rfl (lv_at hl 3 rfl) ?_
  refine lv_iload_n hx hb dX8_feed_16 rfl (lv_at hl 4 rfl) ?_
  refine lv_iload_n hx hb dX8_feed_17 rfl (lv_at hl 5 rfl) ?_
  refine lv_iload hx hb dX8_feed_18 (lv_at hl 6 rfl) ?_
  refine lv_iload hx hb dX8_feed_20 (lv_at hl 7 rfl) ?_
  refine lv_iload hx hb dX8_feed_22 (lv_at hl 0 rfl) ?_
  have hPc : va_P E.1 vwCl [] s.heap := fun k q h => by simp at h
  refine pc_i (va_runS (As := [.int p0, .int p1, .int p2, .int p3, .int p4, .int 9]) (rest := [.int (nI (0 + nzN p0 24 + nzN p0 16 + nzN p0 8 + nzN p0 0 + nzN p1 24 + nzN p1 16 + nzN p1 8 + nzN p1 0 + nzN p2 24))]) ⟨hx, hb, hml, hown, hts⟩ (d_byteOf9 l E p0 p1 p2 p3 p4) (va_cwS 6 hts g_d_feed_d_byteOf9_53 rfl rfl rfl (by decide +kernel) ⟨Nat.le_of_ble_eq_true rfl, Nat.le_of_ble_eq_true rfl⟩) ⟨pP.blind, (pP.pre ⟨hK, hN⟩ hPc)⟩ rfl rfl hl.1 rfl (lv_room (Nat.le_of_ble_eq_true rfl)) dX8_feed_24 ⟨Nat.le_of_ble_eq_true rfl, Nat.le_of_ble_eq_true rfl⟩) (fun r_19 hr_19 => ?_)
  refine lv_sel (t1 := 34) (t2 := 35) hx hb dX8_feed_27 (by decide) dX8_feed_30 dX8_feed_31 (by decide) dX8_feed_34 rfl ?_
  refine lv_iadd hx hb dX8_feed_35 ?_
  refine lv_topi (fun z_20 ez_20 => ?_)
  obtain rfl : z_20 = nI (0 + nzN p0 24 + nzN p0 16 + nzN p0 8 + nzN p0 0 + nzN p1 24 + nzN p1 16 + nzN p1 8 + nzN p1 0 + nzN p2 24 + nzN p2 16) := ez_20.trans (nz_add hr_19)
  refine lv_istore (lv' := [(6, .int (nI (0 + nzN p0 24 + nzN p0 16 + nzN p0 8 + nzN p0 0 + nzN p1 24 + nzN p1 16 + nzN p1 8 + nzN p1 0 + nzN p2 24 + nzN p2 16))), (7, .int 9), (0, .ref mo), (1, .int p0), (2, .int p1), (3, .int p2), (4, .int p3), (5, .int p4)]) hx hb dX8_feed_36 hl (by decide) rfl (fun ls hl => ?_)
  refine lv_iinc (v := 10) (lv' := [(7, .int 10), (6, .int (nI (0 + nzN p0 24 + nzN p0 16 + nzN p0 8 + nzN p0 0 + nzN p1 24 + nzN p1 16 + nzN p1 8 + nzN p1 0 + nzN p2 24 + nzN p2 16))), (0, .ref mo), (1, .int p0), (2, .int p1), (3, .int p2), (4, .int p3), (5, .int p4)]) hx hb dX8_feed_38 hl (k := 1) rfl (by decide) (by decide) rfl (fun ls hl => ?_)
  refine lv_goto (tgt := 6) hx hb dX8_feed_41 (by decide) ?_
  refine lv_iload hx hb dX8_feed_6 (lv_at hl 0 rfl) ?_
  refine lv_bipush (v := 20) hx hb dX8_feed_8 (by decide) ?_
  refine lv_icmp_ge (tgt := 44) hx hb dX8_feed_10 (by decide) (fun q => absurd q (by decide)) (fun _ => ?_)
  refine lv_iload hx hb dX8_feed_13 (lv_at hl 1 rfl) ?_
  refine lv_iload_n hx hb dX8_feed_15 rfl (lv_at hl 3 rfl) ?_
  refine lv_iload_n hx hb dX8_feed_16 rfl (lv_at hl 4 rfl) ?_
  refine lv_iload_n hx hb dX8_feed_17 rfl (lv_at hl 5 rfl) ?_
  refine lv_iload hx hb dX8_feed_18 (lv_at hl 6 rfl) ?_
  refine lv_iload hx hb dX8_feed_20 (lv_at hl 7 rfl) ?_
  refine lv_iload hx hb dX8_feed_22 (lv_at hl 0 rfl) ?_
  have hPc : va_P E.1 vwCl [] s.heap := fun k q h => by simp at h
  refine pc_i (va_runS (As := [.int p0, .int p1, .int p2, .int p3, .int p4, .int 10]) (rest := [.int (nI (0 + nzN p0 24 + nzN p0 16 + nzN p0 8 + nzN p0 0 + nzN p1 24 + nzN p1 16 + nzN p1 8 + nzN p1 0 + nzN p2 24 + nzN p2 16))]) ⟨hx, hb, hml, hown, hts⟩ (d_byteOf10 l E p0 p1 p2 p3 p4) (va_cwS 6 hts g_d_feed_d_byteOf10_53 rfl rfl rfl (by decide +kernel) ⟨Nat.le_of_ble_eq_true rfl, Nat.le_of_ble_eq_true rfl⟩) ⟨pP.blind, (pP.pre ⟨hK, hN⟩ hPc)⟩ rfl rfl hl.1 rfl (lv_room (Nat.le_of_ble_eq_true rfl)) dX8_feed_24 ⟨Nat.le_of_ble_eq_true rfl, Nat.le_of_ble_eq_true rfl⟩) (fun r_21 hr_21 => ?_)
  refine lv_sel (t1 := 34) (t2 := 35) hx hb dX8_feed_27 (by decide) dX8_feed_30 dX8_feed_31 (by decide) dX8_feed_34 rfl ?_
  refine lv_iadd hx hb dX8_feed_35 ?_
  refine lv_topi (fun z_22 ez_22 => ?_)
  obtain rfl : z_22 = nI (0 + nzN p0 24 + nzN p0 16 + nzN p0 8 + nzN p0 0 + nzN p1 24 + nzN p1 16 + nzN p1 8 + nzN p1 0 + nzN p2 24 + nzN p2 16 + nzN p2 8) := ez_22.trans (nz_add hr_21)
  refine lv_istore (lv' := [(6, .int (nI (0 + nzN p0 24 + nzN p0 16 + nzN p0 8 + nzN p0 0 + nzN p1 24 + nzN p1 16 + nzN p1 8 + nzN p1 0 + nzN p2 24 + nzN p2 16 + nzN p2 8))), (7, .int 10), (0, .ref mo), (1, .int p0), (2, .int p1), (3, .int p2), (4, .int p3), (5, .int p4)]) hx hb dX8_feed_36 hl (by decide) rfl (fun ls hl => ?_)
  refine lv_iinc (v := 11) (lv' := [(7, .int 11), (6, .int (nI (0 + nzN p0 24 + nzN p0 16 + nzN p0 8 + nzN p0 0 + nzN p1 24 + nzN p1 16 + nzN p1 8 + nzN p1 0 + nzN p2 24 + nzN p2 16 + nzN p2 8))), (0, .ref mo), (1, .int p0), (2, .int p1), (3, .int p2), (4, .int p3), (5, .int p4)]) hx hb dX8_feed_38 hl (k := 1) rfl (by decide) (by decide) rfl (fun ls hl => ?_)
  refine lv_goto (tgt := 6) hx hb dX8_feed_41 (by decide) ?_
  refine lv_iload hx hb dX8_feed_6 (lv_at hl 0 rfl) ?_
  refine lv_bipush (v := 20) hx hb dX8_feed_8 (by decide) ?_
  refine lv_icmp_ge (tgt := 44) hx hb dX8_feed_10 (by decide) (fun q => absurd q (by decide)) (fun _ => ?_)
  refine lv_iload hx hb dX8_feed_13 (lv_at hl 1 rfl) ?_
  refine lv_iload_n hx hb dX8_feed_15 rfl (lv_at hl 3 rfl) ?_
  refine lv_iload_n hx hb dX8_feed_16 rfl (lv_at hl 4 rfl) ?_
  refine lv_iload_n hx hb dX8_feed_17 rfl (lv_at hl 5 rfl) ?_
  refine lv_iload hx hb dX8_feed_18 (lv_at hl 6 rfl) ?_
  refine lv_iload hx hb dX8_feed_20 (lv_at hl 7 rfl) ?_
  refine lv_iload hx hb dX8_feed_22 (lv_at hl 0 rfl) ?_
  have hPc : va_P E.1 vwCl [] s.heap := fun k q h => by simp at h
  refine pc_i (va_runS (As := [.int p0, .int p1, .int p2, .int p3, .int p4, .int 11]) (rest := [.int (nI (0 + nzN p0 24 + nzN p0 16 + nzN p0 8 + nzN p0 0 + nzN p1 24 + nzN p1 16 + nzN p1 8 + nzN p1 0 + nzN p2 24 + nzN p2 16 + nzN p2 8))]) ⟨hx, hb, hml, hown, hts⟩ (d_byteOf11 l E p0 p1 p2 p3 p4) (va_cwS 6 hts g_d_feed_d_byteOf11_53 rfl rfl rfl (by decide +kernel) ⟨Nat.le_of_ble_eq_true rfl, Nat.le_of_ble_eq_true rfl⟩) ⟨pP.blind, (pP.pre ⟨hK, hN⟩ hPc)⟩ rfl rfl hl.1 rfl (lv_room (Nat.le_of_ble_eq_true rfl)) dX8_feed_24 ⟨Nat.le_of_ble_eq_true rfl, Nat.le_of_ble_eq_true rfl⟩) (fun r_23 hr_23 => ?_)
  refine lv_sel (t1 := 34) (t2 := 35) hx hb dX8_feed_27 (by decide) dX8_feed_30 dX8_feed_31 (by decide) dX8_feed_34 rfl ?_
  refine lv_iadd hx hb dX8_feed_35 ?_
  refine lv_topi (fun z_24 ez_24 => ?_)
  obtain rfl : z_24 = nI (0 + nzN p0 24 + nzN p0 16 + nzN p0 8 + nzN p0 0 + nzN p1 24 + nzN p1 16 + nzN p1 8 + nzN p1 0 + nzN p2 24 + nzN p2 16 + nzN p2 8 + nzN p2 0) := ez_24.trans (nz_add hr_23)
  refine lv_istore (lv' := [(6, .int (nI (0 + nzN p0 24 + nzN p0 16 + nzN p0 8 + nzN p0 0 + nzN p1 24 + nzN p1 16 + nzN p1 8 + nzN p1 0 + nzN p2 24 + nzN p2 16 + nzN p2 8 + nzN p2 0))), (7, .int 11), (0, .ref mo), (1, .int p0), (2, .int p1), (3, .int p2), (4, .int p3), (5, .int p4)]) hx hb dX8_feed_36 hl (by decide) rfl (fun ls hl => ?_)
  refine lv_iinc (v := 12) (lv' := [(7, .int 12), (6, .int (nI (0 + nzN p0 24 + nzN p0 16 + nzN p0 8 + nzN p0 0 + nzN p1 24 + nzN p1 16 + nzN p1 8 + nzN p1 0 + nzN p2 24 + nzN p2 16 + nzN p2 8 + nzN p2 0))), (0, .ref mo), (1, .int p0), (2, .int p1), (3, .int p2), (4, .int p3), (5, .int p4)]) hx hb dX8_feed_38 hl (k := 1) rfl (by decide) (by decide) rfl (fun ls hl => ?_)
  refine lv_goto (tgt := 6) hx hb dX8_feed_41 (by decide) ?_
  refine lv_iload hx hb dX8_feed_6 (lv_at hl 0 rfl) ?_
  refine lv_bipush (v := 20) hx hb dX8_feed_8 (by decide) ?_
  refine lv_icmp_ge (tgt := 44) hx hb dX8_feed_10 (by decide) (fun q => absurd q (by decide)) (fun _ => ?_)
  refine lv_iload hx hb dX8_feed_13 (lv_at hl 1 rfl) ?_
  refine lv_iload_n hx hb dX8_feed_15 rfl (lv_at hl 3 rfl) ?_
  refine lv_iload_n hx hb dX8_feed_16 rfl (lv_at hl 4 rfl) ?_
  refine lv_iload_n hx hb dX8_feed_17 rfl (lv_at hl 5 rfl) ?_
  refine lv_iload hx hb dX8_feed_18 (lv_at hl 6 rfl) ?_
  refine lv_iload hx hb dX8_feed_20 (lv_at hl 7 rfl) ?_
  refine lv_iload hx hb dX8_feed_22 (lv_at hl 0 rfl) ?_
  have hPc : va_P E.1 vwCl [] s.heap := fun k q h => by simp at h
  refine pc_i (va_runS (As := [.int p0, .int p1, .int p2, .int p3, .int p4, .int 12]) (rest := [.int (nI (0 + nzN p0 24 + nzN p0 16 + nzN p0 8 + nzN p0 0 + nzN p1 24 + nzN p1 16 + nzN p1 8 + nzN p1 0 + nzN p2 24 + nzN p2 16 + nzN p2 8 + nzN p2 0))]) ⟨hx, hb, hml, hown, hts⟩ (d_byteOf12 l E p0 p1 p2 p3 p4) (va_cwS 6 hts g_d_feed_d_byteOf12_53 rfl rfl rfl (by decide +kernel) ⟨Nat.le_of_ble_eq_true rfl, Nat.le_of_ble_eq_true rfl⟩) ⟨pP.blind, (pP.pre ⟨hK, hN⟩ hPc)⟩ rfl rfl hl.1 rfl (lv_room (Nat.le_of_ble_eq_true rfl)) dX8_feed_24 ⟨Nat.le_of_ble_eq_true rfl, Nat.le_of_ble_eq_true rfl⟩) (fun r_25 hr_25 => ?_)
  refine lv_sel (t1 := 34) (t2 := 35) hx hb dX8_feed_27 (by decide) dX8_feed_30 dX8_feed_31 (by decide) dX8_feed_34 rfl ?_
  refine lv_iadd hx hb dX8_feed_35 ?_
  refine lv_topi (fun z_26 ez_26 => ?_)
  obtain rfl : z_26 = nI (0 + nzN p0 24 + nzN p0 16 + nzN p0 8 + nzN p0 0 + nzN p1 24 + nzN p1 16 + nzN p1 8 + nzN p1 0 + nzN p2 24 + nzN p2 16 + nzN p2 8 + nzN p2 0 + nzN p3 24) := ez_26.trans (nz_add hr_25)
  refine lv_istore (lv' := [(6, .int (nI (0 + nzN p0 24 + nzN p0 16 + nzN p0 8 + nzN p0 0 + nzN p1 24 + nzN p1 16 + nzN p1 8 + nzN p1 0 + nzN p2 24 + nzN p2 16 + nzN p2 8 + nzN p2 0 + nzN p3 24))), (7, .int 12), (0, .ref mo), (1, .int p0), (2, .int p1), (3, .int p2), (4, .int p3), (5, .int p4)]) hx hb dX8_feed_36 hl (by decide) rfl (fun ls hl => ?_)
  refine lv_iinc (v := 13) (lv' := [(7, .int 13), (6, .int (nI (0 + nzN p0 24 + nzN p0 16 + nzN p0 8 + nzN p0 0 + nzN p1 24 + nzN p1 16 + nzN p1 8 + nzN p1 0 + nzN p2 24 + nzN p2 16 + nzN p2 8 + nzN p2 0 + nzN p3 24))), (0, .ref mo), (1, .int p0), (2, .int p1), (3, .int p2), (4, .int p3), (5, .int p4)]) hx hb dX8_feed_38 hl (k := 1) rfl (by decide) (by decide) rfl (fun ls hl => ?_)
  refine lv_goto (tgt := 6) hx hb dX8_feed_41 (by decide) ?_
  refine lv_iload hx hb dX8_feed_6 (lv_at hl 0 rfl) ?_
  refine lv_bipush (v := 20) hx hb dX8_feed_8 (by decide) ?_
  refine lv_icmp_ge (tgt := 44) hx hb dX8_feed_10 (by decide) (fun q => absurd q (by decide)) (fun _ => ?_)
  refine lv_iload hx hb dX8_feed_13 (lv_at hl 1 rfl) ?_
  refine lv_iload_n hx hb dX8_feed_15 rfl (lv_at hl 3 rfl) ?_
  refine lv_iload_n hx hb dX8_feed_16 rfl (lv_at hl 4 rfl) ?_
  refine lv_iload_n hx hb dX8_feed_17 rfl (lv_at hl 5 rfl) ?_
  refine lv_iload hx hb dX8_feed_18 (lv_at hl 6 rfl) ?_
  refine lv_iload hx hb dX8_feed_20 (lv_at hl 7 rfl) ?_
  refine lv_iload hx hb dX8_feed_22 (lv_at hl 0 rfl) ?_
  have hPc : va_P E.1 vwCl [] s.heap := fun k q h => by simp at h
  refine pc_i (va_runS (As := [.int p0, .int p1, .int p2, .int p3, .int p4, .int 13]) (rest := [.int (nI (0 + nzN p0 24 + nzN p0 16 + nzN p0 8 + nzN p0 0 + nzN p1 24 + nzN p1 16 + nzN p1 8 + nzN p1 0 + nzN p2 24 + nzN p2 16 + nzN p2 8 + nzN p2 0 + nzN p3 24))]) ⟨hx, hb, hml, hown, hts⟩ (d_byteOf13 l E p0 p1 p2 p3 p4) (va_cwS 6 hts g_d_feed_d_byteOf13_53 rfl rfl rfl (by decide +kernel) ⟨Nat.le_of_ble_eq_true rfl, Nat.le_of_ble_eq_true rfl⟩) ⟨pP.blind, (pP.pre ⟨hK, hN⟩ hPc)⟩ rfl rfl hl.1 rfl (lv_room (Nat.le_of_ble_eq_true rfl)) dX8_feed_24 ⟨Nat.le_of_ble_eq_true rfl, Nat.le_of_ble_eq_true rfl⟩) (fun r_27 hr_27 => ?_)
  refine lv_sel (t1 := 34) (t2 := 35) hx hb dX8_feed_27 (by decide) dX8_feed_30 dX8_feed_31 (by decide) dX8_feed_34 rfl ?_
  refine lv_iadd hx hb dX8_feed_35 ?_
  refine lv_topi (fun z_28 ez_28 => ?_)
  obtain rfl : z_28 = nI (0 + nzN p0 24 + nzN p0 16 + nzN p0 8 + nzN p0 0 + nzN p1 24 + nzN p1 16 + nzN p1 8 + nzN p1 0 + nzN p2 24 + nzN p2 16 + nzN p2 8 + nzN p2 0 + nzN p3 24 + nzN p3 16) := ez_28.trans (nz_add hr_27)
  refine lv_istore (lv' := [(6, .int (nI (0 + nzN p0 24 + nzN p0 16 + nzN p0 8 + nzN p0 0 + nzN p1 24 + nzN p1 16 + nzN p1 8 + nzN p1 0 + nzN p2 24 + nzN p2 16 + nzN p2 8 + nzN p2 0 + nzN p3 24 + nzN p3 16))), (7, .int 13), (0, .ref mo), (1, .int p0), (2, .int p1), (3, .int p2), (4, .int p3), (5, .int p4)]) hx hb dX8_feed_36 hl (by decide) rfl (fun ls hl => ?_)
  refine lv_iinc (v := 14) (lv' := [(7, .int 14), (6, .int (nI (0 + nzN p0 24 + nzN p0 16 + nzN p0 8 + nzN p0 0 + nzN p1 24 + nzN p1 16 + nzN p1 8 + nzN p1 0 + nzN p2 24 + nzN p2 16 + nzN p2 8 + nzN p2 0 + nzN p3 24 + nzN p3 16))), (0, .ref mo), (1, .int p0), (2, .int p1), (3, .int p2), (4, .int p3), (5, .int p4)]) hx hb dX8_feed_38 hl (k := 1) rfl (by decide) (by decide) rfl (fun ls hl => ?_)
  refine lv_goto (tgt := 6) hx hb dX8_feed_41 (by decide) ?_
  refine lv_iload hx hb dX8_feed_6 (lv_at hl 0 rfl) ?_
  refine lv_bipush (v := 20) hx hb dX8_feed_8 (by decide) ?_
  refine lv_icmp_ge (tgt := 44) hx hb dX8_feed_10 (by decide) (fun q => absurd q (by decide)) (fun _ => ?_)
  refine lv_iload hx hb dX8_feed_13 (lv_at hl 1 rfl) ?_
  refine lv_iload_n hx hb dX8_feed_15 rfl (lv_at hl 3 rfl) ?_
  refine lv_iload_n hx hb dX8_feed_16 rfl (lv_at hl 4 rfl) ?_
  refine lv_iload_n hx hb dX8_feed_17 rfl (lv_at hl 5 rfl) ?_
  refine lv_iload hx hb dX8_feed_18 (lv_at hl 6 rfl) ?_
  refine lv_iload hx hb dX8_feed_20 (lv_at hl 7 rfl) ?_
  refine lv_iload hx hb dX8_feed_22 (lv_at hl 0 rfl) ?_
  have hPc : va_P E.1 vwCl [] s.heap := fun k q h => by simp at h
  refine pc_i (va_runS (As := [.int p0, .int p1, .int p2, .int p3, .int p4, .int 14]) (rest := [.int (nI (0 + nzN p0 24 + nzN p0 16 + nzN p0 8 + nzN p0 0 + nzN p1 24 + nzN p1 16 + nzN p1 8 + nzN p1 0 + nzN p2 24 + nzN p2 16 + nzN p2 8 + nzN p2 0 + nzN p3 24 + nzN p3 16))]) ⟨hx, hb, hml, hown, hts⟩ (d_byteOf14 l E p0 p1 p2 p3 p4) (va_cwS 6 hts g_d_feed_d_byteOf14_53 rfl rfl rfl (by decide +kernel) ⟨Nat.le_of_ble_eq_true rfl, Nat.le_of_ble_eq_true rfl⟩) ⟨pP.blind, (pP.pre ⟨hK, hN⟩ hPc)⟩ rfl rfl hl.1 rfl (lv_room (Nat.le_of_ble_eq_true rfl)) dX8_feed_24 ⟨Nat.le_of_ble_eq_true rfl, Nat.le_of_ble_eq_true rfl⟩) (fun r_29 hr_29 => ?_)
  refine lv_sel (t1 := 34) (t2 := 35) hx hb dX8_feed_27 (by decide) dX8_feed_30 dX8_feed_31 (by decide) dX8_feed_34 rfl ?_
  refine lv_iadd hx hb dX8_feed_35 ?_
  refine lv_topi (fun z_30 ez_30 => ?_)
  obtain rfl : z_30 = nI (0 + nzN p0 24 + nzN p0 16 + nzN p0 8 + nzN p0 0 + nzN p1 24 + nzN p1 16 + nzN p1 8 + nzN p1 0 + nzN p2 24 + nzN p2 16 + nzN p2 8 + nzN p2 0 + nzN p3 24 + nzN p3 16 + nzN p3 8) := ez_30.trans (nz_add hr_29)
  refine lv_istore (lv' := [(6, .int (nI (0 + nzN p0 24 + nzN p0 16 + nzN p0 8 + nzN p0 0 + nzN p1 24 + nzN p1 16 + nzN p1 8 + nzN p1 0 + nzN p2 24 + nzN p2 16 + nzN p2 8 + nzN p2 0 + nzN p3 24 + nzN p3 16 + nzN p3 8))), (7, .int 14), (0, .ref mo), (1, .int p0), (2, .int p1), (3, .int p2), (4, .int p3), (5, .int p4)]) hx hb dX8_feed_36 hl (by decide) rfl (fun ls hl => ?_)
  refine lv_iinc (v := 15) (lv' := [(7, .int 15), (6, .int (nI (0 + nzN p0 24 + nzN p0 16 + nzN p0 8 + nzN p0 0 + nzN p1 24 + nzN p1 16 + nzN p1 8 + nzN p1 0 + nzN p2 24 + nzN p2 16 + nzN p2 8 + nzN p2 0 + nzN p3 24 + nzN p3 16 + nzN p3 8))), (0, .ref mo), (1, .int p0), (2, .int p1), (3, .int p2), (4, .int p3), (5, .int p4)]) hx hb dX8_feed_38 hl (k := 1) rfl (by decide) (by decide) rfl (fun ls hl => ?_)
  refine lv_goto (tgt := 6) hx hb dX8_feed_41 (by decide) ?_
  refine lv_iload hx hb dX8_feed_6 (lv_at hl 0 rfl) ?_
  refine lv_bipush (v := 20) hx hb dX8_feed_8 (by decide) ?_
  refine lv_icmp_ge (tgt := 44) hx hb dX8_feed_10 (by decide) (fun q => absurd q (by decide)) (fun _ => ?_)
  refine lv_iload hx hb dX8_feed_13 (lv_at hl 1 rfl) ?_
  refine lv_iload_n hx hb dX8_feed_15 rfl (lv_at hl 3 rfl) ?_
  refine lv_iload_n hx hb dX8_feed_16 rfl (lv_at hl 4 rfl) ?_
  refine lv_iload_n hx hb dX8_feed_17 rfl (lv_at hl 5 rfl) ?_
  refine lv_iload hx hb dX8_feed_18 (lv_at hl 6 rfl) ?_
  refine lv_iload hx hb dX8_feed_20 (lv_at hl 7 rfl) ?_
  refine lv_iload hx hb dX8_feed_22 (lv_at hl 0 rfl) ?_
  have hPc : va_P E.1 vwCl [] s.heap := fun k q h => by simp at h
  refine pc_i (va_runS (As := [.int p0, .int p1, .int p2, .int p3, .int p4, .int 15]) (rest := [.int (nI (0 + nzN p0 24 + nzN p0 16 + nzN p0 8 + nzN p0 0 + nzN p1 24 + nzN p1 16 + nzN p1 8 + nzN p1 0 + nzN p2 24 + nzN p2 16 + nzN p2 8 + nzN p2 0 + nzN p3 24 + nzN p3 16 + nzN p3 8))]) ⟨hx, hb, hml, hown, hts⟩ (d_byteOf15 l E p0 p1 p2 p3 p4) (va_cwS 6 hts g_d_feed_d_byteOf15_53 rfl rfl rfl (by decide +kernel) ⟨Nat.le_of_ble_eq_true rfl, Nat.le_of_ble_eq_true rfl⟩) ⟨pP.blind, (pP.pre ⟨hK, hN⟩ hPc)⟩ rfl rfl hl.1 rfl (lv_room (Nat.le_of_ble_eq_true rfl)) dX8_feed_24 ⟨Nat.le_of_ble_eq_true rfl, Nat.le_of_ble_eq_true rfl⟩) (fun r_31 hr_31 => ?_)
  refine lv_sel (t1 := 34) (t2 := 35) hx hb dX8_feed_27 (by decide) dX8_feed_30 dX8_feed_31 (by decide) dX8_feed_34 rfl ?_
  refine lv_iadd hx hb dX8_feed_35 ?_
  refine lv_topi (fun z_32 ez_32 => ?_)
  obtain rfl : z_32 = nI (0 + nzN p0 24 + nzN p0 16 + nzN p0 8 + nzN p0 0 + nzN p1 24 + nzN p1 16 + nzN p1 8 + nzN p1 0 + nzN p2 24 + nzN p2 16 + nzN p2 8 + nzN p2 0 + nzN p3 24 + nzN p3 16 + nzN p3 8 + nzN p3 0) := ez_32.trans (nz_add hr_31)
  refine lv_istore (lv' := [(6, .int (nI (0 + nzN p0 24 + nzN p0 16 + nzN p0 8 + nzN p0 0 + nzN p1 24 + nzN p1 16 + nzN p1 8 + nzN p1 0 + nzN p2 24 + nzN p2 16 + nzN p2 8 + nzN p2 0 + nzN p3 24 + nzN p3 16 + nzN p3 8 + nzN p3 0))), (7, .int 15), (0, .ref mo), (1, .int p0), (2, .int p1), (3, .int p2), (4, .int p3), (5, .int p4)]) hx hb dX8_feed_36 hl (by decide) rfl (fun ls hl => ?_)
  refine lv_iinc (v := 16) (lv' := [(7, .int 16), (6, .int (nI (0 + nzN p0 24 + nzN p0 16 + nzN p0 8 + nzN p0 0 + nzN p1 24 + nzN p1 16 + nzN p1 8 + nzN p1 0 + nzN p2 24 + nzN p2 16 + nzN p2 8 + nzN p2 0 + nzN p3 24 + nzN p3 16 + nzN p3 8 + nzN p3 0))), (0, .ref mo), (1, .int p0), (2, .int p1), (3, .int p2), (4, .int p3), (5, .int p4)]) hx hb dX8_feed_38 hl (k := 1) rfl (by decide) (by decide) rfl (fun ls hl => ?_)
  refine lv_goto (tgt := 6) hx hb dX8_feed_41 (by decide) ?_
  refine lv_iload hx hb dX8_feed_6 (lv_at hl 0 rfl) ?_
  refine lv_bipush (v := 20) hx hb dX8_feed_8 (by decide) ?_
  refine lv_icmp_ge (tgt := 44) hx hb dX8_feed_10 (by decide) (fun q => absurd q (by decide)) (fun _ => ?_)
  refine lv_iload hx hb dX8_feed_13 (lv_at hl 1 rfl) ?_
  refine lv_iload_n hx hb dX8_feed_15 rfl (lv_at hl 3 rfl) ?_
  refine lv_iload_n hx hb dX8_feed_16 rfl (lv_at hl 4 rfl) ?_
  refine lv_iload_n hx hb dX8_feed_17 rfl (lv_at hl 5 rfl) ?_
  refine lv_iload hx hb dX8_feed_18 (lv_at hl 6 rfl) ?_
  refine lv_iload hx hb dX8_feed_20 (lv_at hl 7 rfl) ?_
  refine lv_iload hx hb dX8_feed_22 (lv_at hl 0 rfl) ?_
  have hPc : va_P E.1 vwCl [] s.heap := fun k q h => by simp at h
  refine pc_i (va_runS (As := [.int p0, .int p1, .int p2, .int p3, .int p4, .int 16]) (rest := [.int (nI (0 + nzN p0 24 + nzN p0 16 + nzN p0 8 + nzN p0 0 + nzN p1 24 + nzN p1 16 + nzN p1 8 + nzN p1 0 + nzN p2 24 + nzN p2 16 + nzN p2 8 + nzN p2 0 + nzN p3 24 + nzN p3 16 + nzN p3 8 + nzN p3 0))]) ⟨hx, hb, hml, hown, hts⟩ (d_byteOf16 l E p0 p1 p2 p3 p4) (va_cwS 6 hts g_d_feed_d_byteOf16_53 rfl rfl rfl (by decide +kernel) ⟨Nat.le_of_ble_eq_true rfl, Nat.le_of_ble_eq_true rfl⟩) ⟨pP.blind, (pP.pre ⟨hK, hN⟩ hPc)⟩ rfl rfl hl.1 rfl (lv_room (Nat.le_of_ble_eq_true rfl)) dX8_feed_24 ⟨Nat.le_of_ble_eq_true rfl, Nat.le_of_ble_eq_true rfl⟩) (fun r_33 hr_33 => ?_)
  refine lv_sel (t1 := 34) (t2 := 35) hx hb dX8_feed_27 (by decide) dX8_feed_30 dX8_feed_31 (by decide) dX8_feed_34 rfl ?_
  refine lv_iadd hx hb dX8_feed_35 ?_
  refine lv_topi (fun z_34 ez_34 => ?_)
  obtain rfl : z_34 = nI (0 + nzN p0 24 + nzN p0 16 + nzN p0 8 + nzN p0 0 + nzN p1 24 + nzN p1 16 + nzN p1 8 + nzN p1 0 + nzN p2 24 + nzN p2 16 + nzN p2 8 + nzN p2 0 + nzN p3 24 + nzN p3 16 + nzN p3 8 + nzN p3 0 + nzN p4 24) := ez_34.trans (nz_add hr_33)
  refine lv_istore (lv' := [(6, .int (nI (0 + nzN p0 24 + nzN p0 16 + nzN p0 8 + nzN p0 0 + nzN p1 24 + nzN p1 16 + nzN p1 8 + nzN p1 0 + nzN p2 24 + nzN p2 16 + nzN p2 8 + nzN p2 0 + nzN p3 24 + nzN p3 16 + nzN p3 8 + nzN p3 0 + nzN p4 24))), (7, .int 16), (0, .ref mo), (1, .int p0), (2, .int p1), (3, .int p2), (4, .int p3), (5, .int p4)]) hx hb dX8_feed_36 hl (by decide) rfl (fun ls hl => ?_)
  refine lv_iinc (v := 17) (lv' := [(7, .int 17), (6, .int (nI (0 + nzN p0 24 + nzN p0 16 + nzN p0 8 + nzN p0 0 + nzN p1 24 + nzN p1 16 + nzN p1 8 + nzN p1 0 + nzN p2 24 + nzN p2 16 + nzN p2 8 + nzN p2 0 + nzN p3 24 + nzN p3 16 + nzN p3 8 + nzN p3 0 + nzN p4 24))), (0, .ref mo), (1, .int p0), (2, .int p1), (3, .int p2), (4, .int p3), (5, .int p4)]) hx hb dX8_feed_38 hl (k := 1) rfl (by decide) (by decide) rfl (fun ls hl => ?_)
  refine lv_goto (tgt := 6) hx hb dX8_feed_41 (by decide) ?_
  refine lv_iload hx hb dX8_feed_6 (lv_at hl 0 rfl) ?_
  refine lv_bipush (v := 20) hx hb dX8_feed_8 (by decide) ?_
  refine lv_icmp_ge (tgt := 44) hx hb dX8_feed_10 (by decide) (fun q => absurd q (by decide)) (fun _ => ?_)
  refine lv_iload hx hb dX8_feed_13 (lv_at hl 1 rfl) ?_
  refine lv_iload_n hx hb dX8_feed_15 rfl (lv_at hl 3 rfl) ?_
  refine lv_iload_n hx hb dX8_feed_16 rfl (lv_at hl 4 rfl) ?_
  refine lv_iload_n hx hb dX8_feed_17 rfl (lv_at hl 5 rfl) ?_
  refine lv_iload hx hb dX8_feed_18 (lv_at hl 6 rfl) ?_
  refine lv_iload hx hb dX8_feed_20 (lv_at hl 7 rfl) ?_
  refine lv_iload hx hb dX8_feed_22 (lv_at hl 0 rfl) ?_
  have hPc : va_P E.1 vwCl [] s.heap := fun k q h => by simp at h
  refine pc_i (va_runS (As := [.int p0, .int p1, .int p2, .int p3, .int p4, .int 17]) (rest := [.int (nI (0 + nzN p0 24 + nzN p0 16 + nzN p0 8 + nzN p0 0 + nzN p1 24 + nzN p1 16 + nzN p1 8 + nzN p1 0 + nzN p2 24 + nzN p2 16 + nzN p2 8 + nzN p2 0 + nzN p3 24 + nzN p3 16 + nzN p3 8 + nzN p3 0 + nzN p4 24))]) ⟨hx, hb, hml, hown, hts⟩ (d_byteOf17 l E p0 p1 p2 p3 p4) (va_cwS 6 hts g_d_feed_d_byteOf17_53 rfl rfl rfl (by decide +kernel) ⟨Nat.le_of_ble_eq_true rfl, Nat.le_of_ble_eq_true rfl⟩) ⟨pP.blind, (pP.pre ⟨hK, hN⟩ hPc)⟩ rfl rfl hl.1 rfl (lv_room (Nat.le_of_ble_eq_true rfl)) dX8_feed_24 ⟨Nat.le_of_ble_eq_true rfl, Nat.le_of_ble_eq_true rfl⟩) (fun r_35 hr_35 => ?_)
  refine lv_sel (t1 := 34) (t2 := 35) hx hb dX8_feed_27 (by decide) dX8_feed_30 dX8_feed_31 (by decide) dX8_feed_34 rfl ?_
  refine lv_iadd hx hb dX8_feed_35 ?_
  refine lv_topi (fun z_36 ez_36 => ?_)
  obtain rfl : z_36 = nI (0 + nzN p0 24 + nzN p0 16 + nzN p0 8 + nzN p0 0 + nzN p1 24 + nzN p1 16 + nzN p1 8 + nzN p1 0 + nzN p2 24 + nzN p2 16 + nzN p2 8 + nzN p2 0 + nzN p3 24 + nzN p3 16 + nzN p3 8 + nzN p3 0 + nzN p4 24 + nzN p4 16) := ez_36.trans (nz_add hr_35)
  refine lv_istore (lv' := [(6, .int (nI (0 + nzN p0 24 + nzN p0 16 + nzN p0 8 + nzN p0 0 + nzN p1 24 + nzN p1 16 + nzN p1 8 + nzN p1 0 + nzN p2 24 + nzN p2 16 + nzN p2 8 + nzN p2 0 + nzN p3 24 + nzN p3 16 + nzN p3 8 + nzN p3 0 + nzN p4 24 + nzN p4 16))), (7, .int 17), (0, .ref mo), (1, .int p0), (2, .int p1), (3, .int p2), (4, .int p3), (5, .int p4)]) hx hb dX8_feed_36 hl (by decide) rfl (fun ls hl => ?_)
  refine lv_iinc (v := 18) (lv' := [(7, .int 18), (6, .int (nI (0 + nzN p0 24 + nzN p0 16 + nzN p0 8 + nzN p0 0 + nzN p1 24 + nzN p1 16 + nzN p1 8 + nzN p1 0 + nzN p2 24 + nzN p2 16 + nzN p2 8 + nzN p2 0 + nzN p3 24 + nzN p3 16 + nzN p3 8 + nzN p3 0 + nzN p4 24 + nzN p4 16))), (0, .ref mo), (1, .int p0), (2, .int p1), (3, .int p2), (4, .int p3), (5, .int p4)]) hx hb dX8_feed_38 hl (k := 1) rfl (by decide) (by decide) rfl (fun ls hl => ?_)
  refine lv_goto (tgt := 6) hx hb dX8_feed_41 (by decide) ?_
  refine lv_iload hx hb dX8_feed_6 (lv_at hl 0 rfl) ?_
  refine lv_bipush (v := 20) hx hb dX8_feed_8 (by decide) ?_
  refine lv_icmp_ge (tgt := 44) hx hb dX8_feed_10 (by decide) (fun q => absurd q (by decide)) (fun _ => ?_)
  refine lv_iload hx hb dX8_feed_13 (lv_at hl 1 rfl) ?_
  refine lv_iload_n hx hb dX8_feed_15 rfl (lv_at hl 3 rfl) ?_
  refine lv_iload_n hx hb dX8_feed_16 rfl (lv_at hl 4 rfl) ?_
  refine lv_iload_n hx hb dX8_feed_17 rfl (lv_at hl 5 rfl) ?_
  refine lv_iload hx hb dX8_feed_18 (lv_at hl 6 rfl) ?_
  refine lv_iload hx hb dX8_feed_20 (lv_at hl 7 rfl) ?_
  refine lv_iload hx hb dX8_feed_22 (lv_at hl 0 rfl) ?_
  have hPc : va_P E.1 vwCl [] s.heap := fun k q h => by simp at h
  refine pc_i (va_runS (As := [.int p0, .int p1, .int p2, .int p3, .int p4, .int 18]) (rest := [.int (nI (0 + nzN p0 24 + nzN p0 16 + nzN p0 8 + nzN p0 0 + nzN p1 24 + nzN p1 16 + nzN p1 8 + nzN p1 0 + nzN p2 24 + nzN p2 16 + nzN p2 8 + nzN p2 0 + nzN p3 24 + nzN p3 16 + nzN p3 8 + nzN p3 0 + nzN p4 24 + nzN p4 16))]) ⟨hx, hb, hml, hown, hts⟩ (d_byteOf18 l E p0 p1 p2 p3 p4) (va_cwS 6 hts g_d_feed_d_byteOf18_53 rfl rfl rfl (by decide +kernel) ⟨Nat.le_of_ble_eq_true rfl, Nat.le_of_ble_eq_true rfl⟩) ⟨pP.blind, (pP.pre ⟨hK, hN⟩ hPc)⟩ rfl rfl hl.1 rfl (lv_room (Nat.le_of_ble_eq_true rfl)) dX8_feed_24 ⟨Nat.le_of_ble_eq_true rfl, Nat.le_of_ble_eq_true rfl⟩) (fun r_37 hr_37 => ?_)
  refine lv_sel (t1 := 34) (t2 := 35) hx hb dX8_feed_27 (by decide) dX8_feed_30 dX8_feed_31 (by decide) dX8_feed_34 rfl ?_
  refine lv_iadd hx hb dX8_feed_35 ?_
  refine lv_topi (fun z_38 ez_38 => ?_)
  obtain rfl : z_38 = nI (0 + nzN p0 24 + nzN p0 16 + nzN p0 8 + nzN p0 0 + nzN p1 24 + nzN p1 16 + nzN p1 8 + nzN p1 0 + nzN p2 24 + nzN p2 16 + nzN p2 8 + nzN p2 0 + nzN p3 24 + nzN p3 16 + nzN p3 8 + nzN p3 0 + nzN p4 24 + nzN p4 16 + nzN p4 8) := ez_38.trans (nz_add hr_37)
  refine lv_istore (lv' := [(6, .int (nI (0 + nzN p0 24 + nzN p0 16 + nzN p0 8 + nzN p0 0 + nzN p1 24 + nzN p1 16 + nzN p1 8 + nzN p1 0 + nzN p2 24 + nzN p2 16 + nzN p2 8 + nzN p2 0 + nzN p3 24 + nzN p3 16 + nzN p3 8 + nzN p3 0 + nzN p4 24 + nzN p4 16 + nzN p4 8))), (7, .int 18), (0, .ref mo), (1, .int p0), (2, .int p1), (3, .int p2), (4, .int p3), (5, .int p4)]) hx hb dX8_feed_36 hl (by decide) rfl (fun ls hl => ?_)
  refine lv_iinc (v := 19) (lv' := [(7, .int 19), (6, .int (nI (0 + nzN p0 24 + nzN p0 16 + nzN p0 8 + nzN p0 0 + nzN p1 24 + nzN p1 16 + nzN p1 8 + nzN p1 0 + nzN p2 24 + nzN p2 16 + nzN p2 8 + nzN p2 0 + nzN p3 24 + nzN p3 16 + nzN p3 8 + nzN p3 0 + nzN p4 24 + nzN p4 16 + nzN p4 8))), (0, .ref mo), (1, .int p0), (2, .int p1), (3, .int p2), (4, .int p3), (5, .int p4)]) hx hb dX8_feed_38 hl (k := 1) rfl (by decide) (by decide) rfl (fun ls hl => ?_)
  refine lv_goto (tgt := 6) hx hb dX8_feed_41 (by decide) ?_
  refine lv_iload hx hb dX8_feed_6 (lv_at hl 0 rfl) ?_
  refine lv_bipush (v := 20) hx hb dX8_feed_8 (by decide) ?_
  refine lv_icmp_ge (tgt := 44) hx hb dX8_feed_10 (by decide) (fun q => absurd q (by decide)) (fun _ => ?_)
  refine lv_iload hx hb dX8_feed_13 (lv_at hl 1 rfl) ?_
  refine lv_iload_n hx hb dX8_feed_15 rfl (lv_at hl 3 rfl) ?_
  refine lv_iload_n hx hb dX8_feed_16 rfl (lv_at hl 4 rfl) ?_
  refine lv_iload_n hx hb dX8_feed_17 rfl (lv_at hl 5 rfl) ?_
  refine lv_iload hx hb dX8_feed_18 (lv_at hl 6 rfl) ?_
  refine lv_iload hx hb dX8_feed_20 (lv_at hl 7 rfl) ?_
  refine lv_iload hx hb dX8_feed_22 (lv_at hl 0 rfl) ?_
  have hPc : va_P E.1 vwCl [] s.heap := fun k q h => by simp at h
  refine pc_i (va_runS (As := [.int p0, .int p1, .int p2, .int p3, .int p4, .int 19]) (rest := [.int (nI (0 + nzN p0 24 + nzN p0 16 + nzN p0 8 + nzN p0 0 + nzN p1 24 + nzN p1 16 + nzN p1 8 + nzN p1 0 + nzN p2 24 + nzN p2 16 + nzN p2 8 + nzN p2 0 + nzN p3 24 + nzN p3 16 + nzN p3 8 + nzN p3 0 + nzN p4 24 + nzN p4 16 + nzN p4 8))]) ⟨hx, hb, hml, hown, hts⟩ (d_byteOf19 l E p0 p1 p2 p3 p4) (va_cwS 6 hts g_d_feed_d_byteOf19_53 rfl rfl rfl (by decide +kernel) ⟨Nat.le_of_ble_eq_true rfl, Nat.le_of_ble_eq_true rfl⟩) ⟨pP.blind, (pP.pre ⟨hK, hN⟩ hPc)⟩ rfl rfl hl.1 rfl (lv_room (Nat.le_of_ble_eq_true rfl)) dX8_feed_24 ⟨Nat.le_of_ble_eq_true rfl, Nat.le_of_ble_eq_true rfl⟩) (fun r_39 hr_39 => ?_)
  refine lv_sel (t1 := 34) (t2 := 35) hx hb dX8_feed_27 (by decide) dX8_feed_30 dX8_feed_31 (by decide) dX8_feed_34 rfl ?_
  refine lv_iadd hx hb dX8_feed_35 ?_
  refine lv_topi (fun z_40 ez_40 => ?_)
  obtain rfl : z_40 = nI (0 + nzN p0 24 + nzN p0 16 + nzN p0 8 + nzN p0 0 + nzN p1 24 + nzN p1 16 + nzN p1 8 + nzN p1 0 + nzN p2 24 + nzN p2 16 + nzN p2 8 + nzN p2 0 + nzN p3 24 + nzN p3 16 + nzN p3 8 + nzN p3 0 + nzN p4 24 + nzN p4 16 + nzN p4 8 + nzN p4 0) := ez_40.trans (nz_add hr_39)
  refine lv_istore (lv' := [(6, .int (nI (0 + nzN p0 24 + nzN p0 16 + nzN p0 8 + nzN p0 0 + nzN p1 24 + nzN p1 16 + nzN p1 8 + nzN p1 0 + nzN p2 24 + nzN p2 16 + nzN p2 8 + nzN p2 0 + nzN p3 24 + nzN p3 16 + nzN p3 8 + nzN p3 0 + nzN p4 24 + nzN p4 16 + nzN p4 8 + nzN p4 0))), (7, .int 19), (0, .ref mo), (1, .int p0), (2, .int p1), (3, .int p2), (4, .int p3), (5, .int p4)]) hx hb dX8_feed_36 hl (by decide) rfl (fun ls hl => ?_)
  refine lv_iinc (v := 20) (lv' := [(7, .int 20), (6, .int (nI (0 + nzN p0 24 + nzN p0 16 + nzN p0 8 + nzN p0 0 + nzN p1 24 + nzN p1 16 + nzN p1 8 + nzN p1 0 + nzN p2 24 + nzN p2 16 + nzN p2 8 + nzN p2 0 + nzN p3 24 + nzN p3 16 + nzN p3 8 + nzN p3 0 + nzN p4 24 + nzN p4 16 + nzN p4 8 + nzN p4 0))), (0, .ref mo), (1, .int p0), (2, .int p1), (3, .int p2), (4, .int p3), (5, .int p4)]) hx hb dX8_feed_38 hl (k := 1) rfl (by decide) (by decide) rfl (fun ls hl => ?_)
  refine lv_goto (tgt := 6) hx hb dX8_feed_41 (by decide) ?_
  refine lv_iload hx hb dX8_feed_6 (lv_at hl 0 rfl) ?_
  refine lv_bipush (v := 20) hx hb dX8_feed_8 (by decide) ?_
  refine lv_icmp_ge (tgt := 44) hx hb dX8_feed_10 (by decide) (fun _ => ?_) (fun q => absurd (by decide) q)
  refine lv_aload_n hx hb dX8_feed_44 rfl (lv_at hl 2 rfl) ?_
  refine va_get (D := E.1) (ci := 9) (v := .int 0) (C := RX8) (T := TX8) (N := 36) hx hb hts i_d_feed_X8 hown hK hP 0 rfl rfl 2 (by decide) (hts (.fieldLink RX8 57 "HushWatchModel" "taped" "I") (List.mem_of_getElem? (i := 2) rfl)) (fun _ h9 => h9) rfl dX8_feed_45 ?_
  refine lv_iload hx hb dX8_feed_48 (lv_at hl 1 rfl) ?_
  refine lv_iadd hx hb dX8_feed_50 ?_
  refine lv_topi (fun z_41 ez_41 => ?_)
  obtain rfl : z_41 = nI (0 + (0 + nzN p0 24 + nzN p0 16 + nzN p0 8 + nzN p0 0 + nzN p1 24 + nzN p1 16 + nzN p1 8 + nzN p1 0 + nzN p2 24 + nzN p2 16 + nzN p2 8 + nzN p2 0 + nzN p3 24 + nzN p3 16 + nzN p3 8 + nzN p3 0 + nzN p4 24 + nzN p4 16 + nzN p4 8 + nzN p4 0)) := ez_41.trans (nI_add 0 _)
  refine lv_sipush (v := 320) hx hb dX8_feed_51 (by decide) ?_
  refine lv_icmp_le (tgt := 59) hx hb dX8_feed_54 (by decide) (fun _ => ?_) (fun q => absurd (nI_l320 (by have h0 := nzN_le p0 24; have h1 := nzN_le p0 16; have h2 := nzN_le p0 8; have h3 := nzN_le p0 0; have h4 := nzN_le p1 24; have h5 := nzN_le p1 16; have h6 := nzN_le p1 8; have h7 := nzN_le p1 0; have h8 := nzN_le p2 24; have h9 := nzN_le p2 16; have h10 := nzN_le p2 8; have h11 := nzN_le p2 0; have h12 := nzN_le p3 24; have h13 := nzN_le p3 16; have h14 := nzN_le p3 8; have h15 := nzN_le p3 0; have h16 := nzN_le p4 24; have h17 := nzN_le p4 16; have h18 := nzN_le p4 8; have h19 := nzN_le p4 0; omega)) q)
  refine lv_iconst (v := 0) hx hb dX8_feed_59 (by decide) ?_
  refine lv_istore (lv' := [(7, .int 0), (6, .int (nI (0 + nzN p0 24 + nzN p0 16 + nzN p0 8 + nzN p0 0 + nzN p1 24 + nzN p1 16 + nzN p1 8 + nzN p1 0 + nzN p2 24 + nzN p2 16 + nzN p2 8 + nzN p2 0 + nzN p3 24 + nzN p3 16 + nzN p3 8 + nzN p3 0 + nzN p4 24 + nzN p4 16 + nzN p4 8 + nzN p4 0))), (0, .ref mo), (1, .int p0), (2, .int p1), (3, .int p2), (4, .int p3), (5, .int p4)]) hx hb dX8_feed_60 hl (by decide) rfl (fun ls hl => ?_)
  have hP : va_P E.1 vwCl [(mo, .inr (9, [.int 0, .ref m_tape, .int (nI 0), .int 0, .int 0, .int 0, .int 0, .int 0, .long 0, .int 0, .int 0, .int 0, .int 0, .ref m_readPlace, .ref m_script, .ref m_scriptLong, .int 0, .ref m_now, .ref m_refused, .int 0, .ref m_shareX, .ref m_shareY, .int 0, .int 0, .ref m_askedRow, .int 0, .ref m_kept, .int 0, .long 0, .ref m_aside, .int 0, .int 0, .ref m_spelled, .int 0, .ref m_image, .int 0])), (m_tape, .inl (E.2.1, 320, .inl (fun _ => 0)))] s.heap := hP
  have hD : va_D A [(mo, .inr (9, [.int 0, .ref m_tape, .int (nI 0), .int 0, .int 0, .int 0, .int 0, .int 0, .long 0, .int 0, .int 0, .int 0, .int 0, .ref m_readPlace, .ref m_script, .ref m_scriptLong, .int 0, .ref m_now, .ref m_refused, .int 0, .ref m_shareX, .ref m_shareY, .int 0, .int 0, .ref m_askedRow, .int 0, .ref m_kept, .int 0, .long 0, .ref m_aside, .int 0, .int 0, .ref m_spelled, .int 0, .ref m_image, .int 0])), (m_tape, .inl (E.2.1, 320, .inl (fun _ => 0)))] := hD
  have hl := lv_sub (l' := [(0, .ref mo), (1, .int p0), (2, .int p1), (3, .int p2), (4, .int p3), (5, .int p4), (7, .int 0)]) hl [2, 3, 4, 5, 6, 7, 0] rfl
  have hnz : ∀ w sh : Int32, nzN w sh ≤ 1 := nzN_le
  refine mf_it0 l E hx hb hml hown hts hK hN hA (0) (by omega) (fun H locs f ls hP hD hS hl => ?_) _ _ _ ls hP hD hS hl
  refine mf_it1 l E hx hb hml hown hts hK hN hA (0 + nzN p0 24) (by have h0 := nzN_le p0 24; omega) (fun H locs f ls hP hD hS hl => ?_) _ _ _ ls hP hD hS hl
  refine mf_it2 l E hx hb hml hown hts hK hN hA (0 + nzN p0 24 + nzN p0 16) (by have h0 := nzN_le p0 24; have h1 := nzN_le p0 16; omega) (fun H locs f ls hP hD hS hl => ?_) _ _ _ ls hP hD hS hl
  refine mf_it3 l E hx hb hml hown hts hK hN hA (0 + nzN p0 24 + nzN p0 16 + nzN p0 8) (by have h0 := nzN_le p0 24; have h1 := nzN_le p0 16; have h2 := nzN_le p0 8; omega) (fun H locs f ls hP hD hS hl => ?_) _ _ _ ls hP hD hS hl
  refine mf_it4 l E hx hb hml hown hts hK hN hA (0 + nzN p0 24 + nzN p0 16 + nzN p0 8 + nzN p0 0) (by have h0 := nzN_le p0 24; have h1 := nzN_le p0 16; have h2 := nzN_le p0 8; have h3 := nzN_le p0 0; omega) (fun H locs f ls hP hD hS hl => ?_) _ _ _ ls hP hD hS hl
  refine mf_it5 l E hx hb hml hown hts hK hN hA (0 + nzN p0 24 + nzN p0 16 + nzN p0 8 + nzN p0 0 + nzN p1 24) (by have h0 := nzN_le p0 24; have h1 := nzN_le p0 16; have h2 := nzN_le p0 8; have h3 := nzN_le p0 0; have h4 := nzN_le p1 24; omega) (fun H locs f ls hP hD hS hl => ?_) _ _ _ ls hP hD hS hl
  refine mf_it6 l E hx hb hml hown hts hK hN hA (0 + nzN p0 24 + nzN p0 16 + nzN p0 8 + nzN p0 0 + nzN p1 24 + nzN p1 16) (by have h0 := nzN_le p0 24; have h1 := nzN_le p0 16; have h2 := nzN_le p0 8; have h3 := nzN_le p0 0; have h4 := nzN_le p1 24; have h5 := nzN_le p1 16; omega) (fun H locs f ls hP hD hS hl => ?_) _ _ _ ls hP hD hS hl
  refine mf_it7 l E hx hb hml hown hts hK hN hA (0 + nzN p0 24 + nzN p0 16 + nzN p0 8 + nzN p0 0 + nzN p1 24 + nzN p1 16 + nzN p1 8) (by have h0 := nzN_le p0 24; have h1 := nzN_le p0 16; have h2 := nzN_le p0 8; have h3 := nzN_le p0 0; have h4 := nzN_le p1 24; have h5 := nzN_le p1 16; have h6 := nzN_le p1 8; omega) (fun H locs f ls hP hD hS hl => ?_) _ _ _ ls hP hD hS hl
  refine mf_it8 l E hx hb hml hown hts hK hN hA (0 + nzN p0 24 + nzN p0 16 + nzN p0 8 + nzN p0 0 + nzN p1 24 + nzN p1 16 + nzN p1 8 + nzN p1 0) (by have h0 := nzN_le p0 24; have h1 := nzN_le p0 16; have h2 := nzN_le p0 8; have h3 := nzN_le p0 0; have h4 := nzN_le p1 24; have h5 := nzN_le p1 16; have h6 := nzN_le p1 8; have h7 := nzN_le p1 0; omega) (fun H locs f ls hP hD hS hl => ?_) _ _ _ ls hP hD hS hl
  refine mf_it9 l E hx hb hml hown hts hK hN hA (0 + nzN p0 24 + nzN p0 16 + nzN p0 8 + nzN p0 0 + nzN p1 24 + nzN p1 16 + nzN p1 8 + nzN p1 0 + nzN p2 24) (by have h0 := nzN_le p0 24; have h1 := nzN_le p0 16; have h2 := nzN_le p0 8; have h3 := nzN_le p0 0; have h4 := nzN_le p1 24; have h5 := nzN_le p1 16; have h6 := nzN_le p1 8; have h7 := nzN_le p1 0; have h8 := nzN_le p2 24; omega) (fun H locs f ls hP hD hS hl => ?_) _ _ _ ls hP hD hS hl
  refine mf_it10 l E hx hb hml hown hts hK hN hA (0 + nzN p0 24 + nzN p0 16 + nzN p0 8 + nzN p0 0 + nzN p1 24 + nzN p1 16 + nzN p1 8 + nzN p1 0 + nzN p2 24 + nzN p2 16) (by have h0 := nzN_le p0 24; have h1 := nzN_le p0 16; have h2 := nzN_le p0 8; have h3 := nzN_le p0 0; have h4 := nzN_le p1 24; have h5 := nzN_le p1 16; have h6 := nzN_le p1 8; have h7 := nzN_le p1 0; have h8 := nzN_le p2 24; have h9 := nzN_le p2 16; omega) (fun H locs f ls hP hD hS hl => ?_) _ _ _ ls hP hD hS hl
  refine mf_it11 l E hx hb hml hown hts hK hN hA (0 + nzN p0 24 + nzN p0 16 + nzN p0 8 + nzN p0 0 + nzN p1 24 + nzN p1 16 + nzN p1 8 + nzN p1 0 + nzN p2 24 + nzN p2 16 + nzN p2 8) (by have h0 := nzN_le p0 24; have h1 := nzN_le p0 16; have h2 := nzN_le p0 8; have h3 := nzN_le p0 0; have h4 := nzN_le p1 24; have h5 := nzN_le p1 16; have h6 := nzN_le p1 8; have h7 := nzN_le p1 0; have h8 := nzN_le p2 24; have h9 := nzN_le p2 16; have h10 := nzN_le p2 8; omega) (fun H locs f ls hP hD hS hl => ?_) _ _ _ ls hP hD hS hl
  refine mf_it12 l E hx hb hml hown hts hK hN hA (0 + nzN p0 24 + nzN p0 16 + nzN p0 8 + nzN p0 0 + nzN p1 24 + nzN p1 16 + nzN p1 8 + nzN p1 0 + nzN p2 24 + nzN p2 16 + nzN p2 8 + nzN p2 0) (by have h0 := nzN_le p0 24; have h1 := nzN_le p0 16; have h2 := nzN_le p0 8; have h3 := nzN_le p0 0; have h4 := nzN_le p1 24; have h5 := nzN_le p1 16; have h6 := nzN_le p1 8; have h7 := nzN_le p1 0; have h8 := nzN_le p2 24; have h9 := nzN_le p2 16; have h10 := nzN_le p2 8; have h11 := nzN_le p2 0; omega) (fun H locs f ls hP hD hS hl => ?_) _ _ _ ls hP hD hS hl
  refine mf_it13 l E hx hb hml hown hts hK hN hA (0 + nzN p0 24 + nzN p0 16 + nzN p0 8 + nzN p0 0 + nzN p1 24 + nzN p1 16 + nzN p1 8 + nzN p1 0 + nzN p2 24 + nzN p2 16 + nzN p2 8 + nzN p2 0 + nzN p3 24) (by have h0 := nzN_le p0 24; have h1 := nzN_le p0 16; have h2 := nzN_le p0 8; have h3 := nzN_le p0 0; have h4 := nzN_le p1 24; have h5 := nzN_le p1 16; have h6 := nzN_le p1 8; have h7 := nzN_le p1 0; have h8 := nzN_le p2 24; have h9 := nzN_le p2 16; have h10 := nzN_le p2 8; have h11 := nzN_le p2 0; have h12 := nzN_le p3 24; omega) (fun H locs f ls hP hD hS hl => ?_) _ _ _ ls hP hD hS hl
  refine mf_it14 l E hx hb hml hown hts hK hN hA (0 + nzN p0 24 + nzN p0 16 + nzN p0 8 + nzN p0 0 + nzN p1 24 + nzN p1 16 + nzN p1 8 + nzN p1 0 + nzN p2 24 + nzN p2 16 + nzN p2 8 + nzN p2 0 + nzN p3 24 + nzN p3 16) (by have h0 := nzN_le p0 24; have h1 := nzN_le p0 16; have h2 := nzN_le p0 8; have h3 := nzN_le p0 0; have h4 := nzN_le p1 24; have h5 := nzN_le p1 16; have h6 := nzN_le p1 8; have h7 := nzN_le p1 0; have h8 := nzN_le p2 24; have h9 := nzN_le p2 16; have h10 := nzN_le p2 8; have h11 := nzN_le p2 0; have h12 := nzN_le p3 24; have h13 := nzN_le p3 16; omega) (fun H locs f ls hP hD hS hl => ?_) _ _ _ ls hP hD hS hl
  refine mf_it15 l E hx hb hml hown hts hK hN hA (0 + nzN p0 24 + nzN p0 16 + nzN p0 8 + nzN p0 0 + nzN p1 24 + nzN p1 16 + nzN p1 8 + nzN p1 0 + nzN p2 24 + nzN p2 16 + nzN p2 8 + nzN p2 0 + nzN p3 24 + nzN p3 16 + nzN p3 8) (by have h0 := nzN_le p0 24; have h1 := nzN_le p0 16; have h2 := nzN_le p0 8; have h3 := nzN_le p0 0; have h4 := nzN_le p1 24; have h5 := nzN_le p1 16; have h6 := nzN_le p1 8; have h7 := nzN_le p1 0; have h8 := nzN_le p2 24; have h9 := nzN_le p2 16; have h10 := nzN_le p2 8; have h11 := nzN_le p2 0; have h12 := nzN_le p3 24; have h13 := nzN_le p3 16; have h14 := nzN_le p3 8; omega) (fun H locs f ls hP hD hS hl => ?_) _ _ _ ls hP hD hS hl
  refine mf_it16 l E hx hb hml hown hts hK hN hA (0 + nzN p0 24 + nzN p0 16 + nzN p0 8 + nzN p0 0 + nzN p1 24 + nzN p1 16 + nzN p1 8 + nzN p1 0 + nzN p2 24 + nzN p2 16 + nzN p2 8 + nzN p2 0 + nzN p3 24 + nzN p3 16 + nzN p3 8 + nzN p3 0) (by have h0 := nzN_le p0 24; have h1 := nzN_le p0 16; have h2 := nzN_le p0 8; have h3 := nzN_le p0 0; have h4 := nzN_le p1 24; have h5 := nzN_le p1 16; have h6 := nzN_le p1 8; have h7 := nzN_le p1 0; have h8 := nzN_le p2 24; have h9 := nzN_le p2 16; have h10 := nzN_le p2 8; have h11 := nzN_le p2 0; have h12 := nzN_le p3 24; have h13 := nzN_le p3 16; have h14 := nzN_le p3 8; have h15 := nzN_le p3 0; omega) (fun H locs f ls hP hD hS hl => ?_) _ _ _ ls hP hD hS hl
  refine mf_it17 l E hx hb hml hown hts hK hN hA (0 + nzN p0 24 + nzN p0 16 + nzN p0 8 + nzN p0 0 + nzN p1 24 + nzN p1 16 + nzN p1 8 + nzN p1 0 + nzN p2 24 + nzN p2 16 + nzN p2 8 + nzN p2 0 + nzN p3 24 + nzN p3 16 + nzN p3 8 + nzN p3 0 + nzN p4 24) (by have h0 := nzN_le p0 24; have h1 := nzN_le p0 16; have h2 := nzN_le p0 8; have h3 := nzN_le p0 0; have h4 := nzN_le p1 24; have h5 := nzN_le p1 16; have h6 := nzN_le p1 8; have h7 := nzN_le p1 0; have h8 := nzN_le p2 24; have h9 := nzN_le p2 16; have h10 := nzN_le p2 8; have h11 := nzN_le p2 0; have h12 := nzN_le p3 24; have h13 := nzN_le p3 16; have h14 := nzN_le p3 8; have h15 := nzN_le p3 0; have h16 := nzN_le p4 24; omega) (fun H locs f ls hP hD hS hl => ?_) _ _ _ ls hP hD hS hl
  refine mf_it18 l E hx hb hml hown hts hK hN hA (0 + nzN p0 24 + nzN p0 16 + nzN p0 8 + nzN p0 0 + nzN p1 24 + nzN p1 16 + nzN p1 8 + nzN p1 0 + nzN p2 24 + nzN p2 16 + nzN p2 8 + nzN p2 0 + nzN p3 24 + nzN p3 16 + nzN p3 8 + nzN p3 0 + nzN p4 24 + nzN p4 16) (by have h0 := nzN_le p0 24; have h1 := nzN_le p0 16; have h2 := nzN_le p0 8; have h3 := nzN_le p0 0; have h4 := nzN_le p1 24; have h5 := nzN_le p1 16; have h6 := nzN_le p1 8; have h7 := nzN_le p1 0; have h8 := nzN_le p2 24; have h9 := nzN_le p2 16; have h10 := nzN_le p2 8; have h11 := nzN_le p2 0; have h12 := nzN_le p3 24; have h13 := nzN_le p3 16; have h14 := nzN_le p3 8; have h15 := nzN_le p3 0; have h16 := nzN_le p4 24; have h17 := nzN_le p4 16; omega) (fun H locs f ls hP hD hS hl => ?_) _ _ _ ls hP hD hS hl
  refine mf_it19 l E hx hb hml hown hts hK hN hA (0 + nzN p0 24 + nzN p0 16 + nzN p0 8 + nzN p0 0 + nzN p1 24 + nzN p1 16 + nzN p1 8 + nzN p1 0 + nzN p2 24 + nzN p2 16 + nzN p2 8 + nzN p2 0 + nzN p3 24 + nzN p3 16 + nzN p3 8 + nzN p3 0 + nzN p4 24 + nzN p4 16 + nzN p4 8) (by have h0 := nzN_le p0 24; have h1 := nzN_le p0 16; have h2 := nzN_le p0 8; have h3 := nzN_le p0 0; have h4 := nzN_le p1 24; have h5 := nzN_le p1 16; have h6 := nzN_le p1 8; have h7 := nzN_le p1 0; have h8 := nzN_le p2 24; have h9 := nzN_le p2 16; have h10 := nzN_le p2 8; have h11 := nzN_le p2 0; have h12 := nzN_le p3 24; have h13 := nzN_le p3 16; have h14 := nzN_le p3 8; have h15 := nzN_le p3 0; have h16 := nzN_le p4 24; have h17 := nzN_le p4 16; have h18 := nzN_le p4 8; omega) (fun H locs f ls hP hD hS hl => ?_) _ _ _ ls hP hD hS hl
  refine lv_iload hx hb dX8_feed_62 (lv_at hl 6 rfl) ?_
  refine lv_bipush (v := 20) hx hb dX8_feed_64 (by decide) ?_
  refine lv_icmp_ge (tgt := 115) hx hb dX8_feed_66 (by decide) (fun _ => ?_) (fun q => absurd (by decide) q)
  refine lv_aload_n hx hb dX8_feed_115 rfl (lv_at hl 0 rfl) ?_
  refine va_get (D := E.1) (ci := 9) (v := .int (nI (0 + nzN p0 24 + nzN p0 16 + nzN p0 8 + nzN p0 0 + nzN p1 24 + nzN p1 16 + nzN p1 8 + nzN p1 0 + nzN p2 24 + nzN p2 16 + nzN p2 8 + nzN p2 0 + nzN p3 24 + nzN p3 16 + nzN p3 8 + nzN p3 0 + nzN p4 24 + nzN p4 16 + nzN p4 8 + nzN p4 0))) (C := RX8) (T := TX8) (N := 36) hx hb hts i_d_feed_X8 hown hK hP 0 rfl rfl 2 (by decide) (hts (.fieldLink RX8 57 "HushWatchModel" "taped" "I") (List.mem_of_getElem? (i := 2) rfl)) (fun _ h9 => h9) rfl dX8_feed_116 ?_
  have hP9 : va_P E.1 vwCl [] H := fun k q h => by simp at h
  have hD9 : va_D A [] := ⟨fun i j p q h => by simp at h, fun k q h => by simp at h⟩
  exact W.iret (v := nI (0 + nzN p0 24 + nzN p0 16 + nzN p0 8 + nzN p0 0 + nzN p1 24 + nzN p1 16 + nzN p1 8 + nzN p1 0 + nzN p2 24 + nzN p2 16 + nzN p2 8 + nzN p2 0 + nzN p3 24 + nzN p3 16 + nzN p3 8 + nzN p3 0 + nzN p4 24 + nzN p4 16 + nzN p4 8 + nzN p4 0)) hx hb hr (fun tt ht hW => ⟨⟨_, (), rfl, (by unfold feedv nb; exact congrArg nI (by omega)), by rw [ht]; exact hP9, hD9⟩, hS.F ht⟩) hS.2.2 dX8_feed_119
