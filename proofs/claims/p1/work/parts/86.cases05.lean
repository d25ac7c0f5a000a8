theorem dL_law_212 : decode cL_law 212 = .ok (.aload_n 1, 1) := by decide +kernel
theorem dL_law_213 : decode cL_law 213 = .ok (.aload_n 0, 1) := by decide +kernel
theorem dL_law_214 : decode cL_law 214 = .ok (.iload 4, 2) := by decide +kernel
theorem dL_law_216 : decode cL_law 216 = .ok (.iconst 1, 1) := by decide +kernel
theorem dL_law_217 : decode cL_law 217 = .ok (.iadd, 1) := by decide +kernel
theorem dL_law_218 : decode cL_law 218 = .ok (.iaload, 1) := by decide +kernel
theorem dL_law_219 : decode cL_law 219 = .ok (.aload_n 0, 1) := by decide +kernel
theorem dL_law_220 : decode cL_law 220 = .ok (.iload 4, 2) := by decide +kernel
theorem dL_law_222 : decode cL_law 222 = .ok (.iconst 2, 1) := by decide +kernel
theorem dL_law_223 : decode cL_law 223 = .ok (.iadd, 1) := by decide +kernel
theorem dL_law_224 : decode cL_law 224 = .ok (.iaload, 1) := by decide +kernel
theorem dL_law_225 : decode cL_law 225 = .ok (.aload_n 0, 1) := by decide +kernel
theorem dL_law_226 : decode cL_law 226 = .ok (.iload 4, 2) := by decide +kernel
theorem dL_law_228 : decode cL_law 228 = .ok (.iconst 3, 1) := by decide +kernel
theorem dL_law_229 : decode cL_law 229 = .ok (.iadd, 1) := by decide +kernel
theorem dL_law_230 : decode cL_law 230 = .ok (.iaload, 1) := by decide +kernel
theorem dL_law_231 : decode cL_law 231 = .ok (.aload_n 0, 1) := by decide +kernel
theorem dL_law_232 : decode cL_law 232 = .ok (.iload 4, 2) := by decide +kernel
theorem dL_law_234 : decode cL_law 234 = .ok (.iconst 4, 1) := by decide +kernel
theorem dL_law_235 : decode cL_law 235 = .ok (.iadd, 1) := by decide +kernel
theorem dL_law_236 : decode cL_law 236 = .ok (.iaload, 1) := by decide +kernel
theorem dL_law_237 : decode cL_law 237 = .ok (.aload_n 0, 1) := by decide +kernel
theorem dL_law_238 : decode cL_law 238 = .ok (.iload 4, 2) := by decide +kernel
theorem dL_law_240 : decode cL_law 240 = .ok (.iconst 5, 1) := by decide +kernel
theorem dL_law_241 : decode cL_law 241 = .ok (.iadd, 1) := by decide +kernel
theorem dL_law_242 : decode cL_law 242 = .ok (.iaload, 1) := by decide +kernel
theorem dL_law_243 : decode cL_law 243 = .ok (.invokevirtual 19, 3) := by decide +kernel
theorem dL_law_246 : decode cL_law 246 = .ok (.aload_n 2, 1) := by decide +kernel
theorem dL_law_247 : decode cL_law 247 = .ok (.aload_n 0, 1) := by decide +kernel
theorem dL_law_248 : decode cL_law 248 = .ok (.iload 4, 2) := by decide +kernel
theorem dL_law_250 : decode cL_law 250 = .ok (.iconst 1, 1) := by decide +kernel
theorem dL_law_251 : decode cL_law 251 = .ok (.iadd, 1) := by decide +kernel
theorem dL_law_252 : decode cL_law 252 = .ok (.iaload, 1) := by decide +kernel
theorem dL_law_253 : decode cL_law 253 = .ok (.aload_n 0, 1) := by decide +kernel
theorem dL_law_254 : decode cL_law 254 = .ok (.iload 4, 2) := by decide +kernel
theorem dL_law_256 : decode cL_law 256 = .ok (.iconst 2, 1) := by decide +kernel
theorem dL_law_257 : decode cL_law 257 = .ok (.iadd, 1) := by decide +kernel
theorem dL_law_258 : decode cL_law 258 = .ok (.iaload, 1) := by decide +kernel
theorem dL_law_259 : decode cL_law 259 = .ok (.aload_n 0, 1) := by decide +kernel
theorem dL_law_260 : decode cL_law 260 = .ok (.iload 4, 2) := by decide +kernel
theorem dL_law_262 : decode cL_law 262 = .ok (.iconst 3, 1) := by decide +kernel
theorem dL_law_263 : decode cL_law 263 = .ok (.iadd, 1) := by decide +kernel
theorem dL_law_264 : decode cL_law 264 = .ok (.iaload, 1) := by decide +kernel
theorem dL_law_265 : decode cL_law 265 = .ok (.aload_n 0, 1) := by decide +kernel
theorem dL_law_266 : decode cL_law 266 = .ok (.iload 4, 2) := by decide +kernel
theorem dL_law_268 : decode cL_law 268 = .ok (.iconst 4, 1) := by decide +kernel
theorem dL_law_269 : decode cL_law 269 = .ok (.iadd, 1) := by decide +kernel
theorem dL_law_270 : decode cL_law 270 = .ok (.iaload, 1) := by decide +kernel
theorem dL_law_271 : decode cL_law 271 = .ok (.aload_n 0, 1) := by decide +kernel
theorem dL_law_272 : decode cL_law 272 = .ok (.iload 4, 2) := by decide +kernel
theorem dL_law_274 : decode cL_law 274 = .ok (.iconst 5, 1) := by decide +kernel
theorem dL_law_275 : decode cL_law 275 = .ok (.iadd, 1) := by decide +kernel
theorem dL_law_276 : decode cL_law 276 = .ok (.iaload, 1) := by decide +kernel
theorem dL_law_277 : decode cL_law 277 = .ok (.invokevirtual 23, 3) := by decide +kernel
theorem dL_law_280 : decode cL_law 280 = .ok (.if_icmp .eq 1385, 3) := by decide +kernel
theorem dL_law_385 : decode cL_law 385 = .ok (.aload_n 1, 1) := by decide +kernel
theorem dL_law_386 : decode cL_law 386 = .ok (.aload_n 0, 1) := by decide +kernel
theorem dL_law_387 : decode cL_law 387 = .ok (.iload 4, 2) := by decide +kernel
theorem dL_law_389 : decode cL_law 389 = .ok (.iconst 1, 1) := by decide +kernel
theorem dL_law_390 : decode cL_law 390 = .ok (.iadd, 1) := by decide +kernel
theorem dL_law_391 : decode cL_law 391 = .ok (.iaload, 1) := by decide +kernel
theorem dL_law_392 : decode cL_law 392 = .ok (.aload_n 0, 1) := by decide +kernel
theorem dL_law_393 : decode cL_law 393 = .ok (.iload 4, 2) := by decide +kernel
theorem dL_law_395 : decode cL_law 395 = .ok (.iconst 2, 1) := by decide +kernel
theorem dL_law_396 : decode cL_law 396 = .ok (.iadd, 1) := by decide +kernel
theorem dL_law_397 : decode cL_law 397 = .ok (.iaload, 1) := by decide +kernel
theorem dL_law_398 : decode cL_law 398 = .ok (.aload_n 3, 1) := by decide +kernel
theorem dL_law_399 : decode cL_law 399 = .ok (.invokestatic 42, 3) := by decide +kernel
theorem dL_law_402 : decode cL_law 402 = .ok (.istore 5, 2) := by decide +kernel
theorem dL_law_404 : decode cL_law 404 = .ok (.aload_n 2, 1) := by decide +kernel
theorem dL_law_405 : decode cL_law 405 = .ok (.aload_n 0, 1) := by decide +kernel
theorem dL_law_406 : decode cL_law 406 = .ok (.iload 4, 2) := by decide +kernel
theorem dL_law_408 : decode cL_law 408 = .ok (.iconst 1, 1) := by decide +kernel
theorem dL_law_409 : decode cL_law 409 = .ok (.iadd, 1) := by decide +kernel
theorem dL_law_410 : decode cL_law 410 = .ok (.iaload, 1) := by decide +kernel
theorem dL_law_411 : decode cL_law 411 = .ok (.aload_n 0, 1) := by decide +kernel
theorem dL_law_412 : decode cL_law 412 = .ok (.iload 4, 2) := by decide +kernel
theorem dL_law_414 : decode cL_law 414 = .ok (.iconst 2, 1) := by decide +kernel
theorem dL_law_415 : decode cL_law 415 = .ok (.iadd, 1) := by decide +kernel
theorem dL_law_416 : decode cL_law 416 = .ok (.iaload, 1) := by decide +kernel
theorem dL_law_417 : decode cL_law 417 = .ok (.invokevirtual 47, 3) := by decide +kernel
theorem dL_law_420 : decode cL_law 420 = .ok (.istore 6, 2) := by decide +kernel
theorem dL_law_422 : decode cL_law 422 = .ok (.aload_n 2, 1) := by decide +kernel
theorem dL_law_423 : decode cL_law 423 = .ok (.invokevirtual 48, 3) := by decide +kernel
theorem dL_law_426 : decode cL_law 426 = .ok (.iload 5, 2) := by decide +kernel
theorem dL_law_428 : decode cL_law 428 = .ok (.if_icmp .eq 5, 3) := by decide +kernel
theorem dL_law_433 : decode cL_law 433 = .ok (.iload 5, 2) := by decide +kernel
theorem dL_law_435 : decode cL_law 435 = .ok (.ifCond .ne 15, 3) := by decide +kernel
theorem dL_law_450 : decode cL_law 450 = .ok (.goto 1215, 3) := by decide +kernel
set_option maxHeartbeats 4000000 in
set_option maxRecDepth 100000 in
theorem lc_0 {p : Program} {l : Launch} {e : Env} {s : State} {m : MethodId} {below : List Frame} {meth : Method} {c : Code} (hflags : l.flags = flags0) {b : Nat} {xs : Nat → Int32} (C0 : lw_At p s m meth c b 6 xs) {E : EE} (hK : va_K E.1 vwCl (TY E) s) (hN : NX s) {A : Nat → Prop} (hAe : (fun q : Nat => s.heap.size ≤ q) = A) (hZ : ZM A s s.heap) {x t rd sc n tr kp bk kb hi dr rf b1 r1 r2 r3 s1 s2 n1 n2 n3 n4 v1 mo m_tape m_readPlace m_script m_scriptLong m_now m_refused m_shareX m_shareY m_askedRow m_kept m_aside m_spelled m_image o : Nat} {H : Heap} {locs : List Loc} (hP : va_P E.1 vwCl [(x, .inr (8, [.ref t, .ref rd, .ref sc, .ref n, .ref tr, .ref kp, .ref bk, .ref kb, .ref hi, .ref dr, .ref rf, .int 0])), (t, .inr (7, [.ref b1, .int 0])), (b1, .inl (E.2.2.1, 320, .inl (fun _ => 0))), (rd, .inr (4, [.ref t, .ref r1, .ref r2, .ref r3, .int 0, .int 0, .int 0, .int 0, .int 0, .int 0, .int (-1)])), (r1, .inl (E.2.1, 3, .inl (fun _ => 0))), (sc, .inr (5, [.ref s1, .ref s2, .int 0])), (n, .inr (6, [.ref n1, .ref n2, .int 0, .int 0, .ref n3, .ref n4])), (n1, .inl (E.2.1, 81, .inl (fun _ => 0))), (hi, .inr (3, [.ref v1, .int 0, .int 0])), (rf, .inl (E.2.1, 3, .inl (fun _ => 0))), (mo, .inr (9, [.int 0, .ref m_tape, .int 0, .int 0, .int 0, .int 0, .int 0, .int 0, .long 0, .int 0, .int 0, .int 0, .int 0, .ref m_readPlace, .ref m_script, .ref m_scriptLong, .int 0, .ref m_now, .ref m_refused, .int 0, .ref m_shareX, .ref m_shareY, .int 0, .int 0, .ref m_askedRow, .int 0, .ref m_kept, .int 0, .long 0, .ref m_aside, .int 0, .int 0, .ref m_spelled, .int 0, .ref m_image, .int 0])), (m_tape, .inl (E.2.1, 320, .inl (fun _ => 0))), (m_scriptLong, .inl (E.2.1, 5, .inl (fun _ => 0))), (m_now, .inl (E.2.1, 265, .inl (fun _ => 0))), (m_refused, .inl (E.2.1, 3, .inl (fun _ => 0))), (o, .inl (E.2.2.2, 1, .inr (.inl (fun _ => 0))))] H) (hD : va_D A [(x, .inr (8, [.ref t, .ref rd, .ref sc, .ref n, .ref tr, .ref kp, .ref bk, .ref kb, .ref hi, .ref dr, .ref rf, .int 0])), (t, .inr (7, [.ref b1, .int 0])), (b1, .inl (E.2.2.1, 320, .inl (fun _ => 0))), (rd, .inr (4, [.ref t, .ref r1, .ref r2, .ref r3, .int 0, .int 0, .int 0, .int 0, .int 0, .int 0, .int (-1)])), (r1, .inl (E.2.1, 3, .inl (fun _ => 0))), (sc, .inr (5, [.ref s1, .ref s2, .int 0])), (n, .inr (6, [.ref n1, .ref n2, .int 0, .int 0, .ref n3, .ref n4])), (n1, .inl (E.2.1, 81, .inl (fun _ => 0))), (hi, .inr (3, [.ref v1, .int 0, .int 0])), (rf, .inl (E.2.1, 3, .inl (fun _ => 0))), (mo, .inr (9, [.int 0, .ref m_tape, .int 0, .int 0, .int 0, .int 0, .int 0, .int 0, .long 0, .int 0, .int 0, .int 0, .int 0, .ref m_readPlace, .ref m_script, .ref m_scriptLong, .int 0, .ref m_now, .ref m_refused, .int 0, .ref m_shareX, .ref m_shareY, .int 0, .int 0, .ref m_askedRow, .int 0, .ref m_kept, .int 0, .long 0, .ref m_aside, .int 0, .int 0, .ref m_spelled, .int 0, .ref m_image, .int 0])), (m_tape, .inl (E.2.1, 320, .inl (fun _ => 0))), (m_scriptLong, .inl (E.2.1, 5, .inl (fun _ => 0))), (m_now, .inl (E.2.1, 265, .inl (fun _ => 0))), (m_refused, .inl (E.2.1, 3, .inl (fun _ => 0))), (o, .inl (E.2.2.2, 1, .inr (.inl (fun _ => 0))))]) (hS : va_S A s.heap H locs) {ls : Array Slot} (hl : lv_has ls 7 [(0, .ref b), (1, .ref x), (2, .ref mo), (3, .ref o), (4, .int 0)]) : W p l e room_1 s m #[Value.ref b] below meth c H locs 1000 100000 (lw_Z below #[Value.ref b] s) (F0 m 212 ls []) := by
  obtain ⟨hx, hb, hr, hml, hown, hts, hX, hbl, hlocks, hgv⟩ := id C0
  have hown : s.vm.findClass RL = some m.cls := hown
  have hA : ∀ q : Nat, s.heap.size ≤ q → A q := fun q h => by rw [← hAe]; exact h
  have hbA : ¬ A b := by rw [← hAe]; exact Nat.not_le.mpr hbl
  refine lv_aload_n hx hb dL_law_212 rfl (lv_at hl 1 rfl) ?_
  refine lv_aload_n hx hb dL_law_213 rfl (lv_at hl 0 rfl) ?_
  refine lv_iload hx hb dL_law_214 (lv_at hl 4 rfl) ?_
  refine lv_iconst (v := 1) hx hb dL_law_216 (by decide) ?_
  refine lv_iadd hx hb dL_law_217 ?_
  refine lv_topi (fun z_1 ez_1 => ?_)
  obtain rfl : z_1 = 1 := ez_1.trans (by decide)
  refine va_sld hx hb hX hbl hbA hS (vin rfl) dL_law_218 ?_
  refine W.eq (g2 := F0 m 219 ls [.int (xs 1), .ref x]) rfl ?_
  refine lv_aload_n hx hb dL_law_219 rfl (lv_at hl 0 rfl) ?_
  refine lv_iload hx hb dL_law_220 (lv_at hl 4 rfl) ?_
  refine lv_iconst (v := 2) hx hb dL_law_222 (by decide) ?_
  refine lv_iadd hx hb dL_law_223 ?_
  refine lv_topi (fun z_2 ez_2 => ?_)
  obtain rfl : z_2 = 2 := ez_2.trans (by decide)
  refine va_sld hx hb hX hbl hbA hS (vin rfl) dL_law_224 ?_
  refine W.eq (g2 := F0 m 225 ls [.int (xs 2), .int (xs 1), .ref x]) rfl ?_
  refine lv_aload_n hx hb dL_law_225 rfl (lv_at hl 0 rfl) ?_
  refine lv_iload hx hb dL_law_226 (lv_at hl 4 rfl) ?_
  refine lv_iconst (v := 3) hx hb dL_law_228 (by decide) ?_
  refine lv_iadd hx hb dL_law_229 ?_
  refine lv_topi (fun z_3 ez_3 => ?_)
  obtain rfl : z_3 = 3 := ez_3.trans (by decide)
  refine va_sld hx hb hX hbl hbA hS (vin rfl) dL_law_230 ?_
  refine W.eq (g2 := F0 m 231 ls [.int (xs 3), .int (xs 2), .int (xs 1), .ref x]) rfl ?_
  refine lv_aload_n hx hb dL_law_231 rfl (lv_at hl 0 rfl) ?_
  refine lv_iload hx hb dL_law_232 (lv_at hl 4 rfl) ?_
  refine lv_iconst (v := 4) hx hb dL_law_234 (by decide) ?_
  refine lv_iadd hx hb dL_law_235 ?_
  refine lv_topi (fun z_4 ez_4 => ?_)
  obtain rfl : z_4 = 4 := ez_4.trans (by decide)
  refine va_sld hx hb hX hbl hbA hS (vin rfl) dL_law_236 ?_
  refine W.eq (g2 := F0 m 237 ls [.int (xs 4), .int (xs 3), .int (xs 2), .int (xs 1), .ref x]) rfl ?_
  refine lv_aload_n hx hb dL_law_237 rfl (lv_at hl 0 rfl) ?_
  refine lv_iload hx hb dL_law_238 (lv_at hl 4 rfl) ?_
  refine lv_iconst (v := 5) hx hb dL_law_240 (by decide) ?_
  refine lv_iadd hx hb dL_law_241 ?_
  refine lv_topi (fun z_5 ez_5 => ?_)
  obtain rfl : z_5 = 5 := ez_5.trans (by decide)
  refine va_sld hx hb hX hbl hbA hS (vin rfl) dL_law_242 ?_
  refine W.eq (g2 := F0 m 243 ls [.int (xs 5), .int (xs 4), .int (xs 3), .int (xs 2), .int (xs 1), .ref x]) rfl ?_
  have hPc := hP.sub (ws' := [(x, .inr (8, [.ref t, .ref rd, .ref sc, .ref n, .ref tr, .ref kp, .ref bk, .ref kb, .ref hi, .ref dr, .ref rf, .int 0])), (t, .inr (7, [.ref b1, .int 0])), (b1, .inl (E.2.2.1, 320, .inl (fun _ => 0)))]) [0, 1, 2] rfl
  have hDc := hD.sub (ws' := [(x, .inr (8, [.ref t, .ref rd, .ref sc, .ref n, .ref tr, .ref kp, .ref bk, .ref kb, .ref hi, .ref dr, .ref rf, .int 0])), (t, .inr (7, [.ref b1, .int 0])), (b1, .inl (E.2.2.1, 320, .inl (fun _ => 0)))]) [0, 1, 2] (by decide) rfl
  have hFc := va_free (wc := [(x, .inr (8, [.ref t, .ref rd, .ref sc, .ref n, .ref tr, .ref kp, .ref bk, .ref kb, .ref hi, .ref dr, .ref rf, .int 0])), (t, .inr (7, [.ref b1, .int 0])), (b1, .inl (E.2.2.1, 320, .inl (fun _ => 0)))]) hD hS hA [0, 1, 2] rfl
  refine va_calli (va_runV (As := [.int (xs 1), .int (xs 2), .int (xs 3), .int (xs 4), .int (xs 5)]) (rest := []) ⟨hx, hb, hml, hown, hts⟩ (c_feed l E H.size x t rd sc n tr kp bk kb hi dr rf b1 (xs 1) (xs 2) (xs 3) (xs 4) (xs 5)) (cwV 5 hts gl_c_feed_19 rfl rfl rfl (by decide +kernel) ⟨Nat.le_of_ble_eq_true rfl, Nat.le_of_ble_eq_true rfl⟩) ⟨pW.blind, va_recv hK hPc (ci := 8) (q0 := 0) rfl rfl, (pW.pre ⟨hK, hN⟩ hPc hDc)⟩ rfl rfl hl.1 rfl (lv_room (Nat.le_of_ble_eq_true rfl)) dL_law_243 ⟨Nat.le_of_ble_eq_true rfl, Nat.le_of_ble_eq_true rfl⟩) hS (fun q _ h => hFc q h) hFc (fun r_6 u tt H1 locs ht hvm hw hB hz1 hk1 hS => ?_)
  obtain ⟨hP1, hD1⟩ := hB
  rw [ht] at hP1
  obtain ⟨hP, hD⟩ := va_join (wr := [(rd, .inr (4, [.ref t, .ref r1, .ref r2, .ref r3, .int 0, .int 0, .int 0, .int 0, .int 0, .int 0, .int (-1)])), (r1, .inl (E.2.1, 3, .inl (fun _ => 0))), (sc, .inr (5, [.ref s1, .ref s2, .int 0])), (n, .inr (6, [.ref n1, .ref n2, .int 0, .int 0, .ref n3, .ref n4])), (n1, .inl (E.2.1, 81, .inl (fun _ => 0))), (hi, .inr (3, [.ref v1, .int 0, .int 0])), (rf, .inl (E.2.1, 3, .inl (fun _ => 0))), (mo, .inr (9, [.int 0, .ref m_tape, .int 0, .int 0, .int 0, .int 0, .int 0, .int 0, .long 0, .int 0, .int 0, .int 0, .int 0, .ref m_readPlace, .ref m_script, .ref m_scriptLong, .int 0, .ref m_now, .ref m_refused, .int 0, .ref m_shareX, .ref m_shareY, .int 0, .int 0, .ref m_askedRow, .int 0, .ref m_kept, .int 0, .long 0, .ref m_aside, .int 0, .int 0, .ref m_spelled, .int 0, .ref m_image, .int 0])), (m_tape, .inl (E.2.1, 320, .inl (fun _ => 0))), (m_scriptLong, .inl (E.2.1, 5, .inl (fun _ => 0))), (m_now, .inl (E.2.1, 265, .inl (fun _ => 0))), (m_refused, .inl (E.2.1, 3, .inl (fun _ => 0))), (o, .inl (E.2.2.2, 1, .inr (.inl (fun _ => 0))))]) (w1 := []) hP hD [0, 1, 2] [3, 4, 5, 6, 7, 8, 9, 10, 11, 12, 13, 14, 15] rfl rfl (by decide) (by decide) hk1 hFc hP1 hD1
  generalize H1 = H at hP hS ⊢
  have hP : va_P E.1 vwCl [(rd, .inr (4, [.ref t, .ref r1, .ref r2, .ref r3, .int 0, .int 0, .int 0, .int 0, .int 0, .int 0, .int (-1)])), (r1, .inl (E.2.1, 3, .inl (fun _ => 0))), (sc, .inr (5, [.ref s1, .ref s2, .int 0])), (n, .inr (6, [.ref n1, .ref n2, .int 0, .int 0, .ref n3, .ref n4])), (n1, .inl (E.2.1, 81, .inl (fun _ => 0))), (hi, .inr (3, [.ref v1, .int 0, .int 0])), (rf, .inl (E.2.1, 3, .inl (fun _ => 0))), (mo, .inr (9, [.int 0, .ref m_tape, .int 0, .int 0, .int 0, .int 0, .int 0, .int 0, .long 0, .int 0, .int 0, .int 0, .int 0, .ref m_readPlace, .ref m_script, .ref m_scriptLong, .int 0, .ref m_now, .ref m_refused, .int 0, .ref m_shareX, .ref m_shareY, .int 0, .int 0, .ref m_askedRow, .int 0, .ref m_kept, .int 0, .long 0, .ref m_aside, .int 0, .int 0, .ref m_spelled, .int 0, .ref m_image, .int 0])), (m_tape, .inl (E.2.1, 320, .inl (fun _ => 0))), (m_scriptLong, .inl (E.2.1, 5, .inl (fun _ => 0))), (m_now, .inl (E.2.1, 265, .inl (fun _ => 0))), (m_refused, .inl (E.2.1, 3, .inl (fun _ => 0))), (o, .inl (E.2.2.2, 1, .inr (.inl (fun _ => 0))))] H := hP
  have hD : va_D A [(rd, .inr (4, [.ref t, .ref r1, .ref r2, .ref r3, .int 0, .int 0, .int 0, .int 0, .int 0, .int 0, .int (-1)])), (r1, .inl (E.2.1, 3, .inl (fun _ => 0))), (sc, .inr (5, [.ref s1, .ref s2, .int 0])), (n, .inr (6, [.ref n1, .ref n2, .int 0, .int 0, .ref n3, .ref n4])), (n1, .inl (E.2.1, 81, .inl (fun _ => 0))), (hi, .inr (3, [.ref v1, .int 0, .int 0])), (rf, .inl (E.2.1, 3, .inl (fun _ => 0))), (mo, .inr (9, [.int 0, .ref m_tape, .int 0, .int 0, .int 0, .int 0, .int 0, .int 0, .long 0, .int 0, .int 0, .int 0, .int 0, .ref m_readPlace, .ref m_script, .ref m_scriptLong, .int 0, .ref m_now, .ref m_refused, .int 0, .ref m_shareX, .ref m_shareY, .int 0, .int 0, .ref m_askedRow, .int 0, .ref m_kept, .int 0, .long 0, .ref m_aside, .int 0, .int 0, .ref m_spelled, .int 0, .ref m_image, .int 0])), (m_tape, .inl (E.2.1, 320, .inl (fun _ => 0))), (m_scriptLong, .inl (E.2.1, 5, .inl (fun _ => 0))), (m_now, .inl (E.2.1, 265, .inl (fun _ => 0))), (m_refused, .inl (E.2.1, 3, .inl (fun _ => 0))), (o, .inl (E.2.2.2, 1, .inr (.inl (fun _ => 0))))] := hD
  have hr_6 := hw
  refine lv_aload_n hx hb dL_law_246 rfl (lv_at hl 2 rfl) ?_
  refine lv_aload_n hx hb dL_law_247 rfl (lv_at hl 0 rfl) ?_
  refine lv_iload hx hb dL_law_248 (lv_at hl 4 rfl) ?_
  refine lv_iconst (v := 1) hx hb dL_law_250 (by decide) ?_
  refine lv_iadd hx hb dL_law_251 ?_
  refine lv_topi (fun z_7 ez_7 => ?_)
  obtain rfl : z_7 = 1 := ez_7.trans (by decide)
  refine va_sld hx hb hX hbl hbA hS (vin rfl) dL_law_252 ?_
  refine W.eq (g2 := F0 m 253 ls [.int (xs 1), .ref mo, .int r_6]) rfl ?_
  refine lv_aload_n hx hb dL_law_253 rfl (lv_at hl 0 rfl) ?_
  refine lv_iload hx hb dL_law_254 (lv_at hl 4 rfl) ?_
  refine lv_iconst (v := 2) hx hb dL_law_256 (by decide) ?_
  refine lv_iadd hx hb dL_law_257 ?_
  refine lv_topi (fun z_8 ez_8 => ?_)
  obtain rfl : z_8 = 2 := ez_8.trans (by decide)
  refine va_sld hx hb hX hbl hbA hS (vin rfl) dL_law_258 ?_
  refine W.eq (g2 := F0 m 259 ls [.int (xs 2), .int (xs 1), .ref mo, .int r_6]) rfl ?_
  refine lv_aload_n hx hb dL_law_259 rfl (lv_at hl 0 rfl) ?_
  refine lv_iload hx hb dL_law_260 (lv_at hl 4 rfl) ?_
  refine lv_iconst (v := 3) hx hb dL_law_262 (by decide) ?_
  refine lv_iadd hx hb dL_law_263 ?_
  refine lv_topi (fun z_9 ez_9 => ?_)
  obtain rfl : z_9 = 3 := ez_9.trans (by decide)
  refine va_sld hx hb hX hbl hbA hS (vin rfl) dL_law_264 ?_
  refine W.eq (g2 := F0 m 265 ls [.int (xs 3), .int (xs 2), .int (xs 1), .ref mo, .int r_6]) rfl ?_
  refine lv_aload_n hx hb dL_law_265 rfl (lv_at hl 0 rfl) ?_
  refine lv_iload hx hb dL_law_266 (lv_at hl 4 rfl) ?_
  refine lv_iconst (v := 4) hx hb dL_law_268 (by decide) ?_
  refine lv_iadd hx hb dL_law_269 ?_
  refine lv_topi (fun z_10 ez_10 => ?_)
  obtain rfl : z_10 = 4 := ez_10.trans (by decide)
  refine va_sld hx hb hX hbl hbA hS (vin rfl) dL_law_270 ?_
  refine W.eq (g2 := F0 m 271 ls [.int (xs 4), .int (xs 3), .int (xs 2), .int (xs 1), .ref mo, .int r_6]) rfl ?_
  refine lv_aload_n hx hb dL_law_271 rfl (lv_at hl 0 rfl) ?_
  refine lv_iload hx hb dL_law_272 (lv_at hl 4 rfl) ?_
  refine lv_iconst (v := 5) hx hb dL_law_274 (by decide) ?_
  refine lv_iadd hx hb dL_law_275 ?_
  refine lv_topi (fun z_11 ez_11 => ?_)
  obtain rfl : z_11 = 5 := ez_11.trans (by decide)
  refine va_sld hx hb hX hbl hbA hS (vin rfl) dL_law_276 ?_
  refine W.eq (g2 := F0 m 277 ls [.int (xs 5), .int (xs 4), .int (xs 3), .int (xs 2), .int (xs 1), .ref mo, .int r_6]) rfl ?_
  have hPc := hP.sub (ws' := [(mo, .inr (9, [.int 0, .ref m_tape, .int 0, .int 0, .int 0, .int 0, .int 0, .int 0, .long 0, .int 0, .int 0, .int 0, .int 0, .ref m_readPlace, .ref m_script, .ref m_scriptLong, .int 0, .ref m_now, .ref m_refused, .int 0, .ref m_shareX, .ref m_shareY, .int 0, .int 0, .ref m_askedRow, .int 0, .ref m_kept, .int 0, .long 0, .ref m_aside, .int 0, .int 0, .ref m_spelled, .int 0, .ref m_image, .int 0])), (m_tape, .inl (E.2.1, 320, .inl (fun _ => 0)))]) [7, 8] rfl
  have hDc := hD.sub (ws' := [(mo, .inr (9, [.int 0, .ref m_tape, .int 0, .int 0, .int 0, .int 0, .int 0, .int 0, .long 0, .int 0, .int 0, .int 0, .int 0, .ref m_readPlace, .ref m_script, .ref m_scriptLong, .int 0, .ref m_now, .ref m_refused, .int 0, .ref m_shareX, .ref m_shareY, .int 0, .int 0, .ref m_askedRow, .int 0, .ref m_kept, .int 0, .long 0, .ref m_aside, .int 0, .int 0, .ref m_spelled, .int 0, .ref m_image, .int 0])), (m_tape, .inl (E.2.1, 320, .inl (fun _ => 0)))]) [7, 8] (by decide) rfl
  have hFc := va_free (wc := [(mo, .inr (9, [.int 0, .ref m_tape, .int 0, .int 0, .int 0, .int 0, .int 0, .int 0, .long 0, .int 0, .int 0, .int 0, .int 0, .ref m_readPlace, .ref m_script, .ref m_scriptLong, .int 0, .ref m_now, .ref m_refused, .int 0, .ref m_shareX, .ref m_shareY, .int 0, .int 0, .ref m_askedRow, .int 0, .ref m_kept, .int 0, .long 0, .ref m_aside, .int 0, .int 0, .ref m_spelled, .int 0, .ref m_image, .int 0])), (m_tape, .inl (E.2.1, 320, .inl (fun _ => 0)))]) hD hS hA [7, 8] rfl
  refine va_calli (va_runV (As := [.int (xs 1), .int (xs 2), .int (xs 3), .int (xs 4), .int (xs 5)]) (rest := [.int r_6]) ⟨hx, hb, hml, hown, hts⟩ (d_feed l E H.size mo m_tape m_readPlace m_script m_scriptLong m_now m_refused m_shareX m_shareY m_askedRow m_kept m_aside m_spelled m_image (xs 1) (xs 2) (xs 3) (xs 4) (xs 5)) (cwV 5 hts gl_d_feed_23 rfl rfl rfl (by decide +kernel) ⟨Nat.le_of_ble_eq_true rfl, Nat.le_of_ble_eq_true rfl⟩) ⟨pW.blind, va_recv hK hPc (ci := 9) (q0 := 0) rfl rfl, (pW.pre ⟨hK, hN⟩ hPc hDc)⟩ rfl rfl hl.1 rfl (lv_room (Nat.le_of_ble_eq_true rfl)) dL_law_277 ⟨Nat.le_of_ble_eq_true rfl, Nat.le_of_ble_eq_true rfl⟩) hS (fun q _ h => hFc q h) hFc (fun r_12 u tt H1 locs ht hvm hw hB hz1 hk1 hS => ?_)
  obtain ⟨hP1, hD1⟩ := hB
  rw [ht] at hP1
  obtain ⟨hP, hD⟩ := va_join (wr := [(rd, .inr (4, [.ref t, .ref r1, .ref r2, .ref r3, .int 0, .int 0, .int 0, .int 0, .int 0, .int 0, .int (-1)])), (r1, .inl (E.2.1, 3, .inl (fun _ => 0))), (sc, .inr (5, [.ref s1, .ref s2, .int 0])), (n, .inr (6, [.ref n1, .ref n2, .int 0, .int 0, .ref n3, .ref n4])), (n1, .inl (E.2.1, 81, .inl (fun _ => 0))), (hi, .inr (3, [.ref v1, .int 0, .int 0])), (rf, .inl (E.2.1, 3, .inl (fun _ => 0))), (m_scriptLong, .inl (E.2.1, 5, .inl (fun _ => 0))), (m_now, .inl (E.2.1, 265, .inl (fun _ => 0))), (m_refused, .inl (E.2.1, 3, .inl (fun _ => 0))), (o, .inl (E.2.2.2, 1, .inr (.inl (fun _ => 0))))]) (w1 := []) hP hD [7, 8] [0, 1, 2, 3, 4, 5, 6, 9, 10, 11, 12] rfl rfl (by decide) (by decide) hk1 hFc hP1 hD1
  generalize H1 = H at hP hS ⊢
  have hP : va_P E.1 vwCl [(rd, .inr (4, [.ref t, .ref r1, .ref r2, .ref r3, .int 0, .int 0, .int 0, .int 0, .int 0, .int 0, .int (-1)])), (r1, .inl (E.2.1, 3, .inl (fun _ => 0))), (sc, .inr (5, [.ref s1, .ref s2, .int 0])), (n, .inr (6, [.ref n1, .ref n2, .int 0, .int 0, .ref n3, .ref n4])), (n1, .inl (E.2.1, 81, .inl (fun _ => 0))), (hi, .inr (3, [.ref v1, .int 0, .int 0])), (rf, .inl (E.2.1, 3, .inl (fun _ => 0))), (m_scriptLong, .inl (E.2.1, 5, .inl (fun _ => 0))), (m_now, .inl (E.2.1, 265, .inl (fun _ => 0))), (m_refused, .inl (E.2.1, 3, .inl (fun _ => 0))), (o, .inl (E.2.2.2, 1, .inr (.inl (fun _ => 0))))] H := hP
  have hD : va_D A [(rd, .inr (4, [.ref t, .ref r1, .ref r2, .ref r3, .int 0, .int 0, .int 0, .int 0, .int 0, .int 0, .int (-1)])), (r1, .inl (E.2.1, 3, .inl (fun _ => 0))), (sc, .inr (5, [.ref s1, .ref s2, .int 0])), (n, .inr (6, [.ref n1, .ref n2, .int 0, .int 0, .ref n3, .ref n4])), (n1, .inl (E.2.1, 81, .inl (fun _ => 0))), (hi, .inr (3, [.ref v1, .int 0, .int 0])), (rf, .inl (E.2.1, 3, .inl (fun _ => 0))), (m_scriptLong, .inl (E.2.1, 5, .inl (fun _ => 0))), (m_now, .inl (E.2.1, 265, .inl (fun _ => 0))), (m_refused, .inl (E.2.1, 3, .inl (fun _ => 0))), (o, .inl (E.2.2.2, 1, .inr (.inl (fun _ => 0))))] := hD
  have hr_12 := hw
  refine lv_icmp_eq (tgt := 1665) hx hb dL_law_280 (by decide) (fun _ => ?_) (fun q => absurd (hr_6.trans hr_12.symm) q)
  exact law_end hflags C0 hAe hS (lv_sub hl [0, 4] rfl)

set_option maxHeartbeats 4000000 in
set_option maxRecDepth 100000 in
/-- the law behind a case: the next round does not come, it answers true -/
theorem law_end5 {p : Program} {l : Launch} {e : Env} {s : State} {m : MethodId} {below : List Frame} {meth : Method} {c : Code} (hflags : l.flags = flags0) {b : Nat} {xs : Nat → Int32} (C0 : lw_At p s m meth c b 6 xs) {A : Nat → Prop} (hAe : (fun q : Nat => s.heap.size ≤ q) = A) {H : Heap} {locs : List Loc} (hS : va_S A s.heap H locs) {ls : Array Slot} (hl : lv_has ls 7 [(0, .ref b), (4, .int 0)]) : W p l e room_1 s m #[Value.ref b] below meth c H locs 2000 200000 (lw_Z below #[Value.ref b] s) (F0 m 1665 ls []) := by
  obtain ⟨hx, hb, hr, hml, hown, hts, hX, hbl, hlocks, hgv⟩ := id C0
  have hown : s.vm.findClass RL = some m.cls := hown
  have hA : ∀ q : Nat, s.heap.size ≤ q → A q := fun q h => by rw [← hAe]; exact h
  have hbA : ¬ A b := by rw [← hAe]; exact Nat.not_le.mpr hbl
  refine lv_iinc (v := 6) (lv' := [(4, .int 6), (0, .ref b)]) hx hb dL_law_1665 hl (k := 1) rfl (by decide) (by decide) rfl (fun ls hl => ?_)
  refine lv_goto (tgt := 23) hx hb dL_law_1668 (by decide) ?_
  refine lv_iload hx hb dL_law_23 (lv_at hl 0 rfl) ?_
  refine lv_aload_n hx hb dL_law_25 rfl (lv_at hl 1 rfl) ?_
  refine va_slen hx hb hX hbl hbA hS dL_law_26 ?_
  refine W.eq (g2 := F0 m 27 ls [.int 6, .int 6]) rfl ?_
  refine lv_bipush (v := 6) hx hb dL_law_27 (by decide) ?_
  refine lv_isub hx hb dL_law_29 ?_
  refine lv_topi (fun z ez => ?_)
  obtain rfl : z = 0 := ez.trans (by decide)
  refine lv_icmp_gt (tgt := 1671) hx hb dL_law_30 (by decide) (fun _ => ?_) (fun q => absurd (by decide) q)
  refine lv_iconst (v := 1) hx hb dL_law_1671 (by decide) ?_
  refine va_forget (fun q hq => by have h9 := hS.2.2 q hq; rw [← hAe] at h9; exact h9) ?_
  refine W.widen (k := 600002) (n := 7302232) (Nat.le_of_ble_eq_true rfl) (Nat.le_of_ble_eq_true rfl) ?_
  exact lw_ret hx hb hr hlocks dL_law_1672
set_option maxHeartbeats 4000000 in
set_option maxRecDepth 100000 in
theorem lc_5 {p : Program} {l : Launch} {e : Env} {s : State} {m : MethodId} {below : List Frame} {meth : Method} {c : Code} (hflags : l.flags = flags0) {b : Nat} {xs : Nat → Int32} (C0 : lw_At p s m meth c b 6 xs) {E : EE} (hK : va_K E.1 vwCl (TY E) s) (hN : NX s) {A : Nat → Prop} (hAe : (fun q : Nat => s.heap.size ≤ q) = A) (hZ : ZM A s s.heap) {x t rd sc n tr kp bk kb hi dr rf b1 r1 r2 r3 s1 s2 n1 n2 n3 n4 v1 mo m_tape m_readPlace m_script m_scriptLong m_now m_refused m_shareX m_shareY m_askedRow m_kept m_aside m_spelled m_image o : Nat} {H : Heap} {locs : List Loc} (hP : va_P E.1 vwCl [(x, .inr (8, [.ref t, .ref rd, .ref sc, .ref n, .ref tr, .ref kp, .ref bk, .ref kb, .ref hi, .ref dr, .ref rf, .int 0])), (t, .inr (7, [.ref b1, .int 0])), (b1, .inl (E.2.2.1, 320, .inl (fun _ => 0))), (rd, .inr (4, [.ref t, .ref r1, .ref r2, .ref r3, .int 0, .int 0, .int 0, .int 0, .int 0, .int 0, .int (-1)])), (r1, .inl (E.2.1, 3, .inl (fun _ => 0))), (sc, .inr (5, [.ref s1, .ref s2, .int 0])), (n, .inr (6, [.ref n1, .ref n2, .int 0, .int 0, .ref n3, .ref n4])), (n1, .inl (E.2.1, 81, .inl (fun _ => 0))), (hi, .inr (3, [.ref v1, .int 0, .int 0])), (rf, .inl (E.2.1, 3, .inl (fun _ => 0))), (mo, .inr (9, [.int 0, .ref m_tape, .int 0, .int 0, .int 0, .int 0, .int 0, .int 0, .long 0, .int 0, .int 0, .int 0, .int 0, .ref m_readPlace, .ref m_script, .ref m_scriptLong, .int 0, .ref m_now, .ref m_refused, .int 0, .ref m_shareX, .ref m_shareY, .int 0, .int 0, .ref m_askedRow, .int 0, .ref m_kept, .int 0, .long 0, .ref m_aside, .int 0, .int 0, .ref m_spelled, .int 0, .ref m_image, .int 0])), (m_tape, .inl (E.2.1, 320, .inl (fun _ => 0))), (m_scriptLong, .inl (E.2.1, 5, .inl (fun _ => 0))), (m_now, .inl (E.2.1, 265, .inl (fun _ => 0))), (m_refused, .inl (E.2.1, 3, .inl (fun _ => 0))), (o, .inl (E.2.2.2, 1, .inr (.inl (fun _ => 0))))] H) (hD : va_D A [(x, .inr (8, [.ref t, .ref rd, .ref sc, .ref n, .ref tr, .ref kp, .ref bk, .ref kb, .ref hi, .ref dr, .ref rf, .int 0])), (t, .inr (7, [.ref b1, .int 0])), (b1, .inl (E.2.2.1, 320, .inl (fun _ => 0))), (rd, .inr (4, [.ref t, .ref r1, .ref r2, .ref r3, .int 0, .int 0, .int 0, .int 0, .int 0, .int 0, .int (-1)])), (r1, .inl (E.2.1, 3, .inl (fun _ => 0))), (sc, .inr (5, [.ref s1, .ref s2, .int 0])), (n, .inr (6, [.ref n1, .ref n2, .int 0, .int 0, .ref n3, .ref n4])), (n1, .inl (E.2.1, 81, .inl (fun _ => 0))), (hi, .inr (3, [.ref v1, .int 0, .int 0])), (rf, .inl (E.2.1, 3, .inl (fun _ => 0))), (mo, .inr (9, [.int 0, .ref m_tape, .int 0, .int 0, .int 0, .int 0, .int 0, .int 0, .long 0, .int 0, .int 0, .int 0, .int 0, .ref m_readPlace, .ref m_script, .ref m_scriptLong, .int 0, .ref m_now, .ref m_refused, .int 0, .ref m_shareX, .ref m_shareY, .int 0, .int 0, .ref m_askedRow, .int 0, .ref m_kept, .int 0, .long 0, .ref m_aside, .int 0, .int 0, .ref m_spelled, .int 0, .ref m_image, .int 0])), (m_tape, .inl (E.2.1, 320, .inl (fun _ => 0))), (m_scriptLong, .inl (E.2.1, 5, .inl (fun _ => 0))), (m_now, .inl (E.2.1, 265, .inl (fun _ => 0))), (m_refused, .inl (E.2.1, 3, .inl (fun _ => 0))), (o, .inl (E.2.2.2, 1, .inr (.inl (fun _ => 0))))]) (hS : va_S A s.heap H locs) {ls : Array Slot} (hl : lv_has ls 7 [(0, .ref b), (1, .ref x), (2, .ref mo), (3, .ref o), (4, .int 0)]) : W p l e room_1 s m #[Value.ref b] below meth c H locs 1000 100000 (lw_Z below #[Value.ref b] s) (F0 m 385 ls []) := by
  obtain ⟨hx, hb, hr, hml, hown, hts, hX, hbl, hlocks, hgv⟩ := id C0
  have hown : s.vm.findClass RL = some m.cls := hown
  have hA : ∀ q : Nat, s.heap.size ≤ q → A q := fun q h => by rw [← hAe]; exact h
  have hbA : ¬ A b := by rw [← hAe]; exact Nat.not_le.mpr hbl
  have hold : ∀ a : Nat, a < s.heap.size → ¬ A a := fun a h => by rw [← hAe]; exact Nat.not_le.mpr h
  have hgs := flat_of_before _ hgv
  have hfl : l.stackTraces = false := by rw [Launch.stackTraces, hflags]; decide
  have hB9 : ∀ w ∈ nsB, va_Nw w s := fun w hw => nsB_of (nsB_ok w hw) (hts w (nsB_in w hw))
  have hU9 : vx_Zq Bundle.tN "UNASSIGNED_STACK" Bundle.steD A s s.heap := vx_Zqof (hts (.laysStatic "java/lang/Throwable" "UNASSIGNED_STACK" "[Ljava/lang/StackTraceElement;") (List.mem_of_getElem? (i := 1208) (by decide +kernel))) (hts (.initialized "java/lang/Throwable") (List.mem_of_getElem? (i := 126) (by decide +kernel))) (hgs (Cond.isRef (.static "java/lang/Throwable" "UNASSIGNED_STACK" "[Ljava/lang/StackTraceElement;")) (by decide +kernel)) hold
  have hN9 : vx_Zq Bundle.tN "SUPPRESSED_SENTINEL" Bundle.listD A s s.heap := vx_Zqof (hts (.laysStatic "java/lang/Throwable" "SUPPRESSED_SENTINEL" "Ljava/util/List;") (List.mem_of_getElem? (i := 1210) (by decide +kernel))) (hts (.initialized "java/lang/Throwable") (List.mem_of_getElem? (i := 126) (by decide +kernel))) (hgs (Cond.isRef (.static "java/lang/Throwable" "SUPPRESSED_SENTINEL" "Ljava/util/List;")) (by decide +kernel)) hold
  obtain ⟨sa, c9, cA9, kA9, hsa, -⟩ := Cond.exactly_spec (args := #[Value.ref b]) (first := s) (o := none) (s := s) (idx := []) (t := .string "HushWatch" 125) (cls := "java/lang/String") (hgs (Cond.exactly (.string "HushWatch" 125) "java/lang/String") (by decide +kernel))
  have hstr : vk_R RX7 125 nsT sa s := vk_R.of (hts (.stringRef "HushWatch" 125 "no such site, or nothing such to tell of it") (List.mem_of_getElem? (i := 1220) (by decide +kernel))) hsa
  refine lv_aload_n hx hb dL_law_385 rfl (lv_at hl 1 rfl) ?_
  refine lv_aload_n hx hb dL_law_386 rfl (lv_at hl 0 rfl) ?_
  refine lv_iload hx hb dL_law_387 (lv_at hl 4 rfl) ?_
  refine lv_iconst (v := 1) hx hb dL_law_389 (by decide) ?_
  refine lv_iadd hx hb dL_law_390 ?_
  refine lv_topi (fun z_1 ez_1 => ?_)
  obtain rfl : z_1 = 1 := ez_1.trans (by decide)
  refine va_sld hx hb hX hbl hbA hS (vin rfl) dL_law_391 ?_
  refine W.eq (g2 := F0 m 392 ls [.int (xs 1), .ref x]) rfl ?_
  refine lv_aload_n hx hb dL_law_392 rfl (lv_at hl 0 rfl) ?_
  refine lv_iload hx hb dL_law_393 (lv_at hl 4 rfl) ?_
  refine lv_iconst (v := 2) hx hb dL_law_395 (by decide) ?_
  refine lv_iadd hx hb dL_law_396 ?_
  refine lv_topi (fun z_2 ez_2 => ?_)
  obtain rfl : z_2 = 2 := ez_2.trans (by decide)
  refine va_sld hx hb hX hbl hbA hS (vin rfl) dL_law_397 ?_
  refine W.eq (g2 := F0 m 398 ls [.int (xs 2), .int (xs 1), .ref x]) rfl ?_
  refine lv_aload_n hx hb dL_law_398 rfl (lv_at hl 3 rfl) ?_
  have hPc := hP.sub (ws' := [(x, .inr (8, [.ref t, .ref rd, .ref sc, .ref n, .ref tr, .ref kp, .ref bk, .ref kb, .ref hi, .ref dr, .ref rf, .int 0])), (n, .inr (6, [.ref n1, .ref n2, .int 0, .int 0, .ref n3, .ref n4])), (n1, .inl (E.2.1, 81, .inl (fun _ => 0)))]) [0, 6, 7] rfl
  refine va_calli (vx_runSW (As := [.ref x, .int (xs 1), .int (xs 2), .ref o]) (rest := []) ⟨hx, hb, hml, hown, hts⟩ (m_site l hfl E x t rd sc n tr kp bk kb hi dr rf n1 n2 n3 n4 o sa (xs 1) (xs 2)) (vx_cwSW 4 hts gl_m_site rfl rfl rfl (by decide +kernel) ⟨Nat.le_of_ble_eq_true rfl, Nat.le_of_ble_eq_true rfl⟩) ⟨pS.blind, pS.pre ⟨hK, hN⟩ hPc hstr hS hU9 hN9 hB9⟩ rfl rfl hl.1 rfl (lv_room (Nat.le_of_ble_eq_true rfl)) dL_law_399 ⟨Nat.le_of_ble_eq_true rfl, Nat.le_of_ble_eq_true rfl⟩) hS (fun _ _ h => h.elim) (fun _ h => h.elim) (fun r_1 u tt H1 locs ht hvm hw hB hz1 hk1 hS => ?_)
  obtain rfl : r_1 = 1 := hw
  have hP := hP.kept (H1 := H1) (fun k q hq => hk1 q.1 ((hP k q hq).lt) id)
  generalize H1 = H at hP hS ⊢
  refine W.widen (k := 2000) (n := 200000) (Nat.le_of_ble_eq_true rfl) (Nat.le_of_ble_eq_true rfl) ?_
  refine lv_istore (lv' := [(5, .int 1), (0, .ref b), (1, .ref x), (2, .ref mo), (3, .ref o), (4, .int 0)]) hx hb dL_law_402 hl (by decide) rfl (fun ls hl => ?_)
  refine lv_aload_n hx hb dL_law_404 rfl (lv_at hl 3 rfl) ?_
  refine lv_aload_n hx hb dL_law_405 rfl (lv_at hl 1 rfl) ?_
  refine lv_iload hx hb dL_law_406 (lv_at hl 5 rfl) ?_
  refine lv_iconst (v := 1) hx hb dL_law_408 (by decide) ?_
  refine lv_iadd hx hb dL_law_409 ?_
  refine lv_topi (fun z_3 ez_3 => ?_)
  obtain rfl : z_3 = 1 := ez_3.trans (by decide)
  refine va_sld hx hb hX hbl hbA hS (vin rfl) dL_law_410 ?_
  refine W.eq (g2 := F0 m 411 ls [.int (xs 1), .ref mo]) rfl ?_
  refine lv_aload_n hx hb dL_law_411 rfl (lv_at hl 1 rfl) ?_
  refine lv_iload hx hb dL_law_412 (lv_at hl 5 rfl) ?_
  refine lv_iconst (v := 2) hx hb dL_law_414 (by decide) ?_
  refine lv_iadd hx hb dL_law_415 ?_
  refine lv_topi (fun z_4 ez_4 => ?_)
  obtain rfl : z_4 = 2 := ez_4.trans (by decide)
  refine va_sld hx hb hX hbl hbA hS (vin rfl) dL_law_416 ?_
  refine W.eq (g2 := F0 m 417 ls [.int (xs 2), .int (xs 1), .ref mo]) rfl ?_
  have hPc := hP.sub (ws' := [(mo, .inr (9, [.int 0, .ref m_tape, .int 0, .int 0, .int 0, .int 0, .int 0, .int 0, .long 0, .int 0, .int 0, .int 0, .int 0, .ref m_readPlace, .ref m_script, .ref m_scriptLong, .int 0, .ref m_now, .ref m_refused, .int 0, .ref m_shareX, .ref m_shareY, .int 0, .int 0, .ref m_askedRow, .int 0, .ref m_kept, .int 0, .long 0, .ref m_aside, .int 0, .int 0, .ref m_spelled, .int 0, .ref m_image, .int 0]))]) [10] rfl
  have hDc := hD.sub (ws' := [(mo, .inr (9, [.int 0, .ref m_tape, .int 0, .int 0, .int 0, .int 0, .int 0, .int 0, .long 0, .int 0, .int 0, .int 0, .int 0, .ref m_readPlace, .ref m_script, .ref m_scriptLong, .int 0, .ref m_now, .ref m_refused, .int 0, .ref m_shareX, .ref m_shareY, .int 0, .int 0, .ref m_askedRow, .int 0, .ref m_kept, .int 0, .long 0, .ref m_aside, .int 0, .int 0, .ref m_spelled, .int 0, .ref m_image, .int 0]))]) [10] (by decide) rfl
  have hFc := va_free (wc := [(mo, .inr (9, [.int 0, .ref m_tape, .int 0, .int 0, .int 0, .int 0, .int 0, .int 0, .long 0, .int 0, .int 0, .int 0, .int 0, .ref m_readPlace, .ref m_script, .ref m_scriptLong, .int 0, .ref m_now, .ref m_refused, .int 0, .ref m_shareX, .ref m_shareY, .int 0, .int 0, .ref m_askedRow, .int 0, .ref m_kept, .int 0, .long 0, .ref m_aside, .int 0, .int 0, .ref m_spelled, .int 0, .ref m_image, .int 0]))]) hD hS hA [10] rfl
  refine va_calli (va_runV (As := [.int (xs 1), .int (xs 2)]) (rest := []) ⟨hx, hb, hml, hown, hts⟩ (d_site l E H.size mo m_tape m_readPlace m_script m_scriptLong m_now m_refused m_shareX m_shareY m_askedRow m_kept m_aside m_spelled m_image (xs 1) (xs 2)) (cwV 2 hts gl_d_site_47 rfl rfl rfl (by decide +kernel) ⟨Nat.le_of_ble_eq_true rfl, Nat.le_of_ble_eq_true rfl⟩) ⟨pW.blind, va_recv hK hPc (ci := 9) (q0 := 0) rfl rfl, (pW.pre ⟨hK, hN⟩ hPc hDc)⟩ rfl rfl hl.1 rfl (lv_room (Nat.le_of_ble_eq_true rfl)) dL_law_417 ⟨Nat.le_of_ble_eq_true rfl, Nat.le_of_ble_eq_true rfl⟩) hS (fun q _ h => hFc q h) hFc (fun r_5 u tt H1 locs ht hvm hw hB hz1 hk1 hS => ?_)
  obtain ⟨hP1, hD1⟩ := hB
  rw [ht] at hP1
  obtain ⟨hP, hD⟩ := va_join (wr := [(x, .inr (8, [.ref t, .ref rd, .ref sc, .ref n, .ref tr, .ref kp, .ref bk, .ref kb, .ref hi, .ref dr, .ref rf, .int 0])), (t, .inr (7, [.ref b1, .int 0])), (b1, .inl (E.2.2.1, 320, .inl (fun _ => 0))), (rd, .inr (4, [.ref t, .ref r1, .ref r2, .ref r3, .int 0, .int 0, .int 0, .int 0, .int 0, .int 0, .int (-1)])), (r1, .inl (E.2.1, 3, .inl (fun _ => 0))), (sc, .inr (5, [.ref s1, .ref s2, .int 0])), (n, .inr (6, [.ref n1, .ref n2, .int 0, .int 0, .ref n3, .ref n4])), (n1, .inl (E.2.1, 81, .inl (fun _ => 0))), (hi, .inr (3, [.ref v1, .int 0, .int 0])), (rf, .inl (E.2.1, 3, .inl (fun _ => 0))), (m_tape, .inl (E.2.1, 320, .inl (fun _ => 0))), (m_scriptLong, .inl (E.2.1, 5, .inl (fun _ => 0))), (m_now, .inl (E.2.1, 265, .inl (fun _ => 0))), (m_refused, .inl (E.2.1, 3, .inl (fun _ => 0))), (o, .inl (E.2.2.2, 1, .inr (.inl (fun _ => 0))))]) (w1 := [(mo, .inr (9, [.int 1, .ref m_tape, .int 0, .int 0, .int 0, .int 0, .int 0, .int 0, .long 0, .int 0, .int 0, .int 0, .int 0, .ref m_readPlace, .ref m_script, .ref m_scriptLong, .int 0, .ref m_now, .ref m_refused, .int 0, .ref m_shareX, .ref m_shareY, .int 0, .int 0, .ref m_askedRow, .int 0, .ref m_kept, .int 0, .long 0, .ref m_aside, .int 0, .int 0, .ref m_spelled, .int 0, .ref m_image, .int 0]))]) hP hD [10] [0, 1, 2, 3, 4, 5, 6, 7, 8, 9, 11, 12, 13, 14, 15] rfl rfl (by decide) (by decide) hk1 hFc hP1 hD1
  generalize H1 = H at hP hS ⊢
  have hP : va_P E.1 vwCl [(x, .inr (8, [.ref t, .ref rd, .ref sc, .ref n, .ref tr, .ref kp, .ref bk, .ref kb, .ref hi, .ref dr, .ref rf, .int 0])), (t, .inr (7, [.ref b1, .int 0])), (b1, .inl (E.2.2.1, 320, .inl (fun _ => 0))), (rd, .inr (4, [.ref t, .ref r1, .ref r2, .ref r3, .int 0, .int 0, .int 0, .int 0, .int 0, .int 0, .int (-1)])), (r1, .inl (E.2.1, 3, .inl (fun _ => 0))), (sc, .inr (5, [.ref s1, .ref s2, .int 0])), (n, .inr (6, [.ref n1, .ref n2, .int 0, .int 0, .ref n3, .ref n4])), (n1, .inl (E.2.1, 81, .inl (fun _ => 0))), (hi, .inr (3, [.ref v1, .int 0, .int 0])), (rf, .inl (E.2.1, 3, .inl (fun _ => 0))), (m_tape, .inl (E.2.1, 320, .inl (fun _ => 0))), (m_scriptLong, .inl (E.2.1, 5, .inl (fun _ => 0))), (m_now, .inl (E.2.1, 265, .inl (fun _ => 0))), (m_refused, .inl (E.2.1, 3, .inl (fun _ => 0))), (o, .inl (E.2.2.2, 1, .inr (.inl (fun _ => 0)))), (mo, .inr (9, [.int 1, .ref m_tape, .int 0, .int 0, .int 0, .int 0, .int 0, .int 0, .long 0, .int 0, .int 0, .int 0, .int 0, .ref m_readPlace, .ref m_script, .ref m_scriptLong, .int 0, .ref m_now, .ref m_refused, .int 0, .ref m_shareX, .ref m_shareY, .int 0, .int 0, .ref m_askedRow, .int 0, .ref m_kept, .int 0, .long 0, .ref m_aside, .int 0, .int 0, .ref m_spelled, .int 0, .ref m_image, .int 0]))] H := hP
  have hD : va_D A [(x, .inr (8, [.ref t, .ref rd, .ref sc, .ref n, .ref tr, .ref kp, .ref bk, .ref kb, .ref hi, .ref dr, .ref rf, .int 0])), (t, .inr (7, [.ref b1, .int 0])), (b1, .inl (E.2.2.1, 320, .inl (fun _ => 0))), (rd, .inr (4, [.ref t, .ref r1, .ref r2, .ref r3, .int 0, .int 0, .int 0, .int 0, .int 0, .int 0, .int (-1)])), (r1, .inl (E.2.1, 3, .inl (fun _ => 0))), (sc, .inr (5, [.ref s1, .ref s2, .int 0])), (n, .inr (6, [.ref n1, .ref n2, .int 0, .int 0, .ref n3, .ref n4])), (n1, .inl (E.2.1, 81, .inl (fun _ => 0))), (hi, .inr (3, [.ref v1, .int 0, .int 0])), (rf, .inl (E.2.1, 3, .inl (fun _ => 0))), (m_tape, .inl (E.2.1, 320, .inl (fun _ => 0))), (m_scriptLong, .inl (E.2.1, 5, .inl (fun _ => 0))), (m_now, .inl (E.2.1, 265, .inl (fun _ => 0))), (m_refused, .inl (E.2.1, 3, .inl (fun _ => 0))), (o, .inl (E.2.2.2, 1, .inr (.inl (fun _ => 0)))), (mo, .inr (9, [.int 1, .ref m_tape, .int 0, .int 0, .int 0, .int 0, .int 0, .int 0, .long 0, .int 0, .int 0, .int 0, .int 0, .ref m_readPlace, .ref m_script, .ref m_scriptLong, .int 0, .ref m_now, .ref m_refused, .int 0, .ref m_shareX, .ref m_shareY, .int 0, .int 0, .ref m_askedRow, .int 0, .ref m_kept, .int 0, .long 0, .ref m_aside, .int 0, .int 0, .ref m_spelled, .int 0, .ref m_image, .int 0]))] := hD
  have hr_5 := hw
  obtain rfl : r_5 = 0 := hr_5
  refine lv_istore (lv' := [(6, .int 0), (5, .int 1), (0, .ref b), (1, .ref x), (2, .ref mo), (3, .ref o), (4, .int 0)]) hx hb dL_law_420 hl (by decide) rfl (fun ls hl => ?_)
  refine lv_aload_n hx hb dL_law_422 rfl (lv_at hl 4 rfl) ?_
  have hPc := hP.sub (ws' := [(mo, .inr (9, [.int 1, .ref m_tape, .int 0, .int 0, .int 0, .int 0, .int 0, .int 0, .long 0, .int 0, .int 0, .int 0, .int 0, .ref m_readPlace, .ref m_script, .ref m_scriptLong, .int 0, .ref m_now, .ref m_refused, .int 0, .ref m_shareX, .ref m_shareY, .int 0, .int 0, .ref m_askedRow, .int 0, .ref m_kept, .int 0, .long 0, .ref m_aside, .int 0, .int 0, .ref m_spelled, .int 0, .ref m_image, .int 0]))]) [15] rfl
  refine pc_i (va_runV (As := []) (rest := []) ⟨hx, hb, hml, hown, hts⟩ (d_thrown l E mo m_tape m_readPlace m_script m_scriptLong m_now m_refused m_shareX m_shareY m_askedRow m_kept m_aside m_spelled m_image) (cwV 0 hts gl_d_thrown_48 rfl rfl rfl (by decide +kernel) ⟨Nat.le_of_ble_eq_true rfl, Nat.le_of_ble_eq_true rfl⟩) ⟨pP.blind, va_recv hK hPc (ci := 9) (q0 := 0) rfl rfl, (pP.pre ⟨hK, hN⟩ hPc)⟩ rfl rfl hl.1 rfl (lv_room (Nat.le_of_ble_eq_true rfl)) dL_law_423 ⟨Nat.le_of_ble_eq_true rfl, Nat.le_of_ble_eq_true rfl⟩) (fun r_6 hr_6 => ?_)
  obtain rfl : r_6 = 1 := hr_6
  refine lv_iload hx hb dL_law_426 (lv_at hl 1 rfl) ?_
  refine lv_icmp_eq (tgt := 433) hx hb dL_law_428 (by decide) (fun _ => ?_) (fun q => absurd (by decide) q)
  refine lv_iload hx hb dL_law_433 (lv_at hl 1 rfl) ?_
  refine lv_if_ne (tgt := 450) hx hb dL_law_435 (by decide) (fun _ => ?_) (fun q => absurd q (by decide))
  refine lv_goto (tgt := 1665) hx hb dL_law_450 (by decide) ?_
  exact law_end5 hflags C0 hAe hS (lv_sub hl [2, 6] rfl)
