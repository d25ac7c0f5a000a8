
/-- what holds between two calls, in round j: both rows, all that is kept, the image, the log and what was refused say the same -/
def SbI (j : Nat) (f kf bk kbk hr : Nat → Int32) (hn hh : Int32) (rf : Nat → Int32) (xi : Int32) (sst sco : Nat → Int32) (sh : Int32) (g : Nat → Int32) (si : Int32) (kp : Nat → Int32) (ac : Int32) (im : Nat → Int32) (hi : Int32) (mrf : Nat → Int32) : Prop :=
  ∃ n a d x, si = nI n ∧ hh = nI d ∧ ac = nI d ∧ hn = nI x ∧ ActR n a d x f g bk hr kp ∧ a ≤ 40 * j ∧ ImR n (40 * j) kf im kbk xi hi ∧ (∀ i, i < 3 → rf i = mrf i) ∧ ∃ k, k ≤ 4 ∧ sh = nI k ∧ KdS k sst sco
theorem SbI.up {j : Nat} {f kf bk kbk hr : Nat → Int32} {hn hh : Int32} {rf : Nat → Int32} {xi : Int32} {sst sco : Nat → Int32} {sh : Int32} {g : Nat → Int32} {si : Int32} {kp : Nat → Int32} {ac : Int32} {im : Nat → Int32} {hi : Int32} {mrf : Nat → Int32} (h : SbI j f kf bk kbk hr hn hh rf xi sst sco sh g si kp ac im hi mrf) : SbI (j + 1) f kf bk kbk hr hn hh rf xi sst sco sh g si kp ac im hi mrf := by
  obtain ⟨n, a, d, x, b1, b2, b3, b4, hA, ha, hIm, hrf, hk⟩ := h
  exact ⟨n, a, d, x, b1, b2, b3, b4, hA, by omega, hIm.up (by omega), hrf, hk⟩
theorem sb_start : SbI 0 (fun _ => 0) (fun _ => 0) (fun _ => 0) (fun _ => 0) (fun _ => 0) 0 0 (fun _ => 0) 0 (fun _ => 0) (fun _ => 0) 0 (fun _ => 0) 0 (fun _ => 0) 0 (fun _ => 0) 0 (fun _ => 0) := by
  have K0 : KRow 0 (fun _ => 0) 0 (fun _ => 0) (fun _ => 0) := ⟨⟨⟨by omega, rfl, fun i c hi => absurd hi (Nat.not_lt_zero _), fun _ _ => rfl, rfl⟩, rfl, rfl⟩, ⟨⟨⟨0, by decide, rfl⟩, Or.inl rfl⟩, fun h => absurd h (Nat.lt_irrefl _)⟩, rfl, ⟨rfl, fun e w he => absurd he (Nat.not_lt_zero _)⟩, rfl⟩
  exact ⟨0, 0, 0, 0, rfl, rfl, rfl, rfl, ⟨K0, by omega, by omega, by omega, fun d q => absurd q (Nat.not_lt_zero _)⟩, by omega, Or.inl ⟨rfl, rfl⟩, fun _ _ => rfl, 0, by omega, rfl, fun r hr => absurd hr (Nat.not_lt_zero _)⟩
