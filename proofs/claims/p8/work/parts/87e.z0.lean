
/-- all that is read and never written, out of what the Statement gives of the start -/
def strT (i : Nat) : Term := .string (strR.getD i ("", 0, "")).1 (strR.getD i ("", 0, "")).2.1
set_option maxHeartbeats 4000000 in
set_option maxRecDepth 100000 in
theorem zt_l0 : (List.range 7).map (fun j => Cond.eq (.elem (.static "HushWatch" "NUMBERS_OF_STEP" "[I") (.int (Int32.ofNat j))) (.int (nosF j))) = ([12, 13, 14, 15, 16, 17, 18] : List Nat).filterMap (fun i => (flatC (Jvm.Cond.and given_1 narrow_1))[i]?) := by decide +kernel
theorem zt_m0 : ∀ j, j < 7 → Cond.eq (.elem (.static "HushWatch" "NUMBERS_OF_STEP" "[I") (.int (Int32.ofNat j))) (.int (nosF j)) ∈ flatC (Jvm.Cond.and given_1 narrow_1) := fun j hj => sub_r (big := flatC (Jvm.Cond.and given_1 narrow_1)) _ _ zt_l0 _ (List.mem_map.mpr ⟨j, List.mem_range.mpr hj, rfl⟩)
