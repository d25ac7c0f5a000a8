
set_option maxHeartbeats 4000000 in
set_option maxRecDepth 100000 in
theorem zt_l1 : (List.range 7).map (fun j => Cond.eq (.elem (.static "HushWatch" "SORT_OF_STEP" "[I") (.int (Int32.ofNat j))) (.int (sosF j))) = ([228, 229, 230, 231, 232, 233, 234] : List Nat).filterMap (fun i => (flatC (Jvm.Cond.and given_1 narrow_1))[i]?) := by decide +kernel
theorem zt_m1 : ∀ j, j < 7 → Cond.eq (.elem (.static "HushWatch" "SORT_OF_STEP" "[I") (.int (Int32.ofNat j))) (.int (sosF j)) ∈ flatC (Jvm.Cond.and given_1 narrow_1) := fun j hj => sub_r (big := flatC (Jvm.Cond.and given_1 narrow_1)) _ _ zt_l1 _ (List.mem_map.mpr ⟨j, List.mem_range.mpr hj, rfl⟩)
