/-! ===== the owed statement ===== -/
theorem i_vc : Claimed_1_1 ∧ Claimed_1_2 := ivc_of (ops_of (fun _ _ _ hI => op_fewest hI) (fun _ _ _ hI => op_cheapest hI))
