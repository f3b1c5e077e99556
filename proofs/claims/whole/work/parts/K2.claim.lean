/-! ===== the claim ===== -/
theorem i_vc : Claimed_1_1 ∧ Claimed_1_2 := vd_claim vd_lawrun vd_P0_multi
