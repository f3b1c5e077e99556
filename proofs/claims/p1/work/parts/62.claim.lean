/-! ===== the claim ===== -/
theorem vd_lawRun : vd_LawRun := by
  intro L xs hL
  obtain ⟨n, M', r, h1, h2, h3, h4⟩ := vd_law6 L xs hL
  subst h2
  exact ⟨n, M', h1, by omega, by omega⟩
theorem i_vc : Claimed_1_1 ∧ Claimed_1_2 := vd_claim vd_lawRun vd_P0_multi
