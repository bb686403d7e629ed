/-- what was owed of the pure machine -/
theorem xPure_whole : xPure 3072 601024 7293034 := fun L xs hL => law_pure L xs hL
theorem i_vc : Claimed_1_1 ∧ Claimed_1_2 := claim_of xPure_whole
