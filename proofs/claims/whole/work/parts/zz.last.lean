/-! The claim. -/
theorem i_vc : Claimed_1_1 ∧ Claimed_1_2 := j_vc (jLaw_all (fun L xs hL => sLaw_all L xs hL))
