/-! what is owed, and refuted in part 60 (i_vc_false): it stands here with a sorry for a whole round alone, which wants the name -/
theorem i_vc : Claimed_1_1 ∧ Claimed_1_2 := sorry
