theorem i_vc : Claimed_1_1 ∧ Claimed_1_2 := ab_claim law_all
