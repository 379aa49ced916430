theorem i_vc : Claimed_1_1 ∧ Claimed_1_2 := i_vc_owed tok_ok pers_ok pure_ok
