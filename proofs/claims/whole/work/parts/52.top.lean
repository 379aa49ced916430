/-- all that is still owed: the Tokens constructor, the law's call of person, and the pure part -/
theorem i_vc_owed (hTok : TokOK) (hPO : PersOK) (hPure : PureOK) : Claimed_1_1 ∧ Claimed_1_2 := i_vc_open (lawGG_open hTok hPO hPure)
