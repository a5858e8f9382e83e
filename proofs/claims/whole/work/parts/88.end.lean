theorem i_vc : Claimed_1_1 ∧ Claimed_1_2 := i_vc_of (fun l hfl L xs hL => law_all hfl hL)
