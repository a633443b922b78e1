theorem i_vc : Claimed_1_1 ∧ Claimed_1_2 := i_vc0 zk_all (fun ci h => okCls_ok (zk_c ci h))
