theorem i_vc : Claimed_1_1 ∧ Claimed_1_2 := of_texts (fun _ _ _ _ _ h => ok7 h) (fun _ _ _ _ _ h => ok8 h)
