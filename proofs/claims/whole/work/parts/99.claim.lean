/-! THE CLAIM -/
theorem i_vc : Claimed_1_1 ∧ Claimed_1_2 := i_of q_K_0 (fun _ hL hb => k_all (F := 4001) (by decide) hL hb)
