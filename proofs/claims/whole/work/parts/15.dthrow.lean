theorem c_refuseArgument {X : e_X} {d gn : Nat} (M : e_M) : e_E X (d + 8) YX10_refuseArgument [.inr (.inr 1)] (557, gn, e_RF, M) (.inr 1, (557, gn + 1, e_RF, e_up M 1 17 (e_w (M 1 17 + 1)))) := by
  show e_G X (d + 8) YX10_refuseArgument 0 [some (.inr (.inr 1))] [] (557, gn, e_RF, M) _
  refine e_r_aload_n (pc' := 1) (by decide) dX10_refuseArgument_0 rfl rfl rfl ?_
  refine e_r_dup (pc' := 2) rfl dX10_refuseArgument_1 rfl ?_
  refine e_r_geti (k := 17) (pc' := 5) cl_10 rfl (Nat.le_of_ble_eq_true rfl) rfl rfl fl_RX10_108 dX10_refuseArgument_2 rfl ?_
  refine e_r_iconst (pc' := 6) dX10_refuseArgument_5 rfl (by decide) ?_
  refine e_r_iadd (pc' := 7) dX10_refuseArgument_6 rfl ?_
  refine e_r_puti (k := 17) (pc' := 10) cl_10 rfl (Nat.le_of_ble_eq_true rfl) rfl rfl fl_RX10_108 rfl (by decide +kernel) dX10_refuseArgument_7 rfl ?_
  exact e_r_throw (z := 1) (j := 0) (names := ["java/lang/RuntimeException", "java/lang/Exception"]) e_str_0 rfl (by decide +kernel) fit_names (by decide) (rx := Bundle.six) (ix := 7) (by decide +kernel) (by decide +kernel) (by decide +kernel) (by decide +kernel) kl_IAE in_IAE at_IAE dX10_refuseArgument_10 dX10_refuseArgument_13 dX10_refuseArgument_14 dX10_refuseArgument_17 dX10_refuseArgument_20 rfl
theorem c_refuseMissing {X : e_X} {d gn : Nat} (M : e_M) : e_E X (d + 8) YX10_refuseMissing [.inr (.inr 1)] (557, gn, e_RF, M) (.inr 0, (557, gn + 1, e_RF, e_up M 1 16 (e_w (M 1 16 + 1)))) := by
  show e_G X (d + 8) YX10_refuseMissing 0 [some (.inr (.inr 1))] [] (557, gn, e_RF, M) _
  refine e_r_aload_n (pc' := 1) (by decide) dX10_refuseMissing_0 rfl rfl rfl ?_
  refine e_r_dup (pc' := 2) rfl dX10_refuseMissing_1 rfl ?_
  refine e_r_geti (k := 16) (pc' := 5) cl_10 rfl (Nat.le_of_ble_eq_true rfl) rfl rfl fl_RX10_105 dX10_refuseMissing_2 rfl ?_
  refine e_r_iconst (pc' := 6) dX10_refuseMissing_5 rfl (by decide) ?_
  refine e_r_iadd (pc' := 7) dX10_refuseMissing_6 rfl ?_
  refine e_r_puti (k := 16) (pc' := 10) cl_10 rfl (Nat.le_of_ble_eq_true rfl) rfl rfl fl_RX10_105 rfl (by decide +kernel) dX10_refuseMissing_7 rfl ?_
  exact e_r_throw (z := 0) (j := 4) (names := ["java/lang/RuntimeException", "java/lang/Exception"]) e_str_4 rfl (by decide +kernel) fit_names (by decide) (rx := prog_29_method_4_code) (ix := 13) (by decide +kernel) (by decide +kernel) (by decide +kernel) (by decide +kernel) kl_NSE in_NSE at_NSE dX10_refuseMissing_10 dX10_refuseMissing_13 dX10_refuseMissing_14 dX10_refuseMissing_17 dX10_refuseMissing_20 rfl
