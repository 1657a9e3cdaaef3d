theorem wp_X5_drop_0 {X : e_X} {d gn : Nat} {o : e_O} {a0 b0 n0 : Nat} (ha0 : e_SH a0 = (5, 2)) (ka0 : a0 ≤ 557) (za0 : a0 ≠ 0) (ra0 : e_RF a0 0 = b0) (hb0 : e_SH b0 = (20, n0)) (kb0 : b0 ≤ 557) (zb0 : b0 ≠ 0) (M : e_M) (h : (o = (.inl none, (557, gn, e_RF, (e_up M a0 1 0))))) : e_G X d YX5_drop 0 [some (.inr (.inr a0))] [] (557, gn, e_RF, M) o := by
  refine e_r_aload_n (pc' := 1) za0 dX5_drop_0 rfl rfl rfl ?_
  refine e_r_iconst (pc' := 2) dX5_drop_1 rfl (by decide) ?_
  refine e_r_puti (k := 1) (pc' := 5) cl_5 ha0 ka0 rfl rfl fl_RX5_17 rfl (by decide +kernel) dX5_drop_2 rfl ?_
  exact e_r_vret rfl dX5_drop_5 h
theorem wp_X5_push_0 {X : e_X} {d gn : Nat} {o : e_O} {a0 b0 n0 : Nat} (ha0 : e_SH a0 = (5, 2)) (ka0 : a0 ≤ 557) (za0 : a0 ≠ 0) (ra0 : e_RF a0 0 = b0) (hb0 : e_SH b0 = (20, n0)) (kb0 : b0 ≤ 557) (zb0 : b0 ≠ 0) (M : e_M) (hmo : e_mn (557, gn, e_RF, M) o.2) (h : ((17 ≤ (M a0 1) → (o = (.inl none, (557, gn, e_RF, M)))) ∧ (¬ (17 ≤ (M a0 1)) → (∃ N3 : e_M, e_E X d YX3_saveTo [.inr (.inr 36), .inr (.inr b0), .inl (e_w ((M a0 1) * 45))] (557, gn, e_RF, M) (.inl none, (557, gn, e_RF, N3)) ∧ (o = (.inl none, (557, gn, e_RF, (e_up N3 a0 1 (e_w ((N3 a0 1) + 1)))))))))) : e_G X (d + 1) YX5_push 0 [some (.inr (.inr a0)), some (.inr (.inr 36))] [] (557, gn, e_RF, M) o := by
  refine e_r_aload_n (pc' := 1) za0 dX5_push_0 rfl rfl rfl ?_
  refine e_r_geti (k := 1) (pc' := 4) cl_5 ha0 ka0 rfl rfl fl_RX5_17 dX5_push_1 rfl ?_
  refine e_r_bipush (pc' := 6) dX5_push_4 rfl (by decide) ?_
  obtain ⟨ht1, hf2⟩ := h
  refine e_r_icmp_ge (tgt := 34) (pc' := 9) dX5_push_6 rfl rfl (fun c => ?_) (fun c => ?_)
  · have h := ht1 c
    exact e_r_vret rfl dX5_push_34 h
  · have h := hf2 c
    refine e_r_aload_n (pc' := 10) (by decide) dX5_push_9 rfl rfl rfl ?_
    refine e_r_aload_n (pc' := 11) za0 dX5_push_10 rfl rfl rfl ?_
    refine e_r_getr (k := 0) (q := b0) (pc' := 14) cl_5 ha0 ka0 rfl rfl fl_RX5_13 ra0 kb0 dX5_push_11 rfl ?_
    refine e_r_aload_n (pc' := 15) za0 dX5_push_14 rfl rfl rfl ?_
    refine e_r_geti (k := 1) (pc' := 18) cl_5 ha0 ka0 rfl rfl fl_RX5_17 dX5_push_15 rfl ?_
    refine e_r_bipush (pc' := 20) dX5_push_18 rfl (by decide) ?_
    refine e_r_imul (pc' := 21) dX5_push_20 rfl ?_
    obtain ⟨N3, he4, h⟩ := h
    refine e_r_callV (a := 36) (av := [.inr (.inr b0), .inl (e_w ((M a0 1) * 45))]) (st := []) mqYX3_saveTo ml_RX5_21 cl_3 rfl (Nat.le_of_ble_eq_true rfl) (by simp [e_cat]) rfl rfl rfl dX5_push_21 (pc' := 24) rfl he4 ⟨Nat.le_refl _, Nat.le_refl _⟩ hmo ?_
    refine e_r_aload_n (pc' := 25) za0 dX5_push_24 rfl rfl rfl ?_
    refine e_r_dup (pc' := 26) rfl dX5_push_25 rfl ?_
    refine e_r_geti (k := 1) (pc' := 29) cl_5 ha0 ka0 rfl rfl fl_RX5_17 dX5_push_26 rfl ?_
    refine e_r_iconst (pc' := 30) dX5_push_29 rfl (by decide) ?_
    refine e_r_iadd (pc' := 31) dX5_push_30 rfl ?_
    refine e_r_puti (k := 1) (pc' := 34) cl_5 ha0 ka0 rfl rfl fl_RX5_17 rfl (by decide +kernel) dX5_push_31 rfl ?_
    exact e_r_vret rfl dX5_push_34 h
theorem wp_X5_popInto_0 {X : e_X} {d gn : Nat} {o : e_O} {a0 b0 n0 : Nat} (ha0 : e_SH a0 = (5, 2)) (ka0 : a0 ≤ 557) (za0 : a0 ≠ 0) (ra0 : e_RF a0 0 = b0) (hb0 : e_SH b0 = (20, n0)) (kb0 : b0 ≤ 557) (zb0 : b0 ≠ 0) (M : e_M) (hmo : e_mn (557, gn, e_RF, M) o.2) (h : ((0 < (M a0 1) → (∃ N3 : e_M, e_E X d YX3_loadFrom [.inr (.inr 36), .inr (.inr b0), .inl (e_w (((e_up M a0 1 (e_w ((M a0 1) - 1))) a0 1) * 45))] (557, gn, e_RF, (e_up M a0 1 (e_w ((M a0 1) - 1)))) (.inl none, (557, gn, e_RF, N3)) ∧ (o = (.inl (some (.inl 1)), (557, gn, e_RF, N3))))) ∧ (¬ (0 < (M a0 1)) → (o = (.inl (some (.inl 0)), (557, gn, e_RF, M)))))) : e_G X (d + 1) YX5_popInto 0 [some (.inr (.inr a0)), some (.inr (.inr 36))] [] (557, gn, e_RF, M) o := by
  refine e_r_aload_n (pc' := 1) za0 dX5_popInto_0 rfl rfl rfl ?_
  refine e_r_geti (k := 1) (pc' := 4) cl_5 ha0 ka0 rfl rfl fl_RX5_17 dX5_popInto_1 rfl ?_
  obtain ⟨ht1, hf2⟩ := h
  refine e_r_if_gt (tgt := 9) (pc' := 7) dX5_popInto_4 rfl rfl (fun c => ?_) (fun c => ?_)
  · have h := ht1 c
    refine e_r_aload_n (pc' := 10) za0 dX5_popInto_9 rfl rfl rfl ?_
    refine e_r_dup (pc' := 11) rfl dX5_popInto_10 rfl ?_
    refine e_r_geti (k := 1) (pc' := 14) cl_5 ha0 ka0 rfl rfl fl_RX5_17 dX5_popInto_11 rfl ?_
    refine e_r_iconst (pc' := 15) dX5_popInto_14 rfl (by decide) ?_
    refine e_r_isub (pc' := 16) dX5_popInto_15 rfl ?_
    refine e_r_puti (k := 1) (pc' := 19) cl_5 ha0 ka0 rfl rfl fl_RX5_17 rfl (by decide +kernel) dX5_popInto_16 rfl ?_
    refine e_r_aload_n (pc' := 20) (by decide) dX5_popInto_19 rfl rfl rfl ?_
    refine e_r_aload_n (pc' := 21) za0 dX5_popInto_20 rfl rfl rfl ?_
    refine e_r_getr (k := 0) (q := b0) (pc' := 24) cl_5 ha0 ka0 rfl rfl fl_RX5_13 ra0 kb0 dX5_popInto_21 rfl ?_
    refine e_r_aload_n (pc' := 25) za0 dX5_popInto_24 rfl rfl rfl ?_
    refine e_r_geti (k := 1) (pc' := 28) cl_5 ha0 ka0 rfl rfl fl_RX5_17 dX5_popInto_25 rfl ?_
    refine e_r_bipush (pc' := 30) dX5_popInto_28 rfl (by decide) ?_
    refine e_r_imul (pc' := 31) dX5_popInto_30 rfl ?_
    obtain ⟨N3, he4, h⟩ := h
    refine e_r_callV (a := 36) (av := [.inr (.inr b0), .inl (e_w (((e_up M a0 1 (e_w ((M a0 1) - 1))) a0 1) * 45))]) (st := []) mqYX3_loadFrom ml_RX5_25 cl_3 rfl (Nat.le_of_ble_eq_true rfl) (by simp [e_cat]) rfl rfl rfl dX5_popInto_31 (pc' := 34) rfl he4 ⟨Nat.le_refl _, Nat.le_refl _⟩ hmo ?_
    refine e_r_iconst (pc' := 35) dX5_popInto_34 rfl (by decide) ?_
    exact e_r_iret (ty := .boolean) rfl (e_nZ (by decide)) dX5_popInto_35 h
  · have h := hf2 c
    refine e_r_iconst (pc' := 8) dX5_popInto_7 rfl (by decide) ?_
    exact e_r_iret (ty := .boolean) rfl (e_nZ (by decide)) dX5_popInto_8 h
theorem wp_X5_copyFrom_0 {X : e_X} {d gn : Nat} {o : e_O} {a0 b0 n0 : Nat} (ha0 : e_SH a0 = (5, 2)) (ka0 : a0 ≤ 557) (za0 : a0 ≠ 0) (ra0 : e_RF a0 0 = b0) (hb0 : e_SH b0 = (20, n0)) (kb0 : b0 ≤ 557) (zb0 : b0 ≠ 0) {a1 b1 n1 : Nat} (ha1 : e_SH a1 = (5, 2)) (ka1 : a1 ≤ 557) (za1 : a1 ≠ 0) (ra1 : e_RF a1 0 = b1) (hb1 : e_SH b1 = (20, n1)) (kb1 : b1 ≤ 557) (zb1 : b1 ≠ 0) (M : e_M) (h : (0 ≤ (e_w (((e_up M a0 1 (M a1 1)) a0 1) * 45)) ∧ 0 + (e_w (((e_up M a0 1 (M a1 1)) a0 1) * 45)) ≤ (n1 : Int) ∧ 0 + (e_w (((e_up M a0 1 (M a1 1)) a0 1) * 45)) ≤ (n0 : Int) ∧ (o = (.inl none, (557, gn, e_RF, (e_cp (e_up M a0 1 (M a1 1)) b1 0 b0 0 (e_w (((e_up M a0 1 (M a1 1)) a0 1) * 45)).toNat)))))) : e_G X (d + 1) YX5_copyFrom 0 [some (.inr (.inr a0)), some (.inr (.inr a1))] [] (557, gn, e_RF, M) o := by
  refine e_r_aload_n (pc' := 1) za0 dX5_copyFrom_0 rfl rfl rfl ?_
  refine e_r_aload_n (pc' := 2) za1 dX5_copyFrom_1 rfl rfl rfl ?_
  refine e_r_geti (k := 1) (pc' := 5) cl_5 ha1 ka1 rfl rfl fl_RX5_17 dX5_copyFrom_2 rfl ?_
  refine e_r_puti (k := 1) (pc' := 8) cl_5 ha0 ka0 rfl rfl fl_RX5_17 rfl (by decide +kernel) dX5_copyFrom_5 rfl ?_
  refine e_r_aload_n (pc' := 9) za1 dX5_copyFrom_8 rfl rfl rfl ?_
  refine e_r_getr (k := 0) (q := b1) (pc' := 12) cl_5 ha1 ka1 rfl rfl fl_RX5_13 ra1 kb1 dX5_copyFrom_9 rfl ?_
  refine e_r_iconst (pc' := 13) dX5_copyFrom_12 rfl (by decide) ?_
  refine e_r_aload_n (pc' := 14) za0 dX5_copyFrom_13 rfl rfl rfl ?_
  refine e_r_getr (k := 0) (q := b0) (pc' := 17) cl_5 ha0 ka0 rfl rfl fl_RX5_13 ra0 kb0 dX5_copyFrom_14 rfl ?_
  refine e_r_iconst (pc' := 18) dX5_copyFrom_17 rfl (by decide) ?_
  refine e_r_aload_n (pc' := 19) za0 dX5_copyFrom_18 rfl rfl rfl ?_
  refine e_r_geti (k := 1) (pc' := 22) cl_5 ha0 ka0 rfl rfl fl_RX5_17 dX5_copyFrom_19 rfl ?_
  refine e_r_bipush (pc' := 24) dX5_copyFrom_22 rfl (by decide) ?_
  refine e_r_imul (pc' := 25) dX5_copyFrom_24 rfl ?_
  obtain ⟨hc1, hc2, hc3, h⟩ := h
  refine e_r_copy (pc' := 28) hb1 hb0 kb1 kb0 (by decide) (by decide) hc1 hc2 hc3 lk_RX5_28 rfl dX5_copyFrom_25 rfl ?_
  exact e_r_vret rfl dX5_copyFrom_28 h
