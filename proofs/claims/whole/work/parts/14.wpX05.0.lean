theorem wp_X5_drop_0 {X : e_X} {d gn : Nat} {o : e_O} (M : e_M) (h : (o = (.inl none, (557, gn, e_RF, (e_up M 55 2 0))))) : e_G X d YX5_drop 0 [some (.inr (.inr 55))] [] (557, gn, e_RF, M) o := by
  refine e_r_aload_n (pc' := 1) (by decide) dX5_drop_0 rfl rfl rfl ?_
  refine e_r_iconst (pc' := 2) dX5_drop_1 rfl (by decide) ?_
  refine e_r_puti (k := 2) (pc' := 5) cl_5 rfl (Nat.le_of_ble_eq_true rfl) rfl rfl fl_RX5_7 rfl (by decide +kernel) dX5_drop_2 rfl ?_
  exact e_r_vret rfl dX5_drop_5 h
theorem wp_X5_isFull_0 {X : e_X} {d gn : Nat} {o : e_O} (M : e_M) (h : (((M 55 2) < (M 55 0) → (o = (.inl (some (.inl 0)), (557, gn, e_RF, M)))) ∧ (¬ ((M 55 2) < (M 55 0)) → (o = (.inl (some (.inl 1)), (557, gn, e_RF, M)))))) : e_G X d YX5_isFull 0 [some (.inr (.inr 55))] [] (557, gn, e_RF, M) o := by
  refine e_r_aload_n (pc' := 1) (by decide) dX5_isFull_0 rfl rfl rfl ?_
  refine e_r_geti (k := 2) (pc' := 4) cl_5 rfl (Nat.le_of_ble_eq_true rfl) rfl rfl fl_RX5_7 dX5_isFull_1 rfl ?_
  refine e_r_aload_n (pc' := 5) (by decide) dX5_isFull_4 rfl rfl rfl ?_
  refine e_r_geti (k := 0) (pc' := 8) cl_5 rfl (Nat.le_of_ble_eq_true rfl) rfl rfl fl_RX5_13 dX5_isFull_5 rfl ?_
  obtain ⟨ht1, hf2⟩ := h
  refine e_r_icmp_lt (tgt := 15) (pc' := 11) dX5_isFull_8 rfl rfl (fun c => ?_) (fun c => ?_)
  · have h := ht1 c
    refine e_r_iconst (pc' := 16) dX5_isFull_15 rfl (by decide) ?_
    exact e_r_iret (ty := .boolean) rfl (e_nZ (by decide)) dX5_isFull_16 h
  · have h := hf2 c
    refine e_r_iconst (pc' := 12) dX5_isFull_11 rfl (by decide) ?_
    refine e_r_goto (pc' := 16) dX5_isFull_12 rfl ?_
    exact e_r_iret (ty := .boolean) rfl (e_nZ (by decide)) dX5_isFull_16 h
theorem wp_X5_push_0 {X : e_X} {d gn : Nat} {o : e_O} (M : e_M) (hmo : e_mn (557, gn, e_RF, M) o.2) (h : (((M 55 0) ≤ (M 55 2) → (o = (.inl none, (557, gn, e_RF, M)))) ∧ (¬ ((M 55 0) ≤ (M 55 2)) → (∃ N3 : e_M, e_E X d YX3_saveTo [.inr (.inr 36), .inr (.inr 56), .inl (e_w ((M 55 2) * 45))] (557, gn, e_RF, M) (.inl none, (557, gn, e_RF, N3)) ∧ (o = (.inl none, (557, gn, e_RF, (e_up N3 55 2 (e_w ((N3 55 2) + 1)))))))))) : e_G X (d + 1) YX5_push 0 [some (.inr (.inr 55)), some (.inr (.inr 36))] [] (557, gn, e_RF, M) o := by
  refine e_r_aload_n (pc' := 1) (by decide) dX5_push_0 rfl rfl rfl ?_
  refine e_r_geti (k := 2) (pc' := 4) cl_5 rfl (Nat.le_of_ble_eq_true rfl) rfl rfl fl_RX5_7 dX5_push_1 rfl ?_
  refine e_r_aload_n (pc' := 5) (by decide) dX5_push_4 rfl rfl rfl ?_
  refine e_r_geti (k := 0) (pc' := 8) cl_5 rfl (Nat.le_of_ble_eq_true rfl) rfl rfl fl_RX5_13 dX5_push_5 rfl ?_
  obtain ⟨ht1, hf2⟩ := h
  refine e_r_icmp_ge (tgt := 36) (pc' := 11) dX5_push_8 rfl rfl (fun c => ?_) (fun c => ?_)
  · have h := ht1 c
    exact e_r_vret rfl dX5_push_36 h
  · have h := hf2 c
    refine e_r_aload_n (pc' := 12) (by decide) dX5_push_11 rfl rfl rfl ?_
    refine e_r_aload_n (pc' := 13) (by decide) dX5_push_12 rfl rfl rfl ?_
    refine e_r_getr (k := 1) (q := 56) (pc' := 16) cl_5 rfl (Nat.le_of_ble_eq_true rfl) rfl rfl fl_RX5_18 rfl (Nat.le_of_ble_eq_true rfl) dX5_push_13 rfl ?_
    refine e_r_aload_n (pc' := 17) (by decide) dX5_push_16 rfl rfl rfl ?_
    refine e_r_geti (k := 2) (pc' := 20) cl_5 rfl (Nat.le_of_ble_eq_true rfl) rfl rfl fl_RX5_7 dX5_push_17 rfl ?_
    refine e_r_bipush (pc' := 22) dX5_push_20 rfl (by decide) ?_
    refine e_r_imul (pc' := 23) dX5_push_22 rfl ?_
    obtain ⟨N3, he4, h⟩ := h
    refine e_r_callV (a := 36) (av := [.inr (.inr 56), .inl (e_w ((M 55 2) * 45))]) (st := []) mqYX3_saveTo ml_RX5_22 cl_3 rfl (Nat.le_of_ble_eq_true rfl) (by simp [e_cat]) rfl rfl rfl dX5_push_23 (pc' := 26) rfl he4 ⟨Nat.le_refl _, Nat.le_refl _⟩ hmo ?_
    refine e_r_aload_n (pc' := 27) (by decide) dX5_push_26 rfl rfl rfl ?_
    refine e_r_dup (pc' := 28) rfl dX5_push_27 rfl ?_
    refine e_r_geti (k := 2) (pc' := 31) cl_5 rfl (Nat.le_of_ble_eq_true rfl) rfl rfl fl_RX5_7 dX5_push_28 rfl ?_
    refine e_r_iconst (pc' := 32) dX5_push_31 rfl (by decide) ?_
    refine e_r_iadd (pc' := 33) dX5_push_32 rfl ?_
    refine e_r_puti (k := 2) (pc' := 36) cl_5 rfl (Nat.le_of_ble_eq_true rfl) rfl rfl fl_RX5_7 rfl (by decide +kernel) dX5_push_33 rfl ?_
    exact e_r_vret rfl dX5_push_36 h
theorem wp_X5_popInto_0 {X : e_X} {d gn : Nat} {o : e_O} (M : e_M) (hmo : e_mn (557, gn, e_RF, M) o.2) (h : ((0 < (M 55 2) → (∃ N3 : e_M, e_E X d YX3_loadFrom [.inr (.inr 36), .inr (.inr 56), .inl (e_w (((e_up M 55 2 (e_w ((M 55 2) - 1))) 55 2) * 45))] (557, gn, e_RF, (e_up M 55 2 (e_w ((M 55 2) - 1)))) (.inl none, (557, gn, e_RF, N3)) ∧ (o = (.inl (some (.inl 1)), (557, gn, e_RF, N3))))) ∧ (¬ (0 < (M 55 2)) → (o = (.inl (some (.inl 0)), (557, gn, e_RF, M)))))) : e_G X (d + 1) YX5_popInto 0 [some (.inr (.inr 55)), some (.inr (.inr 36))] [] (557, gn, e_RF, M) o := by
  refine e_r_aload_n (pc' := 1) (by decide) dX5_popInto_0 rfl rfl rfl ?_
  refine e_r_geti (k := 2) (pc' := 4) cl_5 rfl (Nat.le_of_ble_eq_true rfl) rfl rfl fl_RX5_7 dX5_popInto_1 rfl ?_
  obtain ⟨ht1, hf2⟩ := h
  refine e_r_if_gt (tgt := 9) (pc' := 7) dX5_popInto_4 rfl rfl (fun c => ?_) (fun c => ?_)
  · have h := ht1 c
    refine e_r_aload_n (pc' := 10) (by decide) dX5_popInto_9 rfl rfl rfl ?_
    refine e_r_dup (pc' := 11) rfl dX5_popInto_10 rfl ?_
    refine e_r_geti (k := 2) (pc' := 14) cl_5 rfl (Nat.le_of_ble_eq_true rfl) rfl rfl fl_RX5_7 dX5_popInto_11 rfl ?_
    refine e_r_iconst (pc' := 15) dX5_popInto_14 rfl (by decide) ?_
    refine e_r_isub (pc' := 16) dX5_popInto_15 rfl ?_
    refine e_r_puti (k := 2) (pc' := 19) cl_5 rfl (Nat.le_of_ble_eq_true rfl) rfl rfl fl_RX5_7 rfl (by decide +kernel) dX5_popInto_16 rfl ?_
    refine e_r_aload_n (pc' := 20) (by decide) dX5_popInto_19 rfl rfl rfl ?_
    refine e_r_aload_n (pc' := 21) (by decide) dX5_popInto_20 rfl rfl rfl ?_
    refine e_r_getr (k := 1) (q := 56) (pc' := 24) cl_5 rfl (Nat.le_of_ble_eq_true rfl) rfl rfl fl_RX5_18 rfl (Nat.le_of_ble_eq_true rfl) dX5_popInto_21 rfl ?_
    refine e_r_aload_n (pc' := 25) (by decide) dX5_popInto_24 rfl rfl rfl ?_
    refine e_r_geti (k := 2) (pc' := 28) cl_5 rfl (Nat.le_of_ble_eq_true rfl) rfl rfl fl_RX5_7 dX5_popInto_25 rfl ?_
    refine e_r_bipush (pc' := 30) dX5_popInto_28 rfl (by decide) ?_
    refine e_r_imul (pc' := 31) dX5_popInto_30 rfl ?_
    obtain ⟨N3, he4, h⟩ := h
    refine e_r_callV (a := 36) (av := [.inr (.inr 56), .inl (e_w (((e_up M 55 2 (e_w ((M 55 2) - 1))) 55 2) * 45))]) (st := []) mqYX3_loadFrom ml_RX5_26 cl_3 rfl (Nat.le_of_ble_eq_true rfl) (by simp [e_cat]) rfl rfl rfl dX5_popInto_31 (pc' := 34) rfl he4 ⟨Nat.le_refl _, Nat.le_refl _⟩ hmo ?_
    refine e_r_iconst (pc' := 35) dX5_popInto_34 rfl (by decide) ?_
    exact e_r_iret (ty := .boolean) rfl (e_nZ (by decide)) dX5_popInto_35 h
  · have h := hf2 c
    refine e_r_iconst (pc' := 8) dX5_popInto_7 rfl (by decide) ?_
    exact e_r_iret (ty := .boolean) rfl (e_nZ (by decide)) dX5_popInto_8 h
