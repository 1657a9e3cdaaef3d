theorem wp_X10_tryWeeks_0 {X : e_X} {d gn : Nat} {o : e_O} (M : e_M) (p1 : Int) (hmo : e_mn (557, gn, e_RF, M) o.2) (h : (∃ N1 : e_M, e_E X d YX3_copyFrom [.inr (.inr 43), .inr (.inr 36)] (557, gn, e_RF, M) (.inl none, (557, gn, e_RF, N1)) ∧ e_G X (d + 1) YX10_tryWeeks 13 [some (.inr (.inr 1)), some (.inl p1), some (.inl 0)] [] (557, gn, e_RF, N1) o)) : e_G X (d + 1) YX10_tryWeeks 0 [some (.inr (.inr 1)), some (.inl p1), none] [] (557, gn, e_RF, M) o := by
  refine e_r_aload_n (pc' := 1) (by decide) dX10_tryWeeks_0 rfl rfl rfl ?_
  refine e_r_getr (k := 9) (q := 43) (pc' := 4) cl_10 rfl (Nat.le_of_ble_eq_true rfl) rfl rfl fl_RX10_62 rfl (Nat.le_of_ble_eq_true rfl) dX10_tryWeeks_1 rfl ?_
  refine e_r_aload_n (pc' := 5) (by decide) dX10_tryWeeks_4 rfl rfl rfl ?_
  refine e_r_getr (k := 8) (q := 36) (pc' := 8) cl_10 rfl (Nat.le_of_ble_eq_true rfl) rfl rfl fl_RX10_58 rfl (Nat.le_of_ble_eq_true rfl) dX10_tryWeeks_5 rfl ?_
  obtain ⟨N1, he2, h⟩ := h
  refine e_r_callV (a := 43) (av := [.inr (.inr 36)]) (st := []) mqYX3_copyFrom ml_RX10_287 cl_3 rfl (Nat.le_of_ble_eq_true rfl) (by simp [e_cat]) rfl rfl rfl dX10_tryWeeks_8 (pc' := 11) rfl he2 ⟨Nat.le_refl _, Nat.le_refl _⟩ hmo ?_
  refine e_r_iconst (pc' := 12) dX10_tryWeeks_11 rfl (by decide) ?_
  refine e_r_istore_n (pc' := 13) (loc' := [some (.inr (.inr 1)), some (.inl p1), some (.inl 0)]) dX10_tryWeeks_12 rfl rfl rfl rfl rfl ?_
  exact h
theorem wp_X10_tryWeeks_13 {X : e_X} {d gn : Nat} {o : e_O} (M : e_M) (p1 v2 : Int) (hmo : e_mn (557, gn, e_RF, M) o.2) (h : ((p1 ≤ v2 → (o = (.inl none, (557, gn, e_RF, M)))) ∧ (¬ (p1 ≤ v2) → (∃ N3 : e_M, e_E X d YX3_passWeek [.inr (.inr 43)] (557, gn, e_RF, M) (.inl none, (557, gn, e_RF, N3)) ∧ e_G X (d + 1) YX10_tryWeeks 13 [some (.inr (.inr 1)), some (.inl p1), some (.inl (e_w (v2 + 1)))] [] (557, gn, e_RF, N3) o)))) : e_G X (d + 1) YX10_tryWeeks 13 [some (.inr (.inr 1)), some (.inl p1), some (.inl v2)] [] (557, gn, e_RF, M) o := by
  refine e_r_iload_n (pc' := 14) dX10_tryWeeks_13 rfl rfl rfl ?_
  refine e_r_iload_n (pc' := 15) dX10_tryWeeks_14 rfl rfl rfl ?_
  obtain ⟨ht1, hf2⟩ := h
  refine e_r_icmp_ge (tgt := 31) (pc' := 18) dX10_tryWeeks_15 rfl rfl (fun c => ?_) (fun c => ?_)
  · have h := ht1 c
    exact e_r_vret rfl dX10_tryWeeks_31 h
  · have h := hf2 c
    refine e_r_aload_n (pc' := 19) (by decide) dX10_tryWeeks_18 rfl rfl rfl ?_
    refine e_r_getr (k := 9) (q := 43) (pc' := 22) cl_10 rfl (Nat.le_of_ble_eq_true rfl) rfl rfl fl_RX10_62 rfl (Nat.le_of_ble_eq_true rfl) dX10_tryWeeks_19 rfl ?_
    obtain ⟨N3, he4, h⟩ := h
    refine e_r_callV (a := 43) (av := []) (st := []) mqYX3_passWeek ml_RX10_411 cl_3 rfl (Nat.le_of_ble_eq_true rfl) (by simp [e_cat]) rfl rfl rfl dX10_tryWeeks_22 (pc' := 25) rfl he4 ⟨Nat.le_refl _, Nat.le_refl _⟩ hmo ?_
    refine e_r_iinc (pc' := 28) (loc' := [some (.inr (.inr 1)), some (.inl p1), some (.inl (e_w (v2 + 1)))]) dX10_tryWeeks_25 rfl rfl rfl rfl rfl ?_
    refine e_r_goto (pc' := 13) dX10_tryWeeks_28 rfl ?_
    exact h
theorem wp_X10_bitsBelow_0 {X : e_X} {d gn : Nat} {o : e_O} (M : e_M) (p0 : Int) (h : (o = (.inl (some (.inl (e_w ((e_shl 1 p0) - 1)))), (557, gn, e_RF, M)))) : e_G X d YX10_bitsBelow 0 [some (.inl p0)] [] (557, gn, e_RF, M) o := by
  refine e_r_iconst (pc' := 1) dX10_bitsBelow_0 rfl (by decide) ?_
  refine e_r_iload_n (pc' := 2) dX10_bitsBelow_1 rfl rfl rfl ?_
  refine e_r_ishl (pc' := 3) dX10_bitsBelow_2 rfl ?_
  refine e_r_iconst (pc' := 4) dX10_bitsBelow_3 rfl (by decide) ?_
  refine e_r_isub (pc' := 5) dX10_bitsBelow_4 rfl ?_
  exact e_r_iret (ty := .int) rfl (e_nI _) dX10_bitsBelow_5 h
theorem wp_X10_choose_0 {X : e_X} {d gn : Nat} {o : e_O} (M : e_M) (p0 p1 : Int) (h : ((p1 < 0 → (o = (.inl (some (.inr (.inl 0))), (557, gn, e_RF, M)))) ∧ (¬ (p1 < 0) → ((p1 ≤ p0 → e_G X d YX10_choose 16 [some (.inl p0), some (.inl p1), some (.inr (.inl 1)), none, some (.inl 1)] [] (557, gn, e_RF, M) o) ∧ (¬ (p1 ≤ p0) → (o = (.inl (some (.inr (.inl 0))), (557, gn, e_RF, M)))))))) : e_G X d YX10_choose 0 [some (.inl p0), some (.inl p1), none, none, none] [] (557, gn, e_RF, M) o := by
  refine e_r_iload_n (pc' := 1) dX10_choose_0 rfl rfl rfl ?_
  obtain ⟨ht1, hf2⟩ := h
  refine e_r_if_lt (tgt := 9) (pc' := 4) dX10_choose_1 rfl rfl (fun c => ?_) (fun c => ?_)
  · have h := ht1 c
    refine e_r_lconst (pc' := 10) (z := 0) dX10_choose_9 rfl rfl ?_
    exact e_r_lret rfl dX10_choose_10 h
  · have h := hf2 c
    refine e_r_iload_n (pc' := 5) dX10_choose_4 rfl rfl rfl ?_
    refine e_r_iload_n (pc' := 6) dX10_choose_5 rfl rfl rfl ?_
    obtain ⟨ht3, hf4⟩ := h
    refine e_r_icmp_le (tgt := 11) (pc' := 9) dX10_choose_6 rfl rfl (fun c => ?_) (fun c => ?_)
    · have h := ht3 c
      refine e_r_lconst (pc' := 12) (z := 1) dX10_choose_11 rfl rfl ?_
      refine e_r_lstore_n (pc' := 13) (loc' := [some (.inl p0), some (.inl p1), some (.inr (.inl 1)), none, none]) dX10_choose_12 rfl rfl rfl rfl rfl ?_
      refine e_r_iconst (pc' := 14) dX10_choose_13 rfl (by decide) ?_
      refine e_r_istore (pc' := 16) (loc' := [some (.inl p0), some (.inl p1), some (.inr (.inl 1)), none, some (.inl 1)]) dX10_choose_14 rfl rfl rfl rfl ?_
      exact h
    · have h := hf4 c
      refine e_r_lconst (pc' := 10) (z := 0) dX10_choose_9 rfl rfl ?_
      exact e_r_lret rfl dX10_choose_10 h
theorem wp_X10_choose_16 {X : e_X} {d gn : Nat} {o : e_O} (M : e_M) (p0 p1 v2 v4 : Int) (h : ((p1 < v4 → (o = (.inl (some (.inr (.inl v2))), (557, gn, e_RF, M)))) ∧ (¬ (p1 < v4) → (v4 ≠ 0 ∧ e_G X d YX10_choose 16 [some (.inl p0), some (.inl p1), some (.inr (.inl (e_wl (Int.tdiv (e_wl (v2 * (e_w ((e_w (p0 - p1)) + v4)))) v4)))), none, some (.inl (e_w (v4 + 1)))] [] (557, gn, e_RF, M) o)))) : e_G X d YX10_choose 16 [some (.inl p0), some (.inl p1), some (.inr (.inl v2)), none, some (.inl v4)] [] (557, gn, e_RF, M) o := by
  refine e_r_iload (pc' := 18) dX10_choose_16 rfl rfl ?_
  refine e_r_iload_n (pc' := 19) dX10_choose_18 rfl rfl rfl ?_
  obtain ⟨ht1, hf2⟩ := h
  refine e_r_icmp_gt (tgt := 42) (pc' := 22) dX10_choose_19 rfl rfl (fun c => ?_) (fun c => ?_)
  · have h := ht1 c
    refine e_r_lload_n (pc' := 43) dX10_choose_42 rfl rfl rfl ?_
    exact e_r_lret rfl dX10_choose_43 h
  · have h := hf2 c
    refine e_r_lload_n (pc' := 23) dX10_choose_22 rfl rfl rfl ?_
    refine e_r_iload_n (pc' := 24) dX10_choose_23 rfl rfl rfl ?_
    refine e_r_iload_n (pc' := 25) dX10_choose_24 rfl rfl rfl ?_
    refine e_r_isub (pc' := 26) dX10_choose_25 rfl ?_
    refine e_r_iload (pc' := 28) dX10_choose_26 rfl rfl ?_
    refine e_r_iadd (pc' := 29) dX10_choose_28 rfl ?_
    refine e_r_i2l (pc' := 30) dX10_choose_29 rfl ?_
    refine e_r_lmul (pc' := 31) dX10_choose_30 rfl ?_
    refine e_r_iload (pc' := 33) dX10_choose_31 rfl rfl ?_
    refine e_r_i2l (pc' := 34) dX10_choose_33 rfl ?_
    obtain ⟨hz3, h⟩ := h
    refine e_r_ldiv (pc' := 35) hz3 dX10_choose_34 rfl ?_
    refine e_r_lstore_n (pc' := 36) (loc' := [some (.inl p0), some (.inl p1), some (.inr (.inl (e_wl (Int.tdiv (e_wl (v2 * (e_w ((e_w (p0 - p1)) + v4)))) v4)))), none, some (.inl v4)]) dX10_choose_35 rfl rfl rfl rfl rfl ?_
    refine e_r_iinc (pc' := 39) (loc' := [some (.inl p0), some (.inl p1), some (.inr (.inl (e_wl (Int.tdiv (e_wl (v2 * (e_w ((e_w (p0 - p1)) + v4)))) v4)))), none, some (.inl (e_w (v4 + 1)))]) dX10_choose_36 rfl rfl rfl rfl rfl ?_
    refine e_r_goto (pc' := 16) dX10_choose_39 rfl ?_
    exact h
theorem wp_X10_shopHas_0 {X : e_X} {d gn : Nat} {o : e_O} (M : e_M) (p0 p1 p2 p3 : Int) (h : ((¬ p0 = 0 → ((¬ p1 = 0 → (o = (.inl (some (.inl 0)), (557, gn, e_RF, M)))) ∧ (p1 = 0 → (o = (.inl (some (.inl (-1))), (557, gn, e_RF, M)))))) ∧ (p0 = 0 → ((¬ p1 = 0 → (o = (.inl (some (.inl p3)), (557, gn, e_RF, M)))) ∧ (p1 = 0 → (o = (.inl (some (.inl p2)), (557, gn, e_RF, M)))))))) : e_G X d YX10_shopHas 0 [some (.inl p0), some (.inl p1), some (.inl p2), some (.inl p3)] [] (557, gn, e_RF, M) o := by
  refine e_r_iload_n (pc' := 1) dX10_shopHas_0 rfl rfl rfl ?_
  obtain ⟨ht1, hf2⟩ := h
  refine e_r_if_ne (tgt := 14) (pc' := 4) dX10_shopHas_1 rfl rfl (fun c => ?_) (fun c => ?_)
  · have h := ht1 c
    refine e_r_iload_n (pc' := 15) dX10_shopHas_14 rfl rfl rfl ?_
    obtain ⟨ht3, hf4⟩ := h
    refine e_r_if_ne (tgt := 22) (pc' := 18) dX10_shopHas_15 rfl rfl (fun c => ?_) (fun c => ?_)
    · have h := ht3 c
      refine e_r_iconst (pc' := 23) dX10_shopHas_22 rfl (by decide) ?_
      exact e_r_iret (ty := .int) rfl (e_nI _) dX10_shopHas_23 h
    · have h := hf4 c
      refine e_r_iconst (pc' := 19) dX10_shopHas_18 rfl (by decide) ?_
      refine e_r_goto (pc' := 23) dX10_shopHas_19 rfl ?_
      exact e_r_iret (ty := .int) rfl (e_nI _) dX10_shopHas_23 h
  · have h := hf2 c
    refine e_r_iload_n (pc' := 5) dX10_shopHas_4 rfl rfl rfl ?_
    obtain ⟨ht5, hf6⟩ := h
    refine e_r_if_ne (tgt := 12) (pc' := 8) dX10_shopHas_5 rfl rfl (fun c => ?_) (fun c => ?_)
    · have h := ht5 c
      refine e_r_iload_n (pc' := 13) dX10_shopHas_12 rfl rfl rfl ?_
      exact e_r_iret (ty := .int) rfl (e_nI _) dX10_shopHas_13 h
    · have h := hf6 c
      refine e_r_iload_n (pc' := 9) dX10_shopHas_8 rfl rfl rfl ?_
      refine e_r_goto (pc' := 13) dX10_shopHas_9 rfl ?_
      exact e_r_iret (ty := .int) rfl (e_nI _) dX10_shopHas_13 h
