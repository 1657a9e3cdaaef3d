theorem wp_X4_forgetRefused_0 {X : e_X} {d gn : Nat} {o : e_O} (M : e_M) (h : (o = (.inl none, (557, gn, e_RF, (e_up M 32 6 0))))) : e_G X d YX4_forgetRefused 0 [some (.inr (.inr 32))] [] (557, gn, e_RF, M) o := by
  refine e_r_aload_n (pc' := 1) (by decide) dX4_forgetRefused_0 rfl rfl rfl ?_
  refine e_r_iconst (pc' := 2) dX4_forgetRefused_1 rfl (by decide) ?_
  refine e_r_puti (k := 6) (pc' := 5) cl_4 rfl (Nat.le_of_ble_eq_true rfl) rfl rfl fl_RX4_31 rfl (by decide +kernel) dX4_forgetRefused_2 rfl ?_
  exact e_r_vret rfl dX4_forgetRefused_5 h
theorem wp_X4_readFrom_0 {X : e_X} {d gn : Nat} {o : e_O} (M : e_M) (hmo : e_mn (557, gn, e_RF, M) o.2) (h : (∃ N1 : e_M, e_E X d YX4_readSteps [.inr (.inr 32), .inr (.inr 2), .inr (.inr 4), .inl 0] (557, gn, e_RF, (e_up M 32 0 0)) (.inl none, (557, gn, e_RF, N1)) ∧ (o = (.inl none, (557, gn, e_RF, N1))))) : e_G X (d + 1) YX4_readFrom 0 [some (.inr (.inr 32)), some (.inr (.inr 2)), some (.inr (.inr 4))] [] (557, gn, e_RF, M) o := by
  refine e_r_aload_n (pc' := 1) (by decide) dX4_readFrom_0 rfl rfl rfl ?_
  refine e_r_iconst (pc' := 2) dX4_readFrom_1 rfl (by decide) ?_
  refine e_r_puti (k := 0) (pc' := 5) cl_4 rfl (Nat.le_of_ble_eq_true rfl) rfl rfl fl_RX4_9 rfl (by decide +kernel) dX4_readFrom_2 rfl ?_
  refine e_r_aload_n (pc' := 6) (by decide) dX4_readFrom_5 rfl rfl rfl ?_
  refine e_r_aload_n (pc' := 7) (by decide) dX4_readFrom_6 rfl rfl rfl ?_
  refine e_r_aload_n (pc' := 8) (by decide) dX4_readFrom_7 rfl rfl rfl ?_
  refine e_r_iconst (pc' := 9) dX4_readFrom_8 rfl (by decide) ?_
  obtain ⟨N1, he2, h⟩ := h
  refine e_r_callV (a := 32) (av := [.inr (.inr 2), .inr (.inr 4), .inl 0]) (st := []) mqYX4_readSteps ml_RX4_34 cl_4 rfl (Nat.le_of_ble_eq_true rfl) (by simp [e_cat]) rfl rfl rfl dX4_readFrom_9 (pc' := 12) rfl he2 ⟨Nat.le_refl _, Nat.le_refl _⟩ hmo ?_
  exact e_r_vret rfl dX4_readFrom_12 h
theorem wp_X4_readSteps_0 {X : e_X} {d gn : Nat} {o : e_O} (M : e_M) (p3 : Int) (h : e_G X (d + 1) YX4_readSteps 3 [some (.inr (.inr 32)), some (.inr (.inr 2)), some (.inr (.inr 4)), some (.inl p3), some (.inl 0)] [] (557, gn, e_RF, M) o) : e_G X (d + 1) YX4_readSteps 0 [some (.inr (.inr 32)), some (.inr (.inr 2)), some (.inr (.inr 4)), some (.inl p3), none] [] (557, gn, e_RF, M) o := by
  refine e_r_iconst (pc' := 1) dX4_readSteps_0 rfl (by decide) ?_
  refine e_r_istore (pc' := 3) (loc' := [some (.inr (.inr 32)), some (.inr (.inr 2)), some (.inr (.inr 4)), some (.inl p3), some (.inl 0)]) dX4_readSteps_1 rfl rfl rfl rfl ?_
  exact h
theorem wp_X4_readSteps_3 {X : e_X} {d gn : Nat} {o : e_O} (M : e_M) (p3 v4 : Int) (hmo : e_mn (557, gn, e_RF, M) o.2) (h : ((30 < v4 → (o = (.inl none, (557, gn, e_RF, M)))) ∧ (¬ (30 < v4) → (∃ (r4 : Int) (N3 : e_M), e_E X d YX7_flawed [.inr (.inr 2)] (557, gn, e_RF, M) (.inl (some (.inl r4)), (557, gn, e_RF, N3)) ∧ ((¬ r4 = 0 → (o = (.inl none, (557, gn, e_RF, N3)))) ∧ (r4 = 0 → ((¬ p3 = 0 → (∃ (r11 : Int) (N10 : e_M), e_E X d YX7_peekSign [.inr (.inr 2)] (557, gn, e_RF, N3) (.inl (some (.inl r11)), (557, gn, e_RF, N10)) ∧ ((¬ r11 = 93 → e_G X (d + 1) YX4_readSteps 41 [some (.inr (.inr 32)), some (.inr (.inr 2)), some (.inr (.inr 4)), some (.inl p3), some (.inl v4)] [] (557, gn, e_RF, N10) o) ∧ (r11 = 93 → (o = (.inl none, (557, gn, e_RF, N10))))))) ∧ (p3 = 0 → (∃ (r16 : Int) (N15 : e_M), e_E X d YX7_atEnd [.inr (.inr 2)] (557, gn, e_RF, N3) (.inl (some (.inl r16)), (557, gn, e_RF, N15)) ∧ ((r16 = 0 → e_G X (d + 1) YX4_readSteps 41 [some (.inr (.inr 32)), some (.inr (.inr 2)), some (.inr (.inr 4)), some (.inl p3), some (.inl v4)] [] (557, gn, e_RF, N15) o) ∧ (¬ (r16 = 0) → (o = (.inl none, (557, gn, e_RF, N15)))))))))))))) : e_G X (d + 1) YX4_readSteps 3 [some (.inr (.inr 32)), some (.inr (.inr 2)), some (.inr (.inr 4)), some (.inl p3), some (.inl v4)] [] (557, gn, e_RF, M) o := by
  refine e_r_iload (pc' := 5) dX4_readSteps_3 rfl rfl ?_
  refine e_r_bipush (pc' := 7) dX4_readSteps_5 rfl (by decide) ?_
  obtain ⟨ht1, hf2⟩ := h
  refine e_r_icmp_gt (tgt := 60) (pc' := 10) dX4_readSteps_7 rfl rfl (fun c => ?_) (fun c => ?_)
  · have h := ht1 c
    exact e_r_vret rfl dX4_readSteps_60 h
  · have h := hf2 c
    refine e_r_aload_n (pc' := 11) (by decide) dX4_readSteps_10 rfl rfl rfl ?_
    obtain ⟨r4, N3, he5, h⟩ := h
    refine e_r_callV (a := 2) (av := []) (st := []) mqYX7_flawed ml_RX4_38 cl_7 rfl (Nat.le_of_ble_eq_true rfl) (by simp [e_cat]) rfl rfl rfl dX4_readSteps_11 (pc' := 14) rfl he5 ⟨Nat.le_refl _, Nat.le_refl _⟩ hmo ?_
    obtain ⟨ht6, hf7⟩ := h
    refine e_r_if_ne (tgt := 60) (pc' := 17) dX4_readSteps_14 rfl rfl (fun c => ?_) (fun c => ?_)
    · have h := ht6 c
      exact e_r_vret rfl dX4_readSteps_60 h
    · have h := hf7 c
      refine e_r_iload_n (pc' := 18) dX4_readSteps_17 rfl rfl rfl ?_
      obtain ⟨ht8, hf9⟩ := h
      refine e_r_if_ne (tgt := 31) (pc' := 21) dX4_readSteps_18 rfl rfl (fun c => ?_) (fun c => ?_)
      · have h := ht8 c
        refine e_r_aload_n (pc' := 32) (by decide) dX4_readSteps_31 rfl rfl rfl ?_
        obtain ⟨r11, N10, he12, h⟩ := h
        refine e_r_callV (a := 2) (av := []) (st := []) mqYX7_peekSign ml_RX4_47 cl_7 rfl (Nat.le_of_ble_eq_true rfl) (by simp [e_cat]) rfl rfl rfl dX4_readSteps_32 (pc' := 35) rfl he12 ⟨Nat.le_refl _, Nat.le_refl _⟩ hmo ?_
        refine e_r_bipush (pc' := 37) dX4_readSteps_35 rfl (by decide) ?_
        obtain ⟨ht13, hf14⟩ := h
        refine e_r_icmp_ne (tgt := 41) (pc' := 40) dX4_readSteps_37 rfl rfl (fun c => ?_) (fun c => ?_)
        · have h := ht13 c
          exact h
        · have h := hf14 c
          exact e_r_vret rfl dX4_readSteps_40 h
      · have h := hf9 c
        refine e_r_aload_n (pc' := 22) (by decide) dX4_readSteps_21 rfl rfl rfl ?_
        obtain ⟨r16, N15, he17, h⟩ := h
        refine e_r_callV (a := 2) (av := []) (st := []) mqYX7_atEnd ml_RX4_44 cl_7 rfl (Nat.le_of_ble_eq_true rfl) (by simp [e_cat]) rfl rfl rfl dX4_readSteps_22 (pc' := 25) rfl he17 ⟨Nat.le_refl _, Nat.le_refl _⟩ hmo ?_
        obtain ⟨ht18, hf19⟩ := h
        refine e_r_if_eq (tgt := 41) (pc' := 28) dX4_readSteps_25 rfl rfl (fun c => ?_) (fun c => ?_)
        · have h := ht18 c
          exact h
        · have h := hf19 c
          refine e_r_goto (pc' := 40) dX4_readSteps_28 rfl ?_
          exact e_r_vret rfl dX4_readSteps_40 h
theorem wp_X4_readSteps_41 {X : e_X} {d gn : Nat} {o : e_O} (M : e_M) (p3 v4 : Int) (hmo : e_mn (557, gn, e_RF, M) o.2) (h : (∃ N1 : e_M, e_E X d YX4_readStep [.inr (.inr 32), .inr (.inr 2), .inr (.inr 4), .inl p3] (557, gn, e_RF, M) (.inl none, (557, gn, e_RF, N1)) ∧ (∃ N3 : e_M, e_E X d YX7_expectSign [.inr (.inr 2), .inl 59] (557, gn, e_RF, N1) (.inl none, (557, gn, e_RF, N3)) ∧ e_G X (d + 1) YX4_readSteps 3 [some (.inr (.inr 32)), some (.inr (.inr 2)), some (.inr (.inr 4)), some (.inl p3), some (.inl (e_w (v4 + 1)))] [] (557, gn, e_RF, N3) o))) : e_G X (d + 1) YX4_readSteps 41 [some (.inr (.inr 32)), some (.inr (.inr 2)), some (.inr (.inr 4)), some (.inl p3), some (.inl v4)] [] (557, gn, e_RF, M) o := by
  refine e_r_aload_n (pc' := 42) (by decide) dX4_readSteps_41 rfl rfl rfl ?_
  refine e_r_aload_n (pc' := 43) (by decide) dX4_readSteps_42 rfl rfl rfl ?_
  refine e_r_aload_n (pc' := 44) (by decide) dX4_readSteps_43 rfl rfl rfl ?_
  refine e_r_iload_n (pc' := 45) dX4_readSteps_44 rfl rfl rfl ?_
  obtain ⟨N1, he2, h⟩ := h
  refine e_r_callV (a := 32) (av := [.inr (.inr 2), .inr (.inr 4), .inl p3]) (st := []) mqYX4_readStep ml_RX4_51 cl_4 rfl (Nat.le_of_ble_eq_true rfl) (by simp [e_cat]) rfl rfl rfl dX4_readSteps_45 (pc' := 48) rfl he2 ⟨Nat.le_refl _, Nat.le_refl _⟩ hmo ?_
  refine e_r_aload_n (pc' := 49) (by decide) dX4_readSteps_48 rfl rfl rfl ?_
  refine e_r_bipush (pc' := 51) dX4_readSteps_49 rfl (by decide) ?_
  obtain ⟨N3, he4, h⟩ := h
  refine e_r_callV (a := 2) (av := [.inl 59]) (st := []) mqYX7_expectSign ml_RX4_54 cl_7 rfl (Nat.le_of_ble_eq_true rfl) (by simp [e_cat]) rfl rfl rfl dX4_readSteps_51 (pc' := 54) rfl he4 ⟨Nat.le_refl _, Nat.le_refl _⟩ hmo ?_
  refine e_r_iinc (pc' := 57) (loc' := [some (.inr (.inr 32)), some (.inr (.inr 2)), some (.inr (.inr 4)), some (.inl p3), some (.inl (e_w (v4 + 1)))]) dX4_readSteps_54 rfl rfl rfl rfl rfl ?_
  refine e_r_goto (pc' := 3) dX4_readSteps_57 rfl ?_
  exact h
theorem wp_X4_readStep_0 {X : e_X} {d gn : Nat} {o : e_O} (M : e_M) (p3 : Int) (hmo : e_mn (557, gn, e_RF, M) o.2) (h : (∃ (r2 : Int) (N1 : e_M), e_E X d YX7_readWord [.inr (.inr 2), .inr (.inr 1000003)] (557, gn, e_RF, M) (.inl (some (.inl r2)), (557, gn, e_RF, N1)) ∧ ((r2 = (-1) → (o = (.inl none, (557, gn, e_RF, N1)))) ∧ (¬ (r2 = (-1)) → (((N1 32 0) < 30 → ((0 ≤ (N1 32 0) ∧ (N1 32 0) < 30) ∧ ((0 ≤ (N1 32 0) ∧ (N1 32 0) < 30) ∧ ((r2 = 0 → e_G X (d + 1) YX4_readStep 66 [some (.inr (.inr 32)), some (.inr (.inr 2)), some (.inr (.inr 4)), some (.inl p3), some (.inl r2), some (.inl (N1 32 0))] [] (557, gn, e_RF, (e_up (e_up (e_up N1 32 0 (e_w ((N1 32 0) + 1))) 33 (N1 32 0).toNat r2) 34 (N1 32 0).toNat 0)) o) ∧ (¬ (r2 = 0) → ((¬ r2 = 1 → ((¬ r2 = 2 → ((¬ r2 = 4 → e_G X (d + 1) YX4_readStep 129 [some (.inr (.inr 32)), some (.inr (.inr 2)), some (.inr (.inr 4)), some (.inl p3), some (.inl r2), some (.inl (N1 32 0))] [] (557, gn, e_RF, (e_up (e_up (e_up N1 32 0 (e_w ((N1 32 0) + 1))) 33 (N1 32 0).toNat r2) 34 (N1 32 0).toNat 0)) o) ∧ (r2 = 4 → (∃ N18 : e_M, e_E X d YX4_readAgain [.inr (.inr 32), .inr (.inr 2), .inr (.inr 4), .inl p3, .inl (N1 32 0)] (557, gn, e_RF, (e_up (e_up (e_up N1 32 0 (e_w ((N1 32 0) + 1))) 33 (N1 32 0).toNat r2) 34 (N1 32 0).toNat 0)) (.inl none, (557, gn, e_RF, N18)) ∧ e_G X (d + 1) YX4_readStep 129 [some (.inr (.inr 32)), some (.inr (.inr 2)), some (.inr (.inr 4)), some (.inl p3), some (.inl r2), some (.inl (N1 32 0))] [] (557, gn, e_RF, N18) o)))) ∧ (r2 = 2 → (∃ (r21 : Int) (N20 : e_M), e_E X d YX7_readNumber [.inr (.inr 2), .inl 0, .inl (e_w (((e_up (e_up (e_up N1 32 0 (e_w ((N1 32 0) + 1))) 33 (N1 32 0).toNat r2) 34 (N1 32 0).toNat 0) 4 2) - 1))] (557, gn, e_RF, (e_up (e_up (e_up N1 32 0 (e_w ((N1 32 0) + 1))) 33 (N1 32 0).toNat r2) 34 (N1 32 0).toNat 0)) (.inl (some (.inl r21)), (557, gn, e_RF, N20)) ∧ ((0 ≤ (N1 32 0) ∧ (N1 32 0) < 30) ∧ e_G X (d + 1) YX4_readStep 129 [some (.inr (.inr 32)), some (.inr (.inr 2)), some (.inr (.inr 4)), some (.inl p3), some (.inl r2), some (.inl (N1 32 0))] [] (557, gn, e_RF, (e_up N20 34 (N1 32 0).toNat r21)) o))))) ∧ (r2 = 1 → e_G X (d + 1) YX4_readStep 66 [some (.inr (.inr 32)), some (.inr (.inr 2)), some (.inr (.inr 4)), some (.inl p3), some (.inl r2), some (.inl (N1 32 0))] [] (557, gn, e_RF, (e_up (e_up (e_up N1 32 0 (e_w ((N1 32 0) + 1))) 33 (N1 32 0).toNat r2) 34 (N1 32 0).toNat 0)) o))))))) ∧ (¬ ((N1 32 0) < 30) → (o = (.inl none, (557, gn, e_RF, N1))))))))) : e_G X (d + 1) YX4_readStep 0 [some (.inr (.inr 32)), some (.inr (.inr 2)), some (.inr (.inr 4)), some (.inl p3), none, none] [] (557, gn, e_RF, M) o := by
  refine e_r_aload_n (pc' := 1) (by decide) dX4_readStep_0 rfl rfl rfl ?_
  refine e_r_ldcs (q := 1000003) (pc' := 3) e_str_3 rfl dX4_readStep_1 rfl ?_
  obtain ⟨r2, N1, he3, h⟩ := h
  refine e_r_callV (a := 2) (av := [.inr (.inr 1000003)]) (st := []) mqYX7_readWord ml_RX4_60 cl_7 rfl (Nat.le_of_ble_eq_true rfl) (by simp [e_cat]) rfl rfl rfl dX4_readStep_3 (pc' := 6) rfl he3 ⟨Nat.le_refl _, Nat.le_refl _⟩ hmo ?_
  refine e_r_istore (pc' := 8) (loc' := [some (.inr (.inr 32)), some (.inr (.inr 2)), some (.inr (.inr 4)), some (.inl p3), some (.inl r2), none]) dX4_readStep_6 rfl rfl rfl rfl ?_
  refine e_r_aload_n (pc' := 9) (by decide) dX4_readStep_8 rfl rfl rfl ?_
  refine e_r_geti (k := 0) (pc' := 12) cl_4 rfl (Nat.le_of_ble_eq_true rfl) rfl rfl fl_RX4_9 dX4_readStep_9 rfl ?_
  refine e_r_istore (pc' := 14) (loc' := [some (.inr (.inr 32)), some (.inr (.inr 2)), some (.inr (.inr 4)), some (.inl p3), some (.inl r2), some (.inl (N1 32 0))]) dX4_readStep_12 rfl rfl rfl rfl ?_
  refine e_r_iload (pc' := 16) dX4_readStep_14 rfl rfl ?_
  refine e_r_iconst (pc' := 17) dX4_readStep_16 rfl (by decide) ?_
  obtain ⟨ht4, hf5⟩ := h
  refine e_r_icmp_eq (tgt := 27) (pc' := 20) dX4_readStep_17 rfl rfl (fun c => ?_) (fun c => ?_)
  · have h := ht4 c
    exact e_r_vret rfl dX4_readStep_27 h
  · have h := hf5 c
    refine e_r_iload (pc' := 22) dX4_readStep_20 rfl rfl ?_
    refine e_r_bipush (pc' := 24) dX4_readStep_22 rfl (by decide) ?_
    obtain ⟨ht6, hf7⟩ := h
    refine e_r_icmp_lt (tgt := 28) (pc' := 27) dX4_readStep_24 rfl rfl (fun c => ?_) (fun c => ?_)
    · have h := ht6 c
      refine e_r_aload_n (pc' := 29) (by decide) dX4_readStep_28 rfl rfl rfl ?_
      refine e_r_dup (pc' := 30) rfl dX4_readStep_29 rfl ?_
      refine e_r_geti (k := 0) (pc' := 33) cl_4 rfl (Nat.le_of_ble_eq_true rfl) rfl rfl fl_RX4_9 dX4_readStep_30 rfl ?_
      refine e_r_iconst (pc' := 34) dX4_readStep_33 rfl (by decide) ?_
      refine e_r_iadd (pc' := 35) dX4_readStep_34 rfl ?_
      refine e_r_puti (k := 0) (pc' := 38) cl_4 rfl (Nat.le_of_ble_eq_true rfl) rfl rfl fl_RX4_9 rfl (by decide +kernel) dX4_readStep_35 rfl ?_
      refine e_r_aload_n (pc' := 39) (by decide) dX4_readStep_38 rfl rfl rfl ?_
      refine e_r_getr (k := 1) (q := 33) (pc' := 42) cl_4 rfl (Nat.le_of_ble_eq_true rfl) rfl rfl fl_RX4_15 rfl (Nat.le_of_ble_eq_true rfl) dX4_readStep_39 rfl ?_
      refine e_r_iload (pc' := 44) dX4_readStep_42 rfl rfl ?_
      refine e_r_iload (pc' := 46) dX4_readStep_44 rfl rfl ?_
      obtain ⟨hb8, h⟩ := h
      refine e_r_iast (j9 := (N1 32 0).toNat) (pc' := 47) rfl (Nat.le_of_ble_eq_true rfl) hb8.1 hb8.2 rfl dX4_readStep_46 rfl ?_
      refine e_r_aload_n (pc' := 48) (by decide) dX4_readStep_47 rfl rfl rfl ?_
      refine e_r_getr (k := 2) (q := 34) (pc' := 51) cl_4 rfl (Nat.le_of_ble_eq_true rfl) rfl rfl fl_RX4_19 rfl (Nat.le_of_ble_eq_true rfl) dX4_readStep_48 rfl ?_
      refine e_r_iload (pc' := 53) dX4_readStep_51 rfl rfl ?_
      refine e_r_iconst (pc' := 54) dX4_readStep_53 rfl (by decide) ?_
      obtain ⟨hb9, h⟩ := h
      refine e_r_iast (j9 := (N1 32 0).toNat) (pc' := 55) rfl (Nat.le_of_ble_eq_true rfl) hb9.1 hb9.2 rfl dX4_readStep_54 rfl ?_
      refine e_r_iload (pc' := 57) dX4_readStep_55 rfl rfl ?_
      obtain ⟨ht10, hf11⟩ := h
      refine e_r_if_eq (tgt := 66) (pc' := 60) dX4_readStep_57 rfl rfl (fun c => ?_) (fun c => ?_)
      · have h := ht10 c
        exact h
      · have h := hf11 c
        refine e_r_iload (pc' := 62) dX4_readStep_60 rfl rfl ?_
        refine e_r_iconst (pc' := 63) dX4_readStep_62 rfl (by decide) ?_
        obtain ⟨ht12, hf13⟩ := h
        refine e_r_icmp_ne (tgt := 87) (pc' := 66) dX4_readStep_63 rfl rfl (fun c => ?_) (fun c => ?_)
        · have h := ht12 c
          refine e_r_iload (pc' := 89) dX4_readStep_87 rfl rfl ?_
          refine e_r_iconst (pc' := 90) dX4_readStep_89 rfl (by decide) ?_
          obtain ⟨ht14, hf15⟩ := h
          refine e_r_icmp_ne (tgt := 114) (pc' := 93) dX4_readStep_90 rfl rfl (fun c => ?_) (fun c => ?_)
          · have h := ht14 c
            refine e_r_iload (pc' := 116) dX4_readStep_114 rfl rfl ?_
            refine e_r_iconst (pc' := 117) dX4_readStep_116 rfl (by decide) ?_
            obtain ⟨ht16, hf17⟩ := h
            refine e_r_icmp_ne (tgt := 129) (pc' := 120) dX4_readStep_117 rfl rfl (fun c => ?_) (fun c => ?_)
            · have h := ht16 c
              exact h
            · have h := hf17 c
              refine e_r_aload_n (pc' := 121) (by decide) dX4_readStep_120 rfl rfl rfl ?_
              refine e_r_aload_n (pc' := 122) (by decide) dX4_readStep_121 rfl rfl rfl ?_
              refine e_r_aload_n (pc' := 123) (by decide) dX4_readStep_122 rfl rfl rfl ?_
              refine e_r_iload_n (pc' := 124) dX4_readStep_123 rfl rfl rfl ?_
              refine e_r_iload (pc' := 126) dX4_readStep_124 rfl rfl ?_
              obtain ⟨N18, he19, h⟩ := h
              refine e_r_callV (a := 32) (av := [.inr (.inr 2), .inr (.inr 4), .inl p3, .inl (N1 32 0)]) (st := []) mqYX4_readAgain ml_RX4_76 cl_4 rfl (Nat.le_of_ble_eq_true rfl) (by simp [e_cat]) rfl rfl rfl dX4_readStep_126 (pc' := 129) rfl he19 ⟨Nat.le_refl _, Nat.le_refl _⟩ hmo ?_
              exact h
          · have h := hf15 c
            refine e_r_aload_n (pc' := 94) (by decide) dX4_readStep_93 rfl rfl rfl ?_
            refine e_r_getr (k := 2) (q := 34) (pc' := 97) cl_4 rfl (Nat.le_of_ble_eq_true rfl) rfl rfl fl_RX4_19 rfl (Nat.le_of_ble_eq_true rfl) dX4_readStep_94 rfl ?_
            refine e_r_iload (pc' := 99) dX4_readStep_97 rfl rfl ?_
            refine e_r_aload_n (pc' := 100) (by decide) dX4_readStep_99 rfl rfl rfl ?_
            refine e_r_iconst (pc' := 101) dX4_readStep_100 rfl (by decide) ?_
            refine e_r_aload_n (pc' := 102) (by decide) dX4_readStep_101 rfl rfl rfl ?_
            refine e_r_geti (k := 2) (pc' := 105) cl_8 rfl (Nat.le_of_ble_eq_true rfl) rfl rfl fl_RX4_73 dX4_readStep_102 rfl ?_
            refine e_r_iconst (pc' := 106) dX4_readStep_105 rfl (by decide) ?_
            refine e_r_isub (pc' := 107) dX4_readStep_106 rfl ?_
            obtain ⟨r21, N20, he22, h⟩ := h
            refine e_r_callV (a := 2) (av := [.inl 0, .inl (e_w (((e_up (e_up (e_up N1 32 0 (e_w ((N1 32 0) + 1))) 33 (N1 32 0).toNat r2) 34 (N1 32 0).toNat 0) 4 2) - 1))]) (st := [.inl (N1 32 0), .inr (.inr 34)]) mqYX7_readNumber ml_RX4_69 cl_7 rfl (Nat.le_of_ble_eq_true rfl) (by simp [e_cat]) rfl rfl rfl dX4_readStep_107 (pc' := 110) rfl he22 ⟨Nat.le_refl _, Nat.le_refl _⟩ hmo ?_
            obtain ⟨hb23, h⟩ := h
            refine e_r_iast (j9 := (N1 32 0).toNat) (pc' := 111) rfl (Nat.le_of_ble_eq_true rfl) hb23.1 hb23.2 rfl dX4_readStep_110 rfl ?_
            refine e_r_goto (pc' := 129) dX4_readStep_111 rfl ?_
            exact h
        · have h := hf13 c
          exact h
    · have h := hf7 c
      exact e_r_vret rfl dX4_readStep_27 h
theorem wp_X4_readStep_129 {X : e_X} {d gn : Nat} {o : e_O} (M : e_M) (p3 v4 v5 : Int) (h : ((0 ≤ v5 ∧ v5 < 30) ∧ (o = (.inl none, (557, gn, e_RF, (e_up M 35 v5.toNat (M 32 0))))))) : e_G X (d + 1) YX4_readStep 129 [some (.inr (.inr 32)), some (.inr (.inr 2)), some (.inr (.inr 4)), some (.inl p3), some (.inl v4), some (.inl v5)] [] (557, gn, e_RF, M) o := by
  refine e_r_aload_n (pc' := 130) (by decide) dX4_readStep_129 rfl rfl rfl ?_
  refine e_r_getr (k := 3) (q := 35) (pc' := 133) cl_4 rfl (Nat.le_of_ble_eq_true rfl) rfl rfl fl_RX4_22 rfl (Nat.le_of_ble_eq_true rfl) dX4_readStep_130 rfl ?_
  refine e_r_iload (pc' := 135) dX4_readStep_133 rfl rfl ?_
  refine e_r_aload_n (pc' := 136) (by decide) dX4_readStep_135 rfl rfl rfl ?_
  refine e_r_geti (k := 0) (pc' := 139) cl_4 rfl (Nat.le_of_ble_eq_true rfl) rfl rfl fl_RX4_9 dX4_readStep_136 rfl ?_
  obtain ⟨hb1, h⟩ := h
  refine e_r_iast (j9 := v5.toNat) (pc' := 140) rfl (Nat.le_of_ble_eq_true rfl) hb1.1 hb1.2 rfl dX4_readStep_139 rfl ?_
  exact e_r_vret rfl dX4_readStep_140 h
theorem wp_X4_readStep_66 {X : e_X} {d gn : Nat} {o : e_O} (M : e_M) (p3 v4 v5 : Int) (hmo : e_mn (557, gn, e_RF, M) o.2) (h : (∃ (r2 : Int) (N1 : e_M), e_E X d YX7_readNumber [.inr (.inr 2), .inl 0, .inl (e_w ((M 4 0) - 1))] (557, gn, e_RF, M) (.inl (some (.inl r2)), (557, gn, e_RF, N1)) ∧ ((0 ≤ v5 ∧ v5 < 30) ∧ e_G X (d + 1) YX4_readStep 129 [some (.inr (.inr 32)), some (.inr (.inr 2)), some (.inr (.inr 4)), some (.inl p3), some (.inl v4), some (.inl v5)] [] (557, gn, e_RF, (e_up N1 34 v5.toNat r2)) o))) : e_G X (d + 1) YX4_readStep 66 [some (.inr (.inr 32)), some (.inr (.inr 2)), some (.inr (.inr 4)), some (.inl p3), some (.inl v4), some (.inl v5)] [] (557, gn, e_RF, M) o := by
  refine e_r_aload_n (pc' := 67) (by decide) dX4_readStep_66 rfl rfl rfl ?_
  refine e_r_getr (k := 2) (q := 34) (pc' := 70) cl_4 rfl (Nat.le_of_ble_eq_true rfl) rfl rfl fl_RX4_19 rfl (Nat.le_of_ble_eq_true rfl) dX4_readStep_67 rfl ?_
  refine e_r_iload (pc' := 72) dX4_readStep_70 rfl rfl ?_
  refine e_r_aload_n (pc' := 73) (by decide) dX4_readStep_72 rfl rfl rfl ?_
  refine e_r_iconst (pc' := 74) dX4_readStep_73 rfl (by decide) ?_
  refine e_r_aload_n (pc' := 75) (by decide) dX4_readStep_74 rfl rfl rfl ?_
  refine e_r_geti (k := 0) (pc' := 78) cl_8 rfl (Nat.le_of_ble_eq_true rfl) rfl rfl fl_RX4_64 dX4_readStep_75 rfl ?_
  refine e_r_iconst (pc' := 79) dX4_readStep_78 rfl (by decide) ?_
  refine e_r_isub (pc' := 80) dX4_readStep_79 rfl ?_
  obtain ⟨r2, N1, he3, h⟩ := h
  refine e_r_callV (a := 2) (av := [.inl 0, .inl (e_w ((M 4 0) - 1))]) (st := [.inl v5, .inr (.inr 34)]) mqYX7_readNumber ml_RX4_69 cl_7 rfl (Nat.le_of_ble_eq_true rfl) (by simp [e_cat]) rfl rfl rfl dX4_readStep_80 (pc' := 83) rfl he3 ⟨Nat.le_refl _, Nat.le_refl _⟩ hmo ?_
  obtain ⟨hb4, h⟩ := h
  refine e_r_iast (j9 := v5.toNat) (pc' := 84) rfl (Nat.le_of_ble_eq_true rfl) hb4.1 hb4.2 rfl dX4_readStep_83 rfl ?_
  refine e_r_goto (pc' := 129) dX4_readStep_84 rfl ?_
  exact h
theorem wp_X4_readAgain_0 {X : e_X} {d gn : Nat} {o : e_O} (M : e_M) (p3 p4 : Int) (hmo : e_mn (557, gn, e_RF, M) o.2) (h : ((p3 < 6 → (∃ (r4 : Int) (N3 : e_M), e_E X d YX7_readNumber [.inr (.inr 2), .inl 0, .inl 60] (557, gn, e_RF, M) (.inl (some (.inl r4)), (557, gn, e_RF, N3)) ∧ ((0 ≤ p4 ∧ p4 < 30) ∧ (∃ N7 : e_M, e_E X d YX7_expectSign [.inr (.inr 2), .inl 91] (557, gn, e_RF, (e_up N3 34 p4.toNat r4)) (.inl none, (557, gn, e_RF, N7)) ∧ (∃ N9 : e_M, e_E X d YX4_readSteps [.inr (.inr 32), .inr (.inr 2), .inr (.inr 4), .inl (e_w (p3 + 1))] (557, gn, e_RF, N7) (.inl none, (557, gn, e_RF, N9)) ∧ (∃ N11 : e_M, e_E X d YX7_expectSign [.inr (.inr 2), .inl 93] (557, gn, e_RF, N9) (.inl none, (557, gn, e_RF, N11)) ∧ (o = (.inl none, (557, gn, e_RF, N11))))))))) ∧ (¬ (p3 < 6) → (∃ N13 : e_M, e_E X d YX7_noteFlaw [.inr (.inr 2), .inl 3, .inl (M 2 6)] (557, gn, e_RF, M) (.inl none, (557, gn, e_RF, N13)) ∧ (o = (.inl none, (557, gn, e_RF, N13))))))) : e_G X (d + 1) YX4_readAgain 0 [some (.inr (.inr 32)), some (.inr (.inr 2)), some (.inr (.inr 4)), some (.inl p3), some (.inl p4)] [] (557, gn, e_RF, M) o := by
  refine e_r_iload_n (pc' := 1) dX4_readAgain_0 rfl rfl rfl ?_
  refine e_r_bipush (pc' := 3) dX4_readAgain_1 rfl (by decide) ?_
  obtain ⟨ht1, hf2⟩ := h
  refine e_r_icmp_lt (tgt := 16) (pc' := 6) dX4_readAgain_3 rfl rfl (fun c => ?_) (fun c => ?_)
  · have h := ht1 c
    refine e_r_aload_n (pc' := 17) (by decide) dX4_readAgain_16 rfl rfl rfl ?_
    refine e_r_getr (k := 2) (q := 34) (pc' := 20) cl_4 rfl (Nat.le_of_ble_eq_true rfl) rfl rfl fl_RX4_19 rfl (Nat.le_of_ble_eq_true rfl) dX4_readAgain_17 rfl ?_
    refine e_r_iload (pc' := 22) dX4_readAgain_20 rfl rfl ?_
    refine e_r_aload_n (pc' := 23) (by decide) dX4_readAgain_22 rfl rfl rfl ?_
    refine e_r_iconst (pc' := 24) dX4_readAgain_23 rfl (by decide) ?_
    refine e_r_bipush (pc' := 26) dX4_readAgain_24 rfl (by decide) ?_
    obtain ⟨r4, N3, he5, h⟩ := h
    refine e_r_callV (a := 2) (av := [.inl 0, .inl 60]) (st := [.inl p4, .inr (.inr 34)]) mqYX7_readNumber ml_RX4_69 cl_7 rfl (Nat.le_of_ble_eq_true rfl) (by simp [e_cat]) rfl rfl rfl dX4_readAgain_26 (pc' := 29) rfl he5 ⟨Nat.le_refl _, Nat.le_refl _⟩ hmo ?_
    obtain ⟨hb6, h⟩ := h
    refine e_r_iast (j9 := p4.toNat) (pc' := 30) rfl (Nat.le_of_ble_eq_true rfl) hb6.1 hb6.2 rfl dX4_readAgain_29 rfl ?_
    refine e_r_aload_n (pc' := 31) (by decide) dX4_readAgain_30 rfl rfl rfl ?_
    refine e_r_bipush (pc' := 33) dX4_readAgain_31 rfl (by decide) ?_
    obtain ⟨N7, he8, h⟩ := h
    refine e_r_callV (a := 2) (av := [.inl 91]) (st := []) mqYX7_expectSign ml_RX4_54 cl_7 rfl (Nat.le_of_ble_eq_true rfl) (by simp [e_cat]) rfl rfl rfl dX4_readAgain_33 (pc' := 36) rfl he8 ⟨Nat.le_refl _, Nat.le_refl _⟩ hmo ?_
    refine e_r_aload_n (pc' := 37) (by decide) dX4_readAgain_36 rfl rfl rfl ?_
    refine e_r_aload_n (pc' := 38) (by decide) dX4_readAgain_37 rfl rfl rfl ?_
    refine e_r_aload_n (pc' := 39) (by decide) dX4_readAgain_38 rfl rfl rfl ?_
    refine e_r_iload_n (pc' := 40) dX4_readAgain_39 rfl rfl rfl ?_
    refine e_r_iconst (pc' := 41) dX4_readAgain_40 rfl (by decide) ?_
    refine e_r_iadd (pc' := 42) dX4_readAgain_41 rfl ?_
    obtain ⟨N9, he10, h⟩ := h
    refine e_r_callV (a := 32) (av := [.inr (.inr 2), .inr (.inr 4), .inl (e_w (p3 + 1))]) (st := []) mqYX4_readSteps ml_RX4_34 cl_4 rfl (Nat.le_of_ble_eq_true rfl) (by simp [e_cat]) rfl rfl rfl dX4_readAgain_42 (pc' := 45) rfl he10 ⟨Nat.le_refl _, Nat.le_refl _⟩ hmo ?_
    refine e_r_aload_n (pc' := 46) (by decide) dX4_readAgain_45 rfl rfl rfl ?_
    refine e_r_bipush (pc' := 48) dX4_readAgain_46 rfl (by decide) ?_
    obtain ⟨N11, he12, h⟩ := h
    refine e_r_callV (a := 2) (av := [.inl 93]) (st := []) mqYX7_expectSign ml_RX4_54 cl_7 rfl (Nat.le_of_ble_eq_true rfl) (by simp [e_cat]) rfl rfl rfl dX4_readAgain_48 (pc' := 51) rfl he12 ⟨Nat.le_refl _, Nat.le_refl _⟩ hmo ?_
    exact e_r_vret rfl dX4_readAgain_51 h
  · have h := hf2 c
    refine e_r_aload_n (pc' := 7) (by decide) dX4_readAgain_6 rfl rfl rfl ?_
    refine e_r_iconst (pc' := 8) dX4_readAgain_7 rfl (by decide) ?_
    refine e_r_aload_n (pc' := 9) (by decide) dX4_readAgain_8 rfl rfl rfl ?_
    refine e_r_geti (k := 6) (pc' := 12) cl_7 rfl (Nat.le_of_ble_eq_true rfl) rfl rfl fl_RX4_80 dX4_readAgain_9 rfl ?_
    obtain ⟨N13, he14, h⟩ := h
    refine e_r_callV (a := 2) (av := [.inl 3, .inl (M 2 6)]) (st := []) mqYX7_noteFlaw ml_RX4_83 cl_7 rfl (Nat.le_of_ble_eq_true rfl) (by simp [e_cat]) rfl rfl rfl dX4_readAgain_12 (pc' := 15) rfl he14 ⟨Nat.le_refl _, Nat.le_refl _⟩ hmo ?_
    exact e_r_vret rfl dX4_readAgain_15 h
theorem wp_X4_runOn_0 {X : e_X} {d gn : Nat} {o : e_O} (M : e_M) (hmo : e_mn (557, gn, e_RF, M) o.2) (h : (∃ N1 : e_M, e_E X d YX4_runSteps [.inr (.inr 32), .inr (.inr 36), .inl 0, .inl ((e_up (e_up (e_up M 32 4 0) 32 5 0) 32 6 0) 32 0), .inl 0] (557, gn, e_RF, (e_up (e_up (e_up M 32 4 0) 32 5 0) 32 6 0)) (.inl none, (557, gn, e_RF, N1)) ∧ (o = (.inl (some (.inl (N1 32 5))), (557, gn, e_RF, N1))))) : e_G X (d + 1) YX4_runOn 0 [some (.inr (.inr 32)), some (.inr (.inr 36))] [] (557, gn, e_RF, M) o := by
  refine e_r_aload_n (pc' := 1) (by decide) dX4_runOn_0 rfl rfl rfl ?_
  refine e_r_iconst (pc' := 2) dX4_runOn_1 rfl (by decide) ?_
  refine e_r_puti (k := 4) (pc' := 5) cl_4 rfl (Nat.le_of_ble_eq_true rfl) rfl rfl fl_RX4_25 rfl (by decide +kernel) dX4_runOn_2 rfl ?_
  refine e_r_aload_n (pc' := 6) (by decide) dX4_runOn_5 rfl rfl rfl ?_
  refine e_r_iconst (pc' := 7) dX4_runOn_6 rfl (by decide) ?_
  refine e_r_puti (k := 5) (pc' := 10) cl_4 rfl (Nat.le_of_ble_eq_true rfl) rfl rfl fl_RX4_28 rfl (by decide +kernel) dX4_runOn_7 rfl ?_
  refine e_r_aload_n (pc' := 11) (by decide) dX4_runOn_10 rfl rfl rfl ?_
  refine e_r_iconst (pc' := 12) dX4_runOn_11 rfl (by decide) ?_
  refine e_r_puti (k := 6) (pc' := 15) cl_4 rfl (Nat.le_of_ble_eq_true rfl) rfl rfl fl_RX4_31 rfl (by decide +kernel) dX4_runOn_12 rfl ?_
  refine e_r_aload_n (pc' := 16) (by decide) dX4_runOn_15 rfl rfl rfl ?_
  refine e_r_aload_n (pc' := 17) (by decide) dX4_runOn_16 rfl rfl rfl ?_
  refine e_r_iconst (pc' := 18) dX4_runOn_17 rfl (by decide) ?_
  refine e_r_aload_n (pc' := 19) (by decide) dX4_runOn_18 rfl rfl rfl ?_
  refine e_r_geti (k := 0) (pc' := 22) cl_4 rfl (Nat.le_of_ble_eq_true rfl) rfl rfl fl_RX4_9 dX4_runOn_19 rfl ?_
  refine e_r_iconst (pc' := 23) dX4_runOn_22 rfl (by decide) ?_
  obtain ⟨N1, he2, h⟩ := h
  refine e_r_callV (a := 32) (av := [.inr (.inr 36), .inl 0, .inl ((e_up (e_up (e_up M 32 4 0) 32 5 0) 32 6 0) 32 0), .inl 0]) (st := []) mqYX4_runSteps ml_RX4_87 cl_4 rfl (Nat.le_of_ble_eq_true rfl) (by simp [e_cat]) rfl rfl rfl dX4_runOn_23 (pc' := 26) rfl he2 ⟨Nat.le_refl _, Nat.le_refl _⟩ hmo ?_
  refine e_r_aload_n (pc' := 27) (by decide) dX4_runOn_26 rfl rfl rfl ?_
  refine e_r_geti (k := 5) (pc' := 30) cl_4 rfl (Nat.le_of_ble_eq_true rfl) rfl rfl fl_RX4_28 dX4_runOn_27 rfl ?_
  exact e_r_iret (ty := .int) rfl (e_nI _) dX4_runOn_30 h
theorem wp_X4_runSteps_0 {X : e_X} {d gn : Nat} {o : e_O} (M : e_M) (p2 p3 p4 : Int) (h : ((p4 ≤ 6 → e_G X (d + 1) YX4_runSteps 14 [some (.inr (.inr 32)), some (.inr (.inr 36)), some (.inl p2), some (.inl p3), some (.inl p4), some (.inl p2), some (.inl 0), none] [] (557, gn, e_RF, M) o) ∧ (¬ (p4 ≤ 6) → (o = (.inl none, (557, gn, e_RF, M)))))) : e_G X (d + 1) YX4_runSteps 0 [some (.inr (.inr 32)), some (.inr (.inr 36)), some (.inl p2), some (.inl p3), some (.inl p4), none, none, none] [] (557, gn, e_RF, M) o := by
  refine e_r_iload (pc' := 2) dX4_runSteps_0 rfl rfl ?_
  refine e_r_bipush (pc' := 4) dX4_runSteps_2 rfl (by decide) ?_
  obtain ⟨ht1, hf2⟩ := h
  refine e_r_icmp_le (tgt := 8) (pc' := 7) dX4_runSteps_4 rfl rfl (fun c => ?_) (fun c => ?_)
  · have h := ht1 c
    refine e_r_iload_n (pc' := 9) dX4_runSteps_8 rfl rfl rfl ?_
    refine e_r_istore (pc' := 11) (loc' := [some (.inr (.inr 32)), some (.inr (.inr 36)), some (.inl p2), some (.inl p3), some (.inl p4), some (.inl p2), none, none]) dX4_runSteps_9 rfl rfl rfl rfl ?_
    refine e_r_iconst (pc' := 12) dX4_runSteps_11 rfl (by decide) ?_
    refine e_r_istore (pc' := 14) (loc' := [some (.inr (.inr 32)), some (.inr (.inr 36)), some (.inl p2), some (.inl p3), some (.inl p4), some (.inl p2), some (.inl 0), none]) dX4_runSteps_12 rfl rfl rfl rfl ?_
    exact h
  · have h := hf2 c
    exact e_r_vret rfl dX4_runSteps_7 h
theorem wp_X4_runSteps_14 {X : e_X} {d gn : Nat} {o : e_O} (M : e_M) (p2 p3 p4 v5 v6 : Int) (hmo : e_mn (557, gn, e_RF, M) o.2) (h : ((30 ≤ v6 → (o = (.inl none, (557, gn, e_RF, M)))) ∧ (¬ (30 ≤ v6) → ((p3 ≤ v5 → (o = (.inl none, (557, gn, e_RF, M)))) ∧ (¬ (p3 ≤ v5) → ((200 ≤ (M 32 4) → (o = (.inl none, (557, gn, e_RF, M)))) ∧ (¬ (200 ≤ (M 32 4)) → ((0 ≤ v5 ∧ v5 < 30) ∧ ((¬ ((e_up M 32 4 (e_w ((M 32 4) + 1))) 33 v5.toNat) = 4 → ((0 ≤ v5 ∧ v5 < 30) ∧ ((0 ≤ v5 ∧ v5 < 30) ∧ (∃ (r13 : Int) (N12 : e_M), e_E X d YX4_stepSucceeds [.inr (.inr 36), .inl ((e_up M 32 4 (e_w ((M 32 4) + 1))) 33 v5.toNat), .inl ((e_up M 32 4 (e_w ((M 32 4) + 1))) 34 v5.toNat)] (557, gn, e_RF, (e_up M 32 4 (e_w ((M 32 4) + 1)))) (.inl (some (.inl r13)), (557, gn, e_RF, N12)) ∧ ((r13 = 0 → e_G X (d + 1) YX4_runSteps 156 [some (.inr (.inr 32)), some (.inr (.inr 36)), some (.inl p2), some (.inl p3), some (.inl p4), some (.inl v5), some (.inl v6), none] [] (557, gn, e_RF, (e_up N12 32 6 (e_w ((N12 32 6) + 1)))) o) ∧ (¬ (r13 = 0) → e_G X (d + 1) YX4_runSteps 156 [some (.inr (.inr 32)), some (.inr (.inr 36)), some (.inl p2), some (.inl p3), some (.inl p4), some (.inl v5), some (.inl v6), none] [] (557, gn, e_RF, (e_up N12 32 5 (e_w ((N12 32 5) + 1)))) o)))))) ∧ (((e_up M 32 4 (e_w ((M 32 4) + 1))) 33 v5.toNat) = 4 → e_G X (d + 1) YX4_runSteps 61 [some (.inr (.inr 32)), some (.inr (.inr 36)), some (.inl p2), some (.inl p3), some (.inl p4), some (.inl v5), some (.inl v6), some (.inl 0)] [] (557, gn, e_RF, (e_up M 32 4 (e_w ((M 32 4) + 1)))) o)))))))))) : e_G X (d + 1) YX4_runSteps 14 [some (.inr (.inr 32)), some (.inr (.inr 36)), some (.inl p2), some (.inl p3), some (.inl p4), some (.inl v5), some (.inl v6), none] [] (557, gn, e_RF, M) o := by
  refine e_r_iload (pc' := 16) dX4_runSteps_14 rfl rfl ?_
  refine e_r_bipush (pc' := 18) dX4_runSteps_16 rfl (by decide) ?_
  obtain ⟨ht1, hf2⟩ := h
  refine e_r_icmp_ge (tgt := 171) (pc' := 21) dX4_runSteps_18 rfl rfl (fun c => ?_) (fun c => ?_)
  · have h := ht1 c
    exact e_r_vret rfl dX4_runSteps_171 h
  · have h := hf2 c
    refine e_r_iload (pc' := 23) dX4_runSteps_21 rfl rfl ?_
    refine e_r_iload_n (pc' := 24) dX4_runSteps_23 rfl rfl rfl ?_
    obtain ⟨ht3, hf4⟩ := h
    refine e_r_icmp_ge (tgt := 171) (pc' := 27) dX4_runSteps_24 rfl rfl (fun c => ?_) (fun c => ?_)
    · have h := ht3 c
      exact e_r_vret rfl dX4_runSteps_171 h
    · have h := hf4 c
      refine e_r_aload_n (pc' := 28) (by decide) dX4_runSteps_27 rfl rfl rfl ?_
      refine e_r_geti (k := 4) (pc' := 31) cl_4 rfl (Nat.le_of_ble_eq_true rfl) rfl rfl fl_RX4_25 dX4_runSteps_28 rfl ?_
      refine e_r_sipush (pc' := 34) dX4_runSteps_31 rfl (by decide) ?_
      obtain ⟨ht5, hf6⟩ := h
      refine e_r_icmp_ge (tgt := 171) (pc' := 37) dX4_runSteps_34 rfl rfl (fun c => ?_) (fun c => ?_)
      · have h := ht5 c
        exact e_r_vret rfl dX4_runSteps_171 h
      · have h := hf6 c
        refine e_r_aload_n (pc' := 38) (by decide) dX4_runSteps_37 rfl rfl rfl ?_
        refine e_r_dup (pc' := 39) rfl dX4_runSteps_38 rfl ?_
        refine e_r_geti (k := 4) (pc' := 42) cl_4 rfl (Nat.le_of_ble_eq_true rfl) rfl rfl fl_RX4_25 dX4_runSteps_39 rfl ?_
        refine e_r_iconst (pc' := 43) dX4_runSteps_42 rfl (by decide) ?_
        refine e_r_iadd (pc' := 44) dX4_runSteps_43 rfl ?_
        refine e_r_puti (k := 4) (pc' := 47) cl_4 rfl (Nat.le_of_ble_eq_true rfl) rfl rfl fl_RX4_25 rfl (by decide +kernel) dX4_runSteps_44 rfl ?_
        refine e_r_aload_n (pc' := 48) (by decide) dX4_runSteps_47 rfl rfl rfl ?_
        refine e_r_getr (k := 1) (q := 33) (pc' := 51) cl_4 rfl (Nat.le_of_ble_eq_true rfl) rfl rfl fl_RX4_15 rfl (Nat.le_of_ble_eq_true rfl) dX4_runSteps_48 rfl ?_
        refine e_r_iload (pc' := 53) dX4_runSteps_51 rfl rfl ?_
        obtain ⟨hb7, h⟩ := h
        refine e_r_iald (j9 := v5.toNat) (pc' := 54) rfl (Nat.le_of_ble_eq_true rfl) hb7.1 hb7.2 rfl dX4_runSteps_53 rfl ?_
        refine e_r_iconst (pc' := 55) dX4_runSteps_54 rfl (by decide) ?_
        obtain ⟨ht8, hf9⟩ := h
        refine e_r_icmp_ne (tgt := 112) (pc' := 58) dX4_runSteps_55 rfl rfl (fun c => ?_) (fun c => ?_)
        · have h := ht8 c
          refine e_r_aload_n (pc' := 113) (by decide) dX4_runSteps_112 rfl rfl rfl ?_
          refine e_r_aload_n (pc' := 114) (by decide) dX4_runSteps_113 rfl rfl rfl ?_
          refine e_r_getr (k := 1) (q := 33) (pc' := 117) cl_4 rfl (Nat.le_of_ble_eq_true rfl) rfl rfl fl_RX4_15 rfl (Nat.le_of_ble_eq_true rfl) dX4_runSteps_114 rfl ?_
          refine e_r_iload (pc' := 119) dX4_runSteps_117 rfl rfl ?_
          obtain ⟨hb10, h⟩ := h
          refine e_r_iald (j9 := v5.toNat) (pc' := 120) rfl (Nat.le_of_ble_eq_true rfl) hb10.1 hb10.2 rfl dX4_runSteps_119 rfl ?_
          refine e_r_aload_n (pc' := 121) (by decide) dX4_runSteps_120 rfl rfl rfl ?_
          refine e_r_getr (k := 2) (q := 34) (pc' := 124) cl_4 rfl (Nat.le_of_ble_eq_true rfl) rfl rfl fl_RX4_19 rfl (Nat.le_of_ble_eq_true rfl) dX4_runSteps_121 rfl ?_
          refine e_r_iload (pc' := 126) dX4_runSteps_124 rfl rfl ?_
          obtain ⟨hb11, h⟩ := h
          refine e_r_iald (j9 := v5.toNat) (pc' := 127) rfl (Nat.le_of_ble_eq_true rfl) hb11.1 hb11.2 rfl dX4_runSteps_126 rfl ?_
          obtain ⟨r13, N12, he14, h⟩ := h
          refine e_r_callS (av := [.inr (.inr 36), .inl ((e_up M 32 4 (e_w ((M 32 4) + 1))) 33 v5.toNat), .inl ((e_up M 32 4 (e_w ((M 32 4) + 1))) 34 v5.toNat)]) (st := []) mqYX4_stepSucceeds ml_RX4_91 (by simp [e_cat]) rfl rfl rfl dX4_runSteps_127 (pc' := 130) rfl he14 ⟨Nat.le_refl _, Nat.le_refl _⟩ hmo ?_
          obtain ⟨ht15, hf16⟩ := h
          refine e_r_if_eq (tgt := 146) (pc' := 133) dX4_runSteps_130 rfl rfl (fun c => ?_) (fun c => ?_)
          · have h := ht15 c
            refine e_r_aload_n (pc' := 147) (by decide) dX4_runSteps_146 rfl rfl rfl ?_
            refine e_r_dup (pc' := 148) rfl dX4_runSteps_147 rfl ?_
            refine e_r_geti (k := 6) (pc' := 151) cl_4 rfl (Nat.le_of_ble_eq_true rfl) rfl rfl fl_RX4_31 dX4_runSteps_148 rfl ?_
            refine e_r_iconst (pc' := 152) dX4_runSteps_151 rfl (by decide) ?_
            refine e_r_iadd (pc' := 153) dX4_runSteps_152 rfl ?_
            refine e_r_puti (k := 6) (pc' := 156) cl_4 rfl (Nat.le_of_ble_eq_true rfl) rfl rfl fl_RX4_31 rfl (by decide +kernel) dX4_runSteps_153 rfl ?_
            exact h
          · have h := hf16 c
            refine e_r_aload_n (pc' := 134) (by decide) dX4_runSteps_133 rfl rfl rfl ?_
            refine e_r_dup (pc' := 135) rfl dX4_runSteps_134 rfl ?_
            refine e_r_geti (k := 5) (pc' := 138) cl_4 rfl (Nat.le_of_ble_eq_true rfl) rfl rfl fl_RX4_28 dX4_runSteps_135 rfl ?_
            refine e_r_iconst (pc' := 139) dX4_runSteps_138 rfl (by decide) ?_
            refine e_r_iadd (pc' := 140) dX4_runSteps_139 rfl ?_
            refine e_r_puti (k := 5) (pc' := 143) cl_4 rfl (Nat.le_of_ble_eq_true rfl) rfl rfl fl_RX4_28 rfl (by decide +kernel) dX4_runSteps_140 rfl ?_
            refine e_r_goto (pc' := 156) dX4_runSteps_143 rfl ?_
            exact h
        · have h := hf9 c
          refine e_r_iconst (pc' := 59) dX4_runSteps_58 rfl (by decide) ?_
          refine e_r_istore (pc' := 61) (loc' := [some (.inr (.inr 32)), some (.inr (.inr 36)), some (.inl p2), some (.inl p3), some (.inl p4), some (.inl v5), some (.inl v6), some (.inl 0)]) dX4_runSteps_59 rfl rfl rfl rfl ?_
          exact h
theorem wp_X4_runSteps_61 {X : e_X} {d gn : Nat} {o : e_O} (M : e_M) (p2 p3 p4 v5 v6 v7 : Int) (hmo : e_mn (557, gn, e_RF, M) o.2) (h : ((0 ≤ v5 ∧ v5 < 30) ∧ (((M 34 v5.toNat) ≤ v7 → e_G X (d + 1) YX4_runSteps 109 [some (.inr (.inr 32)), some (.inr (.inr 36)), some (.inl p2), some (.inl p3), some (.inl p4), some (.inl v5), some (.inl v6), some (.inl v7)] [] (557, gn, e_RF, M) o) ∧ (¬ ((M 34 v5.toNat) ≤ v7) → ((200 ≤ (M 32 4) → e_G X (d + 1) YX4_runSteps 109 [some (.inr (.inr 32)), some (.inr (.inr 36)), some (.inl p2), some (.inl p3), some (.inl p4), some (.inl v5), some (.inl v6), some (.inl v7)] [] (557, gn, e_RF, M) o) ∧ (¬ (200 ≤ (M 32 4)) → ((0 ≤ v5 ∧ v5 < 30) ∧ (∃ N7 : e_M, e_E X d YX4_runSteps [.inr (.inr 32), .inr (.inr 36), .inl (e_w (v5 + 1)), .inl (M 35 v5.toNat), .inl (e_w (p4 + 1))] (557, gn, e_RF, M) (.inl none, (557, gn, e_RF, N7)) ∧ e_G X (d + 1) YX4_runSteps 61 [some (.inr (.inr 32)), some (.inr (.inr 36)), some (.inl p2), some (.inl p3), some (.inl p4), some (.inl v5), some (.inl v6), some (.inl (e_w (v7 + 1)))] [] (557, gn, e_RF, N7) o)))))))) : e_G X (d + 1) YX4_runSteps 61 [some (.inr (.inr 32)), some (.inr (.inr 36)), some (.inl p2), some (.inl p3), some (.inl p4), some (.inl v5), some (.inl v6), some (.inl v7)] [] (557, gn, e_RF, M) o := by
  refine e_r_iload (pc' := 63) dX4_runSteps_61 rfl rfl ?_
  refine e_r_aload_n (pc' := 64) (by decide) dX4_runSteps_63 rfl rfl rfl ?_
  refine e_r_getr (k := 2) (q := 34) (pc' := 67) cl_4 rfl (Nat.le_of_ble_eq_true rfl) rfl rfl fl_RX4_19 rfl (Nat.le_of_ble_eq_true rfl) dX4_runSteps_64 rfl ?_
  refine e_r_iload (pc' := 69) dX4_runSteps_67 rfl rfl ?_
  obtain ⟨hb1, h⟩ := h
  refine e_r_iald (j9 := v5.toNat) (pc' := 70) rfl (Nat.le_of_ble_eq_true rfl) hb1.1 hb1.2 rfl dX4_runSteps_69 rfl ?_
  obtain ⟨ht2, hf3⟩ := h
  refine e_r_icmp_ge (tgt := 109) (pc' := 73) dX4_runSteps_70 rfl rfl (fun c => ?_) (fun c => ?_)
  · have h := ht2 c
    exact h
  · have h := hf3 c
    refine e_r_aload_n (pc' := 74) (by decide) dX4_runSteps_73 rfl rfl rfl ?_
    refine e_r_geti (k := 4) (pc' := 77) cl_4 rfl (Nat.le_of_ble_eq_true rfl) rfl rfl fl_RX4_25 dX4_runSteps_74 rfl ?_
    refine e_r_sipush (pc' := 80) dX4_runSteps_77 rfl (by decide) ?_
    obtain ⟨ht4, hf5⟩ := h
    refine e_r_icmp_ge (tgt := 109) (pc' := 83) dX4_runSteps_80 rfl rfl (fun c => ?_) (fun c => ?_)
    · have h := ht4 c
      exact h
    · have h := hf5 c
      refine e_r_aload_n (pc' := 84) (by decide) dX4_runSteps_83 rfl rfl rfl ?_
      refine e_r_aload_n (pc' := 85) (by decide) dX4_runSteps_84 rfl rfl rfl ?_
      refine e_r_iload (pc' := 87) dX4_runSteps_85 rfl rfl ?_
      refine e_r_iconst (pc' := 88) dX4_runSteps_87 rfl (by decide) ?_
      refine e_r_iadd (pc' := 89) dX4_runSteps_88 rfl ?_
      refine e_r_aload_n (pc' := 90) (by decide) dX4_runSteps_89 rfl rfl rfl ?_
      refine e_r_getr (k := 3) (q := 35) (pc' := 93) cl_4 rfl (Nat.le_of_ble_eq_true rfl) rfl rfl fl_RX4_22 rfl (Nat.le_of_ble_eq_true rfl) dX4_runSteps_90 rfl ?_
      refine e_r_iload (pc' := 95) dX4_runSteps_93 rfl rfl ?_
      obtain ⟨hb6, h⟩ := h
      refine e_r_iald (j9 := v5.toNat) (pc' := 96) rfl (Nat.le_of_ble_eq_true rfl) hb6.1 hb6.2 rfl dX4_runSteps_95 rfl ?_
      refine e_r_iload (pc' := 98) dX4_runSteps_96 rfl rfl ?_
      refine e_r_iconst (pc' := 99) dX4_runSteps_98 rfl (by decide) ?_
      refine e_r_iadd (pc' := 100) dX4_runSteps_99 rfl ?_
      obtain ⟨N7, he8, h⟩ := h
      refine e_r_callV (a := 32) (av := [.inr (.inr 36), .inl (e_w (v5 + 1)), .inl (M 35 v5.toNat), .inl (e_w (p4 + 1))]) (st := []) mqYX4_runSteps ml_RX4_87 cl_4 rfl (Nat.le_of_ble_eq_true rfl) (by simp [e_cat]) rfl rfl rfl dX4_runSteps_100 (pc' := 103) rfl he8 ⟨Nat.le_refl _, Nat.le_refl _⟩ hmo ?_
      refine e_r_iinc (pc' := 106) (loc' := [some (.inr (.inr 32)), some (.inr (.inr 36)), some (.inl p2), some (.inl p3), some (.inl p4), some (.inl v5), some (.inl v6), some (.inl (e_w (v7 + 1)))]) dX4_runSteps_103 rfl rfl rfl rfl rfl ?_
      refine e_r_goto (pc' := 61) dX4_runSteps_106 rfl ?_
      exact h
theorem wp_X4_runSteps_109 {X : e_X} {d gn : Nat} {o : e_O} (M : e_M) (p2 p3 p4 v5 v6 v7 : Int) (h : e_G X (d + 1) YX4_runSteps 156 [some (.inr (.inr 32)), some (.inr (.inr 36)), some (.inl p2), some (.inl p3), some (.inl p4), some (.inl v5), some (.inl v6), none] [] (557, gn, e_RF, M) o) : e_G X (d + 1) YX4_runSteps 109 [some (.inr (.inr 32)), some (.inr (.inr 36)), some (.inl p2), some (.inl p3), some (.inl p4), some (.inl v5), some (.inl v6), some (.inl v7)] [] (557, gn, e_RF, M) o := by
  refine e_r_goto (pc' := 156) dX4_runSteps_109 rfl ?_
  exact e_forget (m := [true, true, true, true, true, true, true, false]) h rfl
theorem wp_X4_runSteps_156 {X : e_X} {d gn : Nat} {o : e_O} (M : e_M) (p2 p3 p4 v5 v6 : Int) (h : ((0 ≤ v5 ∧ v5 < 30) ∧ e_G X (d + 1) YX4_runSteps 14 [some (.inr (.inr 32)), some (.inr (.inr 36)), some (.inl p2), some (.inl p3), some (.inl p4), some (.inl (M 35 v5.toNat)), some (.inl (e_w (v6 + 1))), none] [] (557, gn, e_RF, M) o)) : e_G X (d + 1) YX4_runSteps 156 [some (.inr (.inr 32)), some (.inr (.inr 36)), some (.inl p2), some (.inl p3), some (.inl p4), some (.inl v5), some (.inl v6), none] [] (557, gn, e_RF, M) o := by
  refine e_r_aload_n (pc' := 157) (by decide) dX4_runSteps_156 rfl rfl rfl ?_
  refine e_r_getr (k := 3) (q := 35) (pc' := 160) cl_4 rfl (Nat.le_of_ble_eq_true rfl) rfl rfl fl_RX4_22 rfl (Nat.le_of_ble_eq_true rfl) dX4_runSteps_157 rfl ?_
  refine e_r_iload (pc' := 162) dX4_runSteps_160 rfl rfl ?_
  obtain ⟨hb1, h⟩ := h
  refine e_r_iald (j9 := v5.toNat) (pc' := 163) rfl (Nat.le_of_ble_eq_true rfl) hb1.1 hb1.2 rfl dX4_runSteps_162 rfl ?_
  refine e_r_istore (pc' := 165) (loc' := [some (.inr (.inr 32)), some (.inr (.inr 36)), some (.inl p2), some (.inl p3), some (.inl p4), some (.inl (M 35 v5.toNat)), some (.inl v6), none]) dX4_runSteps_163 rfl rfl rfl rfl ?_
  refine e_r_iinc (pc' := 168) (loc' := [some (.inr (.inr 32)), some (.inr (.inr 36)), some (.inl p2), some (.inl p3), some (.inl p4), some (.inl (M 35 v5.toNat)), some (.inl (e_w (v6 + 1))), none]) dX4_runSteps_165 rfl rfl rfl rfl rfl ?_
  refine e_r_goto (pc' := 14) dX4_runSteps_168 rfl ?_
  exact h
theorem wp_X4_stepSucceeds_0 {X : e_X} {d gn : Nat} {o : e_O} (M : e_M) (p1 p2 : Int) (hmo : e_mn (557, gn, e_RF, M) o.2) (h : ((p1 = 0 → (∃ (r7 : Int) (N6 : e_M), e_E X d YX3_buyOff [.inr (.inr 36), .inl p2] (557, gn, e_RF, M) (.inl (some (.inl r7)), (557, gn, e_RF, N6)) ∧ ((r7 = 0 ∨ r7 = 1) ∧ o = (.inl (some (.inl r7)), (557, gn, e_RF, N6))))) ∧ (p1 = 1 → (∃ (r10 : Int) (N9 : e_M), e_E X d YX3_sellBack [.inr (.inr 36), .inl p2] (557, gn, e_RF, M) (.inl (some (.inl r10)), (557, gn, e_RF, N9)) ∧ ((r10 = 0 ∨ r10 = 1) ∧ o = (.inl (some (.inl r10)), (557, gn, e_RF, N9))))) ∧ (p1 = 2 → (∃ (r13 : Int) (N12 : e_M), e_E X d YX3_putOff [.inr (.inr 36), .inl p2] (557, gn, e_RF, M) (.inl (some (.inl r13)), (557, gn, e_RF, N12)) ∧ ((r13 = 0 ∨ r13 = 1) ∧ o = (.inl (some (.inl r13)), (557, gn, e_RF, N12))))) ∧ (p1 = 3 → (∃ (r16 : Int) (N15 : e_M), e_E X d YX3_passWeekByWork [.inr (.inr 36)] (557, gn, e_RF, M) (.inl (some (.inl r16)), (557, gn, e_RF, N15)) ∧ ((r16 = 0 ∨ r16 = 1) ∧ o = (.inl (some (.inl r16)), (557, gn, e_RF, N15))))) ∧ (p1 < 0 ∨ 3 < p1 → (o = (.inl (some (.inl 0)), (557, gn, e_RF, M)))))) : e_G X (d + 1) YX4_stepSucceeds 0 [some (.inr (.inr 36)), some (.inl p1), some (.inl p2)] [] (557, gn, e_RF, M) o := by
  refine e_r_iload_n (pc' := 1) dX4_stepSucceeds_0 rfl rfl rfl ?_
  obtain ⟨hk1, hk2, hk3, hk4, hd5⟩ := h
  refine e_r_table (tgt := 55) dX4_stepSucceeds_1 rfl (fun j => bif Nat.beq j 0 then 32 else bif Nat.beq j 1 then 38 else bif Nat.beq j 2 then 44 else 50) (fun j hj => ?_) (fun j ej hj => ?_) (fun c => ?_)
  · rcases (show j = 0 ∨ j = 1 ∨ j = 2 ∨ j = 3 by omega) with rfl | rfl | rfl | rfl
    · exact ⟨31, rfl, rfl⟩
    · exact ⟨37, rfl, rfl⟩
    · exact ⟨43, rfl, rfl⟩
    · exact ⟨49, rfl, rfl⟩
  · rcases (show j = 0 ∨ j = 1 ∨ j = 2 ∨ j = 3 by omega) with rfl | rfl | rfl | rfl
    · have h := hk1 (by omega)
      show e_G X (d + 1) YX4_stepSucceeds 32 [some (.inr (.inr 36)), some (.inl p1), some (.inl p2)] [] (557, gn, e_RF, M) o
      refine e_r_aload_n (pc' := 33) (by decide) dX4_stepSucceeds_32 rfl rfl rfl ?_
      refine e_r_iload_n (pc' := 34) dX4_stepSucceeds_33 rfl rfl rfl ?_
      obtain ⟨r7, N6, he8, h⟩ := h
      refine e_r_callV (a := 36) (av := [.inl p2]) (st := []) mqYX3_buyOff ml_RX4_95 cl_3 rfl (Nat.le_of_ble_eq_true rfl) (by simp [e_cat]) rfl rfl rfl dX4_stepSucceeds_34 (pc' := 37) rfl he8 ⟨Nat.le_refl _, Nat.le_refl _⟩ hmo ?_
      exact e_r_iret (ty := .boolean) rfl (e_nZ h.1) dX4_stepSucceeds_37 h.2
    · have h := hk2 (by omega)
      show e_G X (d + 1) YX4_stepSucceeds 38 [some (.inr (.inr 36)), some (.inl p1), some (.inl p2)] [] (557, gn, e_RF, M) o
      refine e_r_aload_n (pc' := 39) (by decide) dX4_stepSucceeds_38 rfl rfl rfl ?_
      refine e_r_iload_n (pc' := 40) dX4_stepSucceeds_39 rfl rfl rfl ?_
      obtain ⟨r10, N9, he11, h⟩ := h
      refine e_r_callV (a := 36) (av := [.inl p2]) (st := []) mqYX3_sellBack ml_RX4_101 cl_3 rfl (Nat.le_of_ble_eq_true rfl) (by simp [e_cat]) rfl rfl rfl dX4_stepSucceeds_40 (pc' := 43) rfl he11 ⟨Nat.le_refl _, Nat.le_refl _⟩ hmo ?_
      exact e_r_iret (ty := .boolean) rfl (e_nZ h.1) dX4_stepSucceeds_43 h.2
    · have h := hk3 (by omega)
      show e_G X (d + 1) YX4_stepSucceeds 44 [some (.inr (.inr 36)), some (.inl p1), some (.inl p2)] [] (557, gn, e_RF, M) o
      refine e_r_aload_n (pc' := 45) (by decide) dX4_stepSucceeds_44 rfl rfl rfl ?_
      refine e_r_iload_n (pc' := 46) dX4_stepSucceeds_45 rfl rfl rfl ?_
      obtain ⟨r13, N12, he14, h⟩ := h
      refine e_r_callV (a := 36) (av := [.inl p2]) (st := []) mqYX3_putOff ml_RX4_104 cl_3 rfl (Nat.le_of_ble_eq_true rfl) (by simp [e_cat]) rfl rfl rfl dX4_stepSucceeds_46 (pc' := 49) rfl he14 ⟨Nat.le_refl _, Nat.le_refl _⟩ hmo ?_
      exact e_r_iret (ty := .boolean) rfl (e_nZ h.1) dX4_stepSucceeds_49 h.2
    · have h := hk4 (by omega)
      show e_G X (d + 1) YX4_stepSucceeds 50 [some (.inr (.inr 36)), some (.inl p1), some (.inl p2)] [] (557, gn, e_RF, M) o
      refine e_r_aload_n (pc' := 51) (by decide) dX4_stepSucceeds_50 rfl rfl rfl ?_
      obtain ⟨r16, N15, he17, h⟩ := h
      refine e_r_callV (a := 36) (av := []) (st := []) mqYX3_passWeekByWork ml_RX4_107 cl_3 rfl (Nat.le_of_ble_eq_true rfl) (by simp [e_cat]) rfl rfl rfl dX4_stepSucceeds_51 (pc' := 54) rfl he17 ⟨Nat.le_refl _, Nat.le_refl _⟩ hmo ?_
      exact e_r_iret (ty := .boolean) rfl (e_nZ h.1) dX4_stepSucceeds_54 h.2
  · have h := hd5 c
    refine e_r_iconst (pc' := 56) dX4_stepSucceeds_55 rfl (by decide) ?_
    exact e_r_iret (ty := .boolean) rfl (e_nZ (by decide)) dX4_stepSucceeds_56 h
