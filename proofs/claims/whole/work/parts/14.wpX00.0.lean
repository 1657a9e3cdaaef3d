theorem wp_X0_drop_book_0 {X : e_X} {d gn : Nat} {o : e_O} (M : e_M) (h : (o = (.inl none, (557, gn, e_RF, (e_up (e_up M 28 0 0) 28 1 0))))) : e_G X d YX0_drop 0 [some (.inr (.inr 28))] [] (557, gn, e_RF, M) o := by
  refine e_r_aload_n (pc' := 1) (by decide) dX0_drop_0 rfl rfl rfl ?_
  refine e_r_iconst (pc' := 2) dX0_drop_1 rfl (by decide) ?_
  refine e_r_puti (k := 0) (pc' := 5) cl_0 rfl (Nat.le_of_ble_eq_true rfl) rfl rfl fl_RX0_9 rfl (by decide +kernel) dX0_drop_2 rfl ?_
  refine e_r_aload_n (pc' := 6) (by decide) dX0_drop_5 rfl rfl rfl ?_
  refine e_r_iconst (pc' := 7) dX0_drop_6 rfl (by decide) ?_
  refine e_r_puti (k := 1) (pc' := 10) cl_0 rfl (Nat.le_of_ble_eq_true rfl) rfl rfl fl_RX0_15 rfl (by decide +kernel) dX0_drop_7 rfl ?_
  exact e_r_vret rfl dX0_drop_10 h
theorem wp_X0_drop_bookDraft_0 {X : e_X} {d gn : Nat} {o : e_O} (M : e_M) (h : (o = (.inl none, (557, gn, e_RF, (e_up (e_up M 30 0 0) 30 1 0))))) : e_G X d YX0_drop 0 [some (.inr (.inr 30))] [] (557, gn, e_RF, M) o := by
  refine e_r_aload_n (pc' := 1) (by decide) dX0_drop_0 rfl rfl rfl ?_
  refine e_r_iconst (pc' := 2) dX0_drop_1 rfl (by decide) ?_
  refine e_r_puti (k := 0) (pc' := 5) cl_0 rfl (Nat.le_of_ble_eq_true rfl) rfl rfl fl_RX0_9 rfl (by decide +kernel) dX0_drop_2 rfl ?_
  refine e_r_aload_n (pc' := 6) (by decide) dX0_drop_5 rfl rfl rfl ?_
  refine e_r_iconst (pc' := 7) dX0_drop_6 rfl (by decide) ?_
  refine e_r_puti (k := 1) (pc' := 10) cl_0 rfl (Nat.le_of_ble_eq_true rfl) rfl rfl fl_RX0_15 rfl (by decide +kernel) dX0_drop_7 rfl ?_
  exact e_r_vret rfl dX0_drop_10 h
theorem wp_X0_copyFrom_book_0 {X : e_X} {d gn : Nat} {o : e_O} (M : e_M) (h : ((o = (.inl none, (557, gn, e_RF, (e_cp (e_up (e_up M 28 0 (M 30 0)) 28 1 ((e_up M 28 0 (M 30 0)) 30 1)) 31 0 29 0 6)))))) : e_G X (d + 1) YX0_copyFrom 0 [some (.inr (.inr 28)), some (.inr (.inr 30))] [] (557, gn, e_RF, M) o := by
  refine e_r_aload_n (pc' := 1) (by decide) dX0_copyFrom_0 rfl rfl rfl ?_
  refine e_r_aload_n (pc' := 2) (by decide) dX0_copyFrom_1 rfl rfl rfl ?_
  refine e_r_geti (k := 0) (pc' := 5) cl_0 rfl (Nat.le_of_ble_eq_true rfl) rfl rfl fl_RX0_9 dX0_copyFrom_2 rfl ?_
  refine e_r_puti (k := 0) (pc' := 8) cl_0 rfl (Nat.le_of_ble_eq_true rfl) rfl rfl fl_RX0_9 rfl (by decide +kernel) dX0_copyFrom_5 rfl ?_
  refine e_r_aload_n (pc' := 9) (by decide) dX0_copyFrom_8 rfl rfl rfl ?_
  refine e_r_aload_n (pc' := 10) (by decide) dX0_copyFrom_9 rfl rfl rfl ?_
  refine e_r_geti (k := 1) (pc' := 13) cl_0 rfl (Nat.le_of_ble_eq_true rfl) rfl rfl fl_RX0_15 dX0_copyFrom_10 rfl ?_
  refine e_r_puti (k := 1) (pc' := 16) cl_0 rfl (Nat.le_of_ble_eq_true rfl) rfl rfl fl_RX0_15 rfl (by decide +kernel) dX0_copyFrom_13 rfl ?_
  refine e_r_aload_n (pc' := 17) (by decide) dX0_copyFrom_16 rfl rfl rfl ?_
  refine e_r_getr (k := 2) (q := 31) (pc' := 20) cl_0 rfl (Nat.le_of_ble_eq_true rfl) rfl rfl fl_RX0_18 rfl (Nat.le_of_ble_eq_true rfl) dX0_copyFrom_17 rfl ?_
  refine e_r_iconst (pc' := 21) dX0_copyFrom_20 rfl (by decide) ?_
  refine e_r_aload_n (pc' := 22) (by decide) dX0_copyFrom_21 rfl rfl rfl ?_
  refine e_r_getr (k := 2) (q := 29) (pc' := 25) cl_0 rfl (Nat.le_of_ble_eq_true rfl) rfl rfl fl_RX0_18 rfl (Nat.le_of_ble_eq_true rfl) dX0_copyFrom_22 rfl ?_
  refine e_r_iconst (pc' := 26) dX0_copyFrom_25 rfl (by decide) ?_
  refine e_r_bipush (pc' := 28) dX0_copyFrom_26 rfl (by decide) ?_
  refine e_r_copy (pc' := 31) rfl rfl (Nat.le_of_ble_eq_true rfl) (Nat.le_of_ble_eq_true rfl) (by decide) (by decide) (by decide) (by decide) (by decide) lk_RX0_22 rfl dX0_copyFrom_28 rfl ?_
  exact e_r_vret rfl dX0_copyFrom_31 h
theorem wp_X0_readFrom_bookDraft_0 {X : e_X} {d gn : Nat} {o : e_O} (M : e_M) (p2 : Int) (hmo : e_mn (557, gn, e_RF, M) o.2) (h : (∃ N1 : e_M, e_E X d YX0_drop [.inr (.inr 30)] (557, gn, e_RF, M) (.inl none, (557, gn, e_RF, N1)) ∧ e_G X (d + 1) YX0_readFrom 6 [some (.inr (.inr 30)), some (.inr (.inr 2)), some (.inl p2), some (.inl 0), none, none] [] (557, gn, e_RF, N1) o)) : e_G X (d + 1) YX0_readFrom 0 [some (.inr (.inr 30)), some (.inr (.inr 2)), some (.inl p2), none, none, none] [] (557, gn, e_RF, M) o := by
  refine e_r_aload_n (pc' := 1) (by decide) dX0_readFrom_0 rfl rfl rfl ?_
  obtain ⟨N1, he2, h⟩ := h
  refine e_r_callV (a := 30) (av := []) (st := []) mqYX0_drop ml_RX0_28 cl_0 rfl (Nat.le_of_ble_eq_true rfl) (by simp [e_cat]) rfl rfl rfl dX0_readFrom_1 (pc' := 4) rfl he2 ⟨Nat.le_refl _, Nat.le_refl _⟩ hmo ?_
  refine e_r_iconst (pc' := 5) dX0_readFrom_4 rfl (by decide) ?_
  refine e_r_istore_n (pc' := 6) (loc' := [some (.inr (.inr 30)), some (.inr (.inr 2)), some (.inl p2), some (.inl 0), none, none]) dX0_readFrom_5 rfl rfl rfl rfl rfl ?_
  exact h
theorem wp_X0_readFrom_bookDraft_6 {X : e_X} {d gn : Nat} {o : e_O} (M : e_M) (p2 v3 : Int) (hmo : e_mn (557, gn, e_RF, M) o.2) (h : ((6 < v3 → (o = (.inl none, (557, gn, e_RF, M)))) ∧ (¬ (6 < v3) → (∃ (r4 : Int) (N3 : e_M), e_E X d YX7_flawed [.inr (.inr 2)] (557, gn, e_RF, M) (.inl (some (.inl r4)), (557, gn, e_RF, N3)) ∧ ((¬ r4 = 0 → (o = (.inl none, (557, gn, e_RF, N3)))) ∧ (r4 = 0 → (∃ (r9 : Int) (N8 : e_M), e_E X d YX7_atEnd [.inr (.inr 2)] (557, gn, e_RF, N3) (.inl (some (.inl r9)), (557, gn, e_RF, N8)) ∧ ((¬ r9 = 0 → (o = (.inl none, (557, gn, e_RF, N8)))) ∧ (r9 = 0 → (∃ (r14 : Int) (N13 : e_M), e_E X d YX7_readNumber [.inr (.inr 2), .inl 0, .inl (e_w (p2 - 1))] (557, gn, e_RF, N8) (.inl (some (.inl r14)), (557, gn, e_RF, N13)) ∧ ((r14 = (-1) → e_G X (d + 1) YX0_readFrom 60 [some (.inr (.inr 30)), some (.inr (.inr 2)), some (.inl p2), some (.inl v3), some (.inl r14), none] [] (557, gn, e_RF, N13) o) ∧ (¬ (r14 = (-1)) → (∃ (r19 : Int) (N18 : e_M), e_E X d YX0_hasLine [.inr (.inr 30), .inl r14] (557, gn, e_RF, N13) (.inl (some (.inl r19)), (557, gn, e_RF, N18)) ∧ ((r19 = 0 → e_G X (d + 1) YX0_readFrom 60 [some (.inr (.inr 30)), some (.inr (.inr 2)), some (.inl p2), some (.inl v3), some (.inl r14), none] [] (557, gn, e_RF, N18) o) ∧ (¬ (r19 = 0) → (∃ N23 : e_M, e_E X d YX7_noteFlaw [.inr (.inr 2), .inl 2, .inl (N18 2 6)] (557, gn, e_RF, N18) (.inl none, (557, gn, e_RF, N23)) ∧ e_G X (d + 1) YX0_readFrom 60 [some (.inr (.inr 30)), some (.inr (.inr 2)), some (.inl p2), some (.inl v3), some (.inl r14), none] [] (557, gn, e_RF, N23) o)))))))))))))))) : e_G X (d + 1) YX0_readFrom 6 [some (.inr (.inr 30)), some (.inr (.inr 2)), some (.inl p2), some (.inl v3), none, none] [] (557, gn, e_RF, M) o := by
  refine e_r_iload_n (pc' := 7) dX0_readFrom_6 rfl rfl rfl ?_
  refine e_r_bipush (pc' := 9) dX0_readFrom_7 rfl (by decide) ?_
  obtain ⟨ht1, hf2⟩ := h
  refine e_r_icmp_gt (tgt := 121) (pc' := 12) dX0_readFrom_9 rfl rfl (fun c => ?_) (fun c => ?_)
  · have h := ht1 c
    exact e_r_vret rfl dX0_readFrom_121 h
  · have h := hf2 c
    refine e_r_aload_n (pc' := 13) (by decide) dX0_readFrom_12 rfl rfl rfl ?_
    obtain ⟨r4, N3, he5, h⟩ := h
    refine e_r_callV (a := 2) (av := []) (st := []) mqYX7_flawed ml_RX0_31 cl_7 rfl (Nat.le_of_ble_eq_true rfl) (by simp [e_cat]) rfl rfl rfl dX0_readFrom_13 (pc' := 16) rfl he5 ⟨Nat.le_refl _, Nat.le_refl _⟩ hmo ?_
    obtain ⟨ht6, hf7⟩ := h
    refine e_r_if_ne (tgt := 121) (pc' := 19) dX0_readFrom_16 rfl rfl (fun c => ?_) (fun c => ?_)
    · have h := ht6 c
      exact e_r_vret rfl dX0_readFrom_121 h
    · have h := hf7 c
      refine e_r_aload_n (pc' := 20) (by decide) dX0_readFrom_19 rfl rfl rfl ?_
      obtain ⟨r9, N8, he10, h⟩ := h
      refine e_r_callV (a := 2) (av := []) (st := []) mqYX7_atEnd ml_RX0_37 cl_7 rfl (Nat.le_of_ble_eq_true rfl) (by simp [e_cat]) rfl rfl rfl dX0_readFrom_20 (pc' := 23) rfl he10 ⟨Nat.le_refl _, Nat.le_refl _⟩ hmo ?_
      obtain ⟨ht11, hf12⟩ := h
      refine e_r_if_ne (tgt := 121) (pc' := 26) dX0_readFrom_23 rfl rfl (fun c => ?_) (fun c => ?_)
      · have h := ht11 c
        exact e_r_vret rfl dX0_readFrom_121 h
      · have h := hf12 c
        refine e_r_aload_n (pc' := 27) (by decide) dX0_readFrom_26 rfl rfl rfl ?_
        refine e_r_iconst (pc' := 28) dX0_readFrom_27 rfl (by decide) ?_
        refine e_r_iload_n (pc' := 29) dX0_readFrom_28 rfl rfl rfl ?_
        refine e_r_iconst (pc' := 30) dX0_readFrom_29 rfl (by decide) ?_
        refine e_r_isub (pc' := 31) dX0_readFrom_30 rfl ?_
        obtain ⟨r14, N13, he15, h⟩ := h
        refine e_r_callV (a := 2) (av := [.inl 0, .inl (e_w (p2 - 1))]) (st := []) mqYX7_readNumber ml_RX0_40 cl_7 rfl (Nat.le_of_ble_eq_true rfl) (by simp [e_cat]) rfl rfl rfl dX0_readFrom_31 (pc' := 34) rfl he15 ⟨Nat.le_refl _, Nat.le_refl _⟩ hmo ?_
        refine e_r_istore (pc' := 36) (loc' := [some (.inr (.inr 30)), some (.inr (.inr 2)), some (.inl p2), some (.inl v3), some (.inl r14), none]) dX0_readFrom_34 rfl rfl rfl rfl ?_
        refine e_r_iload (pc' := 38) dX0_readFrom_36 rfl rfl ?_
        refine e_r_iconst (pc' := 39) dX0_readFrom_38 rfl (by decide) ?_
        obtain ⟨ht16, hf17⟩ := h
        refine e_r_icmp_eq (tgt := 60) (pc' := 42) dX0_readFrom_39 rfl rfl (fun c => ?_) (fun c => ?_)
        · have h := ht16 c
          exact h
        · have h := hf17 c
          refine e_r_aload_n (pc' := 43) (by decide) dX0_readFrom_42 rfl rfl rfl ?_
          refine e_r_iload (pc' := 45) dX0_readFrom_43 rfl rfl ?_
          obtain ⟨r19, N18, he20, h⟩ := h
          refine e_r_callV (a := 30) (av := [.inl r14]) (st := []) mqYX0_hasLine ml_RX0_44 cl_0 rfl (Nat.le_of_ble_eq_true rfl) (by simp [e_cat]) rfl rfl rfl dX0_readFrom_45 (pc' := 48) rfl he20 ⟨Nat.le_refl _, Nat.le_refl _⟩ hmo ?_
          obtain ⟨ht21, hf22⟩ := h
          refine e_r_if_eq (tgt := 60) (pc' := 51) dX0_readFrom_48 rfl rfl (fun c => ?_) (fun c => ?_)
          · have h := ht21 c
            exact h
          · have h := hf22 c
            refine e_r_aload_n (pc' := 52) (by decide) dX0_readFrom_51 rfl rfl rfl ?_
            refine e_r_iconst (pc' := 53) dX0_readFrom_52 rfl (by decide) ?_
            refine e_r_aload_n (pc' := 54) (by decide) dX0_readFrom_53 rfl rfl rfl ?_
            refine e_r_geti (k := 6) (pc' := 57) cl_7 rfl (Nat.le_of_ble_eq_true rfl) rfl rfl fl_RX0_48 dX0_readFrom_54 rfl ?_
            obtain ⟨N23, he24, h⟩ := h
            refine e_r_callV (a := 2) (av := [.inl 2, .inl (N18 2 6)]) (st := []) mqYX7_noteFlaw ml_RX0_51 cl_7 rfl (Nat.le_of_ble_eq_true rfl) (by simp [e_cat]) rfl rfl rfl dX0_readFrom_57 (pc' := 60) rfl he24 ⟨Nat.le_refl _, Nat.le_refl _⟩ hmo ?_
            exact h
theorem wp_X0_readFrom_bookDraft_60 {X : e_X} {d gn : Nat} {o : e_O} (M : e_M) (p2 v3 v4 : Int) (hmo : e_mn (557, gn, e_RF, M) o.2) (h : (∃ (r2 : Int) (N1 : e_M), e_E X d YX7_readNumber [.inr (.inr 2), .inl 0, .inl 140] (557, gn, e_RF, M) (.inl (some (.inl r2)), (557, gn, e_RF, N1)) ∧ (∃ N4 : e_M, e_E X d YX7_expectSign [.inr (.inr 2), .inl 59] (557, gn, e_RF, N1) (.inl none, (557, gn, e_RF, N4)) ∧ (∃ (r7 : Int) (N6 : e_M), e_E X d YX7_flawed [.inr (.inr 2)] (557, gn, e_RF, N4) (.inl (some (.inl r7)), (557, gn, e_RF, N6)) ∧ ((¬ r7 = 0 → e_G X (d + 1) YX0_readFrom 6 [some (.inr (.inr 30)), some (.inr (.inr 2)), some (.inl p2), some (.inl (e_w (v3 + 1))), none, none] [] (557, gn, e_RF, N6) o) ∧ (r7 = 0 → ((0 ≤ v4 ∧ v4 < 6) ∧ e_G X (d + 1) YX0_readFrom 6 [some (.inr (.inr 30)), some (.inr (.inr 2)), some (.inl p2), some (.inl (e_w (v3 + 1))), none, none] [] (557, gn, e_RF, (e_up (e_up (e_up N6 31 v4.toNat r2) 30 1 (e_or ((e_up N6 31 v4.toNat r2) 30 1) (e_shl 1 v4))) 30 0 (e_w (((e_up (e_up N6 31 v4.toNat r2) 30 1 (e_or ((e_up N6 31 v4.toNat r2) 30 1) (e_shl 1 v4))) 30 0) + 1)))) o))))))) : e_G X (d + 1) YX0_readFrom 60 [some (.inr (.inr 30)), some (.inr (.inr 2)), some (.inl p2), some (.inl v3), some (.inl v4), none] [] (557, gn, e_RF, M) o := by
  refine e_r_aload_n (pc' := 61) (by decide) dX0_readFrom_60 rfl rfl rfl ?_
  refine e_r_iconst (pc' := 62) dX0_readFrom_61 rfl (by decide) ?_
  refine e_r_sipush (pc' := 65) dX0_readFrom_62 rfl (by decide) ?_
  obtain ⟨r2, N1, he3, h⟩ := h
  refine e_r_callV (a := 2) (av := [.inl 0, .inl 140]) (st := []) mqYX7_readNumber ml_RX0_40 cl_7 rfl (Nat.le_of_ble_eq_true rfl) (by simp [e_cat]) rfl rfl rfl dX0_readFrom_65 (pc' := 68) rfl he3 ⟨Nat.le_refl _, Nat.le_refl _⟩ hmo ?_
  refine e_r_istore (pc' := 70) (loc' := [some (.inr (.inr 30)), some (.inr (.inr 2)), some (.inl p2), some (.inl v3), some (.inl v4), some (.inl r2)]) dX0_readFrom_68 rfl rfl rfl rfl ?_
  refine e_r_aload_n (pc' := 71) (by decide) dX0_readFrom_70 rfl rfl rfl ?_
  refine e_r_bipush (pc' := 73) dX0_readFrom_71 rfl (by decide) ?_
  obtain ⟨N4, he5, h⟩ := h
  refine e_r_callV (a := 2) (av := [.inl 59]) (st := []) mqYX7_expectSign ml_RX0_55 cl_7 rfl (Nat.le_of_ble_eq_true rfl) (by simp [e_cat]) rfl rfl rfl dX0_readFrom_73 (pc' := 76) rfl he5 ⟨Nat.le_refl _, Nat.le_refl _⟩ hmo ?_
  refine e_r_aload_n (pc' := 77) (by decide) dX0_readFrom_76 rfl rfl rfl ?_
  obtain ⟨r7, N6, he8, h⟩ := h
  refine e_r_callV (a := 2) (av := []) (st := []) mqYX7_flawed ml_RX0_31 cl_7 rfl (Nat.le_of_ble_eq_true rfl) (by simp [e_cat]) rfl rfl rfl dX0_readFrom_77 (pc' := 80) rfl he8 ⟨Nat.le_refl _, Nat.le_refl _⟩ hmo ?_
  obtain ⟨ht9, hf10⟩ := h
  refine e_r_if_ne (tgt := 115) (pc' := 83) dX0_readFrom_80 rfl rfl (fun c => ?_) (fun c => ?_)
  · have h := ht9 c
    refine e_r_iinc (pc' := 118) (loc' := [some (.inr (.inr 30)), some (.inr (.inr 2)), some (.inl p2), some (.inl (e_w (v3 + 1))), some (.inl v4), some (.inl r2)]) dX0_readFrom_115 rfl rfl rfl rfl rfl ?_
    refine e_r_goto (pc' := 6) dX0_readFrom_118 rfl ?_
    exact e_forget (m := [true, true, true, true, false, false]) h rfl
  · have h := hf10 c
    refine e_r_aload_n (pc' := 84) (by decide) dX0_readFrom_83 rfl rfl rfl ?_
    refine e_r_getr (k := 2) (q := 31) (pc' := 87) cl_0 rfl (Nat.le_of_ble_eq_true rfl) rfl rfl fl_RX0_18 rfl (Nat.le_of_ble_eq_true rfl) dX0_readFrom_84 rfl ?_
    refine e_r_iload (pc' := 89) dX0_readFrom_87 rfl rfl ?_
    refine e_r_iload (pc' := 91) dX0_readFrom_89 rfl rfl ?_
    obtain ⟨hb11, h⟩ := h
    refine e_r_iast (j9 := v4.toNat) (pc' := 92) rfl (Nat.le_of_ble_eq_true rfl) hb11.1 hb11.2 rfl dX0_readFrom_91 rfl ?_
    refine e_r_aload_n (pc' := 93) (by decide) dX0_readFrom_92 rfl rfl rfl ?_
    refine e_r_dup (pc' := 94) rfl dX0_readFrom_93 rfl ?_
    refine e_r_geti (k := 1) (pc' := 97) cl_0 rfl (Nat.le_of_ble_eq_true rfl) rfl rfl fl_RX0_15 dX0_readFrom_94 rfl ?_
    refine e_r_iconst (pc' := 98) dX0_readFrom_97 rfl (by decide) ?_
    refine e_r_iload (pc' := 100) dX0_readFrom_98 rfl rfl ?_
    refine e_r_ishl (pc' := 101) dX0_readFrom_100 rfl ?_
    refine e_r_ior (pc' := 102) dX0_readFrom_101 rfl ?_
    refine e_r_puti (k := 1) (pc' := 105) cl_0 rfl (Nat.le_of_ble_eq_true rfl) rfl rfl fl_RX0_15 rfl (by decide +kernel) dX0_readFrom_102 rfl ?_
    refine e_r_aload_n (pc' := 106) (by decide) dX0_readFrom_105 rfl rfl rfl ?_
    refine e_r_dup (pc' := 107) rfl dX0_readFrom_106 rfl ?_
    refine e_r_geti (k := 0) (pc' := 110) cl_0 rfl (Nat.le_of_ble_eq_true rfl) rfl rfl fl_RX0_9 dX0_readFrom_107 rfl ?_
    refine e_r_iconst (pc' := 111) dX0_readFrom_110 rfl (by decide) ?_
    refine e_r_iadd (pc' := 112) dX0_readFrom_111 rfl ?_
    refine e_r_puti (k := 0) (pc' := 115) cl_0 rfl (Nat.le_of_ble_eq_true rfl) rfl rfl fl_RX0_9 rfl (by decide +kernel) dX0_readFrom_112 rfl ?_
    refine e_r_iinc (pc' := 118) (loc' := [some (.inr (.inr 30)), some (.inr (.inr 2)), some (.inl p2), some (.inl (e_w (v3 + 1))), some (.inl v4), some (.inl r2)]) dX0_readFrom_115 rfl rfl rfl rfl rfl ?_
    refine e_r_goto (pc' := 6) dX0_readFrom_118 rfl ?_
    exact e_forget (m := [true, true, true, true, false, false]) h rfl
theorem wp_X0_hasLine_book_0 {X : e_X} {d gn : Nat} {o : e_O} (M : e_M) (p1 : Int) (h : (((e_and (e_shr (M 28 1) p1) 1) = 0 → (o = (.inl (some (.inl 0)), (557, gn, e_RF, M)))) ∧ (¬ ((e_and (e_shr (M 28 1) p1) 1) = 0) → (o = (.inl (some (.inl 1)), (557, gn, e_RF, M)))))) : e_G X d YX0_hasLine 0 [some (.inr (.inr 28)), some (.inl p1)] [] (557, gn, e_RF, M) o := by
  refine e_r_aload_n (pc' := 1) (by decide) dX0_hasLine_0 rfl rfl rfl ?_
  refine e_r_geti (k := 1) (pc' := 4) cl_0 rfl (Nat.le_of_ble_eq_true rfl) rfl rfl fl_RX0_15 dX0_hasLine_1 rfl ?_
  refine e_r_iload_n (pc' := 5) dX0_hasLine_4 rfl rfl rfl ?_
  refine e_r_ishr (pc' := 6) dX0_hasLine_5 rfl ?_
  refine e_r_iconst (pc' := 7) dX0_hasLine_6 rfl (by decide) ?_
  refine e_r_iand (pc' := 8) dX0_hasLine_7 rfl ?_
  obtain ⟨ht1, hf2⟩ := h
  refine e_r_if_eq (tgt := 15) (pc' := 11) dX0_hasLine_8 rfl rfl (fun c => ?_) (fun c => ?_)
  · have h := ht1 c
    refine e_r_iconst (pc' := 16) dX0_hasLine_15 rfl (by decide) ?_
    exact e_r_iret (ty := .boolean) rfl (e_nZ (by decide)) dX0_hasLine_16 h
  · have h := hf2 c
    refine e_r_iconst (pc' := 12) dX0_hasLine_11 rfl (by decide) ?_
    refine e_r_goto (pc' := 16) dX0_hasLine_12 rfl ?_
    exact e_r_iret (ty := .boolean) rfl (e_nZ (by decide)) dX0_hasLine_16 h
theorem wp_X0_hasLine_bookDraft_0 {X : e_X} {d gn : Nat} {o : e_O} (M : e_M) (p1 : Int) (h : (((e_and (e_shr (M 30 1) p1) 1) = 0 → (o = (.inl (some (.inl 0)), (557, gn, e_RF, M)))) ∧ (¬ ((e_and (e_shr (M 30 1) p1) 1) = 0) → (o = (.inl (some (.inl 1)), (557, gn, e_RF, M)))))) : e_G X d YX0_hasLine 0 [some (.inr (.inr 30)), some (.inl p1)] [] (557, gn, e_RF, M) o := by
  refine e_r_aload_n (pc' := 1) (by decide) dX0_hasLine_0 rfl rfl rfl ?_
  refine e_r_geti (k := 1) (pc' := 4) cl_0 rfl (Nat.le_of_ble_eq_true rfl) rfl rfl fl_RX0_15 dX0_hasLine_1 rfl ?_
  refine e_r_iload_n (pc' := 5) dX0_hasLine_4 rfl rfl rfl ?_
  refine e_r_ishr (pc' := 6) dX0_hasLine_5 rfl ?_
  refine e_r_iconst (pc' := 7) dX0_hasLine_6 rfl (by decide) ?_
  refine e_r_iand (pc' := 8) dX0_hasLine_7 rfl ?_
  obtain ⟨ht1, hf2⟩ := h
  refine e_r_if_eq (tgt := 15) (pc' := 11) dX0_hasLine_8 rfl rfl (fun c => ?_) (fun c => ?_)
  · have h := ht1 c
    refine e_r_iconst (pc' := 16) dX0_hasLine_15 rfl (by decide) ?_
    exact e_r_iret (ty := .boolean) rfl (e_nZ (by decide)) dX0_hasLine_16 h
  · have h := hf2 c
    refine e_r_iconst (pc' := 12) dX0_hasLine_11 rfl (by decide) ?_
    refine e_r_goto (pc' := 16) dX0_hasLine_12 rfl ?_
    exact e_r_iret (ty := .boolean) rfl (e_nZ (by decide)) dX0_hasLine_16 h
theorem wp_X0_hasBoth_book_0 {X : e_X} {d gn : Nat} {o : e_O} (M : e_M) (p1 p2 : Int) (hmo : e_mn (557, gn, e_RF, M) o.2) (h : (∃ (r2 : Int) (N1 : e_M), e_E X d YX0_hasLine [.inr (.inr 28), .inl p1] (557, gn, e_RF, M) (.inl (some (.inl r2)), (557, gn, e_RF, N1)) ∧ ((r2 = 0 → (o = (.inl (some (.inl 0)), (557, gn, e_RF, N1)))) ∧ (¬ (r2 = 0) → (∃ (r7 : Int) (N6 : e_M), e_E X d YX0_hasLine [.inr (.inr 28), .inl p2] (557, gn, e_RF, N1) (.inl (some (.inl r7)), (557, gn, e_RF, N6)) ∧ ((r7 = 0 → (o = (.inl (some (.inl 0)), (557, gn, e_RF, N6)))) ∧ (¬ (r7 = 0) → (o = (.inl (some (.inl 1)), (557, gn, e_RF, N6)))))))))) : e_G X (d + 1) YX0_hasBoth 0 [some (.inr (.inr 28)), some (.inl p1), some (.inl p2)] [] (557, gn, e_RF, M) o := by
  refine e_r_aload_n (pc' := 1) (by decide) dX0_hasBoth_0 rfl rfl rfl ?_
  refine e_r_iload_n (pc' := 2) dX0_hasBoth_1 rfl rfl rfl ?_
  obtain ⟨r2, N1, he3, h⟩ := h
  refine e_r_callV (a := 28) (av := [.inl p1]) (st := []) mqYX0_hasLine ml_RX0_44 cl_0 rfl (Nat.le_of_ble_eq_true rfl) (by simp [e_cat]) rfl rfl rfl dX0_hasBoth_2 (pc' := 5) rfl he3 ⟨Nat.le_refl _, Nat.le_refl _⟩ hmo ?_
  obtain ⟨ht4, hf5⟩ := h
  refine e_r_if_eq (tgt := 20) (pc' := 8) dX0_hasBoth_5 rfl rfl (fun c => ?_) (fun c => ?_)
  · have h := ht4 c
    refine e_r_iconst (pc' := 21) dX0_hasBoth_20 rfl (by decide) ?_
    exact e_r_iret (ty := .boolean) rfl (e_nZ (by decide)) dX0_hasBoth_21 h
  · have h := hf5 c
    refine e_r_aload_n (pc' := 9) (by decide) dX0_hasBoth_8 rfl rfl rfl ?_
    refine e_r_iload_n (pc' := 10) dX0_hasBoth_9 rfl rfl rfl ?_
    obtain ⟨r7, N6, he8, h⟩ := h
    refine e_r_callV (a := 28) (av := [.inl p2]) (st := []) mqYX0_hasLine ml_RX0_44 cl_0 rfl (Nat.le_of_ble_eq_true rfl) (by simp [e_cat]) rfl rfl rfl dX0_hasBoth_10 (pc' := 13) rfl he8 ⟨Nat.le_refl _, Nat.le_refl _⟩ hmo ?_
    obtain ⟨ht9, hf10⟩ := h
    refine e_r_if_eq (tgt := 20) (pc' := 16) dX0_hasBoth_13 rfl rfl (fun c => ?_) (fun c => ?_)
    · have h := ht9 c
      refine e_r_iconst (pc' := 21) dX0_hasBoth_20 rfl (by decide) ?_
      exact e_r_iret (ty := .boolean) rfl (e_nZ (by decide)) dX0_hasBoth_21 h
    · have h := hf10 c
      refine e_r_iconst (pc' := 17) dX0_hasBoth_16 rfl (by decide) ?_
      refine e_r_goto (pc' := 21) dX0_hasBoth_17 rfl ?_
      exact e_r_iret (ty := .boolean) rfl (e_nZ (by decide)) dX0_hasBoth_21 h
theorem wp_X0_hasBoth_bookDraft_0 {X : e_X} {d gn : Nat} {o : e_O} (M : e_M) (p1 p2 : Int) (hmo : e_mn (557, gn, e_RF, M) o.2) (h : (∃ (r2 : Int) (N1 : e_M), e_E X d YX0_hasLine [.inr (.inr 30), .inl p1] (557, gn, e_RF, M) (.inl (some (.inl r2)), (557, gn, e_RF, N1)) ∧ ((r2 = 0 → (o = (.inl (some (.inl 0)), (557, gn, e_RF, N1)))) ∧ (¬ (r2 = 0) → (∃ (r7 : Int) (N6 : e_M), e_E X d YX0_hasLine [.inr (.inr 30), .inl p2] (557, gn, e_RF, N1) (.inl (some (.inl r7)), (557, gn, e_RF, N6)) ∧ ((r7 = 0 → (o = (.inl (some (.inl 0)), (557, gn, e_RF, N6)))) ∧ (¬ (r7 = 0) → (o = (.inl (some (.inl 1)), (557, gn, e_RF, N6)))))))))) : e_G X (d + 1) YX0_hasBoth 0 [some (.inr (.inr 30)), some (.inl p1), some (.inl p2)] [] (557, gn, e_RF, M) o := by
  refine e_r_aload_n (pc' := 1) (by decide) dX0_hasBoth_0 rfl rfl rfl ?_
  refine e_r_iload_n (pc' := 2) dX0_hasBoth_1 rfl rfl rfl ?_
  obtain ⟨r2, N1, he3, h⟩ := h
  refine e_r_callV (a := 30) (av := [.inl p1]) (st := []) mqYX0_hasLine ml_RX0_44 cl_0 rfl (Nat.le_of_ble_eq_true rfl) (by simp [e_cat]) rfl rfl rfl dX0_hasBoth_2 (pc' := 5) rfl he3 ⟨Nat.le_refl _, Nat.le_refl _⟩ hmo ?_
  obtain ⟨ht4, hf5⟩ := h
  refine e_r_if_eq (tgt := 20) (pc' := 8) dX0_hasBoth_5 rfl rfl (fun c => ?_) (fun c => ?_)
  · have h := ht4 c
    refine e_r_iconst (pc' := 21) dX0_hasBoth_20 rfl (by decide) ?_
    exact e_r_iret (ty := .boolean) rfl (e_nZ (by decide)) dX0_hasBoth_21 h
  · have h := hf5 c
    refine e_r_aload_n (pc' := 9) (by decide) dX0_hasBoth_8 rfl rfl rfl ?_
    refine e_r_iload_n (pc' := 10) dX0_hasBoth_9 rfl rfl rfl ?_
    obtain ⟨r7, N6, he8, h⟩ := h
    refine e_r_callV (a := 30) (av := [.inl p2]) (st := []) mqYX0_hasLine ml_RX0_44 cl_0 rfl (Nat.le_of_ble_eq_true rfl) (by simp [e_cat]) rfl rfl rfl dX0_hasBoth_10 (pc' := 13) rfl he8 ⟨Nat.le_refl _, Nat.le_refl _⟩ hmo ?_
    obtain ⟨ht9, hf10⟩ := h
    refine e_r_if_eq (tgt := 20) (pc' := 16) dX0_hasBoth_13 rfl rfl (fun c => ?_) (fun c => ?_)
    · have h := ht9 c
      refine e_r_iconst (pc' := 21) dX0_hasBoth_20 rfl (by decide) ?_
      exact e_r_iret (ty := .boolean) rfl (e_nZ (by decide)) dX0_hasBoth_21 h
    · have h := hf10 c
      refine e_r_iconst (pc' := 17) dX0_hasBoth_16 rfl (by decide) ?_
      refine e_r_goto (pc' := 21) dX0_hasBoth_17 rfl ?_
      exact e_r_iret (ty := .boolean) rfl (e_nZ (by decide)) dX0_hasBoth_21 h
theorem wp_X0_mondaysHad_book_0 {X : e_X} {d gn : Nat} {o : e_O} (M : e_M) (p1 p2 : Int) (h : ((0 ≤ p1 ∧ p1 < 6) ∧ (((e_w ((M 29 p1.toNat) - (e_w (6 * p2)))) < 0 → (o = (.inl (some (.inl (-1))), (557, gn, e_RF, M)))) ∧ (¬ ((e_w ((M 29 p1.toNat) - (e_w (6 * p2)))) < 0) → ((p2 < (e_w ((M 29 p1.toNat) - (e_w (6 * p2)))) → (o = (.inl (some (.inl (-1))), (557, gn, e_RF, M)))) ∧ (¬ (p2 < (e_w ((M 29 p1.toNat) - (e_w (6 * p2))))) → (o = (.inl (some (.inl (e_w ((M 29 p1.toNat) - (e_w (6 * p2)))))), (557, gn, e_RF, M))))))))) : e_G X d YX0_mondaysHad 0 [some (.inr (.inr 28)), some (.inl p1), some (.inl p2), none] [] (557, gn, e_RF, M) o := by
  refine e_r_aload_n (pc' := 1) (by decide) dX0_mondaysHad_0 rfl rfl rfl ?_
  refine e_r_getr (k := 2) (q := 29) (pc' := 4) cl_0 rfl (Nat.le_of_ble_eq_true rfl) rfl rfl fl_RX0_18 rfl (Nat.le_of_ble_eq_true rfl) dX0_mondaysHad_1 rfl ?_
  refine e_r_iload_n (pc' := 5) dX0_mondaysHad_4 rfl rfl rfl ?_
  obtain ⟨hb1, h⟩ := h
  refine e_r_iald (j9 := p1.toNat) (pc' := 6) rfl (Nat.le_of_ble_eq_true rfl) hb1.1 hb1.2 rfl dX0_mondaysHad_5 rfl ?_
  refine e_r_bipush (pc' := 8) dX0_mondaysHad_6 rfl (by decide) ?_
  refine e_r_iload_n (pc' := 9) dX0_mondaysHad_8 rfl rfl rfl ?_
  refine e_r_imul (pc' := 10) dX0_mondaysHad_9 rfl ?_
  refine e_r_isub (pc' := 11) dX0_mondaysHad_10 rfl ?_
  refine e_r_istore_n (pc' := 12) (loc' := [some (.inr (.inr 28)), some (.inl p1), some (.inl p2), some (.inl (e_w ((M 29 p1.toNat) - (e_w (6 * p2)))))]) dX0_mondaysHad_11 rfl rfl rfl rfl rfl ?_
  refine e_r_iload_n (pc' := 13) dX0_mondaysHad_12 rfl rfl rfl ?_
  obtain ⟨ht2, hf3⟩ := h
  refine e_r_if_lt (tgt := 25) (pc' := 16) dX0_mondaysHad_13 rfl rfl (fun c => ?_) (fun c => ?_)
  · have h := ht2 c
    refine e_r_iconst (pc' := 26) dX0_mondaysHad_25 rfl (by decide) ?_
    exact e_r_iret (ty := .int) rfl (e_nI _) dX0_mondaysHad_26 h
  · have h := hf3 c
    refine e_r_iload_n (pc' := 17) dX0_mondaysHad_16 rfl rfl rfl ?_
    refine e_r_iload_n (pc' := 18) dX0_mondaysHad_17 rfl rfl rfl ?_
    obtain ⟨ht4, hf5⟩ := h
    refine e_r_icmp_gt (tgt := 25) (pc' := 21) dX0_mondaysHad_18 rfl rfl (fun c => ?_) (fun c => ?_)
    · have h := ht4 c
      refine e_r_iconst (pc' := 26) dX0_mondaysHad_25 rfl (by decide) ?_
      exact e_r_iret (ty := .int) rfl (e_nI _) dX0_mondaysHad_26 h
    · have h := hf5 c
      refine e_r_iload_n (pc' := 22) dX0_mondaysHad_21 rfl rfl rfl ?_
      refine e_r_goto (pc' := 26) dX0_mondaysHad_22 rfl ?_
      exact e_r_iret (ty := .int) rfl (e_nI _) dX0_mondaysHad_26 h
theorem wp_X0_mondaysHad_bookDraft_0 {X : e_X} {d gn : Nat} {o : e_O} (M : e_M) (p1 p2 : Int) (h : ((0 ≤ p1 ∧ p1 < 6) ∧ (((e_w ((M 31 p1.toNat) - (e_w (6 * p2)))) < 0 → (o = (.inl (some (.inl (-1))), (557, gn, e_RF, M)))) ∧ (¬ ((e_w ((M 31 p1.toNat) - (e_w (6 * p2)))) < 0) → ((p2 < (e_w ((M 31 p1.toNat) - (e_w (6 * p2)))) → (o = (.inl (some (.inl (-1))), (557, gn, e_RF, M)))) ∧ (¬ (p2 < (e_w ((M 31 p1.toNat) - (e_w (6 * p2))))) → (o = (.inl (some (.inl (e_w ((M 31 p1.toNat) - (e_w (6 * p2)))))), (557, gn, e_RF, M))))))))) : e_G X d YX0_mondaysHad 0 [some (.inr (.inr 30)), some (.inl p1), some (.inl p2), none] [] (557, gn, e_RF, M) o := by
  refine e_r_aload_n (pc' := 1) (by decide) dX0_mondaysHad_0 rfl rfl rfl ?_
  refine e_r_getr (k := 2) (q := 31) (pc' := 4) cl_0 rfl (Nat.le_of_ble_eq_true rfl) rfl rfl fl_RX0_18 rfl (Nat.le_of_ble_eq_true rfl) dX0_mondaysHad_1 rfl ?_
  refine e_r_iload_n (pc' := 5) dX0_mondaysHad_4 rfl rfl rfl ?_
  obtain ⟨hb1, h⟩ := h
  refine e_r_iald (j9 := p1.toNat) (pc' := 6) rfl (Nat.le_of_ble_eq_true rfl) hb1.1 hb1.2 rfl dX0_mondaysHad_5 rfl ?_
  refine e_r_bipush (pc' := 8) dX0_mondaysHad_6 rfl (by decide) ?_
  refine e_r_iload_n (pc' := 9) dX0_mondaysHad_8 rfl rfl rfl ?_
  refine e_r_imul (pc' := 10) dX0_mondaysHad_9 rfl ?_
  refine e_r_isub (pc' := 11) dX0_mondaysHad_10 rfl ?_
  refine e_r_istore_n (pc' := 12) (loc' := [some (.inr (.inr 30)), some (.inl p1), some (.inl p2), some (.inl (e_w ((M 31 p1.toNat) - (e_w (6 * p2)))))]) dX0_mondaysHad_11 rfl rfl rfl rfl rfl ?_
  refine e_r_iload_n (pc' := 13) dX0_mondaysHad_12 rfl rfl rfl ?_
  obtain ⟨ht2, hf3⟩ := h
  refine e_r_if_lt (tgt := 25) (pc' := 16) dX0_mondaysHad_13 rfl rfl (fun c => ?_) (fun c => ?_)
  · have h := ht2 c
    refine e_r_iconst (pc' := 26) dX0_mondaysHad_25 rfl (by decide) ?_
    exact e_r_iret (ty := .int) rfl (e_nI _) dX0_mondaysHad_26 h
  · have h := hf3 c
    refine e_r_iload_n (pc' := 17) dX0_mondaysHad_16 rfl rfl rfl ?_
    refine e_r_iload_n (pc' := 18) dX0_mondaysHad_17 rfl rfl rfl ?_
    obtain ⟨ht4, hf5⟩ := h
    refine e_r_icmp_gt (tgt := 25) (pc' := 21) dX0_mondaysHad_18 rfl rfl (fun c => ?_) (fun c => ?_)
    · have h := ht4 c
      refine e_r_iconst (pc' := 26) dX0_mondaysHad_25 rfl (by decide) ?_
      exact e_r_iret (ty := .int) rfl (e_nI _) dX0_mondaysHad_26 h
    · have h := hf5 c
      refine e_r_iload_n (pc' := 22) dX0_mondaysHad_21 rfl rfl rfl ?_
      refine e_r_goto (pc' := 26) dX0_mondaysHad_22 rfl ?_
      exact e_r_iret (ty := .int) rfl (e_nI _) dX0_mondaysHad_26 h
