theorem wp_X11_loses_44 {X : e_X} {d gn : Nat} {o : e_O} (M : e_M) (p1 v2 : Int) (hmo : e_mn (557, gn, e_RF, M) o.2) (h : ((p1 ≤ v2 → (o = (.inl (some (.inl (e_w ((M 533 54) - (M 532 54))))), (557, gn, e_RF, M)))) ∧ (¬ (p1 ≤ v2) → (∃ N3 : e_M, e_E X d YX11_weekEnds [.inr (.inr 64), .inr (.inr 533)] (557, gn, e_RF, M) (.inl none, (557, gn, e_RF, N3)) ∧ e_G X (d + 1) YX11_loses 44 [some (.inr (.inr 64)), some (.inl p1), some (.inl (e_w (v2 + 1)))] [] (557, gn, e_RF, N3) o)))) : e_G X (d + 1) YX11_loses 44 [some (.inr (.inr 64)), some (.inl p1), some (.inl v2)] [] (557, gn, e_RF, M) o := by
  refine e_r_iload_n (pc' := 45) dX11_loses_44 rfl rfl rfl ?_
  refine e_r_iload_n (pc' := 46) dX11_loses_45 rfl rfl rfl ?_
  obtain ⟨ht1, hf2⟩ := h
  refine e_r_icmp_ge (tgt := 63) (pc' := 49) dX11_loses_46 rfl rfl (fun c => ?_) (fun c => ?_)
  · have h := ht1 c
    refine e_r_aload_n (pc' := 64) (by decide) dX11_loses_63 rfl rfl rfl ?_
    refine e_r_getr (k := 32) (q := 533) (pc' := 67) cl_11 rfl (Nat.le_of_ble_eq_true rfl) rfl rfl fl_RX11_76 rfl (Nat.le_of_ble_eq_true rfl) dX11_loses_64 rfl ?_
    refine e_r_bipush (pc' := 69) dX11_loses_67 rfl (by decide) ?_
    refine e_r_iald (j9 := 54) (pc' := 70) rfl (Nat.le_of_ble_eq_true rfl) (by decide) (by decide) rfl dX11_loses_69 rfl ?_
    refine e_r_aload_n (pc' := 71) (by decide) dX11_loses_70 rfl rfl rfl ?_
    refine e_r_getr (k := 31) (q := 532) (pc' := 74) cl_11 rfl (Nat.le_of_ble_eq_true rfl) rfl rfl fl_RX11_73 rfl (Nat.le_of_ble_eq_true rfl) dX11_loses_71 rfl ?_
    refine e_r_bipush (pc' := 76) dX11_loses_74 rfl (by decide) ?_
    refine e_r_iald (j9 := 54) (pc' := 77) rfl (Nat.le_of_ble_eq_true rfl) (by decide) (by decide) rfl dX11_loses_76 rfl ?_
    refine e_r_isub (pc' := 78) dX11_loses_77 rfl ?_
    exact e_r_iret (ty := .int) rfl (e_nI _) dX11_loses_78 h
  · have h := hf2 c
    refine e_r_aload_n (pc' := 50) (by decide) dX11_loses_49 rfl rfl rfl ?_
    refine e_r_aload_n (pc' := 51) (by decide) dX11_loses_50 rfl rfl rfl ?_
    refine e_r_getr (k := 32) (q := 533) (pc' := 54) cl_11 rfl (Nat.le_of_ble_eq_true rfl) rfl rfl fl_RX11_76 rfl (Nat.le_of_ble_eq_true rfl) dX11_loses_51 rfl ?_
    obtain ⟨N3, he4, h⟩ := h
    refine e_r_callV (a := 64) (av := [.inr (.inr 533)]) (st := []) mqYX11_weekEnds ml_RX11_298 cl_11 rfl (Nat.le_of_ble_eq_true rfl) (by simp [e_cat]) rfl rfl rfl dX11_loses_54 (pc' := 57) rfl he4 ⟨Nat.le_refl _, Nat.le_refl _⟩ hmo ?_
    refine e_r_iinc (pc' := 60) (loc' := [some (.inr (.inr 64)), some (.inl p1), some (.inl (e_w (v2 + 1)))]) dX11_loses_57 rfl rfl rfl rfl rfl ?_
    refine e_r_goto (pc' := 44) dX11_loses_60 rfl ?_
    exact h
theorem wp_X11_missed_0 {X : e_X} {d gn : Nat} {o : e_O} (M : e_M) (h : e_G X d YX11_missed 9 [some (.inr (.inr 64)), some (.inl 0), some (.inl 0)] [] (557, gn, e_RF, (e_up M 64 0 0)) o) : e_G X d YX11_missed 0 [some (.inr (.inr 64)), none, none] [] (557, gn, e_RF, M) o := by
  refine e_r_aload_n (pc' := 1) (by decide) dX11_missed_0 rfl rfl rfl ?_
  refine e_r_iconst (pc' := 2) dX11_missed_1 rfl (by decide) ?_
  refine e_r_puti (k := 0) (pc' := 5) cl_11 rfl (Nat.le_of_ble_eq_true rfl) rfl rfl fl_RX11_97 rfl (by decide +kernel) dX11_missed_2 rfl ?_
  refine e_r_iconst (pc' := 6) dX11_missed_5 rfl (by decide) ?_
  refine e_r_istore_n (pc' := 7) (loc' := [some (.inr (.inr 64)), some (.inl 0), none]) dX11_missed_6 rfl rfl rfl rfl rfl ?_
  refine e_r_iconst (pc' := 8) dX11_missed_7 rfl (by decide) ?_
  refine e_r_istore_n (pc' := 9) (loc' := [some (.inr (.inr 64)), some (.inl 0), some (.inl 0)]) dX11_missed_8 rfl rfl rfl rfl rfl ?_
  exact h
theorem wp_X11_missed_9 {X : e_X} {d gn : Nat} {o : e_O} (M : e_M) (v1 v2 : Int) (h : (((M 68 2) ≤ v2 → (o = (.inl (some (.inl v1)), (557, gn, e_RF, M)))) ∧ (¬ ((M 68 2) ≤ v2) → ((0 ≤ (e_w (42 + v2)) ∧ (e_w (42 + v2)) < 56) ∧ ((¬ (M 532 (e_w (42 + v2)).toNat) = 0 → e_G X d YX11_missed 9 [some (.inr (.inr 64)), some (.inl (e_or v1 0)), some (.inl (e_w (v2 + 1)))] [] (557, gn, e_RF, M) o) ∧ ((M 532 (e_w (42 + v2)).toNat) = 0 → ((0 ≤ (e_w (30 + v2)) ∧ (e_w (30 + v2)) < 56) ∧ (((M 532 55) ≤ (M 532 (e_w (30 + v2)).toNat) → e_G X d YX11_missed 9 [some (.inr (.inr 64)), some (.inl (e_or v1 0)), some (.inl (e_w (v2 + 1)))] [] (557, gn, e_RF, M) o) ∧ (¬ ((M 532 55) ≤ (M 532 (e_w (30 + v2)).toNat)) → e_G X d YX11_missed 9 [some (.inr (.inr 64)), some (.inl (e_or v1 (e_shl 1 v2))), some (.inl (e_w (v2 + 1)))] [] (557, gn, e_RF, M) o))))))))) : e_G X d YX11_missed 9 [some (.inr (.inr 64)), some (.inl v1), some (.inl v2)] [] (557, gn, e_RF, M) o := by
  refine e_r_iload_n (pc' := 10) dX11_missed_9 rfl rfl rfl ?_
  refine e_r_aload_n (pc' := 11) (by decide) dX11_missed_10 rfl rfl rfl ?_
  refine e_r_getr (k := 12) (q := 68) (pc' := 14) cl_11 rfl (Nat.le_of_ble_eq_true rfl) rfl rfl fl_RX11_23 rfl (Nat.le_of_ble_eq_true rfl) dX11_missed_11 rfl ?_
  refine e_r_iconst (pc' := 15) dX11_missed_14 rfl (by decide) ?_
  refine e_r_iald (j9 := 2) (pc' := 16) rfl (Nat.le_of_ble_eq_true rfl) (by decide) (by decide) rfl dX11_missed_15 rfl ?_
  obtain ⟨ht1, hf2⟩ := h
  refine e_r_icmp_ge (tgt := 66) (pc' := 19) dX11_missed_16 rfl rfl (fun c => ?_) (fun c => ?_)
  · have h := ht1 c
    refine e_r_iload_n (pc' := 67) dX11_missed_66 rfl rfl rfl ?_
    exact e_r_iret (ty := .int) rfl (e_nI _) dX11_missed_67 h
  · have h := hf2 c
    refine e_r_iload_n (pc' := 20) dX11_missed_19 rfl rfl rfl ?_
    refine e_r_aload_n (pc' := 21) (by decide) dX11_missed_20 rfl rfl rfl ?_
    refine e_r_getr (k := 31) (q := 532) (pc' := 24) cl_11 rfl (Nat.le_of_ble_eq_true rfl) rfl rfl fl_RX11_73 rfl (Nat.le_of_ble_eq_true rfl) dX11_missed_21 rfl ?_
    refine e_r_bipush (pc' := 26) dX11_missed_24 rfl (by decide) ?_
    refine e_r_iload_n (pc' := 27) dX11_missed_26 rfl rfl rfl ?_
    refine e_r_iadd (pc' := 28) dX11_missed_27 rfl ?_
    obtain ⟨hb3, h⟩ := h
    refine e_r_iald (j9 := (e_w (42 + v2)).toNat) (pc' := 29) rfl (Nat.le_of_ble_eq_true rfl) hb3.1 hb3.2 rfl dX11_missed_28 rfl ?_
    obtain ⟨ht4, hf5⟩ := h
    refine e_r_if_ne (tgt := 57) (pc' := 32) dX11_missed_29 rfl rfl (fun c => ?_) (fun c => ?_)
    · have h := ht4 c
      refine e_r_iconst (pc' := 58) dX11_missed_57 rfl (by decide) ?_
      refine e_r_ior (pc' := 59) dX11_missed_58 rfl ?_
      refine e_r_istore_n (pc' := 60) (loc' := [some (.inr (.inr 64)), some (.inl (e_or v1 0)), some (.inl v2)]) dX11_missed_59 rfl rfl rfl rfl rfl ?_
      refine e_r_iinc (pc' := 63) (loc' := [some (.inr (.inr 64)), some (.inl (e_or v1 0)), some (.inl (e_w (v2 + 1)))]) dX11_missed_60 rfl rfl rfl rfl rfl ?_
      refine e_r_goto (pc' := 9) dX11_missed_63 rfl ?_
      exact h
    · have h := hf5 c
      refine e_r_aload_n (pc' := 33) (by decide) dX11_missed_32 rfl rfl rfl ?_
      refine e_r_getr (k := 31) (q := 532) (pc' := 36) cl_11 rfl (Nat.le_of_ble_eq_true rfl) rfl rfl fl_RX11_73 rfl (Nat.le_of_ble_eq_true rfl) dX11_missed_33 rfl ?_
      refine e_r_bipush (pc' := 38) dX11_missed_36 rfl (by decide) ?_
      refine e_r_iload_n (pc' := 39) dX11_missed_38 rfl rfl rfl ?_
      refine e_r_iadd (pc' := 40) dX11_missed_39 rfl ?_
      obtain ⟨hb6, h⟩ := h
      refine e_r_iald (j9 := (e_w (30 + v2)).toNat) (pc' := 41) rfl (Nat.le_of_ble_eq_true rfl) hb6.1 hb6.2 rfl dX11_missed_40 rfl ?_
      refine e_r_aload_n (pc' := 42) (by decide) dX11_missed_41 rfl rfl rfl ?_
      refine e_r_getr (k := 31) (q := 532) (pc' := 45) cl_11 rfl (Nat.le_of_ble_eq_true rfl) rfl rfl fl_RX11_73 rfl (Nat.le_of_ble_eq_true rfl) dX11_missed_42 rfl ?_
      refine e_r_bipush (pc' := 47) dX11_missed_45 rfl (by decide) ?_
      refine e_r_iald (j9 := 55) (pc' := 48) rfl (Nat.le_of_ble_eq_true rfl) (by decide) (by decide) rfl dX11_missed_47 rfl ?_
      obtain ⟨ht7, hf8⟩ := h
      refine e_r_icmp_ge (tgt := 57) (pc' := 51) dX11_missed_48 rfl rfl (fun c => ?_) (fun c => ?_)
      · have h := ht7 c
        refine e_r_iconst (pc' := 58) dX11_missed_57 rfl (by decide) ?_
        refine e_r_ior (pc' := 59) dX11_missed_58 rfl ?_
        refine e_r_istore_n (pc' := 60) (loc' := [some (.inr (.inr 64)), some (.inl (e_or v1 0)), some (.inl v2)]) dX11_missed_59 rfl rfl rfl rfl rfl ?_
        refine e_r_iinc (pc' := 63) (loc' := [some (.inr (.inr 64)), some (.inl (e_or v1 0)), some (.inl (e_w (v2 + 1)))]) dX11_missed_60 rfl rfl rfl rfl rfl ?_
        refine e_r_goto (pc' := 9) dX11_missed_63 rfl ?_
        exact h
      · have h := hf8 c
        refine e_r_iconst (pc' := 52) dX11_missed_51 rfl (by decide) ?_
        refine e_r_iload_n (pc' := 53) dX11_missed_52 rfl rfl rfl ?_
        refine e_r_ishl (pc' := 54) dX11_missed_53 rfl ?_
        refine e_r_goto (pc' := 58) dX11_missed_54 rfl ?_
        refine e_r_ior (pc' := 59) dX11_missed_58 rfl ?_
        refine e_r_istore_n (pc' := 60) (loc' := [some (.inr (.inr 64)), some (.inl (e_or v1 (e_shl 1 v2))), some (.inl v2)]) dX11_missed_59 rfl rfl rfl rfl rfl ?_
        refine e_r_iinc (pc' := 63) (loc' := [some (.inr (.inr 64)), some (.inl (e_or v1 (e_shl 1 v2))), some (.inl (e_w (v2 + 1)))]) dX11_missed_60 rfl rfl rfl rfl rfl ?_
        refine e_r_goto (pc' := 9) dX11_missed_63 rfl ?_
        exact h
theorem wp_X11_due_0 {X : e_X} {d gn : Nat} {o : e_O} (M : e_M) (hmo : e_mn (557, gn, e_RF, M) o.2) (h : (∃ N1 : e_M, e_E X d YX11_copies [.inr (.inr 532), .inr (.inr 533)] (557, gn, e_RF, (e_up M 64 0 0)) (.inl none, (557, gn, e_RF, N1)) ∧ (∃ N3 : e_M, e_E X d YX11_weekEnds [.inr (.inr 64), .inr (.inr 533)] (557, gn, e_RF, N1) (.inl none, (557, gn, e_RF, N3)) ∧ (∃ (r6 : Int) (N5 : e_M), e_E X d YX11_sumOf [.inr (.inr 64), .inr (.inr 533), .inl 24] (557, gn, e_RF, N3) (.inl (some (.inl r6)), (557, gn, e_RF, N5)) ∧ (∃ (r9 : Int) (N8 : e_M), e_E X d YX11_sumOf [.inr (.inr 64), .inr (.inr 532), .inl 24] (557, gn, e_RF, N5) (.inl (some (.inl r9)), (557, gn, e_RF, N8)) ∧ (o = (.inl (some (.inl (e_w (r6 - r9)))), (557, gn, e_RF, N8)))))))) : e_G X (d + 1) YX11_due 0 [some (.inr (.inr 64))] [] (557, gn, e_RF, M) o := by
  refine e_r_aload_n (pc' := 1) (by decide) dX11_due_0 rfl rfl rfl ?_
  refine e_r_iconst (pc' := 2) dX11_due_1 rfl (by decide) ?_
  refine e_r_puti (k := 0) (pc' := 5) cl_11 rfl (Nat.le_of_ble_eq_true rfl) rfl rfl fl_RX11_97 rfl (by decide +kernel) dX11_due_2 rfl ?_
  refine e_r_aload_n (pc' := 6) (by decide) dX11_due_5 rfl rfl rfl ?_
  refine e_r_getr (k := 31) (q := 532) (pc' := 9) cl_11 rfl (Nat.le_of_ble_eq_true rfl) rfl rfl fl_RX11_73 rfl (Nat.le_of_ble_eq_true rfl) dX11_due_6 rfl ?_
  refine e_r_aload_n (pc' := 10) (by decide) dX11_due_9 rfl rfl rfl ?_
  refine e_r_getr (k := 32) (q := 533) (pc' := 13) cl_11 rfl (Nat.le_of_ble_eq_true rfl) rfl rfl fl_RX11_76 rfl (Nat.le_of_ble_eq_true rfl) dX11_due_10 rfl ?_
  obtain ⟨N1, he2, h⟩ := h
  refine e_r_callS (av := [.inr (.inr 532), .inr (.inr 533)]) (st := []) mqYX11_copies ml_RX11_315 (by simp [e_cat]) rfl rfl rfl dX11_due_13 (pc' := 16) rfl he2 ⟨Nat.le_refl _, Nat.le_refl _⟩ hmo ?_
  refine e_r_aload_n (pc' := 17) (by decide) dX11_due_16 rfl rfl rfl ?_
  refine e_r_aload_n (pc' := 18) (by decide) dX11_due_17 rfl rfl rfl ?_
  refine e_r_getr (k := 32) (q := 533) (pc' := 21) cl_11 rfl (Nat.le_of_ble_eq_true rfl) rfl rfl fl_RX11_76 rfl (Nat.le_of_ble_eq_true rfl) dX11_due_18 rfl ?_
  obtain ⟨N3, he4, h⟩ := h
  refine e_r_callV (a := 64) (av := [.inr (.inr 533)]) (st := []) mqYX11_weekEnds ml_RX11_298 cl_11 rfl (Nat.le_of_ble_eq_true rfl) (by simp [e_cat]) rfl rfl rfl dX11_due_21 (pc' := 24) rfl he4 ⟨Nat.le_refl _, Nat.le_refl _⟩ hmo ?_
  refine e_r_aload_n (pc' := 25) (by decide) dX11_due_24 rfl rfl rfl ?_
  refine e_r_aload_n (pc' := 26) (by decide) dX11_due_25 rfl rfl rfl ?_
  refine e_r_getr (k := 32) (q := 533) (pc' := 29) cl_11 rfl (Nat.le_of_ble_eq_true rfl) rfl rfl fl_RX11_76 rfl (Nat.le_of_ble_eq_true rfl) dX11_due_26 rfl ?_
  refine e_r_bipush (pc' := 31) dX11_due_29 rfl (by decide) ?_
  obtain ⟨r6, N5, he7, h⟩ := h
  refine e_r_callV (a := 64) (av := [.inr (.inr 533), .inl 24]) (st := []) mqYX11_sumOf ml_RX11_322 cl_11 rfl (Nat.le_of_ble_eq_true rfl) (by simp [e_cat]) rfl rfl rfl dX11_due_31 (pc' := 34) rfl he7 ⟨Nat.le_refl _, Nat.le_refl _⟩ hmo ?_
  refine e_r_aload_n (pc' := 35) (by decide) dX11_due_34 rfl rfl rfl ?_
  refine e_r_aload_n (pc' := 36) (by decide) dX11_due_35 rfl rfl rfl ?_
  refine e_r_getr (k := 31) (q := 532) (pc' := 39) cl_11 rfl (Nat.le_of_ble_eq_true rfl) rfl rfl fl_RX11_73 rfl (Nat.le_of_ble_eq_true rfl) dX11_due_36 rfl ?_
  refine e_r_bipush (pc' := 41) dX11_due_39 rfl (by decide) ?_
  obtain ⟨r9, N8, he10, h⟩ := h
  refine e_r_callV (a := 64) (av := [.inr (.inr 532), .inl 24]) (st := [.inl r6]) mqYX11_sumOf ml_RX11_322 cl_11 rfl (Nat.le_of_ble_eq_true rfl) (by simp [e_cat]) rfl rfl rfl dX11_due_41 (pc' := 44) rfl he10 ⟨Nat.le_refl _, Nat.le_refl _⟩ hmo ?_
  refine e_r_isub (pc' := 45) dX11_due_44 rfl ?_
  exact e_r_iret (ty := .int) rfl (e_nI _) dX11_due_45 h
theorem wp_X11_draw_0 {X : e_X} {d gn : Nat} {o : e_O} (M : e_M) (p1 : Int) (h : (p1 ≠ 0 ∧ (o = (.inl (some (.inl (e_w (Int.tmod (e_and (e_shr ((e_up M 64 45 (e_w ((e_w ((M 64 45) * 1103515245)) + 12345))) 64 45) 16) 32767) p1)))), (557, gn, e_RF, (e_up M 64 45 (e_w ((e_w ((M 64 45) * 1103515245)) + 12345)))))))) : e_G X d YX11_draw 0 [some (.inr (.inr 64)), some (.inl p1)] [] (557, gn, e_RF, M) o := by
  refine e_r_aload_n (pc' := 1) (by decide) dX11_draw_0 rfl rfl rfl ?_
  refine e_r_aload_n (pc' := 2) (by decide) dX11_draw_1 rfl rfl rfl ?_
  refine e_r_geti (k := 45) (pc' := 5) cl_11 rfl (Nat.le_of_ble_eq_true rfl) rfl rfl fl_RX11_358 dX11_draw_2 rfl ?_
  refine e_r_ldcw (pc' := 8) (n := 1103515245) cst_RX11_361 dX11_draw_5 rfl (by decide) ?_
  refine e_r_imul (pc' := 9) dX11_draw_8 rfl ?_
  refine e_r_sipush (pc' := 12) dX11_draw_9 rfl (by decide) ?_
  refine e_r_iadd (pc' := 13) dX11_draw_12 rfl ?_
  refine e_r_puti (k := 45) (pc' := 16) cl_11 rfl (Nat.le_of_ble_eq_true rfl) rfl rfl fl_RX11_358 rfl (by decide +kernel) dX11_draw_13 rfl ?_
  refine e_r_aload_n (pc' := 17) (by decide) dX11_draw_16 rfl rfl rfl ?_
  refine e_r_geti (k := 45) (pc' := 20) cl_11 rfl (Nat.le_of_ble_eq_true rfl) rfl rfl fl_RX11_358 dX11_draw_17 rfl ?_
  refine e_r_bipush (pc' := 22) dX11_draw_20 rfl (by decide) ?_
  refine e_r_ishr (pc' := 23) dX11_draw_22 rfl ?_
  refine e_r_sipush (pc' := 26) dX11_draw_23 rfl (by decide) ?_
  refine e_r_iand (pc' := 27) dX11_draw_26 rfl ?_
  refine e_r_iload_n (pc' := 28) dX11_draw_27 rfl rfl rfl ?_
  obtain ⟨hz1, h⟩ := h
  refine e_r_irem (pc' := 29) hz1 dX11_draw_28 rfl ?_
  exact e_r_iret (ty := .int) rfl (e_nI _) dX11_draw_29 h
theorem wp_X11_yearBy_0 {X : e_X} {d gn : Nat} {o : e_O} (M : e_M) (p1 p2 p3 p4 : Int) (hmo : e_mn (557, gn, e_RF, M) o.2) (h : (∃ N1 : e_M, e_E X d YX11_copies [.inr (.inr 532), .inr (.inr 533)] (557, gn, e_RF, M) (.inl none, (557, gn, e_RF, N1)) ∧ e_G X (d + 1) YX11_yearBy 24 [some (.inr (.inr 64)), some (.inl p1), some (.inl p2), some (.inl p3), some (.inl p4), some (.inl 0), none, none] [] (557, gn, e_RF, (e_up (e_up N1 64 45 p1) 64 46 0)) o)) : e_G X (d + 1) YX11_yearBy 0 [some (.inr (.inr 64)), some (.inl p1), some (.inl p2), some (.inl p3), some (.inl p4), none, none, none] [] (557, gn, e_RF, M) o := by
  refine e_r_aload_n (pc' := 1) (by decide) dX11_yearBy_0 rfl rfl rfl ?_
  refine e_r_getr (k := 31) (q := 532) (pc' := 4) cl_11 rfl (Nat.le_of_ble_eq_true rfl) rfl rfl fl_RX11_73 rfl (Nat.le_of_ble_eq_true rfl) dX11_yearBy_1 rfl ?_
  refine e_r_aload_n (pc' := 5) (by decide) dX11_yearBy_4 rfl rfl rfl ?_
  refine e_r_getr (k := 32) (q := 533) (pc' := 8) cl_11 rfl (Nat.le_of_ble_eq_true rfl) rfl rfl fl_RX11_76 rfl (Nat.le_of_ble_eq_true rfl) dX11_yearBy_5 rfl ?_
  obtain ⟨N1, he2, h⟩ := h
  refine e_r_callS (av := [.inr (.inr 532), .inr (.inr 533)]) (st := []) mqYX11_copies ml_RX11_315 (by simp [e_cat]) rfl rfl rfl dX11_yearBy_8 (pc' := 11) rfl he2 ⟨Nat.le_refl _, Nat.le_refl _⟩ hmo ?_
  refine e_r_aload_n (pc' := 12) (by decide) dX11_yearBy_11 rfl rfl rfl ?_
  refine e_r_iload_n (pc' := 13) dX11_yearBy_12 rfl rfl rfl ?_
  refine e_r_puti (k := 45) (pc' := 16) cl_11 rfl (Nat.le_of_ble_eq_true rfl) rfl rfl fl_RX11_358 rfl (by decide +kernel) dX11_yearBy_13 rfl ?_
  refine e_r_aload_n (pc' := 17) (by decide) dX11_yearBy_16 rfl rfl rfl ?_
  refine e_r_iconst (pc' := 18) dX11_yearBy_17 rfl (by decide) ?_
  refine e_r_puti (k := 46) (pc' := 21) cl_11 rfl (Nat.le_of_ble_eq_true rfl) rfl rfl fl_RX11_362 rfl (by decide +kernel) dX11_yearBy_18 rfl ?_
  refine e_r_iconst (pc' := 22) dX11_yearBy_21 rfl (by decide) ?_
  refine e_r_istore (pc' := 24) (loc' := [some (.inr (.inr 64)), some (.inl p1), some (.inl p2), some (.inl p3), some (.inl p4), some (.inl 0), none, none]) dX11_yearBy_22 rfl rfl rfl rfl ?_
  exact h
theorem wp_X11_yearBy_24 {X : e_X} {d gn : Nat} {o : e_O} (M : e_M) (p1 p2 p3 p4 v5 : Int) (hmo : e_mn (557, gn, e_RF, M) o.2) (h : ((p2 ≤ v5 → (o = (.inl none, (557, gn, e_RF, M)))) ∧ (¬ (p2 ≤ v5) → (((M 68 0) ≤ 0 → e_G X (d + 1) YX11_yearBy 121 [some (.inr (.inr 64)), some (.inl p1), some (.inl p2), some (.inl p3), some (.inl p4), some (.inl v5), none, none] [] (557, gn, e_RF, M) o) ∧ (¬ ((M 68 0) ≤ 0) → (∃ (r6 : Int) (N5 : e_M), e_E X d YX11_draw [.inr (.inr 64), .inl (M 68 0)] (557, gn, e_RF, M) (.inl (some (.inl r6)), (557, gn, e_RF, N5)) ∧ (∃ (r9 : Int) (N8 : e_M), e_E X d YX11_draw [.inr (.inr 64), .inl 16] (557, gn, e_RF, N5) (.inl (some (.inl r9)), (557, gn, e_RF, N8)) ∧ ((p3 ≤ r9 → e_G X (d + 1) YX11_yearBy 88 [some (.inr (.inr 64)), some (.inl p1), some (.inl p2), some (.inl p3), some (.inl p4), some (.inl v5), some (.inl r6), none] [] (557, gn, e_RF, N8) o) ∧ (¬ (p3 ≤ r9) → (∃ (r14 : Int) (N13 : e_M), e_E X d YX11_buys [.inr (.inr 64), .inr (.inr 533), .inl r6] (557, gn, e_RF, N8) (.inl (some (.inl r14)), (557, gn, e_RF, N13)) ∧ ((r14 = 0 → e_G X (d + 1) YX11_yearBy 88 [some (.inr (.inr 64)), some (.inl p1), some (.inl p2), some (.inl p3), some (.inl p4), some (.inl v5), some (.inl r6), none] [] (557, gn, e_RF, (e_up N13 64 46 (e_w ((N8 64 46) + 0)))) o) ∧ (¬ (r14 = 0) → e_G X (d + 1) YX11_yearBy 88 [some (.inr (.inr 64)), some (.inl p1), some (.inl p2), some (.inl p3), some (.inl p4), some (.inl v5), some (.inl r6), none] [] (557, gn, e_RF, (e_up N13 64 46 (e_w ((N8 64 46) + 1)))) o)))))))))))) : e_G X (d + 1) YX11_yearBy 24 [some (.inr (.inr 64)), some (.inl p1), some (.inl p2), some (.inl p3), some (.inl p4), some (.inl v5), none, none] [] (557, gn, e_RF, M) o := by
  refine e_r_iload (pc' := 26) dX11_yearBy_24 rfl rfl ?_
  refine e_r_iload_n (pc' := 27) dX11_yearBy_26 rfl rfl rfl ?_
  obtain ⟨ht1, hf2⟩ := h
  refine e_r_icmp_ge (tgt := 135) (pc' := 30) dX11_yearBy_27 rfl rfl (fun c => ?_) (fun c => ?_)
  · have h := ht1 c
    exact e_r_vret rfl dX11_yearBy_135 h
  · have h := hf2 c
    refine e_r_aload_n (pc' := 31) (by decide) dX11_yearBy_30 rfl rfl rfl ?_
    refine e_r_getr (k := 12) (q := 68) (pc' := 34) cl_11 rfl (Nat.le_of_ble_eq_true rfl) rfl rfl fl_RX11_23 rfl (Nat.le_of_ble_eq_true rfl) dX11_yearBy_31 rfl ?_
    refine e_r_iconst (pc' := 35) dX11_yearBy_34 rfl (by decide) ?_
    refine e_r_iald (j9 := 0) (pc' := 36) rfl (Nat.le_of_ble_eq_true rfl) (by decide) (by decide) rfl dX11_yearBy_35 rfl ?_
    obtain ⟨ht3, hf4⟩ := h
    refine e_r_if_le (tgt := 121) (pc' := 39) dX11_yearBy_36 rfl rfl (fun c => ?_) (fun c => ?_)
    · have h := ht3 c
      exact h
    · have h := hf4 c
      refine e_r_aload_n (pc' := 40) (by decide) dX11_yearBy_39 rfl rfl rfl ?_
      refine e_r_aload_n (pc' := 41) (by decide) dX11_yearBy_40 rfl rfl rfl ?_
      refine e_r_getr (k := 12) (q := 68) (pc' := 44) cl_11 rfl (Nat.le_of_ble_eq_true rfl) rfl rfl fl_RX11_23 rfl (Nat.le_of_ble_eq_true rfl) dX11_yearBy_41 rfl ?_
      refine e_r_iconst (pc' := 45) dX11_yearBy_44 rfl (by decide) ?_
      refine e_r_iald (j9 := 0) (pc' := 46) rfl (Nat.le_of_ble_eq_true rfl) (by decide) (by decide) rfl dX11_yearBy_45 rfl ?_
      obtain ⟨r6, N5, he7, h⟩ := h
      refine e_r_callV (a := 64) (av := [.inl (M 68 0)]) (st := []) mqYX11_draw ml_RX11_365 cl_11 rfl (Nat.le_of_ble_eq_true rfl) (by simp [e_cat]) rfl rfl rfl dX11_yearBy_46 (pc' := 49) rfl he7 ⟨Nat.le_refl _, Nat.le_refl _⟩ hmo ?_
      refine e_r_istore (pc' := 51) (loc' := [some (.inr (.inr 64)), some (.inl p1), some (.inl p2), some (.inl p3), some (.inl p4), some (.inl v5), some (.inl r6), none]) dX11_yearBy_49 rfl rfl rfl rfl ?_
      refine e_r_aload_n (pc' := 52) (by decide) dX11_yearBy_51 rfl rfl rfl ?_
      refine e_r_bipush (pc' := 54) dX11_yearBy_52 rfl (by decide) ?_
      obtain ⟨r9, N8, he10, h⟩ := h
      refine e_r_callV (a := 64) (av := [.inl 16]) (st := []) mqYX11_draw ml_RX11_365 cl_11 rfl (Nat.le_of_ble_eq_true rfl) (by simp [e_cat]) rfl rfl rfl dX11_yearBy_54 (pc' := 57) rfl he10 ⟨Nat.le_refl _, Nat.le_refl _⟩ hmo ?_
      refine e_r_iload_n (pc' := 58) dX11_yearBy_57 rfl rfl rfl ?_
      obtain ⟨ht11, hf12⟩ := h
      refine e_r_icmp_ge (tgt := 88) (pc' := 61) dX11_yearBy_58 rfl rfl (fun c => ?_) (fun c => ?_)
      · have h := ht11 c
        exact h
      · have h := hf12 c
        refine e_r_aload_n (pc' := 62) (by decide) dX11_yearBy_61 rfl rfl rfl ?_
        refine e_r_dup (pc' := 63) rfl dX11_yearBy_62 rfl ?_
        refine e_r_geti (k := 46) (pc' := 66) cl_11 rfl (Nat.le_of_ble_eq_true rfl) rfl rfl fl_RX11_362 dX11_yearBy_63 rfl ?_
        refine e_r_aload_n (pc' := 67) (by decide) dX11_yearBy_66 rfl rfl rfl ?_
        refine e_r_aload_n (pc' := 68) (by decide) dX11_yearBy_67 rfl rfl rfl ?_
        refine e_r_getr (k := 32) (q := 533) (pc' := 71) cl_11 rfl (Nat.le_of_ble_eq_true rfl) rfl rfl fl_RX11_76 rfl (Nat.le_of_ble_eq_true rfl) dX11_yearBy_68 rfl ?_
        refine e_r_iload (pc' := 73) dX11_yearBy_71 rfl rfl ?_
        obtain ⟨r14, N13, he15, h⟩ := h
        refine e_r_callV (a := 64) (av := [.inr (.inr 533), .inl r6]) (st := [.inl (N8 64 46), .inr (.inr 64)]) mqYX11_buys ml_RX11_292 cl_11 rfl (Nat.le_of_ble_eq_true rfl) (by simp [e_cat]) rfl rfl rfl dX11_yearBy_73 (pc' := 76) rfl he15 ⟨Nat.le_refl _, Nat.le_refl _⟩ hmo ?_
        obtain ⟨ht16, hf17⟩ := h
        refine e_r_if_eq (tgt := 83) (pc' := 79) dX11_yearBy_76 rfl rfl (fun c => ?_) (fun c => ?_)
        · have h := ht16 c
          refine e_r_iconst (pc' := 84) dX11_yearBy_83 rfl (by decide) ?_
          refine e_r_iadd (pc' := 85) dX11_yearBy_84 rfl ?_
          refine e_r_puti (k := 46) (pc' := 88) cl_11 rfl (Nat.le_of_ble_eq_true rfl) rfl rfl fl_RX11_362 rfl (by decide +kernel) dX11_yearBy_85 rfl ?_
          exact h
        · have h := hf17 c
          refine e_r_iconst (pc' := 80) dX11_yearBy_79 rfl (by decide) ?_
          refine e_r_goto (pc' := 84) dX11_yearBy_80 rfl ?_
          refine e_r_iadd (pc' := 85) dX11_yearBy_84 rfl ?_
          refine e_r_puti (k := 46) (pc' := 88) cl_11 rfl (Nat.le_of_ble_eq_true rfl) rfl rfl fl_RX11_362 rfl (by decide +kernel) dX11_yearBy_85 rfl ?_
          exact h
theorem wp_X11_yearBy_88 {X : e_X} {d gn : Nat} {o : e_O} (M : e_M) (p1 p2 p3 p4 v5 v6 : Int) (hmo : e_mn (557, gn, e_RF, M) o.2) (h : (∃ (r2 : Int) (N1 : e_M), e_E X d YX11_draw [.inr (.inr 64), .inl (M 68 0)] (557, gn, e_RF, M) (.inl (some (.inl r2)), (557, gn, e_RF, N1)) ∧ (∃ (r5 : Int) (N4 : e_M), e_E X d YX11_draw [.inr (.inr 64), .inl 16] (557, gn, e_RF, N1) (.inl (some (.inl r5)), (557, gn, e_RF, N4)) ∧ ((p4 ≤ r5 → e_G X (d + 1) YX11_yearBy 121 [some (.inr (.inr 64)), some (.inl p1), some (.inl p2), some (.inl p3), some (.inl p4), some (.inl v5), none, none] [] (557, gn, e_RF, N4) o) ∧ (¬ (p4 ≤ r5) → (∃ (r10 : Int) (N9 : e_M), e_E X d YX11_sells [.inr (.inr 533), .inl r2] (557, gn, e_RF, N4) (.inl (some (.inl r10)), (557, gn, e_RF, N9)) ∧ e_G X (d + 1) YX11_yearBy 121 [some (.inr (.inr 64)), some (.inl p1), some (.inl p2), some (.inl p3), some (.inl p4), some (.inl v5), none, none] [] (557, gn, e_RF, N9) o)))))) : e_G X (d + 1) YX11_yearBy 88 [some (.inr (.inr 64)), some (.inl p1), some (.inl p2), some (.inl p3), some (.inl p4), some (.inl v5), some (.inl v6), none] [] (557, gn, e_RF, M) o := by
  refine e_r_aload_n (pc' := 89) (by decide) dX11_yearBy_88 rfl rfl rfl ?_
  refine e_r_aload_n (pc' := 90) (by decide) dX11_yearBy_89 rfl rfl rfl ?_
  refine e_r_getr (k := 12) (q := 68) (pc' := 93) cl_11 rfl (Nat.le_of_ble_eq_true rfl) rfl rfl fl_RX11_23 rfl (Nat.le_of_ble_eq_true rfl) dX11_yearBy_90 rfl ?_
  refine e_r_iconst (pc' := 94) dX11_yearBy_93 rfl (by decide) ?_
  refine e_r_iald (j9 := 0) (pc' := 95) rfl (Nat.le_of_ble_eq_true rfl) (by decide) (by decide) rfl dX11_yearBy_94 rfl ?_
  obtain ⟨r2, N1, he3, h⟩ := h
  refine e_r_callV (a := 64) (av := [.inl (M 68 0)]) (st := []) mqYX11_draw ml_RX11_365 cl_11 rfl (Nat.le_of_ble_eq_true rfl) (by simp [e_cat]) rfl rfl rfl dX11_yearBy_95 (pc' := 98) rfl he3 ⟨Nat.le_refl _, Nat.le_refl _⟩ hmo ?_
  refine e_r_istore (pc' := 100) (loc' := [some (.inr (.inr 64)), some (.inl p1), some (.inl p2), some (.inl p3), some (.inl p4), some (.inl v5), some (.inl v6), some (.inl r2)]) dX11_yearBy_98 rfl rfl rfl rfl ?_
  refine e_r_aload_n (pc' := 101) (by decide) dX11_yearBy_100 rfl rfl rfl ?_
  refine e_r_bipush (pc' := 103) dX11_yearBy_101 rfl (by decide) ?_
  obtain ⟨r5, N4, he6, h⟩ := h
  refine e_r_callV (a := 64) (av := [.inl 16]) (st := []) mqYX11_draw ml_RX11_365 cl_11 rfl (Nat.le_of_ble_eq_true rfl) (by simp [e_cat]) rfl rfl rfl dX11_yearBy_103 (pc' := 106) rfl he6 ⟨Nat.le_refl _, Nat.le_refl _⟩ hmo ?_
  refine e_r_iload (pc' := 108) dX11_yearBy_106 rfl rfl ?_
  obtain ⟨ht7, hf8⟩ := h
  refine e_r_icmp_ge (tgt := 121) (pc' := 111) dX11_yearBy_108 rfl rfl (fun c => ?_) (fun c => ?_)
  · have h := ht7 c
    exact e_forget (m := [true, true, true, true, true, true, false, false]) h rfl
  · have h := hf8 c
    refine e_r_aload_n (pc' := 112) (by decide) dX11_yearBy_111 rfl rfl rfl ?_
    refine e_r_getr (k := 32) (q := 533) (pc' := 115) cl_11 rfl (Nat.le_of_ble_eq_true rfl) rfl rfl fl_RX11_76 rfl (Nat.le_of_ble_eq_true rfl) dX11_yearBy_112 rfl ?_
    refine e_r_iload (pc' := 117) dX11_yearBy_115 rfl rfl ?_
    obtain ⟨r10, N9, he11, h⟩ := h
    refine e_r_callS (av := [.inr (.inr 533), .inl r2]) (st := []) mqYX11_sells ml_RX11_295 (by simp [e_cat]) rfl rfl rfl dX11_yearBy_117 (pc' := 120) rfl he11 ⟨Nat.le_refl _, Nat.le_refl _⟩ hmo ?_
    refine e_r_pop (pc' := 121) rfl dX11_yearBy_120 rfl ?_
    exact e_forget (m := [true, true, true, true, true, true, false, false]) h rfl
theorem wp_X11_yearBy_121 {X : e_X} {d gn : Nat} {o : e_O} (M : e_M) (p1 p2 p3 p4 v5 : Int) (hmo : e_mn (557, gn, e_RF, M) o.2) (h : (∃ N1 : e_M, e_E X d YX11_weekEnds [.inr (.inr 64), .inr (.inr 533)] (557, gn, e_RF, M) (.inl none, (557, gn, e_RF, N1)) ∧ e_G X (d + 1) YX11_yearBy 24 [some (.inr (.inr 64)), some (.inl p1), some (.inl p2), some (.inl p3), some (.inl p4), some (.inl (e_w (v5 + 1))), none, none] [] (557, gn, e_RF, N1) o)) : e_G X (d + 1) YX11_yearBy 121 [some (.inr (.inr 64)), some (.inl p1), some (.inl p2), some (.inl p3), some (.inl p4), some (.inl v5), none, none] [] (557, gn, e_RF, M) o := by
  refine e_r_aload_n (pc' := 122) (by decide) dX11_yearBy_121 rfl rfl rfl ?_
  refine e_r_aload_n (pc' := 123) (by decide) dX11_yearBy_122 rfl rfl rfl ?_
  refine e_r_getr (k := 32) (q := 533) (pc' := 126) cl_11 rfl (Nat.le_of_ble_eq_true rfl) rfl rfl fl_RX11_76 rfl (Nat.le_of_ble_eq_true rfl) dX11_yearBy_123 rfl ?_
  obtain ⟨N1, he2, h⟩ := h
  refine e_r_callV (a := 64) (av := [.inr (.inr 533)]) (st := []) mqYX11_weekEnds ml_RX11_298 cl_11 rfl (Nat.le_of_ble_eq_true rfl) (by simp [e_cat]) rfl rfl rfl dX11_yearBy_126 (pc' := 129) rfl he2 ⟨Nat.le_refl _, Nat.le_refl _⟩ hmo ?_
  refine e_r_iinc (pc' := 132) (loc' := [some (.inr (.inr 64)), some (.inl p1), some (.inl p2), some (.inl p3), some (.inl p4), some (.inl (e_w (v5 + 1))), none, none]) dX11_yearBy_129 rfl rfl rfl rfl rfl ?_
  refine e_r_goto (pc' := 24) dX11_yearBy_132 rfl ?_
  exact h
theorem wp_X11_isYear_0 {X : e_X} {d gn : Nat} {o : e_O} (M : e_M) (p0 p1 p2 : Int) (hmo : e_mn (557, gn, e_RF, M) o.2) (h : (∃ (r2 : Int) (N1 : e_M), e_E X d YX11_in [.inl p0, .inl 1, .inl 96] (557, gn, e_RF, M) (.inl (some (.inl r2)), (557, gn, e_RF, N1)) ∧ ((r2 = 0 → (o = (.inl (some (.inl 0)), (557, gn, e_RF, N1)))) ∧ (¬ (r2 = 0) → (∃ (r7 : Int) (N6 : e_M), e_E X d YX11_in [.inl p1, .inl 0, .inl 16] (557, gn, e_RF, N1) (.inl (some (.inl r7)), (557, gn, e_RF, N6)) ∧ ((r7 = 0 → (o = (.inl (some (.inl 0)), (557, gn, e_RF, N6)))) ∧ (¬ (r7 = 0) → (∃ (r12 : Int) (N11 : e_M), e_E X d YX11_in [.inl p2, .inl 0, .inl 16] (557, gn, e_RF, N6) (.inl (some (.inl r12)), (557, gn, e_RF, N11)) ∧ ((r12 = 0 → (o = (.inl (some (.inl 0)), (557, gn, e_RF, N11)))) ∧ (¬ (r12 = 0) → (o = (.inl (some (.inl 1)), (557, gn, e_RF, N11))))))))))))) : e_G X (d + 1) YX11_isYear 0 [some (.inl p0), some (.inl p1), some (.inl p2)] [] (557, gn, e_RF, M) o := by
  refine e_r_iload_n (pc' := 1) dX11_isYear_0 rfl rfl rfl ?_
  refine e_r_iconst (pc' := 2) dX11_isYear_1 rfl (by decide) ?_
  refine e_r_bipush (pc' := 4) dX11_isYear_2 rfl (by decide) ?_
  obtain ⟨r2, N1, he3, h⟩ := h
  refine e_r_callS (av := [.inl p0, .inl 1, .inl 96]) (st := []) mqYX11_in ml_RX11_131 (by simp [e_cat]) rfl rfl rfl dX11_isYear_4 (pc' := 7) rfl he3 ⟨Nat.le_refl _, Nat.le_refl _⟩ hmo ?_
  obtain ⟨ht4, hf5⟩ := h
  refine e_r_if_eq (tgt := 34) (pc' := 10) dX11_isYear_7 rfl rfl (fun c => ?_) (fun c => ?_)
  · have h := ht4 c
    refine e_r_iconst (pc' := 35) dX11_isYear_34 rfl (by decide) ?_
    exact e_r_iret (ty := .boolean) rfl (e_nZ (by decide)) dX11_isYear_35 h
  · have h := hf5 c
    refine e_r_iload_n (pc' := 11) dX11_isYear_10 rfl rfl rfl ?_
    refine e_r_iconst (pc' := 12) dX11_isYear_11 rfl (by decide) ?_
    refine e_r_bipush (pc' := 14) dX11_isYear_12 rfl (by decide) ?_
    obtain ⟨r7, N6, he8, h⟩ := h
    refine e_r_callS (av := [.inl p1, .inl 0, .inl 16]) (st := []) mqYX11_in ml_RX11_131 (by simp [e_cat]) rfl rfl rfl dX11_isYear_14 (pc' := 17) rfl he8 ⟨Nat.le_refl _, Nat.le_refl _⟩ hmo ?_
    obtain ⟨ht9, hf10⟩ := h
    refine e_r_if_eq (tgt := 34) (pc' := 20) dX11_isYear_17 rfl rfl (fun c => ?_) (fun c => ?_)
    · have h := ht9 c
      refine e_r_iconst (pc' := 35) dX11_isYear_34 rfl (by decide) ?_
      exact e_r_iret (ty := .boolean) rfl (e_nZ (by decide)) dX11_isYear_35 h
    · have h := hf10 c
      refine e_r_iload_n (pc' := 21) dX11_isYear_20 rfl rfl rfl ?_
      refine e_r_iconst (pc' := 22) dX11_isYear_21 rfl (by decide) ?_
      refine e_r_bipush (pc' := 24) dX11_isYear_22 rfl (by decide) ?_
      obtain ⟨r12, N11, he13, h⟩ := h
      refine e_r_callS (av := [.inl p2, .inl 0, .inl 16]) (st := []) mqYX11_in ml_RX11_131 (by simp [e_cat]) rfl rfl rfl dX11_isYear_24 (pc' := 27) rfl he13 ⟨Nat.le_refl _, Nat.le_refl _⟩ hmo ?_
      obtain ⟨ht14, hf15⟩ := h
      refine e_r_if_eq (tgt := 34) (pc' := 30) dX11_isYear_27 rfl rfl (fun c => ?_) (fun c => ?_)
      · have h := ht14 c
        refine e_r_iconst (pc' := 35) dX11_isYear_34 rfl (by decide) ?_
        exact e_r_iret (ty := .boolean) rfl (e_nZ (by decide)) dX11_isYear_35 h
      · have h := hf15 c
        refine e_r_iconst (pc' := 31) dX11_isYear_30 rfl (by decide) ?_
        refine e_r_goto (pc' := 35) dX11_isYear_31 rfl ?_
        exact e_r_iret (ty := .boolean) rfl (e_nZ (by decide)) dX11_isYear_35 h
theorem wp_X11_year_0 {X : e_X} {d gn : Nat} {o : e_O} (M : e_M) (p1 p2 p3 p4 p5 : Int) (hmo : e_mn (557, gn, e_RF, M) o.2) (h : (∃ (r2 : Int) (N1 : e_M), e_E X d YX11_isYear [.inl p2, .inl p3, .inl p4] (557, gn, e_RF, (e_up M 64 0 0)) (.inl (some (.inl r2)), (557, gn, e_RF, N1)) ∧ ((r2 = 0 → e_G X (d + 1) YX11_year 26 [some (.inr (.inr 64)), some (.inl p1), some (.inl p2), some (.inl p3), some (.inl p4), some (.inl p5)] [.inr (.inr 64)] (557, gn, e_RF, N1) o) ∧ (¬ (r2 = 0) → (∃ (r7 : Int) (N6 : e_M), e_E X d YX11_in [.inl p5, .inl 0, .inl 4] (557, gn, e_RF, N1) (.inl (some (.inl r7)), (557, gn, e_RF, N6)) ∧ ((¬ r7 = 0 → e_G X (d + 1) YX11_year 31 [some (.inr (.inr 64)), some (.inl p1), some (.inl p2), some (.inl p3), some (.inl p4), some (.inl p5)] [.inl 0, .inr (.inr 64)] (557, gn, e_RF, N6) o) ∧ (r7 = 0 → e_G X (d + 1) YX11_year 26 [some (.inr (.inr 64)), some (.inl p1), some (.inl p2), some (.inl p3), some (.inl p4), some (.inl p5)] [.inr (.inr 64)] (557, gn, e_RF, N6) o))))))) : e_G X (d + 1) YX11_year 0 [some (.inr (.inr 64)), some (.inl p1), some (.inl p2), some (.inl p3), some (.inl p4), some (.inl p5)] [] (557, gn, e_RF, M) o := by
  refine e_r_aload_n (pc' := 1) (by decide) dX11_year_0 rfl rfl rfl ?_
  refine e_r_iconst (pc' := 2) dX11_year_1 rfl (by decide) ?_
  refine e_r_puti (k := 0) (pc' := 5) cl_11 rfl (Nat.le_of_ble_eq_true rfl) rfl rfl fl_RX11_97 rfl (by decide +kernel) dX11_year_2 rfl ?_
  refine e_r_aload_n (pc' := 6) (by decide) dX11_year_5 rfl rfl rfl ?_
  refine e_r_iload_n (pc' := 7) dX11_year_6 rfl rfl rfl ?_
  refine e_r_iload_n (pc' := 8) dX11_year_7 rfl rfl rfl ?_
  refine e_r_iload (pc' := 10) dX11_year_8 rfl rfl ?_
  obtain ⟨r2, N1, he3, h⟩ := h
  refine e_r_callS (av := [.inl p2, .inl p3, .inl p4]) (st := [.inr (.inr 64)]) mqYX11_isYear ml_RX11_368 (by simp [e_cat]) rfl rfl rfl dX11_year_10 (pc' := 13) rfl he3 ⟨Nat.le_refl _, Nat.le_refl _⟩ hmo ?_
  obtain ⟨ht4, hf5⟩ := h
  refine e_r_if_eq (tgt := 26) (pc' := 16) dX11_year_13 rfl rfl (fun c => ?_) (fun c => ?_)
  · have h := ht4 c
    exact h
  · have h := hf5 c
    refine e_r_iload (pc' := 18) dX11_year_16 rfl rfl ?_
    refine e_r_iconst (pc' := 19) dX11_year_18 rfl (by decide) ?_
    refine e_r_iconst (pc' := 20) dX11_year_19 rfl (by decide) ?_
    obtain ⟨r7, N6, he8, h⟩ := h
    refine e_r_callS (av := [.inl p5, .inl 0, .inl 4]) (st := [.inr (.inr 64)]) mqYX11_in ml_RX11_131 (by simp [e_cat]) rfl rfl rfl dX11_year_20 (pc' := 23) rfl he8 ⟨Nat.le_refl _, Nat.le_refl _⟩ hmo ?_
    obtain ⟨ht9, hf10⟩ := h
    refine e_r_if_ne (tgt := 30) (pc' := 26) dX11_year_23 rfl rfl (fun c => ?_) (fun c => ?_)
    · have h := ht9 c
      refine e_r_iconst (pc' := 31) dX11_year_30 rfl (by decide) ?_
      exact h
    · have h := hf10 c
      exact h
theorem wp_X11_year_31 {X : e_X} {d gn : Nat} {o : e_O} (M : e_M) (p1 p2 p3 p4 p5 w0 : Int) (hmo : e_mn (557, gn, e_RF, M) o.2) (h : (∃ (r2 : Int) (N1 : e_M), e_E X d YX11_bad [.inr (.inr 64), .inl w0, .inl 1, .inl 1] (557, gn, e_RF, M) (.inl (some (.inl r2)), (557, gn, e_RF, N1)) ∧ ((r2 = 0 → (∃ N6 : e_M, e_E X d YX11_yearBy [.inr (.inr 64), .inl p1, .inl p2, .inl p3, .inl p4] (557, gn, e_RF, N1) (.inl none, (557, gn, e_RF, N6)) ∧ ((p5 = 0 → (∃ (r14 : Int) (N13 : e_M), e_E X d YX11_sumOf [.inr (.inr 64), .inr (.inr 533), .inl 0] (557, gn, e_RF, N6) (.inl (some (.inl r14)), (557, gn, e_RF, N13)) ∧ (o = (.inl (some (.inl r14)), (557, gn, e_RF, N13))))) ∧ (p5 = 1 → (∃ (r17 : Int) (N16 : e_M), e_E X d YX11_sumOf [.inr (.inr 64), .inr (.inr 533), .inl 6] (557, gn, e_RF, N6) (.inl (some (.inl r17)), (557, gn, e_RF, N16)) ∧ (o = (.inl (some (.inl r17)), (557, gn, e_RF, N16))))) ∧ (p5 = 2 → (o = (.inl (some (.inl (e_w ((N6 533 54) - (N6 532 54))))), (557, gn, e_RF, N6)))) ∧ (p5 = 3 → (o = (.inl (some (.inl (N6 64 46))), (557, gn, e_RF, N6)))) ∧ (p5 < 0 ∨ 3 < p5 → (∃ (r20 : Int) (N19 : e_M), e_E X d YX11_doneIn [.inr (.inr 64), .inr (.inr 533)] (557, gn, e_RF, N6) (.inl (some (.inl r20)), (557, gn, e_RF, N19)) ∧ (o = (.inl (some (.inl r20)), (557, gn, e_RF, N19)))))))) ∧ (¬ (r2 = 0) → (o = (.inl (some (.inl 0)), (557, gn, e_RF, N1))))))) : e_G X (d + 1) YX11_year 31 [some (.inr (.inr 64)), some (.inl p1), some (.inl p2), some (.inl p3), some (.inl p4), some (.inl p5)] [.inl w0, .inr (.inr 64)] (557, gn, e_RF, M) o := by
  refine e_r_iconst (pc' := 32) dX11_year_31 rfl (by decide) ?_
  refine e_r_iconst (pc' := 33) dX11_year_32 rfl (by decide) ?_
  obtain ⟨r2, N1, he3, h⟩ := h
  refine e_r_callV (a := 64) (av := [.inl w0, .inl 1, .inl 1]) (st := []) mqYX11_bad ml_RX11_173 cl_11 rfl (Nat.le_of_ble_eq_true rfl) (by simp [e_cat]) rfl rfl rfl dX11_year_33 (pc' := 36) rfl he3 ⟨Nat.le_refl _, Nat.le_refl _⟩ hmo ?_
  obtain ⟨ht4, hf5⟩ := h
  refine e_r_if_eq (tgt := 41) (pc' := 39) dX11_year_36 rfl rfl (fun c => ?_) (fun c => ?_)
  · have h := ht4 c
    refine e_r_aload_n (pc' := 42) (by decide) dX11_year_41 rfl rfl rfl ?_
    refine e_r_iload_n (pc' := 43) dX11_year_42 rfl rfl rfl ?_
    refine e_r_iload_n (pc' := 44) dX11_year_43 rfl rfl rfl ?_
    refine e_r_iload_n (pc' := 45) dX11_year_44 rfl rfl rfl ?_
    refine e_r_iload (pc' := 47) dX11_year_45 rfl rfl ?_
    obtain ⟨N6, he7, h⟩ := h
    refine e_r_callV (a := 64) (av := [.inl p1, .inl p2, .inl p3, .inl p4]) (st := []) mqYX11_yearBy ml_RX11_371 cl_11 rfl (Nat.le_of_ble_eq_true rfl) (by simp [e_cat]) rfl rfl rfl dX11_year_47 (pc' := 50) rfl he7 ⟨Nat.le_refl _, Nat.le_refl _⟩ hmo ?_
    refine e_r_iload (pc' := 52) dX11_year_50 rfl rfl ?_
    obtain ⟨hk8, hk9, hk10, hk11, hd12⟩ := h
    refine e_r_table (tgt := 126) dX11_year_52 rfl (fun j => bif Nat.beq j 0 then 84 else bif Nat.beq j 1 then 94 else bif Nat.beq j 2 then 105 else 121) (fun j hj => ?_) (fun j ej hj => ?_) (fun c => ?_)
    · rcases (show j = 0 ∨ j = 1 ∨ j = 2 ∨ j = 3 by omega) with rfl | rfl | rfl | rfl
      · exact ⟨32, rfl, rfl⟩
      · exact ⟨42, rfl, rfl⟩
      · exact ⟨53, rfl, rfl⟩
      · exact ⟨69, rfl, rfl⟩
    · rcases (show j = 0 ∨ j = 1 ∨ j = 2 ∨ j = 3 by omega) with rfl | rfl | rfl | rfl
      · have h := hk8 (by omega)
        show e_G X (d + 1) YX11_year 84 [some (.inr (.inr 64)), some (.inl p1), some (.inl p2), some (.inl p3), some (.inl p4), some (.inl p5)] [] (557, gn, e_RF, N6) o
        refine e_r_aload_n (pc' := 85) (by decide) dX11_year_84 rfl rfl rfl ?_
        refine e_r_aload_n (pc' := 86) (by decide) dX11_year_85 rfl rfl rfl ?_
        refine e_r_getr (k := 32) (q := 533) (pc' := 89) cl_11 rfl (Nat.le_of_ble_eq_true rfl) rfl rfl fl_RX11_76 rfl (Nat.le_of_ble_eq_true rfl) dX11_year_86 rfl ?_
        refine e_r_iconst (pc' := 90) dX11_year_89 rfl (by decide) ?_
        obtain ⟨r14, N13, he15, h⟩ := h
        refine e_r_callV (a := 64) (av := [.inr (.inr 533), .inl 0]) (st := []) mqYX11_sumOf ml_RX11_322 cl_11 rfl (Nat.le_of_ble_eq_true rfl) (by simp [e_cat]) rfl rfl rfl dX11_year_90 (pc' := 93) rfl he15 ⟨Nat.le_refl _, Nat.le_refl _⟩ hmo ?_
        exact e_r_iret (ty := .int) rfl (e_nI _) dX11_year_93 h
      · have h := hk9 (by omega)
        show e_G X (d + 1) YX11_year 94 [some (.inr (.inr 64)), some (.inl p1), some (.inl p2), some (.inl p3), some (.inl p4), some (.inl p5)] [] (557, gn, e_RF, N6) o
        refine e_r_aload_n (pc' := 95) (by decide) dX11_year_94 rfl rfl rfl ?_
        refine e_r_aload_n (pc' := 96) (by decide) dX11_year_95 rfl rfl rfl ?_
        refine e_r_getr (k := 32) (q := 533) (pc' := 99) cl_11 rfl (Nat.le_of_ble_eq_true rfl) rfl rfl fl_RX11_76 rfl (Nat.le_of_ble_eq_true rfl) dX11_year_96 rfl ?_
        refine e_r_bipush (pc' := 101) dX11_year_99 rfl (by decide) ?_
        obtain ⟨r17, N16, he18, h⟩ := h
        refine e_r_callV (a := 64) (av := [.inr (.inr 533), .inl 6]) (st := []) mqYX11_sumOf ml_RX11_322 cl_11 rfl (Nat.le_of_ble_eq_true rfl) (by simp [e_cat]) rfl rfl rfl dX11_year_101 (pc' := 104) rfl he18 ⟨Nat.le_refl _, Nat.le_refl _⟩ hmo ?_
        exact e_r_iret (ty := .int) rfl (e_nI _) dX11_year_104 h
      · have h := hk10 (by omega)
        show e_G X (d + 1) YX11_year 105 [some (.inr (.inr 64)), some (.inl p1), some (.inl p2), some (.inl p3), some (.inl p4), some (.inl p5)] [] (557, gn, e_RF, N6) o
        refine e_r_aload_n (pc' := 106) (by decide) dX11_year_105 rfl rfl rfl ?_
        refine e_r_getr (k := 32) (q := 533) (pc' := 109) cl_11 rfl (Nat.le_of_ble_eq_true rfl) rfl rfl fl_RX11_76 rfl (Nat.le_of_ble_eq_true rfl) dX11_year_106 rfl ?_
        refine e_r_bipush (pc' := 111) dX11_year_109 rfl (by decide) ?_
        refine e_r_iald (j9 := 54) (pc' := 112) rfl (Nat.le_of_ble_eq_true rfl) (by decide) (by decide) rfl dX11_year_111 rfl ?_
        refine e_r_aload_n (pc' := 113) (by decide) dX11_year_112 rfl rfl rfl ?_
        refine e_r_getr (k := 31) (q := 532) (pc' := 116) cl_11 rfl (Nat.le_of_ble_eq_true rfl) rfl rfl fl_RX11_73 rfl (Nat.le_of_ble_eq_true rfl) dX11_year_113 rfl ?_
        refine e_r_bipush (pc' := 118) dX11_year_116 rfl (by decide) ?_
        refine e_r_iald (j9 := 54) (pc' := 119) rfl (Nat.le_of_ble_eq_true rfl) (by decide) (by decide) rfl dX11_year_118 rfl ?_
        refine e_r_isub (pc' := 120) dX11_year_119 rfl ?_
        exact e_r_iret (ty := .int) rfl (e_nI _) dX11_year_120 h
      · have h := hk11 (by omega)
        show e_G X (d + 1) YX11_year 121 [some (.inr (.inr 64)), some (.inl p1), some (.inl p2), some (.inl p3), some (.inl p4), some (.inl p5)] [] (557, gn, e_RF, N6) o
        refine e_r_aload_n (pc' := 122) (by decide) dX11_year_121 rfl rfl rfl ?_
        refine e_r_geti (k := 46) (pc' := 125) cl_11 rfl (Nat.le_of_ble_eq_true rfl) rfl rfl fl_RX11_362 dX11_year_122 rfl ?_
        exact e_r_iret (ty := .int) rfl (e_nI _) dX11_year_125 h
    · have h := hd12 c
      refine e_r_aload_n (pc' := 127) (by decide) dX11_year_126 rfl rfl rfl ?_
      refine e_r_aload_n (pc' := 128) (by decide) dX11_year_127 rfl rfl rfl ?_
      refine e_r_getr (k := 32) (q := 533) (pc' := 131) cl_11 rfl (Nat.le_of_ble_eq_true rfl) rfl rfl fl_RX11_76 rfl (Nat.le_of_ble_eq_true rfl) dX11_year_128 rfl ?_
      obtain ⟨r20, N19, he21, h⟩ := h
      refine e_r_callV (a := 64) (av := [.inr (.inr 533)]) (st := []) mqYX11_doneIn ml_RX11_319 cl_11 rfl (Nat.le_of_ble_eq_true rfl) (by simp [e_cat]) rfl rfl rfl dX11_year_131 (pc' := 134) rfl he21 ⟨Nat.le_refl _, Nat.le_refl _⟩ hmo ?_
      exact e_r_iret (ty := .int) rfl (e_nI _) dX11_year_134 h
  · have h := hf5 c
    refine e_r_iconst (pc' := 40) dX11_year_39 rfl (by decide) ?_
    exact e_r_iret (ty := .int) rfl (e_nI _) dX11_year_40 h
theorem wp_X11_year_26 {X : e_X} {d gn : Nat} {o : e_O} (M : e_M) (p1 p2 p3 p4 p5 : Int) (h : e_G X (d + 1) YX11_year 31 [some (.inr (.inr 64)), some (.inl p1), some (.inl p2), some (.inl p3), some (.inl p4), some (.inl p5)] [.inl 1, .inr (.inr 64)] (557, gn, e_RF, M) o) : e_G X (d + 1) YX11_year 26 [some (.inr (.inr 64)), some (.inl p1), some (.inl p2), some (.inl p3), some (.inl p4), some (.inl p5)] [.inr (.inr 64)] (557, gn, e_RF, M) o := by
  refine e_r_iconst (pc' := 27) dX11_year_26 rfl (by decide) ?_
  refine e_r_goto (pc' := 31) dX11_year_27 rfl ?_
  exact h
theorem wp_X11_span_0 {X : e_X} {d gn : Nat} {o : e_O} (M : e_M) (p1 p2 p3 p4 p5 p6 p7 : Int) (hmo : e_mn (557, gn, e_RF, M) o.2) (h : (∃ (r2 : Int) (N1 : e_M), e_E X d YX11_in [.inl p2, .inl 1, .inl 20] (557, gn, e_RF, (e_up M 64 0 0)) (.inl (some (.inl r2)), (557, gn, e_RF, N1)) ∧ ((r2 = 0 → e_G X (d + 1) YX11_span 54 [some (.inr (.inr 64)), some (.inl p1), some (.inl p2), some (.inl p3), some (.inl p4), some (.inl p5), some (.inl p6), some (.inl p7), none, none, none, none, none] [.inr (.inr 64)] (557, gn, e_RF, N1) o) ∧ (¬ (r2 = 0) → (∃ (r7 : Int) (N6 : e_M), e_E X d YX11_isYear [.inl p3, .inl p4, .inl p5] (557, gn, e_RF, N1) (.inl (some (.inl r7)), (557, gn, e_RF, N6)) ∧ ((r7 = 0 → e_G X (d + 1) YX11_span 54 [some (.inr (.inr 64)), some (.inl p1), some (.inl p2), some (.inl p3), some (.inl p4), some (.inl p5), some (.inl p6), some (.inl p7), none, none, none, none, none] [.inr (.inr 64)] (557, gn, e_RF, N6) o) ∧ (¬ (r7 = 0) → (∃ (r12 : Int) (N11 : e_M), e_E X d YX11_in [.inl p6, .inl 0, .inl 2] (557, gn, e_RF, N6) (.inl (some (.inl r12)), (557, gn, e_RF, N11)) ∧ ((r12 = 0 → e_G X (d + 1) YX11_span 54 [some (.inr (.inr 64)), some (.inl p1), some (.inl p2), some (.inl p3), some (.inl p4), some (.inl p5), some (.inl p6), some (.inl p7), none, none, none, none, none] [.inr (.inr 64)] (557, gn, e_RF, N11) o) ∧ (¬ (r12 = 0) → (∃ (r17 : Int) (N16 : e_M), e_E X d YX11_in [.inl p7, .inl 0, .inl (e_w ((N11 68 2) - 1))] (557, gn, e_RF, N11) (.inl (some (.inl r17)), (557, gn, e_RF, N16)) ∧ ((¬ r17 = 0 → e_G X (d + 1) YX11_span 59 [some (.inr (.inr 64)), some (.inl p1), some (.inl p2), some (.inl p3), some (.inl p4), some (.inl p5), some (.inl p6), some (.inl p7), none, none, none, none, none] [.inl 0, .inr (.inr 64)] (557, gn, e_RF, N16) o) ∧ (r17 = 0 → e_G X (d + 1) YX11_span 54 [some (.inr (.inr 64)), some (.inl p1), some (.inl p2), some (.inl p3), some (.inl p4), some (.inl p5), some (.inl p6), some (.inl p7), none, none, none, none, none] [.inr (.inr 64)] (557, gn, e_RF, N16) o))))))))))))) : e_G X (d + 1) YX11_span 0 [some (.inr (.inr 64)), some (.inl p1), some (.inl p2), some (.inl p3), some (.inl p4), some (.inl p5), some (.inl p6), some (.inl p7), none, none, none, none, none] [] (557, gn, e_RF, M) o := by
  refine e_r_aload_n (pc' := 1) (by decide) dX11_span_0 rfl rfl rfl ?_
  refine e_r_iconst (pc' := 2) dX11_span_1 rfl (by decide) ?_
  refine e_r_puti (k := 0) (pc' := 5) cl_11 rfl (Nat.le_of_ble_eq_true rfl) rfl rfl fl_RX11_97 rfl (by decide +kernel) dX11_span_2 rfl ?_
  refine e_r_aload_n (pc' := 6) (by decide) dX11_span_5 rfl rfl rfl ?_
  refine e_r_iload_n (pc' := 7) dX11_span_6 rfl rfl rfl ?_
  refine e_r_iconst (pc' := 8) dX11_span_7 rfl (by decide) ?_
  refine e_r_bipush (pc' := 10) dX11_span_8 rfl (by decide) ?_
  obtain ⟨r2, N1, he3, h⟩ := h
  refine e_r_callS (av := [.inl p2, .inl 1, .inl 20]) (st := [.inr (.inr 64)]) mqYX11_in ml_RX11_131 (by simp [e_cat]) rfl rfl rfl dX11_span_10 (pc' := 13) rfl he3 ⟨Nat.le_refl _, Nat.le_refl _⟩ hmo ?_
  obtain ⟨ht4, hf5⟩ := h
  refine e_r_if_eq (tgt := 54) (pc' := 16) dX11_span_13 rfl rfl (fun c => ?_) (fun c => ?_)
  · have h := ht4 c
    exact h
  · have h := hf5 c
    refine e_r_iload_n (pc' := 17) dX11_span_16 rfl rfl rfl ?_
    refine e_r_iload (pc' := 19) dX11_span_17 rfl rfl ?_
    refine e_r_iload (pc' := 21) dX11_span_19 rfl rfl ?_
    obtain ⟨r7, N6, he8, h⟩ := h
    refine e_r_callS (av := [.inl p3, .inl p4, .inl p5]) (st := [.inr (.inr 64)]) mqYX11_isYear ml_RX11_368 (by simp [e_cat]) rfl rfl rfl dX11_span_21 (pc' := 24) rfl he8 ⟨Nat.le_refl _, Nat.le_refl _⟩ hmo ?_
    obtain ⟨ht9, hf10⟩ := h
    refine e_r_if_eq (tgt := 54) (pc' := 27) dX11_span_24 rfl rfl (fun c => ?_) (fun c => ?_)
    · have h := ht9 c
      exact h
    · have h := hf10 c
      refine e_r_iload (pc' := 29) dX11_span_27 rfl rfl ?_
      refine e_r_iconst (pc' := 30) dX11_span_29 rfl (by decide) ?_
      refine e_r_iconst (pc' := 31) dX11_span_30 rfl (by decide) ?_
      obtain ⟨r12, N11, he13, h⟩ := h
      refine e_r_callS (av := [.inl p6, .inl 0, .inl 2]) (st := [.inr (.inr 64)]) mqYX11_in ml_RX11_131 (by simp [e_cat]) rfl rfl rfl dX11_span_31 (pc' := 34) rfl he13 ⟨Nat.le_refl _, Nat.le_refl _⟩ hmo ?_
      obtain ⟨ht14, hf15⟩ := h
      refine e_r_if_eq (tgt := 54) (pc' := 37) dX11_span_34 rfl rfl (fun c => ?_) (fun c => ?_)
      · have h := ht14 c
        exact h
      · have h := hf15 c
        refine e_r_iload (pc' := 39) dX11_span_37 rfl rfl ?_
        refine e_r_iconst (pc' := 40) dX11_span_39 rfl (by decide) ?_
        refine e_r_aload_n (pc' := 41) (by decide) dX11_span_40 rfl rfl rfl ?_
        refine e_r_getr (k := 12) (q := 68) (pc' := 44) cl_11 rfl (Nat.le_of_ble_eq_true rfl) rfl rfl fl_RX11_23 rfl (Nat.le_of_ble_eq_true rfl) dX11_span_41 rfl ?_
        refine e_r_iconst (pc' := 45) dX11_span_44 rfl (by decide) ?_
        refine e_r_iald (j9 := 2) (pc' := 46) rfl (Nat.le_of_ble_eq_true rfl) (by decide) (by decide) rfl dX11_span_45 rfl ?_
        refine e_r_iconst (pc' := 47) dX11_span_46 rfl (by decide) ?_
        refine e_r_isub (pc' := 48) dX11_span_47 rfl ?_
        obtain ⟨r17, N16, he18, h⟩ := h
        refine e_r_callS (av := [.inl p7, .inl 0, .inl (e_w ((N11 68 2) - 1))]) (st := [.inr (.inr 64)]) mqYX11_in ml_RX11_131 (by simp [e_cat]) rfl rfl rfl dX11_span_48 (pc' := 51) rfl he18 ⟨Nat.le_refl _, Nat.le_refl _⟩ hmo ?_
        obtain ⟨ht19, hf20⟩ := h
        refine e_r_if_ne (tgt := 58) (pc' := 54) dX11_span_51 rfl rfl (fun c => ?_) (fun c => ?_)
        · have h := ht19 c
          refine e_r_iconst (pc' := 59) dX11_span_58 rfl (by decide) ?_
          exact h
        · have h := hf20 c
          exact h
theorem wp_X11_span_59 {X : e_X} {d gn : Nat} {o : e_O} (M : e_M) (p1 p2 p3 p4 p5 p6 p7 w0 : Int) (hmo : e_mn (557, gn, e_RF, M) o.2) (h : (∃ (r2 : Int) (N1 : e_M), e_E X d YX11_bad [.inr (.inr 64), .inl w0, .inl 1, .inl 1] (557, gn, e_RF, M) (.inl (some (.inl r2)), (557, gn, e_RF, N1)) ∧ ((r2 = 0 → e_G X (d + 1) YX11_span 81 [some (.inr (.inr 64)), some (.inl p1), some (.inl p2), some (.inl p3), some (.inl p4), some (.inl p5), some (.inl p6), some (.inl p7), some (.inl (-1)), some (.inl 0), some (.inl 0), some (.inl 0), none] [] (557, gn, e_RF, N1) o) ∧ (¬ (r2 = 0) → (o = (.inl (some (.inl 0)), (557, gn, e_RF, N1))))))) : e_G X (d + 1) YX11_span 59 [some (.inr (.inr 64)), some (.inl p1), some (.inl p2), some (.inl p3), some (.inl p4), some (.inl p5), some (.inl p6), some (.inl p7), none, none, none, none, none] [.inl w0, .inr (.inr 64)] (557, gn, e_RF, M) o := by
  refine e_r_iconst (pc' := 60) dX11_span_59 rfl (by decide) ?_
  refine e_r_iconst (pc' := 61) dX11_span_60 rfl (by decide) ?_
  obtain ⟨r2, N1, he3, h⟩ := h
  refine e_r_callV (a := 64) (av := [.inl w0, .inl 1, .inl 1]) (st := []) mqYX11_bad ml_RX11_173 cl_11 rfl (Nat.le_of_ble_eq_true rfl) (by simp [e_cat]) rfl rfl rfl dX11_span_61 (pc' := 64) rfl he3 ⟨Nat.le_refl _, Nat.le_refl _⟩ hmo ?_
  obtain ⟨ht4, hf5⟩ := h
  refine e_r_if_eq (tgt := 69) (pc' := 67) dX11_span_64 rfl rfl (fun c => ?_) (fun c => ?_)
  · have h := ht4 c
    refine e_r_iconst (pc' := 70) dX11_span_69 rfl (by decide) ?_
    refine e_r_istore (pc' := 72) (loc' := [some (.inr (.inr 64)), some (.inl p1), some (.inl p2), some (.inl p3), some (.inl p4), some (.inl p5), some (.inl p6), some (.inl p7), some (.inl (-1)), none, none, none, none]) dX11_span_70 rfl rfl rfl rfl ?_
    refine e_r_iconst (pc' := 73) dX11_span_72 rfl (by decide) ?_
    refine e_r_istore (pc' := 75) (loc' := [some (.inr (.inr 64)), some (.inl p1), some (.inl p2), some (.inl p3), some (.inl p4), some (.inl p5), some (.inl p6), some (.inl p7), some (.inl (-1)), some (.inl 0), none, none, none]) dX11_span_73 rfl rfl rfl rfl ?_
    refine e_r_iconst (pc' := 76) dX11_span_75 rfl (by decide) ?_
    refine e_r_istore (pc' := 78) (loc' := [some (.inr (.inr 64)), some (.inl p1), some (.inl p2), some (.inl p3), some (.inl p4), some (.inl p5), some (.inl p6), some (.inl p7), some (.inl (-1)), some (.inl 0), some (.inl 0), none, none]) dX11_span_76 rfl rfl rfl rfl ?_
    refine e_r_iconst (pc' := 79) dX11_span_78 rfl (by decide) ?_
    refine e_r_istore (pc' := 81) (loc' := [some (.inr (.inr 64)), some (.inl p1), some (.inl p2), some (.inl p3), some (.inl p4), some (.inl p5), some (.inl p6), some (.inl p7), some (.inl (-1)), some (.inl 0), some (.inl 0), some (.inl 0), none]) dX11_span_79 rfl rfl rfl rfl ?_
    exact h
  · have h := hf5 c
    refine e_r_iconst (pc' := 68) dX11_span_67 rfl (by decide) ?_
    exact e_r_iret (ty := .int) rfl (e_nI _) dX11_span_68 h
theorem wp_X11_span_81 {X : e_X} {d gn : Nat} {o : e_O} (M : e_M) (p1 p2 p3 p4 p5 p6 p7 v8 v9 v10 v11 : Int) (hmo : e_mn (557, gn, e_RF, M) o.2) (h : ((p2 ≤ v11 → ((¬ p6 = 0 → ((¬ p6 = 1 → (o = (.inl (some (.inl v10)), (557, gn, e_RF, M)))) ∧ (p6 = 1 → (o = (.inl (some (.inl v9)), (557, gn, e_RF, M)))))) ∧ (p6 = 0 → (o = (.inl (some (.inl v8)), (557, gn, e_RF, M)))))) ∧ (¬ (p2 ≤ v11) → (∃ N7 : e_M, e_E X d YX11_yearBy [.inr (.inr 64), .inl (e_w (p1 + v11)), .inl p3, .inl p4, .inl p5] (557, gn, e_RF, M) (.inl none, (557, gn, e_RF, N7)) ∧ ((¬ v8 = (-1) → (∃ (r12 : Int) (N11 : e_M), e_E X d YX11_less [.inl v8, .inl (e_w ((N7 533 54) - (N7 532 54)))] (557, gn, e_RF, N7) (.inl (some (.inl r12)), (557, gn, e_RF, N11)) ∧ e_G X (d + 1) YX11_span 135 [some (.inr (.inr 64)), some (.inl p1), some (.inl p2), some (.inl p3), some (.inl p4), some (.inl p5), some (.inl p6), some (.inl p7), some (.inl v8), some (.inl v9), some (.inl v10), some (.inl v11), some (.inl (e_w ((N7 533 54) - (N7 532 54))))] [.inl r12] (557, gn, e_RF, N11) o)) ∧ (v8 = (-1) → e_G X (d + 1) YX11_span 135 [some (.inr (.inr 64)), some (.inl p1), some (.inl p2), some (.inl p3), some (.inl p4), some (.inl p5), some (.inl p6), some (.inl p7), some (.inl v8), some (.inl v9), some (.inl v10), some (.inl v11), some (.inl (e_w ((N7 533 54) - (N7 532 54))))] [.inl (e_w ((N7 533 54) - (N7 532 54)))] (557, gn, e_RF, N7) o)))))) : e_G X (d + 1) YX11_span 81 [some (.inr (.inr 64)), some (.inl p1), some (.inl p2), some (.inl p3), some (.inl p4), some (.inl p5), some (.inl p6), some (.inl p7), some (.inl v8), some (.inl v9), some (.inl v10), some (.inl v11), none] [] (557, gn, e_RF, M) o := by
  refine e_r_iload (pc' := 83) dX11_span_81 rfl rfl ?_
  refine e_r_iload_n (pc' := 84) dX11_span_83 rfl rfl rfl ?_
  obtain ⟨ht1, hf2⟩ := h
  refine e_r_icmp_ge (tgt := 167) (pc' := 87) dX11_span_84 rfl rfl (fun c => ?_) (fun c => ?_)
  · have h := ht1 c
    refine e_r_iload (pc' := 169) dX11_span_167 rfl rfl ?_
    obtain ⟨ht3, hf4⟩ := h
    refine e_r_if_ne (tgt := 177) (pc' := 172) dX11_span_169 rfl rfl (fun c => ?_) (fun c => ?_)
    · have h := ht3 c
      refine e_r_iload (pc' := 179) dX11_span_177 rfl rfl ?_
      refine e_r_iconst (pc' := 180) dX11_span_179 rfl (by decide) ?_
      obtain ⟨ht5, hf6⟩ := h
      refine e_r_icmp_ne (tgt := 188) (pc' := 183) dX11_span_180 rfl rfl (fun c => ?_) (fun c => ?_)
      · have h := ht5 c
        refine e_r_iload (pc' := 190) dX11_span_188 rfl rfl ?_
        exact e_r_iret (ty := .int) rfl (e_nI _) dX11_span_190 h
      · have h := hf6 c
        refine e_r_iload (pc' := 185) dX11_span_183 rfl rfl ?_
        refine e_r_goto (pc' := 190) dX11_span_185 rfl ?_
        exact e_r_iret (ty := .int) rfl (e_nI _) dX11_span_190 h
    · have h := hf4 c
      refine e_r_iload (pc' := 174) dX11_span_172 rfl rfl ?_
      refine e_r_goto (pc' := 190) dX11_span_174 rfl ?_
      exact e_r_iret (ty := .int) rfl (e_nI _) dX11_span_190 h
  · have h := hf2 c
    refine e_r_aload_n (pc' := 88) (by decide) dX11_span_87 rfl rfl rfl ?_
    refine e_r_iload_n (pc' := 89) dX11_span_88 rfl rfl rfl ?_
    refine e_r_iload (pc' := 91) dX11_span_89 rfl rfl ?_
    refine e_r_iadd (pc' := 92) dX11_span_91 rfl ?_
    refine e_r_iload_n (pc' := 93) dX11_span_92 rfl rfl rfl ?_
    refine e_r_iload (pc' := 95) dX11_span_93 rfl rfl ?_
    refine e_r_iload (pc' := 97) dX11_span_95 rfl rfl ?_
    obtain ⟨N7, he8, h⟩ := h
    refine e_r_callV (a := 64) (av := [.inl (e_w (p1 + v11)), .inl p3, .inl p4, .inl p5]) (st := []) mqYX11_yearBy ml_RX11_371 cl_11 rfl (Nat.le_of_ble_eq_true rfl) (by simp [e_cat]) rfl rfl rfl dX11_span_97 (pc' := 100) rfl he8 ⟨Nat.le_refl _, Nat.le_refl _⟩ hmo ?_
    refine e_r_aload_n (pc' := 101) (by decide) dX11_span_100 rfl rfl rfl ?_
    refine e_r_getr (k := 32) (q := 533) (pc' := 104) cl_11 rfl (Nat.le_of_ble_eq_true rfl) rfl rfl fl_RX11_76 rfl (Nat.le_of_ble_eq_true rfl) dX11_span_101 rfl ?_
    refine e_r_bipush (pc' := 106) dX11_span_104 rfl (by decide) ?_
    refine e_r_iald (j9 := 54) (pc' := 107) rfl (Nat.le_of_ble_eq_true rfl) (by decide) (by decide) rfl dX11_span_106 rfl ?_
    refine e_r_aload_n (pc' := 108) (by decide) dX11_span_107 rfl rfl rfl ?_
    refine e_r_getr (k := 31) (q := 532) (pc' := 111) cl_11 rfl (Nat.le_of_ble_eq_true rfl) rfl rfl fl_RX11_73 rfl (Nat.le_of_ble_eq_true rfl) dX11_span_108 rfl ?_
    refine e_r_bipush (pc' := 113) dX11_span_111 rfl (by decide) ?_
    refine e_r_iald (j9 := 54) (pc' := 114) rfl (Nat.le_of_ble_eq_true rfl) (by decide) (by decide) rfl dX11_span_113 rfl ?_
    refine e_r_isub (pc' := 115) dX11_span_114 rfl ?_
    refine e_r_istore (pc' := 117) (loc' := [some (.inr (.inr 64)), some (.inl p1), some (.inl p2), some (.inl p3), some (.inl p4), some (.inl p5), some (.inl p6), some (.inl p7), some (.inl v8), some (.inl v9), some (.inl v10), some (.inl v11), some (.inl (e_w ((N7 533 54) - (N7 532 54))))]) dX11_span_115 rfl rfl rfl rfl ?_
    refine e_r_iload (pc' := 119) dX11_span_117 rfl rfl ?_
    refine e_r_iconst (pc' := 120) dX11_span_119 rfl (by decide) ?_
    obtain ⟨ht9, hf10⟩ := h
    refine e_r_icmp_ne (tgt := 128) (pc' := 123) dX11_span_120 rfl rfl (fun c => ?_) (fun c => ?_)
    · have h := ht9 c
      refine e_r_iload (pc' := 130) dX11_span_128 rfl rfl ?_
      refine e_r_iload (pc' := 132) dX11_span_130 rfl rfl ?_
      obtain ⟨r12, N11, he13, h⟩ := h
      refine e_r_callS (av := [.inl v8, .inl (e_w ((N7 533 54) - (N7 532 54)))]) (st := []) mqYX11_less ml_RX11_237 (by simp [e_cat]) rfl rfl rfl dX11_span_132 (pc' := 135) rfl he13 ⟨Nat.le_refl _, Nat.le_refl _⟩ hmo ?_
      exact h
    · have h := hf10 c
      refine e_r_iload (pc' := 125) dX11_span_123 rfl rfl ?_
      refine e_r_goto (pc' := 135) dX11_span_125 rfl ?_
      exact h
theorem wp_X11_span_135 {X : e_X} {d gn : Nat} {o : e_O} (M : e_M) (p1 p2 p3 p4 p5 p6 p7 v8 v9 v10 v11 v12 w0 : Int) (hmo : e_mn (557, gn, e_RF, M) o.2) (h : (∃ (r2 : Int) (N1 : e_M), e_E X d YX11_more [.inl v9, .inl v12] (557, gn, e_RF, M) (.inl (some (.inl r2)), (557, gn, e_RF, N1)) ∧ ((0 ≤ (e_w (42 + p7)) ∧ (e_w (42 + p7)) < 56) ∧ e_G X (d + 1) YX11_span 81 [some (.inr (.inr 64)), some (.inl p1), some (.inl p2), some (.inl p3), some (.inl p4), some (.inl p5), some (.inl p6), some (.inl p7), some (.inl w0), some (.inl r2), some (.inl (e_w (v10 + (N1 533 (e_w (42 + p7)).toNat)))), some (.inl (e_w (v11 + 1))), none] [] (557, gn, e_RF, N1) o))) : e_G X (d + 1) YX11_span 135 [some (.inr (.inr 64)), some (.inl p1), some (.inl p2), some (.inl p3), some (.inl p4), some (.inl p5), some (.inl p6), some (.inl p7), some (.inl v8), some (.inl v9), some (.inl v10), some (.inl v11), some (.inl v12)] [.inl w0] (557, gn, e_RF, M) o := by
  refine e_r_istore (pc' := 137) (loc' := [some (.inr (.inr 64)), some (.inl p1), some (.inl p2), some (.inl p3), some (.inl p4), some (.inl p5), some (.inl p6), some (.inl p7), some (.inl w0), some (.inl v9), some (.inl v10), some (.inl v11), some (.inl v12)]) dX11_span_135 rfl rfl rfl rfl ?_
  refine e_r_iload (pc' := 139) dX11_span_137 rfl rfl ?_
  refine e_r_iload (pc' := 141) dX11_span_139 rfl rfl ?_
  obtain ⟨r2, N1, he3, h⟩ := h
  refine e_r_callS (av := [.inl v9, .inl v12]) (st := []) mqYX11_more ml_RX11_240 (by simp [e_cat]) rfl rfl rfl dX11_span_141 (pc' := 144) rfl he3 ⟨Nat.le_refl _, Nat.le_refl _⟩ hmo ?_
  refine e_r_istore (pc' := 146) (loc' := [some (.inr (.inr 64)), some (.inl p1), some (.inl p2), some (.inl p3), some (.inl p4), some (.inl p5), some (.inl p6), some (.inl p7), some (.inl w0), some (.inl r2), some (.inl v10), some (.inl v11), some (.inl v12)]) dX11_span_144 rfl rfl rfl rfl ?_
  refine e_r_iload (pc' := 148) dX11_span_146 rfl rfl ?_
  refine e_r_aload_n (pc' := 149) (by decide) dX11_span_148 rfl rfl rfl ?_
  refine e_r_getr (k := 32) (q := 533) (pc' := 152) cl_11 rfl (Nat.le_of_ble_eq_true rfl) rfl rfl fl_RX11_76 rfl (Nat.le_of_ble_eq_true rfl) dX11_span_149 rfl ?_
  refine e_r_bipush (pc' := 154) dX11_span_152 rfl (by decide) ?_
  refine e_r_iload (pc' := 156) dX11_span_154 rfl rfl ?_
  refine e_r_iadd (pc' := 157) dX11_span_156 rfl ?_
  obtain ⟨hb4, h⟩ := h
  refine e_r_iald (j9 := (e_w (42 + p7)).toNat) (pc' := 158) rfl (Nat.le_of_ble_eq_true rfl) hb4.1 hb4.2 rfl dX11_span_157 rfl ?_
  refine e_r_iadd (pc' := 159) dX11_span_158 rfl ?_
  refine e_r_istore (pc' := 161) (loc' := [some (.inr (.inr 64)), some (.inl p1), some (.inl p2), some (.inl p3), some (.inl p4), some (.inl p5), some (.inl p6), some (.inl p7), some (.inl w0), some (.inl r2), some (.inl (e_w (v10 + (N1 533 (e_w (42 + p7)).toNat)))), some (.inl v11), some (.inl v12)]) dX11_span_159 rfl rfl rfl rfl ?_
  refine e_r_iinc (pc' := 164) (loc' := [some (.inr (.inr 64)), some (.inl p1), some (.inl p2), some (.inl p3), some (.inl p4), some (.inl p5), some (.inl p6), some (.inl p7), some (.inl w0), some (.inl r2), some (.inl (e_w (v10 + (N1 533 (e_w (42 + p7)).toNat)))), some (.inl (e_w (v11 + 1))), some (.inl v12)]) dX11_span_161 rfl rfl rfl rfl rfl ?_
  refine e_r_goto (pc' := 81) dX11_span_164 rfl ?_
  exact e_forget (m := [true, true, true, true, true, true, true, true, true, true, true, true, false]) h rfl
theorem wp_X11_span_54 {X : e_X} {d gn : Nat} {o : e_O} (M : e_M) (p1 p2 p3 p4 p5 p6 p7 : Int) (h : e_G X (d + 1) YX11_span 59 [some (.inr (.inr 64)), some (.inl p1), some (.inl p2), some (.inl p3), some (.inl p4), some (.inl p5), some (.inl p6), some (.inl p7), none, none, none, none, none] [.inl 1, .inr (.inr 64)] (557, gn, e_RF, M) o) : e_G X (d + 1) YX11_span 54 [some (.inr (.inr 64)), some (.inl p1), some (.inl p2), some (.inl p3), some (.inl p4), some (.inl p5), some (.inl p6), some (.inl p7), none, none, none, none, none] [.inr (.inr 64)] (557, gn, e_RF, M) o := by
  refine e_r_iconst (pc' := 55) dX11_span_54 rfl (by decide) ?_
  refine e_r_goto (pc' := 59) dX11_span_55 rfl ?_
  exact h
theorem wp_X11_puts_0 {X : e_X} {d gn : Nat} {o : e_O} {q0 : Nat} (hq0 : e_SH q0 = (20, 953)) (kq0 : q0 ≤ 557) (zq0 : q0 ≠ 0) (M : e_M) (p2 p3 : Int) (h : ((¬ p3 = 0 → e_G X d YX11_puts 11 [some (.inr (.inr 64)), some (.inr (.inr q0)), some (.inl p2), some (.inl p3)] [] (557, gn, e_RF, M) o) ∧ (p3 = 0 → ((0 ≤ (M 64 39) ∧ (M 64 39) < 953) ∧ e_G X d YX11_puts 11 [some (.inr (.inr 64)), some (.inr (.inr q0)), some (.inl p2), some (.inl p3)] [] (557, gn, e_RF, (e_up M q0 (M 64 39).toNat p2)) o)))) : e_G X d YX11_puts 0 [some (.inr (.inr 64)), some (.inr (.inr q0)), some (.inl p2), some (.inl p3)] [] (557, gn, e_RF, M) o := by
  refine e_r_iload_n (pc' := 1) dX11_puts_0 rfl rfl rfl ?_
  obtain ⟨ht1, hf2⟩ := h
  refine e_r_if_ne (tgt := 11) (pc' := 4) dX11_puts_1 rfl rfl (fun c => ?_) (fun c => ?_)
  · have h := ht1 c
    exact h
  · have h := hf2 c
    refine e_r_aload_n (pc' := 5) zq0 dX11_puts_4 rfl rfl rfl ?_
    refine e_r_aload_n (pc' := 6) (by decide) dX11_puts_5 rfl rfl rfl ?_
    refine e_r_geti (k := 39) (pc' := 9) cl_11 rfl (Nat.le_of_ble_eq_true rfl) rfl rfl fl_RX11_375 dX11_puts_6 rfl ?_
    refine e_r_iload_n (pc' := 10) dX11_puts_9 rfl rfl rfl ?_
    obtain ⟨hb3, h⟩ := h
    refine e_r_iast (j9 := (M 64 39).toNat) (pc' := 11) hq0 kq0 hb3.1 hb3.2 rfl dX11_puts_10 rfl ?_
    exact h
theorem wp_X11_puts_11 {X : e_X} {d gn : Nat} {o : e_O} {q0 : Nat} (hq0 : e_SH q0 = (20, 953)) (kq0 : q0 ≤ 557) (zq0 : q0 ≠ 0) (M : e_M) (p2 p3 : Int) (h : ((0 ≤ (e_w (((e_up M 64 39 (e_w ((M 64 39) + 1))) 64 39) - 1)) ∧ (e_w (((e_up M 64 39 (e_w ((M 64 39) + 1))) 64 39) - 1)) < 953) ∧ (o = (.inl (some (.inl ((e_up M 64 39 (e_w ((M 64 39) + 1))) q0 (e_w (((e_up M 64 39 (e_w ((M 64 39) + 1))) 64 39) - 1)).toNat))), (557, gn, e_RF, (e_up M 64 39 (e_w ((M 64 39) + 1)))))))) : e_G X d YX11_puts 11 [some (.inr (.inr 64)), some (.inr (.inr q0)), some (.inl p2), some (.inl p3)] [] (557, gn, e_RF, M) o := by
  refine e_r_aload_n (pc' := 12) (by decide) dX11_puts_11 rfl rfl rfl ?_
  refine e_r_dup (pc' := 13) rfl dX11_puts_12 rfl ?_
  refine e_r_geti (k := 39) (pc' := 16) cl_11 rfl (Nat.le_of_ble_eq_true rfl) rfl rfl fl_RX11_375 dX11_puts_13 rfl ?_
  refine e_r_iconst (pc' := 17) dX11_puts_16 rfl (by decide) ?_
  refine e_r_iadd (pc' := 18) dX11_puts_17 rfl ?_
  refine e_r_puti (k := 39) (pc' := 21) cl_11 rfl (Nat.le_of_ble_eq_true rfl) rfl rfl fl_RX11_375 rfl (by decide +kernel) dX11_puts_18 rfl ?_
  refine e_r_aload_n (pc' := 22) zq0 dX11_puts_21 rfl rfl rfl ?_
  refine e_r_aload_n (pc' := 23) (by decide) dX11_puts_22 rfl rfl rfl ?_
  refine e_r_geti (k := 39) (pc' := 26) cl_11 rfl (Nat.le_of_ble_eq_true rfl) rfl rfl fl_RX11_375 dX11_puts_23 rfl ?_
  refine e_r_iconst (pc' := 27) dX11_puts_26 rfl (by decide) ?_
  refine e_r_isub (pc' := 28) dX11_puts_27 rfl ?_
  obtain ⟨hb1, h⟩ := h
  refine e_r_iald (j9 := (e_w (((e_up M 64 39 (e_w ((M 64 39) + 1))) 64 39) - 1)).toNat) (pc' := 29) hq0 kq0 hb1.1 hb1.2 rfl dX11_puts_28 rfl ?_
  exact e_r_iret (ty := .int) rfl (e_nI _) dX11_puts_29 h
theorem wp_X11_putsAll_0 {X : e_X} {d gn : Nat} {o : e_O} {q0 : Nat} (hq0 : e_SH q0 = (20, 953)) (kq0 : q0 ≤ 557) (zq0 : q0 ≠ 0) (M : e_M) (p2 : Int) (hmo : e_mn (557, gn, e_RF, M) o.2) (h : (∃ (r2 : Int) (N1 : e_M), e_E X d YX11_puts [.inr (.inr 64), .inr (.inr q0), .inl ((e_up M 64 39 0) 64 36), .inl p2] (557, gn, e_RF, (e_up M 64 39 0)) (.inl (some (.inl r2)), (557, gn, e_RF, N1)) ∧ e_G X (d + 1) YX11_putsAll 21 [some (.inr (.inr 64)), some (.inr (.inr q0)), some (.inl p2), some (.inl 0), none] [] (557, gn, e_RF, (e_up N1 64 36 r2)) o)) : e_G X (d + 1) YX11_putsAll 0 [some (.inr (.inr 64)), some (.inr (.inr q0)), some (.inl p2), none, none] [] (557, gn, e_RF, M) o := by
  refine e_r_aload_n (pc' := 1) (by decide) dX11_putsAll_0 rfl rfl rfl ?_
  refine e_r_iconst (pc' := 2) dX11_putsAll_1 rfl (by decide) ?_
  refine e_r_puti (k := 39) (pc' := 5) cl_11 rfl (Nat.le_of_ble_eq_true rfl) rfl rfl fl_RX11_375 rfl (by decide +kernel) dX11_putsAll_2 rfl ?_
  refine e_r_aload_n (pc' := 6) (by decide) dX11_putsAll_5 rfl rfl rfl ?_
  refine e_r_aload_n (pc' := 7) (by decide) dX11_putsAll_6 rfl rfl rfl ?_
  refine e_r_aload_n (pc' := 8) zq0 dX11_putsAll_7 rfl rfl rfl ?_
  refine e_r_aload_n (pc' := 9) (by decide) dX11_putsAll_8 rfl rfl rfl ?_
  refine e_r_geti (k := 36) (pc' := 12) cl_11 rfl (Nat.le_of_ble_eq_true rfl) rfl rfl fl_RX11_196 dX11_putsAll_9 rfl ?_
  refine e_r_iload_n (pc' := 13) dX11_putsAll_12 rfl rfl rfl ?_
  obtain ⟨r2, N1, he3, h⟩ := h
  refine e_r_callV (a := 64) (av := [.inr (.inr q0), .inl ((e_up M 64 39 0) 64 36), .inl p2]) (st := [.inr (.inr 64)]) mqYX11_puts ml_RX11_378 cl_11 rfl (Nat.le_of_ble_eq_true rfl) (by simp [e_cat]) rfl rfl rfl dX11_putsAll_13 (pc' := 16) rfl he3 ⟨Nat.le_refl _, Nat.le_refl _⟩ hmo ?_
  refine e_r_puti (k := 36) (pc' := 19) cl_11 rfl (Nat.le_of_ble_eq_true rfl) rfl rfl fl_RX11_196 rfl (by decide +kernel) dX11_putsAll_16 rfl ?_
  refine e_r_iconst (pc' := 20) dX11_putsAll_19 rfl (by decide) ?_
  refine e_r_istore_n (pc' := 21) (loc' := [some (.inr (.inr 64)), some (.inr (.inr q0)), some (.inl p2), some (.inl 0), none]) dX11_putsAll_20 rfl rfl rfl rfl rfl ?_
  exact h
theorem wp_X11_putsAll_21 {X : e_X} {d gn : Nat} {o : e_O} {q0 : Nat} (hq0 : e_SH q0 = (20, 953)) (kq0 : q0 ≤ 557) (zq0 : q0 ≠ 0) (M : e_M) (p2 v3 : Int) (hmo : e_mn (557, gn, e_RF, M) o.2) (h : ((56 ≤ v3 → e_G X (d + 1) YX11_putsAll 53 [some (.inr (.inr 64)), some (.inr (.inr q0)), some (.inl p2), some (.inl 0), none] [] (557, gn, e_RF, M) o) ∧ (¬ (56 ≤ v3) → ((0 ≤ v3 ∧ v3 < 56) ∧ (∃ (r5 : Int) (N4 : e_M), e_E X d YX11_puts [.inr (.inr 64), .inr (.inr q0), .inl (M 532 v3.toNat), .inl p2] (557, gn, e_RF, M) (.inl (some (.inl r5)), (557, gn, e_RF, N4)) ∧ ((0 ≤ v3 ∧ v3 < 56) ∧ e_G X (d + 1) YX11_putsAll 21 [some (.inr (.inr 64)), some (.inr (.inr q0)), some (.inl p2), some (.inl (e_w (v3 + 1))), none] [] (557, gn, e_RF, (e_up N4 532 v3.toNat r5)) o)))))) : e_G X (d + 1) YX11_putsAll 21 [some (.inr (.inr 64)), some (.inr (.inr q0)), some (.inl p2), some (.inl v3), none] [] (557, gn, e_RF, M) o := by
  refine e_r_iload_n (pc' := 22) dX11_putsAll_21 rfl rfl rfl ?_
  refine e_r_bipush (pc' := 24) dX11_putsAll_22 rfl (by decide) ?_
  obtain ⟨ht1, hf2⟩ := h
  refine e_r_icmp_ge (tgt := 51) (pc' := 27) dX11_putsAll_24 rfl rfl (fun c => ?_) (fun c => ?_)
  · have h := ht1 c
    refine e_r_iconst (pc' := 52) dX11_putsAll_51 rfl (by decide) ?_
    refine e_r_istore_n (pc' := 53) (loc' := [some (.inr (.inr 64)), some (.inr (.inr q0)), some (.inl p2), some (.inl 0), none]) dX11_putsAll_52 rfl rfl rfl rfl rfl ?_
    exact h
  · have h := hf2 c
    refine e_r_aload_n (pc' := 28) (by decide) dX11_putsAll_27 rfl rfl rfl ?_
    refine e_r_getr (k := 31) (q := 532) (pc' := 31) cl_11 rfl (Nat.le_of_ble_eq_true rfl) rfl rfl fl_RX11_73 rfl (Nat.le_of_ble_eq_true rfl) dX11_putsAll_28 rfl ?_
    refine e_r_iload_n (pc' := 32) dX11_putsAll_31 rfl rfl rfl ?_
    refine e_r_aload_n (pc' := 33) (by decide) dX11_putsAll_32 rfl rfl rfl ?_
    refine e_r_aload_n (pc' := 34) zq0 dX11_putsAll_33 rfl rfl rfl ?_
    refine e_r_aload_n (pc' := 35) (by decide) dX11_putsAll_34 rfl rfl rfl ?_
    refine e_r_getr (k := 31) (q := 532) (pc' := 38) cl_11 rfl (Nat.le_of_ble_eq_true rfl) rfl rfl fl_RX11_73 rfl (Nat.le_of_ble_eq_true rfl) dX11_putsAll_35 rfl ?_
    refine e_r_iload_n (pc' := 39) dX11_putsAll_38 rfl rfl rfl ?_
    obtain ⟨hb3, h⟩ := h
    refine e_r_iald (j9 := v3.toNat) (pc' := 40) rfl (Nat.le_of_ble_eq_true rfl) hb3.1 hb3.2 rfl dX11_putsAll_39 rfl ?_
    refine e_r_iload_n (pc' := 41) dX11_putsAll_40 rfl rfl rfl ?_
    obtain ⟨r5, N4, he6, h⟩ := h
    refine e_r_callV (a := 64) (av := [.inr (.inr q0), .inl (M 532 v3.toNat), .inl p2]) (st := [.inl v3, .inr (.inr 532)]) mqYX11_puts ml_RX11_378 cl_11 rfl (Nat.le_of_ble_eq_true rfl) (by simp [e_cat]) rfl rfl rfl dX11_putsAll_41 (pc' := 44) rfl he6 ⟨Nat.le_refl _, Nat.le_refl _⟩ hmo ?_
    obtain ⟨hb7, h⟩ := h
    refine e_r_iast (j9 := v3.toNat) (pc' := 45) rfl (Nat.le_of_ble_eq_true rfl) hb7.1 hb7.2 rfl dX11_putsAll_44 rfl ?_
    refine e_r_iinc (pc' := 48) (loc' := [some (.inr (.inr 64)), some (.inr (.inr q0)), some (.inl p2), some (.inl (e_w (v3 + 1))), none]) dX11_putsAll_45 rfl rfl rfl rfl rfl ?_
    refine e_r_goto (pc' := 21) dX11_putsAll_48 rfl ?_
    exact h
theorem wp_X11_putsAll_53 {X : e_X} {d gn : Nat} {o : e_O} {q0 : Nat} (hq0 : e_SH q0 = (20, 953)) (kq0 : q0 ≤ 557) (zq0 : q0 ≠ 0) (M : e_M) (p2 v3 : Int) (h : ((16 ≤ v3 → (o = (.inl none, (557, gn, e_RF, M)))) ∧ (¬ (16 ≤ v3) → e_G X (d + 1) YX11_putsAll 62 [some (.inr (.inr 64)), some (.inr (.inr q0)), some (.inl p2), some (.inl v3), some (.inl 0)] [] (557, gn, e_RF, M) o))) : e_G X (d + 1) YX11_putsAll 53 [some (.inr (.inr 64)), some (.inr (.inr q0)), some (.inl p2), some (.inl v3), none] [] (557, gn, e_RF, M) o := by
  refine e_r_iload_n (pc' := 54) dX11_putsAll_53 rfl rfl rfl ?_
  refine e_r_bipush (pc' := 56) dX11_putsAll_54 rfl (by decide) ?_
  obtain ⟨ht1, hf2⟩ := h
  refine e_r_icmp_ge (tgt := 105) (pc' := 59) dX11_putsAll_56 rfl rfl (fun c => ?_) (fun c => ?_)
  · have h := ht1 c
    exact e_r_vret rfl dX11_putsAll_105 h
  · have h := hf2 c
    refine e_r_iconst (pc' := 60) dX11_putsAll_59 rfl (by decide) ?_
    refine e_r_istore (pc' := 62) (loc' := [some (.inr (.inr 64)), some (.inr (.inr q0)), some (.inl p2), some (.inl v3), some (.inl 0)]) dX11_putsAll_60 rfl rfl rfl rfl ?_
    exact h
theorem wp_X11_putsAll_62 {X : e_X} {d gn : Nat} {o : e_O} {q0 : Nat} (hq0 : e_SH q0 = (20, 953)) (kq0 : q0 ≤ 557) (zq0 : q0 ≠ 0) (M : e_M) (p2 v3 v4 : Int) (hmo : e_mn (557, gn, e_RF, M) o.2) (h : ((56 ≤ v4 → e_G X (d + 1) YX11_putsAll 53 [some (.inr (.inr 64)), some (.inr (.inr q0)), some (.inl p2), some (.inl (e_w (v3 + 1))), none] [] (557, gn, e_RF, M) o) ∧ (¬ (56 ≤ v4) → ((0 ≤ v3 ∧ v3 < 16) ∧ ((0 ≤ v3 ∧ v3 < 16) ∧ ((0 ≤ v4 ∧ v4 < 56) ∧ (∃ (r7 : Int) (N6 : e_M), e_E X d YX11_puts [.inr (.inr 64), .inr (.inr q0), .inl (M (535 + v3.toNat) v4.toNat), .inl p2] (557, gn, e_RF, M) (.inl (some (.inl r7)), (557, gn, e_RF, N6)) ∧ ((0 ≤ v4 ∧ v4 < 56) ∧ e_G X (d + 1) YX11_putsAll 62 [some (.inr (.inr 64)), some (.inr (.inr q0)), some (.inl p2), some (.inl v3), some (.inl (e_w (v4 + 1)))] [] (557, gn, e_RF, (e_up N6 (535 + v3.toNat) v4.toNat r7)) o)))))))) : e_G X (d + 1) YX11_putsAll 62 [some (.inr (.inr 64)), some (.inr (.inr q0)), some (.inl p2), some (.inl v3), some (.inl v4)] [] (557, gn, e_RF, M) o := by
  refine e_r_iload (pc' := 64) dX11_putsAll_62 rfl rfl ?_
  refine e_r_bipush (pc' := 66) dX11_putsAll_64 rfl (by decide) ?_
  obtain ⟨ht1, hf2⟩ := h
  refine e_r_icmp_ge (tgt := 99) (pc' := 69) dX11_putsAll_66 rfl rfl (fun c => ?_) (fun c => ?_)
  · have h := ht1 c
    refine e_r_iinc (pc' := 102) (loc' := [some (.inr (.inr 64)), some (.inr (.inr q0)), some (.inl p2), some (.inl (e_w (v3 + 1))), some (.inl v4)]) dX11_putsAll_99 rfl rfl rfl rfl rfl ?_
    refine e_r_goto (pc' := 53) dX11_putsAll_102 rfl ?_
    exact e_forget (m := [true, true, true, true, false]) h rfl
  · have h := hf2 c
    refine e_r_aload_n (pc' := 70) (by decide) dX11_putsAll_69 rfl rfl rfl ?_
    refine e_r_getr (k := 33) (q := 534) (pc' := 73) cl_11 rfl (Nat.le_of_ble_eq_true rfl) rfl rfl fl_RX11_79 rfl (Nat.le_of_ble_eq_true rfl) dX11_putsAll_70 rfl ?_
    refine e_r_iload_n (pc' := 74) dX11_putsAll_73 rfl rfl rfl ?_
    obtain ⟨hb3, h⟩ := h
    refine e_r_aldr (q := (535 + v3.toNat)) (pc' := 75) rfl (Nat.le_of_ble_eq_true rfl) hb3.1 hb3.2 rfl (sh_534 hb3.1 hb3.2).2.1 dX11_putsAll_74 rfl ?_
    refine e_r_iload (pc' := 77) dX11_putsAll_75 rfl rfl ?_
    refine e_r_aload_n (pc' := 78) (by decide) dX11_putsAll_77 rfl rfl rfl ?_
    refine e_r_aload_n (pc' := 79) zq0 dX11_putsAll_78 rfl rfl rfl ?_
    refine e_r_aload_n (pc' := 80) (by decide) dX11_putsAll_79 rfl rfl rfl ?_
    refine e_r_getr (k := 33) (q := 534) (pc' := 83) cl_11 rfl (Nat.le_of_ble_eq_true rfl) rfl rfl fl_RX11_79 rfl (Nat.le_of_ble_eq_true rfl) dX11_putsAll_80 rfl ?_
    refine e_r_iload_n (pc' := 84) dX11_putsAll_83 rfl rfl rfl ?_
    obtain ⟨hb4, h⟩ := h
    refine e_r_aldr (q := (535 + v3.toNat)) (pc' := 85) rfl (Nat.le_of_ble_eq_true rfl) hb4.1 hb4.2 rfl (sh_534 hb4.1 hb4.2).2.1 dX11_putsAll_84 rfl ?_
    refine e_r_iload (pc' := 87) dX11_putsAll_85 rfl rfl ?_
    obtain ⟨hb5, h⟩ := h
    refine e_r_iald (j9 := v4.toNat) (pc' := 88) (sh_534 hb4.1 hb4.2).1 (sh_534 hb4.1 hb4.2).2.1 hb5.1 hb5.2 rfl dX11_putsAll_87 rfl ?_
    refine e_r_iload_n (pc' := 89) dX11_putsAll_88 rfl rfl rfl ?_
    obtain ⟨r7, N6, he8, h⟩ := h
    refine e_r_callV (a := 64) (av := [.inr (.inr q0), .inl (M (535 + v3.toNat) v4.toNat), .inl p2]) (st := [.inl v4, .inr (.inr (535 + v3.toNat))]) mqYX11_puts ml_RX11_378 cl_11 rfl (Nat.le_of_ble_eq_true rfl) (by simp [e_cat]) rfl rfl rfl dX11_putsAll_89 (pc' := 92) rfl he8 ⟨Nat.le_refl _, Nat.le_refl _⟩ hmo ?_
    obtain ⟨hb9, h⟩ := h
    refine e_r_iast (j9 := v4.toNat) (pc' := 93) (sh_534 hb3.1 hb3.2).1 (sh_534 hb3.1 hb3.2).2.1 hb9.1 hb9.2 rfl dX11_putsAll_92 rfl ?_
    refine e_r_iinc (pc' := 96) (loc' := [some (.inr (.inr 64)), some (.inr (.inr q0)), some (.inl p2), some (.inl v3), some (.inl (e_w (v4 + 1)))]) dX11_putsAll_93 rfl rfl rfl rfl rfl ?_
    refine e_r_goto (pc' := 62) dX11_putsAll_96 rfl ?_
    exact h
theorem wp_X11_image_0 {X : e_X} {d gn : Nat} {o : e_O} (M : e_M) (hmo : e_mn (557, gn, e_RF, M) o.2) (h : ((¬ ((e_up M 64 0 0) 64 38) = 3 → ((0 ≤ ((e_up M 64 0 0) 64 38) ∧ ((e_up M 64 0 0) 64 38) < 3) ∧ (∃ N4 : e_M, e_E X d YX11_putsAll [.inr (.inr 64), .inr (.inr (552 + ((e_up M 64 0 0) 64 38).toNat)), .inl 0] (557, gn, e_RF, (e_up M 64 0 0)) (.inl none, (557, gn, e_RF, N4)) ∧ (o = (.inl (some (.inl ((e_up N4 64 38 (e_w ((N4 64 38) + 1))) 64 38))), (557, gn, e_RF, (e_up N4 64 38 (e_w ((N4 64 38) + 1))))))))) ∧ (((e_up M 64 0 0) 64 38) = 3 → (o = (.inl (some (.inl (-1))), (557, gn, e_RF, (e_up M 64 0 0))))))) : e_G X (d + 1) YX11_image 0 [some (.inr (.inr 64))] [] (557, gn, e_RF, M) o := by
  refine e_r_aload_n (pc' := 1) (by decide) dX11_image_0 rfl rfl rfl ?_
  refine e_r_iconst (pc' := 2) dX11_image_1 rfl (by decide) ?_
  refine e_r_puti (k := 0) (pc' := 5) cl_11 rfl (Nat.le_of_ble_eq_true rfl) rfl rfl fl_RX11_97 rfl (by decide +kernel) dX11_image_2 rfl ?_
  refine e_r_aload_n (pc' := 6) (by decide) dX11_image_5 rfl rfl rfl ?_
  refine e_r_geti (k := 38) (pc' := 9) cl_11 rfl (Nat.le_of_ble_eq_true rfl) rfl rfl fl_RX11_202 dX11_image_6 rfl ?_
  refine e_r_iconst (pc' := 10) dX11_image_9 rfl (by decide) ?_
  obtain ⟨ht1, hf2⟩ := h
  refine e_r_icmp_ne (tgt := 15) (pc' := 13) dX11_image_10 rfl rfl (fun c => ?_) (fun c => ?_)
  · have h := ht1 c
    refine e_r_aload_n (pc' := 16) (by decide) dX11_image_15 rfl rfl rfl ?_
    refine e_r_aload_n (pc' := 17) (by decide) dX11_image_16 rfl rfl rfl ?_
    refine e_r_getr (k := 34) (q := 551) (pc' := 20) cl_11 rfl (Nat.le_of_ble_eq_true rfl) rfl rfl fl_RX11_82 rfl (Nat.le_of_ble_eq_true rfl) dX11_image_17 rfl ?_
    refine e_r_aload_n (pc' := 21) (by decide) dX11_image_20 rfl rfl rfl ?_
    refine e_r_geti (k := 38) (pc' := 24) cl_11 rfl (Nat.le_of_ble_eq_true rfl) rfl rfl fl_RX11_202 dX11_image_21 rfl ?_
    obtain ⟨hb3, h⟩ := h
    refine e_r_aldr (q := (552 + ((e_up M 64 0 0) 64 38).toNat)) (pc' := 25) rfl (Nat.le_of_ble_eq_true rfl) hb3.1 hb3.2 rfl (sh_551 hb3.1 hb3.2).2.1 dX11_image_24 rfl ?_
    refine e_r_iconst (pc' := 26) dX11_image_25 rfl (by decide) ?_
    obtain ⟨N4, he5, h⟩ := h
    refine e_r_callV (a := 64) (av := [.inr (.inr (552 + ((e_up M 64 0 0) 64 38).toNat)), .inl 0]) (st := []) mqYX11_putsAll ml_RX11_382 cl_11 rfl (Nat.le_of_ble_eq_true rfl) (by simp [e_cat]) rfl rfl rfl dX11_image_26 (pc' := 29) rfl he5 ⟨Nat.le_refl _, Nat.le_refl _⟩ hmo ?_
    refine e_r_aload_n (pc' := 30) (by decide) dX11_image_29 rfl rfl rfl ?_
    refine e_r_dup (pc' := 31) rfl dX11_image_30 rfl ?_
    refine e_r_geti (k := 38) (pc' := 34) cl_11 rfl (Nat.le_of_ble_eq_true rfl) rfl rfl fl_RX11_202 dX11_image_31 rfl ?_
    refine e_r_iconst (pc' := 35) dX11_image_34 rfl (by decide) ?_
    refine e_r_iadd (pc' := 36) dX11_image_35 rfl ?_
    refine e_r_puti (k := 38) (pc' := 39) cl_11 rfl (Nat.le_of_ble_eq_true rfl) rfl rfl fl_RX11_202 rfl (by decide +kernel) dX11_image_36 rfl ?_
    refine e_r_aload_n (pc' := 40) (by decide) dX11_image_39 rfl rfl rfl ?_
    refine e_r_geti (k := 38) (pc' := 43) cl_11 rfl (Nat.le_of_ble_eq_true rfl) rfl rfl fl_RX11_202 dX11_image_40 rfl ?_
    exact e_r_iret (ty := .int) rfl (e_nI _) dX11_image_43 h
  · have h := hf2 c
    refine e_r_iconst (pc' := 14) dX11_image_13 rfl (by decide) ?_
    exact e_r_iret (ty := .int) rfl (e_nI _) dX11_image_14 h
theorem wp_X11_restore_0 {X : e_X} {d gn : Nat} {o : e_O} (M : e_M) (hmo : e_mn (557, gn, e_RF, M) o.2) (h : ((¬ ((e_up M 64 0 0) 64 38) = 0 → ((0 ≤ ((e_up (e_up M 64 0 0) 64 38 (e_w (((e_up M 64 0 0) 64 38) - 1))) 64 38) ∧ ((e_up (e_up M 64 0 0) 64 38 (e_w (((e_up M 64 0 0) 64 38) - 1))) 64 38) < 3) ∧ (∃ N4 : e_M, e_E X d YX11_putsAll [.inr (.inr 64), .inr (.inr (552 + ((e_up (e_up M 64 0 0) 64 38 (e_w (((e_up M 64 0 0) 64 38) - 1))) 64 38).toNat)), .inl 1] (557, gn, e_RF, (e_up (e_up M 64 0 0) 64 38 (e_w (((e_up M 64 0 0) 64 38) - 1)))) (.inl none, (557, gn, e_RF, N4)) ∧ (o = (.inl (some (.inl ((e_up N4 64 37 0) 64 38))), (557, gn, e_RF, (e_up N4 64 37 0))))))) ∧ (((e_up M 64 0 0) 64 38) = 0 → (o = (.inl (some (.inl (-1))), (557, gn, e_RF, (e_up M 64 0 0))))))) : e_G X (d + 1) YX11_restore 0 [some (.inr (.inr 64))] [] (557, gn, e_RF, M) o := by
  refine e_r_aload_n (pc' := 1) (by decide) dX11_restore_0 rfl rfl rfl ?_
  refine e_r_iconst (pc' := 2) dX11_restore_1 rfl (by decide) ?_
  refine e_r_puti (k := 0) (pc' := 5) cl_11 rfl (Nat.le_of_ble_eq_true rfl) rfl rfl fl_RX11_97 rfl (by decide +kernel) dX11_restore_2 rfl ?_
  refine e_r_aload_n (pc' := 6) (by decide) dX11_restore_5 rfl rfl rfl ?_
  refine e_r_geti (k := 38) (pc' := 9) cl_11 rfl (Nat.le_of_ble_eq_true rfl) rfl rfl fl_RX11_202 dX11_restore_6 rfl ?_
  obtain ⟨ht1, hf2⟩ := h
  refine e_r_if_ne (tgt := 14) (pc' := 12) dX11_restore_9 rfl rfl (fun c => ?_) (fun c => ?_)
  · have h := ht1 c
    refine e_r_aload_n (pc' := 15) (by decide) dX11_restore_14 rfl rfl rfl ?_
    refine e_r_dup (pc' := 16) rfl dX11_restore_15 rfl ?_
    refine e_r_geti (k := 38) (pc' := 19) cl_11 rfl (Nat.le_of_ble_eq_true rfl) rfl rfl fl_RX11_202 dX11_restore_16 rfl ?_
    refine e_r_iconst (pc' := 20) dX11_restore_19 rfl (by decide) ?_
    refine e_r_isub (pc' := 21) dX11_restore_20 rfl ?_
    refine e_r_puti (k := 38) (pc' := 24) cl_11 rfl (Nat.le_of_ble_eq_true rfl) rfl rfl fl_RX11_202 rfl (by decide +kernel) dX11_restore_21 rfl ?_
    refine e_r_aload_n (pc' := 25) (by decide) dX11_restore_24 rfl rfl rfl ?_
    refine e_r_aload_n (pc' := 26) (by decide) dX11_restore_25 rfl rfl rfl ?_
    refine e_r_getr (k := 34) (q := 551) (pc' := 29) cl_11 rfl (Nat.le_of_ble_eq_true rfl) rfl rfl fl_RX11_82 rfl (Nat.le_of_ble_eq_true rfl) dX11_restore_26 rfl ?_
    refine e_r_aload_n (pc' := 30) (by decide) dX11_restore_29 rfl rfl rfl ?_
    refine e_r_geti (k := 38) (pc' := 33) cl_11 rfl (Nat.le_of_ble_eq_true rfl) rfl rfl fl_RX11_202 dX11_restore_30 rfl ?_
    obtain ⟨hb3, h⟩ := h
    refine e_r_aldr (q := (552 + ((e_up (e_up M 64 0 0) 64 38 (e_w (((e_up M 64 0 0) 64 38) - 1))) 64 38).toNat)) (pc' := 34) rfl (Nat.le_of_ble_eq_true rfl) hb3.1 hb3.2 rfl (sh_551 hb3.1 hb3.2).2.1 dX11_restore_33 rfl ?_
    refine e_r_iconst (pc' := 35) dX11_restore_34 rfl (by decide) ?_
    obtain ⟨N4, he5, h⟩ := h
    refine e_r_callV (a := 64) (av := [.inr (.inr (552 + ((e_up (e_up M 64 0 0) 64 38 (e_w (((e_up M 64 0 0) 64 38) - 1))) 64 38).toNat)), .inl 1]) (st := []) mqYX11_putsAll ml_RX11_382 cl_11 rfl (Nat.le_of_ble_eq_true rfl) (by simp [e_cat]) rfl rfl rfl dX11_restore_35 (pc' := 38) rfl he5 ⟨Nat.le_refl _, Nat.le_refl _⟩ hmo ?_
    refine e_r_aload_n (pc' := 39) (by decide) dX11_restore_38 rfl rfl rfl ?_
    refine e_r_iconst (pc' := 40) dX11_restore_39 rfl (by decide) ?_
    refine e_r_puti (k := 37) (pc' := 43) cl_11 rfl (Nat.le_of_ble_eq_true rfl) rfl rfl fl_RX11_199 rfl (by decide +kernel) dX11_restore_40 rfl ?_
    refine e_r_aload_n (pc' := 44) (by decide) dX11_restore_43 rfl rfl rfl ?_
    refine e_r_geti (k := 38) (pc' := 47) cl_11 rfl (Nat.le_of_ble_eq_true rfl) rfl rfl fl_RX11_202 dX11_restore_44 rfl ?_
    exact e_r_iret (ty := .int) rfl (e_nI _) dX11_restore_47 h
  · have h := hf2 c
    refine e_r_iconst (pc' := 13) dX11_restore_12 rfl (by decide) ?_
    exact e_r_iret (ty := .int) rfl (e_nI _) dX11_restore_13 h
theorem wp_X11_status_0 {X : e_X} {d gn : Nat} {o : e_O} (M : e_M) (p1 : Int) (hmo : e_mn (557, gn, e_RF, M) o.2) (h : (∃ (r2 : Int) (N1 : e_M), e_E X d YX11_in [.inl p1, .inl 0, .inl 1] (557, gn, e_RF, (e_up M 64 0 0)) (.inl (some (.inl r2)), (557, gn, e_RF, N1)) ∧ ((r2 = 0 → (o = (.inl (some (.inl (-1))), (557, gn, e_RF, N1)))) ∧ (¬ (r2 = 0) → ((0 ≤ p1 ∧ p1 < 2) ∧ (o = (.inl (some (.inl (N1 66 p1.toNat))), (557, gn, e_RF, N1)))))))) : e_G X (d + 1) YX11_status 0 [some (.inr (.inr 64)), some (.inl p1)] [] (557, gn, e_RF, M) o := by
  refine e_r_aload_n (pc' := 1) (by decide) dX11_status_0 rfl rfl rfl ?_
  refine e_r_iconst (pc' := 2) dX11_status_1 rfl (by decide) ?_
  refine e_r_puti (k := 0) (pc' := 5) cl_11 rfl (Nat.le_of_ble_eq_true rfl) rfl rfl fl_RX11_97 rfl (by decide +kernel) dX11_status_2 rfl ?_
  refine e_r_iload_n (pc' := 6) dX11_status_5 rfl rfl rfl ?_
  refine e_r_iconst (pc' := 7) dX11_status_6 rfl (by decide) ?_
  refine e_r_iconst (pc' := 8) dX11_status_7 rfl (by decide) ?_
  obtain ⟨r2, N1, he3, h⟩ := h
  refine e_r_callS (av := [.inl p1, .inl 0, .inl 1]) (st := []) mqYX11_in ml_RX11_131 (by simp [e_cat]) rfl rfl rfl dX11_status_8 (pc' := 11) rfl he3 ⟨Nat.le_refl _, Nat.le_refl _⟩ hmo ?_
  obtain ⟨ht4, hf5⟩ := h
  refine e_r_if_eq (tgt := 23) (pc' := 14) dX11_status_11 rfl rfl (fun c => ?_) (fun c => ?_)
  · have h := ht4 c
    refine e_r_iconst (pc' := 24) dX11_status_23 rfl (by decide) ?_
    exact e_r_iret (ty := .int) rfl (e_nI _) dX11_status_24 h
  · have h := hf5 c
    refine e_r_aload_n (pc' := 15) (by decide) dX11_status_14 rfl rfl rfl ?_
    refine e_r_getr (k := 10) (q := 66) (pc' := 18) cl_11 rfl (Nat.le_of_ble_eq_true rfl) rfl rfl fl_RX11_17 rfl (Nat.le_of_ble_eq_true rfl) dX11_status_15 rfl ?_
    refine e_r_iload_n (pc' := 19) dX11_status_18 rfl rfl rfl ?_
    obtain ⟨hb6, h⟩ := h
    refine e_r_iald (j9 := p1.toNat) (pc' := 20) rfl (Nat.le_of_ble_eq_true rfl) hb6.1 hb6.2 rfl dX11_status_19 rfl ?_
    refine e_r_goto (pc' := 24) dX11_status_20 rfl ?_
    exact e_r_iret (ty := .int) rfl (e_nI _) dX11_status_24 h
theorem wp_X11_count_0 {X : e_X} {d gn : Nat} {o : e_O} (M : e_M) (p1 : Int) (h : ((¬ p1 = 0 → ((¬ p1 = 1 → ((¬ p1 = 2 → (o = (.inl (some (.inl (-1))), (557, gn, e_RF, (e_up M 64 0 0))))) ∧ (p1 = 2 → (o = (.inl (some (.inl ((e_up M 64 0 0) 64 36))), (557, gn, e_RF, (e_up M 64 0 0))))))) ∧ (p1 = 1 → (o = (.inl (some (.inl ((e_up M 64 0 0) 64 1))), (557, gn, e_RF, (e_up M 64 0 0))))))) ∧ (p1 = 0 → (o = (.inl (some (.inl ((e_up M 64 0 0) 64 38))), (557, gn, e_RF, (e_up M 64 0 0))))))) : e_G X d YX11_count 0 [some (.inr (.inr 64)), some (.inl p1)] [] (557, gn, e_RF, M) o := by
  refine e_r_aload_n (pc' := 1) (by decide) dX11_count_0 rfl rfl rfl ?_
  refine e_r_iconst (pc' := 2) dX11_count_1 rfl (by decide) ?_
  refine e_r_puti (k := 0) (pc' := 5) cl_11 rfl (Nat.le_of_ble_eq_true rfl) rfl rfl fl_RX11_97 rfl (by decide +kernel) dX11_count_2 rfl ?_
  refine e_r_iload_n (pc' := 6) dX11_count_5 rfl rfl rfl ?_
  obtain ⟨ht1, hf2⟩ := h
  refine e_r_if_ne (tgt := 16) (pc' := 9) dX11_count_6 rfl rfl (fun c => ?_) (fun c => ?_)
  · have h := ht1 c
    refine e_r_iload_n (pc' := 17) dX11_count_16 rfl rfl rfl ?_
    refine e_r_iconst (pc' := 18) dX11_count_17 rfl (by decide) ?_
    obtain ⟨ht3, hf4⟩ := h
    refine e_r_icmp_ne (tgt := 28) (pc' := 21) dX11_count_18 rfl rfl (fun c => ?_) (fun c => ?_)
    · have h := ht3 c
      refine e_r_iload_n (pc' := 29) dX11_count_28 rfl rfl rfl ?_
      refine e_r_iconst (pc' := 30) dX11_count_29 rfl (by decide) ?_
      obtain ⟨ht5, hf6⟩ := h
      refine e_r_icmp_ne (tgt := 40) (pc' := 33) dX11_count_30 rfl rfl (fun c => ?_) (fun c => ?_)
      · have h := ht5 c
        refine e_r_iconst (pc' := 41) dX11_count_40 rfl (by decide) ?_
        exact e_r_iret (ty := .int) rfl (e_nI _) dX11_count_41 h
      · have h := hf6 c
        refine e_r_aload_n (pc' := 34) (by decide) dX11_count_33 rfl rfl rfl ?_
        refine e_r_geti (k := 36) (pc' := 37) cl_11 rfl (Nat.le_of_ble_eq_true rfl) rfl rfl fl_RX11_196 dX11_count_34 rfl ?_
        refine e_r_goto (pc' := 41) dX11_count_37 rfl ?_
        exact e_r_iret (ty := .int) rfl (e_nI _) dX11_count_41 h
    · have h := hf4 c
      refine e_r_aload_n (pc' := 22) (by decide) dX11_count_21 rfl rfl rfl ?_
      refine e_r_geti (k := 1) (pc' := 25) cl_11 rfl (Nat.le_of_ble_eq_true rfl) rfl rfl fl_RX11_100 dX11_count_22 rfl ?_
      refine e_r_goto (pc' := 41) dX11_count_25 rfl ?_
      exact e_r_iret (ty := .int) rfl (e_nI _) dX11_count_41 h
  · have h := hf2 c
    refine e_r_aload_n (pc' := 10) (by decide) dX11_count_9 rfl rfl rfl ?_
    refine e_r_geti (k := 38) (pc' := 13) cl_11 rfl (Nat.le_of_ble_eq_true rfl) rfl rfl fl_RX11_202 dX11_count_10 rfl ?_
    refine e_r_goto (pc' := 41) dX11_count_13 rfl ?_
    exact e_r_iret (ty := .int) rfl (e_nI _) dX11_count_41 h
